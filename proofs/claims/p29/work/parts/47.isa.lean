
set_option maxHeartbeats 4000000 in
set_option maxRecDepth 100000 in
theorem c_X11_mixedM (l : Launch) (D : JD) (q : Nat → Nat) (u : CS) (A : Nat → Prop) (hD : va_D A (cW D q u)) (s : Int) (s2 : Int) (p0 : CI u) (p1 : -2147483648 ≤ s ∧ s ≤ 2147483647) (p2 : -2147483648 ≤ s2 ∧ s2 ≤ 2147483647) : Met l yX11_mixed (jw yX11_mixed cX11_mixed 5 (some .int)) (jr 5 115) (jP [.ref (q 0), .int (J s), .int (J s2)] D (fun H => va_P D.1 j_cl (cW D q u) H)) (jWi (fun z u' => CI u' ∧ (mxC u s s2 z ∧ wRg z) ∧ cSame u u') (fun u' H => va_P D.1 j_cl (cW D q u') H) A) 0 0 A := by
  refine Met.ofW (cc := cX11_mixed) (maxL := 5) (ret := (some .int)) (by decide) rfl ?_
  intro pr en st mi args below meth co s₁ B hml hv
  obtain ⟨rfl, hG, hP⟩ := hv
  have hr := B.returns
  have hlk := B.notSynchronized
  have SS : jS pr mi co cX11_mixed 5 st _ RX11 := ⟨B.exec, B.bytes, hml, findClass_of_methodNamed B.named, fun w hw => atoms_spec (ws := (jw yX11_mixed cX11_mixed 5 (some .int))) B.pre w (List.mem_cons_of_mem _ hw)⟩
  have hl := lv_entry ([.ref (q 0), .int (J s), .int (J s2)]) (n := 5) (Nat.le_of_ble_eq_true rfl)
  rw [lg_entry_eq]
  generalize (lg_sl ([.ref (q 0), .int (J s), .int (J s2)]) ++ List.replicate (5 - (lg_sl ([.ref (q 0), .int (J s), .int (J s2)])).length) Slot.unset).toArray = ls at hl ⊢
  have hl : lv_has ls 5 [(0, .ref (q 0)), (1, .int (J s)), (2, .int (J s2))] := hl
  have hS : va_S A st.heap st.heap [] := va_S.rf
  refine lv_aload_n SS.1 SS.2.1 dX11_mixed_0 rfl (lv_at hl 0 rfl) ?_
  refine lv_iload_n SS.1 SS.2.1 dX11_mixed_1 rfl (lv_at hl 1 rfl) ?_
  refine j_vSh SS (As := [.int (J s)]) (rest := []) (c_X11_shapeAt l D q u  s (show -2147483648 ≤ s ∧ s ≤ 2147483647 from (p1))) mf_X11_shapeAt kw_414 hG hP hP (ci := 11) (q0 := 0) rfl rfl rfl rfl hl.1 ⟨⟨Nat.le_of_ble_eq_true rfl, Nat.le_of_ble_eq_true rfl⟩, Nat.le_of_ble_eq_true rfl, Nat.le_refl _, Nat.le_refl _⟩ rfl dX11_mixed_2 (fun i_2 hi_2 hz_2 => ?_) (fun hn_2 => ?_)
  · skip
    have hI2 := CI_s p0 (show i_2 < 8 by omega)
    have hI2c := hI2.1
    have hrl2 := rl_s (show i_2 < 8 by omega)
    refine lv_astore_n (lv' := [(3, .ref (q (8 + 5 * i_2))), (0, .ref (q 0)), (1, .int (J s)), (2, .int (J s2))]) SS.1 SS.2.1 dX11_mixed_5 rfl hl (by decide) rfl (fun ls hl => ?_)
    refine lv_aload_n SS.1 SS.2.1 dX11_mixed_6 rfl (lv_at hl 1 rfl) ?_
    refine lv_iload_n SS.1 SS.2.1 dX11_mixed_7 rfl (lv_at hl 3 rfl) ?_
    refine j_vSh SS (As := [.int (J s2)]) (rest := []) (c_X11_shapeAt l D q u  s2 (show -2147483648 ≤ s2 ∧ s2 ≤ 2147483647 from (p2))) mf_X11_shapeAt kw_414 hG hP hP (ci := 11) (q0 := 0) rfl rfl rfl rfl hl.1 ⟨⟨Nat.le_of_ble_eq_true rfl, Nat.le_of_ble_eq_true rfl⟩, Nat.le_of_ble_eq_true rfl, Nat.le_refl _, Nat.le_refl _⟩ rfl dX11_mixed_8 (fun i_8 hi_8 hz_8 => ?_) (fun hn_8 => ?_)
    · skip
      have hI8c := (CI_s p0 (show i_8 < 8 by omega)).1
      have hrl8 := rl_s (show i_8 < 8 by omega)
      refine lv_astore (lv' := [(4, .ref (q (8 + 5 * i_8))), (3, .ref (q (8 + 5 * i_2))), (0, .ref (q 0)), (1, .int (J s)), (2, .int (J s2))]) SS.1 SS.2.1 dX11_mixed_11 hl (by decide) rfl (fun ls hl => ?_)
      refine lv_aload_n SS.1 SS.2.1 dX11_mixed_13 rfl (lv_at hl 1 rfl) ?_
      refine lv_ifnull SS.1 SS.2.1 dX11_mixed_14 ?_
      refine lv_aload SS.1 SS.2.1 dX11_mixed_17 (lv_at hl 0 rfl) ?_
      refine lv_ifnonnull SS.1 SS.2.1 (tgt := 24) dX11_mixed_19 (by decide) ?_
      refine lv_aload_n SS.1 SS.2.1 dX11_mixed_24 rfl (lv_at hl 1 rfl) ?_
      refine j_get SS hG hP (8 + 5 * i_2) (v := .ref (q (9 + 5 * i_2))) (C := RX10) (T := TX10) (N := 3) (cw_shape (by omega)) rfl inX10 0 (by decide) (ref := "GridPolygons$Shape") kw_151 rfl rfl dX11_mixed_25 ?_
      refine j_getS SS hG hP (9 + 5 * i_2) (v := .int (J (u.1.2.2.1 i_2))) (C := RX7) (T := TX7) (N := 3) (cw_ring (by omega)) rfl inX7 2 (by decide) (ref := "GridPolygons$Ring") kw_135 kw_132 rfl dX11_mixed_28 ?_
      refine j_if_eq SS (tgt := 45) (x := (u.1.2.2.1 i_2)) dX11_mixed_31 (by decide) (by omega) (fun c_31 => ?_) (fun c_31 => ?_)
      · skip
        refine j_iconst SS dX11_mixed_45 ?_
        exact W.iret SS.1 SS.2.1 hr (fun t0 ht hW => ⟨⟨_, u, rfl, ⟨0, rfl, (⟨p0, ⟨Or.inr ⟨by omega, Or.inl ⟨by first | exact Or.inl (by rw [show s.toNat = i_2 by omega]; omega) | exact Or.inr (by rw [show s2.toNat = i_8 by omega]; omega), rfl⟩⟩, by unfold wRg; omega⟩, cs_refl⟩)⟩, by show va_P D.1 j_cl (cW D q u) t0.heap; rw [ht]; first | exact hP | (simp only [sC_id, sX_id, sY_id, sH_id, sT_id, sV_id]; exact hP)⟩, hS.F ht⟩) hS.2.2 dX11_mixed_46 hlk
      · skip
        refine lv_aload SS.1 SS.2.1 dX11_mixed_34 (lv_at hl 0 rfl) ?_
        refine j_get SS hG hP (8 + 5 * i_8) (v := .ref (q (9 + 5 * i_8))) (C := RX10) (T := TX10) (N := 3) (cw_shape (by omega)) rfl inX10 0 (by decide) (ref := "GridPolygons$Shape") kw_151 rfl rfl dX11_mixed_36 ?_
        refine j_getS SS hG hP (9 + 5 * i_8) (v := .int (J (u.1.2.2.1 i_8))) (C := RX7) (T := TX7) (N := 3) (cw_ring (by omega)) rfl inX7 2 (by decide) (ref := "GridPolygons$Ring") kw_135 kw_132 rfl dX11_mixed_39 ?_
        refine j_if_ne SS (tgt := 47) (x := (u.1.2.2.1 i_8)) dX11_mixed_42 (by decide) (by omega) (fun c_42 => ?_) (fun c_42 => ?_)
        · skip
          refine lv_aload_n SS.1 SS.2.1 dX11_mixed_47 rfl (lv_at hl 2 rfl) ?_
          refine j_get SS hG hP 0 (v := .ref (q 2)) (C := RX11) (T := TX11) (N := 8) rfl rfl inX11 1 (by decide) (ref := "GridPolygons") kw_386 rfl rfl dX11_mixed_48 ?_
          refine lv_aload_n SS.1 SS.2.1 dX11_mixed_51 rfl (lv_at hl 1 rfl) ?_
          refine j_get SS hG hP (8 + 5 * i_2) (v := .ref (q (9 + 5 * i_2))) (C := RX10) (T := TX10) (N := 3) (cw_shape (by omega)) rfl inX10 0 (by decide) (ref := "GridPolygons$Shape") kw_151 rfl rfl dX11_mixed_52 ?_
          refine lv_aload SS.1 SS.2.1 dX11_mixed_55 (lv_at hl 0 rfl) ?_
          refine j_get SS hG hP (8 + 5 * i_8) (v := .ref (q (9 + 5 * i_8))) (C := RX10) (T := TX10) (N := 3) (cw_shape (by omega)) rfl inX10 0 (by decide) (ref := "GridPolygons$Shape") kw_151 rfl rfl dX11_mixed_57 ?_
          refine j_vWv SS (As := [.ref (q (9 + 5 * i_2)), .ref (q (9 + 5 * i_8))]) (rest := []) (c_X3_closeSum2 l D q u A (cW_D hD) i_2 (by omega) i_8 (by omega)  (show HU_ ((u.2.1 0)) ((u.2.1 1)) from (p0.2.2.1)) (show RB 40 u i_2 from (CI_40 p0 (by omega))) (show RB 40 u i_8 from (CI_40 p0 (by omega))) (show RB 80 u 8 from (p0.2.1.1))) mf_X3_closeSum kw_686 hG hP hP (ci := 3) (q0 := 2) rfl rfl rfl hS (fun _ h => h) rfl hl.1 ⟨⟨Nat.le_of_ble_eq_true rfl, Nat.le_of_ble_eq_true rfl⟩, Nat.le_of_ble_eq_true rfl, Nat.le_refl _, Nat.le_refl _⟩ rfl dX11_mixed_60 (fun u60 H locs h_60 hP _ hS => ?_)
          obtain ⟨f_60, g_60, f8_60, g8_60, n8_60, rfl, h_60⟩ := h_60
          have hP : va_P D.1 j_cl (cW D q (sY (sX (sI (sI (sC u 8 n8_60) 0 f_60) 1 g_60) 8 f8_60) 8 g8_60)) H := hP
          have h_60 : HU_ f_60 g_60 ∧ (0 ≤ n8_60 ∧ n8_60 ≤ 323) ∧ RV 80 f8_60 g8_60 ∧ HS (SM (RP u i_2) (RP u i_8)) n8_60 f8_60 g8_60 := h_60
          have hCI := CI_8 (CI_h p0 h_60.1) h_60.2.1 h_60.2.2.1
          refine lv_aload_n SS.1 SS.2.1 dX11_mixed_63 rfl (lv_at hl 2 rfl) ?_
          refine j_get SS hG hP 0 (v := .ref (q 2)) (C := RX11) (T := TX11) (N := 8) rfl rfl inX11 1 (by decide) (ref := "GridPolygons") kw_386 rfl rfl dX11_mixed_64 ?_
          refine j_get SS hG hP 2 (v := .ref (q (9 + 5 * 8))) (C := RX3) (T := TX3) (N := 3) rfl rfl inX3 2 (by decide) (ref := "GridPolygons$Hull") kw_180 rfl rfl dX11_mixed_67 ?_
          refine j_vRi SS (As := []) (rest := []) (c_X7_area l D q (sY (sX (sI (sI (sC u 8 n8_60) 0 f_60) 1 g_60) 8 f8_60) 8 g8_60) 8 (by omega) (80 : Int)  (show 0 ≤ (80 : Int) ∧ (80 : Int) ≤ 80 from (by omega)) (show RB (80 : Int) (sY (sX (sI (sI (sC u 8 n8_60) 0 f_60) 1 g_60) 8 f8_60) 8 g8_60) 8 from (hCI.2.1.1))) mf_X7_area kw_517 hG hP hP (ci := 7) (q0 := (9 + 5 * 8)) rfl (cw_ring (by omega)) rfl rfl hl.1 ⟨⟨Nat.le_of_ble_eq_true rfl, Nat.le_of_ble_eq_true rfl⟩, Nat.le_of_ble_eq_true rfl, Nat.le_refl _, Nat.le_refl _⟩ rfl dX11_mixed_70 (fun z_70 h_70 => ?_)
          have h_70 : z_70 = rA (sY (sX (sI (sI (sC u 8 n8_60) 0 f_60) 1 g_60) 8 f8_60) 8 g8_60) 8 ∧ -10000000 ≤ z_70 ∧ z_70 ≤ 10000000 := h_70
          refine lv_aload_n SS.1 SS.2.1 dX11_mixed_73 rfl (lv_at hl 1 rfl) ?_
          refine j_get SS hG hP (8 + 5 * i_2) (v := .ref (q (9 + 5 * i_2))) (C := RX10) (T := TX10) (N := 3) (cw_shape (by omega)) rfl inX10 0 (by decide) (ref := "GridPolygons$Shape") kw_151 rfl rfl dX11_mixed_74 ?_
          refine j_vRi SS (As := []) (rest := [.int (J z_70)]) (c_X7_area l D q (sY (sX (sI (sI (sC u 8 n8_60) 0 f_60) 1 g_60) 8 f8_60) 8 g8_60) i_2 (by omega) (80 : Int)  (show 0 ≤ (80 : Int) ∧ (80 : Int) ≤ 80 from (by omega)) (show RB (80 : Int) (sY (sX (sI (sI (sC u 8 n8_60) 0 f_60) 1 g_60) 8 f8_60) 8 g8_60) i_2 from (by first | exact CI_s p0 (by omega) | exact CI_s hCI (by omega)))) mf_X7_area kw_517 hG hP hP (ci := 7) (q0 := (9 + 5 * i_2)) rfl (cw_ring (by omega)) rfl rfl hl.1 ⟨⟨Nat.le_of_ble_eq_true rfl, Nat.le_of_ble_eq_true rfl⟩, Nat.le_of_ble_eq_true rfl, Nat.le_refl _, Nat.le_refl _⟩ rfl dX11_mixed_77 (fun z_77 h_77 => ?_)
          have h_77 : z_77 = rA (sY (sX (sI (sI (sC u 8 n8_60) 0 f_60) 1 g_60) 8 f8_60) 8 g8_60) i_2 ∧ -10000000 ≤ z_77 ∧ z_77 ≤ 10000000 := h_77
          refine j_isub SS (x := z_70) (y := z_77) dX11_mixed_80 ?_
          refine lv_aload SS.1 SS.2.1 dX11_mixed_81 (lv_at hl 0 rfl) ?_
          refine j_get SS hG hP (8 + 5 * i_8) (v := .ref (q (9 + 5 * i_8))) (C := RX10) (T := TX10) (N := 3) (cw_shape (by omega)) rfl inX10 0 (by decide) (ref := "GridPolygons$Shape") kw_151 rfl rfl dX11_mixed_83 ?_
          refine j_vRi SS (As := []) (rest := [.int (J (z_70 - z_77))]) (c_X7_area l D q (sY (sX (sI (sI (sC u 8 n8_60) 0 f_60) 1 g_60) 8 f8_60) 8 g8_60) i_8 (by omega) (80 : Int)  (show 0 ≤ (80 : Int) ∧ (80 : Int) ≤ 80 from (by omega)) (show RB (80 : Int) (sY (sX (sI (sI (sC u 8 n8_60) 0 f_60) 1 g_60) 8 f8_60) 8 g8_60) i_8 from (by first | exact CI_s p0 (by omega) | exact CI_s hCI (by omega)))) mf_X7_area kw_517 hG hP hP (ci := 7) (q0 := (9 + 5 * i_8)) rfl (cw_ring (by omega)) rfl rfl hl.1 ⟨⟨Nat.le_of_ble_eq_true rfl, Nat.le_of_ble_eq_true rfl⟩, Nat.le_of_ble_eq_true rfl, Nat.le_refl _, Nat.le_refl _⟩ rfl dX11_mixed_86 (fun z_86 h_86 => ?_)
          have h_86 : z_86 = rA (sY (sX (sI (sI (sC u 8 n8_60) 0 f_60) 1 g_60) 8 f8_60) 8 g8_60) i_8 ∧ -10000000 ≤ z_86 ∧ z_86 ≤ 10000000 := h_86
          refine j_isub SS (x := (z_70 - z_77)) (y := z_86) dX11_mixed_89 ?_
          exact W.iret SS.1 SS.2.1 hr (fun t0 ht hW => ⟨⟨_, (sY (sX (sI (sI (sC u 8 n8_60) 0 f_60) 1 g_60) 8 f8_60) 8 g8_60), rfl, ⟨((z_70 - z_77) - z_86), rfl, (⟨hCI, ⟨Or.inr ⟨by omega, Or.inr ⟨by rw [show s.toNat = i_2 by omega, show s2.toNat = i_8 by omega]; omega, by rw [show s.toNat = i_2 by omega, show s2.toNat = i_8 by omega]; have e1 : z_70 = hAr n8_60 f8_60 g8_60 := h_70.1.trans ((rA_h hCI.2.1.1).trans (hAr_c rfl (fun a _ => ⟨rfl, rfl⟩))); have e2 : z_77 = rA u i_2 := h_77.1.trans (rA_s (u := u) (by exact ⟨if_neg (by omega), if_neg (by omega), if_neg (by omega)⟩)); have e3 : z_86 = rA u i_8 := h_86.1.trans (rA_s (u := u) (by exact ⟨if_neg (by omega), if_neg (by omega), if_neg (by omega)⟩)); exact ⟨_, _, _, h_60.2.2.2, by rw [e1, e2, e3]⟩⟩⟩, by unfold wRg; omega⟩, (by first | exact cs_refl | exact (fun r hr => ⟨if_neg (by omega), if_neg (by omega), if_neg (by omega)⟩))⟩)⟩, by show va_P D.1 j_cl (cW D q (sY (sX (sI (sI (sC u 8 n8_60) 0 f_60) 1 g_60) 8 f8_60) 8 g8_60)) t0.heap; rw [ht]; first | exact hP | (simp only [sC_id, sX_id, sY_id, sH_id, sT_id, sV_id]; exact hP)⟩, hS.F ht⟩) hS.2.2 dX11_mixed_90 hlk
        · skip
          refine j_iconst SS dX11_mixed_45 ?_
          exact W.iret SS.1 SS.2.1 hr (fun t0 ht hW => ⟨⟨_, u, rfl, ⟨0, rfl, (⟨p0, ⟨Or.inr ⟨by omega, Or.inl ⟨by first | exact Or.inl (by rw [show s.toNat = i_2 by omega]; omega) | exact Or.inr (by rw [show s2.toNat = i_8 by omega]; omega), rfl⟩⟩, by unfold wRg; omega⟩, cs_refl⟩)⟩, by show va_P D.1 j_cl (cW D q u) t0.heap; rw [ht]; first | exact hP | (simp only [sC_id, sX_id, sY_id, sH_id, sT_id, sV_id]; exact hP)⟩, hS.F ht⟩) hS.2.2 dX11_mixed_46 hlk
    · skip
      refine lv_astoreN (lv' := [(4, .null), (3, .ref (q (8 + 5 * i_2))), (0, .ref (q 0)), (1, .int (J s)), (2, .int (J s2))]) SS.1 SS.2.1 dX11_mixed_11 hl (by decide) rfl (fun ls hl => ?_)
      refine lv_aload_n SS.1 SS.2.1 dX11_mixed_13 rfl (lv_at hl 1 rfl) ?_
      refine lv_ifnull SS.1 SS.2.1 dX11_mixed_14 ?_
      refine lv_aloadN SS.1 SS.2.1 dX11_mixed_17 (lv_at hl 0 rfl) ?_
      refine lv_ifnonnullN SS.1 SS.2.1 dX11_mixed_19 ?_
      refine j_iconst SS dX11_mixed_22 ?_
      exact W.iret SS.1 SS.2.1 hr (fun t0 ht hW => ⟨⟨_, u, rfl, ⟨(-1), rfl, (⟨p0, ⟨Or.inl ⟨by omega, rfl⟩, by unfold wRg; omega⟩, cs_refl⟩)⟩, by show va_P D.1 j_cl (cW D q u) t0.heap; rw [ht]; first | exact hP | (simp only [sC_id, sX_id, sY_id, sH_id, sT_id, sV_id]; exact hP)⟩, hS.F ht⟩) hS.2.2 dX11_mixed_23 hlk
  · skip
    refine lv_astore_nN (lv' := [(3, .null), (0, .ref (q 0)), (1, .int (J s)), (2, .int (J s2))]) SS.1 SS.2.1 dX11_mixed_5 rfl hl (by decide) rfl (fun ls hl => ?_)
    refine lv_aload_n SS.1 SS.2.1 dX11_mixed_6 rfl (lv_at hl 1 rfl) ?_
    refine lv_iload_n SS.1 SS.2.1 dX11_mixed_7 rfl (lv_at hl 3 rfl) ?_
    refine j_vSh SS (As := [.int (J s2)]) (rest := []) (c_X11_shapeAt l D q u  s2 (show -2147483648 ≤ s2 ∧ s2 ≤ 2147483647 from (p2))) mf_X11_shapeAt kw_414 hG hP hP (ci := 11) (q0 := 0) rfl rfl rfl rfl hl.1 ⟨⟨Nat.le_of_ble_eq_true rfl, Nat.le_of_ble_eq_true rfl⟩, Nat.le_of_ble_eq_true rfl, Nat.le_refl _, Nat.le_refl _⟩ rfl dX11_mixed_8 (fun i_8 hi_8 hz_8 => ?_) (fun hn_8 => ?_)
    · skip
      have hI8c := (CI_s p0 (show i_8 < 8 by omega)).1
      have hrl8 := rl_s (show i_8 < 8 by omega)
      refine lv_astore (lv' := [(4, .ref (q (8 + 5 * i_8))), (3, .null), (0, .ref (q 0)), (1, .int (J s)), (2, .int (J s2))]) SS.1 SS.2.1 dX11_mixed_11 hl (by decide) rfl (fun ls hl => ?_)
      refine lv_aload_nN SS.1 SS.2.1 dX11_mixed_13 rfl (lv_at hl 1 rfl) ?_
      refine lv_ifnullN SS.1 SS.2.1 (tgt := 22) dX11_mixed_14 (by decide) ?_
      refine j_iconst SS dX11_mixed_22 ?_
      exact W.iret SS.1 SS.2.1 hr (fun t0 ht hW => ⟨⟨_, u, rfl, ⟨(-1), rfl, (⟨p0, ⟨Or.inl ⟨by omega, rfl⟩, by unfold wRg; omega⟩, cs_refl⟩)⟩, by show va_P D.1 j_cl (cW D q u) t0.heap; rw [ht]; first | exact hP | (simp only [sC_id, sX_id, sY_id, sH_id, sT_id, sV_id]; exact hP)⟩, hS.F ht⟩) hS.2.2 dX11_mixed_23 hlk
    · skip
      refine lv_astoreN (lv' := [(4, .null), (3, .null), (0, .ref (q 0)), (1, .int (J s)), (2, .int (J s2))]) SS.1 SS.2.1 dX11_mixed_11 hl (by decide) rfl (fun ls hl => ?_)
      refine lv_aload_nN SS.1 SS.2.1 dX11_mixed_13 rfl (lv_at hl 1 rfl) ?_
      refine lv_ifnullN SS.1 SS.2.1 (tgt := 22) dX11_mixed_14 (by decide) ?_
      refine j_iconst SS dX11_mixed_22 ?_
      exact W.iret SS.1 SS.2.1 hr (fun t0 ht hW => ⟨⟨_, u, rfl, ⟨(-1), rfl, (⟨p0, ⟨Or.inl ⟨by omega, rfl⟩, by unfold wRg; omega⟩, cs_refl⟩)⟩, by show va_P D.1 j_cl (cW D q u) t0.heap; rw [ht]; first | exact hP | (simp only [sC_id, sX_id, sY_id, sH_id, sT_id, sV_id]; exact hP)⟩, hS.F ht⟩) hS.2.2 dX11_mixed_23 hlk

set_option maxHeartbeats 4000000 in
set_option maxRecDepth 100000 in
theorem c_X12_mixed2 (l : Launch) (D : JD) (o : Nat) (q : Nat → Nat) (u : MS) (A : Nat → Prop) (hD : va_D A (mW D o q u)) (s : Int) (s2 : Int) (p0 : IM u) (p1 : -2147483648 ≤ s ∧ s ≤ 2147483647) (p2 : -2147483648 ≤ s2 ∧ s2 ≤ 2147483647) : Met l yX12_mixed (jw yX12_mixed cX12_mixed 6 (some .int)) (jr 4 92) (jP [.ref o, .int (J s), .int (J s2)] D (fun H => va_P D.1 j_cl (mW D o q u) H)) (jWi (fun z u' => ∃ f4 : Nat → Int, ∃ f5 : Nat → Int, ∃ w : Int, ∃ X : Nat → Int, ∃ Y : Nat → Int, ∃ nh : Int, u' = (uV (uI (uI (uV (uI (uI u 4 f4) 5 f5) 6 w) 7 X) 8 Y) 9 nh) ∧ (IM u' ∧ mxM u s s2 z)) (fun u' H => va_P D.1 j_cl (mW D o q u') H) A) 0 0 A := by
  refine Met.ofW (cc := cX12_mixed) (maxL := 6) (ret := (some .int)) (by decide) rfl ?_
  intro pr en st mi args below meth co s₁ B hml hv
  obtain ⟨rfl, hG, hP⟩ := hv
  have hr := B.returns
  have hlk := B.notSynchronized
  have SS : jS pr mi co cX12_mixed 6 st _ RX12 := ⟨B.exec, B.bytes, hml, findClass_of_methodNamed B.named, fun w hw => atoms_spec (ws := (jw yX12_mixed cX12_mixed 6 (some .int))) B.pre w (List.mem_cons_of_mem _ hw)⟩
  have hl := lv_entry ([.ref o, .int (J s), .int (J s2)]) (n := 6) (Nat.le_of_ble_eq_true rfl)
  rw [lg_entry_eq]
  generalize (lg_sl ([.ref o, .int (J s), .int (J s2)]) ++ List.replicate (6 - (lg_sl ([.ref o, .int (J s), .int (J s2)])).length) Slot.unset).toArray = ls at hl ⊢
  have hl : lv_has ls 6 [(0, .ref o), (1, .int (J s)), (2, .int (J s2))] := hl
  have hS : va_S A st.heap st.heap [] := va_S.rf
  refine lv_iload_n SS.1 SS.2.1 dX12_mixed_0 rfl (lv_at hl 1 rfl) ?_
  refine j_sRi SS (As := [.int (J s)]) (rest := []) (c_X12_isShape l D s (show -2147483648 ≤ s ∧ s ≤ 2147483647 from (by omega))) mf_X12_isShape kw_1156 hG trivial rfl hl.1 ⟨⟨Nat.le_of_ble_eq_true rfl, Nat.le_of_ble_eq_true rfl⟩, Nat.le_of_ble_eq_true rfl, Nat.le_refl _, Nat.le_refl _⟩ rfl dX12_mixed_1 (fun z_1 h_1 => ?_)
  have h_1 : (z_1 = 1 ∧ (0 ≤ s ∧ s ≤ 7)) ∨ (z_1 = 0 ∧ ¬ (0 ≤ s ∧ s ≤ 7)) := h_1
  refine j_if_eq SS (tgt := 14) (x := z_1) dX12_mixed_4 (by decide) (by omega) (fun c_4 => ?_) (fun c_4 => ?_)
  · skip
    refine j_iconst SS dX12_mixed_14 ?_
    exact W.iret SS.1 SS.2.1 hr (fun t ht hW => ⟨⟨_, (uV (uI (uI (uV (uI (uI u 4 (u.1 4)) 5 (u.1 5)) 6 (u.2.2 6)) 7 (u.1 7)) 8 (u.1 8)) 9 (u.2.2 9)), rfl, ⟨(-1), rfl, (⟨(u.1 4), (u.1 5), (u.2.2 6), (u.1 7), (u.1 8), (u.2.2 9), rfl, by first | exact ⟨p0, Or.inl ⟨by omega, rfl⟩⟩ | exact ⟨p0, Or.inr ⟨by omega, Or.inl ⟨by omega, rfl⟩⟩⟩ | exact ⟨p0, Or.inr ⟨by omega, Or.inr ⟨by omega, nh_39, X_39, Y_39, a7, by rw [h_110.1, h_116.1, i47_1, show i = nh_39 by omega]; rfl⟩⟩⟩⟩)⟩, by show va_P D.1 j_cl (mW D o q (uV (uI (uI (uV (uI (uI u 4 (u.1 4)) 5 (u.1 5)) 6 (u.2.2 6)) 7 (u.1 7)) 8 (u.1 8)) 9 (u.2.2 9))) t.heap; rw [ht]; exact hP⟩, hS.F ht⟩) hS.2.2 dX12_mixed_15 hlk
  · skip
    refine lv_iload_n SS.1 SS.2.1 dX12_mixed_7 rfl (lv_at hl 2 rfl) ?_
    refine j_sRi SS (As := [.int (J s2)]) (rest := []) (c_X12_isShape l D s2 (show -2147483648 ≤ s2 ∧ s2 ≤ 2147483647 from (by omega))) mf_X12_isShape kw_1156 hG trivial rfl hl.1 ⟨⟨Nat.le_of_ble_eq_true rfl, Nat.le_of_ble_eq_true rfl⟩, Nat.le_of_ble_eq_true rfl, Nat.le_refl _, Nat.le_refl _⟩ rfl dX12_mixed_8 (fun z_8 h_8 => ?_)
    have h_8 : (z_8 = 1 ∧ (0 ≤ s2 ∧ s2 ≤ 7)) ∨ (z_8 = 0 ∧ ¬ (0 ≤ s2 ∧ s2 ≤ 7)) := h_8
    refine j_if_ne SS (tgt := 16) (x := z_8) dX12_mixed_11 (by decide) (by omega) (fun c_11 => ?_) (fun c_11 => ?_)
    · skip
      refine lv_aload_n SS.1 SS.2.1 dX12_mixed_16 rfl (lv_at hl 0 rfl) ?_
      refine j_get SS hG hP 0 (v := .ref (q 0)) (C := RX12) (T := TX12) (N := 31) rfl rfl inX12 0 (by decide) (ref := RX12) kw_1058 rfl rfl dX12_mixed_17 ?_
      refine lv_iload_n SS.1 SS.2.1 dX12_mixed_20 rfl (lv_at hl 1 rfl) ?_
      refine j_iald SS hG hP 1 (n := 8) (f := (u.1 0)) rfl (z := s) (by omega) (by omega) dX12_mixed_21 ?_
      have hN_21 := (show Sh u s from p0.1 _ (by omega) (by omega)).1
      refine j_if_eq SS (tgt := 34) (x := (mN u s)) dX12_mixed_22 (by decide) (by omega) (fun c_22 => ?_) (fun c_22 => ?_)
      · skip
        refine j_iconst SS dX12_mixed_34 ?_
        exact W.iret SS.1 SS.2.1 hr (fun t ht hW => ⟨⟨_, (uV (uI (uI (uV (uI (uI u 4 (u.1 4)) 5 (u.1 5)) 6 (u.2.2 6)) 7 (u.1 7)) 8 (u.1 8)) 9 (u.2.2 9)), rfl, ⟨0, rfl, (⟨(u.1 4), (u.1 5), (u.2.2 6), (u.1 7), (u.1 8), (u.2.2 9), rfl, by first | exact ⟨p0, Or.inl ⟨by omega, rfl⟩⟩ | exact ⟨p0, Or.inr ⟨by omega, Or.inl ⟨by omega, rfl⟩⟩⟩ | exact ⟨p0, Or.inr ⟨by omega, Or.inr ⟨by omega, nh_39, X_39, Y_39, a7, by rw [h_110.1, h_116.1, i47_1, show i = nh_39 by omega]; rfl⟩⟩⟩⟩)⟩, by show va_P D.1 j_cl (mW D o q (uV (uI (uI (uV (uI (uI u 4 (u.1 4)) 5 (u.1 5)) 6 (u.2.2 6)) 7 (u.1 7)) 8 (u.1 8)) 9 (u.2.2 9))) t.heap; rw [ht]; exact hP⟩, hS.F ht⟩) hS.2.2 dX12_mixed_35 hlk
      · skip
        refine lv_aload_n SS.1 SS.2.1 dX12_mixed_25 rfl (lv_at hl 0 rfl) ?_
        refine j_get SS hG hP 0 (v := .ref (q 0)) (C := RX12) (T := TX12) (N := 31) rfl rfl inX12 0 (by decide) (ref := RX12) kw_1058 rfl rfl dX12_mixed_26 ?_
        refine lv_iload_n SS.1 SS.2.1 dX12_mixed_29 rfl (lv_at hl 2 rfl) ?_
        refine j_iald SS hG hP 1 (n := 8) (f := (u.1 0)) rfl (z := s2) (by omega) (by omega) dX12_mixed_30 ?_
        have hN_30 := (show Sh u s2 from p0.1 _ (by omega) (by omega)).1
        refine j_if_ne SS (tgt := 36) (x := (mN u s2)) dX12_mixed_31 (by decide) (by omega) (fun c_31 => ?_) (fun c_31 => ?_)
        · skip
          refine lv_aload_n SS.1 SS.2.1 dX12_mixed_36 rfl (lv_at hl 0 rfl) ?_
          refine lv_iload_n SS.1 SS.2.1 dX12_mixed_37 rfl (lv_at hl 1 rfl) ?_
          refine lv_iload_n SS.1 SS.2.1 dX12_mixed_38 rfl (lv_at hl 2 rfl) ?_
          refine j_vWv SS (As := [.int (J s), .int (J s2)]) (rest := []) (c_X12_findSum2 l D o q u A (mW_D hD) s s2 (show 0 ≤ s ∧ s ≤ 7 from (by omega)) (show Sh u s from (p0.1 _ (by omega) (by omega))) (show 0 ≤ s2 ∧ s2 ≤ 7 from (by omega)) (show Sh u s2 from (p0.1 _ (by omega) (by omega)))) mf_X12_findSum kw_1317 hG hP hP (ci := 8) (q0 := 0) rfl rfl rfl hS (fun _ h => h) rfl hl.1 ⟨⟨Nat.le_of_ble_eq_true rfl, Nat.le_of_ble_eq_true rfl⟩, Nat.le_of_ble_eq_true rfl, Nat.le_refl _, Nat.le_refl _⟩ rfl dX12_mixed_39 (fun u39 H locs h_39 hP _ hS => ?_)
          obtain ⟨f_39, g_39, w_39, X_39, Y_39, nh_39, rfl, h_39⟩ := h_39
          have hP : va_P D.1 j_cl (mW D o q (uV (uI (uI (uV (uI (uI u 4 f_39) 5 g_39) 6 w_39) 7 X_39) 8 Y_39) 9 nh_39)) H := hP
          have h_39 : 0 ≤ nh_39 ∧ nh_39 ≤ 1290 ∧ Ch nh_39 X_39 Y_39 ∧ bd 10000 X_39 Y_39 nh_39 ∧ bd 80 X_39 Y_39 nh_39 ∧ HS (SM (SP u s) (SP u s2)) nh_39 X_39 Y_39 := h_39
          obtain ⟨a1, a2, a3, a4, a5, a7⟩ := h_39
          refine j_iconst SS dX12_mixed_42 ?_
          refine lv_istore_n (lv' := [(3, .int (J 0)), (0, .ref o), (1, .int (J s)), (2, .int (J s2))]) SS.1 SS.2.1 dX12_mixed_43 rfl hl (by decide) rfl (fun ls hl => ?_)
          refine j_iconst SS dX12_mixed_44 ?_
          refine lv_istore (lv' := [(4, .int (J 0)), (3, .int (J 0)), (0, .ref o), (1, .int (J s)), (2, .int (J s2))]) SS.1 SS.2.1 dX12_mixed_45 hl (by decide) rfl (fun ls hl => ?_)
          have L_47 : ∀ (nn : Nat) (t3 : Int) (i : Int) (H : Heap) (locs : List Loc) (hP : va_P D.1 j_cl (mW D o q (uV (uI (uI (uV (uI (uI u 4 f_39) 5 g_39) 6 w_39) 7 X_39) 8 Y_39) 9 nh_39)) H) (hS : va_S A st.heap H locs) (ls : Array Slot) (hl : lv_has ls 6 [(0, .ref o), (1, .int (J s)), (2, .int (J s2)), (3, .int (J t3)), (4, .int (J i))]) (i47_0 : 0 ≤ i ∧ i ≤ nh_39) (i47_1 : t3 = smI (fun i => X_39 i.toNat * nxt Y_39 nh_39 i.toNat - nxt X_39 nh_39 i.toNat * Y_39 i.toNat) i), (nh_39 - i).toNat < nn → W pr l en (headSpec (jw yX12_mixed cX12_mixed 6 (some .int)) (jr 4 92)).room st mi (([.ref o, .int (J s), .int (J s2)] : List Value).toArray) below meth co H locs 0 0 (MQ below (jWi (fun z u' => ∃ f4 : Nat → Int, ∃ f5 : Nat → Int, ∃ w : Int, ∃ X : Nat → Int, ∃ Y : Nat → Int, ∃ nh : Int, u' = (uV (uI (uI (uV (uI (uI u 4 f4) 5 f5) 6 w) 7 X) 8 Y) 9 nh) ∧ (IM u' ∧ mxM u s s2 z)) (fun u' H => va_P D.1 j_cl (mW D o q u') H) A) (([.ref o, .int (J s), .int (J s2)] : List Value).toArray) st 0 0 A) (F0 mi 47 ls []) := by
            intro nn
            induction nn with
            | zero => intros; omega
            | succ nn ih_47 =>
              intro t3 i  H locs hP hS ls hl i47_0 i47_1 hm
              refine lv_iload SS.1 SS.2.1 dX12_mixed_47 (lv_at hl 4 rfl) ?_
              refine lv_aload_n SS.1 SS.2.1 dX12_mixed_49 rfl (lv_at hl 0 rfl) ?_
              refine j_get SS hG hP 0 (v := .int (J nh_39)) (C := RX12) (T := TX12) (N := 31) rfl rfl inX12 9 (by decide) (ref := RX12) kw_1067 rfl rfl dX12_mixed_50 ?_
              refine j_icmp_ge SS (tgt := 107) (x := i) (y := nh_39) dX12_mixed_53 (by decide) (by omega) (by omega) (fun c_53 => ?_) (fun c_53 => ?_)
              · skip
                refine lv_iload_n SS.1 SS.2.1 dX12_mixed_107 rfl (lv_at hl 3 rfl) ?_
                refine lv_aload_n SS.1 SS.2.1 dX12_mixed_108 rfl (lv_at hl 0 rfl) ?_
                refine lv_iload_n SS.1 SS.2.1 dX12_mixed_109 rfl (lv_at hl 1 rfl) ?_
                refine j_vRi SS (As := [.int (J s)]) (rest := [.int (J t3)]) (c_X12_areaOf l D o q (uV (uI (uI (uV (uI (uI u 4 f_39) 5 g_39) 6 w_39) 7 X_39) 8 Y_39) 9 nh_39) s (show 0 ≤ s ∧ s ≤ 7 from (by omega)) (show Sh u s from (p0.1 _ (by omega) (by omega)))) mf_X12_areaOf kw_1218 hG hP hP (ci := 8) (q0 := 0) rfl rfl rfl rfl hl.1 ⟨⟨Nat.le_of_ble_eq_true rfl, Nat.le_of_ble_eq_true rfl⟩, Nat.le_of_ble_eq_true rfl, Nat.le_refl _, Nat.le_refl _⟩ rfl dX12_mixed_110 (fun z_110 h_110 => ?_)
                have h_110 : z_110 = mAr u s ∧ -80000 ≤ z_110 ∧ z_110 ≤ 80000 := h_110
                refine j_isub SS (x := t3) (y := z_110) dX12_mixed_113 ?_
                refine lv_aload_n SS.1 SS.2.1 dX12_mixed_114 rfl (lv_at hl 0 rfl) ?_
                refine lv_iload_n SS.1 SS.2.1 dX12_mixed_115 rfl (lv_at hl 2 rfl) ?_
                refine j_vRi SS (As := [.int (J s2)]) (rest := [.int (J (t3 - z_110))]) (c_X12_areaOf l D o q (uV (uI (uI (uV (uI (uI u 4 f_39) 5 g_39) 6 w_39) 7 X_39) 8 Y_39) 9 nh_39) s2 (show 0 ≤ s2 ∧ s2 ≤ 7 from (by omega)) (show Sh u s2 from (p0.1 _ (by omega) (by omega)))) mf_X12_areaOf kw_1218 hG hP hP (ci := 8) (q0 := 0) rfl rfl rfl rfl hl.1 ⟨⟨Nat.le_of_ble_eq_true rfl, Nat.le_of_ble_eq_true rfl⟩, Nat.le_of_ble_eq_true rfl, Nat.le_refl _, Nat.le_refl _⟩ rfl dX12_mixed_116 (fun z_116 h_116 => ?_)
                have h_116 : z_116 = mAr u s2 ∧ -80000 ≤ z_116 ∧ z_116 ≤ 80000 := h_116
                refine j_isub SS (x := (t3 - z_110)) (y := z_116) dX12_mixed_119 ?_
                exact W.iret SS.1 SS.2.1 hr (fun t ht hW => ⟨⟨_, (uV (uI (uI (uV (uI (uI u 4 f_39) 5 g_39) 6 w_39) 7 X_39) 8 Y_39) 9 nh_39), rfl, ⟨((t3 - z_110) - z_116), rfl, (⟨f_39, g_39, w_39, X_39, Y_39, nh_39, rfl, by first | exact ⟨p0, Or.inl ⟨by omega, rfl⟩⟩ | exact ⟨p0, Or.inr ⟨by omega, Or.inl ⟨by omega, rfl⟩⟩⟩ | exact ⟨p0, Or.inr ⟨by omega, Or.inr ⟨by omega, nh_39, X_39, Y_39, a7, by rw [h_110.1, h_116.1, i47_1, show i = nh_39 by omega]; rfl⟩⟩⟩⟩)⟩, by show va_P D.1 j_cl (mW D o q (uV (uI (uI (uV (uI (uI u 4 f_39) 5 g_39) 6 w_39) 7 X_39) 8 Y_39) 9 nh_39)) t.heap; rw [ht]; exact hP⟩, hS.F ht⟩) hS.2.2 dX12_mixed_120 hlk
              · skip
                refine lv_iload SS.1 SS.2.1 dX12_mixed_56 (lv_at hl 4 rfl) ?_
                refine j_iconst SS dX12_mixed_58 ?_
                refine j_iadd SS (x := i) (y := 1) dX12_mixed_59 ?_
                refine lv_aload_n SS.1 SS.2.1 dX12_mixed_60 rfl (lv_at hl 0 rfl) ?_
                have tb := tm_b (i := i + 1) (n := nh_39) (by omega) (by omega)
                refine j_get SS hG hP 0 (v := .int (J nh_39)) (C := RX12) (T := TX12) (N := 31) rfl rfl inX12 9 (by decide) (ref := RX12) kw_1067 rfl rfl dX12_mixed_61 ?_
                refine j_irem SS (x := (i + 1)) (y := nh_39) dX12_mixed_64 (by omega) (by omega) (by omega) ?_
                refine lv_istore (lv' := [(5, .int (J (Int.tmod (i + 1) nh_39))), (0, .ref o), (1, .int (J s)), (2, .int (J s2)), (3, .int (J t3)), (4, .int (J i))]) SS.1 SS.2.1 dX12_mixed_65 hl (by decide) rfl (fun ls hl => ?_)
                refine lv_iload_n SS.1 SS.2.1 dX12_mixed_67 rfl (lv_at hl 4 rfl) ?_
                refine lv_aload_n SS.1 SS.2.1 dX12_mixed_68 rfl (lv_at hl 1 rfl) ?_
                refine j_get SS hG hP 0 (v := .ref (q 7)) (C := RX12) (T := TX12) (N := 31) rfl rfl inX12 7 (by decide) (ref := RX12) kw_1065 rfl rfl dX12_mixed_69 ?_
                refine lv_iload SS.1 SS.2.1 dX12_mixed_72 (lv_at hl 5 rfl) ?_
                refine j_iald SS hG hP 7 (n := 1300) (f := X_39) rfl (z := i) (by omega) (by omega) dX12_mixed_74 ?_
                refine lv_aload_n SS.1 SS.2.1 dX12_mixed_75 rfl (lv_at hl 1 rfl) ?_
                refine j_get SS hG hP 0 (v := .ref (q 8)) (C := RX12) (T := TX12) (N := 31) rfl rfl inX12 8 (by decide) (ref := RX12) kw_1066 rfl rfl dX12_mixed_76 ?_
                refine lv_iload SS.1 SS.2.1 dX12_mixed_79 (lv_at hl 0 rfl) ?_
                refine j_iald SS hG hP 8 (n := 1300) (f := Y_39) rfl (z := (Int.tmod (i + 1) nh_39)) (by omega) (by omega) dX12_mixed_81 ?_
                refine j_imul SS (x := (X_39 (i).toNat)) (y := (Y_39 ((Int.tmod (i + 1) nh_39)).toNat)) dX12_mixed_82 ?_
                refine lv_aload_n SS.1 SS.2.1 dX12_mixed_83 rfl (lv_at hl 1 rfl) ?_
                refine j_get SS hG hP 0 (v := .ref (q 7)) (C := RX12) (T := TX12) (N := 31) rfl rfl inX12 7 (by decide) (ref := RX12) kw_1065 rfl rfl dX12_mixed_84 ?_
                refine lv_iload SS.1 SS.2.1 dX12_mixed_87 (lv_at hl 0 rfl) ?_
                refine j_iald SS hG hP 7 (n := 1300) (f := X_39) rfl (z := (Int.tmod (i + 1) nh_39)) (by omega) (by omega) dX12_mixed_89 ?_
                refine lv_aload_n SS.1 SS.2.1 dX12_mixed_90 rfl (lv_at hl 1 rfl) ?_
                refine j_get SS hG hP 0 (v := .ref (q 8)) (C := RX12) (T := TX12) (N := 31) rfl rfl inX12 8 (by decide) (ref := RX12) kw_1066 rfl rfl dX12_mixed_91 ?_
                refine lv_iload SS.1 SS.2.1 dX12_mixed_94 (lv_at hl 5 rfl) ?_
                refine j_iald SS hG hP 8 (n := 1300) (f := Y_39) rfl (z := i) (by omega) (by omega) dX12_mixed_96 ?_
                refine j_imul SS (x := (X_39 ((Int.tmod (i + 1) nh_39)).toNat)) (y := (Y_39 (i).toNat)) dX12_mixed_97 ?_
                refine j_isub SS (x := ((X_39 (i).toNat) * (Y_39 ((Int.tmod (i + 1) nh_39)).toNat))) (y := ((X_39 ((Int.tmod (i + 1) nh_39)).toNat) * (Y_39 (i).toNat))) dX12_mixed_98 ?_
                refine j_iadd SS (x := t3) (y := (((X_39 (i).toNat) * (Y_39 ((Int.tmod (i + 1) nh_39)).toNat)) - ((X_39 ((Int.tmod (i + 1) nh_39)).toNat) * (Y_39 (i).toNat)))) dX12_mixed_99 ?_
                refine lv_istore_n (lv' := [(3, .int (J (t3 + (((X_39 (i).toNat) * (Y_39 ((Int.tmod (i + 1) nh_39)).toNat)) - ((X_39 ((Int.tmod (i + 1) nh_39)).toNat) * (Y_39 (i).toNat)))))), (5, .int (J (Int.tmod (i + 1) nh_39))), (0, .ref o), (1, .int (J s)), (2, .int (J s2)), (4, .int (J i))]) SS.1 SS.2.1 dX12_mixed_100 rfl hl (by decide) rfl (fun ls hl => ?_)
                refine lv_iinc (v := J (i + 1)) (lv' := [(4, .int (J (i + 1))), (3, .int (J (t3 + (((X_39 (i).toNat) * (Y_39 ((Int.tmod (i + 1) nh_39)).toNat)) - ((X_39 ((Int.tmod (i + 1) nh_39)).toNat) * (Y_39 (i).toNat)))))), (5, .int (J (Int.tmod (i + 1) nh_39))), (0, .ref o), (1, .int (J s)), (2, .int (J s2))]) SS.1 SS.2.1 dX12_mixed_101 hl (k := 5) rfl (J_add _ _) (by decide) rfl (fun ls hl => ?_)
                refine lv_goto (tgt := 47) SS.1 SS.2.1 dX12_mixed_104 (by decide) ?_
                exact ih_47 (t3 + (((X_39 (i).toNat) * (Y_39 ((Int.tmod (i + 1) nh_39)).toNat)) - ((X_39 ((Int.tmod (i + 1) nh_39)).toNat) * (Y_39 (i).toNat)))) (i + 1) _ _ hP hS ls (lv_sub hl [3, 4, 5, 1, 0] rfl) (by omega) (by rw [smI_s i47_0.1, ← i47_1, ← nxt_tm (X := X_39) (n := nh_39) (i := i) (by omega), ← nxt_tm (X := Y_39) (n := nh_39) (i := i) (by omega)]) (by omega)
          exact L_47 ((nh_39 - (0 : Int)).toNat + 1) 0 0 _ _ hP hS ls (lv_sub hl [2, 3, 4, 1, 0] rfl) (by omega) (by first | exact smI_0.symm | skip) (Nat.lt_succ_self _)
        · skip
          refine j_iconst SS dX12_mixed_34 ?_
          exact W.iret SS.1 SS.2.1 hr (fun t ht hW => ⟨⟨_, (uV (uI (uI (uV (uI (uI u 4 (u.1 4)) 5 (u.1 5)) 6 (u.2.2 6)) 7 (u.1 7)) 8 (u.1 8)) 9 (u.2.2 9)), rfl, ⟨0, rfl, (⟨(u.1 4), (u.1 5), (u.2.2 6), (u.1 7), (u.1 8), (u.2.2 9), rfl, by first | exact ⟨p0, Or.inl ⟨by omega, rfl⟩⟩ | exact ⟨p0, Or.inr ⟨by omega, Or.inl ⟨by omega, rfl⟩⟩⟩ | exact ⟨p0, Or.inr ⟨by omega, Or.inr ⟨by omega, nh_39, X_39, Y_39, a7, by rw [h_110.1, h_116.1, i47_1, show i = nh_39 by omega]; rfl⟩⟩⟩⟩)⟩, by show va_P D.1 j_cl (mW D o q (uV (uI (uI (uV (uI (uI u 4 (u.1 4)) 5 (u.1 5)) 6 (u.2.2 6)) 7 (u.1 7)) 8 (u.1 8)) 9 (u.2.2 9))) t.heap; rw [ht]; exact hP⟩, hS.F ht⟩) hS.2.2 dX12_mixed_35 hlk
    · skip
      refine j_iconst SS dX12_mixed_14 ?_
      exact W.iret SS.1 SS.2.1 hr (fun t ht hW => ⟨⟨_, (uV (uI (uI (uV (uI (uI u 4 (u.1 4)) 5 (u.1 5)) 6 (u.2.2 6)) 7 (u.1 7)) 8 (u.1 8)) 9 (u.2.2 9)), rfl, ⟨(-1), rfl, (⟨(u.1 4), (u.1 5), (u.2.2 6), (u.1 7), (u.1 8), (u.2.2 9), rfl, by first | exact ⟨p0, Or.inl ⟨by omega, rfl⟩⟩ | exact ⟨p0, Or.inr ⟨by omega, Or.inl ⟨by omega, rfl⟩⟩⟩ | exact ⟨p0, Or.inr ⟨by omega, Or.inr ⟨by omega, nh_39, X_39, Y_39, a7, by rw [h_110.1, h_116.1, i47_1, show i = nh_39 by omega]; rfl⟩⟩⟩⟩)⟩, by show va_P D.1 j_cl (mW D o q (uV (uI (uI (uV (uI (uI u 4 (u.1 4)) 5 (u.1 5)) 6 (u.2.2 6)) 7 (u.1 7)) 8 (u.1 8)) 9 (u.2.2 9))) t.heap; rw [ht]; exact hP⟩, hS.F ht⟩) hS.2.2 dX12_mixed_15 hlk
