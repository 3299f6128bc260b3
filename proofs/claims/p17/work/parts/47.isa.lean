
set_option maxHeartbeats 4000000 in
set_option maxRecDepth 100000 in
theorem c_X11_mixedM (l : Launch) (D : JD) (q : Nat → Nat) (u : CS) (A : Nat → Prop) (hD : va_D A (cW D q u)) (s : Int) (s2 : Int) (p0 : CI u) (p1 : -2147483648 ≤ s ∧ s ≤ 2147483647) (p2 : -2147483648 ≤ s2 ∧ s2 ≤ 2147483647) : Met l yX11_mixed (jw yX11_mixed cX11_mixed 5 (some .int)) (jr 5 115) (jP [.ref (q 0), .int (J s), .int (J s2)] D (fun H => va_P D.1 j_cl (cW D q u) H)) (jWi (fun z u' => CI u' ∧ (mxC u s s2 z ∧ wRg z) ∧ cSame u u') (fun u' H => va_P D.1 j_cl (cW D q u') H) A) 0 0 A := by
  refine Met.ofW (cc := cX11_mixed) (maxL := 5) (ret := (some .int)) (by decide) rfl ?_
  intro pr en st mi args below meth co s₁ B hml hv
  obtain ⟨rfl, hG, hP⟩ := hv
  have hr := B.returns
  have hlk := B.notSynchronized
  have SS : jS pr mi co cX11_mixed 5 st _ RX11 := ⟨B.exec, B.bytes, hml, findClass_of_methodNamed B.named, fun w hw => atoms_spec (ws := (jw yX11_mixed cX11_mixed 5 (some .int))) B.pre w (List.mem_cons_of_mem _ hw)⟩
  have hl := lv_entry ([.ref (q 0), .int (J s), .int (J s2)]) (n := 5) (Nat.le_of_ble_eq_true rfl)
  rw [lg_entry_eq]
  generalize (lg_sl ([.ref (q 0), .int (J s), .int (J s2)]) ++ List.replicate (5 - (lg_sl ([.ref (q 0), .int (J s), .int (J s2)])).length) Slot.unset).toArray = ls at hl ⊢
  have hl : lv_has ls 5 [(0, .ref (q 0)), (1, .int (J s)), (2, .int (J s2))] := hl
  have hS : va_S A st.heap st.heap [] := va_S.rf
  refine lv_aload_n SS.1 SS.2.1 dX11_mixed_0 rfl (lv_at hl 0 rfl) ?_
  refine lv_iload_n SS.1 SS.2.1 dX11_mixed_1 rfl (lv_at hl 1 rfl) ?_
  refine j_vSh SS (As := [.int (J s)]) (rest := []) (c_X11_shapeAt l D q u  s (show -2147483648 ≤ s ∧ s ≤ 2147483647 from (p1))) mf_X11_shapeAt kw_414 hG hP hP (ci := 11) (q0 := 0) rfl rfl rfl rfl hl.1 ⟨⟨Nat.le_of_ble_eq_true rfl, Nat.le_of_ble_eq_true rfl⟩, Nat.le_of_ble_eq_true rfl, Nat.le_refl _, Nat.le_refl _⟩ rfl dX11_mixed_2 (fun i_2 hi_2 hz_2 => ?_) (fun hn_2 => ?_)
  · skip
    have hI2 := CI_s p0 (show i_2 < 8 by omega)
    have hI2c := hI2.1
    have hrl2 := rl_s (show i_2 < 8 by omega)
    refine lv_astore_n (lv' := [(3, .ref (q (8 + 5 * i_2))), (0, .ref (q 0)), (1, .int (J s)), (2, .int (J s2))]) SS.1 SS.2.1 dX11_mixed_5 rfl hl (by decide) rfl (fun ls hl => ?_)
    refine lv_aload_n SS.1 SS.2.1 dX11_mixed_6 rfl (lv_at hl 1 rfl) ?_
    refine lv_iload_n SS.1 SS.2.1 dX11_mixed_7 rfl (lv_at hl 3 rfl) ?_
    refine j_vSh SS (As := [.int (J s2)]) (rest := []) (c_X11_shapeAt l D q u  s2 (show -2147483648 ≤ s2 ∧ s2 ≤ 2147483647 from (p2))) mf_X11_shapeAt kw_414 hG hP hP (ci := 11) (q0 := 0) rfl rfl rfl rfl hl.1 ⟨⟨Nat.le_of_ble_eq_true rfl, Nat.le_of_ble_eq_true rfl⟩, Nat.le_of_ble_eq_true rfl, Nat.le_refl _, Nat.le_refl _⟩ rfl dX11_mixed_8 (fun i_8 hi_8 hz_8 => ?_) (fun hn_8 => ?_)
    · skip
      have hI8c := (CI_s p0 (show i_8 < 8 by omega)).1
      have hrl8 := rl_s (show i_8 < 8 by omega)
      refine lv_astore (lv' := [(4, .ref (q (8 + 5 * i_8))), (3, .ref (q (8 + 5 * i_2))), (0, .ref (q 0)), (1, .int (J s)), (2, .int (J s2))]) SS.1 SS.2.1 dX11_mixed_11 hl (by decide) rfl (fun ls hl => ?_)
      refine lv_aload_n SS.1 SS.2.1 dX11_mixed_13 rfl (lv_at hl 1 rfl) ?_
      refine lv_ifnull SS.1 SS.2.1 dX11_mixed_14 ?_
      refine lv_aload SS.1 SS.2.1 dX11_mixed_17 (lv_at hl 0 rfl) ?_
      refine lv_ifnonnull SS.1 SS.2.1 (tgt := 24) dX11_mixed_19 (by decide) ?_
      refine lv_aload_n SS.1 SS.2.1 dX11_mixed_24 rfl (lv_at hl 1 rfl) ?_
      refine j_get SS hG hP (8 + 5 * i_2) (v := .ref (q (9 + 5 * i_2))) (C := RX10) (T := TX10) (N := 3) (cw_shape (by omega)) rfl inX10 0 (by decide) (ref := "GridPolygons$Shape") kw_151 rfl rfl dX11_mixed_25 ?_
      refine j_getS SS hG hP (9 + 5 * i_2) (v := .int (J (u.1.2.2.1 i_2))) (C := RX7) (T := TX7) (N := 3) (cw_ring (by omega)) rfl inX7 2 (by decide) (ref := "GridPolygons$Ring") kw_135 kw_132 rfl dX11_mixed_28 ?_
      refine j_if_eq SS (tgt := 45) (x := (u.1.2.2.1 i_2)) dX11_mixed_31 (by decide) (by omega) (fun c_31 => ?_) (fun c_31 => ?_)
      · skip
        refine j_iconst SS dX11_mixed_45 ?_
        exact W.iret SS.1 SS.2.1 hr (fun t0 ht hW => ⟨⟨_, u, rfl, ⟨0, rfl, (⟨p0, ⟨Or.inr ⟨by omega, Or.inl ⟨by first | exact Or.inl (by rw [show s.toNat = i_2 by omega]; omega) | exact Or.inr (by rw [show s2.toNat = i_8 by omega]; omega), rfl⟩⟩, by unfold wRg; omega⟩, cs_refl⟩)⟩, by show va_P D.1 j_cl (cW D q u) t0.heap; rw [ht]; first | exact hP | (simp only [sC_id, sX_id, sY_id, sH_id, sT_id, sV_id]; exact hP)⟩, hS.F ht⟩) hS.2.2 dX11_mixed_46 hlk
      · skip
        refine lv_aload SS.1 SS.2.1 dX11_mixed_34 (lv_at hl 0 rfl) ?_
        refine j_get SS hG hP (8 + 5 * i_8) (v := .ref (q (9 + 5 * i_8))) (C := RX10) (T := TX10) (N := 3) (cw_shape (by omega)) rfl inX10 0 (by decide) (ref := "GridPolygons$Shape") kw_151 rfl rfl dX11_mixed_36 ?_
        refine j_getS SS hG hP (9 + 5 * i_8) (v := .int (J (u.1.2.2.1 i_8))) (C := RX7) (T := TX7) (N := 3) (cw_ring (by omega)) rfl inX7 2 (by decide) (ref := "GridPolygons$Ring") kw_135 kw_132 rfl dX11_mixed_39 ?_
        refine j_if_ne SS (tgt := 47) (x := (u.1.2.2.1 i_8)) dX11_mixed_42 (by decide) (by omega) (fun c_42 => ?_) (fun c_42 => ?_)
        · skip
          refine lv_aload_n SS.1 SS.2.1 dX11_mixed_47 rfl (lv_at hl 2 rfl) ?_
          refine j_get SS hG hP 0 (v := .ref (q 2)) (C := RX11) (T := TX11) (N := 8) rfl rfl inX11 1 (by decide) (ref := "GridPolygons") kw_386 rfl rfl dX11_mixed_48 ?_
          refine lv_aload_n SS.1 SS.2.1 dX11_mixed_51 rfl (lv_at hl 1 rfl) ?_
          refine j_get SS hG hP (8 + 5 * i_2) (v := .ref (q (9 + 5 * i_2))) (C := RX10) (T := TX10) (N := 3) (cw_shape (by omega)) rfl inX10 0 (by decide) (ref := "GridPolygons$Shape") kw_151 rfl rfl dX11_mixed_52 ?_
          refine lv_aload SS.1 SS.2.1 dX11_mixed_55 (lv_at hl 0 rfl) ?_
          refine j_get SS hG hP (8 + 5 * i_8) (v := .ref (q (9 + 5 * i_8))) (C := RX10) (T := TX10) (N := 3) (cw_shape (by omega)) rfl inX10 0 (by decide) (ref := "GridPolygons$Shape") kw_151 rfl rfl dX11_mixed_57 ?_
          refine j_vWv SS (As := [.ref (q (9 + 5 * i_2)), .ref (q (9 + 5 * i_8))]) (rest := []) (c_X3_closeSum2 l D q u A (cW_D hD) i_2 (by omega) i_8 (by omega)  (show HU_ ((u.2.1 0)) ((u.2.1 1)) from (p0.2.2.1)) (show RB 40 u i_2 from (CI_40 p0 (by omega))) (show RB 40 u i_8 from (CI_40 p0 (by omega))) (show RB 80 u 8 from (p0.2.1.1))) mf_X3_closeSum kw_686 hG hP hP (ci := 3) (q0 := 2) rfl rfl rfl hS (fun _ h => h) rfl hl.1 ⟨⟨Nat.le_of_ble_eq_true rfl, Nat.le_of_ble_eq_true rfl⟩, Nat.le_of_ble_eq_true rfl, Nat.le_refl _, Nat.le_refl _⟩ rfl dX11_mixed_60 (fun u60 H locs h_60 hP _ hS => ?_)
          obtain ⟨f_60, g_60, f8_60, g8_60, n8_60, rfl, h_60⟩ := h_60
          have hP : va_P D.1 j_cl (cW D q (sY (sX (sI (sI (sC u 8 n8_60) 0 f_60) 1 g_60) 8 f8_60) 8 g8_60)) H := hP
          have h_60 : HU_ f_60 g_60 ∧ (0 ≤ n8_60 ∧ n8_60 ≤ 323) ∧ RV 80 f8_60 g8_60 ∧ HS (SM (RP u i_2) (RP u i_8)) n8_60 f8_60 g8_60 := h_60
          have hCI := CI_8 (CI_h p0 h_60.1) h_60.2.1 h_60.2.2.1
          refine lv_aload_n SS.1 SS.2.1 dX11_mixed_63 rfl (lv_at hl 2 rfl) ?_
          refine j_get SS hG hP 0 (v := .ref (q 2)) (C := RX11) (T := TX11) (N := 8) rfl rfl inX11 1 (by decide) (ref := "GridPolygons") kw_386 rfl rfl dX11_mixed_64 ?_
          refine j_get SS hG hP 2 (v := .ref (q (9 + 5 * 8))) (C := RX3) (T := TX3) (N := 3) rfl rfl inX3 2 (by decide) (ref := "GridPolygons$Hull") kw_180 rfl rfl dX11_mixed_67 ?_
          refine j_vRi SS (As := []) (rest := []) (c_X7_area l D q (sY (sX (sI (sI (sC u 8 n8_60) 0 f_60) 1 g_60) 8 f8_60) 8 g8_60) 8 (by omega) (80 : Int)  (show 0 ≤ (80 : Int) ∧ (80 : Int) ≤ 80 from (by omega)) (show RB (80 : Int) (sY (sX (sI (sI (sC u 8 n8_60) 0 f_60) 1 g_60) 8 f8_60) 8 g8_60) 8 from (hCI.2.1.1))) mf_X7_area kw_517 hG hP hP (ci := 7) (q0 := (9 + 5 * 8)) rfl (cw_ring (by omega)) rfl rfl hl.1 ⟨⟨Nat.le_of_ble_eq_true rfl, Nat.le_of_ble_eq_true rfl⟩, Nat.le_of_ble_eq_true rfl, Nat.le_refl _, Nat.le_refl _⟩ rfl dX11_mixed_70 (fun z_70 h_70 => ?_)
          have h_70 : z_70 = rA (sY (sX (sI (sI (sC u 8 n8_60) 0 f_60) 1 g_60) 8 f8_60) 8 g8_60) 8 ∧ -10000000 ≤ z_70 ∧ z_70 ≤ 10000000 := h_70
          refine lv_aload_n SS.1 SS.2.1 dX11_mixed_73 rfl (lv_at hl 1 rfl) ?_
          refine j_get SS hG hP (8 + 5 * i_2) (v := .ref (q (9 + 5 * i_2))) (C := RX10) (T := TX10) (N := 3) (cw_shape (by omega)) rfl inX10 0 (by decide) (ref := "GridPolygons$Shape") kw_151 rfl rfl dX11_mixed_74 ?_
          refine j_vRi SS (As := []) (rest := [.int (J z_70)]) (c_X7_area l D q (sY (sX (sI (sI (sC u 8 n8_60) 0 f_60) 1 g_60) 8 f8_60) 8 g8_60) i_2 (by omega) (80 : Int)  (show 0 ≤ (80 : Int) ∧ (80 : Int) ≤ 80 from (by omega)) (show RB (80 : Int) (sY (sX (sI (sI (sC u 8 n8_60) 0 f_60) 1 g_60) 8 f8_60) 8 g8_60) i_2 from (by first | exact CI_s p0 (by omega) | exact CI_s hCI (by omega)))) mf_X7_area kw_517 hG hP hP (ci := 7) (q0 := (9 + 5 * i_2)) rfl (cw_ring (by omega)) rfl rfl hl.1 ⟨⟨Nat.le_of_ble_eq_true rfl, Nat.le_of_ble_eq_true rfl⟩, Nat.le_of_ble_eq_true rfl, Nat.le_refl _, Nat.le_refl _⟩ rfl dX11_mixed_77 (fun z_77 h_77 => ?_)
          have h_77 : z_77 = rA (sY (sX (sI (sI (sC u 8 n8_60) 0 f_60) 1 g_60) 8 f8_60) 8 g8_60) i_2 ∧ -10000000 ≤ z_77 ∧ z_77 ≤ 10000000 := h_77
          refine j_isub SS (x := z_70) (y := z_77) dX11_mixed_80 ?_
          refine lv_aload SS.1 SS.2.1 dX11_mixed_81 (lv_at hl 0 rfl) ?_
          refine j_get SS hG hP (8 + 5 * i_8) (v := .ref (q (9 + 5 * i_8))) (C := RX10) (T := TX10) (N := 3) (cw_shape (by omega)) rfl inX10 0 (by decide) (ref := "GridPolygons$Shape") kw_151 rfl rfl dX11_mixed_83 ?_
          refine j_vRi SS (As := []) (rest := [.int (J (z_70 - z_77))]) (c_X7_area l D q (sY (sX (sI (sI (sC u 8 n8_60) 0 f_60) 1 g_60) 8 f8_60) 8 g8_60) i_8 (by omega) (80 : Int)  (show 0 ≤ (80 : Int) ∧ (80 : Int) ≤ 80 from (by omega)) (show RB (80 : Int) (sY (sX (sI (sI (sC u 8 n8_60) 0 f_60) 1 g_60) 8 f8_60) 8 g8_60) i_8 from (by first | exact CI_s p0 (by omega) | exact CI_s hCI (by omega)))) mf_X7_area kw_517 hG hP hP (ci := 7) (q0 := (9 + 5 * i_8)) rfl (cw_ring (by omega)) rfl rfl hl.1 ⟨⟨Nat.le_of_ble_eq_true rfl, Nat.le_of_ble_eq_true rfl⟩, Nat.le_of_ble_eq_true rfl, Nat.le_refl _, Nat.le_refl _⟩ rfl dX11_mixed_86 (fun z_86 h_86 => ?_)
          have h_86 : z_86 = rA (sY (sX (sI (sI (sC u 8 n8_60) 0 f_60) 1 g_60) 8 f8_60) 8 g8_60) i_8 ∧ -10000000 ≤ z_86 ∧ z_86 ≤ 10000000 := h_86
          refine j_isub SS (x := (z_70 - z_77)) (y := z_86) dX11_mixed_89 ?_
          exact W.iret SS.1 SS.2.1 hr (fun t0 ht hW => ⟨⟨_, (sY (sX (sI (sI (sC u 8 n8_60) 0 f_60) 1 g_60) 8 f8_60) 8 g8_60), rfl, ⟨((z_70 - z_77) - z_86), rfl, (⟨hCI, ⟨Or.inr ⟨by omega, Or.inr ⟨by rw [show s.toNat = i_2 by omega, show s2.toNat = i_8 by omega]; omega, by rw [show s.toNat = i_2 by omega, show s2.toNat = i_8 by omega]; have e1 : z_70 = hAr n8_60 f8_60 g8_60 := h_70.1.trans ((rA_h hCI.2.1.1).trans (hAr_c rfl (fun a _ => ⟨rfl, rfl⟩))); have e2 : z_77 = rA u i_2 := h_77.1.trans (rA_s (u := u) (by exact ⟨if_neg (by omega), if_neg (by omega), if_neg (by omega)⟩)); have e3 : z_86 = rA u i_8 := h_86.1.trans (rA_s (u := u) (by exact ⟨if_neg (by omega), if_neg (by omega), if_neg (by omega)⟩)); exact ⟨_, _, _, h_60.2.2.2, by rw [e1, e2, e3]⟩⟩⟩, by unfold wRg; omega⟩, (by first | exact cs_refl | exact (fun r hr => ⟨if_neg (by omega), if_neg (by omega), if_neg (by omega)⟩))⟩)⟩, by show va_P D.1 j_cl (cW D q (sY (sX (sI (sI (sC u 8 n8_60) 0 f_60) 1 g_60) 8 f8_60) 8 g8_60)) t0.heap; rw [ht]; first | exact hP | (simp only [sC_id, sX_id, sY_id, sH_id, sT_id, sV_id]; exact hP)⟩, hS.F ht⟩) hS.2.2 dX11_mixed_90 hlk
        · skip
          refine j_iconst SS dX11_mixed_45 ?_
          exact W.iret SS.1 SS.2.1 hr (fun t0 ht hW => ⟨⟨_, u, rfl, ⟨0, rfl, (⟨p0, ⟨Or.inr ⟨by omega, Or.inl ⟨by first | exact Or.inl (by rw [show s.toNat = i_2 by omega]; omega) | exact Or.inr (by rw [show s2.toNat = i_8 by omega]; omega), rfl⟩⟩, by unfold wRg; omega⟩, cs_refl⟩)⟩, by show va_P D.1 j_cl (cW D q u) t0.heap; rw [ht]; first | exact hP | (simp only [sC_id, sX_id, sY_id, sH_id, sT_id, sV_id]; exact hP)⟩, hS.F ht⟩) hS.2.2 dX11_mixed_46 hlk
    · skip
      refine lv_astoreN (lv' := [(4, .null), (3, .ref (q (8 + 5 * i_2))), (0, .ref (q 0)), (1, .int (J s)), (2, .int (J s2))]) SS.1 SS.2.1 dX11_mixed_11 hl (by decide) rfl (fun ls hl => ?_)
      refine lv_aload_n SS.1 SS.2.1 dX11_mixed_13 rfl (lv_at hl 1 rfl) ?_
      refine lv_ifnull SS.1 SS.2.1 dX11_mixed_14 ?_
      refine lv_aloadN SS.1 SS.2.1 dX11_mixed_17 (lv_at hl 0 rfl) ?_
      refine lv_ifnonnullN SS.1 SS.2.1 dX11_mixed_19 ?_
      refine j_iconst SS dX11_mixed_22 ?_
      exact W.iret SS.1 SS.2.1 hr (fun t0 ht hW => ⟨⟨_, u, rfl, ⟨(-1), rfl, (⟨p0, ⟨Or.inl ⟨by omega, rfl⟩, by unfold wRg; omega⟩, cs_refl⟩)⟩, by show va_P D.1 j_cl (cW D q u) t0.heap; rw [ht]; first | exact hP | (simp only [sC_id, sX_id, sY_id, sH_id, sT_id, sV_id]; exact hP)⟩, hS.F ht⟩) hS.2.2 dX11_mixed_23 hlk
  · skip
    refine lv_astore_nN (lv' := [(3, .null), (0, .ref (q 0)), (1, .int (J s)), (2, .int (J s2))]) SS.1 SS.2.1 dX11_mixed_5 rfl hl (by decide) rfl (fun ls hl => ?_)
    refine lv_aload_n SS.1 SS.2.1 dX11_mixed_6 rfl (lv_at hl 1 rfl) ?_
    refine lv_iload_n SS.1 SS.2.1 dX11_mixed_7 rfl (lv_at hl 3 rfl) ?_
    refine j_vSh SS (As := [.int (J s2)]) (rest := []) (c_X11_shapeAt l D q u  s2 (show -2147483648 ≤ s2 ∧ s2 ≤ 2147483647 from (p2))) mf_X11_shapeAt kw_414 hG hP hP (ci := 11) (q0 := 0) rfl rfl rfl rfl hl.1 ⟨⟨Nat.le_of_ble_eq_true rfl, Nat.le_of_ble_eq_true rfl⟩, Nat.le_of_ble_eq_true rfl, Nat.le_refl _, Nat.le_refl _⟩ rfl dX11_mixed_8 (fun i_8 hi_8 hz_8 => ?_) (fun hn_8 => ?_)
    · skip
      have hI8c := (CI_s p0 (show i_8 < 8 by omega)).1
      have hrl8 := rl_s (show i_8 < 8 by omega)
      refine lv_astore (lv' := [(4, .ref (q (8 + 5 * i_8))), (3, .null), (0, .ref (q 0)), (1, .int (J s)), (2, .int (J s2))]) SS.1 SS.2.1 dX11_mixed_11 hl (by decide) rfl (fun ls hl => ?_)
      refine lv_aload_nN SS.1 SS.2.1 dX11_mixed_13 rfl (lv_at hl 1 rfl) ?_
      refine lv_ifnullN SS.1 SS.2.1 (tgt := 22) dX11_mixed_14 (by decide) ?_
      refine j_iconst SS dX11_mixed_22 ?_
      exact W.iret SS.1 SS.2.1 hr (fun t0 ht hW => ⟨⟨_, u, rfl, ⟨(-1), rfl, (⟨p0, ⟨Or.inl ⟨by omega, rfl⟩, by unfold wRg; omega⟩, cs_refl⟩)⟩, by show va_P D.1 j_cl (cW D q u) t0.heap; rw [ht]; first | exact hP | (simp only [sC_id, sX_id, sY_id, sH_id, sT_id, sV_id]; exact hP)⟩, hS.F ht⟩) hS.2.2 dX11_mixed_23 hlk
    · skip
      refine lv_astoreN (lv' := [(4, .null), (3, .null), (0, .ref (q 0)), (1, .int (J s)), (2, .int (J s2))]) SS.1 SS.2.1 dX11_mixed_11 hl (by decide) rfl (fun ls hl => ?_)
      refine lv_aload_nN SS.1 SS.2.1 dX11_mixed_13 rfl (lv_at hl 1 rfl) ?_
      refine lv_ifnullN SS.1 SS.2.1 (tgt := 22) dX11_mixed_14 (by decide) ?_
      refine j_iconst SS dX11_mixed_22 ?_
      exact W.iret SS.1 SS.2.1 hr (fun t0 ht hW => ⟨⟨_, u, rfl, ⟨(-1), rfl, (⟨p0, ⟨Or.inl ⟨by omega, rfl⟩, by unfold wRg; omega⟩, cs_refl⟩)⟩, by show va_P D.1 j_cl (cW D q u) t0.heap; rw [ht]; first | exact hP | (simp only [sC_id, sX_id, sY_id, sH_id, sT_id, sV_id]; exact hP)⟩, hS.F ht⟩) hS.2.2 dX11_mixed_23 hlk

set_option maxHeartbeats 4000000 in
set_option maxRecDepth 100000 in
theorem c_X12_mixed2 (l : Launch) (D : JD) (o : Nat) (q : Nat → Nat) (u : MS) (A : Nat → Prop) (hD : va_D A (mW D o q u)) (s : Int) (s2 : Int) (p0 : IM u) (p1 : -2147483648 ≤ s ∧ s ≤ 2147483647) (p2 : -2147483648 ≤ s2 ∧ s2 ≤ 2147483647) : Met l yX12_mixed (jw yX12_mixed cX12_mixed 6 (some .int)) (jr 4 92) (jP [.ref o, .int (J s), .int (J s2)] D (fun H => va_P D.1 j_cl (mW D o q u) H)) (jWi (fun z u' => ∃ f4 : Nat → Int, ∃ f5 : Nat → Int, ∃ w : Int, ∃ X : Nat → Int, ∃ Y : Nat → Int, ∃ nh : Int, u' = (uV (uI (uI (uV (uI (uI u 4 f4) 5 f5) 6 w) 7 X) 8 Y) 9 nh) ∧ (IM u' ∧ mxM u s s2 z)) (fun u' H => va_P D.1 j_cl (mW D o q u') H) A) 0 0 A := by
  refine Met.ofW (cc := cX12_mixed) (maxL := 6) (ret := (some .int)) (by decide) rfl ?_
  intro pr en st mi args below meth co s₁ B hml hv
  obtain ⟨rfl, hG, hP⟩ := hv
  have hr := B.returns
  have hlk := B.notSynchronized
  have SS : jS pr mi co cX12_mixed 6 st _ RX12 := ⟨B.exec, B.bytes, hml, findClass_of_methodNamed B.named, fun w hw => atoms_spec (ws := (jw yX12_mixed cX12_mixed 6 (some .int))) B.pre w (List.mem_cons_of_mem _ hw)⟩
  have hl := lv_entry ([.ref o, .int (J s), .int (J s2)]) (n := 6) (Nat.le_of_ble_eq_true rfl)
  rw [lg_entry_eq]
  generalize (lg_sl ([.ref o, .int (J s), .int (J s2)]) ++ List.replicate (6 - (lg_sl ([.ref o, .int (J s), .int (J s2)])).length) Slot.unset).toArray = ls at hl ⊢
  have hl : lv_has ls 6 [(0, .ref o), (1, .int (J s)), (2, .int (J s2))] := hl
  have hS : va_S A st.heap st.heap [] := va_S.rf
  refine lv_iload_n SS.1 SS.2.1 dX12_mixed_0 rfl (lv_at hl 1 rfl) ?_
  refine j_sRi SS (As := [.int (J s)]) (rest := []) (c_X12_isShape l D s (show -2147483648 ≤ s ∧ s ≤ 2147483647 from (by omega))) mf_X12_isShape kw_1156 hG trivial rfl hl.1 ⟨⟨Nat.le_of_ble_eq_true rfl, Nat.le_of_ble_eq_true rfl⟩, Nat.le_of_ble_eq_true rfl, Nat.le_refl _, Nat.le_refl _⟩ rfl dX12_mixed_1 (fun z_1 h_1 => ?_)
  have h_1 : (z_1 = 1 ∧ (0 ≤ s ∧ s ≤ 7)) ∨ (z_1 = 0 ∧ ¬ (0 ≤ s ∧ s ≤ 7)) := h_1
  refine j_if_eq SS (tgt := 14) (x := z_1) dX12_mixed_4 (by decide) (by omega) (fun c_4 => ?_) (fun c_4 => ?_)
  · skip
    refine j_iconst SS dX12_mixed_14 ?_
    exact W.iret SS.1 SS.2.1 hr (fun t ht hW => ⟨⟨_, (uV (uI (uI (uV (uI (uI u 4 (u.1 4)) 5 (u.1 5)) 6 (u.2.2 6)) 7 (u.1 7)) 8 (u.1 8)) 9 (u.2.2 9)), rfl, ⟨(-1), rfl, (⟨(u.1 4), (u.1 5), (u.2.2 6), (u.1 7), (u.1 8), (u.2.2 9), rfl, by first | exact ⟨p0, Or.inl ⟨by omega, rfl⟩⟩ | exact ⟨p0, Or.inr ⟨by omega, Or.inl ⟨by omega, rfl⟩⟩⟩ | exact ⟨p0, Or.inr ⟨by omega, Or.inr ⟨by omega, nh_39, X_39, Y_39, a7, by rw [h_110.1, h_116.1, i47_1, show i = nh_39 by omega]; rfl⟩⟩⟩⟩)⟩, by show va_P D.1 j_cl (mW D o q (uV (uI (uI (uV (uI (uI u 4 (u.1 4)) 5 (u.1 5)) 6 (u.2.2 6)) 7 (u.1 7)) 8 (u.1 8)) 9 (u.2.2 9))) t.heap; rw [ht]; exact hP⟩, hS.F ht⟩) hS.2.2 dX12_mixed_15 hlk
  · skip
    refine lv_iload_n SS.1 SS.2.1 dX12_mixed_7 rfl (lv_at hl 2 rfl) ?_
    refine j_sRi SS (As := [.int (J s2)]) (rest := []) (c_X12_isShape l D s2 (show -2147483648 ≤ s2 ∧ s2 ≤ 2147483647 from (by omega))) mf_X12_isShape kw_1156 hG trivial rfl hl.1 ⟨⟨Nat.le_of_ble_eq_true rfl, Nat.le_of_ble_eq_true rfl⟩, Nat.le_of_ble_eq_true rfl, Nat.le_refl _, Nat.le_refl _⟩ rfl dX12_mixed_8 (fun z_8 h_8 => ?_)
    have h_8 : (z_8 = 1 ∧ (0 ≤ s2 ∧ s2 ≤ 7)) ∨ (z_8 = 0 ∧ ¬ (0 ≤ s2 ∧ s2 ≤ 7)) := h_8
    refine j_if_ne SS (tgt := 16) (x := z_8) dX12_mixed_11 (by decide) (by omega) (fun c_11 => ?_) (fun c_11 => ?_)
    · skip
      refine lv_aload_n SS.1 SS.2.1 dX12_mixed_16 rfl (lv_at hl 0 rfl) ?_
      refine j_get SS hG hP 0 (v := .ref (q 0)) (C := RX12) (T := TX12) (N := 31) rfl rfl inX12 0 (by decide) (ref := RX12) kw_1058 rfl rfl dX12_mixed_17 ?_
      refine lv_iload_n SS.1 SS.2.1 dX12_mixed_20 rfl (lv_at hl 1 rfl) ?_
      refine j_iald SS hG hP 1 (n := 8) (f := (u.1 0)) rfl (z := s) (by omega) (by omega) dX12_mixed_21 ?_
      have hN_21 := (show Sh u s from p0.1 _ (by omega) (by omega)).1
      refine j_if_eq SS (tgt := 34) (x := (mN u s)) dX12_mixed_22 (by decide) (by omega) (fun c_22 => ?_) (fun c_22 => ?_)
      · skip
        refine j_iconst SS dX12_mixed_34 ?_
        exact W.iret SS.1 SS.2.1 hr (fun t ht hW => ⟨⟨_, (uV (uI (uI (uV (uI (uI u 4 (u.1 4)) 5 (u.1 5)) 6 (u.2.2 6)) 7 (u.1 7)) 8 (u.1 8)) 9 (u.2.2 9)), rfl, ⟨0, rfl, (⟨(u.1 4), (u.1 5), (u.2.2 6), (u.1 7), (u.1 8), (u.2.2 9), rfl, by first | exact ⟨p0, Or.inl ⟨by omega, rfl⟩⟩ | exact ⟨p0, Or.inr ⟨by omega, Or.inl ⟨by omega, rfl⟩⟩⟩ | exact ⟨p0, Or.inr ⟨by omega, Or.inr ⟨by omega, nh_39, X_39, Y_39, a7, by rw [h_110.1, h_116.1, i47_1, show i = nh_39 by omega]; rfl⟩⟩⟩⟩)⟩, by show va_P D.1 j_cl (mW D o q (uV (uI (uI (uV (uI (uI u 4 (u.1 4)) 5 (u.1 5)) 6 (u.2.2 6)) 7 (u.1 7)) 8 (u.1 8)) 9 (u.2.2 9))) t.heap; rw [ht]; exact hP⟩, hS.F ht⟩) hS.2.2 dX12_mixed_35 hlk
      · skip
        refine lv_aload_n SS.1 SS.2.1 dX12_mixed_25 rfl (lv_at hl 0 rfl) ?_
        refine j_get SS hG hP 0 (v := .ref (q 0)) (C := RX12) (T := TX12) (N := 31) rfl rfl inX12 0 (by decide) (ref := RX12) kw_1058 rfl rfl dX12_mixed_26 ?_
        refine lv_iload_n SS.1 SS.2.1 dX12_mixed_29 rfl (lv_at hl 2 rfl) ?_
        refine j_iald SS hG hP 1 (n := 8) (f := (u.1 0)) rfl (z := s2) (by omega) (by omega) dX12_mixed_30 ?_
        have hN_30 := (show Sh u s2 from p0.1 _ (by omega) (by omega)).1
        refine j_if_ne SS (tgt := 36) (x := (mN u s2)) dX12_mixed_31 (by decide) (by omega) (fun c_31 => ?_) (fun c_31 => ?_)
        · skip
          refine lv_aload_n SS.1 SS.2.1 dX12_mixed_36 rfl (lv_at hl 0 rfl) ?_
          refine lv_iload_n SS.1 SS.2.1 dX12_mixed_37 rfl (lv_at hl 1 rfl) ?_
          refine lv_iload_n SS.1 SS.2.1 dX12_mixed_38 rfl (lv_at hl 2 rfl) ?_
          refine j_vWv SS (As := [.int (J s), .int (J s2)]) (rest := []) (c_X12_findSum2 l D o q u A (mW_D hD) s s2 (show 0 ≤ s ∧ s ≤ 7 from (by omega)) (show Sh u s from (p0.1 _ (by omega) (by omega))) (show 0 ≤ s2 ∧ s2 ≤ 7 from (by omega)) (show Sh u s2 from (p0.1 _ (by omega) (by omega)))) mf_X12_findSum kw_1317 hG hP hP (ci := 8) (q0 := 0) rfl rfl rfl hS (fun _ h => h) rfl hl.1 ⟨⟨Nat.le_of_ble_eq_true rfl, Nat.le_of_ble_eq_true rfl⟩, Nat.le_of_ble_eq_true rfl, Nat.le_refl _, Nat.le_refl _⟩ rfl dX12_mixed_39 (fun u39 H locs h_39 hP _ hS => ?_)
          obtain ⟨f_39, g_39, w_39, X_39, Y_39, nh_39, rfl, h_39⟩ := h_39
          have hP : va_P D.1 j_cl (mW D o q (uV (uI (uI (uV (uI (uI u 4 f_39) 5 g_39) 6 w_39) 7 X_39) 8 Y_39) 9 nh_39)) H := hP
          have h_39 : 0 ≤ nh_39 ∧ nh_39 ≤ 1290 ∧ Ch nh_39 X_39 Y_39 ∧ bd 10000 X_39 Y_39 nh_39 ∧ bd 80 X_39 Y_39 nh_39 ∧ HS (SM (SP u s) (SP u s2)) nh_39 X_39 Y_39 := h_39
          obtain ⟨a1, a2, a3, a4, a5, a7⟩ := h_39
          refine j_iconst SS dX12_mixed_42 ?_
          refine lv_istore_n (lv' := [(3, .int (J 0)), (0, .ref o), (1, .int (J s)), (2, .int (J s2))]) SS.1 SS.2.1 dX12_mixed_43 rfl hl (by decide) rfl (fun ls hl => ?_)
          refine j_iconst SS dX12_mixed_44 ?_
          refine lv_istore (lv' := [(4, .int (J 0)), (3, .int (J 0)), (0, .ref o), (1, .int (J s)), (2, .int (J s2))]) SS.1 SS.2.1 dX12_mixed_45 hl (by decide) rfl (fun ls hl => ?_)
          have L_47 : ∀ (nn : Nat) (t3 : Int) (i : Int) (H : Heap) (locs : List Loc) (hP : va_P D.1 j_cl (mW D o q (uV (uI (uI (uV (uI (uI u 4 f_39) 5 g_39) 6 w_39) 7 X_39) 8 Y_39) 9 nh_39)) H) (hS : va_S A st.heap H locs) (ls : Array Slot) (hl : lv_has ls 6 [(0, .ref o), (1, .int (J s)), (2, .int (J s2)), (3, .int (J t3)), (4, .int (J i))]) (i47_0 : 0 ≤ i ∧ i ≤ nh_39) (i47_1 : t3 = smI (fun i => X_39 i.toNat * nxt Y_39 nh_39 i.toNat - nxt X_39 nh_39 i.toNat * Y_39 i.toNat) i), (nh_39 - i).toNat < nn → W pr l en (headSpec (jw yX12_mixed cX12_mixed 6 (some .int)) (jr 4 92)).room st mi (([.ref o, .int (J s), .int (J s2)] : List Value).toArray) below meth co H locs 0 0 (MQ below (jWi (fun z u' => ∃ f4 : Nat → Int, ∃ f5 : Nat → Int, ∃ w : Int, ∃ X : Nat → Int, ∃ Y : Nat → Int, ∃ nh : Int, u' = (uV (uI (uI (uV (uI (uI u 4 f4) 5 f5) 6 w) 7 X) 8 Y) 9 nh) ∧ (IM u' ∧ mxM u s s2 z)) (fun u' H => va_P D.1 j_cl (mW D o q u') H) A) (([.ref o, .int (J s), .int (J s2)] : List Value).toArray) st 0 0 A) (F0 mi 47 ls []) := by
            intro nn
            induction nn with
            | zero => intros; omega
            | succ nn ih_47 =>
              intro t3 i  H locs hP hS ls hl i47_0 i47_1 hm
              refine lv_iload SS.1 SS.2.1 dX12_mixed_47 (lv_at hl 4 rfl) ?_
              refine lv_aload_n SS.1 SS.2.1 dX12_mixed_49 rfl (lv_at hl 0 rfl) ?_
              refine j_get SS hG hP 0 (v := .int (J nh_39)) (C := RX12) (T := TX12) (N := 31) rfl rfl inX12 9 (by decide) (ref := RX12) kw_1067 rfl rfl dX12_mixed_50 ?_
              refine j_icmp_ge SS (tgt := 107) (x := i) (y := nh_39) dX12_mixed_53 (by decide) (by omega) (by omega) (fun c_53 => ?_) (fun c_53 => ?_)
              · skip
                refine lv_iload_n SS.1 SS.2.1 dX12_mixed_107 rfl (lv_at hl 3 rfl) ?_
                refine lv_aload_n SS.1 SS.2.1 dX12_mixed_108 rfl (lv_at hl 0 rfl) ?_
                refine lv_iload_n SS.1 SS.2.1 dX12_mixed_109 rfl (lv_at hl 1 rfl) ?_
                refine j_vRi SS (As := [.int (J s)]) (rest := [.int (J t3)]) (c_X12_areaOf l D o q (uV (uI (uI (uV (uI (uI u 4 f_39) 5 g_39) 6 w_39) 7 X_39) 8 Y_39) 9 nh_39) s (show 0 ≤ s ∧ s ≤ 7 from (by omega)) (show Sh u s from (p0.1 _ (by omega) (by omega)))) mf_X12_areaOf kw_1218 hG hP hP (ci := 8) (q0 := 0) rfl rfl rfl rfl hl.1 ⟨⟨Nat.le_of_ble_eq_true rfl, Nat.le_of_ble_eq_true rfl⟩, Nat.le_of_ble_eq_true rfl, Nat.le_refl _, Nat.le_refl _⟩ rfl dX12_mixed_110 (fun z_110 h_110 => ?_)
                have h_110 : z_110 = mAr u s ∧ -80000 ≤ z_110 ∧ z_110 ≤ 80000 := h_110
                refine j_isub SS (x := t3) (y := z_110) dX12_mixed_113 ?_
                refine lv_aload_n SS.1 SS.2.1 dX12_mixed_114 rfl (lv_at hl 0 rfl) ?_
                refine lv_iload_n SS.1 SS.2.1 dX12_mixed_115 rfl (lv_at hl 2 rfl) ?_
                refine j_vRi SS (As := [.int (J s2)]) (rest := [.int (J (t3 - z_110))]) (c_X12_areaOf l D o q (uV (uI (uI (uV (uI (uI u 4 f_39) 5 g_39) 6 w_39) 7 X_39) 8 Y_39) 9 nh_39) s2 (show 0 ≤ s2 ∧ s2 ≤ 7 from (by omega)) (show Sh u s2 from (p0.1 _ (by omega) (by omega)))) mf_X12_areaOf kw_1218 hG hP hP (ci := 8) (q0 := 0) rfl rfl rfl rfl hl.1 ⟨⟨Nat.le_of_ble_eq_true rfl, Nat.le_of_ble_eq_true rfl⟩, Nat.le_of_ble_eq_true rfl, Nat.le_refl _, Nat.le_refl _⟩ rfl dX12_mixed_116 (fun z_116 h_116 => ?_)
                have h_116 : z_116 = mAr u s2 ∧ -80000 ≤ z_116 ∧ z_116 ≤ 80000 := h_116
                refine j_isub SS (x := (t3 - z_110)) (y := z_116) dX12_mixed_119 ?_
                exact W.iret SS.1 SS.2.1 hr (fun t ht hW => ⟨⟨_, (uV (uI (uI (uV (uI (uI u 4 f_39) 5 g_39) 6 w_39) 7 X_39) 8 Y_39) 9 nh_39), rfl, ⟨((t3 - z_110) - z_116), rfl, (⟨f_39, g_39, w_39, X_39, Y_39, nh_39, rfl, by first | exact ⟨p0, Or.inl ⟨by omega, rfl⟩⟩ | exact ⟨p0, Or.inr ⟨by omega, Or.inl ⟨by omega, rfl⟩⟩⟩ | exact ⟨p0, Or.inr ⟨by omega, Or.inr ⟨by omega, nh_39, X_39, Y_39, a7, by rw [h_110.1, h_116.1, i47_1, show i = nh_39 by omega]; rfl⟩⟩⟩⟩)⟩, by show va_P D.1 j_cl (mW D o q (uV (uI (uI (uV (uI (uI u 4 f_39) 5 g_39) 6 w_39) 7 X_39) 8 Y_39) 9 nh_39)) t.heap; rw [ht]; exact hP⟩, hS.F ht⟩) hS.2.2 dX12_mixed_120 hlk
              · skip
                refine lv_iload SS.1 SS.2.1 dX12_mixed_56 (lv_at hl 4 rfl) ?_
                refine j_iconst SS dX12_mixed_58 ?_
                refine j_iadd SS (x := i) (y := 1) dX12_mixed_59 ?_
                refine lv_aload_n SS.1 SS.2.1 dX12_mixed_60 rfl (lv_at hl 0 rfl) ?_
                have tb := tm_b (i := i + 1) (n := nh_39) (by omega) (by omega)
                refine j_get SS hG hP 0 (v := .int (J nh_39)) (C := RX12) (T := TX12) (N := 31) rfl rfl inX12 9 (by decide) (ref := RX12) kw_1067 rfl rfl dX12_mixed_61 ?_
                refine j_irem SS (x := (i + 1)) (y := nh_39) dX12_mixed_64 (by omega) (by omega) (by omega) ?_
                refine lv_istore (lv' := [(5, .int (J (Int.tmod (i + 1) nh_39))), (0, .ref o), (1, .int (J s)), (2, .int (J s2)), (3, .int (J t3)), (4, .int (J i))]) SS.1 SS.2.1 dX12_mixed_65 hl (by decide) rfl (fun ls hl => ?_)
                refine lv_iload_n SS.1 SS.2.1 dX12_mixed_67 rfl (lv_at hl 4 rfl) ?_
                refine lv_aload_n SS.1 SS.2.1 dX12_mixed_68 rfl (lv_at hl 1 rfl) ?_
                refine j_get SS hG hP 0 (v := .ref (q 7)) (C := RX12) (T := TX12) (N := 31) rfl rfl inX12 7 (by decide) (ref := RX12) kw_1065 rfl rfl dX12_mixed_69 ?_
                refine lv_iload SS.1 SS.2.1 dX12_mixed_72 (lv_at hl 5 rfl) ?_
                refine j_iald SS hG hP 7 (n := 1300) (f := X_39) rfl (z := i) (by omega) (by omega) dX12_mixed_74 ?_
                refine lv_aload_n SS.1 SS.2.1 dX12_mixed_75 rfl (lv_at hl 1 rfl) ?_
                refine j_get SS hG hP 0 (v := .ref (q 8)) (C := RX12) (T := TX12) (N := 31) rfl rfl inX12 8 (by decide) (ref := RX12) kw_1066 rfl rfl dX12_mixed_76 ?_
                refine lv_iload SS.1 SS.2.1 dX12_mixed_79 (lv_at hl 0 rfl) ?_
                refine j_iald SS hG hP 8 (n := 1300) (f := Y_39) rfl (z := (Int.tmod (i + 1) nh_39)) (by omega) (by omega) dX12_mixed_81 ?_
                refine j_imul SS (x := (X_39 (i).toNat)) (y := (Y_39 ((Int.tmod (i + 1) nh_39)).toNat)) dX12_mixed_82 ?_
                refine lv_aload_n SS.1 SS.2.1 dX12_mixed_83 rfl (lv_at hl 1 rfl) ?_
                refine j_get SS hG hP 0 (v := .ref (q 7)) (C := RX12) (T := TX12) (N := 31) rfl rfl inX12 7 (by decide) (ref := RX12) kw_1065 rfl rfl dX12_mixed_84 ?_
                refine lv_iload SS.1 SS.2.1 dX12_mixed_87 (lv_at hl 0 rfl) ?_
                refine j_iald SS hG hP 7 (n := 1300) (f := X_39) rfl (z := (Int.tmod (i + 1) nh_39)) (by omega) (by omega) dX12_mixed_89 ?_
                refine lv_aload_n SS.1 SS.2.1 dX12_mixed_90 rfl (lv_at hl 1 rfl) ?_
                refine j_get SS hG hP 0 (v := .ref (q 8)) (C := RX12) (T := TX12) (N := 31) rfl rfl inX12 8 (by decide) (ref := RX12) kw_1066 rfl rfl dX12_mixed_91 ?_
                refine lv_iload SS.1 SS.2.1 dX12_mixed_94 (lv_at hl 5 rfl) ?_
                refine j_iald SS hG hP 8 (n := 1300) (f := Y_39) rfl (z := i) (by omega) (by omega) dX12_mixed_96 ?_
                refine j_imul SS (x := (X_39 ((Int.tmod (i + 1) nh_39)).toNat)) (y := (Y_39 (i).toNat)) dX12_mixed_97 ?_
                refine j_isub SS (x := ((X_39 (i).toNat) * (Y_39 ((Int.tmod (i + 1) nh_39)).toNat))) (y := ((X_39 ((Int.tmod (i + 1) nh_39)).toNat) * (Y_39 (i).toNat))) dX12_mixed_98 ?_
                refine j_iadd SS (x := t3) (y := (((X_39 (i).toNat) * (Y_39 ((Int.tmod (i + 1) nh_39)).toNat)) - ((X_39 ((Int.tmod (i + 1) nh_39)).toNat) * (Y_39 (i).toNat)))) dX12_mixed_99 ?_
                refine lv_istore_n (lv' := [(3, .int (J (t3 + (((X_39 (i).toNat) * (Y_39 ((Int.tmod (i + 1) nh_39)).toNat)) - ((X_39 ((Int.tmod (i + 1) nh_39)).toNat) * (Y_39 (i).toNat)))))), (5, .int (J (Int.tmod (i + 1) nh_39))), (0, .ref o), (1, .int (J s)), (2, .int (J s2)), (4, .int (J i))]) SS.1 SS.2.1 dX12_mixed_100 rfl hl (by decide) rfl (fun ls hl => ?_)
                refine lv_iinc (v := J (i + 1)) (lv' := [(4, .int (J (i + 1))), (3, .int (J (t3 + (((X_39 (i).toNat) * (Y_39 ((Int.tmod (i + 1) nh_39)).toNat)) - ((X_39 ((Int.tmod (i + 1) nh_39)).toNat) * (Y_39 (i).toNat)))))), (5, .int (J (Int.tmod (i + 1) nh_39))), (0, .ref o), (1, .int (J s)), (2, .int (J s2))]) SS.1 SS.2.1 dX12_mixed_101 hl (k := 5) rfl (J_add _ _) (by decide) rfl (fun ls hl => ?_)
                refine lv_goto (tgt := 47) SS.1 SS.2.1 dX12_mixed_104 (by decide) ?_
                exact ih_47 (t3 + (((X_39 (i).toNat) * (Y_39 ((Int.tmod (i + 1) nh_39)).toNat)) - ((X_39 ((Int.tmod (i + 1) nh_39)).toNat) * (Y_39 (i).toNat)))) (i + 1) _ _ hP hS ls (lv_sub hl [3, 4, 5, 1, 0] rfl) (by omega) (by rw [smI_s i47_0.1, ← i47_1, ← nxt_tm (X := X_39) (n := nh_39) (i := i) (by omega), ← nxt_tm (X := Y_39) (n := nh_39) (i := i) (by omega)]) (by omega)
          exact L_47 ((nh_39 - (0 : Int)).toNat + 1) 0 0 _ _ hP hS ls (lv_sub hl [2, 3, 4, 1, 0] rfl) (by omega) (by first | exact smI_0.symm | skip) (Nat.lt_succ_self _)
        · skip
          refine j_iconst SS dX12_mixed_34 ?_
          exact W.iret SS.1 SS.2.1 hr (fun t ht hW => ⟨⟨_, (uV (uI (uI (uV (uI (uI u 4 (u.1 4)) 5 (u.1 5)) 6 (u.2.2 6)) 7 (u.1 7)) 8 (u.1 8)) 9 (u.2.2 9)), rfl, ⟨0, rfl, (⟨(u.1 4), (u.1 5), (u.2.2 6), (u.1 7), (u.1 8), (u.2.2 9), rfl, by first | exact ⟨p0, Or.inl ⟨by omega, rfl⟩⟩ | exact ⟨p0, Or.inr ⟨by omega, Or.inl ⟨by omega, rfl⟩⟩⟩ | exact ⟨p0, Or.inr ⟨by omega, Or.inr ⟨by omega, nh_39, X_39, Y_39, a7, by rw [h_110.1, h_116.1, i47_1, show i = nh_39 by omega]; rfl⟩⟩⟩⟩)⟩, by show va_P D.1 j_cl (mW D o q (uV (uI (uI (uV (uI (uI u 4 (u.1 4)) 5 (u.1 5)) 6 (u.2.2 6)) 7 (u.1 7)) 8 (u.1 8)) 9 (u.2.2 9))) t.heap; rw [ht]; exact hP⟩, hS.F ht⟩) hS.2.2 dX12_mixed_35 hlk
    · skip
      refine j_iconst SS dX12_mixed_14 ?_
      exact W.iret SS.1 SS.2.1 hr (fun t ht hW => ⟨⟨_, (uV (uI (uI (uV (uI (uI u 4 (u.1 4)) 5 (u.1 5)) 6 (u.2.2 6)) 7 (u.1 7)) 8 (u.1 8)) 9 (u.2.2 9)), rfl, ⟨(-1), rfl, (⟨(u.1 4), (u.1 5), (u.2.2 6), (u.1 7), (u.1 8), (u.2.2 9), rfl, by first | exact ⟨p0, Or.inl ⟨by omega, rfl⟩⟩ | exact ⟨p0, Or.inr ⟨by omega, Or.inl ⟨by omega, rfl⟩⟩⟩ | exact ⟨p0, Or.inr ⟨by omega, Or.inr ⟨by omega, nh_39, X_39, Y_39, a7, by rw [h_110.1, h_116.1, i47_1, show i = nh_39 by omega]; rfl⟩⟩⟩⟩)⟩, by show va_P D.1 j_cl (mW D o q (uV (uI (uI (uV (uI (uI u 4 (u.1 4)) 5 (u.1 5)) 6 (u.2.2 6)) 7 (u.1 7)) 8 (u.1 8)) 9 (u.2.2 9))) t.heap; rw [ht]; exact hP⟩, hS.F ht⟩) hS.2.2 dX12_mixed_15 hlk


/-! ===== the constructors: rows ===== -/
/-- the private constructors of nest mates, the array of shapes -/
def j_KN (U : State) : Prop := va_AO "GridPolygons$Shape" U ∧ va_Nw (.methodLinkNest RX11 15 yX10_init RX11) U ∧ va_Nw (.methodLinkNest RX11 18 yX3_init RX11) U ∧ va_Nw (.methodLinkNest RX11 25 yX4_init RX11) U ∧ va_Nw (.methodLinkNest RX11 32 yX9_init RX11) U ∧ va_Nw (.methodLinkNest RX11 39 yX0_init RX11) U ∧ va_Nw (.methodLinkNest RX11 46 yX2_init RX11) U ∧ va_Nw (.methodLinkNest RX11 53 yX1_init RX11) U ∧ va_Nw (.methodLinkNest RX2 11 yX5_init RX11) U
theorem j_KN.warm {s U : State} (h : j_KN s) (hW : s.WarmedH U.vm) : j_KN U := ⟨va_AO.moved hW.alike h.1, va_Nw.warmM hW h.2.1, va_Nw.warmM hW h.2.2.1, va_Nw.warmM hW h.2.2.2.1, va_Nw.warmM hW h.2.2.2.2.1, va_Nw.warmM hW h.2.2.2.2.2.1, va_Nw.warmM hW h.2.2.2.2.2.2.1, va_Nw.warmM hW h.2.2.2.2.2.2.2.1, va_Nw.warmM hW h.2.2.2.2.2.2.2.2⟩
theorem j_KN.same {s U : State} (h : j_KN s) (e : s.vm = U.vm) : j_KN U := ⟨va_AO.moved (e ▸ Vm.Alike.refl s.vm) h.1, va_Nw.same rfl e h.2.1, va_Nw.same rfl e h.2.2.1, va_Nw.same rfl e h.2.2.2.1, va_Nw.same rfl e h.2.2.2.2.1, va_Nw.same rfl e h.2.2.2.2.2.1, va_Nw.same rfl e h.2.2.2.2.2.2.1, va_Nw.same rfl e h.2.2.2.2.2.2.2.1, va_Nw.same rfl e h.2.2.2.2.2.2.2.2⟩
abbrev jrc (f n c s : Nat) : Room := { frames := f, cells := c, slots := s, locals := n }
def jPN (As : List Value) (D : JD) (P : Heap → Prop) : Array Value → State → Prop := va_Pc As (fun U => (j_K D U ∧ j_KN U) ∧ P U.heap)
theorem jPN.blind {As : List Value} {D : JD} {P : Heap → Prop} : FrameBlind (jPN As D P) := by
  intro a U g mk h
  obtain ⟨h1, ⟨h2, h4⟩, h3⟩ := h
  exact ⟨h1, ⟨⟨va_K.moved (u := U) (U := U.calling g mk a) (Vm.Alike.refl U.vm) h2.1, va_Nw.same rfl (U := U.calling g mk a) rfl h2.2.1, va_Nw.same rfl (U := U.calling g mk a) rfl h2.2.2.1, va_Nw.same rfl (U := U.calling g mk a) rfl h2.2.2.2.1, va_Nw.same rfl (U := U.calling g mk a) rfl h2.2.2.2.2⟩, h4.same (U := U.calling g mk a) rfl⟩, h3⟩
theorem jPN.at {As : List Value} {D : JD} {P : Heap → Prop} {s : State} {H : Heap} (hG : j_K D s) (hN : j_KN s) (hP : P H) : ∀ U : State, U.heap = H → s.WarmedH U.vm → jPN As D P As.toArray U :=
  fun U hU hW => ⟨rfl, ⟨hG.warm hW, hN.warm hW⟩, by rw [hU]; exact hP⟩
def jmI (y : MethodName) (bytes : ByteArray) (maxL : Nat) (n : Nat) : Prop := Cond.code y bytes maxL none ∈ lw_g ∧ Cond.initialized y.cls ∈ lw_g ∧ Cond.instanceMethod y ∈ lw_g ∧ y.name = "<init>" ∧ jd y n
theorem va_D1 {x : Nat × va_E} {sz : Nat} : va_D (va_A [x] sz) [x] := by
  refine ⟨fun i j p q hi hj _ => ?_, fun k q hk => Or.inl ⟨k, q.2, hk⟩⟩
  have h1 := (List.getElem?_eq_some_iff.mp hi).1
  have h2 := (List.getElem?_eq_some_iff.mp hj).1
  simp at h1 h2
  omega
theorem j_at {ws : va_W} {x : Nat × va_E} : (ws ++ [x])[ws.length]? = some x := by simp
theorem j_lf {ws : va_W} {x y : Nat × va_E} {k : Nat} (h : ws[k]? = some y) : (ws ++ [x])[k]? = some y := by
  rw [List.getElem?_append_left (List.getElem?_eq_some_iff.mp h).1]; exact h
theorem j_lastP {D : va_G} {cl : List vw_C} {ws : va_W} {x : Nat × va_E} {H : Heap} (h : va_P D cl (ws ++ [x]) H) : va_P D cl [x] H := fun k q hk => by
  have h1 := (List.getElem?_eq_some_iff.mp hk).1
  simp at h1
  subst h1
  exact h ws.length q (by rw [j_at]; exact hk)
theorem j_one {x y : Nat × va_E} {k : Nat} (h : [x][k]? = some y) : y = x := by
  have h1 := (List.getElem?_eq_some_iff.mp h).1
  simp at h1
  subst h1
  exact (Option.some.inj h).symm
theorem j_free {A : Nat → Prop} {ws : va_W} {x : Nat × va_E} {H0 H : Heap} {locs : List Loc} (hD : va_D A (ws ++ [x])) (hS : va_S A H0 H locs) (hA : ∀ q, H0.size ≤ q → A q) : ∀ q, va_A [x] H.size q → A q := by
  intro q h
  rcases h with ⟨k, e, h⟩ | h
  · have h2 := j_one h
    have h3 := hD.2 ws.length x j_at
    rw [← h2] at h3
    exact h3
  · exact hA q (Nat.le_trans hS.1 h)
theorem j_join {A : Nat → Prop} {D : va_G} {cl : List vw_C} {ws w1 : va_W} {x : Nat × va_E} {H H1 : Heap} (hP : va_P D cl (ws ++ [x]) H) (hD : va_D A (ws ++ [x])) (hk : ∀ q : Nat, q < H.size → ¬ va_A [x] H.size q → H1[q]? = H[q]?) (hF : ∀ q, va_A [x] H.size q → A q) (hP1 : va_P D cl w1 H1) (hD1 : va_D (va_A [x] H.size) w1) : va_P D cl (ws ++ w1) H1 ∧ va_D A (ws ++ w1) := by
  have apart : ∀ (k : Nat) (q : Nat × va_E), ws[k]? = some q → q.1 < H.size ∧ ¬ va_A [x] H.size q.1 := by
    intro k q hq
    have hl := (hP k q (j_lf hq)).lt
    refine ⟨hl, fun h => ?_⟩
    rcases h with ⟨k2, e, h⟩ | h
    · have h2 := j_one h
      have h3 := hD.1 k ws.length q x (j_lf hq) j_at (by rw [← h2])
      have h4 := (List.getElem?_eq_some_iff.mp hq).1
      omega
    · omega
  refine ⟨va_P.app (fun k q hq => ?_) hP1, va_D.app ⟨fun i j a b hi hj h => hD.1 i j a b (j_lf hi) (j_lf hj) h, fun k q hq => hD.2 k q (j_lf hq)⟩ (hD1.weaken (fun k q _ h => hF q.1 h)) (fun i j a b ha hb hab => ?_)⟩
  · obtain ⟨g1, g2⟩ := apart k q hq
    exact (hP k q (j_lf hq)).kept (hk q.1 g1 g2)
  · exact (apart i a ha).2 (by rw [hab]; exact hD1.2 j b hb)
section JN
variable {p : Program} {l : Launch} {e9 : Env} {R : Room} {s : State} {m : MethodId} {args : Array Value} {below : List Frame} {meth : Method} {c : Code} {H : Heap} {locs : List Loc} {cells slots : Nat} {Q : State → Prop}
variable {cc : ByteArray} {nL : Nat} {own : String} {pc : Nat} {ls : Array Slot} {rest : List Value}
theorem j_newI (S : jS p m c cc nL s args own) {D : JD} {ws : va_W} {A : Nat → Prop} {H0 : Heap} (hG : j_K D s) (hP : va_P D.1 j_cl ws H) (hD : va_D A ws) (hS : va_S A H0 H locs) (hA : ∀ q, H0.size ≤ q → A q) (harr : Cond.arrayClass .int ∈ lw_g) {n : Int} (N : Nat) (h0 : 0 ≤ n ∧ n ≤ 1000000) (e : n.toNat = N) (hcells : cells + 1 ≤ R.cells) (hslots : slots + N ≤ R.slots) (hdg : decode cc pc = .ok (.newarray .int, 2))
    (kk : ∀ (q : Nat) (H1 : Heap), va_P D.1 j_cl (ws ++ [(q, .inl (D.2.1, N, .inl (fun _ => J 0)))]) H1 → va_D A (ws ++ [(q, .inl (D.2.1, N, .inl (fun _ => J 0)))]) → va_S A H0 H1 locs → W p l e9 R s m args below meth c H1 locs (cells + 1) (slots + N) Q (F0 m (pc + 2) ls (.ref q :: rest))) : W p l e9 R s m args below meth c H locs cells slots Q (F0 m pc ls (.int (J n) :: rest)) := by
  refine va_newa (atype := .int) S.1 S.2.1 (S.2.2.2.2 _ harr) (ty := .int) rfl hG.1 hP hD hS hA (N' := N) (a0 := (N, .inl (fun _ => J 0))) (fun cA => rfl) (fun q => absurd ((J_lt (by omega) (by omega)).mp (J_0 ▸ q)) (by omega)) (by rw [J_clamp (by omega)]; exact e) (by show N * 4 ≤ 536870912; omega) hcells hslots hdg (fun q cA H1 hK1 hP1 hD1 hS1 => ?_)
  have h1 : s.vm.findClass ("[" ++ FieldType.toString .int) = some cA := (hK1.2 3 (cA, .int) rfl).2
  have h2 : s.vm.findClass ("[" ++ FieldType.toString .int) = some D.2.1 := (hG.1.2 0 (D.2.1, .int) rfl).2
  have e1 : cA = D.2.1 := Option.some.inj (h1.symm.trans h2)
  subst e1
  exact kk q H1 hP1 hD1 hS1
theorem j_newL (S : jS p m c cc nL s args own) {D : JD} {ws : va_W} {A : Nat → Prop} {H0 : Heap} (hG : j_K D s) (hP : va_P D.1 j_cl ws H) (hD : va_D A ws) (hS : va_S A H0 H locs) (hA : ∀ q, H0.size ≤ q → A q) (harr : Cond.arrayClass .long ∈ lw_g) {n : Int} (N : Nat) (h0 : 0 ≤ n ∧ n ≤ 1000000) (e : n.toNat = N) (hcells : cells + 1 ≤ R.cells) (hslots : slots + N ≤ R.slots) (hdg : decode cc pc = .ok (.newarray .long, 2))
    (kk : ∀ (q : Nat) (H1 : Heap), va_P D.1 j_cl (ws ++ [(q, .inl (D.2.2.1, N, .inr (.inl (fun _ => 0))))]) H1 → va_D A (ws ++ [(q, .inl (D.2.2.1, N, .inr (.inl (fun _ => 0))))]) → va_S A H0 H1 locs → W p l e9 R s m args below meth c H1 locs (cells + 1) (slots + N) Q (F0 m (pc + 2) ls (.ref q :: rest))) : W p l e9 R s m args below meth c H locs cells slots Q (F0 m pc ls (.int (J n) :: rest)) := by
  refine va_newa (atype := .long) S.1 S.2.1 (S.2.2.2.2 _ harr) (ty := .long) rfl hG.1 hP hD hS hA (N' := N) (a0 := (N, .inr (.inl (fun _ => 0)))) (fun cA => rfl) (fun q => absurd ((J_lt (by omega) (by omega)).mp (J_0 ▸ q)) (by omega)) (by rw [J_clamp (by omega)]; exact e) (by show N * 8 ≤ 536870912; omega) hcells hslots hdg (fun q cA H1 hK1 hP1 hD1 hS1 => ?_)
  have h1 : s.vm.findClass ("[" ++ FieldType.toString .long) = some cA := (hK1.2 3 (cA, .long) rfl).2
  have h2 : s.vm.findClass ("[" ++ FieldType.toString .long) = some D.2.2.1 := (hG.1.2 1 (D.2.2.1, .long) rfl).2
  have e1 : cA = D.2.2.1 := Option.some.inj (h1.symm.trans h2)
  subst e1
  exact kk q H1 hP1 hD1 hS1
theorem j_newQ (S : jS p m c cc nL s args own) {D : JD} {ws : va_W} {A : Nat → Prop} {H0 : Heap} {index : Nat} (hG : j_K D s) (hN : j_KN s) (hP : va_P D.1 j_cl ws H) (hD : va_D A ws) (hS : va_S A H0 H locs) (hA : ∀ q, H0.size ≤ q → A q) (hcl : Cond.classLink own index "GridPolygons$Shape" ∈ lw_g) {n : Int} (N : Nat) (h0 : 0 ≤ n ∧ n ≤ 1000000) (e : n.toNat = N) (hcells : cells + 1 ≤ R.cells) (hslots : slots + N ≤ R.slots) (hdg : decode cc pc = .ok (.anewarray index, 3))
    (kk : ∀ (q : Nat) (H1 : Heap), va_P D.1 j_cl (ws ++ [(q, .inl (D.2.2.2, N, .inr (.inr (.inr (.inr (fun _ => none))))))]) H1 → va_D A (ws ++ [(q, .inl (D.2.2.2, N, .inr (.inr (.inr (.inr (fun _ => none))))))]) → va_S A H0 H1 locs → W p l e9 R s m args below meth c H1 locs (cells + 1) (slots + N) Q (F0 m (pc + 3) ls (.ref q :: rest))) : W p l e9 R s m args below meth c H locs cells slots Q (F0 m pc ls (.int (J n) :: rest)) := by
  refine va_newq S.1 S.2.1 S.2.2.2.1 (S.2.2.2.2 _ hcl) hN.1 hG.1 hP hD hS hA (N' := N) (fun q => absurd ((J_lt (by omega) (by omega)).mp (J_0 ▸ q)) (by omega)) (by rw [J_clamp (by omega)]; exact e) (by omega) hcells hslots hdg (fun q cA H1 hK1 hP1 hD1 hS1 => ?_)
  obtain ⟨_, _, _, _, _, h1⟩ : va_RA s cA (.object "GridPolygons$Shape") := (hK1.2 3 (cA, .object "GridPolygons$Shape") rfl).2
  obtain ⟨_, _, _, _, _, h2⟩ : va_RA s D.2.2.2 (.object "GridPolygons$Shape") := (hG.1.2 2 (D.2.2.2, .object "GridPolygons$Shape") rfl).2
  have e1 : cA = D.2.2.2 := Option.some.inj (h1.symm.trans h2)
  subst e1
  exact kk q H1 hP1 hD1 hS1
theorem j_iN (S : jS p m c cc nL s args own) {D : JD} {P : Heap → Prop} {b : Nat} {As : List Value} {U : Type} {B : U → Heap → Prop} {A1 A0 : Nat → Prop} {H0 : Heap} {host : String} {y : MethodName} {bytes : ByteArray} {maxL n index f nl mc ms : Nat} (hM : Met l y (jw y bytes maxL none) (jrc f nl mc ms) (jPN (.ref b :: As) D P) (jWv (fun _ : U => True) B A1) mc ms A1) (hy : jmI y bytes maxL n) (hl : va_Nw (.methodLinkNest own index y host) s) (hG : j_K D s) (hN : j_KN s) (hP : P H) (hS : va_S A0 H0 H locs) (hA : ∀ q, A1 q → A0 q) (hn : As.length = n) (hls : ls.size = nL) (hR : (f + 1 ≤ R.frames ∧ 8 + (maxL + 11) + nl ≤ R.locals) ∧ (rest.map fun v => v.category).sum ≤ 8 ∧ cells + mc ≤ R.cells ∧ slots + ms ≤ R.slots) {st0 : List Value} (hst : st0 = As.reverse ++ .ref b :: rest) (hdg : decode cc pc = .ok (.invokespecial index, 3))
    (k : ∀ (u : U) (H1 : Heap) (locs1 : List Loc), B u H1 → (H.size ≤ H1.size ∧ ∀ q : Nat, q < H.size → ¬ A1 q → H1[q]? = H[q]?) → va_S A0 H0 H1 locs1 → W p l e9 R s m args below meth c H1 locs1 (cells + mc) (slots + ms) Q (F0 m (pc + 3) ls rest)) : W p l e9 R s m args below meth c H locs cells slots Q (F0 m pc ls st0) := by
  refine va_callv (va_runIN S hM ⟨va_cnB n S.2.2.2.2 (j_good hy.1) rfl rfl rfl hl (S.2.2.2.2 _ hy.2.1) hy.2.2.2.2 hR.1, hy.2.2.2.1, S.2.2.2.2 _ hy.2.2.1⟩ ⟨jPN.blind, jPN.at hG hN hP⟩ rfl hn hls hst (lv_room hR.2.1) hdg hR.2.2) hS (fun q _ h => hA q h) hA (fun u t H1 locs1 ht hvm hp hB hz hk hS1 => ?_)
  exact k u H1 locs1 (ht ▸ hB) ⟨hz, hk⟩ hS1
theorem j_iS (S : jS p m c cc nL s args own) {D : JD} {P : Heap → Prop} {b : Nat} {As : List Value} {U : Type} {B : U → Heap → Prop} {A1 A0 : Nat → Prop} {H0 : Heap} {y : MethodName} {bytes : ByteArray} {maxL n index f nl mc ms : Nat} (hM : Met l y (jw y bytes maxL none) (jrc f nl mc ms) (jPN (.ref b :: As) D P) (jWv (fun _ : U => True) B A1) mc ms A1) (hy : jmI y bytes maxL n) (hl : Cond.methodLink own index y ∈ lw_g) (hG : j_K D s) (hN : j_KN s) (hP : P H) (hS : va_S A0 H0 H locs) (hA : ∀ q, A1 q → A0 q) (hn : As.length = n) (hls : ls.size = nL) (hR : (f + 1 ≤ R.frames ∧ 8 + (maxL + 11) + nl ≤ R.locals) ∧ (rest.map fun v => v.category).sum ≤ 8 ∧ cells + mc ≤ R.cells ∧ slots + ms ≤ R.slots) {st0 : List Value} (hst : st0 = As.reverse ++ .ref b :: rest) (hdg : decode cc pc = .ok (.invokespecial index, 3))
    (k : ∀ (u : U) (H1 : Heap) (locs1 : List Loc), B u H1 → (H.size ≤ H1.size ∧ ∀ q : Nat, q < H.size → ¬ A1 q → H1[q]? = H[q]?) → va_S A0 H0 H1 locs1 → W p l e9 R s m args below meth c H1 locs1 (cells + mc) (slots + ms) Q (F0 m (pc + 3) ls rest)) : W p l e9 R s m args below meth c H locs cells slots Q (F0 m pc ls st0) := by
  refine va_callv (va_runI S hM ⟨callB_of n S.2.2.2.2 (j_good hy.1) rfl rfl rfl (S.2.2.2.2 _ hy.2.1) (S.2.2.2.2 _ hl) hy.2.2.2.2 hR.1, hy.2.2.2.1, S.2.2.2.2 _ hy.2.2.1⟩ ⟨jPN.blind, jPN.at hG hN hP⟩ rfl hn hls hst (lv_room hR.2.1) hdg hR.2.2) hS (fun q _ h => hA q h) hA (fun u t H1 locs1 ht hvm hp hB hz hk hS1 => ?_)
  exact k u H1 locs1 (ht ▸ hB) ⟨hz, hk⟩ hS1
end JN

