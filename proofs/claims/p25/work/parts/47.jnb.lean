
set_option maxHeartbeats 4000000 in
set_option maxRecDepth 100000 in
theorem c_X11_mixedF (l : Launch) (D : JD) (q : Nat → Nat) (u : CS) (A : Nat → Prop) (hD : va_D A (cW D q u)) (s : Int) (s2 : Int) (p0 : CI u) (p1 : -2147483648 ≤ s ∧ s ≤ 2147483647) (p2 : -2147483648 ≤ s2 ∧ s2 ≤ 2147483647) : Met l yX11_mixed (jw yX11_mixed cX11_mixed 5 (some .int)) (jr 5 115) (jP [.ref (q 0), .int (J s), .int (J s2)] D (fun H => va_P D.1 j_cl (cW D q u) H)) (jWi (fun z u' => (CI u' ∧ (mxC u s s2 z ∧ wRg z) ∧ cSame u u') ∧ kSam u u') (fun u' H => va_P D.1 j_cl (cW D q u') H) A) 0 0 A := by
  refine Met.ofW (cc := cX11_mixed) (maxL := 5) (ret := (some .int)) (by decide) rfl ?_
  intro pr en st mi args below meth co s₁ B hml hv
  obtain ⟨rfl, hG, hP⟩ := hv
  have hr := B.returns
  have hlk := B.notSynchronized
  have SS : jS pr mi co cX11_mixed 5 st _ RX11 := ⟨B.exec, B.bytes, hml, findClass_of_methodNamed B.named, fun w hw => atoms_spec (ws := (jw yX11_mixed cX11_mixed 5 (some .int))) B.pre w (List.mem_cons_of_mem _ hw)⟩
  have hl := lv_entry ([.ref (q 0), .int (J s), .int (J s2)]) (n := 5) (Nat.le_of_ble_eq_true rfl)
  rw [lg_entry_eq]
  generalize (lg_sl ([.ref (q 0), .int (J s), .int (J s2)]) ++ List.replicate (5 - (lg_sl ([.ref (q 0), .int (J s), .int (J s2)])).length) Slot.unset).toArray = ls at hl ⊢
  have hl : lv_has ls 5 [(0, .ref (q 0)), (1, .int (J s)), (2, .int (J s2))] := hl
  have hS : va_S A st.heap st.heap [] := va_S.rf
  refine lv_aload_n SS.1 SS.2.1 dX11_mixed_0 rfl (lv_at hl 0 rfl) ?_
  refine lv_iload_n SS.1 SS.2.1 dX11_mixed_1 rfl (lv_at hl 1 rfl) ?_
  refine j_vSh SS (As := [.int (J s)]) (rest := []) (c_X11_shapeAt l D q u  s (show -2147483648 ≤ s ∧ s ≤ 2147483647 from (p1))) mf_X11_shapeAt kw_414 hG hP hP (ci := 11) (q0 := 0) rfl rfl rfl rfl hl.1 ⟨⟨Nat.le_of_ble_eq_true rfl, Nat.le_of_ble_eq_true rfl⟩, Nat.le_of_ble_eq_true rfl, Nat.le_refl _, Nat.le_refl _⟩ rfl dX11_mixed_2 (fun i_2 hi_2 hz_2 => ?_) (fun hn_2 => ?_)
  · skip
    have hI2 := CI_s p0 (show i_2 < 8 by omega)
    have hI2c := hI2.1
    have hrl2 := rl_s (show i_2 < 8 by omega)
    refine lv_astore_n (lv' := [(3, .ref (q (8 + 5 * i_2))), (0, .ref (q 0)), (1, .int (J s)), (2, .int (J s2))]) SS.1 SS.2.1 dX11_mixed_5 rfl hl (by decide) rfl (fun ls hl => ?_)
    refine lv_aload_n SS.1 SS.2.1 dX11_mixed_6 rfl (lv_at hl 1 rfl) ?_
    refine lv_iload_n SS.1 SS.2.1 dX11_mixed_7 rfl (lv_at hl 3 rfl) ?_
    refine j_vSh SS (As := [.int (J s2)]) (rest := []) (c_X11_shapeAt l D q u  s2 (show -2147483648 ≤ s2 ∧ s2 ≤ 2147483647 from (p2))) mf_X11_shapeAt kw_414 hG hP hP (ci := 11) (q0 := 0) rfl rfl rfl rfl hl.1 ⟨⟨Nat.le_of_ble_eq_true rfl, Nat.le_of_ble_eq_true rfl⟩, Nat.le_of_ble_eq_true rfl, Nat.le_refl _, Nat.le_refl _⟩ rfl dX11_mixed_8 (fun i_8 hi_8 hz_8 => ?_) (fun hn_8 => ?_)
    · skip
      have hI8c := (CI_s p0 (show i_8 < 8 by omega)).1
      have hrl8 := rl_s (show i_8 < 8 by omega)
      refine lv_astore (lv' := [(4, .ref (q (8 + 5 * i_8))), (3, .ref (q (8 + 5 * i_2))), (0, .ref (q 0)), (1, .int (J s)), (2, .int (J s2))]) SS.1 SS.2.1 dX11_mixed_11 hl (by decide) rfl (fun ls hl => ?_)
      refine lv_aload_n SS.1 SS.2.1 dX11_mixed_13 rfl (lv_at hl 1 rfl) ?_
      refine lv_ifnull SS.1 SS.2.1 dX11_mixed_14 ?_
      refine lv_aload SS.1 SS.2.1 dX11_mixed_17 (lv_at hl 0 rfl) ?_
      refine lv_ifnonnull SS.1 SS.2.1 (tgt := 24) dX11_mixed_19 (by decide) ?_
      refine lv_aload_n SS.1 SS.2.1 dX11_mixed_24 rfl (lv_at hl 1 rfl) ?_
      refine j_get SS hG hP (8 + 5 * i_2) (v := .ref (q (9 + 5 * i_2))) (C := RX10) (T := TX10) (N := 3) (cw_shape (by omega)) rfl inX10 0 (by decide) (ref := "GridPolygons$Shape") kw_151 rfl rfl dX11_mixed_25 ?_
      refine j_getS SS hG hP (9 + 5 * i_2) (v := .int (J (u.1.2.2.1 i_2))) (C := RX7) (T := TX7) (N := 3) (cw_ring (by omega)) rfl inX7 2 (by decide) (ref := "GridPolygons$Ring") kw_135 kw_132 rfl dX11_mixed_28 ?_
      refine j_if_eq SS (tgt := 45) (x := (u.1.2.2.1 i_2)) dX11_mixed_31 (by decide) (by omega) (fun c_31 => ?_) (fun c_31 => ?_)
      · skip
        refine j_iconst SS dX11_mixed_45 ?_
        exact W.iret SS.1 SS.2.1 hr (fun t0 ht hW => ⟨⟨_, u, rfl, ⟨0, rfl, (⟨⟨p0, ⟨Or.inr ⟨by omega, Or.inl ⟨by first | exact Or.inl (by rw [show s.toNat = i_2 by omega]; omega) | exact Or.inr (by rw [show s2.toNat = i_8 by omega]; omega), rfl⟩⟩, by unfold wRg; omega⟩, cs_refl⟩, (by first | exact hs_refl | exact (fun _ _ => rfl)), (by first | exact ss_refl | exact ⟨rfl, fun _ _ => rfl⟩), ⟨⟨(by first | rfl | exact if_neg (by omega) | exact (if_neg (by omega)).trans (if_neg (by omega))), (by first | rfl | exact if_neg (by omega) | exact (if_neg (by omega)).trans (if_neg (by omega))), (by first | rfl | exact if_neg (by omega) | exact (if_neg (by omega)).trans (if_neg (by omega)))⟩, rfl, rfl, rfl⟩, ⟨⟨(by first | rfl | exact if_neg (by omega) | exact (if_neg (by omega)).trans (if_neg (by omega))), (by first | rfl | exact if_neg (by omega) | exact (if_neg (by omega)).trans (if_neg (by omega))), (by first | rfl | exact if_neg (by omega) | exact (if_neg (by omega)).trans (if_neg (by omega)))⟩, ⟨rfl, rfl, rfl, rfl, rfl⟩, ⟨rfl, rfl, rfl, rfl⟩, rfl, rfl, rfl, rfl, rfl⟩⟩)⟩, by show va_P D.1 j_cl (cW D q u) t0.heap; rw [ht]; first | exact hP | (simp only [sC_id, sX_id, sY_id, sH_id, sT_id, sV_id]; exact hP)⟩, hS.F ht⟩) hS.2.2 dX11_mixed_46 hlk
      · skip
        refine lv_aload SS.1 SS.2.1 dX11_mixed_34 (lv_at hl 0 rfl) ?_
        refine j_get SS hG hP (8 + 5 * i_8) (v := .ref (q (9 + 5 * i_8))) (C := RX10) (T := TX10) (N := 3) (cw_shape (by omega)) rfl inX10 0 (by decide) (ref := "GridPolygons$Shape") kw_151 rfl rfl dX11_mixed_36 ?_
        refine j_getS SS hG hP (9 + 5 * i_8) (v := .int (J (u.1.2.2.1 i_8))) (C := RX7) (T := TX7) (N := 3) (cw_ring (by omega)) rfl inX7 2 (by decide) (ref := "GridPolygons$Ring") kw_135 kw_132 rfl dX11_mixed_39 ?_
        refine j_if_ne SS (tgt := 47) (x := (u.1.2.2.1 i_8)) dX11_mixed_42 (by decide) (by omega) (fun c_42 => ?_) (fun c_42 => ?_)
        · skip
          refine lv_aload_n SS.1 SS.2.1 dX11_mixed_47 rfl (lv_at hl 2 rfl) ?_
          refine j_get SS hG hP 0 (v := .ref (q 2)) (C := RX11) (T := TX11) (N := 8) rfl rfl inX11 1 (by decide) (ref := "GridPolygons") kw_386 rfl rfl dX11_mixed_48 ?_
          refine lv_aload_n SS.1 SS.2.1 dX11_mixed_51 rfl (lv_at hl 1 rfl) ?_
          refine j_get SS hG hP (8 + 5 * i_2) (v := .ref (q (9 + 5 * i_2))) (C := RX10) (T := TX10) (N := 3) (cw_shape (by omega)) rfl inX10 0 (by decide) (ref := "GridPolygons$Shape") kw_151 rfl rfl dX11_mixed_52 ?_
          refine lv_aload SS.1 SS.2.1 dX11_mixed_55 (lv_at hl 0 rfl) ?_
          refine j_get SS hG hP (8 + 5 * i_8) (v := .ref (q (9 + 5 * i_8))) (C := RX10) (T := TX10) (N := 3) (cw_shape (by omega)) rfl inX10 0 (by decide) (ref := "GridPolygons$Shape") kw_151 rfl rfl dX11_mixed_57 ?_
          refine j_vWv SS (As := [.ref (q (9 + 5 * i_2)), .ref (q (9 + 5 * i_8))]) (rest := []) (c_X3_closeSum2 l D q u A (cW_D hD) i_2 (by omega) i_8 (by omega)  (show HU_ ((u.2.1 0)) ((u.2.1 1)) from (p0.2.2.1)) (show RB 40 u i_2 from (CI_40 p0 (by omega))) (show RB 40 u i_8 from (CI_40 p0 (by omega))) (show RB 80 u 8 from (p0.2.1.1))) mf_X3_closeSum kw_686 hG hP hP (ci := 3) (q0 := 2) rfl rfl rfl hS (fun _ h => h) rfl hl.1 ⟨⟨Nat.le_of_ble_eq_true rfl, Nat.le_of_ble_eq_true rfl⟩, Nat.le_of_ble_eq_true rfl, Nat.le_refl _, Nat.le_refl _⟩ rfl dX11_mixed_60 (fun u60 H locs h_60 hP _ hS => ?_)
          obtain ⟨f_60, g_60, f8_60, g8_60, n8_60, rfl, h_60⟩ := h_60
          have hP : va_P D.1 j_cl (cW D q (sY (sX (sI (sI (sC u 8 n8_60) 0 f_60) 1 g_60) 8 f8_60) 8 g8_60)) H := hP
          have h_60 : HU_ f_60 g_60 ∧ (0 ≤ n8_60 ∧ n8_60 ≤ 323) ∧ RV 80 f8_60 g8_60 ∧ HS (SM (RP u i_2) (RP u i_8)) n8_60 f8_60 g8_60 := h_60
          have hCI := CI_8 (CI_h p0 h_60.1) h_60.2.1 h_60.2.2.1
          refine lv_aload_n SS.1 SS.2.1 dX11_mixed_63 rfl (lv_at hl 2 rfl) ?_
          refine j_get SS hG hP 0 (v := .ref (q 2)) (C := RX11) (T := TX11) (N := 8) rfl rfl inX11 1 (by decide) (ref := "GridPolygons") kw_386 rfl rfl dX11_mixed_64 ?_
          refine j_get SS hG hP 2 (v := .ref (q (9 + 5 * 8))) (C := RX3) (T := TX3) (N := 3) rfl rfl inX3 2 (by decide) (ref := "GridPolygons$Hull") kw_180 rfl rfl dX11_mixed_67 ?_
          refine j_vRi SS (As := []) (rest := []) (c_X7_area l D q (sY (sX (sI (sI (sC u 8 n8_60) 0 f_60) 1 g_60) 8 f8_60) 8 g8_60) 8 (by omega) (80 : Int)  (show 0 ≤ (80 : Int) ∧ (80 : Int) ≤ 80 from (by omega)) (show RB (80 : Int) (sY (sX (sI (sI (sC u 8 n8_60) 0 f_60) 1 g_60) 8 f8_60) 8 g8_60) 8 from (hCI.2.1.1))) mf_X7_area kw_517 hG hP hP (ci := 7) (q0 := (9 + 5 * 8)) rfl (cw_ring (by omega)) rfl rfl hl.1 ⟨⟨Nat.le_of_ble_eq_true rfl, Nat.le_of_ble_eq_true rfl⟩, Nat.le_of_ble_eq_true rfl, Nat.le_refl _, Nat.le_refl _⟩ rfl dX11_mixed_70 (fun z_70 h_70 => ?_)
          have h_70 : z_70 = rA (sY (sX (sI (sI (sC u 8 n8_60) 0 f_60) 1 g_60) 8 f8_60) 8 g8_60) 8 ∧ -10000000 ≤ z_70 ∧ z_70 ≤ 10000000 := h_70
          refine lv_aload_n SS.1 SS.2.1 dX11_mixed_73 rfl (lv_at hl 1 rfl) ?_
          refine j_get SS hG hP (8 + 5 * i_2) (v := .ref (q (9 + 5 * i_2))) (C := RX10) (T := TX10) (N := 3) (cw_shape (by omega)) rfl inX10 0 (by decide) (ref := "GridPolygons$Shape") kw_151 rfl rfl dX11_mixed_74 ?_
          refine j_vRi SS (As := []) (rest := [.int (J z_70)]) (c_X7_area l D q (sY (sX (sI (sI (sC u 8 n8_60) 0 f_60) 1 g_60) 8 f8_60) 8 g8_60) i_2 (by omega) (80 : Int)  (show 0 ≤ (80 : Int) ∧ (80 : Int) ≤ 80 from (by omega)) (show RB (80 : Int) (sY (sX (sI (sI (sC u 8 n8_60) 0 f_60) 1 g_60) 8 f8_60) 8 g8_60) i_2 from (by first | exact CI_s p0 (by omega) | exact CI_s hCI (by omega)))) mf_X7_area kw_517 hG hP hP (ci := 7) (q0 := (9 + 5 * i_2)) rfl (cw_ring (by omega)) rfl rfl hl.1 ⟨⟨Nat.le_of_ble_eq_true rfl, Nat.le_of_ble_eq_true rfl⟩, Nat.le_of_ble_eq_true rfl, Nat.le_refl _, Nat.le_refl _⟩ rfl dX11_mixed_77 (fun z_77 h_77 => ?_)
          have h_77 : z_77 = rA (sY (sX (sI (sI (sC u 8 n8_60) 0 f_60) 1 g_60) 8 f8_60) 8 g8_60) i_2 ∧ -10000000 ≤ z_77 ∧ z_77 ≤ 10000000 := h_77
          refine j_isub SS (x := z_70) (y := z_77) dX11_mixed_80 ?_
          refine lv_aload SS.1 SS.2.1 dX11_mixed_81 (lv_at hl 0 rfl) ?_
          refine j_get SS hG hP (8 + 5 * i_8) (v := .ref (q (9 + 5 * i_8))) (C := RX10) (T := TX10) (N := 3) (cw_shape (by omega)) rfl inX10 0 (by decide) (ref := "GridPolygons$Shape") kw_151 rfl rfl dX11_mixed_83 ?_
          refine j_vRi SS (As := []) (rest := [.int (J (z_70 - z_77))]) (c_X7_area l D q (sY (sX (sI (sI (sC u 8 n8_60) 0 f_60) 1 g_60) 8 f8_60) 8 g8_60) i_8 (by omega) (80 : Int)  (show 0 ≤ (80 : Int) ∧ (80 : Int) ≤ 80 from (by omega)) (show RB (80 : Int) (sY (sX (sI (sI (sC u 8 n8_60) 0 f_60) 1 g_60) 8 f8_60) 8 g8_60) i_8 from (by first | exact CI_s p0 (by omega) | exact CI_s hCI (by omega)))) mf_X7_area kw_517 hG hP hP (ci := 7) (q0 := (9 + 5 * i_8)) rfl (cw_ring (by omega)) rfl rfl hl.1 ⟨⟨Nat.le_of_ble_eq_true rfl, Nat.le_of_ble_eq_true rfl⟩, Nat.le_of_ble_eq_true rfl, Nat.le_refl _, Nat.le_refl _⟩ rfl dX11_mixed_86 (fun z_86 h_86 => ?_)
          have h_86 : z_86 = rA (sY (sX (sI (sI (sC u 8 n8_60) 0 f_60) 1 g_60) 8 f8_60) 8 g8_60) i_8 ∧ -10000000 ≤ z_86 ∧ z_86 ≤ 10000000 := h_86
          refine j_isub SS (x := (z_70 - z_77)) (y := z_86) dX11_mixed_89 ?_
          exact W.iret SS.1 SS.2.1 hr (fun t0 ht hW => ⟨⟨_, (sY (sX (sI (sI (sC u 8 n8_60) 0 f_60) 1 g_60) 8 f8_60) 8 g8_60), rfl, ⟨((z_70 - z_77) - z_86), rfl, (⟨⟨hCI, ⟨Or.inr ⟨by omega, Or.inr ⟨by rw [show s.toNat = i_2 by omega, show s2.toNat = i_8 by omega]; omega, by rw [show s.toNat = i_2 by omega, show s2.toNat = i_8 by omega]; have e1 : z_70 = hAr n8_60 f8_60 g8_60 := h_70.1.trans ((rA_h hCI.2.1.1).trans (hAr_c rfl (fun a _ => ⟨rfl, rfl⟩))); have e2 : z_77 = rA u i_2 := h_77.1.trans (rA_s (u := u) (by exact ⟨if_neg (by omega), if_neg (by omega), if_neg (by omega)⟩)); have e3 : z_86 = rA u i_8 := h_86.1.trans (rA_s (u := u) (by exact ⟨if_neg (by omega), if_neg (by omega), if_neg (by omega)⟩)); exact ⟨_, _, _, h_60.2.2.2, by rw [e1, e2, e3]⟩⟩⟩, by unfold wRg; omega⟩, (by first | exact cs_refl | exact (fun r hr => ⟨if_neg (by omega), if_neg (by omega), if_neg (by omega)⟩))⟩, (by first | exact hs_refl | exact (fun _ _ => rfl)), (by first | exact ss_refl | exact ⟨rfl, fun _ _ => rfl⟩), ⟨⟨(by first | rfl | exact if_neg (by omega) | exact (if_neg (by omega)).trans (if_neg (by omega))), (by first | rfl | exact if_neg (by omega) | exact (if_neg (by omega)).trans (if_neg (by omega))), (by first | rfl | exact if_neg (by omega) | exact (if_neg (by omega)).trans (if_neg (by omega)))⟩, rfl, rfl, rfl⟩, ⟨⟨(by first | rfl | exact if_neg (by omega) | exact (if_neg (by omega)).trans (if_neg (by omega))), (by first | rfl | exact if_neg (by omega) | exact (if_neg (by omega)).trans (if_neg (by omega))), (by first | rfl | exact if_neg (by omega) | exact (if_neg (by omega)).trans (if_neg (by omega)))⟩, ⟨rfl, rfl, rfl, rfl, rfl⟩, ⟨rfl, rfl, rfl, rfl⟩, rfl, rfl, rfl, rfl, rfl⟩⟩)⟩, by show va_P D.1 j_cl (cW D q (sY (sX (sI (sI (sC u 8 n8_60) 0 f_60) 1 g_60) 8 f8_60) 8 g8_60)) t0.heap; rw [ht]; first | exact hP | (simp only [sC_id, sX_id, sY_id, sH_id, sT_id, sV_id]; exact hP)⟩, hS.F ht⟩) hS.2.2 dX11_mixed_90 hlk
        · skip
          refine j_iconst SS dX11_mixed_45 ?_
          exact W.iret SS.1 SS.2.1 hr (fun t0 ht hW => ⟨⟨_, u, rfl, ⟨0, rfl, (⟨⟨p0, ⟨Or.inr ⟨by omega, Or.inl ⟨by first | exact Or.inl (by rw [show s.toNat = i_2 by omega]; omega) | exact Or.inr (by rw [show s2.toNat = i_8 by omega]; omega), rfl⟩⟩, by unfold wRg; omega⟩, cs_refl⟩, (by first | exact hs_refl | exact (fun _ _ => rfl)), (by first | exact ss_refl | exact ⟨rfl, fun _ _ => rfl⟩), ⟨⟨(by first | rfl | exact if_neg (by omega) | exact (if_neg (by omega)).trans (if_neg (by omega))), (by first | rfl | exact if_neg (by omega) | exact (if_neg (by omega)).trans (if_neg (by omega))), (by first | rfl | exact if_neg (by omega) | exact (if_neg (by omega)).trans (if_neg (by omega)))⟩, rfl, rfl, rfl⟩, ⟨⟨(by first | rfl | exact if_neg (by omega) | exact (if_neg (by omega)).trans (if_neg (by omega))), (by first | rfl | exact if_neg (by omega) | exact (if_neg (by omega)).trans (if_neg (by omega))), (by first | rfl | exact if_neg (by omega) | exact (if_neg (by omega)).trans (if_neg (by omega)))⟩, ⟨rfl, rfl, rfl, rfl, rfl⟩, ⟨rfl, rfl, rfl, rfl⟩, rfl, rfl, rfl, rfl, rfl⟩⟩)⟩, by show va_P D.1 j_cl (cW D q u) t0.heap; rw [ht]; first | exact hP | (simp only [sC_id, sX_id, sY_id, sH_id, sT_id, sV_id]; exact hP)⟩, hS.F ht⟩) hS.2.2 dX11_mixed_46 hlk
    · skip
      refine lv_astoreN (lv' := [(4, .null), (3, .ref (q (8 + 5 * i_2))), (0, .ref (q 0)), (1, .int (J s)), (2, .int (J s2))]) SS.1 SS.2.1 dX11_mixed_11 hl (by decide) rfl (fun ls hl => ?_)
      refine lv_aload_n SS.1 SS.2.1 dX11_mixed_13 rfl (lv_at hl 1 rfl) ?_
      refine lv_ifnull SS.1 SS.2.1 dX11_mixed_14 ?_
      refine lv_aloadN SS.1 SS.2.1 dX11_mixed_17 (lv_at hl 0 rfl) ?_
      refine lv_ifnonnullN SS.1 SS.2.1 dX11_mixed_19 ?_
      refine j_iconst SS dX11_mixed_22 ?_
      exact W.iret SS.1 SS.2.1 hr (fun t0 ht hW => ⟨⟨_, u, rfl, ⟨(-1), rfl, (⟨⟨p0, ⟨Or.inl ⟨by omega, rfl⟩, by unfold wRg; omega⟩, cs_refl⟩, (by first | exact hs_refl | exact (fun _ _ => rfl)), (by first | exact ss_refl | exact ⟨rfl, fun _ _ => rfl⟩), ⟨⟨(by first | rfl | exact if_neg (by omega) | exact (if_neg (by omega)).trans (if_neg (by omega))), (by first | rfl | exact if_neg (by omega) | exact (if_neg (by omega)).trans (if_neg (by omega))), (by first | rfl | exact if_neg (by omega) | exact (if_neg (by omega)).trans (if_neg (by omega)))⟩, rfl, rfl, rfl⟩, ⟨⟨(by first | rfl | exact if_neg (by omega) | exact (if_neg (by omega)).trans (if_neg (by omega))), (by first | rfl | exact if_neg (by omega) | exact (if_neg (by omega)).trans (if_neg (by omega))), (by first | rfl | exact if_neg (by omega) | exact (if_neg (by omega)).trans (if_neg (by omega)))⟩, ⟨rfl, rfl, rfl, rfl, rfl⟩, ⟨rfl, rfl, rfl, rfl⟩, rfl, rfl, rfl, rfl, rfl⟩⟩)⟩, by show va_P D.1 j_cl (cW D q u) t0.heap; rw [ht]; first | exact hP | (simp only [sC_id, sX_id, sY_id, sH_id, sT_id, sV_id]; exact hP)⟩, hS.F ht⟩) hS.2.2 dX11_mixed_23 hlk
  · skip
    refine lv_astore_nN (lv' := [(3, .null), (0, .ref (q 0)), (1, .int (J s)), (2, .int (J s2))]) SS.1 SS.2.1 dX11_mixed_5 rfl hl (by decide) rfl (fun ls hl => ?_)
    refine lv_aload_n SS.1 SS.2.1 dX11_mixed_6 rfl (lv_at hl 1 rfl) ?_
    refine lv_iload_n SS.1 SS.2.1 dX11_mixed_7 rfl (lv_at hl 3 rfl) ?_
    refine j_vSh SS (As := [.int (J s2)]) (rest := []) (c_X11_shapeAt l D q u  s2 (show -2147483648 ≤ s2 ∧ s2 ≤ 2147483647 from (p2))) mf_X11_shapeAt kw_414 hG hP hP (ci := 11) (q0 := 0) rfl rfl rfl rfl hl.1 ⟨⟨Nat.le_of_ble_eq_true rfl, Nat.le_of_ble_eq_true rfl⟩, Nat.le_of_ble_eq_true rfl, Nat.le_refl _, Nat.le_refl _⟩ rfl dX11_mixed_8 (fun i_8 hi_8 hz_8 => ?_) (fun hn_8 => ?_)
    · skip
      have hI8c := (CI_s p0 (show i_8 < 8 by omega)).1
      have hrl8 := rl_s (show i_8 < 8 by omega)
      refine lv_astore (lv' := [(4, .ref (q (8 + 5 * i_8))), (3, .null), (0, .ref (q 0)), (1, .int (J s)), (2, .int (J s2))]) SS.1 SS.2.1 dX11_mixed_11 hl (by decide) rfl (fun ls hl => ?_)
      refine lv_aload_nN SS.1 SS.2.1 dX11_mixed_13 rfl (lv_at hl 1 rfl) ?_
      refine lv_ifnullN SS.1 SS.2.1 (tgt := 22) dX11_mixed_14 (by decide) ?_
      refine j_iconst SS dX11_mixed_22 ?_
      exact W.iret SS.1 SS.2.1 hr (fun t0 ht hW => ⟨⟨_, u, rfl, ⟨(-1), rfl, (⟨⟨p0, ⟨Or.inl ⟨by omega, rfl⟩, by unfold wRg; omega⟩, cs_refl⟩, (by first | exact hs_refl | exact (fun _ _ => rfl)), (by first | exact ss_refl | exact ⟨rfl, fun _ _ => rfl⟩), ⟨⟨(by first | rfl | exact if_neg (by omega) | exact (if_neg (by omega)).trans (if_neg (by omega))), (by first | rfl | exact if_neg (by omega) | exact (if_neg (by omega)).trans (if_neg (by omega))), (by first | rfl | exact if_neg (by omega) | exact (if_neg (by omega)).trans (if_neg (by omega)))⟩, rfl, rfl, rfl⟩, ⟨⟨(by first | rfl | exact if_neg (by omega) | exact (if_neg (by omega)).trans (if_neg (by omega))), (by first | rfl | exact if_neg (by omega) | exact (if_neg (by omega)).trans (if_neg (by omega))), (by first | rfl | exact if_neg (by omega) | exact (if_neg (by omega)).trans (if_neg (by omega)))⟩, ⟨rfl, rfl, rfl, rfl, rfl⟩, ⟨rfl, rfl, rfl, rfl⟩, rfl, rfl, rfl, rfl, rfl⟩⟩)⟩, by show va_P D.1 j_cl (cW D q u) t0.heap; rw [ht]; first | exact hP | (simp only [sC_id, sX_id, sY_id, sH_id, sT_id, sV_id]; exact hP)⟩, hS.F ht⟩) hS.2.2 dX11_mixed_23 hlk
    · skip
      refine lv_astoreN (lv' := [(4, .null), (3, .null), (0, .ref (q 0)), (1, .int (J s)), (2, .int (J s2))]) SS.1 SS.2.1 dX11_mixed_11 hl (by decide) rfl (fun ls hl => ?_)
      refine lv_aload_nN SS.1 SS.2.1 dX11_mixed_13 rfl (lv_at hl 1 rfl) ?_
      refine lv_ifnullN SS.1 SS.2.1 (tgt := 22) dX11_mixed_14 (by decide) ?_
      refine j_iconst SS dX11_mixed_22 ?_
      exact W.iret SS.1 SS.2.1 hr (fun t0 ht hW => ⟨⟨_, u, rfl, ⟨(-1), rfl, (⟨⟨p0, ⟨Or.inl ⟨by omega, rfl⟩, by unfold wRg; omega⟩, cs_refl⟩, (by first | exact hs_refl | exact (fun _ _ => rfl)), (by first | exact ss_refl | exact ⟨rfl, fun _ _ => rfl⟩), ⟨⟨(by first | rfl | exact if_neg (by omega) | exact (if_neg (by omega)).trans (if_neg (by omega))), (by first | rfl | exact if_neg (by omega) | exact (if_neg (by omega)).trans (if_neg (by omega))), (by first | rfl | exact if_neg (by omega) | exact (if_neg (by omega)).trans (if_neg (by omega)))⟩, rfl, rfl, rfl⟩, ⟨⟨(by first | rfl | exact if_neg (by omega) | exact (if_neg (by omega)).trans (if_neg (by omega))), (by first | rfl | exact if_neg (by omega) | exact (if_neg (by omega)).trans (if_neg (by omega))), (by first | rfl | exact if_neg (by omega) | exact (if_neg (by omega)).trans (if_neg (by omega)))⟩, ⟨rfl, rfl, rfl, rfl, rfl⟩, ⟨rfl, rfl, rfl, rfl⟩, rfl, rfl, rfl, rfl, rfl⟩⟩)⟩, by show va_P D.1 j_cl (cW D q u) t0.heap; rw [ht]; first | exact hP | (simp only [sC_id, sX_id, sY_id, sH_id, sT_id, sV_id]; exact hP)⟩, hS.F ht⟩) hS.2.2 dX11_mixed_23 hlk

set_option maxHeartbeats 4000000 in
set_option maxRecDepth 100000 in
theorem c_X11_leastF (l : Launch) (D : JD) (q : Nat → Nat) (u : CS) (A : Nat → Prop) (hD : va_D A (cW D q u)) (s : Int) (what : Int) (p0 : CI u) (p1 : -2147483648 ≤ s ∧ s ≤ 2147483647) (p2 : -2147483648 ≤ what ∧ what ≤ 2147483647) : Met l yX11_least (jw yX11_least cX11_least 4 (some .int)) (jr 4 104) (jP [.ref (q 0), .int (J s), .int (J what)] D (fun H => va_P D.1 j_cl (cW D q u) H)) (jWi (fun z u' => (CI u' ∧ (leC u s what z ∧ wRg z) ∧ cSame u u') ∧ kSam u u') (fun u' H => va_P D.1 j_cl (cW D q u') H) A) 0 0 A := by
  refine Met.ofW (cc := cX11_least) (maxL := 4) (ret := (some .int)) (by decide) rfl ?_
  intro pr en st mi args below meth co s₁ B hml hv
  obtain ⟨rfl, hG, hP⟩ := hv
  have hr := B.returns
  have hlk := B.notSynchronized
  have SS : jS pr mi co cX11_least 4 st _ RX11 := ⟨B.exec, B.bytes, hml, findClass_of_methodNamed B.named, fun w hw => atoms_spec (ws := (jw yX11_least cX11_least 4 (some .int))) B.pre w (List.mem_cons_of_mem _ hw)⟩
  have hl := lv_entry ([.ref (q 0), .int (J s), .int (J what)]) (n := 4) (Nat.le_of_ble_eq_true rfl)
  rw [lg_entry_eq]
  generalize (lg_sl ([.ref (q 0), .int (J s), .int (J what)]) ++ List.replicate (4 - (lg_sl ([.ref (q 0), .int (J s), .int (J what)])).length) Slot.unset).toArray = ls at hl ⊢
  have hl : lv_has ls 4 [(0, .ref (q 0)), (1, .int (J s)), (2, .int (J what))] := hl
  have hS : va_S A st.heap st.heap [] := va_S.rf
  refine lv_aload_n SS.1 SS.2.1 dX11_least_0 rfl (lv_at hl 0 rfl) ?_
  refine lv_iload_n SS.1 SS.2.1 dX11_least_1 rfl (lv_at hl 1 rfl) ?_
  refine j_vSh SS (As := [.int (J s)]) (rest := []) (c_X11_shapeAt l D q u  s (show -2147483648 ≤ s ∧ s ≤ 2147483647 from (p1))) mf_X11_shapeAt kw_414 hG hP hP (ci := 11) (q0 := 0) rfl rfl rfl rfl hl.1 ⟨⟨Nat.le_of_ble_eq_true rfl, Nat.le_of_ble_eq_true rfl⟩, Nat.le_of_ble_eq_true rfl, Nat.le_refl _, Nat.le_refl _⟩ rfl dX11_least_2 (fun i_2 hi_2 hz_2 => ?_) (fun hn_2 => ?_)
  · skip
    have hI2 := CI_s p0 (show i_2 < 8 by omega)
    have hI2c := hI2.1
    have hrl2 := rl_s (show i_2 < 8 by omega)
    refine lv_astore_n (lv' := [(3, .ref (q (8 + 5 * i_2))), (0, .ref (q 0)), (1, .int (J s)), (2, .int (J what))]) SS.1 SS.2.1 dX11_least_5 rfl hl (by decide) rfl (fun ls hl => ?_)
    refine lv_aload_n SS.1 SS.2.1 dX11_least_6 rfl (lv_at hl 0 rfl) ?_
    refine lv_ifnull SS.1 SS.2.1 dX11_least_7 ?_
    refine lv_iload_n SS.1 SS.2.1 dX11_least_10 rfl (lv_at hl 3 rfl) ?_
    refine j_if_lt SS (tgt := 29) (x := what) dX11_least_11 (by decide) (by omega) (fun c_11 => ?_) (fun c_11 => ?_)
    · skip
      refine j_ldc SS (-1000000) kw_512 dX11_least_29 ?_
      exact W.iret SS.1 SS.2.1 hr (fun t0 ht hW => ⟨⟨_, u, rfl, ⟨(-1000000), rfl, (⟨⟨p0, ⟨Or.inl ⟨fun q => by first | (have q1 := q.1; have q2 := q.2.1; omega) | (have q1 := q.2.2; rw [show s.toNat = i_2 by omega] at q1; omega), rfl⟩, by unfold wRg; omega⟩, cs_refl⟩, (by first | exact hs_refl | exact (fun _ _ => rfl)), (by first | exact ss_refl | exact ⟨rfl, fun _ _ => rfl⟩), ⟨⟨(by first | rfl | exact if_neg (by omega) | exact (if_neg (by omega)).trans (if_neg (by omega))), (by first | rfl | exact if_neg (by omega) | exact (if_neg (by omega)).trans (if_neg (by omega))), (by first | rfl | exact if_neg (by omega) | exact (if_neg (by omega)).trans (if_neg (by omega)))⟩, rfl, rfl, rfl⟩, ⟨⟨(by first | rfl | exact if_neg (by omega) | exact (if_neg (by omega)).trans (if_neg (by omega))), (by first | rfl | exact if_neg (by omega) | exact (if_neg (by omega)).trans (if_neg (by omega))), (by first | rfl | exact if_neg (by omega) | exact (if_neg (by omega)).trans (if_neg (by omega)))⟩, ⟨rfl, rfl, rfl, rfl, rfl⟩, ⟨rfl, rfl, rfl, rfl⟩, rfl, rfl, rfl, rfl, rfl⟩⟩)⟩, by show va_P D.1 j_cl (cW D q u) t0.heap; rw [ht]; first | exact hP | (simp only [sC_id, sX_id, sY_id, sH_id, sT_id, sV_id]; exact hP)⟩, hS.F ht⟩) hS.2.2 dX11_least_31 hlk
    · skip
      refine lv_iload_n SS.1 SS.2.1 dX11_least_14 rfl (lv_at hl 3 rfl) ?_
      refine j_iconst SS dX11_least_15 ?_
      refine j_icmp_gt SS (tgt := 29) (x := what) (y := 2) dX11_least_16 (by decide) (by omega) (by decide) (fun c_16 => ?_) (fun c_16 => ?_)
      · skip
        refine j_ldc SS (-1000000) kw_512 dX11_least_29 ?_
        exact W.iret SS.1 SS.2.1 hr (fun t0 ht hW => ⟨⟨_, u, rfl, ⟨(-1000000), rfl, (⟨⟨p0, ⟨Or.inl ⟨fun q => by first | (have q1 := q.1; have q2 := q.2.1; omega) | (have q1 := q.2.2; rw [show s.toNat = i_2 by omega] at q1; omega), rfl⟩, by unfold wRg; omega⟩, cs_refl⟩, (by first | exact hs_refl | exact (fun _ _ => rfl)), (by first | exact ss_refl | exact ⟨rfl, fun _ _ => rfl⟩), ⟨⟨(by first | rfl | exact if_neg (by omega) | exact (if_neg (by omega)).trans (if_neg (by omega))), (by first | rfl | exact if_neg (by omega) | exact (if_neg (by omega)).trans (if_neg (by omega))), (by first | rfl | exact if_neg (by omega) | exact (if_neg (by omega)).trans (if_neg (by omega)))⟩, rfl, rfl, rfl⟩, ⟨⟨(by first | rfl | exact if_neg (by omega) | exact (if_neg (by omega)).trans (if_neg (by omega))), (by first | rfl | exact if_neg (by omega) | exact (if_neg (by omega)).trans (if_neg (by omega))), (by first | rfl | exact if_neg (by omega) | exact (if_neg (by omega)).trans (if_neg (by omega)))⟩, ⟨rfl, rfl, rfl, rfl, rfl⟩, ⟨rfl, rfl, rfl, rfl⟩, rfl, rfl, rfl, rfl, rfl⟩⟩)⟩, by show va_P D.1 j_cl (cW D q u) t0.heap; rw [ht]; first | exact hP | (simp only [sC_id, sX_id, sY_id, sH_id, sT_id, sV_id]; exact hP)⟩, hS.F ht⟩) hS.2.2 dX11_least_31 hlk
      · skip
        refine lv_aload_n SS.1 SS.2.1 dX11_least_19 rfl (lv_at hl 0 rfl) ?_
        refine j_get SS hG hP (8 + 5 * i_2) (v := .ref (q (9 + 5 * i_2))) (C := RX10) (T := TX10) (N := 3) (cw_shape (by omega)) rfl inX10 0 (by decide) (ref := "GridPolygons$Shape") kw_151 rfl rfl dX11_least_20 ?_
        refine j_vRi SS (As := []) (rest := []) (c_X7_isPolygon l D q u i_2 (by omega) (40 : Int)  (show 0 ≤ (40 : Int) ∧ (40 : Int) ≤ 80 from (by omega)) (show RB (40 : Int) u i_2 from (CI_40 p0 (by omega)))) mf_X7_isPolygon kw_568 hG hP hP (ci := 7) (q0 := (9 + 5 * i_2)) rfl (cw_ring (by omega)) rfl rfl hl.1 ⟨⟨Nat.le_of_ble_eq_true rfl, Nat.le_of_ble_eq_true rfl⟩, Nat.le_of_ble_eq_true rfl, Nat.le_refl _, Nat.le_refl _⟩ rfl dX11_least_23 (fun z_23 h_23 => ?_)
        have h_23 : (z_23 = 1 ∧ 3 ≤ (u.1.2.2.1 i_2)) ∨ (z_23 = 0 ∧ (u.1.2.2.1 i_2) < 3) := h_23
        refine j_if_ne SS (tgt := 32) (x := z_23) dX11_least_26 (by decide) (by omega) (fun c_26 => ?_) (fun c_26 => ?_)
        · skip
          refine lv_aload_n SS.1 SS.2.1 dX11_least_32 rfl (lv_at hl 1 rfl) ?_
          refine j_get SS hG hP 0 (v := .ref (q 3)) (C := RX11) (T := TX11) (N := 8) rfl rfl inX11 2 (by decide) (ref := "GridPolygons") kw_387 rfl rfl dX11_least_33 ?_
          refine lv_aload_n SS.1 SS.2.1 dX11_least_36 rfl (lv_at hl 0 rfl) ?_
          refine j_get SS hG hP (8 + 5 * i_2) (v := .ref (q (9 + 5 * i_2))) (C := RX10) (T := TX10) (N := 3) (cw_shape (by omega)) rfl inX10 0 (by decide) (ref := "GridPolygons$Shape") kw_151 rfl rfl dX11_least_37 ?_
          refine j_vWv SS (As := [.ref (q (9 + 5 * i_2))]) (rest := []) (c_X4_find3 l D q u A (cW_D hD) i_2 (by omega)  (show RB 40 u i_2 from (CI_40 p0 (by omega))) (show 3 ≤ (u.1.2.2.1 i_2) from (by omega))) mf_X4_find kw_639 hG hP hP (ci := 4) (q0 := 3) rfl rfl rfl hS (fun _ h => h) rfl hl.1 ⟨⟨Nat.le_of_ble_eq_true rfl, Nat.le_of_ble_eq_true rfl⟩, Nat.le_of_ble_eq_true rfl, Nat.le_refl _, Nat.le_refl _⟩ rfl dX11_least_40 (fun u40 H locs h_40 hP _ hS => ?_)
          obtain ⟨c1_40, a1_40, b1_40, rfl, h_40⟩ := h_40
          have hP : va_P D.1 j_cl (cW D q (sV (sV (sV u 1 c1_40) 2 a1_40) 3 b1_40)) H := hP
          have h_40 : (cWh u i_2 ≠ 0 → cLm u i_2 (fun _ _ => True) c1_40 a1_40 b1_40) ∧ (0 ≤ c1_40 ∧ c1_40 ≤ 6400000) ∧ (-20000 ≤ a1_40 ∧ a1_40 ≤ 20000) ∧ -20000 ≤ b1_40 ∧ b1_40 ≤ 20000 := h_40
          refine lv_iload_n SS.1 SS.2.1 dX11_least_43 rfl (lv_at hl 3 rfl) ?_
          refine j_if_ne SS (tgt := 55) (x := what) dX11_least_44 (by decide) (by omega) (fun c_44 => ?_) (fun c_44 => ?_)
          · skip
            refine lv_iload_n SS.1 SS.2.1 dX11_least_55 rfl (lv_at hl 3 rfl) ?_
            refine j_iconst SS dX11_least_56 ?_
            refine j_icmp_ne SS (tgt := 70) (x := what) (y := 1) dX11_least_57 (by decide) (by omega) (by decide) (fun c_57 => ?_) (fun c_57 => ?_)
            · skip
              refine lv_aload_n SS.1 SS.2.1 dX11_least_70 rfl (lv_at hl 1 rfl) ?_
              refine j_get SS hG hP 0 (v := .ref (q 3)) (C := RX11) (T := TX11) (N := 8) rfl rfl inX11 2 (by decide) (ref := "GridPolygons") kw_387 rfl rfl dX11_least_71 ?_
              refine j_get SS hG hP 3 (v := .int (J b1_40)) (C := RX4) (T := TX4) (N := 3) rfl rfl inX4 2 (by decide) (ref := "GridPolygons$LeastWidth") kw_199 rfl rfl dX11_least_74 ?_
              exact W.iret SS.1 SS.2.1 hr (fun t0 ht hW => ⟨⟨_, (sV (sV (sV u 1 c1_40) 2 a1_40) 3 b1_40), rfl, ⟨b1_40, rfl, (⟨⟨CI_lw p0, ⟨Or.inr ⟨⟨by omega, by omega, by rw [show s.toNat = i_2 by omega]; omega⟩, fun hw => ⟨_, _, _, by rw [show s.toNat = i_2 by omega] at hw ⊢; exact h_40.1 hw, by first | exact Or.inr (Or.inl ⟨by omega, rfl⟩) | exact Or.inr (Or.inr ⟨by omega, rfl⟩)⟩⟩, by unfold wRg; omega⟩, cs_refl⟩, (by first | exact hs_refl | exact (fun _ _ => rfl)), (by first | exact ss_refl | exact ⟨rfl, fun _ _ => rfl⟩), ⟨⟨(by first | rfl | exact if_neg (by omega) | exact (if_neg (by omega)).trans (if_neg (by omega))), (by first | rfl | exact if_neg (by omega) | exact (if_neg (by omega)).trans (if_neg (by omega))), (by first | rfl | exact if_neg (by omega) | exact (if_neg (by omega)).trans (if_neg (by omega)))⟩, rfl, rfl, rfl⟩, ⟨⟨(by first | rfl | exact if_neg (by omega) | exact (if_neg (by omega)).trans (if_neg (by omega))), (by first | rfl | exact if_neg (by omega) | exact (if_neg (by omega)).trans (if_neg (by omega))), (by first | rfl | exact if_neg (by omega) | exact (if_neg (by omega)).trans (if_neg (by omega)))⟩, ⟨rfl, rfl, rfl, rfl, rfl⟩, ⟨rfl, rfl, rfl, rfl⟩, rfl, rfl, rfl, rfl, rfl⟩⟩)⟩, by show va_P D.1 j_cl (cW D q (sV (sV (sV u 1 c1_40) 2 a1_40) 3 b1_40)) t0.heap; rw [ht]; first | exact hP | (simp only [sC_id, sX_id, sY_id, sH_id, sT_id, sV_id]; exact hP)⟩, hS.F ht⟩) hS.2.2 dX11_least_77 hlk
            · skip
              refine lv_aload_n SS.1 SS.2.1 dX11_least_60 rfl (lv_at hl 1 rfl) ?_
              refine j_get SS hG hP 0 (v := .ref (q 3)) (C := RX11) (T := TX11) (N := 8) rfl rfl inX11 2 (by decide) (ref := "GridPolygons") kw_387 rfl rfl dX11_least_61 ?_
              refine j_get SS hG hP 3 (v := .int (J a1_40)) (C := RX4) (T := TX4) (N := 3) rfl rfl inX4 1 (by decide) (ref := "GridPolygons$LeastWidth") kw_197 rfl rfl dX11_least_64 ?_
              refine lv_goto (tgt := 77) SS.1 SS.2.1 dX11_least_67 (by decide) ?_
              exact W.iret SS.1 SS.2.1 hr (fun t0 ht hW => ⟨⟨_, (sV (sV (sV u 1 c1_40) 2 a1_40) 3 b1_40), rfl, ⟨a1_40, rfl, (⟨⟨CI_lw p0, ⟨Or.inr ⟨⟨by omega, by omega, by rw [show s.toNat = i_2 by omega]; omega⟩, fun hw => ⟨_, _, _, by rw [show s.toNat = i_2 by omega] at hw ⊢; exact h_40.1 hw, by first | exact Or.inr (Or.inl ⟨by omega, rfl⟩) | exact Or.inr (Or.inr ⟨by omega, rfl⟩)⟩⟩, by unfold wRg; omega⟩, cs_refl⟩, (by first | exact hs_refl | exact (fun _ _ => rfl)), (by first | exact ss_refl | exact ⟨rfl, fun _ _ => rfl⟩), ⟨⟨(by first | rfl | exact if_neg (by omega) | exact (if_neg (by omega)).trans (if_neg (by omega))), (by first | rfl | exact if_neg (by omega) | exact (if_neg (by omega)).trans (if_neg (by omega))), (by first | rfl | exact if_neg (by omega) | exact (if_neg (by omega)).trans (if_neg (by omega)))⟩, rfl, rfl, rfl⟩, ⟨⟨(by first | rfl | exact if_neg (by omega) | exact (if_neg (by omega)).trans (if_neg (by omega))), (by first | rfl | exact if_neg (by omega) | exact (if_neg (by omega)).trans (if_neg (by omega))), (by first | rfl | exact if_neg (by omega) | exact (if_neg (by omega)).trans (if_neg (by omega)))⟩, ⟨rfl, rfl, rfl, rfl, rfl⟩, ⟨rfl, rfl, rfl, rfl⟩, rfl, rfl, rfl, rfl, rfl⟩⟩)⟩, by show va_P D.1 j_cl (cW D q (sV (sV (sV u 1 c1_40) 2 a1_40) 3 b1_40)) t0.heap; rw [ht]; first | exact hP | (simp only [sC_id, sX_id, sY_id, sH_id, sT_id, sV_id]; exact hP)⟩, hS.F ht⟩) hS.2.2 dX11_least_77 hlk
          · skip
            refine lv_aload_n SS.1 SS.2.1 dX11_least_47 rfl (lv_at hl 1 rfl) ?_
            refine j_get SS hG hP 0 (v := .ref (q 3)) (C := RX11) (T := TX11) (N := 8) rfl rfl inX11 2 (by decide) (ref := "GridPolygons") kw_387 rfl rfl dX11_least_48 ?_
            refine j_get SS hG hP 3 (v := .int (J c1_40)) (C := RX4) (T := TX4) (N := 3) rfl rfl inX4 0 (by decide) (ref := "GridPolygons$LeastWidth") kw_195 rfl rfl dX11_least_51 ?_
            exact W.iret SS.1 SS.2.1 hr (fun t0 ht hW => ⟨⟨_, (sV (sV (sV u 1 c1_40) 2 a1_40) 3 b1_40), rfl, ⟨c1_40, rfl, (⟨⟨CI_lw p0, ⟨Or.inr ⟨⟨by omega, by omega, by rw [show s.toNat = i_2 by omega]; omega⟩, fun hw => ⟨_, _, _, by rw [show s.toNat = i_2 by omega] at hw ⊢; exact h_40.1 hw, Or.inl ⟨by omega, rfl⟩⟩⟩, by unfold wRg; omega⟩, cs_refl⟩, (by first | exact hs_refl | exact (fun _ _ => rfl)), (by first | exact ss_refl | exact ⟨rfl, fun _ _ => rfl⟩), ⟨⟨(by first | rfl | exact if_neg (by omega) | exact (if_neg (by omega)).trans (if_neg (by omega))), (by first | rfl | exact if_neg (by omega) | exact (if_neg (by omega)).trans (if_neg (by omega))), (by first | rfl | exact if_neg (by omega) | exact (if_neg (by omega)).trans (if_neg (by omega)))⟩, rfl, rfl, rfl⟩, ⟨⟨(by first | rfl | exact if_neg (by omega) | exact (if_neg (by omega)).trans (if_neg (by omega))), (by first | rfl | exact if_neg (by omega) | exact (if_neg (by omega)).trans (if_neg (by omega))), (by first | rfl | exact if_neg (by omega) | exact (if_neg (by omega)).trans (if_neg (by omega)))⟩, ⟨rfl, rfl, rfl, rfl, rfl⟩, ⟨rfl, rfl, rfl, rfl⟩, rfl, rfl, rfl, rfl, rfl⟩⟩)⟩, by show va_P D.1 j_cl (cW D q (sV (sV (sV u 1 c1_40) 2 a1_40) 3 b1_40)) t0.heap; rw [ht]; first | exact hP | (simp only [sC_id, sX_id, sY_id, sH_id, sT_id, sV_id]; exact hP)⟩, hS.F ht⟩) hS.2.2 dX11_least_54 hlk
        · skip
          refine j_ldc SS (-1000000) kw_512 dX11_least_29 ?_
          exact W.iret SS.1 SS.2.1 hr (fun t0 ht hW => ⟨⟨_, u, rfl, ⟨(-1000000), rfl, (⟨⟨p0, ⟨Or.inl ⟨fun q => by first | (have q1 := q.1; have q2 := q.2.1; omega) | (have q1 := q.2.2; rw [show s.toNat = i_2 by omega] at q1; omega), rfl⟩, by unfold wRg; omega⟩, cs_refl⟩, (by first | exact hs_refl | exact (fun _ _ => rfl)), (by first | exact ss_refl | exact ⟨rfl, fun _ _ => rfl⟩), ⟨⟨(by first | rfl | exact if_neg (by omega) | exact (if_neg (by omega)).trans (if_neg (by omega))), (by first | rfl | exact if_neg (by omega) | exact (if_neg (by omega)).trans (if_neg (by omega))), (by first | rfl | exact if_neg (by omega) | exact (if_neg (by omega)).trans (if_neg (by omega)))⟩, rfl, rfl, rfl⟩, ⟨⟨(by first | rfl | exact if_neg (by omega) | exact (if_neg (by omega)).trans (if_neg (by omega))), (by first | rfl | exact if_neg (by omega) | exact (if_neg (by omega)).trans (if_neg (by omega))), (by first | rfl | exact if_neg (by omega) | exact (if_neg (by omega)).trans (if_neg (by omega)))⟩, ⟨rfl, rfl, rfl, rfl, rfl⟩, ⟨rfl, rfl, rfl, rfl⟩, rfl, rfl, rfl, rfl, rfl⟩⟩)⟩, by show va_P D.1 j_cl (cW D q u) t0.heap; rw [ht]; first | exact hP | (simp only [sC_id, sX_id, sY_id, sH_id, sT_id, sV_id]; exact hP)⟩, hS.F ht⟩) hS.2.2 dX11_least_31 hlk
  · skip
    refine lv_astore_nN (lv' := [(3, .null), (0, .ref (q 0)), (1, .int (J s)), (2, .int (J what))]) SS.1 SS.2.1 dX11_least_5 rfl hl (by decide) rfl (fun ls hl => ?_)
    refine lv_aload_nN SS.1 SS.2.1 dX11_least_6 rfl (lv_at hl 0 rfl) ?_
    refine lv_ifnullN SS.1 SS.2.1 (tgt := 29) dX11_least_7 (by decide) ?_
    refine j_ldc SS (-1000000) kw_512 dX11_least_29 ?_
    exact W.iret SS.1 SS.2.1 hr (fun t0 ht hW => ⟨⟨_, u, rfl, ⟨(-1000000), rfl, (⟨⟨p0, ⟨Or.inl ⟨fun q => by first | (have q1 := q.1; have q2 := q.2.1; omega) | (have q1 := q.2.2; rw [show s.toNat = i_2 by omega] at q1; omega), rfl⟩, by unfold wRg; omega⟩, cs_refl⟩, (by first | exact hs_refl | exact (fun _ _ => rfl)), (by first | exact ss_refl | exact ⟨rfl, fun _ _ => rfl⟩), ⟨⟨(by first | rfl | exact if_neg (by omega) | exact (if_neg (by omega)).trans (if_neg (by omega))), (by first | rfl | exact if_neg (by omega) | exact (if_neg (by omega)).trans (if_neg (by omega))), (by first | rfl | exact if_neg (by omega) | exact (if_neg (by omega)).trans (if_neg (by omega)))⟩, rfl, rfl, rfl⟩, ⟨⟨(by first | rfl | exact if_neg (by omega) | exact (if_neg (by omega)).trans (if_neg (by omega))), (by first | rfl | exact if_neg (by omega) | exact (if_neg (by omega)).trans (if_neg (by omega))), (by first | rfl | exact if_neg (by omega) | exact (if_neg (by omega)).trans (if_neg (by omega)))⟩, ⟨rfl, rfl, rfl, rfl, rfl⟩, ⟨rfl, rfl, rfl, rfl⟩, rfl, rfl, rfl, rfl, rfl⟩⟩)⟩, by show va_P D.1 j_cl (cW D q u) t0.heap; rw [ht]; first | exact hP | (simp only [sC_id, sX_id, sY_id, sH_id, sT_id, sV_id]; exact hP)⟩, hS.F ht⟩) hS.2.2 dX11_least_31 hlk

set_option maxHeartbeats 4000000 in
set_option maxRecDepth 100000 in
theorem c_X11_partsF (l : Launch) (D : JD) (q : Nat → Nat) (u : CS) (A : Nat → Prop) (hD : va_D A (cW D q u)) (s : Int) (p0 : CI u) (p1 : -2147483648 ≤ s ∧ s ≤ 2147483647) : Met l yX11_parts (jw yX11_parts cX11_parts 3 (some .long)) (jr 5 111) (jP [.ref (q 0), .int (J s)] D (fun H => va_P D.1 j_cl (cW D q u) H)) (jWl (fun u' => (CI u' ∧ cSame u u') ∧ kSam u u') (fun u' H => va_P D.1 j_cl (cW D q u') H) A) 0 0 A := by
  refine Met.ofW (cc := cX11_parts) (maxL := 3) (ret := (some .long)) (by decide) rfl ?_
  intro pr en st mi args below meth co s₁ B hml hv
  obtain ⟨rfl, hG, hP⟩ := hv
  have hr := B.returns
  have hlk := B.notSynchronized
  have SS : jS pr mi co cX11_parts 3 st _ RX11 := ⟨B.exec, B.bytes, hml, findClass_of_methodNamed B.named, fun w hw => atoms_spec (ws := (jw yX11_parts cX11_parts 3 (some .long))) B.pre w (List.mem_cons_of_mem _ hw)⟩
  have hl := lv_entry ([.ref (q 0), .int (J s)]) (n := 3) (Nat.le_of_ble_eq_true rfl)
  rw [lg_entry_eq]
  generalize (lg_sl ([.ref (q 0), .int (J s)]) ++ List.replicate (3 - (lg_sl ([.ref (q 0), .int (J s)])).length) Slot.unset).toArray = ls at hl ⊢
  have hl : lv_has ls 3 [(0, .ref (q 0)), (1, .int (J s))] := hl
  have hS : va_S A st.heap st.heap [] := va_S.rf
  refine lv_aload_n SS.1 SS.2.1 dX11_parts_0 rfl (lv_at hl 0 rfl) ?_
  refine lv_iload_n SS.1 SS.2.1 dX11_parts_1 rfl (lv_at hl 1 rfl) ?_
  refine j_vSh SS (As := [.int (J s)]) (rest := []) (c_X11_shapeAt l D q u  s (show -2147483648 ≤ s ∧ s ≤ 2147483647 from (p1))) mf_X11_shapeAt kw_414 hG hP hP (ci := 11) (q0 := 0) rfl rfl rfl rfl hl.1 ⟨⟨Nat.le_of_ble_eq_true rfl, Nat.le_of_ble_eq_true rfl⟩, Nat.le_of_ble_eq_true rfl, Nat.le_refl _, Nat.le_refl _⟩ rfl dX11_parts_2 (fun i_2 hi_2 hz_2 => ?_) (fun hn_2 => ?_)
  · skip
    have hI2 := CI_s p0 (show i_2 < 8 by omega)
    have hI2c := hI2.1
    have hrl2 := rl_s (show i_2 < 8 by omega)
    refine lv_astore_n (lv' := [(2, .ref (q (8 + 5 * i_2))), (0, .ref (q 0)), (1, .int (J s))]) SS.1 SS.2.1 dX11_parts_5 rfl hl (by decide) rfl (fun ls hl => ?_)
    refine lv_aload_n SS.1 SS.2.1 dX11_parts_6 rfl (lv_at hl 0 rfl) ?_
    refine lv_ifnonnull SS.1 SS.2.1 (tgt := 14) dX11_parts_7 (by decide) ?_
    refine lv_aload_n SS.1 SS.2.1 dX11_parts_14 rfl (lv_at hl 0 rfl) ?_
    refine j_get SS hG hP (8 + 5 * i_2) (v := .ref (q (9 + 5 * i_2))) (C := RX10) (T := TX10) (N := 3) (cw_shape (by omega)) rfl inX10 0 (by decide) (ref := "GridPolygons$Shape") kw_151 rfl rfl dX11_parts_15 ?_
    refine j_vRi SS (As := []) (rest := []) (c_X7_isPolygon l D q u i_2 (by omega) (40 : Int)  (show 0 ≤ (40 : Int) ∧ (40 : Int) ≤ 80 from (by omega)) (show RB (40 : Int) u i_2 from (CI_40 p0 (by omega)))) mf_X7_isPolygon kw_568 hG hP hP (ci := 7) (q0 := (9 + 5 * i_2)) rfl (cw_ring (by omega)) rfl rfl hl.1 ⟨⟨Nat.le_of_ble_eq_true rfl, Nat.le_of_ble_eq_true rfl⟩, Nat.le_of_ble_eq_true rfl, Nat.le_refl _, Nat.le_refl _⟩ rfl dX11_parts_18 (fun z_18 h_18 => ?_)
    have h_18 : (z_18 = 1 ∧ 3 ≤ (u.1.2.2.1 i_2)) ∨ (z_18 = 0 ∧ (u.1.2.2.1 i_2) < 3) := h_18
    refine j_if_eq SS (tgt := 38) (x := z_18) dX11_parts_21 (by decide) (by omega) (fun c_21 => ?_) (fun c_21 => ?_)
    · skip
      refine lv_ldc2 SS.1 SS.2.1 SS.2.2.2.1 (SS.2.2.2.2 _ kw_576) dX11_parts_38 ?_
      exact W.lret SS.1 SS.2.1 hr (fun t0 ht hW => ⟨⟨_, u, rfl, (⟨⟨by first | exact p0 | exact CI_hm p0, (by first | exact cs_refl | exact (fun r hr => ⟨if_neg (by omega), if_neg (by omega), if_neg (by omega)⟩))⟩, (by first | exact hs_refl | exact (fun _ _ => rfl)), (by first | exact ss_refl | exact ⟨rfl, fun _ _ => rfl⟩), ⟨⟨(by first | rfl | exact if_neg (by omega) | exact (if_neg (by omega)).trans (if_neg (by omega))), (by first | rfl | exact if_neg (by omega) | exact (if_neg (by omega)).trans (if_neg (by omega))), (by first | rfl | exact if_neg (by omega) | exact (if_neg (by omega)).trans (if_neg (by omega)))⟩, rfl, rfl, rfl⟩, ⟨⟨(by first | rfl | exact if_neg (by omega) | exact (if_neg (by omega)).trans (if_neg (by omega))), (by first | rfl | exact if_neg (by omega) | exact (if_neg (by omega)).trans (if_neg (by omega))), (by first | rfl | exact if_neg (by omega) | exact (if_neg (by omega)).trans (if_neg (by omega)))⟩, ⟨rfl, rfl, rfl, rfl, rfl⟩, ⟨rfl, rfl, rfl, rfl⟩, rfl, rfl, rfl, rfl, rfl⟩⟩), by show va_P D.1 j_cl (cW D q u) t0.heap; rw [ht]; first | exact hP | (simp only [sC_id, sX_id, sY_id, sH_id, sT_id, sV_id]; exact hP)⟩, hS.F ht⟩) hS.2.2 dX11_parts_41 hlk
    · skip
      refine lv_aload_n SS.1 SS.2.1 dX11_parts_24 rfl (lv_at hl 1 rfl) ?_
      refine j_get SS hG hP 0 (v := .ref (q 5)) (C := RX11) (T := TX11) (N := 8) rfl rfl inX11 4 (by decide) (ref := "GridPolygons") kw_389 rfl rfl dX11_parts_25 ?_
      refine lv_aload_n SS.1 SS.2.1 dX11_parts_28 rfl (lv_at hl 0 rfl) ?_
      refine j_get SS hG hP (8 + 5 * i_2) (v := .ref (q (9 + 5 * i_2))) (C := RX10) (T := TX10) (N := 3) (cw_shape (by omega)) rfl inX10 0 (by decide) (ref := "GridPolygons$Shape") kw_151 rfl rfl dX11_parts_29 ?_
      refine j_vWl SS (As := [.ref (q (9 + 5 * i_2))]) (rest := []) (c_X0_howMany l D q u A (cW_D hD) i_2 (by omega)  (show RB 40 u i_2 from (CI_40 p0 (by omega)))) mf_X0_howMany kw_700 hG hP hP (ci := 0) (q0 := 5) rfl rfl rfl hS (fun _ h => h) rfl hl.1 ⟨⟨Nat.le_of_ble_eq_true rfl, Nat.le_of_ble_eq_true rfl⟩, Nat.le_of_ble_eq_true rfl, Nat.le_refl _, Nat.le_refl _⟩ rfl dX11_parts_32 (fun x_32 u32 H locs h_32 hP _ hS => ?_)
      obtain ⟨lf_32, bt_32, wd_32, tl_32, sp_32, dx_32, dy_32, w0_32, w1_32, rfl, h_32⟩ := h_32
      have hP : va_P D.1 j_cl (cW D q (sV (sV (sV (sV (sV (sV (sV (sL (sL u 0 w0_32) 1 w1_32) 13 lf_32) 14 bt_32) 15 wd_32) 16 tl_32) 17 sp_32) 18 dx_32) 19 dy_32)) H := hP
      have h_32 : True := h_32
      refine lv_goto (tgt := 41) SS.1 SS.2.1 dX11_parts_35 (by decide) ?_
      exact W.lret SS.1 SS.2.1 hr (fun t0 ht hW => ⟨⟨_, (sV (sV (sV (sV (sV (sV (sV (sL (sL u 0 w0_32) 1 w1_32) 13 lf_32) 14 bt_32) 15 wd_32) 16 tl_32) 17 sp_32) 18 dx_32) 19 dy_32), rfl, (⟨⟨by first | exact p0 | exact CI_hm p0, (by first | exact cs_refl | exact (fun r hr => ⟨if_neg (by omega), if_neg (by omega), if_neg (by omega)⟩))⟩, (by first | exact hs_refl | exact (fun _ _ => rfl)), (by first | exact ss_refl | exact ⟨rfl, fun _ _ => rfl⟩), ⟨⟨(by first | rfl | exact if_neg (by omega) | exact (if_neg (by omega)).trans (if_neg (by omega))), (by first | rfl | exact if_neg (by omega) | exact (if_neg (by omega)).trans (if_neg (by omega))), (by first | rfl | exact if_neg (by omega) | exact (if_neg (by omega)).trans (if_neg (by omega)))⟩, rfl, rfl, rfl⟩, ⟨⟨(by first | rfl | exact if_neg (by omega) | exact (if_neg (by omega)).trans (if_neg (by omega))), (by first | rfl | exact if_neg (by omega) | exact (if_neg (by omega)).trans (if_neg (by omega))), (by first | rfl | exact if_neg (by omega) | exact (if_neg (by omega)).trans (if_neg (by omega)))⟩, ⟨rfl, rfl, rfl, rfl, rfl⟩, ⟨rfl, rfl, rfl, rfl⟩, rfl, rfl, rfl, rfl, rfl⟩⟩), by show va_P D.1 j_cl (cW D q (sV (sV (sV (sV (sV (sV (sV (sL (sL u 0 w0_32) 1 w1_32) 13 lf_32) 14 bt_32) 15 wd_32) 16 tl_32) 17 sp_32) 18 dx_32) 19 dy_32)) t0.heap; rw [ht]; first | exact hP | (simp only [sC_id, sX_id, sY_id, sH_id, sT_id, sV_id]; exact hP)⟩, hS.F ht⟩) hS.2.2 dX11_parts_41 hlk
  · skip
    refine lv_astore_nN (lv' := [(2, .null), (0, .ref (q 0)), (1, .int (J s))]) SS.1 SS.2.1 dX11_parts_5 rfl hl (by decide) rfl (fun ls hl => ?_)
    refine lv_aload_nN SS.1 SS.2.1 dX11_parts_6 rfl (lv_at hl 0 rfl) ?_
    refine lv_ifnonnullN SS.1 SS.2.1 dX11_parts_7 ?_
    refine lv_ldc2 SS.1 SS.2.1 SS.2.2.2.1 (SS.2.2.2.2 _ kw_562) dX11_parts_10 ?_
    exact W.lret SS.1 SS.2.1 hr (fun t0 ht hW => ⟨⟨_, u, rfl, (⟨⟨p0, (by first | exact cs_refl | exact (fun r hr => ⟨if_neg (by omega), if_neg (by omega), if_neg (by omega)⟩))⟩, (by first | exact hs_refl | exact (fun _ _ => rfl)), (by first | exact ss_refl | exact ⟨rfl, fun _ _ => rfl⟩), ⟨⟨(by first | rfl | exact if_neg (by omega) | exact (if_neg (by omega)).trans (if_neg (by omega))), (by first | rfl | exact if_neg (by omega) | exact (if_neg (by omega)).trans (if_neg (by omega))), (by first | rfl | exact if_neg (by omega) | exact (if_neg (by omega)).trans (if_neg (by omega)))⟩, rfl, rfl, rfl⟩, ⟨⟨(by first | rfl | exact if_neg (by omega) | exact (if_neg (by omega)).trans (if_neg (by omega))), (by first | rfl | exact if_neg (by omega) | exact (if_neg (by omega)).trans (if_neg (by omega))), (by first | rfl | exact if_neg (by omega) | exact (if_neg (by omega)).trans (if_neg (by omega)))⟩, ⟨rfl, rfl, rfl, rfl, rfl⟩, ⟨rfl, rfl, rfl, rfl⟩, rfl, rfl, rfl, rfl, rfl⟩⟩), by show va_P D.1 j_cl (cW D q u) t0.heap; rw [ht]; first | exact hP | (simp only [sC_id, sX_id, sY_id, sH_id, sT_id, sV_id]; exact hP)⟩, hS.F ht⟩) hS.2.2 dX11_parts_13 hlk

set_option maxHeartbeats 4000000 in
set_option maxRecDepth 100000 in
theorem c_X11_partF (l : Launch) (D : JD) (q : Nat → Nat) (u : CS) (A : Nat → Prop) (hD : va_D A (cW D q u)) (s : Int) (i : Int) (p0 : CI u) (p1 : -2147483648 ≤ s ∧ s ≤ 2147483647) (p2 : -2147483648 ≤ i ∧ i ≤ 2147483647) : Met l yX11_part (jw yX11_part cX11_part 4 (some .int)) (jr 6 135) (jP [.ref (q 0), .int (J s), .int (J i)] D (fun H => va_P D.1 j_cl (cW D q u) H)) (jWi (fun z u' => (CI u' ∧ cSame u u') ∧ kSam u u') (fun u' H => va_P D.1 j_cl (cW D q u') H) A) 0 0 A := by
  refine Met.ofW (cc := cX11_part) (maxL := 4) (ret := (some .int)) (by decide) rfl ?_
  intro pr en st mi args below meth co s₁ B hml hv
  obtain ⟨rfl, hG, hP⟩ := hv
  have hr := B.returns
  have hlk := B.notSynchronized
  have SS : jS pr mi co cX11_part 4 st _ RX11 := ⟨B.exec, B.bytes, hml, findClass_of_methodNamed B.named, fun w hw => atoms_spec (ws := (jw yX11_part cX11_part 4 (some .int))) B.pre w (List.mem_cons_of_mem _ hw)⟩
  have hl := lv_entry ([.ref (q 0), .int (J s), .int (J i)]) (n := 4) (Nat.le_of_ble_eq_true rfl)
  rw [lg_entry_eq]
  generalize (lg_sl ([.ref (q 0), .int (J s), .int (J i)]) ++ List.replicate (4 - (lg_sl ([.ref (q 0), .int (J s), .int (J i)])).length) Slot.unset).toArray = ls at hl ⊢
  have hl : lv_has ls 4 [(0, .ref (q 0)), (1, .int (J s)), (2, .int (J i))] := hl
  have hS : va_S A st.heap st.heap [] := va_S.rf
  refine lv_aload_n SS.1 SS.2.1 dX11_part_0 rfl (lv_at hl 0 rfl) ?_
  refine lv_iload_n SS.1 SS.2.1 dX11_part_1 rfl (lv_at hl 1 rfl) ?_
  refine j_vSh SS (As := [.int (J s)]) (rest := []) (c_X11_shapeAt l D q u  s (show -2147483648 ≤ s ∧ s ≤ 2147483647 from (p1))) mf_X11_shapeAt kw_414 hG hP hP (ci := 11) (q0 := 0) rfl rfl rfl rfl hl.1 ⟨⟨Nat.le_of_ble_eq_true rfl, Nat.le_of_ble_eq_true rfl⟩, Nat.le_of_ble_eq_true rfl, Nat.le_refl _, Nat.le_refl _⟩ rfl dX11_part_2 (fun i_2 hi_2 hz_2 => ?_) (fun hn_2 => ?_)
  · skip
    have hI2 := CI_s p0 (show i_2 < 8 by omega)
    have hI2c := hI2.1
    have hrl2 := rl_s (show i_2 < 8 by omega)
    refine lv_astore_n (lv' := [(3, .ref (q (8 + 5 * i_2))), (0, .ref (q 0)), (1, .int (J s)), (2, .int (J i))]) SS.1 SS.2.1 dX11_part_5 rfl hl (by decide) rfl (fun ls hl => ?_)
    refine lv_aload_n SS.1 SS.2.1 dX11_part_6 rfl (lv_at hl 0 rfl) ?_
    refine lv_ifnull SS.1 SS.2.1 dX11_part_7 ?_
    refine lv_iload_n SS.1 SS.2.1 dX11_part_10 rfl (lv_at hl 3 rfl) ?_
    refine j_iconst SS dX11_part_11 ?_
    refine j_icmp_lt SS (tgt := 26) (x := i) (y := (-1)) dX11_part_12 (by decide) (by omega) (by decide) (fun c_12 => ?_) (fun c_12 => ?_)
    · skip
      refine j_iconst SS dX11_part_26 ?_
      exact W.iret SS.1 SS.2.1 hr (fun t0 ht hW => ⟨⟨_, u, rfl, ⟨(-1), rfl, (⟨⟨p0, (by first | exact cs_refl | exact (fun r hr => ⟨if_neg (by omega), if_neg (by omega), if_neg (by omega)⟩))⟩, (by first | exact hs_refl | exact (fun _ _ => rfl)), (by first | exact ss_refl | exact ⟨rfl, fun _ _ => rfl⟩), ⟨⟨(by first | rfl | exact if_neg (by omega) | exact (if_neg (by omega)).trans (if_neg (by omega))), (by first | rfl | exact if_neg (by omega) | exact (if_neg (by omega)).trans (if_neg (by omega))), (by first | rfl | exact if_neg (by omega) | exact (if_neg (by omega)).trans (if_neg (by omega)))⟩, rfl, rfl, rfl⟩, ⟨⟨(by first | rfl | exact if_neg (by omega) | exact (if_neg (by omega)).trans (if_neg (by omega))), (by first | rfl | exact if_neg (by omega) | exact (if_neg (by omega)).trans (if_neg (by omega))), (by first | rfl | exact if_neg (by omega) | exact (if_neg (by omega)).trans (if_neg (by omega)))⟩, ⟨rfl, rfl, rfl, rfl, rfl⟩, ⟨rfl, rfl, rfl, rfl⟩, rfl, rfl, rfl, rfl, rfl⟩⟩)⟩, by show va_P D.1 j_cl (cW D q u) t0.heap; rw [ht]; first | exact hP | (simp only [sC_id, sX_id, sY_id, sH_id, sT_id, sV_id]; exact hP)⟩, hS.F ht⟩) hS.2.2 dX11_part_27 hlk
    · skip
      refine lv_iload_n SS.1 SS.2.1 dX11_part_15 rfl (lv_at hl 3 rfl) ?_
      refine lv_aload_n SS.1 SS.2.1 dX11_part_16 rfl (lv_at hl 0 rfl) ?_
      refine j_get SS hG hP (8 + 5 * i_2) (v := .ref (q (9 + 5 * i_2))) (C := RX10) (T := TX10) (N := 3) (cw_shape (by omega)) rfl inX10 0 (by decide) (ref := "GridPolygons$Shape") kw_151 rfl rfl dX11_part_17 ?_
      refine j_getS SS hG hP (9 + 5 * i_2) (v := .int (J (u.1.2.2.1 i_2))) (C := RX7) (T := TX7) (N := 3) (cw_ring (by omega)) rfl inX7 2 (by decide) (ref := "GridPolygons$Ring") kw_135 kw_132 rfl dX11_part_20 ?_
      refine j_icmp_lt SS (tgt := 28) (x := i) (y := (u.1.2.2.1 i_2)) dX11_part_23 (by decide) (by omega) (by omega) (fun c_23 => ?_) (fun c_23 => ?_)
      · skip
        refine lv_aload_n SS.1 SS.2.1 dX11_part_28 rfl (lv_at hl 0 rfl) ?_
        refine j_get SS hG hP (8 + 5 * i_2) (v := .ref (q (9 + 5 * i_2))) (C := RX10) (T := TX10) (N := 3) (cw_shape (by omega)) rfl inX10 0 (by decide) (ref := "GridPolygons$Shape") kw_151 rfl rfl dX11_part_29 ?_
        refine j_vRi SS (As := []) (rest := []) (c_X7_isPolygon l D q u i_2 (by omega) (40 : Int)  (show 0 ≤ (40 : Int) ∧ (40 : Int) ≤ 80 from (by omega)) (show RB (40 : Int) u i_2 from (CI_40 p0 (by omega)))) mf_X7_isPolygon kw_568 hG hP hP (ci := 7) (q0 := (9 + 5 * i_2)) rfl (cw_ring (by omega)) rfl rfl hl.1 ⟨⟨Nat.le_of_ble_eq_true rfl, Nat.le_of_ble_eq_true rfl⟩, Nat.le_of_ble_eq_true rfl, Nat.le_refl _, Nat.le_refl _⟩ rfl dX11_part_32 (fun z_32 h_32 => ?_)
        have h_32 : (z_32 = 1 ∧ 3 ≤ (u.1.2.2.1 i_2)) ∨ (z_32 = 0 ∧ (u.1.2.2.1 i_2) < 3) := h_32
        refine j_if_ne SS (tgt := 41) (x := z_32) dX11_part_35 (by decide) (by omega) (fun c_35 => ?_) (fun c_35 => ?_)
        · skip
          refine lv_aload_n SS.1 SS.2.1 dX11_part_41 rfl (lv_at hl 1 rfl) ?_
          refine j_get SS hG hP 0 (v := .ref (q 5)) (C := RX11) (T := TX11) (N := 8) rfl rfl inX11 4 (by decide) (ref := "GridPolygons") kw_389 rfl rfl dX11_part_42 ?_
          refine lv_aload_n SS.1 SS.2.1 dX11_part_45 rfl (lv_at hl 0 rfl) ?_
          refine j_vWv SS (As := [.ref (q (8 + 5 * i_2))]) (rest := []) (c_X0_findLeast l D q u A (cW_D hD) i_2 (by omega)  (show RB 40 u i_2 from (CI_40 p0 (by omega))) (show ∀ k : Nat, 0 ≤ (u.2.1 5) k ∧ (u.2.1 5) k ≤ 1000000 from (p0.2.2.2.2.1.1)) (show ∀ k : Nat, 0 ≤ (u.2.1 6) k ∧ (u.2.1 6) k ≤ 80 from (p0.2.2.2.2.1.2.1)) (show -2147483648 ≤ (u.2.2.2 12) ∧ (u.2.2.2 12) ≤ 2147483647 from (p0.2.2.2.2.1.2.2)) (show -2147483648 ≤ (u.1.2.2.2.2 i_2) ∧ (u.1.2.2.2.2 i_2) ≤ 2147483647 from ((p0.1 i_2 (by omega)).2.2))) mf_X0_findLeast kw_743 hG hP hP (ci := 0) (q0 := 5) rfl rfl rfl hS (fun _ h => h) rfl hl.1 ⟨⟨Nat.le_of_ble_eq_true rfl, Nat.le_of_ble_eq_true rfl⟩, Nat.le_of_ble_eq_true rfl, Nat.le_refl _, Nat.le_refl _⟩ rfl dX11_part_46 (fun u46 H locs h_46 hP _ hS => ?_)
          obtain ⟨v10_46, v11_46, v12_46, v13_46, v14_46, v15_46, v16_46, v17_46, v18_46, v19_46, f5_46, f6_46, rfl, h_46⟩ := h_46
          have hP : va_P D.1 j_cl (cW D q (sV (sV (sV (sV (sV (sV (sV (sV (sV (sV (sI (sI u 5 f5_46) 6 f6_46) 10 v10_46) 11 v11_46) 12 v12_46) 13 v13_46) 14 v14_46) 15 v15_46) 16 v16_46) 17 v17_46) 18 v18_46) 19 v19_46)) H := hP
          have h_46 : (∀ k : Nat, 0 ≤ f5_46 k ∧ f5_46 k ≤ 1000000) ∧ (∀ k : Nat, 0 ≤ f6_46 k ∧ f6_46 k ≤ 80) ∧ -2147483648 ≤ v12_46 ∧ v12_46 ≤ 2147483647 := h_46
          refine lv_iload_n SS.1 SS.2.1 dX11_part_49 rfl (lv_at hl 3 rfl) ?_
          refine j_iconst SS dX11_part_50 ?_
          refine j_icmp_ne SS (tgt := 64) (x := i) (y := (-1)) dX11_part_51 (by decide) (by omega) (by decide) (fun c_51 => ?_) (fun c_51 => ?_)
          · skip
            refine lv_aload_n SS.1 SS.2.1 dX11_part_64 rfl (lv_at hl 1 rfl) ?_
            refine j_get SS hG hP 0 (v := .ref (q 5)) (C := RX11) (T := TX11) (N := 8) rfl rfl inX11 4 (by decide) (ref := "GridPolygons") kw_389 rfl rfl dX11_part_65 ?_
            refine lv_iload_n SS.1 SS.2.1 dX11_part_68 rfl (lv_at hl 3 rfl) ?_
            refine j_vRi SS (As := [.int (J i)]) (rest := []) (c_X0_takenOf l D q (sV (sV (sV (sV (sV (sV (sV (sV (sV (sV (sI (sI u 5 f5_46) 6 f6_46) 10 v10_46) 11 v11_46) 12 v12_46) 13 v13_46) 14 v14_46) 15 v15_46) 16 v16_46) 17 v17_46) 18 v18_46) 19 v19_46)  i (show -2147483648 ≤ i ∧ i ≤ 2147483647 from (by omega))) mf_X0_takenOf kw_786 hG hP hP (ci := 0) (q0 := 5) rfl rfl rfl rfl hl.1 ⟨⟨Nat.le_of_ble_eq_true rfl, Nat.le_of_ble_eq_true rfl⟩, Nat.le_of_ble_eq_true rfl, Nat.le_refl _, Nat.le_refl _⟩ rfl dX11_part_69 (fun z_69 h_69 => ?_)
            have h_69 : True := h_69
            exact W.iret SS.1 SS.2.1 hr (fun t0 ht hW => ⟨⟨_, (sV (sV (sV (sV (sV (sV (sV (sV (sV (sV (sI (sI u 5 f5_46) 6 f6_46) 10 v10_46) 11 v11_46) 12 v12_46) 13 v13_46) 14 v14_46) 15 v15_46) 16 v16_46) 17 v17_46) 18 v18_46) 19 v19_46), rfl, ⟨z_69, rfl, (⟨⟨CI_fl p0 h_46.1 h_46.2.1 h_46.2.2, (by first | exact cs_refl | exact (fun r hr => ⟨if_neg (by omega), if_neg (by omega), if_neg (by omega)⟩))⟩, (by first | exact hs_refl | exact (fun _ _ => rfl)), (by first | exact ss_refl | exact ⟨rfl, fun _ _ => rfl⟩), ⟨⟨(by first | rfl | exact if_neg (by omega) | exact (if_neg (by omega)).trans (if_neg (by omega))), (by first | rfl | exact if_neg (by omega) | exact (if_neg (by omega)).trans (if_neg (by omega))), (by first | rfl | exact if_neg (by omega) | exact (if_neg (by omega)).trans (if_neg (by omega)))⟩, rfl, rfl, rfl⟩, ⟨⟨(by first | rfl | exact if_neg (by omega) | exact (if_neg (by omega)).trans (if_neg (by omega))), (by first | rfl | exact if_neg (by omega) | exact (if_neg (by omega)).trans (if_neg (by omega))), (by first | rfl | exact if_neg (by omega) | exact (if_neg (by omega)).trans (if_neg (by omega)))⟩, ⟨rfl, rfl, rfl, rfl, rfl⟩, ⟨rfl, rfl, rfl, rfl⟩, rfl, rfl, rfl, rfl, rfl⟩⟩)⟩, by show va_P D.1 j_cl (cW D q (sV (sV (sV (sV (sV (sV (sV (sV (sV (sV (sI (sI u 5 f5_46) 6 f6_46) 10 v10_46) 11 v11_46) 12 v12_46) 13 v13_46) 14 v14_46) 15 v15_46) 16 v16_46) 17 v17_46) 18 v18_46) 19 v19_46)) t0.heap; rw [ht]; first | exact hP | (simp only [sC_id, sX_id, sY_id, sH_id, sT_id, sV_id]; exact hP)⟩, hS.F ht⟩) hS.2.2 dX11_part_72 hlk
          · skip
            refine lv_aload_n SS.1 SS.2.1 dX11_part_54 rfl (lv_at hl 1 rfl) ?_
            refine j_get SS hG hP 0 (v := .ref (q 5)) (C := RX11) (T := TX11) (N := 8) rfl rfl inX11 4 (by decide) (ref := "GridPolygons") kw_389 rfl rfl dX11_part_55 ?_
            refine j_get SS hG hP 5 (v := .int (J v10_46)) (C := RX0) (T := TX0) (N := 14) rfl rfl inX0 4 (by decide) (ref := "GridPolygons$Choices") kw_248 rfl rfl dX11_part_58 ?_
            refine lv_goto (tgt := 72) SS.1 SS.2.1 dX11_part_61 (by decide) ?_
            exact W.iret SS.1 SS.2.1 hr (fun t0 ht hW => ⟨⟨_, (sV (sV (sV (sV (sV (sV (sV (sV (sV (sV (sI (sI u 5 f5_46) 6 f6_46) 10 v10_46) 11 v11_46) 12 v12_46) 13 v13_46) 14 v14_46) 15 v15_46) 16 v16_46) 17 v17_46) 18 v18_46) 19 v19_46), rfl, ⟨v10_46, rfl, (⟨⟨CI_fl p0 h_46.1 h_46.2.1 h_46.2.2, (by first | exact cs_refl | exact (fun r hr => ⟨if_neg (by omega), if_neg (by omega), if_neg (by omega)⟩))⟩, (by first | exact hs_refl | exact (fun _ _ => rfl)), (by first | exact ss_refl | exact ⟨rfl, fun _ _ => rfl⟩), ⟨⟨(by first | rfl | exact if_neg (by omega) | exact (if_neg (by omega)).trans (if_neg (by omega))), (by first | rfl | exact if_neg (by omega) | exact (if_neg (by omega)).trans (if_neg (by omega))), (by first | rfl | exact if_neg (by omega) | exact (if_neg (by omega)).trans (if_neg (by omega)))⟩, rfl, rfl, rfl⟩, ⟨⟨(by first | rfl | exact if_neg (by omega) | exact (if_neg (by omega)).trans (if_neg (by omega))), (by first | rfl | exact if_neg (by omega) | exact (if_neg (by omega)).trans (if_neg (by omega))), (by first | rfl | exact if_neg (by omega) | exact (if_neg (by omega)).trans (if_neg (by omega)))⟩, ⟨rfl, rfl, rfl, rfl, rfl⟩, ⟨rfl, rfl, rfl, rfl⟩, rfl, rfl, rfl, rfl, rfl⟩⟩)⟩, by show va_P D.1 j_cl (cW D q (sV (sV (sV (sV (sV (sV (sV (sV (sV (sV (sI (sI u 5 f5_46) 6 f6_46) 10 v10_46) 11 v11_46) 12 v12_46) 13 v13_46) 14 v14_46) 15 v15_46) 16 v16_46) 17 v17_46) 18 v18_46) 19 v19_46)) t0.heap; rw [ht]; first | exact hP | (simp only [sC_id, sX_id, sY_id, sH_id, sT_id, sV_id]; exact hP)⟩, hS.F ht⟩) hS.2.2 dX11_part_72 hlk
        · skip
          refine j_bipush SS dX11_part_38 (by decide +kernel) ?_
          exact W.iret SS.1 SS.2.1 hr (fun t0 ht hW => ⟨⟨_, u, rfl, ⟨(-2), rfl, (⟨⟨p0, (by first | exact cs_refl | exact (fun r hr => ⟨if_neg (by omega), if_neg (by omega), if_neg (by omega)⟩))⟩, (by first | exact hs_refl | exact (fun _ _ => rfl)), (by first | exact ss_refl | exact ⟨rfl, fun _ _ => rfl⟩), ⟨⟨(by first | rfl | exact if_neg (by omega) | exact (if_neg (by omega)).trans (if_neg (by omega))), (by first | rfl | exact if_neg (by omega) | exact (if_neg (by omega)).trans (if_neg (by omega))), (by first | rfl | exact if_neg (by omega) | exact (if_neg (by omega)).trans (if_neg (by omega)))⟩, rfl, rfl, rfl⟩, ⟨⟨(by first | rfl | exact if_neg (by omega) | exact (if_neg (by omega)).trans (if_neg (by omega))), (by first | rfl | exact if_neg (by omega) | exact (if_neg (by omega)).trans (if_neg (by omega))), (by first | rfl | exact if_neg (by omega) | exact (if_neg (by omega)).trans (if_neg (by omega)))⟩, ⟨rfl, rfl, rfl, rfl, rfl⟩, ⟨rfl, rfl, rfl, rfl⟩, rfl, rfl, rfl, rfl, rfl⟩⟩)⟩, by show va_P D.1 j_cl (cW D q u) t0.heap; rw [ht]; first | exact hP | (simp only [sC_id, sX_id, sY_id, sH_id, sT_id, sV_id]; exact hP)⟩, hS.F ht⟩) hS.2.2 dX11_part_40 hlk
      · skip
        refine j_iconst SS dX11_part_26 ?_
        exact W.iret SS.1 SS.2.1 hr (fun t0 ht hW => ⟨⟨_, u, rfl, ⟨(-1), rfl, (⟨⟨p0, (by first | exact cs_refl | exact (fun r hr => ⟨if_neg (by omega), if_neg (by omega), if_neg (by omega)⟩))⟩, (by first | exact hs_refl | exact (fun _ _ => rfl)), (by first | exact ss_refl | exact ⟨rfl, fun _ _ => rfl⟩), ⟨⟨(by first | rfl | exact if_neg (by omega) | exact (if_neg (by omega)).trans (if_neg (by omega))), (by first | rfl | exact if_neg (by omega) | exact (if_neg (by omega)).trans (if_neg (by omega))), (by first | rfl | exact if_neg (by omega) | exact (if_neg (by omega)).trans (if_neg (by omega)))⟩, rfl, rfl, rfl⟩, ⟨⟨(by first | rfl | exact if_neg (by omega) | exact (if_neg (by omega)).trans (if_neg (by omega))), (by first | rfl | exact if_neg (by omega) | exact (if_neg (by omega)).trans (if_neg (by omega))), (by first | rfl | exact if_neg (by omega) | exact (if_neg (by omega)).trans (if_neg (by omega)))⟩, ⟨rfl, rfl, rfl, rfl, rfl⟩, ⟨rfl, rfl, rfl, rfl⟩, rfl, rfl, rfl, rfl, rfl⟩⟩)⟩, by show va_P D.1 j_cl (cW D q u) t0.heap; rw [ht]; first | exact hP | (simp only [sC_id, sX_id, sY_id, sH_id, sT_id, sV_id]; exact hP)⟩, hS.F ht⟩) hS.2.2 dX11_part_27 hlk
  · skip
    refine lv_astore_nN (lv' := [(3, .null), (0, .ref (q 0)), (1, .int (J s)), (2, .int (J i))]) SS.1 SS.2.1 dX11_part_5 rfl hl (by decide) rfl (fun ls hl => ?_)
    refine lv_aload_nN SS.1 SS.2.1 dX11_part_6 rfl (lv_at hl 0 rfl) ?_
    refine lv_ifnullN SS.1 SS.2.1 (tgt := 26) dX11_part_7 (by decide) ?_
    refine j_iconst SS dX11_part_26 ?_
    exact W.iret SS.1 SS.2.1 hr (fun t0 ht hW => ⟨⟨_, u, rfl, ⟨(-1), rfl, (⟨⟨p0, (by first | exact cs_refl | exact (fun r hr => ⟨if_neg (by omega), if_neg (by omega), if_neg (by omega)⟩))⟩, (by first | exact hs_refl | exact (fun _ _ => rfl)), (by first | exact ss_refl | exact ⟨rfl, fun _ _ => rfl⟩), ⟨⟨(by first | rfl | exact if_neg (by omega) | exact (if_neg (by omega)).trans (if_neg (by omega))), (by first | rfl | exact if_neg (by omega) | exact (if_neg (by omega)).trans (if_neg (by omega))), (by first | rfl | exact if_neg (by omega) | exact (if_neg (by omega)).trans (if_neg (by omega)))⟩, rfl, rfl, rfl⟩, ⟨⟨(by first | rfl | exact if_neg (by omega) | exact (if_neg (by omega)).trans (if_neg (by omega))), (by first | rfl | exact if_neg (by omega) | exact (if_neg (by omega)).trans (if_neg (by omega))), (by first | rfl | exact if_neg (by omega) | exact (if_neg (by omega)).trans (if_neg (by omega)))⟩, ⟨rfl, rfl, rfl, rfl, rfl⟩, ⟨rfl, rfl, rfl, rfl⟩, rfl, rfl, rfl, rfl, rfl⟩⟩)⟩, by show va_P D.1 j_cl (cW D q u) t0.heap; rw [ht]; first | exact hP | (simp only [sC_id, sX_id, sY_id, sH_id, sT_id, sV_id]; exact hP)⟩, hS.F ht⟩) hS.2.2 dX11_part_27 hlk

set_option maxHeartbeats 4000000 in
set_option maxRecDepth 100000 in
theorem c_X11_betweenF (l : Launch) (D : JD) (q : Nat → Nat) (u : CS) (A : Nat → Prop) (hD : va_D A (cW D q u)) (a : Int) (b : Int) (c : Int) (d : Int) (p0 : CI u) (p1 : -2147483648 ≤ a ∧ a ≤ 2147483647) (p2 : -2147483648 ≤ b ∧ b ≤ 2147483647) (p3 : -2147483648 ≤ c ∧ c ≤ 2147483647) (p4 : -2147483648 ≤ d ∧ d ≤ 2147483647) : Met l yX11_between (jw yX11_between cX11_between 5 (some .int)) (jr 3 89) (jP [.ref (q 0), .int (J a), .int (J b), .int (J c), .int (J d)] D (fun H => va_P D.1 j_cl (cW D q u) H)) (jWi (fun z u' => (btw_ a b c d z ∧ CI u' ∧ cSame u u') ∧ kSam u u') (fun u' H => va_P D.1 j_cl (cW D q u') H) A) 0 0 A := by
  refine Met.ofW (cc := cX11_between) (maxL := 5) (ret := (some .int)) (by decide) rfl ?_
  intro pr en st mi args below meth co s₁ B hml hv
  obtain ⟨rfl, hG, hP⟩ := hv
  have hr := B.returns
  have hlk := B.notSynchronized
  have SS : jS pr mi co cX11_between 5 st _ RX11 := ⟨B.exec, B.bytes, hml, findClass_of_methodNamed B.named, fun w hw => atoms_spec (ws := (jw yX11_between cX11_between 5 (some .int))) B.pre w (List.mem_cons_of_mem _ hw)⟩
  have hl := lv_entry ([.ref (q 0), .int (J a), .int (J b), .int (J c), .int (J d)]) (n := 5) (Nat.le_of_ble_eq_true rfl)
  rw [lg_entry_eq]
  generalize (lg_sl ([.ref (q 0), .int (J a), .int (J b), .int (J c), .int (J d)]) ++ List.replicate (5 - (lg_sl ([.ref (q 0), .int (J a), .int (J b), .int (J c), .int (J d)])).length) Slot.unset).toArray = ls at hl ⊢
  have hl : lv_has ls 5 [(0, .ref (q 0)), (1, .int (J a)), (2, .int (J b)), (3, .int (J c)), (4, .int (J d))] := hl
  have hS : va_S A st.heap st.heap [] := va_S.rf
  refine lv_iload_n SS.1 SS.2.1 dX11_between_0 rfl (lv_at hl 1 rfl) ?_
  refine j_sRi SS (As := [.int (J a)]) (rest := []) (c_X11_onGrid l D  a (show -2147483648 ≤ a ∧ a ≤ 2147483647 from (p1))) mf_X11_onGrid kw_475 hG trivial rfl hl.1 ⟨⟨Nat.le_of_ble_eq_true rfl, Nat.le_of_ble_eq_true rfl⟩, Nat.le_of_ble_eq_true rfl, Nat.le_refl _, Nat.le_refl _⟩ rfl dX11_between_1 (fun z_1 h_1 => ?_)
  have h_1 : (z_1 = 1 ∧ (-40 ≤ a ∧ a ≤ 40)) ∨ (z_1 = 0 ∧ ¬ (-40 ≤ a ∧ a ≤ 40)) := h_1
  refine j_if_eq SS (tgt := 29) (x := z_1) dX11_between_4 (by decide) (by omega) (fun c_4 => ?_) (fun c_4 => ?_)
  · skip
    refine j_iconst SS dX11_between_29 ?_
    exact W.iret SS.1 SS.2.1 hr (fun t0 ht hW => ⟨⟨_, u, rfl, ⟨(-1), rfl, (⟨⟨Or.inl ⟨fun h => by unfold pl4 at h; omega, rfl⟩, p0, cs_refl⟩, (by first | exact hs_refl | exact (fun _ _ => rfl)), (by first | exact ss_refl | exact ⟨rfl, fun _ _ => rfl⟩), ⟨⟨(by first | rfl | exact if_neg (by omega) | exact (if_neg (by omega)).trans (if_neg (by omega))), (by first | rfl | exact if_neg (by omega) | exact (if_neg (by omega)).trans (if_neg (by omega))), (by first | rfl | exact if_neg (by omega) | exact (if_neg (by omega)).trans (if_neg (by omega)))⟩, rfl, rfl, rfl⟩, ⟨⟨(by first | rfl | exact if_neg (by omega) | exact (if_neg (by omega)).trans (if_neg (by omega))), (by first | rfl | exact if_neg (by omega) | exact (if_neg (by omega)).trans (if_neg (by omega))), (by first | rfl | exact if_neg (by omega) | exact (if_neg (by omega)).trans (if_neg (by omega)))⟩, ⟨rfl, rfl, rfl, rfl, rfl⟩, ⟨rfl, rfl, rfl, rfl⟩, rfl, rfl, rfl, rfl, rfl⟩⟩)⟩, by show va_P D.1 j_cl (cW D q u) t0.heap; rw [ht]; first | exact hP | (simp only [sC_id, sX_id, sY_id, sH_id, sT_id, sV_id]; exact hP)⟩, hS.F ht⟩) hS.2.2 dX11_between_30 hlk
  · skip
    refine lv_iload_n SS.1 SS.2.1 dX11_between_7 rfl (lv_at hl 2 rfl) ?_
    refine j_sRi SS (As := [.int (J b)]) (rest := []) (c_X11_onGrid l D  b (show -2147483648 ≤ b ∧ b ≤ 2147483647 from (p2))) mf_X11_onGrid kw_475 hG trivial rfl hl.1 ⟨⟨Nat.le_of_ble_eq_true rfl, Nat.le_of_ble_eq_true rfl⟩, Nat.le_of_ble_eq_true rfl, Nat.le_refl _, Nat.le_refl _⟩ rfl dX11_between_8 (fun z_8 h_8 => ?_)
    have h_8 : (z_8 = 1 ∧ (-40 ≤ b ∧ b ≤ 40)) ∨ (z_8 = 0 ∧ ¬ (-40 ≤ b ∧ b ≤ 40)) := h_8
    refine j_if_eq SS (tgt := 29) (x := z_8) dX11_between_11 (by decide) (by omega) (fun c_11 => ?_) (fun c_11 => ?_)
    · skip
      refine j_iconst SS dX11_between_29 ?_
      exact W.iret SS.1 SS.2.1 hr (fun t0 ht hW => ⟨⟨_, u, rfl, ⟨(-1), rfl, (⟨⟨Or.inl ⟨fun h => by unfold pl4 at h; omega, rfl⟩, p0, cs_refl⟩, (by first | exact hs_refl | exact (fun _ _ => rfl)), (by first | exact ss_refl | exact ⟨rfl, fun _ _ => rfl⟩), ⟨⟨(by first | rfl | exact if_neg (by omega) | exact (if_neg (by omega)).trans (if_neg (by omega))), (by first | rfl | exact if_neg (by omega) | exact (if_neg (by omega)).trans (if_neg (by omega))), (by first | rfl | exact if_neg (by omega) | exact (if_neg (by omega)).trans (if_neg (by omega)))⟩, rfl, rfl, rfl⟩, ⟨⟨(by first | rfl | exact if_neg (by omega) | exact (if_neg (by omega)).trans (if_neg (by omega))), (by first | rfl | exact if_neg (by omega) | exact (if_neg (by omega)).trans (if_neg (by omega))), (by first | rfl | exact if_neg (by omega) | exact (if_neg (by omega)).trans (if_neg (by omega)))⟩, ⟨rfl, rfl, rfl, rfl, rfl⟩, ⟨rfl, rfl, rfl, rfl⟩, rfl, rfl, rfl, rfl, rfl⟩⟩)⟩, by show va_P D.1 j_cl (cW D q u) t0.heap; rw [ht]; first | exact hP | (simp only [sC_id, sX_id, sY_id, sH_id, sT_id, sV_id]; exact hP)⟩, hS.F ht⟩) hS.2.2 dX11_between_30 hlk
    · skip
      refine lv_iload_n SS.1 SS.2.1 dX11_between_14 rfl (lv_at hl 3 rfl) ?_
      refine j_sRi SS (As := [.int (J c)]) (rest := []) (c_X11_onGrid l D  c (show -2147483648 ≤ c ∧ c ≤ 2147483647 from (p3))) mf_X11_onGrid kw_475 hG trivial rfl hl.1 ⟨⟨Nat.le_of_ble_eq_true rfl, Nat.le_of_ble_eq_true rfl⟩, Nat.le_of_ble_eq_true rfl, Nat.le_refl _, Nat.le_refl _⟩ rfl dX11_between_15 (fun z_15 h_15 => ?_)
      have h_15 : (z_15 = 1 ∧ (-40 ≤ c ∧ c ≤ 40)) ∨ (z_15 = 0 ∧ ¬ (-40 ≤ c ∧ c ≤ 40)) := h_15
      refine j_if_eq SS (tgt := 29) (x := z_15) dX11_between_18 (by decide) (by omega) (fun c_18 => ?_) (fun c_18 => ?_)
      · skip
        refine j_iconst SS dX11_between_29 ?_
        exact W.iret SS.1 SS.2.1 hr (fun t0 ht hW => ⟨⟨_, u, rfl, ⟨(-1), rfl, (⟨⟨Or.inl ⟨fun h => by unfold pl4 at h; omega, rfl⟩, p0, cs_refl⟩, (by first | exact hs_refl | exact (fun _ _ => rfl)), (by first | exact ss_refl | exact ⟨rfl, fun _ _ => rfl⟩), ⟨⟨(by first | rfl | exact if_neg (by omega) | exact (if_neg (by omega)).trans (if_neg (by omega))), (by first | rfl | exact if_neg (by omega) | exact (if_neg (by omega)).trans (if_neg (by omega))), (by first | rfl | exact if_neg (by omega) | exact (if_neg (by omega)).trans (if_neg (by omega)))⟩, rfl, rfl, rfl⟩, ⟨⟨(by first | rfl | exact if_neg (by omega) | exact (if_neg (by omega)).trans (if_neg (by omega))), (by first | rfl | exact if_neg (by omega) | exact (if_neg (by omega)).trans (if_neg (by omega))), (by first | rfl | exact if_neg (by omega) | exact (if_neg (by omega)).trans (if_neg (by omega)))⟩, ⟨rfl, rfl, rfl, rfl, rfl⟩, ⟨rfl, rfl, rfl, rfl⟩, rfl, rfl, rfl, rfl, rfl⟩⟩)⟩, by show va_P D.1 j_cl (cW D q u) t0.heap; rw [ht]; first | exact hP | (simp only [sC_id, sX_id, sY_id, sH_id, sT_id, sV_id]; exact hP)⟩, hS.F ht⟩) hS.2.2 dX11_between_30 hlk
      · skip
        refine lv_iload SS.1 SS.2.1 dX11_between_21 (lv_at hl 4 rfl) ?_
        refine j_sRi SS (As := [.int (J d)]) (rest := []) (c_X11_onGrid l D  d (show -2147483648 ≤ d ∧ d ≤ 2147483647 from (p4))) mf_X11_onGrid kw_475 hG trivial rfl hl.1 ⟨⟨Nat.le_of_ble_eq_true rfl, Nat.le_of_ble_eq_true rfl⟩, Nat.le_of_ble_eq_true rfl, Nat.le_refl _, Nat.le_refl _⟩ rfl dX11_between_23 (fun z_23 h_23 => ?_)
        have h_23 : (z_23 = 1 ∧ (-40 ≤ d ∧ d ≤ 40)) ∨ (z_23 = 0 ∧ ¬ (-40 ≤ d ∧ d ≤ 40)) := h_23
        refine j_if_ne SS (tgt := 31) (x := z_23) dX11_between_26 (by decide) (by omega) (fun c_26 => ?_) (fun c_26 => ?_)
        · skip
          refine lv_iload_n SS.1 SS.2.1 dX11_between_31 rfl (lv_at hl 1 rfl) ?_
          refine lv_iload_n SS.1 SS.2.1 dX11_between_32 rfl (lv_at hl 2 rfl) ?_
          refine lv_iload_n SS.1 SS.2.1 dX11_between_33 rfl (lv_at hl 3 rfl) ?_
          refine lv_iload SS.1 SS.2.1 dX11_between_34 (lv_at hl 4 rfl) ?_
          refine j_sRi SS (As := [.int (J a), .int (J b), .int (J c), .int (J d)]) (rest := []) (c_X11_isAngle l D  a b c d (show -40 ≤ a ∧ a ≤ 40 from (by omega)) (show -40 ≤ b ∧ b ≤ 40 from (by omega)) (show -40 ≤ c ∧ c ≤ 40 from (by omega)) (show -40 ≤ d ∧ d ≤ 40 from (by omega))) mf_X11_isAngle kw_832 hG trivial rfl hl.1 ⟨⟨Nat.le_of_ble_eq_true rfl, Nat.le_of_ble_eq_true rfl⟩, Nat.le_of_ble_eq_true rfl, Nat.le_refl _, Nat.le_refl _⟩ rfl dX11_between_36 (fun z_36 h_36 => ?_)
          have h_36 : (z_36 = 1 ∧ 0 < cx a b c d) ∨ (z_36 = 0 ∧ cx a b c d ≤ 0) := h_36
          refine j_if_ne SS (tgt := 45) (x := z_36) dX11_between_39 (by decide) (by omega) (fun c_39 => ?_) (fun c_39 => ?_)
          · skip
            refine lv_aload_n SS.1 SS.2.1 dX11_between_45 rfl (lv_at hl 0 rfl) ?_
            refine j_get SS hG hP 0 (v := .ref (q 4)) (C := RX11) (T := TX11) (N := 8) rfl rfl inX11 3 (by decide) (ref := "GridPolygons") kw_388 rfl rfl dX11_between_46 ?_
            refine lv_iload_n SS.1 SS.2.1 dX11_between_49 rfl (lv_at hl 1 rfl) ?_
            refine lv_iload_n SS.1 SS.2.1 dX11_between_50 rfl (lv_at hl 2 rfl) ?_
            refine lv_iload_n SS.1 SS.2.1 dX11_between_51 rfl (lv_at hl 3 rfl) ?_
            refine lv_iload SS.1 SS.2.1 dX11_between_52 (lv_at hl 4 rfl) ?_
            refine j_iconst SS dX11_between_54 ?_
            refine j_vWv SS (As := [.int (J a), .int (J b), .int (J c), .int (J d), .int (J 0)]) (rest := []) (c_X9_walk l D q u A (cW_D hD)  a b c d 0 (show -40 ≤ a ∧ a ≤ 40 from (by omega)) (show -40 ≤ b ∧ b ≤ 40 from (by omega)) (show -40 ≤ c ∧ c ≤ 40 from (by omega)) (show -40 ≤ d ∧ d ≤ 40 from (by omega)) (show 0 < cx a b c d from (by omega)) (show -2147483648 ≤ (0 : Int) ∧ (0 : Int) ≤ 2147483647 from (by omega))) mf_X9_walk kw_835 hG hP hP (ci := 9) (q0 := 4) rfl rfl rfl hS (fun _ h => h) rfl hl.1 ⟨⟨Nat.le_of_ble_eq_true rfl, Nat.le_of_ble_eq_true rfl⟩, Nat.le_of_ble_eq_true rfl, Nat.le_refl _, Nat.le_refl _⟩ rfl dX11_between_55 (fun u55 H locs h_55 hP _ hS => ?_)
            obtain ⟨cn_55, x1_55, y1_55, b1_55, sx_55, sy_55, rfl, h_55⟩ := h_55
            have hP : va_P D.1 j_cl (cW D q (sV (sV (sV (sV (sV (sV u 4 cn_55) 5 x1_55) 6 y1_55) 7 b1_55) 8 sx_55) 9 sy_55)) H := hP
            have h_55 : wk a b c d (0 : Int) cn_55 x1_55 y1_55 b1_55 := h_55
            refine lv_aload_n SS.1 SS.2.1 dX11_between_58 rfl (lv_at hl 0 rfl) ?_
            refine j_get SS hG hP 0 (v := .ref (q 4)) (C := RX11) (T := TX11) (N := 8) rfl rfl inX11 3 (by decide) (ref := "GridPolygons") kw_388 rfl rfl dX11_between_59 ?_
            refine j_get SS hG hP 4 (v := .int (J cn_55)) (C := RX9) (T := TX9) (N := 6) rfl rfl inX9 0 (by decide) (ref := "GridPolygons$Sail") kw_214 rfl rfl dX11_between_62 ?_
            obtain ⟨cn62, ecn62⟩ : ∃ z : Int, z = cn_55 := ⟨_, rfl⟩
            rw [← ecn62]
            exact W.iret SS.1 SS.2.1 hr (fun t0 ht hW => ⟨⟨_, (sV (sV (sV (sV (sV (sV u 4 cn_55) 5 x1_55) 6 y1_55) 7 b1_55) 8 sx_55) 9 sy_55), rfl, ⟨cn62, rfl, (⟨by obtain ⟨X, Y, hy, _⟩ := h_55; exact ⟨Or.inr (Or.inr ⟨by unfold pl4; omega, by omega, X, Y, by rw [ecn62]; exact hy⟩), CI_sl p0, cs_refl⟩, (by first | exact hs_refl | exact (fun _ _ => rfl)), (by first | exact ss_refl | exact ⟨rfl, fun _ _ => rfl⟩), ⟨⟨(by first | rfl | exact if_neg (by omega) | exact (if_neg (by omega)).trans (if_neg (by omega))), (by first | rfl | exact if_neg (by omega) | exact (if_neg (by omega)).trans (if_neg (by omega))), (by first | rfl | exact if_neg (by omega) | exact (if_neg (by omega)).trans (if_neg (by omega)))⟩, rfl, rfl, rfl⟩, ⟨⟨(by first | rfl | exact if_neg (by omega) | exact (if_neg (by omega)).trans (if_neg (by omega))), (by first | rfl | exact if_neg (by omega) | exact (if_neg (by omega)).trans (if_neg (by omega))), (by first | rfl | exact if_neg (by omega) | exact (if_neg (by omega)).trans (if_neg (by omega)))⟩, ⟨rfl, rfl, rfl, rfl, rfl⟩, ⟨rfl, rfl, rfl, rfl⟩, rfl, rfl, rfl, rfl, rfl⟩⟩)⟩, by show va_P D.1 j_cl (cW D q (sV (sV (sV (sV (sV (sV u 4 cn_55) 5 x1_55) 6 y1_55) 7 b1_55) 8 sx_55) 9 sy_55)) t0.heap; rw [ht]; first | exact hP | (simp only [sC_id, sX_id, sY_id, sH_id, sT_id, sV_id]; exact hP)⟩, hS.F ht⟩) hS.2.2 dX11_between_65 hlk
          · skip
            refine j_bipush SS dX11_between_42 (by decide +kernel) ?_
            exact W.iret SS.1 SS.2.1 hr (fun t0 ht hW => ⟨⟨_, u, rfl, ⟨(-2), rfl, (⟨⟨Or.inr (Or.inl ⟨by unfold pl4; omega, by omega, rfl⟩), p0, cs_refl⟩, (by first | exact hs_refl | exact (fun _ _ => rfl)), (by first | exact ss_refl | exact ⟨rfl, fun _ _ => rfl⟩), ⟨⟨(by first | rfl | exact if_neg (by omega) | exact (if_neg (by omega)).trans (if_neg (by omega))), (by first | rfl | exact if_neg (by omega) | exact (if_neg (by omega)).trans (if_neg (by omega))), (by first | rfl | exact if_neg (by omega) | exact (if_neg (by omega)).trans (if_neg (by omega)))⟩, rfl, rfl, rfl⟩, ⟨⟨(by first | rfl | exact if_neg (by omega) | exact (if_neg (by omega)).trans (if_neg (by omega))), (by first | rfl | exact if_neg (by omega) | exact (if_neg (by omega)).trans (if_neg (by omega))), (by first | rfl | exact if_neg (by omega) | exact (if_neg (by omega)).trans (if_neg (by omega)))⟩, ⟨rfl, rfl, rfl, rfl, rfl⟩, ⟨rfl, rfl, rfl, rfl⟩, rfl, rfl, rfl, rfl, rfl⟩⟩)⟩, by show va_P D.1 j_cl (cW D q u) t0.heap; rw [ht]; first | exact hP | (simp only [sC_id, sX_id, sY_id, sH_id, sT_id, sV_id]; exact hP)⟩, hS.F ht⟩) hS.2.2 dX11_between_44 hlk
        · skip
          refine j_iconst SS dX11_between_29 ?_
          exact W.iret SS.1 SS.2.1 hr (fun t0 ht hW => ⟨⟨_, u, rfl, ⟨(-1), rfl, (⟨⟨Or.inl ⟨fun h => by unfold pl4 at h; omega, rfl⟩, p0, cs_refl⟩, (by first | exact hs_refl | exact (fun _ _ => rfl)), (by first | exact ss_refl | exact ⟨rfl, fun _ _ => rfl⟩), ⟨⟨(by first | rfl | exact if_neg (by omega) | exact (if_neg (by omega)).trans (if_neg (by omega))), (by first | rfl | exact if_neg (by omega) | exact (if_neg (by omega)).trans (if_neg (by omega))), (by first | rfl | exact if_neg (by omega) | exact (if_neg (by omega)).trans (if_neg (by omega)))⟩, rfl, rfl, rfl⟩, ⟨⟨(by first | rfl | exact if_neg (by omega) | exact (if_neg (by omega)).trans (if_neg (by omega))), (by first | rfl | exact if_neg (by omega) | exact (if_neg (by omega)).trans (if_neg (by omega))), (by first | rfl | exact if_neg (by omega) | exact (if_neg (by omega)).trans (if_neg (by omega)))⟩, ⟨rfl, rfl, rfl, rfl, rfl⟩, ⟨rfl, rfl, rfl, rfl⟩, rfl, rfl, rfl, rfl, rfl⟩⟩)⟩, by show va_P D.1 j_cl (cW D q u) t0.heap; rw [ht]; first | exact hP | (simp only [sC_id, sX_id, sY_id, sH_id, sT_id, sV_id]; exact hP)⟩, hS.F ht⟩) hS.2.2 dX11_between_30 hlk

set_option maxHeartbeats 4000000 in
set_option maxRecDepth 100000 in
theorem c_X11_rayF (l : Launch) (D : JD) (q : Nat → Nat) (u : CS) (A : Nat → Prop) (hD : va_D A (cW D q u)) (a : Int) (b : Int) (c : Int) (d : Int) (i : Int) (what : Int) (p0 : CI u) (p1 : -2147483648 ≤ a ∧ a ≤ 2147483647) (p2 : -2147483648 ≤ b ∧ b ≤ 2147483647) (p3 : -2147483648 ≤ c ∧ c ≤ 2147483647) (p4 : -2147483648 ≤ d ∧ d ≤ 2147483647) (p5 : -2147483648 ≤ i ∧ i ≤ 2147483647) (p6 : -2147483648 ≤ what ∧ what ≤ 2147483647) : Met l yX11_ray (jw yX11_ray cX11_ray 7 (some .int)) (jr 3 89) (jP [.ref (q 0), .int (J a), .int (J b), .int (J c), .int (J d), .int (J i), .int (J what)] D (fun H => va_P D.1 j_cl (cW D q u) H)) (jWi (fun z u' => (ray_ a b c d i what z ∧ CI u' ∧ cSame u u') ∧ kSam u u') (fun u' H => va_P D.1 j_cl (cW D q u') H) A) 0 0 A := by
  refine Met.ofW (cc := cX11_ray) (maxL := 7) (ret := (some .int)) (by decide) rfl ?_
  intro pr en st mi args below meth co s₁ B hml hv
  obtain ⟨rfl, hG, hP⟩ := hv
  have hr := B.returns
  have hlk := B.notSynchronized
  have SS : jS pr mi co cX11_ray 7 st _ RX11 := ⟨B.exec, B.bytes, hml, findClass_of_methodNamed B.named, fun w hw => atoms_spec (ws := (jw yX11_ray cX11_ray 7 (some .int))) B.pre w (List.mem_cons_of_mem _ hw)⟩
  have hl := lv_entry ([.ref (q 0), .int (J a), .int (J b), .int (J c), .int (J d), .int (J i), .int (J what)]) (n := 7) (Nat.le_of_ble_eq_true rfl)
  rw [lg_entry_eq]
  generalize (lg_sl ([.ref (q 0), .int (J a), .int (J b), .int (J c), .int (J d), .int (J i), .int (J what)]) ++ List.replicate (7 - (lg_sl ([.ref (q 0), .int (J a), .int (J b), .int (J c), .int (J d), .int (J i), .int (J what)])).length) Slot.unset).toArray = ls at hl ⊢
  have hl : lv_has ls 7 [(0, .ref (q 0)), (1, .int (J a)), (2, .int (J b)), (3, .int (J c)), (4, .int (J d)), (5, .int (J i)), (6, .int (J what))] := hl
  have hS : va_S A st.heap st.heap [] := va_S.rf
  refine lv_iload_n SS.1 SS.2.1 dX11_ray_0 rfl (lv_at hl 1 rfl) ?_
  refine j_sRi SS (As := [.int (J a)]) (rest := []) (c_X11_onGrid l D  a (show -2147483648 ≤ a ∧ a ≤ 2147483647 from (p1))) mf_X11_onGrid kw_475 hG trivial rfl hl.1 ⟨⟨Nat.le_of_ble_eq_true rfl, Nat.le_of_ble_eq_true rfl⟩, Nat.le_of_ble_eq_true rfl, Nat.le_refl _, Nat.le_refl _⟩ rfl dX11_ray_1 (fun z_1 h_1 => ?_)
  have h_1 : (z_1 = 1 ∧ (-40 ≤ a ∧ a ≤ 40)) ∨ (z_1 = 0 ∧ ¬ (-40 ≤ a ∧ a ≤ 40)) := h_1
  refine j_if_eq SS (tgt := 45) (x := z_1) dX11_ray_4 (by decide) (by omega) (fun c_4 => ?_) (fun c_4 => ?_)
  · skip
    refine j_ldc SS (-1000000) kw_512 dX11_ray_45 ?_
    exact W.iret SS.1 SS.2.1 hr (fun t0 ht hW => ⟨⟨_, u, rfl, ⟨(-1000000), rfl, (⟨⟨Or.inl ⟨fun h => by unfold pl4 at h; omega, rfl⟩, p0, cs_refl⟩, (by first | exact hs_refl | exact (fun _ _ => rfl)), (by first | exact ss_refl | exact ⟨rfl, fun _ _ => rfl⟩), ⟨⟨(by first | rfl | exact if_neg (by omega) | exact (if_neg (by omega)).trans (if_neg (by omega))), (by first | rfl | exact if_neg (by omega) | exact (if_neg (by omega)).trans (if_neg (by omega))), (by first | rfl | exact if_neg (by omega) | exact (if_neg (by omega)).trans (if_neg (by omega)))⟩, rfl, rfl, rfl⟩, ⟨⟨(by first | rfl | exact if_neg (by omega) | exact (if_neg (by omega)).trans (if_neg (by omega))), (by first | rfl | exact if_neg (by omega) | exact (if_neg (by omega)).trans (if_neg (by omega))), (by first | rfl | exact if_neg (by omega) | exact (if_neg (by omega)).trans (if_neg (by omega)))⟩, ⟨rfl, rfl, rfl, rfl, rfl⟩, ⟨rfl, rfl, rfl, rfl⟩, rfl, rfl, rfl, rfl, rfl⟩⟩)⟩, by show va_P D.1 j_cl (cW D q u) t0.heap; rw [ht]; first | exact hP | (simp only [sC_id, sX_id, sY_id, sH_id, sT_id, sV_id]; exact hP)⟩, hS.F ht⟩) hS.2.2 dX11_ray_47 hlk
  · skip
    refine lv_iload_n SS.1 SS.2.1 dX11_ray_7 rfl (lv_at hl 2 rfl) ?_
    refine j_sRi SS (As := [.int (J b)]) (rest := []) (c_X11_onGrid l D  b (show -2147483648 ≤ b ∧ b ≤ 2147483647 from (p2))) mf_X11_onGrid kw_475 hG trivial rfl hl.1 ⟨⟨Nat.le_of_ble_eq_true rfl, Nat.le_of_ble_eq_true rfl⟩, Nat.le_of_ble_eq_true rfl, Nat.le_refl _, Nat.le_refl _⟩ rfl dX11_ray_8 (fun z_8 h_8 => ?_)
    have h_8 : (z_8 = 1 ∧ (-40 ≤ b ∧ b ≤ 40)) ∨ (z_8 = 0 ∧ ¬ (-40 ≤ b ∧ b ≤ 40)) := h_8
    refine j_if_eq SS (tgt := 45) (x := z_8) dX11_ray_11 (by decide) (by omega) (fun c_11 => ?_) (fun c_11 => ?_)
    · skip
      refine j_ldc SS (-1000000) kw_512 dX11_ray_45 ?_
      exact W.iret SS.1 SS.2.1 hr (fun t0 ht hW => ⟨⟨_, u, rfl, ⟨(-1000000), rfl, (⟨⟨Or.inl ⟨fun h => by unfold pl4 at h; omega, rfl⟩, p0, cs_refl⟩, (by first | exact hs_refl | exact (fun _ _ => rfl)), (by first | exact ss_refl | exact ⟨rfl, fun _ _ => rfl⟩), ⟨⟨(by first | rfl | exact if_neg (by omega) | exact (if_neg (by omega)).trans (if_neg (by omega))), (by first | rfl | exact if_neg (by omega) | exact (if_neg (by omega)).trans (if_neg (by omega))), (by first | rfl | exact if_neg (by omega) | exact (if_neg (by omega)).trans (if_neg (by omega)))⟩, rfl, rfl, rfl⟩, ⟨⟨(by first | rfl | exact if_neg (by omega) | exact (if_neg (by omega)).trans (if_neg (by omega))), (by first | rfl | exact if_neg (by omega) | exact (if_neg (by omega)).trans (if_neg (by omega))), (by first | rfl | exact if_neg (by omega) | exact (if_neg (by omega)).trans (if_neg (by omega)))⟩, ⟨rfl, rfl, rfl, rfl, rfl⟩, ⟨rfl, rfl, rfl, rfl⟩, rfl, rfl, rfl, rfl, rfl⟩⟩)⟩, by show va_P D.1 j_cl (cW D q u) t0.heap; rw [ht]; first | exact hP | (simp only [sC_id, sX_id, sY_id, sH_id, sT_id, sV_id]; exact hP)⟩, hS.F ht⟩) hS.2.2 dX11_ray_47 hlk
    · skip
      refine lv_iload_n SS.1 SS.2.1 dX11_ray_14 rfl (lv_at hl 3 rfl) ?_
      refine j_sRi SS (As := [.int (J c)]) (rest := []) (c_X11_onGrid l D  c (show -2147483648 ≤ c ∧ c ≤ 2147483647 from (p3))) mf_X11_onGrid kw_475 hG trivial rfl hl.1 ⟨⟨Nat.le_of_ble_eq_true rfl, Nat.le_of_ble_eq_true rfl⟩, Nat.le_of_ble_eq_true rfl, Nat.le_refl _, Nat.le_refl _⟩ rfl dX11_ray_15 (fun z_15 h_15 => ?_)
      have h_15 : (z_15 = 1 ∧ (-40 ≤ c ∧ c ≤ 40)) ∨ (z_15 = 0 ∧ ¬ (-40 ≤ c ∧ c ≤ 40)) := h_15
      refine j_if_eq SS (tgt := 45) (x := z_15) dX11_ray_18 (by decide) (by omega) (fun c_18 => ?_) (fun c_18 => ?_)
      · skip
        refine j_ldc SS (-1000000) kw_512 dX11_ray_45 ?_
        exact W.iret SS.1 SS.2.1 hr (fun t0 ht hW => ⟨⟨_, u, rfl, ⟨(-1000000), rfl, (⟨⟨Or.inl ⟨fun h => by unfold pl4 at h; omega, rfl⟩, p0, cs_refl⟩, (by first | exact hs_refl | exact (fun _ _ => rfl)), (by first | exact ss_refl | exact ⟨rfl, fun _ _ => rfl⟩), ⟨⟨(by first | rfl | exact if_neg (by omega) | exact (if_neg (by omega)).trans (if_neg (by omega))), (by first | rfl | exact if_neg (by omega) | exact (if_neg (by omega)).trans (if_neg (by omega))), (by first | rfl | exact if_neg (by omega) | exact (if_neg (by omega)).trans (if_neg (by omega)))⟩, rfl, rfl, rfl⟩, ⟨⟨(by first | rfl | exact if_neg (by omega) | exact (if_neg (by omega)).trans (if_neg (by omega))), (by first | rfl | exact if_neg (by omega) | exact (if_neg (by omega)).trans (if_neg (by omega))), (by first | rfl | exact if_neg (by omega) | exact (if_neg (by omega)).trans (if_neg (by omega)))⟩, ⟨rfl, rfl, rfl, rfl, rfl⟩, ⟨rfl, rfl, rfl, rfl⟩, rfl, rfl, rfl, rfl, rfl⟩⟩)⟩, by show va_P D.1 j_cl (cW D q u) t0.heap; rw [ht]; first | exact hP | (simp only [sC_id, sX_id, sY_id, sH_id, sT_id, sV_id]; exact hP)⟩, hS.F ht⟩) hS.2.2 dX11_ray_47 hlk
      · skip
        refine lv_iload SS.1 SS.2.1 dX11_ray_21 (lv_at hl 4 rfl) ?_
        refine j_sRi SS (As := [.int (J d)]) (rest := []) (c_X11_onGrid l D  d (show -2147483648 ≤ d ∧ d ≤ 2147483647 from (p4))) mf_X11_onGrid kw_475 hG trivial rfl hl.1 ⟨⟨Nat.le_of_ble_eq_true rfl, Nat.le_of_ble_eq_true rfl⟩, Nat.le_of_ble_eq_true rfl, Nat.le_refl _, Nat.le_refl _⟩ rfl dX11_ray_23 (fun z_23 h_23 => ?_)
        have h_23 : (z_23 = 1 ∧ (-40 ≤ d ∧ d ≤ 40)) ∨ (z_23 = 0 ∧ ¬ (-40 ≤ d ∧ d ≤ 40)) := h_23
        refine j_if_eq SS (tgt := 45) (x := z_23) dX11_ray_26 (by decide) (by omega) (fun c_26 => ?_) (fun c_26 => ?_)
        · skip
          refine j_ldc SS (-1000000) kw_512 dX11_ray_45 ?_
          exact W.iret SS.1 SS.2.1 hr (fun t0 ht hW => ⟨⟨_, u, rfl, ⟨(-1000000), rfl, (⟨⟨Or.inl ⟨fun h => by unfold pl4 at h; omega, rfl⟩, p0, cs_refl⟩, (by first | exact hs_refl | exact (fun _ _ => rfl)), (by first | exact ss_refl | exact ⟨rfl, fun _ _ => rfl⟩), ⟨⟨(by first | rfl | exact if_neg (by omega) | exact (if_neg (by omega)).trans (if_neg (by omega))), (by first | rfl | exact if_neg (by omega) | exact (if_neg (by omega)).trans (if_neg (by omega))), (by first | rfl | exact if_neg (by omega) | exact (if_neg (by omega)).trans (if_neg (by omega)))⟩, rfl, rfl, rfl⟩, ⟨⟨(by first | rfl | exact if_neg (by omega) | exact (if_neg (by omega)).trans (if_neg (by omega))), (by first | rfl | exact if_neg (by omega) | exact (if_neg (by omega)).trans (if_neg (by omega))), (by first | rfl | exact if_neg (by omega) | exact (if_neg (by omega)).trans (if_neg (by omega)))⟩, ⟨rfl, rfl, rfl, rfl, rfl⟩, ⟨rfl, rfl, rfl, rfl⟩, rfl, rfl, rfl, rfl, rfl⟩⟩)⟩, by show va_P D.1 j_cl (cW D q u) t0.heap; rw [ht]; first | exact hP | (simp only [sC_id, sX_id, sY_id, sH_id, sT_id, sV_id]; exact hP)⟩, hS.F ht⟩) hS.2.2 dX11_ray_47 hlk
        · skip
          refine lv_iload SS.1 SS.2.1 dX11_ray_29 (lv_at hl 5 rfl) ?_
          refine j_if_lt SS (tgt := 45) (x := i) dX11_ray_31 (by decide) (by omega) (fun c_31 => ?_) (fun c_31 => ?_)
          · skip
            refine j_ldc SS (-1000000) kw_512 dX11_ray_45 ?_
            exact W.iret SS.1 SS.2.1 hr (fun t0 ht hW => ⟨⟨_, u, rfl, ⟨(-1000000), rfl, (⟨⟨Or.inl ⟨fun h => by unfold pl4 at h; omega, rfl⟩, p0, cs_refl⟩, (by first | exact hs_refl | exact (fun _ _ => rfl)), (by first | exact ss_refl | exact ⟨rfl, fun _ _ => rfl⟩), ⟨⟨(by first | rfl | exact if_neg (by omega) | exact (if_neg (by omega)).trans (if_neg (by omega))), (by first | rfl | exact if_neg (by omega) | exact (if_neg (by omega)).trans (if_neg (by omega))), (by first | rfl | exact if_neg (by omega) | exact (if_neg (by omega)).trans (if_neg (by omega)))⟩, rfl, rfl, rfl⟩, ⟨⟨(by first | rfl | exact if_neg (by omega) | exact (if_neg (by omega)).trans (if_neg (by omega))), (by first | rfl | exact if_neg (by omega) | exact (if_neg (by omega)).trans (if_neg (by omega))), (by first | rfl | exact if_neg (by omega) | exact (if_neg (by omega)).trans (if_neg (by omega)))⟩, ⟨rfl, rfl, rfl, rfl, rfl⟩, ⟨rfl, rfl, rfl, rfl⟩, rfl, rfl, rfl, rfl, rfl⟩⟩)⟩, by show va_P D.1 j_cl (cW D q u) t0.heap; rw [ht]; first | exact hP | (simp only [sC_id, sX_id, sY_id, sH_id, sT_id, sV_id]; exact hP)⟩, hS.F ht⟩) hS.2.2 dX11_ray_47 hlk
          · skip
            refine lv_iload SS.1 SS.2.1 dX11_ray_34 (lv_at hl 6 rfl) ?_
            refine j_if_lt SS (tgt := 45) (x := what) dX11_ray_36 (by decide) (by omega) (fun c_36 => ?_) (fun c_36 => ?_)
            · skip
              refine j_ldc SS (-1000000) kw_512 dX11_ray_45 ?_
              exact W.iret SS.1 SS.2.1 hr (fun t0 ht hW => ⟨⟨_, u, rfl, ⟨(-1000000), rfl, (⟨⟨Or.inl ⟨fun h => by unfold pl4 at h; omega, rfl⟩, p0, cs_refl⟩, (by first | exact hs_refl | exact (fun _ _ => rfl)), (by first | exact ss_refl | exact ⟨rfl, fun _ _ => rfl⟩), ⟨⟨(by first | rfl | exact if_neg (by omega) | exact (if_neg (by omega)).trans (if_neg (by omega))), (by first | rfl | exact if_neg (by omega) | exact (if_neg (by omega)).trans (if_neg (by omega))), (by first | rfl | exact if_neg (by omega) | exact (if_neg (by omega)).trans (if_neg (by omega)))⟩, rfl, rfl, rfl⟩, ⟨⟨(by first | rfl | exact if_neg (by omega) | exact (if_neg (by omega)).trans (if_neg (by omega))), (by first | rfl | exact if_neg (by omega) | exact (if_neg (by omega)).trans (if_neg (by omega))), (by first | rfl | exact if_neg (by omega) | exact (if_neg (by omega)).trans (if_neg (by omega)))⟩, ⟨rfl, rfl, rfl, rfl, rfl⟩, ⟨rfl, rfl, rfl, rfl⟩, rfl, rfl, rfl, rfl, rfl⟩⟩)⟩, by show va_P D.1 j_cl (cW D q u) t0.heap; rw [ht]; first | exact hP | (simp only [sC_id, sX_id, sY_id, sH_id, sT_id, sV_id]; exact hP)⟩, hS.F ht⟩) hS.2.2 dX11_ray_47 hlk
            · skip
              refine lv_iload SS.1 SS.2.1 dX11_ray_39 (lv_at hl 6 rfl) ?_
              refine j_iconst SS dX11_ray_41 ?_
              refine j_icmp_le SS (tgt := 48) (x := what) (y := 2) dX11_ray_42 (by decide) (by omega) (by decide) (fun c_42 => ?_) (fun c_42 => ?_)
              · skip
                refine lv_iload_n SS.1 SS.2.1 dX11_ray_48 rfl (lv_at hl 1 rfl) ?_
                refine lv_iload_n SS.1 SS.2.1 dX11_ray_49 rfl (lv_at hl 2 rfl) ?_
                refine lv_iload_n SS.1 SS.2.1 dX11_ray_50 rfl (lv_at hl 3 rfl) ?_
                refine lv_iload SS.1 SS.2.1 dX11_ray_51 (lv_at hl 4 rfl) ?_
                refine j_sRi SS (As := [.int (J a), .int (J b), .int (J c), .int (J d)]) (rest := []) (c_X11_isAngle l D  a b c d (show -40 ≤ a ∧ a ≤ 40 from (by omega)) (show -40 ≤ b ∧ b ≤ 40 from (by omega)) (show -40 ≤ c ∧ c ≤ 40 from (by omega)) (show -40 ≤ d ∧ d ≤ 40 from (by omega))) mf_X11_isAngle kw_832 hG trivial rfl hl.1 ⟨⟨Nat.le_of_ble_eq_true rfl, Nat.le_of_ble_eq_true rfl⟩, Nat.le_of_ble_eq_true rfl, Nat.le_refl _, Nat.le_refl _⟩ rfl dX11_ray_53 (fun z_53 h_53 => ?_)
                have h_53 : (z_53 = 1 ∧ 0 < cx a b c d) ∨ (z_53 = 0 ∧ cx a b c d ≤ 0) := h_53
                refine j_if_ne SS (tgt := 62) (x := z_53) dX11_ray_56 (by decide) (by omega) (fun c_56 => ?_) (fun c_56 => ?_)
                · skip
                  refine lv_aload_n SS.1 SS.2.1 dX11_ray_62 rfl (lv_at hl 0 rfl) ?_
                  refine j_get SS hG hP 0 (v := .ref (q 4)) (C := RX11) (T := TX11) (N := 8) rfl rfl inX11 3 (by decide) (ref := "GridPolygons") kw_388 rfl rfl dX11_ray_63 ?_
                  refine lv_iload_n SS.1 SS.2.1 dX11_ray_66 rfl (lv_at hl 1 rfl) ?_
                  refine lv_iload_n SS.1 SS.2.1 dX11_ray_67 rfl (lv_at hl 2 rfl) ?_
                  refine lv_iload_n SS.1 SS.2.1 dX11_ray_68 rfl (lv_at hl 3 rfl) ?_
                  refine lv_iload SS.1 SS.2.1 dX11_ray_69 (lv_at hl 4 rfl) ?_
                  refine lv_iload SS.1 SS.2.1 dX11_ray_71 (lv_at hl 5 rfl) ?_
                  refine j_vWv SS (As := [.int (J a), .int (J b), .int (J c), .int (J d), .int (J i)]) (rest := []) (c_X9_walk l D q u A (cW_D hD)  a b c d i (show -40 ≤ a ∧ a ≤ 40 from (by omega)) (show -40 ≤ b ∧ b ≤ 40 from (by omega)) (show -40 ≤ c ∧ c ≤ 40 from (by omega)) (show -40 ≤ d ∧ d ≤ 40 from (by omega)) (show 0 < cx a b c d from (by omega)) (show -2147483648 ≤ i ∧ i ≤ 2147483647 from (p5))) mf_X9_walk kw_835 hG hP hP (ci := 9) (q0 := 4) rfl rfl rfl hS (fun _ h => h) rfl hl.1 ⟨⟨Nat.le_of_ble_eq_true rfl, Nat.le_of_ble_eq_true rfl⟩, Nat.le_of_ble_eq_true rfl, Nat.le_refl _, Nat.le_refl _⟩ rfl dX11_ray_73 (fun u73 H locs h_73 hP _ hS => ?_)
                  obtain ⟨cn_73, x1_73, y1_73, b1_73, sx_73, sy_73, rfl, h_73⟩ := h_73
                  have hP : va_P D.1 j_cl (cW D q (sV (sV (sV (sV (sV (sV u 4 cn_73) 5 x1_73) 6 y1_73) 7 b1_73) 8 sx_73) 9 sy_73)) H := hP
                  have h_73 : wk a b c d i cn_73 x1_73 y1_73 b1_73 := h_73
                  refine lv_iload SS.1 SS.2.1 dX11_ray_76 (lv_at hl 5 rfl) ?_
                  refine lv_aload_n SS.1 SS.2.1 dX11_ray_78 rfl (lv_at hl 0 rfl) ?_
                  refine j_get SS hG hP 0 (v := .ref (q 4)) (C := RX11) (T := TX11) (N := 8) rfl rfl inX11 3 (by decide) (ref := "GridPolygons") kw_388 rfl rfl dX11_ray_79 ?_
                  refine j_get SS hG hP 4 (v := .int (J cn_73)) (C := RX9) (T := TX9) (N := 6) rfl rfl inX9 0 (by decide) (ref := "GridPolygons$Sail") kw_214 rfl rfl dX11_ray_82 ?_
                  obtain ⟨cn82, ecn82⟩ : ∃ z : Int, z = cn_73 := ⟨_, rfl⟩
                  rw [← ecn82]
                  obtain ⟨X, Y, hry, hk⟩ := h_73
                  rw [← ecn82] at hry hk
                  have hn := hry.1
                  have hp : pl4 a b c d := by unfold pl4; omega
                  have hc : 0 < cx a b c d := by omega
                  refine j_icmp_lt SS (tgt := 91) (x := i) (y := cn82) dX11_ray_85 (by decide) (by omega) (by omega) (fun c_85 => ?_) (fun c_85 => ?_)
                  · skip
                    refine lv_iload SS.1 SS.2.1 dX11_ray_91 (lv_at hl 6 rfl) ?_
                    refine j_if_ne SS (tgt := 104) (x := what) dX11_ray_93 (by decide) (by omega) (fun c_93 => ?_) (fun c_93 => ?_)
                    · skip
                      refine lv_iload SS.1 SS.2.1 dX11_ray_104 (lv_at hl 6 rfl) ?_
                      refine j_iconst SS dX11_ray_106 ?_
                      refine j_icmp_ne SS (tgt := 120) (x := what) (y := 1) dX11_ray_107 (by decide) (by omega) (by decide) (fun c_107 => ?_) (fun c_107 => ?_)
                      · skip
                        refine lv_aload_n SS.1 SS.2.1 dX11_ray_120 rfl (lv_at hl 0 rfl) ?_
                        refine j_get SS hG hP 0 (v := .ref (q 4)) (C := RX11) (T := TX11) (N := 8) rfl rfl inX11 3 (by decide) (ref := "GridPolygons") kw_388 rfl rfl dX11_ray_121 ?_
                        refine j_get SS hG hP 4 (v := .int (J b1_73)) (C := RX9) (T := TX9) (N := 6) rfl rfl inX9 3 (by decide) (ref := "GridPolygons$Sail") kw_220 rfl rfl dX11_ray_124 ?_
                        obtain ⟨b124, eb124⟩ : ∃ z : Int, z = b1_73 := ⟨_, rfl⟩
                        rw [← eb124]
                        have hk2 := hk (by omega) (by omega)
                        exact W.iret SS.1 SS.2.1 hr (fun t0 ht hW => ⟨⟨_, (sV (sV (sV (sV (sV (sV u 4 cn_73) 5 x1_73) 6 y1_73) 7 b1_73) 8 sx_73) 9 sy_73), rfl, ⟨b124, rfl, (⟨by first | exact ⟨Or.inr ⟨hp, by omega, hc, by omega, X, Y, cn82, hry, Or.inr ⟨by omega, Or.inr (Or.inl ⟨by omega, by rw [ey114]; exact hk2.2.1⟩)⟩⟩, CI_sl p0, cs_refl⟩ | exact ⟨Or.inr ⟨hp, by omega, hc, by omega, X, Y, cn82, hry, Or.inr ⟨by omega, Or.inr (Or.inr ⟨by omega, by rw [eb124]; by_cases e : i = 0 ∨ i = cn82 - 1; exact Or.inl ⟨e, hk2.2.2.1 e⟩; exact Or.inr ⟨by omega, by omega, hk2.2.2.2 (by omega) (by omega)⟩⟩)⟩⟩, CI_sl p0, cs_refl⟩, (by first | exact hs_refl | exact (fun _ _ => rfl)), (by first | exact ss_refl | exact ⟨rfl, fun _ _ => rfl⟩), ⟨⟨(by first | rfl | exact if_neg (by omega) | exact (if_neg (by omega)).trans (if_neg (by omega))), (by first | rfl | exact if_neg (by omega) | exact (if_neg (by omega)).trans (if_neg (by omega))), (by first | rfl | exact if_neg (by omega) | exact (if_neg (by omega)).trans (if_neg (by omega)))⟩, rfl, rfl, rfl⟩, ⟨⟨(by first | rfl | exact if_neg (by omega) | exact (if_neg (by omega)).trans (if_neg (by omega))), (by first | rfl | exact if_neg (by omega) | exact (if_neg (by omega)).trans (if_neg (by omega))), (by first | rfl | exact if_neg (by omega) | exact (if_neg (by omega)).trans (if_neg (by omega)))⟩, ⟨rfl, rfl, rfl, rfl, rfl⟩, ⟨rfl, rfl, rfl, rfl⟩, rfl, rfl, rfl, rfl, rfl⟩⟩)⟩, by show va_P D.1 j_cl (cW D q (sV (sV (sV (sV (sV (sV u 4 cn_73) 5 x1_73) 6 y1_73) 7 b1_73) 8 sx_73) 9 sy_73)) t0.heap; rw [ht]; first | exact hP | (simp only [sC_id, sX_id, sY_id, sH_id, sT_id, sV_id]; exact hP)⟩, hS.F ht⟩) hS.2.2 dX11_ray_127 hlk
                      · skip
                        refine lv_aload_n SS.1 SS.2.1 dX11_ray_110 rfl (lv_at hl 0 rfl) ?_
                        refine j_get SS hG hP 0 (v := .ref (q 4)) (C := RX11) (T := TX11) (N := 8) rfl rfl inX11 3 (by decide) (ref := "GridPolygons") kw_388 rfl rfl dX11_ray_111 ?_
                        refine j_get SS hG hP 4 (v := .int (J y1_73)) (C := RX9) (T := TX9) (N := 6) rfl rfl inX9 2 (by decide) (ref := "GridPolygons$Sail") kw_218 rfl rfl dX11_ray_114 ?_
                        obtain ⟨y114, ey114⟩ : ∃ z : Int, z = y1_73 := ⟨_, rfl⟩
                        rw [← ey114]
                        have hk2 := hk (by omega) (by omega)
                        refine lv_goto (tgt := 127) SS.1 SS.2.1 dX11_ray_117 (by decide) ?_
                        exact W.iret SS.1 SS.2.1 hr (fun t0 ht hW => ⟨⟨_, (sV (sV (sV (sV (sV (sV u 4 cn_73) 5 x1_73) 6 y1_73) 7 b1_73) 8 sx_73) 9 sy_73), rfl, ⟨y114, rfl, (⟨by first | exact ⟨Or.inr ⟨hp, by omega, hc, by omega, X, Y, cn82, hry, Or.inr ⟨by omega, Or.inr (Or.inl ⟨by omega, by rw [ey114]; exact hk2.2.1⟩)⟩⟩, CI_sl p0, cs_refl⟩ | exact ⟨Or.inr ⟨hp, by omega, hc, by omega, X, Y, cn82, hry, Or.inr ⟨by omega, Or.inr (Or.inr ⟨by omega, by rw [eb124]; by_cases e : i = 0 ∨ i = cn82 - 1; exact Or.inl ⟨e, hk2.2.2.1 e⟩; exact Or.inr ⟨by omega, by omega, hk2.2.2.2 (by omega) (by omega)⟩⟩)⟩⟩, CI_sl p0, cs_refl⟩, (by first | exact hs_refl | exact (fun _ _ => rfl)), (by first | exact ss_refl | exact ⟨rfl, fun _ _ => rfl⟩), ⟨⟨(by first | rfl | exact if_neg (by omega) | exact (if_neg (by omega)).trans (if_neg (by omega))), (by first | rfl | exact if_neg (by omega) | exact (if_neg (by omega)).trans (if_neg (by omega))), (by first | rfl | exact if_neg (by omega) | exact (if_neg (by omega)).trans (if_neg (by omega)))⟩, rfl, rfl, rfl⟩, ⟨⟨(by first | rfl | exact if_neg (by omega) | exact (if_neg (by omega)).trans (if_neg (by omega))), (by first | rfl | exact if_neg (by omega) | exact (if_neg (by omega)).trans (if_neg (by omega))), (by first | rfl | exact if_neg (by omega) | exact (if_neg (by omega)).trans (if_neg (by omega)))⟩, ⟨rfl, rfl, rfl, rfl, rfl⟩, ⟨rfl, rfl, rfl, rfl⟩, rfl, rfl, rfl, rfl, rfl⟩⟩)⟩, by show va_P D.1 j_cl (cW D q (sV (sV (sV (sV (sV (sV u 4 cn_73) 5 x1_73) 6 y1_73) 7 b1_73) 8 sx_73) 9 sy_73)) t0.heap; rw [ht]; first | exact hP | (simp only [sC_id, sX_id, sY_id, sH_id, sT_id, sV_id]; exact hP)⟩, hS.F ht⟩) hS.2.2 dX11_ray_127 hlk
                    · skip
                      refine lv_aload_n SS.1 SS.2.1 dX11_ray_96 rfl (lv_at hl 0 rfl) ?_
                      refine j_get SS hG hP 0 (v := .ref (q 4)) (C := RX11) (T := TX11) (N := 8) rfl rfl inX11 3 (by decide) (ref := "GridPolygons") kw_388 rfl rfl dX11_ray_97 ?_
                      refine j_get SS hG hP 4 (v := .int (J x1_73)) (C := RX9) (T := TX9) (N := 6) rfl rfl inX9 1 (by decide) (ref := "GridPolygons$Sail") kw_216 rfl rfl dX11_ray_100 ?_
                      obtain ⟨x100, ex100⟩ : ∃ z : Int, z = x1_73 := ⟨_, rfl⟩
                      rw [← ex100]
                      have hk2 := hk (by omega) (by omega)
                      exact W.iret SS.1 SS.2.1 hr (fun t0 ht hW => ⟨⟨_, (sV (sV (sV (sV (sV (sV u 4 cn_73) 5 x1_73) 6 y1_73) 7 b1_73) 8 sx_73) 9 sy_73), rfl, ⟨x100, rfl, (⟨⟨Or.inr ⟨hp, by omega, hc, by omega, X, Y, cn82, hry, Or.inr ⟨by omega, Or.inl ⟨by omega, by rw [ex100]; exact hk2.1⟩⟩⟩, CI_sl p0, cs_refl⟩, (by first | exact hs_refl | exact (fun _ _ => rfl)), (by first | exact ss_refl | exact ⟨rfl, fun _ _ => rfl⟩), ⟨⟨(by first | rfl | exact if_neg (by omega) | exact (if_neg (by omega)).trans (if_neg (by omega))), (by first | rfl | exact if_neg (by omega) | exact (if_neg (by omega)).trans (if_neg (by omega))), (by first | rfl | exact if_neg (by omega) | exact (if_neg (by omega)).trans (if_neg (by omega)))⟩, rfl, rfl, rfl⟩, ⟨⟨(by first | rfl | exact if_neg (by omega) | exact (if_neg (by omega)).trans (if_neg (by omega))), (by first | rfl | exact if_neg (by omega) | exact (if_neg (by omega)).trans (if_neg (by omega))), (by first | rfl | exact if_neg (by omega) | exact (if_neg (by omega)).trans (if_neg (by omega)))⟩, ⟨rfl, rfl, rfl, rfl, rfl⟩, ⟨rfl, rfl, rfl, rfl⟩, rfl, rfl, rfl, rfl, rfl⟩⟩)⟩, by show va_P D.1 j_cl (cW D q (sV (sV (sV (sV (sV (sV u 4 cn_73) 5 x1_73) 6 y1_73) 7 b1_73) 8 sx_73) 9 sy_73)) t0.heap; rw [ht]; first | exact hP | (simp only [sC_id, sX_id, sY_id, sH_id, sT_id, sV_id]; exact hP)⟩, hS.F ht⟩) hS.2.2 dX11_ray_103 hlk
                  · skip
                    refine j_ldc SS (-1000000) kw_512 dX11_ray_88 ?_
                    exact W.iret SS.1 SS.2.1 hr (fun t0 ht hW => ⟨⟨_, (sV (sV (sV (sV (sV (sV u 4 cn_73) 5 x1_73) 6 y1_73) 7 b1_73) 8 sx_73) 9 sy_73), rfl, ⟨(-1000000), rfl, (⟨⟨Or.inr ⟨hp, by omega, hc, by omega, X, Y, cn82, hry, Or.inl ⟨by omega, rfl⟩⟩, CI_sl p0, cs_refl⟩, (by first | exact hs_refl | exact (fun _ _ => rfl)), (by first | exact ss_refl | exact ⟨rfl, fun _ _ => rfl⟩), ⟨⟨(by first | rfl | exact if_neg (by omega) | exact (if_neg (by omega)).trans (if_neg (by omega))), (by first | rfl | exact if_neg (by omega) | exact (if_neg (by omega)).trans (if_neg (by omega))), (by first | rfl | exact if_neg (by omega) | exact (if_neg (by omega)).trans (if_neg (by omega)))⟩, rfl, rfl, rfl⟩, ⟨⟨(by first | rfl | exact if_neg (by omega) | exact (if_neg (by omega)).trans (if_neg (by omega))), (by first | rfl | exact if_neg (by omega) | exact (if_neg (by omega)).trans (if_neg (by omega))), (by first | rfl | exact if_neg (by omega) | exact (if_neg (by omega)).trans (if_neg (by omega)))⟩, ⟨rfl, rfl, rfl, rfl, rfl⟩, ⟨rfl, rfl, rfl, rfl⟩, rfl, rfl, rfl, rfl, rfl⟩⟩)⟩, by show va_P D.1 j_cl (cW D q (sV (sV (sV (sV (sV (sV u 4 cn_73) 5 x1_73) 6 y1_73) 7 b1_73) 8 sx_73) 9 sy_73)) t0.heap; rw [ht]; first | exact hP | (simp only [sC_id, sX_id, sY_id, sH_id, sT_id, sV_id]; exact hP)⟩, hS.F ht⟩) hS.2.2 dX11_ray_90 hlk
                · skip
                  refine j_ldc SS (-1000000) kw_512 dX11_ray_59 ?_
                  exact W.iret SS.1 SS.2.1 hr (fun t0 ht hW => ⟨⟨_, u, rfl, ⟨(-1000000), rfl, (⟨⟨Or.inl ⟨fun h => by have := h.2.2.1; omega, rfl⟩, p0, cs_refl⟩, (by first | exact hs_refl | exact (fun _ _ => rfl)), (by first | exact ss_refl | exact ⟨rfl, fun _ _ => rfl⟩), ⟨⟨(by first | rfl | exact if_neg (by omega) | exact (if_neg (by omega)).trans (if_neg (by omega))), (by first | rfl | exact if_neg (by omega) | exact (if_neg (by omega)).trans (if_neg (by omega))), (by first | rfl | exact if_neg (by omega) | exact (if_neg (by omega)).trans (if_neg (by omega)))⟩, rfl, rfl, rfl⟩, ⟨⟨(by first | rfl | exact if_neg (by omega) | exact (if_neg (by omega)).trans (if_neg (by omega))), (by first | rfl | exact if_neg (by omega) | exact (if_neg (by omega)).trans (if_neg (by omega))), (by first | rfl | exact if_neg (by omega) | exact (if_neg (by omega)).trans (if_neg (by omega)))⟩, ⟨rfl, rfl, rfl, rfl, rfl⟩, ⟨rfl, rfl, rfl, rfl⟩, rfl, rfl, rfl, rfl, rfl⟩⟩)⟩, by show va_P D.1 j_cl (cW D q u) t0.heap; rw [ht]; first | exact hP | (simp only [sC_id, sX_id, sY_id, sH_id, sT_id, sV_id]; exact hP)⟩, hS.F ht⟩) hS.2.2 dX11_ray_61 hlk
              · skip
                refine j_ldc SS (-1000000) kw_512 dX11_ray_45 ?_
                exact W.iret SS.1 SS.2.1 hr (fun t0 ht hW => ⟨⟨_, u, rfl, ⟨(-1000000), rfl, (⟨⟨Or.inl ⟨fun h => by unfold pl4 at h; omega, rfl⟩, p0, cs_refl⟩, (by first | exact hs_refl | exact (fun _ _ => rfl)), (by first | exact ss_refl | exact ⟨rfl, fun _ _ => rfl⟩), ⟨⟨(by first | rfl | exact if_neg (by omega) | exact (if_neg (by omega)).trans (if_neg (by omega))), (by first | rfl | exact if_neg (by omega) | exact (if_neg (by omega)).trans (if_neg (by omega))), (by first | rfl | exact if_neg (by omega) | exact (if_neg (by omega)).trans (if_neg (by omega)))⟩, rfl, rfl, rfl⟩, ⟨⟨(by first | rfl | exact if_neg (by omega) | exact (if_neg (by omega)).trans (if_neg (by omega))), (by first | rfl | exact if_neg (by omega) | exact (if_neg (by omega)).trans (if_neg (by omega))), (by first | rfl | exact if_neg (by omega) | exact (if_neg (by omega)).trans (if_neg (by omega)))⟩, ⟨rfl, rfl, rfl, rfl, rfl⟩, ⟨rfl, rfl, rfl, rfl⟩, rfl, rfl, rfl, rfl, rfl⟩⟩)⟩, by show va_P D.1 j_cl (cW D q u) t0.heap; rw [ht]; first | exact hP | (simp only [sC_id, sX_id, sY_id, sH_id, sT_id, sV_id]; exact hP)⟩, hS.F ht⟩) hS.2.2 dX11_ray_47 hlk

set_option maxHeartbeats 4000000 in
set_option maxRecDepth 100000 in
theorem c_X11_hasAtMost3 (l : Launch) (D : JD) (q : Nat → Nat) (u : CS) (r : Nat) (hr : r ≤ 8) (m : Int) (p0 : RB 40 u r) (p1 : -2147483648 ≤ m ∧ m ≤ 2147483647) : Met l yX11_hasAtMost (jw yX11_hasAtMost cX11_hasAtMost 2 (some .boolean)) (jr 6 128) (jP [.ref (q (9 + 5 * r)), .int (J m)] D (fun H => va_P D.1 j_cl (cW D q u) H)) (jRi (fun z => (z = 1 ∧ 3 ≤ u.1.2.2.1 r ∧ rE u r + rI u r ≤ m) ∨ (z = 0 ∧ ¬ (3 ≤ u.1.2.2.1 r ∧ rE u r + rI u r ≤ m)))) 0 0 (fun _ => False) := by
  refine Met.ofW (cc := cX11_hasAtMost) (maxL := 2) (ret := (some .boolean)) (by decide) rfl ?_
  intro pr en st mi args below meth co s₁ B hml hv
  obtain ⟨rfl, hG, hP⟩ := hv
  have hr := B.returns
  have hlk := B.notSynchronized
  have SS : jS pr mi co cX11_hasAtMost 2 st _ RX11 := ⟨B.exec, B.bytes, hml, findClass_of_methodNamed B.named, fun w hw => atoms_spec (ws := (jw yX11_hasAtMost cX11_hasAtMost 2 (some .boolean))) B.pre w (List.mem_cons_of_mem _ hw)⟩
  have hl := lv_entry ([.ref (q (9 + 5 * r)), .int (J m)]) (n := 2) (Nat.le_of_ble_eq_true rfl)
  rw [lg_entry_eq]
  generalize (lg_sl ([.ref (q (9 + 5 * r)), .int (J m)]) ++ List.replicate (2 - (lg_sl ([.ref (q (9 + 5 * r)), .int (J m)])).length) Slot.unset).toArray = ls at hl ⊢
  have hl : lv_has ls 2 [(0, .ref (q (9 + 5 * r))), (1, .int (J m))] := hl
  have hc := p0.1
  have hrl := rl_b r
  refine lv_aload_n SS.1 SS.2.1 dX11_hasAtMost_0 rfl (lv_at hl 0 rfl) ?_
  refine j_vRi SS (As := []) (rest := []) (c_X7_isPolygon l D q u r (by omega) (40 : Int)  (show 0 ≤ (40 : Int) ∧ (40 : Int) ≤ 80 from (by omega)) (show RB (40 : Int) u r from (p0))) mf_X7_isPolygon kw_568 hG hP hP (ci := 7) (q0 := (9 + 5 * r)) rfl (cw_ring (by omega)) rfl rfl hl.1 ⟨⟨Nat.le_of_ble_eq_true rfl, Nat.le_of_ble_eq_true rfl⟩, Nat.le_of_ble_eq_true rfl, Nat.le_refl _, Nat.le_refl _⟩ rfl dX11_hasAtMost_1 (fun z_1 h_1 => ?_)
  have h_1 : (z_1 = 1 ∧ 3 ≤ (u.1.2.2.1 r)) ∨ (z_1 = 0 ∧ (u.1.2.2.1 r) < 3) := h_1
  refine j_if_eq SS (tgt := 19) (x := z_1) dX11_hasAtMost_4 (by decide) (by omega) (fun c_4 => ?_) (fun c_4 => ?_)
  · skip
    refine j_iconst SS dX11_hasAtMost_19 ?_
    exact W.zret SS.1 SS.2.1 hr (j_nz (by decide)) (fun t0 ht hW => ⟨_, rfl, ⟨0, rfl, (by omega)⟩, ht⟩) (fun _ h => nomatch h) dX11_hasAtMost_20 hlk
  · skip
    refine lv_aload_n SS.1 SS.2.1 dX11_hasAtMost_7 rfl (lv_at hl 0 rfl) ?_
    refine j_vRi SS (As := []) (rest := []) (c_X7_all l D q u r (by omega) (40 : Int)  (show 0 ≤ (40 : Int) ∧ (40 : Int) ≤ 80 from (by omega)) (show RB (40 : Int) u r from (p0))) mf_X7_all kw_553 hG hP hP (ci := 7) (q0 := (9 + 5 * r)) rfl (cw_ring (by omega)) rfl rfl hl.1 ⟨⟨Nat.le_of_ble_eq_true rfl, Nat.le_of_ble_eq_true rfl⟩, Nat.le_of_ble_eq_true rfl, Nat.le_refl _, Nat.le_refl _⟩ rfl dX11_hasAtMost_8 (fun z_8 h_8 => ?_)
    have h_8 : z_8 = rE u r + rI u r ∧ -7000000 ≤ z_8 ∧ z_8 ≤ 7000000 := h_8
    refine lv_iload_n SS.1 SS.2.1 dX11_hasAtMost_11 rfl (lv_at hl 1 rfl) ?_
    refine j_icmp_gt SS (tgt := 19) (x := z_8) (y := m) dX11_hasAtMost_12 (by decide) (by omega) (by omega) (fun c_12 => ?_) (fun c_12 => ?_)
    · skip
      refine j_iconst SS dX11_hasAtMost_19 ?_
      exact W.zret SS.1 SS.2.1 hr (j_nz (by decide)) (fun t0 ht hW => ⟨_, rfl, ⟨0, rfl, (by omega)⟩, ht⟩) (fun _ h => nomatch h) dX11_hasAtMost_20 hlk
    · skip
      refine j_iconst SS dX11_hasAtMost_15 ?_
      refine lv_goto (tgt := 20) SS.1 SS.2.1 dX11_hasAtMost_16 (by decide) ?_
      exact W.zret SS.1 SS.2.1 hr (j_nz (by decide)) (fun t0 ht hW => ⟨_, rfl, ⟨1, rfl, (by omega)⟩, ht⟩) (fun _ h => nomatch h) dX11_hasAtMost_20 hlk

set_option maxHeartbeats 4000000 in
set_option maxRecDepth 100000 in
theorem c_X11_heightF (l : Launch) (D : JD) (q : Nat → Nat) (u : CS) (A : Nat → Prop) (hD : va_D A (cW D q u)) (s : Int) (i : Int) (v : Int) (p0 : CI u) (p1 : -2147483648 ≤ s ∧ s ≤ 2147483647) (p2 : -2147483648 ≤ i ∧ i ≤ 2147483647) (p3 : -2147483648 ≤ v ∧ v ≤ 2147483647) : Met l yX11_height (jw yX11_height cX11_height 6 (some .int)) (jr 7 149) (jP [.ref (q 0), .int (J s), .int (J i), .int (J v)] D (fun H => va_P D.1 j_cl (cW D q u) H)) (jWi (fun z u' => (CI u' ∧ cSame u u') ∧ htC u u' s i v z ∧ kHt u u' s i v) (fun u' H => va_P D.1 j_cl (cW D q u') H) A) 0 0 A := by
  refine Met.ofW (cc := cX11_height) (maxL := 6) (ret := (some .int)) (by decide) rfl ?_
  intro pr en st mi args below meth co s₁ B hml hv
  obtain ⟨rfl, hG, hP⟩ := hv
  have hr := B.returns
  have hlk := B.notSynchronized
  have SS : jS pr mi co cX11_height 6 st _ RX11 := ⟨B.exec, B.bytes, hml, findClass_of_methodNamed B.named, fun w hw => atoms_spec (ws := (jw yX11_height cX11_height 6 (some .int))) B.pre w (List.mem_cons_of_mem _ hw)⟩
  have hl := lv_entry ([.ref (q 0), .int (J s), .int (J i), .int (J v)]) (n := 6) (Nat.le_of_ble_eq_true rfl)
  rw [lg_entry_eq]
  generalize (lg_sl ([.ref (q 0), .int (J s), .int (J i), .int (J v)]) ++ List.replicate (6 - (lg_sl ([.ref (q 0), .int (J s), .int (J i), .int (J v)])).length) Slot.unset).toArray = ls at hl ⊢
  have hl : lv_has ls 6 [(0, .ref (q 0)), (1, .int (J s)), (2, .int (J i)), (3, .int (J v))] := hl
  have hS : va_S A st.heap st.heap [] := va_S.rf
  refine lv_aload_n SS.1 SS.2.1 dX11_height_0 rfl (lv_at hl 0 rfl) ?_
  refine lv_iload_n SS.1 SS.2.1 dX11_height_1 rfl (lv_at hl 1 rfl) ?_
  refine j_vSh SS (As := [.int (J s)]) (rest := []) (c_X11_shapeAt l D q u  s (show -2147483648 ≤ s ∧ s ≤ 2147483647 from (p1))) mf_X11_shapeAt kw_414 hG hP hP (ci := 11) (q0 := 0) rfl rfl rfl rfl hl.1 ⟨⟨Nat.le_of_ble_eq_true rfl, Nat.le_of_ble_eq_true rfl⟩, Nat.le_of_ble_eq_true rfl, Nat.le_refl _, Nat.le_refl _⟩ rfl dX11_height_2 (fun i_2 hi_2 hz_2 => ?_) (fun hn_2 => ?_)
  · skip
    have hI2 := CI_s p0 (show i_2 < 8 by omega)
    have hI2c := hI2.1
    have hrl2 := rl_s (show i_2 < 8 by omega)
    refine lv_astore (lv' := [(4, .ref (q (8 + 5 * i_2))), (0, .ref (q 0)), (1, .int (J s)), (2, .int (J i)), (3, .int (J v))]) SS.1 SS.2.1 dX11_height_5 hl (by decide) rfl (fun ls hl => ?_)
    refine lv_aload SS.1 SS.2.1 dX11_height_7 (lv_at hl 0 rfl) ?_
    refine lv_ifnull SS.1 SS.2.1 dX11_height_9 ?_
    refine lv_iload_n SS.1 SS.2.1 dX11_height_12 rfl (lv_at hl 4 rfl) ?_
    refine j_sipush SS dX11_height_13 (by decide +kernel) ?_
    refine j_icmp_lt SS (tgt := 39) (x := v) (y := (-1000)) dX11_height_16 (by decide) (by omega) (by decide) (fun c_16 => ?_) (fun c_16 => ?_)
    · skip
      refine j_ldc SS (-1000000) kw_512 dX11_height_39 ?_
      have hn9 : ¬ htP (u.1.2.2.1 s.toNat) (rE u s.toNat + rI u s.toNat) s i v := fun q => by have q1 := q.1; have q2 := q.2.1; have q3 := q.2.2; first | omega | (rw [show s.toNat = i_2 by omega] at q2; omega) | (rw [show s.toNat = i_2 by omega] at q2 q3; omega)
      exact W.iret SS.1 SS.2.1 hr (fun t0 ht hW => ⟨⟨_, u, rfl, ⟨(-1000000), rfl, (⟨⟨p0, (by first | exact cs_refl | exact (fun r hr => ⟨if_neg (by omega), if_neg (by omega), if_neg (by omega)⟩))⟩, Or.inl ⟨hn9, rfl, (by first | exact hs_refl | exact (fun _ _ => rfl))⟩, fun _ => ⟨fun _ => (by first | exact ss_refl | exact ⟨rfl, fun _ _ => rfl⟩), fun q => absurd q hn9⟩, ⟨⟨(by first | rfl | exact if_neg (by omega) | exact (if_neg (by omega)).trans (if_neg (by omega))), (by first | rfl | exact if_neg (by omega) | exact (if_neg (by omega)).trans (if_neg (by omega))), (by first | rfl | exact if_neg (by omega) | exact (if_neg (by omega)).trans (if_neg (by omega)))⟩, rfl, rfl, rfl⟩, ⟨⟨(by first | rfl | exact if_neg (by omega) | exact (if_neg (by omega)).trans (if_neg (by omega))), (by first | rfl | exact if_neg (by omega) | exact (if_neg (by omega)).trans (if_neg (by omega))), (by first | rfl | exact if_neg (by omega) | exact (if_neg (by omega)).trans (if_neg (by omega)))⟩, ⟨rfl, rfl, rfl, rfl, rfl⟩, ⟨rfl, rfl, rfl, rfl⟩, rfl, rfl, rfl, rfl, rfl⟩⟩)⟩, by show va_P D.1 j_cl (cW D q u) t0.heap; rw [ht]; first | exact hP | (simp only [sC_id, sX_id, sY_id, sH_id, sT_id, sV_id]; exact hP)⟩, hS.F ht⟩) hS.2.2 dX11_height_41 hlk
    · skip
      refine lv_iload_n SS.1 SS.2.1 dX11_height_19 rfl (lv_at hl 4 rfl) ?_
      refine j_sipush SS dX11_height_20 (by decide +kernel) ?_
      refine j_icmp_gt SS (tgt := 39) (x := v) (y := 1000) dX11_height_23 (by decide) (by omega) (by decide) (fun c_23 => ?_) (fun c_23 => ?_)
      · skip
        refine j_ldc SS (-1000000) kw_512 dX11_height_39 ?_
        have hn9 : ¬ htP (u.1.2.2.1 s.toNat) (rE u s.toNat + rI u s.toNat) s i v := fun q => by have q1 := q.1; have q2 := q.2.1; have q3 := q.2.2; first | omega | (rw [show s.toNat = i_2 by omega] at q2; omega) | (rw [show s.toNat = i_2 by omega] at q2 q3; omega)
        exact W.iret SS.1 SS.2.1 hr (fun t0 ht hW => ⟨⟨_, u, rfl, ⟨(-1000000), rfl, (⟨⟨p0, (by first | exact cs_refl | exact (fun r hr => ⟨if_neg (by omega), if_neg (by omega), if_neg (by omega)⟩))⟩, Or.inl ⟨hn9, rfl, (by first | exact hs_refl | exact (fun _ _ => rfl))⟩, fun _ => ⟨fun _ => (by first | exact ss_refl | exact ⟨rfl, fun _ _ => rfl⟩), fun q => absurd q hn9⟩, ⟨⟨(by first | rfl | exact if_neg (by omega) | exact (if_neg (by omega)).trans (if_neg (by omega))), (by first | rfl | exact if_neg (by omega) | exact (if_neg (by omega)).trans (if_neg (by omega))), (by first | rfl | exact if_neg (by omega) | exact (if_neg (by omega)).trans (if_neg (by omega)))⟩, rfl, rfl, rfl⟩, ⟨⟨(by first | rfl | exact if_neg (by omega) | exact (if_neg (by omega)).trans (if_neg (by omega))), (by first | rfl | exact if_neg (by omega) | exact (if_neg (by omega)).trans (if_neg (by omega))), (by first | rfl | exact if_neg (by omega) | exact (if_neg (by omega)).trans (if_neg (by omega)))⟩, ⟨rfl, rfl, rfl, rfl, rfl⟩, ⟨rfl, rfl, rfl, rfl⟩, rfl, rfl, rfl, rfl, rfl⟩⟩)⟩, by show va_P D.1 j_cl (cW D q u) t0.heap; rw [ht]; first | exact hP | (simp only [sC_id, sX_id, sY_id, sH_id, sT_id, sV_id]; exact hP)⟩, hS.F ht⟩) hS.2.2 dX11_height_41 hlk
      · skip
        refine lv_aload SS.1 SS.2.1 dX11_height_26 (lv_at hl 0 rfl) ?_
        refine j_get SS hG hP (8 + 5 * i_2) (v := .ref (q (9 + 5 * i_2))) (C := RX10) (T := TX10) (N := 3) (cw_shape (by omega)) rfl inX10 0 (by decide) (ref := "GridPolygons$Shape") kw_151 rfl rfl dX11_height_28 ?_
        refine j_bipush SS dX11_height_31 (by decide +kernel) ?_
        refine j_sRi SS (As := [.ref (q (9 + 5 * i_2)), .int (J 40)]) (rest := []) (c_X11_hasAtMost3 l D q u i_2 (by omega) 40 (show RB 40 u i_2 from (CI_40 p0 (by omega))) (show -2147483648 ≤ (40 : Int) ∧ (40 : Int) ≤ 2147483647 from (by omega))) mf_X11_hasAtMost kw_859 hG hP rfl hl.1 ⟨⟨Nat.le_of_ble_eq_true rfl, Nat.le_of_ble_eq_true rfl⟩, Nat.le_of_ble_eq_true rfl, Nat.le_refl _, Nat.le_refl _⟩ rfl dX11_height_33 (fun z_33 h_33 => ?_)
        have h_33 : (z_33 = 1 ∧ 3 ≤ (u.1.2.2.1 i_2) ∧ rE u i_2 + rI u i_2 ≤ (40 : Int)) ∨ (z_33 = 0 ∧ ¬ (3 ≤ (u.1.2.2.1 i_2) ∧ rE u i_2 + rI u i_2 ≤ (40 : Int))) := h_33
        refine j_if_ne SS (tgt := 42) (x := z_33) dX11_height_36 (by decide) (by omega) (fun c_36 => ?_) (fun c_36 => ?_)
        · skip
          refine lv_iload_n SS.1 SS.2.1 dX11_height_42 rfl (lv_at hl 3 rfl) ?_
          refine j_if_lt SS (tgt := 64) (x := i) dX11_height_43 (by decide) (by omega) (fun c_43 => ?_) (fun c_43 => ?_)
          · skip
            refine j_ldc SS (-1000000) kw_512 dX11_height_64 ?_
            have hn9 : ¬ htP (u.1.2.2.1 s.toNat) (rE u s.toNat + rI u s.toNat) s i v := fun q => by have q1 := q.1; have q2 := q.2.1; have q3 := q.2.2; first | omega | (rw [show s.toNat = i_2 by omega] at q2; omega) | (rw [show s.toNat = i_2 by omega] at q2 q3; omega)
            exact W.iret SS.1 SS.2.1 hr (fun t0 ht hW => ⟨⟨_, u, rfl, ⟨(-1000000), rfl, (⟨⟨p0, (by first | exact cs_refl | exact (fun r hr => ⟨if_neg (by omega), if_neg (by omega), if_neg (by omega)⟩))⟩, Or.inl ⟨hn9, rfl, (by first | exact hs_refl | exact (fun _ _ => rfl))⟩, fun _ => ⟨fun _ => (by first | exact ss_refl | exact ⟨rfl, fun _ _ => rfl⟩), fun q => absurd q hn9⟩, ⟨⟨(by first | rfl | exact if_neg (by omega) | exact (if_neg (by omega)).trans (if_neg (by omega))), (by first | rfl | exact if_neg (by omega) | exact (if_neg (by omega)).trans (if_neg (by omega))), (by first | rfl | exact if_neg (by omega) | exact (if_neg (by omega)).trans (if_neg (by omega)))⟩, rfl, rfl, rfl⟩, ⟨⟨(by first | rfl | exact if_neg (by omega) | exact (if_neg (by omega)).trans (if_neg (by omega))), (by first | rfl | exact if_neg (by omega) | exact (if_neg (by omega)).trans (if_neg (by omega))), (by first | rfl | exact if_neg (by omega) | exact (if_neg (by omega)).trans (if_neg (by omega)))⟩, ⟨rfl, rfl, rfl, rfl, rfl⟩, ⟨rfl, rfl, rfl, rfl⟩, rfl, rfl, rfl, rfl, rfl⟩⟩)⟩, by show va_P D.1 j_cl (cW D q u) t0.heap; rw [ht]; first | exact hP | (simp only [sC_id, sX_id, sY_id, sH_id, sT_id, sV_id]; exact hP)⟩, hS.F ht⟩) hS.2.2 dX11_height_66 hlk
          · skip
            refine lv_iload_n SS.1 SS.2.1 dX11_height_46 rfl (lv_at hl 3 rfl) ?_
            refine lv_aload SS.1 SS.2.1 dX11_height_47 (lv_at hl 0 rfl) ?_
            refine j_get SS hG hP (8 + 5 * i_2) (v := .ref (q (9 + 5 * i_2))) (C := RX10) (T := TX10) (N := 3) (cw_shape (by omega)) rfl inX10 0 (by decide) (ref := "GridPolygons$Shape") kw_151 rfl rfl dX11_height_49 ?_
            refine j_vRi SS (As := []) (rest := [.int (J i)]) (c_X7_all l D q u i_2 (by omega) (40 : Int)  (show 0 ≤ (40 : Int) ∧ (40 : Int) ≤ 80 from (by omega)) (show RB (40 : Int) u i_2 from (CI_40 p0 (by omega)))) mf_X7_all kw_553 hG hP hP (ci := 7) (q0 := (9 + 5 * i_2)) rfl (cw_ring (by omega)) rfl rfl hl.1 ⟨⟨Nat.le_of_ble_eq_true rfl, Nat.le_of_ble_eq_true rfl⟩, Nat.le_of_ble_eq_true rfl, Nat.le_refl _, Nat.le_refl _⟩ rfl dX11_height_52 (fun z_52 h_52 => ?_)
            have h_52 : z_52 = rE u i_2 + rI u i_2 ∧ -7000000 ≤ z_52 ∧ z_52 ≤ 7000000 := h_52
            refine j_icmp_ge SS (tgt := 64) (x := i) (y := z_52) dX11_height_55 (by decide) (by omega) (by omega) (fun c_55 => ?_) (fun c_55 => ?_)
            · skip
              refine j_ldc SS (-1000000) kw_512 dX11_height_64 ?_
              have hn9 : ¬ htP (u.1.2.2.1 s.toNat) (rE u s.toNat + rI u s.toNat) s i v := fun q => by have q1 := q.1; have q2 := q.2.1; have q3 := q.2.2; first | omega | (rw [show s.toNat = i_2 by omega] at q2; omega) | (rw [show s.toNat = i_2 by omega] at q2 q3; omega)
              exact W.iret SS.1 SS.2.1 hr (fun t0 ht hW => ⟨⟨_, u, rfl, ⟨(-1000000), rfl, (⟨⟨p0, (by first | exact cs_refl | exact (fun r hr => ⟨if_neg (by omega), if_neg (by omega), if_neg (by omega)⟩))⟩, Or.inl ⟨hn9, rfl, (by first | exact hs_refl | exact (fun _ _ => rfl))⟩, fun _ => ⟨fun _ => (by first | exact ss_refl | exact ⟨rfl, fun _ _ => rfl⟩), fun q => absurd q hn9⟩, ⟨⟨(by first | rfl | exact if_neg (by omega) | exact (if_neg (by omega)).trans (if_neg (by omega))), (by first | rfl | exact if_neg (by omega) | exact (if_neg (by omega)).trans (if_neg (by omega))), (by first | rfl | exact if_neg (by omega) | exact (if_neg (by omega)).trans (if_neg (by omega)))⟩, rfl, rfl, rfl⟩, ⟨⟨(by first | rfl | exact if_neg (by omega) | exact (if_neg (by omega)).trans (if_neg (by omega))), (by first | rfl | exact if_neg (by omega) | exact (if_neg (by omega)).trans (if_neg (by omega))), (by first | rfl | exact if_neg (by omega) | exact (if_neg (by omega)).trans (if_neg (by omega)))⟩, ⟨rfl, rfl, rfl, rfl, rfl⟩, ⟨rfl, rfl, rfl, rfl⟩, rfl, rfl, rfl, rfl, rfl⟩⟩)⟩, by show va_P D.1 j_cl (cW D q u) t0.heap; rw [ht]; first | exact hP | (simp only [sC_id, sX_id, sY_id, sH_id, sT_id, sV_id]; exact hP)⟩, hS.F ht⟩) hS.2.2 dX11_height_66 hlk
            · skip
              refine lv_iload_n SS.1 SS.2.1 dX11_height_58 rfl (lv_at hl 3 rfl) ?_
              refine j_bipush SS dX11_height_59 (by decide +kernel) ?_
              refine j_icmp_lt SS (tgt := 67) (x := i) (y := 40) dX11_height_61 (by decide) (by omega) (by decide) (fun c_61 => ?_) (fun c_61 => ?_)
              · skip
                refine lv_aload SS.1 SS.2.1 dX11_height_67 (lv_at hl 0 rfl) ?_
                refine j_get SS hG hP (8 + 5 * i_2) (v := .ref (q (12 + 5 * i_2))) (C := RX10) (T := TX10) (N := 3) (cw_shape (by omega)) rfl inX10 1 (by decide) (ref := "GridPolygons$Shape") kw_157 rfl rfl dX11_height_69 ?_
                refine lv_iload_n SS.1 SS.2.1 dX11_height_72 rfl (lv_at hl 3 rfl) ?_
                refine j_iald SS hG hP (12 + 5 * i_2) (n := 40) (f := (u.1.2.2.2.1 i_2)) (cw_hts (by omega)) (z := i) (by omega) (by omega) dX11_height_73 ?_
                refine lv_istore (lv' := [(5, .int (J ((u.1.2.2.2.1 i_2) (i).toNat))), (4, .ref (q (8 + 5 * i_2))), (0, .ref (q 0)), (1, .int (J s)), (2, .int (J i)), (3, .int (J v))]) SS.1 SS.2.1 dX11_height_74 hl (by decide) rfl (fun ls hl => ?_)
                refine lv_aload SS.1 SS.2.1 dX11_height_76 (lv_at hl 1 rfl) ?_
                refine j_get SS hG hP (8 + 5 * i_2) (v := .ref (q (12 + 5 * i_2))) (C := RX10) (T := TX10) (N := 3) (cw_shape (by omega)) rfl inX10 1 (by decide) (ref := "GridPolygons$Shape") kw_157 rfl rfl dX11_height_78 ?_
                refine lv_iload_n SS.1 SS.2.1 dX11_height_81 rfl (lv_at hl 4 rfl) ?_
                refine lv_iload_n SS.1 SS.2.1 dX11_height_82 rfl (lv_at hl 5 rfl) ?_
                refine j_iast SS hG hP (cW_D hD) hS (12 + 5 * i_2) (n := 40) (f := (u.1.2.2.2.1 i_2)) (cw_hts (by omega)) (z := i) (v := v) (by omega) (by omega) dX11_height_83 (ws' := (cW D q (sH u i_2 (upI (u.1.2.2.2.1 i_2) (i).toNat v)))) (cs_hts (by omega)) (fun H locs hP hS => ?_)
                refine lv_aload SS.1 SS.2.1 dX11_height_84 (lv_at hl 1 rfl) ?_
                refine lv_aload_n SS.1 SS.2.1 dX11_height_86 rfl (lv_at hl 2 rfl) ?_
                refine j_vWi SS (As := []) (rest := [.ref (q (8 + 5 * i_2))]) (c_X11_newStampS l D q (sH u i_2 (upI (u.1.2.2.2.1 i_2) (i).toNat v)) A (cW_D hD)   ) mf_X11_newStamp kw_467 hG hP hP (ci := 11) (q0 := 0) rfl rfl rfl hS (fun _ h => h) rfl hl.1 ⟨⟨Nat.le_of_ble_eq_true rfl, Nat.le_of_ble_eq_true rfl⟩, Nat.le_of_ble_eq_true rfl, Nat.le_refl _, Nat.le_refl _⟩ rfl dX11_height_87 (fun z_87 u87 H locs h_87 hP _ hS => ?_)
                obtain ⟨t_87, rfl, h_87⟩ := h_87
                have hP : va_P D.1 j_cl (cW D q (sV (sH u i_2 (upI (u.1.2.2.2.1 i_2) (i).toNat v)) 0 t_87)) H := hP
                have h_87 : z_87 = t_87 ∧ (-2147483648 ≤ t_87 ∧ t_87 ≤ 2147483647) ∧ (-2147483648 ≤ (u.2.2.2 0) → (u.2.2.2 0) < 2147483647 → t_87 = (u.2.2.2 0) + 1) := h_87
                refine j_put SS hG hP (cW_D hD) hS (8 + 5 * i_2) (v := .int (J z_87)) (ty := .int) (C := RX10) (T := TX10) (N := 3) (cw_shape (by omega)) rfl inX10 tyX10 tyX10_ok nmX10 2 (by decide) (ref := "GridPolygons$Shape") kw_161 rfl rfl (by decide +kernel) rfl rfl (Nat.le_of_ble_eq_true rfl) dX11_height_90 (ws' := (cW D q (sV (sT (sH u i_2 (upI (u.1.2.2.2.1 i_2) (i).toNat v)) i_2 z_87) 0 t_87))) (cs_shape (by omega)) (fun H locs hP hS => ?_)
                refine lv_iload SS.1 SS.2.1 dX11_height_93 (lv_at hl 0 rfl) ?_
                have hp9 : htP (u.1.2.2.1 s.toNat) (rE u s.toNat + rI u s.toNat) s i v := by rw [show s.toNat = i_2 by omega]; exact ⟨by omega, by omega, by omega, by omega⟩
                exact W.iret SS.1 SS.2.1 hr (fun t0 ht hW => ⟨⟨_, (sV (sT (sH u i_2 (upI (u.1.2.2.2.1 i_2) (i).toNat v)) i_2 z_87) 0 t_87), rfl, ⟨((u.1.2.2.2.1 i_2) (i).toNat), rfl, (⟨⟨CI_ht p0 (by omega) (HB_up (p0.1 i_2 (by omega)).2.1 (by omega)) (by omega) (by omega), (by first | exact cs_refl | exact (fun r hr => ⟨if_neg (by omega), if_neg (by omega), if_neg (by omega)⟩))⟩, Or.inr ⟨hp9, by rw [show s.toNat = i_2 by omega], fun r _ => by rw [show s.toNat = i_2 by omega]; rfl⟩, fun q => ⟨fun q2 => absurd hp9 q2, fun _ => by rw [show s.toNat = i_2 by omega]; have k1 := h_87.2.2 p0.2.2.2.1.1 q; exact ⟨k1, (if_pos rfl).trans (h_87.1.trans k1), fun r _ hne => if_neg hne⟩⟩, ⟨⟨(by first | rfl | exact if_neg (by omega) | exact (if_neg (by omega)).trans (if_neg (by omega))), (by first | rfl | exact if_neg (by omega) | exact (if_neg (by omega)).trans (if_neg (by omega))), (by first | rfl | exact if_neg (by omega) | exact (if_neg (by omega)).trans (if_neg (by omega)))⟩, rfl, rfl, rfl⟩, ⟨⟨(by first | rfl | exact if_neg (by omega) | exact (if_neg (by omega)).trans (if_neg (by omega))), (by first | rfl | exact if_neg (by omega) | exact (if_neg (by omega)).trans (if_neg (by omega))), (by first | rfl | exact if_neg (by omega) | exact (if_neg (by omega)).trans (if_neg (by omega)))⟩, ⟨rfl, rfl, rfl, rfl, rfl⟩, ⟨rfl, rfl, rfl, rfl⟩, rfl, rfl, rfl, rfl, rfl⟩⟩)⟩, by show va_P D.1 j_cl (cW D q (sV (sT (sH u i_2 (upI (u.1.2.2.2.1 i_2) (i).toNat v)) i_2 z_87) 0 t_87)) t0.heap; rw [ht]; first | exact hP | (simp only [sC_id, sX_id, sY_id, sH_id, sT_id, sV_id]; exact hP)⟩, hS.F ht⟩) hS.2.2 dX11_height_95 hlk
              · skip
                refine j_ldc SS (-1000000) kw_512 dX11_height_64 ?_
                have hn9 : ¬ htP (u.1.2.2.1 s.toNat) (rE u s.toNat + rI u s.toNat) s i v := fun q => by have q1 := q.1; have q2 := q.2.1; have q3 := q.2.2; first | omega | (rw [show s.toNat = i_2 by omega] at q2; omega) | (rw [show s.toNat = i_2 by omega] at q2 q3; omega)
                exact W.iret SS.1 SS.2.1 hr (fun t0 ht hW => ⟨⟨_, u, rfl, ⟨(-1000000), rfl, (⟨⟨p0, (by first | exact cs_refl | exact (fun r hr => ⟨if_neg (by omega), if_neg (by omega), if_neg (by omega)⟩))⟩, Or.inl ⟨hn9, rfl, (by first | exact hs_refl | exact (fun _ _ => rfl))⟩, fun _ => ⟨fun _ => (by first | exact ss_refl | exact ⟨rfl, fun _ _ => rfl⟩), fun q => absurd q hn9⟩, ⟨⟨(by first | rfl | exact if_neg (by omega) | exact (if_neg (by omega)).trans (if_neg (by omega))), (by first | rfl | exact if_neg (by omega) | exact (if_neg (by omega)).trans (if_neg (by omega))), (by first | rfl | exact if_neg (by omega) | exact (if_neg (by omega)).trans (if_neg (by omega)))⟩, rfl, rfl, rfl⟩, ⟨⟨(by first | rfl | exact if_neg (by omega) | exact (if_neg (by omega)).trans (if_neg (by omega))), (by first | rfl | exact if_neg (by omega) | exact (if_neg (by omega)).trans (if_neg (by omega))), (by first | rfl | exact if_neg (by omega) | exact (if_neg (by omega)).trans (if_neg (by omega)))⟩, ⟨rfl, rfl, rfl, rfl, rfl⟩, ⟨rfl, rfl, rfl, rfl⟩, rfl, rfl, rfl, rfl, rfl⟩⟩)⟩, by show va_P D.1 j_cl (cW D q u) t0.heap; rw [ht]; first | exact hP | (simp only [sC_id, sX_id, sY_id, sH_id, sT_id, sV_id]; exact hP)⟩, hS.F ht⟩) hS.2.2 dX11_height_66 hlk
        · skip
          refine j_ldc SS (-1000000) kw_512 dX11_height_39 ?_
          have hn9 : ¬ htP (u.1.2.2.1 s.toNat) (rE u s.toNat + rI u s.toNat) s i v := fun q => by have q1 := q.1; have q2 := q.2.1; have q3 := q.2.2; first | omega | (rw [show s.toNat = i_2 by omega] at q2; omega) | (rw [show s.toNat = i_2 by omega] at q2 q3; omega)
          exact W.iret SS.1 SS.2.1 hr (fun t0 ht hW => ⟨⟨_, u, rfl, ⟨(-1000000), rfl, (⟨⟨p0, (by first | exact cs_refl | exact (fun r hr => ⟨if_neg (by omega), if_neg (by omega), if_neg (by omega)⟩))⟩, Or.inl ⟨hn9, rfl, (by first | exact hs_refl | exact (fun _ _ => rfl))⟩, fun _ => ⟨fun _ => (by first | exact ss_refl | exact ⟨rfl, fun _ _ => rfl⟩), fun q => absurd q hn9⟩, ⟨⟨(by first | rfl | exact if_neg (by omega) | exact (if_neg (by omega)).trans (if_neg (by omega))), (by first | rfl | exact if_neg (by omega) | exact (if_neg (by omega)).trans (if_neg (by omega))), (by first | rfl | exact if_neg (by omega) | exact (if_neg (by omega)).trans (if_neg (by omega)))⟩, rfl, rfl, rfl⟩, ⟨⟨(by first | rfl | exact if_neg (by omega) | exact (if_neg (by omega)).trans (if_neg (by omega))), (by first | rfl | exact if_neg (by omega) | exact (if_neg (by omega)).trans (if_neg (by omega))), (by first | rfl | exact if_neg (by omega) | exact (if_neg (by omega)).trans (if_neg (by omega)))⟩, ⟨rfl, rfl, rfl, rfl, rfl⟩, ⟨rfl, rfl, rfl, rfl⟩, rfl, rfl, rfl, rfl, rfl⟩⟩)⟩, by show va_P D.1 j_cl (cW D q u) t0.heap; rw [ht]; first | exact hP | (simp only [sC_id, sX_id, sY_id, sH_id, sT_id, sV_id]; exact hP)⟩, hS.F ht⟩) hS.2.2 dX11_height_41 hlk
  · skip
    refine lv_astoreN (lv' := [(4, .null), (0, .ref (q 0)), (1, .int (J s)), (2, .int (J i)), (3, .int (J v))]) SS.1 SS.2.1 dX11_height_5 hl (by decide) rfl (fun ls hl => ?_)
    refine lv_aloadN SS.1 SS.2.1 dX11_height_7 (lv_at hl 0 rfl) ?_
    refine lv_ifnullN SS.1 SS.2.1 (tgt := 39) dX11_height_9 (by decide) ?_
    refine j_ldc SS (-1000000) kw_512 dX11_height_39 ?_
    have hn9 : ¬ htP (u.1.2.2.1 s.toNat) (rE u s.toNat + rI u s.toNat) s i v := fun q => by have q1 := q.1; have q2 := q.2.1; have q3 := q.2.2; first | omega | (rw [show s.toNat = i_2 by omega] at q2; omega) | (rw [show s.toNat = i_2 by omega] at q2 q3; omega)
    exact W.iret SS.1 SS.2.1 hr (fun t0 ht hW => ⟨⟨_, u, rfl, ⟨(-1000000), rfl, (⟨⟨p0, (by first | exact cs_refl | exact (fun r hr => ⟨if_neg (by omega), if_neg (by omega), if_neg (by omega)⟩))⟩, Or.inl ⟨hn9, rfl, (by first | exact hs_refl | exact (fun _ _ => rfl))⟩, fun _ => ⟨fun _ => (by first | exact ss_refl | exact ⟨rfl, fun _ _ => rfl⟩), fun q => absurd q hn9⟩, ⟨⟨(by first | rfl | exact if_neg (by omega) | exact (if_neg (by omega)).trans (if_neg (by omega))), (by first | rfl | exact if_neg (by omega) | exact (if_neg (by omega)).trans (if_neg (by omega))), (by first | rfl | exact if_neg (by omega) | exact (if_neg (by omega)).trans (if_neg (by omega)))⟩, rfl, rfl, rfl⟩, ⟨⟨(by first | rfl | exact if_neg (by omega) | exact (if_neg (by omega)).trans (if_neg (by omega))), (by first | rfl | exact if_neg (by omega) | exact (if_neg (by omega)).trans (if_neg (by omega))), (by first | rfl | exact if_neg (by omega) | exact (if_neg (by omega)).trans (if_neg (by omega)))⟩, ⟨rfl, rfl, rfl, rfl, rfl⟩, ⟨rfl, rfl, rfl, rfl⟩, rfl, rfl, rfl, rfl, rfl⟩⟩)⟩, by show va_P D.1 j_cl (cW D q u) t0.heap; rw [ht]; first | exact hP | (simp only [sC_id, sX_id, sY_id, sH_id, sT_id, sV_id]; exact hP)⟩, hS.F ht⟩) hS.2.2 dX11_height_41 hlk


/-! ===== pieces, piece: the class' answers ===== -/
def lfC (u : CS) (s : Int) : Prop := 3 ≤ u.1.2.2.1 s.toNat ∧ rE u s.toNat + rI u s.toNat ≤ 40
def psR (u : CS) (w z : Int) : Prop := (w = 0 ∧ z = u.2.2.2 25) ∨ (w = 1 ∧ z = ((pc9 (nx9 (or9 (u.2.2.1 6) (u.2.2.2 25).toNat)) : Nat) : Int)) ∨ (w = 2 ∧ ∀ F : Nat → Nat → Bool, (∀ q : Nat, (q : Int) < u.2.2.2 25 → u.2.2.1 6 q = PR9 (F q) (u.1.2.2.1 10).toNat) → cu9 (u.1.1 10) (u.1.2.1 10) (u.1.2.2.1 10).toNat F (u.2.2.2 25).toNat z)
def pcR (u : CS) (p i z : Int) : Prop := (u.2.2.2 25 ≤ p ∧ z = -1) ∨ (p < u.2.2.2 25 ∧ ((i = -1 ∧ z = ((pc9 (nx9 (u.2.2.1 6 p.toNat)) : Nat) : Int)) ∨ (0 ≤ i ∧ ((pc9 (nx9 (u.2.2.1 6 p.toNat)) : Nat) : Int) ≤ i ∧ z = -1) ∨ (0 ≤ i ∧ MB9 (u.2.2.1 6 p.toNat) (u.1.2.2.1 10) i z)))
def psC (u u' : CS) (s w z : Int) : Prop := (¬ ((0 ≤ s ∧ s ≤ 7) ∧ 0 ≤ w ∧ w ≤ 2) ∧ z = -1 ∧ kCo u u') ∨ (((0 ≤ s ∧ s ≤ 7) ∧ 0 ≤ w ∧ w ≤ 2) ∧ ((¬ lfC u s ∧ z = -2 ∧ kCo u u') ∨ (lfC u s ∧ bR9 u u' s.toNat ∧ (-1 ≤ z ∧ z ≤ 80) ∧ psR u' w z)))
def pcC (u u' : CS) (s p i z : Int) : Prop := (¬ ((0 ≤ s ∧ s ≤ 7) ∧ 0 ≤ p ∧ -1 ≤ i) ∧ z = -1 ∧ kCo u u') ∨ (((0 ≤ s ∧ s ≤ 7) ∧ 0 ≤ p ∧ -1 ≤ i) ∧ ((¬ lfC u s ∧ z = -2 ∧ kCo u u') ∨ (lfC u s ∧ bR9 u u' s.toNat ∧ (-1 ≤ z ∧ z ≤ 80) ∧ pcR u' p i z)))
theorem FI_ps {u u' : CS} {k k' s w z : Int} (h : FI u k) (hk : k ≤ k') (hc : cSame u u') (hh : hSam u u') (hs : sSam u u') (hp : psC u u' s w z) : FI u' k' := by
  rcases hp with ⟨_, _, ko⟩ | ⟨a, ⟨_, _, ko⟩ | ⟨l, b, _⟩⟩
  · exact FI_s h hk hc hh hs ko
  · exact FI_s h hk hc hh hs ko
  · exact FI_b (by omega) h hk hc hh hs b
theorem FI_pc {u u' : CS} {k k' s p i z : Int} (h : FI u k) (hk : k ≤ k') (hc : cSame u u') (hh : hSam u u') (hs : sSam u u') (hp : pcC u u' s p i z) : FI u' k' := by
  rcases hp with ⟨_, _, ko⟩ | ⟨a, ⟨_, _, ko⟩ | ⟨l, b, _⟩⟩
  · exact FI_s h hk hc hh hs ko
  · exact FI_s h hk hc hh hs ko
  · exact FI_b (by omega) h hk hc hh hs b

