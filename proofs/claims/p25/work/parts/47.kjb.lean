
set_option maxHeartbeats 4000000 in
set_option maxRecDepth 100000 in
theorem c_X2_farthest3 (l : Launch) (D : JD) (q : Nat → Nat) (u : CS) (p0 : 0 ≤ u.2.2.2 22 ∧ u.2.2.2 22 ≤ 1500) : Met l yX2_farthest (jw yX2_farthest cX2_farthest 1 (some .int)) (jr 1 21) (jP [.ref (q 6)] D (fun H => va_P D.1 j_cl (cW D q u) H)) (jRi (fun z => 1 ≤ u.2.2.2 22 → z = (u.2.1 7) (u.2.2.2 22 - 1).toNat)) 0 0 (fun _ => False) := by
  refine Met.ofW (cc := cX2_farthest) (maxL := 1) (ret := (some .int)) (by decide) rfl ?_
  intro pr en st mi args below meth co s₁ B hml hv
  obtain ⟨rfl, hG, hP⟩ := hv
  have hr := B.returns
  have hlk := B.notSynchronized
  have SS : jS pr mi co cX2_farthest 1 st _ RX2 := ⟨B.exec, B.bytes, hml, findClass_of_methodNamed B.named, fun w hw => atoms_spec (ws := (jw yX2_farthest cX2_farthest 1 (some .int))) B.pre w (List.mem_cons_of_mem _ hw)⟩
  have hl := lv_entry ([.ref (q 6)]) (n := 1) (Nat.le_of_ble_eq_true rfl)
  rw [lg_entry_eq]
  generalize (lg_sl ([.ref (q 6)]) ++ List.replicate (1 - (lg_sl ([.ref (q 6)])).length) Slot.unset).toArray = ls at hl ⊢
  have hl : lv_has ls 1 [(0, .ref (q 6))] := hl
  refine lv_aload_n SS.1 SS.2.1 dX2_farthest_0 rfl (lv_at hl 0 rfl) ?_
  refine lv_aload_n SS.1 SS.2.1 dX2_farthest_1 rfl (lv_at hl 0 rfl) ?_
  refine j_get SS hG hP 6 (v := .int (J (u.2.2.2 22))) (C := RX2) (T := TX2) (N := 7) rfl rfl inX2 4 (by decide) (ref := "GridPolygons$Cuts") kw_344 rfl rfl dX2_farthest_2 ?_
  refine j_iconst SS dX2_farthest_5 ?_
  refine j_isub SS (x := (u.2.2.2 22)) (y := 1) dX2_farthest_6 ?_
  refine j_vRi SS (As := [.int (J ((u.2.2.2 22) - 1))]) (rest := []) (c_X2_farOf3 l D q u  ((u.2.2.2 22) - 1) (show -2147483648 ≤ ((u.2.2.2 22) - 1) ∧ ((u.2.2.2 22) - 1) ≤ 2147483647 from (by omega))) mf_X2_farOf kw_950 hG hP hP (ci := 2) (q0 := 6) rfl rfl rfl rfl hl.1 ⟨⟨Nat.le_of_ble_eq_true rfl, Nat.le_of_ble_eq_true rfl⟩, Nat.le_of_ble_eq_true rfl, Nat.le_refl _, Nat.le_refl _⟩ rfl dX2_farthest_7 (fun z_7 h_7 => ?_)
  have h_7 : (0 ≤ ((u.2.2.2 22) - 1) ∧ ((u.2.2.2 22) - 1) < 1500) → z_7 = ((u.2.1 7)) ((u.2.2.2 22) - 1).toNat := h_7
  exact W.iret SS.1 SS.2.1 hr (fun t0 ht hW => ⟨_, rfl, ⟨z_7, rfl, (fun q9 => h_7 (by omega))⟩, ht⟩) (fun _ h => nomatch h) dX2_farthest_10 hlk

set_option maxHeartbeats 4000000 in
set_option maxRecDepth 100000 in
theorem c_X11_cuts5 (l : Launch) (D : JD) (q : Nat → Nat) (u : CS) (A : Nat → Prop) (hD : va_D A (cW D q u)) (s : Int) (what : Int) (p0 : CI u) (p1 : -2147483648 ≤ s ∧ s ≤ 2147483647) (p2 : -2147483648 ≤ what ∧ what ≤ 2147483647) : Met l yX11_cuts (jw yX11_cuts cX11_cuts 4 (some .int)) (jr 7 149) (jP [.ref (q 0), .int (J s), .int (J what)] D (fun H => va_P D.1 j_cl (cW D q u) H)) (jWi (fun z u' => (((CI u' ∧ cSame u u') ∧ hSam u u' ∧ sSam u u' ∧ kCo u u') ∧ cuK u u' s) ∧ cuA u u' s what z) (fun u' H => va_P D.1 j_cl (cW D q u') H) A) 0 0 A := by
  refine Met.ofW (cc := cX11_cuts) (maxL := 4) (ret := (some .int)) (by decide) rfl ?_
  intro pr en st mi args below meth co s₁ B hml hv
  obtain ⟨rfl, hG, hP⟩ := hv
  have hr := B.returns
  have hlk := B.notSynchronized
  have SS : jS pr mi co cX11_cuts 4 st _ RX11 := ⟨B.exec, B.bytes, hml, findClass_of_methodNamed B.named, fun w hw => atoms_spec (ws := (jw yX11_cuts cX11_cuts 4 (some .int))) B.pre w (List.mem_cons_of_mem _ hw)⟩
  have hl := lv_entry ([.ref (q 0), .int (J s), .int (J what)]) (n := 4) (Nat.le_of_ble_eq_true rfl)
  rw [lg_entry_eq]
  generalize (lg_sl ([.ref (q 0), .int (J s), .int (J what)]) ++ List.replicate (4 - (lg_sl ([.ref (q 0), .int (J s), .int (J what)])).length) Slot.unset).toArray = ls at hl ⊢
  have hl : lv_has ls 4 [(0, .ref (q 0)), (1, .int (J s)), (2, .int (J what))] := hl
  have hS : va_S A st.heap st.heap [] := va_S.rf
  refine lv_aload_n SS.1 SS.2.1 dX11_cuts_0 rfl (lv_at hl 0 rfl) ?_
  refine lv_iload_n SS.1 SS.2.1 dX11_cuts_1 rfl (lv_at hl 1 rfl) ?_
  refine j_vSh SS (As := [.int (J s)]) (rest := []) (c_X11_shapeAt l D q u  s (show -2147483648 ≤ s ∧ s ≤ 2147483647 from (p1))) mf_X11_shapeAt kw_414 hG hP hP (ci := 11) (q0 := 0) rfl rfl rfl rfl hl.1 ⟨⟨Nat.le_of_ble_eq_true rfl, Nat.le_of_ble_eq_true rfl⟩, Nat.le_of_ble_eq_true rfl, Nat.le_refl _, Nat.le_refl _⟩ rfl dX11_cuts_2 (fun i_2 hi_2 hz_2 => ?_) (fun hn_2 => ?_)
  · skip
    have hI2 := CI_s p0 (show i_2 < 8 by omega)
    have hI2c := hI2.1
    have hrl2 := rl_s (show i_2 < 8 by omega)
    refine lv_astore_n (lv' := [(3, .ref (q (8 + 5 * i_2))), (0, .ref (q 0)), (1, .int (J s)), (2, .int (J what))]) SS.1 SS.2.1 dX11_cuts_5 rfl hl (by decide) rfl (fun ls hl => ?_)
    refine lv_aload_n SS.1 SS.2.1 dX11_cuts_6 rfl (lv_at hl 0 rfl) ?_
    refine lv_ifnull SS.1 SS.2.1 dX11_cuts_7 ?_
    refine lv_iload_n SS.1 SS.2.1 dX11_cuts_10 rfl (lv_at hl 3 rfl) ?_
    refine j_if_lt SS (tgt := 19) (x := what) dX11_cuts_11 (by decide) (by omega) (fun c_11 => ?_) (fun c_11 => ?_)
    · skip
      refine j_iconst SS dX11_cuts_19 ?_
      exact W.iret SS.1 SS.2.1 hr (fun t0 ht hW => ⟨⟨_, u, rfl, ⟨(-1), rfl, (⟨⟨⟨⟨p0, (by first | exact cs_refl | exact (fun r hr => ⟨if_neg (by omega), if_neg (by omega), if_neg (by omega)⟩))⟩, (by first | exact hs_refl | exact (fun _ _ => rfl)), (by first | exact ss_refl | exact ⟨rfl, fun _ _ => rfl⟩), ⟨⟨(by first | rfl | exact if_neg (by omega) | exact (if_neg (by omega)).trans (if_neg (by omega))), (by first | rfl | exact if_neg (by omega) | exact (if_neg (by omega)).trans (if_neg (by omega))), (by first | rfl | exact if_neg (by omega) | exact (if_neg (by omega)).trans (if_neg (by omega)))⟩, rfl, rfl, rfl⟩⟩, Or.inl kCu_r⟩, Or.inl ⟨by omega, rfl⟩⟩)⟩, by show va_P D.1 j_cl (cW D q u) t0.heap; rw [ht]; first | exact hP | (simp only [sC_id, sX_id, sY_id, sH_id, sT_id, sV_id]; exact hP)⟩, hS.F ht⟩) hS.2.2 dX11_cuts_20 hlk
    · skip
      refine lv_iload_n SS.1 SS.2.1 dX11_cuts_14 rfl (lv_at hl 3 rfl) ?_
      refine j_iconst SS dX11_cuts_15 ?_
      refine j_icmp_le SS (tgt := 21) (x := what) (y := 3) dX11_cuts_16 (by decide) (by omega) (by decide) (fun c_16 => ?_) (fun c_16 => ?_)
      · skip
        refine lv_aload_n SS.1 SS.2.1 dX11_cuts_21 rfl (lv_at hl 0 rfl) ?_
        refine j_get SS hG hP (8 + 5 * i_2) (v := .ref (q (9 + 5 * i_2))) (C := RX10) (T := TX10) (N := 3) (cw_shape (by omega)) rfl inX10 0 (by decide) (ref := "GridPolygons$Shape") kw_151 rfl rfl dX11_cuts_22 ?_
        refine j_bipush SS dX11_cuts_25 (by decide +kernel) ?_
        refine j_sRi SS (As := [.ref (q (9 + 5 * i_2)), .int (J 12)]) (rest := []) (c_X11_hasAtMost3 l D q u i_2 (by omega) 12 (show RB 40 u i_2 from (CI_40 p0 (by omega))) (show -2147483648 ≤ (12 : Int) ∧ (12 : Int) ≤ 2147483647 from (by omega))) mf_X11_hasAtMost kw_859 hG hP rfl hl.1 ⟨⟨Nat.le_of_ble_eq_true rfl, Nat.le_of_ble_eq_true rfl⟩, Nat.le_of_ble_eq_true rfl, Nat.le_refl _, Nat.le_refl _⟩ rfl dX11_cuts_27 (fun z_27 h_27 => ?_)
        have h_27 : (z_27 = 1 ∧ 3 ≤ (u.1.2.2.1 i_2) ∧ rE u i_2 + rI u i_2 ≤ (12 : Int)) ∨ (z_27 = 0 ∧ ¬ (3 ≤ (u.1.2.2.1 i_2) ∧ rE u i_2 + rI u i_2 ≤ (12 : Int))) := h_27
        refine j_if_ne SS (tgt := 36) (x := z_27) dX11_cuts_30 (by decide) (by omega) (fun c_30 => ?_) (fun c_30 => ?_)
        · skip
          refine lv_iload_n SS.1 SS.2.1 dX11_cuts_36 rfl (lv_at hl 3 rfl) ?_
          refine j_iconst SS dX11_cuts_37 ?_
          refine j_icmp_ne SS (tgt := 49) (x := what) (y := 2) dX11_cuts_38 (by decide) (by omega) (by decide) (fun c_38 => ?_) (fun c_38 => ?_)
          · skip
            refine lv_iload_n SS.1 SS.2.1 dX11_cuts_49 rfl (lv_at hl 3 rfl) ?_
            refine j_iconst SS dX11_cuts_50 ?_
            refine j_icmp_ne SS (tgt := 62) (x := what) (y := 3) dX11_cuts_51 (by decide) (by omega) (by decide) (fun c_51 => ?_) (fun c_51 => ?_)
            · skip
              refine lv_aload_n SS.1 SS.2.1 dX11_cuts_62 rfl (lv_at hl 1 rfl) ?_
              refine j_get SS hG hP 0 (v := .ref (q 6)) (C := RX11) (T := TX11) (N := 8) rfl rfl inX11 5 (by decide) (ref := "GridPolygons") kw_390 rfl rfl dX11_cuts_63 ?_
              refine lv_aload_n SS.1 SS.2.1 dX11_cuts_66 rfl (lv_at hl 0 rfl) ?_
              refine j_vWi SS (As := [.ref (q (8 + 5 * i_2))]) (rest := []) (c_X2_build4 l D q u A (cW_D hD) i_2 (by omega)  (show RB 40 u i_2 from (CI_40 p0 (by omega))) (show RB 40 u 9 from (p0.2.1.2.1)) (show ∀ k : Nat, 0 ≤ (u.2.1 2) k ∧ (u.2.1 2) k ≤ 12 from (fun k => (p0.2.2.2.2.2.1.2.2.1 k).1)) (show ∀ k : Nat, 0 ≤ (u.2.1 3) k ∧ (u.2.1 3) k ≤ 12 from (fun k => (p0.2.2.2.2.2.1.2.2.1 k).2)) (show ∀ k : Nat, -1 ≤ (u.2.1 4) k ∧ (u.2.1 4) k ≤ 63 from (p0.2.2.2.2.2.1.2.2.2)) (show 0 ≤ (u.2.2.2 20) ∧ (u.2.2.2 20) ≤ 63 from (p0.2.2.2.2.2.1.1)) (show 0 ≤ (u.2.2.2 21) ∧ (u.2.2.2 21) ≤ 756 from (p0.2.2.2.2.2.1.2.1)) (show 0 ≤ (u.2.2.2 22) ∧ (u.2.2.2 22) ≤ 1500 from (p0.2.2.2.2.2.2.1.1)) (show ∀ k : Nat, 0 ≤ (u.2.1 8) k ∧ (u.2.1 8) k ≤ 1500 from (p0.2.2.2.2.2.2.1.2.2.2)) (show (u.2.2.2 23) = 0 ∨ (u.2.2.2 23) = 1 from (p0.2.2.2.2.2.2.1.2.1)) (show -2147483648 ≤ (u.2.2.2 24) ∧ (u.2.2.2 24) ≤ 2147483647 from (p0.2.2.2.2.2.2.1.2.2.1)) (show -2147483648 ≤ (u.1.2.2.2.2 i_2) ∧ (u.1.2.2.2.2 i_2) ≤ 2147483647 from ((p0.1 i_2 (by omega)).2.2)) (show 1 ≤ (u.1.2.2.1 i_2) from (by omega))) mf_X2_build kw_865 hG hP hP (ci := 2) (q0 := 6) rfl rfl rfl hS (fun _ h => h) rfl hl.1 ⟨⟨Nat.le_of_ble_eq_true rfl, Nat.le_of_ble_eq_true rfl⟩, Nat.le_of_ble_eq_true rfl, Nat.le_refl _, Nat.le_refl _⟩ rfl dX11_cuts_67 (fun z_67 u67 H locs h_67 hP _ hS => ?_)
              obtain ⟨n_67, f_67, g_67, ls9_67, gr9_67, nu9_67, w3_67, w4_67, w5_67, v20_67, v21_67, st2_67, fa_67, pc9_67, v22_67, sp_67, v24_67, rfl, h_67⟩ := h_67
              have hP : va_P D.1 j_cl (cW D q (sY (sX (sV (sV (sV (sV (sV (sL (sL (sL (sL (sI (sI (sI (sI (sI (sC u 9 n_67) 2 ls9_67) 3 gr9_67) 4 nu9_67) 7 fa_67) 8 pc9_67) 2 st2_67) 3 w3_67) 4 w4_67) 5 w5_67) 20 v20_67) 21 v21_67) 22 v22_67) 23 sp_67) 24 v24_67) 9 f_67) 9 g_67)) H := hP
              have h_67 : ((z_67 = 0 ∨ z_67 = 1) ∧ ((0 ≤ n_67 ∧ n_67 ≤ 12) ∧ RV 40 f_67 g_67) ∧ (∀ k : Nat, 0 ≤ ls9_67 k ∧ ls9_67 k ≤ 12) ∧ (∀ k : Nat, 0 ≤ gr9_67 k ∧ gr9_67 k ≤ 12) ∧ (∀ k : Nat, -1 ≤ nu9_67 k ∧ nu9_67 k ≤ 63) ∧ ((0 ≤ v20_67 ∧ v20_67 ≤ 63) ∧ 0 ≤ v21_67 ∧ v21_67 ≤ 756) ∧ ((0 ≤ v22_67 ∧ v22_67 ≤ 1500) ∧ (∀ k : Nat, 0 ≤ pc9_67 k ∧ pc9_67 k ≤ 1500) ∧ (sp_67 = 0 ∨ sp_67 = 1)) ∧ -2147483648 ≤ v24_67 ∧ v24_67 ≤ 2147483647) ∧ (z_67 = 1 ↔ sp_67 = 0) ∧ (((u.2.2.2 24) = (u.1.2.2.2.2 i_2) ∧ ((n_67 = (u.1.2.2.1 9) ∧ f_67 = (u.1.1 9) ∧ g_67 = (u.1.2.1 9)) ∧ (ls9_67 = (u.2.1 2) ∧ gr9_67 = (u.2.1 3) ∧ nu9_67 = (u.2.1 4) ∧ fa_67 = (u.2.1 7) ∧ pc9_67 = (u.2.1 8)) ∧ (st2_67 = (u.2.2.1 2) ∧ w3_67 = (u.2.2.1 3) ∧ w4_67 = (u.2.2.1 4) ∧ w5_67 = (u.2.2.1 5)) ∧ (v20_67 = (u.2.2.2 20) ∧ v21_67 = (u.2.2.2 21) ∧ v22_67 = (u.2.2.2 22) ∧ sp_67 = (u.2.2.2 23) ∧ v24_67 = (u.2.2.2 24)))) ∨ (v24_67 = (u.1.2.2.2.2 i_2) ∧ (FT9 u i_2 12 → ML9 (inC u i_2) n_67 f_67 g_67 ls9_67 gr9_67 nu9_67 v20_67 w3_67 w4_67 w5_67 v21_67 ∧ FCT f_67 g_67 n_67 ls9_67 gr9_67 v20_67 st2_67 fa_67 v22_67 sp_67))) := h_67
              obtain ⟨h_67, bu_67⟩ := h_67
              obtain ⟨hz9, hq9⟩ := h_67
              have hCI : CI (sY (sX (sV (sV (sV (sV (sV (sL (sL (sL (sL (sI (sI (sI (sI (sI (sC u 9 n_67) 2 ls9_67) 3 gr9_67) 4 nu9_67) 7 fa_67) 8 pc9_67) 2 st2_67) 3 w3_67) 4 w4_67) 5 w5_67) 20 v20_67) 21 v21_67) 22 v22_67) 23 sp_67) 24 v24_67) 9 f_67) 9 g_67) := CI_cu p0 hq9
              have hbU : bU9 u (sY (sX (sV (sV (sV (sV (sV (sL (sL (sL (sL (sI (sI (sI (sI (sI (sC u 9 n_67) 2 ls9_67) 3 gr9_67) 4 nu9_67) 7 fa_67) 8 pc9_67) 2 st2_67) 3 w3_67) 4 w4_67) 5 w5_67) 20 v20_67) 21 v21_67) 22 v22_67) 23 sp_67) 24 v24_67) 9 f_67) 9 g_67) i_2 := by rcases bu_67.2 with q9 | q9; exact Or.inl q9; exact Or.inr q9
              refine j_if_ne SS (tgt := 76) (x := z_67) dX11_cuts_70 (by decide) (by omega) (fun c_70 => ?_) (fun c_70 => ?_)
              · skip
                refine lv_iload_n SS.1 SS.2.1 dX11_cuts_76 rfl (lv_at hl 3 rfl) ?_
                refine j_if_ne SS (tgt := 90) (x := what) dX11_cuts_77 (by decide) (by omega) (fun c_77 => ?_) (fun c_77 => ?_)
                · skip
                  refine lv_aload_n SS.1 SS.2.1 dX11_cuts_90 rfl (lv_at hl 1 rfl) ?_
                  refine j_get SS hG hP 0 (v := .ref (q 6)) (C := RX11) (T := TX11) (N := 8) rfl rfl inX11 5 (by decide) (ref := "GridPolygons") kw_390 rfl rfl dX11_cuts_91 ?_
                  refine j_vRi SS (As := []) (rest := []) (c_X2_farthest3 l D q (sY (sX (sV (sV (sV (sV (sV (sL (sL (sL (sL (sI (sI (sI (sI (sI (sC u 9 n_67) 2 ls9_67) 3 gr9_67) 4 nu9_67) 7 fa_67) 8 pc9_67) 2 st2_67) 3 w3_67) 4 w4_67) 5 w5_67) 20 v20_67) 21 v21_67) 22 v22_67) 23 sp_67) 24 v24_67) 9 f_67) 9 g_67)   (show 0 ≤ v22_67 ∧ v22_67 ≤ 1500 from (by omega))) mf_X2_farthest kw_954 hG hP hP (ci := 2) (q0 := 6) rfl rfl rfl rfl hl.1 ⟨⟨Nat.le_of_ble_eq_true rfl, Nat.le_of_ble_eq_true rfl⟩, Nat.le_of_ble_eq_true rfl, Nat.le_refl _, Nat.le_refl _⟩ rfl dX11_cuts_94 (fun z_94 h_94 => ?_)
                  have h_94 : 1 ≤ v22_67 → z_94 = (fa_67) (v22_67 - 1).toNat := h_94
                  exact W.iret SS.1 SS.2.1 hr (fun t0 ht hW => ⟨⟨_, (sY (sX (sV (sV (sV (sV (sV (sL (sL (sL (sL (sI (sI (sI (sI (sI (sC u 9 n_67) 2 ls9_67) 3 gr9_67) 4 nu9_67) 7 fa_67) 8 pc9_67) 2 st2_67) 3 w3_67) 4 w4_67) 5 w5_67) 20 v20_67) 21 v21_67) 22 v22_67) 23 sp_67) 24 v24_67) 9 f_67) 9 g_67), rfl, ⟨z_94, rfl, (⟨⟨⟨⟨hCI, (by first | exact cs_refl | exact (fun r hr => ⟨if_neg (by omega), if_neg (by omega), if_neg (by omega)⟩))⟩, (by first | exact hs_refl | exact (fun _ _ => rfl)), (by first | exact ss_refl | exact ⟨rfl, fun _ _ => rfl⟩), ⟨⟨(by first | rfl | exact if_neg (by omega) | exact (if_neg (by omega)).trans (if_neg (by omega))), (by first | rfl | exact if_neg (by omega) | exact (if_neg (by omega)).trans (if_neg (by omega))), (by first | rfl | exact if_neg (by omega) | exact (if_neg (by omega)).trans (if_neg (by omega)))⟩, rfl, rfl, rfl⟩⟩, Or.inr ⟨by omega, by rw [show s.toNat = i_2 by omega]; exact hbU⟩⟩, by first | exact (by unfold cuA; unfold cuC; rw [show s.toNat = i_2 by omega]; exact Or.inr ⟨by omega, Or.inr ⟨by omega, Or.inr (Or.inr ⟨by omega, hbU, Or.inr ⟨(show sp_67 = 0 by omega), Or.inl ⟨by omega, rfl⟩⟩⟩)⟩⟩) | exact (by unfold cuA; unfold cuC; rw [show s.toNat = i_2 by omega]; exact Or.inr ⟨by omega, Or.inr ⟨by omega, Or.inr (Or.inr ⟨by omega, hbU, Or.inr ⟨(show sp_67 = 0 by omega), Or.inr ⟨by omega, h_94⟩⟩⟩)⟩⟩)⟩)⟩, by show va_P D.1 j_cl (cW D q (sY (sX (sV (sV (sV (sV (sV (sL (sL (sL (sL (sI (sI (sI (sI (sI (sC u 9 n_67) 2 ls9_67) 3 gr9_67) 4 nu9_67) 7 fa_67) 8 pc9_67) 2 st2_67) 3 w3_67) 4 w4_67) 5 w5_67) 20 v20_67) 21 v21_67) 22 v22_67) 23 sp_67) 24 v24_67) 9 f_67) 9 g_67)) t0.heap; rw [ht]; first | exact hP | (simp only [sC_id, sX_id, sY_id, sH_id, sT_id, sV_id]; exact hP)⟩, hS.F ht⟩) hS.2.2 dX11_cuts_97 hlk
                · skip
                  refine lv_aload_n SS.1 SS.2.1 dX11_cuts_80 rfl (lv_at hl 1 rfl) ?_
                  refine j_get SS hG hP 0 (v := .ref (q 6)) (C := RX11) (T := TX11) (N := 8) rfl rfl inX11 5 (by decide) (ref := "GridPolygons") kw_390 rfl rfl dX11_cuts_81 ?_
                  refine j_get SS hG hP 6 (v := .int (J v22_67)) (C := RX2) (T := TX2) (N := 7) rfl rfl inX2 4 (by decide) (ref := "GridPolygons$Cuts") kw_345 rfl rfl dX11_cuts_84 ?_
                  refine lv_goto (tgt := 97) SS.1 SS.2.1 dX11_cuts_87 (by decide) ?_
                  exact W.iret SS.1 SS.2.1 hr (fun t0 ht hW => ⟨⟨_, (sY (sX (sV (sV (sV (sV (sV (sL (sL (sL (sL (sI (sI (sI (sI (sI (sC u 9 n_67) 2 ls9_67) 3 gr9_67) 4 nu9_67) 7 fa_67) 8 pc9_67) 2 st2_67) 3 w3_67) 4 w4_67) 5 w5_67) 20 v20_67) 21 v21_67) 22 v22_67) 23 sp_67) 24 v24_67) 9 f_67) 9 g_67), rfl, ⟨v22_67, rfl, (⟨⟨⟨⟨hCI, (by first | exact cs_refl | exact (fun r hr => ⟨if_neg (by omega), if_neg (by omega), if_neg (by omega)⟩))⟩, (by first | exact hs_refl | exact (fun _ _ => rfl)), (by first | exact ss_refl | exact ⟨rfl, fun _ _ => rfl⟩), ⟨⟨(by first | rfl | exact if_neg (by omega) | exact (if_neg (by omega)).trans (if_neg (by omega))), (by first | rfl | exact if_neg (by omega) | exact (if_neg (by omega)).trans (if_neg (by omega))), (by first | rfl | exact if_neg (by omega) | exact (if_neg (by omega)).trans (if_neg (by omega)))⟩, rfl, rfl, rfl⟩⟩, Or.inr ⟨by omega, by rw [show s.toNat = i_2 by omega]; exact hbU⟩⟩, by first | exact (by unfold cuA; unfold cuC; rw [show s.toNat = i_2 by omega]; exact Or.inr ⟨by omega, Or.inr ⟨by omega, Or.inr (Or.inr ⟨by omega, hbU, Or.inr ⟨(show sp_67 = 0 by omega), Or.inl ⟨by omega, rfl⟩⟩⟩)⟩⟩) | exact (by unfold cuA; unfold cuC; rw [show s.toNat = i_2 by omega]; exact Or.inr ⟨by omega, Or.inr ⟨by omega, Or.inr (Or.inr ⟨by omega, hbU, Or.inr ⟨(show sp_67 = 0 by omega), Or.inr ⟨by omega, h_94⟩⟩⟩)⟩⟩)⟩)⟩, by show va_P D.1 j_cl (cW D q (sY (sX (sV (sV (sV (sV (sV (sL (sL (sL (sL (sI (sI (sI (sI (sI (sC u 9 n_67) 2 ls9_67) 3 gr9_67) 4 nu9_67) 7 fa_67) 8 pc9_67) 2 st2_67) 3 w3_67) 4 w4_67) 5 w5_67) 20 v20_67) 21 v21_67) 22 v22_67) 23 sp_67) 24 v24_67) 9 f_67) 9 g_67)) t0.heap; rw [ht]; first | exact hP | (simp only [sC_id, sX_id, sY_id, sH_id, sT_id, sV_id]; exact hP)⟩, hS.F ht⟩) hS.2.2 dX11_cuts_97 hlk
              · skip
                refine j_bipush SS dX11_cuts_73 (by decide +kernel) ?_
                exact W.iret SS.1 SS.2.1 hr (fun t0 ht hW => ⟨⟨_, (sY (sX (sV (sV (sV (sV (sV (sL (sL (sL (sL (sI (sI (sI (sI (sI (sC u 9 n_67) 2 ls9_67) 3 gr9_67) 4 nu9_67) 7 fa_67) 8 pc9_67) 2 st2_67) 3 w3_67) 4 w4_67) 5 w5_67) 20 v20_67) 21 v21_67) 22 v22_67) 23 sp_67) 24 v24_67) 9 f_67) 9 g_67), rfl, ⟨(-5), rfl, (⟨⟨⟨⟨hCI, (by first | exact cs_refl | exact (fun r hr => ⟨if_neg (by omega), if_neg (by omega), if_neg (by omega)⟩))⟩, (by first | exact hs_refl | exact (fun _ _ => rfl)), (by first | exact ss_refl | exact ⟨rfl, fun _ _ => rfl⟩), ⟨⟨(by first | rfl | exact if_neg (by omega) | exact (if_neg (by omega)).trans (if_neg (by omega))), (by first | rfl | exact if_neg (by omega) | exact (if_neg (by omega)).trans (if_neg (by omega))), (by first | rfl | exact if_neg (by omega) | exact (if_neg (by omega)).trans (if_neg (by omega)))⟩, rfl, rfl, rfl⟩⟩, Or.inr ⟨by omega, by rw [show s.toNat = i_2 by omega]; exact hbU⟩⟩, by unfold cuA; unfold cuC; rw [show s.toNat = i_2 by omega]; exact Or.inr ⟨by omega, Or.inr ⟨by omega, Or.inr (Or.inr ⟨by omega, hbU, Or.inl ⟨(show sp_67 ≠ 0 by omega), rfl⟩⟩)⟩⟩⟩)⟩, by show va_P D.1 j_cl (cW D q (sY (sX (sV (sV (sV (sV (sV (sL (sL (sL (sL (sI (sI (sI (sI (sI (sC u 9 n_67) 2 ls9_67) 3 gr9_67) 4 nu9_67) 7 fa_67) 8 pc9_67) 2 st2_67) 3 w3_67) 4 w4_67) 5 w5_67) 20 v20_67) 21 v21_67) 22 v22_67) 23 sp_67) 24 v24_67) 9 f_67) 9 g_67)) t0.heap; rw [ht]; first | exact hP | (simp only [sC_id, sX_id, sY_id, sH_id, sT_id, sV_id]; exact hP)⟩, hS.F ht⟩) hS.2.2 dX11_cuts_75 hlk
            · skip
              refine lv_aload_n SS.1 SS.2.1 dX11_cuts_54 rfl (lv_at hl 0 rfl) ?_
              refine j_get SS hG hP (8 + 5 * i_2) (v := .ref (q (9 + 5 * i_2))) (C := RX10) (T := TX10) (N := 3) (cw_shape (by omega)) rfl inX10 0 (by decide) (ref := "GridPolygons$Shape") kw_151 rfl rfl dX11_cuts_55 ?_
              refine j_vRi SS (As := []) (rest := []) (c_X7_area l D q u i_2 (by omega) (40 : Int)  (show 0 ≤ (40 : Int) ∧ (40 : Int) ≤ 80 from (by omega)) (show RB (40 : Int) u i_2 from (CI_40 p0 (by omega)))) mf_X7_area kw_517 hG hP hP (ci := 7) (q0 := (9 + 5 * i_2)) rfl (cw_ring (by omega)) rfl rfl hl.1 ⟨⟨Nat.le_of_ble_eq_true rfl, Nat.le_of_ble_eq_true rfl⟩, Nat.le_of_ble_eq_true rfl, Nat.le_refl _, Nat.le_refl _⟩ rfl dX11_cuts_58 (fun z_58 h_58 => ?_)
              have h_58 : z_58 = rA u i_2 ∧ -10000000 ≤ z_58 ∧ z_58 ≤ 10000000 := h_58
              exact W.iret SS.1 SS.2.1 hr (fun t0 ht hW => ⟨⟨_, u, rfl, ⟨z_58, rfl, (⟨⟨⟨⟨p0, (by first | exact cs_refl | exact (fun r hr => ⟨if_neg (by omega), if_neg (by omega), if_neg (by omega)⟩))⟩, (by first | exact hs_refl | exact (fun _ _ => rfl)), (by first | exact ss_refl | exact ⟨rfl, fun _ _ => rfl⟩), ⟨⟨(by first | rfl | exact if_neg (by omega) | exact (if_neg (by omega)).trans (if_neg (by omega))), (by first | rfl | exact if_neg (by omega) | exact (if_neg (by omega)).trans (if_neg (by omega))), (by first | rfl | exact if_neg (by omega) | exact (if_neg (by omega)).trans (if_neg (by omega)))⟩, rfl, rfl, rfl⟩⟩, Or.inl kCu_r⟩, by unfold cuA; unfold cuC; rw [show s.toNat = i_2 by omega]; exact Or.inr ⟨by omega, Or.inr ⟨by omega, Or.inr (Or.inl ⟨by omega, h_58.1⟩)⟩⟩⟩)⟩, by show va_P D.1 j_cl (cW D q u) t0.heap; rw [ht]; first | exact hP | (simp only [sC_id, sX_id, sY_id, sH_id, sT_id, sV_id]; exact hP)⟩, hS.F ht⟩) hS.2.2 dX11_cuts_61 hlk
          · skip
            refine lv_aload_n SS.1 SS.2.1 dX11_cuts_41 rfl (lv_at hl 0 rfl) ?_
            refine j_get SS hG hP (8 + 5 * i_2) (v := .ref (q (9 + 5 * i_2))) (C := RX10) (T := TX10) (N := 3) (cw_shape (by omega)) rfl inX10 0 (by decide) (ref := "GridPolygons$Shape") kw_151 rfl rfl dX11_cuts_42 ?_
            refine j_sRi SS (As := [.ref (q (9 + 5 * i_2))]) (rest := []) (c_X11_segmentsOf l D q u i_2 (by omega)  (show RB 40 u i_2 from (CI_40 p0 (by omega)))) mf_X11_segmentsOf kw_862 hG hP rfl hl.1 ⟨⟨Nat.le_of_ble_eq_true rfl, Nat.le_of_ble_eq_true rfl⟩, Nat.le_of_ble_eq_true rfl, Nat.le_refl _, Nat.le_refl _⟩ rfl dX11_cuts_45 (fun z_45 h_45 => ?_)
            have h_45 : z_45 = (3 * rA u i_2 + rE u i_2).tdiv 2 ∧ -50000000 ≤ z_45 ∧ z_45 ≤ 50000000 := h_45
            exact W.iret SS.1 SS.2.1 hr (fun t0 ht hW => ⟨⟨_, u, rfl, ⟨z_45, rfl, (⟨⟨⟨⟨p0, (by first | exact cs_refl | exact (fun r hr => ⟨if_neg (by omega), if_neg (by omega), if_neg (by omega)⟩))⟩, (by first | exact hs_refl | exact (fun _ _ => rfl)), (by first | exact ss_refl | exact ⟨rfl, fun _ _ => rfl⟩), ⟨⟨(by first | rfl | exact if_neg (by omega) | exact (if_neg (by omega)).trans (if_neg (by omega))), (by first | rfl | exact if_neg (by omega) | exact (if_neg (by omega)).trans (if_neg (by omega))), (by first | rfl | exact if_neg (by omega) | exact (if_neg (by omega)).trans (if_neg (by omega)))⟩, rfl, rfl, rfl⟩⟩, Or.inl kCu_r⟩, by unfold cuA; unfold cuC; rw [show s.toNat = i_2 by omega]; exact Or.inr ⟨by omega, Or.inr ⟨by omega, Or.inl ⟨by omega, h_45.1⟩⟩⟩⟩)⟩, by show va_P D.1 j_cl (cW D q u) t0.heap; rw [ht]; first | exact hP | (simp only [sC_id, sX_id, sY_id, sH_id, sT_id, sV_id]; exact hP)⟩, hS.F ht⟩) hS.2.2 dX11_cuts_48 hlk
        · skip
          refine j_bipush SS dX11_cuts_33 (by decide +kernel) ?_
          exact W.iret SS.1 SS.2.1 hr (fun t0 ht hW => ⟨⟨_, u, rfl, ⟨(-2), rfl, (⟨⟨⟨⟨p0, (by first | exact cs_refl | exact (fun r hr => ⟨if_neg (by omega), if_neg (by omega), if_neg (by omega)⟩))⟩, (by first | exact hs_refl | exact (fun _ _ => rfl)), (by first | exact ss_refl | exact ⟨rfl, fun _ _ => rfl⟩), ⟨⟨(by first | rfl | exact if_neg (by omega) | exact (if_neg (by omega)).trans (if_neg (by omega))), (by first | rfl | exact if_neg (by omega) | exact (if_neg (by omega)).trans (if_neg (by omega))), (by first | rfl | exact if_neg (by omega) | exact (if_neg (by omega)).trans (if_neg (by omega)))⟩, rfl, rfl, rfl⟩⟩, Or.inl kCu_r⟩, by unfold cuA; unfold cuC; rw [show s.toNat = i_2 by omega]; exact Or.inr ⟨by omega, Or.inl ⟨by omega, rfl⟩⟩⟩)⟩, by show va_P D.1 j_cl (cW D q u) t0.heap; rw [ht]; first | exact hP | (simp only [sC_id, sX_id, sY_id, sH_id, sT_id, sV_id]; exact hP)⟩, hS.F ht⟩) hS.2.2 dX11_cuts_35 hlk
      · skip
        refine j_iconst SS dX11_cuts_19 ?_
        exact W.iret SS.1 SS.2.1 hr (fun t0 ht hW => ⟨⟨_, u, rfl, ⟨(-1), rfl, (⟨⟨⟨⟨p0, (by first | exact cs_refl | exact (fun r hr => ⟨if_neg (by omega), if_neg (by omega), if_neg (by omega)⟩))⟩, (by first | exact hs_refl | exact (fun _ _ => rfl)), (by first | exact ss_refl | exact ⟨rfl, fun _ _ => rfl⟩), ⟨⟨(by first | rfl | exact if_neg (by omega) | exact (if_neg (by omega)).trans (if_neg (by omega))), (by first | rfl | exact if_neg (by omega) | exact (if_neg (by omega)).trans (if_neg (by omega))), (by first | rfl | exact if_neg (by omega) | exact (if_neg (by omega)).trans (if_neg (by omega)))⟩, rfl, rfl, rfl⟩⟩, Or.inl kCu_r⟩, Or.inl ⟨by omega, rfl⟩⟩)⟩, by show va_P D.1 j_cl (cW D q u) t0.heap; rw [ht]; first | exact hP | (simp only [sC_id, sX_id, sY_id, sH_id, sT_id, sV_id]; exact hP)⟩, hS.F ht⟩) hS.2.2 dX11_cuts_20 hlk
  · skip
    refine lv_astore_nN (lv' := [(3, .null), (0, .ref (q 0)), (1, .int (J s)), (2, .int (J what))]) SS.1 SS.2.1 dX11_cuts_5 rfl hl (by decide) rfl (fun ls hl => ?_)
    refine lv_aload_nN SS.1 SS.2.1 dX11_cuts_6 rfl (lv_at hl 0 rfl) ?_
    refine lv_ifnullN SS.1 SS.2.1 (tgt := 19) dX11_cuts_7 (by decide) ?_
    refine j_iconst SS dX11_cuts_19 ?_
    exact W.iret SS.1 SS.2.1 hr (fun t0 ht hW => ⟨⟨_, u, rfl, ⟨(-1), rfl, (⟨⟨⟨⟨p0, (by first | exact cs_refl | exact (fun r hr => ⟨if_neg (by omega), if_neg (by omega), if_neg (by omega)⟩))⟩, (by first | exact hs_refl | exact (fun _ _ => rfl)), (by first | exact ss_refl | exact ⟨rfl, fun _ _ => rfl⟩), ⟨⟨(by first | rfl | exact if_neg (by omega) | exact (if_neg (by omega)).trans (if_neg (by omega))), (by first | rfl | exact if_neg (by omega) | exact (if_neg (by omega)).trans (if_neg (by omega))), (by first | rfl | exact if_neg (by omega) | exact (if_neg (by omega)).trans (if_neg (by omega)))⟩, rfl, rfl, rfl⟩⟩, Or.inl kCu_r⟩, Or.inl ⟨by omega, rfl⟩⟩)⟩, by show va_P D.1 j_cl (cW D q u) t0.heap; rw [ht]; first | exact hP | (simp only [sC_id, sX_id, sY_id, sH_id, sT_id, sV_id]; exact hP)⟩, hS.F ht⟩) hS.2.2 dX11_cuts_20 hlk


/-! ===== the constructors: rows ===== -/
/-- the private constructors of nest mates, the array of shapes -/
def j_KN (U : State) : Prop := va_AO "GridPolygons$Shape" U ∧ va_Nw (.methodLinkNest RX11 15 yX10_init RX11) U ∧ va_Nw (.methodLinkNest RX11 18 yX3_init RX11) U ∧ va_Nw (.methodLinkNest RX11 25 yX4_init RX11) U ∧ va_Nw (.methodLinkNest RX11 32 yX9_init RX11) U ∧ va_Nw (.methodLinkNest RX11 39 yX0_init RX11) U ∧ va_Nw (.methodLinkNest RX11 46 yX2_init RX11) U ∧ va_Nw (.methodLinkNest RX11 53 yX1_init RX11) U ∧ va_Nw (.methodLinkNest RX2 11 yX5_init RX11) U
theorem j_KN.warm {s U : State} (h : j_KN s) (hW : s.WarmedH U.vm) : j_KN U := ⟨va_AO.moved hW.alike h.1, va_Nw.warmM hW h.2.1, va_Nw.warmM hW h.2.2.1, va_Nw.warmM hW h.2.2.2.1, va_Nw.warmM hW h.2.2.2.2.1, va_Nw.warmM hW h.2.2.2.2.2.1, va_Nw.warmM hW h.2.2.2.2.2.2.1, va_Nw.warmM hW h.2.2.2.2.2.2.2.1, va_Nw.warmM hW h.2.2.2.2.2.2.2.2⟩
theorem j_KN.same {s U : State} (h : j_KN s) (e : s.vm = U.vm) : j_KN U := ⟨va_AO.moved (e ▸ Vm.Alike.refl s.vm) h.1, va_Nw.same rfl e h.2.1, va_Nw.same rfl e h.2.2.1, va_Nw.same rfl e h.2.2.2.1, va_Nw.same rfl e h.2.2.2.2.1, va_Nw.same rfl e h.2.2.2.2.2.1, va_Nw.same rfl e h.2.2.2.2.2.2.1, va_Nw.same rfl e h.2.2.2.2.2.2.2.1, va_Nw.same rfl e h.2.2.2.2.2.2.2.2⟩
abbrev jrc (f n c s : Nat) : Room := { frames := f, cells := c, slots := s, locals := n }
def jPN (As : List Value) (D : JD) (P : Heap → Prop) : Array Value → State → Prop := va_Pc As (fun U => (j_K D U ∧ j_KN U) ∧ P U.heap)
theorem jPN.blind {As : List Value} {D : JD} {P : Heap → Prop} : FrameBlind (jPN As D P) := by
  intro a U g mk h
  obtain ⟨h1, ⟨h2, h4⟩, h3⟩ := h
  exact ⟨h1, ⟨⟨va_K.moved (u := U) (U := U.calling g mk a) (Vm.Alike.refl U.vm) h2.1, va_Nw.same rfl (U := U.calling g mk a) rfl h2.2.1, va_Nw.same rfl (U := U.calling g mk a) rfl h2.2.2.1, va_Nw.same rfl (U := U.calling g mk a) rfl h2.2.2.2.1, va_Nw.same rfl (U := U.calling g mk a) rfl h2.2.2.2.2⟩, h4.same (U := U.calling g mk a) rfl⟩, h3⟩
theorem jPN.at {As : List Value} {D : JD} {P : Heap → Prop} {s : State} {H : Heap} (hG : j_K D s) (hN : j_KN s) (hP : P H) : ∀ U : State, U.heap = H → s.WarmedH U.vm → jPN As D P As.toArray U :=
  fun U hU hW => ⟨rfl, ⟨hG.warm hW, hN.warm hW⟩, by rw [hU]; exact hP⟩
def jmI (y : MethodName) (bytes : ByteArray) (maxL : Nat) (n : Nat) : Prop := Cond.code y bytes maxL none ∈ lw_g ∧ Cond.initialized y.cls ∈ lw_g ∧ Cond.instanceMethod y ∈ lw_g ∧ y.name = "<init>" ∧ jd y n
theorem va_D1 {x : Nat × va_E} {sz : Nat} : va_D (va_A [x] sz) [x] := by
  refine ⟨fun i j p q hi hj _ => ?_, fun k q hk => Or.inl ⟨k, q.2, hk⟩⟩
  have h1 := (List.getElem?_eq_some_iff.mp hi).1
  have h2 := (List.getElem?_eq_some_iff.mp hj).1
  simp at h1 h2
  omega
theorem j_at {ws : va_W} {x : Nat × va_E} : (ws ++ [x])[ws.length]? = some x := by simp
theorem j_lf {ws : va_W} {x y : Nat × va_E} {k : Nat} (h : ws[k]? = some y) : (ws ++ [x])[k]? = some y := by
  rw [List.getElem?_append_left (List.getElem?_eq_some_iff.mp h).1]; exact h
theorem j_lastP {D : va_G} {cl : List vw_C} {ws : va_W} {x : Nat × va_E} {H : Heap} (h : va_P D cl (ws ++ [x]) H) : va_P D cl [x] H := fun k q hk => by
  have h1 := (List.getElem?_eq_some_iff.mp hk).1
  simp at h1
  subst h1
  exact h ws.length q (by rw [j_at]; exact hk)
theorem j_one {x y : Nat × va_E} {k : Nat} (h : [x][k]? = some y) : y = x := by
  have h1 := (List.getElem?_eq_some_iff.mp h).1
  simp at h1
  subst h1
  exact (Option.some.inj h).symm
theorem j_free {A : Nat → Prop} {ws : va_W} {x : Nat × va_E} {H0 H : Heap} {locs : List Loc} (hD : va_D A (ws ++ [x])) (hS : va_S A H0 H locs) (hA : ∀ q, H0.size ≤ q → A q) : ∀ q, va_A [x] H.size q → A q := by
  intro q h
  rcases h with ⟨k, e, h⟩ | h
  · have h2 := j_one h
    have h3 := hD.2 ws.length x j_at
    rw [← h2] at h3
    exact h3
  · exact hA q (Nat.le_trans hS.1 h)
theorem j_join {A : Nat → Prop} {D : va_G} {cl : List vw_C} {ws w1 : va_W} {x : Nat × va_E} {H H1 : Heap} (hP : va_P D cl (ws ++ [x]) H) (hD : va_D A (ws ++ [x])) (hk : ∀ q : Nat, q < H.size → ¬ va_A [x] H.size q → H1[q]? = H[q]?) (hF : ∀ q, va_A [x] H.size q → A q) (hP1 : va_P D cl w1 H1) (hD1 : va_D (va_A [x] H.size) w1) : va_P D cl (ws ++ w1) H1 ∧ va_D A (ws ++ w1) := by
  have apart : ∀ (k : Nat) (q : Nat × va_E), ws[k]? = some q → q.1 < H.size ∧ ¬ va_A [x] H.size q.1 := by
    intro k q hq
    have hl := (hP k q (j_lf hq)).lt
    refine ⟨hl, fun h => ?_⟩
    rcases h with ⟨k2, e, h⟩ | h
    · have h2 := j_one h
      have h3 := hD.1 k ws.length q x (j_lf hq) j_at (by rw [← h2])
      have h4 := (List.getElem?_eq_some_iff.mp hq).1
      omega
    · omega
  refine ⟨va_P.app (fun k q hq => ?_) hP1, va_D.app ⟨fun i j a b hi hj h => hD.1 i j a b (j_lf hi) (j_lf hj) h, fun k q hq => hD.2 k q (j_lf hq)⟩ (hD1.weaken (fun k q _ h => hF q.1 h)) (fun i j a b ha hb hab => ?_)⟩
  · obtain ⟨g1, g2⟩ := apart k q hq
    exact (hP k q (j_lf hq)).kept (hk q.1 g1 g2)
  · exact (apart i a ha).2 (by rw [hab]; exact hD1.2 j b hb)
section JN
variable {p : Program} {l : Launch} {e9 : Env} {R : Room} {s : State} {m : MethodId} {args : Array Value} {below : List Frame} {meth : Method} {c : Code} {H : Heap} {locs : List Loc} {cells slots : Nat} {Q : State → Prop}
variable {cc : ByteArray} {nL : Nat} {own : String} {pc : Nat} {ls : Array Slot} {rest : List Value}
theorem j_newI (S : jS p m c cc nL s args own) {D : JD} {ws : va_W} {A : Nat → Prop} {H0 : Heap} (hG : j_K D s) (hP : va_P D.1 j_cl ws H) (hD : va_D A ws) (hS : va_S A H0 H locs) (hA : ∀ q, H0.size ≤ q → A q) (harr : Cond.arrayClass .int ∈ lw_g) {n : Int} (N : Nat) (h0 : 0 ≤ n ∧ n ≤ 1000000) (e : n.toNat = N) (hcells : cells + 1 ≤ R.cells) (hslots : slots + N ≤ R.slots) (hdg : decode cc pc = .ok (.newarray .int, 2))
    (kk : ∀ (q : Nat) (H1 : Heap), va_P D.1 j_cl (ws ++ [(q, .inl (D.2.1, N, .inl (fun _ => J 0)))]) H1 → va_D A (ws ++ [(q, .inl (D.2.1, N, .inl (fun _ => J 0)))]) → va_S A H0 H1 locs → W p l e9 R s m args below meth c H1 locs (cells + 1) (slots + N) Q (F0 m (pc + 2) ls (.ref q :: rest))) : W p l e9 R s m args below meth c H locs cells slots Q (F0 m pc ls (.int (J n) :: rest)) := by
  refine va_newa (atype := .int) S.1 S.2.1 (S.2.2.2.2 _ harr) (ty := .int) rfl hG.1 hP hD hS hA (N' := N) (a0 := (N, .inl (fun _ => J 0))) (fun cA => rfl) (fun q => absurd ((J_lt (by omega) (by omega)).mp (J_0 ▸ q)) (by omega)) (by rw [J_clamp (by omega)]; exact e) (by show N * 4 ≤ 536870912; omega) hcells hslots hdg (fun q cA H1 hK1 hP1 hD1 hS1 => ?_)
  have h1 : s.vm.findClass ("[" ++ FieldType.toString .int) = some cA := (hK1.2 3 (cA, .int) rfl).2
  have h2 : s.vm.findClass ("[" ++ FieldType.toString .int) = some D.2.1 := (hG.1.2 0 (D.2.1, .int) rfl).2
  have e1 : cA = D.2.1 := Option.some.inj (h1.symm.trans h2)
  subst e1
  exact kk q H1 hP1 hD1 hS1
theorem j_newL (S : jS p m c cc nL s args own) {D : JD} {ws : va_W} {A : Nat → Prop} {H0 : Heap} (hG : j_K D s) (hP : va_P D.1 j_cl ws H) (hD : va_D A ws) (hS : va_S A H0 H locs) (hA : ∀ q, H0.size ≤ q → A q) (harr : Cond.arrayClass .long ∈ lw_g) {n : Int} (N : Nat) (h0 : 0 ≤ n ∧ n ≤ 1000000) (e : n.toNat = N) (hcells : cells + 1 ≤ R.cells) (hslots : slots + N ≤ R.slots) (hdg : decode cc pc = .ok (.newarray .long, 2))
    (kk : ∀ (q : Nat) (H1 : Heap), va_P D.1 j_cl (ws ++ [(q, .inl (D.2.2.1, N, .inr (.inl (fun _ => 0))))]) H1 → va_D A (ws ++ [(q, .inl (D.2.2.1, N, .inr (.inl (fun _ => 0))))]) → va_S A H0 H1 locs → W p l e9 R s m args below meth c H1 locs (cells + 1) (slots + N) Q (F0 m (pc + 2) ls (.ref q :: rest))) : W p l e9 R s m args below meth c H locs cells slots Q (F0 m pc ls (.int (J n) :: rest)) := by
  refine va_newa (atype := .long) S.1 S.2.1 (S.2.2.2.2 _ harr) (ty := .long) rfl hG.1 hP hD hS hA (N' := N) (a0 := (N, .inr (.inl (fun _ => 0)))) (fun cA => rfl) (fun q => absurd ((J_lt (by omega) (by omega)).mp (J_0 ▸ q)) (by omega)) (by rw [J_clamp (by omega)]; exact e) (by show N * 8 ≤ 536870912; omega) hcells hslots hdg (fun q cA H1 hK1 hP1 hD1 hS1 => ?_)
  have h1 : s.vm.findClass ("[" ++ FieldType.toString .long) = some cA := (hK1.2 3 (cA, .long) rfl).2
  have h2 : s.vm.findClass ("[" ++ FieldType.toString .long) = some D.2.2.1 := (hG.1.2 1 (D.2.2.1, .long) rfl).2
  have e1 : cA = D.2.2.1 := Option.some.inj (h1.symm.trans h2)
  subst e1
  exact kk q H1 hP1 hD1 hS1
theorem j_newQ (S : jS p m c cc nL s args own) {D : JD} {ws : va_W} {A : Nat → Prop} {H0 : Heap} {index : Nat} (hG : j_K D s) (hN : j_KN s) (hP : va_P D.1 j_cl ws H) (hD : va_D A ws) (hS : va_S A H0 H locs) (hA : ∀ q, H0.size ≤ q → A q) (hcl : Cond.classLink own index "GridPolygons$Shape" ∈ lw_g) {n : Int} (N : Nat) (h0 : 0 ≤ n ∧ n ≤ 1000000) (e : n.toNat = N) (hcells : cells + 1 ≤ R.cells) (hslots : slots + N ≤ R.slots) (hdg : decode cc pc = .ok (.anewarray index, 3))
    (kk : ∀ (q : Nat) (H1 : Heap), va_P D.1 j_cl (ws ++ [(q, .inl (D.2.2.2, N, .inr (.inr (.inr (.inr (fun _ => none))))))]) H1 → va_D A (ws ++ [(q, .inl (D.2.2.2, N, .inr (.inr (.inr (.inr (fun _ => none))))))]) → va_S A H0 H1 locs → W p l e9 R s m args below meth c H1 locs (cells + 1) (slots + N) Q (F0 m (pc + 3) ls (.ref q :: rest))) : W p l e9 R s m args below meth c H locs cells slots Q (F0 m pc ls (.int (J n) :: rest)) := by
  refine va_newq S.1 S.2.1 S.2.2.2.1 (S.2.2.2.2 _ hcl) hN.1 hG.1 hP hD hS hA (N' := N) (fun q => absurd ((J_lt (by omega) (by omega)).mp (J_0 ▸ q)) (by omega)) (by rw [J_clamp (by omega)]; exact e) (by omega) hcells hslots hdg (fun q cA H1 hK1 hP1 hD1 hS1 => ?_)
  obtain ⟨_, _, _, _, _, h1⟩ : va_RA s cA (.object "GridPolygons$Shape") := (hK1.2 3 (cA, .object "GridPolygons$Shape") rfl).2
  obtain ⟨_, _, _, _, _, h2⟩ : va_RA s D.2.2.2 (.object "GridPolygons$Shape") := (hG.1.2 2 (D.2.2.2, .object "GridPolygons$Shape") rfl).2
  have e1 : cA = D.2.2.2 := Option.some.inj (h1.symm.trans h2)
  subst e1
  exact kk q H1 hP1 hD1 hS1
theorem j_iN (S : jS p m c cc nL s args own) {D : JD} {P : Heap → Prop} {b : Nat} {As : List Value} {U : Type} {B : U → Heap → Prop} {A1 A0 : Nat → Prop} {H0 : Heap} {host : String} {y : MethodName} {bytes : ByteArray} {maxL n index f nl mc ms : Nat} (hM : Met l y (jw y bytes maxL none) (jrc f nl mc ms) (jPN (.ref b :: As) D P) (jWv (fun _ : U => True) B A1) mc ms A1) (hy : jmI y bytes maxL n) (hl : va_Nw (.methodLinkNest own index y host) s) (hG : j_K D s) (hN : j_KN s) (hP : P H) (hS : va_S A0 H0 H locs) (hA : ∀ q, A1 q → A0 q) (hn : As.length = n) (hls : ls.size = nL) (hR : (f + 1 ≤ R.frames ∧ 8 + (maxL + 11) + nl ≤ R.locals) ∧ (rest.map fun v => v.category).sum ≤ 8 ∧ cells + mc ≤ R.cells ∧ slots + ms ≤ R.slots) {st0 : List Value} (hst : st0 = As.reverse ++ .ref b :: rest) (hdg : decode cc pc = .ok (.invokespecial index, 3))
    (k : ∀ (u : U) (H1 : Heap) (locs1 : List Loc), B u H1 → (H.size ≤ H1.size ∧ ∀ q : Nat, q < H.size → ¬ A1 q → H1[q]? = H[q]?) → va_S A0 H0 H1 locs1 → W p l e9 R s m args below meth c H1 locs1 (cells + mc) (slots + ms) Q (F0 m (pc + 3) ls rest)) : W p l e9 R s m args below meth c H locs cells slots Q (F0 m pc ls st0) := by
  refine va_callv (va_runIN S hM ⟨va_cnB n S.2.2.2.2 (j_good hy.1) rfl rfl rfl hl (S.2.2.2.2 _ hy.2.1) hy.2.2.2.2 hR.1, hy.2.2.2.1, S.2.2.2.2 _ hy.2.2.1⟩ ⟨jPN.blind, jPN.at hG hN hP⟩ rfl hn hls hst (lv_room hR.2.1) hdg hR.2.2) hS (fun q _ h => hA q h) hA (fun u t H1 locs1 ht hvm hp hB hz hk hS1 => ?_)
  exact k u H1 locs1 (ht ▸ hB) ⟨hz, hk⟩ hS1
theorem j_iS (S : jS p m c cc nL s args own) {D : JD} {P : Heap → Prop} {b : Nat} {As : List Value} {U : Type} {B : U → Heap → Prop} {A1 A0 : Nat → Prop} {H0 : Heap} {y : MethodName} {bytes : ByteArray} {maxL n index f nl mc ms : Nat} (hM : Met l y (jw y bytes maxL none) (jrc f nl mc ms) (jPN (.ref b :: As) D P) (jWv (fun _ : U => True) B A1) mc ms A1) (hy : jmI y bytes maxL n) (hl : Cond.methodLink own index y ∈ lw_g) (hG : j_K D s) (hN : j_KN s) (hP : P H) (hS : va_S A0 H0 H locs) (hA : ∀ q, A1 q → A0 q) (hn : As.length = n) (hls : ls.size = nL) (hR : (f + 1 ≤ R.frames ∧ 8 + (maxL + 11) + nl ≤ R.locals) ∧ (rest.map fun v => v.category).sum ≤ 8 ∧ cells + mc ≤ R.cells ∧ slots + ms ≤ R.slots) {st0 : List Value} (hst : st0 = As.reverse ++ .ref b :: rest) (hdg : decode cc pc = .ok (.invokespecial index, 3))
    (k : ∀ (u : U) (H1 : Heap) (locs1 : List Loc), B u H1 → (H.size ≤ H1.size ∧ ∀ q : Nat, q < H.size → ¬ A1 q → H1[q]? = H[q]?) → va_S A0 H0 H1 locs1 → W p l e9 R s m args below meth c H1 locs1 (cells + mc) (slots + ms) Q (F0 m (pc + 3) ls rest)) : W p l e9 R s m args below meth c H locs cells slots Q (F0 m pc ls st0) := by
  refine va_callv (va_runI S hM ⟨callB_of n S.2.2.2.2 (j_good hy.1) rfl rfl rfl (S.2.2.2.2 _ hy.2.1) (S.2.2.2.2 _ hl) hy.2.2.2.2 hR.1, hy.2.2.2.1, S.2.2.2.2 _ hy.2.2.1⟩ ⟨jPN.blind, jPN.at hG hN hP⟩ rfl hn hls hst (lv_room hR.2.1) hdg hR.2.2) hS (fun q _ h => hA q h) hA (fun u t H1 locs1 ht hvm hp hB hz hk hS1 => ?_)
  exact k u H1 locs1 (ht ▸ hB) ⟨hz, hk⟩ hS1
end JN

