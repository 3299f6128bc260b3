
set_option maxHeartbeats 4000000 in
set_option maxRecDepth 100000 in
theorem c_X11_cuts (l : Launch) (D : JD) (q : Nat → Nat) (u : CS) (A : Nat → Prop) (hD : va_D A (cW D q u)) (s : Int) (what : Int) (p0 : CI u) (p1 : -2147483648 ≤ s ∧ s ≤ 2147483647) (p2 : -2147483648 ≤ what ∧ what ≤ 2147483647) : Met l yX11_cuts (jw yX11_cuts cX11_cuts 4 (some .int)) (jr 7 149) (jP [.ref (q 0), .int (J s), .int (J what)] D (fun H => va_P D.1 j_cl (cW D q u) H)) (jWi (fun z u' => CI u') (fun u' H => va_P D.1 j_cl (cW D q u') H) A) 0 0 A := by
  refine Met.ofW (cc := cX11_cuts) (maxL := 4) (ret := (some .int)) (by decide) rfl ?_
  intro pr en st mi args below meth co s₁ B hml hv
  obtain ⟨rfl, hG, hP⟩ := hv
  have hr := B.returns
  have hlk := B.notSynchronized
  have SS : jS pr mi co cX11_cuts 4 st _ RX11 := ⟨B.exec, B.bytes, hml, findClass_of_methodNamed B.named, fun w hw => atoms_spec (ws := (jw yX11_cuts cX11_cuts 4 (some .int))) B.pre w (List.mem_cons_of_mem _ hw)⟩
  have hl := lv_entry ([.ref (q 0), .int (J s), .int (J what)]) (n := 4) (Nat.le_of_ble_eq_true rfl)
  rw [lg_entry_eq]
  generalize (lg_sl ([.ref (q 0), .int (J s), .int (J what)]) ++ List.replicate (4 - (lg_sl ([.ref (q 0), .int (J s), .int (J what)])).length) Slot.unset).toArray = ls at hl ⊢
  have hl : lv_has ls 4 [(0, .ref (q 0)), (1, .int (J s)), (2, .int (J what))] := hl
  have hS : va_S A st.heap st.heap [] := va_S.rf
  refine lv_aload_n SS.1 SS.2.1 dX11_cuts_0 rfl (lv_at hl 0 rfl) ?_
  refine lv_iload_n SS.1 SS.2.1 dX11_cuts_1 rfl (lv_at hl 1 rfl) ?_
  refine j_vSh SS (As := [.int (J s)]) (rest := []) (c_X11_shapeAt l D q u  s (show -2147483648 ≤ s ∧ s ≤ 2147483647 from (p1))) mf_X11_shapeAt kw_414 hG hP hP (ci := 11) (q0 := 0) rfl rfl rfl rfl hl.1 ⟨⟨Nat.le_of_ble_eq_true rfl, Nat.le_of_ble_eq_true rfl⟩, Nat.le_of_ble_eq_true rfl, Nat.le_refl _, Nat.le_refl _⟩ rfl dX11_cuts_2 (fun i_2 hi_2 hz_2 => ?_) (fun hn_2 => ?_)
  · skip
    have hI2 := CI_s p0 (show i_2 < 8 by omega)
    have hI2c := hI2.1
    have hrl2 := rl_s (show i_2 < 8 by omega)
    refine lv_astore_n (lv' := [(3, .ref (q (8 + 5 * i_2))), (0, .ref (q 0)), (1, .int (J s)), (2, .int (J what))]) SS.1 SS.2.1 dX11_cuts_5 rfl hl (by decide) rfl (fun ls hl => ?_)
    refine lv_aload_n SS.1 SS.2.1 dX11_cuts_6 rfl (lv_at hl 0 rfl) ?_
    refine lv_ifnull SS.1 SS.2.1 dX11_cuts_7 ?_
    refine lv_iload_n SS.1 SS.2.1 dX11_cuts_10 rfl (lv_at hl 3 rfl) ?_
    refine j_if_lt SS (tgt := 19) (x := what) dX11_cuts_11 (by decide) (by omega) (fun c_11 => ?_) (fun c_11 => ?_)
    · skip
      refine j_iconst SS dX11_cuts_19 ?_
      exact W.iret SS.1 SS.2.1 hr (fun t0 ht hW => ⟨⟨_, u, rfl, ⟨(-1), rfl, (p0)⟩, by show va_P D.1 j_cl (cW D q u) t0.heap; rw [ht]; first | exact hP | (simp only [sC_id, sX_id, sY_id, sH_id, sT_id, sV_id]; exact hP)⟩, hS.F ht⟩) hS.2.2 dX11_cuts_20 hlk
    · skip
      refine lv_iload_n SS.1 SS.2.1 dX11_cuts_14 rfl (lv_at hl 3 rfl) ?_
      refine j_iconst SS dX11_cuts_15 ?_
      refine j_icmp_le SS (tgt := 21) (x := what) (y := 3) dX11_cuts_16 (by decide) (by omega) (by decide) (fun c_16 => ?_) (fun c_16 => ?_)
      · skip
        refine lv_aload_n SS.1 SS.2.1 dX11_cuts_21 rfl (lv_at hl 0 rfl) ?_
        refine j_get SS hG hP (8 + 5 * i_2) (v := .ref (q (9 + 5 * i_2))) (C := RX10) (T := TX10) (N := 3) (cw_shape (by omega)) rfl inX10 0 (by decide) (ref := "GridPolygons$Shape") kw_151 rfl rfl dX11_cuts_22 ?_
        refine j_bipush SS dX11_cuts_25 (by decide +kernel) ?_
        refine j_sRi SS (As := [.ref (q (9 + 5 * i_2)), .int (J 12)]) (rest := []) (c_X11_hasAtMost l D q u i_2 (by omega) 12 (show RB 40 u i_2 from (CI_40 p0 (by omega))) (show -2147483648 ≤ (12 : Int) ∧ (12 : Int) ≤ 2147483647 from (by omega))) mf_X11_hasAtMost kw_859 hG hP rfl hl.1 ⟨⟨Nat.le_of_ble_eq_true rfl, Nat.le_of_ble_eq_true rfl⟩, Nat.le_of_ble_eq_true rfl, Nat.le_refl _, Nat.le_refl _⟩ rfl dX11_cuts_27 (fun z_27 h_27 => ?_)
        have h_27 : (z_27 = 1 ∧ 3 ≤ (u.1.2.2.1 i_2) ∧ rE u i_2 + rI u i_2 ≤ (12 : Int)) ∨ z_27 = 0 := h_27
        refine j_if_ne SS (tgt := 36) (x := z_27) dX11_cuts_30 (by decide) (by omega) (fun c_30 => ?_) (fun c_30 => ?_)
        · skip
          refine lv_iload_n SS.1 SS.2.1 dX11_cuts_36 rfl (lv_at hl 3 rfl) ?_
          refine j_iconst SS dX11_cuts_37 ?_
          refine j_icmp_ne SS (tgt := 49) (x := what) (y := 2) dX11_cuts_38 (by decide) (by omega) (by decide) (fun c_38 => ?_) (fun c_38 => ?_)
          · skip
            refine lv_iload_n SS.1 SS.2.1 dX11_cuts_49 rfl (lv_at hl 3 rfl) ?_
            refine j_iconst SS dX11_cuts_50 ?_
            refine j_icmp_ne SS (tgt := 62) (x := what) (y := 3) dX11_cuts_51 (by decide) (by omega) (by decide) (fun c_51 => ?_) (fun c_51 => ?_)
            · skip
              refine lv_aload_n SS.1 SS.2.1 dX11_cuts_62 rfl (lv_at hl 1 rfl) ?_
              refine j_get SS hG hP 0 (v := .ref (q 6)) (C := RX11) (T := TX11) (N := 8) rfl rfl inX11 5 (by decide) (ref := "GridPolygons") kw_390 rfl rfl dX11_cuts_63 ?_
              refine lv_aload_n SS.1 SS.2.1 dX11_cuts_66 rfl (lv_at hl 0 rfl) ?_
              refine j_vWi SS (As := [.ref (q (8 + 5 * i_2))]) (rest := []) (c_X2_build l D q u A (cW_D hD) i_2 (by omega)  (show RB 40 u i_2 from (CI_40 p0 (by omega))) (show RB 40 u 9 from (p0.2.1.2.1)) (show ∀ k : Nat, 0 ≤ (u.2.1 2) k ∧ (u.2.1 2) k ≤ 12 from (fun k => (p0.2.2.2.2.2.1.2.2.1 k).1)) (show ∀ k : Nat, 0 ≤ (u.2.1 3) k ∧ (u.2.1 3) k ≤ 12 from (fun k => (p0.2.2.2.2.2.1.2.2.1 k).2)) (show ∀ k : Nat, -1 ≤ (u.2.1 4) k ∧ (u.2.1 4) k ≤ 63 from (p0.2.2.2.2.2.1.2.2.2)) (show 0 ≤ (u.2.2.2 20) ∧ (u.2.2.2 20) ≤ 63 from (p0.2.2.2.2.2.1.1)) (show 0 ≤ (u.2.2.2 21) ∧ (u.2.2.2 21) ≤ 756 from (p0.2.2.2.2.2.1.2.1)) (show 0 ≤ (u.2.2.2 22) ∧ (u.2.2.2 22) ≤ 1500 from (p0.2.2.2.2.2.2.1.1)) (show ∀ k : Nat, 0 ≤ (u.2.1 8) k ∧ (u.2.1 8) k ≤ 1500 from (p0.2.2.2.2.2.2.1.2.2.2)) (show (u.2.2.2 23) = 0 ∨ (u.2.2.2 23) = 1 from (p0.2.2.2.2.2.2.1.2.1)) (show -2147483648 ≤ (u.2.2.2 24) ∧ (u.2.2.2 24) ≤ 2147483647 from (p0.2.2.2.2.2.2.1.2.2.1)) (show -2147483648 ≤ (u.1.2.2.2.2 i_2) ∧ (u.1.2.2.2.2 i_2) ≤ 2147483647 from ((p0.1 i_2 (by omega)).2.2))) mf_X2_build kw_865 hG hP hP (ci := 2) (q0 := 6) rfl rfl rfl hS (fun _ h => h) rfl hl.1 ⟨⟨Nat.le_of_ble_eq_true rfl, Nat.le_of_ble_eq_true rfl⟩, Nat.le_of_ble_eq_true rfl, Nat.le_refl _, Nat.le_refl _⟩ rfl dX11_cuts_67 (fun z_67 u67 H locs h_67 hP _ hS => ?_)
              obtain ⟨n_67, f_67, g_67, ls9_67, gr9_67, nu9_67, w3_67, w4_67, w5_67, v20_67, v21_67, st2_67, fa_67, pc9_67, v22_67, sp_67, v24_67, rfl, h_67⟩ := h_67
              have hP : va_P D.1 j_cl (cW D q (sY (sX (sV (sV (sV (sV (sV (sL (sL (sL (sL (sI (sI (sI (sI (sI (sC u 9 n_67) 2 ls9_67) 3 gr9_67) 4 nu9_67) 7 fa_67) 8 pc9_67) 2 st2_67) 3 w3_67) 4 w4_67) 5 w5_67) 20 v20_67) 21 v21_67) 22 v22_67) 23 sp_67) 24 v24_67) 9 f_67) 9 g_67)) H := hP
              have h_67 : (z_67 = 0 ∨ z_67 = 1) ∧ ((0 ≤ n_67 ∧ n_67 ≤ 12) ∧ RV 40 f_67 g_67) ∧ (∀ k : Nat, 0 ≤ ls9_67 k ∧ ls9_67 k ≤ 12) ∧ (∀ k : Nat, 0 ≤ gr9_67 k ∧ gr9_67 k ≤ 12) ∧ (∀ k : Nat, -1 ≤ nu9_67 k ∧ nu9_67 k ≤ 63) ∧ ((0 ≤ v20_67 ∧ v20_67 ≤ 63) ∧ 0 ≤ v21_67 ∧ v21_67 ≤ 756) ∧ ((0 ≤ v22_67 ∧ v22_67 ≤ 1500) ∧ (∀ k : Nat, 0 ≤ pc9_67 k ∧ pc9_67 k ≤ 1500) ∧ (sp_67 = 0 ∨ sp_67 = 1)) ∧ -2147483648 ≤ v24_67 ∧ v24_67 ≤ 2147483647 := h_67
              obtain ⟨hz9, hq9⟩ := h_67
              have hCI : CI (sY (sX (sV (sV (sV (sV (sV (sL (sL (sL (sL (sI (sI (sI (sI (sI (sC u 9 n_67) 2 ls9_67) 3 gr9_67) 4 nu9_67) 7 fa_67) 8 pc9_67) 2 st2_67) 3 w3_67) 4 w4_67) 5 w5_67) 20 v20_67) 21 v21_67) 22 v22_67) 23 sp_67) 24 v24_67) 9 f_67) 9 g_67) := CI_cu p0 hq9
              refine j_if_ne SS (tgt := 76) (x := z_67) dX11_cuts_70 (by decide) (by omega) (fun c_70 => ?_) (fun c_70 => ?_)
              · skip
                refine lv_iload_n SS.1 SS.2.1 dX11_cuts_76 rfl (lv_at hl 3 rfl) ?_
                refine j_if_ne SS (tgt := 90) (x := what) dX11_cuts_77 (by decide) (by omega) (fun c_77 => ?_) (fun c_77 => ?_)
                · skip
                  refine lv_aload_n SS.1 SS.2.1 dX11_cuts_90 rfl (lv_at hl 1 rfl) ?_
                  refine j_get SS hG hP 0 (v := .ref (q 6)) (C := RX11) (T := TX11) (N := 8) rfl rfl inX11 5 (by decide) (ref := "GridPolygons") kw_390 rfl rfl dX11_cuts_91 ?_
                  refine j_vRi SS (As := []) (rest := []) (c_X2_farthest l D q (sY (sX (sV (sV (sV (sV (sV (sL (sL (sL (sL (sI (sI (sI (sI (sI (sC u 9 n_67) 2 ls9_67) 3 gr9_67) 4 nu9_67) 7 fa_67) 8 pc9_67) 2 st2_67) 3 w3_67) 4 w4_67) 5 w5_67) 20 v20_67) 21 v21_67) 22 v22_67) 23 sp_67) 24 v24_67) 9 f_67) 9 g_67)   (show 0 ≤ v22_67 ∧ v22_67 ≤ 1500 from (by omega))) mf_X2_farthest kw_954 hG hP hP (ci := 2) (q0 := 6) rfl rfl rfl rfl hl.1 ⟨⟨Nat.le_of_ble_eq_true rfl, Nat.le_of_ble_eq_true rfl⟩, Nat.le_of_ble_eq_true rfl, Nat.le_refl _, Nat.le_refl _⟩ rfl dX11_cuts_94 (fun z_94 h_94 => ?_)
                  have h_94 : True := h_94
                  exact W.iret SS.1 SS.2.1 hr (fun t0 ht hW => ⟨⟨_, (sY (sX (sV (sV (sV (sV (sV (sL (sL (sL (sL (sI (sI (sI (sI (sI (sC u 9 n_67) 2 ls9_67) 3 gr9_67) 4 nu9_67) 7 fa_67) 8 pc9_67) 2 st2_67) 3 w3_67) 4 w4_67) 5 w5_67) 20 v20_67) 21 v21_67) 22 v22_67) 23 sp_67) 24 v24_67) 9 f_67) 9 g_67), rfl, ⟨z_94, rfl, (hCI)⟩, by show va_P D.1 j_cl (cW D q (sY (sX (sV (sV (sV (sV (sV (sL (sL (sL (sL (sI (sI (sI (sI (sI (sC u 9 n_67) 2 ls9_67) 3 gr9_67) 4 nu9_67) 7 fa_67) 8 pc9_67) 2 st2_67) 3 w3_67) 4 w4_67) 5 w5_67) 20 v20_67) 21 v21_67) 22 v22_67) 23 sp_67) 24 v24_67) 9 f_67) 9 g_67)) t0.heap; rw [ht]; first | exact hP | (simp only [sC_id, sX_id, sY_id, sH_id, sT_id, sV_id]; exact hP)⟩, hS.F ht⟩) hS.2.2 dX11_cuts_97 hlk
                · skip
                  refine lv_aload_n SS.1 SS.2.1 dX11_cuts_80 rfl (lv_at hl 1 rfl) ?_
                  refine j_get SS hG hP 0 (v := .ref (q 6)) (C := RX11) (T := TX11) (N := 8) rfl rfl inX11 5 (by decide) (ref := "GridPolygons") kw_390 rfl rfl dX11_cuts_81 ?_
                  refine j_get SS hG hP 6 (v := .int (J v22_67)) (C := RX2) (T := TX2) (N := 7) rfl rfl inX2 4 (by decide) (ref := "GridPolygons$Cuts") kw_345 rfl rfl dX11_cuts_84 ?_
                  refine lv_goto (tgt := 97) SS.1 SS.2.1 dX11_cuts_87 (by decide) ?_
                  exact W.iret SS.1 SS.2.1 hr (fun t0 ht hW => ⟨⟨_, (sY (sX (sV (sV (sV (sV (sV (sL (sL (sL (sL (sI (sI (sI (sI (sI (sC u 9 n_67) 2 ls9_67) 3 gr9_67) 4 nu9_67) 7 fa_67) 8 pc9_67) 2 st2_67) 3 w3_67) 4 w4_67) 5 w5_67) 20 v20_67) 21 v21_67) 22 v22_67) 23 sp_67) 24 v24_67) 9 f_67) 9 g_67), rfl, ⟨v22_67, rfl, (hCI)⟩, by show va_P D.1 j_cl (cW D q (sY (sX (sV (sV (sV (sV (sV (sL (sL (sL (sL (sI (sI (sI (sI (sI (sC u 9 n_67) 2 ls9_67) 3 gr9_67) 4 nu9_67) 7 fa_67) 8 pc9_67) 2 st2_67) 3 w3_67) 4 w4_67) 5 w5_67) 20 v20_67) 21 v21_67) 22 v22_67) 23 sp_67) 24 v24_67) 9 f_67) 9 g_67)) t0.heap; rw [ht]; first | exact hP | (simp only [sC_id, sX_id, sY_id, sH_id, sT_id, sV_id]; exact hP)⟩, hS.F ht⟩) hS.2.2 dX11_cuts_97 hlk
              · skip
                refine j_bipush SS dX11_cuts_73 (by decide +kernel) ?_
                exact W.iret SS.1 SS.2.1 hr (fun t0 ht hW => ⟨⟨_, (sY (sX (sV (sV (sV (sV (sV (sL (sL (sL (sL (sI (sI (sI (sI (sI (sC u 9 n_67) 2 ls9_67) 3 gr9_67) 4 nu9_67) 7 fa_67) 8 pc9_67) 2 st2_67) 3 w3_67) 4 w4_67) 5 w5_67) 20 v20_67) 21 v21_67) 22 v22_67) 23 sp_67) 24 v24_67) 9 f_67) 9 g_67), rfl, ⟨(-5), rfl, (hCI)⟩, by show va_P D.1 j_cl (cW D q (sY (sX (sV (sV (sV (sV (sV (sL (sL (sL (sL (sI (sI (sI (sI (sI (sC u 9 n_67) 2 ls9_67) 3 gr9_67) 4 nu9_67) 7 fa_67) 8 pc9_67) 2 st2_67) 3 w3_67) 4 w4_67) 5 w5_67) 20 v20_67) 21 v21_67) 22 v22_67) 23 sp_67) 24 v24_67) 9 f_67) 9 g_67)) t0.heap; rw [ht]; first | exact hP | (simp only [sC_id, sX_id, sY_id, sH_id, sT_id, sV_id]; exact hP)⟩, hS.F ht⟩) hS.2.2 dX11_cuts_75 hlk
            · skip
              refine lv_aload_n SS.1 SS.2.1 dX11_cuts_54 rfl (lv_at hl 0 rfl) ?_
              refine j_get SS hG hP (8 + 5 * i_2) (v := .ref (q (9 + 5 * i_2))) (C := RX10) (T := TX10) (N := 3) (cw_shape (by omega)) rfl inX10 0 (by decide) (ref := "GridPolygons$Shape") kw_151 rfl rfl dX11_cuts_55 ?_
              refine j_vRi SS (As := []) (rest := []) (c_X7_area l D q u i_2 (by omega) (40 : Int)  (show 0 ≤ (40 : Int) ∧ (40 : Int) ≤ 80 from (by omega)) (show RB (40 : Int) u i_2 from (CI_40 p0 (by omega)))) mf_X7_area kw_517 hG hP hP (ci := 7) (q0 := (9 + 5 * i_2)) rfl (cw_ring (by omega)) rfl rfl hl.1 ⟨⟨Nat.le_of_ble_eq_true rfl, Nat.le_of_ble_eq_true rfl⟩, Nat.le_of_ble_eq_true rfl, Nat.le_refl _, Nat.le_refl _⟩ rfl dX11_cuts_58 (fun z_58 h_58 => ?_)
              have h_58 : z_58 = rA u i_2 ∧ -10000000 ≤ z_58 ∧ z_58 ≤ 10000000 := h_58
              exact W.iret SS.1 SS.2.1 hr (fun t0 ht hW => ⟨⟨_, u, rfl, ⟨z_58, rfl, (p0)⟩, by show va_P D.1 j_cl (cW D q u) t0.heap; rw [ht]; first | exact hP | (simp only [sC_id, sX_id, sY_id, sH_id, sT_id, sV_id]; exact hP)⟩, hS.F ht⟩) hS.2.2 dX11_cuts_61 hlk
          · skip
            refine lv_aload_n SS.1 SS.2.1 dX11_cuts_41 rfl (lv_at hl 0 rfl) ?_
            refine j_get SS hG hP (8 + 5 * i_2) (v := .ref (q (9 + 5 * i_2))) (C := RX10) (T := TX10) (N := 3) (cw_shape (by omega)) rfl inX10 0 (by decide) (ref := "GridPolygons$Shape") kw_151 rfl rfl dX11_cuts_42 ?_
            refine j_sRi SS (As := [.ref (q (9 + 5 * i_2))]) (rest := []) (c_X11_segmentsOf l D q u i_2 (by omega)  (show RB 40 u i_2 from (CI_40 p0 (by omega)))) mf_X11_segmentsOf kw_862 hG hP rfl hl.1 ⟨⟨Nat.le_of_ble_eq_true rfl, Nat.le_of_ble_eq_true rfl⟩, Nat.le_of_ble_eq_true rfl, Nat.le_refl _, Nat.le_refl _⟩ rfl dX11_cuts_45 (fun z_45 h_45 => ?_)
            have h_45 : z_45 = (3 * rA u i_2 + rE u i_2).tdiv 2 ∧ -50000000 ≤ z_45 ∧ z_45 ≤ 50000000 := h_45
            exact W.iret SS.1 SS.2.1 hr (fun t0 ht hW => ⟨⟨_, u, rfl, ⟨z_45, rfl, (p0)⟩, by show va_P D.1 j_cl (cW D q u) t0.heap; rw [ht]; first | exact hP | (simp only [sC_id, sX_id, sY_id, sH_id, sT_id, sV_id]; exact hP)⟩, hS.F ht⟩) hS.2.2 dX11_cuts_48 hlk
        · skip
          refine j_bipush SS dX11_cuts_33 (by decide +kernel) ?_
          exact W.iret SS.1 SS.2.1 hr (fun t0 ht hW => ⟨⟨_, u, rfl, ⟨(-2), rfl, (p0)⟩, by show va_P D.1 j_cl (cW D q u) t0.heap; rw [ht]; first | exact hP | (simp only [sC_id, sX_id, sY_id, sH_id, sT_id, sV_id]; exact hP)⟩, hS.F ht⟩) hS.2.2 dX11_cuts_35 hlk
      · skip
        refine j_iconst SS dX11_cuts_19 ?_
        exact W.iret SS.1 SS.2.1 hr (fun t0 ht hW => ⟨⟨_, u, rfl, ⟨(-1), rfl, (p0)⟩, by show va_P D.1 j_cl (cW D q u) t0.heap; rw [ht]; first | exact hP | (simp only [sC_id, sX_id, sY_id, sH_id, sT_id, sV_id]; exact hP)⟩, hS.F ht⟩) hS.2.2 dX11_cuts_20 hlk
  · skip
    refine lv_astore_nN (lv' := [(3, .null), (0, .ref (q 0)), (1, .int (J s)), (2, .int (J what))]) SS.1 SS.2.1 dX11_cuts_5 rfl hl (by decide) rfl (fun ls hl => ?_)
    refine lv_aload_nN SS.1 SS.2.1 dX11_cuts_6 rfl (lv_at hl 0 rfl) ?_
    refine lv_ifnullN SS.1 SS.2.1 (tgt := 19) dX11_cuts_7 (by decide) ?_
    refine j_iconst SS dX11_cuts_19 ?_
    exact W.iret SS.1 SS.2.1 hr (fun t0 ht hW => ⟨⟨_, u, rfl, ⟨(-1), rfl, (p0)⟩, by show va_P D.1 j_cl (cW D q u) t0.heap; rw [ht]; first | exact hP | (simp only [sC_id, sX_id, sY_id, sH_id, sT_id, sV_id]; exact hP)⟩, hS.F ht⟩) hS.2.2 dX11_cuts_20 hlk

set_option maxHeartbeats 4000000 in
set_option maxRecDepth 100000 in
theorem c_X11_cut (l : Launch) (D : JD) (q : Nat → Nat) (u : CS) (A : Nat → Prop) (hD : va_D A (cW D q u)) (s : Int) (i : Int) (what : Int) (p0 : CI u) (p1 : -2147483648 ≤ s ∧ s ≤ 2147483647) (p2 : -2147483648 ≤ i ∧ i ≤ 2147483647) (p3 : -2147483648 ≤ what ∧ what ≤ 2147483647) : Met l yX11_cut (jw yX11_cut cX11_cut 5 (some .int)) (jr 7 149) (jP [.ref (q 0), .int (J s), .int (J i), .int (J what)] D (fun H => va_P D.1 j_cl (cW D q u) H)) (jWi (fun z u' => CI u') (fun u' H => va_P D.1 j_cl (cW D q u') H) A) 0 0 A := by
  refine Met.ofW (cc := cX11_cut) (maxL := 5) (ret := (some .int)) (by decide) rfl ?_
  intro pr en st mi args below meth co s₁ B hml hv
  obtain ⟨rfl, hG, hP⟩ := hv
  have hr := B.returns
  have hlk := B.notSynchronized
  have SS : jS pr mi co cX11_cut 5 st _ RX11 := ⟨B.exec, B.bytes, hml, findClass_of_methodNamed B.named, fun w hw => atoms_spec (ws := (jw yX11_cut cX11_cut 5 (some .int))) B.pre w (List.mem_cons_of_mem _ hw)⟩
  have hl := lv_entry ([.ref (q 0), .int (J s), .int (J i), .int (J what)]) (n := 5) (Nat.le_of_ble_eq_true rfl)
  rw [lg_entry_eq]
  generalize (lg_sl ([.ref (q 0), .int (J s), .int (J i), .int (J what)]) ++ List.replicate (5 - (lg_sl ([.ref (q 0), .int (J s), .int (J i), .int (J what)])).length) Slot.unset).toArray = ls at hl ⊢
  have hl : lv_has ls 5 [(0, .ref (q 0)), (1, .int (J s)), (2, .int (J i)), (3, .int (J what))] := hl
  have hS : va_S A st.heap st.heap [] := va_S.rf
  refine lv_aload_n SS.1 SS.2.1 dX11_cut_0 rfl (lv_at hl 0 rfl) ?_
  refine lv_iload_n SS.1 SS.2.1 dX11_cut_1 rfl (lv_at hl 1 rfl) ?_
  refine j_vSh SS (As := [.int (J s)]) (rest := []) (c_X11_shapeAt l D q u  s (show -2147483648 ≤ s ∧ s ≤ 2147483647 from (p1))) mf_X11_shapeAt kw_414 hG hP hP (ci := 11) (q0 := 0) rfl rfl rfl rfl hl.1 ⟨⟨Nat.le_of_ble_eq_true rfl, Nat.le_of_ble_eq_true rfl⟩, Nat.le_of_ble_eq_true rfl, Nat.le_refl _, Nat.le_refl _⟩ rfl dX11_cut_2 (fun i_2 hi_2 hz_2 => ?_) (fun hn_2 => ?_)
  · skip
    have hI2 := CI_s p0 (show i_2 < 8 by omega)
    have hI2c := hI2.1
    have hrl2 := rl_s (show i_2 < 8 by omega)
    refine lv_astore (lv' := [(4, .ref (q (8 + 5 * i_2))), (0, .ref (q 0)), (1, .int (J s)), (2, .int (J i)), (3, .int (J what))]) SS.1 SS.2.1 dX11_cut_5 hl (by decide) rfl (fun ls hl => ?_)
    refine lv_aload SS.1 SS.2.1 dX11_cut_7 (lv_at hl 0 rfl) ?_
    refine lv_ifnull SS.1 SS.2.1 dX11_cut_9 ?_
    refine lv_iload_n SS.1 SS.2.1 dX11_cut_12 rfl (lv_at hl 3 rfl) ?_
    refine j_if_lt SS (tgt := 21) (x := i) dX11_cut_13 (by decide) (by omega) (fun c_13 => ?_) (fun c_13 => ?_)
    · skip
      refine j_iconst SS dX11_cut_21 ?_
      exact W.iret SS.1 SS.2.1 hr (fun t0 ht hW => ⟨⟨_, u, rfl, ⟨(-1), rfl, (p0)⟩, by show va_P D.1 j_cl (cW D q u) t0.heap; rw [ht]; first | exact hP | (simp only [sC_id, sX_id, sY_id, sH_id, sT_id, sV_id]; exact hP)⟩, hS.F ht⟩) hS.2.2 dX11_cut_22 hlk
    · skip
      refine lv_iload_n SS.1 SS.2.1 dX11_cut_16 rfl (lv_at hl 4 rfl) ?_
      refine j_iconst SS dX11_cut_17 ?_
      refine j_icmp_ge SS (tgt := 23) (x := what) (y := (-1)) dX11_cut_18 (by decide) (by omega) (by decide) (fun c_18 => ?_) (fun c_18 => ?_)
      · skip
        refine lv_aload SS.1 SS.2.1 dX11_cut_23 (lv_at hl 0 rfl) ?_
        refine j_get SS hG hP (8 + 5 * i_2) (v := .ref (q (9 + 5 * i_2))) (C := RX10) (T := TX10) (N := 3) (cw_shape (by omega)) rfl inX10 0 (by decide) (ref := "GridPolygons$Shape") kw_151 rfl rfl dX11_cut_25 ?_
        refine j_bipush SS dX11_cut_28 (by decide +kernel) ?_
        refine j_sRi SS (As := [.ref (q (9 + 5 * i_2)), .int (J 12)]) (rest := []) (c_X11_hasAtMost l D q u i_2 (by omega) 12 (show RB 40 u i_2 from (CI_40 p0 (by omega))) (show -2147483648 ≤ (12 : Int) ∧ (12 : Int) ≤ 2147483647 from (by omega))) mf_X11_hasAtMost kw_859 hG hP rfl hl.1 ⟨⟨Nat.le_of_ble_eq_true rfl, Nat.le_of_ble_eq_true rfl⟩, Nat.le_of_ble_eq_true rfl, Nat.le_refl _, Nat.le_refl _⟩ rfl dX11_cut_30 (fun z_30 h_30 => ?_)
        have h_30 : (z_30 = 1 ∧ 3 ≤ (u.1.2.2.1 i_2) ∧ rE u i_2 + rI u i_2 ≤ (12 : Int)) ∨ z_30 = 0 := h_30
        refine j_if_ne SS (tgt := 39) (x := z_30) dX11_cut_33 (by decide) (by omega) (fun c_33 => ?_) (fun c_33 => ?_)
        · skip
          refine lv_iload_n SS.1 SS.2.1 dX11_cut_39 rfl (lv_at hl 4 rfl) ?_
          refine lv_aload SS.1 SS.2.1 dX11_cut_40 (lv_at hl 0 rfl) ?_
          refine j_get SS hG hP (8 + 5 * i_2) (v := .ref (q (9 + 5 * i_2))) (C := RX10) (T := TX10) (N := 3) (cw_shape (by omega)) rfl inX10 0 (by decide) (ref := "GridPolygons$Shape") kw_151 rfl rfl dX11_cut_42 ?_
          refine j_sRi SS (As := [.ref (q (9 + 5 * i_2))]) (rest := [.int (J what)]) (c_X11_segmentsOf l D q u i_2 (by omega)  (show RB 40 u i_2 from (CI_40 p0 (by omega)))) mf_X11_segmentsOf kw_862 hG hP rfl hl.1 ⟨⟨Nat.le_of_ble_eq_true rfl, Nat.le_of_ble_eq_true rfl⟩, Nat.le_of_ble_eq_true rfl, Nat.le_refl _, Nat.le_refl _⟩ rfl dX11_cut_45 (fun z_45 h_45 => ?_)
          have h_45 : z_45 = (3 * rA u i_2 + rE u i_2).tdiv 2 ∧ -50000000 ≤ z_45 ∧ z_45 ≤ 50000000 := h_45
          refine j_icmp_lt SS (tgt := 53) (x := what) (y := z_45) dX11_cut_48 (by decide) (by omega) (by omega) (fun c_48 => ?_) (fun c_48 => ?_)
          · skip
            refine lv_aload_n SS.1 SS.2.1 dX11_cut_53 rfl (lv_at hl 1 rfl) ?_
            refine j_get SS hG hP 0 (v := .ref (q 6)) (C := RX11) (T := TX11) (N := 8) rfl rfl inX11 5 (by decide) (ref := "GridPolygons") kw_390 rfl rfl dX11_cut_54 ?_
            refine lv_aload SS.1 SS.2.1 dX11_cut_57 (lv_at hl 0 rfl) ?_
            refine j_vWi SS (As := [.ref (q (8 + 5 * i_2))]) (rest := []) (c_X2_build l D q u A (cW_D hD) i_2 (by omega)  (show RB 40 u i_2 from (CI_40 p0 (by omega))) (show RB 40 u 9 from (p0.2.1.2.1)) (show ∀ k : Nat, 0 ≤ (u.2.1 2) k ∧ (u.2.1 2) k ≤ 12 from (fun k => (p0.2.2.2.2.2.1.2.2.1 k).1)) (show ∀ k : Nat, 0 ≤ (u.2.1 3) k ∧ (u.2.1 3) k ≤ 12 from (fun k => (p0.2.2.2.2.2.1.2.2.1 k).2)) (show ∀ k : Nat, -1 ≤ (u.2.1 4) k ∧ (u.2.1 4) k ≤ 63 from (p0.2.2.2.2.2.1.2.2.2)) (show 0 ≤ (u.2.2.2 20) ∧ (u.2.2.2 20) ≤ 63 from (p0.2.2.2.2.2.1.1)) (show 0 ≤ (u.2.2.2 21) ∧ (u.2.2.2 21) ≤ 756 from (p0.2.2.2.2.2.1.2.1)) (show 0 ≤ (u.2.2.2 22) ∧ (u.2.2.2 22) ≤ 1500 from (p0.2.2.2.2.2.2.1.1)) (show ∀ k : Nat, 0 ≤ (u.2.1 8) k ∧ (u.2.1 8) k ≤ 1500 from (p0.2.2.2.2.2.2.1.2.2.2)) (show (u.2.2.2 23) = 0 ∨ (u.2.2.2 23) = 1 from (p0.2.2.2.2.2.2.1.2.1)) (show -2147483648 ≤ (u.2.2.2 24) ∧ (u.2.2.2 24) ≤ 2147483647 from (p0.2.2.2.2.2.2.1.2.2.1)) (show -2147483648 ≤ (u.1.2.2.2.2 i_2) ∧ (u.1.2.2.2.2 i_2) ≤ 2147483647 from ((p0.1 i_2 (by omega)).2.2))) mf_X2_build kw_865 hG hP hP (ci := 2) (q0 := 6) rfl rfl rfl hS (fun _ h => h) rfl hl.1 ⟨⟨Nat.le_of_ble_eq_true rfl, Nat.le_of_ble_eq_true rfl⟩, Nat.le_of_ble_eq_true rfl, Nat.le_refl _, Nat.le_refl _⟩ rfl dX11_cut_59 (fun z_59 u59 H locs h_59 hP _ hS => ?_)
            obtain ⟨n_59, f_59, g_59, ls9_59, gr9_59, nu9_59, w3_59, w4_59, w5_59, v20_59, v21_59, st2_59, fa_59, pc9_59, v22_59, sp_59, v24_59, rfl, h_59⟩ := h_59
            have hP : va_P D.1 j_cl (cW D q (sY (sX (sV (sV (sV (sV (sV (sL (sL (sL (sL (sI (sI (sI (sI (sI (sC u 9 n_59) 2 ls9_59) 3 gr9_59) 4 nu9_59) 7 fa_59) 8 pc9_59) 2 st2_59) 3 w3_59) 4 w4_59) 5 w5_59) 20 v20_59) 21 v21_59) 22 v22_59) 23 sp_59) 24 v24_59) 9 f_59) 9 g_59)) H := hP
            have h_59 : (z_59 = 0 ∨ z_59 = 1) ∧ ((0 ≤ n_59 ∧ n_59 ≤ 12) ∧ RV 40 f_59 g_59) ∧ (∀ k : Nat, 0 ≤ ls9_59 k ∧ ls9_59 k ≤ 12) ∧ (∀ k : Nat, 0 ≤ gr9_59 k ∧ gr9_59 k ≤ 12) ∧ (∀ k : Nat, -1 ≤ nu9_59 k ∧ nu9_59 k ≤ 63) ∧ ((0 ≤ v20_59 ∧ v20_59 ≤ 63) ∧ 0 ≤ v21_59 ∧ v21_59 ≤ 756) ∧ ((0 ≤ v22_59 ∧ v22_59 ≤ 1500) ∧ (∀ k : Nat, 0 ≤ pc9_59 k ∧ pc9_59 k ≤ 1500) ∧ (sp_59 = 0 ∨ sp_59 = 1)) ∧ -2147483648 ≤ v24_59 ∧ v24_59 ≤ 2147483647 := h_59
            obtain ⟨hz9, hq9⟩ := h_59
            have hCI : CI (sY (sX (sV (sV (sV (sV (sV (sL (sL (sL (sL (sI (sI (sI (sI (sI (sC u 9 n_59) 2 ls9_59) 3 gr9_59) 4 nu9_59) 7 fa_59) 8 pc9_59) 2 st2_59) 3 w3_59) 4 w4_59) 5 w5_59) 20 v20_59) 21 v21_59) 22 v22_59) 23 sp_59) 24 v24_59) 9 f_59) 9 g_59) := CI_cu p0 hq9
            refine j_if_ne SS (tgt := 68) (x := z_59) dX11_cut_62 (by decide) (by omega) (fun c_62 => ?_) (fun c_62 => ?_)
            · skip
              refine lv_iload_n SS.1 SS.2.1 dX11_cut_68 rfl (lv_at hl 3 rfl) ?_
              refine lv_aload_n SS.1 SS.2.1 dX11_cut_69 rfl (lv_at hl 1 rfl) ?_
              refine j_get SS hG hP 0 (v := .ref (q 6)) (C := RX11) (T := TX11) (N := 8) rfl rfl inX11 5 (by decide) (ref := "GridPolygons") kw_390 rfl rfl dX11_cut_70 ?_
              refine j_get SS hG hP 6 (v := .int (J v22_59)) (C := RX2) (T := TX2) (N := 7) rfl rfl inX2 4 (by decide) (ref := "GridPolygons$Cuts") kw_345 rfl rfl dX11_cut_73 ?_
              refine j_icmp_lt SS (tgt := 81) (x := i) (y := v22_59) dX11_cut_76 (by decide) (by omega) (by omega) (fun c_76 => ?_) (fun c_76 => ?_)
              · skip
                refine lv_iload_n SS.1 SS.2.1 dX11_cut_81 rfl (lv_at hl 4 rfl) ?_
                refine j_iconst SS dX11_cut_82 ?_
                refine j_icmp_ne SS (tgt := 97) (x := what) (y := (-1)) dX11_cut_83 (by decide) (by omega) (by decide) (fun c_83 => ?_) (fun c_83 => ?_)
                · skip
                  refine lv_aload_n SS.1 SS.2.1 dX11_cut_97 rfl (lv_at hl 1 rfl) ?_
                  refine j_get SS hG hP 0 (v := .ref (q 6)) (C := RX11) (T := TX11) (N := 8) rfl rfl inX11 5 (by decide) (ref := "GridPolygons") kw_390 rfl rfl dX11_cut_98 ?_
                  refine lv_iload_n SS.1 SS.2.1 dX11_cut_101 rfl (lv_at hl 3 rfl) ?_
                  refine lv_iload_n SS.1 SS.2.1 dX11_cut_102 rfl (lv_at hl 4 rfl) ?_
                  refine j_vRi SS (As := [.int (J i), .int (J what)]) (rest := []) (c_X2_segmentAt l D q (sY (sX (sV (sV (sV (sV (sV (sL (sL (sL (sL (sI (sI (sI (sI (sI (sC u 9 n_59) 2 ls9_59) 3 gr9_59) 4 nu9_59) 7 fa_59) 8 pc9_59) 2 st2_59) 3 w3_59) 4 w4_59) 5 w5_59) 20 v20_59) 21 v21_59) 22 v22_59) 23 sp_59) 24 v24_59) 9 f_59) 9 g_59)  i what (show -2147483648 ≤ i ∧ i ≤ 2147483647 from (by omega)) (show 0 ≤ what ∧ what ≤ 2147483647 from (by omega)) (show 0 ≤ v20_59 ∧ v20_59 ≤ 63 from (by omega))) mf_X2_segmentAt kw_963 hG hP hP (ci := 2) (q0 := 6) rfl rfl rfl rfl hl.1 ⟨⟨Nat.le_of_ble_eq_true rfl, Nat.le_of_ble_eq_true rfl⟩, Nat.le_of_ble_eq_true rfl, Nat.le_refl _, Nat.le_refl _⟩ rfl dX11_cut_103 (fun z_103 h_103 => ?_)
                  have h_103 : True := h_103
                  exact W.iret SS.1 SS.2.1 hr (fun t0 ht hW => ⟨⟨_, (sY (sX (sV (sV (sV (sV (sV (sL (sL (sL (sL (sI (sI (sI (sI (sI (sC u 9 n_59) 2 ls9_59) 3 gr9_59) 4 nu9_59) 7 fa_59) 8 pc9_59) 2 st2_59) 3 w3_59) 4 w4_59) 5 w5_59) 20 v20_59) 21 v21_59) 22 v22_59) 23 sp_59) 24 v24_59) 9 f_59) 9 g_59), rfl, ⟨z_103, rfl, (hCI)⟩, by show va_P D.1 j_cl (cW D q (sY (sX (sV (sV (sV (sV (sV (sL (sL (sL (sL (sI (sI (sI (sI (sI (sC u 9 n_59) 2 ls9_59) 3 gr9_59) 4 nu9_59) 7 fa_59) 8 pc9_59) 2 st2_59) 3 w3_59) 4 w4_59) 5 w5_59) 20 v20_59) 21 v21_59) 22 v22_59) 23 sp_59) 24 v24_59) 9 f_59) 9 g_59)) t0.heap; rw [ht]; first | exact hP | (simp only [sC_id, sX_id, sY_id, sH_id, sT_id, sV_id]; exact hP)⟩, hS.F ht⟩) hS.2.2 dX11_cut_106 hlk
                · skip
                  refine lv_aload_n SS.1 SS.2.1 dX11_cut_86 rfl (lv_at hl 1 rfl) ?_
                  refine j_get SS hG hP 0 (v := .ref (q 6)) (C := RX11) (T := TX11) (N := 8) rfl rfl inX11 5 (by decide) (ref := "GridPolygons") kw_390 rfl rfl dX11_cut_87 ?_
                  refine lv_iload_n SS.1 SS.2.1 dX11_cut_90 rfl (lv_at hl 3 rfl) ?_
                  refine j_vRi SS (As := [.int (J i)]) (rest := []) (c_X2_farOf l D q (sY (sX (sV (sV (sV (sV (sV (sL (sL (sL (sL (sI (sI (sI (sI (sI (sC u 9 n_59) 2 ls9_59) 3 gr9_59) 4 nu9_59) 7 fa_59) 8 pc9_59) 2 st2_59) 3 w3_59) 4 w4_59) 5 w5_59) 20 v20_59) 21 v21_59) 22 v22_59) 23 sp_59) 24 v24_59) 9 f_59) 9 g_59)  i (show -2147483648 ≤ i ∧ i ≤ 2147483647 from (by omega))) mf_X2_farOf kw_962 hG hP hP (ci := 2) (q0 := 6) rfl rfl rfl rfl hl.1 ⟨⟨Nat.le_of_ble_eq_true rfl, Nat.le_of_ble_eq_true rfl⟩, Nat.le_of_ble_eq_true rfl, Nat.le_refl _, Nat.le_refl _⟩ rfl dX11_cut_91 (fun z_91 h_91 => ?_)
                  have h_91 : True := h_91
                  refine lv_goto (tgt := 106) SS.1 SS.2.1 dX11_cut_94 (by decide) ?_
                  exact W.iret SS.1 SS.2.1 hr (fun t0 ht hW => ⟨⟨_, (sY (sX (sV (sV (sV (sV (sV (sL (sL (sL (sL (sI (sI (sI (sI (sI (sC u 9 n_59) 2 ls9_59) 3 gr9_59) 4 nu9_59) 7 fa_59) 8 pc9_59) 2 st2_59) 3 w3_59) 4 w4_59) 5 w5_59) 20 v20_59) 21 v21_59) 22 v22_59) 23 sp_59) 24 v24_59) 9 f_59) 9 g_59), rfl, ⟨z_91, rfl, (hCI)⟩, by show va_P D.1 j_cl (cW D q (sY (sX (sV (sV (sV (sV (sV (sL (sL (sL (sL (sI (sI (sI (sI (sI (sC u 9 n_59) 2 ls9_59) 3 gr9_59) 4 nu9_59) 7 fa_59) 8 pc9_59) 2 st2_59) 3 w3_59) 4 w4_59) 5 w5_59) 20 v20_59) 21 v21_59) 22 v22_59) 23 sp_59) 24 v24_59) 9 f_59) 9 g_59)) t0.heap; rw [ht]; first | exact hP | (simp only [sC_id, sX_id, sY_id, sH_id, sT_id, sV_id]; exact hP)⟩, hS.F ht⟩) hS.2.2 dX11_cut_106 hlk
              · skip
                refine j_iconst SS dX11_cut_79 ?_
                exact W.iret SS.1 SS.2.1 hr (fun t0 ht hW => ⟨⟨_, (sY (sX (sV (sV (sV (sV (sV (sL (sL (sL (sL (sI (sI (sI (sI (sI (sC u 9 n_59) 2 ls9_59) 3 gr9_59) 4 nu9_59) 7 fa_59) 8 pc9_59) 2 st2_59) 3 w3_59) 4 w4_59) 5 w5_59) 20 v20_59) 21 v21_59) 22 v22_59) 23 sp_59) 24 v24_59) 9 f_59) 9 g_59), rfl, ⟨(-1), rfl, (hCI)⟩, by show va_P D.1 j_cl (cW D q (sY (sX (sV (sV (sV (sV (sV (sL (sL (sL (sL (sI (sI (sI (sI (sI (sC u 9 n_59) 2 ls9_59) 3 gr9_59) 4 nu9_59) 7 fa_59) 8 pc9_59) 2 st2_59) 3 w3_59) 4 w4_59) 5 w5_59) 20 v20_59) 21 v21_59) 22 v22_59) 23 sp_59) 24 v24_59) 9 f_59) 9 g_59)) t0.heap; rw [ht]; first | exact hP | (simp only [sC_id, sX_id, sY_id, sH_id, sT_id, sV_id]; exact hP)⟩, hS.F ht⟩) hS.2.2 dX11_cut_80 hlk
            · skip
              refine j_bipush SS dX11_cut_65 (by decide +kernel) ?_
              exact W.iret SS.1 SS.2.1 hr (fun t0 ht hW => ⟨⟨_, (sY (sX (sV (sV (sV (sV (sV (sL (sL (sL (sL (sI (sI (sI (sI (sI (sC u 9 n_59) 2 ls9_59) 3 gr9_59) 4 nu9_59) 7 fa_59) 8 pc9_59) 2 st2_59) 3 w3_59) 4 w4_59) 5 w5_59) 20 v20_59) 21 v21_59) 22 v22_59) 23 sp_59) 24 v24_59) 9 f_59) 9 g_59), rfl, ⟨(-5), rfl, (hCI)⟩, by show va_P D.1 j_cl (cW D q (sY (sX (sV (sV (sV (sV (sV (sL (sL (sL (sL (sI (sI (sI (sI (sI (sC u 9 n_59) 2 ls9_59) 3 gr9_59) 4 nu9_59) 7 fa_59) 8 pc9_59) 2 st2_59) 3 w3_59) 4 w4_59) 5 w5_59) 20 v20_59) 21 v21_59) 22 v22_59) 23 sp_59) 24 v24_59) 9 f_59) 9 g_59)) t0.heap; rw [ht]; first | exact hP | (simp only [sC_id, sX_id, sY_id, sH_id, sT_id, sV_id]; exact hP)⟩, hS.F ht⟩) hS.2.2 dX11_cut_67 hlk
          · skip
            refine j_iconst SS dX11_cut_51 ?_
            exact W.iret SS.1 SS.2.1 hr (fun t0 ht hW => ⟨⟨_, u, rfl, ⟨(-1), rfl, (p0)⟩, by show va_P D.1 j_cl (cW D q u) t0.heap; rw [ht]; first | exact hP | (simp only [sC_id, sX_id, sY_id, sH_id, sT_id, sV_id]; exact hP)⟩, hS.F ht⟩) hS.2.2 dX11_cut_52 hlk
        · skip
          refine j_bipush SS dX11_cut_36 (by decide +kernel) ?_
          exact W.iret SS.1 SS.2.1 hr (fun t0 ht hW => ⟨⟨_, u, rfl, ⟨(-2), rfl, (p0)⟩, by show va_P D.1 j_cl (cW D q u) t0.heap; rw [ht]; first | exact hP | (simp only [sC_id, sX_id, sY_id, sH_id, sT_id, sV_id]; exact hP)⟩, hS.F ht⟩) hS.2.2 dX11_cut_38 hlk
      · skip
        refine j_iconst SS dX11_cut_21 ?_
        exact W.iret SS.1 SS.2.1 hr (fun t0 ht hW => ⟨⟨_, u, rfl, ⟨(-1), rfl, (p0)⟩, by show va_P D.1 j_cl (cW D q u) t0.heap; rw [ht]; first | exact hP | (simp only [sC_id, sX_id, sY_id, sH_id, sT_id, sV_id]; exact hP)⟩, hS.F ht⟩) hS.2.2 dX11_cut_22 hlk
  · skip
    refine lv_astoreN (lv' := [(4, .null), (0, .ref (q 0)), (1, .int (J s)), (2, .int (J i)), (3, .int (J what))]) SS.1 SS.2.1 dX11_cut_5 hl (by decide) rfl (fun ls hl => ?_)
    refine lv_aloadN SS.1 SS.2.1 dX11_cut_7 (lv_at hl 0 rfl) ?_
    refine lv_ifnullN SS.1 SS.2.1 (tgt := 21) dX11_cut_9 (by decide) ?_
    refine j_iconst SS dX11_cut_21 ?_
    exact W.iret SS.1 SS.2.1 hr (fun t0 ht hW => ⟨⟨_, u, rfl, ⟨(-1), rfl, (p0)⟩, by show va_P D.1 j_cl (cW D q u) t0.heap; rw [ht]; first | exact hP | (simp only [sC_id, sX_id, sY_id, sH_id, sT_id, sV_id]; exact hP)⟩, hS.F ht⟩) hS.2.2 dX11_cut_22 hlk

set_option maxHeartbeats 4000000 in
set_option maxRecDepth 100000 in
theorem c_X11_flips (l : Launch) (D : JD) (q : Nat → Nat) (u : CS) (A : Nat → Prop) (hD : va_D A (cW D q u)) (s : Int) (i : Int) (p0 : CI u) (p1 : -2147483648 ≤ s ∧ s ≤ 2147483647) (p2 : -2147483648 ≤ i ∧ i ≤ 2147483647) : Met l yX11_flips (jw yX11_flips cX11_flips 4 (some .int)) (jr 7 149) (jP [.ref (q 0), .int (J s), .int (J i)] D (fun H => va_P D.1 j_cl (cW D q u) H)) (jWi (fun z u' => CI u') (fun u' H => va_P D.1 j_cl (cW D q u') H) A) 0 0 A := by
  refine Met.ofW (cc := cX11_flips) (maxL := 4) (ret := (some .int)) (by decide) rfl ?_
  intro pr en st mi args below meth co s₁ B hml hv
  obtain ⟨rfl, hG, hP⟩ := hv
  have hr := B.returns
  have hlk := B.notSynchronized
  have SS : jS pr mi co cX11_flips 4 st _ RX11 := ⟨B.exec, B.bytes, hml, findClass_of_methodNamed B.named, fun w hw => atoms_spec (ws := (jw yX11_flips cX11_flips 4 (some .int))) B.pre w (List.mem_cons_of_mem _ hw)⟩
  have hl := lv_entry ([.ref (q 0), .int (J s), .int (J i)]) (n := 4) (Nat.le_of_ble_eq_true rfl)
  rw [lg_entry_eq]
  generalize (lg_sl ([.ref (q 0), .int (J s), .int (J i)]) ++ List.replicate (4 - (lg_sl ([.ref (q 0), .int (J s), .int (J i)])).length) Slot.unset).toArray = ls at hl ⊢
  have hl : lv_has ls 4 [(0, .ref (q 0)), (1, .int (J s)), (2, .int (J i))] := hl
  have hS : va_S A st.heap st.heap [] := va_S.rf
  refine lv_aload_n SS.1 SS.2.1 dX11_flips_0 rfl (lv_at hl 0 rfl) ?_
  refine lv_iload_n SS.1 SS.2.1 dX11_flips_1 rfl (lv_at hl 1 rfl) ?_
  refine j_vSh SS (As := [.int (J s)]) (rest := []) (c_X11_shapeAt l D q u  s (show -2147483648 ≤ s ∧ s ≤ 2147483647 from (p1))) mf_X11_shapeAt kw_414 hG hP hP (ci := 11) (q0 := 0) rfl rfl rfl rfl hl.1 ⟨⟨Nat.le_of_ble_eq_true rfl, Nat.le_of_ble_eq_true rfl⟩, Nat.le_of_ble_eq_true rfl, Nat.le_refl _, Nat.le_refl _⟩ rfl dX11_flips_2 (fun i_2 hi_2 hz_2 => ?_) (fun hn_2 => ?_)
  · skip
    have hI2 := CI_s p0 (show i_2 < 8 by omega)
    have hI2c := hI2.1
    have hrl2 := rl_s (show i_2 < 8 by omega)
    refine lv_astore_n (lv' := [(3, .ref (q (8 + 5 * i_2))), (0, .ref (q 0)), (1, .int (J s)), (2, .int (J i))]) SS.1 SS.2.1 dX11_flips_5 rfl hl (by decide) rfl (fun ls hl => ?_)
    refine lv_aload_n SS.1 SS.2.1 dX11_flips_6 rfl (lv_at hl 0 rfl) ?_
    refine lv_ifnull SS.1 SS.2.1 dX11_flips_7 ?_
    refine lv_iload_n SS.1 SS.2.1 dX11_flips_10 rfl (lv_at hl 3 rfl) ?_
    refine j_if_ge SS (tgt := 16) (x := i) dX11_flips_11 (by decide) (by omega) (fun c_11 => ?_) (fun c_11 => ?_)
    · skip
      refine lv_aload_n SS.1 SS.2.1 dX11_flips_16 rfl (lv_at hl 0 rfl) ?_
      refine j_get SS hG hP (8 + 5 * i_2) (v := .ref (q (9 + 5 * i_2))) (C := RX10) (T := TX10) (N := 3) (cw_shape (by omega)) rfl inX10 0 (by decide) (ref := "GridPolygons$Shape") kw_151 rfl rfl dX11_flips_17 ?_
      refine j_bipush SS dX11_flips_20 (by decide +kernel) ?_
      refine j_sRi SS (As := [.ref (q (9 + 5 * i_2)), .int (J 12)]) (rest := []) (c_X11_hasAtMost l D q u i_2 (by omega) 12 (show RB 40 u i_2 from (CI_40 p0 (by omega))) (show -2147483648 ≤ (12 : Int) ∧ (12 : Int) ≤ 2147483647 from (by omega))) mf_X11_hasAtMost kw_859 hG hP rfl hl.1 ⟨⟨Nat.le_of_ble_eq_true rfl, Nat.le_of_ble_eq_true rfl⟩, Nat.le_of_ble_eq_true rfl, Nat.le_refl _, Nat.le_refl _⟩ rfl dX11_flips_22 (fun z_22 h_22 => ?_)
      have h_22 : (z_22 = 1 ∧ 3 ≤ (u.1.2.2.1 i_2) ∧ rE u i_2 + rI u i_2 ≤ (12 : Int)) ∨ z_22 = 0 := h_22
      refine j_if_ne SS (tgt := 31) (x := z_22) dX11_flips_25 (by decide) (by omega) (fun c_25 => ?_) (fun c_25 => ?_)
      · skip
        refine lv_aload_n SS.1 SS.2.1 dX11_flips_31 rfl (lv_at hl 1 rfl) ?_
        refine j_get SS hG hP 0 (v := .ref (q 6)) (C := RX11) (T := TX11) (N := 8) rfl rfl inX11 5 (by decide) (ref := "GridPolygons") kw_390 rfl rfl dX11_flips_32 ?_
        refine lv_aload_n SS.1 SS.2.1 dX11_flips_35 rfl (lv_at hl 0 rfl) ?_
        refine j_vWi SS (As := [.ref (q (8 + 5 * i_2))]) (rest := []) (c_X2_build l D q u A (cW_D hD) i_2 (by omega)  (show RB 40 u i_2 from (CI_40 p0 (by omega))) (show RB 40 u 9 from (p0.2.1.2.1)) (show ∀ k : Nat, 0 ≤ (u.2.1 2) k ∧ (u.2.1 2) k ≤ 12 from (fun k => (p0.2.2.2.2.2.1.2.2.1 k).1)) (show ∀ k : Nat, 0 ≤ (u.2.1 3) k ∧ (u.2.1 3) k ≤ 12 from (fun k => (p0.2.2.2.2.2.1.2.2.1 k).2)) (show ∀ k : Nat, -1 ≤ (u.2.1 4) k ∧ (u.2.1 4) k ≤ 63 from (p0.2.2.2.2.2.1.2.2.2)) (show 0 ≤ (u.2.2.2 20) ∧ (u.2.2.2 20) ≤ 63 from (p0.2.2.2.2.2.1.1)) (show 0 ≤ (u.2.2.2 21) ∧ (u.2.2.2 21) ≤ 756 from (p0.2.2.2.2.2.1.2.1)) (show 0 ≤ (u.2.2.2 22) ∧ (u.2.2.2 22) ≤ 1500 from (p0.2.2.2.2.2.2.1.1)) (show ∀ k : Nat, 0 ≤ (u.2.1 8) k ∧ (u.2.1 8) k ≤ 1500 from (p0.2.2.2.2.2.2.1.2.2.2)) (show (u.2.2.2 23) = 0 ∨ (u.2.2.2 23) = 1 from (p0.2.2.2.2.2.2.1.2.1)) (show -2147483648 ≤ (u.2.2.2 24) ∧ (u.2.2.2 24) ≤ 2147483647 from (p0.2.2.2.2.2.2.1.2.2.1)) (show -2147483648 ≤ (u.1.2.2.2.2 i_2) ∧ (u.1.2.2.2.2 i_2) ≤ 2147483647 from ((p0.1 i_2 (by omega)).2.2))) mf_X2_build kw_865 hG hP hP (ci := 2) (q0 := 6) rfl rfl rfl hS (fun _ h => h) rfl hl.1 ⟨⟨Nat.le_of_ble_eq_true rfl, Nat.le_of_ble_eq_true rfl⟩, Nat.le_of_ble_eq_true rfl, Nat.le_refl _, Nat.le_refl _⟩ rfl dX11_flips_36 (fun z_36 u36 H locs h_36 hP _ hS => ?_)
        obtain ⟨n_36, f_36, g_36, ls9_36, gr9_36, nu9_36, w3_36, w4_36, w5_36, v20_36, v21_36, st2_36, fa_36, pc9_36, v22_36, sp_36, v24_36, rfl, h_36⟩ := h_36
        have hP : va_P D.1 j_cl (cW D q (sY (sX (sV (sV (sV (sV (sV (sL (sL (sL (sL (sI (sI (sI (sI (sI (sC u 9 n_36) 2 ls9_36) 3 gr9_36) 4 nu9_36) 7 fa_36) 8 pc9_36) 2 st2_36) 3 w3_36) 4 w4_36) 5 w5_36) 20 v20_36) 21 v21_36) 22 v22_36) 23 sp_36) 24 v24_36) 9 f_36) 9 g_36)) H := hP
        have h_36 : (z_36 = 0 ∨ z_36 = 1) ∧ ((0 ≤ n_36 ∧ n_36 ≤ 12) ∧ RV 40 f_36 g_36) ∧ (∀ k : Nat, 0 ≤ ls9_36 k ∧ ls9_36 k ≤ 12) ∧ (∀ k : Nat, 0 ≤ gr9_36 k ∧ gr9_36 k ≤ 12) ∧ (∀ k : Nat, -1 ≤ nu9_36 k ∧ nu9_36 k ≤ 63) ∧ ((0 ≤ v20_36 ∧ v20_36 ≤ 63) ∧ 0 ≤ v21_36 ∧ v21_36 ≤ 756) ∧ ((0 ≤ v22_36 ∧ v22_36 ≤ 1500) ∧ (∀ k : Nat, 0 ≤ pc9_36 k ∧ pc9_36 k ≤ 1500) ∧ (sp_36 = 0 ∨ sp_36 = 1)) ∧ -2147483648 ≤ v24_36 ∧ v24_36 ≤ 2147483647 := h_36
        obtain ⟨hz9, hq9⟩ := h_36
        have hCI : CI (sY (sX (sV (sV (sV (sV (sV (sL (sL (sL (sL (sI (sI (sI (sI (sI (sC u 9 n_36) 2 ls9_36) 3 gr9_36) 4 nu9_36) 7 fa_36) 8 pc9_36) 2 st2_36) 3 w3_36) 4 w4_36) 5 w5_36) 20 v20_36) 21 v21_36) 22 v22_36) 23 sp_36) 24 v24_36) 9 f_36) 9 g_36) := CI_cu p0 hq9
        refine j_if_ne SS (tgt := 45) (x := z_36) dX11_flips_39 (by decide) (by omega) (fun c_39 => ?_) (fun c_39 => ?_)
        · skip
          refine lv_iload_n SS.1 SS.2.1 dX11_flips_45 rfl (lv_at hl 3 rfl) ?_
          refine lv_aload_n SS.1 SS.2.1 dX11_flips_46 rfl (lv_at hl 1 rfl) ?_
          refine j_get SS hG hP 0 (v := .ref (q 6)) (C := RX11) (T := TX11) (N := 8) rfl rfl inX11 5 (by decide) (ref := "GridPolygons") kw_390 rfl rfl dX11_flips_47 ?_
          refine j_get SS hG hP 6 (v := .int (J v22_36)) (C := RX2) (T := TX2) (N := 7) rfl rfl inX2 4 (by decide) (ref := "GridPolygons$Cuts") kw_345 rfl rfl dX11_flips_50 ?_
          refine j_icmp_lt SS (tgt := 60) (x := i) (y := v22_36) dX11_flips_53 (by decide) (by omega) (by omega) (fun c_53 => ?_) (fun c_53 => ?_)
          · skip
            refine lv_aload_n SS.1 SS.2.1 dX11_flips_60 rfl (lv_at hl 1 rfl) ?_
            refine j_get SS hG hP 0 (v := .ref (q 6)) (C := RX11) (T := TX11) (N := 8) rfl rfl inX11 5 (by decide) (ref := "GridPolygons") kw_390 rfl rfl dX11_flips_61 ?_
            refine lv_iload_n SS.1 SS.2.1 dX11_flips_64 rfl (lv_at hl 3 rfl) ?_
            refine j_vRi SS (As := [.int (J i)]) (rest := []) (c_X2_flipsOf l D q (sY (sX (sV (sV (sV (sV (sV (sL (sL (sL (sL (sI (sI (sI (sI (sI (sC u 9 n_36) 2 ls9_36) 3 gr9_36) 4 nu9_36) 7 fa_36) 8 pc9_36) 2 st2_36) 3 w3_36) 4 w4_36) 5 w5_36) 20 v20_36) 21 v21_36) 22 v22_36) 23 sp_36) 24 v24_36) 9 f_36) 9 g_36)  i (show -2147483648 ≤ i ∧ i ≤ 2147483647 from (by omega)) (show 0 ≤ v21_36 ∧ v21_36 ≤ 756 from (by omega))) mf_X2_flipsOf kw_975 hG hP hP (ci := 2) (q0 := 6) rfl rfl rfl rfl hl.1 ⟨⟨Nat.le_of_ble_eq_true rfl, Nat.le_of_ble_eq_true rfl⟩, Nat.le_of_ble_eq_true rfl, Nat.le_refl _, Nat.le_refl _⟩ rfl dX11_flips_65 (fun z_65 h_65 => ?_)
            have h_65 : 0 ≤ z_65 ∧ z_65 ≤ 756 := h_65
            exact W.iret SS.1 SS.2.1 hr (fun t0 ht hW => ⟨⟨_, (sY (sX (sV (sV (sV (sV (sV (sL (sL (sL (sL (sI (sI (sI (sI (sI (sC u 9 n_36) 2 ls9_36) 3 gr9_36) 4 nu9_36) 7 fa_36) 8 pc9_36) 2 st2_36) 3 w3_36) 4 w4_36) 5 w5_36) 20 v20_36) 21 v21_36) 22 v22_36) 23 sp_36) 24 v24_36) 9 f_36) 9 g_36), rfl, ⟨z_65, rfl, (hCI)⟩, by show va_P D.1 j_cl (cW D q (sY (sX (sV (sV (sV (sV (sV (sL (sL (sL (sL (sI (sI (sI (sI (sI (sC u 9 n_36) 2 ls9_36) 3 gr9_36) 4 nu9_36) 7 fa_36) 8 pc9_36) 2 st2_36) 3 w3_36) 4 w4_36) 5 w5_36) 20 v20_36) 21 v21_36) 22 v22_36) 23 sp_36) 24 v24_36) 9 f_36) 9 g_36)) t0.heap; rw [ht]; first | exact hP | (simp only [sC_id, sX_id, sY_id, sH_id, sT_id, sV_id]; exact hP)⟩, hS.F ht⟩) hS.2.2 dX11_flips_68 hlk
          · skip
            refine j_iconst SS dX11_flips_56 ?_
            refine lv_goto (tgt := 68) SS.1 SS.2.1 dX11_flips_57 (by decide) ?_
            exact W.iret SS.1 SS.2.1 hr (fun t0 ht hW => ⟨⟨_, (sY (sX (sV (sV (sV (sV (sV (sL (sL (sL (sL (sI (sI (sI (sI (sI (sC u 9 n_36) 2 ls9_36) 3 gr9_36) 4 nu9_36) 7 fa_36) 8 pc9_36) 2 st2_36) 3 w3_36) 4 w4_36) 5 w5_36) 20 v20_36) 21 v21_36) 22 v22_36) 23 sp_36) 24 v24_36) 9 f_36) 9 g_36), rfl, ⟨(-1), rfl, (hCI)⟩, by show va_P D.1 j_cl (cW D q (sY (sX (sV (sV (sV (sV (sV (sL (sL (sL (sL (sI (sI (sI (sI (sI (sC u 9 n_36) 2 ls9_36) 3 gr9_36) 4 nu9_36) 7 fa_36) 8 pc9_36) 2 st2_36) 3 w3_36) 4 w4_36) 5 w5_36) 20 v20_36) 21 v21_36) 22 v22_36) 23 sp_36) 24 v24_36) 9 f_36) 9 g_36)) t0.heap; rw [ht]; first | exact hP | (simp only [sC_id, sX_id, sY_id, sH_id, sT_id, sV_id]; exact hP)⟩, hS.F ht⟩) hS.2.2 dX11_flips_68 hlk
        · skip
          refine j_bipush SS dX11_flips_42 (by decide +kernel) ?_
          exact W.iret SS.1 SS.2.1 hr (fun t0 ht hW => ⟨⟨_, (sY (sX (sV (sV (sV (sV (sV (sL (sL (sL (sL (sI (sI (sI (sI (sI (sC u 9 n_36) 2 ls9_36) 3 gr9_36) 4 nu9_36) 7 fa_36) 8 pc9_36) 2 st2_36) 3 w3_36) 4 w4_36) 5 w5_36) 20 v20_36) 21 v21_36) 22 v22_36) 23 sp_36) 24 v24_36) 9 f_36) 9 g_36), rfl, ⟨(-5), rfl, (hCI)⟩, by show va_P D.1 j_cl (cW D q (sY (sX (sV (sV (sV (sV (sV (sL (sL (sL (sL (sI (sI (sI (sI (sI (sC u 9 n_36) 2 ls9_36) 3 gr9_36) 4 nu9_36) 7 fa_36) 8 pc9_36) 2 st2_36) 3 w3_36) 4 w4_36) 5 w5_36) 20 v20_36) 21 v21_36) 22 v22_36) 23 sp_36) 24 v24_36) 9 f_36) 9 g_36)) t0.heap; rw [ht]; first | exact hP | (simp only [sC_id, sX_id, sY_id, sH_id, sT_id, sV_id]; exact hP)⟩, hS.F ht⟩) hS.2.2 dX11_flips_44 hlk
      · skip
        refine j_bipush SS dX11_flips_28 (by decide +kernel) ?_
        exact W.iret SS.1 SS.2.1 hr (fun t0 ht hW => ⟨⟨_, u, rfl, ⟨(-2), rfl, (p0)⟩, by show va_P D.1 j_cl (cW D q u) t0.heap; rw [ht]; first | exact hP | (simp only [sC_id, sX_id, sY_id, sH_id, sT_id, sV_id]; exact hP)⟩, hS.F ht⟩) hS.2.2 dX11_flips_30 hlk
    · skip
      refine j_iconst SS dX11_flips_14 ?_
      exact W.iret SS.1 SS.2.1 hr (fun t0 ht hW => ⟨⟨_, u, rfl, ⟨(-1), rfl, (p0)⟩, by show va_P D.1 j_cl (cW D q u) t0.heap; rw [ht]; first | exact hP | (simp only [sC_id, sX_id, sY_id, sH_id, sT_id, sV_id]; exact hP)⟩, hS.F ht⟩) hS.2.2 dX11_flips_15 hlk
  · skip
    refine lv_astore_nN (lv' := [(3, .null), (0, .ref (q 0)), (1, .int (J s)), (2, .int (J i))]) SS.1 SS.2.1 dX11_flips_5 rfl hl (by decide) rfl (fun ls hl => ?_)
    refine lv_aload_nN SS.1 SS.2.1 dX11_flips_6 rfl (lv_at hl 0 rfl) ?_
    refine lv_ifnullN SS.1 SS.2.1 (tgt := 14) dX11_flips_7 (by decide) ?_
    refine j_iconst SS dX11_flips_14 ?_
    exact W.iret SS.1 SS.2.1 hr (fun t0 ht hW => ⟨⟨_, u, rfl, ⟨(-1), rfl, (p0)⟩, by show va_P D.1 j_cl (cW D q u) t0.heap; rw [ht]; first | exact hP | (simp only [sC_id, sX_id, sY_id, sH_id, sT_id, sV_id]; exact hP)⟩, hS.F ht⟩) hS.2.2 dX11_flips_15 hlk

set_option maxHeartbeats 4000000 in
set_option maxRecDepth 100000 in
theorem c_X11_pieces (l : Launch) (D : JD) (q : Nat → Nat) (u : CS) (A : Nat → Prop) (hD : va_D A (cW D q u)) (s : Int) (what : Int) (p0 : CI u) (p1 : -2147483648 ≤ s ∧ s ≤ 2147483647) (p2 : -2147483648 ≤ what ∧ what ≤ 2147483647) : Met l yX11_pieces (jw yX11_pieces cX11_pieces 4 (some .int)) (jr 7 149) (jP [.ref (q 0), .int (J s), .int (J what)] D (fun H => va_P D.1 j_cl (cW D q u) H)) (jWi (fun z u' => CI u') (fun u' H => va_P D.1 j_cl (cW D q u') H) A) 0 0 A := by
  refine Met.ofW (cc := cX11_pieces) (maxL := 4) (ret := (some .int)) (by decide) rfl ?_
  intro pr en st mi args below meth co s₁ B hml hv
  obtain ⟨rfl, hG, hP⟩ := hv
  have hr := B.returns
  have hlk := B.notSynchronized
  have SS : jS pr mi co cX11_pieces 4 st _ RX11 := ⟨B.exec, B.bytes, hml, findClass_of_methodNamed B.named, fun w hw => atoms_spec (ws := (jw yX11_pieces cX11_pieces 4 (some .int))) B.pre w (List.mem_cons_of_mem _ hw)⟩
  have hl := lv_entry ([.ref (q 0), .int (J s), .int (J what)]) (n := 4) (Nat.le_of_ble_eq_true rfl)
  rw [lg_entry_eq]
  generalize (lg_sl ([.ref (q 0), .int (J s), .int (J what)]) ++ List.replicate (4 - (lg_sl ([.ref (q 0), .int (J s), .int (J what)])).length) Slot.unset).toArray = ls at hl ⊢
  have hl : lv_has ls 4 [(0, .ref (q 0)), (1, .int (J s)), (2, .int (J what))] := hl
  have hS : va_S A st.heap st.heap [] := va_S.rf
  refine lv_aload_n SS.1 SS.2.1 dX11_pieces_0 rfl (lv_at hl 0 rfl) ?_
  refine lv_iload_n SS.1 SS.2.1 dX11_pieces_1 rfl (lv_at hl 1 rfl) ?_
  refine j_vSh SS (As := [.int (J s)]) (rest := []) (c_X11_shapeAt l D q u  s (show -2147483648 ≤ s ∧ s ≤ 2147483647 from (p1))) mf_X11_shapeAt kw_414 hG hP hP (ci := 11) (q0 := 0) rfl rfl rfl rfl hl.1 ⟨⟨Nat.le_of_ble_eq_true rfl, Nat.le_of_ble_eq_true rfl⟩, Nat.le_of_ble_eq_true rfl, Nat.le_refl _, Nat.le_refl _⟩ rfl dX11_pieces_2 (fun i_2 hi_2 hz_2 => ?_) (fun hn_2 => ?_)
  · skip
    have hI2 := CI_s p0 (show i_2 < 8 by omega)
    have hI2c := hI2.1
    have hrl2 := rl_s (show i_2 < 8 by omega)
    refine lv_astore_n (lv' := [(3, .ref (q (8 + 5 * i_2))), (0, .ref (q 0)), (1, .int (J s)), (2, .int (J what))]) SS.1 SS.2.1 dX11_pieces_5 rfl hl (by decide) rfl (fun ls hl => ?_)
    refine lv_aload_n SS.1 SS.2.1 dX11_pieces_6 rfl (lv_at hl 0 rfl) ?_
    refine lv_ifnull SS.1 SS.2.1 dX11_pieces_7 ?_
    refine lv_iload_n SS.1 SS.2.1 dX11_pieces_10 rfl (lv_at hl 3 rfl) ?_
    refine j_if_lt SS (tgt := 19) (x := what) dX11_pieces_11 (by decide) (by omega) (fun c_11 => ?_) (fun c_11 => ?_)
    · skip
      refine j_iconst SS dX11_pieces_19 ?_
      exact W.iret SS.1 SS.2.1 hr (fun t0 ht hW => ⟨⟨_, u, rfl, ⟨(-1), rfl, (p0)⟩, by show va_P D.1 j_cl (cW D q u) t0.heap; rw [ht]; first | exact hP | (simp only [sC_id, sX_id, sY_id, sH_id, sT_id, sV_id]; exact hP)⟩, hS.F ht⟩) hS.2.2 dX11_pieces_20 hlk
    · skip
      refine lv_iload_n SS.1 SS.2.1 dX11_pieces_14 rfl (lv_at hl 3 rfl) ?_
      refine j_iconst SS dX11_pieces_15 ?_
      refine j_icmp_le SS (tgt := 21) (x := what) (y := 2) dX11_pieces_16 (by decide) (by omega) (by decide) (fun c_16 => ?_) (fun c_16 => ?_)
      · skip
        refine lv_aload_n SS.1 SS.2.1 dX11_pieces_21 rfl (lv_at hl 0 rfl) ?_
        refine j_get SS hG hP (8 + 5 * i_2) (v := .ref (q (9 + 5 * i_2))) (C := RX10) (T := TX10) (N := 3) (cw_shape (by omega)) rfl inX10 0 (by decide) (ref := "GridPolygons$Shape") kw_151 rfl rfl dX11_pieces_22 ?_
        refine j_bipush SS dX11_pieces_25 (by decide +kernel) ?_
        refine j_sRi SS (As := [.ref (q (9 + 5 * i_2)), .int (J 40)]) (rest := []) (c_X11_hasAtMost l D q u i_2 (by omega) 40 (show RB 40 u i_2 from (CI_40 p0 (by omega))) (show -2147483648 ≤ (40 : Int) ∧ (40 : Int) ≤ 2147483647 from (by omega))) mf_X11_hasAtMost kw_859 hG hP rfl hl.1 ⟨⟨Nat.le_of_ble_eq_true rfl, Nat.le_of_ble_eq_true rfl⟩, Nat.le_of_ble_eq_true rfl, Nat.le_refl _, Nat.le_refl _⟩ rfl dX11_pieces_27 (fun z_27 h_27 => ?_)
        have h_27 : (z_27 = 1 ∧ 3 ≤ (u.1.2.2.1 i_2) ∧ rE u i_2 + rI u i_2 ≤ (40 : Int)) ∨ z_27 = 0 := h_27
        refine j_if_ne SS (tgt := 36) (x := z_27) dX11_pieces_30 (by decide) (by omega) (fun c_30 => ?_) (fun c_30 => ?_)
        · skip
          refine lv_aload_n SS.1 SS.2.1 dX11_pieces_36 rfl (lv_at hl 1 rfl) ?_
          refine j_get SS hG hP 0 (v := .ref (q 7)) (C := RX11) (T := TX11) (N := 8) rfl rfl inX11 6 (by decide) (ref := "GridPolygons") kw_391 rfl rfl dX11_pieces_37 ?_
          refine lv_aload_n SS.1 SS.2.1 dX11_pieces_40 rfl (lv_at hl 0 rfl) ?_
          refine j_vWv SS (As := [.ref (q (8 + 5 * i_2))]) (rest := []) (c_X1_build l D q u A (cW_D hD) i_2 (by omega)  (show RB 40 u i_2 from (CI_40 p0 (by omega))) (show RB 40 u 10 from (p0.2.1.2.2)) (show HB ((u.1.2.2.2.1 i_2)) from ((p0.1 i_2 (by omega)).2.1)) (show 0 ≤ (u.2.2.2 25) ∧ (u.2.2.2 25) ≤ 80 from (p0.2.2.2.2.2.2.2.1)) (show -2147483648 ≤ (u.2.2.2 26) ∧ (u.2.2.2 26) ≤ 2147483647 from (p0.2.2.2.2.2.2.2.2)) (show -2147483648 ≤ (u.1.2.2.2.2 i_2) ∧ (u.1.2.2.2.2 i_2) ≤ 2147483647 from ((p0.1 i_2 (by omega)).2.2))) mf_X1_build kw_987 hG hP hP (ci := 1) (q0 := 7) rfl rfl rfl hS (fun _ h => h) rfl hl.1 ⟨⟨Nat.le_of_ble_eq_true rfl, Nat.le_of_ble_eq_true rfl⟩, Nat.le_of_ble_eq_true rfl, Nat.le_refl _, Nat.le_refl _⟩ rfl dX11_pieces_41 (fun u41 H locs h_41 hP _ hS => ?_)
          obtain ⟨n_41, f_41, g_41, se_41, v25_41, v26_41, rfl, h_41⟩ := h_41
          have hP : va_P D.1 j_cl (cW D q (sY (sX (sV (sV (sL (sC u 10 n_41) 6 se_41) 25 v25_41) 26 v26_41) 10 f_41) 10 g_41)) H := hP
          have h_41 : ((0 ≤ n_41 ∧ n_41 ≤ 40) ∧ RV 40 f_41 g_41) ∧ (0 ≤ v25_41 ∧ v25_41 ≤ 80) ∧ -2147483648 ≤ v26_41 ∧ v26_41 ≤ 2147483647 := h_41
          have hCI : CI (sY (sX (sV (sV (sL (sC u 10 n_41) 6 se_41) 25 v25_41) 26 v26_41) 10 f_41) 10 g_41) := CI_co p0 h_41
          have hR10 := hCI.2.1.2.2
          refine lv_iload_n SS.1 SS.2.1 dX11_pieces_44 rfl (lv_at hl 3 rfl) ?_
          refine j_if_ne SS (tgt := 56) (x := what) dX11_pieces_45 (by decide) (by omega) (fun c_45 => ?_) (fun c_45 => ?_)
          · skip
            refine lv_iload_n SS.1 SS.2.1 dX11_pieces_56 rfl (lv_at hl 3 rfl) ?_
            refine j_iconst SS dX11_pieces_57 ?_
            refine j_icmp_ne SS (tgt := 71) (x := what) (y := 1) dX11_pieces_58 (by decide) (by omega) (by decide) (fun c_58 => ?_) (fun c_58 => ?_)
            · skip
              refine lv_aload_n SS.1 SS.2.1 dX11_pieces_71 rfl (lv_at hl 1 rfl) ?_
              refine j_get SS hG hP 0 (v := .ref (q 7)) (C := RX11) (T := TX11) (N := 8) rfl rfl inX11 6 (by decide) (ref := "GridPolygons") kw_391 rfl rfl dX11_pieces_72 ?_
              refine j_vRi SS (As := []) (rest := []) (c_X1_unitTriangles l D q (sY (sX (sV (sV (sL (sC u 10 n_41) 6 se_41) 25 v25_41) 26 v26_41) 10 f_41) 10 g_41)   (show RB 40 (sY (sX (sV (sV (sL (sC u 10 n_41) 6 se_41) 25 v25_41) 26 v26_41) 10 f_41) 10 g_41) 10 from (hR10)) (show 0 ≤ v25_41 ∧ v25_41 ≤ 80 from (by omega))) mf_X1_unitTriangles kw_1032 hG hP hP (ci := 1) (q0 := 7) rfl rfl rfl rfl hl.1 ⟨⟨Nat.le_of_ble_eq_true rfl, Nat.le_of_ble_eq_true rfl⟩, Nat.le_of_ble_eq_true rfl, Nat.le_refl _, Nat.le_refl _⟩ rfl dX11_pieces_75 (fun z_75 h_75 => ?_)
              have h_75 : True := h_75
              exact W.iret SS.1 SS.2.1 hr (fun t0 ht hW => ⟨⟨_, (sY (sX (sV (sV (sL (sC u 10 n_41) 6 se_41) 25 v25_41) 26 v26_41) 10 f_41) 10 g_41), rfl, ⟨z_75, rfl, (hCI)⟩, by show va_P D.1 j_cl (cW D q (sY (sX (sV (sV (sL (sC u 10 n_41) 6 se_41) 25 v25_41) 26 v26_41) 10 f_41) 10 g_41)) t0.heap; rw [ht]; first | exact hP | (simp only [sC_id, sX_id, sY_id, sH_id, sT_id, sV_id]; exact hP)⟩, hS.F ht⟩) hS.2.2 dX11_pieces_78 hlk
            · skip
              refine lv_aload_n SS.1 SS.2.1 dX11_pieces_61 rfl (lv_at hl 1 rfl) ?_
              refine j_get SS hG hP 0 (v := .ref (q 7)) (C := RX11) (T := TX11) (N := 8) rfl rfl inX11 6 (by decide) (ref := "GridPolygons") kw_391 rfl rfl dX11_pieces_62 ?_
              refine j_vRi SS (As := []) (rest := []) (c_X1_seen l D q (sY (sX (sV (sV (sL (sC u 10 n_41) 6 se_41) 25 v25_41) 26 v26_41) 10 f_41) 10 g_41)   (show 0 ≤ v25_41 ∧ v25_41 ≤ 80 from (by omega))) mf_X1_seen kw_1022 hG hP hP (ci := 1) (q0 := 7) rfl rfl rfl rfl hl.1 ⟨⟨Nat.le_of_ble_eq_true rfl, Nat.le_of_ble_eq_true rfl⟩, Nat.le_of_ble_eq_true rfl, Nat.le_refl _, Nat.le_refl _⟩ rfl dX11_pieces_65 (fun z_65 h_65 => ?_)
              have h_65 : True := h_65
              refine lv_goto (tgt := 78) SS.1 SS.2.1 dX11_pieces_68 (by decide) ?_
              exact W.iret SS.1 SS.2.1 hr (fun t0 ht hW => ⟨⟨_, (sY (sX (sV (sV (sL (sC u 10 n_41) 6 se_41) 25 v25_41) 26 v26_41) 10 f_41) 10 g_41), rfl, ⟨z_65, rfl, (hCI)⟩, by show va_P D.1 j_cl (cW D q (sY (sX (sV (sV (sL (sC u 10 n_41) 6 se_41) 25 v25_41) 26 v26_41) 10 f_41) 10 g_41)) t0.heap; rw [ht]; first | exact hP | (simp only [sC_id, sX_id, sY_id, sH_id, sT_id, sV_id]; exact hP)⟩, hS.F ht⟩) hS.2.2 dX11_pieces_78 hlk
          · skip
            refine lv_aload_n SS.1 SS.2.1 dX11_pieces_48 rfl (lv_at hl 1 rfl) ?_
            refine j_get SS hG hP 0 (v := .ref (q 7)) (C := RX11) (T := TX11) (N := 8) rfl rfl inX11 6 (by decide) (ref := "GridPolygons") kw_391 rfl rfl dX11_pieces_49 ?_
            refine j_get SS hG hP 7 (v := .int (J v25_41)) (C := RX1) (T := TX1) (N := 4) rfl rfl inX1 2 (by decide) (ref := "GridPolygons$Coarse") kw_374 rfl rfl dX11_pieces_52 ?_
            exact W.iret SS.1 SS.2.1 hr (fun t0 ht hW => ⟨⟨_, (sY (sX (sV (sV (sL (sC u 10 n_41) 6 se_41) 25 v25_41) 26 v26_41) 10 f_41) 10 g_41), rfl, ⟨v25_41, rfl, (hCI)⟩, by show va_P D.1 j_cl (cW D q (sY (sX (sV (sV (sL (sC u 10 n_41) 6 se_41) 25 v25_41) 26 v26_41) 10 f_41) 10 g_41)) t0.heap; rw [ht]; first | exact hP | (simp only [sC_id, sX_id, sY_id, sH_id, sT_id, sV_id]; exact hP)⟩, hS.F ht⟩) hS.2.2 dX11_pieces_55 hlk
        · skip
          refine j_bipush SS dX11_pieces_33 (by decide +kernel) ?_
          exact W.iret SS.1 SS.2.1 hr (fun t0 ht hW => ⟨⟨_, u, rfl, ⟨(-2), rfl, (p0)⟩, by show va_P D.1 j_cl (cW D q u) t0.heap; rw [ht]; first | exact hP | (simp only [sC_id, sX_id, sY_id, sH_id, sT_id, sV_id]; exact hP)⟩, hS.F ht⟩) hS.2.2 dX11_pieces_35 hlk
      · skip
        refine j_iconst SS dX11_pieces_19 ?_
        exact W.iret SS.1 SS.2.1 hr (fun t0 ht hW => ⟨⟨_, u, rfl, ⟨(-1), rfl, (p0)⟩, by show va_P D.1 j_cl (cW D q u) t0.heap; rw [ht]; first | exact hP | (simp only [sC_id, sX_id, sY_id, sH_id, sT_id, sV_id]; exact hP)⟩, hS.F ht⟩) hS.2.2 dX11_pieces_20 hlk
  · skip
    refine lv_astore_nN (lv' := [(3, .null), (0, .ref (q 0)), (1, .int (J s)), (2, .int (J what))]) SS.1 SS.2.1 dX11_pieces_5 rfl hl (by decide) rfl (fun ls hl => ?_)
    refine lv_aload_nN SS.1 SS.2.1 dX11_pieces_6 rfl (lv_at hl 0 rfl) ?_
    refine lv_ifnullN SS.1 SS.2.1 (tgt := 19) dX11_pieces_7 (by decide) ?_
    refine j_iconst SS dX11_pieces_19 ?_
    exact W.iret SS.1 SS.2.1 hr (fun t0 ht hW => ⟨⟨_, u, rfl, ⟨(-1), rfl, (p0)⟩, by show va_P D.1 j_cl (cW D q u) t0.heap; rw [ht]; first | exact hP | (simp only [sC_id, sX_id, sY_id, sH_id, sT_id, sV_id]; exact hP)⟩, hS.F ht⟩) hS.2.2 dX11_pieces_20 hlk

set_option maxHeartbeats 4000000 in
set_option maxRecDepth 100000 in
theorem c_X11_piece (l : Launch) (D : JD) (q : Nat → Nat) (u : CS) (A : Nat → Prop) (hD : va_D A (cW D q u)) (s : Int) (pc9 : Int) (i : Int) (p0 : CI u) (p1 : -2147483648 ≤ s ∧ s ≤ 2147483647) (p2 : -2147483648 ≤ pc9 ∧ pc9 ≤ 2147483647) (p3 : -2147483648 ≤ i ∧ i ≤ 2147483647) : Met l yX11_piece (jw yX11_piece cX11_piece 5 (some .int)) (jr 7 149) (jP [.ref (q 0), .int (J s), .int (J pc9), .int (J i)] D (fun H => va_P D.1 j_cl (cW D q u) H)) (jWi (fun z u' => CI u') (fun u' H => va_P D.1 j_cl (cW D q u') H) A) 0 0 A := by
  refine Met.ofW (cc := cX11_piece) (maxL := 5) (ret := (some .int)) (by decide) rfl ?_
  intro pr en st mi args below meth co s₁ B hml hv
  obtain ⟨rfl, hG, hP⟩ := hv
  have hr := B.returns
  have hlk := B.notSynchronized
  have SS : jS pr mi co cX11_piece 5 st _ RX11 := ⟨B.exec, B.bytes, hml, findClass_of_methodNamed B.named, fun w hw => atoms_spec (ws := (jw yX11_piece cX11_piece 5 (some .int))) B.pre w (List.mem_cons_of_mem _ hw)⟩
  have hl := lv_entry ([.ref (q 0), .int (J s), .int (J pc9), .int (J i)]) (n := 5) (Nat.le_of_ble_eq_true rfl)
  rw [lg_entry_eq]
  generalize (lg_sl ([.ref (q 0), .int (J s), .int (J pc9), .int (J i)]) ++ List.replicate (5 - (lg_sl ([.ref (q 0), .int (J s), .int (J pc9), .int (J i)])).length) Slot.unset).toArray = ls at hl ⊢
  have hl : lv_has ls 5 [(0, .ref (q 0)), (1, .int (J s)), (2, .int (J pc9)), (3, .int (J i))] := hl
  have hS : va_S A st.heap st.heap [] := va_S.rf
  refine lv_aload_n SS.1 SS.2.1 dX11_piece_0 rfl (lv_at hl 0 rfl) ?_
  refine lv_iload_n SS.1 SS.2.1 dX11_piece_1 rfl (lv_at hl 1 rfl) ?_
  refine j_vSh SS (As := [.int (J s)]) (rest := []) (c_X11_shapeAt l D q u  s (show -2147483648 ≤ s ∧ s ≤ 2147483647 from (p1))) mf_X11_shapeAt kw_414 hG hP hP (ci := 11) (q0 := 0) rfl rfl rfl rfl hl.1 ⟨⟨Nat.le_of_ble_eq_true rfl, Nat.le_of_ble_eq_true rfl⟩, Nat.le_of_ble_eq_true rfl, Nat.le_refl _, Nat.le_refl _⟩ rfl dX11_piece_2 (fun i_2 hi_2 hz_2 => ?_) (fun hn_2 => ?_)
  · skip
    have hI2 := CI_s p0 (show i_2 < 8 by omega)
    have hI2c := hI2.1
    have hrl2 := rl_s (show i_2 < 8 by omega)
    refine lv_astore (lv' := [(4, .ref (q (8 + 5 * i_2))), (0, .ref (q 0)), (1, .int (J s)), (2, .int (J pc9)), (3, .int (J i))]) SS.1 SS.2.1 dX11_piece_5 hl (by decide) rfl (fun ls hl => ?_)
    refine lv_aload SS.1 SS.2.1 dX11_piece_7 (lv_at hl 0 rfl) ?_
    refine lv_ifnull SS.1 SS.2.1 dX11_piece_9 ?_
    refine lv_iload_n SS.1 SS.2.1 dX11_piece_12 rfl (lv_at hl 3 rfl) ?_
    refine j_if_lt SS (tgt := 21) (x := pc9) dX11_piece_13 (by decide) (by omega) (fun c_13 => ?_) (fun c_13 => ?_)
    · skip
      refine j_iconst SS dX11_piece_21 ?_
      exact W.iret SS.1 SS.2.1 hr (fun t0 ht hW => ⟨⟨_, u, rfl, ⟨(-1), rfl, (p0)⟩, by show va_P D.1 j_cl (cW D q u) t0.heap; rw [ht]; first | exact hP | (simp only [sC_id, sX_id, sY_id, sH_id, sT_id, sV_id]; exact hP)⟩, hS.F ht⟩) hS.2.2 dX11_piece_22 hlk
    · skip
      refine lv_iload_n SS.1 SS.2.1 dX11_piece_16 rfl (lv_at hl 4 rfl) ?_
      refine j_iconst SS dX11_piece_17 ?_
      refine j_icmp_ge SS (tgt := 23) (x := i) (y := (-1)) dX11_piece_18 (by decide) (by omega) (by decide) (fun c_18 => ?_) (fun c_18 => ?_)
      · skip
        refine lv_aload SS.1 SS.2.1 dX11_piece_23 (lv_at hl 0 rfl) ?_
        refine j_get SS hG hP (8 + 5 * i_2) (v := .ref (q (9 + 5 * i_2))) (C := RX10) (T := TX10) (N := 3) (cw_shape (by omega)) rfl inX10 0 (by decide) (ref := "GridPolygons$Shape") kw_151 rfl rfl dX11_piece_25 ?_
        refine j_bipush SS dX11_piece_28 (by decide +kernel) ?_
        refine j_sRi SS (As := [.ref (q (9 + 5 * i_2)), .int (J 40)]) (rest := []) (c_X11_hasAtMost l D q u i_2 (by omega) 40 (show RB 40 u i_2 from (CI_40 p0 (by omega))) (show -2147483648 ≤ (40 : Int) ∧ (40 : Int) ≤ 2147483647 from (by omega))) mf_X11_hasAtMost kw_859 hG hP rfl hl.1 ⟨⟨Nat.le_of_ble_eq_true rfl, Nat.le_of_ble_eq_true rfl⟩, Nat.le_of_ble_eq_true rfl, Nat.le_refl _, Nat.le_refl _⟩ rfl dX11_piece_30 (fun z_30 h_30 => ?_)
        have h_30 : (z_30 = 1 ∧ 3 ≤ (u.1.2.2.1 i_2) ∧ rE u i_2 + rI u i_2 ≤ (40 : Int)) ∨ z_30 = 0 := h_30
        refine j_if_ne SS (tgt := 39) (x := z_30) dX11_piece_33 (by decide) (by omega) (fun c_33 => ?_) (fun c_33 => ?_)
        · skip
          refine lv_aload_n SS.1 SS.2.1 dX11_piece_39 rfl (lv_at hl 1 rfl) ?_
          refine j_get SS hG hP 0 (v := .ref (q 7)) (C := RX11) (T := TX11) (N := 8) rfl rfl inX11 6 (by decide) (ref := "GridPolygons") kw_391 rfl rfl dX11_piece_40 ?_
          refine lv_aload SS.1 SS.2.1 dX11_piece_43 (lv_at hl 0 rfl) ?_
          refine j_vWv SS (As := [.ref (q (8 + 5 * i_2))]) (rest := []) (c_X1_build l D q u A (cW_D hD) i_2 (by omega)  (show RB 40 u i_2 from (CI_40 p0 (by omega))) (show RB 40 u 10 from (p0.2.1.2.2)) (show HB ((u.1.2.2.2.1 i_2)) from ((p0.1 i_2 (by omega)).2.1)) (show 0 ≤ (u.2.2.2 25) ∧ (u.2.2.2 25) ≤ 80 from (p0.2.2.2.2.2.2.2.1)) (show -2147483648 ≤ (u.2.2.2 26) ∧ (u.2.2.2 26) ≤ 2147483647 from (p0.2.2.2.2.2.2.2.2)) (show -2147483648 ≤ (u.1.2.2.2.2 i_2) ∧ (u.1.2.2.2.2 i_2) ≤ 2147483647 from ((p0.1 i_2 (by omega)).2.2))) mf_X1_build kw_987 hG hP hP (ci := 1) (q0 := 7) rfl rfl rfl hS (fun _ h => h) rfl hl.1 ⟨⟨Nat.le_of_ble_eq_true rfl, Nat.le_of_ble_eq_true rfl⟩, Nat.le_of_ble_eq_true rfl, Nat.le_refl _, Nat.le_refl _⟩ rfl dX11_piece_45 (fun u45 H locs h_45 hP _ hS => ?_)
          obtain ⟨n_45, f_45, g_45, se_45, v25_45, v26_45, rfl, h_45⟩ := h_45
          have hP : va_P D.1 j_cl (cW D q (sY (sX (sV (sV (sL (sC u 10 n_45) 6 se_45) 25 v25_45) 26 v26_45) 10 f_45) 10 g_45)) H := hP
          have h_45 : ((0 ≤ n_45 ∧ n_45 ≤ 40) ∧ RV 40 f_45 g_45) ∧ (0 ≤ v25_45 ∧ v25_45 ≤ 80) ∧ -2147483648 ≤ v26_45 ∧ v26_45 ≤ 2147483647 := h_45
          have hCI : CI (sY (sX (sV (sV (sL (sC u 10 n_45) 6 se_45) 25 v25_45) 26 v26_45) 10 f_45) 10 g_45) := CI_co p0 h_45
          have hR10 := hCI.2.1.2.2
          refine lv_iload_n SS.1 SS.2.1 dX11_piece_48 rfl (lv_at hl 3 rfl) ?_
          refine lv_aload_n SS.1 SS.2.1 dX11_piece_49 rfl (lv_at hl 1 rfl) ?_
          refine j_get SS hG hP 0 (v := .ref (q 7)) (C := RX11) (T := TX11) (N := 8) rfl rfl inX11 6 (by decide) (ref := "GridPolygons") kw_391 rfl rfl dX11_piece_50 ?_
          refine j_get SS hG hP 7 (v := .int (J v25_45)) (C := RX1) (T := TX1) (N := 4) rfl rfl inX1 2 (by decide) (ref := "GridPolygons$Coarse") kw_374 rfl rfl dX11_piece_53 ?_
          refine j_icmp_ge SS (tgt := 71) (x := pc9) (y := v25_45) dX11_piece_56 (by decide) (by omega) (by omega) (fun c_56 => ?_) (fun c_56 => ?_)
          · skip
            refine j_iconst SS dX11_piece_71 ?_
            exact W.iret SS.1 SS.2.1 hr (fun t0 ht hW => ⟨⟨_, (sY (sX (sV (sV (sL (sC u 10 n_45) 6 se_45) 25 v25_45) 26 v26_45) 10 f_45) 10 g_45), rfl, ⟨(-1), rfl, (hCI)⟩, by show va_P D.1 j_cl (cW D q (sY (sX (sV (sV (sL (sC u 10 n_45) 6 se_45) 25 v25_45) 26 v26_45) 10 f_45) 10 g_45)) t0.heap; rw [ht]; first | exact hP | (simp only [sC_id, sX_id, sY_id, sH_id, sT_id, sV_id]; exact hP)⟩, hS.F ht⟩) hS.2.2 dX11_piece_72 hlk
          · skip
            refine lv_iload_n SS.1 SS.2.1 dX11_piece_59 rfl (lv_at hl 4 rfl) ?_
            refine lv_aload_n SS.1 SS.2.1 dX11_piece_60 rfl (lv_at hl 1 rfl) ?_
            refine j_get SS hG hP 0 (v := .ref (q 7)) (C := RX11) (T := TX11) (N := 8) rfl rfl inX11 6 (by decide) (ref := "GridPolygons") kw_391 rfl rfl dX11_piece_61 ?_
            refine lv_iload_n SS.1 SS.2.1 dX11_piece_64 rfl (lv_at hl 3 rfl) ?_
            refine j_vRi SS (As := [.int (J pc9)]) (rest := [.int (J i)]) (c_X1_sizeOf l D q (sY (sX (sV (sV (sL (sC u 10 n_45) 6 se_45) 25 v25_45) 26 v26_45) 10 f_45) 10 g_45)  pc9 (show -2147483648 ≤ pc9 ∧ pc9 ≤ 2147483647 from (by omega))) mf_X1_sizeOf kw_1049 hG hP hP (ci := 1) (q0 := 7) rfl rfl rfl rfl hl.1 ⟨⟨Nat.le_of_ble_eq_true rfl, Nat.le_of_ble_eq_true rfl⟩, Nat.le_of_ble_eq_true rfl, Nat.le_refl _, Nat.le_refl _⟩ rfl dX11_piece_65 (fun z_65 h_65 => ?_)
            have h_65 : 0 ≤ z_65 ∧ z_65 ≤ 127 := h_65
            refine j_icmp_lt SS (tgt := 73) (x := i) (y := z_65) dX11_piece_68 (by decide) (by omega) (by omega) (fun c_68 => ?_) (fun c_68 => ?_)
            · skip
              refine lv_iload_n SS.1 SS.2.1 dX11_piece_73 rfl (lv_at hl 4 rfl) ?_
              refine j_iconst SS dX11_piece_74 ?_
              refine j_icmp_ne SS (tgt := 89) (x := i) (y := (-1)) dX11_piece_75 (by decide) (by omega) (by decide) (fun c_75 => ?_) (fun c_75 => ?_)
              · skip
                refine lv_aload_n SS.1 SS.2.1 dX11_piece_89 rfl (lv_at hl 1 rfl) ?_
                refine j_get SS hG hP 0 (v := .ref (q 7)) (C := RX11) (T := TX11) (N := 8) rfl rfl inX11 6 (by decide) (ref := "GridPolygons") kw_391 rfl rfl dX11_piece_90 ?_
                refine lv_iload_n SS.1 SS.2.1 dX11_piece_93 rfl (lv_at hl 3 rfl) ?_
                refine lv_iload_n SS.1 SS.2.1 dX11_piece_94 rfl (lv_at hl 4 rfl) ?_
                refine j_vRi SS (As := [.int (J pc9), .int (J i)]) (rest := []) (c_X1_memberOf l D q (sY (sX (sV (sV (sL (sC u 10 n_45) 6 se_45) 25 v25_45) 26 v26_45) 10 f_45) 10 g_45)  pc9 i (show RB 40 (sY (sX (sV (sV (sL (sC u 10 n_45) 6 se_45) 25 v25_45) 26 v26_45) 10 f_45) 10 g_45) 10 from (hR10)) (show -2147483648 ≤ pc9 ∧ pc9 ≤ 2147483647 from (by omega)) (show 0 ≤ i ∧ i ≤ 2147483647 from (by omega))) mf_X1_memberOf kw_1050 hG hP hP (ci := 1) (q0 := 7) rfl rfl rfl rfl hl.1 ⟨⟨Nat.le_of_ble_eq_true rfl, Nat.le_of_ble_eq_true rfl⟩, Nat.le_of_ble_eq_true rfl, Nat.le_refl _, Nat.le_refl _⟩ rfl dX11_piece_95 (fun z_95 h_95 => ?_)
                have h_95 : -1 ≤ z_95 ∧ z_95 ≤ 39 := h_95
                exact W.iret SS.1 SS.2.1 hr (fun t0 ht hW => ⟨⟨_, (sY (sX (sV (sV (sL (sC u 10 n_45) 6 se_45) 25 v25_45) 26 v26_45) 10 f_45) 10 g_45), rfl, ⟨z_95, rfl, (hCI)⟩, by show va_P D.1 j_cl (cW D q (sY (sX (sV (sV (sL (sC u 10 n_45) 6 se_45) 25 v25_45) 26 v26_45) 10 f_45) 10 g_45)) t0.heap; rw [ht]; first | exact hP | (simp only [sC_id, sX_id, sY_id, sH_id, sT_id, sV_id]; exact hP)⟩, hS.F ht⟩) hS.2.2 dX11_piece_98 hlk
              · skip
                refine lv_aload_n SS.1 SS.2.1 dX11_piece_78 rfl (lv_at hl 1 rfl) ?_
                refine j_get SS hG hP 0 (v := .ref (q 7)) (C := RX11) (T := TX11) (N := 8) rfl rfl inX11 6 (by decide) (ref := "GridPolygons") kw_391 rfl rfl dX11_piece_79 ?_
                refine lv_iload_n SS.1 SS.2.1 dX11_piece_82 rfl (lv_at hl 3 rfl) ?_
                refine j_vRi SS (As := [.int (J pc9)]) (rest := []) (c_X1_sizeOf l D q (sY (sX (sV (sV (sL (sC u 10 n_45) 6 se_45) 25 v25_45) 26 v26_45) 10 f_45) 10 g_45)  pc9 (show -2147483648 ≤ pc9 ∧ pc9 ≤ 2147483647 from (by omega))) mf_X1_sizeOf kw_1049 hG hP hP (ci := 1) (q0 := 7) rfl rfl rfl rfl hl.1 ⟨⟨Nat.le_of_ble_eq_true rfl, Nat.le_of_ble_eq_true rfl⟩, Nat.le_of_ble_eq_true rfl, Nat.le_refl _, Nat.le_refl _⟩ rfl dX11_piece_83 (fun z_83 h_83 => ?_)
                have h_83 : 0 ≤ z_83 ∧ z_83 ≤ 127 := h_83
                refine lv_goto (tgt := 98) SS.1 SS.2.1 dX11_piece_86 (by decide) ?_
                exact W.iret SS.1 SS.2.1 hr (fun t0 ht hW => ⟨⟨_, (sY (sX (sV (sV (sL (sC u 10 n_45) 6 se_45) 25 v25_45) 26 v26_45) 10 f_45) 10 g_45), rfl, ⟨z_83, rfl, (hCI)⟩, by show va_P D.1 j_cl (cW D q (sY (sX (sV (sV (sL (sC u 10 n_45) 6 se_45) 25 v25_45) 26 v26_45) 10 f_45) 10 g_45)) t0.heap; rw [ht]; first | exact hP | (simp only [sC_id, sX_id, sY_id, sH_id, sT_id, sV_id]; exact hP)⟩, hS.F ht⟩) hS.2.2 dX11_piece_98 hlk
            · skip
              refine j_iconst SS dX11_piece_71 ?_
              exact W.iret SS.1 SS.2.1 hr (fun t0 ht hW => ⟨⟨_, (sY (sX (sV (sV (sL (sC u 10 n_45) 6 se_45) 25 v25_45) 26 v26_45) 10 f_45) 10 g_45), rfl, ⟨(-1), rfl, (hCI)⟩, by show va_P D.1 j_cl (cW D q (sY (sX (sV (sV (sL (sC u 10 n_45) 6 se_45) 25 v25_45) 26 v26_45) 10 f_45) 10 g_45)) t0.heap; rw [ht]; first | exact hP | (simp only [sC_id, sX_id, sY_id, sH_id, sT_id, sV_id]; exact hP)⟩, hS.F ht⟩) hS.2.2 dX11_piece_72 hlk
        · skip
          refine j_bipush SS dX11_piece_36 (by decide +kernel) ?_
          exact W.iret SS.1 SS.2.1 hr (fun t0 ht hW => ⟨⟨_, u, rfl, ⟨(-2), rfl, (p0)⟩, by show va_P D.1 j_cl (cW D q u) t0.heap; rw [ht]; first | exact hP | (simp only [sC_id, sX_id, sY_id, sH_id, sT_id, sV_id]; exact hP)⟩, hS.F ht⟩) hS.2.2 dX11_piece_38 hlk
      · skip
        refine j_iconst SS dX11_piece_21 ?_
        exact W.iret SS.1 SS.2.1 hr (fun t0 ht hW => ⟨⟨_, u, rfl, ⟨(-1), rfl, (p0)⟩, by show va_P D.1 j_cl (cW D q u) t0.heap; rw [ht]; first | exact hP | (simp only [sC_id, sX_id, sY_id, sH_id, sT_id, sV_id]; exact hP)⟩, hS.F ht⟩) hS.2.2 dX11_piece_22 hlk
  · skip
    refine lv_astoreN (lv' := [(4, .null), (0, .ref (q 0)), (1, .int (J s)), (2, .int (J pc9)), (3, .int (J i))]) SS.1 SS.2.1 dX11_piece_5 hl (by decide) rfl (fun ls hl => ?_)
    refine lv_aloadN SS.1 SS.2.1 dX11_piece_7 (lv_at hl 0 rfl) ?_
    refine lv_ifnullN SS.1 SS.2.1 (tgt := 21) dX11_piece_9 (by decide) ?_
    refine j_iconst SS dX11_piece_21 ?_
    exact W.iret SS.1 SS.2.1 hr (fun t0 ht hW => ⟨⟨_, u, rfl, ⟨(-1), rfl, (p0)⟩, by show va_P D.1 j_cl (cW D q u) t0.heap; rw [ht]; first | exact hP | (simp only [sC_id, sX_id, sY_id, sH_id, sT_id, sV_id]; exact hP)⟩, hS.F ht⟩) hS.2.2 dX11_piece_22 hlk

theorem CI_ht {u : CS} {i : Nat} {t s : Int} {k : Nat → Int} (h : CI u) (hi : i < 8) (hk : HB k) (ht : -2147483648 ≤ t ∧ t ≤ 2147483647) (hs : -2147483648 ≤ s ∧ s ≤ 2147483647) : CI (sV (sT (sH u i k) i t) 0 s) := by
  have q := h.1 i hi
  have e := CI_sh (i := i) (n := u.1.2.2.1 i) (f := u.1.1 i) (g := u.1.2.1 i) h hi (by have := q.1.1; rw [rl_s hi] at this; exact this) q.1.2 hk ht hs
  simp only [sC_id, sX_id, sY_id] at e
  exact e
theorem HB_up {f : Nat → Int} {k : Nat} {v : Int} (h : HB f) (hv : -1000 ≤ v ∧ v ≤ 1000) : HB (upI f k v) := UP_b h hv

set_option maxHeartbeats 4000000 in
set_option maxRecDepth 100000 in
theorem c_X11_height (l : Launch) (D : JD) (q : Nat → Nat) (u : CS) (A : Nat → Prop) (hD : va_D A (cW D q u)) (s : Int) (i : Int) (v : Int) (p0 : CI u) (p1 : -2147483648 ≤ s ∧ s ≤ 2147483647) (p2 : -2147483648 ≤ i ∧ i ≤ 2147483647) (p3 : -2147483648 ≤ v ∧ v ≤ 2147483647) : Met l yX11_height (jw yX11_height cX11_height 6 (some .int)) (jr 7 149) (jP [.ref (q 0), .int (J s), .int (J i), .int (J v)] D (fun H => va_P D.1 j_cl (cW D q u) H)) (jWi (fun z u' => CI u') (fun u' H => va_P D.1 j_cl (cW D q u') H) A) 0 0 A := by
  refine Met.ofW (cc := cX11_height) (maxL := 6) (ret := (some .int)) (by decide) rfl ?_
  intro pr en st mi args below meth co s₁ B hml hv
  obtain ⟨rfl, hG, hP⟩ := hv
  have hr := B.returns
  have hlk := B.notSynchronized
  have SS : jS pr mi co cX11_height 6 st _ RX11 := ⟨B.exec, B.bytes, hml, findClass_of_methodNamed B.named, fun w hw => atoms_spec (ws := (jw yX11_height cX11_height 6 (some .int))) B.pre w (List.mem_cons_of_mem _ hw)⟩
  have hl := lv_entry ([.ref (q 0), .int (J s), .int (J i), .int (J v)]) (n := 6) (Nat.le_of_ble_eq_true rfl)
  rw [lg_entry_eq]
  generalize (lg_sl ([.ref (q 0), .int (J s), .int (J i), .int (J v)]) ++ List.replicate (6 - (lg_sl ([.ref (q 0), .int (J s), .int (J i), .int (J v)])).length) Slot.unset).toArray = ls at hl ⊢
  have hl : lv_has ls 6 [(0, .ref (q 0)), (1, .int (J s)), (2, .int (J i)), (3, .int (J v))] := hl
  have hS : va_S A st.heap st.heap [] := va_S.rf
  refine lv_aload_n SS.1 SS.2.1 dX11_height_0 rfl (lv_at hl 0 rfl) ?_
  refine lv_iload_n SS.1 SS.2.1 dX11_height_1 rfl (lv_at hl 1 rfl) ?_
  refine j_vSh SS (As := [.int (J s)]) (rest := []) (c_X11_shapeAt l D q u  s (show -2147483648 ≤ s ∧ s ≤ 2147483647 from (p1))) mf_X11_shapeAt kw_414 hG hP hP (ci := 11) (q0 := 0) rfl rfl rfl rfl hl.1 ⟨⟨Nat.le_of_ble_eq_true rfl, Nat.le_of_ble_eq_true rfl⟩, Nat.le_of_ble_eq_true rfl, Nat.le_refl _, Nat.le_refl _⟩ rfl dX11_height_2 (fun i_2 hi_2 hz_2 => ?_) (fun hn_2 => ?_)
  · skip
    have hI2 := CI_s p0 (show i_2 < 8 by omega)
    have hI2c := hI2.1
    have hrl2 := rl_s (show i_2 < 8 by omega)
    refine lv_astore (lv' := [(4, .ref (q (8 + 5 * i_2))), (0, .ref (q 0)), (1, .int (J s)), (2, .int (J i)), (3, .int (J v))]) SS.1 SS.2.1 dX11_height_5 hl (by decide) rfl (fun ls hl => ?_)
    refine lv_aload SS.1 SS.2.1 dX11_height_7 (lv_at hl 0 rfl) ?_
    refine lv_ifnull SS.1 SS.2.1 dX11_height_9 ?_
    refine lv_iload_n SS.1 SS.2.1 dX11_height_12 rfl (lv_at hl 4 rfl) ?_
    refine j_sipush SS dX11_height_13 (by decide +kernel) ?_
    refine j_icmp_lt SS (tgt := 39) (x := v) (y := (-1000)) dX11_height_16 (by decide) (by omega) (by decide) (fun c_16 => ?_) (fun c_16 => ?_)
    · skip
      refine j_ldc SS (-1000000) kw_512 dX11_height_39 ?_
      exact W.iret SS.1 SS.2.1 hr (fun t0 ht hW => ⟨⟨_, u, rfl, ⟨(-1000000), rfl, (p0)⟩, by show va_P D.1 j_cl (cW D q u) t0.heap; rw [ht]; first | exact hP | (simp only [sC_id, sX_id, sY_id, sH_id, sT_id, sV_id]; exact hP)⟩, hS.F ht⟩) hS.2.2 dX11_height_41 hlk
    · skip
      refine lv_iload_n SS.1 SS.2.1 dX11_height_19 rfl (lv_at hl 4 rfl) ?_
      refine j_sipush SS dX11_height_20 (by decide +kernel) ?_
      refine j_icmp_gt SS (tgt := 39) (x := v) (y := 1000) dX11_height_23 (by decide) (by omega) (by decide) (fun c_23 => ?_) (fun c_23 => ?_)
      · skip
        refine j_ldc SS (-1000000) kw_512 dX11_height_39 ?_
        exact W.iret SS.1 SS.2.1 hr (fun t0 ht hW => ⟨⟨_, u, rfl, ⟨(-1000000), rfl, (p0)⟩, by show va_P D.1 j_cl (cW D q u) t0.heap; rw [ht]; first | exact hP | (simp only [sC_id, sX_id, sY_id, sH_id, sT_id, sV_id]; exact hP)⟩, hS.F ht⟩) hS.2.2 dX11_height_41 hlk
      · skip
        refine lv_aload SS.1 SS.2.1 dX11_height_26 (lv_at hl 0 rfl) ?_
        refine j_get SS hG hP (8 + 5 * i_2) (v := .ref (q (9 + 5 * i_2))) (C := RX10) (T := TX10) (N := 3) (cw_shape (by omega)) rfl inX10 0 (by decide) (ref := "GridPolygons$Shape") kw_151 rfl rfl dX11_height_28 ?_
        refine j_bipush SS dX11_height_31 (by decide +kernel) ?_
        refine j_sRi SS (As := [.ref (q (9 + 5 * i_2)), .int (J 40)]) (rest := []) (c_X11_hasAtMost l D q u i_2 (by omega) 40 (show RB 40 u i_2 from (CI_40 p0 (by omega))) (show -2147483648 ≤ (40 : Int) ∧ (40 : Int) ≤ 2147483647 from (by omega))) mf_X11_hasAtMost kw_859 hG hP rfl hl.1 ⟨⟨Nat.le_of_ble_eq_true rfl, Nat.le_of_ble_eq_true rfl⟩, Nat.le_of_ble_eq_true rfl, Nat.le_refl _, Nat.le_refl _⟩ rfl dX11_height_33 (fun z_33 h_33 => ?_)
        have h_33 : (z_33 = 1 ∧ 3 ≤ (u.1.2.2.1 i_2) ∧ rE u i_2 + rI u i_2 ≤ (40 : Int)) ∨ z_33 = 0 := h_33
        refine j_if_ne SS (tgt := 42) (x := z_33) dX11_height_36 (by decide) (by omega) (fun c_36 => ?_) (fun c_36 => ?_)
        · skip
          refine lv_iload_n SS.1 SS.2.1 dX11_height_42 rfl (lv_at hl 3 rfl) ?_
          refine j_if_lt SS (tgt := 64) (x := i) dX11_height_43 (by decide) (by omega) (fun c_43 => ?_) (fun c_43 => ?_)
          · skip
            refine j_ldc SS (-1000000) kw_512 dX11_height_64 ?_
            exact W.iret SS.1 SS.2.1 hr (fun t0 ht hW => ⟨⟨_, u, rfl, ⟨(-1000000), rfl, (p0)⟩, by show va_P D.1 j_cl (cW D q u) t0.heap; rw [ht]; first | exact hP | (simp only [sC_id, sX_id, sY_id, sH_id, sT_id, sV_id]; exact hP)⟩, hS.F ht⟩) hS.2.2 dX11_height_66 hlk
          · skip
            refine lv_iload_n SS.1 SS.2.1 dX11_height_46 rfl (lv_at hl 3 rfl) ?_
            refine lv_aload SS.1 SS.2.1 dX11_height_47 (lv_at hl 0 rfl) ?_
            refine j_get SS hG hP (8 + 5 * i_2) (v := .ref (q (9 + 5 * i_2))) (C := RX10) (T := TX10) (N := 3) (cw_shape (by omega)) rfl inX10 0 (by decide) (ref := "GridPolygons$Shape") kw_151 rfl rfl dX11_height_49 ?_
            refine j_vRi SS (As := []) (rest := [.int (J i)]) (c_X7_all l D q u i_2 (by omega) (40 : Int)  (show 0 ≤ (40 : Int) ∧ (40 : Int) ≤ 80 from (by omega)) (show RB (40 : Int) u i_2 from (CI_40 p0 (by omega)))) mf_X7_all kw_553 hG hP hP (ci := 7) (q0 := (9 + 5 * i_2)) rfl (cw_ring (by omega)) rfl rfl hl.1 ⟨⟨Nat.le_of_ble_eq_true rfl, Nat.le_of_ble_eq_true rfl⟩, Nat.le_of_ble_eq_true rfl, Nat.le_refl _, Nat.le_refl _⟩ rfl dX11_height_52 (fun z_52 h_52 => ?_)
            have h_52 : z_52 = rE u i_2 + rI u i_2 ∧ -7000000 ≤ z_52 ∧ z_52 ≤ 7000000 := h_52
            refine j_icmp_ge SS (tgt := 64) (x := i) (y := z_52) dX11_height_55 (by decide) (by omega) (by omega) (fun c_55 => ?_) (fun c_55 => ?_)
            · skip
              refine j_ldc SS (-1000000) kw_512 dX11_height_64 ?_
              exact W.iret SS.1 SS.2.1 hr (fun t0 ht hW => ⟨⟨_, u, rfl, ⟨(-1000000), rfl, (p0)⟩, by show va_P D.1 j_cl (cW D q u) t0.heap; rw [ht]; first | exact hP | (simp only [sC_id, sX_id, sY_id, sH_id, sT_id, sV_id]; exact hP)⟩, hS.F ht⟩) hS.2.2 dX11_height_66 hlk
            · skip
              refine lv_iload_n SS.1 SS.2.1 dX11_height_58 rfl (lv_at hl 3 rfl) ?_
              refine j_bipush SS dX11_height_59 (by decide +kernel) ?_
              refine j_icmp_lt SS (tgt := 67) (x := i) (y := 40) dX11_height_61 (by decide) (by omega) (by decide) (fun c_61 => ?_) (fun c_61 => ?_)
              · skip
                refine lv_aload SS.1 SS.2.1 dX11_height_67 (lv_at hl 0 rfl) ?_
                refine j_get SS hG hP (8 + 5 * i_2) (v := .ref (q (12 + 5 * i_2))) (C := RX10) (T := TX10) (N := 3) (cw_shape (by omega)) rfl inX10 1 (by decide) (ref := "GridPolygons$Shape") kw_157 rfl rfl dX11_height_69 ?_
                refine lv_iload_n SS.1 SS.2.1 dX11_height_72 rfl (lv_at hl 3 rfl) ?_
                refine j_iald SS hG hP (12 + 5 * i_2) (n := 40) (f := (u.1.2.2.2.1 i_2)) (cw_hts (by omega)) (z := i) (by omega) (by omega) dX11_height_73 ?_
                refine lv_istore (lv' := [(5, .int (J ((u.1.2.2.2.1 i_2) (i).toNat))), (4, .ref (q (8 + 5 * i_2))), (0, .ref (q 0)), (1, .int (J s)), (2, .int (J i)), (3, .int (J v))]) SS.1 SS.2.1 dX11_height_74 hl (by decide) rfl (fun ls hl => ?_)
                refine lv_aload SS.1 SS.2.1 dX11_height_76 (lv_at hl 1 rfl) ?_
                refine j_get SS hG hP (8 + 5 * i_2) (v := .ref (q (12 + 5 * i_2))) (C := RX10) (T := TX10) (N := 3) (cw_shape (by omega)) rfl inX10 1 (by decide) (ref := "GridPolygons$Shape") kw_157 rfl rfl dX11_height_78 ?_
                refine lv_iload_n SS.1 SS.2.1 dX11_height_81 rfl (lv_at hl 4 rfl) ?_
                refine lv_iload_n SS.1 SS.2.1 dX11_height_82 rfl (lv_at hl 5 rfl) ?_
                refine j_iast SS hG hP (cW_D hD) hS (12 + 5 * i_2) (n := 40) (f := (u.1.2.2.2.1 i_2)) (cw_hts (by omega)) (z := i) (v := v) (by omega) (by omega) dX11_height_83 (ws' := (cW D q (sH u i_2 (upI (u.1.2.2.2.1 i_2) (i).toNat v)))) (cs_hts (by omega)) (fun H locs hP hS => ?_)
                refine lv_aload SS.1 SS.2.1 dX11_height_84 (lv_at hl 1 rfl) ?_
                refine lv_aload_n SS.1 SS.2.1 dX11_height_86 rfl (lv_at hl 2 rfl) ?_
                refine j_vWi SS (As := []) (rest := [.ref (q (8 + 5 * i_2))]) (c_X11_newStamp l D q (sH u i_2 (upI (u.1.2.2.2.1 i_2) (i).toNat v)) A (cW_D hD)   ) mf_X11_newStamp kw_467 hG hP hP (ci := 11) (q0 := 0) rfl rfl rfl hS (fun _ h => h) rfl hl.1 ⟨⟨Nat.le_of_ble_eq_true rfl, Nat.le_of_ble_eq_true rfl⟩, Nat.le_of_ble_eq_true rfl, Nat.le_refl _, Nat.le_refl _⟩ rfl dX11_height_87 (fun z_87 u87 H locs h_87 hP _ hS => ?_)
                obtain ⟨t_87, rfl, h_87⟩ := h_87
                have hP : va_P D.1 j_cl (cW D q (sV (sH u i_2 (upI (u.1.2.2.2.1 i_2) (i).toNat v)) 0 t_87)) H := hP
                have h_87 : z_87 = t_87 ∧ -2147483648 ≤ t_87 ∧ t_87 ≤ 2147483647 := h_87
                refine j_put SS hG hP (cW_D hD) hS (8 + 5 * i_2) (v := .int (J z_87)) (ty := .int) (C := RX10) (T := TX10) (N := 3) (cw_shape (by omega)) rfl inX10 tyX10 tyX10_ok nmX10 2 (by decide) (ref := "GridPolygons$Shape") kw_161 rfl rfl (by decide +kernel) rfl rfl (Nat.le_of_ble_eq_true rfl) dX11_height_90 (ws' := (cW D q (sV (sT (sH u i_2 (upI (u.1.2.2.2.1 i_2) (i).toNat v)) i_2 z_87) 0 t_87))) (cs_shape (by omega)) (fun H locs hP hS => ?_)
                refine lv_iload SS.1 SS.2.1 dX11_height_93 (lv_at hl 0 rfl) ?_
                exact W.iret SS.1 SS.2.1 hr (fun t0 ht hW => ⟨⟨_, (sV (sT (sH u i_2 (upI (u.1.2.2.2.1 i_2) (i).toNat v)) i_2 z_87) 0 t_87), rfl, ⟨((u.1.2.2.2.1 i_2) (i).toNat), rfl, (CI_ht p0 (by omega) (HB_up (p0.1 i_2 (by omega)).2.1 (by omega)) (by omega) (by omega))⟩, by show va_P D.1 j_cl (cW D q (sV (sT (sH u i_2 (upI (u.1.2.2.2.1 i_2) (i).toNat v)) i_2 z_87) 0 t_87)) t0.heap; rw [ht]; first | exact hP | (simp only [sC_id, sX_id, sY_id, sH_id, sT_id, sV_id]; exact hP)⟩, hS.F ht⟩) hS.2.2 dX11_height_95 hlk
              · skip
                refine j_ldc SS (-1000000) kw_512 dX11_height_64 ?_
                exact W.iret SS.1 SS.2.1 hr (fun t0 ht hW => ⟨⟨_, u, rfl, ⟨(-1000000), rfl, (p0)⟩, by show va_P D.1 j_cl (cW D q u) t0.heap; rw [ht]; first | exact hP | (simp only [sC_id, sX_id, sY_id, sH_id, sT_id, sV_id]; exact hP)⟩, hS.F ht⟩) hS.2.2 dX11_height_66 hlk
        · skip
          refine j_ldc SS (-1000000) kw_512 dX11_height_39 ?_
          exact W.iret SS.1 SS.2.1 hr (fun t0 ht hW => ⟨⟨_, u, rfl, ⟨(-1000000), rfl, (p0)⟩, by show va_P D.1 j_cl (cW D q u) t0.heap; rw [ht]; first | exact hP | (simp only [sC_id, sX_id, sY_id, sH_id, sT_id, sV_id]; exact hP)⟩, hS.F ht⟩) hS.2.2 dX11_height_41 hlk
  · skip
    refine lv_astoreN (lv' := [(4, .null), (0, .ref (q 0)), (1, .int (J s)), (2, .int (J i)), (3, .int (J v))]) SS.1 SS.2.1 dX11_height_5 hl (by decide) rfl (fun ls hl => ?_)
    refine lv_aloadN SS.1 SS.2.1 dX11_height_7 (lv_at hl 0 rfl) ?_
    refine lv_ifnullN SS.1 SS.2.1 (tgt := 39) dX11_height_9 (by decide) ?_
    refine j_ldc SS (-1000000) kw_512 dX11_height_39 ?_
    exact W.iret SS.1 SS.2.1 hr (fun t0 ht hW => ⟨⟨_, u, rfl, ⟨(-1000000), rfl, (p0)⟩, by show va_P D.1 j_cl (cW D q u) t0.heap; rw [ht]; first | exact hP | (simp only [sC_id, sX_id, sY_id, sH_id, sT_id, sV_id]; exact hP)⟩, hS.F ht⟩) hS.2.2 dX11_height_41 hlk
