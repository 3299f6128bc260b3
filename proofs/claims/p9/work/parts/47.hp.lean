
set_option maxHeartbeats 4000000 in
set_option maxRecDepth 100000 in
theorem c_X11_cuts (l : Launch) (D : JD) (q : Nat → Nat) (u : CS) (A : Nat → Prop) (hD : va_D A (cW D q u)) (s : Int) (what : Int) (p0 : CI u) (p1 : -2147483648 ≤ s ∧ s ≤ 2147483647) (p2 : -2147483648 ≤ what ∧ what ≤ 2147483647) : Met l yX11_cuts (jw yX11_cuts cX11_cuts 4 (some .int)) (jr 7 149) (jP [.ref (q 0), .int (J s), .int (J what)] D (fun H => va_P D.1 j_cl (cW D q u) H)) (jWi (fun z u' => CI u') (fun u' H => va_P D.1 j_cl (cW D q u') H) A) 0 0 A := by
  refine Met.ofW (cc := cX11_cuts) (maxL := 4) (ret := (some .int)) (by decide) rfl ?_
  intro pr en st mi args below meth co s₁ B hml hv
  obtain ⟨rfl, hG, hP⟩ := hv
  have hr := B.returns
  have hlk := B.notSynchronized
  have SS : jS pr mi co cX11_cuts 4 st _ RX11 := ⟨B.exec, B.bytes, hml, findClass_of_methodNamed B.named, fun w hw => atoms_spec (ws := (jw yX11_cuts cX11_cuts 4 (some .int))) B.pre w (List.mem_cons_of_mem _ hw)⟩
  have hl := lv_entry ([.ref (q 0), .int (J s), .int (J what)]) (n := 4) (Nat.le_of_ble_eq_true rfl)
  rw [lg_entry_eq]
  generalize (lg_sl ([.ref (q 0), .int (J s), .int (J what)]) ++ List.replicate (4 - (lg_sl ([.ref (q 0), .int (J s), .int (J what)])).length) Slot.unset).toArray = ls at hl ⊢
  have hl : lv_has ls 4 [(0, .ref (q 0)), (1, .int (J s)), (2, .int (J what))] := hl
  have hS : va_S A st.heap st.heap [] := va_S.rf
  refine lv_aload_n SS.1 SS.2.1 dX11_cuts_0 rfl (lv_at hl 0 rfl) ?_
  refine lv_iload_n SS.1 SS.2.1 dX11_cuts_1 rfl (lv_at hl 1 rfl) ?_
  refine j_vSh SS (As := [.int (J s)]) (rest := []) (c_X11_shapeAt l D q u  s (show -2147483648 ≤ s ∧ s ≤ 2147483647 from (p1))) mf_X11_shapeAt kw_414 hG hP hP (ci := 11) (q0 := 0) rfl rfl rfl rfl hl.1 ⟨⟨Nat.le_of_ble_eq_true rfl, Nat.le_of_ble_eq_true rfl⟩, Nat.le_of_ble_eq_true rfl, Nat.le_refl _, Nat.le_refl _⟩ rfl dX11_cuts_2 (fun i_2 hi_2 hz_2 => ?_) (fun hn_2 => ?_)
  · skip
    have hI2 := CI_s p0 (show i_2 < 8 by omega)
    have hI2c := hI2.1
    have hrl2 := rl_s (show i_2 < 8 by omega)
    refine lv_astore_n (lv' := [(3, .ref (q (8 + 5 * i_2))), (0, .ref (q 0)), (1, .int (J s)), (2, .int (J what))]) SS.1 SS.2.1 dX11_cuts_5 rfl hl (by decide) rfl (fun ls hl => ?_)
    refine lv_aload_n SS.1 SS.2.1 dX11_cuts_6 rfl (lv_at hl 0 rfl) ?_
    refine lv_ifnull SS.1 SS.2.1 dX11_cuts_7 ?_
    refine lv_iload_n SS.1 SS.2.1 dX11_cuts_10 rfl (lv_at hl 3 rfl) ?_
    refine j_if_lt SS (tgt := 19) (x := what) dX11_cuts_11 (by decide) (by omega) (fun c_11 => ?_) (fun c_11 => ?_)
    · skip
      refine j_iconst SS dX11_cuts_19 ?_
      exact W.iret SS.1 SS.2.1 hr (fun t0 ht hW => ⟨⟨_, u, rfl, ⟨(-1), rfl, (p0)⟩, by show va_P D.1 j_cl (cW D q u) t0.heap; rw [ht]; first | exact hP | (simp only [sC_id, sX_id, sY_id, sH_id, sT_id, sV_id]; exact hP)⟩, hS.F ht⟩) hS.2.2 dX11_cuts_20 hlk
    · skip
      refine lv_iload_n SS.1 SS.2.1 dX11_cuts_14 rfl (lv_at hl 3 rfl) ?_
      refine j_iconst SS dX11_cuts_15 ?_
      refine j_icmp_le SS (tgt := 21) (x := what) (y := 3) dX11_cuts_16 (by decide) (by omega) (by decide) (fun c_16 => ?_) (fun c_16 => ?_)
      · skip
        refine lv_aload_n SS.1 SS.2.1 dX11_cuts_21 rfl (lv_at hl 0 rfl) ?_
        refine j_get SS hG hP (8 + 5 * i_2) (v := .ref (q (9 + 5 * i_2))) (C := RX10) (T := TX10) (N := 3) (cw_shape (by omega)) rfl inX10 0 (by decide) (ref := "GridPolygons$Shape") kw_151 rfl rfl dX11_cuts_22 ?_
        refine j_bipush SS dX11_cuts_25 (by decide +kernel) ?_
        refine j_sRi SS (As := [.ref (q (9 + 5 * i_2)), .int (J 12)]) (rest := []) (c_X11_hasAtMost l D q u i_2 (by omega) 12 (show RB 40 u i_2 from (CI_40 p0 (by omega))) (show -2147483648 ≤ (12 : Int) ∧ (12 : Int) ≤ 2147483647 from (by omega))) mf_X11_hasAtMost kw_859 hG hP rfl hl.1 ⟨⟨Nat.le_of_ble_eq_true rfl, Nat.le_of_ble_eq_true rfl⟩, Nat.le_of_ble_eq_true rfl, Nat.le_refl _, Nat.le_refl _⟩ rfl dX11_cuts_27 (fun z_27 h_27 => ?_)
        have h_27 : (z_27 = 1 ∧ 3 ≤ (u.1.2.2.1 i_2) ∧ rE u i_2 + rI u i_2 ≤ (12 : Int)) ∨ z_27 = 0 := h_27
        refine j_if_ne SS (tgt := 36) (x := z_27) dX11_cuts_30 (by decide) (by omega) (fun c_30 => ?_) (fun c_30 => ?_)
        · skip
          refine lv_iload_n SS.1 SS.2.1 dX11_cuts_36 rfl (lv_at hl 3 rfl) ?_
          refine j_iconst SS dX11_cuts_37 ?_
          refine j_icmp_ne SS (tgt := 49) (x := what) (y := 2) dX11_cuts_38 (by decide) (by omega) (by decide) (fun c_38 => ?_) (fun c_38 => ?_)
          · skip
            refine lv_iload_n SS.1 SS.2.1 dX11_cuts_49 rfl (lv_at hl 3 rfl) ?_
            refine j_iconst SS dX11_cuts_50 ?_
            refine j_icmp_ne SS (tgt := 62) (x := what) (y := 3) dX11_cuts_51 (by decide) (by omega) (by decide) (fun c_51 => ?_) (fun c_51 => ?_)
            · skip
              refine lv_aload_n SS.1 SS.2.1 dX11_cuts_62 rfl (lv_at hl 1 rfl) ?_
              refine j_get SS hG hP 0 (v := .ref (q 6)) (C := RX11) (T := TX11) (N := 8) rfl rfl inX11 5 (by decide) (ref := "GridPolygons") kw_390 rfl rfl dX11_cuts_63 ?_
              refine lv_aload_n SS.1 SS.2.1 dX11_cuts_66 rfl (lv_at hl 0 rfl) ?_
              refine j_vWi SS (As := [.ref (q (8 + 5 * i_2))]) (rest := []) (c_X2_build l D q u A (cW_D hD) i_2 (by omega)  (show RB 40 u i_2 from (CI_40 p0 (by omega))) (show RB 40 u 9 from (p0.2.1.2.1)) (show ∀ k : Nat, 0 ≤ (u.2.1 2) k ∧ (u.2.1 2) k ≤ 12 from (fun k => (p0.2.2.2.2.2.1.2.2.1 k).1)) (show ∀ k : Nat, 0 ≤ (u.2.1 3) k ∧ (u.2.1 3) k ≤ 12 from (fun k => (p0.2.2.2.2.2.1.2.2.1 k).2)) (show ∀ k : Nat, -1 ≤ (u.2.1 4) k ∧ (u.2.1 4) k ≤ 63 from (p0.2.2.2.2.2.1.2.2.2)) (show 0 ≤ (u.2.2.2 20) ∧ (u.2.2.2 20) ≤ 63 from (p0.2.2.2.2.2.1.1)) (show 0 ≤ (u.2.2.2 21) ∧ (u.2.2.2 21) ≤ 756 from (p0.2.2.2.2.2.1.2.1)) (show 0 ≤ (u.2.2.2 22) ∧ (u.2.2.2 22) ≤ 1500 from (p0.2.2.2.2.2.2.1.1)) (show ∀ k : Nat, 0 ≤ (u.2.1 8) k ∧ (u.2.1 8) k ≤ 1500 from (p0.2.2.2.2.2.2.1.2.2.2)) (show (u.2.2.2 23) = 0 ∨ (u.2.2.2 23) = 1 from (p0.2.2.2.2.2.2.1.2.1)) (show -2147483648 ≤ (u.2.2.2 24) ∧ (u.2.2.2 24) ≤ 2147483647 from (p0.2.2.2.2.2.2.1.2.2.1)) (show -2147483648 ≤ (u.1.2.2.2.2 i_2) ∧ (u.1.2.2.2.2 i_2) ≤ 2147483647 from ((p0.1 i_2 (by omega)).2.2))) mf_X2_build kw_865 hG hP hP (ci := 2) (q0 := 6) rfl rfl rfl hS (fun _ h => h) rfl hl.1 ⟨⟨Nat.le_of_ble_eq_true rfl, Nat.le_of_ble_eq_true rfl⟩, Nat.le_of_ble_eq_true rfl, Nat.le_refl _, Nat.le_refl _⟩ rfl dX11_cuts_67 (fun z_67 u67 H locs h_67 hP _ hS => ?_)
              obtain ⟨n_67, f_67, g_67, ls9_67, gr9_67, nu9_67, w3_67, w4_67, w5_67, v20_67, v21_67, st2_67, fa_67, pc9_67, v22_67, sp_67, v24_67, rfl, h_67⟩ := h_67
              have hP : va_P D.1 j_cl (cW D q (sY (sX (sV (sV (sV (sV (sV (sL (sL (sL (sL (sI (sI (sI (sI (sI (sC u 9 n_67) 2 ls9_67) 3 gr9_67) 4 nu9_67) 7 fa_67) 8 pc9_67) 2 st2_67) 3 w3_67) 4 w4_67) 5 w5_67) 20 v20_67) 21 v21_67) 22 v22_67) 23 sp_67) 24 v24_67) 9 f_67) 9 g_67)) H := hP
              have h_67 : (z_67 = 0 ∨ z_67 = 1) ∧ ((0 ≤ n_67 ∧ n_67 ≤ 12) ∧ RV 40 f_67 g_67) ∧ (∀ k : Nat, 0 ≤ ls9_67 k ∧ ls9_67 k ≤ 12) ∧ (∀ k : Nat, 0 ≤ gr9_67 k ∧ gr9_67 k ≤ 12) ∧ (∀ k : Nat, -1 ≤ nu9_67 k ∧ nu9_67 k ≤ 63) ∧ ((0 ≤ v20_67 ∧ v20_67 ≤ 63) ∧ 0 ≤ v21_67 ∧ v21_67 ≤ 756) ∧ ((0 ≤ v22_67 ∧ v22_67 ≤ 1500) ∧ (∀ k : Nat, 0 ≤ pc9_67 k ∧ pc9_67 k ≤ 1500) ∧ (sp_67 = 0 ∨ sp_67 = 1)) ∧ -2147483648 ≤ v24_67 ∧ v24_67 ≤ 2147483647 := h_67
              obtain ⟨hz9, hq9⟩ := h_67
              have hCI : CI (sY (sX (sV (sV (sV (sV (sV (sL (sL (sL (sL (sI (sI (sI (sI (sI (sC u 9 n_67) 2 ls9_67) 3 gr9_67) 4 nu9_67) 7 fa_67) 8 pc9_67) 2 st2_67) 3 w3_67) 4 w4_67) 5 w5_67) 20 v20_67) 21 v21_67) 22 v22_67) 23 sp_67) 24 v24_67) 9 f_67) 9 g_67) := CI_cu p0 hq9
              refine j_if_ne SS (tgt := 76) (x := z_67) dX11_cuts_70 (by decide) (by omega) (fun c_70 => ?_) (fun c_70 => ?_)
              · skip
                refine lv_iload_n SS.1 SS.2.1 dX11_cuts_76 rfl (lv_at hl 3 rfl) ?_
                refine j_if_ne SS (tgt := 90) (x := what) dX11_cuts_77 (by decide) (by omega) (fun c_77 => ?_) (fun c_77 => ?_)
                · skip
                  refine lv_aload_n SS.1 SS.2.1 dX11_cuts_90 rfl (lv_at hl 1 rfl) ?_
                  refine j_get SS hG hP 0 (v := .ref (q 6)) (C := RX11) (T := TX11) (N := 8) rfl rfl inX11 5 (by decide) (ref := "GridPolygons") kw_390 rfl rfl dX11_cuts_91 ?_
                  refine j_vRi SS (As := []) (rest := []) (c_X2_farthest l D q (sY (sX (sV (sV (sV (sV (sV (sL (sL (sL (sL (sI (sI (sI (sI (sI (sC u 9 n_67) 2 ls9_67) 3 gr9_67) 4 nu9_67) 7 fa_67) 8 pc9_67) 2 st2_67) 3 w3_67) 4 w4_67) 5 w5_67) 20 v20_67) 21 v21_67) 22 v22_67) 23 sp_67) 24 v24_67) 9 f_67) 9 g_67)   (show 0 ≤ v22_67 ∧ v22_67 ≤ 1500 from (by omega))) mf_X2_farthest kw_954 hG hP hP (ci := 2) (q0 := 6) rfl rfl rfl rfl hl.1 ⟨⟨Nat.le_of_ble_eq_true rfl, Nat.le_of_ble_eq_true rfl⟩, Nat.le_of_ble_eq_true rfl, Nat.le_refl _, Nat.le_refl _⟩ rfl dX11_cuts_94 (fun z_94 h_94 => ?_)
                  have h_94 : True := h_94
                  exact W.iret SS.1 SS.2.1 hr (fun t0 ht hW => ⟨⟨_, (sY (sX (sV (sV (sV (sV (sV (sL (sL (sL (sL (sI (sI (sI (sI (sI (sC u 9 n_67) 2 ls9_67) 3 gr9_67) 4 nu9_67) 7 fa_67) 8 pc9_67) 2 st2_67) 3 w3_67) 4 w4_67) 5 w5_67) 20 v20_67) 21 v21_67) 22 v22_67) 23 sp_67) 24 v24_67) 9 f_67) 9 g_67), rfl, ⟨z_94, rfl, (hCI)⟩, by show va_P D.1 j_cl (cW D q (sY (sX (sV (sV (sV (sV (sV (sL (sL (sL (sL (sI (sI (sI (sI (sI (sC u 9 n_67) 2 ls9_67) 3 gr9_67) 4 nu9_67) 7 fa_67) 8 pc9_67) 2 st2_67) 3 w3_67) 4 w4_67) 5 w5_67) 20 v20_67) 21 v21_67) 22 v22_67) 23 sp_67) 24 v24_67) 9 f_67) 9 g_67)) t0.heap; rw [ht]; first | exact hP | (simp only [sC_id, sX_id, sY_id, sH_id, sT_id, sV_id]; exact hP)⟩, hS.F ht⟩) hS.2.2 dX11_cuts_97 hlk
                · skip
                  refine lv_aload_n SS.1 SS.2.1 dX11_cuts_80 rfl (lv_at hl 1 rfl) ?_
                  refine j_get SS hG hP 0 (v := .ref (q 6)) (C := RX11) (T := TX11) (N := 8) rfl rfl inX11 5 (by decide) (ref := "GridPolygons") kw_390 rfl rfl dX11_cuts_81 ?_
                  refine j_get SS hG hP 6 (v := .int (J v22_67)) (C := RX2) (T := TX2) (N := 7) rfl rfl inX2 4 (by decide) (ref := "GridPolygons$Cuts") kw_345 rfl rfl dX11_cuts_84 ?_
                  refine lv_goto (tgt := 97) SS.1 SS.2.1 dX11_cuts_87 (by decide) ?_
                  exact W.iret SS.1 SS.2.1 hr (fun t0 ht hW => ⟨⟨_, (sY (sX (sV (sV (sV (sV (sV (sL (sL (sL (sL (sI (sI (sI (sI (sI (sC u 9 n_67) 2 ls9_67) 3 gr9_67) 4 nu9_67) 7 fa_67) 8 pc9_67) 2 st2_67) 3 w3_67) 4 w4_67) 5 w5_67) 20 v20_67) 21 v21_67) 22 v22_67) 23 sp_67) 24 v24_67) 9 f_67) 9 g_67), rfl, ⟨v22_67, rfl, (hCI)⟩, by show va_P D.1 j_cl (cW D q (sY (sX (sV (sV (sV (sV (sV (sL (sL (sL (sL (sI (sI (sI (sI (sI (sC u 9 n_67) 2 ls9_67) 3 gr9_67) 4 nu9_67) 7 fa_67) 8 pc9_67) 2 st2_67) 3 w3_67) 4 w4_67) 5 w5_67) 20 v20_67) 21 v21_67) 22 v22_67) 23 sp_67) 24 v24_67) 9 f_67) 9 g_67)) t0.heap; rw [ht]; first | exact hP | (simp only [sC_id, sX_id, sY_id, sH_id, sT_id, sV_id]; exact hP)⟩, hS.F ht⟩) hS.2.2 dX11_cuts_97 hlk
              · skip
                refine j_bipush SS dX11_cuts_73 (by decide +kernel) ?_
                exact W.iret SS.1 SS.2.1 hr (fun t0 ht hW => ⟨⟨_, (sY (sX (sV (sV (sV (sV (sV (sL (sL (sL (sL (sI (sI (sI (sI (sI (sC u 9 n_67) 2 ls9_67) 3 gr9_67) 4 nu9_67) 7 fa_67) 8 pc9_67) 2 st2_67) 3 w3_67) 4 w4_67) 5 w5_67) 20 v20_67) 21 v21_67) 22 v22_67) 23 sp_67) 24 v24_67) 9 f_67) 9 g_67), rfl, ⟨(-5), rfl, (hCI)⟩, by show va_P D.1 j_cl (cW D q (sY (sX (sV (sV (sV (sV (sV (sL (sL (sL (sL (sI (sI (sI (sI (sI (sC u 9 n_67) 2 ls9_67) 3 gr9_67) 4 nu9_67) 7 fa_67) 8 pc9_67) 2 st2_67) 3 w3_67) 4 w4_67) 5 w5_67) 20 v20_67) 21 v21_67) 22 v22_67) 23 sp_67) 24 v24_67) 9 f_67) 9 g_67)) t0.heap; rw [ht]; first | exact hP | (simp only [sC_id, sX_id, sY_id, sH_id, sT_id, sV_id]; exact hP)⟩, hS.F ht⟩) hS.2.2 dX11_cuts_75 hlk
            · skip
              refine lv_aload_n SS.1 SS.2.1 dX11_cuts_54 rfl (lv_at hl 0 rfl) ?_
              refine j_get SS hG hP (8 + 5 * i_2) (v := .ref (q (9 + 5 * i_2))) (C := RX10) (T := TX10) (N := 3) (cw_shape (by omega)) rfl inX10 0 (by decide) (ref := "GridPolygons$Shape") kw_151 rfl rfl dX11_cuts_55 ?_
              refine j_vRi SS (As := []) (rest := []) (c_X7_area l D q u i_2 (by omega) (40 : Int)  (show 0 ≤ (40 : Int) ∧ (40 : Int) ≤ 80 from (by omega)) (show RB (40 : Int) u i_2 from (CI_40 p0 (by omega)))) mf_X7_area kw_517 hG hP hP (ci := 7) (q0 := (9 + 5 * i_2)) rfl (cw_ring (by omega)) rfl rfl hl.1 ⟨⟨Nat.le_of_ble_eq_true rfl, Nat.le_of_ble_eq_true rfl⟩, Nat.le_of_ble_eq_true rfl, Nat.le_refl _, Nat.le_refl _⟩ rfl dX11_cuts_58 (fun z_58 h_58 => ?_)
              have h_58 : z_58 = rA u i_2 ∧ -10000000 ≤ z_58 ∧ z_58 ≤ 10000000 := h_58
              exact W.iret SS.1 SS.2.1 hr (fun t0 ht hW => ⟨⟨_, u, rfl, ⟨z_58, rfl, (p0)⟩, by show va_P D.1 j_cl (cW D q u) t0.heap; rw [ht]; first | exact hP | (simp only [sC_id, sX_id, sY_id, sH_id, sT_id, sV_id]; exact hP)⟩, hS.F ht⟩) hS.2.2 dX11_cuts_61 hlk
          · skip
            refine lv_aload_n SS.1 SS.2.1 dX11_cuts_41 rfl (lv_at hl 0 rfl) ?_
            refine j_get SS hG hP (8 + 5 * i_2) (v := .ref (q (9 + 5 * i_2))) (C := RX10) (T := TX10) (N := 3) (cw_shape (by omega)) rfl inX10 0 (by decide) (ref := "GridPolygons$Shape") kw_151 rfl rfl dX11_cuts_42 ?_
            refine j_sRi SS (As := [.ref (q (9 + 5 * i_2))]) (rest := []) (c_X11_segmentsOf l D q u i_2 (by omega)  (show RB 40 u i_2 from (CI_40 p0 (by omega)))) mf_X11_segmentsOf kw_862 hG hP rfl hl.1 ⟨⟨Nat.le_of_ble_eq_true rfl, Nat.le_of_ble_eq_true rfl⟩, Nat.le_of_ble_eq_true rfl, Nat.le_refl _, Nat.le_refl _⟩ rfl dX11_cuts_45 (fun z_45 h_45 => ?_)
            have h_45 : z_45 = (3 * rA u i_2 + rE u i_2).tdiv 2 ∧ -50000000 ≤ z_45 ∧ z_45 ≤ 50000000 := h_45
            exact W.iret SS.1 SS.2.1 hr (fun t0 ht hW => ⟨⟨_, u, rfl, ⟨z_45, rfl, (p0)⟩, by show va_P D.1 j_cl (cW D q u) t0.heap; rw [ht]; first | exact hP | (simp only [sC_id, sX_id, sY_id, sH_id, sT_id, sV_id]; exact hP)⟩, hS.F ht⟩) hS.2.2 dX11_cuts_48 hlk
        · skip
          refine j_bipush SS dX11_cuts_33 (by decide +kernel) ?_
          exact W.iret SS.1 SS.2.1 hr (fun t0 ht hW => ⟨⟨_, u, rfl, ⟨(-2), rfl, (p0)⟩, by show va_P D.1 j_cl (cW D q u) t0.heap; rw [ht]; first | exact hP | (simp only [sC_id, sX_id, sY_id, sH_id, sT_id, sV_id]; exact hP)⟩, hS.F ht⟩) hS.2.2 dX11_cuts_35 hlk
      · skip
        refine j_iconst SS dX11_cuts_19 ?_
        exact W.iret SS.1 SS.2.1 hr (fun t0 ht hW => ⟨⟨_, u, rfl, ⟨(-1), rfl, (p0)⟩, by show va_P D.1 j_cl (cW D q u) t0.heap; rw [ht]; first | exact hP | (simp only [sC_id, sX_id, sY_id, sH_id, sT_id, sV_id]; exact hP)⟩, hS.F ht⟩) hS.2.2 dX11_cuts_20 hlk
  · skip
    refine lv_astore_nN (lv' := [(3, .null), (0, .ref (q 0)), (1, .int (J s)), (2, .int (J what))]) SS.1 SS.2.1 dX11_cuts_5 rfl hl (by decide) rfl (fun ls hl => ?_)
    refine lv_aload_nN SS.1 SS.2.1 dX11_cuts_6 rfl (lv_at hl 0 rfl) ?_
    refine lv_ifnullN SS.1 SS.2.1 (tgt := 19) dX11_cuts_7 (by decide) ?_
    refine j_iconst SS dX11_cuts_19 ?_
    exact W.iret SS.1 SS.2.1 hr (fun t0 ht hW => ⟨⟨_, u, rfl, ⟨(-1), rfl, (p0)⟩, by show va_P D.1 j_cl (cW D q u) t0.heap; rw [ht]; first | exact hP | (simp only [sC_id, sX_id, sY_id, sH_id, sT_id, sV_id]; exact hP)⟩, hS.F ht⟩) hS.2.2 dX11_cuts_20 hlk

set_option maxHeartbeats 4000000 in
set_option maxRecDepth 100000 in
theorem c_X11_cut (l : Launch) (D : JD) (q : Nat → Nat) (u : CS) (A : Nat → Prop) (hD : va_D A (cW D q u)) (s : Int) (i : Int) (what : Int) (p0 : CI u) (p1 : -2147483648 ≤ s ∧ s ≤ 2147483647) (p2 : -2147483648 ≤ i ∧ i ≤ 2147483647) (p3 : -2147483648 ≤ what ∧ what ≤ 2147483647) : Met l yX11_cut (jw yX11_cut cX11_cut 5 (some .int)) (jr 7 149) (jP [.ref (q 0), .int (J s), .int (J i), .int (J what)] D (fun H => va_P D.1 j_cl (cW D q u) H)) (jWi (fun z u' => CI u') (fun u' H => va_P D.1 j_cl (cW D q u') H) A) 0 0 A := by
  refine Met.ofW (cc := cX11_cut) (maxL := 5) (ret := (some .int)) (by decide) rfl ?_
  intro pr en st mi args below meth co s₁ B hml hv
  obtain ⟨rfl, hG, hP⟩ := hv
  have hr := B.returns
  have hlk := B.notSynchronized
  have SS : jS pr mi co cX11_cut 5 st _ RX11 := ⟨B.exec, B.bytes, hml, findClass_of_methodNamed B.named, fun w hw => atoms_spec (ws := (jw yX11_cut cX11_cut 5 (some .int))) B.pre w (List.mem_cons_of_mem _ hw)⟩
  have hl := lv_entry ([.ref (q 0), .int (J s), .int (J i), .int (J what)]) (n := 5) (Nat.le_of_ble_eq_true rfl)
  rw [lg_entry_eq]
  generalize (lg_sl ([.ref (q 0), .int (J s), .int (J i), .int (J what)]) ++ List.replicate (5 - (lg_sl ([.ref (q 0), .int (J s), .int (J i), .int (J what)])).length) Slot.unset).toArray = ls at hl ⊢
  have hl : lv_has ls 5 [(0, .ref (q 0)), (1, .int (J s)), (2, .int (J i)), (3, .int (J what))] := hl
  have hS : va_S A st.heap st.heap [] := va_S.rf
  refine lv_aload_n SS.1 SS.2.1 dX11_cut_0 rfl (lv_at hl 0 rfl) ?_
  refine lv_iload_n SS.1 SS.2.1 dX11_cut_1 rfl (lv_at hl 1 rfl) ?_
  refine j_vSh SS (As := [.int (J s)]) (rest := []) (c_X11_shapeAt l D q u  s (show -2147483648 ≤ s ∧ s ≤ 2147483647 from (p1))) mf_X11_shapeAt kw_414 hG hP hP (ci := 11) (q0 := 0) rfl rfl rfl rfl hl.1 ⟨⟨Nat.le_of_ble_eq_true rfl, Nat.le_of_ble_eq_true rfl⟩, Nat.le_of_ble_eq_true rfl, Nat.le_refl _, Nat.le_refl _⟩ rfl dX11_cut_2 (fun i_2 hi_2 hz_2 => ?_) (fun hn_2 => ?_)
  · skip
    have hI2 := CI_s p0 (show i_2 < 8 by omega)
    have hI2c := hI2.1
    have hrl2 := rl_s (show i_2 < 8 by omega)
    refine lv_astore (lv' := [(4, .ref (q (8 + 5 * i_2))), (0, .ref (q 0)), (1, .int (J s)), (2, .int (J i)), (3, .int (J what))]) SS.1 SS.2.1 dX11_cut_5 hl (by decide) rfl (fun ls hl => ?_)
    refine lv_aload SS.1 SS.2.1 dX11_cut_7 (lv_at hl 0 rfl) ?_
    refine lv_ifnull SS.1 SS.2.1 dX11_cut_9 ?_
    refine lv_iload_n SS.1 SS.2.1 dX11_cut_12 rfl (lv_at hl 3 rfl) ?_
    refine j_if_lt SS (tgt := 21) (x := i) dX11_cut_13 (by decide) (by omega) (fun c_13 => ?_) (fun c_13 => ?_)
    · skip
      refine j_iconst SS dX11_cut_21 ?_
      exact W.iret SS.1 SS.2.1 hr (fun t0 ht hW => ⟨⟨_, u, rfl, ⟨(-1), rfl, (p0)⟩, by show va_P D.1 j_cl (cW D q u) t0.heap; rw [ht]; first | exact hP | (simp only [sC_id, sX_id, sY_id, sH_id, sT_id, sV_id]; exact hP)⟩, hS.F ht⟩) hS.2.2 dX11_cut_22 hlk
    · skip
      refine lv_iload_n SS.1 SS.2.1 dX11_cut_16 rfl (lv_at hl 4 rfl) ?_
      refine j_iconst SS dX11_cut_17 ?_
      refine j_icmp_ge SS (tgt := 23) (x := what) (y := (-1)) dX11_cut_18 (by decide) (by omega) (by decide) (fun c_18 => ?_) (fun c_18 => ?_)
      · skip
        refine lv_aload SS.1 SS.2.1 dX11_cut_23 (lv_at hl 0 rfl) ?_
        refine j_get SS hG hP (8 + 5 * i_2) (v := .ref (q (9 + 5 * i_2))) (C := RX10) (T := TX10) (N := 3) (cw_shape (by omega)) rfl inX10 0 (by decide) (ref := "GridPolygons$Shape") kw_151 rfl rfl dX11_cut_25 ?_
        refine j_bipush SS dX11_cut_28 (by decide +kernel) ?_
        refine j_sRi SS (As := [.ref (q (9 + 5 * i_2)), .int (J 12)]) (rest := []) (c_X11_hasAtMost l D q u i_2 (by omega) 12 (show RB 40 u i_2 from (CI_40 p0 (by omega))) (show -2147483648 ≤ (12 : Int) ∧ (12 : Int) ≤ 2147483647 from (by omega))) mf_X11_hasAtMost kw_859 hG hP rfl hl.1 ⟨⟨Nat.le_of_ble_eq_true rfl, Nat.le_of_ble_eq_true rfl⟩, Nat.le_of_ble_eq_true rfl, Nat.le_refl _, Nat.le_refl _⟩ rfl dX11_cut_30 (fun z_30 h_30 => ?_)
        have h_30 : (z_30 = 1 ∧ 3 ≤ (u.1.2.2.1 i_2) ∧ rE u i_2 + rI u i_2 ≤ (12 : Int)) ∨ z_30 = 0 := h_30
        refine j_if_ne SS (tgt := 39) (x := z_30) dX11_cut_33 (by decide) (by omega) (fun c_33 => ?_) (fun c_33 => ?_)
        · skip
          refine lv_iload_n SS.1 SS.2.1 dX11_cut_39 rfl (lv_at hl 4 rfl) ?_
          refine lv_aload SS.1 SS.2.1 dX11_cut_40 (lv_at hl 0 rfl) ?_
          refine j_get SS hG hP (8 + 5 * i_2) (v := .ref (q (9 + 5 * i_2))) (C := RX10) (T := TX10) (N := 3) (cw_shape (by omega)) rfl inX10 0 (by decide) (ref := "GridPolygons$Shape") kw_151 rfl rfl dX11_cut_42 ?_
          refine j_sRi SS (As := [.ref (q (9 + 5 * i_2))]) (rest := [.int (J what)]) (c_X11_segmentsOf l D q u i_2 (by omega)  (show RB 40 u i_2 from (CI_40 p0 (by omega)))) mf_X11_segmentsOf kw_862 hG hP rfl hl.1 ⟨⟨Nat.le_of_ble_eq_true rfl, Nat.le_of_ble_eq_true rfl⟩, Nat.le_of_ble_eq_true rfl, Nat.le_refl _, Nat.le_refl _⟩ rfl dX11_cut_45 (fun z_45 h_45 => ?_)
          have h_45 : z_45 = (3 * rA u i_2 + rE u i_2).tdiv 2 ∧ -50000000 ≤ z_45 ∧ z_45 ≤ 50000000 := h_45
          refine j_icmp_lt SS (tgt := 53) (x := what) (y := z_45) dX11_cut_48 (by decide) (by omega) (by omega) (fun c_48 => ?_) (fun c_48 => ?_)
          · skip
            refine lv_aload_n SS.1 SS.2.1 dX11_cut_53 rfl (lv_at hl 1 rfl) ?_
            refine j_get SS hG hP 0 (v := .ref (q 6)) (C := RX11) (T := TX11) (N := 8) rfl rfl inX11 5 (by decide) (ref := "GridPolygons") kw_390 rfl rfl dX11_cut_54 ?_
            refine lv_aload SS.1 SS.2.1 dX11_cut_57 (lv_at hl 0 rfl) ?_
            refine j_vWi SS (As := [.ref (q (8 + 5 * i_2))]) (rest := []) (c_X2_build l D q u A (cW_D hD) i_2 (by omega)  (show RB 40 u i_2 from (CI_40 p0 (by omega))) (show RB 40 u 9 from (p0.2.1.2.1)) (show ∀ k : Nat, 0 ≤ (u.2.1 2) k ∧ (u.2.1 2) k ≤ 12 from (fun k => (p0.2.2.2.2.2.1.2.2.1 k).1)) (show ∀ k : Nat, 0 ≤ (u.2.1 3) k ∧ (u.2.1 3) k ≤ 12 from (fun k => (p0.2.2.2.2.2.1.2.2.1 k).2)) (show ∀ k : Nat, -1 ≤ (u.2.1 4) k ∧ (u.2.1 4) k ≤ 63 from (p0.2.2.2.2.2.1.2.2.2)) (show 0 ≤ (u.2.2.2 20) ∧ (u.2.2.2 20) ≤ 63 from (p0.2.2.2.2.2.1.1)) (show 0 ≤ (u.2.2.2 21) ∧ (u.2.2.2 21) ≤ 756 from (p0.2.2.2.2.2.1.2.1)) (show 0 ≤ (u.2.2.2 22) ∧ (u.2.2.2 22) ≤ 1500 from (p0.2.2.2.2.2.2.1.1)) (show ∀ k : Nat, 0 ≤ (u.2.1 8) k ∧ (u.2.1 8) k ≤ 1500 from (p0.2.2.2.2.2.2.1.2.2.2)) (show (u.2.2.2 23) = 0 ∨ (u.2.2.2 23) = 1 from (p0.2.2.2.2.2.2.1.2.1)) (show -2147483648 ≤ (u.2.2.2 24) ∧ (u.2.2.2 24) ≤ 2147483647 from (p0.2.2.2.2.2.2.1.2.2.1)) (show -2147483648 ≤ (u.1.2.2.2.2 i_2) ∧ (u.1.2.2.2.2 i_2) ≤ 2147483647 from ((p0.1 i_2 (by omega)).2.2))) mf_X2_build kw_865 hG hP hP (ci := 2) (q0 := 6) rfl rfl rfl hS (fun _ h => h) rfl hl.1 ⟨⟨Nat.le_of_ble_eq_true rfl, Nat.le_of_ble_eq_true rfl⟩, Nat.le_of_ble_eq_true rfl, Nat.le_refl _, Nat.le_refl _⟩ rfl dX11_cut_59 (fun z_59 u59 H locs h_59 hP _ hS => ?_)
            obtain ⟨n_59, f_59, g_59, ls9_59, gr9_59, nu9_59, w3_59, w4_59, w5_59, v20_59, v21_59, st2_59, fa_59, pc9_59, v22_59, sp_59, v24_59, rfl, h_59⟩ := h_59
            have hP : va_P D.1 j_cl (cW D q (sY (sX (sV (sV (sV (sV (sV (sL (sL (sL (sL (sI (sI (sI (sI (sI (sC u 9 n_59) 2 ls9_59) 3 gr9_59) 4 nu9_59) 7 fa_59) 8 pc9_59) 2 st2_59) 3 w3_59) 4 w4_59) 5 w5_59) 20 v20_59) 21 v21_59) 22 v22_59) 23 sp_59) 24 v24_59) 9 f_59) 9 g_59)) H := hP
            have h_59 : (z_59 = 0 ∨ z_59 = 1) ∧ ((0 ≤ n_59 ∧ n_59 ≤ 12) ∧ RV 40 f_59 g_59) ∧ (∀ k : Nat, 0 ≤ ls9_59 k ∧ ls9_59 k ≤ 12) ∧ (∀ k : Nat, 0 ≤ gr9_59 k ∧ gr9_59 k ≤ 12) ∧ (∀ k : Nat, -1 ≤ nu9_59 k ∧ nu9_59 k ≤ 63) ∧ ((0 ≤ v20_59 ∧ v20_59 ≤ 63) ∧ 0 ≤ v21_59 ∧ v21_59 ≤ 756) ∧ ((0 ≤ v22_59 ∧ v22_59 ≤ 1500) ∧ (∀ k : Nat, 0 ≤ pc9_59 k ∧ pc9_59 k ≤ 1500) ∧ (sp_59 = 0 ∨ sp_59 = 1)) ∧ -2147483648 ≤ v24_59 ∧ v24_59 ≤ 2147483647 := h_59
            obtain ⟨hz9, hq9⟩ := h_59
            have hCI : CI (sY (sX (sV (sV (sV (sV (sV (sL (sL (sL (sL (sI (sI (sI (sI (sI (sC u 9 n_59) 2 ls9_59) 3 gr9_59) 4 nu9_59) 7 fa_59) 8 pc9_59) 2 st2_59) 3 w3_59) 4 w4_59) 5 w5_59) 20 v20_59) 21 v21_59) 22 v22_59) 23 sp_59) 24 v24_59) 9 f_59) 9 g_59) := CI_cu p0 hq9
            refine j_if_ne SS (tgt := 68) (x := z_59) dX11_cut_62 (by decide) (by omega) (fun c_62 => ?_) (fun c_62 => ?_)
            · skip
              refine lv_iload_n SS.1 SS.2.1 dX11_cut_68 rfl (lv_at hl 3 rfl) ?_
              refine lv_aload_n SS.1 SS.2.1 dX11_cut_69 rfl (lv_at hl 1 rfl) ?_
              refine j_get SS hG hP 0 (v := .ref (q 6)) (C := RX11) (T := TX11) (N := 8) rfl rfl inX11 5 (by decide) (ref := "GridPolygons") kw_390 rfl rfl dX11_cut_70 ?_
              refine j_get SS hG hP 6 (v := .int (J v22_59)) (C := RX2) (T := TX2) (N := 7) rfl rfl inX2 4 (by decide) (ref := "GridPolygons$Cuts") kw_345 rfl rfl dX11_cut_73 ?_
              refine j_icmp_lt SS (tgt := 81) (x := i) (y := v22_59) dX11_cut_76 (by decide) (by omega) (by omega) (fun c_76 => ?_) (fun c_76 => ?_)
              · skip
                refine lv_iload_n SS.1 SS.2.1 dX11_cut_81 rfl (lv_at hl 4 rfl) ?_
                refine j_iconst SS dX11_cut_82 ?_
                refine j_icmp_ne SS (tgt := 97) (x := what) (y := (-1)) dX11_cut_83 (by decide) (by omega) (by decide) (fun c_83 => ?_) (fun c_83 => ?_)
                · skip
                  refine lv_aload_n SS.1 SS.2.1 dX11_cut_97 rfl (lv_at hl 1 rfl) ?_
                  refine j_get SS hG hP 0 (v := .ref (q 6)) (C := RX11) (T := TX11) (N := 8) rfl rfl inX11 5 (by decide) (ref := "GridPolygons") kw_390 rfl rfl dX11_cut_98 ?_
                  refine lv_iload_n SS.1 SS.2.1 dX11_cut_101 rfl (lv_at hl 3 rfl) ?_
                  refine lv_iload_n SS.1 SS.2.1 dX11_cut_102 rfl (lv_at hl 4 rfl) ?_
                  refine j_vRi SS (As := [.int (J i), .int (J what)]) (rest := []) (c_X2_segmentAt l D q (sY (sX (sV (sV (sV (sV (sV (sL (sL (sL (sL (sI (sI (sI (sI (sI (sC u 9 n_59) 2 ls9_59) 3 gr9_59) 4 nu9_59) 7 fa_59) 8 pc9_59) 2 st2_59) 3 w3_59) 4 w4_59) 5 w5_59) 20 v20_59) 21 v21_59) 22 v22_59) 23 sp_59) 24 v24_59) 9 f_59) 9 g_59)  i what (show -2147483648 ≤ i ∧ i ≤ 2147483647 from (by omega)) (show 0 ≤ what ∧ what ≤ 2147483647 from (by omega)) (show 0 ≤ v20_59 ∧ v20_59 ≤ 63 from (by omega))) mf_X2_segmentAt kw_963 hG hP hP (ci := 2) (q0 := 6) rfl rfl rfl rfl hl.1 ⟨⟨Nat.le_of_ble_eq_true rfl, Nat.le_of_ble_eq_true rfl⟩, Nat.le_of_ble_eq_true rfl, Nat.le_refl _, Nat.le_refl _⟩ rfl dX11_cut_103 (fun z_103 h_103 => ?_)
                  have h_103 : True := h_103
                  exact W.iret SS.1 SS.2.1 hr (fun t0 ht hW => ⟨⟨_, (sY (sX (sV (sV (sV (sV (sV (sL (sL (sL (sL (sI (sI (sI (sI (sI (sC u 9 n_59) 2 ls9_59) 3 gr9_59) 4 nu9_59) 7 fa_59) 8 pc9_59) 2 st2_59) 3 w3_59) 4 w4_59) 5 w5_59) 20 v20_59) 21 v21_59) 22 v22_59) 23 sp_59) 24 v24_59) 9 f_59) 9 g_59), rfl, ⟨z_103, rfl, (hCI)⟩, by show va_P D.1 j_cl (cW D q (sY (sX (sV (sV (sV (sV (sV (sL (sL (sL (sL (sI (sI (sI (sI (sI (sC u 9 n_59) 2 ls9_59) 3 gr9_59) 4 nu9_59) 7 fa_59) 8 pc9_59) 2 st2_59) 3 w3_59) 4 w4_59) 5 w5_59) 20 v20_59) 21 v21_59) 22 v22_59) 23 sp_59) 24 v24_59) 9 f_59) 9 g_59)) t0.heap; rw [ht]; first | exact hP | (simp only [sC_id, sX_id, sY_id, sH_id, sT_id, sV_id]; exact hP)⟩, hS.F ht⟩) hS.2.2 dX11_cut_106 hlk
                · skip
                  refine lv_aload_n SS.1 SS.2.1 dX11_cut_86 rfl (lv_at hl 1 rfl) ?_
                  refine j_get SS hG hP 0 (v := .ref (q 6)) (C := RX11) (T := TX11) (N := 8) rfl rfl inX11 5 (by decide) (ref := "GridPolygons") kw_390 rfl rfl dX11_cut_87 ?_
                  refine lv_iload_n SS.1 SS.2.1 dX11_cut_90 rfl (lv_at hl 3 rfl) ?_
                  refine j_vRi SS (As := [.int (J i)]) (rest := []) (c_X2_farOf l D q (sY (sX (sV (sV (sV (sV (sV (sL (sL (sL (sL (sI (sI (sI (sI (sI (sC u 9 n_59) 2 ls9_59) 3 gr9_59) 4 nu9_59) 7 fa_59) 8 pc9_59) 2 st2_59) 3 w3_59) 4 w4_59) 5 w5_59) 20 v20_59) 21 v21_59) 22 v22_59) 23 sp_59) 24 v24_59) 9 f_59) 9 g_59)  i (show -2147483648 ≤ i ∧ i ≤ 2147483647 from (by omega))) mf_X2_farOf kw_962 hG hP hP (ci := 2) (q0 := 6) rfl rfl rfl rfl hl.1 ⟨⟨Nat.le_of_ble_eq_true rfl, Nat.le_of_ble_eq_true rfl⟩, Nat.le_of_ble_eq_true rfl, Nat.le_refl _, Nat.le_refl _⟩ rfl dX11_cut_91 (fun z_91 h_91 => ?_)
                  have h_91 : True := h_91
                  refine lv_goto (tgt := 106) SS.1 SS.2.1 dX11_cut_94 (by decide) ?_
                  exact W.iret SS.1 SS.2.1 hr (fun t0 ht hW => ⟨⟨_, (sY (sX (sV (sV (sV (sV (sV (sL (sL (sL (sL (sI (sI (sI (sI (sI (sC u 9 n_59) 2 ls9_59) 3 gr9_59) 4 nu9_59) 7 fa_59) 8 pc9_59) 2 st2_59) 3 w3_59) 4 w4_59) 5 w5_59) 20 v20_59) 21 v21_59) 22 v22_59) 23 sp_59) 24 v24_59) 9 f_59) 9 g_59), rfl, ⟨z_91, rfl, (hCI)⟩, by show va_P D.1 j_cl (cW D q (sY (sX (sV (sV (sV (sV (sV (sL (sL (sL (sL (sI (sI (sI (sI (sI (sC u 9 n_59) 2 ls9_59) 3 gr9_59) 4 nu9_59) 7 fa_59) 8 pc9_59) 2 st2_59) 3 w3_59) 4 w4_59) 5 w5_59) 20 v20_59) 21 v21_59) 22 v22_59) 23 sp_59) 24 v24_59) 9 f_59) 9 g_59)) t0.heap; rw [ht]; first | exact hP | (simp only [sC_id, sX_id, sY_id, sH_id, sT_id, sV_id]; exact hP)⟩, hS.F ht⟩) hS.2.2 dX11_cut_106 hlk
              · skip
                refine j_iconst SS dX11_cut_79 ?_
                exact W.iret SS.1 SS.2.1 hr (fun t0 ht hW => ⟨⟨_, (sY (sX (sV (sV (sV (sV (sV (sL (sL (sL (sL (sI (sI (sI (sI (sI (sC u 9 n_59) 2 ls9_59) 3 gr9_59) 4 nu9_59) 7 fa_59) 8 pc9_59) 2 st2_59) 3 w3_59) 4 w4_59) 5 w5_59) 20 v20_59) 21 v21_59) 22 v22_59) 23 sp_59) 24 v24_59) 9 f_59) 9 g_59), rfl, ⟨(-1), rfl, (hCI)⟩, by show va_P D.1 j_cl (cW D q (sY (sX (sV (sV (sV (sV (sV (sL (sL (sL (sL (sI (sI (sI (sI (sI (sC u 9 n_59) 2 ls9_59) 3 gr9_59) 4 nu9_59) 7 fa_59) 8 pc9_59) 2 st2_59) 3 w3_59) 4 w4_59) 5 w5_59) 20 v20_59) 21 v21_59) 22 v22_59) 23 sp_59) 24 v24_59) 9 f_59) 9 g_59)) t0.heap; rw [ht]; first | exact hP | (simp only [sC_id, sX_id, sY_id, sH_id, sT_id, sV_id]; exact hP)⟩, hS.F ht⟩) hS.2.2 dX11_cut_80 hlk
            · skip
              refine j_bipush SS dX11_cut_65 (by decide +kernel) ?_
              exact W.iret SS.1 SS.2.1 hr (fun t0 ht hW => ⟨⟨_, (sY (sX (sV (sV (sV (sV (sV (sL (sL (sL (sL (sI (sI (sI (sI (sI (sC u 9 n_59) 2 ls9_59) 3 gr9_59) 4 nu9_59) 7 fa_59) 8 pc9_59) 2 st2_59) 3 w3_59) 4 w4_59) 5 w5_59) 20 v20_59) 21 v21_59) 22 v22_59) 23 sp_59) 24 v24_59) 9 f_59) 9 g_59), rfl, ⟨(-5), rfl, (hCI)⟩, by show va_P D.1 j_cl (cW D q (sY (sX (sV (sV (sV (sV (sV (sL (sL (sL (sL (sI (sI (sI (sI (sI (sC u 9 n_59) 2 ls9_59) 3 gr9_59) 4 nu9_59) 7 fa_59) 8 pc9_59) 2 st2_59) 3 w3_59) 4 w4_59) 5 w5_59) 20 v20_59) 21 v21_59) 22 v22_59) 23 sp_59) 24 v24_59) 9 f_59) 9 g_59)) t0.heap; rw [ht]; first | exact hP | (simp only [sC_id, sX_id, sY_id, sH_id, sT_id, sV_id]; exact hP)⟩, hS.F ht⟩) hS.2.2 dX11_cut_67 hlk
          · skip
            refine j_iconst SS dX11_cut_51 ?_
            exact W.iret SS.1 SS.2.1 hr (fun t0 ht hW => ⟨⟨_, u, rfl, ⟨(-1), rfl, (p0)⟩, by show va_P D.1 j_cl (cW D q u) t0.heap; rw [ht]; first | exact hP | (simp only [sC_id, sX_id, sY_id, sH_id, sT_id, sV_id]; exact hP)⟩, hS.F ht⟩) hS.2.2 dX11_cut_52 hlk
        · skip
          refine j_bipush SS dX11_cut_36 (by decide +kernel) ?_
          exact W.iret SS.1 SS.2.1 hr (fun t0 ht hW => ⟨⟨_, u, rfl, ⟨(-2), rfl, (p0)⟩, by show va_P D.1 j_cl (cW D q u) t0.heap; rw [ht]; first | exact hP | (simp only [sC_id, sX_id, sY_id, sH_id, sT_id, sV_id]; exact hP)⟩, hS.F ht⟩) hS.2.2 dX11_cut_38 hlk
      · skip
        refine j_iconst SS dX11_cut_21 ?_
        exact W.iret SS.1 SS.2.1 hr (fun t0 ht hW => ⟨⟨_, u, rfl, ⟨(-1), rfl, (p0)⟩, by show va_P D.1 j_cl (cW D q u) t0.heap; rw [ht]; first | exact hP | (simp only [sC_id, sX_id, sY_id, sH_id, sT_id, sV_id]; exact hP)⟩, hS.F ht⟩) hS.2.2 dX11_cut_22 hlk
  · skip
    refine lv_astoreN (lv' := [(4, .null), (0, .ref (q 0)), (1, .int (J s)), (2, .int (J i)), (3, .int (J what))]) SS.1 SS.2.1 dX11_cut_5 hl (by decide) rfl (fun ls hl => ?_)
    refine lv_aloadN SS.1 SS.2.1 dX11_cut_7 (lv_at hl 0 rfl) ?_
    refine lv_ifnullN SS.1 SS.2.1 (tgt := 21) dX11_cut_9 (by decide) ?_
    refine j_iconst SS dX11_cut_21 ?_
    exact W.iret SS.1 SS.2.1 hr (fun t0 ht hW => ⟨⟨_, u, rfl, ⟨(-1), rfl, (p0)⟩, by show va_P D.1 j_cl (cW D q u) t0.heap; rw [ht]; first | exact hP | (simp only [sC_id, sX_id, sY_id, sH_id, sT_id, sV_id]; exact hP)⟩, hS.F ht⟩) hS.2.2 dX11_cut_22 hlk

set_option maxHeartbeats 4000000 in
set_option maxRecDepth 100000 in
theorem c_X11_flips (l : Launch) (D : JD) (q : Nat → Nat) (u : CS) (A : Nat → Prop) (hD : va_D A (cW D q u)) (s : Int) (i : Int) (p0 : CI u) (p1 : -2147483648 ≤ s ∧ s ≤ 2147483647) (p2 : -2147483648 ≤ i ∧ i ≤ 2147483647) : Met l yX11_flips (jw yX11_flips cX11_flips 4 (some .int)) (jr 7 149) (jP [.ref (q 0), .int (J s), .int (J i)] D (fun H => va_P D.1 j_cl (cW D q u) H)) (jWi (fun z u' => CI u') (fun u' H => va_P D.1 j_cl (cW D q u') H) A) 0 0 A := by
  refine Met.ofW (cc := cX11_flips) (maxL := 4) (ret := (some .int)) (by decide) rfl ?_
  intro pr en st mi args below meth co s₁ B hml hv
  obtain ⟨rfl, hG, hP⟩ := hv
  have hr := B.returns
  have hlk := B.notSynchronized
  have SS : jS pr mi co cX11_flips 4 st _ RX11 := ⟨B.exec, B.bytes, hml, findClass_of_methodNamed B.named, fun w hw => atoms_spec (ws := (jw yX11_flips cX11_flips 4 (some .int))) B.pre w (List.mem_cons_of_mem _ hw)⟩
  have hl := lv_entry ([.ref (q 0), .int (J s), .int (J i)]) (n := 4) (Nat.le_of_ble_eq_true rfl)
  rw [lg_entry_eq]
  generalize (lg_sl ([.ref (q 0), .int (J s), .int (J i)]) ++ List.replicate (4 - (lg_sl ([.ref (q 0), .int (J s), .int (J i)])).length) Slot.unset).toArray = ls at hl ⊢
  have hl : lv_has ls 4 [(0, .ref (q 0)), (1, .int (J s)), (2, .int (J i))] := hl
  have hS : va_S A st.heap st.heap [] := va_S.rf
  refine lv_aload_n SS.1 SS.2.1 dX11_flips_0 rfl (lv_at hl 0 rfl) ?_
  refine lv_iload_n SS.1 SS.2.1 dX11_flips_1 rfl (lv_at hl 1 rfl) ?_
  refine j_vSh SS (As := [.int (J s)]) (rest := []) (c_X11_shapeAt l D q u  s (show -2147483648 ≤ s ∧ s ≤ 2147483647 from (p1))) mf_X11_shapeAt kw_414 hG hP hP (ci := 11) (q0 := 0) rfl rfl rfl rfl hl.1 ⟨⟨Nat.le_of_ble_eq_true rfl, Nat.le_of_ble_eq_true rfl⟩, Nat.le_of_ble_eq_true rfl, Nat.le_refl _, Nat.le_refl _⟩ rfl dX11_flips_2 (fun i_2 hi_2 hz_2 => ?_) (fun hn_2 => ?_)
  · skip
    have hI2 := CI_s p0 (show i_2 < 8 by omega)
    have hI2c := hI2.1
    have hrl2 := rl_s (show i_2 < 8 by omega)
    refine lv_astore_n (lv' := [(3, .ref (q (8 + 5 * i_2))), (0, .ref (q 0)), (1, .int (J s)), (2, .int (J i))]) SS.1 SS.2.1 dX11_flips_5 rfl hl (by decide) rfl (fun ls hl => ?_)
    refine lv_aload_n SS.1 SS.2.1 dX11_flips_6 rfl (lv_at hl 0 rfl) ?_
    refine lv_ifnull SS.1 SS.2.1 dX11_flips_7 ?_
    refine lv_iload_n SS.1 SS.2.1 dX11_flips_10 rfl (lv_at hl 3 rfl) ?_
    refine j_if_ge SS (tgt := 16) (x := i) dX11_flips_11 (by decide) (by omega) (fun c_11 => ?_) (fun c_11 => ?_)
    · skip
      refine lv_aload_n SS.1 SS.2.1 dX11_flips_16 rfl (lv_at hl 0 rfl) ?_
      refine j_get SS hG hP (8 + 5 * i_2) (v := .ref (q (9 + 5 * i_2))) (C := RX10) (T := TX10) (N := 3) (cw_shape (by omega)) rfl inX10 0 (by decide) (ref := "GridPolygons$Shape") kw_151 rfl rfl dX11_flips_17 ?_
      refine j_bipush SS dX11_flips_20 (by decide +kernel) ?_
      refine j_sRi SS (As := [.ref (q (9 + 5 * i_2)), .int (J 12)]) (rest := []) (c_X11_hasAtMost l D q u i_2 (by omega) 12 (show RB 40 u i_2 from (CI_40 p0 (by omega))) (show -2147483648 ≤ (12 : Int) ∧ (12 : Int) ≤ 2147483647 from (by omega))) mf_X11_hasAtMost kw_859 hG hP rfl hl.1 ⟨⟨Nat.le_of_ble_eq_true rfl, Nat.le_of_ble_eq_true rfl⟩, Nat.le_of_ble_eq_true rfl, Nat.le_refl _, Nat.le_refl _⟩ rfl dX11_flips_22 (fun z_22 h_22 => ?_)
      have h_22 : (z_22 = 1 ∧ 3 ≤ (u.1.2.2.1 i_2) ∧ rE u i_2 + rI u i_2 ≤ (12 : Int)) ∨ z_22 = 0 := h_22
      refine j_if_ne SS (tgt := 31) (x := z_22) dX11_flips_25 (by decide) (by omega) (fun c_25 => ?_) (fun c_25 => ?_)
      · skip
        refine lv_aload_n SS.1 SS.2.1 dX11_flips_31 rfl (lv_at hl 1 rfl) ?_
        refine j_get SS hG hP 0 (v := .ref (q 6)) (C := RX11) (T := TX11) (N := 8) rfl rfl inX11 5 (by decide) (ref := "GridPolygons") kw_390 rfl rfl dX11_flips_32 ?_
        refine lv_aload_n SS.1 SS.2.1 dX11_flips_35 rfl (lv_at hl 0 rfl) ?_
        refine j_vWi SS (As := [.ref (q (8 + 5 * i_2))]) (rest := []) (c_X2_build l D q u A (cW_D hD) i_2 (by omega)  (show RB 40 u i_2 from (CI_40 p0 (by omega))) (show RB 40 u 9 from (p0.2.1.2.1)) (show ∀ k : Nat, 0 ≤ (u.2.1 2) k ∧ (u.2.1 2) k ≤ 12 from (fun k => (p0.2.2.2.2.2.1.2.2.1 k).1)) (show ∀ k : Nat, 0 ≤ (u.2.1 3) k ∧ (u.2.1 3) k ≤ 12 from (fun k => (p0.2.2.2.2.2.1.2.2.1 k).2)) (show ∀ k : Nat, -1 ≤ (u.2.1 4) k ∧ (u.2.1 4) k ≤ 63 from (p0.2.2.2.2.2.1.2.2.2)) (show 0 ≤ (u.2.2.2 20) ∧ (u.2.2.2 20) ≤ 63 from (p0.2.2.2.2.2.1.1)) (show 0 ≤ (u.2.2.2 21) ∧ (u.2.2.2 21) ≤ 756 from (p0.2.2.2.2.2.1.2.1)) (show 0 ≤ (u.2.2.2 22) ∧ (u.2.2.2 22) ≤ 1500 from (p0.2.2.2.2.2.2.1.1)) (show ∀ k : Nat, 0 ≤ (u.2.1 8) k ∧ (u.2.1 8) k ≤ 1500 from (p0.2.2.2.2.2.2.1.2.2.2)) (show (u.2.2.2 23) = 0 ∨ (u.2.2.2 23) = 1 from (p0.2.2.2.2.2.2.1.2.1)) (show -2147483648 ≤ (u.2.2.2 24) ∧ (u.2.2.2 24) ≤ 2147483647 from (p0.2.2.2.2.2.2.1.2.2.1)) (show -2147483648 ≤ (u.1.2.2.2.2 i_2) ∧ (u.1.2.2.2.2 i_2) ≤ 2147483647 from ((p0.1 i_2 (by omega)).2.2))) mf_X2_build kw_865 hG hP hP (ci := 2) (q0 := 6) rfl rfl rfl hS (fun _ h => h) rfl hl.1 ⟨⟨Nat.le_of_ble_eq_true rfl, Nat.le_of_ble_eq_true rfl⟩, Nat.le_of_ble_eq_true rfl, Nat.le_refl _, Nat.le_refl _⟩ rfl dX11_flips_36 (fun z_36 u36 H locs h_36 hP _ hS => ?_)
        obtain ⟨n_36, f_36, g_36, ls9_36, gr9_36, nu9_36, w3_36, w4_36, w5_36, v20_36, v21_36, st2_36, fa_36, pc9_36, v22_36, sp_36, v24_36, rfl, h_36⟩ := h_36
        have hP : va_P D.1 j_cl (cW D q (sY (sX (sV (sV (sV (sV (sV (sL (sL (sL (sL (sI (sI (sI (sI (sI (sC u 9 n_36) 2 ls9_36) 3 gr9_36) 4 nu9_36) 7 fa_36) 8 pc9_36) 2 st2_36) 3 w3_36) 4 w4_36) 5 w5_36) 20 v20_36) 21 v21_36) 22 v22_36) 23 sp_36) 24 v24_36) 9 f_36) 9 g_36)) H := hP
        have h_36 : (z_36 = 0 ∨ z_36 = 1) ∧ ((0 ≤ n_36 ∧ n_36 ≤ 12) ∧ RV 40 f_36 g_36) ∧ (∀ k : Nat, 0 ≤ ls9_36 k ∧ ls9_36 k ≤ 12) ∧ (∀ k : Nat, 0 ≤ gr9_36 k ∧ gr9_36 k ≤ 12) ∧ (∀ k : Nat, -1 ≤ nu9_36 k ∧ nu9_36 k ≤ 63) ∧ ((0 ≤ v20_36 ∧ v20_36 ≤ 63) ∧ 0 ≤ v21_36 ∧ v21_36 ≤ 756) ∧ ((0 ≤ v22_36 ∧ v22_36 ≤ 1500) ∧ (∀ k : Nat, 0 ≤ pc9_36 k ∧ pc9_36 k ≤ 1500) ∧ (sp_36 = 0 ∨ sp_36 = 1)) ∧ -2147483648 ≤ v24_36 ∧ v24_36 ≤ 2147483647 := h_36
        obtain ⟨hz9, hq9⟩ := h_36
        have hCI : CI (sY (sX (sV (sV (sV (sV (sV (sL (sL (sL (sL (sI (sI (sI (sI (sI (sC u 9 n_36) 2 ls9_36) 3 gr9_36) 4 nu9_36) 7 fa_36) 8 pc9_36) 2 st2_36) 3 w3_36) 4 w4_36) 5 w5_36) 20 v20_36) 21 v21_36) 22 v22_36) 23 sp_36) 24 v24_36) 9 f_36) 9 g_36) := CI_cu p0 hq9
        refine j_if_ne SS (tgt := 45) (x := z_36) dX11_flips_39 (by decide) (by omega) (fun c_39 => ?_) (fun c_39 => ?_)
        · skip
          refine lv_iload_n SS.1 SS.2.1 dX11_flips_45 rfl (lv_at hl 3 rfl) ?_
          refine lv_aload_n SS.1 SS.2.1 dX11_flips_46 rfl (lv_at hl 1 rfl) ?_
          refine j_get SS hG hP 0 (v := .ref (q 6)) (C := RX11) (T := TX11) (N := 8) rfl rfl inX11 5 (by decide) (ref := "GridPolygons") kw_390 rfl rfl dX11_flips_47 ?_
          refine j_get SS hG hP 6 (v := .int (J v22_36)) (C := RX2) (T := TX2) (N := 7) rfl rfl inX2 4 (by decide) (ref := "GridPolygons$Cuts") kw_345 rfl rfl dX11_flips_50 ?_
          refine j_icmp_lt SS (tgt := 60) (x := i) (y := v22_36) dX11_flips_53 (by decide) (by omega) (by omega) (fun c_53 => ?_) (fun c_53 => ?_)
          · skip
            refine lv_aload_n SS.1 SS.2.1 dX11_flips_60 rfl (lv_at hl 1 rfl) ?_
            refine j_get SS hG hP 0 (v := .ref (q 6)) (C := RX11) (T := TX11) (N := 8) rfl rfl inX11 5 (by decide) (ref := "GridPolygons") kw_390 rfl rfl dX11_flips_61 ?_
            refine lv_iload_n SS.1 SS.2.1 dX11_flips_64 rfl (lv_at hl 3 rfl) ?_
            refine j_vRi SS (As := [.int (J i)]) (rest := []) (c_X2_flipsOf l D q (sY (sX (sV (sV (sV (sV (sV (sL (sL (sL (sL (sI (sI (sI (sI (sI (sC u 9 n_36) 2 ls9_36) 3 gr9_36) 4 nu9_36) 7 fa_36) 8 pc9_36) 2 st2_36) 3 w3_36) 4 w4_36) 5 w5_36) 20 v20_36) 21 v21_36) 22 v22_36) 23 sp_36) 24 v24_36) 9 f_36) 9 g_36)  i (show -2147483648 ≤ i ∧ i ≤ 2147483647 from (by omega)) (show 0 ≤ v21_36 ∧ v21_36 ≤ 756 from (by omega))) mf_X2_flipsOf kw_975 hG hP hP (ci := 2) (q0 := 6) rfl rfl rfl rfl hl.1 ⟨⟨Nat.le_of_ble_eq_true rfl, Nat.le_of_ble_eq_true rfl⟩, Nat.le_of_ble_eq_true rfl, Nat.le_refl _, Nat.le_refl _⟩ rfl dX11_flips_65 (fun z_65 h_65 => ?_)
            have h_65 : 0 ≤ z_65 ∧ z_65 ≤ 756 := h_65
            exact W.iret SS.1 SS.2.1 hr (fun t0 ht hW => ⟨⟨_, (sY (sX (sV (sV (sV (sV (sV (sL (sL (sL (sL (sI (sI (sI (sI (sI (sC u 9 n_36) 2 ls9_36) 3 gr9_36) 4 nu9_36) 7 fa_36) 8 pc9_36) 2 st2_36) 3 w3_36) 4 w4_36) 5 w5_36) 20 v20_36) 21 v21_36) 22 v22_36) 23 sp_36) 24 v24_36) 9 f_36) 9 g_36), rfl, ⟨z_65, rfl, (hCI)⟩, by show va_P D.1 j_cl (cW D q (sY (sX (sV (sV (sV (sV (sV (sL (sL (sL (sL (sI (sI (sI (sI (sI (sC u 9 n_36) 2 ls9_36) 3 gr9_36) 4 nu9_36) 7 fa_36) 8 pc9_36) 2 st2_36) 3 w3_36) 4 w4_36) 5 w5_36) 20 v20_36) 21 v21_36) 22 v22_36) 23 sp_36) 24 v24_36) 9 f_36) 9 g_36)) t0.heap; rw [ht]; first | exact hP | (simp only [sC_id, sX_id, sY_id, sH_id, sT_id, sV_id]; exact hP)⟩, hS.F ht⟩) hS.2.2 dX11_flips_68 hlk
          · skip
            refine j_iconst SS dX11_flips_56 ?_
            refine lv_goto (tgt := 68) SS.1 SS.2.1 dX11_flips_57 (by decide) ?_
            exact W.iret SS.1 SS.2.1 hr (fun t0 ht hW => ⟨⟨_, (sY (sX (sV (sV (sV (sV (sV (sL (sL (sL (sL (sI (sI (sI (sI (sI (sC u 9 n_36) 2 ls9_36) 3 gr9_36) 4 nu9_36) 7 fa_36) 8 pc9_36) 2 st2_36) 3 w3_36) 4 w4_36) 5 w5_36) 20 v20_36) 21 v21_36) 22 v22_36) 23 sp_36) 24 v24_36) 9 f_36) 9 g_36), rfl, ⟨(-1), rfl, (hCI)⟩, by show va_P D.1 j_cl (cW D q (sY (sX (sV (sV (sV (sV (sV (sL (sL (sL (sL (sI (sI (sI (sI (sI (sC u 9 n_36) 2 ls9_36) 3 gr9_36) 4 nu9_36) 7 fa_36) 8 pc9_36) 2 st2_36) 3 w3_36) 4 w4_36) 5 w5_36) 20 v20_36) 21 v21_36) 22 v22_36) 23 sp_36) 24 v24_36) 9 f_36) 9 g_36)) t0.heap; rw [ht]; first | exact hP | (simp only [sC_id, sX_id, sY_id, sH_id, sT_id, sV_id]; exact hP)⟩, hS.F ht⟩) hS.2.2 dX11_flips_68 hlk
        · skip
          refine j_bipush SS dX11_flips_42 (by decide +kernel) ?_
          exact W.iret SS.1 SS.2.1 hr (fun t0 ht hW => ⟨⟨_, (sY (sX (sV (sV (sV (sV (sV (sL (sL (sL (sL (sI (sI (sI (sI (sI (sC u 9 n_36) 2 ls9_36) 3 gr9_36) 4 nu9_36) 7 fa_36) 8 pc9_36) 2 st2_36) 3 w3_36) 4 w4_36) 5 w5_36) 20 v20_36) 21 v21_36) 22 v22_36) 23 sp_36) 24 v24_36) 9 f_36) 9 g_36), rfl, ⟨(-5), rfl, (hCI)⟩, by show va_P D.1 j_cl (cW D q (sY (sX (sV (sV (sV (sV (sV (sL (sL (sL (sL (sI (sI (sI (sI (sI (sC u 9 n_36) 2 ls9_36) 3 gr9_36) 4 nu9_36) 7 fa_36) 8 pc9_36) 2 st2_36) 3 w3_36) 4 w4_36) 5 w5_36) 20 v20_36) 21 v21_36) 22 v22_36) 23 sp_36) 24 v24_36) 9 f_36) 9 g_36)) t0.heap; rw [ht]; first | exact hP | (simp only [sC_id, sX_id, sY_id, sH_id, sT_id, sV_id]; exact hP)⟩, hS.F ht⟩) hS.2.2 dX11_flips_44 hlk
      · skip
        refine j_bipush SS dX11_flips_28 (by decide +kernel) ?_
        exact W.iret SS.1 SS.2.1 hr (fun t0 ht hW => ⟨⟨_, u, rfl, ⟨(-2), rfl, (p0)⟩, by show va_P D.1 j_cl (cW D q u) t0.heap; rw [ht]; first | exact hP | (simp only [sC_id, sX_id, sY_id, sH_id, sT_id, sV_id]; exact hP)⟩, hS.F ht⟩) hS.2.2 dX11_flips_30 hlk
    · skip
      refine j_iconst SS dX11_flips_14 ?_
      exact W.iret SS.1 SS.2.1 hr (fun t0 ht hW => ⟨⟨_, u, rfl, ⟨(-1), rfl, (p0)⟩, by show va_P D.1 j_cl (cW D q u) t0.heap; rw [ht]; first | exact hP | (simp only [sC_id, sX_id, sY_id, sH_id, sT_id, sV_id]; exact hP)⟩, hS.F ht⟩) hS.2.2 dX11_flips_15 hlk
  · skip
    refine lv_astore_nN (lv' := [(3, .null), (0, .ref (q 0)), (1, .int (J s)), (2, .int (J i))]) SS.1 SS.2.1 dX11_flips_5 rfl hl (by decide) rfl (fun ls hl => ?_)
    refine lv_aload_nN SS.1 SS.2.1 dX11_flips_6 rfl (lv_at hl 0 rfl) ?_
    refine lv_ifnullN SS.1 SS.2.1 (tgt := 14) dX11_flips_7 (by decide) ?_
    refine j_iconst SS dX11_flips_14 ?_
    exact W.iret SS.1 SS.2.1 hr (fun t0 ht hW => ⟨⟨_, u, rfl, ⟨(-1), rfl, (p0)⟩, by show va_P D.1 j_cl (cW D q u) t0.heap; rw [ht]; first | exact hP | (simp only [sC_id, sX_id, sY_id, sH_id, sT_id, sV_id]; exact hP)⟩, hS.F ht⟩) hS.2.2 dX11_flips_15 hlk

set_option maxHeartbeats 4000000 in
set_option maxRecDepth 100000 in
theorem c_X11_pieces (l : Launch) (D : JD) (q : Nat → Nat) (u : CS) (A : Nat → Prop) (hD : va_D A (cW D q u)) (s : Int) (what : Int) (p0 : CI u) (p1 : -2147483648 ≤ s ∧ s ≤ 2147483647) (p2 : -2147483648 ≤ what ∧ what ≤ 2147483647) : Met l yX11_pieces (jw yX11_pieces cX11_pieces 4 (some .int)) (jr 7 149) (jP [.ref (q 0), .int (J s), .int (J what)] D (fun H => va_P D.1 j_cl (cW D q u) H)) (jWi (fun z u' => CI u') (fun u' H => va_P D.1 j_cl (cW D q u') H) A) 0 0 A := by
  refine Met.ofW (cc := cX11_pieces) (maxL := 4) (ret := (some .int)) (by decide) rfl ?_
  intro pr en st mi args below meth co s₁ B hml hv
  obtain ⟨rfl, hG, hP⟩ := hv
  have hr := B.returns
  have hlk := B.notSynchronized
  have SS : jS pr mi co cX11_pieces 4 st _ RX11 := ⟨B.exec, B.bytes, hml, findClass_of_methodNamed B.named, fun w hw => atoms_spec (ws := (jw yX11_pieces cX11_pieces 4 (some .int))) B.pre w (List.mem_cons_of_mem _ hw)⟩
  have hl := lv_entry ([.ref (q 0), .int (J s), .int (J what)]) (n := 4) (Nat.le_of_ble_eq_true rfl)
  rw [lg_entry_eq]
  generalize (lg_sl ([.ref (q 0), .int (J s), .int (J what)]) ++ List.replicate (4 - (lg_sl ([.ref (q 0), .int (J s), .int (J what)])).length) Slot.unset).toArray = ls at hl ⊢
  have hl : lv_has ls 4 [(0, .ref (q 0)), (1, .int (J s)), (2, .int (J what))] := hl
  have hS : va_S A st.heap st.heap [] := va_S.rf
  refine lv_aload_n SS.1 SS.2.1 dX11_pieces_0 rfl (lv_at hl 0 rfl) ?_
  refine lv_iload_n SS.1 SS.2.1 dX11_pieces_1 rfl (lv_at hl 1 rfl) ?_
  refine j_vSh SS (As := [.int (J s)]) (rest := []) (c_X11_shapeAt l D q u  s (show -2147483648 ≤ s ∧ s ≤ 2147483647 from (p1))) mf_X11_shapeAt kw_414 hG hP hP (ci := 11) (q0 := 0) rfl rfl rfl rfl hl.1 ⟨⟨Nat.le_of_ble_eq_true rfl, Nat.le_of_ble_eq_true rfl⟩, Nat.le_of_ble_eq_true rfl, Nat.le_refl _, Nat.le_refl _⟩ rfl dX11_pieces_2 (fun i_2 hi_2 hz_2 => ?_) (fun hn_2 => ?_)
  · skip
    have hI2 := CI_s p0 (show i_2 < 8 by omega)
    have hI2c := hI2.1
    have hrl2 := rl_s (show i_2 < 8 by omega)
    refine lv_astore_n (lv' := [(3, .ref (q (8 + 5 * i_2))), (0, .ref (q 0)), (1, .int (J s)), (2, .int (J what))]) SS.1 SS.2.1 dX11_pieces_5 rfl hl (by decide) rfl (fun ls hl => ?_)
    refine lv_aload_n SS.1 SS.2.1 dX11_pieces_6 rfl (lv_at hl 0 rfl) ?_
    refine lv_ifnull SS.1 SS.2.1 dX11_pieces_7 ?_
    refine lv_iload_n SS.1 SS.2.1 dX11_pieces_10 rfl (lv_at hl 3 rfl) ?_
    refine j_if_lt SS (tgt := 19) (x := what) dX11_pieces_11 (by decide) (by omega) (fun c_11 => ?_) (fun c_11 => ?_)
    · skip
      refine j_iconst SS dX11_pieces_19 ?_
      exact W.iret SS.1 SS.2.1 hr (fun t0 ht hW => ⟨⟨_, u, rfl, ⟨(-1), rfl, (p0)⟩, by show va_P D.1 j_cl (cW D q u) t0.heap; rw [ht]; first | exact hP | (simp only [sC_id, sX_id, sY_id, sH_id, sT_id, sV_id]; exact hP)⟩, hS.F ht⟩) hS.2.2 dX11_pieces_20 hlk
    · skip
      refine lv_iload_n SS.1 SS.2.1 dX11_pieces_14 rfl (lv_at hl 3 rfl) ?_
      refine j_iconst SS dX11_pieces_15 ?_
      refine j_icmp_le SS (tgt := 21) (x := what) (y := 2) dX11_pieces_16 (by decide) (by omega) (by decide) (fun c_16 => ?_) (fun c_16 => ?_)
      · skip
        refine lv_aload_n SS.1 SS.2.1 dX11_pieces_21 rfl (lv_at hl 0 rfl) ?_
        refine j_get SS hG hP (8 + 5 * i_2) (v := .ref (q (9 + 5 * i_2))) (C := RX10) (T := TX10) (N := 3) (cw_shape (by omega)) rfl inX10 0 (by decide) (ref := "GridPolygons$Shape") kw_151 rfl rfl dX11_pieces_22 ?_
        refine j_bipush SS dX11_pieces_25 (by decide +kernel) ?_
        refine j_sRi SS (As := [.ref (q (9 + 5 * i_2)), .int (J 40)]) (rest := []) (c_X11_hasAtMost l D q u i_2 (by omega) 40 (show RB 40 u i_2 from (CI_40 p0 (by omega))) (show -2147483648 ≤ (40 : Int) ∧ (40 : Int) ≤ 2147483647 from (by omega))) mf_X11_hasAtMost kw_859 hG hP rfl hl.1 ⟨⟨Nat.le_of_ble_eq_true rfl, Nat.le_of_ble_eq_true rfl⟩, Nat.le_of_ble_eq_true rfl, Nat.le_refl _, Nat.le_refl _⟩ rfl dX11_pieces_27 (fun z_27 h_27 => ?_)
        have h_27 : (z_27 = 1 ∧ 3 ≤ (u.1.2.2.1 i_2) ∧ rE u i_2 + rI u i_2 ≤ (40 : Int)) ∨ z_27 = 0 := h_27
        refine j_if_ne SS (tgt := 36) (x := z_27) dX11_pieces_30 (by decide) (by omega) (fun c_30 => ?_) (fun c_30 => ?_)
        · skip
          refine lv_aload_n SS.1 SS.2.1 dX11_pieces_36 rfl (lv_at hl 1 rfl) ?_
          refine j_get SS hG hP 0 (v := .ref (q 7)) (C := RX11) (T := TX11) (N := 8) rfl rfl inX11 6 (by decide) (ref := "GridPolygons") kw_391 rfl rfl dX11_pieces_37 ?_
          refine lv_aload_n SS.1 SS.2.1 dX11_pieces_40 rfl (lv_at hl 0 rfl) ?_
          refine j_vWv SS (As := [.ref (q (8 + 5 * i_2))]) (rest := []) (c_X1_build l D q u A (cW_D hD) i_2 (by omega)  (show RB 40 u i_2 from (CI_40 p0 (by omega))) (show RB 40 u 10 from (p0.2.1.2.2)) (show HB ((u.1.2.2.2.1 i_2)) from ((p0.1 i_2 (by omega)).2.1)) (show 0 ≤ (u.2.2.2 25) ∧ (u.2.2.2 25) ≤ 80 from (p0.2.2.2.2.2.2.2.1)) (show -2147483648 ≤ (u.2.2.2 26) ∧ (u.2.2.2 26) ≤ 2147483647 from (p0.2.2.2.2.2.2.2.2)) (show -2147483648 ≤ (u.1.2.2.2.2 i_2) ∧ (u.1.2.2.2.2 i_2) ≤ 2147483647 from ((p0.1 i_2 (by omega)).2.2))) mf_X1_build kw_987 hG hP hP (ci := 1) (q0 := 7) rfl rfl rfl hS (fun _ h => h) rfl hl.1 ⟨⟨Nat.le_of_ble_eq_true rfl, Nat.le_of_ble_eq_true rfl⟩, Nat.le_of_ble_eq_true rfl, Nat.le_refl _, Nat.le_refl _⟩ rfl dX11_pieces_41 (fun u41 H locs h_41 hP _ hS => ?_)
          obtain ⟨n_41, f_41, g_41, se_41, v25_41, v26_41, rfl, h_41⟩ := h_41
          have hP : va_P D.1 j_cl (cW D q (sY (sX (sV (sV (sL (sC u 10 n_41) 6 se_41) 25 v25_41) 26 v26_41) 10 f_41) 10 g_41)) H := hP
          have h_41 : ((0 ≤ n_41 ∧ n_41 ≤ 40) ∧ RV 40 f_41 g_41) ∧ (0 ≤ v25_41 ∧ v25_41 ≤ 80) ∧ -2147483648 ≤ v26_41 ∧ v26_41 ≤ 2147483647 := h_41
          have hCI : CI (sY (sX (sV (sV (sL (sC u 10 n_41) 6 se_41) 25 v25_41) 26 v26_41) 10 f_41) 10 g_41) := CI_co p0 h_41
          have hR10 := hCI.2.1.2.2
          refine lv_iload_n SS.1 SS.2.1 dX11_pieces_44 rfl (lv_at hl 3 rfl) ?_
          refine j_if_ne SS (tgt := 56) (x := what) dX11_pieces_45 (by decide) (by omega) (fun c_45 => ?_) (fun c_45 => ?_)
          · skip
            refine lv_iload_n SS.1 SS.2.1 dX11_pieces_56 rfl (lv_at hl 3 rfl) ?_
            refine j_iconst SS dX11_pieces_57 ?_
            refine j_icmp_ne SS (tgt := 71) (x := what) (y := 1) dX11_pieces_58 (by decide) (by omega) (by decide) (fun c_58 => ?_) (fun c_58 => ?_)
            · skip
              refine lv_aload_n SS.1 SS.2.1 dX11_pieces_71 rfl (lv_at hl 1 rfl) ?_
              refine j_get SS hG hP 0 (v := .ref (q 7)) (C := RX11) (T := TX11) (N := 8) rfl rfl inX11 6 (by decide) (ref := "GridPolygons") kw_391 rfl rfl dX11_pieces_72 ?_
              refine j_vRi SS (As := []) (rest := []) (c_X1_unitTriangles l D q (sY (sX (sV (sV (sL (sC u 10 n_41) 6 se_41) 25 v25_41) 26 v26_41) 10 f_41) 10 g_41)   (show RB 40 (sY (sX (sV (sV (sL (sC u 10 n_41) 6 se_41) 25 v25_41) 26 v26_41) 10 f_41) 10 g_41) 10 from (hR10)) (show 0 ≤ v25_41 ∧ v25_41 ≤ 80 from (by omega))) mf_X1_unitTriangles kw_1032 hG hP hP (ci := 1) (q0 := 7) rfl rfl rfl rfl hl.1 ⟨⟨Nat.le_of_ble_eq_true rfl, Nat.le_of_ble_eq_true rfl⟩, Nat.le_of_ble_eq_true rfl, Nat.le_refl _, Nat.le_refl _⟩ rfl dX11_pieces_75 (fun z_75 h_75 => ?_)
              have h_75 : True := h_75
              exact W.iret SS.1 SS.2.1 hr (fun t0 ht hW => ⟨⟨_, (sY (sX (sV (sV (sL (sC u 10 n_41) 6 se_41) 25 v25_41) 26 v26_41) 10 f_41) 10 g_41), rfl, ⟨z_75, rfl, (hCI)⟩, by show va_P D.1 j_cl (cW D q (sY (sX (sV (sV (sL (sC u 10 n_41) 6 se_41) 25 v25_41) 26 v26_41) 10 f_41) 10 g_41)) t0.heap; rw [ht]; first | exact hP | (simp only [sC_id, sX_id, sY_id, sH_id, sT_id, sV_id]; exact hP)⟩, hS.F ht⟩) hS.2.2 dX11_pieces_78 hlk
            · skip
              refine lv_aload_n SS.1 SS.2.1 dX11_pieces_61 rfl (lv_at hl 1 rfl) ?_
              refine j_get SS hG hP 0 (v := .ref (q 7)) (C := RX11) (T := TX11) (N := 8) rfl rfl inX11 6 (by decide) (ref := "GridPolygons") kw_391 rfl rfl dX11_pieces_62 ?_
              refine j_vRi SS (As := []) (rest := []) (c_X1_seen l D q (sY (sX (sV (sV (sL (sC u 10 n_41) 6 se_41) 25 v25_41) 26 v26_41) 10 f_41) 10 g_41)   (show 0 ≤ v25_41 ∧ v25_41 ≤ 80 from (by omega))) mf_X1_seen kw_1022 hG hP hP (ci := 1) (q0 := 7) rfl rfl rfl rfl hl.1 ⟨⟨Nat.le_of_ble_eq_true rfl, Nat.le_of_ble_eq_true rfl⟩, Nat.le_of_ble_eq_true rfl, Nat.le_refl _, Nat.le_refl _⟩ rfl dX11_pieces_65 (fun z_65 h_65 => ?_)
              have h_65 : True := h_65
              refine lv_goto (tgt := 78) SS.1 SS.2.1 dX11_pieces_68 (by decide) ?_
              exact W.iret SS.1 SS.2.1 hr (fun t0 ht hW => ⟨⟨_, (sY (sX (sV (sV (sL (sC u 10 n_41) 6 se_41) 25 v25_41) 26 v26_41) 10 f_41) 10 g_41), rfl, ⟨z_65, rfl, (hCI)⟩, by show va_P D.1 j_cl (cW D q (sY (sX (sV (sV (sL (sC u 10 n_41) 6 se_41) 25 v25_41) 26 v26_41) 10 f_41) 10 g_41)) t0.heap; rw [ht]; first | exact hP | (simp only [sC_id, sX_id, sY_id, sH_id, sT_id, sV_id]; exact hP)⟩, hS.F ht⟩) hS.2.2 dX11_pieces_78 hlk
          · skip
            refine lv_aload_n SS.1 SS.2.1 dX11_pieces_48 rfl (lv_at hl 1 rfl) ?_
            refine j_get SS hG hP 0 (v := .ref (q 7)) (C := RX11) (T := TX11) (N := 8) rfl rfl inX11 6 (by decide) (ref := "GridPolygons") kw_391 rfl rfl dX11_pieces_49 ?_
            refine j_get SS hG hP 7 (v := .int (J v25_41)) (C := RX1) (T := TX1) (N := 4) rfl rfl inX1 2 (by decide) (ref := "GridPolygons$Coarse") kw_374 rfl rfl dX11_pieces_52 ?_
            exact W.iret SS.1 SS.2.1 hr (fun t0 ht hW => ⟨⟨_, (sY (sX (sV (sV (sL (sC u 10 n_41) 6 se_41) 25 v25_41) 26 v26_41) 10 f_41) 10 g_41), rfl, ⟨v25_41, rfl, (hCI)⟩, by show va_P D.1 j_cl (cW D q (sY (sX (sV (sV (sL (sC u 10 n_41) 6 se_41) 25 v25_41) 26 v26_41) 10 f_41) 10 g_41)) t0.heap; rw [ht]; first | exact hP | (simp only [sC_id, sX_id, sY_id, sH_id, sT_id, sV_id]; exact hP)⟩, hS.F ht⟩) hS.2.2 dX11_pieces_55 hlk
        · skip
          refine j_bipush SS dX11_pieces_33 (by decide +kernel) ?_
          exact W.iret SS.1 SS.2.1 hr (fun t0 ht hW => ⟨⟨_, u, rfl, ⟨(-2), rfl, (p0)⟩, by show va_P D.1 j_cl (cW D q u) t0.heap; rw [ht]; first | exact hP | (simp only [sC_id, sX_id, sY_id, sH_id, sT_id, sV_id]; exact hP)⟩, hS.F ht⟩) hS.2.2 dX11_pieces_35 hlk
      · skip
        refine j_iconst SS dX11_pieces_19 ?_
        exact W.iret SS.1 SS.2.1 hr (fun t0 ht hW => ⟨⟨_, u, rfl, ⟨(-1), rfl, (p0)⟩, by show va_P D.1 j_cl (cW D q u) t0.heap; rw [ht]; first | exact hP | (simp only [sC_id, sX_id, sY_id, sH_id, sT_id, sV_id]; exact hP)⟩, hS.F ht⟩) hS.2.2 dX11_pieces_20 hlk
  · skip
    refine lv_astore_nN (lv' := [(3, .null), (0, .ref (q 0)), (1, .int (J s)), (2, .int (J what))]) SS.1 SS.2.1 dX11_pieces_5 rfl hl (by decide) rfl (fun ls hl => ?_)
    refine lv_aload_nN SS.1 SS.2.1 dX11_pieces_6 rfl (lv_at hl 0 rfl) ?_
    refine lv_ifnullN SS.1 SS.2.1 (tgt := 19) dX11_pieces_7 (by decide) ?_
    refine j_iconst SS dX11_pieces_19 ?_
    exact W.iret SS.1 SS.2.1 hr (fun t0 ht hW => ⟨⟨_, u, rfl, ⟨(-1), rfl, (p0)⟩, by show va_P D.1 j_cl (cW D q u) t0.heap; rw [ht]; first | exact hP | (simp only [sC_id, sX_id, sY_id, sH_id, sT_id, sV_id]; exact hP)⟩, hS.F ht⟩) hS.2.2 dX11_pieces_20 hlk

set_option maxHeartbeats 4000000 in
set_option maxRecDepth 100000 in
theorem c_X11_piece (l : Launch) (D : JD) (q : Nat → Nat) (u : CS) (A : Nat → Prop) (hD : va_D A (cW D q u)) (s : Int) (pc9 : Int) (i : Int) (p0 : CI u) (p1 : -2147483648 ≤ s ∧ s ≤ 2147483647) (p2 : -2147483648 ≤ pc9 ∧ pc9 ≤ 2147483647) (p3 : -2147483648 ≤ i ∧ i ≤ 2147483647) : Met l yX11_piece (jw yX11_piece cX11_piece 5 (some .int)) (jr 7 149) (jP [.ref (q 0), .int (J s), .int (J pc9), .int (J i)] D (fun H => va_P D.1 j_cl (cW D q u) H)) (jWi (fun z u' => CI u') (fun u' H => va_P D.1 j_cl (cW D q u') H) A) 0 0 A := by
  refine Met.ofW (cc := cX11_piece) (maxL := 5) (ret := (some .int)) (by decide) rfl ?_
  intro pr en st mi args below meth co s₁ B hml hv
  obtain ⟨rfl, hG, hP⟩ := hv
  have hr := B.returns
  have hlk := B.notSynchronized
  have SS : jS pr mi co cX11_piece 5 st _ RX11 := ⟨B.exec, B.bytes, hml, findClass_of_methodNamed B.named, fun w hw => atoms_spec (ws := (jw yX11_piece cX11_piece 5 (some .int))) B.pre w (List.mem_cons_of_mem _ hw)⟩
  have hl := lv_entry ([.ref (q 0), .int (J s), .int (J pc9), .int (J i)]) (n := 5) (Nat.le_of_ble_eq_true rfl)
  rw [lg_entry_eq]
  generalize (lg_sl ([.ref (q 0), .int (J s), .int (J pc9), .int (J i)]) ++ List.replicate (5 - (lg_sl ([.ref (q 0), .int (J s), .int (J pc9), .int (J i)])).length) Slot.unset).toArray = ls at hl ⊢
  have hl : lv_has ls 5 [(0, .ref (q 0)), (1, .int (J s)), (2, .int (J pc9)), (3, .int (J i))] := hl
  have hS : va_S A st.heap st.heap [] := va_S.rf
  refine lv_aload_n SS.1 SS.2.1 dX11_piece_0 rfl (lv_at hl 0 rfl) ?_
  refine lv_iload_n SS.1 SS.2.1 dX11_piece_1 rfl (lv_at hl 1 rfl) ?_
  refine j_vSh SS (As := [.int (J s)]) (rest := []) (c_X11_shapeAt l D q u  s (show -2147483648 ≤ s ∧ s ≤ 2147483647 from (p1))) mf_X11_shapeAt kw_414 hG hP hP (ci := 11) (q0 := 0) rfl rfl rfl rfl hl.1 ⟨⟨Nat.le_of_ble_eq_true rfl, Nat.le_of_ble_eq_true rfl⟩, Nat.le_of_ble_eq_true rfl, Nat.le_refl _, Nat.le_refl _⟩ rfl dX11_piece_2 (fun i_2 hi_2 hz_2 => ?_) (fun hn_2 => ?_)
  · skip
    have hI2 := CI_s p0 (show i_2 < 8 by omega)
    have hI2c := hI2.1
    have hrl2 := rl_s (show i_2 < 8 by omega)
    refine lv_astore (lv' := [(4, .ref (q (8 + 5 * i_2))), (0, .ref (q 0)), (1, .int (J s)), (2, .int (J pc9)), (3, .int (J i))]) SS.1 SS.2.1 dX11_piece_5 hl (by decide) rfl (fun ls hl => ?_)
    refine lv_aload SS.1 SS.2.1 dX11_piece_7 (lv_at hl 0 rfl) ?_
    refine lv_ifnull SS.1 SS.2.1 dX11_piece_9 ?_
    refine lv_iload_n SS.1 SS.2.1 dX11_piece_12 rfl (lv_at hl 3 rfl) ?_
    refine j_if_lt SS (tgt := 21) (x := pc9) dX11_piece_13 (by decide) (by omega) (fun c_13 => ?_) (fun c_13 => ?_)
    · skip
      refine j_iconst SS dX11_piece_21 ?_
      exact W.iret SS.1 SS.2.1 hr (fun t0 ht hW => ⟨⟨_, u, rfl, ⟨(-1), rfl, (p0)⟩, by show va_P D.1 j_cl (cW D q u) t0.heap; rw [ht]; first | exact hP | (simp only [sC_id, sX_id, sY_id, sH_id, sT_id, sV_id]; exact hP)⟩, hS.F ht⟩) hS.2.2 dX11_piece_22 hlk
    · skip
      refine lv_iload_n SS.1 SS.2.1 dX11_piece_16 rfl (lv_at hl 4 rfl) ?_
      refine j_iconst SS dX11_piece_17 ?_
      refine j_icmp_ge SS (tgt := 23) (x := i) (y := (-1)) dX11_piece_18 (by decide) (by omega) (by decide) (fun c_18 => ?_) (fun c_18 => ?_)
      · skip
        refine lv_aload SS.1 SS.2.1 dX11_piece_23 (lv_at hl 0 rfl) ?_
        refine j_get SS hG hP (8 + 5 * i_2) (v := .ref (q (9 + 5 * i_2))) (C := RX10) (T := TX10) (N := 3) (cw_shape (by omega)) rfl inX10 0 (by decide) (ref := "GridPolygons$Shape") kw_151 rfl rfl dX11_piece_25 ?_
        refine j_bipush SS dX11_piece_28 (by decide +kernel) ?_
        refine j_sRi SS (As := [.ref (q (9 + 5 * i_2)), .int (J 40)]) (rest := []) (c_X11_hasAtMost l D q u i_2 (by omega) 40 (show RB 40 u i_2 from (CI_40 p0 (by omega))) (show -2147483648 ≤ (40 : Int) ∧ (40 : Int) ≤ 2147483647 from (by omega))) mf_X11_hasAtMost kw_859 hG hP rfl hl.1 ⟨⟨Nat.le_of_ble_eq_true rfl, Nat.le_of_ble_eq_true rfl⟩, Nat.le_of_ble_eq_true rfl, Nat.le_refl _, Nat.le_refl _⟩ rfl dX11_piece_30 (fun z_30 h_30 => ?_)
        have h_30 : (z_30 = 1 ∧ 3 ≤ (u.1.2.2.1 i_2) ∧ rE u i_2 + rI u i_2 ≤ (40 : Int)) ∨ z_30 = 0 := h_30
        refine j_if_ne SS (tgt := 39) (x := z_30) dX11_piece_33 (by decide) (by omega) (fun c_33 => ?_) (fun c_33 => ?_)
        · skip
          refine lv_aload_n SS.1 SS.2.1 dX11_piece_39 rfl (lv_at hl 1 rfl) ?_
          refine j_get SS hG hP 0 (v := .ref (q 7)) (C := RX11) (T := TX11) (N := 8) rfl rfl inX11 6 (by decide) (ref := "GridPolygons") kw_391 rfl rfl dX11_piece_40 ?_
          refine lv_aload SS.1 SS.2.1 dX11_piece_43 (lv_at hl 0 rfl) ?_
          refine j_vWv SS (As := [.ref (q (8 + 5 * i_2))]) (rest := []) (c_X1_build l D q u A (cW_D hD) i_2 (by omega)  (show RB 40 u i_2 from (CI_40 p0 (by omega))) (show RB 40 u 10 from (p0.2.1.2.2)) (show HB ((u.1.2.2.2.1 i_2)) from ((p0.1 i_2 (by omega)).2.1)) (show 0 ≤ (u.2.2.2 25) ∧ (u.2.2.2 25) ≤ 80 from (p0.2.2.2.2.2.2.2.1)) (show -2147483648 ≤ (u.2.2.2 26) ∧ (u.2.2.2 26) ≤ 2147483647 from (p0.2.2.2.2.2.2.2.2)) (show -2147483648 ≤ (u.1.2.2.2.2 i_2) ∧ (u.1.2.2.2.2 i_2) ≤ 2147483647 from ((p0.1 i_2 (by omega)).2.2))) mf_X1_build kw_987 hG hP hP (ci := 1) (q0 := 7) rfl rfl rfl hS (fun _ h => h) rfl hl.1 ⟨⟨Nat.le_of_ble_eq_true rfl, Nat.le_of_ble_eq_true rfl⟩, Nat.le_of_ble_eq_true rfl, Nat.le_refl _, Nat.le_refl _⟩ rfl dX11_piece_45 (fun u45 H locs h_45 hP _ hS => ?_)
          obtain ⟨n_45, f_45, g_45, se_45, v25_45, v26_45, rfl, h_45⟩ := h_45
          have hP : va_P D.1 j_cl (cW D q (sY (sX (sV (sV (sL (sC u 10 n_45) 6 se_45) 25 v25_45) 26 v26_45) 10 f_45) 10 g_45)) H := hP
          have h_45 : ((0 ≤ n_45 ∧ n_45 ≤ 40) ∧ RV 40 f_45 g_45) ∧ (0 ≤ v25_45 ∧ v25_45 ≤ 80) ∧ -2147483648 ≤ v26_45 ∧ v26_45 ≤ 2147483647 := h_45
          have hCI : CI (sY (sX (sV (sV (sL (sC u 10 n_45) 6 se_45) 25 v25_45) 26 v26_45) 10 f_45) 10 g_45) := CI_co p0 h_45
          have hR10 := hCI.2.1.2.2
          refine lv_iload_n SS.1 SS.2.1 dX11_piece_48 rfl (lv_at hl 3 rfl) ?_
          refine lv_aload_n SS.1 SS.2.1 dX11_piece_49 rfl (lv_at hl 1 rfl) ?_
          refine j_get SS hG hP 0 (v := .ref (q 7)) (C := RX11) (T := TX11) (N := 8) rfl rfl inX11 6 (by decide) (ref := "GridPolygons") kw_391 rfl rfl dX11_piece_50 ?_
          refine j_get SS hG hP 7 (v := .int (J v25_45)) (C := RX1) (T := TX1) (N := 4) rfl rfl inX1 2 (by decide) (ref := "GridPolygons$Coarse") kw_374 rfl rfl dX11_piece_53 ?_
          refine j_icmp_ge SS (tgt := 71) (x := pc9) (y := v25_45) dX11_piece_56 (by decide) (by omega) (by omega) (fun c_56 => ?_) (fun c_56 => ?_)
          · skip
            refine j_iconst SS dX11_piece_71 ?_
            exact W.iret SS.1 SS.2.1 hr (fun t0 ht hW => ⟨⟨_, (sY (sX (sV (sV (sL (sC u 10 n_45) 6 se_45) 25 v25_45) 26 v26_45) 10 f_45) 10 g_45), rfl, ⟨(-1), rfl, (hCI)⟩, by show va_P D.1 j_cl (cW D q (sY (sX (sV (sV (sL (sC u 10 n_45) 6 se_45) 25 v25_45) 26 v26_45) 10 f_45) 10 g_45)) t0.heap; rw [ht]; first | exact hP | (simp only [sC_id, sX_id, sY_id, sH_id, sT_id, sV_id]; exact hP)⟩, hS.F ht⟩) hS.2.2 dX11_piece_72 hlk
          · skip
            refine lv_iload_n SS.1 SS.2.1 dX11_piece_59 rfl (lv_at hl 4 rfl) ?_
            refine lv_aload_n SS.1 SS.2.1 dX11_piece_60 rfl (lv_at hl 1 rfl) ?_
            refine j_get SS hG hP 0 (v := .ref (q 7)) (C := RX11) (T := TX11) (N := 8) rfl rfl inX11 6 (by decide) (ref := "GridPolygons") kw_391 rfl rfl dX11_piece_61 ?_
            refine lv_iload_n SS.1 SS.2.1 dX11_piece_64 rfl (lv_at hl 3 rfl) ?_
            refine j_vRi SS (As := [.int (J pc9)]) (rest := [.int (J i)]) (c_X1_sizeOf l D q (sY (sX (sV (sV (sL (sC u 10 n_45) 6 se_45) 25 v25_45) 26 v26_45) 10 f_45) 10 g_45)  pc9 (show -2147483648 ≤ pc9 ∧ pc9 ≤ 2147483647 from (by omega))) mf_X1_sizeOf kw_1049 hG hP hP (ci := 1) (q0 := 7) rfl rfl rfl rfl hl.1 ⟨⟨Nat.le_of_ble_eq_true rfl, Nat.le_of_ble_eq_true rfl⟩, Nat.le_of_ble_eq_true rfl, Nat.le_refl _, Nat.le_refl _⟩ rfl dX11_piece_65 (fun z_65 h_65 => ?_)
            have h_65 : 0 ≤ z_65 ∧ z_65 ≤ 127 := h_65
            refine j_icmp_lt SS (tgt := 73) (x := i) (y := z_65) dX11_piece_68 (by decide) (by omega) (by omega) (fun c_68 => ?_) (fun c_68 => ?_)
            · skip
              refine lv_iload_n SS.1 SS.2.1 dX11_piece_73 rfl (lv_at hl 4 rfl) ?_
              refine j_iconst SS dX11_piece_74 ?_
              refine j_icmp_ne SS (tgt := 89) (x := i) (y := (-1)) dX11_piece_75 (by decide) (by omega) (by decide) (fun c_75 => ?_) (fun c_75 => ?_)
              · skip
                refine lv_aload_n SS.1 SS.2.1 dX11_piece_89 rfl (lv_at hl 1 rfl) ?_
                refine j_get SS hG hP 0 (v := .ref (q 7)) (C := RX11) (T := TX11) (N := 8) rfl rfl inX11 6 (by decide) (ref := "GridPolygons") kw_391 rfl rfl dX11_piece_90 ?_
                refine lv_iload_n SS.1 SS.2.1 dX11_piece_93 rfl (lv_at hl 3 rfl) ?_
                refine lv_iload_n SS.1 SS.2.1 dX11_piece_94 rfl (lv_at hl 4 rfl) ?_
                refine j_vRi SS (As := [.int (J pc9), .int (J i)]) (rest := []) (c_X1_memberOf l D q (sY (sX (sV (sV (sL (sC u 10 n_45) 6 se_45) 25 v25_45) 26 v26_45) 10 f_45) 10 g_45)  pc9 i (show RB 40 (sY (sX (sV (sV (sL (sC u 10 n_45) 6 se_45) 25 v25_45) 26 v26_45) 10 f_45) 10 g_45) 10 from (hR10)) (show -2147483648 ≤ pc9 ∧ pc9 ≤ 2147483647 from (by omega)) (show 0 ≤ i ∧ i ≤ 2147483647 from (by omega))) mf_X1_memberOf kw_1050 hG hP hP (ci := 1) (q0 := 7) rfl rfl rfl rfl hl.1 ⟨⟨Nat.le_of_ble_eq_true rfl, Nat.le_of_ble_eq_true rfl⟩, Nat.le_of_ble_eq_true rfl, Nat.le_refl _, Nat.le_refl _⟩ rfl dX11_piece_95 (fun z_95 h_95 => ?_)
                have h_95 : -1 ≤ z_95 ∧ z_95 ≤ 39 := h_95
                exact W.iret SS.1 SS.2.1 hr (fun t0 ht hW => ⟨⟨_, (sY (sX (sV (sV (sL (sC u 10 n_45) 6 se_45) 25 v25_45) 26 v26_45) 10 f_45) 10 g_45), rfl, ⟨z_95, rfl, (hCI)⟩, by show va_P D.1 j_cl (cW D q (sY (sX (sV (sV (sL (sC u 10 n_45) 6 se_45) 25 v25_45) 26 v26_45) 10 f_45) 10 g_45)) t0.heap; rw [ht]; first | exact hP | (simp only [sC_id, sX_id, sY_id, sH_id, sT_id, sV_id]; exact hP)⟩, hS.F ht⟩) hS.2.2 dX11_piece_98 hlk
              · skip
                refine lv_aload_n SS.1 SS.2.1 dX11_piece_78 rfl (lv_at hl 1 rfl) ?_
                refine j_get SS hG hP 0 (v := .ref (q 7)) (C := RX11) (T := TX11) (N := 8) rfl rfl inX11 6 (by decide) (ref := "GridPolygons") kw_391 rfl rfl dX11_piece_79 ?_
                refine lv_iload_n SS.1 SS.2.1 dX11_piece_82 rfl (lv_at hl 3 rfl) ?_
                refine j_vRi SS (As := [.int (J pc9)]) (rest := []) (c_X1_sizeOf l D q (sY (sX (sV (sV (sL (sC u 10 n_45) 6 se_45) 25 v25_45) 26 v26_45) 10 f_45) 10 g_45)  pc9 (show -2147483648 ≤ pc9 ∧ pc9 ≤ 2147483647 from (by omega))) mf_X1_sizeOf kw_1049 hG hP hP (ci := 1) (q0 := 7) rfl rfl rfl rfl hl.1 ⟨⟨Nat.le_of_ble_eq_true rfl, Nat.le_of_ble_eq_true rfl⟩, Nat.le_of_ble_eq_true rfl, Nat.le_refl _, Nat.le_refl _⟩ rfl dX11_piece_83 (fun z_83 h_83 => ?_)
                have h_83 : 0 ≤ z_83 ∧ z_83 ≤ 127 := h_83
                refine lv_goto (tgt := 98) SS.1 SS.2.1 dX11_piece_86 (by decide) ?_
                exact W.iret SS.1 SS.2.1 hr (fun t0 ht hW => ⟨⟨_, (sY (sX (sV (sV (sL (sC u 10 n_45) 6 se_45) 25 v25_45) 26 v26_45) 10 f_45) 10 g_45), rfl, ⟨z_83, rfl, (hCI)⟩, by show va_P D.1 j_cl (cW D q (sY (sX (sV (sV (sL (sC u 10 n_45) 6 se_45) 25 v25_45) 26 v26_45) 10 f_45) 10 g_45)) t0.heap; rw [ht]; first | exact hP | (simp only [sC_id, sX_id, sY_id, sH_id, sT_id, sV_id]; exact hP)⟩, hS.F ht⟩) hS.2.2 dX11_piece_98 hlk
            · skip
              refine j_iconst SS dX11_piece_71 ?_
              exact W.iret SS.1 SS.2.1 hr (fun t0 ht hW => ⟨⟨_, (sY (sX (sV (sV (sL (sC u 10 n_45) 6 se_45) 25 v25_45) 26 v26_45) 10 f_45) 10 g_45), rfl, ⟨(-1), rfl, (hCI)⟩, by show va_P D.1 j_cl (cW D q (sY (sX (sV (sV (sL (sC u 10 n_45) 6 se_45) 25 v25_45) 26 v26_45) 10 f_45) 10 g_45)) t0.heap; rw [ht]; first | exact hP | (simp only [sC_id, sX_id, sY_id, sH_id, sT_id, sV_id]; exact hP)⟩, hS.F ht⟩) hS.2.2 dX11_piece_72 hlk
        · skip
          refine j_bipush SS dX11_piece_36 (by decide +kernel) ?_
          exact W.iret SS.1 SS.2.1 hr (fun t0 ht hW => ⟨⟨_, u, rfl, ⟨(-2), rfl, (p0)⟩, by show va_P D.1 j_cl (cW D q u) t0.heap; rw [ht]; first | exact hP | (simp only [sC_id, sX_id, sY_id, sH_id, sT_id, sV_id]; exact hP)⟩, hS.F ht⟩) hS.2.2 dX11_piece_38 hlk
      · skip
        refine j_iconst SS dX11_piece_21 ?_
        exact W.iret SS.1 SS.2.1 hr (fun t0 ht hW => ⟨⟨_, u, rfl, ⟨(-1), rfl, (p0)⟩, by show va_P D.1 j_cl (cW D q u) t0.heap; rw [ht]; first | exact hP | (simp only [sC_id, sX_id, sY_id, sH_id, sT_id, sV_id]; exact hP)⟩, hS.F ht⟩) hS.2.2 dX11_piece_22 hlk
  · skip
    refine lv_astoreN (lv' := [(4, .null), (0, .ref (q 0)), (1, .int (J s)), (2, .int (J pc9)), (3, .int (J i))]) SS.1 SS.2.1 dX11_piece_5 hl (by decide) rfl (fun ls hl => ?_)
    refine lv_aloadN SS.1 SS.2.1 dX11_piece_7 (lv_at hl 0 rfl) ?_
    refine lv_ifnullN SS.1 SS.2.1 (tgt := 21) dX11_piece_9 (by decide) ?_
    refine j_iconst SS dX11_piece_21 ?_
    exact W.iret SS.1 SS.2.1 hr (fun t0 ht hW => ⟨⟨_, u, rfl, ⟨(-1), rfl, (p0)⟩, by show va_P D.1 j_cl (cW D q u) t0.heap; rw [ht]; first | exact hP | (simp only [sC_id, sX_id, sY_id, sH_id, sT_id, sV_id]; exact hP)⟩, hS.F ht⟩) hS.2.2 dX11_piece_22 hlk

theorem CI_ht {u : CS} {i : Nat} {t s : Int} {k : Nat → Int} (h : CI u) (hi : i < 8) (hk : HB k) (ht : -2147483648 ≤ t ∧ t ≤ 2147483647) (hs : -2147483648 ≤ s ∧ s ≤ 2147483647) : CI (sV (sT (sH u i k) i t) 0 s) := by
  have q := h.1 i hi
  have e := CI_sh (i := i) (n := u.1.2.2.1 i) (f := u.1.1 i) (g := u.1.2.1 i) h hi (by have := q.1.1; rw [rl_s hi] at this; exact this) q.1.2 hk ht hs
  simp only [sC_id, sX_id, sY_id] at e
  exact e
theorem HB_up {f : Nat → Int} {k : Nat} {v : Int} (h : HB f) (hv : -1000 ≤ v ∧ v ≤ 1000) : HB (upI f k v) := UP_b h hv

set_option maxHeartbeats 4000000 in
set_option maxRecDepth 100000 in
theorem c_X11_height (l : Launch) (D : JD) (q : Nat → Nat) (u : CS) (A : Nat → Prop) (hD : va_D A (cW D q u)) (s : Int) (i : Int) (v : Int) (p0 : CI u) (p1 : -2147483648 ≤ s ∧ s ≤ 2147483647) (p2 : -2147483648 ≤ i ∧ i ≤ 2147483647) (p3 : -2147483648 ≤ v ∧ v ≤ 2147483647) : Met l yX11_height (jw yX11_height cX11_height 6 (some .int)) (jr 7 149) (jP [.ref (q 0), .int (J s), .int (J i), .int (J v)] D (fun H => va_P D.1 j_cl (cW D q u) H)) (jWi (fun z u' => CI u') (fun u' H => va_P D.1 j_cl (cW D q u') H) A) 0 0 A := by
  refine Met.ofW (cc := cX11_height) (maxL := 6) (ret := (some .int)) (by decide) rfl ?_
  intro pr en st mi args below meth co s₁ B hml hv
  obtain ⟨rfl, hG, hP⟩ := hv
  have hr := B.returns
  have hlk := B.notSynchronized
  have SS : jS pr mi co cX11_height 6 st _ RX11 := ⟨B.exec, B.bytes, hml, findClass_of_methodNamed B.named, fun w hw => atoms_spec (ws := (jw yX11_height cX11_height 6 (some .int))) B.pre w (List.mem_cons_of_mem _ hw)⟩
  have hl := lv_entry ([.ref (q 0), .int (J s), .int (J i), .int (J v)]) (n := 6) (Nat.le_of_ble_eq_true rfl)
  rw [lg_entry_eq]
  generalize (lg_sl ([.ref (q 0), .int (J s), .int (J i), .int (J v)]) ++ List.replicate (6 - (lg_sl ([.ref (q 0), .int (J s), .int (J i), .int (J v)])).length) Slot.unset).toArray = ls at hl ⊢
  have hl : lv_has ls 6 [(0, .ref (q 0)), (1, .int (J s)), (2, .int (J i)), (3, .int (J v))] := hl
  have hS : va_S A st.heap st.heap [] := va_S.rf
  refine lv_aload_n SS.1 SS.2.1 dX11_height_0 rfl (lv_at hl 0 rfl) ?_
  refine lv_iload_n SS.1 SS.2.1 dX11_height_1 rfl (lv_at hl 1 rfl) ?_
  refine j_vSh SS (As := [.int (J s)]) (rest := []) (c_X11_shapeAt l D q u  s (show -2147483648 ≤ s ∧ s ≤ 2147483647 from (p1))) mf_X11_shapeAt kw_414 hG hP hP (ci := 11) (q0 := 0) rfl rfl rfl rfl hl.1 ⟨⟨Nat.le_of_ble_eq_true rfl, Nat.le_of_ble_eq_true rfl⟩, Nat.le_of_ble_eq_true rfl, Nat.le_refl _, Nat.le_refl _⟩ rfl dX11_height_2 (fun i_2 hi_2 hz_2 => ?_) (fun hn_2 => ?_)
  · skip
    have hI2 := CI_s p0 (show i_2 < 8 by omega)
    have hI2c := hI2.1
    have hrl2 := rl_s (show i_2 < 8 by omega)
    refine lv_astore (lv' := [(4, .ref (q (8 + 5 * i_2))), (0, .ref (q 0)), (1, .int (J s)), (2, .int (J i)), (3, .int (J v))]) SS.1 SS.2.1 dX11_height_5 hl (by decide) rfl (fun ls hl => ?_)
    refine lv_aload SS.1 SS.2.1 dX11_height_7 (lv_at hl 0 rfl) ?_
    refine lv_ifnull SS.1 SS.2.1 dX11_height_9 ?_
    refine lv_iload_n SS.1 SS.2.1 dX11_height_12 rfl (lv_at hl 4 rfl) ?_
    refine j_sipush SS dX11_height_13 (by decide +kernel) ?_
    refine j_icmp_lt SS (tgt := 39) (x := v) (y := (-1000)) dX11_height_16 (by decide) (by omega) (by decide) (fun c_16 => ?_) (fun c_16 => ?_)
    · skip
      refine j_ldc SS (-1000000) kw_512 dX11_height_39 ?_
      exact W.iret SS.1 SS.2.1 hr (fun t0 ht hW => ⟨⟨_, u, rfl, ⟨(-1000000), rfl, (p0)⟩, by show va_P D.1 j_cl (cW D q u) t0.heap; rw [ht]; first | exact hP | (simp only [sC_id, sX_id, sY_id, sH_id, sT_id, sV_id]; exact hP)⟩, hS.F ht⟩) hS.2.2 dX11_height_41 hlk
    · skip
      refine lv_iload_n SS.1 SS.2.1 dX11_height_19 rfl (lv_at hl 4 rfl) ?_
      refine j_sipush SS dX11_height_20 (by decide +kernel) ?_
      refine j_icmp_gt SS (tgt := 39) (x := v) (y := 1000) dX11_height_23 (by decide) (by omega) (by decide) (fun c_23 => ?_) (fun c_23 => ?_)
      · skip
        refine j_ldc SS (-1000000) kw_512 dX11_height_39 ?_
        exact W.iret SS.1 SS.2.1 hr (fun t0 ht hW => ⟨⟨_, u, rfl, ⟨(-1000000), rfl, (p0)⟩, by show va_P D.1 j_cl (cW D q u) t0.heap; rw [ht]; first | exact hP | (simp only [sC_id, sX_id, sY_id, sH_id, sT_id, sV_id]; exact hP)⟩, hS.F ht⟩) hS.2.2 dX11_height_41 hlk
      · skip
        refine lv_aload SS.1 SS.2.1 dX11_height_26 (lv_at hl 0 rfl) ?_
        refine j_get SS hG hP (8 + 5 * i_2) (v := .ref (q (9 + 5 * i_2))) (C := RX10) (T := TX10) (N := 3) (cw_shape (by omega)) rfl inX10 0 (by decide) (ref := "GridPolygons$Shape") kw_151 rfl rfl dX11_height_28 ?_
        refine j_bipush SS dX11_height_31 (by decide +kernel) ?_
        refine j_sRi SS (As := [.ref (q (9 + 5 * i_2)), .int (J 40)]) (rest := []) (c_X11_hasAtMost l D q u i_2 (by omega) 40 (show RB 40 u i_2 from (CI_40 p0 (by omega))) (show -2147483648 ≤ (40 : Int) ∧ (40 : Int) ≤ 2147483647 from (by omega))) mf_X11_hasAtMost kw_859 hG hP rfl hl.1 ⟨⟨Nat.le_of_ble_eq_true rfl, Nat.le_of_ble_eq_true rfl⟩, Nat.le_of_ble_eq_true rfl, Nat.le_refl _, Nat.le_refl _⟩ rfl dX11_height_33 (fun z_33 h_33 => ?_)
        have h_33 : (z_33 = 1 ∧ 3 ≤ (u.1.2.2.1 i_2) ∧ rE u i_2 + rI u i_2 ≤ (40 : Int)) ∨ z_33 = 0 := h_33
        refine j_if_ne SS (tgt := 42) (x := z_33) dX11_height_36 (by decide) (by omega) (fun c_36 => ?_) (fun c_36 => ?_)
        · skip
          refine lv_iload_n SS.1 SS.2.1 dX11_height_42 rfl (lv_at hl 3 rfl) ?_
          refine j_if_lt SS (tgt := 64) (x := i) dX11_height_43 (by decide) (by omega) (fun c_43 => ?_) (fun c_43 => ?_)
          · skip
            refine j_ldc SS (-1000000) kw_512 dX11_height_64 ?_
            exact W.iret SS.1 SS.2.1 hr (fun t0 ht hW => ⟨⟨_, u, rfl, ⟨(-1000000), rfl, (p0)⟩, by show va_P D.1 j_cl (cW D q u) t0.heap; rw [ht]; first | exact hP | (simp only [sC_id, sX_id, sY_id, sH_id, sT_id, sV_id]; exact hP)⟩, hS.F ht⟩) hS.2.2 dX11_height_66 hlk
          · skip
            refine lv_iload_n SS.1 SS.2.1 dX11_height_46 rfl (lv_at hl 3 rfl) ?_
            refine lv_aload SS.1 SS.2.1 dX11_height_47 (lv_at hl 0 rfl) ?_
            refine j_get SS hG hP (8 + 5 * i_2) (v := .ref (q (9 + 5 * i_2))) (C := RX10) (T := TX10) (N := 3) (cw_shape (by omega)) rfl inX10 0 (by decide) (ref := "GridPolygons$Shape") kw_151 rfl rfl dX11_height_49 ?_
            refine j_vRi SS (As := []) (rest := [.int (J i)]) (c_X7_all l D q u i_2 (by omega) (40 : Int)  (show 0 ≤ (40 : Int) ∧ (40 : Int) ≤ 80 from (by omega)) (show RB (40 : Int) u i_2 from (CI_40 p0 (by omega)))) mf_X7_all kw_553 hG hP hP (ci := 7) (q0 := (9 + 5 * i_2)) rfl (cw_ring (by omega)) rfl rfl hl.1 ⟨⟨Nat.le_of_ble_eq_true rfl, Nat.le_of_ble_eq_true rfl⟩, Nat.le_of_ble_eq_true rfl, Nat.le_refl _, Nat.le_refl _⟩ rfl dX11_height_52 (fun z_52 h_52 => ?_)
            have h_52 : z_52 = rE u i_2 + rI u i_2 ∧ -7000000 ≤ z_52 ∧ z_52 ≤ 7000000 := h_52
            refine j_icmp_ge SS (tgt := 64) (x := i) (y := z_52) dX11_height_55 (by decide) (by omega) (by omega) (fun c_55 => ?_) (fun c_55 => ?_)
            · skip
              refine j_ldc SS (-1000000) kw_512 dX11_height_64 ?_
              exact W.iret SS.1 SS.2.1 hr (fun t0 ht hW => ⟨⟨_, u, rfl, ⟨(-1000000), rfl, (p0)⟩, by show va_P D.1 j_cl (cW D q u) t0.heap; rw [ht]; first | exact hP | (simp only [sC_id, sX_id, sY_id, sH_id, sT_id, sV_id]; exact hP)⟩, hS.F ht⟩) hS.2.2 dX11_height_66 hlk
            · skip
              refine lv_iload_n SS.1 SS.2.1 dX11_height_58 rfl (lv_at hl 3 rfl) ?_
              refine j_bipush SS dX11_height_59 (by decide +kernel) ?_
              refine j_icmp_lt SS (tgt := 67) (x := i) (y := 40) dX11_height_61 (by decide) (by omega) (by decide) (fun c_61 => ?_) (fun c_61 => ?_)
              · skip
                refine lv_aload SS.1 SS.2.1 dX11_height_67 (lv_at hl 0 rfl) ?_
                refine j_get SS hG hP (8 + 5 * i_2) (v := .ref (q (12 + 5 * i_2))) (C := RX10) (T := TX10) (N := 3) (cw_shape (by omega)) rfl inX10 1 (by decide) (ref := "GridPolygons$Shape") kw_157 rfl rfl dX11_height_69 ?_
                refine lv_iload_n SS.1 SS.2.1 dX11_height_72 rfl (lv_at hl 3 rfl) ?_
                refine j_iald SS hG hP (12 + 5 * i_2) (n := 40) (f := (u.1.2.2.2.1 i_2)) (cw_hts (by omega)) (z := i) (by omega) (by omega) dX11_height_73 ?_
                refine lv_istore (lv' := [(5, .int (J ((u.1.2.2.2.1 i_2) (i).toNat))), (4, .ref (q (8 + 5 * i_2))), (0, .ref (q 0)), (1, .int (J s)), (2, .int (J i)), (3, .int (J v))]) SS.1 SS.2.1 dX11_height_74 hl (by decide) rfl (fun ls hl => ?_)
                refine lv_aload SS.1 SS.2.1 dX11_height_76 (lv_at hl 1 rfl) ?_
                refine j_get SS hG hP (8 + 5 * i_2) (v := .ref (q (12 + 5 * i_2))) (C := RX10) (T := TX10) (N := 3) (cw_shape (by omega)) rfl inX10 1 (by decide) (ref := "GridPolygons$Shape") kw_157 rfl rfl dX11_height_78 ?_
                refine lv_iload_n SS.1 SS.2.1 dX11_height_81 rfl (lv_at hl 4 rfl) ?_
                refine lv_iload_n SS.1 SS.2.1 dX11_height_82 rfl (lv_at hl 5 rfl) ?_
                refine j_iast SS hG hP (cW_D hD) hS (12 + 5 * i_2) (n := 40) (f := (u.1.2.2.2.1 i_2)) (cw_hts (by omega)) (z := i) (v := v) (by omega) (by omega) dX11_height_83 (ws' := (cW D q (sH u i_2 (upI (u.1.2.2.2.1 i_2) (i).toNat v)))) (cs_hts (by omega)) (fun H locs hP hS => ?_)
                refine lv_aload SS.1 SS.2.1 dX11_height_84 (lv_at hl 1 rfl) ?_
                refine lv_aload_n SS.1 SS.2.1 dX11_height_86 rfl (lv_at hl 2 rfl) ?_
                refine j_vWi SS (As := []) (rest := [.ref (q (8 + 5 * i_2))]) (c_X11_newStamp l D q (sH u i_2 (upI (u.1.2.2.2.1 i_2) (i).toNat v)) A (cW_D hD)   ) mf_X11_newStamp kw_467 hG hP hP (ci := 11) (q0 := 0) rfl rfl rfl hS (fun _ h => h) rfl hl.1 ⟨⟨Nat.le_of_ble_eq_true rfl, Nat.le_of_ble_eq_true rfl⟩, Nat.le_of_ble_eq_true rfl, Nat.le_refl _, Nat.le_refl _⟩ rfl dX11_height_87 (fun z_87 u87 H locs h_87 hP _ hS => ?_)
                obtain ⟨t_87, rfl, h_87⟩ := h_87
                have hP : va_P D.1 j_cl (cW D q (sV (sH u i_2 (upI (u.1.2.2.2.1 i_2) (i).toNat v)) 0 t_87)) H := hP
                have h_87 : z_87 = t_87 ∧ -2147483648 ≤ t_87 ∧ t_87 ≤ 2147483647 := h_87
                refine j_put SS hG hP (cW_D hD) hS (8 + 5 * i_2) (v := .int (J z_87)) (ty := .int) (C := RX10) (T := TX10) (N := 3) (cw_shape (by omega)) rfl inX10 tyX10 tyX10_ok nmX10 2 (by decide) (ref := "GridPolygons$Shape") kw_161 rfl rfl (by decide +kernel) rfl rfl (Nat.le_of_ble_eq_true rfl) dX11_height_90 (ws' := (cW D q (sV (sT (sH u i_2 (upI (u.1.2.2.2.1 i_2) (i).toNat v)) i_2 z_87) 0 t_87))) (cs_shape (by omega)) (fun H locs hP hS => ?_)
                refine lv_iload SS.1 SS.2.1 dX11_height_93 (lv_at hl 0 rfl) ?_
                exact W.iret SS.1 SS.2.1 hr (fun t0 ht hW => ⟨⟨_, (sV (sT (sH u i_2 (upI (u.1.2.2.2.1 i_2) (i).toNat v)) i_2 z_87) 0 t_87), rfl, ⟨((u.1.2.2.2.1 i_2) (i).toNat), rfl, (CI_ht p0 (by omega) (HB_up (p0.1 i_2 (by omega)).2.1 (by omega)) (by omega) (by omega))⟩, by show va_P D.1 j_cl (cW D q (sV (sT (sH u i_2 (upI (u.1.2.2.2.1 i_2) (i).toNat v)) i_2 z_87) 0 t_87)) t0.heap; rw [ht]; first | exact hP | (simp only [sC_id, sX_id, sY_id, sH_id, sT_id, sV_id]; exact hP)⟩, hS.F ht⟩) hS.2.2 dX11_height_95 hlk
              · skip
                refine j_ldc SS (-1000000) kw_512 dX11_height_64 ?_
                exact W.iret SS.1 SS.2.1 hr (fun t0 ht hW => ⟨⟨_, u, rfl, ⟨(-1000000), rfl, (p0)⟩, by show va_P D.1 j_cl (cW D q u) t0.heap; rw [ht]; first | exact hP | (simp only [sC_id, sX_id, sY_id, sH_id, sT_id, sV_id]; exact hP)⟩, hS.F ht⟩) hS.2.2 dX11_height_66 hlk
        · skip
          refine j_ldc SS (-1000000) kw_512 dX11_height_39 ?_
          exact W.iret SS.1 SS.2.1 hr (fun t0 ht hW => ⟨⟨_, u, rfl, ⟨(-1000000), rfl, (p0)⟩, by show va_P D.1 j_cl (cW D q u) t0.heap; rw [ht]; first | exact hP | (simp only [sC_id, sX_id, sY_id, sH_id, sT_id, sV_id]; exact hP)⟩, hS.F ht⟩) hS.2.2 dX11_height_41 hlk
  · skip
    refine lv_astoreN (lv' := [(4, .null), (0, .ref (q 0)), (1, .int (J s)), (2, .int (J i)), (3, .int (J v))]) SS.1 SS.2.1 dX11_height_5 hl (by decide) rfl (fun ls hl => ?_)
    refine lv_aloadN SS.1 SS.2.1 dX11_height_7 (lv_at hl 0 rfl) ?_
    refine lv_ifnullN SS.1 SS.2.1 (tgt := 39) dX11_height_9 (by decide) ?_
    refine j_ldc SS (-1000000) kw_512 dX11_height_39 ?_
    exact W.iret SS.1 SS.2.1 hr (fun t0 ht hW => ⟨⟨_, u, rfl, ⟨(-1000000), rfl, (p0)⟩, by show va_P D.1 j_cl (cW D q u) t0.heap; rw [ht]; first | exact hP | (simp only [sC_id, sX_id, sY_id, sH_id, sT_id, sV_id]; exact hP)⟩, hS.F ht⟩) hS.2.2 dX11_height_41 hlk


/-! ===== hulls ===== -/
/-- of two numbers: the first above 0, or 0 and the second above 0; lxn: or both 0 -/
def lxp (a b : Int) : Prop := 0 < a ∨ (a = 0 ∧ 0 < b)
def lxn (a b : Int) : Prop := 0 < a ∨ (a = 0 ∧ 0 ≤ b)
theorem lp_ln {a b : Int} (h : lxp a b) : lxn a b := by unfold lxp at h; unfold lxn; omega
theorem lpT {a b c d e f : Int} (h1 : lxp a b) (h2 : lxp c d) (h3 : lxn e f) (g1 : 0 ≤ cx a b c d) (g2 : 0 ≤ cx c d e f) : 0 ≤ cx a b e f := by
  have ha : 0 ≤ a := by unfold lxp at h1; omega
  have he : 0 ≤ e := by unfold lxn at h3; omega
  rcases h2 with hc | ⟨hc, hd⟩
  · have i1 : cx a b e f * c = cx a b c d * e + cx c d e f * a := by unfold cx; grind
    have m1 := Int.mul_nonneg g1 he
    have m2 := Int.mul_nonneg g2 ha
    exact Int.le_of_mul_le_mul_right (show 0 * c ≤ cx a b e f * c from by rw [Int.zero_mul, i1]; omega) hc
  · subst hc
    have he0 : e = 0 := by
      by_cases q : e = 0
      · exact q
      · have m := Int.mul_pos hd (show 0 < e by omega)
        unfold cx at g2
        omega
    subst he0
    have m := Int.mul_nonneg ha (show 0 ≤ f by unfold lxn at h3; omega)
    unfold cx
    omega
theorem lpS {a b c d e f : Int} (h1 : lxp a b) (h2 : lxp c d) (h3 : lxp e f) (g1 : 0 ≤ cx a b c d) (g2 : 0 < cx c d e f) : 0 < cx a b e f := by
  have ha : 0 ≤ a := by unfold lxp at h1; omega
  have he : 0 ≤ e := by unfold lxp at h3; omega
  rcases h2 with hc | ⟨hc, hd⟩
  · have i1 : cx a b e f * c = cx a b c d * e + cx c d e f * a := by unfold cx; grind
    have m1 := Int.mul_nonneg g1 he
    have ha2 : 0 < a := by
      by_cases q : a = 0
      · subst q
        have m := Int.mul_pos (show 0 < b by unfold lxp at h1; omega) hc
        unfold cx at g1
        omega
      · omega
    have m2 := Int.mul_pos g2 ha2
    exact Int.lt_of_mul_lt_mul_right (show 0 * c < cx a b e f * c from by rw [Int.zero_mul, i1]; omega) (by omega)
  · subst hc
    exfalso
    have m := Int.mul_nonneg (show 0 ≤ d by omega) he
    unfold cx at g2
    omega
/-- on the left of an edge or on it, then between its ends -/
def edg (px py ex ey x y : Int) : Prop := 0 ≤ cx (ex - px) (ey - py) (x - px) (y - py) ∧ (cx (ex - px) (ey - py) (x - px) (y - py) = 0 → lxn (x - px) (y - py) ∧ lxn (ex - x) (ey - y))
/-- a chain over the points S, from the place b to the place before h -/
def chx (S : Int → Int → Prop) (X Y : Nat → Int) (b h : Nat) : Prop := b < h ∧ (∀ a : Nat, b ≤ a → a < h → S (X a) (Y a)) ∧ (∀ a : Nat, b ≤ a → a + 1 < h → lxp (X (a + 1) - X a) (Y (a + 1) - Y a)) ∧ (∀ x y : Int, S x y → lxn (x - X b) (y - Y b) ∧ lxn (X (h - 1) - x) (Y (h - 1) - y)) ∧ (∀ a : Nat, b ≤ a → a + 1 < h → ∀ x y : Int, S x y → edg (X a) (Y a) (X (a + 1)) (Y (a + 1)) x y) ∧ ∀ a : Nat, b ≤ a → a + 2 < h → 0 < tn X Y a (a + 1) (a + 2)
theorem ln_t {a b c d : Int} (h : lxn a b) (h2 : lxn c d) : lxn (a + c) (b + d) := by unfold lxn at *; omega
theorem lp_t {a b c d : Int} (h : lxp a b) (h2 : lxn c d) : lxp (a + c) (b + d) := by unfold lxn lxp at *; omega
theorem chx_up {S : Int → Int → Prop} {X Y : Nat → Int} {b h : Nat} (H : ∀ a : Nat, b ≤ a → a + 1 < h → lxp (X (a + 1) - X a) (Y (a + 1) - Y a)) : ∀ (k a : Nat), b ≤ a → a + k < h → lxn (X (a + k) - X a) (Y (a + k) - Y a) := by
  intro k
  induction k with
  | zero => intro a _ _; show lxn (X a - X a) (Y a - Y a); unfold lxn; omega
  | succ k ih =>
    intro a ha hk
    have q := ih a ha (by omega)
    have r := H (a + k) (by omega) (by omega)
    show lxn (X (a + k + 1) - X a) (Y (a + k + 1) - Y a)
    unfold lxn lxp at *
    omega
theorem cx_sw {a b c d : Int} : cx c d a b = - cx a b c d := by unfold cx; grind
theorem cx_sh {a b c d e f : Int} : cx (c - a) (d - b) (e - a) (f - b) = cx (c - a) (d - b) (e - c) (f - d) := by unfold cx; grind
theorem cx_c1 {gx gy hx hy qx qy wx wy : Int} : cx (wx - gx) (wy - gy) (qx - gx) (qy - gy) = cx (wx - qx) (wy - qy) (hx - gx) (hy - gy) + cx (wx - hx) (wy - hy) (qx - hx) (qy - hy) := by unfold cx; grind
theorem cx_c2 {hx hy qx qy wx wy : Int} : cx (wx - qx) (wy - qy) (wx - hx) (wy - hy) = cx (wx - hx) (wy - hy) (qx - hx) (qy - hy) := by unfold cx; grind
theorem cx_c3 {gx gy hx hy qx qy : Int} : cx (hx - qx) (hy - qy) (hx - gx) (hy - gy) = cx (hx - gx) (hy - gy) (qx - gx) (qy - gy) := by unfold cx; grind
theorem cx_c4 {hx hy qx qy wx wy : Int} : cx (wx - hx) (wy - hy) (qx - hx) (qy - hy) = cx (hx - qx) (hy - qy) (wx - hx) (wy - hy) := by unfold cx; grind
theorem cx_00 {a b : Int} : cx a b a b = 0 := by unfold cx; grind
theorem cx_z {a b : Int} : cx a b 0 0 = 0 := by unfold cx; grind
/-- the points behind the place that stays are left of the way to the new one -/
theorem chx_k1 {S : Int → Int → Prop} {X Y : Nat → Int} {b h v : Nat} {wx wy : Int} (C : chx S X Y b h) (hw : lxp (wx - X (h - 1)) (wy - Y (h - 1))) (hv : b < v) (hvh : v ≤ h) (hpop : ∀ j : Nat, v ≤ j → j < h → cx (X j - X (j - 1)) (Y j - Y (j - 1)) (wx - X (j - 1)) (wy - Y (j - 1)) ≤ 0) :
    ∀ (k m : Nat), m + k + 1 = h → v ≤ m + 1 → ∀ x y : Int, S x y → lxn (x - X m) (y - Y m) → 0 ≤ cx (wx - X m) (wy - Y m) (x - X m) (y - Y m) := by
  obtain ⟨_, _, c3, c4, c5, _⟩ := C
  intro k
  induction k with
  | zero =>
    intro m hm _ x y hs hl
    have q := (c4 x y hs).2
    rw [show h - 1 = m by omega] at q
    rw [show x - X m = 0 by unfold lxn at *; omega, show y - Y m = 0 by unfold lxn at *; omega, cx_z]
    omega
  | succ k ih =>
    intro m hm hvm x y hs hl
    have P := ih (m + 1) (by omega) (by omega) x y hs
    have hp := hpop (m + 1) (by omega) (by omega)
    rw [show m + 1 - 1 = m by omega] at hp
    have hd := c3 m (by omega) (by omega)
    have up := chx_up (S := S) c3 (h - 1 - (m + 1)) (m + 1) (by omega) (by omega)
    rw [show m + 1 + (h - 1 - (m + 1)) = h - 1 by omega] at up
    have hwH : lxp (wx - X (m + 1)) (wy - Y (m + 1)) := by unfold lxp lxn at *; omega
    have hwg : lxp (wx - X m) (wy - Y m) := by unfold lxp lxn at *; omega
    by_cases e : lxn (x - X (m + 1)) (y - Y (m + 1))
    · have q := P e
      have hwq : lxp (wx - x) (wy - y) := by
        have z := (c4 x y hs).2
        unfold lxp lxn at *; omega
      rw [cx_c1 (hx := X (m + 1)) (hy := Y (m + 1))]
      have z := lpT hwq hwH (lp_ln hd) (by rw [cx_c2]; exact q) (by rw [cx_sw, ← cx_sh]; omega)
      omega
    · have q := (c5 m (by omega) (by omega) x y hs).1
      exact lpT hwg hd hl (by rw [cx_sw]; omega) q
/-- the points before it too -/
theorem chx_k2 {S : Int → Int → Prop} {X Y : Nat → Int} {b h v : Nat} {wx wy : Int} (C : chx S X Y b h) (hw : lxp (wx - X (h - 1)) (wy - Y (h - 1))) (hv : b < v) (hvh : v ≤ h) (hkeep : v ≤ b + 1 ∨ 0 < cx (X (v - 1) - X (v - 2)) (Y (v - 1) - Y (v - 2)) (wx - X (v - 2)) (wy - Y (v - 2))) {x y : Int} (hs : S x y) (hl : ¬ lxn (x - X (v - 1)) (y - Y (v - 1))) : 0 < cx (wx - X (v - 1)) (wy - Y (v - 1)) (x - X (v - 1)) (y - Y (v - 1)) := by
  obtain ⟨_, _, c3, c4, c5, _⟩ := C
  have hb := (c4 x y hs).1
  have hvb : b + 1 < v := by
    apply Nat.lt_of_not_le; intro q
    rw [show v - 1 = b by omega] at hl
    exact hl hb
  have hk : 0 < cx (X (v - 1) - X (v - 2)) (Y (v - 1) - Y (v - 2)) (wx - X (v - 2)) (wy - Y (v - 2)) := by
    rcases hkeep with q | q
    · omega
    · exact q
  have hd := c3 (v - 2) (by omega) (by omega)
  have he := (c5 (v - 2) (by omega) (by omega) x y hs).1
  rw [show v - 2 + 1 = v - 1 by omega] at hd he
  have up := chx_up (S := S) c3 (h - 1 - (v - 1)) (v - 1) (by omega) (by omega)
  rw [show v - 1 + (h - 1 - (v - 1)) = h - 1 by omega] at up
  have ha : lxp (wx - X (v - 1)) (wy - Y (v - 1)) := by unfold lxp lxn at *; omega
  have hq : lxp (X (v - 1) - x) (Y (v - 1) - y) := by unfold lxp; unfold lxn at hl; omega
  rw [cx_c4]
  exact lpS hq hd ha (by rw [cx_c3]; exact he) (by rw [← cx_sh]; exact hk)
/-- the new point is left of the edges that stay -/
theorem chx_k3 {S : Int → Int → Prop} {X Y : Nat → Int} {b h v : Nat} {wx wy : Int} (C : chx S X Y b h) (hw : lxp (wx - X (h - 1)) (wy - Y (h - 1))) (hv : b < v) (hvh : v ≤ h) (hkeep : v ≤ b + 1 ∨ 0 < cx (X (v - 1) - X (v - 2)) (Y (v - 1) - Y (v - 2)) (wx - X (v - 2)) (wy - Y (v - 2))) : ∀ (k a : Nat), a + k + 2 = v → b ≤ a → 0 < cx (X (a + 1) - X a) (Y (a + 1) - Y a) (wx - X a) (wy - Y a) := by
  obtain ⟨_, _, c3, c4, c5, c6⟩ := C
  intro k
  induction k with
  | zero =>
    intro a ha hb
    rcases hkeep with q | q
    · omega
    · rw [show v - 1 = a + 1 by omega, show v - 2 = a by omega] at q; exact q
  | succ k ih =>
    intro a ha hb
    have q := ih (a + 1) (by omega) (by omega)
    have t := c6 a hb (by omega)
    have d0 := c3 a hb (by omega)
    have d1 := c3 (a + 1) (by omega) (by omega)
    have up := chx_up (S := S) c3 (h - 1 - (a + 1)) (a + 1) (by omega) (by omega)
    rw [show a + 1 + (h - 1 - (a + 1)) = h - 1 by omega] at up
    have hwa : lxp (wx - X (a + 1)) (wy - Y (a + 1)) := by unfold lxp lxn at *; omega
    have t2 : 0 < cx (X (a + 1) - X a) (Y (a + 1) - Y a) (X (a + 2) - X (a + 1)) (Y (a + 2) - Y (a + 1)) := by
      rw [← cx_sh]; exact t
    rw [cx_sh]
    exact lpS d0 d1 hwa (by show 0 ≤ cx _ _ (X (a + 2) - X (a + 1)) (Y (a + 2) - Y (a + 1)); omega) q
/-- a chain goes on -/
theorem chx_s {S : Int → Int → Prop} {X Y X' Y' : Nat → Int} {b h v : Nat} {wx wy : Int} (C : chx S X Y b h) (hw : lxp (wx - X (h - 1)) (wy - Y (h - 1))) (hv : b < v) (hvh : v ≤ h) (hpop : ∀ j : Nat, v ≤ j → j < h → cx (X j - X (j - 1)) (Y j - Y (j - 1)) (wx - X (j - 1)) (wy - Y (j - 1)) ≤ 0) (hkeep : v ≤ b + 1 ∨ 0 < cx (X (v - 1) - X (v - 2)) (Y (v - 1) - Y (v - 2)) (wx - X (v - 2)) (wy - Y (v - 2))) (hX : ∀ a : Nat, a < v → X' a = X a ∧ Y' a = Y a) (hx : X' v = wx) (hy : Y' v = wy) {S' : Int → Int → Prop} (hS : ∀ x y : Int, S' x y ↔ S x y ∨ (x = wx ∧ y = wy)) : chx S' X' Y' b (v + 1) := by
  have K1 := chx_k1 C hw hv hvh hpop (h - v) (v - 1) (by omega) (by omega)
  have K3 := chx_k3 C hw hv hvh hkeep
  have K2 := fun x y hs hl => chx_k2 C hw hv hvh hkeep (x := x) (y := y) hs hl
  obtain ⟨c1, c2, c3, c4, c5, c6⟩ := C
  have eX : ∀ a : Nat, a < v → X' a = X a := fun a ha => (hX a ha).1
  have eY : ∀ a : Nat, a < v → Y' a = Y a := fun a ha => (hX a ha).2
  have up := chx_up (S := S) c3 (h - 1 - (v - 1)) (v - 1) (by omega) (by omega)
  rw [show v - 1 + (h - 1 - (v - 1)) = h - 1 by omega] at up
  have ub := chx_up (S := S) c3 (v - 1 - b) b (by omega) (by omega)
  rw [show b + (v - 1 - b) = v - 1 by omega] at ub
  have hwv : lxp (wx - X (v - 1)) (wy - Y (v - 1)) := by unfold lxp lxn at *; omega
  have hwq : ∀ x y : Int, S x y → lxp (wx - x) (wy - y) := fun x y hs => by
    have z := (c4 x y hs).2
    unfold lxp lxn at *; omega
  refine ⟨by omega, fun a ha hh => ?_, fun a ha hh => ?_, fun x y hs => ?_, fun a ha hh x y hs => ?_, fun a ha hh => ?_⟩
  · by_cases e : a = v
    · subst e; exact (hS _ _).mpr (Or.inr ⟨hx, hy⟩)
    · rw [eX a (by omega), eY a (by omega)]; exact (hS _ _).mpr (Or.inl (c2 a ha (by omega)))
  · by_cases e : a + 1 = v
    · rw [e, hx, hy, eX a (by omega), eY a (by omega), show a = v - 1 by omega]; exact hwv
    · rw [eX a (by omega), eY a (by omega), eX (a + 1) (by omega), eY (a + 1) (by omega)]; exact c3 a ha (by omega)
  · rw [show v + 1 - 1 = v by omega, hx, hy, eX b hv, eY b hv]
    rcases (hS x y).mp hs with q | ⟨q1, q2⟩
    · exact ⟨(c4 x y q).1, lp_ln (hwq x y q)⟩
    · subst q1; subst q2
      exact ⟨by unfold lxp lxn at *; omega, by unfold lxn; omega⟩
  · by_cases e : a + 1 = v
    · rw [e, hx, hy, eX a (by omega), eY a (by omega), show a = v - 1 by omega]
      rcases (hS x y).mp hs with q | ⟨q1, q2⟩
      · by_cases l : lxn (x - X (v - 1)) (y - Y (v - 1))
        · exact ⟨K1 x y q l, fun _ => ⟨l, lp_ln (hwq x y q)⟩⟩
        · have z := K2 x y q l
          exact ⟨by omega, fun z2 => by omega⟩
      · subst q1; subst q2
        exact ⟨by rw [cx_00]; omega, fun _ => ⟨lp_ln hwv, by unfold lxn; omega⟩⟩
    · rw [eX a (by omega), eY a (by omega), eX (a + 1) (by omega), eY (a + 1) (by omega)]
      rcases (hS x y).mp hs with q | ⟨q1, q2⟩
      · exact c5 a ha (by omega) x y q
      · subst q1; subst q2
        have z := K3 (v - 2 - a) a (by omega) ha
        exact ⟨by omega, fun z2 => by omega⟩
  · by_cases e : a + 2 = v
    · unfold tn
      rw [e, hx, hy, eX a (by omega), eY a (by omega), eX (a + 1) (by omega), eY (a + 1) (by omega)]
      rcases hkeep with q | q
      · omega
      · rw [show v - 1 = a + 1 by omega, show v - 2 = a by omega] at q
        unfold cx at q
        exact q
    · rw [tn_cong (eX a (by omega)) (eX (a + 1) (by omega)) (eX (a + 2) (by omega)) (eY a (by omega)) (eY (a + 1) (by omega)) (eY (a + 2) (by omega))]
      exact c6 a ha (by omega)
/-- a chain of one point -/
theorem chx_1 {S : Int → Int → Prop} {X Y : Nat → Int} {b : Nat} (h : ∀ x y : Int, S x y ↔ x = X b ∧ y = Y b) : chx S X Y b (b + 1) := by
  refine ⟨by omega, fun a ha hh => ?_, fun a ha hh => by omega, fun x y hs => ?_, fun a ha hh => by omega, fun a ha hh => by omega⟩
  · rw [show a = b by omega]; exact (h _ _).mpr ⟨rfl, rfl⟩
  · obtain ⟨e1, e2⟩ := (h x y).mp hs
    rw [show b + 1 - 1 = b by omega, e1, e2]
    exact ⟨by unfold lxn; omega, by unfold lxn; omega⟩
theorem chx_cong {S S' : Int → Int → Prop} {X Y X' Y' : Nat → Int} {b h : Nat} (C : chx S X Y b h) (e : ∀ a : Nat, b ≤ a → a < h → X' a = X a ∧ Y' a = Y a) (hS : ∀ x y : Int, S' x y ↔ S x y) : chx S' X' Y' b h := by
  obtain ⟨c1, c2, c3, c4, c5, c6⟩ := C
  refine ⟨c1, fun a ha hh => ?_, fun a ha hh => ?_, fun x y hs => ?_, fun a ha hh x y hs => ?_, fun a ha hh => ?_⟩
  · rw [(e a ha hh).1, (e a ha hh).2]; exact (hS _ _).mpr (c2 a ha hh)
  · rw [(e a ha (by omega)).1, (e a ha (by omega)).2, (e (a + 1) (by omega) hh).1, (e (a + 1) (by omega) hh).2]; exact c3 a ha hh
  · rw [(e b (by omega) c1).1, (e b (by omega) c1).2, (e (h - 1) (by omega) (by omega)).1, (e (h - 1) (by omega) (by omega)).2]; exact c4 x y ((hS _ _).mp hs)
  · rw [(e a ha (by omega)).1, (e a ha (by omega)).2, (e (a + 1) (by omega) hh).1, (e (a + 1) (by omega) hh).2]; exact c5 a ha hh x y ((hS _ _).mp hs)
  · rw [tn_cong (e a ha (by omega)).1 (e (a + 1) (by omega) (by omega)).1 (e (a + 2) (by omega) (by omega)).1 (e a ha (by omega)).2 (e (a + 1) (by omega) (by omega)).2 (e (a + 2) (by omega) (by omega)).2]; exact c6 a ha hh
/-! what a hull is -/
def nxt (X : Nat → Int) (n : Int) (a : Nat) : Int := if (a : Int) + 1 < n then X (a + 1) else X 0
/-- an edge of S, told either way -/
def edS (S : Int → Int → Prop) (px py ex ey : Int) : Prop := (px ≠ ex ∨ py ≠ ey) ∧ ∀ x y : Int, S x y → 0 ≤ cx (ex - px) (ey - py) (x - px) (y - py) ∧ (cx (ex - px) (ey - py) (x - px) (y - py) = 0 → (lxn (x - px) (y - py) ∧ lxn (ex - x) (ey - y)) ∨ (lxn (px - x) (py - y) ∧ lxn (x - ex) (y - ey)))
def HS (S : Int → Int → Prop) (n : Int) (X Y : Nat → Int) : Prop := (n = 0 ∧ ∀ x y : Int, ¬ S x y) ∨ (0 < n ∧ S (X 0) (Y 0) ∧ (∀ x y : Int, S x y → lxn (x - X 0) (y - Y 0)) ∧ ((n = 1 ∧ ∀ x y : Int, S x y → x = X 0 ∧ y = Y 0) ∨ (2 ≤ n ∧ (∀ a : Nat, 0 < a → (a : Int) < n → S (X a) (Y a) ∧ (X a ≠ X 0 ∨ Y a ≠ Y 0)) ∧ ∀ a : Nat, (a : Int) < n → edS S (X a) (Y a) (nxt X n a) (nxt Y n a))))
theorem edS_u {S : Int → Int → Prop} {px py ex ey fx fy : Int} (h : edS S px py ex ey) (h' : edS S px py fx fy) (se : S ex ey) (sf : S fx fy) : ex = fx ∧ ey = fy := by
  obtain ⟨n1, g1⟩ := h
  obtain ⟨n2, g2⟩ := h'
  obtain ⟨a1, b1⟩ := g1 fx fy sf
  obtain ⟨a2, b2⟩ := g2 ex ey se
  rw [cx_sw] at a2 b2
  have z : cx (ex - px) (ey - py) (fx - px) (fy - py) = 0 := by omega
  have r1 := b1 z
  have r2 := b2 (by omega)
  unfold lxn at r1 r2
  omega
theorem HS_S {S : Int → Int → Prop} {n : Int} {X Y : Nat → Int} (h : HS S n X Y) (a : Nat) (ha : (a : Int) < n) : S (X a) (Y a) := by
  rcases h with ⟨h, _⟩ | ⟨h1, h2, h3, ⟨h4, _⟩ | ⟨h4, h5, _⟩⟩
  · omega
  · rw [show a = 0 by omega]; exact h2
  · by_cases e : a = 0
    · rw [e]; exact h2
    · exact (h5 a (by omega) ha).1
theorem HS_p {S : Int → Int → Prop} {n n' : Int} {X Y X' Y' : Nat → Int} (h : HS S n X Y) (h' : HS S n' X' Y') : ∀ a : Nat, (a : Int) < n → (a : Int) < n' → X a = X' a ∧ Y a = Y' a := by
  intro a
  induction a with
  | zero =>
    intro h1 h2
    have s1 := HS_S h 0 h1
    have s2 := HS_S h' 0 h2
    rcases h with ⟨h, _⟩ | ⟨_, _, h3, _⟩
    · omega
    · rcases h' with ⟨h', _⟩ | ⟨_, _, h3', _⟩
      · omega
      · have q1 := h3 _ _ s2
        have q2 := h3' _ _ s1
        unfold lxn at q1 q2
        omega
  | succ a ih =>
    intro h1 h2
    obtain ⟨e1, e2⟩ := ih (by omega) (by omega)
    have s1 := HS_S h (a + 1) h1
    have s2 := HS_S h' (a + 1) h2
    rcases h with ⟨h, _⟩ | ⟨_, _, _, ⟨h4, _⟩ | ⟨_, _, h6⟩⟩
    · omega
    · omega
    · rcases h' with ⟨h', _⟩ | ⟨_, _, _, ⟨h4', _⟩ | ⟨_, _, h6'⟩⟩
      · omega
      · omega
      · have g1 := h6 a (by omega)
        have g2 := h6' a (by omega)
        unfold nxt at g1 g2
        rw [if_pos (by omega), if_pos (by omega)] at g1 g2
        rw [e1, e2] at g1
        exact edS_u g1 g2 s1 s2
theorem HS_n {S : Int → Int → Prop} {n n' : Int} {X Y X' Y' : Nat → Int} (h : HS S n X Y) (h' : HS S n' X' Y') : n' ≤ n := by
  apply Int.not_lt.mp
  intro hl
  have P := HS_p h h'
  have T := fun a ha => HS_S h' a ha
  rcases h with ⟨h, hn⟩ | ⟨h1, h2, h3, h4⟩
  · exact hn _ _ (T 0 (by omega))
  · have e0 := P 0 (by omega) (by omega)
    rcases h' with ⟨h', _⟩ | ⟨_, _, _, ⟨h4', _⟩ | ⟨h4', h5', h6'⟩⟩
    · omega
    · omega
    · rcases h4 with ⟨h4, h5⟩ | ⟨h4, h5, h6⟩
      · have q := h5' 1 (by omega) (by omega)
        have r := h5 _ _ q.1
        omega
      · have e1 := P (n - 1).toNat (by omega) (by omega)
        have g1 := h6 (n - 1).toNat (by omega)
        have g2 := h6' (n - 1).toNat (by omega)
        unfold nxt at g1 g2
        rw [if_neg (by omega), if_neg (by omega)] at g1
        rw [if_pos (by omega), if_pos (by omega)] at g2
        rw [e1.1, e1.2] at g1
        have q := h5' ((n - 1).toNat + 1) (by omega) (by omega)
        have r := edS_u g1 g2 h2 q.1
        omega
theorem HS_u {S : Int → Int → Prop} {n n' : Int} {X Y X' Y' : Nat → Int} (h : HS S n X Y) (h' : HS S n' X' Y') : n = n' ∧ ∀ a : Nat, (a : Int) < n → X a = X' a ∧ Y a = Y' a := by
  have h1 := HS_n h h'
  have h2 := HS_n h' h
  exact ⟨by omega, fun a ha => HS_p h h' a ha (by omega)⟩
theorem HS_c {S S' : Int → Int → Prop} {n : Int} {X Y X' Y' : Nat → Int} (h : HS S n X Y) (hS : ∀ x y : Int, S x y ↔ S' x y) (e : ∀ a : Nat, (a : Int) < n → X' a = X a ∧ Y' a = Y a) : HS S' n X' Y' := by
  rcases h with ⟨h, h2⟩ | ⟨h1, h2, h3, h4⟩
  · exact Or.inl ⟨h, fun x y q => h2 x y ((hS x y).mpr q)⟩
  · have e0 := e 0 (by omega)
    refine Or.inr ⟨h1, by rw [e0.1, e0.2]; exact (hS _ _).mp h2, fun x y q => by rw [e0.1, e0.2]; exact h3 x y ((hS x y).mpr q), ?_⟩
    rcases h4 with ⟨h4, h5⟩ | ⟨h4, h5, h6⟩
    · exact Or.inl ⟨h4, fun x y q => by rw [e0.1, e0.2]; exact h5 x y ((hS x y).mpr q)⟩
    · refine Or.inr ⟨h4, fun a ha hh => ?_, fun a ha => ?_⟩
      · have q := h5 a ha hh
        rw [(e a hh).1, (e a hh).2, e0.1, e0.2]
        exact ⟨(hS _ _).mp q.1, q.2⟩
      · have q := h6 a ha
        have n1 : nxt X' n a = nxt X n a := by
          unfold nxt; split
          · exact (e (a + 1) (by omega)).1
          · exact e0.1
        have n2 : nxt Y' n a = nxt Y n a := by
          unfold nxt; split
          · exact (e (a + 1) (by omega)).2
          · exact e0.2
        rw [(e a ha).1, (e a ha).2, n1, n2]
        exact ⟨q.1, fun x y s => q.2 x y ((hS x y).mpr s)⟩


theorem cx_nn {a b c d e f g h : Int} : cx (-a - -b) (-c - -d) (-e - -b) (-f - -d) = cx (a - b) (c - d) (e - b) (f - d) := by unfold cx; grind
/-- the points of S turned by a half turn -/
def ngS (S : Int → Int → Prop) : Int → Int → Prop := fun x y => S (-x) (-y)
def ng (X : Nat → Int) : Nat → Int := fun a => - X a
theorem ngS_n {S : Int → Int → Prop} {x y : Int} : ngS S (-x) (-y) ↔ S x y := by unfold ngS; rw [Int.neg_neg, Int.neg_neg]
/-- an edge of a chain is one of S -/
theorem chx_e1 {S : Int → Int → Prop} {X Y : Nat → Int} {b h a : Nat} (C : chx S X Y b h) (ha : b ≤ a) (hh : a + 1 < h) : edS S (X a) (Y a) (X (a + 1)) (Y (a + 1)) := by
  have d := C.2.2.1 a ha hh
  refine ⟨by unfold lxp at d; omega, fun x y s => ?_⟩
  have q := C.2.2.2.2.1 a ha hh x y s
  exact ⟨q.1, fun z => Or.inl (q.2 z)⟩
theorem chx_e2 {S : Int → Int → Prop} {X Y : Nat → Int} {b h a : Nat} (C : chx (ngS S) (ng X) (ng Y) b h) (ha : b ≤ a) (hh : a + 1 < h) : edS S (X a) (Y a) (X (a + 1)) (Y (a + 1)) := by
  have d := C.2.2.1 a ha hh
  unfold ng at d
  refine ⟨by unfold lxp at d; omega, fun x y s => ?_⟩
  have q := C.2.2.2.2.1 a ha hh (-x) (-y) (ngS_n.mpr s)
  unfold edg ng at q
  rw [cx_nn (g := 0) (h := 0)] at q
  refine ⟨q.1, fun z => Or.inr ?_⟩
  have r := q.2 z
  unfold lxn at r ⊢
  omega
theorem chx_lt {S : Int → Int → Prop} {X Y : Nat → Int} {b h : Nat} (C : chx S X Y b h) {a c : Nat} (ha : b ≤ a) (hac : a < c) (hc : c < h) : lxp (X c - X a) (Y c - Y a) := by
  have d := C.2.2.1 a ha (by omega)
  have up := chx_up (S := S) C.2.2.1 (c - (a + 1)) (a + 1) (by omega) (by omega)
  rw [show a + 1 + (c - (a + 1)) = c by omega] at up
  unfold lxp lxn at *
  omega
/-- the reference's way: lower chain to t, upper chain from t on; the place n holds the first one again -/
theorem HS_m {S : Int → Int → Prop} {X Y : Nat → Int} {t n : Nat} (C1 : chx S X Y 0 (t + 1)) (C2 : chx (ngS S) (ng X) (ng Y) t (n + 1)) (ht : 1 ≤ t) (hn : t < n) (eX : X n = X 0) (eY : Y n = Y 0) : HS S n X Y := by
  have s0 := C1.2.1 0 (by omega) (by omega)
  refine Or.inr ⟨by omega, s0, fun x y s => (C1.2.2.2.1 x y s).1, Or.inr ⟨by omega, fun a ha hh => ⟨?_, ?_⟩, fun a ha => ?_⟩⟩
  · by_cases e : a ≤ t
    · exact C1.2.1 a (by omega) (by omega)
    · have q := C2.2.1 a (by omega) (by omega)
      unfold ng at q
      exact ngS_n.mp q
  · by_cases e : a ≤ t
    · have q := chx_lt C1 (a := 0) (c := a) (by omega) ha (by omega)
      unfold lxp at q; omega
    · have q := chx_lt C2 (a := a) (c := n) (by omega) (by omega) (by omega)
      unfold lxp ng at q; omega
  · have n1 : nxt X n a = X (a + 1) := by
      unfold nxt; split
      · rfl
      · rw [show a + 1 = n by omega, eX]
    have n2 : nxt Y n a = Y (a + 1) := by
      unfold nxt; split
      · rfl
      · rw [show a + 1 = n by omega, eY]
    rw [n1, n2]
    by_cases e : a < t
    · exact chx_e1 C1 (by omega) (by omega)
    · exact chx_e2 C2 (by omega) (by omega)
theorem HS_1 {S : Int → Int → Prop} {X Y : Nat → Int} (h : S (X 0) (Y 0)) (h2 : ∀ x y : Int, S x y → x = X 0 ∧ y = Y 0) : HS S 1 X Y :=
  Or.inr ⟨by omega, h, fun x y s => by obtain ⟨e1, e2⟩ := h2 x y s; rw [e1, e2]; unfold lxn; omega, Or.inl ⟨rfl, h2⟩⟩
/-! the class's way: columns -/
/-- of each column (x from -80 on) the least and the greatest -/
def HUL (S : Int → Int → Prop) (f g : Nat → Int) : Prop := (∀ x y : Int, S x y → (-80 ≤ x ∧ x ≤ 80) ∧ f (x + 80).toNat ≤ y ∧ y ≤ g (x + 80).toNat) ∧ (∀ c : Nat, c < 161 → f c ≤ g c → S ((c : Int) - 80) (f c) ∧ S ((c : Int) - 80) (g c)) ∧ ∀ c : Nat, c < 161 → f c ≤ g c ∨ (81 ≤ f c ∧ g c ≤ -81)
/-- the lowest points of the columns before k -/
def SL (f g : Nat → Int) (k : Nat) : Int → Int → Prop := fun x y => ∃ c : Nat, c < k ∧ f c ≤ g c ∧ x = (c : Int) - 80 ∧ y = f c
/-- the highest points of the columns from k on -/
def SH (f g : Nat → Int) (k : Nat) : Int → Int → Prop := fun x y => ∃ c : Nat, k ≤ c ∧ c < 161 ∧ f c ≤ g c ∧ x = (c : Int) - 80 ∧ y = g c
theorem HUL_l {S : Int → Int → Prop} {f g : Nat → Int} (h : HUL S f g) {x y : Int} (s : S x y) : SL f g 161 x (f (x + 80).toNat) ∧ SH f g 0 x (g (x + 80).toNat) := by
  have q := h.1 x y s
  exact ⟨⟨(x + 80).toNat, by omega, by omega, by omega, rfl⟩, ⟨(x + 80).toNat, by omega, by omega, by omega, by omega, rfl⟩⟩
theorem SL_S {S : Int → Int → Prop} {f g : Nat → Int} (h : HUL S f g) {x y : Int} (s : SL f g 161 x y) : S x y := by
  obtain ⟨c, h1, h2, rfl, rfl⟩ := s
  exact (h.2.1 c h1 h2).1
theorem SH_S {S : Int → Int → Prop} {f g : Nat → Int} (h : HUL S f g) {x y : Int} (s : SH f g 0 x y) : S x y := by
  obtain ⟨c, _, h1, h2, rfl, rfl⟩ := s
  exact (h.2.1 c h1 h2).2
theorem cx_up {a b c d e : Int} : cx a b c d = cx a b c e + a * (d - e) := by unfold cx; grind
/-- an edge over the lowest points is one of S -/
theorem edS_l {S : Int → Int → Prop} {f g : Nat → Int} (h : HUL S f g) {X Y : Nat → Int} {b m a : Nat} (C : chx (SL f g 161) X Y b m) (ha : b ≤ a) (hh : a + 1 < m) : edS S (X a) (Y a) (X (a + 1)) (Y (a + 1)) := by
  have d := C.2.2.1 a ha hh
  have hx : 0 < X (a + 1) - X a := by
    obtain ⟨c1, _, _, e1, e2⟩ := C.2.1 a ha (by omega)
    obtain ⟨c2, _, _, e3, e4⟩ := C.2.1 (a + 1) (by omega) hh
    rcases d with d | ⟨d1, d2⟩
    · exact d
    · have : c1 = c2 := by omega
      subst this
      omega
  refine ⟨by omega, fun x y s => ?_⟩
  have q := C.2.2.2.2.1 a ha hh _ _ (HUL_l h s).1
  have r := (h.1 x y s).2.1
  have m0 := Int.mul_nonneg (show 0 ≤ X (a + 1) - X a by omega) (show 0 ≤ (y - Y a) - (f (x + 80).toNat - Y a) by omega)
  have e := cx_up (a := X (a + 1) - X a) (b := Y (a + 1) - Y a) (c := x - X a) (d := y - Y a) (e := f (x + 80).toNat - Y a)
  have q1 := q.1
  refine ⟨by omega, fun z => Or.inl ?_⟩
  have ey : y = f (x + 80).toNat := by
    by_cases w : y = f (x + 80).toNat
    · exact w
    · have m1 := Int.mul_pos hx (show 0 < (y - Y a) - (f (x + 80).toNat - Y a) by omega)
      omega
  have q2 := q.2 (by rw [← ey]; exact z)
  rw [← ey] at q2
  exact q2
theorem edS_h {S : Int → Int → Prop} {f g : Nat → Int} (h : HUL S f g) {X Y : Nat → Int} {b m a : Nat} (C : chx (ngS (SH f g 0)) (ng X) (ng Y) b m) (ha : b ≤ a) (hh : a + 1 < m) : edS S (X a) (Y a) (X (a + 1)) (Y (a + 1)) := by
  have d := C.2.2.1 a ha hh
  unfold ng at d
  have hx : X (a + 1) - X a < 0 := by
    obtain ⟨c1, _, _, _, e1, e2⟩ := ngS_n.mp (C.2.1 a ha (by omega))
    obtain ⟨c2, _, _, _, e3, e4⟩ := ngS_n.mp (C.2.1 (a + 1) (by omega) hh)
    rcases d with d | ⟨d1, d2⟩
    · omega
    · have : c1 = c2 := by omega
      subst this
      omega
  refine ⟨by omega, fun x y s => ?_⟩
  have q := C.2.2.2.2.1 a ha hh (-x) (-(g (x + 80).toNat)) (ngS_n.mpr (HUL_l h s).2)
  unfold edg ng at q
  rw [cx_nn (g := 0) (h := 0)] at q
  have r := (h.1 x y s).2.2
  have m0 := Int.mul_nonneg (show 0 ≤ X a - X (a + 1) by omega) (show 0 ≤ (g (x + 80).toNat - Y a) - (y - Y a) by omega)
  have e := cx_up (a := X (a + 1) - X a) (b := Y (a + 1) - Y a) (c := x - X a) (d := y - Y a) (e := g (x + 80).toNat - Y a)
  have e2 : (X (a + 1) - X a) * (y - Y a - (g (x + 80).toNat - Y a)) = (X a - X (a + 1)) * ((g (x + 80).toNat - Y a) - (y - Y a)) := by grind
  have q1 := q.1
  refine ⟨by omega, fun z => Or.inr ?_⟩
  have ey : y = g (x + 80).toNat := by
    by_cases w : y = g (x + 80).toNat
    · exact w
    · have m1 := Int.mul_pos (show 0 < X a - X (a + 1) by omega) (show 0 < (g (x + 80).toNat - Y a) - (y - Y a) by omega)
      omega
  have q2 := q.2 (by rw [← ey]; exact z)
  rw [← ey] at q2
  unfold lxn at q2 ⊢
  omega
/-- upright edges -/
theorem edS_u1 {S : Int → Int → Prop} {px py ey : Int} (hp : py < ey) (h : ∀ x y : Int, S x y → x < px ∨ (x = px ∧ py ≤ y ∧ y ≤ ey)) : edS S px py px ey := by
  refine ⟨by omega, fun x y s => ?_⟩
  have e : cx (px - px) (ey - py) (x - px) (y - py) = (ey - py) * (px - x) := by unfold cx; grind
  rw [e]
  rcases h x y s with q | ⟨q, q1, q2⟩
  · have m := Int.mul_pos (show 0 < ey - py by omega) (show 0 < px - x by omega)
    exact ⟨by omega, fun z => by omega⟩
  · subst q
    rw [show x - x = 0 by omega, Int.mul_zero]
    exact ⟨by omega, fun _ => Or.inl (by unfold lxn; omega)⟩
theorem edS_u2 {S : Int → Int → Prop} {px py ey : Int} (hp : ey < py) (h : ∀ x y : Int, S x y → px < x ∨ (x = px ∧ ey ≤ y ∧ y ≤ py)) : edS S px py px ey := by
  refine ⟨by omega, fun x y s => ?_⟩
  have e : cx (px - px) (ey - py) (x - px) (y - py) = (py - ey) * (x - px) := by unfold cx; grind
  rw [e]
  rcases h x y s with q | ⟨q, q1, q2⟩
  · have m := Int.mul_pos (show 0 < py - ey by omega) (show 0 < x - px by omega)
    exact ⟨by omega, fun z => by omega⟩
  · subst q
    rw [show x - x = 0 by omega, Int.mul_zero]
    exact ⟨by omega, fun _ => Or.inr (by unfold lxn; omega)⟩
/-- the class's hull: lower chain to m, an upright edge or none, upper chain from b on to k - 1; n of them are told -/
theorem HS_k {S : Int → Int → Prop} {f g : Nat → Int} (h : HUL S f g) {X Y : Nat → Int} {m b k n : Nat} (C1 : chx (SL f g 161) X Y 0 (m + 1)) (C2 : chx (ngS (SH f g 0)) (ng X) (ng Y) b k) (hb : (b = m ∧ Y b = Y m) ∨ (b = m + 1 ∧ X b = X m ∧ Y m < Y b)) (hn : (n = k ∧ (k ≤ 1 ∨ X 0 ≠ X (k - 1) ∨ Y 0 ≠ Y (k - 1))) ∨ (n + 1 = k ∧ 1 < k ∧ X 0 = X (k - 1) ∧ Y 0 = Y (k - 1))) : HS S n X Y := by
  have hbk := C2.1
  have s0 : S (X 0) (Y 0) := SL_S h (C1.2.1 0 (by omega) (by omega))
  -- the ends
  have L0 : ∀ x y : Int, S x y → X 0 < x ∨ (x = X 0 ∧ Y 0 ≤ y) := fun x y s => by
    have q := (C1.2.2.2.1 _ _ (HUL_l h s).1).1
    have r := (h.1 x y s).2
    obtain ⟨c, _, _, e1, e2⟩ := C1.2.1 0 (by omega) (by omega)
    unfold lxn at q
    omega
  have Lm : ∀ x y : Int, S x y → x ≤ X m := fun x y s => by
    have q := (C1.2.2.2.1 _ _ (HUL_l h s).1).2
    rw [show m + 1 - 1 = m by omega] at q
    unfold lxn at q
    omega
  have Xb : X b = X m := by
    rcases hb with q | q
    · rw [q.1]
    · exact q.2.1
  have Hb : ∀ x y : Int, S x y → x = X m → y ≤ Y b := fun x y s e => by
    have q := (C2.2.2.2.1 _ _ (ngS_n.mpr (HUL_l h s).2)).1
    have r := (h.1 x y s).2
    unfold lxn ng at q
    omega
  have He : ∀ x y : Int, S x y → X (k - 1) < x ∨ (x = X (k - 1) ∧ y ≤ Y (k - 1)) := fun x y s => by
    have q := (C2.2.2.2.1 _ _ (ngS_n.mpr (HUL_l h s).2)).2
    have r := (h.1 x y s).2
    obtain ⟨c, _, _, _, e1, e2⟩ := ngS_n.mp (C2.2.1 (k - 1) (by omega) (by omega))
    unfold lxn ng at q
    by_cases z : x = X (k - 1)
    · rw [show (x + 80).toNat = c by omega] at r
      omega
    · omega
  have Se : S (X (k - 1)) (Y (k - 1)) := SH_S h (ngS_n.mp (C2.2.1 (k - 1) (by omega) (by omega)))
  have Sm : S (X m) (Y m) := SL_S h (C1.2.1 m (by omega) (by omega))
  have Lmy : ∀ x y : Int, S x y → x = X m → Y m ≤ y := fun x y s e => by
    have r := (h.1 x y s).2
    obtain ⟨c, _, _, e1, e2⟩ := C1.2.1 m (by omega) (by omega)
    rw [show (x + 80).toNat = c by omega] at r
    omega
  have X0e : X (k - 1) = X 0 := by
    have q1 := L0 _ _ Se
    have q2 := He _ _ s0
    omega
  have Y0e : Y 0 ≤ Y (k - 1) := by
    have q1 := L0 _ _ Se
    omega
  by_cases one : k = 1
  · -- one point
    have b0 : b = 0 := by omega
    have m0 : m = 0 := by omega
    subst m0
    have n1 : n = 1 := by omega
    subst n1
    refine HS_1 s0 (fun x y s => ?_)
    have q1 := L0 x y s
    have q2 := He x y s
    rw [one] at q2
    have q3 := Lm x y s
    rw [show 1 - 1 = 0 from rfl] at q2
    omega
  have hn2 : 2 ≤ n := by
    rcases hn with ⟨q, _⟩ | ⟨q, q2, q3, q4⟩
    · omega
    · apply Nat.le_of_not_lt
      intro w
      have k2 : k = 2 := by omega
      subst k2
      rw [show 2 - 1 = 1 from rfl] at q3 q4
      rcases hb with ⟨b1, b2⟩ | ⟨b1, b2, b3⟩
      · by_cases e : b = 0
        · have d := chx_lt C2 (a := 0) (c := 1) (by omega) (by omega) (by omega)
          unfold lxp ng at d
          omega
        · have d := chx_lt C1 (a := 0) (c := 1) (by omega) (by omega) (by omega)
          unfold lxp at d
          omega
      · have : m = 0 := by omega
        subst this
        rw [b1, show 0 + 1 = 1 from rfl] at b3
        omega
  refine Or.inr ⟨by omega, s0, fun x y s => by have q := L0 x y s; unfold lxn; omega, Or.inr ⟨by omega, fun a ha hh => ⟨?_, ?_⟩, fun a ha => ?_⟩⟩
  · by_cases e : a ≤ m
    · exact SL_S h (C1.2.1 a (by omega) (by omega))
    · exact SH_S h (ngS_n.mp (C2.2.1 a (by omega) (by omega)))
  · by_cases e : a ≤ m
    · have d := chx_lt C1 (a := 0) (c := a) (by omega) ha (by omega)
      unfold lxp at d; omega
    · by_cases w : a < k - 1
      · have d := chx_lt C2 (a := a) (c := k - 1) (by omega) w (by omega)
        unfold lxp ng at d; omega
      · have ea : a = k - 1 := by omega
        subst ea
        rcases hn with ⟨_, q⟩ | ⟨q, _⟩
        · omega
        · omega
  · have n1 : a + 1 < k → nxt X n a = X (a + 1) ∧ nxt Y n a = Y (a + 1) := fun w => by
      unfold nxt
      split
      · exact ⟨rfl, rfl⟩
      · rcases hn with ⟨q, _⟩ | ⟨q, _, q3, q4⟩
        · omega
        · rw [show a + 1 = k - 1 by omega]; exact ⟨q3, q4⟩
    by_cases w : a + 1 < k
    · rw [(n1 w).1, (n1 w).2]
      by_cases e : a < m
      · exact edS_l h C1 (by omega) (by omega)
      · by_cases e2 : b ≤ a
        · exact edS_h h C2 e2 w
        · rcases hb with ⟨b1, _⟩ | ⟨b1, b2, b3⟩
          · omega
          · have ea : a = m := by omega
            subst ea
            rw [← b1, b2]
            refine edS_u1 b3 (fun x y s => ?_)
            have q1 := Lm x y s
            by_cases z : x = X a
            · exact Or.inr ⟨z, Lmy x y s z, Hb x y s z⟩
            · omega
    · -- the upright edge at the left end
      have ea : a = k - 1 := by omega
      have en : n = k := by omega
      subst ea
      have n2 : nxt X n (k - 1) = X 0 ∧ nxt Y n (k - 1) = Y 0 := by
        unfold nxt
        rw [if_neg (by omega), if_neg (by omega)]
        exact ⟨rfl, rfl⟩
      rw [n2.1, n2.2]
      have hy : Y 0 < Y (k - 1) := by
        rcases hn with ⟨_, q⟩ | ⟨q, _⟩
        · omega
        · omega
      rw [← X0e]
      refine edS_u2 hy (fun x y s => ?_)
      have q1 := L0 x y s
      have q2 := He x y s
      omega

