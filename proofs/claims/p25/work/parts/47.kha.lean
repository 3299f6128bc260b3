
set_option maxHeartbeats 4000000 in
set_option maxRecDepth 100000 in
theorem c_X11_cut4 (l : Launch) (D : JD) (q : Nat → Nat) (u : CS) (A : Nat → Prop) (hD : va_D A (cW D q u)) (s : Int) (i : Int) (what : Int) (p0 : CI u) (p1 : -2147483648 ≤ s ∧ s ≤ 2147483647) (p2 : -2147483648 ≤ i ∧ i ≤ 2147483647) (p3 : -2147483648 ≤ what ∧ what ≤ 2147483647) : Met l yX11_cut (jw yX11_cut cX11_cut 5 (some .int)) (jr 7 149) (jP [.ref (q 0), .int (J s), .int (J i), .int (J what)] D (fun H => va_P D.1 j_cl (cW D q u) H)) (jWi (fun z u' => ((CI u' ∧ cSame u u') ∧ hSam u u' ∧ sSam u u' ∧ kCo u u') ∧ cuK u u' s) (fun u' H => va_P D.1 j_cl (cW D q u') H) A) 0 0 A := by
  refine Met.ofW (cc := cX11_cut) (maxL := 5) (ret := (some .int)) (by decide) rfl ?_
  intro pr en st mi args below meth co s₁ B hml hv
  obtain ⟨rfl, hG, hP⟩ := hv
  have hr := B.returns
  have hlk := B.notSynchronized
  have SS : jS pr mi co cX11_cut 5 st _ RX11 := ⟨B.exec, B.bytes, hml, findClass_of_methodNamed B.named, fun w hw => atoms_spec (ws := (jw yX11_cut cX11_cut 5 (some .int))) B.pre w (List.mem_cons_of_mem _ hw)⟩
  have hl := lv_entry ([.ref (q 0), .int (J s), .int (J i), .int (J what)]) (n := 5) (Nat.le_of_ble_eq_true rfl)
  rw [lg_entry_eq]
  generalize (lg_sl ([.ref (q 0), .int (J s), .int (J i), .int (J what)]) ++ List.replicate (5 - (lg_sl ([.ref (q 0), .int (J s), .int (J i), .int (J what)])).length) Slot.unset).toArray = ls at hl ⊢
  have hl : lv_has ls 5 [(0, .ref (q 0)), (1, .int (J s)), (2, .int (J i)), (3, .int (J what))] := hl
  have hS : va_S A st.heap st.heap [] := va_S.rf
  refine lv_aload_n SS.1 SS.2.1 dX11_cut_0 rfl (lv_at hl 0 rfl) ?_
  refine lv_iload_n SS.1 SS.2.1 dX11_cut_1 rfl (lv_at hl 1 rfl) ?_
  refine j_vSh SS (As := [.int (J s)]) (rest := []) (c_X11_shapeAt l D q u  s (show -2147483648 ≤ s ∧ s ≤ 2147483647 from (p1))) mf_X11_shapeAt kw_414 hG hP hP (ci := 11) (q0 := 0) rfl rfl rfl rfl hl.1 ⟨⟨Nat.le_of_ble_eq_true rfl, Nat.le_of_ble_eq_true rfl⟩, Nat.le_of_ble_eq_true rfl, Nat.le_refl _, Nat.le_refl _⟩ rfl dX11_cut_2 (fun i_2 hi_2 hz_2 => ?_) (fun hn_2 => ?_)
  · skip
    have hI2 := CI_s p0 (show i_2 < 8 by omega)
    have hI2c := hI2.1
    have hrl2 := rl_s (show i_2 < 8 by omega)
    refine lv_astore (lv' := [(4, .ref (q (8 + 5 * i_2))), (0, .ref (q 0)), (1, .int (J s)), (2, .int (J i)), (3, .int (J what))]) SS.1 SS.2.1 dX11_cut_5 hl (by decide) rfl (fun ls hl => ?_)
    refine lv_aload SS.1 SS.2.1 dX11_cut_7 (lv_at hl 0 rfl) ?_
    refine lv_ifnull SS.1 SS.2.1 dX11_cut_9 ?_
    refine lv_iload_n SS.1 SS.2.1 dX11_cut_12 rfl (lv_at hl 3 rfl) ?_
    refine j_if_lt SS (tgt := 21) (x := i) dX11_cut_13 (by decide) (by omega) (fun c_13 => ?_) (fun c_13 => ?_)
    · skip
      refine j_iconst SS dX11_cut_21 ?_
      exact W.iret SS.1 SS.2.1 hr (fun t0 ht hW => ⟨⟨_, u, rfl, ⟨(-1), rfl, (⟨⟨⟨p0, (by first | exact cs_refl | exact (fun r hr => ⟨if_neg (by omega), if_neg (by omega), if_neg (by omega)⟩))⟩, (by first | exact hs_refl | exact (fun _ _ => rfl)), (by first | exact ss_refl | exact ⟨rfl, fun _ _ => rfl⟩), ⟨⟨(by first | rfl | exact if_neg (by omega) | exact (if_neg (by omega)).trans (if_neg (by omega))), (by first | rfl | exact if_neg (by omega) | exact (if_neg (by omega)).trans (if_neg (by omega))), (by first | rfl | exact if_neg (by omega) | exact (if_neg (by omega)).trans (if_neg (by omega)))⟩, rfl, rfl, rfl⟩⟩, Or.inl kCu_r⟩)⟩, by show va_P D.1 j_cl (cW D q u) t0.heap; rw [ht]; first | exact hP | (simp only [sC_id, sX_id, sY_id, sH_id, sT_id, sV_id]; exact hP)⟩, hS.F ht⟩) hS.2.2 dX11_cut_22 hlk
    · skip
      refine lv_iload_n SS.1 SS.2.1 dX11_cut_16 rfl (lv_at hl 4 rfl) ?_
      refine j_iconst SS dX11_cut_17 ?_
      refine j_icmp_ge SS (tgt := 23) (x := what) (y := (-1)) dX11_cut_18 (by decide) (by omega) (by decide) (fun c_18 => ?_) (fun c_18 => ?_)
      · skip
        refine lv_aload SS.1 SS.2.1 dX11_cut_23 (lv_at hl 0 rfl) ?_
        refine j_get SS hG hP (8 + 5 * i_2) (v := .ref (q (9 + 5 * i_2))) (C := RX10) (T := TX10) (N := 3) (cw_shape (by omega)) rfl inX10 0 (by decide) (ref := "GridPolygons$Shape") kw_151 rfl rfl dX11_cut_25 ?_
        refine j_bipush SS dX11_cut_28 (by decide +kernel) ?_
        refine j_sRi SS (As := [.ref (q (9 + 5 * i_2)), .int (J 12)]) (rest := []) (c_X11_hasAtMost3 l D q u i_2 (by omega) 12 (show RB 40 u i_2 from (CI_40 p0 (by omega))) (show -2147483648 ≤ (12 : Int) ∧ (12 : Int) ≤ 2147483647 from (by omega))) mf_X11_hasAtMost kw_859 hG hP rfl hl.1 ⟨⟨Nat.le_of_ble_eq_true rfl, Nat.le_of_ble_eq_true rfl⟩, Nat.le_of_ble_eq_true rfl, Nat.le_refl _, Nat.le_refl _⟩ rfl dX11_cut_30 (fun z_30 h_30 => ?_)
        have h_30 : (z_30 = 1 ∧ 3 ≤ (u.1.2.2.1 i_2) ∧ rE u i_2 + rI u i_2 ≤ (12 : Int)) ∨ (z_30 = 0 ∧ ¬ (3 ≤ (u.1.2.2.1 i_2) ∧ rE u i_2 + rI u i_2 ≤ (12 : Int))) := h_30
        refine j_if_ne SS (tgt := 39) (x := z_30) dX11_cut_33 (by decide) (by omega) (fun c_33 => ?_) (fun c_33 => ?_)
        · skip
          refine lv_iload_n SS.1 SS.2.1 dX11_cut_39 rfl (lv_at hl 4 rfl) ?_
          refine lv_aload SS.1 SS.2.1 dX11_cut_40 (lv_at hl 0 rfl) ?_
          refine j_get SS hG hP (8 + 5 * i_2) (v := .ref (q (9 + 5 * i_2))) (C := RX10) (T := TX10) (N := 3) (cw_shape (by omega)) rfl inX10 0 (by decide) (ref := "GridPolygons$Shape") kw_151 rfl rfl dX11_cut_42 ?_
          refine j_sRi SS (As := [.ref (q (9 + 5 * i_2))]) (rest := [.int (J what)]) (c_X11_segmentsOf l D q u i_2 (by omega)  (show RB 40 u i_2 from (CI_40 p0 (by omega)))) mf_X11_segmentsOf kw_862 hG hP rfl hl.1 ⟨⟨Nat.le_of_ble_eq_true rfl, Nat.le_of_ble_eq_true rfl⟩, Nat.le_of_ble_eq_true rfl, Nat.le_refl _, Nat.le_refl _⟩ rfl dX11_cut_45 (fun z_45 h_45 => ?_)
          have h_45 : z_45 = (3 * rA u i_2 + rE u i_2).tdiv 2 ∧ -50000000 ≤ z_45 ∧ z_45 ≤ 50000000 := h_45
          refine j_icmp_lt SS (tgt := 53) (x := what) (y := z_45) dX11_cut_48 (by decide) (by omega) (by omega) (fun c_48 => ?_) (fun c_48 => ?_)
          · skip
            refine lv_aload_n SS.1 SS.2.1 dX11_cut_53 rfl (lv_at hl 1 rfl) ?_
            refine j_get SS hG hP 0 (v := .ref (q 6)) (C := RX11) (T := TX11) (N := 8) rfl rfl inX11 5 (by decide) (ref := "GridPolygons") kw_390 rfl rfl dX11_cut_54 ?_
            refine lv_aload SS.1 SS.2.1 dX11_cut_57 (lv_at hl 0 rfl) ?_
            refine j_vWi SS (As := [.ref (q (8 + 5 * i_2))]) (rest := []) (c_X2_build4 l D q u A (cW_D hD) i_2 (by omega)  (show RB 40 u i_2 from (CI_40 p0 (by omega))) (show RB 40 u 9 from (p0.2.1.2.1)) (show ∀ k : Nat, 0 ≤ (u.2.1 2) k ∧ (u.2.1 2) k ≤ 12 from (fun k => (p0.2.2.2.2.2.1.2.2.1 k).1)) (show ∀ k : Nat, 0 ≤ (u.2.1 3) k ∧ (u.2.1 3) k ≤ 12 from (fun k => (p0.2.2.2.2.2.1.2.2.1 k).2)) (show ∀ k : Nat, -1 ≤ (u.2.1 4) k ∧ (u.2.1 4) k ≤ 63 from (p0.2.2.2.2.2.1.2.2.2)) (show 0 ≤ (u.2.2.2 20) ∧ (u.2.2.2 20) ≤ 63 from (p0.2.2.2.2.2.1.1)) (show 0 ≤ (u.2.2.2 21) ∧ (u.2.2.2 21) ≤ 756 from (p0.2.2.2.2.2.1.2.1)) (show 0 ≤ (u.2.2.2 22) ∧ (u.2.2.2 22) ≤ 1500 from (p0.2.2.2.2.2.2.1.1)) (show ∀ k : Nat, 0 ≤ (u.2.1 8) k ∧ (u.2.1 8) k ≤ 1500 from (p0.2.2.2.2.2.2.1.2.2.2)) (show (u.2.2.2 23) = 0 ∨ (u.2.2.2 23) = 1 from (p0.2.2.2.2.2.2.1.2.1)) (show -2147483648 ≤ (u.2.2.2 24) ∧ (u.2.2.2 24) ≤ 2147483647 from (p0.2.2.2.2.2.2.1.2.2.1)) (show -2147483648 ≤ (u.1.2.2.2.2 i_2) ∧ (u.1.2.2.2.2 i_2) ≤ 2147483647 from ((p0.1 i_2 (by omega)).2.2)) (show 1 ≤ (u.1.2.2.1 i_2) from (by omega))) mf_X2_build kw_865 hG hP hP (ci := 2) (q0 := 6) rfl rfl rfl hS (fun _ h => h) rfl hl.1 ⟨⟨Nat.le_of_ble_eq_true rfl, Nat.le_of_ble_eq_true rfl⟩, Nat.le_of_ble_eq_true rfl, Nat.le_refl _, Nat.le_refl _⟩ rfl dX11_cut_59 (fun z_59 u59 H locs h_59 hP _ hS => ?_)
            obtain ⟨n_59, f_59, g_59, ls9_59, gr9_59, nu9_59, w3_59, w4_59, w5_59, v20_59, v21_59, st2_59, fa_59, pc9_59, v22_59, sp_59, v24_59, rfl, h_59⟩ := h_59
            have hP : va_P D.1 j_cl (cW D q (sY (sX (sV (sV (sV (sV (sV (sL (sL (sL (sL (sI (sI (sI (sI (sI (sC u 9 n_59) 2 ls9_59) 3 gr9_59) 4 nu9_59) 7 fa_59) 8 pc9_59) 2 st2_59) 3 w3_59) 4 w4_59) 5 w5_59) 20 v20_59) 21 v21_59) 22 v22_59) 23 sp_59) 24 v24_59) 9 f_59) 9 g_59)) H := hP
            have h_59 : ((z_59 = 0 ∨ z_59 = 1) ∧ ((0 ≤ n_59 ∧ n_59 ≤ 12) ∧ RV 40 f_59 g_59) ∧ (∀ k : Nat, 0 ≤ ls9_59 k ∧ ls9_59 k ≤ 12) ∧ (∀ k : Nat, 0 ≤ gr9_59 k ∧ gr9_59 k ≤ 12) ∧ (∀ k : Nat, -1 ≤ nu9_59 k ∧ nu9_59 k ≤ 63) ∧ ((0 ≤ v20_59 ∧ v20_59 ≤ 63) ∧ 0 ≤ v21_59 ∧ v21_59 ≤ 756) ∧ ((0 ≤ v22_59 ∧ v22_59 ≤ 1500) ∧ (∀ k : Nat, 0 ≤ pc9_59 k ∧ pc9_59 k ≤ 1500) ∧ (sp_59 = 0 ∨ sp_59 = 1)) ∧ -2147483648 ≤ v24_59 ∧ v24_59 ≤ 2147483647) ∧ (z_59 = 1 ↔ sp_59 = 0) ∧ (((u.2.2.2 24) = (u.1.2.2.2.2 i_2) ∧ ((n_59 = (u.1.2.2.1 9) ∧ f_59 = (u.1.1 9) ∧ g_59 = (u.1.2.1 9)) ∧ (ls9_59 = (u.2.1 2) ∧ gr9_59 = (u.2.1 3) ∧ nu9_59 = (u.2.1 4) ∧ fa_59 = (u.2.1 7) ∧ pc9_59 = (u.2.1 8)) ∧ (st2_59 = (u.2.2.1 2) ∧ w3_59 = (u.2.2.1 3) ∧ w4_59 = (u.2.2.1 4) ∧ w5_59 = (u.2.2.1 5)) ∧ (v20_59 = (u.2.2.2 20) ∧ v21_59 = (u.2.2.2 21) ∧ v22_59 = (u.2.2.2 22) ∧ sp_59 = (u.2.2.2 23) ∧ v24_59 = (u.2.2.2 24)))) ∨ (v24_59 = (u.1.2.2.2.2 i_2) ∧ (FT9 u i_2 12 → ML9 (inC u i_2) n_59 f_59 g_59 ls9_59 gr9_59 nu9_59 v20_59 w3_59 w4_59 w5_59 v21_59 ∧ FCT f_59 g_59 n_59 ls9_59 gr9_59 v20_59 st2_59 fa_59 v22_59 sp_59))) := h_59
            obtain ⟨h_59, bu_59⟩ := h_59
            obtain ⟨hz9, hq9⟩ := h_59
            have hCI : CI (sY (sX (sV (sV (sV (sV (sV (sL (sL (sL (sL (sI (sI (sI (sI (sI (sC u 9 n_59) 2 ls9_59) 3 gr9_59) 4 nu9_59) 7 fa_59) 8 pc9_59) 2 st2_59) 3 w3_59) 4 w4_59) 5 w5_59) 20 v20_59) 21 v21_59) 22 v22_59) 23 sp_59) 24 v24_59) 9 f_59) 9 g_59) := CI_cu p0 hq9
            have hbU : bU9 u (sY (sX (sV (sV (sV (sV (sV (sL (sL (sL (sL (sI (sI (sI (sI (sI (sC u 9 n_59) 2 ls9_59) 3 gr9_59) 4 nu9_59) 7 fa_59) 8 pc9_59) 2 st2_59) 3 w3_59) 4 w4_59) 5 w5_59) 20 v20_59) 21 v21_59) 22 v22_59) 23 sp_59) 24 v24_59) 9 f_59) 9 g_59) i_2 := by rcases bu_59.2 with q9 | q9; exact Or.inl q9; exact Or.inr q9
            refine j_if_ne SS (tgt := 68) (x := z_59) dX11_cut_62 (by decide) (by omega) (fun c_62 => ?_) (fun c_62 => ?_)
            · skip
              refine lv_iload_n SS.1 SS.2.1 dX11_cut_68 rfl (lv_at hl 3 rfl) ?_
              refine lv_aload_n SS.1 SS.2.1 dX11_cut_69 rfl (lv_at hl 1 rfl) ?_
              refine j_get SS hG hP 0 (v := .ref (q 6)) (C := RX11) (T := TX11) (N := 8) rfl rfl inX11 5 (by decide) (ref := "GridPolygons") kw_390 rfl rfl dX11_cut_70 ?_
              refine j_get SS hG hP 6 (v := .int (J v22_59)) (C := RX2) (T := TX2) (N := 7) rfl rfl inX2 4 (by decide) (ref := "GridPolygons$Cuts") kw_345 rfl rfl dX11_cut_73 ?_
              refine j_icmp_lt SS (tgt := 81) (x := i) (y := v22_59) dX11_cut_76 (by decide) (by omega) (by omega) (fun c_76 => ?_) (fun c_76 => ?_)
              · skip
                refine lv_iload_n SS.1 SS.2.1 dX11_cut_81 rfl (lv_at hl 4 rfl) ?_
                refine j_iconst SS dX11_cut_82 ?_
                refine j_icmp_ne SS (tgt := 97) (x := what) (y := (-1)) dX11_cut_83 (by decide) (by omega) (by decide) (fun c_83 => ?_) (fun c_83 => ?_)
                · skip
                  refine lv_aload_n SS.1 SS.2.1 dX11_cut_97 rfl (lv_at hl 1 rfl) ?_
                  refine j_get SS hG hP 0 (v := .ref (q 6)) (C := RX11) (T := TX11) (N := 8) rfl rfl inX11 5 (by decide) (ref := "GridPolygons") kw_390 rfl rfl dX11_cut_98 ?_
                  refine lv_iload_n SS.1 SS.2.1 dX11_cut_101 rfl (lv_at hl 3 rfl) ?_
                  refine lv_iload_n SS.1 SS.2.1 dX11_cut_102 rfl (lv_at hl 4 rfl) ?_
                  refine j_vRi SS (As := [.int (J i), .int (J what)]) (rest := []) (c_X2_segmentAt l D q (sY (sX (sV (sV (sV (sV (sV (sL (sL (sL (sL (sI (sI (sI (sI (sI (sC u 9 n_59) 2 ls9_59) 3 gr9_59) 4 nu9_59) 7 fa_59) 8 pc9_59) 2 st2_59) 3 w3_59) 4 w4_59) 5 w5_59) 20 v20_59) 21 v21_59) 22 v22_59) 23 sp_59) 24 v24_59) 9 f_59) 9 g_59)  i what (show -2147483648 ≤ i ∧ i ≤ 2147483647 from (by omega)) (show 0 ≤ what ∧ what ≤ 2147483647 from (by omega)) (show 0 ≤ v20_59 ∧ v20_59 ≤ 63 from (by omega))) mf_X2_segmentAt kw_963 hG hP hP (ci := 2) (q0 := 6) rfl rfl rfl rfl hl.1 ⟨⟨Nat.le_of_ble_eq_true rfl, Nat.le_of_ble_eq_true rfl⟩, Nat.le_of_ble_eq_true rfl, Nat.le_refl _, Nat.le_refl _⟩ rfl dX11_cut_103 (fun z_103 h_103 => ?_)
                  have h_103 : True := h_103
                  exact W.iret SS.1 SS.2.1 hr (fun t0 ht hW => ⟨⟨_, (sY (sX (sV (sV (sV (sV (sV (sL (sL (sL (sL (sI (sI (sI (sI (sI (sC u 9 n_59) 2 ls9_59) 3 gr9_59) 4 nu9_59) 7 fa_59) 8 pc9_59) 2 st2_59) 3 w3_59) 4 w4_59) 5 w5_59) 20 v20_59) 21 v21_59) 22 v22_59) 23 sp_59) 24 v24_59) 9 f_59) 9 g_59), rfl, ⟨z_103, rfl, (⟨⟨⟨hCI, (by first | exact cs_refl | exact (fun r hr => ⟨if_neg (by omega), if_neg (by omega), if_neg (by omega)⟩))⟩, (by first | exact hs_refl | exact (fun _ _ => rfl)), (by first | exact ss_refl | exact ⟨rfl, fun _ _ => rfl⟩), ⟨⟨(by first | rfl | exact if_neg (by omega) | exact (if_neg (by omega)).trans (if_neg (by omega))), (by first | rfl | exact if_neg (by omega) | exact (if_neg (by omega)).trans (if_neg (by omega))), (by first | rfl | exact if_neg (by omega) | exact (if_neg (by omega)).trans (if_neg (by omega)))⟩, rfl, rfl, rfl⟩⟩, Or.inr ⟨by omega, by rw [show s.toNat = i_2 by omega]; exact hbU⟩⟩)⟩, by show va_P D.1 j_cl (cW D q (sY (sX (sV (sV (sV (sV (sV (sL (sL (sL (sL (sI (sI (sI (sI (sI (sC u 9 n_59) 2 ls9_59) 3 gr9_59) 4 nu9_59) 7 fa_59) 8 pc9_59) 2 st2_59) 3 w3_59) 4 w4_59) 5 w5_59) 20 v20_59) 21 v21_59) 22 v22_59) 23 sp_59) 24 v24_59) 9 f_59) 9 g_59)) t0.heap; rw [ht]; first | exact hP | (simp only [sC_id, sX_id, sY_id, sH_id, sT_id, sV_id]; exact hP)⟩, hS.F ht⟩) hS.2.2 dX11_cut_106 hlk
                · skip
                  refine lv_aload_n SS.1 SS.2.1 dX11_cut_86 rfl (lv_at hl 1 rfl) ?_
                  refine j_get SS hG hP 0 (v := .ref (q 6)) (C := RX11) (T := TX11) (N := 8) rfl rfl inX11 5 (by decide) (ref := "GridPolygons") kw_390 rfl rfl dX11_cut_87 ?_
                  refine lv_iload_n SS.1 SS.2.1 dX11_cut_90 rfl (lv_at hl 3 rfl) ?_
                  refine j_vRi SS (As := [.int (J i)]) (rest := []) (c_X2_farOf3 l D q (sY (sX (sV (sV (sV (sV (sV (sL (sL (sL (sL (sI (sI (sI (sI (sI (sC u 9 n_59) 2 ls9_59) 3 gr9_59) 4 nu9_59) 7 fa_59) 8 pc9_59) 2 st2_59) 3 w3_59) 4 w4_59) 5 w5_59) 20 v20_59) 21 v21_59) 22 v22_59) 23 sp_59) 24 v24_59) 9 f_59) 9 g_59)  i (show -2147483648 ≤ i ∧ i ≤ 2147483647 from (by omega))) mf_X2_farOf kw_962 hG hP hP (ci := 2) (q0 := 6) rfl rfl rfl rfl hl.1 ⟨⟨Nat.le_of_ble_eq_true rfl, Nat.le_of_ble_eq_true rfl⟩, Nat.le_of_ble_eq_true rfl, Nat.le_refl _, Nat.le_refl _⟩ rfl dX11_cut_91 (fun z_91 h_91 => ?_)
                  have h_91 : (0 ≤ i ∧ i < 1500) → z_91 = (fa_59) i.toNat := h_91
                  refine lv_goto (tgt := 106) SS.1 SS.2.1 dX11_cut_94 (by decide) ?_
                  exact W.iret SS.1 SS.2.1 hr (fun t0 ht hW => ⟨⟨_, (sY (sX (sV (sV (sV (sV (sV (sL (sL (sL (sL (sI (sI (sI (sI (sI (sC u 9 n_59) 2 ls9_59) 3 gr9_59) 4 nu9_59) 7 fa_59) 8 pc9_59) 2 st2_59) 3 w3_59) 4 w4_59) 5 w5_59) 20 v20_59) 21 v21_59) 22 v22_59) 23 sp_59) 24 v24_59) 9 f_59) 9 g_59), rfl, ⟨z_91, rfl, (⟨⟨⟨hCI, (by first | exact cs_refl | exact (fun r hr => ⟨if_neg (by omega), if_neg (by omega), if_neg (by omega)⟩))⟩, (by first | exact hs_refl | exact (fun _ _ => rfl)), (by first | exact ss_refl | exact ⟨rfl, fun _ _ => rfl⟩), ⟨⟨(by first | rfl | exact if_neg (by omega) | exact (if_neg (by omega)).trans (if_neg (by omega))), (by first | rfl | exact if_neg (by omega) | exact (if_neg (by omega)).trans (if_neg (by omega))), (by first | rfl | exact if_neg (by omega) | exact (if_neg (by omega)).trans (if_neg (by omega)))⟩, rfl, rfl, rfl⟩⟩, Or.inr ⟨by omega, by rw [show s.toNat = i_2 by omega]; exact hbU⟩⟩)⟩, by show va_P D.1 j_cl (cW D q (sY (sX (sV (sV (sV (sV (sV (sL (sL (sL (sL (sI (sI (sI (sI (sI (sC u 9 n_59) 2 ls9_59) 3 gr9_59) 4 nu9_59) 7 fa_59) 8 pc9_59) 2 st2_59) 3 w3_59) 4 w4_59) 5 w5_59) 20 v20_59) 21 v21_59) 22 v22_59) 23 sp_59) 24 v24_59) 9 f_59) 9 g_59)) t0.heap; rw [ht]; first | exact hP | (simp only [sC_id, sX_id, sY_id, sH_id, sT_id, sV_id]; exact hP)⟩, hS.F ht⟩) hS.2.2 dX11_cut_106 hlk
              · skip
                refine j_iconst SS dX11_cut_79 ?_
                exact W.iret SS.1 SS.2.1 hr (fun t0 ht hW => ⟨⟨_, (sY (sX (sV (sV (sV (sV (sV (sL (sL (sL (sL (sI (sI (sI (sI (sI (sC u 9 n_59) 2 ls9_59) 3 gr9_59) 4 nu9_59) 7 fa_59) 8 pc9_59) 2 st2_59) 3 w3_59) 4 w4_59) 5 w5_59) 20 v20_59) 21 v21_59) 22 v22_59) 23 sp_59) 24 v24_59) 9 f_59) 9 g_59), rfl, ⟨(-1), rfl, (⟨⟨⟨hCI, (by first | exact cs_refl | exact (fun r hr => ⟨if_neg (by omega), if_neg (by omega), if_neg (by omega)⟩))⟩, (by first | exact hs_refl | exact (fun _ _ => rfl)), (by first | exact ss_refl | exact ⟨rfl, fun _ _ => rfl⟩), ⟨⟨(by first | rfl | exact if_neg (by omega) | exact (if_neg (by omega)).trans (if_neg (by omega))), (by first | rfl | exact if_neg (by omega) | exact (if_neg (by omega)).trans (if_neg (by omega))), (by first | rfl | exact if_neg (by omega) | exact (if_neg (by omega)).trans (if_neg (by omega)))⟩, rfl, rfl, rfl⟩⟩, Or.inr ⟨by omega, by rw [show s.toNat = i_2 by omega]; exact hbU⟩⟩)⟩, by show va_P D.1 j_cl (cW D q (sY (sX (sV (sV (sV (sV (sV (sL (sL (sL (sL (sI (sI (sI (sI (sI (sC u 9 n_59) 2 ls9_59) 3 gr9_59) 4 nu9_59) 7 fa_59) 8 pc9_59) 2 st2_59) 3 w3_59) 4 w4_59) 5 w5_59) 20 v20_59) 21 v21_59) 22 v22_59) 23 sp_59) 24 v24_59) 9 f_59) 9 g_59)) t0.heap; rw [ht]; first | exact hP | (simp only [sC_id, sX_id, sY_id, sH_id, sT_id, sV_id]; exact hP)⟩, hS.F ht⟩) hS.2.2 dX11_cut_80 hlk
            · skip
              refine j_bipush SS dX11_cut_65 (by decide +kernel) ?_
              exact W.iret SS.1 SS.2.1 hr (fun t0 ht hW => ⟨⟨_, (sY (sX (sV (sV (sV (sV (sV (sL (sL (sL (sL (sI (sI (sI (sI (sI (sC u 9 n_59) 2 ls9_59) 3 gr9_59) 4 nu9_59) 7 fa_59) 8 pc9_59) 2 st2_59) 3 w3_59) 4 w4_59) 5 w5_59) 20 v20_59) 21 v21_59) 22 v22_59) 23 sp_59) 24 v24_59) 9 f_59) 9 g_59), rfl, ⟨(-5), rfl, (⟨⟨⟨hCI, (by first | exact cs_refl | exact (fun r hr => ⟨if_neg (by omega), if_neg (by omega), if_neg (by omega)⟩))⟩, (by first | exact hs_refl | exact (fun _ _ => rfl)), (by first | exact ss_refl | exact ⟨rfl, fun _ _ => rfl⟩), ⟨⟨(by first | rfl | exact if_neg (by omega) | exact (if_neg (by omega)).trans (if_neg (by omega))), (by first | rfl | exact if_neg (by omega) | exact (if_neg (by omega)).trans (if_neg (by omega))), (by first | rfl | exact if_neg (by omega) | exact (if_neg (by omega)).trans (if_neg (by omega)))⟩, rfl, rfl, rfl⟩⟩, Or.inr ⟨by omega, by rw [show s.toNat = i_2 by omega]; exact hbU⟩⟩)⟩, by show va_P D.1 j_cl (cW D q (sY (sX (sV (sV (sV (sV (sV (sL (sL (sL (sL (sI (sI (sI (sI (sI (sC u 9 n_59) 2 ls9_59) 3 gr9_59) 4 nu9_59) 7 fa_59) 8 pc9_59) 2 st2_59) 3 w3_59) 4 w4_59) 5 w5_59) 20 v20_59) 21 v21_59) 22 v22_59) 23 sp_59) 24 v24_59) 9 f_59) 9 g_59)) t0.heap; rw [ht]; first | exact hP | (simp only [sC_id, sX_id, sY_id, sH_id, sT_id, sV_id]; exact hP)⟩, hS.F ht⟩) hS.2.2 dX11_cut_67 hlk
          · skip
            refine j_iconst SS dX11_cut_51 ?_
            exact W.iret SS.1 SS.2.1 hr (fun t0 ht hW => ⟨⟨_, u, rfl, ⟨(-1), rfl, (⟨⟨⟨p0, (by first | exact cs_refl | exact (fun r hr => ⟨if_neg (by omega), if_neg (by omega), if_neg (by omega)⟩))⟩, (by first | exact hs_refl | exact (fun _ _ => rfl)), (by first | exact ss_refl | exact ⟨rfl, fun _ _ => rfl⟩), ⟨⟨(by first | rfl | exact if_neg (by omega) | exact (if_neg (by omega)).trans (if_neg (by omega))), (by first | rfl | exact if_neg (by omega) | exact (if_neg (by omega)).trans (if_neg (by omega))), (by first | rfl | exact if_neg (by omega) | exact (if_neg (by omega)).trans (if_neg (by omega)))⟩, rfl, rfl, rfl⟩⟩, Or.inl kCu_r⟩)⟩, by show va_P D.1 j_cl (cW D q u) t0.heap; rw [ht]; first | exact hP | (simp only [sC_id, sX_id, sY_id, sH_id, sT_id, sV_id]; exact hP)⟩, hS.F ht⟩) hS.2.2 dX11_cut_52 hlk
        · skip
          refine j_bipush SS dX11_cut_36 (by decide +kernel) ?_
          exact W.iret SS.1 SS.2.1 hr (fun t0 ht hW => ⟨⟨_, u, rfl, ⟨(-2), rfl, (⟨⟨⟨p0, (by first | exact cs_refl | exact (fun r hr => ⟨if_neg (by omega), if_neg (by omega), if_neg (by omega)⟩))⟩, (by first | exact hs_refl | exact (fun _ _ => rfl)), (by first | exact ss_refl | exact ⟨rfl, fun _ _ => rfl⟩), ⟨⟨(by first | rfl | exact if_neg (by omega) | exact (if_neg (by omega)).trans (if_neg (by omega))), (by first | rfl | exact if_neg (by omega) | exact (if_neg (by omega)).trans (if_neg (by omega))), (by first | rfl | exact if_neg (by omega) | exact (if_neg (by omega)).trans (if_neg (by omega)))⟩, rfl, rfl, rfl⟩⟩, Or.inl kCu_r⟩)⟩, by show va_P D.1 j_cl (cW D q u) t0.heap; rw [ht]; first | exact hP | (simp only [sC_id, sX_id, sY_id, sH_id, sT_id, sV_id]; exact hP)⟩, hS.F ht⟩) hS.2.2 dX11_cut_38 hlk
      · skip
        refine j_iconst SS dX11_cut_21 ?_
        exact W.iret SS.1 SS.2.1 hr (fun t0 ht hW => ⟨⟨_, u, rfl, ⟨(-1), rfl, (⟨⟨⟨p0, (by first | exact cs_refl | exact (fun r hr => ⟨if_neg (by omega), if_neg (by omega), if_neg (by omega)⟩))⟩, (by first | exact hs_refl | exact (fun _ _ => rfl)), (by first | exact ss_refl | exact ⟨rfl, fun _ _ => rfl⟩), ⟨⟨(by first | rfl | exact if_neg (by omega) | exact (if_neg (by omega)).trans (if_neg (by omega))), (by first | rfl | exact if_neg (by omega) | exact (if_neg (by omega)).trans (if_neg (by omega))), (by first | rfl | exact if_neg (by omega) | exact (if_neg (by omega)).trans (if_neg (by omega)))⟩, rfl, rfl, rfl⟩⟩, Or.inl kCu_r⟩)⟩, by show va_P D.1 j_cl (cW D q u) t0.heap; rw [ht]; first | exact hP | (simp only [sC_id, sX_id, sY_id, sH_id, sT_id, sV_id]; exact hP)⟩, hS.F ht⟩) hS.2.2 dX11_cut_22 hlk
  · skip
    refine lv_astoreN (lv' := [(4, .null), (0, .ref (q 0)), (1, .int (J s)), (2, .int (J i)), (3, .int (J what))]) SS.1 SS.2.1 dX11_cut_5 hl (by decide) rfl (fun ls hl => ?_)
    refine lv_aloadN SS.1 SS.2.1 dX11_cut_7 (lv_at hl 0 rfl) ?_
    refine lv_ifnullN SS.1 SS.2.1 (tgt := 21) dX11_cut_9 (by decide) ?_
    refine j_iconst SS dX11_cut_21 ?_
    exact W.iret SS.1 SS.2.1 hr (fun t0 ht hW => ⟨⟨_, u, rfl, ⟨(-1), rfl, (⟨⟨⟨p0, (by first | exact cs_refl | exact (fun r hr => ⟨if_neg (by omega), if_neg (by omega), if_neg (by omega)⟩))⟩, (by first | exact hs_refl | exact (fun _ _ => rfl)), (by first | exact ss_refl | exact ⟨rfl, fun _ _ => rfl⟩), ⟨⟨(by first | rfl | exact if_neg (by omega) | exact (if_neg (by omega)).trans (if_neg (by omega))), (by first | rfl | exact if_neg (by omega) | exact (if_neg (by omega)).trans (if_neg (by omega))), (by first | rfl | exact if_neg (by omega) | exact (if_neg (by omega)).trans (if_neg (by omega)))⟩, rfl, rfl, rfl⟩⟩, Or.inl kCu_r⟩)⟩, by show va_P D.1 j_cl (cW D q u) t0.heap; rw [ht]; first | exact hP | (simp only [sC_id, sX_id, sY_id, sH_id, sT_id, sV_id]; exact hP)⟩, hS.F ht⟩) hS.2.2 dX11_cut_22 hlk

set_option maxHeartbeats 4000000 in
set_option maxRecDepth 100000 in
theorem c_X11_flips4 (l : Launch) (D : JD) (q : Nat → Nat) (u : CS) (A : Nat → Prop) (hD : va_D A (cW D q u)) (s : Int) (i : Int) (p0 : CI u) (p1 : -2147483648 ≤ s ∧ s ≤ 2147483647) (p2 : -2147483648 ≤ i ∧ i ≤ 2147483647) : Met l yX11_flips (jw yX11_flips cX11_flips 4 (some .int)) (jr 7 149) (jP [.ref (q 0), .int (J s), .int (J i)] D (fun H => va_P D.1 j_cl (cW D q u) H)) (jWi (fun z u' => ((CI u' ∧ cSame u u') ∧ hSam u u' ∧ sSam u u' ∧ kCo u u') ∧ fpC u u' s i z) (fun u' H => va_P D.1 j_cl (cW D q u') H) A) 0 0 A := by
  refine Met.ofW (cc := cX11_flips) (maxL := 4) (ret := (some .int)) (by decide) rfl ?_
  intro pr en st mi args below meth co s₁ B hml hv
  obtain ⟨rfl, hG, hP⟩ := hv
  have hr := B.returns
  have hlk := B.notSynchronized
  have SS : jS pr mi co cX11_flips 4 st _ RX11 := ⟨B.exec, B.bytes, hml, findClass_of_methodNamed B.named, fun w hw => atoms_spec (ws := (jw yX11_flips cX11_flips 4 (some .int))) B.pre w (List.mem_cons_of_mem _ hw)⟩
  have hl := lv_entry ([.ref (q 0), .int (J s), .int (J i)]) (n := 4) (Nat.le_of_ble_eq_true rfl)
  rw [lg_entry_eq]
  generalize (lg_sl ([.ref (q 0), .int (J s), .int (J i)]) ++ List.replicate (4 - (lg_sl ([.ref (q 0), .int (J s), .int (J i)])).length) Slot.unset).toArray = ls at hl ⊢
  have hl : lv_has ls 4 [(0, .ref (q 0)), (1, .int (J s)), (2, .int (J i))] := hl
  have hS : va_S A st.heap st.heap [] := va_S.rf
  refine lv_aload_n SS.1 SS.2.1 dX11_flips_0 rfl (lv_at hl 0 rfl) ?_
  refine lv_iload_n SS.1 SS.2.1 dX11_flips_1 rfl (lv_at hl 1 rfl) ?_
  refine j_vSh SS (As := [.int (J s)]) (rest := []) (c_X11_shapeAt l D q u  s (show -2147483648 ≤ s ∧ s ≤ 2147483647 from (p1))) mf_X11_shapeAt kw_414 hG hP hP (ci := 11) (q0 := 0) rfl rfl rfl rfl hl.1 ⟨⟨Nat.le_of_ble_eq_true rfl, Nat.le_of_ble_eq_true rfl⟩, Nat.le_of_ble_eq_true rfl, Nat.le_refl _, Nat.le_refl _⟩ rfl dX11_flips_2 (fun i_2 hi_2 hz_2 => ?_) (fun hn_2 => ?_)
  · skip
    have hI2 := CI_s p0 (show i_2 < 8 by omega)
    have hI2c := hI2.1
    have hrl2 := rl_s (show i_2 < 8 by omega)
    refine lv_astore_n (lv' := [(3, .ref (q (8 + 5 * i_2))), (0, .ref (q 0)), (1, .int (J s)), (2, .int (J i))]) SS.1 SS.2.1 dX11_flips_5 rfl hl (by decide) rfl (fun ls hl => ?_)
    refine lv_aload_n SS.1 SS.2.1 dX11_flips_6 rfl (lv_at hl 0 rfl) ?_
    refine lv_ifnull SS.1 SS.2.1 dX11_flips_7 ?_
    refine lv_iload_n SS.1 SS.2.1 dX11_flips_10 rfl (lv_at hl 3 rfl) ?_
    refine j_if_ge SS (tgt := 16) (x := i) dX11_flips_11 (by decide) (by omega) (fun c_11 => ?_) (fun c_11 => ?_)
    · skip
      refine lv_aload_n SS.1 SS.2.1 dX11_flips_16 rfl (lv_at hl 0 rfl) ?_
      refine j_get SS hG hP (8 + 5 * i_2) (v := .ref (q (9 + 5 * i_2))) (C := RX10) (T := TX10) (N := 3) (cw_shape (by omega)) rfl inX10 0 (by decide) (ref := "GridPolygons$Shape") kw_151 rfl rfl dX11_flips_17 ?_
      refine j_bipush SS dX11_flips_20 (by decide +kernel) ?_
      refine j_sRi SS (As := [.ref (q (9 + 5 * i_2)), .int (J 12)]) (rest := []) (c_X11_hasAtMost3 l D q u i_2 (by omega) 12 (show RB 40 u i_2 from (CI_40 p0 (by omega))) (show -2147483648 ≤ (12 : Int) ∧ (12 : Int) ≤ 2147483647 from (by omega))) mf_X11_hasAtMost kw_859 hG hP rfl hl.1 ⟨⟨Nat.le_of_ble_eq_true rfl, Nat.le_of_ble_eq_true rfl⟩, Nat.le_of_ble_eq_true rfl, Nat.le_refl _, Nat.le_refl _⟩ rfl dX11_flips_22 (fun z_22 h_22 => ?_)
      have h_22 : (z_22 = 1 ∧ 3 ≤ (u.1.2.2.1 i_2) ∧ rE u i_2 + rI u i_2 ≤ (12 : Int)) ∨ (z_22 = 0 ∧ ¬ (3 ≤ (u.1.2.2.1 i_2) ∧ rE u i_2 + rI u i_2 ≤ (12 : Int))) := h_22
      refine j_if_ne SS (tgt := 31) (x := z_22) dX11_flips_25 (by decide) (by omega) (fun c_25 => ?_) (fun c_25 => ?_)
      · skip
        refine lv_aload_n SS.1 SS.2.1 dX11_flips_31 rfl (lv_at hl 1 rfl) ?_
        refine j_get SS hG hP 0 (v := .ref (q 6)) (C := RX11) (T := TX11) (N := 8) rfl rfl inX11 5 (by decide) (ref := "GridPolygons") kw_390 rfl rfl dX11_flips_32 ?_
        refine lv_aload_n SS.1 SS.2.1 dX11_flips_35 rfl (lv_at hl 0 rfl) ?_
        refine j_vWi SS (As := [.ref (q (8 + 5 * i_2))]) (rest := []) (c_X2_build4 l D q u A (cW_D hD) i_2 (by omega)  (show RB 40 u i_2 from (CI_40 p0 (by omega))) (show RB 40 u 9 from (p0.2.1.2.1)) (show ∀ k : Nat, 0 ≤ (u.2.1 2) k ∧ (u.2.1 2) k ≤ 12 from (fun k => (p0.2.2.2.2.2.1.2.2.1 k).1)) (show ∀ k : Nat, 0 ≤ (u.2.1 3) k ∧ (u.2.1 3) k ≤ 12 from (fun k => (p0.2.2.2.2.2.1.2.2.1 k).2)) (show ∀ k : Nat, -1 ≤ (u.2.1 4) k ∧ (u.2.1 4) k ≤ 63 from (p0.2.2.2.2.2.1.2.2.2)) (show 0 ≤ (u.2.2.2 20) ∧ (u.2.2.2 20) ≤ 63 from (p0.2.2.2.2.2.1.1)) (show 0 ≤ (u.2.2.2 21) ∧ (u.2.2.2 21) ≤ 756 from (p0.2.2.2.2.2.1.2.1)) (show 0 ≤ (u.2.2.2 22) ∧ (u.2.2.2 22) ≤ 1500 from (p0.2.2.2.2.2.2.1.1)) (show ∀ k : Nat, 0 ≤ (u.2.1 8) k ∧ (u.2.1 8) k ≤ 1500 from (p0.2.2.2.2.2.2.1.2.2.2)) (show (u.2.2.2 23) = 0 ∨ (u.2.2.2 23) = 1 from (p0.2.2.2.2.2.2.1.2.1)) (show -2147483648 ≤ (u.2.2.2 24) ∧ (u.2.2.2 24) ≤ 2147483647 from (p0.2.2.2.2.2.2.1.2.2.1)) (show -2147483648 ≤ (u.1.2.2.2.2 i_2) ∧ (u.1.2.2.2.2 i_2) ≤ 2147483647 from ((p0.1 i_2 (by omega)).2.2)) (show 1 ≤ (u.1.2.2.1 i_2) from (by omega))) mf_X2_build kw_865 hG hP hP (ci := 2) (q0 := 6) rfl rfl rfl hS (fun _ h => h) rfl hl.1 ⟨⟨Nat.le_of_ble_eq_true rfl, Nat.le_of_ble_eq_true rfl⟩, Nat.le_of_ble_eq_true rfl, Nat.le_refl _, Nat.le_refl _⟩ rfl dX11_flips_36 (fun z_36 u36 H locs h_36 hP _ hS => ?_)
        obtain ⟨n_36, f_36, g_36, ls9_36, gr9_36, nu9_36, w3_36, w4_36, w5_36, v20_36, v21_36, st2_36, fa_36, pc9_36, v22_36, sp_36, v24_36, rfl, h_36⟩ := h_36
        have hP : va_P D.1 j_cl (cW D q (sY (sX (sV (sV (sV (sV (sV (sL (sL (sL (sL (sI (sI (sI (sI (sI (sC u 9 n_36) 2 ls9_36) 3 gr9_36) 4 nu9_36) 7 fa_36) 8 pc9_36) 2 st2_36) 3 w3_36) 4 w4_36) 5 w5_36) 20 v20_36) 21 v21_36) 22 v22_36) 23 sp_36) 24 v24_36) 9 f_36) 9 g_36)) H := hP
        have h_36 : ((z_36 = 0 ∨ z_36 = 1) ∧ ((0 ≤ n_36 ∧ n_36 ≤ 12) ∧ RV 40 f_36 g_36) ∧ (∀ k : Nat, 0 ≤ ls9_36 k ∧ ls9_36 k ≤ 12) ∧ (∀ k : Nat, 0 ≤ gr9_36 k ∧ gr9_36 k ≤ 12) ∧ (∀ k : Nat, -1 ≤ nu9_36 k ∧ nu9_36 k ≤ 63) ∧ ((0 ≤ v20_36 ∧ v20_36 ≤ 63) ∧ 0 ≤ v21_36 ∧ v21_36 ≤ 756) ∧ ((0 ≤ v22_36 ∧ v22_36 ≤ 1500) ∧ (∀ k : Nat, 0 ≤ pc9_36 k ∧ pc9_36 k ≤ 1500) ∧ (sp_36 = 0 ∨ sp_36 = 1)) ∧ -2147483648 ≤ v24_36 ∧ v24_36 ≤ 2147483647) ∧ (z_36 = 1 ↔ sp_36 = 0) ∧ (((u.2.2.2 24) = (u.1.2.2.2.2 i_2) ∧ ((n_36 = (u.1.2.2.1 9) ∧ f_36 = (u.1.1 9) ∧ g_36 = (u.1.2.1 9)) ∧ (ls9_36 = (u.2.1 2) ∧ gr9_36 = (u.2.1 3) ∧ nu9_36 = (u.2.1 4) ∧ fa_36 = (u.2.1 7) ∧ pc9_36 = (u.2.1 8)) ∧ (st2_36 = (u.2.2.1 2) ∧ w3_36 = (u.2.2.1 3) ∧ w4_36 = (u.2.2.1 4) ∧ w5_36 = (u.2.2.1 5)) ∧ (v20_36 = (u.2.2.2 20) ∧ v21_36 = (u.2.2.2 21) ∧ v22_36 = (u.2.2.2 22) ∧ sp_36 = (u.2.2.2 23) ∧ v24_36 = (u.2.2.2 24)))) ∨ (v24_36 = (u.1.2.2.2.2 i_2) ∧ (FT9 u i_2 12 → ML9 (inC u i_2) n_36 f_36 g_36 ls9_36 gr9_36 nu9_36 v20_36 w3_36 w4_36 w5_36 v21_36 ∧ FCT f_36 g_36 n_36 ls9_36 gr9_36 v20_36 st2_36 fa_36 v22_36 sp_36))) := h_36
        obtain ⟨h_36, bu_36⟩ := h_36
        obtain ⟨hz9, hq9⟩ := h_36
        have hCI : CI (sY (sX (sV (sV (sV (sV (sV (sL (sL (sL (sL (sI (sI (sI (sI (sI (sC u 9 n_36) 2 ls9_36) 3 gr9_36) 4 nu9_36) 7 fa_36) 8 pc9_36) 2 st2_36) 3 w3_36) 4 w4_36) 5 w5_36) 20 v20_36) 21 v21_36) 22 v22_36) 23 sp_36) 24 v24_36) 9 f_36) 9 g_36) := CI_cu p0 hq9
        have hbU : bU9 u (sY (sX (sV (sV (sV (sV (sV (sL (sL (sL (sL (sI (sI (sI (sI (sI (sC u 9 n_36) 2 ls9_36) 3 gr9_36) 4 nu9_36) 7 fa_36) 8 pc9_36) 2 st2_36) 3 w3_36) 4 w4_36) 5 w5_36) 20 v20_36) 21 v21_36) 22 v22_36) 23 sp_36) 24 v24_36) 9 f_36) 9 g_36) i_2 := by rcases bu_36.2 with q9 | q9; exact Or.inl q9; exact Or.inr q9
        refine j_if_ne SS (tgt := 45) (x := z_36) dX11_flips_39 (by decide) (by omega) (fun c_39 => ?_) (fun c_39 => ?_)
        · skip
          refine lv_iload_n SS.1 SS.2.1 dX11_flips_45 rfl (lv_at hl 3 rfl) ?_
          refine lv_aload_n SS.1 SS.2.1 dX11_flips_46 rfl (lv_at hl 1 rfl) ?_
          refine j_get SS hG hP 0 (v := .ref (q 6)) (C := RX11) (T := TX11) (N := 8) rfl rfl inX11 5 (by decide) (ref := "GridPolygons") kw_390 rfl rfl dX11_flips_47 ?_
          refine j_get SS hG hP 6 (v := .int (J v22_36)) (C := RX2) (T := TX2) (N := 7) rfl rfl inX2 4 (by decide) (ref := "GridPolygons$Cuts") kw_345 rfl rfl dX11_flips_50 ?_
          refine j_icmp_lt SS (tgt := 60) (x := i) (y := v22_36) dX11_flips_53 (by decide) (by omega) (by omega) (fun c_53 => ?_) (fun c_53 => ?_)
          · skip
            refine lv_aload_n SS.1 SS.2.1 dX11_flips_60 rfl (lv_at hl 1 rfl) ?_
            refine j_get SS hG hP 0 (v := .ref (q 6)) (C := RX11) (T := TX11) (N := 8) rfl rfl inX11 5 (by decide) (ref := "GridPolygons") kw_390 rfl rfl dX11_flips_61 ?_
            refine lv_iload_n SS.1 SS.2.1 dX11_flips_64 rfl (lv_at hl 3 rfl) ?_
            refine j_vRi SS (As := [.int (J i)]) (rest := []) (c_X2_flipsOf3 l D q (sY (sX (sV (sV (sV (sV (sV (sL (sL (sL (sL (sI (sI (sI (sI (sI (sC u 9 n_36) 2 ls9_36) 3 gr9_36) 4 nu9_36) 7 fa_36) 8 pc9_36) 2 st2_36) 3 w3_36) 4 w4_36) 5 w5_36) 20 v20_36) 21 v21_36) 22 v22_36) 23 sp_36) 24 v24_36) 9 f_36) 9 g_36)  i (show -2147483648 ≤ i ∧ i ≤ 2147483647 from (by omega)) (show 0 ≤ v21_36 ∧ v21_36 ≤ 756 from (by omega))) mf_X2_flipsOf kw_975 hG hP hP (ci := 2) (q0 := 6) rfl rfl rfl rfl hl.1 ⟨⟨Nat.le_of_ble_eq_true rfl, Nat.le_of_ble_eq_true rfl⟩, Nat.le_of_ble_eq_true rfl, Nat.le_refl _, Nat.le_refl _⟩ rfl dX11_flips_65 (fun z_65 h_65 => ?_)
            have h_65 : (0 ≤ z_65 ∧ z_65 ≤ 756) ∧ ((0 ≤ i ∧ i < 1500) → cn9 (fun a => (st2_36) i.toNat &&& (w4_36) a = (w4_36) a ∧ (st2_36) i.toNat ^^^ (w5_36) a ≠ 0) (v21_36).toNat z_65) := h_65
            exact W.iret SS.1 SS.2.1 hr (fun t0 ht hW => ⟨⟨_, (sY (sX (sV (sV (sV (sV (sV (sL (sL (sL (sL (sI (sI (sI (sI (sI (sC u 9 n_36) 2 ls9_36) 3 gr9_36) 4 nu9_36) 7 fa_36) 8 pc9_36) 2 st2_36) 3 w3_36) 4 w4_36) 5 w5_36) 20 v20_36) 21 v21_36) 22 v22_36) 23 sp_36) 24 v24_36) 9 f_36) 9 g_36), rfl, ⟨z_65, rfl, (by first | exact ⟨⟨⟨hCI, (by first | exact cs_refl | exact (fun r hr => ⟨if_neg (by omega), if_neg (by omega), if_neg (by omega)⟩))⟩, (by first | exact hs_refl | exact (fun _ _ => rfl)), (by first | exact ss_refl | exact ⟨rfl, fun _ _ => rfl⟩), ⟨⟨(by first | rfl | exact if_neg (by omega) | exact (if_neg (by omega)).trans (if_neg (by omega))), (by first | rfl | exact if_neg (by omega) | exact (if_neg (by omega)).trans (if_neg (by omega))), (by first | rfl | exact if_neg (by omega) | exact (if_neg (by omega)).trans (if_neg (by omega)))⟩, rfl, rfl, rfl⟩⟩, by unfold fpC; unfold cuC; rw [show s.toNat = i_2 by omega]; exact Or.inr ⟨by omega, Or.inr ⟨by omega, hbU, Or.inr ⟨(show sp_36 = 0 by omega), Or.inl ⟨(show v22_36 ≤ i by omega), rfl⟩⟩⟩⟩⟩ | exact ⟨⟨⟨hCI, (by first | exact cs_refl | exact (fun r hr => ⟨if_neg (by omega), if_neg (by omega), if_neg (by omega)⟩))⟩, (by first | exact hs_refl | exact (fun _ _ => rfl)), (by first | exact ss_refl | exact ⟨rfl, fun _ _ => rfl⟩), ⟨⟨(by first | rfl | exact if_neg (by omega) | exact (if_neg (by omega)).trans (if_neg (by omega))), (by first | rfl | exact if_neg (by omega) | exact (if_neg (by omega)).trans (if_neg (by omega))), (by first | rfl | exact if_neg (by omega) | exact (if_neg (by omega)).trans (if_neg (by omega)))⟩, rfl, rfl, rfl⟩⟩, by unfold fpC; unfold cuC; rw [show s.toNat = i_2 by omega]; exact Or.inr ⟨by omega, Or.inr ⟨by omega, hbU, Or.inr ⟨(show sp_36 = 0 by omega), Or.inr ⟨(show i < v22_36 by omega), h_65.2 (by omega), h_65.1⟩⟩⟩⟩⟩)⟩, by show va_P D.1 j_cl (cW D q (sY (sX (sV (sV (sV (sV (sV (sL (sL (sL (sL (sI (sI (sI (sI (sI (sC u 9 n_36) 2 ls9_36) 3 gr9_36) 4 nu9_36) 7 fa_36) 8 pc9_36) 2 st2_36) 3 w3_36) 4 w4_36) 5 w5_36) 20 v20_36) 21 v21_36) 22 v22_36) 23 sp_36) 24 v24_36) 9 f_36) 9 g_36)) t0.heap; rw [ht]; first | exact hP | (simp only [sC_id, sX_id, sY_id, sH_id, sT_id, sV_id]; exact hP)⟩, hS.F ht⟩) hS.2.2 dX11_flips_68 hlk
          · skip
            refine j_iconst SS dX11_flips_56 ?_
            refine lv_goto (tgt := 68) SS.1 SS.2.1 dX11_flips_57 (by decide) ?_
            exact W.iret SS.1 SS.2.1 hr (fun t0 ht hW => ⟨⟨_, (sY (sX (sV (sV (sV (sV (sV (sL (sL (sL (sL (sI (sI (sI (sI (sI (sC u 9 n_36) 2 ls9_36) 3 gr9_36) 4 nu9_36) 7 fa_36) 8 pc9_36) 2 st2_36) 3 w3_36) 4 w4_36) 5 w5_36) 20 v20_36) 21 v21_36) 22 v22_36) 23 sp_36) 24 v24_36) 9 f_36) 9 g_36), rfl, ⟨(-1), rfl, (by first | exact ⟨⟨⟨hCI, (by first | exact cs_refl | exact (fun r hr => ⟨if_neg (by omega), if_neg (by omega), if_neg (by omega)⟩))⟩, (by first | exact hs_refl | exact (fun _ _ => rfl)), (by first | exact ss_refl | exact ⟨rfl, fun _ _ => rfl⟩), ⟨⟨(by first | rfl | exact if_neg (by omega) | exact (if_neg (by omega)).trans (if_neg (by omega))), (by first | rfl | exact if_neg (by omega) | exact (if_neg (by omega)).trans (if_neg (by omega))), (by first | rfl | exact if_neg (by omega) | exact (if_neg (by omega)).trans (if_neg (by omega)))⟩, rfl, rfl, rfl⟩⟩, by unfold fpC; unfold cuC; rw [show s.toNat = i_2 by omega]; exact Or.inr ⟨by omega, Or.inr ⟨by omega, hbU, Or.inr ⟨(show sp_36 = 0 by omega), Or.inl ⟨(show v22_36 ≤ i by omega), rfl⟩⟩⟩⟩⟩ | exact ⟨⟨⟨hCI, (by first | exact cs_refl | exact (fun r hr => ⟨if_neg (by omega), if_neg (by omega), if_neg (by omega)⟩))⟩, (by first | exact hs_refl | exact (fun _ _ => rfl)), (by first | exact ss_refl | exact ⟨rfl, fun _ _ => rfl⟩), ⟨⟨(by first | rfl | exact if_neg (by omega) | exact (if_neg (by omega)).trans (if_neg (by omega))), (by first | rfl | exact if_neg (by omega) | exact (if_neg (by omega)).trans (if_neg (by omega))), (by first | rfl | exact if_neg (by omega) | exact (if_neg (by omega)).trans (if_neg (by omega)))⟩, rfl, rfl, rfl⟩⟩, by unfold fpC; unfold cuC; rw [show s.toNat = i_2 by omega]; exact Or.inr ⟨by omega, Or.inr ⟨by omega, hbU, Or.inr ⟨(show sp_36 = 0 by omega), Or.inr ⟨(show i < v22_36 by omega), h_65.2 (by omega), h_65.1⟩⟩⟩⟩⟩)⟩, by show va_P D.1 j_cl (cW D q (sY (sX (sV (sV (sV (sV (sV (sL (sL (sL (sL (sI (sI (sI (sI (sI (sC u 9 n_36) 2 ls9_36) 3 gr9_36) 4 nu9_36) 7 fa_36) 8 pc9_36) 2 st2_36) 3 w3_36) 4 w4_36) 5 w5_36) 20 v20_36) 21 v21_36) 22 v22_36) 23 sp_36) 24 v24_36) 9 f_36) 9 g_36)) t0.heap; rw [ht]; first | exact hP | (simp only [sC_id, sX_id, sY_id, sH_id, sT_id, sV_id]; exact hP)⟩, hS.F ht⟩) hS.2.2 dX11_flips_68 hlk
        · skip
          refine j_bipush SS dX11_flips_42 (by decide +kernel) ?_
          exact W.iret SS.1 SS.2.1 hr (fun t0 ht hW => ⟨⟨_, (sY (sX (sV (sV (sV (sV (sV (sL (sL (sL (sL (sI (sI (sI (sI (sI (sC u 9 n_36) 2 ls9_36) 3 gr9_36) 4 nu9_36) 7 fa_36) 8 pc9_36) 2 st2_36) 3 w3_36) 4 w4_36) 5 w5_36) 20 v20_36) 21 v21_36) 22 v22_36) 23 sp_36) 24 v24_36) 9 f_36) 9 g_36), rfl, ⟨(-5), rfl, (⟨⟨⟨hCI, (by first | exact cs_refl | exact (fun r hr => ⟨if_neg (by omega), if_neg (by omega), if_neg (by omega)⟩))⟩, (by first | exact hs_refl | exact (fun _ _ => rfl)), (by first | exact ss_refl | exact ⟨rfl, fun _ _ => rfl⟩), ⟨⟨(by first | rfl | exact if_neg (by omega) | exact (if_neg (by omega)).trans (if_neg (by omega))), (by first | rfl | exact if_neg (by omega) | exact (if_neg (by omega)).trans (if_neg (by omega))), (by first | rfl | exact if_neg (by omega) | exact (if_neg (by omega)).trans (if_neg (by omega)))⟩, rfl, rfl, rfl⟩⟩, by unfold fpC; unfold cuC; rw [show s.toNat = i_2 by omega]; exact Or.inr ⟨by omega, Or.inr ⟨by omega, hbU, Or.inl ⟨(show sp_36 ≠ 0 by omega), rfl⟩⟩⟩⟩)⟩, by show va_P D.1 j_cl (cW D q (sY (sX (sV (sV (sV (sV (sV (sL (sL (sL (sL (sI (sI (sI (sI (sI (sC u 9 n_36) 2 ls9_36) 3 gr9_36) 4 nu9_36) 7 fa_36) 8 pc9_36) 2 st2_36) 3 w3_36) 4 w4_36) 5 w5_36) 20 v20_36) 21 v21_36) 22 v22_36) 23 sp_36) 24 v24_36) 9 f_36) 9 g_36)) t0.heap; rw [ht]; first | exact hP | (simp only [sC_id, sX_id, sY_id, sH_id, sT_id, sV_id]; exact hP)⟩, hS.F ht⟩) hS.2.2 dX11_flips_44 hlk
      · skip
        refine j_bipush SS dX11_flips_28 (by decide +kernel) ?_
        exact W.iret SS.1 SS.2.1 hr (fun t0 ht hW => ⟨⟨_, u, rfl, ⟨(-2), rfl, (⟨⟨⟨p0, (by first | exact cs_refl | exact (fun r hr => ⟨if_neg (by omega), if_neg (by omega), if_neg (by omega)⟩))⟩, (by first | exact hs_refl | exact (fun _ _ => rfl)), (by first | exact ss_refl | exact ⟨rfl, fun _ _ => rfl⟩), ⟨⟨(by first | rfl | exact if_neg (by omega) | exact (if_neg (by omega)).trans (if_neg (by omega))), (by first | rfl | exact if_neg (by omega) | exact (if_neg (by omega)).trans (if_neg (by omega))), (by first | rfl | exact if_neg (by omega) | exact (if_neg (by omega)).trans (if_neg (by omega)))⟩, rfl, rfl, rfl⟩⟩, by unfold fpC; unfold cuC; rw [show s.toNat = i_2 by omega]; exact Or.inr ⟨by omega, Or.inl ⟨by omega, rfl, kCu_r⟩⟩⟩)⟩, by show va_P D.1 j_cl (cW D q u) t0.heap; rw [ht]; first | exact hP | (simp only [sC_id, sX_id, sY_id, sH_id, sT_id, sV_id]; exact hP)⟩, hS.F ht⟩) hS.2.2 dX11_flips_30 hlk
    · skip
      refine j_iconst SS dX11_flips_14 ?_
      exact W.iret SS.1 SS.2.1 hr (fun t0 ht hW => ⟨⟨_, u, rfl, ⟨(-1), rfl, (⟨⟨⟨p0, (by first | exact cs_refl | exact (fun r hr => ⟨if_neg (by omega), if_neg (by omega), if_neg (by omega)⟩))⟩, (by first | exact hs_refl | exact (fun _ _ => rfl)), (by first | exact ss_refl | exact ⟨rfl, fun _ _ => rfl⟩), ⟨⟨(by first | rfl | exact if_neg (by omega) | exact (if_neg (by omega)).trans (if_neg (by omega))), (by first | rfl | exact if_neg (by omega) | exact (if_neg (by omega)).trans (if_neg (by omega))), (by first | rfl | exact if_neg (by omega) | exact (if_neg (by omega)).trans (if_neg (by omega)))⟩, rfl, rfl, rfl⟩⟩, Or.inl ⟨by omega, rfl, kCu_r⟩⟩)⟩, by show va_P D.1 j_cl (cW D q u) t0.heap; rw [ht]; first | exact hP | (simp only [sC_id, sX_id, sY_id, sH_id, sT_id, sV_id]; exact hP)⟩, hS.F ht⟩) hS.2.2 dX11_flips_15 hlk
  · skip
    refine lv_astore_nN (lv' := [(3, .null), (0, .ref (q 0)), (1, .int (J s)), (2, .int (J i))]) SS.1 SS.2.1 dX11_flips_5 rfl hl (by decide) rfl (fun ls hl => ?_)
    refine lv_aload_nN SS.1 SS.2.1 dX11_flips_6 rfl (lv_at hl 0 rfl) ?_
    refine lv_ifnullN SS.1 SS.2.1 (tgt := 14) dX11_flips_7 (by decide) ?_
    refine j_iconst SS dX11_flips_14 ?_
    exact W.iret SS.1 SS.2.1 hr (fun t0 ht hW => ⟨⟨_, u, rfl, ⟨(-1), rfl, (⟨⟨⟨p0, (by first | exact cs_refl | exact (fun r hr => ⟨if_neg (by omega), if_neg (by omega), if_neg (by omega)⟩))⟩, (by first | exact hs_refl | exact (fun _ _ => rfl)), (by first | exact ss_refl | exact ⟨rfl, fun _ _ => rfl⟩), ⟨⟨(by first | rfl | exact if_neg (by omega) | exact (if_neg (by omega)).trans (if_neg (by omega))), (by first | rfl | exact if_neg (by omega) | exact (if_neg (by omega)).trans (if_neg (by omega))), (by first | rfl | exact if_neg (by omega) | exact (if_neg (by omega)).trans (if_neg (by omega)))⟩, rfl, rfl, rfl⟩⟩, Or.inl ⟨by omega, rfl, kCu_r⟩⟩)⟩, by show va_P D.1 j_cl (cW D q u) t0.heap; rw [ht]; first | exact hP | (simp only [sC_id, sX_id, sY_id, sH_id, sT_id, sV_id]; exact hP)⟩, hS.F ht⟩) hS.2.2 dX11_flips_15 hlk


/-! ===== a step that makes one ===== -/
theorem bz_n (m n : Nat) : ∃ u v : Int, (m : Int) * u + (n : Int) * v = ((Nat.gcd m n : Nat) : Int) := by
  induction m, n using Nat.gcd.induction with
  | H0 n => exact ⟨0, 1, by rw [Nat.gcd_zero_left]; omega⟩
  | H1 m n hm ih =>
    obtain ⟨u, v, h⟩ := ih
    have e := Nat.div_add_mod n m
    have e2 : ((m * (n / m) + n % m : Nat) : Int) = (n : Int) := by rw [e]
    rw [Int.natCast_add, Int.natCast_mul] at e2
    refine ⟨v - ((n / m : Nat) : Int) * u, u, ?_⟩
    rw [Nat.gcd_rec m n, ← h, ← e2]
    generalize ((n / m : Nat) : Int) = q
    generalize ((n % m : Nat) : Int) = r
    grind
theorem bz_9 {A B : Int} : ∃ u v : Int, A * u + B * v = ((Int.gcd A B : Nat) : Int) := by
  obtain ⟨u, v, e⟩ := bz_n A.natAbs B.natAbs
  have g : ((Int.gcd A B : Nat) : Int) = ((Nat.gcd A.natAbs B.natAbs : Nat) : Int) := rfl
  obtain ⟨p, hp⟩ : ∃ p : Int, p = (A.natAbs : Int) := ⟨_, rfl⟩
  obtain ⟨q, hq⟩ : ∃ q : Int, q = (B.natAbs : Int) := ⟨_, rfl⟩
  have hA : A = p ∨ A = -p := by omega
  have hB : B = q ∨ B = -q := by omega
  rw [g, ← e, ← hp, ← hq]
  rcases hA with a | a <;> rcases hB with b | b
  · exact ⟨u, v, by rw [← a, ← b]⟩
  · exact ⟨u, -v, by rw [← a, show q = -B by omega, Int.neg_mul, Int.mul_neg]⟩
  · exact ⟨-u, v, by rw [← b, show p = -A by omega, Int.neg_mul, Int.mul_neg]⟩
  · exact ⟨-u, -v, by rw [show p = -A by omega, show q = -B by omega, Int.neg_mul, Int.mul_neg, Int.neg_mul, Int.mul_neg]⟩
theorem gc_1 {A B u v : Int} (h : A * u + B * v = 1) : ((Int.gcd A B : Nat) : Int) = 1 := by
  have d : ((Int.gcd A B : Nat) : Int) ∣ A * u + B * v := Int.dvd_add (Int.dvd_trans (Int.gcd_dvd_left A B) ⟨u, rfl⟩) (Int.dvd_trans (Int.gcd_dvd_right A B) ⟨v, rfl⟩)
  rw [h] at d
  exact Int.eq_one_of_dvd_one (by omega) d
/-- of finitely many the one with the least key -/
theorem fin_min (Q : Nat → Prop) (key : Nat → Int) : ∀ n : Nat, (∃ c : Nat, c < n ∧ Q c) → ∃ c : Nat, (c < n ∧ Q c) ∧ ∀ d : Nat, d < n → Q d → key c ≤ key d := by
  intro n
  induction n with
  | zero => rintro ⟨c, hc, _⟩; exact absurd hc (Nat.not_lt_zero c)
  | succ n ih =>
    rintro ⟨c, hc, qc⟩
    by_cases w : ∀ c : Nat, c < n → ¬ Q c
    · have en : c = n := by
        apply Classical.byContradiction
        intro z
        exact w c (Nat.lt_of_le_of_ne (Nat.le_of_lt_succ hc) z) qc
      refine ⟨c, ⟨hc, qc⟩, fun e he qe => ?_⟩
      by_cases ec : e = c
      · rw [ec]; exact Int.le_refl _
      · exact absurd qe (w e (Nat.lt_of_le_of_ne (Nat.le_of_lt_succ he) (fun q => ec (q.trans en.symm))))
    · obtain ⟨d, ⟨d1, d2⟩, d3⟩ := ih (Classical.byContradiction fun z => w fun c h q => z ⟨c, h, q⟩)
      by_cases v : Q n ∧ key n < key d
      · refine ⟨n, ⟨Nat.lt_succ_self n, v.1⟩, fun e he qe => ?_⟩
        by_cases en : e = n
        · rw [en]; exact Int.le_refl _
        · exact Int.le_trans (Int.le_of_lt v.2) (d3 e (Nat.lt_of_le_of_ne (Nat.le_of_lt_succ he) en) qe)
      · refine ⟨d, ⟨Nat.lt_succ_of_lt d1, d2⟩, fun e he qe => ?_⟩
        by_cases en : e = n
        · rw [en] at qe ⊢
          exact Int.not_lt.mp (fun z => v ⟨qe, z⟩)
        · exact d3 e (Nat.lt_of_le_of_ne (Nat.le_of_lt_succ he) en) qe
theorem mlt_9 {a b : Int} (h : a * b < 0) : (a < 0 ∧ 0 < b) ∨ (0 < a ∧ b < 0) := by
  by_cases p : 0 ≤ a
  · by_cases q : 0 ≤ b
    · have := Int.mul_nonneg p q; omega
    · by_cases z : a = 0
      · rw [z, Int.zero_mul] at h; omega
      · omega
  · by_cases q : 0 < b
    · omega
    · have := Int.mul_nonneg (show 0 ≤ -a by omega) (show 0 ≤ -b by omega)
      rw [Int.neg_mul_neg] at this
      omega
/-- what crosses between two heights starts below the one and ends above the other -/
theorem cr_9 {e0 e1 y0 y1 : Int} (h : e0 * e1 < 0) (g : (e1 * y0 - e0 * y1) * (e1 * y0 - e0 * y1 - e1 + e0) < 0) : (y0 ≤ 0 ∧ 1 ≤ y1) ∨ (y1 ≤ 0 ∧ 1 ≤ y0) := by
  apply Classical.byContradiction
  intro w
  have w2 : (1 ≤ y0 ∧ 1 ≤ y1) ∨ (y0 ≤ 0 ∧ y1 ≤ 0) := by omega
  clear w
  have f1 : e1 * (y0 - 1) = e1 * y0 - e1 := by grind
  have f2 : e0 * (y1 - 1) = e0 * y1 - e0 := by grind
  rcases mlt_9 h with ⟨s1, s2⟩ | ⟨s1, s2⟩ <;> rcases w2 with ⟨w1, w2⟩ | ⟨w1, w2⟩
  · have m1 := Int.mul_nonneg (show 0 ≤ e1 by omega) (show 0 ≤ y0 - 1 by omega)
    have m2 := Int.mul_nonneg (show 0 ≤ -e0 by omega) (show 0 ≤ y1 - 1 by omega)
    rw [Int.neg_mul] at m2
    have := Int.mul_nonneg (show 0 ≤ e1 * y0 - e0 * y1 by omega) (show 0 ≤ e1 * y0 - e0 * y1 - e1 + e0 by omega)
    omega
  · have m1 := Int.mul_nonneg (show 0 ≤ e1 by omega) (show 0 ≤ -y0 by omega)
    have m2 := Int.mul_nonneg (show 0 ≤ -e0 by omega) (show 0 ≤ -y1 by omega)
    rw [Int.mul_neg] at m1
    rw [Int.neg_mul_neg] at m2
    have := Int.mul_nonneg (show 0 ≤ -(e1 * y0 - e0 * y1) by omega) (show 0 ≤ -(e1 * y0 - e0 * y1 - e1 + e0) by omega)
    rw [Int.neg_mul_neg] at this
    omega
  · have m1 := Int.mul_nonneg (show 0 ≤ -e1 by omega) (show 0 ≤ y0 - 1 by omega)
    have m2 := Int.mul_nonneg (show 0 ≤ e0 by omega) (show 0 ≤ y1 - 1 by omega)
    rw [Int.neg_mul] at m1
    have := Int.mul_nonneg (show 0 ≤ -(e1 * y0 - e0 * y1) by omega) (show 0 ≤ -(e1 * y0 - e0 * y1 - e1 + e0) by omega)
    rw [Int.neg_mul_neg] at this
    omega
  · have m1 := Int.mul_nonneg (show 0 ≤ -e1 by omega) (show 0 ≤ -y0 by omega)
    have m2 := Int.mul_nonneg (show 0 ≤ e0 by omega) (show 0 ≤ -y1 by omega)
    rw [Int.neg_mul_neg] at m1
    rw [Int.mul_neg] at m2
    have := Int.mul_nonneg (show 0 ≤ e1 * y0 - e0 * y1 by omega) (show 0 ≤ e1 * y0 - e0 * y1 - e1 + e0 by omega)
    omega
/-! ===== turns ===== -/
theorem tn_b9 {X Y : Nat → Int} {a b p q : Nat} : tn X Y p q b = tn X Y p q a - (tn X Y a b q - tn X Y a b p) := by unfold tn; grind
set_option maxHeartbeats 4000000 in
theorem tn_bar {X Y : Nat → Int} {a b c q p r : Nat} : tn X Y a b q * tn X Y p r c = -(tn X Y b c q) * tn X Y p r a + tn X Y a c q * tn X Y p r b + tn X Y a b c * tn X Y p r q := by unfold tn; grind
theorem tri_le {X Y : Nat → Int} {a b c q p r : Nat} (h1 : tn X Y a b c = 1) (h0 : 0 < tn X Y a b q) (k1 : 0 ≤ tn X Y a c q) (k2 : tn X Y b c q ≤ 0) (fa : tn X Y p r a ≤ 0) (fb : tn X Y p r b ≤ 0) (fq : tn X Y p r q ≤ 0) : tn X Y p r c ≤ 0 := by
  have e := @tn_bar X Y a b c q p r
  rw [h1, Int.one_mul] at e
  have m1 := Int.mul_nonneg (show 0 ≤ -(tn X Y b c q) by omega) (show 0 ≤ -(tn X Y p r a) by omega)
  have m2 := Int.mul_nonneg k1 (show 0 ≤ -(tn X Y p r b) by omega)
  rw [Int.mul_neg] at m1
  rw [Int.mul_neg] at m2
  by_cases w : tn X Y p r c ≤ 0
  · exact w
  · have m3 := Int.mul_pos h0 (show 0 < tn X Y p r c by omega)
    omega
theorem tri_ge {X Y : Nat → Int} {a b c q p r : Nat} (h1 : tn X Y a b c = 1) (h0 : 0 < tn X Y a b q) (k1 : 0 ≤ tn X Y a c q) (k2 : tn X Y b c q ≤ 0) (fa : 0 ≤ tn X Y p r a) (fb : 0 ≤ tn X Y p r b) (fq : 0 ≤ tn X Y p r q) : 0 ≤ tn X Y p r c := by
  have e := @tn_bar X Y a b c q p r
  rw [h1, Int.one_mul] at e
  have m1 := Int.mul_nonneg (show 0 ≤ -(tn X Y b c q) by omega) fa
  have m2 := Int.mul_nonneg k1 fb
  by_cases w : 0 ≤ tn X Y p r c
  · exact w
  · have m3 := Int.mul_pos h0 (show 0 < -(tn X Y p r c) by omega)
    rw [Int.mul_neg] at m3
    omega
/-- points at the height one -/
theorem hz_9 {X Y : Nat → Int} {a b c d : Nat} (h1 : tn X Y a b c = 1) (h2 : tn X Y a b d = 1) : X d = X c + tn X Y a d c * (X b - X a) ∧ Y d = Y c + tn X Y a d c * (Y b - Y a) := by
  have e1 : (X d - X c) * tn X Y a b c = tn X Y a d c * (X b - X a) + (tn X Y a b d - tn X Y a b c) * (X c - X a) := by unfold tn; grind
  have e2 : (Y d - Y c) * tn X Y a b c = tn X Y a d c * (Y b - Y a) + (tn X Y a b d - tn X Y a b c) * (Y c - Y a) := by unfold tn; grind
  rw [h1, h2] at e1 e2
  rw [Int.sub_self, Int.zero_mul, Int.mul_one] at e1 e2
  omega
set_option maxHeartbeats 4000000 in
theorem mv_9 {X Y : Nat → Int} {a b c d z p q : Nat} (hz : tn X Y a b z = 1) (hc : tn X Y a b c = 1) (hd : tn X Y a b d = 1) : tn X Y p q d = tn X Y p q c - (tn X Y a d z - tn X Y a c z) * (tn X Y a b q - tn X Y a b p) := by
  obtain ⟨c1, c2⟩ := hz_9 hz hc
  obtain ⟨d1, d2⟩ := hz_9 hz hd
  generalize tn X Y a c z = C at *
  generalize tn X Y a d z = D at *
  clear hz hc hd
  unfold tn
  rw [c1, c2, d1, d2]
  grind
theorem mv_le {X Y : Nat → Int} {a b c d z p q : Nat} (hz : tn X Y a b z = 1) (hc : tn X Y a b c = 1) (hd : tn X Y a b d = 1) (hH : tn X Y a b p ≤ tn X Y a b q) (k : tn X Y a c z ≤ tn X Y a d z) : tn X Y p q d ≤ tn X Y p q c := by
  have e := mv_9 (p := p) (q := q) hz hc hd
  have m := Int.mul_nonneg (show 0 ≤ tn X Y a d z - tn X Y a c z by omega) (show 0 ≤ tn X Y a b q - tn X Y a b p by omega)
  omega
theorem lr_9 {X Y : Nat → Int} {a b p q : Nat} (hg : ((Int.gcd (X b - X a) (Y b - Y a) : Nat) : Int) = 1) (hx : ¬ XC9 X Y a b p q) (hp : tn X Y a b p ≤ 0) (hq : 1 ≤ tn X Y a b q) : tn X Y p q a ≤ 0 ∨ 0 ≤ tn X Y p q b := by
  apply Classical.byContradiction
  intro w
  have w1 : 0 < tn X Y p q a ∧ tn X Y p q b < 0 := by omega
  clear w
  have e := @tn_b9 X Y a b p q
  by_cases z : tn X Y a b p < 0
  · refine hx ⟨?_, ?_⟩
    · have := Int.mul_pos (show 0 < -(tn X Y a b p) by omega) (show 0 < tn X Y a b q by omega)
      rw [Int.neg_mul] at this
      omega
    · have := Int.mul_pos w1.1 (show 0 < -(tn X Y p q b) by omega)
      rw [Int.mul_neg] at this
      omega
  · have p0 : tn X Y a b p = 0 := by omega
    have z0 : (X b - X a) * (Y p - Y a) = (Y b - Y a) * (X p - X a) := by
      have q0 := p0
      unfold tn at q0
      omega
    obtain ⟨t, t1, t2⟩ := prm hg z0
    have x1 : X p = X a + t * (X b - X a) := by omega
    have y1 : Y p = Y a + t * (Y b - Y a) := by omega
    have ea : tn X Y p q a = t * tn X Y a b q := by
      unfold tn
      rw [x1, y1]
      grind
    by_cases tt : 1 ≤ t
    · have m := Int.mul_nonneg (show 0 ≤ t - 1 by omega) (show 0 ≤ tn X Y a b q by omega)
      have f : (t - 1) * tn X Y a b q = t * tn X Y a b q - tn X Y a b q := by grind
      omega
    · have m := Int.mul_nonneg (show 0 ≤ -t by omega) (show 0 ≤ tn X Y a b q by omega)
      rw [Int.neg_mul] at m
      omega
theorem pl_i {hp hq hr hs fr fs fa gp gq ga : Int} (i1 : hs * fr - hr * fs = (hs - hr) * fa - (hq - hp) * ga) (i2 : hq * gp - hp * gq = (hq - hp) * ga - (hs - hr) * fa) (k1 : hp ≤ 0) (k2 : 1 ≤ hq) (k3 : hr ≤ 0) (k4 : 1 ≤ hs) (k5 : fa ≤ 0) (k6 : 0 < ga) (k7 : gq < 0) (k8 : 0 < fs) : fr * fs < 0 ∧ gp * gq < 0 := by
  have m1 := Int.mul_nonneg (show 0 ≤ hs - hr by omega) (show 0 ≤ -fa by omega)
  have m2 := Int.mul_pos (show 0 < hq - hp by omega) k6
  have m3 := Int.mul_nonneg (show 0 ≤ -hr by omega) (show 0 ≤ fs by omega)
  have m4 := Int.mul_nonneg (show 0 ≤ -hp by omega) (show 0 ≤ -gq by omega)
  rw [Int.mul_neg] at m1
  rw [Int.neg_mul] at m3
  rw [Int.neg_mul_neg] at m4
  have c1 : fr < 0 := by
    apply Int.not_le.mp
    intro w
    have := Int.mul_nonneg (show 0 ≤ hs by omega) w
    omega
  have c2 : 0 < gp := by
    apply Int.not_le.mp
    intro w
    have := Int.mul_nonneg (show 0 ≤ hq by omega) (show 0 ≤ -gp by omega)
    rw [Int.mul_neg] at this
    omega
  have n1 := Int.mul_pos (show 0 < -fr by omega) k8
  have n2 := Int.mul_pos c2 (show 0 < -gq by omega)
  rw [Int.neg_mul] at n1
  rw [Int.mul_neg] at n2
  exact ⟨by omega, by omega⟩
set_option maxHeartbeats 4000000 in
/-- of one from the left and one from the right the one ends on its own side -/
theorem pl_9 {X Y : Nat → Int} {a b p q r s : Nat} (hp : tn X Y a b p ≤ 0) (hq : 1 ≤ tn X Y a b q) (hl : tn X Y p q a ≤ 0) (hr : tn X Y a b r ≤ 0) (hs : 1 ≤ tn X Y a b s) (hR : 0 ≤ tn X Y r s b) (hx : ¬ XC9 X Y p q r s) : 0 ≤ tn X Y r s q ∨ tn X Y p q s ≤ 0 := by
  apply Classical.byContradiction
  intro w
  have w1 : tn X Y r s q < 0 ∧ 0 < tn X Y p q s := by omega
  clear w
  have e := @tn_b9 X Y a b r s
  have i1 : tn X Y a b s * tn X Y p q r - tn X Y a b r * tn X Y p q s = (tn X Y a b s - tn X Y a b r) * tn X Y p q a - (tn X Y a b q - tn X Y a b p) * tn X Y r s a := by unfold tn; grind
  have i2 : tn X Y a b q * tn X Y r s p - tn X Y a b p * tn X Y r s q = (tn X Y a b q - tn X Y a b p) * tn X Y r s a - (tn X Y a b s - tn X Y a b r) * tn X Y p q a := by unfold tn; grind
  exact hx (pl_i i1 i2 hp hq hr hs hl (by omega) w1.1 w1.2)
/-! ===== the points are closed ===== -/
def CL9 (X Y : Nat → Int) (N : Nat) : Prop := ∀ (i j k : Nat) (α β γ x y : Int), (i < N ∧ j < N ∧ k < N) → (0 ≤ α ∧ 0 ≤ β ∧ 0 ≤ γ) → 0 < α + β + γ → (α + β + γ) * x = α * X i + β * X j + γ * X k → (α + β + γ) * y = α * Y i + β * Y j + γ * Y k → ∃ e : Nat, e < N ∧ X e = x ∧ Y e = y
theorem t1_9 {k h V d w a b q : Int} (hb : b = a + d) (e : V * d - h * w = q - a) : (h - 1 - k * h + V + (k * h - V) + 1) * (a + k * d - w) = (h - 1 - k * h + V) * a + (k * h - V) * b + 1 * q := by
  have f : (h - 1 - k * h + V + (k * h - V) + 1) * (a + k * d - w) - ((h - 1 - k * h + V) * a + (k * h - V) * (a + d) + 1 * q) = (V * d - h * w) - (q - a) := by grind
  rw [hb]
  omega
set_option maxHeartbeats 4000000 in
/-- in a triangle on an edge there is a point at the height one -/
theorem tr_1 {X Y : Nat → Int} {N a b q : Nat} (hC : CL9 X Y N) (ha : a < N) (hb : b < N) (hq : q < N) (hg : ((Int.gcd (X b - X a) (Y b - Y a) : Nat) : Int) = 1) (h0 : 0 < tn X Y a b q) : ∃ c : Nat, c < N ∧ tn X Y a b c = 1 ∧ 0 ≤ tn X Y a c q ∧ tn X Y b c q ≤ 0 := by
  obtain ⟨u, v, hz⟩ := @bz_9 (X b - X a) (Y b - Y a)
  rw [hg] at hz
  obtain ⟨h, hh⟩ : ∃ h : Int, h = tn X Y a b q := ⟨_, rfl⟩
  obtain ⟨V, hV⟩ : ∃ V : Int, V = u * (X q - X a) + v * (Y q - Y a) := ⟨_, rfl⟩
  obtain ⟨k, hk⟩ : ∃ k : Int, k = (V + h - 1) / h := ⟨_, rfl⟩
  have h1 : 0 < h := by omega
  have d1 := Int.ediv_mul_le (V + h - 1) (show h ≠ 0 by omega)
  have d2 := Int.lt_ediv_add_one_mul_self (V + h - 1) h1
  rw [← hk] at d1 d2
  have d3 : (k + 1) * h = k * h + h := by grind
  have hh2 : h = (X b - X a) * (Y q - Y a) - (Y b - Y a) * (X q - X a) := hh
  have e1 : V * (X b - X a) - h * v = X q - X a := by
    have f : (u * (X q - X a) + v * (Y q - Y a)) * (X b - X a) - ((X b - X a) * (Y q - Y a) - (Y b - Y a) * (X q - X a)) * v = (X q - X a) * ((X b - X a) * u + (Y b - Y a) * v) := by grind
    rw [hz, Int.mul_one, ← hV, ← hh2] at f
    exact f
  have e2 : V * (Y b - Y a) - h * -u = Y q - Y a := by
    have f : (u * (X q - X a) + v * (Y q - Y a)) * (Y b - Y a) - ((X b - X a) * (Y q - Y a) - (Y b - Y a) * (X q - X a)) * -u = (Y q - Y a) * ((X b - X a) * u + (Y b - Y a) * v) := by grind
    rw [hz, Int.mul_one, ← hV, ← hh2] at f
    exact f
  obtain ⟨c, c1, c2, c3⟩ := hC a b q (h - 1 - k * h + V) (k * h - V) 1 (X a + k * (X b - X a) - v) (Y a + k * (Y b - Y a) - -u) ⟨ha, hb, hq⟩ ⟨by omega, by omega, by omega⟩ (by omega) (t1_9 (by omega) e1) (t1_9 (by omega) e2)
  refine ⟨c, c1, ?_, ?_, ?_⟩
  · unfold tn
    rw [c2, c3]
    have f : (X b - X a) * (Y a + k * (Y b - Y a) - -u - Y a) - (Y b - Y a) * (X a + k * (X b - X a) - v - X a) = (X b - X a) * u + (Y b - Y a) * v := by grind
    omega
  · have f : (X a + k * (X b - X a) - v - X a) * (Y q - Y a) - (Y a + k * (Y b - Y a) - -u - Y a) * (X q - X a) = k * ((X b - X a) * (Y q - Y a) - (Y b - Y a) * (X q - X a)) - (u * (X q - X a) + v * (Y q - Y a)) := by grind
    rw [← hh2, ← hV] at f
    unfold tn
    rw [c2, c3]
    omega
  · have f : (X a + k * (X b - X a) - v - X b) * (Y q - Y b) - (Y a + k * (Y b - Y a) - -u - Y b) * (X q - X b) = k * ((X b - X a) * (Y q - Y a) - (Y b - Y a) * (X q - X a)) - ((X b - X a) * (Y q - Y a) - (Y b - Y a) * (X q - X a)) - (u * (X q - X a) + v * (Y q - Y a)) + ((X b - X a) * u + (Y b - Y a) * v) := by grind
    rw [← hh2, ← hV, hz] at f
    unfold tn
    rw [c2, c3]
    omega
theorem st_9 {K L x0 x y d : Int} (h1 : x = x0 + K * d) (h2 : y = x0 + L * d) : (1 + (K - L - 1) + 0) * (x - d) = 1 * y + (K - L - 1) * x + 0 * x := by
  rw [h1, h2]
  grind


/-! ===== beside each edge of a full set: its triangle ===== -/
/-- to the right of all that come from the left -/
def gl9 (X Y : Nat → Int) (M : Nat → Nat → Prop) (a b c : Nat) : Prop := ∀ p q : Nat, M p q → tn X Y a b p ≤ 0 → 1 ≤ tn X Y a b q → tn X Y p q a ≤ 0 → tn X Y p q c ≤ 0
/-- to the left of all that come from the right -/
def gr9 (X Y : Nat → Int) (M : Nat → Nat → Prop) (a b c : Nat) : Prop := ∀ p q : Nat, M p q → tn X Y a b p ≤ 0 → 1 ≤ tn X Y a b q → 0 ≤ tn X Y p q b → 0 ≤ tn X Y p q c
def tc9 (X Y : Nat → Int) (N a b : Nat) : Prop := ∀ q : Nat, q < N → 0 < tn X Y a b q → ∃ c : Nat, c < N ∧ tn X Y a b c = 1 ∧ 0 ≤ tn X Y a c q ∧ tn X Y b c q ≤ 0
theorem gl_m {X Y : Nat → Int} {N : Nat} {M : Nat → Nat → Prop} {a b c0 m : Nat} (hR : ∀ p q : Nat, M p q → p < N ∧ q < N) (T : tc9 X Y N a b) (h0 : tn X Y a b c0 = 1) (hm : tn X Y a b m = 1) (hk : ∀ d : Nat, d < N → tn X Y a b d = 1 → tn X Y a d c0 ≤ tn X Y a m c0) : gl9 X Y M a b m := by
  intro p q h1 h2 h3 h4
  obtain ⟨e, e1, e2, e3, e4⟩ := T q (hR p q h1).2 (by omega)
  have eb := @tn_b9 X Y a b p q
  have eq : tn X Y p q q = 0 := tn_jj
  have fe := tri_le (p := p) (r := q) e2 (by omega) e3 e4 h4 (by omega) (by omega)
  have := mv_le (p := p) (q := q) h0 e2 hm (by omega) (hk e e1 e2)
  omega
theorem gr_m {X Y : Nat → Int} {N : Nat} {M : Nat → Nat → Prop} {a b c0 c : Nat} (hC : CL9 X Y N) (hR : ∀ p q : Nat, M p q → p < N ∧ q < N) (hN : ∀ p q r s : Nat, M p q → M r s → ¬ XC9 X Y p q r s) (T : tc9 X Y N a b) (h0 : tn X Y a b c0 = 1) (hc : c < N) (h1 : tn X Y a b c = 1) (hl : gl9 X Y M a b c) (hk : ∀ d : Nat, d < N → tn X Y a b d = 1 → gl9 X Y M a b d → tn X Y a c c0 ≤ tn X Y a d c0) : gr9 X Y M a b c := by
  intro r s k1 k2 k3 k4
  apply Classical.byContradiction
  intro w
  have w' : tn X Y r s c < 0 := by omega
  clear w
  obtain ⟨cr, r1, r2, r3, r4⟩ := T s (hR r s k1).2 (by omega)
  have eb := @tn_b9 X Y a b r s
  have es : tn X Y r s s = 0 := tn_jj
  have fr := tri_ge (p := r) (r := s) r2 (by omega) r3 r4 (by omega) k4 (by omega)
  have kr : tn X Y a cr c0 < tn X Y a c c0 := by
    apply Int.not_le.mp
    intro v
    have := mv_le (p := r) (q := s) h0 h1 r2 (by omega) v
    omega
  have x1 := hz_9 h0 h1
  have x2 := hz_9 h0 r2
  obtain ⟨e, e1, e2, e3⟩ := hC cr c c 1 (tn X Y a c c0 - tn X Y a cr c0 - 1) 0 (X c - (X b - X a)) (Y c - (Y b - Y a)) ⟨r1, hc, hc⟩ ⟨by omega, by omega, by omega⟩ (by omega) (st_9 x1.1 x2.1) (st_9 x1.2 x2.2)
  have te : tn X Y a b e = 1 := by
    have : tn X Y a b e = tn X Y a b c := by
      unfold tn
      rw [e2, e3]
      grind
    omega
  have ke : tn X Y a e c0 = tn X Y a c c0 - 1 := by
    have : tn X Y a e c0 = tn X Y a c c0 - tn X Y a b c0 := by
      unfold tn
      rw [e2, e3]
      grind
    omega
  have ng : ¬ gl9 X Y M a b e := fun g => by
    have := hk e e1 te g
    omega
  apply ng
  intro p q l1 l2 l3 l4
  apply Classical.byContradiction
  intro w2
  have w3 : 0 < tn X Y p q e := by omega
  clear w2 ng
  have fb := @tn_b9 X Y a b p q
  rcases pl_9 l2 l3 l4 k2 k3 k4 (hN p q r s l1 k1) with v | v
  · obtain ⟨f, f1, f2, f3, f4⟩ := T q (hR p q l1).2 (by omega)
    have eq : tn X Y p q q = 0 := tn_jj
    have u1 := tri_le (p := p) (r := q) f2 (by omega) f3 f4 l4 (by omega) (by omega)
    have u2 := tri_ge (p := r) (r := s) f2 (by omega) f3 f4 (by omega) k4 v
    have n1 : tn X Y a f c0 < tn X Y a c c0 := by
      apply Int.not_le.mp
      intro v2
      have := mv_le (p := r) (q := s) h0 h1 f2 (by omega) v2
      omega
    have n2 : tn X Y a e c0 < tn X Y a f c0 := by
      apply Int.not_le.mp
      intro v2
      have := mv_le (p := p) (q := q) h0 f2 te (by omega) v2
      omega
    omega
  · have u1 := tri_le (p := p) (r := q) r2 (by omega) r3 r4 l4 (by omega) v
    have n2 : tn X Y a e c0 < tn X Y a cr c0 := by
      apply Int.not_le.mp
      intro v2
      have := mv_le (p := p) (q := q) h0 r2 te (by omega) v2
      omega
    omega
/-- from an end of the edge to such a point: nothing crosses -/
theorem nc_9 {X Y : Nat → Int} {M : Nat → Nat → Prop} {a b c z p q : Nat} (hS : ∀ p q : Nat, M p q → M q p) (hx : ∀ p q : Nat, M p q → ¬ XC9 X Y a b p q) (hg : ((Int.gcd (X b - X a) (Y b - Y a) : Nat) : Int) = 1) (h1 : tn X Y a b c = 1) (hl : gl9 X Y M a b c) (hr : gr9 X Y M a b c) (hz : z = a ∨ z = b) (hm : M p q) : ¬ XC9 X Y z c p q := by
  have no : ∀ p q : Nat, M p q → tn X Y a b p ≤ 0 → 1 ≤ tn X Y a b q → ¬ XC9 X Y z c p q := fun p q k s1 s2 w => by
    have w2 := w.2
    have eb := @tn_b9 X Y a b p q
    rcases lr_9 hg (hx p q k) s1 s2 with v | v
    · have f := hl p q k s1 s2 v
      have fz : tn X Y p q z ≤ 0 := by rcases hz with e | e <;> rw [e] <;> omega
      have := Int.mul_nonneg (show 0 ≤ -(tn X Y p q z) by omega) (show 0 ≤ -(tn X Y p q c) by omega)
      rw [Int.neg_mul_neg] at this
      omega
    · have f := hr p q k s1 s2 v
      have fz : 0 ≤ tn X Y p q z := by rcases hz with e | e <;> rw [e] <;> omega
      have := Int.mul_nonneg fz f
      omega
  intro w
  have i2 : tn X Y p q c = tn X Y p q z - tn X Y z c q + tn X Y z c p := by unfold tn; grind
  have i1 : tn X Y p q z = tn X Y z c q * tn X Y a b p - tn X Y z c p * tn X Y a b q := by
    rcases hz with e | e
    · rw [e]
      have f : tn X Y p q a * tn X Y a b c = tn X Y a c q * tn X Y a b p - tn X Y a c p * tn X Y a b q := by unfold tn; grind
      rw [h1, Int.mul_one] at f
      exact f
    · rw [e]
      have f : tn X Y p q b * tn X Y a b c = tn X Y b c q * tn X Y a b p - tn X Y b c p * tn X Y a b q := by unfold tn; grind
      rw [h1, Int.mul_one] at f
      exact f
  have w2 := w.2
  rw [i2, i1] at w2
  rcases cr_9 w.1 w2 with ⟨s1, s2⟩ | ⟨s1, s2⟩
  · exact no p q hm s1 s2 w
  · exact no q p (hS p q hm) s1 s2 (XC_g w)
theorem TR_ex {X Y : Nat → Int} {N : Nat} {M : Nat → Nat → Prop} (hC : CL9 X Y N) (hR : ∀ p q : Nat, M p q → p < N ∧ q < N) (hS : ∀ p q : Nat, M p q → M q p) (hN : ∀ p q r s : Nat, M p q → M r s → ¬ XC9 X Y p q r s) (hF : ∀ p q : Nat, p < N → q < N → ((Int.gcd (X q - X p) (Y q - Y p) : Nat) : Int) = 1 → (∀ r s : Nat, M r s → ¬ XC9 X Y p q r s) → M p q) {a b q0 : Nat} (hm : M a b) (hg : ((Int.gcd (X b - X a) (Y b - Y a) : Nat) : Int) = 1) (hq : q0 < N) (h0 : 0 < tn X Y a b q0) : ∃ c : Nat, c < N ∧ tn X Y a b c = 1 ∧ M a c ∧ M b c := by
  obtain ⟨ha, hb⟩ := hR a b hm
  have T : tc9 X Y N a b := fun q hq hh => tr_1 hC ha hb hq hg hh
  obtain ⟨c0, c1, c2, _⟩ := T q0 hq h0
  obtain ⟨m, ⟨m1, m2⟩, m3⟩ := fin_min (fun c => tn X Y a b c = 1) (fun c => -(tn X Y a c c0)) N ⟨c0, c1, c2⟩
  have m2' : tn X Y a b m = 1 := m2
  have gm : gl9 X Y M a b m := gl_m hR T c2 m2' (fun d d1 d2 => by
    have q : -(tn X Y a m c0) ≤ -(tn X Y a d c0) := m3 d d1 d2
    omega)
  obtain ⟨c, ⟨h1, h2⟩, h3⟩ := fin_min (fun c => tn X Y a b c = 1 ∧ gl9 X Y M a b c) (fun c => tn X Y a c c0) N ⟨m, m1, m2', gm⟩
  have h4 : tn X Y a b c = 1 := h2.1
  have gc : gl9 X Y M a b c := h2.2
  have gr : gr9 X Y M a b c := gr_m hC hR hN T c2 h1 h4 gc (fun d d1 d2 d3 => h3 d d1 ⟨d2, d3⟩)
  have hx : ∀ p q : Nat, M p q → ¬ XC9 X Y a b p q := fun p q k => hN a b p q hm k
  refine ⟨c, h1, h4, hF a c ha h1 ?_ (fun r s k => nc_9 hS hx hg h4 gc gr (Or.inl rfl) k), hF b c hb h1 ?_ (fun r s k => nc_9 hS hx hg h4 gc gr (Or.inr rfl) k)⟩
  · refine gc_1 (u := -(Y b - Y a)) (v := X b - X a) ?_
    have : (X c - X a) * -(Y b - Y a) + (Y c - Y a) * (X b - X a) = tn X Y a b c := by unfold tn; grind
    omega
  · refine gc_1 (u := Y a - Y b) (v := -(X a - X b)) ?_
    have : (X c - X b) * (Y a - Y b) + (Y c - Y b) * -(X a - X b) = tn X Y a b c := by unfold tn; grind
    omega


/-! ===== sums over pairs ===== -/
theorem sm_0 {f : Nat → Int} {n : Nat} (h : ∀ i : Nat, i < n → f i = 0) : sm f n = 0 := by
  rw [sm_c (g := fun _ => 0) h, sm_k, Int.mul_zero]
theorem sm_at {f : Nat → Int} {i : Nat} {v : Int} : ∀ n : Nat, i < n → f i = v → (∀ j : Nat, j < n → j ≠ i → f j = 0) → sm f n = v := by
  intro n
  induction n with
  | zero => intro h; exact absurd h (Nat.not_lt_zero i)
  | succ n ih =>
    intro h1 h2 h3
    show sm f n + f n = v
    by_cases e : i = n
    · rw [sm_0 (fun j hj => h3 j (by omega) (by omega)), ← e, h2]
      omega
    · rw [ih (by omega) h2 (fun j hj hn => h3 j (by omega) hn), h3 n (by omega) (by omega)]
      omega
theorem sm_swap {F : Nat → Nat → Int} {n : Nat} : ∀ m : Nat, sm (fun i => sm (fun j => F i j) n) m = sm (fun j => sm (fun i => F i j) m) n := by
  intro m
  induction m with
  | zero =>
    show (0 : Int) = sm (fun j => sm (fun i => F i j) 0) n
    exact (sm_0 (f := fun j => sm (fun i => F i j) 0) (fun _ _ => rfl)).symm
  | succ m ih =>
    show sm (fun i => sm (fun j => F i j) n) m + sm (fun j => F m j) n = sm (fun j => sm (fun i => F i j) m + F m j) n
    rw [ih, sm_add]
theorem sm_mr {f : Nat → Int} {c : Int} {n : Nat} : sm (fun i => f i * c) n = sm f n * c := by
  rw [Int.mul_comm, ← sm_mul]
  exact sm_c (fun i _ => Int.mul_comm _ _)
def sD9 (F : Nat → Nat → Int) (N : Nat) : Int := sm (fun a => sm (fun b => F a b) N) N
def sT9 (F : Nat → Nat → Nat → Int) (N : Nat) : Int := sD9 (fun a b => sm (fun d => F a b d) N) N
theorem sD9_c {F G : Nat → Nat → Int} {N : Nat} (h : ∀ a b : Nat, a < N → b < N → F a b = G a b) : sD9 F N = sD9 G N := sm_c (fun a ha => sm_c (fun b hb => h a b ha hb))
theorem sD9_add {F G : Nat → Nat → Int} {N : Nat} : sD9 (fun a b => F a b + G a b) N = sD9 F N + sD9 G N := by
  show sm (fun a => sm (fun b => F a b + G a b) N) N = sm (fun a => sm (fun b => F a b) N) N + sm (fun a => sm (fun b => G a b) N) N
  rw [← sm_add]
  exact sm_c (fun a _ => sm_add N)
theorem sD9_mul {F : Nat → Nat → Int} {c : Int} {N : Nat} : sD9 (fun a b => c * F a b) N = c * sD9 F N := by
  show sm (fun a => sm (fun b => c * F a b) N) N = c * sm (fun a => sm (fun b => F a b) N) N
  rw [← sm_mul]
  exact sm_c (fun a _ => sm_mul N)
theorem sD9_T {F : Nat → Nat → Int} {N : Nat} : sD9 (fun a b => F b a) N = sD9 F N := sm_swap (F := fun a b => F b a) N
theorem sD9_sm {G : Nat → Nat → Nat → Int} {n N : Nat} : sD9 (fun a b => sm (fun e => G e a b) n) N = sm (fun e => sD9 (fun a b => G e a b) N) n := by
  show sm (fun a => sm (fun b => sm (fun e => G e a b) n) N) N = sm (fun e => sm (fun a => sm (fun b => G e a b) N) N) n
  exact Eq.trans (b := sm (fun a => sm (fun e => sm (fun b => G e a b) N) n) N) (sm_c (fun a _ => sm_swap (F := fun b e => G e a b) N)) (sm_swap (F := fun a e => sm (fun b => G e a b) N) N)
theorem sD9_at {F : Nat → Nat → Int} {a b N : Nat} {v : Int} (ha : a < N) (hb : b < N) (h : F a b = v) (h0 : ∀ i j : Nat, i < N → j < N → ¬ (i = a ∧ j = b) → F i j = 0) : sD9 F N = v := by
  show sm (fun a => sm (fun b => F a b) N) N = v
  have q : sm (fun b => F a b) N = v := sm_at (f := fun b => F a b) N hb h (fun j hj w => h0 a j ha hj (fun e => w e.2))
  refine sm_at (f := fun a => sm (fun b => F a b) N) N ha q (fun i hi w => ?_)
  exact sm_0 (fun j hj => h0 i j hi hj (fun e => w e.1))
theorem sD9_0 {F : Nat → Nat → Int} {N : Nat} (h : ∀ i j : Nat, i < N → j < N → F i j = 0) : sD9 F N = 0 := sm_0 (fun i hi => sm_0 (fun j hj => h i j hi hj))
theorem sT9_c {F G : Nat → Nat → Nat → Int} {N : Nat} (h : ∀ a b d : Nat, a < N → b < N → d < N → F a b d = G a b d) : sT9 F N = sT9 G N := sD9_c (fun a b ha hb => sm_c (fun d hd => h a b d ha hb hd))
theorem sT9_cy {F : Nat → Nat → Nat → Int} {N : Nat} : sT9 (fun a b d => F b d a) N = sT9 F N := by
  have e1 : sT9 (fun a b d => F b d a) N = sD9 (fun a b => sm (fun d => F a d b) N) N := sD9_T (F := fun a b => sm (fun d => F a d b) N)
  rw [e1]
  show sm (fun a => sm (fun b => sm (fun d => F a d b) N) N) N = sm (fun a => sm (fun d => sm (fun b => F a d b) N) N) N
  exact sm_c (fun a _ => sm_swap (F := fun b d => F a d b) N)
theorem sT9_add {F G : Nat → Nat → Nat → Int} {N : Nat} : sT9 (fun a b d => F a b d + G a b d) N = sT9 F N + sT9 G N := by
  unfold sT9
  rw [← sD9_add]
  exact sD9_c (fun a b _ _ => sm_add N)
/-! ===== edges of triangles, counted twice ===== -/
def w9 (X Y : Nat → Int) (a b : Nat) : Int := X a * Y b - X b * Y a
def t9 (X Y : Nat → Int) (m : Nat → Nat → Int) (a b d : Nat) : Int := if tn X Y a b d = 1 then m a b * m b d * m d a else 0
theorem t9_cy {X Y : Nat → Int} {m : Nat → Nat → Int} {a b d : Nat} : t9 X Y m b d a = t9 X Y m a b d := by
  unfold t9
  rw [tn_cy (a := a) (b := b) (c := d)]
  by_cases e : tn X Y a b d = 1
  · rw [if_pos e, if_pos e]; grind
  · rw [if_neg e, if_neg e]
theorem t9_w {X Y : Nat → Int} {m : Nat → Nat → Int} {a b d : Nat} : t9 X Y m a b d = t9 X Y m a b d * w9 X Y a b + t9 X Y m a b d * w9 X Y b d + t9 X Y m a b d * w9 X Y d a := by
  have f : tn X Y a b d = w9 X Y a b + w9 X Y b d + w9 X Y d a := by unfold tn w9; grind
  unfold t9
  by_cases e : tn X Y a b d = 1
  · rw [if_pos e, ← Int.mul_add, ← Int.mul_add, ← f, e, Int.mul_one]
  · rw [if_neg e]; omega
theorem ct_9 {X Y : Nat → Int} {N : Nat} {m K : Nat → Nat → Int} (hm : ∀ a b : Nat, m a b = m b a) (hL : ∀ a b : Nat, a < N → b < N → sm (fun d => t9 X Y m a b d) N = m a b - K b a) : sD9 m N = sD9 (fun a b => (3 * w9 X Y a b + 1) * K a b) N := by
  have wn : ∀ a b : Nat, w9 X Y b a = -(w9 X Y a b) := fun a b => by unfold w9; omega
  -- all triangles
  have S1 : sT9 (fun a b d => t9 X Y m a b d) N = sD9 m N + -1 * sD9 K N := by
    rw [← sD9_T (F := K), ← sD9_mul, ← sD9_add]
    exact sD9_c (fun a b ha hb => (hL a b ha hb).trans (by omega))
  -- with weights
  have W1 : sT9 (fun a b d => t9 X Y m a b d * w9 X Y a b) N = sD9 (fun a b => w9 X Y a b * K a b) N := by
    have A1 : sT9 (fun a b d => t9 X Y m a b d * w9 X Y a b) N = sD9 (fun a b => m a b * w9 X Y a b + w9 X Y b a * K b a) N := sD9_c (fun a b ha hb => by
      show sm (fun d => t9 X Y m a b d * w9 X Y a b) N = m a b * w9 X Y a b + w9 X Y b a * K b a
      rw [sm_mr, hL a b ha hb, wn a b, Int.sub_mul, Int.neg_mul, Int.mul_comm (w9 X Y a b)]
      omega)
    have A2 : sD9 (fun a b => m a b * w9 X Y a b) N = -1 * sD9 (fun a b => m a b * w9 X Y a b) N := by
      rw [← sD9_mul, ← sD9_T]
      exact sD9_c (fun a b _ _ => by rw [hm b a, wn a b, Int.mul_neg]; omega)
    rw [A1, sD9_add, sD9_T (F := fun a b => w9 X Y a b * K a b)]
    omega
  have W2 : sT9 (fun a b d => t9 X Y m a b d * w9 X Y b d) N = sT9 (fun a b d => t9 X Y m a b d * w9 X Y a b) N := by
    rw [← sT9_cy (F := fun a b d => t9 X Y m a b d * w9 X Y a b)]
    exact sT9_c (fun a b d _ _ _ => by rw [t9_cy (a := a) (b := b) (d := d)])
  have W3 : sT9 (fun a b d => t9 X Y m a b d * w9 X Y d a) N = sT9 (fun a b d => t9 X Y m a b d * w9 X Y b d) N := by
    rw [← sT9_cy (F := fun a b d => t9 X Y m a b d * w9 X Y b d)]
    exact sT9_c (fun a b d _ _ _ => by rw [t9_cy (a := a) (b := b) (d := d)])
  have S2 : sT9 (fun a b d => t9 X Y m a b d) N = sT9 (fun a b d => t9 X Y m a b d * w9 X Y a b) N + sT9 (fun a b d => t9 X Y m a b d * w9 X Y b d) N + sT9 (fun a b d => t9 X Y m a b d * w9 X Y d a) N := by
    rw [← sT9_add, ← sT9_add]
    exact sT9_c (fun a b d _ _ _ => t9_w)
  have E : sD9 (fun a b => (3 * w9 X Y a b + 1) * K a b) N = 3 * sD9 (fun a b => w9 X Y a b * K a b) N + sD9 K N := by
    rw [← sD9_mul, ← sD9_add]
    exact sD9_c (fun a b _ _ => by rw [Int.add_mul, Int.one_mul, Int.mul_assoc])
  omega


/-! ===== the sides of a polygon, step by step ===== -/
def g9 (U V : Nat → Int) (e : Nat) : Nat := Int.gcd (df U e) (df V e)
def in9 (X Y U V : Nat → Int) (a b e t : Nat) : Prop := (X a = U e + (t : Int) * (df U e / (g9 U V e : Int)) ∧ Y a = V e + (t : Int) * (df V e / (g9 U V e : Int))) ∧ X b = U e + ((t : Int) + 1) * (df U e / (g9 U V e : Int)) ∧ Y b = V e + ((t : Int) + 1) * (df V e / (g9 U V e : Int))
def ib9 (X Y U V : Nat → Int) (a b e t : Nat) : Int := if (X a = U e + (t : Int) * (df U e / (g9 U V e : Int)) ∧ Y a = V e + (t : Int) * (df V e / (g9 U V e : Int))) ∧ X b = U e + ((t : Int) + 1) * (df U e / (g9 U V e : Int)) ∧ Y b = V e + ((t : Int) + 1) * (df V e / (g9 U V e : Int)) then 1 else 0
theorem ib_1 {X Y U V : Nat → Int} {a b e t : Nat} (h : in9 X Y U V a b e t) : ib9 X Y U V a b e t = 1 := if_pos h
theorem ib_0 {X Y U V : Nat → Int} {a b e t : Nat} (h : ¬ in9 X Y U V a b e t) : ib9 X Y U V a b e t = 0 := if_neg h
/-- how often a to b is a step along a side -/
def kk9 (X Y U V : Nat → Int) (n a b : Nat) : Int := sm (fun e => sm (fun t => ib9 X Y U V a b e t) (g9 U V e)) n
/-- a polygon: closed, each corner a strict turn to the left, no corner twice -/
def PG9 (U V : Nat → Int) (n : Nat) : Prop := (0 < n ∧ U n = U 0 ∧ V n = V 0) ∧ (∀ e : Nat, e < n → ∃ k : Nat, k < n ∧ (U (k + 1) = U e ∧ V (k + 1) = V e) ∧ 0 < cx (df U k) (df V k) (df U e) (df V e)) ∧ (∀ e : Nat, e < n → ∃ k : Nat, k < n ∧ (U k = U (e + 1) ∧ V k = V (e + 1)) ∧ 0 < cx (df U e) (df V e) (df U k) (df V k)) ∧ ∀ e k : Nat, e < n → k < n → U e = U k ∧ V e = V k → e = k
/-- all points are to the left of all sides; corners are points -/
def PI9 (X Y U V : Nat → Int) (N n : Nat) : Prop := (∀ e i : Nat, e < n → i < N → 0 ≤ cx (df U e) (df V e) (X i - U e) (Y i - V e)) ∧ ∀ e : Nat, e < n → ∃ i : Nat, i < N ∧ X i = U e ∧ Y i = V e
theorem g9_d {U V : Nat → Int} {e : Nat} : (g9 U V e : Int) * (df U e / (g9 U V e : Int)) = df U e ∧ (g9 U V e : Int) * (df V e / (g9 U V e : Int)) = df V e := ⟨Int.mul_ediv_cancel' (Int.gcd_dvd_left (df U e) (df V e)), Int.mul_ediv_cancel' (Int.gcd_dvd_right (df U e) (df V e))⟩
theorem in_g {X Y U V : Nat → Int} {a b e t : Nat} (ht : t < g9 U V e) (h : in9 X Y U V a b e t) : ((Int.gcd (X b - X a) (Y b - Y a) : Nat) : Int) = 1 := by
  obtain ⟨⟨h1, h2⟩, h3, h4⟩ := h
  obtain ⟨u, v, hz⟩ := @bz_9 (df U e) (df V e)
  obtain ⟨e1, e2⟩ := @g9_d U V e
  have hz2 : df U e * u + df V e * v = (g9 U V e : Int) := hz
  have g0 : 0 < (g9 U V e : Int) := by omega
  generalize df U e / (g9 U V e : Int) = P at *
  generalize df V e / (g9 U V e : Int) = Q at *
  generalize (g9 U V e : Int) = G at *
  have x1 : X b - X a = P := by
    have : ((t : Int) + 1) * P = (t : Int) * P + P := by grind
    omega
  have y1 : Y b - Y a = Q := by
    have : ((t : Int) + 1) * Q = (t : Int) * Q + Q := by grind
    omega
  rw [x1, y1]
  refine gc_1 (u := u) (v := v) ?_
  have f : G * (P * u + Q * v) = G * 1 := by
    have : G * (P * u + Q * v) = G * P * u + G * Q * v := by grind
    rw [this, e1, e2, hz2, Int.mul_one]
  exact Int.eq_of_mul_eq_mul_left (by omega) f
/-- all points are to the left of such a step -/
theorem in_l {X Y U V : Nat → Int} {N n a b e t i : Nat} (hI : PI9 X Y U V N n) (he : e < n) (hi : i < N) (ht : t < g9 U V e) (h : in9 X Y U V a b e t) : 0 ≤ tn X Y a b i := by
  have q := hI.1 e i he hi
  obtain ⟨⟨h1, h2⟩, h3, h4⟩ := h
  obtain ⟨e1, e2⟩ := @g9_d U V e
  have g0 : 0 < (g9 U V e : Int) := by omega
  generalize df U e / (g9 U V e : Int) = P at *
  generalize df V e / (g9 U V e : Int) = Q at *
  rw [← e1, ← e2] at q
  generalize (g9 U V e : Int) = G at *
  have f : cx (G * P) (G * Q) (X i - U e) (Y i - V e) = G * tn X Y a b i := by
    unfold cx tn
    rw [h1, h2, h3, h4]
    grind
  rw [f] at q
  apply Int.not_lt.mp
  intro w
  have := Int.mul_pos g0 (show 0 < -(tn X Y a b i) by omega)
  rw [Int.mul_neg] at this
  omega
theorem sh_9 {U V : Nat → Int} {p : Nat} {z1 z2 : Int} : cx (df U p) (df V p) (z1 - U (p + 1)) (z2 - V (p + 1)) = cx (df U p) (df V p) (z1 - U p) (z2 - V p) := by unfold cx df; grind
theorem in_u1 {X Y U V : Nat → Int} {N n a b e t k s : Nat} (hG : PG9 U V n) (hI : PI9 X Y U V N n) (he : e < n) (hk : k < n) (ht : t < g9 U V e) (hs : s < g9 U V k) (h : in9 X Y U V a b e t) (h' : in9 X Y U V a b k s) : s ≤ t := by
  obtain ⟨p, p1, ⟨p2, p3⟩, p4⟩ := hG.2.1 e he
  obtain ⟨i, i1, i2, i3⟩ := hI.2 k hk
  have q := hI.1 p i p1 i1
  rw [← sh_9, p2, p3, i2, i3] at q
  obtain ⟨⟨h1, h2⟩, h3, h4⟩ := h
  obtain ⟨⟨k1, k2⟩, k3, k4⟩ := h'
  obtain ⟨e1, e2⟩ := @g9_d U V e
  have g0 : 0 < (g9 U V e : Int) := by omega
  generalize df U k / (g9 U V k : Int) = P' at *
  generalize df V k / (g9 U V k : Int) = Q' at *
  generalize df U e / (g9 U V e : Int) = P at *
  generalize df V e / (g9 U V e : Int) = Q at *
  rw [← e1, ← e2] at p4
  generalize (g9 U V e : Int) = G at *
  generalize df U p = A at *
  generalize df V p = B at *
  have x1 : ((t : Int) + 1) * P = (t : Int) * P + P := by grind
  have y1 : ((t : Int) + 1) * Q = (t : Int) * Q + Q := by grind
  have x2 : ((s : Int) + 1) * P' = (s : Int) * P' + P' := by grind
  have y2 : ((s : Int) + 1) * Q' = (s : Int) * Q' + Q' := by grind
  have eP : P' = P := by omega
  have eQ : Q' = Q := by omega
  rw [eP] at k1
  rw [eQ] at k2
  have f1 : cx A B (G * P) (G * Q) = G * cx A B P Q := by unfold cx; grind
  have f2 : cx A B (U k - U e) (V k - V e) = ((t : Int) - s) * cx A B P Q := by
    rw [show U k - U e = (t : Int) * P - (s : Int) * P by omega, show V k - V e = (t : Int) * Q - (s : Int) * Q by omega]
    unfold cx
    grind
  rw [f1] at p4
  rw [f2] at q
  generalize cx A B P Q = C at *
  have c0 : 0 < C := by
    apply Int.not_le.mp
    intro w
    have := Int.mul_nonneg (show 0 ≤ G by omega) (show 0 ≤ -C by omega)
    rw [Int.mul_neg] at this
    omega
  apply Nat.not_lt.mp
  intro w
  have := Int.mul_pos (show 0 < -((t : Int) - s) by omega) c0
  rw [Int.neg_mul] at this
  omega
/-- no step twice -/
theorem in_u {X Y U V : Nat → Int} {N n a b e t k s : Nat} (hG : PG9 U V n) (hI : PI9 X Y U V N n) (he : e < n) (hk : k < n) (ht : t < g9 U V e) (hs : s < g9 U V k) (h : in9 X Y U V a b e t) (h' : in9 X Y U V a b k s) : e = k ∧ t = s := by
  have l1 := in_u1 hG hI he hk ht hs h h'
  have l2 := in_u1 hG hI hk he hs ht h' h
  have ts : t = s := by omega
  refine ⟨hG.2.2.2 e k he hk ?_, ts⟩
  obtain ⟨⟨h1, h2⟩, h3, h4⟩ := h
  obtain ⟨⟨k1, k2⟩, k3, k4⟩ := h'
  rw [← ts] at k1 k2 k3 k4
  generalize df U k / (g9 U V k : Int) = P' at *
  generalize df V k / (g9 U V k : Int) = Q' at *
  generalize df U e / (g9 U V e : Int) = P at *
  generalize df V e / (g9 U V e : Int) = Q at *
  have x1 : ((t : Int) + 1) * P = (t : Int) * P + P := by grind
  have y1 : ((t : Int) + 1) * Q = (t : Int) * Q + Q := by grind
  have x2 : ((t : Int) + 1) * P' = (t : Int) * P' + P' := by grind
  have y2 : ((t : Int) + 1) * Q' = (t : Int) * Q' + Q' := by grind
  have eP : P' = P := by omega
  have eQ : Q' = Q := by omega
  rw [eP] at k1
  rw [eQ] at k2
  omega
theorem kk_1 {X Y U V : Nat → Int} {N n a b e t : Nat} (hG : PG9 U V n) (hI : PI9 X Y U V N n) (he : e < n) (ht : t < g9 U V e) (h : in9 X Y U V a b e t) : kk9 X Y U V n a b = 1 := by
  have q : sm (fun t => ib9 X Y U V a b e t) (g9 U V e) = 1 := sm_at (f := fun t => ib9 X Y U V a b e t) (i := t) _ ht (ib_1 h) (fun s hs w => ib_0 (fun h' => w (in_u hG hI he he ht hs h h').2.symm))
  refine sm_at (f := fun e => sm (fun t => ib9 X Y U V a b e t) (g9 U V e)) (i := e) n he q (fun k hk w => ?_)
  exact sm_0 (fun s hs => ib_0 (fun h' => w (in_u hG hI he hk ht hs h h').1.symm))
theorem kk_0 {X Y U V : Nat → Int} {n a b : Nat} (h : ∀ e t : Nat, e < n → t < g9 U V e → ¬ in9 X Y U V a b e t) : kk9 X Y U V n a b = 0 := sm_0 (fun e he => sm_0 (fun t ht => ib_0 (h e t he ht)))
/-! ===== an edge with no point to its right is a step along a side ===== -/
set_option maxHeartbeats 4000000 in
theorem bd_id {g1 g2 p1 p2 e1 e2 z1 z2 b1 b2 dx dy : Int} : cx (p1 - g1) (p2 - g2) (e1 - p1) (e2 - p2) * (cx dx dy (z1 - b1) (z2 - b2) - cx dx dy (p1 - b1) (p2 - b2)) = cx (p1 - g1) (p2 - g2) (z1 - p1) (z2 - p2) * (cx dx dy (e1 - b1) (e2 - b2) - cx dx dy (p1 - b1) (p2 - b2)) + cx (e1 - p1) (e2 - p2) (z1 - p1) (z2 - p2) * (cx dx dy (g1 - b1) (g2 - b2) - cx dx dy (p1 - b1) (p2 - b2)) := by unfold cx; grind
theorem bd_z {D F A1 A2 F1 F2 : Int} (e : D * (0 - F) = A1 * (F1 - F) + A2 * (F2 - F)) (hD : 0 < D) (h0 : 0 ≤ F) (a1 : 0 ≤ A1) (a2 : 0 ≤ A2) (f1 : F ≤ F1) (f2 : F ≤ F2) : F = 0 ∧ (0 < F1 → A1 = 0) ∧ (0 < F2 → A2 = 0) := by
  have m1 := Int.mul_nonneg a1 (show 0 ≤ F1 - F by omega)
  have m2 := Int.mul_nonneg a2 (show 0 ≤ F2 - F by omega)
  have F0 : F = 0 := by
    by_cases w : 0 < F
    · have := Int.mul_pos hD w
      have f : D * (0 - F) = -(D * F) := by grind
      omega
    · omega
  subst F0
  rw [Int.sub_self, Int.mul_zero] at e
  rw [Int.sub_zero, Int.sub_zero] at e
  rw [Int.sub_zero] at m1 m2
  refine ⟨rfl, fun w => ?_, fun w => ?_⟩
  · by_cases z : 0 < A1
    · have := Int.mul_pos z w; omega
    · omega
  · by_cases z : 0 < A2
    · have := Int.mul_pos z w; omega
    · omega
theorem bd_s {v1 v2 w1 w2 z1 z2 : Int} (hD : 0 < cx v1 v2 w1 w2) (h1 : cx v1 v2 z1 z2 = 0) (h2 : cx w1 w2 z1 z2 = 0) : z1 = 0 ∧ z2 = 0 := by
  have e1 : cx v1 v2 w1 w2 * z1 = cx v1 v2 z1 z2 * w1 - cx w1 w2 z1 z2 * v1 := by unfold cx; grind
  have e2 : cx v1 v2 w1 w2 * z2 = cx v1 v2 z1 z2 * w2 - cx w1 w2 z1 z2 * v2 := by unfold cx; grind
  rw [h1, h2, Int.zero_mul, Int.zero_mul, Int.sub_self] at e1
  rw [h1, h2, Int.zero_mul, Int.zero_mul, Int.sub_self] at e2
  have n0 : cx v1 v2 w1 w2 ≠ 0 := by omega
  rcases Int.mul_eq_zero.mp e1 with q | q
  · exact absurd q n0
  · rcases Int.mul_eq_zero.mp e2 with q2 | q2
    · exact absurd q2 n0
    · exact ⟨q, q2⟩
set_option maxHeartbeats 4000000 in
/-- some side lies along the edge -/
theorem bd_1 {X Y U V : Nat → Int} {N n a b : Nat} (hG : PG9 U V n) (hI : PI9 X Y U V N n) (ha : a < N) (hb : b < N) (hg : ((Int.gcd (X b - X a) (Y b - Y a) : Nat) : Int) = 1) (hF : ∀ i : Nat, i < N → 0 ≤ tn X Y a b i) : ∃ e : Nat, e < n ∧ cx (X b - X a) (Y b - Y a) (U e - X a) (V e - Y a) = 0 ∧ cx (X b - X a) (Y b - Y a) (U (e + 1) - X a) (V (e + 1) - Y a) = 0 := by
  obtain ⟨⟨g1, g2, g3⟩, g4, g5, g6⟩ := hG
  obtain ⟨hI1, hI2⟩ := hI
  have nn : ∀ e : Nat, e < n → 0 ≤ cx (X b - X a) (Y b - Y a) (U e - X a) (V e - Y a) := fun e he => by
    obtain ⟨i, i1, i2, i3⟩ := hI2 e he
    have := hF i i1
    rw [← i2, ← i3]
    exact this
  obtain ⟨k, ⟨k1, _⟩, k2⟩ := fin_min (fun _ => True) (fun e => cx (X b - X a) (Y b - Y a) (U e - X a) (V e - Y a)) n ⟨0, g1, trivial⟩
  have mn : ∀ e : Nat, e < n → cx (X b - X a) (Y b - Y a) (U k - X a) (V k - Y a) ≤ cx (X b - X a) (Y b - Y a) (U e - X a) (V e - Y a) := fun e he => k2 e he trivial
  have mn1 : cx (X b - X a) (Y b - Y a) (U k - X a) (V k - Y a) ≤ cx (X b - X a) (Y b - Y a) (U (k + 1) - X a) (V (k + 1) - Y a) := by
    by_cases w : k + 1 < n
    · exact mn (k + 1) w
    · rw [show k + 1 = n by omega, g2, g3]
      exact mn 0 g1
  obtain ⟨p, p1, ⟨p2, p3⟩, p4⟩ := g4 k k1
  have D0 : 0 < cx (U k - U p) (V k - V p) (U (k + 1) - U k) (V (k + 1) - V k) := by
    have q := p4
    unfold df at q
    rw [p2, p3] at q
    exact q
  have A1 : ∀ i : Nat, i < N → 0 ≤ cx (U k - U p) (V k - V p) (X i - U k) (Y i - V k) := fun i hi => by
    have q := hI1 p i p1 hi
    rw [← sh_9] at q
    unfold df at q
    rw [p2, p3] at q
    exact q
  have A2 : ∀ i : Nat, i < N → 0 ≤ cx (U (k + 1) - U k) (V (k + 1) - V k) (X i - U k) (Y i - V k) := fun i hi => hI1 k i k1 hi
  have za : cx (X b - X a) (Y b - Y a) (X a - X a) (Y a - Y a) = 0 := by unfold cx; grind
  have zb : cx (X b - X a) (Y b - Y a) (X b - X a) (Y b - Y a) = 0 := by unfold cx; grind
  have ia := @bd_id (U p) (V p) (U k) (V k) (U (k + 1)) (V (k + 1)) (X a) (Y a) (X a) (Y a) (X b - X a) (Y b - Y a)
  have ib := @bd_id (U p) (V p) (U k) (V k) (U (k + 1)) (V (k + 1)) (X b) (Y b) (X a) (Y a) (X b - X a) (Y b - Y a)
  rw [za] at ia
  rw [zb] at ib
  obtain ⟨r0, r1, r2⟩ := bd_z ia D0 (nn k k1) (A1 a ha) (A2 a ha) mn1 (mn p p1)
  obtain ⟨_, s1, s2⟩ := bd_z ib D0 (nn k k1) (A1 b hb) (A2 b hb) mn1 (mn p p1)
  by_cases c1 : 0 < cx (X b - X a) (Y b - Y a) (U (k + 1) - X a) (V (k + 1) - Y a)
  · by_cases c2 : 0 < cx (X b - X a) (Y b - Y a) (U p - X a) (V p - Y a)
    · exfalso
      have qa := bd_s D0 (r1 c1) (r2 c2)
      have qb := bd_s D0 (s1 c1) (s2 c2)
      rw [show X b - X a = 0 by omega, show Y b - Y a = 0 by omega] at hg
      exact absurd hg (by first | decide | simp)
    · have n2 := nn p p1
      exact ⟨p, p1, by omega, by rw [p2, p3]; exact r0⟩
  · exact ⟨k, k1, r0, by omega⟩
set_option maxHeartbeats 4000000 in
theorem bd_2 {X Y U V : Nat → Int} {N n a b e : Nat} (hG : PG9 U V n) (hI : PI9 X Y U V N n) (ha : a < N) (hb : b < N) (hg : ((Int.gcd (X b - X a) (Y b - Y a) : Nat) : Int) = 1) (hF : ∀ i : Nat, i < N → 0 ≤ tn X Y a b i) (he : e < n) (h0 : cx (X b - X a) (Y b - Y a) (U e - X a) (V e - Y a) = 0) (h1 : cx (X b - X a) (Y b - Y a) (U (e + 1) - X a) (V (e + 1) - Y a) = 0) : ∃ t : Nat, t < g9 U V e ∧ in9 X Y U V a b e t := by
  obtain ⟨p, p1, ⟨p2, p3⟩, p4⟩ := hG.2.1 e he
  obtain ⟨q, q1, ⟨q2, q3⟩, q4⟩ := hG.2.2.1 e he
  obtain ⟨j, j1, j2, j3⟩ := hI.2 p p1
  have hp : 0 ≤ cx (X b - X a) (Y b - Y a) (U p - X a) (V p - Y a) := by
    rw [← j2, ← j3]
    exact hF j j1
  have hpa := hI.1 p a p1 ha
  have hqb := hI.1 q b q1 hb
  rw [← sh_9, p2, p3] at hpa
  rw [q2, q3] at hqb
  obtain ⟨s, s1, s2⟩ := prm (x := U e - X a) (y := V e - Y a) hg (by unfold cx at h0; omega)
  obtain ⟨l, l1, l2⟩ := prm (x := df U e) (y := df V e) hg (by
    have f : cx (X b - X a) (Y b - Y a) (U (e + 1) - X a) (V (e + 1) - Y a) - cx (X b - X a) (Y b - Y a) (U e - X a) (V e - Y a) = (X b - X a) * df V e - (Y b - Y a) * df U e := by unfold cx df; grind
    omega)
  obtain ⟨u, v, hz⟩ := @bz_9 (X b - X a) (Y b - Y a)
  rw [hg] at hz
  have dU : U (e + 1) = U e + df U e := by unfold df; omega
  have dV : V (e + 1) = V e + df V e := by unfold df; omega
  have pU : U e = U p + df U p := by rw [← p2]; unfold df; omega
  have pV : V e = V p + df V p := by rw [← p3]; unfold df; omega
  have dx : X b = X a + (X b - X a) := by omega
  have dy : Y b = Y a + (Y b - Y a) := by omega
  -- the corner ahead
  have P1 : cx (X b - X a) (Y b - Y a) (U p - X a) (V p - Y a) = cx (df U p) (df V p) (X b - X a) (Y b - Y a) := by
    have f : cx (X b - X a) (Y b - Y a) (U p - X a) (V p - Y a) = cx (X b - X a) (Y b - Y a) (U e - X a) (V e - Y a) + cx (df U p) (df V p) (X b - X a) (Y b - Y a) := by
      rw [pU, pV]
      unfold cx
      grind
    omega
  have P2 : cx (df U p) (df V p) (df U e) (df V e) = l * cx (df U p) (df V p) (X b - X a) (Y b - Y a) := by
    rw [l1, l2]
    unfold cx
    grind
  have Q2 : cx (df U e) (df V e) (df U q) (df V q) = l * cx (X b - X a) (Y b - Y a) (df U q) (df V q) := by
    rw [l1, l2]
    unfold cx
    grind
  have P3 : cx (df U p) (df V p) (X a - U e) (Y a - V e) = -s * cx (df U p) (df V p) (X b - X a) (Y b - Y a) := by
    rw [show X a - U e = -(s * (X b - X a)) by omega, show Y a - V e = -(s * (Y b - Y a)) by omega]
    unfold cx
    grind
  have Q3 : cx (df U q) (df V q) (X b - U (e + 1)) (Y b - V (e + 1)) = (l + s - 1) * cx (X b - X a) (Y b - Y a) (df U q) (df V q) := by
    rw [show X b - U (e + 1) = (X b - X a) - s * (X b - X a) - l * (X b - X a) by omega, show Y b - V (e + 1) = (Y b - Y a) - s * (Y b - Y a) - l * (Y b - Y a) by omega]
    unfold cx
    grind
  rw [P2] at p4
  rw [Q2] at q4
  rw [P1] at hp
  rw [P3] at hpa
  rw [Q3] at hqb
  have lP : 0 < l ∧ 0 < cx (df U p) (df V p) (X b - X a) (Y b - Y a) := by
    by_cases w : 0 < l
    · refine ⟨w, ?_⟩
      apply Int.not_le.mp
      intro w2
      have := Int.mul_nonneg (show 0 ≤ l by omega) (show 0 ≤ -(cx (df U p) (df V p) (X b - X a) (Y b - Y a)) by omega)
      rw [Int.mul_neg] at this
      omega
    · exfalso
      have := Int.mul_nonneg (show 0 ≤ -l by omega) hp
      rw [Int.neg_mul] at this
      omega
  have Q0 : 0 < cx (X b - X a) (Y b - Y a) (df U q) (df V q) := by
    apply Int.not_le.mp
    intro w2
    have := Int.mul_nonneg (show 0 ≤ l by omega) (show 0 ≤ -(cx (X b - X a) (Y b - Y a) (df U q) (df V q)) by omega)
    rw [Int.mul_neg] at this
    omega
  have s0 : s ≤ 0 := by
    apply Int.not_lt.mp
    intro w
    have := Int.mul_pos w lP.2
    rw [Int.neg_mul] at hpa
    omega
  have sl : 1 - s ≤ l := by
    apply Int.not_lt.mp
    intro w
    have := Int.mul_pos (show 0 < -(l + s - 1) by omega) Q0
    rw [Int.neg_mul] at this
    omega
  have gl : (g9 U V e : Int) = l := by
    have d1 : l ∣ (g9 U V e : Int) := Int.dvd_coe_gcd ⟨X b - X a, l1⟩ ⟨Y b - Y a, l2⟩
    have d2 : (g9 U V e : Int) ∣ l := by
      have f : df U e * u + df V e * v = l := by
        have f2 : l * (X b - X a) * u + l * (Y b - Y a) * v = l * ((X b - X a) * u + (Y b - Y a) * v) := by grind
        rw [l1, l2, f2, hz, Int.mul_one]
      rw [← f]
      exact Int.dvd_add (Int.dvd_trans (Int.gcd_dvd_left (df U e) (df V e)) ⟨u, rfl⟩) (Int.dvd_trans (Int.gcd_dvd_right (df U e) (df V e)) ⟨v, rfl⟩)
    have g0 : 0 < (g9 U V e : Int) := by
      obtain ⟨k, hk⟩ := d2
      by_cases w : (g9 U V e : Int) = 0
      · rw [w, Int.zero_mul] at hk; omega
      · omega
    have a1 := Int.le_of_dvd g0 d1
    have a2 := Int.le_of_dvd lP.1 d2
    omega
  have sx : df U e / (g9 U V e : Int) = X b - X a := by
    rw [gl, l1]
    exact Int.mul_ediv_cancel_left _ (by omega)
  have sy : df V e / (g9 U V e : Int) = Y b - Y a := by
    rw [gl, l2]
    exact Int.mul_ediv_cancel_left _ (by omega)
  refine ⟨(-s).toNat, by omega, ?_⟩
  unfold in9
  rw [sx, sy, show (((-s).toNat : Nat) : Int) = -s by omega]
  have m1 : -s * (X b - X a) = -(s * (X b - X a)) := by grind
  have m2 : -s * (Y b - Y a) = -(s * (Y b - Y a)) := by grind
  have m3 : (-s + 1) * (X b - X a) = -(s * (X b - X a)) + (X b - X a) := by grind
  have m4 : (-s + 1) * (Y b - Y a) = -(s * (Y b - Y a)) + (Y b - Y a) := by grind
  exact ⟨⟨by omega, by omega⟩, by omega, by omega⟩


/-! ===== all steps of all sides, weighed ===== -/
theorem pt_9 {X Y U V : Nat → Int} {N n e t : Nat} (hC : CL9 X Y N) (hG : PG9 U V n) (hI : PI9 X Y U V N n) (he : e < n) (h0 : 0 < g9 U V e) (ht : t ≤ g9 U V e) : ∃ i : Nat, i < N ∧ X i = U e + (t : Int) * (df U e / (g9 U V e : Int)) ∧ Y i = V e + (t : Int) * (df V e / (g9 U V e : Int)) := by
  obtain ⟨i, i1, i2, i3⟩ := hI.2 e he
  obtain ⟨k, k1, ⟨k2, k3⟩, _⟩ := hG.2.2.1 e he
  obtain ⟨j, j1, j2, j3⟩ := hI.2 k k1
  obtain ⟨e1, e2⟩ := @g9_d U V e
  have dU : U (e + 1) = U e + df U e := by unfold df; omega
  have dV : V (e + 1) = V e + df V e := by unfold df; omega
  have gg : 0 < (g9 U V e : Int) ∧ (t : Int) ≤ (g9 U V e : Int) := by omega
  generalize df U e / (g9 U V e : Int) = P at *
  generalize df V e / (g9 U V e : Int) = Q at *
  generalize (g9 U V e : Int) = G at *
  refine hC i j i (G - t) t 0 (U e + (t : Int) * P) (V e + (t : Int) * Q) ⟨i1, j1, i1⟩ ⟨by omega, by omega, by omega⟩ (by omega) ?_ ?_
  · rw [i2, j2, k2, dU, ← e1]
    grind
  · rw [i3, j3, k3, dV, ← e2]
    grind
theorem ks_9 {X Y U V : Nat → Int} {N n : Nat} (hC : CL9 X Y N) (hG : PG9 U V n) (hI : PI9 X Y U V N n) (hD : ∀ i j : Nat, i < N → j < N → X i = X j ∧ Y i = Y j → i = j) : sD9 (fun a b => (3 * w9 X Y a b + 1) * kk9 X Y U V n a b) N = sm (fun e => 3 * (U e * V (e + 1) - U (e + 1) * V e) + (g9 U V e : Int)) n := by
  have e1 : sD9 (fun a b => (3 * w9 X Y a b + 1) * kk9 X Y U V n a b) N = sD9 (fun a b => sm (fun e => (3 * w9 X Y a b + 1) * sm (fun t => ib9 X Y U V a b e t) (g9 U V e)) n) N := sD9_c (fun a b _ _ => (sm_mul n).symm)
  rw [e1, sD9_sm]
  refine sm_c (fun e he => ?_)
  have e2 : sD9 (fun a b => (3 * w9 X Y a b + 1) * sm (fun t => ib9 X Y U V a b e t) (g9 U V e)) N = sm (fun t => sD9 (fun a b => (3 * w9 X Y a b + 1) * ib9 X Y U V a b e t) N) (g9 U V e) := (sD9_c (fun a b _ _ => (sm_mul (g9 U V e)).symm)).trans sD9_sm
  have e3 : ∀ t : Nat, t < g9 U V e → sD9 (fun a b => (3 * w9 X Y a b + 1) * ib9 X Y U V a b e t) N = 3 * (U e * (df V e / (g9 U V e : Int)) - V e * (df U e / (g9 U V e : Int))) + 1 := fun t ht => by
    obtain ⟨i, i1, i2, i3⟩ := pt_9 (t := t) hC hG hI he (by omega) (by omega)
    obtain ⟨j, j1, j2, j3⟩ := pt_9 (t := t + 1) hC hG hI he (by omega) (by omega)
    rw [show ((t + 1 : Nat) : Int) = (t : Int) + 1 by omega] at j2 j3
    refine sD9_at i1 j1 ?_ (fun a b ha hb w => ?_)
    · show (3 * w9 X Y i j + 1) * ib9 X Y U V i j e t = 3 * (U e * (df V e / (g9 U V e : Int)) - V e * (df U e / (g9 U V e : Int))) + 1
      rw [ib_1 (X := X) (Y := Y) (U := U) (V := V) (a := i) (b := j) (e := e) (t := t) ⟨⟨i2, i3⟩, j2, j3⟩, Int.mul_one]
      generalize df U e / (g9 U V e : Int) = P at *
      generalize df V e / (g9 U V e : Int) = Q at *
      unfold w9
      rw [i2, i3, j2, j3]
      grind
    · show (3 * w9 X Y a b + 1) * ib9 X Y U V a b e t = 0
      have z : ib9 X Y U V a b e t = 0 := ib_0 (fun h => w ⟨hD a i ha i1 ⟨by rw [i2]; exact h.1.1, by rw [i3]; exact h.1.2⟩, hD b j hb j1 ⟨by rw [j2]; exact h.2.1, by rw [j3]; exact h.2.2⟩⟩)
      rw [z, Int.mul_zero]
  rw [e2, sm_c (g := fun _ => 3 * (U e * (df V e / (g9 U V e : Int)) - V e * (df U e / (g9 U V e : Int))) + 1) e3, sm_k]
  obtain ⟨d1, d2⟩ := @g9_d U V e
  have dU : U (e + 1) = U e + df U e := by unfold df; omega
  have dV : V (e + 1) = V e + df V e := by unfold df; omega
  rw [dU, dV]
  generalize df U e / (g9 U V e : Int) = P at *
  generalize df V e / (g9 U V e : Int) = Q at *
  rw [← d1, ← d2]
  generalize (g9 U V e : Int) = G at *
  grind
/-! ===== each edge of a full set has one triangle on its left, or is a step backwards along a side ===== -/
theorem hL_9 {X Y U V : Nat → Int} {N n : Nat} {M : Nat → Nat → Prop} {m : Nat → Nat → Int} (hC : CL9 X Y N) (hR : ∀ p q : Nat, M p q → p < N ∧ q < N) (hS : ∀ p q : Nat, M p q → M q p) (hN : ∀ p q r s : Nat, M p q → M r s → ¬ XC9 X Y p q r s) (hF : ∀ p q : Nat, p < N → q < N → ((Int.gcd (X q - X p) (Y q - Y p) : Nat) : Int) = 1 → (∀ r s : Nat, M r s → ¬ XC9 X Y p q r s) → M p q) (hM : ∀ p q : Nat, M p q → ((Int.gcd (X q - X p) (Y q - Y p) : Nat) : Int) = 1) (hG : PG9 U V n) (hI : PI9 X Y U V N n) (hD : ∀ i j : Nat, i < N → j < N → X i = X j ∧ Y i = Y j → i = j) (m1 : ∀ a b : Nat, M a b → m a b = 1) (m0 : ∀ a b : Nat, ¬ M a b → m a b = 0) {a b : Nat} (ha : a < N) (hb : b < N) : sm (fun d => t9 X Y m a b d) N = m a b - kk9 X Y U V n b a := by
  have ng : ∀ i : Nat, tn X Y b a i = -(tn X Y a b i) := fun i => tn_ba
  by_cases h : M a b
  · rw [m1 a b h]
    by_cases q : ∀ i : Nat, i < N → tn X Y a b i ≤ 0
    · have hF2 : ∀ i : Nat, i < N → 0 ≤ tn X Y b a i := fun i hi => by
        have := q i hi
        rw [ng i]
        omega
      have hg := hM b a (hS a b h)
      obtain ⟨e, e1, e2, e3⟩ := bd_1 hG hI hb ha hg hF2
      obtain ⟨t, t1, t2⟩ := bd_2 hG hI hb ha hg hF2 e1 e2 e3
      rw [kk_1 hG hI e1 t1 t2]
      refine (sm_0 (fun d hd => ?_)).trans (by omega)
      have := q d hd
      exact if_neg (by omega)
    · obtain ⟨q0, hq0, h0⟩ : ∃ q0 : Nat, q0 < N ∧ 0 < tn X Y a b q0 := by
        apply Classical.byContradiction
        intro z
        exact q (fun i hi => Int.not_lt.mp (fun w => z ⟨i, hi, w⟩))
      obtain ⟨c, c1, c2, c3, c4⟩ := TR_ex hC hR hS hN hF h (hM a b h) hq0 h0
      rw [kk_0 (X := X) (Y := Y) (U := U) (V := V) (n := n) (a := b) (b := a) (fun e t he ht w => by
        have q1 := in_l hI he hq0 ht w
        rw [ng q0] at q1
        omega)]
      refine (sm_at (f := fun d => t9 X Y m a b d) (i := c) (v := 1) N c1 ?_ (fun j hj hn => ?_)).trans (by omega)
      · have z : m a b * m b c * m c a = 1 * 1 * 1 := by rw [m1 a b h, m1 b c c4, m1 c a (hS a c c3)]
        show (if tn X Y a b c = 1 then m a b * m b c * m c a else 0) = 1
        exact (if_pos c2).trans (z.trans (by omega))
      · show (if tn X Y a b j = 1 then m a b * m b j * m j a else 0) = 0
        by_cases w : tn X Y a b j = 1
        · rw [if_pos w]
          by_cases w1 : M b j
          · by_cases w2 : M j a
            · exact absurd (hD j c hj c1 (tri_u c2 w (hN a j b c (hS j a w2) c4) (hN a c b j c3 w1))) hn
            · rw [m0 j a w2, Int.mul_zero]
          · rw [m0 b j w1, Int.mul_zero, Int.zero_mul]
        · rw [if_neg w]
  · rw [m0 a b h, kk_0 (X := X) (Y := Y) (U := U) (V := V) (n := n) (a := b) (b := a) (fun e t he ht w => by
      refine h (hS b a (hF b a hb ha (in_g ht w) (fun r s k x => ?_)))
      have x1 := x.1
      have l1 := in_l hI he (hR r s k).1 ht w
      have l2 := in_l hI he (hR r s k).2 ht w
      have := Int.mul_nonneg l1 l2
      omega)]
    refine (sm_0 (fun d _ => ?_)).trans (by omega)
    show (if tn X Y a b d = 1 then m a b * m b d * m d a else 0) = 0
    by_cases w : tn X Y a b d = 1
    · rw [if_pos w, m0 a b h, Int.zero_mul, Int.zero_mul]
    · rw [if_neg w]
/-! ===== how many segments ===== -/
def nf9 (f : Nat → Bool) (c : Nat) : Int := sm (fun k => if f k = true then 1 else 0) c
def mB9 (A Bb : Nat → Int) (f : Nat → Bool) (c a b : Nat) : Int := sm (fun k => if f k = true ∧ A k = (a : Int) ∧ Bb k = (b : Int) then 1 else 0) c
def mm9 (A Bb : Nat → Int) (f : Nat → Bool) (c a b : Nat) : Int := mB9 A Bb f c a b + mB9 A Bb f c b a
theorem mB_1 {P : Int → Int → Prop} {A Bb : Nat → Int} {f : Nat → Bool} {c k a b : Nat} {m : Int} (hO : OL P m A Bb) (hc : (c : Int) ≤ m) (hk : k < c) (fk : f k = true) (e : A k = (a : Int) ∧ Bb k = (b : Int)) : mB9 A Bb f c a b = 1 := by
  refine sm_at (f := fun k => if f k = true ∧ A k = (a : Int) ∧ Bb k = (b : Int) then (1 : Int) else 0) (i := k) c hk (if_pos ⟨fk, e⟩) (fun j hj hn => if_neg (fun w => ?_))
  exact hn (sg_u hO (by omega) (by omega) ⟨by rw [w.2.1, e.1], by rw [w.2.2, e.2]⟩)
theorem mB_0 {A Bb : Nat → Int} {f : Nat → Bool} {c a b : Nat} (h : ∀ k : Nat, k < c → f k = true → ¬ (A k = (a : Int) ∧ Bb k = (b : Int))) : mB9 A Bb f c a b = 0 := sm_0 (fun k hk => if_neg (fun w => h k hk w.1 w.2))
theorem mm_1 {P : Int → Int → Prop} {A Bb : Nat → Int} {f : Nat → Bool} {c a b : Nat} {m : Int} (hO : OL P m A Bb) (hc : (c : Int) ≤ m) (hl : ∀ i : Nat, i < c → A i < Bb i) (h : SM9 A Bb c f a b) : mm9 A Bb f c a b = 1 := by
  obtain ⟨k, k1, k2, k3⟩ := h
  have l := hl k k1
  unfold mm9
  rcases k3 with ⟨e1, e2⟩ | ⟨e1, e2⟩
  · rw [mB_1 hO hc k1 k2 ⟨e1, e2⟩, mB_0 (A := A) (Bb := Bb) (f := f) (c := c) (a := b) (b := a) (fun j hj _ w => by have := hl j hj; omega)]
    omega
  · rw [mB_1 (a := b) (b := a) hO hc k1 k2 ⟨e1, e2⟩, mB_0 (A := A) (Bb := Bb) (f := f) (c := c) (a := a) (b := b) (fun j hj _ w => by have := hl j hj; omega)]
    omega
theorem mm_0 {A Bb : Nat → Int} {f : Nat → Bool} {c a b : Nat} (h : ¬ SM9 A Bb c f a b) : mm9 A Bb f c a b = 0 := by
  unfold mm9
  rw [mB_0 (A := A) (Bb := Bb) (f := f) (c := c) (a := a) (b := b) (fun k hk fk w => h ⟨k, hk, fk, Or.inl w⟩), mB_0 (A := A) (Bb := Bb) (f := f) (c := c) (a := b) (b := a) (fun k hk fk w => h ⟨k, hk, fk, Or.inr w⟩)]
  omega
theorem mm_s {A Bb : Nat → Int} {f : Nat → Bool} {c N : Nat} (hr : ∀ k : Nat, k < c → 0 ≤ A k ∧ A k < (N : Int) ∧ 0 ≤ Bb k ∧ Bb k < (N : Int)) : sD9 (mm9 A Bb f c) N = 2 * nf9 f c := by
  have e1 : sD9 (mB9 A Bb f c) N = nf9 f c := by
    have e2 : sD9 (mB9 A Bb f c) N = sm (fun k => sD9 (fun a b => if f k = true ∧ A k = (a : Int) ∧ Bb k = (b : Int) then (1 : Int) else 0) N) c := sD9_sm (G := fun k a b => if f k = true ∧ A k = (a : Int) ∧ Bb k = (b : Int) then (1 : Int) else 0)
    rw [e2]
    refine sm_c (fun k hk => ?_)
    have r := hr k hk
    show sD9 (fun a b => if f k = true ∧ A k = (a : Int) ∧ Bb k = (b : Int) then (1 : Int) else 0) N = (if f k = true then 1 else 0)
    by_cases w : f k = true
    · rw [if_pos w]
      refine sD9_at (a := (A k).toNat) (b := (Bb k).toNat) (by omega) (by omega) (if_pos ⟨w, by omega, by omega⟩) (fun i j hi hj z => if_neg (fun q => z ?_))
      have q2 := q.2
      exact ⟨by omega, by omega⟩
    · rw [if_neg w]
      exact sD9_0 (fun i j _ _ => if_neg (fun q => w q.1))
  have e3 : sD9 (mm9 A Bb f c) N = sD9 (mB9 A Bb f c) N + sD9 (fun a b => mB9 A Bb f c b a) N := sD9_add
  rw [e3, sD9_T (F := mB9 A Bb f c), e1]
  omega
/-- the segments of a full set, counted -/
theorem CT_9 {X Y U V A Bb : Nat → Int} {n m : Int} {f : Nat → Bool} {l : Nat} (hs : os_s X Y n) (hO : OL (SGP X Y n) m A Bb) (hf : FC9 X Y A Bb m.toNat f) (hC : CL9 X Y n.toNat) (hG : PG9 U V l) (hI : PI9 X Y U V n.toNat l) : 2 * nf9 f m.toNat = sm (fun e => 3 * (U e * V (e + 1) - U (e + 1) * V e) + (g9 U V e : Int)) l := by
  have m0 := hO.1
  have hx := FC_NX hf
  have gk : ∀ k : Nat, k < m.toNat → SGP X Y n (A k) (Bb k) := fun k hk => OL_in hO (by omega)
  have hD : ∀ i j : Nat, i < n.toNat → j < n.toNat → X i = X j ∧ Y i = Y j → i = j := fun i j hi hj e => os_u hs (by omega) (by omega) e
  have hR : ∀ p q : Nat, SM9 A Bb m.toNat f p q → p < n.toNat ∧ q < n.toNat := fun p q h => by
    obtain ⟨k, k1, k2, k3⟩ := h
    have g := (gk k k1).1
    rcases k3 with ⟨e1, e2⟩ | ⟨e1, e2⟩ <;> omega
  have hM : ∀ p q : Nat, SM9 A Bb m.toNat f p q → ((Int.gcd (X q - X p) (Y q - Y p) : Nat) : Int) = 1 := fun p q h => by
    obtain ⟨k, k1, k2, k3⟩ := h
    have g := (gk k k1).2
    rcases k3 with ⟨e1, e2⟩ | ⟨e1, e2⟩
    · rw [e1, e2, Int.toNat_natCast, Int.toNat_natCast] at g
      exact g
    · rw [e1, e2, Int.toNat_natCast, Int.toNat_natCast] at g
      rw [show X q - X p = -(X p - X q) by omega, show Y q - Y p = -(Y p - Y q) by omega, gcd_sw]
      exact g
  have key : ∀ p q : Nat, p < q → q < n.toNat → ((Int.gcd (X q - X p) (Y q - Y p) : Nat) : Int) = 1 → (∀ r s : Nat, SM9 A Bb m.toNat f r s → ¬ XC9 X Y p q r s) → SM9 A Bb m.toNat f p q := fun p q hpq hq hg hx => by
    have sg : SGP X Y n (p : Int) (q : Int) := ⟨⟨by omega, by omega, by omega⟩, by rw [Int.toNat_natCast, Int.toNat_natCast]; exact hg⟩
    obtain ⟨k, k1, k2, k3⟩ := (hO.2.2 _ _).mpr sg
    refine ⟨k, by omega, ?_, Or.inl ⟨k2.symm, k3.symm⟩⟩
    refine (hf k (by omega)).mpr (fun i hi fi w => ?_)
    have gi := (gk i (by omega)).1
    refine hx (A i).toNat (Bb i).toNat ⟨i, by omega, fi, Or.inl ⟨by omega, by omega⟩⟩ ?_
    unfold XS9 at w
    rw [← k2, ← k3, Int.toNat_natCast, Int.toNat_natCast] at w
    exact w
  have hF : ∀ p q : Nat, p < n.toNat → q < n.toNat → ((Int.gcd (X q - X p) (Y q - Y p) : Nat) : Int) = 1 → (∀ r s : Nat, SM9 A Bb m.toNat f r s → ¬ XC9 X Y p q r s) → SM9 A Bb m.toNat f p q := fun p q hp hq hg hx => by
    have ne : p ≠ q := fun e => by
      rw [e, Int.sub_self, Int.sub_self] at hg
      exact absurd hg (by first | decide | simp)
    rcases Nat.lt_or_gt_of_ne ne with w | w
    · exact key p q w hq hg hx
    · refine SM_s (key q p w hp ?_ (fun r s k x => hx r s k (XC_f x)))
      rw [show X p - X q = -(X q - X p) by omega, show Y p - Y q = -(Y q - Y p) by omega, gcd_sw]
      exact hg
  have hl : ∀ i : Nat, i < m.toNat → A i < Bb i := fun i hi => by have := (gk i hi).1; omega
  have mm : ((m.toNat : Nat) : Int) ≤ m := by omega
  have e1 := ct_9 (X := X) (Y := Y) (N := n.toNat) (m := mm9 A Bb f m.toNat) (K := kk9 X Y U V l) (fun a b => by unfold mm9; omega) (fun a b ha hb => hL_9 hC hR (fun p q => SM_s) (fun p q r s => SM_x hx) hF hM hG hI hD (fun a b h => mm_1 hO mm hl h) (fun a b h => mm_0 h) ha hb)
  rw [ks_9 hC hG hI hD, mm_s (A := A) (Bb := Bb) (f := f) (c := m.toNat) (N := n.toNat) (fun k hk => by have := (gk k hk).1; omega)] at e1
  exact e1


/-! ===== a hull's corners: strict turns ===== -/
theorem sd_i {a1 a2 c1 c2 P Q : Int} (e1 : a1 * P = -(c1 * Q)) (e2 : a2 * P = -(c2 * Q)) (ec : a1 * c2 = a2 * c1) (hP : 0 ≤ P) (hQ : 0 ≤ Q) (ha : lxp a1 a2) (hc : lxp c1 c2) : P = 0 ∧ Q = 0 := by
  unfold lxp at ha hc
  have nz : ∀ x : Int, 0 < x → x * Q = 0 → Q = 0 := fun x hx e => by
    rcases Int.mul_eq_zero.mp e with q | q
    · omega
    · exact q
  have pz : ∀ x y : Int, 0 < x → 0 ≤ y → x * P = -(y * Q) → P = 0 := fun x y hx hy e => by
    have m1 := Int.mul_nonneg hy hQ
    by_cases v : 0 < P
    · have := Int.mul_pos hx v
      omega
    · omega
  by_cases w : 0 < a1
  · have P0 := pz a1 c1 w (by omega) e1
    refine ⟨P0, ?_⟩
    rw [P0, Int.mul_zero] at e1 e2
    by_cases v : 0 < c1
    · exact nz c1 v (by omega)
    · exact nz c2 (by omega) (by omega)
  · have a0 : a1 = 0 := by omega
    rw [a0, Int.zero_mul] at ec
    have c0 : c1 = 0 := by
      rcases Int.mul_eq_zero.mp ec.symm with q | q
      · omega
      · exact q
    have P0 := pz a2 c2 (by omega) (by omega) e2
    refine ⟨P0, ?_⟩
    rw [P0, Int.mul_zero] at e2
    exact nz c2 (by omega) (by omega)
set_option maxHeartbeats 4000000 in
theorem HS_sd {S : Int → Int → Prop} {n : Int} {X Y : Nat → Int} (h : HS S n X Y) (hn : 2 ≤ n) {e k : Nat} (he : (e : Int) < n) (hk : (k : Int) < n) (n1 : ¬ (X k = X e ∧ Y k = Y e)) (n2 : ¬ (X k = nxt X n e ∧ Y k = nxt Y n e)) : 0 < cx (nxt X n e - X e) (nxt Y n e - Y e) (X k - X e) (Y k - Y e) := by
  have hc := HS_S h
  rcases h with ⟨h, _⟩ | ⟨p1, p2, p3, ⟨p4, p5⟩ | ⟨p4, p5, p6⟩⟩
  · omega
  · omega
  · have E := p6 e he
    have K := p6 k hk
    obtain ⟨b, b1, b2, b3⟩ := nxt_c (X := X) (Y := Y) he
    rw [b2, b3] at E n2 ⊢
    have q := E.2 (X k) (Y k) (hc k hk)
    by_cases z : cx (X b - X e) (Y b - Y e) (X k - X e) (Y k - Y e) = 0
    · exfalso
      have r := q.2 z
      have k1 := K.2 (X e) (Y e) (hc e he)
      have k2 := K.2 (X b) (Y b) (hc b b1)
      generalize nxt X n k = w1 at *
      generalize nxt Y n k = w2 at *
      have i0 : (X k - X e) * (Y b - Y k) - (Y k - Y e) * (X b - X k) = -(cx (X b - X e) (Y b - Y e) (X k - X e) (Y k - Y e)) := by unfold cx; grind
      have i1 : (X k - X e) * cx (w1 - X k) (w2 - Y k) (X b - X k) (Y b - Y k) + (X b - X k) * cx (w1 - X k) (w2 - Y k) (X e - X k) (Y e - Y k) = (w1 - X k) * ((X k - X e) * (Y b - Y k) - (Y k - Y e) * (X b - X k)) := by unfold cx; grind
      have i2 : (Y k - Y e) * cx (w1 - X k) (w2 - Y k) (X b - X k) (Y b - Y k) + (Y b - Y k) * cx (w1 - X k) (w2 - Y k) (X e - X k) (Y e - Y k) = (w2 - Y k) * ((X k - X e) * (Y b - Y k) - (Y k - Y e) * (X b - X k)) := by unfold cx; grind
      rw [z] at i0
      rw [show (X k - X e) * (Y b - Y k) - (Y k - Y e) * (X b - X k) = 0 by omega, Int.mul_zero] at i1 i2
      have zero : cx (w1 - X k) (w2 - Y k) (X b - X k) (Y b - Y k) = 0 ∧ cx (w1 - X k) (w2 - Y k) (X e - X k) (Y e - Y k) = 0 := by
        by_cases s : lxp (X k - X e) (Y k - Y e)
        · exact sd_i (a1 := X k - X e) (a2 := Y k - Y e) (c1 := X b - X k) (c2 := Y b - Y k) (by omega) (by omega) (by omega) k2.1 k1.1 s (by unfold lxp lxn at *; omega)
        · have f1 : -(X k - X e) * cx (w1 - X k) (w2 - Y k) (X b - X k) (Y b - Y k) = -((X k - X e) * cx (w1 - X k) (w2 - Y k) (X b - X k) (Y b - Y k)) := Int.neg_mul _ _
          have f2 : -(Y k - Y e) * cx (w1 - X k) (w2 - Y k) (X b - X k) (Y b - Y k) = -((Y k - Y e) * cx (w1 - X k) (w2 - Y k) (X b - X k) (Y b - Y k)) := Int.neg_mul _ _
          have f3 : -(X b - X k) * cx (w1 - X k) (w2 - Y k) (X e - X k) (Y e - Y k) = -((X b - X k) * cx (w1 - X k) (w2 - Y k) (X e - X k) (Y e - Y k)) := Int.neg_mul _ _
          have f4 : -(Y b - Y k) * cx (w1 - X k) (w2 - Y k) (X e - X k) (Y e - Y k) = -((Y b - Y k) * cx (w1 - X k) (w2 - Y k) (X e - X k) (Y e - Y k)) := Int.neg_mul _ _
          have f5 : -(X k - X e) * -(Y b - Y k) = (X k - X e) * (Y b - Y k) := Int.neg_mul_neg _ _
          have f6 : -(Y k - Y e) * -(X b - X k) = (Y k - Y e) * (X b - X k) := Int.neg_mul_neg _ _
          exact sd_i (a1 := -(X k - X e)) (a2 := -(Y k - Y e)) (c1 := -(X b - X k)) (c2 := -(Y b - Y k)) (by omega) (by omega) (by omega) k2.1 k1.1 (by unfold lxp lxn at *; omega) (by unfold lxp lxn at *; omega)
      have r1 := k1.2 zero.2
      have r2 := k2.2 zero.1
      clear k1 k2 i0 i1 i2 zero q z K E
      unfold lxn at *
      omega
    · omega
/-- corners are different points -/
theorem HS_ne9 {S : Int → Int → Prop} {n : Int} {X Y : Nat → Int} (h : HS S n X Y) : ∀ (m k k' : Nat), (k' : Int) + m + 1 = n → k < k' → ¬ (X k = X k' ∧ Y k = Y k') := by
  have hc := HS_S h
  rcases h with ⟨h, _⟩ | ⟨p1, p2, p3, ⟨p4, p5⟩ | ⟨p4, p5, p6⟩⟩
  · intro m k k' h1 h2; omega
  · intro m k k' h1 h2; omega
  · intro m
    induction m with
    | zero =>
      rintro k k' h1 h2 ⟨e1, e2⟩
      have A := p6 k (by omega)
      have C := p6 k' (by omega)
      have x1 : nxt X n k = X (k + 1) ∧ nxt Y n k = Y (k + 1) := by unfold nxt; rw [if_pos (by omega), if_pos (by omega)]; exact ⟨rfl, rfl⟩
      have x2 : nxt X n k' = X 0 ∧ nxt Y n k' = Y 0 := by unfold nxt; rw [if_neg (by omega), if_neg (by omega)]; exact ⟨rfl, rfl⟩
      rw [x1.1, x1.2] at A
      rw [x2.1, x2.2, ← e1, ← e2] at C
      obtain ⟨q1, q2⟩ := edS_u A C (hc _ (by omega)) p2
      have := (p5 (k + 1) (by omega) (by omega)).2
      omega
    | succ m ih =>
      rintro k k' h1 h2 ⟨e1, e2⟩
      have A := p6 k (by omega)
      have C := p6 k' (by omega)
      have x1 : nxt X n k = X (k + 1) ∧ nxt Y n k = Y (k + 1) := by unfold nxt; rw [if_pos (by omega), if_pos (by omega)]; exact ⟨rfl, rfl⟩
      have x2 : nxt X n k' = X (k' + 1) ∧ nxt Y n k' = Y (k' + 1) := by unfold nxt; rw [if_pos (by omega), if_pos (by omega)]; exact ⟨rfl, rfl⟩
      rw [x1.1, x1.2] at A
      rw [x2.1, x2.2, ← e1, ← e2] at C
      exact ih (k + 1) (k' + 1) (by omega) (by omega) (edS_u A C (hc _ (by omega)) (hc _ (by omega)))
theorem HS_di9 {S : Int → Int → Prop} {n : Int} {X Y : Nat → Int} (h : HS S n X Y) {k k' : Nat} (h1 : (k : Int) < n) (h2 : (k' : Int) < n) (e : X k = X k' ∧ Y k = Y k') : k = k' := by
  rcases Nat.lt_trichotomy k k' with w | w | w
  · exact absurd e (HS_ne9 h (n - k' - 1).toNat k k' (by omega) w)
  · exact w
  · exact absurd ⟨e.1.symm, e.2.symm⟩ (HS_ne9 h (n - k - 1).toNat k' k (by omega) w)
theorem nj_v {n : Int} {a : Nat} (h : (a : Int) < n) : ((a : Int) + 1 < n ∧ nj n a = a + 1) ∨ ((a : Int) + 1 = n ∧ nj n a = 0) := by
  by_cases e : (a : Int) + 1 < n
  · exact Or.inl ⟨e, if_pos e⟩
  · exact Or.inr ⟨by omega, if_neg e⟩
theorem PG_c {S : Int → Int → Prop} {n : Int} {X Y : Nat → Int} (h : HS S n X Y) (hn : 3 ≤ n) (cX : X n.toNat = X 0) (cY : Y n.toNat = Y 0) : PG9 X Y n.toNat := by
  have nl : ∀ a : Nat, a < n.toNat → nj n a < n.toNat := fun a ha => by
    have := nj_l (n := n) (a := a) (by omega)
    omega
  have nx : ∀ a : Nat, a < n.toNat → X (nj n a) = X (a + 1) ∧ Y (nj n a) = Y (a + 1) := fun a ha => by
    rcases nj_v (n := n) (a := a) (by omega) with ⟨_, v⟩ | ⟨v1, v⟩
    · rw [v]; exact ⟨rfl, rfl⟩
    · rw [v, show a + 1 = n.toNat by omega]; exact ⟨cX.symm, cY.symm⟩
  have st : ∀ k : Nat, k < n.toNat → 0 < cx (df X k) (df Y k) (df X (nj n k)) (df Y (nj n k)) := fun k hk => by
    have e1 := nx k hk
    have e2 := nx (nj n k) (nl k hk)
    have l1 := nl k hk
    have l2 := nl (nj n k) l1
    have v1 := nj_v (n := n) (a := k) (by omega)
    have v2 := nj_v (n := n) (a := nj n k) (by omega)
    have q := HS_sd h (by omega) (e := k) (k := nj n (nj n k)) (by omega) (by omega) (fun w => by
      have := HS_di9 h (by omega) (by omega) w
      omega) (fun w => by
      rw [nj_n, nj_n] at w
      have := HS_di9 h (by omega) (by omega) w
      omega)
    rw [nj_n, nj_n, e1.1, e1.2, e2.1, e2.2] at q
    have f : cx (df X k) (df Y k) (df X (nj n k)) (df Y (nj n k)) = cx (X (k + 1) - X k) (Y (k + 1) - Y k) (X (nj n k + 1) - X k) (Y (nj n k + 1) - Y k) := by
      unfold df
      rw [e1.1, e1.2]
      unfold cx
      grind
    rw [f]
    exact q
  refine ⟨⟨by omega, cX, cY⟩, fun e he => ?_, fun e he => ⟨nj n e, nl e he, nx e he, st e he⟩, fun e k he hk w => HS_di9 h (by omega) (by omega) w⟩
  obtain ⟨p, hp, ej⟩ : ∃ p : Nat, p < n.toNat ∧ nj n p = e := by
    by_cases e0 : e = 0
    · exact ⟨n.toNat - 1, by omega, by
        have := nj_v (n := n) (a := n.toNat - 1) (by omega)
        omega⟩
    · exact ⟨e - 1, by omega, by
        have := nj_v (n := n) (a := e - 1) (by omega)
        omega⟩
  have q1 := nx p hp
  have q2 := st p hp
  rw [ej] at q1 q2
  exact ⟨p, hp, ⟨q1.1.symm, q1.2.symm⟩, q2⟩
/-! ===== the points of a polygon are closed ===== -/
theorem av_l {α β γ a b c x m : Int} (h0 : 0 ≤ α ∧ 0 ≤ β ∧ 0 ≤ γ) (hs : 0 < α + β + γ) (e : (α + β + γ) * x = α * a + β * b + γ * c) (ha : m ≤ a) (hb : m ≤ b) (hc : m ≤ c) : m ≤ x := by
  have m1 := Int.mul_nonneg h0.1 (show 0 ≤ a - m by omega)
  have m2 := Int.mul_nonneg h0.2.1 (show 0 ≤ b - m by omega)
  have m3 := Int.mul_nonneg h0.2.2 (show 0 ≤ c - m by omega)
  apply Int.not_lt.mp
  intro w
  have m4 := Int.mul_pos hs (show 0 < m - x by omega)
  have f : (α + β + γ) * (m - x) = α * m + β * m + γ * m - (α + β + γ) * x := by grind
  have f1 : α * (a - m) = α * a - α * m := Int.mul_sub _ _ _
  have f2 : β * (b - m) = β * b - β * m := Int.mul_sub _ _ _
  have f3 : γ * (c - m) = γ * c - γ * m := Int.mul_sub _ _ _
  omega
theorem av_u {α β γ a b c x m : Int} (h0 : 0 ≤ α ∧ 0 ≤ β ∧ 0 ≤ γ) (hs : 0 < α + β + γ) (e : (α + β + γ) * x = α * a + β * b + γ * c) (ha : a ≤ m) (hb : b ≤ m) (hc : c ≤ m) : x ≤ m := by
  have q := av_l (a := -a) (b := -b) (c := -c) (x := -x) (m := -m) h0 hs (by rw [Int.mul_neg, Int.mul_neg, Int.mul_neg, Int.mul_neg]; omega) (by omega) (by omega) (by omega)
  omega
theorem av_w {α β γ x y a1 a2 b1 b2 c1 c2 D E p q : Int} (ex : (α + β + γ) * x = α * a1 + β * b1 + γ * c1) (ey : (α + β + γ) * y = α * a2 + β * b2 + γ * c2) : (α + β + γ) * (D * (y - q) - E * (x - p)) = α * (D * (a2 - q) - E * (a1 - p)) + β * (D * (b2 - q) - E * (b1 - p)) + γ * (D * (c2 - q) - E * (c1 - p)) := by
  have f : (α + β + γ) * (D * (y - q) - E * (x - p)) = D * ((α + β + γ) * y) - E * ((α + β + γ) * x) - (α + β + γ) * (D * q - E * p) := by grind
  rw [f, ex, ey]
  grind
theorem inM_cv {v : MS} {s α β γ x y a1 a2 b1 b2 c1 c2 : Int} (h0 : 0 ≤ α ∧ 0 ≤ β ∧ 0 ≤ γ) (hs : 0 < α + β + γ) (ex : (α + β + γ) * x = α * a1 + β * b1 + γ * c1) (ey : (α + β + γ) * y = α * a2 + β * b2 + γ * c2) (ha : inM v s a1 a2) (hb : inM v s b1 b2) (hc : inM v s c1 c2) : inM v s x y := by
  obtain ⟨q1, q2, ⟨i1, i2, i3⟩, ⟨⟨j1, j2, j3⟩, ⟨k1, k2, k3⟩⟩, q3⟩ := ha
  obtain ⟨_, r2, ⟨l1, l2, l3⟩, ⟨⟨m1, m2, m3⟩, ⟨n1, n2, n3⟩⟩, r3⟩ := hb
  obtain ⟨_, t2, ⟨o1, o2, o3⟩, ⟨⟨u1, u2, u3⟩, ⟨w1, w2, w3⟩⟩, t3⟩ := hc
  refine ⟨q1, av_l h0 hs ex q2 r2 t2, ?_, ⟨?_, ?_⟩, fun a ha hd => av_l h0 hs (av_w ex ey) (q3 a ha hd) (r3 a ha hd) (t3 a ha hd)⟩
  · apply Classical.byContradiction
    intro z
    have nn : ∀ a : Nat, (a : Int) < mN v s → mX v s a < x := fun a ha => Int.not_le.mp (fun g => z ⟨a, ha, g⟩)
    clear z
    have g1 := nn i1 i2
    have g2 := nn l1 l2
    have g3 := nn o1 o2
    have := av_u (m := x - 1) h0 hs ex (by omega) (by omega) (by omega)
    omega
  · apply Classical.byContradiction
    intro z
    have nn : ∀ a : Nat, (a : Int) < mN v s → y < mY v s a := fun a ha => Int.not_le.mp (fun g => z ⟨a, ha, g⟩)
    clear z
    have g1 := nn j1 j2
    have g2 := nn m1 m2
    have g3 := nn u1 u2
    have := av_l (m := y + 1) h0 hs ey (by omega) (by omega) (by omega)
    omega
  · apply Classical.byContradiction
    intro z
    have nn : ∀ a : Nat, (a : Int) < mN v s → mY v s a < y := fun a ha => Int.not_le.mp (fun g => z ⟨a, ha, g⟩)
    clear z
    have g1 := nn k1 k2
    have g2 := nn n1 n2
    have g3 := nn w1 w2
    have := av_u (m := y - 1) h0 hs ey (by omega) (by omega) (by omega)
    omega
theorem zz_9 {a b : Int} : (a - a) * b = 0 := by rw [Int.sub_self, Int.zero_mul]
theorem CL_P {u : CS} {v : MS} {s n : Int} {X Y : Nat → Int} (hC : CI u) (h : EQS u v) (hs : 0 ≤ s ∧ s ≤ 7) (hO : OL (PBx v s) n X Y) : CL9 X Y n.toNat := by
  have n0 := hO.1
  have e : ∀ x y : Int, PBx v s x y ↔ inM v s x y := fun x y => (EQS_pb hC h hs x y).trans (EQS_in hC h hs)
  intro i j k α β γ x y hb h0 hp ex ey
  have q := inM_cv h0 hp ex ey ((e _ _).mp (OL_in hO (a := i) (by omega))) ((e _ _).mp (OL_in hO (a := j) (by omega))) ((e _ _).mp (OL_in hO (a := k) (by omega)))
  obtain ⟨c, c1, c2, c3⟩ := (hO.2.2 _ _).mpr ((e x y).mpr q)
  exact ⟨c, by omega, c2.symm, c3.symm⟩
theorem HS_v {u : CS} {v : MS} {s : Int} (h : EQS u v) (hs : 0 ≤ s ∧ s ≤ 7) : HS (SP v s) (mN v s) (fun a => mX v s a) (fun a => mY v s a) := by
  have q := (h s.toNat (by omega)).2.2
  rw [show ((s.toNat : Nat) : Int) = s by omega] at q
  exact q
theorem PI_c {u : CS} {v : MS} {s n : Int} {X Y : Nat → Int} (hC : CI u) (h : EQS u v) (hs : 0 ≤ s ∧ s ≤ 7) (hS : Sh v s) (h2 : 2 < mN v s) (hO : OL (PBx v s) n X Y) : PI9 X Y (fun a => mX v s a) (fun a => mY v s a) n.toNat (mN v s).toNat := by
  have n0 := hO.1
  refine ⟨fun e i he hi => ?_, fun e he => ?_⟩
  · obtain ⟨⟨z, z0, z1⟩, -⟩ := OL_in hO (a := i) (by omega)
    exact wR_in hS h2 z1 z0 e (by omega)
  · have w : wOn v s (mX v s e) (mY v s e) (mN v s) := ⟨e, by omega, by omega, by unfold wcr; grind, Int.le_of_eq zz_9, Int.le_of_eq zz_9⟩
    have q := wOn_in (HS_v h hs) (by omega) w
    obtain ⟨c, c1, c2, c3⟩ := (hO.2.2 _ _).mpr ((EQS_pb hC h hs _ _).mpr ((EQS_in hC h hs).mpr q))
    exact ⟨c, by omega, c2.symm, c3.symm⟩
/-- how many segments a full set has: three times the area and the edge, halved -/
theorem CT_e {u : CS} {v : MS} {s n m : Int} {X Y A Bb : Nat → Int} {f : Nat → Bool} (hC : CI u) (h : EQS u v) (hs : 0 ≤ s ∧ s ≤ 7) (hS : Sh v s) (h2 : 2 < mN v s) (hO : OL (PBx v s) n X Y) (hG : OL (SGP X Y n) m A Bb) (hf : FC9 X Y A Bb m.toNat f) : 2 * nf9 f m.toNat = 3 * mAr v s + mEd v s := by
  have cl : ((((mN v s).toNat : Nat)) : Int) = mN v s := by omega
  have HH := HS_v h hs
  have G := PG_c HH (by omega) (by
    show mX v s ((mN v s).toNat : Nat) = mX v s ((0 : Nat) : Int)
    rw [cl]; exact mX_w.1) (by
    show mY v s ((mN v s).toNat : Nat) = mY v s ((0 : Nat) : Int)
    rw [cl]; exact mX_w.2)
  have q := CT_9 hO.2.1 hG hf (CL_P hC h hs hO) G (PI_c hC h hs hS h2 hO)
  have e1 : mEd v s = sm (fun e : Nat => mS v s e) (mN v s).toNat := by
    unfold mEd
    rw [if_neg (by omega), if_neg (by omega)]
    rfl
  have e2 : mAr v s = sm (fun e : Nat => mX v s e * mY v s ((e : Int) + 1) - mX v s ((e : Int) + 1) * mY v s e) (mN v s).toNat := rfl
  rw [q, e1, e2, ← sm_mul, ← sm_add]
  refine sm_c (fun e _ => ?_)
  have c1 : ((e + 1 : Nat) : Int) = (e : Int) + 1 := by omega
  show 3 * (mX v s e * mY v s ((e + 1 : Nat) : Int) - mX v s ((e + 1 : Nat) : Int) * mY v s e) + ((Int.gcd (mX v s ((e + 1 : Nat) : Int) - mX v s e) (mY v s ((e + 1 : Nat) : Int) - mY v s e) : Nat) : Int) = 3 * (mX v s e * mY v s ((e : Int) + 1) - mX v s ((e : Int) + 1) * mY v s e) + mS v s e
  rw [c1]
  rfl


/-! ===== how many, how far ===== -/
theorem nf_y {f : Nat → Bool} {k : Nat} {n : Int} (h : f k = true) (e : n = nf9 f k) : n + 1 = nf9 f (k + 1) := by
  show n + 1 = nf9 f k + (if f k = true then 1 else 0)
  rw [if_pos h]
  omega
theorem nf_n {f : Nat → Bool} {k : Nat} {n : Int} (h : ¬ f k = true) (e : n = nf9 f k) : n + 0 = nf9 f (k + 1) := by
  show n + 0 = nf9 f k + (if f k = true then 1 else 0)
  rw [if_neg h]
  omega
theorem nf_b {f : Nat → Bool} : ∀ k : Nat, 0 ≤ nf9 f k ∧ nf9 f k ≤ (k : Int) := by
  intro k
  induction k with
  | zero => exact ⟨Int.le_refl _, Int.le_refl _⟩
  | succ k ih =>
    by_cases w : f k = true
    · have := nf_y w (n := nf9 f k) rfl
      omega
    · have := nf_n w (n := nf9 f k) rfl
      omega
/-- a set found after others is no farther than its place -/
theorem RN_b {NV : Int64 → Nat → Int64 → Prop} {b0 : Int64} {Bs : Nat → Int64} {D M S : Nat → Int} {T : Nat} (h : RN9 NV b0 Bs D M S T) : ∀ t : Nat, t ≤ T → ∀ q : Nat, (q : Int) < M t → 0 ≤ D q ∧ D q ≤ (q : Int) := by
  intro t
  induction t with
  | zero =>
    intro _ q hq
    obtain ⟨a1, a2, a3, a4⟩ := h.1
    have e : q = 0 := by omega
    rw [e, a4]
    omega
  | succ t ih =>
    intro ht q hq
    have s := h.2 t (by omega)
    have ih' := ih (by omega)
    by_cases w : S t = 1 ∨ M t ≤ ((t / 64 : Nat) : Int)
    · have e := (s.1 w).1
      exact ih' q (by omega)
    · obtain ⟨b, _, k⟩ := s.2 (fun e => w (Or.inl e)) (by omega)
      rcases k with ⟨-, k, -⟩ | ⟨-, ⟨-, k, -⟩ | ⟨-, k, -, -, k5⟩⟩
      · exact ih' q (by omega)
      · exact ih' q (by omega)
      · by_cases v : (q : Int) < M t
        · exact ih' q v
        · have g := ih' (t / 64) (by omega)
          rw [show q = (M t).toNat by omega, k5]
          omega
theorem FCT_b {X Y A Bb : Nat → Int} {n m c t : Int} {C : Nat → Int64} {F : Nat → Int} (h : FCT X Y n A Bb m C F c t) {q : Nat} (hq : (q : Int) < c) : 0 ≤ F q ∧ F q ≤ (q : Int) := by
  obtain ⟨f, T, _, ⟨M, S, r, e1, e2⟩, _⟩ := h
  exact RN_b r T (Nat.le_refl T) q (by omega)
theorem ca_u {P : Int → Int → Prop} {n n' m m' c c' t t' w z z' fc : Int} {X Y A Bb X' Y' A' Bb' S' F F' : Nat → Int} {C C' N D W : Nat → Int64} (hn : 0 ≤ n ∧ n ≤ 12) (hP : OL P n X Y) (hO : OL (SGP X Y n) m A Bb) (h63 : m ≤ 63) (hF : FCT X Y n A Bb m C F c t) (hc : 1 ≤ c ∧ c ≤ 1500) (hz' : (t = 1 ∧ z' = -5) ∨ (t = 0 ∧ ((w = 0 ∧ z' = c) ∨ (w = 1 ∧ z' = F (c - 1).toNat)))) (hM : ML9 P n' X' Y' A' Bb' S' m' W N D fc) (hF' : FCT X' Y' n' A' Bb' m' C' F' c' t') (hz : (t' ≠ 0 ∧ z = -5) ∨ (t' = 0 ∧ ((w = 0 ∧ z = c') ∨ (w = 1 ∧ (1 ≤ c' → z = F' (c' - 1).toNat))))) : z = z' ∧ -5 ≤ z ∧ z ≤ 1500 := by
  obtain ⟨o1, ⟨o2, o3, o4, o5, o6⟩, o7, o8⟩ := hM
  obtain ⟨en, ex⟩ := OL_u hP o1
  subst en
  have O' : OL (SGP X Y n) m' A' Bb' := OL_c o4 (fun a b => SGP_c ex)
  obtain ⟨em, ea⟩ := OL_u hO O'
  subst em
  have m0 := hO.1
  have sg : SG9 X Y X' Y' A Bb A' Bb' n m := ⟨ex, ea, fun k hk => (OL_in hO (a := k) hk).1⟩
  obtain ⟨ec, et, eq⟩ := FCT_u hP.2.1 hO h63 hn.1 hF (FCT_c (SG_s sg) hF')
  have fb := FCT_b hF (q := (c - 1).toNat) (by omega)
  have fe := (eq (c - 1).toNat (by omega)).2
  subst ec
  subst et
  rcases hz with ⟨g1, g2⟩ | ⟨g1, g2⟩ <;> rcases hz' with ⟨k1, k2⟩ | ⟨k1, k2⟩
  · omega
  · exact absurd k1 g1
  · omega
  · rcases g2 with ⟨g2, g3⟩ | ⟨g2, g3⟩ <;> rcases k2 with ⟨k2, k3⟩ | ⟨k2, k3⟩
    · omega
    · omega
    · omega
    · have g4 := g3 hc.1
      omega
def cuM (u : MS) (s w z : Int) : Prop := (¬ ((0 ≤ s ∧ s ≤ 7) ∧ 0 ≤ w ∧ w ≤ 3) ∧ z = -1) ∨ (((0 ≤ s ∧ s ≤ 7) ∧ 0 ≤ w ∧ w ≤ 3) ∧ ((¬ ctM u s ∧ z = -2) ∨ (ctM u s ∧ ((w = 3 ∧ z = mAr u s ∧ -2147483648 ≤ z ∧ z ≤ 2147483647) ∨ (w = 2 ∧ Sh u s ∧ ∃ (n : Int) (X Y : Nat → Int) (m : Int) (A Bb : Nat → Int) (f : Nat → Bool), OL (PBx u s) n X Y ∧ (OL (SGP X Y n) m A Bb ∧ m ≤ 63) ∧ FC9 X Y A Bb m.toNat f ∧ z = nf9 f m.toNat) ∨ ((w = 0 ∨ w = 1) ∧ ∃ (n : Int) (X Y : Nat → Int) (m : Int) (A Bb : Nat → Int) (C : Nat → Int64) (F : Nat → Int) (c t : Int), ((0 ≤ n ∧ n ≤ 12) ∧ OL (PBx u s) n X Y) ∧ (OL (SGP X Y n) m A Bb ∧ m ≤ 63) ∧ FCT X Y n A Bb m C F c t ∧ (1 ≤ c ∧ c ≤ 1500) ∧ ((t = 1 ∧ z = -5) ∨ (t = 0 ∧ ((w = 0 ∧ z = c) ∨ (w = 1 ∧ z = F (c - 1).toNat)))))))))
def cuQ (u' : CS) (w z : Int) : Prop := (u'.2.2.2 23 ≠ 0 ∧ z = -5) ∨ (u'.2.2.2 23 = 0 ∧ ((w = 0 ∧ z = u'.2.2.2 22) ∨ (w = 1 ∧ (1 ≤ u'.2.2.2 22 → z = u'.2.1 7 (u'.2.2.2 22 - 1).toNat))))
def cuA (u u' : CS) (s w z : Int) : Prop := (¬ ((0 ≤ s ∧ s ≤ 7) ∧ 0 ≤ w ∧ w ≤ 3) ∧ z = -1) ∨ (((0 ≤ s ∧ s ≤ 7) ∧ 0 ≤ w ∧ w ≤ 3) ∧ ((¬ cuC u s ∧ z = -2) ∨ (cuC u s ∧ ((w = 2 ∧ z = (3 * rA u s.toNat + rE u s.toNat).tdiv 2) ∨ (w = 3 ∧ z = rA u s.toNat) ∨ ((w = 0 ∨ w = 1) ∧ bU9 u u' s.toNat ∧ cuQ u' w z)))))
theorem EQ_cu {u u' : CS} {v : MS} {s w z z' : Int} (hC : CI u) (h : EQS u v) (hu : FU u) (hc : cuA u u' s w z) (hm : cuM v s w z') : z = z' ∧ wRg z := by
  rcases hc with ⟨a1, a2⟩ | ⟨a1, a2⟩ <;> rcases hm with ⟨b1, b2⟩ | ⟨b1, b2⟩
  · exact ⟨by omega, by unfold wRg; omega⟩
  · exact absurd b1 a1
  · exact absurd a1 b1
  · have le := cu_e hC h a1.1
    rcases a2 with ⟨c1, c2⟩ | ⟨c1, c2⟩ <;> rcases b2 with ⟨d1, d2⟩ | ⟨d1, d2⟩
    · exact ⟨by omega, by unfold wRg; omega⟩
    · exact absurd (le.mpr d1) c1
    · exact absurd (le.mp c1) d1
    · obtain ⟨eA, eE, _⟩ := EQS_a hC h a1.1
      rcases c2 with ⟨w1, c3⟩ | ⟨w1, c3⟩ | ⟨w1, c3, c4⟩ <;> rcases d2 with ⟨v1, d3, d4, d5⟩ | ⟨v1, hS, n, X, Y, m, A, Bb, f, hP, ⟨hO, h63⟩, hf, d3⟩ | ⟨v1, n, X, Y, m, A, Bb, C, F, c, t, ⟨hn, hP⟩, ⟨hO, h63⟩, hF, hcb, d3⟩
      · exfalso; omega
      · have q := CT_e hC h a1.1 hS d1.1 hP hO hf
        have b := nf_b (f := f) m.toNat
        rw [eA, eE, ← q, Int.mul_tdiv_cancel_left _ (by decide)] at c3
        exact ⟨by omega, by unfold wRg; omega⟩
      · exfalso; omega
      · rw [eA] at c3
        exact ⟨by omega, by unfold wRg; omega⟩
      · exfalso; omega
      · exfalso; omega
      · exfalso; omega
      · exfalso; omega
      · have P := OL_c hP (EQS_pb hC h a1.1)
        have ok := bU_OK (i := s.toNat) (by omega) c1.1 hu c3 ⟨n, X, Y, P, hn.2⟩
        have q := ca_u hn P hO h63 hF hcb d3 ok.1 ok.2 c4
        exact ⟨q.1, by unfold wRg; omega⟩


set_option maxHeartbeats 4000000 in
set_option maxRecDepth 100000 in
theorem c_X12_sizeOf3 (l : Launch) (D : JD) (o : Nat) (q : Nat → Nat) (u : MS) (x : Int64) (p0 : 0 ≤ u.2.2 23 ∧ u.2.2 23 ≤ 63) : Met l yX12_sizeOf (jw yX12_sizeOf cX12_sizeOf 5 (some .int)) (jr 1 22) (jP [.ref o, .long x] D (fun H => va_P D.1 j_cl (mW D o q u) H)) (jRi (fun z => (0 ≤ z ∧ z ≤ 66) ∧ ∀ f9 : Nat → Bool, x = PB f9 (u.2.2 23).toNat → z = nf9 f9 (u.2.2 23).toNat)) 0 0 (fun _ => False) := by
  refine Met.ofW (cc := cX12_sizeOf) (maxL := 5) (ret := (some .int)) (by decide) rfl ?_
  intro pr en st mi args below meth co s₁ B hml hv
  obtain ⟨rfl, hG, hP⟩ := hv
  have hr := B.returns
  have hlk := B.notSynchronized
  have SS : jS pr mi co cX12_sizeOf 5 st _ RX12 := ⟨B.exec, B.bytes, hml, findClass_of_methodNamed B.named, fun w hw => atoms_spec (ws := (jw yX12_sizeOf cX12_sizeOf 5 (some .int))) B.pre w (List.mem_cons_of_mem _ hw)⟩
  have hl := lv_entry ([.ref o, .long x]) (n := 5) (Nat.le_of_ble_eq_true rfl)
  rw [lg_entry_eq]
  generalize (lg_sl ([.ref o, .long x]) ++ List.replicate (5 - (lg_sl ([.ref o, .long x])).length) Slot.unset).toArray = ls at hl ⊢
  have hl : lv_has ls 5 [(0, .ref o), (1, .long x)] := hl
  refine j_iconst SS dX12_sizeOf_0 ?_
  refine lv_istore_n (lv' := [(3, .int (J 0)), (0, .ref o), (1, .long x)]) SS.1 SS.2.1 dX12_sizeOf_1 rfl hl (by decide) rfl (fun ls hl => ?_)
  refine j_iconst SS dX12_sizeOf_2 ?_
  refine lv_istore (lv' := [(4, .int (J 0)), (3, .int (J 0)), (0, .ref o), (1, .long x)]) SS.1 SS.2.1 dX12_sizeOf_3 hl (by decide) rfl (fun ls hl => ?_)
  have L_5 : ∀ (nn : Nat) (n : Int) (k : Int) (ls : Array Slot) (hl : lv_has ls 5 [(0, .ref o), (1, .long x), (3, .int (J n)), (4, .int (J k))]) (i5_0 : 0 ≤ k ∧ k ≤ u.2.2 23) (i5_1 : 0 ≤ n ∧ n ≤ k) (i5_2 : ∀ f9 : Nat → Bool, x = PB f9 (u.2.2 23).toNat → n = nf9 f9 k.toNat), (u.2.2 23 - k).toNat < nn → W pr l en (headSpec (jw yX12_sizeOf cX12_sizeOf 5 (some .int)) (jr 1 22)).room st mi (([.ref o, .long x] : List Value).toArray) below meth co st.heap [] 0 0 (MQ below (jRi (fun z => (0 ≤ z ∧ z ≤ 66) ∧ ∀ f9 : Nat → Bool, x = PB f9 (u.2.2 23).toNat → z = nf9 f9 (u.2.2 23).toNat)) (([.ref o, .long x] : List Value).toArray) st 0 0 (fun _ => False)) (F0 mi 5 ls []) := by
    intro nn
    induction nn with
    | zero => intros; omega
    | succ nn ih_5 =>
      intro n k ls hl i5_0 i5_1 i5_2 hm
      refine lv_iload SS.1 SS.2.1 dX12_sizeOf_5 (lv_at hl 3 rfl) ?_
      refine lv_aload_n SS.1 SS.2.1 dX12_sizeOf_7 rfl (lv_at hl 0 rfl) ?_
      refine j_get SS hG hP 0 (v := .int (J (u.2.2 23))) (C := RX12) (T := TX12) (N := 31) rfl rfl inX12 23 (by decide) (ref := RX12) kw_1081 rfl rfl dX12_sizeOf_8 ?_
      refine j_icmp_ge SS (tgt := 37) (x := k) (y := (u.2.2 23)) dX12_sizeOf_11 (by decide) (by omega) (by omega) (fun c_11 => ?_) (fun c_11 => ?_)
      · skip
        refine lv_iload_n SS.1 SS.2.1 dX12_sizeOf_37 rfl (lv_at hl 2 rfl) ?_
        exact W.iret SS.1 SS.2.1 hr (fun t ht hW => ⟨_, rfl, ⟨n, rfl, (⟨by omega, fun f9 hx9 => by rw [show (u.2.2 23).toNat = k.toNat by omega]; exact i5_2 f9 hx9⟩)⟩, ht⟩) (fun _ h => nomatch h) dX12_sizeOf_38 hlk
      · skip
        refine lv_iload_n SS.1 SS.2.1 dX12_sizeOf_14 rfl (lv_at hl 2 rfl) ?_
        refine lv_lload_n SS.1 SS.2.1 dX12_sizeOf_15 rfl (lv_at hl 1 rfl) ?_
        refine lv_iload SS.1 SS.2.1 dX12_sizeOf_16 (lv_at hl 3 rfl) ?_
        refine j_sRi SS (As := [.long x, .int (J k)]) (rest := [.int (J n)]) (c_X12_has3 l D x k (show -2147483648 ≤ k ∧ k ≤ 2147483647 from (by omega))) mf_X12_has kw_1420 hG trivial rfl hl.1 ⟨⟨Nat.le_of_ble_eq_true rfl, Nat.le_of_ble_eq_true rfl⟩, Nat.le_of_ble_eq_true rfl, Nat.le_refl _, Nat.le_refl _⟩ rfl dX12_sizeOf_18 (fun z_18 h_18 => ?_)
        have h_18 : hs9 x k z_18 := h_18
        have r_18 := hs_r h_18
        refine j_if_eq SS (tgt := 28) (x := z_18) dX12_sizeOf_21 (by decide) (by omega) (fun c_21 => ?_) (fun c_21 => ?_)
        · skip
          refine j_iconst SS dX12_sizeOf_28 ?_
          refine j_iadd SS (x := n) (y := 0) dX12_sizeOf_29 ?_
          refine lv_istore_n (lv' := [(3, .int (J (n + 0))), (0, .ref o), (1, .long x), (4, .int (J k))]) SS.1 SS.2.1 dX12_sizeOf_30 rfl hl (by decide) rfl (fun ls hl => ?_)
          refine lv_iinc (v := J (k + 1)) (lv' := [(4, .int (J (k + 1))), (3, .int (J (n + 0))), (0, .ref o), (1, .long x)]) SS.1 SS.2.1 dX12_sizeOf_31 hl (k := 3) rfl (J_add _ _) (by decide) rfl (fun ls hl => ?_)
          refine lv_goto (tgt := 5) SS.1 SS.2.1 dX12_sizeOf_34 (by decide) ?_
          exact ih_5 (n + 0) (k + 1) ls (lv_sub hl [2, 3, 1, 0] rfl) (by omega) (by omega) (fun f9 hx9 => by rw [show (k + 1).toNat = k.toNat + 1 by omega]; first | exact nf_n (fun w9 => by have q9 := (hs_k h_18 hx9 (by omega) (by omega)).mpr w9; omega) (i5_2 f9 hx9) | exact nf_y ((hs_k h_18 hx9 (by omega) (by omega)).mp (by omega)) (i5_2 f9 hx9)) (by omega)
        · skip
          refine j_iconst SS dX12_sizeOf_24 ?_
          refine lv_goto (tgt := 29) SS.1 SS.2.1 dX12_sizeOf_25 (by decide) ?_
          refine j_iadd SS (x := n) (y := 1) dX12_sizeOf_29 ?_
          refine lv_istore_n (lv' := [(3, .int (J (n + 1))), (0, .ref o), (1, .long x), (4, .int (J k))]) SS.1 SS.2.1 dX12_sizeOf_30 rfl hl (by decide) rfl (fun ls hl => ?_)
          refine lv_iinc (v := J (k + 1)) (lv' := [(4, .int (J (k + 1))), (3, .int (J (n + 1))), (0, .ref o), (1, .long x)]) SS.1 SS.2.1 dX12_sizeOf_31 hl (k := 3) rfl (J_add _ _) (by decide) rfl (fun ls hl => ?_)
          refine lv_goto (tgt := 5) SS.1 SS.2.1 dX12_sizeOf_34 (by decide) ?_
          exact ih_5 (n + 1) (k + 1) ls (lv_sub hl [2, 3, 1, 0] rfl) (by omega) (by omega) (fun f9 hx9 => by rw [show (k + 1).toNat = k.toNat + 1 by omega]; first | exact nf_n (fun w9 => by have q9 := (hs_k h_18 hx9 (by omega) (by omega)).mpr w9; omega) (i5_2 f9 hx9) | exact nf_y ((hs_k h_18 hx9 (by omega) (by omega)).mp (by omega)) (i5_2 f9 hx9)) (by omega)
  exact L_5 ((u.2.2 23 - (0 : Int)).toNat + 1) 0 0 ls (lv_sub hl [2, 3, 1, 0] rfl) (by omega) (by omega) (fun f9 hx9 => rfl) (Nat.lt_succ_self _)

set_option maxHeartbeats 4000000 in
set_option maxRecDepth 100000 in
theorem c_X12_cuts3 (l : Launch) (D : JD) (o : Nat) (q : Nat → Nat) (u : MS) (A : Nat → Prop) (hD : va_D A (mW D o q u)) (s : Int) (what : Int) (p0 : IM u) (p1 : -2147483648 ≤ s ∧ s ≤ 2147483647) (p2 : -2147483648 ≤ what ∧ what ≤ 2147483647) : Met l yX12_cuts (jw yX12_cuts cX12_cuts 3 (some .int)) (jr 6 131) (jP [.ref o, .int (J s), .int (J what)] D (fun H => va_P D.1 j_cl (mW D o q u) H)) (jWi (fun z u' => ∃ X : Nat → Int, ∃ Y : Nat → Int, ∃ n : Int, ∃ A : Nat → Int, ∃ B : Nat → Int, ∃ S : Nat → Int, ∃ m : Int, ∃ C : Nat → Int64, ∃ F : Nat → Int, ∃ W : Nat → Int, ∃ c : Int, ∃ t : Int, u' = (uV (uV (uI (uI (uL (uV (uI (uI (uI (uV (uI (uI u 10 X) 11 Y) 12 n) 20 A) 21 B) 22 S) 23 m) 24 C) 25 F) 26 W) 27 c) 28 t) ∧ (IM u' ∧ cuM u s what z)) (fun u' H => va_P D.1 j_cl (mW D o q u') H) A) 0 0 A := by
  refine Met.ofW (cc := cX12_cuts) (maxL := 3) (ret := (some .int)) (by decide) rfl ?_
  intro pr en st mi args below meth co s₁ B hml hv
  obtain ⟨rfl, hG, hP⟩ := hv
  have hr := B.returns
  have hlk := B.notSynchronized
  have SS : jS pr mi co cX12_cuts 3 st _ RX12 := ⟨B.exec, B.bytes, hml, findClass_of_methodNamed B.named, fun w hw => atoms_spec (ws := (jw yX12_cuts cX12_cuts 3 (some .int))) B.pre w (List.mem_cons_of_mem _ hw)⟩
  have hl := lv_entry ([.ref o, .int (J s), .int (J what)]) (n := 3) (Nat.le_of_ble_eq_true rfl)
  rw [lg_entry_eq]
  generalize (lg_sl ([.ref o, .int (J s), .int (J what)]) ++ List.replicate (3 - (lg_sl ([.ref o, .int (J s), .int (J what)])).length) Slot.unset).toArray = ls at hl ⊢
  have hl : lv_has ls 3 [(0, .ref o), (1, .int (J s)), (2, .int (J what))] := hl
  have hS : va_S A st.heap st.heap [] := va_S.rf
  refine lv_iload_n SS.1 SS.2.1 dX12_cuts_0 rfl (lv_at hl 1 rfl) ?_
  refine j_sRi SS (As := [.int (J s)]) (rest := []) (c_X12_isShape l D s (show -2147483648 ≤ s ∧ s ≤ 2147483647 from (by omega))) mf_X12_isShape kw_1156 hG trivial rfl hl.1 ⟨⟨Nat.le_of_ble_eq_true rfl, Nat.le_of_ble_eq_true rfl⟩, Nat.le_of_ble_eq_true rfl, Nat.le_refl _, Nat.le_refl _⟩ rfl dX12_cuts_1 (fun z_1 h_1 => ?_)
  have h_1 : (z_1 = 1 ∧ (0 ≤ s ∧ s ≤ 7)) ∨ (z_1 = 0 ∧ ¬ (0 ≤ s ∧ s ≤ 7)) := h_1
  refine j_if_eq SS (tgt := 16) (x := z_1) dX12_cuts_4 (by decide) (by omega) (fun c_4 => ?_) (fun c_4 => ?_)
  · skip
    refine j_iconst SS dX12_cuts_16 ?_
    exact W.iret SS.1 SS.2.1 hr (fun t ht hW => ⟨⟨_, (uV (uV (uI (uI (uL (uV (uI (uI (uI (uV (uI (uI u 10 (u.1 10)) 11 (u.1 11)) 12 (u.2.2 12)) 20 (u.1 20)) 21 (u.1 21)) 22 (u.1 22)) 23 (u.2.2 23)) 24 (u.2.1 24)) 25 (u.1 25)) 26 (u.1 26)) 27 (u.2.2 27)) 28 (u.2.2 28)), rfl, ⟨(-1), rfl, (⟨(u.1 10), (u.1 11), (u.2.2 12), (u.1 20), (u.1 21), (u.1 22), (u.2.2 23), (u.2.1 24), (u.1 25), (u.1 26), (u.2.2 27), (u.2.2 28), rfl, ⟨p0, Or.inl ⟨fun q => by omega, rfl⟩⟩⟩)⟩, by show va_P D.1 j_cl (mW D o q (uV (uV (uI (uI (uL (uV (uI (uI (uI (uV (uI (uI u 10 (u.1 10)) 11 (u.1 11)) 12 (u.2.2 12)) 20 (u.1 20)) 21 (u.1 21)) 22 (u.1 22)) 23 (u.2.2 23)) 24 (u.2.1 24)) 25 (u.1 25)) 26 (u.1 26)) 27 (u.2.2 27)) 28 (u.2.2 28))) t.heap; rw [ht]; exact hP⟩, hS.F ht⟩) hS.2.2 dX12_cuts_17 hlk
  · skip
    refine lv_iload_n SS.1 SS.2.1 dX12_cuts_7 rfl (lv_at hl 2 rfl) ?_
    refine j_iconst SS dX12_cuts_8 ?_
    refine j_iconst SS dX12_cuts_9 ?_
    refine j_sRi SS (As := [.int (J what), .int (J 0), .int (J 3)]) (rest := []) (c_X12_in l D what 0 3 (show -2147483648 ≤ what ∧ what ≤ 2147483647 from (by omega)) (show -2147483648 ≤ (0 : Int) ∧ (0 : Int) ≤ 2147483647 from (by omega)) (show -2147483648 ≤ (3 : Int) ∧ (3 : Int) ≤ 2147483647 from (by omega))) mf_X12_in kw_1159 hG trivial rfl hl.1 ⟨⟨Nat.le_of_ble_eq_true rfl, Nat.le_of_ble_eq_true rfl⟩, Nat.le_of_ble_eq_true rfl, Nat.le_refl _, Nat.le_refl _⟩ rfl dX12_cuts_10 (fun z_10 h_10 => ?_)
    have h_10 : (z_10 = 1 ∧ ((0 : Int) ≤ what ∧ what ≤ (3 : Int))) ∨ (z_10 = 0 ∧ ¬ ((0 : Int) ≤ what ∧ what ≤ (3 : Int))) := h_10
    refine j_if_ne SS (tgt := 18) (x := z_10) dX12_cuts_13 (by decide) (by omega) (fun c_13 => ?_) (fun c_13 => ?_)
    · skip
      refine lv_aload_n SS.1 SS.2.1 dX12_cuts_18 rfl (lv_at hl 0 rfl) ?_
      refine lv_iload_n SS.1 SS.2.1 dX12_cuts_19 rfl (lv_at hl 1 rfl) ?_
      refine j_vRi SS (As := [.int (J s)]) (rest := []) (c_X12_isCuttable l D o q u s (show 0 ≤ s ∧ s ≤ 7 from (by omega)) (show Sh u s from (p0.1 _ (by omega) (by omega)))) mf_X12_isCuttable kw_1408 hG hP hP (ci := 8) (q0 := 0) rfl rfl rfl rfl hl.1 ⟨⟨Nat.le_of_ble_eq_true rfl, Nat.le_of_ble_eq_true rfl⟩, Nat.le_of_ble_eq_true rfl, Nat.le_refl _, Nat.le_refl _⟩ rfl dX12_cuts_20 (fun z_20 h_20 => ?_)
      have h_20 : (z_20 = 1 ∧ 2 < mN u s ∧ mEd u s + mIn u s ≤ 12) ∨ (z_20 = 0 ∧ ¬ (2 < mN u s ∧ mEd u s + mIn u s ≤ 12)) := h_20
      refine j_if_ne SS (tgt := 29) (x := z_20) dX12_cuts_23 (by decide) (by omega) (fun c_23 => ?_) (fun c_23 => ?_)
      · skip
        refine lv_iload_n SS.1 SS.2.1 dX12_cuts_29 rfl (lv_at hl 2 rfl) ?_
        refine j_iconst SS dX12_cuts_30 ?_
        refine j_icmp_ne SS (tgt := 40) (x := what) (y := 3) dX12_cuts_31 (by decide) (by omega) (by decide) (fun c_31 => ?_) (fun c_31 => ?_)
        · skip
          refine lv_iload_n SS.1 SS.2.1 dX12_cuts_40 rfl (lv_at hl 2 rfl) ?_
          refine j_iconst SS dX12_cuts_41 ?_
          refine j_icmp_ne SS (tgt := 63) (x := what) (y := 2) dX12_cuts_42 (by decide) (by omega) (by decide) (fun c_42 => ?_) (fun c_42 => ?_)
          · skip
            refine lv_aload_n SS.1 SS.2.1 dX12_cuts_63 rfl (lv_at hl 0 rfl) ?_
            refine lv_iload_n SS.1 SS.2.1 dX12_cuts_64 rfl (lv_at hl 1 rfl) ?_
            refine j_vWv SS (As := [.int (J s)]) (rest := []) (c_X12_findCuts3 l D o q u A (mW_D hD) s (show IM u from (p0)) (show 0 ≤ s ∧ s ≤ 7 from (by omega)) (show 2 < mN u s from (by omega)) (show mEd u s + mIn u s ≤ 12 from (by omega))) mf_X12_findCuts kw_1438 hG hP hP (ci := 8) (q0 := 0) rfl rfl rfl hS (fun _ h => h) rfl hl.1 ⟨⟨Nat.le_of_ble_eq_true rfl, Nat.le_of_ble_eq_true rfl⟩, Nat.le_of_ble_eq_true rfl, Nat.le_refl _, Nat.le_refl _⟩ rfl dX12_cuts_65 (fun u65 H locs h_65 hP _ hS => ?_)
            obtain ⟨X_65, Y_65, n_65, A_65, B_65, S_65, m_65, C_65, F_65, W_65, c_65, t_65, rfl, h_65⟩ := h_65
            have hP : va_P D.1 j_cl (mW D o q (uV (uV (uI (uI (uL (uV (uI (uI (uI (uV (uI (uI u 10 X_65) 11 Y_65) 12 n_65) 20 A_65) 21 B_65) 22 S_65) 23 m_65) 24 C_65) 25 F_65) 26 W_65) 27 c_65) 28 t_65)) H := hP
            have h_65 : (CU (uV (uV (uI (uI (uL (uV (uI (uI (uI (uV (uI (uI u 10 X_65) 11 Y_65) 12 n_65) 20 A_65) 21 B_65) 22 S_65) 23 m_65) 24 C_65) 25 F_65) 26 W_65) 27 c_65) 28 t_65) ∧ (1 ≤ c_65 ∧ c_65 ≤ 1500) ∧ (t_65 = 0 ∨ t_65 = 1) ∧ (0 ≤ m_65 ∧ m_65 ≤ 66) ∧ IM (uV (uV (uI (uI (uL (uV (uI (uI (uI (uV (uI (uI u 10 X_65) 11 Y_65) 12 n_65) 20 A_65) 21 B_65) 22 S_65) 23 m_65) 24 C_65) 25 F_65) 26 W_65) 27 c_65) 28 t_65)) ∧ ((0 ≤ n_65 ∧ n_65 ≤ 12) ∧ OL (PBx u s) n_65 X_65 Y_65) ∧ CV (uV (uV (uI (uI (uL (uV (uI (uI (uI (uV (uI (uI u 10 X_65) 11 Y_65) 12 n_65) 20 A_65) 21 B_65) 22 S_65) 23 m_65) 24 C_65) 25 F_65) 26 W_65) 27 c_65) 28 t_65) ∧ FCT X_65 Y_65 n_65 A_65 B_65 m_65 C_65 F_65 c_65 t_65 := h_65
            obtain ⟨⟨hcu, hc1, ht1, hm1, hI⟩, ⟨hn12, hOP⟩, hcv, hFC⟩ := h_65
            have hOL : OL (SGP X_65 Y_65 n_65) m_65 A_65 B_65 := hcv.2.2.1
            have h63 : m_65 ≤ 63 := hcv.2.2.2.2
            refine lv_aload_n SS.1 SS.2.1 dX12_cuts_68 rfl (lv_at hl 0 rfl) ?_
            refine j_get SS hG hP 0 (v := .int (J t_65)) (C := RX12) (T := TX12) (N := 31) rfl rfl inX12 28 (by decide) (ref := RX12) kw_1086 rfl rfl dX12_cuts_69 ?_
            refine j_if_eq SS (tgt := 80) (x := t_65) dX12_cuts_72 (by decide) (by omega) (fun c_72 => ?_) (fun c_72 => ?_)
            · skip
              refine lv_iload_n SS.1 SS.2.1 dX12_cuts_80 rfl (lv_at hl 2 rfl) ?_
              refine j_if_ne SS (tgt := 91) (x := what) dX12_cuts_81 (by decide) (by omega) (fun c_81 => ?_) (fun c_81 => ?_)
              · skip
                refine lv_aload_n SS.1 SS.2.1 dX12_cuts_91 rfl (lv_at hl 0 rfl) ?_
                refine j_get SS hG hP 0 (v := .ref (q 25)) (C := RX12) (T := TX12) (N := 31) rfl rfl inX12 25 (by decide) (ref := RX12) kw_1083 rfl rfl dX12_cuts_92 ?_
                refine lv_aload_n SS.1 SS.2.1 dX12_cuts_95 rfl (lv_at hl 0 rfl) ?_
                refine j_get SS hG hP 0 (v := .int (J c_65)) (C := RX12) (T := TX12) (N := 31) rfl rfl inX12 27 (by decide) (ref := RX12) kw_1085 rfl rfl dX12_cuts_96 ?_
                refine j_iconst SS dX12_cuts_99 ?_
                refine j_isub SS (x := c_65) (y := 1) dX12_cuts_100 ?_
                refine j_iald SS hG hP 21 (n := 1501) (f := F_65) rfl (z := (c_65 - 1)) (by omega) (by omega) dX12_cuts_101 ?_
                exact W.iret SS.1 SS.2.1 hr (fun t ht hW => ⟨⟨_, (uV (uV (uI (uI (uL (uV (uI (uI (uI (uV (uI (uI u 10 X_65) 11 Y_65) 12 n_65) 20 A_65) 21 B_65) 22 S_65) 23 m_65) 24 C_65) 25 F_65) 26 W_65) 27 c_65) 28 t_65), rfl, ⟨(F_65 ((c_65 - 1)).toNat), rfl, (⟨X_65, Y_65, n_65, A_65, B_65, S_65, m_65, C_65, F_65, W_65, c_65, t_65, rfl, by first | exact ⟨hI, Or.inr ⟨by omega, Or.inr ⟨by unfold ctM; omega, Or.inr (Or.inr ⟨by omega, n_65, X_65, Y_65, m_65, A_65, B_65, C_65, F_65, c_65, t_65, ⟨hn12, hOP⟩, ⟨hOL, h63⟩, hFC, hc1, Or.inl ⟨by omega, rfl⟩⟩)⟩⟩⟩ | exact ⟨hI, Or.inr ⟨by omega, Or.inr ⟨by unfold ctM; omega, Or.inr (Or.inr ⟨by omega, n_65, X_65, Y_65, m_65, A_65, B_65, C_65, F_65, c_65, t_65, ⟨hn12, hOP⟩, ⟨hOL, h63⟩, hFC, hc1, Or.inr ⟨by omega, Or.inl ⟨by omega, rfl⟩⟩⟩)⟩⟩⟩ | exact ⟨hI, Or.inr ⟨by omega, Or.inr ⟨by unfold ctM; omega, Or.inr (Or.inr ⟨by omega, n_65, X_65, Y_65, m_65, A_65, B_65, C_65, F_65, c_65, t_65, ⟨hn12, hOP⟩, ⟨hOL, h63⟩, hFC, hc1, Or.inr ⟨by omega, Or.inr ⟨by omega, rfl⟩⟩⟩)⟩⟩⟩⟩)⟩, by show va_P D.1 j_cl (mW D o q (uV (uV (uI (uI (uL (uV (uI (uI (uI (uV (uI (uI u 10 X_65) 11 Y_65) 12 n_65) 20 A_65) 21 B_65) 22 S_65) 23 m_65) 24 C_65) 25 F_65) 26 W_65) 27 c_65) 28 t_65)) t.heap; rw [ht]; exact hP⟩, hS.F ht⟩) hS.2.2 dX12_cuts_102 hlk
              · skip
                refine lv_aload_n SS.1 SS.2.1 dX12_cuts_84 rfl (lv_at hl 0 rfl) ?_
                refine j_get SS hG hP 0 (v := .int (J c_65)) (C := RX12) (T := TX12) (N := 31) rfl rfl inX12 27 (by decide) (ref := RX12) kw_1085 rfl rfl dX12_cuts_85 ?_
                refine lv_goto (tgt := 102) SS.1 SS.2.1 dX12_cuts_88 (by decide) ?_
                exact W.iret SS.1 SS.2.1 hr (fun t ht hW => ⟨⟨_, (uV (uV (uI (uI (uL (uV (uI (uI (uI (uV (uI (uI u 10 X_65) 11 Y_65) 12 n_65) 20 A_65) 21 B_65) 22 S_65) 23 m_65) 24 C_65) 25 F_65) 26 W_65) 27 c_65) 28 t_65), rfl, ⟨c_65, rfl, (⟨X_65, Y_65, n_65, A_65, B_65, S_65, m_65, C_65, F_65, W_65, c_65, t_65, rfl, by first | exact ⟨hI, Or.inr ⟨by omega, Or.inr ⟨by unfold ctM; omega, Or.inr (Or.inr ⟨by omega, n_65, X_65, Y_65, m_65, A_65, B_65, C_65, F_65, c_65, t_65, ⟨hn12, hOP⟩, ⟨hOL, h63⟩, hFC, hc1, Or.inl ⟨by omega, rfl⟩⟩)⟩⟩⟩ | exact ⟨hI, Or.inr ⟨by omega, Or.inr ⟨by unfold ctM; omega, Or.inr (Or.inr ⟨by omega, n_65, X_65, Y_65, m_65, A_65, B_65, C_65, F_65, c_65, t_65, ⟨hn12, hOP⟩, ⟨hOL, h63⟩, hFC, hc1, Or.inr ⟨by omega, Or.inl ⟨by omega, rfl⟩⟩⟩)⟩⟩⟩ | exact ⟨hI, Or.inr ⟨by omega, Or.inr ⟨by unfold ctM; omega, Or.inr (Or.inr ⟨by omega, n_65, X_65, Y_65, m_65, A_65, B_65, C_65, F_65, c_65, t_65, ⟨hn12, hOP⟩, ⟨hOL, h63⟩, hFC, hc1, Or.inr ⟨by omega, Or.inr ⟨by omega, rfl⟩⟩⟩)⟩⟩⟩⟩)⟩, by show va_P D.1 j_cl (mW D o q (uV (uV (uI (uI (uL (uV (uI (uI (uI (uV (uI (uI u 10 X_65) 11 Y_65) 12 n_65) 20 A_65) 21 B_65) 22 S_65) 23 m_65) 24 C_65) 25 F_65) 26 W_65) 27 c_65) 28 t_65)) t.heap; rw [ht]; exact hP⟩, hS.F ht⟩) hS.2.2 dX12_cuts_102 hlk
            · skip
              refine j_bipush SS dX12_cuts_75 (by decide +kernel) ?_
              refine lv_goto (tgt := 102) SS.1 SS.2.1 dX12_cuts_77 (by decide) ?_
              exact W.iret SS.1 SS.2.1 hr (fun t ht hW => ⟨⟨_, (uV (uV (uI (uI (uL (uV (uI (uI (uI (uV (uI (uI u 10 X_65) 11 Y_65) 12 n_65) 20 A_65) 21 B_65) 22 S_65) 23 m_65) 24 C_65) 25 F_65) 26 W_65) 27 c_65) 28 t_65), rfl, ⟨(-5), rfl, (⟨X_65, Y_65, n_65, A_65, B_65, S_65, m_65, C_65, F_65, W_65, c_65, t_65, rfl, by first | exact ⟨hI, Or.inr ⟨by omega, Or.inr ⟨by unfold ctM; omega, Or.inr (Or.inr ⟨by omega, n_65, X_65, Y_65, m_65, A_65, B_65, C_65, F_65, c_65, t_65, ⟨hn12, hOP⟩, ⟨hOL, h63⟩, hFC, hc1, Or.inl ⟨by omega, rfl⟩⟩)⟩⟩⟩ | exact ⟨hI, Or.inr ⟨by omega, Or.inr ⟨by unfold ctM; omega, Or.inr (Or.inr ⟨by omega, n_65, X_65, Y_65, m_65, A_65, B_65, C_65, F_65, c_65, t_65, ⟨hn12, hOP⟩, ⟨hOL, h63⟩, hFC, hc1, Or.inr ⟨by omega, Or.inl ⟨by omega, rfl⟩⟩⟩)⟩⟩⟩ | exact ⟨hI, Or.inr ⟨by omega, Or.inr ⟨by unfold ctM; omega, Or.inr (Or.inr ⟨by omega, n_65, X_65, Y_65, m_65, A_65, B_65, C_65, F_65, c_65, t_65, ⟨hn12, hOP⟩, ⟨hOL, h63⟩, hFC, hc1, Or.inr ⟨by omega, Or.inr ⟨by omega, rfl⟩⟩⟩)⟩⟩⟩⟩)⟩, by show va_P D.1 j_cl (mW D o q (uV (uV (uI (uI (uL (uV (uI (uI (uI (uV (uI (uI u 10 X_65) 11 Y_65) 12 n_65) 20 A_65) 21 B_65) 22 S_65) 23 m_65) 24 C_65) 25 F_65) 26 W_65) 27 c_65) 28 t_65)) t.heap; rw [ht]; exact hP⟩, hS.F ht⟩) hS.2.2 dX12_cuts_102 hlk
          · skip
            have hsh := p0.1 s (by omega) (by omega)
            have hgt : 2 < mN u s := by omega
            have hgt0 : 0 < mN u s := by omega
            have hpk : mEd u s + mIn u s ≤ 12 := by omega
            refine lv_aload_n SS.1 SS.2.1 dX12_cuts_45 rfl (lv_at hl 0 rfl) ?_
            refine lv_iload_n SS.1 SS.2.1 dX12_cuts_46 rfl (lv_at hl 1 rfl) ?_
            refine j_vWv SS (As := [.int (J s)]) (rest := []) (c_X12_findAll3 l D o q u A (mW_D hD) s (show 0 ≤ s ∧ s ≤ 7 from (by omega)) (show Sh u s from (p0.1 _ (by omega) (by omega)))) mf_X12_findAll kw_1266 hG hP hP (ci := 8) (q0 := 0) rfl rfl rfl hS (fun _ h => h) rfl hl.1 ⟨⟨Nat.le_of_ble_eq_true rfl, Nat.le_of_ble_eq_true rfl⟩, Nat.le_of_ble_eq_true rfl, Nat.le_refl _, Nat.le_refl _⟩ rfl dX12_cuts_47 (fun u47 H locs h_47 hP _ hS => ?_)
            obtain ⟨X_47, Y_47, n_47, lo_47, hi_47, rfl, h_47⟩ := h_47
            have hP : va_P D.1 j_cl (mW D o q (uV (uI (uI u 10 X_47) 11 Y_47) 12 n_47)) H := hP
            have h_47 : (0 ≤ n_47 ∧ n_47 ≤ 6561 ∧ bd 40 X_47 Y_47 n_47 ∧ OL (PBx u s) n_47 X_47 Y_47 ∧ (bd 40 ((u.1 10)) ((u.1 11)) 6561 → bd 40 X_47 Y_47 6561)) ∧ (0 < mN u s → (∀ k : Int, 0 ≤ k → k < mN u s → lo_47 ≤ mX u s k ∧ mX u s k ≤ hi_47) ∧ (∃ k : Int, 0 ≤ k ∧ k < mN u s ∧ mX u s k = lo_47) ∧ ∃ k : Int, 0 ≤ k ∧ k < mN u s ∧ mX u s k = hi_47) ∧ ∀ L U : Int → Int, LU u s lo_47 hi_47 L U → n_47 ≤ cb_ L U lo_47 (hi_47 + 1 - lo_47) ∨ hi_47 < lo_47 ∧ n_47 = 0 := h_47
            have hn12 : n_47 ≤ 12 := Int.le_trans (fa_pick hsh hgt (h_47.2.1 hgt0) h_47.2.2) hpk
            have hn0 := h_47.1.1
            have hOP := h_47.1.2.2.2.1
            have hos := hOP.2.1
            have hIM : bd 40 X_47 Y_47 6561 := h_47.1.2.2.2.2 p0.2.2
            clear h_47
            clear h_47
            refine lv_aload_n SS.1 SS.2.1 dX12_cuts_50 rfl (lv_at hl 0 rfl) ?_
            refine j_vWv SS (As := []) (rest := []) (c_X12_findSegments3 l D o q (uV (uI (uI u 10 X_47) 11 Y_47) 12 n_47) A (mW_D hD)  (show 0 ≤ n_47 ∧ n_47 ≤ 12 from (by omega)) (show bd 40 (X_47) (Y_47) 6561 from (hIM))) mf_X12_findSegments kw_1412 hG hP hP (ci := 8) (q0 := 0) rfl rfl rfl hS (fun _ h => h) rfl hl.1 ⟨⟨Nat.le_of_ble_eq_true rfl, Nat.le_of_ble_eq_true rfl⟩, Nat.le_of_ble_eq_true rfl, Nat.le_refl _, Nat.le_refl _⟩ rfl dX12_cuts_51 (fun u51 H locs h_51 hP _ hS => ?_)
            obtain ⟨A_51, B_51, S_51, n_51, rfl, h_51⟩ := h_51
            have hP : va_P D.1 j_cl (mW D o q (uV (uI (uI (uI (uV (uI (uI u 10 X_47) 11 Y_47) 12 n_47) 20 A_51) 21 B_51) 22 S_51) 23 n_51)) H := hP
            have h_51 : (sg A_51 B_51 S_51 n_51 (n_47)) ∧ OL (SGP (X_47) (Y_47) (n_47)) n_51 A_51 B_51 ∧ NT9 (-9) (X_47) (Y_47) (n_47) n_51 A_51 B_51 S_51 ∧ n_51 ≤ 63 := h_51
            obtain ⟨hsg6, hOL, hNT, h63⟩ := h_51
            have hm := hsg6.1
            have hcu : (0 ≤ n_47 ∧ n_47 ≤ 12) ∧ bd 40 X_47 Y_47 6561 ∧ sg A_51 B_51 S_51 n_51 n_47 := ⟨by omega, hIM, hsg6⟩
            have hcv : ((0 ≤ n_47 ∧ n_47 ≤ 12) ∧ bd 40 X_47 Y_47 6561 ∧ sg A_51 B_51 S_51 n_51 n_47) ∧ os_s X_47 Y_47 n_47 ∧ OL (SGP X_47 Y_47 n_47) n_51 A_51 B_51 ∧ NT9 (-9) X_47 Y_47 n_47 n_51 A_51 B_51 S_51 ∧ n_51 ≤ 63 := ⟨hcu, hos, hOL, hNT, h63⟩
            refine lv_aload_n SS.1 SS.2.1 dX12_cuts_54 rfl (lv_at hl 0 rfl) ?_
            refine lv_aload_n SS.1 SS.2.1 dX12_cuts_55 rfl (lv_at hl 0 rfl) ?_
            refine j_vRl SS (As := []) (rest := [.ref o]) (c_X12_firstCut3 l D o q (uV (uI (uI (uI (uV (uI (uI u 10 X_47) 11 Y_47) 12 n_47) 20 A_51) 21 B_51) 22 S_51) 23 n_51)  (show CV (uV (uI (uI (uI (uV (uI (uI u 10 X_47) 11 Y_47) 12 n_47) 20 A_51) 21 B_51) 22 S_51) 23 n_51) from (hcv))) mf_X12_firstCut kw_1416 hG hP hP (ci := 8) (q0 := 0) rfl rfl rfl rfl hl.1 ⟨⟨Nat.le_of_ble_eq_true rfl, Nat.le_of_ble_eq_true rfl⟩, Nat.le_of_ble_eq_true rfl, Nat.le_refl _, Nat.le_refl _⟩ rfl dX12_cuts_56 (fun x_56 h_56 => ?_)
            obtain ⟨f9, hf1, hf2⟩ := (show ∃ f9 : Nat → Bool, FC9 X_47 Y_47 A_51 B_51 n_51.toNat f9 ∧ x_56 = PB f9 n_51.toNat from h_56)
            refine j_vRi SS (As := [.long x_56]) (rest := []) (c_X12_sizeOf3 l D o q (uV (uI (uI (uI (uV (uI (uI u 10 X_47) 11 Y_47) 12 n_47) 20 A_51) 21 B_51) 22 S_51) 23 n_51) x_56 (show 0 ≤ n_51 ∧ n_51 ≤ 63 from (by omega))) mf_X12_sizeOf kw_1434 hG hP hP (ci := 8) (q0 := 0) rfl rfl rfl rfl hl.1 ⟨⟨Nat.le_of_ble_eq_true rfl, Nat.le_of_ble_eq_true rfl⟩, Nat.le_of_ble_eq_true rfl, Nat.le_refl _, Nat.le_refl _⟩ rfl dX12_cuts_59 (fun z_59 h_59 => ?_)
            have h_59 : (0 ≤ z_59 ∧ z_59 ≤ 66) ∧ ∀ f9 : Nat → Bool, x_56 = PB f9 (n_51).toNat → z_59 = nf9 f9 (n_51).toNat := h_59
            have nz59 : z_59 = nf9 f9 n_51.toNat := h_59.2 f9 hf2
            exact W.iret SS.1 SS.2.1 hr (fun t ht hW => ⟨⟨_, (uV (uV (uI (uI (uL (uV (uI (uI (uI (uV (uI (uI u 10 X_47) 11 Y_47) 12 n_47) 20 A_51) 21 B_51) 22 S_51) 23 n_51) 24 (u.2.1 24)) 25 (u.1 25)) 26 (u.1 26)) 27 (u.2.2 27)) 28 (u.2.2 28)), rfl, ⟨z_59, rfl, (⟨X_47, Y_47, n_47, A_51, B_51, S_51, n_51, (u.2.1 24), (u.1 25), (u.1 26), (u.2.2 27), (u.2.2 28), rfl, ⟨⟨p0.1, p0.2.1, hIM⟩, Or.inr ⟨by omega, Or.inr ⟨by unfold ctM; omega, Or.inr (Or.inl ⟨by omega, hsh, n_47, X_47, Y_47, n_51, A_51, B_51, f9, hOP, ⟨hOL, h63⟩, hf1, nz59⟩)⟩⟩⟩⟩)⟩, by show va_P D.1 j_cl (mW D o q (uV (uV (uI (uI (uL (uV (uI (uI (uI (uV (uI (uI u 10 X_47) 11 Y_47) 12 n_47) 20 A_51) 21 B_51) 22 S_51) 23 n_51) 24 (u.2.1 24)) 25 (u.1 25)) 26 (u.1 26)) 27 (u.2.2 27)) 28 (u.2.2 28))) t.heap; rw [ht]; exact hP⟩, hS.F ht⟩) hS.2.2 dX12_cuts_62 hlk
        · skip
          refine lv_aload_n SS.1 SS.2.1 dX12_cuts_34 rfl (lv_at hl 0 rfl) ?_
          refine lv_iload_n SS.1 SS.2.1 dX12_cuts_35 rfl (lv_at hl 1 rfl) ?_
          refine j_vRi SS (As := [.int (J s)]) (rest := []) (c_X12_areaOf l D o q u s (show 0 ≤ s ∧ s ≤ 7 from (by omega)) (show Sh u s from (p0.1 _ (by omega) (by omega)))) mf_X12_areaOf kw_1218 hG hP hP (ci := 8) (q0 := 0) rfl rfl rfl rfl hl.1 ⟨⟨Nat.le_of_ble_eq_true rfl, Nat.le_of_ble_eq_true rfl⟩, Nat.le_of_ble_eq_true rfl, Nat.le_refl _, Nat.le_refl _⟩ rfl dX12_cuts_36 (fun z_36 h_36 => ?_)
          have h_36 : z_36 = mAr u s ∧ -80000 ≤ z_36 ∧ z_36 ≤ 80000 := h_36
          exact W.iret SS.1 SS.2.1 hr (fun t ht hW => ⟨⟨_, (uV (uV (uI (uI (uL (uV (uI (uI (uI (uV (uI (uI u 10 (u.1 10)) 11 (u.1 11)) 12 (u.2.2 12)) 20 (u.1 20)) 21 (u.1 21)) 22 (u.1 22)) 23 (u.2.2 23)) 24 (u.2.1 24)) 25 (u.1 25)) 26 (u.1 26)) 27 (u.2.2 27)) 28 (u.2.2 28)), rfl, ⟨z_36, rfl, (⟨(u.1 10), (u.1 11), (u.2.2 12), (u.1 20), (u.1 21), (u.1 22), (u.2.2 23), (u.2.1 24), (u.1 25), (u.1 26), (u.2.2 27), (u.2.2 28), rfl, ⟨p0, Or.inr ⟨by omega, Or.inr ⟨by unfold ctM; omega, Or.inl ⟨by omega, h_36.1, by omega⟩⟩⟩⟩⟩)⟩, by show va_P D.1 j_cl (mW D o q (uV (uV (uI (uI (uL (uV (uI (uI (uI (uV (uI (uI u 10 (u.1 10)) 11 (u.1 11)) 12 (u.2.2 12)) 20 (u.1 20)) 21 (u.1 21)) 22 (u.1 22)) 23 (u.2.2 23)) 24 (u.2.1 24)) 25 (u.1 25)) 26 (u.1 26)) 27 (u.2.2 27)) 28 (u.2.2 28))) t.heap; rw [ht]; exact hP⟩, hS.F ht⟩) hS.2.2 dX12_cuts_39 hlk
      · skip
        refine j_bipush SS dX12_cuts_26 (by decide +kernel) ?_
        exact W.iret SS.1 SS.2.1 hr (fun t ht hW => ⟨⟨_, (uV (uV (uI (uI (uL (uV (uI (uI (uI (uV (uI (uI u 10 (u.1 10)) 11 (u.1 11)) 12 (u.2.2 12)) 20 (u.1 20)) 21 (u.1 21)) 22 (u.1 22)) 23 (u.2.2 23)) 24 (u.2.1 24)) 25 (u.1 25)) 26 (u.1 26)) 27 (u.2.2 27)) 28 (u.2.2 28)), rfl, ⟨(-2), rfl, (⟨(u.1 10), (u.1 11), (u.2.2 12), (u.1 20), (u.1 21), (u.1 22), (u.2.2 23), (u.2.1 24), (u.1 25), (u.1 26), (u.2.2 27), (u.2.2 28), rfl, ⟨p0, Or.inr ⟨by omega, Or.inl ⟨fun q => by unfold ctM at q; omega, rfl⟩⟩⟩⟩)⟩, by show va_P D.1 j_cl (mW D o q (uV (uV (uI (uI (uL (uV (uI (uI (uI (uV (uI (uI u 10 (u.1 10)) 11 (u.1 11)) 12 (u.2.2 12)) 20 (u.1 20)) 21 (u.1 21)) 22 (u.1 22)) 23 (u.2.2 23)) 24 (u.2.1 24)) 25 (u.1 25)) 26 (u.1 26)) 27 (u.2.2 27)) 28 (u.2.2 28))) t.heap; rw [ht]; exact hP⟩, hS.F ht⟩) hS.2.2 dX12_cuts_28 hlk
    · skip
      refine j_iconst SS dX12_cuts_16 ?_
      exact W.iret SS.1 SS.2.1 hr (fun t ht hW => ⟨⟨_, (uV (uV (uI (uI (uL (uV (uI (uI (uI (uV (uI (uI u 10 (u.1 10)) 11 (u.1 11)) 12 (u.2.2 12)) 20 (u.1 20)) 21 (u.1 21)) 22 (u.1 22)) 23 (u.2.2 23)) 24 (u.2.1 24)) 25 (u.1 25)) 26 (u.1 26)) 27 (u.2.2 27)) 28 (u.2.2 28)), rfl, ⟨(-1), rfl, (⟨(u.1 10), (u.1 11), (u.2.2 12), (u.1 20), (u.1 21), (u.1 22), (u.2.2 23), (u.2.1 24), (u.1 25), (u.1 26), (u.2.2 27), (u.2.2 28), rfl, ⟨p0, Or.inl ⟨fun q => by omega, rfl⟩⟩⟩)⟩, by show va_P D.1 j_cl (mW D o q (uV (uV (uI (uI (uL (uV (uI (uI (uI (uV (uI (uI u 10 (u.1 10)) 11 (u.1 11)) 12 (u.2.2 12)) 20 (u.1 20)) 21 (u.1 21)) 22 (u.1 22)) 23 (u.2.2 23)) 24 (u.2.1 24)) 25 (u.1 25)) 26 (u.1 26)) 27 (u.2.2 27)) 28 (u.2.2 28))) t.heap; rw [ht]; exact hP⟩, hS.F ht⟩) hS.2.2 dX12_cuts_17 hlk

