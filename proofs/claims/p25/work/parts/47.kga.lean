
set_option maxHeartbeats 4000000 in
set_option maxRecDepth 100000 in
theorem c_X2_build3b (l : Launch) (D : JD) (q : Nat → Nat) (u : CS) (A : Nat → Prop) (hD : va_D A (cW D q u)) (i : Nat) (hi : i < 8) (p0 : RB 40 u i) (p1 : RB 40 u 9) (p2 : ∀ k : Nat, 0 ≤ u.2.1 2 k ∧ u.2.1 2 k ≤ 12) (p3 : ∀ k : Nat, 0 ≤ u.2.1 3 k ∧ u.2.1 3 k ≤ 12) (p4 : ∀ k : Nat, -1 ≤ u.2.1 4 k ∧ u.2.1 4 k ≤ 63) (p5 : 0 ≤ u.2.2.2 20 ∧ u.2.2.2 20 ≤ 63) (p6 : 0 ≤ u.2.2.2 21 ∧ u.2.2.2 21 ≤ 756) (p7 : 0 ≤ u.2.2.2 22 ∧ u.2.2.2 22 ≤ 1500) (p8 : ∀ k : Nat, 0 ≤ u.2.1 8 k ∧ u.2.1 8 k ≤ 1500) (p9 : u.2.2.2 23 = 0 ∨ u.2.2.2 23 = 1) (p10 : -2147483648 ≤ u.2.2.2 24 ∧ u.2.2.2 24 ≤ 2147483647) (p11 : -2147483648 ≤ u.1.2.2.2.2 i ∧ u.1.2.2.2.2 i ≤ 2147483647) (p12 : 1 ≤ u.1.2.2.1 i) (p13 : ¬ FT9 u i 12) : Met l yX2_build (jw yX2_build cX2_build 2 (some .boolean)) (jr 5 122) (jP [.ref (q 6), .ref (q (8 + 5 * i))] D (fun H => va_P D.1 j_cl (cW D q u) H)) (jWi (fun z u' => ∃ n : Int, ∃ f : Nat → Int, ∃ g : Nat → Int, ∃ ls9 : Nat → Int, ∃ gr9 : Nat → Int, ∃ nu9 : Nat → Int, ∃ w3 : Nat → Int64, ∃ w4 : Nat → Int64, ∃ w5 : Nat → Int64, ∃ v20 : Int, ∃ v21 : Int, ∃ st2 : Nat → Int64, ∃ fa : Nat → Int, ∃ pc9 : Nat → Int, ∃ v22 : Int, ∃ sp : Int, ∃ v24 : Int, u' = (sY (sX (sV (sV (sV (sV (sV (sL (sL (sL (sL (sI (sI (sI (sI (sI (sC u 9 n) 2 ls9) 3 gr9) 4 nu9) 7 fa) 8 pc9) 2 st2) 3 w3) 4 w4) 5 w5) 20 v20) 21 v21) 22 v22) 23 sp) 24 v24) 9 f) 9 g) ∧ (((z = 0 ∨ z = 1) ∧ ((0 ≤ n ∧ n ≤ 12) ∧ RV 40 f g) ∧ (∀ k : Nat, 0 ≤ ls9 k ∧ ls9 k ≤ 12) ∧ (∀ k : Nat, 0 ≤ gr9 k ∧ gr9 k ≤ 12) ∧ (∀ k : Nat, -1 ≤ nu9 k ∧ nu9 k ≤ 63) ∧ ((0 ≤ v20 ∧ v20 ≤ 63) ∧ 0 ≤ v21 ∧ v21 ≤ 756) ∧ ((0 ≤ v22 ∧ v22 ≤ 1500) ∧ (∀ k : Nat, 0 ≤ pc9 k ∧ pc9 k ≤ 1500) ∧ (sp = 0 ∨ sp = 1)) ∧ -2147483648 ≤ v24 ∧ v24 ≤ 2147483647) ∧ (z = 1 ↔ sp = 0) ∧ ((u.2.2.2 24 = u.1.2.2.2.2 i ∧ ((n = u.1.2.2.1 9 ∧ f = u.1.1 9 ∧ g = u.1.2.1 9) ∧ (ls9 = u.2.1 2 ∧ gr9 = u.2.1 3 ∧ nu9 = u.2.1 4 ∧ fa = u.2.1 7 ∧ pc9 = u.2.1 8) ∧ (st2 = u.2.2.1 2 ∧ w3 = u.2.2.1 3 ∧ w4 = u.2.2.1 4 ∧ w5 = u.2.2.1 5) ∧ (v20 = u.2.2.2 20 ∧ v21 = u.2.2.2 21 ∧ v22 = u.2.2.2 22 ∧ sp = u.2.2.2 23 ∧ v24 = u.2.2.2 24))) ∨ (v24 = u.1.2.2.2.2 i ∧ (FT9 u i 12 → ML9 (inC u i) n f g ls9 gr9 nu9 v20 w3 w4 w5 v21 ∧ FCT f g n ls9 gr9 v20 st2 fa v22 sp))))) (fun u' H => va_P D.1 j_cl (cW D q u') H) A) 0 0 A := by
  refine Met.ofW (cc := cX2_build) (maxL := 2) (ret := (some .boolean)) (by decide) rfl ?_
  intro pr en st mi args below meth co s₁ B hml hv
  obtain ⟨rfl, hG, hP⟩ := hv
  have hr := B.returns
  have hlk := B.notSynchronized
  have SS : jS pr mi co cX2_build 2 st _ RX2 := ⟨B.exec, B.bytes, hml, findClass_of_methodNamed B.named, fun w hw => atoms_spec (ws := (jw yX2_build cX2_build 2 (some .boolean))) B.pre w (List.mem_cons_of_mem _ hw)⟩
  have hl := lv_entry ([.ref (q 6), .ref (q (8 + 5 * i))]) (n := 2) (Nat.le_of_ble_eq_true rfl)
  rw [lg_entry_eq]
  generalize (lg_sl ([.ref (q 6), .ref (q (8 + 5 * i))]) ++ List.replicate (2 - (lg_sl ([.ref (q 6), .ref (q (8 + 5 * i))])).length) Slot.unset).toArray = ls at hl ⊢
  have hl : lv_has ls 2 [(0, .ref (q 6)), (1, .ref (q (8 + 5 * i)))] := hl
  have hS : va_S A st.heap st.heap [] := va_S.rf
  refine lv_aload_n SS.1 SS.2.1 dX2_build_0 rfl (lv_at hl 0 rfl) ?_
  refine j_get SS hG hP 6 (v := .int (J (u.2.2.2 24))) (C := RX2) (T := TX2) (N := 7) rfl rfl inX2 6 (by decide) (ref := "GridPolygons$Cuts") kw_347 rfl rfl dX2_build_1 ?_
  refine lv_aload_n SS.1 SS.2.1 dX2_build_4 rfl (lv_at hl 1 rfl) ?_
  refine j_get SS hG hP (8 + 5 * i) (v := .int (J (u.1.2.2.2.2 i))) (C := RX10) (T := TX10) (N := 3) (cw_shape (by omega)) rfl inX10 2 (by decide) (ref := "GridPolygons$Shape") kw_158 rfl rfl dX2_build_5 ?_
  refine j_icmp_eq SS (tgt := 34) (x := (u.2.2.2 24)) (y := (u.1.2.2.2.2 i)) dX2_build_8 (by decide) (by omega) (by omega) (fun c_8 => ?_) (fun c_8 => ?_)
  · skip
    refine lv_aload_n SS.1 SS.2.1 dX2_build_34 rfl (lv_at hl 0 rfl) ?_
    refine j_get SS hG hP 6 (v := .int (J (u.2.2.2 23))) (C := RX2) (T := TX2) (N := 7) rfl rfl inX2 5 (by decide) (ref := "GridPolygons$Cuts") kw_346 rfl rfl dX2_build_35 ?_
    refine j_if_ne SS (tgt := 45) (x := (u.2.2.2 23)) dX2_build_38 (by decide) (by omega) (fun c_38 => ?_) (fun c_38 => ?_)
    · skip
      refine j_iconst SS dX2_build_45 ?_
      exact W.zret SS.1 SS.2.1 hr (j_nz (by decide)) (fun t0 ht hW => ⟨⟨_, (sY (sX (sV (sV (sV (sV (sV (sL (sL (sL (sL (sI (sI (sI (sI (sI (sC u 9 (u.1.2.2.1 9)) 2 (u.2.1 2)) 3 (u.2.1 3)) 4 (u.2.1 4)) 7 (u.2.1 7)) 8 (u.2.1 8)) 2 (u.2.2.1 2)) 3 (u.2.2.1 3)) 4 (u.2.2.1 4)) 5 (u.2.2.1 5)) 20 (u.2.2.2 20)) 21 (u.2.2.2 21)) 22 (u.2.2.2 22)) 23 (u.2.2.2 23)) 24 (u.2.2.2 24)) 9 (u.1.1 9)) 9 (u.1.2.1 9)), rfl, ⟨0, rfl, (⟨(u.1.2.2.1 9), (u.1.1 9), (u.1.2.1 9), (u.2.1 2), (u.2.1 3), (u.2.1 4), (u.2.2.1 3), (u.2.2.1 4), (u.2.2.1 5), (u.2.2.2 20), (u.2.2.2 21), (u.2.2.1 2), (u.2.1 7), (u.2.1 8), (u.2.2.2 22), (u.2.2.2 23), (u.2.2.2 24), rfl, by first | exact ⟨⟨by omega, p1, p2, p3, p4, ⟨by omega, by omega⟩, ⟨by omega, p8, p9⟩, by omega⟩, by omega, Or.inl ⟨by omega, ⟨rfl, rfl, rfl⟩, ⟨rfl, rfl, rfl, rfl, rfl⟩, ⟨rfl, rfl, rfl, rfl⟩, rfl, rfl, rfl, rfl, rfl⟩⟩ | exact ⟨⟨by omega, h_27.1, h_27.2.1, h_27.2.2.1, h_27.2.2.2.1, ⟨by omega, by omega⟩, ⟨by omega, h_31.2.1, h_31.2.2⟩, by omega⟩, by omega, Or.inr ⟨rfl, fun w9 => absurd w9 p13⟩⟩⟩)⟩, by show va_P D.1 j_cl (cW D q (sY (sX (sV (sV (sV (sV (sV (sL (sL (sL (sL (sI (sI (sI (sI (sI (sC u 9 (u.1.2.2.1 9)) 2 (u.2.1 2)) 3 (u.2.1 3)) 4 (u.2.1 4)) 7 (u.2.1 7)) 8 (u.2.1 8)) 2 (u.2.2.1 2)) 3 (u.2.2.1 3)) 4 (u.2.2.1 4)) 5 (u.2.2.1 5)) 20 (u.2.2.2 20)) 21 (u.2.2.2 21)) 22 (u.2.2.2 22)) 23 (u.2.2.2 23)) 24 (u.2.2.2 24)) 9 (u.1.1 9)) 9 (u.1.2.1 9))) t0.heap; rw [ht]; first | exact hP | (simp only [sI_id, sL_id, sC_id, sX_id, sY_id, sH_id, sT_id, sV_id]; exact hP)⟩, hS.F ht⟩) hS.2.2 dX2_build_46 hlk
    · skip
      refine j_iconst SS dX2_build_41 ?_
      refine lv_goto (tgt := 46) SS.1 SS.2.1 dX2_build_42 (by decide) ?_
      exact W.zret SS.1 SS.2.1 hr (j_nz (by decide)) (fun t0 ht hW => ⟨⟨_, (sY (sX (sV (sV (sV (sV (sV (sL (sL (sL (sL (sI (sI (sI (sI (sI (sC u 9 (u.1.2.2.1 9)) 2 (u.2.1 2)) 3 (u.2.1 3)) 4 (u.2.1 4)) 7 (u.2.1 7)) 8 (u.2.1 8)) 2 (u.2.2.1 2)) 3 (u.2.2.1 3)) 4 (u.2.2.1 4)) 5 (u.2.2.1 5)) 20 (u.2.2.2 20)) 21 (u.2.2.2 21)) 22 (u.2.2.2 22)) 23 (u.2.2.2 23)) 24 (u.2.2.2 24)) 9 (u.1.1 9)) 9 (u.1.2.1 9)), rfl, ⟨1, rfl, (⟨(u.1.2.2.1 9), (u.1.1 9), (u.1.2.1 9), (u.2.1 2), (u.2.1 3), (u.2.1 4), (u.2.2.1 3), (u.2.2.1 4), (u.2.2.1 5), (u.2.2.2 20), (u.2.2.2 21), (u.2.2.1 2), (u.2.1 7), (u.2.1 8), (u.2.2.2 22), (u.2.2.2 23), (u.2.2.2 24), rfl, by first | exact ⟨⟨by omega, p1, p2, p3, p4, ⟨by omega, by omega⟩, ⟨by omega, p8, p9⟩, by omega⟩, by omega, Or.inl ⟨by omega, ⟨rfl, rfl, rfl⟩, ⟨rfl, rfl, rfl, rfl, rfl⟩, ⟨rfl, rfl, rfl, rfl⟩, rfl, rfl, rfl, rfl, rfl⟩⟩ | exact ⟨⟨by omega, h_27.1, h_27.2.1, h_27.2.2.1, h_27.2.2.2.1, ⟨by omega, by omega⟩, ⟨by omega, h_31.2.1, h_31.2.2⟩, by omega⟩, by omega, Or.inr ⟨rfl, fun w9 => absurd w9 p13⟩⟩⟩)⟩, by show va_P D.1 j_cl (cW D q (sY (sX (sV (sV (sV (sV (sV (sL (sL (sL (sL (sI (sI (sI (sI (sI (sC u 9 (u.1.2.2.1 9)) 2 (u.2.1 2)) 3 (u.2.1 3)) 4 (u.2.1 4)) 7 (u.2.1 7)) 8 (u.2.1 8)) 2 (u.2.2.1 2)) 3 (u.2.2.1 3)) 4 (u.2.2.1 4)) 5 (u.2.2.1 5)) 20 (u.2.2.2 20)) 21 (u.2.2.2 21)) 22 (u.2.2.2 22)) 23 (u.2.2.2 23)) 24 (u.2.2.2 24)) 9 (u.1.1 9)) 9 (u.1.2.1 9))) t0.heap; rw [ht]; first | exact hP | (simp only [sI_id, sL_id, sC_id, sX_id, sY_id, sH_id, sT_id, sV_id]; exact hP)⟩, hS.F ht⟩) hS.2.2 dX2_build_46 hlk
  · skip
    refine lv_aload_n SS.1 SS.2.1 dX2_build_11 rfl (lv_at hl 0 rfl) ?_
    refine lv_aload_n SS.1 SS.2.1 dX2_build_12 rfl (lv_at hl 1 rfl) ?_
    refine j_get SS hG hP (8 + 5 * i) (v := .int (J (u.1.2.2.2.2 i))) (C := RX10) (T := TX10) (N := 3) (cw_shape (by omega)) rfl inX10 2 (by decide) (ref := "GridPolygons$Shape") kw_158 rfl rfl dX2_build_13 ?_
    refine j_put SS hG hP (cW_D hD) hS 6 (v := .int (J (u.1.2.2.2.2 i))) (ty := .int) (C := RX2) (T := TX2) (N := 7) rfl rfl inX2 tyX2 tyX2_ok nmX2 6 (by decide) (ref := "GridPolygons$Cuts") kw_347 rfl rfl (by decide +kernel) rfl rfl (Nat.le_of_ble_eq_true rfl) dX2_build_16 (ws' := (cW D q (sV u 24 (u.1.2.2.2.2 i)))) rfl (fun H locs hP hS => ?_)
    refine lv_aload_n SS.1 SS.2.1 dX2_build_19 rfl (lv_at hl 0 rfl) ?_
    refine j_get SS hG hP 6 (v := .ref (q 66)) (C := RX2) (T := TX2) (N := 7) rfl rfl inX2 0 (by decide) (ref := "GridPolygons$Cuts") kw_340 rfl rfl dX2_build_20 ?_
    refine lv_aload_n SS.1 SS.2.1 dX2_build_23 rfl (lv_at hl 1 rfl) ?_
    refine j_get SS hG hP (8 + 5 * i) (v := .ref (q (9 + 5 * i))) (C := RX10) (T := TX10) (N := 3) (cw_shape (by omega)) rfl inX10 0 (by decide) (ref := "GridPolygons$Shape") kw_152 rfl rfl dX2_build_24 ?_
    refine j_vWv SS (As := [.ref (q (9 + 5 * i))]) (rest := []) (c_X5_build l D q (sV u 24 (u.1.2.2.2.2 i)) A (cW_D hD) i (by omega)  (show RB 40 (sV u 24 (u.1.2.2.2.2 i)) i from (p0)) (show RB 40 (sV u 24 (u.1.2.2.2.2 i)) 9 from (p1)) (show ∀ k : Nat, 0 ≤ (u.2.1 2) k ∧ (u.2.1 2) k ≤ 12 from (p2)) (show ∀ k : Nat, 0 ≤ (u.2.1 3) k ∧ (u.2.1 3) k ≤ 12 from (p3)) (show ∀ k : Nat, -1 ≤ (u.2.1 4) k ∧ (u.2.1 4) k ≤ 63 from (p4))) mf_X5_build kw_869 hG hP hP (ci := 5) (q0 := 66) rfl rfl rfl hS (fun _ h => h) rfl hl.1 ⟨⟨Nat.le_of_ble_eq_true rfl, Nat.le_of_ble_eq_true rfl⟩, Nat.le_of_ble_eq_true rfl, Nat.le_refl _, Nat.le_refl _⟩ rfl dX2_build_27 (fun u27 H locs h_27 hP _ hS => ?_)
    obtain ⟨n_27, f_27, g_27, ls9_27, gr9_27, nu9_27, w3_27, w4_27, w5_27, v20_27, v21_27, rfl, h_27⟩ := h_27
    have hP : va_P D.1 j_cl (cW D q (sY (sX (sV (sV (sV (sL (sL (sL (sI (sI (sI (sC u 9 n_27) 2 ls9_27) 3 gr9_27) 4 nu9_27) 3 w3_27) 4 w4_27) 5 w5_27) 20 v20_27) 21 v21_27) 24 (u.1.2.2.2.2 i)) 9 f_27) 9 g_27)) H := hP
    have h_27 : ((0 ≤ n_27 ∧ n_27 ≤ 12) ∧ RV 40 f_27 g_27) ∧ (∀ k : Nat, 0 ≤ ls9_27 k ∧ ls9_27 k ≤ 12) ∧ (∀ k : Nat, 0 ≤ gr9_27 k ∧ gr9_27 k ≤ 12) ∧ (∀ k : Nat, -1 ≤ nu9_27 k ∧ nu9_27 k ≤ 63) ∧ (0 ≤ v20_27 ∧ v20_27 ≤ 63) ∧ 0 ≤ v21_27 ∧ v21_27 ≤ 756 := h_27
    refine lv_aload_n SS.1 SS.2.1 dX2_build_30 rfl (lv_at hl 0 rfl) ?_
    refine j_vWv SS (As := []) (rest := []) (c_X2_search l D q (sY (sX (sV (sV (sV (sL (sL (sL (sI (sI (sI (sC u 9 n_27) 2 ls9_27) 3 gr9_27) 4 nu9_27) 3 w3_27) 4 w4_27) 5 w5_27) 20 v20_27) 21 v21_27) 24 (u.1.2.2.2.2 i)) 9 f_27) 9 g_27) A (cW_D hD)   (show 0 ≤ v20_27 ∧ v20_27 ≤ 63 from (by omega)) (show 0 ≤ v21_27 ∧ v21_27 ≤ 756 from (by omega)) (show ∀ k : Nat, 0 ≤ (u.2.1 8) k ∧ (u.2.1 8) k ≤ 1500 from (p8))) mf_X2_search kw_928 hG hP hP (ci := 2) (q0 := 6) rfl rfl rfl hS (fun _ h => h) rfl hl.1 ⟨⟨Nat.le_of_ble_eq_true rfl, Nat.le_of_ble_eq_true rfl⟩, Nat.le_of_ble_eq_true rfl, Nat.le_refl _, Nat.le_refl _⟩ rfl dX2_build_31 (fun u31 H locs h_31 hP _ hS => ?_)
    obtain ⟨st2_31, fa_31, pc9_31, n_31, sp_31, rfl, h_31⟩ := h_31
    have hP : va_P D.1 j_cl (cW D q (sY (sX (sV (sV (sV (sV (sV (sL (sL (sL (sL (sI (sI (sI (sI (sI (sC u 9 n_27) 2 ls9_27) 3 gr9_27) 4 nu9_27) 7 fa_31) 8 pc9_31) 2 st2_31) 3 w3_27) 4 w4_27) 5 w5_27) 20 v20_27) 21 v21_27) 22 n_31) 23 sp_31) 24 (u.1.2.2.2.2 i)) 9 f_27) 9 g_27)) H := hP
    have h_31 : (0 ≤ n_31 ∧ n_31 ≤ 1500) ∧ (∀ k : Nat, 0 ≤ pc9_31 k ∧ pc9_31 k ≤ 1500) ∧ (sp_31 = 0 ∨ sp_31 = 1) := h_31
    refine lv_aload_n SS.1 SS.2.1 dX2_build_34 rfl (lv_at hl 0 rfl) ?_
    refine j_get SS hG hP 6 (v := .int (J sp_31)) (C := RX2) (T := TX2) (N := 7) rfl rfl inX2 5 (by decide) (ref := "GridPolygons$Cuts") kw_346 rfl rfl dX2_build_35 ?_
    refine j_if_ne SS (tgt := 45) (x := sp_31) dX2_build_38 (by decide) (by omega) (fun c_38 => ?_) (fun c_38 => ?_)
    · skip
      refine j_iconst SS dX2_build_45 ?_
      exact W.zret SS.1 SS.2.1 hr (j_nz (by decide)) (fun t0 ht hW => ⟨⟨_, (sY (sX (sV (sV (sV (sV (sV (sL (sL (sL (sL (sI (sI (sI (sI (sI (sC u 9 n_27) 2 ls9_27) 3 gr9_27) 4 nu9_27) 7 fa_31) 8 pc9_31) 2 st2_31) 3 w3_27) 4 w4_27) 5 w5_27) 20 v20_27) 21 v21_27) 22 n_31) 23 sp_31) 24 (u.1.2.2.2.2 i)) 9 f_27) 9 g_27), rfl, ⟨0, rfl, (⟨n_27, f_27, g_27, ls9_27, gr9_27, nu9_27, w3_27, w4_27, w5_27, v20_27, v21_27, st2_31, fa_31, pc9_31, n_31, sp_31, (u.1.2.2.2.2 i), rfl, by first | exact ⟨⟨by omega, p1, p2, p3, p4, ⟨by omega, by omega⟩, ⟨by omega, p8, p9⟩, by omega⟩, by omega, Or.inl ⟨by omega, ⟨rfl, rfl, rfl⟩, ⟨rfl, rfl, rfl, rfl, rfl⟩, ⟨rfl, rfl, rfl, rfl⟩, rfl, rfl, rfl, rfl, rfl⟩⟩ | exact ⟨⟨by omega, h_27.1, h_27.2.1, h_27.2.2.1, h_27.2.2.2.1, ⟨by omega, by omega⟩, ⟨by omega, h_31.2.1, h_31.2.2⟩, by omega⟩, by omega, Or.inr ⟨rfl, fun w9 => absurd w9 p13⟩⟩⟩)⟩, by show va_P D.1 j_cl (cW D q (sY (sX (sV (sV (sV (sV (sV (sL (sL (sL (sL (sI (sI (sI (sI (sI (sC u 9 n_27) 2 ls9_27) 3 gr9_27) 4 nu9_27) 7 fa_31) 8 pc9_31) 2 st2_31) 3 w3_27) 4 w4_27) 5 w5_27) 20 v20_27) 21 v21_27) 22 n_31) 23 sp_31) 24 (u.1.2.2.2.2 i)) 9 f_27) 9 g_27)) t0.heap; rw [ht]; first | exact hP | (simp only [sI_id, sL_id, sC_id, sX_id, sY_id, sH_id, sT_id, sV_id]; exact hP)⟩, hS.F ht⟩) hS.2.2 dX2_build_46 hlk
    · skip
      refine j_iconst SS dX2_build_41 ?_
      refine lv_goto (tgt := 46) SS.1 SS.2.1 dX2_build_42 (by decide) ?_
      exact W.zret SS.1 SS.2.1 hr (j_nz (by decide)) (fun t0 ht hW => ⟨⟨_, (sY (sX (sV (sV (sV (sV (sV (sL (sL (sL (sL (sI (sI (sI (sI (sI (sC u 9 n_27) 2 ls9_27) 3 gr9_27) 4 nu9_27) 7 fa_31) 8 pc9_31) 2 st2_31) 3 w3_27) 4 w4_27) 5 w5_27) 20 v20_27) 21 v21_27) 22 n_31) 23 sp_31) 24 (u.1.2.2.2.2 i)) 9 f_27) 9 g_27), rfl, ⟨1, rfl, (⟨n_27, f_27, g_27, ls9_27, gr9_27, nu9_27, w3_27, w4_27, w5_27, v20_27, v21_27, st2_31, fa_31, pc9_31, n_31, sp_31, (u.1.2.2.2.2 i), rfl, by first | exact ⟨⟨by omega, p1, p2, p3, p4, ⟨by omega, by omega⟩, ⟨by omega, p8, p9⟩, by omega⟩, by omega, Or.inl ⟨by omega, ⟨rfl, rfl, rfl⟩, ⟨rfl, rfl, rfl, rfl, rfl⟩, ⟨rfl, rfl, rfl, rfl⟩, rfl, rfl, rfl, rfl, rfl⟩⟩ | exact ⟨⟨by omega, h_27.1, h_27.2.1, h_27.2.2.1, h_27.2.2.2.1, ⟨by omega, by omega⟩, ⟨by omega, h_31.2.1, h_31.2.2⟩, by omega⟩, by omega, Or.inr ⟨rfl, fun w9 => absurd w9 p13⟩⟩⟩)⟩, by show va_P D.1 j_cl (cW D q (sY (sX (sV (sV (sV (sV (sV (sL (sL (sL (sL (sI (sI (sI (sI (sI (sC u 9 n_27) 2 ls9_27) 3 gr9_27) 4 nu9_27) 7 fa_31) 8 pc9_31) 2 st2_31) 3 w3_27) 4 w4_27) 5 w5_27) 20 v20_27) 21 v21_27) 22 n_31) 23 sp_31) 24 (u.1.2.2.2.2 i)) 9 f_27) 9 g_27)) t0.heap; rw [ht]; first | exact hP | (simp only [sI_id, sL_id, sC_id, sX_id, sY_id, sH_id, sT_id, sV_id]; exact hP)⟩, hS.F ht⟩) hS.2.2 dX2_build_46 hlk

set_option maxHeartbeats 4000000 in
set_option maxRecDepth 100000 in
theorem c_X5_build3 (l : Launch) (D : JD) (q : Nat → Nat) (u : CS) (A : Nat → Prop) (hD : va_D A (cW D q u)) (r : Nat) (hr : r ≤ 8) (p0 : RB 40 u r) (p1 : RB 40 u 9) (p2 : ∀ k : Nat, 0 ≤ u.2.1 2 k ∧ u.2.1 2 k ≤ 12) (p3 : ∀ k : Nat, 0 ≤ u.2.1 3 k ∧ u.2.1 3 k ≤ 12) (p4 : ∀ k : Nat, -1 ≤ u.2.1 4 k ∧ u.2.1 4 k ≤ 63) (p5 : 1 ≤ u.1.2.2.1 r) (p6 : FT9 u r 12) : Met l yX5_build (jw yX5_build cX5_build 4 none) (jr 4 99) (jP [.ref (q 66), .ref (q (9 + 5 * r))] D (fun H => va_P D.1 j_cl (cW D q u) H)) (jWv (fun u' => ∃ n : Int, ∃ f : Nat → Int, ∃ g : Nat → Int, ∃ ls9 : Nat → Int, ∃ gr9 : Nat → Int, ∃ nu9 : Nat → Int, ∃ w3 : Nat → Int64, ∃ w4 : Nat → Int64, ∃ w5 : Nat → Int64, ∃ v20 : Int, ∃ v21 : Int, u' = (sY (sX (sV (sV (sL (sL (sL (sI (sI (sI (sC u 9 n) 2 ls9) 3 gr9) 4 nu9) 3 w3) 4 w4) 5 w5) 20 v20) 21 v21) 9 f) 9 g) ∧ ((((0 ≤ n ∧ n ≤ 12) ∧ RV 40 f g) ∧ (∀ k : Nat, 0 ≤ ls9 k ∧ ls9 k ≤ 12) ∧ (∀ k : Nat, 0 ≤ gr9 k ∧ gr9 k ≤ 12) ∧ (∀ k : Nat, -1 ≤ nu9 k ∧ nu9 k ≤ 63) ∧ (0 ≤ v20 ∧ v20 ≤ 63) ∧ 0 ≤ v21 ∧ v21 ≤ 756) ∧ ML9 (inC u r) n f g ls9 gr9 nu9 v20 w3 w4 w5 v21)) (fun u' H => va_P D.1 j_cl (cW D q u') H) A) 0 0 A := by
  refine Met.ofW (cc := cX5_build) (maxL := 4) (ret := none) (by decide) rfl ?_
  intro pr en st mi args below meth co s₁ B hml hv
  obtain ⟨rfl, hG, hP⟩ := hv
  have hr := B.returns
  have hlk := B.notSynchronized
  have SS : jS pr mi co cX5_build 4 st _ RX5 := ⟨B.exec, B.bytes, hml, findClass_of_methodNamed B.named, fun w hw => atoms_spec (ws := (jw yX5_build cX5_build 4 none)) B.pre w (List.mem_cons_of_mem _ hw)⟩
  have hl := lv_entry ([.ref (q 66), .ref (q (9 + 5 * r))]) (n := 4) (Nat.le_of_ble_eq_true rfl)
  rw [lg_entry_eq]
  generalize (lg_sl ([.ref (q 66), .ref (q (9 + 5 * r))]) ++ List.replicate (4 - (lg_sl ([.ref (q 66), .ref (q (9 + 5 * r))])).length) Slot.unset).toArray = ls at hl ⊢
  have hl : lv_has ls 4 [(0, .ref (q 66)), (1, .ref (q (9 + 5 * r)))] := hl
  have hS : va_S A st.heap st.heap [] := va_S.rf
  have hR9 : RB 40 u 9 := p1
  refine lv_aload_n SS.1 SS.2.1 dX5_build_0 rfl (lv_at hl 0 rfl) ?_
  refine j_get SS hG hP 66 (v := .ref (q (9 + 5 * 9))) (C := RX5) (T := TX5) (N := 9) rfl rfl inX5 0 (by decide) (ref := "GridPolygons$Mesh") kw_310 rfl rfl dX5_build_1 ?_
  refine lv_aload_n SS.1 SS.2.1 dX5_build_4 rfl (lv_at hl 1 rfl) ?_
  refine j_vWv SS (As := [.ref (q (9 + 5 * r))]) (rest := []) (c_X6_fill3_9 l D q u A (cW_D hD) r (by omega)  (show RB 40 u r from (p0)) (show RB 40 u 9 from (p1)) (show 1 ≤ (u.1.2.2.1 r) from (p5))) mf_X6_fill kw_873 hG hP hP (ci := 6) (q0 := (9 + 5 * 9)) rfl (cw_pts (by omega)) rfl hS (fun _ h => h) rfl hl.1 ⟨⟨Nat.le_of_ble_eq_true rfl, Nat.le_of_ble_eq_true rfl⟩, Nat.le_of_ble_eq_true rfl, Nat.le_refl _, Nat.le_refl _⟩ rfl dX5_build_5 (fun u5 H locs h_5 hP _ hS => ?_)
  obtain ⟨n_5, f_5, g_5, rfl, h_5⟩ := h_5
  have hP : va_P D.1 j_cl (cW D q (sY (sX (sC u 9 n_5) 9 f_5) 9 g_5)) H := hP
  have h_5 : ((0 ≤ n_5 ∧ n_5 ≤ 12) ∧ RV 40 f_5 g_5) ∧ (FT9 u r 12 → OL (inC u r) n_5 f_5 g_5) := h_5
  obtain ⟨h_5, hop5⟩ := h_5
  have hOP5 := hop5 p6
  have hR9 : (0 ≤ n_5 ∧ n_5 ≤ (rl 9 : Int)) ∧ RV 40 f_5 g_5 := h_5
  refine lv_aload_n SS.1 SS.2.1 dX5_build_8 rfl (lv_at hl 0 rfl) ?_
  refine j_iconst SS dX5_build_9 ?_
  refine j_put SS hG hP (cW_D hD) hS 66 (v := .int (J 0)) (ty := .int) (C := RX5) (T := TX5) (N := 9) rfl rfl inX5 tyX5 tyX5_ok nmX5 5 (by decide) (ref := "GridPolygons$Mesh") kw_315 rfl rfl (by decide +kernel) rfl rfl (Nat.le_of_ble_eq_true rfl) dX5_build_10 (ws' := (cW D q (sY (sX (sV (sC u 9 n_5) 20 0) 9 f_5) 9 g_5))) rfl (fun H locs hP hS => ?_)
  refine lv_aload_n SS.1 SS.2.1 dX5_build_13 rfl (lv_at hl 0 rfl) ?_
  refine j_iconst SS dX5_build_14 ?_
  refine j_put SS hG hP (cW_D hD) hS 66 (v := .int (J 0)) (ty := .int) (C := RX5) (T := TX5) (N := 9) rfl rfl inX5 tyX5 tyX5_ok nmX5 8 (by decide) (ref := "GridPolygons$Mesh") kw_319 rfl rfl (by decide +kernel) rfl rfl (Nat.le_of_ble_eq_true rfl) dX5_build_15 (ws' := (cW D q (sY (sX (sV (sV (sC u 9 n_5) 20 0) 21 0) 9 f_5) 9 g_5))) rfl (fun H locs hP hS => ?_)
  refine lv_aload_n SS.1 SS.2.1 dX5_build_18 rfl (lv_at hl 0 rfl) ?_
  refine j_get SS hG hP 66 (v := .ref (q 58)) (C := RX5) (T := TX5) (N := 9) rfl rfl inX5 4 (by decide) (ref := "GridPolygons$Mesh") kw_314 rfl rfl dX5_build_19 ?_
  refine j_iconst SS dX5_build_22 ?_
  refine j_sWv SS (As := [.ref (q 58), .int (J (-1))]) (rest := []) (c_J7_fill_53178 l D (ws := (cW D q (sY (sX (sV (sV (sC u 9 n_5) 20 0) 21 0) 9 f_5) 9 g_5))) (A := A) (cW_D hD) 58 (-1) rfl (by first | decide | omega)) mf_J7_fill_53178 kw_884 hG hP hS (fun _ h => h) rfl hl.1 ⟨⟨Nat.le_of_ble_eq_true rfl, Nat.le_of_ble_eq_true rfl⟩, Nat.le_of_ble_eq_true rfl, Nat.le_refl _, Nat.le_refl _⟩ rfl dX5_build_23 (fun _ H locs _ hP _ hS => ?_)
  have hP : va_P D.1 j_cl (cW D q (sY (sX (sV (sV (sI (sC u 9 n_5) 4 (jf (u.2.1 4) (-1) 144)) 20 0) 21 0) 9 f_5) 9 g_5)) H := hP
  have hN23 := JF_b (n := 144) (v := -1) p4 (by omega)
  refine j_iconst SS dX5_build_26 ?_
  refine lv_istore_n (lv' := [(2, .int (J 0)), (0, .ref (q 66)), (1, .ref (q (9 + 5 * r)))]) SS.1 SS.2.1 dX5_build_27 rfl hl (by decide) rfl (fun ls hl => ?_)
  have L_28 : ∀ (nn : Nat) (a : Int) (n1 : Int) (f1 : Nat → Int) (g1 : Nat → Int) (h1 : Nat → Int) (H : Heap) (locs : List Loc) (hP : va_P D.1 j_cl (cW D q (sY (sX (sV (sV (sI (sI (sI (sC u 9 n_5) 2 f1) 3 g1) 4 h1) 20 n1) 21 0) 9 f_5) 9 g_5)) H) (hS : va_S A st.heap H locs) (ls : Array Slot) (hl : lv_has ls 4 [(0, .ref (q 66)), (1, .ref (q (9 + 5 * r))), (2, .int (J a))]) (i28_0 : 0 ≤ a ∧ a ≤ 12) (i28_1 : 0 ≤ n1 ∧ n1 ≤ 63) (i28_2 : ∀ k : Nat, 0 ≤ f1 k ∧ f1 k ≤ 12) (i28_3 : ∀ k : Nat, 0 ≤ g1 k ∧ g1 k ≤ 12) (i28_4 : ∀ k : Nat, -1 ≤ h1 k ∧ h1 k ≤ 63) (i28_5 : OL (sgp9 f_5 g_5 n_5 a (a + 1)) n1 f1 g1) (i28_6 : NTf f_5 g_5 n_5 n1 f1 g1 h1 (fun x y => x < a)), ((12 : Int) - a).toNat < nn → W pr l en (headSpec (jw yX5_build cX5_build 4 none) (jr 4 99)).room st mi (([.ref (q 66), .ref (q (9 + 5 * r))] : List Value).toArray) below meth co H locs 0 0 (MQ below (jWv (fun u' => ∃ n : Int, ∃ f : Nat → Int, ∃ g : Nat → Int, ∃ ls9 : Nat → Int, ∃ gr9 : Nat → Int, ∃ nu9 : Nat → Int, ∃ w3 : Nat → Int64, ∃ w4 : Nat → Int64, ∃ w5 : Nat → Int64, ∃ v20 : Int, ∃ v21 : Int, u' = (sY (sX (sV (sV (sL (sL (sL (sI (sI (sI (sC u 9 n) 2 ls9) 3 gr9) 4 nu9) 3 w3) 4 w4) 5 w5) 20 v20) 21 v21) 9 f) 9 g) ∧ ((((0 ≤ n ∧ n ≤ 12) ∧ RV 40 f g) ∧ (∀ k : Nat, 0 ≤ ls9 k ∧ ls9 k ≤ 12) ∧ (∀ k : Nat, 0 ≤ gr9 k ∧ gr9 k ≤ 12) ∧ (∀ k : Nat, -1 ≤ nu9 k ∧ nu9 k ≤ 63) ∧ (0 ≤ v20 ∧ v20 ≤ 63) ∧ 0 ≤ v21 ∧ v21 ≤ 756) ∧ ML9 (inC u r) n f g ls9 gr9 nu9 v20 w3 w4 w5 v21)) (fun u' H => va_P D.1 j_cl (cW D q u') H) A) (([.ref (q 66), .ref (q (9 + 5 * r))] : List Value).toArray) st 0 0 A) (F0 mi 28 ls []) := by
    intro nn
    induction nn with
    | zero => intros; omega
    | succ nn ih_28 =>
      intro a n1 f1 g1 h1 H locs hP hS ls hl i28_0 i28_1 i28_2 i28_3 i28_4 i28_5 i28_6 hm
      refine lv_iload_n SS.1 SS.2.1 dX5_build_28 rfl (lv_at hl 2 rfl) ?_
      refine lv_aload_n SS.1 SS.2.1 dX5_build_29 rfl (lv_at hl 0 rfl) ?_
      refine j_get SS hG hP 66 (v := .ref (q (9 + 5 * 9))) (C := RX5) (T := TX5) (N := 9) rfl rfl inX5 0 (by decide) (ref := "GridPolygons$Mesh") kw_310 rfl rfl dX5_build_30 ?_
      refine j_getS SS hG hP (9 + 5 * 9) (v := .int (J n_5)) (C := RX6) (T := TX6) (N := 3) (cw_pts (by omega)) rfl inX6 2 (by decide) (ref := "GridPolygons$Points") kw_136 kw_134 rfl dX5_build_33 ?_
      refine j_icmp_ge SS (tgt := 113) (x := a) (y := n_5) dX5_build_36 (by decide) (by omega) (by omega) (fun c_36 => ?_) (fun c_36 => ?_)
      · skip
        have hOS : OL (SGP f_5 g_5 n_5) n1 f1 g1 := sg_f9 i28_5 (by omega)
        have hix : ∀ k : Nat, (k : Int) < n1 → f1 k < 12 ∧ g1 k < 12 := fun k hk => by have q9 := (OL_in hOS (a := k) hk).1; omega
        have hMG : MG9 f_5 g_5 n_5 n1 f1 g1 h1 := ⟨by omega, hOP5.2.1, hOS, NT_c i28_6.1 (fun x y h1 h2 h3 h4 => by show x < a; omega), by omega⟩
        refine j_iconst SS dX5_build_113 ?_
        refine lv_istore_n (lv' := [(2, .int (J 0)), (0, .ref (q 66)), (1, .ref (q (9 + 5 * r)))]) SS.1 SS.2.1 dX5_build_114 rfl hl (by decide) rfl (fun ls hl => ?_)
        have L_115 : ∀ (nn : Nat) (s : Int) (w1 : Nat → Int64) (w2 : Nat → Int64) (w6 : Nat → Int64) (m1 : Int) (H : Heap) (locs : List Loc) (hP : va_P D.1 j_cl (cW D q (sY (sX (sV (sV (sL (sL (sL (sI (sI (sI (sC u 9 n_5) 2 f1) 3 g1) 4 h1) 3 w1) 4 w2) 5 w6) 20 n1) 21 m1) 9 f_5) 9 g_5)) H) (hS : va_S A st.heap H locs) (ls : Array Slot) (hl : lv_has ls 4 [(0, .ref (q 66)), (1, .ref (q (9 + 5 * r))), (2, .int (J s))]) (i115_0 : 0 ≤ s ∧ s ≤ 63) (i115_1 : 0 ≤ m1 ∧ m1 ≤ 756) (i115_2 : m1 ≤ 12 * s) (i115_3 : ∀ t : Nat, (t : Int) < s → CR9 f_5 g_5 f1 g1 n1.toNat (w1 t) t) (i115_4 : FM9 f_5 g_5 f1 g1 n_5.toNat n1.toNat w2 w6 m1 (fun k p => (k : Int) < s)), ((63 : Int) - s).toNat < nn → W pr l en (headSpec (jw yX5_build cX5_build 4 none) (jr 4 99)).room st mi (([.ref (q 66), .ref (q (9 + 5 * r))] : List Value).toArray) below meth co H locs 0 0 (MQ below (jWv (fun u' => ∃ n : Int, ∃ f : Nat → Int, ∃ g : Nat → Int, ∃ ls9 : Nat → Int, ∃ gr9 : Nat → Int, ∃ nu9 : Nat → Int, ∃ w3 : Nat → Int64, ∃ w4 : Nat → Int64, ∃ w5 : Nat → Int64, ∃ v20 : Int, ∃ v21 : Int, u' = (sY (sX (sV (sV (sL (sL (sL (sI (sI (sI (sC u 9 n) 2 ls9) 3 gr9) 4 nu9) 3 w3) 4 w4) 5 w5) 20 v20) 21 v21) 9 f) 9 g) ∧ ((((0 ≤ n ∧ n ≤ 12) ∧ RV 40 f g) ∧ (∀ k : Nat, 0 ≤ ls9 k ∧ ls9 k ≤ 12) ∧ (∀ k : Nat, 0 ≤ gr9 k ∧ gr9 k ≤ 12) ∧ (∀ k : Nat, -1 ≤ nu9 k ∧ nu9 k ≤ 63) ∧ (0 ≤ v20 ∧ v20 ≤ 63) ∧ 0 ≤ v21 ∧ v21 ≤ 756) ∧ ML9 (inC u r) n f g ls9 gr9 nu9 v20 w3 w4 w5 v21)) (fun u' H => va_P D.1 j_cl (cW D q u') H) A) (([.ref (q 66), .ref (q (9 + 5 * r))] : List Value).toArray) st 0 0 A) (F0 mi 115 ls []) := by
          intro nn
          induction nn with
          | zero => intros; omega
          | succ nn ih_115 =>
            intro s w1 w2 w6 m1 H locs hP hS ls hl i115_0 i115_1 i115_2 i115_3 i115_4 hm
            refine lv_iload_n SS.1 SS.2.1 dX5_build_115 rfl (lv_at hl 2 rfl) ?_
            refine lv_aload_n SS.1 SS.2.1 dX5_build_116 rfl (lv_at hl 0 rfl) ?_
            refine j_get SS hG hP 66 (v := .int (J n1)) (C := RX5) (T := TX5) (N := 9) rfl rfl inX5 5 (by decide) (ref := "GridPolygons$Mesh") kw_315 rfl rfl dX5_build_117 ?_
            refine j_icmp_ge SS (tgt := 139) (x := s) (y := n1) dX5_build_120 (by decide) (by omega) (by omega) (fun c_120 => ?_) (fun c_120 => ?_)
            · skip
              exact W.vret SS.1 SS.2.1 hr (fun t0 ht hW => ⟨⟨(sY (sX (sV (sV (sL (sL (sL (sI (sI (sI (sC u 9 n_5) 2 f1) 3 g1) 4 h1) 3 w1) 4 w2) 5 w6) 20 n1) 21 m1) 9 f_5) 9 g_5), rfl, (⟨n_5, f_5, g_5, f1, g1, h1, w1, w2, w6, n1, m1, rfl, ⟨⟨h_5, i28_2, i28_3, i28_4, by omega, by omega⟩, hOP5, hMG, fun t ht => i115_3 t (by omega), FM_c i115_4 (fun k p w => trivial) (fun k p h1 h2 w => by show (k : Int) < s; omega)⟩⟩), by show va_P D.1 j_cl (cW D q (sY (sX (sV (sV (sL (sL (sL (sI (sI (sI (sC u 9 n_5) 2 f1) 3 g1) 4 h1) 3 w1) 4 w2) 5 w6) 20 n1) 21 m1) 9 f_5) 9 g_5)) t0.heap; rw [ht]; first | exact hP | (simp only [sI_id, sL_id, sC_id, sX_id, sY_id, sH_id, sT_id, sV_id]; exact hP)⟩, hS.F ht⟩) hS.2.2 dX5_build_139 hlk
            · skip
              refine lv_aload_n SS.1 SS.2.1 dX5_build_123 rfl (lv_at hl 0 rfl) ?_
              refine lv_iload_n SS.1 SS.2.1 dX5_build_124 rfl (lv_at hl 2 rfl) ?_
              refine j_vWv SS (As := [.int (J s)]) (rest := []) (c_X5_noteCrossed3 l D q (sY (sX (sV (sV (sL (sL (sL (sI (sI (sI (sC u 9 n_5) 2 f1) 3 g1) 4 h1) 3 w1) 4 w2) 5 w6) 20 n1) 21 m1) 9 f_5) 9 g_5) A (cW_D hD)  s (show RB 40 (sY (sX (sV (sV (sL (sL (sL (sI (sI (sI (sC u 9 n_5) 2 f1) 3 g1) 4 h1) 3 w1) 4 w2) 5 w6) 20 n1) 21 m1) 9 f_5) 9 g_5) 9 from (hR9)) (show -2147483648 ≤ s ∧ s ≤ 2147483647 from (by omega)) (show ∀ k : Nat, 0 ≤ f1 k ∧ f1 k ≤ 12 from (i28_2)) (show ∀ k : Nat, 0 ≤ g1 k ∧ g1 k ≤ 12 from (i28_3)) (show 0 ≤ n1 ∧ n1 ≤ 63 from (by omega))) mf_X5_noteCrossed kw_896 hG hP hP (ci := 5) (q0 := 66) rfl rfl rfl hS (fun _ h => h) rfl hl.1 ⟨⟨Nat.le_of_ble_eq_true rfl, Nat.le_of_ble_eq_true rfl⟩, Nat.le_of_ble_eq_true rfl, Nat.le_refl _, Nat.le_refl _⟩ rfl dX5_build_125 (fun u125 H locs h_125 hP _ hS => ?_)
              obtain ⟨w_125, rfl, h_125⟩ := h_125
              have hP : va_P D.1 j_cl (cW D q (sY (sX (sV (sV (sL (sL (sL (sI (sI (sI (sC u 9 n_5) 2 f1) 3 g1) 4 h1) 3 w_125) 4 w2) 5 w6) 20 n1) 21 m1) 9 f_5) 9 g_5)) H := hP
              have h_125 : ((∀ k : Nat, (k : Int) < n1 → f1 k < 12 ∧ g1 k < 12) → 0 ≤ s ∧ s < n1 → (∀ q : Nat, q ≠ s.toNat → w_125 q = w1 q) ∧ CR9 (f_5) (g_5) (f1) (g1) (n1).toNat (w_125 s.toNat) s.toNat) := h_125
              have c125 := h_125 hix (by omega)
              refine lv_aload_n SS.1 SS.2.1 dX5_build_128 rfl (lv_at hl 0 rfl) ?_
              refine lv_iload_n SS.1 SS.2.1 dX5_build_129 rfl (lv_at hl 2 rfl) ?_
              refine j_vWv SS (As := [.int (J s)]) (rest := []) (c_X5_noteFlips3 l D q (sY (sX (sV (sV (sL (sL (sL (sI (sI (sI (sC u 9 n_5) 2 f1) 3 g1) 4 h1) 3 w_125) 4 w2) 5 w6) 20 n1) 21 m1) 9 f_5) 9 g_5) A (cW_D hD)  s (show RB 40 (sY (sX (sV (sV (sL (sL (sL (sI (sI (sI (sC u 9 n_5) 2 f1) 3 g1) 4 h1) 3 w_125) 4 w2) 5 w6) 20 n1) 21 m1) 9 f_5) 9 g_5) 9 from (hR9)) (show -2147483648 ≤ s ∧ s ≤ 2147483647 from (by omega)) (show ∀ k : Nat, 0 ≤ f1 k ∧ f1 k ≤ 12 from (i28_2)) (show ∀ k : Nat, 0 ≤ g1 k ∧ g1 k ≤ 12 from (i28_3)) (show ∀ k : Nat, -1 ≤ h1 k ∧ h1 k ≤ 63 from (i28_4)) (show 0 ≤ m1 ∧ m1 ≤ 756 from (by omega))) mf_X5_noteFlips kw_910 hG hP hP (ci := 5) (q0 := 66) rfl rfl rfl hS (fun _ h => h) rfl hl.1 ⟨⟨Nat.le_of_ble_eq_true rfl, Nat.le_of_ble_eq_true rfl⟩, Nat.le_of_ble_eq_true rfl, Nat.le_refl _, Nat.le_refl _⟩ rfl dX5_build_130 (fun u130 H locs h_130 hP _ hS => ?_)
              obtain ⟨w1_130, w2_130, n_130, rfl, h_130⟩ := h_130
              have hP : va_P D.1 j_cl (cW D q (sY (sX (sV (sV (sL (sL (sL (sI (sI (sI (sC u 9 n_5) 2 f1) 3 g1) 4 h1) 3 w_125) 4 w1_130) 5 w2_130) 20 n1) 21 n_130) 9 f_5) 9 g_5)) H := hP
              have h_130 : (0 ≤ n_130 ∧ n_130 ≤ 756) ∧ (MG9 (f_5) (g_5) (n_5) (n1) (f1) (g1) (h1) → (0 ≤ s ∧ s < n1) → m1 ≤ 12 * s → FM9 (f_5) (g_5) (f1) (g1) (n_5).toNat (n1).toNat (w2) (w6) (m1) (fun k p => (k : Int) < s) → FM9 (f_5) (g_5) (f1) (g1) (n_5).toNat (n1).toNat (w1_130) (w2_130) n_130 (fun k p => (k : Int) < s + 1) ∧ n_130 ≤ 12 * (s + 1)) := h_130
              obtain ⟨h_130, e130⟩ := h_130
              have f130 := e130 hMG (by omega) i115_2 i115_4
              refine lv_iinc (v := J (s + 1)) (lv' := [(2, .int (J (s + 1))), (0, .ref (q 66)), (1, .ref (q (9 + 5 * r)))]) SS.1 SS.2.1 dX5_build_133 hl (k := 2) rfl (J_add _ _) (by decide) rfl (fun ls hl => ?_)
              refine lv_goto (tgt := 115) SS.1 SS.2.1 dX5_build_136 (by decide) ?_
              exact ih_115 (s + 1) w_125 w1_130 w2_130 n_130 _ _ hP hS ls (lv_sub hl [1, 2, 0] rfl) (by omega) (by omega) (f130.2) (fun t ht => by by_cases e9 : (t : Int) = s; (rw [show t = s.toNat by omega]; exact c125.2); (rw [c125.1 t (by omega)]; exact i115_3 t (by omega))) (f130.1) (by omega)
        have hP : va_P D.1 j_cl (cW D q (sY (sX (sV (sV (sL (sI (sI (sI (sC u 9 n_5) 2 f1) 3 g1) 4 h1) 3 (u.2.2.1 3)) 20 n1) 21 0) 9 f_5) 9 g_5)) H := Eq.mpr (congrArg (fun s => va_P D.1 j_cl (cW D q (sY (sX (sV (sV s 20 n1) 21 0) 9 f_5) 9 g_5)) H) (sL_at (u := (sI (sI (sI (sC u 9 n_5) 2 f1) 3 g1) 4 h1)) (r := 3) (x := (u.2.2.1 3)) rfl)) hP
        have hP : va_P D.1 j_cl (cW D q (sY (sX (sV (sV (sL (sL (sI (sI (sI (sC u 9 n_5) 2 f1) 3 g1) 4 h1) 3 (u.2.2.1 3)) 4 (u.2.2.1 4)) 20 n1) 21 0) 9 f_5) 9 g_5)) H := Eq.mpr (congrArg (fun s => va_P D.1 j_cl (cW D q (sY (sX (sV (sV s 20 n1) 21 0) 9 f_5) 9 g_5)) H) (sL_at (u := (sL (sI (sI (sI (sC u 9 n_5) 2 f1) 3 g1) 4 h1) 3 (u.2.2.1 3))) (r := 4) (x := (u.2.2.1 4)) rfl)) hP
        have hP : va_P D.1 j_cl (cW D q (sY (sX (sV (sV (sL (sL (sL (sI (sI (sI (sC u 9 n_5) 2 f1) 3 g1) 4 h1) 3 (u.2.2.1 3)) 4 (u.2.2.1 4)) 5 (u.2.2.1 5)) 20 n1) 21 0) 9 f_5) 9 g_5)) H := Eq.mpr (congrArg (fun s => va_P D.1 j_cl (cW D q (sY (sX (sV (sV s 20 n1) 21 0) 9 f_5) 9 g_5)) H) (sL_at (u := (sL (sL (sI (sI (sI (sC u 9 n_5) 2 f1) 3 g1) 4 h1) 3 (u.2.2.1 3)) 4 (u.2.2.1 4))) (r := 5) (x := (u.2.2.1 5)) rfl)) hP
        exact L_115 (((63 : Int) - (0 : Int)).toNat + 1) 0 (u.2.2.1 3) (u.2.2.1 4) (u.2.2.1 5) 0 _ _ hP hS ls (lv_sub hl [1, 2, 0] rfl) (by omega) (by omega) (by omega) (fun t ht => by omega) (FM_0 (fun k p w9 => by have w8 : (k : Int) < 0 := w9; omega)) (Nat.lt_succ_self _)
      · skip
        refine lv_iload_n SS.1 SS.2.1 dX5_build_39 rfl (lv_at hl 2 rfl) ?_
        refine j_iconst SS dX5_build_40 ?_
        refine j_iadd SS (x := a) (y := 1) dX5_build_41 ?_
        refine lv_istore_n (lv' := [(3, .int (J (a + 1))), (0, .ref (q 66)), (1, .ref (q (9 + 5 * r))), (2, .int (J a))]) SS.1 SS.2.1 dX5_build_42 rfl hl (by decide) rfl (fun ls hl => ?_)
        have L_43 : ∀ (nn : Nat) (b : Int) (n2 : Int) (f2 : Nat → Int) (g2 : Nat → Int) (h2 : Nat → Int) (H : Heap) (locs : List Loc) (hP : va_P D.1 j_cl (cW D q (sY (sX (sV (sV (sI (sI (sI (sC u 9 n_5) 2 f2) 3 g2) 4 h2) 20 n2) 21 0) 9 f_5) 9 g_5)) H) (hS : va_S A st.heap H locs) (ls : Array Slot) (hl : lv_has ls 4 [(0, .ref (q 66)), (1, .ref (q (9 + 5 * r))), (2, .int (J a)), (3, .int (J b))]) (i43_0 : 1 ≤ b ∧ b ≤ 13) (i43_1 : 0 ≤ n2 ∧ n2 ≤ 63) (i43_2 : ∀ k : Nat, 0 ≤ f2 k ∧ f2 k ≤ 12) (i43_3 : ∀ k : Nat, 0 ≤ g2 k ∧ g2 k ≤ 12) (i43_4 : ∀ k : Nat, -1 ≤ h2 k ∧ h2 k ≤ 63) (i43_5 : OL (sgp9 f_5 g_5 n_5 a b) n2 f2 g2) (i43_6 : NTf f_5 g_5 n_5 n2 f2 g2 h2 (fun x y => x < a ∨ (x = a ∧ y < b))) (i43_7 : a + 1 ≤ b), ((13 : Int) - b).toNat < nn → W pr l en (headSpec (jw yX5_build cX5_build 4 none) (jr 4 99)).room st mi (([.ref (q 66), .ref (q (9 + 5 * r))] : List Value).toArray) below meth co H locs 0 0 (MQ below (jWv (fun u' => ∃ n : Int, ∃ f : Nat → Int, ∃ g : Nat → Int, ∃ ls9 : Nat → Int, ∃ gr9 : Nat → Int, ∃ nu9 : Nat → Int, ∃ w3 : Nat → Int64, ∃ w4 : Nat → Int64, ∃ w5 : Nat → Int64, ∃ v20 : Int, ∃ v21 : Int, u' = (sY (sX (sV (sV (sL (sL (sL (sI (sI (sI (sC u 9 n) 2 ls9) 3 gr9) 4 nu9) 3 w3) 4 w4) 5 w5) 20 v20) 21 v21) 9 f) 9 g) ∧ ((((0 ≤ n ∧ n ≤ 12) ∧ RV 40 f g) ∧ (∀ k : Nat, 0 ≤ ls9 k ∧ ls9 k ≤ 12) ∧ (∀ k : Nat, 0 ≤ gr9 k ∧ gr9 k ≤ 12) ∧ (∀ k : Nat, -1 ≤ nu9 k ∧ nu9 k ≤ 63) ∧ (0 ≤ v20 ∧ v20 ≤ 63) ∧ 0 ≤ v21 ∧ v21 ≤ 756) ∧ ML9 (inC u r) n f g ls9 gr9 nu9 v20 w3 w4 w5 v21)) (fun u' H => va_P D.1 j_cl (cW D q u') H) A) (([.ref (q 66), .ref (q (9 + 5 * r))] : List Value).toArray) st 0 0 A) (F0 mi 43 ls []) := by
          intro nn
          induction nn with
          | zero => intros; omega
          | succ nn ih_43 =>
            intro b n2 f2 g2 h2 H locs hP hS ls hl i43_0 i43_1 i43_2 i43_3 i43_4 i43_5 i43_6 i43_7 hm
            refine lv_iload_n SS.1 SS.2.1 dX5_build_43 rfl (lv_at hl 3 rfl) ?_
            refine lv_aload_n SS.1 SS.2.1 dX5_build_44 rfl (lv_at hl 0 rfl) ?_
            refine j_get SS hG hP 66 (v := .ref (q (9 + 5 * 9))) (C := RX5) (T := TX5) (N := 9) rfl rfl inX5 0 (by decide) (ref := "GridPolygons$Mesh") kw_310 rfl rfl dX5_build_45 ?_
            refine j_getS SS hG hP (9 + 5 * 9) (v := .int (J n_5)) (C := RX6) (T := TX6) (N := 3) (cw_pts (by omega)) rfl inX6 2 (by decide) (ref := "GridPolygons$Points") kw_136 kw_134 rfl dX5_build_48 ?_
            refine j_icmp_ge SS (tgt := 107) (x := b) (y := n_5) dX5_build_51 (by decide) (by omega) (by omega) (fun c_51 => ?_) (fun c_51 => ?_)
            · skip
              refine lv_iinc (v := J (a + 1)) (lv' := [(2, .int (J (a + 1))), (0, .ref (q 66)), (1, .ref (q (9 + 5 * r))), (3, .int (J b))]) SS.1 SS.2.1 dX5_build_107 hl (k := 2) rfl (J_add _ _) (by decide) rfl (fun ls hl => ?_)
              refine lv_goto (tgt := 28) SS.1 SS.2.1 dX5_build_110 (by decide) ?_
              exact ih_28 (a + 1) n2 f2 g2 h2 _ _ hP hS ls (lv_sub hl [1, 2, 0] rfl) (by omega) (by omega) (i43_2) (i43_3) (i43_4) (sg_e9 i43_5 (by omega)) (NTf_c i43_6 (fun x y h1 h2 h3 => by show x < a + 1 ↔ x < a ∨ (x = a ∧ y < b); omega)) (by omega)
            · skip
              refine lv_aload_n SS.1 SS.2.1 dX5_build_54 rfl (lv_at hl 0 rfl) ?_
              refine j_get SS hG hP 66 (v := .ref (q (9 + 5 * 9))) (C := RX5) (T := TX5) (N := 9) rfl rfl inX5 0 (by decide) (ref := "GridPolygons$Mesh") kw_310 rfl rfl dX5_build_55 ?_
              refine lv_iload_n SS.1 SS.2.1 dX5_build_58 rfl (lv_at hl 3 rfl) ?_
              refine j_uRi SS (As := [.int (J b)]) (rest := []) (c_X8_xP l D q (sY (sX (sV (sV (sI (sI (sI (sC u 9 n_5) 2 f2) 3 g2) 4 h2) 20 n2) 21 0) 9 f_5) 9 g_5) 9 (by omega) b (show -2147483648 ≤ b ∧ b ≤ 2147483647 from (by omega))) mu_6_x kw_885 hG hP hP (ci := 6) (q0 := (9 + 5 * 9)) rfl (cw_pts (by omega)) rfl rfl hl.1 ⟨⟨Nat.le_of_ble_eq_true rfl, Nat.le_of_ble_eq_true rfl⟩, Nat.le_of_ble_eq_true rfl, Nat.le_refl _, Nat.le_refl _⟩ rfl dX5_build_59 (fun z_59 h_59 => ?_)
              have h_59 : z_59 = rx (sY (sX (sV (sV (sI (sI (sI (sC u 9 n_5) 2 f2) 3 g2) 4 h2) 20 n2) 21 0) 9 f_5) 9 g_5) 9 b ∧ ∀ K : Int, 0 ≤ K → RB K (sY (sX (sV (sV (sI (sI (sI (sC u 9 n_5) 2 f2) 3 g2) 4 h2) 20 n2) 21 0) 9 f_5) 9 g_5) 9 → -K ≤ z_59 ∧ z_59 ≤ K := h_59
              have hb_59 := h_59.2 40 (by omega) (hR9)
              refine lv_aload_n SS.1 SS.2.1 dX5_build_62 rfl (lv_at hl 0 rfl) ?_
              refine j_get SS hG hP 66 (v := .ref (q (9 + 5 * 9))) (C := RX5) (T := TX5) (N := 9) rfl rfl inX5 0 (by decide) (ref := "GridPolygons$Mesh") kw_310 rfl rfl dX5_build_63 ?_
              refine lv_iload_n SS.1 SS.2.1 dX5_build_66 rfl (lv_at hl 2 rfl) ?_
              refine j_uRi SS (As := [.int (J a)]) (rest := [.int (J z_59)]) (c_X8_xP l D q (sY (sX (sV (sV (sI (sI (sI (sC u 9 n_5) 2 f2) 3 g2) 4 h2) 20 n2) 21 0) 9 f_5) 9 g_5) 9 (by omega) a (show -2147483648 ≤ a ∧ a ≤ 2147483647 from (by omega))) mu_6_x kw_885 hG hP hP (ci := 6) (q0 := (9 + 5 * 9)) rfl (cw_pts (by omega)) rfl rfl hl.1 ⟨⟨Nat.le_of_ble_eq_true rfl, Nat.le_of_ble_eq_true rfl⟩, Nat.le_of_ble_eq_true rfl, Nat.le_refl _, Nat.le_refl _⟩ rfl dX5_build_67 (fun z_67 h_67 => ?_)
              have h_67 : z_67 = rx (sY (sX (sV (sV (sI (sI (sI (sC u 9 n_5) 2 f2) 3 g2) 4 h2) 20 n2) 21 0) 9 f_5) 9 g_5) 9 a ∧ ∀ K : Int, 0 ≤ K → RB K (sY (sX (sV (sV (sI (sI (sI (sC u 9 n_5) 2 f2) 3 g2) 4 h2) 20 n2) 21 0) 9 f_5) 9 g_5) 9 → -K ≤ z_67 ∧ z_67 ≤ K := h_67
              have hb_67 := h_67.2 40 (by omega) (hR9)
              refine j_isub SS (x := z_59) (y := z_67) dX5_build_70 ?_
              refine lv_aload_n SS.1 SS.2.1 dX5_build_71 rfl (lv_at hl 0 rfl) ?_
              refine j_get SS hG hP 66 (v := .ref (q (9 + 5 * 9))) (C := RX5) (T := TX5) (N := 9) rfl rfl inX5 0 (by decide) (ref := "GridPolygons$Mesh") kw_310 rfl rfl dX5_build_72 ?_
              refine lv_iload_n SS.1 SS.2.1 dX5_build_75 rfl (lv_at hl 3 rfl) ?_
              refine j_uRi SS (As := [.int (J b)]) (rest := [.int (J (z_59 - z_67))]) (c_X8_yP l D q (sY (sX (sV (sV (sI (sI (sI (sC u 9 n_5) 2 f2) 3 g2) 4 h2) 20 n2) 21 0) 9 f_5) 9 g_5) 9 (by omega) b (show -2147483648 ≤ b ∧ b ≤ 2147483647 from (by omega))) mu_6_y kw_888 hG hP hP (ci := 6) (q0 := (9 + 5 * 9)) rfl (cw_pts (by omega)) rfl rfl hl.1 ⟨⟨Nat.le_of_ble_eq_true rfl, Nat.le_of_ble_eq_true rfl⟩, Nat.le_of_ble_eq_true rfl, Nat.le_refl _, Nat.le_refl _⟩ rfl dX5_build_76 (fun z_76 h_76 => ?_)
              have h_76 : z_76 = ry9 (sY (sX (sV (sV (sI (sI (sI (sC u 9 n_5) 2 f2) 3 g2) 4 h2) 20 n2) 21 0) 9 f_5) 9 g_5) 9 b ∧ ∀ K : Int, 0 ≤ K → RB K (sY (sX (sV (sV (sI (sI (sI (sC u 9 n_5) 2 f2) 3 g2) 4 h2) 20 n2) 21 0) 9 f_5) 9 g_5) 9 → -K ≤ z_76 ∧ z_76 ≤ K := h_76
              have hb_76 := h_76.2 40 (by omega) (hR9)
              refine lv_aload_n SS.1 SS.2.1 dX5_build_79 rfl (lv_at hl 0 rfl) ?_
              refine j_get SS hG hP 66 (v := .ref (q (9 + 5 * 9))) (C := RX5) (T := TX5) (N := 9) rfl rfl inX5 0 (by decide) (ref := "GridPolygons$Mesh") kw_310 rfl rfl dX5_build_80 ?_
              refine lv_iload_n SS.1 SS.2.1 dX5_build_83 rfl (lv_at hl 2 rfl) ?_
              refine j_uRi SS (As := [.int (J a)]) (rest := [.int (J z_76), .int (J (z_59 - z_67))]) (c_X8_yP l D q (sY (sX (sV (sV (sI (sI (sI (sC u 9 n_5) 2 f2) 3 g2) 4 h2) 20 n2) 21 0) 9 f_5) 9 g_5) 9 (by omega) a (show -2147483648 ≤ a ∧ a ≤ 2147483647 from (by omega))) mu_6_y kw_888 hG hP hP (ci := 6) (q0 := (9 + 5 * 9)) rfl (cw_pts (by omega)) rfl rfl hl.1 ⟨⟨Nat.le_of_ble_eq_true rfl, Nat.le_of_ble_eq_true rfl⟩, Nat.le_of_ble_eq_true rfl, Nat.le_refl _, Nat.le_refl _⟩ rfl dX5_build_84 (fun z_84 h_84 => ?_)
              have h_84 : z_84 = ry9 (sY (sX (sV (sV (sI (sI (sI (sC u 9 n_5) 2 f2) 3 g2) 4 h2) 20 n2) 21 0) 9 f_5) 9 g_5) 9 a ∧ ∀ K : Int, 0 ≤ K → RB K (sY (sX (sV (sV (sI (sI (sI (sC u 9 n_5) 2 f2) 3 g2) 4 h2) 20 n2) 21 0) 9 f_5) 9 g_5) 9 → -K ≤ z_84 ∧ z_84 ≤ K := h_84
              have hb_84 := h_84.2 40 (by omega) (hR9)
              refine j_isub SS (x := z_76) (y := z_84) dX5_build_87 ?_
              refine j_nRi SS (As := [.int (J (z_59 - z_67)), .int (J (z_76 - z_84))]) (rest := []) (c_X11_gcd l D  (z_59 - z_67) (z_76 - z_84) (show -100000 ≤ (z_59 - z_67) ∧ (z_59 - z_67) ≤ 100000 from (by omega)) (show -100000 ≤ (z_76 - z_84) ∧ (z_76 - z_84) ≤ 100000 from (by omega))) mf_X11_gcd hG.2.2.2.2 hG trivial rfl hl.1 ⟨⟨Nat.le_of_ble_eq_true rfl, Nat.le_of_ble_eq_true rfl⟩, Nat.le_of_ble_eq_true rfl, Nat.le_refl _, Nat.le_refl _⟩ rfl dX5_build_88 (fun z_88 h_88 => ?_)
              have h_88 : z_88 = (Int.gcd (z_59 - z_67) (z_76 - z_84) : Int) := h_88
              have gb := gcd_b (a := z_59 - z_67) (b := z_76 - z_84) (K := 80) (by omega) (by omega)
              rw [← h_88] at gb
              have x59 : z_59 = f_5 b.toNat := h_59.1.trans (rx_99 (by omega))
              have x67 : z_67 = f_5 a.toNat := h_67.1.trans (rx_99 (by omega))
              have y76 : z_76 = g_5 b.toNat := h_76.1.trans (ry_99 (by omega))
              have y84 : z_84 = g_5 a.toNat := h_84.1.trans (ry_99 (by omega))
              have sg9y : z_88 = 1 → SGP f_5 g_5 n_5 a b := fun q9 => ⟨by omega, by rw [← x59, ← x67, ← y76, ← y84, ← h_88]; exact q9⟩
              have sg9n : SGP f_5 g_5 n_5 a b → z_88 = 1 := fun q9 => by have q8 := q9.2; rw [← x59, ← x67, ← y76, ← y84, ← h_88] at q8; exact q8
              refine j_iconst SS dX5_build_91 ?_
              refine j_icmp_ne SS (tgt := 101) (x := z_88) (y := 1) dX5_build_92 (by decide) (by omega) (by decide) (fun c_92 => ?_) (fun c_92 => ?_)
              · skip
                refine lv_iinc (v := J (b + 1)) (lv' := [(3, .int (J (b + 1))), (0, .ref (q 66)), (1, .ref (q (9 + 5 * r))), (2, .int (J a))]) SS.1 SS.2.1 dX5_build_101 hl (k := 3) rfl (J_add _ _) (by decide) rfl (fun ls hl => ?_)
                refine lv_goto (tgt := 43) SS.1 SS.2.1 dX5_build_104 (by decide) ?_
                exact ih_43 (b + 1) n2 f2 g2 h2 _ _ hP hS ls (lv_sub hl [1, 2, 3, 0] rfl) (by omega) (by omega) (by first | exact i43_2 | exact h_98.2.1) (by first | exact i43_3 | exact h_98.2.2.1) (by first | exact i43_4 | exact h_98.2.2.2) (by first | (rw [k98b, k98c, k98a]; exact sg_y9 i43_5 (sg9y (by omega))) | exact sg_n9 i43_5 (fun w9 => by have q9 := sg9n w9; omega)) (by first | (rw [k98b, k98c, k98d, k98a]; exact NTf_y (a := a) (b := b) i43_6 ⟨by omega, by omega, by omega⟩ (by omega) (by omega) (fun x y => by show (x < a ∨ (x = a ∧ y < b + 1)) ↔ (x < a ∨ (x = a ∧ y < b)) ∨ (x = a ∧ y = b); omega)) | exact NTf_n (a := a) (b := b) i43_6 ⟨by omega, by omega, by omega⟩ (fun w9 => by have w8 : a < a ∨ (a = a ∧ b < b) := w9; omega) (fun w9 => by have q9 := sg9n w9; omega) (fun x y => by show (x < a ∨ (x = a ∧ y < b + 1)) ↔ (x < a ∨ (x = a ∧ y < b)) ∨ (x = a ∧ y = b); omega)) (by omega) (by omega)
              · skip
                refine lv_aload_n SS.1 SS.2.1 dX5_build_95 rfl (lv_at hl 0 rfl) ?_
                refine lv_iload_n SS.1 SS.2.1 dX5_build_96 rfl (lv_at hl 2 rfl) ?_
                refine lv_iload_n SS.1 SS.2.1 dX5_build_97 rfl (lv_at hl 3 rfl) ?_
                refine j_vWv SS (As := [.int (J a), .int (J b)]) (rest := []) (c_X5_appendSegment3 l D q (sY (sX (sV (sV (sI (sI (sI (sC u 9 n_5) 2 f2) 3 g2) 4 h2) 20 n2) 21 0) 9 f_5) 9 g_5) A (cW_D hD)  a b (show 0 ≤ a ∧ a ≤ 12 from (by omega)) (show 0 ≤ b ∧ b ≤ 12 from (by omega)) (show 0 ≤ n2 ∧ n2 ≤ 63 from (by omega)) (show ∀ k : Nat, 0 ≤ f2 k ∧ f2 k ≤ 12 from (i43_2)) (show ∀ k : Nat, 0 ≤ g2 k ∧ g2 k ≤ 12 from (i43_3)) (show ∀ k : Nat, -1 ≤ h2 k ∧ h2 k ≤ 63 from (i43_4))) mf_X5_appendSegment kw_892 hG hP hP (ci := 5) (q0 := 66) rfl rfl rfl hS (fun _ h => h) rfl hl.1 ⟨⟨Nat.le_of_ble_eq_true rfl, Nat.le_of_ble_eq_true rfl⟩, Nat.le_of_ble_eq_true rfl, Nat.le_refl _, Nat.le_refl _⟩ rfl dX5_build_98 (fun u98 H locs h_98 hP _ hS => ?_)
                obtain ⟨n_98, f_98, g_98, nb_98, rfl, h_98⟩ := h_98
                have hP : va_P D.1 j_cl (cW D q (sY (sX (sV (sV (sI (sI (sI (sC u 9 n_5) 2 f_98) 3 g_98) 4 nb_98) 20 n_98) 21 0) 9 f_5) 9 g_5)) H := hP
                have h_98 : ((0 ≤ n_98 ∧ n_98 ≤ 63) ∧ (∀ k : Nat, 0 ≤ f_98 k ∧ f_98 k ≤ 12) ∧ (∀ k : Nat, 0 ≤ g_98 k ∧ g_98 k ≤ 12) ∧ (∀ k : Nat, -1 ≤ nb_98 k ∧ nb_98 k ≤ 63)) ∧ ((0 ≤ a ∧ a < 12) → (0 ≤ b ∧ b < 12) → n2 < 63 → n_98 = n2 + 1 ∧ f_98 = upI (f2) (n2).toNat a ∧ g_98 = upI (g2) (n2).toNat b ∧ nb_98 = upI (h2) (12 * a + b).toNat (n2)) := h_98
                obtain ⟨h_98, e98⟩ := h_98
                have hlt98 : n2 < 63 := by have q9 := sg_639 (sg_y9 i43_5 (sg9y (by omega))) (by omega); omega
                obtain ⟨k98a, k98b, k98c, k98d⟩ := e98 (by omega) (by omega) hlt98
                refine lv_iinc (v := J (b + 1)) (lv' := [(3, .int (J (b + 1))), (0, .ref (q 66)), (1, .ref (q (9 + 5 * r))), (2, .int (J a))]) SS.1 SS.2.1 dX5_build_101 hl (k := 3) rfl (J_add _ _) (by decide) rfl (fun ls hl => ?_)
                refine lv_goto (tgt := 43) SS.1 SS.2.1 dX5_build_104 (by decide) ?_
                exact ih_43 (b + 1) n_98 f_98 g_98 nb_98 _ _ hP hS ls (lv_sub hl [1, 2, 3, 0] rfl) (by omega) (by omega) (by first | exact i43_2 | exact h_98.2.1) (by first | exact i43_3 | exact h_98.2.2.1) (by first | exact i43_4 | exact h_98.2.2.2) (by first | (rw [k98b, k98c, k98a]; exact sg_y9 i43_5 (sg9y (by omega))) | exact sg_n9 i43_5 (fun w9 => by have q9 := sg9n w9; omega)) (by first | (rw [k98b, k98c, k98d, k98a]; exact NTf_y (a := a) (b := b) i43_6 ⟨by omega, by omega, by omega⟩ (by omega) (by omega) (fun x y => by show (x < a ∨ (x = a ∧ y < b + 1)) ↔ (x < a ∨ (x = a ∧ y < b)) ∨ (x = a ∧ y = b); omega)) | exact NTf_n (a := a) (b := b) i43_6 ⟨by omega, by omega, by omega⟩ (fun w9 => by have w8 : a < a ∨ (a = a ∧ b < b) := w9; omega) (fun w9 => by have q9 := sg9n w9; omega) (fun x y => by show (x < a ∨ (x = a ∧ y < b + 1)) ↔ (x < a ∨ (x = a ∧ y < b)) ∨ (x = a ∧ y = b); omega)) (by omega) (by omega)
        exact L_43 (((13 : Int) - (a + 1)).toNat + 1) (a + 1) n1 f1 g1 h1 _ _ hP hS ls (lv_sub hl [1, 2, 3, 0] rfl) (by omega) (by omega) (i28_2) (i28_3) (i28_4) (i28_5) (NTf_c i28_6 (fun x y h1 h2 h3 => by show x < a ∨ (x = a ∧ y < a + 1) ↔ x < a; omega)) (by omega) (Nat.lt_succ_self _)
  have hP : va_P D.1 j_cl (cW D q (sY (sX (sV (sV (sI (sI (sC u 9 n_5) 2 (u.2.1 2)) 4 (jf (u.2.1 4) (-1) 144)) 20 0) 21 0) 9 f_5) 9 g_5)) H := Eq.mpr (congrArg (fun s => va_P D.1 j_cl (cW D q (sY (sX (sV (sV (sI s 4 (jf (u.2.1 4) (-1) 144)) 20 0) 21 0) 9 f_5) 9 g_5)) H) (sI_at (u := (sC u 9 n_5)) (r := 2) (x := (u.2.1 2)) rfl)) hP
  have hP : va_P D.1 j_cl (cW D q (sY (sX (sV (sV (sI (sI (sI (sC u 9 n_5) 2 (u.2.1 2)) 3 (u.2.1 3)) 4 (jf (u.2.1 4) (-1) 144)) 20 0) 21 0) 9 f_5) 9 g_5)) H := Eq.mpr (congrArg (fun s => va_P D.1 j_cl (cW D q (sY (sX (sV (sV (sI s 4 (jf (u.2.1 4) (-1) 144)) 20 0) 21 0) 9 f_5) 9 g_5)) H) (sI_at (u := (sI (sC u 9 n_5) 2 (u.2.1 2))) (r := 3) (x := (u.2.1 3)) rfl)) hP
  exact L_28 (((12 : Int) - (0 : Int)).toNat + 1) 0 0 (u.2.1 2) (u.2.1 3) (jf (u.2.1 4) (-1) 144) _ _ hP hS ls (lv_sub hl [1, 2, 0] rfl) (by omega) (by omega) (p2) (p3) (hN23) (sg_09) (⟨fun x y h1 h2 h3 h4 => by have h5 : x < 0 := h4; omega, fun x y h1 h2 h3 h4 => if_pos (show (12 * x + y).toNat < 144 by omega)⟩) (Nat.lt_succ_self _)

set_option maxHeartbeats 4000000 in
set_option maxRecDepth 100000 in
theorem c_X5_firstCut3 (l : Launch) (D : JD) (q : Nat → Nat) (u : CS) (p0 : 0 ≤ u.2.2.2 20 ∧ u.2.2.2 20 ≤ 63) (p1 : ∀ s : Nat, (s : Int) < u.2.2.2 20 → CR9 (u.1.1 9) (u.1.2.1 9) (u.2.1 2) (u.2.1 3) (u.2.2.2 20).toNat (u.2.2.1 3 s) s) : Met l yX5_firstCut (jw yX5_firstCut cX5_firstCut 4 (some .long)) (jr 0 0) (jP [.ref (q 66)] D (fun H => va_P D.1 j_cl (cW D q u) H)) (vp_Sl (fun x9 => fcE (u.1.1 9) (u.1.2.1 9) (u.2.1 2) (u.2.1 3) (u.2.2.2 20) x9)) 0 0 (fun _ => False) := by
  refine Met.ofW (cc := cX5_firstCut) (maxL := 4) (ret := (some .long)) (by decide) rfl ?_
  intro pr en st mi args below meth co s₁ B hml hv
  obtain ⟨rfl, hG, hP⟩ := hv
  have hr := B.returns
  have hlk := B.notSynchronized
  have SS : jS pr mi co cX5_firstCut 4 st _ RX5 := ⟨B.exec, B.bytes, hml, findClass_of_methodNamed B.named, fun w hw => atoms_spec (ws := (jw yX5_firstCut cX5_firstCut 4 (some .long))) B.pre w (List.mem_cons_of_mem _ hw)⟩
  have hl := lv_entry ([.ref (q 66)]) (n := 4) (Nat.le_of_ble_eq_true rfl)
  rw [lg_entry_eq]
  generalize (lg_sl ([.ref (q 66)]) ++ List.replicate (4 - (lg_sl ([.ref (q 66)])).length) Slot.unset).toArray = ls at hl ⊢
  have hl : lv_has ls 4 [(0, .ref (q 66))] := hl
  refine lv_lconst (v := 0) SS.1 SS.2.1 dX5_firstCut_0 (by decide +kernel) ?_
  refine lv_lstore_n (lv' := [(1, .long 0), (0, .ref (q 66))]) SS.1 SS.2.1 dX5_firstCut_1 rfl hl (by decide) rfl (fun ls hl => ?_)
  refine j_iconst SS dX5_firstCut_2 ?_
  refine lv_istore_n (lv' := [(3, .int (J 0)), (1, .long 0), (0, .ref (q 66))]) SS.1 SS.2.1 dX5_firstCut_3 rfl hl (by decide) rfl (fun ls hl => ?_)
  have L_4 : ∀ (nn : Nat) (st9 : Int64) (s : Int) (ls : Array Slot) (hl : lv_has ls 4 [(0, .ref (q 66)), (1, .long st9), (3, .int (J s))]) (i4_0 : (0 ≤ s ∧ s ≤ 63) ∧ s ≤ u.2.2.2 20) (i4_1 : fcE (u.1.1 9) (u.1.2.1 9) (u.2.1 2) (u.2.1 3) s st9), ((63 : Int) - s).toNat < nn → W pr l en (headSpec (jw yX5_firstCut cX5_firstCut 4 (some .long)) (jr 0 0)).room st mi (([.ref (q 66)] : List Value).toArray) below meth co st.heap [] 0 0 (MQ below (vp_Sl (fun x9 => fcE (u.1.1 9) (u.1.2.1 9) (u.2.1 2) (u.2.1 3) (u.2.2.2 20) x9)) (([.ref (q 66)] : List Value).toArray) st 0 0 (fun _ => False)) (F0 mi 4 ls []) := by
    intro nn
    induction nn with
    | zero => intros; omega
    | succ nn ih_4 =>
      intro st9 s ls hl i4_0 i4_1 hm
      obtain ⟨f9, hf1, hf2⟩ := i4_1
      refine lv_iload_n SS.1 SS.2.1 dX5_firstCut_4 rfl (lv_at hl 2 rfl) ?_
      refine lv_aload_n SS.1 SS.2.1 dX5_firstCut_5 rfl (lv_at hl 0 rfl) ?_
      refine j_get SS hG hP 66 (v := .int (J (u.2.2.2 20))) (C := RX5) (T := TX5) (N := 9) rfl rfl inX5 5 (by decide) (ref := "GridPolygons$Mesh") kw_315 rfl rfl dX5_firstCut_6 ?_
      refine j_icmp_ge SS (tgt := 43) (x := s) (y := (u.2.2.2 20)) dX5_firstCut_9 (by decide) (by omega) (by omega) (fun c_9 => ?_) (fun c_9 => ?_)
      · skip
        refine lv_lload_n SS.1 SS.2.1 dX5_firstCut_43 rfl (lv_at hl 1 rfl) ?_
        exact W.lret SS.1 SS.2.1 hr (fun t0 ht hW => ⟨_, rfl, (by rw [show u.2.2.2 20 = s by omega]; exact ⟨f9, hf1, hf2⟩), ht⟩) (fun _ h => nomatch h) dX5_firstCut_44 hlk
      · skip
        refine lv_iload_n SS.1 SS.2.1 dX5_firstCut_12 rfl (lv_at hl 2 rfl) ?_
        refine j_bipush SS dX5_firstCut_13 (by decide +kernel) ?_
        refine j_icmp_ge SS (tgt := 43) (x := s) (y := 63) dX5_firstCut_15 (by decide) (by omega) (by decide) (fun c_15 => ?_) (fun c_15 => ?_)
        · skip
          refine lv_lload_n SS.1 SS.2.1 dX5_firstCut_43 rfl (lv_at hl 1 rfl) ?_
          exact W.lret SS.1 SS.2.1 hr (fun t0 ht hW => ⟨_, rfl, (by rw [show u.2.2.2 20 = s by omega]; exact ⟨f9, hf1, hf2⟩), ht⟩) (fun _ h => nomatch h) dX5_firstCut_44 hlk
        · skip
          refine lv_aload_n SS.1 SS.2.1 dX5_firstCut_18 rfl (lv_at hl 0 rfl) ?_
          refine j_get SS hG hP 66 (v := .ref (q 70)) (C := RX5) (T := TX5) (N := 9) rfl rfl inX5 3 (by decide) (ref := "GridPolygons$Mesh") kw_313 rfl rfl dX5_firstCut_19 ?_
          refine lv_iload_n SS.1 SS.2.1 dX5_firstCut_22 rfl (lv_at hl 2 rfl) ?_
          refine j_lald SS hG hP 70 (n := 63) (f := (u.2.2.1 3)) rfl (z := s) (by omega) (by omega) dX5_firstCut_23 ?_
          refine lv_lload_n SS.1 SS.2.1 dX5_firstCut_24 rfl (lv_at hl 1 rfl) ?_
          refine lv_land SS.1 SS.2.1 dX5_firstCut_25 ?_
          refine lv_lconst (v := 0) SS.1 SS.2.1 dX5_firstCut_26 (by decide +kernel) ?_
          refine j_lcmp SS dX5_firstCut_27 (fun z_27 hz_27 => ?_)
          refine j_if_ne SS (tgt := 37) (x := z_27) dX5_firstCut_28 (by decide) (by omega) (fun c_28 => ?_) (fun c_28 => ?_)
          · skip
            refine lv_iinc (v := J (s + 1)) (lv' := [(3, .int (J (s + 1))), (0, .ref (q 66)), (1, .long st9)]) SS.1 SS.2.1 dX5_firstCut_37 hl (k := 2) rfl (J_add _ _) (by decide) rfl (fun ls hl => ?_)
            refine lv_goto (tgt := 4) SS.1 SS.2.1 dX5_firstCut_40 (by decide) ?_
            exact ih_4 st9 (s + 1) ls (lv_sub hl [1, 2, 0] rfl) (by omega) (by first | exact fc_n2 (by omega) hf1 hf2 (fun w9 => by have q9 := hz_27.2.2.2.mpr ((CR_a (c := (u.2.2.2 20).toNat) (k := s) (by omega) (by omega) (by have q9 := p1 s.toNat (by omega); exact q9) hf2).mpr w9); omega) | (rw [ex_34]; exact fc_y2 (by omega) hf1 hf2 ((CR_a (c := (u.2.2.2 20).toNat) (k := s) (by omega) (by omega) (by have q9 := p1 s.toNat (by omega); exact q9) hf2).mp (hz_27.2.2.2.mp (by omega))))) (by omega)
          · skip
            refine lv_lload_n SS.1 SS.2.1 dX5_firstCut_31 rfl (lv_at hl 1 rfl) ?_
            refine lv_lconst (v := 1) SS.1 SS.2.1 dX5_firstCut_32 (by decide +kernel) ?_
            refine lv_iload_n SS.1 SS.2.1 dX5_firstCut_33 rfl (lv_at hl 2 rfl) ?_
            refine lv_lshl SS.1 SS.2.1 dX5_firstCut_34 rfl (lv_topl (fun x_34 ex_34 => ?_))
            refine lv_lor SS.1 SS.2.1 dX5_firstCut_35 ?_
            refine lv_lstore_n (lv' := [(1, .long (st9 ||| x_34)), (0, .ref (q 66)), (3, .int (J s))]) SS.1 SS.2.1 dX5_firstCut_36 rfl hl (by decide) rfl (fun ls hl => ?_)
            refine lv_iinc (v := J (s + 1)) (lv' := [(3, .int (J (s + 1))), (1, .long (st9 ||| x_34)), (0, .ref (q 66))]) SS.1 SS.2.1 dX5_firstCut_37 hl (k := 2) rfl (J_add _ _) (by decide) rfl (fun ls hl => ?_)
            refine lv_goto (tgt := 4) SS.1 SS.2.1 dX5_firstCut_40 (by decide) ?_
            exact ih_4 (st9 ||| x_34) (s + 1) ls (lv_sub hl [2, 1, 0] rfl) (by omega) (by first | exact fc_n2 (by omega) hf1 hf2 (fun w9 => by have q9 := hz_27.2.2.2.mpr ((CR_a (c := (u.2.2.2 20).toNat) (k := s) (by omega) (by omega) (by have q9 := p1 s.toNat (by omega); exact q9) hf2).mpr w9); omega) | (rw [ex_34]; exact fc_y2 (by omega) hf1 hf2 ((CR_a (c := (u.2.2.2 20).toNat) (k := s) (by omega) (by omega) (by have q9 := p1 s.toNat (by omega); exact q9) hf2).mp (hz_27.2.2.2.mp (by omega))))) (by omega)
  exact L_4 (((63 : Int) - (0 : Int)).toNat + 1) 0 0 ls (lv_sub hl [2, 1, 0] rfl) (by omega) (⟨fun _ => false, fun k hk => by have : k < 0 := hk; omega, rfl⟩) (Nat.lt_succ_self _)

set_option maxHeartbeats 4000000 in
set_option maxRecDepth 100000 in
theorem c_X5_flipped3 (l : Launch) (D : JD) (q : Nat → Nat) (u : CS) (set : Int64) (flip : Int) (p0 : -2147483648 ≤ flip ∧ flip ≤ 2147483647) : Met l yX5_flipped (jw yX5_flipped cX5_flipped 4 (some .long)) (jr 0 0) (jP [.ref (q 66), .long set, .int (J flip)] D (fun H => va_P D.1 j_cl (cW D q u) H)) (vp_Sl (fun x9 => FR9 set ((u.2.2.1 4) flip.toNat) ((u.2.2.1 5) flip.toNat) x9 (0 ≤ flip ∧ flip < 756))) 0 0 (fun _ => False) := by
  refine Met.ofW (cc := cX5_flipped) (maxL := 4) (ret := (some .long)) (by decide) rfl ?_
  intro pr en st mi args below meth co s₁ B hml hv
  obtain ⟨rfl, hG, hP⟩ := hv
  have hr := B.returns
  have hlk := B.notSynchronized
  have SS : jS pr mi co cX5_flipped 4 st _ RX5 := ⟨B.exec, B.bytes, hml, findClass_of_methodNamed B.named, fun w hw => atoms_spec (ws := (jw yX5_flipped cX5_flipped 4 (some .long))) B.pre w (List.mem_cons_of_mem _ hw)⟩
  have hl := lv_entry ([.ref (q 66), .long set, .int (J flip)]) (n := 4) (Nat.le_of_ble_eq_true rfl)
  rw [lg_entry_eq]
  generalize (lg_sl ([.ref (q 66), .long set, .int (J flip)]) ++ List.replicate (4 - (lg_sl ([.ref (q 66), .long set, .int (J flip)])).length) Slot.unset).toArray = ls at hl ⊢
  have hl : lv_has ls 4 [(0, .ref (q 66)), (1, .long set), (3, .int (J flip))] := hl
  refine lv_iload_n SS.1 SS.2.1 dX5_flipped_0 rfl (lv_at hl 2 rfl) ?_
  refine j_if_lt SS (tgt := 29) (x := flip) dX5_flipped_1 (by decide) (by omega) (fun c_1 => ?_) (fun c_1 => ?_)
  · skip
    refine lv_lconst (v := 0) SS.1 SS.2.1 dX5_flipped_29 (by decide +kernel) ?_
    exact W.lret SS.1 SS.2.1 hr (fun t0 ht hW => ⟨_, rfl, (Or.inl ⟨rfl, fun q9 w9 => by first | (exfalso; omega) | exact c_26 (hz_25.2.2.2.mpr w9)⟩), ht⟩) (fun _ h => nomatch h) dX5_flipped_30 hlk
  · skip
    refine lv_iload_n SS.1 SS.2.1 dX5_flipped_4 rfl (lv_at hl 2 rfl) ?_
    refine j_sipush SS dX5_flipped_5 (by decide +kernel) ?_
    refine j_icmp_ge SS (tgt := 29) (x := flip) (y := 756) dX5_flipped_8 (by decide) (by omega) (by decide) (fun c_8 => ?_) (fun c_8 => ?_)
    · skip
      refine lv_lconst (v := 0) SS.1 SS.2.1 dX5_flipped_29 (by decide +kernel) ?_
      exact W.lret SS.1 SS.2.1 hr (fun t0 ht hW => ⟨_, rfl, (Or.inl ⟨rfl, fun q9 w9 => by first | (exfalso; omega) | exact c_26 (hz_25.2.2.2.mpr w9)⟩), ht⟩) (fun _ h => nomatch h) dX5_flipped_30 hlk
    · skip
      refine lv_lload_n SS.1 SS.2.1 dX5_flipped_11 rfl (lv_at hl 1 rfl) ?_
      refine lv_aload_n SS.1 SS.2.1 dX5_flipped_12 rfl (lv_at hl 0 rfl) ?_
      refine j_get SS hG hP 66 (v := .ref (q 71)) (C := RX5) (T := TX5) (N := 9) rfl rfl inX5 6 (by decide) (ref := "GridPolygons$Mesh") kw_317 rfl rfl dX5_flipped_13 ?_
      refine lv_iload_n SS.1 SS.2.1 dX5_flipped_16 rfl (lv_at hl 2 rfl) ?_
      refine j_lald SS hG hP 71 (n := 756) (f := (u.2.2.1 4)) rfl (z := flip) (by omega) (by omega) dX5_flipped_17 ?_
      refine lv_land SS.1 SS.2.1 dX5_flipped_18 ?_
      refine lv_aload_n SS.1 SS.2.1 dX5_flipped_19 rfl (lv_at hl 0 rfl) ?_
      refine j_get SS hG hP 66 (v := .ref (q 71)) (C := RX5) (T := TX5) (N := 9) rfl rfl inX5 6 (by decide) (ref := "GridPolygons$Mesh") kw_317 rfl rfl dX5_flipped_20 ?_
      refine lv_iload_n SS.1 SS.2.1 dX5_flipped_23 rfl (lv_at hl 2 rfl) ?_
      refine j_lald SS hG hP 71 (n := 756) (f := (u.2.2.1 4)) rfl (z := flip) (by omega) (by omega) dX5_flipped_24 ?_
      refine j_lcmp SS dX5_flipped_25 (fun z_25 hz_25 => ?_)
      refine j_if_eq SS (tgt := 31) (x := z_25) dX5_flipped_26 (by decide) (by omega) (fun c_26 => ?_) (fun c_26 => ?_)
      · skip
        refine lv_lload_n SS.1 SS.2.1 dX5_flipped_31 rfl (lv_at hl 1 rfl) ?_
        refine lv_aload_n SS.1 SS.2.1 dX5_flipped_32 rfl (lv_at hl 0 rfl) ?_
        refine j_get SS hG hP 66 (v := .ref (q 72)) (C := RX5) (T := TX5) (N := 9) rfl rfl inX5 7 (by decide) (ref := "GridPolygons$Mesh") kw_318 rfl rfl dX5_flipped_33 ?_
        refine lv_iload_n SS.1 SS.2.1 dX5_flipped_36 rfl (lv_at hl 2 rfl) ?_
        refine j_lald SS hG hP 72 (n := 756) (f := (u.2.2.1 5)) rfl (z := flip) (by omega) (by omega) dX5_flipped_37 ?_
        refine lv_lxor SS.1 SS.2.1 dX5_flipped_38 ?_
        exact W.lret SS.1 SS.2.1 hr (fun t0 ht hW => ⟨_, rfl, (Or.inr ⟨by omega, hz_25.2.2.2.mp (by omega), rfl⟩), ht⟩) (fun _ h => nomatch h) dX5_flipped_39 hlk
      · skip
        refine lv_lconst (v := 0) SS.1 SS.2.1 dX5_flipped_29 (by decide +kernel) ?_
        exact W.lret SS.1 SS.2.1 hr (fun t0 ht hW => ⟨_, rfl, (Or.inl ⟨rfl, fun q9 w9 => by first | (exfalso; omega) | exact c_26 (hz_25.2.2.2.mpr w9)⟩), ht⟩) (fun _ h => nomatch h) dX5_flipped_30 hlk


set_option maxHeartbeats 4000000 in
set_option maxRecDepth 100000 in
theorem c_X2_farOf3 (l : Launch) (D : JD) (q : Nat → Nat) (u : CS) (i : Int) (p0 : -2147483648 ≤ i ∧ i ≤ 2147483647) : Met l yX2_farOf (jw yX2_farOf cX2_farOf 2 (some .int)) (jr 0 0) (jP [.ref (q 6), .int (J i)] D (fun H => va_P D.1 j_cl (cW D q u) H)) (jRi (fun z => (0 ≤ i ∧ i < 1500) → z = (u.2.1 7) i.toNat)) 0 0 (fun _ => False) := by
  refine Met.ofW (cc := cX2_farOf) (maxL := 2) (ret := (some .int)) (by decide) rfl ?_
  intro pr en st mi args below meth co s₁ B hml hv
  obtain ⟨rfl, hG, hP⟩ := hv
  have hr := B.returns
  have hlk := B.notSynchronized
  have SS : jS pr mi co cX2_farOf 2 st _ RX2 := ⟨B.exec, B.bytes, hml, findClass_of_methodNamed B.named, fun w hw => atoms_spec (ws := (jw yX2_farOf cX2_farOf 2 (some .int))) B.pre w (List.mem_cons_of_mem _ hw)⟩
  have hl := lv_entry ([.ref (q 6), .int (J i)]) (n := 2) (Nat.le_of_ble_eq_true rfl)
  rw [lg_entry_eq]
  generalize (lg_sl ([.ref (q 6), .int (J i)]) ++ List.replicate (2 - (lg_sl ([.ref (q 6), .int (J i)])).length) Slot.unset).toArray = ls at hl ⊢
  have hl : lv_has ls 2 [(0, .ref (q 6)), (1, .int (J i))] := hl
  refine lv_iload_n SS.1 SS.2.1 dX2_farOf_0 rfl (lv_at hl 1 rfl) ?_
  refine j_if_lt SS (tgt := 22) (x := i) dX2_farOf_1 (by decide) (by omega) (fun c_1 => ?_) (fun c_1 => ?_)
  · skip
    refine j_iconst SS dX2_farOf_22 ?_
    exact W.iret SS.1 SS.2.1 hr (fun t0 ht hW => ⟨_, rfl, ⟨0, rfl, (fun q9 => by first | rfl | (exfalso; omega))⟩, ht⟩) (fun _ h => nomatch h) dX2_farOf_23 hlk
  · skip
    refine lv_iload_n SS.1 SS.2.1 dX2_farOf_4 rfl (lv_at hl 1 rfl) ?_
    refine lv_aload_n SS.1 SS.2.1 dX2_farOf_5 rfl (lv_at hl 0 rfl) ?_
    refine j_get SS hG hP 6 (v := .ref (q 64)) (C := RX2) (T := TX2) (N := 7) rfl rfl inX2 2 (by decide) (ref := "GridPolygons$Cuts") kw_342 rfl rfl dX2_farOf_6 ?_
    refine va_alen SS.1 SS.2.1 hG.1 hP 64 0 rfl rfl (v := J (1500 : Int)) (by first | rfl | exact J_nat _) dX2_farOf_9 ?_
    refine j_icmp_ge SS (tgt := 22) (x := i) (y := 1500) dX2_farOf_10 (by decide) (by omega) (by decide) (fun c_10 => ?_) (fun c_10 => ?_)
    · skip
      refine j_iconst SS dX2_farOf_22 ?_
      exact W.iret SS.1 SS.2.1 hr (fun t0 ht hW => ⟨_, rfl, ⟨0, rfl, (fun q9 => by first | rfl | (exfalso; omega))⟩, ht⟩) (fun _ h => nomatch h) dX2_farOf_23 hlk
    · skip
      refine lv_aload_n SS.1 SS.2.1 dX2_farOf_13 rfl (lv_at hl 0 rfl) ?_
      refine j_get SS hG hP 6 (v := .ref (q 64)) (C := RX2) (T := TX2) (N := 7) rfl rfl inX2 2 (by decide) (ref := "GridPolygons$Cuts") kw_342 rfl rfl dX2_farOf_14 ?_
      refine lv_iload_n SS.1 SS.2.1 dX2_farOf_17 rfl (lv_at hl 1 rfl) ?_
      refine j_iald SS hG hP 64 (n := 1500) (f := (u.2.1 7)) rfl (z := i) (by omega) (by omega) dX2_farOf_18 ?_
      refine lv_goto (tgt := 23) SS.1 SS.2.1 dX2_farOf_19 (by decide) ?_
      exact W.iret SS.1 SS.2.1 hr (fun t0 ht hW => ⟨_, rfl, ⟨((u.2.1 7) (i).toNat), rfl, (fun q9 => by first | rfl | (exfalso; omega))⟩, ht⟩) (fun _ h => nomatch h) dX2_farOf_23 hlk

set_option maxHeartbeats 4000000 in
set_option maxRecDepth 100000 in
theorem c_X2_setOf3 (l : Launch) (D : JD) (q : Nat → Nat) (u : CS) (i : Int) (p0 : -2147483648 ≤ i ∧ i ≤ 2147483647) : Met l yX2_setOf (jw yX2_setOf cX2_setOf 2 (some .long)) (jr 0 0) (jP [.ref (q 6), .int (J i)] D (fun H => va_P D.1 j_cl (cW D q u) H)) (vp_Sl (fun x9 => (0 ≤ i ∧ i < 1500) → x9 = (u.2.2.1 2) i.toNat)) 0 0 (fun _ => False) := by
  refine Met.ofW (cc := cX2_setOf) (maxL := 2) (ret := (some .long)) (by decide) rfl ?_
  intro pr en st mi args below meth co s₁ B hml hv
  obtain ⟨rfl, hG, hP⟩ := hv
  have hr := B.returns
  have hlk := B.notSynchronized
  have SS : jS pr mi co cX2_setOf 2 st _ RX2 := ⟨B.exec, B.bytes, hml, findClass_of_methodNamed B.named, fun w hw => atoms_spec (ws := (jw yX2_setOf cX2_setOf 2 (some .long))) B.pre w (List.mem_cons_of_mem _ hw)⟩
  have hl := lv_entry ([.ref (q 6), .int (J i)]) (n := 2) (Nat.le_of_ble_eq_true rfl)
  rw [lg_entry_eq]
  generalize (lg_sl ([.ref (q 6), .int (J i)]) ++ List.replicate (2 - (lg_sl ([.ref (q 6), .int (J i)])).length) Slot.unset).toArray = ls at hl ⊢
  have hl : lv_has ls 2 [(0, .ref (q 6)), (1, .int (J i))] := hl
  refine lv_iload_n SS.1 SS.2.1 dX2_setOf_0 rfl (lv_at hl 1 rfl) ?_
  refine j_if_lt SS (tgt := 22) (x := i) dX2_setOf_1 (by decide) (by omega) (fun c_1 => ?_) (fun c_1 => ?_)
  · skip
    refine lv_lconst (v := 0) SS.1 SS.2.1 dX2_setOf_22 (by decide +kernel) ?_
    exact W.lret SS.1 SS.2.1 hr (fun t0 ht hW => ⟨_, rfl, (fun q9 => by first | rfl | (exfalso; omega)), ht⟩) (fun _ h => nomatch h) dX2_setOf_23 hlk
  · skip
    refine lv_iload_n SS.1 SS.2.1 dX2_setOf_4 rfl (lv_at hl 1 rfl) ?_
    refine lv_aload_n SS.1 SS.2.1 dX2_setOf_5 rfl (lv_at hl 0 rfl) ?_
    refine j_get SS hG hP 6 (v := .ref (q 69)) (C := RX2) (T := TX2) (N := 7) rfl rfl inX2 1 (by decide) (ref := "GridPolygons$Cuts") kw_341 rfl rfl dX2_setOf_6 ?_
    refine va_alen SS.1 SS.2.1 hG.1 hP 69 1 rfl rfl (v := J (1500 : Int)) (by first | rfl | exact J_nat _) dX2_setOf_9 ?_
    refine j_icmp_ge SS (tgt := 22) (x := i) (y := 1500) dX2_setOf_10 (by decide) (by omega) (by decide) (fun c_10 => ?_) (fun c_10 => ?_)
    · skip
      refine lv_lconst (v := 0) SS.1 SS.2.1 dX2_setOf_22 (by decide +kernel) ?_
      exact W.lret SS.1 SS.2.1 hr (fun t0 ht hW => ⟨_, rfl, (fun q9 => by first | rfl | (exfalso; omega)), ht⟩) (fun _ h => nomatch h) dX2_setOf_23 hlk
    · skip
      refine lv_aload_n SS.1 SS.2.1 dX2_setOf_13 rfl (lv_at hl 0 rfl) ?_
      refine j_get SS hG hP 6 (v := .ref (q 69)) (C := RX2) (T := TX2) (N := 7) rfl rfl inX2 1 (by decide) (ref := "GridPolygons$Cuts") kw_341 rfl rfl dX2_setOf_14 ?_
      refine lv_iload_n SS.1 SS.2.1 dX2_setOf_17 rfl (lv_at hl 1 rfl) ?_
      refine j_lald SS hG hP 69 (n := 1500) (f := (u.2.2.1 2)) rfl (z := i) (by omega) (by omega) dX2_setOf_18 ?_
      refine lv_goto (tgt := 23) SS.1 SS.2.1 dX2_setOf_19 (by decide) ?_
      exact W.lret SS.1 SS.2.1 hr (fun t0 ht hW => ⟨_, rfl, (fun q9 => by first | rfl | (exfalso; omega)), ht⟩) (fun _ h => nomatch h) dX2_setOf_23 hlk

set_option maxHeartbeats 4000000 in
set_option maxRecDepth 100000 in
theorem c_X2_flipsOf3 (l : Launch) (D : JD) (q : Nat → Nat) (u : CS) (i : Int) (p0 : -2147483648 ≤ i ∧ i ≤ 2147483647) (p1 : 0 ≤ u.2.2.2 21 ∧ u.2.2.2 21 ≤ 756) : Met l yX2_flipsOf (jw yX2_flipsOf cX2_flipsOf 4 (some .int)) (jr 1 23) (jP [.ref (q 6), .int (J i)] D (fun H => va_P D.1 j_cl (cW D q u) H)) (jRi (fun z => (0 ≤ z ∧ z ≤ 756) ∧ ((0 ≤ i ∧ i < 1500) → cn9 (fun a => (u.2.2.1 2) i.toNat &&& (u.2.2.1 4) a = (u.2.2.1 4) a ∧ (u.2.2.1 2) i.toNat ^^^ (u.2.2.1 5) a ≠ 0) (u.2.2.2 21).toNat z))) 0 0 (fun _ => False) := by
  refine Met.ofW (cc := cX2_flipsOf) (maxL := 4) (ret := (some .int)) (by decide) rfl ?_
  intro pr en st mi args below meth co s₁ B hml hv
  obtain ⟨rfl, hG, hP⟩ := hv
  have hr := B.returns
  have hlk := B.notSynchronized
  have SS : jS pr mi co cX2_flipsOf 4 st _ RX2 := ⟨B.exec, B.bytes, hml, findClass_of_methodNamed B.named, fun w hw => atoms_spec (ws := (jw yX2_flipsOf cX2_flipsOf 4 (some .int))) B.pre w (List.mem_cons_of_mem _ hw)⟩
  have hl := lv_entry ([.ref (q 6), .int (J i)]) (n := 4) (Nat.le_of_ble_eq_true rfl)
  rw [lg_entry_eq]
  generalize (lg_sl ([.ref (q 6), .int (J i)]) ++ List.replicate (4 - (lg_sl ([.ref (q 6), .int (J i)])).length) Slot.unset).toArray = ls at hl ⊢
  have hl : lv_has ls 4 [(0, .ref (q 6)), (1, .int (J i))] := hl
  refine j_iconst SS dX2_flipsOf_0 ?_
  refine lv_istore_n (lv' := [(2, .int (J 0)), (0, .ref (q 6)), (1, .int (J i))]) SS.1 SS.2.1 dX2_flipsOf_1 rfl hl (by decide) rfl (fun ls hl => ?_)
  refine j_iconst SS dX2_flipsOf_2 ?_
  refine lv_istore_n (lv' := [(3, .int (J 0)), (2, .int (J 0)), (0, .ref (q 6)), (1, .int (J i))]) SS.1 SS.2.1 dX2_flipsOf_3 rfl hl (by decide) rfl (fun ls hl => ?_)
  have L_4 : ∀ (nn : Nat) (fd : Int) (s : Int) (ls : Array Slot) (hl : lv_has ls 4 [(0, .ref (q 6)), (1, .int (J i)), (2, .int (J fd)), (3, .int (J s))]) (i4_0 : 0 ≤ s ∧ s ≤ u.2.2.2 21) (i4_1 : 0 ≤ fd ∧ fd ≤ s) (i4_2 : (0 ≤ i ∧ i < 1500) → cn9 (fun a => (u.2.2.1 2) i.toNat &&& (u.2.2.1 4) a = (u.2.2.1 4) a ∧ (u.2.2.1 2) i.toNat ^^^ (u.2.2.1 5) a ≠ 0) s.toNat fd), ((756 : Int) - s).toNat < nn → W pr l en (headSpec (jw yX2_flipsOf cX2_flipsOf 4 (some .int)) (jr 1 23)).room st mi (([.ref (q 6), .int (J i)] : List Value).toArray) below meth co st.heap [] 0 0 (MQ below (jRi (fun z => (0 ≤ z ∧ z ≤ 756) ∧ ((0 ≤ i ∧ i < 1500) → cn9 (fun a => (u.2.2.1 2) i.toNat &&& (u.2.2.1 4) a = (u.2.2.1 4) a ∧ (u.2.2.1 2) i.toNat ^^^ (u.2.2.1 5) a ≠ 0) (u.2.2.2 21).toNat z))) (([.ref (q 6), .int (J i)] : List Value).toArray) st 0 0 (fun _ => False)) (F0 mi 4 ls []) := by
    intro nn
    induction nn with
    | zero => intros; omega
    | succ nn ih_4 =>
      intro fd s ls hl i4_0 i4_1 i4_2 hm
      refine lv_iload_n SS.1 SS.2.1 dX2_flipsOf_4 rfl (lv_at hl 3 rfl) ?_
      refine lv_aload_n SS.1 SS.2.1 dX2_flipsOf_5 rfl (lv_at hl 0 rfl) ?_
      refine j_get SS hG hP 6 (v := .ref (q 66)) (C := RX2) (T := TX2) (N := 7) rfl rfl inX2 0 (by decide) (ref := "GridPolygons$Cuts") kw_340 rfl rfl dX2_flipsOf_6 ?_
      refine j_get SS hG hP 66 (v := .int (J (u.2.2.2 21))) (C := RX5) (T := TX5) (N := 9) rfl rfl inX5 8 (by decide) (ref := "GridPolygons$Mesh") kw_320 rfl rfl dX2_flipsOf_9 ?_
      refine j_icmp_ge SS (tgt := 42) (x := s) (y := (u.2.2.2 21)) dX2_flipsOf_12 (by decide) (by omega) (by omega) (fun c_12 => ?_) (fun c_12 => ?_)
      · skip
        refine lv_iload_n SS.1 SS.2.1 dX2_flipsOf_42 rfl (lv_at hl 2 rfl) ?_
        exact W.iret SS.1 SS.2.1 hr (fun t0 ht hW => ⟨_, rfl, ⟨fd, rfl, (⟨by omega, fun q9 => by rw [show (u.2.2.2 21) = s by omega]; exact i4_2 q9⟩)⟩, ht⟩) (fun _ h => nomatch h) dX2_flipsOf_43 hlk
      · skip
        refine lv_aload_n SS.1 SS.2.1 dX2_flipsOf_15 rfl (lv_at hl 0 rfl) ?_
        refine j_get SS hG hP 6 (v := .ref (q 66)) (C := RX2) (T := TX2) (N := 7) rfl rfl inX2 0 (by decide) (ref := "GridPolygons$Cuts") kw_340 rfl rfl dX2_flipsOf_16 ?_
        refine lv_aload_n SS.1 SS.2.1 dX2_flipsOf_19 rfl (lv_at hl 0 rfl) ?_
        refine lv_iload_n SS.1 SS.2.1 dX2_flipsOf_20 rfl (lv_at hl 1 rfl) ?_
        refine j_vRl SS (As := [.int (J i)]) (rest := [.ref (q 66)]) (c_X2_setOf3 l D q u  i (show -2147483648 ≤ i ∧ i ≤ 2147483647 from (p0))) mf_X2_setOf kw_942 hG hP hP (ci := 2) (q0 := 6) rfl rfl rfl rfl hl.1 ⟨⟨Nat.le_of_ble_eq_true rfl, Nat.le_of_ble_eq_true rfl⟩, Nat.le_of_ble_eq_true rfl, Nat.le_refl _, Nat.le_refl _⟩ rfl dX2_flipsOf_21 (fun x_21 h_21 => ?_)
        refine lv_iload_n SS.1 SS.2.1 dX2_flipsOf_24 rfl (lv_at hl 3 rfl) ?_
        refine j_vRl SS (As := [.long x_21, .int (J s)]) (rest := []) (c_X5_flipped3 l D q u  x_21 s (show -2147483648 ≤ s ∧ s ≤ 2147483647 from (by omega))) mf_X5_flipped kw_946 hG hP hP (ci := 5) (q0 := 66) rfl rfl rfl rfl hl.1 ⟨⟨Nat.le_of_ble_eq_true rfl, Nat.le_of_ble_eq_true rfl⟩, Nat.le_of_ble_eq_true rfl, Nat.le_refl _, Nat.le_refl _⟩ rfl dX2_flipsOf_25 (fun x_25 h_25 => ?_)
        have n25 : (0 ≤ i ∧ i < 1500) → x_25 = 0 → ¬ ((u.2.2.1 2) i.toNat &&& (u.2.2.1 4) s.toNat = (u.2.2.1 4) s.toNat ∧ (u.2.2.1 2) i.toNat ^^^ (u.2.2.1 5) s.toNat ≠ 0) := fun q9 e9 w9 => by have s9 := h_21 q9; rw [← s9] at w9; exact w9.2 (FR_n h_25 (by omega) e9 w9.1)
        have y25 : (0 ≤ i ∧ i < 1500) → x_25 ≠ 0 → ((u.2.2.1 2) i.toNat &&& (u.2.2.1 4) s.toNat = (u.2.2.1 4) s.toNat ∧ (u.2.2.1 2) i.toNat ^^^ (u.2.2.1 5) s.toNat ≠ 0) := fun q9 e9 => by have s9 := h_21 q9; rw [← s9]; have w9 := FR_y h_25 e9; exact ⟨w9.1, fun v9 => e9 (w9.2.trans v9)⟩
        refine lv_lconst (v := 0) SS.1 SS.2.1 dX2_flipsOf_28 (by decide +kernel) ?_
        refine j_lcmp SS dX2_flipsOf_29 (fun z_29 hz_29 => ?_)
        refine j_if_eq SS (tgt := 36) (x := z_29) dX2_flipsOf_30 (by decide) (by omega) (fun c_30 => ?_) (fun c_30 => ?_)
        · skip
          refine lv_iinc (v := J (s + 1)) (lv' := [(3, .int (J (s + 1))), (0, .ref (q 6)), (1, .int (J i)), (2, .int (J fd))]) SS.1 SS.2.1 dX2_flipsOf_36 hl (k := 3) rfl (J_add _ _) (by decide) rfl (fun ls hl => ?_)
          refine lv_goto (tgt := 4) SS.1 SS.2.1 dX2_flipsOf_39 (by decide) ?_
          exact ih_4 fd (s + 1) ls (lv_sub hl [1, 2, 3, 0] rfl) (by omega) (by omega) (fun q9 => cn9_s (by omega) (i4_2 q9) (by first | exact Or.inr ⟨n25 q9 (hz_29.2.2.2.mp (by omega)), rfl⟩ | exact Or.inl ⟨y25 q9 (fun e9 => by have q8 := hz_29.2.2.2.mpr e9; omega), rfl⟩)) (by omega)
        · skip
          refine lv_iinc (v := J (fd + 1)) (lv' := [(2, .int (J (fd + 1))), (0, .ref (q 6)), (1, .int (J i)), (3, .int (J s))]) SS.1 SS.2.1 dX2_flipsOf_33 hl (k := 2) rfl (J_add _ _) (by decide) rfl (fun ls hl => ?_)
          refine lv_iinc (v := J (s + 1)) (lv' := [(3, .int (J (s + 1))), (2, .int (J (fd + 1))), (0, .ref (q 6)), (1, .int (J i))]) SS.1 SS.2.1 dX2_flipsOf_36 hl (k := 3) rfl (J_add _ _) (by decide) rfl (fun ls hl => ?_)
          refine lv_goto (tgt := 4) SS.1 SS.2.1 dX2_flipsOf_39 (by decide) ?_
          exact ih_4 (fd + 1) (s + 1) ls (lv_sub hl [2, 3, 1, 0] rfl) (by omega) (by omega) (fun q9 => cn9_s (by omega) (i4_2 q9) (by first | exact Or.inr ⟨n25 q9 (hz_29.2.2.2.mp (by omega)), rfl⟩ | exact Or.inl ⟨y25 q9 (fun e9 => by have q8 := hz_29.2.2.2.mpr e9; omega), rfl⟩)) (by omega)
  exact L_4 (((756 : Int) - (0 : Int)).toNat + 1) 0 0 ls (lv_sub hl [2, 3, 1, 0] rfl) (by omega) (by omega) (fun _ => cn9_0) (Nat.lt_succ_self _)

set_option maxHeartbeats 4000000 in
set_option maxRecDepth 100000 in
theorem c_X2_enter3 (l : Launch) (D : JD) (q : Nat → Nat) (u : CS) (A : Nat → Prop) (hD : va_D A (cW D q u)) (set : Int64) (st9 : Int) (p0 : 0 ≤ u.2.2.2 22 ∧ u.2.2.2 22 ≤ 1500) (p1 : ∀ k : Nat, 0 ≤ u.2.1 8 k ∧ u.2.1 8 k ≤ 1500) (p2 : u.2.2.2 23 = 0 ∨ u.2.2.2 23 = 1) : Met l yX2_enter (jw yX2_enter cX2_enter 6 none) (jr 1 21) (jP [.ref (q 6), .long set, .int (J st9)] D (fun H => va_P D.1 j_cl (cW D q u) H)) (jWv (fun u' => ∃ st2 : Nat → Int64, ∃ fa : Nat → Int, ∃ pc9 : Nat → Int, ∃ n : Int, ∃ sp : Int, u' = (sV (sV (sL (sI (sI u 7 fa) 8 pc9) 2 st2) 22 n) 23 sp) ∧ (((0 ≤ n ∧ n ≤ 1500) ∧ (∀ k : Nat, 0 ≤ pc9 k ∧ pc9 k ≤ 1500) ∧ (sp = 0 ∨ sp = 1)) ∧ ET9 (u.2.2.1 2) st2 (u.2.1 7) fa (u.2.1 8) pc9 (u.2.2.2 22) n (u.2.2.2 23) sp set st9)) (fun u' H => va_P D.1 j_cl (cW D q u') H) A) 0 0 A := by
  refine Met.ofW (cc := cX2_enter) (maxL := 6) (ret := none) (by decide) rfl ?_
  intro pr en st mi args below meth co s₁ B hml hv
  obtain ⟨rfl, hG, hP⟩ := hv
  have hr := B.returns
  have hlk := B.notSynchronized
  have SS : jS pr mi co cX2_enter 6 st _ RX2 := ⟨B.exec, B.bytes, hml, findClass_of_methodNamed B.named, fun w hw => atoms_spec (ws := (jw yX2_enter cX2_enter 6 none)) B.pre w (List.mem_cons_of_mem _ hw)⟩
  have hl := lv_entry ([.ref (q 6), .long set, .int (J st9)]) (n := 6) (Nat.le_of_ble_eq_true rfl)
  rw [lg_entry_eq]
  generalize (lg_sl ([.ref (q 6), .long set, .int (J st9)]) ++ List.replicate (6 - (lg_sl ([.ref (q 6), .long set, .int (J st9)])).length) Slot.unset).toArray = ls at hl ⊢
  have hl : lv_has ls 6 [(0, .ref (q 6)), (1, .long set), (3, .int (J st9))] := hl
  have hS : va_S A st.heap st.heap [] := va_S.rf
  refine lv_lload_n SS.1 SS.2.1 dX2_enter_0 rfl (lv_at hl 1 rfl) ?_
  refine lv_ldc2 SS.1 SS.2.1 SS.2.2.2.1 (SS.2.2.2.2 _ kw_941) dX2_enter_1 ?_
  refine lv_lmul SS.1 SS.2.1 dX2_enter_4 ?_
  refine j_bipush SS dX2_enter_5 (by decide +kernel) ?_
  refine lv_lushr SS.1 SS.2.1 dX2_enter_7 rfl (lv_topl (fun x_7 ex_7 => ?_))
  refine lv_l2i SS.1 SS.2.1 dX2_enter_8 rfl ?_
  rw [J_of (Int64.toInt32 _)]
  have r_8 := J_rng (Int64.toInt32 x_7)
  refine j_sipush SS dX2_enter_9 (by decide +kernel) ?_
  refine lv_iand SS.1 SS.2.1 dX2_enter_12 ?_
  rw [J_of (J ((Int64.toInt32 x_7).toInt) &&& J 4095)]
  have x_12 := J_a4095 (J ((Int64.toInt32 x_7).toInt))
  refine lv_istore (lv' := [(4, .int (J ((J ((Int64.toInt32 x_7).toInt) &&& J 4095).toInt))), (0, .ref (q 6)), (1, .long set), (3, .int (J st9))]) SS.1 SS.2.1 dX2_enter_13 hl (by decide) rfl (fun ls hl => ?_)
  refine j_iconst SS dX2_enter_15 ?_
  refine lv_istore (lv' := [(5, .int (J 0)), (4, .int (J ((J ((Int64.toInt32 x_7).toInt) &&& J 4095).toInt))), (0, .ref (q 6)), (1, .long set), (3, .int (J st9))]) SS.1 SS.2.1 dX2_enter_16 hl (by decide) rfl (fun ls hl => ?_)
  have L_18 : ∀ (nn : Nat) (pl : Int) (i : Int) (H : Heap) (locs : List Loc) (hP : va_P D.1 j_cl (cW D q u) H) (hS : va_S A st.heap H locs) (ls : Array Slot) (hl : lv_has ls 6 [(0, .ref (q 6)), (1, .long set), (3, .int (J st9)), (4, .int (J pl)), (5, .int (J i))]) (i18_0 : 0 ≤ pl ∧ pl ≤ 4095) (i18_1 : 0 ≤ i ∧ i ≤ 4096) (i18_2 : pl.toNat = (hC9 set + i.toNat) % 4096) (i18_3 : LK9 hC9 (VC9 (u.2.1 8)) (u.2.2.1 2) set i.toNat), ((4096 : Int) - i).toNat < nn → W pr l en (headSpec (jw yX2_enter cX2_enter 6 none) (jr 1 21)).room st mi (([.ref (q 6), .long set, .int (J st9)] : List Value).toArray) below meth co H locs 0 0 (MQ below (jWv (fun u' => ∃ st2 : Nat → Int64, ∃ fa : Nat → Int, ∃ pc9 : Nat → Int, ∃ n : Int, ∃ sp : Int, u' = (sV (sV (sL (sI (sI u 7 fa) 8 pc9) 2 st2) 22 n) 23 sp) ∧ (((0 ≤ n ∧ n ≤ 1500) ∧ (∀ k : Nat, 0 ≤ pc9 k ∧ pc9 k ≤ 1500) ∧ (sp = 0 ∨ sp = 1)) ∧ ET9 (u.2.2.1 2) st2 (u.2.1 7) fa (u.2.1 8) pc9 (u.2.2.2 22) n (u.2.2.2 23) sp set st9)) (fun u' H => va_P D.1 j_cl (cW D q u') H) A) (([.ref (q 6), .long set, .int (J st9)] : List Value).toArray) st 0 0 A) (F0 mi 18 ls []) := by
    intro nn
    induction nn with
    | zero => intros; omega
    | succ nn ih_18 =>
      intro pl i  H locs hP hS ls hl i18_0 i18_1 i18_2 i18_3 hm
      refine lv_iload SS.1 SS.2.1 dX2_enter_18 (lv_at hl 4 rfl) ?_
      refine j_sipush SS dX2_enter_20 (by decide +kernel) ?_
      refine j_icmp_ge SS (tgt := 71) (x := i) (y := 4096) dX2_enter_23 (by decide) (by omega) (by decide) (fun c_23 => ?_) (fun c_23 => ?_)
      · skip
        refine lv_aload_n SS.1 SS.2.1 dX2_enter_71 rfl (lv_at hl 0 rfl) ?_
        refine j_get SS hG hP 6 (v := .int (J (u.2.2.2 22))) (C := RX2) (T := TX2) (N := 7) rfl rfl inX2 4 (by decide) (ref := "GridPolygons$Cuts") kw_344 rfl rfl dX2_enter_72 ?_
        refine j_sipush SS dX2_enter_75 (by decide +kernel) ?_
        refine j_icmp_lt SS (tgt := 87) (x := (u.2.2.2 22)) (y := 1500) dX2_enter_78 (by decide) (by omega) (by decide) (fun c_78 => ?_) (fun c_78 => ?_)
        · skip
          refine lv_aload_n SS.1 SS.2.1 dX2_enter_87 rfl (lv_at hl 0 rfl) ?_
          refine j_get SS hG hP 6 (v := .ref (q 69)) (C := RX2) (T := TX2) (N := 7) rfl rfl inX2 1 (by decide) (ref := "GridPolygons$Cuts") kw_341 rfl rfl dX2_enter_88 ?_
          refine lv_aload_n SS.1 SS.2.1 dX2_enter_91 rfl (lv_at hl 0 rfl) ?_
          refine j_get SS hG hP 6 (v := .int (J (u.2.2.2 22))) (C := RX2) (T := TX2) (N := 7) rfl rfl inX2 4 (by decide) (ref := "GridPolygons$Cuts") kw_344 rfl rfl dX2_enter_92 ?_
          refine lv_lload_n SS.1 SS.2.1 dX2_enter_95 rfl (lv_at hl 1 rfl) ?_
          refine j_last SS hG hP (cW_D hD) hS 69 (n := 1500) (f := (u.2.2.1 2)) rfl (z := (u.2.2.2 22)) (v := set) (by omega) (by omega) dX2_enter_96 (ws' := (cW D q (sL u 2 (vp_updL (u.2.2.1 2) ((u.2.2.2 22)).toNat set)))) rfl (fun H locs hP hS => ?_)
          refine lv_aload_n SS.1 SS.2.1 dX2_enter_97 rfl (lv_at hl 0 rfl) ?_
          refine j_get SS hG hP 6 (v := .ref (q 64)) (C := RX2) (T := TX2) (N := 7) rfl rfl inX2 2 (by decide) (ref := "GridPolygons$Cuts") kw_342 rfl rfl dX2_enter_98 ?_
          refine lv_aload_n SS.1 SS.2.1 dX2_enter_101 rfl (lv_at hl 0 rfl) ?_
          refine j_get SS hG hP 6 (v := .int (J (u.2.2.2 22))) (C := RX2) (T := TX2) (N := 7) rfl rfl inX2 4 (by decide) (ref := "GridPolygons$Cuts") kw_344 rfl rfl dX2_enter_102 ?_
          refine lv_iload_n SS.1 SS.2.1 dX2_enter_105 rfl (lv_at hl 2 rfl) ?_
          refine j_iast SS hG hP (cW_D hD) hS 64 (n := 1500) (f := (u.2.1 7)) rfl (z := (u.2.2.2 22)) (v := st9) (by omega) (by omega) dX2_enter_106 (ws' := (cW D q (sL (sI u 7 (upI (u.2.1 7) ((u.2.2.2 22)).toNat st9)) 2 (vp_updL (u.2.2.1 2) ((u.2.2.2 22)).toNat set)))) rfl (fun H locs hP hS => ?_)
          refine lv_aload_n SS.1 SS.2.1 dX2_enter_107 rfl (lv_at hl 0 rfl) ?_
          refine lv_dup SS.1 SS.2.1 dX2_enter_108 rfl ?_
          refine j_get SS hG hP 6 (v := .int (J (u.2.2.2 22))) (C := RX2) (T := TX2) (N := 7) rfl rfl inX2 4 (by decide) (ref := "GridPolygons$Cuts") kw_344 rfl rfl dX2_enter_109 ?_
          refine j_iconst SS dX2_enter_112 ?_
          refine j_iadd SS (x := (u.2.2.2 22)) (y := 1) dX2_enter_113 ?_
          refine j_put SS hG hP (cW_D hD) hS 6 (v := .int (J ((u.2.2.2 22) + 1))) (ty := .int) (C := RX2) (T := TX2) (N := 7) rfl rfl inX2 tyX2 tyX2_ok nmX2 4 (by decide) (ref := "GridPolygons$Cuts") kw_344 rfl rfl (by decide +kernel) rfl rfl (Nat.le_of_ble_eq_true rfl) dX2_enter_114 (ws' := (cW D q (sV (sL (sI u 7 (upI (u.2.1 7) ((u.2.2.2 22)).toNat st9)) 2 (vp_updL (u.2.2.1 2) ((u.2.2.2 22)).toNat set)) 22 ((u.2.2.2 22) + 1)))) rfl (fun H locs hP hS => ?_)
          refine lv_aload_n SS.1 SS.2.1 dX2_enter_117 rfl (lv_at hl 0 rfl) ?_
          refine j_get SS hG hP 6 (v := .ref (q 65)) (C := RX2) (T := TX2) (N := 7) rfl rfl inX2 3 (by decide) (ref := "GridPolygons$Cuts") kw_343 rfl rfl dX2_enter_118 ?_
          refine lv_iload SS.1 SS.2.1 dX2_enter_121 (lv_at hl 3 rfl) ?_
          refine lv_aload_n SS.1 SS.2.1 dX2_enter_123 rfl (lv_at hl 0 rfl) ?_
          refine j_get SS hG hP 6 (v := .int (J ((u.2.2.2 22) + 1))) (C := RX2) (T := TX2) (N := 7) rfl rfl inX2 4 (by decide) (ref := "GridPolygons$Cuts") kw_344 rfl rfl dX2_enter_124 ?_
          refine j_iast SS hG hP (cW_D hD) hS 65 (n := 4096) (f := (u.2.1 8)) rfl (z := pl) (v := ((u.2.2.2 22) + 1)) (by omega) (by omega) dX2_enter_127 (ws' := (cW D q (sV (sL (sI (sI u 7 (upI (u.2.1 7) ((u.2.2.2 22)).toNat st9)) 8 (upI (u.2.1 8) (pl).toNat ((u.2.2.2 22) + 1))) 2 (vp_updL (u.2.2.1 2) ((u.2.2.2 22)).toNat set)) 22 ((u.2.2.2 22) + 1)))) rfl (fun H locs hP hS => ?_)
          have hP : va_P D.1 j_cl (cW D q (sV (sV (sL (sI (sI u 7 (upI (u.2.1 7) ((u.2.2.2 22)).toNat st9)) 8 (upI (u.2.1 8) (pl).toNat ((u.2.2.2 22) + 1))) 2 (vp_updL (u.2.2.1 2) ((u.2.2.2 22)).toNat set)) 22 ((u.2.2.2 22) + 1)) 23 (u.2.2.2 23))) H := Eq.mpr (congrArg (fun s => va_P D.1 j_cl (cW D q s) H) (sV_at (u := (sV (sL (sI (sI u 7 (upI (u.2.1 7) ((u.2.2.2 22)).toNat st9)) 8 (upI (u.2.1 8) (pl).toNat ((u.2.2.2 22) + 1))) 2 (vp_updL (u.2.2.1 2) ((u.2.2.2 22)).toNat set)) 22 ((u.2.2.2 22) + 1))) (r := 23) (x := (u.2.2.2 23)) rfl)) hP
          exact W.vret SS.1 SS.2.1 hr (fun t0 ht hW => ⟨⟨(sV (sV (sL (sI (sI u 7 (upI (u.2.1 7) ((u.2.2.2 22)).toNat st9)) 8 (upI (u.2.1 8) (pl).toNat ((u.2.2.2 22) + 1))) 2 (vp_updL (u.2.2.1 2) ((u.2.2.2 22)).toNat set)) 22 ((u.2.2.2 22) + 1)) 23 (u.2.2.2 23)), rfl, (⟨(vp_updL (u.2.2.1 2) ((u.2.2.2 22)).toNat set), (upI (u.2.1 7) ((u.2.2.2 22)).toNat st9), (upI (u.2.1 8) (pl).toNat ((u.2.2.2 22) + 1)), ((u.2.2.2 22) + 1), (u.2.2.2 23), rfl, ⟨⟨by omega, UP_b p1 (by omega), p2⟩, ET_up (pl := pl) (i := i) (by omega) i18_2 i18_3 (by omega) (by omega)⟩⟩), by show va_P D.1 j_cl (cW D q (sV (sV (sL (sI (sI u 7 (upI (u.2.1 7) ((u.2.2.2 22)).toNat st9)) 8 (upI (u.2.1 8) (pl).toNat ((u.2.2.2 22) + 1))) 2 (vp_updL (u.2.2.1 2) ((u.2.2.2 22)).toNat set)) 22 ((u.2.2.2 22) + 1)) 23 (u.2.2.2 23))) t0.heap; rw [ht]; first | exact hP | (simp only [sI_id, sL_id, sC_id, sX_id, sY_id, sH_id, sT_id, sV_id]; exact hP)⟩, hS.F ht⟩) hS.2.2 dX2_enter_128 hlk
        · skip
          refine lv_aload_n SS.1 SS.2.1 dX2_enter_81 rfl (lv_at hl 0 rfl) ?_
          refine j_iconst SS dX2_enter_82 ?_
          refine j_put SS hG hP (cW_D hD) hS 6 (v := .int (J 1)) (ty := .boolean) (C := RX2) (T := TX2) (N := 7) rfl rfl inX2 tyX2 tyX2_ok nmX2 5 (by decide) (ref := "GridPolygons$Cuts") kw_346 rfl rfl (by decide +kernel) (j_nz (by omega)) rfl (Nat.le_of_ble_eq_true rfl) dX2_enter_83 (ws' := (cW D q (sV u 23 1))) rfl (fun H locs hP hS => ?_)
          have hP : va_P D.1 j_cl (cW D q (sV (sI u 7 (u.2.1 7)) 23 1)) H := Eq.mpr (congrArg (fun s => va_P D.1 j_cl (cW D q (sV s 23 1)) H) (sI_at (u := u) (r := 7) (x := (u.2.1 7)) rfl)) hP
          have hP : va_P D.1 j_cl (cW D q (sV (sI (sI u 7 (u.2.1 7)) 8 (u.2.1 8)) 23 1)) H := Eq.mpr (congrArg (fun s => va_P D.1 j_cl (cW D q (sV s 23 1)) H) (sI_at (u := (sI u 7 (u.2.1 7))) (r := 8) (x := (u.2.1 8)) rfl)) hP
          have hP : va_P D.1 j_cl (cW D q (sV (sL (sI (sI u 7 (u.2.1 7)) 8 (u.2.1 8)) 2 (u.2.2.1 2)) 23 1)) H := Eq.mpr (congrArg (fun s => va_P D.1 j_cl (cW D q (sV s 23 1)) H) (sL_at (u := (sI (sI u 7 (u.2.1 7)) 8 (u.2.1 8))) (r := 2) (x := (u.2.2.1 2)) rfl)) hP
          have hP : va_P D.1 j_cl (cW D q (sV (sV (sL (sI (sI u 7 (u.2.1 7)) 8 (u.2.1 8)) 2 (u.2.2.1 2)) 22 (u.2.2.2 22)) 23 1)) H := Eq.mpr (congrArg (fun s => va_P D.1 j_cl (cW D q (sV s 23 1)) H) (sV_at (u := (sL (sI (sI u 7 (u.2.1 7)) 8 (u.2.1 8)) 2 (u.2.2.1 2))) (r := 22) (x := (u.2.2.2 22)) rfl)) hP
          exact W.vret SS.1 SS.2.1 hr (fun t0 ht hW => ⟨⟨(sV (sV (sL (sI (sI u 7 (u.2.1 7)) 8 (u.2.1 8)) 2 (u.2.2.1 2)) 22 (u.2.2.2 22)) 23 1), rfl, (⟨(u.2.2.1 2), (u.2.1 7), (u.2.1 8), (u.2.2.2 22), 1, rfl, ⟨⟨p0, p1, Or.inr rfl⟩, ET_sp (pl := pl) (i := i) (by omega) i18_2 i18_3 (by omega) (by omega)⟩⟩), by show va_P D.1 j_cl (cW D q (sV (sV (sL (sI (sI u 7 (u.2.1 7)) 8 (u.2.1 8)) 2 (u.2.2.1 2)) 22 (u.2.2.2 22)) 23 1)) t0.heap; rw [ht]; first | exact hP | (simp only [sI_id, sL_id, sC_id, sX_id, sY_id, sH_id, sT_id, sV_id]; exact hP)⟩, hS.F ht⟩) hS.2.2 dX2_enter_86 hlk
      · skip
        refine lv_aload_n SS.1 SS.2.1 dX2_enter_26 rfl (lv_at hl 0 rfl) ?_
        refine j_get SS hG hP 6 (v := .ref (q 65)) (C := RX2) (T := TX2) (N := 7) rfl rfl inX2 3 (by decide) (ref := "GridPolygons$Cuts") kw_343 rfl rfl dX2_enter_27 ?_
        refine lv_iload SS.1 SS.2.1 dX2_enter_30 (lv_at hl 3 rfl) ?_
        refine j_iald SS hG hP 65 (n := 4096) (f := (u.2.1 8)) rfl (z := pl) (by omega) (by omega) dX2_enter_32 ?_
        have lp := p1 pl.toNat
        refine j_if_eq SS (tgt := 71) (x := ((u.2.1 8) (pl).toNat)) dX2_enter_33 (by decide) (by omega) (fun c_33 => ?_) (fun c_33 => ?_)
        · skip
          refine lv_aload_n SS.1 SS.2.1 dX2_enter_71 rfl (lv_at hl 0 rfl) ?_
          refine j_get SS hG hP 6 (v := .int (J (u.2.2.2 22))) (C := RX2) (T := TX2) (N := 7) rfl rfl inX2 4 (by decide) (ref := "GridPolygons$Cuts") kw_344 rfl rfl dX2_enter_72 ?_
          refine j_sipush SS dX2_enter_75 (by decide +kernel) ?_
          refine j_icmp_lt SS (tgt := 87) (x := (u.2.2.2 22)) (y := 1500) dX2_enter_78 (by decide) (by omega) (by decide) (fun c_78 => ?_) (fun c_78 => ?_)
          · skip
            refine lv_aload_n SS.1 SS.2.1 dX2_enter_87 rfl (lv_at hl 0 rfl) ?_
            refine j_get SS hG hP 6 (v := .ref (q 69)) (C := RX2) (T := TX2) (N := 7) rfl rfl inX2 1 (by decide) (ref := "GridPolygons$Cuts") kw_341 rfl rfl dX2_enter_88 ?_
            refine lv_aload_n SS.1 SS.2.1 dX2_enter_91 rfl (lv_at hl 0 rfl) ?_
            refine j_get SS hG hP 6 (v := .int (J (u.2.2.2 22))) (C := RX2) (T := TX2) (N := 7) rfl rfl inX2 4 (by decide) (ref := "GridPolygons$Cuts") kw_344 rfl rfl dX2_enter_92 ?_
            refine lv_lload_n SS.1 SS.2.1 dX2_enter_95 rfl (lv_at hl 1 rfl) ?_
            refine j_last SS hG hP (cW_D hD) hS 69 (n := 1500) (f := (u.2.2.1 2)) rfl (z := (u.2.2.2 22)) (v := set) (by omega) (by omega) dX2_enter_96 (ws' := (cW D q (sL u 2 (vp_updL (u.2.2.1 2) ((u.2.2.2 22)).toNat set)))) rfl (fun H locs hP hS => ?_)
            refine lv_aload_n SS.1 SS.2.1 dX2_enter_97 rfl (lv_at hl 0 rfl) ?_
            refine j_get SS hG hP 6 (v := .ref (q 64)) (C := RX2) (T := TX2) (N := 7) rfl rfl inX2 2 (by decide) (ref := "GridPolygons$Cuts") kw_342 rfl rfl dX2_enter_98 ?_
            refine lv_aload_n SS.1 SS.2.1 dX2_enter_101 rfl (lv_at hl 0 rfl) ?_
            refine j_get SS hG hP 6 (v := .int (J (u.2.2.2 22))) (C := RX2) (T := TX2) (N := 7) rfl rfl inX2 4 (by decide) (ref := "GridPolygons$Cuts") kw_344 rfl rfl dX2_enter_102 ?_
            refine lv_iload_n SS.1 SS.2.1 dX2_enter_105 rfl (lv_at hl 2 rfl) ?_
            refine j_iast SS hG hP (cW_D hD) hS 64 (n := 1500) (f := (u.2.1 7)) rfl (z := (u.2.2.2 22)) (v := st9) (by omega) (by omega) dX2_enter_106 (ws' := (cW D q (sL (sI u 7 (upI (u.2.1 7) ((u.2.2.2 22)).toNat st9)) 2 (vp_updL (u.2.2.1 2) ((u.2.2.2 22)).toNat set)))) rfl (fun H locs hP hS => ?_)
            refine lv_aload_n SS.1 SS.2.1 dX2_enter_107 rfl (lv_at hl 0 rfl) ?_
            refine lv_dup SS.1 SS.2.1 dX2_enter_108 rfl ?_
            refine j_get SS hG hP 6 (v := .int (J (u.2.2.2 22))) (C := RX2) (T := TX2) (N := 7) rfl rfl inX2 4 (by decide) (ref := "GridPolygons$Cuts") kw_344 rfl rfl dX2_enter_109 ?_
            refine j_iconst SS dX2_enter_112 ?_
            refine j_iadd SS (x := (u.2.2.2 22)) (y := 1) dX2_enter_113 ?_
            refine j_put SS hG hP (cW_D hD) hS 6 (v := .int (J ((u.2.2.2 22) + 1))) (ty := .int) (C := RX2) (T := TX2) (N := 7) rfl rfl inX2 tyX2 tyX2_ok nmX2 4 (by decide) (ref := "GridPolygons$Cuts") kw_344 rfl rfl (by decide +kernel) rfl rfl (Nat.le_of_ble_eq_true rfl) dX2_enter_114 (ws' := (cW D q (sV (sL (sI u 7 (upI (u.2.1 7) ((u.2.2.2 22)).toNat st9)) 2 (vp_updL (u.2.2.1 2) ((u.2.2.2 22)).toNat set)) 22 ((u.2.2.2 22) + 1)))) rfl (fun H locs hP hS => ?_)
            refine lv_aload_n SS.1 SS.2.1 dX2_enter_117 rfl (lv_at hl 0 rfl) ?_
            refine j_get SS hG hP 6 (v := .ref (q 65)) (C := RX2) (T := TX2) (N := 7) rfl rfl inX2 3 (by decide) (ref := "GridPolygons$Cuts") kw_343 rfl rfl dX2_enter_118 ?_
            refine lv_iload SS.1 SS.2.1 dX2_enter_121 (lv_at hl 3 rfl) ?_
            refine lv_aload_n SS.1 SS.2.1 dX2_enter_123 rfl (lv_at hl 0 rfl) ?_
            refine j_get SS hG hP 6 (v := .int (J ((u.2.2.2 22) + 1))) (C := RX2) (T := TX2) (N := 7) rfl rfl inX2 4 (by decide) (ref := "GridPolygons$Cuts") kw_344 rfl rfl dX2_enter_124 ?_
            refine j_iast SS hG hP (cW_D hD) hS 65 (n := 4096) (f := (u.2.1 8)) rfl (z := pl) (v := ((u.2.2.2 22) + 1)) (by omega) (by omega) dX2_enter_127 (ws' := (cW D q (sV (sL (sI (sI u 7 (upI (u.2.1 7) ((u.2.2.2 22)).toNat st9)) 8 (upI (u.2.1 8) (pl).toNat ((u.2.2.2 22) + 1))) 2 (vp_updL (u.2.2.1 2) ((u.2.2.2 22)).toNat set)) 22 ((u.2.2.2 22) + 1)))) rfl (fun H locs hP hS => ?_)
            have hP : va_P D.1 j_cl (cW D q (sV (sV (sL (sI (sI u 7 (upI (u.2.1 7) ((u.2.2.2 22)).toNat st9)) 8 (upI (u.2.1 8) (pl).toNat ((u.2.2.2 22) + 1))) 2 (vp_updL (u.2.2.1 2) ((u.2.2.2 22)).toNat set)) 22 ((u.2.2.2 22) + 1)) 23 (u.2.2.2 23))) H := Eq.mpr (congrArg (fun s => va_P D.1 j_cl (cW D q s) H) (sV_at (u := (sV (sL (sI (sI u 7 (upI (u.2.1 7) ((u.2.2.2 22)).toNat st9)) 8 (upI (u.2.1 8) (pl).toNat ((u.2.2.2 22) + 1))) 2 (vp_updL (u.2.2.1 2) ((u.2.2.2 22)).toNat set)) 22 ((u.2.2.2 22) + 1))) (r := 23) (x := (u.2.2.2 23)) rfl)) hP
            exact W.vret SS.1 SS.2.1 hr (fun t0 ht hW => ⟨⟨(sV (sV (sL (sI (sI u 7 (upI (u.2.1 7) ((u.2.2.2 22)).toNat st9)) 8 (upI (u.2.1 8) (pl).toNat ((u.2.2.2 22) + 1))) 2 (vp_updL (u.2.2.1 2) ((u.2.2.2 22)).toNat set)) 22 ((u.2.2.2 22) + 1)) 23 (u.2.2.2 23)), rfl, (⟨(vp_updL (u.2.2.1 2) ((u.2.2.2 22)).toNat set), (upI (u.2.1 7) ((u.2.2.2 22)).toNat st9), (upI (u.2.1 8) (pl).toNat ((u.2.2.2 22) + 1)), ((u.2.2.2 22) + 1), (u.2.2.2 23), rfl, ⟨⟨by omega, UP_b p1 (by omega), p2⟩, ET_up (pl := pl) (i := i) (by omega) i18_2 i18_3 (by omega) (by omega)⟩⟩), by show va_P D.1 j_cl (cW D q (sV (sV (sL (sI (sI u 7 (upI (u.2.1 7) ((u.2.2.2 22)).toNat st9)) 8 (upI (u.2.1 8) (pl).toNat ((u.2.2.2 22) + 1))) 2 (vp_updL (u.2.2.1 2) ((u.2.2.2 22)).toNat set)) 22 ((u.2.2.2 22) + 1)) 23 (u.2.2.2 23))) t0.heap; rw [ht]; first | exact hP | (simp only [sI_id, sL_id, sC_id, sX_id, sY_id, sH_id, sT_id, sV_id]; exact hP)⟩, hS.F ht⟩) hS.2.2 dX2_enter_128 hlk
          · skip
            refine lv_aload_n SS.1 SS.2.1 dX2_enter_81 rfl (lv_at hl 0 rfl) ?_
            refine j_iconst SS dX2_enter_82 ?_
            refine j_put SS hG hP (cW_D hD) hS 6 (v := .int (J 1)) (ty := .boolean) (C := RX2) (T := TX2) (N := 7) rfl rfl inX2 tyX2 tyX2_ok nmX2 5 (by decide) (ref := "GridPolygons$Cuts") kw_346 rfl rfl (by decide +kernel) (j_nz (by omega)) rfl (Nat.le_of_ble_eq_true rfl) dX2_enter_83 (ws' := (cW D q (sV u 23 1))) rfl (fun H locs hP hS => ?_)
            have hP : va_P D.1 j_cl (cW D q (sV (sI u 7 (u.2.1 7)) 23 1)) H := Eq.mpr (congrArg (fun s => va_P D.1 j_cl (cW D q (sV s 23 1)) H) (sI_at (u := u) (r := 7) (x := (u.2.1 7)) rfl)) hP
            have hP : va_P D.1 j_cl (cW D q (sV (sI (sI u 7 (u.2.1 7)) 8 (u.2.1 8)) 23 1)) H := Eq.mpr (congrArg (fun s => va_P D.1 j_cl (cW D q (sV s 23 1)) H) (sI_at (u := (sI u 7 (u.2.1 7))) (r := 8) (x := (u.2.1 8)) rfl)) hP
            have hP : va_P D.1 j_cl (cW D q (sV (sL (sI (sI u 7 (u.2.1 7)) 8 (u.2.1 8)) 2 (u.2.2.1 2)) 23 1)) H := Eq.mpr (congrArg (fun s => va_P D.1 j_cl (cW D q (sV s 23 1)) H) (sL_at (u := (sI (sI u 7 (u.2.1 7)) 8 (u.2.1 8))) (r := 2) (x := (u.2.2.1 2)) rfl)) hP
            have hP : va_P D.1 j_cl (cW D q (sV (sV (sL (sI (sI u 7 (u.2.1 7)) 8 (u.2.1 8)) 2 (u.2.2.1 2)) 22 (u.2.2.2 22)) 23 1)) H := Eq.mpr (congrArg (fun s => va_P D.1 j_cl (cW D q (sV s 23 1)) H) (sV_at (u := (sL (sI (sI u 7 (u.2.1 7)) 8 (u.2.1 8)) 2 (u.2.2.1 2))) (r := 22) (x := (u.2.2.2 22)) rfl)) hP
            exact W.vret SS.1 SS.2.1 hr (fun t0 ht hW => ⟨⟨(sV (sV (sL (sI (sI u 7 (u.2.1 7)) 8 (u.2.1 8)) 2 (u.2.2.1 2)) 22 (u.2.2.2 22)) 23 1), rfl, (⟨(u.2.2.1 2), (u.2.1 7), (u.2.1 8), (u.2.2.2 22), 1, rfl, ⟨⟨p0, p1, Or.inr rfl⟩, ET_sp (pl := pl) (i := i) (by omega) i18_2 i18_3 (by omega) (by omega)⟩⟩), by show va_P D.1 j_cl (cW D q (sV (sV (sL (sI (sI u 7 (u.2.1 7)) 8 (u.2.1 8)) 2 (u.2.2.1 2)) 22 (u.2.2.2 22)) 23 1)) t0.heap; rw [ht]; first | exact hP | (simp only [sI_id, sL_id, sC_id, sX_id, sY_id, sH_id, sT_id, sV_id]; exact hP)⟩, hS.F ht⟩) hS.2.2 dX2_enter_86 hlk
        · skip
          refine lv_aload_n SS.1 SS.2.1 dX2_enter_36 rfl (lv_at hl 0 rfl) ?_
          refine lv_aload_n SS.1 SS.2.1 dX2_enter_37 rfl (lv_at hl 0 rfl) ?_
          refine j_get SS hG hP 6 (v := .ref (q 65)) (C := RX2) (T := TX2) (N := 7) rfl rfl inX2 3 (by decide) (ref := "GridPolygons$Cuts") kw_343 rfl rfl dX2_enter_38 ?_
          refine lv_iload SS.1 SS.2.1 dX2_enter_41 (lv_at hl 3 rfl) ?_
          refine j_iald SS hG hP 65 (n := 4096) (f := (u.2.1 8)) rfl (z := pl) (by omega) (by omega) dX2_enter_43 ?_
          refine j_iconst SS dX2_enter_44 ?_
          refine j_isub SS (x := ((u.2.1 8) (pl).toNat)) (y := 1) dX2_enter_45 ?_
          refine j_vRl SS (As := [.int (J (((u.2.1 8) (pl).toNat) - 1))]) (rest := []) (c_X2_setOf3 l D q u  (((u.2.1 8) (pl).toNat) - 1) (show -2147483648 ≤ (((u.2.1 8) (pl).toNat) - 1) ∧ (((u.2.1 8) (pl).toNat) - 1) ≤ 2147483647 from (by omega))) mf_X2_setOf kw_942 hG hP hP (ci := 2) (q0 := 6) rfl rfl rfl rfl hl.1 ⟨⟨Nat.le_of_ble_eq_true rfl, Nat.le_of_ble_eq_true rfl⟩, Nat.le_of_ble_eq_true rfl, Nat.le_refl _, Nat.le_refl _⟩ rfl dX2_enter_46 (fun x_46 h_46 => ?_)
          refine lv_lload_n SS.1 SS.2.1 dX2_enter_49 rfl (lv_at hl 1 rfl) ?_
          refine j_lcmp SS dX2_enter_50 (fun z_50 hz_50 => ?_)
          refine j_if_ne SS (tgt := 55) (x := z_50) dX2_enter_51 (by decide) (by omega) (fun c_51 => ?_) (fun c_51 => ?_)
          · skip
            refine lv_iload SS.1 SS.2.1 dX2_enter_55 (lv_at hl 3 rfl) ?_
            refine j_iconst SS dX2_enter_57 ?_
            refine j_iadd SS (x := pl) (y := 1) dX2_enter_58 ?_
            refine j_sipush SS dX2_enter_59 (by decide +kernel) ?_
            refine lv_iand SS.1 SS.2.1 dX2_enter_62 ?_
            rw [J_of (J (pl + 1) &&& J 4095)]
            have x_62 := J_a4095 (J (pl + 1))
            refine lv_istore (lv' := [(4, .int (J ((J (pl + 1) &&& J 4095).toInt))), (0, .ref (q 6)), (1, .long set), (3, .int (J st9)), (5, .int (J i))]) SS.1 SS.2.1 dX2_enter_63 hl (by decide) rfl (fun ls hl => ?_)
            have e62 := J_a4 (a := pl + 1) (by omega)
            refine lv_iinc (v := J (i + 1)) (lv' := [(5, .int (J (i + 1))), (4, .int (J ((J (pl + 1) &&& J 4095).toInt))), (0, .ref (q 6)), (1, .long set), (3, .int (J st9))]) SS.1 SS.2.1 dX2_enter_65 hl (k := 4) rfl (J_add _ _) (by decide) rfl (fun ls hl => ?_)
            refine lv_goto (tgt := 18) SS.1 SS.2.1 dX2_enter_68 (by decide) ?_
            exact ih_18 ((J (pl + 1) &&& J 4095).toInt) (i + 1) _ _ hP hS ls (lv_sub hl [2, 3, 4, 1, 0] rfl) (by omega) (by omega) (by omega) (by rw [show (i + 1).toNat = i.toNat + 1 by omega]; exact LK_s i18_3 (by rw [← i18_2]; show (u.2.1 8) pl.toNat - 1 ≠ -1; omega) (by rw [← i18_2]; exact fun w9 => by have q9 := hz_50.2.2.2.mpr ((h_46 (by omega)).trans w9); omega)) (by omega)
          · skip
            exact W.vret SS.1 SS.2.1 hr (fun t0 ht hW => ⟨⟨(sV (sV (sL (sI (sI u 7 (u.2.1 7)) 8 (u.2.1 8)) 2 (u.2.2.1 2)) 22 (u.2.2.2 22)) 23 (u.2.2.2 23)), rfl, (⟨(u.2.2.1 2), (u.2.1 7), (u.2.1 8), (u.2.2.2 22), (u.2.2.2 23), rfl, ⟨⟨p0, p1, p2⟩, ET_in (pl := pl) (by omega) (by omega) ((h_46 (by omega)).symm.trans (hz_50.2.2.2.mp (by omega)))⟩⟩), by show va_P D.1 j_cl (cW D q (sV (sV (sL (sI (sI u 7 (u.2.1 7)) 8 (u.2.1 8)) 2 (u.2.2.1 2)) 22 (u.2.2.2 22)) 23 (u.2.2.2 23))) t0.heap; rw [ht]; first | exact hP | (simp only [sI_id, sL_id, sC_id, sX_id, sY_id, sH_id, sT_id, sV_id]; exact hP)⟩, hS.F ht⟩) hS.2.2 dX2_enter_54 hlk
  exact L_18 (((4096 : Int) - (0 : Int)).toNat + 1) ((J ((Int64.toInt32 x_7).toInt) &&& J 4095).toInt) 0 _ _ hP hS ls (lv_sub hl [2, 3, 4, 1, 0] rfl) (by omega) (by omega) (by have b9 : hC9 set = (J ((Int64.toInt32 x_7).toInt) &&& J 4095).toInt.toNat := (by first | (rw [ex_7]; rfl) | rw [ex_7]); omega) (LK_0) (Nat.lt_succ_self _)


set_option maxHeartbeats 4000000 in
set_option maxRecDepth 100000 in
theorem c_X2_search3 (l : Launch) (D : JD) (q : Nat → Nat) (u : CS) (A : Nat → Prop) (hD : va_D A (cW D q u)) (p0 : 0 ≤ u.2.2.2 20 ∧ u.2.2.2 20 ≤ 63) (p1 : 0 ≤ u.2.2.2 21 ∧ u.2.2.2 21 ≤ 756) (p2 : ∀ k : Nat, 0 ≤ u.2.1 8 k ∧ u.2.1 8 k ≤ 1500) (p3 : MG9 (u.1.1 9) (u.1.2.1 9) (u.1.2.2.1 9) (u.2.2.2 20) (u.2.1 2) (u.2.1 3) (u.2.1 4)) (p4 : ∀ s : Nat, (s : Int) < u.2.2.2 20 → CR9 (u.1.1 9) (u.1.2.1 9) (u.2.1 2) (u.2.1 3) (u.2.2.2 20).toNat (u.2.2.1 3 s) s) (p5 : FM9 (u.1.1 9) (u.1.2.1 9) (u.2.1 2) (u.2.1 3) (u.1.2.2.1 9).toNat (u.2.2.2 20).toNat (u.2.2.1 4) (u.2.2.1 5) (u.2.2.2 21) (fun _ _ => True)) : Met l yX2_search (jw yX2_search cX2_search 5 none) (jr 2 46) (jP [.ref (q 6)] D (fun H => va_P D.1 j_cl (cW D q u) H)) (jWv (fun u' => ∃ st2 : Nat → Int64, ∃ fa : Nat → Int, ∃ pc9 : Nat → Int, ∃ n : Int, ∃ sp : Int, u' = (sV (sV (sL (sI (sI u 7 fa) 8 pc9) 2 st2) 22 n) 23 sp) ∧ (((0 ≤ n ∧ n ≤ 1500) ∧ (∀ k : Nat, 0 ≤ pc9 k ∧ pc9 k ≤ 1500) ∧ (sp = 0 ∨ sp = 1)) ∧ FCT (u.1.1 9) (u.1.2.1 9) (u.1.2.2.1 9) (u.2.1 2) (u.2.1 3) (u.2.2.2 20) st2 fa n sp)) (fun u' H => va_P D.1 j_cl (cW D q u') H) A) 0 0 A := by
  refine Met.ofW (cc := cX2_search) (maxL := 5) (ret := none) (by decide) rfl ?_
  intro pr en st mi args below meth co s₁ B hml hv
  obtain ⟨rfl, hG, hP⟩ := hv
  have hr := B.returns
  have hlk := B.notSynchronized
  have SS : jS pr mi co cX2_search 5 st _ RX2 := ⟨B.exec, B.bytes, hml, findClass_of_methodNamed B.named, fun w hw => atoms_spec (ws := (jw yX2_search cX2_search 5 none)) B.pre w (List.mem_cons_of_mem _ hw)⟩
  have hl := lv_entry ([.ref (q 6)]) (n := 5) (Nat.le_of_ble_eq_true rfl)
  rw [lg_entry_eq]
  generalize (lg_sl ([.ref (q 6)]) ++ List.replicate (5 - (lg_sl ([.ref (q 6)])).length) Slot.unset).toArray = ls at hl ⊢
  have hl : lv_has ls 5 [(0, .ref (q 6))] := hl
  have hS : va_S A st.heap st.heap [] := va_S.rf
  obtain ⟨K9, Q9, hFS⟩ := p5
  have hos := p3.2.1
  have hOS := p3.2.2.1
  have h63n : (u.2.2.2 20).toNat ≤ 63 := by omega
  have hc0 : (((u.2.2.2 20).toNat : Nat) : Int) ≤ u.2.2.2 20 := by omega
  refine lv_aload_n SS.1 SS.2.1 dX2_search_0 rfl (lv_at hl 0 rfl) ?_
  refine j_get SS hG hP 6 (v := .ref (q 65)) (C := RX2) (T := TX2) (N := 7) rfl rfl inX2 3 (by decide) (ref := "GridPolygons$Cuts") kw_343 rfl rfl dX2_search_1 ?_
  refine j_iconst SS dX2_search_4 ?_
  refine j_sWv SS (As := [.ref (q 65), .int (J 0)]) (rest := []) (c_J7_fill_53178 l D (ws := (cW D q u)) (A := A) (cW_D hD) 65 (0 : Int) rfl (by first | decide | omega)) mf_J7_fill_53178 kw_932 hG hP hS (fun _ h => h) rfl hl.1 ⟨⟨Nat.le_of_ble_eq_true rfl, Nat.le_of_ble_eq_true rfl⟩, Nat.le_of_ble_eq_true rfl, Nat.le_refl _, Nat.le_refl _⟩ rfl dX2_search_5 (fun _ H locs _ hP _ hS => ?_)
  have hP : va_P D.1 j_cl (cW D q (sI u 8 (jf (u.2.1 8) (0 : Int) 4096))) H := hP
  have hJ5 := JF_b (n := 4096) (v := 0) p2 (by omega)
  refine lv_aload_n SS.1 SS.2.1 dX2_search_8 rfl (lv_at hl 0 rfl) ?_
  refine j_iconst SS dX2_search_9 ?_
  refine j_put SS hG hP (cW_D hD) hS 6 (v := .int (J 0)) (ty := .int) (C := RX2) (T := TX2) (N := 7) rfl rfl inX2 tyX2 tyX2_ok nmX2 4 (by decide) (ref := "GridPolygons$Cuts") kw_344 rfl rfl (by decide +kernel) rfl rfl (Nat.le_of_ble_eq_true rfl) dX2_search_10 (ws' := (cW D q (sV (sI u 8 (jf (u.2.1 8) (0 : Int) 4096)) 22 0))) rfl (fun H locs hP hS => ?_)
  refine lv_aload_n SS.1 SS.2.1 dX2_search_13 rfl (lv_at hl 0 rfl) ?_
  refine j_iconst SS dX2_search_14 ?_
  refine j_put SS hG hP (cW_D hD) hS 6 (v := .int (J 0)) (ty := .boolean) (C := RX2) (T := TX2) (N := 7) rfl rfl inX2 tyX2 tyX2_ok nmX2 5 (by decide) (ref := "GridPolygons$Cuts") kw_346 rfl rfl (by decide +kernel) (j_nz (by omega)) rfl (Nat.le_of_ble_eq_true rfl) dX2_search_15 (ws' := (cW D q (sV (sV (sI u 8 (jf (u.2.1 8) (0 : Int) 4096)) 22 0) 23 0))) rfl (fun H locs hP hS => ?_)
  refine lv_aload_n SS.1 SS.2.1 dX2_search_18 rfl (lv_at hl 0 rfl) ?_
  refine lv_aload_n SS.1 SS.2.1 dX2_search_19 rfl (lv_at hl 0 rfl) ?_
  refine j_get SS hG hP 6 (v := .ref (q 66)) (C := RX2) (T := TX2) (N := 7) rfl rfl inX2 0 (by decide) (ref := "GridPolygons$Cuts") kw_340 rfl rfl dX2_search_20 ?_
  refine j_vRl SS (As := []) (rest := [.ref (q 6)]) (c_X5_firstCut3 l D q (sV (sV (sI u 8 (jf (u.2.1 8) (0 : Int) 4096)) 22 0) 23 0)   (show 0 ≤ (u.2.2.2 20) ∧ (u.2.2.2 20) ≤ 63 from (by omega)) (show ∀ s : Nat, (s : Int) < (u.2.2.2 20) → CR9 ((u.1.1 9)) ((u.1.2.1 9)) ((u.2.1 2)) ((u.2.1 3)) ((u.2.2.2 20)).toNat ((u.2.2.1 3) s) s from (p4))) mf_X5_firstCut kw_933 hG hP hP (ci := 5) (q0 := 66) rfl rfl rfl rfl hl.1 ⟨⟨Nat.le_of_ble_eq_true rfl, Nat.le_of_ble_eq_true rfl⟩, Nat.le_of_ble_eq_true rfl, Nat.le_refl _, Nat.le_refl _⟩ rfl dX2_search_23 (fun x_23 h_23 => ?_)
  refine j_iconst SS dX2_search_26 ?_
  refine j_vWv SS (As := [.long x_23, .int (J 0)]) (rest := []) (c_X2_enter3 l D q (sV (sV (sI u 8 (jf (u.2.1 8) (0 : Int) 4096)) 22 0) 23 0) A (cW_D hD)  x_23 0 (show 0 ≤ 0 ∧ 0 ≤ 1500 from (by omega)) (show ∀ k : Nat, 0 ≤ (jf (u.2.1 8) (0 : Int) 4096) k ∧ (jf (u.2.1 8) (0 : Int) 4096) k ≤ 1500 from (hJ5)) (show 0 = 0 ∨ 0 = 1 from (by omega))) mf_X2_enter kw_937 hG hP hP (ci := 2) (q0 := 6) rfl rfl rfl hS (fun _ h => h) rfl hl.1 ⟨⟨Nat.le_of_ble_eq_true rfl, Nat.le_of_ble_eq_true rfl⟩, Nat.le_of_ble_eq_true rfl, Nat.le_refl _, Nat.le_refl _⟩ rfl dX2_search_27 (fun u27 H locs h_27 hP _ hS => ?_)
  obtain ⟨st2_27, fa_27, pc9_27, n_27, sp_27, rfl, h_27⟩ := h_27
  have hP : va_P D.1 j_cl (cW D q (sV (sV (sL (sI (sI u 7 fa_27) 8 pc9_27) 2 st2_27) 22 n_27) 23 sp_27)) H := hP
  have h_27 : ((0 ≤ n_27 ∧ n_27 ≤ 1500) ∧ (∀ k : Nat, 0 ≤ pc9_27 k ∧ pc9_27 k ≤ 1500) ∧ (sp_27 = 0 ∨ sp_27 = 1)) ∧ ET9 ((u.2.2.1 2)) st2_27 ((u.2.1 7)) fa_27 ((jf (u.2.1 8) (0 : Int) 4096)) pc9_27 (0) n_27 (0) sp_27 x_23 (0 : Int) := h_27
  obtain ⟨h_27, et27⟩ := h_27
  have se27 := SE_0 et27
  refine j_iconst SS dX2_search_30 ?_
  refine lv_istore_n (lv' := [(1, .int (J 0)), (0, .ref (q 6))]) SS.1 SS.2.1 dX2_search_31 rfl hl (by decide) rfl (fun ls hl => ?_)
  have L_32 : ∀ (nn : Nat) (i : Int) (se1 : Nat → Int64) (fa1 : Nat → Int) (pc1 : Nat → Int) (n1 : Int) (sp1 : Int) (H : Heap) (locs : List Loc) (hP : va_P D.1 j_cl (cW D q (sV (sV (sL (sI (sI u 7 fa1) 8 pc1) 2 se1) 22 n1) 23 sp1)) H) (hS : va_S A st.heap H locs) (ls : Array Slot) (hl : lv_has ls 5 [(0, .ref (q 6)), (1, .int (J i))]) (i32_0 : 0 ≤ i ∧ i ≤ 1500) (i32_1 : 0 ≤ n1 ∧ n1 ≤ 1500) (i32_2 : ∀ k : Nat, 0 ≤ pc1 k ∧ pc1 k ≤ 1500) (i32_3 : sp1 = 0 ∨ sp1 = 1) (i32_4 : HT9 hC9 (VC9 pc1) se1 n1) (i32_5 : LX9 (u.1.1 9) (u.1.2.1 9) (u.2.1 2) (u.2.1 3) (u.2.2.2 20).toNat se1 n1) (i32_6 : RT9 (NV9 (u.1.1 9) (u.1.2.1 9) (u.2.1 2) (u.2.1 3) (u.1.2.2.1 9).toNat (u.2.2.2 20).toNat) x_23 (64 * i).toNat n1 se1 fa1 sp1), ((1500 : Int) - i).toNat < nn → W pr l en (headSpec (jw yX2_search cX2_search 5 none) (jr 2 46)).room st mi (([.ref (q 6)] : List Value).toArray) below meth co H locs 0 0 (MQ below (jWv (fun u' => ∃ st2 : Nat → Int64, ∃ fa : Nat → Int, ∃ pc9 : Nat → Int, ∃ n : Int, ∃ sp : Int, u' = (sV (sV (sL (sI (sI u 7 fa) 8 pc9) 2 st2) 22 n) 23 sp) ∧ (((0 ≤ n ∧ n ≤ 1500) ∧ (∀ k : Nat, 0 ≤ pc9 k ∧ pc9 k ≤ 1500) ∧ (sp = 0 ∨ sp = 1)) ∧ FCT (u.1.1 9) (u.1.2.1 9) (u.1.2.2.1 9) (u.2.1 2) (u.2.1 3) (u.2.2.2 20) st2 fa n sp)) (fun u' H => va_P D.1 j_cl (cW D q u') H) A) (([.ref (q 6)] : List Value).toArray) st 0 0 A) (F0 mi 32 ls []) := by
    intro nn
    induction nn with
    | zero => intros; omega
    | succ nn ih_32 =>
      intro i se1 fa1 pc1 n1 sp1 H locs hP hS ls hl i32_0 i32_1 i32_2 i32_3 i32_4 i32_5 i32_6 hm
      refine lv_iload_n SS.1 SS.2.1 dX2_search_32 rfl (lv_at hl 1 rfl) ?_
      refine lv_aload_n SS.1 SS.2.1 dX2_search_33 rfl (lv_at hl 0 rfl) ?_
      refine j_get SS hG hP 6 (v := .int (J n1)) (C := RX2) (T := TX2) (N := 7) rfl rfl inX2 4 (by decide) (ref := "GridPolygons$Cuts") kw_344 rfl rfl dX2_search_34 ?_
      refine j_icmp_ge SS (tgt := 111) (x := i) (y := n1) dX2_search_37 (by decide) (by omega) (by omega) (fun c_37 => ?_) (fun c_37 => ?_)
      · skip
        exact W.vret SS.1 SS.2.1 hr (fun t0 ht hW => ⟨⟨(sV (sV (sL (sI (sI u 7 fa1) 8 pc1) 2 se1) 22 n1) 23 sp1), rfl, (⟨se1, fa1, pc1, n1, sp1, rfl, ⟨⟨by omega, i32_2, by omega⟩, FCT_m h_23 i32_5 i32_6 (by omega) (by omega)⟩⟩), by show va_P D.1 j_cl (cW D q (sV (sV (sL (sI (sI u 7 fa1) 8 pc1) 2 se1) 22 n1) 23 sp1)) t0.heap; rw [ht]; first | exact hP | (simp only [sI_id, sL_id, sC_id, sX_id, sY_id, sH_id, sT_id, sV_id]; exact hP)⟩, hS.F ht⟩) hS.2.2 dX2_search_111 hlk
      · skip
        refine lv_aload_n SS.1 SS.2.1 dX2_search_40 rfl (lv_at hl 0 rfl) ?_
        refine j_get SS hG hP 6 (v := .int (J sp1)) (C := RX2) (T := TX2) (N := 7) rfl rfl inX2 5 (by decide) (ref := "GridPolygons$Cuts") kw_346 rfl rfl dX2_search_41 ?_
        refine j_if_ne SS (tgt := 111) (x := sp1) dX2_search_44 (by decide) (by omega) (fun c_44 => ?_) (fun c_44 => ?_)
        · skip
          exact W.vret SS.1 SS.2.1 hr (fun t0 ht hW => ⟨⟨(sV (sV (sL (sI (sI u 7 fa1) 8 pc1) 2 se1) 22 n1) 23 sp1), rfl, (⟨se1, fa1, pc1, n1, sp1, rfl, ⟨⟨by omega, i32_2, by omega⟩, FCT_m h_23 i32_5 i32_6 (by omega) (by omega)⟩⟩), by show va_P D.1 j_cl (cW D q (sV (sV (sL (sI (sI u 7 fa1) 8 pc1) 2 se1) 22 n1) 23 sp1)) t0.heap; rw [ht]; first | exact hP | (simp only [sI_id, sL_id, sC_id, sX_id, sY_id, sH_id, sT_id, sV_id]; exact hP)⟩, hS.F ht⟩) hS.2.2 dX2_search_111 hlk
        · skip
          refine j_iconst SS dX2_search_47 ?_
          refine lv_istore_n (lv' := [(2, .int (J 0)), (0, .ref (q 6)), (1, .int (J i))]) SS.1 SS.2.1 dX2_search_48 rfl hl (by decide) rfl (fun ls hl => ?_)
          have L_49 : ∀ (nn : Nat) (fl : Int) (se2 : Nat → Int64) (fa2 : Nat → Int) (pc2 : Nat → Int) (n2 : Int) (sp2 : Int) (H : Heap) (locs : List Loc) (hP : va_P D.1 j_cl (cW D q (sV (sV (sL (sI (sI u 7 fa2) 8 pc2) 2 se2) 22 n2) 23 sp2)) H) (hS : va_S A st.heap H locs) (ls : Array Slot) (hl : lv_has ls 5 [(0, .ref (q 6)), (1, .int (J i)), (2, .int (J fl))]) (i49_0 : 0 ≤ fl ∧ fl ≤ 756) (i49_1 : 0 ≤ n2 ∧ n2 ≤ 1500) (i49_2 : ∀ k : Nat, 0 ≤ pc2 k ∧ pc2 k ≤ 1500) (i49_3 : sp2 = 0 ∨ sp2 = 1) (i49_4 : HT9 hC9 (VC9 pc2) se2 n2) (i49_5 : LX9 (u.1.1 9) (u.1.2.1 9) (u.2.1 2) (u.2.1 3) (u.2.2.2 20).toNat se2 n2) (i49_6 : SJ9 (NV9 (u.1.1 9) (u.1.2.1 9) (u.2.1 2) (u.2.1 3) (u.1.2.2.1 9).toNat (u.2.2.2 20).toNat) x_23 i fl n2 se2 fa2 (u.2.2.1 4) (u.2.2.2 21) K9 sp2) (i49_7 : i < n2), ((756 : Int) - fl).toNat < nn → W pr l en (headSpec (jw yX2_search cX2_search 5 none) (jr 2 46)).room st mi (([.ref (q 6)] : List Value).toArray) below meth co H locs 0 0 (MQ below (jWv (fun u' => ∃ st2 : Nat → Int64, ∃ fa : Nat → Int, ∃ pc9 : Nat → Int, ∃ n : Int, ∃ sp : Int, u' = (sV (sV (sL (sI (sI u 7 fa) 8 pc9) 2 st2) 22 n) 23 sp) ∧ (((0 ≤ n ∧ n ≤ 1500) ∧ (∀ k : Nat, 0 ≤ pc9 k ∧ pc9 k ≤ 1500) ∧ (sp = 0 ∨ sp = 1)) ∧ FCT (u.1.1 9) (u.1.2.1 9) (u.1.2.2.1 9) (u.2.1 2) (u.2.1 3) (u.2.2.2 20) st2 fa n sp)) (fun u' H => va_P D.1 j_cl (cW D q u') H) A) (([.ref (q 6)] : List Value).toArray) st 0 0 A) (F0 mi 49 ls []) := by
            intro nn
            induction nn with
            | zero => intros; omega
            | succ nn ih_49 =>
              intro fl se2 fa2 pc2 n2 sp2 H locs hP hS ls hl i49_0 i49_1 i49_2 i49_3 i49_4 i49_5 i49_6 i49_7 hm
              refine lv_iload_n SS.1 SS.2.1 dX2_search_49 rfl (lv_at hl 2 rfl) ?_
              refine lv_aload_n SS.1 SS.2.1 dX2_search_50 rfl (lv_at hl 0 rfl) ?_
              refine j_get SS hG hP 6 (v := .ref (q 66)) (C := RX2) (T := TX2) (N := 7) rfl rfl inX2 0 (by decide) (ref := "GridPolygons$Cuts") kw_340 rfl rfl dX2_search_51 ?_
              refine j_get SS hG hP 66 (v := .int (J (u.2.2.2 21))) (C := RX5) (T := TX5) (N := 9) rfl rfl inX5 8 (by decide) (ref := "GridPolygons$Mesh") kw_320 rfl rfl dX2_search_54 ?_
              refine j_icmp_ge SS (tgt := 105) (x := fl) (y := (u.2.2.2 21)) dX2_search_57 (by decide) (by omega) (by omega) (fun c_57 => ?_) (fun c_57 => ?_)
              · skip
                refine lv_iinc (v := J (i + 1)) (lv' := [(1, .int (J (i + 1))), (0, .ref (q 6)), (2, .int (J fl))]) SS.1 SS.2.1 dX2_search_105 hl (k := 1) rfl (J_add _ _) (by decide) rfl (fun ls hl => ?_)
                refine lv_goto (tgt := 32) SS.1 SS.2.1 dX2_search_108 (by decide) ?_
                exact ih_32 (i + 1) se2 fa2 pc2 n2 sp2 _ _ hP hS ls (lv_sub hl [1, 0] rfl) (by omega) (by omega) (i49_2) (by omega) (i49_4) (i49_5) (by rcases i49_6 with ⟨q1, q2⟩ | q1; (first | exact Or.inl ⟨q1, SI_end hos hOS hc0 h63n hFS i49_5 (by omega) q2 (by omega)⟩ | (exfalso; omega)); exact Or.inr q1) (by omega)
              · skip
                refine lv_aload_n SS.1 SS.2.1 dX2_search_60 rfl (lv_at hl 0 rfl) ?_
                refine j_get SS hG hP 6 (v := .int (J sp2)) (C := RX2) (T := TX2) (N := 7) rfl rfl inX2 5 (by decide) (ref := "GridPolygons$Cuts") kw_346 rfl rfl dX2_search_61 ?_
                refine j_if_ne SS (tgt := 105) (x := sp2) dX2_search_64 (by decide) (by omega) (fun c_64 => ?_) (fun c_64 => ?_)
                · skip
                  refine lv_iinc (v := J (i + 1)) (lv' := [(1, .int (J (i + 1))), (0, .ref (q 6)), (2, .int (J fl))]) SS.1 SS.2.1 dX2_search_105 hl (k := 1) rfl (J_add _ _) (by decide) rfl (fun ls hl => ?_)
                  refine lv_goto (tgt := 32) SS.1 SS.2.1 dX2_search_108 (by decide) ?_
                  exact ih_32 (i + 1) se2 fa2 pc2 n2 sp2 _ _ hP hS ls (lv_sub hl [1, 0] rfl) (by omega) (by omega) (i49_2) (by omega) (i49_4) (i49_5) (by rcases i49_6 with ⟨q1, q2⟩ | q1; (first | exact Or.inl ⟨q1, SI_end hos hOS hc0 h63n hFS i49_5 (by omega) q2 (by omega)⟩ | (exfalso; omega)); exact Or.inr q1) (by omega)
                · skip
                  refine lv_aload_n SS.1 SS.2.1 dX2_search_67 rfl (lv_at hl 0 rfl) ?_
                  refine j_get SS hG hP 6 (v := .ref (q 66)) (C := RX2) (T := TX2) (N := 7) rfl rfl inX2 0 (by decide) (ref := "GridPolygons$Cuts") kw_340 rfl rfl dX2_search_68 ?_
                  refine lv_aload_n SS.1 SS.2.1 dX2_search_71 rfl (lv_at hl 0 rfl) ?_
                  refine lv_iload_n SS.1 SS.2.1 dX2_search_72 rfl (lv_at hl 1 rfl) ?_
                  refine j_vRl SS (As := [.int (J i)]) (rest := [.ref (q 66)]) (c_X2_setOf3 l D q (sV (sV (sL (sI (sI u 7 fa2) 8 pc2) 2 se2) 22 n2) 23 sp2)  i (show -2147483648 ≤ i ∧ i ≤ 2147483647 from (by omega))) mf_X2_setOf kw_942 hG hP hP (ci := 2) (q0 := 6) rfl rfl rfl rfl hl.1 ⟨⟨Nat.le_of_ble_eq_true rfl, Nat.le_of_ble_eq_true rfl⟩, Nat.le_of_ble_eq_true rfl, Nat.le_refl _, Nat.le_refl _⟩ rfl dX2_search_73 (fun x_73 h_73 => ?_)
                  refine lv_iload_n SS.1 SS.2.1 dX2_search_76 rfl (lv_at hl 2 rfl) ?_
                  refine j_vRl SS (As := [.long x_73, .int (J fl)]) (rest := []) (c_X5_flipped3 l D q (sV (sV (sL (sI (sI u 7 fa2) 8 pc2) 2 se2) 22 n2) 23 sp2)  x_73 fl (show -2147483648 ≤ fl ∧ fl ≤ 2147483647 from (by omega))) mf_X5_flipped kw_946 hG hP hP (ci := 5) (q0 := 66) rfl rfl rfl rfl hl.1 ⟨⟨Nat.le_of_ble_eq_true rfl, Nat.le_of_ble_eq_true rfl⟩, Nat.le_of_ble_eq_true rfl, Nat.le_refl _, Nat.le_refl _⟩ rfl dX2_search_77 (fun x_77 h_77 => ?_)
                  have s73 : x_73 = se2 i.toNat := h_73 (by omega)
                  have sj := SJ_o i49_6 (by omega)
                  rw [s73] at h_77
                  have nb : x_77 = 0 → ¬ se2 i.toNat &&& (u.2.2.1 4) fl.toNat = (u.2.2.1 4) fl.toNat := fun q9 w9 => (SI_at hos hOS hc0 h63n hFS i49_5 (by omega) sj (by omega) w9).2.2.1 (FR_n h_77 (by omega) q9 w9)
                  refine lv_lstore_n (lv' := [(3, .long x_77), (0, .ref (q 6)), (1, .int (J i)), (2, .int (J fl))]) SS.1 SS.2.1 dX2_search_80 rfl hl (by decide) rfl (fun ls hl => ?_)
                  refine lv_lload_n SS.1 SS.2.1 dX2_search_81 rfl (lv_at hl 0 rfl) ?_
                  refine lv_lconst (v := 0) SS.1 SS.2.1 dX2_search_82 (by decide +kernel) ?_
                  refine j_lcmp SS dX2_search_83 (fun z_83 hz_83 => ?_)
                  refine j_if_eq SS (tgt := 99) (x := z_83) dX2_search_84 (by decide) (by omega) (fun c_84 => ?_) (fun c_84 => ?_)
                  · skip
                    refine lv_iinc (v := J (fl + 1)) (lv' := [(2, .int (J (fl + 1))), (3, .long x_77), (0, .ref (q 6)), (1, .int (J i))]) SS.1 SS.2.1 dX2_search_99 hl (k := 3) rfl (J_add _ _) (by decide) rfl (fun ls hl => ?_)
                    refine lv_goto (tgt := 49) SS.1 SS.2.1 dX2_search_102 (by decide) ?_
                    exact ih_49 (fl + 1) se2 fa2 pc2 n2 sp2 _ _ hP hS ls (lv_sub hl [2, 3, 0] rfl) (by omega) (by omega) (by first | exact i49_2 | exact h_96.2.1) (by omega) (by first | exact i49_4 | exact sje.1) (by first | exact i49_5 | exact sje.2.1) (by first | exact sje.2.2.1 | exact Or.inl ⟨by omega, SI_n (by omega) sj (nb (hz_83.2.2.2.mp (by omega)))⟩) (by omega) (by omega)
                  · skip
                    refine lv_aload_n SS.1 SS.2.1 dX2_search_87 rfl (lv_at hl 1 rfl) ?_
                    refine lv_lload_n SS.1 SS.2.1 dX2_search_88 rfl (lv_at hl 0 rfl) ?_
                    refine lv_aload_n SS.1 SS.2.1 dX2_search_89 rfl (lv_at hl 1 rfl) ?_
                    refine lv_iload_n SS.1 SS.2.1 dX2_search_90 rfl (lv_at hl 2 rfl) ?_
                    refine j_vRi SS (As := [.int (J i)]) (rest := [.long x_77, .ref (q 6)]) (c_X2_farOf3 l D q (sV (sV (sL (sI (sI u 7 fa2) 8 pc2) 2 se2) 22 n2) 23 sp2)  i (show -2147483648 ≤ i ∧ i ≤ 2147483647 from (by omega))) mf_X2_farOf kw_950 hG hP hP (ci := 2) (q0 := 6) rfl rfl rfl rfl hl.1 ⟨⟨Nat.le_of_ble_eq_true rfl, Nat.le_of_ble_eq_true rfl⟩, Nat.le_of_ble_eq_true rfl, Nat.le_refl _, Nat.le_refl _⟩ rfl dX2_search_91 (fun z_91 h_91 => ?_)
                    have h_91 : (0 ≤ i ∧ i < 1500) → z_91 = (fa2) i.toNat := h_91
                    refine j_iconst SS dX2_search_94 ?_
                    refine j_iadd SS (x := z_91) (y := 1) dX2_search_95 ?_
                    refine j_vWv SS (As := [.long x_77, .int (J (z_91 + 1))]) (rest := []) (c_X2_enter3 l D q (sV (sV (sL (sI (sI u 7 fa2) 8 pc2) 2 se2) 22 n2) 23 sp2) A (cW_D hD)  x_77 (z_91 + 1) (show 0 ≤ n2 ∧ n2 ≤ 1500 from (by omega)) (show ∀ k : Nat, 0 ≤ pc2 k ∧ pc2 k ≤ 1500 from (i49_2)) (show sp2 = 0 ∨ sp2 = 1 from (by omega))) mf_X2_enter kw_937 hG hP hP (ci := 2) (q0 := 6) rfl rfl rfl hS (fun _ h => h) rfl hl.1 ⟨⟨Nat.le_of_ble_eq_true rfl, Nat.le_of_ble_eq_true rfl⟩, Nat.le_of_ble_eq_true rfl, Nat.le_refl _, Nat.le_refl _⟩ rfl dX2_search_96 (fun u96 H locs h_96 hP _ hS => ?_)
                    obtain ⟨st2_96, fa_96, pc9_96, n_96, sp_96, rfl, h_96⟩ := h_96
                    have hP : va_P D.1 j_cl (cW D q (sV (sV (sL (sI (sI u 7 fa_96) 8 pc9_96) 2 st2_96) 22 n_96) 23 sp_96)) H := hP
                    have h_96 : ((0 ≤ n_96 ∧ n_96 ≤ 1500) ∧ (∀ k : Nat, 0 ≤ pc9_96 k ∧ pc9_96 k ≤ 1500) ∧ (sp_96 = 0 ∨ sp_96 = 1)) ∧ ET9 (se2) st2_96 (fa2) fa_96 (pc2) pc9_96 (n2) n_96 (sp2) sp_96 x_77 (z_91 + 1) := h_96
                    obtain ⟨h_96, et96⟩ := h_96
                    have yb := FR_y h_77 (fun e9 => by have q9 := hz_83.2.2.2.mpr e9; omega)
                    rw [show sp2 = 0 by omega, yb.2, h_91 (by omega)] at et96
                    have sje := SJ_e hos hOS hc0 h63n hFS i49_5 (by omega) (by omega) sj (by omega) yb.1 i49_4 et96
                    refine lv_iinc (v := J (fl + 1)) (lv' := [(2, .int (J (fl + 1))), (3, .long x_77), (0, .ref (q 6)), (1, .int (J i))]) SS.1 SS.2.1 dX2_search_99 hl (k := 3) rfl (J_add _ _) (by decide) rfl (fun ls hl => ?_)
                    refine lv_goto (tgt := 49) SS.1 SS.2.1 dX2_search_102 (by decide) ?_
                    exact ih_49 (fl + 1) st2_96 fa_96 pc9_96 n_96 sp_96 _ _ hP hS ls (lv_sub hl [2, 3, 0] rfl) (by omega) (by omega) (by first | exact i49_2 | exact h_96.2.1) (by omega) (by first | exact i49_4 | exact sje.1) (by first | exact i49_5 | exact sje.2.1) (by first | exact sje.2.2.1 | exact Or.inl ⟨by omega, SI_n (by omega) sj (nb (hz_83.2.2.2.mp (by omega)))⟩) (by omega) (by omega)
          exact L_49 (((756 : Int) - (0 : Int)).toNat + 1) 0 se1 fa1 pc1 n1 sp1 _ _ hP hS ls (lv_sub hl [1, 2, 0] rfl) (by omega) (by omega) (i32_2) (by omega) (i32_4) (i32_5) (Or.inl ⟨by omega, SI_0 (RT_o i32_6 (by omega))⟩) (by omega) (Nat.lt_succ_self _)
  exact L_32 (((1500 : Int) - (0 : Int)).toNat + 1) 0 st2_27 fa_27 pc9_27 n_27 sp_27 _ _ hP hS ls (lv_sub hl [1, 0] rfl) (by omega) (by omega) (h_27.2.1) (by omega) (se27.1) (fun q9 hq9 => by have e9 : q9 = 0 := (by omega); subst e9; obtain ⟨f8, f1, f2⟩ := h_23; exact ⟨f8, FC_NX f1, se27.2.2.2.1.trans f2⟩) (Or.inl ⟨se27.2.2.1, by rw [se27.2.1]; exact RS_0 se27.2.2.2.1 se27.2.2.2.2⟩) (Nat.lt_succ_self _)

set_option maxHeartbeats 4000000 in
set_option maxRecDepth 100000 in
theorem c_X2_build3a (l : Launch) (D : JD) (q : Nat → Nat) (u : CS) (A : Nat → Prop) (hD : va_D A (cW D q u)) (i : Nat) (hi : i < 8) (p0 : RB 40 u i) (p1 : RB 40 u 9) (p2 : ∀ k : Nat, 0 ≤ u.2.1 2 k ∧ u.2.1 2 k ≤ 12) (p3 : ∀ k : Nat, 0 ≤ u.2.1 3 k ∧ u.2.1 3 k ≤ 12) (p4 : ∀ k : Nat, -1 ≤ u.2.1 4 k ∧ u.2.1 4 k ≤ 63) (p5 : 0 ≤ u.2.2.2 20 ∧ u.2.2.2 20 ≤ 63) (p6 : 0 ≤ u.2.2.2 21 ∧ u.2.2.2 21 ≤ 756) (p7 : 0 ≤ u.2.2.2 22 ∧ u.2.2.2 22 ≤ 1500) (p8 : ∀ k : Nat, 0 ≤ u.2.1 8 k ∧ u.2.1 8 k ≤ 1500) (p9 : u.2.2.2 23 = 0 ∨ u.2.2.2 23 = 1) (p10 : -2147483648 ≤ u.2.2.2 24 ∧ u.2.2.2 24 ≤ 2147483647) (p11 : -2147483648 ≤ u.1.2.2.2.2 i ∧ u.1.2.2.2.2 i ≤ 2147483647) (p12 : 1 ≤ u.1.2.2.1 i) (p13 : FT9 u i 12) : Met l yX2_build (jw yX2_build cX2_build 2 (some .boolean)) (jr 5 122) (jP [.ref (q 6), .ref (q (8 + 5 * i))] D (fun H => va_P D.1 j_cl (cW D q u) H)) (jWi (fun z u' => ∃ n : Int, ∃ f : Nat → Int, ∃ g : Nat → Int, ∃ ls9 : Nat → Int, ∃ gr9 : Nat → Int, ∃ nu9 : Nat → Int, ∃ w3 : Nat → Int64, ∃ w4 : Nat → Int64, ∃ w5 : Nat → Int64, ∃ v20 : Int, ∃ v21 : Int, ∃ st2 : Nat → Int64, ∃ fa : Nat → Int, ∃ pc9 : Nat → Int, ∃ v22 : Int, ∃ sp : Int, ∃ v24 : Int, u' = (sY (sX (sV (sV (sV (sV (sV (sL (sL (sL (sL (sI (sI (sI (sI (sI (sC u 9 n) 2 ls9) 3 gr9) 4 nu9) 7 fa) 8 pc9) 2 st2) 3 w3) 4 w4) 5 w5) 20 v20) 21 v21) 22 v22) 23 sp) 24 v24) 9 f) 9 g) ∧ (((z = 0 ∨ z = 1) ∧ ((0 ≤ n ∧ n ≤ 12) ∧ RV 40 f g) ∧ (∀ k : Nat, 0 ≤ ls9 k ∧ ls9 k ≤ 12) ∧ (∀ k : Nat, 0 ≤ gr9 k ∧ gr9 k ≤ 12) ∧ (∀ k : Nat, -1 ≤ nu9 k ∧ nu9 k ≤ 63) ∧ ((0 ≤ v20 ∧ v20 ≤ 63) ∧ 0 ≤ v21 ∧ v21 ≤ 756) ∧ ((0 ≤ v22 ∧ v22 ≤ 1500) ∧ (∀ k : Nat, 0 ≤ pc9 k ∧ pc9 k ≤ 1500) ∧ (sp = 0 ∨ sp = 1)) ∧ -2147483648 ≤ v24 ∧ v24 ≤ 2147483647) ∧ (z = 1 ↔ sp = 0) ∧ ((u.2.2.2 24 = u.1.2.2.2.2 i ∧ ((n = u.1.2.2.1 9 ∧ f = u.1.1 9 ∧ g = u.1.2.1 9) ∧ (ls9 = u.2.1 2 ∧ gr9 = u.2.1 3 ∧ nu9 = u.2.1 4 ∧ fa = u.2.1 7 ∧ pc9 = u.2.1 8) ∧ (st2 = u.2.2.1 2 ∧ w3 = u.2.2.1 3 ∧ w4 = u.2.2.1 4 ∧ w5 = u.2.2.1 5) ∧ (v20 = u.2.2.2 20 ∧ v21 = u.2.2.2 21 ∧ v22 = u.2.2.2 22 ∧ sp = u.2.2.2 23 ∧ v24 = u.2.2.2 24))) ∨ (v24 = u.1.2.2.2.2 i ∧ (FT9 u i 12 → ML9 (inC u i) n f g ls9 gr9 nu9 v20 w3 w4 w5 v21 ∧ FCT f g n ls9 gr9 v20 st2 fa v22 sp))))) (fun u' H => va_P D.1 j_cl (cW D q u') H) A) 0 0 A := by
  refine Met.ofW (cc := cX2_build) (maxL := 2) (ret := (some .boolean)) (by decide) rfl ?_
  intro pr en st mi args below meth co s₁ B hml hv
  obtain ⟨rfl, hG, hP⟩ := hv
  have hr := B.returns
  have hlk := B.notSynchronized
  have SS : jS pr mi co cX2_build 2 st _ RX2 := ⟨B.exec, B.bytes, hml, findClass_of_methodNamed B.named, fun w hw => atoms_spec (ws := (jw yX2_build cX2_build 2 (some .boolean))) B.pre w (List.mem_cons_of_mem _ hw)⟩
  have hl := lv_entry ([.ref (q 6), .ref (q (8 + 5 * i))]) (n := 2) (Nat.le_of_ble_eq_true rfl)
  rw [lg_entry_eq]
  generalize (lg_sl ([.ref (q 6), .ref (q (8 + 5 * i))]) ++ List.replicate (2 - (lg_sl ([.ref (q 6), .ref (q (8 + 5 * i))])).length) Slot.unset).toArray = ls at hl ⊢
  have hl : lv_has ls 2 [(0, .ref (q 6)), (1, .ref (q (8 + 5 * i)))] := hl
  have hS : va_S A st.heap st.heap [] := va_S.rf
  refine lv_aload_n SS.1 SS.2.1 dX2_build_0 rfl (lv_at hl 0 rfl) ?_
  refine j_get SS hG hP 6 (v := .int (J (u.2.2.2 24))) (C := RX2) (T := TX2) (N := 7) rfl rfl inX2 6 (by decide) (ref := "GridPolygons$Cuts") kw_347 rfl rfl dX2_build_1 ?_
  refine lv_aload_n SS.1 SS.2.1 dX2_build_4 rfl (lv_at hl 1 rfl) ?_
  refine j_get SS hG hP (8 + 5 * i) (v := .int (J (u.1.2.2.2.2 i))) (C := RX10) (T := TX10) (N := 3) (cw_shape (by omega)) rfl inX10 2 (by decide) (ref := "GridPolygons$Shape") kw_158 rfl rfl dX2_build_5 ?_
  refine j_icmp_eq SS (tgt := 34) (x := (u.2.2.2 24)) (y := (u.1.2.2.2.2 i)) dX2_build_8 (by decide) (by omega) (by omega) (fun c_8 => ?_) (fun c_8 => ?_)
  · skip
    refine lv_aload_n SS.1 SS.2.1 dX2_build_34 rfl (lv_at hl 0 rfl) ?_
    refine j_get SS hG hP 6 (v := .int (J (u.2.2.2 23))) (C := RX2) (T := TX2) (N := 7) rfl rfl inX2 5 (by decide) (ref := "GridPolygons$Cuts") kw_346 rfl rfl dX2_build_35 ?_
    refine j_if_ne SS (tgt := 45) (x := (u.2.2.2 23)) dX2_build_38 (by decide) (by omega) (fun c_38 => ?_) (fun c_38 => ?_)
    · skip
      refine j_iconst SS dX2_build_45 ?_
      exact W.zret SS.1 SS.2.1 hr (j_nz (by decide)) (fun t0 ht hW => ⟨⟨_, (sY (sX (sV (sV (sV (sV (sV (sL (sL (sL (sL (sI (sI (sI (sI (sI (sC u 9 (u.1.2.2.1 9)) 2 (u.2.1 2)) 3 (u.2.1 3)) 4 (u.2.1 4)) 7 (u.2.1 7)) 8 (u.2.1 8)) 2 (u.2.2.1 2)) 3 (u.2.2.1 3)) 4 (u.2.2.1 4)) 5 (u.2.2.1 5)) 20 (u.2.2.2 20)) 21 (u.2.2.2 21)) 22 (u.2.2.2 22)) 23 (u.2.2.2 23)) 24 (u.2.2.2 24)) 9 (u.1.1 9)) 9 (u.1.2.1 9)), rfl, ⟨0, rfl, (⟨(u.1.2.2.1 9), (u.1.1 9), (u.1.2.1 9), (u.2.1 2), (u.2.1 3), (u.2.1 4), (u.2.2.1 3), (u.2.2.1 4), (u.2.2.1 5), (u.2.2.2 20), (u.2.2.2 21), (u.2.2.1 2), (u.2.1 7), (u.2.1 8), (u.2.2.2 22), (u.2.2.2 23), (u.2.2.2 24), rfl, by first | exact ⟨⟨by omega, p1, p2, p3, p4, ⟨by omega, by omega⟩, ⟨by omega, p8, p9⟩, by omega⟩, by omega, Or.inl ⟨by omega, ⟨rfl, rfl, rfl⟩, ⟨rfl, rfl, rfl, rfl, rfl⟩, ⟨rfl, rfl, rfl, rfl⟩, rfl, rfl, rfl, rfl, rfl⟩⟩ | exact ⟨⟨by omega, h_27.1, h_27.2.1, h_27.2.2.1, h_27.2.2.2.1, ⟨by omega, by omega⟩, ⟨by omega, h_31.2.1, h_31.2.2⟩, by omega⟩, by omega, Or.inr ⟨rfl, fun _ => ⟨hML, hFC⟩⟩⟩⟩)⟩, by show va_P D.1 j_cl (cW D q (sY (sX (sV (sV (sV (sV (sV (sL (sL (sL (sL (sI (sI (sI (sI (sI (sC u 9 (u.1.2.2.1 9)) 2 (u.2.1 2)) 3 (u.2.1 3)) 4 (u.2.1 4)) 7 (u.2.1 7)) 8 (u.2.1 8)) 2 (u.2.2.1 2)) 3 (u.2.2.1 3)) 4 (u.2.2.1 4)) 5 (u.2.2.1 5)) 20 (u.2.2.2 20)) 21 (u.2.2.2 21)) 22 (u.2.2.2 22)) 23 (u.2.2.2 23)) 24 (u.2.2.2 24)) 9 (u.1.1 9)) 9 (u.1.2.1 9))) t0.heap; rw [ht]; first | exact hP | (simp only [sI_id, sL_id, sC_id, sX_id, sY_id, sH_id, sT_id, sV_id]; exact hP)⟩, hS.F ht⟩) hS.2.2 dX2_build_46 hlk
    · skip
      refine j_iconst SS dX2_build_41 ?_
      refine lv_goto (tgt := 46) SS.1 SS.2.1 dX2_build_42 (by decide) ?_
      exact W.zret SS.1 SS.2.1 hr (j_nz (by decide)) (fun t0 ht hW => ⟨⟨_, (sY (sX (sV (sV (sV (sV (sV (sL (sL (sL (sL (sI (sI (sI (sI (sI (sC u 9 (u.1.2.2.1 9)) 2 (u.2.1 2)) 3 (u.2.1 3)) 4 (u.2.1 4)) 7 (u.2.1 7)) 8 (u.2.1 8)) 2 (u.2.2.1 2)) 3 (u.2.2.1 3)) 4 (u.2.2.1 4)) 5 (u.2.2.1 5)) 20 (u.2.2.2 20)) 21 (u.2.2.2 21)) 22 (u.2.2.2 22)) 23 (u.2.2.2 23)) 24 (u.2.2.2 24)) 9 (u.1.1 9)) 9 (u.1.2.1 9)), rfl, ⟨1, rfl, (⟨(u.1.2.2.1 9), (u.1.1 9), (u.1.2.1 9), (u.2.1 2), (u.2.1 3), (u.2.1 4), (u.2.2.1 3), (u.2.2.1 4), (u.2.2.1 5), (u.2.2.2 20), (u.2.2.2 21), (u.2.2.1 2), (u.2.1 7), (u.2.1 8), (u.2.2.2 22), (u.2.2.2 23), (u.2.2.2 24), rfl, by first | exact ⟨⟨by omega, p1, p2, p3, p4, ⟨by omega, by omega⟩, ⟨by omega, p8, p9⟩, by omega⟩, by omega, Or.inl ⟨by omega, ⟨rfl, rfl, rfl⟩, ⟨rfl, rfl, rfl, rfl, rfl⟩, ⟨rfl, rfl, rfl, rfl⟩, rfl, rfl, rfl, rfl, rfl⟩⟩ | exact ⟨⟨by omega, h_27.1, h_27.2.1, h_27.2.2.1, h_27.2.2.2.1, ⟨by omega, by omega⟩, ⟨by omega, h_31.2.1, h_31.2.2⟩, by omega⟩, by omega, Or.inr ⟨rfl, fun _ => ⟨hML, hFC⟩⟩⟩⟩)⟩, by show va_P D.1 j_cl (cW D q (sY (sX (sV (sV (sV (sV (sV (sL (sL (sL (sL (sI (sI (sI (sI (sI (sC u 9 (u.1.2.2.1 9)) 2 (u.2.1 2)) 3 (u.2.1 3)) 4 (u.2.1 4)) 7 (u.2.1 7)) 8 (u.2.1 8)) 2 (u.2.2.1 2)) 3 (u.2.2.1 3)) 4 (u.2.2.1 4)) 5 (u.2.2.1 5)) 20 (u.2.2.2 20)) 21 (u.2.2.2 21)) 22 (u.2.2.2 22)) 23 (u.2.2.2 23)) 24 (u.2.2.2 24)) 9 (u.1.1 9)) 9 (u.1.2.1 9))) t0.heap; rw [ht]; first | exact hP | (simp only [sI_id, sL_id, sC_id, sX_id, sY_id, sH_id, sT_id, sV_id]; exact hP)⟩, hS.F ht⟩) hS.2.2 dX2_build_46 hlk
  · skip
    refine lv_aload_n SS.1 SS.2.1 dX2_build_11 rfl (lv_at hl 0 rfl) ?_
    refine lv_aload_n SS.1 SS.2.1 dX2_build_12 rfl (lv_at hl 1 rfl) ?_
    refine j_get SS hG hP (8 + 5 * i) (v := .int (J (u.1.2.2.2.2 i))) (C := RX10) (T := TX10) (N := 3) (cw_shape (by omega)) rfl inX10 2 (by decide) (ref := "GridPolygons$Shape") kw_158 rfl rfl dX2_build_13 ?_
    refine j_put SS hG hP (cW_D hD) hS 6 (v := .int (J (u.1.2.2.2.2 i))) (ty := .int) (C := RX2) (T := TX2) (N := 7) rfl rfl inX2 tyX2 tyX2_ok nmX2 6 (by decide) (ref := "GridPolygons$Cuts") kw_347 rfl rfl (by decide +kernel) rfl rfl (Nat.le_of_ble_eq_true rfl) dX2_build_16 (ws' := (cW D q (sV u 24 (u.1.2.2.2.2 i)))) rfl (fun H locs hP hS => ?_)
    refine lv_aload_n SS.1 SS.2.1 dX2_build_19 rfl (lv_at hl 0 rfl) ?_
    refine j_get SS hG hP 6 (v := .ref (q 66)) (C := RX2) (T := TX2) (N := 7) rfl rfl inX2 0 (by decide) (ref := "GridPolygons$Cuts") kw_340 rfl rfl dX2_build_20 ?_
    refine lv_aload_n SS.1 SS.2.1 dX2_build_23 rfl (lv_at hl 1 rfl) ?_
    refine j_get SS hG hP (8 + 5 * i) (v := .ref (q (9 + 5 * i))) (C := RX10) (T := TX10) (N := 3) (cw_shape (by omega)) rfl inX10 0 (by decide) (ref := "GridPolygons$Shape") kw_152 rfl rfl dX2_build_24 ?_
    refine j_vWv SS (As := [.ref (q (9 + 5 * i))]) (rest := []) (c_X5_build3 l D q (sV u 24 (u.1.2.2.2.2 i)) A (cW_D hD) i (by omega)  (show RB 40 (sV u 24 (u.1.2.2.2.2 i)) i from (p0)) (show RB 40 (sV u 24 (u.1.2.2.2.2 i)) 9 from (p1)) (show ∀ k : Nat, 0 ≤ (u.2.1 2) k ∧ (u.2.1 2) k ≤ 12 from (p2)) (show ∀ k : Nat, 0 ≤ (u.2.1 3) k ∧ (u.2.1 3) k ≤ 12 from (p3)) (show ∀ k : Nat, -1 ≤ (u.2.1 4) k ∧ (u.2.1 4) k ≤ 63 from (p4)) (show 1 ≤ (u.1.2.2.1 i) from (p12)) (show FT9 (sV u 24 (u.1.2.2.2.2 i)) i 12 from (p13))) mf_X5_build kw_869 hG hP hP (ci := 5) (q0 := 66) rfl rfl rfl hS (fun _ h => h) rfl hl.1 ⟨⟨Nat.le_of_ble_eq_true rfl, Nat.le_of_ble_eq_true rfl⟩, Nat.le_of_ble_eq_true rfl, Nat.le_refl _, Nat.le_refl _⟩ rfl dX2_build_27 (fun u27 H locs h_27 hP _ hS => ?_)
    obtain ⟨n_27, f_27, g_27, ls9_27, gr9_27, nu9_27, w3_27, w4_27, w5_27, v20_27, v21_27, rfl, h_27⟩ := h_27
    have hP : va_P D.1 j_cl (cW D q (sY (sX (sV (sV (sV (sL (sL (sL (sI (sI (sI (sC u 9 n_27) 2 ls9_27) 3 gr9_27) 4 nu9_27) 3 w3_27) 4 w4_27) 5 w5_27) 20 v20_27) 21 v21_27) 24 (u.1.2.2.2.2 i)) 9 f_27) 9 g_27)) H := hP
    have h_27 : (((0 ≤ n_27 ∧ n_27 ≤ 12) ∧ RV 40 f_27 g_27) ∧ (∀ k : Nat, 0 ≤ ls9_27 k ∧ ls9_27 k ≤ 12) ∧ (∀ k : Nat, 0 ≤ gr9_27 k ∧ gr9_27 k ≤ 12) ∧ (∀ k : Nat, -1 ≤ nu9_27 k ∧ nu9_27 k ≤ 63) ∧ (0 ≤ v20_27 ∧ v20_27 ≤ 63) ∧ 0 ≤ v21_27 ∧ v21_27 ≤ 756) ∧ ML9 (inC (sV u 24 (u.1.2.2.2.2 i)) i) n_27 f_27 g_27 ls9_27 gr9_27 nu9_27 v20_27 w3_27 w4_27 w5_27 v21_27 := h_27
    obtain ⟨h_27, hml⟩ := h_27
    have hML : ML9 (inC u i) n_27 f_27 g_27 ls9_27 gr9_27 nu9_27 v20_27 w3_27 w4_27 w5_27 v21_27 := hml
    refine lv_aload_n SS.1 SS.2.1 dX2_build_30 rfl (lv_at hl 0 rfl) ?_
    refine j_vWv SS (As := []) (rest := []) (c_X2_search3 l D q (sY (sX (sV (sV (sV (sL (sL (sL (sI (sI (sI (sC u 9 n_27) 2 ls9_27) 3 gr9_27) 4 nu9_27) 3 w3_27) 4 w4_27) 5 w5_27) 20 v20_27) 21 v21_27) 24 (u.1.2.2.2.2 i)) 9 f_27) 9 g_27) A (cW_D hD)   (show 0 ≤ v20_27 ∧ v20_27 ≤ 63 from (by omega)) (show 0 ≤ v21_27 ∧ v21_27 ≤ 756 from (by omega)) (show ∀ k : Nat, 0 ≤ (u.2.1 8) k ∧ (u.2.1 8) k ≤ 1500 from (p8)) (show MG9 (f_27) (g_27) (n_27) (v20_27) (ls9_27) (gr9_27) (nu9_27) from (hML.2.1)) (show ∀ s : Nat, (s : Int) < v20_27 → CR9 (f_27) (g_27) (ls9_27) (gr9_27) (v20_27).toNat (w3_27 s) s from (hML.2.2.1)) (show FM9 (f_27) (g_27) (ls9_27) (gr9_27) (n_27).toNat (v20_27).toNat (w4_27) (w5_27) (v21_27) (fun _ _ => True) from (hML.2.2.2))) mf_X2_search kw_928 hG hP hP (ci := 2) (q0 := 6) rfl rfl rfl hS (fun _ h => h) rfl hl.1 ⟨⟨Nat.le_of_ble_eq_true rfl, Nat.le_of_ble_eq_true rfl⟩, Nat.le_of_ble_eq_true rfl, Nat.le_refl _, Nat.le_refl _⟩ rfl dX2_build_31 (fun u31 H locs h_31 hP _ hS => ?_)
    obtain ⟨st2_31, fa_31, pc9_31, n_31, sp_31, rfl, h_31⟩ := h_31
    have hP : va_P D.1 j_cl (cW D q (sY (sX (sV (sV (sV (sV (sV (sL (sL (sL (sL (sI (sI (sI (sI (sI (sC u 9 n_27) 2 ls9_27) 3 gr9_27) 4 nu9_27) 7 fa_31) 8 pc9_31) 2 st2_31) 3 w3_27) 4 w4_27) 5 w5_27) 20 v20_27) 21 v21_27) 22 n_31) 23 sp_31) 24 (u.1.2.2.2.2 i)) 9 f_27) 9 g_27)) H := hP
    have h_31 : ((0 ≤ n_31 ∧ n_31 ≤ 1500) ∧ (∀ k : Nat, 0 ≤ pc9_31 k ∧ pc9_31 k ≤ 1500) ∧ (sp_31 = 0 ∨ sp_31 = 1)) ∧ FCT (f_27) (g_27) (n_27) (ls9_27) (gr9_27) (v20_27) st2_31 fa_31 n_31 sp_31 := h_31
    obtain ⟨h_31, hFC⟩ := h_31
    refine lv_aload_n SS.1 SS.2.1 dX2_build_34 rfl (lv_at hl 0 rfl) ?_
    refine j_get SS hG hP 6 (v := .int (J sp_31)) (C := RX2) (T := TX2) (N := 7) rfl rfl inX2 5 (by decide) (ref := "GridPolygons$Cuts") kw_346 rfl rfl dX2_build_35 ?_
    refine j_if_ne SS (tgt := 45) (x := sp_31) dX2_build_38 (by decide) (by omega) (fun c_38 => ?_) (fun c_38 => ?_)
    · skip
      refine j_iconst SS dX2_build_45 ?_
      exact W.zret SS.1 SS.2.1 hr (j_nz (by decide)) (fun t0 ht hW => ⟨⟨_, (sY (sX (sV (sV (sV (sV (sV (sL (sL (sL (sL (sI (sI (sI (sI (sI (sC u 9 n_27) 2 ls9_27) 3 gr9_27) 4 nu9_27) 7 fa_31) 8 pc9_31) 2 st2_31) 3 w3_27) 4 w4_27) 5 w5_27) 20 v20_27) 21 v21_27) 22 n_31) 23 sp_31) 24 (u.1.2.2.2.2 i)) 9 f_27) 9 g_27), rfl, ⟨0, rfl, (⟨n_27, f_27, g_27, ls9_27, gr9_27, nu9_27, w3_27, w4_27, w5_27, v20_27, v21_27, st2_31, fa_31, pc9_31, n_31, sp_31, (u.1.2.2.2.2 i), rfl, by first | exact ⟨⟨by omega, p1, p2, p3, p4, ⟨by omega, by omega⟩, ⟨by omega, p8, p9⟩, by omega⟩, by omega, Or.inl ⟨by omega, ⟨rfl, rfl, rfl⟩, ⟨rfl, rfl, rfl, rfl, rfl⟩, ⟨rfl, rfl, rfl, rfl⟩, rfl, rfl, rfl, rfl, rfl⟩⟩ | exact ⟨⟨by omega, h_27.1, h_27.2.1, h_27.2.2.1, h_27.2.2.2.1, ⟨by omega, by omega⟩, ⟨by omega, h_31.2.1, h_31.2.2⟩, by omega⟩, by omega, Or.inr ⟨rfl, fun _ => ⟨hML, hFC⟩⟩⟩⟩)⟩, by show va_P D.1 j_cl (cW D q (sY (sX (sV (sV (sV (sV (sV (sL (sL (sL (sL (sI (sI (sI (sI (sI (sC u 9 n_27) 2 ls9_27) 3 gr9_27) 4 nu9_27) 7 fa_31) 8 pc9_31) 2 st2_31) 3 w3_27) 4 w4_27) 5 w5_27) 20 v20_27) 21 v21_27) 22 n_31) 23 sp_31) 24 (u.1.2.2.2.2 i)) 9 f_27) 9 g_27)) t0.heap; rw [ht]; first | exact hP | (simp only [sI_id, sL_id, sC_id, sX_id, sY_id, sH_id, sT_id, sV_id]; exact hP)⟩, hS.F ht⟩) hS.2.2 dX2_build_46 hlk
    · skip
      refine j_iconst SS dX2_build_41 ?_
      refine lv_goto (tgt := 46) SS.1 SS.2.1 dX2_build_42 (by decide) ?_
      exact W.zret SS.1 SS.2.1 hr (j_nz (by decide)) (fun t0 ht hW => ⟨⟨_, (sY (sX (sV (sV (sV (sV (sV (sL (sL (sL (sL (sI (sI (sI (sI (sI (sC u 9 n_27) 2 ls9_27) 3 gr9_27) 4 nu9_27) 7 fa_31) 8 pc9_31) 2 st2_31) 3 w3_27) 4 w4_27) 5 w5_27) 20 v20_27) 21 v21_27) 22 n_31) 23 sp_31) 24 (u.1.2.2.2.2 i)) 9 f_27) 9 g_27), rfl, ⟨1, rfl, (⟨n_27, f_27, g_27, ls9_27, gr9_27, nu9_27, w3_27, w4_27, w5_27, v20_27, v21_27, st2_31, fa_31, pc9_31, n_31, sp_31, (u.1.2.2.2.2 i), rfl, by first | exact ⟨⟨by omega, p1, p2, p3, p4, ⟨by omega, by omega⟩, ⟨by omega, p8, p9⟩, by omega⟩, by omega, Or.inl ⟨by omega, ⟨rfl, rfl, rfl⟩, ⟨rfl, rfl, rfl, rfl, rfl⟩, ⟨rfl, rfl, rfl, rfl⟩, rfl, rfl, rfl, rfl, rfl⟩⟩ | exact ⟨⟨by omega, h_27.1, h_27.2.1, h_27.2.2.1, h_27.2.2.2.1, ⟨by omega, by omega⟩, ⟨by omega, h_31.2.1, h_31.2.2⟩, by omega⟩, by omega, Or.inr ⟨rfl, fun _ => ⟨hML, hFC⟩⟩⟩⟩)⟩, by show va_P D.1 j_cl (cW D q (sY (sX (sV (sV (sV (sV (sV (sL (sL (sL (sL (sI (sI (sI (sI (sI (sC u 9 n_27) 2 ls9_27) 3 gr9_27) 4 nu9_27) 7 fa_31) 8 pc9_31) 2 st2_31) 3 w3_27) 4 w4_27) 5 w5_27) 20 v20_27) 21 v21_27) 22 n_31) 23 sp_31) 24 (u.1.2.2.2.2 i)) 9 f_27) 9 g_27)) t0.heap; rw [ht]; first | exact hP | (simp only [sI_id, sL_id, sC_id, sX_id, sY_id, sH_id, sT_id, sV_id]; exact hP)⟩, hS.F ht⟩) hS.2.2 dX2_build_46 hlk

set_option maxHeartbeats 4000000 in
set_option maxRecDepth 100000 in
theorem c_X2_build4 (l : Launch) (D : JD) (q : Nat → Nat) (u : CS) (A : Nat → Prop) (hD : va_D A (cW D q u)) (i : Nat) (hi : i < 8) (p0 : RB 40 u i) (p1 : RB 40 u 9) (p2 : ∀ k : Nat, 0 ≤ u.2.1 2 k ∧ u.2.1 2 k ≤ 12) (p3 : ∀ k : Nat, 0 ≤ u.2.1 3 k ∧ u.2.1 3 k ≤ 12) (p4 : ∀ k : Nat, -1 ≤ u.2.1 4 k ∧ u.2.1 4 k ≤ 63) (p5 : 0 ≤ u.2.2.2 20 ∧ u.2.2.2 20 ≤ 63) (p6 : 0 ≤ u.2.2.2 21 ∧ u.2.2.2 21 ≤ 756) (p7 : 0 ≤ u.2.2.2 22 ∧ u.2.2.2 22 ≤ 1500) (p8 : ∀ k : Nat, 0 ≤ u.2.1 8 k ∧ u.2.1 8 k ≤ 1500) (p9 : u.2.2.2 23 = 0 ∨ u.2.2.2 23 = 1) (p10 : -2147483648 ≤ u.2.2.2 24 ∧ u.2.2.2 24 ≤ 2147483647) (p11 : -2147483648 ≤ u.1.2.2.2.2 i ∧ u.1.2.2.2.2 i ≤ 2147483647) (p12 : 1 ≤ u.1.2.2.1 i) : Met l yX2_build (jw yX2_build cX2_build 2 (some .boolean)) (jr 5 122) (jP [.ref (q 6), .ref (q (8 + 5 * i))] D (fun H => va_P D.1 j_cl (cW D q u) H)) (jWi (fun z u' => ∃ n : Int, ∃ f : Nat → Int, ∃ g : Nat → Int, ∃ ls9 : Nat → Int, ∃ gr9 : Nat → Int, ∃ nu9 : Nat → Int, ∃ w3 : Nat → Int64, ∃ w4 : Nat → Int64, ∃ w5 : Nat → Int64, ∃ v20 : Int, ∃ v21 : Int, ∃ st2 : Nat → Int64, ∃ fa : Nat → Int, ∃ pc9 : Nat → Int, ∃ v22 : Int, ∃ sp : Int, ∃ v24 : Int, u' = (sY (sX (sV (sV (sV (sV (sV (sL (sL (sL (sL (sI (sI (sI (sI (sI (sC u 9 n) 2 ls9) 3 gr9) 4 nu9) 7 fa) 8 pc9) 2 st2) 3 w3) 4 w4) 5 w5) 20 v20) 21 v21) 22 v22) 23 sp) 24 v24) 9 f) 9 g) ∧ (((z = 0 ∨ z = 1) ∧ ((0 ≤ n ∧ n ≤ 12) ∧ RV 40 f g) ∧ (∀ k : Nat, 0 ≤ ls9 k ∧ ls9 k ≤ 12) ∧ (∀ k : Nat, 0 ≤ gr9 k ∧ gr9 k ≤ 12) ∧ (∀ k : Nat, -1 ≤ nu9 k ∧ nu9 k ≤ 63) ∧ ((0 ≤ v20 ∧ v20 ≤ 63) ∧ 0 ≤ v21 ∧ v21 ≤ 756) ∧ ((0 ≤ v22 ∧ v22 ≤ 1500) ∧ (∀ k : Nat, 0 ≤ pc9 k ∧ pc9 k ≤ 1500) ∧ (sp = 0 ∨ sp = 1)) ∧ -2147483648 ≤ v24 ∧ v24 ≤ 2147483647) ∧ (z = 1 ↔ sp = 0) ∧ ((u.2.2.2 24 = u.1.2.2.2.2 i ∧ ((n = u.1.2.2.1 9 ∧ f = u.1.1 9 ∧ g = u.1.2.1 9) ∧ (ls9 = u.2.1 2 ∧ gr9 = u.2.1 3 ∧ nu9 = u.2.1 4 ∧ fa = u.2.1 7 ∧ pc9 = u.2.1 8) ∧ (st2 = u.2.2.1 2 ∧ w3 = u.2.2.1 3 ∧ w4 = u.2.2.1 4 ∧ w5 = u.2.2.1 5) ∧ (v20 = u.2.2.2 20 ∧ v21 = u.2.2.2 21 ∧ v22 = u.2.2.2 22 ∧ sp = u.2.2.2 23 ∧ v24 = u.2.2.2 24))) ∨ (v24 = u.1.2.2.2.2 i ∧ (FT9 u i 12 → ML9 (inC u i) n f g ls9 gr9 nu9 v20 w3 w4 w5 v21 ∧ FCT f g n ls9 gr9 v20 st2 fa v22 sp))))) (fun u' H => va_P D.1 j_cl (cW D q u') H) A) 0 0 A := by
  by_cases F9 : FT9 u i 12
  · exact c_X2_build3a l D q u A hD i hi p0 p1 p2 p3 p4 p5 p6 p7 p8 p9 p10 p11 p12 F9
  · exact c_X2_build3b l D q u A hD i hi p0 p1 p2 p3 p4 p5 p6 p7 p8 p9 p10 p11 p12 F9


/-! ===== cuts: both alike ===== -/
theorem tn_c {X Y X' Y' : Nat → Int} {a b c : Nat} (ha : X a = X' a ∧ Y a = Y' a) (hb : X b = X' b ∧ Y b = Y' b) (hc : X c = X' c ∧ Y c = Y' c) : tn X Y a b c = tn X' Y' a b c := by
  unfold tn
  rw [ha.1, ha.2, hb.1, hb.2, hc.1, hc.2]
theorem SGP_c {X Y X' Y' : Nat → Int} {n a b : Int} (ex : ∀ a : Nat, (a : Int) < n → X a = X' a ∧ Y a = Y' a) : SGP X' Y' n a b ↔ SGP X Y n a b := by
  constructor
  · rintro ⟨h1, h2⟩
    have e1 := ex a.toNat (by omega)
    have e2 := ex b.toNat (by omega)
    exact ⟨h1, by rw [e1.1, e1.2, e2.1, e2.2]; exact h2⟩
  · rintro ⟨h1, h2⟩
    have e1 := ex a.toNat (by omega)
    have e2 := ex b.toNat (by omega)
    exact ⟨h1, by rw [← e1.1, ← e1.2, ← e2.1, ← e2.2]; exact h2⟩
/-- the same points and segments -/
def SG9 (X Y X' Y' A Bb A' Bb' : Nat → Int) (n c : Int) : Prop := (∀ a : Nat, (a : Int) < n → X a = X' a ∧ Y a = Y' a) ∧ (∀ k : Nat, (k : Int) < c → A k = A' k ∧ Bb k = Bb' k) ∧ ∀ k : Nat, (k : Int) < c → 0 ≤ A k ∧ A k < Bb k ∧ Bb k < n
theorem SG_s {X Y X' Y' A Bb A' Bb' : Nat → Int} {n c : Int} (h : SG9 X Y X' Y' A Bb A' Bb' n c) : SG9 X' Y' X Y A' Bb' A Bb n c := ⟨fun a ha => ⟨(h.1 a ha).1.symm, (h.1 a ha).2.symm⟩, fun k hk => ⟨(h.2.1 k hk).1.symm, (h.2.1 k hk).2.symm⟩, fun k hk => by
  have e := h.2.1 k hk
  have q := h.2.2 k hk
  omega⟩
theorem XS_c {X Y X' Y' A Bb A' Bb' : Nat → Int} {n c : Int} (h : SG9 X Y X' Y' A Bb A' Bb' n c) {s t : Nat} (hs : (s : Int) < c) (ht : (t : Int) < c) (w : XS9 X Y A Bb s t) : XS9 X' Y' A' Bb' s t := by
  have a1 := h.2.2 s hs
  have a2 := h.2.2 t ht
  have e1 := h.2.1 s hs
  have e2 := h.2.1 t ht
  have p1 := h.1 (A s).toNat (by omega)
  have p2 := h.1 (Bb s).toNat (by omega)
  have p3 := h.1 (A t).toNat (by omega)
  have p4 := h.1 (Bb t).toNat (by omega)
  unfold XS9 XC9 at w ⊢
  rw [← e1.1, ← e1.2, ← e2.1, ← e2.2, ← tn_c p1 p2 p3, ← tn_c p1 p2 p4, ← tn_c p3 p4 p1, ← tn_c p3 p4 p2]
  exact w
theorem NX_c {X Y X' Y' A Bb A' Bb' : Nat → Int} {n c : Int} (h : SG9 X Y X' Y' A Bb A' Bb' n c) {f : Nat → Bool} (hN : NX9 X Y A Bb c.toNat f) : NX9 X' Y' A' Bb' c.toNat f := fun i j hi hj fi fj w => hN i j hi hj fi fj (XS_c (SG_s h) (by omega) (by omega) w)
theorem FC_cg {X Y X' Y' A Bb A' Bb' : Nat → Int} {n c : Int} (h : SG9 X Y X' Y' A Bb A' Bb' n c) {f : Nat → Bool} (hF : FC9 X Y A Bb c.toNat f) : FC9 X' Y' A' Bb' c.toNat f := fun k hk => (hF k hk).trans ⟨fun q i hi fi w => q i hi fi (XS_c (SG_s h) (by omega) (by omega) w), fun q i hi fi w => q i hi fi (XS_c h (by omega) (by omega) w)⟩
theorem SM_cg {X Y X' Y' A Bb A' Bb' : Nat → Int} {n c : Int} (h : SG9 X Y X' Y' A Bb A' Bb' n c) {f : Nat → Bool} {x y : Nat} (w : SM9 A Bb c.toNat f x y) : SM9 A' Bb' c.toNat f x y := by
  obtain ⟨k, k1, k2, k3⟩ := w
  have e := h.2.1 k (by omega)
  exact ⟨k, k1, k2, by rw [← e.1, ← e.2]; exact k3⟩
theorem FL_cg {X Y X' Y' A Bb A' Bb' : Nat → Int} {n c : Int} (h : SG9 X Y X' Y' A Bb A' Bb' n c) {f : Nat → Bool} {k o : Nat} (w : FL9 X Y A Bb n.toNat c.toNat f k o) : FL9 X' Y' A' Bb' n.toNat c.toNat f k o := by
  obtain ⟨⟨k1, k2, k3⟩, p, q, ⟨p1, p2⟩, p3, ⟨p4, p5⟩, ⟨s1, s2, s3, s4⟩, e⟩ := w
  have a1 := h.2.2 k (by omega)
  have e1 := h.2.1 k (by omega)
  have e2 := h.2.1 o (by omega)
  have xa := h.1 (A k).toNat (by omega)
  have xb := h.1 (Bb k).toNat (by omega)
  have xp := h.1 p (by omega)
  have xq := h.1 q (by omega)
  refine ⟨⟨k1, k2, k3⟩, p, q, ⟨p1, p2⟩, ?_, ?_, ?_, ?_⟩
  · rw [← e1.1, ← e1.2, ← tn_c xa xb xp]; exact p3
  · rw [← e1.1, ← e1.2]
    exact ⟨by rw [← xa.1, ← xb.1, ← xp.1, ← xq.1]; exact p4, by rw [← xa.2, ← xb.2, ← xp.2, ← xq.2]; exact p5⟩
  · rw [← e1.1, ← e1.2]; exact ⟨SM_cg h s1, SM_cg h s2, SM_cg h s3, SM_cg h s4⟩
  · rw [← e2.1, ← e2.2]; exact e
theorem NV_cg {X Y X' Y' A Bb A' Bb' : Nat → Int} {n c : Int} (h : SG9 X Y X' Y' A Bb A' Bb' n c) {b v : Int64} {k : Nat} (w : NV9 X Y A Bb n.toNat c.toNat b k v) : NV9 X' Y' A' Bb' n.toNat c.toNat b k v := by
  rcases w with ⟨f, o, w1, w2, w3, w4⟩ | ⟨w1, w2⟩
  · exact Or.inl ⟨f, o, NX_c h w1, w2, FL_cg h w3, w4⟩
  · exact Or.inr ⟨w1, fun f hb o w => w2 f hb o (FL_cg (SG_s h) w)⟩
theorem NV_eq {X Y X' Y' A Bb A' Bb' : Nat → Int} {n c : Int} (h : SG9 X Y X' Y' A Bb A' Bb' n c) : NV9 X Y A Bb n.toNat c.toNat = NV9 X' Y' A' Bb' n.toNat c.toNat := by
  funext b k v
  exact propext ⟨NV_cg h, NV_cg (SG_s h)⟩
theorem FCT_c {X Y X' Y' A Bb A' Bb' : Nat → Int} {n c m t : Int} {C : Nat → Int64} {F : Nat → Int} (h : SG9 X Y X' Y' A Bb A' Bb' n c) (w : FCT X Y n A Bb c C F m t) : FCT X' Y' n A' Bb' c C F m t := by
  obtain ⟨f, T, w1, w2, w3, w4⟩ := w
  refine ⟨f, T, FC_cg h w1, by rw [← NV_eq h]; exact w2, w3, fun q hq => ?_⟩
  obtain ⟨g, g1, g2⟩ := w4 q hq
  exact ⟨g, NX_c h g1, g2⟩
/-- the search finds one thing only -/
theorem FCT_u {X Y A Bb : Nat → Int} {n c m m' t t' : Int} {C C' : Nat → Int64} {F F' : Nat → Int} (hs : os_s X Y n) (hO : OL (SGP X Y n) c A Bb) (h63 : c ≤ 63) (hn : 0 ≤ n) (w : FCT X Y n A Bb c C F m t) (w' : FCT X Y n A Bb c C' F' m' t') : m = m' ∧ t = t' ∧ ∀ q : Nat, (q : Int) < m → C q = C' q ∧ F q = F' q := by
  have h0 := hO.1
  obtain ⟨f, T, a1, a2, a3, _⟩ := w
  obtain ⟨f', T', b1, b2, b3, _⟩ := w'
  have e : PB f c.toNat = PB f' c.toNat := PB_c (FC_u a1 b1)
  rw [← e] at b2
  have hs' : os_s X Y ((n.toNat : Nat) : Int) := by
    rw [Int.toNat_of_nonneg hn]; exact hs
  have hN : ∀ (b : Int64) (k : Nat) (v v' : Int64), NV9 X Y A Bb n.toNat c.toNat b k v → NV9 X Y A Bb n.toNat c.toNat b k v' → v = v' := fun b k v v' q q' => NV_u hs' hO (by omega) (by omega) (fun i hi => by
    have g := (OL_in hO (a := i) (by omega)).1
    omega) q q'
  exact RS_f hN a2 a3 b2 b3
def CuOK (P : Int → Int → Prop) (u : CS) : Prop := ML9 P (u.1.2.2.1 9) (u.1.1 9) (u.1.2.1 9) (u.2.1 2) (u.2.1 3) (u.2.1 4) (u.2.2.2 20) (u.2.2.1 3) (u.2.2.1 4) (u.2.2.1 5) (u.2.2.2 21) ∧ FCT (u.1.1 9) (u.1.2.1 9) (u.1.2.2.1 9) (u.2.1 2) (u.2.1 3) (u.2.2.2 20) (u.2.2.1 2) (u.2.1 7) (u.2.2.2 22) (u.2.2.2 23)
def bU9 (u u' : CS) (i : Nat) : Prop := (u.2.2.2 24 = u.1.2.2.2.2 i ∧ kCu u u') ∨ (u'.2.2.2 24 = u.1.2.2.2.2 i ∧ (FT9 u i 12 → CuOK (inC u i) u'))
theorem CuOK_k {P : Int → Int → Prop} {u u' : CS} (k : kCu u u') (h : CuOK P u) : CuOK P u' := by
  obtain ⟨⟨a1, a2, a3⟩, ⟨b1, b2, b3, b4, b5⟩, ⟨c1, c2, c3, c4⟩, d1, d2, d3, d4, d5⟩ := k
  unfold CuOK at h ⊢
  rw [a1, a2, a3, b1, b2, b3, b4, c1, c2, c3, c4, d1, d2, d3, d4]
  exact h
theorem CuOK_c {P Q : Int → Int → Prop} {u : CS} (h : CuOK P u) (e : ∀ x y : Int, P x y ↔ Q x y) : CuOK Q u := ⟨⟨OL_c h.1.1 e, h.1.2⟩, h.2⟩
def FU (u : CS) : Prop := u.2.2.2 24 ≤ u.2.2.2 0 ∧ ∀ r : Nat, r < 8 → u.1.2.2.2.2 r = u.2.2.2 24 → 3 ≤ u.1.2.2.1 r → FT9 u r 12 → CuOK (inC u r) u
theorem FU_s {u u' : CS} (h : FU u) (hc : cSame u u') (hs : sSam u u') (ku : kCu u u') : FU u' := by
  have k24 := ku.2.2.2.2.2.2.2
  refine ⟨by rw [k24, hs.1]; exact h.1, fun r hr e1 e2 e3 => ?_⟩
  rw [hs.2 r hr, k24] at e1
  rw [(hc r hr).1] at e2
  exact CuOK_c (CuOK_k ku (h.2 r hr e1 e2 (FT_s (hc r hr) e3))) (fun x y => (inC_s (hc r hr) x y).symm)
theorem FU_n {u u' : CS} {t : Nat} (h : FU u) (hs : sNew u u' t) (ho : ∀ r : Nat, r < 8 → r ≠ t → u'.1.2.2.1 r = u.1.2.2.1 r ∧ u'.1.1 r = u.1.1 r ∧ u'.1.2.1 r = u.1.2.1 r) (ku : kCu u u') : FU u' := by
  have k24 := ku.2.2.2.2.2.2.2
  have h1 := h.1
  refine ⟨by rw [k24, hs.1]; omega, fun r hr e1 e2 e3 => ?_⟩
  by_cases w : r = t
  · rw [w, hs.2.1, k24] at e1; omega
  · rw [hs.2.2 r hr w, k24] at e1
    rw [(ho r hr w).1] at e2
    exact CuOK_c (CuOK_k ku (h.2 r hr e1 e2 (FT_s (ho r hr w) e3))) (fun x y => (inC_s (ho r hr w) x y).symm)
theorem FU_m {u u' : CS} {k : Int} {t : Nat} {z : Int} (h : FU u) (hf : FI u k) (hk2 : k < 2147483647) (ho : (z < 0 → cSame u u') ∧ (0 ≤ z → ∀ r : Nat, r < 8 → r ≠ t → u'.1.2.2.1 r = u.1.2.2.1 r ∧ u'.1.1 r = u.1.1 r ∧ u'.1.2.1 r = u.1.2.1 r)) (hm : kMut u u' t z) : FU u' := by
  obtain ⟨m1, m2, _, ku⟩ := hm
  obtain ⟨s1, s2⟩ := m2 (by have := hf.1.1; omega)
  by_cases g : z < 0
  · exact FU_s h (ho.1 g) (s1 g) ku
  · have g2 : 0 ≤ z := by omega
    exact FU_n h (s2 g2) (ho.2 g2) ku
theorem FU_ht {u u' : CS} {k s i v z : Int} (h : FU u) (hf : FI u k) (hk2 : k < 2147483647) (hc : cSame u u') (hh : htC u u' s i v z) (hm : kHt u u' s i v) : FU u' := by
  obtain ⟨m1, _, ku⟩ := hm
  obtain ⟨s1, s2⟩ := m1 (by have := hf.1.1; omega)
  rcases hh with ⟨a1, _, a2⟩ | ⟨a1, _, a2⟩
  · exact FU_s h hc (s1 a1) ku
  · exact FU_n h (s2 a1) (fun r hr _ => hc r hr) ku
theorem FU_b {u u' : CS} {k : Int} {i : Nat} (hi : i < 8) (h : FU u) (hf : FI u k) (hc : cSame u u') (hs : sSam u u') (hb : bU9 u u' i) : FU u' := by
  rcases hb with ⟨b1, b2⟩ | ⟨b1, b2⟩
  · exact FU_s h hc hs b2
  · obtain ⟨h1, h2, _, _⟩ := hf
    refine ⟨by rw [b1, hs.1]; exact (h1.2.1 i hi).2, fun r hr e1 e2 e3 => ?_⟩
    rw [hs.2 r hr, b1] at e1
    by_cases w : r = i
    · subst w
      exact CuOK_c (b2 (FT_s (hc r hr) e3)) (fun x y => (inC_s (hc r hr) x y).symm)
    · have z0 := h1.2.2 r i hr hi w e1
      have q := h2 r hr z0
      rw [(hc r hr).1] at e2
      omega
theorem bU_OK {u u' : CS} {i : Nat} (hi : i < 8) (h3 : 3 ≤ u.1.2.2.1 i) (h : FU u) (hb : bU9 u u' i) (hF : FT9 u i 12) : CuOK (inC u i) u' := by
  rcases hb with ⟨b1, b2⟩ | ⟨b1, b2⟩
  · exact CuOK_k b2 (h.2 i hi b1.symm h3 hF)
  · exact b2 hF
/-- the held cuts are kept, or made for shape s -/
def cuK (u u' : CS) (s : Int) : Prop := kCu u u' ∨ ((0 ≤ s ∧ s ≤ 7) ∧ bU9 u u' s.toNat)
theorem FU_k {u u' : CS} {k s : Int} (h : FU u) (hf : FI u k) (hc : cSame u u') (hs : sSam u u') (hb : cuK u u' s) : FU u' := by
  rcases hb with q | ⟨q1, q2⟩
  · exact FU_s h hc hs q
  · exact FU_b (by omega) h hf hc hs q2
def cuC (u : CS) (s : Int) : Prop := 3 ≤ u.1.2.2.1 s.toNat ∧ rE u s.toNat + rI u s.toNat ≤ 12
def fpR (u : CS) (i z : Int) : Prop := (u.2.2.2 23 ≠ 0 ∧ z = -5) ∨ (u.2.2.2 23 = 0 ∧ ((u.2.2.2 22 ≤ i ∧ z = -1) ∨ (i < u.2.2.2 22 ∧ cn9 (fun a => u.2.2.1 2 i.toNat &&& u.2.2.1 4 a = u.2.2.1 4 a ∧ u.2.2.1 2 i.toNat ^^^ u.2.2.1 5 a ≠ 0) (u.2.2.2 21).toNat z ∧ (0 ≤ z ∧ z ≤ 756))))
def fpC (u u' : CS) (s i z : Int) : Prop := (¬ ((0 ≤ s ∧ s ≤ 7) ∧ 0 ≤ i) ∧ z = -1 ∧ kCu u u') ∨ (((0 ≤ s ∧ s ≤ 7) ∧ 0 ≤ i) ∧ ((¬ cuC u s ∧ z = -2 ∧ kCu u u') ∨ (cuC u s ∧ bU9 u u' s.toNat ∧ fpR u' i z)))
theorem fp_K {u u' : CS} {s i z : Int} (h : fpC u u' s i z) : cuK u u' s := by
  rcases h with ⟨_, _, q⟩ | ⟨a, ⟨_, _, q⟩ | ⟨_, q, _⟩⟩
  · exact Or.inl q
  · exact Or.inl q
  · exact Or.inr ⟨a.1, q⟩
theorem cu_e {u : CS} {v : MS} {s : Int} (hC : CI u) (h : EQS u v) (hs : 0 ≤ s ∧ s ≤ 7) : cuC u s ↔ ctM v s := by
  have e1 := (EQS_x hC h hs).1
  obtain ⟨_, e2, e3⟩ := EQS_a hC h hs
  unfold cuC ctM
  rw [e1, e2, e3]
  omega
/-- all that is held -/
def FV (u : CS) (k : Int) : Prop := FI u k ∧ FU u
theorem FV_w {u : CS} {k k' : Int} (h : FV u k) (hk : k ≤ k') : FV u k' := ⟨FI_w h.1 hk, h.2⟩
theorem FV_s {u u' : CS} {k k' : Int} (h : FV u k) (hk : k ≤ k') (hc : cSame u u') (hh : hSam u u') (hs : sSam u u') (ko : kCo u u') (ku : kCu u u') : FV u' k' := ⟨FI_s h.1 hk hc hh hs ko, FU_s h.2 hc hs ku⟩
theorem FV_m {u u' : CS} {k k' : Int} {t : Nat} {z : Int} (h : FV u k) (hk : k + 1 ≤ k') (hk2 : k < 2147483647) (ho : cOt u u' t z) (hm : kMut u u' t z) : FV u' k' := ⟨FI_m h.1 hk hk2 ho hm, FU_m h.2 h.1 hk2 ho hm⟩
theorem FV_ht {u u' : CS} {k k' s i v z : Int} (h : FV u k) (hk : k + 1 ≤ k') (hk2 : k < 2147483647) (hc : cSame u u') (hh : htC u u' s i v z) (hm : kHt u u' s i v) : FV u' k' := ⟨FI_ht h.1 hk hk2 hc hh hm, FU_ht h.2 h.1 hk2 hc hh hm⟩
theorem FV_ps {u u' : CS} {k k' s w z : Int} (h : FV u k) (hk : k ≤ k') (hc : cSame u u') (hh : hSam u u') (hs : sSam u u') (hp : psC u u' s w z) (ku : kCu u u') : FV u' k' := ⟨FI_ps h.1 hk hc hh hs hp, FU_s h.2 hc hs ku⟩
theorem FV_pc {u u' : CS} {k k' s p i z : Int} (h : FV u k) (hk : k ≤ k') (hc : cSame u u') (hh : hSam u u') (hs : sSam u u') (hp : pcC u u' s p i z) (ku : kCu u u') : FV u' k' := ⟨FI_pc h.1 hk hc hh hs hp, FU_s h.2 hc hs ku⟩
theorem FV_k {u u' : CS} {k k' s : Int} (h : FV u k) (hk : k ≤ k') (hc : cSame u u') (hh : hSam u u') (hs : sSam u u') (ko : kCo u u') (hb : cuK u u' s) : FV u' k' := ⟨FI_s h.1 hk hc hh hs ko, FU_k h.2 h.1 hc hs hb⟩

