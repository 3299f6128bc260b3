
set_option maxHeartbeats 4000000 in
set_option maxRecDepth 100000 in
theorem c_X5_build (l : Launch) (D : JD) (q : Nat → Nat) (u : CS) (A : Nat → Prop) (hD : va_D A (cW D q u)) (r : Nat) (hr : r ≤ 8) (p0 : RB 40 u r) (p1 : RB 40 u 9) (p2 : ∀ k : Nat, 0 ≤ u.2.1 2 k ∧ u.2.1 2 k ≤ 12) (p3 : ∀ k : Nat, 0 ≤ u.2.1 3 k ∧ u.2.1 3 k ≤ 12) (p4 : ∀ k : Nat, -1 ≤ u.2.1 4 k ∧ u.2.1 4 k ≤ 63) : Met l yX5_build (jw yX5_build cX5_build 4 none) (jr 4 99) (jP [.ref (q 66), .ref (q (9 + 5 * r))] D (fun H => va_P D.1 j_cl (cW D q u) H)) (jWv (fun u' => ∃ n : Int, ∃ f : Nat → Int, ∃ g : Nat → Int, ∃ ls9 : Nat → Int, ∃ gr9 : Nat → Int, ∃ nu9 : Nat → Int, ∃ w3 : Nat → Int64, ∃ w4 : Nat → Int64, ∃ w5 : Nat → Int64, ∃ v20 : Int, ∃ v21 : Int, u' = (sY (sX (sV (sV (sL (sL (sL (sI (sI (sI (sC u 9 n) 2 ls9) 3 gr9) 4 nu9) 3 w3) 4 w4) 5 w5) 20 v20) 21 v21) 9 f) 9 g) ∧ (((0 ≤ n ∧ n ≤ 12) ∧ RV 40 f g) ∧ (∀ k : Nat, 0 ≤ ls9 k ∧ ls9 k ≤ 12) ∧ (∀ k : Nat, 0 ≤ gr9 k ∧ gr9 k ≤ 12) ∧ (∀ k : Nat, -1 ≤ nu9 k ∧ nu9 k ≤ 63) ∧ (0 ≤ v20 ∧ v20 ≤ 63) ∧ 0 ≤ v21 ∧ v21 ≤ 756)) (fun u' H => va_P D.1 j_cl (cW D q u') H) A) 0 0 A := by
  refine Met.ofW (cc := cX5_build) (maxL := 4) (ret := none) (by decide) rfl ?_
  intro pr en st mi args below meth co s₁ B hml hv
  obtain ⟨rfl, hG, hP⟩ := hv
  have hr := B.returns
  have hlk := B.notSynchronized
  have SS : jS pr mi co cX5_build 4 st _ RX5 := ⟨B.exec, B.bytes, hml, findClass_of_methodNamed B.named, fun w hw => atoms_spec (ws := (jw yX5_build cX5_build 4 none)) B.pre w (List.mem_cons_of_mem _ hw)⟩
  have hl := lv_entry ([.ref (q 66), .ref (q (9 + 5 * r))]) (n := 4) (Nat.le_of_ble_eq_true rfl)
  rw [lg_entry_eq]
  generalize (lg_sl ([.ref (q 66), .ref (q (9 + 5 * r))]) ++ List.replicate (4 - (lg_sl ([.ref (q 66), .ref (q (9 + 5 * r))])).length) Slot.unset).toArray = ls at hl ⊢
  have hl : lv_has ls 4 [(0, .ref (q 66)), (1, .ref (q (9 + 5 * r)))] := hl
  have hS : va_S A st.heap st.heap [] := va_S.rf
  have hR9 : RB 40 u 9 := p1
  refine lv_aload_n SS.1 SS.2.1 dX5_build_0 rfl (lv_at hl 0 rfl) ?_
  refine j_get SS hG hP 66 (v := .ref (q (9 + 5 * 9))) (C := RX5) (T := TX5) (N := 9) rfl rfl inX5 0 (by decide) (ref := "GridPolygons$Mesh") kw_310 rfl rfl dX5_build_1 ?_
  refine lv_aload_n SS.1 SS.2.1 dX5_build_4 rfl (lv_at hl 1 rfl) ?_
  refine j_vWv SS (As := [.ref (q (9 + 5 * r))]) (rest := []) (c_X6_fill_9 l D q u A (cW_D hD) r (by omega)  (show RB 40 u r from (p0)) (show RB 40 u 9 from (p1))) mf_X6_fill kw_873 hG hP hP (ci := 6) (q0 := (9 + 5 * 9)) rfl (cw_pts (by omega)) rfl hS (fun _ h => h) rfl hl.1 ⟨⟨Nat.le_of_ble_eq_true rfl, Nat.le_of_ble_eq_true rfl⟩, Nat.le_of_ble_eq_true rfl, Nat.le_refl _, Nat.le_refl _⟩ rfl dX5_build_5 (fun u5 H locs h_5 hP _ hS => ?_)
  obtain ⟨n_5, f_5, g_5, rfl, h_5⟩ := h_5
  have hP : va_P D.1 j_cl (cW D q (sY (sX (sC u 9 n_5) 9 f_5) 9 g_5)) H := hP
  have h_5 : (0 ≤ n_5 ∧ n_5 ≤ 12) ∧ RV 40 f_5 g_5 := h_5
  have hR9 : (0 ≤ n_5 ∧ n_5 ≤ (rl 9 : Int)) ∧ RV 40 f_5 g_5 := h_5
  refine lv_aload_n SS.1 SS.2.1 dX5_build_8 rfl (lv_at hl 0 rfl) ?_
  refine j_iconst SS dX5_build_9 ?_
  refine j_put SS hG hP (cW_D hD) hS 66 (v := .int (J 0)) (ty := .int) (C := RX5) (T := TX5) (N := 9) rfl rfl inX5 tyX5 tyX5_ok nmX5 5 (by decide) (ref := "GridPolygons$Mesh") kw_315 rfl rfl (by decide +kernel) rfl rfl (Nat.le_of_ble_eq_true rfl) dX5_build_10 (ws' := (cW D q (sY (sX (sV (sC u 9 n_5) 20 0) 9 f_5) 9 g_5))) rfl (fun H locs hP hS => ?_)
  refine lv_aload_n SS.1 SS.2.1 dX5_build_13 rfl (lv_at hl 0 rfl) ?_
  refine j_iconst SS dX5_build_14 ?_
  refine j_put SS hG hP (cW_D hD) hS 66 (v := .int (J 0)) (ty := .int) (C := RX5) (T := TX5) (N := 9) rfl rfl inX5 tyX5 tyX5_ok nmX5 8 (by decide) (ref := "GridPolygons$Mesh") kw_319 rfl rfl (by decide +kernel) rfl rfl (Nat.le_of_ble_eq_true rfl) dX5_build_15 (ws' := (cW D q (sY (sX (sV (sV (sC u 9 n_5) 20 0) 21 0) 9 f_5) 9 g_5))) rfl (fun H locs hP hS => ?_)
  refine lv_aload_n SS.1 SS.2.1 dX5_build_18 rfl (lv_at hl 0 rfl) ?_
  refine j_get SS hG hP 66 (v := .ref (q 58)) (C := RX5) (T := TX5) (N := 9) rfl rfl inX5 4 (by decide) (ref := "GridPolygons$Mesh") kw_314 rfl rfl dX5_build_19 ?_
  refine j_iconst SS dX5_build_22 ?_
  refine j_sWv SS (As := [.ref (q 58), .int (J (-1))]) (rest := []) (c_J7_fill_53178 l D (ws := (cW D q (sY (sX (sV (sV (sC u 9 n_5) 20 0) 21 0) 9 f_5) 9 g_5))) (A := A) (cW_D hD) 58 (-1) rfl (by first | decide | omega)) mf_J7_fill_53178 kw_884 hG hP hS (fun _ h => h) rfl hl.1 ⟨⟨Nat.le_of_ble_eq_true rfl, Nat.le_of_ble_eq_true rfl⟩, Nat.le_of_ble_eq_true rfl, Nat.le_refl _, Nat.le_refl _⟩ rfl dX5_build_23 (fun _ H locs _ hP _ hS => ?_)
  have hP : va_P D.1 j_cl (cW D q (sY (sX (sV (sV (sI (sC u 9 n_5) 4 (jf (u.2.1 4) (-1) 144)) 20 0) 21 0) 9 f_5) 9 g_5)) H := hP
  have hN23 := JF_b (n := 144) (v := -1) p4 (by omega)
  refine j_iconst SS dX5_build_26 ?_
  refine lv_istore_n (lv' := [(2, .int (J 0)), (0, .ref (q 66)), (1, .ref (q (9 + 5 * r)))]) SS.1 SS.2.1 dX5_build_27 rfl hl (by decide) rfl (fun ls hl => ?_)
  have L_28 : ∀ (nn : Nat) (a : Int) (n1 : Int) (f1 : Nat → Int) (g1 : Nat → Int) (h1 : Nat → Int) (H : Heap) (locs : List Loc) (hP : va_P D.1 j_cl (cW D q (sY (sX (sV (sV (sI (sI (sI (sC u 9 n_5) 2 f1) 3 g1) 4 h1) 20 n1) 21 0) 9 f_5) 9 g_5)) H) (hS : va_S A st.heap H locs) (ls : Array Slot) (hl : lv_has ls 4 [(0, .ref (q 66)), (1, .ref (q (9 + 5 * r))), (2, .int (J a))]) (i28_0 : 0 ≤ a ∧ a ≤ 12) (i28_1 : 0 ≤ n1 ∧ n1 ≤ 63) (i28_2 : ∀ k : Nat, 0 ≤ f1 k ∧ f1 k ≤ 12) (i28_3 : ∀ k : Nat, 0 ≤ g1 k ∧ g1 k ≤ 12) (i28_4 : ∀ k : Nat, -1 ≤ h1 k ∧ h1 k ≤ 63), ((12 : Int) - a).toNat < nn → W pr l en (headSpec (jw yX5_build cX5_build 4 none) (jr 4 99)).room st mi (([.ref (q 66), .ref (q (9 + 5 * r))] : List Value).toArray) below meth co H locs 0 0 (MQ below (jWv (fun u' => ∃ n : Int, ∃ f : Nat → Int, ∃ g : Nat → Int, ∃ ls9 : Nat → Int, ∃ gr9 : Nat → Int, ∃ nu9 : Nat → Int, ∃ w3 : Nat → Int64, ∃ w4 : Nat → Int64, ∃ w5 : Nat → Int64, ∃ v20 : Int, ∃ v21 : Int, u' = (sY (sX (sV (sV (sL (sL (sL (sI (sI (sI (sC u 9 n) 2 ls9) 3 gr9) 4 nu9) 3 w3) 4 w4) 5 w5) 20 v20) 21 v21) 9 f) 9 g) ∧ (((0 ≤ n ∧ n ≤ 12) ∧ RV 40 f g) ∧ (∀ k : Nat, 0 ≤ ls9 k ∧ ls9 k ≤ 12) ∧ (∀ k : Nat, 0 ≤ gr9 k ∧ gr9 k ≤ 12) ∧ (∀ k : Nat, -1 ≤ nu9 k ∧ nu9 k ≤ 63) ∧ (0 ≤ v20 ∧ v20 ≤ 63) ∧ 0 ≤ v21 ∧ v21 ≤ 756)) (fun u' H => va_P D.1 j_cl (cW D q u') H) A) (([.ref (q 66), .ref (q (9 + 5 * r))] : List Value).toArray) st 0 0 A) (F0 mi 28 ls []) := by
    intro nn
    induction nn with
    | zero => intros; omega
    | succ nn ih_28 =>
      intro a n1 f1 g1 h1 H locs hP hS ls hl i28_0 i28_1 i28_2 i28_3 i28_4 hm
      refine lv_iload_n SS.1 SS.2.1 dX5_build_28 rfl (lv_at hl 2 rfl) ?_
      refine lv_aload_n SS.1 SS.2.1 dX5_build_29 rfl (lv_at hl 0 rfl) ?_
      refine j_get SS hG hP 66 (v := .ref (q (9 + 5 * 9))) (C := RX5) (T := TX5) (N := 9) rfl rfl inX5 0 (by decide) (ref := "GridPolygons$Mesh") kw_310 rfl rfl dX5_build_30 ?_
      refine j_getS SS hG hP (9 + 5 * 9) (v := .int (J n_5)) (C := RX6) (T := TX6) (N := 3) (cw_pts (by omega)) rfl inX6 2 (by decide) (ref := "GridPolygons$Points") kw_136 kw_134 rfl dX5_build_33 ?_
      refine j_icmp_ge SS (tgt := 113) (x := a) (y := n_5) dX5_build_36 (by decide) (by omega) (by omega) (fun c_36 => ?_) (fun c_36 => ?_)
      · skip
        refine j_iconst SS dX5_build_113 ?_
        refine lv_istore_n (lv' := [(2, .int (J 0)), (0, .ref (q 66)), (1, .ref (q (9 + 5 * r)))]) SS.1 SS.2.1 dX5_build_114 rfl hl (by decide) rfl (fun ls hl => ?_)
        have L_115 : ∀ (nn : Nat) (s : Int) (w1 : Nat → Int64) (w2 : Nat → Int64) (w6 : Nat → Int64) (m1 : Int) (H : Heap) (locs : List Loc) (hP : va_P D.1 j_cl (cW D q (sY (sX (sV (sV (sL (sL (sL (sI (sI (sI (sC u 9 n_5) 2 f1) 3 g1) 4 h1) 3 w1) 4 w2) 5 w6) 20 n1) 21 m1) 9 f_5) 9 g_5)) H) (hS : va_S A st.heap H locs) (ls : Array Slot) (hl : lv_has ls 4 [(0, .ref (q 66)), (1, .ref (q (9 + 5 * r))), (2, .int (J s))]) (i115_0 : 0 ≤ s ∧ s ≤ 63) (i115_1 : 0 ≤ m1 ∧ m1 ≤ 756), ((63 : Int) - s).toNat < nn → W pr l en (headSpec (jw yX5_build cX5_build 4 none) (jr 4 99)).room st mi (([.ref (q 66), .ref (q (9 + 5 * r))] : List Value).toArray) below meth co H locs 0 0 (MQ below (jWv (fun u' => ∃ n : Int, ∃ f : Nat → Int, ∃ g : Nat → Int, ∃ ls9 : Nat → Int, ∃ gr9 : Nat → Int, ∃ nu9 : Nat → Int, ∃ w3 : Nat → Int64, ∃ w4 : Nat → Int64, ∃ w5 : Nat → Int64, ∃ v20 : Int, ∃ v21 : Int, u' = (sY (sX (sV (sV (sL (sL (sL (sI (sI (sI (sC u 9 n) 2 ls9) 3 gr9) 4 nu9) 3 w3) 4 w4) 5 w5) 20 v20) 21 v21) 9 f) 9 g) ∧ (((0 ≤ n ∧ n ≤ 12) ∧ RV 40 f g) ∧ (∀ k : Nat, 0 ≤ ls9 k ∧ ls9 k ≤ 12) ∧ (∀ k : Nat, 0 ≤ gr9 k ∧ gr9 k ≤ 12) ∧ (∀ k : Nat, -1 ≤ nu9 k ∧ nu9 k ≤ 63) ∧ (0 ≤ v20 ∧ v20 ≤ 63) ∧ 0 ≤ v21 ∧ v21 ≤ 756)) (fun u' H => va_P D.1 j_cl (cW D q u') H) A) (([.ref (q 66), .ref (q (9 + 5 * r))] : List Value).toArray) st 0 0 A) (F0 mi 115 ls []) := by
          intro nn
          induction nn with
          | zero => intros; omega
          | succ nn ih_115 =>
            intro s w1 w2 w6 m1 H locs hP hS ls hl i115_0 i115_1 hm
            refine lv_iload_n SS.1 SS.2.1 dX5_build_115 rfl (lv_at hl 2 rfl) ?_
            refine lv_aload_n SS.1 SS.2.1 dX5_build_116 rfl (lv_at hl 0 rfl) ?_
            refine j_get SS hG hP 66 (v := .int (J n1)) (C := RX5) (T := TX5) (N := 9) rfl rfl inX5 5 (by decide) (ref := "GridPolygons$Mesh") kw_315 rfl rfl dX5_build_117 ?_
            refine j_icmp_ge SS (tgt := 139) (x := s) (y := n1) dX5_build_120 (by decide) (by omega) (by omega) (fun c_120 => ?_) (fun c_120 => ?_)
            · skip
              exact W.vret SS.1 SS.2.1 hr (fun t0 ht hW => ⟨⟨(sY (sX (sV (sV (sL (sL (sL (sI (sI (sI (sC u 9 n_5) 2 f1) 3 g1) 4 h1) 3 w1) 4 w2) 5 w6) 20 n1) 21 m1) 9 f_5) 9 g_5), rfl, (⟨n_5, f_5, g_5, f1, g1, h1, w1, w2, w6, n1, m1, rfl, ⟨h_5, i28_2, i28_3, i28_4, by omega, by omega⟩⟩), by show va_P D.1 j_cl (cW D q (sY (sX (sV (sV (sL (sL (sL (sI (sI (sI (sC u 9 n_5) 2 f1) 3 g1) 4 h1) 3 w1) 4 w2) 5 w6) 20 n1) 21 m1) 9 f_5) 9 g_5)) t0.heap; rw [ht]; first | exact hP | (simp only [sI_id, sL_id, sC_id, sX_id, sY_id, sH_id, sT_id, sV_id]; exact hP)⟩, hS.F ht⟩) hS.2.2 dX5_build_139 hlk
            · skip
              refine lv_aload_n SS.1 SS.2.1 dX5_build_123 rfl (lv_at hl 0 rfl) ?_
              refine lv_iload_n SS.1 SS.2.1 dX5_build_124 rfl (lv_at hl 2 rfl) ?_
              refine j_vWv SS (As := [.int (J s)]) (rest := []) (c_X5_noteCrossed l D q (sY (sX (sV (sV (sL (sL (sL (sI (sI (sI (sC u 9 n_5) 2 f1) 3 g1) 4 h1) 3 w1) 4 w2) 5 w6) 20 n1) 21 m1) 9 f_5) 9 g_5) A (cW_D hD)  s (show RB 40 (sY (sX (sV (sV (sL (sL (sL (sI (sI (sI (sC u 9 n_5) 2 f1) 3 g1) 4 h1) 3 w1) 4 w2) 5 w6) 20 n1) 21 m1) 9 f_5) 9 g_5) 9 from (hR9)) (show -2147483648 ≤ s ∧ s ≤ 2147483647 from (by omega)) (show ∀ k : Nat, 0 ≤ f1 k ∧ f1 k ≤ 12 from (i28_2)) (show ∀ k : Nat, 0 ≤ g1 k ∧ g1 k ≤ 12 from (i28_3)) (show 0 ≤ n1 ∧ n1 ≤ 63 from (by omega))) mf_X5_noteCrossed kw_896 hG hP hP (ci := 5) (q0 := 66) rfl rfl rfl hS (fun _ h => h) rfl hl.1 ⟨⟨Nat.le_of_ble_eq_true rfl, Nat.le_of_ble_eq_true rfl⟩, Nat.le_of_ble_eq_true rfl, Nat.le_refl _, Nat.le_refl _⟩ rfl dX5_build_125 (fun u125 H locs h_125 hP _ hS => ?_)
              obtain ⟨w_125, rfl, h_125⟩ := h_125
              have hP : va_P D.1 j_cl (cW D q (sY (sX (sV (sV (sL (sL (sL (sI (sI (sI (sC u 9 n_5) 2 f1) 3 g1) 4 h1) 3 w_125) 4 w2) 5 w6) 20 n1) 21 m1) 9 f_5) 9 g_5)) H := hP
              have h_125 : True := h_125
              refine lv_aload_n SS.1 SS.2.1 dX5_build_128 rfl (lv_at hl 0 rfl) ?_
              refine lv_iload_n SS.1 SS.2.1 dX5_build_129 rfl (lv_at hl 2 rfl) ?_
              refine j_vWv SS (As := [.int (J s)]) (rest := []) (c_X5_noteFlips l D q (sY (sX (sV (sV (sL (sL (sL (sI (sI (sI (sC u 9 n_5) 2 f1) 3 g1) 4 h1) 3 w_125) 4 w2) 5 w6) 20 n1) 21 m1) 9 f_5) 9 g_5) A (cW_D hD)  s (show RB 40 (sY (sX (sV (sV (sL (sL (sL (sI (sI (sI (sC u 9 n_5) 2 f1) 3 g1) 4 h1) 3 w_125) 4 w2) 5 w6) 20 n1) 21 m1) 9 f_5) 9 g_5) 9 from (hR9)) (show -2147483648 ≤ s ∧ s ≤ 2147483647 from (by omega)) (show ∀ k : Nat, 0 ≤ f1 k ∧ f1 k ≤ 12 from (i28_2)) (show ∀ k : Nat, 0 ≤ g1 k ∧ g1 k ≤ 12 from (i28_3)) (show ∀ k : Nat, -1 ≤ h1 k ∧ h1 k ≤ 63 from (i28_4)) (show 0 ≤ m1 ∧ m1 ≤ 756 from (by omega))) mf_X5_noteFlips kw_910 hG hP hP (ci := 5) (q0 := 66) rfl rfl rfl hS (fun _ h => h) rfl hl.1 ⟨⟨Nat.le_of_ble_eq_true rfl, Nat.le_of_ble_eq_true rfl⟩, Nat.le_of_ble_eq_true rfl, Nat.le_refl _, Nat.le_refl _⟩ rfl dX5_build_130 (fun u130 H locs h_130 hP _ hS => ?_)
              obtain ⟨w1_130, w2_130, n_130, rfl, h_130⟩ := h_130
              have hP : va_P D.1 j_cl (cW D q (sY (sX (sV (sV (sL (sL (sL (sI (sI (sI (sC u 9 n_5) 2 f1) 3 g1) 4 h1) 3 w_125) 4 w1_130) 5 w2_130) 20 n1) 21 n_130) 9 f_5) 9 g_5)) H := hP
              have h_130 : 0 ≤ n_130 ∧ n_130 ≤ 756 := h_130
              refine lv_iinc (v := J (s + 1)) (lv' := [(2, .int (J (s + 1))), (0, .ref (q 66)), (1, .ref (q (9 + 5 * r)))]) SS.1 SS.2.1 dX5_build_133 hl (k := 2) rfl (J_add _ _) (by decide) rfl (fun ls hl => ?_)
              refine lv_goto (tgt := 115) SS.1 SS.2.1 dX5_build_136 (by decide) ?_
              exact ih_115 (s + 1) w_125 w1_130 w2_130 n_130 _ _ hP hS ls (lv_sub hl [1, 2, 0] rfl) (by omega) (by omega) (by omega)
        have hP : va_P D.1 j_cl (cW D q (sY (sX (sV (sV (sL (sI (sI (sI (sC u 9 n_5) 2 f1) 3 g1) 4 h1) 3 (u.2.2.1 3)) 20 n1) 21 0) 9 f_5) 9 g_5)) H := Eq.mpr (congrArg (fun s => va_P D.1 j_cl (cW D q (sY (sX (sV (sV s 20 n1) 21 0) 9 f_5) 9 g_5)) H) (sL_at (u := (sI (sI (sI (sC u 9 n_5) 2 f1) 3 g1) 4 h1)) (r := 3) (x := (u.2.2.1 3)) rfl)) hP
        have hP : va_P D.1 j_cl (cW D q (sY (sX (sV (sV (sL (sL (sI (sI (sI (sC u 9 n_5) 2 f1) 3 g1) 4 h1) 3 (u.2.2.1 3)) 4 (u.2.2.1 4)) 20 n1) 21 0) 9 f_5) 9 g_5)) H := Eq.mpr (congrArg (fun s => va_P D.1 j_cl (cW D q (sY (sX (sV (sV s 20 n1) 21 0) 9 f_5) 9 g_5)) H) (sL_at (u := (sL (sI (sI (sI (sC u 9 n_5) 2 f1) 3 g1) 4 h1) 3 (u.2.2.1 3))) (r := 4) (x := (u.2.2.1 4)) rfl)) hP
        have hP : va_P D.1 j_cl (cW D q (sY (sX (sV (sV (sL (sL (sL (sI (sI (sI (sC u 9 n_5) 2 f1) 3 g1) 4 h1) 3 (u.2.2.1 3)) 4 (u.2.2.1 4)) 5 (u.2.2.1 5)) 20 n1) 21 0) 9 f_5) 9 g_5)) H := Eq.mpr (congrArg (fun s => va_P D.1 j_cl (cW D q (sY (sX (sV (sV s 20 n1) 21 0) 9 f_5) 9 g_5)) H) (sL_at (u := (sL (sL (sI (sI (sI (sC u 9 n_5) 2 f1) 3 g1) 4 h1) 3 (u.2.2.1 3)) 4 (u.2.2.1 4))) (r := 5) (x := (u.2.2.1 5)) rfl)) hP
        exact L_115 (((63 : Int) - (0 : Int)).toNat + 1) 0 (u.2.2.1 3) (u.2.2.1 4) (u.2.2.1 5) 0 _ _ hP hS ls (lv_sub hl [1, 2, 0] rfl) (by omega) (by omega) (Nat.lt_succ_self _)
      · skip
        refine lv_iload_n SS.1 SS.2.1 dX5_build_39 rfl (lv_at hl 2 rfl) ?_
        refine j_iconst SS dX5_build_40 ?_
        refine j_iadd SS (x := a) (y := 1) dX5_build_41 ?_
        refine lv_istore_n (lv' := [(3, .int (J (a + 1))), (0, .ref (q 66)), (1, .ref (q (9 + 5 * r))), (2, .int (J a))]) SS.1 SS.2.1 dX5_build_42 rfl hl (by decide) rfl (fun ls hl => ?_)
        have L_43 : ∀ (nn : Nat) (b : Int) (n2 : Int) (f2 : Nat → Int) (g2 : Nat → Int) (h2 : Nat → Int) (H : Heap) (locs : List Loc) (hP : va_P D.1 j_cl (cW D q (sY (sX (sV (sV (sI (sI (sI (sC u 9 n_5) 2 f2) 3 g2) 4 h2) 20 n2) 21 0) 9 f_5) 9 g_5)) H) (hS : va_S A st.heap H locs) (ls : Array Slot) (hl : lv_has ls 4 [(0, .ref (q 66)), (1, .ref (q (9 + 5 * r))), (2, .int (J a)), (3, .int (J b))]) (i43_0 : 1 ≤ b ∧ b ≤ 13) (i43_1 : 0 ≤ n2 ∧ n2 ≤ 63) (i43_2 : ∀ k : Nat, 0 ≤ f2 k ∧ f2 k ≤ 12) (i43_3 : ∀ k : Nat, 0 ≤ g2 k ∧ g2 k ≤ 12) (i43_4 : ∀ k : Nat, -1 ≤ h2 k ∧ h2 k ≤ 63), ((13 : Int) - b).toNat < nn → W pr l en (headSpec (jw yX5_build cX5_build 4 none) (jr 4 99)).room st mi (([.ref (q 66), .ref (q (9 + 5 * r))] : List Value).toArray) below meth co H locs 0 0 (MQ below (jWv (fun u' => ∃ n : Int, ∃ f : Nat → Int, ∃ g : Nat → Int, ∃ ls9 : Nat → Int, ∃ gr9 : Nat → Int, ∃ nu9 : Nat → Int, ∃ w3 : Nat → Int64, ∃ w4 : Nat → Int64, ∃ w5 : Nat → Int64, ∃ v20 : Int, ∃ v21 : Int, u' = (sY (sX (sV (sV (sL (sL (sL (sI (sI (sI (sC u 9 n) 2 ls9) 3 gr9) 4 nu9) 3 w3) 4 w4) 5 w5) 20 v20) 21 v21) 9 f) 9 g) ∧ (((0 ≤ n ∧ n ≤ 12) ∧ RV 40 f g) ∧ (∀ k : Nat, 0 ≤ ls9 k ∧ ls9 k ≤ 12) ∧ (∀ k : Nat, 0 ≤ gr9 k ∧ gr9 k ≤ 12) ∧ (∀ k : Nat, -1 ≤ nu9 k ∧ nu9 k ≤ 63) ∧ (0 ≤ v20 ∧ v20 ≤ 63) ∧ 0 ≤ v21 ∧ v21 ≤ 756)) (fun u' H => va_P D.1 j_cl (cW D q u') H) A) (([.ref (q 66), .ref (q (9 + 5 * r))] : List Value).toArray) st 0 0 A) (F0 mi 43 ls []) := by
          intro nn
          induction nn with
          | zero => intros; omega
          | succ nn ih_43 =>
            intro b n2 f2 g2 h2 H locs hP hS ls hl i43_0 i43_1 i43_2 i43_3 i43_4 hm
            refine lv_iload_n SS.1 SS.2.1 dX5_build_43 rfl (lv_at hl 3 rfl) ?_
            refine lv_aload_n SS.1 SS.2.1 dX5_build_44 rfl (lv_at hl 0 rfl) ?_
            refine j_get SS hG hP 66 (v := .ref (q (9 + 5 * 9))) (C := RX5) (T := TX5) (N := 9) rfl rfl inX5 0 (by decide) (ref := "GridPolygons$Mesh") kw_310 rfl rfl dX5_build_45 ?_
            refine j_getS SS hG hP (9 + 5 * 9) (v := .int (J n_5)) (C := RX6) (T := TX6) (N := 3) (cw_pts (by omega)) rfl inX6 2 (by decide) (ref := "GridPolygons$Points") kw_136 kw_134 rfl dX5_build_48 ?_
            refine j_icmp_ge SS (tgt := 107) (x := b) (y := n_5) dX5_build_51 (by decide) (by omega) (by omega) (fun c_51 => ?_) (fun c_51 => ?_)
            · skip
              refine lv_iinc (v := J (a + 1)) (lv' := [(2, .int (J (a + 1))), (0, .ref (q 66)), (1, .ref (q (9 + 5 * r))), (3, .int (J b))]) SS.1 SS.2.1 dX5_build_107 hl (k := 2) rfl (J_add _ _) (by decide) rfl (fun ls hl => ?_)
              refine lv_goto (tgt := 28) SS.1 SS.2.1 dX5_build_110 (by decide) ?_
              exact ih_28 (a + 1) n2 f2 g2 h2 _ _ hP hS ls (lv_sub hl [1, 2, 0] rfl) (by omega) (by omega) (i43_2) (i43_3) (i43_4) (by omega)
            · skip
              refine lv_aload_n SS.1 SS.2.1 dX5_build_54 rfl (lv_at hl 0 rfl) ?_
              refine j_get SS hG hP 66 (v := .ref (q (9 + 5 * 9))) (C := RX5) (T := TX5) (N := 9) rfl rfl inX5 0 (by decide) (ref := "GridPolygons$Mesh") kw_310 rfl rfl dX5_build_55 ?_
              refine lv_iload_n SS.1 SS.2.1 dX5_build_58 rfl (lv_at hl 3 rfl) ?_
              refine j_uRi SS (As := [.int (J b)]) (rest := []) (c_X8_xP l D q (sY (sX (sV (sV (sI (sI (sI (sC u 9 n_5) 2 f2) 3 g2) 4 h2) 20 n2) 21 0) 9 f_5) 9 g_5) 9 (by omega) b (show -2147483648 ≤ b ∧ b ≤ 2147483647 from (by omega))) mu_6_x kw_885 hG hP hP (ci := 6) (q0 := (9 + 5 * 9)) rfl (cw_pts (by omega)) rfl rfl hl.1 ⟨⟨Nat.le_of_ble_eq_true rfl, Nat.le_of_ble_eq_true rfl⟩, Nat.le_of_ble_eq_true rfl, Nat.le_refl _, Nat.le_refl _⟩ rfl dX5_build_59 (fun z_59 h_59 => ?_)
              have h_59 : z_59 = rx (sY (sX (sV (sV (sI (sI (sI (sC u 9 n_5) 2 f2) 3 g2) 4 h2) 20 n2) 21 0) 9 f_5) 9 g_5) 9 b ∧ ∀ K : Int, 0 ≤ K → RB K (sY (sX (sV (sV (sI (sI (sI (sC u 9 n_5) 2 f2) 3 g2) 4 h2) 20 n2) 21 0) 9 f_5) 9 g_5) 9 → -K ≤ z_59 ∧ z_59 ≤ K := h_59
              have hb_59 := h_59.2 40 (by omega) (hR9)
              refine lv_aload_n SS.1 SS.2.1 dX5_build_62 rfl (lv_at hl 0 rfl) ?_
              refine j_get SS hG hP 66 (v := .ref (q (9 + 5 * 9))) (C := RX5) (T := TX5) (N := 9) rfl rfl inX5 0 (by decide) (ref := "GridPolygons$Mesh") kw_310 rfl rfl dX5_build_63 ?_
              refine lv_iload_n SS.1 SS.2.1 dX5_build_66 rfl (lv_at hl 2 rfl) ?_
              refine j_uRi SS (As := [.int (J a)]) (rest := [.int (J z_59)]) (c_X8_xP l D q (sY (sX (sV (sV (sI (sI (sI (sC u 9 n_5) 2 f2) 3 g2) 4 h2) 20 n2) 21 0) 9 f_5) 9 g_5) 9 (by omega) a (show -2147483648 ≤ a ∧ a ≤ 2147483647 from (by omega))) mu_6_x kw_885 hG hP hP (ci := 6) (q0 := (9 + 5 * 9)) rfl (cw_pts (by omega)) rfl rfl hl.1 ⟨⟨Nat.le_of_ble_eq_true rfl, Nat.le_of_ble_eq_true rfl⟩, Nat.le_of_ble_eq_true rfl, Nat.le_refl _, Nat.le_refl _⟩ rfl dX5_build_67 (fun z_67 h_67 => ?_)
              have h_67 : z_67 = rx (sY (sX (sV (sV (sI (sI (sI (sC u 9 n_5) 2 f2) 3 g2) 4 h2) 20 n2) 21 0) 9 f_5) 9 g_5) 9 a ∧ ∀ K : Int, 0 ≤ K → RB K (sY (sX (sV (sV (sI (sI (sI (sC u 9 n_5) 2 f2) 3 g2) 4 h2) 20 n2) 21 0) 9 f_5) 9 g_5) 9 → -K ≤ z_67 ∧ z_67 ≤ K := h_67
              have hb_67 := h_67.2 40 (by omega) (hR9)
              refine j_isub SS (x := z_59) (y := z_67) dX5_build_70 ?_
              refine lv_aload_n SS.1 SS.2.1 dX5_build_71 rfl (lv_at hl 0 rfl) ?_
              refine j_get SS hG hP 66 (v := .ref (q (9 + 5 * 9))) (C := RX5) (T := TX5) (N := 9) rfl rfl inX5 0 (by decide) (ref := "GridPolygons$Mesh") kw_310 rfl rfl dX5_build_72 ?_
              refine lv_iload_n SS.1 SS.2.1 dX5_build_75 rfl (lv_at hl 3 rfl) ?_
              refine j_uRi SS (As := [.int (J b)]) (rest := [.int (J (z_59 - z_67))]) (c_X8_yP l D q (sY (sX (sV (sV (sI (sI (sI (sC u 9 n_5) 2 f2) 3 g2) 4 h2) 20 n2) 21 0) 9 f_5) 9 g_5) 9 (by omega) b (show -2147483648 ≤ b ∧ b ≤ 2147483647 from (by omega))) mu_6_y kw_888 hG hP hP (ci := 6) (q0 := (9 + 5 * 9)) rfl (cw_pts (by omega)) rfl rfl hl.1 ⟨⟨Nat.le_of_ble_eq_true rfl, Nat.le_of_ble_eq_true rfl⟩, Nat.le_of_ble_eq_true rfl, Nat.le_refl _, Nat.le_refl _⟩ rfl dX5_build_76 (fun z_76 h_76 => ?_)
              have h_76 : z_76 = ry9 (sY (sX (sV (sV (sI (sI (sI (sC u 9 n_5) 2 f2) 3 g2) 4 h2) 20 n2) 21 0) 9 f_5) 9 g_5) 9 b ∧ ∀ K : Int, 0 ≤ K → RB K (sY (sX (sV (sV (sI (sI (sI (sC u 9 n_5) 2 f2) 3 g2) 4 h2) 20 n2) 21 0) 9 f_5) 9 g_5) 9 → -K ≤ z_76 ∧ z_76 ≤ K := h_76
              have hb_76 := h_76.2 40 (by omega) (hR9)
              refine lv_aload_n SS.1 SS.2.1 dX5_build_79 rfl (lv_at hl 0 rfl) ?_
              refine j_get SS hG hP 66 (v := .ref (q (9 + 5 * 9))) (C := RX5) (T := TX5) (N := 9) rfl rfl inX5 0 (by decide) (ref := "GridPolygons$Mesh") kw_310 rfl rfl dX5_build_80 ?_
              refine lv_iload_n SS.1 SS.2.1 dX5_build_83 rfl (lv_at hl 2 rfl) ?_
              refine j_uRi SS (As := [.int (J a)]) (rest := [.int (J z_76), .int (J (z_59 - z_67))]) (c_X8_yP l D q (sY (sX (sV (sV (sI (sI (sI (sC u 9 n_5) 2 f2) 3 g2) 4 h2) 20 n2) 21 0) 9 f_5) 9 g_5) 9 (by omega) a (show -2147483648 ≤ a ∧ a ≤ 2147483647 from (by omega))) mu_6_y kw_888 hG hP hP (ci := 6) (q0 := (9 + 5 * 9)) rfl (cw_pts (by omega)) rfl rfl hl.1 ⟨⟨Nat.le_of_ble_eq_true rfl, Nat.le_of_ble_eq_true rfl⟩, Nat.le_of_ble_eq_true rfl, Nat.le_refl _, Nat.le_refl _⟩ rfl dX5_build_84 (fun z_84 h_84 => ?_)
              have h_84 : z_84 = ry9 (sY (sX (sV (sV (sI (sI (sI (sC u 9 n_5) 2 f2) 3 g2) 4 h2) 20 n2) 21 0) 9 f_5) 9 g_5) 9 a ∧ ∀ K : Int, 0 ≤ K → RB K (sY (sX (sV (sV (sI (sI (sI (sC u 9 n_5) 2 f2) 3 g2) 4 h2) 20 n2) 21 0) 9 f_5) 9 g_5) 9 → -K ≤ z_84 ∧ z_84 ≤ K := h_84
              have hb_84 := h_84.2 40 (by omega) (hR9)
              refine j_isub SS (x := z_76) (y := z_84) dX5_build_87 ?_
              refine j_nRi SS (As := [.int (J (z_59 - z_67)), .int (J (z_76 - z_84))]) (rest := []) (c_X11_gcd l D  (z_59 - z_67) (z_76 - z_84) (show -100000 ≤ (z_59 - z_67) ∧ (z_59 - z_67) ≤ 100000 from (by omega)) (show -100000 ≤ (z_76 - z_84) ∧ (z_76 - z_84) ≤ 100000 from (by omega))) mf_X11_gcd hG.2.2.2.2 hG trivial rfl hl.1 ⟨⟨Nat.le_of_ble_eq_true rfl, Nat.le_of_ble_eq_true rfl⟩, Nat.le_of_ble_eq_true rfl, Nat.le_refl _, Nat.le_refl _⟩ rfl dX5_build_88 (fun z_88 h_88 => ?_)
              have h_88 : z_88 = (Int.gcd (z_59 - z_67) (z_76 - z_84) : Int) := h_88
              have gb := gcd_b (a := z_59 - z_67) (b := z_76 - z_84) (K := 80) (by omega) (by omega)
              rw [← h_88] at gb
              refine j_iconst SS dX5_build_91 ?_
              refine j_icmp_ne SS (tgt := 101) (x := z_88) (y := 1) dX5_build_92 (by decide) (by omega) (by decide) (fun c_92 => ?_) (fun c_92 => ?_)
              · skip
                refine lv_iinc (v := J (b + 1)) (lv' := [(3, .int (J (b + 1))), (0, .ref (q 66)), (1, .ref (q (9 + 5 * r))), (2, .int (J a))]) SS.1 SS.2.1 dX5_build_101 hl (k := 3) rfl (J_add _ _) (by decide) rfl (fun ls hl => ?_)
                refine lv_goto (tgt := 43) SS.1 SS.2.1 dX5_build_104 (by decide) ?_
                exact ih_43 (b + 1) n2 f2 g2 h2 _ _ hP hS ls (lv_sub hl [1, 2, 3, 0] rfl) (by omega) (by omega) (by first | exact i43_2 | exact h_98.2.1) (by first | exact i43_3 | exact h_98.2.2.1) (by first | exact i43_4 | exact h_98.2.2.2) (by omega)
              · skip
                refine lv_aload_n SS.1 SS.2.1 dX5_build_95 rfl (lv_at hl 0 rfl) ?_
                refine lv_iload_n SS.1 SS.2.1 dX5_build_96 rfl (lv_at hl 2 rfl) ?_
                refine lv_iload_n SS.1 SS.2.1 dX5_build_97 rfl (lv_at hl 3 rfl) ?_
                refine j_vWv SS (As := [.int (J a), .int (J b)]) (rest := []) (c_X5_appendSegment l D q (sY (sX (sV (sV (sI (sI (sI (sC u 9 n_5) 2 f2) 3 g2) 4 h2) 20 n2) 21 0) 9 f_5) 9 g_5) A (cW_D hD)  a b (show 0 ≤ a ∧ a ≤ 12 from (by omega)) (show 0 ≤ b ∧ b ≤ 12 from (by omega)) (show 0 ≤ n2 ∧ n2 ≤ 63 from (by omega)) (show ∀ k : Nat, 0 ≤ f2 k ∧ f2 k ≤ 12 from (i43_2)) (show ∀ k : Nat, 0 ≤ g2 k ∧ g2 k ≤ 12 from (i43_3)) (show ∀ k : Nat, -1 ≤ h2 k ∧ h2 k ≤ 63 from (i43_4))) mf_X5_appendSegment kw_892 hG hP hP (ci := 5) (q0 := 66) rfl rfl rfl hS (fun _ h => h) rfl hl.1 ⟨⟨Nat.le_of_ble_eq_true rfl, Nat.le_of_ble_eq_true rfl⟩, Nat.le_of_ble_eq_true rfl, Nat.le_refl _, Nat.le_refl _⟩ rfl dX5_build_98 (fun u98 H locs h_98 hP _ hS => ?_)
                obtain ⟨n_98, f_98, g_98, nb_98, rfl, h_98⟩ := h_98
                have hP : va_P D.1 j_cl (cW D q (sY (sX (sV (sV (sI (sI (sI (sC u 9 n_5) 2 f_98) 3 g_98) 4 nb_98) 20 n_98) 21 0) 9 f_5) 9 g_5)) H := hP
                have h_98 : (0 ≤ n_98 ∧ n_98 ≤ 63) ∧ (∀ k : Nat, 0 ≤ f_98 k ∧ f_98 k ≤ 12) ∧ (∀ k : Nat, 0 ≤ g_98 k ∧ g_98 k ≤ 12) ∧ (∀ k : Nat, -1 ≤ nb_98 k ∧ nb_98 k ≤ 63) := h_98
                refine lv_iinc (v := J (b + 1)) (lv' := [(3, .int (J (b + 1))), (0, .ref (q 66)), (1, .ref (q (9 + 5 * r))), (2, .int (J a))]) SS.1 SS.2.1 dX5_build_101 hl (k := 3) rfl (J_add _ _) (by decide) rfl (fun ls hl => ?_)
                refine lv_goto (tgt := 43) SS.1 SS.2.1 dX5_build_104 (by decide) ?_
                exact ih_43 (b + 1) n_98 f_98 g_98 nb_98 _ _ hP hS ls (lv_sub hl [1, 2, 3, 0] rfl) (by omega) (by omega) (by first | exact i43_2 | exact h_98.2.1) (by first | exact i43_3 | exact h_98.2.2.1) (by first | exact i43_4 | exact h_98.2.2.2) (by omega)
        exact L_43 (((13 : Int) - (a + 1)).toNat + 1) (a + 1) n1 f1 g1 h1 _ _ hP hS ls (lv_sub hl [1, 2, 3, 0] rfl) (by omega) (by omega) (i28_2) (i28_3) (i28_4) (Nat.lt_succ_self _)
  have hP : va_P D.1 j_cl (cW D q (sY (sX (sV (sV (sI (sI (sC u 9 n_5) 2 (u.2.1 2)) 4 (jf (u.2.1 4) (-1) 144)) 20 0) 21 0) 9 f_5) 9 g_5)) H := Eq.mpr (congrArg (fun s => va_P D.1 j_cl (cW D q (sY (sX (sV (sV (sI s 4 (jf (u.2.1 4) (-1) 144)) 20 0) 21 0) 9 f_5) 9 g_5)) H) (sI_at (u := (sC u 9 n_5)) (r := 2) (x := (u.2.1 2)) rfl)) hP
  have hP : va_P D.1 j_cl (cW D q (sY (sX (sV (sV (sI (sI (sI (sC u 9 n_5) 2 (u.2.1 2)) 3 (u.2.1 3)) 4 (jf (u.2.1 4) (-1) 144)) 20 0) 21 0) 9 f_5) 9 g_5)) H := Eq.mpr (congrArg (fun s => va_P D.1 j_cl (cW D q (sY (sX (sV (sV (sI s 4 (jf (u.2.1 4) (-1) 144)) 20 0) 21 0) 9 f_5) 9 g_5)) H) (sI_at (u := (sI (sC u 9 n_5) 2 (u.2.1 2))) (r := 3) (x := (u.2.1 3)) rfl)) hP
  exact L_28 (((12 : Int) - (0 : Int)).toNat + 1) 0 0 (u.2.1 2) (u.2.1 3) (jf (u.2.1 4) (-1) 144) _ _ hP hS ls (lv_sub hl [1, 2, 0] rfl) (by omega) (by omega) (p2) (p3) (hN23) (Nat.lt_succ_self _)
