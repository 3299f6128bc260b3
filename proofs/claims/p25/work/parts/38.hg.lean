
theorem RB_nc {K : Int} {u : CS} {r k : Nat} {n : Int} (h : r ≠ k) (q : RB K u r) : RB K (sC u k n) r := by
  have e1 : (sC u k n).1.2.2.1 r = u.1.2.2.1 r := if_neg h
  unfold RB; rw [e1]; exact q
theorem RB_ne {K : Int} {u : CS} {r k : Nat} {n : Int} {f g : Nat → Int} (h : r ≠ k) (q : RB K u r) : RB K (sY (sX (sC u k n) k f) k g) r := by
  have e1 : (sY (sX (sC u k n) k f) k g).1.2.2.1 r = u.1.2.2.1 r := if_neg h
  have e2 : (sY (sX (sC u k n) k f) k g).1.1 r = u.1.1 r := if_neg h
  have e3 : (sY (sX (sC u k n) k f) k g).1.2.1 r = u.1.2.1 r := if_neg h
  unfold RB; rw [e1, e2, e3]; exact q

set_option maxHeartbeats 4000000 in
set_option maxRecDepth 100000 in
theorem c_X6_fill_9 (l : Launch) (D : JD) (q : Nat → Nat) (u : CS) (A : Nat → Prop) (hD : va_D A (cW D q u)) (r : Nat) (hr : r ≤ 8) (p0 : RB 40 u r) (p1 : RB 40 u 9) : Met l yX6_fill (jw yX6_fill cX6_fill 5 none) (jr 3 68) (jP [.ref (q (9 + 5 * 9)), .ref (q (9 + 5 * r))] D (fun H => va_P D.1 j_cl (cW D q u) H)) (jWv (fun u' => ∃ n : Int, ∃ f : Nat → Int, ∃ g : Nat → Int, u' = (sY (sX (sC u 9 n) 9 f) 9 g) ∧ ((0 ≤ n ∧ n ≤ 12) ∧ RV 40 f g)) (fun u' H => va_P D.1 j_cl (cW D q u') H) A) 0 0 A := by
  refine Met.ofW (cc := cX6_fill) (maxL := 5) (ret := none) (by decide) rfl ?_
  intro pr en st mi args below meth co s₁ B hml hv
  obtain ⟨rfl, hG, hP⟩ := hv
  have hr := B.returns
  have hlk := B.notSynchronized
  have SS : jS pr mi co cX6_fill 5 st _ RX6 := ⟨B.exec, B.bytes, hml, findClass_of_methodNamed B.named, fun w hw => atoms_spec (ws := (jw yX6_fill cX6_fill 5 none)) B.pre w (List.mem_cons_of_mem _ hw)⟩
  have hl := lv_entry ([.ref (q (9 + 5 * 9)), .ref (q (9 + 5 * r))]) (n := 5) (Nat.le_of_ble_eq_true rfl)
  rw [lg_entry_eq]
  generalize (lg_sl ([.ref (q (9 + 5 * 9)), .ref (q (9 + 5 * r))]) ++ List.replicate (5 - (lg_sl ([.ref (q (9 + 5 * 9)), .ref (q (9 + 5 * r))])).length) Slot.unset).toArray = ls at hl ⊢
  have hl : lv_has ls 5 [(0, .ref (q (9 + 5 * 9))), (1, .ref (q (9 + 5 * r)))] := hl
  have hS : va_S A st.heap st.heap [] := va_S.rf
  have hc := p0.1
  have hrl := rl_b r
  have hrk : (rl 9 : Int) = 12 := rfl
  refine lv_aload_n SS.1 SS.2.1 dX6_fill_0 rfl (lv_at hl 0 rfl) ?_
  refine j_iconst SS dX6_fill_1 ?_
  refine j_putS SS hG hP (cW_D hD) hS (9 + 5 * 9) (v := .int (J 0)) (ty := .int) (C := RX6) (T := TX6) (N := 3) (cw_pts (by omega)) rfl inX6 tyX6 tyX6_ok nmX6 2 (by decide) (ref := "GridPolygons$Points") kw_133 kw_134 rfl (by decide +kernel) rfl rfl (Nat.le_of_ble_eq_true rfl) dX6_fill_2 (ws' := (cW D q (sC u 9 0))) (cs_pts (by omega)) (fun H locs hP hS => ?_)
  refine lv_aload_n SS.1 SS.2.1 dX6_fill_5 rfl (lv_at hl 1 rfl) ?_
  refine j_vRi SS (As := []) (rest := []) (c_X7_leftmost l D q (sC u 9 0) r (by omega) (40 : Int)  (show 0 ≤ (40 : Int) ∧ (40 : Int) ≤ 80 from (by omega)) (show RB (40 : Int) (sC u 9 0) r from (by first | exact p0 | exact RB_nc (by omega) p0 | exact RB_ne (by omega) p0))) mf_X7_leftmost kw_877 hG hP hP (ci := 7) (q0 := (9 + 5 * r)) rfl (cw_ring (by omega)) rfl rfl hl.1 ⟨⟨Nat.le_of_ble_eq_true rfl, Nat.le_of_ble_eq_true rfl⟩, Nat.le_of_ble_eq_true rfl, Nat.le_refl _, Nat.le_refl _⟩ rfl dX6_fill_6 (fun z_6 h_6 => ?_)
  have h_6 : z_6 = rx (sC u 9 0) r 0 ∧ -(40 : Int) ≤ z_6 ∧ z_6 ≤ (40 : Int) := h_6
  refine lv_istore_n (lv' := [(2, .int (J z_6)), (0, .ref (q (9 + 5 * 9))), (1, .ref (q (9 + 5 * r)))]) SS.1 SS.2.1 dX6_fill_9 rfl hl (by decide) rfl (fun ls hl => ?_)
  have L_10 : ∀ (nn : Nat) (x : Int) (n1 : Int) (f1 : Nat → Int) (g1 : Nat → Int) (H : Heap) (locs : List Loc) (hP : va_P D.1 j_cl (cW D q (sY (sX (sC u 9 n1) 9 f1) 9 g1)) H) (hS : va_S A st.heap H locs) (ls : Array Slot) (hl : lv_has ls 5 [(0, .ref (q (9 + 5 * 9))), (1, .ref (q (9 + 5 * r))), (2, .int (J x))]) (i10_0 : -40 ≤ x ∧ x ≤ 41) (i10_1 : 0 ≤ n1 ∧ n1 ≤ 12) (i10_2 : RV 40 f1 g1), ((41 : Int) - x).toNat < nn → W pr l en (headSpec (jw yX6_fill cX6_fill 5 none) (jr 3 68)).room st mi (([.ref (q (9 + 5 * 9)), .ref (q (9 + 5 * r))] : List Value).toArray) below meth co H locs 0 0 (MQ below (jWv (fun u' => ∃ n : Int, ∃ f : Nat → Int, ∃ g : Nat → Int, u' = (sY (sX (sC u 9 n) 9 f) 9 g) ∧ ((0 ≤ n ∧ n ≤ 12) ∧ RV 40 f g)) (fun u' H => va_P D.1 j_cl (cW D q u') H) A) (([.ref (q (9 + 5 * 9)), .ref (q (9 + 5 * r))] : List Value).toArray) st 0 0 A) (F0 mi 10 ls []) := by
    intro nn
    induction nn with
    | zero => intros; omega
    | succ nn ih_10 =>
      intro x n1 f1 g1 H locs hP hS ls hl i10_0 i10_1 i10_2 hm
      refine lv_iload_n SS.1 SS.2.1 dX6_fill_10 rfl (lv_at hl 2 rfl) ?_
      refine lv_aload_n SS.1 SS.2.1 dX6_fill_11 rfl (lv_at hl 1 rfl) ?_
      refine j_vRi SS (As := []) (rest := [.int (J x)]) (c_X7_rightmost l D q (sY (sX (sC u 9 n1) 9 f1) 9 g1) r (by omega) (40 : Int)  (show 0 ≤ (40 : Int) ∧ (40 : Int) ≤ 80 from (by omega)) (show RB (40 : Int) (sY (sX (sC u 9 n1) 9 f1) 9 g1) r from (by first | exact p0 | exact RB_nc (by omega) p0 | exact RB_ne (by omega) p0))) mf_X7_rightmost kw_878 hG hP hP (ci := 7) (q0 := (9 + 5 * r)) rfl (cw_ring (by omega)) rfl rfl hl.1 ⟨⟨Nat.le_of_ble_eq_true rfl, Nat.le_of_ble_eq_true rfl⟩, Nat.le_of_ble_eq_true rfl, Nat.le_refl _, Nat.le_refl _⟩ rfl dX6_fill_12 (fun z_12 h_12 => ?_)
      have h_12 : -(40 : Int) ≤ z_12 ∧ z_12 ≤ (40 : Int) := h_12
      refine j_icmp_gt SS (tgt := 56) (x := x) (y := z_12) dX6_fill_15 (by decide) (by omega) (by omega) (fun c_15 => ?_) (fun c_15 => ?_)
      · skip
        exact W.vret SS.1 SS.2.1 hr (fun t0 ht hW => ⟨⟨(sY (sX (sC u 9 n1) 9 f1) 9 g1), rfl, (⟨n1, f1, g1, rfl, ⟨by omega, i10_2⟩⟩), by show va_P D.1 j_cl (cW D q (sY (sX (sC u 9 n1) 9 f1) 9 g1)) t0.heap; rw [ht]; first | exact hP | (simp only [sC_id, sX_id, sY_id, sH_id, sT_id, sV_id]; exact hP)⟩, hS.F ht⟩) hS.2.2 dX6_fill_56 hlk
      · skip
        refine lv_aload_n SS.1 SS.2.1 dX6_fill_18 rfl (lv_at hl 1 rfl) ?_
        refine lv_iload_n SS.1 SS.2.1 dX6_fill_19 rfl (lv_at hl 2 rfl) ?_
        refine j_vRi SS (As := [.int (J x)]) (rest := []) (c_X7_highestAt l D q (sY (sX (sC u 9 n1) 9 f1) 9 g1) r (by omega) (40 : Int) x (show 0 ≤ (40 : Int) ∧ (40 : Int) ≤ 80 from (by omega)) (show RB (40 : Int) (sY (sX (sC u 9 n1) 9 f1) 9 g1) r from (by first | exact p0 | exact RB_nc (by omega) p0 | exact RB_ne (by omega) p0)) (show -200 ≤ x ∧ x ≤ 200 from (by omega))) mf_X7_highestAt kw_879 hG hP hP (ci := 7) (q0 := (9 + 5 * r)) rfl (cw_ring (by omega)) rfl rfl hl.1 ⟨⟨Nat.le_of_ble_eq_true rfl, Nat.le_of_ble_eq_true rfl⟩, Nat.le_of_ble_eq_true rfl, Nat.le_refl _, Nat.le_refl _⟩ rfl dX6_fill_20 (fun z_20 h_20 => ?_)
        have h_20 : -60000 ≤ z_20 ∧ z_20 ≤ (40 : Int) := h_20
        refine lv_istore_n (lv' := [(3, .int (J z_20)), (0, .ref (q (9 + 5 * 9))), (1, .ref (q (9 + 5 * r))), (2, .int (J x))]) SS.1 SS.2.1 dX6_fill_23 rfl hl (by decide) rfl (fun ls hl => ?_)
        refine lv_aload_n SS.1 SS.2.1 dX6_fill_24 rfl (lv_at hl 2 rfl) ?_
        refine lv_iload_n SS.1 SS.2.1 dX6_fill_25 rfl (lv_at hl 3 rfl) ?_
        refine j_vRi SS (As := [.int (J x)]) (rest := []) (c_X7_lowestAt l D q (sY (sX (sC u 9 n1) 9 f1) 9 g1) r (by omega) (40 : Int) x (show 0 ≤ (40 : Int) ∧ (40 : Int) ≤ 80 from (by omega)) (show RB (40 : Int) (sY (sX (sC u 9 n1) 9 f1) 9 g1) r from (by first | exact p0 | exact RB_nc (by omega) p0 | exact RB_ne (by omega) p0)) (show -200 ≤ x ∧ x ≤ 200 from (by omega))) mf_X7_lowestAt kw_880 hG hP hP (ci := 7) (q0 := (9 + 5 * r)) rfl (cw_ring (by omega)) rfl rfl hl.1 ⟨⟨Nat.le_of_ble_eq_true rfl, Nat.le_of_ble_eq_true rfl⟩, Nat.le_of_ble_eq_true rfl, Nat.le_refl _, Nat.le_refl _⟩ rfl dX6_fill_26 (fun z_26 h_26 => ?_)
        have h_26 : -(40 : Int) ≤ z_26 ∧ z_26 ≤ 60000 := h_26
        refine lv_istore (lv' := [(4, .int (J z_26)), (3, .int (J z_20)), (0, .ref (q (9 + 5 * 9))), (1, .ref (q (9 + 5 * r))), (2, .int (J x))]) SS.1 SS.2.1 dX6_fill_29 hl (by decide) rfl (fun ls hl => ?_)
        have L_31 : ∀ (nn : Nat) (y : Int) (n2 : Int) (f2 : Nat → Int) (g2 : Nat → Int) (H : Heap) (locs : List Loc) (hP : va_P D.1 j_cl (cW D q (sY (sX (sC u 9 n2) 9 f2) 9 g2)) H) (hS : va_S A st.heap H locs) (ls : Array Slot) (hl : lv_has ls 5 [(0, .ref (q (9 + 5 * 9))), (1, .ref (q (9 + 5 * r))), (2, .int (J x)), (3, .int (J z_20)), (4, .int (J y))]) (i31_0 : -40 ≤ y ∧ y ≤ 60000) (i31_1 : 0 ≤ n2 ∧ n2 ≤ 12) (i31_2 : RV 40 f2 g2), ((41 : Int) - y).toNat < nn → W pr l en (headSpec (jw yX6_fill cX6_fill 5 none) (jr 3 68)).room st mi (([.ref (q (9 + 5 * 9)), .ref (q (9 + 5 * r))] : List Value).toArray) below meth co H locs 0 0 (MQ below (jWv (fun u' => ∃ n : Int, ∃ f : Nat → Int, ∃ g : Nat → Int, u' = (sY (sX (sC u 9 n) 9 f) 9 g) ∧ ((0 ≤ n ∧ n ≤ 12) ∧ RV 40 f g)) (fun u' H => va_P D.1 j_cl (cW D q u') H) A) (([.ref (q (9 + 5 * 9)), .ref (q (9 + 5 * r))] : List Value).toArray) st 0 0 A) (F0 mi 31 ls []) := by
          intro nn
          induction nn with
          | zero => intros; omega
          | succ nn ih_31 =>
            intro y n2 f2 g2 H locs hP hS ls hl i31_0 i31_1 i31_2 hm
            refine lv_iload SS.1 SS.2.1 dX6_fill_31 (lv_at hl 4 rfl) ?_
            refine lv_iload_n SS.1 SS.2.1 dX6_fill_33 rfl (lv_at hl 3 rfl) ?_
            refine j_icmp_gt SS (tgt := 50) (x := y) (y := z_20) dX6_fill_34 (by decide) (by omega) (by omega) (fun c_34 => ?_) (fun c_34 => ?_)
            · skip
              refine lv_iinc (v := J (x + 1)) (lv' := [(2, .int (J (x + 1))), (0, .ref (q (9 + 5 * 9))), (1, .ref (q (9 + 5 * r))), (3, .int (J z_20)), (4, .int (J y))]) SS.1 SS.2.1 dX6_fill_50 hl (k := 2) rfl (J_add _ _) (by decide) rfl (fun ls hl => ?_)
              refine lv_goto (tgt := 10) SS.1 SS.2.1 dX6_fill_53 (by decide) ?_
              exact ih_10 (x + 1) n2 f2 g2 _ _ hP hS ls (lv_sub hl [1, 2, 0] rfl) (by omega) (by omega) (i31_2) (by omega)
            · skip
              refine lv_aload_n SS.1 SS.2.1 dX6_fill_37 rfl (lv_at hl 0 rfl) ?_
              refine lv_iload_n SS.1 SS.2.1 dX6_fill_38 rfl (lv_at hl 2 rfl) ?_
              refine lv_iload SS.1 SS.2.1 dX6_fill_39 (lv_at hl 4 rfl) ?_
              refine j_uWv SS (As := [.int (J x), .int (J y)]) (rest := []) (c_X8_appendP l D q (sY (sX (sC u 9 n2) 9 f2) 9 g2) A (cW_D hD) 9 (by omega) x y (show 0 ≤ n2 ∧ n2 ≤ rl 9 from (by omega))) mu_6_append kw_881 hG hP hP (ci := 6) (q0 := (9 + 5 * 9)) rfl (cw_pts (by omega)) rfl hS (fun _ h => h) rfl hl.1 ⟨⟨Nat.le_of_ble_eq_true rfl, Nat.le_of_ble_eq_true rfl⟩, Nat.le_of_ble_eq_true rfl, Nat.le_refl _, Nat.le_refl _⟩ rfl dX6_fill_41 (fun u41 H locs h_41 hP _ hS => ?_)
              obtain ⟨f_41, g_41, n_41, rfl, h_41⟩ := h_41
              have hP : va_P D.1 j_cl (cW D q (sY (sX (sC u 9 n_41) 9 f_41) 9 g_41)) H := hP
              have h_41 : (n2 < rl 9 ∧ f_41 = upI (f2) (n2).toNat x ∧ g_41 = upI (g2) (n2).toNat y ∧ n_41 = n2 + 1) ∨ (rl 9 ≤ n2 ∧ f_41 = f2 ∧ g_41 = g2 ∧ n_41 = n2) := h_41
              refine lv_iinc (v := J (y + 1)) (lv' := [(4, .int (J (y + 1))), (0, .ref (q (9 + 5 * 9))), (1, .ref (q (9 + 5 * r))), (2, .int (J x)), (3, .int (J z_20))]) SS.1 SS.2.1 dX6_fill_44 hl (k := 4) rfl (J_add _ _) (by decide) rfl (fun ls hl => ?_)
              refine lv_goto (tgt := 31) SS.1 SS.2.1 dX6_fill_47 (by decide) ?_
              exact ih_31 (y + 1) n_41 f_41 g_41 _ _ hP hS ls (lv_sub hl [1, 2, 3, 4, 0] rfl) (by omega) ((ap_b (K := 40) (m := 12) (n0 := n2) (f := f_41) (g := g_41) (n := n_41) (x := x) (y := y) i31_2 (by omega) (by omega) (by omega) (by rw [hrk] at h_41; exact h_41)).1) ((ap_b (K := 40) (m := 12) (n0 := n2) (f := f_41) (g := g_41) (n := n_41) (x := x) (y := y) i31_2 (by omega) (by omega) (by omega) (by rw [hrk] at h_41; exact h_41)).2) (by omega)
        exact L_31 (((41 : Int) - z_26).toNat + 1) z_26 n1 f1 g1 _ _ hP hS ls (lv_sub hl [2, 3, 4, 1, 0] rfl) (by omega) (by omega) (i10_2) (Nat.lt_succ_self _)
  exact L_10 (((41 : Int) - z_6).toNat + 1) z_6 0 (u.1.1 9) (u.1.2.1 9) _ _ hP hS ls (lv_sub hl [1, 2, 0] rfl) (by omega) (by omega) (p1.2) (Nat.lt_succ_self _)

set_option maxHeartbeats 4000000 in
set_option maxRecDepth 100000 in
theorem c_X6_turn (l : Launch) (D : JD) (q : Nat → Nat) (u : CS) (i : Int) (j : Int) (k : Int) (p0 : RB 40 u 9) (p1 : -2147483648 ≤ i ∧ i ≤ 2147483647) (p2 : -2147483648 ≤ j ∧ j ≤ 2147483647) (p3 : -2147483648 ≤ k ∧ k ≤ 2147483647) : Met l yX6_turn (jw yX6_turn cX6_turn 4 (some .int)) (jr 1 21) (jP [.ref (q (9 + 5 * 9)), .int (J i), .int (J j), .int (J k)] D (fun H => va_P D.1 j_cl (cW D q u) H)) (jRi (fun z => -12800 ≤ z ∧ z ≤ 12800)) 0 0 (fun _ => False) := by
  refine Met.ofW (cc := cX6_turn) (maxL := 4) (ret := (some .int)) (by decide) rfl ?_
  intro pr en st mi args below meth co s₁ B hml hv
  obtain ⟨rfl, hG, hP⟩ := hv
  have hr := B.returns
  have hlk := B.notSynchronized
  have SS : jS pr mi co cX6_turn 4 st _ RX6 := ⟨B.exec, B.bytes, hml, findClass_of_methodNamed B.named, fun w hw => atoms_spec (ws := (jw yX6_turn cX6_turn 4 (some .int))) B.pre w (List.mem_cons_of_mem _ hw)⟩
  have hl := lv_entry ([.ref (q (9 + 5 * 9)), .int (J i), .int (J j), .int (J k)]) (n := 4) (Nat.le_of_ble_eq_true rfl)
  rw [lg_entry_eq]
  generalize (lg_sl ([.ref (q (9 + 5 * 9)), .int (J i), .int (J j), .int (J k)]) ++ List.replicate (4 - (lg_sl ([.ref (q (9 + 5 * 9)), .int (J i), .int (J j), .int (J k)])).length) Slot.unset).toArray = ls at hl ⊢
  have hl : lv_has ls 4 [(0, .ref (q (9 + 5 * 9))), (1, .int (J i)), (2, .int (J j)), (3, .int (J k))] := hl
  refine lv_aload_n SS.1 SS.2.1 dX6_turn_0 rfl (lv_at hl 0 rfl) ?_
  refine lv_iload_n SS.1 SS.2.1 dX6_turn_1 rfl (lv_at hl 2 rfl) ?_
  refine j_uRi SS (As := [.int (J j)]) (rest := []) (c_X8_xP l D q u 9 (by omega) j (show -2147483648 ≤ j ∧ j ≤ 2147483647 from (p2))) mu_6_x kw_908 hG hP hP (ci := 6) (q0 := (9 + 5 * 9)) rfl (cw_pts (by omega)) rfl rfl hl.1 ⟨⟨Nat.le_of_ble_eq_true rfl, Nat.le_of_ble_eq_true rfl⟩, Nat.le_of_ble_eq_true rfl, Nat.le_refl _, Nat.le_refl _⟩ rfl dX6_turn_2 (fun z_2 h_2 => ?_)
  have h_2 : z_2 = rx u 9 j ∧ ∀ K : Int, 0 ≤ K → RB K u 9 → -K ≤ z_2 ∧ z_2 ≤ K := h_2
  have hb_2 := h_2.2 40 (by omega) (p0)
  refine lv_aload_n SS.1 SS.2.1 dX6_turn_5 rfl (lv_at hl 0 rfl) ?_
  refine lv_iload_n SS.1 SS.2.1 dX6_turn_6 rfl (lv_at hl 1 rfl) ?_
  refine j_uRi SS (As := [.int (J i)]) (rest := [.int (J z_2)]) (c_X8_xP l D q u 9 (by omega) i (show -2147483648 ≤ i ∧ i ≤ 2147483647 from (p1))) mu_6_x kw_908 hG hP hP (ci := 6) (q0 := (9 + 5 * 9)) rfl (cw_pts (by omega)) rfl rfl hl.1 ⟨⟨Nat.le_of_ble_eq_true rfl, Nat.le_of_ble_eq_true rfl⟩, Nat.le_of_ble_eq_true rfl, Nat.le_refl _, Nat.le_refl _⟩ rfl dX6_turn_7 (fun z_7 h_7 => ?_)
  have h_7 : z_7 = rx u 9 i ∧ ∀ K : Int, 0 ≤ K → RB K u 9 → -K ≤ z_7 ∧ z_7 ≤ K := h_7
  have hb_7 := h_7.2 40 (by omega) (p0)
  refine j_isub SS (x := z_2) (y := z_7) dX6_turn_10 ?_
  refine lv_aload_n SS.1 SS.2.1 dX6_turn_11 rfl (lv_at hl 0 rfl) ?_
  refine lv_iload_n SS.1 SS.2.1 dX6_turn_12 rfl (lv_at hl 3 rfl) ?_
  refine j_uRi SS (As := [.int (J k)]) (rest := [.int (J (z_2 - z_7))]) (c_X8_yP l D q u 9 (by omega) k (show -2147483648 ≤ k ∧ k ≤ 2147483647 from (p3))) mu_6_y kw_909 hG hP hP (ci := 6) (q0 := (9 + 5 * 9)) rfl (cw_pts (by omega)) rfl rfl hl.1 ⟨⟨Nat.le_of_ble_eq_true rfl, Nat.le_of_ble_eq_true rfl⟩, Nat.le_of_ble_eq_true rfl, Nat.le_refl _, Nat.le_refl _⟩ rfl dX6_turn_13 (fun z_13 h_13 => ?_)
  have h_13 : z_13 = ry9 u 9 k ∧ ∀ K : Int, 0 ≤ K → RB K u 9 → -K ≤ z_13 ∧ z_13 ≤ K := h_13
  have hb_13 := h_13.2 40 (by omega) (p0)
  refine lv_aload_n SS.1 SS.2.1 dX6_turn_16 rfl (lv_at hl 0 rfl) ?_
  refine lv_iload_n SS.1 SS.2.1 dX6_turn_17 rfl (lv_at hl 1 rfl) ?_
  refine j_uRi SS (As := [.int (J i)]) (rest := [.int (J z_13), .int (J (z_2 - z_7))]) (c_X8_yP l D q u 9 (by omega) i (show -2147483648 ≤ i ∧ i ≤ 2147483647 from (p1))) mu_6_y kw_909 hG hP hP (ci := 6) (q0 := (9 + 5 * 9)) rfl (cw_pts (by omega)) rfl rfl hl.1 ⟨⟨Nat.le_of_ble_eq_true rfl, Nat.le_of_ble_eq_true rfl⟩, Nat.le_of_ble_eq_true rfl, Nat.le_refl _, Nat.le_refl _⟩ rfl dX6_turn_18 (fun z_18 h_18 => ?_)
  have h_18 : z_18 = ry9 u 9 i ∧ ∀ K : Int, 0 ≤ K → RB K u 9 → -K ≤ z_18 ∧ z_18 ≤ K := h_18
  have hb_18 := h_18.2 40 (by omega) (p0)
  refine j_isub SS (x := z_13) (y := z_18) dX6_turn_21 ?_
  refine j_imul SS (x := (z_2 - z_7)) (y := (z_13 - z_18)) dX6_turn_22 ?_
  refine lv_aload_n SS.1 SS.2.1 dX6_turn_23 rfl (lv_at hl 0 rfl) ?_
  refine lv_iload_n SS.1 SS.2.1 dX6_turn_24 rfl (lv_at hl 2 rfl) ?_
  refine j_uRi SS (As := [.int (J j)]) (rest := [.int (J ((z_2 - z_7) * (z_13 - z_18)))]) (c_X8_yP l D q u 9 (by omega) j (show -2147483648 ≤ j ∧ j ≤ 2147483647 from (p2))) mu_6_y kw_909 hG hP hP (ci := 6) (q0 := (9 + 5 * 9)) rfl (cw_pts (by omega)) rfl rfl hl.1 ⟨⟨Nat.le_of_ble_eq_true rfl, Nat.le_of_ble_eq_true rfl⟩, Nat.le_of_ble_eq_true rfl, Nat.le_refl _, Nat.le_refl _⟩ rfl dX6_turn_25 (fun z_25 h_25 => ?_)
  have h_25 : z_25 = ry9 u 9 j ∧ ∀ K : Int, 0 ≤ K → RB K u 9 → -K ≤ z_25 ∧ z_25 ≤ K := h_25
  have hb_25 := h_25.2 40 (by omega) (p0)
  refine lv_aload_n SS.1 SS.2.1 dX6_turn_28 rfl (lv_at hl 0 rfl) ?_
  refine lv_iload_n SS.1 SS.2.1 dX6_turn_29 rfl (lv_at hl 1 rfl) ?_
  refine j_uRi SS (As := [.int (J i)]) (rest := [.int (J z_25), .int (J ((z_2 - z_7) * (z_13 - z_18)))]) (c_X8_yP l D q u 9 (by omega) i (show -2147483648 ≤ i ∧ i ≤ 2147483647 from (p1))) mu_6_y kw_909 hG hP hP (ci := 6) (q0 := (9 + 5 * 9)) rfl (cw_pts (by omega)) rfl rfl hl.1 ⟨⟨Nat.le_of_ble_eq_true rfl, Nat.le_of_ble_eq_true rfl⟩, Nat.le_of_ble_eq_true rfl, Nat.le_refl _, Nat.le_refl _⟩ rfl dX6_turn_30 (fun z_30 h_30 => ?_)
  have h_30 : z_30 = ry9 u 9 i ∧ ∀ K : Int, 0 ≤ K → RB K u 9 → -K ≤ z_30 ∧ z_30 ≤ K := h_30
  have hb_30 := h_30.2 40 (by omega) (p0)
  refine j_isub SS (x := z_25) (y := z_30) dX6_turn_33 ?_
  refine lv_aload_n SS.1 SS.2.1 dX6_turn_34 rfl (lv_at hl 0 rfl) ?_
  refine lv_iload_n SS.1 SS.2.1 dX6_turn_35 rfl (lv_at hl 3 rfl) ?_
  refine j_uRi SS (As := [.int (J k)]) (rest := [.int (J (z_25 - z_30)), .int (J ((z_2 - z_7) * (z_13 - z_18)))]) (c_X8_xP l D q u 9 (by omega) k (show -2147483648 ≤ k ∧ k ≤ 2147483647 from (p3))) mu_6_x kw_908 hG hP hP (ci := 6) (q0 := (9 + 5 * 9)) rfl (cw_pts (by omega)) rfl rfl hl.1 ⟨⟨Nat.le_of_ble_eq_true rfl, Nat.le_of_ble_eq_true rfl⟩, Nat.le_of_ble_eq_true rfl, Nat.le_refl _, Nat.le_refl _⟩ rfl dX6_turn_36 (fun z_36 h_36 => ?_)
  have h_36 : z_36 = rx u 9 k ∧ ∀ K : Int, 0 ≤ K → RB K u 9 → -K ≤ z_36 ∧ z_36 ≤ K := h_36
  have hb_36 := h_36.2 40 (by omega) (p0)
  refine lv_aload_n SS.1 SS.2.1 dX6_turn_39 rfl (lv_at hl 0 rfl) ?_
  refine lv_iload_n SS.1 SS.2.1 dX6_turn_40 rfl (lv_at hl 1 rfl) ?_
  refine j_uRi SS (As := [.int (J i)]) (rest := [.int (J z_36), .int (J (z_25 - z_30)), .int (J ((z_2 - z_7) * (z_13 - z_18)))]) (c_X8_xP l D q u 9 (by omega) i (show -2147483648 ≤ i ∧ i ≤ 2147483647 from (p1))) mu_6_x kw_908 hG hP hP (ci := 6) (q0 := (9 + 5 * 9)) rfl (cw_pts (by omega)) rfl rfl hl.1 ⟨⟨Nat.le_of_ble_eq_true rfl, Nat.le_of_ble_eq_true rfl⟩, Nat.le_of_ble_eq_true rfl, Nat.le_refl _, Nat.le_refl _⟩ rfl dX6_turn_41 (fun z_41 h_41 => ?_)
  have h_41 : z_41 = rx u 9 i ∧ ∀ K : Int, 0 ≤ K → RB K u 9 → -K ≤ z_41 ∧ z_41 ≤ K := h_41
  have hb_41 := h_41.2 40 (by omega) (p0)
  refine j_isub SS (x := z_36) (y := z_41) dX6_turn_44 ?_
  refine j_imul SS (x := (z_25 - z_30)) (y := (z_36 - z_41)) dX6_turn_45 ?_
  refine j_isub SS (x := ((z_2 - z_7) * (z_13 - z_18))) (y := ((z_25 - z_30) * (z_36 - z_41))) dX6_turn_46 ?_
  have m1 := mulb (A := 80) (B := 80) (a := z_2 - z_7) (b := z_13 - z_18) (by omega) (by omega)
  have m2 := mulb (A := 80) (B := 80) (a := z_25 - z_30) (b := z_36 - z_41) (by omega) (by omega)
  exact W.iret SS.1 SS.2.1 hr (fun t0 ht hW => ⟨_, rfl, ⟨(((z_2 - z_7) * (z_13 - z_18)) - ((z_25 - z_30) * (z_36 - z_41))), rfl, (by omega)⟩, ht⟩) (fun _ h => nomatch h) dX6_turn_47 hlk

set_option maxHeartbeats 4000000 in
set_option maxRecDepth 100000 in
theorem c_X6_find (l : Launch) (D : JD) (q : Nat → Nat) (u : CS) (x : Int) (y : Int) (p0 : RB 40 u 9) (p1 : -2147483648 ≤ x ∧ x ≤ 2147483647) (p2 : -2147483648 ≤ y ∧ y ≤ 2147483647) : Met l yX6_find (jw yX6_find cX6_find 4 (some .int)) (jr 1 21) (jP [.ref (q (9 + 5 * 9)), .int (J x), .int (J y)] D (fun H => va_P D.1 j_cl (cW D q u) H)) (jRi (fun z => -1 ≤ z ∧ z ≤ 11)) 0 0 (fun _ => False) := by
  refine Met.ofW (cc := cX6_find) (maxL := 4) (ret := (some .int)) (by decide) rfl ?_
  intro pr en st mi args below meth co s₁ B hml hv
  obtain ⟨rfl, hG, hP⟩ := hv
  have hr := B.returns
  have hlk := B.notSynchronized
  have SS : jS pr mi co cX6_find 4 st _ RX6 := ⟨B.exec, B.bytes, hml, findClass_of_methodNamed B.named, fun w hw => atoms_spec (ws := (jw yX6_find cX6_find 4 (some .int))) B.pre w (List.mem_cons_of_mem _ hw)⟩
  have hl := lv_entry ([.ref (q (9 + 5 * 9)), .int (J x), .int (J y)]) (n := 4) (Nat.le_of_ble_eq_true rfl)
  rw [lg_entry_eq]
  generalize (lg_sl ([.ref (q (9 + 5 * 9)), .int (J x), .int (J y)]) ++ List.replicate (4 - (lg_sl ([.ref (q (9 + 5 * 9)), .int (J x), .int (J y)])).length) Slot.unset).toArray = ls at hl ⊢
  have hl : lv_has ls 4 [(0, .ref (q (9 + 5 * 9))), (1, .int (J x)), (2, .int (J y))] := hl
  have hc := p0.1
  have hrk : (rl 9 : Int) = 12 := rfl
  refine j_iconst SS dX6_find_0 ?_
  refine lv_istore_n (lv' := [(3, .int (J 0)), (0, .ref (q (9 + 5 * 9))), (1, .int (J x)), (2, .int (J y))]) SS.1 SS.2.1 dX6_find_1 rfl hl (by decide) rfl (fun ls hl => ?_)
  have L_2 : ∀ (nn : Nat) (i : Int) (ls : Array Slot) (hl : lv_has ls 4 [(0, .ref (q (9 + 5 * 9))), (1, .int (J x)), (2, .int (J y)), (3, .int (J i))]) (i2_0 : 0 ≤ i ∧ i ≤ u.1.2.2.1 9), (u.1.2.2.1 9 - i).toNat < nn → W pr l en (headSpec (jw yX6_find cX6_find 4 (some .int)) (jr 1 21)).room st mi (([.ref (q (9 + 5 * 9)), .int (J x), .int (J y)] : List Value).toArray) below meth co st.heap [] 0 0 (MQ below (jRi (fun z => -1 ≤ z ∧ z ≤ 11)) (([.ref (q (9 + 5 * 9)), .int (J x), .int (J y)] : List Value).toArray) st 0 0 (fun _ => False)) (F0 mi 2 ls []) := by
    intro nn
    induction nn with
    | zero => intros; omega
    | succ nn ih_2 =>
      intro i ls hl i2_0 hm
      refine lv_iload_n SS.1 SS.2.1 dX6_find_2 rfl (lv_at hl 3 rfl) ?_
      refine lv_aload_n SS.1 SS.2.1 dX6_find_3 rfl (lv_at hl 0 rfl) ?_
      refine j_getS SS hG hP (9 + 5 * 9) (v := .int (J (u.1.2.2.1 9))) (C := RX6) (T := TX6) (N := 3) (cw_pts (by omega)) rfl inX6 2 (by decide) (ref := "GridPolygons$Points") kw_133 kw_134 rfl dX6_find_4 ?_
      refine j_icmp_ge SS (tgt := 36) (x := i) (y := (u.1.2.2.1 9)) dX6_find_7 (by decide) (by omega) (by omega) (fun c_7 => ?_) (fun c_7 => ?_)
      · skip
        refine j_iconst SS dX6_find_36 ?_
        exact W.iret SS.1 SS.2.1 hr (fun t0 ht hW => ⟨_, rfl, ⟨(-1), rfl, (by omega)⟩, ht⟩) (fun _ h => nomatch h) dX6_find_37 hlk
      · skip
        refine lv_aload_n SS.1 SS.2.1 dX6_find_10 rfl (lv_at hl 0 rfl) ?_
        refine lv_iload_n SS.1 SS.2.1 dX6_find_11 rfl (lv_at hl 3 rfl) ?_
        refine j_uRi SS (As := [.int (J i)]) (rest := []) (c_X8_xP l D q u 9 (by omega) i (show -2147483648 ≤ i ∧ i ≤ 2147483647 from (by omega))) mu_6_x kw_908 hG hP hP (ci := 6) (q0 := (9 + 5 * 9)) rfl (cw_pts (by omega)) rfl rfl hl.1 ⟨⟨Nat.le_of_ble_eq_true rfl, Nat.le_of_ble_eq_true rfl⟩, Nat.le_of_ble_eq_true rfl, Nat.le_refl _, Nat.le_refl _⟩ rfl dX6_find_12 (fun z_12 h_12 => ?_)
        have h_12 : z_12 = rx u 9 i ∧ ∀ K : Int, 0 ≤ K → RB K u 9 → -K ≤ z_12 ∧ z_12 ≤ K := h_12
        have hb_12 := h_12.2 40 (by omega) (p0)
        refine lv_iload_n SS.1 SS.2.1 dX6_find_15 rfl (lv_at hl 1 rfl) ?_
        refine j_icmp_ne SS (tgt := 30) (x := z_12) (y := x) dX6_find_16 (by decide) (by omega) (by omega) (fun c_16 => ?_) (fun c_16 => ?_)
        · skip
          refine lv_iinc (v := J (i + 1)) (lv' := [(3, .int (J (i + 1))), (0, .ref (q (9 + 5 * 9))), (1, .int (J x)), (2, .int (J y))]) SS.1 SS.2.1 dX6_find_30 hl (k := 3) rfl (J_add _ _) (by decide) rfl (fun ls hl => ?_)
          refine lv_goto (tgt := 2) SS.1 SS.2.1 dX6_find_33 (by decide) ?_
          exact ih_2 (i + 1) ls (lv_sub hl [1, 2, 3, 0] rfl) (by omega) (by omega)
        · skip
          refine lv_aload_n SS.1 SS.2.1 dX6_find_19 rfl (lv_at hl 0 rfl) ?_
          refine lv_iload_n SS.1 SS.2.1 dX6_find_20 rfl (lv_at hl 3 rfl) ?_
          refine j_uRi SS (As := [.int (J i)]) (rest := []) (c_X8_yP l D q u 9 (by omega) i (show -2147483648 ≤ i ∧ i ≤ 2147483647 from (by omega))) mu_6_y kw_909 hG hP hP (ci := 6) (q0 := (9 + 5 * 9)) rfl (cw_pts (by omega)) rfl rfl hl.1 ⟨⟨Nat.le_of_ble_eq_true rfl, Nat.le_of_ble_eq_true rfl⟩, Nat.le_of_ble_eq_true rfl, Nat.le_refl _, Nat.le_refl _⟩ rfl dX6_find_21 (fun z_21 h_21 => ?_)
          have h_21 : z_21 = ry9 u 9 i ∧ ∀ K : Int, 0 ≤ K → RB K u 9 → -K ≤ z_21 ∧ z_21 ≤ K := h_21
          have hb_21 := h_21.2 40 (by omega) (p0)
          refine lv_iload_n SS.1 SS.2.1 dX6_find_24 rfl (lv_at hl 2 rfl) ?_
          refine j_icmp_ne SS (tgt := 30) (x := z_21) (y := y) dX6_find_25 (by decide) (by omega) (by omega) (fun c_25 => ?_) (fun c_25 => ?_)
          · skip
            refine lv_iinc (v := J (i + 1)) (lv' := [(3, .int (J (i + 1))), (0, .ref (q (9 + 5 * 9))), (1, .int (J x)), (2, .int (J y))]) SS.1 SS.2.1 dX6_find_30 hl (k := 3) rfl (J_add _ _) (by decide) rfl (fun ls hl => ?_)
            refine lv_goto (tgt := 2) SS.1 SS.2.1 dX6_find_33 (by decide) ?_
            exact ih_2 (i + 1) ls (lv_sub hl [1, 2, 3, 0] rfl) (by omega) (by omega)
          · skip
            refine lv_iload_n SS.1 SS.2.1 dX6_find_28 rfl (lv_at hl 3 rfl) ?_
            exact W.iret SS.1 SS.2.1 hr (fun t0 ht hW => ⟨_, rfl, ⟨i, rfl, (by omega)⟩, ht⟩) (fun _ h => nomatch h) dX6_find_29 hlk
  exact L_2 ((u.1.2.2.1 9 - (0 : Int)).toNat + 1) 0 ls (lv_sub hl [1, 2, 3, 0] rfl) (by omega) (Nat.lt_succ_self _)


set_option maxHeartbeats 4000000 in
set_option maxRecDepth 100000 in
theorem c_X5_told (l : Launch) (D : JD) (q : Nat → Nat) (u : CS) (s : Int) (p0 : -2147483648 ≤ s ∧ s ≤ 2147483647) : Met l yX5_told (jw yX5_told cX5_told 2 (some .int)) (jr 0 0) (jP [.ref (q 66), .int (J s)] D (fun H => va_P D.1 j_cl (cW D q u) H)) (jRi (fun z => True)) 0 0 (fun _ => False) := by
  refine Met.ofW (cc := cX5_told) (maxL := 2) (ret := (some .int)) (by decide) rfl ?_
  intro pr en st mi args below meth co s₁ B hml hv
  obtain ⟨rfl, hG, hP⟩ := hv
  have hr := B.returns
  have hlk := B.notSynchronized
  have SS : jS pr mi co cX5_told 2 st _ RX5 := ⟨B.exec, B.bytes, hml, findClass_of_methodNamed B.named, fun w hw => atoms_spec (ws := (jw yX5_told cX5_told 2 (some .int))) B.pre w (List.mem_cons_of_mem _ hw)⟩
  have hl := lv_entry ([.ref (q 66), .int (J s)]) (n := 2) (Nat.le_of_ble_eq_true rfl)
  rw [lg_entry_eq]
  generalize (lg_sl ([.ref (q 66), .int (J s)]) ++ List.replicate (2 - (lg_sl ([.ref (q 66), .int (J s)])).length) Slot.unset).toArray = ls at hl ⊢
  have hl : lv_has ls 2 [(0, .ref (q 66)), (1, .int (J s))] := hl
  refine lv_iload_n SS.1 SS.2.1 dX5_told_0 rfl (lv_at hl 1 rfl) ?_
  refine j_if_lt SS (tgt := 10) (x := s) dX5_told_1 (by decide) (by omega) (fun c_1 => ?_) (fun c_1 => ?_)
  · skip
    refine j_iconst SS dX5_told_10 ?_
    refine lv_goto (tgt := 30) SS.1 SS.2.1 dX5_told_11 (by decide) ?_
    exact W.iret SS.1 SS.2.1 hr (fun t0 ht hW => ⟨_, rfl, ⟨(-1), rfl, (trivial)⟩, ht⟩) (fun _ h => nomatch h) dX5_told_30 hlk
  · skip
    refine lv_iload_n SS.1 SS.2.1 dX5_told_4 rfl (lv_at hl 1 rfl) ?_
    refine j_bipush SS dX5_told_5 (by decide +kernel) ?_
    refine j_icmp_lt SS (tgt := 14) (x := s) (y := 63) dX5_told_7 (by decide) (by omega) (by decide) (fun c_7 => ?_) (fun c_7 => ?_)
    · skip
      refine j_bipush SS dX5_told_14 (by decide +kernel) ?_
      refine lv_aload_n SS.1 SS.2.1 dX5_told_16 rfl (lv_at hl 0 rfl) ?_
      refine j_get SS hG hP 66 (v := .ref (q 53)) (C := RX5) (T := TX5) (N := 9) rfl rfl inX5 1 (by decide) (ref := "GridPolygons$Mesh") kw_311 rfl rfl dX5_told_17 ?_
      refine lv_iload_n SS.1 SS.2.1 dX5_told_20 rfl (lv_at hl 1 rfl) ?_
      refine j_iald SS hG hP 53 (n := 63) (f := (u.2.1 2)) rfl (z := s) (by omega) (by omega) dX5_told_21 ?_
      refine j_imul SS (x := 16) (y := ((u.2.1 2) (s).toNat)) dX5_told_22 ?_
      refine lv_aload_n SS.1 SS.2.1 dX5_told_23 rfl (lv_at hl 0 rfl) ?_
      refine j_get SS hG hP 66 (v := .ref (q 57)) (C := RX5) (T := TX5) (N := 9) rfl rfl inX5 2 (by decide) (ref := "GridPolygons$Mesh") kw_312 rfl rfl dX5_told_24 ?_
      refine lv_iload_n SS.1 SS.2.1 dX5_told_27 rfl (lv_at hl 1 rfl) ?_
      refine j_iald SS hG hP 57 (n := 63) (f := (u.2.1 3)) rfl (z := s) (by omega) (by omega) dX5_told_28 ?_
      refine j_iadd SS (x := (16 * ((u.2.1 2) (s).toNat))) (y := ((u.2.1 3) (s).toNat)) dX5_told_29 ?_
      exact W.iret SS.1 SS.2.1 hr (fun t0 ht hW => ⟨_, rfl, ⟨((16 * ((u.2.1 2) (s).toNat)) + ((u.2.1 3) (s).toNat)), rfl, (trivial)⟩, ht⟩) (fun _ h => nomatch h) dX5_told_30 hlk
    · skip
      refine j_iconst SS dX5_told_10 ?_
      refine lv_goto (tgt := 30) SS.1 SS.2.1 dX5_told_11 (by decide) ?_
      exact W.iret SS.1 SS.2.1 hr (fun t0 ht hW => ⟨_, rfl, ⟨(-1), rfl, (trivial)⟩, ht⟩) (fun _ h => nomatch h) dX5_told_30 hlk

set_option maxHeartbeats 4000000 in
set_option maxRecDepth 100000 in
theorem c_X5_number (l : Launch) (D : JD) (q : Nat → Nat) (u : CS) (a : Int) (b : Int) (p0 : 0 ≤ a ∧ a ≤ 12) (p1 : 0 ≤ b ∧ b ≤ 12) (p2 : ∀ k : Nat, -1 ≤ u.2.1 4 k ∧ u.2.1 4 k ≤ 63) : Met l yX5_number (jw yX5_number cX5_number 4 (some .int)) (jr 1 21) (jP [.ref (q 66), .int (J a), .int (J b)] D (fun H => va_P D.1 j_cl (cW D q u) H)) (jRi (fun z => -1 ≤ z ∧ z ≤ 63)) 0 0 (fun _ => False) := by
  refine Met.ofW (cc := cX5_number) (maxL := 4) (ret := (some .int)) (by decide) rfl ?_
  intro pr en st mi args below meth co s₁ B hml hv
  obtain ⟨rfl, hG, hP⟩ := hv
  have hr := B.returns
  have hlk := B.notSynchronized
  have SS : jS pr mi co cX5_number 4 st _ RX5 := ⟨B.exec, B.bytes, hml, findClass_of_methodNamed B.named, fun w hw => atoms_spec (ws := (jw yX5_number cX5_number 4 (some .int))) B.pre w (List.mem_cons_of_mem _ hw)⟩
  have hl := lv_entry ([.ref (q 66), .int (J a), .int (J b)]) (n := 4) (Nat.le_of_ble_eq_true rfl)
  rw [lg_entry_eq]
  generalize (lg_sl ([.ref (q 66), .int (J a), .int (J b)]) ++ List.replicate (4 - (lg_sl ([.ref (q 66), .int (J a), .int (J b)])).length) Slot.unset).toArray = ls at hl ⊢
  have hl : lv_has ls 4 [(0, .ref (q 66)), (1, .int (J a)), (2, .int (J b))] := hl
  refine lv_iload_n SS.1 SS.2.1 dX5_number_0 rfl (lv_at hl 1 rfl) ?_
  refine lv_iload_n SS.1 SS.2.1 dX5_number_1 rfl (lv_at hl 2 rfl) ?_
  refine j_sRi SS (As := [.int (J a), .int (J b)]) (rest := []) (c_J9_min_7cf53 l D  a b (show -2147483648 ≤ a ∧ a ≤ 2147483647 from (by omega)) (show -2147483648 ≤ b ∧ b ≤ 2147483647 from (by omega))) mf_J9_min_7cf53 kw_926 hG trivial rfl hl.1 ⟨⟨Nat.le_of_ble_eq_true rfl, Nat.le_of_ble_eq_true rfl⟩, Nat.le_of_ble_eq_true rfl, Nat.le_refl _, Nat.le_refl _⟩ rfl dX5_number_2 (fun z_2 h_2 => ?_)
  have h_2 : (z_2 = a ∨ z_2 = b) ∧ z_2 ≤ a ∧ z_2 ≤ b := h_2
  refine j_bipush SS dX5_number_5 (by decide +kernel) ?_
  refine j_imul SS (x := z_2) (y := 12) dX5_number_7 ?_
  refine lv_iload_n SS.1 SS.2.1 dX5_number_8 rfl (lv_at hl 1 rfl) ?_
  refine lv_iload_n SS.1 SS.2.1 dX5_number_9 rfl (lv_at hl 2 rfl) ?_
  refine j_sRi SS (As := [.int (J a), .int (J b)]) (rest := [.int (J (z_2 * 12))]) (c_J9_max_7cf53 l D  a b (show -2147483648 ≤ a ∧ a ≤ 2147483647 from (by omega)) (show -2147483648 ≤ b ∧ b ≤ 2147483647 from (by omega))) mf_J9_max_7cf53 kw_927 hG trivial rfl hl.1 ⟨⟨Nat.le_of_ble_eq_true rfl, Nat.le_of_ble_eq_true rfl⟩, Nat.le_of_ble_eq_true rfl, Nat.le_refl _, Nat.le_refl _⟩ rfl dX5_number_10 (fun z_10 h_10 => ?_)
  have h_10 : (z_10 = a ∨ z_10 = b) ∧ a ≤ z_10 ∧ b ≤ z_10 := h_10
  refine j_iadd SS (x := (z_2 * 12)) (y := z_10) dX5_number_13 ?_
  refine lv_istore_n (lv' := [(3, .int (J ((z_2 * 12) + z_10))), (0, .ref (q 66)), (1, .int (J a)), (2, .int (J b))]) SS.1 SS.2.1 dX5_number_14 rfl hl (by decide) rfl (fun ls hl => ?_)
  refine lv_iload_n SS.1 SS.2.1 dX5_number_15 rfl (lv_at hl 0 rfl) ?_
  refine j_if_lt SS (tgt := 28) (x := ((z_2 * 12) + z_10)) dX5_number_16 (by decide) (by omega) (fun c_16 => ?_) (fun c_16 => ?_)
  · skip
    refine j_iconst SS dX5_number_28 ?_
    refine lv_goto (tgt := 38) SS.1 SS.2.1 dX5_number_29 (by decide) ?_
    exact W.iret SS.1 SS.2.1 hr (fun t0 ht hW => ⟨_, rfl, ⟨(-1), rfl, (by first | exact p2 _ | omega)⟩, ht⟩) (fun _ h => nomatch h) dX5_number_38 hlk
  · skip
    refine lv_iload_n SS.1 SS.2.1 dX5_number_19 rfl (lv_at hl 0 rfl) ?_
    refine lv_aload_n SS.1 SS.2.1 dX5_number_20 rfl (lv_at hl 1 rfl) ?_
    refine j_get SS hG hP 66 (v := .ref (q 58)) (C := RX5) (T := TX5) (N := 9) rfl rfl inX5 4 (by decide) (ref := "GridPolygons$Mesh") kw_314 rfl rfl dX5_number_21 ?_
    refine va_alen SS.1 SS.2.1 hG.1 hP 58 0 rfl rfl (v := J (144 : Int)) (by first | rfl | exact J_nat _) dX5_number_24 ?_
    refine j_icmp_lt SS (tgt := 32) (x := ((z_2 * 12) + z_10)) (y := 144) dX5_number_25 (by decide) (by omega) (by decide) (fun c_25 => ?_) (fun c_25 => ?_)
    · skip
      refine lv_aload_n SS.1 SS.2.1 dX5_number_32 rfl (lv_at hl 1 rfl) ?_
      refine j_get SS hG hP 66 (v := .ref (q 58)) (C := RX5) (T := TX5) (N := 9) rfl rfl inX5 4 (by decide) (ref := "GridPolygons$Mesh") kw_314 rfl rfl dX5_number_33 ?_
      refine lv_iload_n SS.1 SS.2.1 dX5_number_36 rfl (lv_at hl 0 rfl) ?_
      refine j_iald SS hG hP 58 (n := 144) (f := (u.2.1 4)) rfl (z := ((z_2 * 12) + z_10)) (by omega) (by omega) dX5_number_37 ?_
      exact W.iret SS.1 SS.2.1 hr (fun t0 ht hW => ⟨_, rfl, ⟨((u.2.1 4) (((z_2 * 12) + z_10)).toNat), rfl, (by first | exact p2 _ | omega)⟩, ht⟩) (fun _ h => nomatch h) dX5_number_38 hlk
    · skip
      refine j_iconst SS dX5_number_28 ?_
      refine lv_goto (tgt := 38) SS.1 SS.2.1 dX5_number_29 (by decide) ?_
      exact W.iret SS.1 SS.2.1 hr (fun t0 ht hW => ⟨_, rfl, ⟨(-1), rfl, (by first | exact p2 _ | omega)⟩, ht⟩) (fun _ h => nomatch h) dX5_number_38 hlk

set_option maxHeartbeats 4000000 in
set_option maxRecDepth 100000 in
theorem c_X5_cross (l : Launch) (D : JD) (q : Nat → Nat) (u : CS) (a : Int) (b : Int) (c : Int) (d : Int) (p0 : RB 40 u 9) (p1 : -2147483648 ≤ a ∧ a ≤ 2147483647) (p2 : -2147483648 ≤ b ∧ b ≤ 2147483647) (p3 : -2147483648 ≤ c ∧ c ≤ 2147483647) (p4 : -2147483648 ≤ d ∧ d ≤ 2147483647) : Met l yX5_cross (jw yX5_cross cX5_cross 5 (some .boolean)) (jr 2 44) (jP [.ref (q 66), .int (J a), .int (J b), .int (J c), .int (J d)] D (fun H => va_P D.1 j_cl (cW D q u) H)) (jRi (fun z => z = 0 ∨ z = 1)) 0 0 (fun _ => False) := by
  refine Met.ofW (cc := cX5_cross) (maxL := 5) (ret := (some .boolean)) (by decide) rfl ?_
  intro pr en st mi args below meth co s₁ B hml hv
  obtain ⟨rfl, hG, hP⟩ := hv
  have hr := B.returns
  have hlk := B.notSynchronized
  have SS : jS pr mi co cX5_cross 5 st _ RX5 := ⟨B.exec, B.bytes, hml, findClass_of_methodNamed B.named, fun w hw => atoms_spec (ws := (jw yX5_cross cX5_cross 5 (some .boolean))) B.pre w (List.mem_cons_of_mem _ hw)⟩
  have hl := lv_entry ([.ref (q 66), .int (J a), .int (J b), .int (J c), .int (J d)]) (n := 5) (Nat.le_of_ble_eq_true rfl)
  rw [lg_entry_eq]
  generalize (lg_sl ([.ref (q 66), .int (J a), .int (J b), .int (J c), .int (J d)]) ++ List.replicate (5 - (lg_sl ([.ref (q 66), .int (J a), .int (J b), .int (J c), .int (J d)])).length) Slot.unset).toArray = ls at hl ⊢
  have hl : lv_has ls 5 [(0, .ref (q 66)), (1, .int (J a)), (2, .int (J b)), (3, .int (J c)), (4, .int (J d))] := hl
  refine lv_aload_n SS.1 SS.2.1 dX5_cross_0 rfl (lv_at hl 0 rfl) ?_
  refine j_get SS hG hP 66 (v := .ref (q (9 + 5 * 9))) (C := RX5) (T := TX5) (N := 9) rfl rfl inX5 0 (by decide) (ref := "GridPolygons$Mesh") kw_310 rfl rfl dX5_cross_1 ?_
  refine lv_iload_n SS.1 SS.2.1 dX5_cross_4 rfl (lv_at hl 1 rfl) ?_
  refine lv_iload_n SS.1 SS.2.1 dX5_cross_5 rfl (lv_at hl 2 rfl) ?_
  refine lv_iload_n SS.1 SS.2.1 dX5_cross_6 rfl (lv_at hl 3 rfl) ?_
  refine j_vRi SS (As := [.int (J a), .int (J b), .int (J c)]) (rest := []) (c_X6_turn l D q u  a b c (show RB 40 u 9 from (p0)) (show -2147483648 ≤ a ∧ a ≤ 2147483647 from (by omega)) (show -2147483648 ≤ b ∧ b ≤ 2147483647 from (by omega)) (show -2147483648 ≤ c ∧ c ≤ 2147483647 from (by omega))) mf_X6_turn kw_904 hG hP hP (ci := 6) (q0 := (9 + 5 * 9)) rfl (cw_pts (by omega)) rfl rfl hl.1 ⟨⟨Nat.le_of_ble_eq_true rfl, Nat.le_of_ble_eq_true rfl⟩, Nat.le_of_ble_eq_true rfl, Nat.le_refl _, Nat.le_refl _⟩ rfl dX5_cross_7 (fun z_7 h_7 => ?_)
  have h_7 : -12800 ≤ z_7 ∧ z_7 ≤ 12800 := h_7
  refine lv_aload_n SS.1 SS.2.1 dX5_cross_10 rfl (lv_at hl 0 rfl) ?_
  refine j_get SS hG hP 66 (v := .ref (q (9 + 5 * 9))) (C := RX5) (T := TX5) (N := 9) rfl rfl inX5 0 (by decide) (ref := "GridPolygons$Mesh") kw_310 rfl rfl dX5_cross_11 ?_
  refine lv_iload_n SS.1 SS.2.1 dX5_cross_14 rfl (lv_at hl 1 rfl) ?_
  refine lv_iload_n SS.1 SS.2.1 dX5_cross_15 rfl (lv_at hl 2 rfl) ?_
  refine lv_iload SS.1 SS.2.1 dX5_cross_16 (lv_at hl 4 rfl) ?_
  refine j_vRi SS (As := [.int (J a), .int (J b), .int (J d)]) (rest := [.int (J z_7)]) (c_X6_turn l D q u  a b d (show RB 40 u 9 from (p0)) (show -2147483648 ≤ a ∧ a ≤ 2147483647 from (by omega)) (show -2147483648 ≤ b ∧ b ≤ 2147483647 from (by omega)) (show -2147483648 ≤ d ∧ d ≤ 2147483647 from (by omega))) mf_X6_turn kw_904 hG hP hP (ci := 6) (q0 := (9 + 5 * 9)) rfl (cw_pts (by omega)) rfl rfl hl.1 ⟨⟨Nat.le_of_ble_eq_true rfl, Nat.le_of_ble_eq_true rfl⟩, Nat.le_of_ble_eq_true rfl, Nat.le_refl _, Nat.le_refl _⟩ rfl dX5_cross_18 (fun z_18 h_18 => ?_)
  have h_18 : -12800 ≤ z_18 ∧ z_18 ≤ 12800 := h_18
  refine j_imul SS (x := z_7) (y := z_18) dX5_cross_21 ?_
  have m1 := mulb (A := 12800) (B := 12800) (a := z_7) (b := z_18) (by omega) (by omega)
  refine j_if_ge SS (tgt := 55) (x := (z_7 * z_18)) dX5_cross_22 (by decide) (by omega) (fun c_22 => ?_) (fun c_22 => ?_)
  · skip
    refine j_iconst SS dX5_cross_55 ?_
    exact W.zret SS.1 SS.2.1 hr (j_nz (by decide)) (fun t0 ht hW => ⟨_, rfl, ⟨0, rfl, (by omega)⟩, ht⟩) (fun _ h => nomatch h) dX5_cross_56 hlk
  · skip
    refine lv_aload_n SS.1 SS.2.1 dX5_cross_25 rfl (lv_at hl 0 rfl) ?_
    refine j_get SS hG hP 66 (v := .ref (q (9 + 5 * 9))) (C := RX5) (T := TX5) (N := 9) rfl rfl inX5 0 (by decide) (ref := "GridPolygons$Mesh") kw_310 rfl rfl dX5_cross_26 ?_
    refine lv_iload_n SS.1 SS.2.1 dX5_cross_29 rfl (lv_at hl 3 rfl) ?_
    refine lv_iload SS.1 SS.2.1 dX5_cross_30 (lv_at hl 4 rfl) ?_
    refine lv_iload_n SS.1 SS.2.1 dX5_cross_32 rfl (lv_at hl 1 rfl) ?_
    refine j_vRi SS (As := [.int (J c), .int (J d), .int (J a)]) (rest := []) (c_X6_turn l D q u  c d a (show RB 40 u 9 from (p0)) (show -2147483648 ≤ c ∧ c ≤ 2147483647 from (by omega)) (show -2147483648 ≤ d ∧ d ≤ 2147483647 from (by omega)) (show -2147483648 ≤ a ∧ a ≤ 2147483647 from (by omega))) mf_X6_turn kw_904 hG hP hP (ci := 6) (q0 := (9 + 5 * 9)) rfl (cw_pts (by omega)) rfl rfl hl.1 ⟨⟨Nat.le_of_ble_eq_true rfl, Nat.le_of_ble_eq_true rfl⟩, Nat.le_of_ble_eq_true rfl, Nat.le_refl _, Nat.le_refl _⟩ rfl dX5_cross_33 (fun z_33 h_33 => ?_)
    have h_33 : -12800 ≤ z_33 ∧ z_33 ≤ 12800 := h_33
    refine lv_aload_n SS.1 SS.2.1 dX5_cross_36 rfl (lv_at hl 0 rfl) ?_
    refine j_get SS hG hP 66 (v := .ref (q (9 + 5 * 9))) (C := RX5) (T := TX5) (N := 9) rfl rfl inX5 0 (by decide) (ref := "GridPolygons$Mesh") kw_310 rfl rfl dX5_cross_37 ?_
    refine lv_iload_n SS.1 SS.2.1 dX5_cross_40 rfl (lv_at hl 3 rfl) ?_
    refine lv_iload SS.1 SS.2.1 dX5_cross_41 (lv_at hl 4 rfl) ?_
    refine lv_iload_n SS.1 SS.2.1 dX5_cross_43 rfl (lv_at hl 2 rfl) ?_
    refine j_vRi SS (As := [.int (J c), .int (J d), .int (J b)]) (rest := [.int (J z_33)]) (c_X6_turn l D q u  c d b (show RB 40 u 9 from (p0)) (show -2147483648 ≤ c ∧ c ≤ 2147483647 from (by omega)) (show -2147483648 ≤ d ∧ d ≤ 2147483647 from (by omega)) (show -2147483648 ≤ b ∧ b ≤ 2147483647 from (by omega))) mf_X6_turn kw_904 hG hP hP (ci := 6) (q0 := (9 + 5 * 9)) rfl (cw_pts (by omega)) rfl rfl hl.1 ⟨⟨Nat.le_of_ble_eq_true rfl, Nat.le_of_ble_eq_true rfl⟩, Nat.le_of_ble_eq_true rfl, Nat.le_refl _, Nat.le_refl _⟩ rfl dX5_cross_44 (fun z_44 h_44 => ?_)
    have h_44 : -12800 ≤ z_44 ∧ z_44 ≤ 12800 := h_44
    refine j_imul SS (x := z_33) (y := z_44) dX5_cross_47 ?_
    have m2 := mulb (A := 12800) (B := 12800) (a := z_33) (b := z_44) (by omega) (by omega)
    refine j_if_ge SS (tgt := 55) (x := (z_33 * z_44)) dX5_cross_48 (by decide) (by omega) (fun c_48 => ?_) (fun c_48 => ?_)
    · skip
      refine j_iconst SS dX5_cross_55 ?_
      exact W.zret SS.1 SS.2.1 hr (j_nz (by decide)) (fun t0 ht hW => ⟨_, rfl, ⟨0, rfl, (by omega)⟩, ht⟩) (fun _ h => nomatch h) dX5_cross_56 hlk
    · skip
      refine j_iconst SS dX5_cross_51 ?_
      refine lv_goto (tgt := 56) SS.1 SS.2.1 dX5_cross_52 (by decide) ?_
      exact W.zret SS.1 SS.2.1 hr (j_nz (by decide)) (fun t0 ht hW => ⟨_, rfl, ⟨1, rfl, (by omega)⟩, ht⟩) (fun _ h => nomatch h) dX5_cross_56 hlk

set_option maxHeartbeats 4000000 in
set_option maxRecDepth 100000 in
theorem c_X5_appendSegment (l : Launch) (D : JD) (q : Nat → Nat) (u : CS) (A : Nat → Prop) (hD : va_D A (cW D q u)) (a : Int) (b : Int) (p0 : 0 ≤ a ∧ a ≤ 12) (p1 : 0 ≤ b ∧ b ≤ 12) (p2 : 0 ≤ u.2.2.2 20 ∧ u.2.2.2 20 ≤ 63) (p3 : ∀ k : Nat, 0 ≤ u.2.1 2 k ∧ u.2.1 2 k ≤ 12) (p4 : ∀ k : Nat, 0 ≤ u.2.1 3 k ∧ u.2.1 3 k ≤ 12) (p5 : ∀ k : Nat, -1 ≤ u.2.1 4 k ∧ u.2.1 4 k ≤ 63) : Met l yX5_appendSegment (jw yX5_appendSegment cX5_appendSegment 4 none) (jr 0 0) (jP [.ref (q 66), .int (J a), .int (J b)] D (fun H => va_P D.1 j_cl (cW D q u) H)) (jWv (fun u' => ∃ n : Int, ∃ f : Nat → Int, ∃ g : Nat → Int, ∃ nb : Nat → Int, u' = (sV (sI (sI (sI u 2 f) 3 g) 4 nb) 20 n) ∧ ((0 ≤ n ∧ n ≤ 63) ∧ (∀ k : Nat, 0 ≤ f k ∧ f k ≤ 12) ∧ (∀ k : Nat, 0 ≤ g k ∧ g k ≤ 12) ∧ (∀ k : Nat, -1 ≤ nb k ∧ nb k ≤ 63))) (fun u' H => va_P D.1 j_cl (cW D q u') H) A) 0 0 A := by
  refine Met.ofW (cc := cX5_appendSegment) (maxL := 4) (ret := none) (by decide) rfl ?_
  intro pr en st mi args below meth co s₁ B hml hv
  obtain ⟨rfl, hG, hP⟩ := hv
  have hr := B.returns
  have hlk := B.notSynchronized
  have SS : jS pr mi co cX5_appendSegment 4 st _ RX5 := ⟨B.exec, B.bytes, hml, findClass_of_methodNamed B.named, fun w hw => atoms_spec (ws := (jw yX5_appendSegment cX5_appendSegment 4 none)) B.pre w (List.mem_cons_of_mem _ hw)⟩
  have hl := lv_entry ([.ref (q 66), .int (J a), .int (J b)]) (n := 4) (Nat.le_of_ble_eq_true rfl)
  rw [lg_entry_eq]
  generalize (lg_sl ([.ref (q 66), .int (J a), .int (J b)]) ++ List.replicate (4 - (lg_sl ([.ref (q 66), .int (J a), .int (J b)])).length) Slot.unset).toArray = ls at hl ⊢
  have hl : lv_has ls 4 [(0, .ref (q 66)), (1, .int (J a)), (2, .int (J b))] := hl
  have hS : va_S A st.heap st.heap [] := va_S.rf
  refine lv_iload_n SS.1 SS.2.1 dX5_appendSegment_0 rfl (lv_at hl 1 rfl) ?_
  refine j_bipush SS dX5_appendSegment_1 (by decide +kernel) ?_
  refine j_imul SS (x := a) (y := 12) dX5_appendSegment_3 ?_
  refine lv_iload_n SS.1 SS.2.1 dX5_appendSegment_4 rfl (lv_at hl 2 rfl) ?_
  refine j_iadd SS (x := (a * 12)) (y := b) dX5_appendSegment_5 ?_
  refine lv_istore_n (lv' := [(3, .int (J ((a * 12) + b))), (0, .ref (q 66)), (1, .int (J a)), (2, .int (J b))]) SS.1 SS.2.1 dX5_appendSegment_6 rfl hl (by decide) rfl (fun ls hl => ?_)
  refine lv_aload_n SS.1 SS.2.1 dX5_appendSegment_7 rfl (lv_at hl 1 rfl) ?_
  refine j_get SS hG hP 66 (v := .int (J (u.2.2.2 20))) (C := RX5) (T := TX5) (N := 9) rfl rfl inX5 5 (by decide) (ref := "GridPolygons$Mesh") kw_315 rfl rfl dX5_appendSegment_8 ?_
  refine j_bipush SS dX5_appendSegment_11 (by decide +kernel) ?_
  refine j_icmp_ge SS (tgt := 69) (x := (u.2.2.2 20)) (y := 63) dX5_appendSegment_13 (by decide) (by omega) (by decide) (fun c_13 => ?_) (fun c_13 => ?_)
  · skip
    exact W.vret SS.1 SS.2.1 hr (fun t0 ht hW => ⟨⟨(sV (sI (sI (sI u 2 (u.2.1 2)) 3 (u.2.1 3)) 4 (u.2.1 4)) 20 (u.2.2.2 20)), rfl, (⟨(u.2.2.2 20), (u.2.1 2), (u.2.1 3), (u.2.1 4), rfl, by first | exact ⟨by omega, p3, p4, p5⟩ | exact ⟨by omega, UP_b p3 (by omega), UP_b p4 (by omega), UP_b p5 (by omega)⟩⟩), by show va_P D.1 j_cl (cW D q (sV (sI (sI (sI u 2 (u.2.1 2)) 3 (u.2.1 3)) 4 (u.2.1 4)) 20 (u.2.2.2 20))) t0.heap; rw [ht]; first | exact hP | (simp only [sI_id, sL_id, sC_id, sX_id, sY_id, sH_id, sT_id, sV_id]; exact hP)⟩, hS.F ht⟩) hS.2.2 dX5_appendSegment_69 hlk
  · skip
    refine lv_iload_n SS.1 SS.2.1 dX5_appendSegment_16 rfl (lv_at hl 0 rfl) ?_
    refine j_if_lt SS (tgt := 69) (x := ((a * 12) + b)) dX5_appendSegment_17 (by decide) (by omega) (fun c_17 => ?_) (fun c_17 => ?_)
    · skip
      exact W.vret SS.1 SS.2.1 hr (fun t0 ht hW => ⟨⟨(sV (sI (sI (sI u 2 (u.2.1 2)) 3 (u.2.1 3)) 4 (u.2.1 4)) 20 (u.2.2.2 20)), rfl, (⟨(u.2.2.2 20), (u.2.1 2), (u.2.1 3), (u.2.1 4), rfl, by first | exact ⟨by omega, p3, p4, p5⟩ | exact ⟨by omega, UP_b p3 (by omega), UP_b p4 (by omega), UP_b p5 (by omega)⟩⟩), by show va_P D.1 j_cl (cW D q (sV (sI (sI (sI u 2 (u.2.1 2)) 3 (u.2.1 3)) 4 (u.2.1 4)) 20 (u.2.2.2 20))) t0.heap; rw [ht]; first | exact hP | (simp only [sI_id, sL_id, sC_id, sX_id, sY_id, sH_id, sT_id, sV_id]; exact hP)⟩, hS.F ht⟩) hS.2.2 dX5_appendSegment_69 hlk
    · skip
      refine lv_iload_n SS.1 SS.2.1 dX5_appendSegment_20 rfl (lv_at hl 0 rfl) ?_
      refine lv_aload_n SS.1 SS.2.1 dX5_appendSegment_21 rfl (lv_at hl 1 rfl) ?_
      refine j_get SS hG hP 66 (v := .ref (q 58)) (C := RX5) (T := TX5) (N := 9) rfl rfl inX5 4 (by decide) (ref := "GridPolygons$Mesh") kw_314 rfl rfl dX5_appendSegment_22 ?_
      refine va_alen SS.1 SS.2.1 hG.1 hP 58 0 rfl rfl (v := J (144 : Int)) (by first | rfl | exact J_nat _) dX5_appendSegment_25 ?_
      refine j_icmp_ge SS (tgt := 69) (x := ((a * 12) + b)) (y := 144) dX5_appendSegment_26 (by decide) (by omega) (by decide) (fun c_26 => ?_) (fun c_26 => ?_)
      · skip
        exact W.vret SS.1 SS.2.1 hr (fun t0 ht hW => ⟨⟨(sV (sI (sI (sI u 2 (u.2.1 2)) 3 (u.2.1 3)) 4 (u.2.1 4)) 20 (u.2.2.2 20)), rfl, (⟨(u.2.2.2 20), (u.2.1 2), (u.2.1 3), (u.2.1 4), rfl, by first | exact ⟨by omega, p3, p4, p5⟩ | exact ⟨by omega, UP_b p3 (by omega), UP_b p4 (by omega), UP_b p5 (by omega)⟩⟩), by show va_P D.1 j_cl (cW D q (sV (sI (sI (sI u 2 (u.2.1 2)) 3 (u.2.1 3)) 4 (u.2.1 4)) 20 (u.2.2.2 20))) t0.heap; rw [ht]; first | exact hP | (simp only [sI_id, sL_id, sC_id, sX_id, sY_id, sH_id, sT_id, sV_id]; exact hP)⟩, hS.F ht⟩) hS.2.2 dX5_appendSegment_69 hlk
      · skip
        refine lv_aload_n SS.1 SS.2.1 dX5_appendSegment_29 rfl (lv_at hl 1 rfl) ?_
        refine j_get SS hG hP 66 (v := .ref (q 53)) (C := RX5) (T := TX5) (N := 9) rfl rfl inX5 1 (by decide) (ref := "GridPolygons$Mesh") kw_311 rfl rfl dX5_appendSegment_30 ?_
        refine lv_aload_n SS.1 SS.2.1 dX5_appendSegment_33 rfl (lv_at hl 1 rfl) ?_
        refine j_get SS hG hP 66 (v := .int (J (u.2.2.2 20))) (C := RX5) (T := TX5) (N := 9) rfl rfl inX5 5 (by decide) (ref := "GridPolygons$Mesh") kw_315 rfl rfl dX5_appendSegment_34 ?_
        refine lv_iload_n SS.1 SS.2.1 dX5_appendSegment_37 rfl (lv_at hl 2 rfl) ?_
        refine j_iast SS hG hP (cW_D hD) hS 53 (n := 63) (f := (u.2.1 2)) rfl (z := (u.2.2.2 20)) (v := a) (by omega) (by omega) dX5_appendSegment_38 (ws' := (cW D q (sI u 2 (upI (u.2.1 2) ((u.2.2.2 20)).toNat a)))) rfl (fun H locs hP hS => ?_)
        refine lv_aload_n SS.1 SS.2.1 dX5_appendSegment_39 rfl (lv_at hl 1 rfl) ?_
        refine j_get SS hG hP 66 (v := .ref (q 57)) (C := RX5) (T := TX5) (N := 9) rfl rfl inX5 2 (by decide) (ref := "GridPolygons$Mesh") kw_312 rfl rfl dX5_appendSegment_40 ?_
        refine lv_aload_n SS.1 SS.2.1 dX5_appendSegment_43 rfl (lv_at hl 1 rfl) ?_
        refine j_get SS hG hP 66 (v := .int (J (u.2.2.2 20))) (C := RX5) (T := TX5) (N := 9) rfl rfl inX5 5 (by decide) (ref := "GridPolygons$Mesh") kw_315 rfl rfl dX5_appendSegment_44 ?_
        refine lv_iload_n SS.1 SS.2.1 dX5_appendSegment_47 rfl (lv_at hl 3 rfl) ?_
        refine j_iast SS hG hP (cW_D hD) hS 57 (n := 63) (f := (u.2.1 3)) rfl (z := (u.2.2.2 20)) (v := b) (by omega) (by omega) dX5_appendSegment_48 (ws' := (cW D q (sI (sI u 2 (upI (u.2.1 2) ((u.2.2.2 20)).toNat a)) 3 (upI (u.2.1 3) ((u.2.2.2 20)).toNat b)))) rfl (fun H locs hP hS => ?_)
        refine lv_aload_n SS.1 SS.2.1 dX5_appendSegment_49 rfl (lv_at hl 1 rfl) ?_
        refine j_get SS hG hP 66 (v := .ref (q 58)) (C := RX5) (T := TX5) (N := 9) rfl rfl inX5 4 (by decide) (ref := "GridPolygons$Mesh") kw_314 rfl rfl dX5_appendSegment_50 ?_
        refine lv_iload_n SS.1 SS.2.1 dX5_appendSegment_53 rfl (lv_at hl 0 rfl) ?_
        refine lv_aload_n SS.1 SS.2.1 dX5_appendSegment_54 rfl (lv_at hl 1 rfl) ?_
        refine j_get SS hG hP 66 (v := .int (J (u.2.2.2 20))) (C := RX5) (T := TX5) (N := 9) rfl rfl inX5 5 (by decide) (ref := "GridPolygons$Mesh") kw_315 rfl rfl dX5_appendSegment_55 ?_
        refine j_iast SS hG hP (cW_D hD) hS 58 (n := 144) (f := (u.2.1 4)) rfl (z := ((a * 12) + b)) (v := (u.2.2.2 20)) (by omega) (by omega) dX5_appendSegment_58 (ws' := (cW D q (sI (sI (sI u 2 (upI (u.2.1 2) ((u.2.2.2 20)).toNat a)) 3 (upI (u.2.1 3) ((u.2.2.2 20)).toNat b)) 4 (upI (u.2.1 4) (((a * 12) + b)).toNat (u.2.2.2 20))))) rfl (fun H locs hP hS => ?_)
        refine lv_aload_n SS.1 SS.2.1 dX5_appendSegment_59 rfl (lv_at hl 1 rfl) ?_
        refine lv_dup SS.1 SS.2.1 dX5_appendSegment_60 rfl ?_
        refine j_get SS hG hP 66 (v := .int (J (u.2.2.2 20))) (C := RX5) (T := TX5) (N := 9) rfl rfl inX5 5 (by decide) (ref := "GridPolygons$Mesh") kw_315 rfl rfl dX5_appendSegment_61 ?_
        refine j_iconst SS dX5_appendSegment_64 ?_
        refine j_iadd SS (x := (u.2.2.2 20)) (y := 1) dX5_appendSegment_65 ?_
        refine j_put SS hG hP (cW_D hD) hS 66 (v := .int (J ((u.2.2.2 20) + 1))) (ty := .int) (C := RX5) (T := TX5) (N := 9) rfl rfl inX5 tyX5 tyX5_ok nmX5 5 (by decide) (ref := "GridPolygons$Mesh") kw_315 rfl rfl (by decide +kernel) rfl rfl (Nat.le_of_ble_eq_true rfl) dX5_appendSegment_66 (ws' := (cW D q (sV (sI (sI (sI u 2 (upI (u.2.1 2) ((u.2.2.2 20)).toNat a)) 3 (upI (u.2.1 3) ((u.2.2.2 20)).toNat b)) 4 (upI (u.2.1 4) (((a * 12) + b)).toNat (u.2.2.2 20))) 20 ((u.2.2.2 20) + 1)))) rfl (fun H locs hP hS => ?_)
        exact W.vret SS.1 SS.2.1 hr (fun t0 ht hW => ⟨⟨(sV (sI (sI (sI u 2 (upI (u.2.1 2) ((u.2.2.2 20)).toNat a)) 3 (upI (u.2.1 3) ((u.2.2.2 20)).toNat b)) 4 (upI (u.2.1 4) (((a * 12) + b)).toNat (u.2.2.2 20))) 20 ((u.2.2.2 20) + 1)), rfl, (⟨((u.2.2.2 20) + 1), (upI (u.2.1 2) ((u.2.2.2 20)).toNat a), (upI (u.2.1 3) ((u.2.2.2 20)).toNat b), (upI (u.2.1 4) (((a * 12) + b)).toNat (u.2.2.2 20)), rfl, by first | exact ⟨by omega, p3, p4, p5⟩ | exact ⟨by omega, UP_b p3 (by omega), UP_b p4 (by omega), UP_b p5 (by omega)⟩⟩), by show va_P D.1 j_cl (cW D q (sV (sI (sI (sI u 2 (upI (u.2.1 2) ((u.2.2.2 20)).toNat a)) 3 (upI (u.2.1 3) ((u.2.2.2 20)).toNat b)) 4 (upI (u.2.1 4) (((a * 12) + b)).toNat (u.2.2.2 20))) 20 ((u.2.2.2 20) + 1))) t0.heap; rw [ht]; first | exact hP | (simp only [sI_id, sL_id, sC_id, sX_id, sY_id, sH_id, sT_id, sV_id]; exact hP)⟩, hS.F ht⟩) hS.2.2 dX5_appendSegment_69 hlk

set_option maxHeartbeats 4000000 in
set_option maxRecDepth 100000 in
theorem c_X5_flipped (l : Launch) (D : JD) (q : Nat → Nat) (u : CS) (set : Int64) (flip : Int) (p0 : -2147483648 ≤ flip ∧ flip ≤ 2147483647) : Met l yX5_flipped (jw yX5_flipped cX5_flipped 4 (some .long)) (jr 0 0) (jP [.ref (q 66), .long set, .int (J flip)] D (fun H => va_P D.1 j_cl (cW D q u) H)) (vp_Sl (fun x9 => True)) 0 0 (fun _ => False) := by
  refine Met.ofW (cc := cX5_flipped) (maxL := 4) (ret := (some .long)) (by decide) rfl ?_
  intro pr en st mi args below meth co s₁ B hml hv
  obtain ⟨rfl, hG, hP⟩ := hv
  have hr := B.returns
  have hlk := B.notSynchronized
  have SS : jS pr mi co cX5_flipped 4 st _ RX5 := ⟨B.exec, B.bytes, hml, findClass_of_methodNamed B.named, fun w hw => atoms_spec (ws := (jw yX5_flipped cX5_flipped 4 (some .long))) B.pre w (List.mem_cons_of_mem _ hw)⟩
  have hl := lv_entry ([.ref (q 66), .long set, .int (J flip)]) (n := 4) (Nat.le_of_ble_eq_true rfl)
  rw [lg_entry_eq]
  generalize (lg_sl ([.ref (q 66), .long set, .int (J flip)]) ++ List.replicate (4 - (lg_sl ([.ref (q 66), .long set, .int (J flip)])).length) Slot.unset).toArray = ls at hl ⊢
  have hl : lv_has ls 4 [(0, .ref (q 66)), (1, .long set), (3, .int (J flip))] := hl
  refine lv_iload_n SS.1 SS.2.1 dX5_flipped_0 rfl (lv_at hl 2 rfl) ?_
  refine j_if_lt SS (tgt := 29) (x := flip) dX5_flipped_1 (by decide) (by omega) (fun c_1 => ?_) (fun c_1 => ?_)
  · skip
    refine lv_lconst (v := 0) SS.1 SS.2.1 dX5_flipped_29 (by decide +kernel) ?_
    exact W.lret SS.1 SS.2.1 hr (fun t0 ht hW => ⟨_, rfl, (trivial), ht⟩) (fun _ h => nomatch h) dX5_flipped_30 hlk
  · skip
    refine lv_iload_n SS.1 SS.2.1 dX5_flipped_4 rfl (lv_at hl 2 rfl) ?_
    refine j_sipush SS dX5_flipped_5 (by decide +kernel) ?_
    refine j_icmp_ge SS (tgt := 29) (x := flip) (y := 756) dX5_flipped_8 (by decide) (by omega) (by decide) (fun c_8 => ?_) (fun c_8 => ?_)
    · skip
      refine lv_lconst (v := 0) SS.1 SS.2.1 dX5_flipped_29 (by decide +kernel) ?_
      exact W.lret SS.1 SS.2.1 hr (fun t0 ht hW => ⟨_, rfl, (trivial), ht⟩) (fun _ h => nomatch h) dX5_flipped_30 hlk
    · skip
      refine lv_lload_n SS.1 SS.2.1 dX5_flipped_11 rfl (lv_at hl 1 rfl) ?_
      refine lv_aload_n SS.1 SS.2.1 dX5_flipped_12 rfl (lv_at hl 0 rfl) ?_
      refine j_get SS hG hP 66 (v := .ref (q 71)) (C := RX5) (T := TX5) (N := 9) rfl rfl inX5 6 (by decide) (ref := "GridPolygons$Mesh") kw_317 rfl rfl dX5_flipped_13 ?_
      refine lv_iload_n SS.1 SS.2.1 dX5_flipped_16 rfl (lv_at hl 2 rfl) ?_
      refine j_lald SS hG hP 71 (n := 756) (f := (u.2.2.1 4)) rfl (z := flip) (by omega) (by omega) dX5_flipped_17 ?_
      refine lv_land SS.1 SS.2.1 dX5_flipped_18 ?_
      refine lv_aload_n SS.1 SS.2.1 dX5_flipped_19 rfl (lv_at hl 0 rfl) ?_
      refine j_get SS hG hP 66 (v := .ref (q 71)) (C := RX5) (T := TX5) (N := 9) rfl rfl inX5 6 (by decide) (ref := "GridPolygons$Mesh") kw_317 rfl rfl dX5_flipped_20 ?_
      refine lv_iload_n SS.1 SS.2.1 dX5_flipped_23 rfl (lv_at hl 2 rfl) ?_
      refine j_lald SS hG hP 71 (n := 756) (f := (u.2.2.1 4)) rfl (z := flip) (by omega) (by omega) dX5_flipped_24 ?_
      refine j_lcmp SS dX5_flipped_25 (fun z_25 hz_25 => ?_)
      refine j_if_eq SS (tgt := 31) (x := z_25) dX5_flipped_26 (by decide) (by omega) (fun c_26 => ?_) (fun c_26 => ?_)
      · skip
        refine lv_lload_n SS.1 SS.2.1 dX5_flipped_31 rfl (lv_at hl 1 rfl) ?_
        refine lv_aload_n SS.1 SS.2.1 dX5_flipped_32 rfl (lv_at hl 0 rfl) ?_
        refine j_get SS hG hP 66 (v := .ref (q 72)) (C := RX5) (T := TX5) (N := 9) rfl rfl inX5 7 (by decide) (ref := "GridPolygons$Mesh") kw_318 rfl rfl dX5_flipped_33 ?_
        refine lv_iload_n SS.1 SS.2.1 dX5_flipped_36 rfl (lv_at hl 2 rfl) ?_
        refine j_lald SS hG hP 72 (n := 756) (f := (u.2.2.1 5)) rfl (z := flip) (by omega) (by omega) dX5_flipped_37 ?_
        refine lv_lxor SS.1 SS.2.1 dX5_flipped_38 ?_
        exact W.lret SS.1 SS.2.1 hr (fun t0 ht hW => ⟨_, rfl, (trivial), ht⟩) (fun _ h => nomatch h) dX5_flipped_39 hlk
      · skip
        refine lv_lconst (v := 0) SS.1 SS.2.1 dX5_flipped_29 (by decide +kernel) ?_
        exact W.lret SS.1 SS.2.1 hr (fun t0 ht hW => ⟨_, rfl, (trivial), ht⟩) (fun _ h => nomatch h) dX5_flipped_30 hlk


set_option maxHeartbeats 4000000 in
set_option maxRecDepth 100000 in
theorem c_X5_noteCrossed (l : Launch) (D : JD) (q : Nat → Nat) (u : CS) (A : Nat → Prop) (hD : va_D A (cW D q u)) (s : Int) (p0 : RB 40 u 9) (p1 : -2147483648 ≤ s ∧ s ≤ 2147483647) (p2 : ∀ k : Nat, 0 ≤ u.2.1 2 k ∧ u.2.1 2 k ≤ 12) (p3 : ∀ k : Nat, 0 ≤ u.2.1 3 k ∧ u.2.1 3 k ≤ 12) (p4 : 0 ≤ u.2.2.2 20 ∧ u.2.2.2 20 ≤ 63) : Met l yX5_noteCrossed (jw yX5_noteCrossed cX5_noteCrossed 3 none) (jr 3 68) (jP [.ref (q 66), .int (J s)] D (fun H => va_P D.1 j_cl (cW D q u) H)) (jWv (fun u' => ∃ w : Nat → Int64, u' = (sL u 3 w) ∧ (True)) (fun u' H => va_P D.1 j_cl (cW D q u') H) A) 0 0 A := by
  refine Met.ofW (cc := cX5_noteCrossed) (maxL := 3) (ret := none) (by decide) rfl ?_
  intro pr en st mi args below meth co s₁ B hml hv
  obtain ⟨rfl, hG, hP⟩ := hv
  have hr := B.returns
  have hlk := B.notSynchronized
  have SS : jS pr mi co cX5_noteCrossed 3 st _ RX5 := ⟨B.exec, B.bytes, hml, findClass_of_methodNamed B.named, fun w hw => atoms_spec (ws := (jw yX5_noteCrossed cX5_noteCrossed 3 none)) B.pre w (List.mem_cons_of_mem _ hw)⟩
  have hl := lv_entry ([.ref (q 66), .int (J s)]) (n := 3) (Nat.le_of_ble_eq_true rfl)
  rw [lg_entry_eq]
  generalize (lg_sl ([.ref (q 66), .int (J s)]) ++ List.replicate (3 - (lg_sl ([.ref (q 66), .int (J s)])).length) Slot.unset).toArray = ls at hl ⊢
  have hl : lv_has ls 3 [(0, .ref (q 66)), (1, .int (J s))] := hl
  have hS : va_S A st.heap st.heap [] := va_S.rf
  refine lv_iload_n SS.1 SS.2.1 dX5_noteCrossed_0 rfl (lv_at hl 1 rfl) ?_
  refine j_if_lt SS (tgt := 10) (x := s) dX5_noteCrossed_1 (by decide) (by omega) (fun c_1 => ?_) (fun c_1 => ?_)
  · skip
    exact W.vret SS.1 SS.2.1 hr (fun t0 ht hW => ⟨⟨(sL u 3 (u.2.2.1 3)), rfl, (⟨(u.2.2.1 3), rfl, trivial⟩), by show va_P D.1 j_cl (cW D q (sL u 3 (u.2.2.1 3))) t0.heap; rw [ht]; first | exact hP | (simp only [sC_id, sX_id, sY_id, sH_id, sT_id, sV_id]; exact hP)⟩, hS.F ht⟩) hS.2.2 dX5_noteCrossed_10 hlk
  · skip
    refine lv_iload_n SS.1 SS.2.1 dX5_noteCrossed_4 rfl (lv_at hl 1 rfl) ?_
    refine j_bipush SS dX5_noteCrossed_5 (by decide +kernel) ?_
    refine j_icmp_lt SS (tgt := 11) (x := s) (y := 63) dX5_noteCrossed_7 (by decide) (by omega) (by decide) (fun c_7 => ?_) (fun c_7 => ?_)
    · skip
      refine lv_aload_n SS.1 SS.2.1 dX5_noteCrossed_11 rfl (lv_at hl 0 rfl) ?_
      refine j_get SS hG hP 66 (v := .ref (q 70)) (C := RX5) (T := TX5) (N := 9) rfl rfl inX5 3 (by decide) (ref := "GridPolygons$Mesh") kw_313 rfl rfl dX5_noteCrossed_12 ?_
      refine lv_iload_n SS.1 SS.2.1 dX5_noteCrossed_15 rfl (lv_at hl 1 rfl) ?_
      refine lv_lconst (v := 0) SS.1 SS.2.1 dX5_noteCrossed_16 (by decide +kernel) ?_
      refine j_last SS hG hP (cW_D hD) hS 70 (n := 63) (f := (u.2.2.1 3)) rfl (z := s) (v := 0) (by omega) (by omega) dX5_noteCrossed_17 (ws' := (cW D q (sL u 3 (vp_updL (u.2.2.1 3) (s).toNat 0)))) rfl (fun H locs hP hS => ?_)
      refine j_iconst SS dX5_noteCrossed_18 ?_
      refine lv_istore_n (lv' := [(2, .int (J 0)), (0, .ref (q 66)), (1, .int (J s))]) SS.1 SS.2.1 dX5_noteCrossed_19 rfl hl (by decide) rfl (fun ls hl => ?_)
      have L_20 : ∀ (nn : Nat) (t : Int) (w1 : Nat → Int64) (H : Heap) (locs : List Loc) (hP : va_P D.1 j_cl (cW D q (sL u 3 w1)) H) (hS : va_S A st.heap H locs) (ls : Array Slot) (hl : lv_has ls 3 [(0, .ref (q 66)), (1, .int (J s)), (2, .int (J t))]) (i20_0 : 0 ≤ t ∧ t ≤ 63), ((63 : Int) - t).toNat < nn → W pr l en (headSpec (jw yX5_noteCrossed cX5_noteCrossed 3 none) (jr 3 68)).room st mi (([.ref (q 66), .int (J s)] : List Value).toArray) below meth co H locs 0 0 (MQ below (jWv (fun u' => ∃ w : Nat → Int64, u' = (sL u 3 w) ∧ (True)) (fun u' H => va_P D.1 j_cl (cW D q u') H) A) (([.ref (q 66), .int (J s)] : List Value).toArray) st 0 0 A) (F0 mi 20 ls []) := by
        intro nn
        induction nn with
        | zero => intros; omega
        | succ nn ih_20 =>
          intro t w1 H locs hP hS ls hl i20_0 hm
          refine lv_iload_n SS.1 SS.2.1 dX5_noteCrossed_20 rfl (lv_at hl 2 rfl) ?_
          refine lv_aload_n SS.1 SS.2.1 dX5_noteCrossed_21 rfl (lv_at hl 0 rfl) ?_
          refine j_get SS hG hP 66 (v := .int (J (u.2.2.2 20))) (C := RX5) (T := TX5) (N := 9) rfl rfl inX5 5 (by decide) (ref := "GridPolygons$Mesh") kw_315 rfl rfl dX5_noteCrossed_22 ?_
          refine j_icmp_ge SS (tgt := 83) (x := t) (y := (u.2.2.2 20)) dX5_noteCrossed_25 (by decide) (by omega) (by omega) (fun c_25 => ?_) (fun c_25 => ?_)
          · skip
            exact W.vret SS.1 SS.2.1 hr (fun t0 ht hW => ⟨⟨(sL u 3 w1), rfl, (⟨w1, rfl, trivial⟩), by show va_P D.1 j_cl (cW D q (sL u 3 w1)) t0.heap; rw [ht]; first | exact hP | (simp only [sC_id, sX_id, sY_id, sH_id, sT_id, sV_id]; exact hP)⟩, hS.F ht⟩) hS.2.2 dX5_noteCrossed_83 hlk
          · skip
            refine lv_iload_n SS.1 SS.2.1 dX5_noteCrossed_28 rfl (lv_at hl 2 rfl) ?_
            refine j_bipush SS dX5_noteCrossed_29 (by decide +kernel) ?_
            refine j_icmp_ge SS (tgt := 83) (x := t) (y := 63) dX5_noteCrossed_31 (by decide) (by omega) (by decide) (fun c_31 => ?_) (fun c_31 => ?_)
            · skip
              exact W.vret SS.1 SS.2.1 hr (fun t0 ht hW => ⟨⟨(sL u 3 w1), rfl, (⟨w1, rfl, trivial⟩), by show va_P D.1 j_cl (cW D q (sL u 3 w1)) t0.heap; rw [ht]; first | exact hP | (simp only [sC_id, sX_id, sY_id, sH_id, sT_id, sV_id]; exact hP)⟩, hS.F ht⟩) hS.2.2 dX5_noteCrossed_83 hlk
            · skip
              refine lv_aload_n SS.1 SS.2.1 dX5_noteCrossed_34 rfl (lv_at hl 0 rfl) ?_
              refine lv_aload_n SS.1 SS.2.1 dX5_noteCrossed_35 rfl (lv_at hl 0 rfl) ?_
              refine j_get SS hG hP 66 (v := .ref (q 53)) (C := RX5) (T := TX5) (N := 9) rfl rfl inX5 1 (by decide) (ref := "GridPolygons$Mesh") kw_311 rfl rfl dX5_noteCrossed_36 ?_
              refine lv_iload_n SS.1 SS.2.1 dX5_noteCrossed_39 rfl (lv_at hl 1 rfl) ?_
              refine j_iald SS hG hP 53 (n := 63) (f := (u.2.1 2)) rfl (z := s) (by omega) (by omega) dX5_noteCrossed_40 ?_
              refine lv_aload_n SS.1 SS.2.1 dX5_noteCrossed_41 rfl (lv_at hl 0 rfl) ?_
              refine j_get SS hG hP 66 (v := .ref (q 57)) (C := RX5) (T := TX5) (N := 9) rfl rfl inX5 2 (by decide) (ref := "GridPolygons$Mesh") kw_312 rfl rfl dX5_noteCrossed_42 ?_
              refine lv_iload_n SS.1 SS.2.1 dX5_noteCrossed_45 rfl (lv_at hl 1 rfl) ?_
              refine j_iald SS hG hP 57 (n := 63) (f := (u.2.1 3)) rfl (z := s) (by omega) (by omega) dX5_noteCrossed_46 ?_
              refine lv_aload_n SS.1 SS.2.1 dX5_noteCrossed_47 rfl (lv_at hl 0 rfl) ?_
              refine j_get SS hG hP 66 (v := .ref (q 53)) (C := RX5) (T := TX5) (N := 9) rfl rfl inX5 1 (by decide) (ref := "GridPolygons$Mesh") kw_311 rfl rfl dX5_noteCrossed_48 ?_
              refine lv_iload_n SS.1 SS.2.1 dX5_noteCrossed_51 rfl (lv_at hl 2 rfl) ?_
              refine j_iald SS hG hP 53 (n := 63) (f := (u.2.1 2)) rfl (z := t) (by omega) (by omega) dX5_noteCrossed_52 ?_
              refine lv_aload_n SS.1 SS.2.1 dX5_noteCrossed_53 rfl (lv_at hl 0 rfl) ?_
              refine j_get SS hG hP 66 (v := .ref (q 57)) (C := RX5) (T := TX5) (N := 9) rfl rfl inX5 2 (by decide) (ref := "GridPolygons$Mesh") kw_312 rfl rfl dX5_noteCrossed_54 ?_
              refine lv_iload_n SS.1 SS.2.1 dX5_noteCrossed_57 rfl (lv_at hl 2 rfl) ?_
              refine j_iald SS hG hP 57 (n := 63) (f := (u.2.1 3)) rfl (z := t) (by omega) (by omega) dX5_noteCrossed_58 ?_
              have l1 := p2 s.toNat
              have l2 := p3 s.toNat
              have l3 := p2 t.toNat
              have l4 := p3 t.toNat
              refine j_vRi SS (As := [.int (J ((u.2.1 2) (s).toNat)), .int (J ((u.2.1 3) (s).toNat)), .int (J ((u.2.1 2) (t).toNat)), .int (J ((u.2.1 3) (t).toNat))]) (rest := []) (c_X5_cross l D q (sL u 3 w1)  ((u.2.1 2) (s).toNat) ((u.2.1 3) (s).toNat) ((u.2.1 2) (t).toNat) ((u.2.1 3) (t).toNat) (show RB 40 (sL u 3 w1) 9 from (p0)) (show -2147483648 ≤ ((u.2.1 2) (s).toNat) ∧ ((u.2.1 2) (s).toNat) ≤ 2147483647 from (by omega)) (show -2147483648 ≤ ((u.2.1 3) (s).toNat) ∧ ((u.2.1 3) (s).toNat) ≤ 2147483647 from (by omega)) (show -2147483648 ≤ ((u.2.1 2) (t).toNat) ∧ ((u.2.1 2) (t).toNat) ≤ 2147483647 from (by omega)) (show -2147483648 ≤ ((u.2.1 3) (t).toNat) ∧ ((u.2.1 3) (t).toNat) ≤ 2147483647 from (by omega))) mf_X5_cross kw_900 hG hP hP (ci := 5) (q0 := 66) rfl rfl rfl rfl hl.1 ⟨⟨Nat.le_of_ble_eq_true rfl, Nat.le_of_ble_eq_true rfl⟩, Nat.le_of_ble_eq_true rfl, Nat.le_refl _, Nat.le_refl _⟩ rfl dX5_noteCrossed_59 (fun z_59 h_59 => ?_)
              have h_59 : z_59 = 0 ∨ z_59 = 1 := h_59
              refine j_if_eq SS (tgt := 77) (x := z_59) dX5_noteCrossed_62 (by decide) (by omega) (fun c_62 => ?_) (fun c_62 => ?_)
              · skip
                refine lv_iinc (v := J (t + 1)) (lv' := [(2, .int (J (t + 1))), (0, .ref (q 66)), (1, .int (J s))]) SS.1 SS.2.1 dX5_noteCrossed_77 hl (k := 2) rfl (J_add _ _) (by decide) rfl (fun ls hl => ?_)
                refine lv_goto (tgt := 20) SS.1 SS.2.1 dX5_noteCrossed_80 (by decide) ?_
                exact ih_20 (t + 1) w1 _ _ hP hS ls (lv_sub hl [1, 2, 0] rfl) (by omega) (by omega)
              · skip
                refine lv_aload_n SS.1 SS.2.1 dX5_noteCrossed_65 rfl (lv_at hl 0 rfl) ?_
                refine j_get SS hG hP 66 (v := .ref (q 70)) (C := RX5) (T := TX5) (N := 9) rfl rfl inX5 3 (by decide) (ref := "GridPolygons$Mesh") kw_313 rfl rfl dX5_noteCrossed_66 ?_
                refine lv_iload_n SS.1 SS.2.1 dX5_noteCrossed_69 rfl (lv_at hl 1 rfl) ?_
                refine lv_dup2_11 SS.1 SS.2.1 dX5_noteCrossed_70 rfl rfl ?_
                refine j_lald SS hG hP 70 (n := 63) (f := w1) rfl (z := s) (by omega) (by omega) dX5_noteCrossed_71 ?_
                refine lv_lconst (v := 1) SS.1 SS.2.1 dX5_noteCrossed_72 (by decide +kernel) ?_
                refine lv_iload_n SS.1 SS.2.1 dX5_noteCrossed_73 rfl (lv_at hl 2 rfl) ?_
                refine lv_lshl SS.1 SS.2.1 dX5_noteCrossed_74 rfl (lv_topl (fun x_74 ex_74 => ?_))
                refine lv_lor SS.1 SS.2.1 dX5_noteCrossed_75 ?_
                refine j_last SS hG hP (cW_D hD) hS 70 (n := 63) (f := w1) rfl (z := s) (v := ((w1 (s).toNat) ||| x_74)) (by omega) (by omega) dX5_noteCrossed_76 (ws' := (cW D q (sL u 3 (vp_updL w1 (s).toNat ((w1 (s).toNat) ||| x_74))))) rfl (fun H locs hP hS => ?_)
                refine lv_iinc (v := J (t + 1)) (lv' := [(2, .int (J (t + 1))), (0, .ref (q 66)), (1, .int (J s))]) SS.1 SS.2.1 dX5_noteCrossed_77 hl (k := 2) rfl (J_add _ _) (by decide) rfl (fun ls hl => ?_)
                refine lv_goto (tgt := 20) SS.1 SS.2.1 dX5_noteCrossed_80 (by decide) ?_
                exact ih_20 (t + 1) (vp_updL w1 (s).toNat ((w1 (s).toNat) ||| x_74)) _ _ hP hS ls (lv_sub hl [1, 2, 0] rfl) (by omega) (by omega)
      exact L_20 (((63 : Int) - (0 : Int)).toNat + 1) 0 (vp_updL (u.2.2.1 3) (s).toNat 0) _ _ hP hS ls (lv_sub hl [1, 2, 0] rfl) (by omega) (Nat.lt_succ_self _)
    · skip
      exact W.vret SS.1 SS.2.1 hr (fun t0 ht hW => ⟨⟨(sL u 3 (u.2.2.1 3)), rfl, (⟨(u.2.2.1 3), rfl, trivial⟩), by show va_P D.1 j_cl (cW D q (sL u 3 (u.2.2.1 3))) t0.heap; rw [ht]; first | exact hP | (simp only [sC_id, sX_id, sY_id, sH_id, sT_id, sV_id]; exact hP)⟩, hS.F ht⟩) hS.2.2 dX5_noteCrossed_10 hlk

set_option maxHeartbeats 4000000 in
set_option maxRecDepth 100000 in
theorem c_X5_noteFlip (l : Launch) (D : JD) (q : Nat → Nat) (u : CS) (A : Nat → Prop) (hD : va_D A (cW D q u)) (a : Int) (b : Int) (c : Int) (d : Int) (p0 : 0 ≤ a ∧ a ≤ 12) (p1 : 0 ≤ b ∧ b ≤ 12) (p2 : 0 ≤ c ∧ c ≤ 12) (p3 : 0 ≤ d ∧ d ≤ 12) (p4 : ∀ k : Nat, -1 ≤ u.2.1 4 k ∧ u.2.1 4 k ≤ 63) (p5 : 0 ≤ u.2.2.2 21 ∧ u.2.2.2 21 ≤ 756) : Met l yX5_noteFlip (jw yX5_noteFlip cX5_noteFlip 11 none) (jr 2 44) (jP [.ref (q 66), .int (J a), .int (J b), .int (J c), .int (J d)] D (fun H => va_P D.1 j_cl (cW D q u) H)) (jWv (fun u' => ∃ w1 : Nat → Int64, ∃ w2 : Nat → Int64, ∃ n : Int, u' = (sV (sL (sL u 4 w1) 5 w2) 21 n) ∧ (0 ≤ n ∧ n ≤ 756)) (fun u' H => va_P D.1 j_cl (cW D q u') H) A) 0 0 A := by
  refine Met.ofW (cc := cX5_noteFlip) (maxL := 11) (ret := none) (by decide) rfl ?_
  intro pr en st mi args below meth co s₁ B hml hv
  obtain ⟨rfl, hG, hP⟩ := hv
  have hr := B.returns
  have hlk := B.notSynchronized
  have SS : jS pr mi co cX5_noteFlip 11 st _ RX5 := ⟨B.exec, B.bytes, hml, findClass_of_methodNamed B.named, fun w hw => atoms_spec (ws := (jw yX5_noteFlip cX5_noteFlip 11 none)) B.pre w (List.mem_cons_of_mem _ hw)⟩
  have hl := lv_entry ([.ref (q 66), .int (J a), .int (J b), .int (J c), .int (J d)]) (n := 11) (Nat.le_of_ble_eq_true rfl)
  rw [lg_entry_eq]
  generalize (lg_sl ([.ref (q 66), .int (J a), .int (J b), .int (J c), .int (J d)]) ++ List.replicate (11 - (lg_sl ([.ref (q 66), .int (J a), .int (J b), .int (J c), .int (J d)])).length) Slot.unset).toArray = ls at hl ⊢
  have hl : lv_has ls 11 [(0, .ref (q 66)), (1, .int (J a)), (2, .int (J b)), (3, .int (J c)), (4, .int (J d))] := hl
  have hS : va_S A st.heap st.heap [] := va_S.rf
  refine lv_aload_n SS.1 SS.2.1 dX5_noteFlip_0 rfl (lv_at hl 0 rfl) ?_
  refine lv_iload_n SS.1 SS.2.1 dX5_noteFlip_1 rfl (lv_at hl 1 rfl) ?_
  refine lv_iload_n SS.1 SS.2.1 dX5_noteFlip_2 rfl (lv_at hl 2 rfl) ?_
  refine j_vRi SS (As := [.int (J a), .int (J b)]) (rest := []) (c_X5_number l D q u  a b (show 0 ≤ a ∧ a ≤ 12 from (by omega)) (show 0 ≤ b ∧ b ≤ 12 from (by omega)) (show ∀ k : Nat, -1 ≤ (u.2.1 4) k ∧ (u.2.1 4) k ≤ 63 from (p4))) mf_X5_number kw_922 hG hP hP (ci := 5) (q0 := 66) rfl rfl rfl rfl hl.1 ⟨⟨Nat.le_of_ble_eq_true rfl, Nat.le_of_ble_eq_true rfl⟩, Nat.le_of_ble_eq_true rfl, Nat.le_refl _, Nat.le_refl _⟩ rfl dX5_noteFlip_3 (fun z_3 h_3 => ?_)
  have h_3 : -1 ≤ z_3 ∧ z_3 ≤ 63 := h_3
  refine lv_istore (lv' := [(5, .int (J z_3)), (0, .ref (q 66)), (1, .int (J a)), (2, .int (J b)), (3, .int (J c)), (4, .int (J d))]) SS.1 SS.2.1 dX5_noteFlip_6 hl (by decide) rfl (fun ls hl => ?_)
  refine lv_aload_n SS.1 SS.2.1 dX5_noteFlip_8 rfl (lv_at hl 1 rfl) ?_
  refine lv_iload_n SS.1 SS.2.1 dX5_noteFlip_9 rfl (lv_at hl 4 rfl) ?_
  refine lv_iload SS.1 SS.2.1 dX5_noteFlip_10 (lv_at hl 5 rfl) ?_
  refine j_vRi SS (As := [.int (J c), .int (J d)]) (rest := []) (c_X5_number l D q u  c d (show 0 ≤ c ∧ c ≤ 12 from (by omega)) (show 0 ≤ d ∧ d ≤ 12 from (by omega)) (show ∀ k : Nat, -1 ≤ (u.2.1 4) k ∧ (u.2.1 4) k ≤ 63 from (p4))) mf_X5_number kw_922 hG hP hP (ci := 5) (q0 := 66) rfl rfl rfl rfl hl.1 ⟨⟨Nat.le_of_ble_eq_true rfl, Nat.le_of_ble_eq_true rfl⟩, Nat.le_of_ble_eq_true rfl, Nat.le_refl _, Nat.le_refl _⟩ rfl dX5_noteFlip_12 (fun z_12 h_12 => ?_)
  have h_12 : -1 ≤ z_12 ∧ z_12 ≤ 63 := h_12
  refine lv_istore (lv' := [(6, .int (J z_12)), (5, .int (J z_3)), (0, .ref (q 66)), (1, .int (J a)), (2, .int (J b)), (3, .int (J c)), (4, .int (J d))]) SS.1 SS.2.1 dX5_noteFlip_15 hl (by decide) rfl (fun ls hl => ?_)
  refine lv_aload_n SS.1 SS.2.1 dX5_noteFlip_17 rfl (lv_at hl 2 rfl) ?_
  refine lv_iload_n SS.1 SS.2.1 dX5_noteFlip_18 rfl (lv_at hl 3 rfl) ?_
  refine lv_iload_n SS.1 SS.2.1 dX5_noteFlip_19 rfl (lv_at hl 5 rfl) ?_
  refine j_vRi SS (As := [.int (J a), .int (J c)]) (rest := []) (c_X5_number l D q u  a c (show 0 ≤ a ∧ a ≤ 12 from (by omega)) (show 0 ≤ c ∧ c ≤ 12 from (by omega)) (show ∀ k : Nat, -1 ≤ (u.2.1 4) k ∧ (u.2.1 4) k ≤ 63 from (p4))) mf_X5_number kw_922 hG hP hP (ci := 5) (q0 := 66) rfl rfl rfl rfl hl.1 ⟨⟨Nat.le_of_ble_eq_true rfl, Nat.le_of_ble_eq_true rfl⟩, Nat.le_of_ble_eq_true rfl, Nat.le_refl _, Nat.le_refl _⟩ rfl dX5_noteFlip_20 (fun z_20 h_20 => ?_)
  have h_20 : -1 ≤ z_20 ∧ z_20 ≤ 63 := h_20
  refine lv_istore (lv' := [(7, .int (J z_20)), (6, .int (J z_12)), (5, .int (J z_3)), (0, .ref (q 66)), (1, .int (J a)), (2, .int (J b)), (3, .int (J c)), (4, .int (J d))]) SS.1 SS.2.1 dX5_noteFlip_23 hl (by decide) rfl (fun ls hl => ?_)
  refine lv_aload_n SS.1 SS.2.1 dX5_noteFlip_25 rfl (lv_at hl 3 rfl) ?_
  refine lv_iload_n SS.1 SS.2.1 dX5_noteFlip_26 rfl (lv_at hl 5 rfl) ?_
  refine lv_iload_n SS.1 SS.2.1 dX5_noteFlip_27 rfl (lv_at hl 6 rfl) ?_
  refine j_vRi SS (As := [.int (J b), .int (J c)]) (rest := []) (c_X5_number l D q u  b c (show 0 ≤ b ∧ b ≤ 12 from (by omega)) (show 0 ≤ c ∧ c ≤ 12 from (by omega)) (show ∀ k : Nat, -1 ≤ (u.2.1 4) k ∧ (u.2.1 4) k ≤ 63 from (p4))) mf_X5_number kw_922 hG hP hP (ci := 5) (q0 := 66) rfl rfl rfl rfl hl.1 ⟨⟨Nat.le_of_ble_eq_true rfl, Nat.le_of_ble_eq_true rfl⟩, Nat.le_of_ble_eq_true rfl, Nat.le_refl _, Nat.le_refl _⟩ rfl dX5_noteFlip_28 (fun z_28 h_28 => ?_)
  have h_28 : -1 ≤ z_28 ∧ z_28 ≤ 63 := h_28
  refine lv_istore (lv' := [(8, .int (J z_28)), (7, .int (J z_20)), (6, .int (J z_12)), (5, .int (J z_3)), (0, .ref (q 66)), (1, .int (J a)), (2, .int (J b)), (3, .int (J c)), (4, .int (J d))]) SS.1 SS.2.1 dX5_noteFlip_31 hl (by decide) rfl (fun ls hl => ?_)
  refine lv_aload_n SS.1 SS.2.1 dX5_noteFlip_33 rfl (lv_at hl 4 rfl) ?_
  refine lv_iload_n SS.1 SS.2.1 dX5_noteFlip_34 rfl (lv_at hl 5 rfl) ?_
  refine lv_iload SS.1 SS.2.1 dX5_noteFlip_35 (lv_at hl 8 rfl) ?_
  refine j_vRi SS (As := [.int (J a), .int (J d)]) (rest := []) (c_X5_number l D q u  a d (show 0 ≤ a ∧ a ≤ 12 from (by omega)) (show 0 ≤ d ∧ d ≤ 12 from (by omega)) (show ∀ k : Nat, -1 ≤ (u.2.1 4) k ∧ (u.2.1 4) k ≤ 63 from (p4))) mf_X5_number kw_922 hG hP hP (ci := 5) (q0 := 66) rfl rfl rfl rfl hl.1 ⟨⟨Nat.le_of_ble_eq_true rfl, Nat.le_of_ble_eq_true rfl⟩, Nat.le_of_ble_eq_true rfl, Nat.le_refl _, Nat.le_refl _⟩ rfl dX5_noteFlip_37 (fun z_37 h_37 => ?_)
  have h_37 : -1 ≤ z_37 ∧ z_37 ≤ 63 := h_37
  refine lv_istore (lv' := [(9, .int (J z_37)), (8, .int (J z_28)), (7, .int (J z_20)), (6, .int (J z_12)), (5, .int (J z_3)), (0, .ref (q 66)), (1, .int (J a)), (2, .int (J b)), (3, .int (J c)), (4, .int (J d))]) SS.1 SS.2.1 dX5_noteFlip_40 hl (by decide) rfl (fun ls hl => ?_)
  refine lv_aload_n SS.1 SS.2.1 dX5_noteFlip_42 rfl (lv_at hl 5 rfl) ?_
  refine lv_iload_n SS.1 SS.2.1 dX5_noteFlip_43 rfl (lv_at hl 7 rfl) ?_
  refine lv_iload SS.1 SS.2.1 dX5_noteFlip_44 (lv_at hl 9 rfl) ?_
  refine j_vRi SS (As := [.int (J b), .int (J d)]) (rest := []) (c_X5_number l D q u  b d (show 0 ≤ b ∧ b ≤ 12 from (by omega)) (show 0 ≤ d ∧ d ≤ 12 from (by omega)) (show ∀ k : Nat, -1 ≤ (u.2.1 4) k ∧ (u.2.1 4) k ≤ 63 from (p4))) mf_X5_number kw_922 hG hP hP (ci := 5) (q0 := 66) rfl rfl rfl rfl hl.1 ⟨⟨Nat.le_of_ble_eq_true rfl, Nat.le_of_ble_eq_true rfl⟩, Nat.le_of_ble_eq_true rfl, Nat.le_refl _, Nat.le_refl _⟩ rfl dX5_noteFlip_46 (fun z_46 h_46 => ?_)
  have h_46 : -1 ≤ z_46 ∧ z_46 ≤ 63 := h_46
  refine lv_istore (lv' := [(10, .int (J z_46)), (9, .int (J z_37)), (8, .int (J z_28)), (7, .int (J z_20)), (6, .int (J z_12)), (5, .int (J z_3)), (0, .ref (q 66)), (1, .int (J a)), (2, .int (J b)), (3, .int (J c)), (4, .int (J d))]) SS.1 SS.2.1 dX5_noteFlip_49 hl (by decide) rfl (fun ls hl => ?_)
  refine lv_iload SS.1 SS.2.1 dX5_noteFlip_51 (lv_at hl 5 rfl) ?_
  refine j_if_lt SS (tgt := 91) (x := z_3) dX5_noteFlip_53 (by decide) (by omega) (fun c_53 => ?_) (fun c_53 => ?_)
  · skip
    exact W.vret SS.1 SS.2.1 hr (fun t0 ht hW => ⟨⟨(sV (sL (sL u 4 (u.2.2.1 4)) 5 (u.2.2.1 5)) 21 (u.2.2.2 21)), rfl, (⟨(u.2.2.1 4), (u.2.2.1 5), (u.2.2.2 21), rfl, by omega⟩), by show va_P D.1 j_cl (cW D q (sV (sL (sL u 4 (u.2.2.1 4)) 5 (u.2.2.1 5)) 21 (u.2.2.2 21))) t0.heap; rw [ht]; first | exact hP | (simp only [sC_id, sX_id, sY_id, sH_id, sT_id, sV_id]; exact hP)⟩, hS.F ht⟩) hS.2.2 dX5_noteFlip_91 hlk
  · skip
    refine lv_iload SS.1 SS.2.1 dX5_noteFlip_56 (lv_at hl 4 rfl) ?_
    refine j_if_lt SS (tgt := 91) (x := z_12) dX5_noteFlip_58 (by decide) (by omega) (fun c_58 => ?_) (fun c_58 => ?_)
    · skip
      exact W.vret SS.1 SS.2.1 hr (fun t0 ht hW => ⟨⟨(sV (sL (sL u 4 (u.2.2.1 4)) 5 (u.2.2.1 5)) 21 (u.2.2.2 21)), rfl, (⟨(u.2.2.1 4), (u.2.2.1 5), (u.2.2.2 21), rfl, by omega⟩), by show va_P D.1 j_cl (cW D q (sV (sL (sL u 4 (u.2.2.1 4)) 5 (u.2.2.1 5)) 21 (u.2.2.2 21))) t0.heap; rw [ht]; first | exact hP | (simp only [sC_id, sX_id, sY_id, sH_id, sT_id, sV_id]; exact hP)⟩, hS.F ht⟩) hS.2.2 dX5_noteFlip_91 hlk
    · skip
      refine lv_iload SS.1 SS.2.1 dX5_noteFlip_61 (lv_at hl 3 rfl) ?_
      refine j_if_lt SS (tgt := 91) (x := z_20) dX5_noteFlip_63 (by decide) (by omega) (fun c_63 => ?_) (fun c_63 => ?_)
      · skip
        exact W.vret SS.1 SS.2.1 hr (fun t0 ht hW => ⟨⟨(sV (sL (sL u 4 (u.2.2.1 4)) 5 (u.2.2.1 5)) 21 (u.2.2.2 21)), rfl, (⟨(u.2.2.1 4), (u.2.2.1 5), (u.2.2.2 21), rfl, by omega⟩), by show va_P D.1 j_cl (cW D q (sV (sL (sL u 4 (u.2.2.1 4)) 5 (u.2.2.1 5)) 21 (u.2.2.2 21))) t0.heap; rw [ht]; first | exact hP | (simp only [sC_id, sX_id, sY_id, sH_id, sT_id, sV_id]; exact hP)⟩, hS.F ht⟩) hS.2.2 dX5_noteFlip_91 hlk
      · skip
        refine lv_iload SS.1 SS.2.1 dX5_noteFlip_66 (lv_at hl 2 rfl) ?_
        refine j_if_lt SS (tgt := 91) (x := z_28) dX5_noteFlip_68 (by decide) (by omega) (fun c_68 => ?_) (fun c_68 => ?_)
        · skip
          exact W.vret SS.1 SS.2.1 hr (fun t0 ht hW => ⟨⟨(sV (sL (sL u 4 (u.2.2.1 4)) 5 (u.2.2.1 5)) 21 (u.2.2.2 21)), rfl, (⟨(u.2.2.1 4), (u.2.2.1 5), (u.2.2.2 21), rfl, by omega⟩), by show va_P D.1 j_cl (cW D q (sV (sL (sL u 4 (u.2.2.1 4)) 5 (u.2.2.1 5)) 21 (u.2.2.2 21))) t0.heap; rw [ht]; first | exact hP | (simp only [sC_id, sX_id, sY_id, sH_id, sT_id, sV_id]; exact hP)⟩, hS.F ht⟩) hS.2.2 dX5_noteFlip_91 hlk
        · skip
          refine lv_iload SS.1 SS.2.1 dX5_noteFlip_71 (lv_at hl 1 rfl) ?_
          refine j_if_lt SS (tgt := 91) (x := z_37) dX5_noteFlip_73 (by decide) (by omega) (fun c_73 => ?_) (fun c_73 => ?_)
          · skip
            exact W.vret SS.1 SS.2.1 hr (fun t0 ht hW => ⟨⟨(sV (sL (sL u 4 (u.2.2.1 4)) 5 (u.2.2.1 5)) 21 (u.2.2.2 21)), rfl, (⟨(u.2.2.1 4), (u.2.2.1 5), (u.2.2.2 21), rfl, by omega⟩), by show va_P D.1 j_cl (cW D q (sV (sL (sL u 4 (u.2.2.1 4)) 5 (u.2.2.1 5)) 21 (u.2.2.2 21))) t0.heap; rw [ht]; first | exact hP | (simp only [sC_id, sX_id, sY_id, sH_id, sT_id, sV_id]; exact hP)⟩, hS.F ht⟩) hS.2.2 dX5_noteFlip_91 hlk
          · skip
            refine lv_iload SS.1 SS.2.1 dX5_noteFlip_76 (lv_at hl 0 rfl) ?_
            refine j_if_lt SS (tgt := 91) (x := z_46) dX5_noteFlip_78 (by decide) (by omega) (fun c_78 => ?_) (fun c_78 => ?_)
            · skip
              exact W.vret SS.1 SS.2.1 hr (fun t0 ht hW => ⟨⟨(sV (sL (sL u 4 (u.2.2.1 4)) 5 (u.2.2.1 5)) 21 (u.2.2.2 21)), rfl, (⟨(u.2.2.1 4), (u.2.2.1 5), (u.2.2.2 21), rfl, by omega⟩), by show va_P D.1 j_cl (cW D q (sV (sL (sL u 4 (u.2.2.1 4)) 5 (u.2.2.1 5)) 21 (u.2.2.2 21))) t0.heap; rw [ht]; first | exact hP | (simp only [sC_id, sX_id, sY_id, sH_id, sT_id, sV_id]; exact hP)⟩, hS.F ht⟩) hS.2.2 dX5_noteFlip_91 hlk
            · skip
              refine lv_aload_n SS.1 SS.2.1 dX5_noteFlip_81 rfl (lv_at hl 6 rfl) ?_
              refine j_get SS hG hP 66 (v := .int (J (u.2.2.2 21))) (C := RX5) (T := TX5) (N := 9) rfl rfl inX5 8 (by decide) (ref := "GridPolygons$Mesh") kw_319 rfl rfl dX5_noteFlip_82 ?_
              refine j_sipush SS dX5_noteFlip_85 (by decide +kernel) ?_
              refine j_icmp_lt SS (tgt := 92) (x := (u.2.2.2 21)) (y := 756) dX5_noteFlip_88 (by decide) (by omega) (by decide) (fun c_88 => ?_) (fun c_88 => ?_)
              · skip
                refine lv_aload_n SS.1 SS.2.1 dX5_noteFlip_92 rfl (lv_at hl 6 rfl) ?_
                refine j_get SS hG hP 66 (v := .ref (q 71)) (C := RX5) (T := TX5) (N := 9) rfl rfl inX5 6 (by decide) (ref := "GridPolygons$Mesh") kw_317 rfl rfl dX5_noteFlip_93 ?_
                refine lv_aload_n SS.1 SS.2.1 dX5_noteFlip_96 rfl (lv_at hl 6 rfl) ?_
                refine j_get SS hG hP 66 (v := .int (J (u.2.2.2 21))) (C := RX5) (T := TX5) (N := 9) rfl rfl inX5 8 (by decide) (ref := "GridPolygons$Mesh") kw_319 rfl rfl dX5_noteFlip_97 ?_
                refine lv_lconst (v := 1) SS.1 SS.2.1 dX5_noteFlip_100 (by decide +kernel) ?_
                refine lv_iload SS.1 SS.2.1 dX5_noteFlip_101 (lv_at hl 5 rfl) ?_
                refine lv_lshl SS.1 SS.2.1 dX5_noteFlip_103 rfl (lv_topl (fun x_103 ex_103 => ?_))
                refine lv_lconst (v := 1) SS.1 SS.2.1 dX5_noteFlip_104 (by decide +kernel) ?_
                refine lv_iload SS.1 SS.2.1 dX5_noteFlip_105 (lv_at hl 3 rfl) ?_
                refine lv_lshl SS.1 SS.2.1 dX5_noteFlip_107 rfl (lv_topl (fun x_107 ex_107 => ?_))
                refine lv_lor SS.1 SS.2.1 dX5_noteFlip_108 ?_
                refine lv_lconst (v := 1) SS.1 SS.2.1 dX5_noteFlip_109 (by decide +kernel) ?_
                refine lv_iload SS.1 SS.2.1 dX5_noteFlip_110 (lv_at hl 2 rfl) ?_
                refine lv_lshl SS.1 SS.2.1 dX5_noteFlip_112 rfl (lv_topl (fun x_112 ex_112 => ?_))
                refine lv_lor SS.1 SS.2.1 dX5_noteFlip_113 ?_
                refine lv_lconst (v := 1) SS.1 SS.2.1 dX5_noteFlip_114 (by decide +kernel) ?_
                refine lv_iload SS.1 SS.2.1 dX5_noteFlip_115 (lv_at hl 1 rfl) ?_
                refine lv_lshl SS.1 SS.2.1 dX5_noteFlip_117 rfl (lv_topl (fun x_117 ex_117 => ?_))
                refine lv_lor SS.1 SS.2.1 dX5_noteFlip_118 ?_
                refine lv_lconst (v := 1) SS.1 SS.2.1 dX5_noteFlip_119 (by decide +kernel) ?_
                refine lv_iload SS.1 SS.2.1 dX5_noteFlip_120 (lv_at hl 0 rfl) ?_
                refine lv_lshl SS.1 SS.2.1 dX5_noteFlip_122 rfl (lv_topl (fun x_122 ex_122 => ?_))
                refine lv_lor SS.1 SS.2.1 dX5_noteFlip_123 ?_
                refine j_last SS hG hP (cW_D hD) hS 71 (n := 756) (f := (u.2.2.1 4)) rfl (z := (u.2.2.2 21)) (v := ((((x_103 ||| x_107) ||| x_112) ||| x_117) ||| x_122)) (by omega) (by omega) dX5_noteFlip_124 (ws' := (cW D q (sL u 4 (vp_updL (u.2.2.1 4) ((u.2.2.2 21)).toNat ((((x_103 ||| x_107) ||| x_112) ||| x_117) ||| x_122))))) rfl (fun H locs hP hS => ?_)
                refine lv_aload_n SS.1 SS.2.1 dX5_noteFlip_125 rfl (lv_at hl 6 rfl) ?_
                refine j_get SS hG hP 66 (v := .ref (q 72)) (C := RX5) (T := TX5) (N := 9) rfl rfl inX5 7 (by decide) (ref := "GridPolygons$Mesh") kw_318 rfl rfl dX5_noteFlip_126 ?_
                refine lv_aload_n SS.1 SS.2.1 dX5_noteFlip_129 rfl (lv_at hl 6 rfl) ?_
                refine j_get SS hG hP 66 (v := .int (J (u.2.2.2 21))) (C := RX5) (T := TX5) (N := 9) rfl rfl inX5 8 (by decide) (ref := "GridPolygons$Mesh") kw_319 rfl rfl dX5_noteFlip_130 ?_
                refine lv_lconst (v := 1) SS.1 SS.2.1 dX5_noteFlip_133 (by decide +kernel) ?_
                refine lv_iload SS.1 SS.2.1 dX5_noteFlip_134 (lv_at hl 5 rfl) ?_
                refine lv_lshl SS.1 SS.2.1 dX5_noteFlip_136 rfl (lv_topl (fun x_136 ex_136 => ?_))
                refine lv_lconst (v := 1) SS.1 SS.2.1 dX5_noteFlip_137 (by decide +kernel) ?_
                refine lv_iload SS.1 SS.2.1 dX5_noteFlip_138 (lv_at hl 4 rfl) ?_
                refine lv_lshl SS.1 SS.2.1 dX5_noteFlip_140 rfl (lv_topl (fun x_140 ex_140 => ?_))
                refine lv_lor SS.1 SS.2.1 dX5_noteFlip_141 ?_
                refine j_last SS hG hP (cW_D hD) hS 72 (n := 756) (f := (u.2.2.1 5)) rfl (z := (u.2.2.2 21)) (v := (x_136 ||| x_140)) (by omega) (by omega) dX5_noteFlip_142 (ws' := (cW D q (sL (sL u 4 (vp_updL (u.2.2.1 4) ((u.2.2.2 21)).toNat ((((x_103 ||| x_107) ||| x_112) ||| x_117) ||| x_122))) 5 (vp_updL (u.2.2.1 5) ((u.2.2.2 21)).toNat (x_136 ||| x_140))))) rfl (fun H locs hP hS => ?_)
                refine lv_aload_n SS.1 SS.2.1 dX5_noteFlip_143 rfl (lv_at hl 6 rfl) ?_
                refine lv_dup SS.1 SS.2.1 dX5_noteFlip_144 rfl ?_
                refine j_get SS hG hP 66 (v := .int (J (u.2.2.2 21))) (C := RX5) (T := TX5) (N := 9) rfl rfl inX5 8 (by decide) (ref := "GridPolygons$Mesh") kw_319 rfl rfl dX5_noteFlip_145 ?_
                refine j_iconst SS dX5_noteFlip_148 ?_
                refine j_iadd SS (x := (u.2.2.2 21)) (y := 1) dX5_noteFlip_149 ?_
                refine j_put SS hG hP (cW_D hD) hS 66 (v := .int (J ((u.2.2.2 21) + 1))) (ty := .int) (C := RX5) (T := TX5) (N := 9) rfl rfl inX5 tyX5 tyX5_ok nmX5 8 (by decide) (ref := "GridPolygons$Mesh") kw_319 rfl rfl (by decide +kernel) rfl rfl (Nat.le_of_ble_eq_true rfl) dX5_noteFlip_150 (ws' := (cW D q (sV (sL (sL u 4 (vp_updL (u.2.2.1 4) ((u.2.2.2 21)).toNat ((((x_103 ||| x_107) ||| x_112) ||| x_117) ||| x_122))) 5 (vp_updL (u.2.2.1 5) ((u.2.2.2 21)).toNat (x_136 ||| x_140))) 21 ((u.2.2.2 21) + 1)))) rfl (fun H locs hP hS => ?_)
                exact W.vret SS.1 SS.2.1 hr (fun t0 ht hW => ⟨⟨(sV (sL (sL u 4 (vp_updL (u.2.2.1 4) ((u.2.2.2 21)).toNat ((((x_103 ||| x_107) ||| x_112) ||| x_117) ||| x_122))) 5 (vp_updL (u.2.2.1 5) ((u.2.2.2 21)).toNat (x_136 ||| x_140))) 21 ((u.2.2.2 21) + 1)), rfl, (⟨(vp_updL (u.2.2.1 4) ((u.2.2.2 21)).toNat ((((x_103 ||| x_107) ||| x_112) ||| x_117) ||| x_122)), (vp_updL (u.2.2.1 5) ((u.2.2.2 21)).toNat (x_136 ||| x_140)), ((u.2.2.2 21) + 1), rfl, by omega⟩), by show va_P D.1 j_cl (cW D q (sV (sL (sL u 4 (vp_updL (u.2.2.1 4) ((u.2.2.2 21)).toNat ((((x_103 ||| x_107) ||| x_112) ||| x_117) ||| x_122))) 5 (vp_updL (u.2.2.1 5) ((u.2.2.2 21)).toNat (x_136 ||| x_140))) 21 ((u.2.2.2 21) + 1))) t0.heap; rw [ht]; first | exact hP | (simp only [sC_id, sX_id, sY_id, sH_id, sT_id, sV_id]; exact hP)⟩, hS.F ht⟩) hS.2.2 dX5_noteFlip_153 hlk
              · skip
                exact W.vret SS.1 SS.2.1 hr (fun t0 ht hW => ⟨⟨(sV (sL (sL u 4 (u.2.2.1 4)) 5 (u.2.2.1 5)) 21 (u.2.2.2 21)), rfl, (⟨(u.2.2.1 4), (u.2.2.1 5), (u.2.2.2 21), rfl, by omega⟩), by show va_P D.1 j_cl (cW D q (sV (sL (sL u 4 (u.2.2.1 4)) 5 (u.2.2.1 5)) 21 (u.2.2.2 21))) t0.heap; rw [ht]; first | exact hP | (simp only [sC_id, sX_id, sY_id, sH_id, sT_id, sV_id]; exact hP)⟩, hS.F ht⟩) hS.2.2 dX5_noteFlip_91 hlk

set_option maxHeartbeats 4000000 in
set_option maxRecDepth 100000 in
theorem c_X5_noteFlips (l : Launch) (D : JD) (q : Nat → Nat) (u : CS) (A : Nat → Prop) (hD : va_D A (cW D q u)) (s : Int) (p0 : RB 40 u 9) (p1 : -2147483648 ≤ s ∧ s ≤ 2147483647) (p2 : ∀ k : Nat, 0 ≤ u.2.1 2 k ∧ u.2.1 2 k ≤ 12) (p3 : ∀ k : Nat, 0 ≤ u.2.1 3 k ∧ u.2.1 3 k ≤ 12) (p4 : ∀ k : Nat, -1 ≤ u.2.1 4 k ∧ u.2.1 4 k ≤ 63) (p5 : 0 ≤ u.2.2.2 21 ∧ u.2.2.2 21 ≤ 756) : Met l yX5_noteFlips (jw yX5_noteFlips cX5_noteFlips 6 none) (jr 3 74) (jP [.ref (q 66), .int (J s)] D (fun H => va_P D.1 j_cl (cW D q u) H)) (jWv (fun u' => ∃ w1 : Nat → Int64, ∃ w2 : Nat → Int64, ∃ n : Int, u' = (sV (sL (sL u 4 w1) 5 w2) 21 n) ∧ (0 ≤ n ∧ n ≤ 756)) (fun u' H => va_P D.1 j_cl (cW D q u') H) A) 0 0 A := by
  refine Met.ofW (cc := cX5_noteFlips) (maxL := 6) (ret := none) (by decide) rfl ?_
  intro pr en st mi args below meth co s₁ B hml hv
  obtain ⟨rfl, hG, hP⟩ := hv
  have hr := B.returns
  have hlk := B.notSynchronized
  have SS : jS pr mi co cX5_noteFlips 6 st _ RX5 := ⟨B.exec, B.bytes, hml, findClass_of_methodNamed B.named, fun w hw => atoms_spec (ws := (jw yX5_noteFlips cX5_noteFlips 6 none)) B.pre w (List.mem_cons_of_mem _ hw)⟩
  have hl := lv_entry ([.ref (q 66), .int (J s)]) (n := 6) (Nat.le_of_ble_eq_true rfl)
  rw [lg_entry_eq]
  generalize (lg_sl ([.ref (q 66), .int (J s)]) ++ List.replicate (6 - (lg_sl ([.ref (q 66), .int (J s)])).length) Slot.unset).toArray = ls at hl ⊢
  have hl : lv_has ls 6 [(0, .ref (q 66)), (1, .int (J s))] := hl
  have hS : va_S A st.heap st.heap [] := va_S.rf
  have hc := p0.1
  have hrk : (rl 9 : Int) = 12 := rfl
  refine lv_iload_n SS.1 SS.2.1 dX5_noteFlips_0 rfl (lv_at hl 1 rfl) ?_
  refine j_if_lt SS (tgt := 10) (x := s) dX5_noteFlips_1 (by decide) (by omega) (fun c_1 => ?_) (fun c_1 => ?_)
  · skip
    exact W.vret SS.1 SS.2.1 hr (fun t0 ht hW => ⟨⟨(sV (sL (sL u 4 (u.2.2.1 4)) 5 (u.2.2.1 5)) 21 (u.2.2.2 21)), rfl, (⟨(u.2.2.1 4), (u.2.2.1 5), (u.2.2.2 21), rfl, by omega⟩), by show va_P D.1 j_cl (cW D q (sV (sL (sL u 4 (u.2.2.1 4)) 5 (u.2.2.1 5)) 21 (u.2.2.2 21))) t0.heap; rw [ht]; first | exact hP | (simp only [sC_id, sX_id, sY_id, sH_id, sT_id, sV_id]; exact hP)⟩, hS.F ht⟩) hS.2.2 dX5_noteFlips_10 hlk
  · skip
    refine lv_iload_n SS.1 SS.2.1 dX5_noteFlips_4 rfl (lv_at hl 1 rfl) ?_
    refine j_bipush SS dX5_noteFlips_5 (by decide +kernel) ?_
    refine j_icmp_lt SS (tgt := 11) (x := s) (y := 63) dX5_noteFlips_7 (by decide) (by omega) (by decide) (fun c_7 => ?_) (fun c_7 => ?_)
    · skip
      refine lv_aload_n SS.1 SS.2.1 dX5_noteFlips_11 rfl (lv_at hl 0 rfl) ?_
      refine j_get SS hG hP 66 (v := .ref (q 53)) (C := RX5) (T := TX5) (N := 9) rfl rfl inX5 1 (by decide) (ref := "GridPolygons$Mesh") kw_311 rfl rfl dX5_noteFlips_12 ?_
      refine lv_iload_n SS.1 SS.2.1 dX5_noteFlips_15 rfl (lv_at hl 1 rfl) ?_
      refine j_iald SS hG hP 53 (n := 63) (f := (u.2.1 2)) rfl (z := s) (by omega) (by omega) dX5_noteFlips_16 ?_
      obtain ⟨a1, ea1⟩ : ∃ z : Int, z = ((u.2.1 2) (s).toNat) := ⟨_, rfl⟩
      rw [← ea1]
      refine lv_istore_n (lv' := [(2, .int (J a1)), (0, .ref (q 66)), (1, .int (J s))]) SS.1 SS.2.1 dX5_noteFlips_17 rfl hl (by decide) rfl (fun ls hl => ?_)
      refine lv_aload_n SS.1 SS.2.1 dX5_noteFlips_18 rfl (lv_at hl 1 rfl) ?_
      refine j_get SS hG hP 66 (v := .ref (q 57)) (C := RX5) (T := TX5) (N := 9) rfl rfl inX5 2 (by decide) (ref := "GridPolygons$Mesh") kw_312 rfl rfl dX5_noteFlips_19 ?_
      refine lv_iload_n SS.1 SS.2.1 dX5_noteFlips_22 rfl (lv_at hl 2 rfl) ?_
      refine j_iald SS hG hP 57 (n := 63) (f := (u.2.1 3)) rfl (z := s) (by omega) (by omega) dX5_noteFlips_23 ?_
      obtain ⟨b1, eb1⟩ : ∃ z : Int, z = ((u.2.1 3) (s).toNat) := ⟨_, rfl⟩
      rw [← eb1]
      refine lv_istore_n (lv' := [(3, .int (J b1)), (2, .int (J a1)), (0, .ref (q 66)), (1, .int (J s))]) SS.1 SS.2.1 dX5_noteFlips_24 rfl hl (by decide) rfl (fun ls hl => ?_)
      have l1 := p2 s.toNat
      have l2 := p3 s.toNat
      rw [← ea1] at l1
      rw [← eb1] at l2
      refine j_iconst SS dX5_noteFlips_25 ?_
      refine lv_istore (lv' := [(4, .int (J 0)), (3, .int (J b1)), (2, .int (J a1)), (0, .ref (q 66)), (1, .int (J s))]) SS.1 SS.2.1 dX5_noteFlips_26 hl (by decide) rfl (fun ls hl => ?_)
      have L_28 : ∀ (nn : Nat) (c : Int) (w3 : Nat → Int64) (w4 : Nat → Int64) (n3 : Int) (H : Heap) (locs : List Loc) (hP : va_P D.1 j_cl (cW D q (sV (sL (sL u 4 w3) 5 w4) 21 n3)) H) (hS : va_S A st.heap H locs) (ls : Array Slot) (hl : lv_has ls 6 [(0, .ref (q 66)), (1, .int (J s)), (2, .int (J a1)), (3, .int (J b1)), (4, .int (J c))]) (i28_0 : 0 ≤ c ∧ c ≤ 12) (i28_1 : 0 ≤ n3 ∧ n3 ≤ 756), ((12 : Int) - c).toNat < nn → W pr l en (headSpec (jw yX5_noteFlips cX5_noteFlips 6 none) (jr 3 74)).room st mi (([.ref (q 66), .int (J s)] : List Value).toArray) below meth co H locs 0 0 (MQ below (jWv (fun u' => ∃ w1 : Nat → Int64, ∃ w2 : Nat → Int64, ∃ n : Int, u' = (sV (sL (sL u 4 w1) 5 w2) 21 n) ∧ (0 ≤ n ∧ n ≤ 756)) (fun u' H => va_P D.1 j_cl (cW D q u') H) A) (([.ref (q 66), .int (J s)] : List Value).toArray) st 0 0 A) (F0 mi 28 ls []) := by
        intro nn
        induction nn with
        | zero => intros; omega
        | succ nn ih_28 =>
          intro c w3 w4 n3 H locs hP hS ls hl i28_0 i28_1 hm
          refine lv_iload SS.1 SS.2.1 dX5_noteFlips_28 (lv_at hl 4 rfl) ?_
          refine lv_aload_n SS.1 SS.2.1 dX5_noteFlips_30 rfl (lv_at hl 0 rfl) ?_
          refine j_get SS hG hP 66 (v := .ref (q (9 + 5 * 9))) (C := RX5) (T := TX5) (N := 9) rfl rfl inX5 0 (by decide) (ref := "GridPolygons$Mesh") kw_310 rfl rfl dX5_noteFlips_31 ?_
          refine j_getS SS hG hP (9 + 5 * 9) (v := .int (J (u.1.2.2.1 9))) (C := RX6) (T := TX6) (N := 3) (cw_pts (by omega)) rfl inX6 2 (by decide) (ref := "GridPolygons$Points") kw_136 kw_134 rfl dX5_noteFlips_34 ?_
          refine j_icmp_ge SS (tgt := 139) (x := c) (y := (u.1.2.2.1 9)) dX5_noteFlips_37 (by decide) (by omega) (by omega) (fun c_37 => ?_) (fun c_37 => ?_)
          · skip
            exact W.vret SS.1 SS.2.1 hr (fun t0 ht hW => ⟨⟨(sV (sL (sL u 4 w3) 5 w4) 21 n3), rfl, (⟨w3, w4, n3, rfl, by omega⟩), by show va_P D.1 j_cl (cW D q (sV (sL (sL u 4 w3) 5 w4) 21 n3)) t0.heap; rw [ht]; first | exact hP | (simp only [sC_id, sX_id, sY_id, sH_id, sT_id, sV_id]; exact hP)⟩, hS.F ht⟩) hS.2.2 dX5_noteFlips_139 hlk
          · skip
            refine lv_aload_n SS.1 SS.2.1 dX5_noteFlips_40 rfl (lv_at hl 0 rfl) ?_
            refine j_get SS hG hP 66 (v := .ref (q (9 + 5 * 9))) (C := RX5) (T := TX5) (N := 9) rfl rfl inX5 0 (by decide) (ref := "GridPolygons$Mesh") kw_310 rfl rfl dX5_noteFlips_41 ?_
            refine lv_iload_n SS.1 SS.2.1 dX5_noteFlips_44 rfl (lv_at hl 2 rfl) ?_
            refine lv_iload_n SS.1 SS.2.1 dX5_noteFlips_45 rfl (lv_at hl 3 rfl) ?_
            refine lv_iload SS.1 SS.2.1 dX5_noteFlips_46 (lv_at hl 4 rfl) ?_
            refine j_vRi SS (As := [.int (J a1), .int (J b1), .int (J c)]) (rest := []) (c_X6_turn l D q (sV (sL (sL u 4 w3) 5 w4) 21 n3)  a1 b1 c (show RB 40 (sV (sL (sL u 4 w3) 5 w4) 21 n3) 9 from (p0)) (show -2147483648 ≤ a1 ∧ a1 ≤ 2147483647 from (by omega)) (show -2147483648 ≤ b1 ∧ b1 ≤ 2147483647 from (by omega)) (show -2147483648 ≤ c ∧ c ≤ 2147483647 from (by omega))) mf_X6_turn kw_904 hG hP hP (ci := 6) (q0 := (9 + 5 * 9)) rfl (cw_pts (by omega)) rfl rfl hl.1 ⟨⟨Nat.le_of_ble_eq_true rfl, Nat.le_of_ble_eq_true rfl⟩, Nat.le_of_ble_eq_true rfl, Nat.le_refl _, Nat.le_refl _⟩ rfl dX5_noteFlips_48 (fun z_48 h_48 => ?_)
            have h_48 : -12800 ≤ z_48 ∧ z_48 ≤ 12800 := h_48
            refine j_iconst SS dX5_noteFlips_51 ?_
            refine j_icmp_ne SS (tgt := 133) (x := z_48) (y := 1) dX5_noteFlips_52 (by decide) (by omega) (by decide) (fun c_52 => ?_) (fun c_52 => ?_)
            · skip
              refine lv_iinc (v := J (c + 1)) (lv' := [(4, .int (J (c + 1))), (0, .ref (q 66)), (1, .int (J s)), (2, .int (J a1)), (3, .int (J b1))]) SS.1 SS.2.1 dX5_noteFlips_133 hl (k := 4) rfl (J_add _ _) (by decide) rfl (fun ls hl => ?_)
              refine lv_goto (tgt := 28) SS.1 SS.2.1 dX5_noteFlips_136 (by decide) ?_
              exact ih_28 (c + 1) w3 w4 n3 _ _ hP hS ls (lv_sub hl [1, 2, 3, 4, 0] rfl) (by omega) (by omega) (by omega)
            · skip
              refine lv_aload_n SS.1 SS.2.1 dX5_noteFlips_55 rfl (lv_at hl 0 rfl) ?_
              refine j_get SS hG hP 66 (v := .ref (q (9 + 5 * 9))) (C := RX5) (T := TX5) (N := 9) rfl rfl inX5 0 (by decide) (ref := "GridPolygons$Mesh") kw_310 rfl rfl dX5_noteFlips_56 ?_
              refine lv_aload_n SS.1 SS.2.1 dX5_noteFlips_59 rfl (lv_at hl 0 rfl) ?_
              refine j_get SS hG hP 66 (v := .ref (q (9 + 5 * 9))) (C := RX5) (T := TX5) (N := 9) rfl rfl inX5 0 (by decide) (ref := "GridPolygons$Mesh") kw_310 rfl rfl dX5_noteFlips_60 ?_
              refine lv_iload_n SS.1 SS.2.1 dX5_noteFlips_63 rfl (lv_at hl 2 rfl) ?_
              refine j_uRi SS (As := [.int (J a1)]) (rest := [.ref (q (9 + 5 * 9))]) (c_X8_xP l D q (sV (sL (sL u 4 w3) 5 w4) 21 n3) 9 (by omega) a1 (show -2147483648 ≤ a1 ∧ a1 ≤ 2147483647 from (by omega))) mu_6_x kw_885 hG hP hP (ci := 6) (q0 := (9 + 5 * 9)) rfl (cw_pts (by omega)) rfl rfl hl.1 ⟨⟨Nat.le_of_ble_eq_true rfl, Nat.le_of_ble_eq_true rfl⟩, Nat.le_of_ble_eq_true rfl, Nat.le_refl _, Nat.le_refl _⟩ rfl dX5_noteFlips_64 (fun z_64 h_64 => ?_)
              have h_64 : z_64 = rx (sV (sL (sL u 4 w3) 5 w4) 21 n3) 9 a1 ∧ ∀ K : Int, 0 ≤ K → RB K (sV (sL (sL u 4 w3) 5 w4) 21 n3) 9 → -K ≤ z_64 ∧ z_64 ≤ K := h_64
              have hb_64 := h_64.2 40 (by omega) (p0)
              refine lv_aload_n SS.1 SS.2.1 dX5_noteFlips_67 rfl (lv_at hl 0 rfl) ?_
              refine j_get SS hG hP 66 (v := .ref (q (9 + 5 * 9))) (C := RX5) (T := TX5) (N := 9) rfl rfl inX5 0 (by decide) (ref := "GridPolygons$Mesh") kw_310 rfl rfl dX5_noteFlips_68 ?_
              refine lv_iload_n SS.1 SS.2.1 dX5_noteFlips_71 rfl (lv_at hl 3 rfl) ?_
              refine j_uRi SS (As := [.int (J b1)]) (rest := [.int (J z_64), .ref (q (9 + 5 * 9))]) (c_X8_xP l D q (sV (sL (sL u 4 w3) 5 w4) 21 n3) 9 (by omega) b1 (show -2147483648 ≤ b1 ∧ b1 ≤ 2147483647 from (by omega))) mu_6_x kw_885 hG hP hP (ci := 6) (q0 := (9 + 5 * 9)) rfl (cw_pts (by omega)) rfl rfl hl.1 ⟨⟨Nat.le_of_ble_eq_true rfl, Nat.le_of_ble_eq_true rfl⟩, Nat.le_of_ble_eq_true rfl, Nat.le_refl _, Nat.le_refl _⟩ rfl dX5_noteFlips_72 (fun z_72 h_72 => ?_)
              have h_72 : z_72 = rx (sV (sL (sL u 4 w3) 5 w4) 21 n3) 9 b1 ∧ ∀ K : Int, 0 ≤ K → RB K (sV (sL (sL u 4 w3) 5 w4) 21 n3) 9 → -K ≤ z_72 ∧ z_72 ≤ K := h_72
              have hb_72 := h_72.2 40 (by omega) (p0)
              refine j_iadd SS (x := z_64) (y := z_72) dX5_noteFlips_75 ?_
              refine lv_aload_n SS.1 SS.2.1 dX5_noteFlips_76 rfl (lv_at hl 0 rfl) ?_
              refine j_get SS hG hP 66 (v := .ref (q (9 + 5 * 9))) (C := RX5) (T := TX5) (N := 9) rfl rfl inX5 0 (by decide) (ref := "GridPolygons$Mesh") kw_310 rfl rfl dX5_noteFlips_77 ?_
              refine lv_iload SS.1 SS.2.1 dX5_noteFlips_80 (lv_at hl 4 rfl) ?_
              refine j_uRi SS (As := [.int (J c)]) (rest := [.int (J (z_64 + z_72)), .ref (q (9 + 5 * 9))]) (c_X8_xP l D q (sV (sL (sL u 4 w3) 5 w4) 21 n3) 9 (by omega) c (show -2147483648 ≤ c ∧ c ≤ 2147483647 from (by omega))) mu_6_x kw_885 hG hP hP (ci := 6) (q0 := (9 + 5 * 9)) rfl (cw_pts (by omega)) rfl rfl hl.1 ⟨⟨Nat.le_of_ble_eq_true rfl, Nat.le_of_ble_eq_true rfl⟩, Nat.le_of_ble_eq_true rfl, Nat.le_refl _, Nat.le_refl _⟩ rfl dX5_noteFlips_82 (fun z_82 h_82 => ?_)
              have h_82 : z_82 = rx (sV (sL (sL u 4 w3) 5 w4) 21 n3) 9 c ∧ ∀ K : Int, 0 ≤ K → RB K (sV (sL (sL u 4 w3) 5 w4) 21 n3) 9 → -K ≤ z_82 ∧ z_82 ≤ K := h_82
              have hb_82 := h_82.2 40 (by omega) (p0)
              refine j_isub SS (x := (z_64 + z_72)) (y := z_82) dX5_noteFlips_85 ?_
              refine lv_aload_n SS.1 SS.2.1 dX5_noteFlips_86 rfl (lv_at hl 0 rfl) ?_
              refine j_get SS hG hP 66 (v := .ref (q (9 + 5 * 9))) (C := RX5) (T := TX5) (N := 9) rfl rfl inX5 0 (by decide) (ref := "GridPolygons$Mesh") kw_310 rfl rfl dX5_noteFlips_87 ?_
              refine lv_iload_n SS.1 SS.2.1 dX5_noteFlips_90 rfl (lv_at hl 2 rfl) ?_
              refine j_uRi SS (As := [.int (J a1)]) (rest := [.int (J ((z_64 + z_72) - z_82)), .ref (q (9 + 5 * 9))]) (c_X8_yP l D q (sV (sL (sL u 4 w3) 5 w4) 21 n3) 9 (by omega) a1 (show -2147483648 ≤ a1 ∧ a1 ≤ 2147483647 from (by omega))) mu_6_y kw_888 hG hP hP (ci := 6) (q0 := (9 + 5 * 9)) rfl (cw_pts (by omega)) rfl rfl hl.1 ⟨⟨Nat.le_of_ble_eq_true rfl, Nat.le_of_ble_eq_true rfl⟩, Nat.le_of_ble_eq_true rfl, Nat.le_refl _, Nat.le_refl _⟩ rfl dX5_noteFlips_91 (fun z_91 h_91 => ?_)
              have h_91 : z_91 = ry9 (sV (sL (sL u 4 w3) 5 w4) 21 n3) 9 a1 ∧ ∀ K : Int, 0 ≤ K → RB K (sV (sL (sL u 4 w3) 5 w4) 21 n3) 9 → -K ≤ z_91 ∧ z_91 ≤ K := h_91
              have hb_91 := h_91.2 40 (by omega) (p0)
              refine lv_aload_n SS.1 SS.2.1 dX5_noteFlips_94 rfl (lv_at hl 0 rfl) ?_
              refine j_get SS hG hP 66 (v := .ref (q (9 + 5 * 9))) (C := RX5) (T := TX5) (N := 9) rfl rfl inX5 0 (by decide) (ref := "GridPolygons$Mesh") kw_310 rfl rfl dX5_noteFlips_95 ?_
              refine lv_iload_n SS.1 SS.2.1 dX5_noteFlips_98 rfl (lv_at hl 3 rfl) ?_
              refine j_uRi SS (As := [.int (J b1)]) (rest := [.int (J z_91), .int (J ((z_64 + z_72) - z_82)), .ref (q (9 + 5 * 9))]) (c_X8_yP l D q (sV (sL (sL u 4 w3) 5 w4) 21 n3) 9 (by omega) b1 (show -2147483648 ≤ b1 ∧ b1 ≤ 2147483647 from (by omega))) mu_6_y kw_888 hG hP hP (ci := 6) (q0 := (9 + 5 * 9)) rfl (cw_pts (by omega)) rfl rfl hl.1 ⟨⟨Nat.le_of_ble_eq_true rfl, Nat.le_of_ble_eq_true rfl⟩, Nat.le_of_ble_eq_true rfl, Nat.le_refl _, Nat.le_refl _⟩ rfl dX5_noteFlips_99 (fun z_99 h_99 => ?_)
              have h_99 : z_99 = ry9 (sV (sL (sL u 4 w3) 5 w4) 21 n3) 9 b1 ∧ ∀ K : Int, 0 ≤ K → RB K (sV (sL (sL u 4 w3) 5 w4) 21 n3) 9 → -K ≤ z_99 ∧ z_99 ≤ K := h_99
              have hb_99 := h_99.2 40 (by omega) (p0)
              refine j_iadd SS (x := z_91) (y := z_99) dX5_noteFlips_102 ?_
              refine lv_aload_n SS.1 SS.2.1 dX5_noteFlips_103 rfl (lv_at hl 0 rfl) ?_
              refine j_get SS hG hP 66 (v := .ref (q (9 + 5 * 9))) (C := RX5) (T := TX5) (N := 9) rfl rfl inX5 0 (by decide) (ref := "GridPolygons$Mesh") kw_310 rfl rfl dX5_noteFlips_104 ?_
              refine lv_iload SS.1 SS.2.1 dX5_noteFlips_107 (lv_at hl 4 rfl) ?_
              refine j_uRi SS (As := [.int (J c)]) (rest := [.int (J (z_91 + z_99)), .int (J ((z_64 + z_72) - z_82)), .ref (q (9 + 5 * 9))]) (c_X8_yP l D q (sV (sL (sL u 4 w3) 5 w4) 21 n3) 9 (by omega) c (show -2147483648 ≤ c ∧ c ≤ 2147483647 from (by omega))) mu_6_y kw_888 hG hP hP (ci := 6) (q0 := (9 + 5 * 9)) rfl (cw_pts (by omega)) rfl rfl hl.1 ⟨⟨Nat.le_of_ble_eq_true rfl, Nat.le_of_ble_eq_true rfl⟩, Nat.le_of_ble_eq_true rfl, Nat.le_refl _, Nat.le_refl _⟩ rfl dX5_noteFlips_109 (fun z_109 h_109 => ?_)
              have h_109 : z_109 = ry9 (sV (sL (sL u 4 w3) 5 w4) 21 n3) 9 c ∧ ∀ K : Int, 0 ≤ K → RB K (sV (sL (sL u 4 w3) 5 w4) 21 n3) 9 → -K ≤ z_109 ∧ z_109 ≤ K := h_109
              have hb_109 := h_109.2 40 (by omega) (p0)
              refine j_isub SS (x := (z_91 + z_99)) (y := z_109) dX5_noteFlips_112 ?_
              refine j_vRi SS (As := [.int (J ((z_64 + z_72) - z_82)), .int (J ((z_91 + z_99) - z_109))]) (rest := []) (c_X6_find l D q (sV (sL (sL u 4 w3) 5 w4) 21 n3)  ((z_64 + z_72) - z_82) ((z_91 + z_99) - z_109) (show RB 40 (sV (sL (sL u 4 w3) 5 w4) 21 n3) 9 from (p0)) (show -2147483648 ≤ ((z_64 + z_72) - z_82) ∧ ((z_64 + z_72) - z_82) ≤ 2147483647 from (by omega)) (show -2147483648 ≤ ((z_91 + z_99) - z_109) ∧ ((z_91 + z_99) - z_109) ≤ 2147483647 from (by omega))) mf_X6_find kw_914 hG hP hP (ci := 6) (q0 := (9 + 5 * 9)) rfl (cw_pts (by omega)) rfl rfl hl.1 ⟨⟨Nat.le_of_ble_eq_true rfl, Nat.le_of_ble_eq_true rfl⟩, Nat.le_of_ble_eq_true rfl, Nat.le_refl _, Nat.le_refl _⟩ rfl dX5_noteFlips_113 (fun z_113 h_113 => ?_)
              have h_113 : -1 ≤ z_113 ∧ z_113 ≤ 11 := h_113
              refine lv_istore (lv' := [(5, .int (J z_113)), (0, .ref (q 66)), (1, .int (J s)), (2, .int (J a1)), (3, .int (J b1)), (4, .int (J c))]) SS.1 SS.2.1 dX5_noteFlips_116 hl (by decide) rfl (fun ls hl => ?_)
              refine lv_iload SS.1 SS.2.1 dX5_noteFlips_118 (lv_at hl 0 rfl) ?_
              refine j_if_lt SS (tgt := 133) (x := z_113) dX5_noteFlips_120 (by decide) (by omega) (fun c_120 => ?_) (fun c_120 => ?_)
              · skip
                refine lv_iinc (v := J (c + 1)) (lv' := [(4, .int (J (c + 1))), (5, .int (J z_113)), (0, .ref (q 66)), (1, .int (J s)), (2, .int (J a1)), (3, .int (J b1))]) SS.1 SS.2.1 dX5_noteFlips_133 hl (k := 5) rfl (J_add _ _) (by decide) rfl (fun ls hl => ?_)
                refine lv_goto (tgt := 28) SS.1 SS.2.1 dX5_noteFlips_136 (by decide) ?_
                exact ih_28 (c + 1) w3 w4 n3 _ _ hP hS ls (lv_sub hl [2, 3, 4, 5, 0] rfl) (by omega) (by omega) (by omega)
              · skip
                refine lv_aload_n SS.1 SS.2.1 dX5_noteFlips_123 rfl (lv_at hl 1 rfl) ?_
                refine lv_iload_n SS.1 SS.2.1 dX5_noteFlips_124 rfl (lv_at hl 3 rfl) ?_
                refine lv_iload_n SS.1 SS.2.1 dX5_noteFlips_125 rfl (lv_at hl 4 rfl) ?_
                refine lv_iload SS.1 SS.2.1 dX5_noteFlips_126 (lv_at hl 5 rfl) ?_
                refine lv_iload SS.1 SS.2.1 dX5_noteFlips_128 (lv_at hl 0 rfl) ?_
                refine j_vWv SS (As := [.int (J a1), .int (J b1), .int (J c), .int (J z_113)]) (rest := []) (c_X5_noteFlip l D q (sV (sL (sL u 4 w3) 5 w4) 21 n3) A (cW_D hD)  a1 b1 c z_113 (show 0 ≤ a1 ∧ a1 ≤ 12 from (by omega)) (show 0 ≤ b1 ∧ b1 ≤ 12 from (by omega)) (show 0 ≤ c ∧ c ≤ 12 from (by omega)) (show 0 ≤ z_113 ∧ z_113 ≤ 12 from (by omega)) (show ∀ k : Nat, -1 ≤ (u.2.1 4) k ∧ (u.2.1 4) k ≤ 63 from (p4)) (show 0 ≤ n3 ∧ n3 ≤ 756 from (by omega))) mf_X5_noteFlip kw_918 hG hP hP (ci := 5) (q0 := 66) rfl rfl rfl hS (fun _ h => h) rfl hl.1 ⟨⟨Nat.le_of_ble_eq_true rfl, Nat.le_of_ble_eq_true rfl⟩, Nat.le_of_ble_eq_true rfl, Nat.le_refl _, Nat.le_refl _⟩ rfl dX5_noteFlips_130 (fun u130 H locs h_130 hP _ hS => ?_)
                obtain ⟨w1_130, w2_130, n_130, rfl, h_130⟩ := h_130
                have hP : va_P D.1 j_cl (cW D q (sV (sL (sL u 4 w1_130) 5 w2_130) 21 n_130)) H := hP
                have h_130 : 0 ≤ n_130 ∧ n_130 ≤ 756 := h_130
                refine lv_iinc (v := J (c + 1)) (lv' := [(4, .int (J (c + 1))), (5, .int (J z_113)), (0, .ref (q 66)), (1, .int (J s)), (2, .int (J a1)), (3, .int (J b1))]) SS.1 SS.2.1 dX5_noteFlips_133 hl (k := 5) rfl (J_add _ _) (by decide) rfl (fun ls hl => ?_)
                refine lv_goto (tgt := 28) SS.1 SS.2.1 dX5_noteFlips_136 (by decide) ?_
                exact ih_28 (c + 1) w1_130 w2_130 n_130 _ _ hP hS ls (lv_sub hl [2, 3, 4, 5, 0] rfl) (by omega) (by omega) (by omega)
      exact L_28 (((12 : Int) - (0 : Int)).toNat + 1) 0 (u.2.2.1 4) (u.2.2.1 5) (u.2.2.2 21) _ _ hP hS ls (lv_sub hl [3, 4, 2, 1, 0] rfl) (by omega) (by omega) (Nat.lt_succ_self _)
    · skip
      exact W.vret SS.1 SS.2.1 hr (fun t0 ht hW => ⟨⟨(sV (sL (sL u 4 (u.2.2.1 4)) 5 (u.2.2.1 5)) 21 (u.2.2.2 21)), rfl, (⟨(u.2.2.1 4), (u.2.2.1 5), (u.2.2.2 21), rfl, by omega⟩), by show va_P D.1 j_cl (cW D q (sV (sL (sL u 4 (u.2.2.1 4)) 5 (u.2.2.1 5)) 21 (u.2.2.2 21))) t0.heap; rw [ht]; first | exact hP | (simp only [sC_id, sX_id, sY_id, sH_id, sT_id, sV_id]; exact hP)⟩, hS.F ht⟩) hS.2.2 dX5_noteFlips_10 hlk

set_option maxHeartbeats 4000000 in
set_option maxRecDepth 100000 in
theorem c_X5_firstCut (l : Launch) (D : JD) (q : Nat → Nat) (u : CS) (p0 : 0 ≤ u.2.2.2 20 ∧ u.2.2.2 20 ≤ 63) : Met l yX5_firstCut (jw yX5_firstCut cX5_firstCut 4 (some .long)) (jr 0 0) (jP [.ref (q 66)] D (fun H => va_P D.1 j_cl (cW D q u) H)) (vp_Sl (fun x9 => True)) 0 0 (fun _ => False) := by
  refine Met.ofW (cc := cX5_firstCut) (maxL := 4) (ret := (some .long)) (by decide) rfl ?_
  intro pr en st mi args below meth co s₁ B hml hv
  obtain ⟨rfl, hG, hP⟩ := hv
  have hr := B.returns
  have hlk := B.notSynchronized
  have SS : jS pr mi co cX5_firstCut 4 st _ RX5 := ⟨B.exec, B.bytes, hml, findClass_of_methodNamed B.named, fun w hw => atoms_spec (ws := (jw yX5_firstCut cX5_firstCut 4 (some .long))) B.pre w (List.mem_cons_of_mem _ hw)⟩
  have hl := lv_entry ([.ref (q 66)]) (n := 4) (Nat.le_of_ble_eq_true rfl)
  rw [lg_entry_eq]
  generalize (lg_sl ([.ref (q 66)]) ++ List.replicate (4 - (lg_sl ([.ref (q 66)])).length) Slot.unset).toArray = ls at hl ⊢
  have hl : lv_has ls 4 [(0, .ref (q 66))] := hl
  refine lv_lconst (v := 0) SS.1 SS.2.1 dX5_firstCut_0 (by decide +kernel) ?_
  refine lv_lstore_n (lv' := [(1, .long 0), (0, .ref (q 66))]) SS.1 SS.2.1 dX5_firstCut_1 rfl hl (by decide) rfl (fun ls hl => ?_)
  refine j_iconst SS dX5_firstCut_2 ?_
  refine lv_istore_n (lv' := [(3, .int (J 0)), (1, .long 0), (0, .ref (q 66))]) SS.1 SS.2.1 dX5_firstCut_3 rfl hl (by decide) rfl (fun ls hl => ?_)
  have L_4 : ∀ (nn : Nat) (st9 : Int64) (s : Int) (ls : Array Slot) (hl : lv_has ls 4 [(0, .ref (q 66)), (1, .long st9), (3, .int (J s))]) (i4_0 : 0 ≤ s ∧ s ≤ 63), ((63 : Int) - s).toNat < nn → W pr l en (headSpec (jw yX5_firstCut cX5_firstCut 4 (some .long)) (jr 0 0)).room st mi (([.ref (q 66)] : List Value).toArray) below meth co st.heap [] 0 0 (MQ below (vp_Sl (fun x9 => True)) (([.ref (q 66)] : List Value).toArray) st 0 0 (fun _ => False)) (F0 mi 4 ls []) := by
    intro nn
    induction nn with
    | zero => intros; omega
    | succ nn ih_4 =>
      intro st9 s ls hl i4_0 hm
      refine lv_iload_n SS.1 SS.2.1 dX5_firstCut_4 rfl (lv_at hl 2 rfl) ?_
      refine lv_aload_n SS.1 SS.2.1 dX5_firstCut_5 rfl (lv_at hl 0 rfl) ?_
      refine j_get SS hG hP 66 (v := .int (J (u.2.2.2 20))) (C := RX5) (T := TX5) (N := 9) rfl rfl inX5 5 (by decide) (ref := "GridPolygons$Mesh") kw_315 rfl rfl dX5_firstCut_6 ?_
      refine j_icmp_ge SS (tgt := 43) (x := s) (y := (u.2.2.2 20)) dX5_firstCut_9 (by decide) (by omega) (by omega) (fun c_9 => ?_) (fun c_9 => ?_)
      · skip
        refine lv_lload_n SS.1 SS.2.1 dX5_firstCut_43 rfl (lv_at hl 1 rfl) ?_
        exact W.lret SS.1 SS.2.1 hr (fun t0 ht hW => ⟨_, rfl, (trivial), ht⟩) (fun _ h => nomatch h) dX5_firstCut_44 hlk
      · skip
        refine lv_iload_n SS.1 SS.2.1 dX5_firstCut_12 rfl (lv_at hl 2 rfl) ?_
        refine j_bipush SS dX5_firstCut_13 (by decide +kernel) ?_
        refine j_icmp_ge SS (tgt := 43) (x := s) (y := 63) dX5_firstCut_15 (by decide) (by omega) (by decide) (fun c_15 => ?_) (fun c_15 => ?_)
        · skip
          refine lv_lload_n SS.1 SS.2.1 dX5_firstCut_43 rfl (lv_at hl 1 rfl) ?_
          exact W.lret SS.1 SS.2.1 hr (fun t0 ht hW => ⟨_, rfl, (trivial), ht⟩) (fun _ h => nomatch h) dX5_firstCut_44 hlk
        · skip
          refine lv_aload_n SS.1 SS.2.1 dX5_firstCut_18 rfl (lv_at hl 0 rfl) ?_
          refine j_get SS hG hP 66 (v := .ref (q 70)) (C := RX5) (T := TX5) (N := 9) rfl rfl inX5 3 (by decide) (ref := "GridPolygons$Mesh") kw_313 rfl rfl dX5_firstCut_19 ?_
          refine lv_iload_n SS.1 SS.2.1 dX5_firstCut_22 rfl (lv_at hl 2 rfl) ?_
          refine j_lald SS hG hP 70 (n := 63) (f := (u.2.2.1 3)) rfl (z := s) (by omega) (by omega) dX5_firstCut_23 ?_
          refine lv_lload_n SS.1 SS.2.1 dX5_firstCut_24 rfl (lv_at hl 1 rfl) ?_
          refine lv_land SS.1 SS.2.1 dX5_firstCut_25 ?_
          refine lv_lconst (v := 0) SS.1 SS.2.1 dX5_firstCut_26 (by decide +kernel) ?_
          refine j_lcmp SS dX5_firstCut_27 (fun z_27 hz_27 => ?_)
          refine j_if_ne SS (tgt := 37) (x := z_27) dX5_firstCut_28 (by decide) (by omega) (fun c_28 => ?_) (fun c_28 => ?_)
          · skip
            refine lv_iinc (v := J (s + 1)) (lv' := [(3, .int (J (s + 1))), (0, .ref (q 66)), (1, .long st9)]) SS.1 SS.2.1 dX5_firstCut_37 hl (k := 2) rfl (J_add _ _) (by decide) rfl (fun ls hl => ?_)
            refine lv_goto (tgt := 4) SS.1 SS.2.1 dX5_firstCut_40 (by decide) ?_
            exact ih_4 st9 (s + 1) ls (lv_sub hl [1, 2, 0] rfl) (by omega) (by omega)
          · skip
            refine lv_lload_n SS.1 SS.2.1 dX5_firstCut_31 rfl (lv_at hl 1 rfl) ?_
            refine lv_lconst (v := 1) SS.1 SS.2.1 dX5_firstCut_32 (by decide +kernel) ?_
            refine lv_iload_n SS.1 SS.2.1 dX5_firstCut_33 rfl (lv_at hl 2 rfl) ?_
            refine lv_lshl SS.1 SS.2.1 dX5_firstCut_34 rfl (lv_topl (fun x_34 ex_34 => ?_))
            refine lv_lor SS.1 SS.2.1 dX5_firstCut_35 ?_
            refine lv_lstore_n (lv' := [(1, .long (st9 ||| x_34)), (0, .ref (q 66)), (3, .int (J s))]) SS.1 SS.2.1 dX5_firstCut_36 rfl hl (by decide) rfl (fun ls hl => ?_)
            refine lv_iinc (v := J (s + 1)) (lv' := [(3, .int (J (s + 1))), (1, .long (st9 ||| x_34)), (0, .ref (q 66))]) SS.1 SS.2.1 dX5_firstCut_37 hl (k := 2) rfl (J_add _ _) (by decide) rfl (fun ls hl => ?_)
            refine lv_goto (tgt := 4) SS.1 SS.2.1 dX5_firstCut_40 (by decide) ?_
            exact ih_4 (st9 ||| x_34) (s + 1) ls (lv_sub hl [2, 1, 0] rfl) (by omega) (by omega)
  exact L_4 (((63 : Int) - (0 : Int)).toNat + 1) 0 0 ls (lv_sub hl [2, 1, 0] rfl) (by omega) (Nat.lt_succ_self _)


set_option maxHeartbeats 4000000 in
set_option maxRecDepth 100000 in
theorem c_X5_build (l : Launch) (D : JD) (q : Nat → Nat) (u : CS) (A : Nat → Prop) (hD : va_D A (cW D q u)) (r : Nat) (hr : r ≤ 8) (p0 : RB 40 u r) (p1 : RB 40 u 9) (p2 : ∀ k : Nat, 0 ≤ u.2.1 2 k ∧ u.2.1 2 k ≤ 12) (p3 : ∀ k : Nat, 0 ≤ u.2.1 3 k ∧ u.2.1 3 k ≤ 12) (p4 : ∀ k : Nat, -1 ≤ u.2.1 4 k ∧ u.2.1 4 k ≤ 63) : Met l yX5_build (jw yX5_build cX5_build 4 none) (jr 4 99) (jP [.ref (q 66), .ref (q (9 + 5 * r))] D (fun H => va_P D.1 j_cl (cW D q u) H)) (jWv (fun u' => ∃ n : Int, ∃ f : Nat → Int, ∃ g : Nat → Int, ∃ ls9 : Nat → Int, ∃ gr9 : Nat → Int, ∃ nu9 : Nat → Int, ∃ w3 : Nat → Int64, ∃ w4 : Nat → Int64, ∃ w5 : Nat → Int64, ∃ v20 : Int, ∃ v21 : Int, u' = (sY (sX (sV (sV (sL (sL (sL (sI (sI (sI (sC u 9 n) 2 ls9) 3 gr9) 4 nu9) 3 w3) 4 w4) 5 w5) 20 v20) 21 v21) 9 f) 9 g) ∧ (((0 ≤ n ∧ n ≤ 12) ∧ RV 40 f g) ∧ (∀ k : Nat, 0 ≤ ls9 k ∧ ls9 k ≤ 12) ∧ (∀ k : Nat, 0 ≤ gr9 k ∧ gr9 k ≤ 12) ∧ (∀ k : Nat, -1 ≤ nu9 k ∧ nu9 k ≤ 63) ∧ (0 ≤ v20 ∧ v20 ≤ 63) ∧ 0 ≤ v21 ∧ v21 ≤ 756)) (fun u' H => va_P D.1 j_cl (cW D q u') H) A) 0 0 A := by
  refine Met.ofW (cc := cX5_build) (maxL := 4) (ret := none) (by decide) rfl ?_
  intro pr en st mi args below meth co s₁ B hml hv
  obtain ⟨rfl, hG, hP⟩ := hv
  have hr := B.returns
  have hlk := B.notSynchronized
  have SS : jS pr mi co cX5_build 4 st _ RX5 := ⟨B.exec, B.bytes, hml, findClass_of_methodNamed B.named, fun w hw => atoms_spec (ws := (jw yX5_build cX5_build 4 none)) B.pre w (List.mem_cons_of_mem _ hw)⟩
  have hl := lv_entry ([.ref (q 66), .ref (q (9 + 5 * r))]) (n := 4) (Nat.le_of_ble_eq_true rfl)
  rw [lg_entry_eq]
  generalize (lg_sl ([.ref (q 66), .ref (q (9 + 5 * r))]) ++ List.replicate (4 - (lg_sl ([.ref (q 66), .ref (q (9 + 5 * r))])).length) Slot.unset).toArray = ls at hl ⊢
  have hl : lv_has ls 4 [(0, .ref (q 66)), (1, .ref (q (9 + 5 * r)))] := hl
  have hS : va_S A st.heap st.heap [] := va_S.rf
  have hR9 : RB 40 u 9 := p1
  refine lv_aload_n SS.1 SS.2.1 dX5_build_0 rfl (lv_at hl 0 rfl) ?_
  refine j_get SS hG hP 66 (v := .ref (q (9 + 5 * 9))) (C := RX5) (T := TX5) (N := 9) rfl rfl inX5 0 (by decide) (ref := "GridPolygons$Mesh") kw_310 rfl rfl dX5_build_1 ?_
  refine lv_aload_n SS.1 SS.2.1 dX5_build_4 rfl (lv_at hl 1 rfl) ?_
  refine j_vWv SS (As := [.ref (q (9 + 5 * r))]) (rest := []) (c_X6_fill_9 l D q u A (cW_D hD) r (by omega)  (show RB 40 u r from (p0)) (show RB 40 u 9 from (p1))) mf_X6_fill kw_873 hG hP hP (ci := 6) (q0 := (9 + 5 * 9)) rfl (cw_pts (by omega)) rfl hS (fun _ h => h) rfl hl.1 ⟨⟨Nat.le_of_ble_eq_true rfl, Nat.le_of_ble_eq_true rfl⟩, Nat.le_of_ble_eq_true rfl, Nat.le_refl _, Nat.le_refl _⟩ rfl dX5_build_5 (fun u5 H locs h_5 hP _ hS => ?_)
  obtain ⟨n_5, f_5, g_5, rfl, h_5⟩ := h_5
  have hP : va_P D.1 j_cl (cW D q (sY (sX (sC u 9 n_5) 9 f_5) 9 g_5)) H := hP
  have h_5 : (0 ≤ n_5 ∧ n_5 ≤ 12) ∧ RV 40 f_5 g_5 := h_5
  have hR9 : (0 ≤ n_5 ∧ n_5 ≤ (rl 9 : Int)) ∧ RV 40 f_5 g_5 := h_5
  refine lv_aload_n SS.1 SS.2.1 dX5_build_8 rfl (lv_at hl 0 rfl) ?_
  refine j_iconst SS dX5_build_9 ?_
  refine j_put SS hG hP (cW_D hD) hS 66 (v := .int (J 0)) (ty := .int) (C := RX5) (T := TX5) (N := 9) rfl rfl inX5 tyX5 tyX5_ok nmX5 5 (by decide) (ref := "GridPolygons$Mesh") kw_315 rfl rfl (by decide +kernel) rfl rfl (Nat.le_of_ble_eq_true rfl) dX5_build_10 (ws' := (cW D q (sY (sX (sV (sC u 9 n_5) 20 0) 9 f_5) 9 g_5))) rfl (fun H locs hP hS => ?_)
  refine lv_aload_n SS.1 SS.2.1 dX5_build_13 rfl (lv_at hl 0 rfl) ?_
  refine j_iconst SS dX5_build_14 ?_
  refine j_put SS hG hP (cW_D hD) hS 66 (v := .int (J 0)) (ty := .int) (C := RX5) (T := TX5) (N := 9) rfl rfl inX5 tyX5 tyX5_ok nmX5 8 (by decide) (ref := "GridPolygons$Mesh") kw_319 rfl rfl (by decide +kernel) rfl rfl (Nat.le_of_ble_eq_true rfl) dX5_build_15 (ws' := (cW D q (sY (sX (sV (sV (sC u 9 n_5) 20 0) 21 0) 9 f_5) 9 g_5))) rfl (fun H locs hP hS => ?_)
  refine lv_aload_n SS.1 SS.2.1 dX5_build_18 rfl (lv_at hl 0 rfl) ?_
  refine j_get SS hG hP 66 (v := .ref (q 58)) (C := RX5) (T := TX5) (N := 9) rfl rfl inX5 4 (by decide) (ref := "GridPolygons$Mesh") kw_314 rfl rfl dX5_build_19 ?_
  refine j_iconst SS dX5_build_22 ?_
  refine j_sWv SS (As := [.ref (q 58), .int (J (-1))]) (rest := []) (c_J7_fill_53178 l D (ws := (cW D q (sY (sX (sV (sV (sC u 9 n_5) 20 0) 21 0) 9 f_5) 9 g_5))) (A := A) (cW_D hD) 58 (-1) rfl (by first | decide | omega)) mf_J7_fill_53178 kw_884 hG hP hS (fun _ h => h) rfl hl.1 ⟨⟨Nat.le_of_ble_eq_true rfl, Nat.le_of_ble_eq_true rfl⟩, Nat.le_of_ble_eq_true rfl, Nat.le_refl _, Nat.le_refl _⟩ rfl dX5_build_23 (fun _ H locs _ hP _ hS => ?_)
  have hP : va_P D.1 j_cl (cW D q (sY (sX (sV (sV (sI (sC u 9 n_5) 4 (jf (u.2.1 4) (-1) 144)) 20 0) 21 0) 9 f_5) 9 g_5)) H := hP
  have hN23 := JF_b (n := 144) (v := -1) p4 (by omega)
  refine j_iconst SS dX5_build_26 ?_
  refine lv_istore_n (lv' := [(2, .int (J 0)), (0, .ref (q 66)), (1, .ref (q (9 + 5 * r)))]) SS.1 SS.2.1 dX5_build_27 rfl hl (by decide) rfl (fun ls hl => ?_)
  have L_28 : ∀ (nn : Nat) (a : Int) (n1 : Int) (f1 : Nat → Int) (g1 : Nat → Int) (h1 : Nat → Int) (H : Heap) (locs : List Loc) (hP : va_P D.1 j_cl (cW D q (sY (sX (sV (sV (sI (sI (sI (sC u 9 n_5) 2 f1) 3 g1) 4 h1) 20 n1) 21 0) 9 f_5) 9 g_5)) H) (hS : va_S A st.heap H locs) (ls : Array Slot) (hl : lv_has ls 4 [(0, .ref (q 66)), (1, .ref (q (9 + 5 * r))), (2, .int (J a))]) (i28_0 : 0 ≤ a ∧ a ≤ 12) (i28_1 : 0 ≤ n1 ∧ n1 ≤ 63) (i28_2 : ∀ k : Nat, 0 ≤ f1 k ∧ f1 k ≤ 12) (i28_3 : ∀ k : Nat, 0 ≤ g1 k ∧ g1 k ≤ 12) (i28_4 : ∀ k : Nat, -1 ≤ h1 k ∧ h1 k ≤ 63), ((12 : Int) - a).toNat < nn → W pr l en (headSpec (jw yX5_build cX5_build 4 none) (jr 4 99)).room st mi (([.ref (q 66), .ref (q (9 + 5 * r))] : List Value).toArray) below meth co H locs 0 0 (MQ below (jWv (fun u' => ∃ n : Int, ∃ f : Nat → Int, ∃ g : Nat → Int, ∃ ls9 : Nat → Int, ∃ gr9 : Nat → Int, ∃ nu9 : Nat → Int, ∃ w3 : Nat → Int64, ∃ w4 : Nat → Int64, ∃ w5 : Nat → Int64, ∃ v20 : Int, ∃ v21 : Int, u' = (sY (sX (sV (sV (sL (sL (sL (sI (sI (sI (sC u 9 n) 2 ls9) 3 gr9) 4 nu9) 3 w3) 4 w4) 5 w5) 20 v20) 21 v21) 9 f) 9 g) ∧ (((0 ≤ n ∧ n ≤ 12) ∧ RV 40 f g) ∧ (∀ k : Nat, 0 ≤ ls9 k ∧ ls9 k ≤ 12) ∧ (∀ k : Nat, 0 ≤ gr9 k ∧ gr9 k ≤ 12) ∧ (∀ k : Nat, -1 ≤ nu9 k ∧ nu9 k ≤ 63) ∧ (0 ≤ v20 ∧ v20 ≤ 63) ∧ 0 ≤ v21 ∧ v21 ≤ 756)) (fun u' H => va_P D.1 j_cl (cW D q u') H) A) (([.ref (q 66), .ref (q (9 + 5 * r))] : List Value).toArray) st 0 0 A) (F0 mi 28 ls []) := by
    intro nn
    induction nn with
    | zero => intros; omega
    | succ nn ih_28 =>
      intro a n1 f1 g1 h1 H locs hP hS ls hl i28_0 i28_1 i28_2 i28_3 i28_4 hm
      refine lv_iload_n SS.1 SS.2.1 dX5_build_28 rfl (lv_at hl 2 rfl) ?_
      refine lv_aload_n SS.1 SS.2.1 dX5_build_29 rfl (lv_at hl 0 rfl) ?_
      refine j_get SS hG hP 66 (v := .ref (q (9 + 5 * 9))) (C := RX5) (T := TX5) (N := 9) rfl rfl inX5 0 (by decide) (ref := "GridPolygons$Mesh") kw_310 rfl rfl dX5_build_30 ?_
      refine j_getS SS hG hP (9 + 5 * 9) (v := .int (J n_5)) (C := RX6) (T := TX6) (N := 3) (cw_pts (by omega)) rfl inX6 2 (by decide) (ref := "GridPolygons$Points") kw_136 kw_134 rfl dX5_build_33 ?_
      refine j_icmp_ge SS (tgt := 113) (x := a) (y := n_5) dX5_build_36 (by decide) (by omega) (by omega) (fun c_36 => ?_) (fun c_36 => ?_)
      · skip
        refine j_iconst SS dX5_build_113 ?_
        refine lv_istore_n (lv' := [(2, .int (J 0)), (0, .ref (q 66)), (1, .ref (q (9 + 5 * r)))]) SS.1 SS.2.1 dX5_build_114 rfl hl (by decide) rfl (fun ls hl => ?_)
        have L_115 : ∀ (nn : Nat) (s : Int) (w1 : Nat → Int64) (w2 : Nat → Int64) (w6 : Nat → Int64) (m1 : Int) (H : Heap) (locs : List Loc) (hP : va_P D.1 j_cl (cW D q (sY (sX (sV (sV (sL (sL (sL (sI (sI (sI (sC u 9 n_5) 2 f1) 3 g1) 4 h1) 3 w1) 4 w2) 5 w6) 20 n1) 21 m1) 9 f_5) 9 g_5)) H) (hS : va_S A st.heap H locs) (ls : Array Slot) (hl : lv_has ls 4 [(0, .ref (q 66)), (1, .ref (q (9 + 5 * r))), (2, .int (J s))]) (i115_0 : 0 ≤ s ∧ s ≤ 63) (i115_1 : 0 ≤ m1 ∧ m1 ≤ 756), ((63 : Int) - s).toNat < nn → W pr l en (headSpec (jw yX5_build cX5_build 4 none) (jr 4 99)).room st mi (([.ref (q 66), .ref (q (9 + 5 * r))] : List Value).toArray) below meth co H locs 0 0 (MQ below (jWv (fun u' => ∃ n : Int, ∃ f : Nat → Int, ∃ g : Nat → Int, ∃ ls9 : Nat → Int, ∃ gr9 : Nat → Int, ∃ nu9 : Nat → Int, ∃ w3 : Nat → Int64, ∃ w4 : Nat → Int64, ∃ w5 : Nat → Int64, ∃ v20 : Int, ∃ v21 : Int, u' = (sY (sX (sV (sV (sL (sL (sL (sI (sI (sI (sC u 9 n) 2 ls9) 3 gr9) 4 nu9) 3 w3) 4 w4) 5 w5) 20 v20) 21 v21) 9 f) 9 g) ∧ (((0 ≤ n ∧ n ≤ 12) ∧ RV 40 f g) ∧ (∀ k : Nat, 0 ≤ ls9 k ∧ ls9 k ≤ 12) ∧ (∀ k : Nat, 0 ≤ gr9 k ∧ gr9 k ≤ 12) ∧ (∀ k : Nat, -1 ≤ nu9 k ∧ nu9 k ≤ 63) ∧ (0 ≤ v20 ∧ v20 ≤ 63) ∧ 0 ≤ v21 ∧ v21 ≤ 756)) (fun u' H => va_P D.1 j_cl (cW D q u') H) A) (([.ref (q 66), .ref (q (9 + 5 * r))] : List Value).toArray) st 0 0 A) (F0 mi 115 ls []) := by
          intro nn
          induction nn with
          | zero => intros; omega
          | succ nn ih_115 =>
            intro s w1 w2 w6 m1 H locs hP hS ls hl i115_0 i115_1 hm
            refine lv_iload_n SS.1 SS.2.1 dX5_build_115 rfl (lv_at hl 2 rfl) ?_
            refine lv_aload_n SS.1 SS.2.1 dX5_build_116 rfl (lv_at hl 0 rfl) ?_
            refine j_get SS hG hP 66 (v := .int (J n1)) (C := RX5) (T := TX5) (N := 9) rfl rfl inX5 5 (by decide) (ref := "GridPolygons$Mesh") kw_315 rfl rfl dX5_build_117 ?_
            refine j_icmp_ge SS (tgt := 139) (x := s) (y := n1) dX5_build_120 (by decide) (by omega) (by omega) (fun c_120 => ?_) (fun c_120 => ?_)
            · skip
              exact W.vret SS.1 SS.2.1 hr (fun t0 ht hW => ⟨⟨(sY (sX (sV (sV (sL (sL (sL (sI (sI (sI (sC u 9 n_5) 2 f1) 3 g1) 4 h1) 3 w1) 4 w2) 5 w6) 20 n1) 21 m1) 9 f_5) 9 g_5), rfl, (⟨n_5, f_5, g_5, f1, g1, h1, w1, w2, w6, n1, m1, rfl, ⟨h_5, i28_2, i28_3, i28_4, by omega, by omega⟩⟩), by show va_P D.1 j_cl (cW D q (sY (sX (sV (sV (sL (sL (sL (sI (sI (sI (sC u 9 n_5) 2 f1) 3 g1) 4 h1) 3 w1) 4 w2) 5 w6) 20 n1) 21 m1) 9 f_5) 9 g_5)) t0.heap; rw [ht]; first | exact hP | (simp only [sI_id, sL_id, sC_id, sX_id, sY_id, sH_id, sT_id, sV_id]; exact hP)⟩, hS.F ht⟩) hS.2.2 dX5_build_139 hlk
            · skip
              refine lv_aload_n SS.1 SS.2.1 dX5_build_123 rfl (lv_at hl 0 rfl) ?_
              refine lv_iload_n SS.1 SS.2.1 dX5_build_124 rfl (lv_at hl 2 rfl) ?_
              refine j_vWv SS (As := [.int (J s)]) (rest := []) (c_X5_noteCrossed l D q (sY (sX (sV (sV (sL (sL (sL (sI (sI (sI (sC u 9 n_5) 2 f1) 3 g1) 4 h1) 3 w1) 4 w2) 5 w6) 20 n1) 21 m1) 9 f_5) 9 g_5) A (cW_D hD)  s (show RB 40 (sY (sX (sV (sV (sL (sL (sL (sI (sI (sI (sC u 9 n_5) 2 f1) 3 g1) 4 h1) 3 w1) 4 w2) 5 w6) 20 n1) 21 m1) 9 f_5) 9 g_5) 9 from (hR9)) (show -2147483648 ≤ s ∧ s ≤ 2147483647 from (by omega)) (show ∀ k : Nat, 0 ≤ f1 k ∧ f1 k ≤ 12 from (i28_2)) (show ∀ k : Nat, 0 ≤ g1 k ∧ g1 k ≤ 12 from (i28_3)) (show 0 ≤ n1 ∧ n1 ≤ 63 from (by omega))) mf_X5_noteCrossed kw_896 hG hP hP (ci := 5) (q0 := 66) rfl rfl rfl hS (fun _ h => h) rfl hl.1 ⟨⟨Nat.le_of_ble_eq_true rfl, Nat.le_of_ble_eq_true rfl⟩, Nat.le_of_ble_eq_true rfl, Nat.le_refl _, Nat.le_refl _⟩ rfl dX5_build_125 (fun u125 H locs h_125 hP _ hS => ?_)
              obtain ⟨w_125, rfl, h_125⟩ := h_125
              have hP : va_P D.1 j_cl (cW D q (sY (sX (sV (sV (sL (sL (sL (sI (sI (sI (sC u 9 n_5) 2 f1) 3 g1) 4 h1) 3 w_125) 4 w2) 5 w6) 20 n1) 21 m1) 9 f_5) 9 g_5)) H := hP
              have h_125 : True := h_125
              refine lv_aload_n SS.1 SS.2.1 dX5_build_128 rfl (lv_at hl 0 rfl) ?_
              refine lv_iload_n SS.1 SS.2.1 dX5_build_129 rfl (lv_at hl 2 rfl) ?_
              refine j_vWv SS (As := [.int (J s)]) (rest := []) (c_X5_noteFlips l D q (sY (sX (sV (sV (sL (sL (sL (sI (sI (sI (sC u 9 n_5) 2 f1) 3 g1) 4 h1) 3 w_125) 4 w2) 5 w6) 20 n1) 21 m1) 9 f_5) 9 g_5) A (cW_D hD)  s (show RB 40 (sY (sX (sV (sV (sL (sL (sL (sI (sI (sI (sC u 9 n_5) 2 f1) 3 g1) 4 h1) 3 w_125) 4 w2) 5 w6) 20 n1) 21 m1) 9 f_5) 9 g_5) 9 from (hR9)) (show -2147483648 ≤ s ∧ s ≤ 2147483647 from (by omega)) (show ∀ k : Nat, 0 ≤ f1 k ∧ f1 k ≤ 12 from (i28_2)) (show ∀ k : Nat, 0 ≤ g1 k ∧ g1 k ≤ 12 from (i28_3)) (show ∀ k : Nat, -1 ≤ h1 k ∧ h1 k ≤ 63 from (i28_4)) (show 0 ≤ m1 ∧ m1 ≤ 756 from (by omega))) mf_X5_noteFlips kw_910 hG hP hP (ci := 5) (q0 := 66) rfl rfl rfl hS (fun _ h => h) rfl hl.1 ⟨⟨Nat.le_of_ble_eq_true rfl, Nat.le_of_ble_eq_true rfl⟩, Nat.le_of_ble_eq_true rfl, Nat.le_refl _, Nat.le_refl _⟩ rfl dX5_build_130 (fun u130 H locs h_130 hP _ hS => ?_)
              obtain ⟨w1_130, w2_130, n_130, rfl, h_130⟩ := h_130
              have hP : va_P D.1 j_cl (cW D q (sY (sX (sV (sV (sL (sL (sL (sI (sI (sI (sC u 9 n_5) 2 f1) 3 g1) 4 h1) 3 w_125) 4 w1_130) 5 w2_130) 20 n1) 21 n_130) 9 f_5) 9 g_5)) H := hP
              have h_130 : 0 ≤ n_130 ∧ n_130 ≤ 756 := h_130
              refine lv_iinc (v := J (s + 1)) (lv' := [(2, .int (J (s + 1))), (0, .ref (q 66)), (1, .ref (q (9 + 5 * r)))]) SS.1 SS.2.1 dX5_build_133 hl (k := 2) rfl (J_add _ _) (by decide) rfl (fun ls hl => ?_)
              refine lv_goto (tgt := 115) SS.1 SS.2.1 dX5_build_136 (by decide) ?_
              exact ih_115 (s + 1) w_125 w1_130 w2_130 n_130 _ _ hP hS ls (lv_sub hl [1, 2, 0] rfl) (by omega) (by omega) (by omega)
        have hP : va_P D.1 j_cl (cW D q (sY (sX (sV (sV (sL (sI (sI (sI (sC u 9 n_5) 2 f1) 3 g1) 4 h1) 3 (u.2.2.1 3)) 20 n1) 21 0) 9 f_5) 9 g_5)) H := Eq.mpr (congrArg (fun s => va_P D.1 j_cl (cW D q (sY (sX (sV (sV s 20 n1) 21 0) 9 f_5) 9 g_5)) H) (sL_at (u := (sI (sI (sI (sC u 9 n_5) 2 f1) 3 g1) 4 h1)) (r := 3) (x := (u.2.2.1 3)) rfl)) hP
        have hP : va_P D.1 j_cl (cW D q (sY (sX (sV (sV (sL (sL (sI (sI (sI (sC u 9 n_5) 2 f1) 3 g1) 4 h1) 3 (u.2.2.1 3)) 4 (u.2.2.1 4)) 20 n1) 21 0) 9 f_5) 9 g_5)) H := Eq.mpr (congrArg (fun s => va_P D.1 j_cl (cW D q (sY (sX (sV (sV s 20 n1) 21 0) 9 f_5) 9 g_5)) H) (sL_at (u := (sL (sI (sI (sI (sC u 9 n_5) 2 f1) 3 g1) 4 h1) 3 (u.2.2.1 3))) (r := 4) (x := (u.2.2.1 4)) rfl)) hP
        have hP : va_P D.1 j_cl (cW D q (sY (sX (sV (sV (sL (sL (sL (sI (sI (sI (sC u 9 n_5) 2 f1) 3 g1) 4 h1) 3 (u.2.2.1 3)) 4 (u.2.2.1 4)) 5 (u.2.2.1 5)) 20 n1) 21 0) 9 f_5) 9 g_5)) H := Eq.mpr (congrArg (fun s => va_P D.1 j_cl (cW D q (sY (sX (sV (sV s 20 n1) 21 0) 9 f_5) 9 g_5)) H) (sL_at (u := (sL (sL (sI (sI (sI (sC u 9 n_5) 2 f1) 3 g1) 4 h1) 3 (u.2.2.1 3)) 4 (u.2.2.1 4))) (r := 5) (x := (u.2.2.1 5)) rfl)) hP
        exact L_115 (((63 : Int) - (0 : Int)).toNat + 1) 0 (u.2.2.1 3) (u.2.2.1 4) (u.2.2.1 5) 0 _ _ hP hS ls (lv_sub hl [1, 2, 0] rfl) (by omega) (by omega) (Nat.lt_succ_self _)
      · skip
        refine lv_iload_n SS.1 SS.2.1 dX5_build_39 rfl (lv_at hl 2 rfl) ?_
        refine j_iconst SS dX5_build_40 ?_
        refine j_iadd SS (x := a) (y := 1) dX5_build_41 ?_
        refine lv_istore_n (lv' := [(3, .int (J (a + 1))), (0, .ref (q 66)), (1, .ref (q (9 + 5 * r))), (2, .int (J a))]) SS.1 SS.2.1 dX5_build_42 rfl hl (by decide) rfl (fun ls hl => ?_)
        have L_43 : ∀ (nn : Nat) (b : Int) (n2 : Int) (f2 : Nat → Int) (g2 : Nat → Int) (h2 : Nat → Int) (H : Heap) (locs : List Loc) (hP : va_P D.1 j_cl (cW D q (sY (sX (sV (sV (sI (sI (sI (sC u 9 n_5) 2 f2) 3 g2) 4 h2) 20 n2) 21 0) 9 f_5) 9 g_5)) H) (hS : va_S A st.heap H locs) (ls : Array Slot) (hl : lv_has ls 4 [(0, .ref (q 66)), (1, .ref (q (9 + 5 * r))), (2, .int (J a)), (3, .int (J b))]) (i43_0 : 1 ≤ b ∧ b ≤ 13) (i43_1 : 0 ≤ n2 ∧ n2 ≤ 63) (i43_2 : ∀ k : Nat, 0 ≤ f2 k ∧ f2 k ≤ 12) (i43_3 : ∀ k : Nat, 0 ≤ g2 k ∧ g2 k ≤ 12) (i43_4 : ∀ k : Nat, -1 ≤ h2 k ∧ h2 k ≤ 63), ((13 : Int) - b).toNat < nn → W pr l en (headSpec (jw yX5_build cX5_build 4 none) (jr 4 99)).room st mi (([.ref (q 66), .ref (q (9 + 5 * r))] : List Value).toArray) below meth co H locs 0 0 (MQ below (jWv (fun u' => ∃ n : Int, ∃ f : Nat → Int, ∃ g : Nat → Int, ∃ ls9 : Nat → Int, ∃ gr9 : Nat → Int, ∃ nu9 : Nat → Int, ∃ w3 : Nat → Int64, ∃ w4 : Nat → Int64, ∃ w5 : Nat → Int64, ∃ v20 : Int, ∃ v21 : Int, u' = (sY (sX (sV (sV (sL (sL (sL (sI (sI (sI (sC u 9 n) 2 ls9) 3 gr9) 4 nu9) 3 w3) 4 w4) 5 w5) 20 v20) 21 v21) 9 f) 9 g) ∧ (((0 ≤ n ∧ n ≤ 12) ∧ RV 40 f g) ∧ (∀ k : Nat, 0 ≤ ls9 k ∧ ls9 k ≤ 12) ∧ (∀ k : Nat, 0 ≤ gr9 k ∧ gr9 k ≤ 12) ∧ (∀ k : Nat, -1 ≤ nu9 k ∧ nu9 k ≤ 63) ∧ (0 ≤ v20 ∧ v20 ≤ 63) ∧ 0 ≤ v21 ∧ v21 ≤ 756)) (fun u' H => va_P D.1 j_cl (cW D q u') H) A) (([.ref (q 66), .ref (q (9 + 5 * r))] : List Value).toArray) st 0 0 A) (F0 mi 43 ls []) := by
          intro nn
          induction nn with
          | zero => intros; omega
          | succ nn ih_43 =>
            intro b n2 f2 g2 h2 H locs hP hS ls hl i43_0 i43_1 i43_2 i43_3 i43_4 hm
            refine lv_iload_n SS.1 SS.2.1 dX5_build_43 rfl (lv_at hl 3 rfl) ?_
            refine lv_aload_n SS.1 SS.2.1 dX5_build_44 rfl (lv_at hl 0 rfl) ?_
            refine j_get SS hG hP 66 (v := .ref (q (9 + 5 * 9))) (C := RX5) (T := TX5) (N := 9) rfl rfl inX5 0 (by decide) (ref := "GridPolygons$Mesh") kw_310 rfl rfl dX5_build_45 ?_
            refine j_getS SS hG hP (9 + 5 * 9) (v := .int (J n_5)) (C := RX6) (T := TX6) (N := 3) (cw_pts (by omega)) rfl inX6 2 (by decide) (ref := "GridPolygons$Points") kw_136 kw_134 rfl dX5_build_48 ?_
            refine j_icmp_ge SS (tgt := 107) (x := b) (y := n_5) dX5_build_51 (by decide) (by omega) (by omega) (fun c_51 => ?_) (fun c_51 => ?_)
            · skip
              refine lv_iinc (v := J (a + 1)) (lv' := [(2, .int (J (a + 1))), (0, .ref (q 66)), (1, .ref (q (9 + 5 * r))), (3, .int (J b))]) SS.1 SS.2.1 dX5_build_107 hl (k := 2) rfl (J_add _ _) (by decide) rfl (fun ls hl => ?_)
              refine lv_goto (tgt := 28) SS.1 SS.2.1 dX5_build_110 (by decide) ?_
              exact ih_28 (a + 1) n2 f2 g2 h2 _ _ hP hS ls (lv_sub hl [1, 2, 0] rfl) (by omega) (by omega) (i43_2) (i43_3) (i43_4) (by omega)
            · skip
              refine lv_aload_n SS.1 SS.2.1 dX5_build_54 rfl (lv_at hl 0 rfl) ?_
              refine j_get SS hG hP 66 (v := .ref (q (9 + 5 * 9))) (C := RX5) (T := TX5) (N := 9) rfl rfl inX5 0 (by decide) (ref := "GridPolygons$Mesh") kw_310 rfl rfl dX5_build_55 ?_
              refine lv_iload_n SS.1 SS.2.1 dX5_build_58 rfl (lv_at hl 3 rfl) ?_
              refine j_uRi SS (As := [.int (J b)]) (rest := []) (c_X8_xP l D q (sY (sX (sV (sV (sI (sI (sI (sC u 9 n_5) 2 f2) 3 g2) 4 h2) 20 n2) 21 0) 9 f_5) 9 g_5) 9 (by omega) b (show -2147483648 ≤ b ∧ b ≤ 2147483647 from (by omega))) mu_6_x kw_885 hG hP hP (ci := 6) (q0 := (9 + 5 * 9)) rfl (cw_pts (by omega)) rfl rfl hl.1 ⟨⟨Nat.le_of_ble_eq_true rfl, Nat.le_of_ble_eq_true rfl⟩, Nat.le_of_ble_eq_true rfl, Nat.le_refl _, Nat.le_refl _⟩ rfl dX5_build_59 (fun z_59 h_59 => ?_)
              have h_59 : z_59 = rx (sY (sX (sV (sV (sI (sI (sI (sC u 9 n_5) 2 f2) 3 g2) 4 h2) 20 n2) 21 0) 9 f_5) 9 g_5) 9 b ∧ ∀ K : Int, 0 ≤ K → RB K (sY (sX (sV (sV (sI (sI (sI (sC u 9 n_5) 2 f2) 3 g2) 4 h2) 20 n2) 21 0) 9 f_5) 9 g_5) 9 → -K ≤ z_59 ∧ z_59 ≤ K := h_59
              have hb_59 := h_59.2 40 (by omega) (hR9)
              refine lv_aload_n SS.1 SS.2.1 dX5_build_62 rfl (lv_at hl 0 rfl) ?_
              refine j_get SS hG hP 66 (v := .ref (q (9 + 5 * 9))) (C := RX5) (T := TX5) (N := 9) rfl rfl inX5 0 (by decide) (ref := "GridPolygons$Mesh") kw_310 rfl rfl dX5_build_63 ?_
              refine lv_iload_n SS.1 SS.2.1 dX5_build_66 rfl (lv_at hl 2 rfl) ?_
              refine j_uRi SS (As := [.int (J a)]) (rest := [.int (J z_59)]) (c_X8_xP l D q (sY (sX (sV (sV (sI (sI (sI (sC u 9 n_5) 2 f2) 3 g2) 4 h2) 20 n2) 21 0) 9 f_5) 9 g_5) 9 (by omega) a (show -2147483648 ≤ a ∧ a ≤ 2147483647 from (by omega))) mu_6_x kw_885 hG hP hP (ci := 6) (q0 := (9 + 5 * 9)) rfl (cw_pts (by omega)) rfl rfl hl.1 ⟨⟨Nat.le_of_ble_eq_true rfl, Nat.le_of_ble_eq_true rfl⟩, Nat.le_of_ble_eq_true rfl, Nat.le_refl _, Nat.le_refl _⟩ rfl dX5_build_67 (fun z_67 h_67 => ?_)
              have h_67 : z_67 = rx (sY (sX (sV (sV (sI (sI (sI (sC u 9 n_5) 2 f2) 3 g2) 4 h2) 20 n2) 21 0) 9 f_5) 9 g_5) 9 a ∧ ∀ K : Int, 0 ≤ K → RB K (sY (sX (sV (sV (sI (sI (sI (sC u 9 n_5) 2 f2) 3 g2) 4 h2) 20 n2) 21 0) 9 f_5) 9 g_5) 9 → -K ≤ z_67 ∧ z_67 ≤ K := h_67
              have hb_67 := h_67.2 40 (by omega) (hR9)
              refine j_isub SS (x := z_59) (y := z_67) dX5_build_70 ?_
              refine lv_aload_n SS.1 SS.2.1 dX5_build_71 rfl (lv_at hl 0 rfl) ?_
              refine j_get SS hG hP 66 (v := .ref (q (9 + 5 * 9))) (C := RX5) (T := TX5) (N := 9) rfl rfl inX5 0 (by decide) (ref := "GridPolygons$Mesh") kw_310 rfl rfl dX5_build_72 ?_
              refine lv_iload_n SS.1 SS.2.1 dX5_build_75 rfl (lv_at hl 3 rfl) ?_
              refine j_uRi SS (As := [.int (J b)]) (rest := [.int (J (z_59 - z_67))]) (c_X8_yP l D q (sY (sX (sV (sV (sI (sI (sI (sC u 9 n_5) 2 f2) 3 g2) 4 h2) 20 n2) 21 0) 9 f_5) 9 g_5) 9 (by omega) b (show -2147483648 ≤ b ∧ b ≤ 2147483647 from (by omega))) mu_6_y kw_888 hG hP hP (ci := 6) (q0 := (9 + 5 * 9)) rfl (cw_pts (by omega)) rfl rfl hl.1 ⟨⟨Nat.le_of_ble_eq_true rfl, Nat.le_of_ble_eq_true rfl⟩, Nat.le_of_ble_eq_true rfl, Nat.le_refl _, Nat.le_refl _⟩ rfl dX5_build_76 (fun z_76 h_76 => ?_)
              have h_76 : z_76 = ry9 (sY (sX (sV (sV (sI (sI (sI (sC u 9 n_5) 2 f2) 3 g2) 4 h2) 20 n2) 21 0) 9 f_5) 9 g_5) 9 b ∧ ∀ K : Int, 0 ≤ K → RB K (sY (sX (sV (sV (sI (sI (sI (sC u 9 n_5) 2 f2) 3 g2) 4 h2) 20 n2) 21 0) 9 f_5) 9 g_5) 9 → -K ≤ z_76 ∧ z_76 ≤ K := h_76
              have hb_76 := h_76.2 40 (by omega) (hR9)
              refine lv_aload_n SS.1 SS.2.1 dX5_build_79 rfl (lv_at hl 0 rfl) ?_
              refine j_get SS hG hP 66 (v := .ref (q (9 + 5 * 9))) (C := RX5) (T := TX5) (N := 9) rfl rfl inX5 0 (by decide) (ref := "GridPolygons$Mesh") kw_310 rfl rfl dX5_build_80 ?_
              refine lv_iload_n SS.1 SS.2.1 dX5_build_83 rfl (lv_at hl 2 rfl) ?_
              refine j_uRi SS (As := [.int (J a)]) (rest := [.int (J z_76), .int (J (z_59 - z_67))]) (c_X8_yP l D q (sY (sX (sV (sV (sI (sI (sI (sC u 9 n_5) 2 f2) 3 g2) 4 h2) 20 n2) 21 0) 9 f_5) 9 g_5) 9 (by omega) a (show -2147483648 ≤ a ∧ a ≤ 2147483647 from (by omega))) mu_6_y kw_888 hG hP hP (ci := 6) (q0 := (9 + 5 * 9)) rfl (cw_pts (by omega)) rfl rfl hl.1 ⟨⟨Nat.le_of_ble_eq_true rfl, Nat.le_of_ble_eq_true rfl⟩, Nat.le_of_ble_eq_true rfl, Nat.le_refl _, Nat.le_refl _⟩ rfl dX5_build_84 (fun z_84 h_84 => ?_)
              have h_84 : z_84 = ry9 (sY (sX (sV (sV (sI (sI (sI (sC u 9 n_5) 2 f2) 3 g2) 4 h2) 20 n2) 21 0) 9 f_5) 9 g_5) 9 a ∧ ∀ K : Int, 0 ≤ K → RB K (sY (sX (sV (sV (sI (sI (sI (sC u 9 n_5) 2 f2) 3 g2) 4 h2) 20 n2) 21 0) 9 f_5) 9 g_5) 9 → -K ≤ z_84 ∧ z_84 ≤ K := h_84
              have hb_84 := h_84.2 40 (by omega) (hR9)
              refine j_isub SS (x := z_76) (y := z_84) dX5_build_87 ?_
              refine j_nRi SS (As := [.int (J (z_59 - z_67)), .int (J (z_76 - z_84))]) (rest := []) (c_X11_gcd l D  (z_59 - z_67) (z_76 - z_84) (show -100000 ≤ (z_59 - z_67) ∧ (z_59 - z_67) ≤ 100000 from (by omega)) (show -100000 ≤ (z_76 - z_84) ∧ (z_76 - z_84) ≤ 100000 from (by omega))) mf_X11_gcd hG.2.2.2.2 hG trivial rfl hl.1 ⟨⟨Nat.le_of_ble_eq_true rfl, Nat.le_of_ble_eq_true rfl⟩, Nat.le_of_ble_eq_true rfl, Nat.le_refl _, Nat.le_refl _⟩ rfl dX5_build_88 (fun z_88 h_88 => ?_)
              have h_88 : z_88 = (Int.gcd (z_59 - z_67) (z_76 - z_84) : Int) := h_88
              have gb := gcd_b (a := z_59 - z_67) (b := z_76 - z_84) (K := 80) (by omega) (by omega)
              rw [← h_88] at gb
              refine j_iconst SS dX5_build_91 ?_
              refine j_icmp_ne SS (tgt := 101) (x := z_88) (y := 1) dX5_build_92 (by decide) (by omega) (by decide) (fun c_92 => ?_) (fun c_92 => ?_)
              · skip
                refine lv_iinc (v := J (b + 1)) (lv' := [(3, .int (J (b + 1))), (0, .ref (q 66)), (1, .ref (q (9 + 5 * r))), (2, .int (J a))]) SS.1 SS.2.1 dX5_build_101 hl (k := 3) rfl (J_add _ _) (by decide) rfl (fun ls hl => ?_)
                refine lv_goto (tgt := 43) SS.1 SS.2.1 dX5_build_104 (by decide) ?_
                exact ih_43 (b + 1) n2 f2 g2 h2 _ _ hP hS ls (lv_sub hl [1, 2, 3, 0] rfl) (by omega) (by omega) (by first | exact i43_2 | exact h_98.2.1) (by first | exact i43_3 | exact h_98.2.2.1) (by first | exact i43_4 | exact h_98.2.2.2) (by omega)
              · skip
                refine lv_aload_n SS.1 SS.2.1 dX5_build_95 rfl (lv_at hl 0 rfl) ?_
                refine lv_iload_n SS.1 SS.2.1 dX5_build_96 rfl (lv_at hl 2 rfl) ?_
                refine lv_iload_n SS.1 SS.2.1 dX5_build_97 rfl (lv_at hl 3 rfl) ?_
                refine j_vWv SS (As := [.int (J a), .int (J b)]) (rest := []) (c_X5_appendSegment l D q (sY (sX (sV (sV (sI (sI (sI (sC u 9 n_5) 2 f2) 3 g2) 4 h2) 20 n2) 21 0) 9 f_5) 9 g_5) A (cW_D hD)  a b (show 0 ≤ a ∧ a ≤ 12 from (by omega)) (show 0 ≤ b ∧ b ≤ 12 from (by omega)) (show 0 ≤ n2 ∧ n2 ≤ 63 from (by omega)) (show ∀ k : Nat, 0 ≤ f2 k ∧ f2 k ≤ 12 from (i43_2)) (show ∀ k : Nat, 0 ≤ g2 k ∧ g2 k ≤ 12 from (i43_3)) (show ∀ k : Nat, -1 ≤ h2 k ∧ h2 k ≤ 63 from (i43_4))) mf_X5_appendSegment kw_892 hG hP hP (ci := 5) (q0 := 66) rfl rfl rfl hS (fun _ h => h) rfl hl.1 ⟨⟨Nat.le_of_ble_eq_true rfl, Nat.le_of_ble_eq_true rfl⟩, Nat.le_of_ble_eq_true rfl, Nat.le_refl _, Nat.le_refl _⟩ rfl dX5_build_98 (fun u98 H locs h_98 hP _ hS => ?_)
                obtain ⟨n_98, f_98, g_98, nb_98, rfl, h_98⟩ := h_98
                have hP : va_P D.1 j_cl (cW D q (sY (sX (sV (sV (sI (sI (sI (sC u 9 n_5) 2 f_98) 3 g_98) 4 nb_98) 20 n_98) 21 0) 9 f_5) 9 g_5)) H := hP
                have h_98 : (0 ≤ n_98 ∧ n_98 ≤ 63) ∧ (∀ k : Nat, 0 ≤ f_98 k ∧ f_98 k ≤ 12) ∧ (∀ k : Nat, 0 ≤ g_98 k ∧ g_98 k ≤ 12) ∧ (∀ k : Nat, -1 ≤ nb_98 k ∧ nb_98 k ≤ 63) := h_98
                refine lv_iinc (v := J (b + 1)) (lv' := [(3, .int (J (b + 1))), (0, .ref (q 66)), (1, .ref (q (9 + 5 * r))), (2, .int (J a))]) SS.1 SS.2.1 dX5_build_101 hl (k := 3) rfl (J_add _ _) (by decide) rfl (fun ls hl => ?_)
                refine lv_goto (tgt := 43) SS.1 SS.2.1 dX5_build_104 (by decide) ?_
                exact ih_43 (b + 1) n_98 f_98 g_98 nb_98 _ _ hP hS ls (lv_sub hl [1, 2, 3, 0] rfl) (by omega) (by omega) (by first | exact i43_2 | exact h_98.2.1) (by first | exact i43_3 | exact h_98.2.2.1) (by first | exact i43_4 | exact h_98.2.2.2) (by omega)
        exact L_43 (((13 : Int) - (a + 1)).toNat + 1) (a + 1) n1 f1 g1 h1 _ _ hP hS ls (lv_sub hl [1, 2, 3, 0] rfl) (by omega) (by omega) (i28_2) (i28_3) (i28_4) (Nat.lt_succ_self _)
  have hP : va_P D.1 j_cl (cW D q (sY (sX (sV (sV (sI (sI (sC u 9 n_5) 2 (u.2.1 2)) 4 (jf (u.2.1 4) (-1) 144)) 20 0) 21 0) 9 f_5) 9 g_5)) H := Eq.mpr (congrArg (fun s => va_P D.1 j_cl (cW D q (sY (sX (sV (sV (sI s 4 (jf (u.2.1 4) (-1) 144)) 20 0) 21 0) 9 f_5) 9 g_5)) H) (sI_at (u := (sC u 9 n_5)) (r := 2) (x := (u.2.1 2)) rfl)) hP
  have hP : va_P D.1 j_cl (cW D q (sY (sX (sV (sV (sI (sI (sI (sC u 9 n_5) 2 (u.2.1 2)) 3 (u.2.1 3)) 4 (jf (u.2.1 4) (-1) 144)) 20 0) 21 0) 9 f_5) 9 g_5)) H := Eq.mpr (congrArg (fun s => va_P D.1 j_cl (cW D q (sY (sX (sV (sV (sI s 4 (jf (u.2.1 4) (-1) 144)) 20 0) 21 0) 9 f_5) 9 g_5)) H) (sI_at (u := (sI (sC u 9 n_5) 2 (u.2.1 2))) (r := 3) (x := (u.2.1 3)) rfl)) hP
  exact L_28 (((12 : Int) - (0 : Int)).toNat + 1) 0 0 (u.2.1 2) (u.2.1 3) (jf (u.2.1 4) (-1) 144) _ _ hP hS ls (lv_sub hl [1, 2, 0] rfl) (by omega) (by omega) (p2) (p3) (hN23) (Nat.lt_succ_self _)


set_option maxHeartbeats 4000000 in
set_option maxRecDepth 100000 in
theorem c_X2_farOf (l : Launch) (D : JD) (q : Nat → Nat) (u : CS) (i : Int) (p0 : -2147483648 ≤ i ∧ i ≤ 2147483647) : Met l yX2_farOf (jw yX2_farOf cX2_farOf 2 (some .int)) (jr 0 0) (jP [.ref (q 6), .int (J i)] D (fun H => va_P D.1 j_cl (cW D q u) H)) (jRi (fun z => True)) 0 0 (fun _ => False) := by
  refine Met.ofW (cc := cX2_farOf) (maxL := 2) (ret := (some .int)) (by decide) rfl ?_
  intro pr en st mi args below meth co s₁ B hml hv
  obtain ⟨rfl, hG, hP⟩ := hv
  have hr := B.returns
  have hlk := B.notSynchronized
  have SS : jS pr mi co cX2_farOf 2 st _ RX2 := ⟨B.exec, B.bytes, hml, findClass_of_methodNamed B.named, fun w hw => atoms_spec (ws := (jw yX2_farOf cX2_farOf 2 (some .int))) B.pre w (List.mem_cons_of_mem _ hw)⟩
  have hl := lv_entry ([.ref (q 6), .int (J i)]) (n := 2) (Nat.le_of_ble_eq_true rfl)
  rw [lg_entry_eq]
  generalize (lg_sl ([.ref (q 6), .int (J i)]) ++ List.replicate (2 - (lg_sl ([.ref (q 6), .int (J i)])).length) Slot.unset).toArray = ls at hl ⊢
  have hl : lv_has ls 2 [(0, .ref (q 6)), (1, .int (J i))] := hl
  refine lv_iload_n SS.1 SS.2.1 dX2_farOf_0 rfl (lv_at hl 1 rfl) ?_
  refine j_if_lt SS (tgt := 22) (x := i) dX2_farOf_1 (by decide) (by omega) (fun c_1 => ?_) (fun c_1 => ?_)
  · skip
    refine j_iconst SS dX2_farOf_22 ?_
    exact W.iret SS.1 SS.2.1 hr (fun t0 ht hW => ⟨_, rfl, ⟨0, rfl, (trivial)⟩, ht⟩) (fun _ h => nomatch h) dX2_farOf_23 hlk
  · skip
    refine lv_iload_n SS.1 SS.2.1 dX2_farOf_4 rfl (lv_at hl 1 rfl) ?_
    refine lv_aload_n SS.1 SS.2.1 dX2_farOf_5 rfl (lv_at hl 0 rfl) ?_
    refine j_get SS hG hP 6 (v := .ref (q 64)) (C := RX2) (T := TX2) (N := 7) rfl rfl inX2 2 (by decide) (ref := "GridPolygons$Cuts") kw_342 rfl rfl dX2_farOf_6 ?_
    refine va_alen SS.1 SS.2.1 hG.1 hP 64 0 rfl rfl (v := J (1500 : Int)) (by first | rfl | exact J_nat _) dX2_farOf_9 ?_
    refine j_icmp_ge SS (tgt := 22) (x := i) (y := 1500) dX2_farOf_10 (by decide) (by omega) (by decide) (fun c_10 => ?_) (fun c_10 => ?_)
    · skip
      refine j_iconst SS dX2_farOf_22 ?_
      exact W.iret SS.1 SS.2.1 hr (fun t0 ht hW => ⟨_, rfl, ⟨0, rfl, (trivial)⟩, ht⟩) (fun _ h => nomatch h) dX2_farOf_23 hlk
    · skip
      refine lv_aload_n SS.1 SS.2.1 dX2_farOf_13 rfl (lv_at hl 0 rfl) ?_
      refine j_get SS hG hP 6 (v := .ref (q 64)) (C := RX2) (T := TX2) (N := 7) rfl rfl inX2 2 (by decide) (ref := "GridPolygons$Cuts") kw_342 rfl rfl dX2_farOf_14 ?_
      refine lv_iload_n SS.1 SS.2.1 dX2_farOf_17 rfl (lv_at hl 1 rfl) ?_
      refine j_iald SS hG hP 64 (n := 1500) (f := (u.2.1 7)) rfl (z := i) (by omega) (by omega) dX2_farOf_18 ?_
      refine lv_goto (tgt := 23) SS.1 SS.2.1 dX2_farOf_19 (by decide) ?_
      exact W.iret SS.1 SS.2.1 hr (fun t0 ht hW => ⟨_, rfl, ⟨((u.2.1 7) (i).toNat), rfl, (trivial)⟩, ht⟩) (fun _ h => nomatch h) dX2_farOf_23 hlk

set_option maxHeartbeats 4000000 in
set_option maxRecDepth 100000 in
theorem c_X2_setOf (l : Launch) (D : JD) (q : Nat → Nat) (u : CS) (i : Int) (p0 : -2147483648 ≤ i ∧ i ≤ 2147483647) : Met l yX2_setOf (jw yX2_setOf cX2_setOf 2 (some .long)) (jr 0 0) (jP [.ref (q 6), .int (J i)] D (fun H => va_P D.1 j_cl (cW D q u) H)) (vp_Sl (fun x9 => True)) 0 0 (fun _ => False) := by
  refine Met.ofW (cc := cX2_setOf) (maxL := 2) (ret := (some .long)) (by decide) rfl ?_
  intro pr en st mi args below meth co s₁ B hml hv
  obtain ⟨rfl, hG, hP⟩ := hv
  have hr := B.returns
  have hlk := B.notSynchronized
  have SS : jS pr mi co cX2_setOf 2 st _ RX2 := ⟨B.exec, B.bytes, hml, findClass_of_methodNamed B.named, fun w hw => atoms_spec (ws := (jw yX2_setOf cX2_setOf 2 (some .long))) B.pre w (List.mem_cons_of_mem _ hw)⟩
  have hl := lv_entry ([.ref (q 6), .int (J i)]) (n := 2) (Nat.le_of_ble_eq_true rfl)
  rw [lg_entry_eq]
  generalize (lg_sl ([.ref (q 6), .int (J i)]) ++ List.replicate (2 - (lg_sl ([.ref (q 6), .int (J i)])).length) Slot.unset).toArray = ls at hl ⊢
  have hl : lv_has ls 2 [(0, .ref (q 6)), (1, .int (J i))] := hl
  refine lv_iload_n SS.1 SS.2.1 dX2_setOf_0 rfl (lv_at hl 1 rfl) ?_
  refine j_if_lt SS (tgt := 22) (x := i) dX2_setOf_1 (by decide) (by omega) (fun c_1 => ?_) (fun c_1 => ?_)
  · skip
    refine lv_lconst (v := 0) SS.1 SS.2.1 dX2_setOf_22 (by decide +kernel) ?_
    exact W.lret SS.1 SS.2.1 hr (fun t0 ht hW => ⟨_, rfl, (trivial), ht⟩) (fun _ h => nomatch h) dX2_setOf_23 hlk
  · skip
    refine lv_iload_n SS.1 SS.2.1 dX2_setOf_4 rfl (lv_at hl 1 rfl) ?_
    refine lv_aload_n SS.1 SS.2.1 dX2_setOf_5 rfl (lv_at hl 0 rfl) ?_
    refine j_get SS hG hP 6 (v := .ref (q 69)) (C := RX2) (T := TX2) (N := 7) rfl rfl inX2 1 (by decide) (ref := "GridPolygons$Cuts") kw_341 rfl rfl dX2_setOf_6 ?_
    refine va_alen SS.1 SS.2.1 hG.1 hP 69 1 rfl rfl (v := J (1500 : Int)) (by first | rfl | exact J_nat _) dX2_setOf_9 ?_
    refine j_icmp_ge SS (tgt := 22) (x := i) (y := 1500) dX2_setOf_10 (by decide) (by omega) (by decide) (fun c_10 => ?_) (fun c_10 => ?_)
    · skip
      refine lv_lconst (v := 0) SS.1 SS.2.1 dX2_setOf_22 (by decide +kernel) ?_
      exact W.lret SS.1 SS.2.1 hr (fun t0 ht hW => ⟨_, rfl, (trivial), ht⟩) (fun _ h => nomatch h) dX2_setOf_23 hlk
    · skip
      refine lv_aload_n SS.1 SS.2.1 dX2_setOf_13 rfl (lv_at hl 0 rfl) ?_
      refine j_get SS hG hP 6 (v := .ref (q 69)) (C := RX2) (T := TX2) (N := 7) rfl rfl inX2 1 (by decide) (ref := "GridPolygons$Cuts") kw_341 rfl rfl dX2_setOf_14 ?_
      refine lv_iload_n SS.1 SS.2.1 dX2_setOf_17 rfl (lv_at hl 1 rfl) ?_
      refine j_lald SS hG hP 69 (n := 1500) (f := (u.2.2.1 2)) rfl (z := i) (by omega) (by omega) dX2_setOf_18 ?_
      refine lv_goto (tgt := 23) SS.1 SS.2.1 dX2_setOf_19 (by decide) ?_
      exact W.lret SS.1 SS.2.1 hr (fun t0 ht hW => ⟨_, rfl, (trivial), ht⟩) (fun _ h => nomatch h) dX2_setOf_23 hlk

set_option maxHeartbeats 4000000 in
set_option maxRecDepth 100000 in
theorem c_X2_segmentAt (l : Launch) (D : JD) (q : Nat → Nat) (u : CS) (i : Int) (w : Int) (p0 : -2147483648 ≤ i ∧ i ≤ 2147483647) (p1 : 0 ≤ w ∧ w ≤ 2147483647) (p2 : 0 ≤ u.2.2.2 20 ∧ u.2.2.2 20 ≤ 63) : Met l yX2_segmentAt (jw yX2_segmentAt cX2_segmentAt 5 (some .int)) (jr 1 21) (jP [.ref (q 6), .int (J i), .int (J w)] D (fun H => va_P D.1 j_cl (cW D q u) H)) (jRi (fun z => True)) 0 0 (fun _ => False) := by
  refine Met.ofW (cc := cX2_segmentAt) (maxL := 5) (ret := (some .int)) (by decide) rfl ?_
  intro pr en st mi args below meth co s₁ B hml hv
  obtain ⟨rfl, hG, hP⟩ := hv
  have hr := B.returns
  have hlk := B.notSynchronized
  have SS : jS pr mi co cX2_segmentAt 5 st _ RX2 := ⟨B.exec, B.bytes, hml, findClass_of_methodNamed B.named, fun w hw => atoms_spec (ws := (jw yX2_segmentAt cX2_segmentAt 5 (some .int))) B.pre w (List.mem_cons_of_mem _ hw)⟩
  have hl := lv_entry ([.ref (q 6), .int (J i), .int (J w)]) (n := 5) (Nat.le_of_ble_eq_true rfl)
  rw [lg_entry_eq]
  generalize (lg_sl ([.ref (q 6), .int (J i), .int (J w)]) ++ List.replicate (5 - (lg_sl ([.ref (q 6), .int (J i), .int (J w)])).length) Slot.unset).toArray = ls at hl ⊢
  have hl : lv_has ls 5 [(0, .ref (q 6)), (1, .int (J i)), (2, .int (J w))] := hl
  refine lv_iload_n SS.1 SS.2.1 dX2_segmentAt_0 rfl (lv_at hl 2 rfl) ?_
  refine lv_istore_n (lv' := [(3, .int (J w)), (0, .ref (q 6)), (1, .int (J i)), (2, .int (J w))]) SS.1 SS.2.1 dX2_segmentAt_1 rfl hl (by decide) rfl (fun ls hl => ?_)
  refine j_iconst SS dX2_segmentAt_2 ?_
  refine lv_istore (lv' := [(4, .int (J 0)), (3, .int (J w)), (0, .ref (q 6)), (1, .int (J i)), (2, .int (J w))]) SS.1 SS.2.1 dX2_segmentAt_3 hl (by decide) rfl (fun ls hl => ?_)
  have L_5 : ∀ (nn : Nat) (lf : Int) (s : Int) (ls : Array Slot) (hl : lv_has ls 5 [(0, .ref (q 6)), (1, .int (J i)), (2, .int (J w)), (3, .int (J lf)), (4, .int (J s))]) (i5_0 : 0 ≤ s ∧ s ≤ 63) (i5_1 : 0 ≤ lf ∧ lf ≤ 2147483647), ((63 : Int) - s).toNat < nn → W pr l en (headSpec (jw yX2_segmentAt cX2_segmentAt 5 (some .int)) (jr 1 21)).room st mi (([.ref (q 6), .int (J i), .int (J w)] : List Value).toArray) below meth co st.heap [] 0 0 (MQ below (jRi (fun z => True)) (([.ref (q 6), .int (J i), .int (J w)] : List Value).toArray) st 0 0 (fun _ => False)) (F0 mi 5 ls []) := by
    intro nn
    induction nn with
    | zero => intros; omega
    | succ nn ih_5 =>
      intro lf s ls hl i5_0 i5_1 hm
      refine lv_iload SS.1 SS.2.1 dX2_segmentAt_5 (lv_at hl 4 rfl) ?_
      refine lv_aload_n SS.1 SS.2.1 dX2_segmentAt_7 rfl (lv_at hl 0 rfl) ?_
      refine j_get SS hG hP 6 (v := .ref (q 66)) (C := RX2) (T := TX2) (N := 7) rfl rfl inX2 0 (by decide) (ref := "GridPolygons$Cuts") kw_340 rfl rfl dX2_segmentAt_8 ?_
      refine j_get SS hG hP 66 (v := .int (J (u.2.2.2 20))) (C := RX5) (T := TX5) (N := 9) rfl rfl inX5 5 (by decide) (ref := "GridPolygons$Mesh") kw_316 rfl rfl dX2_segmentAt_11 ?_
      refine j_icmp_ge SS (tgt := 55) (x := s) (y := (u.2.2.2 20)) dX2_segmentAt_14 (by decide) (by omega) (by omega) (fun c_14 => ?_) (fun c_14 => ?_)
      · skip
        refine j_iconst SS dX2_segmentAt_55 ?_
        exact W.iret SS.1 SS.2.1 hr (fun t0 ht hW => ⟨_, rfl, ⟨(-1), rfl, (trivial)⟩, ht⟩) (fun _ h => nomatch h) dX2_segmentAt_56 hlk
      · skip
        refine lv_aload_n SS.1 SS.2.1 dX2_segmentAt_17 rfl (lv_at hl 0 rfl) ?_
        refine lv_iload_n SS.1 SS.2.1 dX2_segmentAt_18 rfl (lv_at hl 1 rfl) ?_
        refine j_vRl SS (As := [.int (J i)]) (rest := []) (c_X2_setOf l D q u  i (show -2147483648 ≤ i ∧ i ≤ 2147483647 from (p0))) mf_X2_setOf kw_942 hG hP hP (ci := 2) (q0 := 6) rfl rfl rfl rfl hl.1 ⟨⟨Nat.le_of_ble_eq_true rfl, Nat.le_of_ble_eq_true rfl⟩, Nat.le_of_ble_eq_true rfl, Nat.le_refl _, Nat.le_refl _⟩ rfl dX2_segmentAt_19 (fun x_19 h_19 => ?_)
        refine lv_iload SS.1 SS.2.1 dX2_segmentAt_22 (lv_at hl 4 rfl) ?_
        refine lv_lushr SS.1 SS.2.1 dX2_segmentAt_24 rfl (lv_topl (fun x_24 ex_24 => ?_))
        refine lv_lconst (v := 1) SS.1 SS.2.1 dX2_segmentAt_25 (by decide +kernel) ?_
        refine lv_land SS.1 SS.2.1 dX2_segmentAt_26 ?_
        refine lv_lconst (v := 1) SS.1 SS.2.1 dX2_segmentAt_27 (by decide +kernel) ?_
        refine j_lcmp SS dX2_segmentAt_28 (fun z_28 hz_28 => ?_)
        refine j_if_ne SS (tgt := 49) (x := z_28) dX2_segmentAt_29 (by decide) (by omega) (fun c_29 => ?_) (fun c_29 => ?_)
        · skip
          refine lv_iinc (v := J (s + 1)) (lv' := [(4, .int (J (s + 1))), (0, .ref (q 6)), (1, .int (J i)), (2, .int (J w)), (3, .int (J lf))]) SS.1 SS.2.1 dX2_segmentAt_49 hl (k := 4) rfl (J_add _ _) (by decide) rfl (fun ls hl => ?_)
          refine lv_goto (tgt := 5) SS.1 SS.2.1 dX2_segmentAt_52 (by decide) ?_
          exact ih_5 lf (s + 1) ls (lv_sub hl [1, 2, 3, 4, 0] rfl) (by omega) (by omega) (by omega)
        · skip
          refine lv_iload_n SS.1 SS.2.1 dX2_segmentAt_32 rfl (lv_at hl 3 rfl) ?_
          refine j_if_ne SS (tgt := 46) (x := lf) dX2_segmentAt_33 (by decide) (by omega) (fun c_33 => ?_) (fun c_33 => ?_)
          · skip
            refine lv_iinc (v := J (lf + (-1))) (lv' := [(3, .int (J (lf + (-1)))), (0, .ref (q 6)), (1, .int (J i)), (2, .int (J w)), (4, .int (J s))]) SS.1 SS.2.1 dX2_segmentAt_46 hl (k := 3) rfl (J_add _ _) (by decide) rfl (fun ls hl => ?_)
            refine lv_iinc (v := J (s + 1)) (lv' := [(4, .int (J (s + 1))), (3, .int (J (lf + (-1)))), (0, .ref (q 6)), (1, .int (J i)), (2, .int (J w))]) SS.1 SS.2.1 dX2_segmentAt_49 hl (k := 4) rfl (J_add _ _) (by decide) rfl (fun ls hl => ?_)
            refine lv_goto (tgt := 5) SS.1 SS.2.1 dX2_segmentAt_52 (by decide) ?_
            exact ih_5 (lf + (-1)) (s + 1) ls (lv_sub hl [2, 3, 4, 1, 0] rfl) (by omega) (by omega) (by omega)
          · skip
            refine lv_aload_n SS.1 SS.2.1 dX2_segmentAt_36 rfl (lv_at hl 0 rfl) ?_
            refine j_get SS hG hP 6 (v := .ref (q 66)) (C := RX2) (T := TX2) (N := 7) rfl rfl inX2 0 (by decide) (ref := "GridPolygons$Cuts") kw_340 rfl rfl dX2_segmentAt_37 ?_
            refine lv_iload SS.1 SS.2.1 dX2_segmentAt_40 (lv_at hl 4 rfl) ?_
            refine j_vRi SS (As := [.int (J s)]) (rest := []) (c_X5_told l D q u  s (show -2147483648 ≤ s ∧ s ≤ 2147483647 from (by omega))) mf_X5_told kw_967 hG hP hP (ci := 5) (q0 := 66) rfl rfl rfl rfl hl.1 ⟨⟨Nat.le_of_ble_eq_true rfl, Nat.le_of_ble_eq_true rfl⟩, Nat.le_of_ble_eq_true rfl, Nat.le_refl _, Nat.le_refl _⟩ rfl dX2_segmentAt_42 (fun z_42 h_42 => ?_)
            have h_42 : True := h_42
            exact W.iret SS.1 SS.2.1 hr (fun t0 ht hW => ⟨_, rfl, ⟨z_42, rfl, (trivial)⟩, ht⟩) (fun _ h => nomatch h) dX2_segmentAt_45 hlk
  exact L_5 (((63 : Int) - (0 : Int)).toNat + 1) w 0 ls (lv_sub hl [2, 3, 4, 1, 0] rfl) (by omega) (by omega) (Nat.lt_succ_self _)

