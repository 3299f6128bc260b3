
theorem RB_nc {K : Int} {u : CS} {r k : Nat} {n : Int} (h : r ≠ k) (q : RB K u r) : RB K (sC u k n) r := by
  have e1 : (sC u k n).1.2.2.1 r = u.1.2.2.1 r := if_neg h
  unfold RB; rw [e1]; exact q
theorem RB_ne {K : Int} {u : CS} {r k : Nat} {n : Int} {f g : Nat → Int} (h : r ≠ k) (q : RB K u r) : RB K (sY (sX (sC u k n) k f) k g) r := by
  have e1 : (sY (sX (sC u k n) k f) k g).1.2.2.1 r = u.1.2.2.1 r := if_neg h
  have e2 : (sY (sX (sC u k n) k f) k g).1.1 r = u.1.1 r := if_neg h
  have e3 : (sY (sX (sC u k n) k f) k g).1.2.1 r = u.1.2.1 r := if_neg h
  unfold RB; rw [e1, e2, e3]; exact q

set_option maxHeartbeats 4000000 in
set_option maxRecDepth 100000 in
theorem c_X6_fill_9 (l : Launch) (D : JD) (q : Nat → Nat) (u : CS) (A : Nat → Prop) (hD : va_D A (cW D q u)) (r : Nat) (hr : r ≤ 8) (p0 : RB 40 u r) (p1 : RB 40 u 9) : Met l yX6_fill (jw yX6_fill cX6_fill 5 none) (jr 3 68) (jP [.ref (q (9 + 5 * 9)), .ref (q (9 + 5 * r))] D (fun H => va_P D.1 j_cl (cW D q u) H)) (jWv (fun u' => ∃ n : Int, ∃ f : Nat → Int, ∃ g : Nat → Int, u' = (sY (sX (sC u 9 n) 9 f) 9 g) ∧ ((0 ≤ n ∧ n ≤ 12) ∧ RV 40 f g)) (fun u' H => va_P D.1 j_cl (cW D q u') H) A) 0 0 A := by
  refine Met.ofW (cc := cX6_fill) (maxL := 5) (ret := none) (by decide) rfl ?_
  intro pr en st mi args below meth co s₁ B hml hv
  obtain ⟨rfl, hG, hP⟩ := hv
  have hr := B.returns
  have hlk := B.notSynchronized
  have SS : jS pr mi co cX6_fill 5 st _ RX6 := ⟨B.exec, B.bytes, hml, findClass_of_methodNamed B.named, fun w hw => atoms_spec (ws := (jw yX6_fill cX6_fill 5 none)) B.pre w (List.mem_cons_of_mem _ hw)⟩
  have hl := lv_entry ([.ref (q (9 + 5 * 9)), .ref (q (9 + 5 * r))]) (n := 5) (Nat.le_of_ble_eq_true rfl)
  rw [lg_entry_eq]
  generalize (lg_sl ([.ref (q (9 + 5 * 9)), .ref (q (9 + 5 * r))]) ++ List.replicate (5 - (lg_sl ([.ref (q (9 + 5 * 9)), .ref (q (9 + 5 * r))])).length) Slot.unset).toArray = ls at hl ⊢
  have hl : lv_has ls 5 [(0, .ref (q (9 + 5 * 9))), (1, .ref (q (9 + 5 * r)))] := hl
  have hS : va_S A st.heap st.heap [] := va_S.rf
  have hc := p0.1
  have hrl := rl_b r
  have hrk : (rl 9 : Int) = 12 := rfl
  refine lv_aload_n SS.1 SS.2.1 dX6_fill_0 rfl (lv_at hl 0 rfl) ?_
  refine j_iconst SS dX6_fill_1 ?_
  refine j_putS SS hG hP (cW_D hD) hS (9 + 5 * 9) (v := .int (J 0)) (ty := .int) (C := RX6) (T := TX6) (N := 3) (cw_pts (by omega)) rfl inX6 tyX6 tyX6_ok nmX6 2 (by decide) (ref := "GridPolygons$Points") kw_133 kw_134 rfl (by decide +kernel) rfl rfl (Nat.le_of_ble_eq_true rfl) dX6_fill_2 (ws' := (cW D q (sC u 9 0))) (cs_pts (by omega)) (fun H locs hP hS => ?_)
  refine lv_aload_n SS.1 SS.2.1 dX6_fill_5 rfl (lv_at hl 1 rfl) ?_
  refine j_vRi SS (As := []) (rest := []) (c_X7_leftmost l D q (sC u 9 0) r (by omega) (40 : Int)  (show 0 ≤ (40 : Int) ∧ (40 : Int) ≤ 80 from (by omega)) (show RB (40 : Int) (sC u 9 0) r from (by first | exact p0 | exact RB_nc (by omega) p0 | exact RB_ne (by omega) p0))) mf_X7_leftmost kw_877 hG hP hP (ci := 7) (q0 := (9 + 5 * r)) rfl (cw_ring (by omega)) rfl rfl hl.1 ⟨⟨Nat.le_of_ble_eq_true rfl, Nat.le_of_ble_eq_true rfl⟩, Nat.le_of_ble_eq_true rfl, Nat.le_refl _, Nat.le_refl _⟩ rfl dX6_fill_6 (fun z_6 h_6 => ?_)
  have h_6 : z_6 = rx (sC u 9 0) r 0 ∧ -(40 : Int) ≤ z_6 ∧ z_6 ≤ (40 : Int) := h_6
  refine lv_istore_n (lv' := [(2, .int (J z_6)), (0, .ref (q (9 + 5 * 9))), (1, .ref (q (9 + 5 * r)))]) SS.1 SS.2.1 dX6_fill_9 rfl hl (by decide) rfl (fun ls hl => ?_)
  have L_10 : ∀ (nn : Nat) (x : Int) (n1 : Int) (f1 : Nat → Int) (g1 : Nat → Int) (H : Heap) (locs : List Loc) (hP : va_P D.1 j_cl (cW D q (sY (sX (sC u 9 n1) 9 f1) 9 g1)) H) (hS : va_S A st.heap H locs) (ls : Array Slot) (hl : lv_has ls 5 [(0, .ref (q (9 + 5 * 9))), (1, .ref (q (9 + 5 * r))), (2, .int (J x))]) (i10_0 : -40 ≤ x ∧ x ≤ 41) (i10_1 : 0 ≤ n1 ∧ n1 ≤ 12) (i10_2 : RV 40 f1 g1), ((41 : Int) - x).toNat < nn → W pr l en (headSpec (jw yX6_fill cX6_fill 5 none) (jr 3 68)).room st mi (([.ref (q (9 + 5 * 9)), .ref (q (9 + 5 * r))] : List Value).toArray) below meth co H locs 0 0 (MQ below (jWv (fun u' => ∃ n : Int, ∃ f : Nat → Int, ∃ g : Nat → Int, u' = (sY (sX (sC u 9 n) 9 f) 9 g) ∧ ((0 ≤ n ∧ n ≤ 12) ∧ RV 40 f g)) (fun u' H => va_P D.1 j_cl (cW D q u') H) A) (([.ref (q (9 + 5 * 9)), .ref (q (9 + 5 * r))] : List Value).toArray) st 0 0 A) (F0 mi 10 ls []) := by
    intro nn
    induction nn with
    | zero => intros; omega
    | succ nn ih_10 =>
      intro x n1 f1 g1 H locs hP hS ls hl i10_0 i10_1 i10_2 hm
      refine lv_iload_n SS.1 SS.2.1 dX6_fill_10 rfl (lv_at hl 2 rfl) ?_
      refine lv_aload_n SS.1 SS.2.1 dX6_fill_11 rfl (lv_at hl 1 rfl) ?_
      refine j_vRi SS (As := []) (rest := [.int (J x)]) (c_X7_rightmost l D q (sY (sX (sC u 9 n1) 9 f1) 9 g1) r (by omega) (40 : Int)  (show 0 ≤ (40 : Int) ∧ (40 : Int) ≤ 80 from (by omega)) (show RB (40 : Int) (sY (sX (sC u 9 n1) 9 f1) 9 g1) r from (by first | exact p0 | exact RB_nc (by omega) p0 | exact RB_ne (by omega) p0))) mf_X7_rightmost kw_878 hG hP hP (ci := 7) (q0 := (9 + 5 * r)) rfl (cw_ring (by omega)) rfl rfl hl.1 ⟨⟨Nat.le_of_ble_eq_true rfl, Nat.le_of_ble_eq_true rfl⟩, Nat.le_of_ble_eq_true rfl, Nat.le_refl _, Nat.le_refl _⟩ rfl dX6_fill_12 (fun z_12 h_12 => ?_)
      have h_12 : -(40 : Int) ≤ z_12 ∧ z_12 ≤ (40 : Int) := h_12
      refine j_icmp_gt SS (tgt := 56) (x := x) (y := z_12) dX6_fill_15 (by decide) (by omega) (by omega) (fun c_15 => ?_) (fun c_15 => ?_)
      · skip
        exact W.vret SS.1 SS.2.1 hr (fun t0 ht hW => ⟨⟨(sY (sX (sC u 9 n1) 9 f1) 9 g1), rfl, (⟨n1, f1, g1, rfl, ⟨by omega, i10_2⟩⟩), by show va_P D.1 j_cl (cW D q (sY (sX (sC u 9 n1) 9 f1) 9 g1)) t0.heap; rw [ht]; first | exact hP | (simp only [sC_id, sX_id, sY_id, sH_id, sT_id, sV_id]; exact hP)⟩, hS.F ht⟩) hS.2.2 dX6_fill_56 hlk
      · skip
        refine lv_aload_n SS.1 SS.2.1 dX6_fill_18 rfl (lv_at hl 1 rfl) ?_
        refine lv_iload_n SS.1 SS.2.1 dX6_fill_19 rfl (lv_at hl 2 rfl) ?_
        refine j_vRi SS (As := [.int (J x)]) (rest := []) (c_X7_highestAt l D q (sY (sX (sC u 9 n1) 9 f1) 9 g1) r (by omega) (40 : Int) x (show 0 ≤ (40 : Int) ∧ (40 : Int) ≤ 80 from (by omega)) (show RB (40 : Int) (sY (sX (sC u 9 n1) 9 f1) 9 g1) r from (by first | exact p0 | exact RB_nc (by omega) p0 | exact RB_ne (by omega) p0)) (show -200 ≤ x ∧ x ≤ 200 from (by omega))) mf_X7_highestAt kw_879 hG hP hP (ci := 7) (q0 := (9 + 5 * r)) rfl (cw_ring (by omega)) rfl rfl hl.1 ⟨⟨Nat.le_of_ble_eq_true rfl, Nat.le_of_ble_eq_true rfl⟩, Nat.le_of_ble_eq_true rfl, Nat.le_refl _, Nat.le_refl _⟩ rfl dX6_fill_20 (fun z_20 h_20 => ?_)
        have h_20 : -60000 ≤ z_20 ∧ z_20 ≤ (40 : Int) := h_20
        refine lv_istore_n (lv' := [(3, .int (J z_20)), (0, .ref (q (9 + 5 * 9))), (1, .ref (q (9 + 5 * r))), (2, .int (J x))]) SS.1 SS.2.1 dX6_fill_23 rfl hl (by decide) rfl (fun ls hl => ?_)
        refine lv_aload_n SS.1 SS.2.1 dX6_fill_24 rfl (lv_at hl 2 rfl) ?_
        refine lv_iload_n SS.1 SS.2.1 dX6_fill_25 rfl (lv_at hl 3 rfl) ?_
        refine j_vRi SS (As := [.int (J x)]) (rest := []) (c_X7_lowestAt l D q (sY (sX (sC u 9 n1) 9 f1) 9 g1) r (by omega) (40 : Int) x (show 0 ≤ (40 : Int) ∧ (40 : Int) ≤ 80 from (by omega)) (show RB (40 : Int) (sY (sX (sC u 9 n1) 9 f1) 9 g1) r from (by first | exact p0 | exact RB_nc (by omega) p0 | exact RB_ne (by omega) p0)) (show -200 ≤ x ∧ x ≤ 200 from (by omega))) mf_X7_lowestAt kw_880 hG hP hP (ci := 7) (q0 := (9 + 5 * r)) rfl (cw_ring (by omega)) rfl rfl hl.1 ⟨⟨Nat.le_of_ble_eq_true rfl, Nat.le_of_ble_eq_true rfl⟩, Nat.le_of_ble_eq_true rfl, Nat.le_refl _, Nat.le_refl _⟩ rfl dX6_fill_26 (fun z_26 h_26 => ?_)
        have h_26 : -(40 : Int) ≤ z_26 ∧ z_26 ≤ 60000 := h_26
        refine lv_istore (lv' := [(4, .int (J z_26)), (3, .int (J z_20)), (0, .ref (q (9 + 5 * 9))), (1, .ref (q (9 + 5 * r))), (2, .int (J x))]) SS.1 SS.2.1 dX6_fill_29 hl (by decide) rfl (fun ls hl => ?_)
        have L_31 : ∀ (nn : Nat) (y : Int) (n2 : Int) (f2 : Nat → Int) (g2 : Nat → Int) (H : Heap) (locs : List Loc) (hP : va_P D.1 j_cl (cW D q (sY (sX (sC u 9 n2) 9 f2) 9 g2)) H) (hS : va_S A st.heap H locs) (ls : Array Slot) (hl : lv_has ls 5 [(0, .ref (q (9 + 5 * 9))), (1, .ref (q (9 + 5 * r))), (2, .int (J x)), (3, .int (J z_20)), (4, .int (J y))]) (i31_0 : -40 ≤ y ∧ y ≤ 60000) (i31_1 : 0 ≤ n2 ∧ n2 ≤ 12) (i31_2 : RV 40 f2 g2), ((41 : Int) - y).toNat < nn → W pr l en (headSpec (jw yX6_fill cX6_fill 5 none) (jr 3 68)).room st mi (([.ref (q (9 + 5 * 9)), .ref (q (9 + 5 * r))] : List Value).toArray) below meth co H locs 0 0 (MQ below (jWv (fun u' => ∃ n : Int, ∃ f : Nat → Int, ∃ g : Nat → Int, u' = (sY (sX (sC u 9 n) 9 f) 9 g) ∧ ((0 ≤ n ∧ n ≤ 12) ∧ RV 40 f g)) (fun u' H => va_P D.1 j_cl (cW D q u') H) A) (([.ref (q (9 + 5 * 9)), .ref (q (9 + 5 * r))] : List Value).toArray) st 0 0 A) (F0 mi 31 ls []) := by
          intro nn
          induction nn with
          | zero => intros; omega
          | succ nn ih_31 =>
            intro y n2 f2 g2 H locs hP hS ls hl i31_0 i31_1 i31_2 hm
            refine lv_iload SS.1 SS.2.1 dX6_fill_31 (lv_at hl 4 rfl) ?_
            refine lv_iload_n SS.1 SS.2.1 dX6_fill_33 rfl (lv_at hl 3 rfl) ?_
            refine j_icmp_gt SS (tgt := 50) (x := y) (y := z_20) dX6_fill_34 (by decide) (by omega) (by omega) (fun c_34 => ?_) (fun c_34 => ?_)
            · skip
              refine lv_iinc (v := J (x + 1)) (lv' := [(2, .int (J (x + 1))), (0, .ref (q (9 + 5 * 9))), (1, .ref (q (9 + 5 * r))), (3, .int (J z_20)), (4, .int (J y))]) SS.1 SS.2.1 dX6_fill_50 hl (k := 2) rfl (J_add _ _) (by decide) rfl (fun ls hl => ?_)
              refine lv_goto (tgt := 10) SS.1 SS.2.1 dX6_fill_53 (by decide) ?_
              exact ih_10 (x + 1) n2 f2 g2 _ _ hP hS ls (lv_sub hl [1, 2, 0] rfl) (by omega) (by omega) (i31_2) (by omega)
            · skip
              refine lv_aload_n SS.1 SS.2.1 dX6_fill_37 rfl (lv_at hl 0 rfl) ?_
              refine lv_iload_n SS.1 SS.2.1 dX6_fill_38 rfl (lv_at hl 2 rfl) ?_
              refine lv_iload SS.1 SS.2.1 dX6_fill_39 (lv_at hl 4 rfl) ?_
              refine j_uWv SS (As := [.int (J x), .int (J y)]) (rest := []) (c_X8_appendP l D q (sY (sX (sC u 9 n2) 9 f2) 9 g2) A (cW_D hD) 9 (by omega) x y (show 0 ≤ n2 ∧ n2 ≤ rl 9 from (by omega))) mu_6_append kw_881 hG hP hP (ci := 6) (q0 := (9 + 5 * 9)) rfl (cw_pts (by omega)) rfl hS (fun _ h => h) rfl hl.1 ⟨⟨Nat.le_of_ble_eq_true rfl, Nat.le_of_ble_eq_true rfl⟩, Nat.le_of_ble_eq_true rfl, Nat.le_refl _, Nat.le_refl _⟩ rfl dX6_fill_41 (fun u41 H locs h_41 hP _ hS => ?_)
              obtain ⟨f_41, g_41, n_41, rfl, h_41⟩ := h_41
              have hP : va_P D.1 j_cl (cW D q (sY (sX (sC u 9 n_41) 9 f_41) 9 g_41)) H := hP
              have h_41 : (n2 < rl 9 ∧ f_41 = upI (f2) (n2).toNat x ∧ g_41 = upI (g2) (n2).toNat y ∧ n_41 = n2 + 1) ∨ (rl 9 ≤ n2 ∧ f_41 = f2 ∧ g_41 = g2 ∧ n_41 = n2) := h_41
              refine lv_iinc (v := J (y + 1)) (lv' := [(4, .int (J (y + 1))), (0, .ref (q (9 + 5 * 9))), (1, .ref (q (9 + 5 * r))), (2, .int (J x)), (3, .int (J z_20))]) SS.1 SS.2.1 dX6_fill_44 hl (k := 4) rfl (J_add _ _) (by decide) rfl (fun ls hl => ?_)
              refine lv_goto (tgt := 31) SS.1 SS.2.1 dX6_fill_47 (by decide) ?_
              exact ih_31 (y + 1) n_41 f_41 g_41 _ _ hP hS ls (lv_sub hl [1, 2, 3, 4, 0] rfl) (by omega) ((ap_b (K := 40) (m := 12) (n0 := n2) (f := f_41) (g := g_41) (n := n_41) (x := x) (y := y) i31_2 (by omega) (by omega) (by omega) (by rw [hrk] at h_41; exact h_41)).1) ((ap_b (K := 40) (m := 12) (n0 := n2) (f := f_41) (g := g_41) (n := n_41) (x := x) (y := y) i31_2 (by omega) (by omega) (by omega) (by rw [hrk] at h_41; exact h_41)).2) (by omega)
        exact L_31 (((41 : Int) - z_26).toNat + 1) z_26 n1 f1 g1 _ _ hP hS ls (lv_sub hl [2, 3, 4, 1, 0] rfl) (by omega) (by omega) (i10_2) (Nat.lt_succ_self _)
  exact L_10 (((41 : Int) - z_6).toNat + 1) z_6 0 (u.1.1 9) (u.1.2.1 9) _ _ hP hS ls (lv_sub hl [1, 2, 0] rfl) (by omega) (by omega) (p1.2) (Nat.lt_succ_self _)

set_option maxHeartbeats 4000000 in
set_option maxRecDepth 100000 in
theorem c_X6_fill_10 (l : Launch) (D : JD) (q : Nat → Nat) (u : CS) (A : Nat → Prop) (hD : va_D A (cW D q u)) (r : Nat) (hr : r ≤ 8) (p0 : RB 40 u r) (p1 : RB 40 u 10) : Met l yX6_fill (jw yX6_fill cX6_fill 5 none) (jr 3 68) (jP [.ref (q (9 + 5 * 10)), .ref (q (9 + 5 * r))] D (fun H => va_P D.1 j_cl (cW D q u) H)) (jWv (fun u' => ∃ n : Int, ∃ f : Nat → Int, ∃ g : Nat → Int, u' = (sY (sX (sC u 10 n) 10 f) 10 g) ∧ ((0 ≤ n ∧ n ≤ 40) ∧ RV 40 f g)) (fun u' H => va_P D.1 j_cl (cW D q u') H) A) 0 0 A := by
  refine Met.ofW (cc := cX6_fill) (maxL := 5) (ret := none) (by decide) rfl ?_
  intro pr en st mi args below meth co s₁ B hml hv
  obtain ⟨rfl, hG, hP⟩ := hv
  have hr := B.returns
  have hlk := B.notSynchronized
  have SS : jS pr mi co cX6_fill 5 st _ RX6 := ⟨B.exec, B.bytes, hml, findClass_of_methodNamed B.named, fun w hw => atoms_spec (ws := (jw yX6_fill cX6_fill 5 none)) B.pre w (List.mem_cons_of_mem _ hw)⟩
  have hl := lv_entry ([.ref (q (9 + 5 * 10)), .ref (q (9 + 5 * r))]) (n := 5) (Nat.le_of_ble_eq_true rfl)
  rw [lg_entry_eq]
  generalize (lg_sl ([.ref (q (9 + 5 * 10)), .ref (q (9 + 5 * r))]) ++ List.replicate (5 - (lg_sl ([.ref (q (9 + 5 * 10)), .ref (q (9 + 5 * r))])).length) Slot.unset).toArray = ls at hl ⊢
  have hl : lv_has ls 5 [(0, .ref (q (9 + 5 * 10))), (1, .ref (q (9 + 5 * r)))] := hl
  have hS : va_S A st.heap st.heap [] := va_S.rf
  have hc := p0.1
  have hrl := rl_b r
  have hrk : (rl 10 : Int) = 40 := rfl
  refine lv_aload_n SS.1 SS.2.1 dX6_fill_0 rfl (lv_at hl 0 rfl) ?_
  refine j_iconst SS dX6_fill_1 ?_
  refine j_putS SS hG hP (cW_D hD) hS (9 + 5 * 10) (v := .int (J 0)) (ty := .int) (C := RX6) (T := TX6) (N := 3) (cw_pts (by omega)) rfl inX6 tyX6 tyX6_ok nmX6 2 (by decide) (ref := "GridPolygons$Points") kw_133 kw_134 rfl (by decide +kernel) rfl rfl (Nat.le_of_ble_eq_true rfl) dX6_fill_2 (ws' := (cW D q (sC u 10 0))) (cs_pts (by omega)) (fun H locs hP hS => ?_)
  refine lv_aload_n SS.1 SS.2.1 dX6_fill_5 rfl (lv_at hl 1 rfl) ?_
  refine j_vRi SS (As := []) (rest := []) (c_X7_leftmost l D q (sC u 10 0) r (by omega) (40 : Int)  (show 0 ≤ (40 : Int) ∧ (40 : Int) ≤ 80 from (by omega)) (show RB (40 : Int) (sC u 10 0) r from (by first | exact p0 | exact RB_nc (by omega) p0 | exact RB_ne (by omega) p0))) mf_X7_leftmost kw_877 hG hP hP (ci := 7) (q0 := (9 + 5 * r)) rfl (cw_ring (by omega)) rfl rfl hl.1 ⟨⟨Nat.le_of_ble_eq_true rfl, Nat.le_of_ble_eq_true rfl⟩, Nat.le_of_ble_eq_true rfl, Nat.le_refl _, Nat.le_refl _⟩ rfl dX6_fill_6 (fun z_6 h_6 => ?_)
  have h_6 : z_6 = rx (sC u 10 0) r 0 ∧ -(40 : Int) ≤ z_6 ∧ z_6 ≤ (40 : Int) := h_6
  refine lv_istore_n (lv' := [(2, .int (J z_6)), (0, .ref (q (9 + 5 * 10))), (1, .ref (q (9 + 5 * r)))]) SS.1 SS.2.1 dX6_fill_9 rfl hl (by decide) rfl (fun ls hl => ?_)
  have L_10 : ∀ (nn : Nat) (x : Int) (n1 : Int) (f1 : Nat → Int) (g1 : Nat → Int) (H : Heap) (locs : List Loc) (hP : va_P D.1 j_cl (cW D q (sY (sX (sC u 10 n1) 10 f1) 10 g1)) H) (hS : va_S A st.heap H locs) (ls : Array Slot) (hl : lv_has ls 5 [(0, .ref (q (9 + 5 * 10))), (1, .ref (q (9 + 5 * r))), (2, .int (J x))]) (i10_0 : -40 ≤ x ∧ x ≤ 41) (i10_1 : 0 ≤ n1 ∧ n1 ≤ 40) (i10_2 : RV 40 f1 g1), ((41 : Int) - x).toNat < nn → W pr l en (headSpec (jw yX6_fill cX6_fill 5 none) (jr 3 68)).room st mi (([.ref (q (9 + 5 * 10)), .ref (q (9 + 5 * r))] : List Value).toArray) below meth co H locs 0 0 (MQ below (jWv (fun u' => ∃ n : Int, ∃ f : Nat → Int, ∃ g : Nat → Int, u' = (sY (sX (sC u 10 n) 10 f) 10 g) ∧ ((0 ≤ n ∧ n ≤ 40) ∧ RV 40 f g)) (fun u' H => va_P D.1 j_cl (cW D q u') H) A) (([.ref (q (9 + 5 * 10)), .ref (q (9 + 5 * r))] : List Value).toArray) st 0 0 A) (F0 mi 10 ls []) := by
    intro nn
    induction nn with
    | zero => intros; omega
    | succ nn ih_10 =>
      intro x n1 f1 g1 H locs hP hS ls hl i10_0 i10_1 i10_2 hm
      refine lv_iload_n SS.1 SS.2.1 dX6_fill_10 rfl (lv_at hl 2 rfl) ?_
      refine lv_aload_n SS.1 SS.2.1 dX6_fill_11 rfl (lv_at hl 1 rfl) ?_
      refine j_vRi SS (As := []) (rest := [.int (J x)]) (c_X7_rightmost l D q (sY (sX (sC u 10 n1) 10 f1) 10 g1) r (by omega) (40 : Int)  (show 0 ≤ (40 : Int) ∧ (40 : Int) ≤ 80 from (by omega)) (show RB (40 : Int) (sY (sX (sC u 10 n1) 10 f1) 10 g1) r from (by first | exact p0 | exact RB_nc (by omega) p0 | exact RB_ne (by omega) p0))) mf_X7_rightmost kw_878 hG hP hP (ci := 7) (q0 := (9 + 5 * r)) rfl (cw_ring (by omega)) rfl rfl hl.1 ⟨⟨Nat.le_of_ble_eq_true rfl, Nat.le_of_ble_eq_true rfl⟩, Nat.le_of_ble_eq_true rfl, Nat.le_refl _, Nat.le_refl _⟩ rfl dX6_fill_12 (fun z_12 h_12 => ?_)
      have h_12 : -(40 : Int) ≤ z_12 ∧ z_12 ≤ (40 : Int) := h_12
      refine j_icmp_gt SS (tgt := 56) (x := x) (y := z_12) dX6_fill_15 (by decide) (by omega) (by omega) (fun c_15 => ?_) (fun c_15 => ?_)
      · skip
        exact W.vret SS.1 SS.2.1 hr (fun t0 ht hW => ⟨⟨(sY (sX (sC u 10 n1) 10 f1) 10 g1), rfl, (⟨n1, f1, g1, rfl, ⟨by omega, i10_2⟩⟩), by show va_P D.1 j_cl (cW D q (sY (sX (sC u 10 n1) 10 f1) 10 g1)) t0.heap; rw [ht]; first | exact hP | (simp only [sC_id, sX_id, sY_id, sH_id, sT_id, sV_id]; exact hP)⟩, hS.F ht⟩) hS.2.2 dX6_fill_56 hlk
      · skip
        refine lv_aload_n SS.1 SS.2.1 dX6_fill_18 rfl (lv_at hl 1 rfl) ?_
        refine lv_iload_n SS.1 SS.2.1 dX6_fill_19 rfl (lv_at hl 2 rfl) ?_
        refine j_vRi SS (As := [.int (J x)]) (rest := []) (c_X7_highestAt l D q (sY (sX (sC u 10 n1) 10 f1) 10 g1) r (by omega) (40 : Int) x (show 0 ≤ (40 : Int) ∧ (40 : Int) ≤ 80 from (by omega)) (show RB (40 : Int) (sY (sX (sC u 10 n1) 10 f1) 10 g1) r from (by first | exact p0 | exact RB_nc (by omega) p0 | exact RB_ne (by omega) p0)) (show -200 ≤ x ∧ x ≤ 200 from (by omega))) mf_X7_highestAt kw_879 hG hP hP (ci := 7) (q0 := (9 + 5 * r)) rfl (cw_ring (by omega)) rfl rfl hl.1 ⟨⟨Nat.le_of_ble_eq_true rfl, Nat.le_of_ble_eq_true rfl⟩, Nat.le_of_ble_eq_true rfl, Nat.le_refl _, Nat.le_refl _⟩ rfl dX6_fill_20 (fun z_20 h_20 => ?_)
        have h_20 : -60000 ≤ z_20 ∧ z_20 ≤ (40 : Int) := h_20
        refine lv_istore_n (lv' := [(3, .int (J z_20)), (0, .ref (q (9 + 5 * 10))), (1, .ref (q (9 + 5 * r))), (2, .int (J x))]) SS.1 SS.2.1 dX6_fill_23 rfl hl (by decide) rfl (fun ls hl => ?_)
        refine lv_aload_n SS.1 SS.2.1 dX6_fill_24 rfl (lv_at hl 2 rfl) ?_
        refine lv_iload_n SS.1 SS.2.1 dX6_fill_25 rfl (lv_at hl 3 rfl) ?_
        refine j_vRi SS (As := [.int (J x)]) (rest := []) (c_X7_lowestAt l D q (sY (sX (sC u 10 n1) 10 f1) 10 g1) r (by omega) (40 : Int) x (show 0 ≤ (40 : Int) ∧ (40 : Int) ≤ 80 from (by omega)) (show RB (40 : Int) (sY (sX (sC u 10 n1) 10 f1) 10 g1) r from (by first | exact p0 | exact RB_nc (by omega) p0 | exact RB_ne (by omega) p0)) (show -200 ≤ x ∧ x ≤ 200 from (by omega))) mf_X7_lowestAt kw_880 hG hP hP (ci := 7) (q0 := (9 + 5 * r)) rfl (cw_ring (by omega)) rfl rfl hl.1 ⟨⟨Nat.le_of_ble_eq_true rfl, Nat.le_of_ble_eq_true rfl⟩, Nat.le_of_ble_eq_true rfl, Nat.le_refl _, Nat.le_refl _⟩ rfl dX6_fill_26 (fun z_26 h_26 => ?_)
        have h_26 : -(40 : Int) ≤ z_26 ∧ z_26 ≤ 60000 := h_26
        refine lv_istore (lv' := [(4, .int (J z_26)), (3, .int (J z_20)), (0, .ref (q (9 + 5 * 10))), (1, .ref (q (9 + 5 * r))), (2, .int (J x))]) SS.1 SS.2.1 dX6_fill_29 hl (by decide) rfl (fun ls hl => ?_)
        have L_31 : ∀ (nn : Nat) (y : Int) (n2 : Int) (f2 : Nat → Int) (g2 : Nat → Int) (H : Heap) (locs : List Loc) (hP : va_P D.1 j_cl (cW D q (sY (sX (sC u 10 n2) 10 f2) 10 g2)) H) (hS : va_S A st.heap H locs) (ls : Array Slot) (hl : lv_has ls 5 [(0, .ref (q (9 + 5 * 10))), (1, .ref (q (9 + 5 * r))), (2, .int (J x)), (3, .int (J z_20)), (4, .int (J y))]) (i31_0 : -40 ≤ y ∧ y ≤ 60000) (i31_1 : 0 ≤ n2 ∧ n2 ≤ 40) (i31_2 : RV 40 f2 g2), ((41 : Int) - y).toNat < nn → W pr l en (headSpec (jw yX6_fill cX6_fill 5 none) (jr 3 68)).room st mi (([.ref (q (9 + 5 * 10)), .ref (q (9 + 5 * r))] : List Value).toArray) below meth co H locs 0 0 (MQ below (jWv (fun u' => ∃ n : Int, ∃ f : Nat → Int, ∃ g : Nat → Int, u' = (sY (sX (sC u 10 n) 10 f) 10 g) ∧ ((0 ≤ n ∧ n ≤ 40) ∧ RV 40 f g)) (fun u' H => va_P D.1 j_cl (cW D q u') H) A) (([.ref (q (9 + 5 * 10)), .ref (q (9 + 5 * r))] : List Value).toArray) st 0 0 A) (F0 mi 31 ls []) := by
          intro nn
          induction nn with
          | zero => intros; omega
          | succ nn ih_31 =>
            intro y n2 f2 g2 H locs hP hS ls hl i31_0 i31_1 i31_2 hm
            refine lv_iload SS.1 SS.2.1 dX6_fill_31 (lv_at hl 4 rfl) ?_
            refine lv_iload_n SS.1 SS.2.1 dX6_fill_33 rfl (lv_at hl 3 rfl) ?_
            refine j_icmp_gt SS (tgt := 50) (x := y) (y := z_20) dX6_fill_34 (by decide) (by omega) (by omega) (fun c_34 => ?_) (fun c_34 => ?_)
            · skip
              refine lv_iinc (v := J (x + 1)) (lv' := [(2, .int (J (x + 1))), (0, .ref (q (9 + 5 * 10))), (1, .ref (q (9 + 5 * r))), (3, .int (J z_20)), (4, .int (J y))]) SS.1 SS.2.1 dX6_fill_50 hl (k := 2) rfl (J_add _ _) (by decide) rfl (fun ls hl => ?_)
              refine lv_goto (tgt := 10) SS.1 SS.2.1 dX6_fill_53 (by decide) ?_
              exact ih_10 (x + 1) n2 f2 g2 _ _ hP hS ls (lv_sub hl [1, 2, 0] rfl) (by omega) (by omega) (i31_2) (by omega)
            · skip
              refine lv_aload_n SS.1 SS.2.1 dX6_fill_37 rfl (lv_at hl 0 rfl) ?_
              refine lv_iload_n SS.1 SS.2.1 dX6_fill_38 rfl (lv_at hl 2 rfl) ?_
              refine lv_iload SS.1 SS.2.1 dX6_fill_39 (lv_at hl 4 rfl) ?_
              refine j_uWv SS (As := [.int (J x), .int (J y)]) (rest := []) (c_X8_appendP l D q (sY (sX (sC u 10 n2) 10 f2) 10 g2) A (cW_D hD) 10 (by omega) x y (show 0 ≤ n2 ∧ n2 ≤ rl 10 from (by omega))) mu_6_append kw_881 hG hP hP (ci := 6) (q0 := (9 + 5 * 10)) rfl (cw_pts (by omega)) rfl hS (fun _ h => h) rfl hl.1 ⟨⟨Nat.le_of_ble_eq_true rfl, Nat.le_of_ble_eq_true rfl⟩, Nat.le_of_ble_eq_true rfl, Nat.le_refl _, Nat.le_refl _⟩ rfl dX6_fill_41 (fun u41 H locs h_41 hP _ hS => ?_)
              obtain ⟨f_41, g_41, n_41, rfl, h_41⟩ := h_41
              have hP : va_P D.1 j_cl (cW D q (sY (sX (sC u 10 n_41) 10 f_41) 10 g_41)) H := hP
              have h_41 : (n2 < rl 10 ∧ f_41 = upI (f2) (n2).toNat x ∧ g_41 = upI (g2) (n2).toNat y ∧ n_41 = n2 + 1) ∨ (rl 10 ≤ n2 ∧ f_41 = f2 ∧ g_41 = g2 ∧ n_41 = n2) := h_41
              refine lv_iinc (v := J (y + 1)) (lv' := [(4, .int (J (y + 1))), (0, .ref (q (9 + 5 * 10))), (1, .ref (q (9 + 5 * r))), (2, .int (J x)), (3, .int (J z_20))]) SS.1 SS.2.1 dX6_fill_44 hl (k := 4) rfl (J_add _ _) (by decide) rfl (fun ls hl => ?_)
              refine lv_goto (tgt := 31) SS.1 SS.2.1 dX6_fill_47 (by decide) ?_
              exact ih_31 (y + 1) n_41 f_41 g_41 _ _ hP hS ls (lv_sub hl [1, 2, 3, 4, 0] rfl) (by omega) ((ap_b (K := 40) (m := 40) (n0 := n2) (f := f_41) (g := g_41) (n := n_41) (x := x) (y := y) i31_2 (by omega) (by omega) (by omega) (by rw [hrk] at h_41; exact h_41)).1) ((ap_b (K := 40) (m := 40) (n0 := n2) (f := f_41) (g := g_41) (n := n_41) (x := x) (y := y) i31_2 (by omega) (by omega) (by omega) (by rw [hrk] at h_41; exact h_41)).2) (by omega)
        exact L_31 (((41 : Int) - z_26).toNat + 1) z_26 n1 f1 g1 _ _ hP hS ls (lv_sub hl [2, 3, 4, 1, 0] rfl) (by omega) (by omega) (i10_2) (Nat.lt_succ_self _)
  exact L_10 (((41 : Int) - z_6).toNat + 1) z_6 0 (u.1.1 10) (u.1.2.1 10) _ _ hP hS ls (lv_sub hl [1, 2, 0] rfl) (by omega) (by omega) (p1.2) (Nat.lt_succ_self _)

set_option maxHeartbeats 4000000 in
set_option maxRecDepth 100000 in
theorem c_X6_turn (l : Launch) (D : JD) (q : Nat → Nat) (u : CS) (i : Int) (j : Int) (k : Int) (p0 : RB 40 u 9) (p1 : -2147483648 ≤ i ∧ i ≤ 2147483647) (p2 : -2147483648 ≤ j ∧ j ≤ 2147483647) (p3 : -2147483648 ≤ k ∧ k ≤ 2147483647) : Met l yX6_turn (jw yX6_turn cX6_turn 4 (some .int)) (jr 1 21) (jP [.ref (q (9 + 5 * 9)), .int (J i), .int (J j), .int (J k)] D (fun H => va_P D.1 j_cl (cW D q u) H)) (jRi (fun z => -12800 ≤ z ∧ z ≤ 12800)) 0 0 (fun _ => False) := by
  refine Met.ofW (cc := cX6_turn) (maxL := 4) (ret := (some .int)) (by decide) rfl ?_
  intro pr en st mi args below meth co s₁ B hml hv
  obtain ⟨rfl, hG, hP⟩ := hv
  have hr := B.returns
  have hlk := B.notSynchronized
  have SS : jS pr mi co cX6_turn 4 st _ RX6 := ⟨B.exec, B.bytes, hml, findClass_of_methodNamed B.named, fun w hw => atoms_spec (ws := (jw yX6_turn cX6_turn 4 (some .int))) B.pre w (List.mem_cons_of_mem _ hw)⟩
  have hl := lv_entry ([.ref (q (9 + 5 * 9)), .int (J i), .int (J j), .int (J k)]) (n := 4) (Nat.le_of_ble_eq_true rfl)
  rw [lg_entry_eq]
  generalize (lg_sl ([.ref (q (9 + 5 * 9)), .int (J i), .int (J j), .int (J k)]) ++ List.replicate (4 - (lg_sl ([.ref (q (9 + 5 * 9)), .int (J i), .int (J j), .int (J k)])).length) Slot.unset).toArray = ls at hl ⊢
  have hl : lv_has ls 4 [(0, .ref (q (9 + 5 * 9))), (1, .int (J i)), (2, .int (J j)), (3, .int (J k))] := hl
  refine lv_aload_n SS.1 SS.2.1 dX6_turn_0 rfl (lv_at hl 0 rfl) ?_
  refine lv_iload_n SS.1 SS.2.1 dX6_turn_1 rfl (lv_at hl 2 rfl) ?_
  refine j_uRi SS (As := [.int (J j)]) (rest := []) (c_X8_xP l D q u 9 (by omega) j (show -2147483648 ≤ j ∧ j ≤ 2147483647 from (p2))) mu_6_x kw_908 hG hP hP (ci := 6) (q0 := (9 + 5 * 9)) rfl (cw_pts (by omega)) rfl rfl hl.1 ⟨⟨Nat.le_of_ble_eq_true rfl, Nat.le_of_ble_eq_true rfl⟩, Nat.le_of_ble_eq_true rfl, Nat.le_refl _, Nat.le_refl _⟩ rfl dX6_turn_2 (fun z_2 h_2 => ?_)
  have h_2 : z_2 = rx u 9 j ∧ ∀ K : Int, 0 ≤ K → RB K u 9 → -K ≤ z_2 ∧ z_2 ≤ K := h_2
  have hb_2 := h_2.2 40 (by omega) (p0)
  refine lv_aload_n SS.1 SS.2.1 dX6_turn_5 rfl (lv_at hl 0 rfl) ?_
  refine lv_iload_n SS.1 SS.2.1 dX6_turn_6 rfl (lv_at hl 1 rfl) ?_
  refine j_uRi SS (As := [.int (J i)]) (rest := [.int (J z_2)]) (c_X8_xP l D q u 9 (by omega) i (show -2147483648 ≤ i ∧ i ≤ 2147483647 from (p1))) mu_6_x kw_908 hG hP hP (ci := 6) (q0 := (9 + 5 * 9)) rfl (cw_pts (by omega)) rfl rfl hl.1 ⟨⟨Nat.le_of_ble_eq_true rfl, Nat.le_of_ble_eq_true rfl⟩, Nat.le_of_ble_eq_true rfl, Nat.le_refl _, Nat.le_refl _⟩ rfl dX6_turn_7 (fun z_7 h_7 => ?_)
  have h_7 : z_7 = rx u 9 i ∧ ∀ K : Int, 0 ≤ K → RB K u 9 → -K ≤ z_7 ∧ z_7 ≤ K := h_7
  have hb_7 := h_7.2 40 (by omega) (p0)
  refine j_isub SS (x := z_2) (y := z_7) dX6_turn_10 ?_
  refine lv_aload_n SS.1 SS.2.1 dX6_turn_11 rfl (lv_at hl 0 rfl) ?_
  refine lv_iload_n SS.1 SS.2.1 dX6_turn_12 rfl (lv_at hl 3 rfl) ?_
  refine j_uRi SS (As := [.int (J k)]) (rest := [.int (J (z_2 - z_7))]) (c_X8_yP l D q u 9 (by omega) k (show -2147483648 ≤ k ∧ k ≤ 2147483647 from (p3))) mu_6_y kw_909 hG hP hP (ci := 6) (q0 := (9 + 5 * 9)) rfl (cw_pts (by omega)) rfl rfl hl.1 ⟨⟨Nat.le_of_ble_eq_true rfl, Nat.le_of_ble_eq_true rfl⟩, Nat.le_of_ble_eq_true rfl, Nat.le_refl _, Nat.le_refl _⟩ rfl dX6_turn_13 (fun z_13 h_13 => ?_)
  have h_13 : z_13 = ry9 u 9 k ∧ ∀ K : Int, 0 ≤ K → RB K u 9 → -K ≤ z_13 ∧ z_13 ≤ K := h_13
  have hb_13 := h_13.2 40 (by omega) (p0)
  refine lv_aload_n SS.1 SS.2.1 dX6_turn_16 rfl (lv_at hl 0 rfl) ?_
  refine lv_iload_n SS.1 SS.2.1 dX6_turn_17 rfl (lv_at hl 1 rfl) ?_
  refine j_uRi SS (As := [.int (J i)]) (rest := [.int (J z_13), .int (J (z_2 - z_7))]) (c_X8_yP l D q u 9 (by omega) i (show -2147483648 ≤ i ∧ i ≤ 2147483647 from (p1))) mu_6_y kw_909 hG hP hP (ci := 6) (q0 := (9 + 5 * 9)) rfl (cw_pts (by omega)) rfl rfl hl.1 ⟨⟨Nat.le_of_ble_eq_true rfl, Nat.le_of_ble_eq_true rfl⟩, Nat.le_of_ble_eq_true rfl, Nat.le_refl _, Nat.le_refl _⟩ rfl dX6_turn_18 (fun z_18 h_18 => ?_)
  have h_18 : z_18 = ry9 u 9 i ∧ ∀ K : Int, 0 ≤ K → RB K u 9 → -K ≤ z_18 ∧ z_18 ≤ K := h_18
  have hb_18 := h_18.2 40 (by omega) (p0)
  refine j_isub SS (x := z_13) (y := z_18) dX6_turn_21 ?_
  refine j_imul SS (x := (z_2 - z_7)) (y := (z_13 - z_18)) dX6_turn_22 ?_
  refine lv_aload_n SS.1 SS.2.1 dX6_turn_23 rfl (lv_at hl 0 rfl) ?_
  refine lv_iload_n SS.1 SS.2.1 dX6_turn_24 rfl (lv_at hl 2 rfl) ?_
  refine j_uRi SS (As := [.int (J j)]) (rest := [.int (J ((z_2 - z_7) * (z_13 - z_18)))]) (c_X8_yP l D q u 9 (by omega) j (show -2147483648 ≤ j ∧ j ≤ 2147483647 from (p2))) mu_6_y kw_909 hG hP hP (ci := 6) (q0 := (9 + 5 * 9)) rfl (cw_pts (by omega)) rfl rfl hl.1 ⟨⟨Nat.le_of_ble_eq_true rfl, Nat.le_of_ble_eq_true rfl⟩, Nat.le_of_ble_eq_true rfl, Nat.le_refl _, Nat.le_refl _⟩ rfl dX6_turn_25 (fun z_25 h_25 => ?_)
  have h_25 : z_25 = ry9 u 9 j ∧ ∀ K : Int, 0 ≤ K → RB K u 9 → -K ≤ z_25 ∧ z_25 ≤ K := h_25
  have hb_25 := h_25.2 40 (by omega) (p0)
  refine lv_aload_n SS.1 SS.2.1 dX6_turn_28 rfl (lv_at hl 0 rfl) ?_
  refine lv_iload_n SS.1 SS.2.1 dX6_turn_29 rfl (lv_at hl 1 rfl) ?_
  refine j_uRi SS (As := [.int (J i)]) (rest := [.int (J z_25), .int (J ((z_2 - z_7) * (z_13 - z_18)))]) (c_X8_yP l D q u 9 (by omega) i (show -2147483648 ≤ i ∧ i ≤ 2147483647 from (p1))) mu_6_y kw_909 hG hP hP (ci := 6) (q0 := (9 + 5 * 9)) rfl (cw_pts (by omega)) rfl rfl hl.1 ⟨⟨Nat.le_of_ble_eq_true rfl, Nat.le_of_ble_eq_true rfl⟩, Nat.le_of_ble_eq_true rfl, Nat.le_refl _, Nat.le_refl _⟩ rfl dX6_turn_30 (fun z_30 h_30 => ?_)
  have h_30 : z_30 = ry9 u 9 i ∧ ∀ K : Int, 0 ≤ K → RB K u 9 → -K ≤ z_30 ∧ z_30 ≤ K := h_30
  have hb_30 := h_30.2 40 (by omega) (p0)
  refine j_isub SS (x := z_25) (y := z_30) dX6_turn_33 ?_
  refine lv_aload_n SS.1 SS.2.1 dX6_turn_34 rfl (lv_at hl 0 rfl) ?_
  refine lv_iload_n SS.1 SS.2.1 dX6_turn_35 rfl (lv_at hl 3 rfl) ?_
  refine j_uRi SS (As := [.int (J k)]) (rest := [.int (J (z_25 - z_30)), .int (J ((z_2 - z_7) * (z_13 - z_18)))]) (c_X8_xP l D q u 9 (by omega) k (show -2147483648 ≤ k ∧ k ≤ 2147483647 from (p3))) mu_6_x kw_908 hG hP hP (ci := 6) (q0 := (9 + 5 * 9)) rfl (cw_pts (by omega)) rfl rfl hl.1 ⟨⟨Nat.le_of_ble_eq_true rfl, Nat.le_of_ble_eq_true rfl⟩, Nat.le_of_ble_eq_true rfl, Nat.le_refl _, Nat.le_refl _⟩ rfl dX6_turn_36 (fun z_36 h_36 => ?_)
  have h_36 : z_36 = rx u 9 k ∧ ∀ K : Int, 0 ≤ K → RB K u 9 → -K ≤ z_36 ∧ z_36 ≤ K := h_36
  have hb_36 := h_36.2 40 (by omega) (p0)
  refine lv_aload_n SS.1 SS.2.1 dX6_turn_39 rfl (lv_at hl 0 rfl) ?_
  refine lv_iload_n SS.1 SS.2.1 dX6_turn_40 rfl (lv_at hl 1 rfl) ?_
  refine j_uRi SS (As := [.int (J i)]) (rest := [.int (J z_36), .int (J (z_25 - z_30)), .int (J ((z_2 - z_7) * (z_13 - z_18)))]) (c_X8_xP l D q u 9 (by omega) i (show -2147483648 ≤ i ∧ i ≤ 2147483647 from (p1))) mu_6_x kw_908 hG hP hP (ci := 6) (q0 := (9 + 5 * 9)) rfl (cw_pts (by omega)) rfl rfl hl.1 ⟨⟨Nat.le_of_ble_eq_true rfl, Nat.le_of_ble_eq_true rfl⟩, Nat.le_of_ble_eq_true rfl, Nat.le_refl _, Nat.le_refl _⟩ rfl dX6_turn_41 (fun z_41 h_41 => ?_)
  have h_41 : z_41 = rx u 9 i ∧ ∀ K : Int, 0 ≤ K → RB K u 9 → -K ≤ z_41 ∧ z_41 ≤ K := h_41
  have hb_41 := h_41.2 40 (by omega) (p0)
  refine j_isub SS (x := z_36) (y := z_41) dX6_turn_44 ?_
  refine j_imul SS (x := (z_25 - z_30)) (y := (z_36 - z_41)) dX6_turn_45 ?_
  refine j_isub SS (x := ((z_2 - z_7) * (z_13 - z_18))) (y := ((z_25 - z_30) * (z_36 - z_41))) dX6_turn_46 ?_
  have m1 := mulb (A := 80) (B := 80) (a := z_2 - z_7) (b := z_13 - z_18) (by omega) (by omega)
  have m2 := mulb (A := 80) (B := 80) (a := z_25 - z_30) (b := z_36 - z_41) (by omega) (by omega)
  exact W.iret SS.1 SS.2.1 hr (fun t0 ht hW => ⟨_, rfl, ⟨(((z_2 - z_7) * (z_13 - z_18)) - ((z_25 - z_30) * (z_36 - z_41))), rfl, (by omega)⟩, ht⟩) (fun _ h => nomatch h) dX6_turn_47 hlk

set_option maxHeartbeats 4000000 in
set_option maxRecDepth 100000 in
theorem c_X6_find (l : Launch) (D : JD) (q : Nat → Nat) (u : CS) (x : Int) (y : Int) (p0 : RB 40 u 9) (p1 : -2147483648 ≤ x ∧ x ≤ 2147483647) (p2 : -2147483648 ≤ y ∧ y ≤ 2147483647) : Met l yX6_find (jw yX6_find cX6_find 4 (some .int)) (jr 1 21) (jP [.ref (q (9 + 5 * 9)), .int (J x), .int (J y)] D (fun H => va_P D.1 j_cl (cW D q u) H)) (jRi (fun z => -1 ≤ z ∧ z ≤ 11)) 0 0 (fun _ => False) := by
  refine Met.ofW (cc := cX6_find) (maxL := 4) (ret := (some .int)) (by decide) rfl ?_
  intro pr en st mi args below meth co s₁ B hml hv
  obtain ⟨rfl, hG, hP⟩ := hv
  have hr := B.returns
  have hlk := B.notSynchronized
  have SS : jS pr mi co cX6_find 4 st _ RX6 := ⟨B.exec, B.bytes, hml, findClass_of_methodNamed B.named, fun w hw => atoms_spec (ws := (jw yX6_find cX6_find 4 (some .int))) B.pre w (List.mem_cons_of_mem _ hw)⟩
  have hl := lv_entry ([.ref (q (9 + 5 * 9)), .int (J x), .int (J y)]) (n := 4) (Nat.le_of_ble_eq_true rfl)
  rw [lg_entry_eq]
  generalize (lg_sl ([.ref (q (9 + 5 * 9)), .int (J x), .int (J y)]) ++ List.replicate (4 - (lg_sl ([.ref (q (9 + 5 * 9)), .int (J x), .int (J y)])).length) Slot.unset).toArray = ls at hl ⊢
  have hl : lv_has ls 4 [(0, .ref (q (9 + 5 * 9))), (1, .int (J x)), (2, .int (J y))] := hl
  have hc := p0.1
  have hrk : (rl 9 : Int) = 12 := rfl
  refine j_iconst SS dX6_find_0 ?_
  refine lv_istore_n (lv' := [(3, .int (J 0)), (0, .ref (q (9 + 5 * 9))), (1, .int (J x)), (2, .int (J y))]) SS.1 SS.2.1 dX6_find_1 rfl hl (by decide) rfl (fun ls hl => ?_)
  have L_2 : ∀ (nn : Nat) (i : Int) (ls : Array Slot) (hl : lv_has ls 4 [(0, .ref (q (9 + 5 * 9))), (1, .int (J x)), (2, .int (J y)), (3, .int (J i))]) (i2_0 : 0 ≤ i ∧ i ≤ u.1.2.2.1 9), (u.1.2.2.1 9 - i).toNat < nn → W pr l en (headSpec (jw yX6_find cX6_find 4 (some .int)) (jr 1 21)).room st mi (([.ref (q (9 + 5 * 9)), .int (J x), .int (J y)] : List Value).toArray) below meth co st.heap [] 0 0 (MQ below (jRi (fun z => -1 ≤ z ∧ z ≤ 11)) (([.ref (q (9 + 5 * 9)), .int (J x), .int (J y)] : List Value).toArray) st 0 0 (fun _ => False)) (F0 mi 2 ls []) := by
    intro nn
    induction nn with
    | zero => intros; omega
    | succ nn ih_2 =>
      intro i ls hl i2_0 hm
      refine lv_iload_n SS.1 SS.2.1 dX6_find_2 rfl (lv_at hl 3 rfl) ?_
      refine lv_aload_n SS.1 SS.2.1 dX6_find_3 rfl (lv_at hl 0 rfl) ?_
      refine j_getS SS hG hP (9 + 5 * 9) (v := .int (J (u.1.2.2.1 9))) (C := RX6) (T := TX6) (N := 3) (cw_pts (by omega)) rfl inX6 2 (by decide) (ref := "GridPolygons$Points") kw_133 kw_134 rfl dX6_find_4 ?_
      refine j_icmp_ge SS (tgt := 36) (x := i) (y := (u.1.2.2.1 9)) dX6_find_7 (by decide) (by omega) (by omega) (fun c_7 => ?_) (fun c_7 => ?_)
      · skip
        refine j_iconst SS dX6_find_36 ?_
        exact W.iret SS.1 SS.2.1 hr (fun t0 ht hW => ⟨_, rfl, ⟨(-1), rfl, (by omega)⟩, ht⟩) (fun _ h => nomatch h) dX6_find_37 hlk
      · skip
        refine lv_aload_n SS.1 SS.2.1 dX6_find_10 rfl (lv_at hl 0 rfl) ?_
        refine lv_iload_n SS.1 SS.2.1 dX6_find_11 rfl (lv_at hl 3 rfl) ?_
        refine j_uRi SS (As := [.int (J i)]) (rest := []) (c_X8_xP l D q u 9 (by omega) i (show -2147483648 ≤ i ∧ i ≤ 2147483647 from (by omega))) mu_6_x kw_908 hG hP hP (ci := 6) (q0 := (9 + 5 * 9)) rfl (cw_pts (by omega)) rfl rfl hl.1 ⟨⟨Nat.le_of_ble_eq_true rfl, Nat.le_of_ble_eq_true rfl⟩, Nat.le_of_ble_eq_true rfl, Nat.le_refl _, Nat.le_refl _⟩ rfl dX6_find_12 (fun z_12 h_12 => ?_)
        have h_12 : z_12 = rx u 9 i ∧ ∀ K : Int, 0 ≤ K → RB K u 9 → -K ≤ z_12 ∧ z_12 ≤ K := h_12
        have hb_12 := h_12.2 40 (by omega) (p0)
        refine lv_iload_n SS.1 SS.2.1 dX6_find_15 rfl (lv_at hl 1 rfl) ?_
        refine j_icmp_ne SS (tgt := 30) (x := z_12) (y := x) dX6_find_16 (by decide) (by omega) (by omega) (fun c_16 => ?_) (fun c_16 => ?_)
        · skip
          refine lv_iinc (v := J (i + 1)) (lv' := [(3, .int (J (i + 1))), (0, .ref (q (9 + 5 * 9))), (1, .int (J x)), (2, .int (J y))]) SS.1 SS.2.1 dX6_find_30 hl (k := 3) rfl (J_add _ _) (by decide) rfl (fun ls hl => ?_)
          refine lv_goto (tgt := 2) SS.1 SS.2.1 dX6_find_33 (by decide) ?_
          exact ih_2 (i + 1) ls (lv_sub hl [1, 2, 3, 0] rfl) (by omega) (by omega)
        · skip
          refine lv_aload_n SS.1 SS.2.1 dX6_find_19 rfl (lv_at hl 0 rfl) ?_
          refine lv_iload_n SS.1 SS.2.1 dX6_find_20 rfl (lv_at hl 3 rfl) ?_
          refine j_uRi SS (As := [.int (J i)]) (rest := []) (c_X8_yP l D q u 9 (by omega) i (show -2147483648 ≤ i ∧ i ≤ 2147483647 from (by omega))) mu_6_y kw_909 hG hP hP (ci := 6) (q0 := (9 + 5 * 9)) rfl (cw_pts (by omega)) rfl rfl hl.1 ⟨⟨Nat.le_of_ble_eq_true rfl, Nat.le_of_ble_eq_true rfl⟩, Nat.le_of_ble_eq_true rfl, Nat.le_refl _, Nat.le_refl _⟩ rfl dX6_find_21 (fun z_21 h_21 => ?_)
          have h_21 : z_21 = ry9 u 9 i ∧ ∀ K : Int, 0 ≤ K → RB K u 9 → -K ≤ z_21 ∧ z_21 ≤ K := h_21
          have hb_21 := h_21.2 40 (by omega) (p0)
          refine lv_iload_n SS.1 SS.2.1 dX6_find_24 rfl (lv_at hl 2 rfl) ?_
          refine j_icmp_ne SS (tgt := 30) (x := z_21) (y := y) dX6_find_25 (by decide) (by omega) (by omega) (fun c_25 => ?_) (fun c_25 => ?_)
          · skip
            refine lv_iinc (v := J (i + 1)) (lv' := [(3, .int (J (i + 1))), (0, .ref (q (9 + 5 * 9))), (1, .int (J x)), (2, .int (J y))]) SS.1 SS.2.1 dX6_find_30 hl (k := 3) rfl (J_add _ _) (by decide) rfl (fun ls hl => ?_)
            refine lv_goto (tgt := 2) SS.1 SS.2.1 dX6_find_33 (by decide) ?_
            exact ih_2 (i + 1) ls (lv_sub hl [1, 2, 3, 0] rfl) (by omega) (by omega)
          · skip
            refine lv_iload_n SS.1 SS.2.1 dX6_find_28 rfl (lv_at hl 3 rfl) ?_
            exact W.iret SS.1 SS.2.1 hr (fun t0 ht hW => ⟨_, rfl, ⟨i, rfl, (by omega)⟩, ht⟩) (fun _ h => nomatch h) dX6_find_29 hlk
  exact L_2 ((u.1.2.2.1 9 - (0 : Int)).toNat + 1) 0 ls (lv_sub hl [1, 2, 3, 0] rfl) (by omega) (Nat.lt_succ_self _)
