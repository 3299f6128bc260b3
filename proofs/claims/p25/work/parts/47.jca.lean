
set_option maxHeartbeats 4000000 in
set_option maxRecDepth 100000 in
theorem c_X6_fill3_9 (l : Launch) (D : JD) (q : Nat → Nat) (u : CS) (A : Nat → Prop) (hD : va_D A (cW D q u)) (r : Nat) (hr : r ≤ 8) (p0 : RB 40 u r) (p1 : RB 40 u 9) (p2 : 1 ≤ u.1.2.2.1 r) : Met l yX6_fill (jw yX6_fill cX6_fill 5 none) (jr 3 68) (jP [.ref (q (9 + 5 * 9)), .ref (q (9 + 5 * r))] D (fun H => va_P D.1 j_cl (cW D q u) H)) (jWv (fun u' => ∃ n : Int, ∃ f : Nat → Int, ∃ g : Nat → Int, u' = (sY (sX (sC u 9 n) 9 f) 9 g) ∧ (((0 ≤ n ∧ n ≤ 12) ∧ RV 40 f g) ∧ (FT9 u r 12 → OL (inC u r) n f g))) (fun u' H => va_P D.1 j_cl (cW D q u') H) A) 0 0 A := by
  refine Met.ofW (cc := cX6_fill) (maxL := 5) (ret := none) (by decide) rfl ?_
  intro pr en st mi args below meth co s₁ B hml hv
  obtain ⟨rfl, hG, hP⟩ := hv
  have hr := B.returns
  have hlk := B.notSynchronized
  have SS : jS pr mi co cX6_fill 5 st _ RX6 := ⟨B.exec, B.bytes, hml, findClass_of_methodNamed B.named, fun w hw => atoms_spec (ws := (jw yX6_fill cX6_fill 5 none)) B.pre w (List.mem_cons_of_mem _ hw)⟩
  have hl := lv_entry ([.ref (q (9 + 5 * 9)), .ref (q (9 + 5 * r))]) (n := 5) (Nat.le_of_ble_eq_true rfl)
  rw [lg_entry_eq]
  generalize (lg_sl ([.ref (q (9 + 5 * 9)), .ref (q (9 + 5 * r))]) ++ List.replicate (5 - (lg_sl ([.ref (q (9 + 5 * 9)), .ref (q (9 + 5 * r))])).length) Slot.unset).toArray = ls at hl ⊢
  have hl : lv_has ls 5 [(0, .ref (q (9 + 5 * 9))), (1, .ref (q (9 + 5 * r)))] := hl
  have hS : va_S A st.heap st.heap [] := va_S.rf
  have hc := p0.1
  have hrl := rl_b r
  have hrk : (rl 9 : Int) = 12 := rfl
  have hne : r ≠ 9 := by omega
  refine lv_aload_n SS.1 SS.2.1 dX6_fill_0 rfl (lv_at hl 0 rfl) ?_
  refine j_iconst SS dX6_fill_1 ?_
  refine j_putS SS hG hP (cW_D hD) hS (9 + 5 * 9) (v := .int (J 0)) (ty := .int) (C := RX6) (T := TX6) (N := 3) (cw_pts (by omega)) rfl inX6 tyX6 tyX6_ok nmX6 2 (by decide) (ref := "GridPolygons$Points") kw_133 kw_134 rfl (by decide +kernel) rfl rfl (Nat.le_of_ble_eq_true rfl) dX6_fill_2 (ws' := (cW D q (sC u 9 0))) (cs_pts (by omega)) (fun H locs hP hS => ?_)
  refine lv_aload_n SS.1 SS.2.1 dX6_fill_5 rfl (lv_at hl 1 rfl) ?_
  refine j_vRi SS (As := []) (rest := []) (c_X7_leftmost l D q (sC u 9 0) r (by omega) (40 : Int)  (show 0 ≤ (40 : Int) ∧ (40 : Int) ≤ 80 from (by omega)) (show RB (40 : Int) (sC u 9 0) r from (by first | exact p0 | exact RB_nc (by omega) p0 | exact RB_ne (by omega) p0))) mf_X7_leftmost kw_877 hG hP hP (ci := 7) (q0 := (9 + 5 * r)) rfl (cw_ring (by omega)) rfl rfl hl.1 ⟨⟨Nat.le_of_ble_eq_true rfl, Nat.le_of_ble_eq_true rfl⟩, Nat.le_of_ble_eq_true rfl, Nat.le_refl _, Nat.le_refl _⟩ rfl dX6_fill_6 (fun z_6 h_6 => ?_)
  have h_6 : z_6 = rx (sC u 9 0) r 0 ∧ -(40 : Int) ≤ z_6 ∧ z_6 ≤ (40 : Int) := h_6
  refine lv_istore_n (lv' := [(2, .int (J z_6)), (0, .ref (q (9 + 5 * 9))), (1, .ref (q (9 + 5 * r)))]) SS.1 SS.2.1 dX6_fill_9 rfl hl (by decide) rfl (fun ls hl => ?_)
  have L_10 : ∀ (nn : Nat) (x : Int) (n1 : Int) (f1 : Nat → Int) (g1 : Nat → Int) (H : Heap) (locs : List Loc) (hP : va_P D.1 j_cl (cW D q (sY (sX (sC u 9 n1) 9 f1) 9 g1)) H) (hS : va_S A st.heap H locs) (ls : Array Slot) (hl : lv_has ls 5 [(0, .ref (q (9 + 5 * 9))), (1, .ref (q (9 + 5 * r))), (2, .int (J x))]) (i10_0 : -40 ≤ x ∧ x ≤ 41) (i10_1 : 0 ≤ n1 ∧ n1 ≤ 12) (i10_2 : RV 40 f1 g1) (i10_3 : rx u r 0 ≤ x) (i10_4 : FT9 u r 12 → OL (fun a b => inC u r a b ∧ a < x) n1 f1 g1), ((41 : Int) - x).toNat < nn → W pr l en (headSpec (jw yX6_fill cX6_fill 5 none) (jr 3 68)).room st mi (([.ref (q (9 + 5 * 9)), .ref (q (9 + 5 * r))] : List Value).toArray) below meth co H locs 0 0 (MQ below (jWv (fun u' => ∃ n : Int, ∃ f : Nat → Int, ∃ g : Nat → Int, u' = (sY (sX (sC u 9 n) 9 f) 9 g) ∧ (((0 ≤ n ∧ n ≤ 12) ∧ RV 40 f g) ∧ (FT9 u r 12 → OL (inC u r) n f g))) (fun u' H => va_P D.1 j_cl (cW D q u') H) A) (([.ref (q (9 + 5 * 9)), .ref (q (9 + 5 * r))] : List Value).toArray) st 0 0 A) (F0 mi 10 ls []) := by
    intro nn
    induction nn with
    | zero => intros; omega
    | succ nn ih_10 =>
      intro x n1 f1 g1 H locs hP hS ls hl i10_0 i10_1 i10_2 i10_3 i10_4 hm
      refine lv_iload_n SS.1 SS.2.1 dX6_fill_10 rfl (lv_at hl 2 rfl) ?_
      refine lv_aload_n SS.1 SS.2.1 dX6_fill_11 rfl (lv_at hl 1 rfl) ?_
      have hst := st_ne (u := u) (n := n1) (f := f1) (g := g1) hne
      have hcs := hst.1
      have hie := inC_e hst.1 hst.2.1 hst.2.2
      refine j_vRi SS (As := []) (rest := [.int (J x)]) (c_X7_rightmost3 l D q (sY (sX (sC u 9 n1) 9 f1) 9 g1) r (by omega) (40 : Int)  (show 0 ≤ (40 : Int) ∧ (40 : Int) ≤ 80 from (by omega)) (show RB (40 : Int) (sY (sX (sC u 9 n1) 9 f1) 9 g1) r from (by first | exact p0 | exact RB_nc (by omega) p0 | exact RB_ne (by omega) p0)) (show 1 ≤ ((sY (sX (sC u 9 n1) 9 f1) 9 g1).1.2.2.1 r) from (by omega))) mf_X7_rightmost kw_878 hG hP hP (ci := 7) (q0 := (9 + 5 * r)) rfl (cw_ring (by omega)) rfl rfl hl.1 ⟨⟨Nat.le_of_ble_eq_true rfl, Nat.le_of_ble_eq_true rfl⟩, Nat.le_of_ble_eq_true rfl, Nat.le_refl _, Nat.le_refl _⟩ rfl dX6_fill_12 (fun z_12 h_12 => ?_)
      have h_12 : (-(40 : Int) ≤ z_12 ∧ z_12 ≤ (40 : Int)) ∧ (∀ a : Int, 0 ≤ a → a < ((sY (sX (sC u 9 n1) 9 f1) 9 g1).1.2.2.1 r) → rx (sY (sX (sC u 9 n1) 9 f1) 9 g1) r a ≤ z_12) ∧ ∃ a : Int, 0 ≤ a ∧ a < ((sY (sX (sC u 9 n1) 9 f1) 9 g1).1.2.2.1 r) ∧ rx (sY (sX (sC u 9 n1) 9 f1) 9 g1) r a = z_12 := h_12
      have hz12 : (∀ a : Int, 0 ≤ a → a < u.1.2.2.1 r → rx u r a ≤ z_12) ∧ ∃ a : Int, 0 ≤ a ∧ a < u.1.2.2.1 r ∧ rx u r a = z_12 := by have w := h_12.2; rw [hcs] at w; have e := hie.2.2; exact ⟨fun a a0 a1 => by rw [← e]; exact w.1 a a0 a1, by obtain ⟨a, a0, a1, a2⟩ := w.2; exact ⟨a, a0, a1, by rw [← e]; exact a2⟩⟩
      have hr12 := hz12.1
      refine j_icmp_gt SS (tgt := 56) (x := x) (y := z_12) dX6_fill_15 (by decide) (by omega) (by omega) (fun c_15 => ?_) (fun c_15 => ?_)
      · skip
        exact W.vret SS.1 SS.2.1 hr (fun t0 ht hW => ⟨⟨(sY (sX (sC u 9 n1) 9 f1) 9 g1), rfl, (⟨n1, f1, g1, rfl, ⟨⟨by omega, i10_2⟩, fun F => OL_c (i10_4 F) (fun a b => ⟨fun w => w.1, fun w => ⟨w, by obtain ⟨c, c0, c1, c2⟩ := w.2.2.1; have w2 := hr12 c c0 c1; omega⟩⟩)⟩⟩), by show va_P D.1 j_cl (cW D q (sY (sX (sC u 9 n1) 9 f1) 9 g1)) t0.heap; rw [ht]; first | exact hP | (simp only [sC_id, sX_id, sY_id, sH_id, sT_id, sV_id]; exact hP)⟩, hS.F ht⟩) hS.2.2 dX6_fill_56 hlk
      · skip
        refine lv_aload_n SS.1 SS.2.1 dX6_fill_18 rfl (lv_at hl 1 rfl) ?_
        refine lv_iload_n SS.1 SS.2.1 dX6_fill_19 rfl (lv_at hl 2 rfl) ?_
        refine j_vRi SS (As := [.int (J x)]) (rest := []) (c_X7_highestAt3 l D q (sY (sX (sC u 9 n1) 9 f1) 9 g1) r (by omega) (40 : Int) x (show 0 ≤ (40 : Int) ∧ (40 : Int) ≤ 80 from (by omega)) (show RB (40 : Int) (sY (sX (sC u 9 n1) 9 f1) 9 g1) r from (by first | exact p0 | exact RB_nc (by omega) p0 | exact RB_ne (by omega) p0)) (show -200 ≤ x ∧ x ≤ 200 from (by omega)) (show 1 ≤ ((sY (sX (sC u 9 n1) 9 f1) 9 g1).1.2.2.1 r) from (by omega))) mf_X7_highestAt kw_879 hG hP hP (ci := 7) (q0 := (9 + 5 * r)) rfl (cw_ring (by omega)) rfl rfl hl.1 ⟨⟨Nat.le_of_ble_eq_true rfl, Nat.le_of_ble_eq_true rfl⟩, Nat.le_of_ble_eq_true rfl, Nat.le_refl _, Nat.le_refl _⟩ rfl dX6_fill_20 (fun z_20 h_20 => ?_)
        have h_20 : (-60000 ≤ z_20 ∧ z_20 ≤ (40 : Int)) ∧ (∀ y : Int, y ≤ z_20 ↔ hiC (sY (sX (sC u 9 n1) 9 f1) 9 g1) r x y (((sY (sX (sC u 9 n1) 9 f1) 9 g1).1.2.2.1 r))) := h_20
        refine lv_istore_n (lv' := [(3, .int (J z_20)), (0, .ref (q (9 + 5 * 9))), (1, .ref (q (9 + 5 * r))), (2, .int (J x))]) SS.1 SS.2.1 dX6_fill_23 rfl hl (by decide) rfl (fun ls hl => ?_)
        refine lv_aload_n SS.1 SS.2.1 dX6_fill_24 rfl (lv_at hl 2 rfl) ?_
        refine lv_iload_n SS.1 SS.2.1 dX6_fill_25 rfl (lv_at hl 3 rfl) ?_
        refine j_vRi SS (As := [.int (J x)]) (rest := []) (c_X7_lowestAt3 l D q (sY (sX (sC u 9 n1) 9 f1) 9 g1) r (by omega) (40 : Int) x (show 0 ≤ (40 : Int) ∧ (40 : Int) ≤ 80 from (by omega)) (show RB (40 : Int) (sY (sX (sC u 9 n1) 9 f1) 9 g1) r from (by first | exact p0 | exact RB_nc (by omega) p0 | exact RB_ne (by omega) p0)) (show -200 ≤ x ∧ x ≤ 200 from (by omega)) (show 1 ≤ ((sY (sX (sC u 9 n1) 9 f1) 9 g1).1.2.2.1 r) from (by omega))) mf_X7_lowestAt kw_880 hG hP hP (ci := 7) (q0 := (9 + 5 * r)) rfl (cw_ring (by omega)) rfl rfl hl.1 ⟨⟨Nat.le_of_ble_eq_true rfl, Nat.le_of_ble_eq_true rfl⟩, Nat.le_of_ble_eq_true rfl, Nat.le_refl _, Nat.le_refl _⟩ rfl dX6_fill_26 (fun z_26 h_26 => ?_)
        have h_26 : (-(40 : Int) ≤ z_26 ∧ z_26 ≤ 60000) ∧ (∀ y : Int, z_26 ≤ y ↔ loC (sY (sX (sC u 9 n1) 9 f1) 9 g1) r x y (((sY (sX (sC u 9 n1) 9 f1) 9 g1).1.2.2.1 r))) := h_26
        have hl26 : ∀ y : Int, z_26 ≤ y ↔ loC u r x y (u.1.2.2.1 r) := fun y => by have w := h_26.2 y; rw [hcs] at w; exact w.trans (hie.1 x y _)
        have hh20 : ∀ y : Int, y ≤ z_20 ↔ hiC u r x y (u.1.2.2.1 r) := fun y => by have w := h_20.2 y; rw [hcs] at w; exact w.trans (hie.2.1 x y _)
        have hcol := fun b : Int => crd_col (y := b) (by omega) i10_3 (by obtain ⟨c, c0, c1, c2⟩ := hz12.2; exact ⟨c, c0, c1, by omega⟩) hl26 hh20
        refine lv_istore (lv' := [(4, .int (J z_26)), (3, .int (J z_20)), (0, .ref (q (9 + 5 * 9))), (1, .ref (q (9 + 5 * r))), (2, .int (J x))]) SS.1 SS.2.1 dX6_fill_29 hl (by decide) rfl (fun ls hl => ?_)
        have L_31 : ∀ (nn : Nat) (y : Int) (n2 : Int) (f2 : Nat → Int) (g2 : Nat → Int) (H : Heap) (locs : List Loc) (hP : va_P D.1 j_cl (cW D q (sY (sX (sC u 9 n2) 9 f2) 9 g2)) H) (hS : va_S A st.heap H locs) (ls : Array Slot) (hl : lv_has ls 5 [(0, .ref (q (9 + 5 * 9))), (1, .ref (q (9 + 5 * r))), (2, .int (J x)), (3, .int (J z_20)), (4, .int (J y))]) (i31_0 : z_26 ≤ y ∧ y ≤ 60000) (i31_1 : 0 ≤ n2 ∧ n2 ≤ 12) (i31_2 : RV 40 f2 g2) (i31_3 : FT9 u r 12 → OL (fun a b => inC u r a b ∧ (a < x ∨ (a = x ∧ b < y))) n2 f2 g2), ((41 : Int) - y).toNat < nn → W pr l en (headSpec (jw yX6_fill cX6_fill 5 none) (jr 3 68)).room st mi (([.ref (q (9 + 5 * 9)), .ref (q (9 + 5 * r))] : List Value).toArray) below meth co H locs 0 0 (MQ below (jWv (fun u' => ∃ n : Int, ∃ f : Nat → Int, ∃ g : Nat → Int, u' = (sY (sX (sC u 9 n) 9 f) 9 g) ∧ (((0 ≤ n ∧ n ≤ 12) ∧ RV 40 f g) ∧ (FT9 u r 12 → OL (inC u r) n f g))) (fun u' H => va_P D.1 j_cl (cW D q u') H) A) (([.ref (q (9 + 5 * 9)), .ref (q (9 + 5 * r))] : List Value).toArray) st 0 0 A) (F0 mi 31 ls []) := by
          intro nn
          induction nn with
          | zero => intros; omega
          | succ nn ih_31 =>
            intro y n2 f2 g2 H locs hP hS ls hl i31_0 i31_1 i31_2 i31_3 hm
            refine lv_iload SS.1 SS.2.1 dX6_fill_31 (lv_at hl 4 rfl) ?_
            refine lv_iload_n SS.1 SS.2.1 dX6_fill_33 rfl (lv_at hl 3 rfl) ?_
            refine j_icmp_gt SS (tgt := 50) (x := y) (y := z_20) dX6_fill_34 (by decide) (by omega) (by omega) (fun c_34 => ?_) (fun c_34 => ?_)
            · skip
              refine lv_iinc (v := J (x + 1)) (lv' := [(2, .int (J (x + 1))), (0, .ref (q (9 + 5 * 9))), (1, .ref (q (9 + 5 * r))), (3, .int (J z_20)), (4, .int (J y))]) SS.1 SS.2.1 dX6_fill_50 hl (k := 2) rfl (J_add _ _) (by decide) rfl (fun ls hl => ?_)
              refine lv_goto (tgt := 10) SS.1 SS.2.1 dX6_fill_53 (by decide) ?_
              exact ih_10 (x + 1) n2 f2 g2 _ _ hP hS ls (lv_sub hl [1, 2, 0] rfl) (by omega) (by omega) (i31_2) (by omega) (fun F => OL_c (i31_3 F) (fun a b => ⟨fun w => ⟨w.1, by omega⟩, fun w => ⟨w.1, by by_cases e : a = x; (have w1 := w.1; rw [e] at w1; have w2 := (hcol b).mp w1; omega); have := w.2; omega⟩⟩)) (by omega)
            · skip
              refine lv_aload_n SS.1 SS.2.1 dX6_fill_37 rfl (lv_at hl 0 rfl) ?_
              refine lv_iload_n SS.1 SS.2.1 dX6_fill_38 rfl (lv_at hl 2 rfl) ?_
              refine lv_iload SS.1 SS.2.1 dX6_fill_39 (lv_at hl 4 rfl) ?_
              refine j_uWv SS (As := [.int (J x), .int (J y)]) (rest := []) (c_X8_appendP l D q (sY (sX (sC u 9 n2) 9 f2) 9 g2) A (cW_D hD) 9 (by omega) x y (show 0 ≤ n2 ∧ n2 ≤ rl 9 from (by omega))) mu_6_append kw_881 hG hP hP (ci := 6) (q0 := (9 + 5 * 9)) rfl (cw_pts (by omega)) rfl hS (fun _ h => h) rfl hl.1 ⟨⟨Nat.le_of_ble_eq_true rfl, Nat.le_of_ble_eq_true rfl⟩, Nat.le_of_ble_eq_true rfl, Nat.le_refl _, Nat.le_refl _⟩ rfl dX6_fill_41 (fun u41 H locs h_41 hP _ hS => ?_)
              obtain ⟨f_41, g_41, n_41, rfl, h_41⟩ := h_41
              have hP : va_P D.1 j_cl (cW D q (sY (sX (sC u 9 n_41) 9 f_41) 9 g_41)) H := hP
              have h_41 : (n2 < rl 9 ∧ f_41 = upI (f2) (n2).toNat x ∧ g_41 = upI (g2) (n2).toNat y ∧ n_41 = n2 + 1) ∨ (rl 9 ≤ n2 ∧ f_41 = f2 ∧ g_41 = g2 ∧ n_41 = n2) := h_41
              refine lv_iinc (v := J (y + 1)) (lv' := [(4, .int (J (y + 1))), (0, .ref (q (9 + 5 * 9))), (1, .ref (q (9 + 5 * r))), (2, .int (J x)), (3, .int (J z_20))]) SS.1 SS.2.1 dX6_fill_44 hl (k := 4) rfl (J_add _ _) (by decide) rfl (fun ls hl => ?_)
              refine lv_goto (tgt := 31) SS.1 SS.2.1 dX6_fill_47 (by decide) ?_
              exact ih_31 (y + 1) n_41 f_41 g_41 _ _ hP hS ls (lv_sub hl [1, 2, 3, 4, 0] rfl) (by omega) ((ap_b (K := 40) (m := 12) (n0 := n2) (f := f_41) (g := g_41) (n := n_41) (x := x) (y := y) i31_2 (by omega) (by omega) (by omega) (by rw [hrk] at h_41; exact h_41)).1) ((ap_b (K := 40) (m := 12) (n0 := n2) (f := f_41) (g := g_41) (n := n_41) (x := x) (y := y) i31_2 (by omega) (by omega) (by omega) (by rw [hrk] at h_41; exact h_41)).2) (OL_f i31_3 hcol (by omega) (by rw [hrk] at h_41; exact h_41)) (by omega)
        exact L_31 (((41 : Int) - z_26).toNat + 1) z_26 n1 f1 g1 _ _ hP hS ls (lv_sub hl [2, 3, 4, 1, 0] rfl) (by omega) (by omega) (i10_2) (fun F => OL_c (i10_4 F) (fun a b => ⟨fun w => ⟨w.1, Or.inl w.2⟩, fun w => ⟨w.1, by rcases w.2 with e | ⟨e, e2⟩; exact e; (have w1 := w.1; rw [e] at w1; have w2 := (hcol b).mp w1; omega)⟩⟩)) (Nat.lt_succ_self _)
  exact L_10 (((41 : Int) - z_6).toNat + 1) z_6 0 (u.1.1 9) (u.1.2.1 9) _ _ hP hS ls (lv_sub hl [1, 2, 0] rfl) (by omega) (by omega) (p1.2) (by have w : z_6 = rx u r 0 := h_6.1; omega) (fun _ => OL_0 (fun a b q => by have q1 := q.1.2.1; have q2 := q.2; have w : z_6 = rx u r 0 := h_6.1; omega)) (Nat.lt_succ_self _)

set_option maxHeartbeats 4000000 in
set_option maxRecDepth 100000 in
theorem c_X6_fill3_10 (l : Launch) (D : JD) (q : Nat → Nat) (u : CS) (A : Nat → Prop) (hD : va_D A (cW D q u)) (r : Nat) (hr : r ≤ 8) (p0 : RB 40 u r) (p1 : RB 40 u 10) (p2 : 1 ≤ u.1.2.2.1 r) : Met l yX6_fill (jw yX6_fill cX6_fill 5 none) (jr 3 68) (jP [.ref (q (9 + 5 * 10)), .ref (q (9 + 5 * r))] D (fun H => va_P D.1 j_cl (cW D q u) H)) (jWv (fun u' => ∃ n : Int, ∃ f : Nat → Int, ∃ g : Nat → Int, u' = (sY (sX (sC u 10 n) 10 f) 10 g) ∧ (((0 ≤ n ∧ n ≤ 40) ∧ RV 40 f g) ∧ (FT9 u r 40 → OL (inC u r) n f g))) (fun u' H => va_P D.1 j_cl (cW D q u') H) A) 0 0 A := by
  refine Met.ofW (cc := cX6_fill) (maxL := 5) (ret := none) (by decide) rfl ?_
  intro pr en st mi args below meth co s₁ B hml hv
  obtain ⟨rfl, hG, hP⟩ := hv
  have hr := B.returns
  have hlk := B.notSynchronized
  have SS : jS pr mi co cX6_fill 5 st _ RX6 := ⟨B.exec, B.bytes, hml, findClass_of_methodNamed B.named, fun w hw => atoms_spec (ws := (jw yX6_fill cX6_fill 5 none)) B.pre w (List.mem_cons_of_mem _ hw)⟩
  have hl := lv_entry ([.ref (q (9 + 5 * 10)), .ref (q (9 + 5 * r))]) (n := 5) (Nat.le_of_ble_eq_true rfl)
  rw [lg_entry_eq]
  generalize (lg_sl ([.ref (q (9 + 5 * 10)), .ref (q (9 + 5 * r))]) ++ List.replicate (5 - (lg_sl ([.ref (q (9 + 5 * 10)), .ref (q (9 + 5 * r))])).length) Slot.unset).toArray = ls at hl ⊢
  have hl : lv_has ls 5 [(0, .ref (q (9 + 5 * 10))), (1, .ref (q (9 + 5 * r)))] := hl
  have hS : va_S A st.heap st.heap [] := va_S.rf
  have hc := p0.1
  have hrl := rl_b r
  have hrk : (rl 10 : Int) = 40 := rfl
  have hne : r ≠ 10 := by omega
  refine lv_aload_n SS.1 SS.2.1 dX6_fill_0 rfl (lv_at hl 0 rfl) ?_
  refine j_iconst SS dX6_fill_1 ?_
  refine j_putS SS hG hP (cW_D hD) hS (9 + 5 * 10) (v := .int (J 0)) (ty := .int) (C := RX6) (T := TX6) (N := 3) (cw_pts (by omega)) rfl inX6 tyX6 tyX6_ok nmX6 2 (by decide) (ref := "GridPolygons$Points") kw_133 kw_134 rfl (by decide +kernel) rfl rfl (Nat.le_of_ble_eq_true rfl) dX6_fill_2 (ws' := (cW D q (sC u 10 0))) (cs_pts (by omega)) (fun H locs hP hS => ?_)
  refine lv_aload_n SS.1 SS.2.1 dX6_fill_5 rfl (lv_at hl 1 rfl) ?_
  refine j_vRi SS (As := []) (rest := []) (c_X7_leftmost l D q (sC u 10 0) r (by omega) (40 : Int)  (show 0 ≤ (40 : Int) ∧ (40 : Int) ≤ 80 from (by omega)) (show RB (40 : Int) (sC u 10 0) r from (by first | exact p0 | exact RB_nc (by omega) p0 | exact RB_ne (by omega) p0))) mf_X7_leftmost kw_877 hG hP hP (ci := 7) (q0 := (9 + 5 * r)) rfl (cw_ring (by omega)) rfl rfl hl.1 ⟨⟨Nat.le_of_ble_eq_true rfl, Nat.le_of_ble_eq_true rfl⟩, Nat.le_of_ble_eq_true rfl, Nat.le_refl _, Nat.le_refl _⟩ rfl dX6_fill_6 (fun z_6 h_6 => ?_)
  have h_6 : z_6 = rx (sC u 10 0) r 0 ∧ -(40 : Int) ≤ z_6 ∧ z_6 ≤ (40 : Int) := h_6
  refine lv_istore_n (lv' := [(2, .int (J z_6)), (0, .ref (q (9 + 5 * 10))), (1, .ref (q (9 + 5 * r)))]) SS.1 SS.2.1 dX6_fill_9 rfl hl (by decide) rfl (fun ls hl => ?_)
  have L_10 : ∀ (nn : Nat) (x : Int) (n1 : Int) (f1 : Nat → Int) (g1 : Nat → Int) (H : Heap) (locs : List Loc) (hP : va_P D.1 j_cl (cW D q (sY (sX (sC u 10 n1) 10 f1) 10 g1)) H) (hS : va_S A st.heap H locs) (ls : Array Slot) (hl : lv_has ls 5 [(0, .ref (q (9 + 5 * 10))), (1, .ref (q (9 + 5 * r))), (2, .int (J x))]) (i10_0 : -40 ≤ x ∧ x ≤ 41) (i10_1 : 0 ≤ n1 ∧ n1 ≤ 40) (i10_2 : RV 40 f1 g1) (i10_3 : rx u r 0 ≤ x) (i10_4 : FT9 u r 40 → OL (fun a b => inC u r a b ∧ a < x) n1 f1 g1), ((41 : Int) - x).toNat < nn → W pr l en (headSpec (jw yX6_fill cX6_fill 5 none) (jr 3 68)).room st mi (([.ref (q (9 + 5 * 10)), .ref (q (9 + 5 * r))] : List Value).toArray) below meth co H locs 0 0 (MQ below (jWv (fun u' => ∃ n : Int, ∃ f : Nat → Int, ∃ g : Nat → Int, u' = (sY (sX (sC u 10 n) 10 f) 10 g) ∧ (((0 ≤ n ∧ n ≤ 40) ∧ RV 40 f g) ∧ (FT9 u r 40 → OL (inC u r) n f g))) (fun u' H => va_P D.1 j_cl (cW D q u') H) A) (([.ref (q (9 + 5 * 10)), .ref (q (9 + 5 * r))] : List Value).toArray) st 0 0 A) (F0 mi 10 ls []) := by
    intro nn
    induction nn with
    | zero => intros; omega
    | succ nn ih_10 =>
      intro x n1 f1 g1 H locs hP hS ls hl i10_0 i10_1 i10_2 i10_3 i10_4 hm
      refine lv_iload_n SS.1 SS.2.1 dX6_fill_10 rfl (lv_at hl 2 rfl) ?_
      refine lv_aload_n SS.1 SS.2.1 dX6_fill_11 rfl (lv_at hl 1 rfl) ?_
      have hst := st_ne (u := u) (n := n1) (f := f1) (g := g1) hne
      have hcs := hst.1
      have hie := inC_e hst.1 hst.2.1 hst.2.2
      refine j_vRi SS (As := []) (rest := [.int (J x)]) (c_X7_rightmost3 l D q (sY (sX (sC u 10 n1) 10 f1) 10 g1) r (by omega) (40 : Int)  (show 0 ≤ (40 : Int) ∧ (40 : Int) ≤ 80 from (by omega)) (show RB (40 : Int) (sY (sX (sC u 10 n1) 10 f1) 10 g1) r from (by first | exact p0 | exact RB_nc (by omega) p0 | exact RB_ne (by omega) p0)) (show 1 ≤ ((sY (sX (sC u 10 n1) 10 f1) 10 g1).1.2.2.1 r) from (by omega))) mf_X7_rightmost kw_878 hG hP hP (ci := 7) (q0 := (9 + 5 * r)) rfl (cw_ring (by omega)) rfl rfl hl.1 ⟨⟨Nat.le_of_ble_eq_true rfl, Nat.le_of_ble_eq_true rfl⟩, Nat.le_of_ble_eq_true rfl, Nat.le_refl _, Nat.le_refl _⟩ rfl dX6_fill_12 (fun z_12 h_12 => ?_)
      have h_12 : (-(40 : Int) ≤ z_12 ∧ z_12 ≤ (40 : Int)) ∧ (∀ a : Int, 0 ≤ a → a < ((sY (sX (sC u 10 n1) 10 f1) 10 g1).1.2.2.1 r) → rx (sY (sX (sC u 10 n1) 10 f1) 10 g1) r a ≤ z_12) ∧ ∃ a : Int, 0 ≤ a ∧ a < ((sY (sX (sC u 10 n1) 10 f1) 10 g1).1.2.2.1 r) ∧ rx (sY (sX (sC u 10 n1) 10 f1) 10 g1) r a = z_12 := h_12
      have hz12 : (∀ a : Int, 0 ≤ a → a < u.1.2.2.1 r → rx u r a ≤ z_12) ∧ ∃ a : Int, 0 ≤ a ∧ a < u.1.2.2.1 r ∧ rx u r a = z_12 := by have w := h_12.2; rw [hcs] at w; have e := hie.2.2; exact ⟨fun a a0 a1 => by rw [← e]; exact w.1 a a0 a1, by obtain ⟨a, a0, a1, a2⟩ := w.2; exact ⟨a, a0, a1, by rw [← e]; exact a2⟩⟩
      have hr12 := hz12.1
      refine j_icmp_gt SS (tgt := 56) (x := x) (y := z_12) dX6_fill_15 (by decide) (by omega) (by omega) (fun c_15 => ?_) (fun c_15 => ?_)
      · skip
        exact W.vret SS.1 SS.2.1 hr (fun t0 ht hW => ⟨⟨(sY (sX (sC u 10 n1) 10 f1) 10 g1), rfl, (⟨n1, f1, g1, rfl, ⟨⟨by omega, i10_2⟩, fun F => OL_c (i10_4 F) (fun a b => ⟨fun w => w.1, fun w => ⟨w, by obtain ⟨c, c0, c1, c2⟩ := w.2.2.1; have w2 := hr12 c c0 c1; omega⟩⟩)⟩⟩), by show va_P D.1 j_cl (cW D q (sY (sX (sC u 10 n1) 10 f1) 10 g1)) t0.heap; rw [ht]; first | exact hP | (simp only [sC_id, sX_id, sY_id, sH_id, sT_id, sV_id]; exact hP)⟩, hS.F ht⟩) hS.2.2 dX6_fill_56 hlk
      · skip
        refine lv_aload_n SS.1 SS.2.1 dX6_fill_18 rfl (lv_at hl 1 rfl) ?_
        refine lv_iload_n SS.1 SS.2.1 dX6_fill_19 rfl (lv_at hl 2 rfl) ?_
        refine j_vRi SS (As := [.int (J x)]) (rest := []) (c_X7_highestAt3 l D q (sY (sX (sC u 10 n1) 10 f1) 10 g1) r (by omega) (40 : Int) x (show 0 ≤ (40 : Int) ∧ (40 : Int) ≤ 80 from (by omega)) (show RB (40 : Int) (sY (sX (sC u 10 n1) 10 f1) 10 g1) r from (by first | exact p0 | exact RB_nc (by omega) p0 | exact RB_ne (by omega) p0)) (show -200 ≤ x ∧ x ≤ 200 from (by omega)) (show 1 ≤ ((sY (sX (sC u 10 n1) 10 f1) 10 g1).1.2.2.1 r) from (by omega))) mf_X7_highestAt kw_879 hG hP hP (ci := 7) (q0 := (9 + 5 * r)) rfl (cw_ring (by omega)) rfl rfl hl.1 ⟨⟨Nat.le_of_ble_eq_true rfl, Nat.le_of_ble_eq_true rfl⟩, Nat.le_of_ble_eq_true rfl, Nat.le_refl _, Nat.le_refl _⟩ rfl dX6_fill_20 (fun z_20 h_20 => ?_)
        have h_20 : (-60000 ≤ z_20 ∧ z_20 ≤ (40 : Int)) ∧ (∀ y : Int, y ≤ z_20 ↔ hiC (sY (sX (sC u 10 n1) 10 f1) 10 g1) r x y (((sY (sX (sC u 10 n1) 10 f1) 10 g1).1.2.2.1 r))) := h_20
        refine lv_istore_n (lv' := [(3, .int (J z_20)), (0, .ref (q (9 + 5 * 10))), (1, .ref (q (9 + 5 * r))), (2, .int (J x))]) SS.1 SS.2.1 dX6_fill_23 rfl hl (by decide) rfl (fun ls hl => ?_)
        refine lv_aload_n SS.1 SS.2.1 dX6_fill_24 rfl (lv_at hl 2 rfl) ?_
        refine lv_iload_n SS.1 SS.2.1 dX6_fill_25 rfl (lv_at hl 3 rfl) ?_
        refine j_vRi SS (As := [.int (J x)]) (rest := []) (c_X7_lowestAt3 l D q (sY (sX (sC u 10 n1) 10 f1) 10 g1) r (by omega) (40 : Int) x (show 0 ≤ (40 : Int) ∧ (40 : Int) ≤ 80 from (by omega)) (show RB (40 : Int) (sY (sX (sC u 10 n1) 10 f1) 10 g1) r from (by first | exact p0 | exact RB_nc (by omega) p0 | exact RB_ne (by omega) p0)) (show -200 ≤ x ∧ x ≤ 200 from (by omega)) (show 1 ≤ ((sY (sX (sC u 10 n1) 10 f1) 10 g1).1.2.2.1 r) from (by omega))) mf_X7_lowestAt kw_880 hG hP hP (ci := 7) (q0 := (9 + 5 * r)) rfl (cw_ring (by omega)) rfl rfl hl.1 ⟨⟨Nat.le_of_ble_eq_true rfl, Nat.le_of_ble_eq_true rfl⟩, Nat.le_of_ble_eq_true rfl, Nat.le_refl _, Nat.le_refl _⟩ rfl dX6_fill_26 (fun z_26 h_26 => ?_)
        have h_26 : (-(40 : Int) ≤ z_26 ∧ z_26 ≤ 60000) ∧ (∀ y : Int, z_26 ≤ y ↔ loC (sY (sX (sC u 10 n1) 10 f1) 10 g1) r x y (((sY (sX (sC u 10 n1) 10 f1) 10 g1).1.2.2.1 r))) := h_26
        have hl26 : ∀ y : Int, z_26 ≤ y ↔ loC u r x y (u.1.2.2.1 r) := fun y => by have w := h_26.2 y; rw [hcs] at w; exact w.trans (hie.1 x y _)
        have hh20 : ∀ y : Int, y ≤ z_20 ↔ hiC u r x y (u.1.2.2.1 r) := fun y => by have w := h_20.2 y; rw [hcs] at w; exact w.trans (hie.2.1 x y _)
        have hcol := fun b : Int => crd_col (y := b) (by omega) i10_3 (by obtain ⟨c, c0, c1, c2⟩ := hz12.2; exact ⟨c, c0, c1, by omega⟩) hl26 hh20
        refine lv_istore (lv' := [(4, .int (J z_26)), (3, .int (J z_20)), (0, .ref (q (9 + 5 * 10))), (1, .ref (q (9 + 5 * r))), (2, .int (J x))]) SS.1 SS.2.1 dX6_fill_29 hl (by decide) rfl (fun ls hl => ?_)
        have L_31 : ∀ (nn : Nat) (y : Int) (n2 : Int) (f2 : Nat → Int) (g2 : Nat → Int) (H : Heap) (locs : List Loc) (hP : va_P D.1 j_cl (cW D q (sY (sX (sC u 10 n2) 10 f2) 10 g2)) H) (hS : va_S A st.heap H locs) (ls : Array Slot) (hl : lv_has ls 5 [(0, .ref (q (9 + 5 * 10))), (1, .ref (q (9 + 5 * r))), (2, .int (J x)), (3, .int (J z_20)), (4, .int (J y))]) (i31_0 : z_26 ≤ y ∧ y ≤ 60000) (i31_1 : 0 ≤ n2 ∧ n2 ≤ 40) (i31_2 : RV 40 f2 g2) (i31_3 : FT9 u r 40 → OL (fun a b => inC u r a b ∧ (a < x ∨ (a = x ∧ b < y))) n2 f2 g2), ((41 : Int) - y).toNat < nn → W pr l en (headSpec (jw yX6_fill cX6_fill 5 none) (jr 3 68)).room st mi (([.ref (q (9 + 5 * 10)), .ref (q (9 + 5 * r))] : List Value).toArray) below meth co H locs 0 0 (MQ below (jWv (fun u' => ∃ n : Int, ∃ f : Nat → Int, ∃ g : Nat → Int, u' = (sY (sX (sC u 10 n) 10 f) 10 g) ∧ (((0 ≤ n ∧ n ≤ 40) ∧ RV 40 f g) ∧ (FT9 u r 40 → OL (inC u r) n f g))) (fun u' H => va_P D.1 j_cl (cW D q u') H) A) (([.ref (q (9 + 5 * 10)), .ref (q (9 + 5 * r))] : List Value).toArray) st 0 0 A) (F0 mi 31 ls []) := by
          intro nn
          induction nn with
          | zero => intros; omega
          | succ nn ih_31 =>
            intro y n2 f2 g2 H locs hP hS ls hl i31_0 i31_1 i31_2 i31_3 hm
            refine lv_iload SS.1 SS.2.1 dX6_fill_31 (lv_at hl 4 rfl) ?_
            refine lv_iload_n SS.1 SS.2.1 dX6_fill_33 rfl (lv_at hl 3 rfl) ?_
            refine j_icmp_gt SS (tgt := 50) (x := y) (y := z_20) dX6_fill_34 (by decide) (by omega) (by omega) (fun c_34 => ?_) (fun c_34 => ?_)
            · skip
              refine lv_iinc (v := J (x + 1)) (lv' := [(2, .int (J (x + 1))), (0, .ref (q (9 + 5 * 10))), (1, .ref (q (9 + 5 * r))), (3, .int (J z_20)), (4, .int (J y))]) SS.1 SS.2.1 dX6_fill_50 hl (k := 2) rfl (J_add _ _) (by decide) rfl (fun ls hl => ?_)
              refine lv_goto (tgt := 10) SS.1 SS.2.1 dX6_fill_53 (by decide) ?_
              exact ih_10 (x + 1) n2 f2 g2 _ _ hP hS ls (lv_sub hl [1, 2, 0] rfl) (by omega) (by omega) (i31_2) (by omega) (fun F => OL_c (i31_3 F) (fun a b => ⟨fun w => ⟨w.1, by omega⟩, fun w => ⟨w.1, by by_cases e : a = x; (have w1 := w.1; rw [e] at w1; have w2 := (hcol b).mp w1; omega); have := w.2; omega⟩⟩)) (by omega)
            · skip
              refine lv_aload_n SS.1 SS.2.1 dX6_fill_37 rfl (lv_at hl 0 rfl) ?_
              refine lv_iload_n SS.1 SS.2.1 dX6_fill_38 rfl (lv_at hl 2 rfl) ?_
              refine lv_iload SS.1 SS.2.1 dX6_fill_39 (lv_at hl 4 rfl) ?_
              refine j_uWv SS (As := [.int (J x), .int (J y)]) (rest := []) (c_X8_appendP l D q (sY (sX (sC u 10 n2) 10 f2) 10 g2) A (cW_D hD) 10 (by omega) x y (show 0 ≤ n2 ∧ n2 ≤ rl 10 from (by omega))) mu_6_append kw_881 hG hP hP (ci := 6) (q0 := (9 + 5 * 10)) rfl (cw_pts (by omega)) rfl hS (fun _ h => h) rfl hl.1 ⟨⟨Nat.le_of_ble_eq_true rfl, Nat.le_of_ble_eq_true rfl⟩, Nat.le_of_ble_eq_true rfl, Nat.le_refl _, Nat.le_refl _⟩ rfl dX6_fill_41 (fun u41 H locs h_41 hP _ hS => ?_)
              obtain ⟨f_41, g_41, n_41, rfl, h_41⟩ := h_41
              have hP : va_P D.1 j_cl (cW D q (sY (sX (sC u 10 n_41) 10 f_41) 10 g_41)) H := hP
              have h_41 : (n2 < rl 10 ∧ f_41 = upI (f2) (n2).toNat x ∧ g_41 = upI (g2) (n2).toNat y ∧ n_41 = n2 + 1) ∨ (rl 10 ≤ n2 ∧ f_41 = f2 ∧ g_41 = g2 ∧ n_41 = n2) := h_41
              refine lv_iinc (v := J (y + 1)) (lv' := [(4, .int (J (y + 1))), (0, .ref (q (9 + 5 * 10))), (1, .ref (q (9 + 5 * r))), (2, .int (J x)), (3, .int (J z_20))]) SS.1 SS.2.1 dX6_fill_44 hl (k := 4) rfl (J_add _ _) (by decide) rfl (fun ls hl => ?_)
              refine lv_goto (tgt := 31) SS.1 SS.2.1 dX6_fill_47 (by decide) ?_
              exact ih_31 (y + 1) n_41 f_41 g_41 _ _ hP hS ls (lv_sub hl [1, 2, 3, 4, 0] rfl) (by omega) ((ap_b (K := 40) (m := 40) (n0 := n2) (f := f_41) (g := g_41) (n := n_41) (x := x) (y := y) i31_2 (by omega) (by omega) (by omega) (by rw [hrk] at h_41; exact h_41)).1) ((ap_b (K := 40) (m := 40) (n0 := n2) (f := f_41) (g := g_41) (n := n_41) (x := x) (y := y) i31_2 (by omega) (by omega) (by omega) (by rw [hrk] at h_41; exact h_41)).2) (OL_f i31_3 hcol (by omega) (by rw [hrk] at h_41; exact h_41)) (by omega)
        exact L_31 (((41 : Int) - z_26).toNat + 1) z_26 n1 f1 g1 _ _ hP hS ls (lv_sub hl [2, 3, 4, 1, 0] rfl) (by omega) (by omega) (i10_2) (fun F => OL_c (i10_4 F) (fun a b => ⟨fun w => ⟨w.1, Or.inl w.2⟩, fun w => ⟨w.1, by rcases w.2 with e | ⟨e, e2⟩; exact e; (have w1 := w.1; rw [e] at w1; have w2 := (hcol b).mp w1; omega)⟩⟩)) (Nat.lt_succ_self _)
  exact L_10 (((41 : Int) - z_6).toNat + 1) z_6 0 (u.1.1 10) (u.1.2.1 10) _ _ hP hS ls (lv_sub hl [1, 2, 0] rfl) (by omega) (by omega) (p1.2) (by have w : z_6 = rx u r 0 := h_6.1; omega) (fun _ => OL_0 (fun a b q => by have q1 := q.1.2.1; have q2 := q.2; have w : z_6 = rx u r 0 := h_6.1; omega)) (Nat.lt_succ_self _)


/-! ===== sets of points as longs ===== -/
theorem fst_n9 {P : Nat → Prop} : ∀ n : Nat, (∀ j : Nat, j < n → P j) ∨ ∃ a : Nat, a < n ∧ ¬ P a ∧ ∀ j : Nat, j < a → P j := by
  intro n
  induction n with
  | zero => exact Or.inl (fun j hj => by omega)
  | succ n ih =>
    rcases ih with h | ⟨a, a1, a2, a3⟩
    · by_cases e : P n
      · exact Or.inl (fun j hj => by
          by_cases w : j = n
          · rw [w]; exact e
          · exact h j (by omega))
      · exact Or.inr ⟨n, by omega, e, h⟩
    · exact Or.inr ⟨a, by omega, a2, a3⟩
def gb (x : Int64) (i : Nat) : Bool := x.toBitVec.getLsbD i
theorem sh_d : ∀ m : Fin 64, ((1 : Int64) <<< ((J ((m.1 : Nat) : Int)).toInt64 &&& 63)).toBitVec = BitVec.twoPow 64 m.1 := by decide +kernel
theorem sh_b (m : Nat) (h : m < 64) : ((1 : Int64) <<< ((J (m : Int)).toInt64 &&& 63)).toBitVec = BitVec.twoPow 64 m := sh_d ⟨m, h⟩
theorem gb_sh {m : Nat} (h : m < 64) (i : Nat) : gb ((1 : Int64) <<< ((J (m : Int)).toInt64 &&& 63)) i = decide (m = i) := by
  unfold gb
  rw [sh_b m h, BitVec.getLsbD_twoPow, decide_eq_true h, Bool.true_and]
theorem gb_or {x y : Int64} (i : Nat) : gb (x ||| y) i = (gb x i || gb y i) := by unfold gb; rw [Int64.toBitVec_or, BitVec.getLsbD_or]
theorem gb_and {x y : Int64} (i : Nat) : gb (x &&& y) i = (gb x i && gb y i) := by unfold gb; rw [Int64.toBitVec_and, BitVec.getLsbD_and]
theorem gb_xor {x y : Int64} (i : Nat) : gb (x ^^^ y) i = (gb x i ^^ gb y i) := by unfold gb; rw [Int64.toBitVec_xor, BitVec.getLsbD_xor]
theorem gb_0 (i : Nat) : gb 0 i = false := by
  show (0#64).getLsbD i = false
  exact BitVec.getLsbD_zero
theorem gb_e {x y : Int64} (h : ∀ i : Nat, i < 64 → gb x i = gb y i) : x = y := by
  apply Int64.toBitVec_inj.mp
  exact BitVec.eq_of_getLsbD_eq (fun i hi => h i hi)
theorem gb_nz {x : Int64} : x ≠ 0 ↔ ∃ i : Nat, i < 64 ∧ gb x i = true := by
  constructor
  · intro h
    apply Classical.byContradiction
    intro w
    refine h (gb_e (fun i hi => ?_))
    rw [gb_0]
    cases e : gb x i
    · rfl
    · exact absurd ⟨i, hi, e⟩ w
  · rintro ⟨i, _, hi⟩ e
    rw [e, gb_0] at hi
    cases hi
/-- the reference's sets -/
theorem gb_PB {f : Nat → Bool} : ∀ n : Nat, n ≤ 64 → ∀ i : Nat, gb (PB f n) i = (decide (i < n) && f i) := by
  intro n
  induction n with
  | zero => intro _ i; show gb 0 i = _; rw [gb_0]; simp
  | succ n ih =>
    intro hn i
    show gb (PB f n ||| (if f n then (1 : Int64) <<< ((J n).toInt64 &&& 63) else 0)) i = _
    rw [gb_or, ih (by omega)]
    have e : gb (if f n then (1 : Int64) <<< ((J n).toInt64 &&& 63) else 0) i = (f n && decide (n = i)) := by
      cases h : f n
      · rw [if_neg (by decide), gb_0]; rfl
      · rw [if_pos rfl, gb_sh (by omega)]; rfl
    rw [e]
    by_cases w : n = i
    · subst w; simp
    · by_cases w2 : i < n
      · have w3 : i < n + 1 := by omega
        simp [w, w2, w3]
      · have w3 : ¬ i < n + 1 := by omega
        simp [w, w2, w3]
/-- the class' sets: the first point the highest bit -/
def PR9 (f : Nat → Bool) : Nat → Int64
  | 0 => 0
  | n + 1 => PR9 f n ||| (if f n then (1 : Int64) <<< ((J (62 - (n : Int))).toInt64 &&& 63) else 0)
theorem gb_PR {f : Nat → Bool} : ∀ n : Nat, n ≤ 62 → ∀ i : Nat, gb (PR9 f n) i = (decide (i ≤ 62 ∧ 62 - i < n) && f (62 - i)) := by
  intro n
  induction n with
  | zero => intro _ i; show gb 0 i = _; rw [gb_0]; simp
  | succ n ih =>
    intro hn i
    show gb (PR9 f n ||| (if f n then (1 : Int64) <<< ((J (62 - (n : Int))).toInt64 &&& 63) else 0)) i = _
    rw [gb_or, ih (by omega)]
    have e : gb (if f n then (1 : Int64) <<< ((J (62 - (n : Int))).toInt64 &&& 63) else 0) i = (f n && decide (62 - n = i)) := by
      cases h : f n
      · rw [if_neg (by decide), gb_0]; rfl
      · rw [if_pos rfl, show (62 - (n : Int)) = ((62 - n : Nat) : Int) by omega, gb_sh (by omega)]; rfl
    rw [e]
    by_cases w : 62 - n = i
    · have w1 : 62 - i = n := by omega
      have w2 : i ≤ 62 := by omega
      rw [w1]
      simp [w, w2]
    · by_cases w2 : i ≤ 62 ∧ 62 - i < n
      · have w3 : i ≤ 62 ∧ 62 - i < n + 1 := ⟨w2.1, by omega⟩
        simp [w, w2, w3]
      · have w3 : ¬ (i ≤ 62 ∧ 62 - i < n + 1) := fun q => w2 ⟨q.1, by omega⟩
        simp [w, w2, w3]
theorem gb_nx {x : Int64} (i : Nat) : (nx9 x).testBit i = gb x i := by
  unfold nx9 gb
  exact BitVec.testBit_toNat _
theorem nx9_in {x : Int64} (h : gb x 63 = false) : nx9 x < 2 ^ 63 := by
  apply Nat.lt_pow_two_of_testBit
  intro i hi
  by_cases e : i = 63
  · rw [gb_nx, e]; exact h
  · rw [gb_nx]
    unfold gb
    exact BitVec.getLsbD_of_ge _ _ (by omega)
theorem lt_tb {x y p : Nat} (h1 : x.testBit p = false) (h2 : y.testBit p = true) (h3 : ∀ q : Nat, p < q → x.testBit q = y.testBit q) : x < y := by
  rw [Nat.testBit_eq_decide_div_mod_eq] at h1 h2
  have a1 : x / 2 ^ p % 2 ≠ 1 := of_decide_eq_false h1
  have a2 : y / 2 ^ p % 2 = 1 := of_decide_eq_true h2
  have a3 : x / 2 ^ p / 2 = y / 2 ^ p / 2 := by
    apply Nat.eq_of_testBit_eq
    intro i
    rw [Nat.div_div_eq_div_mul, Nat.div_div_eq_div_mul, ← Nat.pow_succ, Nat.testBit_div_two_pow, Nat.testBit_div_two_pow]
    exact h3 _ (by omega)
  apply Nat.lt_of_not_le
  intro w
  have := Nat.div_le_div_right (c := 2 ^ p) w
  omega
/-- order: the highest bit in which two differ -/
theorem lt_gb {x y : Int64} (hx : gb x 63 = false) (hy : gb y 63 = false) {p : Nat} (h1 : gb x p = false) (h2 : gb y p = true) (h3 : ∀ q : Nat, p < q → gb x q = gb y q) : x < y := by
  have l := lt_tb (x := nx9 x) (y := nx9 y) (p := p) (by rw [gb_nx]; exact h1) (by rw [gb_nx]; exact h2) (fun q hq => by rw [gb_nx, gb_nx]; exact h3 q hq)
  have lx := nx9_in hx
  have ly := nx9_in hy
  rw [Int64.lt_iff_toInt_lt]
  show x.toBitVec.toInt < y.toBitVec.toInt
  rw [BitVec.toInt_eq_toNat_of_lt (by unfold nx9 at lx; omega), BitVec.toInt_eq_toNat_of_lt (by unfold nx9 at ly; omega)]
  unfold nx9 at l
  omega
/-- of two sets: the first point in which they differ is in the one -/
def ahd (n : Nat) (f g : Nat → Bool) : Prop := ∃ p : Nat, p < n ∧ f p = true ∧ g p = false ∧ ∀ r : Nat, r < p → f r = g r
theorem ahd_or {n : Nat} {f g : Nat → Bool} (h : ∃ p : Nat, p < n ∧ f p ≠ g p) : ahd n f g ∨ ahd n g f := by
  obtain ⟨p, p1, p2⟩ := h
  rcases fst_n9 (P := fun r => f r = g r) n with w | ⟨a, a1, a2, a3⟩
  · exact absurd (w p p1) p2
  · cases e : f a
    · cases e2 : g a
      · exact absurd (e.trans e2.symm) a2
      · exact Or.inr ⟨a, a1, e2, e, fun r hr => (a3 r hr).symm⟩
    · cases e2 : g a
      · exact Or.inl ⟨a, a1, e, e2, a3⟩
      · exact absurd (e.trans e2.symm) a2
theorem ahd_n {n : Nat} {f g : Nat → Bool} (h : ahd n f g) (k : ahd n g f) : False := by
  obtain ⟨p, p1, p2, p3, p4⟩ := h
  obtain ⟨q, q1, q2, q3, q4⟩ := k
  rcases Nat.lt_trichotomy p q with w | w | w
  · have := q4 p w; rw [p2, p3] at this; cases this
  · subst w; rw [p2] at q3; cases q3
  · have := p4 q w; rw [q2, q3] at this; cases this
theorem ahd_t {n : Nat} {f g h : Nat → Bool} (a : ahd n f g) (b : ahd n g h) : ahd n f h := by
  obtain ⟨p, p1, p2, p3, p4⟩ := a
  obtain ⟨q, q1, q2, q3, q4⟩ := b
  rcases Nat.lt_trichotomy p q with w | w | w
  · exact ⟨p, p1, p2, (q4 p w).symm.trans p3, fun r hr => (p4 r hr).trans (q4 r (by omega))⟩
  · subst w; rw [q2] at p3; cases p3
  · exact ⟨q, q1, (p4 q w).trans q2, q3, fun r hr => (p4 r (by omega)).trans (q4 r hr)⟩
/-- the class' order -/
theorem PR_lt {n : Nat} {f g : Nat → Bool} (hn : n ≤ 62) (h : ahd n f g) : PR9 g n < PR9 f n := by
  obtain ⟨p, p1, p2, p3, p4⟩ := h
  have z : ∀ f : Nat → Bool, gb (PR9 f n) 63 = false := fun f => by rw [gb_PR n hn]; simp
  refine lt_gb (z g) (z f) (p := 62 - p) ?_ ?_ (fun q hq => ?_)
  · rw [gb_PR n hn, show 62 - (62 - p) = p by omega, p3]; simp
  · rw [gb_PR n hn, show 62 - (62 - p) = p by omega, p2]
    have w1 : 62 - p ≤ 62 ∧ p < n := ⟨by omega, p1⟩
    simp [w1.2]
  · rw [gb_PR n hn, gb_PR n hn]
    by_cases w : q ≤ 62
    · rw [p4 (62 - q) (by omega)]
    · simp [w]
/-- the reference's order -/
theorem PB_ah {n : Nat} {f g : Nat → Bool} (hn : n ≤ 62) : (((PB f n ^^^ PB g n) &&& -(PB f n ^^^ PB g n)) &&& PB f n ≠ 0) ↔ ahd n f g := by
  have ng : ∀ (x : Int64) (i : Nat), gb (-x) i = (gb x i ^^ decide (i < 64) && decide (∃ j, j < i ∧ gb x j = true)) := fun x i => by
    unfold gb
    rw [Int64.toBitVec_neg, BitVec.getLsbD_neg]
  rw [gb_nz]
  constructor
  · rintro ⟨i, hi, h⟩
    rw [gb_and, gb_and, ng, gb_xor, gb_PB n (by omega), gb_PB n (by omega)] at h
    by_cases w : i < n
    · have lo : ∀ j, j < i → f j = g j := fun j hj => by
        apply Classical.byContradiction
        intro q
        have ex : ∃ j, j < i ∧ gb (PB f n ^^^ PB g n) j = true := ⟨j, hj, by
          rw [gb_xor, gb_PB n (by omega), gb_PB n (by omega), decide_eq_true (show j < n by omega)]
          cases e1 : f j <;> cases e2 : g j <;> simp_all⟩
        rw [decide_eq_true ex, decide_eq_true hi, decide_eq_true w] at h
        cases e1 : f i <;> cases e2 : g i <;> simp_all
      rw [decide_eq_true w] at h
      cases e1 : f i
      · rw [e1] at h; simp at h
      · cases e2 : g i
        · exact ⟨i, w, e1, e2, lo⟩
        · rw [e1, e2] at h; simp at h
    · rw [decide_eq_false w] at h; simp at h
  · rintro ⟨p, p1, p2, p3, p4⟩
    refine ⟨p, by omega, ?_⟩
    have ex : ¬ ∃ j, j < p ∧ gb (PB f n ^^^ PB g n) j = true := fun ⟨j, j1, j2⟩ => by
      rw [gb_xor, gb_PB n (by omega), gb_PB n (by omega), p4 j j1] at j2
      simp at j2
    rw [gb_and, gb_and, ng, gb_xor, gb_PB n (by omega), gb_PB n (by omega), decide_eq_false ex, decide_eq_true p1, p2, p3]
    simp
/-- equal sets -/
theorem PB_e {n : Nat} {f g : Nat → Bool} (hn : n ≤ 62) (h : PB f n = PB g n) : ∀ p : Nat, p < n → f p = g p := fun p hp => by
  have q := gb_PB (f := f) n (by omega) p
  rw [h, gb_PB n (by omega), decide_eq_true hp, Bool.true_and, Bool.true_and] at q
  exact q.symm
theorem PR_e {n : Nat} {f g : Nat → Bool} (hn : n ≤ 62) (h : PR9 f n = PR9 g n) : ∀ p : Nat, p < n → f p = g p := fun p hp => by
  have q := gb_PR (f := f) n hn (62 - p)
  rw [h, gb_PR n hn, show 62 - (62 - p) = p by omega, decide_eq_true (show 62 - p ≤ 62 ∧ p < n from ⟨by omega, hp⟩), Bool.true_and, Bool.true_and] at q
  exact q.symm


/-! ===== pieces ===== -/
/-- how far the point p is above the plane of i, j, k, times their area (heights h) -/
def ab9 (X Y h : Nat → Int) (i j k p : Nat) : Int := tn X Y i j k * (h p - h i) - tn X Y i p k * (h j - h i) - tn X Y i j p * (h k - h i)
theorem tn_ii {X Y : Nat → Int} {i k : Nat} : tn X Y i i k = 0 := by unfold tn; grind
theorem tn_ij {X Y : Nat → Int} {i j : Nat} : tn X Y i j i = 0 := by unfold tn; grind
theorem tn_jj {X Y : Nat → Int} {i j : Nat} : tn X Y i j j = 0 := by unfold tn; grind
theorem tn_sw {X Y : Nat → Int} {i j k : Nat} : tn X Y i k j = - tn X Y i j k := by unfold tn; grind
theorem ab_i {X Y h : Nat → Int} {i j k : Nat} : ab9 X Y h i j k i = 0 := by unfold ab9; rw [tn_ii, tn_ij]; grind
theorem ab_j {X Y h : Nat → Int} {i j k : Nat} : ab9 X Y h i j k j = 0 := by unfold ab9; rw [tn_jj]; grind
theorem ab_k {X Y h : Nat → Int} {i j k : Nat} : ab9 X Y h i j k k = 0 := by unfold ab9; rw [tn_jj (i := i) (j := k)]; grind
theorem ab_sw {X Y h : Nat → Int} {i j k p : Nat} : ab9 X Y h i j p k = - ab9 X Y h i j k p := by
  unfold ab9
  rw [tn_sw (i := i) (j := k) (k := p)]
  grind
/-- a plane: a D at each height, then an affine part -/
def pl9 (X Y h : Nat → Int) (D A B C : Int) (p : Nat) : Int := D * h p + (A * X p + B * Y p + C)
theorem ab_pl {X Y h : Nat → Int} {i j k : Nat} : ∃ A B C : Int, ∀ p : Nat, ab9 X Y h i j k p = pl9 X Y h (tn X Y i j k) A B C p := by
  refine ⟨(Y k - Y i) * (h j - h i) * (-1) + (Y j - Y i) * (h k - h i), (X k - X i) * (h j - h i) - (X j - X i) * (h k - h i), -(tn X Y i j k * h i) + ((Y k - Y i) * (h j - h i) - (Y j - Y i) * (h k - h i)) * X i - ((X k - X i) * (h j - h i) - (X j - X i) * (h k - h i)) * Y i, fun p => ?_⟩
  unfold ab9 pl9 tn
  grind
/-- through three points of a plane that span: the same plane -/
theorem pl_ab {X Y h : Nat → Int} {D A B C : Int} {a b c p : Nat} : tn X Y a b c * pl9 X Y h D A B C p = (tn X Y p b c * pl9 X Y h D A B C a + tn X Y a p c * pl9 X Y h D A B C b + tn X Y a b p * pl9 X Y h D A B C c) + D * ab9 X Y h a b c p := by
  unfold pl9 ab9 tn
  grind
theorem ab_ab {X Y h : Nat → Int} {i j k a b c : Nat} (h1 : ab9 X Y h i j k a = 0) (h2 : ab9 X Y h i j k b = 0) (h3 : ab9 X Y h i j k c = 0) (p : Nat) : tn X Y a b c * ab9 X Y h i j k p = tn X Y i j k * ab9 X Y h a b c p := by
  obtain ⟨A, B, C, e⟩ := ab_pl (X := X) (Y := Y) (h := h) (i := i) (j := j) (k := k)
  rw [e] at h1 h2 h3 ⊢
  rw [pl_ab, h1, h2, h3, Int.mul_zero, Int.mul_zero, Int.mul_zero]
  omega
/-- signs: two planes through three common points that span, told with areas above 0 -/
theorem ab_sg {X Y h : Nat → Int} {i j k a b c : Nat} (h1 : ab9 X Y h i j k a = 0) (h2 : ab9 X Y h i j k b = 0) (h3 : ab9 X Y h i j k c = 0) (hD : 0 < tn X Y i j k) (hE : 0 < tn X Y a b c) (p : Nat) : (0 ≤ ab9 X Y h i j k p ↔ 0 ≤ ab9 X Y h a b c p) ∧ (ab9 X Y h i j k p = 0 ↔ ab9 X Y h a b c p = 0) := by
  have e := ab_ab h1 h2 h3 p
  generalize ab9 X Y h i j k p = u at e ⊢
  generalize ab9 X Y h a b c p = w at e ⊢
  generalize tn X Y i j k = D at e hD
  generalize tn X Y a b c = E at e hE
  have k1 : 0 ≤ u → 0 ≤ w := fun q => by
    have m := Int.mul_nonneg (show 0 ≤ E by omega) q
    exact le_m hD (by rw [Int.sub_zero, Int.mul_comm]; omega)
  have k2 : 0 ≤ w → 0 ≤ u := fun q => by
    have m := Int.mul_nonneg (show 0 ≤ D by omega) q
    exact le_m hE (by rw [Int.sub_zero, Int.mul_comm]; omega)
  refine ⟨⟨k1, k2⟩, fun q => ?_, fun q => ?_⟩
  · rw [q, Int.mul_zero] at e
    by_cases z : w = 0
    · exact z
    · have := Int.mul_ne_zero (show D ≠ 0 by omega) z; omega
  · rw [q, Int.mul_zero] at e
    by_cases z : u = 0
    · exact z
    · have := Int.mul_ne_zero (show E ≠ 0 by omega) z; omega
/-- a piece: the points in a plane that none lies below, three of them spanning -/
def gs9 (X Y h : Nat → Int) (n : Nat) (f : Nat → Bool) : Prop := ∃ i j k : Nat, i < n ∧ j < n ∧ k < n ∧ 0 < tn X Y i j k ∧ (∀ p : Nat, p < n → 0 ≤ ab9 X Y h i j k p) ∧ ∀ p : Nat, p < n → f p = decide (ab9 X Y h i j k p = 0)
/-- the lowest point left of an edge -/
def LL9 (X Y h : Nat → Int) (n i j k : Nat) : Prop := k < n ∧ 0 < tn X Y i j k ∧ ∀ p : Nat, p < n → 0 < tn X Y i j p → 0 ≤ ab9 X Y h i j k p
theorem os_lx {X Y : Nat → Int} {n : Nat} (hs : os_s X Y n) {a b : Nat} (hab : a < b) (hb : b < n) : lxp (X b - X a) (Y b - Y a) := by
  have q := os_l2 hs hab (by omega)
  unfold lt2 at q
  unfold lxp; omega
/-- of a set's points behind its first one, one that has all others to the left or in line -/
theorem ed_1 {X Y : Nat → Int} {n a : Nat} (hs : os_s X Y n) (S : Nat → Prop) : ∀ m : Nat, m ≤ n → (∀ p : Nat, a < p → p < m → ¬ S p) ∨ ∃ j : Nat, a < j ∧ j < m ∧ S j ∧ ∀ p : Nat, a < p → p < m → S p → 0 ≤ tn X Y a j p := by
  intro m
  induction m with
  | zero => intro _; exact Or.inl (fun p h1 h2 => by omega)
  | succ m ih =>
    intro hm
    by_cases e : a < m ∧ S m
    · rcases ih (by omega) with h | ⟨j, j1, j2, j3, j4⟩
      · refine Or.inr ⟨m, e.1, by omega, e.2, fun p h1 h2 h3 => ?_⟩
        by_cases w : p = m
        · rw [w, tn_jj]; omega
        · exact absurd h3 (h p h1 (by omega))
      · by_cases g : 0 ≤ tn X Y a j m
        · refine Or.inr ⟨j, j1, by omega, j3, fun p h1 h2 h3 => ?_⟩
          by_cases w : p = m
          · rw [w]; exact g
          · exact j4 p h1 (by omega) h3
        · refine Or.inr ⟨m, e.1, by omega, e.2, fun p h1 h2 h3 => ?_⟩
          by_cases w : p = m
          · rw [w, tn_jj]; omega
          · have q := j4 p h1 (by omega) h3
            have l1 := os_lx hs e.1 (by omega)
            have l2 := os_lx hs j1 (by omega)
            have l3 := os_lx hs h1 (by omega)
            have s1 : 0 ≤ cx (X m - X a) (Y m - Y a) (X j - X a) (Y j - Y a) := by
              have := @tn_sw X Y a j m
              have e9 : cx (X m - X a) (Y m - Y a) (X j - X a) (Y j - Y a) = tn X Y a m j := rfl
              omega
            have s2 : 0 ≤ cx (X j - X a) (Y j - Y a) (X p - X a) (Y p - Y a) := q
            exact lpT l1 l2 (lp_ln l3) s1 s2
    · rcases ih (by omega) with h | ⟨j, j1, j2, j3, j4⟩
      · refine Or.inl (fun p h1 h2 h3 => ?_)
        by_cases w : p = m
        · rw [w] at h1 h3; exact e ⟨h1, h3⟩
        · exact h p h1 (by omega) h3
      · refine Or.inr ⟨j, j1, by omega, j3, fun p h1 h2 h3 => ?_⟩
        by_cases w : p = m
        · rw [w] at h1 h3; exact absurd ⟨h1, h3⟩ e
        · exact j4 p h1 (by omega) h3
theorem tn_ln {X Y : Nat → Int} {a b i j k : Nat} (hd : X b - X a ≠ 0 ∨ Y b - Y a ≠ 0) (h1 : tn X Y a b i = 0) (h2 : tn X Y a b j = 0) (h3 : tn X Y a b k = 0) : tn X Y i j k = 0 := by
  have e1 : (X b - X a) * tn X Y i j k = (X j - X i) * (tn X Y a b k - tn X Y a b i) - (X k - X i) * (tn X Y a b j - tn X Y a b i) := by unfold tn; grind
  have e2 : (Y b - Y a) * tn X Y i j k = (Y j - Y i) * (tn X Y a b k - tn X Y a b i) - (Y k - Y i) * (tn X Y a b j - tn X Y a b i) := by unfold tn; grind
  rw [h1, h2, h3, Int.sub_self, Int.mul_zero, Int.mul_zero] at e1 e2
  by_cases z : tn X Y i j k = 0
  · exact z
  · rcases hd with w | w
    · have := Int.mul_ne_zero w z; omega
    · have := Int.mul_ne_zero w z; omega
/-- a piece is found by an edge from its first point on -/
theorem ed_2 {X Y h : Nat → Int} {n : Nat} {f : Nat → Bool} (hs : os_s X Y n) (H : gs9 X Y h n f) : ∃ a j : Nat, a < j ∧ j < n ∧ (∃ k : Nat, k < n ∧ 0 < tn X Y a j k) ∧ ∀ k : Nat, LL9 X Y h n a j k → (∀ p : Nat, p < n → 0 ≤ ab9 X Y h a j k p) ∧ ∀ p : Nat, p < n → f p = decide (ab9 X Y h a j k p = 0) := by
  obtain ⟨i, j, k, a1, a2, a3, a4, a5, a6⟩ := H
  have fi : f i = true := by rw [a6 i a1, ab_i]; rfl
  have fj : f j = true := by rw [a6 j a2, ab_j]; rfl
  have fk : f k = true := by rw [a6 k a3, ab_k]; rfl
  -- the first point
  rcases fst_n9 (P := fun p => f p = false) n with w | ⟨a, w1, w2, w3⟩
  · rw [w i a1] at fi; cases fi
  have fa : f a = true := by
    cases e : f a
    · exact absurd e w2
    · rfl
  have ge : ∀ p : Nat, f p = true → a ≤ p := fun p hp => by
    apply Nat.not_lt.mp
    intro q
    have := w3 p q
    rw [hp] at this; cases this
  have zr : ∀ p : Nat, p < n → f p = true → ab9 X Y h i j k p = 0 := fun p hp q => by
    rw [a6 p hp] at q
    exact of_decide_eq_true q
  -- the edge
  have dst : ∃ p : Nat, a < p ∧ p < n ∧ f p = true := by
    by_cases e : a = i
    · by_cases e2 : a = j
      · rw [← e, ← e2, tn_ii] at a4; omega
      · exact ⟨j, by have := ge j fj; omega, a2, fj⟩
    · exact ⟨i, by have := ge i fi; omega, a1, fi⟩
  rcases ed_1 hs (fun p => f p = true) n (Nat.le_refl n) (a := a) with w | ⟨b, b1, b2, b3, b4⟩
  · obtain ⟨p, p1, p2, p3⟩ := dst
    exact absurd p3 (w p p1 p2)
  have nd : X b - X a ≠ 0 ∨ Y b - Y a ≠ 0 := by
    have l := os_lx hs b1 b2
    unfold lxp at l; omega
  have nn : ∀ p : Nat, p < n → f p = true → 0 ≤ tn X Y a b p := fun p hp q => by
    by_cases e : p = a
    · rw [e, tn_ij]; omega
    · exact b4 p (by have := ge p q; omega) hp q
  have ex : ∃ c : Nat, c < n ∧ f c = true ∧ 0 < tn X Y a b c := by
    apply Classical.byContradiction
    intro w
    have z : ∀ p : Nat, p < n → f p = true → tn X Y a b p = 0 := fun p hp q => by
      have := nn p hp q
      apply Classical.byContradiction
      intro v
      exact w ⟨p, hp, q, by omega⟩
    have := tn_ln nd (z i a1 fi) (z j a2 fj) (z k a3 fk)
    omega
  obtain ⟨c, c1, c2, c3⟩ := ex
  refine ⟨a, b, b1, b2, ⟨c, c1, c3⟩, fun m hm => ?_⟩
  have P := ab_sg (zr a w1 fa) (zr b b2 b3) (zr c c1 c2) a4 c3
  have pos : ∀ p : Nat, p < n → 0 ≤ ab9 X Y h a b c p := fun p hp => (P p).1.mp (a5 p hp)
  have m0 : ab9 X Y h a b c m = 0 := by
    have q1 := pos m hm.1
    have q2 := hm.2.2 c c1 c3
    have q3 := @ab_sw X Y h a b m c
    omega
  have Q := ab_sg (X := X) (Y := Y) (h := h) (i := a) (j := b) (k := c) (a := a) (b := b) (c := m) ab_i ab_j m0 c3 hm.2.1
  refine ⟨fun p hp => (Q p).1.mp (pos p hp), fun p hp => ?_⟩
  rw [a6 p hp]
  exact decide_eq_decide.mpr ((P p).2.trans (Q p).2)
/-! lists of pieces in order: there is one -/
theorem ahd_c {n : Nat} {f g f' g' : Nat → Bool} (hf : ∀ p : Nat, p < n → f p = f' p) (hg : ∀ p : Nat, p < n → g p = g' p) (h : ahd n f g) : ahd n f' g' := by
  obtain ⟨p, p1, p2, p3, p4⟩ := h
  exact ⟨p, p1, (hf p p1).symm.trans p2, (hg p p1).symm.trans p3, fun r hr => ((hf r (by omega)).symm.trans (p4 r hr)).trans (hg r (by omega))⟩
theorem ahd_i {n : Nat} {f : Nat → Bool} (h : ahd n f f) : False := ahd_n h h
def SQ9 (n : Nat) (G : (Nat → Bool) → Prop) (m : Int) (F : Nat → Nat → Bool) : Prop := 0 ≤ m ∧ (∀ q : Nat, (q : Int) < m → G (F q)) ∧ (∀ a b : Nat, a < b → (b : Int) < m → ahd n (F a) (F b)) ∧ ∀ f : Nat → Bool, G f → ∃ q : Nat, (q : Int) < m ∧ ∀ p : Nat, p < n → F q p = f p


/-! ===== pieces in order, as longs ===== -/
def EN9 (enc : (Nat → Bool) → Nat → Int64) (n : Nat) : Prop := (∀ f g : Nat → Bool, enc f n = enc g n → ∀ p : Nat, p < n → f p = g p) ∧ ∀ f g : Nat → Bool, (∀ p : Nat, p < n → f p = g p) → enc f n = enc g n
theorem PB_en {n : Nat} (hn : n ≤ 62) : EN9 PB n := ⟨fun _ _ h => PB_e hn h, fun _ _ h => PB_c h⟩
theorem PR_c {f g : Nat → Bool} {n : Nat} (h : ∀ k, k < n → f k = g k) : PR9 f n = PR9 g n := by
  induction n with
  | zero => rfl
  | succ n ih =>
    show PR9 f n ||| _ = PR9 g n ||| _
    rw [ih (fun k hk => h k (by omega)), h n (by omega)]
theorem PR_en {n : Nat} (hn : n ≤ 62) : EN9 PR9 n := ⟨fun _ _ h => PR_e hn h, fun _ _ h => PR_c h⟩
def gE9 (enc : (Nat → Bool) → Nat → Int64) (X Y t : Nat → Int) (n : Nat) (b : Int64) : Prop := ∃ f : Nat → Bool, gs9 X Y t n f ∧ b = enc f n
def lE9 (enc : (Nat → Bool) → Nat → Int64) (n : Nat) (x y : Int64) : Prop := ∃ f g : Nat → Bool, ahd n f g ∧ x = enc f n ∧ y = enc g n
theorem lE_t {enc : (Nat → Bool) → Nat → Int64} {n : Nat} {x y z : Int64} (H : EN9 enc n) (h : lE9 enc n x y) (k : lE9 enc n y z) : lE9 enc n x z := by
  obtain ⟨f, g, a1, a2, a3⟩ := h
  obtain ⟨f', g', b1, b2, b3⟩ := k
  have e := H.1 g f' (a3.symm.trans b2)
  exact ⟨f, g', ahd_t a1 (ahd_c (fun p hp => (e p hp).symm) (fun _ _ => rfl) b1), a2, b3⟩
theorem lE_i {enc : (Nat → Bool) → Nat → Int64} {n : Nat} {x : Int64} (H : EN9 enc n) (h : lE9 enc n x x) : False := by
  obtain ⟨f, g, a1, a2, a3⟩ := h
  have e := H.1 f g (a2.symm.trans a3)
  exact ahd_i (ahd_c (fun _ _ => rfl) (fun p hp => (e p hp).symm) a1)
theorem lE_or {enc : (Nat → Bool) → Nat → Int64} {X Y t : Nat → Int} {n : Nat} {x y : Int64} (H : EN9 enc n) (hx : gE9 enc X Y t n x) (hy : gE9 enc X Y t n y) (hne : x ≠ y) : lE9 enc n x y ∨ lE9 enc n y x := by
  obtain ⟨f, _, ef⟩ := hx
  obtain ⟨g, _, eg⟩ := hy
  have ex : ∃ p : Nat, p < n ∧ f p ≠ g p := Classical.byContradiction (fun w => hne (by
    rw [ef, eg]
    exact H.2 f g (fun p hp => Classical.byContradiction (fun q => w ⟨p, hp, q⟩))))
  rcases ahd_or ex with w | w
  · exact Or.inl ⟨f, g, w, ef, eg⟩
  · exact Or.inr ⟨g, f, w, eg, ef⟩
/-- pieces so far, in order -/
def PL9 (enc : (Nat → Bool) → Nat → Int64) (X Y t : Nat → Int) (n : Nat) (m : Int) (B : Nat → Int64) : Prop := 0 ≤ m ∧ (∀ q : Nat, (q : Int) < m → gE9 enc X Y t n (B q)) ∧ ∀ a b : Nat, a < b → (b : Int) < m → lE9 enc n (B a) (B b)
theorem PL_in {enc : (Nat → Bool) → Nat → Int64} {X Y t : Nat → Int} {n : Nat} {m a : Int} {Bb Bc : Nat → Int64} {b : Int64} (H : EN9 enc n) (hP : PL9 enc X Y t n m Bb) (hs : sh_ Bb Bc m a) (h0 : 0 ≤ a) (hm : a ≤ m) (hg : gE9 enc X Y t n b) (hne : ∀ q : Nat, (q : Int) < m → Bb q ≠ b) (hhi : ∀ q : Nat, a ≤ q → (q : Int) < m → lE9 enc n b (Bb q)) (hlo : a = 0 ∨ ¬ lE9 enc n b (Bc (a - 1).toNat)) : PL9 enc X Y t n (m + 1) (vp_updL Bc a.toNat b) ∧ (∀ q : Nat, (q : Int) < m → ∃ q' : Nat, (q' : Int) < m + 1 ∧ vp_updL Bc a.toNat b q' = Bb q) ∧ ∃ q' : Nat, (q' : Int) < m + 1 ∧ vp_updL Bc a.toNat b q' = b := by
  obtain ⟨z0, z1, z2⟩ := hP
  have f : ∀ q : Nat, (q : Int) < m + 1 → ((q : Int) < a ∧ vp_updL Bc a.toNat b q = Bb q) ∨ ((q : Int) = a ∧ vp_updL Bc a.toNat b q = b) ∨ (a < (q : Int) ∧ vp_updL Bc a.toNat b q = Bb (q - 1)) := by
    intro q hq
    by_cases e1 : (q : Int) < a
    · exact Or.inl ⟨e1, by rw [pk_uLn (by omega)]; exact hs.1 q e1⟩
    · by_cases e2 : (q : Int) = a
      · exact Or.inr (Or.inl ⟨e2, by rw [show q = a.toNat by omega, pk_uLs]⟩)
      · refine Or.inr (Or.inr ⟨by omega, ?_⟩)
        rw [pk_uLn (by omega)]
        have := hs.2 (q - 1) (by omega) (by omega)
        rw [show q - 1 + 1 = q by omega] at this
        exact this
  have lo : ∀ q : Nat, (q : Int) < a → lE9 enc n (Bb q) b := by
    intro q hq
    have last : lE9 enc n (Bb (a - 1).toNat) b := by
      rcases hlo with w | w
      · omega
      · rw [hs.1 (a - 1).toNat (by omega)] at w
        rcases lE_or H hg (z1 (a - 1).toNat (by omega)) (fun e => hne (a - 1).toNat (by omega) e.symm) with v | v
        · exact absurd v w
        · exact v
    by_cases e : (q : Int) = a - 1
    · rw [show (a - 1).toNat = q by omega] at last; exact last
    · exact lE_t H (z2 q (a - 1).toNat (by omega) (by omega)) last
  refine ⟨⟨by omega, fun q hq => ?_, fun q r hqr hr => ?_⟩, fun q hq => ?_, a.toNat, by omega, pk_uLs⟩
  · rcases f q hq with ⟨c, e⟩ | ⟨c, e⟩ | ⟨c, e⟩
    · rw [e]; exact z1 q (by omega)
    · rw [e]; exact hg
    · rw [e]; exact z1 (q - 1) (by omega)
  · rcases f q (by omega) with ⟨c, e⟩ | ⟨c, e⟩ | ⟨c, e⟩
    · rcases f r hr with ⟨c2, e2⟩ | ⟨c2, e2⟩ | ⟨c2, e2⟩
      · rw [e, e2]; exact z2 q r hqr (by omega)
      · rw [e, e2]; exact lo q c
      · rw [e, e2]; exact z2 q (r - 1) (by omega) (by omega)
    · rcases f r hr with ⟨c2, e2⟩ | ⟨c2, e2⟩ | ⟨c2, e2⟩
      · omega
      · omega
      · rw [e, e2]; exact hhi (r - 1) (by omega) (by omega)
    · rcases f r hr with ⟨c2, e2⟩ | ⟨c2, e2⟩ | ⟨c2, e2⟩
      · omega
      · omega
      · rw [e, e2]; exact z2 (q - 1) (r - 1) (by omega) (by omega)
  · by_cases w : (q : Int) < a
    · exact ⟨q, by omega, by rw [pk_uLn (by omega)]; exact hs.1 q w⟩
    · exact ⟨q + 1, by omega, by rw [pk_uLn (by omega)]; exact hs.2 q (by omega) hq⟩
/-- told by sets -/
theorem PL_F {enc : (Nat → Bool) → Nat → Int64} {X Y t : Nat → Int} {n : Nat} {m : Int} {Bb : Nat → Int64} (H : EN9 enc n) (h : PL9 enc X Y t n m Bb) (hc : ∀ f : Nat → Bool, gs9 X Y t n f → ∃ q : Nat, (q : Int) < m ∧ Bb q = enc f n) : ∃ F : Nat → Nat → Bool, SQ9 n (gs9 X Y t n) m F ∧ ∀ q : Nat, (q : Int) < m → Bb q = enc (F q) n := by
  obtain ⟨h0, h1, h2⟩ := h
  have ch : ∀ q : Nat, ∃ f : Nat → Bool, (q : Int) < m → gs9 X Y t n f ∧ Bb q = enc f n := fun q => by
    by_cases e : (q : Int) < m
    · obtain ⟨f, f1, f2⟩ := h1 q e
      exact ⟨f, fun _ => ⟨f1, f2⟩⟩
    · exact ⟨fun _ => false, fun w => absurd w e⟩
  have F1 := fun q => Classical.choose_spec (ch q)
  refine ⟨fun q => Classical.choose (ch q), ⟨h0, fun q hq => (F1 q hq).1, fun a b hab hb => ?_, fun f hf => ?_⟩, fun q hq => (F1 q hq).2⟩
  · obtain ⟨f, g, w1, w2, w3⟩ := h2 a b hab hb
    have e1 := H.1 _ _ (w2.symm.trans (F1 a (by omega)).2)
    have e2 := H.1 _ _ (w3.symm.trans (F1 b hb).2)
    exact ahd_c e1 e2 w1
  · obtain ⟨q, q1, q2⟩ := hc f hf
    exact ⟨q, q1, H.1 _ _ ((F1 q q1).2.symm.trans q2)⟩
/-! triples of points, as the reference takes them -/
def h9 (H : Nat → Int) (s : Int) (p : Nat) : Int := H (40 * s + p).toNat
theorem pA_ab {X Y H : Nat → Int} {s i j k : Int} (hi : 0 ≤ i) (hj : 0 ≤ j) (hk : 0 ≤ k) (p : Nat) : pA X Y H s i j k p = ab9 X Y (h9 H s) i.toNat j.toNat k.toNat p := by
  have e1 : hI H s i = h9 H s i.toNat := by unfold hI h9; rw [Int.toNat_of_nonneg hi]
  have e2 : hI H s j = h9 H s j.toNat := by unfold hI h9; rw [Int.toNat_of_nonneg hj]
  have e3 : hI H s k = h9 H s k.toNat := by unfold hI h9; rw [Int.toNat_of_nonneg hk]
  have e4 : hI H s p = h9 H s p := rfl
  have t1 : tnI X Y i p k = tn X Y i.toNat p k.toNat := rfl
  have t2 : tnI X Y i j p = tn X Y i.toNat j.toNat p := rfl
  have t3 : tnI X Y i j k = tn X Y i.toNat j.toNat k.toNat := rfl
  unfold pA ab9
  rw [e1, e2, e3, e4, t1, t2, t3, Int.mul_comm (h9 H s p - h9 H s i.toNat)]
  omega
theorem ab_kj {X Y t : Nat → Int} {i j k p : Nat} : ab9 X Y t i k j p = - ab9 X Y t i j k p := by
  unfold ab9
  rw [tn_sw (i := i) (j := p) (k := j), tn_sw (i := i) (j := k) (k := p), tn_sw (i := i) (j := j) (k := k)]
  grind
theorem pt_gs {X Y H : Nat → Int} {s n i j k : Int} {b : Int64} (h : pt X Y H s n b i j k) : gE9 PB X Y (h9 H s) n.toNat b := by
  obtain ⟨a1, a2, a3, a4, a5, a6, a7⟩ := h
  refine ⟨fun p => decide (pS X Y H s i j k p = 0), ?_, a7⟩
  have e := fun p : Nat => pA_ab (X := X) (Y := Y) (H := H) (s := s) a1 (show 0 ≤ j by omega) (show 0 ≤ k by omega) p
  have t3 : tnI X Y i j k = tn X Y i.toNat j.toNat k.toNat := rfl
  by_cases g : 0 < tnI X Y i j k
  · have e2 : ∀ p : Nat, pS X Y H s i j k p = ab9 X Y (h9 H s) i.toNat j.toNat k.toNat p := fun p => by unfold pS; rw [if_pos g, e]
    refine ⟨i.toNat, j.toNat, k.toNat, by omega, by omega, by omega, by omega, fun p hp => ?_, fun p hp => ?_⟩
    · rw [← e2]; exact a6 p (by omega) (by omega)
    · show decide (pS X Y H s i j k (p : Int) = 0) = _
      rw [e2]
  · have e2 : ∀ p : Nat, pS X Y H s i j k p = ab9 X Y (h9 H s) i.toNat k.toNat j.toNat p := fun p => by unfold pS; rw [if_neg g, e, ab_kj, Int.neg_neg]
    have sw := @tn_sw X Y i.toNat j.toNat k.toNat
    refine ⟨i.toNat, k.toNat, j.toNat, by omega, by omega, by omega, by omega, fun p hp => ?_, fun p hp => ?_⟩
    · rw [← e2]; exact a6 p (by omega) (by omega)
    · show decide (pS X Y H s i j k (p : Int) = 0) = _
      rw [e2]
theorem srt3 {X Y t : Nat → Int} {i j k n : Nat} (hi : i < n) (hj : j < n) (hk : k < n) (h : 0 < tn X Y i j k) : ∃ a b c : Nat, a < b ∧ b < c ∧ c < n ∧ tn X Y a b c ≠ 0 ∧ ab9 X Y t i j k a = 0 ∧ ab9 X Y t i j k b = 0 ∧ ab9 X Y t i j k c = 0 := by
  have r1 := @tn_rot X Y i j k
  have r2 := @tn_rot X Y k i j
  have s1 := @tn_sw X Y i j k
  have s2 := @tn_sw X Y j k i
  have s3 := @tn_sw X Y k i j
  have n1 : i ≠ j := fun e => by rw [e, tn_ii] at h; omega
  have n2 : j ≠ k := fun e => by rw [e, tn_jj] at h; omega
  have n3 : i ≠ k := fun e => by rw [e, tn_ij] at h; omega
  have z1 := @ab_i X Y t i j k
  have z2 := @ab_j X Y t i j k
  have z3 := @ab_k X Y t i j k
  by_cases c1 : i < j
  · by_cases c2 : j < k
    · exact ⟨i, j, k, c1, c2, hk, by omega, z1, z2, z3⟩
    · by_cases c3 : i < k
      · exact ⟨i, k, j, c3, by omega, hj, by omega, z1, z3, z2⟩
      · exact ⟨k, i, j, by omega, c1, hj, by omega, z3, z1, z2⟩
  · by_cases c2 : i < k
    · exact ⟨j, i, k, by omega, c2, hk, by omega, z2, z1, z3⟩
    · by_cases c3 : j < k
      · exact ⟨j, k, i, c3, by omega, hi, by omega, z2, z3, z1⟩
      · exact ⟨k, j, i, by omega, by omega, hi, by omega, z3, z2, z1⟩
theorem gs_pt {X Y H : Nat → Int} {s n : Int} {f : Nat → Bool} (h : gs9 X Y (h9 H s) n.toNat f) : ∃ i j k : Int, pt X Y H s n (PB f n.toNat) i j k := by
  obtain ⟨i, j, k, a1, a2, a3, a4, a5, a6⟩ := h
  obtain ⟨a, b, c, b1, b2, b3, b4, b5, b6, b7⟩ := srt3 (t := h9 H s) a1 a2 a3 a4
  have e := fun p : Nat => pA_ab (X := X) (Y := Y) (H := H) (s := s) (i := a) (j := b) (k := c) (by omega) (by omega) (by omega) p
  have key : ∀ p : Nat, (0 ≤ ab9 X Y (h9 H s) i j k p ↔ 0 ≤ pS X Y H s a b c p) ∧ (ab9 X Y (h9 H s) i j k p = 0 ↔ pS X Y H s a b c p = 0) := fun p => by
    by_cases g : 0 < tn X Y a b c
    · have e2 : pS X Y H s a b c p = ab9 X Y (h9 H s) a b c p := by unfold pS; rw [if_pos (show 0 < tnI X Y a b c from g)]; exact e p
      rw [e2]
      exact ab_sg b5 b6 b7 a4 g p
    · have e2 : pS X Y H s a b c p = ab9 X Y (h9 H s) a c b p := by unfold pS; rw [if_neg (show ¬ 0 < tnI X Y a b c from g), ab_kj]; exact congrArg (fun z => -z) (e p)
      rw [e2]
      have sw := @tn_sw X Y a b c
      exact ab_sg b5 b7 b6 a4 (by omega) p
  refine ⟨a, b, c, by omega, by omega, by omega, by omega, b4, fun p p0 p1 => ?_, PB_c (fun p hp => ?_)⟩
  · have k1 := (key p.toNat).1.mp (a5 p.toNat (by omega))
    rw [Int.toNat_of_nonneg p0] at k1
    exact k1
  · rw [a6 p hp]
    exact decide_eq_decide.mpr (key p).2
theorem pt_u {X Y H : Nat → Int} {s n i j k : Int} {b b' : Int64} (h : pt X Y H s n b i j k) (h' : pt X Y H s n b' i j k) : b = b' := h.2.2.2.2.2.2.trans h'.2.2.2.2.2.2.symm
theorem pt_nz {X Y H : Nat → Int} {s n i j k : Int} {b : Int64} (hn : n ≤ 62) (h : pt X Y H s n b i j k) : b ≠ 0 := by
  obtain ⟨a1, a2, a3, a4, a5, a6, a7⟩ := h
  rw [a7, gb_nz]
  refine ⟨i.toNat, by omega, ?_⟩
  rw [gb_PB n.toNat (by omega), decide_eq_true (show i.toNat < n.toNat by omega), Bool.true_and]
  refine decide_eq_true ?_
  rw [Int.toNat_of_nonneg a1]
  exact pS_0.mpr pA_v.1
theorem PL_pz {X Y H : Nat → Int} {s n m : Int} {Bb : Nat → Int64} (hn : n ≤ 62) (h : PL9 PB X Y (h9 H s) n.toNat m Bb) : pz X Y H s n Bb m := by
  refine ⟨h.1, fun q hq => ?_, fun q r hqr hr e => ?_⟩
  · obtain ⟨f, f1, f2⟩ := h.2.1 q hq
    rw [f2]
    exact gs_pt f1
  · have w := h.2.2 q r hqr hr
    rw [e] at w
    exact lE_i (PB_en (by omega)) w
/-- the reference's order -/
def RO9 (x y : Int64) : Int64 := ((x ^^^ y) &&& -(x ^^^ y)) &&& x
theorem RO_i {X Y t : Nat → Int} {n : Nat} {x y : Int64} (hn : n ≤ 62) (hx : gE9 PB X Y t n x) (hy : gE9 PB X Y t n y) : RO9 x y ≠ 0 ↔ lE9 PB n x y := by
  obtain ⟨f, _, ef⟩ := hx
  obtain ⟨g, _, eg⟩ := hy
  have k := PB_ah (f := f) (g := g) hn
  unfold RO9
  rw [ef, eg]
  constructor
  · intro w; exact ⟨f, g, k.mp w, rfl, rfl⟩
  · rintro ⟨f', g', w1, w2, w3⟩
    exact k.mpr (ahd_c (fun p hp => ((PB_en hn).1 _ _ w2 p hp).symm) (fun p hp => ((PB_en hn).1 _ _ w3 p hp).symm) w1)
/-- all pieces of the triples told -/
def DN9 (X Y H : Nat → Int) (s n : Int) (Bb : Nat → Int64) (m : Int) (P : Int → Int → Int → Prop) : Prop := ∀ (i j k : Int) (b : Int64), pt X Y H s n b i j k → P i j k → ∃ q : Nat, (q : Int) < m ∧ Bb q = b
theorem DN_c {X Y H : Nat → Int} {s n m : Int} {Bb : Nat → Int64} {P Q : Int → Int → Int → Prop} (h : DN9 X Y H s n Bb m P) (e : ∀ i j k : Int, 0 ≤ i → i < j → j < k → k < n → Q i j k → P i j k) : DN9 X Y H s n Bb m Q := fun i j k b w q => h i j k b w (e i j k w.1 w.2.1 w.2.2.1 w.2.2.2.1 q)
theorem DN_s {X Y H : Nat → Int} {s n m i j k : Int} {Bb : Nat → Int64} {P Q : Int → Int → Int → Prop} (h : DN9 X Y H s n Bb m P) (e : ∀ i' j' k' : Int, Q i' j' k' → P i' j' k' ∨ (i' = i ∧ j' = j ∧ k' = k)) (hb : ∀ b : Int64, pt X Y H s n b i j k → ∃ q : Nat, (q : Int) < m ∧ Bb q = b) : DN9 X Y H s n Bb m Q := fun i' j' k' b w q => by
  rcases e i' j' k' q with v | ⟨v1, v2, v3⟩
  · exact h i' j' k' b w v
  · rw [v1, v2, v3] at w; exact hb b w
theorem DN_i {X Y H : Nat → Int} {s n m i j k : Int} {Bb Bc : Nat → Int64} {x : Int64} {P Q : Int → Int → Int → Prop} (h : DN9 X Y H s n Bb m P) (e : ∀ i' j' k' : Int, Q i' j' k' → P i' j' k' ∨ (i' = i ∧ j' = j ∧ k' = k)) (hx : pt X Y H s n x i j k) (h1 : ∀ q : Nat, (q : Int) < m → ∃ q' : Nat, (q' : Int) < m + 1 ∧ Bc q' = Bb q) (h2 : ∃ q' : Nat, (q' : Int) < m + 1 ∧ Bc q' = x) : DN9 X Y H s n Bc (m + 1) Q := fun i' j' k' b w q => by
  rcases e i' j' k' q with v | ⟨v1, v2, v3⟩
  · obtain ⟨r, r1, r2⟩ := h i' j' k' b w v
    obtain ⟨r', r3, r4⟩ := h1 r r1
    exact ⟨r', r3, r4.trans r2⟩
  · rw [v1, v2, v3] at w
    rw [pt_u w hx]; exact h2
theorem DN_gs {X Y H : Nat → Int} {s n m : Int} {Bb : Nat → Int64} {P : Int → Int → Int → Prop} (h : DN9 X Y H s n Bb m P) (hP : ∀ i j k : Int, 0 ≤ i → i < j → j < k → k < n → P i j k) (f : Nat → Bool) (hf : gs9 X Y (h9 H s) n.toNat f) : ∃ q : Nat, (q : Int) < m ∧ Bb q = PB f n.toNat := by
  obtain ⟨i, j, k, w⟩ := gs_pt hf
  exact h i j k _ w (hP i j k w.1 w.2.1 w.2.2.1 w.2.2.2.1)
/-! counting -/
def ct9 (f : Nat → Bool) : Nat → Int
  | 0 => 0
  | n + 1 => ct9 f n + (if f n = true then 1 else 0)
def mem9 (f : Nat → Bool) : Nat → Int → Int
  | 0, _ => -1
  | n + 1, i => if f n = true ∧ ct9 f n = i then (n : Int) else mem9 f n i
theorem ct9_s {f : Nat → Bool} {n : Nat} : ct9 f (n + 1) = ct9 f n + (if f n = true then 1 else 0) := rfl
theorem ct9_m {f : Nat → Bool} {n : Nat} : ∀ k : Nat, ct9 f n ≤ ct9 f (n + k) := by
  intro k
  induction k with
  | zero => exact Int.le_refl _
  | succ k ih =>
    have e : ct9 f (n + (k + 1)) = ct9 f (n + k) + (if f (n + k) = true then 1 else 0) := rfl
    rw [e]; split <;> omega
theorem ct9_l {f : Nat → Bool} {p n : Nat} (hp : f p = true) (h : p < n) : ct9 f p + 1 ≤ ct9 f n := by
  have e : ct9 f (p + 1) = ct9 f p + 1 := by rw [ct9_s, if_pos hp]
  have q := ct9_m (f := f) (n := p + 1) (n - (p + 1))
  rw [show p + 1 + (n - (p + 1)) = n by omega] at q
  omega
theorem ct9_c {f g : Nat → Bool} : ∀ n : Nat, (∀ p : Nat, p < n → f p = g p) → ct9 f n = ct9 g n := by
  intro n
  induction n with
  | zero => intro _; rfl
  | succ n ih => intro h; rw [ct9_s, ct9_s, ih (fun p hp => h p (by omega)), h n (by omega)]
theorem ct9_x {f g : Nat → Bool} {n : Nat} (h : ∀ p : Nat, p < n → f p = g p) : ∀ k : Nat, (∀ p : Nat, n ≤ p → p < n + k → f p = false) → ct9 f (n + k) = ct9 g n := by
  intro k
  induction k with
  | zero => intro _; exact ct9_c n h
  | succ k ih =>
    intro h2
    have e : ct9 f (n + (k + 1)) = ct9 f (n + k) + (if f (n + k) = true then 1 else 0) := rfl
    rw [e, ih (fun p q1 q2 => h2 p q1 (by omega)), h2 (n + k) (by omega) (by omega), if_neg (by decide)]
    omega
theorem mem9_s {f : Nat → Bool} {n : Nat} {i : Int} : mem9 f (n + 1) i = if f n = true ∧ ct9 f n = i then (n : Int) else mem9 f n i := rfl
theorem mem9_at {f : Nat → Bool} {p : Nat} {i : Int} (hp : f p = true) (hi : ct9 f p = i) : ∀ n : Nat, p < n → mem9 f n i = p := by
  intro n
  induction n with
  | zero => intro h; omega
  | succ n ih =>
    intro h
    rw [mem9_s]
    by_cases e : p = n
    · rw [← e, if_pos ⟨hp, hi⟩]
    · rw [if_neg (fun w => by have := ct9_l hp (show p < n by omega); omega)]
      exact ih (by omega)
theorem mem9_no {f : Nat → Bool} {i : Int} : ∀ n : Nat, ct9 f n ≤ i → mem9 f n i = -1 := by
  intro n
  induction n with
  | zero => intro _; rfl
  | succ n ih =>
    intro h
    rw [ct9_s] at h
    rw [mem9_s, if_neg (fun w => by rw [if_pos w.1] at h; omega)]
    exact ih (by split at h <;> omega)
theorem mem9_ex {f : Nat → Bool} {i : Int} (h0 : 0 ≤ i) : ∀ n : Nat, i < ct9 f n → ∃ p : Nat, p < n ∧ f p = true ∧ ct9 f p = i := by
  intro n
  induction n with
  | zero => intro h; have e : ct9 f 0 = 0 := rfl; omega
  | succ n ih =>
    intro h
    by_cases g : i < ct9 f n
    · obtain ⟨p, p1, p2, p3⟩ := ih g
      exact ⟨p, by omega, p2, p3⟩
    · rw [ct9_s] at h
      by_cases e : f n = true
      · rw [if_pos e] at h; exact ⟨n, by omega, e, by omega⟩
      · rw [if_neg e] at h; omega
/-- the sets seen; the least triangles -/
def sn9 (F : Nat → Nat → Bool) : Nat → Nat → Bool
  | 0, _ => false
  | q + 1, k => sn9 F q k || F q k
def ut9 (X Y : Nat → Int) (n : Nat) (f : Nat → Bool) : Prop := ct9 f n = 3 ∧ (tn X Y (mem9 f n 0).toNat (mem9 f n 1).toNat (mem9 f n 2).toNat = 1 ∨ tn X Y (mem9 f n 0).toNat (mem9 f n 1).toNat (mem9 f n 2).toNat = -1)
/-- z of the first m are least triangles -/
def cu9 (X Y : Nat → Int) (n : Nat) (F : Nat → Nat → Bool) (m : Nat) (z : Int) : Prop := ∃ w : Nat → Int, w 0 = 0 ∧ w m = z ∧ ∀ q : Nat, q < m → (ut9 X Y n (F q) ∧ w (q + 1) = w q + 1) ∨ (¬ ut9 X Y n (F q) ∧ w (q + 1) = w q)
theorem cu9_0 {X Y : Nat → Int} {n : Nat} {F : Nat → Nat → Bool} : cu9 X Y n F 0 0 := ⟨fun _ => 0, rfl, rfl, fun q hq => by omega⟩
theorem cu9_s {X Y : Nat → Int} {n m : Nat} {F : Nat → Nat → Bool} {z z' : Int} (h : cu9 X Y n F m z) (e : (ut9 X Y n (F m) ∧ z' = z + 1) ∨ (¬ ut9 X Y n (F m) ∧ z' = z)) : cu9 X Y n F (m + 1) z' := by
  obtain ⟨w, w0, w1, w2⟩ := h
  refine ⟨upI w (m + 1) z', by rw [upI_n (by omega)]; exact w0, upI_s, fun q hq => ?_⟩
  by_cases g : q = m
  · subst g
    rw [upI_s, upI_n (by omega), w1]; exact e
  · rw [upI_n (by omega), upI_n (by omega)]; exact w2 q (by omega)
/-- what both sides find: the points in order, the pieces in order -/
def LS9 (P : Int → Int → Prop) (t : Nat → Int) (n : Int) (X Y : Nat → Int) (m : Int) (F : Nat → Nat → Bool) : Prop := (0 ≤ n ∧ n ≤ 40) ∧ OL P n X Y ∧ SQ9 n.toNat (gs9 X Y t n.toNat) m F
/-- the answers of pieces, of piece -/
def psA (n : Int) (X Y : Nat → Int) (m : Int) (F : Nat → Nat → Bool) (w z : Int) : Prop := (w = 0 ∧ z = m) ∨ (w = 1 ∧ z = ct9 (sn9 F m.toNat) n.toNat) ∨ (w = 2 ∧ cu9 X Y n.toNat F m.toNat z)
def pcA (n m : Int) (F : Nat → Nat → Bool) (p i z : Int) : Prop := (m ≤ p ∧ z = -1) ∨ (p < m ∧ ((i = -1 ∧ z = ct9 (F p.toNat) n.toNat) ∨ (0 ≤ i ∧ z = mem9 (F p.toNat) n.toNat i)))


/-! bits of longs, one by one -/
theorem sr_d : ∀ m : Fin 64, ((J ((m.1 : Nat) : Int)).toInt64 &&& 63).toBitVec.smod 64 = BitVec.ofNat 64 m.1 := by decide +kernel
theorem sr_b {x : Int64} {m : Nat} (h : m < 64) (i : Nat) (hi : m + i < 64) : gb (x >>> ((J (m : Int)).toInt64 &&& 63)) i = gb x (m + i) := by
  show (BitVec.sshiftRight' x.toBitVec (((J (m : Int)).toInt64 &&& 63).toBitVec.smod 64)).getLsbD i = x.toBitVec.getLsbD (m + i)
  have e : ((J (m : Int)).toInt64 &&& 63).toBitVec.smod 64 = BitVec.ofNat 64 m := sr_d ⟨m, h⟩
  rw [e, BitVec.getLsbD_sshiftRight', BitVec.toNat_ofNat, Nat.mod_eq_of_lt (show m < 2 ^ 64 by omega), if_pos hi, decide_eq_false (show ¬ 64 ≤ i by omega)]
  rfl
theorem gb_1 (i : Nat) : gb 1 i = decide (0 = i) := by
  unfold gb
  rw [show (1 : Int64).toBitVec = BitVec.twoPow 64 0 by decide +kernel, BitVec.getLsbD_twoPow, decide_eq_true (show 0 < 64 by omega), Bool.true_and]
theorem and1_g {y : Int64} : y &&& 1 = 1 ↔ gb y 0 = true := by
  constructor
  · intro h
    have q : gb (y &&& 1) 0 = true := by rw [h, gb_1]; rfl
    rw [gb_and, gb_1] at q
    simpa using q
  · intro h
    apply gb_e
    intro i hi
    rw [gb_and, gb_1]
    by_cases e : 0 = i
    · rw [← e, h]; rfl
    · rw [decide_eq_false e, Bool.and_false]
theorem bvI_g {x : Int64} {k : Int} (h : 0 ≤ k ∧ k < 64) : bvI x k = if gb x k.toNat = true then 1 else 0 := by
  obtain ⟨m, rfl⟩ : ∃ m : Nat, k = m := ⟨k.toNat, by omega⟩
  rw [Int.toNat_natCast]
  have e : ((x >>> ((J (m : Int)).toInt64 &&& 63)) &&& 1 = 1) ↔ gb x m = true := by
    rw [and1_g, sr_b (show m < 64 by omega) 0 (by omega), Nat.add_zero]
  unfold bvI
  by_cases w : gb x m = true
  · rw [if_pos (e.mpr w), if_pos w]
  · rw [if_neg (fun q => w (e.mp q)), if_neg w]
theorem bvI_1 {x : Int64} {k : Int} (h : 0 ≤ k ∧ k < 64) : bvI x k = 1 ↔ gb x k.toNat = true := by
  rw [bvI_g h]
  by_cases w : gb x k.toNat = true
  · rw [if_pos w]; exact ⟨fun _ => w, fun _ => rfl⟩
  · rw [if_neg w]; exact ⟨fun q => by omega, fun q => absurd q w⟩
theorem smI_g {x : Int64} : ∀ n : Nat, n ≤ 64 → smI (bvI x) n = ct9 (gb x) n := by
  intro n
  induction n with
  | zero => intro _; rfl
  | succ n ih =>
    intro h
    rw [show ((n + 1 : Nat) : Int) = (n : Int) + 1 by omega, smI_s (by omega), ih (by omega), bvI_g (by omega), Int.toNat_natCast, ct9_s]
theorem smI_gi {x : Int64} {k : Int} (h : 0 ≤ k ∧ k ≤ 64) : smI (bvI x) k = ct9 (gb x) k.toNat := by
  have e := smI_g (x := x) k.toNat (by omega)
  rw [Int.toNat_of_nonneg h.1] at e
  exact e
theorem bI_40 {x : Int64} : smI (bvI x) 40 = ct9 (gb x) 40 := smI_g 40 (by omega)
/-- of a set of points -/
theorem ct_PB {f : Nat → Bool} {n : Nat} (hn : n ≤ 40) : ct9 (gb (PB f n)) 40 = ct9 f n := by
  have e := ct9_x (f := gb (PB f n)) (g := f) (n := n) (fun p hp => by rw [gb_PB n (by omega), decide_eq_true hp, Bool.true_and]) (40 - n) (fun p q1 q2 => by rw [gb_PB n (by omega), decide_eq_false (show ¬ p < n by omega), Bool.false_and])
  rw [show n + (40 - n) = 40 by omega] at e
  exact e
theorem at_PB {f : Nat → Bool} {n : Nat} {b : Int64} {z i : Int} (hn : n ≤ 40) (hb : b = PB f n) (hi : 0 ≤ i) (h : (z = -9 ∧ (0 ≤ i → ct9 (gb b) 40 ≤ i)) ∨ ((0 ≤ z ∧ z < 40) ∧ gb b z.toNat = true ∧ ct9 (gb b) z.toNat = i)) : (z = -9 ∧ ct9 f n ≤ i ∧ mem9 f n i = -1) ∨ (z = mem9 f n i ∧ 0 ≤ z ∧ z < n ∧ i < ct9 f n) := by
  rw [hb] at h
  rcases h with ⟨h1, h2⟩ | ⟨h1, h2, h3⟩
  · have q := h2 hi
    rw [ct_PB hn] at q
    exact Or.inl ⟨h1, q, mem9_no n q⟩
  · rw [gb_PB n (by omega)] at h2
    have hz : z.toNat < n := by
      by_cases w : z.toNat < n
      · exact w
      · rw [decide_eq_false w, Bool.false_and] at h2; cases h2
    rw [decide_eq_true hz, Bool.true_and] at h2
    have c : ct9 (gb (PB f n)) z.toNat = ct9 f z.toNat := ct9_c _ (fun p hp => by rw [gb_PB n (by omega), decide_eq_true (show p < n by omega), Bool.true_and])
    rw [c] at h3
    have l := ct9_l h2 hz
    have e := mem9_at h2 h3 n hz
    exact Or.inr ⟨by omega, by omega, by omega, by omega⟩
theorem PB_or {f g : Nat → Bool} {n : Nat} (hn : n ≤ 62) : PB f n ||| PB g n = PB (fun k => f k || g k) n := by
  apply gb_e
  intro i hi
  rw [gb_or, gb_PB n (by omega), gb_PB n (by omega), gb_PB n (by omega)]
  cases decide (i < n) <;> rfl
theorem PB_0 {n : Nat} (hn : n ≤ 62) : PB (fun _ => false) n = 0 := by
  apply gb_e
  intro i hi
  rw [gb_PB n (by omega), gb_0, Bool.and_false]
theorem ut_z {X Y : Nat → Int} {n : Nat} {f : Nat → Bool} {y z : Int} (h : ct9 f n = 3) (e : z = tn X Y (mem9 f n 0).toNat (mem9 f n 1).toNat (mem9 f n 2).toNat) (k : (0 ≤ z → y = z) ∧ (z < 0 → y = -z)) : ut9 X Y n f ↔ y = 1 := by
  unfold ut9
  rw [← e]
  constructor
  · intro w; omega
  · intro w; exact ⟨h, by omega⟩
theorem ut_n {X Y : Nat → Int} {n : Nat} {f : Nat → Bool} (h : ct9 f n ≠ 3) : ¬ ut9 X Y n f := fun w => h w.1
theorem sn_0 {F : Nat → Nat → Bool} {n : Nat} (hn : n ≤ 62) : PB (sn9 F 0) n = 0 := (PB_c (g := fun _ => false) (fun _ _ => rfl)).trans (PB_0 hn)
theorem sn_s {F : Nat → Nat → Bool} {n : Nat} {p : Int} {w b : Int64} (hn : n ≤ 62) (hp : 0 ≤ p) (h1 : w = PB (sn9 F p.toNat) n) (h2 : b = PB (F p.toNat) n) : w ||| b = PB (sn9 F (p + 1).toNat) n := by
  rw [h1, h2, PB_or hn, show (p + 1).toNat = p.toNat + 1 by omega]
  exact PB_c (fun _ _ => rfl)
theorem cu9_p {X Y : Nat → Int} {n : Nat} {F : Nat → Nat → Bool} {p z z' : Int} (hp : 0 ≤ p) (h : cu9 X Y n F p.toNat z) (e : (ut9 X Y n (F p.toNat) ∧ z' = z + 1) ∨ (¬ ut9 X Y n (F p.toNat) ∧ z' = z)) : cu9 X Y n F (p + 1).toNat z' := by
  rw [show (p + 1).toNat = p.toNat + 1 by omega]
  exact cu9_s h e
/-- the reference's answers -/
def lfM (u : MS) (s : Int) : Prop := 2 < mN u s ∧ mEd u s + mIn u s ≤ 40
def psM (u : MS) (s w z : Int) : Prop := (¬ ((0 ≤ s ∧ s ≤ 7) ∧ 0 ≤ w ∧ w ≤ 2) ∧ z = -1) ∨ (((0 ≤ s ∧ s ≤ 7) ∧ 0 ≤ w ∧ w ≤ 2) ∧ ((¬ lfM u s ∧ z = -2) ∨ (lfM u s ∧ ∃ (n : Int) (X Y : Nat → Int) (m : Int) (F : Nat → Nat → Bool), LS9 (PBx u s) (h9 (u.1 3) s) n X Y m F ∧ psA n X Y m F w z)))
def pcM (u : MS) (s p i z : Int) : Prop := (¬ ((0 ≤ s ∧ s ≤ 7) ∧ 0 ≤ p ∧ -1 ≤ i) ∧ z = -1) ∨ (((0 ≤ s ∧ s ≤ 7) ∧ 0 ≤ p ∧ -1 ≤ i) ∧ ((¬ lfM u s ∧ z = -2) ∨ (lfM u s ∧ ∃ (n : Int) (X Y : Nat → Int) (m : Int) (F : Nat → Nat → Bool), LS9 (PBx u s) (h9 (u.1 3) s) n X Y m F ∧ pcA n m F p i z)))


set_option maxHeartbeats 4000000 in
set_option maxRecDepth 100000 in
theorem c_X12_findAll3 (l : Launch) (D : JD) (o : Nat) (q : Nat → Nat) (u : MS) (A : Nat → Prop) (hD : va_D A (mW D o q u)) (s : Int) (p0 : 0 ≤ s ∧ s ≤ 7) (p1 : Sh u s) : Met l yX12_findAll (jw yX12_findAll cX12_findAll 8 none) (jr 2 51) (jP [.ref o, .int (J s)] D (fun H => va_P D.1 j_cl (mW D o q u) H)) (jWv (fun u' => ∃ X : Nat → Int, ∃ Y : Nat → Int, ∃ n : Int, ∃ lo : Int, ∃ hi : Int, u' = (uV (uI (uI u 10 X) 11 Y) 12 n) ∧ ((0 ≤ n ∧ n ≤ 6561 ∧ bd 40 X Y n ∧ OL (PBx u s) n X Y ∧ (bd 40 (u.1 10) (u.1 11) 6561 → bd 40 X Y 6561)) ∧ (0 < mN u s → (∀ k : Int, 0 ≤ k → k < mN u s → lo ≤ mX u s k ∧ mX u s k ≤ hi) ∧ (∃ k : Int, 0 ≤ k ∧ k < mN u s ∧ mX u s k = lo) ∧ ∃ k : Int, 0 ≤ k ∧ k < mN u s ∧ mX u s k = hi) ∧ ∀ L U : Int → Int, LU u s lo hi L U → n ≤ cb_ L U lo (hi + 1 - lo) ∨ hi < lo ∧ n = 0)) (fun u' H => va_P D.1 j_cl (mW D o q u') H) A) 0 0 A := by
  refine Met.ofW (cc := cX12_findAll) (maxL := 8) (ret := none) (by decide) rfl ?_
  intro pr en st mi args below meth co s₁ B hml hv
  obtain ⟨rfl, hG, hP⟩ := hv
  have hr := B.returns
  have hlk := B.notSynchronized
  have SS : jS pr mi co cX12_findAll 8 st _ RX12 := ⟨B.exec, B.bytes, hml, findClass_of_methodNamed B.named, fun w hw => atoms_spec (ws := (jw yX12_findAll cX12_findAll 8 none)) B.pre w (List.mem_cons_of_mem _ hw)⟩
  have hl := lv_entry ([.ref o, .int (J s)]) (n := 8) (Nat.le_of_ble_eq_true rfl)
  rw [lg_entry_eq]
  generalize (lg_sl ([.ref o, .int (J s)]) ++ List.replicate (8 - (lg_sl ([.ref o, .int (J s)])).length) Slot.unset).toArray = ls at hl ⊢
  have hl : lv_has ls 8 [(0, .ref o), (1, .int (J s))] := hl
  have hS : va_S A st.heap st.heap [] := va_S.rf
  have hN := p1.1
  have hC := p1.2.2
  refine lv_aload_n SS.1 SS.2.1 dX12_findAll_0 rfl (lv_at hl 0 rfl) ?_
  refine j_iconst SS dX12_findAll_1 ?_
  refine j_put SS hG hP (mW_D hD) hS 0 (v := .int (J 0)) (ty := .int) (C := RX12) (T := TX12) (N := 31) rfl rfl inX12 tyX12 tyX12_ok nmX12 12 (by decide) (ref := RX12) kw_1070 rfl rfl (by decide +kernel) rfl rfl (Nat.le_of_ble_eq_true rfl) dX12_findAll_2 (ws' := (mW D o q (uV u 12 0))) rfl (fun H locs hP hS => ?_)
  refine j_sipush SS dX12_findAll_5 (by decide +kernel) ?_
  refine lv_istore_n (lv' := [(2, .int (J 1000)), (0, .ref o), (1, .int (J s))]) SS.1 SS.2.1 dX12_findAll_8 rfl hl (by decide) rfl (fun ls hl => ?_)
  refine j_sipush SS dX12_findAll_9 (by decide +kernel) ?_
  refine lv_istore_n (lv' := [(3, .int (J (-1000))), (2, .int (J 1000)), (0, .ref o), (1, .int (J s))]) SS.1 SS.2.1 dX12_findAll_12 rfl hl (by decide) rfl (fun ls hl => ?_)
  refine j_sipush SS dX12_findAll_13 (by decide +kernel) ?_
  refine lv_istore (lv' := [(4, .int (J 1000)), (3, .int (J (-1000))), (2, .int (J 1000)), (0, .ref o), (1, .int (J s))]) SS.1 SS.2.1 dX12_findAll_16 hl (by decide) rfl (fun ls hl => ?_)
  refine j_sipush SS dX12_findAll_18 (by decide +kernel) ?_
  refine lv_istore (lv' := [(5, .int (J (-1000))), (4, .int (J 1000)), (3, .int (J (-1000))), (2, .int (J 1000)), (0, .ref o), (1, .int (J s))]) SS.1 SS.2.1 dX12_findAll_21 hl (by decide) rfl (fun ls hl => ?_)
  refine j_iconst SS dX12_findAll_23 ?_
  refine lv_istore (lv' := [(6, .int (J 0)), (5, .int (J (-1000))), (4, .int (J 1000)), (3, .int (J (-1000))), (2, .int (J 1000)), (0, .ref o), (1, .int (J s))]) SS.1 SS.2.1 dX12_findAll_24 hl (by decide) rfl (fun ls hl => ?_)
  have L_26 : ∀ (nn : Nat) (lx : Int) (hx : Int) (ly : Int) (hy : Int) (i : Int) (H : Heap) (locs : List Loc) (hP : va_P D.1 j_cl (mW D o q (uV u 12 0)) H) (hS : va_S A st.heap H locs) (ls : Array Slot) (hl : lv_has ls 8 [(0, .ref o), (1, .int (J s)), (2, .int (J lx)), (3, .int (J hx)), (4, .int (J ly)), (5, .int (J hy)), (6, .int (J i))]) (i26_0 : 0 ≤ i ∧ i ≤ mN u s) (i26_1 : fa_in u s i lx hx ly hy) (i26_2 : fy_in u s i ly hy), (mN u s - i).toNat < nn → W pr l en (headSpec (jw yX12_findAll cX12_findAll 8 none) (jr 2 51)).room st mi (([.ref o, .int (J s)] : List Value).toArray) below meth co H locs 0 0 (MQ below (jWv (fun u' => ∃ X : Nat → Int, ∃ Y : Nat → Int, ∃ n : Int, ∃ lo : Int, ∃ hi : Int, u' = (uV (uI (uI u 10 X) 11 Y) 12 n) ∧ ((0 ≤ n ∧ n ≤ 6561 ∧ bd 40 X Y n ∧ OL (PBx u s) n X Y ∧ (bd 40 (u.1 10) (u.1 11) 6561 → bd 40 X Y 6561)) ∧ (0 < mN u s → (∀ k : Int, 0 ≤ k → k < mN u s → lo ≤ mX u s k ∧ mX u s k ≤ hi) ∧ (∃ k : Int, 0 ≤ k ∧ k < mN u s ∧ mX u s k = lo) ∧ ∃ k : Int, 0 ≤ k ∧ k < mN u s ∧ mX u s k = hi) ∧ ∀ L U : Int → Int, LU u s lo hi L U → n ≤ cb_ L U lo (hi + 1 - lo) ∨ hi < lo ∧ n = 0)) (fun u' H => va_P D.1 j_cl (mW D o q u') H) A) (([.ref o, .int (J s)] : List Value).toArray) st 0 0 A) (F0 mi 26 ls []) := by
    intro nn
    induction nn with
    | zero => intros; omega
    | succ nn ih_26 =>
      intro lx hx ly hy i  H locs hP hS ls hl i26_0 i26_1 i26_2 hm
      have qa := i26_1.1
      refine lv_iload SS.1 SS.2.1 dX12_findAll_26 (lv_at hl 6 rfl) ?_
      refine lv_aload_n SS.1 SS.2.1 dX12_findAll_28 rfl (lv_at hl 0 rfl) ?_
      refine j_get SS hG hP 0 (v := .ref (q 0)) (C := RX12) (T := TX12) (N := 31) rfl rfl inX12 0 (by decide) (ref := RX12) kw_1058 rfl rfl dX12_findAll_29 ?_
      refine lv_iload_n SS.1 SS.2.1 dX12_findAll_32 rfl (lv_at hl 1 rfl) ?_
      refine j_iald SS hG hP 1 (n := 8) (f := (u.1 0)) rfl (z := s) (by omega) (by omega) dX12_findAll_33 ?_
      refine j_icmp_ge SS (tgt := 141) (x := i) (y := (mN u s)) dX12_findAll_34 (by decide) (by omega) (by omega) (fun c_34 => ?_) (fun c_34 => ?_)
      · skip
        have hfa : fa_in u s (mN u s) lx hx ly hy := by rw [show i = mN u s by omega] at i26_1; exact i26_1
        have hfy : fy_in u s (mN u s) ly hy := by rw [show i = mN u s by omega] at i26_2; exact i26_2
        refine lv_iload_n SS.1 SS.2.1 dX12_findAll_141 rfl (lv_at hl 2 rfl) ?_
        refine lv_istore (lv' := [(6, .int (J lx)), (0, .ref o), (1, .int (J s)), (2, .int (J lx)), (3, .int (J hx)), (4, .int (J ly)), (5, .int (J hy))]) SS.1 SS.2.1 dX12_findAll_142 hl (by decide) rfl (fun ls hl => ?_)
        have L_144 : ∀ (nn : Nat) (px : Int) (X : Nat → Int) (Y : Nat → Int) (n : Int) (H : Heap) (locs : List Loc) (hP : va_P D.1 j_cl (mW D o q (uV (uI (uI u 10 X) 11 Y) 12 n)) H) (hS : va_S A st.heap H locs) (ls : Array Slot) (hl : lv_has ls 8 [(0, .ref o), (1, .int (J s)), (2, .int (J lx)), (3, .int (J hx)), (4, .int (J ly)), (5, .int (J hy)), (6, .int (J px))]) (i144_0 : lx ≤ px ∧ (px ≤ hx + 1 ∨ px = lx)) (i144_1 : 0 ≤ n ∧ n ≤ 6561) (i144_2 : bd 40 X Y n) (i144_3 : 0 < mN u s → n ≤ 81 * (px + 40)) (i144_4 : bd 40 (u.1 10) (u.1 11) 6561 → bd 40 X Y 6561) (i144_5 : os_s X Y n ∧ ∀ a : Nat, (a : Int) < n → X a < px) (i144_6 : ∀ x y : Int, SWW X Y n x y ↔ PBx u s x y ∧ x < px) (i144_7 : ∀ L U : Int → Int, LU u s lx hx L U → n ≤ cb_ L U lx (px - lx)), (hx + 1 - px).toNat < nn → W pr l en (headSpec (jw yX12_findAll cX12_findAll 8 none) (jr 2 51)).room st mi (([.ref o, .int (J s)] : List Value).toArray) below meth co H locs 0 0 (MQ below (jWv (fun u' => ∃ X : Nat → Int, ∃ Y : Nat → Int, ∃ n : Int, ∃ lo : Int, ∃ hi : Int, u' = (uV (uI (uI u 10 X) 11 Y) 12 n) ∧ ((0 ≤ n ∧ n ≤ 6561 ∧ bd 40 X Y n ∧ OL (PBx u s) n X Y ∧ (bd 40 (u.1 10) (u.1 11) 6561 → bd 40 X Y 6561)) ∧ (0 < mN u s → (∀ k : Int, 0 ≤ k → k < mN u s → lo ≤ mX u s k ∧ mX u s k ≤ hi) ∧ (∃ k : Int, 0 ≤ k ∧ k < mN u s ∧ mX u s k = lo) ∧ ∃ k : Int, 0 ≤ k ∧ k < mN u s ∧ mX u s k = hi) ∧ ∀ L U : Int → Int, LU u s lo hi L U → n ≤ cb_ L U lo (hi + 1 - lo) ∨ hi < lo ∧ n = 0)) (fun u' H => va_P D.1 j_cl (mW D o q u') H) A) (([.ref o, .int (J s)] : List Value).toArray) st 0 0 A) (F0 mi 144 ls []) := by
          intro nn
          induction nn with
          | zero => intros; omega
          | succ nn ih_144 =>
            intro px X Y n H locs hP hS ls hl i144_0 i144_1 i144_2 i144_3 i144_4 i144_5 i144_6 i144_7 hm
            refine lv_iload SS.1 SS.2.1 dX12_findAll_144 (lv_at hl 6 rfl) ?_
            refine lv_iload_n SS.1 SS.2.1 dX12_findAll_146 rfl (lv_at hl 3 rfl) ?_
            refine j_icmp_gt SS (tgt := 227) (x := px) (y := hx) dX12_findAll_147 (by decide) (by omega) (by omega) (fun c_147 => ?_) (fun c_147 => ?_)
            · skip
              exact W.vret SS.1 SS.2.1 hr (fun t ht hW => ⟨⟨(uV (uI (uI u 10 X) 11 Y) 12 n), rfl, (⟨X, Y, n, lx, hx, rfl, ⟨⟨by omega, by omega, i144_2, ⟨by omega, i144_5.1, fun x y => (i144_6 x y).trans ⟨fun q => q.1, fun q => ⟨q, by have q2 := PBx_b hfa hfy q; omega⟩⟩⟩, i144_4⟩, fun h => by rw [show i = mN u s by omega] at i26_1; exact ⟨i26_1.2.1, i26_1.2.2 h⟩, fun L U h => by by_cases e : hx < lx; exact Or.inr ⟨e, by have k := i144_7 L U h; rw [show px - lx = 0 by omega, cb_0] at k; omega⟩; exact Or.inl (by have k := i144_7 L U h; rw [show px = hx + 1 by omega] at k; exact k)⟩⟩), by show va_P D.1 j_cl (mW D o q (uV (uI (uI u 10 X) 11 Y) 12 n)) t.heap; rw [ht]; exact hP⟩, hS.F ht⟩) hS.2.2 dX12_findAll_227 hlk
            · skip
              have qb := i26_1.1
              refine lv_iload SS.1 SS.2.1 dX12_findAll_150 (lv_at hl 4 rfl) ?_
              refine lv_istore (lv' := [(7, .int (J ly)), (0, .ref o), (1, .int (J s)), (2, .int (J lx)), (3, .int (J hx)), (4, .int (J ly)), (5, .int (J hy)), (6, .int (J px))]) SS.1 SS.2.1 dX12_findAll_152 hl (by decide) rfl (fun ls hl => ?_)
              have L_154 : ∀ (nn : Nat) (py : Int) (X2 : Nat → Int) (Y2 : Nat → Int) (n2 : Int) (H : Heap) (locs : List Loc) (hP : va_P D.1 j_cl (mW D o q (uV (uI (uI u 10 X2) 11 Y2) 12 n2)) H) (hS : va_S A st.heap H locs) (ls : Array Slot) (hl : lv_has ls 8 [(0, .ref o), (1, .int (J s)), (2, .int (J lx)), (3, .int (J hx)), (4, .int (J ly)), (5, .int (J hy)), (6, .int (J px)), (7, .int (J py))]) (i154_0 : ly ≤ py ∧ (py ≤ hy + 1 ∨ py = ly)) (i154_1 : 0 ≤ n2 ∧ n2 ≤ 6561) (i154_2 : bd 40 X2 Y2 n2) (i154_3 : n2 ≤ 81 * (px + 40) + (py + 40)) (i154_4 : bd 40 (u.1 10) (u.1 11) 6561 → bd 40 X2 Y2 6561) (i154_5 : os_s X2 Y2 n2 ∧ ∀ a : Nat, (a : Int) < n2 → lt2 (X2 a) (Y2 a) px py) (i154_6 : ∀ x y : Int, SWW X2 Y2 n2 x y ↔ PBx u s x y ∧ (x < px ∨ (x = px ∧ y < py))) (i154_7 : ∀ L U : Int → Int, LU u s lx hx L U → n2 ≤ cb_ L U lx (px - lx) + max 0 (min py (U px + 1) - L px)), (hy + 1 - py).toNat < nn → W pr l en (headSpec (jw yX12_findAll cX12_findAll 8 none) (jr 2 51)).room st mi (([.ref o, .int (J s)] : List Value).toArray) below meth co H locs 0 0 (MQ below (jWv (fun u' => ∃ X : Nat → Int, ∃ Y : Nat → Int, ∃ n : Int, ∃ lo : Int, ∃ hi : Int, u' = (uV (uI (uI u 10 X) 11 Y) 12 n) ∧ ((0 ≤ n ∧ n ≤ 6561 ∧ bd 40 X Y n ∧ OL (PBx u s) n X Y ∧ (bd 40 (u.1 10) (u.1 11) 6561 → bd 40 X Y 6561)) ∧ (0 < mN u s → (∀ k : Int, 0 ≤ k → k < mN u s → lo ≤ mX u s k ∧ mX u s k ≤ hi) ∧ (∃ k : Int, 0 ≤ k ∧ k < mN u s ∧ mX u s k = lo) ∧ ∃ k : Int, 0 ≤ k ∧ k < mN u s ∧ mX u s k = hi) ∧ ∀ L U : Int → Int, LU u s lo hi L U → n ≤ cb_ L U lo (hi + 1 - lo) ∨ hi < lo ∧ n = 0)) (fun u' H => va_P D.1 j_cl (mW D o q u') H) A) (([.ref o, .int (J s)] : List Value).toArray) st 0 0 A) (F0 mi 154 ls []) := by
                intro nn
                induction nn with
                | zero => intros; omega
                | succ nn ih_154 =>
                  intro py X2 Y2 n2 H locs hP hS ls hl i154_0 i154_1 i154_2 i154_3 i154_4 i154_5 i154_6 i154_7 hm
                  refine lv_iload SS.1 SS.2.1 dX12_findAll_154 (lv_at hl 7 rfl) ?_
                  refine lv_iload SS.1 SS.2.1 dX12_findAll_156 (lv_at hl 5 rfl) ?_
                  refine j_icmp_gt SS (tgt := 221) (x := py) (y := hy) dX12_findAll_158 (by decide) (by omega) (by omega) (fun c_158 => ?_) (fun c_158 => ?_)
                  · skip
                    refine lv_iinc (v := J (px + 1)) (lv' := [(6, .int (J (px + 1))), (0, .ref o), (1, .int (J s)), (2, .int (J lx)), (3, .int (J hx)), (4, .int (J ly)), (5, .int (J hy)), (7, .int (J py))]) SS.1 SS.2.1 dX12_findAll_221 hl (k := 6) rfl (J_add _ _) (by decide) rfl (fun ls hl => ?_)
                    refine lv_goto (tgt := 144) SS.1 SS.2.1 dX12_findAll_224 (by decide) ?_
                    exact ih_144 (px + 1) X2 Y2 n2 _ _ hP hS ls (lv_sub hl [1, 2, 3, 4, 5, 6, 0] rfl) (by omega) (by omega) (i154_2) (fun _ => by omega) (i154_4) (⟨i154_5.1, fun a ha => by have q9 := i154_5.2 a ha; unfold lt2 at q9; omega⟩) (fun x y => (i154_6 x y).trans ⟨fun q => ⟨q.1, by omega⟩, fun q => ⟨q.1, by have q2 := PBx_b hfa hfy q.1; omega⟩⟩) (fun L U h => by have k1 := i154_7 L U h; have k2 := h.2 px (by omega) (by omega); have k3 := cb_s (L := L) (U := U) (show lx ≤ px by omega); omega) (by omega)
                  · skip
                    refine lv_aload_n SS.1 SS.2.1 dX12_findAll_161 rfl (lv_at hl 0 rfl) ?_
                    refine j_get SS hG hP 0 (v := .int (J n2)) (C := RX12) (T := TX12) (N := 31) rfl rfl inX12 12 (by decide) (ref := RX12) kw_1070 rfl rfl dX12_findAll_162 ?_
                    refine j_sipush SS dX12_findAll_165 (by decide +kernel) ?_
                    refine j_icmp_ge SS (tgt := 215) (x := n2) (y := 6561) dX12_findAll_168 (by decide) (by omega) (by decide) (fun c_168 => ?_) (fun c_168 => ?_)
                    · skip
                      refine lv_iinc (v := J (py + 1)) (lv' := [(7, .int (J (py + 1))), (0, .ref o), (1, .int (J s)), (2, .int (J lx)), (3, .int (J hx)), (4, .int (J ly)), (5, .int (J hy)), (6, .int (J px))]) SS.1 SS.2.1 dX12_findAll_215 hl (k := 7) rfl (J_add _ _) (by decide) rfl (fun ls hl => ?_)
                      refine lv_goto (tgt := 154) SS.1 SS.2.1 dX12_findAll_218 (by decide) ?_
                      exact ih_154 (py + 1) X2 Y2 n2 _ _ hP hS ls (lv_sub hl [1, 2, 3, 4, 5, 6, 7, 0] rfl) (by omega) (by omega) (by first | exact i154_2 | exact bd_put (by omega) i154_2 (by omega) (by omega)) (by omega) (fun h => by first | exact i154_4 h | exact bd_up (i154_4 h) (by omega) (by omega)) (by first | exact os_no i154_5.1 i154_5.2 | exact os_put (by omega) i154_5.1 i154_5.2) (by first | (exfalso; omega) | exact fp_y (by omega) i154_6 (PBx_i hfa hfy (by omega) (by omega) (by omega) (by omega) h_177) | exact fp_n i154_6 (PBx_n (by omega) h_177)) (fun L U h => by have k1 := i154_7 L U h; first | omega | (have k2 := h.1 px py z_177 (by omega) (by omega) h_177 (by omega); omega)) (by omega)
                    · skip
                      refine lv_aload_n SS.1 SS.2.1 dX12_findAll_171 rfl (lv_at hl 0 rfl) ?_
                      refine lv_iload_n SS.1 SS.2.1 dX12_findAll_172 rfl (lv_at hl 1 rfl) ?_
                      refine lv_iload SS.1 SS.2.1 dX12_findAll_173 (lv_at hl 6 rfl) ?_
                      refine lv_iload SS.1 SS.2.1 dX12_findAll_175 (lv_at hl 7 rfl) ?_
                      refine j_vRi SS (As := [.int (J s), .int (J px), .int (J py)]) (rest := []) (c_X12_whereOf l D o q (uV (uI (uI u 10 X2) 11 Y2) 12 n2) s px py (show 0 ≤ s ∧ s ≤ 7 from (p0)) (show Sh u s from (p1)) (show -100 ≤ px ∧ px ≤ 100 from (by omega)) (show -100 ≤ py ∧ py ≤ 100 from (by omega))) mf_X12_whereOf kw_1255 hG hP hP (ci := 8) (q0 := 0) rfl rfl rfl rfl hl.1 ⟨⟨Nat.le_of_ble_eq_true rfl, Nat.le_of_ble_eq_true rfl⟩, Nat.le_of_ble_eq_true rfl, Nat.le_refl _, Nat.le_refl _⟩ rfl dX12_findAll_177 (fun z_177 h_177 => ?_)
                      have h_177 : wR u s px py z_177 := h_177
                      have zb := wR_b h_177
                      refine j_if_le SS (tgt := 215) (x := z_177) dX12_findAll_180 (by decide) (by omega) (fun c_180 => ?_) (fun c_180 => ?_)
                      · skip
                        refine lv_iinc (v := J (py + 1)) (lv' := [(7, .int (J (py + 1))), (0, .ref o), (1, .int (J s)), (2, .int (J lx)), (3, .int (J hx)), (4, .int (J ly)), (5, .int (J hy)), (6, .int (J px))]) SS.1 SS.2.1 dX12_findAll_215 hl (k := 7) rfl (J_add _ _) (by decide) rfl (fun ls hl => ?_)
                        refine lv_goto (tgt := 154) SS.1 SS.2.1 dX12_findAll_218 (by decide) ?_
                        exact ih_154 (py + 1) X2 Y2 n2 _ _ hP hS ls (lv_sub hl [1, 2, 3, 4, 5, 6, 7, 0] rfl) (by omega) (by omega) (by first | exact i154_2 | exact bd_put (by omega) i154_2 (by omega) (by omega)) (by omega) (fun h => by first | exact i154_4 h | exact bd_up (i154_4 h) (by omega) (by omega)) (by first | exact os_no i154_5.1 i154_5.2 | exact os_put (by omega) i154_5.1 i154_5.2) (by first | (exfalso; omega) | exact fp_y (by omega) i154_6 (PBx_i hfa hfy (by omega) (by omega) (by omega) (by omega) h_177) | exact fp_n i154_6 (PBx_n (by omega) h_177)) (fun L U h => by have k1 := i154_7 L U h; first | omega | (have k2 := h.1 px py z_177 (by omega) (by omega) h_177 (by omega); omega)) (by omega)
                      · skip
                        refine lv_aload_n SS.1 SS.2.1 dX12_findAll_183 rfl (lv_at hl 0 rfl) ?_
                        refine j_get SS hG hP 0 (v := .ref (q 10)) (C := RX12) (T := TX12) (N := 31) rfl rfl inX12 10 (by decide) (ref := RX12) kw_1068 rfl rfl dX12_findAll_184 ?_
                        refine lv_aload_n SS.1 SS.2.1 dX12_findAll_187 rfl (lv_at hl 0 rfl) ?_
                        refine j_get SS hG hP 0 (v := .int (J n2)) (C := RX12) (T := TX12) (N := 31) rfl rfl inX12 12 (by decide) (ref := RX12) kw_1070 rfl rfl dX12_findAll_188 ?_
                        refine lv_iload SS.1 SS.2.1 dX12_findAll_191 (lv_at hl 6 rfl) ?_
                        refine j_iast SS hG hP (mW_D hD) hS 9 (n := 6561) (f := X2) rfl (z := n2) (v := px) (by omega) (by omega) dX12_findAll_193 (ws' := (mW D o q (uV (uI (uI u 10 (upI X2 (n2).toNat px)) 11 Y2) 12 n2))) rfl (fun H locs hP hS => ?_)
                        refine lv_aload_n SS.1 SS.2.1 dX12_findAll_194 rfl (lv_at hl 0 rfl) ?_
                        refine j_get SS hG hP 0 (v := .ref (q 11)) (C := RX12) (T := TX12) (N := 31) rfl rfl inX12 11 (by decide) (ref := RX12) kw_1069 rfl rfl dX12_findAll_195 ?_
                        refine lv_aload_n SS.1 SS.2.1 dX12_findAll_198 rfl (lv_at hl 0 rfl) ?_
                        refine j_get SS hG hP 0 (v := .int (J n2)) (C := RX12) (T := TX12) (N := 31) rfl rfl inX12 12 (by decide) (ref := RX12) kw_1070 rfl rfl dX12_findAll_199 ?_
                        refine lv_iload SS.1 SS.2.1 dX12_findAll_202 (lv_at hl 7 rfl) ?_
                        refine j_iast SS hG hP (mW_D hD) hS 10 (n := 6561) (f := Y2) rfl (z := n2) (v := py) (by omega) (by omega) dX12_findAll_204 (ws' := (mW D o q (uV (uI (uI u 10 (upI X2 (n2).toNat px)) 11 (upI Y2 (n2).toNat py)) 12 n2))) rfl (fun H locs hP hS => ?_)
                        refine lv_aload_n SS.1 SS.2.1 dX12_findAll_205 rfl (lv_at hl 0 rfl) ?_
                        refine lv_dup SS.1 SS.2.1 dX12_findAll_206 rfl ?_
                        refine j_get SS hG hP 0 (v := .int (J n2)) (C := RX12) (T := TX12) (N := 31) rfl rfl inX12 12 (by decide) (ref := RX12) kw_1070 rfl rfl dX12_findAll_207 ?_
                        refine j_iconst SS dX12_findAll_210 ?_
                        refine j_iadd SS (x := n2) (y := 1) dX12_findAll_211 ?_
                        refine j_put SS hG hP (mW_D hD) hS 0 (v := .int (J (n2 + 1))) (ty := .int) (C := RX12) (T := TX12) (N := 31) rfl rfl inX12 tyX12 tyX12_ok nmX12 12 (by decide) (ref := RX12) kw_1070 rfl rfl (by decide +kernel) rfl rfl (Nat.le_of_ble_eq_true rfl) dX12_findAll_212 (ws' := (mW D o q (uV (uI (uI u 10 (upI X2 (n2).toNat px)) 11 (upI Y2 (n2).toNat py)) 12 (n2 + 1)))) rfl (fun H locs hP hS => ?_)
                        refine lv_iinc (v := J (py + 1)) (lv' := [(7, .int (J (py + 1))), (0, .ref o), (1, .int (J s)), (2, .int (J lx)), (3, .int (J hx)), (4, .int (J ly)), (5, .int (J hy)), (6, .int (J px))]) SS.1 SS.2.1 dX12_findAll_215 hl (k := 7) rfl (J_add _ _) (by decide) rfl (fun ls hl => ?_)
                        refine lv_goto (tgt := 154) SS.1 SS.2.1 dX12_findAll_218 (by decide) ?_
                        exact ih_154 (py + 1) (upI X2 (n2).toNat px) (upI Y2 (n2).toNat py) (n2 + 1) _ _ hP hS ls (lv_sub hl [1, 2, 3, 4, 5, 6, 7, 0] rfl) (by omega) (by omega) (by first | exact i154_2 | exact bd_put (by omega) i154_2 (by omega) (by omega)) (by omega) (fun h => by first | exact i154_4 h | exact bd_up (i154_4 h) (by omega) (by omega)) (by first | exact os_no i154_5.1 i154_5.2 | exact os_put (by omega) i154_5.1 i154_5.2) (by first | (exfalso; omega) | exact fp_y (by omega) i154_6 (PBx_i hfa hfy (by omega) (by omega) (by omega) (by omega) h_177) | exact fp_n i154_6 (PBx_n (by omega) h_177)) (fun L U h => by have k1 := i154_7 L U h; first | omega | (have k2 := h.1 px py z_177 (by omega) (by omega) h_177 (by omega); omega)) (by omega)
              exact L_154 ((hy + 1 - ly).toNat + 1) ly X Y n _ _ hP hS ls (lv_sub hl [1, 2, 3, 4, 5, 6, 7, 0] rfl) (by omega) (by omega) (i144_2) (by have q9 := i144_3 (by omega); omega) (i144_4) (⟨i144_5.1, fun a ha => Or.inl (i144_5.2 a ha)⟩) (fun x y => (i144_6 x y).trans ⟨fun q => ⟨q.1, Or.inl q.2⟩, fun q => ⟨q.1, by have q2 := PBx_b hfa hfy q.1; omega⟩⟩) (fun L U h => by have k1 := i144_7 L U h; omega) (Nat.lt_succ_self _)
        exact L_144 ((hx + 1 - lx).toNat + 1) lx (u.1 10) (u.1 11) 0 _ _ hP hS ls (lv_sub hl [1, 2, 3, 4, 5, 6, 0] rfl) (by omega) (by omega) (fun a ha => by omega) (fun _ => by omega) (fun h => h) (⟨fun a ha => by omega, fun a ha => by omega⟩) (fun x y => ⟨fun q => absurd q (SWW_0 (by omega)), fun q => by have q2 := PBx_b hfa hfy q.1; omega⟩) (fun L U h => by rw [show lx - lx = 0 by omega, cb_0]; omega) (Nat.lt_succ_self _)
      · skip
        have b1 := p1.2.1 (by omega) i (by omega)
        refine lv_aload_n SS.1 SS.2.1 dX12_findAll_37 rfl (lv_at hl 0 rfl) ?_
        refine lv_iload_n SS.1 SS.2.1 dX12_findAll_38 rfl (lv_at hl 1 rfl) ?_
        refine lv_iload SS.1 SS.2.1 dX12_findAll_39 (lv_at hl 6 rfl) ?_
        refine j_vRi SS (As := [.int (J s), .int (J i)]) (rest := []) (c_X12_x l D o q (uV u 12 0) s i (show 0 ≤ s ∧ s ≤ 7 from (by omega)) (show 0 ≤ i ∧ i ≤ 1000000 from (by omega)) (show 0 < mN u s ∧ mN u s ≤ 24 from (by omega))) mf_X12_x kw_1177 hG hP hP (ci := 8) (q0 := 0) rfl rfl rfl rfl hl.1 ⟨⟨Nat.le_of_ble_eq_true rfl, Nat.le_of_ble_eq_true rfl⟩, Nat.le_of_ble_eq_true rfl, Nat.le_refl _, Nat.le_refl _⟩ rfl dX12_findAll_41 (fun z_41 h_41 => ?_)
        have h_41 : z_41 = mX u s i := h_41
        refine lv_iload_n SS.1 SS.2.1 dX12_findAll_44 rfl (lv_at hl 2 rfl) ?_
        have L_59 : ∀ (a59 : Int) (H : Heap) (locs : List Loc) (hP : va_P D.1 j_cl (mW D o q (uV u 12 0)) H) (hS : va_S A st.heap H locs) (ls : Array Slot) (hl : lv_has ls 8 [(0, .ref o), (1, .int (J s)), (2, .int (J lx)), (3, .int (J hx)), (4, .int (J ly)), (5, .int (J hy)), (6, .int (J i))]) (i59_0 : (a59 = lx ∨ a59 = mX u s i) ∧ a59 ≤ lx ∧ a59 ≤ mX u s i), W pr l en (headSpec (jw yX12_findAll cX12_findAll 8 none) (jr 2 51)).room st mi (([.ref o, .int (J s)] : List Value).toArray) below meth co H locs 0 0 (MQ below (jWv (fun u' => ∃ X : Nat → Int, ∃ Y : Nat → Int, ∃ n : Int, ∃ lo : Int, ∃ hi : Int, u' = (uV (uI (uI u 10 X) 11 Y) 12 n) ∧ ((0 ≤ n ∧ n ≤ 6561 ∧ bd 40 X Y n ∧ OL (PBx u s) n X Y ∧ (bd 40 (u.1 10) (u.1 11) 6561 → bd 40 X Y 6561)) ∧ (0 < mN u s → (∀ k : Int, 0 ≤ k → k < mN u s → lo ≤ mX u s k ∧ mX u s k ≤ hi) ∧ (∃ k : Int, 0 ≤ k ∧ k < mN u s ∧ mX u s k = lo) ∧ ∃ k : Int, 0 ≤ k ∧ k < mN u s ∧ mX u s k = hi) ∧ ∀ L U : Int → Int, LU u s lo hi L U → n ≤ cb_ L U lo (hi + 1 - lo) ∨ hi < lo ∧ n = 0)) (fun u' H => va_P D.1 j_cl (mW D o q u') H) A) (([.ref o, .int (J s)] : List Value).toArray) st 0 0 A) (F0 mi 59 ls [.int (J a59)]) := by
          intro a59  H locs hP hS ls hl i59_0
          refine lv_istore_n (lv' := [(2, .int (J a59)), (0, .ref o), (1, .int (J s)), (3, .int (J hx)), (4, .int (J ly)), (5, .int (J hy)), (6, .int (J i))]) SS.1 SS.2.1 dX12_findAll_59 rfl hl (by decide) rfl (fun ls hl => ?_)
          refine lv_aload_n SS.1 SS.2.1 dX12_findAll_60 rfl (lv_at hl 1 rfl) ?_
          refine lv_iload_n SS.1 SS.2.1 dX12_findAll_61 rfl (lv_at hl 2 rfl) ?_
          refine lv_iload SS.1 SS.2.1 dX12_findAll_62 (lv_at hl 6 rfl) ?_
          refine j_vRi SS (As := [.int (J s), .int (J i)]) (rest := []) (c_X12_x l D o q (uV u 12 0) s i (show 0 ≤ s ∧ s ≤ 7 from (by omega)) (show 0 ≤ i ∧ i ≤ 1000000 from (by omega)) (show 0 < mN u s ∧ mN u s ≤ 24 from (by omega))) mf_X12_x kw_1177 hG hP hP (ci := 8) (q0 := 0) rfl rfl rfl rfl hl.1 ⟨⟨Nat.le_of_ble_eq_true rfl, Nat.le_of_ble_eq_true rfl⟩, Nat.le_of_ble_eq_true rfl, Nat.le_refl _, Nat.le_refl _⟩ rfl dX12_findAll_64 (fun z_64 h_64 => ?_)
          have h_64 : z_64 = mX u s i := h_64
          refine lv_iload_n SS.1 SS.2.1 dX12_findAll_67 rfl (lv_at hl 3 rfl) ?_
          have L_82 : ∀ (a82 : Int) (H : Heap) (locs : List Loc) (hP : va_P D.1 j_cl (mW D o q (uV u 12 0)) H) (hS : va_S A st.heap H locs) (ls : Array Slot) (hl : lv_has ls 8 [(0, .ref o), (1, .int (J s)), (2, .int (J a59)), (3, .int (J hx)), (4, .int (J ly)), (5, .int (J hy)), (6, .int (J i))]) (i82_0 : (a82 = hx ∨ a82 = mX u s i) ∧ hx ≤ a82 ∧ mX u s i ≤ a82), W pr l en (headSpec (jw yX12_findAll cX12_findAll 8 none) (jr 2 51)).room st mi (([.ref o, .int (J s)] : List Value).toArray) below meth co H locs 0 0 (MQ below (jWv (fun u' => ∃ X : Nat → Int, ∃ Y : Nat → Int, ∃ n : Int, ∃ lo : Int, ∃ hi : Int, u' = (uV (uI (uI u 10 X) 11 Y) 12 n) ∧ ((0 ≤ n ∧ n ≤ 6561 ∧ bd 40 X Y n ∧ OL (PBx u s) n X Y ∧ (bd 40 (u.1 10) (u.1 11) 6561 → bd 40 X Y 6561)) ∧ (0 < mN u s → (∀ k : Int, 0 ≤ k → k < mN u s → lo ≤ mX u s k ∧ mX u s k ≤ hi) ∧ (∃ k : Int, 0 ≤ k ∧ k < mN u s ∧ mX u s k = lo) ∧ ∃ k : Int, 0 ≤ k ∧ k < mN u s ∧ mX u s k = hi) ∧ ∀ L U : Int → Int, LU u s lo hi L U → n ≤ cb_ L U lo (hi + 1 - lo) ∨ hi < lo ∧ n = 0)) (fun u' H => va_P D.1 j_cl (mW D o q u') H) A) (([.ref o, .int (J s)] : List Value).toArray) st 0 0 A) (F0 mi 82 ls [.int (J a82)]) := by
            intro a82  H locs hP hS ls hl i82_0
            refine lv_istore_n (lv' := [(3, .int (J a82)), (0, .ref o), (1, .int (J s)), (2, .int (J a59)), (4, .int (J ly)), (5, .int (J hy)), (6, .int (J i))]) SS.1 SS.2.1 dX12_findAll_82 rfl hl (by decide) rfl (fun ls hl => ?_)
            refine lv_aload_n SS.1 SS.2.1 dX12_findAll_83 rfl (lv_at hl 1 rfl) ?_
            refine lv_iload_n SS.1 SS.2.1 dX12_findAll_84 rfl (lv_at hl 2 rfl) ?_
            refine lv_iload SS.1 SS.2.1 dX12_findAll_85 (lv_at hl 6 rfl) ?_
            refine j_vRi SS (As := [.int (J s), .int (J i)]) (rest := []) (c_X12_y l D o q (uV u 12 0) s i (show 0 ≤ s ∧ s ≤ 7 from (by omega)) (show 0 ≤ i ∧ i ≤ 1000000 from (by omega)) (show 0 < mN u s ∧ mN u s ≤ 24 from (by omega))) mf_X12_y kw_1181 hG hP hP (ci := 8) (q0 := 0) rfl rfl rfl rfl hl.1 ⟨⟨Nat.le_of_ble_eq_true rfl, Nat.le_of_ble_eq_true rfl⟩, Nat.le_of_ble_eq_true rfl, Nat.le_refl _, Nat.le_refl _⟩ rfl dX12_findAll_87 (fun z_87 h_87 => ?_)
            have h_87 : z_87 = mY u s i := h_87
            refine lv_iload SS.1 SS.2.1 dX12_findAll_90 (lv_at hl 4 rfl) ?_
            have L_107 : ∀ (a107 : Int) (H : Heap) (locs : List Loc) (hP : va_P D.1 j_cl (mW D o q (uV u 12 0)) H) (hS : va_S A st.heap H locs) (ls : Array Slot) (hl : lv_has ls 8 [(0, .ref o), (1, .int (J s)), (2, .int (J a59)), (3, .int (J a82)), (4, .int (J ly)), (5, .int (J hy)), (6, .int (J i))]) (i107_0 : (a107 = ly ∨ a107 = mY u s i) ∧ a107 ≤ ly ∧ a107 ≤ mY u s i), W pr l en (headSpec (jw yX12_findAll cX12_findAll 8 none) (jr 2 51)).room st mi (([.ref o, .int (J s)] : List Value).toArray) below meth co H locs 0 0 (MQ below (jWv (fun u' => ∃ X : Nat → Int, ∃ Y : Nat → Int, ∃ n : Int, ∃ lo : Int, ∃ hi : Int, u' = (uV (uI (uI u 10 X) 11 Y) 12 n) ∧ ((0 ≤ n ∧ n ≤ 6561 ∧ bd 40 X Y n ∧ OL (PBx u s) n X Y ∧ (bd 40 (u.1 10) (u.1 11) 6561 → bd 40 X Y 6561)) ∧ (0 < mN u s → (∀ k : Int, 0 ≤ k → k < mN u s → lo ≤ mX u s k ∧ mX u s k ≤ hi) ∧ (∃ k : Int, 0 ≤ k ∧ k < mN u s ∧ mX u s k = lo) ∧ ∃ k : Int, 0 ≤ k ∧ k < mN u s ∧ mX u s k = hi) ∧ ∀ L U : Int → Int, LU u s lo hi L U → n ≤ cb_ L U lo (hi + 1 - lo) ∨ hi < lo ∧ n = 0)) (fun u' H => va_P D.1 j_cl (mW D o q u') H) A) (([.ref o, .int (J s)] : List Value).toArray) st 0 0 A) (F0 mi 107 ls [.int (J a107)]) := by
              intro a107  H locs hP hS ls hl i107_0
              refine lv_istore (lv' := [(4, .int (J a107)), (0, .ref o), (1, .int (J s)), (2, .int (J a59)), (3, .int (J a82)), (5, .int (J hy)), (6, .int (J i))]) SS.1 SS.2.1 dX12_findAll_107 hl (by decide) rfl (fun ls hl => ?_)
              refine lv_aload_n SS.1 SS.2.1 dX12_findAll_109 rfl (lv_at hl 1 rfl) ?_
              refine lv_iload_n SS.1 SS.2.1 dX12_findAll_110 rfl (lv_at hl 2 rfl) ?_
              refine lv_iload SS.1 SS.2.1 dX12_findAll_111 (lv_at hl 6 rfl) ?_
              refine j_vRi SS (As := [.int (J s), .int (J i)]) (rest := []) (c_X12_y l D o q (uV u 12 0) s i (show 0 ≤ s ∧ s ≤ 7 from (by omega)) (show 0 ≤ i ∧ i ≤ 1000000 from (by omega)) (show 0 < mN u s ∧ mN u s ≤ 24 from (by omega))) mf_X12_y kw_1181 hG hP hP (ci := 8) (q0 := 0) rfl rfl rfl rfl hl.1 ⟨⟨Nat.le_of_ble_eq_true rfl, Nat.le_of_ble_eq_true rfl⟩, Nat.le_of_ble_eq_true rfl, Nat.le_refl _, Nat.le_refl _⟩ rfl dX12_findAll_113 (fun z_113 h_113 => ?_)
              have h_113 : z_113 = mY u s i := h_113
              refine lv_iload SS.1 SS.2.1 dX12_findAll_116 (lv_at hl 5 rfl) ?_
              have L_133 : ∀ (a133 : Int) (H : Heap) (locs : List Loc) (hP : va_P D.1 j_cl (mW D o q (uV u 12 0)) H) (hS : va_S A st.heap H locs) (ls : Array Slot) (hl : lv_has ls 8 [(0, .ref o), (1, .int (J s)), (2, .int (J a59)), (3, .int (J a82)), (4, .int (J a107)), (5, .int (J hy)), (6, .int (J i))]) (i133_0 : (a133 = hy ∨ a133 = mY u s i) ∧ hy ≤ a133 ∧ mY u s i ≤ a133), W pr l en (headSpec (jw yX12_findAll cX12_findAll 8 none) (jr 2 51)).room st mi (([.ref o, .int (J s)] : List Value).toArray) below meth co H locs 0 0 (MQ below (jWv (fun u' => ∃ X : Nat → Int, ∃ Y : Nat → Int, ∃ n : Int, ∃ lo : Int, ∃ hi : Int, u' = (uV (uI (uI u 10 X) 11 Y) 12 n) ∧ ((0 ≤ n ∧ n ≤ 6561 ∧ bd 40 X Y n ∧ OL (PBx u s) n X Y ∧ (bd 40 (u.1 10) (u.1 11) 6561 → bd 40 X Y 6561)) ∧ (0 < mN u s → (∀ k : Int, 0 ≤ k → k < mN u s → lo ≤ mX u s k ∧ mX u s k ≤ hi) ∧ (∃ k : Int, 0 ≤ k ∧ k < mN u s ∧ mX u s k = lo) ∧ ∃ k : Int, 0 ≤ k ∧ k < mN u s ∧ mX u s k = hi) ∧ ∀ L U : Int → Int, LU u s lo hi L U → n ≤ cb_ L U lo (hi + 1 - lo) ∨ hi < lo ∧ n = 0)) (fun u' H => va_P D.1 j_cl (mW D o q u') H) A) (([.ref o, .int (J s)] : List Value).toArray) st 0 0 A) (F0 mi 133 ls [.int (J a133)]) := by
                intro a133  H locs hP hS ls hl i133_0
                refine lv_istore (lv' := [(5, .int (J a133)), (0, .ref o), (1, .int (J s)), (2, .int (J a59)), (3, .int (J a82)), (4, .int (J a107)), (6, .int (J i))]) SS.1 SS.2.1 dX12_findAll_133 hl (by decide) rfl (fun ls hl => ?_)
                refine lv_iinc (v := J (i + 1)) (lv' := [(6, .int (J (i + 1))), (5, .int (J a133)), (0, .ref o), (1, .int (J s)), (2, .int (J a59)), (3, .int (J a82)), (4, .int (J a107))]) SS.1 SS.2.1 dX12_findAll_135 hl (k := 6) rfl (J_add _ _) (by decide) rfl (fun ls hl => ?_)
                refine lv_goto (tgt := 26) SS.1 SS.2.1 dX12_findAll_138 (by decide) ?_
                exact ih_26 a59 a82 a107 a133 (i + 1) _ _ hP hS ls (lv_sub hl [2, 3, 4, 5, 6, 1, 0] rfl) (by omega) (fa_s b1 (by omega) i26_1 i59_0 i82_0 i107_0 i133_0) (fy_s b1.2 (by omega) i26_2 i107_0 i133_0) (by omega)
              refine j_icmp_le SS (tgt := 131) (x := z_113) (y := hy) dX12_findAll_118 (by decide) (by omega) (by omega) (fun c_118 => ?_) (fun c_118 => ?_)
              · skip
                refine lv_iload SS.1 SS.2.1 dX12_findAll_131 (lv_at hl 5 rfl) ?_
                exact L_133 hy _ _ hP hS ls (lv_sub hl [1, 2, 3, 4, 0, 5, 6] rfl) (by omega)
              · skip
                refine lv_aload_n SS.1 SS.2.1 dX12_findAll_121 rfl (lv_at hl 1 rfl) ?_
                refine lv_iload_n SS.1 SS.2.1 dX12_findAll_122 rfl (lv_at hl 2 rfl) ?_
                refine lv_iload SS.1 SS.2.1 dX12_findAll_123 (lv_at hl 6 rfl) ?_
                refine j_vRi SS (As := [.int (J s), .int (J i)]) (rest := []) (c_X12_y l D o q (uV u 12 0) s i (show 0 ≤ s ∧ s ≤ 7 from (by omega)) (show 0 ≤ i ∧ i ≤ 1000000 from (by omega)) (show 0 < mN u s ∧ mN u s ≤ 24 from (by omega))) mf_X12_y kw_1181 hG hP hP (ci := 8) (q0 := 0) rfl rfl rfl rfl hl.1 ⟨⟨Nat.le_of_ble_eq_true rfl, Nat.le_of_ble_eq_true rfl⟩, Nat.le_of_ble_eq_true rfl, Nat.le_refl _, Nat.le_refl _⟩ rfl dX12_findAll_125 (fun z_125 h_125 => ?_)
                have h_125 : z_125 = mY u s i := h_125
                refine lv_goto (tgt := 133) SS.1 SS.2.1 dX12_findAll_128 (by decide) ?_
                exact L_133 z_125 _ _ hP hS ls (lv_sub hl [1, 2, 3, 4, 0, 5, 6] rfl) (by omega)
            refine j_icmp_ge SS (tgt := 105) (x := z_87) (y := ly) dX12_findAll_92 (by decide) (by omega) (by omega) (fun c_92 => ?_) (fun c_92 => ?_)
            · skip
              refine lv_iload SS.1 SS.2.1 dX12_findAll_105 (lv_at hl 4 rfl) ?_
              exact L_107 ly _ _ hP hS ls (lv_sub hl [1, 2, 3, 0, 4, 5, 6] rfl) (by omega)
            · skip
              refine lv_aload_n SS.1 SS.2.1 dX12_findAll_95 rfl (lv_at hl 1 rfl) ?_
              refine lv_iload_n SS.1 SS.2.1 dX12_findAll_96 rfl (lv_at hl 2 rfl) ?_
              refine lv_iload SS.1 SS.2.1 dX12_findAll_97 (lv_at hl 6 rfl) ?_
              refine j_vRi SS (As := [.int (J s), .int (J i)]) (rest := []) (c_X12_y l D o q (uV u 12 0) s i (show 0 ≤ s ∧ s ≤ 7 from (by omega)) (show 0 ≤ i ∧ i ≤ 1000000 from (by omega)) (show 0 < mN u s ∧ mN u s ≤ 24 from (by omega))) mf_X12_y kw_1181 hG hP hP (ci := 8) (q0 := 0) rfl rfl rfl rfl hl.1 ⟨⟨Nat.le_of_ble_eq_true rfl, Nat.le_of_ble_eq_true rfl⟩, Nat.le_of_ble_eq_true rfl, Nat.le_refl _, Nat.le_refl _⟩ rfl dX12_findAll_99 (fun z_99 h_99 => ?_)
              have h_99 : z_99 = mY u s i := h_99
              refine lv_goto (tgt := 107) SS.1 SS.2.1 dX12_findAll_102 (by decide) ?_
              exact L_107 z_99 _ _ hP hS ls (lv_sub hl [1, 2, 3, 0, 4, 5, 6] rfl) (by omega)
          refine j_icmp_le SS (tgt := 81) (x := z_64) (y := hx) dX12_findAll_68 (by decide) (by omega) (by omega) (fun c_68 => ?_) (fun c_68 => ?_)
          · skip
            refine lv_iload_n SS.1 SS.2.1 dX12_findAll_81 rfl (lv_at hl 3 rfl) ?_
            exact L_82 hx _ _ hP hS ls (lv_sub hl [1, 2, 0, 3, 4, 5, 6] rfl) (by omega)
          · skip
            refine lv_aload_n SS.1 SS.2.1 dX12_findAll_71 rfl (lv_at hl 1 rfl) ?_
            refine lv_iload_n SS.1 SS.2.1 dX12_findAll_72 rfl (lv_at hl 2 rfl) ?_
            refine lv_iload SS.1 SS.2.1 dX12_findAll_73 (lv_at hl 6 rfl) ?_
            refine j_vRi SS (As := [.int (J s), .int (J i)]) (rest := []) (c_X12_x l D o q (uV u 12 0) s i (show 0 ≤ s ∧ s ≤ 7 from (by omega)) (show 0 ≤ i ∧ i ≤ 1000000 from (by omega)) (show 0 < mN u s ∧ mN u s ≤ 24 from (by omega))) mf_X12_x kw_1177 hG hP hP (ci := 8) (q0 := 0) rfl rfl rfl rfl hl.1 ⟨⟨Nat.le_of_ble_eq_true rfl, Nat.le_of_ble_eq_true rfl⟩, Nat.le_of_ble_eq_true rfl, Nat.le_refl _, Nat.le_refl _⟩ rfl dX12_findAll_75 (fun z_75 h_75 => ?_)
            have h_75 : z_75 = mX u s i := h_75
            refine lv_goto (tgt := 82) SS.1 SS.2.1 dX12_findAll_78 (by decide) ?_
            exact L_82 z_75 _ _ hP hS ls (lv_sub hl [1, 2, 0, 3, 4, 5, 6] rfl) (by omega)
        refine j_icmp_ge SS (tgt := 58) (x := z_41) (y := lx) dX12_findAll_45 (by decide) (by omega) (by omega) (fun c_45 => ?_) (fun c_45 => ?_)
        · skip
          refine lv_iload_n SS.1 SS.2.1 dX12_findAll_58 rfl (lv_at hl 2 rfl) ?_
          exact L_59 lx _ _ hP hS ls (lv_sub hl [0, 1, 2, 3, 4, 5, 6] rfl) (by omega)
        · skip
          refine lv_aload_n SS.1 SS.2.1 dX12_findAll_48 rfl (lv_at hl 0 rfl) ?_
          refine lv_iload_n SS.1 SS.2.1 dX12_findAll_49 rfl (lv_at hl 1 rfl) ?_
          refine lv_iload SS.1 SS.2.1 dX12_findAll_50 (lv_at hl 6 rfl) ?_
          refine j_vRi SS (As := [.int (J s), .int (J i)]) (rest := []) (c_X12_x l D o q (uV u 12 0) s i (show 0 ≤ s ∧ s ≤ 7 from (by omega)) (show 0 ≤ i ∧ i ≤ 1000000 from (by omega)) (show 0 < mN u s ∧ mN u s ≤ 24 from (by omega))) mf_X12_x kw_1177 hG hP hP (ci := 8) (q0 := 0) rfl rfl rfl rfl hl.1 ⟨⟨Nat.le_of_ble_eq_true rfl, Nat.le_of_ble_eq_true rfl⟩, Nat.le_of_ble_eq_true rfl, Nat.le_refl _, Nat.le_refl _⟩ rfl dX12_findAll_52 (fun z_52 h_52 => ?_)
          have h_52 : z_52 = mX u s i := h_52
          refine lv_goto (tgt := 59) SS.1 SS.2.1 dX12_findAll_55 (by decide) ?_
          exact L_59 z_52 _ _ hP hS ls (lv_sub hl [0, 1, 2, 3, 4, 5, 6] rfl) (by omega)
  exact L_26 ((mN u s - (0 : Int)).toNat + 1) 1000 (-1000) 1000 (-1000) 0 _ _ hP hS ls (lv_sub hl [5, 6, 4, 3, 2, 1, 0] rfl) (by omega) (⟨Or.inl ⟨rfl, rfl, rfl, rfl, rfl⟩, fun k h1 h2 => by omega, fun h => by omega⟩) (⟨fun _ => ⟨rfl, rfl⟩, fun k h1 h2 => by omega, fun h => by omega⟩) (Nat.lt_succ_self _)


set_option maxHeartbeats 4000000 in
set_option maxRecDepth 100000 in
theorem c_X12_isAhead3 (l : Launch) (D : JD) (x : Int64) (y : Int64) : Met l yX12_isAhead (jw yX12_isAhead cX12_isAhead 6 (some .boolean)) (jr 0 0) (jP [.long x, .long y] D (fun _ => True)) (jRi (fun z => (z = 1 ∧ RO9 x y ≠ 0) ∨ (z = 0 ∧ RO9 x y = 0))) 0 0 (fun _ => False) := by
  refine Met.ofW (cc := cX12_isAhead) (maxL := 6) (ret := (some .boolean)) (by decide) rfl ?_
  intro pr en st mi args below meth co s₁ B hml hv
  obtain ⟨rfl, hG, hP⟩ := hv
  have hr := B.returns
  have hlk := B.notSynchronized
  have SS : jS pr mi co cX12_isAhead 6 st _ RX12 := ⟨B.exec, B.bytes, hml, findClass_of_methodNamed B.named, fun w hw => atoms_spec (ws := (jw yX12_isAhead cX12_isAhead 6 (some .boolean))) B.pre w (List.mem_cons_of_mem _ hw)⟩
  have hl := lv_entry ([.long x, .long y]) (n := 6) (Nat.le_of_ble_eq_true rfl)
  rw [lg_entry_eq]
  generalize (lg_sl ([.long x, .long y]) ++ List.replicate (6 - (lg_sl ([.long x, .long y])).length) Slot.unset).toArray = ls at hl ⊢
  have hl : lv_has ls 6 [(0, .long x), (2, .long y)] := hl
  refine lv_lload_n SS.1 SS.2.1 dX12_isAhead_0 rfl (lv_at hl 0 rfl) ?_
  refine lv_lload_n SS.1 SS.2.1 dX12_isAhead_1 rfl (lv_at hl 1 rfl) ?_
  refine lv_lxor SS.1 SS.2.1 dX12_isAhead_2 ?_
  refine lv_lstore (lv' := [(4, .long (x ^^^ y)), (0, .long x), (2, .long y)]) SS.1 SS.2.1 dX12_isAhead_3 hl (by decide) rfl (fun ls hl => ?_)
  refine lv_lload SS.1 SS.2.1 dX12_isAhead_5 (lv_at hl 0 rfl) ?_
  refine lv_lload SS.1 SS.2.1 dX12_isAhead_7 (lv_at hl 0 rfl) ?_
  refine lv_lneg SS.1 SS.2.1 dX12_isAhead_9 ?_
  refine lv_land SS.1 SS.2.1 dX12_isAhead_10 ?_
  refine lv_lload_n SS.1 SS.2.1 dX12_isAhead_11 rfl (lv_at hl 1 rfl) ?_
  refine lv_land SS.1 SS.2.1 dX12_isAhead_12 ?_
  refine lv_lconst (v := 0) SS.1 SS.2.1 dX12_isAhead_13 (by decide +kernel) ?_
  refine j_lcmp SS dX12_isAhead_14 (fun z_14 hz_14 => ?_)
  refine j_if_eq SS (tgt := 22) (x := z_14) dX12_isAhead_15 (by decide) (by omega) (fun c_15 => ?_) (fun c_15 => ?_)
  · skip
    refine j_iconst SS dX12_isAhead_22 ?_
    exact W.zret SS.1 SS.2.1 hr (j_nz (by decide)) (fun t ht hW => ⟨_, rfl, ⟨0, rfl, (by first | exact Or.inl ⟨rfl, fun w => c_15 (hz_14.2.2.2.mpr w)⟩ | exact Or.inr ⟨rfl, hz_14.2.2.2.mp c_15⟩)⟩, ht⟩) (fun _ h => nomatch h) dX12_isAhead_23 hlk
  · skip
    refine j_iconst SS dX12_isAhead_18 ?_
    refine lv_goto (tgt := 23) SS.1 SS.2.1 dX12_isAhead_19 (by decide) ?_
    exact W.zret SS.1 SS.2.1 hr (j_nz (by decide)) (fun t ht hW => ⟨_, rfl, ⟨1, rfl, (by first | exact Or.inl ⟨rfl, fun w => c_15 (hz_14.2.2.2.mpr w)⟩ | exact Or.inr ⟨rfl, hz_14.2.2.2.mp c_15⟩)⟩, ht⟩) (fun _ h => nomatch h) dX12_isAhead_23 hlk

set_option maxHeartbeats 4000000 in
set_option maxRecDepth 100000 in
theorem c_X12_bitAt3 (l : Launch) (D : JD) (x : Int64) (i : Int) (p0 : -2147483648 ≤ i ∧ i ≤ 2147483647) : Met l yX12_bitAt (jw yX12_bitAt cX12_bitAt 5 (some .int)) (jr 0 0) (jP [.long x, .int (J i)] D (fun _ => True)) (jRi (fun z => (z = -9 ∧ (0 ≤ i → ct9 (gb x) 40 ≤ i)) ∨ ((0 ≤ z ∧ z < 40) ∧ gb x z.toNat = true ∧ ct9 (gb x) z.toNat = i))) 0 0 (fun _ => False) := by
  refine Met.ofW (cc := cX12_bitAt) (maxL := 5) (ret := (some .int)) (by decide) rfl ?_
  intro pr en st mi args below meth co s₁ B hml hv
  obtain ⟨rfl, hG, hP⟩ := hv
  have hr := B.returns
  have hlk := B.notSynchronized
  have SS : jS pr mi co cX12_bitAt 5 st _ RX12 := ⟨B.exec, B.bytes, hml, findClass_of_methodNamed B.named, fun w hw => atoms_spec (ws := (jw yX12_bitAt cX12_bitAt 5 (some .int))) B.pre w (List.mem_cons_of_mem _ hw)⟩
  have hl := lv_entry ([.long x, .int (J i)]) (n := 5) (Nat.le_of_ble_eq_true rfl)
  rw [lg_entry_eq]
  generalize (lg_sl ([.long x, .int (J i)]) ++ List.replicate (5 - (lg_sl ([.long x, .int (J i)])).length) Slot.unset).toArray = ls at hl ⊢
  have hl : lv_has ls 5 [(0, .long x), (2, .int (J i))] := hl
  refine j_iconst SS dX12_bitAt_0 ?_
  refine lv_istore_n (lv' := [(3, .int (J 0)), (0, .long x), (2, .int (J i))]) SS.1 SS.2.1 dX12_bitAt_1 rfl hl (by decide) rfl (fun ls hl => ?_)
  refine j_iconst SS dX12_bitAt_2 ?_
  refine lv_istore (lv' := [(4, .int (J 0)), (3, .int (J 0)), (0, .long x), (2, .int (J i))]) SS.1 SS.2.1 dX12_bitAt_3 hl (by decide) rfl (fun ls hl => ?_)
  have L_5 : ∀ (nn : Nat) (n : Int) (k : Int) (ls : Array Slot) (hl : lv_has ls 5 [(0, .long x), (2, .int (J i)), (3, .int (J n)), (4, .int (J k))]) (i5_0 : 0 ≤ k ∧ k ≤ 40) (i5_1 : n = smI (bvI x) k) (i5_2 : 0 ≤ n ∧ n ≤ k) (i5_3 : 0 ≤ i → n ≤ i), ((40 : Int) - k).toNat < nn → W pr l en (headSpec (jw yX12_bitAt cX12_bitAt 5 (some .int)) (jr 0 0)).room st mi (([.long x, .int (J i)] : List Value).toArray) below meth co st.heap [] 0 0 (MQ below (jRi (fun z => (z = -9 ∧ (0 ≤ i → ct9 (gb x) 40 ≤ i)) ∨ ((0 ≤ z ∧ z < 40) ∧ gb x z.toNat = true ∧ ct9 (gb x) z.toNat = i))) (([.long x, .int (J i)] : List Value).toArray) st 0 0 (fun _ => False)) (F0 mi 5 ls []) := by
    intro nn
    induction nn with
    | zero => intros; omega
    | succ nn ih_5 =>
      intro n k ls hl i5_0 i5_1 i5_2 i5_3 hm
      refine lv_iload SS.1 SS.2.1 dX12_bitAt_5 (lv_at hl 3 rfl) ?_
      refine j_bipush SS dX12_bitAt_7 (by decide +kernel) ?_
      refine j_icmp_ge SS (tgt := 40) (x := k) (y := 40) dX12_bitAt_9 (by decide) (by omega) (by decide) (fun c_9 => ?_) (fun c_9 => ?_)
      · skip
        refine j_bipush SS dX12_bitAt_40 (by decide +kernel) ?_
        exact W.iret SS.1 SS.2.1 hr (fun t ht hW => ⟨_, rfl, ⟨(-9), rfl, (Or.inl ⟨rfl, fun h => by rw [show k = 40 by omega] at i5_1; rw [← bI_40, ← i5_1]; exact i5_3 h⟩)⟩, ht⟩) (fun _ h => nomatch h) dX12_bitAt_42 hlk
      · skip
        refine lv_lload_n SS.1 SS.2.1 dX12_bitAt_12 rfl (lv_at hl 0 rfl) ?_
        refine lv_iload SS.1 SS.2.1 dX12_bitAt_13 (lv_at hl 3 rfl) ?_
        refine lv_lshr SS.1 SS.2.1 dX12_bitAt_15 rfl (lv_topl (fun x_15 ex_15 => ?_))
        refine lv_lconst (v := 1) SS.1 SS.2.1 dX12_bitAt_16 (by decide +kernel) ?_
        refine lv_land SS.1 SS.2.1 dX12_bitAt_17 ?_
        refine lv_lconst (v := 1) SS.1 SS.2.1 dX12_bitAt_18 (by decide +kernel) ?_
        refine j_lcmp SS dX12_bitAt_19 (fun z_19 hz_19 => ?_)
        have hv : bvI x k = if z_19 = 0 then 1 else 0 := by unfold bvI; rw [← ex_15]; by_cases e : x_15 &&& 1 = 1; rw [if_pos e, if_pos (hz_19.2.2.2.mpr e)]; rw [if_neg e, if_neg (fun q => e (hz_19.2.2.2.mp q))]
        refine j_if_ne SS (tgt := 34) (x := z_19) dX12_bitAt_20 (by decide) (by omega) (fun c_20 => ?_) (fun c_20 => ?_)
        · skip
          refine lv_iinc (v := J (k + 1)) (lv' := [(4, .int (J (k + 1))), (0, .long x), (2, .int (J i)), (3, .int (J n))]) SS.1 SS.2.1 dX12_bitAt_34 hl (k := 3) rfl (J_add _ _) (by decide) rfl (fun ls hl => ?_)
          refine lv_goto (tgt := 5) SS.1 SS.2.1 dX12_bitAt_37 (by decide) ?_
          exact ih_5 n (k + 1) ls (lv_sub hl [1, 2, 3, 0] rfl) (by omega) (by rw [smI_s i5_0.1, ← i5_1, hv]; first | (rw [if_pos (by omega)]) | (rw [if_neg (by omega)]; omega)) (by omega) (by omega) (by omega)
        · skip
          refine lv_iload_n SS.1 SS.2.1 dX12_bitAt_23 rfl (lv_at hl 2 rfl) ?_
          refine lv_iload_n SS.1 SS.2.1 dX12_bitAt_24 rfl (lv_at hl 1 rfl) ?_
          refine j_icmp_ne SS (tgt := 31) (x := n) (y := i) dX12_bitAt_25 (by decide) (by omega) (by omega) (fun c_25 => ?_) (fun c_25 => ?_)
          · skip
            refine lv_iinc (v := J (n + 1)) (lv' := [(3, .int (J (n + 1))), (0, .long x), (2, .int (J i)), (4, .int (J k))]) SS.1 SS.2.1 dX12_bitAt_31 hl (k := 2) rfl (J_add _ _) (by decide) rfl (fun ls hl => ?_)
            refine lv_iinc (v := J (k + 1)) (lv' := [(4, .int (J (k + 1))), (3, .int (J (n + 1))), (0, .long x), (2, .int (J i))]) SS.1 SS.2.1 dX12_bitAt_34 hl (k := 3) rfl (J_add _ _) (by decide) rfl (fun ls hl => ?_)
            refine lv_goto (tgt := 5) SS.1 SS.2.1 dX12_bitAt_37 (by decide) ?_
            exact ih_5 (n + 1) (k + 1) ls (lv_sub hl [2, 3, 1, 0] rfl) (by omega) (by rw [smI_s i5_0.1, ← i5_1, hv]; first | (rw [if_pos (by omega)]) | (rw [if_neg (by omega)]; omega)) (by omega) (by omega) (by omega)
          · skip
            refine lv_iload SS.1 SS.2.1 dX12_bitAt_28 (lv_at hl 3 rfl) ?_
            exact W.iret SS.1 SS.2.1 hr (fun t ht hW => ⟨_, rfl, ⟨k, rfl, (Or.inr ⟨by omega, (bvI_1 (by omega)).mp (by rw [hv, if_pos (by omega)]), by have e := smI_gi (x := x) (k := k) (by omega); omega⟩)⟩, ht⟩) (fun _ h => nomatch h) dX12_bitAt_30 hlk
  exact L_5 (((40 : Int) - (0 : Int)).toNat + 1) 0 0 ls (lv_sub hl [2, 3, 1, 0] rfl) (by omega) (smI_0.symm) (by omega) (by omega) (Nat.lt_succ_self _)

set_option maxHeartbeats 4000000 in
set_option maxRecDepth 100000 in
theorem c_X12_planeOf3 (l : Launch) (D : JD) (o : Nat) (q : Nat → Nat) (u : MS) (s : Int) (i : Int) (j : Int) (k : Int) (p0 : 0 ≤ s ∧ s ≤ 7) (p1 : 0 ≤ u.2.2 12 ∧ u.2.2 12 ≤ 40) (p2 : bd 40 (u.1 10) (u.1 11) 6561) (p3 : HB (u.1 3)) (p4 : 0 ≤ i ∧ i < u.2.2 12) (p5 : 0 ≤ j ∧ j < u.2.2 12) (p6 : 0 ≤ k ∧ k < u.2.2 12) : Met l yX12_planeOf (jw yX12_planeOf cX12_planeOf 24 (some .long)) (jr 2 46) (jP [.ref o, .int (J s), .int (J i), .int (J j), .int (J k)] D (fun H => va_P D.1 j_cl (mW D o q u) H)) (vp_Sl (fun r => (r = 0 ∧ ∃ p : Int, 0 ≤ p ∧ p < u.2.2 12 ∧ pS (u.1 10) (u.1 11) (u.1 3) s i j k p < 0) ∨ ((∀ p : Int, 0 ≤ p → p < u.2.2 12 → 0 ≤ pS (u.1 10) (u.1 11) (u.1 3) s i j k p) ∧ r = PB (fun p => decide (pS (u.1 10) (u.1 11) (u.1 3) s i j k p = 0)) (u.2.2 12).toNat))) 0 0 (fun _ => False) := by
  refine Met.ofW (cc := cX12_planeOf) (maxL := 24) (ret := (some .long)) (by decide) rfl ?_
  intro pr en st mi args below meth co s₁ B hml hv
  obtain ⟨rfl, hG, hP⟩ := hv
  have hr := B.returns
  have hlk := B.notSynchronized
  have SS : jS pr mi co cX12_planeOf 24 st _ RX12 := ⟨B.exec, B.bytes, hml, findClass_of_methodNamed B.named, fun w hw => atoms_spec (ws := (jw yX12_planeOf cX12_planeOf 24 (some .long))) B.pre w (List.mem_cons_of_mem _ hw)⟩
  have hl := lv_entry ([.ref o, .int (J s), .int (J i), .int (J j), .int (J k)]) (n := 24) (Nat.le_of_ble_eq_true rfl)
  rw [lg_entry_eq]
  generalize (lg_sl ([.ref o, .int (J s), .int (J i), .int (J j), .int (J k)]) ++ List.replicate (24 - (lg_sl ([.ref o, .int (J s), .int (J i), .int (J j), .int (J k)])).length) Slot.unset).toArray = ls at hl ⊢
  have hl : lv_has ls 24 [(0, .ref o), (1, .int (J s)), (2, .int (J i)), (3, .int (J j)), (4, .int (J k))] := hl
  have hH : ∀ z : Int, -1000 ≤ (u.1 3) ((40 * s) + z).toNat ∧ (u.1 3) ((40 * s) + z).toNat ≤ 1000 := fun z => p3 _
  have hi := hH i
  have hj := hH j
  have hk := hH k
  refine lv_aload_n SS.1 SS.2.1 dX12_planeOf_0 rfl (lv_at hl 0 rfl) ?_
  refine lv_iload_n SS.1 SS.2.1 dX12_planeOf_1 rfl (lv_at hl 2 rfl) ?_
  refine lv_iload_n SS.1 SS.2.1 dX12_planeOf_2 rfl (lv_at hl 3 rfl) ?_
  refine lv_iload SS.1 SS.2.1 dX12_planeOf_3 (lv_at hl 4 rfl) ?_
  refine j_vRi SS (As := [.int (J i), .int (J j), .int (J k)]) (rest := []) (c_X12_turn l D o q u i j k (show 0 ≤ i ∧ i < 6561 from (by omega)) (show 0 ≤ j ∧ j < 6561 from (by omega)) (show 0 ≤ k ∧ k < 6561 from (by omega)) (show bd 40 ((u.1 10)) ((u.1 11)) 6561 from (p2))) mf_X12_turn kw_1427 hG hP hP (ci := 8) (q0 := 0) rfl rfl rfl rfl hl.1 ⟨⟨Nat.le_of_ble_eq_true rfl, Nat.le_of_ble_eq_true rfl⟩, Nat.le_of_ble_eq_true rfl, Nat.le_refl _, Nat.le_refl _⟩ rfl dX12_planeOf_5 (fun z_5 h_5 => ?_)
  have h_5 : z_5 = tn ((u.1 10)) ((u.1 11)) i.toNat j.toNat k.toNat ∧ -12800 ≤ z_5 ∧ z_5 ≤ 12800 := h_5
  refine lv_i2l SS.1 SS.2.1 dX12_planeOf_8 rfl ?_
  refine lv_lstore (lv' := [(5, .long ((J z_5).toInt64)), (0, .ref o), (1, .int (J s)), (2, .int (J i)), (3, .int (J j)), (4, .int (J k))]) SS.1 SS.2.1 dX12_planeOf_9 hl (by decide) rfl (fun ls hl => ?_)
  refine lv_aload_n SS.1 SS.2.1 dX12_planeOf_11 rfl (lv_at hl 1 rfl) ?_
  refine j_get SS hG hP 0 (v := .ref (q 3)) (C := RX12) (T := TX12) (N := 31) rfl rfl inX12 3 (by decide) (ref := RX12) kw_1061 rfl rfl dX12_planeOf_12 ?_
  refine j_bipush SS dX12_planeOf_15 (by decide +kernel) ?_
  refine lv_iload_n SS.1 SS.2.1 dX12_planeOf_17 rfl (lv_at hl 2 rfl) ?_
  refine j_imul SS (x := 40) (y := s) dX12_planeOf_18 ?_
  refine lv_iload_n SS.1 SS.2.1 dX12_planeOf_19 rfl (lv_at hl 4 rfl) ?_
  refine j_iadd SS (x := (40 * s)) (y := j) dX12_planeOf_20 ?_
  refine j_iald SS hG hP 4 (n := 320) (f := (u.1 3)) rfl (z := ((40 * s) + j)) (by omega) (by omega) dX12_planeOf_21 ?_
  refine lv_aload_n SS.1 SS.2.1 dX12_planeOf_22 rfl (lv_at hl 1 rfl) ?_
  refine j_get SS hG hP 0 (v := .ref (q 3)) (C := RX12) (T := TX12) (N := 31) rfl rfl inX12 3 (by decide) (ref := RX12) kw_1061 rfl rfl dX12_planeOf_23 ?_
  refine j_bipush SS dX12_planeOf_26 (by decide +kernel) ?_
  refine lv_iload_n SS.1 SS.2.1 dX12_planeOf_28 rfl (lv_at hl 2 rfl) ?_
  refine j_imul SS (x := 40) (y := s) dX12_planeOf_29 ?_
  refine lv_iload_n SS.1 SS.2.1 dX12_planeOf_30 rfl (lv_at hl 3 rfl) ?_
  refine j_iadd SS (x := (40 * s)) (y := i) dX12_planeOf_31 ?_
  refine j_iald SS hG hP 4 (n := 320) (f := (u.1 3)) rfl (z := ((40 * s) + i)) (by omega) (by omega) dX12_planeOf_32 ?_
  refine j_isub SS (x := ((u.1 3) (((40 * s) + j)).toNat)) (y := ((u.1 3) (((40 * s) + i)).toNat)) dX12_planeOf_33 ?_
  obtain ⟨up, eup⟩ : ∃ z : Int, z = (((u.1 3) (((40 * s) + j)).toNat) - ((u.1 3) (((40 * s) + i)).toNat)) := ⟨_, rfl⟩
  rw [← eup]
  refine lv_i2l SS.1 SS.2.1 dX12_planeOf_34 rfl ?_
  refine lv_lstore (lv' := [(7, .long ((J up).toInt64)), (5, .long ((J z_5).toInt64)), (0, .ref o), (1, .int (J s)), (2, .int (J i)), (3, .int (J j)), (4, .int (J k))]) SS.1 SS.2.1 dX12_planeOf_35 hl (by decide) rfl (fun ls hl => ?_)
  refine lv_aload_n SS.1 SS.2.1 dX12_planeOf_37 rfl (lv_at hl 2 rfl) ?_
  refine j_get SS hG hP 0 (v := .ref (q 3)) (C := RX12) (T := TX12) (N := 31) rfl rfl inX12 3 (by decide) (ref := RX12) kw_1061 rfl rfl dX12_planeOf_38 ?_
  refine j_bipush SS dX12_planeOf_41 (by decide +kernel) ?_
  refine lv_iload_n SS.1 SS.2.1 dX12_planeOf_43 rfl (lv_at hl 3 rfl) ?_
  refine j_imul SS (x := 40) (y := s) dX12_planeOf_44 ?_
  refine lv_iload SS.1 SS.2.1 dX12_planeOf_45 (lv_at hl 6 rfl) ?_
  refine j_iadd SS (x := (40 * s)) (y := k) dX12_planeOf_47 ?_
  refine j_iald SS hG hP 4 (n := 320) (f := (u.1 3)) rfl (z := ((40 * s) + k)) (by omega) (by omega) dX12_planeOf_48 ?_
  refine lv_aload_n SS.1 SS.2.1 dX12_planeOf_49 rfl (lv_at hl 2 rfl) ?_
  refine j_get SS hG hP 0 (v := .ref (q 3)) (C := RX12) (T := TX12) (N := 31) rfl rfl inX12 3 (by decide) (ref := RX12) kw_1061 rfl rfl dX12_planeOf_50 ?_
  refine j_bipush SS dX12_planeOf_53 (by decide +kernel) ?_
  refine lv_iload_n SS.1 SS.2.1 dX12_planeOf_55 rfl (lv_at hl 3 rfl) ?_
  refine j_imul SS (x := 40) (y := s) dX12_planeOf_56 ?_
  refine lv_iload_n SS.1 SS.2.1 dX12_planeOf_57 rfl (lv_at hl 4 rfl) ?_
  refine j_iadd SS (x := (40 * s)) (y := i) dX12_planeOf_58 ?_
  refine j_iald SS hG hP 4 (n := 320) (f := (u.1 3)) rfl (z := ((40 * s) + i)) (by omega) (by omega) dX12_planeOf_59 ?_
  refine j_isub SS (x := ((u.1 3) (((40 * s) + k)).toNat)) (y := ((u.1 3) (((40 * s) + i)).toNat)) dX12_planeOf_60 ?_
  obtain ⟨ot, eot⟩ : ∃ z : Int, z = (((u.1 3) (((40 * s) + k)).toNat) - ((u.1 3) (((40 * s) + i)).toNat)) := ⟨_, rfl⟩
  rw [← eot]
  refine lv_i2l SS.1 SS.2.1 dX12_planeOf_61 rfl ?_
  refine lv_lstore (lv' := [(9, .long ((J ot).toInt64)), (7, .long ((J up).toInt64)), (5, .long ((J z_5).toInt64)), (0, .ref o), (1, .int (J s)), (2, .int (J i)), (3, .int (J j)), (4, .int (J k))]) SS.1 SS.2.1 dX12_planeOf_62 hl (by decide) rfl (fun ls hl => ?_)
  refine lv_lconst (v := 0) SS.1 SS.2.1 dX12_planeOf_64 (by decide +kernel) ?_
  refine lv_lstore (lv' := [(11, .long 0), (9, .long ((J ot).toInt64)), (7, .long ((J up).toInt64)), (5, .long ((J z_5).toInt64)), (0, .ref o), (1, .int (J s)), (2, .int (J i)), (3, .int (J j)), (4, .int (J k))]) SS.1 SS.2.1 dX12_planeOf_65 hl (by decide) rfl (fun ls hl => ?_)
  refine j_iconst SS dX12_planeOf_67 ?_
  refine lv_istore (lv' := [(13, .int (J 0)), (11, .long 0), (9, .long ((J ot).toInt64)), (7, .long ((J up).toInt64)), (5, .long ((J z_5).toInt64)), (0, .ref o), (1, .int (J s)), (2, .int (J i)), (3, .int (J j)), (4, .int (J k))]) SS.1 SS.2.1 dX12_planeOf_68 hl (by decide) rfl (fun ls hl => ?_)
  have L_70 : ∀ (nn : Nat) (x : Int64) (p : Int) (ls : Array Slot) (hl : lv_has ls 24 [(0, .ref o), (1, .int (J s)), (2, .int (J i)), (3, .int (J j)), (4, .int (J k)), (5, .long ((J z_5).toInt64)), (7, .long ((J up).toInt64)), (9, .long ((J ot).toInt64)), (11, .long x), (13, .int (J p))]) (i70_0 : 0 ≤ p ∧ p ≤ u.2.2 12) (i70_1 : ∀ q : Int, 0 ≤ q → q < p → 0 ≤ pS (u.1 10) (u.1 11) (u.1 3) s i j k q) (i70_2 : x = PB (fun q => decide (pS (u.1 10) (u.1 11) (u.1 3) s i j k q = 0)) p.toNat), (u.2.2 12 - p).toNat < nn → W pr l en (headSpec (jw yX12_planeOf cX12_planeOf 24 (some .long)) (jr 2 46)).room st mi (([.ref o, .int (J s), .int (J i), .int (J j), .int (J k)] : List Value).toArray) below meth co st.heap [] 0 0 (MQ below (vp_Sl (fun r => (r = 0 ∧ ∃ p : Int, 0 ≤ p ∧ p < u.2.2 12 ∧ pS (u.1 10) (u.1 11) (u.1 3) s i j k p < 0) ∨ ((∀ p : Int, 0 ≤ p → p < u.2.2 12 → 0 ≤ pS (u.1 10) (u.1 11) (u.1 3) s i j k p) ∧ r = PB (fun p => decide (pS (u.1 10) (u.1 11) (u.1 3) s i j k p = 0)) (u.2.2 12).toNat))) (([.ref o, .int (J s), .int (J i), .int (J j), .int (J k)] : List Value).toArray) st 0 0 (fun _ => False)) (F0 mi 70 ls []) := by
    intro nn
    induction nn with
    | zero => intros; omega
    | succ nn ih_70 =>
      intro x p ls hl i70_0 i70_1 i70_2 hm
      refine lv_iload SS.1 SS.2.1 dX12_planeOf_70 (lv_at hl 9 rfl) ?_
      refine lv_aload_n SS.1 SS.2.1 dX12_planeOf_72 rfl (lv_at hl 0 rfl) ?_
      refine j_get SS hG hP 0 (v := .int (J (u.2.2 12))) (C := RX12) (T := TX12) (N := 31) rfl rfl inX12 12 (by decide) (ref := RX12) kw_1070 rfl rfl dX12_planeOf_73 ?_
      refine j_icmp_ge SS (tgt := 202) (x := p) (y := (u.2.2 12)) dX12_planeOf_76 (by decide) (by omega) (by omega) (fun c_76 => ?_) (fun c_76 => ?_)
      · skip
        refine lv_lload SS.1 SS.2.1 dX12_planeOf_202 (lv_at hl 8 rfl) ?_
        exact W.lret SS.1 SS.2.1 hr (fun t ht hW => ⟨_, rfl, (Or.inr ⟨fun q h1 h2 => i70_1 q h1 (by omega), by rw [i70_2, show p = u.2.2 12 by omega]⟩), ht⟩) (fun _ h => nomatch h) dX12_planeOf_204 hlk
      · skip
        refine lv_aload_n SS.1 SS.2.1 dX12_planeOf_79 rfl (lv_at hl 0 rfl) ?_
        refine lv_iload_n SS.1 SS.2.1 dX12_planeOf_80 rfl (lv_at hl 2 rfl) ?_
        refine lv_iload SS.1 SS.2.1 dX12_planeOf_81 (lv_at hl 9 rfl) ?_
        refine lv_iload SS.1 SS.2.1 dX12_planeOf_83 (lv_at hl 4 rfl) ?_
        refine j_vRi SS (As := [.int (J i), .int (J p), .int (J k)]) (rest := []) (c_X12_turn l D o q u i p k (show 0 ≤ i ∧ i < 6561 from (by omega)) (show 0 ≤ p ∧ p < 6561 from (by omega)) (show 0 ≤ k ∧ k < 6561 from (by omega)) (show bd 40 ((u.1 10)) ((u.1 11)) 6561 from (p2))) mf_X12_turn kw_1427 hG hP hP (ci := 8) (q0 := 0) rfl rfl rfl rfl hl.1 ⟨⟨Nat.le_of_ble_eq_true rfl, Nat.le_of_ble_eq_true rfl⟩, Nat.le_of_ble_eq_true rfl, Nat.le_refl _, Nat.le_refl _⟩ rfl dX12_planeOf_85 (fun z_85 h_85 => ?_)
        have h_85 : z_85 = tn ((u.1 10)) ((u.1 11)) i.toNat p.toNat k.toNat ∧ -12800 ≤ z_85 ∧ z_85 ≤ 12800 := h_85
        refine lv_i2l SS.1 SS.2.1 dX12_planeOf_88 rfl ?_
        refine lv_lstore (lv' := [(14, .long ((J z_85).toInt64)), (0, .ref o), (1, .int (J s)), (2, .int (J i)), (3, .int (J j)), (4, .int (J k)), (5, .long ((J z_5).toInt64)), (7, .long ((J up).toInt64)), (9, .long ((J ot).toInt64)), (11, .long x), (13, .int (J p))]) SS.1 SS.2.1 dX12_planeOf_89 hl (by decide) rfl (fun ls hl => ?_)
        refine lv_aload_n SS.1 SS.2.1 dX12_planeOf_91 rfl (lv_at hl 1 rfl) ?_
        refine lv_iload_n SS.1 SS.2.1 dX12_planeOf_92 rfl (lv_at hl 3 rfl) ?_
        refine lv_iload_n SS.1 SS.2.1 dX12_planeOf_93 rfl (lv_at hl 4 rfl) ?_
        refine lv_iload SS.1 SS.2.1 dX12_planeOf_94 (lv_at hl 10 rfl) ?_
        refine j_vRi SS (As := [.int (J i), .int (J j), .int (J p)]) (rest := []) (c_X12_turn l D o q u i j p (show 0 ≤ i ∧ i < 6561 from (by omega)) (show 0 ≤ j ∧ j < 6561 from (by omega)) (show 0 ≤ p ∧ p < 6561 from (by omega)) (show bd 40 ((u.1 10)) ((u.1 11)) 6561 from (p2))) mf_X12_turn kw_1427 hG hP hP (ci := 8) (q0 := 0) rfl rfl rfl rfl hl.1 ⟨⟨Nat.le_of_ble_eq_true rfl, Nat.le_of_ble_eq_true rfl⟩, Nat.le_of_ble_eq_true rfl, Nat.le_refl _, Nat.le_refl _⟩ rfl dX12_planeOf_96 (fun z_96 h_96 => ?_)
        have h_96 : z_96 = tn ((u.1 10)) ((u.1 11)) i.toNat j.toNat p.toNat ∧ -12800 ≤ z_96 ∧ z_96 ≤ 12800 := h_96
        refine lv_i2l SS.1 SS.2.1 dX12_planeOf_99 rfl ?_
        refine lv_lstore (lv' := [(16, .long ((J z_96).toInt64)), (14, .long ((J z_85).toInt64)), (0, .ref o), (1, .int (J s)), (2, .int (J i)), (3, .int (J j)), (4, .int (J k)), (5, .long ((J z_5).toInt64)), (7, .long ((J up).toInt64)), (9, .long ((J ot).toInt64)), (11, .long x), (13, .int (J p))]) SS.1 SS.2.1 dX12_planeOf_100 hl (by decide) rfl (fun ls hl => ?_)
        refine lv_lload SS.1 SS.2.1 dX12_planeOf_102 (lv_at hl 1 rfl) ?_
        refine lv_lload SS.1 SS.2.1 dX12_planeOf_104 (lv_at hl 8 rfl) ?_
        refine lv_lmul SS.1 SS.2.1 dX12_planeOf_106 ?_
        refine lv_lload SS.1 SS.2.1 dX12_planeOf_107 (lv_at hl 0 rfl) ?_
        refine lv_lload SS.1 SS.2.1 dX12_planeOf_109 (lv_at hl 9 rfl) ?_
        refine lv_lmul SS.1 SS.2.1 dX12_planeOf_111 ?_
        refine lv_ladd SS.1 SS.2.1 dX12_planeOf_112 ?_
        refine lv_lstore (lv' := [(18, .long ((((J z_85).toInt64) * ((J up).toInt64)) + (((J z_96).toInt64) * ((J ot).toInt64)))), (16, .long ((J z_96).toInt64)), (14, .long ((J z_85).toInt64)), (0, .ref o), (1, .int (J s)), (2, .int (J i)), (3, .int (J j)), (4, .int (J k)), (5, .long ((J z_5).toInt64)), (7, .long ((J up).toInt64)), (9, .long ((J ot).toInt64)), (11, .long x), (13, .int (J p))]) SS.1 SS.2.1 dX12_planeOf_113 hl (by decide) rfl (fun ls hl => ?_)
        have hq := hH p
        refine lv_aload_n SS.1 SS.2.1 dX12_planeOf_115 rfl (lv_at hl 3 rfl) ?_
        refine j_get SS hG hP 0 (v := .ref (q 3)) (C := RX12) (T := TX12) (N := 31) rfl rfl inX12 3 (by decide) (ref := RX12) kw_1061 rfl rfl dX12_planeOf_116 ?_
        refine j_bipush SS dX12_planeOf_119 (by decide +kernel) ?_
        refine lv_iload_n SS.1 SS.2.1 dX12_planeOf_121 rfl (lv_at hl 4 rfl) ?_
        refine j_imul SS (x := 40) (y := s) dX12_planeOf_122 ?_
        refine lv_iload SS.1 SS.2.1 dX12_planeOf_123 (lv_at hl 12 rfl) ?_
        refine j_iadd SS (x := (40 * s)) (y := p) dX12_planeOf_125 ?_
        refine j_iald SS hG hP 4 (n := 320) (f := (u.1 3)) rfl (z := ((40 * s) + p)) (by omega) (by omega) dX12_planeOf_126 ?_
        refine lv_aload_n SS.1 SS.2.1 dX12_planeOf_127 rfl (lv_at hl 3 rfl) ?_
        refine j_get SS hG hP 0 (v := .ref (q 3)) (C := RX12) (T := TX12) (N := 31) rfl rfl inX12 3 (by decide) (ref := RX12) kw_1061 rfl rfl dX12_planeOf_128 ?_
        refine j_bipush SS dX12_planeOf_131 (by decide +kernel) ?_
        refine lv_iload_n SS.1 SS.2.1 dX12_planeOf_133 rfl (lv_at hl 4 rfl) ?_
        refine j_imul SS (x := 40) (y := s) dX12_planeOf_134 ?_
        refine lv_iload_n SS.1 SS.2.1 dX12_planeOf_135 rfl (lv_at hl 5 rfl) ?_
        refine j_iadd SS (x := (40 * s)) (y := i) dX12_planeOf_136 ?_
        refine j_iald SS hG hP 4 (n := 320) (f := (u.1 3)) rfl (z := ((40 * s) + i)) (by omega) (by omega) dX12_planeOf_137 ?_
        refine j_isub SS (x := ((u.1 3) (((40 * s) + p)).toNat)) (y := ((u.1 3) (((40 * s) + i)).toNat)) dX12_planeOf_138 ?_
        obtain ⟨hp, ehp⟩ : ∃ z : Int, z = (((u.1 3) (((40 * s) + p)).toNat) - ((u.1 3) (((40 * s) + i)).toNat)) := ⟨_, rfl⟩
        rw [← ehp]
        refine lv_i2l SS.1 SS.2.1 dX12_planeOf_139 rfl ?_
        refine lv_lload SS.1 SS.2.1 dX12_planeOf_140 (lv_at hl 8 rfl) ?_
        refine lv_lmul SS.1 SS.2.1 dX12_planeOf_142 ?_
        refine lv_lstore (lv' := [(20, .long (((J hp).toInt64) * ((J z_5).toInt64))), (18, .long ((((J z_85).toInt64) * ((J up).toInt64)) + (((J z_96).toInt64) * ((J ot).toInt64)))), (16, .long ((J z_96).toInt64)), (14, .long ((J z_85).toInt64)), (0, .ref o), (1, .int (J s)), (2, .int (J i)), (3, .int (J j)), (4, .int (J k)), (5, .long ((J z_5).toInt64)), (7, .long ((J up).toInt64)), (9, .long ((J ot).toInt64)), (11, .long x), (13, .int (J p))]) SS.1 SS.2.1 dX12_planeOf_143 hl (by decide) rfl (fun ls hl => ?_)
        have ho := off_L (d := z_5) (up := up) (ot := ot) (one := z_85) (two := z_96) (hp := hp) (by omega) (by omega) (by omega) (by omega) (by omega) (by omega)
        have o1 := mulb (A := 2000) (B := 12800) (a := hp) (b := z_5) (by omega) (by omega)
        have o2 := mulb (A := 12800) (B := 2000) (a := z_85) (b := up) (by omega) (by omega)
        have o3 := mulb (A := 12800) (B := 2000) (a := z_96) (b := ot) (by omega) (by omega)
        have hpA : pA (u.1 10) (u.1 11) (u.1 3) s i j k p = hp * z_5 - (z_85 * up + z_96 * ot) := by rw [ehp, eup, eot, h_5.1, h_85.1, h_96.1]; rfl
        refine lv_lload SS.1 SS.2.1 dX12_planeOf_145 (lv_at hl 9 rfl) ?_
        refine lv_lconst (v := 0) SS.1 SS.2.1 dX12_planeOf_147 (by decide +kernel) ?_
        refine j_lcmp SS dX12_planeOf_148 (fun z_148 hz_148 => ?_)
        rw [show (J z_5).toInt64 = L z_5 from J_L (by omega)] at hz_148
        have hz_148 := L_cmp (by omega) hz_148
        refine j_if_le SS (tgt := 160) (x := z_148) dX12_planeOf_149 (by decide) (by omega) (fun c_149 => ?_) (fun c_149 => ?_)
        · skip
          refine lv_lload SS.1 SS.2.1 dX12_planeOf_160 (lv_at hl 1 rfl) ?_
          refine lv_lload SS.1 SS.2.1 dX12_planeOf_162 (lv_at hl 0 rfl) ?_
          refine lv_lsub SS.1 SS.2.1 dX12_planeOf_164 ?_
          refine lv_lstore (lv' := [(22, .long (((((J z_85).toInt64) * ((J up).toInt64)) + (((J z_96).toInt64) * ((J ot).toInt64))) - (((J hp).toInt64) * ((J z_5).toInt64)))), (20, .long (((J hp).toInt64) * ((J z_5).toInt64))), (18, .long ((((J z_85).toInt64) * ((J up).toInt64)) + (((J z_96).toInt64) * ((J ot).toInt64)))), (16, .long ((J z_96).toInt64)), (14, .long ((J z_85).toInt64)), (0, .ref o), (1, .int (J s)), (2, .int (J i)), (3, .int (J j)), (4, .int (J k)), (5, .long ((J z_5).toInt64)), (7, .long ((J up).toInt64)), (9, .long ((J ot).toInt64)), (11, .long x), (13, .int (J p))]) SS.1 SS.2.1 dX12_planeOf_165 hl (by decide) rfl (fun ls hl => ?_)
          refine lv_lload SS.1 SS.2.1 dX12_planeOf_167 (lv_at hl 0 rfl) ?_
          refine lv_lconst (v := 0) SS.1 SS.2.1 dX12_planeOf_169 (by decide +kernel) ?_
          first | rw [ho.1] | rw [ho.2]
          refine j_lcmp SS dX12_planeOf_170 (fun z_170 hz_170 => ?_)
          have hz_170 := L_cmp (by omega) hz_170
          have hpS : pS (u.1 10) (u.1 11) (u.1 3) s i j k p = if 0 < z_5 then (hp * z_5 - (z_85 * up + z_96 * ot)) else -(hp * z_5 - (z_85 * up + z_96 * ot)) := by unfold pS; rw [hpA, h_5.1]; rfl
          first | rw [if_pos (by omega)] at hpS | rw [if_neg (by omega)] at hpS
          refine j_if_ge SS (tgt := 176) (x := z_170) dX12_planeOf_171 (by decide) (by omega) (fun c_171 => ?_) (fun c_171 => ?_)
          · skip
            refine lv_lload SS.1 SS.2.1 dX12_planeOf_176 (lv_at hl 13 rfl) ?_
            refine lv_lload SS.1 SS.2.1 dX12_planeOf_178 (lv_at hl 0 rfl) ?_
            refine lv_lconst (v := 0) SS.1 SS.2.1 dX12_planeOf_180 (by decide +kernel) ?_
            first | rw [ho.1] | rw [ho.2]
            refine j_lcmp SS dX12_planeOf_181 (fun z_181 hz_181 => ?_)
            have hz_181 := L_cmp (by omega) hz_181
            refine j_if_ne SS (tgt := 192) (x := z_181) dX12_planeOf_182 (by decide) (by omega) (fun c_182 => ?_) (fun c_182 => ?_)
            · skip
              refine lv_lconst (v := 0) SS.1 SS.2.1 dX12_planeOf_192 (by decide +kernel) ?_
              refine lv_lor SS.1 SS.2.1 dX12_planeOf_193 ?_
              refine lv_lstore (lv' := [(11, .long (x ||| 0)), (22, .long (((((J z_85).toInt64) * ((J up).toInt64)) + (((J z_96).toInt64) * ((J ot).toInt64))) - (((J hp).toInt64) * ((J z_5).toInt64)))), (20, .long (((J hp).toInt64) * ((J z_5).toInt64))), (18, .long ((((J z_85).toInt64) * ((J up).toInt64)) + (((J z_96).toInt64) * ((J ot).toInt64)))), (16, .long ((J z_96).toInt64)), (14, .long ((J z_85).toInt64)), (0, .ref o), (1, .int (J s)), (2, .int (J i)), (3, .int (J j)), (4, .int (J k)), (5, .long ((J z_5).toInt64)), (7, .long ((J up).toInt64)), (9, .long ((J ot).toInt64)), (13, .int (J p))]) SS.1 SS.2.1 dX12_planeOf_194 hl (by decide) rfl (fun ls hl => ?_)
              refine lv_iinc (v := J (p + 1)) (lv' := [(13, .int (J (p + 1))), (11, .long (x ||| 0)), (22, .long (((((J z_85).toInt64) * ((J up).toInt64)) + (((J z_96).toInt64) * ((J ot).toInt64))) - (((J hp).toInt64) * ((J z_5).toInt64)))), (20, .long (((J hp).toInt64) * ((J z_5).toInt64))), (18, .long ((((J z_85).toInt64) * ((J up).toInt64)) + (((J z_96).toInt64) * ((J ot).toInt64)))), (16, .long ((J z_96).toInt64)), (14, .long ((J z_85).toInt64)), (0, .ref o), (1, .int (J s)), (2, .int (J i)), (3, .int (J j)), (4, .int (J k)), (5, .long ((J z_5).toInt64)), (7, .long ((J up).toInt64)), (9, .long ((J ot).toInt64))]) SS.1 SS.2.1 dX12_planeOf_196 hl (k := 14) rfl (J_add _ _) (by decide) rfl (fun ls hl => ?_)
              refine lv_goto (tgt := 70) SS.1 SS.2.1 dX12_planeOf_199 (by decide) ?_
              exact ih_70 (x ||| 0) (p + 1) ls (lv_sub hl [7, 8, 9, 10, 11, 12, 13, 14, 1, 0] rfl) (by omega) (fun q h1 h2 => by by_cases e : q = p; (rw [e]; omega); exact i70_1 q h1 (by omega)) (by first | exact (PBp (F := pS (u.1 10) (u.1 11) (u.1 3) s i j k) i70_0.1 i70_2).2 (by omega) | (rw [ex_188]; exact (PBp (F := pS (u.1 10) (u.1 11) (u.1 3) s i j k) i70_0.1 i70_2).1 (by omega))) (by omega)
            · skip
              refine lv_lconst (v := 1) SS.1 SS.2.1 dX12_planeOf_185 (by decide +kernel) ?_
              refine lv_iload SS.1 SS.2.1 dX12_planeOf_186 (lv_at hl 14 rfl) ?_
              refine lv_lshl SS.1 SS.2.1 dX12_planeOf_188 rfl (lv_topl (fun x_188 ex_188 => ?_))
              refine lv_goto (tgt := 193) SS.1 SS.2.1 dX12_planeOf_189 (by decide) ?_
              refine lv_lor SS.1 SS.2.1 dX12_planeOf_193 ?_
              refine lv_lstore (lv' := [(11, .long (x ||| x_188)), (22, .long (((((J z_85).toInt64) * ((J up).toInt64)) + (((J z_96).toInt64) * ((J ot).toInt64))) - (((J hp).toInt64) * ((J z_5).toInt64)))), (20, .long (((J hp).toInt64) * ((J z_5).toInt64))), (18, .long ((((J z_85).toInt64) * ((J up).toInt64)) + (((J z_96).toInt64) * ((J ot).toInt64)))), (16, .long ((J z_96).toInt64)), (14, .long ((J z_85).toInt64)), (0, .ref o), (1, .int (J s)), (2, .int (J i)), (3, .int (J j)), (4, .int (J k)), (5, .long ((J z_5).toInt64)), (7, .long ((J up).toInt64)), (9, .long ((J ot).toInt64)), (13, .int (J p))]) SS.1 SS.2.1 dX12_planeOf_194 hl (by decide) rfl (fun ls hl => ?_)
              refine lv_iinc (v := J (p + 1)) (lv' := [(13, .int (J (p + 1))), (11, .long (x ||| x_188)), (22, .long (((((J z_85).toInt64) * ((J up).toInt64)) + (((J z_96).toInt64) * ((J ot).toInt64))) - (((J hp).toInt64) * ((J z_5).toInt64)))), (20, .long (((J hp).toInt64) * ((J z_5).toInt64))), (18, .long ((((J z_85).toInt64) * ((J up).toInt64)) + (((J z_96).toInt64) * ((J ot).toInt64)))), (16, .long ((J z_96).toInt64)), (14, .long ((J z_85).toInt64)), (0, .ref o), (1, .int (J s)), (2, .int (J i)), (3, .int (J j)), (4, .int (J k)), (5, .long ((J z_5).toInt64)), (7, .long ((J up).toInt64)), (9, .long ((J ot).toInt64))]) SS.1 SS.2.1 dX12_planeOf_196 hl (k := 14) rfl (J_add _ _) (by decide) rfl (fun ls hl => ?_)
              refine lv_goto (tgt := 70) SS.1 SS.2.1 dX12_planeOf_199 (by decide) ?_
              exact ih_70 (x ||| x_188) (p + 1) ls (lv_sub hl [7, 8, 9, 10, 11, 12, 13, 14, 1, 0] rfl) (by omega) (fun q h1 h2 => by by_cases e : q = p; (rw [e]; omega); exact i70_1 q h1 (by omega)) (by first | exact (PBp (F := pS (u.1 10) (u.1 11) (u.1 3) s i j k) i70_0.1 i70_2).2 (by omega) | (rw [ex_188]; exact (PBp (F := pS (u.1 10) (u.1 11) (u.1 3) s i j k) i70_0.1 i70_2).1 (by omega))) (by omega)
          · skip
            refine lv_lconst (v := 0) SS.1 SS.2.1 dX12_planeOf_174 (by decide +kernel) ?_
            exact W.lret SS.1 SS.2.1 hr (fun t ht hW => ⟨_, rfl, (Or.inl ⟨rfl, p, by omega, by omega, by omega⟩), ht⟩) (fun _ h => nomatch h) dX12_planeOf_175 hlk
        · skip
          refine lv_lload SS.1 SS.2.1 dX12_planeOf_152 (lv_at hl 0 rfl) ?_
          refine lv_lload SS.1 SS.2.1 dX12_planeOf_154 (lv_at hl 1 rfl) ?_
          refine lv_lsub SS.1 SS.2.1 dX12_planeOf_156 ?_
          refine lv_goto (tgt := 165) SS.1 SS.2.1 dX12_planeOf_157 (by decide) ?_
          refine lv_lstore (lv' := [(22, .long ((((J hp).toInt64) * ((J z_5).toInt64)) - ((((J z_85).toInt64) * ((J up).toInt64)) + (((J z_96).toInt64) * ((J ot).toInt64))))), (20, .long (((J hp).toInt64) * ((J z_5).toInt64))), (18, .long ((((J z_85).toInt64) * ((J up).toInt64)) + (((J z_96).toInt64) * ((J ot).toInt64)))), (16, .long ((J z_96).toInt64)), (14, .long ((J z_85).toInt64)), (0, .ref o), (1, .int (J s)), (2, .int (J i)), (3, .int (J j)), (4, .int (J k)), (5, .long ((J z_5).toInt64)), (7, .long ((J up).toInt64)), (9, .long ((J ot).toInt64)), (11, .long x), (13, .int (J p))]) SS.1 SS.2.1 dX12_planeOf_165 hl (by decide) rfl (fun ls hl => ?_)
          refine lv_lload SS.1 SS.2.1 dX12_planeOf_167 (lv_at hl 0 rfl) ?_
          refine lv_lconst (v := 0) SS.1 SS.2.1 dX12_planeOf_169 (by decide +kernel) ?_
          first | rw [ho.1] | rw [ho.2]
          refine j_lcmp SS dX12_planeOf_170 (fun z_170 hz_170 => ?_)
          have hz_170 := L_cmp (by omega) hz_170
          have hpS : pS (u.1 10) (u.1 11) (u.1 3) s i j k p = if 0 < z_5 then (hp * z_5 - (z_85 * up + z_96 * ot)) else -(hp * z_5 - (z_85 * up + z_96 * ot)) := by unfold pS; rw [hpA, h_5.1]; rfl
          first | rw [if_pos (by omega)] at hpS | rw [if_neg (by omega)] at hpS
          refine j_if_ge SS (tgt := 176) (x := z_170) dX12_planeOf_171 (by decide) (by omega) (fun c_171 => ?_) (fun c_171 => ?_)
          · skip
            refine lv_lload SS.1 SS.2.1 dX12_planeOf_176 (lv_at hl 13 rfl) ?_
            refine lv_lload SS.1 SS.2.1 dX12_planeOf_178 (lv_at hl 0 rfl) ?_
            refine lv_lconst (v := 0) SS.1 SS.2.1 dX12_planeOf_180 (by decide +kernel) ?_
            first | rw [ho.1] | rw [ho.2]
            refine j_lcmp SS dX12_planeOf_181 (fun z_181 hz_181 => ?_)
            have hz_181 := L_cmp (by omega) hz_181
            refine j_if_ne SS (tgt := 192) (x := z_181) dX12_planeOf_182 (by decide) (by omega) (fun c_182 => ?_) (fun c_182 => ?_)
            · skip
              refine lv_lconst (v := 0) SS.1 SS.2.1 dX12_planeOf_192 (by decide +kernel) ?_
              refine lv_lor SS.1 SS.2.1 dX12_planeOf_193 ?_
              refine lv_lstore (lv' := [(11, .long (x ||| 0)), (22, .long ((((J hp).toInt64) * ((J z_5).toInt64)) - ((((J z_85).toInt64) * ((J up).toInt64)) + (((J z_96).toInt64) * ((J ot).toInt64))))), (20, .long (((J hp).toInt64) * ((J z_5).toInt64))), (18, .long ((((J z_85).toInt64) * ((J up).toInt64)) + (((J z_96).toInt64) * ((J ot).toInt64)))), (16, .long ((J z_96).toInt64)), (14, .long ((J z_85).toInt64)), (0, .ref o), (1, .int (J s)), (2, .int (J i)), (3, .int (J j)), (4, .int (J k)), (5, .long ((J z_5).toInt64)), (7, .long ((J up).toInt64)), (9, .long ((J ot).toInt64)), (13, .int (J p))]) SS.1 SS.2.1 dX12_planeOf_194 hl (by decide) rfl (fun ls hl => ?_)
              refine lv_iinc (v := J (p + 1)) (lv' := [(13, .int (J (p + 1))), (11, .long (x ||| 0)), (22, .long ((((J hp).toInt64) * ((J z_5).toInt64)) - ((((J z_85).toInt64) * ((J up).toInt64)) + (((J z_96).toInt64) * ((J ot).toInt64))))), (20, .long (((J hp).toInt64) * ((J z_5).toInt64))), (18, .long ((((J z_85).toInt64) * ((J up).toInt64)) + (((J z_96).toInt64) * ((J ot).toInt64)))), (16, .long ((J z_96).toInt64)), (14, .long ((J z_85).toInt64)), (0, .ref o), (1, .int (J s)), (2, .int (J i)), (3, .int (J j)), (4, .int (J k)), (5, .long ((J z_5).toInt64)), (7, .long ((J up).toInt64)), (9, .long ((J ot).toInt64))]) SS.1 SS.2.1 dX12_planeOf_196 hl (k := 14) rfl (J_add _ _) (by decide) rfl (fun ls hl => ?_)
              refine lv_goto (tgt := 70) SS.1 SS.2.1 dX12_planeOf_199 (by decide) ?_
              exact ih_70 (x ||| 0) (p + 1) ls (lv_sub hl [7, 8, 9, 10, 11, 12, 13, 14, 1, 0] rfl) (by omega) (fun q h1 h2 => by by_cases e : q = p; (rw [e]; omega); exact i70_1 q h1 (by omega)) (by first | exact (PBp (F := pS (u.1 10) (u.1 11) (u.1 3) s i j k) i70_0.1 i70_2).2 (by omega) | (rw [ex_188]; exact (PBp (F := pS (u.1 10) (u.1 11) (u.1 3) s i j k) i70_0.1 i70_2).1 (by omega))) (by omega)
            · skip
              refine lv_lconst (v := 1) SS.1 SS.2.1 dX12_planeOf_185 (by decide +kernel) ?_
              refine lv_iload SS.1 SS.2.1 dX12_planeOf_186 (lv_at hl 14 rfl) ?_
              refine lv_lshl SS.1 SS.2.1 dX12_planeOf_188 rfl (lv_topl (fun x_188 ex_188 => ?_))
              refine lv_goto (tgt := 193) SS.1 SS.2.1 dX12_planeOf_189 (by decide) ?_
              refine lv_lor SS.1 SS.2.1 dX12_planeOf_193 ?_
              refine lv_lstore (lv' := [(11, .long (x ||| x_188)), (22, .long ((((J hp).toInt64) * ((J z_5).toInt64)) - ((((J z_85).toInt64) * ((J up).toInt64)) + (((J z_96).toInt64) * ((J ot).toInt64))))), (20, .long (((J hp).toInt64) * ((J z_5).toInt64))), (18, .long ((((J z_85).toInt64) * ((J up).toInt64)) + (((J z_96).toInt64) * ((J ot).toInt64)))), (16, .long ((J z_96).toInt64)), (14, .long ((J z_85).toInt64)), (0, .ref o), (1, .int (J s)), (2, .int (J i)), (3, .int (J j)), (4, .int (J k)), (5, .long ((J z_5).toInt64)), (7, .long ((J up).toInt64)), (9, .long ((J ot).toInt64)), (13, .int (J p))]) SS.1 SS.2.1 dX12_planeOf_194 hl (by decide) rfl (fun ls hl => ?_)
              refine lv_iinc (v := J (p + 1)) (lv' := [(13, .int (J (p + 1))), (11, .long (x ||| x_188)), (22, .long ((((J hp).toInt64) * ((J z_5).toInt64)) - ((((J z_85).toInt64) * ((J up).toInt64)) + (((J z_96).toInt64) * ((J ot).toInt64))))), (20, .long (((J hp).toInt64) * ((J z_5).toInt64))), (18, .long ((((J z_85).toInt64) * ((J up).toInt64)) + (((J z_96).toInt64) * ((J ot).toInt64)))), (16, .long ((J z_96).toInt64)), (14, .long ((J z_85).toInt64)), (0, .ref o), (1, .int (J s)), (2, .int (J i)), (3, .int (J j)), (4, .int (J k)), (5, .long ((J z_5).toInt64)), (7, .long ((J up).toInt64)), (9, .long ((J ot).toInt64))]) SS.1 SS.2.1 dX12_planeOf_196 hl (k := 14) rfl (J_add _ _) (by decide) rfl (fun ls hl => ?_)
              refine lv_goto (tgt := 70) SS.1 SS.2.1 dX12_planeOf_199 (by decide) ?_
              exact ih_70 (x ||| x_188) (p + 1) ls (lv_sub hl [7, 8, 9, 10, 11, 12, 13, 14, 1, 0] rfl) (by omega) (fun q h1 h2 => by by_cases e : q = p; (rw [e]; omega); exact i70_1 q h1 (by omega)) (by first | exact (PBp (F := pS (u.1 10) (u.1 11) (u.1 3) s i j k) i70_0.1 i70_2).2 (by omega) | (rw [ex_188]; exact (PBp (F := pS (u.1 10) (u.1 11) (u.1 3) s i j k) i70_0.1 i70_2).1 (by omega))) (by omega)
          · skip
            refine lv_lconst (v := 0) SS.1 SS.2.1 dX12_planeOf_174 (by decide +kernel) ?_
            exact W.lret SS.1 SS.2.1 hr (fun t ht hW => ⟨_, rfl, (Or.inl ⟨rfl, p, by omega, by omega, by omega⟩), ht⟩) (fun _ h => nomatch h) dX12_planeOf_175 hlk
  exact L_70 ((u.2.2 12 - (0 : Int)).toNat + 1) 0 0 ls (lv_sub hl [5, 6, 7, 8, 9, 4, 3, 2, 1, 0] rfl) (by omega) (fun q h1 h2 => by omega) (rfl) (Nat.lt_succ_self _)

