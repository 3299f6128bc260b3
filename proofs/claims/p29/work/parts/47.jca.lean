
set_option maxHeartbeats 4000000 in
set_option maxRecDepth 100000 in
theorem c_X6_fill3_9 (l : Launch) (D : JD) (q : Nat → Nat) (u : CS) (A : Nat → Prop) (hD : va_D A (cW D q u)) (r : Nat) (hr : r ≤ 8) (p0 : RB 40 u r) (p1 : RB 40 u 9) (p2 : 1 ≤ u.1.2.2.1 r) : Met l yX6_fill (jw yX6_fill cX6_fill 5 none) (jr 3 68) (jP [.ref (q (9 + 5 * 9)), .ref (q (9 + 5 * r))] D (fun H => va_P D.1 j_cl (cW D q u) H)) (jWv (fun u' => ∃ n : Int, ∃ f : Nat → Int, ∃ g : Nat → Int, u' = (sY (sX (sC u 9 n) 9 f) 9 g) ∧ (((0 ≤ n ∧ n ≤ 12) ∧ RV 40 f g) ∧ (FT9 u r 12 → OL (inC u r) n f g))) (fun u' H => va_P D.1 j_cl (cW D q u') H) A) 0 0 A := by
  refine Met.ofW (cc := cX6_fill) (maxL := 5) (ret := none) (by decide) rfl ?_
  intro pr en st mi args below meth co s₁ B hml hv
  obtain ⟨rfl, hG, hP⟩ := hv
  have hr := B.returns
  have hlk := B.notSynchronized
  have SS : jS pr mi co cX6_fill 5 st _ RX6 := ⟨B.exec, B.bytes, hml, findClass_of_methodNamed B.named, fun w hw => atoms_spec (ws := (jw yX6_fill cX6_fill 5 none)) B.pre w (List.mem_cons_of_mem _ hw)⟩
  have hl := lv_entry ([.ref (q (9 + 5 * 9)), .ref (q (9 + 5 * r))]) (n := 5) (Nat.le_of_ble_eq_true rfl)
  rw [lg_entry_eq]
  generalize (lg_sl ([.ref (q (9 + 5 * 9)), .ref (q (9 + 5 * r))]) ++ List.replicate (5 - (lg_sl ([.ref (q (9 + 5 * 9)), .ref (q (9 + 5 * r))])).length) Slot.unset).toArray = ls at hl ⊢
  have hl : lv_has ls 5 [(0, .ref (q (9 + 5 * 9))), (1, .ref (q (9 + 5 * r)))] := hl
  have hS : va_S A st.heap st.heap [] := va_S.rf
  have hc := p0.1
  have hrl := rl_b r
  have hrk : (rl 9 : Int) = 12 := rfl
  have hne : r ≠ 9 := by omega
  refine lv_aload_n SS.1 SS.2.1 dX6_fill_0 rfl (lv_at hl 0 rfl) ?_
  refine j_iconst SS dX6_fill_1 ?_
  refine j_putS SS hG hP (cW_D hD) hS (9 + 5 * 9) (v := .int (J 0)) (ty := .int) (C := RX6) (T := TX6) (N := 3) (cw_pts (by omega)) rfl inX6 tyX6 tyX6_ok nmX6 2 (by decide) (ref := "GridPolygons$Points") kw_133 kw_134 rfl (by decide +kernel) rfl rfl (Nat.le_of_ble_eq_true rfl) dX6_fill_2 (ws' := (cW D q (sC u 9 0))) (cs_pts (by omega)) (fun H locs hP hS => ?_)
  refine lv_aload_n SS.1 SS.2.1 dX6_fill_5 rfl (lv_at hl 1 rfl) ?_
  refine j_vRi SS (As := []) (rest := []) (c_X7_leftmost l D q (sC u 9 0) r (by omega) (40 : Int)  (show 0 ≤ (40 : Int) ∧ (40 : Int) ≤ 80 from (by omega)) (show RB (40 : Int) (sC u 9 0) r from (by first | exact p0 | exact RB_nc (by omega) p0 | exact RB_ne (by omega) p0))) mf_X7_leftmost kw_877 hG hP hP (ci := 7) (q0 := (9 + 5 * r)) rfl (cw_ring (by omega)) rfl rfl hl.1 ⟨⟨Nat.le_of_ble_eq_true rfl, Nat.le_of_ble_eq_true rfl⟩, Nat.le_of_ble_eq_true rfl, Nat.le_refl _, Nat.le_refl _⟩ rfl dX6_fill_6 (fun z_6 h_6 => ?_)
  have h_6 : z_6 = rx (sC u 9 0) r 0 ∧ -(40 : Int) ≤ z_6 ∧ z_6 ≤ (40 : Int) := h_6
  refine lv_istore_n (lv' := [(2, .int (J z_6)), (0, .ref (q (9 + 5 * 9))), (1, .ref (q (9 + 5 * r)))]) SS.1 SS.2.1 dX6_fill_9 rfl hl (by decide) rfl (fun ls hl => ?_)
  have L_10 : ∀ (nn : Nat) (x : Int) (n1 : Int) (f1 : Nat → Int) (g1 : Nat → Int) (H : Heap) (locs : List Loc) (hP : va_P D.1 j_cl (cW D q (sY (sX (sC u 9 n1) 9 f1) 9 g1)) H) (hS : va_S A st.heap H locs) (ls : Array Slot) (hl : lv_has ls 5 [(0, .ref (q (9 + 5 * 9))), (1, .ref (q (9 + 5 * r))), (2, .int (J x))]) (i10_0 : -40 ≤ x ∧ x ≤ 41) (i10_1 : 0 ≤ n1 ∧ n1 ≤ 12) (i10_2 : RV 40 f1 g1) (i10_3 : rx u r 0 ≤ x) (i10_4 : FT9 u r 12 → OL (fun a b => inC u r a b ∧ a < x) n1 f1 g1), ((41 : Int) - x).toNat < nn → W pr l en (headSpec (jw yX6_fill cX6_fill 5 none) (jr 3 68)).room st mi (([.ref (q (9 + 5 * 9)), .ref (q (9 + 5 * r))] : List Value).toArray) below meth co H locs 0 0 (MQ below (jWv (fun u' => ∃ n : Int, ∃ f : Nat → Int, ∃ g : Nat → Int, u' = (sY (sX (sC u 9 n) 9 f) 9 g) ∧ (((0 ≤ n ∧ n ≤ 12) ∧ RV 40 f g) ∧ (FT9 u r 12 → OL (inC u r) n f g))) (fun u' H => va_P D.1 j_cl (cW D q u') H) A) (([.ref (q (9 + 5 * 9)), .ref (q (9 + 5 * r))] : List Value).toArray) st 0 0 A) (F0 mi 10 ls []) := by
    intro nn
    induction nn with
    | zero => intros; omega
    | succ nn ih_10 =>
      intro x n1 f1 g1 H locs hP hS ls hl i10_0 i10_1 i10_2 i10_3 i10_4 hm
      refine lv_iload_n SS.1 SS.2.1 dX6_fill_10 rfl (lv_at hl 2 rfl) ?_
      refine lv_aload_n SS.1 SS.2.1 dX6_fill_11 rfl (lv_at hl 1 rfl) ?_
      have hst := st_ne (u := u) (n := n1) (f := f1) (g := g1) hne
      have hcs := hst.1
      have hie := inC_e hst.1 hst.2.1 hst.2.2
      refine j_vRi SS (As := []) (rest := [.int (J x)]) (c_X7_rightmost3 l D q (sY (sX (sC u 9 n1) 9 f1) 9 g1) r (by omega) (40 : Int)  (show 0 ≤ (40 : Int) ∧ (40 : Int) ≤ 80 from (by omega)) (show RB (40 : Int) (sY (sX (sC u 9 n1) 9 f1) 9 g1) r from (by first | exact p0 | exact RB_nc (by omega) p0 | exact RB_ne (by omega) p0)) (show 1 ≤ ((sY (sX (sC u 9 n1) 9 f1) 9 g1).1.2.2.1 r) from (by omega))) mf_X7_rightmost kw_878 hG hP hP (ci := 7) (q0 := (9 + 5 * r)) rfl (cw_ring (by omega)) rfl rfl hl.1 ⟨⟨Nat.le_of_ble_eq_true rfl, Nat.le_of_ble_eq_true rfl⟩, Nat.le_of_ble_eq_true rfl, Nat.le_refl _, Nat.le_refl _⟩ rfl dX6_fill_12 (fun z_12 h_12 => ?_)
      have h_12 : (-(40 : Int) ≤ z_12 ∧ z_12 ≤ (40 : Int)) ∧ (∀ a : Int, 0 ≤ a → a < ((sY (sX (sC u 9 n1) 9 f1) 9 g1).1.2.2.1 r) → rx (sY (sX (sC u 9 n1) 9 f1) 9 g1) r a ≤ z_12) ∧ ∃ a : Int, 0 ≤ a ∧ a < ((sY (sX (sC u 9 n1) 9 f1) 9 g1).1.2.2.1 r) ∧ rx (sY (sX (sC u 9 n1) 9 f1) 9 g1) r a = z_12 := h_12
      have hz12 : (∀ a : Int, 0 ≤ a → a < u.1.2.2.1 r → rx u r a ≤ z_12) ∧ ∃ a : Int, 0 ≤ a ∧ a < u.1.2.2.1 r ∧ rx u r a = z_12 := by have w := h_12.2; rw [hcs] at w; have e := hie.2.2; exact ⟨fun a a0 a1 => by rw [← e]; exact w.1 a a0 a1, by obtain ⟨a, a0, a1, a2⟩ := w.2; exact ⟨a, a0, a1, by rw [← e]; exact a2⟩⟩
      have hr12 := hz12.1
      refine j_icmp_gt SS (tgt := 56) (x := x) (y := z_12) dX6_fill_15 (by decide) (by omega) (by omega) (fun c_15 => ?_) (fun c_15 => ?_)
      · skip
        exact W.vret SS.1 SS.2.1 hr (fun t0 ht hW => ⟨⟨(sY (sX (sC u 9 n1) 9 f1) 9 g1), rfl, (⟨n1, f1, g1, rfl, ⟨⟨by omega, i10_2⟩, fun F => OL_c (i10_4 F) (fun a b => ⟨fun w => w.1, fun w => ⟨w, by obtain ⟨c, c0, c1, c2⟩ := w.2.2.1; have w2 := hr12 c c0 c1; omega⟩⟩)⟩⟩), by show va_P D.1 j_cl (cW D q (sY (sX (sC u 9 n1) 9 f1) 9 g1)) t0.heap; rw [ht]; first | exact hP | (simp only [sC_id, sX_id, sY_id, sH_id, sT_id, sV_id]; exact hP)⟩, hS.F ht⟩) hS.2.2 dX6_fill_56 hlk
      · skip
        refine lv_aload_n SS.1 SS.2.1 dX6_fill_18 rfl (lv_at hl 1 rfl) ?_
        refine lv_iload_n SS.1 SS.2.1 dX6_fill_19 rfl (lv_at hl 2 rfl) ?_
        refine j_vRi SS (As := [.int (J x)]) (rest := []) (c_X7_highestAt3 l D q (sY (sX (sC u 9 n1) 9 f1) 9 g1) r (by omega) (40 : Int) x (show 0 ≤ (40 : Int) ∧ (40 : Int) ≤ 80 from (by omega)) (show RB (40 : Int) (sY (sX (sC u 9 n1) 9 f1) 9 g1) r from (by first | exact p0 | exact RB_nc (by omega) p0 | exact RB_ne (by omega) p0)) (show -200 ≤ x ∧ x ≤ 200 from (by omega)) (show 1 ≤ ((sY (sX (sC u 9 n1) 9 f1) 9 g1).1.2.2.1 r) from (by omega))) mf_X7_highestAt kw_879 hG hP hP (ci := 7) (q0 := (9 + 5 * r)) rfl (cw_ring (by omega)) rfl rfl hl.1 ⟨⟨Nat.le_of_ble_eq_true rfl, Nat.le_of_ble_eq_true rfl⟩, Nat.le_of_ble_eq_true rfl, Nat.le_refl _, Nat.le_refl _⟩ rfl dX6_fill_20 (fun z_20 h_20 => ?_)
        have h_20 : (-60000 ≤ z_20 ∧ z_20 ≤ (40 : Int)) ∧ (∀ y : Int, y ≤ z_20 ↔ hiC (sY (sX (sC u 9 n1) 9 f1) 9 g1) r x y (((sY (sX (sC u 9 n1) 9 f1) 9 g1).1.2.2.1 r))) := h_20
        refine lv_istore_n (lv' := [(3, .int (J z_20)), (0, .ref (q (9 + 5 * 9))), (1, .ref (q (9 + 5 * r))), (2, .int (J x))]) SS.1 SS.2.1 dX6_fill_23 rfl hl (by decide) rfl (fun ls hl => ?_)
        refine lv_aload_n SS.1 SS.2.1 dX6_fill_24 rfl (lv_at hl 2 rfl) ?_
        refine lv_iload_n SS.1 SS.2.1 dX6_fill_25 rfl (lv_at hl 3 rfl) ?_
        refine j_vRi SS (As := [.int (J x)]) (rest := []) (c_X7_lowestAt3 l D q (sY (sX (sC u 9 n1) 9 f1) 9 g1) r (by omega) (40 : Int) x (show 0 ≤ (40 : Int) ∧ (40 : Int) ≤ 80 from (by omega)) (show RB (40 : Int) (sY (sX (sC u 9 n1) 9 f1) 9 g1) r from (by first | exact p0 | exact RB_nc (by omega) p0 | exact RB_ne (by omega) p0)) (show -200 ≤ x ∧ x ≤ 200 from (by omega)) (show 1 ≤ ((sY (sX (sC u 9 n1) 9 f1) 9 g1).1.2.2.1 r) from (by omega))) mf_X7_lowestAt kw_880 hG hP hP (ci := 7) (q0 := (9 + 5 * r)) rfl (cw_ring (by omega)) rfl rfl hl.1 ⟨⟨Nat.le_of_ble_eq_true rfl, Nat.le_of_ble_eq_true rfl⟩, Nat.le_of_ble_eq_true rfl, Nat.le_refl _, Nat.le_refl _⟩ rfl dX6_fill_26 (fun z_26 h_26 => ?_)
        have h_26 : (-(40 : Int) ≤ z_26 ∧ z_26 ≤ 60000) ∧ (∀ y : Int, z_26 ≤ y ↔ loC (sY (sX (sC u 9 n1) 9 f1) 9 g1) r x y (((sY (sX (sC u 9 n1) 9 f1) 9 g1).1.2.2.1 r))) := h_26
        have hl26 : ∀ y : Int, z_26 ≤ y ↔ loC u r x y (u.1.2.2.1 r) := fun y => by have w := h_26.2 y; rw [hcs] at w; exact w.trans (hie.1 x y _)
        have hh20 : ∀ y : Int, y ≤ z_20 ↔ hiC u r x y (u.1.2.2.1 r) := fun y => by have w := h_20.2 y; rw [hcs] at w; exact w.trans (hie.2.1 x y _)
        have hcol := fun b : Int => crd_col (y := b) (by omega) i10_3 (by obtain ⟨c, c0, c1, c2⟩ := hz12.2; exact ⟨c, c0, c1, by omega⟩) hl26 hh20
        refine lv_istore (lv' := [(4, .int (J z_26)), (3, .int (J z_20)), (0, .ref (q (9 + 5 * 9))), (1, .ref (q (9 + 5 * r))), (2, .int (J x))]) SS.1 SS.2.1 dX6_fill_29 hl (by decide) rfl (fun ls hl => ?_)
        have L_31 : ∀ (nn : Nat) (y : Int) (n2 : Int) (f2 : Nat → Int) (g2 : Nat → Int) (H : Heap) (locs : List Loc) (hP : va_P D.1 j_cl (cW D q (sY (sX (sC u 9 n2) 9 f2) 9 g2)) H) (hS : va_S A st.heap H locs) (ls : Array Slot) (hl : lv_has ls 5 [(0, .ref (q (9 + 5 * 9))), (1, .ref (q (9 + 5 * r))), (2, .int (J x)), (3, .int (J z_20)), (4, .int (J y))]) (i31_0 : z_26 ≤ y ∧ y ≤ 60000) (i31_1 : 0 ≤ n2 ∧ n2 ≤ 12) (i31_2 : RV 40 f2 g2) (i31_3 : FT9 u r 12 → OL (fun a b => inC u r a b ∧ (a < x ∨ (a = x ∧ b < y))) n2 f2 g2), ((41 : Int) - y).toNat < nn → W pr l en (headSpec (jw yX6_fill cX6_fill 5 none) (jr 3 68)).room st mi (([.ref (q (9 + 5 * 9)), .ref (q (9 + 5 * r))] : List Value).toArray) below meth co H locs 0 0 (MQ below (jWv (fun u' => ∃ n : Int, ∃ f : Nat → Int, ∃ g : Nat → Int, u' = (sY (sX (sC u 9 n) 9 f) 9 g) ∧ (((0 ≤ n ∧ n ≤ 12) ∧ RV 40 f g) ∧ (FT9 u r 12 → OL (inC u r) n f g))) (fun u' H => va_P D.1 j_cl (cW D q u') H) A) (([.ref (q (9 + 5 * 9)), .ref (q (9 + 5 * r))] : List Value).toArray) st 0 0 A) (F0 mi 31 ls []) := by
          intro nn
          induction nn with
          | zero => intros; omega
          | succ nn ih_31 =>
            intro y n2 f2 g2 H locs hP hS ls hl i31_0 i31_1 i31_2 i31_3 hm
            refine lv_iload SS.1 SS.2.1 dX6_fill_31 (lv_at hl 4 rfl) ?_
            refine lv_iload_n SS.1 SS.2.1 dX6_fill_33 rfl (lv_at hl 3 rfl) ?_
            refine j_icmp_gt SS (tgt := 50) (x := y) (y := z_20) dX6_fill_34 (by decide) (by omega) (by omega) (fun c_34 => ?_) (fun c_34 => ?_)
            · skip
              refine lv_iinc (v := J (x + 1)) (lv' := [(2, .int (J (x + 1))), (0, .ref (q (9 + 5 * 9))), (1, .ref (q (9 + 5 * r))), (3, .int (J z_20)), (4, .int (J y))]) SS.1 SS.2.1 dX6_fill_50 hl (k := 2) rfl (J_add _ _) (by decide) rfl (fun ls hl => ?_)
              refine lv_goto (tgt := 10) SS.1 SS.2.1 dX6_fill_53 (by decide) ?_
              exact ih_10 (x + 1) n2 f2 g2 _ _ hP hS ls (lv_sub hl [1, 2, 0] rfl) (by omega) (by omega) (i31_2) (by omega) (fun F => OL_c (i31_3 F) (fun a b => ⟨fun w => ⟨w.1, by omega⟩, fun w => ⟨w.1, by by_cases e : a = x; (have w1 := w.1; rw [e] at w1; have w2 := (hcol b).mp w1; omega); have := w.2; omega⟩⟩)) (by omega)
            · skip
              refine lv_aload_n SS.1 SS.2.1 dX6_fill_37 rfl (lv_at hl 0 rfl) ?_
              refine lv_iload_n SS.1 SS.2.1 dX6_fill_38 rfl (lv_at hl 2 rfl) ?_
              refine lv_iload SS.1 SS.2.1 dX6_fill_39 (lv_at hl 4 rfl) ?_
              refine j_uWv SS (As := [.int (J x), .int (J y)]) (rest := []) (c_X8_appendP l D q (sY (sX (sC u 9 n2) 9 f2) 9 g2) A (cW_D hD) 9 (by omega) x y (show 0 ≤ n2 ∧ n2 ≤ rl 9 from (by omega))) mu_6_append kw_881 hG hP hP (ci := 6) (q0 := (9 + 5 * 9)) rfl (cw_pts (by omega)) rfl hS (fun _ h => h) rfl hl.1 ⟨⟨Nat.le_of_ble_eq_true rfl, Nat.le_of_ble_eq_true rfl⟩, Nat.le_of_ble_eq_true rfl, Nat.le_refl _, Nat.le_refl _⟩ rfl dX6_fill_41 (fun u41 H locs h_41 hP _ hS => ?_)
              obtain ⟨f_41, g_41, n_41, rfl, h_41⟩ := h_41
              have hP : va_P D.1 j_cl (cW D q (sY (sX (sC u 9 n_41) 9 f_41) 9 g_41)) H := hP
              have h_41 : (n2 < rl 9 ∧ f_41 = upI (f2) (n2).toNat x ∧ g_41 = upI (g2) (n2).toNat y ∧ n_41 = n2 + 1) ∨ (rl 9 ≤ n2 ∧ f_41 = f2 ∧ g_41 = g2 ∧ n_41 = n2) := h_41
              refine lv_iinc (v := J (y + 1)) (lv' := [(4, .int (J (y + 1))), (0, .ref (q (9 + 5 * 9))), (1, .ref (q (9 + 5 * r))), (2, .int (J x)), (3, .int (J z_20))]) SS.1 SS.2.1 dX6_fill_44 hl (k := 4) rfl (J_add _ _) (by decide) rfl (fun ls hl => ?_)
              refine lv_goto (tgt := 31) SS.1 SS.2.1 dX6_fill_47 (by decide) ?_
              exact ih_31 (y + 1) n_41 f_41 g_41 _ _ hP hS ls (lv_sub hl [1, 2, 3, 4, 0] rfl) (by omega) ((ap_b (K := 40) (m := 12) (n0 := n2) (f := f_41) (g := g_41) (n := n_41) (x := x) (y := y) i31_2 (by omega) (by omega) (by omega) (by rw [hrk] at h_41; exact h_41)).1) ((ap_b (K := 40) (m := 12) (n0 := n2) (f := f_41) (g := g_41) (n := n_41) (x := x) (y := y) i31_2 (by omega) (by omega) (by omega) (by rw [hrk] at h_41; exact h_41)).2) (OL_f i31_3 hcol (by omega) (by rw [hrk] at h_41; exact h_41)) (by omega)
        exact L_31 (((41 : Int) - z_26).toNat + 1) z_26 n1 f1 g1 _ _ hP hS ls (lv_sub hl [2, 3, 4, 1, 0] rfl) (by omega) (by omega) (i10_2) (fun F => OL_c (i10_4 F) (fun a b => ⟨fun w => ⟨w.1, Or.inl w.2⟩, fun w => ⟨w.1, by rcases w.2 with e | ⟨e, e2⟩; exact e; (have w1 := w.1; rw [e] at w1; have w2 := (hcol b).mp w1; omega)⟩⟩)) (Nat.lt_succ_self _)
  exact L_10 (((41 : Int) - z_6).toNat + 1) z_6 0 (u.1.1 9) (u.1.2.1 9) _ _ hP hS ls (lv_sub hl [1, 2, 0] rfl) (by omega) (by omega) (p1.2) (by have w : z_6 = rx u r 0 := h_6.1; omega) (fun _ => OL_0 (fun a b q => by have q1 := q.1.2.1; have q2 := q.2; have w : z_6 = rx u r 0 := h_6.1; omega)) (Nat.lt_succ_self _)

set_option maxHeartbeats 4000000 in
set_option maxRecDepth 100000 in
theorem c_X6_fill3_10 (l : Launch) (D : JD) (q : Nat → Nat) (u : CS) (A : Nat → Prop) (hD : va_D A (cW D q u)) (r : Nat) (hr : r ≤ 8) (p0 : RB 40 u r) (p1 : RB 40 u 10) (p2 : 1 ≤ u.1.2.2.1 r) : Met l yX6_fill (jw yX6_fill cX6_fill 5 none) (jr 3 68) (jP [.ref (q (9 + 5 * 10)), .ref (q (9 + 5 * r))] D (fun H => va_P D.1 j_cl (cW D q u) H)) (jWv (fun u' => ∃ n : Int, ∃ f : Nat → Int, ∃ g : Nat → Int, u' = (sY (sX (sC u 10 n) 10 f) 10 g) ∧ (((0 ≤ n ∧ n ≤ 40) ∧ RV 40 f g) ∧ (FT9 u r 40 → OL (inC u r) n f g))) (fun u' H => va_P D.1 j_cl (cW D q u') H) A) 0 0 A := by
  refine Met.ofW (cc := cX6_fill) (maxL := 5) (ret := none) (by decide) rfl ?_
  intro pr en st mi args below meth co s₁ B hml hv
  obtain ⟨rfl, hG, hP⟩ := hv
  have hr := B.returns
  have hlk := B.notSynchronized
  have SS : jS pr mi co cX6_fill 5 st _ RX6 := ⟨B.exec, B.bytes, hml, findClass_of_methodNamed B.named, fun w hw => atoms_spec (ws := (jw yX6_fill cX6_fill 5 none)) B.pre w (List.mem_cons_of_mem _ hw)⟩
  have hl := lv_entry ([.ref (q (9 + 5 * 10)), .ref (q (9 + 5 * r))]) (n := 5) (Nat.le_of_ble_eq_true rfl)
  rw [lg_entry_eq]
  generalize (lg_sl ([.ref (q (9 + 5 * 10)), .ref (q (9 + 5 * r))]) ++ List.replicate (5 - (lg_sl ([.ref (q (9 + 5 * 10)), .ref (q (9 + 5 * r))])).length) Slot.unset).toArray = ls at hl ⊢
  have hl : lv_has ls 5 [(0, .ref (q (9 + 5 * 10))), (1, .ref (q (9 + 5 * r)))] := hl
  have hS : va_S A st.heap st.heap [] := va_S.rf
  have hc := p0.1
  have hrl := rl_b r
  have hrk : (rl 10 : Int) = 40 := rfl
  have hne : r ≠ 10 := by omega
  refine lv_aload_n SS.1 SS.2.1 dX6_fill_0 rfl (lv_at hl 0 rfl) ?_
  refine j_iconst SS dX6_fill_1 ?_
  refine j_putS SS hG hP (cW_D hD) hS (9 + 5 * 10) (v := .int (J 0)) (ty := .int) (C := RX6) (T := TX6) (N := 3) (cw_pts (by omega)) rfl inX6 tyX6 tyX6_ok nmX6 2 (by decide) (ref := "GridPolygons$Points") kw_133 kw_134 rfl (by decide +kernel) rfl rfl (Nat.le_of_ble_eq_true rfl) dX6_fill_2 (ws' := (cW D q (sC u 10 0))) (cs_pts (by omega)) (fun H locs hP hS => ?_)
  refine lv_aload_n SS.1 SS.2.1 dX6_fill_5 rfl (lv_at hl 1 rfl) ?_
  refine j_vRi SS (As := []) (rest := []) (c_X7_leftmost l D q (sC u 10 0) r (by omega) (40 : Int)  (show 0 ≤ (40 : Int) ∧ (40 : Int) ≤ 80 from (by omega)) (show RB (40 : Int) (sC u 10 0) r from (by first | exact p0 | exact RB_nc (by omega) p0 | exact RB_ne (by omega) p0))) mf_X7_leftmost kw_877 hG hP hP (ci := 7) (q0 := (9 + 5 * r)) rfl (cw_ring (by omega)) rfl rfl hl.1 ⟨⟨Nat.le_of_ble_eq_true rfl, Nat.le_of_ble_eq_true rfl⟩, Nat.le_of_ble_eq_true rfl, Nat.le_refl _, Nat.le_refl _⟩ rfl dX6_fill_6 (fun z_6 h_6 => ?_)
  have h_6 : z_6 = rx (sC u 10 0) r 0 ∧ -(40 : Int) ≤ z_6 ∧ z_6 ≤ (40 : Int) := h_6
  refine lv_istore_n (lv' := [(2, .int (J z_6)), (0, .ref (q (9 + 5 * 10))), (1, .ref (q (9 + 5 * r)))]) SS.1 SS.2.1 dX6_fill_9 rfl hl (by decide) rfl (fun ls hl => ?_)
  have L_10 : ∀ (nn : Nat) (x : Int) (n1 : Int) (f1 : Nat → Int) (g1 : Nat → Int) (H : Heap) (locs : List Loc) (hP : va_P D.1 j_cl (cW D q (sY (sX (sC u 10 n1) 10 f1) 10 g1)) H) (hS : va_S A st.heap H locs) (ls : Array Slot) (hl : lv_has ls 5 [(0, .ref (q (9 + 5 * 10))), (1, .ref (q (9 + 5 * r))), (2, .int (J x))]) (i10_0 : -40 ≤ x ∧ x ≤ 41) (i10_1 : 0 ≤ n1 ∧ n1 ≤ 40) (i10_2 : RV 40 f1 g1) (i10_3 : rx u r 0 ≤ x) (i10_4 : FT9 u r 40 → OL (fun a b => inC u r a b ∧ a < x) n1 f1 g1), ((41 : Int) - x).toNat < nn → W pr l en (headSpec (jw yX6_fill cX6_fill 5 none) (jr 3 68)).room st mi (([.ref (q (9 + 5 * 10)), .ref (q (9 + 5 * r))] : List Value).toArray) below meth co H locs 0 0 (MQ below (jWv (fun u' => ∃ n : Int, ∃ f : Nat → Int, ∃ g : Nat → Int, u' = (sY (sX (sC u 10 n) 10 f) 10 g) ∧ (((0 ≤ n ∧ n ≤ 40) ∧ RV 40 f g) ∧ (FT9 u r 40 → OL (inC u r) n f g))) (fun u' H => va_P D.1 j_cl (cW D q u') H) A) (([.ref (q (9 + 5 * 10)), .ref (q (9 + 5 * r))] : List Value).toArray) st 0 0 A) (F0 mi 10 ls []) := by
    intro nn
    induction nn with
    | zero => intros; omega
    | succ nn ih_10 =>
      intro x n1 f1 g1 H locs hP hS ls hl i10_0 i10_1 i10_2 i10_3 i10_4 hm
      refine lv_iload_n SS.1 SS.2.1 dX6_fill_10 rfl (lv_at hl 2 rfl) ?_
      refine lv_aload_n SS.1 SS.2.1 dX6_fill_11 rfl (lv_at hl 1 rfl) ?_
      have hst := st_ne (u := u) (n := n1) (f := f1) (g := g1) hne
      have hcs := hst.1
      have hie := inC_e hst.1 hst.2.1 hst.2.2
      refine j_vRi SS (As := []) (rest := [.int (J x)]) (c_X7_rightmost3 l D q (sY (sX (sC u 10 n1) 10 f1) 10 g1) r (by omega) (40 : Int)  (show 0 ≤ (40 : Int) ∧ (40 : Int) ≤ 80 from (by omega)) (show RB (40 : Int) (sY (sX (sC u 10 n1) 10 f1) 10 g1) r from (by first | exact p0 | exact RB_nc (by omega) p0 | exact RB_ne (by omega) p0)) (show 1 ≤ ((sY (sX (sC u 10 n1) 10 f1) 10 g1).1.2.2.1 r) from (by omega))) mf_X7_rightmost kw_878 hG hP hP (ci := 7) (q0 := (9 + 5 * r)) rfl (cw_ring (by omega)) rfl rfl hl.1 ⟨⟨Nat.le_of_ble_eq_true rfl, Nat.le_of_ble_eq_true rfl⟩, Nat.le_of_ble_eq_true rfl, Nat.le_refl _, Nat.le_refl _⟩ rfl dX6_fill_12 (fun z_12 h_12 => ?_)
      have h_12 : (-(40 : Int) ≤ z_12 ∧ z_12 ≤ (40 : Int)) ∧ (∀ a : Int, 0 ≤ a → a < ((sY (sX (sC u 10 n1) 10 f1) 10 g1).1.2.2.1 r) → rx (sY (sX (sC u 10 n1) 10 f1) 10 g1) r a ≤ z_12) ∧ ∃ a : Int, 0 ≤ a ∧ a < ((sY (sX (sC u 10 n1) 10 f1) 10 g1).1.2.2.1 r) ∧ rx (sY (sX (sC u 10 n1) 10 f1) 10 g1) r a = z_12 := h_12
      have hz12 : (∀ a : Int, 0 ≤ a → a < u.1.2.2.1 r → rx u r a ≤ z_12) ∧ ∃ a : Int, 0 ≤ a ∧ a < u.1.2.2.1 r ∧ rx u r a = z_12 := by have w := h_12.2; rw [hcs] at w; have e := hie.2.2; exact ⟨fun a a0 a1 => by rw [← e]; exact w.1 a a0 a1, by obtain ⟨a, a0, a1, a2⟩ := w.2; exact ⟨a, a0, a1, by rw [← e]; exact a2⟩⟩
      have hr12 := hz12.1
      refine j_icmp_gt SS (tgt := 56) (x := x) (y := z_12) dX6_fill_15 (by decide) (by omega) (by omega) (fun c_15 => ?_) (fun c_15 => ?_)
      · skip
        exact W.vret SS.1 SS.2.1 hr (fun t0 ht hW => ⟨⟨(sY (sX (sC u 10 n1) 10 f1) 10 g1), rfl, (⟨n1, f1, g1, rfl, ⟨⟨by omega, i10_2⟩, fun F => OL_c (i10_4 F) (fun a b => ⟨fun w => w.1, fun w => ⟨w, by obtain ⟨c, c0, c1, c2⟩ := w.2.2.1; have w2 := hr12 c c0 c1; omega⟩⟩)⟩⟩), by show va_P D.1 j_cl (cW D q (sY (sX (sC u 10 n1) 10 f1) 10 g1)) t0.heap; rw [ht]; first | exact hP | (simp only [sC_id, sX_id, sY_id, sH_id, sT_id, sV_id]; exact hP)⟩, hS.F ht⟩) hS.2.2 dX6_fill_56 hlk
      · skip
        refine lv_aload_n SS.1 SS.2.1 dX6_fill_18 rfl (lv_at hl 1 rfl) ?_
        refine lv_iload_n SS.1 SS.2.1 dX6_fill_19 rfl (lv_at hl 2 rfl) ?_
        refine j_vRi SS (As := [.int (J x)]) (rest := []) (c_X7_highestAt3 l D q (sY (sX (sC u 10 n1) 10 f1) 10 g1) r (by omega) (40 : Int) x (show 0 ≤ (40 : Int) ∧ (40 : Int) ≤ 80 from (by omega)) (show RB (40 : Int) (sY (sX (sC u 10 n1) 10 f1) 10 g1) r from (by first | exact p0 | exact RB_nc (by omega) p0 | exact RB_ne (by omega) p0)) (show -200 ≤ x ∧ x ≤ 200 from (by omega)) (show 1 ≤ ((sY (sX (sC u 10 n1) 10 f1) 10 g1).1.2.2.1 r) from (by omega))) mf_X7_highestAt kw_879 hG hP hP (ci := 7) (q0 := (9 + 5 * r)) rfl (cw_ring (by omega)) rfl rfl hl.1 ⟨⟨Nat.le_of_ble_eq_true rfl, Nat.le_of_ble_eq_true rfl⟩, Nat.le_of_ble_eq_true rfl, Nat.le_refl _, Nat.le_refl _⟩ rfl dX6_fill_20 (fun z_20 h_20 => ?_)
        have h_20 : (-60000 ≤ z_20 ∧ z_20 ≤ (40 : Int)) ∧ (∀ y : Int, y ≤ z_20 ↔ hiC (sY (sX (sC u 10 n1) 10 f1) 10 g1) r x y (((sY (sX (sC u 10 n1) 10 f1) 10 g1).1.2.2.1 r))) := h_20
        refine lv_istore_n (lv' := [(3, .int (J z_20)), (0, .ref (q (9 + 5 * 10))), (1, .ref (q (9 + 5 * r))), (2, .int (J x))]) SS.1 SS.2.1 dX6_fill_23 rfl hl (by decide) rfl (fun ls hl => ?_)
        refine lv_aload_n SS.1 SS.2.1 dX6_fill_24 rfl (lv_at hl 2 rfl) ?_
        refine lv_iload_n SS.1 SS.2.1 dX6_fill_25 rfl (lv_at hl 3 rfl) ?_
        refine j_vRi SS (As := [.int (J x)]) (rest := []) (c_X7_lowestAt3 l D q (sY (sX (sC u 10 n1) 10 f1) 10 g1) r (by omega) (40 : Int) x (show 0 ≤ (40 : Int) ∧ (40 : Int) ≤ 80 from (by omega)) (show RB (40 : Int) (sY (sX (sC u 10 n1) 10 f1) 10 g1) r from (by first | exact p0 | exact RB_nc (by omega) p0 | exact RB_ne (by omega) p0)) (show -200 ≤ x ∧ x ≤ 200 from (by omega)) (show 1 ≤ ((sY (sX (sC u 10 n1) 10 f1) 10 g1).1.2.2.1 r) from (by omega))) mf_X7_lowestAt kw_880 hG hP hP (ci := 7) (q0 := (9 + 5 * r)) rfl (cw_ring (by omega)) rfl rfl hl.1 ⟨⟨Nat.le_of_ble_eq_true rfl, Nat.le_of_ble_eq_true rfl⟩, Nat.le_of_ble_eq_true rfl, Nat.le_refl _, Nat.le_refl _⟩ rfl dX6_fill_26 (fun z_26 h_26 => ?_)
        have h_26 : (-(40 : Int) ≤ z_26 ∧ z_26 ≤ 60000) ∧ (∀ y : Int, z_26 ≤ y ↔ loC (sY (sX (sC u 10 n1) 10 f1) 10 g1) r x y (((sY (sX (sC u 10 n1) 10 f1) 10 g1).1.2.2.1 r))) := h_26
        have hl26 : ∀ y : Int, z_26 ≤ y ↔ loC u r x y (u.1.2.2.1 r) := fun y => by have w := h_26.2 y; rw [hcs] at w; exact w.trans (hie.1 x y _)
        have hh20 : ∀ y : Int, y ≤ z_20 ↔ hiC u r x y (u.1.2.2.1 r) := fun y => by have w := h_20.2 y; rw [hcs] at w; exact w.trans (hie.2.1 x y _)
        have hcol := fun b : Int => crd_col (y := b) (by omega) i10_3 (by obtain ⟨c, c0, c1, c2⟩ := hz12.2; exact ⟨c, c0, c1, by omega⟩) hl26 hh20
        refine lv_istore (lv' := [(4, .int (J z_26)), (3, .int (J z_20)), (0, .ref (q (9 + 5 * 10))), (1, .ref (q (9 + 5 * r))), (2, .int (J x))]) SS.1 SS.2.1 dX6_fill_29 hl (by decide) rfl (fun ls hl => ?_)
        have L_31 : ∀ (nn : Nat) (y : Int) (n2 : Int) (f2 : Nat → Int) (g2 : Nat → Int) (H : Heap) (locs : List Loc) (hP : va_P D.1 j_cl (cW D q (sY (sX (sC u 10 n2) 10 f2) 10 g2)) H) (hS : va_S A st.heap H locs) (ls : Array Slot) (hl : lv_has ls 5 [(0, .ref (q (9 + 5 * 10))), (1, .ref (q (9 + 5 * r))), (2, .int (J x)), (3, .int (J z_20)), (4, .int (J y))]) (i31_0 : z_26 ≤ y ∧ y ≤ 60000) (i31_1 : 0 ≤ n2 ∧ n2 ≤ 40) (i31_2 : RV 40 f2 g2) (i31_3 : FT9 u r 40 → OL (fun a b => inC u r a b ∧ (a < x ∨ (a = x ∧ b < y))) n2 f2 g2), ((41 : Int) - y).toNat < nn → W pr l en (headSpec (jw yX6_fill cX6_fill 5 none) (jr 3 68)).room st mi (([.ref (q (9 + 5 * 10)), .ref (q (9 + 5 * r))] : List Value).toArray) below meth co H locs 0 0 (MQ below (jWv (fun u' => ∃ n : Int, ∃ f : Nat → Int, ∃ g : Nat → Int, u' = (sY (sX (sC u 10 n) 10 f) 10 g) ∧ (((0 ≤ n ∧ n ≤ 40) ∧ RV 40 f g) ∧ (FT9 u r 40 → OL (inC u r) n f g))) (fun u' H => va_P D.1 j_cl (cW D q u') H) A) (([.ref (q (9 + 5 * 10)), .ref (q (9 + 5 * r))] : List Value).toArray) st 0 0 A) (F0 mi 31 ls []) := by
          intro nn
          induction nn with
          | zero => intros; omega
          | succ nn ih_31 =>
            intro y n2 f2 g2 H locs hP hS ls hl i31_0 i31_1 i31_2 i31_3 hm
            refine lv_iload SS.1 SS.2.1 dX6_fill_31 (lv_at hl 4 rfl) ?_
            refine lv_iload_n SS.1 SS.2.1 dX6_fill_33 rfl (lv_at hl 3 rfl) ?_
            refine j_icmp_gt SS (tgt := 50) (x := y) (y := z_20) dX6_fill_34 (by decide) (by omega) (by omega) (fun c_34 => ?_) (fun c_34 => ?_)
            · skip
              refine lv_iinc (v := J (x + 1)) (lv' := [(2, .int (J (x + 1))), (0, .ref (q (9 + 5 * 10))), (1, .ref (q (9 + 5 * r))), (3, .int (J z_20)), (4, .int (J y))]) SS.1 SS.2.1 dX6_fill_50 hl (k := 2) rfl (J_add _ _) (by decide) rfl (fun ls hl => ?_)
              refine lv_goto (tgt := 10) SS.1 SS.2.1 dX6_fill_53 (by decide) ?_
              exact ih_10 (x + 1) n2 f2 g2 _ _ hP hS ls (lv_sub hl [1, 2, 0] rfl) (by omega) (by omega) (i31_2) (by omega) (fun F => OL_c (i31_3 F) (fun a b => ⟨fun w => ⟨w.1, by omega⟩, fun w => ⟨w.1, by by_cases e : a = x; (have w1 := w.1; rw [e] at w1; have w2 := (hcol b).mp w1; omega); have := w.2; omega⟩⟩)) (by omega)
            · skip
              refine lv_aload_n SS.1 SS.2.1 dX6_fill_37 rfl (lv_at hl 0 rfl) ?_
              refine lv_iload_n SS.1 SS.2.1 dX6_fill_38 rfl (lv_at hl 2 rfl) ?_
              refine lv_iload SS.1 SS.2.1 dX6_fill_39 (lv_at hl 4 rfl) ?_
              refine j_uWv SS (As := [.int (J x), .int (J y)]) (rest := []) (c_X8_appendP l D q (sY (sX (sC u 10 n2) 10 f2) 10 g2) A (cW_D hD) 10 (by omega) x y (show 0 ≤ n2 ∧ n2 ≤ rl 10 from (by omega))) mu_6_append kw_881 hG hP hP (ci := 6) (q0 := (9 + 5 * 10)) rfl (cw_pts (by omega)) rfl hS (fun _ h => h) rfl hl.1 ⟨⟨Nat.le_of_ble_eq_true rfl, Nat.le_of_ble_eq_true rfl⟩, Nat.le_of_ble_eq_true rfl, Nat.le_refl _, Nat.le_refl _⟩ rfl dX6_fill_41 (fun u41 H locs h_41 hP _ hS => ?_)
              obtain ⟨f_41, g_41, n_41, rfl, h_41⟩ := h_41
              have hP : va_P D.1 j_cl (cW D q (sY (sX (sC u 10 n_41) 10 f_41) 10 g_41)) H := hP
              have h_41 : (n2 < rl 10 ∧ f_41 = upI (f2) (n2).toNat x ∧ g_41 = upI (g2) (n2).toNat y ∧ n_41 = n2 + 1) ∨ (rl 10 ≤ n2 ∧ f_41 = f2 ∧ g_41 = g2 ∧ n_41 = n2) := h_41
              refine lv_iinc (v := J (y + 1)) (lv' := [(4, .int (J (y + 1))), (0, .ref (q (9 + 5 * 10))), (1, .ref (q (9 + 5 * r))), (2, .int (J x)), (3, .int (J z_20))]) SS.1 SS.2.1 dX6_fill_44 hl (k := 4) rfl (J_add _ _) (by decide) rfl (fun ls hl => ?_)
              refine lv_goto (tgt := 31) SS.1 SS.2.1 dX6_fill_47 (by decide) ?_
              exact ih_31 (y + 1) n_41 f_41 g_41 _ _ hP hS ls (lv_sub hl [1, 2, 3, 4, 0] rfl) (by omega) ((ap_b (K := 40) (m := 40) (n0 := n2) (f := f_41) (g := g_41) (n := n_41) (x := x) (y := y) i31_2 (by omega) (by omega) (by omega) (by rw [hrk] at h_41; exact h_41)).1) ((ap_b (K := 40) (m := 40) (n0 := n2) (f := f_41) (g := g_41) (n := n_41) (x := x) (y := y) i31_2 (by omega) (by omega) (by omega) (by rw [hrk] at h_41; exact h_41)).2) (OL_f i31_3 hcol (by omega) (by rw [hrk] at h_41; exact h_41)) (by omega)
        exact L_31 (((41 : Int) - z_26).toNat + 1) z_26 n1 f1 g1 _ _ hP hS ls (lv_sub hl [2, 3, 4, 1, 0] rfl) (by omega) (by omega) (i10_2) (fun F => OL_c (i10_4 F) (fun a b => ⟨fun w => ⟨w.1, Or.inl w.2⟩, fun w => ⟨w.1, by rcases w.2 with e | ⟨e, e2⟩; exact e; (have w1 := w.1; rw [e] at w1; have w2 := (hcol b).mp w1; omega)⟩⟩)) (Nat.lt_succ_self _)
  exact L_10 (((41 : Int) - z_6).toNat + 1) z_6 0 (u.1.1 10) (u.1.2.1 10) _ _ hP hS ls (lv_sub hl [1, 2, 0] rfl) (by omega) (by omega) (p1.2) (by have w : z_6 = rx u r 0 := h_6.1; omega) (fun _ => OL_0 (fun a b q => by have q1 := q.1.2.1; have q2 := q.2; have w : z_6 = rx u r 0 := h_6.1; omega)) (Nat.lt_succ_self _)
