
set_option maxHeartbeats 4000000 in
set_option maxRecDepth 100000 in
theorem c_X3_push2 (l : Launch) (D : JD) (q : Nat → Nat) (u : CS) (A : Nat → Prop) (hD : va_D A (cW D q u)) (a : Int) (b : Int) (t : Int) (p0 : RB 80 u 8) (p1 : -80 ≤ a ∧ a ≤ 80) (p2 : -80 ≤ b ∧ b ≤ 80) (p3 : 0 ≤ t ∧ t ≤ 400) (p4 : u.1.2.2.1 8 ≤ 322) : Met l yX3_push (jw yX3_push cX3_push 4 none) (jr 2 46) (jP [.ref (q 2), .int (J a), .int (J b), .int (J t)] D (fun H => va_P D.1 j_cl (cW D q u) H)) (jWv (fun u' => ∃ f : Nat → Int, ∃ g : Nat → Int, ∃ n : Int, u' = (sY (sX (sC u 8 n) 8 f) 8 g) ∧ (((0 ≤ n ∧ n ≤ 323) ∧ RV 80 f g) ∧ PU (u.1.1 8) (u.1.2.1 8) f g (u.1.2.2.1 8) t a b n)) (fun u' H => va_P D.1 j_cl (cW D q u') H) A) 0 0 A := by
  refine Met.ofW (cc := cX3_push) (maxL := 4) (ret := none) (by decide) rfl ?_
  intro pr en st mi args below meth co s₁ B hml hv
  obtain ⟨rfl, hG, hP⟩ := hv
  have hr := B.returns
  have hlk := B.notSynchronized
  have SS : jS pr mi co cX3_push 4 st _ RX3 := ⟨B.exec, B.bytes, hml, findClass_of_methodNamed B.named, fun w hw => atoms_spec (ws := (jw yX3_push cX3_push 4 none)) B.pre w (List.mem_cons_of_mem _ hw)⟩
  have hl := lv_entry ([.ref (q 2), .int (J a), .int (J b), .int (J t)]) (n := 4) (Nat.le_of_ble_eq_true rfl)
  rw [lg_entry_eq]
  generalize (lg_sl ([.ref (q 2), .int (J a), .int (J b), .int (J t)]) ++ List.replicate (4 - (lg_sl ([.ref (q 2), .int (J a), .int (J b), .int (J t)])).length) Slot.unset).toArray = ls at hl ⊢
  have hl : lv_has ls 4 [(0, .ref (q 2)), (1, .int (J a)), (2, .int (J b)), (3, .int (J t))] := hl
  have hS : va_S A st.heap st.heap [] := va_S.rf
  have hR : RB 80 u 8 := p0
  have hc := p0.1
  have hr8 := rl8
  rw [rl8] at hc
  refine lv_aload_n SS.1 SS.2.1 dX3_push_0 rfl (lv_at hl 0 rfl) ?_
  refine lv_iload_n SS.1 SS.2.1 dX3_push_1 rfl (lv_at hl 1 rfl) ?_
  refine lv_iload_n SS.1 SS.2.1 dX3_push_2 rfl (lv_at hl 2 rfl) ?_
  refine j_vRi SS (As := [.int (J a), .int (J b)]) (rest := []) (c_X3_isLast l D q u  a b (show RB 80 u 8 from (hR)) (show -2147483648 ≤ a ∧ a ≤ 2147483647 from (by omega)) (show -2147483648 ≤ b ∧ b ≤ 2147483647 from (by omega))) mf_X3_isLast kw_433 hG hP hP (ci := 3) (q0 := 2) rfl rfl rfl rfl hl.1 ⟨⟨Nat.le_of_ble_eq_true rfl, Nat.le_of_ble_eq_true rfl⟩, Nat.le_of_ble_eq_true rfl, Nat.le_refl _, Nat.le_refl _⟩ rfl dX3_push_3 (fun z_3 h_3 => ?_)
  have h_3 : (z_3 = 1 ∧ 0 < (u.1.2.2.1 8) ∧ rx u 8 ((u.1.2.2.1 8) - 1) = a ∧ ry9 u 8 ((u.1.2.2.1 8) - 1) = b) ∨ (z_3 = 0 ∧ ¬ (0 < (u.1.2.2.1 8) ∧ rx u 8 ((u.1.2.2.1 8) - 1) = a ∧ ry9 u 8 ((u.1.2.2.1 8) - 1) = b)) := h_3
  have hrx : 0 < u.1.2.2.1 8 → rx u 8 (u.1.2.2.1 8 - 1) = u.1.1 8 (u.1.2.2.1 8 - 1).toNat ∧ ry9 u 8 (u.1.2.2.1 8 - 1) = u.1.2.1 8 (u.1.2.2.1 8 - 1).toNat := fun h => ⟨if_pos (by rw [rl8]; omega), if_pos (by rw [rl8]; omega)⟩
  refine j_if_eq SS (tgt := 10) (x := z_3) dX3_push_6 (by decide) (by omega) (fun c_6 => ?_) (fun c_6 => ?_)
  · skip
    have L_10 : ∀ (nn : Nat) (n1 : Int) (H : Heap) (locs : List Loc) (hP : va_P D.1 j_cl (cW D q (sC u 8 n1)) H) (hS : va_S A st.heap H locs) (ls : Array Slot) (hl : lv_has ls 4 [(0, .ref (q 2)), (1, .int (J a)), (2, .int (J b)), (3, .int (J t))]) (i10_0 : 0 ≤ n1 ∧ n1 ≤ u.1.2.2.1 8) (i10_1 : 1 ≤ u.1.2.2.1 8 - t → 1 ≤ n1 - t) (i10_2 : ∀ j : Nat, n1 ≤ j → (j : Int) < u.1.2.2.1 8 → cx (u.1.1 8 j - u.1.1 8 (j - 1)) (u.1.2.1 8 j - u.1.2.1 8 (j - 1)) (a - u.1.1 8 (j - 1)) (b - u.1.2.1 8 (j - 1)) ≤ 0), n1.toNat < nn → W pr l en (headSpec (jw yX3_push cX3_push 4 none) (jr 2 46)).room st mi (([.ref (q 2), .int (J a), .int (J b), .int (J t)] : List Value).toArray) below meth co H locs 0 0 (MQ below (jWv (fun u' => ∃ f : Nat → Int, ∃ g : Nat → Int, ∃ n : Int, u' = (sY (sX (sC u 8 n) 8 f) 8 g) ∧ (((0 ≤ n ∧ n ≤ 323) ∧ RV 80 f g) ∧ PU (u.1.1 8) (u.1.2.1 8) f g (u.1.2.2.1 8) t a b n)) (fun u' H => va_P D.1 j_cl (cW D q u') H) A) (([.ref (q 2), .int (J a), .int (J b), .int (J t)] : List Value).toArray) st 0 0 A) (F0 mi 10 ls []) := by
      intro nn
      induction nn with
      | zero => intros; omega
      | succ nn ih_10 =>
        intro  n1 H locs hP hS ls hl i10_0 i10_1 i10_2 hm
        have hR : RB 80 (sC u 8 n1) 8 := ⟨by show 0 ≤ n1 ∧ n1 ≤ (rl 8 : Int); rw [rl8]; omega, p0.2⟩
        refine lv_aload_n SS.1 SS.2.1 dX3_push_10 rfl (lv_at hl 0 rfl) ?_
        refine j_get SS hG hP 2 (v := .ref (q (9 + 5 * 8))) (C := RX3) (T := TX3) (N := 3) rfl rfl inX3 2 (by decide) (ref := "GridPolygons$Hull") kw_179 rfl rfl dX3_push_11 ?_
        refine j_getS SS hG hP (9 + 5 * 8) (v := .int (J n1)) (C := RX7) (T := TX7) (N := 3) (cw_ring (by omega)) rfl inX7 2 (by decide) (ref := "GridPolygons$Ring") kw_141 kw_132 rfl dX3_push_14 ?_
        refine lv_iload_n SS.1 SS.2.1 dX3_push_17 rfl (lv_at hl 3 rfl) ?_
        refine j_isub SS (x := n1) (y := t) dX3_push_18 ?_
        refine j_iconst SS dX3_push_19 ?_
        refine j_icmp_lt SS (tgt := 48) (x := (n1 - t)) (y := 2) dX3_push_20 (by decide) (by omega) (by decide) (fun c_20 => ?_) (fun c_20 => ?_)
        · skip
          refine lv_aload_n SS.1 SS.2.1 dX3_push_48 rfl (lv_at hl 0 rfl) ?_
          refine j_get SS hG hP 2 (v := .ref (q (9 + 5 * 8))) (C := RX3) (T := TX3) (N := 3) rfl rfl inX3 2 (by decide) (ref := "GridPolygons$Hull") kw_179 rfl rfl dX3_push_49 ?_
          refine lv_iload_n SS.1 SS.2.1 dX3_push_52 rfl (lv_at hl 1 rfl) ?_
          refine lv_iload_n SS.1 SS.2.1 dX3_push_53 rfl (lv_at hl 2 rfl) ?_
          refine j_uWv SS (As := [.int (J a), .int (J b)]) (rest := []) (c_X8_append l D q (sC u 8 n1) A (cW_D hD) 8 (by omega) a b (show 0 ≤ n1 ∧ n1 ≤ rl 8 from (by omega))) mu_7_append kw_453 hG hP hP (ci := 7) (q0 := (9 + 5 * 8)) rfl (cw_ring (by omega)) rfl hS (fun _ h => h) rfl hl.1 ⟨⟨Nat.le_of_ble_eq_true rfl, Nat.le_of_ble_eq_true rfl⟩, Nat.le_of_ble_eq_true rfl, Nat.le_refl _, Nat.le_refl _⟩ rfl dX3_push_54 (fun u54 H locs h_54 hP _ hS => ?_)
          obtain ⟨f_54, g_54, n_54, rfl, h_54⟩ := h_54
          have hP : va_P D.1 j_cl (cW D q (sY (sX (sC u 8 n_54) 8 f_54) 8 g_54)) H := hP
          have h_54 : (n1 < rl 8 ∧ f_54 = upI ((u.1.1 8)) (n1).toNat a ∧ g_54 = upI ((u.1.2.1 8)) (n1).toNat b ∧ n_54 = n1 + 1) ∨ (rl 8 ≤ n1 ∧ f_54 = (u.1.1 8) ∧ g_54 = (u.1.2.1 8) ∧ n_54 = n1) := h_54
          exact W.vret SS.1 SS.2.1 hr (fun t0 ht hW => ⟨⟨(sY (sX (sC u 8 n_54) 8 f_54) 8 g_54), rfl, (⟨f_54, g_54, n_54, rfl, ⟨ap_b (n0 := n1) (K := 80) p0.2 (m := 323) (by omega) p1 p2 (by rw [rl8] at h_54; exact h_54), Or.inr ⟨by rcases h_3 with q | q; omega; intro w; exact q.2 ⟨w.1, by rw [(hrx w.1).1]; exact w.2.1, by rw [(hrx w.1).2]; exact w.2.2⟩, n1, ⟨by omega, by omega, i10_1⟩, by rw [rl8] at h_54; omega, by rw [rl8] at h_54; rcases h_54 with q | q; exact q.2.1; omega, by rw [rl8] at h_54; rcases h_54 with q | q; exact q.2.2.1; omega, i10_2, by first | exact Or.inl (by omega) | (refine Or.inr ?_; rw [show n1.toNat - 1 = (n1 - 1).toNat by omega, show n1.toNat - 2 = (n1 - 2).toNat by omega, cx_sh]; unfold cx; rcases h_26 with q | q; (have q2 := q.2; rw [ex1, ex2, ey1, ey2] at q2; exact q2); omega)⟩⟩⟩), by show va_P D.1 j_cl (cW D q (sY (sX (sC u 8 n_54) 8 f_54) 8 g_54)) t0.heap; rw [ht]; first | exact hP | (simp only [sC_id, sX_id, sY_id, sH_id, sT_id, sV_id]; exact hP)⟩, hS.F ht⟩) hS.2.2 dX3_push_57 hlk
        · skip
          refine lv_aload_n SS.1 SS.2.1 dX3_push_23 rfl (lv_at hl 0 rfl) ?_
          refine lv_iload_n SS.1 SS.2.1 dX3_push_24 rfl (lv_at hl 1 rfl) ?_
          refine lv_iload_n SS.1 SS.2.1 dX3_push_25 rfl (lv_at hl 2 rfl) ?_
          have ex1 : rx (sC u 8 n1) 8 (n1 - 1) = u.1.1 8 (n1 - 1).toNat := if_pos (by rw [rl8]; omega)
          have ex2 : rx (sC u 8 n1) 8 (n1 - 1 - 1) = u.1.1 8 (n1 - 2).toNat := by rw [show n1 - 1 - 1 = n1 - 2 by omega]; exact if_pos (by rw [rl8]; omega)
          have ey1 : ry9 (sC u 8 n1) 8 (n1 - 1) = u.1.2.1 8 (n1 - 1).toNat := if_pos (by rw [rl8]; omega)
          have ey2 : ry9 (sC u 8 n1) 8 (n1 - 1 - 1) = u.1.2.1 8 (n1 - 2).toNat := by rw [show n1 - 1 - 1 = n1 - 2 by omega]; exact if_pos (by rw [rl8]; omega)
          refine j_vRi SS (As := [.int (J a), .int (J b)]) (rest := []) (c_X3_turnsLeft l D q (sC u 8 n1)  a b (show RB 80 (sC u 8 n1) 8 from (hR)) (show -80 ≤ a ∧ a ≤ 80 from (by omega)) (show -80 ≤ b ∧ b ≤ 80 from (by omega))) mf_X3_turnsLeft kw_449 hG hP hP (ci := 3) (q0 := 2) rfl rfl rfl rfl hl.1 ⟨⟨Nat.le_of_ble_eq_true rfl, Nat.le_of_ble_eq_true rfl⟩, Nat.le_of_ble_eq_true rfl, Nat.le_refl _, Nat.le_refl _⟩ rfl dX3_push_26 (fun z_26 h_26 => ?_)
          have h_26 : (z_26 = 1 ∧ 0 < (rx (sC u 8 n1) 8 (n1 - 1) - rx (sC u 8 n1) 8 (n1 - 1 - 1)) * (b - ry9 (sC u 8 n1) 8 (n1 - 1)) - (ry9 (sC u 8 n1) 8 (n1 - 1) - ry9 (sC u 8 n1) 8 (n1 - 1 - 1)) * (a - rx (sC u 8 n1) 8 (n1 - 1))) ∨ (z_26 = 0 ∧ (rx (sC u 8 n1) 8 (n1 - 1) - rx (sC u 8 n1) 8 (n1 - 1 - 1)) * (b - ry9 (sC u 8 n1) 8 (n1 - 1)) - (ry9 (sC u 8 n1) 8 (n1 - 1) - ry9 (sC u 8 n1) 8 (n1 - 1 - 1)) * (a - rx (sC u 8 n1) 8 (n1 - 1)) ≤ 0) := h_26
          refine j_if_ne SS (tgt := 48) (x := z_26) dX3_push_29 (by decide) (by omega) (fun c_29 => ?_) (fun c_29 => ?_)
          · skip
            refine lv_aload_n SS.1 SS.2.1 dX3_push_48 rfl (lv_at hl 0 rfl) ?_
            refine j_get SS hG hP 2 (v := .ref (q (9 + 5 * 8))) (C := RX3) (T := TX3) (N := 3) rfl rfl inX3 2 (by decide) (ref := "GridPolygons$Hull") kw_179 rfl rfl dX3_push_49 ?_
            refine lv_iload_n SS.1 SS.2.1 dX3_push_52 rfl (lv_at hl 1 rfl) ?_
            refine lv_iload_n SS.1 SS.2.1 dX3_push_53 rfl (lv_at hl 2 rfl) ?_
            refine j_uWv SS (As := [.int (J a), .int (J b)]) (rest := []) (c_X8_append l D q (sC u 8 n1) A (cW_D hD) 8 (by omega) a b (show 0 ≤ n1 ∧ n1 ≤ rl 8 from (by omega))) mu_7_append kw_453 hG hP hP (ci := 7) (q0 := (9 + 5 * 8)) rfl (cw_ring (by omega)) rfl hS (fun _ h => h) rfl hl.1 ⟨⟨Nat.le_of_ble_eq_true rfl, Nat.le_of_ble_eq_true rfl⟩, Nat.le_of_ble_eq_true rfl, Nat.le_refl _, Nat.le_refl _⟩ rfl dX3_push_54 (fun u54 H locs h_54 hP _ hS => ?_)
            obtain ⟨f_54, g_54, n_54, rfl, h_54⟩ := h_54
            have hP : va_P D.1 j_cl (cW D q (sY (sX (sC u 8 n_54) 8 f_54) 8 g_54)) H := hP
            have h_54 : (n1 < rl 8 ∧ f_54 = upI ((u.1.1 8)) (n1).toNat a ∧ g_54 = upI ((u.1.2.1 8)) (n1).toNat b ∧ n_54 = n1 + 1) ∨ (rl 8 ≤ n1 ∧ f_54 = (u.1.1 8) ∧ g_54 = (u.1.2.1 8) ∧ n_54 = n1) := h_54
            exact W.vret SS.1 SS.2.1 hr (fun t0 ht hW => ⟨⟨(sY (sX (sC u 8 n_54) 8 f_54) 8 g_54), rfl, (⟨f_54, g_54, n_54, rfl, ⟨ap_b (n0 := n1) (K := 80) p0.2 (m := 323) (by omega) p1 p2 (by rw [rl8] at h_54; exact h_54), Or.inr ⟨by rcases h_3 with q | q; omega; intro w; exact q.2 ⟨w.1, by rw [(hrx w.1).1]; exact w.2.1, by rw [(hrx w.1).2]; exact w.2.2⟩, n1, ⟨by omega, by omega, i10_1⟩, by rw [rl8] at h_54; omega, by rw [rl8] at h_54; rcases h_54 with q | q; exact q.2.1; omega, by rw [rl8] at h_54; rcases h_54 with q | q; exact q.2.2.1; omega, i10_2, by first | exact Or.inl (by omega) | (refine Or.inr ?_; rw [show n1.toNat - 1 = (n1 - 1).toNat by omega, show n1.toNat - 2 = (n1 - 2).toNat by omega, cx_sh]; unfold cx; rcases h_26 with q | q; (have q2 := q.2; rw [ex1, ex2, ey1, ey2] at q2; exact q2); omega)⟩⟩⟩), by show va_P D.1 j_cl (cW D q (sY (sX (sC u 8 n_54) 8 f_54) 8 g_54)) t0.heap; rw [ht]; first | exact hP | (simp only [sC_id, sX_id, sY_id, sH_id, sT_id, sV_id]; exact hP)⟩, hS.F ht⟩) hS.2.2 dX3_push_57 hlk
          · skip
            refine lv_aload_n SS.1 SS.2.1 dX3_push_32 rfl (lv_at hl 0 rfl) ?_
            refine j_get SS hG hP 2 (v := .ref (q (9 + 5 * 8))) (C := RX3) (T := TX3) (N := 3) rfl rfl inX3 2 (by decide) (ref := "GridPolygons$Hull") kw_179 rfl rfl dX3_push_33 ?_
            refine lv_dup SS.1 SS.2.1 dX3_push_36 rfl ?_
            refine j_getS SS hG hP (9 + 5 * 8) (v := .int (J n1)) (C := RX7) (T := TX7) (N := 3) (cw_ring (by omega)) rfl inX7 2 (by decide) (ref := "GridPolygons$Ring") kw_141 kw_132 rfl dX3_push_37 ?_
            refine j_iconst SS dX3_push_40 ?_
            refine j_isub SS (x := n1) (y := 1) dX3_push_41 ?_
            refine j_putS SS hG hP (cW_D hD) hS (9 + 5 * 8) (v := .int (J (n1 - 1))) (ty := .int) (C := RX7) (T := TX7) (N := 3) (cw_ring (by omega)) rfl inX7 tyX7 tyX7_ok nmX7 2 (by decide) (ref := "GridPolygons$Ring") kw_141 kw_132 rfl (by decide +kernel) rfl rfl (Nat.le_of_ble_eq_true rfl) dX3_push_42 (ws' := (cW D q (sC u 8 (n1 - 1)))) (cs_ring (by omega)) (fun H locs hP hS => ?_)
            refine lv_goto (tgt := 10) SS.1 SS.2.1 dX3_push_45 (by decide) ?_
            exact ih_10 (n1 - 1) _ _ hP hS ls (lv_sub hl [0, 1, 2, 3] rfl) (by omega) (by omega) (fun j h1 h2 => by by_cases e : (j : Int) = n1 - 1; (rw [show j - 1 = (n1 - 2).toNat by omega, show j = (n1 - 1).toNat by omega, cx_sh]; unfold cx; rcases h_26 with q | q; omega; have q2 := q.2; rw [ex1, ex2, ey1, ey2] at q2; exact q2); exact i10_2 j (by omega) h2) (by omega)
    exact L_10 ((u.1.2.2.1 8).toNat + 1) (u.1.2.2.1 8) _ _ hP hS ls (lv_sub hl [0, 1, 2, 3] rfl) (by omega) (by omega) (fun j h1 h2 => by omega) (Nat.lt_succ_self _)
  · skip
    exact W.vret SS.1 SS.2.1 hr (fun t0 ht hW => ⟨⟨(sY (sX (sC u 8 (u.1.2.2.1 8)) 8 (u.1.1 8)) 8 (u.1.2.1 8)), rfl, (⟨(u.1.1 8), (u.1.2.1 8), (u.1.2.2.1 8), rfl, ⟨⟨hc, p0.2⟩, Or.inl ⟨by rcases h_3 with q | q; exact ⟨q.2.1, by rw [← (hrx q.2.1).1]; exact q.2.2.1, by rw [← (hrx q.2.1).2]; exact q.2.2.2⟩; omega, rfl, rfl, rfl⟩⟩⟩), by show va_P D.1 j_cl (cW D q (sY (sX (sC u 8 (u.1.2.2.1 8)) 8 (u.1.1 8)) 8 (u.1.2.1 8))) t0.heap; rw [ht]; first | exact hP | (simp only [sC_id, sX_id, sY_id, sH_id, sT_id, sV_id]; exact hP)⟩, hS.F ht⟩) hS.2.2 dX3_push_9 hlk
