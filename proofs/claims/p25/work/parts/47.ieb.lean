
set_option maxHeartbeats 4000000 in
set_option maxRecDepth 100000 in
theorem c_X3_close2 (l : Launch) (D : JD) (q : Nat → Nat) (u : CS) (A : Nat → Prop) (hD : va_D A (cW D q u)) (p0 : RB 80 u 8) (p1 : HU_ (u.2.1 0) (u.2.1 1)) : Met l yX3_close (jw yX3_close cX3_close 3 none) (jr 3 69) (jP [.ref (q 2)] D (fun H => va_P D.1 j_cl (cW D q u) H)) (jWv (fun u' => ∃ f : Nat → Int, ∃ g : Nat → Int, ∃ n : Int, u' = (sY (sX (sC u 8 n) 8 f) 8 g) ∧ ((0 ≤ n ∧ n ≤ 323) ∧ RV 80 f g ∧ ∀ S : Int → Int → Prop, HUL S (u.2.1 0) (u.2.1 1) → HS S n f g)) (fun u' H => va_P D.1 j_cl (cW D q u') H) A) 0 0 A := by
  refine Met.ofW (cc := cX3_close) (maxL := 3) (ret := none) (by decide) rfl ?_
  intro pr en st mi args below meth co s₁ B hml hv
  obtain ⟨rfl, hG, hP⟩ := hv
  have hr := B.returns
  have hlk := B.notSynchronized
  have SS : jS pr mi co cX3_close 3 st _ RX3 := ⟨B.exec, B.bytes, hml, findClass_of_methodNamed B.named, fun w hw => atoms_spec (ws := (jw yX3_close cX3_close 3 none)) B.pre w (List.mem_cons_of_mem _ hw)⟩
  have hl := lv_entry ([.ref (q 2)]) (n := 3) (Nat.le_of_ble_eq_true rfl)
  rw [lg_entry_eq]
  generalize (lg_sl ([.ref (q 2)]) ++ List.replicate (3 - (lg_sl ([.ref (q 2)])).length) Slot.unset).toArray = ls at hl ⊢
  have hl : lv_has ls 3 [(0, .ref (q 2))] := hl
  have hS : va_S A st.heap st.heap [] := va_S.rf
  have hR : RB 80 u 8 := p0
  have hc := p0.1
  have hr8 := rl8
  rw [rl8] at hc
  refine lv_aload_n SS.1 SS.2.1 dX3_close_0 rfl (lv_at hl 0 rfl) ?_
  refine j_get SS hG hP 2 (v := .ref (q (9 + 5 * 8))) (C := RX3) (T := TX3) (N := 3) rfl rfl inX3 2 (by decide) (ref := "GridPolygons$Hull") kw_179 rfl rfl dX3_close_1 ?_
  refine j_iconst SS dX3_close_4 ?_
  refine j_putS SS hG hP (cW_D hD) hS (9 + 5 * 8) (v := .int (J 0)) (ty := .int) (C := RX7) (T := TX7) (N := 3) (cw_ring (by omega)) rfl inX7 tyX7 tyX7_ok nmX7 2 (by decide) (ref := "GridPolygons$Ring") kw_141 kw_132 rfl (by decide +kernel) rfl rfl (Nat.le_of_ble_eq_true rfl) dX3_close_5 (ws' := (cW D q (sC u 8 0))) (cs_ring (by omega)) (fun H locs hP hS => ?_)
  refine j_iconst SS dX3_close_8 ?_
  refine lv_istore_n (lv' := [(1, .int (J 0)), (0, .ref (q 2))]) SS.1 SS.2.1 dX3_close_9 rfl hl (by decide) rfl (fun ls hl => ?_)
  have L_10 : ∀ (nn : Nat) (i : Int) (f1 : Nat → Int) (g1 : Nat → Int) (n1 : Int) (H : Heap) (locs : List Loc) (hP : va_P D.1 j_cl (cW D q (sY (sX (sC u 8 n1) 8 f1) 8 g1)) H) (hS : va_S A st.heap H locs) (ls : Array Slot) (hl : lv_has ls 3 [(0, .ref (q 2)), (1, .int (J i))]) (i10_0 : 0 ≤ i ∧ i ≤ 161) (i10_1 : 0 ≤ n1 ∧ n1 ≤ i) (i10_2 : RV 80 f1 g1) (i10_3 : CLW (u.2.1 0) (u.2.1 1) f1 g1 i n1), ((161 : Int) - i).toNat < nn → W pr l en (headSpec (jw yX3_close cX3_close 3 none) (jr 3 69)).room st mi (([.ref (q 2)] : List Value).toArray) below meth co H locs 0 0 (MQ below (jWv (fun u' => ∃ f : Nat → Int, ∃ g : Nat → Int, ∃ n : Int, u' = (sY (sX (sC u 8 n) 8 f) 8 g) ∧ ((0 ≤ n ∧ n ≤ 323) ∧ RV 80 f g ∧ ∀ S : Int → Int → Prop, HUL S (u.2.1 0) (u.2.1 1) → HS S n f g)) (fun u' H => va_P D.1 j_cl (cW D q u') H) A) (([.ref (q 2)] : List Value).toArray) st 0 0 A) (F0 mi 10 ls []) := by
    intro nn
    induction nn with
    | zero => intros; omega
    | succ nn ih_10 =>
      intro i f1 g1 n1 H locs hP hS ls hl i10_0 i10_1 i10_2 i10_3 hm
      have hR : RB 80 (sY (sX (sC u 8 n1) 8 f1) 8 g1) 8 := ⟨by show 0 ≤ n1 ∧ n1 ≤ (rl 8 : Int); rw [rl8]; omega, i10_2⟩
      have qh := p1 i.toNat
      refine lv_iload_n SS.1 SS.2.1 dX3_close_10 rfl (lv_at hl 1 rfl) ?_
      refine j_sipush SS dX3_close_11 (by decide +kernel) ?_
      refine j_icmp_ge SS (tgt := 53) (x := i) (y := 161) dX3_close_14 (by decide) (by omega) (by decide) (fun c_14 => ?_) (fun c_14 => ?_)
      · skip
        refine lv_aload_n SS.1 SS.2.1 dX3_close_53 rfl (lv_at hl 0 rfl) ?_
        refine j_get SS hG hP 2 (v := .ref (q (9 + 5 * 8))) (C := RX3) (T := TX3) (N := 3) rfl rfl inX3 2 (by decide) (ref := "GridPolygons$Hull") kw_179 rfl rfl dX3_close_54 ?_
        refine j_getS SS hG hP (9 + 5 * 8) (v := .int (J n1)) (C := RX7) (T := TX7) (N := 3) (cw_ring (by omega)) rfl inX7 2 (by decide) (ref := "GridPolygons$Ring") kw_141 kw_132 rfl dX3_close_57 ?_
        refine j_iconst SS dX3_close_60 ?_
        refine j_isub SS (x := n1) (y := 1) dX3_close_61 ?_
        refine lv_istore_n (lv' := [(1, .int (J (n1 - 1))), (0, .ref (q 2))]) SS.1 SS.2.1 dX3_close_62 rfl hl (by decide) rfl (fun ls hl => ?_)
        have ei : i = 161 := by omega
        rw [ei] at i10_3
        refine j_sipush SS dX3_close_63 (by decide +kernel) ?_
        refine lv_istore_n (lv' := [(2, .int (J 160)), (1, .int (J (n1 - 1))), (0, .ref (q 2))]) SS.1 SS.2.1 dX3_close_66 rfl hl (by decide) rfl (fun ls hl => ?_)
        have L_67 : ∀ (nn : Nat) (j : Int) (f2 : Nat → Int) (g2 : Nat → Int) (n2 : Int) (H : Heap) (locs : List Loc) (hP : va_P D.1 j_cl (cW D q (sY (sX (sC u 8 n2) 8 f2) 8 g2)) H) (hS : va_S A st.heap H locs) (ls : Array Slot) (hl : lv_has ls 3 [(0, .ref (q 2)), (1, .int (J (n1 - 1))), (2, .int (J j))]) (i67_0 : -1 ≤ j ∧ j ≤ 160) (i67_1 : 0 ≤ n2 ∧ n2 ≤ n1 + 160 - j) (i67_2 : RV 80 f2 g2) (i67_3 : 0 < n1 → UP (u.2.1 0) (u.2.1 1) f1 g1 (n1 - 1).toNat j f2 g2 n2.toNat) (i67_4 : n1 = 0 → n2 = 0), (j + 1).toNat < nn → W pr l en (headSpec (jw yX3_close cX3_close 3 none) (jr 3 69)).room st mi (([.ref (q 2)] : List Value).toArray) below meth co H locs 0 0 (MQ below (jWv (fun u' => ∃ f : Nat → Int, ∃ g : Nat → Int, ∃ n : Int, u' = (sY (sX (sC u 8 n) 8 f) 8 g) ∧ ((0 ≤ n ∧ n ≤ 323) ∧ RV 80 f g ∧ ∀ S : Int → Int → Prop, HUL S (u.2.1 0) (u.2.1 1) → HS S n f g)) (fun u' H => va_P D.1 j_cl (cW D q u') H) A) (([.ref (q 2)] : List Value).toArray) st 0 0 A) (F0 mi 67 ls []) := by
          intro nn
          induction nn with
          | zero => intros; omega
          | succ nn ih_67 =>
            intro j f2 g2 n2 H locs hP hS ls hl i67_0 i67_1 i67_2 i67_3 i67_4 hm
            have hR : RB 80 (sY (sX (sC u 8 n2) 8 f2) 8 g2) 8 := ⟨by show 0 ≤ n2 ∧ n2 ≤ (rl 8 : Int); rw [rl8]; omega, i67_2⟩
            have qh := p1 j.toNat
            refine lv_iload_n SS.1 SS.2.1 dX3_close_67 rfl (lv_at hl 2 rfl) ?_
            refine j_if_lt SS (tgt := 107) (x := j) dX3_close_68 (by decide) (by omega) (fun c_68 => ?_) (fun c_68 => ?_)
            · skip
              refine lv_aload_n SS.1 SS.2.1 dX3_close_107 rfl (lv_at hl 0 rfl) ?_
              refine j_get SS hG hP 2 (v := .ref (q (9 + 5 * 8))) (C := RX3) (T := TX3) (N := 3) rfl rfl inX3 2 (by decide) (ref := "GridPolygons$Hull") kw_179 rfl rfl dX3_close_108 ?_
              refine j_getS SS hG hP (9 + 5 * 8) (v := .int (J n2)) (C := RX7) (T := TX7) (N := 3) (cw_ring (by omega)) rfl inX7 2 (by decide) (ref := "GridPolygons$Ring") kw_141 kw_132 rfl dX3_close_111 ?_
              refine j_iconst SS dX3_close_114 ?_
              refine j_icmp_le SS (tgt := 154) (x := n2) (y := 1) dX3_close_115 (by decide) (by omega) (by decide) (fun c_115 => ?_) (fun c_115 => ?_)
              · skip
                exact W.vret SS.1 SS.2.1 hr (fun t0 ht hW => ⟨⟨(sY (sX (sC u 8 n2) 8 f2) 8 g2), rfl, (⟨f2, g2, n2, rfl, ⟨by omega, i67_2, UP_e i10_3 i67_3 (by omega) (by omega) i67_4 (by first | exact Or.inl ⟨by omega, Or.inl (by omega)⟩ | (rcases h_135 with q | q; exact Or.inr ⟨by omega, by omega, q.2.2.1.symm, q.2.2.2.symm⟩; omega) | (rcases h_135 with q | q; omega; refine Or.inl ⟨by omega, ?_⟩; have q2 := q.2; by_cases w1 : f2 0 = f2 (n2 - 1).toNat; (by_cases w2 : g2 0 = g2 (n2 - 1).toNat; exact absurd ⟨by omega, w1.symm, w2.symm⟩ q2; exact Or.inr (Or.inr w2)); exact Or.inr (Or.inl w1)))⟩⟩), by show va_P D.1 j_cl (cW D q (sY (sX (sC u 8 n2) 8 f2) 8 g2)) t0.heap; rw [ht]; first | exact hP | (simp only [sC_id, sX_id, sY_id, sH_id, sT_id, sV_id]; exact hP)⟩, hS.F ht⟩) hS.2.2 dX3_close_154 hlk
              · skip
                refine lv_aload_n SS.1 SS.2.1 dX3_close_118 rfl (lv_at hl 0 rfl) ?_
                refine lv_aload_n SS.1 SS.2.1 dX3_close_119 rfl (lv_at hl 0 rfl) ?_
                refine j_get SS hG hP 2 (v := .ref (q (9 + 5 * 8))) (C := RX3) (T := TX3) (N := 3) rfl rfl inX3 2 (by decide) (ref := "GridPolygons$Hull") kw_179 rfl rfl dX3_close_120 ?_
                refine j_iconst SS dX3_close_123 ?_
                refine j_uRi SS (As := [.int (J 0)]) (rest := [.ref (q 2)]) (c_X8_x l D q (sY (sX (sC u 8 n2) 8 f2) 8 g2) 8 (by omega) 0 (show -2147483648 ≤ (0 : Int) ∧ (0 : Int) ≤ 2147483647 from (by omega))) mu_7_x kw_437 hG hP hP (ci := 7) (q0 := (9 + 5 * 8)) rfl (cw_ring (by omega)) rfl rfl hl.1 ⟨⟨Nat.le_of_ble_eq_true rfl, Nat.le_of_ble_eq_true rfl⟩, Nat.le_of_ble_eq_true rfl, Nat.le_refl _, Nat.le_refl _⟩ rfl dX3_close_124 (fun z_124 h_124 => ?_)
                have h_124 : z_124 = rx (sY (sX (sC u 8 n2) 8 f2) 8 g2) 8 (0 : Int) ∧ ∀ K : Int, 0 ≤ K → RB K (sY (sX (sC u 8 n2) 8 f2) 8 g2) 8 → -K ≤ z_124 ∧ z_124 ≤ K := h_124
                have hb_124 := h_124.2 80 (by omega) (hR)
                refine lv_aload_n SS.1 SS.2.1 dX3_close_127 rfl (lv_at hl 0 rfl) ?_
                refine j_get SS hG hP 2 (v := .ref (q (9 + 5 * 8))) (C := RX3) (T := TX3) (N := 3) rfl rfl inX3 2 (by decide) (ref := "GridPolygons$Hull") kw_179 rfl rfl dX3_close_128 ?_
                refine j_iconst SS dX3_close_131 ?_
                refine j_uRi SS (As := [.int (J 0)]) (rest := [.int (J z_124), .ref (q 2)]) (c_X8_y l D q (sY (sX (sC u 8 n2) 8 f2) 8 g2) 8 (by omega) 0 (show -2147483648 ≤ (0 : Int) ∧ (0 : Int) ≤ 2147483647 from (by omega))) mu_7_y kw_443 hG hP hP (ci := 7) (q0 := (9 + 5 * 8)) rfl (cw_ring (by omega)) rfl rfl hl.1 ⟨⟨Nat.le_of_ble_eq_true rfl, Nat.le_of_ble_eq_true rfl⟩, Nat.le_of_ble_eq_true rfl, Nat.le_refl _, Nat.le_refl _⟩ rfl dX3_close_132 (fun z_132 h_132 => ?_)
                have h_132 : z_132 = ry9 (sY (sX (sC u 8 n2) 8 f2) 8 g2) 8 (0 : Int) ∧ ∀ K : Int, 0 ≤ K → RB K (sY (sX (sC u 8 n2) 8 f2) 8 g2) 8 → -K ≤ z_132 ∧ z_132 ≤ K := h_132
                have hb_132 := h_132.2 80 (by omega) (hR)
                have hx0 : z_124 = f2 0 := by rw [h_124.1]; exact if_pos (by rw [rl8]; omega)
                have hy0 : z_132 = g2 0 := by rw [h_132.1]; exact if_pos (by rw [rl8]; omega)
                refine j_vRi SS (As := [.int (J z_124), .int (J z_132)]) (rest := []) (c_X3_isLast l D q (sY (sX (sC u 8 n2) 8 f2) 8 g2)  z_124 z_132 (show RB 80 (sY (sX (sC u 8 n2) 8 f2) 8 g2) 8 from (hR)) (show -2147483648 ≤ z_124 ∧ z_124 ≤ 2147483647 from (by omega)) (show -2147483648 ≤ z_132 ∧ z_132 ≤ 2147483647 from (by omega))) mf_X3_isLast kw_433 hG hP hP (ci := 3) (q0 := 2) rfl rfl rfl rfl hl.1 ⟨⟨Nat.le_of_ble_eq_true rfl, Nat.le_of_ble_eq_true rfl⟩, Nat.le_of_ble_eq_true rfl, Nat.le_refl _, Nat.le_refl _⟩ rfl dX3_close_135 (fun z_135 h_135 => ?_)
                have h_135 : (z_135 = 1 ∧ 0 < n2 ∧ rx (sY (sX (sC u 8 n2) 8 f2) 8 g2) 8 (n2 - 1) = z_124 ∧ ry9 (sY (sX (sC u 8 n2) 8 f2) 8 g2) 8 (n2 - 1) = z_132) ∨ (z_135 = 0 ∧ ¬ (0 < n2 ∧ rx (sY (sX (sC u 8 n2) 8 f2) 8 g2) 8 (n2 - 1) = z_124 ∧ ry9 (sY (sX (sC u 8 n2) 8 f2) 8 g2) 8 (n2 - 1) = z_132)) := h_135
                have hrx : rx (sY (sX (sC u 8 n2) 8 f2) 8 g2) 8 (n2 - 1) = f2 (n2 - 1).toNat := if_pos (by rw [rl8]; omega)
                have hry : ry9 (sY (sX (sC u 8 n2) 8 f2) 8 g2) 8 (n2 - 1) = g2 (n2 - 1).toNat := if_pos (by rw [rl8]; omega)
                rw [hrx, hry, hx0, hy0] at h_135
                refine j_if_eq SS (tgt := 154) (x := z_135) dX3_close_138 (by decide) (by omega) (fun c_138 => ?_) (fun c_138 => ?_)
                · skip
                  exact W.vret SS.1 SS.2.1 hr (fun t0 ht hW => ⟨⟨(sY (sX (sC u 8 n2) 8 f2) 8 g2), rfl, (⟨f2, g2, n2, rfl, ⟨by omega, i67_2, UP_e i10_3 i67_3 (by omega) (by omega) i67_4 (by first | exact Or.inl ⟨by omega, Or.inl (by omega)⟩ | (rcases h_135 with q | q; exact Or.inr ⟨by omega, by omega, q.2.2.1.symm, q.2.2.2.symm⟩; omega) | (rcases h_135 with q | q; omega; refine Or.inl ⟨by omega, ?_⟩; have q2 := q.2; by_cases w1 : f2 0 = f2 (n2 - 1).toNat; (by_cases w2 : g2 0 = g2 (n2 - 1).toNat; exact absurd ⟨by omega, w1.symm, w2.symm⟩ q2; exact Or.inr (Or.inr w2)); exact Or.inr (Or.inl w1)))⟩⟩), by show va_P D.1 j_cl (cW D q (sY (sX (sC u 8 n2) 8 f2) 8 g2)) t0.heap; rw [ht]; first | exact hP | (simp only [sC_id, sX_id, sY_id, sH_id, sT_id, sV_id]; exact hP)⟩, hS.F ht⟩) hS.2.2 dX3_close_154 hlk
                · skip
                  refine lv_aload_n SS.1 SS.2.1 dX3_close_141 rfl (lv_at hl 0 rfl) ?_
                  refine j_get SS hG hP 2 (v := .ref (q (9 + 5 * 8))) (C := RX3) (T := TX3) (N := 3) rfl rfl inX3 2 (by decide) (ref := "GridPolygons$Hull") kw_179 rfl rfl dX3_close_142 ?_
                  refine lv_dup SS.1 SS.2.1 dX3_close_145 rfl ?_
                  refine j_getS SS hG hP (9 + 5 * 8) (v := .int (J n2)) (C := RX7) (T := TX7) (N := 3) (cw_ring (by omega)) rfl inX7 2 (by decide) (ref := "GridPolygons$Ring") kw_141 kw_132 rfl dX3_close_146 ?_
                  refine j_iconst SS dX3_close_149 ?_
                  refine j_isub SS (x := n2) (y := 1) dX3_close_150 ?_
                  refine j_putS SS hG hP (cW_D hD) hS (9 + 5 * 8) (v := .int (J (n2 - 1))) (ty := .int) (C := RX7) (T := TX7) (N := 3) (cw_ring (by omega)) rfl inX7 tyX7 tyX7_ok nmX7 2 (by decide) (ref := "GridPolygons$Ring") kw_141 kw_132 rfl (by decide +kernel) rfl rfl (Nat.le_of_ble_eq_true rfl) dX3_close_151 (ws' := (cW D q (sY (sX (sC u 8 (n2 - 1)) 8 f2) 8 g2))) (cs_ring (by omega)) (fun H locs hP hS => ?_)
                  exact W.vret SS.1 SS.2.1 hr (fun t0 ht hW => ⟨⟨(sY (sX (sC u 8 (n2 - 1)) 8 f2) 8 g2), rfl, (⟨f2, g2, (n2 - 1), rfl, ⟨by omega, i67_2, UP_e i10_3 i67_3 (by omega) (by omega) i67_4 (by first | exact Or.inl ⟨by omega, Or.inl (by omega)⟩ | (rcases h_135 with q | q; exact Or.inr ⟨by omega, by omega, q.2.2.1.symm, q.2.2.2.symm⟩; omega) | (rcases h_135 with q | q; omega; refine Or.inl ⟨by omega, ?_⟩; have q2 := q.2; by_cases w1 : f2 0 = f2 (n2 - 1).toNat; (by_cases w2 : g2 0 = g2 (n2 - 1).toNat; exact absurd ⟨by omega, w1.symm, w2.symm⟩ q2; exact Or.inr (Or.inr w2)); exact Or.inr (Or.inl w1)))⟩⟩), by show va_P D.1 j_cl (cW D q (sY (sX (sC u 8 (n2 - 1)) 8 f2) 8 g2)) t0.heap; rw [ht]; first | exact hP | (simp only [sC_id, sX_id, sY_id, sH_id, sT_id, sV_id]; exact hP)⟩, hS.F ht⟩) hS.2.2 dX3_close_154 hlk
            · skip
              refine lv_aload_n SS.1 SS.2.1 dX3_close_71 rfl (lv_at hl 0 rfl) ?_
              refine j_get SS hG hP 2 (v := .ref (q 48)) (C := RX3) (T := TX3) (N := 3) rfl rfl inX3 0 (by decide) (ref := "GridPolygons$Hull") kw_177 rfl rfl dX3_close_72 ?_
              refine lv_iload_n SS.1 SS.2.1 dX3_close_75 rfl (lv_at hl 2 rfl) ?_
              refine j_iald SS hG hP 48 (n := 161) (f := (u.2.1 0)) rfl (z := j) (by omega) (by omega) dX3_close_76 ?_
              refine lv_aload_n SS.1 SS.2.1 dX3_close_77 rfl (lv_at hl 0 rfl) ?_
              refine j_get SS hG hP 2 (v := .ref (q 52)) (C := RX3) (T := TX3) (N := 3) rfl rfl inX3 1 (by decide) (ref := "GridPolygons$Hull") kw_178 rfl rfl dX3_close_78 ?_
              refine lv_iload_n SS.1 SS.2.1 dX3_close_81 rfl (lv_at hl 2 rfl) ?_
              refine j_iald SS hG hP 52 (n := 161) (f := (u.2.1 1)) rfl (z := j) (by omega) (by omega) dX3_close_82 ?_
              refine j_icmp_gt SS (tgt := 101) (x := ((u.2.1 0) (j).toNat)) (y := ((u.2.1 1) (j).toNat)) dX3_close_83 (by decide) (by omega) (by omega) (fun c_83 => ?_) (fun c_83 => ?_)
              · skip
                refine lv_iinc (v := J (j + (-1))) (lv' := [(2, .int (J (j + (-1)))), (0, .ref (q 2)), (1, .int (J (n1 - 1)))]) SS.1 SS.2.1 dX3_close_101 hl (k := 2) rfl (J_add _ _) (by decide) rfl (fun ls hl => ?_)
                refine lv_goto (tgt := 67) SS.1 SS.2.1 dX3_close_104 (by decide) ?_
                exact ih_67 (j + (-1)) f2 g2 n2 _ _ hP hS ls (lv_sub hl [1, 2, 0] rfl) (by omega) (by first | (have := PU_n h_98.2; omega) | omega) (by first | exact h_98.1.2 | exact i67_2) (fun h => by first | exact UP_s (n := n2) hC1 (by omega) (by omega) (i67_3 h) (by omega) (by omega) (by rw [show (((n1 - 1).toNat : Nat) : Int) = n1 - 1 by omega]; exact h_98.2) | exact UP_k (by omega) (i67_3 h) (by omega)) (fun h => by first | exact i67_4 h | omega) (by omega)
              · skip
                refine lv_aload_n SS.1 SS.2.1 dX3_close_86 rfl (lv_at hl 0 rfl) ?_
                refine lv_iload_n SS.1 SS.2.1 dX3_close_87 rfl (lv_at hl 2 rfl) ?_
                refine j_bipush SS dX3_close_88 (by decide +kernel) ?_
                refine j_isub SS (x := j) (y := 80) dX3_close_90 ?_
                refine lv_aload_n SS.1 SS.2.1 dX3_close_91 rfl (lv_at hl 0 rfl) ?_
                refine j_get SS hG hP 2 (v := .ref (q 52)) (C := RX3) (T := TX3) (N := 3) rfl rfl inX3 1 (by decide) (ref := "GridPolygons$Hull") kw_178 rfl rfl dX3_close_92 ?_
                refine lv_iload_n SS.1 SS.2.1 dX3_close_95 rfl (lv_at hl 2 rfl) ?_
                refine j_iald SS hG hP 52 (n := 161) (f := (u.2.1 1)) rfl (z := j) (by omega) (by omega) dX3_close_96 ?_
                refine lv_iload_n SS.1 SS.2.1 dX3_close_97 rfl (lv_at hl 1 rfl) ?_
                have hn1 : 0 < n1 := by rcases i10_3 with q | q; exact absurd (show u.2.1 0 j.toNat ≤ u.2.1 1 j.toNat by omega) (q.2 j.toNat (by omega)); exact q.1
                have hC1 : chx (SL (u.2.1 0) (u.2.1 1) 161) f1 g1 0 ((n1 - 1).toNat + 1) := by rcases i10_3 with q | q; omega; rw [show (n1 - 1).toNat + 1 = n1.toNat by omega]; exact q.2
                refine j_vWv SS (As := [.int (J (j - 80)), .int (J ((u.2.1 1) (j).toNat)), .int (J (n1 - 1))]) (rest := []) (c_X3_push2 l D q (sY (sX (sC u 8 n2) 8 f2) 8 g2) A (cW_D hD)  (j - 80) ((u.2.1 1) (j).toNat) (n1 - 1) (show RB 80 (sY (sX (sC u 8 n2) 8 f2) 8 g2) 8 from (hR)) (show -80 ≤ (j - 80) ∧ (j - 80) ≤ 80 from (by omega)) (show -80 ≤ ((u.2.1 1) (j).toNat) ∧ ((u.2.1 1) (j).toNat) ≤ 80 from (by omega)) (show 0 ≤ (n1 - 1) ∧ (n1 - 1) ≤ 400 from (by omega)) (show n2 ≤ 322 from (by omega))) mf_X3_push kw_429 hG hP hP (ci := 3) (q0 := 2) rfl rfl rfl hS (fun _ h => h) rfl hl.1 ⟨⟨Nat.le_of_ble_eq_true rfl, Nat.le_of_ble_eq_true rfl⟩, Nat.le_of_ble_eq_true rfl, Nat.le_refl _, Nat.le_refl _⟩ rfl dX3_close_98 (fun u98 H locs h_98 hP _ hS => ?_)
                obtain ⟨f_98, g_98, n_98, rfl, h_98⟩ := h_98
                have hP : va_P D.1 j_cl (cW D q (sY (sX (sC u 8 n_98) 8 f_98) 8 g_98)) H := hP
                have h_98 : ((0 ≤ n_98 ∧ n_98 ≤ 323) ∧ RV 80 f_98 g_98) ∧ PU (f2) (g2) f_98 g_98 (n2) (n1 - 1) (j - 80) ((u.2.1 1) (j).toNat) n_98 := h_98
                refine lv_iinc (v := J (j + (-1))) (lv' := [(2, .int (J (j + (-1)))), (0, .ref (q 2)), (1, .int (J (n1 - 1)))]) SS.1 SS.2.1 dX3_close_101 hl (k := 2) rfl (J_add _ _) (by decide) rfl (fun ls hl => ?_)
                refine lv_goto (tgt := 67) SS.1 SS.2.1 dX3_close_104 (by decide) ?_
                exact ih_67 (j + (-1)) f_98 g_98 n_98 _ _ hP hS ls (lv_sub hl [1, 2, 0] rfl) (by omega) (by first | (have := PU_n h_98.2; omega) | omega) (by first | exact h_98.1.2 | exact i67_2) (fun h => by first | exact UP_s (n := n2) hC1 (by omega) (by omega) (i67_3 h) (by omega) (by omega) (by rw [show (((n1 - 1).toNat : Nat) : Int) = n1 - 1 by omega]; exact h_98.2) | exact UP_k (by omega) (i67_3 h) (by omega)) (fun h => by first | exact i67_4 h | omega) (by omega)
        exact L_67 (((160 : Int) + 1).toNat + 1) 160 f1 g1 n1 _ _ hP hS ls (lv_sub hl [2, 1, 0] rfl) (by omega) (by omega) (i10_2) (fun h => by have q := UP_0 (f := u.2.1 0) (g := u.2.1 1) (FX := f1) (FY := g1) (m := (n1 - 1).toNat); rw [show (n1 - 1).toNat + 1 = n1.toNat by omega] at q; exact q) (by omega) (Nat.lt_succ_self _)
      · skip
        refine lv_aload_n SS.1 SS.2.1 dX3_close_17 rfl (lv_at hl 0 rfl) ?_
        refine j_get SS hG hP 2 (v := .ref (q 48)) (C := RX3) (T := TX3) (N := 3) rfl rfl inX3 0 (by decide) (ref := "GridPolygons$Hull") kw_177 rfl rfl dX3_close_18 ?_
        refine lv_iload_n SS.1 SS.2.1 dX3_close_21 rfl (lv_at hl 1 rfl) ?_
        refine j_iald SS hG hP 48 (n := 161) (f := (u.2.1 0)) rfl (z := i) (by omega) (by omega) dX3_close_22 ?_
        refine lv_aload_n SS.1 SS.2.1 dX3_close_23 rfl (lv_at hl 0 rfl) ?_
        refine j_get SS hG hP 2 (v := .ref (q 52)) (C := RX3) (T := TX3) (N := 3) rfl rfl inX3 1 (by decide) (ref := "GridPolygons$Hull") kw_178 rfl rfl dX3_close_24 ?_
        refine lv_iload_n SS.1 SS.2.1 dX3_close_27 rfl (lv_at hl 1 rfl) ?_
        refine j_iald SS hG hP 52 (n := 161) (f := (u.2.1 1)) rfl (z := i) (by omega) (by omega) dX3_close_28 ?_
        refine j_icmp_gt SS (tgt := 47) (x := ((u.2.1 0) (i).toNat)) (y := ((u.2.1 1) (i).toNat)) dX3_close_29 (by decide) (by omega) (by omega) (fun c_29 => ?_) (fun c_29 => ?_)
        · skip
          refine lv_iinc (v := J (i + 1)) (lv' := [(1, .int (J (i + 1))), (0, .ref (q 2))]) SS.1 SS.2.1 dX3_close_47 hl (k := 1) rfl (J_add _ _) (by decide) rfl (fun ls hl => ?_)
          refine lv_goto (tgt := 10) SS.1 SS.2.1 dX3_close_50 (by decide) ?_
          exact ih_10 (i + 1) f1 g1 n1 _ _ hP hS ls (lv_sub hl [1, 0] rfl) (by omega) (by first | (have := PU_n h_44.2; omega) | omega) (by first | exact h_44.1.2 | exact i10_2) (by first | exact CLW_s (by omega) (by omega) i10_3 (by omega) h_44.2 | exact CLW_k (by omega) i10_3 (by omega)) (by omega)
        · skip
          refine lv_aload_n SS.1 SS.2.1 dX3_close_32 rfl (lv_at hl 0 rfl) ?_
          refine lv_iload_n SS.1 SS.2.1 dX3_close_33 rfl (lv_at hl 1 rfl) ?_
          refine j_bipush SS dX3_close_34 (by decide +kernel) ?_
          refine j_isub SS (x := i) (y := 80) dX3_close_36 ?_
          refine lv_aload_n SS.1 SS.2.1 dX3_close_37 rfl (lv_at hl 0 rfl) ?_
          refine j_get SS hG hP 2 (v := .ref (q 48)) (C := RX3) (T := TX3) (N := 3) rfl rfl inX3 0 (by decide) (ref := "GridPolygons$Hull") kw_177 rfl rfl dX3_close_38 ?_
          refine lv_iload_n SS.1 SS.2.1 dX3_close_41 rfl (lv_at hl 1 rfl) ?_
          refine j_iald SS hG hP 48 (n := 161) (f := (u.2.1 0)) rfl (z := i) (by omega) (by omega) dX3_close_42 ?_
          refine j_iconst SS dX3_close_43 ?_
          refine j_vWv SS (As := [.int (J (i - 80)), .int (J ((u.2.1 0) (i).toNat)), .int (J 0)]) (rest := []) (c_X3_push2 l D q (sY (sX (sC u 8 n1) 8 f1) 8 g1) A (cW_D hD)  (i - 80) ((u.2.1 0) (i).toNat) 0 (show RB 80 (sY (sX (sC u 8 n1) 8 f1) 8 g1) 8 from (hR)) (show -80 ≤ (i - 80) ∧ (i - 80) ≤ 80 from (by omega)) (show -80 ≤ ((u.2.1 0) (i).toNat) ∧ ((u.2.1 0) (i).toNat) ≤ 80 from (by omega)) (show 0 ≤ (0 : Int) ∧ (0 : Int) ≤ 400 from (by omega)) (show n1 ≤ 322 from (by omega))) mf_X3_push kw_429 hG hP hP (ci := 3) (q0 := 2) rfl rfl rfl hS (fun _ h => h) rfl hl.1 ⟨⟨Nat.le_of_ble_eq_true rfl, Nat.le_of_ble_eq_true rfl⟩, Nat.le_of_ble_eq_true rfl, Nat.le_refl _, Nat.le_refl _⟩ rfl dX3_close_44 (fun u44 H locs h_44 hP _ hS => ?_)
          obtain ⟨f_44, g_44, n_44, rfl, h_44⟩ := h_44
          have hP : va_P D.1 j_cl (cW D q (sY (sX (sC u 8 n_44) 8 f_44) 8 g_44)) H := hP
          have h_44 : ((0 ≤ n_44 ∧ n_44 ≤ 323) ∧ RV 80 f_44 g_44) ∧ PU (f1) (g1) f_44 g_44 (n1) (0 : Int) (i - 80) ((u.2.1 0) (i).toNat) n_44 := h_44
          refine lv_iinc (v := J (i + 1)) (lv' := [(1, .int (J (i + 1))), (0, .ref (q 2))]) SS.1 SS.2.1 dX3_close_47 hl (k := 1) rfl (J_add _ _) (by decide) rfl (fun ls hl => ?_)
          refine lv_goto (tgt := 10) SS.1 SS.2.1 dX3_close_50 (by decide) ?_
          exact ih_10 (i + 1) f_44 g_44 n_44 _ _ hP hS ls (lv_sub hl [1, 0] rfl) (by omega) (by first | (have := PU_n h_44.2; omega) | omega) (by first | exact h_44.1.2 | exact i10_2) (by first | exact CLW_s (by omega) (by omega) i10_3 (by omega) h_44.2 | exact CLW_k (by omega) i10_3 (by omega)) (by omega)
  exact L_10 (((161 : Int) - (0 : Int)).toNat + 1) 0 (u.1.1 8) (u.1.2.1 8) 0 _ _ hP hS ls (lv_sub hl [1, 0] rfl) (by omega) (by omega) (p0.2) (CLW_0) (Nat.lt_succ_self _)


set_option maxHeartbeats 4000000 in
set_option maxRecDepth 100000 in
theorem c_X3_takeRing2 (l : Launch) (D : JD) (q : Nat → Nat) (u : CS) (A : Nat → Prop) (hD : va_D A (cW D q u)) (r : Nat) (hr : r ≤ 8) (p0 : HU_ (u.2.1 0) (u.2.1 1)) (p1 : RB 80 u r) : Met l yX3_takeRing (jw yX3_takeRing cX3_takeRing 3 none) (jr 2 44) (jP [.ref (q 2), .ref (q (9 + 5 * r))] D (fun H => va_P D.1 j_cl (cW D q u) H)) (jWv (fun u' => ∃ f : Nat → Int, ∃ g : Nat → Int, u' = (sI (sI u 0 f) 1 g) ∧ (HU_ f g ∧ ∀ S : Int → Int → Prop, HUL S (u.2.1 0) (u.2.1 1) → HUL (fun x y => S x y ∨ RP u r x y) f g)) (fun u' H => va_P D.1 j_cl (cW D q u') H) A) 0 0 A := by
  refine Met.ofW (cc := cX3_takeRing) (maxL := 3) (ret := none) (by decide) rfl ?_
  intro pr en st mi args below meth co s₁ B hml hv
  obtain ⟨rfl, hG, hP⟩ := hv
  have hr := B.returns
  have hlk := B.notSynchronized
  have SS : jS pr mi co cX3_takeRing 3 st _ RX3 := ⟨B.exec, B.bytes, hml, findClass_of_methodNamed B.named, fun w hw => atoms_spec (ws := (jw yX3_takeRing cX3_takeRing 3 none)) B.pre w (List.mem_cons_of_mem _ hw)⟩
  have hl := lv_entry ([.ref (q 2), .ref (q (9 + 5 * r))]) (n := 3) (Nat.le_of_ble_eq_true rfl)
  rw [lg_entry_eq]
  generalize (lg_sl ([.ref (q 2), .ref (q (9 + 5 * r))]) ++ List.replicate (3 - (lg_sl ([.ref (q 2), .ref (q (9 + 5 * r))])).length) Slot.unset).toArray = ls at hl ⊢
  have hl : lv_has ls 3 [(0, .ref (q 2)), (1, .ref (q (9 + 5 * r)))] := hl
  have hS : va_S A st.heap st.heap [] := va_S.rf
  have hc := p1.1
  have hrl := rl_b r
  refine j_iconst SS dX3_takeRing_0 ?_
  refine lv_istore_n (lv' := [(2, .int (J 0)), (0, .ref (q 2)), (1, .ref (q (9 + 5 * r)))]) SS.1 SS.2.1 dX3_takeRing_1 rfl hl (by decide) rfl (fun ls hl => ?_)
  have L_2 : ∀ (nn : Nat) (i : Int) (f1 : Nat → Int) (g1 : Nat → Int) (H : Heap) (locs : List Loc) (hP : va_P D.1 j_cl (cW D q (sI (sI u 0 f1) 1 g1)) H) (hS : va_S A st.heap H locs) (ls : Array Slot) (hl : lv_has ls 3 [(0, .ref (q 2)), (1, .ref (q (9 + 5 * r))), (2, .int (J i))]) (i2_0 : 0 ≤ i ∧ i ≤ u.1.2.2.1 r) (i2_1 : HU_ f1 g1) (i2_2 : ∀ S : Int → Int → Prop, HUL S (u.2.1 0) (u.2.1 1) → HUL (fun x y => S x y ∨ RPi u r i x y) f1 g1), (u.1.2.2.1 r - i).toNat < nn → W pr l en (headSpec (jw yX3_takeRing cX3_takeRing 3 none) (jr 2 44)).room st mi (([.ref (q 2), .ref (q (9 + 5 * r))] : List Value).toArray) below meth co H locs 0 0 (MQ below (jWv (fun u' => ∃ f : Nat → Int, ∃ g : Nat → Int, u' = (sI (sI u 0 f) 1 g) ∧ (HU_ f g ∧ ∀ S : Int → Int → Prop, HUL S (u.2.1 0) (u.2.1 1) → HUL (fun x y => S x y ∨ RP u r x y) f g)) (fun u' H => va_P D.1 j_cl (cW D q u') H) A) (([.ref (q 2), .ref (q (9 + 5 * r))] : List Value).toArray) st 0 0 A) (F0 mi 2 ls []) := by
    intro nn
    induction nn with
    | zero => intros; omega
    | succ nn ih_2 =>
      intro i f1 g1 H locs hP hS ls hl i2_0 i2_1 i2_2 hm
      refine lv_iload_n SS.1 SS.2.1 dX3_takeRing_2 rfl (lv_at hl 2 rfl) ?_
      refine lv_aload_n SS.1 SS.2.1 dX3_takeRing_3 rfl (lv_at hl 1 rfl) ?_
      refine j_getS SS hG hP (9 + 5 * r) (v := .int (J (u.1.2.2.1 r))) (C := RX7) (T := TX7) (N := 3) (cw_ring (by omega)) rfl inX7 2 (by decide) (ref := "GridPolygons$Ring") kw_141 kw_132 rfl dX3_takeRing_4 ?_
      refine j_icmp_ge SS (tgt := 30) (x := i) (y := (u.1.2.2.1 r)) dX3_takeRing_7 (by decide) (by omega) (by omega) (fun c_7 => ?_) (fun c_7 => ?_)
      · skip
        exact W.vret SS.1 SS.2.1 hr (fun t0 ht hW => ⟨⟨(sI (sI u 0 f1) 1 g1), rfl, (⟨f1, g1, rfl, ⟨i2_1, fun S h => by have q := i2_2 S h; rw [show i = u.1.2.2.1 r by omega] at q; exact q⟩⟩), by show va_P D.1 j_cl (cW D q (sI (sI u 0 f1) 1 g1)) t0.heap; rw [ht]; first | exact hP | (simp only [sC_id, sX_id, sY_id, sH_id, sT_id, sV_id]; exact hP)⟩, hS.F ht⟩) hS.2.2 dX3_takeRing_30 hlk
      · skip
        refine lv_aload_n SS.1 SS.2.1 dX3_takeRing_10 rfl (lv_at hl 0 rfl) ?_
        refine lv_aload_n SS.1 SS.2.1 dX3_takeRing_11 rfl (lv_at hl 1 rfl) ?_
        refine lv_iload_n SS.1 SS.2.1 dX3_takeRing_12 rfl (lv_at hl 2 rfl) ?_
        refine j_uRi SS (As := [.int (J i)]) (rest := [.ref (q 2)]) (c_X8_x l D q (sI (sI u 0 f1) 1 g1) r (by omega) i (show -2147483648 ≤ i ∧ i ≤ 2147483647 from (by omega))) mu_7_x kw_437 hG hP hP (ci := 7) (q0 := (9 + 5 * r)) rfl (cw_ring (by omega)) rfl rfl hl.1 ⟨⟨Nat.le_of_ble_eq_true rfl, Nat.le_of_ble_eq_true rfl⟩, Nat.le_of_ble_eq_true rfl, Nat.le_refl _, Nat.le_refl _⟩ rfl dX3_takeRing_13 (fun z_13 h_13 => ?_)
        have h_13 : z_13 = rx (sI (sI u 0 f1) 1 g1) r i ∧ ∀ K : Int, 0 ≤ K → RB K (sI (sI u 0 f1) 1 g1) r → -K ≤ z_13 ∧ z_13 ≤ K := h_13
        have hb_13 := h_13.2 80 (by omega) (p1)
        refine lv_aload_n SS.1 SS.2.1 dX3_takeRing_16 rfl (lv_at hl 1 rfl) ?_
        refine lv_iload_n SS.1 SS.2.1 dX3_takeRing_17 rfl (lv_at hl 2 rfl) ?_
        refine j_uRi SS (As := [.int (J i)]) (rest := [.int (J z_13), .ref (q 2)]) (c_X8_y l D q (sI (sI u 0 f1) 1 g1) r (by omega) i (show -2147483648 ≤ i ∧ i ≤ 2147483647 from (by omega))) mu_7_y kw_443 hG hP hP (ci := 7) (q0 := (9 + 5 * r)) rfl (cw_ring (by omega)) rfl rfl hl.1 ⟨⟨Nat.le_of_ble_eq_true rfl, Nat.le_of_ble_eq_true rfl⟩, Nat.le_of_ble_eq_true rfl, Nat.le_refl _, Nat.le_refl _⟩ rfl dX3_takeRing_18 (fun z_18 h_18 => ?_)
        have h_18 : z_18 = ry9 (sI (sI u 0 f1) 1 g1) r i ∧ ∀ K : Int, 0 ≤ K → RB K (sI (sI u 0 f1) 1 g1) r → -K ≤ z_18 ∧ z_18 ≤ K := h_18
        have hb_18 := h_18.2 80 (by omega) (p1)
        have ex : z_13 = u.1.1 r i.toNat := by rw [h_13.1]; exact if_pos (by omega)
        have ey : z_18 = u.1.2.1 r i.toNat := by rw [h_18.1]; exact if_pos (by omega)
        refine j_vWv SS (As := [.int (J z_13), .int (J z_18)]) (rest := []) (c_X3_take l D q (sI (sI u 0 f1) 1 g1) A (cW_D hD)  z_13 z_18 (show HU_ (f1) (g1) from (i2_1)) (show -1000 ≤ z_13 ∧ z_13 ≤ 1000 from (by omega)) (show -2147483648 ≤ z_18 ∧ z_18 ≤ 2147483647 from (by omega))) mf_X3_take kw_482 hG hP hP (ci := 3) (q0 := 2) rfl rfl rfl hS (fun _ h => h) rfl hl.1 ⟨⟨Nat.le_of_ble_eq_true rfl, Nat.le_of_ble_eq_true rfl⟩, Nat.le_of_ble_eq_true rfl, Nat.le_refl _, Nat.le_refl _⟩ rfl dX3_takeRing_21 (fun u21 H locs h_21 hP _ hS => ?_)
        obtain ⟨f_21, g_21, rfl, h_21⟩ := h_21
        have hP : va_P D.1 j_cl (cW D q (sI (sI u 0 f_21) 1 g_21)) H := hP
        have h_21 : ((-80 ≤ z_13 ∧ z_13 ≤ 80 ∧ -80 ≤ z_18 ∧ z_18 ≤ 80) ∧ f_21 = upI (f1) (z_13 + 80).toNat (min (f1 (z_13 + 80).toNat) z_18) ∧ g_21 = upI (g1) (z_13 + 80).toNat (max (g1 (z_13 + 80).toNat) z_18) ∨ ¬ (-80 ≤ z_13 ∧ z_13 ≤ 80 ∧ -80 ≤ z_18 ∧ z_18 ≤ 80) ∧ f_21 = f1 ∧ g_21 = g1) ∧ HU_ f_21 g_21 := h_21
        refine lv_iinc (v := J (i + 1)) (lv' := [(2, .int (J (i + 1))), (0, .ref (q 2)), (1, .ref (q (9 + 5 * r)))]) SS.1 SS.2.1 dX3_takeRing_24 hl (k := 2) rfl (J_add _ _) (by decide) rfl (fun ls hl => ?_)
        refine lv_goto (tgt := 2) SS.1 SS.2.1 dX3_takeRing_27 (by decide) ?_
        exact ih_2 (i + 1) f_21 g_21 _ _ hP hS ls (lv_sub hl [1, 2, 0] rfl) (by omega) (h_21.2) (fun S h => by have q := i2_2 S h; rcases h_21.1 with ⟨w1, w2, w3⟩ | ⟨w1, _⟩; (rw [w2, w3]; exact HUL_c (HUL_t q (by omega) (by omega)) (fun x y => rp_s i2_0.1 ex ey x y)); omega) (by omega)
  exact L_2 ((u.1.2.2.1 r - (0 : Int)).toNat + 1) 0 (u.2.1 0) (u.2.1 1) _ _ hP hS ls (lv_sub hl [1, 2, 0] rfl) (by omega) (p0) (fun S h => HUL_c h (fun x y => ⟨fun q => by rcases q with q | ⟨a, q1, _⟩; exact q; omega, Or.inl⟩)) (Nat.lt_succ_self _)

set_option maxHeartbeats 4000000 in
set_option maxRecDepth 100000 in
theorem c_X3_closeSum2 (l : Launch) (D : JD) (q : Nat → Nat) (u : CS) (A : Nat → Prop) (hD : va_D A (cW D q u)) (r : Nat) (hr : r ≤ 8) (r2 : Nat) (hr2 : r2 ≤ 8) (p0 : HU_ (u.2.1 0) (u.2.1 1)) (p1 : RB 40 u r) (p2 : RB 40 u r2) (p3 : RB 80 u 8) : Met l yX3_closeSum (jw yX3_closeSum cX3_closeSum 5 none) (jr 4 91) (jP [.ref (q 2), .ref (q (9 + 5 * r)), .ref (q (9 + 5 * r2))] D (fun H => va_P D.1 j_cl (cW D q u) H)) (jWv (fun u' => ∃ f : Nat → Int, ∃ g : Nat → Int, ∃ f8 : Nat → Int, ∃ g8 : Nat → Int, ∃ n8 : Int, u' = (sY (sX (sI (sI (sC u 8 n8) 0 f) 1 g) 8 f8) 8 g8) ∧ (HU_ f g ∧ (0 ≤ n8 ∧ n8 ≤ 323) ∧ RV 80 f8 g8 ∧ HS (SM (RP u r) (RP u r2)) n8 f8 g8)) (fun u' H => va_P D.1 j_cl (cW D q u') H) A) 0 0 A := by
  refine Met.ofW (cc := cX3_closeSum) (maxL := 5) (ret := none) (by decide) rfl ?_
  intro pr en st mi args below meth co s₁ B hml hv
  obtain ⟨rfl, hG, hP⟩ := hv
  have hr := B.returns
  have hlk := B.notSynchronized
  have SS : jS pr mi co cX3_closeSum 5 st _ RX3 := ⟨B.exec, B.bytes, hml, findClass_of_methodNamed B.named, fun w hw => atoms_spec (ws := (jw yX3_closeSum cX3_closeSum 5 none)) B.pre w (List.mem_cons_of_mem _ hw)⟩
  have hl := lv_entry ([.ref (q 2), .ref (q (9 + 5 * r)), .ref (q (9 + 5 * r2))]) (n := 5) (Nat.le_of_ble_eq_true rfl)
  rw [lg_entry_eq]
  generalize (lg_sl ([.ref (q 2), .ref (q (9 + 5 * r)), .ref (q (9 + 5 * r2))]) ++ List.replicate (5 - (lg_sl ([.ref (q 2), .ref (q (9 + 5 * r)), .ref (q (9 + 5 * r2))])).length) Slot.unset).toArray = ls at hl ⊢
  have hl : lv_has ls 5 [(0, .ref (q 2)), (1, .ref (q (9 + 5 * r))), (2, .ref (q (9 + 5 * r2)))] := hl
  have hS : va_S A st.heap st.heap [] := va_S.rf
  have hc := p1.1
  have hc2 := p2.1
  have hrl := rl_b r
  have hrl2 := rl_b r2
  refine lv_aload_n SS.1 SS.2.1 dX3_closeSum_0 rfl (lv_at hl 0 rfl) ?_
  refine j_vWv SS (As := []) (rest := []) (c_X3_begin l D q u A (cW_D hD)   (show HU_ ((u.2.1 0)) ((u.2.1 1)) from (p0))) mf_X3_begin kw_690 hG hP hP (ci := 3) (q0 := 2) rfl rfl rfl hS (fun _ h => h) rfl hl.1 ⟨⟨Nat.le_of_ble_eq_true rfl, Nat.le_of_ble_eq_true rfl⟩, Nat.le_of_ble_eq_true rfl, Nat.le_refl _, Nat.le_refl _⟩ rfl dX3_closeSum_1 (fun u1 H locs h_1 hP _ hS => ?_)
  obtain ⟨f_1, g_1, rfl, h_1⟩ := h_1
  have hP : va_P D.1 j_cl (cW D q (sI (sI u 0 f_1) 1 g_1)) H := hP
  have h_1 : f_1 = jf ((u.2.1 0)) 81 161 ∧ g_1 = jf ((u.2.1 1)) (-81) 161 ∧ HU_ f_1 g_1 := h_1
  refine j_iconst SS dX3_closeSum_4 ?_
  refine lv_istore_n (lv' := [(3, .int (J 0)), (0, .ref (q 2)), (1, .ref (q (9 + 5 * r))), (2, .ref (q (9 + 5 * r2)))]) SS.1 SS.2.1 dX3_closeSum_5 rfl hl (by decide) rfl (fun ls hl => ?_)
  have L_6 : ∀ (nn : Nat) (i : Int) (f1 : Nat → Int) (g1 : Nat → Int) (H : Heap) (locs : List Loc) (hP : va_P D.1 j_cl (cW D q (sI (sI u 0 f1) 1 g1)) H) (hS : va_S A st.heap H locs) (ls : Array Slot) (hl : lv_has ls 5 [(0, .ref (q 2)), (1, .ref (q (9 + 5 * r))), (2, .ref (q (9 + 5 * r2))), (3, .int (J i))]) (i6_0 : 0 ≤ i ∧ i ≤ u.1.2.2.1 r) (i6_1 : HU_ f1 g1) (i6_2 : HUL (SM (RPi u r i) (RP u r2)) f1 g1), (u.1.2.2.1 r - i).toNat < nn → W pr l en (headSpec (jw yX3_closeSum cX3_closeSum 5 none) (jr 4 91)).room st mi (([.ref (q 2), .ref (q (9 + 5 * r)), .ref (q (9 + 5 * r2))] : List Value).toArray) below meth co H locs 0 0 (MQ below (jWv (fun u' => ∃ f : Nat → Int, ∃ g : Nat → Int, ∃ f8 : Nat → Int, ∃ g8 : Nat → Int, ∃ n8 : Int, u' = (sY (sX (sI (sI (sC u 8 n8) 0 f) 1 g) 8 f8) 8 g8) ∧ (HU_ f g ∧ (0 ≤ n8 ∧ n8 ≤ 323) ∧ RV 80 f8 g8 ∧ HS (SM (RP u r) (RP u r2)) n8 f8 g8)) (fun u' H => va_P D.1 j_cl (cW D q u') H) A) (([.ref (q 2), .ref (q (9 + 5 * r)), .ref (q (9 + 5 * r2))] : List Value).toArray) st 0 0 A) (F0 mi 6 ls []) := by
    intro nn
    induction nn with
    | zero => intros; omega
    | succ nn ih_6 =>
      intro i f1 g1 H locs hP hS ls hl i6_0 i6_1 i6_2 hm
      refine lv_iload_n SS.1 SS.2.1 dX3_closeSum_6 rfl (lv_at hl 3 rfl) ?_
      refine lv_aload_n SS.1 SS.2.1 dX3_closeSum_7 rfl (lv_at hl 1 rfl) ?_
      refine j_getS SS hG hP (9 + 5 * r) (v := .int (J (u.1.2.2.1 r))) (C := RX7) (T := TX7) (N := 3) (cw_ring (by omega)) rfl inX7 2 (by decide) (ref := "GridPolygons$Ring") kw_141 kw_132 rfl dX3_closeSum_8 ?_
      refine j_icmp_ge SS (tgt := 66) (x := i) (y := (u.1.2.2.1 r)) dX3_closeSum_11 (by decide) (by omega) (by omega) (fun c_11 => ?_) (fun c_11 => ?_)
      · skip
        refine lv_aload_n SS.1 SS.2.1 dX3_closeSum_66 rfl (lv_at hl 0 rfl) ?_
        refine j_vWv SS (As := []) (rest := []) (c_X3_close2 l D q (sI (sI u 0 f1) 1 g1) A (cW_D hD)   (show RB 80 (sI (sI u 0 f1) 1 g1) 8 from (p3)) (show HU_ (f1) (g1) from (i6_1))) mf_X3_close kw_691 hG hP hP (ci := 3) (q0 := 2) rfl rfl rfl hS (fun _ h => h) rfl hl.1 ⟨⟨Nat.le_of_ble_eq_true rfl, Nat.le_of_ble_eq_true rfl⟩, Nat.le_of_ble_eq_true rfl, Nat.le_refl _, Nat.le_refl _⟩ rfl dX3_closeSum_67 (fun u67 H locs h_67 hP _ hS => ?_)
        obtain ⟨f_67, g_67, n_67, rfl, h_67⟩ := h_67
        have hP : va_P D.1 j_cl (cW D q (sY (sX (sI (sI (sC u 8 n_67) 0 f1) 1 g1) 8 f_67) 8 g_67)) H := hP
        have h_67 : (0 ≤ n_67 ∧ n_67 ≤ 323) ∧ RV 80 f_67 g_67 ∧ ∀ S : Int → Int → Prop, HUL S (f1) (g1) → HS S n_67 f_67 g_67 := h_67
        exact W.vret SS.1 SS.2.1 hr (fun t0 ht hW => ⟨⟨(sY (sX (sI (sI (sC u 8 n_67) 0 f1) 1 g1) 8 f_67) 8 g_67), rfl, (⟨f1, g1, f_67, g_67, n_67, rfl, ⟨i6_1, h_67.1, h_67.2.1, h_67.2.2 _ (by rw [show i = u.1.2.2.1 r by omega] at i6_2; exact i6_2)⟩⟩), by show va_P D.1 j_cl (cW D q (sY (sX (sI (sI (sC u 8 n_67) 0 f1) 1 g1) 8 f_67) 8 g_67)) t0.heap; rw [ht]; first | exact hP | (simp only [sC_id, sX_id, sY_id, sH_id, sT_id, sV_id]; exact hP)⟩, hS.F ht⟩) hS.2.2 dX3_closeSum_70 hlk
      · skip
        refine j_iconst SS dX3_closeSum_14 ?_
        refine lv_istore (lv' := [(4, .int (J 0)), (0, .ref (q 2)), (1, .ref (q (9 + 5 * r))), (2, .ref (q (9 + 5 * r2))), (3, .int (J i))]) SS.1 SS.2.1 dX3_closeSum_15 hl (by decide) rfl (fun ls hl => ?_)
        have L_17 : ∀ (nn : Nat) (j : Int) (f2 : Nat → Int) (g2 : Nat → Int) (H : Heap) (locs : List Loc) (hP : va_P D.1 j_cl (cW D q (sI (sI u 0 f2) 1 g2)) H) (hS : va_S A st.heap H locs) (ls : Array Slot) (hl : lv_has ls 5 [(0, .ref (q 2)), (1, .ref (q (9 + 5 * r))), (2, .ref (q (9 + 5 * r2))), (3, .int (J i)), (4, .int (J j))]) (i17_0 : 0 ≤ j ∧ j ≤ u.1.2.2.1 r2) (i17_1 : HU_ f2 g2) (i17_2 : HUL (fun x y => SM (RPi u r i) (RP u r2) x y ∨ ∃ b : Nat, (b : Int) < j ∧ x = u.1.1 r i.toNat + u.1.1 r2 b ∧ y = u.1.2.1 r i.toNat + u.1.2.1 r2 b) f2 g2), (u.1.2.2.1 r2 - j).toNat < nn → W pr l en (headSpec (jw yX3_closeSum cX3_closeSum 5 none) (jr 4 91)).room st mi (([.ref (q 2), .ref (q (9 + 5 * r)), .ref (q (9 + 5 * r2))] : List Value).toArray) below meth co H locs 0 0 (MQ below (jWv (fun u' => ∃ f : Nat → Int, ∃ g : Nat → Int, ∃ f8 : Nat → Int, ∃ g8 : Nat → Int, ∃ n8 : Int, u' = (sY (sX (sI (sI (sC u 8 n8) 0 f) 1 g) 8 f8) 8 g8) ∧ (HU_ f g ∧ (0 ≤ n8 ∧ n8 ≤ 323) ∧ RV 80 f8 g8 ∧ HS (SM (RP u r) (RP u r2)) n8 f8 g8)) (fun u' H => va_P D.1 j_cl (cW D q u') H) A) (([.ref (q 2), .ref (q (9 + 5 * r)), .ref (q (9 + 5 * r2))] : List Value).toArray) st 0 0 A) (F0 mi 17 ls []) := by
          intro nn
          induction nn with
          | zero => intros; omega
          | succ nn ih_17 =>
            intro j f2 g2 H locs hP hS ls hl i17_0 i17_1 i17_2 hm
            refine lv_iload SS.1 SS.2.1 dX3_closeSum_17 (lv_at hl 4 rfl) ?_
            refine lv_aload_n SS.1 SS.2.1 dX3_closeSum_19 rfl (lv_at hl 2 rfl) ?_
            refine j_getS SS hG hP (9 + 5 * r2) (v := .int (J (u.1.2.2.1 r2))) (C := RX7) (T := TX7) (N := 3) (cw_ring (by omega)) rfl inX7 2 (by decide) (ref := "GridPolygons$Ring") kw_141 kw_132 rfl dX3_closeSum_20 ?_
            refine j_icmp_ge SS (tgt := 60) (x := j) (y := (u.1.2.2.1 r2)) dX3_closeSum_23 (by decide) (by omega) (by omega) (fun c_23 => ?_) (fun c_23 => ?_)
            · skip
              refine lv_iinc (v := J (i + 1)) (lv' := [(3, .int (J (i + 1))), (0, .ref (q 2)), (1, .ref (q (9 + 5 * r))), (2, .ref (q (9 + 5 * r2))), (4, .int (J j))]) SS.1 SS.2.1 dX3_closeSum_60 hl (k := 3) rfl (J_add _ _) (by decide) rfl (fun ls hl => ?_)
              refine lv_goto (tgt := 6) SS.1 SS.2.1 dX3_closeSum_63 (by decide) ?_
              exact ih_6 (i + 1) f2 g2 _ _ hP hS ls (lv_sub hl [1, 2, 3, 0] rfl) (by omega) (i17_1) (HUL_c i17_2 (fun x y => by rw [show j = u.1.2.2.1 r2 by omega]; exact RSi_s i6_0.1 x y)) (by omega)
            · skip
              refine lv_aload_n SS.1 SS.2.1 dX3_closeSum_26 rfl (lv_at hl 0 rfl) ?_
              refine lv_aload_n SS.1 SS.2.1 dX3_closeSum_27 rfl (lv_at hl 1 rfl) ?_
              refine lv_iload_n SS.1 SS.2.1 dX3_closeSum_28 rfl (lv_at hl 3 rfl) ?_
              refine j_uRi SS (As := [.int (J i)]) (rest := [.ref (q 2)]) (c_X8_x l D q (sI (sI u 0 f2) 1 g2) r (by omega) i (show -2147483648 ≤ i ∧ i ≤ 2147483647 from (by omega))) mu_7_x kw_437 hG hP hP (ci := 7) (q0 := (9 + 5 * r)) rfl (cw_ring (by omega)) rfl rfl hl.1 ⟨⟨Nat.le_of_ble_eq_true rfl, Nat.le_of_ble_eq_true rfl⟩, Nat.le_of_ble_eq_true rfl, Nat.le_refl _, Nat.le_refl _⟩ rfl dX3_closeSum_29 (fun z_29 h_29 => ?_)
              have h_29 : z_29 = rx (sI (sI u 0 f2) 1 g2) r i ∧ ∀ K : Int, 0 ≤ K → RB K (sI (sI u 0 f2) 1 g2) r → -K ≤ z_29 ∧ z_29 ≤ K := h_29
              have hb_29 := h_29.2 40 (by omega) (p1)
              refine lv_aload_n SS.1 SS.2.1 dX3_closeSum_32 rfl (lv_at hl 2 rfl) ?_
              refine lv_iload SS.1 SS.2.1 dX3_closeSum_33 (lv_at hl 4 rfl) ?_
              refine j_uRi SS (As := [.int (J j)]) (rest := [.int (J z_29), .ref (q 2)]) (c_X8_x l D q (sI (sI u 0 f2) 1 g2) r2 (by omega) j (show -2147483648 ≤ j ∧ j ≤ 2147483647 from (by omega))) mu_7_x kw_437 hG hP hP (ci := 7) (q0 := (9 + 5 * r2)) rfl (cw_ring (by omega)) rfl rfl hl.1 ⟨⟨Nat.le_of_ble_eq_true rfl, Nat.le_of_ble_eq_true rfl⟩, Nat.le_of_ble_eq_true rfl, Nat.le_refl _, Nat.le_refl _⟩ rfl dX3_closeSum_35 (fun z_35 h_35 => ?_)
              have h_35 : z_35 = rx (sI (sI u 0 f2) 1 g2) r2 j ∧ ∀ K : Int, 0 ≤ K → RB K (sI (sI u 0 f2) 1 g2) r2 → -K ≤ z_35 ∧ z_35 ≤ K := h_35
              have hb_35 := h_35.2 40 (by omega) (p2)
              refine j_iadd SS (x := z_29) (y := z_35) dX3_closeSum_38 ?_
              refine lv_aload_n SS.1 SS.2.1 dX3_closeSum_39 rfl (lv_at hl 1 rfl) ?_
              refine lv_iload_n SS.1 SS.2.1 dX3_closeSum_40 rfl (lv_at hl 3 rfl) ?_
              refine j_uRi SS (As := [.int (J i)]) (rest := [.int (J (z_29 + z_35)), .ref (q 2)]) (c_X8_y l D q (sI (sI u 0 f2) 1 g2) r (by omega) i (show -2147483648 ≤ i ∧ i ≤ 2147483647 from (by omega))) mu_7_y kw_443 hG hP hP (ci := 7) (q0 := (9 + 5 * r)) rfl (cw_ring (by omega)) rfl rfl hl.1 ⟨⟨Nat.le_of_ble_eq_true rfl, Nat.le_of_ble_eq_true rfl⟩, Nat.le_of_ble_eq_true rfl, Nat.le_refl _, Nat.le_refl _⟩ rfl dX3_closeSum_41 (fun z_41 h_41 => ?_)
              have h_41 : z_41 = ry9 (sI (sI u 0 f2) 1 g2) r i ∧ ∀ K : Int, 0 ≤ K → RB K (sI (sI u 0 f2) 1 g2) r → -K ≤ z_41 ∧ z_41 ≤ K := h_41
              have hb_41 := h_41.2 40 (by omega) (p1)
              refine lv_aload_n SS.1 SS.2.1 dX3_closeSum_44 rfl (lv_at hl 2 rfl) ?_
              refine lv_iload SS.1 SS.2.1 dX3_closeSum_45 (lv_at hl 4 rfl) ?_
              refine j_uRi SS (As := [.int (J j)]) (rest := [.int (J z_41), .int (J (z_29 + z_35)), .ref (q 2)]) (c_X8_y l D q (sI (sI u 0 f2) 1 g2) r2 (by omega) j (show -2147483648 ≤ j ∧ j ≤ 2147483647 from (by omega))) mu_7_y kw_443 hG hP hP (ci := 7) (q0 := (9 + 5 * r2)) rfl (cw_ring (by omega)) rfl rfl hl.1 ⟨⟨Nat.le_of_ble_eq_true rfl, Nat.le_of_ble_eq_true rfl⟩, Nat.le_of_ble_eq_true rfl, Nat.le_refl _, Nat.le_refl _⟩ rfl dX3_closeSum_47 (fun z_47 h_47 => ?_)
              have h_47 : z_47 = ry9 (sI (sI u 0 f2) 1 g2) r2 j ∧ ∀ K : Int, 0 ≤ K → RB K (sI (sI u 0 f2) 1 g2) r2 → -K ≤ z_47 ∧ z_47 ≤ K := h_47
              have hb_47 := h_47.2 40 (by omega) (p2)
              refine j_iadd SS (x := z_41) (y := z_47) dX3_closeSum_50 ?_
              have ex1 : z_29 = u.1.1 r i.toNat := by rw [h_29.1]; exact if_pos (by omega)
              have ex2 : z_35 = u.1.1 r2 j.toNat := by rw [h_35.1]; exact if_pos (by omega)
              have ey1 : z_41 = u.1.2.1 r i.toNat := by rw [h_41.1]; exact if_pos (by omega)
              have ey2 : z_47 = u.1.2.1 r2 j.toNat := by rw [h_47.1]; exact if_pos (by omega)
              refine j_vWv SS (As := [.int (J (z_29 + z_35)), .int (J (z_41 + z_47))]) (rest := []) (c_X3_take l D q (sI (sI u 0 f2) 1 g2) A (cW_D hD)  (z_29 + z_35) (z_41 + z_47) (show HU_ (f2) (g2) from (i17_1)) (show -1000 ≤ (z_29 + z_35) ∧ (z_29 + z_35) ≤ 1000 from (by omega)) (show -2147483648 ≤ (z_41 + z_47) ∧ (z_41 + z_47) ≤ 2147483647 from (by omega))) mf_X3_take kw_482 hG hP hP (ci := 3) (q0 := 2) rfl rfl rfl hS (fun _ h => h) rfl hl.1 ⟨⟨Nat.le_of_ble_eq_true rfl, Nat.le_of_ble_eq_true rfl⟩, Nat.le_of_ble_eq_true rfl, Nat.le_refl _, Nat.le_refl _⟩ rfl dX3_closeSum_51 (fun u51 H locs h_51 hP _ hS => ?_)
              obtain ⟨f_51, g_51, rfl, h_51⟩ := h_51
              have hP : va_P D.1 j_cl (cW D q (sI (sI u 0 f_51) 1 g_51)) H := hP
              have h_51 : ((-80 ≤ (z_29 + z_35) ∧ (z_29 + z_35) ≤ 80 ∧ -80 ≤ (z_41 + z_47) ∧ (z_41 + z_47) ≤ 80) ∧ f_51 = upI (f2) ((z_29 + z_35) + 80).toNat (min (f2 ((z_29 + z_35) + 80).toNat) (z_41 + z_47)) ∧ g_51 = upI (g2) ((z_29 + z_35) + 80).toNat (max (g2 ((z_29 + z_35) + 80).toNat) (z_41 + z_47)) ∨ ¬ (-80 ≤ (z_29 + z_35) ∧ (z_29 + z_35) ≤ 80 ∧ -80 ≤ (z_41 + z_47) ∧ (z_41 + z_47) ≤ 80) ∧ f_51 = f2 ∧ g_51 = g2) ∧ HU_ f_51 g_51 := h_51
              refine lv_iinc (v := J (j + 1)) (lv' := [(4, .int (J (j + 1))), (0, .ref (q 2)), (1, .ref (q (9 + 5 * r))), (2, .ref (q (9 + 5 * r2))), (3, .int (J i))]) SS.1 SS.2.1 dX3_closeSum_54 hl (k := 4) rfl (J_add _ _) (by decide) rfl (fun ls hl => ?_)
              refine lv_goto (tgt := 17) SS.1 SS.2.1 dX3_closeSum_57 (by decide) ?_
              exact ih_17 (j + 1) f_51 g_51 _ _ hP hS ls (lv_sub hl [1, 2, 3, 4, 0] rfl) (by omega) (h_51.2) (by rcases h_51.1 with ⟨w1, w2, w3⟩ | ⟨w1, _⟩; (rw [w2, w3]; exact HUL_c (HUL_t i17_2 (by omega) (by omega)) (fun x y => rs_s (A := u.1.1 r i.toNat) (C := u.1.2.1 r i.toNat) (x0 := z_29 + z_35) (y0 := z_41 + z_47) i17_0.1 (by rw [ex1, ex2]) (by rw [ey1, ey2]) x y)); omega) (by omega)
        exact L_17 ((u.1.2.2.1 r2 - (0 : Int)).toNat + 1) 0 f1 g1 _ _ hP hS ls (lv_sub hl [1, 2, 3, 4, 0] rfl) (by omega) (i6_1) (HUL_c i6_2 (fun x y => ⟨fun q => by rcases q with q | ⟨b, q1, _⟩; exact q; omega, Or.inl⟩)) (Nat.lt_succ_self _)
  exact L_6 ((u.1.2.2.1 r - (0 : Int)).toNat + 1) 0 f_1 g_1 _ _ hP hS ls (lv_sub hl [1, 2, 3, 0] rfl) (by omega) (h_1.2.2) (by rw [h_1.1, h_1.2.1]; exact HUL_c HUL_0 (fun x y => ⟨fun ⟨a, b, c, d, ⟨k, k1, _⟩, _⟩ => by omega, False.elim⟩)) (Nat.lt_succ_self _)


def cSame (u u' : CS) : Prop := ∀ r : Nat, r < 8 → u'.1.2.2.1 r = u.1.2.2.1 r ∧ u'.1.1 r = u.1.1 r ∧ u'.1.2.1 r = u.1.2.1 r
def cNew (u u' : CS) (t : Nat) (n : Int) (X Y : Nat → Int) : Prop := (u'.1.2.2.1 t = n ∧ ∀ a : Nat, (a : Int) < n → u'.1.1 t a = X a ∧ u'.1.2.1 t a = Y a) ∧ ∀ r : Nat, r < 8 → r ≠ t → u'.1.2.2.1 r = u.1.2.2.1 r ∧ u'.1.1 r = u.1.1 r ∧ u'.1.2.1 r = u.1.2.1 r
theorem cs_refl {u : CS} : cSame u u := fun _ _ => ⟨rfl, rfl, rfl⟩
theorem cs_t {u v w : CS} (h : cSame u v) (k : cSame v w) : cSame u w := fun r hr => ⟨(k r hr).1.trans (h r hr).1, (k r hr).2.1.trans (h r hr).2.1, (k r hr).2.2.trans (h r hr).2.2⟩
theorem cn_t {u v w : CS} {t : Nat} {n : Int} {X Y : Nat → Int} (h : cSame u v) (k : cNew v w t n X Y) : cNew u w t n X Y := ⟨k.1, fun r hr ht => ⟨(k.2 r hr ht).1.trans (h r hr).1, (k.2 r hr ht).2.1.trans (h r hr).2.1, (k.2 r hr ht).2.2.trans (h r hr).2.2⟩⟩
def mkC (u u' : CS) (t : Nat) (z : Int) (S : Int → Int → Prop) : Prop := ∃ (n : Int) (X Y : Nat → Int), HS S n X Y ∧ ((z = n ∧ (n ≤ 24 ∧ bd 40 X Y n) ∧ cNew u u' t n X Y) ∨ (z = -3 ∧ ¬ (n ≤ 24 ∧ bd 40 X Y n) ∧ cSame u u'))
theorem mkC_r {u v u' : CS} {t : Nat} {z n : Int} {X Y : Nat → Int} {S : Int → Int → Prop} (h : cSame u v) (hH : HS S n X Y) (k : (z = -3 ∧ ¬ (n ≤ 24 ∧ bd 40 X Y n) ∧ cSame v u') ∨ (z = n ∧ n ≤ 24 ∧ bd 40 X Y n ∧ cNew v u' t n X Y)) : mkC u u' t z S := by
  refine ⟨n, X, Y, hH, ?_⟩
  rcases k with ⟨k1, k2, k3⟩ | ⟨k1, k2, k3, k4⟩
  · exact Or.inr ⟨k1, k2, cs_t h k3⟩
  · exact Or.inl ⟨k1, ⟨k2, k3⟩, cn_t h k4⟩
def clC (u u' : CS) (s z : Int) : Prop := (¬ (0 ≤ s ∧ s ≤ 7) ∧ z = -1 ∧ cSame u u') ∨ ((0 ≤ s ∧ s ≤ 7) ∧ z = u.1.2.2.1 s.toNat ∧ cNew u u' s.toNat 0 (fun _ => 0) (fun _ => 0))
def adC (u u' : CS) (s x y z : Int) : Prop := (¬ ((0 ≤ s ∧ s ≤ 7) ∧ (-40 ≤ x ∧ x ≤ 40) ∧ -40 ≤ y ∧ y ≤ 40) ∧ z = -1 ∧ cSame u u') ∨ ((0 ≤ s ∧ s ≤ 7) ∧ ((-40 ≤ x ∧ x ≤ 40) ∧ -40 ≤ y ∧ y ≤ 40) ∧ mkC u u' s.toNat z (fun a b => RP u s.toNat a b ∨ (a = x ∧ b = y)))
def smC (u u' : CS) (s s2 t z : Int) : Prop := (¬ ((0 ≤ s ∧ s ≤ 7) ∧ (0 ≤ s2 ∧ s2 ≤ 7) ∧ 0 ≤ t ∧ t ≤ 7) ∧ z = -1 ∧ cSame u u') ∨ ((0 ≤ s ∧ s ≤ 7) ∧ (0 ≤ s2 ∧ s2 ≤ 7) ∧ (0 ≤ t ∧ t ≤ 7) ∧ mkC u u' t.toNat z (SM (RP u s.toNat) (RP u s2.toNat)))
def mpC (u u' : CS) (s t a b c d e f z : Int) : Prop := (¬ ((0 ≤ s ∧ s ≤ 7) ∧ (0 ≤ t ∧ t ≤ 7) ∧ six a b c d e f) ∧ z = -1 ∧ cSame u u') ∨ ((0 ≤ s ∧ s ≤ 7) ∧ (0 ≤ t ∧ t ≤ 7) ∧ six a b c d e f ∧ ((¬ (a * d - b * c = 1 ∨ a * d - b * c = -1) ∧ z = -2 ∧ cSame u u') ∨ ((a * d - b * c = 1 ∨ a * d - b * c = -1) ∧ ((z = -3 ∧ cSame u u' ∧ ∃ x y : Int, MP (RP u s.toNat) a b c d e f x y ∧ ¬ ((-40 ≤ x ∧ x ≤ 40) ∧ -40 ≤ y ∧ y ≤ 40)) ∨ mkC u u' t.toNat z (MP (RP u s.toNat) a b c d e f)))))
theorem rm_s {u : CS} {r : Nat} {i a b c d e f x0 y0 : Int} (h : 0 ≤ i) (ex : x0 = a * u.1.1 r i.toNat + b * u.1.2.1 r i.toNat + e) (ey : y0 = c * u.1.1 r i.toNat + d * u.1.2.1 r i.toNat + f) (x y : Int) : MP (RPi u r (i + 1)) a b c d e f x y ↔ MP (RPi u r i) a b c d e f x y ∨ (x = x0 ∧ y = y0) := by
  constructor
  · rintro ⟨p, q, ⟨k, k1, k2, k3⟩, r1, r2⟩
    by_cases w : (k : Int) = i
    · rw [show k = i.toNat by omega] at k2 k3
      rw [k2, k3] at r1 r2
      exact Or.inr ⟨r1.trans ex.symm, r2.trans ey.symm⟩
    · exact Or.inl ⟨p, q, ⟨k, by omega, k2, k3⟩, r1, r2⟩
  · rintro (⟨p, q, ⟨k, k1, k2, k3⟩, r⟩ | ⟨q1, q2⟩)
    · exact ⟨p, q, ⟨k, by omega, k2, k3⟩, r⟩
    · exact ⟨_, _, ⟨i.toNat, by omega, rfl, rfl⟩, q1.trans ex, q2.trans ey⟩


theorem ex_max (F : Nat → Int) : ∀ n : Nat, ∃ a : Nat, a ≤ n ∧ ∀ b : Nat, b ≤ n → F b ≤ F a := by
  intro n
  induction n with
  | zero => exact ⟨0, Nat.le_refl 0, fun b hb => by rw [show b = 0 by omega]; exact Int.le_refl _⟩
  | succ n ih =>
    obtain ⟨a, h1, h2⟩ := ih
    by_cases e : F a ≤ F (n + 1)
    · refine ⟨n + 1, Nat.le_refl _, fun b hb => ?_⟩
      by_cases w : b = n + 1
      · rw [w]; exact Int.le_refl _
      · have := h2 b (by omega); omega
    · refine ⟨a, by omega, fun b hb => ?_⟩
      by_cases w : b = n + 1
      · rw [w]; omega
      · exact h2 b (by omega)
theorem nmul {a b : Int} (ha : a ≤ 0) (hb : 0 ≤ b) : a * b ≤ 0 := by
  have := Int.mul_nonneg (show 0 ≤ -a by omega) hb
  rw [Int.neg_mul] at this
  omega
theorem nmul2 {a b : Int} (ha : 0 < a) (hb : b < 0) : a * b < 0 := by
  have := Int.mul_pos ha (show 0 < -b by omega)
  rw [Int.mul_neg] at this
  omega
/-- a corner that is best among its neighbours is best of all -/
theorem max_at {S : Int → Int → Prop} {α β g1 g2 p1 p2 e1 e2 x y : Int} (E1 : edS S g1 g2 p1 p2) (E2 : edS S p1 p2 e1 e2) (sg : S g1 g2) (se : S e1 e2) (sq : S x y) (hg : α * g1 + β * g2 ≤ α * p1 + β * p2) (he : α * e1 + β * e2 ≤ α * p1 + β * p2) : α * x + β * y ≤ α * p1 + β * p2 := by
  apply Int.not_lt.mp
  intro hl
  have q1 := E1.2 x y sq
  have q2 := E2.2 x y sq
  have q3 := E1.2 e1 e2 se
  have q4 := E2.2 g1 g2 sg
  rw [cx_sh] at q1 q3
  have f4 : cx (e1 - p1) (e2 - p2) (g1 - p1) (g2 - p2) = cx (p1 - g1) (p2 - g2) (e1 - p1) (e2 - p2) := by unfold cx; grind
  rw [f4] at q4
  have id0 : cx (p1 - g1) (p2 - g2) (e1 - p1) (e2 - p2) * (α * (x - p1) + β * (y - p2)) = cx (p1 - g1) (p2 - g2) (x - p1) (y - p2) * (α * (e1 - p1) + β * (e2 - p2)) - cx (e1 - p1) (e2 - p2) (x - p1) (y - p2) * (α * (p1 - g1) + β * (p2 - g2)) := by unfold cx; grind
  have La : 0 ≤ α * (p1 - g1) + β * (p2 - g2) := by
    rw [show α * (p1 - g1) + β * (p2 - g2) = (α * p1 + β * p2) - (α * g1 + β * g2) by grind]; omega
  have Lb : α * (e1 - p1) + β * (e2 - p2) ≤ 0 := by
    rw [show α * (e1 - p1) + β * (e2 - p2) = (α * e1 + β * e2) - (α * p1 + β * p2) by grind]; omega
  have Lc : 0 < α * (x - p1) + β * (y - p2) := by
    rw [show α * (x - p1) + β * (y - p2) = (α * x + β * y) - (α * p1 + β * p2) by grind]; omega
  have m1 := nmul Lb q1.1
  rw [Int.mul_comm] at m1
  have m2 := Int.mul_nonneg q2.1 La
  have z0 : cx (p1 - g1) (p2 - g2) (e1 - p1) (e2 - p2) = 0 := by
    by_cases w : cx (p1 - g1) (p2 - g2) (e1 - p1) (e2 - p2) = 0
    · exact w
    · have := Int.mul_pos (show 0 < cx (p1 - g1) (p2 - g2) (e1 - p1) (e2 - p2) by omega) Lc
      omega
  have b3 := q3.2 z0
  have b4 := q4.2 z0
  have n1 := E1.1
  have eg : e1 = g1 ∧ e2 = g2 := by unfold lxn at b3 b4; omega
  obtain ⟨rfl, rfl⟩ := eg
  have f2 : cx (e1 - p1) (e2 - p2) (x - p1) (y - p2) = - cx (p1 - e1) (p2 - e2) (x - p1) (y - p2) := by unfold cx; grind
  have q21 := q2.1
  have q11 := q1.1
  have z1 : cx (p1 - e1) (p2 - e2) (x - p1) (y - p2) = 0 := by omega
  have b1 := q1.2 z1
  have i1 : (α * (x - p1) + β * (y - p2)) * (p1 - e1) = (x - p1) * (α * (p1 - e1) + β * (p2 - e2)) + β * cx (p1 - e1) (p2 - e2) (x - p1) (y - p2) := by unfold cx; grind
  have i2 : (α * (x - p1) + β * (y - p2)) * (p2 - e2) = (y - p2) * (α * (p1 - e1) + β * (p2 - e2)) - α * cx (p1 - e1) (p2 - e2) (x - p1) (y - p2) := by unfold cx; grind
  have i3 : cx (p1 - e1) (p2 - e2) (x - p1) (y - p2) = (p1 - e1) * (y - p2) - (p2 - e2) * (x - p1) := rfl
  rw [z1, Int.mul_zero] at i1 i2
  rw [z1] at i3
  generalize α * (p1 - e1) + β * (p2 - e2) = A at La i1 i2 m2
  generalize α * (x - p1) + β * (y - p2) = C at Lc i1 i2
  by_cases w : p1 - e1 = 0
  · rw [w, Int.zero_mul] at i3
    have hx : x - p1 = 0 := by
      by_cases z : x - p1 = 0
      · exact z
      · have := Int.mul_ne_zero (show p2 - e2 ≠ 0 by omega) z
        omega
    rcases (show 0 < p2 - e2 ∨ p2 - e2 < 0 by omega) with s | s
    · have hy : y - p2 ≤ 0 := by unfold lxn at b1; omega
      have t1 := Int.mul_pos Lc s
      have t2 := nmul hy La
      omega
    · have hy : 0 ≤ y - p2 := by unfold lxn at b1; omega
      have t1 := nmul2 Lc s
      have t2 := Int.mul_nonneg hy La
      omega
  · rcases (show 0 < p1 - e1 ∨ p1 - e1 < 0 by omega) with s | s
    · have hx : x - p1 ≤ 0 := by unfold lxn at b1; omega
      have t1 := Int.mul_pos Lc s
      have t2 := nmul hx La
      omega
    · have hx : 0 ≤ x - p1 := by unfold lxn at b1; omega
      have t1 := nmul2 Lc s
      have t2 := Int.mul_nonneg hx La
      omega
theorem nxt_c {X Y : Nat → Int} {n : Int} {a : Nat} (ha : (a : Int) < n) : ∃ b : Nat, (b : Int) < n ∧ nxt X n a = X b ∧ nxt Y n a = Y b := by
  by_cases e : (a : Int) + 1 < n
  · exact ⟨a + 1, by omega, if_pos e, if_pos e⟩
  · exact ⟨0, by omega, if_neg e, if_neg e⟩
theorem nxt_p {X Y : Nat → Int} {n : Int} {a : Nat} (ha : (a : Int) < n) : ∃ b : Nat, (b : Int) < n ∧ nxt X n b = X a ∧ nxt Y n b = Y a := by
  by_cases e : a = 0
  · refine ⟨(n - 1).toNat, by omega, ?_, ?_⟩
    · unfold nxt; rw [if_neg (by omega), e]
    · unfold nxt; rw [if_neg (by omega), e]
  · refine ⟨a - 1, by omega, ?_, ?_⟩
    · unfold nxt; rw [if_pos (by omega), show a - 1 + 1 = a by omega]
    · unfold nxt; rw [if_pos (by omega), show a - 1 + 1 = a by omega]
/-- what bounds the corners bounds all -/
theorem HS_max {S : Int → Int → Prop} {n : Int} {X Y : Nat → Int} {α β M : Int} (h : HS S n X Y) (hM : ∀ a : Nat, (a : Int) < n → α * X a + β * Y a ≤ M) {x y : Int} (s : S x y) : α * x + β * y ≤ M := by
  have hc := HS_S h
  rcases h with ⟨_, h⟩ | ⟨h1, h2, h3, ⟨h4, h5⟩ | ⟨h4, h5, h6⟩⟩
  · exact absurd s (h x y)
  · obtain ⟨e1, e2⟩ := h5 x y s
    rw [e1, e2]; exact hM 0 (by omega)
  · obtain ⟨a, ha, hb⟩ := ex_max (fun b => α * X b + β * Y b) (n - 1).toNat
    obtain ⟨b, b1, b2, b3⟩ := nxt_c (X := X) (Y := Y) (n := n) (a := a) (by omega)
    obtain ⟨p, p1, p2, p3⟩ := nxt_p (X := X) (Y := Y) (n := n) (a := a) (by omega)
    have E1 := h6 p p1
    have E2 := h6 a (by omega)
    rw [p2, p3] at E1
    rw [b2, b3] at E2
    have q := max_at (α := α) (β := β) E1 E2 (hc p p1) (hc b b1) s (hb p (by omega)) (hb b (by omega))
    have := hM a (by omega)
    omega
theorem HS_box {S : Int → Int → Prop} {n K : Int} {X Y : Nat → Int} (h : HS S n X Y) (hb : bd K X Y n) {x y : Int} (s : S x y) : (-K ≤ x ∧ x ≤ K) ∧ -K ≤ y ∧ y ≤ K := by
  have a1 := HS_max (α := 1) (β := 0) (M := K) h (fun a ha => by have := hb a ha; omega) s
  have a2 := HS_max (α := -1) (β := 0) (M := K) h (fun a ha => by have := hb a ha; omega) s
  have a3 := HS_max (α := 0) (β := 1) (M := K) h (fun a ha => by have := hb a ha; omega) s
  have a4 := HS_max (α := 0) (β := -1) (M := K) h (fun a ha => by have := hb a ha; omega) s
  omega
theorem HS_sub {S T : Int → Int → Prop} {n : Int} {X Y : Nat → Int} (h : HS S n X Y) (hT : ∀ x y : Int, T x y → S x y) (hc : ∀ a : Nat, (a : Int) < n → T (X a) (Y a)) : HS T n X Y := by
  rcases h with ⟨h, h2⟩ | ⟨h1, h2, h3, h4⟩
  · exact Or.inl ⟨h, fun x y t => h2 x y (hT x y t)⟩
  · refine Or.inr ⟨h1, hc 0 (by omega), fun x y t => h3 x y (hT x y t), ?_⟩
    rcases h4 with ⟨h4, h5⟩ | ⟨h4, h5, h6⟩
    · exact Or.inl ⟨h4, fun x y t => h5 x y (hT x y t)⟩
    · exact Or.inr ⟨h4, fun a a0 ha => ⟨hc a ha, (h5 a a0 ha).2⟩, fun a ha => ⟨(h6 a ha).1, fun x y t => (h6 a ha).2 x y (hT x y t)⟩⟩
/-! both sides hold the same -/
def EQS (u : CS) (v : MS) : Prop := ∀ r : Nat, r < 8 → u.1.2.2.1 r = mN v r ∧ (∀ a : Nat, (a : Int) < mN v r → u.1.1 r a = mX v r a ∧ u.1.2.1 r a = mY v r a) ∧ HS (SP v r) (mN v r) (fun a => mX v r a) (fun a => mY v r a)
theorem ms_N {v v' : MS} (h : mSame v v') : mN v' = mN v ∧ mX v' = mX v ∧ mY v' = mY v := by
  obtain ⟨h0, h1, h2⟩ := h
  have eN : mN v' = mN v := by funext s; show v'.1 0 s.toNat = v.1 0 s.toNat; rw [h0]
  refine ⟨eN, ?_, ?_⟩
  · funext s i; unfold mX; rw [h1, eN]
  · funext s i; unfold mY; rw [h2, eN]
theorem EQS_s {u u' : CS} {v v' : MS} (h : EQS u v) (hc : cSame u u') (hm : mSame v v') : EQS u' v' := by
  intro r hr
  obtain ⟨a1, a2, a3⟩ := h r hr
  obtain ⟨b1, b2, b3⟩ := hc r hr
  obtain ⟨e1, e2, e3⟩ := ms_N hm
  have e4 : SP v' r = SP v r := by unfold SP; rw [e1, e2, e3]
  rw [b1, b2, b3, e1, e2, e3, e4]
  exact ⟨a1, a2, a3⟩
theorem ms_refl {v : MS} : mSame v v := ⟨rfl, rfl, rfl⟩
theorem EQS_P {u : CS} {v : MS} (h : EQS u v) {r : Nat} (hr : r < 8) (x y : Int) : RP u r x y ↔ SP v r x y := by
  obtain ⟨a1, a2, _⟩ := h r hr
  unfold RP RPi SP
  rw [a1]
  constructor
  · rintro ⟨a, q1, q2, q3⟩
    exact ⟨a, q1, q2.trans (a2 a q1).1, q3.trans (a2 a q1).2⟩
  · rintro ⟨a, q1, q2, q3⟩
    exact ⟨a, q1, q2.trans (a2 a q1).1.symm, q3.trans (a2 a q1).2.symm⟩
theorem EQS_Ps {u : CS} {v : MS} (h : EQS u v) {s : Int} (hs : 0 ≤ s ∧ s ≤ 7) (x y : Int) : RP u s.toNat x y ↔ SP v s x y := by
  have := EQS_P h (r := s.toNat) (by omega) x y
  rw [show ((s.toNat : Nat) : Int) = s by omega] at this
  exact this
/-- a shape made anew, alike -/
theorem EQS_new {u u' : CS} {v v' : MS} {t n : Int} {X Y X' Y' : Nat → Int} {S : Int → Int → Prop} (h : EQS u v) (ht : 0 ≤ t ∧ t ≤ 7) (hH : HS S n X' Y') (e : ∀ a : Nat, (a : Int) < n → X a = X' a ∧ Y a = Y' a) (hc : cNew u u' t.toNat n X Y) (hm : mNew v v' t n X' Y') : EQS u' v' := by
  intro r hr
  obtain ⟨⟨c1, c2⟩, c3⟩ := hc
  obtain ⟨⟨m1, m2⟩, m3⟩ := hm
  by_cases w : r = t.toNat
  · subst w
    rw [show ((t.toNat : Nat) : Int) = t by omega]
    rw [c1, m1]
    refine ⟨rfl, fun a ha => ?_, ?_⟩
    · rw [(c2 a ha).1, (c2 a ha).2, (m2 a ha).1, (m2 a ha).2]; exact e a ha
    · have q := HS_sub (T := SP v' t) hH (fun x y ⟨a, a1, a2, a3⟩ => by
        rw [m1] at a1
        rw [a2, a3, (m2 a a1).1, (m2 a a1).2]
        exact HS_S hH a a1) (fun a ha => ⟨a, by rw [m1]; exact ha, (m2 a ha).1.symm, (m2 a ha).2.symm⟩)
      exact HS_c q (fun _ _ => Iff.rfl) (fun a ha => m2 a ha)
  · obtain ⟨a1, a2, a3⟩ := h r hr
    obtain ⟨d1, d2, d3⟩ := c3 r hr w
    obtain ⟨n1, n2⟩ := m3 r (by omega) (by omega) (by omega)
    have key : ∀ a : Nat, (a : Int) < mN v r → mX v' r a = mX v r a ∧ mY v' r a = mY v r a := fun a ha => n2 (by omega) a (by omega)
    rw [d1, d2, d3, n1]
    refine ⟨a1, fun a ha => ?_, ?_⟩
    · rw [(key a ha).1, (key a ha).2]; exact a2 a ha
    · refine HS_c a3 (fun x y => ?_) (fun a ha => key a ha)
      unfold SP
      rw [n1]
      constructor
      · rintro ⟨a, q1, q2, q3⟩
        exact ⟨a, q1, q2.trans (key a q1).1.symm, q3.trans (key a q1).2.symm⟩
      · rintro ⟨a, q1, q2, q3⟩
        exact ⟨a, q1, q2.trans (key a q1).1, q3.trans (key a q1).2⟩
theorem EQS_mk {u u' : CS} {v v' : MS} {t z z' : Int} {S S' : Int → Int → Prop} (h : EQS u v) (ht : 0 ≤ t ∧ t ≤ 7) (hS : ∀ x y : Int, S x y ↔ S' x y) (hc : mkC u u' t.toNat z S) (hm : mkM v v' t z' S') : z = z' ∧ EQS u' v' := by
  obtain ⟨n, X, Y, H, k⟩ := hc
  obtain ⟨n', X', Y', H', k'⟩ := hm
  have H2 := HS_c H hS (fun _ _ => ⟨rfl, rfl⟩)
  obtain ⟨en, e⟩ := HS_u H2 H'
  subst en
  have hb : bd 40 X Y n ↔ bd 40 X' Y' n := ⟨fun q a ha => by rw [← (e a ha).1, ← (e a ha).2]; exact q a ha, fun q a ha => by rw [(e a ha).1, (e a ha).2]; exact q a ha⟩
  rcases k with ⟨k1, k2, k3⟩ | ⟨k1, k2, k3⟩ <;> rcases k' with ⟨l1, l2, l3⟩ | ⟨l1, l2, l3⟩
  · exact ⟨by omega, EQS_new h ht H' e k3 l3⟩
  · exact absurd ⟨k2.1, hb.mp k2.2⟩ l2
  · exact absurd ⟨l2.1, hb.mpr l2.2⟩ k2
  · exact ⟨by omega, EQS_s h k3 l3⟩
theorem EQS_cl {u u' : CS} {v v' : MS} {s z z' : Int} (h : EQS u v) (hc : clC u u' s z) (hm : clM v v' s z') : z = z' ∧ EQS u' v' := by
  rcases hc with ⟨a1, a2, a3⟩ | ⟨a1, a2, a3⟩ <;> rcases hm with ⟨b1, b2, b3⟩ | ⟨b1, b2, b3⟩
  · exact ⟨by omega, EQS_s h a3 b3⟩
  · exact absurd b1 a1
  · exact absurd a1 b1
  · have q := (h s.toNat (by omega)).1
    rw [show ((s.toNat : Nat) : Int) = s by omega] at q
    exact ⟨by omega, EQS_new (S := fun _ _ => False) h a1 (Or.inl ⟨rfl, fun _ _ q => q⟩) (fun _ _ => ⟨rfl, rfl⟩) a3 b3⟩
theorem EQS_ad {u u' : CS} {v v' : MS} {s x y z z' : Int} (h : EQS u v) (hc : adC u u' s x y z) (hm : adM v v' s x y z') : z = z' ∧ EQS u' v' := by
  rcases hc with ⟨a1, a2, a3⟩ | ⟨a1, a2, a3⟩ <;> rcases hm with ⟨b1, b2, b3⟩ | ⟨b1, b2, b3⟩
  · exact ⟨by omega, EQS_s h a3 b3⟩
  · exact absurd ⟨b1, b2⟩ a1
  · exact absurd ⟨a1, a2⟩ b1
  · exact EQS_mk h a1 (fun p q => by rw [EQS_Ps h a1]) a3 b3
theorem EQS_sm {u u' : CS} {v v' : MS} {s s2 t z z' : Int} (h : EQS u v) (hc : smC u u' s s2 t z) (hm : smM v v' s s2 t z') : z = z' ∧ EQS u' v' := by
  rcases hc with ⟨a1, a2, a3⟩ | ⟨a1, a2, a3, a4⟩ <;> rcases hm with ⟨b1, b2, b3⟩ | ⟨b1, b2, b3, b4⟩
  · exact ⟨by omega, EQS_s h a3 b3⟩
  · exact absurd ⟨b1, b2, b3⟩ a1
  · exact absurd ⟨a1, a2, a3⟩ b1
  · refine EQS_mk h a3 (fun p q => ?_) a4 b4
    unfold SM
    constructor
    · rintro ⟨a, b, c, d, q1, q2, q3⟩
      exact ⟨a, b, c, d, (EQS_Ps h a1 _ _).mp q1, (EQS_Ps h a2 _ _).mp q2, q3⟩
    · rintro ⟨a, b, c, d, q1, q2, q3⟩
      exact ⟨a, b, c, d, (EQS_Ps h a1 _ _).mpr q1, (EQS_Ps h a2 _ _).mpr q2, q3⟩
theorem EQS_mp {u u' : CS} {v v' : MS} {s t a b c d e f z z' : Int} (h : EQS u v) (hc : mpC u u' s t a b c d e f z) (hm : mpM v v' s t a b c d e f z') : z = z' ∧ EQS u' v' := by
  rcases hc with ⟨a1, a2, a3⟩ | ⟨a1, a2, a3, a4⟩ <;> rcases hm with ⟨b1, b2, b3⟩ | ⟨b1, b2, b3, b4⟩
  · exact ⟨by omega, EQS_s h a3 b3⟩
  · exact absurd ⟨b1, b2, b3⟩ a1
  · exact absurd ⟨a1, a2, a3⟩ b1
  · rcases a4 with ⟨c1, c2, c3⟩ | ⟨c1, c2⟩ <;> rcases b4 with ⟨d1, d2, d3⟩ | ⟨d1, d2⟩
    · exact ⟨by omega, EQS_s h c3 d3⟩
    · exact absurd d1 c1
    · exact absurd c1 d1
    · have hS : ∀ p q : Int, MP (RP u s.toNat) a b c d e f p q ↔ MP (SP v s) a b c d e f p q := fun p q => by
        unfold MP
        constructor
        · rintro ⟨p, q, w1, w2⟩
          exact ⟨p, q, (EQS_Ps h a1 _ _).mp w1, w2⟩
        · rintro ⟨p, q, w1, w2⟩
          exact ⟨p, q, (EQS_Ps h a1 _ _).mpr w1, w2⟩
      rcases c2 with ⟨k1, k2, x, y, k3, k4⟩ | c2
      · obtain ⟨n, X, Y, H, k⟩ := d2
        rcases k with ⟨l1, l2, l3⟩ | ⟨l1, l2, l3⟩
        · exact absurd (HS_box H l2.2 ((hS x y).mp k3)) k4
        · exact ⟨by omega, EQS_s h k2 l3⟩
      · exact EQS_mk h a2 hS c2 d2


theorem EDG_max {S : Int → Int → Prop} {n : Int} {X Y : Nat → Int} {α β M : Int} (hn : 0 < n) (h6 : ∀ a : Nat, (a : Int) < n → edS S (X a) (Y a) (nxt X n a) (nxt Y n a)) (hc : ∀ a : Nat, (a : Int) < n → S (X a) (Y a)) (hM : ∀ a : Nat, (a : Int) < n → α * X a + β * Y a ≤ M) {x y : Int} (s : S x y) : α * x + β * y ≤ M := by
  obtain ⟨a, ha, hb⟩ := ex_max (fun b => α * X b + β * Y b) (n - 1).toNat
  obtain ⟨b, b1, b2, b3⟩ := nxt_c (X := X) (Y := Y) (n := n) (a := a) (by omega)
  obtain ⟨p, p1, p2, p3⟩ := nxt_p (X := X) (Y := Y) (n := n) (a := a) (by omega)
  have E1 := h6 p p1
  have E2 := h6 a (by omega)
  rw [p2, p3] at E1
  rw [b2, b3] at E2
  have q := max_at (α := α) (β := β) E1 E2 (hc p p1) (hc b b1) s (hb p (by omega)) (hb b (by omega))
  have := hM a (by omega)
  omega
/-- the origin is strictly left of each side: then it lies between the ends either way -/
theorem HS_org {S : Int → Int → Prop} {n : Int} {X Y : Nat → Int} (h : HS S n X Y) (hn : 3 ≤ n) (hL : ∀ a : Nat, (a : Int) < n → 0 < (nxt Y n a - Y a) * X a - (nxt X n a - X a) * Y a) : (∀ a : Nat, (a : Int) < n → X 0 ≤ X a) ∧ X 0 ≤ 0 ∧ (∃ a : Nat, (a : Int) < n ∧ 0 ≤ X a) ∧ (∃ a : Nat, (a : Int) < n ∧ Y a ≤ 0) ∧ ∃ a : Nat, (a : Int) < n ∧ 0 ≤ Y a := by
  have hc := HS_S h
  rcases h with ⟨h, _⟩ | ⟨h1, h2, h3, ⟨h4, h5⟩ | ⟨h4, h5, h6⟩⟩
  · omega
  · omega
  · have E : ∀ a : Nat, (a : Int) < n → edS (fun x y => S x y ∨ (x = 0 ∧ y = 0)) (X a) (Y a) (nxt X n a) (nxt Y n a) := fun a ha => by
      refine ⟨(h6 a ha).1, fun x y s => ?_⟩
      rcases s with s | ⟨rfl, rfl⟩
      · exact (h6 a ha).2 x y s
      · have q := hL a ha
        have e : cx (nxt X n a - X a) (nxt Y n a - Y a) (0 - X a) (0 - Y a) = (nxt Y n a - Y a) * X a - (nxt X n a - X a) * Y a := by unfold cx; grind
        exact ⟨by omega, fun z => by omega⟩
    have C : ∀ a : Nat, (a : Int) < n → S (X a) (Y a) ∨ (X a = 0 ∧ Y a = 0) := fun a ha => Or.inl (hc a ha)
    have O : (fun x y => S x y ∨ (x = 0 ∧ y = 0)) (0 : Int) (0 : Int) := Or.inr ⟨rfl, rfl⟩
    have X0 : ∀ a : Nat, (a : Int) < n → X 0 ≤ X a := fun a ha => by
      have q := h3 _ _ (hc a ha)
      unfold lxn at q; omega
    refine ⟨X0, ?_, ?_, ?_, ?_⟩
    · have q := EDG_max (α := -1) (β := 0) (M := - X 0) h1 E C (fun a ha => by have := X0 a ha; omega) O
      omega
    · apply Classical.byContradiction
      intro w
      have q := EDG_max (α := 1) (β := 0) (M := -1) h1 E C (fun a ha => by
        have : ¬ 0 ≤ X a := fun z => w ⟨a, ha, z⟩
        omega) O
      omega
    · apply Classical.byContradiction
      intro w
      have q := EDG_max (α := 0) (β := -1) (M := -1) h1 E C (fun a ha => by
        have : ¬ Y a ≤ 0 := fun z => w ⟨a, ha, z⟩
        omega) O
      omega
    · apply Classical.byContradiction
      intro w
      have q := EDG_max (α := 0) (β := 1) (M := -1) h1 E C (fun a ha => by
        have : ¬ 0 ≤ Y a := fun z => w ⟨a, ha, z⟩
        omega) O
      omega
/-- a side at distance 1 -/
theorem far_1 {a b x y : Int} (h : a.tdiv (Int.gcd b a : Int) * x + (-b).tdiv (Int.gcd b a : Int) * y = 1) : 0 < a * x - b * y := by
  have d1 : a.tdiv (Int.gcd b a : Int) * (Int.gcd b a : Int) = a := Int.tdiv_mul_cancel (Int.gcd_dvd_right b a)
  have d2 : (-b).tdiv (Int.gcd b a : Int) * (Int.gcd b a : Int) = -b := Int.tdiv_mul_cancel (Int.dvd_neg.mpr (Int.gcd_dvd_left b a))
  have g0 : 0 ≤ (Int.gcd b a : Int) := Int.natCast_nonneg _
  have g1 : (Int.gcd b a : Int) ≠ 0 := by
    intro e
    rw [e, Int.tdiv_zero, Int.tdiv_zero, Int.zero_mul, Int.zero_mul] at h
    omega
  generalize (Int.gcd b a : Int) = g at h d1 d2 g0 g1
  generalize a.tdiv g = p at h d1
  generalize (-b).tdiv g = q at h d2
  have hb : b = -(q * g) := by omega
  have e : a * x - b * y = g * (p * x + q * y) := by rw [hb, ← d1]; grind
  rw [e, h]
  omega
/-! the reference -/
def mNX (u : MS) (s i : Int) : Int := (mY u s (i + 1) - mY u s i).tdiv (mS u s i)
def mNY (u : MS) (s i : Int) : Int := (mX u s i - mX u s (i + 1)).tdiv (mS u s i)
def mFar (u : MS) (s i : Int) : Int := mNX u s i * mX u s i + mNY u s i * mY u s i
def mRef (u : MS) (s : Int) : Prop := 2 < mN u s ∧ ∀ i : Int, 0 ≤ i → i < mN u s → mFar u s i = 1
def mLO (u : MS) (s : Int) : Prop := 2 < mN u s ∧ ∀ i : Int, 0 ≤ i → i < mN u s → 0 < wcr u s i 0 0
theorem mRef_LO {u : MS} {s : Int} (h : mRef u s) : mLO u s := ⟨h.1, fun i h0 h1 => by
  have q := h.2 i h0 h1
  unfold mFar mNX mNY mS at q
  rw [show mX u s i - mX u s (i + 1) = -(mX u s (i + 1) - mX u s i) by omega] at q
  have := far_1 q
  unfold wcr
  grind⟩
theorem wLO {u : MS} {s z : Int} (h : wR u s 0 0 z) (L : mLO u s) : z = 2 := by
  have n1 : ¬ wOn u s 0 0 (mN u s) := fun ⟨i, h1, h2, h3, _⟩ => by
    have := L.2 i h1 h2
    omega
  have n2 : wIn u s 0 0 (mN u s) := fun i h1 h2 => by
    have := L.2 i h1 h2
    omega
  have l := L.1
  rcases h with ⟨h, _⟩ | ⟨_, ⟨_, h⟩ | ⟨h, _⟩ | ⟨_, _, h⟩⟩
  · omega
  · exact absurd h n1
  · exact h
  · exact absurd ⟨n2, l⟩ h
/-- the normals before the place i -/
def NMi (u : MS) (s i : Int) : Int → Int → Prop := fun x y => ∃ a : Nat, (a : Int) < i ∧ x = mNX u s a ∧ y = mNY u s a
theorem nm_s {v : MS} {s i x0 y0 : Int} (h : 0 ≤ i) (ex : x0 = mNX v s i) (ey : y0 = mNY v s i) (x y : Int) : NMi v s i x y ∨ (x = x0 ∧ y = y0) ↔ NMi v s (i + 1) x y := by
  constructor
  · rintro (⟨a, q1, q2⟩ | ⟨q1, q2⟩)
    · exact ⟨a, by omega, q2⟩
    · exact ⟨i.toNat, by omega, by rw [show ((i.toNat : Nat) : Int) = i by omega]; exact ⟨q1.trans ex, q2.trans ey⟩⟩
  · rintro ⟨a, q1, q2, q3⟩
    by_cases e : (a : Int) = i
    · rw [e] at q2 q3; exact Or.inr ⟨q2.trans ex.symm, q3.trans ey.symm⟩
    · exact Or.inl ⟨a, by omega, q2, q3⟩
def dlM (u u' : MS) (s t z : Int) : Prop := (¬ ((0 ≤ s ∧ s ≤ 7) ∧ 0 ≤ t ∧ t ≤ 7) ∧ z = -1 ∧ mSame u u') ∨ ((0 ≤ s ∧ s ≤ 7) ∧ (0 ≤ t ∧ t ≤ 7) ∧ ((¬ mRef u s ∧ z = -2 ∧ mSame u u') ∨ (mRef u s ∧ mkM u u' t z (NMi u s (mN u s)))))
/-! the class -/
def dNX (u : CS) (r : Nat) (i : Int) : Int := (dY u r i).tdiv (dS u r i)
def dNY (u : CS) (r : Nat) (i : Int) : Int := (- dX u r i).tdiv (dS u r i)
def dFar (u : CS) (r : Nat) (i : Int) : Int := dNX u r i * rx u r i + dNY u r i * ry9 u r i
def cRef (u : CS) (r : Nat) : Prop := 3 ≤ u.1.2.2.1 r ∧ ∀ i : Int, 0 ≤ i → i < u.1.2.2.1 r → dFar u r i = 1
/-- the origin lies strictly left of each side and between the ends -/
def cAR (u : CS) (r : Nat) : Prop := 3 ≤ u.1.2.2.1 r ∧ (∀ i : Int, 0 ≤ i → i < u.1.2.2.1 r → 0 < dY u r i * rx u r i - dX u r i * ry9 u r i) ∧ rx u r 0 ≤ 0 ∧ (∃ i : Int, 0 ≤ i ∧ i < u.1.2.2.1 r ∧ 0 ≤ rx u r i) ∧ (∃ i : Int, 0 ≤ i ∧ i < u.1.2.2.1 r ∧ ry9 u r i ≤ 0) ∧ ∃ i : Int, 0 ≤ i ∧ i < u.1.2.2.1 r ∧ 0 ≤ ry9 u r i
def cHS (u : CS) (r : Nat) : Prop := ∃ S : Int → Int → Prop, HS S (u.1.2.2.1 r) (u.1.1 r) (u.1.2.1 r)
theorem rx_n {K : Int} {u : CS} {r : Nat} (h : RB K u r) {a : Nat} (ha : (a : Int) < u.1.2.2.1 r) : rx u r a = u.1.1 r a ∧ ry9 u r a = u.1.2.1 r a := by
  have := h.1
  exact ⟨if_pos (by omega), if_pos (by omega)⟩
theorem rx_ar {K : Int} {u : CS} {r : Nat} (h : RB K u r) {a : Nat} (ha : (a : Int) < u.1.2.2.1 r) : rx u r (ar u r a 1) = nxt (u.1.1 r) (u.1.2.2.1 r) a ∧ ry9 u r (ar u r a 1) = nxt (u.1.2.1 r) (u.1.2.2.1 r) a := by
  unfold ar nxt
  by_cases e : (a : Int) + 1 < u.1.2.2.1 r
  · rw [if_neg (by omega), if_neg (by omega), if_pos e, if_pos e]
    exact rx_n h (a := a + 1) (by omega)
  · rw [if_pos (by omega), if_neg e, if_neg e]
    exact rx_n h (a := 0) (by omega)
theorem cRef_AR {K : Int} {u : CS} {r : Nat} (hR : RB K u r) (h : cRef u r) (hh : cHS u r) : cAR u r := by
  have L : ∀ i : Int, 0 ≤ i → i < u.1.2.2.1 r → 0 < dY u r i * rx u r i - dX u r i * ry9 u r i := fun i h0 h1 => by
    have q := h.2 i h0 h1
    unfold dFar dNX dNY dS at q
    exact far_1 q
  obtain ⟨S, hS⟩ := hh
  obtain ⟨_, o1, ⟨a, a1, a2⟩, ⟨b, b1, b2⟩, ⟨c, c1, c2⟩⟩ := HS_org hS h.1 (fun a ha => by
    have q := L a (by omega) ha
    unfold dX dY at q
    rw [(rx_ar hR ha).1, (rx_ar hR ha).2, (rx_n hR ha).1, (rx_n hR ha).2] at q
    exact q)
  have h3 := h.1
  exact ⟨h.1, L, by have e := (rx_n hR (a := 0) (by omega)).1; rw [show ((0 : Nat) : Int) = 0 from rfl] at e; rw [e]; exact o1, ⟨a, by omega, a1, by rw [(rx_n hR a1).1]; exact a2⟩, ⟨b, by omega, b1, by rw [(rx_n hR b1).2]; exact b2⟩, ⟨c, by omega, c1, by rw [(rx_n hR c1).2]; exact c2⟩⟩
theorem low_0 {X Y d e : Int} (hd : 0 < d) (h : 0 < e * X - d * Y) : Y ≤ (X - 0) * e / d := by
  refine (Int.le_ediv_iff_mul_le hd).mpr ?_
  rw [Int.sub_zero, Int.mul_comm Y d, Int.mul_comm X e]
  omega
theorem high_0 {X Y d e : Int} (hd : 0 < -d) (h : 0 < e * X - d * Y) : -Y ≤ (X - 0) * e / (-d) := by
  refine (Int.le_ediv_iff_mul_le hd).mpr ?_
  rw [Int.sub_zero, Int.neg_mul_neg, Int.mul_comm Y d, Int.mul_comm X e]
  omega
def NCi (u : CS) (r : Nat) (i : Int) : Int → Int → Prop := fun x y => ∃ a : Nat, (a : Int) < i ∧ x = dNX u r a ∧ y = dNY u r a
theorem nc_s {u : CS} {r : Nat} {i x0 y0 : Int} (h : 0 ≤ i) (ex : x0 = dNX u r i) (ey : y0 = dNY u r i) (x y : Int) : NCi u r (i + 1) x y ↔ NCi u r i x y ∨ (x = x0 ∧ y = y0) := by
  constructor
  · rintro ⟨a, q1, q2, q3⟩
    by_cases e : (a : Int) = i
    · rw [e] at q2 q3; exact Or.inr ⟨q2.trans ex.symm, q3.trans ey.symm⟩
    · exact Or.inl ⟨a, by omega, q2, q3⟩
  · rintro (⟨a, q1, q2⟩ | ⟨q1, q2⟩)
    · exact ⟨a, by omega, q2⟩
    · exact ⟨i.toNat, by omega, by rw [show ((i.toNat : Nat) : Int) = i by omega]; exact ⟨q1.trans ex, q2.trans ey⟩⟩
def dlC (u u' : CS) (s t z : Int) : Prop := (¬ ((0 ≤ s ∧ s ≤ 7) ∧ 0 ≤ t ∧ t ≤ 7) ∧ z = -1 ∧ cSame u u') ∨ ((0 ≤ s ∧ s ≤ 7) ∧ (0 ≤ t ∧ t ≤ 7) ∧ ((¬ (cRef u s.toNat ∧ cHS u s.toNat) ∧ z = -2 ∧ cSame u u') ∨ (cRef u s.toNat ∧ mkC u u' t.toNat z (NCi u s.toNat (u.1.2.2.1 s.toNat)))))
/-! both -/
theorem EQS_ref {u : CS} {v : MS} (hC : CI u) (h : EQS u v) {r : Nat} (hr : r < 8) : cHS u r ∧ (cRef u r ↔ mRef v r) ∧ ∀ x y : Int, NCi u r (u.1.2.2.1 r) x y ↔ NMi v r (mN v r) x y := by
  obtain ⟨a1, a2, a3⟩ := h r hr
  have hR := CI_40 hC hr
  have key : ∀ a : Nat, (a : Int) < u.1.2.2.1 r → rx u r a = mX v r a ∧ ry9 u r a = mY v r a ∧ rx u r (ar u r a 1) = mX v r ((a : Int) + 1) ∧ ry9 u r (ar u r a 1) = mY v r ((a : Int) + 1) := fun a ha => by
    have k1 := rx_n hR ha
    have k2 := rx_ar hR ha
    have k3 := a2 a (by omega)
    refine ⟨k1.1.trans k3.1, k1.2.trans k3.2, ?_, ?_⟩
    · rw [k2.1]; unfold nxt
      by_cases e : (a : Int) + 1 < u.1.2.2.1 r
      · rw [if_pos e]; exact (a2 (a + 1) (by omega)).1
      · rw [if_neg e, (a2 0 (by omega)).1]
        unfold mX
        rw [show (a : Int) + 1 = mN v r by omega, Int.tmod_self, show (((0 : Nat) : Int)).tmod (mN v r) = 0 from Int.zero_tmod _]
    · rw [k2.2]; unfold nxt
      by_cases e : (a : Int) + 1 < u.1.2.2.1 r
      · rw [if_pos e]; exact (a2 (a + 1) (by omega)).2
      · rw [if_neg e, (a2 0 (by omega)).2]
        unfold mY
        rw [show (a : Int) + 1 = mN v r by omega, Int.tmod_self, show (((0 : Nat) : Int)).tmod (mN v r) = 0 from Int.zero_tmod _]
  have kn : ∀ a : Nat, (a : Int) < u.1.2.2.1 r → dNX u r a = mNX v r a ∧ dNY u r a = mNY v r a := fun a ha => by
    obtain ⟨k1, k2, k3, k4⟩ := key a ha
    unfold dNX dNY mNX mNY dS mS dX dY
    rw [k1, k2, k3, k4]
    exact ⟨rfl, by rw [Int.neg_sub]⟩
  have kf : ∀ a : Nat, (a : Int) < u.1.2.2.1 r → dFar u r a = mFar v r a := fun a ha => by
    obtain ⟨k1, k2, _⟩ := key a ha
    unfold dFar mFar
    rw [k1, k2, (kn a ha).1, (kn a ha).2]
  refine ⟨⟨_, HS_c (X' := u.1.1 r) (Y' := u.1.2.1 r) (by rw [a1]; exact a3) (fun _ _ => Iff.rfl) (fun a ha => a2 a (by omega))⟩, ⟨fun q => ⟨by have := q.1; omega, fun i h0 h1 => ?_⟩, fun q => ⟨by have := q.1; omega, fun i h0 h1 => ?_⟩⟩, fun x y => ⟨?_, ?_⟩⟩
  · have w := kf i.toNat (by omega)
    rw [show ((i.toNat : Nat) : Int) = i by omega] at w
    rw [← w]; exact q.2 i h0 (by omega)
  · have w := kf i.toNat (by omega)
    rw [show ((i.toNat : Nat) : Int) = i by omega] at w
    rw [w]; exact q.2 i h0 (by omega)
  · rintro ⟨a, q1, q2, q3⟩
    exact ⟨a, by omega, q2.trans (kn a q1).1, q3.trans (kn a q1).2⟩
  · rintro ⟨a, q1, q2, q3⟩
    exact ⟨a, by omega, q2.trans (kn a (by omega)).1.symm, q3.trans (kn a (by omega)).2.symm⟩
theorem EQS_dl {u u' : CS} {v v' : MS} {s t z z' : Int} (hC : CI u) (h : EQS u v) (hc : dlC u u' s t z) (hm : dlM v v' s t z') : z = z' ∧ EQS u' v' := by
  rcases hc with ⟨a1, a2, a3⟩ | ⟨a1, a2, a3⟩ <;> rcases hm with ⟨b1, b2, b3⟩ | ⟨b1, b2, b3⟩
  · exact ⟨by omega, EQS_s h a3 b3⟩
  · exact absurd ⟨b1, b2⟩ a1
  · exact absurd ⟨a1, a2⟩ b1
  · obtain ⟨k1, k2, k3⟩ := EQS_ref hC h (r := s.toNat) (by omega)
    rw [show ((s.toNat : Nat) : Int) = s by omega] at k2 k3
    rcases a3 with ⟨c1, c2, c3⟩ | ⟨c1, c2⟩ <;> rcases b3 with ⟨d1, d2, d3⟩ | ⟨d1, d2⟩
    · exact ⟨by omega, EQS_s h c3 d3⟩
    · exact absurd ⟨k2.mpr d1, k1⟩ c1
    · exact absurd (k2.mp c1) d1
    · exact EQS_mk h a2 k3 c2 d2


set_option maxHeartbeats 4000000 in
set_option maxRecDepth 100000 in
theorem c_X12_normalX2 (l : Launch) (D : JD) (o : Nat) (q : Nat → Nat) (u : MS) (s : Int) (i : Int) (p0 : 0 ≤ s ∧ s ≤ 7) (p1 : Sh u s) (p2 : 0 ≤ i ∧ i < mN u s) (p3 : 2 ≤ mN u s) : Met l yX12_normalX (jw yX12_normalX cX12_normalX 3 (some .int)) (jr 3 66) (jP [.ref o, .int (J s), .int (J i)] D (fun H => va_P D.1 j_cl (mW D o q u) H)) (jRi (fun z => z = mNX u s i ∧ -80 ≤ z ∧ z ≤ 80)) 0 0 (fun _ => False) := by
  refine Met.ofW (cc := cX12_normalX) (maxL := 3) (ret := (some .int)) (by decide) rfl ?_
  intro pr en st mi args below meth co s₁ B hml hv
  obtain ⟨rfl, hG, hP⟩ := hv
  have hr := B.returns
  have hlk := B.notSynchronized
  have SS : jS pr mi co cX12_normalX 3 st _ RX12 := ⟨B.exec, B.bytes, hml, findClass_of_methodNamed B.named, fun w hw => atoms_spec (ws := (jw yX12_normalX cX12_normalX 3 (some .int))) B.pre w (List.mem_cons_of_mem _ hw)⟩
  have hl := lv_entry ([.ref o, .int (J s), .int (J i)]) (n := 3) (Nat.le_of_ble_eq_true rfl)
  rw [lg_entry_eq]
  generalize (lg_sl ([.ref o, .int (J s), .int (J i)]) ++ List.replicate (3 - (lg_sl ([.ref o, .int (J s), .int (J i)])).length) Slot.unset).toArray = ls at hl ⊢
  have hl : lv_has ls 3 [(0, .ref o), (1, .int (J s)), (2, .int (J i))] := hl
  have hN := p1.1
  have hC := p1.2.2
  have hp := mS_p hC p3 p2.1 p2.2
  refine lv_aload_n SS.1 SS.2.1 dX12_normalX_0 rfl (lv_at hl 0 rfl) ?_
  refine lv_iload_n SS.1 SS.2.1 dX12_normalX_1 rfl (lv_at hl 1 rfl) ?_
  refine lv_iload_n SS.1 SS.2.1 dX12_normalX_2 rfl (lv_at hl 2 rfl) ?_
  refine j_iconst SS dX12_normalX_3 ?_
  refine j_iadd SS (x := i) (y := 1) dX12_normalX_4 ?_
  refine j_vRi SS (As := [.int (J s), .int (J (i + 1))]) (rest := []) (c_X12_y l D o q u s (i + 1) (show 0 ≤ s ∧ s ≤ 7 from (by omega)) (show 0 ≤ (i + 1) ∧ (i + 1) ≤ 1000000 from (by omega)) (show 0 < mN u s ∧ mN u s ≤ 24 from (by first | omega | (have hq := (show Sh u s from p1).1; omega)))) mf_X12_y kw_1181 hG hP hP (ci := 8) (q0 := 0) rfl rfl rfl rfl hl.1 ⟨⟨Nat.le_of_ble_eq_true rfl, Nat.le_of_ble_eq_true rfl⟩, Nat.le_of_ble_eq_true rfl, Nat.le_refl _, Nat.le_refl _⟩ rfl dX12_normalX_5 (fun z_5 h_5 => ?_)
  have h_5 : z_5 = mY u s (i + 1) := h_5
  have hb_5 := (show Sh u s from p1).2.1 (by omega) (i + 1) (by omega)
  refine lv_aload_n SS.1 SS.2.1 dX12_normalX_8 rfl (lv_at hl 0 rfl) ?_
  refine lv_iload_n SS.1 SS.2.1 dX12_normalX_9 rfl (lv_at hl 1 rfl) ?_
  refine lv_iload_n SS.1 SS.2.1 dX12_normalX_10 rfl (lv_at hl 2 rfl) ?_
  refine j_vRi SS (As := [.int (J s), .int (J i)]) (rest := [.int (J z_5)]) (c_X12_y l D o q u s i (show 0 ≤ s ∧ s ≤ 7 from (by omega)) (show 0 ≤ i ∧ i ≤ 1000000 from (by omega)) (show 0 < mN u s ∧ mN u s ≤ 24 from (by first | omega | (have hq := (show Sh u s from p1).1; omega)))) mf_X12_y kw_1181 hG hP hP (ci := 8) (q0 := 0) rfl rfl rfl rfl hl.1 ⟨⟨Nat.le_of_ble_eq_true rfl, Nat.le_of_ble_eq_true rfl⟩, Nat.le_of_ble_eq_true rfl, Nat.le_refl _, Nat.le_refl _⟩ rfl dX12_normalX_11 (fun z_11 h_11 => ?_)
  have h_11 : z_11 = mY u s i := h_11
  have hb_11 := (show Sh u s from p1).2.1 (by omega) i (by omega)
  refine j_isub SS (x := z_5) (y := z_11) dX12_normalX_14 ?_
  refine lv_aload_n SS.1 SS.2.1 dX12_normalX_15 rfl (lv_at hl 0 rfl) ?_
  refine lv_iload_n SS.1 SS.2.1 dX12_normalX_16 rfl (lv_at hl 1 rfl) ?_
  refine lv_iload_n SS.1 SS.2.1 dX12_normalX_17 rfl (lv_at hl 2 rfl) ?_
  refine j_vRi SS (As := [.int (J s), .int (J i)]) (rest := [.int (J (z_5 - z_11))]) (c_X12_stepsOf l D o q u s i (show 0 ≤ s ∧ s ≤ 7 from (by omega)) (show Sh u s from (p1)) (show 0 ≤ i ∧ i ≤ 100 from (by omega)) (show 0 < mN u s from (by first | omega | (have hq := (show Sh u s from p1).1; omega)))) mf_X12_stepsOf kw_1226 hG hP hP (ci := 8) (q0 := 0) rfl rfl rfl rfl hl.1 ⟨⟨Nat.le_of_ble_eq_true rfl, Nat.le_of_ble_eq_true rfl⟩, Nat.le_of_ble_eq_true rfl, Nat.le_refl _, Nat.le_refl _⟩ rfl dX12_normalX_18 (fun z_18 h_18 => ?_)
  have h_18 : z_18 = mS u s i ∧ 0 ≤ z_18 ∧ z_18 ≤ 80 := h_18
  have hp9 := hp
  rw [← h_18.1] at hp9
  have htd := td_b (b := z_18) (show -80 ≤ z_5 - z_11 ∧ z_5 - z_11 ≤ 80 by omega)
  refine j_idiv SS (x := (z_5 - z_11)) (y := z_18) dX12_normalX_21 (by omega) (by omega) (by omega) ?_
  exact W.iret SS.1 SS.2.1 hr (fun t ht hW => ⟨_, rfl, ⟨(Int.tdiv (z_5 - z_11) z_18), rfl, (⟨by rw [h_5, h_11, h_18.1]; rfl, htd⟩)⟩, ht⟩) (fun _ h => nomatch h) dX12_normalX_22 hlk

set_option maxHeartbeats 4000000 in
set_option maxRecDepth 100000 in
theorem c_X12_normalY2 (l : Launch) (D : JD) (o : Nat) (q : Nat → Nat) (u : MS) (s : Int) (i : Int) (p0 : 0 ≤ s ∧ s ≤ 7) (p1 : Sh u s) (p2 : 0 ≤ i ∧ i < mN u s) (p3 : 2 ≤ mN u s) : Met l yX12_normalY (jw yX12_normalY cX12_normalY 3 (some .int)) (jr 3 66) (jP [.ref o, .int (J s), .int (J i)] D (fun H => va_P D.1 j_cl (mW D o q u) H)) (jRi (fun z => z = mNY u s i ∧ -80 ≤ z ∧ z ≤ 80)) 0 0 (fun _ => False) := by
  refine Met.ofW (cc := cX12_normalY) (maxL := 3) (ret := (some .int)) (by decide) rfl ?_
  intro pr en st mi args below meth co s₁ B hml hv
  obtain ⟨rfl, hG, hP⟩ := hv
  have hr := B.returns
  have hlk := B.notSynchronized
  have SS : jS pr mi co cX12_normalY 3 st _ RX12 := ⟨B.exec, B.bytes, hml, findClass_of_methodNamed B.named, fun w hw => atoms_spec (ws := (jw yX12_normalY cX12_normalY 3 (some .int))) B.pre w (List.mem_cons_of_mem _ hw)⟩
  have hl := lv_entry ([.ref o, .int (J s), .int (J i)]) (n := 3) (Nat.le_of_ble_eq_true rfl)
  rw [lg_entry_eq]
  generalize (lg_sl ([.ref o, .int (J s), .int (J i)]) ++ List.replicate (3 - (lg_sl ([.ref o, .int (J s), .int (J i)])).length) Slot.unset).toArray = ls at hl ⊢
  have hl : lv_has ls 3 [(0, .ref o), (1, .int (J s)), (2, .int (J i))] := hl
  have hN := p1.1
  have hC := p1.2.2
  have hp := mS_p hC p3 p2.1 p2.2
  refine lv_aload_n SS.1 SS.2.1 dX12_normalY_0 rfl (lv_at hl 0 rfl) ?_
  refine lv_iload_n SS.1 SS.2.1 dX12_normalY_1 rfl (lv_at hl 1 rfl) ?_
  refine lv_iload_n SS.1 SS.2.1 dX12_normalY_2 rfl (lv_at hl 2 rfl) ?_
  refine j_vRi SS (As := [.int (J s), .int (J i)]) (rest := []) (c_X12_x l D o q u s i (show 0 ≤ s ∧ s ≤ 7 from (by omega)) (show 0 ≤ i ∧ i ≤ 1000000 from (by omega)) (show 0 < mN u s ∧ mN u s ≤ 24 from (by first | omega | (have hq := (show Sh u s from p1).1; omega)))) mf_X12_x kw_1177 hG hP hP (ci := 8) (q0 := 0) rfl rfl rfl rfl hl.1 ⟨⟨Nat.le_of_ble_eq_true rfl, Nat.le_of_ble_eq_true rfl⟩, Nat.le_of_ble_eq_true rfl, Nat.le_refl _, Nat.le_refl _⟩ rfl dX12_normalY_3 (fun z_3 h_3 => ?_)
  have h_3 : z_3 = mX u s i := h_3
  have hb_3 := (show Sh u s from p1).2.1 (by omega) i (by omega)
  refine lv_aload_n SS.1 SS.2.1 dX12_normalY_6 rfl (lv_at hl 0 rfl) ?_
  refine lv_iload_n SS.1 SS.2.1 dX12_normalY_7 rfl (lv_at hl 1 rfl) ?_
  refine lv_iload_n SS.1 SS.2.1 dX12_normalY_8 rfl (lv_at hl 2 rfl) ?_
  refine j_iconst SS dX12_normalY_9 ?_
  refine j_iadd SS (x := i) (y := 1) dX12_normalY_10 ?_
  refine j_vRi SS (As := [.int (J s), .int (J (i + 1))]) (rest := [.int (J z_3)]) (c_X12_x l D o q u s (i + 1) (show 0 ≤ s ∧ s ≤ 7 from (by omega)) (show 0 ≤ (i + 1) ∧ (i + 1) ≤ 1000000 from (by omega)) (show 0 < mN u s ∧ mN u s ≤ 24 from (by first | omega | (have hq := (show Sh u s from p1).1; omega)))) mf_X12_x kw_1177 hG hP hP (ci := 8) (q0 := 0) rfl rfl rfl rfl hl.1 ⟨⟨Nat.le_of_ble_eq_true rfl, Nat.le_of_ble_eq_true rfl⟩, Nat.le_of_ble_eq_true rfl, Nat.le_refl _, Nat.le_refl _⟩ rfl dX12_normalY_11 (fun z_11 h_11 => ?_)
  have h_11 : z_11 = mX u s (i + 1) := h_11
  have hb_11 := (show Sh u s from p1).2.1 (by omega) (i + 1) (by omega)
  refine j_isub SS (x := z_3) (y := z_11) dX12_normalY_14 ?_
  refine lv_aload_n SS.1 SS.2.1 dX12_normalY_15 rfl (lv_at hl 0 rfl) ?_
  refine lv_iload_n SS.1 SS.2.1 dX12_normalY_16 rfl (lv_at hl 1 rfl) ?_
  refine lv_iload_n SS.1 SS.2.1 dX12_normalY_17 rfl (lv_at hl 2 rfl) ?_
  refine j_vRi SS (As := [.int (J s), .int (J i)]) (rest := [.int (J (z_3 - z_11))]) (c_X12_stepsOf l D o q u s i (show 0 ≤ s ∧ s ≤ 7 from (by omega)) (show Sh u s from (p1)) (show 0 ≤ i ∧ i ≤ 100 from (by omega)) (show 0 < mN u s from (by first | omega | (have hq := (show Sh u s from p1).1; omega)))) mf_X12_stepsOf kw_1226 hG hP hP (ci := 8) (q0 := 0) rfl rfl rfl rfl hl.1 ⟨⟨Nat.le_of_ble_eq_true rfl, Nat.le_of_ble_eq_true rfl⟩, Nat.le_of_ble_eq_true rfl, Nat.le_refl _, Nat.le_refl _⟩ rfl dX12_normalY_18 (fun z_18 h_18 => ?_)
  have h_18 : z_18 = mS u s i ∧ 0 ≤ z_18 ∧ z_18 ≤ 80 := h_18
  have hp9 := hp
  rw [← h_18.1] at hp9
  have htd := td_b (b := z_18) (show -80 ≤ z_3 - z_11 ∧ z_3 - z_11 ≤ 80 by omega)
  refine j_idiv SS (x := (z_3 - z_11)) (y := z_18) dX12_normalY_21 (by omega) (by omega) (by omega) ?_
  exact W.iret SS.1 SS.2.1 hr (fun t ht hW => ⟨_, rfl, ⟨(Int.tdiv (z_3 - z_11) z_18), rfl, (⟨by rw [h_3, h_11, h_18.1]; rfl, htd⟩)⟩, ht⟩) (fun _ h => nomatch h) dX12_normalY_22 hlk

set_option maxHeartbeats 4000000 in
set_option maxRecDepth 100000 in
theorem c_X12_farOf2 (l : Launch) (D : JD) (o : Nat) (q : Nat → Nat) (u : MS) (s : Int) (i : Int) (p0 : 0 ≤ s ∧ s ≤ 7) (p1 : Sh u s) (p2 : 0 ≤ i ∧ i < mN u s) (p3 : 2 ≤ mN u s) : Met l yX12_farOf (jw yX12_farOf cX12_farOf 3 (some .int)) (jr 4 88) (jP [.ref o, .int (J s), .int (J i)] D (fun H => va_P D.1 j_cl (mW D o q u) H)) (jRi (fun z => z = mFar u s i ∧ -6400 ≤ z ∧ z ≤ 6400)) 0 0 (fun _ => False) := by
  refine Met.ofW (cc := cX12_farOf) (maxL := 3) (ret := (some .int)) (by decide) rfl ?_
  intro pr en st mi args below meth co s₁ B hml hv
  obtain ⟨rfl, hG, hP⟩ := hv
  have hr := B.returns
  have hlk := B.notSynchronized
  have SS : jS pr mi co cX12_farOf 3 st _ RX12 := ⟨B.exec, B.bytes, hml, findClass_of_methodNamed B.named, fun w hw => atoms_spec (ws := (jw yX12_farOf cX12_farOf 3 (some .int))) B.pre w (List.mem_cons_of_mem _ hw)⟩
  have hl := lv_entry ([.ref o, .int (J s), .int (J i)]) (n := 3) (Nat.le_of_ble_eq_true rfl)
  rw [lg_entry_eq]
  generalize (lg_sl ([.ref o, .int (J s), .int (J i)]) ++ List.replicate (3 - (lg_sl ([.ref o, .int (J s), .int (J i)])).length) Slot.unset).toArray = ls at hl ⊢
  have hl : lv_has ls 3 [(0, .ref o), (1, .int (J s)), (2, .int (J i))] := hl
  have hN := p1.1
  have hC := p1.2.2
  refine lv_aload_n SS.1 SS.2.1 dX12_farOf_0 rfl (lv_at hl 0 rfl) ?_
  refine lv_iload_n SS.1 SS.2.1 dX12_farOf_1 rfl (lv_at hl 1 rfl) ?_
  refine lv_iload_n SS.1 SS.2.1 dX12_farOf_2 rfl (lv_at hl 2 rfl) ?_
  refine j_vRi SS (As := [.int (J s), .int (J i)]) (rest := []) (c_X12_normalX2 l D o q u s i (show 0 ≤ s ∧ s ≤ 7 from (by omega)) (show Sh u s from (p1)) (show 0 ≤ i ∧ i < mN u s from (by first | omega | (have hq := (show Sh u s from p1).1; omega))) (show 2 ≤ mN u s from (by first | omega | (have hq := (show Sh u s from p1).1; omega)))) mf_X12_normalX kw_1364 hG hP hP (ci := 8) (q0 := 0) rfl rfl rfl rfl hl.1 ⟨⟨Nat.le_of_ble_eq_true rfl, Nat.le_of_ble_eq_true rfl⟩, Nat.le_of_ble_eq_true rfl, Nat.le_refl _, Nat.le_refl _⟩ rfl dX12_farOf_3 (fun z_3 h_3 => ?_)
  have h_3 : z_3 = mNX u s i ∧ -80 ≤ z_3 ∧ z_3 ≤ 80 := h_3
  refine lv_aload_n SS.1 SS.2.1 dX12_farOf_6 rfl (lv_at hl 0 rfl) ?_
  refine lv_iload_n SS.1 SS.2.1 dX12_farOf_7 rfl (lv_at hl 1 rfl) ?_
  refine lv_iload_n SS.1 SS.2.1 dX12_farOf_8 rfl (lv_at hl 2 rfl) ?_
  refine j_vRi SS (As := [.int (J s), .int (J i)]) (rest := [.int (J z_3)]) (c_X12_x l D o q u s i (show 0 ≤ s ∧ s ≤ 7 from (by omega)) (show 0 ≤ i ∧ i ≤ 1000000 from (by omega)) (show 0 < mN u s ∧ mN u s ≤ 24 from (by first | omega | (have hq := (show Sh u s from p1).1; omega)))) mf_X12_x kw_1177 hG hP hP (ci := 8) (q0 := 0) rfl rfl rfl rfl hl.1 ⟨⟨Nat.le_of_ble_eq_true rfl, Nat.le_of_ble_eq_true rfl⟩, Nat.le_of_ble_eq_true rfl, Nat.le_refl _, Nat.le_refl _⟩ rfl dX12_farOf_9 (fun z_9 h_9 => ?_)
  have h_9 : z_9 = mX u s i := h_9
  have hb_9 := (show Sh u s from p1).2.1 (by omega) i (by omega)
  have m1 := mulb (A := 80) (B := 40) (a := z_3) (b := z_9) (by omega) (by omega)
  refine j_imul SS (x := z_3) (y := z_9) dX12_farOf_12 ?_
  refine lv_aload_n SS.1 SS.2.1 dX12_farOf_13 rfl (lv_at hl 0 rfl) ?_
  refine lv_iload_n SS.1 SS.2.1 dX12_farOf_14 rfl (lv_at hl 1 rfl) ?_
  refine lv_iload_n SS.1 SS.2.1 dX12_farOf_15 rfl (lv_at hl 2 rfl) ?_
  refine j_vRi SS (As := [.int (J s), .int (J i)]) (rest := [.int (J (z_3 * z_9))]) (c_X12_normalY2 l D o q u s i (show 0 ≤ s ∧ s ≤ 7 from (by omega)) (show Sh u s from (p1)) (show 0 ≤ i ∧ i < mN u s from (by first | omega | (have hq := (show Sh u s from p1).1; omega))) (show 2 ≤ mN u s from (by first | omega | (have hq := (show Sh u s from p1).1; omega)))) mf_X12_normalY kw_1368 hG hP hP (ci := 8) (q0 := 0) rfl rfl rfl rfl hl.1 ⟨⟨Nat.le_of_ble_eq_true rfl, Nat.le_of_ble_eq_true rfl⟩, Nat.le_of_ble_eq_true rfl, Nat.le_refl _, Nat.le_refl _⟩ rfl dX12_farOf_16 (fun z_16 h_16 => ?_)
  have h_16 : z_16 = mNY u s i ∧ -80 ≤ z_16 ∧ z_16 ≤ 80 := h_16
  refine lv_aload_n SS.1 SS.2.1 dX12_farOf_19 rfl (lv_at hl 0 rfl) ?_
  refine lv_iload_n SS.1 SS.2.1 dX12_farOf_20 rfl (lv_at hl 1 rfl) ?_
  refine lv_iload_n SS.1 SS.2.1 dX12_farOf_21 rfl (lv_at hl 2 rfl) ?_
  refine j_vRi SS (As := [.int (J s), .int (J i)]) (rest := [.int (J z_16), .int (J (z_3 * z_9))]) (c_X12_y l D o q u s i (show 0 ≤ s ∧ s ≤ 7 from (by omega)) (show 0 ≤ i ∧ i ≤ 1000000 from (by omega)) (show 0 < mN u s ∧ mN u s ≤ 24 from (by first | omega | (have hq := (show Sh u s from p1).1; omega)))) mf_X12_y kw_1181 hG hP hP (ci := 8) (q0 := 0) rfl rfl rfl rfl hl.1 ⟨⟨Nat.le_of_ble_eq_true rfl, Nat.le_of_ble_eq_true rfl⟩, Nat.le_of_ble_eq_true rfl, Nat.le_refl _, Nat.le_refl _⟩ rfl dX12_farOf_22 (fun z_22 h_22 => ?_)
  have h_22 : z_22 = mY u s i := h_22
  have hb_22 := (show Sh u s from p1).2.1 (by omega) i (by omega)
  have m2 := mulb (A := 80) (B := 40) (a := z_16) (b := z_22) (by omega) (by omega)
  refine j_imul SS (x := z_16) (y := z_22) dX12_farOf_25 ?_
  refine j_iadd SS (x := (z_3 * z_9)) (y := (z_16 * z_22)) dX12_farOf_26 ?_
  exact W.iret SS.1 SS.2.1 hr (fun t ht hW => ⟨_, rfl, ⟨((z_3 * z_9) + (z_16 * z_22)), rfl, (⟨by rw [h_3.1, h_9, h_16.1, h_22]; rfl, by omega, by omega⟩)⟩, ht⟩) (fun _ h => nomatch h) dX12_farOf_27 hlk

set_option maxHeartbeats 4000000 in
set_option maxRecDepth 100000 in
theorem c_X12_isRound2 (l : Launch) (D : JD) (o : Nat) (q : Nat → Nat) (u : MS) (s : Int) (p0 : 0 ≤ s ∧ s ≤ 7) (p1 : Sh u s) : Met l yX12_isRound (jw yX12_isRound cX12_isRound 2 (some .boolean)) (jr 2 51) (jP [.ref o, .int (J s)] D (fun H => va_P D.1 j_cl (mW D o q u) H)) (jRi (fun z => ((z = 1 ∧ 2 < mN u s) ∨ z = 0) ∧ (mLO u s → z = 1))) 0 0 (fun _ => False) := by
  refine Met.ofW (cc := cX12_isRound) (maxL := 2) (ret := (some .boolean)) (by decide) rfl ?_
  intro pr en st mi args below meth co s₁ B hml hv
  obtain ⟨rfl, hG, hP⟩ := hv
  have hr := B.returns
  have hlk := B.notSynchronized
  have SS : jS pr mi co cX12_isRound 2 st _ RX12 := ⟨B.exec, B.bytes, hml, findClass_of_methodNamed B.named, fun w hw => atoms_spec (ws := (jw yX12_isRound cX12_isRound 2 (some .boolean))) B.pre w (List.mem_cons_of_mem _ hw)⟩
  have hl := lv_entry ([.ref o, .int (J s)]) (n := 2) (Nat.le_of_ble_eq_true rfl)
  rw [lg_entry_eq]
  generalize (lg_sl ([.ref o, .int (J s)]) ++ List.replicate (2 - (lg_sl ([.ref o, .int (J s)])).length) Slot.unset).toArray = ls at hl ⊢
  have hl : lv_has ls 2 [(0, .ref o), (1, .int (J s))] := hl
  have hN := p1.1
  have hC := p1.2.2
  refine lv_aload_n SS.1 SS.2.1 dX12_isRound_0 rfl (lv_at hl 0 rfl) ?_
  refine lv_iload_n SS.1 SS.2.1 dX12_isRound_1 rfl (lv_at hl 1 rfl) ?_
  refine j_vRi SS (As := [.int (J s)]) (rest := []) (c_X12_isPolygon l D o q u s (show 0 ≤ s ∧ s ≤ 7 from (by omega)) (show Sh u s from (p1))) mf_X12_isPolygon kw_1240 hG hP hP (ci := 8) (q0 := 0) rfl rfl rfl rfl hl.1 ⟨⟨Nat.le_of_ble_eq_true rfl, Nat.le_of_ble_eq_true rfl⟩, Nat.le_of_ble_eq_true rfl, Nat.le_refl _, Nat.le_refl _⟩ rfl dX12_isRound_2 (fun z_2 h_2 => ?_)
  have h_2 : (z_2 = 1 ∧ 2 < mN u s) ∨ (z_2 = 0 ∧ mN u s ≤ 2) := h_2
  refine j_if_eq SS (tgt := 23) (x := z_2) dX12_isRound_5 (by decide) (by omega) (fun c_5 => ?_) (fun c_5 => ?_)
  · skip
    refine j_iconst SS dX12_isRound_23 ?_
    exact W.zret SS.1 SS.2.1 hr (j_nz (by decide)) (fun t ht hW => ⟨_, rfl, ⟨0, rfl, (by first | exact ⟨Or.inl ⟨rfl, by omega⟩, fun _ => rfl⟩ | exact ⟨Or.inr rfl, fun q => by have := q.1; omega⟩ | exact ⟨Or.inr rfl, fun q => by have w := wLO h_12 q; omega⟩)⟩, ht⟩) (fun _ h => nomatch h) dX12_isRound_24 hlk
  · skip
    refine lv_aload_n SS.1 SS.2.1 dX12_isRound_8 rfl (lv_at hl 0 rfl) ?_
    refine lv_iload_n SS.1 SS.2.1 dX12_isRound_9 rfl (lv_at hl 1 rfl) ?_
    refine j_iconst SS dX12_isRound_10 ?_
    refine j_iconst SS dX12_isRound_11 ?_
    refine j_vRi SS (As := [.int (J s), .int (J 0), .int (J 0)]) (rest := []) (c_X12_whereOf l D o q u s 0 0 (show 0 ≤ s ∧ s ≤ 7 from (by omega)) (show Sh u s from (p1)) (show -100 ≤ (0 : Int) ∧ (0 : Int) ≤ 100 from (by omega)) (show -100 ≤ (0 : Int) ∧ (0 : Int) ≤ 100 from (by omega))) mf_X12_whereOf kw_1255 hG hP hP (ci := 8) (q0 := 0) rfl rfl rfl rfl hl.1 ⟨⟨Nat.le_of_ble_eq_true rfl, Nat.le_of_ble_eq_true rfl⟩, Nat.le_of_ble_eq_true rfl, Nat.le_refl _, Nat.le_refl _⟩ rfl dX12_isRound_12 (fun z_12 h_12 => ?_)
    have h_12 : wR u s (0 : Int) (0 : Int) z_12 := h_12
    have zb := wR_b h_12
    refine j_iconst SS dX12_isRound_15 ?_
    refine j_icmp_ne SS (tgt := 23) (x := z_12) (y := 2) dX12_isRound_16 (by decide) (by omega) (by decide) (fun c_16 => ?_) (fun c_16 => ?_)
    · skip
      refine j_iconst SS dX12_isRound_23 ?_
      exact W.zret SS.1 SS.2.1 hr (j_nz (by decide)) (fun t ht hW => ⟨_, rfl, ⟨0, rfl, (by first | exact ⟨Or.inl ⟨rfl, by omega⟩, fun _ => rfl⟩ | exact ⟨Or.inr rfl, fun q => by have := q.1; omega⟩ | exact ⟨Or.inr rfl, fun q => by have w := wLO h_12 q; omega⟩)⟩, ht⟩) (fun _ h => nomatch h) dX12_isRound_24 hlk
    · skip
      refine j_iconst SS dX12_isRound_19 ?_
      refine lv_goto (tgt := 24) SS.1 SS.2.1 dX12_isRound_20 (by decide) ?_
      exact W.zret SS.1 SS.2.1 hr (j_nz (by decide)) (fun t ht hW => ⟨_, rfl, ⟨1, rfl, (by first | exact ⟨Or.inl ⟨rfl, by omega⟩, fun _ => rfl⟩ | exact ⟨Or.inr rfl, fun q => by have := q.1; omega⟩ | exact ⟨Or.inr rfl, fun q => by have w := wLO h_12 q; omega⟩)⟩, ht⟩) (fun _ h => nomatch h) dX12_isRound_24 hlk

set_option maxHeartbeats 4000000 in
set_option maxRecDepth 100000 in
theorem c_X12_isReflexive2 (l : Launch) (D : JD) (o : Nat) (q : Nat → Nat) (u : MS) (s : Int) (p0 : 0 ≤ s ∧ s ≤ 7) (p1 : Sh u s) : Met l yX12_isReflexive (jw yX12_isReflexive cX12_isReflexive 4 (some .boolean)) (jr 5 110) (jP [.ref o, .int (J s)] D (fun H => va_P D.1 j_cl (mW D o q u) H)) (jRi (fun z => (z = 1 ∧ mRef u s) ∨ (z = 0 ∧ ¬ mRef u s))) 0 0 (fun _ => False) := by
  refine Met.ofW (cc := cX12_isReflexive) (maxL := 4) (ret := (some .boolean)) (by decide) rfl ?_
  intro pr en st mi args below meth co s₁ B hml hv
  obtain ⟨rfl, hG, hP⟩ := hv
  have hr := B.returns
  have hlk := B.notSynchronized
  have SS : jS pr mi co cX12_isReflexive 4 st _ RX12 := ⟨B.exec, B.bytes, hml, findClass_of_methodNamed B.named, fun w hw => atoms_spec (ws := (jw yX12_isReflexive cX12_isReflexive 4 (some .boolean))) B.pre w (List.mem_cons_of_mem _ hw)⟩
  have hl := lv_entry ([.ref o, .int (J s)]) (n := 4) (Nat.le_of_ble_eq_true rfl)
  rw [lg_entry_eq]
  generalize (lg_sl ([.ref o, .int (J s)]) ++ List.replicate (4 - (lg_sl ([.ref o, .int (J s)])).length) Slot.unset).toArray = ls at hl ⊢
  have hl : lv_has ls 4 [(0, .ref o), (1, .int (J s))] := hl
  have hN := p1.1
  have hC := p1.2.2
  refine lv_aload_n SS.1 SS.2.1 dX12_isReflexive_0 rfl (lv_at hl 0 rfl) ?_
  refine lv_iload_n SS.1 SS.2.1 dX12_isReflexive_1 rfl (lv_at hl 1 rfl) ?_
  refine j_vRi SS (As := [.int (J s)]) (rest := []) (c_X12_isRound2 l D o q u s (show 0 ≤ s ∧ s ≤ 7 from (by omega)) (show Sh u s from (p1))) mf_X12_isRound kw_1360 hG hP hP (ci := 8) (q0 := 0) rfl rfl rfl rfl hl.1 ⟨⟨Nat.le_of_ble_eq_true rfl, Nat.le_of_ble_eq_true rfl⟩, Nat.le_of_ble_eq_true rfl, Nat.le_refl _, Nat.le_refl _⟩ rfl dX12_isReflexive_2 (fun z_2 h_2 => ?_)
  have h_2 : ((z_2 = 1 ∧ 2 < mN u s) ∨ z_2 = 0) ∧ (mLO u s → z_2 = 1) := h_2
  refine lv_istore_n (lv' := [(2, .int (J z_2)), (0, .ref o), (1, .int (J s))]) SS.1 SS.2.1 dX12_isReflexive_5 rfl hl (by decide) rfl (fun ls hl => ?_)
  refine j_iconst SS dX12_isReflexive_6 ?_
  refine lv_istore_n (lv' := [(3, .int (J 0)), (2, .int (J z_2)), (0, .ref o), (1, .int (J s))]) SS.1 SS.2.1 dX12_isReflexive_7 rfl hl (by decide) rfl (fun ls hl => ?_)
  have L_8 : ∀ (nn : Nat) (t2 : Int) (i : Int) (ls : Array Slot) (hl : lv_has ls 4 [(0, .ref o), (1, .int (J s)), (2, .int (J t2)), (3, .int (J i))]) (i8_0 : 0 ≤ i ∧ i ≤ 24) (i8_1 : (t2 = 1 ∧ 2 < mN u s ∧ ∀ j : Int, 0 ≤ j → j < i → mFar u s j = 1) ∨ (t2 = 0 ∧ ¬ mRef u s)), ((24 : Int) - i).toNat < nn → W pr l en (headSpec (jw yX12_isReflexive cX12_isReflexive 4 (some .boolean)) (jr 5 110)).room st mi (([.ref o, .int (J s)] : List Value).toArray) below meth co st.heap [] 0 0 (MQ below (jRi (fun z => (z = 1 ∧ mRef u s) ∨ (z = 0 ∧ ¬ mRef u s))) (([.ref o, .int (J s)] : List Value).toArray) st 0 0 (fun _ => False)) (F0 mi 8 ls []) := by
    intro nn
    induction nn with
    | zero => intros; omega
    | succ nn ih_8 =>
      intro t2 i ls hl i8_0 i8_1 hm
      refine lv_iload_n SS.1 SS.2.1 dX12_isReflexive_8 rfl (lv_at hl 2 rfl) ?_
      refine j_if_eq SS (tgt := 44) (x := t2) dX12_isReflexive_9 (by decide) (by omega) (fun c_9 => ?_) (fun c_9 => ?_)
      · skip
        refine lv_iload_n SS.1 SS.2.1 dX12_isReflexive_44 rfl (lv_at hl 2 rfl) ?_
        exact W.zret SS.1 SS.2.1 hr (j_nz (by omega)) (fun t ht hW => ⟨_, rfl, ⟨t2, rfl, (by rcases i8_1 with q | q; exact Or.inl ⟨q.1, q.2.1, fun j h1 h2 => q.2.2 j h1 (by omega)⟩; exact Or.inr q)⟩, ht⟩) (fun _ h => nomatch h) dX12_isReflexive_45 hlk
      · skip
        refine lv_iload_n SS.1 SS.2.1 dX12_isReflexive_12 rfl (lv_at hl 3 rfl) ?_
        refine lv_aload_n SS.1 SS.2.1 dX12_isReflexive_13 rfl (lv_at hl 0 rfl) ?_
        refine j_get SS hG hP 0 (v := .ref (q 0)) (C := RX12) (T := TX12) (N := 31) rfl rfl inX12 0 (by decide) (ref := RX12) kw_1058 rfl rfl dX12_isReflexive_14 ?_
        refine lv_iload_n SS.1 SS.2.1 dX12_isReflexive_17 rfl (lv_at hl 1 rfl) ?_
        refine j_iald SS hG hP 1 (n := 8) (f := (u.1 0)) rfl (z := s) (by omega) (by omega) dX12_isReflexive_18 ?_
        have hN_18 := (show Sh u s from p1).1
        refine j_icmp_ge SS (tgt := 44) (x := i) (y := (mN u s)) dX12_isReflexive_19 (by decide) (by omega) (by omega) (fun c_19 => ?_) (fun c_19 => ?_)
        · skip
          refine lv_iload_n SS.1 SS.2.1 dX12_isReflexive_44 rfl (lv_at hl 2 rfl) ?_
          exact W.zret SS.1 SS.2.1 hr (j_nz (by omega)) (fun t ht hW => ⟨_, rfl, ⟨t2, rfl, (by rcases i8_1 with q | q; exact Or.inl ⟨q.1, q.2.1, fun j h1 h2 => q.2.2 j h1 (by omega)⟩; exact Or.inr q)⟩, ht⟩) (fun _ h => nomatch h) dX12_isReflexive_45 hlk
        · skip
          refine lv_aload_n SS.1 SS.2.1 dX12_isReflexive_22 rfl (lv_at hl 0 rfl) ?_
          refine lv_iload_n SS.1 SS.2.1 dX12_isReflexive_23 rfl (lv_at hl 1 rfl) ?_
          refine lv_iload_n SS.1 SS.2.1 dX12_isReflexive_24 rfl (lv_at hl 3 rfl) ?_
          refine j_vRi SS (As := [.int (J s), .int (J i)]) (rest := []) (c_X12_farOf2 l D o q u s i (show 0 ≤ s ∧ s ≤ 7 from (by omega)) (show Sh u s from (p1)) (show 0 ≤ i ∧ i < mN u s from (by first | omega | (have hq := (show Sh u s from p1).1; omega))) (show 2 ≤ mN u s from (by first | omega | (have hq := (show Sh u s from p1).1; omega)))) mf_X12_farOf kw_1372 hG hP hP (ci := 8) (q0 := 0) rfl rfl rfl rfl hl.1 ⟨⟨Nat.le_of_ble_eq_true rfl, Nat.le_of_ble_eq_true rfl⟩, Nat.le_of_ble_eq_true rfl, Nat.le_refl _, Nat.le_refl _⟩ rfl dX12_isReflexive_25 (fun z_25 h_25 => ?_)
          have h_25 : z_25 = mFar u s i ∧ -6400 ≤ z_25 ∧ z_25 ≤ 6400 := h_25
          refine j_iconst SS dX12_isReflexive_28 ?_
          refine j_icmp_ne SS (tgt := 36) (x := z_25) (y := 1) dX12_isReflexive_29 (by decide) (by omega) (by decide) (fun c_29 => ?_) (fun c_29 => ?_)
          · skip
            refine j_iconst SS dX12_isReflexive_36 ?_
            refine lv_istore_n (lv' := [(2, .int (J 0)), (0, .ref o), (1, .int (J s)), (3, .int (J i))]) SS.1 SS.2.1 dX12_isReflexive_37 rfl hl (by decide) rfl (fun ls hl => ?_)
            refine lv_iinc (v := J (i + 1)) (lv' := [(3, .int (J (i + 1))), (2, .int (J 0)), (0, .ref o), (1, .int (J s))]) SS.1 SS.2.1 dX12_isReflexive_38 hl (k := 3) rfl (J_add _ _) (by decide) rfl (fun ls hl => ?_)
            refine lv_goto (tgt := 8) SS.1 SS.2.1 dX12_isReflexive_41 (by decide) ?_
            exact ih_8 0 (i + 1) ls (lv_sub hl [2, 3, 1, 0] rfl) (by omega) (by first | (refine Or.inl ⟨rfl, by omega, fun j h1 h2 => ?_⟩; by_cases e : j = i; (rw [e, ← h_25.1]; omega); rcases i8_1 with q | q; exact q.2.2 j h1 (by omega); omega) | (refine Or.inr ⟨rfl, fun w => ?_⟩; have w2 := w.2 i (by omega) (by omega); rw [← h_25.1] at w2; omega)) (by omega)
          · skip
            refine j_iconst SS dX12_isReflexive_32 ?_
            refine lv_goto (tgt := 37) SS.1 SS.2.1 dX12_isReflexive_33 (by decide) ?_
            refine lv_istore_n (lv' := [(2, .int (J 1)), (0, .ref o), (1, .int (J s)), (3, .int (J i))]) SS.1 SS.2.1 dX12_isReflexive_37 rfl hl (by decide) rfl (fun ls hl => ?_)
            refine lv_iinc (v := J (i + 1)) (lv' := [(3, .int (J (i + 1))), (2, .int (J 1)), (0, .ref o), (1, .int (J s))]) SS.1 SS.2.1 dX12_isReflexive_38 hl (k := 3) rfl (J_add _ _) (by decide) rfl (fun ls hl => ?_)
            refine lv_goto (tgt := 8) SS.1 SS.2.1 dX12_isReflexive_41 (by decide) ?_
            exact ih_8 1 (i + 1) ls (lv_sub hl [2, 3, 1, 0] rfl) (by omega) (by first | (refine Or.inl ⟨rfl, by omega, fun j h1 h2 => ?_⟩; by_cases e : j = i; (rw [e, ← h_25.1]; omega); rcases i8_1 with q | q; exact q.2.2 j h1 (by omega); omega) | (refine Or.inr ⟨rfl, fun w => ?_⟩; have w2 := w.2 i (by omega) (by omega); rw [← h_25.1] at w2; omega)) (by omega)
  exact L_8 (((24 : Int) - (0 : Int)).toNat + 1) z_2 0 ls (lv_sub hl [2, 3, 1, 0] rfl) (by omega) (by rcases h_2.1 with q | q; exact Or.inl ⟨q.1, q.2, fun j h1 h2 => by omega⟩; exact Or.inr ⟨q, fun w => by have := h_2.2 (mRef_LO w); omega⟩) (Nat.lt_succ_self _)

