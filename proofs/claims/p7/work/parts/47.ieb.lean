
set_option maxHeartbeats 4000000 in
set_option maxRecDepth 100000 in
theorem c_X3_close2 (l : Launch) (D : JD) (q : Nat → Nat) (u : CS) (A : Nat → Prop) (hD : va_D A (cW D q u)) (p0 : RB 80 u 8) (p1 : HU_ (u.2.1 0) (u.2.1 1)) : Met l yX3_close (jw yX3_close cX3_close 3 none) (jr 3 69) (jP [.ref (q 2)] D (fun H => va_P D.1 j_cl (cW D q u) H)) (jWv (fun u' => ∃ f : Nat → Int, ∃ g : Nat → Int, ∃ n : Int, u' = (sY (sX (sC u 8 n) 8 f) 8 g) ∧ ((0 ≤ n ∧ n ≤ 323) ∧ RV 80 f g ∧ ∀ S : Int → Int → Prop, HUL S (u.2.1 0) (u.2.1 1) → HS S n f g)) (fun u' H => va_P D.1 j_cl (cW D q u') H) A) 0 0 A := by
  refine Met.ofW (cc := cX3_close) (maxL := 3) (ret := none) (by decide) rfl ?_
  intro pr en st mi args below meth co s₁ B hml hv
  obtain ⟨rfl, hG, hP⟩ := hv
  have hr := B.returns
  have hlk := B.notSynchronized
  have SS : jS pr mi co cX3_close 3 st _ RX3 := ⟨B.exec, B.bytes, hml, findClass_of_methodNamed B.named, fun w hw => atoms_spec (ws := (jw yX3_close cX3_close 3 none)) B.pre w (List.mem_cons_of_mem _ hw)⟩
  have hl := lv_entry ([.ref (q 2)]) (n := 3) (Nat.le_of_ble_eq_true rfl)
  rw [lg_entry_eq]
  generalize (lg_sl ([.ref (q 2)]) ++ List.replicate (3 - (lg_sl ([.ref (q 2)])).length) Slot.unset).toArray = ls at hl ⊢
  have hl : lv_has ls 3 [(0, .ref (q 2))] := hl
  have hS : va_S A st.heap st.heap [] := va_S.rf
  have hR : RB 80 u 8 := p0
  have hc := p0.1
  have hr8 := rl8
  rw [rl8] at hc
  refine lv_aload_n SS.1 SS.2.1 dX3_close_0 rfl (lv_at hl 0 rfl) ?_
  refine j_get SS hG hP 2 (v := .ref (q (9 + 5 * 8))) (C := RX3) (T := TX3) (N := 3) rfl rfl inX3 2 (by decide) (ref := "GridPolygons$Hull") kw_179 rfl rfl dX3_close_1 ?_
  refine j_iconst SS dX3_close_4 ?_
  refine j_putS SS hG hP (cW_D hD) hS (9 + 5 * 8) (v := .int (J 0)) (ty := .int) (C := RX7) (T := TX7) (N := 3) (cw_ring (by omega)) rfl inX7 tyX7 tyX7_ok nmX7 2 (by decide) (ref := "GridPolygons$Ring") kw_141 kw_132 rfl (by decide +kernel) rfl rfl (Nat.le_of_ble_eq_true rfl) dX3_close_5 (ws' := (cW D q (sC u 8 0))) (cs_ring (by omega)) (fun H locs hP hS => ?_)
  refine j_iconst SS dX3_close_8 ?_
  refine lv_istore_n (lv' := [(1, .int (J 0)), (0, .ref (q 2))]) SS.1 SS.2.1 dX3_close_9 rfl hl (by decide) rfl (fun ls hl => ?_)
  have L_10 : ∀ (nn : Nat) (i : Int) (f1 : Nat → Int) (g1 : Nat → Int) (n1 : Int) (H : Heap) (locs : List Loc) (hP : va_P D.1 j_cl (cW D q (sY (sX (sC u 8 n1) 8 f1) 8 g1)) H) (hS : va_S A st.heap H locs) (ls : Array Slot) (hl : lv_has ls 3 [(0, .ref (q 2)), (1, .int (J i))]) (i10_0 : 0 ≤ i ∧ i ≤ 161) (i10_1 : 0 ≤ n1 ∧ n1 ≤ i) (i10_2 : RV 80 f1 g1) (i10_3 : CLW (u.2.1 0) (u.2.1 1) f1 g1 i n1), ((161 : Int) - i).toNat < nn → W pr l en (headSpec (jw yX3_close cX3_close 3 none) (jr 3 69)).room st mi (([.ref (q 2)] : List Value).toArray) below meth co H locs 0 0 (MQ below (jWv (fun u' => ∃ f : Nat → Int, ∃ g : Nat → Int, ∃ n : Int, u' = (sY (sX (sC u 8 n) 8 f) 8 g) ∧ ((0 ≤ n ∧ n ≤ 323) ∧ RV 80 f g ∧ ∀ S : Int → Int → Prop, HUL S (u.2.1 0) (u.2.1 1) → HS S n f g)) (fun u' H => va_P D.1 j_cl (cW D q u') H) A) (([.ref (q 2)] : List Value).toArray) st 0 0 A) (F0 mi 10 ls []) := by
    intro nn
    induction nn with
    | zero => intros; omega
    | succ nn ih_10 =>
      intro i f1 g1 n1 H locs hP hS ls hl i10_0 i10_1 i10_2 i10_3 hm
      have hR : RB 80 (sY (sX (sC u 8 n1) 8 f1) 8 g1) 8 := ⟨by show 0 ≤ n1 ∧ n1 ≤ (rl 8 : Int); rw [rl8]; omega, i10_2⟩
      have qh := p1 i.toNat
      refine lv_iload_n SS.1 SS.2.1 dX3_close_10 rfl (lv_at hl 1 rfl) ?_
      refine j_sipush SS dX3_close_11 (by decide +kernel) ?_
      refine j_icmp_ge SS (tgt := 53) (x := i) (y := 161) dX3_close_14 (by decide) (by omega) (by decide) (fun c_14 => ?_) (fun c_14 => ?_)
      · skip
        refine lv_aload_n SS.1 SS.2.1 dX3_close_53 rfl (lv_at hl 0 rfl) ?_
        refine j_get SS hG hP 2 (v := .ref (q (9 + 5 * 8))) (C := RX3) (T := TX3) (N := 3) rfl rfl inX3 2 (by decide) (ref := "GridPolygons$Hull") kw_179 rfl rfl dX3_close_54 ?_
        refine j_getS SS hG hP (9 + 5 * 8) (v := .int (J n1)) (C := RX7) (T := TX7) (N := 3) (cw_ring (by omega)) rfl inX7 2 (by decide) (ref := "GridPolygons$Ring") kw_141 kw_132 rfl dX3_close_57 ?_
        refine j_iconst SS dX3_close_60 ?_
        refine j_isub SS (x := n1) (y := 1) dX3_close_61 ?_
        refine lv_istore_n (lv' := [(1, .int (J (n1 - 1))), (0, .ref (q 2))]) SS.1 SS.2.1 dX3_close_62 rfl hl (by decide) rfl (fun ls hl => ?_)
        have ei : i = 161 := by omega
        rw [ei] at i10_3
        refine j_sipush SS dX3_close_63 (by decide +kernel) ?_
        refine lv_istore_n (lv' := [(2, .int (J 160)), (1, .int (J (n1 - 1))), (0, .ref (q 2))]) SS.1 SS.2.1 dX3_close_66 rfl hl (by decide) rfl (fun ls hl => ?_)
        have L_67 : ∀ (nn : Nat) (j : Int) (f2 : Nat → Int) (g2 : Nat → Int) (n2 : Int) (H : Heap) (locs : List Loc) (hP : va_P D.1 j_cl (cW D q (sY (sX (sC u 8 n2) 8 f2) 8 g2)) H) (hS : va_S A st.heap H locs) (ls : Array Slot) (hl : lv_has ls 3 [(0, .ref (q 2)), (1, .int (J (n1 - 1))), (2, .int (J j))]) (i67_0 : -1 ≤ j ∧ j ≤ 160) (i67_1 : 0 ≤ n2 ∧ n2 ≤ n1 + 160 - j) (i67_2 : RV 80 f2 g2) (i67_3 : 0 < n1 → UP (u.2.1 0) (u.2.1 1) f1 g1 (n1 - 1).toNat j f2 g2 n2.toNat) (i67_4 : n1 = 0 → n2 = 0), (j + 1).toNat < nn → W pr l en (headSpec (jw yX3_close cX3_close 3 none) (jr 3 69)).room st mi (([.ref (q 2)] : List Value).toArray) below meth co H locs 0 0 (MQ below (jWv (fun u' => ∃ f : Nat → Int, ∃ g : Nat → Int, ∃ n : Int, u' = (sY (sX (sC u 8 n) 8 f) 8 g) ∧ ((0 ≤ n ∧ n ≤ 323) ∧ RV 80 f g ∧ ∀ S : Int → Int → Prop, HUL S (u.2.1 0) (u.2.1 1) → HS S n f g)) (fun u' H => va_P D.1 j_cl (cW D q u') H) A) (([.ref (q 2)] : List Value).toArray) st 0 0 A) (F0 mi 67 ls []) := by
          intro nn
          induction nn with
          | zero => intros; omega
          | succ nn ih_67 =>
            intro j f2 g2 n2 H locs hP hS ls hl i67_0 i67_1 i67_2 i67_3 i67_4 hm
            have hR : RB 80 (sY (sX (sC u 8 n2) 8 f2) 8 g2) 8 := ⟨by show 0 ≤ n2 ∧ n2 ≤ (rl 8 : Int); rw [rl8]; omega, i67_2⟩
            have qh := p1 j.toNat
            refine lv_iload_n SS.1 SS.2.1 dX3_close_67 rfl (lv_at hl 2 rfl) ?_
            refine j_if_lt SS (tgt := 107) (x := j) dX3_close_68 (by decide) (by omega) (fun c_68 => ?_) (fun c_68 => ?_)
            · skip
              refine lv_aload_n SS.1 SS.2.1 dX3_close_107 rfl (lv_at hl 0 rfl) ?_
              refine j_get SS hG hP 2 (v := .ref (q (9 + 5 * 8))) (C := RX3) (T := TX3) (N := 3) rfl rfl inX3 2 (by decide) (ref := "GridPolygons$Hull") kw_179 rfl rfl dX3_close_108 ?_
              refine j_getS SS hG hP (9 + 5 * 8) (v := .int (J n2)) (C := RX7) (T := TX7) (N := 3) (cw_ring (by omega)) rfl inX7 2 (by decide) (ref := "GridPolygons$Ring") kw_141 kw_132 rfl dX3_close_111 ?_
              refine j_iconst SS dX3_close_114 ?_
              refine j_icmp_le SS (tgt := 154) (x := n2) (y := 1) dX3_close_115 (by decide) (by omega) (by decide) (fun c_115 => ?_) (fun c_115 => ?_)
              · skip
                exact W.vret SS.1 SS.2.1 hr (fun t0 ht hW => ⟨⟨(sY (sX (sC u 8 n2) 8 f2) 8 g2), rfl, (⟨f2, g2, n2, rfl, ⟨by omega, i67_2, UP_e i10_3 i67_3 (by omega) (by omega) i67_4 (by first | exact Or.inl ⟨by omega, Or.inl (by omega)⟩ | (rcases h_135 with q | q; exact Or.inr ⟨by omega, by omega, q.2.2.1.symm, q.2.2.2.symm⟩; omega) | (rcases h_135 with q | q; omega; refine Or.inl ⟨by omega, ?_⟩; have q2 := q.2; by_cases w1 : f2 0 = f2 (n2 - 1).toNat; (by_cases w2 : g2 0 = g2 (n2 - 1).toNat; exact absurd ⟨by omega, w1.symm, w2.symm⟩ q2; exact Or.inr (Or.inr w2)); exact Or.inr (Or.inl w1)))⟩⟩), by show va_P D.1 j_cl (cW D q (sY (sX (sC u 8 n2) 8 f2) 8 g2)) t0.heap; rw [ht]; first | exact hP | (simp only [sC_id, sX_id, sY_id, sH_id, sT_id, sV_id]; exact hP)⟩, hS.F ht⟩) hS.2.2 dX3_close_154 hlk
              · skip
                refine lv_aload_n SS.1 SS.2.1 dX3_close_118 rfl (lv_at hl 0 rfl) ?_
                refine lv_aload_n SS.1 SS.2.1 dX3_close_119 rfl (lv_at hl 0 rfl) ?_
                refine j_get SS hG hP 2 (v := .ref (q (9 + 5 * 8))) (C := RX3) (T := TX3) (N := 3) rfl rfl inX3 2 (by decide) (ref := "GridPolygons$Hull") kw_179 rfl rfl dX3_close_120 ?_
                refine j_iconst SS dX3_close_123 ?_
                refine j_uRi SS (As := [.int (J 0)]) (rest := [.ref (q 2)]) (c_X8_x l D q (sY (sX (sC u 8 n2) 8 f2) 8 g2) 8 (by omega) 0 (show -2147483648 ≤ (0 : Int) ∧ (0 : Int) ≤ 2147483647 from (by omega))) mu_7_x kw_437 hG hP hP (ci := 7) (q0 := (9 + 5 * 8)) rfl (cw_ring (by omega)) rfl rfl hl.1 ⟨⟨Nat.le_of_ble_eq_true rfl, Nat.le_of_ble_eq_true rfl⟩, Nat.le_of_ble_eq_true rfl, Nat.le_refl _, Nat.le_refl _⟩ rfl dX3_close_124 (fun z_124 h_124 => ?_)
                have h_124 : z_124 = rx (sY (sX (sC u 8 n2) 8 f2) 8 g2) 8 (0 : Int) ∧ ∀ K : Int, 0 ≤ K → RB K (sY (sX (sC u 8 n2) 8 f2) 8 g2) 8 → -K ≤ z_124 ∧ z_124 ≤ K := h_124
                have hb_124 := h_124.2 80 (by omega) (hR)
                refine lv_aload_n SS.1 SS.2.1 dX3_close_127 rfl (lv_at hl 0 rfl) ?_
                refine j_get SS hG hP 2 (v := .ref (q (9 + 5 * 8))) (C := RX3) (T := TX3) (N := 3) rfl rfl inX3 2 (by decide) (ref := "GridPolygons$Hull") kw_179 rfl rfl dX3_close_128 ?_
                refine j_iconst SS dX3_close_131 ?_
                refine j_uRi SS (As := [.int (J 0)]) (rest := [.int (J z_124), .ref (q 2)]) (c_X8_y l D q (sY (sX (sC u 8 n2) 8 f2) 8 g2) 8 (by omega) 0 (show -2147483648 ≤ (0 : Int) ∧ (0 : Int) ≤ 2147483647 from (by omega))) mu_7_y kw_443 hG hP hP (ci := 7) (q0 := (9 + 5 * 8)) rfl (cw_ring (by omega)) rfl rfl hl.1 ⟨⟨Nat.le_of_ble_eq_true rfl, Nat.le_of_ble_eq_true rfl⟩, Nat.le_of_ble_eq_true rfl, Nat.le_refl _, Nat.le_refl _⟩ rfl dX3_close_132 (fun z_132 h_132 => ?_)
                have h_132 : z_132 = ry9 (sY (sX (sC u 8 n2) 8 f2) 8 g2) 8 (0 : Int) ∧ ∀ K : Int, 0 ≤ K → RB K (sY (sX (sC u 8 n2) 8 f2) 8 g2) 8 → -K ≤ z_132 ∧ z_132 ≤ K := h_132
                have hb_132 := h_132.2 80 (by omega) (hR)
                have hx0 : z_124 = f2 0 := by rw [h_124.1]; exact if_pos (by rw [rl8]; omega)
                have hy0 : z_132 = g2 0 := by rw [h_132.1]; exact if_pos (by rw [rl8]; omega)
                refine j_vRi SS (As := [.int (J z_124), .int (J z_132)]) (rest := []) (c_X3_isLast l D q (sY (sX (sC u 8 n2) 8 f2) 8 g2)  z_124 z_132 (show RB 80 (sY (sX (sC u 8 n2) 8 f2) 8 g2) 8 from (hR)) (show -2147483648 ≤ z_124 ∧ z_124 ≤ 2147483647 from (by omega)) (show -2147483648 ≤ z_132 ∧ z_132 ≤ 2147483647 from (by omega))) mf_X3_isLast kw_433 hG hP hP (ci := 3) (q0 := 2) rfl rfl rfl rfl hl.1 ⟨⟨Nat.le_of_ble_eq_true rfl, Nat.le_of_ble_eq_true rfl⟩, Nat.le_of_ble_eq_true rfl, Nat.le_refl _, Nat.le_refl _⟩ rfl dX3_close_135 (fun z_135 h_135 => ?_)
                have h_135 : (z_135 = 1 ∧ 0 < n2 ∧ rx (sY (sX (sC u 8 n2) 8 f2) 8 g2) 8 (n2 - 1) = z_124 ∧ ry9 (sY (sX (sC u 8 n2) 8 f2) 8 g2) 8 (n2 - 1) = z_132) ∨ (z_135 = 0 ∧ ¬ (0 < n2 ∧ rx (sY (sX (sC u 8 n2) 8 f2) 8 g2) 8 (n2 - 1) = z_124 ∧ ry9 (sY (sX (sC u 8 n2) 8 f2) 8 g2) 8 (n2 - 1) = z_132)) := h_135
                have hrx : rx (sY (sX (sC u 8 n2) 8 f2) 8 g2) 8 (n2 - 1) = f2 (n2 - 1).toNat := if_pos (by rw [rl8]; omega)
                have hry : ry9 (sY (sX (sC u 8 n2) 8 f2) 8 g2) 8 (n2 - 1) = g2 (n2 - 1).toNat := if_pos (by rw [rl8]; omega)
                rw [hrx, hry, hx0, hy0] at h_135
                refine j_if_eq SS (tgt := 154) (x := z_135) dX3_close_138 (by decide) (by omega) (fun c_138 => ?_) (fun c_138 => ?_)
                · skip
                  exact W.vret SS.1 SS.2.1 hr (fun t0 ht hW => ⟨⟨(sY (sX (sC u 8 n2) 8 f2) 8 g2), rfl, (⟨f2, g2, n2, rfl, ⟨by omega, i67_2, UP_e i10_3 i67_3 (by omega) (by omega) i67_4 (by first | exact Or.inl ⟨by omega, Or.inl (by omega)⟩ | (rcases h_135 with q | q; exact Or.inr ⟨by omega, by omega, q.2.2.1.symm, q.2.2.2.symm⟩; omega) | (rcases h_135 with q | q; omega; refine Or.inl ⟨by omega, ?_⟩; have q2 := q.2; by_cases w1 : f2 0 = f2 (n2 - 1).toNat; (by_cases w2 : g2 0 = g2 (n2 - 1).toNat; exact absurd ⟨by omega, w1.symm, w2.symm⟩ q2; exact Or.inr (Or.inr w2)); exact Or.inr (Or.inl w1)))⟩⟩), by show va_P D.1 j_cl (cW D q (sY (sX (sC u 8 n2) 8 f2) 8 g2)) t0.heap; rw [ht]; first | exact hP | (simp only [sC_id, sX_id, sY_id, sH_id, sT_id, sV_id]; exact hP)⟩, hS.F ht⟩) hS.2.2 dX3_close_154 hlk
                · skip
                  refine lv_aload_n SS.1 SS.2.1 dX3_close_141 rfl (lv_at hl 0 rfl) ?_
                  refine j_get SS hG hP 2 (v := .ref (q (9 + 5 * 8))) (C := RX3) (T := TX3) (N := 3) rfl rfl inX3 2 (by decide) (ref := "GridPolygons$Hull") kw_179 rfl rfl dX3_close_142 ?_
                  refine lv_dup SS.1 SS.2.1 dX3_close_145 rfl ?_
                  refine j_getS SS hG hP (9 + 5 * 8) (v := .int (J n2)) (C := RX7) (T := TX7) (N := 3) (cw_ring (by omega)) rfl inX7 2 (by decide) (ref := "GridPolygons$Ring") kw_141 kw_132 rfl dX3_close_146 ?_
                  refine j_iconst SS dX3_close_149 ?_
                  refine j_isub SS (x := n2) (y := 1) dX3_close_150 ?_
                  refine j_putS SS hG hP (cW_D hD) hS (9 + 5 * 8) (v := .int (J (n2 - 1))) (ty := .int) (C := RX7) (T := TX7) (N := 3) (cw_ring (by omega)) rfl inX7 tyX7 tyX7_ok nmX7 2 (by decide) (ref := "GridPolygons$Ring") kw_141 kw_132 rfl (by decide +kernel) rfl rfl (Nat.le_of_ble_eq_true rfl) dX3_close_151 (ws' := (cW D q (sY (sX (sC u 8 (n2 - 1)) 8 f2) 8 g2))) (cs_ring (by omega)) (fun H locs hP hS => ?_)
                  exact W.vret SS.1 SS.2.1 hr (fun t0 ht hW => ⟨⟨(sY (sX (sC u 8 (n2 - 1)) 8 f2) 8 g2), rfl, (⟨f2, g2, (n2 - 1), rfl, ⟨by omega, i67_2, UP_e i10_3 i67_3 (by omega) (by omega) i67_4 (by first | exact Or.inl ⟨by omega, Or.inl (by omega)⟩ | (rcases h_135 with q | q; exact Or.inr ⟨by omega, by omega, q.2.2.1.symm, q.2.2.2.symm⟩; omega) | (rcases h_135 with q | q; omega; refine Or.inl ⟨by omega, ?_⟩; have q2 := q.2; by_cases w1 : f2 0 = f2 (n2 - 1).toNat; (by_cases w2 : g2 0 = g2 (n2 - 1).toNat; exact absurd ⟨by omega, w1.symm, w2.symm⟩ q2; exact Or.inr (Or.inr w2)); exact Or.inr (Or.inl w1)))⟩⟩), by show va_P D.1 j_cl (cW D q (sY (sX (sC u 8 (n2 - 1)) 8 f2) 8 g2)) t0.heap; rw [ht]; first | exact hP | (simp only [sC_id, sX_id, sY_id, sH_id, sT_id, sV_id]; exact hP)⟩, hS.F ht⟩) hS.2.2 dX3_close_154 hlk
            · skip
              refine lv_aload_n SS.1 SS.2.1 dX3_close_71 rfl (lv_at hl 0 rfl) ?_
              refine j_get SS hG hP 2 (v := .ref (q 48)) (C := RX3) (T := TX3) (N := 3) rfl rfl inX3 0 (by decide) (ref := "GridPolygons$Hull") kw_177 rfl rfl dX3_close_72 ?_
              refine lv_iload_n SS.1 SS.2.1 dX3_close_75 rfl (lv_at hl 2 rfl) ?_
              refine j_iald SS hG hP 48 (n := 161) (f := (u.2.1 0)) rfl (z := j) (by omega) (by omega) dX3_close_76 ?_
              refine lv_aload_n SS.1 SS.2.1 dX3_close_77 rfl (lv_at hl 0 rfl) ?_
              refine j_get SS hG hP 2 (v := .ref (q 52)) (C := RX3) (T := TX3) (N := 3) rfl rfl inX3 1 (by decide) (ref := "GridPolygons$Hull") kw_178 rfl rfl dX3_close_78 ?_
              refine lv_iload_n SS.1 SS.2.1 dX3_close_81 rfl (lv_at hl 2 rfl) ?_
              refine j_iald SS hG hP 52 (n := 161) (f := (u.2.1 1)) rfl (z := j) (by omega) (by omega) dX3_close_82 ?_
              refine j_icmp_gt SS (tgt := 101) (x := ((u.2.1 0) (j).toNat)) (y := ((u.2.1 1) (j).toNat)) dX3_close_83 (by decide) (by omega) (by omega) (fun c_83 => ?_) (fun c_83 => ?_)
              · skip
                refine lv_iinc (v := J (j + (-1))) (lv' := [(2, .int (J (j + (-1)))), (0, .ref (q 2)), (1, .int (J (n1 - 1)))]) SS.1 SS.2.1 dX3_close_101 hl (k := 2) rfl (J_add _ _) (by decide) rfl (fun ls hl => ?_)
                refine lv_goto (tgt := 67) SS.1 SS.2.1 dX3_close_104 (by decide) ?_
                exact ih_67 (j + (-1)) f2 g2 n2 _ _ hP hS ls (lv_sub hl [1, 2, 0] rfl) (by omega) (by first | (have := PU_n h_98.2; omega) | omega) (by first | exact h_98.1.2 | exact i67_2) (fun h => by first | exact UP_s (n := n2) hC1 (by omega) (by omega) (i67_3 h) (by omega) (by omega) (by rw [show (((n1 - 1).toNat : Nat) : Int) = n1 - 1 by omega]; exact h_98.2) | exact UP_k (by omega) (i67_3 h) (by omega)) (fun h => by first | exact i67_4 h | omega) (by omega)
              · skip
                refine lv_aload_n SS.1 SS.2.1 dX3_close_86 rfl (lv_at hl 0 rfl) ?_
                refine lv_iload_n SS.1 SS.2.1 dX3_close_87 rfl (lv_at hl 2 rfl) ?_
                refine j_bipush SS dX3_close_88 (by decide +kernel) ?_
                refine j_isub SS (x := j) (y := 80) dX3_close_90 ?_
                refine lv_aload_n SS.1 SS.2.1 dX3_close_91 rfl (lv_at hl 0 rfl) ?_
                refine j_get SS hG hP 2 (v := .ref (q 52)) (C := RX3) (T := TX3) (N := 3) rfl rfl inX3 1 (by decide) (ref := "GridPolygons$Hull") kw_178 rfl rfl dX3_close_92 ?_
                refine lv_iload_n SS.1 SS.2.1 dX3_close_95 rfl (lv_at hl 2 rfl) ?_
                refine j_iald SS hG hP 52 (n := 161) (f := (u.2.1 1)) rfl (z := j) (by omega) (by omega) dX3_close_96 ?_
                refine lv_iload_n SS.1 SS.2.1 dX3_close_97 rfl (lv_at hl 1 rfl) ?_
                have hn1 : 0 < n1 := by rcases i10_3 with q | q; exact absurd (show u.2.1 0 j.toNat ≤ u.2.1 1 j.toNat by omega) (q.2 j.toNat (by omega)); exact q.1
                have hC1 : chx (SL (u.2.1 0) (u.2.1 1) 161) f1 g1 0 ((n1 - 1).toNat + 1) := by rcases i10_3 with q | q; omega; rw [show (n1 - 1).toNat + 1 = n1.toNat by omega]; exact q.2
                refine j_vWv SS (As := [.int (J (j - 80)), .int (J ((u.2.1 1) (j).toNat)), .int (J (n1 - 1))]) (rest := []) (c_X3_push2 l D q (sY (sX (sC u 8 n2) 8 f2) 8 g2) A (cW_D hD)  (j - 80) ((u.2.1 1) (j).toNat) (n1 - 1) (show RB 80 (sY (sX (sC u 8 n2) 8 f2) 8 g2) 8 from (hR)) (show -80 ≤ (j - 80) ∧ (j - 80) ≤ 80 from (by omega)) (show -80 ≤ ((u.2.1 1) (j).toNat) ∧ ((u.2.1 1) (j).toNat) ≤ 80 from (by omega)) (show 0 ≤ (n1 - 1) ∧ (n1 - 1) ≤ 400 from (by omega)) (show n2 ≤ 322 from (by omega))) mf_X3_push kw_429 hG hP hP (ci := 3) (q0 := 2) rfl rfl rfl hS (fun _ h => h) rfl hl.1 ⟨⟨Nat.le_of_ble_eq_true rfl, Nat.le_of_ble_eq_true rfl⟩, Nat.le_of_ble_eq_true rfl, Nat.le_refl _, Nat.le_refl _⟩ rfl dX3_close_98 (fun u98 H locs h_98 hP _ hS => ?_)
                obtain ⟨f_98, g_98, n_98, rfl, h_98⟩ := h_98
                have hP : va_P D.1 j_cl (cW D q (sY (sX (sC u 8 n_98) 8 f_98) 8 g_98)) H := hP
                have h_98 : ((0 ≤ n_98 ∧ n_98 ≤ 323) ∧ RV 80 f_98 g_98) ∧ PU (f2) (g2) f_98 g_98 (n2) (n1 - 1) (j - 80) ((u.2.1 1) (j).toNat) n_98 := h_98
                refine lv_iinc (v := J (j + (-1))) (lv' := [(2, .int (J (j + (-1)))), (0, .ref (q 2)), (1, .int (J (n1 - 1)))]) SS.1 SS.2.1 dX3_close_101 hl (k := 2) rfl (J_add _ _) (by decide) rfl (fun ls hl => ?_)
                refine lv_goto (tgt := 67) SS.1 SS.2.1 dX3_close_104 (by decide) ?_
                exact ih_67 (j + (-1)) f_98 g_98 n_98 _ _ hP hS ls (lv_sub hl [1, 2, 0] rfl) (by omega) (by first | (have := PU_n h_98.2; omega) | omega) (by first | exact h_98.1.2 | exact i67_2) (fun h => by first | exact UP_s (n := n2) hC1 (by omega) (by omega) (i67_3 h) (by omega) (by omega) (by rw [show (((n1 - 1).toNat : Nat) : Int) = n1 - 1 by omega]; exact h_98.2) | exact UP_k (by omega) (i67_3 h) (by omega)) (fun h => by first | exact i67_4 h | omega) (by omega)
        exact L_67 (((160 : Int) + 1).toNat + 1) 160 f1 g1 n1 _ _ hP hS ls (lv_sub hl [2, 1, 0] rfl) (by omega) (by omega) (i10_2) (fun h => by have q := UP_0 (f := u.2.1 0) (g := u.2.1 1) (FX := f1) (FY := g1) (m := (n1 - 1).toNat); rw [show (n1 - 1).toNat + 1 = n1.toNat by omega] at q; exact q) (by omega) (Nat.lt_succ_self _)
      · skip
        refine lv_aload_n SS.1 SS.2.1 dX3_close_17 rfl (lv_at hl 0 rfl) ?_
        refine j_get SS hG hP 2 (v := .ref (q 48)) (C := RX3) (T := TX3) (N := 3) rfl rfl inX3 0 (by decide) (ref := "GridPolygons$Hull") kw_177 rfl rfl dX3_close_18 ?_
        refine lv_iload_n SS.1 SS.2.1 dX3_close_21 rfl (lv_at hl 1 rfl) ?_
        refine j_iald SS hG hP 48 (n := 161) (f := (u.2.1 0)) rfl (z := i) (by omega) (by omega) dX3_close_22 ?_
        refine lv_aload_n SS.1 SS.2.1 dX3_close_23 rfl (lv_at hl 0 rfl) ?_
        refine j_get SS hG hP 2 (v := .ref (q 52)) (C := RX3) (T := TX3) (N := 3) rfl rfl inX3 1 (by decide) (ref := "GridPolygons$Hull") kw_178 rfl rfl dX3_close_24 ?_
        refine lv_iload_n SS.1 SS.2.1 dX3_close_27 rfl (lv_at hl 1 rfl) ?_
        refine j_iald SS hG hP 52 (n := 161) (f := (u.2.1 1)) rfl (z := i) (by omega) (by omega) dX3_close_28 ?_
        refine j_icmp_gt SS (tgt := 47) (x := ((u.2.1 0) (i).toNat)) (y := ((u.2.1 1) (i).toNat)) dX3_close_29 (by decide) (by omega) (by omega) (fun c_29 => ?_) (fun c_29 => ?_)
        · skip
          refine lv_iinc (v := J (i + 1)) (lv' := [(1, .int (J (i + 1))), (0, .ref (q 2))]) SS.1 SS.2.1 dX3_close_47 hl (k := 1) rfl (J_add _ _) (by decide) rfl (fun ls hl => ?_)
          refine lv_goto (tgt := 10) SS.1 SS.2.1 dX3_close_50 (by decide) ?_
          exact ih_10 (i + 1) f1 g1 n1 _ _ hP hS ls (lv_sub hl [1, 0] rfl) (by omega) (by first | (have := PU_n h_44.2; omega) | omega) (by first | exact h_44.1.2 | exact i10_2) (by first | exact CLW_s (by omega) (by omega) i10_3 (by omega) h_44.2 | exact CLW_k (by omega) i10_3 (by omega)) (by omega)
        · skip
          refine lv_aload_n SS.1 SS.2.1 dX3_close_32 rfl (lv_at hl 0 rfl) ?_
          refine lv_iload_n SS.1 SS.2.1 dX3_close_33 rfl (lv_at hl 1 rfl) ?_
          refine j_bipush SS dX3_close_34 (by decide +kernel) ?_
          refine j_isub SS (x := i) (y := 80) dX3_close_36 ?_
          refine lv_aload_n SS.1 SS.2.1 dX3_close_37 rfl (lv_at hl 0 rfl) ?_
          refine j_get SS hG hP 2 (v := .ref (q 48)) (C := RX3) (T := TX3) (N := 3) rfl rfl inX3 0 (by decide) (ref := "GridPolygons$Hull") kw_177 rfl rfl dX3_close_38 ?_
          refine lv_iload_n SS.1 SS.2.1 dX3_close_41 rfl (lv_at hl 1 rfl) ?_
          refine j_iald SS hG hP 48 (n := 161) (f := (u.2.1 0)) rfl (z := i) (by omega) (by omega) dX3_close_42 ?_
          refine j_iconst SS dX3_close_43 ?_
          refine j_vWv SS (As := [.int (J (i - 80)), .int (J ((u.2.1 0) (i).toNat)), .int (J 0)]) (rest := []) (c_X3_push2 l D q (sY (sX (sC u 8 n1) 8 f1) 8 g1) A (cW_D hD)  (i - 80) ((u.2.1 0) (i).toNat) 0 (show RB 80 (sY (sX (sC u 8 n1) 8 f1) 8 g1) 8 from (hR)) (show -80 ≤ (i - 80) ∧ (i - 80) ≤ 80 from (by omega)) (show -80 ≤ ((u.2.1 0) (i).toNat) ∧ ((u.2.1 0) (i).toNat) ≤ 80 from (by omega)) (show 0 ≤ (0 : Int) ∧ (0 : Int) ≤ 400 from (by omega)) (show n1 ≤ 322 from (by omega))) mf_X3_push kw_429 hG hP hP (ci := 3) (q0 := 2) rfl rfl rfl hS (fun _ h => h) rfl hl.1 ⟨⟨Nat.le_of_ble_eq_true rfl, Nat.le_of_ble_eq_true rfl⟩, Nat.le_of_ble_eq_true rfl, Nat.le_refl _, Nat.le_refl _⟩ rfl dX3_close_44 (fun u44 H locs h_44 hP _ hS => ?_)
          obtain ⟨f_44, g_44, n_44, rfl, h_44⟩ := h_44
          have hP : va_P D.1 j_cl (cW D q (sY (sX (sC u 8 n_44) 8 f_44) 8 g_44)) H := hP
          have h_44 : ((0 ≤ n_44 ∧ n_44 ≤ 323) ∧ RV 80 f_44 g_44) ∧ PU (f1) (g1) f_44 g_44 (n1) (0 : Int) (i - 80) ((u.2.1 0) (i).toNat) n_44 := h_44
          refine lv_iinc (v := J (i + 1)) (lv' := [(1, .int (J (i + 1))), (0, .ref (q 2))]) SS.1 SS.2.1 dX3_close_47 hl (k := 1) rfl (J_add _ _) (by decide) rfl (fun ls hl => ?_)
          refine lv_goto (tgt := 10) SS.1 SS.2.1 dX3_close_50 (by decide) ?_
          exact ih_10 (i + 1) f_44 g_44 n_44 _ _ hP hS ls (lv_sub hl [1, 0] rfl) (by omega) (by first | (have := PU_n h_44.2; omega) | omega) (by first | exact h_44.1.2 | exact i10_2) (by first | exact CLW_s (by omega) (by omega) i10_3 (by omega) h_44.2 | exact CLW_k (by omega) i10_3 (by omega)) (by omega)
  exact L_10 (((161 : Int) - (0 : Int)).toNat + 1) 0 (u.1.1 8) (u.1.2.1 8) 0 _ _ hP hS ls (lv_sub hl [1, 0] rfl) (by omega) (by omega) (p0.2) (CLW_0) (Nat.lt_succ_self _)
