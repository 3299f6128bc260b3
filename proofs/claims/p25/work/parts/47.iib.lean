
set_option maxHeartbeats 4000000 in
set_option maxRecDepth 100000 in
theorem c_X7_rightmost2 (l : Launch) (D : JD) (q : Nat → Nat) (u : CS) (r : Nat) (hr : r ≤ 8) (K : Int) (p0 : 0 ≤ K ∧ K ≤ 80) (p1 : RB K u r) : Met l yX7_rightmost (jw yX7_rightmost cX7_rightmost 3 (some .int)) (jr 1 21) (jP [.ref (q (9 + 5 * r))] D (fun H => va_P D.1 j_cl (cW D q u) H)) (jRi (fun z => (-K ≤ z ∧ z ≤ K) ∧ (cAR u r → 0 ≤ z))) 0 0 (fun _ => False) := by
  refine Met.ofW (cc := cX7_rightmost) (maxL := 3) (ret := (some .int)) (by decide) rfl ?_
  intro pr en st mi args below meth co s₁ B hml hv
  obtain ⟨rfl, hG, hP⟩ := hv
  have hr := B.returns
  have hlk := B.notSynchronized
  have SS : jS pr mi co cX7_rightmost 3 st _ RX7 := ⟨B.exec, B.bytes, hml, findClass_of_methodNamed B.named, fun w hw => atoms_spec (ws := (jw yX7_rightmost cX7_rightmost 3 (some .int))) B.pre w (List.mem_cons_of_mem _ hw)⟩
  have hl := lv_entry ([.ref (q (9 + 5 * r))]) (n := 3) (Nat.le_of_ble_eq_true rfl)
  rw [lg_entry_eq]
  generalize (lg_sl ([.ref (q (9 + 5 * r))]) ++ List.replicate (3 - (lg_sl ([.ref (q (9 + 5 * r))])).length) Slot.unset).toArray = ls at hl ⊢
  have hl : lv_has ls 3 [(0, .ref (q (9 + 5 * r)))] := hl
  have hc := p1.1
  have hrl := rl_b r
  refine lv_aload_n SS.1 SS.2.1 dX7_rightmost_0 rfl (lv_at hl 0 rfl) ?_
  refine j_iconst SS dX7_rightmost_1 ?_
  refine j_uRi SS (As := [.int (J 0)]) (rest := []) (c_X8_x l D q u r (by omega) 0 (show -2147483648 ≤ (0 : Int) ∧ (0 : Int) ≤ 2147483647 from (by omega))) mu_7_x kw_501 hG hP hP (ci := 7) (q0 := (9 + 5 * r)) rfl (cw_ring (by omega)) rfl rfl hl.1 ⟨⟨Nat.le_of_ble_eq_true rfl, Nat.le_of_ble_eq_true rfl⟩, Nat.le_of_ble_eq_true rfl, Nat.le_refl _, Nat.le_refl _⟩ rfl dX7_rightmost_2 (fun z_2 h_2 => ?_)
  have h_2 : z_2 = rx u r (0 : Int) ∧ ∀ K : Int, 0 ≤ K → RB K u r → -K ≤ z_2 ∧ z_2 ≤ K := h_2
  have hb_2 := h_2.2 K (by omega) (p1)
  refine lv_istore_n (lv' := [(1, .int (J z_2)), (0, .ref (q (9 + 5 * r)))]) SS.1 SS.2.1 dX7_rightmost_5 rfl hl (by decide) rfl (fun ls hl => ?_)
  refine j_iconst SS dX7_rightmost_6 ?_
  refine lv_istore_n (lv' := [(2, .int (J 1)), (1, .int (J z_2)), (0, .ref (q (9 + 5 * r)))]) SS.1 SS.2.1 dX7_rightmost_7 rfl hl (by decide) rfl (fun ls hl => ?_)
  have L_8 : ∀ (nn : Nat) (t : Int) (i : Int) (ls : Array Slot) (hl : lv_has ls 3 [(0, .ref (q (9 + 5 * r))), (1, .int (J t)), (2, .int (J i))]) (i8_0 : 1 ≤ i ∧ (i ≤ u.1.2.2.1 r ∨ i = 1)) (i8_1 : -K ≤ t ∧ t ≤ K) (i8_2 : ∀ a : Int, 0 ≤ a → a < i → rx u r a ≤ t), (u.1.2.2.1 r - i).toNat < nn → W pr l en (headSpec (jw yX7_rightmost cX7_rightmost 3 (some .int)) (jr 1 21)).room st mi (([.ref (q (9 + 5 * r))] : List Value).toArray) below meth co st.heap [] 0 0 (MQ below (jRi (fun z => (-K ≤ z ∧ z ≤ K) ∧ (cAR u r → 0 ≤ z))) (([.ref (q (9 + 5 * r))] : List Value).toArray) st 0 0 (fun _ => False)) (F0 mi 8 ls []) := by
    intro nn
    induction nn with
    | zero => intros; omega
    | succ nn ih_8 =>
      intro t i ls hl i8_0 i8_1 i8_2 hm
      refine lv_iload_n SS.1 SS.2.1 dX7_rightmost_8 rfl (lv_at hl 2 rfl) ?_
      refine lv_aload_n SS.1 SS.2.1 dX7_rightmost_9 rfl (lv_at hl 0 rfl) ?_
      refine j_getS SS hG hP (9 + 5 * r) (v := .int (J (u.1.2.2.1 r))) (C := RX7) (T := TX7) (N := 3) (cw_ring (by omega)) rfl inX7 2 (by decide) (ref := "GridPolygons$Ring") kw_131 kw_132 rfl dX7_rightmost_10 ?_
      refine j_icmp_ge SS (tgt := 32) (x := i) (y := (u.1.2.2.1 r)) dX7_rightmost_13 (by decide) (by omega) (by omega) (fun c_13 => ?_) (fun c_13 => ?_)
      · skip
        refine lv_iload_n SS.1 SS.2.1 dX7_rightmost_32 rfl (lv_at hl 1 rfl) ?_
        exact W.iret SS.1 SS.2.1 hr (fun t0 ht hW => ⟨_, rfl, ⟨t, rfl, (⟨by omega, fun q => by obtain ⟨b, b1, b2, b3⟩ := q.2.2.2.1; have := i8_2 b b1 (by omega); omega⟩)⟩, ht⟩) (fun _ h => nomatch h) dX7_rightmost_33 hlk
      · skip
        refine lv_iload_n SS.1 SS.2.1 dX7_rightmost_16 rfl (lv_at hl 1 rfl) ?_
        refine lv_aload_n SS.1 SS.2.1 dX7_rightmost_17 rfl (lv_at hl 0 rfl) ?_
        refine lv_iload_n SS.1 SS.2.1 dX7_rightmost_18 rfl (lv_at hl 2 rfl) ?_
        refine j_uRi SS (As := [.int (J i)]) (rest := [.int (J t)]) (c_X8_x l D q u r (by omega) i (show -2147483648 ≤ i ∧ i ≤ 2147483647 from (by omega))) mu_7_x kw_501 hG hP hP (ci := 7) (q0 := (9 + 5 * r)) rfl (cw_ring (by omega)) rfl rfl hl.1 ⟨⟨Nat.le_of_ble_eq_true rfl, Nat.le_of_ble_eq_true rfl⟩, Nat.le_of_ble_eq_true rfl, Nat.le_refl _, Nat.le_refl _⟩ rfl dX7_rightmost_19 (fun z_19 h_19 => ?_)
        have h_19 : z_19 = rx u r i ∧ ∀ K : Int, 0 ≤ K → RB K u r → -K ≤ z_19 ∧ z_19 ≤ K := h_19
        have hb_19 := h_19.2 K (by omega) (p1)
        refine j_sRi SS (As := [.int (J t), .int (J z_19)]) (rest := []) (c_J9_max_7cf53 l D  t z_19 (show -2147483648 ≤ t ∧ t ≤ 2147483647 from (by omega)) (show -2147483648 ≤ z_19 ∧ z_19 ≤ 2147483647 from (by omega))) mf_J9_max_7cf53 kw_593 hG trivial rfl hl.1 ⟨⟨Nat.le_of_ble_eq_true rfl, Nat.le_of_ble_eq_true rfl⟩, Nat.le_of_ble_eq_true rfl, Nat.le_refl _, Nat.le_refl _⟩ rfl dX7_rightmost_22 (fun z_22 h_22 => ?_)
        have h_22 : (z_22 = t ∨ z_22 = z_19) ∧ t ≤ z_22 ∧ z_19 ≤ z_22 := h_22
        refine lv_istore_n (lv' := [(1, .int (J z_22)), (0, .ref (q (9 + 5 * r))), (2, .int (J i))]) SS.1 SS.2.1 dX7_rightmost_25 rfl hl (by decide) rfl (fun ls hl => ?_)
        refine lv_iinc (v := J (i + 1)) (lv' := [(2, .int (J (i + 1))), (1, .int (J z_22)), (0, .ref (q (9 + 5 * r)))]) SS.1 SS.2.1 dX7_rightmost_26 hl (k := 2) rfl (J_add _ _) (by decide) rfl (fun ls hl => ?_)
        refine lv_goto (tgt := 8) SS.1 SS.2.1 dX7_rightmost_29 (by decide) ?_
        exact ih_8 z_22 (i + 1) ls (lv_sub hl [2, 1, 0] rfl) (by omega) (by omega) (fun a h1 h2 => by by_cases e : a = i; (rw [e, ← h_19.1]; omega); have := i8_2 a h1 (by omega); omega) (by omega)
  exact L_8 ((u.1.2.2.1 r - (1 : Int)).toNat + 1) z_2 1 ls (lv_sub hl [2, 1, 0] rfl) (by omega) (by omega) (fun a h1 h2 => by rw [show a = 0 by omega, ← h_2.1]; omega) (Nat.lt_succ_self _)

set_option maxHeartbeats 4000000 in
set_option maxRecDepth 100000 in
theorem c_X7_bottom2 (l : Launch) (D : JD) (q : Nat → Nat) (u : CS) (r : Nat) (hr : r ≤ 8) (K : Int) (p0 : 0 ≤ K ∧ K ≤ 80) (p1 : RB K u r) : Met l yX7_bottom (jw yX7_bottom cX7_bottom 3 (some .int)) (jr 1 21) (jP [.ref (q (9 + 5 * r))] D (fun H => va_P D.1 j_cl (cW D q u) H)) (jRi (fun z => (-K ≤ z ∧ z ≤ K) ∧ (cAR u r → z ≤ 0))) 0 0 (fun _ => False) := by
  refine Met.ofW (cc := cX7_bottom) (maxL := 3) (ret := (some .int)) (by decide) rfl ?_
  intro pr en st mi args below meth co s₁ B hml hv
  obtain ⟨rfl, hG, hP⟩ := hv
  have hr := B.returns
  have hlk := B.notSynchronized
  have SS : jS pr mi co cX7_bottom 3 st _ RX7 := ⟨B.exec, B.bytes, hml, findClass_of_methodNamed B.named, fun w hw => atoms_spec (ws := (jw yX7_bottom cX7_bottom 3 (some .int))) B.pre w (List.mem_cons_of_mem _ hw)⟩
  have hl := lv_entry ([.ref (q (9 + 5 * r))]) (n := 3) (Nat.le_of_ble_eq_true rfl)
  rw [lg_entry_eq]
  generalize (lg_sl ([.ref (q (9 + 5 * r))]) ++ List.replicate (3 - (lg_sl ([.ref (q (9 + 5 * r))])).length) Slot.unset).toArray = ls at hl ⊢
  have hl : lv_has ls 3 [(0, .ref (q (9 + 5 * r)))] := hl
  have hc := p1.1
  have hrl := rl_b r
  refine lv_aload_n SS.1 SS.2.1 dX7_bottom_0 rfl (lv_at hl 0 rfl) ?_
  refine j_iconst SS dX7_bottom_1 ?_
  refine j_uRi SS (As := [.int (J 0)]) (rest := []) (c_X8_y l D q u r (by omega) 0 (show -2147483648 ≤ (0 : Int) ∧ (0 : Int) ≤ 2147483647 from (by omega))) mu_7_y kw_503 hG hP hP (ci := 7) (q0 := (9 + 5 * r)) rfl (cw_ring (by omega)) rfl rfl hl.1 ⟨⟨Nat.le_of_ble_eq_true rfl, Nat.le_of_ble_eq_true rfl⟩, Nat.le_of_ble_eq_true rfl, Nat.le_refl _, Nat.le_refl _⟩ rfl dX7_bottom_2 (fun z_2 h_2 => ?_)
  have h_2 : z_2 = ry9 u r (0 : Int) ∧ ∀ K : Int, 0 ≤ K → RB K u r → -K ≤ z_2 ∧ z_2 ≤ K := h_2
  have hb_2 := h_2.2 K (by omega) (p1)
  refine lv_istore_n (lv' := [(1, .int (J z_2)), (0, .ref (q (9 + 5 * r)))]) SS.1 SS.2.1 dX7_bottom_5 rfl hl (by decide) rfl (fun ls hl => ?_)
  refine j_iconst SS dX7_bottom_6 ?_
  refine lv_istore_n (lv' := [(2, .int (J 1)), (1, .int (J z_2)), (0, .ref (q (9 + 5 * r)))]) SS.1 SS.2.1 dX7_bottom_7 rfl hl (by decide) rfl (fun ls hl => ?_)
  have L_8 : ∀ (nn : Nat) (t : Int) (i : Int) (ls : Array Slot) (hl : lv_has ls 3 [(0, .ref (q (9 + 5 * r))), (1, .int (J t)), (2, .int (J i))]) (i8_0 : 1 ≤ i ∧ (i ≤ u.1.2.2.1 r ∨ i = 1)) (i8_1 : -K ≤ t ∧ t ≤ K) (i8_2 : ∀ a : Int, 0 ≤ a → a < i → ry9 u r a ≥ t), (u.1.2.2.1 r - i).toNat < nn → W pr l en (headSpec (jw yX7_bottom cX7_bottom 3 (some .int)) (jr 1 21)).room st mi (([.ref (q (9 + 5 * r))] : List Value).toArray) below meth co st.heap [] 0 0 (MQ below (jRi (fun z => (-K ≤ z ∧ z ≤ K) ∧ (cAR u r → z ≤ 0))) (([.ref (q (9 + 5 * r))] : List Value).toArray) st 0 0 (fun _ => False)) (F0 mi 8 ls []) := by
    intro nn
    induction nn with
    | zero => intros; omega
    | succ nn ih_8 =>
      intro t i ls hl i8_0 i8_1 i8_2 hm
      refine lv_iload_n SS.1 SS.2.1 dX7_bottom_8 rfl (lv_at hl 2 rfl) ?_
      refine lv_aload_n SS.1 SS.2.1 dX7_bottom_9 rfl (lv_at hl 0 rfl) ?_
      refine j_getS SS hG hP (9 + 5 * r) (v := .int (J (u.1.2.2.1 r))) (C := RX7) (T := TX7) (N := 3) (cw_ring (by omega)) rfl inX7 2 (by decide) (ref := "GridPolygons$Ring") kw_131 kw_132 rfl dX7_bottom_10 ?_
      refine j_icmp_ge SS (tgt := 32) (x := i) (y := (u.1.2.2.1 r)) dX7_bottom_13 (by decide) (by omega) (by omega) (fun c_13 => ?_) (fun c_13 => ?_)
      · skip
        refine lv_iload_n SS.1 SS.2.1 dX7_bottom_32 rfl (lv_at hl 1 rfl) ?_
        exact W.iret SS.1 SS.2.1 hr (fun t0 ht hW => ⟨_, rfl, ⟨t, rfl, (⟨by omega, fun q => by obtain ⟨b, b1, b2, b3⟩ := q.2.2.2.2.1; have := i8_2 b b1 (by omega); omega⟩)⟩, ht⟩) (fun _ h => nomatch h) dX7_bottom_33 hlk
      · skip
        refine lv_iload_n SS.1 SS.2.1 dX7_bottom_16 rfl (lv_at hl 1 rfl) ?_
        refine lv_aload_n SS.1 SS.2.1 dX7_bottom_17 rfl (lv_at hl 0 rfl) ?_
        refine lv_iload_n SS.1 SS.2.1 dX7_bottom_18 rfl (lv_at hl 2 rfl) ?_
        refine j_uRi SS (As := [.int (J i)]) (rest := [.int (J t)]) (c_X8_y l D q u r (by omega) i (show -2147483648 ≤ i ∧ i ≤ 2147483647 from (by omega))) mu_7_y kw_503 hG hP hP (ci := 7) (q0 := (9 + 5 * r)) rfl (cw_ring (by omega)) rfl rfl hl.1 ⟨⟨Nat.le_of_ble_eq_true rfl, Nat.le_of_ble_eq_true rfl⟩, Nat.le_of_ble_eq_true rfl, Nat.le_refl _, Nat.le_refl _⟩ rfl dX7_bottom_19 (fun z_19 h_19 => ?_)
        have h_19 : z_19 = ry9 u r i ∧ ∀ K : Int, 0 ≤ K → RB K u r → -K ≤ z_19 ∧ z_19 ≤ K := h_19
        have hb_19 := h_19.2 K (by omega) (p1)
        refine j_sRi SS (As := [.int (J t), .int (J z_19)]) (rest := []) (c_J9_min_7cf53 l D  t z_19 (show -2147483648 ≤ t ∧ t ≤ 2147483647 from (by omega)) (show -2147483648 ≤ z_19 ∧ z_19 ≤ 2147483647 from (by omega))) mf_J9_min_7cf53 kw_602 hG trivial rfl hl.1 ⟨⟨Nat.le_of_ble_eq_true rfl, Nat.le_of_ble_eq_true rfl⟩, Nat.le_of_ble_eq_true rfl, Nat.le_refl _, Nat.le_refl _⟩ rfl dX7_bottom_22 (fun z_22 h_22 => ?_)
        have h_22 : (z_22 = t ∨ z_22 = z_19) ∧ z_22 ≤ t ∧ z_22 ≤ z_19 := h_22
        refine lv_istore_n (lv' := [(1, .int (J z_22)), (0, .ref (q (9 + 5 * r))), (2, .int (J i))]) SS.1 SS.2.1 dX7_bottom_25 rfl hl (by decide) rfl (fun ls hl => ?_)
        refine lv_iinc (v := J (i + 1)) (lv' := [(2, .int (J (i + 1))), (1, .int (J z_22)), (0, .ref (q (9 + 5 * r)))]) SS.1 SS.2.1 dX7_bottom_26 hl (k := 2) rfl (J_add _ _) (by decide) rfl (fun ls hl => ?_)
        refine lv_goto (tgt := 8) SS.1 SS.2.1 dX7_bottom_29 (by decide) ?_
        exact ih_8 z_22 (i + 1) ls (lv_sub hl [2, 1, 0] rfl) (by omega) (by omega) (fun a h1 h2 => by by_cases e : a = i; (rw [e, ← h_19.1]; omega); have := i8_2 a h1 (by omega); omega) (by omega)
  exact L_8 ((u.1.2.2.1 r - (1 : Int)).toNat + 1) z_2 1 ls (lv_sub hl [2, 1, 0] rfl) (by omega) (by omega) (fun a h1 h2 => by rw [show a = 0 by omega, ← h_2.1]; omega) (Nat.lt_succ_self _)

set_option maxHeartbeats 4000000 in
set_option maxRecDepth 100000 in
theorem c_X7_top2 (l : Launch) (D : JD) (q : Nat → Nat) (u : CS) (r : Nat) (hr : r ≤ 8) (K : Int) (p0 : 0 ≤ K ∧ K ≤ 80) (p1 : RB K u r) : Met l yX7_top (jw yX7_top cX7_top 3 (some .int)) (jr 1 21) (jP [.ref (q (9 + 5 * r))] D (fun H => va_P D.1 j_cl (cW D q u) H)) (jRi (fun z => (-K ≤ z ∧ z ≤ K) ∧ (cAR u r → 0 ≤ z))) 0 0 (fun _ => False) := by
  refine Met.ofW (cc := cX7_top) (maxL := 3) (ret := (some .int)) (by decide) rfl ?_
  intro pr en st mi args below meth co s₁ B hml hv
  obtain ⟨rfl, hG, hP⟩ := hv
  have hr := B.returns
  have hlk := B.notSynchronized
  have SS : jS pr mi co cX7_top 3 st _ RX7 := ⟨B.exec, B.bytes, hml, findClass_of_methodNamed B.named, fun w hw => atoms_spec (ws := (jw yX7_top cX7_top 3 (some .int))) B.pre w (List.mem_cons_of_mem _ hw)⟩
  have hl := lv_entry ([.ref (q (9 + 5 * r))]) (n := 3) (Nat.le_of_ble_eq_true rfl)
  rw [lg_entry_eq]
  generalize (lg_sl ([.ref (q (9 + 5 * r))]) ++ List.replicate (3 - (lg_sl ([.ref (q (9 + 5 * r))])).length) Slot.unset).toArray = ls at hl ⊢
  have hl : lv_has ls 3 [(0, .ref (q (9 + 5 * r)))] := hl
  have hc := p1.1
  have hrl := rl_b r
  refine lv_aload_n SS.1 SS.2.1 dX7_top_0 rfl (lv_at hl 0 rfl) ?_
  refine j_iconst SS dX7_top_1 ?_
  refine j_uRi SS (As := [.int (J 0)]) (rest := []) (c_X8_y l D q u r (by omega) 0 (show -2147483648 ≤ (0 : Int) ∧ (0 : Int) ≤ 2147483647 from (by omega))) mu_7_y kw_503 hG hP hP (ci := 7) (q0 := (9 + 5 * r)) rfl (cw_ring (by omega)) rfl rfl hl.1 ⟨⟨Nat.le_of_ble_eq_true rfl, Nat.le_of_ble_eq_true rfl⟩, Nat.le_of_ble_eq_true rfl, Nat.le_refl _, Nat.le_refl _⟩ rfl dX7_top_2 (fun z_2 h_2 => ?_)
  have h_2 : z_2 = ry9 u r (0 : Int) ∧ ∀ K : Int, 0 ≤ K → RB K u r → -K ≤ z_2 ∧ z_2 ≤ K := h_2
  have hb_2 := h_2.2 K (by omega) (p1)
  refine lv_istore_n (lv' := [(1, .int (J z_2)), (0, .ref (q (9 + 5 * r)))]) SS.1 SS.2.1 dX7_top_5 rfl hl (by decide) rfl (fun ls hl => ?_)
  refine j_iconst SS dX7_top_6 ?_
  refine lv_istore_n (lv' := [(2, .int (J 1)), (1, .int (J z_2)), (0, .ref (q (9 + 5 * r)))]) SS.1 SS.2.1 dX7_top_7 rfl hl (by decide) rfl (fun ls hl => ?_)
  have L_8 : ∀ (nn : Nat) (t : Int) (i : Int) (ls : Array Slot) (hl : lv_has ls 3 [(0, .ref (q (9 + 5 * r))), (1, .int (J t)), (2, .int (J i))]) (i8_0 : 1 ≤ i ∧ (i ≤ u.1.2.2.1 r ∨ i = 1)) (i8_1 : -K ≤ t ∧ t ≤ K) (i8_2 : ∀ a : Int, 0 ≤ a → a < i → ry9 u r a ≤ t), (u.1.2.2.1 r - i).toNat < nn → W pr l en (headSpec (jw yX7_top cX7_top 3 (some .int)) (jr 1 21)).room st mi (([.ref (q (9 + 5 * r))] : List Value).toArray) below meth co st.heap [] 0 0 (MQ below (jRi (fun z => (-K ≤ z ∧ z ≤ K) ∧ (cAR u r → 0 ≤ z))) (([.ref (q (9 + 5 * r))] : List Value).toArray) st 0 0 (fun _ => False)) (F0 mi 8 ls []) := by
    intro nn
    induction nn with
    | zero => intros; omega
    | succ nn ih_8 =>
      intro t i ls hl i8_0 i8_1 i8_2 hm
      refine lv_iload_n SS.1 SS.2.1 dX7_top_8 rfl (lv_at hl 2 rfl) ?_
      refine lv_aload_n SS.1 SS.2.1 dX7_top_9 rfl (lv_at hl 0 rfl) ?_
      refine j_getS SS hG hP (9 + 5 * r) (v := .int (J (u.1.2.2.1 r))) (C := RX7) (T := TX7) (N := 3) (cw_ring (by omega)) rfl inX7 2 (by decide) (ref := "GridPolygons$Ring") kw_131 kw_132 rfl dX7_top_10 ?_
      refine j_icmp_ge SS (tgt := 32) (x := i) (y := (u.1.2.2.1 r)) dX7_top_13 (by decide) (by omega) (by omega) (fun c_13 => ?_) (fun c_13 => ?_)
      · skip
        refine lv_iload_n SS.1 SS.2.1 dX7_top_32 rfl (lv_at hl 1 rfl) ?_
        exact W.iret SS.1 SS.2.1 hr (fun t0 ht hW => ⟨_, rfl, ⟨t, rfl, (⟨by omega, fun q => by obtain ⟨b, b1, b2, b3⟩ := q.2.2.2.2.2; have := i8_2 b b1 (by omega); omega⟩)⟩, ht⟩) (fun _ h => nomatch h) dX7_top_33 hlk
      · skip
        refine lv_iload_n SS.1 SS.2.1 dX7_top_16 rfl (lv_at hl 1 rfl) ?_
        refine lv_aload_n SS.1 SS.2.1 dX7_top_17 rfl (lv_at hl 0 rfl) ?_
        refine lv_iload_n SS.1 SS.2.1 dX7_top_18 rfl (lv_at hl 2 rfl) ?_
        refine j_uRi SS (As := [.int (J i)]) (rest := [.int (J t)]) (c_X8_y l D q u r (by omega) i (show -2147483648 ≤ i ∧ i ≤ 2147483647 from (by omega))) mu_7_y kw_503 hG hP hP (ci := 7) (q0 := (9 + 5 * r)) rfl (cw_ring (by omega)) rfl rfl hl.1 ⟨⟨Nat.le_of_ble_eq_true rfl, Nat.le_of_ble_eq_true rfl⟩, Nat.le_of_ble_eq_true rfl, Nat.le_refl _, Nat.le_refl _⟩ rfl dX7_top_19 (fun z_19 h_19 => ?_)
        have h_19 : z_19 = ry9 u r i ∧ ∀ K : Int, 0 ≤ K → RB K u r → -K ≤ z_19 ∧ z_19 ≤ K := h_19
        have hb_19 := h_19.2 K (by omega) (p1)
        refine j_sRi SS (As := [.int (J t), .int (J z_19)]) (rest := []) (c_J9_max_7cf53 l D  t z_19 (show -2147483648 ≤ t ∧ t ≤ 2147483647 from (by omega)) (show -2147483648 ≤ z_19 ∧ z_19 ≤ 2147483647 from (by omega))) mf_J9_max_7cf53 kw_593 hG trivial rfl hl.1 ⟨⟨Nat.le_of_ble_eq_true rfl, Nat.le_of_ble_eq_true rfl⟩, Nat.le_of_ble_eq_true rfl, Nat.le_refl _, Nat.le_refl _⟩ rfl dX7_top_22 (fun z_22 h_22 => ?_)
        have h_22 : (z_22 = t ∨ z_22 = z_19) ∧ t ≤ z_22 ∧ z_19 ≤ z_22 := h_22
        refine lv_istore_n (lv' := [(1, .int (J z_22)), (0, .ref (q (9 + 5 * r))), (2, .int (J i))]) SS.1 SS.2.1 dX7_top_25 rfl hl (by decide) rfl (fun ls hl => ?_)
        refine lv_iinc (v := J (i + 1)) (lv' := [(2, .int (J (i + 1))), (1, .int (J z_22)), (0, .ref (q (9 + 5 * r)))]) SS.1 SS.2.1 dX7_top_26 hl (k := 2) rfl (J_add _ _) (by decide) rfl (fun ls hl => ?_)
        refine lv_goto (tgt := 8) SS.1 SS.2.1 dX7_top_29 (by decide) ?_
        exact ih_8 z_22 (i + 1) ls (lv_sub hl [2, 1, 0] rfl) (by omega) (by omega) (fun a h1 h2 => by by_cases e : a = i; (rw [e, ← h_19.1]; omega); have := i8_2 a h1 (by omega); omega) (by omega)
  exact L_8 ((u.1.2.2.1 r - (1 : Int)).toNat + 1) z_2 1 ls (lv_sub hl [2, 1, 0] rfl) (by omega) (by omega) (fun a h1 h2 => by rw [show a = 0 by omega, ← h_2.1]; omega) (Nat.lt_succ_self _)

set_option maxHeartbeats 4000000 in
set_option maxRecDepth 100000 in
theorem c_X7_lowestAt2 (l : Launch) (D : JD) (q : Nat → Nat) (u : CS) (r : Nat) (hr : r ≤ 8) (K : Int) (x : Int) (p0 : 0 ≤ K ∧ K ≤ 80) (p1 : RB K u r) (p2 : -200 ≤ x ∧ x ≤ 200) : Met l yX7_lowestAt (jw yX7_lowestAt cX7_lowestAt 5 (some .int)) (jr 2 44) (jP [.ref (q (9 + 5 * r)), .int (J x)] D (fun H => va_P D.1 j_cl (cW D q u) H)) (jRi (fun z => (-K ≤ z ∧ z ≤ 60000) ∧ (x = 0 → cAR u r → z ≤ 0))) 0 0 (fun _ => False) := by
  refine Met.ofW (cc := cX7_lowestAt) (maxL := 5) (ret := (some .int)) (by decide) rfl ?_
  intro pr en st mi args below meth co s₁ B hml hv
  obtain ⟨rfl, hG, hP⟩ := hv
  have hr := B.returns
  have hlk := B.notSynchronized
  have SS : jS pr mi co cX7_lowestAt 5 st _ RX7 := ⟨B.exec, B.bytes, hml, findClass_of_methodNamed B.named, fun w hw => atoms_spec (ws := (jw yX7_lowestAt cX7_lowestAt 5 (some .int))) B.pre w (List.mem_cons_of_mem _ hw)⟩
  have hl := lv_entry ([.ref (q (9 + 5 * r)), .int (J x)]) (n := 5) (Nat.le_of_ble_eq_true rfl)
  rw [lg_entry_eq]
  generalize (lg_sl ([.ref (q (9 + 5 * r)), .int (J x)]) ++ List.replicate (5 - (lg_sl ([.ref (q (9 + 5 * r)), .int (J x)])).length) Slot.unset).toArray = ls at hl ⊢
  have hl : lv_has ls 5 [(0, .ref (q (9 + 5 * r))), (1, .int (J x))] := hl
  have hc := p1.1
  have hrl := rl_b r
  refine lv_aload_n SS.1 SS.2.1 dX7_lowestAt_0 rfl (lv_at hl 0 rfl) ?_
  refine j_vRi SS (As := []) (rest := []) (c_X7_bottom2 l D q u r (by omega) K  (show 0 ≤ K ∧ K ≤ 80 from (p0)) (show RB K u r from (p1))) mf_X7_bottom kw_598 hG hP hP (ci := 7) (q0 := (9 + 5 * r)) rfl (cw_ring (by omega)) rfl rfl hl.1 ⟨⟨Nat.le_of_ble_eq_true rfl, Nat.le_of_ble_eq_true rfl⟩, Nat.le_of_ble_eq_true rfl, Nat.le_refl _, Nat.le_refl _⟩ rfl dX7_lowestAt_1 (fun z_1 h_1 => ?_)
  have h_1 : (-K ≤ z_1 ∧ z_1 ≤ K) ∧ (cAR u r → z_1 ≤ 0) := h_1
  refine lv_istore_n (lv' := [(2, .int (J z_1)), (0, .ref (q (9 + 5 * r))), (1, .int (J x))]) SS.1 SS.2.1 dX7_lowestAt_4 rfl hl (by decide) rfl (fun ls hl => ?_)
  refine j_iconst SS dX7_lowestAt_5 ?_
  refine lv_istore_n (lv' := [(3, .int (J 0)), (2, .int (J z_1)), (0, .ref (q (9 + 5 * r))), (1, .int (J x))]) SS.1 SS.2.1 dX7_lowestAt_6 rfl hl (by decide) rfl (fun ls hl => ?_)
  have L_7 : ∀ (nn : Nat) (t : Int) (i : Int) (ls : Array Slot) (hl : lv_has ls 5 [(0, .ref (q (9 + 5 * r))), (1, .int (J x)), (2, .int (J t)), (3, .int (J i))]) (i7_0 : 0 ≤ i ∧ i ≤ u.1.2.2.1 r) (i7_1 : -K ≤ t ∧ t ≤ 60000) (i7_2 : x = 0 → cAR u r → t ≤ 0), (u.1.2.2.1 r - i).toNat < nn → W pr l en (headSpec (jw yX7_lowestAt cX7_lowestAt 5 (some .int)) (jr 2 44)).room st mi (([.ref (q (9 + 5 * r)), .int (J x)] : List Value).toArray) below meth co st.heap [] 0 0 (MQ below (jRi (fun z => (-K ≤ z ∧ z ≤ 60000) ∧ (x = 0 → cAR u r → z ≤ 0))) (([.ref (q (9 + 5 * r)), .int (J x)] : List Value).toArray) st 0 0 (fun _ => False)) (F0 mi 7 ls []) := by
    intro nn
    induction nn with
    | zero => intros; omega
    | succ nn ih_7 =>
      intro t i ls hl i7_0 i7_1 i7_2 hm
      refine lv_iload_n SS.1 SS.2.1 dX7_lowestAt_7 rfl (lv_at hl 3 rfl) ?_
      refine lv_aload_n SS.1 SS.2.1 dX7_lowestAt_8 rfl (lv_at hl 0 rfl) ?_
      refine j_getS SS hG hP (9 + 5 * r) (v := .int (J (u.1.2.2.1 r))) (C := RX7) (T := TX7) (N := 3) (cw_ring (by omega)) rfl inX7 2 (by decide) (ref := "GridPolygons$Ring") kw_131 kw_132 rfl dX7_lowestAt_9 ?_
      refine j_icmp_ge SS (tgt := 62) (x := i) (y := (u.1.2.2.1 r)) dX7_lowestAt_12 (by decide) (by omega) (by omega) (fun c_12 => ?_) (fun c_12 => ?_)
      · skip
        refine lv_iload_n SS.1 SS.2.1 dX7_lowestAt_62 rfl (lv_at hl 2 rfl) ?_
        exact W.iret SS.1 SS.2.1 hr (fun t0 ht hW => ⟨_, rfl, ⟨t, rfl, (⟨i7_1, i7_2⟩)⟩, ht⟩) (fun _ h => nomatch h) dX7_lowestAt_63 hlk
      · skip
        refine lv_aload_n SS.1 SS.2.1 dX7_lowestAt_15 rfl (lv_at hl 0 rfl) ?_
        refine lv_iload_n SS.1 SS.2.1 dX7_lowestAt_16 rfl (lv_at hl 3 rfl) ?_
        refine j_vRi SS (As := [.int (J i)]) (rest := []) (c_X7_sideX l D q u r (by omega) K i (show 0 ≤ K ∧ K ≤ 80 from (p0)) (show RB K u r from (p1)) (show -1000 ≤ i ∧ i ≤ 1000 from (by omega))) mf_X7_sideX kw_529 hG hP hP (ci := 7) (q0 := (9 + 5 * r)) rfl (cw_ring (by omega)) rfl rfl hl.1 ⟨⟨Nat.le_of_ble_eq_true rfl, Nat.le_of_ble_eq_true rfl⟩, Nat.le_of_ble_eq_true rfl, Nat.le_refl _, Nat.le_refl _⟩ rfl dX7_lowestAt_17 (fun z_17 h_17 => ?_)
        have h_17 : z_17 = dX u r i ∧ -2 * K ≤ z_17 ∧ z_17 ≤ 2 * K := h_17
        refine lv_istore (lv' := [(4, .int (J z_17)), (0, .ref (q (9 + 5 * r))), (1, .int (J x)), (2, .int (J t)), (3, .int (J i))]) SS.1 SS.2.1 dX7_lowestAt_20 hl (by decide) rfl (fun ls hl => ?_)
        refine lv_iload SS.1 SS.2.1 dX7_lowestAt_22 (lv_at hl 0 rfl) ?_
        refine j_if_le SS (tgt := 56) (x := z_17) dX7_lowestAt_24 (by decide) (by omega) (fun c_24 => ?_) (fun c_24 => ?_)
        · skip
          refine lv_iinc (v := J (i + 1)) (lv' := [(3, .int (J (i + 1))), (4, .int (J z_17)), (0, .ref (q (9 + 5 * r))), (1, .int (J x)), (2, .int (J t))]) SS.1 SS.2.1 dX7_lowestAt_56 hl (k := 4) rfl (J_add _ _) (by decide) rfl (fun ls hl => ?_)
          refine lv_goto (tgt := 7) SS.1 SS.2.1 dX7_lowestAt_59 (by decide) ?_
          exact ih_7 t (i + 1) ls (lv_sub hl [2, 3, 4, 0] rfl) (by omega) (by omega) (fun e q => by have w := i7_2 e q; first | exact w | (have v := q.2.1 i i7_0.1 (by omega); rw [← h_42.1, ← h_35.1, ← h_17.1, ← h_30.1] at v; have v2 := low_0 (by omega) v; rw [← e, ← h_48] at v2; omega)) (by omega)
        · skip
          refine lv_iload_n SS.1 SS.2.1 dX7_lowestAt_27 rfl (lv_at hl 3 rfl) ?_
          refine lv_aload_n SS.1 SS.2.1 dX7_lowestAt_28 rfl (lv_at hl 1 rfl) ?_
          refine lv_iload_n SS.1 SS.2.1 dX7_lowestAt_29 rfl (lv_at hl 4 rfl) ?_
          refine j_uRi SS (As := [.int (J i)]) (rest := [.int (J t)]) (c_X8_y l D q u r (by omega) i (show -2147483648 ≤ i ∧ i ≤ 2147483647 from (by omega))) mu_7_y kw_503 hG hP hP (ci := 7) (q0 := (9 + 5 * r)) rfl (cw_ring (by omega)) rfl rfl hl.1 ⟨⟨Nat.le_of_ble_eq_true rfl, Nat.le_of_ble_eq_true rfl⟩, Nat.le_of_ble_eq_true rfl, Nat.le_refl _, Nat.le_refl _⟩ rfl dX7_lowestAt_30 (fun z_30 h_30 => ?_)
          have h_30 : z_30 = ry9 u r i ∧ ∀ K : Int, 0 ≤ K → RB K u r → -K ≤ z_30 ∧ z_30 ≤ K := h_30
          have hb_30 := h_30.2 K (by omega) (p1)
          refine lv_aload_n SS.1 SS.2.1 dX7_lowestAt_33 rfl (lv_at hl 1 rfl) ?_
          refine lv_iload_n SS.1 SS.2.1 dX7_lowestAt_34 rfl (lv_at hl 4 rfl) ?_
          refine j_uRi SS (As := [.int (J i)]) (rest := [.int (J z_30), .int (J t)]) (c_X8_x l D q u r (by omega) i (show -2147483648 ≤ i ∧ i ≤ 2147483647 from (by omega))) mu_7_x kw_501 hG hP hP (ci := 7) (q0 := (9 + 5 * r)) rfl (cw_ring (by omega)) rfl rfl hl.1 ⟨⟨Nat.le_of_ble_eq_true rfl, Nat.le_of_ble_eq_true rfl⟩, Nat.le_of_ble_eq_true rfl, Nat.le_refl _, Nat.le_refl _⟩ rfl dX7_lowestAt_35 (fun z_35 h_35 => ?_)
          have h_35 : z_35 = rx u r i ∧ ∀ K : Int, 0 ≤ K → RB K u r → -K ≤ z_35 ∧ z_35 ≤ K := h_35
          have hb_35 := h_35.2 K (by omega) (p1)
          refine lv_iload_n SS.1 SS.2.1 dX7_lowestAt_38 rfl (lv_at hl 2 rfl) ?_
          refine j_isub SS (x := z_35) (y := x) dX7_lowestAt_39 ?_
          refine lv_aload_n SS.1 SS.2.1 dX7_lowestAt_40 rfl (lv_at hl 1 rfl) ?_
          refine lv_iload_n SS.1 SS.2.1 dX7_lowestAt_41 rfl (lv_at hl 4 rfl) ?_
          refine j_vRi SS (As := [.int (J i)]) (rest := [.int (J (z_35 - x)), .int (J z_30), .int (J t)]) (c_X7_sideY l D q u r (by omega) K i (show 0 ≤ K ∧ K ≤ 80 from (p0)) (show RB K u r from (p1)) (show -1000 ≤ i ∧ i ≤ 1000 from (by omega))) mf_X7_sideY kw_521 hG hP hP (ci := 7) (q0 := (9 + 5 * r)) rfl (cw_ring (by omega)) rfl rfl hl.1 ⟨⟨Nat.le_of_ble_eq_true rfl, Nat.le_of_ble_eq_true rfl⟩, Nat.le_of_ble_eq_true rfl, Nat.le_refl _, Nat.le_refl _⟩ rfl dX7_lowestAt_42 (fun z_42 h_42 => ?_)
          have h_42 : z_42 = dY u r i ∧ -2 * K ≤ z_42 ∧ z_42 ≤ 2 * K := h_42
          refine j_imul SS (x := (z_35 - x)) (y := z_42) dX7_lowestAt_45 ?_
          have m0 := mulb (A := 280) (B := 160) (a := z_35 - x) (b := z_42) (by omega) (by omega)
          refine lv_iload SS.1 SS.2.1 dX7_lowestAt_46 (lv_at hl 0 rfl) ?_
          refine j_sRi SS (As := [.int (J ((z_35 - x) * z_42)), .int (J z_17)]) (rest := [.int (J z_30), .int (J t)]) (c_J9_floorDiv_7cf53 l D  ((z_35 - x) * z_42) z_17 (show -2147483648 < ((z_35 - x) * z_42) ∧ ((z_35 - x) * z_42) ≤ 2147483647 from (by omega)) (show 0 < z_17 ∧ z_17 ≤ 2147483647 from (by omega))) mf_J9_floorDiv_7cf53 kw_603 hG trivial rfl hl.1 ⟨⟨Nat.le_of_ble_eq_true rfl, Nat.le_of_ble_eq_true rfl⟩, Nat.le_of_ble_eq_true rfl, Nat.le_refl _, Nat.le_refl _⟩ rfl dX7_lowestAt_48 (fun z_48 h_48 => ?_)
          have h_48 : z_48 = ((z_35 - x) * z_42) / z_17 := h_48
          have m1 := mulb (A := 280) (B := 160) (a := z_35 - x) (b := z_42) (by omega) (by omega)
          have fb := fd_b (a := (z_35 - x) * z_42) (b := z_17) (K := 44800) (by omega) (by omega)
          rw [← h_48] at fb
          refine j_isub SS (x := z_30) (y := z_48) dX7_lowestAt_51 ?_
          refine j_sRi SS (As := [.int (J t), .int (J (z_30 - z_48))]) (rest := []) (c_J9_max_7cf53 l D  t (z_30 - z_48) (show -2147483648 ≤ t ∧ t ≤ 2147483647 from (by omega)) (show -2147483648 ≤ (z_30 - z_48) ∧ (z_30 - z_48) ≤ 2147483647 from (by omega))) mf_J9_max_7cf53 kw_593 hG trivial rfl hl.1 ⟨⟨Nat.le_of_ble_eq_true rfl, Nat.le_of_ble_eq_true rfl⟩, Nat.le_of_ble_eq_true rfl, Nat.le_refl _, Nat.le_refl _⟩ rfl dX7_lowestAt_52 (fun z_52 h_52 => ?_)
          have h_52 : (z_52 = t ∨ z_52 = (z_30 - z_48)) ∧ t ≤ z_52 ∧ (z_30 - z_48) ≤ z_52 := h_52
          refine lv_istore_n (lv' := [(2, .int (J z_52)), (4, .int (J z_17)), (0, .ref (q (9 + 5 * r))), (1, .int (J x)), (3, .int (J i))]) SS.1 SS.2.1 dX7_lowestAt_55 rfl hl (by decide) rfl (fun ls hl => ?_)
          refine lv_iinc (v := J (i + 1)) (lv' := [(3, .int (J (i + 1))), (2, .int (J z_52)), (4, .int (J z_17)), (0, .ref (q (9 + 5 * r))), (1, .int (J x))]) SS.1 SS.2.1 dX7_lowestAt_56 hl (k := 4) rfl (J_add _ _) (by decide) rfl (fun ls hl => ?_)
          refine lv_goto (tgt := 7) SS.1 SS.2.1 dX7_lowestAt_59 (by decide) ?_
          exact ih_7 z_52 (i + 1) ls (lv_sub hl [3, 4, 1, 0] rfl) (by omega) (by omega) (fun e q => by have w := i7_2 e q; first | exact w | (have v := q.2.1 i i7_0.1 (by omega); rw [← h_42.1, ← h_35.1, ← h_17.1, ← h_30.1] at v; have v2 := low_0 (by omega) v; rw [← e, ← h_48] at v2; omega)) (by omega)
  exact L_7 ((u.1.2.2.1 r - (0 : Int)).toNat + 1) z_1 0 ls (lv_sub hl [2, 3, 1, 0] rfl) (by omega) (by omega) (fun _ q => h_1.2 q) (Nat.lt_succ_self _)

set_option maxHeartbeats 4000000 in
set_option maxRecDepth 100000 in
theorem c_X7_highestAt2 (l : Launch) (D : JD) (q : Nat → Nat) (u : CS) (r : Nat) (hr : r ≤ 8) (K : Int) (x : Int) (p0 : 0 ≤ K ∧ K ≤ 80) (p1 : RB K u r) (p2 : -200 ≤ x ∧ x ≤ 200) : Met l yX7_highestAt (jw yX7_highestAt cX7_highestAt 5 (some .int)) (jr 2 44) (jP [.ref (q (9 + 5 * r)), .int (J x)] D (fun H => va_P D.1 j_cl (cW D q u) H)) (jRi (fun z => (-60000 ≤ z ∧ z ≤ K) ∧ (x = 0 → cAR u r → 0 ≤ z))) 0 0 (fun _ => False) := by
  refine Met.ofW (cc := cX7_highestAt) (maxL := 5) (ret := (some .int)) (by decide) rfl ?_
  intro pr en st mi args below meth co s₁ B hml hv
  obtain ⟨rfl, hG, hP⟩ := hv
  have hr := B.returns
  have hlk := B.notSynchronized
  have SS : jS pr mi co cX7_highestAt 5 st _ RX7 := ⟨B.exec, B.bytes, hml, findClass_of_methodNamed B.named, fun w hw => atoms_spec (ws := (jw yX7_highestAt cX7_highestAt 5 (some .int))) B.pre w (List.mem_cons_of_mem _ hw)⟩
  have hl := lv_entry ([.ref (q (9 + 5 * r)), .int (J x)]) (n := 5) (Nat.le_of_ble_eq_true rfl)
  rw [lg_entry_eq]
  generalize (lg_sl ([.ref (q (9 + 5 * r)), .int (J x)]) ++ List.replicate (5 - (lg_sl ([.ref (q (9 + 5 * r)), .int (J x)])).length) Slot.unset).toArray = ls at hl ⊢
  have hl : lv_has ls 5 [(0, .ref (q (9 + 5 * r))), (1, .int (J x))] := hl
  have hc := p1.1
  have hrl := rl_b r
  refine lv_aload_n SS.1 SS.2.1 dX7_highestAt_0 rfl (lv_at hl 0 rfl) ?_
  refine j_vRi SS (As := []) (rest := []) (c_X7_top2 l D q u r (by omega) K  (show 0 ≤ K ∧ K ≤ 80 from (p0)) (show RB K u r from (p1))) mf_X7_top kw_610 hG hP hP (ci := 7) (q0 := (9 + 5 * r)) rfl (cw_ring (by omega)) rfl rfl hl.1 ⟨⟨Nat.le_of_ble_eq_true rfl, Nat.le_of_ble_eq_true rfl⟩, Nat.le_of_ble_eq_true rfl, Nat.le_refl _, Nat.le_refl _⟩ rfl dX7_highestAt_1 (fun z_1 h_1 => ?_)
  have h_1 : (-K ≤ z_1 ∧ z_1 ≤ K) ∧ (cAR u r → 0 ≤ z_1) := h_1
  refine lv_istore_n (lv' := [(2, .int (J z_1)), (0, .ref (q (9 + 5 * r))), (1, .int (J x))]) SS.1 SS.2.1 dX7_highestAt_4 rfl hl (by decide) rfl (fun ls hl => ?_)
  refine j_iconst SS dX7_highestAt_5 ?_
  refine lv_istore_n (lv' := [(3, .int (J 0)), (2, .int (J z_1)), (0, .ref (q (9 + 5 * r))), (1, .int (J x))]) SS.1 SS.2.1 dX7_highestAt_6 rfl hl (by decide) rfl (fun ls hl => ?_)
  have L_7 : ∀ (nn : Nat) (t : Int) (i : Int) (ls : Array Slot) (hl : lv_has ls 5 [(0, .ref (q (9 + 5 * r))), (1, .int (J x)), (2, .int (J t)), (3, .int (J i))]) (i7_0 : 0 ≤ i ∧ i ≤ u.1.2.2.1 r) (i7_1 : -60000 ≤ t ∧ t ≤ K) (i7_2 : x = 0 → cAR u r → 0 ≤ t), (u.1.2.2.1 r - i).toNat < nn → W pr l en (headSpec (jw yX7_highestAt cX7_highestAt 5 (some .int)) (jr 2 44)).room st mi (([.ref (q (9 + 5 * r)), .int (J x)] : List Value).toArray) below meth co st.heap [] 0 0 (MQ below (jRi (fun z => (-60000 ≤ z ∧ z ≤ K) ∧ (x = 0 → cAR u r → 0 ≤ z))) (([.ref (q (9 + 5 * r)), .int (J x)] : List Value).toArray) st 0 0 (fun _ => False)) (F0 mi 7 ls []) := by
    intro nn
    induction nn with
    | zero => intros; omega
    | succ nn ih_7 =>
      intro t i ls hl i7_0 i7_1 i7_2 hm
      refine lv_iload_n SS.1 SS.2.1 dX7_highestAt_7 rfl (lv_at hl 3 rfl) ?_
      refine lv_aload_n SS.1 SS.2.1 dX7_highestAt_8 rfl (lv_at hl 0 rfl) ?_
      refine j_getS SS hG hP (9 + 5 * r) (v := .int (J (u.1.2.2.1 r))) (C := RX7) (T := TX7) (N := 3) (cw_ring (by omega)) rfl inX7 2 (by decide) (ref := "GridPolygons$Ring") kw_131 kw_132 rfl dX7_highestAt_9 ?_
      refine j_icmp_ge SS (tgt := 63) (x := i) (y := (u.1.2.2.1 r)) dX7_highestAt_12 (by decide) (by omega) (by omega) (fun c_12 => ?_) (fun c_12 => ?_)
      · skip
        refine lv_iload_n SS.1 SS.2.1 dX7_highestAt_63 rfl (lv_at hl 2 rfl) ?_
        exact W.iret SS.1 SS.2.1 hr (fun t0 ht hW => ⟨_, rfl, ⟨t, rfl, (⟨i7_1, i7_2⟩)⟩, ht⟩) (fun _ h => nomatch h) dX7_highestAt_64 hlk
      · skip
        refine lv_aload_n SS.1 SS.2.1 dX7_highestAt_15 rfl (lv_at hl 0 rfl) ?_
        refine lv_iload_n SS.1 SS.2.1 dX7_highestAt_16 rfl (lv_at hl 3 rfl) ?_
        refine j_vRi SS (As := [.int (J i)]) (rest := []) (c_X7_sideX l D q u r (by omega) K i (show 0 ≤ K ∧ K ≤ 80 from (p0)) (show RB K u r from (p1)) (show -1000 ≤ i ∧ i ≤ 1000 from (by omega))) mf_X7_sideX kw_529 hG hP hP (ci := 7) (q0 := (9 + 5 * r)) rfl (cw_ring (by omega)) rfl rfl hl.1 ⟨⟨Nat.le_of_ble_eq_true rfl, Nat.le_of_ble_eq_true rfl⟩, Nat.le_of_ble_eq_true rfl, Nat.le_refl _, Nat.le_refl _⟩ rfl dX7_highestAt_17 (fun z_17 h_17 => ?_)
        have h_17 : z_17 = dX u r i ∧ -2 * K ≤ z_17 ∧ z_17 ≤ 2 * K := h_17
        refine j_ineg SS dX7_highestAt_20 ?_
        refine lv_istore (lv' := [(4, .int (J (-z_17))), (0, .ref (q (9 + 5 * r))), (1, .int (J x)), (2, .int (J t)), (3, .int (J i))]) SS.1 SS.2.1 dX7_highestAt_21 hl (by decide) rfl (fun ls hl => ?_)
        refine lv_iload SS.1 SS.2.1 dX7_highestAt_23 (lv_at hl 0 rfl) ?_
        refine j_if_le SS (tgt := 57) (x := (-z_17)) dX7_highestAt_25 (by decide) (by omega) (fun c_25 => ?_) (fun c_25 => ?_)
        · skip
          refine lv_iinc (v := J (i + 1)) (lv' := [(3, .int (J (i + 1))), (4, .int (J (-z_17))), (0, .ref (q (9 + 5 * r))), (1, .int (J x)), (2, .int (J t))]) SS.1 SS.2.1 dX7_highestAt_57 hl (k := 4) rfl (J_add _ _) (by decide) rfl (fun ls hl => ?_)
          refine lv_goto (tgt := 7) SS.1 SS.2.1 dX7_highestAt_60 (by decide) ?_
          exact ih_7 t (i + 1) ls (lv_sub hl [2, 3, 4, 0] rfl) (by omega) (by omega) (fun e q => by have w := i7_2 e q; first | exact w | (have v := q.2.1 i i7_0.1 (by omega); rw [← h_43.1, ← h_36.1, ← h_17.1, ← h_31.1] at v; have v2 := high_0 (by omega) v; rw [← e, ← h_49] at v2; omega)) (by omega)
        · skip
          refine lv_iload_n SS.1 SS.2.1 dX7_highestAt_28 rfl (lv_at hl 3 rfl) ?_
          refine lv_aload_n SS.1 SS.2.1 dX7_highestAt_29 rfl (lv_at hl 1 rfl) ?_
          refine lv_iload_n SS.1 SS.2.1 dX7_highestAt_30 rfl (lv_at hl 4 rfl) ?_
          refine j_uRi SS (As := [.int (J i)]) (rest := [.int (J t)]) (c_X8_y l D q u r (by omega) i (show -2147483648 ≤ i ∧ i ≤ 2147483647 from (by omega))) mu_7_y kw_503 hG hP hP (ci := 7) (q0 := (9 + 5 * r)) rfl (cw_ring (by omega)) rfl rfl hl.1 ⟨⟨Nat.le_of_ble_eq_true rfl, Nat.le_of_ble_eq_true rfl⟩, Nat.le_of_ble_eq_true rfl, Nat.le_refl _, Nat.le_refl _⟩ rfl dX7_highestAt_31 (fun z_31 h_31 => ?_)
          have h_31 : z_31 = ry9 u r i ∧ ∀ K : Int, 0 ≤ K → RB K u r → -K ≤ z_31 ∧ z_31 ≤ K := h_31
          have hb_31 := h_31.2 K (by omega) (p1)
          refine lv_aload_n SS.1 SS.2.1 dX7_highestAt_34 rfl (lv_at hl 1 rfl) ?_
          refine lv_iload_n SS.1 SS.2.1 dX7_highestAt_35 rfl (lv_at hl 4 rfl) ?_
          refine j_uRi SS (As := [.int (J i)]) (rest := [.int (J z_31), .int (J t)]) (c_X8_x l D q u r (by omega) i (show -2147483648 ≤ i ∧ i ≤ 2147483647 from (by omega))) mu_7_x kw_501 hG hP hP (ci := 7) (q0 := (9 + 5 * r)) rfl (cw_ring (by omega)) rfl rfl hl.1 ⟨⟨Nat.le_of_ble_eq_true rfl, Nat.le_of_ble_eq_true rfl⟩, Nat.le_of_ble_eq_true rfl, Nat.le_refl _, Nat.le_refl _⟩ rfl dX7_highestAt_36 (fun z_36 h_36 => ?_)
          have h_36 : z_36 = rx u r i ∧ ∀ K : Int, 0 ≤ K → RB K u r → -K ≤ z_36 ∧ z_36 ≤ K := h_36
          have hb_36 := h_36.2 K (by omega) (p1)
          refine lv_iload_n SS.1 SS.2.1 dX7_highestAt_39 rfl (lv_at hl 2 rfl) ?_
          refine j_isub SS (x := z_36) (y := x) dX7_highestAt_40 ?_
          refine lv_aload_n SS.1 SS.2.1 dX7_highestAt_41 rfl (lv_at hl 1 rfl) ?_
          refine lv_iload_n SS.1 SS.2.1 dX7_highestAt_42 rfl (lv_at hl 4 rfl) ?_
          refine j_vRi SS (As := [.int (J i)]) (rest := [.int (J (z_36 - x)), .int (J z_31), .int (J t)]) (c_X7_sideY l D q u r (by omega) K i (show 0 ≤ K ∧ K ≤ 80 from (p0)) (show RB K u r from (p1)) (show -1000 ≤ i ∧ i ≤ 1000 from (by omega))) mf_X7_sideY kw_521 hG hP hP (ci := 7) (q0 := (9 + 5 * r)) rfl (cw_ring (by omega)) rfl rfl hl.1 ⟨⟨Nat.le_of_ble_eq_true rfl, Nat.le_of_ble_eq_true rfl⟩, Nat.le_of_ble_eq_true rfl, Nat.le_refl _, Nat.le_refl _⟩ rfl dX7_highestAt_43 (fun z_43 h_43 => ?_)
          have h_43 : z_43 = dY u r i ∧ -2 * K ≤ z_43 ∧ z_43 ≤ 2 * K := h_43
          refine j_imul SS (x := (z_36 - x)) (y := z_43) dX7_highestAt_46 ?_
          have m0 := mulb (A := 280) (B := 160) (a := z_36 - x) (b := z_43) (by omega) (by omega)
          refine lv_iload SS.1 SS.2.1 dX7_highestAt_47 (lv_at hl 0 rfl) ?_
          refine j_sRi SS (As := [.int (J ((z_36 - x) * z_43)), .int (J (-z_17))]) (rest := [.int (J z_31), .int (J t)]) (c_J9_floorDiv_7cf53 l D  ((z_36 - x) * z_43) (-z_17) (show -2147483648 < ((z_36 - x) * z_43) ∧ ((z_36 - x) * z_43) ≤ 2147483647 from (by omega)) (show 0 < (-z_17) ∧ (-z_17) ≤ 2147483647 from (by omega))) mf_J9_floorDiv_7cf53 kw_603 hG trivial rfl hl.1 ⟨⟨Nat.le_of_ble_eq_true rfl, Nat.le_of_ble_eq_true rfl⟩, Nat.le_of_ble_eq_true rfl, Nat.le_refl _, Nat.le_refl _⟩ rfl dX7_highestAt_49 (fun z_49 h_49 => ?_)
          have h_49 : z_49 = ((z_36 - x) * z_43) / (-z_17) := h_49
          have m1 := mulb (A := 280) (B := 160) (a := z_36 - x) (b := z_43) (by omega) (by omega)
          have fb := fd_b (a := (z_36 - x) * z_43) (b := (-z_17)) (K := 44800) (by omega) (by omega)
          rw [← h_49] at fb
          refine j_iadd SS (x := z_31) (y := z_49) dX7_highestAt_52 ?_
          refine j_sRi SS (As := [.int (J t), .int (J (z_31 + z_49))]) (rest := []) (c_J9_min_7cf53 l D  t (z_31 + z_49) (show -2147483648 ≤ t ∧ t ≤ 2147483647 from (by omega)) (show -2147483648 ≤ (z_31 + z_49) ∧ (z_31 + z_49) ≤ 2147483647 from (by omega))) mf_J9_min_7cf53 kw_602 hG trivial rfl hl.1 ⟨⟨Nat.le_of_ble_eq_true rfl, Nat.le_of_ble_eq_true rfl⟩, Nat.le_of_ble_eq_true rfl, Nat.le_refl _, Nat.le_refl _⟩ rfl dX7_highestAt_53 (fun z_53 h_53 => ?_)
          have h_53 : (z_53 = t ∨ z_53 = (z_31 + z_49)) ∧ z_53 ≤ t ∧ z_53 ≤ (z_31 + z_49) := h_53
          refine lv_istore_n (lv' := [(2, .int (J z_53)), (4, .int (J (-z_17))), (0, .ref (q (9 + 5 * r))), (1, .int (J x)), (3, .int (J i))]) SS.1 SS.2.1 dX7_highestAt_56 rfl hl (by decide) rfl (fun ls hl => ?_)
          refine lv_iinc (v := J (i + 1)) (lv' := [(3, .int (J (i + 1))), (2, .int (J z_53)), (4, .int (J (-z_17))), (0, .ref (q (9 + 5 * r))), (1, .int (J x))]) SS.1 SS.2.1 dX7_highestAt_57 hl (k := 4) rfl (J_add _ _) (by decide) rfl (fun ls hl => ?_)
          refine lv_goto (tgt := 7) SS.1 SS.2.1 dX7_highestAt_60 (by decide) ?_
          exact ih_7 z_53 (i + 1) ls (lv_sub hl [3, 4, 1, 0] rfl) (by omega) (by omega) (fun e q => by have w := i7_2 e q; first | exact w | (have v := q.2.1 i i7_0.1 (by omega); rw [← h_43.1, ← h_36.1, ← h_17.1, ← h_31.1] at v; have v2 := high_0 (by omega) v; rw [← e, ← h_49] at v2; omega)) (by omega)
  exact L_7 ((u.1.2.2.1 r - (0 : Int)).toNat + 1) z_1 0 ls (lv_sub hl [2, 3, 1, 0] rfl) (by omega) (by omega) (fun _ q => h_1.2 q) (Nat.lt_succ_self _)

set_option maxHeartbeats 4000000 in
set_option maxRecDepth 100000 in
theorem c_X7_standing2 (l : Launch) (D : JD) (q : Nat → Nat) (u : CS) (r : Nat) (hr : r ≤ 8) (K : Int) (x : Int) (y : Int) (p0 : 0 ≤ K ∧ K ≤ 80) (p1 : RB K u r) (p2 : -200 ≤ x ∧ x ≤ 200) (p3 : -200 ≤ y ∧ y ≤ 200) : Met l yX7_standing (jw yX7_standing cX7_standing 4 (some .int)) (jr 3 68) (jP [.ref (q (9 + 5 * r)), .int (J x), .int (J y)] D (fun H => va_P D.1 j_cl (cW D q u) H)) (jRi (fun z => (z = 0 ∨ z = 1 ∨ z = 2) ∧ (x = 0 → y = 0 → cAR u r → z = 2))) 0 0 (fun _ => False) := by
  refine Met.ofW (cc := cX7_standing) (maxL := 4) (ret := (some .int)) (by decide) rfl ?_
  intro pr en st mi args below meth co s₁ B hml hv
  obtain ⟨rfl, hG, hP⟩ := hv
  have hr := B.returns
  have hlk := B.notSynchronized
  have SS : jS pr mi co cX7_standing 4 st _ RX7 := ⟨B.exec, B.bytes, hml, findClass_of_methodNamed B.named, fun w hw => atoms_spec (ws := (jw yX7_standing cX7_standing 4 (some .int))) B.pre w (List.mem_cons_of_mem _ hw)⟩
  have hl := lv_entry ([.ref (q (9 + 5 * r)), .int (J x), .int (J y)]) (n := 4) (Nat.le_of_ble_eq_true rfl)
  rw [lg_entry_eq]
  generalize (lg_sl ([.ref (q (9 + 5 * r)), .int (J x), .int (J y)]) ++ List.replicate (4 - (lg_sl ([.ref (q (9 + 5 * r)), .int (J x), .int (J y)])).length) Slot.unset).toArray = ls at hl ⊢
  have hl : lv_has ls 4 [(0, .ref (q (9 + 5 * r))), (1, .int (J x)), (2, .int (J y))] := hl
  have hc := p1.1
  have hrl := rl_b r
  refine lv_aload_n SS.1 SS.2.1 dX7_standing_0 rfl (lv_at hl 0 rfl) ?_
  refine j_getS SS hG hP (9 + 5 * r) (v := .int (J (u.1.2.2.1 r))) (C := RX7) (T := TX7) (N := 3) (cw_ring (by omega)) rfl inX7 2 (by decide) (ref := "GridPolygons$Ring") kw_131 kw_132 rfl dX7_standing_1 ?_
  refine j_if_eq SS (tgt := 41) (x := (u.1.2.2.1 r)) dX7_standing_4 (by decide) (by omega) (fun c_4 => ?_) (fun c_4 => ?_)
  · skip
    refine j_iconst SS dX7_standing_41 ?_
    exact W.iret SS.1 SS.2.1 hr (fun t0 ht hW => ⟨_, rfl, ⟨0, rfl, (⟨Or.inl rfl, fun e1 e2 q => by exfalso; have a1 := q.1; have a3 := q.2.2.1; first | omega | (rw [← h_9.1] at a3; omega) | (have a4 := h_17.2 q; omega) | (have a4 := h_26.2 e1 q; omega) | (have a4 := h_35.2 e1 q; omega)⟩)⟩, ht⟩) (fun _ h => nomatch h) dX7_standing_42 hlk
  · skip
    refine lv_iload_n SS.1 SS.2.1 dX7_standing_7 rfl (lv_at hl 1 rfl) ?_
    refine lv_aload_n SS.1 SS.2.1 dX7_standing_8 rfl (lv_at hl 0 rfl) ?_
    refine j_vRi SS (As := []) (rest := [.int (J x)]) (c_X7_leftmost l D q u r (by omega) K  (show 0 ≤ K ∧ K ≤ 80 from (p0)) (show RB K u r from (p1))) mf_X7_leftmost kw_585 hG hP hP (ci := 7) (q0 := (9 + 5 * r)) rfl (cw_ring (by omega)) rfl rfl hl.1 ⟨⟨Nat.le_of_ble_eq_true rfl, Nat.le_of_ble_eq_true rfl⟩, Nat.le_of_ble_eq_true rfl, Nat.le_refl _, Nat.le_refl _⟩ rfl dX7_standing_9 (fun z_9 h_9 => ?_)
    have h_9 : z_9 = rx u r 0 ∧ -K ≤ z_9 ∧ z_9 ≤ K := h_9
    refine j_icmp_lt SS (tgt := 41) (x := x) (y := z_9) dX7_standing_12 (by decide) (by omega) (by omega) (fun c_12 => ?_) (fun c_12 => ?_)
    · skip
      refine j_iconst SS dX7_standing_41 ?_
      exact W.iret SS.1 SS.2.1 hr (fun t0 ht hW => ⟨_, rfl, ⟨0, rfl, (⟨Or.inl rfl, fun e1 e2 q => by exfalso; have a1 := q.1; have a3 := q.2.2.1; first | omega | (rw [← h_9.1] at a3; omega) | (have a4 := h_17.2 q; omega) | (have a4 := h_26.2 e1 q; omega) | (have a4 := h_35.2 e1 q; omega)⟩)⟩, ht⟩) (fun _ h => nomatch h) dX7_standing_42 hlk
    · skip
      refine lv_iload_n SS.1 SS.2.1 dX7_standing_15 rfl (lv_at hl 1 rfl) ?_
      refine lv_aload_n SS.1 SS.2.1 dX7_standing_16 rfl (lv_at hl 0 rfl) ?_
      refine j_vRi SS (As := []) (rest := [.int (J x)]) (c_X7_rightmost2 l D q u r (by omega) K  (show 0 ≤ K ∧ K ≤ 80 from (p0)) (show RB K u r from (p1))) mf_X7_rightmost kw_589 hG hP hP (ci := 7) (q0 := (9 + 5 * r)) rfl (cw_ring (by omega)) rfl rfl hl.1 ⟨⟨Nat.le_of_ble_eq_true rfl, Nat.le_of_ble_eq_true rfl⟩, Nat.le_of_ble_eq_true rfl, Nat.le_refl _, Nat.le_refl _⟩ rfl dX7_standing_17 (fun z_17 h_17 => ?_)
      have h_17 : (-K ≤ z_17 ∧ z_17 ≤ K) ∧ (cAR u r → 0 ≤ z_17) := h_17
      refine j_icmp_gt SS (tgt := 41) (x := x) (y := z_17) dX7_standing_20 (by decide) (by omega) (by omega) (fun c_20 => ?_) (fun c_20 => ?_)
      · skip
        refine j_iconst SS dX7_standing_41 ?_
        exact W.iret SS.1 SS.2.1 hr (fun t0 ht hW => ⟨_, rfl, ⟨0, rfl, (⟨Or.inl rfl, fun e1 e2 q => by exfalso; have a1 := q.1; have a3 := q.2.2.1; first | omega | (rw [← h_9.1] at a3; omega) | (have a4 := h_17.2 q; omega) | (have a4 := h_26.2 e1 q; omega) | (have a4 := h_35.2 e1 q; omega)⟩)⟩, ht⟩) (fun _ h => nomatch h) dX7_standing_42 hlk
      · skip
        refine lv_iload_n SS.1 SS.2.1 dX7_standing_23 rfl (lv_at hl 2 rfl) ?_
        refine lv_aload_n SS.1 SS.2.1 dX7_standing_24 rfl (lv_at hl 0 rfl) ?_
        refine lv_iload_n SS.1 SS.2.1 dX7_standing_25 rfl (lv_at hl 1 rfl) ?_
        refine j_vRi SS (As := [.int (J x)]) (rest := [.int (J y)]) (c_X7_lowestAt2 l D q u r (by omega) K x (show 0 ≤ K ∧ K ≤ 80 from (p0)) (show RB K u r from (p1)) (show -200 ≤ x ∧ x ≤ 200 from (p2))) mf_X7_lowestAt kw_594 hG hP hP (ci := 7) (q0 := (9 + 5 * r)) rfl (cw_ring (by omega)) rfl rfl hl.1 ⟨⟨Nat.le_of_ble_eq_true rfl, Nat.le_of_ble_eq_true rfl⟩, Nat.le_of_ble_eq_true rfl, Nat.le_refl _, Nat.le_refl _⟩ rfl dX7_standing_26 (fun z_26 h_26 => ?_)
        have h_26 : (-K ≤ z_26 ∧ z_26 ≤ 60000) ∧ (x = 0 → cAR u r → z_26 ≤ 0) := h_26
        refine j_icmp_lt SS (tgt := 41) (x := y) (y := z_26) dX7_standing_29 (by decide) (by omega) (by omega) (fun c_29 => ?_) (fun c_29 => ?_)
        · skip
          refine j_iconst SS dX7_standing_41 ?_
          exact W.iret SS.1 SS.2.1 hr (fun t0 ht hW => ⟨_, rfl, ⟨0, rfl, (⟨Or.inl rfl, fun e1 e2 q => by exfalso; have a1 := q.1; have a3 := q.2.2.1; first | omega | (rw [← h_9.1] at a3; omega) | (have a4 := h_17.2 q; omega) | (have a4 := h_26.2 e1 q; omega) | (have a4 := h_35.2 e1 q; omega)⟩)⟩, ht⟩) (fun _ h => nomatch h) dX7_standing_42 hlk
        · skip
          refine lv_iload_n SS.1 SS.2.1 dX7_standing_32 rfl (lv_at hl 2 rfl) ?_
          refine lv_aload_n SS.1 SS.2.1 dX7_standing_33 rfl (lv_at hl 0 rfl) ?_
          refine lv_iload_n SS.1 SS.2.1 dX7_standing_34 rfl (lv_at hl 1 rfl) ?_
          refine j_vRi SS (As := [.int (J x)]) (rest := [.int (J y)]) (c_X7_highestAt2 l D q u r (by omega) K x (show 0 ≤ K ∧ K ≤ 80 from (p0)) (show RB K u r from (p1)) (show -200 ≤ x ∧ x ≤ 200 from (p2))) mf_X7_highestAt kw_606 hG hP hP (ci := 7) (q0 := (9 + 5 * r)) rfl (cw_ring (by omega)) rfl rfl hl.1 ⟨⟨Nat.le_of_ble_eq_true rfl, Nat.le_of_ble_eq_true rfl⟩, Nat.le_of_ble_eq_true rfl, Nat.le_refl _, Nat.le_refl _⟩ rfl dX7_standing_35 (fun z_35 h_35 => ?_)
          have h_35 : (-60000 ≤ z_35 ∧ z_35 ≤ K) ∧ (x = 0 → cAR u r → 0 ≤ z_35) := h_35
          refine j_icmp_le SS (tgt := 43) (x := y) (y := z_35) dX7_standing_38 (by decide) (by omega) (by omega) (fun c_38 => ?_) (fun c_38 => ?_)
          · skip
            refine j_iconst SS dX7_standing_43 ?_
            refine lv_istore_n (lv' := [(3, .int (J 0)), (0, .ref (q (9 + 5 * r))), (1, .int (J x)), (2, .int (J y))]) SS.1 SS.2.1 dX7_standing_44 rfl hl (by decide) rfl (fun ls hl => ?_)
            have L_45 : ∀ (nn : Nat) (i : Int) (ls : Array Slot) (hl : lv_has ls 4 [(0, .ref (q (9 + 5 * r))), (1, .int (J x)), (2, .int (J y)), (3, .int (J i))]) (i45_0 : 0 ≤ i ∧ i ≤ u.1.2.2.1 r), (u.1.2.2.1 r - i).toNat < nn → W pr l en (headSpec (jw yX7_standing cX7_standing 4 (some .int)) (jr 3 68)).room st mi (([.ref (q (9 + 5 * r)), .int (J x), .int (J y)] : List Value).toArray) below meth co st.heap [] 0 0 (MQ below (jRi (fun z => (z = 0 ∨ z = 1 ∨ z = 2) ∧ (x = 0 → y = 0 → cAR u r → z = 2))) (([.ref (q (9 + 5 * r)), .int (J x), .int (J y)] : List Value).toArray) st 0 0 (fun _ => False)) (F0 mi 45 ls []) := by
              intro nn
              induction nn with
              | zero => intros; omega
              | succ nn ih_45 =>
                intro i ls hl i45_0 hm
                refine lv_iload_n SS.1 SS.2.1 dX7_standing_45 rfl (lv_at hl 3 rfl) ?_
                refine lv_aload_n SS.1 SS.2.1 dX7_standing_46 rfl (lv_at hl 0 rfl) ?_
                refine j_getS SS hG hP (9 + 5 * r) (v := .int (J (u.1.2.2.1 r))) (C := RX7) (T := TX7) (N := 3) (cw_ring (by omega)) rfl inX7 2 (by decide) (ref := "GridPolygons$Ring") kw_131 kw_132 rfl dX7_standing_47 ?_
                refine j_icmp_ge SS (tgt := 90) (x := i) (y := (u.1.2.2.1 r)) dX7_standing_50 (by decide) (by omega) (by omega) (fun c_50 => ?_) (fun c_50 => ?_)
                · skip
                  refine j_iconst SS dX7_standing_90 ?_
                  exact W.iret SS.1 SS.2.1 hr (fun t0 ht hW => ⟨_, rfl, ⟨2, rfl, (⟨Or.inr (Or.inr rfl), fun _ _ _ => rfl⟩)⟩, ht⟩) (fun _ h => nomatch h) dX7_standing_91 hlk
                · skip
                  refine lv_aload_n SS.1 SS.2.1 dX7_standing_53 rfl (lv_at hl 0 rfl) ?_
                  refine lv_iload_n SS.1 SS.2.1 dX7_standing_54 rfl (lv_at hl 3 rfl) ?_
                  refine j_vRi SS (As := [.int (J i)]) (rest := []) (c_X7_sideX l D q u r (by omega) K i (show 0 ≤ K ∧ K ≤ 80 from (p0)) (show RB K u r from (p1)) (show -1000 ≤ i ∧ i ≤ 1000 from (by omega))) mf_X7_sideX kw_529 hG hP hP (ci := 7) (q0 := (9 + 5 * r)) rfl (cw_ring (by omega)) rfl rfl hl.1 ⟨⟨Nat.le_of_ble_eq_true rfl, Nat.le_of_ble_eq_true rfl⟩, Nat.le_of_ble_eq_true rfl, Nat.le_refl _, Nat.le_refl _⟩ rfl dX7_standing_55 (fun z_55 h_55 => ?_)
                  have h_55 : z_55 = dX u r i ∧ -2 * K ≤ z_55 ∧ z_55 ≤ 2 * K := h_55
                  refine lv_iload_n SS.1 SS.2.1 dX7_standing_58 rfl (lv_at hl 2 rfl) ?_
                  refine lv_aload_n SS.1 SS.2.1 dX7_standing_59 rfl (lv_at hl 0 rfl) ?_
                  refine lv_iload_n SS.1 SS.2.1 dX7_standing_60 rfl (lv_at hl 3 rfl) ?_
                  refine j_uRi SS (As := [.int (J i)]) (rest := [.int (J y), .int (J z_55)]) (c_X8_y l D q u r (by omega) i (show -2147483648 ≤ i ∧ i ≤ 2147483647 from (by omega))) mu_7_y kw_503 hG hP hP (ci := 7) (q0 := (9 + 5 * r)) rfl (cw_ring (by omega)) rfl rfl hl.1 ⟨⟨Nat.le_of_ble_eq_true rfl, Nat.le_of_ble_eq_true rfl⟩, Nat.le_of_ble_eq_true rfl, Nat.le_refl _, Nat.le_refl _⟩ rfl dX7_standing_61 (fun z_61 h_61 => ?_)
                  have h_61 : z_61 = ry9 u r i ∧ ∀ K : Int, 0 ≤ K → RB K u r → -K ≤ z_61 ∧ z_61 ≤ K := h_61
                  have hb_61 := h_61.2 K (by omega) (p1)
                  refine j_isub SS (x := y) (y := z_61) dX7_standing_64 ?_
                  refine j_imul SS (x := z_55) (y := (y - z_61)) dX7_standing_65 ?_
                  refine lv_aload_n SS.1 SS.2.1 dX7_standing_66 rfl (lv_at hl 0 rfl) ?_
                  refine lv_iload_n SS.1 SS.2.1 dX7_standing_67 rfl (lv_at hl 3 rfl) ?_
                  refine j_vRi SS (As := [.int (J i)]) (rest := [.int (J (z_55 * (y - z_61)))]) (c_X7_sideY l D q u r (by omega) K i (show 0 ≤ K ∧ K ≤ 80 from (p0)) (show RB K u r from (p1)) (show -1000 ≤ i ∧ i ≤ 1000 from (by omega))) mf_X7_sideY kw_521 hG hP hP (ci := 7) (q0 := (9 + 5 * r)) rfl (cw_ring (by omega)) rfl rfl hl.1 ⟨⟨Nat.le_of_ble_eq_true rfl, Nat.le_of_ble_eq_true rfl⟩, Nat.le_of_ble_eq_true rfl, Nat.le_refl _, Nat.le_refl _⟩ rfl dX7_standing_68 (fun z_68 h_68 => ?_)
                  have h_68 : z_68 = dY u r i ∧ -2 * K ≤ z_68 ∧ z_68 ≤ 2 * K := h_68
                  refine lv_iload_n SS.1 SS.2.1 dX7_standing_71 rfl (lv_at hl 1 rfl) ?_
                  refine lv_aload_n SS.1 SS.2.1 dX7_standing_72 rfl (lv_at hl 0 rfl) ?_
                  refine lv_iload_n SS.1 SS.2.1 dX7_standing_73 rfl (lv_at hl 3 rfl) ?_
                  refine j_uRi SS (As := [.int (J i)]) (rest := [.int (J x), .int (J z_68), .int (J (z_55 * (y - z_61)))]) (c_X8_x l D q u r (by omega) i (show -2147483648 ≤ i ∧ i ≤ 2147483647 from (by omega))) mu_7_x kw_501 hG hP hP (ci := 7) (q0 := (9 + 5 * r)) rfl (cw_ring (by omega)) rfl rfl hl.1 ⟨⟨Nat.le_of_ble_eq_true rfl, Nat.le_of_ble_eq_true rfl⟩, Nat.le_of_ble_eq_true rfl, Nat.le_refl _, Nat.le_refl _⟩ rfl dX7_standing_74 (fun z_74 h_74 => ?_)
                  have h_74 : z_74 = rx u r i ∧ ∀ K : Int, 0 ≤ K → RB K u r → -K ≤ z_74 ∧ z_74 ≤ K := h_74
                  have hb_74 := h_74.2 K (by omega) (p1)
                  refine j_isub SS (x := x) (y := z_74) dX7_standing_77 ?_
                  refine j_imul SS (x := z_68) (y := (x - z_74)) dX7_standing_78 ?_
                  have m1 := mulb (A := 160) (B := 280) (a := z_55) (b := y - z_61) (by omega) (by omega)
                  have m2 := mulb (A := 160) (B := 280) (a := z_68) (b := x - z_74) (by omega) (by omega)
                  refine j_icmp_ne SS (tgt := 84) (x := (z_55 * (y - z_61))) (y := (z_68 * (x - z_74))) dX7_standing_79 (by decide) (by omega) (by omega) (fun c_79 => ?_) (fun c_79 => ?_)
                  · skip
                    refine lv_iinc (v := J (i + 1)) (lv' := [(3, .int (J (i + 1))), (0, .ref (q (9 + 5 * r))), (1, .int (J x)), (2, .int (J y))]) SS.1 SS.2.1 dX7_standing_84 hl (k := 3) rfl (J_add _ _) (by decide) rfl (fun ls hl => ?_)
                    refine lv_goto (tgt := 45) SS.1 SS.2.1 dX7_standing_87 (by decide) ?_
                    exact ih_45 (i + 1) ls (lv_sub hl [1, 2, 3, 0] rfl) (by omega) (by omega)
                  · skip
                    refine j_iconst SS dX7_standing_82 ?_
                    exact W.iret SS.1 SS.2.1 hr (fun t0 ht hW => ⟨_, rfl, ⟨1, rfl, (⟨Or.inr (Or.inl rfl), fun e1 e2 q => by exfalso; have v := q.2.1 i i45_0.1 (by omega); rw [← h_55.1, ← h_68.1, ← h_61.1, ← h_74.1] at v; subst e1; subst e2; have c := c_79; rw [show z_55 * (0 - z_61) = -(z_55 * z_61) by grind, show z_68 * (0 - z_74) = -(z_68 * z_74) by grind] at c; omega⟩)⟩, ht⟩) (fun _ h => nomatch h) dX7_standing_83 hlk
            exact L_45 ((u.1.2.2.1 r - (0 : Int)).toNat + 1) 0 ls (lv_sub hl [1, 2, 3, 0] rfl) (by omega) (Nat.lt_succ_self _)
          · skip
            refine j_iconst SS dX7_standing_41 ?_
            exact W.iret SS.1 SS.2.1 hr (fun t0 ht hW => ⟨_, rfl, ⟨0, rfl, (⟨Or.inl rfl, fun e1 e2 q => by exfalso; have a1 := q.1; have a3 := q.2.2.1; first | omega | (rw [← h_9.1] at a3; omega) | (have a4 := h_17.2 q; omega) | (have a4 := h_26.2 e1 q; omega) | (have a4 := h_35.2 e1 q; omega)⟩)⟩, ht⟩) (fun _ h => nomatch h) dX7_standing_42 hlk

set_option maxHeartbeats 4000000 in
set_option maxRecDepth 100000 in
theorem c_X7_isRound2 (l : Launch) (D : JD) (q : Nat → Nat) (u : CS) (r : Nat) (hr : r ≤ 8) (K : Int) (p0 : 0 ≤ K ∧ K ≤ 80) (p1 : RB K u r) : Met l yX7_isRound (jw yX7_isRound cX7_isRound 1 (some .boolean)) (jr 4 91) (jP [.ref (q (9 + 5 * r))] D (fun H => va_P D.1 j_cl (cW D q u) H)) (jRi (fun z => ((z = 1 ∧ 3 ≤ u.1.2.2.1 r) ∨ z = 0) ∧ (cAR u r → z = 1))) 0 0 (fun _ => False) := by
  refine Met.ofW (cc := cX7_isRound) (maxL := 1) (ret := (some .boolean)) (by decide) rfl ?_
  intro pr en st mi args below meth co s₁ B hml hv
  obtain ⟨rfl, hG, hP⟩ := hv
  have hr := B.returns
  have hlk := B.notSynchronized
  have SS : jS pr mi co cX7_isRound 1 st _ RX7 := ⟨B.exec, B.bytes, hml, findClass_of_methodNamed B.named, fun w hw => atoms_spec (ws := (jw yX7_isRound cX7_isRound 1 (some .boolean))) B.pre w (List.mem_cons_of_mem _ hw)⟩
  have hl := lv_entry ([.ref (q (9 + 5 * r))]) (n := 1) (Nat.le_of_ble_eq_true rfl)
  rw [lg_entry_eq]
  generalize (lg_sl ([.ref (q (9 + 5 * r))]) ++ List.replicate (1 - (lg_sl ([.ref (q (9 + 5 * r))])).length) Slot.unset).toArray = ls at hl ⊢
  have hl : lv_has ls 1 [(0, .ref (q (9 + 5 * r)))] := hl
  have hc := p1.1
  have hrl := rl_b r
  refine lv_aload_n SS.1 SS.2.1 dX7_isRound_0 rfl (lv_at hl 0 rfl) ?_
  refine j_vRi SS (As := []) (rest := []) (c_X7_isPolygon l D q u r (by omega) K  (show 0 ≤ K ∧ K ≤ 80 from (p0)) (show RB K u r from (p1))) mf_X7_isPolygon kw_798 hG hP hP (ci := 7) (q0 := (9 + 5 * r)) rfl (cw_ring (by omega)) rfl rfl hl.1 ⟨⟨Nat.le_of_ble_eq_true rfl, Nat.le_of_ble_eq_true rfl⟩, Nat.le_of_ble_eq_true rfl, Nat.le_refl _, Nat.le_refl _⟩ rfl dX7_isRound_1 (fun z_1 h_1 => ?_)
  have h_1 : (z_1 = 1 ∧ 3 ≤ (u.1.2.2.1 r)) ∨ (z_1 = 0 ∧ (u.1.2.2.1 r) < 3) := h_1
  refine j_if_eq SS (tgt := 21) (x := z_1) dX7_isRound_4 (by decide) (by omega) (fun c_4 => ?_) (fun c_4 => ?_)
  · skip
    refine j_iconst SS dX7_isRound_21 ?_
    exact W.zret SS.1 SS.2.1 hr (j_nz (by decide)) (fun t0 ht hW => ⟨_, rfl, ⟨0, rfl, (by first | exact ⟨Or.inl ⟨rfl, by omega⟩, fun _ => rfl⟩ | exact ⟨Or.inr rfl, fun q => by have := q.1; omega⟩ | exact ⟨Or.inr rfl, fun q => by have := h_10.2 rfl rfl q; omega⟩)⟩, ht⟩) (fun _ h => nomatch h) dX7_isRound_22 hlk
  · skip
    refine lv_aload_n SS.1 SS.2.1 dX7_isRound_7 rfl (lv_at hl 0 rfl) ?_
    refine j_iconst SS dX7_isRound_8 ?_
    refine j_iconst SS dX7_isRound_9 ?_
    refine j_vRi SS (As := [.int (J 0), .int (J 0)]) (rest := []) (c_X7_standing2 l D q u r (by omega) K 0 0 (show 0 ≤ K ∧ K ≤ 80 from (p0)) (show RB K u r from (p1)) (show -200 ≤ (0 : Int) ∧ (0 : Int) ≤ 200 from (by omega)) (show -200 ≤ (0 : Int) ∧ (0 : Int) ≤ 200 from (by omega))) mf_X7_standing kw_799 hG hP hP (ci := 7) (q0 := (9 + 5 * r)) rfl (cw_ring (by omega)) rfl rfl hl.1 ⟨⟨Nat.le_of_ble_eq_true rfl, Nat.le_of_ble_eq_true rfl⟩, Nat.le_of_ble_eq_true rfl, Nat.le_refl _, Nat.le_refl _⟩ rfl dX7_isRound_10 (fun z_10 h_10 => ?_)
    have h_10 : (z_10 = 0 ∨ z_10 = 1 ∨ z_10 = 2) ∧ ((0 : Int) = 0 → (0 : Int) = 0 → cAR u r → z_10 = 2) := h_10
    refine j_iconst SS dX7_isRound_13 ?_
    refine j_icmp_ne SS (tgt := 21) (x := z_10) (y := 2) dX7_isRound_14 (by decide) (by omega) (by decide) (fun c_14 => ?_) (fun c_14 => ?_)
    · skip
      refine j_iconst SS dX7_isRound_21 ?_
      exact W.zret SS.1 SS.2.1 hr (j_nz (by decide)) (fun t0 ht hW => ⟨_, rfl, ⟨0, rfl, (by first | exact ⟨Or.inl ⟨rfl, by omega⟩, fun _ => rfl⟩ | exact ⟨Or.inr rfl, fun q => by have := q.1; omega⟩ | exact ⟨Or.inr rfl, fun q => by have := h_10.2 rfl rfl q; omega⟩)⟩, ht⟩) (fun _ h => nomatch h) dX7_isRound_22 hlk
    · skip
      refine j_iconst SS dX7_isRound_17 ?_
      refine lv_goto (tgt := 22) SS.1 SS.2.1 dX7_isRound_18 (by decide) ?_
      exact W.zret SS.1 SS.2.1 hr (j_nz (by decide)) (fun t0 ht hW => ⟨_, rfl, ⟨1, rfl, (by first | exact ⟨Or.inl ⟨rfl, by omega⟩, fun _ => rfl⟩ | exact ⟨Or.inr rfl, fun q => by have := q.1; omega⟩ | exact ⟨Or.inr rfl, fun q => by have := h_10.2 rfl rfl q; omega⟩)⟩, ht⟩) (fun _ h => nomatch h) dX7_isRound_22 hlk

set_option maxHeartbeats 4000000 in
set_option maxRecDepth 100000 in
theorem c_X7_normalA2 (l : Launch) (D : JD) (q : Nat → Nat) (u : CS) (r : Nat) (hr : r ≤ 8) (K : Int) (i : Int) (p0 : 0 ≤ K ∧ K ≤ 80) (p1 : RB K u r) (p2 : -1000 ≤ i ∧ i ≤ 1000) : Met l yX7_normalA (jw yX7_normalA cX7_normalA 3 (some .int)) (jr 3 66) (jP [.ref (q (9 + 5 * r)), .int (J i)] D (fun H => va_P D.1 j_cl (cW D q u) H)) (jRi (fun z => z = dNX u r i ∧ -2 * K ≤ z ∧ z ≤ 2 * K)) 0 0 (fun _ => False) := by
  refine Met.ofW (cc := cX7_normalA) (maxL := 3) (ret := (some .int)) (by decide) rfl ?_
  intro pr en st mi args below meth co s₁ B hml hv
  obtain ⟨rfl, hG, hP⟩ := hv
  have hr := B.returns
  have hlk := B.notSynchronized
  have SS : jS pr mi co cX7_normalA 3 st _ RX7 := ⟨B.exec, B.bytes, hml, findClass_of_methodNamed B.named, fun w hw => atoms_spec (ws := (jw yX7_normalA cX7_normalA 3 (some .int))) B.pre w (List.mem_cons_of_mem _ hw)⟩
  have hl := lv_entry ([.ref (q (9 + 5 * r)), .int (J i)]) (n := 3) (Nat.le_of_ble_eq_true rfl)
  rw [lg_entry_eq]
  generalize (lg_sl ([.ref (q (9 + 5 * r)), .int (J i)]) ++ List.replicate (3 - (lg_sl ([.ref (q (9 + 5 * r)), .int (J i)])).length) Slot.unset).toArray = ls at hl ⊢
  have hl : lv_has ls 3 [(0, .ref (q (9 + 5 * r))), (1, .int (J i))] := hl
  have hc := p1.1
  have hrl := rl_b r
  refine lv_aload_n SS.1 SS.2.1 dX7_normalA_0 rfl (lv_at hl 0 rfl) ?_
  refine lv_iload_n SS.1 SS.2.1 dX7_normalA_1 rfl (lv_at hl 1 rfl) ?_
  refine j_vRi SS (As := [.int (J i)]) (rest := []) (c_X7_stepsOf l D q u r (by omega) K i (show 0 ≤ K ∧ K ≤ 80 from (p0)) (show RB K u r from (p1)) (show -1000 ≤ i ∧ i ≤ 1000 from (p2))) mf_X7_stepsOf kw_537 hG hP hP (ci := 7) (q0 := (9 + 5 * r)) rfl (cw_ring (by omega)) rfl rfl hl.1 ⟨⟨Nat.le_of_ble_eq_true rfl, Nat.le_of_ble_eq_true rfl⟩, Nat.le_of_ble_eq_true rfl, Nat.le_refl _, Nat.le_refl _⟩ rfl dX7_normalA_2 (fun z_2 h_2 => ?_)
  have h_2 : z_2 = dS u r i ∧ 0 ≤ z_2 ∧ z_2 ≤ 2 * K := h_2
  refine lv_istore_n (lv' := [(2, .int (J z_2)), (0, .ref (q (9 + 5 * r))), (1, .int (J i))]) SS.1 SS.2.1 dX7_normalA_5 rfl hl (by decide) rfl (fun ls hl => ?_)
  refine lv_iload_n SS.1 SS.2.1 dX7_normalA_6 rfl (lv_at hl 0 rfl) ?_
  refine j_if_ne SS (tgt := 14) (x := z_2) dX7_normalA_7 (by decide) (by omega) (fun c_7 => ?_) (fun c_7 => ?_)
  · skip
    refine lv_aload_n SS.1 SS.2.1 dX7_normalA_14 rfl (lv_at hl 1 rfl) ?_
    refine lv_iload_n SS.1 SS.2.1 dX7_normalA_15 rfl (lv_at hl 2 rfl) ?_
    refine j_vRi SS (As := [.int (J i)]) (rest := []) (c_X7_sideY l D q u r (by omega) K i (show 0 ≤ K ∧ K ≤ 80 from (p0)) (show RB K u r from (p1)) (show -1000 ≤ i ∧ i ≤ 1000 from (p2))) mf_X7_sideY kw_521 hG hP hP (ci := 7) (q0 := (9 + 5 * r)) rfl (cw_ring (by omega)) rfl rfl hl.1 ⟨⟨Nat.le_of_ble_eq_true rfl, Nat.le_of_ble_eq_true rfl⟩, Nat.le_of_ble_eq_true rfl, Nat.le_refl _, Nat.le_refl _⟩ rfl dX7_normalA_16 (fun z_16 h_16 => ?_)
    have h_16 : z_16 = dY u r i ∧ -2 * K ≤ z_16 ∧ z_16 ≤ 2 * K := h_16
    refine lv_iload_n SS.1 SS.2.1 dX7_normalA_19 rfl (lv_at hl 0 rfl) ?_
    have td := td_b (a := z_16) (b := z_2) (K := 2 * K) (by omega)
    refine j_idiv SS (x := z_16) (y := z_2) dX7_normalA_20 (by omega) (by omega) (by omega) ?_
    exact W.iret SS.1 SS.2.1 hr (fun t0 ht hW => ⟨_, rfl, ⟨(Int.tdiv z_16 z_2), rfl, (by first | exact ⟨by rw [h_2.1, h_16.1]; rfl, by omega, by omega⟩ | exact ⟨by unfold dNX; rw [show dS u r i = 0 by omega, Int.tdiv_zero], by omega, by omega⟩)⟩, ht⟩) (fun _ h => nomatch h) dX7_normalA_21 hlk
  · skip
    refine j_iconst SS dX7_normalA_10 ?_
    refine lv_goto (tgt := 21) SS.1 SS.2.1 dX7_normalA_11 (by decide) ?_
    exact W.iret SS.1 SS.2.1 hr (fun t0 ht hW => ⟨_, rfl, ⟨0, rfl, (by first | exact ⟨by rw [h_2.1, h_16.1]; rfl, by omega, by omega⟩ | exact ⟨by unfold dNX; rw [show dS u r i = 0 by omega, Int.tdiv_zero], by omega, by omega⟩)⟩, ht⟩) (fun _ h => nomatch h) dX7_normalA_21 hlk

set_option maxHeartbeats 4000000 in
set_option maxRecDepth 100000 in
theorem c_X7_normalB2 (l : Launch) (D : JD) (q : Nat → Nat) (u : CS) (r : Nat) (hr : r ≤ 8) (K : Int) (i : Int) (p0 : 0 ≤ K ∧ K ≤ 80) (p1 : RB K u r) (p2 : -1000 ≤ i ∧ i ≤ 1000) : Met l yX7_normalB (jw yX7_normalB cX7_normalB 3 (some .int)) (jr 3 66) (jP [.ref (q (9 + 5 * r)), .int (J i)] D (fun H => va_P D.1 j_cl (cW D q u) H)) (jRi (fun z => z = dNY u r i ∧ -2 * K ≤ z ∧ z ≤ 2 * K)) 0 0 (fun _ => False) := by
  refine Met.ofW (cc := cX7_normalB) (maxL := 3) (ret := (some .int)) (by decide) rfl ?_
  intro pr en st mi args below meth co s₁ B hml hv
  obtain ⟨rfl, hG, hP⟩ := hv
  have hr := B.returns
  have hlk := B.notSynchronized
  have SS : jS pr mi co cX7_normalB 3 st _ RX7 := ⟨B.exec, B.bytes, hml, findClass_of_methodNamed B.named, fun w hw => atoms_spec (ws := (jw yX7_normalB cX7_normalB 3 (some .int))) B.pre w (List.mem_cons_of_mem _ hw)⟩
  have hl := lv_entry ([.ref (q (9 + 5 * r)), .int (J i)]) (n := 3) (Nat.le_of_ble_eq_true rfl)
  rw [lg_entry_eq]
  generalize (lg_sl ([.ref (q (9 + 5 * r)), .int (J i)]) ++ List.replicate (3 - (lg_sl ([.ref (q (9 + 5 * r)), .int (J i)])).length) Slot.unset).toArray = ls at hl ⊢
  have hl : lv_has ls 3 [(0, .ref (q (9 + 5 * r))), (1, .int (J i))] := hl
  have hc := p1.1
  have hrl := rl_b r
  refine lv_aload_n SS.1 SS.2.1 dX7_normalB_0 rfl (lv_at hl 0 rfl) ?_
  refine lv_iload_n SS.1 SS.2.1 dX7_normalB_1 rfl (lv_at hl 1 rfl) ?_
  refine j_vRi SS (As := [.int (J i)]) (rest := []) (c_X7_stepsOf l D q u r (by omega) K i (show 0 ≤ K ∧ K ≤ 80 from (p0)) (show RB K u r from (p1)) (show -1000 ≤ i ∧ i ≤ 1000 from (p2))) mf_X7_stepsOf kw_537 hG hP hP (ci := 7) (q0 := (9 + 5 * r)) rfl (cw_ring (by omega)) rfl rfl hl.1 ⟨⟨Nat.le_of_ble_eq_true rfl, Nat.le_of_ble_eq_true rfl⟩, Nat.le_of_ble_eq_true rfl, Nat.le_refl _, Nat.le_refl _⟩ rfl dX7_normalB_2 (fun z_2 h_2 => ?_)
  have h_2 : z_2 = dS u r i ∧ 0 ≤ z_2 ∧ z_2 ≤ 2 * K := h_2
  refine lv_istore_n (lv' := [(2, .int (J z_2)), (0, .ref (q (9 + 5 * r))), (1, .int (J i))]) SS.1 SS.2.1 dX7_normalB_5 rfl hl (by decide) rfl (fun ls hl => ?_)
  refine lv_iload_n SS.1 SS.2.1 dX7_normalB_6 rfl (lv_at hl 0 rfl) ?_
  refine j_if_ne SS (tgt := 14) (x := z_2) dX7_normalB_7 (by decide) (by omega) (fun c_7 => ?_) (fun c_7 => ?_)
  · skip
    refine lv_aload_n SS.1 SS.2.1 dX7_normalB_14 rfl (lv_at hl 1 rfl) ?_
    refine lv_iload_n SS.1 SS.2.1 dX7_normalB_15 rfl (lv_at hl 2 rfl) ?_
    refine j_vRi SS (As := [.int (J i)]) (rest := []) (c_X7_sideX l D q u r (by omega) K i (show 0 ≤ K ∧ K ≤ 80 from (p0)) (show RB K u r from (p1)) (show -1000 ≤ i ∧ i ≤ 1000 from (p2))) mf_X7_sideX kw_529 hG hP hP (ci := 7) (q0 := (9 + 5 * r)) rfl (cw_ring (by omega)) rfl rfl hl.1 ⟨⟨Nat.le_of_ble_eq_true rfl, Nat.le_of_ble_eq_true rfl⟩, Nat.le_of_ble_eq_true rfl, Nat.le_refl _, Nat.le_refl _⟩ rfl dX7_normalB_16 (fun z_16 h_16 => ?_)
    have h_16 : z_16 = dX u r i ∧ -2 * K ≤ z_16 ∧ z_16 ≤ 2 * K := h_16
    refine j_ineg SS dX7_normalB_19 ?_
    refine lv_iload_n SS.1 SS.2.1 dX7_normalB_20 rfl (lv_at hl 0 rfl) ?_
    have td := td_b (a := -z_16) (b := z_2) (K := 2 * K) (by omega)
    refine j_idiv SS (x := (-z_16)) (y := z_2) dX7_normalB_21 (by omega) (by omega) (by omega) ?_
    exact W.iret SS.1 SS.2.1 hr (fun t0 ht hW => ⟨_, rfl, ⟨(Int.tdiv (-z_16) z_2), rfl, (by first | exact ⟨by rw [h_2.1, h_16.1]; rfl, by omega, by omega⟩ | exact ⟨by unfold dNY; rw [show dS u r i = 0 by omega, Int.tdiv_zero], by omega, by omega⟩)⟩, ht⟩) (fun _ h => nomatch h) dX7_normalB_22 hlk
  · skip
    refine j_iconst SS dX7_normalB_10 ?_
    refine lv_goto (tgt := 22) SS.1 SS.2.1 dX7_normalB_11 (by decide) ?_
    exact W.iret SS.1 SS.2.1 hr (fun t0 ht hW => ⟨_, rfl, ⟨0, rfl, (by first | exact ⟨by rw [h_2.1, h_16.1]; rfl, by omega, by omega⟩ | exact ⟨by unfold dNY; rw [show dS u r i = 0 by omega, Int.tdiv_zero], by omega, by omega⟩)⟩, ht⟩) (fun _ h => nomatch h) dX7_normalB_22 hlk

set_option maxHeartbeats 4000000 in
set_option maxRecDepth 100000 in
theorem c_X7_far2 (l : Launch) (D : JD) (q : Nat → Nat) (u : CS) (r : Nat) (hr : r ≤ 8) (K : Int) (i : Int) (p0 : 0 ≤ K ∧ K ≤ 80) (p1 : RB K u r) (p2 : -1000 ≤ i ∧ i ≤ 1000) : Met l yX7_far (jw yX7_far cX7_far 2 (some .int)) (jr 4 88) (jP [.ref (q (9 + 5 * r)), .int (J i)] D (fun H => va_P D.1 j_cl (cW D q u) H)) (jRi (fun z => z = dFar u r i ∧ -30000 ≤ z ∧ z ≤ 30000)) 0 0 (fun _ => False) := by
  refine Met.ofW (cc := cX7_far) (maxL := 2) (ret := (some .int)) (by decide) rfl ?_
  intro pr en st mi args below meth co s₁ B hml hv
  obtain ⟨rfl, hG, hP⟩ := hv
  have hr := B.returns
  have hlk := B.notSynchronized
  have SS : jS pr mi co cX7_far 2 st _ RX7 := ⟨B.exec, B.bytes, hml, findClass_of_methodNamed B.named, fun w hw => atoms_spec (ws := (jw yX7_far cX7_far 2 (some .int))) B.pre w (List.mem_cons_of_mem _ hw)⟩
  have hl := lv_entry ([.ref (q (9 + 5 * r)), .int (J i)]) (n := 2) (Nat.le_of_ble_eq_true rfl)
  rw [lg_entry_eq]
  generalize (lg_sl ([.ref (q (9 + 5 * r)), .int (J i)]) ++ List.replicate (2 - (lg_sl ([.ref (q (9 + 5 * r)), .int (J i)])).length) Slot.unset).toArray = ls at hl ⊢
  have hl : lv_has ls 2 [(0, .ref (q (9 + 5 * r))), (1, .int (J i))] := hl
  have hc := p1.1
  have hrl := rl_b r
  refine lv_aload_n SS.1 SS.2.1 dX7_far_0 rfl (lv_at hl 0 rfl) ?_
  refine lv_iload_n SS.1 SS.2.1 dX7_far_1 rfl (lv_at hl 1 rfl) ?_
  refine j_vRi SS (As := [.int (J i)]) (rest := []) (c_X7_normalA2 l D q u r (by omega) K i (show 0 ≤ K ∧ K ≤ 80 from (p0)) (show RB K u r from (p1)) (show -1000 ≤ i ∧ i ≤ 1000 from (p2))) mf_X7_normalA kw_812 hG hP hP (ci := 7) (q0 := (9 + 5 * r)) rfl (cw_ring (by omega)) rfl rfl hl.1 ⟨⟨Nat.le_of_ble_eq_true rfl, Nat.le_of_ble_eq_true rfl⟩, Nat.le_of_ble_eq_true rfl, Nat.le_refl _, Nat.le_refl _⟩ rfl dX7_far_2 (fun z_2 h_2 => ?_)
  have h_2 : z_2 = dNX u r i ∧ -2 * K ≤ z_2 ∧ z_2 ≤ 2 * K := h_2
  refine lv_aload_n SS.1 SS.2.1 dX7_far_5 rfl (lv_at hl 0 rfl) ?_
  refine lv_iload_n SS.1 SS.2.1 dX7_far_6 rfl (lv_at hl 1 rfl) ?_
  refine j_uRi SS (As := [.int (J i)]) (rest := [.int (J z_2)]) (c_X8_x l D q u r (by omega) i (show -2147483648 ≤ i ∧ i ≤ 2147483647 from (by omega))) mu_7_x kw_501 hG hP hP (ci := 7) (q0 := (9 + 5 * r)) rfl (cw_ring (by omega)) rfl rfl hl.1 ⟨⟨Nat.le_of_ble_eq_true rfl, Nat.le_of_ble_eq_true rfl⟩, Nat.le_of_ble_eq_true rfl, Nat.le_refl _, Nat.le_refl _⟩ rfl dX7_far_7 (fun z_7 h_7 => ?_)
  have h_7 : z_7 = rx u r i ∧ ∀ K : Int, 0 ≤ K → RB K u r → -K ≤ z_7 ∧ z_7 ≤ K := h_7
  have hb_7 := h_7.2 K (by omega) (p1)
  refine j_imul SS (x := z_2) (y := z_7) dX7_far_10 ?_
  refine lv_aload_n SS.1 SS.2.1 dX7_far_11 rfl (lv_at hl 0 rfl) ?_
  refine lv_iload_n SS.1 SS.2.1 dX7_far_12 rfl (lv_at hl 1 rfl) ?_
  refine j_vRi SS (As := [.int (J i)]) (rest := [.int (J (z_2 * z_7))]) (c_X7_normalB2 l D q u r (by omega) K i (show 0 ≤ K ∧ K ≤ 80 from (p0)) (show RB K u r from (p1)) (show -1000 ≤ i ∧ i ≤ 1000 from (p2))) mf_X7_normalB kw_813 hG hP hP (ci := 7) (q0 := (9 + 5 * r)) rfl (cw_ring (by omega)) rfl rfl hl.1 ⟨⟨Nat.le_of_ble_eq_true rfl, Nat.le_of_ble_eq_true rfl⟩, Nat.le_of_ble_eq_true rfl, Nat.le_refl _, Nat.le_refl _⟩ rfl dX7_far_13 (fun z_13 h_13 => ?_)
  have h_13 : z_13 = dNY u r i ∧ -2 * K ≤ z_13 ∧ z_13 ≤ 2 * K := h_13
  refine lv_aload_n SS.1 SS.2.1 dX7_far_16 rfl (lv_at hl 0 rfl) ?_
  refine lv_iload_n SS.1 SS.2.1 dX7_far_17 rfl (lv_at hl 1 rfl) ?_
  refine j_uRi SS (As := [.int (J i)]) (rest := [.int (J z_13), .int (J (z_2 * z_7))]) (c_X8_y l D q u r (by omega) i (show -2147483648 ≤ i ∧ i ≤ 2147483647 from (by omega))) mu_7_y kw_503 hG hP hP (ci := 7) (q0 := (9 + 5 * r)) rfl (cw_ring (by omega)) rfl rfl hl.1 ⟨⟨Nat.le_of_ble_eq_true rfl, Nat.le_of_ble_eq_true rfl⟩, Nat.le_of_ble_eq_true rfl, Nat.le_refl _, Nat.le_refl _⟩ rfl dX7_far_18 (fun z_18 h_18 => ?_)
  have h_18 : z_18 = ry9 u r i ∧ ∀ K : Int, 0 ≤ K → RB K u r → -K ≤ z_18 ∧ z_18 ≤ K := h_18
  have hb_18 := h_18.2 K (by omega) (p1)
  refine j_imul SS (x := z_13) (y := z_18) dX7_far_21 ?_
  have m1 := mulb (A := 160) (B := 80) (a := z_2) (b := z_7) (by omega) (by omega)
  have m2 := mulb (A := 160) (B := 80) (a := z_13) (b := z_18) (by omega) (by omega)
  refine j_iadd SS (x := (z_2 * z_7)) (y := (z_13 * z_18)) dX7_far_22 ?_
  exact W.iret SS.1 SS.2.1 hr (fun t0 ht hW => ⟨_, rfl, ⟨((z_2 * z_7) + (z_13 * z_18)), rfl, (⟨by rw [h_2.1, h_7.1, h_13.1, h_18.1]; rfl, by omega, by omega⟩)⟩, ht⟩) (fun _ h => nomatch h) dX7_far_23 hlk

set_option maxHeartbeats 4000000 in
set_option maxRecDepth 100000 in
theorem c_X7_isReflexive2 (l : Launch) (D : JD) (q : Nat → Nat) (u : CS) (r : Nat) (hr : r ≤ 8) (K : Int) (p0 : 0 ≤ K ∧ K ≤ 80) (p1 : RB K u r) : Met l yX7_isReflexive (jw yX7_isReflexive cX7_isReflexive 2 (some .boolean)) (jr 5 111) (jP [.ref (q (9 + 5 * r))] D (fun H => va_P D.1 j_cl (cW D q u) H)) (jRi (fun z => (z = 1 ∧ cRef u r) ∨ (z = 0 ∧ ¬ (cRef u r ∧ cHS u r)))) 0 0 (fun _ => False) := by
  refine Met.ofW (cc := cX7_isReflexive) (maxL := 2) (ret := (some .boolean)) (by decide) rfl ?_
  intro pr en st mi args below meth co s₁ B hml hv
  obtain ⟨rfl, hG, hP⟩ := hv
  have hr := B.returns
  have hlk := B.notSynchronized
  have SS : jS pr mi co cX7_isReflexive 2 st _ RX7 := ⟨B.exec, B.bytes, hml, findClass_of_methodNamed B.named, fun w hw => atoms_spec (ws := (jw yX7_isReflexive cX7_isReflexive 2 (some .boolean))) B.pre w (List.mem_cons_of_mem _ hw)⟩
  have hl := lv_entry ([.ref (q (9 + 5 * r))]) (n := 2) (Nat.le_of_ble_eq_true rfl)
  rw [lg_entry_eq]
  generalize (lg_sl ([.ref (q (9 + 5 * r))]) ++ List.replicate (2 - (lg_sl ([.ref (q (9 + 5 * r))])).length) Slot.unset).toArray = ls at hl ⊢
  have hl : lv_has ls 2 [(0, .ref (q (9 + 5 * r)))] := hl
  have hc := p1.1
  have hrl := rl_b r
  refine lv_aload_n SS.1 SS.2.1 dX7_isReflexive_0 rfl (lv_at hl 0 rfl) ?_
  refine j_vRi SS (As := []) (rest := []) (c_X7_isRound2 l D q u r (by omega) K  (show 0 ≤ K ∧ K ≤ 80 from (p0)) (show RB K u r from (p1))) mf_X7_isRound kw_822 hG hP hP (ci := 7) (q0 := (9 + 5 * r)) rfl (cw_ring (by omega)) rfl rfl hl.1 ⟨⟨Nat.le_of_ble_eq_true rfl, Nat.le_of_ble_eq_true rfl⟩, Nat.le_of_ble_eq_true rfl, Nat.le_refl _, Nat.le_refl _⟩ rfl dX7_isReflexive_1 (fun z_1 h_1 => ?_)
  have h_1 : ((z_1 = 1 ∧ 3 ≤ (u.1.2.2.1 r)) ∨ z_1 = 0) ∧ (cAR u r → z_1 = 1) := h_1
  refine j_if_ne SS (tgt := 9) (x := z_1) dX7_isReflexive_4 (by decide) (by omega) (fun c_4 => ?_) (fun c_4 => ?_)
  · skip
    refine j_iconst SS dX7_isReflexive_9 ?_
    refine lv_istore_n (lv' := [(1, .int (J 0)), (0, .ref (q (9 + 5 * r)))]) SS.1 SS.2.1 dX7_isReflexive_10 rfl hl (by decide) rfl (fun ls hl => ?_)
    have L_11 : ∀ (nn : Nat) (i : Int) (ls : Array Slot) (hl : lv_has ls 2 [(0, .ref (q (9 + 5 * r))), (1, .int (J i))]) (i11_0 : 0 ≤ i ∧ i ≤ u.1.2.2.1 r) (i11_1 : ∀ j : Int, 0 ≤ j → j < i → dFar u r j = 1), (u.1.2.2.1 r - i).toNat < nn → W pr l en (headSpec (jw yX7_isReflexive cX7_isReflexive 2 (some .boolean)) (jr 5 111)).room st mi (([.ref (q (9 + 5 * r))] : List Value).toArray) below meth co st.heap [] 0 0 (MQ below (jRi (fun z => (z = 1 ∧ cRef u r) ∨ (z = 0 ∧ ¬ (cRef u r ∧ cHS u r)))) (([.ref (q (9 + 5 * r))] : List Value).toArray) st 0 0 (fun _ => False)) (F0 mi 11 ls []) := by
      intro nn
      induction nn with
      | zero => intros; omega
      | succ nn ih_11 =>
        intro i ls hl i11_0 i11_1 hm
        refine lv_iload_n SS.1 SS.2.1 dX7_isReflexive_11 rfl (lv_at hl 1 rfl) ?_
        refine lv_aload_n SS.1 SS.2.1 dX7_isReflexive_12 rfl (lv_at hl 0 rfl) ?_
        refine j_getS SS hG hP (9 + 5 * r) (v := .int (J (u.1.2.2.1 r))) (C := RX7) (T := TX7) (N := 3) (cw_ring (by omega)) rfl inX7 2 (by decide) (ref := "GridPolygons$Ring") kw_131 kw_132 rfl dX7_isReflexive_13 ?_
        refine j_icmp_ge SS (tgt := 36) (x := i) (y := (u.1.2.2.1 r)) dX7_isReflexive_16 (by decide) (by omega) (by omega) (fun c_16 => ?_) (fun c_16 => ?_)
        · skip
          refine j_iconst SS dX7_isReflexive_36 ?_
          exact W.zret SS.1 SS.2.1 hr (j_nz (by decide)) (fun t0 ht hW => ⟨_, rfl, ⟨1, rfl, (Or.inl ⟨rfl, by omega, fun j h1 h2 => i11_1 j h1 (by omega)⟩)⟩, ht⟩) (fun _ h => nomatch h) dX7_isReflexive_37 hlk
        · skip
          refine lv_aload_n SS.1 SS.2.1 dX7_isReflexive_19 rfl (lv_at hl 0 rfl) ?_
          refine lv_iload_n SS.1 SS.2.1 dX7_isReflexive_20 rfl (lv_at hl 1 rfl) ?_
          refine j_vRi SS (As := [.int (J i)]) (rest := []) (c_X7_far2 l D q u r (by omega) K i (show 0 ≤ K ∧ K ≤ 80 from (p0)) (show RB K u r from (p1)) (show -1000 ≤ i ∧ i ≤ 1000 from (by omega))) mf_X7_far kw_823 hG hP hP (ci := 7) (q0 := (9 + 5 * r)) rfl (cw_ring (by omega)) rfl rfl hl.1 ⟨⟨Nat.le_of_ble_eq_true rfl, Nat.le_of_ble_eq_true rfl⟩, Nat.le_of_ble_eq_true rfl, Nat.le_refl _, Nat.le_refl _⟩ rfl dX7_isReflexive_21 (fun z_21 h_21 => ?_)
          have h_21 : z_21 = dFar u r i ∧ -30000 ≤ z_21 ∧ z_21 ≤ 30000 := h_21
          refine j_iconst SS dX7_isReflexive_24 ?_
          refine j_icmp_eq SS (tgt := 30) (x := z_21) (y := 1) dX7_isReflexive_25 (by decide) (by omega) (by decide) (fun c_25 => ?_) (fun c_25 => ?_)
          · skip
            refine lv_iinc (v := J (i + 1)) (lv' := [(1, .int (J (i + 1))), (0, .ref (q (9 + 5 * r)))]) SS.1 SS.2.1 dX7_isReflexive_30 hl (k := 1) rfl (J_add _ _) (by decide) rfl (fun ls hl => ?_)
            refine lv_goto (tgt := 11) SS.1 SS.2.1 dX7_isReflexive_33 (by decide) ?_
            exact ih_11 (i + 1) ls (lv_sub hl [1, 0] rfl) (by omega) (fun j h1 h2 => by by_cases e : j = i; (rw [e, ← h_21.1]; omega); exact i11_1 j h1 (by omega)) (by omega)
          · skip
            refine j_iconst SS dX7_isReflexive_28 ?_
            exact W.zret SS.1 SS.2.1 hr (j_nz (by decide)) (fun t0 ht hW => ⟨_, rfl, ⟨0, rfl, (Or.inr ⟨rfl, fun q => by have w := q.1.2 i i11_0.1 (by omega); rw [← h_21.1] at w; omega⟩)⟩, ht⟩) (fun _ h => nomatch h) dX7_isReflexive_29 hlk
    exact L_11 ((u.1.2.2.1 r - (0 : Int)).toNat + 1) 0 ls (lv_sub hl [1, 0] rfl) (by omega) (fun j h1 h2 => by omega) (Nat.lt_succ_self _)
  · skip
    refine j_iconst SS dX7_isReflexive_7 ?_
    exact W.zret SS.1 SS.2.1 hr (j_nz (by decide)) (fun t0 ht hW => ⟨_, rfl, ⟨0, rfl, (Or.inr ⟨rfl, fun q => by have := h_1.2 (cRef_AR p1 q.1 q.2); omega⟩)⟩, ht⟩) (fun _ h => nomatch h) dX7_isReflexive_8 hlk


def crC (u : CS) (s z : Int) : Prop := (¬ (0 ≤ s ∧ s ≤ 7) ∧ z = -1) ∨ ((0 ≤ s ∧ s ≤ 7) ∧ z = u.1.2.2.1 s.toNat)
def coC (u : CS) (s i w z : Int) : Prop := (¬ ((0 ≤ s ∧ s ≤ 7) ∧ (0 ≤ i ∧ i < u.1.2.2.1 s.toNat) ∧ 0 ≤ w ∧ w ≤ 1) ∧ z = -1000000) ∨ (((0 ≤ s ∧ s ≤ 7) ∧ (0 ≤ i ∧ i < u.1.2.2.1 s.toNat) ∧ 0 ≤ w ∧ w ≤ 1) ∧ ((w = 0 ∧ z = rx u s.toNat i) ∨ (w = 1 ∧ z = ry9 u s.toNat i)))
def coM (u : MS) (s i w z : Int) : Prop := (¬ ((0 ≤ s ∧ s ≤ 7) ∧ (0 ≤ i ∧ i < mN u s) ∧ 0 ≤ w ∧ w ≤ 1) ∧ z = -1000000) ∨ (((0 ≤ s ∧ s ≤ 7) ∧ (0 ≤ i ∧ i < mN u s) ∧ 0 ≤ w ∧ w ≤ 1) ∧ ((w = 0 ∧ z = mX u s i) ∨ (w = 1 ∧ z = mY u s i)))
/-- a word's range -/
def wRg (z : Int) : Prop := -2147483648 ≤ z ∧ z ≤ 2147483647
theorem CI_n {u : CS} (h : CI u) {s : Int} (hs : 0 ≤ s ∧ s ≤ 7) : 0 ≤ u.1.2.2.1 s.toNat ∧ u.1.2.2.1 s.toNat ≤ 24 := by
  have q := (CI_40 h (i := s.toNat) (by omega)).1
  have := rl_s (show s.toNat < 8 by omega)
  omega
theorem HS_0 {S : Int → Int → Prop} {n : Int} {X Y : Nat → Int} (h : HS S n X Y) : 0 ≤ n := by
  rcases h with ⟨h, _⟩ | ⟨h, _⟩ <;> omega
theorem mkC_g {u u' : CS} {t : Nat} {z : Int} {S : Int → Int → Prop} (h : mkC u u' t z S) : wRg z := by
  obtain ⟨n, X, Y, H, k⟩ := h
  have := HS_0 H
  unfold wRg
  rcases k with ⟨_, k, _⟩ | ⟨k, _⟩ <;> omega
/-- the answers alike, and a word -/
theorem EQ_cl {u u' : CS} {v v' : MS} {s z z' : Int} (hC : CI u) (h : EQS u v) (hc : clC u u' s z) (hm : clM v v' s z') : z = z' ∧ wRg z := by
  refine ⟨(EQS_cl h hc hm).1, ?_⟩
  rcases hc with ⟨_, a2, _⟩ | ⟨a1, a2, _⟩
  · unfold wRg; omega
  · have := CI_n hC a1; unfold wRg; omega
theorem EQ_ad {u u' : CS} {v v' : MS} {s x y z z' : Int} (h : EQS u v) (hc : adC u u' s x y z) (hm : adM v v' s x y z') : z = z' ∧ wRg z := by
  refine ⟨(EQS_ad h hc hm).1, ?_⟩
  rcases hc with ⟨_, a2, _⟩ | ⟨_, _, a⟩
  · unfold wRg; omega
  · exact mkC_g a
theorem EQ_sm {u u' : CS} {v v' : MS} {s s2 t z z' : Int} (h : EQS u v) (hc : smC u u' s s2 t z) (hm : smM v v' s s2 t z') : z = z' ∧ wRg z := by
  refine ⟨(EQS_sm h hc hm).1, ?_⟩
  rcases hc with ⟨_, a2, _⟩ | ⟨_, _, _, a⟩
  · unfold wRg; omega
  · exact mkC_g a
theorem EQ_mp {u u' : CS} {v v' : MS} {s t a b c d e f z z' : Int} (h : EQS u v) (hc : mpC u u' s t a b c d e f z) (hm : mpM v v' s t a b c d e f z') : z = z' ∧ wRg z := by
  refine ⟨(EQS_mp h hc hm).1, ?_⟩
  rcases hc with ⟨_, a2, _⟩ | ⟨_, _, _, ⟨_, a2, _⟩ | ⟨_, ⟨a2, _⟩ | a⟩⟩
  · unfold wRg; omega
  · unfold wRg; omega
  · unfold wRg; omega
  · exact mkC_g a
theorem EQ_dl {u u' : CS} {v v' : MS} {s t z z' : Int} (hC : CI u) (h : EQS u v) (hc : dlC u u' s t z) (hm : dlM v v' s t z') : z = z' ∧ wRg z := by
  refine ⟨(EQS_dl hC h hc hm).1, ?_⟩
  rcases hc with ⟨_, a2, _⟩ | ⟨_, _, ⟨_, a2, _⟩ | ⟨_, a⟩⟩
  · unfold wRg; omega
  · unfold wRg; omega
  · exact mkC_g a


set_option maxHeartbeats 4000000 in
set_option maxRecDepth 100000 in
theorem c_X11_cornersN (l : Launch) (D : JD) (q : Nat → Nat) (u : CS) (s : Int) (p0 : CI u) (p1 : -2147483648 ≤ s ∧ s ≤ 2147483647) : Met l yX11_corners (jw yX11_corners cX11_corners 3 (some .int)) (jr 1 21) (jP [.ref (q 0), .int (J s)] D (fun H => va_P D.1 j_cl (cW D q u) H)) (jRi (fun z => crC u s z)) 0 0 (fun _ => False) := by
  refine Met.ofW (cc := cX11_corners) (maxL := 3) (ret := (some .int)) (by decide) rfl ?_
  intro pr en st mi args below meth co s₁ B hml hv
  obtain ⟨rfl, hG, hP⟩ := hv
  have hr := B.returns
  have hlk := B.notSynchronized
  have SS : jS pr mi co cX11_corners 3 st _ RX11 := ⟨B.exec, B.bytes, hml, findClass_of_methodNamed B.named, fun w hw => atoms_spec (ws := (jw yX11_corners cX11_corners 3 (some .int))) B.pre w (List.mem_cons_of_mem _ hw)⟩
  have hl := lv_entry ([.ref (q 0), .int (J s)]) (n := 3) (Nat.le_of_ble_eq_true rfl)
  rw [lg_entry_eq]
  generalize (lg_sl ([.ref (q 0), .int (J s)]) ++ List.replicate (3 - (lg_sl ([.ref (q 0), .int (J s)])).length) Slot.unset).toArray = ls at hl ⊢
  have hl : lv_has ls 3 [(0, .ref (q 0)), (1, .int (J s))] := hl
  refine lv_aload_n SS.1 SS.2.1 dX11_corners_0 rfl (lv_at hl 0 rfl) ?_
  refine lv_iload_n SS.1 SS.2.1 dX11_corners_1 rfl (lv_at hl 1 rfl) ?_
  refine j_vSh SS (As := [.int (J s)]) (rest := []) (c_X11_shapeAt l D q u  s (show -2147483648 ≤ s ∧ s ≤ 2147483647 from (p1))) mf_X11_shapeAt kw_414 hG hP hP (ci := 11) (q0 := 0) rfl rfl rfl rfl hl.1 ⟨⟨Nat.le_of_ble_eq_true rfl, Nat.le_of_ble_eq_true rfl⟩, Nat.le_of_ble_eq_true rfl, Nat.le_refl _, Nat.le_refl _⟩ rfl dX11_corners_2 (fun i_2 hi_2 hz_2 => ?_) (fun hn_2 => ?_)
  · skip
    have hI2 := CI_s p0 (show i_2 < 8 by omega)
    have hI2c := hI2.1
    have hrl2 := rl_s (show i_2 < 8 by omega)
    refine lv_astore_n (lv' := [(2, .ref (q (8 + 5 * i_2))), (0, .ref (q 0)), (1, .int (J s))]) SS.1 SS.2.1 dX11_corners_5 rfl hl (by decide) rfl (fun ls hl => ?_)
    refine lv_aload_n SS.1 SS.2.1 dX11_corners_6 rfl (lv_at hl 0 rfl) ?_
    refine lv_ifnonnull SS.1 SS.2.1 (tgt := 14) dX11_corners_7 (by decide) ?_
    refine lv_aload_n SS.1 SS.2.1 dX11_corners_14 rfl (lv_at hl 0 rfl) ?_
    refine j_get SS hG hP (8 + 5 * i_2) (v := .ref (q (9 + 5 * i_2))) (C := RX10) (T := TX10) (N := 3) (cw_shape (by omega)) rfl inX10 0 (by decide) (ref := "GridPolygons$Shape") kw_151 rfl rfl dX11_corners_15 ?_
    refine j_getS SS hG hP (9 + 5 * i_2) (v := .int (J (u.1.2.2.1 i_2))) (C := RX7) (T := TX7) (N := 3) (cw_ring (by omega)) rfl inX7 2 (by decide) (ref := "GridPolygons$Ring") kw_135 kw_132 rfl dX11_corners_18 ?_
    exact W.iret SS.1 SS.2.1 hr (fun t0 ht hW => ⟨_, rfl, ⟨(u.1.2.2.1 i_2), rfl, (by first | exact Or.inl ⟨by omega, rfl⟩ | exact Or.inr ⟨by omega, by rw [show s.toNat = i_2 by omega]⟩)⟩, ht⟩) (fun _ h => nomatch h) dX11_corners_21 hlk
  · skip
    refine lv_astore_nN (lv' := [(2, .null), (0, .ref (q 0)), (1, .int (J s))]) SS.1 SS.2.1 dX11_corners_5 rfl hl (by decide) rfl (fun ls hl => ?_)
    refine lv_aload_nN SS.1 SS.2.1 dX11_corners_6 rfl (lv_at hl 0 rfl) ?_
    refine lv_ifnonnullN SS.1 SS.2.1 dX11_corners_7 ?_
    refine j_iconst SS dX11_corners_10 ?_
    refine lv_goto (tgt := 21) SS.1 SS.2.1 dX11_corners_11 (by decide) ?_
    exact W.iret SS.1 SS.2.1 hr (fun t0 ht hW => ⟨_, rfl, ⟨(-1), rfl, (by first | exact Or.inl ⟨by omega, rfl⟩ | exact Or.inr ⟨by omega, by rw [show s.toNat = i_2 by omega]⟩)⟩, ht⟩) (fun _ h => nomatch h) dX11_corners_21 hlk

set_option maxHeartbeats 4000000 in
set_option maxRecDepth 100000 in
theorem c_X11_cornerN (l : Launch) (D : JD) (q : Nat → Nat) (u : CS) (s : Int) (i : Int) (what : Int) (p0 : CI u) (p1 : -2147483648 ≤ s ∧ s ≤ 2147483647) (p2 : -2147483648 ≤ i ∧ i ≤ 2147483647) (p3 : -2147483648 ≤ what ∧ what ≤ 2147483647) : Met l yX11_corner (jw yX11_corner cX11_corner 5 (some .int)) (jr 1 21) (jP [.ref (q 0), .int (J s), .int (J i), .int (J what)] D (fun H => va_P D.1 j_cl (cW D q u) H)) (jRi (fun z => coC u s i what z)) 0 0 (fun _ => False) := by
  refine Met.ofW (cc := cX11_corner) (maxL := 5) (ret := (some .int)) (by decide) rfl ?_
  intro pr en st mi args below meth co s₁ B hml hv
  obtain ⟨rfl, hG, hP⟩ := hv
  have hr := B.returns
  have hlk := B.notSynchronized
  have SS : jS pr mi co cX11_corner 5 st _ RX11 := ⟨B.exec, B.bytes, hml, findClass_of_methodNamed B.named, fun w hw => atoms_spec (ws := (jw yX11_corner cX11_corner 5 (some .int))) B.pre w (List.mem_cons_of_mem _ hw)⟩
  have hl := lv_entry ([.ref (q 0), .int (J s), .int (J i), .int (J what)]) (n := 5) (Nat.le_of_ble_eq_true rfl)
  rw [lg_entry_eq]
  generalize (lg_sl ([.ref (q 0), .int (J s), .int (J i), .int (J what)]) ++ List.replicate (5 - (lg_sl ([.ref (q 0), .int (J s), .int (J i), .int (J what)])).length) Slot.unset).toArray = ls at hl ⊢
  have hl : lv_has ls 5 [(0, .ref (q 0)), (1, .int (J s)), (2, .int (J i)), (3, .int (J what))] := hl
  refine lv_aload_n SS.1 SS.2.1 dX11_corner_0 rfl (lv_at hl 0 rfl) ?_
  refine lv_iload_n SS.1 SS.2.1 dX11_corner_1 rfl (lv_at hl 1 rfl) ?_
  refine j_vSh SS (As := [.int (J s)]) (rest := []) (c_X11_shapeAt l D q u  s (show -2147483648 ≤ s ∧ s ≤ 2147483647 from (p1))) mf_X11_shapeAt kw_414 hG hP hP (ci := 11) (q0 := 0) rfl rfl rfl rfl hl.1 ⟨⟨Nat.le_of_ble_eq_true rfl, Nat.le_of_ble_eq_true rfl⟩, Nat.le_of_ble_eq_true rfl, Nat.le_refl _, Nat.le_refl _⟩ rfl dX11_corner_2 (fun i_2 hi_2 hz_2 => ?_) (fun hn_2 => ?_)
  · skip
    have hI2 := CI_s p0 (show i_2 < 8 by omega)
    have hI2c := hI2.1
    have hrl2 := rl_s (show i_2 < 8 by omega)
    refine lv_astore (lv' := [(4, .ref (q (8 + 5 * i_2))), (0, .ref (q 0)), (1, .int (J s)), (2, .int (J i)), (3, .int (J what))]) SS.1 SS.2.1 dX11_corner_5 hl (by decide) rfl (fun ls hl => ?_)
    refine lv_aload SS.1 SS.2.1 dX11_corner_7 (lv_at hl 0 rfl) ?_
    refine lv_ifnull SS.1 SS.2.1 dX11_corner_9 ?_
    refine lv_iload_n SS.1 SS.2.1 dX11_corner_12 rfl (lv_at hl 3 rfl) ?_
    refine j_if_lt SS (tgt := 37) (x := i) dX11_corner_13 (by decide) (by omega) (fun c_13 => ?_) (fun c_13 => ?_)
    · skip
      refine j_ldc SS (-1000000) kw_512 dX11_corner_37 ?_
      exact W.iret SS.1 SS.2.1 hr (fun t0 ht hW => ⟨_, rfl, ⟨(-1000000), rfl, (by first | exact Or.inl ⟨fun q => by have := q.1; omega, rfl⟩ | exact Or.inl ⟨fun q => by have q2 := q.2; rw [show s.toNat = i_2 by omega] at q2; omega, rfl⟩ | exact Or.inr ⟨by rw [show s.toNat = i_2 by omega]; omega, by rw [show s.toNat = i_2 by omega]; first | exact Or.inl ⟨by omega, h_50.1⟩ | exact Or.inr ⟨by omega, h_62.1⟩⟩)⟩, ht⟩) (fun _ h => nomatch h) dX11_corner_39 hlk
    · skip
      refine lv_iload_n SS.1 SS.2.1 dX11_corner_16 rfl (lv_at hl 3 rfl) ?_
      refine lv_aload SS.1 SS.2.1 dX11_corner_17 (lv_at hl 0 rfl) ?_
      refine j_get SS hG hP (8 + 5 * i_2) (v := .ref (q (9 + 5 * i_2))) (C := RX10) (T := TX10) (N := 3) (cw_shape (by omega)) rfl inX10 0 (by decide) (ref := "GridPolygons$Shape") kw_151 rfl rfl dX11_corner_19 ?_
      refine j_getS SS hG hP (9 + 5 * i_2) (v := .int (J (u.1.2.2.1 i_2))) (C := RX7) (T := TX7) (N := 3) (cw_ring (by omega)) rfl inX7 2 (by decide) (ref := "GridPolygons$Ring") kw_135 kw_132 rfl dX11_corner_22 ?_
      refine j_icmp_ge SS (tgt := 37) (x := i) (y := (u.1.2.2.1 i_2)) dX11_corner_25 (by decide) (by omega) (by omega) (fun c_25 => ?_) (fun c_25 => ?_)
      · skip
        refine j_ldc SS (-1000000) kw_512 dX11_corner_37 ?_
        exact W.iret SS.1 SS.2.1 hr (fun t0 ht hW => ⟨_, rfl, ⟨(-1000000), rfl, (by first | exact Or.inl ⟨fun q => by have := q.1; omega, rfl⟩ | exact Or.inl ⟨fun q => by have q2 := q.2; rw [show s.toNat = i_2 by omega] at q2; omega, rfl⟩ | exact Or.inr ⟨by rw [show s.toNat = i_2 by omega]; omega, by rw [show s.toNat = i_2 by omega]; first | exact Or.inl ⟨by omega, h_50.1⟩ | exact Or.inr ⟨by omega, h_62.1⟩⟩)⟩, ht⟩) (fun _ h => nomatch h) dX11_corner_39 hlk
      · skip
        refine lv_iload_n SS.1 SS.2.1 dX11_corner_28 rfl (lv_at hl 4 rfl) ?_
        refine j_if_lt SS (tgt := 37) (x := what) dX11_corner_29 (by decide) (by omega) (fun c_29 => ?_) (fun c_29 => ?_)
        · skip
          refine j_ldc SS (-1000000) kw_512 dX11_corner_37 ?_
          exact W.iret SS.1 SS.2.1 hr (fun t0 ht hW => ⟨_, rfl, ⟨(-1000000), rfl, (by first | exact Or.inl ⟨fun q => by have := q.1; omega, rfl⟩ | exact Or.inl ⟨fun q => by have q2 := q.2; rw [show s.toNat = i_2 by omega] at q2; omega, rfl⟩ | exact Or.inr ⟨by rw [show s.toNat = i_2 by omega]; omega, by rw [show s.toNat = i_2 by omega]; first | exact Or.inl ⟨by omega, h_50.1⟩ | exact Or.inr ⟨by omega, h_62.1⟩⟩)⟩, ht⟩) (fun _ h => nomatch h) dX11_corner_39 hlk
        · skip
          refine lv_iload_n SS.1 SS.2.1 dX11_corner_32 rfl (lv_at hl 4 rfl) ?_
          refine j_iconst SS dX11_corner_33 ?_
          refine j_icmp_le SS (tgt := 40) (x := what) (y := 1) dX11_corner_34 (by decide) (by omega) (by decide) (fun c_34 => ?_) (fun c_34 => ?_)
          · skip
            refine lv_iload_n SS.1 SS.2.1 dX11_corner_40 rfl (lv_at hl 4 rfl) ?_
            refine j_if_ne SS (tgt := 56) (x := what) dX11_corner_41 (by decide) (by omega) (fun c_41 => ?_) (fun c_41 => ?_)
            · skip
              refine lv_aload SS.1 SS.2.1 dX11_corner_56 (lv_at hl 0 rfl) ?_
              refine j_get SS hG hP (8 + 5 * i_2) (v := .ref (q (9 + 5 * i_2))) (C := RX10) (T := TX10) (N := 3) (cw_shape (by omega)) rfl inX10 0 (by decide) (ref := "GridPolygons$Shape") kw_151 rfl rfl dX11_corner_58 ?_
              refine lv_iload_n SS.1 SS.2.1 dX11_corner_61 rfl (lv_at hl 3 rfl) ?_
              refine j_uRi SS (As := [.int (J i)]) (rest := []) (c_X8_y l D q u i_2 (by omega) i (show -2147483648 ≤ i ∧ i ≤ 2147483647 from (p2))) mu_7_y kw_464 hG hP hP (ci := 7) (q0 := (9 + 5 * i_2)) rfl (cw_ring (by omega)) rfl rfl hl.1 ⟨⟨Nat.le_of_ble_eq_true rfl, Nat.le_of_ble_eq_true rfl⟩, Nat.le_of_ble_eq_true rfl, Nat.le_refl _, Nat.le_refl _⟩ rfl dX11_corner_62 (fun z_62 h_62 => ?_)
              have h_62 : z_62 = ry9 u i_2 i ∧ ∀ K : Int, 0 ≤ K → RB K u i_2 → -K ≤ z_62 ∧ z_62 ≤ K := h_62
              have hb_62 := h_62.2 80 (by omega) (show RB 80 u i_2 from CI_s p0 (by omega))
              exact W.iret SS.1 SS.2.1 hr (fun t0 ht hW => ⟨_, rfl, ⟨z_62, rfl, (by first | exact Or.inl ⟨fun q => by have := q.1; omega, rfl⟩ | exact Or.inl ⟨fun q => by have q2 := q.2; rw [show s.toNat = i_2 by omega] at q2; omega, rfl⟩ | exact Or.inr ⟨by rw [show s.toNat = i_2 by omega]; omega, by rw [show s.toNat = i_2 by omega]; first | exact Or.inl ⟨by omega, h_50.1⟩ | exact Or.inr ⟨by omega, h_62.1⟩⟩)⟩, ht⟩) (fun _ h => nomatch h) dX11_corner_65 hlk
            · skip
              refine lv_aload SS.1 SS.2.1 dX11_corner_44 (lv_at hl 0 rfl) ?_
              refine j_get SS hG hP (8 + 5 * i_2) (v := .ref (q (9 + 5 * i_2))) (C := RX10) (T := TX10) (N := 3) (cw_shape (by omega)) rfl inX10 0 (by decide) (ref := "GridPolygons$Shape") kw_151 rfl rfl dX11_corner_46 ?_
              refine lv_iload_n SS.1 SS.2.1 dX11_corner_49 rfl (lv_at hl 3 rfl) ?_
              refine j_uRi SS (As := [.int (J i)]) (rest := []) (c_X8_x l D q u i_2 (by omega) i (show -2147483648 ≤ i ∧ i ≤ 2147483647 from (p2))) mu_7_x kw_463 hG hP hP (ci := 7) (q0 := (9 + 5 * i_2)) rfl (cw_ring (by omega)) rfl rfl hl.1 ⟨⟨Nat.le_of_ble_eq_true rfl, Nat.le_of_ble_eq_true rfl⟩, Nat.le_of_ble_eq_true rfl, Nat.le_refl _, Nat.le_refl _⟩ rfl dX11_corner_50 (fun z_50 h_50 => ?_)
              have h_50 : z_50 = rx u i_2 i ∧ ∀ K : Int, 0 ≤ K → RB K u i_2 → -K ≤ z_50 ∧ z_50 ≤ K := h_50
              have hb_50 := h_50.2 80 (by omega) (show RB 80 u i_2 from CI_s p0 (by omega))
              refine lv_goto (tgt := 65) SS.1 SS.2.1 dX11_corner_53 (by decide) ?_
              exact W.iret SS.1 SS.2.1 hr (fun t0 ht hW => ⟨_, rfl, ⟨z_50, rfl, (by first | exact Or.inl ⟨fun q => by have := q.1; omega, rfl⟩ | exact Or.inl ⟨fun q => by have q2 := q.2; rw [show s.toNat = i_2 by omega] at q2; omega, rfl⟩ | exact Or.inr ⟨by rw [show s.toNat = i_2 by omega]; omega, by rw [show s.toNat = i_2 by omega]; first | exact Or.inl ⟨by omega, h_50.1⟩ | exact Or.inr ⟨by omega, h_62.1⟩⟩)⟩, ht⟩) (fun _ h => nomatch h) dX11_corner_65 hlk
          · skip
            refine j_ldc SS (-1000000) kw_512 dX11_corner_37 ?_
            exact W.iret SS.1 SS.2.1 hr (fun t0 ht hW => ⟨_, rfl, ⟨(-1000000), rfl, (by first | exact Or.inl ⟨fun q => by have := q.1; omega, rfl⟩ | exact Or.inl ⟨fun q => by have q2 := q.2; rw [show s.toNat = i_2 by omega] at q2; omega, rfl⟩ | exact Or.inr ⟨by rw [show s.toNat = i_2 by omega]; omega, by rw [show s.toNat = i_2 by omega]; first | exact Or.inl ⟨by omega, h_50.1⟩ | exact Or.inr ⟨by omega, h_62.1⟩⟩)⟩, ht⟩) (fun _ h => nomatch h) dX11_corner_39 hlk
  · skip
    refine lv_astoreN (lv' := [(4, .null), (0, .ref (q 0)), (1, .int (J s)), (2, .int (J i)), (3, .int (J what))]) SS.1 SS.2.1 dX11_corner_5 hl (by decide) rfl (fun ls hl => ?_)
    refine lv_aloadN SS.1 SS.2.1 dX11_corner_7 (lv_at hl 0 rfl) ?_
    refine lv_ifnullN SS.1 SS.2.1 (tgt := 37) dX11_corner_9 (by decide) ?_
    refine j_ldc SS (-1000000) kw_512 dX11_corner_37 ?_
    exact W.iret SS.1 SS.2.1 hr (fun t0 ht hW => ⟨_, rfl, ⟨(-1000000), rfl, (by first | exact Or.inl ⟨fun q => by have := q.1; omega, rfl⟩ | exact Or.inl ⟨fun q => by have q2 := q.2; rw [show s.toNat = i_2 by omega] at q2; omega, rfl⟩ | exact Or.inr ⟨by rw [show s.toNat = i_2 by omega]; omega, by rw [show s.toNat = i_2 by omega]; first | exact Or.inl ⟨by omega, h_50.1⟩ | exact Or.inr ⟨by omega, h_62.1⟩⟩)⟩, ht⟩) (fun _ h => nomatch h) dX11_corner_39 hlk

set_option maxHeartbeats 4000000 in
set_option maxRecDepth 100000 in
theorem c_X12_corner2 (l : Launch) (D : JD) (o : Nat) (q : Nat → Nat) (u : MS) (s : Int) (i : Int) (what : Int) (p0 : IM u) (p1 : -2147483648 ≤ s ∧ s ≤ 2147483647) (p2 : -2147483648 ≤ i ∧ i ≤ 2147483647) (p3 : -2147483648 ≤ what ∧ what ≤ 2147483647) : Met l yX12_corner (jw yX12_corner cX12_corner 4 (some .int)) (jr 2 42) (jP [.ref o, .int (J s), .int (J i), .int (J what)] D (fun H => va_P D.1 j_cl (mW D o q u) H)) (jRi (fun z => coM u s i what z)) 0 0 (fun _ => False) := by
  refine Met.ofW (cc := cX12_corner) (maxL := 4) (ret := (some .int)) (by decide) rfl ?_
  intro pr en st mi args below meth co s₁ B hml hv
  obtain ⟨rfl, hG, hP⟩ := hv
  have hr := B.returns
  have hlk := B.notSynchronized
  have SS : jS pr mi co cX12_corner 4 st _ RX12 := ⟨B.exec, B.bytes, hml, findClass_of_methodNamed B.named, fun w hw => atoms_spec (ws := (jw yX12_corner cX12_corner 4 (some .int))) B.pre w (List.mem_cons_of_mem _ hw)⟩
  have hl := lv_entry ([.ref o, .int (J s), .int (J i), .int (J what)]) (n := 4) (Nat.le_of_ble_eq_true rfl)
  rw [lg_entry_eq]
  generalize (lg_sl ([.ref o, .int (J s), .int (J i), .int (J what)]) ++ List.replicate (4 - (lg_sl ([.ref o, .int (J s), .int (J i), .int (J what)])).length) Slot.unset).toArray = ls at hl ⊢
  have hl : lv_has ls 4 [(0, .ref o), (1, .int (J s)), (2, .int (J i)), (3, .int (J what))] := hl
  refine lv_iload_n SS.1 SS.2.1 dX12_corner_0 rfl (lv_at hl 1 rfl) ?_
  refine j_sRi SS (As := [.int (J s)]) (rest := []) (c_X12_isShape l D s (show -2147483648 ≤ s ∧ s ≤ 2147483647 from (by omega))) mf_X12_isShape kw_1156 hG trivial rfl hl.1 ⟨⟨Nat.le_of_ble_eq_true rfl, Nat.le_of_ble_eq_true rfl⟩, Nat.le_of_ble_eq_true rfl, Nat.le_refl _, Nat.le_refl _⟩ rfl dX12_corner_1 (fun z_1 h_1 => ?_)
  have h_1 : (z_1 = 1 ∧ (0 ≤ s ∧ s ≤ 7)) ∨ (z_1 = 0 ∧ ¬ (0 ≤ s ∧ s ≤ 7)) := h_1
  refine j_if_eq SS (tgt := 32) (x := z_1) dX12_corner_4 (by decide) (by omega) (fun c_4 => ?_) (fun c_4 => ?_)
  · skip
    refine j_ldc SS (-1000000) kw_1213 dX12_corner_32 ?_
    refine lv_goto (tgt := 56) SS.1 SS.2.1 dX12_corner_34 (by decide) ?_
    exact W.iret SS.1 SS.2.1 hr (fun t ht hW => ⟨_, rfl, ⟨(-1000000), rfl, (by first | exact Or.inl ⟨fun q => by omega, rfl⟩ | exact Or.inr ⟨by omega, Or.inl ⟨by omega, h_44⟩⟩ | exact Or.inr ⟨by omega, Or.inr ⟨by omega, h_53⟩⟩)⟩, ht⟩) (fun _ h => nomatch h) dX12_corner_56 hlk
  · skip
    refine lv_iload_n SS.1 SS.2.1 dX12_corner_7 rfl (lv_at hl 2 rfl) ?_
    refine j_iconst SS dX12_corner_8 ?_
    refine lv_aload_n SS.1 SS.2.1 dX12_corner_9 rfl (lv_at hl 0 rfl) ?_
    refine j_get SS hG hP 0 (v := .ref (q 0)) (C := RX12) (T := TX12) (N := 31) rfl rfl inX12 0 (by decide) (ref := RX12) kw_1058 rfl rfl dX12_corner_10 ?_
    refine lv_iload_n SS.1 SS.2.1 dX12_corner_13 rfl (lv_at hl 1 rfl) ?_
    refine j_iald SS hG hP 1 (n := 8) (f := (u.1 0)) rfl (z := s) (by omega) (by omega) dX12_corner_14 ?_
    have hN_14 := (show Sh u s from p0.1 _ (by omega) (by omega)).1
    refine j_iconst SS dX12_corner_15 ?_
    refine j_isub SS (x := (mN u s)) (y := 1) dX12_corner_16 ?_
    refine j_sRi SS (As := [.int (J i), .int (J 0), .int (J ((mN u s) - 1))]) (rest := []) (c_X12_in l D i 0 ((mN u s) - 1) (show -2147483648 ≤ i ∧ i ≤ 2147483647 from (by omega)) (show -2147483648 ≤ (0 : Int) ∧ (0 : Int) ≤ 2147483647 from (by omega)) (show -2147483648 ≤ ((mN u s) - 1) ∧ ((mN u s) - 1) ≤ 2147483647 from (by omega))) mf_X12_in kw_1159 hG trivial rfl hl.1 ⟨⟨Nat.le_of_ble_eq_true rfl, Nat.le_of_ble_eq_true rfl⟩, Nat.le_of_ble_eq_true rfl, Nat.le_refl _, Nat.le_refl _⟩ rfl dX12_corner_17 (fun z_17 h_17 => ?_)
    have h_17 : (z_17 = 1 ∧ ((0 : Int) ≤ i ∧ i ≤ ((mN u s) - 1))) ∨ (z_17 = 0 ∧ ¬ ((0 : Int) ≤ i ∧ i ≤ ((mN u s) - 1))) := h_17
    refine j_if_eq SS (tgt := 32) (x := z_17) dX12_corner_20 (by decide) (by omega) (fun c_20 => ?_) (fun c_20 => ?_)
    · skip
      refine j_ldc SS (-1000000) kw_1213 dX12_corner_32 ?_
      refine lv_goto (tgt := 56) SS.1 SS.2.1 dX12_corner_34 (by decide) ?_
      exact W.iret SS.1 SS.2.1 hr (fun t ht hW => ⟨_, rfl, ⟨(-1000000), rfl, (by first | exact Or.inl ⟨fun q => by omega, rfl⟩ | exact Or.inr ⟨by omega, Or.inl ⟨by omega, h_44⟩⟩ | exact Or.inr ⟨by omega, Or.inr ⟨by omega, h_53⟩⟩)⟩, ht⟩) (fun _ h => nomatch h) dX12_corner_56 hlk
    · skip
      refine lv_iload_n SS.1 SS.2.1 dX12_corner_23 rfl (lv_at hl 3 rfl) ?_
      refine j_iconst SS dX12_corner_24 ?_
      refine j_iconst SS dX12_corner_25 ?_
      refine j_sRi SS (As := [.int (J what), .int (J 0), .int (J 1)]) (rest := []) (c_X12_in l D what 0 1 (show -2147483648 ≤ what ∧ what ≤ 2147483647 from (by omega)) (show -2147483648 ≤ (0 : Int) ∧ (0 : Int) ≤ 2147483647 from (by omega)) (show -2147483648 ≤ (1 : Int) ∧ (1 : Int) ≤ 2147483647 from (by omega))) mf_X12_in kw_1159 hG trivial rfl hl.1 ⟨⟨Nat.le_of_ble_eq_true rfl, Nat.le_of_ble_eq_true rfl⟩, Nat.le_of_ble_eq_true rfl, Nat.le_refl _, Nat.le_refl _⟩ rfl dX12_corner_26 (fun z_26 h_26 => ?_)
      have h_26 : (z_26 = 1 ∧ ((0 : Int) ≤ what ∧ what ≤ (1 : Int))) ∨ (z_26 = 0 ∧ ¬ ((0 : Int) ≤ what ∧ what ≤ (1 : Int))) := h_26
      refine j_if_ne SS (tgt := 37) (x := z_26) dX12_corner_29 (by decide) (by omega) (fun c_29 => ?_) (fun c_29 => ?_)
      · skip
        refine lv_iload_n SS.1 SS.2.1 dX12_corner_37 rfl (lv_at hl 3 rfl) ?_
        refine j_if_ne SS (tgt := 50) (x := what) dX12_corner_38 (by decide) (by omega) (fun c_38 => ?_) (fun c_38 => ?_)
        · skip
          refine lv_aload_n SS.1 SS.2.1 dX12_corner_50 rfl (lv_at hl 0 rfl) ?_
          refine lv_iload_n SS.1 SS.2.1 dX12_corner_51 rfl (lv_at hl 1 rfl) ?_
          refine lv_iload_n SS.1 SS.2.1 dX12_corner_52 rfl (lv_at hl 2 rfl) ?_
          refine j_vRi SS (As := [.int (J s), .int (J i)]) (rest := []) (c_X12_y l D o q u s i (show 0 ≤ s ∧ s ≤ 7 from (by omega)) (show 0 ≤ i ∧ i ≤ 1000000 from (by omega)) (show 0 < mN u s ∧ mN u s ≤ 24 from (by first | omega | (have hq := (show Sh u s from p0.1 _ (by omega) (by omega)).1; omega)))) mf_X12_y kw_1181 hG hP hP (ci := 8) (q0 := 0) rfl rfl rfl rfl hl.1 ⟨⟨Nat.le_of_ble_eq_true rfl, Nat.le_of_ble_eq_true rfl⟩, Nat.le_of_ble_eq_true rfl, Nat.le_refl _, Nat.le_refl _⟩ rfl dX12_corner_53 (fun z_53 h_53 => ?_)
          have h_53 : z_53 = mY u s i := h_53
          have hb_53 := (show Sh u s from p0.1 _ (by omega) (by omega)).2.1 (by omega) i (by omega)
          exact W.iret SS.1 SS.2.1 hr (fun t ht hW => ⟨_, rfl, ⟨z_53, rfl, (by first | exact Or.inl ⟨fun q => by omega, rfl⟩ | exact Or.inr ⟨by omega, Or.inl ⟨by omega, h_44⟩⟩ | exact Or.inr ⟨by omega, Or.inr ⟨by omega, h_53⟩⟩)⟩, ht⟩) (fun _ h => nomatch h) dX12_corner_56 hlk
        · skip
          refine lv_aload_n SS.1 SS.2.1 dX12_corner_41 rfl (lv_at hl 0 rfl) ?_
          refine lv_iload_n SS.1 SS.2.1 dX12_corner_42 rfl (lv_at hl 1 rfl) ?_
          refine lv_iload_n SS.1 SS.2.1 dX12_corner_43 rfl (lv_at hl 2 rfl) ?_
          refine j_vRi SS (As := [.int (J s), .int (J i)]) (rest := []) (c_X12_x l D o q u s i (show 0 ≤ s ∧ s ≤ 7 from (by omega)) (show 0 ≤ i ∧ i ≤ 1000000 from (by omega)) (show 0 < mN u s ∧ mN u s ≤ 24 from (by first | omega | (have hq := (show Sh u s from p0.1 _ (by omega) (by omega)).1; omega)))) mf_X12_x kw_1177 hG hP hP (ci := 8) (q0 := 0) rfl rfl rfl rfl hl.1 ⟨⟨Nat.le_of_ble_eq_true rfl, Nat.le_of_ble_eq_true rfl⟩, Nat.le_of_ble_eq_true rfl, Nat.le_refl _, Nat.le_refl _⟩ rfl dX12_corner_44 (fun z_44 h_44 => ?_)
          have h_44 : z_44 = mX u s i := h_44
          have hb_44 := (show Sh u s from p0.1 _ (by omega) (by omega)).2.1 (by omega) i (by omega)
          refine lv_goto (tgt := 56) SS.1 SS.2.1 dX12_corner_47 (by decide) ?_
          exact W.iret SS.1 SS.2.1 hr (fun t ht hW => ⟨_, rfl, ⟨z_44, rfl, (by first | exact Or.inl ⟨fun q => by omega, rfl⟩ | exact Or.inr ⟨by omega, Or.inl ⟨by omega, h_44⟩⟩ | exact Or.inr ⟨by omega, Or.inr ⟨by omega, h_53⟩⟩)⟩, ht⟩) (fun _ h => nomatch h) dX12_corner_56 hlk
      · skip
        refine j_ldc SS (-1000000) kw_1213 dX12_corner_32 ?_
        refine lv_goto (tgt := 56) SS.1 SS.2.1 dX12_corner_34 (by decide) ?_
        exact W.iret SS.1 SS.2.1 hr (fun t ht hW => ⟨_, rfl, ⟨(-1000000), rfl, (by first | exact Or.inl ⟨fun q => by omega, rfl⟩ | exact Or.inr ⟨by omega, Or.inl ⟨by omega, h_44⟩⟩ | exact Or.inr ⟨by omega, Or.inr ⟨by omega, h_53⟩⟩)⟩, ht⟩) (fun _ h => nomatch h) dX12_corner_56 hlk


def rfC (u : CS) (s z : Int) : Prop := (¬ (0 ≤ s ∧ s ≤ 7) ∧ z = -1) ∨ ((0 ≤ s ∧ s ≤ 7) ∧ ((z = 1 ∧ cRef u s.toNat) ∨ (z = 0 ∧ ¬ (cRef u s.toNat ∧ cHS u s.toNat))))
def rfM (u : MS) (s z : Int) : Prop := (¬ (0 ≤ s ∧ s ≤ 7) ∧ z = -1) ∨ ((0 ≤ s ∧ s ≤ 7) ∧ ((z = 1 ∧ mRef u s) ∨ (z = 0 ∧ ¬ mRef u s)))
def wayP (a b : Int) : Prop := (0 ≤ a ∧ a ≤ 100 ∧ -100 ≤ b ∧ b ≤ 100) ∧ ((a = 0 ∧ b = 1) ∨ (a ≠ 0 ∧ (Int.gcd a b : Int) = 1))
theorem way_g (a b : Int) (h1 : a = 0) (h2 : b = 1) : (Int.gcd a b : Int) = 1 := by rw [h1, h2]; rfl
def spR (u : CS) (r : Nat) (a b z : Int) : Prop := ∃ lo hi : Int, (∀ k : Int, 0 ≤ k → k < u.1.2.2.1 r → lo ≤ a * rx u r k + b * ry9 u r k ∧ a * rx u r k + b * ry9 u r k ≤ hi) ∧ (∃ k : Int, 0 ≤ k ∧ k < u.1.2.2.1 r ∧ a * rx u r k + b * ry9 u r k = lo) ∧ (∃ k : Int, 0 ≤ k ∧ k < u.1.2.2.1 r ∧ a * rx u r k + b * ry9 u r k = hi) ∧ z = hi - lo
def wdM (u : MS) (s a b z : Int) : Prop := ∃ lo hi : Int, (∀ k : Int, 0 ≤ k → k < mN u s → lo ≤ a * mX u s k + b * mY u s k ∧ a * mX u s k + b * mY u s k ≤ hi) ∧ (∃ k : Int, 0 ≤ k ∧ k < mN u s ∧ a * mX u s k + b * mY u s k = lo) ∧ (∃ k : Int, 0 ≤ k ∧ k < mN u s ∧ a * mX u s k + b * mY u s k = hi) ∧ z = hi - lo
def wiC (u : CS) (s a b z : Int) : Prop := (¬ ((0 ≤ s ∧ s ≤ 7) ∧ wayP a b) ∧ z = -1) ∨ (((0 ≤ s ∧ s ≤ 7) ∧ wayP a b) ∧ ((u.1.2.2.1 s.toNat = 0 ∧ z = -2) ∨ (u.1.2.2.1 s.toNat ≠ 0 ∧ spR u s.toNat a b z)))
def wiM (u : MS) (s a b z : Int) : Prop := (¬ ((0 ≤ s ∧ s ≤ 7) ∧ wayP a b) ∧ z = -1) ∨ (((0 ≤ s ∧ s ≤ 7) ∧ wayP a b) ∧ ((mN u s = 0 ∧ z = -2) ∨ (mN u s ≠ 0 ∧ wdM u s a b z)))
theorem EQS_x {u : CS} {v : MS} (hC : CI u) (h : EQS u v) {s : Int} (hs : 0 ≤ s ∧ s ≤ 7) : u.1.2.2.1 s.toNat = mN v s ∧ ∀ k : Int, 0 ≤ k → k < mN v s → rx u s.toNat k = mX v s k ∧ ry9 u s.toNat k = mY v s k := by
  obtain ⟨q1, q2, _⟩ := h s.toNat (by omega)
  rw [show ((s.toNat : Nat) : Int) = s by omega] at q1 q2
  refine ⟨q1, fun k h0 h1 => ?_⟩
  have hR := CI_40 hC (i := s.toNat) (by omega)
  have k1 := rx_n hR (a := k.toNat) (by omega)
  have k2 := q2 k.toNat (by omega)
  rw [show ((k.toNat : Nat) : Int) = k by omega] at k1 k2
  exact ⟨k1.1.trans k2.1, k1.2.trans k2.2⟩


set_option maxHeartbeats 4000000 in
set_option maxRecDepth 100000 in
theorem c_X11_reflexiveN (l : Launch) (D : JD) (q : Nat → Nat) (u : CS) (s : Int) (p0 : CI u) (p1 : -2147483648 ≤ s ∧ s ≤ 2147483647) : Met l yX11_reflexive (jw yX11_reflexive cX11_reflexive 3 (some .int)) (jr 6 132) (jP [.ref (q 0), .int (J s)] D (fun H => va_P D.1 j_cl (cW D q u) H)) (jRi (fun z => rfC u s z)) 0 0 (fun _ => False) := by
  refine Met.ofW (cc := cX11_reflexive) (maxL := 3) (ret := (some .int)) (by decide) rfl ?_
  intro pr en st mi args below meth co s₁ B hml hv
  obtain ⟨rfl, hG, hP⟩ := hv
  have hr := B.returns
  have hlk := B.notSynchronized
  have SS : jS pr mi co cX11_reflexive 3 st _ RX11 := ⟨B.exec, B.bytes, hml, findClass_of_methodNamed B.named, fun w hw => atoms_spec (ws := (jw yX11_reflexive cX11_reflexive 3 (some .int))) B.pre w (List.mem_cons_of_mem _ hw)⟩
  have hl := lv_entry ([.ref (q 0), .int (J s)]) (n := 3) (Nat.le_of_ble_eq_true rfl)
  rw [lg_entry_eq]
  generalize (lg_sl ([.ref (q 0), .int (J s)]) ++ List.replicate (3 - (lg_sl ([.ref (q 0), .int (J s)])).length) Slot.unset).toArray = ls at hl ⊢
  have hl : lv_has ls 3 [(0, .ref (q 0)), (1, .int (J s))] := hl
  refine lv_aload_n SS.1 SS.2.1 dX11_reflexive_0 rfl (lv_at hl 0 rfl) ?_
  refine lv_iload_n SS.1 SS.2.1 dX11_reflexive_1 rfl (lv_at hl 1 rfl) ?_
  refine j_vSh SS (As := [.int (J s)]) (rest := []) (c_X11_shapeAt l D q u  s (show -2147483648 ≤ s ∧ s ≤ 2147483647 from (p1))) mf_X11_shapeAt kw_414 hG hP hP (ci := 11) (q0 := 0) rfl rfl rfl rfl hl.1 ⟨⟨Nat.le_of_ble_eq_true rfl, Nat.le_of_ble_eq_true rfl⟩, Nat.le_of_ble_eq_true rfl, Nat.le_refl _, Nat.le_refl _⟩ rfl dX11_reflexive_2 (fun i_2 hi_2 hz_2 => ?_) (fun hn_2 => ?_)
  · skip
    have hI2 := CI_s p0 (show i_2 < 8 by omega)
    have hI2c := hI2.1
    have hrl2 := rl_s (show i_2 < 8 by omega)
    refine lv_astore_n (lv' := [(2, .ref (q (8 + 5 * i_2))), (0, .ref (q 0)), (1, .int (J s))]) SS.1 SS.2.1 dX11_reflexive_5 rfl hl (by decide) rfl (fun ls hl => ?_)
    refine lv_aload_n SS.1 SS.2.1 dX11_reflexive_6 rfl (lv_at hl 0 rfl) ?_
    refine lv_ifnonnull SS.1 SS.2.1 (tgt := 12) dX11_reflexive_7 (by decide) ?_
    refine lv_aload_n SS.1 SS.2.1 dX11_reflexive_12 rfl (lv_at hl 0 rfl) ?_
    refine j_get SS hG hP (8 + 5 * i_2) (v := .ref (q (9 + 5 * i_2))) (C := RX10) (T := TX10) (N := 3) (cw_shape (by omega)) rfl inX10 0 (by decide) (ref := "GridPolygons$Shape") kw_151 rfl rfl dX11_reflexive_13 ?_
    refine j_vRi SS (As := []) (rest := []) (c_X7_isReflexive2 l D q u i_2 (by omega) (80 : Int)  (show 0 ≤ (80 : Int) ∧ (80 : Int) ≤ 80 from (by omega)) (show RB (80 : Int) u i_2 from (show RB 80 u i_2 from CI_s p0 (by omega)))) mf_X7_isReflexive kw_818 hG hP hP (ci := 7) (q0 := (9 + 5 * i_2)) rfl (cw_ring (by omega)) rfl rfl hl.1 ⟨⟨Nat.le_of_ble_eq_true rfl, Nat.le_of_ble_eq_true rfl⟩, Nat.le_of_ble_eq_true rfl, Nat.le_refl _, Nat.le_refl _⟩ rfl dX11_reflexive_16 (fun z_16 h_16 => ?_)
    have h_16 : (z_16 = 1 ∧ cRef u i_2) ∨ (z_16 = 0 ∧ ¬ (cRef u i_2 ∧ cHS u i_2)) := h_16
    refine j_if_eq SS (tgt := 26) (x := z_16) dX11_reflexive_19 (by decide) (by omega) (fun c_19 => ?_) (fun c_19 => ?_)
    · skip
      refine j_iconst SS dX11_reflexive_26 ?_
      exact W.iret SS.1 SS.2.1 hr (fun t0 ht hW => ⟨_, rfl, ⟨0, rfl, (by first | exact Or.inl ⟨by omega, rfl⟩ | exact Or.inr ⟨by omega, by rw [show s.toNat = i_2 by omega]; rcases h_16 with q | q <;> first | exact Or.inl ⟨rfl, q.2⟩ | exact Or.inr ⟨rfl, q.2⟩ | (exfalso; omega)⟩)⟩, ht⟩) (fun _ h => nomatch h) dX11_reflexive_27 hlk
    · skip
      refine j_iconst SS dX11_reflexive_22 ?_
      refine lv_goto (tgt := 27) SS.1 SS.2.1 dX11_reflexive_23 (by decide) ?_
      exact W.iret SS.1 SS.2.1 hr (fun t0 ht hW => ⟨_, rfl, ⟨1, rfl, (by first | exact Or.inl ⟨by omega, rfl⟩ | exact Or.inr ⟨by omega, by rw [show s.toNat = i_2 by omega]; rcases h_16 with q | q <;> first | exact Or.inl ⟨rfl, q.2⟩ | exact Or.inr ⟨rfl, q.2⟩ | (exfalso; omega)⟩)⟩, ht⟩) (fun _ h => nomatch h) dX11_reflexive_27 hlk
  · skip
    refine lv_astore_nN (lv' := [(2, .null), (0, .ref (q 0)), (1, .int (J s))]) SS.1 SS.2.1 dX11_reflexive_5 rfl hl (by decide) rfl (fun ls hl => ?_)
    refine lv_aload_nN SS.1 SS.2.1 dX11_reflexive_6 rfl (lv_at hl 0 rfl) ?_
    refine lv_ifnonnullN SS.1 SS.2.1 dX11_reflexive_7 ?_
    refine j_iconst SS dX11_reflexive_10 ?_
    exact W.iret SS.1 SS.2.1 hr (fun t0 ht hW => ⟨_, rfl, ⟨(-1), rfl, (by first | exact Or.inl ⟨by omega, rfl⟩ | exact Or.inr ⟨by omega, by rw [show s.toNat = i_2 by omega]; rcases h_16 with q | q <;> first | exact Or.inl ⟨rfl, q.2⟩ | exact Or.inr ⟨rfl, q.2⟩ | (exfalso; omega)⟩)⟩, ht⟩) (fun _ h => nomatch h) dX11_reflexive_11 hlk

set_option maxHeartbeats 4000000 in
set_option maxRecDepth 100000 in
theorem c_X12_reflexive2 (l : Launch) (D : JD) (o : Nat) (q : Nat → Nat) (u : MS) (s : Int) (p0 : IM u) (p1 : -2147483648 ≤ s ∧ s ≤ 2147483647) : Met l yX12_reflexive (jw yX12_reflexive cX12_reflexive 2 (some .int)) (jr 6 133) (jP [.ref o, .int (J s)] D (fun H => va_P D.1 j_cl (mW D o q u) H)) (jRi (fun z => rfM u s z)) 0 0 (fun _ => False) := by
  refine Met.ofW (cc := cX12_reflexive) (maxL := 2) (ret := (some .int)) (by decide) rfl ?_
  intro pr en st mi args below meth co s₁ B hml hv
  obtain ⟨rfl, hG, hP⟩ := hv
  have hr := B.returns
  have hlk := B.notSynchronized
  have SS : jS pr mi co cX12_reflexive 2 st _ RX12 := ⟨B.exec, B.bytes, hml, findClass_of_methodNamed B.named, fun w hw => atoms_spec (ws := (jw yX12_reflexive cX12_reflexive 2 (some .int))) B.pre w (List.mem_cons_of_mem _ hw)⟩
  have hl := lv_entry ([.ref o, .int (J s)]) (n := 2) (Nat.le_of_ble_eq_true rfl)
  rw [lg_entry_eq]
  generalize (lg_sl ([.ref o, .int (J s)]) ++ List.replicate (2 - (lg_sl ([.ref o, .int (J s)])).length) Slot.unset).toArray = ls at hl ⊢
  have hl : lv_has ls 2 [(0, .ref o), (1, .int (J s))] := hl
  refine lv_iload_n SS.1 SS.2.1 dX12_reflexive_0 rfl (lv_at hl 1 rfl) ?_
  refine j_sRi SS (As := [.int (J s)]) (rest := []) (c_X12_isShape l D s (show -2147483648 ≤ s ∧ s ≤ 2147483647 from (by omega))) mf_X12_isShape kw_1156 hG trivial rfl hl.1 ⟨⟨Nat.le_of_ble_eq_true rfl, Nat.le_of_ble_eq_true rfl⟩, Nat.le_of_ble_eq_true rfl, Nat.le_refl _, Nat.le_refl _⟩ rfl dX12_reflexive_1 (fun z_1 h_1 => ?_)
  have h_1 : (z_1 = 1 ∧ (0 ≤ s ∧ s ≤ 7)) ∨ (z_1 = 0 ∧ ¬ (0 ≤ s ∧ s ≤ 7)) := h_1
  refine j_if_ne SS (tgt := 11) (x := z_1) dX12_reflexive_4 (by decide) (by omega) (fun c_4 => ?_) (fun c_4 => ?_)
  · skip
    refine lv_aload_n SS.1 SS.2.1 dX12_reflexive_11 rfl (lv_at hl 0 rfl) ?_
    refine lv_iload_n SS.1 SS.2.1 dX12_reflexive_12 rfl (lv_at hl 1 rfl) ?_
    refine j_vRi SS (As := [.int (J s)]) (rest := []) (c_X12_isReflexive2 l D o q u s (show 0 ≤ s ∧ s ≤ 7 from (by omega)) (show Sh u s from (p0.1 _ (by omega) (by omega)))) mf_X12_isReflexive kw_1380 hG hP hP (ci := 8) (q0 := 0) rfl rfl rfl rfl hl.1 ⟨⟨Nat.le_of_ble_eq_true rfl, Nat.le_of_ble_eq_true rfl⟩, Nat.le_of_ble_eq_true rfl, Nat.le_refl _, Nat.le_refl _⟩ rfl dX12_reflexive_13 (fun z_13 h_13 => ?_)
    have h_13 : (z_13 = 1 ∧ mRef u s) ∨ (z_13 = 0 ∧ ¬ mRef u s) := h_13
    refine j_if_eq SS (tgt := 23) (x := z_13) dX12_reflexive_16 (by decide) (by omega) (fun c_16 => ?_) (fun c_16 => ?_)
    · skip
      refine j_iconst SS dX12_reflexive_23 ?_
      exact W.iret SS.1 SS.2.1 hr (fun t ht hW => ⟨_, rfl, ⟨0, rfl, (by first | exact Or.inl ⟨by omega, rfl⟩ | exact Or.inr ⟨by omega, by rcases h_13 with q | q <;> first | exact Or.inl ⟨rfl, q.2⟩ | exact Or.inr ⟨rfl, q.2⟩ | (exfalso; omega)⟩)⟩, ht⟩) (fun _ h => nomatch h) dX12_reflexive_24 hlk
    · skip
      refine j_iconst SS dX12_reflexive_19 ?_
      refine lv_goto (tgt := 24) SS.1 SS.2.1 dX12_reflexive_20 (by decide) ?_
      exact W.iret SS.1 SS.2.1 hr (fun t ht hW => ⟨_, rfl, ⟨1, rfl, (by first | exact Or.inl ⟨by omega, rfl⟩ | exact Or.inr ⟨by omega, by rcases h_13 with q | q <;> first | exact Or.inl ⟨rfl, q.2⟩ | exact Or.inr ⟨rfl, q.2⟩ | (exfalso; omega)⟩)⟩, ht⟩) (fun _ h => nomatch h) dX12_reflexive_24 hlk
  · skip
    refine j_iconst SS dX12_reflexive_7 ?_
    refine lv_goto (tgt := 24) SS.1 SS.2.1 dX12_reflexive_8 (by decide) ?_
    exact W.iret SS.1 SS.2.1 hr (fun t ht hW => ⟨_, rfl, ⟨(-1), rfl, (by first | exact Or.inl ⟨by omega, rfl⟩ | exact Or.inr ⟨by omega, by rcases h_13 with q | q <;> first | exact Or.inl ⟨rfl, q.2⟩ | exact Or.inr ⟨rfl, q.2⟩ | (exfalso; omega)⟩)⟩, ht⟩) (fun _ h => nomatch h) dX12_reflexive_24 hlk

set_option maxHeartbeats 4000000 in
set_option maxRecDepth 100000 in
theorem c_X7_across2 (l : Launch) (D : JD) (q : Nat → Nat) (u : CS) (r : Nat) (hr : r ≤ 8) (K : Int) (a : Int) (b : Int) (p0 : 0 ≤ K ∧ K ≤ 80) (p1 : RB K u r) (p2 : -20000 ≤ a ∧ a ≤ 20000) (p3 : -20000 ≤ b ∧ b ≤ 20000) (p4 : 1 ≤ u.1.2.2.1 r) : Met l yX7_across (jw yX7_across cX7_across 7 (some .int)) (jr 1 21) (jP [.ref (q (9 + 5 * r)), .int (J a), .int (J b)] D (fun H => va_P D.1 j_cl (cW D q u) H)) (jRi (fun z => spR u r a b z ∧ -6400000 ≤ z ∧ z ≤ 6400000)) 0 0 (fun _ => False) := by
  refine Met.ofW (cc := cX7_across) (maxL := 7) (ret := (some .int)) (by decide) rfl ?_
  intro pr en st mi args below meth co s₁ B hml hv
  obtain ⟨rfl, hG, hP⟩ := hv
  have hr := B.returns
  have hlk := B.notSynchronized
  have SS : jS pr mi co cX7_across 7 st _ RX7 := ⟨B.exec, B.bytes, hml, findClass_of_methodNamed B.named, fun w hw => atoms_spec (ws := (jw yX7_across cX7_across 7 (some .int))) B.pre w (List.mem_cons_of_mem _ hw)⟩
  have hl := lv_entry ([.ref (q (9 + 5 * r)), .int (J a), .int (J b)]) (n := 7) (Nat.le_of_ble_eq_true rfl)
  rw [lg_entry_eq]
  generalize (lg_sl ([.ref (q (9 + 5 * r)), .int (J a), .int (J b)]) ++ List.replicate (7 - (lg_sl ([.ref (q (9 + 5 * r)), .int (J a), .int (J b)])).length) Slot.unset).toArray = ls at hl ⊢
  have hl : lv_has ls 7 [(0, .ref (q (9 + 5 * r))), (1, .int (J a)), (2, .int (J b))] := hl
  have hc := p1.1
  have hrl := rl_b r
  refine lv_iload_n SS.1 SS.2.1 dX7_across_0 rfl (lv_at hl 1 rfl) ?_
  refine lv_aload_n SS.1 SS.2.1 dX7_across_1 rfl (lv_at hl 0 rfl) ?_
  refine j_iconst SS dX7_across_2 ?_
  refine j_uRi SS (As := [.int (J 0)]) (rest := [.int (J a)]) (c_X8_x l D q u r (by omega) 0 (show -2147483648 ≤ (0 : Int) ∧ (0 : Int) ≤ 2147483647 from (by omega))) mu_7_x kw_501 hG hP hP (ci := 7) (q0 := (9 + 5 * r)) rfl (cw_ring (by omega)) rfl rfl hl.1 ⟨⟨Nat.le_of_ble_eq_true rfl, Nat.le_of_ble_eq_true rfl⟩, Nat.le_of_ble_eq_true rfl, Nat.le_refl _, Nat.le_refl _⟩ rfl dX7_across_3 (fun z_3 h_3 => ?_)
  have h_3 : z_3 = rx u r (0 : Int) ∧ ∀ K : Int, 0 ≤ K → RB K u r → -K ≤ z_3 ∧ z_3 ≤ K := h_3
  have hb_3 := h_3.2 K (by omega) (p1)
  refine j_imul SS (x := a) (y := z_3) dX7_across_6 ?_
  obtain ⟨ax, eax⟩ : ∃ z : Int, z = (a * z_3) := ⟨_, rfl⟩
  rw [← eax]
  refine lv_iload_n SS.1 SS.2.1 dX7_across_7 rfl (lv_at hl 2 rfl) ?_
  refine lv_aload_n SS.1 SS.2.1 dX7_across_8 rfl (lv_at hl 0 rfl) ?_
  refine j_iconst SS dX7_across_9 ?_
  refine j_uRi SS (As := [.int (J 0)]) (rest := [.int (J b), .int (J ax)]) (c_X8_y l D q u r (by omega) 0 (show -2147483648 ≤ (0 : Int) ∧ (0 : Int) ≤ 2147483647 from (by omega))) mu_7_y kw_503 hG hP hP (ci := 7) (q0 := (9 + 5 * r)) rfl (cw_ring (by omega)) rfl rfl hl.1 ⟨⟨Nat.le_of_ble_eq_true rfl, Nat.le_of_ble_eq_true rfl⟩, Nat.le_of_ble_eq_true rfl, Nat.le_refl _, Nat.le_refl _⟩ rfl dX7_across_10 (fun z_10 h_10 => ?_)
  have h_10 : z_10 = ry9 u r (0 : Int) ∧ ∀ K : Int, 0 ≤ K → RB K u r → -K ≤ z_10 ∧ z_10 ≤ K := h_10
  have hb_10 := h_10.2 K (by omega) (p1)
  refine j_imul SS (x := b) (y := z_10) dX7_across_13 ?_
  obtain ⟨ay, eay⟩ : ∃ z : Int, z = (b * z_10) := ⟨_, rfl⟩
  rw [← eay]
  refine j_iadd SS (x := ax) (y := ay) dX7_across_14 ?_
  have m1 := mulb (A := 20000) (B := 80) (a := a) (b := z_3) (by omega) (by omega)
  have m2 := mulb (A := 20000) (B := 80) (a := b) (b := z_10) (by omega) (by omega)
  rw [← eax] at m1
  rw [← eay] at m2
  have e0 : a * rx u r 0 + b * ry9 u r 0 = ax + ay := by rw [eax, eay, h_3.1, h_10.1]
  refine lv_istore_n (lv' := [(3, .int (J (ax + ay))), (0, .ref (q (9 + 5 * r))), (1, .int (J a)), (2, .int (J b))]) SS.1 SS.2.1 dX7_across_15 rfl hl (by decide) rfl (fun ls hl => ?_)
  refine lv_iload_n SS.1 SS.2.1 dX7_across_16 rfl (lv_at hl 0 rfl) ?_
  refine lv_istore (lv' := [(4, .int (J (ax + ay))), (3, .int (J (ax + ay))), (0, .ref (q (9 + 5 * r))), (1, .int (J a)), (2, .int (J b))]) SS.1 SS.2.1 dX7_across_17 hl (by decide) rfl (fun ls hl => ?_)
  refine j_iconst SS dX7_across_19 ?_
  refine lv_istore (lv' := [(5, .int (J 1)), (4, .int (J (ax + ay))), (3, .int (J (ax + ay))), (0, .ref (q (9 + 5 * r))), (1, .int (J a)), (2, .int (J b))]) SS.1 SS.2.1 dX7_across_20 hl (by decide) rfl (fun ls hl => ?_)
  have L_22 : ∀ (nn : Nat) (lo : Int) (hi : Int) (i : Int) (ls : Array Slot) (hl : lv_has ls 7 [(0, .ref (q (9 + 5 * r))), (1, .int (J a)), (2, .int (J b)), (3, .int (J lo)), (4, .int (J hi)), (5, .int (J i))]) (i22_0 : 1 ≤ i ∧ (i ≤ u.1.2.2.1 r ∨ i = 1)) (i22_1 : -3200000 ≤ lo ∧ lo ≤ hi ∧ hi ≤ 3200000) (i22_2 : ∀ k : Int, 0 ≤ k → k < i → lo ≤ (a * rx u r k + b * ry9 u r k) ∧ (a * rx u r k + b * ry9 u r k) ≤ hi) (i22_3 : ∃ k : Int, 0 ≤ k ∧ k < u.1.2.2.1 r ∧ (a * rx u r k + b * ry9 u r k) = lo) (i22_4 : ∃ k : Int, 0 ≤ k ∧ k < u.1.2.2.1 r ∧ (a * rx u r k + b * ry9 u r k) = hi), (u.1.2.2.1 r - i).toNat < nn → W pr l en (headSpec (jw yX7_across cX7_across 7 (some .int)) (jr 1 21)).room st mi (([.ref (q (9 + 5 * r)), .int (J a), .int (J b)] : List Value).toArray) below meth co st.heap [] 0 0 (MQ below (jRi (fun z => spR u r a b z ∧ -6400000 ≤ z ∧ z ≤ 6400000)) (([.ref (q (9 + 5 * r)), .int (J a), .int (J b)] : List Value).toArray) st 0 0 (fun _ => False)) (F0 mi 22 ls []) := by
    intro nn
    induction nn with
    | zero => intros; omega
    | succ nn ih_22 =>
      intro lo hi i ls hl i22_0 i22_1 i22_2 i22_3 i22_4 hm
      refine lv_iload SS.1 SS.2.1 dX7_across_22 (lv_at hl 5 rfl) ?_
      refine lv_aload_n SS.1 SS.2.1 dX7_across_24 rfl (lv_at hl 0 rfl) ?_
      refine j_getS SS hG hP (9 + 5 * r) (v := .int (J (u.1.2.2.1 r))) (C := RX7) (T := TX7) (N := 3) (cw_ring (by omega)) rfl inX7 2 (by decide) (ref := "GridPolygons$Ring") kw_131 kw_132 rfl dX7_across_25 ?_
      refine j_icmp_ge SS (tgt := 72) (x := i) (y := (u.1.2.2.1 r)) dX7_across_28 (by decide) (by omega) (by omega) (fun c_28 => ?_) (fun c_28 => ?_)
      · skip
        refine lv_iload SS.1 SS.2.1 dX7_across_72 (lv_at hl 4 rfl) ?_
        refine lv_iload_n SS.1 SS.2.1 dX7_across_74 rfl (lv_at hl 3 rfl) ?_
        refine j_isub SS (x := hi) (y := lo) dX7_across_75 ?_
        exact W.iret SS.1 SS.2.1 hr (fun t0 ht hW => ⟨_, rfl, ⟨(hi - lo), rfl, (⟨⟨lo, hi, fun k h1 h2 => i22_2 k h1 (by omega), i22_3, i22_4, rfl⟩, by omega, by omega⟩)⟩, ht⟩) (fun _ h => nomatch h) dX7_across_76 hlk
      · skip
        refine lv_iload_n SS.1 SS.2.1 dX7_across_31 rfl (lv_at hl 1 rfl) ?_
        refine lv_aload_n SS.1 SS.2.1 dX7_across_32 rfl (lv_at hl 0 rfl) ?_
        refine lv_iload SS.1 SS.2.1 dX7_across_33 (lv_at hl 5 rfl) ?_
        refine j_uRi SS (As := [.int (J i)]) (rest := [.int (J a)]) (c_X8_x l D q u r (by omega) i (show -2147483648 ≤ i ∧ i ≤ 2147483647 from (by omega))) mu_7_x kw_501 hG hP hP (ci := 7) (q0 := (9 + 5 * r)) rfl (cw_ring (by omega)) rfl rfl hl.1 ⟨⟨Nat.le_of_ble_eq_true rfl, Nat.le_of_ble_eq_true rfl⟩, Nat.le_of_ble_eq_true rfl, Nat.le_refl _, Nat.le_refl _⟩ rfl dX7_across_35 (fun z_35 h_35 => ?_)
        have h_35 : z_35 = rx u r i ∧ ∀ K : Int, 0 ≤ K → RB K u r → -K ≤ z_35 ∧ z_35 ≤ K := h_35
        have hb_35 := h_35.2 K (by omega) (p1)
        refine j_imul SS (x := a) (y := z_35) dX7_across_38 ?_
        obtain ⟨bx, ebx⟩ : ∃ z : Int, z = (a * z_35) := ⟨_, rfl⟩
        rw [← ebx]
        refine lv_iload_n SS.1 SS.2.1 dX7_across_39 rfl (lv_at hl 2 rfl) ?_
        refine lv_aload_n SS.1 SS.2.1 dX7_across_40 rfl (lv_at hl 0 rfl) ?_
        refine lv_iload SS.1 SS.2.1 dX7_across_41 (lv_at hl 5 rfl) ?_
        refine j_uRi SS (As := [.int (J i)]) (rest := [.int (J b), .int (J bx)]) (c_X8_y l D q u r (by omega) i (show -2147483648 ≤ i ∧ i ≤ 2147483647 from (by omega))) mu_7_y kw_503 hG hP hP (ci := 7) (q0 := (9 + 5 * r)) rfl (cw_ring (by omega)) rfl rfl hl.1 ⟨⟨Nat.le_of_ble_eq_true rfl, Nat.le_of_ble_eq_true rfl⟩, Nat.le_of_ble_eq_true rfl, Nat.le_refl _, Nat.le_refl _⟩ rfl dX7_across_43 (fun z_43 h_43 => ?_)
        have h_43 : z_43 = ry9 u r i ∧ ∀ K : Int, 0 ≤ K → RB K u r → -K ≤ z_43 ∧ z_43 ≤ K := h_43
        have hb_43 := h_43.2 K (by omega) (p1)
        refine j_imul SS (x := b) (y := z_43) dX7_across_46 ?_
        obtain ⟨by9, eby9⟩ : ∃ z : Int, z = (b * z_43) := ⟨_, rfl⟩
        rw [← eby9]
        refine j_iadd SS (x := bx) (y := by9) dX7_across_47 ?_
        have m3 := mulb (A := 20000) (B := 80) (a := a) (b := z_35) (by omega) (by omega)
        have m4 := mulb (A := 20000) (B := 80) (a := b) (b := z_43) (by omega) (by omega)
        rw [← ebx] at m3
        rw [← eby9] at m4
        have ei : a * rx u r i + b * ry9 u r i = bx + by9 := by rw [ebx, eby9, h_35.1, h_43.1]
        refine lv_istore (lv' := [(6, .int (J (bx + by9))), (0, .ref (q (9 + 5 * r))), (1, .int (J a)), (2, .int (J b)), (3, .int (J lo)), (4, .int (J hi)), (5, .int (J i))]) SS.1 SS.2.1 dX7_across_48 hl (by decide) rfl (fun ls hl => ?_)
        refine lv_iload_n SS.1 SS.2.1 dX7_across_50 rfl (lv_at hl 4 rfl) ?_
        refine lv_iload SS.1 SS.2.1 dX7_across_51 (lv_at hl 0 rfl) ?_
        refine j_sRi SS (As := [.int (J lo), .int (J (bx + by9))]) (rest := []) (c_J9_min_7cf53 l D  lo (bx + by9) (show -2147483648 ≤ lo ∧ lo ≤ 2147483647 from (by omega)) (show -2147483648 ≤ (bx + by9) ∧ (bx + by9) ≤ 2147483647 from (by omega))) mf_J9_min_7cf53 kw_602 hG trivial rfl hl.1 ⟨⟨Nat.le_of_ble_eq_true rfl, Nat.le_of_ble_eq_true rfl⟩, Nat.le_of_ble_eq_true rfl, Nat.le_refl _, Nat.le_refl _⟩ rfl dX7_across_53 (fun z_53 h_53 => ?_)
        have h_53 : (z_53 = lo ∨ z_53 = (bx + by9)) ∧ z_53 ≤ lo ∧ z_53 ≤ (bx + by9) := h_53
        refine lv_istore_n (lv' := [(3, .int (J z_53)), (6, .int (J (bx + by9))), (0, .ref (q (9 + 5 * r))), (1, .int (J a)), (2, .int (J b)), (4, .int (J hi)), (5, .int (J i))]) SS.1 SS.2.1 dX7_across_56 rfl hl (by decide) rfl (fun ls hl => ?_)
        refine lv_iload SS.1 SS.2.1 dX7_across_57 (lv_at hl 5 rfl) ?_
        refine lv_iload SS.1 SS.2.1 dX7_across_59 (lv_at hl 1 rfl) ?_
        refine j_sRi SS (As := [.int (J hi), .int (J (bx + by9))]) (rest := []) (c_J9_max_7cf53 l D  hi (bx + by9) (show -2147483648 ≤ hi ∧ hi ≤ 2147483647 from (by omega)) (show -2147483648 ≤ (bx + by9) ∧ (bx + by9) ≤ 2147483647 from (by omega))) mf_J9_max_7cf53 kw_593 hG trivial rfl hl.1 ⟨⟨Nat.le_of_ble_eq_true rfl, Nat.le_of_ble_eq_true rfl⟩, Nat.le_of_ble_eq_true rfl, Nat.le_refl _, Nat.le_refl _⟩ rfl dX7_across_61 (fun z_61 h_61 => ?_)
        have h_61 : (z_61 = hi ∨ z_61 = (bx + by9)) ∧ hi ≤ z_61 ∧ (bx + by9) ≤ z_61 := h_61
        refine lv_istore (lv' := [(4, .int (J z_61)), (3, .int (J z_53)), (6, .int (J (bx + by9))), (0, .ref (q (9 + 5 * r))), (1, .int (J a)), (2, .int (J b)), (5, .int (J i))]) SS.1 SS.2.1 dX7_across_64 hl (by decide) rfl (fun ls hl => ?_)
        refine lv_iinc (v := J (i + 1)) (lv' := [(5, .int (J (i + 1))), (4, .int (J z_61)), (3, .int (J z_53)), (6, .int (J (bx + by9))), (0, .ref (q (9 + 5 * r))), (1, .int (J a)), (2, .int (J b))]) SS.1 SS.2.1 dX7_across_66 hl (k := 6) rfl (J_add _ _) (by decide) rfl (fun ls hl => ?_)
        refine lv_goto (tgt := 22) SS.1 SS.2.1 dX7_across_69 (by decide) ?_
        exact ih_22 z_53 z_61 (i + 1) ls (lv_sub hl [4, 5, 6, 2, 1, 0] rfl) (by omega) (by omega) (fun k h1 h2 => by by_cases e : k = i; (rw [e, ei]; omega); have := i22_2 k h1 (by omega); omega) (by rcases h_53.1 with q | q; (obtain ⟨k, k1, k2, k3⟩ := i22_3; exact ⟨k, k1, k2, k3.trans q.symm⟩); exact ⟨i, by omega, by omega, ei.trans q.symm⟩) (by rcases h_61.1 with q | q; (obtain ⟨k, k1, k2, k3⟩ := i22_4; exact ⟨k, k1, k2, k3.trans q.symm⟩); exact ⟨i, by omega, by omega, ei.trans q.symm⟩) (by omega)
  exact L_22 ((u.1.2.2.1 r - (1 : Int)).toNat + 1) (ax + ay) (ax + ay) 1 ls (lv_sub hl [3, 4, 5, 2, 1, 0] rfl) (by omega) (by omega) (fun k h1 h2 => by rw [show k = 0 by omega, e0]; omega) (⟨0, by omega, by omega, e0⟩) (⟨0, by omega, by omega, e0⟩) (Nat.lt_succ_self _)

set_option maxHeartbeats 4000000 in
set_option maxRecDepth 100000 in
theorem c_X11_widthN (l : Launch) (D : JD) (q : Nat → Nat) (u : CS) (s : Int) (a : Int) (b : Int) (p0 : CI u) (p1 : -2147483648 ≤ s ∧ s ≤ 2147483647) (p2 : -2147483648 ≤ a ∧ a ≤ 2147483647) (p3 : -2147483648 ≤ b ∧ b ≤ 2147483647) : Met l yX11_width (jw yX11_width cX11_width 5 (some .int)) (jr 3 66) (jP [.ref (q 0), .int (J s), .int (J a), .int (J b)] D (fun H => va_P D.1 j_cl (cW D q u) H)) (jRi (fun z => wiC u s a b z ∧ wRg z)) 0 0 (fun _ => False) := by
  refine Met.ofW (cc := cX11_width) (maxL := 5) (ret := (some .int)) (by decide) rfl ?_
  intro pr en st mi args below meth co s₁ B hml hv
  obtain ⟨rfl, hG, hP⟩ := hv
  have hr := B.returns
  have hlk := B.notSynchronized
  have SS : jS pr mi co cX11_width 5 st _ RX11 := ⟨B.exec, B.bytes, hml, findClass_of_methodNamed B.named, fun w hw => atoms_spec (ws := (jw yX11_width cX11_width 5 (some .int))) B.pre w (List.mem_cons_of_mem _ hw)⟩
  have hl := lv_entry ([.ref (q 0), .int (J s), .int (J a), .int (J b)]) (n := 5) (Nat.le_of_ble_eq_true rfl)
  rw [lg_entry_eq]
  generalize (lg_sl ([.ref (q 0), .int (J s), .int (J a), .int (J b)]) ++ List.replicate (5 - (lg_sl ([.ref (q 0), .int (J s), .int (J a), .int (J b)])).length) Slot.unset).toArray = ls at hl ⊢
  have hl : lv_has ls 5 [(0, .ref (q 0)), (1, .int (J s)), (2, .int (J a)), (3, .int (J b))] := hl
  refine lv_aload_n SS.1 SS.2.1 dX11_width_0 rfl (lv_at hl 0 rfl) ?_
  refine lv_iload_n SS.1 SS.2.1 dX11_width_1 rfl (lv_at hl 1 rfl) ?_
  refine j_vSh SS (As := [.int (J s)]) (rest := []) (c_X11_shapeAt l D q u  s (show -2147483648 ≤ s ∧ s ≤ 2147483647 from (p1))) mf_X11_shapeAt kw_414 hG hP hP (ci := 11) (q0 := 0) rfl rfl rfl rfl hl.1 ⟨⟨Nat.le_of_ble_eq_true rfl, Nat.le_of_ble_eq_true rfl⟩, Nat.le_of_ble_eq_true rfl, Nat.le_refl _, Nat.le_refl _⟩ rfl dX11_width_2 (fun i_2 hi_2 hz_2 => ?_) (fun hn_2 => ?_)
  · skip
    have hI2 := CI_s p0 (show i_2 < 8 by omega)
    have hI2c := hI2.1
    have hrl2 := rl_s (show i_2 < 8 by omega)
    refine lv_astore (lv' := [(4, .ref (q (8 + 5 * i_2))), (0, .ref (q 0)), (1, .int (J s)), (2, .int (J a)), (3, .int (J b))]) SS.1 SS.2.1 dX11_width_5 hl (by decide) rfl (fun ls hl => ?_)
    refine lv_aload SS.1 SS.2.1 dX11_width_7 (lv_at hl 0 rfl) ?_
    refine lv_ifnull SS.1 SS.2.1 dX11_width_9 ?_
    refine lv_iload_n SS.1 SS.2.1 dX11_width_12 rfl (lv_at hl 3 rfl) ?_
    refine lv_iload_n SS.1 SS.2.1 dX11_width_13 rfl (lv_at hl 4 rfl) ?_
    refine j_sRi SS (As := [.int (J a), .int (J b)]) (rest := []) (c_X11_isWay l D  a b (show -2147483648 ≤ a ∧ a ≤ 2147483647 from (p2)) (show -2147483648 ≤ b ∧ b ≤ 2147483647 from (p3))) mf_X11_isWay kw_627 hG trivial rfl hl.1 ⟨⟨Nat.le_of_ble_eq_true rfl, Nat.le_of_ble_eq_true rfl⟩, Nat.le_of_ble_eq_true rfl, Nat.le_refl _, Nat.le_refl _⟩ rfl dX11_width_14 (fun z_14 h_14 => ?_)
    have h_14 : (z_14 = 1 ∧ (0 ≤ a ∧ a ≤ 100 ∧ -100 ≤ b ∧ b ≤ 100) ∧ ((a = 0 ∧ b = 1) ∨ (a ≠ 0 ∧ (Int.gcd a b : Int) = 1))) ∨ (z_14 = 0 ∧ ¬ ((0 ≤ a ∧ a ≤ 100 ∧ -100 ≤ b ∧ b ≤ 100) ∧ ((a = 0 ∧ b = 1) ∨ (a ≠ 0 ∧ (Int.gcd a b : Int) = 1)))) := h_14
    refine j_if_ne SS (tgt := 22) (x := z_14) dX11_width_17 (by decide) (by omega) (fun c_17 => ?_) (fun c_17 => ?_)
    · skip
      refine lv_aload SS.1 SS.2.1 dX11_width_22 (lv_at hl 0 rfl) ?_
      refine j_get SS hG hP (8 + 5 * i_2) (v := .ref (q (9 + 5 * i_2))) (C := RX10) (T := TX10) (N := 3) (cw_shape (by omega)) rfl inX10 0 (by decide) (ref := "GridPolygons$Shape") kw_151 rfl rfl dX11_width_24 ?_
      refine j_getS SS hG hP (9 + 5 * i_2) (v := .int (J (u.1.2.2.1 i_2))) (C := RX7) (T := TX7) (N := 3) (cw_ring (by omega)) rfl inX7 2 (by decide) (ref := "GridPolygons$Ring") kw_135 kw_132 rfl dX11_width_27 ?_
      refine j_if_ne SS (tgt := 38) (x := (u.1.2.2.1 i_2)) dX11_width_30 (by decide) (by omega) (fun c_30 => ?_) (fun c_30 => ?_)
      · skip
        refine lv_aload SS.1 SS.2.1 dX11_width_38 (lv_at hl 0 rfl) ?_
        refine j_get SS hG hP (8 + 5 * i_2) (v := .ref (q (9 + 5 * i_2))) (C := RX10) (T := TX10) (N := 3) (cw_shape (by omega)) rfl inX10 0 (by decide) (ref := "GridPolygons$Shape") kw_151 rfl rfl dX11_width_40 ?_
        refine lv_iload_n SS.1 SS.2.1 dX11_width_43 rfl (lv_at hl 3 rfl) ?_
        refine lv_iload_n SS.1 SS.2.1 dX11_width_44 rfl (lv_at hl 4 rfl) ?_
        refine j_vRi SS (As := [.int (J a), .int (J b)]) (rest := []) (c_X7_across2 l D q u i_2 (by omega) (80 : Int) a b (show 0 ≤ (80 : Int) ∧ (80 : Int) ≤ 80 from (by omega)) (show RB (80 : Int) u i_2 from (show RB 80 u i_2 from CI_s p0 (by omega))) (show -20000 ≤ a ∧ a ≤ 20000 from (by omega)) (show -20000 ≤ b ∧ b ≤ 20000 from (by omega)) (show 1 ≤ (u.1.2.2.1 i_2) from (by omega))) mf_X7_across kw_631 hG hP hP (ci := 7) (q0 := (9 + 5 * i_2)) rfl (cw_ring (by omega)) rfl rfl hl.1 ⟨⟨Nat.le_of_ble_eq_true rfl, Nat.le_of_ble_eq_true rfl⟩, Nat.le_of_ble_eq_true rfl, Nat.le_refl _, Nat.le_refl _⟩ rfl dX11_width_45 (fun z_45 h_45 => ?_)
        have h_45 : spR u i_2 a b z_45 ∧ -6400000 ≤ z_45 ∧ z_45 ≤ 6400000 := h_45
        exact W.iret SS.1 SS.2.1 hr (fun t0 ht hW => ⟨_, rfl, ⟨z_45, rfl, (by first | exact ⟨Or.inl ⟨fun q => by have q1 := q.1; omega, rfl⟩, by unfold wRg; omega⟩ | exact ⟨Or.inl ⟨fun q => by have q2 := q.2; unfold wayP at q2; omega, rfl⟩, by unfold wRg; omega⟩ | exact ⟨Or.inr ⟨⟨by omega, by unfold wayP; omega⟩, by rw [show s.toNat = i_2 by omega]; first | exact Or.inl ⟨by omega, rfl⟩ | exact Or.inr ⟨by omega, h_45.1⟩⟩, by unfold wRg; omega⟩)⟩, ht⟩) (fun _ h => nomatch h) dX11_width_48 hlk
      · skip
        refine j_bipush SS dX11_width_33 (by decide +kernel) ?_
        refine lv_goto (tgt := 48) SS.1 SS.2.1 dX11_width_35 (by decide) ?_
        exact W.iret SS.1 SS.2.1 hr (fun t0 ht hW => ⟨_, rfl, ⟨(-2), rfl, (by first | exact ⟨Or.inl ⟨fun q => by have q1 := q.1; omega, rfl⟩, by unfold wRg; omega⟩ | exact ⟨Or.inl ⟨fun q => by have q2 := q.2; unfold wayP at q2; omega, rfl⟩, by unfold wRg; omega⟩ | exact ⟨Or.inr ⟨⟨by omega, by unfold wayP; omega⟩, by rw [show s.toNat = i_2 by omega]; first | exact Or.inl ⟨by omega, rfl⟩ | exact Or.inr ⟨by omega, h_45.1⟩⟩, by unfold wRg; omega⟩)⟩, ht⟩) (fun _ h => nomatch h) dX11_width_48 hlk
    · skip
      refine j_iconst SS dX11_width_20 ?_
      exact W.iret SS.1 SS.2.1 hr (fun t0 ht hW => ⟨_, rfl, ⟨(-1), rfl, (by first | exact ⟨Or.inl ⟨fun q => by have q1 := q.1; omega, rfl⟩, by unfold wRg; omega⟩ | exact ⟨Or.inl ⟨fun q => by have q2 := q.2; unfold wayP at q2; omega, rfl⟩, by unfold wRg; omega⟩ | exact ⟨Or.inr ⟨⟨by omega, by unfold wayP; omega⟩, by rw [show s.toNat = i_2 by omega]; first | exact Or.inl ⟨by omega, rfl⟩ | exact Or.inr ⟨by omega, h_45.1⟩⟩, by unfold wRg; omega⟩)⟩, ht⟩) (fun _ h => nomatch h) dX11_width_21 hlk
  · skip
    refine lv_astoreN (lv' := [(4, .null), (0, .ref (q 0)), (1, .int (J s)), (2, .int (J a)), (3, .int (J b))]) SS.1 SS.2.1 dX11_width_5 hl (by decide) rfl (fun ls hl => ?_)
    refine lv_aloadN SS.1 SS.2.1 dX11_width_7 (lv_at hl 0 rfl) ?_
    refine lv_ifnullN SS.1 SS.2.1 (tgt := 20) dX11_width_9 (by decide) ?_
    refine j_iconst SS dX11_width_20 ?_
    exact W.iret SS.1 SS.2.1 hr (fun t0 ht hW => ⟨_, rfl, ⟨(-1), rfl, (by first | exact ⟨Or.inl ⟨fun q => by have q1 := q.1; omega, rfl⟩, by unfold wRg; omega⟩ | exact ⟨Or.inl ⟨fun q => by have q2 := q.2; unfold wayP at q2; omega, rfl⟩, by unfold wRg; omega⟩ | exact ⟨Or.inr ⟨⟨by omega, by unfold wayP; omega⟩, by rw [show s.toNat = i_2 by omega]; first | exact Or.inl ⟨by omega, rfl⟩ | exact Or.inr ⟨by omega, h_45.1⟩⟩, by unfold wRg; omega⟩)⟩, ht⟩) (fun _ h => nomatch h) dX11_width_21 hlk

set_option maxHeartbeats 4000000 in
set_option maxRecDepth 100000 in
theorem c_X12_widthOf2 (l : Launch) (D : JD) (o : Nat) (q : Nat → Nat) (u : MS) (s : Int) (a : Int) (b : Int) (p0 : 0 ≤ s ∧ s ≤ 7) (p1 : Sh u s) (p2 : 0 < mN u s) (p3 : -1000000 ≤ a ∧ a ≤ 1000000) (p4 : -1000000 ≤ b ∧ b ≤ 1000000) : Met l yX12_widthOf (jw yX12_widthOf cX12_widthOf 8 (some .int)) (jr 1 22) (jP [.ref o, .int (J s), .int (J a), .int (J b)] D (fun H => va_P D.1 j_cl (mW D o q u) H)) (jRi (fun z => wdM u s a b z ∧ 0 ≤ z ∧ z ≤ 400000000)) 0 0 (fun _ => False) := by
  refine Met.ofW (cc := cX12_widthOf) (maxL := 8) (ret := (some .int)) (by decide) rfl ?_
  intro pr en st mi args below meth co s₁ B hml hv
  obtain ⟨rfl, hG, hP⟩ := hv
  have hr := B.returns
  have hlk := B.notSynchronized
  have SS : jS pr mi co cX12_widthOf 8 st _ RX12 := ⟨B.exec, B.bytes, hml, findClass_of_methodNamed B.named, fun w hw => atoms_spec (ws := (jw yX12_widthOf cX12_widthOf 8 (some .int))) B.pre w (List.mem_cons_of_mem _ hw)⟩
  have hl := lv_entry ([.ref o, .int (J s), .int (J a), .int (J b)]) (n := 8) (Nat.le_of_ble_eq_true rfl)
  rw [lg_entry_eq]
  generalize (lg_sl ([.ref o, .int (J s), .int (J a), .int (J b)]) ++ List.replicate (8 - (lg_sl ([.ref o, .int (J s), .int (J a), .int (J b)])).length) Slot.unset).toArray = ls at hl ⊢
  have hl : lv_has ls 8 [(0, .ref o), (1, .int (J s)), (2, .int (J a)), (3, .int (J b))] := hl
  have hN := p1.1
  have hC := p1.2.2
  have hb0 := p1.2.1 (by omega) 0 (by omega)
  have m1 := mulb (A := 1000000) (B := 40) p3 hb0.1
  have m2 := mulb (A := 1000000) (B := 40) p4 hb0.2
  refine lv_iload_n SS.1 SS.2.1 dX12_widthOf_0 rfl (lv_at hl 2 rfl) ?_
  refine lv_aload_n SS.1 SS.2.1 dX12_widthOf_1 rfl (lv_at hl 0 rfl) ?_
  refine lv_iload_n SS.1 SS.2.1 dX12_widthOf_2 rfl (lv_at hl 1 rfl) ?_
  refine j_iconst SS dX12_widthOf_3 ?_
  refine j_vRi SS (As := [.int (J s), .int (J 0)]) (rest := [.int (J a)]) (c_X12_x l D o q u s 0 (show 0 ≤ s ∧ s ≤ 7 from (by omega)) (show 0 ≤ (0 : Int) ∧ (0 : Int) ≤ 1000000 from (by omega)) (show 0 < mN u s ∧ mN u s ≤ 24 from (by first | omega | (have hq := (show Sh u s from p1).1; omega)))) mf_X12_x kw_1177 hG hP hP (ci := 8) (q0 := 0) rfl rfl rfl rfl hl.1 ⟨⟨Nat.le_of_ble_eq_true rfl, Nat.le_of_ble_eq_true rfl⟩, Nat.le_of_ble_eq_true rfl, Nat.le_refl _, Nat.le_refl _⟩ rfl dX12_widthOf_4 (fun z_4 h_4 => ?_)
  have h_4 : z_4 = mX u s (0 : Int) := h_4
  have hb_4 := (show Sh u s from p1).2.1 (by omega) (0 : Int) (by omega)
  refine j_imul SS (x := a) (y := z_4) dX12_widthOf_7 ?_
  obtain ⟨v5a, ev5a⟩ : ∃ z : Int, z = (a * z_4) := ⟨_, rfl⟩
  rw [← ev5a]
  refine lv_iload_n SS.1 SS.2.1 dX12_widthOf_8 rfl (lv_at hl 3 rfl) ?_
  refine lv_aload_n SS.1 SS.2.1 dX12_widthOf_9 rfl (lv_at hl 0 rfl) ?_
  refine lv_iload_n SS.1 SS.2.1 dX12_widthOf_10 rfl (lv_at hl 1 rfl) ?_
  refine j_iconst SS dX12_widthOf_11 ?_
  refine j_vRi SS (As := [.int (J s), .int (J 0)]) (rest := [.int (J b), .int (J v5a)]) (c_X12_y l D o q u s 0 (show 0 ≤ s ∧ s ≤ 7 from (by omega)) (show 0 ≤ (0 : Int) ∧ (0 : Int) ≤ 1000000 from (by omega)) (show 0 < mN u s ∧ mN u s ≤ 24 from (by first | omega | (have hq := (show Sh u s from p1).1; omega)))) mf_X12_y kw_1181 hG hP hP (ci := 8) (q0 := 0) rfl rfl rfl rfl hl.1 ⟨⟨Nat.le_of_ble_eq_true rfl, Nat.le_of_ble_eq_true rfl⟩, Nat.le_of_ble_eq_true rfl, Nat.le_refl _, Nat.le_refl _⟩ rfl dX12_widthOf_12 (fun z_12 h_12 => ?_)
  have h_12 : z_12 = mY u s (0 : Int) := h_12
  have hb_12 := (show Sh u s from p1).2.1 (by omega) (0 : Int) (by omega)
  refine j_imul SS (x := b) (y := z_12) dX12_widthOf_15 ?_
  obtain ⟨v5b, ev5b⟩ : ∃ z : Int, z = (b * z_12) := ⟨_, rfl⟩
  rw [← ev5b]
  refine j_iadd SS (x := v5a) (y := v5b) dX12_widthOf_16 ?_
  obtain ⟨v4, ev4⟩ : ∃ z : Int, z = (v5a + v5b) := ⟨_, rfl⟩
  rw [← ev4]
  rw [h_4] at ev5a
  rw [h_12] at ev5b
  refine lv_istore (lv' := [(4, .int (J v4)), (0, .ref o), (1, .int (J s)), (2, .int (J a)), (3, .int (J b))]) SS.1 SS.2.1 dX12_widthOf_17 hl (by decide) rfl (fun ls hl => ?_)
  refine lv_iload SS.1 SS.2.1 dX12_widthOf_19 (lv_at hl 0 rfl) ?_
  refine lv_istore (lv' := [(5, .int (J v4)), (4, .int (J v4)), (0, .ref o), (1, .int (J s)), (2, .int (J a)), (3, .int (J b))]) SS.1 SS.2.1 dX12_widthOf_21 hl (by decide) rfl (fun ls hl => ?_)
  refine j_iconst SS dX12_widthOf_23 ?_
  refine lv_istore (lv' := [(6, .int (J 1)), (5, .int (J v4)), (4, .int (J v4)), (0, .ref o), (1, .int (J s)), (2, .int (J a)), (3, .int (J b))]) SS.1 SS.2.1 dX12_widthOf_24 hl (by decide) rfl (fun ls hl => ?_)
  have L_26 : ∀ (nn : Nat) (lo : Int) (hi : Int) (i : Int) (ls : Array Slot) (hl : lv_has ls 8 [(0, .ref o), (1, .int (J s)), (2, .int (J a)), (3, .int (J b)), (4, .int (J lo)), (5, .int (J hi)), (6, .int (J i))]) (i26_0 : 1 ≤ i ∧ i ≤ 100) (i26_1 : -200000000 ≤ lo ∧ lo ≤ 200000000) (i26_2 : -200000000 ≤ hi ∧ hi ≤ 200000000) (i26_3 : lo ≤ hi) (i26_4 : ∀ k : Int, 0 ≤ k → k < i → lo ≤ (a * mX u s k + b * mY u s k) ∧ (a * mX u s k + b * mY u s k) ≤ hi) (i26_5 : ∃ k : Int, 0 ≤ k ∧ k < mN u s ∧ (a * mX u s k + b * mY u s k) = lo) (i26_6 : ∃ k : Int, 0 ≤ k ∧ k < mN u s ∧ (a * mX u s k + b * mY u s k) = hi), ((100 : Int) - i).toNat < nn → W pr l en (headSpec (jw yX12_widthOf cX12_widthOf 8 (some .int)) (jr 1 22)).room st mi (([.ref o, .int (J s), .int (J a), .int (J b)] : List Value).toArray) below meth co st.heap [] 0 0 (MQ below (jRi (fun z => wdM u s a b z ∧ 0 ≤ z ∧ z ≤ 400000000)) (([.ref o, .int (J s), .int (J a), .int (J b)] : List Value).toArray) st 0 0 (fun _ => False)) (F0 mi 26 ls []) := by
    intro nn
    induction nn with
    | zero => intros; omega
    | succ nn ih_26 =>
      intro lo hi i ls hl i26_0 i26_1 i26_2 i26_3 i26_4 i26_5 i26_6 hm
      refine lv_iload SS.1 SS.2.1 dX12_widthOf_26 (lv_at hl 6 rfl) ?_
      refine lv_aload_n SS.1 SS.2.1 dX12_widthOf_28 rfl (lv_at hl 0 rfl) ?_
      refine j_get SS hG hP 0 (v := .ref (q 0)) (C := RX12) (T := TX12) (N := 31) rfl rfl inX12 0 (by decide) (ref := RX12) kw_1058 rfl rfl dX12_widthOf_29 ?_
      refine lv_iload_n SS.1 SS.2.1 dX12_widthOf_32 rfl (lv_at hl 1 rfl) ?_
      refine j_iald SS hG hP 1 (n := 8) (f := (u.1 0)) rfl (z := s) (by omega) (by omega) dX12_widthOf_33 ?_
      have hN_33 := (show Sh u s from p1).1
      refine j_icmp_ge SS (tgt := 96) (x := i) (y := (mN u s)) dX12_widthOf_34 (by decide) (by omega) (by omega) (fun c_34 => ?_) (fun c_34 => ?_)
      · skip
        refine lv_iload SS.1 SS.2.1 dX12_widthOf_96 (lv_at hl 5 rfl) ?_
        refine lv_iload SS.1 SS.2.1 dX12_widthOf_98 (lv_at hl 4 rfl) ?_
        refine j_isub SS (x := hi) (y := lo) dX12_widthOf_100 ?_
        exact W.iret SS.1 SS.2.1 hr (fun t ht hW => ⟨_, rfl, ⟨(hi - lo), rfl, (⟨⟨lo, hi, fun k h1 h2 => i26_4 k h1 (by omega), i26_5, i26_6, rfl⟩, by omega, by omega⟩)⟩, ht⟩) (fun _ h => nomatch h) dX12_widthOf_101 hlk
      · skip
        have hbi := p1.2.1 (by omega) i (by omega)
        have m3 := mulb (A := 1000000) (B := 40) p3 hbi.1
        have m4 := mulb (A := 1000000) (B := 40) p4 hbi.2
        refine lv_iload_n SS.1 SS.2.1 dX12_widthOf_37 rfl (lv_at hl 2 rfl) ?_
        refine lv_aload_n SS.1 SS.2.1 dX12_widthOf_38 rfl (lv_at hl 0 rfl) ?_
        refine lv_iload_n SS.1 SS.2.1 dX12_widthOf_39 rfl (lv_at hl 1 rfl) ?_
        refine lv_iload SS.1 SS.2.1 dX12_widthOf_40 (lv_at hl 6 rfl) ?_
        refine j_vRi SS (As := [.int (J s), .int (J i)]) (rest := [.int (J a)]) (c_X12_x l D o q u s i (show 0 ≤ s ∧ s ≤ 7 from (by omega)) (show 0 ≤ i ∧ i ≤ 1000000 from (by omega)) (show 0 < mN u s ∧ mN u s ≤ 24 from (by first | omega | (have hq := (show Sh u s from p1).1; omega)))) mf_X12_x kw_1177 hG hP hP (ci := 8) (q0 := 0) rfl rfl rfl rfl hl.1 ⟨⟨Nat.le_of_ble_eq_true rfl, Nat.le_of_ble_eq_true rfl⟩, Nat.le_of_ble_eq_true rfl, Nat.le_refl _, Nat.le_refl _⟩ rfl dX12_widthOf_42 (fun z_42 h_42 => ?_)
        have h_42 : z_42 = mX u s i := h_42
        have hb_42 := (show Sh u s from p1).2.1 (by omega) i (by omega)
        refine j_imul SS (x := a) (y := z_42) dX12_widthOf_45 ?_
        obtain ⟨v6a, ev6a⟩ : ∃ z : Int, z = (a * z_42) := ⟨_, rfl⟩
        rw [← ev6a]
        refine lv_iload_n SS.1 SS.2.1 dX12_widthOf_46 rfl (lv_at hl 3 rfl) ?_
        refine lv_aload_n SS.1 SS.2.1 dX12_widthOf_47 rfl (lv_at hl 0 rfl) ?_
        refine lv_iload_n SS.1 SS.2.1 dX12_widthOf_48 rfl (lv_at hl 1 rfl) ?_
        refine lv_iload SS.1 SS.2.1 dX12_widthOf_49 (lv_at hl 6 rfl) ?_
        refine j_vRi SS (As := [.int (J s), .int (J i)]) (rest := [.int (J b), .int (J v6a)]) (c_X12_y l D o q u s i (show 0 ≤ s ∧ s ≤ 7 from (by omega)) (show 0 ≤ i ∧ i ≤ 1000000 from (by omega)) (show 0 < mN u s ∧ mN u s ≤ 24 from (by first | omega | (have hq := (show Sh u s from p1).1; omega)))) mf_X12_y kw_1181 hG hP hP (ci := 8) (q0 := 0) rfl rfl rfl rfl hl.1 ⟨⟨Nat.le_of_ble_eq_true rfl, Nat.le_of_ble_eq_true rfl⟩, Nat.le_of_ble_eq_true rfl, Nat.le_refl _, Nat.le_refl _⟩ rfl dX12_widthOf_51 (fun z_51 h_51 => ?_)
        have h_51 : z_51 = mY u s i := h_51
        have hb_51 := (show Sh u s from p1).2.1 (by omega) i (by omega)
        refine j_imul SS (x := b) (y := z_51) dX12_widthOf_54 ?_
        obtain ⟨v6b, ev6b⟩ : ∃ z : Int, z = (b * z_51) := ⟨_, rfl⟩
        rw [← ev6b]
        refine j_iadd SS (x := v6a) (y := v6b) dX12_widthOf_55 ?_
        obtain ⟨v7, ev7⟩ : ∃ z : Int, z = (v6a + v6b) := ⟨_, rfl⟩
        rw [← ev7]
        rw [h_42] at ev6a
        rw [h_51] at ev6b
        refine lv_istore (lv' := [(7, .int (J v7)), (0, .ref o), (1, .int (J s)), (2, .int (J a)), (3, .int (J b)), (4, .int (J lo)), (5, .int (J hi)), (6, .int (J i))]) SS.1 SS.2.1 dX12_widthOf_56 hl (by decide) rfl (fun ls hl => ?_)
        refine lv_iload SS.1 SS.2.1 dX12_widthOf_58 (lv_at hl 0 rfl) ?_
        refine lv_iload SS.1 SS.2.1 dX12_widthOf_60 (lv_at hl 5 rfl) ?_
        have L_72 : ∀ (c1 : Int) (ls : Array Slot) (hl : lv_has ls 8 [(0, .ref o), (1, .int (J s)), (2, .int (J a)), (3, .int (J b)), (4, .int (J lo)), (5, .int (J hi)), (6, .int (J i)), (7, .int (J v7))]) (i72_0 : c1 ≤ lo ∧ (c1 = lo ∨ c1 = v7)) (i72_1 : c1 ≤ v7), W pr l en (headSpec (jw yX12_widthOf cX12_widthOf 8 (some .int)) (jr 1 22)).room st mi (([.ref o, .int (J s), .int (J a), .int (J b)] : List Value).toArray) below meth co st.heap [] 0 0 (MQ below (jRi (fun z => wdM u s a b z ∧ 0 ≤ z ∧ z ≤ 400000000)) (([.ref o, .int (J s), .int (J a), .int (J b)] : List Value).toArray) st 0 0 (fun _ => False)) (F0 mi 72 ls [.int (J c1)]) := by
          intro c1 ls hl i72_0 i72_1
          refine lv_istore (lv' := [(4, .int (J c1)), (0, .ref o), (1, .int (J s)), (2, .int (J a)), (3, .int (J b)), (5, .int (J hi)), (6, .int (J i)), (7, .int (J v7))]) SS.1 SS.2.1 dX12_widthOf_72 hl (by decide) rfl (fun ls hl => ?_)
          refine lv_iload SS.1 SS.2.1 dX12_widthOf_74 (lv_at hl 7 rfl) ?_
          refine lv_iload SS.1 SS.2.1 dX12_widthOf_76 (lv_at hl 5 rfl) ?_
          have L_88 : ∀ (c2 : Int) (ls : Array Slot) (hl : lv_has ls 8 [(0, .ref o), (1, .int (J s)), (2, .int (J a)), (3, .int (J b)), (4, .int (J c1)), (5, .int (J hi)), (6, .int (J i)), (7, .int (J v7))]) (i88_0 : hi ≤ c2 ∧ (c2 = hi ∨ c2 = v7)) (i88_1 : v7 ≤ c2), W pr l en (headSpec (jw yX12_widthOf cX12_widthOf 8 (some .int)) (jr 1 22)).room st mi (([.ref o, .int (J s), .int (J a), .int (J b)] : List Value).toArray) below meth co st.heap [] 0 0 (MQ below (jRi (fun z => wdM u s a b z ∧ 0 ≤ z ∧ z ≤ 400000000)) (([.ref o, .int (J s), .int (J a), .int (J b)] : List Value).toArray) st 0 0 (fun _ => False)) (F0 mi 88 ls [.int (J c2)]) := by
            intro c2 ls hl i88_0 i88_1
            refine lv_istore (lv' := [(5, .int (J c2)), (0, .ref o), (1, .int (J s)), (2, .int (J a)), (3, .int (J b)), (4, .int (J c1)), (6, .int (J i)), (7, .int (J v7))]) SS.1 SS.2.1 dX12_widthOf_88 hl (by decide) rfl (fun ls hl => ?_)
            refine lv_iinc (v := J (i + 1)) (lv' := [(6, .int (J (i + 1))), (5, .int (J c2)), (0, .ref o), (1, .int (J s)), (2, .int (J a)), (3, .int (J b)), (4, .int (J c1)), (7, .int (J v7))]) SS.1 SS.2.1 dX12_widthOf_90 hl (k := 6) rfl (J_add _ _) (by decide) rfl (fun ls hl => ?_)
            refine lv_goto (tgt := 26) SS.1 SS.2.1 dX12_widthOf_93 (by decide) ?_
            exact ih_26 c1 c2 (i + 1) ls (lv_sub hl [2, 3, 4, 5, 6, 1, 0] rfl) (by omega) (by omega) (by omega) (by omega) (fun k h1 h2 => by first | (rw [show k = 0 by omega, ← ev5a, ← ev5b]; omega) | (by_cases e : k = i; (rw [e, ← ev6a, ← ev6b]; omega); have := i26_4 k h1 (by omega); omega)) (by first | exact ⟨0, by omega, by omega, by rw [← ev5a, ← ev5b]; omega⟩ | (rcases i72_0.2 with q | q; (obtain ⟨k, k1, k2, k3⟩ := i26_5; exact ⟨k, k1, k2, k3.trans q.symm⟩); exact ⟨i, by omega, by omega, by rw [← ev6a, ← ev6b]; omega⟩)) (by first | exact ⟨0, by omega, by omega, by rw [← ev5a, ← ev5b]; omega⟩ | (rcases i88_0.2 with q | q; (obtain ⟨k, k1, k2, k3⟩ := i26_6; exact ⟨k, k1, k2, k3.trans q.symm⟩); exact ⟨i, by omega, by omega, by rw [← ev6a, ← ev6b]; omega⟩)) (by omega)
          refine j_icmp_le SS (tgt := 86) (x := v7) (y := hi) dX12_widthOf_78 (by decide) (by omega) (by omega) (fun c_78 => ?_) (fun c_78 => ?_)
          · skip
            refine lv_iload SS.1 SS.2.1 dX12_widthOf_86 (lv_at hl 5 rfl) ?_
            exact L_88 hi ls (lv_sub hl [1, 2, 3, 4, 0, 5, 6, 7] rfl) (by omega) (by omega)
          · skip
            refine lv_iload SS.1 SS.2.1 dX12_widthOf_81 (lv_at hl 7 rfl) ?_
            refine lv_goto (tgt := 88) SS.1 SS.2.1 dX12_widthOf_83 (by decide) ?_
            exact L_88 v7 ls (lv_sub hl [1, 2, 3, 4, 0, 5, 6, 7] rfl) (by omega) (by omega)
        refine j_icmp_ge SS (tgt := 70) (x := v7) (y := lo) dX12_widthOf_62 (by decide) (by omega) (by omega) (fun c_62 => ?_) (fun c_62 => ?_)
        · skip
          refine lv_iload SS.1 SS.2.1 dX12_widthOf_70 (lv_at hl 5 rfl) ?_
          exact L_72 lo ls (lv_sub hl [1, 2, 3, 4, 5, 6, 7, 0] rfl) (by omega) (by omega)
        · skip
          refine lv_iload SS.1 SS.2.1 dX12_widthOf_65 (lv_at hl 0 rfl) ?_
          refine lv_goto (tgt := 72) SS.1 SS.2.1 dX12_widthOf_67 (by decide) ?_
          exact L_72 v7 ls (lv_sub hl [1, 2, 3, 4, 5, 6, 7, 0] rfl) (by omega) (by omega)
  exact L_26 (((100 : Int) - (1 : Int)).toNat + 1) v4 v4 1 ls (lv_sub hl [3, 4, 5, 6, 2, 1, 0] rfl) (by omega) (by omega) (by omega) (by omega) (fun k h1 h2 => by first | (rw [show k = 0 by omega, ← ev5a, ← ev5b]; omega) | (by_cases e : k = i; (rw [e, ← ev6a, ← ev6b]; omega); have := i26_4 k h1 (by omega); omega)) (by first | exact ⟨0, by omega, by omega, by rw [← ev5a, ← ev5b]; omega⟩ | (rcases i72_0.2 with q | q; (obtain ⟨k, k1, k2, k3⟩ := i26_5; exact ⟨k, k1, k2, k3.trans q.symm⟩); exact ⟨i, by omega, by omega, by rw [← ev6a, ← ev6b]; omega⟩)) (by first | exact ⟨0, by omega, by omega, by rw [← ev5a, ← ev5b]; omega⟩ | (rcases i88_0.2 with q | q; (obtain ⟨k, k1, k2, k3⟩ := i26_6; exact ⟨k, k1, k2, k3.trans q.symm⟩); exact ⟨i, by omega, by omega, by rw [← ev6a, ← ev6b]; omega⟩)) (Nat.lt_succ_self _)

set_option maxHeartbeats 4000000 in
set_option maxRecDepth 100000 in
theorem c_X12_width2 (l : Launch) (D : JD) (o : Nat) (q : Nat → Nat) (u : MS) (s : Int) (a : Int) (b : Int) (p0 : IM u) (p1 : -2147483648 ≤ s ∧ s ≤ 2147483647) (p2 : -2147483648 ≤ a ∧ a ≤ 2147483647) (p3 : -2147483648 ≤ b ∧ b ≤ 2147483647) : Met l yX12_width (jw yX12_width cX12_width 4 (some .int)) (jr 3 65) (jP [.ref o, .int (J s), .int (J a), .int (J b)] D (fun H => va_P D.1 j_cl (mW D o q u) H)) (jRi (fun z => wiM u s a b z)) 0 0 (fun _ => False) := by
  refine Met.ofW (cc := cX12_width) (maxL := 4) (ret := (some .int)) (by decide) rfl ?_
  intro pr en st mi args below meth co s₁ B hml hv
  obtain ⟨rfl, hG, hP⟩ := hv
  have hr := B.returns
  have hlk := B.notSynchronized
  have SS : jS pr mi co cX12_width 4 st _ RX12 := ⟨B.exec, B.bytes, hml, findClass_of_methodNamed B.named, fun w hw => atoms_spec (ws := (jw yX12_width cX12_width 4 (some .int))) B.pre w (List.mem_cons_of_mem _ hw)⟩
  have hl := lv_entry ([.ref o, .int (J s), .int (J a), .int (J b)]) (n := 4) (Nat.le_of_ble_eq_true rfl)
  rw [lg_entry_eq]
  generalize (lg_sl ([.ref o, .int (J s), .int (J a), .int (J b)]) ++ List.replicate (4 - (lg_sl ([.ref o, .int (J s), .int (J a), .int (J b)])).length) Slot.unset).toArray = ls at hl ⊢
  have hl : lv_has ls 4 [(0, .ref o), (1, .int (J s)), (2, .int (J a)), (3, .int (J b))] := hl
  have hg1 := way_g a b
  refine lv_iload_n SS.1 SS.2.1 dX12_width_0 rfl (lv_at hl 1 rfl) ?_
  refine j_sRi SS (As := [.int (J s)]) (rest := []) (c_X12_isShape l D s (show -2147483648 ≤ s ∧ s ≤ 2147483647 from (by omega))) mf_X12_isShape kw_1156 hG trivial rfl hl.1 ⟨⟨Nat.le_of_ble_eq_true rfl, Nat.le_of_ble_eq_true rfl⟩, Nat.le_of_ble_eq_true rfl, Nat.le_refl _, Nat.le_refl _⟩ rfl dX12_width_1 (fun z_1 h_1 => ?_)
  have h_1 : (z_1 = 1 ∧ (0 ≤ s ∧ s ≤ 7)) ∨ (z_1 = 0 ∧ ¬ (0 ≤ s ∧ s ≤ 7)) := h_1
  refine j_if_eq SS (tgt := 37) (x := z_1) dX12_width_4 (by decide) (by omega) (fun c_4 => ?_) (fun c_4 => ?_)
  · skip
    refine j_iconst SS dX12_width_37 ?_
    exact W.iret SS.1 SS.2.1 hr (fun t ht hW => ⟨_, rfl, ⟨(-1), rfl, (by first | exact Or.inl ⟨fun q => by have q1 := q.1; have q2 := q.2; unfold wayP at q2; omega, rfl⟩ | exact Or.inr ⟨⟨by omega, by unfold wayP; omega⟩, Or.inl ⟨by omega, rfl⟩⟩ | exact Or.inr ⟨⟨by omega, by unfold wayP; omega⟩, Or.inr ⟨by omega, h_57.1⟩⟩)⟩, ht⟩) (fun _ h => nomatch h) dX12_width_38 hlk
  · skip
    refine lv_iload_n SS.1 SS.2.1 dX12_width_7 rfl (lv_at hl 2 rfl) ?_
    refine j_bipush SS dX12_width_8 (by decide +kernel) ?_
    refine j_bipush SS dX12_width_10 (by decide +kernel) ?_
    refine j_sRi SS (As := [.int (J a), .int (J (-100)), .int (J 100)]) (rest := []) (c_X12_in l D a (-100) 100 (show -2147483648 ≤ a ∧ a ≤ 2147483647 from (by omega)) (show -2147483648 ≤ (-100 : Int) ∧ (-100 : Int) ≤ 2147483647 from (by omega)) (show -2147483648 ≤ (100 : Int) ∧ (100 : Int) ≤ 2147483647 from (by omega))) mf_X12_in kw_1159 hG trivial rfl hl.1 ⟨⟨Nat.le_of_ble_eq_true rfl, Nat.le_of_ble_eq_true rfl⟩, Nat.le_of_ble_eq_true rfl, Nat.le_refl _, Nat.le_refl _⟩ rfl dX12_width_12 (fun z_12 h_12 => ?_)
    have h_12 : (z_12 = 1 ∧ ((-100 : Int) ≤ a ∧ a ≤ (100 : Int))) ∨ (z_12 = 0 ∧ ¬ ((-100 : Int) ≤ a ∧ a ≤ (100 : Int))) := h_12
    refine j_if_eq SS (tgt := 37) (x := z_12) dX12_width_15 (by decide) (by omega) (fun c_15 => ?_) (fun c_15 => ?_)
    · skip
      refine j_iconst SS dX12_width_37 ?_
      exact W.iret SS.1 SS.2.1 hr (fun t ht hW => ⟨_, rfl, ⟨(-1), rfl, (by first | exact Or.inl ⟨fun q => by have q1 := q.1; have q2 := q.2; unfold wayP at q2; omega, rfl⟩ | exact Or.inr ⟨⟨by omega, by unfold wayP; omega⟩, Or.inl ⟨by omega, rfl⟩⟩ | exact Or.inr ⟨⟨by omega, by unfold wayP; omega⟩, Or.inr ⟨by omega, h_57.1⟩⟩)⟩, ht⟩) (fun _ h => nomatch h) dX12_width_38 hlk
    · skip
      refine lv_iload_n SS.1 SS.2.1 dX12_width_18 rfl (lv_at hl 3 rfl) ?_
      refine j_bipush SS dX12_width_19 (by decide +kernel) ?_
      refine j_bipush SS dX12_width_21 (by decide +kernel) ?_
      refine j_sRi SS (As := [.int (J b), .int (J (-100)), .int (J 100)]) (rest := []) (c_X12_in l D b (-100) 100 (show -2147483648 ≤ b ∧ b ≤ 2147483647 from (by omega)) (show -2147483648 ≤ (-100 : Int) ∧ (-100 : Int) ≤ 2147483647 from (by omega)) (show -2147483648 ≤ (100 : Int) ∧ (100 : Int) ≤ 2147483647 from (by omega))) mf_X12_in kw_1159 hG trivial rfl hl.1 ⟨⟨Nat.le_of_ble_eq_true rfl, Nat.le_of_ble_eq_true rfl⟩, Nat.le_of_ble_eq_true rfl, Nat.le_refl _, Nat.le_refl _⟩ rfl dX12_width_23 (fun z_23 h_23 => ?_)
      have h_23 : (z_23 = 1 ∧ ((-100 : Int) ≤ b ∧ b ≤ (100 : Int))) ∨ (z_23 = 0 ∧ ¬ ((-100 : Int) ≤ b ∧ b ≤ (100 : Int))) := h_23
      refine j_if_eq SS (tgt := 37) (x := z_23) dX12_width_26 (by decide) (by omega) (fun c_26 => ?_) (fun c_26 => ?_)
      · skip
        refine j_iconst SS dX12_width_37 ?_
        exact W.iret SS.1 SS.2.1 hr (fun t ht hW => ⟨_, rfl, ⟨(-1), rfl, (by first | exact Or.inl ⟨fun q => by have q1 := q.1; have q2 := q.2; unfold wayP at q2; omega, rfl⟩ | exact Or.inr ⟨⟨by omega, by unfold wayP; omega⟩, Or.inl ⟨by omega, rfl⟩⟩ | exact Or.inr ⟨⟨by omega, by unfold wayP; omega⟩, Or.inr ⟨by omega, h_57.1⟩⟩)⟩, ht⟩) (fun _ h => nomatch h) dX12_width_38 hlk
      · skip
        refine lv_iload_n SS.1 SS.2.1 dX12_width_29 rfl (lv_at hl 2 rfl) ?_
        refine lv_iload_n SS.1 SS.2.1 dX12_width_30 rfl (lv_at hl 3 rfl) ?_
        refine j_sRi SS (As := [.int (J a), .int (J b)]) (rest := []) (c_X12_isWay l D a b (show -2147483648 < a ∧ a ≤ 2147483647 from (by omega)) (show -2147483648 < b ∧ b ≤ 2147483647 from (by omega))) mf_X12_isWay kw_1274 hG trivial rfl hl.1 ⟨⟨Nat.le_of_ble_eq_true rfl, Nat.le_of_ble_eq_true rfl⟩, Nat.le_of_ble_eq_true rfl, Nat.le_refl _, Nat.le_refl _⟩ rfl dX12_width_31 (fun z_31 h_31 => ?_)
        have h_31 : (z_31 = 1 ∧ ((Int.gcd a b : Int) = 1 ∧ (0 < a ∨ (a = 0 ∧ b = 1)))) ∨ (z_31 = 0 ∧ ¬ ((Int.gcd a b : Int) = 1 ∧ (0 < a ∨ (a = 0 ∧ b = 1)))) := h_31
        refine j_if_ne SS (tgt := 39) (x := z_31) dX12_width_34 (by decide) (by omega) (fun c_34 => ?_) (fun c_34 => ?_)
        · skip
          refine lv_aload_n SS.1 SS.2.1 dX12_width_39 rfl (lv_at hl 0 rfl) ?_
          refine j_get SS hG hP 0 (v := .ref (q 0)) (C := RX12) (T := TX12) (N := 31) rfl rfl inX12 0 (by decide) (ref := RX12) kw_1058 rfl rfl dX12_width_40 ?_
          refine lv_iload_n SS.1 SS.2.1 dX12_width_43 rfl (lv_at hl 1 rfl) ?_
          refine j_iald SS hG hP 1 (n := 8) (f := (u.1 0)) rfl (z := s) (by omega) (by omega) dX12_width_44 ?_
          have hN_44 := (show Sh u s from p0.1 _ (by omega) (by omega)).1
          refine j_if_ne SS (tgt := 53) (x := (mN u s)) dX12_width_45 (by decide) (by omega) (fun c_45 => ?_) (fun c_45 => ?_)
          · skip
            refine lv_aload_n SS.1 SS.2.1 dX12_width_53 rfl (lv_at hl 0 rfl) ?_
            refine lv_iload_n SS.1 SS.2.1 dX12_width_54 rfl (lv_at hl 1 rfl) ?_
            refine lv_iload_n SS.1 SS.2.1 dX12_width_55 rfl (lv_at hl 2 rfl) ?_
            refine lv_iload_n SS.1 SS.2.1 dX12_width_56 rfl (lv_at hl 3 rfl) ?_
            refine j_vRi SS (As := [.int (J s), .int (J a), .int (J b)]) (rest := []) (c_X12_widthOf2 l D o q u s a b (show 0 ≤ s ∧ s ≤ 7 from (by omega)) (show Sh u s from (p0.1 _ (by omega) (by omega))) (show 0 < mN u s from (by first | omega | (have hq := (show Sh u s from p0.1 _ (by omega) (by omega)).1; omega))) (show -1000000 ≤ a ∧ a ≤ 1000000 from (by omega)) (show -1000000 ≤ b ∧ b ≤ 1000000 from (by omega))) mf_X12_widthOf kw_1277 hG hP hP (ci := 8) (q0 := 0) rfl rfl rfl rfl hl.1 ⟨⟨Nat.le_of_ble_eq_true rfl, Nat.le_of_ble_eq_true rfl⟩, Nat.le_of_ble_eq_true rfl, Nat.le_refl _, Nat.le_refl _⟩ rfl dX12_width_57 (fun z_57 h_57 => ?_)
            have h_57 : wdM u s a b z_57 ∧ 0 ≤ z_57 ∧ z_57 ≤ 400000000 := h_57
            exact W.iret SS.1 SS.2.1 hr (fun t ht hW => ⟨_, rfl, ⟨z_57, rfl, (by first | exact Or.inl ⟨fun q => by have q1 := q.1; have q2 := q.2; unfold wayP at q2; omega, rfl⟩ | exact Or.inr ⟨⟨by omega, by unfold wayP; omega⟩, Or.inl ⟨by omega, rfl⟩⟩ | exact Or.inr ⟨⟨by omega, by unfold wayP; omega⟩, Or.inr ⟨by omega, h_57.1⟩⟩)⟩, ht⟩) (fun _ h => nomatch h) dX12_width_60 hlk
          · skip
            refine j_bipush SS dX12_width_48 (by decide +kernel) ?_
            refine lv_goto (tgt := 60) SS.1 SS.2.1 dX12_width_50 (by decide) ?_
            exact W.iret SS.1 SS.2.1 hr (fun t ht hW => ⟨_, rfl, ⟨(-2), rfl, (by first | exact Or.inl ⟨fun q => by have q1 := q.1; have q2 := q.2; unfold wayP at q2; omega, rfl⟩ | exact Or.inr ⟨⟨by omega, by unfold wayP; omega⟩, Or.inl ⟨by omega, rfl⟩⟩ | exact Or.inr ⟨⟨by omega, by unfold wayP; omega⟩, Or.inr ⟨by omega, h_57.1⟩⟩)⟩, ht⟩) (fun _ h => nomatch h) dX12_width_60 hlk
        · skip
          refine j_iconst SS dX12_width_37 ?_
          exact W.iret SS.1 SS.2.1 hr (fun t ht hW => ⟨_, rfl, ⟨(-1), rfl, (by first | exact Or.inl ⟨fun q => by have q1 := q.1; have q2 := q.2; unfold wayP at q2; omega, rfl⟩ | exact Or.inr ⟨⟨by omega, by unfold wayP; omega⟩, Or.inl ⟨by omega, rfl⟩⟩ | exact Or.inr ⟨⟨by omega, by unfold wayP; omega⟩, Or.inr ⟨by omega, h_57.1⟩⟩)⟩, ht⟩) (fun _ h => nomatch h) dX12_width_38 hlk

