
set_option maxHeartbeats 4000000 in
set_option maxRecDepth 100000 in
theorem c_X7_rightmost2 (l : Launch) (D : JD) (q : Nat → Nat) (u : CS) (r : Nat) (hr : r ≤ 8) (K : Int) (p0 : 0 ≤ K ∧ K ≤ 80) (p1 : RB K u r) : Met l yX7_rightmost (jw yX7_rightmost cX7_rightmost 3 (some .int)) (jr 1 21) (jP [.ref (q (9 + 5 * r))] D (fun H => va_P D.1 j_cl (cW D q u) H)) (jRi (fun z => (-K ≤ z ∧ z ≤ K) ∧ (cAR u r → 0 ≤ z))) 0 0 (fun _ => False) := by
  refine Met.ofW (cc := cX7_rightmost) (maxL := 3) (ret := (some .int)) (by decide) rfl ?_
  intro pr en st mi args below meth co s₁ B hml hv
  obtain ⟨rfl, hG, hP⟩ := hv
  have hr := B.returns
  have hlk := B.notSynchronized
  have SS : jS pr mi co cX7_rightmost 3 st _ RX7 := ⟨B.exec, B.bytes, hml, findClass_of_methodNamed B.named, fun w hw => atoms_spec (ws := (jw yX7_rightmost cX7_rightmost 3 (some .int))) B.pre w (List.mem_cons_of_mem _ hw)⟩
  have hl := lv_entry ([.ref (q (9 + 5 * r))]) (n := 3) (Nat.le_of_ble_eq_true rfl)
  rw [lg_entry_eq]
  generalize (lg_sl ([.ref (q (9 + 5 * r))]) ++ List.replicate (3 - (lg_sl ([.ref (q (9 + 5 * r))])).length) Slot.unset).toArray = ls at hl ⊢
  have hl : lv_has ls 3 [(0, .ref (q (9 + 5 * r)))] := hl
  have hc := p1.1
  have hrl := rl_b r
  refine lv_aload_n SS.1 SS.2.1 dX7_rightmost_0 rfl (lv_at hl 0 rfl) ?_
  refine j_iconst SS dX7_rightmost_1 ?_
  refine j_uRi SS (As := [.int (J 0)]) (rest := []) (c_X8_x l D q u r (by omega) 0 (show -2147483648 ≤ (0 : Int) ∧ (0 : Int) ≤ 2147483647 from (by omega))) mu_7_x kw_501 hG hP hP (ci := 7) (q0 := (9 + 5 * r)) rfl (cw_ring (by omega)) rfl rfl hl.1 ⟨⟨Nat.le_of_ble_eq_true rfl, Nat.le_of_ble_eq_true rfl⟩, Nat.le_of_ble_eq_true rfl, Nat.le_refl _, Nat.le_refl _⟩ rfl dX7_rightmost_2 (fun z_2 h_2 => ?_)
  have h_2 : z_2 = rx u r (0 : Int) ∧ ∀ K : Int, 0 ≤ K → RB K u r → -K ≤ z_2 ∧ z_2 ≤ K := h_2
  have hb_2 := h_2.2 K (by omega) (p1)
  refine lv_istore_n (lv' := [(1, .int (J z_2)), (0, .ref (q (9 + 5 * r)))]) SS.1 SS.2.1 dX7_rightmost_5 rfl hl (by decide) rfl (fun ls hl => ?_)
  refine j_iconst SS dX7_rightmost_6 ?_
  refine lv_istore_n (lv' := [(2, .int (J 1)), (1, .int (J z_2)), (0, .ref (q (9 + 5 * r)))]) SS.1 SS.2.1 dX7_rightmost_7 rfl hl (by decide) rfl (fun ls hl => ?_)
  have L_8 : ∀ (nn : Nat) (t : Int) (i : Int) (ls : Array Slot) (hl : lv_has ls 3 [(0, .ref (q (9 + 5 * r))), (1, .int (J t)), (2, .int (J i))]) (i8_0 : 1 ≤ i ∧ (i ≤ u.1.2.2.1 r ∨ i = 1)) (i8_1 : -K ≤ t ∧ t ≤ K) (i8_2 : ∀ a : Int, 0 ≤ a → a < i → rx u r a ≤ t), (u.1.2.2.1 r - i).toNat < nn → W pr l en (headSpec (jw yX7_rightmost cX7_rightmost 3 (some .int)) (jr 1 21)).room st mi (([.ref (q (9 + 5 * r))] : List Value).toArray) below meth co st.heap [] 0 0 (MQ below (jRi (fun z => (-K ≤ z ∧ z ≤ K) ∧ (cAR u r → 0 ≤ z))) (([.ref (q (9 + 5 * r))] : List Value).toArray) st 0 0 (fun _ => False)) (F0 mi 8 ls []) := by
    intro nn
    induction nn with
    | zero => intros; omega
    | succ nn ih_8 =>
      intro t i ls hl i8_0 i8_1 i8_2 hm
      refine lv_iload_n SS.1 SS.2.1 dX7_rightmost_8 rfl (lv_at hl 2 rfl) ?_
      refine lv_aload_n SS.1 SS.2.1 dX7_rightmost_9 rfl (lv_at hl 0 rfl) ?_
      refine j_getS SS hG hP (9 + 5 * r) (v := .int (J (u.1.2.2.1 r))) (C := RX7) (T := TX7) (N := 3) (cw_ring (by omega)) rfl inX7 2 (by decide) (ref := "GridPolygons$Ring") kw_131 kw_132 rfl dX7_rightmost_10 ?_
      refine j_icmp_ge SS (tgt := 32) (x := i) (y := (u.1.2.2.1 r)) dX7_rightmost_13 (by decide) (by omega) (by omega) (fun c_13 => ?_) (fun c_13 => ?_)
      · skip
        refine lv_iload_n SS.1 SS.2.1 dX7_rightmost_32 rfl (lv_at hl 1 rfl) ?_
        exact W.iret SS.1 SS.2.1 hr (fun t0 ht hW => ⟨_, rfl, ⟨t, rfl, (⟨by omega, fun q => by obtain ⟨b, b1, b2, b3⟩ := q.2.2.2.1; have := i8_2 b b1 (by omega); omega⟩)⟩, ht⟩) (fun _ h => nomatch h) dX7_rightmost_33 hlk
      · skip
        refine lv_iload_n SS.1 SS.2.1 dX7_rightmost_16 rfl (lv_at hl 1 rfl) ?_
        refine lv_aload_n SS.1 SS.2.1 dX7_rightmost_17 rfl (lv_at hl 0 rfl) ?_
        refine lv_iload_n SS.1 SS.2.1 dX7_rightmost_18 rfl (lv_at hl 2 rfl) ?_
        refine j_uRi SS (As := [.int (J i)]) (rest := [.int (J t)]) (c_X8_x l D q u r (by omega) i (show -2147483648 ≤ i ∧ i ≤ 2147483647 from (by omega))) mu_7_x kw_501 hG hP hP (ci := 7) (q0 := (9 + 5 * r)) rfl (cw_ring (by omega)) rfl rfl hl.1 ⟨⟨Nat.le_of_ble_eq_true rfl, Nat.le_of_ble_eq_true rfl⟩, Nat.le_of_ble_eq_true rfl, Nat.le_refl _, Nat.le_refl _⟩ rfl dX7_rightmost_19 (fun z_19 h_19 => ?_)
        have h_19 : z_19 = rx u r i ∧ ∀ K : Int, 0 ≤ K → RB K u r → -K ≤ z_19 ∧ z_19 ≤ K := h_19
        have hb_19 := h_19.2 K (by omega) (p1)
        refine j_sRi SS (As := [.int (J t), .int (J z_19)]) (rest := []) (c_J9_max_7cf53 l D  t z_19 (show -2147483648 ≤ t ∧ t ≤ 2147483647 from (by omega)) (show -2147483648 ≤ z_19 ∧ z_19 ≤ 2147483647 from (by omega))) mf_J9_max_7cf53 kw_593 hG trivial rfl hl.1 ⟨⟨Nat.le_of_ble_eq_true rfl, Nat.le_of_ble_eq_true rfl⟩, Nat.le_of_ble_eq_true rfl, Nat.le_refl _, Nat.le_refl _⟩ rfl dX7_rightmost_22 (fun z_22 h_22 => ?_)
        have h_22 : (z_22 = t ∨ z_22 = z_19) ∧ t ≤ z_22 ∧ z_19 ≤ z_22 := h_22
        refine lv_istore_n (lv' := [(1, .int (J z_22)), (0, .ref (q (9 + 5 * r))), (2, .int (J i))]) SS.1 SS.2.1 dX7_rightmost_25 rfl hl (by decide) rfl (fun ls hl => ?_)
        refine lv_iinc (v := J (i + 1)) (lv' := [(2, .int (J (i + 1))), (1, .int (J z_22)), (0, .ref (q (9 + 5 * r)))]) SS.1 SS.2.1 dX7_rightmost_26 hl (k := 2) rfl (J_add _ _) (by decide) rfl (fun ls hl => ?_)
        refine lv_goto (tgt := 8) SS.1 SS.2.1 dX7_rightmost_29 (by decide) ?_
        exact ih_8 z_22 (i + 1) ls (lv_sub hl [2, 1, 0] rfl) (by omega) (by omega) (fun a h1 h2 => by by_cases e : a = i; (rw [e, ← h_19.1]; omega); have := i8_2 a h1 (by omega); omega) (by omega)
  exact L_8 ((u.1.2.2.1 r - (1 : Int)).toNat + 1) z_2 1 ls (lv_sub hl [2, 1, 0] rfl) (by omega) (by omega) (fun a h1 h2 => by rw [show a = 0 by omega, ← h_2.1]; omega) (Nat.lt_succ_self _)

set_option maxHeartbeats 4000000 in
set_option maxRecDepth 100000 in
theorem c_X7_bottom2 (l : Launch) (D : JD) (q : Nat → Nat) (u : CS) (r : Nat) (hr : r ≤ 8) (K : Int) (p0 : 0 ≤ K ∧ K ≤ 80) (p1 : RB K u r) : Met l yX7_bottom (jw yX7_bottom cX7_bottom 3 (some .int)) (jr 1 21) (jP [.ref (q (9 + 5 * r))] D (fun H => va_P D.1 j_cl (cW D q u) H)) (jRi (fun z => (-K ≤ z ∧ z ≤ K) ∧ (cAR u r → z ≤ 0))) 0 0 (fun _ => False) := by
  refine Met.ofW (cc := cX7_bottom) (maxL := 3) (ret := (some .int)) (by decide) rfl ?_
  intro pr en st mi args below meth co s₁ B hml hv
  obtain ⟨rfl, hG, hP⟩ := hv
  have hr := B.returns
  have hlk := B.notSynchronized
  have SS : jS pr mi co cX7_bottom 3 st _ RX7 := ⟨B.exec, B.bytes, hml, findClass_of_methodNamed B.named, fun w hw => atoms_spec (ws := (jw yX7_bottom cX7_bottom 3 (some .int))) B.pre w (List.mem_cons_of_mem _ hw)⟩
  have hl := lv_entry ([.ref (q (9 + 5 * r))]) (n := 3) (Nat.le_of_ble_eq_true rfl)
  rw [lg_entry_eq]
  generalize (lg_sl ([.ref (q (9 + 5 * r))]) ++ List.replicate (3 - (lg_sl ([.ref (q (9 + 5 * r))])).length) Slot.unset).toArray = ls at hl ⊢
  have hl : lv_has ls 3 [(0, .ref (q (9 + 5 * r)))] := hl
  have hc := p1.1
  have hrl := rl_b r
  refine lv_aload_n SS.1 SS.2.1 dX7_bottom_0 rfl (lv_at hl 0 rfl) ?_
  refine j_iconst SS dX7_bottom_1 ?_
  refine j_uRi SS (As := [.int (J 0)]) (rest := []) (c_X8_y l D q u r (by omega) 0 (show -2147483648 ≤ (0 : Int) ∧ (0 : Int) ≤ 2147483647 from (by omega))) mu_7_y kw_503 hG hP hP (ci := 7) (q0 := (9 + 5 * r)) rfl (cw_ring (by omega)) rfl rfl hl.1 ⟨⟨Nat.le_of_ble_eq_true rfl, Nat.le_of_ble_eq_true rfl⟩, Nat.le_of_ble_eq_true rfl, Nat.le_refl _, Nat.le_refl _⟩ rfl dX7_bottom_2 (fun z_2 h_2 => ?_)
  have h_2 : z_2 = ry9 u r (0 : Int) ∧ ∀ K : Int, 0 ≤ K → RB K u r → -K ≤ z_2 ∧ z_2 ≤ K := h_2
  have hb_2 := h_2.2 K (by omega) (p1)
  refine lv_istore_n (lv' := [(1, .int (J z_2)), (0, .ref (q (9 + 5 * r)))]) SS.1 SS.2.1 dX7_bottom_5 rfl hl (by decide) rfl (fun ls hl => ?_)
  refine j_iconst SS dX7_bottom_6 ?_
  refine lv_istore_n (lv' := [(2, .int (J 1)), (1, .int (J z_2)), (0, .ref (q (9 + 5 * r)))]) SS.1 SS.2.1 dX7_bottom_7 rfl hl (by decide) rfl (fun ls hl => ?_)
  have L_8 : ∀ (nn : Nat) (t : Int) (i : Int) (ls : Array Slot) (hl : lv_has ls 3 [(0, .ref (q (9 + 5 * r))), (1, .int (J t)), (2, .int (J i))]) (i8_0 : 1 ≤ i ∧ (i ≤ u.1.2.2.1 r ∨ i = 1)) (i8_1 : -K ≤ t ∧ t ≤ K) (i8_2 : ∀ a : Int, 0 ≤ a → a < i → ry9 u r a ≥ t), (u.1.2.2.1 r - i).toNat < nn → W pr l en (headSpec (jw yX7_bottom cX7_bottom 3 (some .int)) (jr 1 21)).room st mi (([.ref (q (9 + 5 * r))] : List Value).toArray) below meth co st.heap [] 0 0 (MQ below (jRi (fun z => (-K ≤ z ∧ z ≤ K) ∧ (cAR u r → z ≤ 0))) (([.ref (q (9 + 5 * r))] : List Value).toArray) st 0 0 (fun _ => False)) (F0 mi 8 ls []) := by
    intro nn
    induction nn with
    | zero => intros; omega
    | succ nn ih_8 =>
      intro t i ls hl i8_0 i8_1 i8_2 hm
      refine lv_iload_n SS.1 SS.2.1 dX7_bottom_8 rfl (lv_at hl 2 rfl) ?_
      refine lv_aload_n SS.1 SS.2.1 dX7_bottom_9 rfl (lv_at hl 0 rfl) ?_
      refine j_getS SS hG hP (9 + 5 * r) (v := .int (J (u.1.2.2.1 r))) (C := RX7) (T := TX7) (N := 3) (cw_ring (by omega)) rfl inX7 2 (by decide) (ref := "GridPolygons$Ring") kw_131 kw_132 rfl dX7_bottom_10 ?_
      refine j_icmp_ge SS (tgt := 32) (x := i) (y := (u.1.2.2.1 r)) dX7_bottom_13 (by decide) (by omega) (by omega) (fun c_13 => ?_) (fun c_13 => ?_)
      · skip
        refine lv_iload_n SS.1 SS.2.1 dX7_bottom_32 rfl (lv_at hl 1 rfl) ?_
        exact W.iret SS.1 SS.2.1 hr (fun t0 ht hW => ⟨_, rfl, ⟨t, rfl, (⟨by omega, fun q => by obtain ⟨b, b1, b2, b3⟩ := q.2.2.2.2.1; have := i8_2 b b1 (by omega); omega⟩)⟩, ht⟩) (fun _ h => nomatch h) dX7_bottom_33 hlk
      · skip
        refine lv_iload_n SS.1 SS.2.1 dX7_bottom_16 rfl (lv_at hl 1 rfl) ?_
        refine lv_aload_n SS.1 SS.2.1 dX7_bottom_17 rfl (lv_at hl 0 rfl) ?_
        refine lv_iload_n SS.1 SS.2.1 dX7_bottom_18 rfl (lv_at hl 2 rfl) ?_
        refine j_uRi SS (As := [.int (J i)]) (rest := [.int (J t)]) (c_X8_y l D q u r (by omega) i (show -2147483648 ≤ i ∧ i ≤ 2147483647 from (by omega))) mu_7_y kw_503 hG hP hP (ci := 7) (q0 := (9 + 5 * r)) rfl (cw_ring (by omega)) rfl rfl hl.1 ⟨⟨Nat.le_of_ble_eq_true rfl, Nat.le_of_ble_eq_true rfl⟩, Nat.le_of_ble_eq_true rfl, Nat.le_refl _, Nat.le_refl _⟩ rfl dX7_bottom_19 (fun z_19 h_19 => ?_)
        have h_19 : z_19 = ry9 u r i ∧ ∀ K : Int, 0 ≤ K → RB K u r → -K ≤ z_19 ∧ z_19 ≤ K := h_19
        have hb_19 := h_19.2 K (by omega) (p1)
        refine j_sRi SS (As := [.int (J t), .int (J z_19)]) (rest := []) (c_J9_min_7cf53 l D  t z_19 (show -2147483648 ≤ t ∧ t ≤ 2147483647 from (by omega)) (show -2147483648 ≤ z_19 ∧ z_19 ≤ 2147483647 from (by omega))) mf_J9_min_7cf53 kw_602 hG trivial rfl hl.1 ⟨⟨Nat.le_of_ble_eq_true rfl, Nat.le_of_ble_eq_true rfl⟩, Nat.le_of_ble_eq_true rfl, Nat.le_refl _, Nat.le_refl _⟩ rfl dX7_bottom_22 (fun z_22 h_22 => ?_)
        have h_22 : (z_22 = t ∨ z_22 = z_19) ∧ z_22 ≤ t ∧ z_22 ≤ z_19 := h_22
        refine lv_istore_n (lv' := [(1, .int (J z_22)), (0, .ref (q (9 + 5 * r))), (2, .int (J i))]) SS.1 SS.2.1 dX7_bottom_25 rfl hl (by decide) rfl (fun ls hl => ?_)
        refine lv_iinc (v := J (i + 1)) (lv' := [(2, .int (J (i + 1))), (1, .int (J z_22)), (0, .ref (q (9 + 5 * r)))]) SS.1 SS.2.1 dX7_bottom_26 hl (k := 2) rfl (J_add _ _) (by decide) rfl (fun ls hl => ?_)
        refine lv_goto (tgt := 8) SS.1 SS.2.1 dX7_bottom_29 (by decide) ?_
        exact ih_8 z_22 (i + 1) ls (lv_sub hl [2, 1, 0] rfl) (by omega) (by omega) (fun a h1 h2 => by by_cases e : a = i; (rw [e, ← h_19.1]; omega); have := i8_2 a h1 (by omega); omega) (by omega)
  exact L_8 ((u.1.2.2.1 r - (1 : Int)).toNat + 1) z_2 1 ls (lv_sub hl [2, 1, 0] rfl) (by omega) (by omega) (fun a h1 h2 => by rw [show a = 0 by omega, ← h_2.1]; omega) (Nat.lt_succ_self _)

set_option maxHeartbeats 4000000 in
set_option maxRecDepth 100000 in
theorem c_X7_top2 (l : Launch) (D : JD) (q : Nat → Nat) (u : CS) (r : Nat) (hr : r ≤ 8) (K : Int) (p0 : 0 ≤ K ∧ K ≤ 80) (p1 : RB K u r) : Met l yX7_top (jw yX7_top cX7_top 3 (some .int)) (jr 1 21) (jP [.ref (q (9 + 5 * r))] D (fun H => va_P D.1 j_cl (cW D q u) H)) (jRi (fun z => (-K ≤ z ∧ z ≤ K) ∧ (cAR u r → 0 ≤ z))) 0 0 (fun _ => False) := by
  refine Met.ofW (cc := cX7_top) (maxL := 3) (ret := (some .int)) (by decide) rfl ?_
  intro pr en st mi args below meth co s₁ B hml hv
  obtain ⟨rfl, hG, hP⟩ := hv
  have hr := B.returns
  have hlk := B.notSynchronized
  have SS : jS pr mi co cX7_top 3 st _ RX7 := ⟨B.exec, B.bytes, hml, findClass_of_methodNamed B.named, fun w hw => atoms_spec (ws := (jw yX7_top cX7_top 3 (some .int))) B.pre w (List.mem_cons_of_mem _ hw)⟩
  have hl := lv_entry ([.ref (q (9 + 5 * r))]) (n := 3) (Nat.le_of_ble_eq_true rfl)
  rw [lg_entry_eq]
  generalize (lg_sl ([.ref (q (9 + 5 * r))]) ++ List.replicate (3 - (lg_sl ([.ref (q (9 + 5 * r))])).length) Slot.unset).toArray = ls at hl ⊢
  have hl : lv_has ls 3 [(0, .ref (q (9 + 5 * r)))] := hl
  have hc := p1.1
  have hrl := rl_b r
  refine lv_aload_n SS.1 SS.2.1 dX7_top_0 rfl (lv_at hl 0 rfl) ?_
  refine j_iconst SS dX7_top_1 ?_
  refine j_uRi SS (As := [.int (J 0)]) (rest := []) (c_X8_y l D q u r (by omega) 0 (show -2147483648 ≤ (0 : Int) ∧ (0 : Int) ≤ 2147483647 from (by omega))) mu_7_y kw_503 hG hP hP (ci := 7) (q0 := (9 + 5 * r)) rfl (cw_ring (by omega)) rfl rfl hl.1 ⟨⟨Nat.le_of_ble_eq_true rfl, Nat.le_of_ble_eq_true rfl⟩, Nat.le_of_ble_eq_true rfl, Nat.le_refl _, Nat.le_refl _⟩ rfl dX7_top_2 (fun z_2 h_2 => ?_)
  have h_2 : z_2 = ry9 u r (0 : Int) ∧ ∀ K : Int, 0 ≤ K → RB K u r → -K ≤ z_2 ∧ z_2 ≤ K := h_2
  have hb_2 := h_2.2 K (by omega) (p1)
  refine lv_istore_n (lv' := [(1, .int (J z_2)), (0, .ref (q (9 + 5 * r)))]) SS.1 SS.2.1 dX7_top_5 rfl hl (by decide) rfl (fun ls hl => ?_)
  refine j_iconst SS dX7_top_6 ?_
  refine lv_istore_n (lv' := [(2, .int (J 1)), (1, .int (J z_2)), (0, .ref (q (9 + 5 * r)))]) SS.1 SS.2.1 dX7_top_7 rfl hl (by decide) rfl (fun ls hl => ?_)
  have L_8 : ∀ (nn : Nat) (t : Int) (i : Int) (ls : Array Slot) (hl : lv_has ls 3 [(0, .ref (q (9 + 5 * r))), (1, .int (J t)), (2, .int (J i))]) (i8_0 : 1 ≤ i ∧ (i ≤ u.1.2.2.1 r ∨ i = 1)) (i8_1 : -K ≤ t ∧ t ≤ K) (i8_2 : ∀ a : Int, 0 ≤ a → a < i → ry9 u r a ≤ t), (u.1.2.2.1 r - i).toNat < nn → W pr l en (headSpec (jw yX7_top cX7_top 3 (some .int)) (jr 1 21)).room st mi (([.ref (q (9 + 5 * r))] : List Value).toArray) below meth co st.heap [] 0 0 (MQ below (jRi (fun z => (-K ≤ z ∧ z ≤ K) ∧ (cAR u r → 0 ≤ z))) (([.ref (q (9 + 5 * r))] : List Value).toArray) st 0 0 (fun _ => False)) (F0 mi 8 ls []) := by
    intro nn
    induction nn with
    | zero => intros; omega
    | succ nn ih_8 =>
      intro t i ls hl i8_0 i8_1 i8_2 hm
      refine lv_iload_n SS.1 SS.2.1 dX7_top_8 rfl (lv_at hl 2 rfl) ?_
      refine lv_aload_n SS.1 SS.2.1 dX7_top_9 rfl (lv_at hl 0 rfl) ?_
      refine j_getS SS hG hP (9 + 5 * r) (v := .int (J (u.1.2.2.1 r))) (C := RX7) (T := TX7) (N := 3) (cw_ring (by omega)) rfl inX7 2 (by decide) (ref := "GridPolygons$Ring") kw_131 kw_132 rfl dX7_top_10 ?_
      refine j_icmp_ge SS (tgt := 32) (x := i) (y := (u.1.2.2.1 r)) dX7_top_13 (by decide) (by omega) (by omega) (fun c_13 => ?_) (fun c_13 => ?_)
      · skip
        refine lv_iload_n SS.1 SS.2.1 dX7_top_32 rfl (lv_at hl 1 rfl) ?_
        exact W.iret SS.1 SS.2.1 hr (fun t0 ht hW => ⟨_, rfl, ⟨t, rfl, (⟨by omega, fun q => by obtain ⟨b, b1, b2, b3⟩ := q.2.2.2.2.2; have := i8_2 b b1 (by omega); omega⟩)⟩, ht⟩) (fun _ h => nomatch h) dX7_top_33 hlk
      · skip
        refine lv_iload_n SS.1 SS.2.1 dX7_top_16 rfl (lv_at hl 1 rfl) ?_
        refine lv_aload_n SS.1 SS.2.1 dX7_top_17 rfl (lv_at hl 0 rfl) ?_
        refine lv_iload_n SS.1 SS.2.1 dX7_top_18 rfl (lv_at hl 2 rfl) ?_
        refine j_uRi SS (As := [.int (J i)]) (rest := [.int (J t)]) (c_X8_y l D q u r (by omega) i (show -2147483648 ≤ i ∧ i ≤ 2147483647 from (by omega))) mu_7_y kw_503 hG hP hP (ci := 7) (q0 := (9 + 5 * r)) rfl (cw_ring (by omega)) rfl rfl hl.1 ⟨⟨Nat.le_of_ble_eq_true rfl, Nat.le_of_ble_eq_true rfl⟩, Nat.le_of_ble_eq_true rfl, Nat.le_refl _, Nat.le_refl _⟩ rfl dX7_top_19 (fun z_19 h_19 => ?_)
        have h_19 : z_19 = ry9 u r i ∧ ∀ K : Int, 0 ≤ K → RB K u r → -K ≤ z_19 ∧ z_19 ≤ K := h_19
        have hb_19 := h_19.2 K (by omega) (p1)
        refine j_sRi SS (As := [.int (J t), .int (J z_19)]) (rest := []) (c_J9_max_7cf53 l D  t z_19 (show -2147483648 ≤ t ∧ t ≤ 2147483647 from (by omega)) (show -2147483648 ≤ z_19 ∧ z_19 ≤ 2147483647 from (by omega))) mf_J9_max_7cf53 kw_593 hG trivial rfl hl.1 ⟨⟨Nat.le_of_ble_eq_true rfl, Nat.le_of_ble_eq_true rfl⟩, Nat.le_of_ble_eq_true rfl, Nat.le_refl _, Nat.le_refl _⟩ rfl dX7_top_22 (fun z_22 h_22 => ?_)
        have h_22 : (z_22 = t ∨ z_22 = z_19) ∧ t ≤ z_22 ∧ z_19 ≤ z_22 := h_22
        refine lv_istore_n (lv' := [(1, .int (J z_22)), (0, .ref (q (9 + 5 * r))), (2, .int (J i))]) SS.1 SS.2.1 dX7_top_25 rfl hl (by decide) rfl (fun ls hl => ?_)
        refine lv_iinc (v := J (i + 1)) (lv' := [(2, .int (J (i + 1))), (1, .int (J z_22)), (0, .ref (q (9 + 5 * r)))]) SS.1 SS.2.1 dX7_top_26 hl (k := 2) rfl (J_add _ _) (by decide) rfl (fun ls hl => ?_)
        refine lv_goto (tgt := 8) SS.1 SS.2.1 dX7_top_29 (by decide) ?_
        exact ih_8 z_22 (i + 1) ls (lv_sub hl [2, 1, 0] rfl) (by omega) (by omega) (fun a h1 h2 => by by_cases e : a = i; (rw [e, ← h_19.1]; omega); have := i8_2 a h1 (by omega); omega) (by omega)
  exact L_8 ((u.1.2.2.1 r - (1 : Int)).toNat + 1) z_2 1 ls (lv_sub hl [2, 1, 0] rfl) (by omega) (by omega) (fun a h1 h2 => by rw [show a = 0 by omega, ← h_2.1]; omega) (Nat.lt_succ_self _)

set_option maxHeartbeats 4000000 in
set_option maxRecDepth 100000 in
theorem c_X7_lowestAt2 (l : Launch) (D : JD) (q : Nat → Nat) (u : CS) (r : Nat) (hr : r ≤ 8) (K : Int) (x : Int) (p0 : 0 ≤ K ∧ K ≤ 80) (p1 : RB K u r) (p2 : -200 ≤ x ∧ x ≤ 200) : Met l yX7_lowestAt (jw yX7_lowestAt cX7_lowestAt 5 (some .int)) (jr 2 44) (jP [.ref (q (9 + 5 * r)), .int (J x)] D (fun H => va_P D.1 j_cl (cW D q u) H)) (jRi (fun z => (-K ≤ z ∧ z ≤ 60000) ∧ (x = 0 → cAR u r → z ≤ 0))) 0 0 (fun _ => False) := by
  refine Met.ofW (cc := cX7_lowestAt) (maxL := 5) (ret := (some .int)) (by decide) rfl ?_
  intro pr en st mi args below meth co s₁ B hml hv
  obtain ⟨rfl, hG, hP⟩ := hv
  have hr := B.returns
  have hlk := B.notSynchronized
  have SS : jS pr mi co cX7_lowestAt 5 st _ RX7 := ⟨B.exec, B.bytes, hml, findClass_of_methodNamed B.named, fun w hw => atoms_spec (ws := (jw yX7_lowestAt cX7_lowestAt 5 (some .int))) B.pre w (List.mem_cons_of_mem _ hw)⟩
  have hl := lv_entry ([.ref (q (9 + 5 * r)), .int (J x)]) (n := 5) (Nat.le_of_ble_eq_true rfl)
  rw [lg_entry_eq]
  generalize (lg_sl ([.ref (q (9 + 5 * r)), .int (J x)]) ++ List.replicate (5 - (lg_sl ([.ref (q (9 + 5 * r)), .int (J x)])).length) Slot.unset).toArray = ls at hl ⊢
  have hl : lv_has ls 5 [(0, .ref (q (9 + 5 * r))), (1, .int (J x))] := hl
  have hc := p1.1
  have hrl := rl_b r
  refine lv_aload_n SS.1 SS.2.1 dX7_lowestAt_0 rfl (lv_at hl 0 rfl) ?_
  refine j_vRi SS (As := []) (rest := []) (c_X7_bottom2 l D q u r (by omega) K  (show 0 ≤ K ∧ K ≤ 80 from (p0)) (show RB K u r from (p1))) mf_X7_bottom kw_598 hG hP hP (ci := 7) (q0 := (9 + 5 * r)) rfl (cw_ring (by omega)) rfl rfl hl.1 ⟨⟨Nat.le_of_ble_eq_true rfl, Nat.le_of_ble_eq_true rfl⟩, Nat.le_of_ble_eq_true rfl, Nat.le_refl _, Nat.le_refl _⟩ rfl dX7_lowestAt_1 (fun z_1 h_1 => ?_)
  have h_1 : (-K ≤ z_1 ∧ z_1 ≤ K) ∧ (cAR u r → z_1 ≤ 0) := h_1
  refine lv_istore_n (lv' := [(2, .int (J z_1)), (0, .ref (q (9 + 5 * r))), (1, .int (J x))]) SS.1 SS.2.1 dX7_lowestAt_4 rfl hl (by decide) rfl (fun ls hl => ?_)
  refine j_iconst SS dX7_lowestAt_5 ?_
  refine lv_istore_n (lv' := [(3, .int (J 0)), (2, .int (J z_1)), (0, .ref (q (9 + 5 * r))), (1, .int (J x))]) SS.1 SS.2.1 dX7_lowestAt_6 rfl hl (by decide) rfl (fun ls hl => ?_)
  have L_7 : ∀ (nn : Nat) (t : Int) (i : Int) (ls : Array Slot) (hl : lv_has ls 5 [(0, .ref (q (9 + 5 * r))), (1, .int (J x)), (2, .int (J t)), (3, .int (J i))]) (i7_0 : 0 ≤ i ∧ i ≤ u.1.2.2.1 r) (i7_1 : -K ≤ t ∧ t ≤ 60000) (i7_2 : x = 0 → cAR u r → t ≤ 0), (u.1.2.2.1 r - i).toNat < nn → W pr l en (headSpec (jw yX7_lowestAt cX7_lowestAt 5 (some .int)) (jr 2 44)).room st mi (([.ref (q (9 + 5 * r)), .int (J x)] : List Value).toArray) below meth co st.heap [] 0 0 (MQ below (jRi (fun z => (-K ≤ z ∧ z ≤ 60000) ∧ (x = 0 → cAR u r → z ≤ 0))) (([.ref (q (9 + 5 * r)), .int (J x)] : List Value).toArray) st 0 0 (fun _ => False)) (F0 mi 7 ls []) := by
    intro nn
    induction nn with
    | zero => intros; omega
    | succ nn ih_7 =>
      intro t i ls hl i7_0 i7_1 i7_2 hm
      refine lv_iload_n SS.1 SS.2.1 dX7_lowestAt_7 rfl (lv_at hl 3 rfl) ?_
      refine lv_aload_n SS.1 SS.2.1 dX7_lowestAt_8 rfl (lv_at hl 0 rfl) ?_
      refine j_getS SS hG hP (9 + 5 * r) (v := .int (J (u.1.2.2.1 r))) (C := RX7) (T := TX7) (N := 3) (cw_ring (by omega)) rfl inX7 2 (by decide) (ref := "GridPolygons$Ring") kw_131 kw_132 rfl dX7_lowestAt_9 ?_
      refine j_icmp_ge SS (tgt := 62) (x := i) (y := (u.1.2.2.1 r)) dX7_lowestAt_12 (by decide) (by omega) (by omega) (fun c_12 => ?_) (fun c_12 => ?_)
      · skip
        refine lv_iload_n SS.1 SS.2.1 dX7_lowestAt_62 rfl (lv_at hl 2 rfl) ?_
        exact W.iret SS.1 SS.2.1 hr (fun t0 ht hW => ⟨_, rfl, ⟨t, rfl, (⟨i7_1, i7_2⟩)⟩, ht⟩) (fun _ h => nomatch h) dX7_lowestAt_63 hlk
      · skip
        refine lv_aload_n SS.1 SS.2.1 dX7_lowestAt_15 rfl (lv_at hl 0 rfl) ?_
        refine lv_iload_n SS.1 SS.2.1 dX7_lowestAt_16 rfl (lv_at hl 3 rfl) ?_
        refine j_vRi SS (As := [.int (J i)]) (rest := []) (c_X7_sideX l D q u r (by omega) K i (show 0 ≤ K ∧ K ≤ 80 from (p0)) (show RB K u r from (p1)) (show -1000 ≤ i ∧ i ≤ 1000 from (by omega))) mf_X7_sideX kw_529 hG hP hP (ci := 7) (q0 := (9 + 5 * r)) rfl (cw_ring (by omega)) rfl rfl hl.1 ⟨⟨Nat.le_of_ble_eq_true rfl, Nat.le_of_ble_eq_true rfl⟩, Nat.le_of_ble_eq_true rfl, Nat.le_refl _, Nat.le_refl _⟩ rfl dX7_lowestAt_17 (fun z_17 h_17 => ?_)
        have h_17 : z_17 = dX u r i ∧ -2 * K ≤ z_17 ∧ z_17 ≤ 2 * K := h_17
        refine lv_istore (lv' := [(4, .int (J z_17)), (0, .ref (q (9 + 5 * r))), (1, .int (J x)), (2, .int (J t)), (3, .int (J i))]) SS.1 SS.2.1 dX7_lowestAt_20 hl (by decide) rfl (fun ls hl => ?_)
        refine lv_iload SS.1 SS.2.1 dX7_lowestAt_22 (lv_at hl 0 rfl) ?_
        refine j_if_le SS (tgt := 56) (x := z_17) dX7_lowestAt_24 (by decide) (by omega) (fun c_24 => ?_) (fun c_24 => ?_)
        · skip
          refine lv_iinc (v := J (i + 1)) (lv' := [(3, .int (J (i + 1))), (4, .int (J z_17)), (0, .ref (q (9 + 5 * r))), (1, .int (J x)), (2, .int (J t))]) SS.1 SS.2.1 dX7_lowestAt_56 hl (k := 4) rfl (J_add _ _) (by decide) rfl (fun ls hl => ?_)
          refine lv_goto (tgt := 7) SS.1 SS.2.1 dX7_lowestAt_59 (by decide) ?_
          exact ih_7 t (i + 1) ls (lv_sub hl [2, 3, 4, 0] rfl) (by omega) (by omega) (fun e q => by have w := i7_2 e q; first | exact w | (have v := q.2.1 i i7_0.1 (by omega); rw [← h_42.1, ← h_35.1, ← h_17.1, ← h_30.1] at v; have v2 := low_0 (by omega) v; rw [← e, ← h_48] at v2; omega)) (by omega)
        · skip
          refine lv_iload_n SS.1 SS.2.1 dX7_lowestAt_27 rfl (lv_at hl 3 rfl) ?_
          refine lv_aload_n SS.1 SS.2.1 dX7_lowestAt_28 rfl (lv_at hl 1 rfl) ?_
          refine lv_iload_n SS.1 SS.2.1 dX7_lowestAt_29 rfl (lv_at hl 4 rfl) ?_
          refine j_uRi SS (As := [.int (J i)]) (rest := [.int (J t)]) (c_X8_y l D q u r (by omega) i (show -2147483648 ≤ i ∧ i ≤ 2147483647 from (by omega))) mu_7_y kw_503 hG hP hP (ci := 7) (q0 := (9 + 5 * r)) rfl (cw_ring (by omega)) rfl rfl hl.1 ⟨⟨Nat.le_of_ble_eq_true rfl, Nat.le_of_ble_eq_true rfl⟩, Nat.le_of_ble_eq_true rfl, Nat.le_refl _, Nat.le_refl _⟩ rfl dX7_lowestAt_30 (fun z_30 h_30 => ?_)
          have h_30 : z_30 = ry9 u r i ∧ ∀ K : Int, 0 ≤ K → RB K u r → -K ≤ z_30 ∧ z_30 ≤ K := h_30
          have hb_30 := h_30.2 K (by omega) (p1)
          refine lv_aload_n SS.1 SS.2.1 dX7_lowestAt_33 rfl (lv_at hl 1 rfl) ?_
          refine lv_iload_n SS.1 SS.2.1 dX7_lowestAt_34 rfl (lv_at hl 4 rfl) ?_
          refine j_uRi SS (As := [.int (J i)]) (rest := [.int (J z_30), .int (J t)]) (c_X8_x l D q u r (by omega) i (show -2147483648 ≤ i ∧ i ≤ 2147483647 from (by omega))) mu_7_x kw_501 hG hP hP (ci := 7) (q0 := (9 + 5 * r)) rfl (cw_ring (by omega)) rfl rfl hl.1 ⟨⟨Nat.le_of_ble_eq_true rfl, Nat.le_of_ble_eq_true rfl⟩, Nat.le_of_ble_eq_true rfl, Nat.le_refl _, Nat.le_refl _⟩ rfl dX7_lowestAt_35 (fun z_35 h_35 => ?_)
          have h_35 : z_35 = rx u r i ∧ ∀ K : Int, 0 ≤ K → RB K u r → -K ≤ z_35 ∧ z_35 ≤ K := h_35
          have hb_35 := h_35.2 K (by omega) (p1)
          refine lv_iload_n SS.1 SS.2.1 dX7_lowestAt_38 rfl (lv_at hl 2 rfl) ?_
          refine j_isub SS (x := z_35) (y := x) dX7_lowestAt_39 ?_
          refine lv_aload_n SS.1 SS.2.1 dX7_lowestAt_40 rfl (lv_at hl 1 rfl) ?_
          refine lv_iload_n SS.1 SS.2.1 dX7_lowestAt_41 rfl (lv_at hl 4 rfl) ?_
          refine j_vRi SS (As := [.int (J i)]) (rest := [.int (J (z_35 - x)), .int (J z_30), .int (J t)]) (c_X7_sideY l D q u r (by omega) K i (show 0 ≤ K ∧ K ≤ 80 from (p0)) (show RB K u r from (p1)) (show -1000 ≤ i ∧ i ≤ 1000 from (by omega))) mf_X7_sideY kw_521 hG hP hP (ci := 7) (q0 := (9 + 5 * r)) rfl (cw_ring (by omega)) rfl rfl hl.1 ⟨⟨Nat.le_of_ble_eq_true rfl, Nat.le_of_ble_eq_true rfl⟩, Nat.le_of_ble_eq_true rfl, Nat.le_refl _, Nat.le_refl _⟩ rfl dX7_lowestAt_42 (fun z_42 h_42 => ?_)
          have h_42 : z_42 = dY u r i ∧ -2 * K ≤ z_42 ∧ z_42 ≤ 2 * K := h_42
          refine j_imul SS (x := (z_35 - x)) (y := z_42) dX7_lowestAt_45 ?_
          have m0 := mulb (A := 280) (B := 160) (a := z_35 - x) (b := z_42) (by omega) (by omega)
          refine lv_iload SS.1 SS.2.1 dX7_lowestAt_46 (lv_at hl 0 rfl) ?_
          refine j_sRi SS (As := [.int (J ((z_35 - x) * z_42)), .int (J z_17)]) (rest := [.int (J z_30), .int (J t)]) (c_J9_floorDiv_7cf53 l D  ((z_35 - x) * z_42) z_17 (show -2147483648 < ((z_35 - x) * z_42) ∧ ((z_35 - x) * z_42) ≤ 2147483647 from (by omega)) (show 0 < z_17 ∧ z_17 ≤ 2147483647 from (by omega))) mf_J9_floorDiv_7cf53 kw_603 hG trivial rfl hl.1 ⟨⟨Nat.le_of_ble_eq_true rfl, Nat.le_of_ble_eq_true rfl⟩, Nat.le_of_ble_eq_true rfl, Nat.le_refl _, Nat.le_refl _⟩ rfl dX7_lowestAt_48 (fun z_48 h_48 => ?_)
          have h_48 : z_48 = ((z_35 - x) * z_42) / z_17 := h_48
          have m1 := mulb (A := 280) (B := 160) (a := z_35 - x) (b := z_42) (by omega) (by omega)
          have fb := fd_b (a := (z_35 - x) * z_42) (b := z_17) (K := 44800) (by omega) (by omega)
          rw [← h_48] at fb
          refine j_isub SS (x := z_30) (y := z_48) dX7_lowestAt_51 ?_
          refine j_sRi SS (As := [.int (J t), .int (J (z_30 - z_48))]) (rest := []) (c_J9_max_7cf53 l D  t (z_30 - z_48) (show -2147483648 ≤ t ∧ t ≤ 2147483647 from (by omega)) (show -2147483648 ≤ (z_30 - z_48) ∧ (z_30 - z_48) ≤ 2147483647 from (by omega))) mf_J9_max_7cf53 kw_593 hG trivial rfl hl.1 ⟨⟨Nat.le_of_ble_eq_true rfl, Nat.le_of_ble_eq_true rfl⟩, Nat.le_of_ble_eq_true rfl, Nat.le_refl _, Nat.le_refl _⟩ rfl dX7_lowestAt_52 (fun z_52 h_52 => ?_)
          have h_52 : (z_52 = t ∨ z_52 = (z_30 - z_48)) ∧ t ≤ z_52 ∧ (z_30 - z_48) ≤ z_52 := h_52
          refine lv_istore_n (lv' := [(2, .int (J z_52)), (4, .int (J z_17)), (0, .ref (q (9 + 5 * r))), (1, .int (J x)), (3, .int (J i))]) SS.1 SS.2.1 dX7_lowestAt_55 rfl hl (by decide) rfl (fun ls hl => ?_)
          refine lv_iinc (v := J (i + 1)) (lv' := [(3, .int (J (i + 1))), (2, .int (J z_52)), (4, .int (J z_17)), (0, .ref (q (9 + 5 * r))), (1, .int (J x))]) SS.1 SS.2.1 dX7_lowestAt_56 hl (k := 4) rfl (J_add _ _) (by decide) rfl (fun ls hl => ?_)
          refine lv_goto (tgt := 7) SS.1 SS.2.1 dX7_lowestAt_59 (by decide) ?_
          exact ih_7 z_52 (i + 1) ls (lv_sub hl [3, 4, 1, 0] rfl) (by omega) (by omega) (fun e q => by have w := i7_2 e q; first | exact w | (have v := q.2.1 i i7_0.1 (by omega); rw [← h_42.1, ← h_35.1, ← h_17.1, ← h_30.1] at v; have v2 := low_0 (by omega) v; rw [← e, ← h_48] at v2; omega)) (by omega)
  exact L_7 ((u.1.2.2.1 r - (0 : Int)).toNat + 1) z_1 0 ls (lv_sub hl [2, 3, 1, 0] rfl) (by omega) (by omega) (fun _ q => h_1.2 q) (Nat.lt_succ_self _)

set_option maxHeartbeats 4000000 in
set_option maxRecDepth 100000 in
theorem c_X7_highestAt2 (l : Launch) (D : JD) (q : Nat → Nat) (u : CS) (r : Nat) (hr : r ≤ 8) (K : Int) (x : Int) (p0 : 0 ≤ K ∧ K ≤ 80) (p1 : RB K u r) (p2 : -200 ≤ x ∧ x ≤ 200) : Met l yX7_highestAt (jw yX7_highestAt cX7_highestAt 5 (some .int)) (jr 2 44) (jP [.ref (q (9 + 5 * r)), .int (J x)] D (fun H => va_P D.1 j_cl (cW D q u) H)) (jRi (fun z => (-60000 ≤ z ∧ z ≤ K) ∧ (x = 0 → cAR u r → 0 ≤ z))) 0 0 (fun _ => False) := by
  refine Met.ofW (cc := cX7_highestAt) (maxL := 5) (ret := (some .int)) (by decide) rfl ?_
  intro pr en st mi args below meth co s₁ B hml hv
  obtain ⟨rfl, hG, hP⟩ := hv
  have hr := B.returns
  have hlk := B.notSynchronized
  have SS : jS pr mi co cX7_highestAt 5 st _ RX7 := ⟨B.exec, B.bytes, hml, findClass_of_methodNamed B.named, fun w hw => atoms_spec (ws := (jw yX7_highestAt cX7_highestAt 5 (some .int))) B.pre w (List.mem_cons_of_mem _ hw)⟩
  have hl := lv_entry ([.ref (q (9 + 5 * r)), .int (J x)]) (n := 5) (Nat.le_of_ble_eq_true rfl)
  rw [lg_entry_eq]
  generalize (lg_sl ([.ref (q (9 + 5 * r)), .int (J x)]) ++ List.replicate (5 - (lg_sl ([.ref (q (9 + 5 * r)), .int (J x)])).length) Slot.unset).toArray = ls at hl ⊢
  have hl : lv_has ls 5 [(0, .ref (q (9 + 5 * r))), (1, .int (J x))] := hl
  have hc := p1.1
  have hrl := rl_b r
  refine lv_aload_n SS.1 SS.2.1 dX7_highestAt_0 rfl (lv_at hl 0 rfl) ?_
  refine j_vRi SS (As := []) (rest := []) (c_X7_top2 l D q u r (by omega) K  (show 0 ≤ K ∧ K ≤ 80 from (p0)) (show RB K u r from (p1))) mf_X7_top kw_610 hG hP hP (ci := 7) (q0 := (9 + 5 * r)) rfl (cw_ring (by omega)) rfl rfl hl.1 ⟨⟨Nat.le_of_ble_eq_true rfl, Nat.le_of_ble_eq_true rfl⟩, Nat.le_of_ble_eq_true rfl, Nat.le_refl _, Nat.le_refl _⟩ rfl dX7_highestAt_1 (fun z_1 h_1 => ?_)
  have h_1 : (-K ≤ z_1 ∧ z_1 ≤ K) ∧ (cAR u r → 0 ≤ z_1) := h_1
  refine lv_istore_n (lv' := [(2, .int (J z_1)), (0, .ref (q (9 + 5 * r))), (1, .int (J x))]) SS.1 SS.2.1 dX7_highestAt_4 rfl hl (by decide) rfl (fun ls hl => ?_)
  refine j_iconst SS dX7_highestAt_5 ?_
  refine lv_istore_n (lv' := [(3, .int (J 0)), (2, .int (J z_1)), (0, .ref (q (9 + 5 * r))), (1, .int (J x))]) SS.1 SS.2.1 dX7_highestAt_6 rfl hl (by decide) rfl (fun ls hl => ?_)
  have L_7 : ∀ (nn : Nat) (t : Int) (i : Int) (ls : Array Slot) (hl : lv_has ls 5 [(0, .ref (q (9 + 5 * r))), (1, .int (J x)), (2, .int (J t)), (3, .int (J i))]) (i7_0 : 0 ≤ i ∧ i ≤ u.1.2.2.1 r) (i7_1 : -60000 ≤ t ∧ t ≤ K) (i7_2 : x = 0 → cAR u r → 0 ≤ t), (u.1.2.2.1 r - i).toNat < nn → W pr l en (headSpec (jw yX7_highestAt cX7_highestAt 5 (some .int)) (jr 2 44)).room st mi (([.ref (q (9 + 5 * r)), .int (J x)] : List Value).toArray) below meth co st.heap [] 0 0 (MQ below (jRi (fun z => (-60000 ≤ z ∧ z ≤ K) ∧ (x = 0 → cAR u r → 0 ≤ z))) (([.ref (q (9 + 5 * r)), .int (J x)] : List Value).toArray) st 0 0 (fun _ => False)) (F0 mi 7 ls []) := by
    intro nn
    induction nn with
    | zero => intros; omega
    | succ nn ih_7 =>
      intro t i ls hl i7_0 i7_1 i7_2 hm
      refine lv_iload_n SS.1 SS.2.1 dX7_highestAt_7 rfl (lv_at hl 3 rfl) ?_
      refine lv_aload_n SS.1 SS.2.1 dX7_highestAt_8 rfl (lv_at hl 0 rfl) ?_
      refine j_getS SS hG hP (9 + 5 * r) (v := .int (J (u.1.2.2.1 r))) (C := RX7) (T := TX7) (N := 3) (cw_ring (by omega)) rfl inX7 2 (by decide) (ref := "GridPolygons$Ring") kw_131 kw_132 rfl dX7_highestAt_9 ?_
      refine j_icmp_ge SS (tgt := 63) (x := i) (y := (u.1.2.2.1 r)) dX7_highestAt_12 (by decide) (by omega) (by omega) (fun c_12 => ?_) (fun c_12 => ?_)
      · skip
        refine lv_iload_n SS.1 SS.2.1 dX7_highestAt_63 rfl (lv_at hl 2 rfl) ?_
        exact W.iret SS.1 SS.2.1 hr (fun t0 ht hW => ⟨_, rfl, ⟨t, rfl, (⟨i7_1, i7_2⟩)⟩, ht⟩) (fun _ h => nomatch h) dX7_highestAt_64 hlk
      · skip
        refine lv_aload_n SS.1 SS.2.1 dX7_highestAt_15 rfl (lv_at hl 0 rfl) ?_
        refine lv_iload_n SS.1 SS.2.1 dX7_highestAt_16 rfl (lv_at hl 3 rfl) ?_
        refine j_vRi SS (As := [.int (J i)]) (rest := []) (c_X7_sideX l D q u r (by omega) K i (show 0 ≤ K ∧ K ≤ 80 from (p0)) (show RB K u r from (p1)) (show -1000 ≤ i ∧ i ≤ 1000 from (by omega))) mf_X7_sideX kw_529 hG hP hP (ci := 7) (q0 := (9 + 5 * r)) rfl (cw_ring (by omega)) rfl rfl hl.1 ⟨⟨Nat.le_of_ble_eq_true rfl, Nat.le_of_ble_eq_true rfl⟩, Nat.le_of_ble_eq_true rfl, Nat.le_refl _, Nat.le_refl _⟩ rfl dX7_highestAt_17 (fun z_17 h_17 => ?_)
        have h_17 : z_17 = dX u r i ∧ -2 * K ≤ z_17 ∧ z_17 ≤ 2 * K := h_17
        refine j_ineg SS dX7_highestAt_20 ?_
        refine lv_istore (lv' := [(4, .int (J (-z_17))), (0, .ref (q (9 + 5 * r))), (1, .int (J x)), (2, .int (J t)), (3, .int (J i))]) SS.1 SS.2.1 dX7_highestAt_21 hl (by decide) rfl (fun ls hl => ?_)
        refine lv_iload SS.1 SS.2.1 dX7_highestAt_23 (lv_at hl 0 rfl) ?_
        refine j_if_le SS (tgt := 57) (x := (-z_17)) dX7_highestAt_25 (by decide) (by omega) (fun c_25 => ?_) (fun c_25 => ?_)
        · skip
          refine lv_iinc (v := J (i + 1)) (lv' := [(3, .int (J (i + 1))), (4, .int (J (-z_17))), (0, .ref (q (9 + 5 * r))), (1, .int (J x)), (2, .int (J t))]) SS.1 SS.2.1 dX7_highestAt_57 hl (k := 4) rfl (J_add _ _) (by decide) rfl (fun ls hl => ?_)
          refine lv_goto (tgt := 7) SS.1 SS.2.1 dX7_highestAt_60 (by decide) ?_
          exact ih_7 t (i + 1) ls (lv_sub hl [2, 3, 4, 0] rfl) (by omega) (by omega) (fun e q => by have w := i7_2 e q; first | exact w | (have v := q.2.1 i i7_0.1 (by omega); rw [← h_43.1, ← h_36.1, ← h_17.1, ← h_31.1] at v; have v2 := high_0 (by omega) v; rw [← e, ← h_49] at v2; omega)) (by omega)
        · skip
          refine lv_iload_n SS.1 SS.2.1 dX7_highestAt_28 rfl (lv_at hl 3 rfl) ?_
          refine lv_aload_n SS.1 SS.2.1 dX7_highestAt_29 rfl (lv_at hl 1 rfl) ?_
          refine lv_iload_n SS.1 SS.2.1 dX7_highestAt_30 rfl (lv_at hl 4 rfl) ?_
          refine j_uRi SS (As := [.int (J i)]) (rest := [.int (J t)]) (c_X8_y l D q u r (by omega) i (show -2147483648 ≤ i ∧ i ≤ 2147483647 from (by omega))) mu_7_y kw_503 hG hP hP (ci := 7) (q0 := (9 + 5 * r)) rfl (cw_ring (by omega)) rfl rfl hl.1 ⟨⟨Nat.le_of_ble_eq_true rfl, Nat.le_of_ble_eq_true rfl⟩, Nat.le_of_ble_eq_true rfl, Nat.le_refl _, Nat.le_refl _⟩ rfl dX7_highestAt_31 (fun z_31 h_31 => ?_)
          have h_31 : z_31 = ry9 u r i ∧ ∀ K : Int, 0 ≤ K → RB K u r → -K ≤ z_31 ∧ z_31 ≤ K := h_31
          have hb_31 := h_31.2 K (by omega) (p1)
          refine lv_aload_n SS.1 SS.2.1 dX7_highestAt_34 rfl (lv_at hl 1 rfl) ?_
          refine lv_iload_n SS.1 SS.2.1 dX7_highestAt_35 rfl (lv_at hl 4 rfl) ?_
          refine j_uRi SS (As := [.int (J i)]) (rest := [.int (J z_31), .int (J t)]) (c_X8_x l D q u r (by omega) i (show -2147483648 ≤ i ∧ i ≤ 2147483647 from (by omega))) mu_7_x kw_501 hG hP hP (ci := 7) (q0 := (9 + 5 * r)) rfl (cw_ring (by omega)) rfl rfl hl.1 ⟨⟨Nat.le_of_ble_eq_true rfl, Nat.le_of_ble_eq_true rfl⟩, Nat.le_of_ble_eq_true rfl, Nat.le_refl _, Nat.le_refl _⟩ rfl dX7_highestAt_36 (fun z_36 h_36 => ?_)
          have h_36 : z_36 = rx u r i ∧ ∀ K : Int, 0 ≤ K → RB K u r → -K ≤ z_36 ∧ z_36 ≤ K := h_36
          have hb_36 := h_36.2 K (by omega) (p1)
          refine lv_iload_n SS.1 SS.2.1 dX7_highestAt_39 rfl (lv_at hl 2 rfl) ?_
          refine j_isub SS (x := z_36) (y := x) dX7_highestAt_40 ?_
          refine lv_aload_n SS.1 SS.2.1 dX7_highestAt_41 rfl (lv_at hl 1 rfl) ?_
          refine lv_iload_n SS.1 SS.2.1 dX7_highestAt_42 rfl (lv_at hl 4 rfl) ?_
          refine j_vRi SS (As := [.int (J i)]) (rest := [.int (J (z_36 - x)), .int (J z_31), .int (J t)]) (c_X7_sideY l D q u r (by omega) K i (show 0 ≤ K ∧ K ≤ 80 from (p0)) (show RB K u r from (p1)) (show -1000 ≤ i ∧ i ≤ 1000 from (by omega))) mf_X7_sideY kw_521 hG hP hP (ci := 7) (q0 := (9 + 5 * r)) rfl (cw_ring (by omega)) rfl rfl hl.1 ⟨⟨Nat.le_of_ble_eq_true rfl, Nat.le_of_ble_eq_true rfl⟩, Nat.le_of_ble_eq_true rfl, Nat.le_refl _, Nat.le_refl _⟩ rfl dX7_highestAt_43 (fun z_43 h_43 => ?_)
          have h_43 : z_43 = dY u r i ∧ -2 * K ≤ z_43 ∧ z_43 ≤ 2 * K := h_43
          refine j_imul SS (x := (z_36 - x)) (y := z_43) dX7_highestAt_46 ?_
          have m0 := mulb (A := 280) (B := 160) (a := z_36 - x) (b := z_43) (by omega) (by omega)
          refine lv_iload SS.1 SS.2.1 dX7_highestAt_47 (lv_at hl 0 rfl) ?_
          refine j_sRi SS (As := [.int (J ((z_36 - x) * z_43)), .int (J (-z_17))]) (rest := [.int (J z_31), .int (J t)]) (c_J9_floorDiv_7cf53 l D  ((z_36 - x) * z_43) (-z_17) (show -2147483648 < ((z_36 - x) * z_43) ∧ ((z_36 - x) * z_43) ≤ 2147483647 from (by omega)) (show 0 < (-z_17) ∧ (-z_17) ≤ 2147483647 from (by omega))) mf_J9_floorDiv_7cf53 kw_603 hG trivial rfl hl.1 ⟨⟨Nat.le_of_ble_eq_true rfl, Nat.le_of_ble_eq_true rfl⟩, Nat.le_of_ble_eq_true rfl, Nat.le_refl _, Nat.le_refl _⟩ rfl dX7_highestAt_49 (fun z_49 h_49 => ?_)
          have h_49 : z_49 = ((z_36 - x) * z_43) / (-z_17) := h_49
          have m1 := mulb (A := 280) (B := 160) (a := z_36 - x) (b := z_43) (by omega) (by omega)
          have fb := fd_b (a := (z_36 - x) * z_43) (b := (-z_17)) (K := 44800) (by omega) (by omega)
          rw [← h_49] at fb
          refine j_iadd SS (x := z_31) (y := z_49) dX7_highestAt_52 ?_
          refine j_sRi SS (As := [.int (J t), .int (J (z_31 + z_49))]) (rest := []) (c_J9_min_7cf53 l D  t (z_31 + z_49) (show -2147483648 ≤ t ∧ t ≤ 2147483647 from (by omega)) (show -2147483648 ≤ (z_31 + z_49) ∧ (z_31 + z_49) ≤ 2147483647 from (by omega))) mf_J9_min_7cf53 kw_602 hG trivial rfl hl.1 ⟨⟨Nat.le_of_ble_eq_true rfl, Nat.le_of_ble_eq_true rfl⟩, Nat.le_of_ble_eq_true rfl, Nat.le_refl _, Nat.le_refl _⟩ rfl dX7_highestAt_53 (fun z_53 h_53 => ?_)
          have h_53 : (z_53 = t ∨ z_53 = (z_31 + z_49)) ∧ z_53 ≤ t ∧ z_53 ≤ (z_31 + z_49) := h_53
          refine lv_istore_n (lv' := [(2, .int (J z_53)), (4, .int (J (-z_17))), (0, .ref (q (9 + 5 * r))), (1, .int (J x)), (3, .int (J i))]) SS.1 SS.2.1 dX7_highestAt_56 rfl hl (by decide) rfl (fun ls hl => ?_)
          refine lv_iinc (v := J (i + 1)) (lv' := [(3, .int (J (i + 1))), (2, .int (J z_53)), (4, .int (J (-z_17))), (0, .ref (q (9 + 5 * r))), (1, .int (J x))]) SS.1 SS.2.1 dX7_highestAt_57 hl (k := 4) rfl (J_add _ _) (by decide) rfl (fun ls hl => ?_)
          refine lv_goto (tgt := 7) SS.1 SS.2.1 dX7_highestAt_60 (by decide) ?_
          exact ih_7 z_53 (i + 1) ls (lv_sub hl [3, 4, 1, 0] rfl) (by omega) (by omega) (fun e q => by have w := i7_2 e q; first | exact w | (have v := q.2.1 i i7_0.1 (by omega); rw [← h_43.1, ← h_36.1, ← h_17.1, ← h_31.1] at v; have v2 := high_0 (by omega) v; rw [← e, ← h_49] at v2; omega)) (by omega)
  exact L_7 ((u.1.2.2.1 r - (0 : Int)).toNat + 1) z_1 0 ls (lv_sub hl [2, 3, 1, 0] rfl) (by omega) (by omega) (fun _ q => h_1.2 q) (Nat.lt_succ_self _)

set_option maxHeartbeats 4000000 in
set_option maxRecDepth 100000 in
theorem c_X7_standing2 (l : Launch) (D : JD) (q : Nat → Nat) (u : CS) (r : Nat) (hr : r ≤ 8) (K : Int) (x : Int) (y : Int) (p0 : 0 ≤ K ∧ K ≤ 80) (p1 : RB K u r) (p2 : -200 ≤ x ∧ x ≤ 200) (p3 : -200 ≤ y ∧ y ≤ 200) : Met l yX7_standing (jw yX7_standing cX7_standing 4 (some .int)) (jr 3 68) (jP [.ref (q (9 + 5 * r)), .int (J x), .int (J y)] D (fun H => va_P D.1 j_cl (cW D q u) H)) (jRi (fun z => (z = 0 ∨ z = 1 ∨ z = 2) ∧ (x = 0 → y = 0 → cAR u r → z = 2))) 0 0 (fun _ => False) := by
  refine Met.ofW (cc := cX7_standing) (maxL := 4) (ret := (some .int)) (by decide) rfl ?_
  intro pr en st mi args below meth co s₁ B hml hv
  obtain ⟨rfl, hG, hP⟩ := hv
  have hr := B.returns
  have hlk := B.notSynchronized
  have SS : jS pr mi co cX7_standing 4 st _ RX7 := ⟨B.exec, B.bytes, hml, findClass_of_methodNamed B.named, fun w hw => atoms_spec (ws := (jw yX7_standing cX7_standing 4 (some .int))) B.pre w (List.mem_cons_of_mem _ hw)⟩
  have hl := lv_entry ([.ref (q (9 + 5 * r)), .int (J x), .int (J y)]) (n := 4) (Nat.le_of_ble_eq_true rfl)
  rw [lg_entry_eq]
  generalize (lg_sl ([.ref (q (9 + 5 * r)), .int (J x), .int (J y)]) ++ List.replicate (4 - (lg_sl ([.ref (q (9 + 5 * r)), .int (J x), .int (J y)])).length) Slot.unset).toArray = ls at hl ⊢
  have hl : lv_has ls 4 [(0, .ref (q (9 + 5 * r))), (1, .int (J x)), (2, .int (J y))] := hl
  have hc := p1.1
  have hrl := rl_b r
  refine lv_aload_n SS.1 SS.2.1 dX7_standing_0 rfl (lv_at hl 0 rfl) ?_
  refine j_getS SS hG hP (9 + 5 * r) (v := .int (J (u.1.2.2.1 r))) (C := RX7) (T := TX7) (N := 3) (cw_ring (by omega)) rfl inX7 2 (by decide) (ref := "GridPolygons$Ring") kw_131 kw_132 rfl dX7_standing_1 ?_
  refine j_if_eq SS (tgt := 41) (x := (u.1.2.2.1 r)) dX7_standing_4 (by decide) (by omega) (fun c_4 => ?_) (fun c_4 => ?_)
  · skip
    refine j_iconst SS dX7_standing_41 ?_
    exact W.iret SS.1 SS.2.1 hr (fun t0 ht hW => ⟨_, rfl, ⟨0, rfl, (⟨Or.inl rfl, fun e1 e2 q => by exfalso; have a1 := q.1; have a3 := q.2.2.1; first | omega | (rw [← h_9.1] at a3; omega) | (have a4 := h_17.2 q; omega) | (have a4 := h_26.2 e1 q; omega) | (have a4 := h_35.2 e1 q; omega)⟩)⟩, ht⟩) (fun _ h => nomatch h) dX7_standing_42 hlk
  · skip
    refine lv_iload_n SS.1 SS.2.1 dX7_standing_7 rfl (lv_at hl 1 rfl) ?_
    refine lv_aload_n SS.1 SS.2.1 dX7_standing_8 rfl (lv_at hl 0 rfl) ?_
    refine j_vRi SS (As := []) (rest := [.int (J x)]) (c_X7_leftmost l D q u r (by omega) K  (show 0 ≤ K ∧ K ≤ 80 from (p0)) (show RB K u r from (p1))) mf_X7_leftmost kw_585 hG hP hP (ci := 7) (q0 := (9 + 5 * r)) rfl (cw_ring (by omega)) rfl rfl hl.1 ⟨⟨Nat.le_of_ble_eq_true rfl, Nat.le_of_ble_eq_true rfl⟩, Nat.le_of_ble_eq_true rfl, Nat.le_refl _, Nat.le_refl _⟩ rfl dX7_standing_9 (fun z_9 h_9 => ?_)
    have h_9 : z_9 = rx u r 0 ∧ -K ≤ z_9 ∧ z_9 ≤ K := h_9
    refine j_icmp_lt SS (tgt := 41) (x := x) (y := z_9) dX7_standing_12 (by decide) (by omega) (by omega) (fun c_12 => ?_) (fun c_12 => ?_)
    · skip
      refine j_iconst SS dX7_standing_41 ?_
      exact W.iret SS.1 SS.2.1 hr (fun t0 ht hW => ⟨_, rfl, ⟨0, rfl, (⟨Or.inl rfl, fun e1 e2 q => by exfalso; have a1 := q.1; have a3 := q.2.2.1; first | omega | (rw [← h_9.1] at a3; omega) | (have a4 := h_17.2 q; omega) | (have a4 := h_26.2 e1 q; omega) | (have a4 := h_35.2 e1 q; omega)⟩)⟩, ht⟩) (fun _ h => nomatch h) dX7_standing_42 hlk
    · skip
      refine lv_iload_n SS.1 SS.2.1 dX7_standing_15 rfl (lv_at hl 1 rfl) ?_
      refine lv_aload_n SS.1 SS.2.1 dX7_standing_16 rfl (lv_at hl 0 rfl) ?_
      refine j_vRi SS (As := []) (rest := [.int (J x)]) (c_X7_rightmost2 l D q u r (by omega) K  (show 0 ≤ K ∧ K ≤ 80 from (p0)) (show RB K u r from (p1))) mf_X7_rightmost kw_589 hG hP hP (ci := 7) (q0 := (9 + 5 * r)) rfl (cw_ring (by omega)) rfl rfl hl.1 ⟨⟨Nat.le_of_ble_eq_true rfl, Nat.le_of_ble_eq_true rfl⟩, Nat.le_of_ble_eq_true rfl, Nat.le_refl _, Nat.le_refl _⟩ rfl dX7_standing_17 (fun z_17 h_17 => ?_)
      have h_17 : (-K ≤ z_17 ∧ z_17 ≤ K) ∧ (cAR u r → 0 ≤ z_17) := h_17
      refine j_icmp_gt SS (tgt := 41) (x := x) (y := z_17) dX7_standing_20 (by decide) (by omega) (by omega) (fun c_20 => ?_) (fun c_20 => ?_)
      · skip
        refine j_iconst SS dX7_standing_41 ?_
        exact W.iret SS.1 SS.2.1 hr (fun t0 ht hW => ⟨_, rfl, ⟨0, rfl, (⟨Or.inl rfl, fun e1 e2 q => by exfalso; have a1 := q.1; have a3 := q.2.2.1; first | omega | (rw [← h_9.1] at a3; omega) | (have a4 := h_17.2 q; omega) | (have a4 := h_26.2 e1 q; omega) | (have a4 := h_35.2 e1 q; omega)⟩)⟩, ht⟩) (fun _ h => nomatch h) dX7_standing_42 hlk
      · skip
        refine lv_iload_n SS.1 SS.2.1 dX7_standing_23 rfl (lv_at hl 2 rfl) ?_
        refine lv_aload_n SS.1 SS.2.1 dX7_standing_24 rfl (lv_at hl 0 rfl) ?_
        refine lv_iload_n SS.1 SS.2.1 dX7_standing_25 rfl (lv_at hl 1 rfl) ?_
        refine j_vRi SS (As := [.int (J x)]) (rest := [.int (J y)]) (c_X7_lowestAt2 l D q u r (by omega) K x (show 0 ≤ K ∧ K ≤ 80 from (p0)) (show RB K u r from (p1)) (show -200 ≤ x ∧ x ≤ 200 from (p2))) mf_X7_lowestAt kw_594 hG hP hP (ci := 7) (q0 := (9 + 5 * r)) rfl (cw_ring (by omega)) rfl rfl hl.1 ⟨⟨Nat.le_of_ble_eq_true rfl, Nat.le_of_ble_eq_true rfl⟩, Nat.le_of_ble_eq_true rfl, Nat.le_refl _, Nat.le_refl _⟩ rfl dX7_standing_26 (fun z_26 h_26 => ?_)
        have h_26 : (-K ≤ z_26 ∧ z_26 ≤ 60000) ∧ (x = 0 → cAR u r → z_26 ≤ 0) := h_26
        refine j_icmp_lt SS (tgt := 41) (x := y) (y := z_26) dX7_standing_29 (by decide) (by omega) (by omega) (fun c_29 => ?_) (fun c_29 => ?_)
        · skip
          refine j_iconst SS dX7_standing_41 ?_
          exact W.iret SS.1 SS.2.1 hr (fun t0 ht hW => ⟨_, rfl, ⟨0, rfl, (⟨Or.inl rfl, fun e1 e2 q => by exfalso; have a1 := q.1; have a3 := q.2.2.1; first | omega | (rw [← h_9.1] at a3; omega) | (have a4 := h_17.2 q; omega) | (have a4 := h_26.2 e1 q; omega) | (have a4 := h_35.2 e1 q; omega)⟩)⟩, ht⟩) (fun _ h => nomatch h) dX7_standing_42 hlk
        · skip
          refine lv_iload_n SS.1 SS.2.1 dX7_standing_32 rfl (lv_at hl 2 rfl) ?_
          refine lv_aload_n SS.1 SS.2.1 dX7_standing_33 rfl (lv_at hl 0 rfl) ?_
          refine lv_iload_n SS.1 SS.2.1 dX7_standing_34 rfl (lv_at hl 1 rfl) ?_
          refine j_vRi SS (As := [.int (J x)]) (rest := [.int (J y)]) (c_X7_highestAt2 l D q u r (by omega) K x (show 0 ≤ K ∧ K ≤ 80 from (p0)) (show RB K u r from (p1)) (show -200 ≤ x ∧ x ≤ 200 from (p2))) mf_X7_highestAt kw_606 hG hP hP (ci := 7) (q0 := (9 + 5 * r)) rfl (cw_ring (by omega)) rfl rfl hl.1 ⟨⟨Nat.le_of_ble_eq_true rfl, Nat.le_of_ble_eq_true rfl⟩, Nat.le_of_ble_eq_true rfl, Nat.le_refl _, Nat.le_refl _⟩ rfl dX7_standing_35 (fun z_35 h_35 => ?_)
          have h_35 : (-60000 ≤ z_35 ∧ z_35 ≤ K) ∧ (x = 0 → cAR u r → 0 ≤ z_35) := h_35
          refine j_icmp_le SS (tgt := 43) (x := y) (y := z_35) dX7_standing_38 (by decide) (by omega) (by omega) (fun c_38 => ?_) (fun c_38 => ?_)
          · skip
            refine j_iconst SS dX7_standing_43 ?_
            refine lv_istore_n (lv' := [(3, .int (J 0)), (0, .ref (q (9 + 5 * r))), (1, .int (J x)), (2, .int (J y))]) SS.1 SS.2.1 dX7_standing_44 rfl hl (by decide) rfl (fun ls hl => ?_)
            have L_45 : ∀ (nn : Nat) (i : Int) (ls : Array Slot) (hl : lv_has ls 4 [(0, .ref (q (9 + 5 * r))), (1, .int (J x)), (2, .int (J y)), (3, .int (J i))]) (i45_0 : 0 ≤ i ∧ i ≤ u.1.2.2.1 r), (u.1.2.2.1 r - i).toNat < nn → W pr l en (headSpec (jw yX7_standing cX7_standing 4 (some .int)) (jr 3 68)).room st mi (([.ref (q (9 + 5 * r)), .int (J x), .int (J y)] : List Value).toArray) below meth co st.heap [] 0 0 (MQ below (jRi (fun z => (z = 0 ∨ z = 1 ∨ z = 2) ∧ (x = 0 → y = 0 → cAR u r → z = 2))) (([.ref (q (9 + 5 * r)), .int (J x), .int (J y)] : List Value).toArray) st 0 0 (fun _ => False)) (F0 mi 45 ls []) := by
              intro nn
              induction nn with
              | zero => intros; omega
              | succ nn ih_45 =>
                intro i ls hl i45_0 hm
                refine lv_iload_n SS.1 SS.2.1 dX7_standing_45 rfl (lv_at hl 3 rfl) ?_
                refine lv_aload_n SS.1 SS.2.1 dX7_standing_46 rfl (lv_at hl 0 rfl) ?_
                refine j_getS SS hG hP (9 + 5 * r) (v := .int (J (u.1.2.2.1 r))) (C := RX7) (T := TX7) (N := 3) (cw_ring (by omega)) rfl inX7 2 (by decide) (ref := "GridPolygons$Ring") kw_131 kw_132 rfl dX7_standing_47 ?_
                refine j_icmp_ge SS (tgt := 90) (x := i) (y := (u.1.2.2.1 r)) dX7_standing_50 (by decide) (by omega) (by omega) (fun c_50 => ?_) (fun c_50 => ?_)
                · skip
                  refine j_iconst SS dX7_standing_90 ?_
                  exact W.iret SS.1 SS.2.1 hr (fun t0 ht hW => ⟨_, rfl, ⟨2, rfl, (⟨Or.inr (Or.inr rfl), fun _ _ _ => rfl⟩)⟩, ht⟩) (fun _ h => nomatch h) dX7_standing_91 hlk
                · skip
                  refine lv_aload_n SS.1 SS.2.1 dX7_standing_53 rfl (lv_at hl 0 rfl) ?_
                  refine lv_iload_n SS.1 SS.2.1 dX7_standing_54 rfl (lv_at hl 3 rfl) ?_
                  refine j_vRi SS (As := [.int (J i)]) (rest := []) (c_X7_sideX l D q u r (by omega) K i (show 0 ≤ K ∧ K ≤ 80 from (p0)) (show RB K u r from (p1)) (show -1000 ≤ i ∧ i ≤ 1000 from (by omega))) mf_X7_sideX kw_529 hG hP hP (ci := 7) (q0 := (9 + 5 * r)) rfl (cw_ring (by omega)) rfl rfl hl.1 ⟨⟨Nat.le_of_ble_eq_true rfl, Nat.le_of_ble_eq_true rfl⟩, Nat.le_of_ble_eq_true rfl, Nat.le_refl _, Nat.le_refl _⟩ rfl dX7_standing_55 (fun z_55 h_55 => ?_)
                  have h_55 : z_55 = dX u r i ∧ -2 * K ≤ z_55 ∧ z_55 ≤ 2 * K := h_55
                  refine lv_iload_n SS.1 SS.2.1 dX7_standing_58 rfl (lv_at hl 2 rfl) ?_
                  refine lv_aload_n SS.1 SS.2.1 dX7_standing_59 rfl (lv_at hl 0 rfl) ?_
                  refine lv_iload_n SS.1 SS.2.1 dX7_standing_60 rfl (lv_at hl 3 rfl) ?_
                  refine j_uRi SS (As := [.int (J i)]) (rest := [.int (J y), .int (J z_55)]) (c_X8_y l D q u r (by omega) i (show -2147483648 ≤ i ∧ i ≤ 2147483647 from (by omega))) mu_7_y kw_503 hG hP hP (ci := 7) (q0 := (9 + 5 * r)) rfl (cw_ring (by omega)) rfl rfl hl.1 ⟨⟨Nat.le_of_ble_eq_true rfl, Nat.le_of_ble_eq_true rfl⟩, Nat.le_of_ble_eq_true rfl, Nat.le_refl _, Nat.le_refl _⟩ rfl dX7_standing_61 (fun z_61 h_61 => ?_)
                  have h_61 : z_61 = ry9 u r i ∧ ∀ K : Int, 0 ≤ K → RB K u r → -K ≤ z_61 ∧ z_61 ≤ K := h_61
                  have hb_61 := h_61.2 K (by omega) (p1)
                  refine j_isub SS (x := y) (y := z_61) dX7_standing_64 ?_
                  refine j_imul SS (x := z_55) (y := (y - z_61)) dX7_standing_65 ?_
                  refine lv_aload_n SS.1 SS.2.1 dX7_standing_66 rfl (lv_at hl 0 rfl) ?_
                  refine lv_iload_n SS.1 SS.2.1 dX7_standing_67 rfl (lv_at hl 3 rfl) ?_
                  refine j_vRi SS (As := [.int (J i)]) (rest := [.int (J (z_55 * (y - z_61)))]) (c_X7_sideY l D q u r (by omega) K i (show 0 ≤ K ∧ K ≤ 80 from (p0)) (show RB K u r from (p1)) (show -1000 ≤ i ∧ i ≤ 1000 from (by omega))) mf_X7_sideY kw_521 hG hP hP (ci := 7) (q0 := (9 + 5 * r)) rfl (cw_ring (by omega)) rfl rfl hl.1 ⟨⟨Nat.le_of_ble_eq_true rfl, Nat.le_of_ble_eq_true rfl⟩, Nat.le_of_ble_eq_true rfl, Nat.le_refl _, Nat.le_refl _⟩ rfl dX7_standing_68 (fun z_68 h_68 => ?_)
                  have h_68 : z_68 = dY u r i ∧ -2 * K ≤ z_68 ∧ z_68 ≤ 2 * K := h_68
                  refine lv_iload_n SS.1 SS.2.1 dX7_standing_71 rfl (lv_at hl 1 rfl) ?_
                  refine lv_aload_n SS.1 SS.2.1 dX7_standing_72 rfl (lv_at hl 0 rfl) ?_
                  refine lv_iload_n SS.1 SS.2.1 dX7_standing_73 rfl (lv_at hl 3 rfl) ?_
                  refine j_uRi SS (As := [.int (J i)]) (rest := [.int (J x), .int (J z_68), .int (J (z_55 * (y - z_61)))]) (c_X8_x l D q u r (by omega) i (show -2147483648 ≤ i ∧ i ≤ 2147483647 from (by omega))) mu_7_x kw_501 hG hP hP (ci := 7) (q0 := (9 + 5 * r)) rfl (cw_ring (by omega)) rfl rfl hl.1 ⟨⟨Nat.le_of_ble_eq_true rfl, Nat.le_of_ble_eq_true rfl⟩, Nat.le_of_ble_eq_true rfl, Nat.le_refl _, Nat.le_refl _⟩ rfl dX7_standing_74 (fun z_74 h_74 => ?_)
                  have h_74 : z_74 = rx u r i ∧ ∀ K : Int, 0 ≤ K → RB K u r → -K ≤ z_74 ∧ z_74 ≤ K := h_74
                  have hb_74 := h_74.2 K (by omega) (p1)
                  refine j_isub SS (x := x) (y := z_74) dX7_standing_77 ?_
                  refine j_imul SS (x := z_68) (y := (x - z_74)) dX7_standing_78 ?_
                  have m1 := mulb (A := 160) (B := 280) (a := z_55) (b := y - z_61) (by omega) (by omega)
                  have m2 := mulb (A := 160) (B := 280) (a := z_68) (b := x - z_74) (by omega) (by omega)
                  refine j_icmp_ne SS (tgt := 84) (x := (z_55 * (y - z_61))) (y := (z_68 * (x - z_74))) dX7_standing_79 (by decide) (by omega) (by omega) (fun c_79 => ?_) (fun c_79 => ?_)
                  · skip
                    refine lv_iinc (v := J (i + 1)) (lv' := [(3, .int (J (i + 1))), (0, .ref (q (9 + 5 * r))), (1, .int (J x)), (2, .int (J y))]) SS.1 SS.2.1 dX7_standing_84 hl (k := 3) rfl (J_add _ _) (by decide) rfl (fun ls hl => ?_)
                    refine lv_goto (tgt := 45) SS.1 SS.2.1 dX7_standing_87 (by decide) ?_
                    exact ih_45 (i + 1) ls (lv_sub hl [1, 2, 3, 0] rfl) (by omega) (by omega)
                  · skip
                    refine j_iconst SS dX7_standing_82 ?_
                    exact W.iret SS.1 SS.2.1 hr (fun t0 ht hW => ⟨_, rfl, ⟨1, rfl, (⟨Or.inr (Or.inl rfl), fun e1 e2 q => by exfalso; have v := q.2.1 i i45_0.1 (by omega); rw [← h_55.1, ← h_68.1, ← h_61.1, ← h_74.1] at v; subst e1; subst e2; have c := c_79; rw [show z_55 * (0 - z_61) = -(z_55 * z_61) by grind, show z_68 * (0 - z_74) = -(z_68 * z_74) by grind] at c; omega⟩)⟩, ht⟩) (fun _ h => nomatch h) dX7_standing_83 hlk
            exact L_45 ((u.1.2.2.1 r - (0 : Int)).toNat + 1) 0 ls (lv_sub hl [1, 2, 3, 0] rfl) (by omega) (Nat.lt_succ_self _)
          · skip
            refine j_iconst SS dX7_standing_41 ?_
            exact W.iret SS.1 SS.2.1 hr (fun t0 ht hW => ⟨_, rfl, ⟨0, rfl, (⟨Or.inl rfl, fun e1 e2 q => by exfalso; have a1 := q.1; have a3 := q.2.2.1; first | omega | (rw [← h_9.1] at a3; omega) | (have a4 := h_17.2 q; omega) | (have a4 := h_26.2 e1 q; omega) | (have a4 := h_35.2 e1 q; omega)⟩)⟩, ht⟩) (fun _ h => nomatch h) dX7_standing_42 hlk

set_option maxHeartbeats 4000000 in
set_option maxRecDepth 100000 in
theorem c_X7_isRound2 (l : Launch) (D : JD) (q : Nat → Nat) (u : CS) (r : Nat) (hr : r ≤ 8) (K : Int) (p0 : 0 ≤ K ∧ K ≤ 80) (p1 : RB K u r) : Met l yX7_isRound (jw yX7_isRound cX7_isRound 1 (some .boolean)) (jr 4 91) (jP [.ref (q (9 + 5 * r))] D (fun H => va_P D.1 j_cl (cW D q u) H)) (jRi (fun z => ((z = 1 ∧ 3 ≤ u.1.2.2.1 r) ∨ z = 0) ∧ (cAR u r → z = 1))) 0 0 (fun _ => False) := by
  refine Met.ofW (cc := cX7_isRound) (maxL := 1) (ret := (some .boolean)) (by decide) rfl ?_
  intro pr en st mi args below meth co s₁ B hml hv
  obtain ⟨rfl, hG, hP⟩ := hv
  have hr := B.returns
  have hlk := B.notSynchronized
  have SS : jS pr mi co cX7_isRound 1 st _ RX7 := ⟨B.exec, B.bytes, hml, findClass_of_methodNamed B.named, fun w hw => atoms_spec (ws := (jw yX7_isRound cX7_isRound 1 (some .boolean))) B.pre w (List.mem_cons_of_mem _ hw)⟩
  have hl := lv_entry ([.ref (q (9 + 5 * r))]) (n := 1) (Nat.le_of_ble_eq_true rfl)
  rw [lg_entry_eq]
  generalize (lg_sl ([.ref (q (9 + 5 * r))]) ++ List.replicate (1 - (lg_sl ([.ref (q (9 + 5 * r))])).length) Slot.unset).toArray = ls at hl ⊢
  have hl : lv_has ls 1 [(0, .ref (q (9 + 5 * r)))] := hl
  have hc := p1.1
  have hrl := rl_b r
  refine lv_aload_n SS.1 SS.2.1 dX7_isRound_0 rfl (lv_at hl 0 rfl) ?_
  refine j_vRi SS (As := []) (rest := []) (c_X7_isPolygon l D q u r (by omega) K  (show 0 ≤ K ∧ K ≤ 80 from (p0)) (show RB K u r from (p1))) mf_X7_isPolygon kw_798 hG hP hP (ci := 7) (q0 := (9 + 5 * r)) rfl (cw_ring (by omega)) rfl rfl hl.1 ⟨⟨Nat.le_of_ble_eq_true rfl, Nat.le_of_ble_eq_true rfl⟩, Nat.le_of_ble_eq_true rfl, Nat.le_refl _, Nat.le_refl _⟩ rfl dX7_isRound_1 (fun z_1 h_1 => ?_)
  have h_1 : (z_1 = 1 ∧ 3 ≤ (u.1.2.2.1 r)) ∨ (z_1 = 0 ∧ (u.1.2.2.1 r) < 3) := h_1
  refine j_if_eq SS (tgt := 21) (x := z_1) dX7_isRound_4 (by decide) (by omega) (fun c_4 => ?_) (fun c_4 => ?_)
  · skip
    refine j_iconst SS dX7_isRound_21 ?_
    exact W.zret SS.1 SS.2.1 hr (j_nz (by decide)) (fun t0 ht hW => ⟨_, rfl, ⟨0, rfl, (by first | exact ⟨Or.inl ⟨rfl, by omega⟩, fun _ => rfl⟩ | exact ⟨Or.inr rfl, fun q => by have := q.1; omega⟩ | exact ⟨Or.inr rfl, fun q => by have := h_10.2 rfl rfl q; omega⟩)⟩, ht⟩) (fun _ h => nomatch h) dX7_isRound_22 hlk
  · skip
    refine lv_aload_n SS.1 SS.2.1 dX7_isRound_7 rfl (lv_at hl 0 rfl) ?_
    refine j_iconst SS dX7_isRound_8 ?_
    refine j_iconst SS dX7_isRound_9 ?_
    refine j_vRi SS (As := [.int (J 0), .int (J 0)]) (rest := []) (c_X7_standing2 l D q u r (by omega) K 0 0 (show 0 ≤ K ∧ K ≤ 80 from (p0)) (show RB K u r from (p1)) (show -200 ≤ (0 : Int) ∧ (0 : Int) ≤ 200 from (by omega)) (show -200 ≤ (0 : Int) ∧ (0 : Int) ≤ 200 from (by omega))) mf_X7_standing kw_799 hG hP hP (ci := 7) (q0 := (9 + 5 * r)) rfl (cw_ring (by omega)) rfl rfl hl.1 ⟨⟨Nat.le_of_ble_eq_true rfl, Nat.le_of_ble_eq_true rfl⟩, Nat.le_of_ble_eq_true rfl, Nat.le_refl _, Nat.le_refl _⟩ rfl dX7_isRound_10 (fun z_10 h_10 => ?_)
    have h_10 : (z_10 = 0 ∨ z_10 = 1 ∨ z_10 = 2) ∧ ((0 : Int) = 0 → (0 : Int) = 0 → cAR u r → z_10 = 2) := h_10
    refine j_iconst SS dX7_isRound_13 ?_
    refine j_icmp_ne SS (tgt := 21) (x := z_10) (y := 2) dX7_isRound_14 (by decide) (by omega) (by decide) (fun c_14 => ?_) (fun c_14 => ?_)
    · skip
      refine j_iconst SS dX7_isRound_21 ?_
      exact W.zret SS.1 SS.2.1 hr (j_nz (by decide)) (fun t0 ht hW => ⟨_, rfl, ⟨0, rfl, (by first | exact ⟨Or.inl ⟨rfl, by omega⟩, fun _ => rfl⟩ | exact ⟨Or.inr rfl, fun q => by have := q.1; omega⟩ | exact ⟨Or.inr rfl, fun q => by have := h_10.2 rfl rfl q; omega⟩)⟩, ht⟩) (fun _ h => nomatch h) dX7_isRound_22 hlk
    · skip
      refine j_iconst SS dX7_isRound_17 ?_
      refine lv_goto (tgt := 22) SS.1 SS.2.1 dX7_isRound_18 (by decide) ?_
      exact W.zret SS.1 SS.2.1 hr (j_nz (by decide)) (fun t0 ht hW => ⟨_, rfl, ⟨1, rfl, (by first | exact ⟨Or.inl ⟨rfl, by omega⟩, fun _ => rfl⟩ | exact ⟨Or.inr rfl, fun q => by have := q.1; omega⟩ | exact ⟨Or.inr rfl, fun q => by have := h_10.2 rfl rfl q; omega⟩)⟩, ht⟩) (fun _ h => nomatch h) dX7_isRound_22 hlk

set_option maxHeartbeats 4000000 in
set_option maxRecDepth 100000 in
theorem c_X7_normalA2 (l : Launch) (D : JD) (q : Nat → Nat) (u : CS) (r : Nat) (hr : r ≤ 8) (K : Int) (i : Int) (p0 : 0 ≤ K ∧ K ≤ 80) (p1 : RB K u r) (p2 : -1000 ≤ i ∧ i ≤ 1000) : Met l yX7_normalA (jw yX7_normalA cX7_normalA 3 (some .int)) (jr 3 66) (jP [.ref (q (9 + 5 * r)), .int (J i)] D (fun H => va_P D.1 j_cl (cW D q u) H)) (jRi (fun z => z = dNX u r i ∧ -2 * K ≤ z ∧ z ≤ 2 * K)) 0 0 (fun _ => False) := by
  refine Met.ofW (cc := cX7_normalA) (maxL := 3) (ret := (some .int)) (by decide) rfl ?_
  intro pr en st mi args below meth co s₁ B hml hv
  obtain ⟨rfl, hG, hP⟩ := hv
  have hr := B.returns
  have hlk := B.notSynchronized
  have SS : jS pr mi co cX7_normalA 3 st _ RX7 := ⟨B.exec, B.bytes, hml, findClass_of_methodNamed B.named, fun w hw => atoms_spec (ws := (jw yX7_normalA cX7_normalA 3 (some .int))) B.pre w (List.mem_cons_of_mem _ hw)⟩
  have hl := lv_entry ([.ref (q (9 + 5 * r)), .int (J i)]) (n := 3) (Nat.le_of_ble_eq_true rfl)
  rw [lg_entry_eq]
  generalize (lg_sl ([.ref (q (9 + 5 * r)), .int (J i)]) ++ List.replicate (3 - (lg_sl ([.ref (q (9 + 5 * r)), .int (J i)])).length) Slot.unset).toArray = ls at hl ⊢
  have hl : lv_has ls 3 [(0, .ref (q (9 + 5 * r))), (1, .int (J i))] := hl
  have hc := p1.1
  have hrl := rl_b r
  refine lv_aload_n SS.1 SS.2.1 dX7_normalA_0 rfl (lv_at hl 0 rfl) ?_
  refine lv_iload_n SS.1 SS.2.1 dX7_normalA_1 rfl (lv_at hl 1 rfl) ?_
  refine j_vRi SS (As := [.int (J i)]) (rest := []) (c_X7_stepsOf l D q u r (by omega) K i (show 0 ≤ K ∧ K ≤ 80 from (p0)) (show RB K u r from (p1)) (show -1000 ≤ i ∧ i ≤ 1000 from (p2))) mf_X7_stepsOf kw_537 hG hP hP (ci := 7) (q0 := (9 + 5 * r)) rfl (cw_ring (by omega)) rfl rfl hl.1 ⟨⟨Nat.le_of_ble_eq_true rfl, Nat.le_of_ble_eq_true rfl⟩, Nat.le_of_ble_eq_true rfl, Nat.le_refl _, Nat.le_refl _⟩ rfl dX7_normalA_2 (fun z_2 h_2 => ?_)
  have h_2 : z_2 = dS u r i ∧ 0 ≤ z_2 ∧ z_2 ≤ 2 * K := h_2
  refine lv_istore_n (lv' := [(2, .int (J z_2)), (0, .ref (q (9 + 5 * r))), (1, .int (J i))]) SS.1 SS.2.1 dX7_normalA_5 rfl hl (by decide) rfl (fun ls hl => ?_)
  refine lv_iload_n SS.1 SS.2.1 dX7_normalA_6 rfl (lv_at hl 0 rfl) ?_
  refine j_if_ne SS (tgt := 14) (x := z_2) dX7_normalA_7 (by decide) (by omega) (fun c_7 => ?_) (fun c_7 => ?_)
  · skip
    refine lv_aload_n SS.1 SS.2.1 dX7_normalA_14 rfl (lv_at hl 1 rfl) ?_
    refine lv_iload_n SS.1 SS.2.1 dX7_normalA_15 rfl (lv_at hl 2 rfl) ?_
    refine j_vRi SS (As := [.int (J i)]) (rest := []) (c_X7_sideY l D q u r (by omega) K i (show 0 ≤ K ∧ K ≤ 80 from (p0)) (show RB K u r from (p1)) (show -1000 ≤ i ∧ i ≤ 1000 from (p2))) mf_X7_sideY kw_521 hG hP hP (ci := 7) (q0 := (9 + 5 * r)) rfl (cw_ring (by omega)) rfl rfl hl.1 ⟨⟨Nat.le_of_ble_eq_true rfl, Nat.le_of_ble_eq_true rfl⟩, Nat.le_of_ble_eq_true rfl, Nat.le_refl _, Nat.le_refl _⟩ rfl dX7_normalA_16 (fun z_16 h_16 => ?_)
    have h_16 : z_16 = dY u r i ∧ -2 * K ≤ z_16 ∧ z_16 ≤ 2 * K := h_16
    refine lv_iload_n SS.1 SS.2.1 dX7_normalA_19 rfl (lv_at hl 0 rfl) ?_
    have td := td_b (a := z_16) (b := z_2) (K := 2 * K) (by omega)
    refine j_idiv SS (x := z_16) (y := z_2) dX7_normalA_20 (by omega) (by omega) (by omega) ?_
    exact W.iret SS.1 SS.2.1 hr (fun t0 ht hW => ⟨_, rfl, ⟨(Int.tdiv z_16 z_2), rfl, (by first | exact ⟨by rw [h_2.1, h_16.1]; rfl, by omega, by omega⟩ | exact ⟨by unfold dNX; rw [show dS u r i = 0 by omega, Int.tdiv_zero], by omega, by omega⟩)⟩, ht⟩) (fun _ h => nomatch h) dX7_normalA_21 hlk
  · skip
    refine j_iconst SS dX7_normalA_10 ?_
    refine lv_goto (tgt := 21) SS.1 SS.2.1 dX7_normalA_11 (by decide) ?_
    exact W.iret SS.1 SS.2.1 hr (fun t0 ht hW => ⟨_, rfl, ⟨0, rfl, (by first | exact ⟨by rw [h_2.1, h_16.1]; rfl, by omega, by omega⟩ | exact ⟨by unfold dNX; rw [show dS u r i = 0 by omega, Int.tdiv_zero], by omega, by omega⟩)⟩, ht⟩) (fun _ h => nomatch h) dX7_normalA_21 hlk

set_option maxHeartbeats 4000000 in
set_option maxRecDepth 100000 in
theorem c_X7_normalB2 (l : Launch) (D : JD) (q : Nat → Nat) (u : CS) (r : Nat) (hr : r ≤ 8) (K : Int) (i : Int) (p0 : 0 ≤ K ∧ K ≤ 80) (p1 : RB K u r) (p2 : -1000 ≤ i ∧ i ≤ 1000) : Met l yX7_normalB (jw yX7_normalB cX7_normalB 3 (some .int)) (jr 3 66) (jP [.ref (q (9 + 5 * r)), .int (J i)] D (fun H => va_P D.1 j_cl (cW D q u) H)) (jRi (fun z => z = dNY u r i ∧ -2 * K ≤ z ∧ z ≤ 2 * K)) 0 0 (fun _ => False) := by
  refine Met.ofW (cc := cX7_normalB) (maxL := 3) (ret := (some .int)) (by decide) rfl ?_
  intro pr en st mi args below meth co s₁ B hml hv
  obtain ⟨rfl, hG, hP⟩ := hv
  have hr := B.returns
  have hlk := B.notSynchronized
  have SS : jS pr mi co cX7_normalB 3 st _ RX7 := ⟨B.exec, B.bytes, hml, findClass_of_methodNamed B.named, fun w hw => atoms_spec (ws := (jw yX7_normalB cX7_normalB 3 (some .int))) B.pre w (List.mem_cons_of_mem _ hw)⟩
  have hl := lv_entry ([.ref (q (9 + 5 * r)), .int (J i)]) (n := 3) (Nat.le_of_ble_eq_true rfl)
  rw [lg_entry_eq]
  generalize (lg_sl ([.ref (q (9 + 5 * r)), .int (J i)]) ++ List.replicate (3 - (lg_sl ([.ref (q (9 + 5 * r)), .int (J i)])).length) Slot.unset).toArray = ls at hl ⊢
  have hl : lv_has ls 3 [(0, .ref (q (9 + 5 * r))), (1, .int (J i))] := hl
  have hc := p1.1
  have hrl := rl_b r
  refine lv_aload_n SS.1 SS.2.1 dX7_normalB_0 rfl (lv_at hl 0 rfl) ?_
  refine lv_iload_n SS.1 SS.2.1 dX7_normalB_1 rfl (lv_at hl 1 rfl) ?_
  refine j_vRi SS (As := [.int (J i)]) (rest := []) (c_X7_stepsOf l D q u r (by omega) K i (show 0 ≤ K ∧ K ≤ 80 from (p0)) (show RB K u r from (p1)) (show -1000 ≤ i ∧ i ≤ 1000 from (p2))) mf_X7_stepsOf kw_537 hG hP hP (ci := 7) (q0 := (9 + 5 * r)) rfl (cw_ring (by omega)) rfl rfl hl.1 ⟨⟨Nat.le_of_ble_eq_true rfl, Nat.le_of_ble_eq_true rfl⟩, Nat.le_of_ble_eq_true rfl, Nat.le_refl _, Nat.le_refl _⟩ rfl dX7_normalB_2 (fun z_2 h_2 => ?_)
  have h_2 : z_2 = dS u r i ∧ 0 ≤ z_2 ∧ z_2 ≤ 2 * K := h_2
  refine lv_istore_n (lv' := [(2, .int (J z_2)), (0, .ref (q (9 + 5 * r))), (1, .int (J i))]) SS.1 SS.2.1 dX7_normalB_5 rfl hl (by decide) rfl (fun ls hl => ?_)
  refine lv_iload_n SS.1 SS.2.1 dX7_normalB_6 rfl (lv_at hl 0 rfl) ?_
  refine j_if_ne SS (tgt := 14) (x := z_2) dX7_normalB_7 (by decide) (by omega) (fun c_7 => ?_) (fun c_7 => ?_)
  · skip
    refine lv_aload_n SS.1 SS.2.1 dX7_normalB_14 rfl (lv_at hl 1 rfl) ?_
    refine lv_iload_n SS.1 SS.2.1 dX7_normalB_15 rfl (lv_at hl 2 rfl) ?_
    refine j_vRi SS (As := [.int (J i)]) (rest := []) (c_X7_sideX l D q u r (by omega) K i (show 0 ≤ K ∧ K ≤ 80 from (p0)) (show RB K u r from (p1)) (show -1000 ≤ i ∧ i ≤ 1000 from (p2))) mf_X7_sideX kw_529 hG hP hP (ci := 7) (q0 := (9 + 5 * r)) rfl (cw_ring (by omega)) rfl rfl hl.1 ⟨⟨Nat.le_of_ble_eq_true rfl, Nat.le_of_ble_eq_true rfl⟩, Nat.le_of_ble_eq_true rfl, Nat.le_refl _, Nat.le_refl _⟩ rfl dX7_normalB_16 (fun z_16 h_16 => ?_)
    have h_16 : z_16 = dX u r i ∧ -2 * K ≤ z_16 ∧ z_16 ≤ 2 * K := h_16
    refine j_ineg SS dX7_normalB_19 ?_
    refine lv_iload_n SS.1 SS.2.1 dX7_normalB_20 rfl (lv_at hl 0 rfl) ?_
    have td := td_b (a := -z_16) (b := z_2) (K := 2 * K) (by omega)
    refine j_idiv SS (x := (-z_16)) (y := z_2) dX7_normalB_21 (by omega) (by omega) (by omega) ?_
    exact W.iret SS.1 SS.2.1 hr (fun t0 ht hW => ⟨_, rfl, ⟨(Int.tdiv (-z_16) z_2), rfl, (by first | exact ⟨by rw [h_2.1, h_16.1]; rfl, by omega, by omega⟩ | exact ⟨by unfold dNY; rw [show dS u r i = 0 by omega, Int.tdiv_zero], by omega, by omega⟩)⟩, ht⟩) (fun _ h => nomatch h) dX7_normalB_22 hlk
  · skip
    refine j_iconst SS dX7_normalB_10 ?_
    refine lv_goto (tgt := 22) SS.1 SS.2.1 dX7_normalB_11 (by decide) ?_
    exact W.iret SS.1 SS.2.1 hr (fun t0 ht hW => ⟨_, rfl, ⟨0, rfl, (by first | exact ⟨by rw [h_2.1, h_16.1]; rfl, by omega, by omega⟩ | exact ⟨by unfold dNY; rw [show dS u r i = 0 by omega, Int.tdiv_zero], by omega, by omega⟩)⟩, ht⟩) (fun _ h => nomatch h) dX7_normalB_22 hlk

set_option maxHeartbeats 4000000 in
set_option maxRecDepth 100000 in
theorem c_X7_far2 (l : Launch) (D : JD) (q : Nat → Nat) (u : CS) (r : Nat) (hr : r ≤ 8) (K : Int) (i : Int) (p0 : 0 ≤ K ∧ K ≤ 80) (p1 : RB K u r) (p2 : -1000 ≤ i ∧ i ≤ 1000) : Met l yX7_far (jw yX7_far cX7_far 2 (some .int)) (jr 4 88) (jP [.ref (q (9 + 5 * r)), .int (J i)] D (fun H => va_P D.1 j_cl (cW D q u) H)) (jRi (fun z => z = dFar u r i ∧ -30000 ≤ z ∧ z ≤ 30000)) 0 0 (fun _ => False) := by
  refine Met.ofW (cc := cX7_far) (maxL := 2) (ret := (some .int)) (by decide) rfl ?_
  intro pr en st mi args below meth co s₁ B hml hv
  obtain ⟨rfl, hG, hP⟩ := hv
  have hr := B.returns
  have hlk := B.notSynchronized
  have SS : jS pr mi co cX7_far 2 st _ RX7 := ⟨B.exec, B.bytes, hml, findClass_of_methodNamed B.named, fun w hw => atoms_spec (ws := (jw yX7_far cX7_far 2 (some .int))) B.pre w (List.mem_cons_of_mem _ hw)⟩
  have hl := lv_entry ([.ref (q (9 + 5 * r)), .int (J i)]) (n := 2) (Nat.le_of_ble_eq_true rfl)
  rw [lg_entry_eq]
  generalize (lg_sl ([.ref (q (9 + 5 * r)), .int (J i)]) ++ List.replicate (2 - (lg_sl ([.ref (q (9 + 5 * r)), .int (J i)])).length) Slot.unset).toArray = ls at hl ⊢
  have hl : lv_has ls 2 [(0, .ref (q (9 + 5 * r))), (1, .int (J i))] := hl
  have hc := p1.1
  have hrl := rl_b r
  refine lv_aload_n SS.1 SS.2.1 dX7_far_0 rfl (lv_at hl 0 rfl) ?_
  refine lv_iload_n SS.1 SS.2.1 dX7_far_1 rfl (lv_at hl 1 rfl) ?_
  refine j_vRi SS (As := [.int (J i)]) (rest := []) (c_X7_normalA2 l D q u r (by omega) K i (show 0 ≤ K ∧ K ≤ 80 from (p0)) (show RB K u r from (p1)) (show -1000 ≤ i ∧ i ≤ 1000 from (p2))) mf_X7_normalA kw_812 hG hP hP (ci := 7) (q0 := (9 + 5 * r)) rfl (cw_ring (by omega)) rfl rfl hl.1 ⟨⟨Nat.le_of_ble_eq_true rfl, Nat.le_of_ble_eq_true rfl⟩, Nat.le_of_ble_eq_true rfl, Nat.le_refl _, Nat.le_refl _⟩ rfl dX7_far_2 (fun z_2 h_2 => ?_)
  have h_2 : z_2 = dNX u r i ∧ -2 * K ≤ z_2 ∧ z_2 ≤ 2 * K := h_2
  refine lv_aload_n SS.1 SS.2.1 dX7_far_5 rfl (lv_at hl 0 rfl) ?_
  refine lv_iload_n SS.1 SS.2.1 dX7_far_6 rfl (lv_at hl 1 rfl) ?_
  refine j_uRi SS (As := [.int (J i)]) (rest := [.int (J z_2)]) (c_X8_x l D q u r (by omega) i (show -2147483648 ≤ i ∧ i ≤ 2147483647 from (by omega))) mu_7_x kw_501 hG hP hP (ci := 7) (q0 := (9 + 5 * r)) rfl (cw_ring (by omega)) rfl rfl hl.1 ⟨⟨Nat.le_of_ble_eq_true rfl, Nat.le_of_ble_eq_true rfl⟩, Nat.le_of_ble_eq_true rfl, Nat.le_refl _, Nat.le_refl _⟩ rfl dX7_far_7 (fun z_7 h_7 => ?_)
  have h_7 : z_7 = rx u r i ∧ ∀ K : Int, 0 ≤ K → RB K u r → -K ≤ z_7 ∧ z_7 ≤ K := h_7
  have hb_7 := h_7.2 K (by omega) (p1)
  refine j_imul SS (x := z_2) (y := z_7) dX7_far_10 ?_
  refine lv_aload_n SS.1 SS.2.1 dX7_far_11 rfl (lv_at hl 0 rfl) ?_
  refine lv_iload_n SS.1 SS.2.1 dX7_far_12 rfl (lv_at hl 1 rfl) ?_
  refine j_vRi SS (As := [.int (J i)]) (rest := [.int (J (z_2 * z_7))]) (c_X7_normalB2 l D q u r (by omega) K i (show 0 ≤ K ∧ K ≤ 80 from (p0)) (show RB K u r from (p1)) (show -1000 ≤ i ∧ i ≤ 1000 from (p2))) mf_X7_normalB kw_813 hG hP hP (ci := 7) (q0 := (9 + 5 * r)) rfl (cw_ring (by omega)) rfl rfl hl.1 ⟨⟨Nat.le_of_ble_eq_true rfl, Nat.le_of_ble_eq_true rfl⟩, Nat.le_of_ble_eq_true rfl, Nat.le_refl _, Nat.le_refl _⟩ rfl dX7_far_13 (fun z_13 h_13 => ?_)
  have h_13 : z_13 = dNY u r i ∧ -2 * K ≤ z_13 ∧ z_13 ≤ 2 * K := h_13
  refine lv_aload_n SS.1 SS.2.1 dX7_far_16 rfl (lv_at hl 0 rfl) ?_
  refine lv_iload_n SS.1 SS.2.1 dX7_far_17 rfl (lv_at hl 1 rfl) ?_
  refine j_uRi SS (As := [.int (J i)]) (rest := [.int (J z_13), .int (J (z_2 * z_7))]) (c_X8_y l D q u r (by omega) i (show -2147483648 ≤ i ∧ i ≤ 2147483647 from (by omega))) mu_7_y kw_503 hG hP hP (ci := 7) (q0 := (9 + 5 * r)) rfl (cw_ring (by omega)) rfl rfl hl.1 ⟨⟨Nat.le_of_ble_eq_true rfl, Nat.le_of_ble_eq_true rfl⟩, Nat.le_of_ble_eq_true rfl, Nat.le_refl _, Nat.le_refl _⟩ rfl dX7_far_18 (fun z_18 h_18 => ?_)
  have h_18 : z_18 = ry9 u r i ∧ ∀ K : Int, 0 ≤ K → RB K u r → -K ≤ z_18 ∧ z_18 ≤ K := h_18
  have hb_18 := h_18.2 K (by omega) (p1)
  refine j_imul SS (x := z_13) (y := z_18) dX7_far_21 ?_
  have m1 := mulb (A := 160) (B := 80) (a := z_2) (b := z_7) (by omega) (by omega)
  have m2 := mulb (A := 160) (B := 80) (a := z_13) (b := z_18) (by omega) (by omega)
  refine j_iadd SS (x := (z_2 * z_7)) (y := (z_13 * z_18)) dX7_far_22 ?_
  exact W.iret SS.1 SS.2.1 hr (fun t0 ht hW => ⟨_, rfl, ⟨((z_2 * z_7) + (z_13 * z_18)), rfl, (⟨by rw [h_2.1, h_7.1, h_13.1, h_18.1]; rfl, by omega, by omega⟩)⟩, ht⟩) (fun _ h => nomatch h) dX7_far_23 hlk

set_option maxHeartbeats 4000000 in
set_option maxRecDepth 100000 in
theorem c_X7_isReflexive2 (l : Launch) (D : JD) (q : Nat → Nat) (u : CS) (r : Nat) (hr : r ≤ 8) (K : Int) (p0 : 0 ≤ K ∧ K ≤ 80) (p1 : RB K u r) : Met l yX7_isReflexive (jw yX7_isReflexive cX7_isReflexive 2 (some .boolean)) (jr 5 111) (jP [.ref (q (9 + 5 * r))] D (fun H => va_P D.1 j_cl (cW D q u) H)) (jRi (fun z => (z = 1 ∧ cRef u r) ∨ (z = 0 ∧ ¬ (cRef u r ∧ cHS u r)))) 0 0 (fun _ => False) := by
  refine Met.ofW (cc := cX7_isReflexive) (maxL := 2) (ret := (some .boolean)) (by decide) rfl ?_
  intro pr en st mi args below meth co s₁ B hml hv
  obtain ⟨rfl, hG, hP⟩ := hv
  have hr := B.returns
  have hlk := B.notSynchronized
  have SS : jS pr mi co cX7_isReflexive 2 st _ RX7 := ⟨B.exec, B.bytes, hml, findClass_of_methodNamed B.named, fun w hw => atoms_spec (ws := (jw yX7_isReflexive cX7_isReflexive 2 (some .boolean))) B.pre w (List.mem_cons_of_mem _ hw)⟩
  have hl := lv_entry ([.ref (q (9 + 5 * r))]) (n := 2) (Nat.le_of_ble_eq_true rfl)
  rw [lg_entry_eq]
  generalize (lg_sl ([.ref (q (9 + 5 * r))]) ++ List.replicate (2 - (lg_sl ([.ref (q (9 + 5 * r))])).length) Slot.unset).toArray = ls at hl ⊢
  have hl : lv_has ls 2 [(0, .ref (q (9 + 5 * r)))] := hl
  have hc := p1.1
  have hrl := rl_b r
  refine lv_aload_n SS.1 SS.2.1 dX7_isReflexive_0 rfl (lv_at hl 0 rfl) ?_
  refine j_vRi SS (As := []) (rest := []) (c_X7_isRound2 l D q u r (by omega) K  (show 0 ≤ K ∧ K ≤ 80 from (p0)) (show RB K u r from (p1))) mf_X7_isRound kw_822 hG hP hP (ci := 7) (q0 := (9 + 5 * r)) rfl (cw_ring (by omega)) rfl rfl hl.1 ⟨⟨Nat.le_of_ble_eq_true rfl, Nat.le_of_ble_eq_true rfl⟩, Nat.le_of_ble_eq_true rfl, Nat.le_refl _, Nat.le_refl _⟩ rfl dX7_isReflexive_1 (fun z_1 h_1 => ?_)
  have h_1 : ((z_1 = 1 ∧ 3 ≤ (u.1.2.2.1 r)) ∨ z_1 = 0) ∧ (cAR u r → z_1 = 1) := h_1
  refine j_if_ne SS (tgt := 9) (x := z_1) dX7_isReflexive_4 (by decide) (by omega) (fun c_4 => ?_) (fun c_4 => ?_)
  · skip
    refine j_iconst SS dX7_isReflexive_9 ?_
    refine lv_istore_n (lv' := [(1, .int (J 0)), (0, .ref (q (9 + 5 * r)))]) SS.1 SS.2.1 dX7_isReflexive_10 rfl hl (by decide) rfl (fun ls hl => ?_)
    have L_11 : ∀ (nn : Nat) (i : Int) (ls : Array Slot) (hl : lv_has ls 2 [(0, .ref (q (9 + 5 * r))), (1, .int (J i))]) (i11_0 : 0 ≤ i ∧ i ≤ u.1.2.2.1 r) (i11_1 : ∀ j : Int, 0 ≤ j → j < i → dFar u r j = 1), (u.1.2.2.1 r - i).toNat < nn → W pr l en (headSpec (jw yX7_isReflexive cX7_isReflexive 2 (some .boolean)) (jr 5 111)).room st mi (([.ref (q (9 + 5 * r))] : List Value).toArray) below meth co st.heap [] 0 0 (MQ below (jRi (fun z => (z = 1 ∧ cRef u r) ∨ (z = 0 ∧ ¬ (cRef u r ∧ cHS u r)))) (([.ref (q (9 + 5 * r))] : List Value).toArray) st 0 0 (fun _ => False)) (F0 mi 11 ls []) := by
      intro nn
      induction nn with
      | zero => intros; omega
      | succ nn ih_11 =>
        intro i ls hl i11_0 i11_1 hm
        refine lv_iload_n SS.1 SS.2.1 dX7_isReflexive_11 rfl (lv_at hl 1 rfl) ?_
        refine lv_aload_n SS.1 SS.2.1 dX7_isReflexive_12 rfl (lv_at hl 0 rfl) ?_
        refine j_getS SS hG hP (9 + 5 * r) (v := .int (J (u.1.2.2.1 r))) (C := RX7) (T := TX7) (N := 3) (cw_ring (by omega)) rfl inX7 2 (by decide) (ref := "GridPolygons$Ring") kw_131 kw_132 rfl dX7_isReflexive_13 ?_
        refine j_icmp_ge SS (tgt := 36) (x := i) (y := (u.1.2.2.1 r)) dX7_isReflexive_16 (by decide) (by omega) (by omega) (fun c_16 => ?_) (fun c_16 => ?_)
        · skip
          refine j_iconst SS dX7_isReflexive_36 ?_
          exact W.zret SS.1 SS.2.1 hr (j_nz (by decide)) (fun t0 ht hW => ⟨_, rfl, ⟨1, rfl, (Or.inl ⟨rfl, by omega, fun j h1 h2 => i11_1 j h1 (by omega)⟩)⟩, ht⟩) (fun _ h => nomatch h) dX7_isReflexive_37 hlk
        · skip
          refine lv_aload_n SS.1 SS.2.1 dX7_isReflexive_19 rfl (lv_at hl 0 rfl) ?_
          refine lv_iload_n SS.1 SS.2.1 dX7_isReflexive_20 rfl (lv_at hl 1 rfl) ?_
          refine j_vRi SS (As := [.int (J i)]) (rest := []) (c_X7_far2 l D q u r (by omega) K i (show 0 ≤ K ∧ K ≤ 80 from (p0)) (show RB K u r from (p1)) (show -1000 ≤ i ∧ i ≤ 1000 from (by omega))) mf_X7_far kw_823 hG hP hP (ci := 7) (q0 := (9 + 5 * r)) rfl (cw_ring (by omega)) rfl rfl hl.1 ⟨⟨Nat.le_of_ble_eq_true rfl, Nat.le_of_ble_eq_true rfl⟩, Nat.le_of_ble_eq_true rfl, Nat.le_refl _, Nat.le_refl _⟩ rfl dX7_isReflexive_21 (fun z_21 h_21 => ?_)
          have h_21 : z_21 = dFar u r i ∧ -30000 ≤ z_21 ∧ z_21 ≤ 30000 := h_21
          refine j_iconst SS dX7_isReflexive_24 ?_
          refine j_icmp_eq SS (tgt := 30) (x := z_21) (y := 1) dX7_isReflexive_25 (by decide) (by omega) (by decide) (fun c_25 => ?_) (fun c_25 => ?_)
          · skip
            refine lv_iinc (v := J (i + 1)) (lv' := [(1, .int (J (i + 1))), (0, .ref (q (9 + 5 * r)))]) SS.1 SS.2.1 dX7_isReflexive_30 hl (k := 1) rfl (J_add _ _) (by decide) rfl (fun ls hl => ?_)
            refine lv_goto (tgt := 11) SS.1 SS.2.1 dX7_isReflexive_33 (by decide) ?_
            exact ih_11 (i + 1) ls (lv_sub hl [1, 0] rfl) (by omega) (fun j h1 h2 => by by_cases e : j = i; (rw [e, ← h_21.1]; omega); exact i11_1 j h1 (by omega)) (by omega)
          · skip
            refine j_iconst SS dX7_isReflexive_28 ?_
            exact W.zret SS.1 SS.2.1 hr (j_nz (by decide)) (fun t0 ht hW => ⟨_, rfl, ⟨0, rfl, (Or.inr ⟨rfl, fun q => by have w := q.1.2 i i11_0.1 (by omega); rw [← h_21.1] at w; omega⟩)⟩, ht⟩) (fun _ h => nomatch h) dX7_isReflexive_29 hlk
    exact L_11 ((u.1.2.2.1 r - (0 : Int)).toNat + 1) 0 ls (lv_sub hl [1, 0] rfl) (by omega) (fun j h1 h2 => by omega) (Nat.lt_succ_self _)
  · skip
    refine j_iconst SS dX7_isReflexive_7 ?_
    exact W.zret SS.1 SS.2.1 hr (j_nz (by decide)) (fun t0 ht hW => ⟨_, rfl, ⟨0, rfl, (Or.inr ⟨rfl, fun q => by have := h_1.2 (cRef_AR p1 q.1 q.2); omega⟩)⟩, ht⟩) (fun _ h => nomatch h) dX7_isReflexive_8 hlk
