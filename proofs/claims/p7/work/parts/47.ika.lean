
set_option maxHeartbeats 4000000 in
set_option maxRecDepth 100000 in
theorem c_X11_reflexiveN (l : Launch) (D : JD) (q : Nat → Nat) (u : CS) (s : Int) (p0 : CI u) (p1 : -2147483648 ≤ s ∧ s ≤ 2147483647) : Met l yX11_reflexive (jw yX11_reflexive cX11_reflexive 3 (some .int)) (jr 6 132) (jP [.ref (q 0), .int (J s)] D (fun H => va_P D.1 j_cl (cW D q u) H)) (jRi (fun z => rfC u s z)) 0 0 (fun _ => False) := by
  refine Met.ofW (cc := cX11_reflexive) (maxL := 3) (ret := (some .int)) (by decide) rfl ?_
  intro pr en st mi args below meth co s₁ B hml hv
  obtain ⟨rfl, hG, hP⟩ := hv
  have hr := B.returns
  have hlk := B.notSynchronized
  have SS : jS pr mi co cX11_reflexive 3 st _ RX11 := ⟨B.exec, B.bytes, hml, findClass_of_methodNamed B.named, fun w hw => atoms_spec (ws := (jw yX11_reflexive cX11_reflexive 3 (some .int))) B.pre w (List.mem_cons_of_mem _ hw)⟩
  have hl := lv_entry ([.ref (q 0), .int (J s)]) (n := 3) (Nat.le_of_ble_eq_true rfl)
  rw [lg_entry_eq]
  generalize (lg_sl ([.ref (q 0), .int (J s)]) ++ List.replicate (3 - (lg_sl ([.ref (q 0), .int (J s)])).length) Slot.unset).toArray = ls at hl ⊢
  have hl : lv_has ls 3 [(0, .ref (q 0)), (1, .int (J s))] := hl
  refine lv_aload_n SS.1 SS.2.1 dX11_reflexive_0 rfl (lv_at hl 0 rfl) ?_
  refine lv_iload_n SS.1 SS.2.1 dX11_reflexive_1 rfl (lv_at hl 1 rfl) ?_
  refine j_vSh SS (As := [.int (J s)]) (rest := []) (c_X11_shapeAt l D q u  s (show -2147483648 ≤ s ∧ s ≤ 2147483647 from (p1))) mf_X11_shapeAt kw_414 hG hP hP (ci := 11) (q0 := 0) rfl rfl rfl rfl hl.1 ⟨⟨Nat.le_of_ble_eq_true rfl, Nat.le_of_ble_eq_true rfl⟩, Nat.le_of_ble_eq_true rfl, Nat.le_refl _, Nat.le_refl _⟩ rfl dX11_reflexive_2 (fun i_2 hi_2 hz_2 => ?_) (fun hn_2 => ?_)
  · skip
    have hI2 := CI_s p0 (show i_2 < 8 by omega)
    have hI2c := hI2.1
    have hrl2 := rl_s (show i_2 < 8 by omega)
    refine lv_astore_n (lv' := [(2, .ref (q (8 + 5 * i_2))), (0, .ref (q 0)), (1, .int (J s))]) SS.1 SS.2.1 dX11_reflexive_5 rfl hl (by decide) rfl (fun ls hl => ?_)
    refine lv_aload_n SS.1 SS.2.1 dX11_reflexive_6 rfl (lv_at hl 0 rfl) ?_
    refine lv_ifnonnull SS.1 SS.2.1 (tgt := 12) dX11_reflexive_7 (by decide) ?_
    refine lv_aload_n SS.1 SS.2.1 dX11_reflexive_12 rfl (lv_at hl 0 rfl) ?_
    refine j_get SS hG hP (8 + 5 * i_2) (v := .ref (q (9 + 5 * i_2))) (C := RX10) (T := TX10) (N := 3) (cw_shape (by omega)) rfl inX10 0 (by decide) (ref := "GridPolygons$Shape") kw_151 rfl rfl dX11_reflexive_13 ?_
    refine j_vRi SS (As := []) (rest := []) (c_X7_isReflexive2 l D q u i_2 (by omega) (80 : Int)  (show 0 ≤ (80 : Int) ∧ (80 : Int) ≤ 80 from (by omega)) (show RB (80 : Int) u i_2 from (show RB 80 u i_2 from CI_s p0 (by omega)))) mf_X7_isReflexive kw_818 hG hP hP (ci := 7) (q0 := (9 + 5 * i_2)) rfl (cw_ring (by omega)) rfl rfl hl.1 ⟨⟨Nat.le_of_ble_eq_true rfl, Nat.le_of_ble_eq_true rfl⟩, Nat.le_of_ble_eq_true rfl, Nat.le_refl _, Nat.le_refl _⟩ rfl dX11_reflexive_16 (fun z_16 h_16 => ?_)
    have h_16 : (z_16 = 1 ∧ cRef u i_2) ∨ (z_16 = 0 ∧ ¬ (cRef u i_2 ∧ cHS u i_2)) := h_16
    refine j_if_eq SS (tgt := 26) (x := z_16) dX11_reflexive_19 (by decide) (by omega) (fun c_19 => ?_) (fun c_19 => ?_)
    · skip
      refine j_iconst SS dX11_reflexive_26 ?_
      exact W.iret SS.1 SS.2.1 hr (fun t0 ht hW => ⟨_, rfl, ⟨0, rfl, (by first | exact Or.inl ⟨by omega, rfl⟩ | exact Or.inr ⟨by omega, by rw [show s.toNat = i_2 by omega]; rcases h_16 with q | q <;> first | exact Or.inl ⟨rfl, q.2⟩ | exact Or.inr ⟨rfl, q.2⟩ | (exfalso; omega)⟩)⟩, ht⟩) (fun _ h => nomatch h) dX11_reflexive_27 hlk
    · skip
      refine j_iconst SS dX11_reflexive_22 ?_
      refine lv_goto (tgt := 27) SS.1 SS.2.1 dX11_reflexive_23 (by decide) ?_
      exact W.iret SS.1 SS.2.1 hr (fun t0 ht hW => ⟨_, rfl, ⟨1, rfl, (by first | exact Or.inl ⟨by omega, rfl⟩ | exact Or.inr ⟨by omega, by rw [show s.toNat = i_2 by omega]; rcases h_16 with q | q <;> first | exact Or.inl ⟨rfl, q.2⟩ | exact Or.inr ⟨rfl, q.2⟩ | (exfalso; omega)⟩)⟩, ht⟩) (fun _ h => nomatch h) dX11_reflexive_27 hlk
  · skip
    refine lv_astore_nN (lv' := [(2, .null), (0, .ref (q 0)), (1, .int (J s))]) SS.1 SS.2.1 dX11_reflexive_5 rfl hl (by decide) rfl (fun ls hl => ?_)
    refine lv_aload_nN SS.1 SS.2.1 dX11_reflexive_6 rfl (lv_at hl 0 rfl) ?_
    refine lv_ifnonnullN SS.1 SS.2.1 dX11_reflexive_7 ?_
    refine j_iconst SS dX11_reflexive_10 ?_
    exact W.iret SS.1 SS.2.1 hr (fun t0 ht hW => ⟨_, rfl, ⟨(-1), rfl, (by first | exact Or.inl ⟨by omega, rfl⟩ | exact Or.inr ⟨by omega, by rw [show s.toNat = i_2 by omega]; rcases h_16 with q | q <;> first | exact Or.inl ⟨rfl, q.2⟩ | exact Or.inr ⟨rfl, q.2⟩ | (exfalso; omega)⟩)⟩, ht⟩) (fun _ h => nomatch h) dX11_reflexive_11 hlk

set_option maxHeartbeats 4000000 in
set_option maxRecDepth 100000 in
theorem c_X12_reflexive2 (l : Launch) (D : JD) (o : Nat) (q : Nat → Nat) (u : MS) (s : Int) (p0 : IM u) (p1 : -2147483648 ≤ s ∧ s ≤ 2147483647) : Met l yX12_reflexive (jw yX12_reflexive cX12_reflexive 2 (some .int)) (jr 6 133) (jP [.ref o, .int (J s)] D (fun H => va_P D.1 j_cl (mW D o q u) H)) (jRi (fun z => rfM u s z)) 0 0 (fun _ => False) := by
  refine Met.ofW (cc := cX12_reflexive) (maxL := 2) (ret := (some .int)) (by decide) rfl ?_
  intro pr en st mi args below meth co s₁ B hml hv
  obtain ⟨rfl, hG, hP⟩ := hv
  have hr := B.returns
  have hlk := B.notSynchronized
  have SS : jS pr mi co cX12_reflexive 2 st _ RX12 := ⟨B.exec, B.bytes, hml, findClass_of_methodNamed B.named, fun w hw => atoms_spec (ws := (jw yX12_reflexive cX12_reflexive 2 (some .int))) B.pre w (List.mem_cons_of_mem _ hw)⟩
  have hl := lv_entry ([.ref o, .int (J s)]) (n := 2) (Nat.le_of_ble_eq_true rfl)
  rw [lg_entry_eq]
  generalize (lg_sl ([.ref o, .int (J s)]) ++ List.replicate (2 - (lg_sl ([.ref o, .int (J s)])).length) Slot.unset).toArray = ls at hl ⊢
  have hl : lv_has ls 2 [(0, .ref o), (1, .int (J s))] := hl
  refine lv_iload_n SS.1 SS.2.1 dX12_reflexive_0 rfl (lv_at hl 1 rfl) ?_
  refine j_sRi SS (As := [.int (J s)]) (rest := []) (c_X12_isShape l D s (show -2147483648 ≤ s ∧ s ≤ 2147483647 from (by omega))) mf_X12_isShape kw_1156 hG trivial rfl hl.1 ⟨⟨Nat.le_of_ble_eq_true rfl, Nat.le_of_ble_eq_true rfl⟩, Nat.le_of_ble_eq_true rfl, Nat.le_refl _, Nat.le_refl _⟩ rfl dX12_reflexive_1 (fun z_1 h_1 => ?_)
  have h_1 : (z_1 = 1 ∧ (0 ≤ s ∧ s ≤ 7)) ∨ (z_1 = 0 ∧ ¬ (0 ≤ s ∧ s ≤ 7)) := h_1
  refine j_if_ne SS (tgt := 11) (x := z_1) dX12_reflexive_4 (by decide) (by omega) (fun c_4 => ?_) (fun c_4 => ?_)
  · skip
    refine lv_aload_n SS.1 SS.2.1 dX12_reflexive_11 rfl (lv_at hl 0 rfl) ?_
    refine lv_iload_n SS.1 SS.2.1 dX12_reflexive_12 rfl (lv_at hl 1 rfl) ?_
    refine j_vRi SS (As := [.int (J s)]) (rest := []) (c_X12_isReflexive2 l D o q u s (show 0 ≤ s ∧ s ≤ 7 from (by omega)) (show Sh u s from (p0.1 _ (by omega) (by omega)))) mf_X12_isReflexive kw_1380 hG hP hP (ci := 8) (q0 := 0) rfl rfl rfl rfl hl.1 ⟨⟨Nat.le_of_ble_eq_true rfl, Nat.le_of_ble_eq_true rfl⟩, Nat.le_of_ble_eq_true rfl, Nat.le_refl _, Nat.le_refl _⟩ rfl dX12_reflexive_13 (fun z_13 h_13 => ?_)
    have h_13 : (z_13 = 1 ∧ mRef u s) ∨ (z_13 = 0 ∧ ¬ mRef u s) := h_13
    refine j_if_eq SS (tgt := 23) (x := z_13) dX12_reflexive_16 (by decide) (by omega) (fun c_16 => ?_) (fun c_16 => ?_)
    · skip
      refine j_iconst SS dX12_reflexive_23 ?_
      exact W.iret SS.1 SS.2.1 hr (fun t ht hW => ⟨_, rfl, ⟨0, rfl, (by first | exact Or.inl ⟨by omega, rfl⟩ | exact Or.inr ⟨by omega, by rcases h_13 with q | q <;> first | exact Or.inl ⟨rfl, q.2⟩ | exact Or.inr ⟨rfl, q.2⟩ | (exfalso; omega)⟩)⟩, ht⟩) (fun _ h => nomatch h) dX12_reflexive_24 hlk
    · skip
      refine j_iconst SS dX12_reflexive_19 ?_
      refine lv_goto (tgt := 24) SS.1 SS.2.1 dX12_reflexive_20 (by decide) ?_
      exact W.iret SS.1 SS.2.1 hr (fun t ht hW => ⟨_, rfl, ⟨1, rfl, (by first | exact Or.inl ⟨by omega, rfl⟩ | exact Or.inr ⟨by omega, by rcases h_13 with q | q <;> first | exact Or.inl ⟨rfl, q.2⟩ | exact Or.inr ⟨rfl, q.2⟩ | (exfalso; omega)⟩)⟩, ht⟩) (fun _ h => nomatch h) dX12_reflexive_24 hlk
  · skip
    refine j_iconst SS dX12_reflexive_7 ?_
    refine lv_goto (tgt := 24) SS.1 SS.2.1 dX12_reflexive_8 (by decide) ?_
    exact W.iret SS.1 SS.2.1 hr (fun t ht hW => ⟨_, rfl, ⟨(-1), rfl, (by first | exact Or.inl ⟨by omega, rfl⟩ | exact Or.inr ⟨by omega, by rcases h_13 with q | q <;> first | exact Or.inl ⟨rfl, q.2⟩ | exact Or.inr ⟨rfl, q.2⟩ | (exfalso; omega)⟩)⟩, ht⟩) (fun _ h => nomatch h) dX12_reflexive_24 hlk

set_option maxHeartbeats 4000000 in
set_option maxRecDepth 100000 in
theorem c_X7_across2 (l : Launch) (D : JD) (q : Nat → Nat) (u : CS) (r : Nat) (hr : r ≤ 8) (K : Int) (a : Int) (b : Int) (p0 : 0 ≤ K ∧ K ≤ 80) (p1 : RB K u r) (p2 : -20000 ≤ a ∧ a ≤ 20000) (p3 : -20000 ≤ b ∧ b ≤ 20000) (p4 : 1 ≤ u.1.2.2.1 r) : Met l yX7_across (jw yX7_across cX7_across 7 (some .int)) (jr 1 21) (jP [.ref (q (9 + 5 * r)), .int (J a), .int (J b)] D (fun H => va_P D.1 j_cl (cW D q u) H)) (jRi (fun z => spR u r a b z ∧ -6400000 ≤ z ∧ z ≤ 6400000)) 0 0 (fun _ => False) := by
  refine Met.ofW (cc := cX7_across) (maxL := 7) (ret := (some .int)) (by decide) rfl ?_
  intro pr en st mi args below meth co s₁ B hml hv
  obtain ⟨rfl, hG, hP⟩ := hv
  have hr := B.returns
  have hlk := B.notSynchronized
  have SS : jS pr mi co cX7_across 7 st _ RX7 := ⟨B.exec, B.bytes, hml, findClass_of_methodNamed B.named, fun w hw => atoms_spec (ws := (jw yX7_across cX7_across 7 (some .int))) B.pre w (List.mem_cons_of_mem _ hw)⟩
  have hl := lv_entry ([.ref (q (9 + 5 * r)), .int (J a), .int (J b)]) (n := 7) (Nat.le_of_ble_eq_true rfl)
  rw [lg_entry_eq]
  generalize (lg_sl ([.ref (q (9 + 5 * r)), .int (J a), .int (J b)]) ++ List.replicate (7 - (lg_sl ([.ref (q (9 + 5 * r)), .int (J a), .int (J b)])).length) Slot.unset).toArray = ls at hl ⊢
  have hl : lv_has ls 7 [(0, .ref (q (9 + 5 * r))), (1, .int (J a)), (2, .int (J b))] := hl
  have hc := p1.1
  have hrl := rl_b r
  refine lv_iload_n SS.1 SS.2.1 dX7_across_0 rfl (lv_at hl 1 rfl) ?_
  refine lv_aload_n SS.1 SS.2.1 dX7_across_1 rfl (lv_at hl 0 rfl) ?_
  refine j_iconst SS dX7_across_2 ?_
  refine j_uRi SS (As := [.int (J 0)]) (rest := [.int (J a)]) (c_X8_x l D q u r (by omega) 0 (show -2147483648 ≤ (0 : Int) ∧ (0 : Int) ≤ 2147483647 from (by omega))) mu_7_x kw_501 hG hP hP (ci := 7) (q0 := (9 + 5 * r)) rfl (cw_ring (by omega)) rfl rfl hl.1 ⟨⟨Nat.le_of_ble_eq_true rfl, Nat.le_of_ble_eq_true rfl⟩, Nat.le_of_ble_eq_true rfl, Nat.le_refl _, Nat.le_refl _⟩ rfl dX7_across_3 (fun z_3 h_3 => ?_)
  have h_3 : z_3 = rx u r (0 : Int) ∧ ∀ K : Int, 0 ≤ K → RB K u r → -K ≤ z_3 ∧ z_3 ≤ K := h_3
  have hb_3 := h_3.2 K (by omega) (p1)
  refine j_imul SS (x := a) (y := z_3) dX7_across_6 ?_
  obtain ⟨ax, eax⟩ : ∃ z : Int, z = (a * z_3) := ⟨_, rfl⟩
  rw [← eax]
  refine lv_iload_n SS.1 SS.2.1 dX7_across_7 rfl (lv_at hl 2 rfl) ?_
  refine lv_aload_n SS.1 SS.2.1 dX7_across_8 rfl (lv_at hl 0 rfl) ?_
  refine j_iconst SS dX7_across_9 ?_
  refine j_uRi SS (As := [.int (J 0)]) (rest := [.int (J b), .int (J ax)]) (c_X8_y l D q u r (by omega) 0 (show -2147483648 ≤ (0 : Int) ∧ (0 : Int) ≤ 2147483647 from (by omega))) mu_7_y kw_503 hG hP hP (ci := 7) (q0 := (9 + 5 * r)) rfl (cw_ring (by omega)) rfl rfl hl.1 ⟨⟨Nat.le_of_ble_eq_true rfl, Nat.le_of_ble_eq_true rfl⟩, Nat.le_of_ble_eq_true rfl, Nat.le_refl _, Nat.le_refl _⟩ rfl dX7_across_10 (fun z_10 h_10 => ?_)
  have h_10 : z_10 = ry9 u r (0 : Int) ∧ ∀ K : Int, 0 ≤ K → RB K u r → -K ≤ z_10 ∧ z_10 ≤ K := h_10
  have hb_10 := h_10.2 K (by omega) (p1)
  refine j_imul SS (x := b) (y := z_10) dX7_across_13 ?_
  obtain ⟨ay, eay⟩ : ∃ z : Int, z = (b * z_10) := ⟨_, rfl⟩
  rw [← eay]
  refine j_iadd SS (x := ax) (y := ay) dX7_across_14 ?_
  have m1 := mulb (A := 20000) (B := 80) (a := a) (b := z_3) (by omega) (by omega)
  have m2 := mulb (A := 20000) (B := 80) (a := b) (b := z_10) (by omega) (by omega)
  rw [← eax] at m1
  rw [← eay] at m2
  have e0 : a * rx u r 0 + b * ry9 u r 0 = ax + ay := by rw [eax, eay, h_3.1, h_10.1]
  refine lv_istore_n (lv' := [(3, .int (J (ax + ay))), (0, .ref (q (9 + 5 * r))), (1, .int (J a)), (2, .int (J b))]) SS.1 SS.2.1 dX7_across_15 rfl hl (by decide) rfl (fun ls hl => ?_)
  refine lv_iload_n SS.1 SS.2.1 dX7_across_16 rfl (lv_at hl 0 rfl) ?_
  refine lv_istore (lv' := [(4, .int (J (ax + ay))), (3, .int (J (ax + ay))), (0, .ref (q (9 + 5 * r))), (1, .int (J a)), (2, .int (J b))]) SS.1 SS.2.1 dX7_across_17 hl (by decide) rfl (fun ls hl => ?_)
  refine j_iconst SS dX7_across_19 ?_
  refine lv_istore (lv' := [(5, .int (J 1)), (4, .int (J (ax + ay))), (3, .int (J (ax + ay))), (0, .ref (q (9 + 5 * r))), (1, .int (J a)), (2, .int (J b))]) SS.1 SS.2.1 dX7_across_20 hl (by decide) rfl (fun ls hl => ?_)
  have L_22 : ∀ (nn : Nat) (lo : Int) (hi : Int) (i : Int) (ls : Array Slot) (hl : lv_has ls 7 [(0, .ref (q (9 + 5 * r))), (1, .int (J a)), (2, .int (J b)), (3, .int (J lo)), (4, .int (J hi)), (5, .int (J i))]) (i22_0 : 1 ≤ i ∧ (i ≤ u.1.2.2.1 r ∨ i = 1)) (i22_1 : -3200000 ≤ lo ∧ lo ≤ hi ∧ hi ≤ 3200000) (i22_2 : ∀ k : Int, 0 ≤ k → k < i → lo ≤ (a * rx u r k + b * ry9 u r k) ∧ (a * rx u r k + b * ry9 u r k) ≤ hi) (i22_3 : ∃ k : Int, 0 ≤ k ∧ k < u.1.2.2.1 r ∧ (a * rx u r k + b * ry9 u r k) = lo) (i22_4 : ∃ k : Int, 0 ≤ k ∧ k < u.1.2.2.1 r ∧ (a * rx u r k + b * ry9 u r k) = hi), (u.1.2.2.1 r - i).toNat < nn → W pr l en (headSpec (jw yX7_across cX7_across 7 (some .int)) (jr 1 21)).room st mi (([.ref (q (9 + 5 * r)), .int (J a), .int (J b)] : List Value).toArray) below meth co st.heap [] 0 0 (MQ below (jRi (fun z => spR u r a b z ∧ -6400000 ≤ z ∧ z ≤ 6400000)) (([.ref (q (9 + 5 * r)), .int (J a), .int (J b)] : List Value).toArray) st 0 0 (fun _ => False)) (F0 mi 22 ls []) := by
    intro nn
    induction nn with
    | zero => intros; omega
    | succ nn ih_22 =>
      intro lo hi i ls hl i22_0 i22_1 i22_2 i22_3 i22_4 hm
      refine lv_iload SS.1 SS.2.1 dX7_across_22 (lv_at hl 5 rfl) ?_
      refine lv_aload_n SS.1 SS.2.1 dX7_across_24 rfl (lv_at hl 0 rfl) ?_
      refine j_getS SS hG hP (9 + 5 * r) (v := .int (J (u.1.2.2.1 r))) (C := RX7) (T := TX7) (N := 3) (cw_ring (by omega)) rfl inX7 2 (by decide) (ref := "GridPolygons$Ring") kw_131 kw_132 rfl dX7_across_25 ?_
      refine j_icmp_ge SS (tgt := 72) (x := i) (y := (u.1.2.2.1 r)) dX7_across_28 (by decide) (by omega) (by omega) (fun c_28 => ?_) (fun c_28 => ?_)
      · skip
        refine lv_iload SS.1 SS.2.1 dX7_across_72 (lv_at hl 4 rfl) ?_
        refine lv_iload_n SS.1 SS.2.1 dX7_across_74 rfl (lv_at hl 3 rfl) ?_
        refine j_isub SS (x := hi) (y := lo) dX7_across_75 ?_
        exact W.iret SS.1 SS.2.1 hr (fun t0 ht hW => ⟨_, rfl, ⟨(hi - lo), rfl, (⟨⟨lo, hi, fun k h1 h2 => i22_2 k h1 (by omega), i22_3, i22_4, rfl⟩, by omega, by omega⟩)⟩, ht⟩) (fun _ h => nomatch h) dX7_across_76 hlk
      · skip
        refine lv_iload_n SS.1 SS.2.1 dX7_across_31 rfl (lv_at hl 1 rfl) ?_
        refine lv_aload_n SS.1 SS.2.1 dX7_across_32 rfl (lv_at hl 0 rfl) ?_
        refine lv_iload SS.1 SS.2.1 dX7_across_33 (lv_at hl 5 rfl) ?_
        refine j_uRi SS (As := [.int (J i)]) (rest := [.int (J a)]) (c_X8_x l D q u r (by omega) i (show -2147483648 ≤ i ∧ i ≤ 2147483647 from (by omega))) mu_7_x kw_501 hG hP hP (ci := 7) (q0 := (9 + 5 * r)) rfl (cw_ring (by omega)) rfl rfl hl.1 ⟨⟨Nat.le_of_ble_eq_true rfl, Nat.le_of_ble_eq_true rfl⟩, Nat.le_of_ble_eq_true rfl, Nat.le_refl _, Nat.le_refl _⟩ rfl dX7_across_35 (fun z_35 h_35 => ?_)
        have h_35 : z_35 = rx u r i ∧ ∀ K : Int, 0 ≤ K → RB K u r → -K ≤ z_35 ∧ z_35 ≤ K := h_35
        have hb_35 := h_35.2 K (by omega) (p1)
        refine j_imul SS (x := a) (y := z_35) dX7_across_38 ?_
        obtain ⟨bx, ebx⟩ : ∃ z : Int, z = (a * z_35) := ⟨_, rfl⟩
        rw [← ebx]
        refine lv_iload_n SS.1 SS.2.1 dX7_across_39 rfl (lv_at hl 2 rfl) ?_
        refine lv_aload_n SS.1 SS.2.1 dX7_across_40 rfl (lv_at hl 0 rfl) ?_
        refine lv_iload SS.1 SS.2.1 dX7_across_41 (lv_at hl 5 rfl) ?_
        refine j_uRi SS (As := [.int (J i)]) (rest := [.int (J b), .int (J bx)]) (c_X8_y l D q u r (by omega) i (show -2147483648 ≤ i ∧ i ≤ 2147483647 from (by omega))) mu_7_y kw_503 hG hP hP (ci := 7) (q0 := (9 + 5 * r)) rfl (cw_ring (by omega)) rfl rfl hl.1 ⟨⟨Nat.le_of_ble_eq_true rfl, Nat.le_of_ble_eq_true rfl⟩, Nat.le_of_ble_eq_true rfl, Nat.le_refl _, Nat.le_refl _⟩ rfl dX7_across_43 (fun z_43 h_43 => ?_)
        have h_43 : z_43 = ry9 u r i ∧ ∀ K : Int, 0 ≤ K → RB K u r → -K ≤ z_43 ∧ z_43 ≤ K := h_43
        have hb_43 := h_43.2 K (by omega) (p1)
        refine j_imul SS (x := b) (y := z_43) dX7_across_46 ?_
        obtain ⟨by9, eby9⟩ : ∃ z : Int, z = (b * z_43) := ⟨_, rfl⟩
        rw [← eby9]
        refine j_iadd SS (x := bx) (y := by9) dX7_across_47 ?_
        have m3 := mulb (A := 20000) (B := 80) (a := a) (b := z_35) (by omega) (by omega)
        have m4 := mulb (A := 20000) (B := 80) (a := b) (b := z_43) (by omega) (by omega)
        rw [← ebx] at m3
        rw [← eby9] at m4
        have ei : a * rx u r i + b * ry9 u r i = bx + by9 := by rw [ebx, eby9, h_35.1, h_43.1]
        refine lv_istore (lv' := [(6, .int (J (bx + by9))), (0, .ref (q (9 + 5 * r))), (1, .int (J a)), (2, .int (J b)), (3, .int (J lo)), (4, .int (J hi)), (5, .int (J i))]) SS.1 SS.2.1 dX7_across_48 hl (by decide) rfl (fun ls hl => ?_)
        refine lv_iload_n SS.1 SS.2.1 dX7_across_50 rfl (lv_at hl 4 rfl) ?_
        refine lv_iload SS.1 SS.2.1 dX7_across_51 (lv_at hl 0 rfl) ?_
        refine j_sRi SS (As := [.int (J lo), .int (J (bx + by9))]) (rest := []) (c_J9_min_7cf53 l D  lo (bx + by9) (show -2147483648 ≤ lo ∧ lo ≤ 2147483647 from (by omega)) (show -2147483648 ≤ (bx + by9) ∧ (bx + by9) ≤ 2147483647 from (by omega))) mf_J9_min_7cf53 kw_602 hG trivial rfl hl.1 ⟨⟨Nat.le_of_ble_eq_true rfl, Nat.le_of_ble_eq_true rfl⟩, Nat.le_of_ble_eq_true rfl, Nat.le_refl _, Nat.le_refl _⟩ rfl dX7_across_53 (fun z_53 h_53 => ?_)
        have h_53 : (z_53 = lo ∨ z_53 = (bx + by9)) ∧ z_53 ≤ lo ∧ z_53 ≤ (bx + by9) := h_53
        refine lv_istore_n (lv' := [(3, .int (J z_53)), (6, .int (J (bx + by9))), (0, .ref (q (9 + 5 * r))), (1, .int (J a)), (2, .int (J b)), (4, .int (J hi)), (5, .int (J i))]) SS.1 SS.2.1 dX7_across_56 rfl hl (by decide) rfl (fun ls hl => ?_)
        refine lv_iload SS.1 SS.2.1 dX7_across_57 (lv_at hl 5 rfl) ?_
        refine lv_iload SS.1 SS.2.1 dX7_across_59 (lv_at hl 1 rfl) ?_
        refine j_sRi SS (As := [.int (J hi), .int (J (bx + by9))]) (rest := []) (c_J9_max_7cf53 l D  hi (bx + by9) (show -2147483648 ≤ hi ∧ hi ≤ 2147483647 from (by omega)) (show -2147483648 ≤ (bx + by9) ∧ (bx + by9) ≤ 2147483647 from (by omega))) mf_J9_max_7cf53 kw_593 hG trivial rfl hl.1 ⟨⟨Nat.le_of_ble_eq_true rfl, Nat.le_of_ble_eq_true rfl⟩, Nat.le_of_ble_eq_true rfl, Nat.le_refl _, Nat.le_refl _⟩ rfl dX7_across_61 (fun z_61 h_61 => ?_)
        have h_61 : (z_61 = hi ∨ z_61 = (bx + by9)) ∧ hi ≤ z_61 ∧ (bx + by9) ≤ z_61 := h_61
        refine lv_istore (lv' := [(4, .int (J z_61)), (3, .int (J z_53)), (6, .int (J (bx + by9))), (0, .ref (q (9 + 5 * r))), (1, .int (J a)), (2, .int (J b)), (5, .int (J i))]) SS.1 SS.2.1 dX7_across_64 hl (by decide) rfl (fun ls hl => ?_)
        refine lv_iinc (v := J (i + 1)) (lv' := [(5, .int (J (i + 1))), (4, .int (J z_61)), (3, .int (J z_53)), (6, .int (J (bx + by9))), (0, .ref (q (9 + 5 * r))), (1, .int (J a)), (2, .int (J b))]) SS.1 SS.2.1 dX7_across_66 hl (k := 6) rfl (J_add _ _) (by decide) rfl (fun ls hl => ?_)
        refine lv_goto (tgt := 22) SS.1 SS.2.1 dX7_across_69 (by decide) ?_
        exact ih_22 z_53 z_61 (i + 1) ls (lv_sub hl [4, 5, 6, 2, 1, 0] rfl) (by omega) (by omega) (fun k h1 h2 => by by_cases e : k = i; (rw [e, ei]; omega); have := i22_2 k h1 (by omega); omega) (by rcases h_53.1 with q | q; (obtain ⟨k, k1, k2, k3⟩ := i22_3; exact ⟨k, k1, k2, k3.trans q.symm⟩); exact ⟨i, by omega, by omega, ei.trans q.symm⟩) (by rcases h_61.1 with q | q; (obtain ⟨k, k1, k2, k3⟩ := i22_4; exact ⟨k, k1, k2, k3.trans q.symm⟩); exact ⟨i, by omega, by omega, ei.trans q.symm⟩) (by omega)
  exact L_22 ((u.1.2.2.1 r - (1 : Int)).toNat + 1) (ax + ay) (ax + ay) 1 ls (lv_sub hl [3, 4, 5, 2, 1, 0] rfl) (by omega) (by omega) (fun k h1 h2 => by rw [show k = 0 by omega, e0]; omega) (⟨0, by omega, by omega, e0⟩) (⟨0, by omega, by omega, e0⟩) (Nat.lt_succ_self _)

set_option maxHeartbeats 4000000 in
set_option maxRecDepth 100000 in
theorem c_X11_widthN (l : Launch) (D : JD) (q : Nat → Nat) (u : CS) (s : Int) (a : Int) (b : Int) (p0 : CI u) (p1 : -2147483648 ≤ s ∧ s ≤ 2147483647) (p2 : -2147483648 ≤ a ∧ a ≤ 2147483647) (p3 : -2147483648 ≤ b ∧ b ≤ 2147483647) : Met l yX11_width (jw yX11_width cX11_width 5 (some .int)) (jr 3 66) (jP [.ref (q 0), .int (J s), .int (J a), .int (J b)] D (fun H => va_P D.1 j_cl (cW D q u) H)) (jRi (fun z => wiC u s a b z ∧ wRg z)) 0 0 (fun _ => False) := by
  refine Met.ofW (cc := cX11_width) (maxL := 5) (ret := (some .int)) (by decide) rfl ?_
  intro pr en st mi args below meth co s₁ B hml hv
  obtain ⟨rfl, hG, hP⟩ := hv
  have hr := B.returns
  have hlk := B.notSynchronized
  have SS : jS pr mi co cX11_width 5 st _ RX11 := ⟨B.exec, B.bytes, hml, findClass_of_methodNamed B.named, fun w hw => atoms_spec (ws := (jw yX11_width cX11_width 5 (some .int))) B.pre w (List.mem_cons_of_mem _ hw)⟩
  have hl := lv_entry ([.ref (q 0), .int (J s), .int (J a), .int (J b)]) (n := 5) (Nat.le_of_ble_eq_true rfl)
  rw [lg_entry_eq]
  generalize (lg_sl ([.ref (q 0), .int (J s), .int (J a), .int (J b)]) ++ List.replicate (5 - (lg_sl ([.ref (q 0), .int (J s), .int (J a), .int (J b)])).length) Slot.unset).toArray = ls at hl ⊢
  have hl : lv_has ls 5 [(0, .ref (q 0)), (1, .int (J s)), (2, .int (J a)), (3, .int (J b))] := hl
  refine lv_aload_n SS.1 SS.2.1 dX11_width_0 rfl (lv_at hl 0 rfl) ?_
  refine lv_iload_n SS.1 SS.2.1 dX11_width_1 rfl (lv_at hl 1 rfl) ?_
  refine j_vSh SS (As := [.int (J s)]) (rest := []) (c_X11_shapeAt l D q u  s (show -2147483648 ≤ s ∧ s ≤ 2147483647 from (p1))) mf_X11_shapeAt kw_414 hG hP hP (ci := 11) (q0 := 0) rfl rfl rfl rfl hl.1 ⟨⟨Nat.le_of_ble_eq_true rfl, Nat.le_of_ble_eq_true rfl⟩, Nat.le_of_ble_eq_true rfl, Nat.le_refl _, Nat.le_refl _⟩ rfl dX11_width_2 (fun i_2 hi_2 hz_2 => ?_) (fun hn_2 => ?_)
  · skip
    have hI2 := CI_s p0 (show i_2 < 8 by omega)
    have hI2c := hI2.1
    have hrl2 := rl_s (show i_2 < 8 by omega)
    refine lv_astore (lv' := [(4, .ref (q (8 + 5 * i_2))), (0, .ref (q 0)), (1, .int (J s)), (2, .int (J a)), (3, .int (J b))]) SS.1 SS.2.1 dX11_width_5 hl (by decide) rfl (fun ls hl => ?_)
    refine lv_aload SS.1 SS.2.1 dX11_width_7 (lv_at hl 0 rfl) ?_
    refine lv_ifnull SS.1 SS.2.1 dX11_width_9 ?_
    refine lv_iload_n SS.1 SS.2.1 dX11_width_12 rfl (lv_at hl 3 rfl) ?_
    refine lv_iload_n SS.1 SS.2.1 dX11_width_13 rfl (lv_at hl 4 rfl) ?_
    refine j_sRi SS (As := [.int (J a), .int (J b)]) (rest := []) (c_X11_isWay l D  a b (show -2147483648 ≤ a ∧ a ≤ 2147483647 from (p2)) (show -2147483648 ≤ b ∧ b ≤ 2147483647 from (p3))) mf_X11_isWay kw_627 hG trivial rfl hl.1 ⟨⟨Nat.le_of_ble_eq_true rfl, Nat.le_of_ble_eq_true rfl⟩, Nat.le_of_ble_eq_true rfl, Nat.le_refl _, Nat.le_refl _⟩ rfl dX11_width_14 (fun z_14 h_14 => ?_)
    have h_14 : (z_14 = 1 ∧ (0 ≤ a ∧ a ≤ 100 ∧ -100 ≤ b ∧ b ≤ 100) ∧ ((a = 0 ∧ b = 1) ∨ (a ≠ 0 ∧ (Int.gcd a b : Int) = 1))) ∨ (z_14 = 0 ∧ ¬ ((0 ≤ a ∧ a ≤ 100 ∧ -100 ≤ b ∧ b ≤ 100) ∧ ((a = 0 ∧ b = 1) ∨ (a ≠ 0 ∧ (Int.gcd a b : Int) = 1)))) := h_14
    refine j_if_ne SS (tgt := 22) (x := z_14) dX11_width_17 (by decide) (by omega) (fun c_17 => ?_) (fun c_17 => ?_)
    · skip
      refine lv_aload SS.1 SS.2.1 dX11_width_22 (lv_at hl 0 rfl) ?_
      refine j_get SS hG hP (8 + 5 * i_2) (v := .ref (q (9 + 5 * i_2))) (C := RX10) (T := TX10) (N := 3) (cw_shape (by omega)) rfl inX10 0 (by decide) (ref := "GridPolygons$Shape") kw_151 rfl rfl dX11_width_24 ?_
      refine j_getS SS hG hP (9 + 5 * i_2) (v := .int (J (u.1.2.2.1 i_2))) (C := RX7) (T := TX7) (N := 3) (cw_ring (by omega)) rfl inX7 2 (by decide) (ref := "GridPolygons$Ring") kw_135 kw_132 rfl dX11_width_27 ?_
      refine j_if_ne SS (tgt := 38) (x := (u.1.2.2.1 i_2)) dX11_width_30 (by decide) (by omega) (fun c_30 => ?_) (fun c_30 => ?_)
      · skip
        refine lv_aload SS.1 SS.2.1 dX11_width_38 (lv_at hl 0 rfl) ?_
        refine j_get SS hG hP (8 + 5 * i_2) (v := .ref (q (9 + 5 * i_2))) (C := RX10) (T := TX10) (N := 3) (cw_shape (by omega)) rfl inX10 0 (by decide) (ref := "GridPolygons$Shape") kw_151 rfl rfl dX11_width_40 ?_
        refine lv_iload_n SS.1 SS.2.1 dX11_width_43 rfl (lv_at hl 3 rfl) ?_
        refine lv_iload_n SS.1 SS.2.1 dX11_width_44 rfl (lv_at hl 4 rfl) ?_
        refine j_vRi SS (As := [.int (J a), .int (J b)]) (rest := []) (c_X7_across2 l D q u i_2 (by omega) (80 : Int) a b (show 0 ≤ (80 : Int) ∧ (80 : Int) ≤ 80 from (by omega)) (show RB (80 : Int) u i_2 from (show RB 80 u i_2 from CI_s p0 (by omega))) (show -20000 ≤ a ∧ a ≤ 20000 from (by omega)) (show -20000 ≤ b ∧ b ≤ 20000 from (by omega)) (show 1 ≤ (u.1.2.2.1 i_2) from (by omega))) mf_X7_across kw_631 hG hP hP (ci := 7) (q0 := (9 + 5 * i_2)) rfl (cw_ring (by omega)) rfl rfl hl.1 ⟨⟨Nat.le_of_ble_eq_true rfl, Nat.le_of_ble_eq_true rfl⟩, Nat.le_of_ble_eq_true rfl, Nat.le_refl _, Nat.le_refl _⟩ rfl dX11_width_45 (fun z_45 h_45 => ?_)
        have h_45 : spR u i_2 a b z_45 ∧ -6400000 ≤ z_45 ∧ z_45 ≤ 6400000 := h_45
        exact W.iret SS.1 SS.2.1 hr (fun t0 ht hW => ⟨_, rfl, ⟨z_45, rfl, (by first | exact ⟨Or.inl ⟨fun q => by have q1 := q.1; omega, rfl⟩, by unfold wRg; omega⟩ | exact ⟨Or.inl ⟨fun q => by have q2 := q.2; unfold wayP at q2; omega, rfl⟩, by unfold wRg; omega⟩ | exact ⟨Or.inr ⟨⟨by omega, by unfold wayP; omega⟩, by rw [show s.toNat = i_2 by omega]; first | exact Or.inl ⟨by omega, rfl⟩ | exact Or.inr ⟨by omega, h_45.1⟩⟩, by unfold wRg; omega⟩)⟩, ht⟩) (fun _ h => nomatch h) dX11_width_48 hlk
      · skip
        refine j_bipush SS dX11_width_33 (by decide +kernel) ?_
        refine lv_goto (tgt := 48) SS.1 SS.2.1 dX11_width_35 (by decide) ?_
        exact W.iret SS.1 SS.2.1 hr (fun t0 ht hW => ⟨_, rfl, ⟨(-2), rfl, (by first | exact ⟨Or.inl ⟨fun q => by have q1 := q.1; omega, rfl⟩, by unfold wRg; omega⟩ | exact ⟨Or.inl ⟨fun q => by have q2 := q.2; unfold wayP at q2; omega, rfl⟩, by unfold wRg; omega⟩ | exact ⟨Or.inr ⟨⟨by omega, by unfold wayP; omega⟩, by rw [show s.toNat = i_2 by omega]; first | exact Or.inl ⟨by omega, rfl⟩ | exact Or.inr ⟨by omega, h_45.1⟩⟩, by unfold wRg; omega⟩)⟩, ht⟩) (fun _ h => nomatch h) dX11_width_48 hlk
    · skip
      refine j_iconst SS dX11_width_20 ?_
      exact W.iret SS.1 SS.2.1 hr (fun t0 ht hW => ⟨_, rfl, ⟨(-1), rfl, (by first | exact ⟨Or.inl ⟨fun q => by have q1 := q.1; omega, rfl⟩, by unfold wRg; omega⟩ | exact ⟨Or.inl ⟨fun q => by have q2 := q.2; unfold wayP at q2; omega, rfl⟩, by unfold wRg; omega⟩ | exact ⟨Or.inr ⟨⟨by omega, by unfold wayP; omega⟩, by rw [show s.toNat = i_2 by omega]; first | exact Or.inl ⟨by omega, rfl⟩ | exact Or.inr ⟨by omega, h_45.1⟩⟩, by unfold wRg; omega⟩)⟩, ht⟩) (fun _ h => nomatch h) dX11_width_21 hlk
  · skip
    refine lv_astoreN (lv' := [(4, .null), (0, .ref (q 0)), (1, .int (J s)), (2, .int (J a)), (3, .int (J b))]) SS.1 SS.2.1 dX11_width_5 hl (by decide) rfl (fun ls hl => ?_)
    refine lv_aloadN SS.1 SS.2.1 dX11_width_7 (lv_at hl 0 rfl) ?_
    refine lv_ifnullN SS.1 SS.2.1 (tgt := 20) dX11_width_9 (by decide) ?_
    refine j_iconst SS dX11_width_20 ?_
    exact W.iret SS.1 SS.2.1 hr (fun t0 ht hW => ⟨_, rfl, ⟨(-1), rfl, (by first | exact ⟨Or.inl ⟨fun q => by have q1 := q.1; omega, rfl⟩, by unfold wRg; omega⟩ | exact ⟨Or.inl ⟨fun q => by have q2 := q.2; unfold wayP at q2; omega, rfl⟩, by unfold wRg; omega⟩ | exact ⟨Or.inr ⟨⟨by omega, by unfold wayP; omega⟩, by rw [show s.toNat = i_2 by omega]; first | exact Or.inl ⟨by omega, rfl⟩ | exact Or.inr ⟨by omega, h_45.1⟩⟩, by unfold wRg; omega⟩)⟩, ht⟩) (fun _ h => nomatch h) dX11_width_21 hlk

set_option maxHeartbeats 4000000 in
set_option maxRecDepth 100000 in
theorem c_X12_widthOf2 (l : Launch) (D : JD) (o : Nat) (q : Nat → Nat) (u : MS) (s : Int) (a : Int) (b : Int) (p0 : 0 ≤ s ∧ s ≤ 7) (p1 : Sh u s) (p2 : 0 < mN u s) (p3 : -1000000 ≤ a ∧ a ≤ 1000000) (p4 : -1000000 ≤ b ∧ b ≤ 1000000) : Met l yX12_widthOf (jw yX12_widthOf cX12_widthOf 8 (some .int)) (jr 1 22) (jP [.ref o, .int (J s), .int (J a), .int (J b)] D (fun H => va_P D.1 j_cl (mW D o q u) H)) (jRi (fun z => wdM u s a b z ∧ 0 ≤ z ∧ z ≤ 400000000)) 0 0 (fun _ => False) := by
  refine Met.ofW (cc := cX12_widthOf) (maxL := 8) (ret := (some .int)) (by decide) rfl ?_
  intro pr en st mi args below meth co s₁ B hml hv
  obtain ⟨rfl, hG, hP⟩ := hv
  have hr := B.returns
  have hlk := B.notSynchronized
  have SS : jS pr mi co cX12_widthOf 8 st _ RX12 := ⟨B.exec, B.bytes, hml, findClass_of_methodNamed B.named, fun w hw => atoms_spec (ws := (jw yX12_widthOf cX12_widthOf 8 (some .int))) B.pre w (List.mem_cons_of_mem _ hw)⟩
  have hl := lv_entry ([.ref o, .int (J s), .int (J a), .int (J b)]) (n := 8) (Nat.le_of_ble_eq_true rfl)
  rw [lg_entry_eq]
  generalize (lg_sl ([.ref o, .int (J s), .int (J a), .int (J b)]) ++ List.replicate (8 - (lg_sl ([.ref o, .int (J s), .int (J a), .int (J b)])).length) Slot.unset).toArray = ls at hl ⊢
  have hl : lv_has ls 8 [(0, .ref o), (1, .int (J s)), (2, .int (J a)), (3, .int (J b))] := hl
  have hN := p1.1
  have hC := p1.2.2
  have hb0 := p1.2.1 (by omega) 0 (by omega)
  have m1 := mulb (A := 1000000) (B := 40) p3 hb0.1
  have m2 := mulb (A := 1000000) (B := 40) p4 hb0.2
  refine lv_iload_n SS.1 SS.2.1 dX12_widthOf_0 rfl (lv_at hl 2 rfl) ?_
  refine lv_aload_n SS.1 SS.2.1 dX12_widthOf_1 rfl (lv_at hl 0 rfl) ?_
  refine lv_iload_n SS.1 SS.2.1 dX12_widthOf_2 rfl (lv_at hl 1 rfl) ?_
  refine j_iconst SS dX12_widthOf_3 ?_
  refine j_vRi SS (As := [.int (J s), .int (J 0)]) (rest := [.int (J a)]) (c_X12_x l D o q u s 0 (show 0 ≤ s ∧ s ≤ 7 from (by omega)) (show 0 ≤ (0 : Int) ∧ (0 : Int) ≤ 1000000 from (by omega)) (show 0 < mN u s ∧ mN u s ≤ 24 from (by first | omega | (have hq := (show Sh u s from p1).1; omega)))) mf_X12_x kw_1177 hG hP hP (ci := 8) (q0 := 0) rfl rfl rfl rfl hl.1 ⟨⟨Nat.le_of_ble_eq_true rfl, Nat.le_of_ble_eq_true rfl⟩, Nat.le_of_ble_eq_true rfl, Nat.le_refl _, Nat.le_refl _⟩ rfl dX12_widthOf_4 (fun z_4 h_4 => ?_)
  have h_4 : z_4 = mX u s (0 : Int) := h_4
  have hb_4 := (show Sh u s from p1).2.1 (by omega) (0 : Int) (by omega)
  refine j_imul SS (x := a) (y := z_4) dX12_widthOf_7 ?_
  obtain ⟨v5a, ev5a⟩ : ∃ z : Int, z = (a * z_4) := ⟨_, rfl⟩
  rw [← ev5a]
  refine lv_iload_n SS.1 SS.2.1 dX12_widthOf_8 rfl (lv_at hl 3 rfl) ?_
  refine lv_aload_n SS.1 SS.2.1 dX12_widthOf_9 rfl (lv_at hl 0 rfl) ?_
  refine lv_iload_n SS.1 SS.2.1 dX12_widthOf_10 rfl (lv_at hl 1 rfl) ?_
  refine j_iconst SS dX12_widthOf_11 ?_
  refine j_vRi SS (As := [.int (J s), .int (J 0)]) (rest := [.int (J b), .int (J v5a)]) (c_X12_y l D o q u s 0 (show 0 ≤ s ∧ s ≤ 7 from (by omega)) (show 0 ≤ (0 : Int) ∧ (0 : Int) ≤ 1000000 from (by omega)) (show 0 < mN u s ∧ mN u s ≤ 24 from (by first | omega | (have hq := (show Sh u s from p1).1; omega)))) mf_X12_y kw_1181 hG hP hP (ci := 8) (q0 := 0) rfl rfl rfl rfl hl.1 ⟨⟨Nat.le_of_ble_eq_true rfl, Nat.le_of_ble_eq_true rfl⟩, Nat.le_of_ble_eq_true rfl, Nat.le_refl _, Nat.le_refl _⟩ rfl dX12_widthOf_12 (fun z_12 h_12 => ?_)
  have h_12 : z_12 = mY u s (0 : Int) := h_12
  have hb_12 := (show Sh u s from p1).2.1 (by omega) (0 : Int) (by omega)
  refine j_imul SS (x := b) (y := z_12) dX12_widthOf_15 ?_
  obtain ⟨v5b, ev5b⟩ : ∃ z : Int, z = (b * z_12) := ⟨_, rfl⟩
  rw [← ev5b]
  refine j_iadd SS (x := v5a) (y := v5b) dX12_widthOf_16 ?_
  obtain ⟨v4, ev4⟩ : ∃ z : Int, z = (v5a + v5b) := ⟨_, rfl⟩
  rw [← ev4]
  rw [h_4] at ev5a
  rw [h_12] at ev5b
  refine lv_istore (lv' := [(4, .int (J v4)), (0, .ref o), (1, .int (J s)), (2, .int (J a)), (3, .int (J b))]) SS.1 SS.2.1 dX12_widthOf_17 hl (by decide) rfl (fun ls hl => ?_)
  refine lv_iload SS.1 SS.2.1 dX12_widthOf_19 (lv_at hl 0 rfl) ?_
  refine lv_istore (lv' := [(5, .int (J v4)), (4, .int (J v4)), (0, .ref o), (1, .int (J s)), (2, .int (J a)), (3, .int (J b))]) SS.1 SS.2.1 dX12_widthOf_21 hl (by decide) rfl (fun ls hl => ?_)
  refine j_iconst SS dX12_widthOf_23 ?_
  refine lv_istore (lv' := [(6, .int (J 1)), (5, .int (J v4)), (4, .int (J v4)), (0, .ref o), (1, .int (J s)), (2, .int (J a)), (3, .int (J b))]) SS.1 SS.2.1 dX12_widthOf_24 hl (by decide) rfl (fun ls hl => ?_)
  have L_26 : ∀ (nn : Nat) (lo : Int) (hi : Int) (i : Int) (ls : Array Slot) (hl : lv_has ls 8 [(0, .ref o), (1, .int (J s)), (2, .int (J a)), (3, .int (J b)), (4, .int (J lo)), (5, .int (J hi)), (6, .int (J i))]) (i26_0 : 1 ≤ i ∧ i ≤ 100) (i26_1 : -200000000 ≤ lo ∧ lo ≤ 200000000) (i26_2 : -200000000 ≤ hi ∧ hi ≤ 200000000) (i26_3 : lo ≤ hi) (i26_4 : ∀ k : Int, 0 ≤ k → k < i → lo ≤ (a * mX u s k + b * mY u s k) ∧ (a * mX u s k + b * mY u s k) ≤ hi) (i26_5 : ∃ k : Int, 0 ≤ k ∧ k < mN u s ∧ (a * mX u s k + b * mY u s k) = lo) (i26_6 : ∃ k : Int, 0 ≤ k ∧ k < mN u s ∧ (a * mX u s k + b * mY u s k) = hi), ((100 : Int) - i).toNat < nn → W pr l en (headSpec (jw yX12_widthOf cX12_widthOf 8 (some .int)) (jr 1 22)).room st mi (([.ref o, .int (J s), .int (J a), .int (J b)] : List Value).toArray) below meth co st.heap [] 0 0 (MQ below (jRi (fun z => wdM u s a b z ∧ 0 ≤ z ∧ z ≤ 400000000)) (([.ref o, .int (J s), .int (J a), .int (J b)] : List Value).toArray) st 0 0 (fun _ => False)) (F0 mi 26 ls []) := by
    intro nn
    induction nn with
    | zero => intros; omega
    | succ nn ih_26 =>
      intro lo hi i ls hl i26_0 i26_1 i26_2 i26_3 i26_4 i26_5 i26_6 hm
      refine lv_iload SS.1 SS.2.1 dX12_widthOf_26 (lv_at hl 6 rfl) ?_
      refine lv_aload_n SS.1 SS.2.1 dX12_widthOf_28 rfl (lv_at hl 0 rfl) ?_
      refine j_get SS hG hP 0 (v := .ref (q 0)) (C := RX12) (T := TX12) (N := 31) rfl rfl inX12 0 (by decide) (ref := RX12) kw_1058 rfl rfl dX12_widthOf_29 ?_
      refine lv_iload_n SS.1 SS.2.1 dX12_widthOf_32 rfl (lv_at hl 1 rfl) ?_
      refine j_iald SS hG hP 1 (n := 8) (f := (u.1 0)) rfl (z := s) (by omega) (by omega) dX12_widthOf_33 ?_
      have hN_33 := (show Sh u s from p1).1
      refine j_icmp_ge SS (tgt := 96) (x := i) (y := (mN u s)) dX12_widthOf_34 (by decide) (by omega) (by omega) (fun c_34 => ?_) (fun c_34 => ?_)
      · skip
        refine lv_iload SS.1 SS.2.1 dX12_widthOf_96 (lv_at hl 5 rfl) ?_
        refine lv_iload SS.1 SS.2.1 dX12_widthOf_98 (lv_at hl 4 rfl) ?_
        refine j_isub SS (x := hi) (y := lo) dX12_widthOf_100 ?_
        exact W.iret SS.1 SS.2.1 hr (fun t ht hW => ⟨_, rfl, ⟨(hi - lo), rfl, (⟨⟨lo, hi, fun k h1 h2 => i26_4 k h1 (by omega), i26_5, i26_6, rfl⟩, by omega, by omega⟩)⟩, ht⟩) (fun _ h => nomatch h) dX12_widthOf_101 hlk
      · skip
        have hbi := p1.2.1 (by omega) i (by omega)
        have m3 := mulb (A := 1000000) (B := 40) p3 hbi.1
        have m4 := mulb (A := 1000000) (B := 40) p4 hbi.2
        refine lv_iload_n SS.1 SS.2.1 dX12_widthOf_37 rfl (lv_at hl 2 rfl) ?_
        refine lv_aload_n SS.1 SS.2.1 dX12_widthOf_38 rfl (lv_at hl 0 rfl) ?_
        refine lv_iload_n SS.1 SS.2.1 dX12_widthOf_39 rfl (lv_at hl 1 rfl) ?_
        refine lv_iload SS.1 SS.2.1 dX12_widthOf_40 (lv_at hl 6 rfl) ?_
        refine j_vRi SS (As := [.int (J s), .int (J i)]) (rest := [.int (J a)]) (c_X12_x l D o q u s i (show 0 ≤ s ∧ s ≤ 7 from (by omega)) (show 0 ≤ i ∧ i ≤ 1000000 from (by omega)) (show 0 < mN u s ∧ mN u s ≤ 24 from (by first | omega | (have hq := (show Sh u s from p1).1; omega)))) mf_X12_x kw_1177 hG hP hP (ci := 8) (q0 := 0) rfl rfl rfl rfl hl.1 ⟨⟨Nat.le_of_ble_eq_true rfl, Nat.le_of_ble_eq_true rfl⟩, Nat.le_of_ble_eq_true rfl, Nat.le_refl _, Nat.le_refl _⟩ rfl dX12_widthOf_42 (fun z_42 h_42 => ?_)
        have h_42 : z_42 = mX u s i := h_42
        have hb_42 := (show Sh u s from p1).2.1 (by omega) i (by omega)
        refine j_imul SS (x := a) (y := z_42) dX12_widthOf_45 ?_
        obtain ⟨v6a, ev6a⟩ : ∃ z : Int, z = (a * z_42) := ⟨_, rfl⟩
        rw [← ev6a]
        refine lv_iload_n SS.1 SS.2.1 dX12_widthOf_46 rfl (lv_at hl 3 rfl) ?_
        refine lv_aload_n SS.1 SS.2.1 dX12_widthOf_47 rfl (lv_at hl 0 rfl) ?_
        refine lv_iload_n SS.1 SS.2.1 dX12_widthOf_48 rfl (lv_at hl 1 rfl) ?_
        refine lv_iload SS.1 SS.2.1 dX12_widthOf_49 (lv_at hl 6 rfl) ?_
        refine j_vRi SS (As := [.int (J s), .int (J i)]) (rest := [.int (J b), .int (J v6a)]) (c_X12_y l D o q u s i (show 0 ≤ s ∧ s ≤ 7 from (by omega)) (show 0 ≤ i ∧ i ≤ 1000000 from (by omega)) (show 0 < mN u s ∧ mN u s ≤ 24 from (by first | omega | (have hq := (show Sh u s from p1).1; omega)))) mf_X12_y kw_1181 hG hP hP (ci := 8) (q0 := 0) rfl rfl rfl rfl hl.1 ⟨⟨Nat.le_of_ble_eq_true rfl, Nat.le_of_ble_eq_true rfl⟩, Nat.le_of_ble_eq_true rfl, Nat.le_refl _, Nat.le_refl _⟩ rfl dX12_widthOf_51 (fun z_51 h_51 => ?_)
        have h_51 : z_51 = mY u s i := h_51
        have hb_51 := (show Sh u s from p1).2.1 (by omega) i (by omega)
        refine j_imul SS (x := b) (y := z_51) dX12_widthOf_54 ?_
        obtain ⟨v6b, ev6b⟩ : ∃ z : Int, z = (b * z_51) := ⟨_, rfl⟩
        rw [← ev6b]
        refine j_iadd SS (x := v6a) (y := v6b) dX12_widthOf_55 ?_
        obtain ⟨v7, ev7⟩ : ∃ z : Int, z = (v6a + v6b) := ⟨_, rfl⟩
        rw [← ev7]
        rw [h_42] at ev6a
        rw [h_51] at ev6b
        refine lv_istore (lv' := [(7, .int (J v7)), (0, .ref o), (1, .int (J s)), (2, .int (J a)), (3, .int (J b)), (4, .int (J lo)), (5, .int (J hi)), (6, .int (J i))]) SS.1 SS.2.1 dX12_widthOf_56 hl (by decide) rfl (fun ls hl => ?_)
        refine lv_iload SS.1 SS.2.1 dX12_widthOf_58 (lv_at hl 0 rfl) ?_
        refine lv_iload SS.1 SS.2.1 dX12_widthOf_60 (lv_at hl 5 rfl) ?_
        have L_72 : ∀ (c1 : Int) (ls : Array Slot) (hl : lv_has ls 8 [(0, .ref o), (1, .int (J s)), (2, .int (J a)), (3, .int (J b)), (4, .int (J lo)), (5, .int (J hi)), (6, .int (J i)), (7, .int (J v7))]) (i72_0 : c1 ≤ lo ∧ (c1 = lo ∨ c1 = v7)) (i72_1 : c1 ≤ v7), W pr l en (headSpec (jw yX12_widthOf cX12_widthOf 8 (some .int)) (jr 1 22)).room st mi (([.ref o, .int (J s), .int (J a), .int (J b)] : List Value).toArray) below meth co st.heap [] 0 0 (MQ below (jRi (fun z => wdM u s a b z ∧ 0 ≤ z ∧ z ≤ 400000000)) (([.ref o, .int (J s), .int (J a), .int (J b)] : List Value).toArray) st 0 0 (fun _ => False)) (F0 mi 72 ls [.int (J c1)]) := by
          intro c1 ls hl i72_0 i72_1
          refine lv_istore (lv' := [(4, .int (J c1)), (0, .ref o), (1, .int (J s)), (2, .int (J a)), (3, .int (J b)), (5, .int (J hi)), (6, .int (J i)), (7, .int (J v7))]) SS.1 SS.2.1 dX12_widthOf_72 hl (by decide) rfl (fun ls hl => ?_)
          refine lv_iload SS.1 SS.2.1 dX12_widthOf_74 (lv_at hl 7 rfl) ?_
          refine lv_iload SS.1 SS.2.1 dX12_widthOf_76 (lv_at hl 5 rfl) ?_
          have L_88 : ∀ (c2 : Int) (ls : Array Slot) (hl : lv_has ls 8 [(0, .ref o), (1, .int (J s)), (2, .int (J a)), (3, .int (J b)), (4, .int (J c1)), (5, .int (J hi)), (6, .int (J i)), (7, .int (J v7))]) (i88_0 : hi ≤ c2 ∧ (c2 = hi ∨ c2 = v7)) (i88_1 : v7 ≤ c2), W pr l en (headSpec (jw yX12_widthOf cX12_widthOf 8 (some .int)) (jr 1 22)).room st mi (([.ref o, .int (J s), .int (J a), .int (J b)] : List Value).toArray) below meth co st.heap [] 0 0 (MQ below (jRi (fun z => wdM u s a b z ∧ 0 ≤ z ∧ z ≤ 400000000)) (([.ref o, .int (J s), .int (J a), .int (J b)] : List Value).toArray) st 0 0 (fun _ => False)) (F0 mi 88 ls [.int (J c2)]) := by
            intro c2 ls hl i88_0 i88_1
            refine lv_istore (lv' := [(5, .int (J c2)), (0, .ref o), (1, .int (J s)), (2, .int (J a)), (3, .int (J b)), (4, .int (J c1)), (6, .int (J i)), (7, .int (J v7))]) SS.1 SS.2.1 dX12_widthOf_88 hl (by decide) rfl (fun ls hl => ?_)
            refine lv_iinc (v := J (i + 1)) (lv' := [(6, .int (J (i + 1))), (5, .int (J c2)), (0, .ref o), (1, .int (J s)), (2, .int (J a)), (3, .int (J b)), (4, .int (J c1)), (7, .int (J v7))]) SS.1 SS.2.1 dX12_widthOf_90 hl (k := 6) rfl (J_add _ _) (by decide) rfl (fun ls hl => ?_)
            refine lv_goto (tgt := 26) SS.1 SS.2.1 dX12_widthOf_93 (by decide) ?_
            exact ih_26 c1 c2 (i + 1) ls (lv_sub hl [2, 3, 4, 5, 6, 1, 0] rfl) (by omega) (by omega) (by omega) (by omega) (fun k h1 h2 => by first | (rw [show k = 0 by omega, ← ev5a, ← ev5b]; omega) | (by_cases e : k = i; (rw [e, ← ev6a, ← ev6b]; omega); have := i26_4 k h1 (by omega); omega)) (by first | exact ⟨0, by omega, by omega, by rw [← ev5a, ← ev5b]; omega⟩ | (rcases i72_0.2 with q | q; (obtain ⟨k, k1, k2, k3⟩ := i26_5; exact ⟨k, k1, k2, k3.trans q.symm⟩); exact ⟨i, by omega, by omega, by rw [← ev6a, ← ev6b]; omega⟩)) (by first | exact ⟨0, by omega, by omega, by rw [← ev5a, ← ev5b]; omega⟩ | (rcases i88_0.2 with q | q; (obtain ⟨k, k1, k2, k3⟩ := i26_6; exact ⟨k, k1, k2, k3.trans q.symm⟩); exact ⟨i, by omega, by omega, by rw [← ev6a, ← ev6b]; omega⟩)) (by omega)
          refine j_icmp_le SS (tgt := 86) (x := v7) (y := hi) dX12_widthOf_78 (by decide) (by omega) (by omega) (fun c_78 => ?_) (fun c_78 => ?_)
          · skip
            refine lv_iload SS.1 SS.2.1 dX12_widthOf_86 (lv_at hl 5 rfl) ?_
            exact L_88 hi ls (lv_sub hl [1, 2, 3, 4, 0, 5, 6, 7] rfl) (by omega) (by omega)
          · skip
            refine lv_iload SS.1 SS.2.1 dX12_widthOf_81 (lv_at hl 7 rfl) ?_
            refine lv_goto (tgt := 88) SS.1 SS.2.1 dX12_widthOf_83 (by decide) ?_
            exact L_88 v7 ls (lv_sub hl [1, 2, 3, 4, 0, 5, 6, 7] rfl) (by omega) (by omega)
        refine j_icmp_ge SS (tgt := 70) (x := v7) (y := lo) dX12_widthOf_62 (by decide) (by omega) (by omega) (fun c_62 => ?_) (fun c_62 => ?_)
        · skip
          refine lv_iload SS.1 SS.2.1 dX12_widthOf_70 (lv_at hl 5 rfl) ?_
          exact L_72 lo ls (lv_sub hl [1, 2, 3, 4, 5, 6, 7, 0] rfl) (by omega) (by omega)
        · skip
          refine lv_iload SS.1 SS.2.1 dX12_widthOf_65 (lv_at hl 0 rfl) ?_
          refine lv_goto (tgt := 72) SS.1 SS.2.1 dX12_widthOf_67 (by decide) ?_
          exact L_72 v7 ls (lv_sub hl [1, 2, 3, 4, 5, 6, 7, 0] rfl) (by omega) (by omega)
  exact L_26 (((100 : Int) - (1 : Int)).toNat + 1) v4 v4 1 ls (lv_sub hl [3, 4, 5, 6, 2, 1, 0] rfl) (by omega) (by omega) (by omega) (by omega) (fun k h1 h2 => by first | (rw [show k = 0 by omega, ← ev5a, ← ev5b]; omega) | (by_cases e : k = i; (rw [e, ← ev6a, ← ev6b]; omega); have := i26_4 k h1 (by omega); omega)) (by first | exact ⟨0, by omega, by omega, by rw [← ev5a, ← ev5b]; omega⟩ | (rcases i72_0.2 with q | q; (obtain ⟨k, k1, k2, k3⟩ := i26_5; exact ⟨k, k1, k2, k3.trans q.symm⟩); exact ⟨i, by omega, by omega, by rw [← ev6a, ← ev6b]; omega⟩)) (by first | exact ⟨0, by omega, by omega, by rw [← ev5a, ← ev5b]; omega⟩ | (rcases i88_0.2 with q | q; (obtain ⟨k, k1, k2, k3⟩ := i26_6; exact ⟨k, k1, k2, k3.trans q.symm⟩); exact ⟨i, by omega, by omega, by rw [← ev6a, ← ev6b]; omega⟩)) (Nat.lt_succ_self _)

set_option maxHeartbeats 4000000 in
set_option maxRecDepth 100000 in
theorem c_X12_width2 (l : Launch) (D : JD) (o : Nat) (q : Nat → Nat) (u : MS) (s : Int) (a : Int) (b : Int) (p0 : IM u) (p1 : -2147483648 ≤ s ∧ s ≤ 2147483647) (p2 : -2147483648 ≤ a ∧ a ≤ 2147483647) (p3 : -2147483648 ≤ b ∧ b ≤ 2147483647) : Met l yX12_width (jw yX12_width cX12_width 4 (some .int)) (jr 3 65) (jP [.ref o, .int (J s), .int (J a), .int (J b)] D (fun H => va_P D.1 j_cl (mW D o q u) H)) (jRi (fun z => wiM u s a b z)) 0 0 (fun _ => False) := by
  refine Met.ofW (cc := cX12_width) (maxL := 4) (ret := (some .int)) (by decide) rfl ?_
  intro pr en st mi args below meth co s₁ B hml hv
  obtain ⟨rfl, hG, hP⟩ := hv
  have hr := B.returns
  have hlk := B.notSynchronized
  have SS : jS pr mi co cX12_width 4 st _ RX12 := ⟨B.exec, B.bytes, hml, findClass_of_methodNamed B.named, fun w hw => atoms_spec (ws := (jw yX12_width cX12_width 4 (some .int))) B.pre w (List.mem_cons_of_mem _ hw)⟩
  have hl := lv_entry ([.ref o, .int (J s), .int (J a), .int (J b)]) (n := 4) (Nat.le_of_ble_eq_true rfl)
  rw [lg_entry_eq]
  generalize (lg_sl ([.ref o, .int (J s), .int (J a), .int (J b)]) ++ List.replicate (4 - (lg_sl ([.ref o, .int (J s), .int (J a), .int (J b)])).length) Slot.unset).toArray = ls at hl ⊢
  have hl : lv_has ls 4 [(0, .ref o), (1, .int (J s)), (2, .int (J a)), (3, .int (J b))] := hl
  have hg1 := way_g a b
  refine lv_iload_n SS.1 SS.2.1 dX12_width_0 rfl (lv_at hl 1 rfl) ?_
  refine j_sRi SS (As := [.int (J s)]) (rest := []) (c_X12_isShape l D s (show -2147483648 ≤ s ∧ s ≤ 2147483647 from (by omega))) mf_X12_isShape kw_1156 hG trivial rfl hl.1 ⟨⟨Nat.le_of_ble_eq_true rfl, Nat.le_of_ble_eq_true rfl⟩, Nat.le_of_ble_eq_true rfl, Nat.le_refl _, Nat.le_refl _⟩ rfl dX12_width_1 (fun z_1 h_1 => ?_)
  have h_1 : (z_1 = 1 ∧ (0 ≤ s ∧ s ≤ 7)) ∨ (z_1 = 0 ∧ ¬ (0 ≤ s ∧ s ≤ 7)) := h_1
  refine j_if_eq SS (tgt := 37) (x := z_1) dX12_width_4 (by decide) (by omega) (fun c_4 => ?_) (fun c_4 => ?_)
  · skip
    refine j_iconst SS dX12_width_37 ?_
    exact W.iret SS.1 SS.2.1 hr (fun t ht hW => ⟨_, rfl, ⟨(-1), rfl, (by first | exact Or.inl ⟨fun q => by have q1 := q.1; have q2 := q.2; unfold wayP at q2; omega, rfl⟩ | exact Or.inr ⟨⟨by omega, by unfold wayP; omega⟩, Or.inl ⟨by omega, rfl⟩⟩ | exact Or.inr ⟨⟨by omega, by unfold wayP; omega⟩, Or.inr ⟨by omega, h_57.1⟩⟩)⟩, ht⟩) (fun _ h => nomatch h) dX12_width_38 hlk
  · skip
    refine lv_iload_n SS.1 SS.2.1 dX12_width_7 rfl (lv_at hl 2 rfl) ?_
    refine j_bipush SS dX12_width_8 (by decide +kernel) ?_
    refine j_bipush SS dX12_width_10 (by decide +kernel) ?_
    refine j_sRi SS (As := [.int (J a), .int (J (-100)), .int (J 100)]) (rest := []) (c_X12_in l D a (-100) 100 (show -2147483648 ≤ a ∧ a ≤ 2147483647 from (by omega)) (show -2147483648 ≤ (-100 : Int) ∧ (-100 : Int) ≤ 2147483647 from (by omega)) (show -2147483648 ≤ (100 : Int) ∧ (100 : Int) ≤ 2147483647 from (by omega))) mf_X12_in kw_1159 hG trivial rfl hl.1 ⟨⟨Nat.le_of_ble_eq_true rfl, Nat.le_of_ble_eq_true rfl⟩, Nat.le_of_ble_eq_true rfl, Nat.le_refl _, Nat.le_refl _⟩ rfl dX12_width_12 (fun z_12 h_12 => ?_)
    have h_12 : (z_12 = 1 ∧ ((-100 : Int) ≤ a ∧ a ≤ (100 : Int))) ∨ (z_12 = 0 ∧ ¬ ((-100 : Int) ≤ a ∧ a ≤ (100 : Int))) := h_12
    refine j_if_eq SS (tgt := 37) (x := z_12) dX12_width_15 (by decide) (by omega) (fun c_15 => ?_) (fun c_15 => ?_)
    · skip
      refine j_iconst SS dX12_width_37 ?_
      exact W.iret SS.1 SS.2.1 hr (fun t ht hW => ⟨_, rfl, ⟨(-1), rfl, (by first | exact Or.inl ⟨fun q => by have q1 := q.1; have q2 := q.2; unfold wayP at q2; omega, rfl⟩ | exact Or.inr ⟨⟨by omega, by unfold wayP; omega⟩, Or.inl ⟨by omega, rfl⟩⟩ | exact Or.inr ⟨⟨by omega, by unfold wayP; omega⟩, Or.inr ⟨by omega, h_57.1⟩⟩)⟩, ht⟩) (fun _ h => nomatch h) dX12_width_38 hlk
    · skip
      refine lv_iload_n SS.1 SS.2.1 dX12_width_18 rfl (lv_at hl 3 rfl) ?_
      refine j_bipush SS dX12_width_19 (by decide +kernel) ?_
      refine j_bipush SS dX12_width_21 (by decide +kernel) ?_
      refine j_sRi SS (As := [.int (J b), .int (J (-100)), .int (J 100)]) (rest := []) (c_X12_in l D b (-100) 100 (show -2147483648 ≤ b ∧ b ≤ 2147483647 from (by omega)) (show -2147483648 ≤ (-100 : Int) ∧ (-100 : Int) ≤ 2147483647 from (by omega)) (show -2147483648 ≤ (100 : Int) ∧ (100 : Int) ≤ 2147483647 from (by omega))) mf_X12_in kw_1159 hG trivial rfl hl.1 ⟨⟨Nat.le_of_ble_eq_true rfl, Nat.le_of_ble_eq_true rfl⟩, Nat.le_of_ble_eq_true rfl, Nat.le_refl _, Nat.le_refl _⟩ rfl dX12_width_23 (fun z_23 h_23 => ?_)
      have h_23 : (z_23 = 1 ∧ ((-100 : Int) ≤ b ∧ b ≤ (100 : Int))) ∨ (z_23 = 0 ∧ ¬ ((-100 : Int) ≤ b ∧ b ≤ (100 : Int))) := h_23
      refine j_if_eq SS (tgt := 37) (x := z_23) dX12_width_26 (by decide) (by omega) (fun c_26 => ?_) (fun c_26 => ?_)
      · skip
        refine j_iconst SS dX12_width_37 ?_
        exact W.iret SS.1 SS.2.1 hr (fun t ht hW => ⟨_, rfl, ⟨(-1), rfl, (by first | exact Or.inl ⟨fun q => by have q1 := q.1; have q2 := q.2; unfold wayP at q2; omega, rfl⟩ | exact Or.inr ⟨⟨by omega, by unfold wayP; omega⟩, Or.inl ⟨by omega, rfl⟩⟩ | exact Or.inr ⟨⟨by omega, by unfold wayP; omega⟩, Or.inr ⟨by omega, h_57.1⟩⟩)⟩, ht⟩) (fun _ h => nomatch h) dX12_width_38 hlk
      · skip
        refine lv_iload_n SS.1 SS.2.1 dX12_width_29 rfl (lv_at hl 2 rfl) ?_
        refine lv_iload_n SS.1 SS.2.1 dX12_width_30 rfl (lv_at hl 3 rfl) ?_
        refine j_sRi SS (As := [.int (J a), .int (J b)]) (rest := []) (c_X12_isWay l D a b (show -2147483648 < a ∧ a ≤ 2147483647 from (by omega)) (show -2147483648 < b ∧ b ≤ 2147483647 from (by omega))) mf_X12_isWay kw_1274 hG trivial rfl hl.1 ⟨⟨Nat.le_of_ble_eq_true rfl, Nat.le_of_ble_eq_true rfl⟩, Nat.le_of_ble_eq_true rfl, Nat.le_refl _, Nat.le_refl _⟩ rfl dX12_width_31 (fun z_31 h_31 => ?_)
        have h_31 : (z_31 = 1 ∧ ((Int.gcd a b : Int) = 1 ∧ (0 < a ∨ (a = 0 ∧ b = 1)))) ∨ (z_31 = 0 ∧ ¬ ((Int.gcd a b : Int) = 1 ∧ (0 < a ∨ (a = 0 ∧ b = 1)))) := h_31
        refine j_if_ne SS (tgt := 39) (x := z_31) dX12_width_34 (by decide) (by omega) (fun c_34 => ?_) (fun c_34 => ?_)
        · skip
          refine lv_aload_n SS.1 SS.2.1 dX12_width_39 rfl (lv_at hl 0 rfl) ?_
          refine j_get SS hG hP 0 (v := .ref (q 0)) (C := RX12) (T := TX12) (N := 31) rfl rfl inX12 0 (by decide) (ref := RX12) kw_1058 rfl rfl dX12_width_40 ?_
          refine lv_iload_n SS.1 SS.2.1 dX12_width_43 rfl (lv_at hl 1 rfl) ?_
          refine j_iald SS hG hP 1 (n := 8) (f := (u.1 0)) rfl (z := s) (by omega) (by omega) dX12_width_44 ?_
          have hN_44 := (show Sh u s from p0.1 _ (by omega) (by omega)).1
          refine j_if_ne SS (tgt := 53) (x := (mN u s)) dX12_width_45 (by decide) (by omega) (fun c_45 => ?_) (fun c_45 => ?_)
          · skip
            refine lv_aload_n SS.1 SS.2.1 dX12_width_53 rfl (lv_at hl 0 rfl) ?_
            refine lv_iload_n SS.1 SS.2.1 dX12_width_54 rfl (lv_at hl 1 rfl) ?_
            refine lv_iload_n SS.1 SS.2.1 dX12_width_55 rfl (lv_at hl 2 rfl) ?_
            refine lv_iload_n SS.1 SS.2.1 dX12_width_56 rfl (lv_at hl 3 rfl) ?_
            refine j_vRi SS (As := [.int (J s), .int (J a), .int (J b)]) (rest := []) (c_X12_widthOf2 l D o q u s a b (show 0 ≤ s ∧ s ≤ 7 from (by omega)) (show Sh u s from (p0.1 _ (by omega) (by omega))) (show 0 < mN u s from (by first | omega | (have hq := (show Sh u s from p0.1 _ (by omega) (by omega)).1; omega))) (show -1000000 ≤ a ∧ a ≤ 1000000 from (by omega)) (show -1000000 ≤ b ∧ b ≤ 1000000 from (by omega))) mf_X12_widthOf kw_1277 hG hP hP (ci := 8) (q0 := 0) rfl rfl rfl rfl hl.1 ⟨⟨Nat.le_of_ble_eq_true rfl, Nat.le_of_ble_eq_true rfl⟩, Nat.le_of_ble_eq_true rfl, Nat.le_refl _, Nat.le_refl _⟩ rfl dX12_width_57 (fun z_57 h_57 => ?_)
            have h_57 : wdM u s a b z_57 ∧ 0 ≤ z_57 ∧ z_57 ≤ 400000000 := h_57
            exact W.iret SS.1 SS.2.1 hr (fun t ht hW => ⟨_, rfl, ⟨z_57, rfl, (by first | exact Or.inl ⟨fun q => by have q1 := q.1; have q2 := q.2; unfold wayP at q2; omega, rfl⟩ | exact Or.inr ⟨⟨by omega, by unfold wayP; omega⟩, Or.inl ⟨by omega, rfl⟩⟩ | exact Or.inr ⟨⟨by omega, by unfold wayP; omega⟩, Or.inr ⟨by omega, h_57.1⟩⟩)⟩, ht⟩) (fun _ h => nomatch h) dX12_width_60 hlk
          · skip
            refine j_bipush SS dX12_width_48 (by decide +kernel) ?_
            refine lv_goto (tgt := 60) SS.1 SS.2.1 dX12_width_50 (by decide) ?_
            exact W.iret SS.1 SS.2.1 hr (fun t ht hW => ⟨_, rfl, ⟨(-2), rfl, (by first | exact Or.inl ⟨fun q => by have q1 := q.1; have q2 := q.2; unfold wayP at q2; omega, rfl⟩ | exact Or.inr ⟨⟨by omega, by unfold wayP; omega⟩, Or.inl ⟨by omega, rfl⟩⟩ | exact Or.inr ⟨⟨by omega, by unfold wayP; omega⟩, Or.inr ⟨by omega, h_57.1⟩⟩)⟩, ht⟩) (fun _ h => nomatch h) dX12_width_60 hlk
        · skip
          refine j_iconst SS dX12_width_37 ?_
          exact W.iret SS.1 SS.2.1 hr (fun t ht hW => ⟨_, rfl, ⟨(-1), rfl, (by first | exact Or.inl ⟨fun q => by have q1 := q.1; have q2 := q.2; unfold wayP at q2; omega, rfl⟩ | exact Or.inr ⟨⟨by omega, by unfold wayP; omega⟩, Or.inl ⟨by omega, rfl⟩⟩ | exact Or.inr ⟨⟨by omega, by unfold wayP; omega⟩, Or.inr ⟨by omega, h_57.1⟩⟩)⟩, ht⟩) (fun _ h => nomatch h) dX12_width_38 hlk
