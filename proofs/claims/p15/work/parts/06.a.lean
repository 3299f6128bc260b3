
theorem gcd_step {x y : Int} (hx : 0 ≤ x) (hy : 0 < y) : Int.gcd y (x.tmod y) = Int.gcd x y := by
  rw [Int.gcd_eq_natAbs_gcd_natAbs, Int.gcd_eq_natAbs_gcd_natAbs, Int.natAbs_tmod, Nat.gcd_comm y.natAbs, ← Nat.gcd_rec, Nat.gcd_comm]
abbrev mN (u : MS) (s : Int) : Int := u.1 0 s.toNat
def mX (u : MS) (s i : Int) : Int := u.1 1 (24 * s + i.tmod (mN u s)).toNat
def mY (u : MS) (s i : Int) : Int := u.1 2 (24 * s + i.tmod (mN u s)).toNat
theorem tm_b {i n : Int} (h : 0 ≤ i) (hn : 0 < n) : 0 ≤ i.tmod n ∧ i.tmod n < n := by
  rw [Int.tmod_eq_emod_of_nonneg h]
  exact ⟨Int.emod_nonneg i (by omega), Int.emod_lt_of_pos i hn⟩

set_option maxHeartbeats 4000000 in
set_option maxRecDepth 100000 in
theorem c_X12_in (l : Launch) (D : JD) (v : Int) (low : Int) (high : Int) (p0 : -2147483648 ≤ v ∧ v ≤ 2147483647) (p1 : -2147483648 ≤ low ∧ low ≤ 2147483647) (p2 : -2147483648 ≤ high ∧ high ≤ 2147483647) : Met l yX12_in (jw yX12_in cX12_in 3 (some .boolean)) (jr 0 0) (jP [.int (J v), .int (J low), .int (J high)] D (fun _ => True)) (jRi (fun z => (z = 1 ∧ (low ≤ v ∧ v ≤ high)) ∨ (z = 0 ∧ ¬ (low ≤ v ∧ v ≤ high)))) 0 0 (fun _ => False) := by
  refine Met.ofW (cc := cX12_in) (maxL := 3) (ret := (some .boolean)) (by decide) rfl ?_
  intro pr en st mi args below meth co s₁ B hml hv
  obtain ⟨rfl, hG, hP⟩ := hv
  have hr := B.returns
  have hlk := B.notSynchronized
  have SS : jS pr mi co cX12_in 3 st _ RX12 := ⟨B.exec, B.bytes, hml, findClass_of_methodNamed B.named, fun w hw => atoms_spec (ws := (jw yX12_in cX12_in 3 (some .boolean))) B.pre w (List.mem_cons_of_mem _ hw)⟩
  have hl := lv_entry ([.int (J v), .int (J low), .int (J high)]) (n := 3) (Nat.le_of_ble_eq_true rfl)
  rw [lg_entry_eq]
  generalize (lg_sl ([.int (J v), .int (J low), .int (J high)]) ++ List.replicate (3 - (lg_sl ([.int (J v), .int (J low), .int (J high)])).length) Slot.unset).toArray = ls at hl ⊢
  have hl : lv_has ls 3 [(0, .int (J v)), (1, .int (J low)), (2, .int (J high))] := hl
  refine lv_iload_n SS.1 SS.2.1 dX12_in_0 rfl (lv_at hl 0 rfl) ?_
  refine lv_iload_n SS.1 SS.2.1 dX12_in_1 rfl (lv_at hl 1 rfl) ?_
  refine j_icmp_lt SS (tgt := 14) (x := v) (y := low) dX12_in_2 (by decide) (by omega) (by omega) (fun c_2 => ?_) (fun c_2 => ?_)
  · skip
    refine j_iconst SS dX12_in_14 ?_
    exact W.zret SS.1 SS.2.1 hr (j_nz (by decide)) (fun t ht hW => ⟨_, rfl, ⟨0, rfl, (by omega)⟩, ht⟩) (fun _ h => nomatch h) dX12_in_15 hlk
  · skip
    refine lv_iload_n SS.1 SS.2.1 dX12_in_5 rfl (lv_at hl 0 rfl) ?_
    refine lv_iload_n SS.1 SS.2.1 dX12_in_6 rfl (lv_at hl 2 rfl) ?_
    refine j_icmp_gt SS (tgt := 14) (x := v) (y := high) dX12_in_7 (by decide) (by omega) (by omega) (fun c_7 => ?_) (fun c_7 => ?_)
    · skip
      refine j_iconst SS dX12_in_14 ?_
      exact W.zret SS.1 SS.2.1 hr (j_nz (by decide)) (fun t ht hW => ⟨_, rfl, ⟨0, rfl, (by omega)⟩, ht⟩) (fun _ h => nomatch h) dX12_in_15 hlk
    · skip
      refine j_iconst SS dX12_in_10 ?_
      refine lv_goto (tgt := 15) SS.1 SS.2.1 dX12_in_11 (by decide) ?_
      exact W.zret SS.1 SS.2.1 hr (j_nz (by decide)) (fun t ht hW => ⟨_, rfl, ⟨1, rfl, (by omega)⟩, ht⟩) (fun _ h => nomatch h) dX12_in_15 hlk

set_option maxHeartbeats 4000000 in
set_option maxRecDepth 100000 in
theorem c_X12_isShape (l : Launch) (D : JD) (v : Int) (p0 : -2147483648 ≤ v ∧ v ≤ 2147483647) : Met l yX12_isShape (jw yX12_isShape cX12_isShape 1 (some .boolean)) (jr 1 22) (jP [.int (J v)] D (fun _ => True)) (jRi (fun z => (z = 1 ∧ (0 ≤ v ∧ v ≤ 7)) ∨ (z = 0 ∧ ¬ (0 ≤ v ∧ v ≤ 7)))) 0 0 (fun _ => False) := by
  refine Met.ofW (cc := cX12_isShape) (maxL := 1) (ret := (some .boolean)) (by decide) rfl ?_
  intro pr en st mi args below meth co s₁ B hml hv
  obtain ⟨rfl, hG, hP⟩ := hv
  have hr := B.returns
  have hlk := B.notSynchronized
  have SS : jS pr mi co cX12_isShape 1 st _ RX12 := ⟨B.exec, B.bytes, hml, findClass_of_methodNamed B.named, fun w hw => atoms_spec (ws := (jw yX12_isShape cX12_isShape 1 (some .boolean))) B.pre w (List.mem_cons_of_mem _ hw)⟩
  have hl := lv_entry ([.int (J v)]) (n := 1) (Nat.le_of_ble_eq_true rfl)
  rw [lg_entry_eq]
  generalize (lg_sl ([.int (J v)]) ++ List.replicate (1 - (lg_sl ([.int (J v)])).length) Slot.unset).toArray = ls at hl ⊢
  have hl : lv_has ls 1 [(0, .int (J v))] := hl
  refine lv_iload_n SS.1 SS.2.1 dX12_isShape_0 rfl (lv_at hl 0 rfl) ?_
  refine j_iconst SS dX12_isShape_1 ?_
  refine j_bipush SS dX12_isShape_2 (by decide +kernel) ?_
  refine j_sRi SS (As := [.int (J v), .int (J 0), .int (J 7)]) (rest := []) (c_X12_in l D v 0 7 (show -2147483648 ≤ v ∧ v ≤ 2147483647 from (by omega)) (show -2147483648 ≤ (0 : Int) ∧ (0 : Int) ≤ 2147483647 from (by omega)) (show -2147483648 ≤ (7 : Int) ∧ (7 : Int) ≤ 2147483647 from (by omega))) mf_X12_in kw_1159 hG trivial rfl hl.1 ⟨⟨Nat.le_of_ble_eq_true rfl, Nat.le_of_ble_eq_true rfl⟩, Nat.le_of_ble_eq_true rfl, Nat.le_refl _, Nat.le_refl _⟩ rfl dX12_isShape_4 (fun z_4 h_4 => ?_)
  have h_4 : (z_4 = 1 ∧ ((0 : Int) ≤ v ∧ v ≤ (7 : Int))) ∨ (z_4 = 0 ∧ ¬ ((0 : Int) ≤ v ∧ v ≤ (7 : Int))) := h_4
  exact W.zret SS.1 SS.2.1 hr (j_nz (by omega)) (fun t ht hW => ⟨_, rfl, ⟨z_4, rfl, (h_4)⟩, ht⟩) (fun _ h => nomatch h) dX12_isShape_7 hlk

set_option maxHeartbeats 4000000 in
set_option maxRecDepth 100000 in
theorem c_X12_isPlace (l : Launch) (D : JD) (v : Int) (x : Int) (p0 : -2147483648 ≤ v ∧ v ≤ 2147483647) (p1 : -2147483648 ≤ x ∧ x ≤ 2147483647) : Met l yX12_isPlace (jw yX12_isPlace cX12_isPlace 2 (some .boolean)) (jr 1 22) (jP [.int (J v), .int (J x)] D (fun _ => True)) (jRi (fun z => (z = 1 ∧ (-40 ≤ v ∧ v ≤ 40 ∧ -40 ≤ x ∧ x ≤ 40)) ∨ (z = 0 ∧ ¬ (-40 ≤ v ∧ v ≤ 40 ∧ -40 ≤ x ∧ x ≤ 40)))) 0 0 (fun _ => False) := by
  refine Met.ofW (cc := cX12_isPlace) (maxL := 2) (ret := (some .boolean)) (by decide) rfl ?_
  intro pr en st mi args below meth co s₁ B hml hv
  obtain ⟨rfl, hG, hP⟩ := hv
  have hr := B.returns
  have hlk := B.notSynchronized
  have SS : jS pr mi co cX12_isPlace 2 st _ RX12 := ⟨B.exec, B.bytes, hml, findClass_of_methodNamed B.named, fun w hw => atoms_spec (ws := (jw yX12_isPlace cX12_isPlace 2 (some .boolean))) B.pre w (List.mem_cons_of_mem _ hw)⟩
  have hl := lv_entry ([.int (J v), .int (J x)]) (n := 2) (Nat.le_of_ble_eq_true rfl)
  rw [lg_entry_eq]
  generalize (lg_sl ([.int (J v), .int (J x)]) ++ List.replicate (2 - (lg_sl ([.int (J v), .int (J x)])).length) Slot.unset).toArray = ls at hl ⊢
  have hl : lv_has ls 2 [(0, .int (J v)), (1, .int (J x))] := hl
  refine lv_iload_n SS.1 SS.2.1 dX12_isPlace_0 rfl (lv_at hl 0 rfl) ?_
  refine j_bipush SS dX12_isPlace_1 (by decide +kernel) ?_
  refine j_bipush SS dX12_isPlace_3 (by decide +kernel) ?_
  refine j_sRi SS (As := [.int (J v), .int (J (-40)), .int (J 40)]) (rest := []) (c_X12_in l D v (-40) 40 (show -2147483648 ≤ v ∧ v ≤ 2147483647 from (by omega)) (show -2147483648 ≤ (-40 : Int) ∧ (-40 : Int) ≤ 2147483647 from (by omega)) (show -2147483648 ≤ (40 : Int) ∧ (40 : Int) ≤ 2147483647 from (by omega))) mf_X12_in kw_1159 hG trivial rfl hl.1 ⟨⟨Nat.le_of_ble_eq_true rfl, Nat.le_of_ble_eq_true rfl⟩, Nat.le_of_ble_eq_true rfl, Nat.le_refl _, Nat.le_refl _⟩ rfl dX12_isPlace_5 (fun z_5 h_5 => ?_)
  have h_5 : (z_5 = 1 ∧ ((-40 : Int) ≤ v ∧ v ≤ (40 : Int))) ∨ (z_5 = 0 ∧ ¬ ((-40 : Int) ≤ v ∧ v ≤ (40 : Int))) := h_5
  refine j_if_eq SS (tgt := 26) (x := z_5) dX12_isPlace_8 (by decide) (by omega) (fun c_8 => ?_) (fun c_8 => ?_)
  · skip
    refine j_iconst SS dX12_isPlace_26 ?_
    exact W.zret SS.1 SS.2.1 hr (j_nz (by decide)) (fun t ht hW => ⟨_, rfl, ⟨0, rfl, (by omega)⟩, ht⟩) (fun _ h => nomatch h) dX12_isPlace_27 hlk
  · skip
    refine lv_iload_n SS.1 SS.2.1 dX12_isPlace_11 rfl (lv_at hl 1 rfl) ?_
    refine j_bipush SS dX12_isPlace_12 (by decide +kernel) ?_
    refine j_bipush SS dX12_isPlace_14 (by decide +kernel) ?_
    refine j_sRi SS (As := [.int (J x), .int (J (-40)), .int (J 40)]) (rest := []) (c_X12_in l D x (-40) 40 (show -2147483648 ≤ x ∧ x ≤ 2147483647 from (by omega)) (show -2147483648 ≤ (-40 : Int) ∧ (-40 : Int) ≤ 2147483647 from (by omega)) (show -2147483648 ≤ (40 : Int) ∧ (40 : Int) ≤ 2147483647 from (by omega))) mf_X12_in kw_1159 hG trivial rfl hl.1 ⟨⟨Nat.le_of_ble_eq_true rfl, Nat.le_of_ble_eq_true rfl⟩, Nat.le_of_ble_eq_true rfl, Nat.le_refl _, Nat.le_refl _⟩ rfl dX12_isPlace_16 (fun z_16 h_16 => ?_)
    have h_16 : (z_16 = 1 ∧ ((-40 : Int) ≤ x ∧ x ≤ (40 : Int))) ∨ (z_16 = 0 ∧ ¬ ((-40 : Int) ≤ x ∧ x ≤ (40 : Int))) := h_16
    refine j_if_eq SS (tgt := 26) (x := z_16) dX12_isPlace_19 (by decide) (by omega) (fun c_19 => ?_) (fun c_19 => ?_)
    · skip
      refine j_iconst SS dX12_isPlace_26 ?_
      exact W.zret SS.1 SS.2.1 hr (j_nz (by decide)) (fun t ht hW => ⟨_, rfl, ⟨0, rfl, (by omega)⟩, ht⟩) (fun _ h => nomatch h) dX12_isPlace_27 hlk
    · skip
      refine j_iconst SS dX12_isPlace_22 ?_
      refine lv_goto (tgt := 27) SS.1 SS.2.1 dX12_isPlace_23 (by decide) ?_
      exact W.zret SS.1 SS.2.1 hr (j_nz (by decide)) (fun t ht hW => ⟨_, rfl, ⟨1, rfl, (by omega)⟩, ht⟩) (fun _ h => nomatch h) dX12_isPlace_27 hlk

set_option maxHeartbeats 4000000 in
set_option maxRecDepth 100000 in
theorem c_X12_size (l : Launch) (D : JD) (v : Int) (p0 : -2147483648 < v ∧ v ≤ 2147483647) : Met l yX12_size (jw yX12_size cX12_size 1 (some .int)) (jr 0 0) (jP [.int (J v)] D (fun _ => True)) (jRi (fun z => (0 ≤ v → z = v) ∧ (v < 0 → z = -v))) 0 0 (fun _ => False) := by
  refine Met.ofW (cc := cX12_size) (maxL := 1) (ret := (some .int)) (by decide) rfl ?_
  intro pr en st mi args below meth co s₁ B hml hv
  obtain ⟨rfl, hG, hP⟩ := hv
  have hr := B.returns
  have hlk := B.notSynchronized
  have SS : jS pr mi co cX12_size 1 st _ RX12 := ⟨B.exec, B.bytes, hml, findClass_of_methodNamed B.named, fun w hw => atoms_spec (ws := (jw yX12_size cX12_size 1 (some .int))) B.pre w (List.mem_cons_of_mem _ hw)⟩
  have hl := lv_entry ([.int (J v)]) (n := 1) (Nat.le_of_ble_eq_true rfl)
  rw [lg_entry_eq]
  generalize (lg_sl ([.int (J v)]) ++ List.replicate (1 - (lg_sl ([.int (J v)])).length) Slot.unset).toArray = ls at hl ⊢
  have hl : lv_has ls 1 [(0, .int (J v))] := hl
  refine lv_iload_n SS.1 SS.2.1 dX12_size_0 rfl (lv_at hl 0 rfl) ?_
  refine j_if_ge SS (tgt := 9) (x := v) dX12_size_1 (by decide) (by omega) (fun c_1 => ?_) (fun c_1 => ?_)
  · skip
    refine lv_iload_n SS.1 SS.2.1 dX12_size_9 rfl (lv_at hl 0 rfl) ?_
    exact W.iret SS.1 SS.2.1 hr (fun t ht hW => ⟨_, rfl, ⟨v, rfl, (by omega)⟩, ht⟩) (fun _ h => nomatch h) dX12_size_10 hlk
  · skip
    refine lv_iload_n SS.1 SS.2.1 dX12_size_4 rfl (lv_at hl 0 rfl) ?_
    refine j_ineg SS dX12_size_5 ?_
    refine lv_goto (tgt := 10) SS.1 SS.2.1 dX12_size_6 (by decide) ?_
    exact W.iret SS.1 SS.2.1 hr (fun t ht hW => ⟨_, rfl, ⟨(-v), rfl, (by omega)⟩, ht⟩) (fun _ h => nomatch h) dX12_size_10 hlk

set_option maxHeartbeats 4000000 in
set_option maxRecDepth 100000 in
theorem c_X12_common (l : Launch) (D : JD) (a : Int) (b : Int) (p0 : -2147483648 < a ∧ a ≤ 2147483647) (p1 : -2147483648 < b ∧ b ≤ 2147483647) : Met l yX12_common (jw yX12_common cX12_common 5 (some .int)) (jr 1 20) (jP [.int (J a), .int (J b)] D (fun _ => True)) (jRi (fun z => z = (Int.gcd a b : Int))) 0 0 (fun _ => False) := by
  refine Met.ofW (cc := cX12_common) (maxL := 5) (ret := (some .int)) (by decide) rfl ?_
  intro pr en st mi args below meth co s₁ B hml hv
  obtain ⟨rfl, hG, hP⟩ := hv
  have hr := B.returns
  have hlk := B.notSynchronized
  have SS : jS pr mi co cX12_common 5 st _ RX12 := ⟨B.exec, B.bytes, hml, findClass_of_methodNamed B.named, fun w hw => atoms_spec (ws := (jw yX12_common cX12_common 5 (some .int))) B.pre w (List.mem_cons_of_mem _ hw)⟩
  have hl := lv_entry ([.int (J a), .int (J b)]) (n := 5) (Nat.le_of_ble_eq_true rfl)
  rw [lg_entry_eq]
  generalize (lg_sl ([.int (J a), .int (J b)]) ++ List.replicate (5 - (lg_sl ([.int (J a), .int (J b)])).length) Slot.unset).toArray = ls at hl ⊢
  have hl : lv_has ls 5 [(0, .int (J a)), (1, .int (J b))] := hl
  refine lv_iload_n SS.1 SS.2.1 dX12_common_0 rfl (lv_at hl 0 rfl) ?_
  refine j_sRi SS (As := [.int (J a)]) (rest := []) (c_X12_size l D a (show -2147483648 < a ∧ a ≤ 2147483647 from (by omega))) mf_X12_size kw_1233 hG trivial rfl hl.1 ⟨⟨Nat.le_of_ble_eq_true rfl, Nat.le_of_ble_eq_true rfl⟩, Nat.le_of_ble_eq_true rfl, Nat.le_refl _, Nat.le_refl _⟩ rfl dX12_common_1 (fun z_1 h_1 => ?_)
  have h_1 : (0 ≤ a → z_1 = a) ∧ (a < 0 → z_1 = -a) := h_1
  refine lv_istore_n (lv' := [(2, .int (J z_1)), (0, .int (J a)), (1, .int (J b))]) SS.1 SS.2.1 dX12_common_4 rfl hl (by decide) rfl (fun ls hl => ?_)
  refine lv_iload_n SS.1 SS.2.1 dX12_common_5 rfl (lv_at hl 2 rfl) ?_
  refine j_sRi SS (As := [.int (J b)]) (rest := []) (c_X12_size l D b (show -2147483648 < b ∧ b ≤ 2147483647 from (by omega))) mf_X12_size kw_1233 hG trivial rfl hl.1 ⟨⟨Nat.le_of_ble_eq_true rfl, Nat.le_of_ble_eq_true rfl⟩, Nat.le_of_ble_eq_true rfl, Nat.le_refl _, Nat.le_refl _⟩ rfl dX12_common_6 (fun z_6 h_6 => ?_)
  have h_6 : (0 ≤ b → z_6 = b) ∧ (b < 0 → z_6 = -b) := h_6
  refine lv_istore_n (lv' := [(3, .int (J z_6)), (2, .int (J z_1)), (0, .int (J a)), (1, .int (J b))]) SS.1 SS.2.1 dX12_common_9 rfl hl (by decide) rfl (fun ls hl => ?_)
  have L_10 : ∀ (nn : Nat) (x : Int) (y : Int) (ls : Array Slot) (hl : lv_has ls 5 [(3, .int (J y)), (2, .int (J x))]) (i10_0 : 0 ≤ x ∧ x ≤ 2147483647) (i10_1 : 0 ≤ y ∧ y ≤ 2147483647) (i10_2 : Int.gcd x y = Int.gcd a b), y.toNat < nn → W pr l en (headSpec (jw yX12_common cX12_common 5 (some .int)) (jr 1 20)).room st mi (([.int (J a), .int (J b)] : List Value).toArray) below meth co st.heap [] 0 0 (MQ below (jRi (fun z => z = (Int.gcd a b : Int))) (([.int (J a), .int (J b)] : List Value).toArray) st 0 0 (fun _ => False)) (F0 mi 10 ls []) := by
    intro nn
    induction nn with
    | zero => intros; omega
    | succ nn ih_10 =>
      intro x y ls hl i10_0 i10_1 i10_2 hm
      refine lv_iload_n SS.1 SS.2.1 dX12_common_10 rfl (lv_at hl 0 rfl) ?_
      refine j_if_eq SS (tgt := 27) (x := y) dX12_common_11 (by decide) (by omega) (fun c_11 => ?_) (fun c_11 => ?_)
      · skip
        refine lv_iload_n SS.1 SS.2.1 dX12_common_27 rfl (lv_at hl 1 rfl) ?_
        exact W.iret SS.1 SS.2.1 hr (fun t ht hW => ⟨_, rfl, ⟨x, rfl, (by have := i10_2; rw [c_11] at this; rw [← this]; simp [Int.gcd]; omega)⟩, ht⟩) (fun _ h => nomatch h) dX12_common_28 hlk
      · skip
        refine lv_iload_n SS.1 SS.2.1 dX12_common_14 rfl (lv_at hl 1 rfl) ?_
        refine lv_iload_n SS.1 SS.2.1 dX12_common_15 rfl (lv_at hl 0 rfl) ?_
        refine j_irem SS (x := x) (y := y) dX12_common_16 (by omega) (by omega) (by omega) ?_
        refine lv_istore (lv' := [(4, .int (J (Int.tmod x y))), (3, .int (J y)), (2, .int (J x))]) SS.1 SS.2.1 dX12_common_17 hl (by decide) rfl (fun ls hl => ?_)
        refine lv_iload_n SS.1 SS.2.1 dX12_common_19 rfl (lv_at hl 1 rfl) ?_
        refine lv_istore_n (lv' := [(2, .int (J y)), (4, .int (J (Int.tmod x y))), (3, .int (J y))]) SS.1 SS.2.1 dX12_common_20 rfl hl (by decide) rfl (fun ls hl => ?_)
        refine lv_iload SS.1 SS.2.1 dX12_common_21 (lv_at hl 1 rfl) ?_
        refine lv_istore_n (lv' := [(3, .int (J (Int.tmod x y))), (2, .int (J y)), (4, .int (J (Int.tmod x y)))]) SS.1 SS.2.1 dX12_common_23 rfl hl (by decide) rfl (fun ls hl => ?_)
        refine lv_goto (tgt := 10) SS.1 SS.2.1 dX12_common_24 (by decide) ?_
        exact ih_10 y (Int.tmod x y) ls (lv_sub hl [0, 1] rfl) (by omega) (by have := tm_b i10_0.1 (show (0:Int) < y by omega); omega) (by rw [gcd_step i10_0.1 (by omega)]; exact i10_2) (by have := tm_b i10_0.1 (show (0:Int) < y by omega); omega)
  exact L_10 (z_6.toNat + 1) z_1 z_6 ls (lv_sub hl [0, 1] rfl) (by omega) (by omega) (by rw [show z_1 = (a.natAbs : Int) by omega, show z_6 = (b.natAbs : Int) by omega]; simp [Int.gcd]) (Nat.lt_succ_self _)

set_option maxHeartbeats 4000000 in
set_option maxRecDepth 100000 in
theorem c_X12_x (l : Launch) (D : JD) (o : Nat) (q : Nat → Nat) (u : MS) (s : Int) (i : Int) (p0 : 0 ≤ s ∧ s ≤ 7) (p1 : 0 ≤ i ∧ i ≤ 1000000) (p2 : 0 < mN u s ∧ mN u s ≤ 24) : Met l yX12_x (jw yX12_x cX12_x 3 (some .int)) (jr 0 0) (jP [.ref o, .int (J s), .int (J i)] D (fun H => va_P D.1 j_cl (mW D o q u) H)) (jRi (fun z => z = mX u s i)) 0 0 (fun _ => False) := by
  refine Met.ofW (cc := cX12_x) (maxL := 3) (ret := (some .int)) (by decide) rfl ?_
  intro pr en st mi args below meth co s₁ B hml hv
  obtain ⟨rfl, hG, hP⟩ := hv
  have hr := B.returns
  have hlk := B.notSynchronized
  have SS : jS pr mi co cX12_x 3 st _ RX12 := ⟨B.exec, B.bytes, hml, findClass_of_methodNamed B.named, fun w hw => atoms_spec (ws := (jw yX12_x cX12_x 3 (some .int))) B.pre w (List.mem_cons_of_mem _ hw)⟩
  have hl := lv_entry ([.ref o, .int (J s), .int (J i)]) (n := 3) (Nat.le_of_ble_eq_true rfl)
  rw [lg_entry_eq]
  generalize (lg_sl ([.ref o, .int (J s), .int (J i)]) ++ List.replicate (3 - (lg_sl ([.ref o, .int (J s), .int (J i)])).length) Slot.unset).toArray = ls at hl ⊢
  have hl : lv_has ls 3 [(0, .ref o), (1, .int (J s)), (2, .int (J i))] := hl
  refine lv_aload_n SS.1 SS.2.1 dX12_x_0 rfl (lv_at hl 0 rfl) ?_
  refine j_get SS hG hP 0 (v := .ref (q 1)) (C := RX12) (T := TX12) (N := 31) rfl rfl inX12 1 (by decide) (ref := RX12) kw_1059 rfl rfl dX12_x_1 ?_
  refine j_bipush SS dX12_x_4 (by decide +kernel) ?_
  refine lv_iload_n SS.1 SS.2.1 dX12_x_6 rfl (lv_at hl 1 rfl) ?_
  refine j_imul SS (x := 24) (y := s) dX12_x_7 ?_
  refine lv_iload_n SS.1 SS.2.1 dX12_x_8 rfl (lv_at hl 2 rfl) ?_
  refine lv_aload_n SS.1 SS.2.1 dX12_x_9 rfl (lv_at hl 0 rfl) ?_
  refine j_get SS hG hP 0 (v := .ref (q 0)) (C := RX12) (T := TX12) (N := 31) rfl rfl inX12 0 (by decide) (ref := RX12) kw_1058 rfl rfl dX12_x_10 ?_
  refine lv_iload_n SS.1 SS.2.1 dX12_x_13 rfl (lv_at hl 1 rfl) ?_
  refine j_iald SS hG hP 1 (n := 8) (f := (u.1 0)) rfl (z := s) (by omega) (by omega) dX12_x_14 ?_
  refine j_irem SS (x := i) (y := (mN u s)) dX12_x_15 (by omega) (by omega) (by omega) ?_
  refine j_iadd SS (x := (24 * s)) (y := (Int.tmod i (mN u s))) dX12_x_16 ?_
  refine j_iald SS hG hP 2 (n := 192) (f := (u.1 1)) rfl (z := ((24 * s) + (Int.tmod i (mN u s)))) (by have := tm_b p1.1 p2.1; omega) (by have := tm_b p1.1 p2.1; omega) dX12_x_17 ?_
  exact W.iret SS.1 SS.2.1 hr (fun t ht hW => ⟨_, rfl, ⟨((u.1 1) (((24 * s) + (Int.tmod i (mN u s)))).toNat), rfl, (rfl)⟩, ht⟩) (fun _ h => nomatch h) dX12_x_18 hlk

set_option maxHeartbeats 4000000 in
set_option maxRecDepth 100000 in
theorem c_X12_y (l : Launch) (D : JD) (o : Nat) (q : Nat → Nat) (u : MS) (s : Int) (i : Int) (p0 : 0 ≤ s ∧ s ≤ 7) (p1 : 0 ≤ i ∧ i ≤ 1000000) (p2 : 0 < mN u s ∧ mN u s ≤ 24) : Met l yX12_y (jw yX12_y cX12_y 3 (some .int)) (jr 0 0) (jP [.ref o, .int (J s), .int (J i)] D (fun H => va_P D.1 j_cl (mW D o q u) H)) (jRi (fun z => z = mY u s i)) 0 0 (fun _ => False) := by
  refine Met.ofW (cc := cX12_y) (maxL := 3) (ret := (some .int)) (by decide) rfl ?_
  intro pr en st mi args below meth co s₁ B hml hv
  obtain ⟨rfl, hG, hP⟩ := hv
  have hr := B.returns
  have hlk := B.notSynchronized
  have SS : jS pr mi co cX12_y 3 st _ RX12 := ⟨B.exec, B.bytes, hml, findClass_of_methodNamed B.named, fun w hw => atoms_spec (ws := (jw yX12_y cX12_y 3 (some .int))) B.pre w (List.mem_cons_of_mem _ hw)⟩
  have hl := lv_entry ([.ref o, .int (J s), .int (J i)]) (n := 3) (Nat.le_of_ble_eq_true rfl)
  rw [lg_entry_eq]
  generalize (lg_sl ([.ref o, .int (J s), .int (J i)]) ++ List.replicate (3 - (lg_sl ([.ref o, .int (J s), .int (J i)])).length) Slot.unset).toArray = ls at hl ⊢
  have hl : lv_has ls 3 [(0, .ref o), (1, .int (J s)), (2, .int (J i))] := hl
  refine lv_aload_n SS.1 SS.2.1 dX12_y_0 rfl (lv_at hl 0 rfl) ?_
  refine j_get SS hG hP 0 (v := .ref (q 2)) (C := RX12) (T := TX12) (N := 31) rfl rfl inX12 2 (by decide) (ref := RX12) kw_1060 rfl rfl dX12_y_1 ?_
  refine j_bipush SS dX12_y_4 (by decide +kernel) ?_
  refine lv_iload_n SS.1 SS.2.1 dX12_y_6 rfl (lv_at hl 1 rfl) ?_
  refine j_imul SS (x := 24) (y := s) dX12_y_7 ?_
  refine lv_iload_n SS.1 SS.2.1 dX12_y_8 rfl (lv_at hl 2 rfl) ?_
  refine lv_aload_n SS.1 SS.2.1 dX12_y_9 rfl (lv_at hl 0 rfl) ?_
  refine j_get SS hG hP 0 (v := .ref (q 0)) (C := RX12) (T := TX12) (N := 31) rfl rfl inX12 0 (by decide) (ref := RX12) kw_1058 rfl rfl dX12_y_10 ?_
  refine lv_iload_n SS.1 SS.2.1 dX12_y_13 rfl (lv_at hl 1 rfl) ?_
  refine j_iald SS hG hP 1 (n := 8) (f := (u.1 0)) rfl (z := s) (by omega) (by omega) dX12_y_14 ?_
  refine j_irem SS (x := i) (y := (mN u s)) dX12_y_15 (by omega) (by omega) (by omega) ?_
  refine j_iadd SS (x := (24 * s)) (y := (Int.tmod i (mN u s))) dX12_y_16 ?_
  refine j_iald SS hG hP 3 (n := 192) (f := (u.1 2)) rfl (z := ((24 * s) + (Int.tmod i (mN u s)))) (by have := tm_b p1.1 p2.1; omega) (by have := tm_b p1.1 p2.1; omega) dX12_y_17 ?_
  exact W.iret SS.1 SS.2.1 hr (fun t ht hW => ⟨_, rfl, ⟨((u.1 2) (((24 * s) + (Int.tmod i (mN u s)))).toNat), rfl, (rfl)⟩, ht⟩) (fun _ h => nomatch h) dX12_y_18 hlk

set_option maxHeartbeats 4000000 in
set_option maxRecDepth 100000 in
theorem c_X12_put (l : Launch) (D : JD) (o : Nat) (q : Nat → Nat) (u : MS) (A : Nat → Prop) (hD : va_D A (mW D o q u)) (x : Int) (y : Int) (p0 : 0 ≤ u.2.2 6 ∧ u.2.2 6 < 640) : Met l yX12_put (jw yX12_put cX12_put 3 none) (jr 0 0) (jP [.ref o, .int (J x), .int (J y)] D (fun H => va_P D.1 j_cl (mW D o q u) H)) (jWv (fun u' => ∃ f : Nat → Int, ∃ g : Nat → Int, ∃ w : Int, u' = (uV (uI (uI u 4 f) 5 g) 6 w) ∧ (f = upI (u.1 4) (u.2.2 6).toNat x ∧ g = upI (u.1 5) (u.2.2 6).toNat y ∧ w = u.2.2 6 + 1)) (fun u' H => va_P D.1 j_cl (mW D o q u') H) A) 0 0 A := by
  refine Met.ofW (cc := cX12_put) (maxL := 3) (ret := none) (by decide) rfl ?_
  intro pr en st mi args below meth co s₁ B hml hv
  obtain ⟨rfl, hG, hP⟩ := hv
  have hr := B.returns
  have hlk := B.notSynchronized
  have SS : jS pr mi co cX12_put 3 st _ RX12 := ⟨B.exec, B.bytes, hml, findClass_of_methodNamed B.named, fun w hw => atoms_spec (ws := (jw yX12_put cX12_put 3 none)) B.pre w (List.mem_cons_of_mem _ hw)⟩
  have hl := lv_entry ([.ref o, .int (J x), .int (J y)]) (n := 3) (Nat.le_of_ble_eq_true rfl)
  rw [lg_entry_eq]
  generalize (lg_sl ([.ref o, .int (J x), .int (J y)]) ++ List.replicate (3 - (lg_sl ([.ref o, .int (J x), .int (J y)])).length) Slot.unset).toArray = ls at hl ⊢
  have hl : lv_has ls 3 [(0, .ref o), (1, .int (J x)), (2, .int (J y))] := hl
  have hS : va_S A st.heap st.heap [] := va_S.rf
  refine lv_aload_n SS.1 SS.2.1 dX12_put_0 rfl (lv_at hl 0 rfl) ?_
  refine j_get SS hG hP 0 (v := .ref (q 4)) (C := RX12) (T := TX12) (N := 31) rfl rfl inX12 4 (by decide) (ref := RX12) kw_1062 rfl rfl dX12_put_1 ?_
  refine lv_aload_n SS.1 SS.2.1 dX12_put_4 rfl (lv_at hl 0 rfl) ?_
  refine j_get SS hG hP 0 (v := .int (J (u.2.2 6))) (C := RX12) (T := TX12) (N := 31) rfl rfl inX12 6 (by decide) (ref := RX12) kw_1064 rfl rfl dX12_put_5 ?_
  refine lv_iload_n SS.1 SS.2.1 dX12_put_8 rfl (lv_at hl 1 rfl) ?_
  refine j_iast SS hG hP (mW_D hD) hS 5 (n := 640) (f := (u.1 4)) rfl (z := (u.2.2 6)) (v := x) (by omega) (by omega) dX12_put_9 (ws' := (mW D o q (uI u 4 (upI (u.1 4) ((u.2.2 6)).toNat x)))) rfl (fun H locs hP hS => ?_)
  refine lv_aload_n SS.1 SS.2.1 dX12_put_10 rfl (lv_at hl 0 rfl) ?_
  refine j_get SS hG hP 0 (v := .ref (q 5)) (C := RX12) (T := TX12) (N := 31) rfl rfl inX12 5 (by decide) (ref := RX12) kw_1063 rfl rfl dX12_put_11 ?_
  refine lv_aload_n SS.1 SS.2.1 dX12_put_14 rfl (lv_at hl 0 rfl) ?_
  refine j_get SS hG hP 0 (v := .int (J (u.2.2 6))) (C := RX12) (T := TX12) (N := 31) rfl rfl inX12 6 (by decide) (ref := RX12) kw_1064 rfl rfl dX12_put_15 ?_
  refine lv_iload_n SS.1 SS.2.1 dX12_put_18 rfl (lv_at hl 2 rfl) ?_
  refine j_iast SS hG hP (mW_D hD) hS 6 (n := 640) (f := (u.1 5)) rfl (z := (u.2.2 6)) (v := y) (by omega) (by omega) dX12_put_19 (ws' := (mW D o q (uI (uI u 4 (upI (u.1 4) ((u.2.2 6)).toNat x)) 5 (upI (u.1 5) ((u.2.2 6)).toNat y)))) rfl (fun H locs hP hS => ?_)
  refine lv_aload_n SS.1 SS.2.1 dX12_put_20 rfl (lv_at hl 0 rfl) ?_
  refine lv_dup SS.1 SS.2.1 dX12_put_21 rfl ?_
  refine j_get SS hG hP 0 (v := .int (J (u.2.2 6))) (C := RX12) (T := TX12) (N := 31) rfl rfl inX12 6 (by decide) (ref := RX12) kw_1064 rfl rfl dX12_put_22 ?_
  refine j_iconst SS dX12_put_25 ?_
  refine j_iadd SS (x := (u.2.2 6)) (y := 1) dX12_put_26 ?_
  refine j_put SS hG hP (mW_D hD) hS 0 (v := .int (J ((u.2.2 6) + 1))) (ty := .int) (C := RX12) (T := TX12) (N := 31) rfl rfl inX12 tyX12 tyX12_ok nmX12 6 (by decide) (ref := RX12) kw_1064 rfl rfl (by decide +kernel) rfl rfl (Nat.le_of_ble_eq_true rfl) dX12_put_27 (ws' := (mW D o q (uV (uI (uI u 4 (upI (u.1 4) ((u.2.2 6)).toNat x)) 5 (upI (u.1 5) ((u.2.2 6)).toNat y)) 6 ((u.2.2 6) + 1)))) rfl (fun H locs hP hS => ?_)
  exact W.vret SS.1 SS.2.1 hr (fun t ht hW => ⟨⟨(uV (uI (uI u 4 (upI (u.1 4) ((u.2.2 6)).toNat x)) 5 (upI (u.1 5) ((u.2.2 6)).toNat y)) 6 ((u.2.2 6) + 1)), rfl, (⟨(upI (u.1 4) ((u.2.2 6)).toNat x), (upI (u.1 5) ((u.2.2 6)).toNat y), ((u.2.2 6) + 1), rfl, ⟨rfl, rfl, rfl⟩⟩), by show va_P D.1 j_cl (mW D o q (uV (uI (uI u 4 (upI (u.1 4) ((u.2.2 6)).toNat x)) 5 (upI (u.1 5) ((u.2.2 6)).toNat y)) 6 ((u.2.2 6) + 1))) t.heap; rw [ht]; exact hP⟩, hS.F ht⟩) hS.2.2 dX12_put_30 hlk


def lt2 (a b c d : Int) : Prop := a < c ∨ (a = c ∧ b < d)
def le2 (a b c d : Int) : Prop := a < c ∨ (a = c ∧ b ≤ d)
def bd (K : Int) (f g : Nat → Int) (n : Int) : Prop := ∀ a : Nat, (a : Int) < n → (-K ≤ f a ∧ f a ≤ K) ∧ (-K ≤ g a ∧ g a ≤ K)
theorem bd_at {K : Int} {f g : Nat → Int} {n z : Int} (h : bd K f g n) (h0 : 0 ≤ z) (h1 : z < n) : (-K ≤ f z.toNat ∧ f z.toNat ≤ K) ∧ (-K ≤ g z.toNat ∧ g z.toNat ≤ K) := h z.toNat (by omega)
theorem bd_up {K : Int} {f g : Nat → Int} {n x y : Int} {k : Nat} (h : bd K f g n) (hx : -K ≤ x ∧ x ≤ K) (hy : -K ≤ y ∧ y ≤ K) : bd K (upI f k x) (upI g k y) n := by
  intro a ha
  by_cases e : a = k
  · rw [e, upI_s, upI_s]; exact ⟨hx, hy⟩
  · rw [upI_n e, upI_n e]; exact h a ha
def os_in (f g : Nat → Int) (i j : Int) : Prop := (∀ a : Nat, (a : Int) + 1 ≤ i → (a : Int) + 1 ≠ j → le2 (f a) (g a) (f (a + 1)) (g (a + 1))) ∧ ∀ k : Nat, (k : Int) + 1 = j → j < i → le2 (f k) (g k) (f (k + 2)) (g (k + 2))
theorem os_swap {f g : Nat → Int} {i j : Int} (h0 : 0 < j) (h1 : j ≤ i) (h : os_in f g i j) (hl : lt2 (f j.toNat) (g j.toNat) (f (j - 1).toNat) (g (j - 1).toNat)) : os_in (upI (upI f j.toNat (f (j - 1).toNat)) (j - 1).toNat (f j.toNat)) (upI (upI g j.toNat (g (j - 1).toNat)) (j - 1).toNat (g j.toNat)) i (j + -1) := by
  obtain ⟨k, rfl⟩ : ∃ k : Nat, j = (k : Int) + 1 := ⟨(j - 1).toNat, by omega⟩
  rw [show ((k : Int) + 1).toNat = k + 1 by omega, show ((k : Int) + 1 - 1).toNat = k by omega] at *
  have s0 : ∀ (p : Nat → Int), upI (upI p (k + 1) (p k)) k (p (k + 1)) k = p (k + 1) := fun p => upI_s
  have s1 : ∀ (p : Nat → Int), upI (upI p (k + 1) (p k)) k (p (k + 1)) (k + 1) = p k := fun p => by rw [upI_n (by omega), upI_s]
  have s2 : ∀ (p : Nat → Int) (a : Nat), a ≠ k → a ≠ k + 1 → upI (upI p (k + 1) (p k)) k (p (k + 1)) a = p a := fun p a h1 h2 => by rw [upI_n h1, upI_n h2]
  refine ⟨fun a ha hn => ?_, fun b hb hi => ?_⟩
  · by_cases e1 : a = k
    · rw [e1, s0, s0, s1, s1]
      unfold lt2 at hl; unfold le2; omega
    · by_cases e2 : a = k + 1
      · rw [e2, s1, s1, s2 f (k + 1 + 1) (by omega) (by omega), s2 g (k + 1 + 1) (by omega) (by omega)]
        exact h.2 k rfl (by omega)
      · rw [s2 f a e1 e2, s2 g a e1 e2, s2 f (a + 1) (by omega) (by omega), s2 g (a + 1) (by omega) (by omega)]
        exact h.1 a ha (by omega)
  · rw [s2 f b (by omega) (by omega), s2 g b (by omega) (by omega), show b + 2 = k + 1 by omega, s1, s1]
    have := h.1 b (by omega) (by omega)
    rw [show b + 1 = k by omega] at this
    exact this
def os_w (f g : Nat → Int) (i : Int) : Prop := ∀ a : Nat, (a : Int) + 1 < i → le2 (f a) (g a) (f (a + 1)) (g (a + 1))
theorem os_start {f g : Nat → Int} {i : Int} (h : os_w f g i) : os_in f g i i := ⟨fun a h1 h2 => h a (by omega), fun k h1 h2 => absurd h2 (by omega)⟩
theorem os_end {f g : Nat → Int} {i j : Int} (h : os_in f g i j) (hj : j ≤ 0 ∨ (0 < j ∧ j ≤ i ∧ ¬ lt2 (f j.toNat) (g j.toNat) (f (j - 1).toNat) (g (j - 1).toNat))) : os_w f g (i + 1) := by
  intro a ha
  by_cases e : (a : Int) + 1 = j
  · rcases hj with hj | ⟨_, _, hj⟩
    · omega
    · rw [show j.toNat = a + 1 by omega, show (j - 1).toNat = a by omega] at hj
      unfold lt2 at hj; unfold le2; omega
  · exact h.1 a (by omega) e
def os_s (f g : Nat → Int) (n : Int) : Prop := ∀ a : Nat, (a : Int) + 1 < n → lt2 (f a) (g a) (f (a + 1)) (g (a + 1))
/-- the second pass: n points kept out of the first i of w -/
def os_d (f g : Nat → Int) (n i w : Int) : Prop := 0 ≤ n ∧ n ≤ i ∧ (0 < i → 0 < n) ∧ os_s f g n ∧ (∀ a : Nat, i ≤ a → (a : Int) + 1 < w → le2 (f a) (g a) (f (a + 1)) (g (a + 1))) ∧ ∀ a b : Nat, (a : Int) + 1 = n → (b : Int) = i → i < w → le2 (f a) (g a) (f b) (g b)
theorem os_d0 {f g : Nat → Int} {w : Int} (h : os_w f g w) : os_d f g 0 0 w := ⟨by omega, by omega, by omega, fun a h => absurd h (by omega), fun a _ h2 => h a h2, fun a b h => absurd h (by omega)⟩
theorem os_dskip {f g : Nat → Int} {n i w : Int} (h : os_d f g n i w) (hn : n ≠ 0) (hi : i < w) (e1 : f i.toNat = f (n - 1).toNat) (e2 : g i.toNat = g (n - 1).toNat) : os_d f g n (i + 1) w := by
  obtain ⟨h1, h2, h3, h4, h5, h6⟩ := h
  refine ⟨h1, by omega, fun _ => by omega, h4, fun a ha hw => h5 a (by omega) hw, fun a b ha hb hw => ?_⟩
  rw [show (n - 1).toNat = a by omega] at e1 e2
  rw [← e1, ← e2, show b = i.toNat + 1 by omega]
  exact h5 i.toNat (by omega) (by omega)
theorem os_dput {f g : Nat → Int} {n i w : Int} (h : os_d f g n i w) (hi : i < w) (hd : n = 0 ∨ f i.toNat ≠ f (n - 1).toNat ∨ g i.toNat ≠ g (n - 1).toNat) : os_d (upI f n.toNat (f i.toNat)) (upI g n.toNat (g i.toNat)) (n + 1) (i + 1) w := by
  obtain ⟨h1, h2, h3, h4, h5, h6⟩ := h
  refine ⟨by omega, by omega, fun _ => by omega, fun a ha => ?_, fun a ha hw => ?_, fun a b ha hb hw => ?_⟩
  · by_cases e : a + 1 = n.toNat
    · rw [← e, upI_s, upI_s, upI_n (by omega), upI_n (by omega)]
      have := h6 a i.toNat (by omega) (by omega) hi
      rw [show (n - 1).toNat = a by omega] at hd
      unfold le2 at this; unfold lt2; omega
    · rw [upI_n (by omega), upI_n (by omega), upI_n (by omega), upI_n (by omega)]
      exact h4 a (by omega)
  · rw [upI_n (by omega), upI_n (by omega), upI_n (by omega), upI_n (by omega)]
    exact h5 a (by omega) hw
  · rw [show a = n.toNat by omega, upI_s, upI_s, upI_n (by omega), upI_n (by omega), show b = i.toNat + 1 by omega]
    exact h5 i.toNat (by omega) (by omega)
theorem mulb {a b A B : Int} (ha : -A ≤ a ∧ a ≤ A) (hb : -B ≤ b ∧ b ≤ B) : -(A * B) ≤ a * b ∧ a * b ≤ A * B := by
  have h : (a * b).natAbs ≤ A.natAbs * B.natAbs := by
    rw [Int.natAbs_mul]
    exact Nat.mul_le_mul (by omega) (by omega)
  have e : ((A.natAbs * B.natAbs : Nat) : Int) = A * B := by
    rw [Int.natCast_mul, show ((A.natAbs : Nat) : Int) = A by omega, show ((B.natAbs : Nat) : Int) = B by omega]
  omega

set_option maxHeartbeats 4000000 in
set_option maxRecDepth 100000 in
theorem c_X12_isAfter (l : Launch) (D : JD) (o : Nat) (q : Nat → Nat) (u : MS) (i : Int) (j : Int) (p0 : 0 ≤ i ∧ i < 640) (p1 : 0 ≤ j ∧ j < 640) (p2 : -10000 ≤ u.1 4 i.toNat ∧ u.1 4 i.toNat ≤ 10000) (p3 : -10000 ≤ u.1 4 j.toNat ∧ u.1 4 j.toNat ≤ 10000) (p4 : -10000 ≤ u.1 5 i.toNat ∧ u.1 5 i.toNat ≤ 10000) (p5 : -10000 ≤ u.1 5 j.toNat ∧ u.1 5 j.toNat ≤ 10000) : Met l yX12_isAfter (jw yX12_isAfter cX12_isAfter 3 (some .boolean)) (jr 0 0) (jP [.ref o, .int (J i), .int (J j)] D (fun H => va_P D.1 j_cl (mW D o q u) H)) (jRi (fun z => (z = 1 ∧ lt2 (u.1 4 j.toNat) (u.1 5 j.toNat) (u.1 4 i.toNat) (u.1 5 i.toNat)) ∨ (z = 0 ∧ ¬ lt2 (u.1 4 j.toNat) (u.1 5 j.toNat) (u.1 4 i.toNat) (u.1 5 i.toNat)))) 0 0 (fun _ => False) := by
  refine Met.ofW (cc := cX12_isAfter) (maxL := 3) (ret := (some .boolean)) (by decide) rfl ?_
  intro pr en st mi args below meth co s₁ B hml hv
  obtain ⟨rfl, hG, hP⟩ := hv
  have hr := B.returns
  have hlk := B.notSynchronized
  have SS : jS pr mi co cX12_isAfter 3 st _ RX12 := ⟨B.exec, B.bytes, hml, findClass_of_methodNamed B.named, fun w hw => atoms_spec (ws := (jw yX12_isAfter cX12_isAfter 3 (some .boolean))) B.pre w (List.mem_cons_of_mem _ hw)⟩
  have hl := lv_entry ([.ref o, .int (J i), .int (J j)]) (n := 3) (Nat.le_of_ble_eq_true rfl)
  rw [lg_entry_eq]
  generalize (lg_sl ([.ref o, .int (J i), .int (J j)]) ++ List.replicate (3 - (lg_sl ([.ref o, .int (J i), .int (J j)])).length) Slot.unset).toArray = ls at hl ⊢
  have hl : lv_has ls 3 [(0, .ref o), (1, .int (J i)), (2, .int (J j))] := hl
  refine lv_aload_n SS.1 SS.2.1 dX12_isAfter_0 rfl (lv_at hl 0 rfl) ?_
  refine j_get SS hG hP 0 (v := .ref (q 4)) (C := RX12) (T := TX12) (N := 31) rfl rfl inX12 4 (by decide) (ref := RX12) kw_1062 rfl rfl dX12_isAfter_1 ?_
  refine lv_iload_n SS.1 SS.2.1 dX12_isAfter_4 rfl (lv_at hl 1 rfl) ?_
  refine j_iald SS hG hP 5 (n := 640) (f := (u.1 4)) rfl (z := i) (by omega) (by omega) dX12_isAfter_5 ?_
  refine lv_aload_n SS.1 SS.2.1 dX12_isAfter_6 rfl (lv_at hl 0 rfl) ?_
  refine j_get SS hG hP 0 (v := .ref (q 4)) (C := RX12) (T := TX12) (N := 31) rfl rfl inX12 4 (by decide) (ref := RX12) kw_1062 rfl rfl dX12_isAfter_7 ?_
  refine lv_iload_n SS.1 SS.2.1 dX12_isAfter_10 rfl (lv_at hl 2 rfl) ?_
  refine j_iald SS hG hP 5 (n := 640) (f := (u.1 4)) rfl (z := j) (by omega) (by omega) dX12_isAfter_11 ?_
  refine j_icmp_gt SS (tgt := 45) (x := ((u.1 4) (i).toNat)) (y := ((u.1 4) (j).toNat)) dX12_isAfter_12 (by decide) (by omega) (by omega) (fun c_12 => ?_) (fun c_12 => ?_)
  · skip
    refine j_iconst SS dX12_isAfter_45 ?_
    refine lv_goto (tgt := 50) SS.1 SS.2.1 dX12_isAfter_46 (by decide) ?_
    exact W.zret SS.1 SS.2.1 hr (j_nz (by decide)) (fun t ht hW => ⟨_, rfl, ⟨1, rfl, (by unfold lt2; omega)⟩, ht⟩) (fun _ h => nomatch h) dX12_isAfter_50 hlk
  · skip
    refine lv_aload_n SS.1 SS.2.1 dX12_isAfter_15 rfl (lv_at hl 0 rfl) ?_
    refine j_get SS hG hP 0 (v := .ref (q 4)) (C := RX12) (T := TX12) (N := 31) rfl rfl inX12 4 (by decide) (ref := RX12) kw_1062 rfl rfl dX12_isAfter_16 ?_
    refine lv_iload_n SS.1 SS.2.1 dX12_isAfter_19 rfl (lv_at hl 1 rfl) ?_
    refine j_iald SS hG hP 5 (n := 640) (f := (u.1 4)) rfl (z := i) (by omega) (by omega) dX12_isAfter_20 ?_
    refine lv_aload_n SS.1 SS.2.1 dX12_isAfter_21 rfl (lv_at hl 0 rfl) ?_
    refine j_get SS hG hP 0 (v := .ref (q 4)) (C := RX12) (T := TX12) (N := 31) rfl rfl inX12 4 (by decide) (ref := RX12) kw_1062 rfl rfl dX12_isAfter_22 ?_
    refine lv_iload_n SS.1 SS.2.1 dX12_isAfter_25 rfl (lv_at hl 2 rfl) ?_
    refine j_iald SS hG hP 5 (n := 640) (f := (u.1 4)) rfl (z := j) (by omega) (by omega) dX12_isAfter_26 ?_
    refine j_icmp_ne SS (tgt := 49) (x := ((u.1 4) (i).toNat)) (y := ((u.1 4) (j).toNat)) dX12_isAfter_27 (by decide) (by omega) (by omega) (fun c_27 => ?_) (fun c_27 => ?_)
    · skip
      refine j_iconst SS dX12_isAfter_49 ?_
      exact W.zret SS.1 SS.2.1 hr (j_nz (by decide)) (fun t ht hW => ⟨_, rfl, ⟨0, rfl, (by unfold lt2; omega)⟩, ht⟩) (fun _ h => nomatch h) dX12_isAfter_50 hlk
    · skip
      refine lv_aload_n SS.1 SS.2.1 dX12_isAfter_30 rfl (lv_at hl 0 rfl) ?_
      refine j_get SS hG hP 0 (v := .ref (q 5)) (C := RX12) (T := TX12) (N := 31) rfl rfl inX12 5 (by decide) (ref := RX12) kw_1063 rfl rfl dX12_isAfter_31 ?_
      refine lv_iload_n SS.1 SS.2.1 dX12_isAfter_34 rfl (lv_at hl 1 rfl) ?_
      refine j_iald SS hG hP 6 (n := 640) (f := (u.1 5)) rfl (z := i) (by omega) (by omega) dX12_isAfter_35 ?_
      refine lv_aload_n SS.1 SS.2.1 dX12_isAfter_36 rfl (lv_at hl 0 rfl) ?_
      refine j_get SS hG hP 0 (v := .ref (q 5)) (C := RX12) (T := TX12) (N := 31) rfl rfl inX12 5 (by decide) (ref := RX12) kw_1063 rfl rfl dX12_isAfter_37 ?_
      refine lv_iload_n SS.1 SS.2.1 dX12_isAfter_40 rfl (lv_at hl 2 rfl) ?_
      refine j_iald SS hG hP 6 (n := 640) (f := (u.1 5)) rfl (z := j) (by omega) (by omega) dX12_isAfter_41 ?_
      refine j_icmp_le SS (tgt := 49) (x := ((u.1 5) (i).toNat)) (y := ((u.1 5) (j).toNat)) dX12_isAfter_42 (by decide) (by omega) (by omega) (fun c_42 => ?_) (fun c_42 => ?_)
      · skip
        refine j_iconst SS dX12_isAfter_49 ?_
        exact W.zret SS.1 SS.2.1 hr (j_nz (by decide)) (fun t ht hW => ⟨_, rfl, ⟨0, rfl, (by unfold lt2; omega)⟩, ht⟩) (fun _ h => nomatch h) dX12_isAfter_50 hlk
      · skip
        refine j_iconst SS dX12_isAfter_45 ?_
        refine lv_goto (tgt := 50) SS.1 SS.2.1 dX12_isAfter_46 (by decide) ?_
        exact W.zret SS.1 SS.2.1 hr (j_nz (by decide)) (fun t ht hW => ⟨_, rfl, ⟨1, rfl, (by unfold lt2; omega)⟩, ht⟩) (fun _ h => nomatch h) dX12_isAfter_50 hlk

set_option maxHeartbeats 4000000 in
set_option maxRecDepth 100000 in
theorem c_X12_order (l : Launch) (D : JD) (o : Nat) (q : Nat → Nat) (u : MS) (A : Nat → Prop) (hD : va_D A (mW D o q u)) (p0 : 0 ≤ u.2.2 6 ∧ u.2.2 6 ≤ 640) (p1 : bd 10000 (u.1 4) (u.1 5) (u.2.2 6)) : Met l yX12_order (jw yX12_order cX12_order 5 none) (jr 1 22) (jP [.ref o] D (fun H => va_P D.1 j_cl (mW D o q u) H)) (jWv (fun u' => ∃ f : Nat → Int, ∃ g : Nat → Int, ∃ w : Int, u' = (uV (uI (uI u 4 f) 5 g) 6 w) ∧ (0 ≤ w ∧ w ≤ u.2.2 6 ∧ (0 < u.2.2 6 → 0 < w) ∧ os_s f g w ∧ bd 10000 f g w ∧ ∀ K : Int, bd K (u.1 4) (u.1 5) (u.2.2 6) → bd K f g w)) (fun u' H => va_P D.1 j_cl (mW D o q u') H) A) 0 0 A := by
  refine Met.ofW (cc := cX12_order) (maxL := 5) (ret := none) (by decide) rfl ?_
  intro pr en st mi args below meth co s₁ B hml hv
  obtain ⟨rfl, hG, hP⟩ := hv
  have hr := B.returns
  have hlk := B.notSynchronized
  have SS : jS pr mi co cX12_order 5 st _ RX12 := ⟨B.exec, B.bytes, hml, findClass_of_methodNamed B.named, fun w hw => atoms_spec (ws := (jw yX12_order cX12_order 5 none)) B.pre w (List.mem_cons_of_mem _ hw)⟩
  have hl := lv_entry ([.ref o]) (n := 5) (Nat.le_of_ble_eq_true rfl)
  rw [lg_entry_eq]
  generalize (lg_sl ([.ref o]) ++ List.replicate (5 - (lg_sl ([.ref o])).length) Slot.unset).toArray = ls at hl ⊢
  have hl : lv_has ls 5 [(0, .ref o)] := hl
  have hS : va_S A st.heap st.heap [] := va_S.rf
  refine j_iconst SS dX12_order_0 ?_
  refine lv_istore_n (lv' := [(1, .int (J 1)), (0, .ref o)]) SS.1 SS.2.1 dX12_order_1 rfl hl (by decide) rfl (fun ls hl => ?_)
  have L_2 : ∀ (nn : Nat) (i : Int) (f : Nat → Int) (g : Nat → Int) (H : Heap) (locs : List Loc) (hP : va_P D.1 j_cl (mW D o q (uI (uI u 4 f) 5 g)) H) (hS : va_S A st.heap H locs) (ls : Array Slot) (hl : lv_has ls 5 [(0, .ref o), (1, .int (J i))]) (i2_0 : 1 ≤ i ∧ (i ≤ u.2.2 6 ∨ i = 1)) (i2_1 : os_w f g i) (i2_2 : ∀ K : Int, bd K (u.1 4) (u.1 5) (u.2.2 6) → bd K f g (u.2.2 6)), (u.2.2 6 - i).toNat < nn → W pr l en (headSpec (jw yX12_order cX12_order 5 none) (jr 1 22)).room st mi (([.ref o] : List Value).toArray) below meth co H locs 0 0 (MQ below (jWv (fun u' => ∃ f : Nat → Int, ∃ g : Nat → Int, ∃ w : Int, u' = (uV (uI (uI u 4 f) 5 g) 6 w) ∧ (0 ≤ w ∧ w ≤ u.2.2 6 ∧ (0 < u.2.2 6 → 0 < w) ∧ os_s f g w ∧ bd 10000 f g w ∧ ∀ K : Int, bd K (u.1 4) (u.1 5) (u.2.2 6) → bd K f g w)) (fun u' H => va_P D.1 j_cl (mW D o q u') H) A) (([.ref o] : List Value).toArray) st 0 0 A) (F0 mi 2 ls []) := by
    intro nn
    induction nn with
    | zero => intros; omega
    | succ nn ih_2 =>
      intro i f g H locs hP hS ls hl i2_0 i2_1 i2_2 hm
      refine lv_iload_n SS.1 SS.2.1 dX12_order_2 rfl (lv_at hl 1 rfl) ?_
      refine lv_aload_n SS.1 SS.2.1 dX12_order_3 rfl (lv_at hl 0 rfl) ?_
      refine j_get SS hG hP 0 (v := .int (J (u.2.2 6))) (C := RX12) (T := TX12) (N := 31) rfl rfl inX12 6 (by decide) (ref := RX12) kw_1064 rfl rfl dX12_order_4 ?_
      refine j_icmp_ge SS (tgt := 101) (x := i) (y := (u.2.2 6)) dX12_order_7 (by decide) (by omega) (by omega) (fun c_7 => ?_) (fun c_7 => ?_)
      · skip
        refine j_iconst SS dX12_order_101 ?_
        refine lv_istore_n (lv' := [(1, .int (J 0)), (0, .ref o)]) SS.1 SS.2.1 dX12_order_102 rfl hl (by decide) rfl (fun ls hl => ?_)
        refine j_iconst SS dX12_order_103 ?_
        refine lv_istore_n (lv' := [(2, .int (J 0)), (1, .int (J 0)), (0, .ref o)]) SS.1 SS.2.1 dX12_order_104 rfl hl (by decide) rfl (fun ls hl => ?_)
        have L_105 : ∀ (nn : Nat) (n : Int) (i2 : Int) (f3 : Nat → Int) (g3 : Nat → Int) (H : Heap) (locs : List Loc) (hP : va_P D.1 j_cl (mW D o q (uI (uI u 4 f3) 5 g3)) H) (hS : va_S A st.heap H locs) (ls : Array Slot) (hl : lv_has ls 5 [(0, .ref o), (1, .int (J n)), (2, .int (J i2))]) (i105_0 : 0 ≤ i2 ∧ i2 ≤ u.2.2 6) (i105_1 : os_d f3 g3 n i2 (u.2.2 6)) (i105_2 : ∀ K : Int, bd K (u.1 4) (u.1 5) (u.2.2 6) → bd K f3 g3 (u.2.2 6)) (i105_3 : bd 10000 f3 g3 (u.2.2 6)), (u.2.2 6 - i2).toNat < nn → W pr l en (headSpec (jw yX12_order cX12_order 5 none) (jr 1 22)).room st mi (([.ref o] : List Value).toArray) below meth co H locs 0 0 (MQ below (jWv (fun u' => ∃ f : Nat → Int, ∃ g : Nat → Int, ∃ w : Int, u' = (uV (uI (uI u 4 f) 5 g) 6 w) ∧ (0 ≤ w ∧ w ≤ u.2.2 6 ∧ (0 < u.2.2 6 → 0 < w) ∧ os_s f g w ∧ bd 10000 f g w ∧ ∀ K : Int, bd K (u.1 4) (u.1 5) (u.2.2 6) → bd K f g w)) (fun u' H => va_P D.1 j_cl (mW D o q u') H) A) (([.ref o] : List Value).toArray) st 0 0 A) (F0 mi 105 ls []) := by
          intro nn
          induction nn with
          | zero => intros; omega
          | succ nn ih_105 =>
            intro n i2 f3 g3 H locs hP hS ls hl i105_0 i105_1 i105_2 i105_3 hm
            have hn1 := i105_1.1
            have hn2 := i105_1.2.1
            refine lv_iload_n SS.1 SS.2.1 dX12_order_105 rfl (lv_at hl 2 rfl) ?_
            refine lv_aload_n SS.1 SS.2.1 dX12_order_106 rfl (lv_at hl 0 rfl) ?_
            refine j_get SS hG hP 0 (v := .int (J (u.2.2 6))) (C := RX12) (T := TX12) (N := 31) rfl rfl inX12 6 (by decide) (ref := RX12) kw_1064 rfl rfl dX12_order_107 ?_
            refine j_icmp_ge SS (tgt := 184) (x := i2) (y := (u.2.2 6)) dX12_order_110 (by decide) (by omega) (by omega) (fun c_110 => ?_) (fun c_110 => ?_)
            · skip
              refine lv_aload_n SS.1 SS.2.1 dX12_order_184 rfl (lv_at hl 0 rfl) ?_
              refine lv_iload_n SS.1 SS.2.1 dX12_order_185 rfl (lv_at hl 1 rfl) ?_
              refine j_put SS hG hP (mW_D hD) hS 0 (v := .int (J n)) (ty := .int) (C := RX12) (T := TX12) (N := 31) rfl rfl inX12 tyX12 tyX12_ok nmX12 6 (by decide) (ref := RX12) kw_1064 rfl rfl (by decide +kernel) rfl rfl (Nat.le_of_ble_eq_true rfl) dX12_order_186 (ws' := (mW D o q (uV (uI (uI u 4 f3) 5 g3) 6 n))) rfl (fun H locs hP hS => ?_)
              exact W.vret SS.1 SS.2.1 hr (fun t ht hW => ⟨⟨(uV (uI (uI u 4 f3) 5 g3) 6 n), rfl, (⟨f3, g3, n, rfl, ⟨i105_1.1, by omega, by have := i105_1.2.2.1; omega, i105_1.2.2.2.1, fun a h => i105_3 a (by omega), fun K h a ha => i105_2 K h a (by omega)⟩⟩), by show va_P D.1 j_cl (mW D o q (uV (uI (uI u 4 f3) 5 g3) 6 n)) t.heap; rw [ht]; exact hP⟩, hS.F ht⟩) hS.2.2 dX12_order_189 hlk
            · skip
              refine lv_iload_n SS.1 SS.2.1 dX12_order_113 rfl (lv_at hl 1 rfl) ?_
              refine j_if_eq SS (tgt := 151) (x := n) dX12_order_114 (by decide) (by omega) (fun c_114 => ?_) (fun c_114 => ?_)
              · skip
                refine lv_aload_n SS.1 SS.2.1 dX12_order_151 rfl (lv_at hl 0 rfl) ?_
                refine j_get SS hG hP 0 (v := .ref (q 4)) (C := RX12) (T := TX12) (N := 31) rfl rfl inX12 4 (by decide) (ref := RX12) kw_1062 rfl rfl dX12_order_152 ?_
                refine lv_iload_n SS.1 SS.2.1 dX12_order_155 rfl (lv_at hl 1 rfl) ?_
                refine lv_aload_n SS.1 SS.2.1 dX12_order_156 rfl (lv_at hl 0 rfl) ?_
                refine j_get SS hG hP 0 (v := .ref (q 4)) (C := RX12) (T := TX12) (N := 31) rfl rfl inX12 4 (by decide) (ref := RX12) kw_1062 rfl rfl dX12_order_157 ?_
                refine lv_iload_n SS.1 SS.2.1 dX12_order_160 rfl (lv_at hl 2 rfl) ?_
                refine j_iald SS hG hP 5 (n := 640) (f := f3) rfl (z := i2) (by omega) (by omega) dX12_order_161 ?_
                refine j_iast SS hG hP (mW_D hD) hS 5 (n := 640) (f := f3) rfl (z := n) (v := (f3 (i2).toNat)) (by omega) (by omega) dX12_order_162 (ws' := (mW D o q (uI (uI u 4 (upI f3 (n).toNat (f3 (i2).toNat))) 5 g3))) rfl (fun H locs hP hS => ?_)
                refine lv_aload_n SS.1 SS.2.1 dX12_order_163 rfl (lv_at hl 0 rfl) ?_
                refine j_get SS hG hP 0 (v := .ref (q 5)) (C := RX12) (T := TX12) (N := 31) rfl rfl inX12 5 (by decide) (ref := RX12) kw_1063 rfl rfl dX12_order_164 ?_
                refine lv_iload_n SS.1 SS.2.1 dX12_order_167 rfl (lv_at hl 1 rfl) ?_
                refine lv_aload_n SS.1 SS.2.1 dX12_order_168 rfl (lv_at hl 0 rfl) ?_
                refine j_get SS hG hP 0 (v := .ref (q 5)) (C := RX12) (T := TX12) (N := 31) rfl rfl inX12 5 (by decide) (ref := RX12) kw_1063 rfl rfl dX12_order_169 ?_
                refine lv_iload_n SS.1 SS.2.1 dX12_order_172 rfl (lv_at hl 2 rfl) ?_
                refine j_iald SS hG hP 6 (n := 640) (f := g3) rfl (z := i2) (by omega) (by omega) dX12_order_173 ?_
                refine j_iast SS hG hP (mW_D hD) hS 6 (n := 640) (f := g3) rfl (z := n) (v := (g3 (i2).toNat)) (by omega) (by omega) dX12_order_174 (ws' := (mW D o q (uI (uI u 4 (upI f3 (n).toNat (f3 (i2).toNat))) 5 (upI g3 (n).toNat (g3 (i2).toNat))))) rfl (fun H locs hP hS => ?_)
                refine lv_iinc (v := J (n + 1)) (lv' := [(1, .int (J (n + 1))), (0, .ref o), (2, .int (J i2))]) SS.1 SS.2.1 dX12_order_175 hl (k := 1) rfl (J_add _ _) (by decide) rfl (fun ls hl => ?_)
                refine lv_iinc (v := J (i2 + 1)) (lv' := [(2, .int (J (i2 + 1))), (1, .int (J (n + 1))), (0, .ref o)]) SS.1 SS.2.1 dX12_order_178 hl (k := 2) rfl (J_add _ _) (by decide) rfl (fun ls hl => ?_)
                refine lv_goto (tgt := 105) SS.1 SS.2.1 dX12_order_181 (by decide) ?_
                exact ih_105 (n + 1) (i2 + 1) (upI f3 (n).toNat (f3 (i2).toNat)) (upI g3 (n).toNat (g3 (i2).toNat)) _ _ hP hS ls (lv_sub hl [2, 1, 0] rfl) (by omega) (by first | exact os_dput i105_1 (by omega) (Or.inl (by omega)) | exact os_dput i105_1 (by omega) (Or.inr (Or.inl (by omega))) | exact os_dput i105_1 (by omega) (Or.inr (Or.inr (by omega))) | exact os_dskip i105_1 (by omega) (by omega) (by omega) (by omega)) (fun K h => by have q := i105_2 K h; have q1 := bd_at q (z := i2) (by omega) (by omega); first | exact bd_up q q1.1 q1.2 | exact q) (by have q1 := bd_at i105_3 (z := i2) (by omega) (by omega); first | exact bd_up i105_3 q1.1 q1.2 | exact i105_3) (by omega)
              · skip
                refine lv_aload_n SS.1 SS.2.1 dX12_order_117 rfl (lv_at hl 0 rfl) ?_
                refine j_get SS hG hP 0 (v := .ref (q 4)) (C := RX12) (T := TX12) (N := 31) rfl rfl inX12 4 (by decide) (ref := RX12) kw_1062 rfl rfl dX12_order_118 ?_
                refine lv_iload_n SS.1 SS.2.1 dX12_order_121 rfl (lv_at hl 2 rfl) ?_
                refine j_iald SS hG hP 5 (n := 640) (f := f3) rfl (z := i2) (by omega) (by omega) dX12_order_122 ?_
                refine lv_aload_n SS.1 SS.2.1 dX12_order_123 rfl (lv_at hl 0 rfl) ?_
                refine j_get SS hG hP 0 (v := .ref (q 4)) (C := RX12) (T := TX12) (N := 31) rfl rfl inX12 4 (by decide) (ref := RX12) kw_1062 rfl rfl dX12_order_124 ?_
                refine lv_iload_n SS.1 SS.2.1 dX12_order_127 rfl (lv_at hl 1 rfl) ?_
                refine j_iconst SS dX12_order_128 ?_
                refine j_isub SS (x := n) (y := 1) dX12_order_129 ?_
                refine j_iald SS hG hP 5 (n := 640) (f := f3) rfl (z := (n - 1)) (by omega) (by omega) dX12_order_130 ?_
                have q1 := bd_at i105_3 (z := i2) (by omega) (by omega)
                have q2 := bd_at i105_3 (z := n - 1) (by omega) (by omega)
                refine j_icmp_ne SS (tgt := 151) (x := (f3 (i2).toNat)) (y := (f3 ((n - 1)).toNat)) dX12_order_131 (by decide) (by omega) (by omega) (fun c_131 => ?_) (fun c_131 => ?_)
                · skip
                  refine lv_aload_n SS.1 SS.2.1 dX12_order_151 rfl (lv_at hl 0 rfl) ?_
                  refine j_get SS hG hP 0 (v := .ref (q 4)) (C := RX12) (T := TX12) (N := 31) rfl rfl inX12 4 (by decide) (ref := RX12) kw_1062 rfl rfl dX12_order_152 ?_
                  refine lv_iload_n SS.1 SS.2.1 dX12_order_155 rfl (lv_at hl 1 rfl) ?_
                  refine lv_aload_n SS.1 SS.2.1 dX12_order_156 rfl (lv_at hl 0 rfl) ?_
                  refine j_get SS hG hP 0 (v := .ref (q 4)) (C := RX12) (T := TX12) (N := 31) rfl rfl inX12 4 (by decide) (ref := RX12) kw_1062 rfl rfl dX12_order_157 ?_
                  refine lv_iload_n SS.1 SS.2.1 dX12_order_160 rfl (lv_at hl 2 rfl) ?_
                  refine j_iald SS hG hP 5 (n := 640) (f := f3) rfl (z := i2) (by omega) (by omega) dX12_order_161 ?_
                  refine j_iast SS hG hP (mW_D hD) hS 5 (n := 640) (f := f3) rfl (z := n) (v := (f3 (i2).toNat)) (by omega) (by omega) dX12_order_162 (ws' := (mW D o q (uI (uI u 4 (upI f3 (n).toNat (f3 (i2).toNat))) 5 g3))) rfl (fun H locs hP hS => ?_)
                  refine lv_aload_n SS.1 SS.2.1 dX12_order_163 rfl (lv_at hl 0 rfl) ?_
                  refine j_get SS hG hP 0 (v := .ref (q 5)) (C := RX12) (T := TX12) (N := 31) rfl rfl inX12 5 (by decide) (ref := RX12) kw_1063 rfl rfl dX12_order_164 ?_
                  refine lv_iload_n SS.1 SS.2.1 dX12_order_167 rfl (lv_at hl 1 rfl) ?_
                  refine lv_aload_n SS.1 SS.2.1 dX12_order_168 rfl (lv_at hl 0 rfl) ?_
                  refine j_get SS hG hP 0 (v := .ref (q 5)) (C := RX12) (T := TX12) (N := 31) rfl rfl inX12 5 (by decide) (ref := RX12) kw_1063 rfl rfl dX12_order_169 ?_
                  refine lv_iload_n SS.1 SS.2.1 dX12_order_172 rfl (lv_at hl 2 rfl) ?_
                  refine j_iald SS hG hP 6 (n := 640) (f := g3) rfl (z := i2) (by omega) (by omega) dX12_order_173 ?_
                  refine j_iast SS hG hP (mW_D hD) hS 6 (n := 640) (f := g3) rfl (z := n) (v := (g3 (i2).toNat)) (by omega) (by omega) dX12_order_174 (ws' := (mW D o q (uI (uI u 4 (upI f3 (n).toNat (f3 (i2).toNat))) 5 (upI g3 (n).toNat (g3 (i2).toNat))))) rfl (fun H locs hP hS => ?_)
                  refine lv_iinc (v := J (n + 1)) (lv' := [(1, .int (J (n + 1))), (0, .ref o), (2, .int (J i2))]) SS.1 SS.2.1 dX12_order_175 hl (k := 1) rfl (J_add _ _) (by decide) rfl (fun ls hl => ?_)
                  refine lv_iinc (v := J (i2 + 1)) (lv' := [(2, .int (J (i2 + 1))), (1, .int (J (n + 1))), (0, .ref o)]) SS.1 SS.2.1 dX12_order_178 hl (k := 2) rfl (J_add _ _) (by decide) rfl (fun ls hl => ?_)
                  refine lv_goto (tgt := 105) SS.1 SS.2.1 dX12_order_181 (by decide) ?_
                  exact ih_105 (n + 1) (i2 + 1) (upI f3 (n).toNat (f3 (i2).toNat)) (upI g3 (n).toNat (g3 (i2).toNat)) _ _ hP hS ls (lv_sub hl [2, 1, 0] rfl) (by omega) (by first | exact os_dput i105_1 (by omega) (Or.inl (by omega)) | exact os_dput i105_1 (by omega) (Or.inr (Or.inl (by omega))) | exact os_dput i105_1 (by omega) (Or.inr (Or.inr (by omega))) | exact os_dskip i105_1 (by omega) (by omega) (by omega) (by omega)) (fun K h => by have q := i105_2 K h; have q1 := bd_at q (z := i2) (by omega) (by omega); first | exact bd_up q q1.1 q1.2 | exact q) (by have q1 := bd_at i105_3 (z := i2) (by omega) (by omega); first | exact bd_up i105_3 q1.1 q1.2 | exact i105_3) (by omega)
                · skip
                  refine lv_aload_n SS.1 SS.2.1 dX12_order_134 rfl (lv_at hl 0 rfl) ?_
                  refine j_get SS hG hP 0 (v := .ref (q 5)) (C := RX12) (T := TX12) (N := 31) rfl rfl inX12 5 (by decide) (ref := RX12) kw_1063 rfl rfl dX12_order_135 ?_
                  refine lv_iload_n SS.1 SS.2.1 dX12_order_138 rfl (lv_at hl 2 rfl) ?_
                  refine j_iald SS hG hP 6 (n := 640) (f := g3) rfl (z := i2) (by omega) (by omega) dX12_order_139 ?_
                  refine lv_aload_n SS.1 SS.2.1 dX12_order_140 rfl (lv_at hl 0 rfl) ?_
                  refine j_get SS hG hP 0 (v := .ref (q 5)) (C := RX12) (T := TX12) (N := 31) rfl rfl inX12 5 (by decide) (ref := RX12) kw_1063 rfl rfl dX12_order_141 ?_
                  refine lv_iload_n SS.1 SS.2.1 dX12_order_144 rfl (lv_at hl 1 rfl) ?_
                  refine j_iconst SS dX12_order_145 ?_
                  refine j_isub SS (x := n) (y := 1) dX12_order_146 ?_
                  refine j_iald SS hG hP 6 (n := 640) (f := g3) rfl (z := (n - 1)) (by omega) (by omega) dX12_order_147 ?_
                  have q1 := bd_at i105_3 (z := i2) (by omega) (by omega)
                  have q2 := bd_at i105_3 (z := n - 1) (by omega) (by omega)
                  refine j_icmp_eq SS (tgt := 178) (x := (g3 (i2).toNat)) (y := (g3 ((n - 1)).toNat)) dX12_order_148 (by decide) (by omega) (by omega) (fun c_148 => ?_) (fun c_148 => ?_)
                  · skip
                    refine lv_iinc (v := J (i2 + 1)) (lv' := [(2, .int (J (i2 + 1))), (0, .ref o), (1, .int (J n))]) SS.1 SS.2.1 dX12_order_178 hl (k := 2) rfl (J_add _ _) (by decide) rfl (fun ls hl => ?_)
                    refine lv_goto (tgt := 105) SS.1 SS.2.1 dX12_order_181 (by decide) ?_
                    exact ih_105 n (i2 + 1) f3 g3 _ _ hP hS ls (lv_sub hl [1, 2, 0] rfl) (by omega) (by first | exact os_dput i105_1 (by omega) (Or.inl (by omega)) | exact os_dput i105_1 (by omega) (Or.inr (Or.inl (by omega))) | exact os_dput i105_1 (by omega) (Or.inr (Or.inr (by omega))) | exact os_dskip i105_1 (by omega) (by omega) (by omega) (by omega)) (fun K h => by have q := i105_2 K h; have q1 := bd_at q (z := i2) (by omega) (by omega); first | exact bd_up q q1.1 q1.2 | exact q) (by have q1 := bd_at i105_3 (z := i2) (by omega) (by omega); first | exact bd_up i105_3 q1.1 q1.2 | exact i105_3) (by omega)
                  · skip
                    refine lv_aload_n SS.1 SS.2.1 dX12_order_151 rfl (lv_at hl 0 rfl) ?_
                    refine j_get SS hG hP 0 (v := .ref (q 4)) (C := RX12) (T := TX12) (N := 31) rfl rfl inX12 4 (by decide) (ref := RX12) kw_1062 rfl rfl dX12_order_152 ?_
                    refine lv_iload_n SS.1 SS.2.1 dX12_order_155 rfl (lv_at hl 1 rfl) ?_
                    refine lv_aload_n SS.1 SS.2.1 dX12_order_156 rfl (lv_at hl 0 rfl) ?_
                    refine j_get SS hG hP 0 (v := .ref (q 4)) (C := RX12) (T := TX12) (N := 31) rfl rfl inX12 4 (by decide) (ref := RX12) kw_1062 rfl rfl dX12_order_157 ?_
                    refine lv_iload_n SS.1 SS.2.1 dX12_order_160 rfl (lv_at hl 2 rfl) ?_
                    refine j_iald SS hG hP 5 (n := 640) (f := f3) rfl (z := i2) (by omega) (by omega) dX12_order_161 ?_
                    refine j_iast SS hG hP (mW_D hD) hS 5 (n := 640) (f := f3) rfl (z := n) (v := (f3 (i2).toNat)) (by omega) (by omega) dX12_order_162 (ws' := (mW D o q (uI (uI u 4 (upI f3 (n).toNat (f3 (i2).toNat))) 5 g3))) rfl (fun H locs hP hS => ?_)
                    refine lv_aload_n SS.1 SS.2.1 dX12_order_163 rfl (lv_at hl 0 rfl) ?_
                    refine j_get SS hG hP 0 (v := .ref (q 5)) (C := RX12) (T := TX12) (N := 31) rfl rfl inX12 5 (by decide) (ref := RX12) kw_1063 rfl rfl dX12_order_164 ?_
                    refine lv_iload_n SS.1 SS.2.1 dX12_order_167 rfl (lv_at hl 1 rfl) ?_
                    refine lv_aload_n SS.1 SS.2.1 dX12_order_168 rfl (lv_at hl 0 rfl) ?_
                    refine j_get SS hG hP 0 (v := .ref (q 5)) (C := RX12) (T := TX12) (N := 31) rfl rfl inX12 5 (by decide) (ref := RX12) kw_1063 rfl rfl dX12_order_169 ?_
                    refine lv_iload_n SS.1 SS.2.1 dX12_order_172 rfl (lv_at hl 2 rfl) ?_
                    refine j_iald SS hG hP 6 (n := 640) (f := g3) rfl (z := i2) (by omega) (by omega) dX12_order_173 ?_
                    refine j_iast SS hG hP (mW_D hD) hS 6 (n := 640) (f := g3) rfl (z := n) (v := (g3 (i2).toNat)) (by omega) (by omega) dX12_order_174 (ws' := (mW D o q (uI (uI u 4 (upI f3 (n).toNat (f3 (i2).toNat))) 5 (upI g3 (n).toNat (g3 (i2).toNat))))) rfl (fun H locs hP hS => ?_)
                    refine lv_iinc (v := J (n + 1)) (lv' := [(1, .int (J (n + 1))), (0, .ref o), (2, .int (J i2))]) SS.1 SS.2.1 dX12_order_175 hl (k := 1) rfl (J_add _ _) (by decide) rfl (fun ls hl => ?_)
                    refine lv_iinc (v := J (i2 + 1)) (lv' := [(2, .int (J (i2 + 1))), (1, .int (J (n + 1))), (0, .ref o)]) SS.1 SS.2.1 dX12_order_178 hl (k := 2) rfl (J_add _ _) (by decide) rfl (fun ls hl => ?_)
                    refine lv_goto (tgt := 105) SS.1 SS.2.1 dX12_order_181 (by decide) ?_
                    exact ih_105 (n + 1) (i2 + 1) (upI f3 (n).toNat (f3 (i2).toNat)) (upI g3 (n).toNat (g3 (i2).toNat)) _ _ hP hS ls (lv_sub hl [2, 1, 0] rfl) (by omega) (by first | exact os_dput i105_1 (by omega) (Or.inl (by omega)) | exact os_dput i105_1 (by omega) (Or.inr (Or.inl (by omega))) | exact os_dput i105_1 (by omega) (Or.inr (Or.inr (by omega))) | exact os_dskip i105_1 (by omega) (by omega) (by omega) (by omega)) (fun K h => by have q := i105_2 K h; have q1 := bd_at q (z := i2) (by omega) (by omega); first | exact bd_up q q1.1 q1.2 | exact q) (by have q1 := bd_at i105_3 (z := i2) (by omega) (by omega); first | exact bd_up i105_3 q1.1 q1.2 | exact i105_3) (by omega)
        exact L_105 ((u.2.2 6 - (0 : Int)).toNat + 1) 0 0 f g _ _ hP hS ls (lv_sub hl [2, 1, 0] rfl) (by omega) (os_d0 (fun a h => i2_1 a (by omega))) (i2_2) (i2_2 _ p1) (Nat.lt_succ_self _)
      · skip
        refine lv_iload_n SS.1 SS.2.1 dX12_order_10 rfl (lv_at hl 1 rfl) ?_
        refine lv_istore_n (lv' := [(2, .int (J i)), (0, .ref o), (1, .int (J i))]) SS.1 SS.2.1 dX12_order_11 rfl hl (by decide) rfl (fun ls hl => ?_)
        have L_12 : ∀ (nn : Nat) (j : Int) (f2 : Nat → Int) (g2 : Nat → Int) (H : Heap) (locs : List Loc) (hP : va_P D.1 j_cl (mW D o q (uI (uI u 4 f2) 5 g2)) H) (hS : va_S A st.heap H locs) (ls : Array Slot) (hl : lv_has ls 5 [(0, .ref o), (1, .int (J i)), (2, .int (J j))]) (i12_0 : 0 ≤ j ∧ j ≤ i) (i12_1 : os_in f2 g2 i j) (i12_2 : ∀ K : Int, bd K (u.1 4) (u.1 5) (u.2.2 6) → bd K f2 g2 (u.2.2 6)) (i12_3 : bd 10000 f2 g2 (u.2.2 6)), j.toNat < nn → W pr l en (headSpec (jw yX12_order cX12_order 5 none) (jr 1 22)).room st mi (([.ref o] : List Value).toArray) below meth co H locs 0 0 (MQ below (jWv (fun u' => ∃ f : Nat → Int, ∃ g : Nat → Int, ∃ w : Int, u' = (uV (uI (uI u 4 f) 5 g) 6 w) ∧ (0 ≤ w ∧ w ≤ u.2.2 6 ∧ (0 < u.2.2 6 → 0 < w) ∧ os_s f g w ∧ bd 10000 f g w ∧ ∀ K : Int, bd K (u.1 4) (u.1 5) (u.2.2 6) → bd K f g w)) (fun u' H => va_P D.1 j_cl (mW D o q u') H) A) (([.ref o] : List Value).toArray) st 0 0 A) (F0 mi 12 ls []) := by
          intro nn
          induction nn with
          | zero => intros; omega
          | succ nn ih_12 =>
            intro j f2 g2 H locs hP hS ls hl i12_0 i12_1 i12_2 i12_3 hm
            refine lv_iload_n SS.1 SS.2.1 dX12_order_12 rfl (lv_at hl 2 rfl) ?_
            refine j_if_le SS (tgt := 95) (x := j) dX12_order_13 (by decide) (by omega) (fun c_13 => ?_) (fun c_13 => ?_)
            · skip
              refine lv_iinc (v := J (i + 1)) (lv' := [(1, .int (J (i + 1))), (0, .ref o), (2, .int (J j))]) SS.1 SS.2.1 dX12_order_95 hl (k := 1) rfl (J_add _ _) (by decide) rfl (fun ls hl => ?_)
              refine lv_goto (tgt := 2) SS.1 SS.2.1 dX12_order_98 (by decide) ?_
              exact ih_2 (i + 1) f2 g2 _ _ hP hS ls (lv_sub hl [1, 0] rfl) (by omega) (by first | exact os_end i12_1 (Or.inl (by omega)) | exact os_end i12_1 (Or.inr ⟨by omega, by omega, by rcases h_21 with h | h; omega; exact h.2⟩)) (i12_2) (by omega)
            · skip
              refine lv_aload_n SS.1 SS.2.1 dX12_order_16 rfl (lv_at hl 0 rfl) ?_
              refine lv_iload_n SS.1 SS.2.1 dX12_order_17 rfl (lv_at hl 2 rfl) ?_
              refine j_iconst SS dX12_order_18 ?_
              refine j_isub SS (x := j) (y := 1) dX12_order_19 ?_
              refine lv_iload_n SS.1 SS.2.1 dX12_order_20 rfl (lv_at hl 2 rfl) ?_
              refine j_vRi SS (As := [.int (J (j - 1)), .int (J j)]) (rest := []) (c_X12_isAfter l D o q (uI (uI u 4 f2) 5 g2) (j - 1) j (show 0 ≤ (j - 1) ∧ (j - 1) < 640 from (by omega)) (show 0 ≤ j ∧ j < 640 from (by omega)) (show -10000 ≤ f2 (j - 1).toNat ∧ f2 (j - 1).toNat ≤ 10000 from (by have q := bd_at i12_3 (z := j - 1) (by omega) (by omega); exact q.1)) (show -10000 ≤ f2 j.toNat ∧ f2 j.toNat ≤ 10000 from (by have q := bd_at i12_3 (z := j) (by omega) (by omega); exact q.1)) (show -10000 ≤ g2 (j - 1).toNat ∧ g2 (j - 1).toNat ≤ 10000 from (by have q := bd_at i12_3 (z := j - 1) (by omega) (by omega); exact q.2)) (show -10000 ≤ g2 j.toNat ∧ g2 j.toNat ≤ 10000 from (by have q := bd_at i12_3 (z := j) (by omega) (by omega); exact q.2))) mf_X12_isAfter kw_1197 hG hP hP (ci := 8) (q0 := 0) rfl rfl rfl rfl hl.1 ⟨⟨Nat.le_of_ble_eq_true rfl, Nat.le_of_ble_eq_true rfl⟩, Nat.le_of_ble_eq_true rfl, Nat.le_refl _, Nat.le_refl _⟩ rfl dX12_order_21 (fun z_21 h_21 => ?_)
              have h_21 : (z_21 = 1 ∧ lt2 (f2 j.toNat) (g2 j.toNat) (f2 (j - 1).toNat) (g2 (j - 1).toNat)) ∨ (z_21 = 0 ∧ ¬ lt2 (f2 j.toNat) (g2 j.toNat) (f2 (j - 1).toNat) (g2 (j - 1).toNat)) := h_21
              refine j_if_eq SS (tgt := 95) (x := z_21) dX12_order_24 (by decide) (by omega) (fun c_24 => ?_) (fun c_24 => ?_)
              · skip
                refine lv_iinc (v := J (i + 1)) (lv' := [(1, .int (J (i + 1))), (0, .ref o), (2, .int (J j))]) SS.1 SS.2.1 dX12_order_95 hl (k := 1) rfl (J_add _ _) (by decide) rfl (fun ls hl => ?_)
                refine lv_goto (tgt := 2) SS.1 SS.2.1 dX12_order_98 (by decide) ?_
                exact ih_2 (i + 1) f2 g2 _ _ hP hS ls (lv_sub hl [1, 0] rfl) (by omega) (by first | exact os_end i12_1 (Or.inl (by omega)) | exact os_end i12_1 (Or.inr ⟨by omega, by omega, by rcases h_21 with h | h; omega; exact h.2⟩)) (i12_2) (by omega)
              · skip
                refine lv_aload_n SS.1 SS.2.1 dX12_order_27 rfl (lv_at hl 0 rfl) ?_
                refine j_get SS hG hP 0 (v := .ref (q 4)) (C := RX12) (T := TX12) (N := 31) rfl rfl inX12 4 (by decide) (ref := RX12) kw_1062 rfl rfl dX12_order_28 ?_
                refine lv_iload_n SS.1 SS.2.1 dX12_order_31 rfl (lv_at hl 2 rfl) ?_
                refine j_iald SS hG hP 5 (n := 640) (f := f2) rfl (z := j) (by omega) (by omega) dX12_order_32 ?_
                refine lv_istore_n (lv' := [(3, .int (J (f2 (j).toNat))), (0, .ref o), (1, .int (J i)), (2, .int (J j))]) SS.1 SS.2.1 dX12_order_33 rfl hl (by decide) rfl (fun ls hl => ?_)
                refine lv_aload_n SS.1 SS.2.1 dX12_order_34 rfl (lv_at hl 1 rfl) ?_
                refine j_get SS hG hP 0 (v := .ref (q 5)) (C := RX12) (T := TX12) (N := 31) rfl rfl inX12 5 (by decide) (ref := RX12) kw_1063 rfl rfl dX12_order_35 ?_
                refine lv_iload_n SS.1 SS.2.1 dX12_order_38 rfl (lv_at hl 3 rfl) ?_
                refine j_iald SS hG hP 6 (n := 640) (f := g2) rfl (z := j) (by omega) (by omega) dX12_order_39 ?_
                refine lv_istore (lv' := [(4, .int (J (g2 (j).toNat))), (3, .int (J (f2 (j).toNat))), (0, .ref o), (1, .int (J i)), (2, .int (J j))]) SS.1 SS.2.1 dX12_order_40 hl (by decide) rfl (fun ls hl => ?_)
                refine lv_aload_n SS.1 SS.2.1 dX12_order_42 rfl (lv_at hl 2 rfl) ?_
                refine j_get SS hG hP 0 (v := .ref (q 4)) (C := RX12) (T := TX12) (N := 31) rfl rfl inX12 4 (by decide) (ref := RX12) kw_1062 rfl rfl dX12_order_43 ?_
                refine lv_iload_n SS.1 SS.2.1 dX12_order_46 rfl (lv_at hl 4 rfl) ?_
                refine lv_aload_n SS.1 SS.2.1 dX12_order_47 rfl (lv_at hl 2 rfl) ?_
                refine j_get SS hG hP 0 (v := .ref (q 4)) (C := RX12) (T := TX12) (N := 31) rfl rfl inX12 4 (by decide) (ref := RX12) kw_1062 rfl rfl dX12_order_48 ?_
                refine lv_iload_n SS.1 SS.2.1 dX12_order_51 rfl (lv_at hl 4 rfl) ?_
                refine j_iconst SS dX12_order_52 ?_
                refine j_isub SS (x := j) (y := 1) dX12_order_53 ?_
                refine j_iald SS hG hP 5 (n := 640) (f := f2) rfl (z := (j - 1)) (by omega) (by omega) dX12_order_54 ?_
                refine j_iast SS hG hP (mW_D hD) hS 5 (n := 640) (f := f2) rfl (z := j) (v := (f2 ((j - 1)).toNat)) (by omega) (by omega) dX12_order_55 (ws' := (mW D o q (uI (uI u 4 (upI f2 (j).toNat (f2 ((j - 1)).toNat))) 5 g2))) rfl (fun H locs hP hS => ?_)
                refine lv_aload_n SS.1 SS.2.1 dX12_order_56 rfl (lv_at hl 2 rfl) ?_
                refine j_get SS hG hP 0 (v := .ref (q 5)) (C := RX12) (T := TX12) (N := 31) rfl rfl inX12 5 (by decide) (ref := RX12) kw_1063 rfl rfl dX12_order_57 ?_
                refine lv_iload_n SS.1 SS.2.1 dX12_order_60 rfl (lv_at hl 4 rfl) ?_
                refine lv_aload_n SS.1 SS.2.1 dX12_order_61 rfl (lv_at hl 2 rfl) ?_
                refine j_get SS hG hP 0 (v := .ref (q 5)) (C := RX12) (T := TX12) (N := 31) rfl rfl inX12 5 (by decide) (ref := RX12) kw_1063 rfl rfl dX12_order_62 ?_
                refine lv_iload_n SS.1 SS.2.1 dX12_order_65 rfl (lv_at hl 4 rfl) ?_
                refine j_iconst SS dX12_order_66 ?_
                refine j_isub SS (x := j) (y := 1) dX12_order_67 ?_
                refine j_iald SS hG hP 6 (n := 640) (f := g2) rfl (z := (j - 1)) (by omega) (by omega) dX12_order_68 ?_
                refine j_iast SS hG hP (mW_D hD) hS 6 (n := 640) (f := g2) rfl (z := j) (v := (g2 ((j - 1)).toNat)) (by omega) (by omega) dX12_order_69 (ws' := (mW D o q (uI (uI u 4 (upI f2 (j).toNat (f2 ((j - 1)).toNat))) 5 (upI g2 (j).toNat (g2 ((j - 1)).toNat))))) rfl (fun H locs hP hS => ?_)
                refine lv_aload_n SS.1 SS.2.1 dX12_order_70 rfl (lv_at hl 2 rfl) ?_
                refine j_get SS hG hP 0 (v := .ref (q 4)) (C := RX12) (T := TX12) (N := 31) rfl rfl inX12 4 (by decide) (ref := RX12) kw_1062 rfl rfl dX12_order_71 ?_
                refine lv_iload_n SS.1 SS.2.1 dX12_order_74 rfl (lv_at hl 4 rfl) ?_
                refine j_iconst SS dX12_order_75 ?_
                refine j_isub SS (x := j) (y := 1) dX12_order_76 ?_
                refine lv_iload_n SS.1 SS.2.1 dX12_order_77 rfl (lv_at hl 1 rfl) ?_
                refine j_iast SS hG hP (mW_D hD) hS 5 (n := 640) (f := (upI f2 (j).toNat (f2 ((j - 1)).toNat))) rfl (z := (j - 1)) (v := (f2 (j).toNat)) (by omega) (by omega) dX12_order_78 (ws' := (mW D o q (uI (uI u 4 (upI (upI f2 (j).toNat (f2 ((j - 1)).toNat)) ((j - 1)).toNat (f2 (j).toNat))) 5 (upI g2 (j).toNat (g2 ((j - 1)).toNat))))) rfl (fun H locs hP hS => ?_)
                refine lv_aload_n SS.1 SS.2.1 dX12_order_79 rfl (lv_at hl 2 rfl) ?_
                refine j_get SS hG hP 0 (v := .ref (q 5)) (C := RX12) (T := TX12) (N := 31) rfl rfl inX12 5 (by decide) (ref := RX12) kw_1063 rfl rfl dX12_order_80 ?_
                refine lv_iload_n SS.1 SS.2.1 dX12_order_83 rfl (lv_at hl 4 rfl) ?_
                refine j_iconst SS dX12_order_84 ?_
                refine j_isub SS (x := j) (y := 1) dX12_order_85 ?_
                refine lv_iload SS.1 SS.2.1 dX12_order_86 (lv_at hl 0 rfl) ?_
                refine j_iast SS hG hP (mW_D hD) hS 6 (n := 640) (f := (upI g2 (j).toNat (g2 ((j - 1)).toNat))) rfl (z := (j - 1)) (v := (g2 (j).toNat)) (by omega) (by omega) dX12_order_88 (ws' := (mW D o q (uI (uI u 4 (upI (upI f2 (j).toNat (f2 ((j - 1)).toNat)) ((j - 1)).toNat (f2 (j).toNat))) 5 (upI (upI g2 (j).toNat (g2 ((j - 1)).toNat)) ((j - 1)).toNat (g2 (j).toNat))))) rfl (fun H locs hP hS => ?_)
                refine lv_iinc (v := J (j + (-1))) (lv' := [(2, .int (J (j + (-1)))), (4, .int (J (g2 (j).toNat))), (3, .int (J (f2 (j).toNat))), (0, .ref o), (1, .int (J i))]) SS.1 SS.2.1 dX12_order_89 hl (k := 4) rfl (J_add _ _) (by decide) rfl (fun ls hl => ?_)
                refine lv_goto (tgt := 12) SS.1 SS.2.1 dX12_order_92 (by decide) ?_
                exact ih_12 (j + (-1)) (upI (upI f2 (j).toNat (f2 ((j - 1)).toNat)) ((j - 1)).toNat (f2 (j).toNat)) (upI (upI g2 (j).toNat (g2 ((j - 1)).toNat)) ((j - 1)).toNat (g2 (j).toNat)) _ _ hP hS ls (lv_sub hl [3, 4, 0] rfl) (by omega) (os_swap (by omega) (by omega) i12_1 (by rcases h_21 with h | h; exact h.2; omega)) (fun K h => by have q := i12_2 K h; have q1 := bd_at q (z := j) (by omega) (by omega); have q2 := bd_at q (z := j - 1) (by omega) (by omega); exact bd_up (bd_up q q2.1 q2.2) q1.1 q1.2) (by have q1 := bd_at i12_3 (z := j) (by omega) (by omega); have q2 := bd_at i12_3 (z := j - 1) (by omega) (by omega); exact bd_up (bd_up i12_3 q2.1 q2.2) q1.1 q1.2) (by omega)
        exact L_12 (i.toNat + 1) i f g _ _ hP hS ls (lv_sub hl [1, 2, 0] rfl) (by omega) (os_start i2_1) (i2_2) (i2_2 _ p1) (Nat.lt_succ_self _)
  exact L_2 ((u.2.2 6 - (1 : Int)).toNat + 1) 1 (u.1 4) (u.1 5) _ _ hP hS ls (lv_sub hl [1, 0] rfl) (by omega) (fun a h => absurd h (by omega)) (fun _ h => h) (Nat.lt_succ_self _)


def tn (X Y : Nat → Int) (i j k : Nat) : Int := (X j - X i) * (Y k - Y i) - (Y j - Y i) * (X k - X i)
/-- left turns in the places from b to n -/
def lft (X Y : Nat → Int) (b n : Int) : Prop := ∀ a : Nat, b ≤ a → (a : Int) + 2 < n → 0 < tn X Y a (a + 1) (a + 2)
theorem tn_cong {X Y X' Y' : Nat → Int} {i j k : Nat} (h1 : X' i = X i) (h2 : X' j = X j) (h3 : X' k = X k) (h4 : Y' i = Y i) (h5 : Y' j = Y j) (h6 : Y' k = Y k) : tn X' Y' i j k = tn X Y i j k := by
  unfold tn; rw [h1, h2, h3, h4, h5, h6]
theorem lft_put {X Y : Nat → Int} {b n x y : Int} (hb : 0 ≤ b) (hn : b ≤ n) (h : lft X Y b n) (ht : n - b ≤ 1 ∨ 0 < (X (n - 1).toNat - X (n - 2).toNat) * (y - Y (n - 2).toNat) - (Y (n - 1).toNat - Y (n - 2).toNat) * (x - X (n - 2).toNat)) : lft (upI X n.toNat x) (upI Y n.toNat y) b (n + 1) := by
  intro a ha hn2
  by_cases e : (a : Int) + 2 = n
  · rcases ht with ht | ht
    · omega
    · unfold tn
      rw [show a + 2 = n.toNat by omega, upI_s, upI_s, upI_n (by omega), upI_n (by omega), upI_n (by omega), upI_n (by omega)]
      rw [show (n - 1).toNat = a + 1 by omega, show (n - 2).toNat = a by omega] at ht
      exact ht
  · rw [tn_cong (upI_n (by omega)) (upI_n (by omega)) (upI_n (by omega)) (upI_n (by omega)) (upI_n (by omega)) (upI_n (by omega))]
    exact h a ha (by omega)
theorem lft_le {X Y : Nat → Int} {b n m : Int} (h : lft X Y b n) (hm : m ≤ n) : lft X Y b m := fun a h1 h2 => h a h1 (by omega)
theorem bd_le {K : Int} {f g : Nat → Int} {n m : Int} (h : bd K f g n) (hm : m ≤ n) : bd K f g m := fun a ha => h a (by omega)
theorem bd_put {K : Int} {f g : Nat → Int} {n x y : Int} (h0 : 0 ≤ n) (h : bd K f g n) (hx : -K ≤ x ∧ x ≤ K) (hy : -K ≤ y ∧ y ≤ K) : bd K (upI f n.toNat x) (upI g n.toNat y) (n + 1) := by
  intro a ha
  by_cases e : a = n.toNat
  · rw [e, upI_s, upI_s]; exact ⟨hx, hy⟩
  · rw [upI_n e, upI_n e]; exact h a (by omega)
theorem bd_K {K L : Int} {f g : Nat → Int} {n : Int} (h : bd K f g n) (hL : K ≤ L) : bd L f g n := fun a ha => by have := h a ha; omega

set_option maxHeartbeats 4000000 in
set_option maxRecDepth 100000 in
theorem c_X12_goOn (l : Launch) (D : JD) (o : Nat) (q : Nat → Nat) (u : MS) (A : Nat → Prop) (hD : va_D A (mW D o q u)) (i : Int) (b : Int) (p0 : 0 ≤ i ∧ i < 640) (p1 : 0 ≤ b ∧ b ≤ u.2.2 9 ∧ u.2.2 9 < 1300) (p2 : -10000 ≤ u.1 4 i.toNat ∧ u.1 4 i.toNat ≤ 10000) (p3 : -10000 ≤ u.1 5 i.toNat ∧ u.1 5 i.toNat ≤ 10000) (p4 : bd 10000 (u.1 7) (u.1 8) (u.2.2 9)) (p5 : lft (u.1 7) (u.1 8) b (u.2.2 9)) : Met l yX12_goOn (jw yX12_goOn cX12_goOn 8 none) (jr 0 0) (jP [.ref o, .int (J i), .int (J b)] D (fun H => va_P D.1 j_cl (mW D o q u) H)) (jWv (fun u' => ∃ f : Nat → Int, ∃ g : Nat → Int, ∃ w : Int, ∃ v : Int, u' = (uV (uI (uI u 7 f) 8 g) 9 w) ∧ (w = v + 1 ∧ b ≤ v ∧ v ≤ u.2.2 9 ∧ (b < u.2.2 9 → b < v) ∧ f = upI (u.1 7) v.toNat (u.1 4 i.toNat) ∧ g = upI (u.1 8) v.toNat (u.1 5 i.toNat) ∧ lft f g b w)) (fun u' H => va_P D.1 j_cl (mW D o q u') H) A) 0 0 A := by
  refine Met.ofW (cc := cX12_goOn) (maxL := 8) (ret := none) (by decide) rfl ?_
  intro pr en st mi args below meth co s₁ B hml hv
  obtain ⟨rfl, hG, hP⟩ := hv
  have hr := B.returns
  have hlk := B.notSynchronized
  have SS : jS pr mi co cX12_goOn 8 st _ RX12 := ⟨B.exec, B.bytes, hml, findClass_of_methodNamed B.named, fun w hw => atoms_spec (ws := (jw yX12_goOn cX12_goOn 8 none)) B.pre w (List.mem_cons_of_mem _ hw)⟩
  have hl := lv_entry ([.ref o, .int (J i), .int (J b)]) (n := 8) (Nat.le_of_ble_eq_true rfl)
  rw [lg_entry_eq]
  generalize (lg_sl ([.ref o, .int (J i), .int (J b)]) ++ List.replicate (8 - (lg_sl ([.ref o, .int (J i), .int (J b)])).length) Slot.unset).toArray = ls at hl ⊢
  have hl : lv_has ls 8 [(0, .ref o), (1, .int (J i)), (2, .int (J b))] := hl
  have hS : va_S A st.heap st.heap [] := va_S.rf
  refine j_iconst SS dX12_goOn_0 ?_
  refine lv_istore_n (lv' := [(3, .int (J 1)), (0, .ref o), (1, .int (J i)), (2, .int (J b))]) SS.1 SS.2.1 dX12_goOn_1 rfl hl (by decide) rfl (fun ls hl => ?_)
  have L_2 : ∀ (nn : Nat) (t : Int) (h : Int) (H : Heap) (locs : List Loc) (hP : va_P D.1 j_cl (mW D o q (uV u 9 h)) H) (hS : va_S A st.heap H locs) (ls : Array Slot) (hl : lv_has ls 8 [(0, .ref o), (1, .int (J i)), (2, .int (J b)), (3, .int (J t))]) (i2_0 : b ≤ h ∧ h ≤ u.2.2 9 ∧ (b < u.2.2 9 → b < h)) (i2_1 : t = 1 ∨ (t = 0 ∧ (h - b ≤ 1 ∨ 0 < (u.1 7 (h - 1).toNat - u.1 7 (h - 2).toNat) * (u.1 5 i.toNat - u.1 8 (h - 2).toNat) - (u.1 8 (h - 1).toNat - u.1 8 (h - 2).toNat) * (u.1 4 i.toNat - u.1 7 (h - 2).toNat)))), (2 * (h - b) + t).toNat < nn → W pr l en (headSpec (jw yX12_goOn cX12_goOn 8 none) (jr 0 0)).room st mi (([.ref o, .int (J i), .int (J b)] : List Value).toArray) below meth co H locs 0 0 (MQ below (jWv (fun u' => ∃ f : Nat → Int, ∃ g : Nat → Int, ∃ w : Int, ∃ v : Int, u' = (uV (uI (uI u 7 f) 8 g) 9 w) ∧ (w = v + 1 ∧ b ≤ v ∧ v ≤ u.2.2 9 ∧ (b < u.2.2 9 → b < v) ∧ f = upI (u.1 7) v.toNat (u.1 4 i.toNat) ∧ g = upI (u.1 8) v.toNat (u.1 5 i.toNat) ∧ lft f g b w)) (fun u' H => va_P D.1 j_cl (mW D o q u') H) A) (([.ref o, .int (J i), .int (J b)] : List Value).toArray) st 0 0 A) (F0 mi 2 ls []) := by
    intro nn
    induction nn with
    | zero => intros; omega
    | succ nn ih_2 =>
      intro t h H locs hP hS ls hl i2_0 i2_1 hm
      refine lv_iload_n SS.1 SS.2.1 dX12_goOn_2 rfl (lv_at hl 3 rfl) ?_
      refine j_if_eq SS (tgt := 147) (x := t) dX12_goOn_3 (by decide) (by omega) (fun c_3 => ?_) (fun c_3 => ?_)
      · skip
        refine lv_aload_n SS.1 SS.2.1 dX12_goOn_147 rfl (lv_at hl 0 rfl) ?_
        refine j_get SS hG hP 0 (v := .ref (q 7)) (C := RX12) (T := TX12) (N := 31) rfl rfl inX12 7 (by decide) (ref := RX12) kw_1065 rfl rfl dX12_goOn_148 ?_
        refine lv_aload_n SS.1 SS.2.1 dX12_goOn_151 rfl (lv_at hl 0 rfl) ?_
        refine j_get SS hG hP 0 (v := .int (J h)) (C := RX12) (T := TX12) (N := 31) rfl rfl inX12 9 (by decide) (ref := RX12) kw_1067 rfl rfl dX12_goOn_152 ?_
        refine lv_aload_n SS.1 SS.2.1 dX12_goOn_155 rfl (lv_at hl 0 rfl) ?_
        refine j_get SS hG hP 0 (v := .ref (q 4)) (C := RX12) (T := TX12) (N := 31) rfl rfl inX12 4 (by decide) (ref := RX12) kw_1062 rfl rfl dX12_goOn_156 ?_
        refine lv_iload_n SS.1 SS.2.1 dX12_goOn_159 rfl (lv_at hl 1 rfl) ?_
        refine j_iald SS hG hP 5 (n := 640) (f := (u.1 4)) rfl (z := i) (by omega) (by omega) dX12_goOn_160 ?_
        refine j_iast SS hG hP (mW_D hD) hS 7 (n := 1300) (f := (u.1 7)) rfl (z := h) (v := ((u.1 4) (i).toNat)) (by omega) (by omega) dX12_goOn_161 (ws' := (mW D o q (uV (uI u 7 (upI (u.1 7) (h).toNat ((u.1 4) (i).toNat))) 9 h))) rfl (fun H locs hP hS => ?_)
        refine lv_aload_n SS.1 SS.2.1 dX12_goOn_162 rfl (lv_at hl 0 rfl) ?_
        refine j_get SS hG hP 0 (v := .ref (q 8)) (C := RX12) (T := TX12) (N := 31) rfl rfl inX12 8 (by decide) (ref := RX12) kw_1066 rfl rfl dX12_goOn_163 ?_
        refine lv_aload_n SS.1 SS.2.1 dX12_goOn_166 rfl (lv_at hl 0 rfl) ?_
        refine j_get SS hG hP 0 (v := .int (J h)) (C := RX12) (T := TX12) (N := 31) rfl rfl inX12 9 (by decide) (ref := RX12) kw_1067 rfl rfl dX12_goOn_167 ?_
        refine lv_aload_n SS.1 SS.2.1 dX12_goOn_170 rfl (lv_at hl 0 rfl) ?_
        refine j_get SS hG hP 0 (v := .ref (q 5)) (C := RX12) (T := TX12) (N := 31) rfl rfl inX12 5 (by decide) (ref := RX12) kw_1063 rfl rfl dX12_goOn_171 ?_
        refine lv_iload_n SS.1 SS.2.1 dX12_goOn_174 rfl (lv_at hl 1 rfl) ?_
        refine j_iald SS hG hP 6 (n := 640) (f := (u.1 5)) rfl (z := i) (by omega) (by omega) dX12_goOn_175 ?_
        refine j_iast SS hG hP (mW_D hD) hS 8 (n := 1300) (f := (u.1 8)) rfl (z := h) (v := ((u.1 5) (i).toNat)) (by omega) (by omega) dX12_goOn_176 (ws' := (mW D o q (uV (uI (uI u 7 (upI (u.1 7) (h).toNat ((u.1 4) (i).toNat))) 8 (upI (u.1 8) (h).toNat ((u.1 5) (i).toNat))) 9 h))) rfl (fun H locs hP hS => ?_)
        refine lv_aload_n SS.1 SS.2.1 dX12_goOn_177 rfl (lv_at hl 0 rfl) ?_
        refine lv_dup SS.1 SS.2.1 dX12_goOn_178 rfl ?_
        refine j_get SS hG hP 0 (v := .int (J h)) (C := RX12) (T := TX12) (N := 31) rfl rfl inX12 9 (by decide) (ref := RX12) kw_1067 rfl rfl dX12_goOn_179 ?_
        refine j_iconst SS dX12_goOn_182 ?_
        refine j_iadd SS (x := h) (y := 1) dX12_goOn_183 ?_
        refine j_put SS hG hP (mW_D hD) hS 0 (v := .int (J (h + 1))) (ty := .int) (C := RX12) (T := TX12) (N := 31) rfl rfl inX12 tyX12 tyX12_ok nmX12 9 (by decide) (ref := RX12) kw_1067 rfl rfl (by decide +kernel) rfl rfl (Nat.le_of_ble_eq_true rfl) dX12_goOn_184 (ws' := (mW D o q (uV (uI (uI u 7 (upI (u.1 7) (h).toNat ((u.1 4) (i).toNat))) 8 (upI (u.1 8) (h).toNat ((u.1 5) (i).toNat))) 9 (h + 1)))) rfl (fun H locs hP hS => ?_)
        exact W.vret SS.1 SS.2.1 hr (fun t ht hW => ⟨⟨(uV (uI (uI u 7 (upI (u.1 7) (h).toNat ((u.1 4) (i).toNat))) 8 (upI (u.1 8) (h).toNat ((u.1 5) (i).toNat))) 9 (h + 1)), rfl, (⟨(upI (u.1 7) (h).toNat ((u.1 4) (i).toNat)), (upI (u.1 8) (h).toNat ((u.1 5) (i).toNat)), (h + 1), h, rfl, ⟨rfl, by omega, by omega, by omega, rfl, rfl, lft_put (by omega) (by omega) (lft_le p5 (by omega)) (by first | (rcases i2_1 with h | h; omega; exact h.2) | exact Or.inl (by omega))⟩⟩), by show va_P D.1 j_cl (mW D o q (uV (uI (uI u 7 (upI (u.1 7) (h).toNat ((u.1 4) (i).toNat))) 8 (upI (u.1 8) (h).toNat ((u.1 5) (i).toNat))) 9 (h + 1))) t.heap; rw [ht]; exact hP⟩, hS.F ht⟩) hS.2.2 dX12_goOn_187 hlk
      · skip
        refine lv_aload_n SS.1 SS.2.1 dX12_goOn_6 rfl (lv_at hl 0 rfl) ?_
        refine j_get SS hG hP 0 (v := .int (J h)) (C := RX12) (T := TX12) (N := 31) rfl rfl inX12 9 (by decide) (ref := RX12) kw_1067 rfl rfl dX12_goOn_7 ?_
        refine lv_iload_n SS.1 SS.2.1 dX12_goOn_10 rfl (lv_at hl 2 rfl) ?_
        refine j_isub SS (x := h) (y := b) dX12_goOn_11 ?_
        refine j_iconst SS dX12_goOn_12 ?_
        try have hh : b ≤ h ∧ h ≤ u.2.2 9 := ⟨i2_0.1, i2_0.2.1⟩
        refine j_icmp_le SS (tgt := 147) (x := (h - b)) (y := 1) dX12_goOn_13 (by decide) (by omega) (by decide) (fun c_13 => ?_) (fun c_13 => ?_)
        · skip
          refine lv_aload_n SS.1 SS.2.1 dX12_goOn_147 rfl (lv_at hl 0 rfl) ?_
          refine j_get SS hG hP 0 (v := .ref (q 7)) (C := RX12) (T := TX12) (N := 31) rfl rfl inX12 7 (by decide) (ref := RX12) kw_1065 rfl rfl dX12_goOn_148 ?_
          refine lv_aload_n SS.1 SS.2.1 dX12_goOn_151 rfl (lv_at hl 0 rfl) ?_
          refine j_get SS hG hP 0 (v := .int (J h)) (C := RX12) (T := TX12) (N := 31) rfl rfl inX12 9 (by decide) (ref := RX12) kw_1067 rfl rfl dX12_goOn_152 ?_
          refine lv_aload_n SS.1 SS.2.1 dX12_goOn_155 rfl (lv_at hl 0 rfl) ?_
          refine j_get SS hG hP 0 (v := .ref (q 4)) (C := RX12) (T := TX12) (N := 31) rfl rfl inX12 4 (by decide) (ref := RX12) kw_1062 rfl rfl dX12_goOn_156 ?_
          refine lv_iload_n SS.1 SS.2.1 dX12_goOn_159 rfl (lv_at hl 1 rfl) ?_
          refine j_iald SS hG hP 5 (n := 640) (f := (u.1 4)) rfl (z := i) (by omega) (by omega) dX12_goOn_160 ?_
          refine j_iast SS hG hP (mW_D hD) hS 7 (n := 1300) (f := (u.1 7)) rfl (z := h) (v := ((u.1 4) (i).toNat)) (by omega) (by omega) dX12_goOn_161 (ws' := (mW D o q (uV (uI u 7 (upI (u.1 7) (h).toNat ((u.1 4) (i).toNat))) 9 h))) rfl (fun H locs hP hS => ?_)
          refine lv_aload_n SS.1 SS.2.1 dX12_goOn_162 rfl (lv_at hl 0 rfl) ?_
          refine j_get SS hG hP 0 (v := .ref (q 8)) (C := RX12) (T := TX12) (N := 31) rfl rfl inX12 8 (by decide) (ref := RX12) kw_1066 rfl rfl dX12_goOn_163 ?_
          refine lv_aload_n SS.1 SS.2.1 dX12_goOn_166 rfl (lv_at hl 0 rfl) ?_
          refine j_get SS hG hP 0 (v := .int (J h)) (C := RX12) (T := TX12) (N := 31) rfl rfl inX12 9 (by decide) (ref := RX12) kw_1067 rfl rfl dX12_goOn_167 ?_
          refine lv_aload_n SS.1 SS.2.1 dX12_goOn_170 rfl (lv_at hl 0 rfl) ?_
          refine j_get SS hG hP 0 (v := .ref (q 5)) (C := RX12) (T := TX12) (N := 31) rfl rfl inX12 5 (by decide) (ref := RX12) kw_1063 rfl rfl dX12_goOn_171 ?_
          refine lv_iload_n SS.1 SS.2.1 dX12_goOn_174 rfl (lv_at hl 1 rfl) ?_
          refine j_iald SS hG hP 6 (n := 640) (f := (u.1 5)) rfl (z := i) (by omega) (by omega) dX12_goOn_175 ?_
          refine j_iast SS hG hP (mW_D hD) hS 8 (n := 1300) (f := (u.1 8)) rfl (z := h) (v := ((u.1 5) (i).toNat)) (by omega) (by omega) dX12_goOn_176 (ws' := (mW D o q (uV (uI (uI u 7 (upI (u.1 7) (h).toNat ((u.1 4) (i).toNat))) 8 (upI (u.1 8) (h).toNat ((u.1 5) (i).toNat))) 9 h))) rfl (fun H locs hP hS => ?_)
          refine lv_aload_n SS.1 SS.2.1 dX12_goOn_177 rfl (lv_at hl 0 rfl) ?_
          refine lv_dup SS.1 SS.2.1 dX12_goOn_178 rfl ?_
          refine j_get SS hG hP 0 (v := .int (J h)) (C := RX12) (T := TX12) (N := 31) rfl rfl inX12 9 (by decide) (ref := RX12) kw_1067 rfl rfl dX12_goOn_179 ?_
          refine j_iconst SS dX12_goOn_182 ?_
          refine j_iadd SS (x := h) (y := 1) dX12_goOn_183 ?_
          refine j_put SS hG hP (mW_D hD) hS 0 (v := .int (J (h + 1))) (ty := .int) (C := RX12) (T := TX12) (N := 31) rfl rfl inX12 tyX12 tyX12_ok nmX12 9 (by decide) (ref := RX12) kw_1067 rfl rfl (by decide +kernel) rfl rfl (Nat.le_of_ble_eq_true rfl) dX12_goOn_184 (ws' := (mW D o q (uV (uI (uI u 7 (upI (u.1 7) (h).toNat ((u.1 4) (i).toNat))) 8 (upI (u.1 8) (h).toNat ((u.1 5) (i).toNat))) 9 (h + 1)))) rfl (fun H locs hP hS => ?_)
          exact W.vret SS.1 SS.2.1 hr (fun t ht hW => ⟨⟨(uV (uI (uI u 7 (upI (u.1 7) (h).toNat ((u.1 4) (i).toNat))) 8 (upI (u.1 8) (h).toNat ((u.1 5) (i).toNat))) 9 (h + 1)), rfl, (⟨(upI (u.1 7) (h).toNat ((u.1 4) (i).toNat)), (upI (u.1 8) (h).toNat ((u.1 5) (i).toNat)), (h + 1), h, rfl, ⟨rfl, by omega, by omega, by omega, rfl, rfl, lft_put (by omega) (by omega) (lft_le p5 (by omega)) (by first | (rcases i2_1 with h | h; omega; exact h.2) | exact Or.inl (by omega))⟩⟩), by show va_P D.1 j_cl (mW D o q (uV (uI (uI u 7 (upI (u.1 7) (h).toNat ((u.1 4) (i).toNat))) 8 (upI (u.1 8) (h).toNat ((u.1 5) (i).toNat))) 9 (h + 1))) t.heap; rw [ht]; exact hP⟩, hS.F ht⟩) hS.2.2 dX12_goOn_187 hlk
        · skip
          have q1 := bd_at p4 (z := h - 1) (by omega) (by omega)
          have q2 := bd_at p4 (z := h - 2) (by omega) (by omega)
          refine lv_aload_n SS.1 SS.2.1 dX12_goOn_16 rfl (lv_at hl 0 rfl) ?_
          refine j_get SS hG hP 0 (v := .ref (q 7)) (C := RX12) (T := TX12) (N := 31) rfl rfl inX12 7 (by decide) (ref := RX12) kw_1065 rfl rfl dX12_goOn_17 ?_
          refine lv_aload_n SS.1 SS.2.1 dX12_goOn_20 rfl (lv_at hl 0 rfl) ?_
          refine j_get SS hG hP 0 (v := .int (J h)) (C := RX12) (T := TX12) (N := 31) rfl rfl inX12 9 (by decide) (ref := RX12) kw_1067 rfl rfl dX12_goOn_21 ?_
          refine j_iconst SS dX12_goOn_24 ?_
          refine j_isub SS (x := h) (y := 1) dX12_goOn_25 ?_
          refine j_iald SS hG hP 7 (n := 1300) (f := (u.1 7)) rfl (z := (h - 1)) (by omega) (by omega) dX12_goOn_26 ?_
          refine lv_aload_n SS.1 SS.2.1 dX12_goOn_27 rfl (lv_at hl 0 rfl) ?_
          refine j_get SS hG hP 0 (v := .ref (q 7)) (C := RX12) (T := TX12) (N := 31) rfl rfl inX12 7 (by decide) (ref := RX12) kw_1065 rfl rfl dX12_goOn_28 ?_
          refine lv_aload_n SS.1 SS.2.1 dX12_goOn_31 rfl (lv_at hl 0 rfl) ?_
          refine j_get SS hG hP 0 (v := .int (J h)) (C := RX12) (T := TX12) (N := 31) rfl rfl inX12 9 (by decide) (ref := RX12) kw_1067 rfl rfl dX12_goOn_32 ?_
          refine j_iconst SS dX12_goOn_35 ?_
          refine j_isub SS (x := h) (y := 2) dX12_goOn_36 ?_
          refine j_iald SS hG hP 7 (n := 1300) (f := (u.1 7)) rfl (z := (h - 2)) (by omega) (by omega) dX12_goOn_37 ?_
          refine j_isub SS (x := ((u.1 7) ((h - 1)).toNat)) (y := ((u.1 7) ((h - 2)).toNat)) dX12_goOn_38 ?_
          obtain ⟨ax, eax⟩ : ∃ z : Int, z = (((u.1 7) ((h - 1)).toNat) - ((u.1 7) ((h - 2)).toNat)) := ⟨_, rfl⟩
          rw [← eax]
          refine lv_istore (lv' := [(4, .int (J ax)), (0, .ref o), (1, .int (J i)), (2, .int (J b)), (3, .int (J t))]) SS.1 SS.2.1 dX12_goOn_39 hl (by decide) rfl (fun ls hl => ?_)
          refine lv_aload_n SS.1 SS.2.1 dX12_goOn_41 rfl (lv_at hl 1 rfl) ?_
          refine j_get SS hG hP 0 (v := .ref (q 8)) (C := RX12) (T := TX12) (N := 31) rfl rfl inX12 8 (by decide) (ref := RX12) kw_1066 rfl rfl dX12_goOn_42 ?_
          refine lv_aload_n SS.1 SS.2.1 dX12_goOn_45 rfl (lv_at hl 1 rfl) ?_
          refine j_get SS hG hP 0 (v := .int (J h)) (C := RX12) (T := TX12) (N := 31) rfl rfl inX12 9 (by decide) (ref := RX12) kw_1067 rfl rfl dX12_goOn_46 ?_
          refine j_iconst SS dX12_goOn_49 ?_
          refine j_isub SS (x := h) (y := 1) dX12_goOn_50 ?_
          refine j_iald SS hG hP 8 (n := 1300) (f := (u.1 8)) rfl (z := (h - 1)) (by omega) (by omega) dX12_goOn_51 ?_
          refine lv_aload_n SS.1 SS.2.1 dX12_goOn_52 rfl (lv_at hl 1 rfl) ?_
          refine j_get SS hG hP 0 (v := .ref (q 8)) (C := RX12) (T := TX12) (N := 31) rfl rfl inX12 8 (by decide) (ref := RX12) kw_1066 rfl rfl dX12_goOn_53 ?_
          refine lv_aload_n SS.1 SS.2.1 dX12_goOn_56 rfl (lv_at hl 1 rfl) ?_
          refine j_get SS hG hP 0 (v := .int (J h)) (C := RX12) (T := TX12) (N := 31) rfl rfl inX12 9 (by decide) (ref := RX12) kw_1067 rfl rfl dX12_goOn_57 ?_
          refine j_iconst SS dX12_goOn_60 ?_
          refine j_isub SS (x := h) (y := 2) dX12_goOn_61 ?_
          refine j_iald SS hG hP 8 (n := 1300) (f := (u.1 8)) rfl (z := (h - 2)) (by omega) (by omega) dX12_goOn_62 ?_
          refine j_isub SS (x := ((u.1 8) ((h - 1)).toNat)) (y := ((u.1 8) ((h - 2)).toNat)) dX12_goOn_63 ?_
          obtain ⟨ay, eay⟩ : ∃ z : Int, z = (((u.1 8) ((h - 1)).toNat) - ((u.1 8) ((h - 2)).toNat)) := ⟨_, rfl⟩
          rw [← eay]
          refine lv_istore (lv' := [(5, .int (J ay)), (4, .int (J ax)), (0, .ref o), (1, .int (J i)), (2, .int (J b)), (3, .int (J t))]) SS.1 SS.2.1 dX12_goOn_64 hl (by decide) rfl (fun ls hl => ?_)
          refine lv_aload_n SS.1 SS.2.1 dX12_goOn_66 rfl (lv_at hl 2 rfl) ?_
          refine j_get SS hG hP 0 (v := .ref (q 4)) (C := RX12) (T := TX12) (N := 31) rfl rfl inX12 4 (by decide) (ref := RX12) kw_1062 rfl rfl dX12_goOn_67 ?_
          refine lv_iload_n SS.1 SS.2.1 dX12_goOn_70 rfl (lv_at hl 3 rfl) ?_
          refine j_iald SS hG hP 5 (n := 640) (f := (u.1 4)) rfl (z := i) (by omega) (by omega) dX12_goOn_71 ?_
          refine lv_aload_n SS.1 SS.2.1 dX12_goOn_72 rfl (lv_at hl 2 rfl) ?_
          refine j_get SS hG hP 0 (v := .ref (q 7)) (C := RX12) (T := TX12) (N := 31) rfl rfl inX12 7 (by decide) (ref := RX12) kw_1065 rfl rfl dX12_goOn_73 ?_
          refine lv_aload_n SS.1 SS.2.1 dX12_goOn_76 rfl (lv_at hl 2 rfl) ?_
          refine j_get SS hG hP 0 (v := .int (J h)) (C := RX12) (T := TX12) (N := 31) rfl rfl inX12 9 (by decide) (ref := RX12) kw_1067 rfl rfl dX12_goOn_77 ?_
          refine j_iconst SS dX12_goOn_80 ?_
          refine j_isub SS (x := h) (y := 2) dX12_goOn_81 ?_
          refine j_iald SS hG hP 7 (n := 1300) (f := (u.1 7)) rfl (z := (h - 2)) (by omega) (by omega) dX12_goOn_82 ?_
          refine j_isub SS (x := ((u.1 4) (i).toNat)) (y := ((u.1 7) ((h - 2)).toNat)) dX12_goOn_83 ?_
          obtain ⟨bx, ebx⟩ : ∃ z : Int, z = (((u.1 4) (i).toNat) - ((u.1 7) ((h - 2)).toNat)) := ⟨_, rfl⟩
          rw [← ebx]
          refine lv_istore (lv' := [(6, .int (J bx)), (5, .int (J ay)), (4, .int (J ax)), (0, .ref o), (1, .int (J i)), (2, .int (J b)), (3, .int (J t))]) SS.1 SS.2.1 dX12_goOn_84 hl (by decide) rfl (fun ls hl => ?_)
          refine lv_aload_n SS.1 SS.2.1 dX12_goOn_86 rfl (lv_at hl 3 rfl) ?_
          refine j_get SS hG hP 0 (v := .ref (q 5)) (C := RX12) (T := TX12) (N := 31) rfl rfl inX12 5 (by decide) (ref := RX12) kw_1063 rfl rfl dX12_goOn_87 ?_
          refine lv_iload_n SS.1 SS.2.1 dX12_goOn_90 rfl (lv_at hl 4 rfl) ?_
          refine j_iald SS hG hP 6 (n := 640) (f := (u.1 5)) rfl (z := i) (by omega) (by omega) dX12_goOn_91 ?_
          refine lv_aload_n SS.1 SS.2.1 dX12_goOn_92 rfl (lv_at hl 3 rfl) ?_
          refine j_get SS hG hP 0 (v := .ref (q 8)) (C := RX12) (T := TX12) (N := 31) rfl rfl inX12 8 (by decide) (ref := RX12) kw_1066 rfl rfl dX12_goOn_93 ?_
          refine lv_aload_n SS.1 SS.2.1 dX12_goOn_96 rfl (lv_at hl 3 rfl) ?_
          refine j_get SS hG hP 0 (v := .int (J h)) (C := RX12) (T := TX12) (N := 31) rfl rfl inX12 9 (by decide) (ref := RX12) kw_1067 rfl rfl dX12_goOn_97 ?_
          refine j_iconst SS dX12_goOn_100 ?_
          refine j_isub SS (x := h) (y := 2) dX12_goOn_101 ?_
          refine j_iald SS hG hP 8 (n := 1300) (f := (u.1 8)) rfl (z := (h - 2)) (by omega) (by omega) dX12_goOn_102 ?_
          refine j_isub SS (x := ((u.1 5) (i).toNat)) (y := ((u.1 8) ((h - 2)).toNat)) dX12_goOn_103 ?_
          obtain ⟨by4, eby4⟩ : ∃ z : Int, z = (((u.1 5) (i).toNat) - ((u.1 8) ((h - 2)).toNat)) := ⟨_, rfl⟩
          rw [← eby4]
          refine lv_istore (lv' := [(7, .int (J by4)), (6, .int (J bx)), (5, .int (J ay)), (4, .int (J ax)), (0, .ref o), (1, .int (J i)), (2, .int (J b)), (3, .int (J t))]) SS.1 SS.2.1 dX12_goOn_104 hl (by decide) rfl (fun ls hl => ?_)
          refine lv_iload SS.1 SS.2.1 dX12_goOn_106 (lv_at hl 3 rfl) ?_
          refine lv_iload SS.1 SS.2.1 dX12_goOn_108 (lv_at hl 0 rfl) ?_
          refine j_imul SS (x := ax) (y := by4) dX12_goOn_110 ?_
          refine lv_iload SS.1 SS.2.1 dX12_goOn_111 (lv_at hl 2 rfl) ?_
          refine lv_iload SS.1 SS.2.1 dX12_goOn_113 (lv_at hl 1 rfl) ?_
          refine j_imul SS (x := ay) (y := bx) dX12_goOn_115 ?_
          refine j_isub SS (x := (ax * by4)) (y := (ay * bx)) dX12_goOn_116 ?_
          have m1 := mulb (A := 20000) (B := 20000) (a := ax) (b := by4) (by omega) (by omega)
          have m2 := mulb (A := 20000) (B := 20000) (a := ay) (b := bx) (by omega) (by omega)
          refine j_if_gt SS (tgt := 124) (x := ((ax * by4) - (ay * bx))) dX12_goOn_117 (by decide) (by omega) (fun c_117 => ?_) (fun c_117 => ?_)
          · skip
            refine j_iconst SS dX12_goOn_124 ?_
            refine lv_istore_n (lv' := [(3, .int (J 0)), (7, .int (J by4)), (6, .int (J bx)), (5, .int (J ay)), (4, .int (J ax)), (0, .ref o), (1, .int (J i)), (2, .int (J b))]) SS.1 SS.2.1 dX12_goOn_125 rfl hl (by decide) rfl (fun ls hl => ?_)
            refine lv_aload_n SS.1 SS.2.1 dX12_goOn_126 rfl (lv_at hl 5 rfl) ?_
            refine lv_dup SS.1 SS.2.1 dX12_goOn_127 rfl ?_
            refine j_get SS hG hP 0 (v := .int (J h)) (C := RX12) (T := TX12) (N := 31) rfl rfl inX12 9 (by decide) (ref := RX12) kw_1067 rfl rfl dX12_goOn_128 ?_
            refine lv_iload_n SS.1 SS.2.1 dX12_goOn_131 rfl (lv_at hl 0 rfl) ?_
            refine j_if_eq SS (tgt := 139) dX12_goOn_132 (by decide) (by decide) (fun c_132 => ?_) (fun c_132 => absurd c_132 (by decide))
            refine j_iconst SS dX12_goOn_139 ?_
            refine j_isub SS (x := h) (y := 0) dX12_goOn_140 ?_
            refine j_put SS hG hP (mW_D hD) hS 0 (v := .int (J (h - 0))) (ty := .int) (C := RX12) (T := TX12) (N := 31) rfl rfl inX12 tyX12 tyX12_ok nmX12 9 (by decide) (ref := RX12) kw_1067 rfl rfl (by decide +kernel) rfl rfl (Nat.le_of_ble_eq_true rfl) dX12_goOn_141 (ws' := (mW D o q (uV u 9 (h - 0)))) rfl (fun H locs hP hS => ?_)
            refine lv_goto (tgt := 2) SS.1 SS.2.1 dX12_goOn_144 (by decide) ?_
            exact ih_2 0 (h - 0) _ _ hP hS ls (lv_sub hl [5, 6, 7, 0] rfl) (by omega) (by first | exact Or.inl rfl | exact Or.inr ⟨rfl, Or.inr (by rw [eax, eay, ebx, eby4] at c_117; rw [show h - 0 = h by omega]; exact c_117)⟩) (by omega)
          · skip
            refine j_iconst SS dX12_goOn_120 ?_
            refine lv_goto (tgt := 125) SS.1 SS.2.1 dX12_goOn_121 (by decide) ?_
            refine lv_istore_n (lv' := [(3, .int (J 1)), (7, .int (J by4)), (6, .int (J bx)), (5, .int (J ay)), (4, .int (J ax)), (0, .ref o), (1, .int (J i)), (2, .int (J b))]) SS.1 SS.2.1 dX12_goOn_125 rfl hl (by decide) rfl (fun ls hl => ?_)
            refine lv_aload_n SS.1 SS.2.1 dX12_goOn_126 rfl (lv_at hl 5 rfl) ?_
            refine lv_dup SS.1 SS.2.1 dX12_goOn_127 rfl ?_
            refine j_get SS hG hP 0 (v := .int (J h)) (C := RX12) (T := TX12) (N := 31) rfl rfl inX12 9 (by decide) (ref := RX12) kw_1067 rfl rfl dX12_goOn_128 ?_
            refine lv_iload_n SS.1 SS.2.1 dX12_goOn_131 rfl (lv_at hl 0 rfl) ?_
            refine j_if_eq SS (tgt := 139) dX12_goOn_132 (by decide) (by decide) (fun c_132 => absurd c_132 (by decide)) (fun c_132 => ?_)
            refine j_iconst SS dX12_goOn_135 ?_
            refine lv_goto (tgt := 140) SS.1 SS.2.1 dX12_goOn_136 (by decide) ?_
            refine j_isub SS (x := h) (y := 1) dX12_goOn_140 ?_
            refine j_put SS hG hP (mW_D hD) hS 0 (v := .int (J (h - 1))) (ty := .int) (C := RX12) (T := TX12) (N := 31) rfl rfl inX12 tyX12 tyX12_ok nmX12 9 (by decide) (ref := RX12) kw_1067 rfl rfl (by decide +kernel) rfl rfl (Nat.le_of_ble_eq_true rfl) dX12_goOn_141 (ws' := (mW D o q (uV u 9 (h - 1)))) rfl (fun H locs hP hS => ?_)
            refine lv_goto (tgt := 2) SS.1 SS.2.1 dX12_goOn_144 (by decide) ?_
            exact ih_2 1 (h - 1) _ _ hP hS ls (lv_sub hl [5, 6, 7, 0] rfl) (by omega) (by first | exact Or.inl rfl | exact Or.inr ⟨rfl, Or.inr (by rw [eax, eay, ebx, eby4] at c_117; rw [show h - 0 = h by omega]; exact c_117)⟩) (by omega)
  exact L_2 ((2 * ((u.2.2 9) - b) + (1 : Int)).toNat + 1) 1 (u.2.2 9) _ _ hP hS ls (lv_sub hl [1, 2, 3, 0] rfl) (by omega) (Or.inl rfl) (Nat.lt_succ_self _)

/-- the hull as found: closed (the place n holds the first point again), lower chain to t, upper chain from t on -/
def Ch (n : Int) (X Y : Nat → Int) : Prop := n ≤ 1 ∨ ∃ t : Nat, 1 ≤ t ∧ (t : Int) < n ∧ (∀ a : Nat, a < t → lt2 (X a) (Y a) (X (a + 1)) (Y (a + 1))) ∧ lft X Y 0 ((t : Int) + 1) ∧ (∀ a : Nat, t ≤ a → (a : Int) < n → lt2 (X (a + 1)) (Y (a + 1)) (X a) (Y a)) ∧ lft X Y t (n + 1) ∧ X n.toNat = X 0 ∧ Y n.toNat = Y 0
theorem lt2_t {a b c d e f : Int} (h : lt2 a b c d) (h2 : lt2 c d e f) : lt2 a b e f := by unfold lt2 at *; omega
theorem os_lt {f g : Nat → Int} {n : Int} (h : os_s f g n) : ∀ (k a : Nat), (a : Int) + k + 1 < n → lt2 (f a) (g a) (f (a + k + 1)) (g (a + k + 1)) := by
  intro k
  induction k with
  | zero => intro a ha; exact h a (by omega)
  | succ k ih => intro a ha; exact lt2_t (ih a (by omega)) (h (a + k + 1) (by omega))
/-- the lower chain on its way: h points of the first i -/
def fl (f g X Y : Nat → Int) (i h : Int) : Prop := 0 ≤ h ∧ h ≤ i ∧ (0 < i → 0 < h ∧ X 0 = f 0 ∧ Y 0 = g 0 ∧ X (h - 1).toNat = f (i - 1).toNat ∧ Y (h - 1).toNat = g (i - 1).toNat) ∧ (1 < i → 1 < h) ∧ lft X Y 0 h ∧ os_s X Y h ∧ ∀ K : Int, bd K f g i → bd K X Y h
theorem fl_0 {f g X Y : Nat → Int} : fl f g X Y 0 0 := ⟨by omega, by omega, by omega, by omega, fun a _ h => by omega, fun a h => by omega, fun K _ a h => by omega⟩
theorem fl_s {f g X Y : Nat → Int} {i h v n : Int} (hs : os_s f g n) (hi : 0 ≤ i) (hn : i < n) (H : fl f g X Y i h) (h1 : 0 ≤ v) (h2 : v ≤ h) (h3 : 0 < h → 0 < v) (hl : lft (upI X v.toNat (f i.toNat)) (upI Y v.toNat (g i.toNat)) 0 (v + 1)) : fl f g (upI X v.toNat (f i.toNat)) (upI Y v.toNat (g i.toNat)) (i + 1) (v + 1) := by
  obtain ⟨a1, a2, a3, a4, a5, a6, a7⟩ := H
  refine ⟨by omega, by omega, fun _ => ?_, fun hi2 => ?_, hl, fun a ha => ?_, fun K hK => ?_⟩
  · rw [show v + 1 - 1 = v by omega, show i + 1 - 1 = i by omega, upI_s, upI_s]
    refine ⟨by omega, ?_, ?_, rfl, rfl⟩
    · by_cases e : v = 0
      · subst e; rw [show (0 : Int).toNat = 0 from rfl, upI_s]; rw [show i = 0 by omega]; rfl
      · rw [upI_n (by omega)]; exact (a3 (by omega)).2.1
    · by_cases e : v = 0
      · subst e; rw [show (0 : Int).toNat = 0 from rfl, upI_s]; rw [show i = 0 by omega]; rfl
      · rw [upI_n (by omega)]; exact (a3 (by omega)).2.2.1
  · have := a3 (by omega); omega
  · by_cases e : (a : Int) + 1 = v
    · rw [show a + 1 = v.toNat by omega, upI_s, upI_s, upI_n (by omega), upI_n (by omega)]
      have hi1 : 0 < i := by omega
      obtain ⟨_, _, _, e1, e2⟩ := a3 hi1
      have hlast : lt2 (f (i - 1).toNat) (g (i - 1).toNat) (f i.toNat) (g i.toNat) := by
        have := hs (i - 1).toNat (by omega)
        rw [show (i - 1).toNat + 1 = i.toNat by omega] at this; exact this
      by_cases e3 : v = h
      · rw [show a = (h - 1).toNat by omega, e1, e2]; exact hlast
      · have := os_lt a6 ((h - 1).toNat - a - 1) a (by omega)
        rw [show a + ((h - 1).toNat - a - 1) + 1 = (h - 1).toNat by omega, e1, e2] at this
        exact lt2_t this hlast
    · rw [upI_n (by omega), upI_n (by omega), upI_n (by omega), upI_n (by omega)]
      exact a6 a (by omega)
  · have hk := hK i.toNat (by omega)
    exact bd_put h1 (bd_le (a7 K (bd_le hK (by omega))) h2) hk.1 hk.2
/-- the upper chain on its way, from the place t on; the point i comes next -/
def fu (f g FX FY X Y : Nat → Int) (t w i h : Int) : Prop := t + 1 ≤ h ∧ h ≤ t + w - i - 1 ∧ (i + 2 < w → t + 2 ≤ h) ∧ (∀ a : Nat, (a : Int) ≤ t → X a = FX a ∧ Y a = FY a) ∧ (X (h - 1).toNat = f (i + 1).toNat ∧ Y (h - 1).toNat = g (i + 1).toNat) ∧ lft X Y t h ∧ (∀ a : Nat, t ≤ a → (a : Int) + 1 < h → lt2 (X (a + 1)) (Y (a + 1)) (X a) (Y a)) ∧ ∀ K : Int, bd K f g w → bd K X Y h
theorem dec_lt {X Y : Nat → Int} {t h : Int} (H : ∀ a : Nat, t ≤ a → (a : Int) + 1 < h → lt2 (X (a + 1)) (Y (a + 1)) (X a) (Y a)) : ∀ (k a : Nat), t ≤ a → (a : Int) + k + 1 < h → lt2 (X (a + k + 1)) (Y (a + k + 1)) (X a) (Y a) := by
  intro k
  induction k with
  | zero => intro a ha hh; exact H a ha (by omega)
  | succ k ih => intro a ha hh; exact lt2_t (H (a + k + 1) (by omega) (by omega)) (ih a ha (by omega))
theorem fu_0 {f g FX FY : Nat → Int} {w h : Int} (hw : 1 ≤ w) (H : fl f g FX FY w h) : fu f g FX FY FX FY (h - 1) w (w - 2) h := by
  obtain ⟨a1, a2, a3, a4, a5, a6, a7⟩ := H
  obtain ⟨b1, b2, b3, b4, b5⟩ := a3 (by omega)
  refine ⟨by omega, by omega, by omega, fun a _ => ⟨rfl, rfl⟩, ⟨?_, ?_⟩, fun a h1 h2 => by omega, fun a h1 h2 => by omega, a7⟩
  · rw [show w - 2 + 1 = w - 1 by omega]; exact b4
  · rw [show w - 2 + 1 = w - 1 by omega]; exact b5
theorem fu_s {f g FX FY X Y : Nat → Int} {t w i h v : Int} (ht : 0 ≤ t) (hs : os_s f g w) (hi : 0 ≤ i) (hw : i + 1 < w) (H : fu f g FX FY X Y t w i h) (h1 : t ≤ v) (h2 : v ≤ h) (h3 : t < v) (hl : lft (upI X v.toNat (f i.toNat)) (upI Y v.toNat (g i.toNat)) t (v + 1)) : fu f g FX FY (upI X v.toNat (f i.toNat)) (upI Y v.toNat (g i.toNat)) t w (i + -1) (v + 1) := by
  obtain ⟨a1, a2, a3, a4, ⟨a5, a6⟩, a7, a8, a9⟩ := H
  refine ⟨by omega, by omega, by omega, fun a ha => ?_, ⟨?_, ?_⟩, hl, fun a ha hh => ?_, fun K hK => ?_⟩
  · rw [upI_n (by omega), upI_n (by omega)]; exact a4 a ha
  · rw [show v + 1 - 1 = v by omega, show i + -1 + 1 = i by omega, upI_s]
  · rw [show v + 1 - 1 = v by omega, show i + -1 + 1 = i by omega, upI_s]
  · by_cases e : (a : Int) + 1 = v
    · rw [show a + 1 = v.toNat by omega, upI_s, upI_s, upI_n (by omega), upI_n (by omega)]
      have hlast : lt2 (f i.toNat) (g i.toNat) (f (i + 1).toNat) (g (i + 1).toNat) := by
        have := hs i.toNat (by omega)
        rw [show i.toNat + 1 = (i + 1).toNat by omega] at this; exact this
      by_cases e3 : v = h
      · rw [show a = (h - 1).toNat by omega, a5, a6]; exact hlast
      · have := dec_lt a8 ((h - 1).toNat - a - 1) a ha (by omega)
        rw [show a + ((h - 1).toNat - a - 1) + 1 = (h - 1).toNat by omega, a5, a6] at this
        exact lt2_t hlast this
    · rw [upI_n (by omega), upI_n (by omega), upI_n (by omega), upI_n (by omega)]
      exact a8 a ha (by omega)
  · have hk := hK i.toNat (by omega)
    exact bd_put (by omega) (bd_le (a9 K hK) h2) hk.1 hk.2
theorem lft_cong {X Y X' Y' : Nat → Int} {b n : Int} (h : lft X Y b n) (e : ∀ a : Nat, (a : Int) < n → X' a = X a ∧ Y' a = Y a) : lft X' Y' b n := fun a h1 h2 => by
  rw [tn_cong (e a (by omega)).1 (e (a + 1) (by omega)).1 (e (a + 2) (by omega)).1 (e a (by omega)).2 (e (a + 1) (by omega)).2 (e (a + 2) (by omega)).2]
  exact h a h1 h2
theorem fu_e {f g FX FY X Y : Nat → Int} {w h0 i h : Int} (hw : 1 < w) (H0 : fl f g FX FY w h0) (hi : i = -1) (H : fu f g FX FY X Y (h0 - 1) w i h) : Ch (h - 1) X Y := by
  obtain ⟨a1, a2, a3, a4, ⟨a5, a6⟩, a7, a8, a9⟩ := H
  obtain ⟨b1, b2, b3, b4, b5, b6, b7⟩ := H0
  have b4 := b4 hw
  obtain ⟨c1, c2, c3, c4, c5⟩ := b3 (by omega)
  have a3 := a3 (by omega)
  have e0 : ∀ a : Nat, (a : Int) < h0 → X a = FX a ∧ Y a = FY a := fun a ha => a4 a (by omega)
  subst hi
  refine Or.inr ⟨(h0 - 1).toNat, by omega, by omega, fun a ha => ?_, ?_, fun a h1 h2 => a8 a (by omega) (by omega), ?_, ?_, ?_⟩
  · rw [(e0 a (by omega)).1, (e0 a (by omega)).2, (e0 (a + 1) (by omega)).1, (e0 (a + 1) (by omega)).2]
    exact b6 a (by omega)
  · rw [show (((h0 - 1).toNat : Nat) : Int) + 1 = h0 by omega]
    exact lft_cong b5 e0
  · rw [show (((h0 - 1).toNat : Nat) : Int) = h0 - 1 by omega, show h - 1 + 1 = h by omega]
    exact a7
  · rw [a5, (e0 0 (by omega)).1, c2]; rfl
  · rw [a6, (e0 0 (by omega)).2, c3]; rfl

set_option maxHeartbeats 4000000 in
set_option maxRecDepth 100000 in
theorem c_X12_findHull (l : Launch) (D : JD) (o : Nat) (q : Nat → Nat) (u : MS) (A : Nat → Prop) (hD : va_D A (mW D o q u)) (p0 : 0 ≤ u.2.2 6 ∧ u.2.2 6 ≤ 640) (p1 : bd 10000 (u.1 4) (u.1 5) (u.2.2 6)) : Met l yX12_findHull (jw yX12_findHull cX12_findHull 3 none) (jr 2 46) (jP [.ref o] D (fun H => va_P D.1 j_cl (mW D o q u) H)) (jWv (fun u' => ∃ f : Nat → Int, ∃ g : Nat → Int, ∃ w : Int, ∃ X : Nat → Int, ∃ Y : Nat → Int, ∃ nh : Int, u' = (uV (uI (uI (uV (uI (uI u 4 f) 5 g) 6 w) 7 X) 8 Y) 9 nh) ∧ (0 ≤ nh ∧ nh ≤ 1290 ∧ Ch nh X Y ∧ (0 < u.2.2 6 → 0 < nh) ∧ bd 10000 X Y nh ∧ ∀ K : Int, bd K (u.1 4) (u.1 5) (u.2.2 6) → bd K X Y nh)) (fun u' H => va_P D.1 j_cl (mW D o q u') H) A) 0 0 A := by
  refine Met.ofW (cc := cX12_findHull) (maxL := 3) (ret := none) (by decide) rfl ?_
  intro pr en st mi args below meth co s₁ B hml hv
  obtain ⟨rfl, hG, hP⟩ := hv
  have hr := B.returns
  have hlk := B.notSynchronized
  have SS : jS pr mi co cX12_findHull 3 st _ RX12 := ⟨B.exec, B.bytes, hml, findClass_of_methodNamed B.named, fun w hw => atoms_spec (ws := (jw yX12_findHull cX12_findHull 3 none)) B.pre w (List.mem_cons_of_mem _ hw)⟩
  have hl := lv_entry ([.ref o]) (n := 3) (Nat.le_of_ble_eq_true rfl)
  rw [lg_entry_eq]
  generalize (lg_sl ([.ref o]) ++ List.replicate (3 - (lg_sl ([.ref o])).length) Slot.unset).toArray = ls at hl ⊢
  have hl : lv_has ls 3 [(0, .ref o)] := hl
  have hS : va_S A st.heap st.heap [] := va_S.rf
  refine lv_aload_n SS.1 SS.2.1 dX12_findHull_0 rfl (lv_at hl 0 rfl) ?_
  refine j_vWv SS (As := []) (rest := []) (c_X12_order l D o q u A (mW_D hD)  (show 0 ≤ (u.2.2 6) ∧ (u.2.2 6) ≤ 640 from (by omega)) (show bd 10000 ((u.1 4)) ((u.1 5)) ((u.2.2 6)) from (p1))) mf_X12_order kw_1193 hG hP hP (ci := 8) (q0 := 0) rfl rfl rfl hS (fun _ h => h) rfl hl.1 ⟨⟨Nat.le_of_ble_eq_true rfl, Nat.le_of_ble_eq_true rfl⟩, Nat.le_of_ble_eq_true rfl, Nat.le_refl _, Nat.le_refl _⟩ rfl dX12_findHull_1 (fun u1 H locs h_1 hP _ hS => ?_)
  obtain ⟨f_1, g_1, w_1, rfl, h_1⟩ := h_1
  have hP : va_P D.1 j_cl (mW D o q (uV (uI (uI u 4 f_1) 5 g_1) 6 w_1)) H := hP
  have h_1 : 0 ≤ w_1 ∧ w_1 ≤ (u.2.2 6) ∧ (0 < (u.2.2 6) → 0 < w_1) ∧ os_s f_1 g_1 w_1 ∧ bd 10000 f_1 g_1 w_1 ∧ ∀ K : Int, bd K ((u.1 4)) ((u.1 5)) ((u.2.2 6)) → bd K f_1 g_1 w_1 := h_1
  obtain ⟨hw1, hw2, hwp, hw3, hwb, hwK⟩ := h_1
  refine lv_aload_n SS.1 SS.2.1 dX12_findHull_4 rfl (lv_at hl 0 rfl) ?_
  refine j_iconst SS dX12_findHull_5 ?_
  refine j_put SS hG hP (mW_D hD) hS 0 (v := .int (J 0)) (ty := .int) (C := RX12) (T := TX12) (N := 31) rfl rfl inX12 tyX12 tyX12_ok nmX12 9 (by decide) (ref := RX12) kw_1067 rfl rfl (by decide +kernel) rfl rfl (Nat.le_of_ble_eq_true rfl) dX12_findHull_6 (ws' := (mW D o q (uV (uV (uI (uI u 4 f_1) 5 g_1) 6 w_1) 9 0))) rfl (fun H locs hP hS => ?_)
  refine j_iconst SS dX12_findHull_9 ?_
  refine lv_istore_n (lv' := [(1, .int (J 0)), (0, .ref o)]) SS.1 SS.2.1 dX12_findHull_10 rfl hl (by decide) rfl (fun ls hl => ?_)
  have L_11 : ∀ (nn : Nat) (i : Int) (X : Nat → Int) (Y : Nat → Int) (h : Int) (H : Heap) (locs : List Loc) (hP : va_P D.1 j_cl (mW D o q (uV (uI (uI (uV (uI (uI u 4 f_1) 5 g_1) 6 w_1) 7 X) 8 Y) 9 h)) H) (hS : va_S A st.heap H locs) (ls : Array Slot) (hl : lv_has ls 3 [(0, .ref o), (1, .int (J i))]) (i11_0 : 0 ≤ i ∧ i ≤ w_1) (i11_1 : fl f_1 g_1 X Y i h) (i11_2 : bd 10000 X Y h), (w_1 - i).toNat < nn → W pr l en (headSpec (jw yX12_findHull cX12_findHull 3 none) (jr 2 46)).room st mi (([.ref o] : List Value).toArray) below meth co H locs 0 0 (MQ below (jWv (fun u' => ∃ f : Nat → Int, ∃ g : Nat → Int, ∃ w : Int, ∃ X : Nat → Int, ∃ Y : Nat → Int, ∃ nh : Int, u' = (uV (uI (uI (uV (uI (uI u 4 f) 5 g) 6 w) 7 X) 8 Y) 9 nh) ∧ (0 ≤ nh ∧ nh ≤ 1290 ∧ Ch nh X Y ∧ (0 < u.2.2 6 → 0 < nh) ∧ bd 10000 X Y nh ∧ ∀ K : Int, bd K (u.1 4) (u.1 5) (u.2.2 6) → bd K X Y nh)) (fun u' H => va_P D.1 j_cl (mW D o q u') H) A) (([.ref o] : List Value).toArray) st 0 0 A) (F0 mi 11 ls []) := by
    intro nn
    induction nn with
    | zero => intros; omega
    | succ nn ih_11 =>
      intro i X Y h H locs hP hS ls hl i11_0 i11_1 i11_2 hm
      have hf1 := i11_1.1
      have hf2 := i11_1.2.1
      refine lv_iload_n SS.1 SS.2.1 dX12_findHull_11 rfl (lv_at hl 1 rfl) ?_
      refine lv_aload_n SS.1 SS.2.1 dX12_findHull_12 rfl (lv_at hl 0 rfl) ?_
      refine j_get SS hG hP 0 (v := .int (J w_1)) (C := RX12) (T := TX12) (N := 31) rfl rfl inX12 6 (by decide) (ref := RX12) kw_1064 rfl rfl dX12_findHull_13 ?_
      refine j_icmp_ge SS (tgt := 31) (x := i) (y := w_1) dX12_findHull_16 (by decide) (by omega) (by omega) (fun c_16 => ?_) (fun c_16 => ?_)
      · skip
        have hh : 0 < w_1 → 0 < h := fun q => (i11_1.2.2.1 (by omega)).1
        have hh2 : 1 < w_1 → 1 < h := fun q => i11_1.2.2.2.1 (by omega)
        refine lv_aload_n SS.1 SS.2.1 dX12_findHull_31 rfl (lv_at hl 0 rfl) ?_
        refine j_get SS hG hP 0 (v := .int (J h)) (C := RX12) (T := TX12) (N := 31) rfl rfl inX12 9 (by decide) (ref := RX12) kw_1067 rfl rfl dX12_findHull_32 ?_
        refine j_iconst SS dX12_findHull_35 ?_
        refine j_isub SS (x := h) (y := 1) dX12_findHull_36 ?_
        refine lv_istore_n (lv' := [(1, .int (J (h - 1))), (0, .ref o)]) SS.1 SS.2.1 dX12_findHull_37 rfl hl (by decide) rfl (fun ls hl => ?_)
        refine lv_aload_n SS.1 SS.2.1 dX12_findHull_38 rfl (lv_at hl 1 rfl) ?_
        refine j_get SS hG hP 0 (v := .int (J w_1)) (C := RX12) (T := TX12) (N := 31) rfl rfl inX12 6 (by decide) (ref := RX12) kw_1064 rfl rfl dX12_findHull_39 ?_
        refine j_iconst SS dX12_findHull_42 ?_
        refine j_isub SS (x := w_1) (y := 2) dX12_findHull_43 ?_
        refine lv_istore_n (lv' := [(2, .int (J (w_1 - 2))), (1, .int (J (h - 1))), (0, .ref o)]) SS.1 SS.2.1 dX12_findHull_44 rfl hl (by decide) rfl (fun ls hl => ?_)
        have L_45 : ∀ (nn : Nat) (i2 : Int) (X2 : Nat → Int) (Y2 : Nat → Int) (h2 : Int) (H : Heap) (locs : List Loc) (hP : va_P D.1 j_cl (mW D o q (uV (uI (uI (uV (uI (uI u 4 f_1) 5 g_1) 6 w_1) 7 X2) 8 Y2) 9 h2)) H) (hS : va_S A st.heap H locs) (ls : Array Slot) (hl : lv_has ls 3 [(0, .ref o), (1, .int (J (h - 1))), (2, .int (J i2))]) (i45_0 : -1 ≤ i2 ∧ i2 ≤ w_1 - 2 ∧ 1 ≤ w_1 ∨ (w_1 = 0 ∧ h2 = 0 ∧ i2 = -2)) (i45_1 : 1 ≤ w_1 → fu f_1 g_1 X Y X2 Y2 (h - 1) w_1 i2 h2) (i45_2 : bd 10000 X2 Y2 h2), (i2 + 2).toNat < nn → W pr l en (headSpec (jw yX12_findHull cX12_findHull 3 none) (jr 2 46)).room st mi (([.ref o] : List Value).toArray) below meth co H locs 0 0 (MQ below (jWv (fun u' => ∃ f : Nat → Int, ∃ g : Nat → Int, ∃ w : Int, ∃ X : Nat → Int, ∃ Y : Nat → Int, ∃ nh : Int, u' = (uV (uI (uI (uV (uI (uI u 4 f) 5 g) 6 w) 7 X) 8 Y) 9 nh) ∧ (0 ≤ nh ∧ nh ≤ 1290 ∧ Ch nh X Y ∧ (0 < u.2.2 6 → 0 < nh) ∧ bd 10000 X Y nh ∧ ∀ K : Int, bd K (u.1 4) (u.1 5) (u.2.2 6) → bd K X Y nh)) (fun u' H => va_P D.1 j_cl (mW D o q u') H) A) (([.ref o] : List Value).toArray) st 0 0 A) (F0 mi 45 ls []) := by
          intro nn
          induction nn with
          | zero => intros; omega
          | succ nn ih_45 =>
            intro i2 X2 Y2 h2 H locs hP hS ls hl i45_0 i45_1 i45_2 hm
            refine lv_iload_n SS.1 SS.2.1 dX12_findHull_45 rfl (lv_at hl 2 rfl) ?_
            refine j_if_lt SS (tgt := 61) (x := i2) dX12_findHull_46 (by decide) (by omega) (fun c_46 => ?_) (fun c_46 => ?_)
            · skip
              have hq : 1 ≤ w_1 → h ≤ h2 ∧ h2 ≤ h + w_1 - i2 - 2 := fun q => ⟨by have := (i45_1 q).1; omega, by have := (i45_1 q).2.1; omega⟩
              refine lv_aload_n SS.1 SS.2.1 dX12_findHull_61 rfl (lv_at hl 0 rfl) ?_
              refine lv_dup SS.1 SS.2.1 dX12_findHull_62 rfl ?_
              refine j_get SS hG hP 0 (v := .int (J h2)) (C := RX12) (T := TX12) (N := 31) rfl rfl inX12 9 (by decide) (ref := RX12) kw_1067 rfl rfl dX12_findHull_63 ?_
              refine lv_aload_n SS.1 SS.2.1 dX12_findHull_66 rfl (lv_at hl 0 rfl) ?_
              refine j_get SS hG hP 0 (v := .int (J w_1)) (C := RX12) (T := TX12) (N := 31) rfl rfl inX12 6 (by decide) (ref := RX12) kw_1064 rfl rfl dX12_findHull_67 ?_
              refine j_iconst SS dX12_findHull_70 ?_
              refine j_icmp_le SS (tgt := 78) (x := w_1) (y := 1) dX12_findHull_71 (by decide) (by omega) (by decide) (fun c_71 => ?_) (fun c_71 => ?_)
              · skip
                refine j_iconst SS dX12_findHull_78 ?_
                refine j_isub SS (x := h2) (y := 0) dX12_findHull_79 ?_
                refine j_put SS hG hP (mW_D hD) hS 0 (v := .int (J (h2 - 0))) (ty := .int) (C := RX12) (T := TX12) (N := 31) rfl rfl inX12 tyX12 tyX12_ok nmX12 9 (by decide) (ref := RX12) kw_1067 rfl rfl (by decide +kernel) rfl rfl (Nat.le_of_ble_eq_true rfl) dX12_findHull_80 (ws' := (mW D o q (uV (uI (uI (uV (uI (uI u 4 f_1) 5 g_1) 6 w_1) 7 X2) 8 Y2) 9 (h2 - 0)))) rfl (fun H locs hP hS => ?_)
                exact W.vret SS.1 SS.2.1 hr (fun t ht hW => ⟨⟨(uV (uI (uI (uV (uI (uI u 4 f_1) 5 g_1) 6 w_1) 7 X2) 8 Y2) 9 (h2 - 0)), rfl, (⟨f_1, g_1, w_1, X2, Y2, (h2 - 0), rfl, ⟨by omega, by omega, by first | exact Or.inl (by omega) | exact fu_e (by omega) (by rw [show i = w_1 by omega] at i11_1; exact i11_1) (by omega) (i45_1 (by omega)), fun q => by omega, bd_le i45_2 (by omega), fun K hK => by rcases (show 1 ≤ w_1 ∨ w_1 = 0 by omega) with q | q; exact bd_le ((i45_1 q).2.2.2.2.2.2.2 K (hwK K hK)) (by omega); exact fun a ha => by omega⟩⟩), by show va_P D.1 j_cl (mW D o q (uV (uI (uI (uV (uI (uI u 4 f_1) 5 g_1) 6 w_1) 7 X2) 8 Y2) 9 (h2 - 0))) t.heap; rw [ht]; exact hP⟩, hS.F ht⟩) hS.2.2 dX12_findHull_83 hlk
              · skip
                refine j_iconst SS dX12_findHull_74 ?_
                refine lv_goto (tgt := 79) SS.1 SS.2.1 dX12_findHull_75 (by decide) ?_
                refine j_isub SS (x := h2) (y := 1) dX12_findHull_79 ?_
                refine j_put SS hG hP (mW_D hD) hS 0 (v := .int (J (h2 - 1))) (ty := .int) (C := RX12) (T := TX12) (N := 31) rfl rfl inX12 tyX12 tyX12_ok nmX12 9 (by decide) (ref := RX12) kw_1067 rfl rfl (by decide +kernel) rfl rfl (Nat.le_of_ble_eq_true rfl) dX12_findHull_80 (ws' := (mW D o q (uV (uI (uI (uV (uI (uI u 4 f_1) 5 g_1) 6 w_1) 7 X2) 8 Y2) 9 (h2 - 1)))) rfl (fun H locs hP hS => ?_)
                exact W.vret SS.1 SS.2.1 hr (fun t ht hW => ⟨⟨(uV (uI (uI (uV (uI (uI u 4 f_1) 5 g_1) 6 w_1) 7 X2) 8 Y2) 9 (h2 - 1)), rfl, (⟨f_1, g_1, w_1, X2, Y2, (h2 - 1), rfl, ⟨by omega, by omega, by first | exact Or.inl (by omega) | exact fu_e (by omega) (by rw [show i = w_1 by omega] at i11_1; exact i11_1) (by omega) (i45_1 (by omega)), fun q => by omega, bd_le i45_2 (by omega), fun K hK => by rcases (show 1 ≤ w_1 ∨ w_1 = 0 by omega) with q | q; exact bd_le ((i45_1 q).2.2.2.2.2.2.2 K (hwK K hK)) (by omega); exact fun a ha => by omega⟩⟩), by show va_P D.1 j_cl (mW D o q (uV (uI (uI (uV (uI (uI u 4 f_1) 5 g_1) 6 w_1) 7 X2) 8 Y2) 9 (h2 - 1))) t.heap; rw [ht]; exact hP⟩, hS.F ht⟩) hS.2.2 dX12_findHull_83 hlk
            · skip
              have hb := fun (j : Int) => bd_at hwb (z := i2) (by omega) (by omega)
              have hw : 1 ≤ w_1 := by omega
              have hfu := i45_1 hw
              have hfu1 := hfu.1
              have hfu2 := hfu.2.1
              refine lv_aload_n SS.1 SS.2.1 dX12_findHull_49 rfl (lv_at hl 0 rfl) ?_
              refine lv_iload_n SS.1 SS.2.1 dX12_findHull_50 rfl (lv_at hl 2 rfl) ?_
              refine lv_iload_n SS.1 SS.2.1 dX12_findHull_51 rfl (lv_at hl 1 rfl) ?_
              refine j_vWv SS (As := [.int (J i2), .int (J (h - 1))]) (rest := []) (c_X12_goOn l D o q (uV (uI (uI (uV (uI (uI u 4 f_1) 5 g_1) 6 w_1) 7 X2) 8 Y2) 9 h2) A (mW_D hD) i2 (h - 1) (show 0 ≤ i2 ∧ i2 < 640 from (by omega)) (show 0 ≤ (h - 1) ∧ (h - 1) ≤ h2 ∧ h2 < 1300 from (by omega)) (show -10000 ≤ f_1 i2.toNat ∧ f_1 i2.toNat ≤ 10000 from ((hb i2).1)) (show -10000 ≤ g_1 i2.toNat ∧ g_1 i2.toNat ≤ 10000 from ((hb i2).2)) (show bd 10000 (X2) (Y2) (h2) from (i45_2)) (show lft (X2) (Y2) (h - 1) (h2) from (hfu.2.2.2.2.2.1))) mf_X12_goOn kw_1201 hG hP hP (ci := 8) (q0 := 0) rfl rfl rfl hS (fun _ h => h) rfl hl.1 ⟨⟨Nat.le_of_ble_eq_true rfl, Nat.le_of_ble_eq_true rfl⟩, Nat.le_of_ble_eq_true rfl, Nat.le_refl _, Nat.le_refl _⟩ rfl dX12_findHull_52 (fun u52 H locs h_52 hP _ hS => ?_)
              obtain ⟨f_52, g_52, w_52, v_52, rfl, h_52⟩ := h_52
              have hP : va_P D.1 j_cl (mW D o q (uV (uI (uI (uV (uI (uI u 4 f_1) 5 g_1) 6 w_1) 7 f_52) 8 g_52) 9 w_52)) H := hP
              have h_52 : w_52 = v_52 + 1 ∧ (h - 1) ≤ v_52 ∧ v_52 ≤ h2 ∧ ((h - 1) < h2 → (h - 1) < v_52) ∧ f_52 = upI (X2) v_52.toNat (f_1 i2.toNat) ∧ g_52 = upI (Y2) v_52.toNat (g_1 i2.toNat) ∧ lft f_52 g_52 (h - 1) w_52 := h_52
              refine lv_iinc (v := J (i2 + (-1))) (lv' := [(2, .int (J (i2 + (-1)))), (0, .ref o), (1, .int (J (h - 1)))]) SS.1 SS.2.1 dX12_findHull_55 hl (k := 2) rfl (J_add _ _) (by decide) rfl (fun ls hl => ?_)
              refine lv_goto (tgt := 45) SS.1 SS.2.1 dX12_findHull_58 (by decide) ?_
              exact ih_45 (i2 + (-1)) f_52 g_52 w_52 _ _ hP hS ls (lv_sub hl [1, 2, 0] rfl) (by omega) (fun hw => by obtain ⟨rfl, k1, k2, k3, rfl, rfl, k4⟩ := h_52; exact fu_s (by omega) hw3 (by omega) (by omega) (i45_1 hw) k1 k2 (k3 (by omega)) k4) (by obtain ⟨rfl, k1, k2, k3, rfl, rfl, k4⟩ := h_52; exact bd_put (by omega) (bd_le i45_2 k2) (hb i2).1 (hb i2).2) (by omega)
        exact L_45 (((w_1 - 2) + 2).toNat + 1) (w_1 - 2) X Y h _ _ hP hS ls (lv_sub hl [2, 1, 0] rfl) (by omega) (fun hw => fu_0 hw (by rw [show i = w_1 by omega] at i11_1; exact i11_1)) (i11_2) (Nat.lt_succ_self _)
      · skip
        have hb : ∀ i : Int, 0 ≤ i → i < w_1 → (-10000 ≤ f_1 i.toNat ∧ f_1 i.toNat ≤ 10000) ∧ (-10000 ≤ g_1 i.toNat ∧ g_1 i.toNat ≤ 10000) := fun i h1 h2 => bd_at hwb h1 h2
        have hb := fun (j : Int) => hb i (by omega) (by omega)
        refine lv_aload_n SS.1 SS.2.1 dX12_findHull_19 rfl (lv_at hl 0 rfl) ?_
        refine lv_iload_n SS.1 SS.2.1 dX12_findHull_20 rfl (lv_at hl 1 rfl) ?_
        refine j_iconst SS dX12_findHull_21 ?_
        refine j_vWv SS (As := [.int (J i), .int (J 0)]) (rest := []) (c_X12_goOn l D o q (uV (uI (uI (uV (uI (uI u 4 f_1) 5 g_1) 6 w_1) 7 X) 8 Y) 9 h) A (mW_D hD) i 0 (show 0 ≤ i ∧ i < 640 from (by omega)) (show 0 ≤ (0 : Int) ∧ (0 : Int) ≤ h ∧ h < 1300 from (by omega)) (show -10000 ≤ f_1 i.toNat ∧ f_1 i.toNat ≤ 10000 from ((hb i).1)) (show -10000 ≤ g_1 i.toNat ∧ g_1 i.toNat ≤ 10000 from ((hb i).2)) (show bd 10000 (X) (Y) (h) from (i11_2)) (show lft (X) (Y) (0 : Int) (h) from (i11_1.2.2.2.2.1))) mf_X12_goOn kw_1201 hG hP hP (ci := 8) (q0 := 0) rfl rfl rfl hS (fun _ h => h) rfl hl.1 ⟨⟨Nat.le_of_ble_eq_true rfl, Nat.le_of_ble_eq_true rfl⟩, Nat.le_of_ble_eq_true rfl, Nat.le_refl _, Nat.le_refl _⟩ rfl dX12_findHull_22 (fun u22 H locs h_22 hP _ hS => ?_)
        obtain ⟨f_22, g_22, w_22, v_22, rfl, h_22⟩ := h_22
        have hP : va_P D.1 j_cl (mW D o q (uV (uI (uI (uV (uI (uI u 4 f_1) 5 g_1) 6 w_1) 7 f_22) 8 g_22) 9 w_22)) H := hP
        have h_22 : w_22 = v_22 + 1 ∧ (0 : Int) ≤ v_22 ∧ v_22 ≤ h ∧ ((0 : Int) < h → (0 : Int) < v_22) ∧ f_22 = upI (X) v_22.toNat (f_1 i.toNat) ∧ g_22 = upI (Y) v_22.toNat (g_1 i.toNat) ∧ lft f_22 g_22 (0 : Int) w_22 := h_22
        refine lv_iinc (v := J (i + 1)) (lv' := [(1, .int (J (i + 1))), (0, .ref o)]) SS.1 SS.2.1 dX12_findHull_25 hl (k := 1) rfl (J_add _ _) (by decide) rfl (fun ls hl => ?_)
        refine lv_goto (tgt := 11) SS.1 SS.2.1 dX12_findHull_28 (by decide) ?_
        exact ih_11 (i + 1) f_22 g_22 w_22 _ _ hP hS ls (lv_sub hl [1, 0] rfl) (by omega) (by obtain ⟨rfl, k1, k2, k3, rfl, rfl, k4⟩ := h_22; exact fl_s hw3 (by omega) (by omega) i11_1 k1 k2 k3 k4) (by obtain ⟨rfl, k1, k2, k3, rfl, rfl, k4⟩ := h_22; exact bd_put k1 (bd_le i11_2 k2) (hb i).1 (hb i).2) (by omega)
  exact L_11 ((w_1 - (0 : Int)).toNat + 1) 0 (u.1 7) (u.1 8) 0 _ _ hP hS ls (lv_sub hl [1, 0] rfl) (by omega) (fl_0) (fun a ha => by omega) (Nat.lt_succ_self _)

