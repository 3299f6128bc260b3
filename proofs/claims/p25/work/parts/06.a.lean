
theorem gcd_step {x y : Int} (hx : 0 ≤ x) (hy : 0 < y) : Int.gcd y (x.tmod y) = Int.gcd x y := by
  rw [Int.gcd_eq_natAbs_gcd_natAbs, Int.gcd_eq_natAbs_gcd_natAbs, Int.natAbs_tmod, Nat.gcd_comm y.natAbs, ← Nat.gcd_rec, Nat.gcd_comm]
abbrev mN (u : MS) (s : Int) : Int := u.1 0 s.toNat
def mX (u : MS) (s i : Int) : Int := u.1 1 (24 * s + i.tmod (mN u s)).toNat
def mY (u : MS) (s i : Int) : Int := u.1 2 (24 * s + i.tmod (mN u s)).toNat
theorem tm_b {i n : Int} (h : 0 ≤ i) (hn : 0 < n) : 0 ≤ i.tmod n ∧ i.tmod n < n := by
  rw [Int.tmod_eq_emod_of_nonneg h]
  exact ⟨Int.emod_nonneg i (by omega), Int.emod_lt_of_pos i hn⟩

set_option maxHeartbeats 4000000 in
set_option maxRecDepth 100000 in
theorem c_X12_in (l : Launch) (D : JD) (v : Int) (low : Int) (high : Int) (p0 : -2147483648 ≤ v ∧ v ≤ 2147483647) (p1 : -2147483648 ≤ low ∧ low ≤ 2147483647) (p2 : -2147483648 ≤ high ∧ high ≤ 2147483647) : Met l yX12_in (jw yX12_in cX12_in 3 (some .boolean)) (jr 0 0) (jP [.int (J v), .int (J low), .int (J high)] D (fun _ => True)) (jRi (fun z => (z = 1 ∧ (low ≤ v ∧ v ≤ high)) ∨ (z = 0 ∧ ¬ (low ≤ v ∧ v ≤ high)))) 0 0 (fun _ => False) := by
  refine Met.ofW (cc := cX12_in) (maxL := 3) (ret := (some .boolean)) (by decide) rfl ?_
  intro pr en st mi args below meth co s₁ B hml hv
  obtain ⟨rfl, hG, hP⟩ := hv
  have hr := B.returns
  have hlk := B.notSynchronized
  have SS : jS pr mi co cX12_in 3 st _ RX12 := ⟨B.exec, B.bytes, hml, findClass_of_methodNamed B.named, fun w hw => atoms_spec (ws := (jw yX12_in cX12_in 3 (some .boolean))) B.pre w (List.mem_cons_of_mem _ hw)⟩
  have hl := lv_entry ([.int (J v), .int (J low), .int (J high)]) (n := 3) (Nat.le_of_ble_eq_true rfl)
  rw [lg_entry_eq]
  generalize (lg_sl ([.int (J v), .int (J low), .int (J high)]) ++ List.replicate (3 - (lg_sl ([.int (J v), .int (J low), .int (J high)])).length) Slot.unset).toArray = ls at hl ⊢
  have hl : lv_has ls 3 [(0, .int (J v)), (1, .int (J low)), (2, .int (J high))] := hl
  refine lv_iload_n SS.1 SS.2.1 dX12_in_0 rfl (lv_at hl 0 rfl) ?_
  refine lv_iload_n SS.1 SS.2.1 dX12_in_1 rfl (lv_at hl 1 rfl) ?_
  refine j_icmp_lt SS (tgt := 14) (x := v) (y := low) dX12_in_2 (by decide) (by omega) (by omega) (fun c_2 => ?_) (fun c_2 => ?_)
  · skip
    refine j_iconst SS dX12_in_14 ?_
    exact W.zret SS.1 SS.2.1 hr (j_nz (by decide)) (fun t ht hW => ⟨_, rfl, ⟨0, rfl, (by omega)⟩, ht⟩) (fun _ h => nomatch h) dX12_in_15 hlk
  · skip
    refine lv_iload_n SS.1 SS.2.1 dX12_in_5 rfl (lv_at hl 0 rfl) ?_
    refine lv_iload_n SS.1 SS.2.1 dX12_in_6 rfl (lv_at hl 2 rfl) ?_
    refine j_icmp_gt SS (tgt := 14) (x := v) (y := high) dX12_in_7 (by decide) (by omega) (by omega) (fun c_7 => ?_) (fun c_7 => ?_)
    · skip
      refine j_iconst SS dX12_in_14 ?_
      exact W.zret SS.1 SS.2.1 hr (j_nz (by decide)) (fun t ht hW => ⟨_, rfl, ⟨0, rfl, (by omega)⟩, ht⟩) (fun _ h => nomatch h) dX12_in_15 hlk
    · skip
      refine j_iconst SS dX12_in_10 ?_
      refine lv_goto (tgt := 15) SS.1 SS.2.1 dX12_in_11 (by decide) ?_
      exact W.zret SS.1 SS.2.1 hr (j_nz (by decide)) (fun t ht hW => ⟨_, rfl, ⟨1, rfl, (by omega)⟩, ht⟩) (fun _ h => nomatch h) dX12_in_15 hlk

set_option maxHeartbeats 4000000 in
set_option maxRecDepth 100000 in
theorem c_X12_isShape (l : Launch) (D : JD) (v : Int) (p0 : -2147483648 ≤ v ∧ v ≤ 2147483647) : Met l yX12_isShape (jw yX12_isShape cX12_isShape 1 (some .boolean)) (jr 1 22) (jP [.int (J v)] D (fun _ => True)) (jRi (fun z => (z = 1 ∧ (0 ≤ v ∧ v ≤ 7)) ∨ (z = 0 ∧ ¬ (0 ≤ v ∧ v ≤ 7)))) 0 0 (fun _ => False) := by
  refine Met.ofW (cc := cX12_isShape) (maxL := 1) (ret := (some .boolean)) (by decide) rfl ?_
  intro pr en st mi args below meth co s₁ B hml hv
  obtain ⟨rfl, hG, hP⟩ := hv
  have hr := B.returns
  have hlk := B.notSynchronized
  have SS : jS pr mi co cX12_isShape 1 st _ RX12 := ⟨B.exec, B.bytes, hml, findClass_of_methodNamed B.named, fun w hw => atoms_spec (ws := (jw yX12_isShape cX12_isShape 1 (some .boolean))) B.pre w (List.mem_cons_of_mem _ hw)⟩
  have hl := lv_entry ([.int (J v)]) (n := 1) (Nat.le_of_ble_eq_true rfl)
  rw [lg_entry_eq]
  generalize (lg_sl ([.int (J v)]) ++ List.replicate (1 - (lg_sl ([.int (J v)])).length) Slot.unset).toArray = ls at hl ⊢
  have hl : lv_has ls 1 [(0, .int (J v))] := hl
  refine lv_iload_n SS.1 SS.2.1 dX12_isShape_0 rfl (lv_at hl 0 rfl) ?_
  refine j_iconst SS dX12_isShape_1 ?_
  refine j_bipush SS dX12_isShape_2 (by decide +kernel) ?_
  refine j_sRi SS (As := [.int (J v), .int (J 0), .int (J 7)]) (rest := []) (c_X12_in l D v 0 7 (show -2147483648 ≤ v ∧ v ≤ 2147483647 from (by omega)) (show -2147483648 ≤ (0 : Int) ∧ (0 : Int) ≤ 2147483647 from (by omega)) (show -2147483648 ≤ (7 : Int) ∧ (7 : Int) ≤ 2147483647 from (by omega))) mf_X12_in kw_1159 hG trivial rfl hl.1 ⟨⟨Nat.le_of_ble_eq_true rfl, Nat.le_of_ble_eq_true rfl⟩, Nat.le_of_ble_eq_true rfl, Nat.le_refl _, Nat.le_refl _⟩ rfl dX12_isShape_4 (fun z_4 h_4 => ?_)
  have h_4 : (z_4 = 1 ∧ ((0 : Int) ≤ v ∧ v ≤ (7 : Int))) ∨ (z_4 = 0 ∧ ¬ ((0 : Int) ≤ v ∧ v ≤ (7 : Int))) := h_4
  exact W.zret SS.1 SS.2.1 hr (j_nz (by omega)) (fun t ht hW => ⟨_, rfl, ⟨z_4, rfl, (h_4)⟩, ht⟩) (fun _ h => nomatch h) dX12_isShape_7 hlk

set_option maxHeartbeats 4000000 in
set_option maxRecDepth 100000 in
theorem c_X12_isPlace (l : Launch) (D : JD) (v : Int) (x : Int) (p0 : -2147483648 ≤ v ∧ v ≤ 2147483647) (p1 : -2147483648 ≤ x ∧ x ≤ 2147483647) : Met l yX12_isPlace (jw yX12_isPlace cX12_isPlace 2 (some .boolean)) (jr 1 22) (jP [.int (J v), .int (J x)] D (fun _ => True)) (jRi (fun z => (z = 1 ∧ (-40 ≤ v ∧ v ≤ 40 ∧ -40 ≤ x ∧ x ≤ 40)) ∨ (z = 0 ∧ ¬ (-40 ≤ v ∧ v ≤ 40 ∧ -40 ≤ x ∧ x ≤ 40)))) 0 0 (fun _ => False) := by
  refine Met.ofW (cc := cX12_isPlace) (maxL := 2) (ret := (some .boolean)) (by decide) rfl ?_
  intro pr en st mi args below meth co s₁ B hml hv
  obtain ⟨rfl, hG, hP⟩ := hv
  have hr := B.returns
  have hlk := B.notSynchronized
  have SS : jS pr mi co cX12_isPlace 2 st _ RX12 := ⟨B.exec, B.bytes, hml, findClass_of_methodNamed B.named, fun w hw => atoms_spec (ws := (jw yX12_isPlace cX12_isPlace 2 (some .boolean))) B.pre w (List.mem_cons_of_mem _ hw)⟩
  have hl := lv_entry ([.int (J v), .int (J x)]) (n := 2) (Nat.le_of_ble_eq_true rfl)
  rw [lg_entry_eq]
  generalize (lg_sl ([.int (J v), .int (J x)]) ++ List.replicate (2 - (lg_sl ([.int (J v), .int (J x)])).length) Slot.unset).toArray = ls at hl ⊢
  have hl : lv_has ls 2 [(0, .int (J v)), (1, .int (J x))] := hl
  refine lv_iload_n SS.1 SS.2.1 dX12_isPlace_0 rfl (lv_at hl 0 rfl) ?_
  refine j_bipush SS dX12_isPlace_1 (by decide +kernel) ?_
  refine j_bipush SS dX12_isPlace_3 (by decide +kernel) ?_
  refine j_sRi SS (As := [.int (J v), .int (J (-40)), .int (J 40)]) (rest := []) (c_X12_in l D v (-40) 40 (show -2147483648 ≤ v ∧ v ≤ 2147483647 from (by omega)) (show -2147483648 ≤ (-40 : Int) ∧ (-40 : Int) ≤ 2147483647 from (by omega)) (show -2147483648 ≤ (40 : Int) ∧ (40 : Int) ≤ 2147483647 from (by omega))) mf_X12_in kw_1159 hG trivial rfl hl.1 ⟨⟨Nat.le_of_ble_eq_true rfl, Nat.le_of_ble_eq_true rfl⟩, Nat.le_of_ble_eq_true rfl, Nat.le_refl _, Nat.le_refl _⟩ rfl dX12_isPlace_5 (fun z_5 h_5 => ?_)
  have h_5 : (z_5 = 1 ∧ ((-40 : Int) ≤ v ∧ v ≤ (40 : Int))) ∨ (z_5 = 0 ∧ ¬ ((-40 : Int) ≤ v ∧ v ≤ (40 : Int))) := h_5
  refine j_if_eq SS (tgt := 26) (x := z_5) dX12_isPlace_8 (by decide) (by omega) (fun c_8 => ?_) (fun c_8 => ?_)
  · skip
    refine j_iconst SS dX12_isPlace_26 ?_
    exact W.zret SS.1 SS.2.1 hr (j_nz (by decide)) (fun t ht hW => ⟨_, rfl, ⟨0, rfl, (by omega)⟩, ht⟩) (fun _ h => nomatch h) dX12_isPlace_27 hlk
  · skip
    refine lv_iload_n SS.1 SS.2.1 dX12_isPlace_11 rfl (lv_at hl 1 rfl) ?_
    refine j_bipush SS dX12_isPlace_12 (by decide +kernel) ?_
    refine j_bipush SS dX12_isPlace_14 (by decide +kernel) ?_
    refine j_sRi SS (As := [.int (J x), .int (J (-40)), .int (J 40)]) (rest := []) (c_X12_in l D x (-40) 40 (show -2147483648 ≤ x ∧ x ≤ 2147483647 from (by omega)) (show -2147483648 ≤ (-40 : Int) ∧ (-40 : Int) ≤ 2147483647 from (by omega)) (show -2147483648 ≤ (40 : Int) ∧ (40 : Int) ≤ 2147483647 from (by omega))) mf_X12_in kw_1159 hG trivial rfl hl.1 ⟨⟨Nat.le_of_ble_eq_true rfl, Nat.le_of_ble_eq_true rfl⟩, Nat.le_of_ble_eq_true rfl, Nat.le_refl _, Nat.le_refl _⟩ rfl dX12_isPlace_16 (fun z_16 h_16 => ?_)
    have h_16 : (z_16 = 1 ∧ ((-40 : Int) ≤ x ∧ x ≤ (40 : Int))) ∨ (z_16 = 0 ∧ ¬ ((-40 : Int) ≤ x ∧ x ≤ (40 : Int))) := h_16
    refine j_if_eq SS (tgt := 26) (x := z_16) dX12_isPlace_19 (by decide) (by omega) (fun c_19 => ?_) (fun c_19 => ?_)
    · skip
      refine j_iconst SS dX12_isPlace_26 ?_
      exact W.zret SS.1 SS.2.1 hr (j_nz (by decide)) (fun t ht hW => ⟨_, rfl, ⟨0, rfl, (by omega)⟩, ht⟩) (fun _ h => nomatch h) dX12_isPlace_27 hlk
    · skip
      refine j_iconst SS dX12_isPlace_22 ?_
      refine lv_goto (tgt := 27) SS.1 SS.2.1 dX12_isPlace_23 (by decide) ?_
      exact W.zret SS.1 SS.2.1 hr (j_nz (by decide)) (fun t ht hW => ⟨_, rfl, ⟨1, rfl, (by omega)⟩, ht⟩) (fun _ h => nomatch h) dX12_isPlace_27 hlk

set_option maxHeartbeats 4000000 in
set_option maxRecDepth 100000 in
theorem c_X12_size (l : Launch) (D : JD) (v : Int) (p0 : -2147483648 < v ∧ v ≤ 2147483647) : Met l yX12_size (jw yX12_size cX12_size 1 (some .int)) (jr 0 0) (jP [.int (J v)] D (fun _ => True)) (jRi (fun z => (0 ≤ v → z = v) ∧ (v < 0 → z = -v))) 0 0 (fun _ => False) := by
  refine Met.ofW (cc := cX12_size) (maxL := 1) (ret := (some .int)) (by decide) rfl ?_
  intro pr en st mi args below meth co s₁ B hml hv
  obtain ⟨rfl, hG, hP⟩ := hv
  have hr := B.returns
  have hlk := B.notSynchronized
  have SS : jS pr mi co cX12_size 1 st _ RX12 := ⟨B.exec, B.bytes, hml, findClass_of_methodNamed B.named, fun w hw => atoms_spec (ws := (jw yX12_size cX12_size 1 (some .int))) B.pre w (List.mem_cons_of_mem _ hw)⟩
  have hl := lv_entry ([.int (J v)]) (n := 1) (Nat.le_of_ble_eq_true rfl)
  rw [lg_entry_eq]
  generalize (lg_sl ([.int (J v)]) ++ List.replicate (1 - (lg_sl ([.int (J v)])).length) Slot.unset).toArray = ls at hl ⊢
  have hl : lv_has ls 1 [(0, .int (J v))] := hl
  refine lv_iload_n SS.1 SS.2.1 dX12_size_0 rfl (lv_at hl 0 rfl) ?_
  refine j_if_ge SS (tgt := 9) (x := v) dX12_size_1 (by decide) (by omega) (fun c_1 => ?_) (fun c_1 => ?_)
  · skip
    refine lv_iload_n SS.1 SS.2.1 dX12_size_9 rfl (lv_at hl 0 rfl) ?_
    exact W.iret SS.1 SS.2.1 hr (fun t ht hW => ⟨_, rfl, ⟨v, rfl, (by omega)⟩, ht⟩) (fun _ h => nomatch h) dX12_size_10 hlk
  · skip
    refine lv_iload_n SS.1 SS.2.1 dX12_size_4 rfl (lv_at hl 0 rfl) ?_
    refine j_ineg SS dX12_size_5 ?_
    refine lv_goto (tgt := 10) SS.1 SS.2.1 dX12_size_6 (by decide) ?_
    exact W.iret SS.1 SS.2.1 hr (fun t ht hW => ⟨_, rfl, ⟨(-v), rfl, (by omega)⟩, ht⟩) (fun _ h => nomatch h) dX12_size_10 hlk

set_option maxHeartbeats 4000000 in
set_option maxRecDepth 100000 in
theorem c_X12_common (l : Launch) (D : JD) (a : Int) (b : Int) (p0 : -2147483648 < a ∧ a ≤ 2147483647) (p1 : -2147483648 < b ∧ b ≤ 2147483647) : Met l yX12_common (jw yX12_common cX12_common 5 (some .int)) (jr 1 20) (jP [.int (J a), .int (J b)] D (fun _ => True)) (jRi (fun z => z = (Int.gcd a b : Int))) 0 0 (fun _ => False) := by
  refine Met.ofW (cc := cX12_common) (maxL := 5) (ret := (some .int)) (by decide) rfl ?_
  intro pr en st mi args below meth co s₁ B hml hv
  obtain ⟨rfl, hG, hP⟩ := hv
  have hr := B.returns
  have hlk := B.notSynchronized
  have SS : jS pr mi co cX12_common 5 st _ RX12 := ⟨B.exec, B.bytes, hml, findClass_of_methodNamed B.named, fun w hw => atoms_spec (ws := (jw yX12_common cX12_common 5 (some .int))) B.pre w (List.mem_cons_of_mem _ hw)⟩
  have hl := lv_entry ([.int (J a), .int (J b)]) (n := 5) (Nat.le_of_ble_eq_true rfl)
  rw [lg_entry_eq]
  generalize (lg_sl ([.int (J a), .int (J b)]) ++ List.replicate (5 - (lg_sl ([.int (J a), .int (J b)])).length) Slot.unset).toArray = ls at hl ⊢
  have hl : lv_has ls 5 [(0, .int (J a)), (1, .int (J b))] := hl
  refine lv_iload_n SS.1 SS.2.1 dX12_common_0 rfl (lv_at hl 0 rfl) ?_
  refine j_sRi SS (As := [.int (J a)]) (rest := []) (c_X12_size l D a (show -2147483648 < a ∧ a ≤ 2147483647 from (by omega))) mf_X12_size kw_1233 hG trivial rfl hl.1 ⟨⟨Nat.le_of_ble_eq_true rfl, Nat.le_of_ble_eq_true rfl⟩, Nat.le_of_ble_eq_true rfl, Nat.le_refl _, Nat.le_refl _⟩ rfl dX12_common_1 (fun z_1 h_1 => ?_)
  have h_1 : (0 ≤ a → z_1 = a) ∧ (a < 0 → z_1 = -a) := h_1
  refine lv_istore_n (lv' := [(2, .int (J z_1)), (0, .int (J a)), (1, .int (J b))]) SS.1 SS.2.1 dX12_common_4 rfl hl (by decide) rfl (fun ls hl => ?_)
  refine lv_iload_n SS.1 SS.2.1 dX12_common_5 rfl (lv_at hl 2 rfl) ?_
  refine j_sRi SS (As := [.int (J b)]) (rest := []) (c_X12_size l D b (show -2147483648 < b ∧ b ≤ 2147483647 from (by omega))) mf_X12_size kw_1233 hG trivial rfl hl.1 ⟨⟨Nat.le_of_ble_eq_true rfl, Nat.le_of_ble_eq_true rfl⟩, Nat.le_of_ble_eq_true rfl, Nat.le_refl _, Nat.le_refl _⟩ rfl dX12_common_6 (fun z_6 h_6 => ?_)
  have h_6 : (0 ≤ b → z_6 = b) ∧ (b < 0 → z_6 = -b) := h_6
  refine lv_istore_n (lv' := [(3, .int (J z_6)), (2, .int (J z_1)), (0, .int (J a)), (1, .int (J b))]) SS.1 SS.2.1 dX12_common_9 rfl hl (by decide) rfl (fun ls hl => ?_)
  have L_10 : ∀ (nn : Nat) (x : Int) (y : Int) (ls : Array Slot) (hl : lv_has ls 5 [(3, .int (J y)), (2, .int (J x))]) (i10_0 : 0 ≤ x ∧ x ≤ 2147483647) (i10_1 : 0 ≤ y ∧ y ≤ 2147483647) (i10_2 : Int.gcd x y = Int.gcd a b), y.toNat < nn → W pr l en (headSpec (jw yX12_common cX12_common 5 (some .int)) (jr 1 20)).room st mi (([.int (J a), .int (J b)] : List Value).toArray) below meth co st.heap [] 0 0 (MQ below (jRi (fun z => z = (Int.gcd a b : Int))) (([.int (J a), .int (J b)] : List Value).toArray) st 0 0 (fun _ => False)) (F0 mi 10 ls []) := by
    intro nn
    induction nn with
    | zero => intros; omega
    | succ nn ih_10 =>
      intro x y ls hl i10_0 i10_1 i10_2 hm
      refine lv_iload_n SS.1 SS.2.1 dX12_common_10 rfl (lv_at hl 0 rfl) ?_
      refine j_if_eq SS (tgt := 27) (x := y) dX12_common_11 (by decide) (by omega) (fun c_11 => ?_) (fun c_11 => ?_)
      · skip
        refine lv_iload_n SS.1 SS.2.1 dX12_common_27 rfl (lv_at hl 1 rfl) ?_
        exact W.iret SS.1 SS.2.1 hr (fun t ht hW => ⟨_, rfl, ⟨x, rfl, (by have := i10_2; rw [c_11] at this; rw [← this]; simp [Int.gcd]; omega)⟩, ht⟩) (fun _ h => nomatch h) dX12_common_28 hlk
      · skip
        refine lv_iload_n SS.1 SS.2.1 dX12_common_14 rfl (lv_at hl 1 rfl) ?_
        refine lv_iload_n SS.1 SS.2.1 dX12_common_15 rfl (lv_at hl 0 rfl) ?_
        refine j_irem SS (x := x) (y := y) dX12_common_16 (by omega) (by omega) (by omega) ?_
        refine lv_istore (lv' := [(4, .int (J (Int.tmod x y))), (3, .int (J y)), (2, .int (J x))]) SS.1 SS.2.1 dX12_common_17 hl (by decide) rfl (fun ls hl => ?_)
        refine lv_iload_n SS.1 SS.2.1 dX12_common_19 rfl (lv_at hl 1 rfl) ?_
        refine lv_istore_n (lv' := [(2, .int (J y)), (4, .int (J (Int.tmod x y))), (3, .int (J y))]) SS.1 SS.2.1 dX12_common_20 rfl hl (by decide) rfl (fun ls hl => ?_)
        refine lv_iload SS.1 SS.2.1 dX12_common_21 (lv_at hl 1 rfl) ?_
        refine lv_istore_n (lv' := [(3, .int (J (Int.tmod x y))), (2, .int (J y)), (4, .int (J (Int.tmod x y)))]) SS.1 SS.2.1 dX12_common_23 rfl hl (by decide) rfl (fun ls hl => ?_)
        refine lv_goto (tgt := 10) SS.1 SS.2.1 dX12_common_24 (by decide) ?_
        exact ih_10 y (Int.tmod x y) ls (lv_sub hl [0, 1] rfl) (by omega) (by have := tm_b i10_0.1 (show (0:Int) < y by omega); omega) (by rw [gcd_step i10_0.1 (by omega)]; exact i10_2) (by have := tm_b i10_0.1 (show (0:Int) < y by omega); omega)
  exact L_10 (z_6.toNat + 1) z_1 z_6 ls (lv_sub hl [0, 1] rfl) (by omega) (by omega) (by rw [show z_1 = (a.natAbs : Int) by omega, show z_6 = (b.natAbs : Int) by omega]; simp [Int.gcd]) (Nat.lt_succ_self _)

set_option maxHeartbeats 4000000 in
set_option maxRecDepth 100000 in
theorem c_X12_x (l : Launch) (D : JD) (o : Nat) (q : Nat → Nat) (u : MS) (s : Int) (i : Int) (p0 : 0 ≤ s ∧ s ≤ 7) (p1 : 0 ≤ i ∧ i ≤ 1000000) (p2 : 0 < mN u s ∧ mN u s ≤ 24) : Met l yX12_x (jw yX12_x cX12_x 3 (some .int)) (jr 0 0) (jP [.ref o, .int (J s), .int (J i)] D (fun H => va_P D.1 j_cl (mW D o q u) H)) (jRi (fun z => z = mX u s i)) 0 0 (fun _ => False) := by
  refine Met.ofW (cc := cX12_x) (maxL := 3) (ret := (some .int)) (by decide) rfl ?_
  intro pr en st mi args below meth co s₁ B hml hv
  obtain ⟨rfl, hG, hP⟩ := hv
  have hr := B.returns
  have hlk := B.notSynchronized
  have SS : jS pr mi co cX12_x 3 st _ RX12 := ⟨B.exec, B.bytes, hml, findClass_of_methodNamed B.named, fun w hw => atoms_spec (ws := (jw yX12_x cX12_x 3 (some .int))) B.pre w (List.mem_cons_of_mem _ hw)⟩
  have hl := lv_entry ([.ref o, .int (J s), .int (J i)]) (n := 3) (Nat.le_of_ble_eq_true rfl)
  rw [lg_entry_eq]
  generalize (lg_sl ([.ref o, .int (J s), .int (J i)]) ++ List.replicate (3 - (lg_sl ([.ref o, .int (J s), .int (J i)])).length) Slot.unset).toArray = ls at hl ⊢
  have hl : lv_has ls 3 [(0, .ref o), (1, .int (J s)), (2, .int (J i))] := hl
  refine lv_aload_n SS.1 SS.2.1 dX12_x_0 rfl (lv_at hl 0 rfl) ?_
  refine j_get SS hG hP 0 (v := .ref (q 1)) (C := RX12) (T := TX12) (N := 31) rfl rfl inX12 1 (by decide) (ref := RX12) kw_1059 rfl rfl dX12_x_1 ?_
  refine j_bipush SS dX12_x_4 (by decide +kernel) ?_
  refine lv_iload_n SS.1 SS.2.1 dX12_x_6 rfl (lv_at hl 1 rfl) ?_
  refine j_imul SS (x := 24) (y := s) dX12_x_7 ?_
  refine lv_iload_n SS.1 SS.2.1 dX12_x_8 rfl (lv_at hl 2 rfl) ?_
  refine lv_aload_n SS.1 SS.2.1 dX12_x_9 rfl (lv_at hl 0 rfl) ?_
  refine j_get SS hG hP 0 (v := .ref (q 0)) (C := RX12) (T := TX12) (N := 31) rfl rfl inX12 0 (by decide) (ref := RX12) kw_1058 rfl rfl dX12_x_10 ?_
  refine lv_iload_n SS.1 SS.2.1 dX12_x_13 rfl (lv_at hl 1 rfl) ?_
  refine j_iald SS hG hP 1 (n := 8) (f := (u.1 0)) rfl (z := s) (by omega) (by omega) dX12_x_14 ?_
  refine j_irem SS (x := i) (y := (mN u s)) dX12_x_15 (by omega) (by omega) (by omega) ?_
  refine j_iadd SS (x := (24 * s)) (y := (Int.tmod i (mN u s))) dX12_x_16 ?_
  refine j_iald SS hG hP 2 (n := 192) (f := (u.1 1)) rfl (z := ((24 * s) + (Int.tmod i (mN u s)))) (by have := tm_b p1.1 p2.1; omega) (by have := tm_b p1.1 p2.1; omega) dX12_x_17 ?_
  exact W.iret SS.1 SS.2.1 hr (fun t ht hW => ⟨_, rfl, ⟨((u.1 1) (((24 * s) + (Int.tmod i (mN u s)))).toNat), rfl, (rfl)⟩, ht⟩) (fun _ h => nomatch h) dX12_x_18 hlk

set_option maxHeartbeats 4000000 in
set_option maxRecDepth 100000 in
theorem c_X12_y (l : Launch) (D : JD) (o : Nat) (q : Nat → Nat) (u : MS) (s : Int) (i : Int) (p0 : 0 ≤ s ∧ s ≤ 7) (p1 : 0 ≤ i ∧ i ≤ 1000000) (p2 : 0 < mN u s ∧ mN u s ≤ 24) : Met l yX12_y (jw yX12_y cX12_y 3 (some .int)) (jr 0 0) (jP [.ref o, .int (J s), .int (J i)] D (fun H => va_P D.1 j_cl (mW D o q u) H)) (jRi (fun z => z = mY u s i)) 0 0 (fun _ => False) := by
  refine Met.ofW (cc := cX12_y) (maxL := 3) (ret := (some .int)) (by decide) rfl ?_
  intro pr en st mi args below meth co s₁ B hml hv
  obtain ⟨rfl, hG, hP⟩ := hv
  have hr := B.returns
  have hlk := B.notSynchronized
  have SS : jS pr mi co cX12_y 3 st _ RX12 := ⟨B.exec, B.bytes, hml, findClass_of_methodNamed B.named, fun w hw => atoms_spec (ws := (jw yX12_y cX12_y 3 (some .int))) B.pre w (List.mem_cons_of_mem _ hw)⟩
  have hl := lv_entry ([.ref o, .int (J s), .int (J i)]) (n := 3) (Nat.le_of_ble_eq_true rfl)
  rw [lg_entry_eq]
  generalize (lg_sl ([.ref o, .int (J s), .int (J i)]) ++ List.replicate (3 - (lg_sl ([.ref o, .int (J s), .int (J i)])).length) Slot.unset).toArray = ls at hl ⊢
  have hl : lv_has ls 3 [(0, .ref o), (1, .int (J s)), (2, .int (J i))] := hl
  refine lv_aload_n SS.1 SS.2.1 dX12_y_0 rfl (lv_at hl 0 rfl) ?_
  refine j_get SS hG hP 0 (v := .ref (q 2)) (C := RX12) (T := TX12) (N := 31) rfl rfl inX12 2 (by decide) (ref := RX12) kw_1060 rfl rfl dX12_y_1 ?_
  refine j_bipush SS dX12_y_4 (by decide +kernel) ?_
  refine lv_iload_n SS.1 SS.2.1 dX12_y_6 rfl (lv_at hl 1 rfl) ?_
  refine j_imul SS (x := 24) (y := s) dX12_y_7 ?_
  refine lv_iload_n SS.1 SS.2.1 dX12_y_8 rfl (lv_at hl 2 rfl) ?_
  refine lv_aload_n SS.1 SS.2.1 dX12_y_9 rfl (lv_at hl 0 rfl) ?_
  refine j_get SS hG hP 0 (v := .ref (q 0)) (C := RX12) (T := TX12) (N := 31) rfl rfl inX12 0 (by decide) (ref := RX12) kw_1058 rfl rfl dX12_y_10 ?_
  refine lv_iload_n SS.1 SS.2.1 dX12_y_13 rfl (lv_at hl 1 rfl) ?_
  refine j_iald SS hG hP 1 (n := 8) (f := (u.1 0)) rfl (z := s) (by omega) (by omega) dX12_y_14 ?_
  refine j_irem SS (x := i) (y := (mN u s)) dX12_y_15 (by omega) (by omega) (by omega) ?_
  refine j_iadd SS (x := (24 * s)) (y := (Int.tmod i (mN u s))) dX12_y_16 ?_
  refine j_iald SS hG hP 3 (n := 192) (f := (u.1 2)) rfl (z := ((24 * s) + (Int.tmod i (mN u s)))) (by have := tm_b p1.1 p2.1; omega) (by have := tm_b p1.1 p2.1; omega) dX12_y_17 ?_
  exact W.iret SS.1 SS.2.1 hr (fun t ht hW => ⟨_, rfl, ⟨((u.1 2) (((24 * s) + (Int.tmod i (mN u s)))).toNat), rfl, (rfl)⟩, ht⟩) (fun _ h => nomatch h) dX12_y_18 hlk

set_option maxHeartbeats 4000000 in
set_option maxRecDepth 100000 in
theorem c_X12_put (l : Launch) (D : JD) (o : Nat) (q : Nat → Nat) (u : MS) (A : Nat → Prop) (hD : va_D A (mW D o q u)) (x : Int) (y : Int) (p0 : 0 ≤ u.2.2 6 ∧ u.2.2 6 < 640) : Met l yX12_put (jw yX12_put cX12_put 3 none) (jr 0 0) (jP [.ref o, .int (J x), .int (J y)] D (fun H => va_P D.1 j_cl (mW D o q u) H)) (jWv (fun u' => ∃ f : Nat → Int, ∃ g : Nat → Int, ∃ w : Int, u' = (uV (uI (uI u 4 f) 5 g) 6 w) ∧ (f = upI (u.1 4) (u.2.2 6).toNat x ∧ g = upI (u.1 5) (u.2.2 6).toNat y ∧ w = u.2.2 6 + 1)) (fun u' H => va_P D.1 j_cl (mW D o q u') H) A) 0 0 A := by
  refine Met.ofW (cc := cX12_put) (maxL := 3) (ret := none) (by decide) rfl ?_
  intro pr en st mi args below meth co s₁ B hml hv
  obtain ⟨rfl, hG, hP⟩ := hv
  have hr := B.returns
  have hlk := B.notSynchronized
  have SS : jS pr mi co cX12_put 3 st _ RX12 := ⟨B.exec, B.bytes, hml, findClass_of_methodNamed B.named, fun w hw => atoms_spec (ws := (jw yX12_put cX12_put 3 none)) B.pre w (List.mem_cons_of_mem _ hw)⟩
  have hl := lv_entry ([.ref o, .int (J x), .int (J y)]) (n := 3) (Nat.le_of_ble_eq_true rfl)
  rw [lg_entry_eq]
  generalize (lg_sl ([.ref o, .int (J x), .int (J y)]) ++ List.replicate (3 - (lg_sl ([.ref o, .int (J x), .int (J y)])).length) Slot.unset).toArray = ls at hl ⊢
  have hl : lv_has ls 3 [(0, .ref o), (1, .int (J x)), (2, .int (J y))] := hl
  have hS : va_S A st.heap st.heap [] := va_S.rf
  refine lv_aload_n SS.1 SS.2.1 dX12_put_0 rfl (lv_at hl 0 rfl) ?_
  refine j_get SS hG hP 0 (v := .ref (q 4)) (C := RX12) (T := TX12) (N := 31) rfl rfl inX12 4 (by decide) (ref := RX12) kw_1062 rfl rfl dX12_put_1 ?_
  refine lv_aload_n SS.1 SS.2.1 dX12_put_4 rfl (lv_at hl 0 rfl) ?_
  refine j_get SS hG hP 0 (v := .int (J (u.2.2 6))) (C := RX12) (T := TX12) (N := 31) rfl rfl inX12 6 (by decide) (ref := RX12) kw_1064 rfl rfl dX12_put_5 ?_
  refine lv_iload_n SS.1 SS.2.1 dX12_put_8 rfl (lv_at hl 1 rfl) ?_
  refine j_iast SS hG hP (mW_D hD) hS 5 (n := 640) (f := (u.1 4)) rfl (z := (u.2.2 6)) (v := x) (by omega) (by omega) dX12_put_9 (ws' := (mW D o q (uI u 4 (upI (u.1 4) ((u.2.2 6)).toNat x)))) rfl (fun H locs hP hS => ?_)
  refine lv_aload_n SS.1 SS.2.1 dX12_put_10 rfl (lv_at hl 0 rfl) ?_
  refine j_get SS hG hP 0 (v := .ref (q 5)) (C := RX12) (T := TX12) (N := 31) rfl rfl inX12 5 (by decide) (ref := RX12) kw_1063 rfl rfl dX12_put_11 ?_
  refine lv_aload_n SS.1 SS.2.1 dX12_put_14 rfl (lv_at hl 0 rfl) ?_
  refine j_get SS hG hP 0 (v := .int (J (u.2.2 6))) (C := RX12) (T := TX12) (N := 31) rfl rfl inX12 6 (by decide) (ref := RX12) kw_1064 rfl rfl dX12_put_15 ?_
  refine lv_iload_n SS.1 SS.2.1 dX12_put_18 rfl (lv_at hl 2 rfl) ?_
  refine j_iast SS hG hP (mW_D hD) hS 6 (n := 640) (f := (u.1 5)) rfl (z := (u.2.2 6)) (v := y) (by omega) (by omega) dX12_put_19 (ws' := (mW D o q (uI (uI u 4 (upI (u.1 4) ((u.2.2 6)).toNat x)) 5 (upI (u.1 5) ((u.2.2 6)).toNat y)))) rfl (fun H locs hP hS => ?_)
  refine lv_aload_n SS.1 SS.2.1 dX12_put_20 rfl (lv_at hl 0 rfl) ?_
  refine lv_dup SS.1 SS.2.1 dX12_put_21 rfl ?_
  refine j_get SS hG hP 0 (v := .int (J (u.2.2 6))) (C := RX12) (T := TX12) (N := 31) rfl rfl inX12 6 (by decide) (ref := RX12) kw_1064 rfl rfl dX12_put_22 ?_
  refine j_iconst SS dX12_put_25 ?_
  refine j_iadd SS (x := (u.2.2 6)) (y := 1) dX12_put_26 ?_
  refine j_put SS hG hP (mW_D hD) hS 0 (v := .int (J ((u.2.2 6) + 1))) (ty := .int) (C := RX12) (T := TX12) (N := 31) rfl rfl inX12 tyX12 tyX12_ok nmX12 6 (by decide) (ref := RX12) kw_1064 rfl rfl (by decide +kernel) rfl rfl (Nat.le_of_ble_eq_true rfl) dX12_put_27 (ws' := (mW D o q (uV (uI (uI u 4 (upI (u.1 4) ((u.2.2 6)).toNat x)) 5 (upI (u.1 5) ((u.2.2 6)).toNat y)) 6 ((u.2.2 6) + 1)))) rfl (fun H locs hP hS => ?_)
  exact W.vret SS.1 SS.2.1 hr (fun t ht hW => ⟨⟨(uV (uI (uI u 4 (upI (u.1 4) ((u.2.2 6)).toNat x)) 5 (upI (u.1 5) ((u.2.2 6)).toNat y)) 6 ((u.2.2 6) + 1)), rfl, (⟨(upI (u.1 4) ((u.2.2 6)).toNat x), (upI (u.1 5) ((u.2.2 6)).toNat y), ((u.2.2 6) + 1), rfl, ⟨rfl, rfl, rfl⟩⟩), by show va_P D.1 j_cl (mW D o q (uV (uI (uI u 4 (upI (u.1 4) ((u.2.2 6)).toNat x)) 5 (upI (u.1 5) ((u.2.2 6)).toNat y)) 6 ((u.2.2 6) + 1))) t.heap; rw [ht]; exact hP⟩, hS.F ht⟩) hS.2.2 dX12_put_30 hlk


def lt2 (a b c d : Int) : Prop := a < c ∨ (a = c ∧ b < d)
def le2 (a b c d : Int) : Prop := a < c ∨ (a = c ∧ b ≤ d)
def bd (K : Int) (f g : Nat → Int) (n : Int) : Prop := ∀ a : Nat, (a : Int) < n → (-K ≤ f a ∧ f a ≤ K) ∧ (-K ≤ g a ∧ g a ≤ K)
theorem bd_at {K : Int} {f g : Nat → Int} {n z : Int} (h : bd K f g n) (h0 : 0 ≤ z) (h1 : z < n) : (-K ≤ f z.toNat ∧ f z.toNat ≤ K) ∧ (-K ≤ g z.toNat ∧ g z.toNat ≤ K) := h z.toNat (by omega)
theorem bd_up {K : Int} {f g : Nat → Int} {n x y : Int} {k : Nat} (h : bd K f g n) (hx : -K ≤ x ∧ x ≤ K) (hy : -K ≤ y ∧ y ≤ K) : bd K (upI f k x) (upI g k y) n := by
  intro a ha
  by_cases e : a = k
  · rw [e, upI_s, upI_s]; exact ⟨hx, hy⟩
  · rw [upI_n e, upI_n e]; exact h a ha
def os_in (f g : Nat → Int) (i j : Int) : Prop := (∀ a : Nat, (a : Int) + 1 ≤ i → (a : Int) + 1 ≠ j → le2 (f a) (g a) (f (a + 1)) (g (a + 1))) ∧ ∀ k : Nat, (k : Int) + 1 = j → j < i → le2 (f k) (g k) (f (k + 2)) (g (k + 2))
theorem os_swap {f g : Nat → Int} {i j : Int} (h0 : 0 < j) (h1 : j ≤ i) (h : os_in f g i j) (hl : lt2 (f j.toNat) (g j.toNat) (f (j - 1).toNat) (g (j - 1).toNat)) : os_in (upI (upI f j.toNat (f (j - 1).toNat)) (j - 1).toNat (f j.toNat)) (upI (upI g j.toNat (g (j - 1).toNat)) (j - 1).toNat (g j.toNat)) i (j + -1) := by
  obtain ⟨k, rfl⟩ : ∃ k : Nat, j = (k : Int) + 1 := ⟨(j - 1).toNat, by omega⟩
  rw [show ((k : Int) + 1).toNat = k + 1 by omega, show ((k : Int) + 1 - 1).toNat = k by omega] at *
  have s0 : ∀ (p : Nat → Int), upI (upI p (k + 1) (p k)) k (p (k + 1)) k = p (k + 1) := fun p => upI_s
  have s1 : ∀ (p : Nat → Int), upI (upI p (k + 1) (p k)) k (p (k + 1)) (k + 1) = p k := fun p => by rw [upI_n (by omega), upI_s]
  have s2 : ∀ (p : Nat → Int) (a : Nat), a ≠ k → a ≠ k + 1 → upI (upI p (k + 1) (p k)) k (p (k + 1)) a = p a := fun p a h1 h2 => by rw [upI_n h1, upI_n h2]
  refine ⟨fun a ha hn => ?_, fun b hb hi => ?_⟩
  · by_cases e1 : a = k
    · rw [e1, s0, s0, s1, s1]
      unfold lt2 at hl; unfold le2; omega
    · by_cases e2 : a = k + 1
      · rw [e2, s1, s1, s2 f (k + 1 + 1) (by omega) (by omega), s2 g (k + 1 + 1) (by omega) (by omega)]
        exact h.2 k rfl (by omega)
      · rw [s2 f a e1 e2, s2 g a e1 e2, s2 f (a + 1) (by omega) (by omega), s2 g (a + 1) (by omega) (by omega)]
        exact h.1 a ha (by omega)
  · rw [s2 f b (by omega) (by omega), s2 g b (by omega) (by omega), show b + 2 = k + 1 by omega, s1, s1]
    have := h.1 b (by omega) (by omega)
    rw [show b + 1 = k by omega] at this
    exact this
def os_w (f g : Nat → Int) (i : Int) : Prop := ∀ a : Nat, (a : Int) + 1 < i → le2 (f a) (g a) (f (a + 1)) (g (a + 1))
theorem os_start {f g : Nat → Int} {i : Int} (h : os_w f g i) : os_in f g i i := ⟨fun a h1 h2 => h a (by omega), fun k h1 h2 => absurd h2 (by omega)⟩
theorem os_end {f g : Nat → Int} {i j : Int} (h : os_in f g i j) (hj : j ≤ 0 ∨ (0 < j ∧ j ≤ i ∧ ¬ lt2 (f j.toNat) (g j.toNat) (f (j - 1).toNat) (g (j - 1).toNat))) : os_w f g (i + 1) := by
  intro a ha
  by_cases e : (a : Int) + 1 = j
  · rcases hj with hj | ⟨_, _, hj⟩
    · omega
    · rw [show j.toNat = a + 1 by omega, show (j - 1).toNat = a by omega] at hj
      unfold lt2 at hj; unfold le2; omega
  · exact h.1 a (by omega) e
def os_s (f g : Nat → Int) (n : Int) : Prop := ∀ a : Nat, (a : Int) + 1 < n → lt2 (f a) (g a) (f (a + 1)) (g (a + 1))
/-- the second pass: n points kept out of the first i of w -/
def os_d (f g : Nat → Int) (n i w : Int) : Prop := 0 ≤ n ∧ n ≤ i ∧ (0 < i → 0 < n) ∧ os_s f g n ∧ (∀ a : Nat, i ≤ a → (a : Int) + 1 < w → le2 (f a) (g a) (f (a + 1)) (g (a + 1))) ∧ ∀ a b : Nat, (a : Int) + 1 = n → (b : Int) = i → i < w → le2 (f a) (g a) (f b) (g b)
theorem os_d0 {f g : Nat → Int} {w : Int} (h : os_w f g w) : os_d f g 0 0 w := ⟨by omega, by omega, by omega, fun a h => absurd h (by omega), fun a _ h2 => h a h2, fun a b h => absurd h (by omega)⟩
theorem os_dskip {f g : Nat → Int} {n i w : Int} (h : os_d f g n i w) (hn : n ≠ 0) (hi : i < w) (e1 : f i.toNat = f (n - 1).toNat) (e2 : g i.toNat = g (n - 1).toNat) : os_d f g n (i + 1) w := by
  obtain ⟨h1, h2, h3, h4, h5, h6⟩ := h
  refine ⟨h1, by omega, fun _ => by omega, h4, fun a ha hw => h5 a (by omega) hw, fun a b ha hb hw => ?_⟩
  rw [show (n - 1).toNat = a by omega] at e1 e2
  rw [← e1, ← e2, show b = i.toNat + 1 by omega]
  exact h5 i.toNat (by omega) (by omega)
theorem os_dput {f g : Nat → Int} {n i w : Int} (h : os_d f g n i w) (hi : i < w) (hd : n = 0 ∨ f i.toNat ≠ f (n - 1).toNat ∨ g i.toNat ≠ g (n - 1).toNat) : os_d (upI f n.toNat (f i.toNat)) (upI g n.toNat (g i.toNat)) (n + 1) (i + 1) w := by
  obtain ⟨h1, h2, h3, h4, h5, h6⟩ := h
  refine ⟨by omega, by omega, fun _ => by omega, fun a ha => ?_, fun a ha hw => ?_, fun a b ha hb hw => ?_⟩
  · by_cases e : a + 1 = n.toNat
    · rw [← e, upI_s, upI_s, upI_n (by omega), upI_n (by omega)]
      have := h6 a i.toNat (by omega) (by omega) hi
      rw [show (n - 1).toNat = a by omega] at hd
      unfold le2 at this; unfold lt2; omega
    · rw [upI_n (by omega), upI_n (by omega), upI_n (by omega), upI_n (by omega)]
      exact h4 a (by omega)
  · rw [upI_n (by omega), upI_n (by omega), upI_n (by omega), upI_n (by omega)]
    exact h5 a (by omega) hw
  · rw [show a = n.toNat by omega, upI_s, upI_s, upI_n (by omega), upI_n (by omega), show b = i.toNat + 1 by omega]
    exact h5 i.toNat (by omega) (by omega)
theorem mulb {a b A B : Int} (ha : -A ≤ a ∧ a ≤ A) (hb : -B ≤ b ∧ b ≤ B) : -(A * B) ≤ a * b ∧ a * b ≤ A * B := by
  have h : (a * b).natAbs ≤ A.natAbs * B.natAbs := by
    rw [Int.natAbs_mul]
    exact Nat.mul_le_mul (by omega) (by omega)
  have e : ((A.natAbs * B.natAbs : Nat) : Int) = A * B := by
    rw [Int.natCast_mul, show ((A.natAbs : Nat) : Int) = A by omega, show ((B.natAbs : Nat) : Int) = B by omega]
  omega

set_option maxHeartbeats 4000000 in
set_option maxRecDepth 100000 in
theorem c_X12_isAfter (l : Launch) (D : JD) (o : Nat) (q : Nat → Nat) (u : MS) (i : Int) (j : Int) (p0 : 0 ≤ i ∧ i < 640) (p1 : 0 ≤ j ∧ j < 640) (p2 : -10000 ≤ u.1 4 i.toNat ∧ u.1 4 i.toNat ≤ 10000) (p3 : -10000 ≤ u.1 4 j.toNat ∧ u.1 4 j.toNat ≤ 10000) (p4 : -10000 ≤ u.1 5 i.toNat ∧ u.1 5 i.toNat ≤ 10000) (p5 : -10000 ≤ u.1 5 j.toNat ∧ u.1 5 j.toNat ≤ 10000) : Met l yX12_isAfter (jw yX12_isAfter cX12_isAfter 3 (some .boolean)) (jr 0 0) (jP [.ref o, .int (J i), .int (J j)] D (fun H => va_P D.1 j_cl (mW D o q u) H)) (jRi (fun z => (z = 1 ∧ lt2 (u.1 4 j.toNat) (u.1 5 j.toNat) (u.1 4 i.toNat) (u.1 5 i.toNat)) ∨ (z = 0 ∧ ¬ lt2 (u.1 4 j.toNat) (u.1 5 j.toNat) (u.1 4 i.toNat) (u.1 5 i.toNat)))) 0 0 (fun _ => False) := by
  refine Met.ofW (cc := cX12_isAfter) (maxL := 3) (ret := (some .boolean)) (by decide) rfl ?_
  intro pr en st mi args below meth co s₁ B hml hv
  obtain ⟨rfl, hG, hP⟩ := hv
  have hr := B.returns
  have hlk := B.notSynchronized
  have SS : jS pr mi co cX12_isAfter 3 st _ RX12 := ⟨B.exec, B.bytes, hml, findClass_of_methodNamed B.named, fun w hw => atoms_spec (ws := (jw yX12_isAfter cX12_isAfter 3 (some .boolean))) B.pre w (List.mem_cons_of_mem _ hw)⟩
  have hl := lv_entry ([.ref o, .int (J i), .int (J j)]) (n := 3) (Nat.le_of_ble_eq_true rfl)
  rw [lg_entry_eq]
  generalize (lg_sl ([.ref o, .int (J i), .int (J j)]) ++ List.replicate (3 - (lg_sl ([.ref o, .int (J i), .int (J j)])).length) Slot.unset).toArray = ls at hl ⊢
  have hl : lv_has ls 3 [(0, .ref o), (1, .int (J i)), (2, .int (J j))] := hl
  refine lv_aload_n SS.1 SS.2.1 dX12_isAfter_0 rfl (lv_at hl 0 rfl) ?_
  refine j_get SS hG hP 0 (v := .ref (q 4)) (C := RX12) (T := TX12) (N := 31) rfl rfl inX12 4 (by decide) (ref := RX12) kw_1062 rfl rfl dX12_isAfter_1 ?_
  refine lv_iload_n SS.1 SS.2.1 dX12_isAfter_4 rfl (lv_at hl 1 rfl) ?_
  refine j_iald SS hG hP 5 (n := 640) (f := (u.1 4)) rfl (z := i) (by omega) (by omega) dX12_isAfter_5 ?_
  refine lv_aload_n SS.1 SS.2.1 dX12_isAfter_6 rfl (lv_at hl 0 rfl) ?_
  refine j_get SS hG hP 0 (v := .ref (q 4)) (C := RX12) (T := TX12) (N := 31) rfl rfl inX12 4 (by decide) (ref := RX12) kw_1062 rfl rfl dX12_isAfter_7 ?_
  refine lv_iload_n SS.1 SS.2.1 dX12_isAfter_10 rfl (lv_at hl 2 rfl) ?_
  refine j_iald SS hG hP 5 (n := 640) (f := (u.1 4)) rfl (z := j) (by omega) (by omega) dX12_isAfter_11 ?_
  refine j_icmp_gt SS (tgt := 45) (x := ((u.1 4) (i).toNat)) (y := ((u.1 4) (j).toNat)) dX12_isAfter_12 (by decide) (by omega) (by omega) (fun c_12 => ?_) (fun c_12 => ?_)
  · skip
    refine j_iconst SS dX12_isAfter_45 ?_
    refine lv_goto (tgt := 50) SS.1 SS.2.1 dX12_isAfter_46 (by decide) ?_
    exact W.zret SS.1 SS.2.1 hr (j_nz (by decide)) (fun t ht hW => ⟨_, rfl, ⟨1, rfl, (by unfold lt2; omega)⟩, ht⟩) (fun _ h => nomatch h) dX12_isAfter_50 hlk
  · skip
    refine lv_aload_n SS.1 SS.2.1 dX12_isAfter_15 rfl (lv_at hl 0 rfl) ?_
    refine j_get SS hG hP 0 (v := .ref (q 4)) (C := RX12) (T := TX12) (N := 31) rfl rfl inX12 4 (by decide) (ref := RX12) kw_1062 rfl rfl dX12_isAfter_16 ?_
    refine lv_iload_n SS.1 SS.2.1 dX12_isAfter_19 rfl (lv_at hl 1 rfl) ?_
    refine j_iald SS hG hP 5 (n := 640) (f := (u.1 4)) rfl (z := i) (by omega) (by omega) dX12_isAfter_20 ?_
    refine lv_aload_n SS.1 SS.2.1 dX12_isAfter_21 rfl (lv_at hl 0 rfl) ?_
    refine j_get SS hG hP 0 (v := .ref (q 4)) (C := RX12) (T := TX12) (N := 31) rfl rfl inX12 4 (by decide) (ref := RX12) kw_1062 rfl rfl dX12_isAfter_22 ?_
    refine lv_iload_n SS.1 SS.2.1 dX12_isAfter_25 rfl (lv_at hl 2 rfl) ?_
    refine j_iald SS hG hP 5 (n := 640) (f := (u.1 4)) rfl (z := j) (by omega) (by omega) dX12_isAfter_26 ?_
    refine j_icmp_ne SS (tgt := 49) (x := ((u.1 4) (i).toNat)) (y := ((u.1 4) (j).toNat)) dX12_isAfter_27 (by decide) (by omega) (by omega) (fun c_27 => ?_) (fun c_27 => ?_)
    · skip
      refine j_iconst SS dX12_isAfter_49 ?_
      exact W.zret SS.1 SS.2.1 hr (j_nz (by decide)) (fun t ht hW => ⟨_, rfl, ⟨0, rfl, (by unfold lt2; omega)⟩, ht⟩) (fun _ h => nomatch h) dX12_isAfter_50 hlk
    · skip
      refine lv_aload_n SS.1 SS.2.1 dX12_isAfter_30 rfl (lv_at hl 0 rfl) ?_
      refine j_get SS hG hP 0 (v := .ref (q 5)) (C := RX12) (T := TX12) (N := 31) rfl rfl inX12 5 (by decide) (ref := RX12) kw_1063 rfl rfl dX12_isAfter_31 ?_
      refine lv_iload_n SS.1 SS.2.1 dX12_isAfter_34 rfl (lv_at hl 1 rfl) ?_
      refine j_iald SS hG hP 6 (n := 640) (f := (u.1 5)) rfl (z := i) (by omega) (by omega) dX12_isAfter_35 ?_
      refine lv_aload_n SS.1 SS.2.1 dX12_isAfter_36 rfl (lv_at hl 0 rfl) ?_
      refine j_get SS hG hP 0 (v := .ref (q 5)) (C := RX12) (T := TX12) (N := 31) rfl rfl inX12 5 (by decide) (ref := RX12) kw_1063 rfl rfl dX12_isAfter_37 ?_
      refine lv_iload_n SS.1 SS.2.1 dX12_isAfter_40 rfl (lv_at hl 2 rfl) ?_
      refine j_iald SS hG hP 6 (n := 640) (f := (u.1 5)) rfl (z := j) (by omega) (by omega) dX12_isAfter_41 ?_
      refine j_icmp_le SS (tgt := 49) (x := ((u.1 5) (i).toNat)) (y := ((u.1 5) (j).toNat)) dX12_isAfter_42 (by decide) (by omega) (by omega) (fun c_42 => ?_) (fun c_42 => ?_)
      · skip
        refine j_iconst SS dX12_isAfter_49 ?_
        exact W.zret SS.1 SS.2.1 hr (j_nz (by decide)) (fun t ht hW => ⟨_, rfl, ⟨0, rfl, (by unfold lt2; omega)⟩, ht⟩) (fun _ h => nomatch h) dX12_isAfter_50 hlk
      · skip
        refine j_iconst SS dX12_isAfter_45 ?_
        refine lv_goto (tgt := 50) SS.1 SS.2.1 dX12_isAfter_46 (by decide) ?_
        exact W.zret SS.1 SS.2.1 hr (j_nz (by decide)) (fun t ht hW => ⟨_, rfl, ⟨1, rfl, (by unfold lt2; omega)⟩, ht⟩) (fun _ h => nomatch h) dX12_isAfter_50 hlk


def tn (X Y : Nat → Int) (i j k : Nat) : Int := (X j - X i) * (Y k - Y i) - (Y j - Y i) * (X k - X i)
/-- left turns in the places from b to n -/
def lft (X Y : Nat → Int) (b n : Int) : Prop := ∀ a : Nat, b ≤ a → (a : Int) + 2 < n → 0 < tn X Y a (a + 1) (a + 2)
theorem tn_cong {X Y X' Y' : Nat → Int} {i j k : Nat} (h1 : X' i = X i) (h2 : X' j = X j) (h3 : X' k = X k) (h4 : Y' i = Y i) (h5 : Y' j = Y j) (h6 : Y' k = Y k) : tn X' Y' i j k = tn X Y i j k := by
  unfold tn; rw [h1, h2, h3, h4, h5, h6]
theorem lft_put {X Y : Nat → Int} {b n x y : Int} (hb : 0 ≤ b) (hn : b ≤ n) (h : lft X Y b n) (ht : n - b ≤ 1 ∨ 0 < (X (n - 1).toNat - X (n - 2).toNat) * (y - Y (n - 2).toNat) - (Y (n - 1).toNat - Y (n - 2).toNat) * (x - X (n - 2).toNat)) : lft (upI X n.toNat x) (upI Y n.toNat y) b (n + 1) := by
  intro a ha hn2
  by_cases e : (a : Int) + 2 = n
  · rcases ht with ht | ht
    · omega
    · unfold tn
      rw [show a + 2 = n.toNat by omega, upI_s, upI_s, upI_n (by omega), upI_n (by omega), upI_n (by omega), upI_n (by omega)]
      rw [show (n - 1).toNat = a + 1 by omega, show (n - 2).toNat = a by omega] at ht
      exact ht
  · rw [tn_cong (upI_n (by omega)) (upI_n (by omega)) (upI_n (by omega)) (upI_n (by omega)) (upI_n (by omega)) (upI_n (by omega))]
    exact h a ha (by omega)
theorem lft_le {X Y : Nat → Int} {b n m : Int} (h : lft X Y b n) (hm : m ≤ n) : lft X Y b m := fun a h1 h2 => h a h1 (by omega)
theorem bd_le {K : Int} {f g : Nat → Int} {n m : Int} (h : bd K f g n) (hm : m ≤ n) : bd K f g m := fun a ha => h a (by omega)
theorem bd_put {K : Int} {f g : Nat → Int} {n x y : Int} (h0 : 0 ≤ n) (h : bd K f g n) (hx : -K ≤ x ∧ x ≤ K) (hy : -K ≤ y ∧ y ≤ K) : bd K (upI f n.toNat x) (upI g n.toNat y) (n + 1) := by
  intro a ha
  by_cases e : a = n.toNat
  · rw [e, upI_s, upI_s]; exact ⟨hx, hy⟩
  · rw [upI_n e, upI_n e]; exact h a (by omega)
theorem bd_K {K L : Int} {f g : Nat → Int} {n : Int} (h : bd K f g n) (hL : K ≤ L) : bd L f g n := fun a ha => by have := h a ha; omega

/-- the hull as found: closed (the place n holds the first point again), lower chain to t, upper chain from t on -/
def Ch (n : Int) (X Y : Nat → Int) : Prop := n ≤ 1 ∨ ∃ t : Nat, 1 ≤ t ∧ (t : Int) < n ∧ (∀ a : Nat, a < t → lt2 (X a) (Y a) (X (a + 1)) (Y (a + 1))) ∧ lft X Y 0 ((t : Int) + 1) ∧ (∀ a : Nat, t ≤ a → (a : Int) < n → lt2 (X (a + 1)) (Y (a + 1)) (X a) (Y a)) ∧ lft X Y t (n + 1) ∧ X n.toNat = X 0 ∧ Y n.toNat = Y 0
theorem lt2_t {a b c d e f : Int} (h : lt2 a b c d) (h2 : lt2 c d e f) : lt2 a b e f := by unfold lt2 at *; omega
theorem os_lt {f g : Nat → Int} {n : Int} (h : os_s f g n) : ∀ (k a : Nat), (a : Int) + k + 1 < n → lt2 (f a) (g a) (f (a + k + 1)) (g (a + k + 1)) := by
  intro k
  induction k with
  | zero => intro a ha; exact h a (by omega)
  | succ k ih => intro a ha; exact lt2_t (ih a (by omega)) (h (a + k + 1) (by omega))
/-- the lower chain on its way: h points of the first i -/
def fl (f g X Y : Nat → Int) (i h : Int) : Prop := 0 ≤ h ∧ h ≤ i ∧ (0 < i → 0 < h ∧ X 0 = f 0 ∧ Y 0 = g 0 ∧ X (h - 1).toNat = f (i - 1).toNat ∧ Y (h - 1).toNat = g (i - 1).toNat) ∧ (1 < i → 1 < h) ∧ lft X Y 0 h ∧ os_s X Y h ∧ ∀ K : Int, bd K f g i → bd K X Y h
theorem fl_0 {f g X Y : Nat → Int} : fl f g X Y 0 0 := ⟨by omega, by omega, by omega, by omega, fun a _ h => by omega, fun a h => by omega, fun K _ a h => by omega⟩
theorem fl_s {f g X Y : Nat → Int} {i h v n : Int} (hs : os_s f g n) (hi : 0 ≤ i) (hn : i < n) (H : fl f g X Y i h) (h1 : 0 ≤ v) (h2 : v ≤ h) (h3 : 0 < h → 0 < v) (hl : lft (upI X v.toNat (f i.toNat)) (upI Y v.toNat (g i.toNat)) 0 (v + 1)) : fl f g (upI X v.toNat (f i.toNat)) (upI Y v.toNat (g i.toNat)) (i + 1) (v + 1) := by
  obtain ⟨a1, a2, a3, a4, a5, a6, a7⟩ := H
  refine ⟨by omega, by omega, fun _ => ?_, fun hi2 => ?_, hl, fun a ha => ?_, fun K hK => ?_⟩
  · rw [show v + 1 - 1 = v by omega, show i + 1 - 1 = i by omega, upI_s, upI_s]
    refine ⟨by omega, ?_, ?_, rfl, rfl⟩
    · by_cases e : v = 0
      · subst e; rw [show (0 : Int).toNat = 0 from rfl, upI_s]; rw [show i = 0 by omega]; rfl
      · rw [upI_n (by omega)]; exact (a3 (by omega)).2.1
    · by_cases e : v = 0
      · subst e; rw [show (0 : Int).toNat = 0 from rfl, upI_s]; rw [show i = 0 by omega]; rfl
      · rw [upI_n (by omega)]; exact (a3 (by omega)).2.2.1
  · have := a3 (by omega); omega
  · by_cases e : (a : Int) + 1 = v
    · rw [show a + 1 = v.toNat by omega, upI_s, upI_s, upI_n (by omega), upI_n (by omega)]
      have hi1 : 0 < i := by omega
      obtain ⟨_, _, _, e1, e2⟩ := a3 hi1
      have hlast : lt2 (f (i - 1).toNat) (g (i - 1).toNat) (f i.toNat) (g i.toNat) := by
        have := hs (i - 1).toNat (by omega)
        rw [show (i - 1).toNat + 1 = i.toNat by omega] at this; exact this
      by_cases e3 : v = h
      · rw [show a = (h - 1).toNat by omega, e1, e2]; exact hlast
      · have := os_lt a6 ((h - 1).toNat - a - 1) a (by omega)
        rw [show a + ((h - 1).toNat - a - 1) + 1 = (h - 1).toNat by omega, e1, e2] at this
        exact lt2_t this hlast
    · rw [upI_n (by omega), upI_n (by omega), upI_n (by omega), upI_n (by omega)]
      exact a6 a (by omega)
  · have hk := hK i.toNat (by omega)
    exact bd_put h1 (bd_le (a7 K (bd_le hK (by omega))) h2) hk.1 hk.2
/-- the upper chain on its way, from the place t on; the point i comes next -/
def fu (f g FX FY X Y : Nat → Int) (t w i h : Int) : Prop := t + 1 ≤ h ∧ h ≤ t + w - i - 1 ∧ (i + 2 < w → t + 2 ≤ h) ∧ (∀ a : Nat, (a : Int) ≤ t → X a = FX a ∧ Y a = FY a) ∧ (X (h - 1).toNat = f (i + 1).toNat ∧ Y (h - 1).toNat = g (i + 1).toNat) ∧ lft X Y t h ∧ (∀ a : Nat, t ≤ a → (a : Int) + 1 < h → lt2 (X (a + 1)) (Y (a + 1)) (X a) (Y a)) ∧ ∀ K : Int, bd K f g w → bd K X Y h
theorem dec_lt {X Y : Nat → Int} {t h : Int} (H : ∀ a : Nat, t ≤ a → (a : Int) + 1 < h → lt2 (X (a + 1)) (Y (a + 1)) (X a) (Y a)) : ∀ (k a : Nat), t ≤ a → (a : Int) + k + 1 < h → lt2 (X (a + k + 1)) (Y (a + k + 1)) (X a) (Y a) := by
  intro k
  induction k with
  | zero => intro a ha hh; exact H a ha (by omega)
  | succ k ih => intro a ha hh; exact lt2_t (H (a + k + 1) (by omega) (by omega)) (ih a ha (by omega))
theorem fu_0 {f g FX FY : Nat → Int} {w h : Int} (hw : 1 ≤ w) (H : fl f g FX FY w h) : fu f g FX FY FX FY (h - 1) w (w - 2) h := by
  obtain ⟨a1, a2, a3, a4, a5, a6, a7⟩ := H
  obtain ⟨b1, b2, b3, b4, b5⟩ := a3 (by omega)
  refine ⟨by omega, by omega, by omega, fun a _ => ⟨rfl, rfl⟩, ⟨?_, ?_⟩, fun a h1 h2 => by omega, fun a h1 h2 => by omega, a7⟩
  · rw [show w - 2 + 1 = w - 1 by omega]; exact b4
  · rw [show w - 2 + 1 = w - 1 by omega]; exact b5
theorem fu_s {f g FX FY X Y : Nat → Int} {t w i h v : Int} (ht : 0 ≤ t) (hs : os_s f g w) (hi : 0 ≤ i) (hw : i + 1 < w) (H : fu f g FX FY X Y t w i h) (h1 : t ≤ v) (h2 : v ≤ h) (h3 : t < v) (hl : lft (upI X v.toNat (f i.toNat)) (upI Y v.toNat (g i.toNat)) t (v + 1)) : fu f g FX FY (upI X v.toNat (f i.toNat)) (upI Y v.toNat (g i.toNat)) t w (i + -1) (v + 1) := by
  obtain ⟨a1, a2, a3, a4, ⟨a5, a6⟩, a7, a8, a9⟩ := H
  refine ⟨by omega, by omega, by omega, fun a ha => ?_, ⟨?_, ?_⟩, hl, fun a ha hh => ?_, fun K hK => ?_⟩
  · rw [upI_n (by omega), upI_n (by omega)]; exact a4 a ha
  · rw [show v + 1 - 1 = v by omega, show i + -1 + 1 = i by omega, upI_s]
  · rw [show v + 1 - 1 = v by omega, show i + -1 + 1 = i by omega, upI_s]
  · by_cases e : (a : Int) + 1 = v
    · rw [show a + 1 = v.toNat by omega, upI_s, upI_s, upI_n (by omega), upI_n (by omega)]
      have hlast : lt2 (f i.toNat) (g i.toNat) (f (i + 1).toNat) (g (i + 1).toNat) := by
        have := hs i.toNat (by omega)
        rw [show i.toNat + 1 = (i + 1).toNat by omega] at this; exact this
      by_cases e3 : v = h
      · rw [show a = (h - 1).toNat by omega, a5, a6]; exact hlast
      · have := dec_lt a8 ((h - 1).toNat - a - 1) a ha (by omega)
        rw [show a + ((h - 1).toNat - a - 1) + 1 = (h - 1).toNat by omega, a5, a6] at this
        exact lt2_t hlast this
    · rw [upI_n (by omega), upI_n (by omega), upI_n (by omega), upI_n (by omega)]
      exact a8 a ha (by omega)
  · have hk := hK i.toNat (by omega)
    exact bd_put (by omega) (bd_le (a9 K hK) h2) hk.1 hk.2
theorem lft_cong {X Y X' Y' : Nat → Int} {b n : Int} (h : lft X Y b n) (e : ∀ a : Nat, (a : Int) < n → X' a = X a ∧ Y' a = Y a) : lft X' Y' b n := fun a h1 h2 => by
  rw [tn_cong (e a (by omega)).1 (e (a + 1) (by omega)).1 (e (a + 2) (by omega)).1 (e a (by omega)).2 (e (a + 1) (by omega)).2 (e (a + 2) (by omega)).2]
  exact h a h1 h2
theorem fu_e {f g FX FY X Y : Nat → Int} {w h0 i h : Int} (hw : 1 < w) (H0 : fl f g FX FY w h0) (hi : i = -1) (H : fu f g FX FY X Y (h0 - 1) w i h) : Ch (h - 1) X Y := by
  obtain ⟨a1, a2, a3, a4, ⟨a5, a6⟩, a7, a8, a9⟩ := H
  obtain ⟨b1, b2, b3, b4, b5, b6, b7⟩ := H0
  have b4 := b4 hw
  obtain ⟨c1, c2, c3, c4, c5⟩ := b3 (by omega)
  have a3 := a3 (by omega)
  have e0 : ∀ a : Nat, (a : Int) < h0 → X a = FX a ∧ Y a = FY a := fun a ha => a4 a (by omega)
  subst hi
  refine Or.inr ⟨(h0 - 1).toNat, by omega, by omega, fun a ha => ?_, ?_, fun a h1 h2 => a8 a (by omega) (by omega), ?_, ?_, ?_⟩
  · rw [(e0 a (by omega)).1, (e0 a (by omega)).2, (e0 (a + 1) (by omega)).1, (e0 (a + 1) (by omega)).2]
    exact b6 a (by omega)
  · rw [show (((h0 - 1).toNat : Nat) : Int) + 1 = h0 by omega]
    exact lft_cong b5 e0
  · rw [show (((h0 - 1).toNat : Nat) : Int) = h0 - 1 by omega, show h - 1 + 1 = h by omega]
    exact a7
  · rw [a5, (e0 0 (by omega)).1, c2]; rfl
  · rw [a6, (e0 0 (by omega)).2, c3]; rfl


theorem bd_step {K : Int} {f g : Nat → Int} {i : Int} (h0 : 0 ≤ i) : bd K f g (i + 1) ↔ bd K f g i ∧ (-K ≤ f i.toNat ∧ f i.toNat ≤ K) ∧ (-K ≤ g i.toNat ∧ g i.toNat ≤ K) := by
  constructor
  · intro h; exact ⟨bd_le h (by omega), h i.toNat (by omega)⟩
  · intro h a ha
    by_cases e : (a : Int) < i
    · exact h.1 a e
    · rw [show a = i.toNat by omega]; exact h.2
def tk_ok (b K : Int) (f g : Nat → Int) (n i : Int) : Prop := n ≤ 24 ∧ (b = 1 → bd K f g i)
theorem tk_0 {b K : Int} {f g : Nat → Int} {n : Int} : tk_ok b K f g n 0 ↔ n ≤ 24 := ⟨fun h => h.1, fun h => ⟨h, fun _ a ha => by omega⟩⟩
theorem tk_s {b : Int} {f g : Nat → Int} {n i : Int} (h0 : 0 ≤ i) : tk_ok b 40 f g n (i + 1) ↔ tk_ok b 40 f g n i ∧ (b = 1 → (-40 ≤ f i.toNat ∧ f i.toNat ≤ 40) ∧ (-40 ≤ g i.toNat ∧ g i.toNat ≤ 40)) := by
  unfold tk_ok
  rw [bd_step h0]
  constructor
  · intro h; exact ⟨⟨h.1, fun q => (h.2 q).1⟩, fun q => (h.2 q).2⟩
  · intro h; exact ⟨h.1.1, fun q => ⟨h.1.2 q, h.2 q⟩⟩
/-- the corners as written so far -/
def cw_ (X Y f1 f2 o1 o2 : Nat → Int) (s i : Int) : Prop := (∀ a : Nat, (a : Int) < i → f1 (24 * s + a).toNat = X a ∧ f2 (24 * s + a).toNat = Y a) ∧ ∀ k : Nat, ((k : Int) < 24 * s ∨ 24 * s + i ≤ k) → f1 k = o1 k ∧ f2 k = o2 k
theorem cw_0 {X Y o1 o2 : Nat → Int} {s : Int} : cw_ X Y o1 o2 o1 o2 s 0 := ⟨fun a h => by omega, fun k _ => ⟨rfl, rfl⟩⟩
theorem cw_s {X Y f1 f2 o1 o2 : Nat → Int} {s i : Int} (hs : 0 ≤ s) (hi : 0 ≤ i) (h : cw_ X Y f1 f2 o1 o2 s i) : cw_ X Y (upI f1 (24 * s + i).toNat (X i.toNat)) (upI f2 (24 * s + i).toNat (Y i.toNat)) o1 o2 s (i + 1) := by
  refine ⟨fun a ha => ?_, fun k hk => ?_⟩
  · by_cases e : (a : Int) = i
    · subst e
      rw [upI_s, upI_s]; exact ⟨rfl, rfl⟩
    · rw [upI_n (by omega), upI_n (by omega)]; exact h.1 a (by omega)
  · rw [upI_n (by omega), upI_n (by omega)]; exact h.2 k (by omega)
theorem Ch_cong {n : Int} {X Y X' Y' : Nat → Int} (h : Ch n X Y) (e : ∀ a : Nat, (a : Int) ≤ n → X' a = X a ∧ Y' a = Y a) : Ch n X' Y' := by
  rcases h with h | ⟨t, h1, h2, h3, h4, h5, h6, h7, h8⟩
  · exact Or.inl h
  · refine Or.inr ⟨t, h1, h2, fun a ha => ?_, lft_cong h4 (fun a ha => e a (by omega)), fun a ha hb => ?_, lft_cong h6 (fun a ha => e a (by omega)), ?_, ?_⟩
    · rw [(e a (by omega)).1, (e a (by omega)).2, (e (a + 1) (by omega)).1, (e (a + 1) (by omega)).2]; exact h3 a ha
    · rw [(e a (by omega)).1, (e a (by omega)).2, (e (a + 1) (by omega)).1, (e (a + 1) (by omega)).2]; exact h5 a ha hb
    · rw [(e n.toNat (by omega)).1, (e 0 (by omega)).1]; exact h7
    · rw [(e n.toNat (by omega)).2, (e 0 (by omega)).2]; exact h8
def Sh (u : MS) (s : Int) : Prop := (0 ≤ mN u s ∧ mN u s ≤ 24) ∧ (0 < mN u s → ∀ i : Int, 0 ≤ i → (-40 ≤ mX u s i ∧ mX u s i ≤ 40) ∧ (-40 ≤ mY u s i ∧ mY u s i ≤ 40)) ∧ Ch (mN u s) (fun a => mX u s a) (fun a => mY u s a)
def SHs (u : MS) : Prop := ∀ s : Int, 0 ≤ s → s ≤ 7 → Sh u s
def HB (f : Nat → Int) : Prop := ∀ k : Nat, -1000 ≤ f k ∧ f k ≤ 1000
def IM (u : MS) : Prop := SHs u ∧ HB (u.1 3) ∧ bd 40 (u.1 10) (u.1 11) 6561
def hz_ (o f : Nat → Int) (s i : Int) : Prop := ∀ k : Nat, (40 * s ≤ k ∧ (k : Int) < 40 * s + i → f k = 0) ∧ (¬ (40 * s ≤ k ∧ (k : Int) < 40 * s + i) → f k = o k)
theorem hz_0 {o : Nat → Int} {s : Int} : hz_ o o s 0 := fun k => ⟨fun h => by omega, fun _ => rfl⟩
theorem hz_s {o f : Nat → Int} {s i : Int} (hs : 0 ≤ s) (hi : 0 ≤ i) (h : hz_ o f s i) : hz_ o (upI f (40 * s + i).toNat 0) s (i + 1) := by
  intro k
  by_cases e : (k : Int) = 40 * s + i
  · rw [show k = (40 * s + i).toNat by omega, upI_s]
    exact ⟨fun _ => rfl, fun q => by omega⟩
  · rw [upI_n (by omega)]
    exact ⟨fun q => (h k).1 (by omega), fun q => (h k).2 (by omega)⟩
/-- a shape made anew -/
def tk_new (u : MS) (f0 f1 f2 f3 : Nat → Int) (s : Int) : Prop := f0 = upI (u.1 0) s.toNat (u.2.2 9) ∧ cw_ (u.1 7) (u.1 8) f1 f2 (u.1 1) (u.1 2) s (u.2.2 9) ∧ hz_ (u.1 3) f3 s 40
theorem IM_new {u : MS} {f0 f1 f2 f3 : Nat → Int} {s : Int} (hI : IM u) (h0 : 0 ≤ s) (h7 : s ≤ 7) (hn : 0 ≤ u.2.2 9 ∧ u.2.2 9 ≤ 24) (hb : bd 40 (u.1 7) (u.1 8) (u.2.2 9)) (hc : Ch (u.2.2 9) (u.1 7) (u.1 8)) (h : tk_new u f0 f1 f2 f3 s) : IM (uI (uI (uI (uI u 0 f0) 1 f1) 2 f2) 3 f3) := by
  obtain ⟨e0, ⟨c1, c2⟩, hz⟩ := h
  refine ⟨?_, fun k => ?_, hI.2.2⟩
  rotate_left
  · show -1000 ≤ f3 k ∧ f3 k ≤ 1000
    have a := hI.2.1 k
    by_cases e : 40 * s ≤ k ∧ (k : Int) < 40 * s + 40
    · rw [(hz k).1 e]; omega
    · rw [(hz k).2 e]; exact a
  have hI := hI.1
  intro s' g0 g7
  have eN : mN (uI (uI (uI (uI u 0 f0) 1 f1) 2 f2) 3 f3) s' = f0 s'.toNat := rfl
  have eX : ∀ i, mX (uI (uI (uI (uI u 0 f0) 1 f1) 2 f2) 3 f3) s' i = f1 (24 * s' + i.tmod (f0 s'.toNat)).toNat := fun _ => rfl
  have eY : ∀ i, mY (uI (uI (uI (uI u 0 f0) 1 f1) 2 f2) 3 f3) s' i = f2 (24 * s' + i.tmod (f0 s'.toNat)).toNat := fun _ => rfl
  by_cases e : s' = s
  · subst e
    have eh : f0 s'.toNat = u.2.2 9 := by rw [e0, upI_s]
    have key : 0 < u.2.2 9 → ∀ i : Int, 0 ≤ i → mX (uI (uI (uI (uI u 0 f0) 1 f1) 2 f2) 3 f3) s' i = u.1 7 (i.tmod (u.2.2 9)).toNat ∧ mY (uI (uI (uI (uI u 0 f0) 1 f1) 2 f2) 3 f3) s' i = u.1 8 (i.tmod (u.2.2 9)).toNat := by
      intro hp i hi
      have q := tm_b hi hp
      have r := c1 (i.tmod (u.2.2 9)).toNat (by omega)
      rw [show (((i.tmod (u.2.2 9)).toNat : Nat) : Int) = i.tmod (u.2.2 9) by omega] at r
      rw [eX, eY, eh]; exact r
    refine ⟨by rw [eN, eh]; exact hn, fun hp i hi => ?_, ?_⟩
    · rw [eN, eh] at hp
      obtain ⟨k1, k2⟩ := key hp i hi
      have q := tm_b hi hp
      rw [k1, k2]; exact hb _ (by omega)
    · rw [eN, eh]
      by_cases hp : 1 < u.2.2 9
      · refine Ch_cong hc (fun a ha => ?_)
        obtain ⟨k1, k2⟩ := key (by omega) a (by omega)
        show mX _ _ _ = _ ∧ mY _ _ _ = _
        rw [k1, k2]
        by_cases ea : (a : Int) = u.2.2 9
        · rcases hc with hc | ⟨t, _, _, _, _, _, _, g1, g2⟩
          · omega
          · rw [← ea, Int.tmod_self]
            rw [← ea] at g1 g2
            rw [show ((a : Int)).toNat = a from rfl] at g1 g2
            exact ⟨g1.symm, g2.symm⟩
        · rw [Int.tmod_eq_of_lt (by omega) (by omega)]; exact ⟨rfl, rfl⟩
      · exact Or.inl (by omega)
  · obtain ⟨a1, a2, a3⟩ := hI s' g0 g7
    have eh : f0 s'.toNat = mN u s' := by rw [e0, upI_n (by omega)]
    have key : 0 < mN u s' → ∀ i : Int, 0 ≤ i → mX (uI (uI (uI (uI u 0 f0) 1 f1) 2 f2) 3 f3) s' i = mX u s' i ∧ mY (uI (uI (uI (uI u 0 f0) 1 f1) 2 f2) 3 f3) s' i = mY u s' i := by
      intro hp i hi
      have q := tm_b hi hp
      have r := c2 (24 * s' + i.tmod (mN u s')).toNat (by omega)
      rw [eX, eY, eh]; exact r
    refine ⟨by rw [eN, eh]; exact a1, fun hp i hi => ?_, ?_⟩
    · rw [eN, eh] at hp
      rw [(key hp i hi).1, (key hp i hi).2]; exact a2 hp i hi
    · rw [eN, eh]
      by_cases hp : 0 < mN u s'
      · exact Ch_cong a3 (fun a ha => key hp a (by omega))
      · exact Or.inl (by omega)

set_option maxHeartbeats 4000000 in
set_option maxRecDepth 100000 in
theorem c_X12_take (l : Launch) (D : JD) (o : Nat) (q : Nat → Nat) (u : MS) (A : Nat → Prop) (hD : va_D A (mW D o q u)) (s : Int) (b : Int) (p0 : 0 ≤ s ∧ s ≤ 7) (p1 : b = 0 ∨ b = 1) (p2 : 0 ≤ u.2.2 9 ∧ u.2.2 9 ≤ 1290) (p3 : bd 10000 (u.1 7) (u.1 8) (u.2.2 9)) : Met l yX12_take (jw yX12_take cX12_take 5 (some .int)) (jr 2 43) (jP [.ref o, .int (J s), .int (J b)] D (fun H => va_P D.1 j_cl (mW D o q u) H)) (jWi (fun z u' => ∃ f0 : Nat → Int, ∃ f1 : Nat → Int, ∃ f2 : Nat → Int, ∃ f3 : Nat → Int, u' = (uI (uI (uI (uI u 0 f0) 1 f1) 2 f2) 3 f3) ∧ ((z = -3 ∧ ¬ tk_ok b 40 (u.1 7) (u.1 8) (u.2.2 9) (u.2.2 9) ∧ f0 = u.1 0 ∧ f1 = u.1 1 ∧ f2 = u.1 2 ∧ f3 = u.1 3) ∨ (z = u.2.2 9 ∧ tk_ok b 40 (u.1 7) (u.1 8) (u.2.2 9) (u.2.2 9) ∧ tk_new u f0 f1 f2 f3 s))) (fun u' H => va_P D.1 j_cl (mW D o q u') H) A) 0 0 A := by
  refine Met.ofW (cc := cX12_take) (maxL := 5) (ret := (some .int)) (by decide) rfl ?_
  intro pr en st mi args below meth co s₁ B hml hv
  obtain ⟨rfl, hG, hP⟩ := hv
  have hr := B.returns
  have hlk := B.notSynchronized
  have SS : jS pr mi co cX12_take 5 st _ RX12 := ⟨B.exec, B.bytes, hml, findClass_of_methodNamed B.named, fun w hw => atoms_spec (ws := (jw yX12_take cX12_take 5 (some .int))) B.pre w (List.mem_cons_of_mem _ hw)⟩
  have hl := lv_entry ([.ref o, .int (J s), .int (J b)]) (n := 5) (Nat.le_of_ble_eq_true rfl)
  rw [lg_entry_eq]
  generalize (lg_sl ([.ref o, .int (J s), .int (J b)]) ++ List.replicate (5 - (lg_sl ([.ref o, .int (J s), .int (J b)])).length) Slot.unset).toArray = ls at hl ⊢
  have hl : lv_has ls 5 [(0, .ref o), (1, .int (J s)), (2, .int (J b))] := hl
  have hS : va_S A st.heap st.heap [] := va_S.rf
  refine lv_aload_n SS.1 SS.2.1 dX12_take_0 rfl (lv_at hl 0 rfl) ?_
  refine j_get SS hG hP 0 (v := .int (J (u.2.2 9))) (C := RX12) (T := TX12) (N := 31) rfl rfl inX12 9 (by decide) (ref := RX12) kw_1067 rfl rfl dX12_take_1 ?_
  refine j_bipush SS dX12_take_4 (by decide +kernel) ?_
  refine j_icmp_gt SS (tgt := 13) (x := (u.2.2 9)) (y := 24) dX12_take_6 (by decide) (by omega) (by decide) (fun c_6 => ?_) (fun c_6 => ?_)
  · skip
    refine j_iconst SS dX12_take_13 ?_
    refine lv_istore_n (lv' := [(3, .int (J 0)), (0, .ref o), (1, .int (J s)), (2, .int (J b))]) SS.1 SS.2.1 dX12_take_14 rfl hl (by decide) rfl (fun ls hl => ?_)
    refine j_iconst SS dX12_take_15 ?_
    refine lv_istore (lv' := [(4, .int (J 0)), (3, .int (J 0)), (0, .ref o), (1, .int (J s)), (2, .int (J b))]) SS.1 SS.2.1 dX12_take_16 hl (by decide) rfl (fun ls hl => ?_)
    have L_18 : ∀ (nn : Nat) (w : Int) (i : Int) (H : Heap) (locs : List Loc) (hP : va_P D.1 j_cl (mW D o q u) H) (hS : va_S A st.heap H locs) (ls : Array Slot) (hl : lv_has ls 5 [(0, .ref o), (1, .int (J s)), (2, .int (J b)), (3, .int (J w)), (4, .int (J i))]) (i18_0 : 0 ≤ i ∧ i ≤ u.2.2 9) (i18_1 : (w = 1 ∧ tk_ok b 40 (u.1 7) (u.1 8) (u.2.2 9) i) ∨ (w = 0 ∧ ¬ tk_ok b 40 (u.1 7) (u.1 8) (u.2.2 9) i)), (u.2.2 9 - i).toNat < nn → W pr l en (headSpec (jw yX12_take cX12_take 5 (some .int)) (jr 2 43)).room st mi (([.ref o, .int (J s), .int (J b)] : List Value).toArray) below meth co H locs 0 0 (MQ below (jWi (fun z u' => ∃ f0 : Nat → Int, ∃ f1 : Nat → Int, ∃ f2 : Nat → Int, ∃ f3 : Nat → Int, u' = (uI (uI (uI (uI u 0 f0) 1 f1) 2 f2) 3 f3) ∧ ((z = -3 ∧ ¬ tk_ok b 40 (u.1 7) (u.1 8) (u.2.2 9) (u.2.2 9) ∧ f0 = u.1 0 ∧ f1 = u.1 1 ∧ f2 = u.1 2 ∧ f3 = u.1 3) ∨ (z = u.2.2 9 ∧ tk_ok b 40 (u.1 7) (u.1 8) (u.2.2 9) (u.2.2 9) ∧ tk_new u f0 f1 f2 f3 s))) (fun u' H => va_P D.1 j_cl (mW D o q u') H) A) (([.ref o, .int (J s), .int (J b)] : List Value).toArray) st 0 0 A) (F0 mi 18 ls []) := by
      intro nn
      induction nn with
      | zero => intros; omega
      | succ nn ih_18 =>
        intro w i  H locs hP hS ls hl i18_0 i18_1 hm
        refine lv_iload SS.1 SS.2.1 dX12_take_18 (lv_at hl 4 rfl) ?_
        refine lv_aload_n SS.1 SS.2.1 dX12_take_20 rfl (lv_at hl 0 rfl) ?_
        refine j_get SS hG hP 0 (v := .int (J (u.2.2 9))) (C := RX12) (T := TX12) (N := 31) rfl rfl inX12 9 (by decide) (ref := RX12) kw_1067 rfl rfl dX12_take_21 ?_
        refine j_icmp_ge SS (tgt := 67) (x := i) (y := (u.2.2 9)) dX12_take_24 (by decide) (by omega) (by omega) (fun c_24 => ?_) (fun c_24 => ?_)
        · skip
          refine lv_iload_n SS.1 SS.2.1 dX12_take_67 rfl (lv_at hl 3 rfl) ?_
          refine j_if_ne SS (tgt := 74) (x := w) dX12_take_68 (by decide) (by omega) (fun c_68 => ?_) (fun c_68 => ?_)
          · skip
            have hok : w = 1 ∧ tk_ok b 40 (u.1 7) (u.1 8) (u.2.2 9) i := by rcases i18_1 with k | k; exact k; omega
            have h24 := hok.2.1
            have ei : i = u.2.2 9 := by omega
            rw [ei] at hok
            refine lv_aload_n SS.1 SS.2.1 dX12_take_74 rfl (lv_at hl 0 rfl) ?_
            refine j_get SS hG hP 0 (v := .ref (q 0)) (C := RX12) (T := TX12) (N := 31) rfl rfl inX12 0 (by decide) (ref := RX12) kw_1058 rfl rfl dX12_take_75 ?_
            refine lv_iload_n SS.1 SS.2.1 dX12_take_78 rfl (lv_at hl 1 rfl) ?_
            refine lv_aload_n SS.1 SS.2.1 dX12_take_79 rfl (lv_at hl 0 rfl) ?_
            refine j_get SS hG hP 0 (v := .int (J (u.2.2 9))) (C := RX12) (T := TX12) (N := 31) rfl rfl inX12 9 (by decide) (ref := RX12) kw_1067 rfl rfl dX12_take_80 ?_
            refine j_iast SS hG hP (mW_D hD) hS 1 (n := 8) (f := (u.1 0)) rfl (z := s) (v := (u.2.2 9)) (by omega) (by omega) dX12_take_83 (ws' := (mW D o q (uI u 0 (upI (u.1 0) (s).toNat (u.2.2 9))))) rfl (fun H locs hP hS => ?_)
            refine j_iconst SS dX12_take_84 ?_
            refine lv_istore (lv' := [(4, .int (J 0)), (0, .ref o), (1, .int (J s)), (2, .int (J b)), (3, .int (J w))]) SS.1 SS.2.1 dX12_take_85 hl (by decide) rfl (fun ls hl => ?_)
            have L_87 : ∀ (nn : Nat) (i2 : Int) (g1 : Nat → Int) (g2 : Nat → Int) (H : Heap) (locs : List Loc) (hP : va_P D.1 j_cl (mW D o q (uI (uI (uI u 0 (upI (u.1 0) (s).toNat (u.2.2 9))) 1 g1) 2 g2)) H) (hS : va_S A st.heap H locs) (ls : Array Slot) (hl : lv_has ls 5 [(0, .ref o), (1, .int (J s)), (4, .int (J i2))]) (i87_0 : 0 ≤ i2 ∧ i2 ≤ u.2.2 9) (i87_1 : cw_ (u.1 7) (u.1 8) g1 g2 (u.1 1) (u.1 2) s i2), (u.2.2 9 - i2).toNat < nn → W pr l en (headSpec (jw yX12_take cX12_take 5 (some .int)) (jr 2 43)).room st mi (([.ref o, .int (J s), .int (J b)] : List Value).toArray) below meth co H locs 0 0 (MQ below (jWi (fun z u' => ∃ f0 : Nat → Int, ∃ f1 : Nat → Int, ∃ f2 : Nat → Int, ∃ f3 : Nat → Int, u' = (uI (uI (uI (uI u 0 f0) 1 f1) 2 f2) 3 f3) ∧ ((z = -3 ∧ ¬ tk_ok b 40 (u.1 7) (u.1 8) (u.2.2 9) (u.2.2 9) ∧ f0 = u.1 0 ∧ f1 = u.1 1 ∧ f2 = u.1 2 ∧ f3 = u.1 3) ∨ (z = u.2.2 9 ∧ tk_ok b 40 (u.1 7) (u.1 8) (u.2.2 9) (u.2.2 9) ∧ tk_new u f0 f1 f2 f3 s))) (fun u' H => va_P D.1 j_cl (mW D o q u') H) A) (([.ref o, .int (J s), .int (J b)] : List Value).toArray) st 0 0 A) (F0 mi 87 ls []) := by
              intro nn
              induction nn with
              | zero => intros; omega
              | succ nn ih_87 =>
                intro i2 g1 g2 H locs hP hS ls hl i87_0 i87_1 hm
                refine lv_iload SS.1 SS.2.1 dX12_take_87 (lv_at hl 2 rfl) ?_
                refine lv_aload_n SS.1 SS.2.1 dX12_take_89 rfl (lv_at hl 0 rfl) ?_
                refine j_get SS hG hP 0 (v := .int (J (u.2.2 9))) (C := RX12) (T := TX12) (N := 31) rfl rfl inX12 9 (by decide) (ref := RX12) kw_1067 rfl rfl dX12_take_90 ?_
                refine j_icmp_ge SS (tgt := 140) (x := i2) (y := (u.2.2 9)) dX12_take_93 (by decide) (by omega) (by omega) (fun c_93 => ?_) (fun c_93 => ?_)
                · skip
                  refine j_iconst SS dX12_take_140 ?_
                  refine lv_istore (lv' := [(4, .int (J 0)), (0, .ref o), (1, .int (J s))]) SS.1 SS.2.1 dX12_take_141 hl (by decide) rfl (fun ls hl => ?_)
                  have L_143 : ∀ (nn : Nat) (i3 : Int) (g3 : Nat → Int) (H : Heap) (locs : List Loc) (hP : va_P D.1 j_cl (mW D o q (uI (uI (uI (uI u 0 (upI (u.1 0) (s).toNat (u.2.2 9))) 1 g1) 2 g2) 3 g3)) H) (hS : va_S A st.heap H locs) (ls : Array Slot) (hl : lv_has ls 5 [(0, .ref o), (1, .int (J s)), (4, .int (J i3))]) (i143_0 : 0 ≤ i3 ∧ i3 ≤ 40) (i143_1 : hz_ (u.1 3) g3 s i3), ((40 : Int) - i3).toNat < nn → W pr l en (headSpec (jw yX12_take cX12_take 5 (some .int)) (jr 2 43)).room st mi (([.ref o, .int (J s), .int (J b)] : List Value).toArray) below meth co H locs 0 0 (MQ below (jWi (fun z u' => ∃ f0 : Nat → Int, ∃ f1 : Nat → Int, ∃ f2 : Nat → Int, ∃ f3 : Nat → Int, u' = (uI (uI (uI (uI u 0 f0) 1 f1) 2 f2) 3 f3) ∧ ((z = -3 ∧ ¬ tk_ok b 40 (u.1 7) (u.1 8) (u.2.2 9) (u.2.2 9) ∧ f0 = u.1 0 ∧ f1 = u.1 1 ∧ f2 = u.1 2 ∧ f3 = u.1 3) ∨ (z = u.2.2 9 ∧ tk_ok b 40 (u.1 7) (u.1 8) (u.2.2 9) (u.2.2 9) ∧ tk_new u f0 f1 f2 f3 s))) (fun u' H => va_P D.1 j_cl (mW D o q u') H) A) (([.ref o, .int (J s), .int (J b)] : List Value).toArray) st 0 0 A) (F0 mi 143 ls []) := by
                    intro nn
                    induction nn with
                    | zero => intros; omega
                    | succ nn ih_143 =>
                      intro i3 g3 H locs hP hS ls hl i143_0 i143_1 hm
                      refine lv_iload SS.1 SS.2.1 dX12_take_143 (lv_at hl 2 rfl) ?_
                      refine j_bipush SS dX12_take_145 (by decide +kernel) ?_
                      refine j_icmp_ge SS (tgt := 169) (x := i3) (y := 40) dX12_take_147 (by decide) (by omega) (by decide) (fun c_147 => ?_) (fun c_147 => ?_)
                      · skip
                        refine lv_aload_n SS.1 SS.2.1 dX12_take_169 rfl (lv_at hl 0 rfl) ?_
                        refine j_get SS hG hP 0 (v := .int (J (u.2.2 9))) (C := RX12) (T := TX12) (N := 31) rfl rfl inX12 9 (by decide) (ref := RX12) kw_1067 rfl rfl dX12_take_170 ?_
                        exact W.iret SS.1 SS.2.1 hr (fun t ht hW => ⟨⟨_, (uI (uI (uI (uI u 0 (upI (u.1 0) (s).toNat (u.2.2 9))) 1 g1) 2 g2) 3 g3), rfl, ⟨(u.2.2 9), rfl, (⟨(upI (u.1 0) (s).toNat (u.2.2 9)), g1, g2, g3, rfl, Or.inr ⟨rfl, hok.2, rfl, by rw [show i2 = u.2.2 9 by omega] at i87_1; exact i87_1, by rw [show i3 = 40 by omega] at i143_1; exact i143_1⟩⟩)⟩, by show va_P D.1 j_cl (mW D o q (uI (uI (uI (uI u 0 (upI (u.1 0) (s).toNat (u.2.2 9))) 1 g1) 2 g2) 3 g3)) t.heap; rw [ht]; exact hP⟩, hS.F ht⟩) hS.2.2 dX12_take_173 hlk
                      · skip
                        refine lv_aload_n SS.1 SS.2.1 dX12_take_150 rfl (lv_at hl 0 rfl) ?_
                        refine j_get SS hG hP 0 (v := .ref (q 3)) (C := RX12) (T := TX12) (N := 31) rfl rfl inX12 3 (by decide) (ref := RX12) kw_1061 rfl rfl dX12_take_151 ?_
                        refine j_bipush SS dX12_take_154 (by decide +kernel) ?_
                        refine lv_iload_n SS.1 SS.2.1 dX12_take_156 rfl (lv_at hl 1 rfl) ?_
                        refine j_imul SS (x := 40) (y := s) dX12_take_157 ?_
                        refine lv_iload SS.1 SS.2.1 dX12_take_158 (lv_at hl 2 rfl) ?_
                        refine j_iadd SS (x := (40 * s)) (y := i3) dX12_take_160 ?_
                        refine j_iconst SS dX12_take_161 ?_
                        refine j_iast SS hG hP (mW_D hD) hS 4 (n := 320) (f := g3) rfl (z := ((40 * s) + i3)) (v := 0) (by omega) (by omega) dX12_take_162 (ws' := (mW D o q (uI (uI (uI (uI u 0 (upI (u.1 0) (s).toNat (u.2.2 9))) 1 g1) 2 g2) 3 (upI g3 (((40 * s) + i3)).toNat 0)))) rfl (fun H locs hP hS => ?_)
                        refine lv_iinc (v := J (i3 + 1)) (lv' := [(4, .int (J (i3 + 1))), (0, .ref o), (1, .int (J s))]) SS.1 SS.2.1 dX12_take_163 hl (k := 2) rfl (J_add _ _) (by decide) rfl (fun ls hl => ?_)
                        refine lv_goto (tgt := 143) SS.1 SS.2.1 dX12_take_166 (by decide) ?_
                        exact ih_143 (i3 + 1) (upI g3 (((40 * s) + i3)).toNat 0) _ _ hP hS ls (lv_sub hl [1, 2, 0] rfl) (by omega) (by first | exact hz_0 | exact hz_s p0.1 (by omega) i143_1) (by omega)
                  exact L_143 (((40 : Int) - (0 : Int)).toNat + 1) 0 (u.1 3) _ _ hP hS ls (lv_sub hl [1, 2, 0] rfl) (by omega) (by first | exact hz_0 | exact hz_s p0.1 (by omega) i143_1) (Nat.lt_succ_self _)
                · skip
                  refine lv_aload_n SS.1 SS.2.1 dX12_take_96 rfl (lv_at hl 0 rfl) ?_
                  refine j_get SS hG hP 0 (v := .ref (q 1)) (C := RX12) (T := TX12) (N := 31) rfl rfl inX12 1 (by decide) (ref := RX12) kw_1059 rfl rfl dX12_take_97 ?_
                  refine j_bipush SS dX12_take_100 (by decide +kernel) ?_
                  refine lv_iload_n SS.1 SS.2.1 dX12_take_102 rfl (lv_at hl 1 rfl) ?_
                  refine j_imul SS (x := 24) (y := s) dX12_take_103 ?_
                  refine lv_iload SS.1 SS.2.1 dX12_take_104 (lv_at hl 2 rfl) ?_
                  refine j_iadd SS (x := (24 * s)) (y := i2) dX12_take_106 ?_
                  refine lv_aload_n SS.1 SS.2.1 dX12_take_107 rfl (lv_at hl 0 rfl) ?_
                  refine j_get SS hG hP 0 (v := .ref (q 7)) (C := RX12) (T := TX12) (N := 31) rfl rfl inX12 7 (by decide) (ref := RX12) kw_1065 rfl rfl dX12_take_108 ?_
                  refine lv_iload SS.1 SS.2.1 dX12_take_111 (lv_at hl 2 rfl) ?_
                  refine j_iald SS hG hP 7 (n := 1300) (f := (u.1 7)) rfl (z := i2) (by omega) (by omega) dX12_take_113 ?_
                  refine j_iast SS hG hP (mW_D hD) hS 2 (n := 192) (f := g1) rfl (z := ((24 * s) + i2)) (v := ((u.1 7) (i2).toNat)) (by omega) (by omega) dX12_take_114 (ws' := (mW D o q (uI (uI (uI u 0 (upI (u.1 0) (s).toNat (u.2.2 9))) 1 (upI g1 (((24 * s) + i2)).toNat ((u.1 7) (i2).toNat))) 2 g2))) rfl (fun H locs hP hS => ?_)
                  refine lv_aload_n SS.1 SS.2.1 dX12_take_115 rfl (lv_at hl 0 rfl) ?_
                  refine j_get SS hG hP 0 (v := .ref (q 2)) (C := RX12) (T := TX12) (N := 31) rfl rfl inX12 2 (by decide) (ref := RX12) kw_1060 rfl rfl dX12_take_116 ?_
                  refine j_bipush SS dX12_take_119 (by decide +kernel) ?_
                  refine lv_iload_n SS.1 SS.2.1 dX12_take_121 rfl (lv_at hl 1 rfl) ?_
                  refine j_imul SS (x := 24) (y := s) dX12_take_122 ?_
                  refine lv_iload SS.1 SS.2.1 dX12_take_123 (lv_at hl 2 rfl) ?_
                  refine j_iadd SS (x := (24 * s)) (y := i2) dX12_take_125 ?_
                  refine lv_aload_n SS.1 SS.2.1 dX12_take_126 rfl (lv_at hl 0 rfl) ?_
                  refine j_get SS hG hP 0 (v := .ref (q 8)) (C := RX12) (T := TX12) (N := 31) rfl rfl inX12 8 (by decide) (ref := RX12) kw_1066 rfl rfl dX12_take_127 ?_
                  refine lv_iload SS.1 SS.2.1 dX12_take_130 (lv_at hl 2 rfl) ?_
                  refine j_iald SS hG hP 8 (n := 1300) (f := (u.1 8)) rfl (z := i2) (by omega) (by omega) dX12_take_132 ?_
                  refine j_iast SS hG hP (mW_D hD) hS 3 (n := 192) (f := g2) rfl (z := ((24 * s) + i2)) (v := ((u.1 8) (i2).toNat)) (by omega) (by omega) dX12_take_133 (ws' := (mW D o q (uI (uI (uI u 0 (upI (u.1 0) (s).toNat (u.2.2 9))) 1 (upI g1 (((24 * s) + i2)).toNat ((u.1 7) (i2).toNat))) 2 (upI g2 (((24 * s) + i2)).toNat ((u.1 8) (i2).toNat))))) rfl (fun H locs hP hS => ?_)
                  refine lv_iinc (v := J (i2 + 1)) (lv' := [(4, .int (J (i2 + 1))), (0, .ref o), (1, .int (J s))]) SS.1 SS.2.1 dX12_take_134 hl (k := 2) rfl (J_add _ _) (by decide) rfl (fun ls hl => ?_)
                  refine lv_goto (tgt := 87) SS.1 SS.2.1 dX12_take_137 (by decide) ?_
                  exact ih_87 (i2 + 1) (upI g1 (((24 * s) + i2)).toNat ((u.1 7) (i2).toNat)) (upI g2 (((24 * s) + i2)).toNat ((u.1 8) (i2).toNat)) _ _ hP hS ls (lv_sub hl [1, 2, 0] rfl) (by omega) (cw_s p0.1 i87_0.1 i87_1) (by omega)
            exact L_87 ((u.2.2 9 - (0 : Int)).toNat + 1) 0 (u.1 1) (u.1 2) _ _ hP hS ls (lv_sub hl [1, 2, 0] rfl) (by omega) (cw_0) (Nat.lt_succ_self _)
          · skip
            refine j_bipush SS dX12_take_71 (by decide +kernel) ?_
            exact W.iret SS.1 SS.2.1 hr (fun t ht hW => ⟨⟨_, (uI (uI (uI (uI u 0 (u.1 0)) 1 (u.1 1)) 2 (u.1 2)) 3 (u.1 3)), rfl, ⟨(-3), rfl, (⟨(u.1 0), (u.1 1), (u.1 2), (u.1 3), rfl, Or.inl ⟨rfl, by rcases i18_1 with k | k; omega; rw [show i = u.2.2 9 by omega] at k; exact k.2, rfl, rfl, rfl, rfl⟩⟩)⟩, by show va_P D.1 j_cl (mW D o q (uI (uI (uI (uI u 0 (u.1 0)) 1 (u.1 1)) 2 (u.1 2)) 3 (u.1 3))) t.heap; rw [ht]; exact hP⟩, hS.F ht⟩) hS.2.2 dX12_take_73 hlk
        · skip
          refine lv_iload_n SS.1 SS.2.1 dX12_take_27 rfl (lv_at hl 3 rfl) ?_
          refine j_if_eq SS (tgt := 59) (x := w) dX12_take_28 (by decide) (by omega) (fun c_28 => ?_) (fun c_28 => ?_)
          · skip
            refine j_iconst SS dX12_take_59 ?_
            refine lv_istore_n (lv' := [(3, .int (J 0)), (0, .ref o), (1, .int (J s)), (2, .int (J b)), (4, .int (J i))]) SS.1 SS.2.1 dX12_take_60 rfl hl (by decide) rfl (fun ls hl => ?_)
            refine lv_iinc (v := J (i + 1)) (lv' := [(4, .int (J (i + 1))), (3, .int (J 0)), (0, .ref o), (1, .int (J s)), (2, .int (J b))]) SS.1 SS.2.1 dX12_take_61 hl (k := 4) rfl (J_add _ _) (by decide) rfl (fun ls hl => ?_)
            refine lv_goto (tgt := 18) SS.1 SS.2.1 dX12_take_64 (by decide) ?_
            exact ih_18 0 (i + 1) _ _ hP hS ls (lv_sub hl [2, 3, 4, 1, 0] rfl) (by omega) (by rw [tk_s i18_0.1]; first | (refine Or.inl ⟨rfl, ?_⟩; rcases i18_1 with k | k; exact ⟨k.2, fun _ => by omega⟩; omega) | (refine Or.inr ⟨rfl, ?_⟩; intro k; rcases i18_1 with k2 | k2; have := k.2 (by omega); omega; exact k2.2 k.1)) (by omega)
          · skip
            refine lv_iload_n SS.1 SS.2.1 dX12_take_31 rfl (lv_at hl 2 rfl) ?_
            refine j_if_eq SS (tgt := 55) (x := b) dX12_take_32 (by decide) (by omega) (fun c_32 => ?_) (fun c_32 => ?_)
            · skip
              refine j_iconst SS dX12_take_55 ?_
              refine lv_goto (tgt := 60) SS.1 SS.2.1 dX12_take_56 (by decide) ?_
              refine lv_istore_n (lv' := [(3, .int (J 1)), (0, .ref o), (1, .int (J s)), (2, .int (J b)), (4, .int (J i))]) SS.1 SS.2.1 dX12_take_60 rfl hl (by decide) rfl (fun ls hl => ?_)
              refine lv_iinc (v := J (i + 1)) (lv' := [(4, .int (J (i + 1))), (3, .int (J 1)), (0, .ref o), (1, .int (J s)), (2, .int (J b))]) SS.1 SS.2.1 dX12_take_61 hl (k := 4) rfl (J_add _ _) (by decide) rfl (fun ls hl => ?_)
              refine lv_goto (tgt := 18) SS.1 SS.2.1 dX12_take_64 (by decide) ?_
              exact ih_18 1 (i + 1) _ _ hP hS ls (lv_sub hl [2, 3, 4, 1, 0] rfl) (by omega) (by rw [tk_s i18_0.1]; first | (refine Or.inl ⟨rfl, ?_⟩; rcases i18_1 with k | k; exact ⟨k.2, fun _ => by omega⟩; omega) | (refine Or.inr ⟨rfl, ?_⟩; intro k; rcases i18_1 with k2 | k2; have := k.2 (by omega); omega; exact k2.2 k.1)) (by omega)
            · skip
              refine lv_aload_n SS.1 SS.2.1 dX12_take_35 rfl (lv_at hl 0 rfl) ?_
              refine j_get SS hG hP 0 (v := .ref (q 7)) (C := RX12) (T := TX12) (N := 31) rfl rfl inX12 7 (by decide) (ref := RX12) kw_1065 rfl rfl dX12_take_36 ?_
              refine lv_iload SS.1 SS.2.1 dX12_take_39 (lv_at hl 4 rfl) ?_
              refine j_iald SS hG hP 7 (n := 1300) (f := (u.1 7)) rfl (z := i) (by omega) (by omega) dX12_take_41 ?_
              refine lv_aload_n SS.1 SS.2.1 dX12_take_42 rfl (lv_at hl 0 rfl) ?_
              refine j_get SS hG hP 0 (v := .ref (q 8)) (C := RX12) (T := TX12) (N := 31) rfl rfl inX12 8 (by decide) (ref := RX12) kw_1066 rfl rfl dX12_take_43 ?_
              refine lv_iload SS.1 SS.2.1 dX12_take_46 (lv_at hl 4 rfl) ?_
              refine j_iald SS hG hP 8 (n := 1300) (f := (u.1 8)) rfl (z := i) (by omega) (by omega) dX12_take_48 ?_
              have q := bd_at p3 (z := i) (by omega) (by omega)
              refine j_sRi SS (As := [.int (J ((u.1 7) (i).toNat)), .int (J ((u.1 8) (i).toNat))]) (rest := []) (c_X12_isPlace l D ((u.1 7) (i).toNat) ((u.1 8) (i).toNat) (show -2147483648 ≤ ((u.1 7) (i).toNat) ∧ ((u.1 7) (i).toNat) ≤ 2147483647 from (by omega)) (show -2147483648 ≤ ((u.1 8) (i).toNat) ∧ ((u.1 8) (i).toNat) ≤ 2147483647 from (by omega))) mf_X12_isPlace kw_1166 hG trivial rfl hl.1 ⟨⟨Nat.le_of_ble_eq_true rfl, Nat.le_of_ble_eq_true rfl⟩, Nat.le_of_ble_eq_true rfl, Nat.le_refl _, Nat.le_refl _⟩ rfl dX12_take_49 (fun z_49 h_49 => ?_)
              have h_49 : (z_49 = 1 ∧ (-40 ≤ ((u.1 7) (i).toNat) ∧ ((u.1 7) (i).toNat) ≤ 40 ∧ -40 ≤ ((u.1 8) (i).toNat) ∧ ((u.1 8) (i).toNat) ≤ 40)) ∨ (z_49 = 0 ∧ ¬ (-40 ≤ ((u.1 7) (i).toNat) ∧ ((u.1 7) (i).toNat) ≤ 40 ∧ -40 ≤ ((u.1 8) (i).toNat) ∧ ((u.1 8) (i).toNat) ≤ 40)) := h_49
              refine j_if_eq SS (tgt := 59) (x := z_49) dX12_take_52 (by decide) (by omega) (fun c_52 => ?_) (fun c_52 => ?_)
              · skip
                refine j_iconst SS dX12_take_59 ?_
                refine lv_istore_n (lv' := [(3, .int (J 0)), (0, .ref o), (1, .int (J s)), (2, .int (J b)), (4, .int (J i))]) SS.1 SS.2.1 dX12_take_60 rfl hl (by decide) rfl (fun ls hl => ?_)
                refine lv_iinc (v := J (i + 1)) (lv' := [(4, .int (J (i + 1))), (3, .int (J 0)), (0, .ref o), (1, .int (J s)), (2, .int (J b))]) SS.1 SS.2.1 dX12_take_61 hl (k := 4) rfl (J_add _ _) (by decide) rfl (fun ls hl => ?_)
                refine lv_goto (tgt := 18) SS.1 SS.2.1 dX12_take_64 (by decide) ?_
                exact ih_18 0 (i + 1) _ _ hP hS ls (lv_sub hl [2, 3, 4, 1, 0] rfl) (by omega) (by rw [tk_s i18_0.1]; first | (refine Or.inl ⟨rfl, ?_⟩; rcases i18_1 with k | k; exact ⟨k.2, fun _ => by omega⟩; omega) | (refine Or.inr ⟨rfl, ?_⟩; intro k; rcases i18_1 with k2 | k2; have := k.2 (by omega); omega; exact k2.2 k.1)) (by omega)
              · skip
                refine j_iconst SS dX12_take_55 ?_
                refine lv_goto (tgt := 60) SS.1 SS.2.1 dX12_take_56 (by decide) ?_
                refine lv_istore_n (lv' := [(3, .int (J 1)), (0, .ref o), (1, .int (J s)), (2, .int (J b)), (4, .int (J i))]) SS.1 SS.2.1 dX12_take_60 rfl hl (by decide) rfl (fun ls hl => ?_)
                refine lv_iinc (v := J (i + 1)) (lv' := [(4, .int (J (i + 1))), (3, .int (J 1)), (0, .ref o), (1, .int (J s)), (2, .int (J b))]) SS.1 SS.2.1 dX12_take_61 hl (k := 4) rfl (J_add _ _) (by decide) rfl (fun ls hl => ?_)
                refine lv_goto (tgt := 18) SS.1 SS.2.1 dX12_take_64 (by decide) ?_
                exact ih_18 1 (i + 1) _ _ hP hS ls (lv_sub hl [2, 3, 4, 1, 0] rfl) (by omega) (by rw [tk_s i18_0.1]; first | (refine Or.inl ⟨rfl, ?_⟩; rcases i18_1 with k | k; exact ⟨k.2, fun _ => by omega⟩; omega) | (refine Or.inr ⟨rfl, ?_⟩; intro k; rcases i18_1 with k2 | k2; have := k.2 (by omega); omega; exact k2.2 k.1)) (by omega)
    exact L_18 ((u.2.2 9 - (0 : Int)).toNat + 1) 0 0 _ _ hP hS ls (lv_sub hl [2, 3, 4, 1, 0] rfl) (by omega) (by rw [tk_0]; omega) (Nat.lt_succ_self _)
  · skip
    refine j_iconst SS dX12_take_9 ?_
    refine lv_goto (tgt := 14) SS.1 SS.2.1 dX12_take_10 (by decide) ?_
    refine lv_istore_n (lv' := [(3, .int (J 1)), (0, .ref o), (1, .int (J s)), (2, .int (J b))]) SS.1 SS.2.1 dX12_take_14 rfl hl (by decide) rfl (fun ls hl => ?_)
    refine j_iconst SS dX12_take_15 ?_
    refine lv_istore (lv' := [(4, .int (J 0)), (3, .int (J 1)), (0, .ref o), (1, .int (J s)), (2, .int (J b))]) SS.1 SS.2.1 dX12_take_16 hl (by decide) rfl (fun ls hl => ?_)
    have L_18 : ∀ (nn : Nat) (w : Int) (i : Int) (H : Heap) (locs : List Loc) (hP : va_P D.1 j_cl (mW D o q u) H) (hS : va_S A st.heap H locs) (ls : Array Slot) (hl : lv_has ls 5 [(0, .ref o), (1, .int (J s)), (2, .int (J b)), (3, .int (J w)), (4, .int (J i))]) (i18_0 : 0 ≤ i ∧ i ≤ u.2.2 9) (i18_1 : (w = 1 ∧ tk_ok b 40 (u.1 7) (u.1 8) (u.2.2 9) i) ∨ (w = 0 ∧ ¬ tk_ok b 40 (u.1 7) (u.1 8) (u.2.2 9) i)), (u.2.2 9 - i).toNat < nn → W pr l en (headSpec (jw yX12_take cX12_take 5 (some .int)) (jr 2 43)).room st mi (([.ref o, .int (J s), .int (J b)] : List Value).toArray) below meth co H locs 0 0 (MQ below (jWi (fun z u' => ∃ f0 : Nat → Int, ∃ f1 : Nat → Int, ∃ f2 : Nat → Int, ∃ f3 : Nat → Int, u' = (uI (uI (uI (uI u 0 f0) 1 f1) 2 f2) 3 f3) ∧ ((z = -3 ∧ ¬ tk_ok b 40 (u.1 7) (u.1 8) (u.2.2 9) (u.2.2 9) ∧ f0 = u.1 0 ∧ f1 = u.1 1 ∧ f2 = u.1 2 ∧ f3 = u.1 3) ∨ (z = u.2.2 9 ∧ tk_ok b 40 (u.1 7) (u.1 8) (u.2.2 9) (u.2.2 9) ∧ tk_new u f0 f1 f2 f3 s))) (fun u' H => va_P D.1 j_cl (mW D o q u') H) A) (([.ref o, .int (J s), .int (J b)] : List Value).toArray) st 0 0 A) (F0 mi 18 ls []) := by
      intro nn
      induction nn with
      | zero => intros; omega
      | succ nn ih_18 =>
        intro w i  H locs hP hS ls hl i18_0 i18_1 hm
        refine lv_iload SS.1 SS.2.1 dX12_take_18 (lv_at hl 4 rfl) ?_
        refine lv_aload_n SS.1 SS.2.1 dX12_take_20 rfl (lv_at hl 0 rfl) ?_
        refine j_get SS hG hP 0 (v := .int (J (u.2.2 9))) (C := RX12) (T := TX12) (N := 31) rfl rfl inX12 9 (by decide) (ref := RX12) kw_1067 rfl rfl dX12_take_21 ?_
        refine j_icmp_ge SS (tgt := 67) (x := i) (y := (u.2.2 9)) dX12_take_24 (by decide) (by omega) (by omega) (fun c_24 => ?_) (fun c_24 => ?_)
        · skip
          refine lv_iload_n SS.1 SS.2.1 dX12_take_67 rfl (lv_at hl 3 rfl) ?_
          refine j_if_ne SS (tgt := 74) (x := w) dX12_take_68 (by decide) (by omega) (fun c_68 => ?_) (fun c_68 => ?_)
          · skip
            have hok : w = 1 ∧ tk_ok b 40 (u.1 7) (u.1 8) (u.2.2 9) i := by rcases i18_1 with k | k; exact k; omega
            have h24 := hok.2.1
            have ei : i = u.2.2 9 := by omega
            rw [ei] at hok
            refine lv_aload_n SS.1 SS.2.1 dX12_take_74 rfl (lv_at hl 0 rfl) ?_
            refine j_get SS hG hP 0 (v := .ref (q 0)) (C := RX12) (T := TX12) (N := 31) rfl rfl inX12 0 (by decide) (ref := RX12) kw_1058 rfl rfl dX12_take_75 ?_
            refine lv_iload_n SS.1 SS.2.1 dX12_take_78 rfl (lv_at hl 1 rfl) ?_
            refine lv_aload_n SS.1 SS.2.1 dX12_take_79 rfl (lv_at hl 0 rfl) ?_
            refine j_get SS hG hP 0 (v := .int (J (u.2.2 9))) (C := RX12) (T := TX12) (N := 31) rfl rfl inX12 9 (by decide) (ref := RX12) kw_1067 rfl rfl dX12_take_80 ?_
            refine j_iast SS hG hP (mW_D hD) hS 1 (n := 8) (f := (u.1 0)) rfl (z := s) (v := (u.2.2 9)) (by omega) (by omega) dX12_take_83 (ws' := (mW D o q (uI u 0 (upI (u.1 0) (s).toNat (u.2.2 9))))) rfl (fun H locs hP hS => ?_)
            refine j_iconst SS dX12_take_84 ?_
            refine lv_istore (lv' := [(4, .int (J 0)), (0, .ref o), (1, .int (J s)), (2, .int (J b)), (3, .int (J w))]) SS.1 SS.2.1 dX12_take_85 hl (by decide) rfl (fun ls hl => ?_)
            have L_87 : ∀ (nn : Nat) (i2 : Int) (g1 : Nat → Int) (g2 : Nat → Int) (H : Heap) (locs : List Loc) (hP : va_P D.1 j_cl (mW D o q (uI (uI (uI u 0 (upI (u.1 0) (s).toNat (u.2.2 9))) 1 g1) 2 g2)) H) (hS : va_S A st.heap H locs) (ls : Array Slot) (hl : lv_has ls 5 [(0, .ref o), (1, .int (J s)), (4, .int (J i2))]) (i87_0 : 0 ≤ i2 ∧ i2 ≤ u.2.2 9) (i87_1 : cw_ (u.1 7) (u.1 8) g1 g2 (u.1 1) (u.1 2) s i2), (u.2.2 9 - i2).toNat < nn → W pr l en (headSpec (jw yX12_take cX12_take 5 (some .int)) (jr 2 43)).room st mi (([.ref o, .int (J s), .int (J b)] : List Value).toArray) below meth co H locs 0 0 (MQ below (jWi (fun z u' => ∃ f0 : Nat → Int, ∃ f1 : Nat → Int, ∃ f2 : Nat → Int, ∃ f3 : Nat → Int, u' = (uI (uI (uI (uI u 0 f0) 1 f1) 2 f2) 3 f3) ∧ ((z = -3 ∧ ¬ tk_ok b 40 (u.1 7) (u.1 8) (u.2.2 9) (u.2.2 9) ∧ f0 = u.1 0 ∧ f1 = u.1 1 ∧ f2 = u.1 2 ∧ f3 = u.1 3) ∨ (z = u.2.2 9 ∧ tk_ok b 40 (u.1 7) (u.1 8) (u.2.2 9) (u.2.2 9) ∧ tk_new u f0 f1 f2 f3 s))) (fun u' H => va_P D.1 j_cl (mW D o q u') H) A) (([.ref o, .int (J s), .int (J b)] : List Value).toArray) st 0 0 A) (F0 mi 87 ls []) := by
              intro nn
              induction nn with
              | zero => intros; omega
              | succ nn ih_87 =>
                intro i2 g1 g2 H locs hP hS ls hl i87_0 i87_1 hm
                refine lv_iload SS.1 SS.2.1 dX12_take_87 (lv_at hl 2 rfl) ?_
                refine lv_aload_n SS.1 SS.2.1 dX12_take_89 rfl (lv_at hl 0 rfl) ?_
                refine j_get SS hG hP 0 (v := .int (J (u.2.2 9))) (C := RX12) (T := TX12) (N := 31) rfl rfl inX12 9 (by decide) (ref := RX12) kw_1067 rfl rfl dX12_take_90 ?_
                refine j_icmp_ge SS (tgt := 140) (x := i2) (y := (u.2.2 9)) dX12_take_93 (by decide) (by omega) (by omega) (fun c_93 => ?_) (fun c_93 => ?_)
                · skip
                  refine j_iconst SS dX12_take_140 ?_
                  refine lv_istore (lv' := [(4, .int (J 0)), (0, .ref o), (1, .int (J s))]) SS.1 SS.2.1 dX12_take_141 hl (by decide) rfl (fun ls hl => ?_)
                  have L_143 : ∀ (nn : Nat) (i3 : Int) (g3 : Nat → Int) (H : Heap) (locs : List Loc) (hP : va_P D.1 j_cl (mW D o q (uI (uI (uI (uI u 0 (upI (u.1 0) (s).toNat (u.2.2 9))) 1 g1) 2 g2) 3 g3)) H) (hS : va_S A st.heap H locs) (ls : Array Slot) (hl : lv_has ls 5 [(0, .ref o), (1, .int (J s)), (4, .int (J i3))]) (i143_0 : 0 ≤ i3 ∧ i3 ≤ 40) (i143_1 : hz_ (u.1 3) g3 s i3), ((40 : Int) - i3).toNat < nn → W pr l en (headSpec (jw yX12_take cX12_take 5 (some .int)) (jr 2 43)).room st mi (([.ref o, .int (J s), .int (J b)] : List Value).toArray) below meth co H locs 0 0 (MQ below (jWi (fun z u' => ∃ f0 : Nat → Int, ∃ f1 : Nat → Int, ∃ f2 : Nat → Int, ∃ f3 : Nat → Int, u' = (uI (uI (uI (uI u 0 f0) 1 f1) 2 f2) 3 f3) ∧ ((z = -3 ∧ ¬ tk_ok b 40 (u.1 7) (u.1 8) (u.2.2 9) (u.2.2 9) ∧ f0 = u.1 0 ∧ f1 = u.1 1 ∧ f2 = u.1 2 ∧ f3 = u.1 3) ∨ (z = u.2.2 9 ∧ tk_ok b 40 (u.1 7) (u.1 8) (u.2.2 9) (u.2.2 9) ∧ tk_new u f0 f1 f2 f3 s))) (fun u' H => va_P D.1 j_cl (mW D o q u') H) A) (([.ref o, .int (J s), .int (J b)] : List Value).toArray) st 0 0 A) (F0 mi 143 ls []) := by
                    intro nn
                    induction nn with
                    | zero => intros; omega
                    | succ nn ih_143 =>
                      intro i3 g3 H locs hP hS ls hl i143_0 i143_1 hm
                      refine lv_iload SS.1 SS.2.1 dX12_take_143 (lv_at hl 2 rfl) ?_
                      refine j_bipush SS dX12_take_145 (by decide +kernel) ?_
                      refine j_icmp_ge SS (tgt := 169) (x := i3) (y := 40) dX12_take_147 (by decide) (by omega) (by decide) (fun c_147 => ?_) (fun c_147 => ?_)
                      · skip
                        refine lv_aload_n SS.1 SS.2.1 dX12_take_169 rfl (lv_at hl 0 rfl) ?_
                        refine j_get SS hG hP 0 (v := .int (J (u.2.2 9))) (C := RX12) (T := TX12) (N := 31) rfl rfl inX12 9 (by decide) (ref := RX12) kw_1067 rfl rfl dX12_take_170 ?_
                        exact W.iret SS.1 SS.2.1 hr (fun t ht hW => ⟨⟨_, (uI (uI (uI (uI u 0 (upI (u.1 0) (s).toNat (u.2.2 9))) 1 g1) 2 g2) 3 g3), rfl, ⟨(u.2.2 9), rfl, (⟨(upI (u.1 0) (s).toNat (u.2.2 9)), g1, g2, g3, rfl, Or.inr ⟨rfl, hok.2, rfl, by rw [show i2 = u.2.2 9 by omega] at i87_1; exact i87_1, by rw [show i3 = 40 by omega] at i143_1; exact i143_1⟩⟩)⟩, by show va_P D.1 j_cl (mW D o q (uI (uI (uI (uI u 0 (upI (u.1 0) (s).toNat (u.2.2 9))) 1 g1) 2 g2) 3 g3)) t.heap; rw [ht]; exact hP⟩, hS.F ht⟩) hS.2.2 dX12_take_173 hlk
                      · skip
                        refine lv_aload_n SS.1 SS.2.1 dX12_take_150 rfl (lv_at hl 0 rfl) ?_
                        refine j_get SS hG hP 0 (v := .ref (q 3)) (C := RX12) (T := TX12) (N := 31) rfl rfl inX12 3 (by decide) (ref := RX12) kw_1061 rfl rfl dX12_take_151 ?_
                        refine j_bipush SS dX12_take_154 (by decide +kernel) ?_
                        refine lv_iload_n SS.1 SS.2.1 dX12_take_156 rfl (lv_at hl 1 rfl) ?_
                        refine j_imul SS (x := 40) (y := s) dX12_take_157 ?_
                        refine lv_iload SS.1 SS.2.1 dX12_take_158 (lv_at hl 2 rfl) ?_
                        refine j_iadd SS (x := (40 * s)) (y := i3) dX12_take_160 ?_
                        refine j_iconst SS dX12_take_161 ?_
                        refine j_iast SS hG hP (mW_D hD) hS 4 (n := 320) (f := g3) rfl (z := ((40 * s) + i3)) (v := 0) (by omega) (by omega) dX12_take_162 (ws' := (mW D o q (uI (uI (uI (uI u 0 (upI (u.1 0) (s).toNat (u.2.2 9))) 1 g1) 2 g2) 3 (upI g3 (((40 * s) + i3)).toNat 0)))) rfl (fun H locs hP hS => ?_)
                        refine lv_iinc (v := J (i3 + 1)) (lv' := [(4, .int (J (i3 + 1))), (0, .ref o), (1, .int (J s))]) SS.1 SS.2.1 dX12_take_163 hl (k := 2) rfl (J_add _ _) (by decide) rfl (fun ls hl => ?_)
                        refine lv_goto (tgt := 143) SS.1 SS.2.1 dX12_take_166 (by decide) ?_
                        exact ih_143 (i3 + 1) (upI g3 (((40 * s) + i3)).toNat 0) _ _ hP hS ls (lv_sub hl [1, 2, 0] rfl) (by omega) (by first | exact hz_0 | exact hz_s p0.1 (by omega) i143_1) (by omega)
                  exact L_143 (((40 : Int) - (0 : Int)).toNat + 1) 0 (u.1 3) _ _ hP hS ls (lv_sub hl [1, 2, 0] rfl) (by omega) (by first | exact hz_0 | exact hz_s p0.1 (by omega) i143_1) (Nat.lt_succ_self _)
                · skip
                  refine lv_aload_n SS.1 SS.2.1 dX12_take_96 rfl (lv_at hl 0 rfl) ?_
                  refine j_get SS hG hP 0 (v := .ref (q 1)) (C := RX12) (T := TX12) (N := 31) rfl rfl inX12 1 (by decide) (ref := RX12) kw_1059 rfl rfl dX12_take_97 ?_
                  refine j_bipush SS dX12_take_100 (by decide +kernel) ?_
                  refine lv_iload_n SS.1 SS.2.1 dX12_take_102 rfl (lv_at hl 1 rfl) ?_
                  refine j_imul SS (x := 24) (y := s) dX12_take_103 ?_
                  refine lv_iload SS.1 SS.2.1 dX12_take_104 (lv_at hl 2 rfl) ?_
                  refine j_iadd SS (x := (24 * s)) (y := i2) dX12_take_106 ?_
                  refine lv_aload_n SS.1 SS.2.1 dX12_take_107 rfl (lv_at hl 0 rfl) ?_
                  refine j_get SS hG hP 0 (v := .ref (q 7)) (C := RX12) (T := TX12) (N := 31) rfl rfl inX12 7 (by decide) (ref := RX12) kw_1065 rfl rfl dX12_take_108 ?_
                  refine lv_iload SS.1 SS.2.1 dX12_take_111 (lv_at hl 2 rfl) ?_
                  refine j_iald SS hG hP 7 (n := 1300) (f := (u.1 7)) rfl (z := i2) (by omega) (by omega) dX12_take_113 ?_
                  refine j_iast SS hG hP (mW_D hD) hS 2 (n := 192) (f := g1) rfl (z := ((24 * s) + i2)) (v := ((u.1 7) (i2).toNat)) (by omega) (by omega) dX12_take_114 (ws' := (mW D o q (uI (uI (uI u 0 (upI (u.1 0) (s).toNat (u.2.2 9))) 1 (upI g1 (((24 * s) + i2)).toNat ((u.1 7) (i2).toNat))) 2 g2))) rfl (fun H locs hP hS => ?_)
                  refine lv_aload_n SS.1 SS.2.1 dX12_take_115 rfl (lv_at hl 0 rfl) ?_
                  refine j_get SS hG hP 0 (v := .ref (q 2)) (C := RX12) (T := TX12) (N := 31) rfl rfl inX12 2 (by decide) (ref := RX12) kw_1060 rfl rfl dX12_take_116 ?_
                  refine j_bipush SS dX12_take_119 (by decide +kernel) ?_
                  refine lv_iload_n SS.1 SS.2.1 dX12_take_121 rfl (lv_at hl 1 rfl) ?_
                  refine j_imul SS (x := 24) (y := s) dX12_take_122 ?_
                  refine lv_iload SS.1 SS.2.1 dX12_take_123 (lv_at hl 2 rfl) ?_
                  refine j_iadd SS (x := (24 * s)) (y := i2) dX12_take_125 ?_
                  refine lv_aload_n SS.1 SS.2.1 dX12_take_126 rfl (lv_at hl 0 rfl) ?_
                  refine j_get SS hG hP 0 (v := .ref (q 8)) (C := RX12) (T := TX12) (N := 31) rfl rfl inX12 8 (by decide) (ref := RX12) kw_1066 rfl rfl dX12_take_127 ?_
                  refine lv_iload SS.1 SS.2.1 dX12_take_130 (lv_at hl 2 rfl) ?_
                  refine j_iald SS hG hP 8 (n := 1300) (f := (u.1 8)) rfl (z := i2) (by omega) (by omega) dX12_take_132 ?_
                  refine j_iast SS hG hP (mW_D hD) hS 3 (n := 192) (f := g2) rfl (z := ((24 * s) + i2)) (v := ((u.1 8) (i2).toNat)) (by omega) (by omega) dX12_take_133 (ws' := (mW D o q (uI (uI (uI u 0 (upI (u.1 0) (s).toNat (u.2.2 9))) 1 (upI g1 (((24 * s) + i2)).toNat ((u.1 7) (i2).toNat))) 2 (upI g2 (((24 * s) + i2)).toNat ((u.1 8) (i2).toNat))))) rfl (fun H locs hP hS => ?_)
                  refine lv_iinc (v := J (i2 + 1)) (lv' := [(4, .int (J (i2 + 1))), (0, .ref o), (1, .int (J s))]) SS.1 SS.2.1 dX12_take_134 hl (k := 2) rfl (J_add _ _) (by decide) rfl (fun ls hl => ?_)
                  refine lv_goto (tgt := 87) SS.1 SS.2.1 dX12_take_137 (by decide) ?_
                  exact ih_87 (i2 + 1) (upI g1 (((24 * s) + i2)).toNat ((u.1 7) (i2).toNat)) (upI g2 (((24 * s) + i2)).toNat ((u.1 8) (i2).toNat)) _ _ hP hS ls (lv_sub hl [1, 2, 0] rfl) (by omega) (cw_s p0.1 i87_0.1 i87_1) (by omega)
            exact L_87 ((u.2.2 9 - (0 : Int)).toNat + 1) 0 (u.1 1) (u.1 2) _ _ hP hS ls (lv_sub hl [1, 2, 0] rfl) (by omega) (cw_0) (Nat.lt_succ_self _)
          · skip
            refine j_bipush SS dX12_take_71 (by decide +kernel) ?_
            exact W.iret SS.1 SS.2.1 hr (fun t ht hW => ⟨⟨_, (uI (uI (uI (uI u 0 (u.1 0)) 1 (u.1 1)) 2 (u.1 2)) 3 (u.1 3)), rfl, ⟨(-3), rfl, (⟨(u.1 0), (u.1 1), (u.1 2), (u.1 3), rfl, Or.inl ⟨rfl, by rcases i18_1 with k | k; omega; rw [show i = u.2.2 9 by omega] at k; exact k.2, rfl, rfl, rfl, rfl⟩⟩)⟩, by show va_P D.1 j_cl (mW D o q (uI (uI (uI (uI u 0 (u.1 0)) 1 (u.1 1)) 2 (u.1 2)) 3 (u.1 3))) t.heap; rw [ht]; exact hP⟩, hS.F ht⟩) hS.2.2 dX12_take_73 hlk
        · skip
          refine lv_iload_n SS.1 SS.2.1 dX12_take_27 rfl (lv_at hl 3 rfl) ?_
          refine j_if_eq SS (tgt := 59) (x := w) dX12_take_28 (by decide) (by omega) (fun c_28 => ?_) (fun c_28 => ?_)
          · skip
            refine j_iconst SS dX12_take_59 ?_
            refine lv_istore_n (lv' := [(3, .int (J 0)), (0, .ref o), (1, .int (J s)), (2, .int (J b)), (4, .int (J i))]) SS.1 SS.2.1 dX12_take_60 rfl hl (by decide) rfl (fun ls hl => ?_)
            refine lv_iinc (v := J (i + 1)) (lv' := [(4, .int (J (i + 1))), (3, .int (J 0)), (0, .ref o), (1, .int (J s)), (2, .int (J b))]) SS.1 SS.2.1 dX12_take_61 hl (k := 4) rfl (J_add _ _) (by decide) rfl (fun ls hl => ?_)
            refine lv_goto (tgt := 18) SS.1 SS.2.1 dX12_take_64 (by decide) ?_
            exact ih_18 0 (i + 1) _ _ hP hS ls (lv_sub hl [2, 3, 4, 1, 0] rfl) (by omega) (by rw [tk_s i18_0.1]; first | (refine Or.inl ⟨rfl, ?_⟩; rcases i18_1 with k | k; exact ⟨k.2, fun _ => by omega⟩; omega) | (refine Or.inr ⟨rfl, ?_⟩; intro k; rcases i18_1 with k2 | k2; have := k.2 (by omega); omega; exact k2.2 k.1)) (by omega)
          · skip
            refine lv_iload_n SS.1 SS.2.1 dX12_take_31 rfl (lv_at hl 2 rfl) ?_
            refine j_if_eq SS (tgt := 55) (x := b) dX12_take_32 (by decide) (by omega) (fun c_32 => ?_) (fun c_32 => ?_)
            · skip
              refine j_iconst SS dX12_take_55 ?_
              refine lv_goto (tgt := 60) SS.1 SS.2.1 dX12_take_56 (by decide) ?_
              refine lv_istore_n (lv' := [(3, .int (J 1)), (0, .ref o), (1, .int (J s)), (2, .int (J b)), (4, .int (J i))]) SS.1 SS.2.1 dX12_take_60 rfl hl (by decide) rfl (fun ls hl => ?_)
              refine lv_iinc (v := J (i + 1)) (lv' := [(4, .int (J (i + 1))), (3, .int (J 1)), (0, .ref o), (1, .int (J s)), (2, .int (J b))]) SS.1 SS.2.1 dX12_take_61 hl (k := 4) rfl (J_add _ _) (by decide) rfl (fun ls hl => ?_)
              refine lv_goto (tgt := 18) SS.1 SS.2.1 dX12_take_64 (by decide) ?_
              exact ih_18 1 (i + 1) _ _ hP hS ls (lv_sub hl [2, 3, 4, 1, 0] rfl) (by omega) (by rw [tk_s i18_0.1]; first | (refine Or.inl ⟨rfl, ?_⟩; rcases i18_1 with k | k; exact ⟨k.2, fun _ => by omega⟩; omega) | (refine Or.inr ⟨rfl, ?_⟩; intro k; rcases i18_1 with k2 | k2; have := k.2 (by omega); omega; exact k2.2 k.1)) (by omega)
            · skip
              refine lv_aload_n SS.1 SS.2.1 dX12_take_35 rfl (lv_at hl 0 rfl) ?_
              refine j_get SS hG hP 0 (v := .ref (q 7)) (C := RX12) (T := TX12) (N := 31) rfl rfl inX12 7 (by decide) (ref := RX12) kw_1065 rfl rfl dX12_take_36 ?_
              refine lv_iload SS.1 SS.2.1 dX12_take_39 (lv_at hl 4 rfl) ?_
              refine j_iald SS hG hP 7 (n := 1300) (f := (u.1 7)) rfl (z := i) (by omega) (by omega) dX12_take_41 ?_
              refine lv_aload_n SS.1 SS.2.1 dX12_take_42 rfl (lv_at hl 0 rfl) ?_
              refine j_get SS hG hP 0 (v := .ref (q 8)) (C := RX12) (T := TX12) (N := 31) rfl rfl inX12 8 (by decide) (ref := RX12) kw_1066 rfl rfl dX12_take_43 ?_
              refine lv_iload SS.1 SS.2.1 dX12_take_46 (lv_at hl 4 rfl) ?_
              refine j_iald SS hG hP 8 (n := 1300) (f := (u.1 8)) rfl (z := i) (by omega) (by omega) dX12_take_48 ?_
              have q := bd_at p3 (z := i) (by omega) (by omega)
              refine j_sRi SS (As := [.int (J ((u.1 7) (i).toNat)), .int (J ((u.1 8) (i).toNat))]) (rest := []) (c_X12_isPlace l D ((u.1 7) (i).toNat) ((u.1 8) (i).toNat) (show -2147483648 ≤ ((u.1 7) (i).toNat) ∧ ((u.1 7) (i).toNat) ≤ 2147483647 from (by omega)) (show -2147483648 ≤ ((u.1 8) (i).toNat) ∧ ((u.1 8) (i).toNat) ≤ 2147483647 from (by omega))) mf_X12_isPlace kw_1166 hG trivial rfl hl.1 ⟨⟨Nat.le_of_ble_eq_true rfl, Nat.le_of_ble_eq_true rfl⟩, Nat.le_of_ble_eq_true rfl, Nat.le_refl _, Nat.le_refl _⟩ rfl dX12_take_49 (fun z_49 h_49 => ?_)
              have h_49 : (z_49 = 1 ∧ (-40 ≤ ((u.1 7) (i).toNat) ∧ ((u.1 7) (i).toNat) ≤ 40 ∧ -40 ≤ ((u.1 8) (i).toNat) ∧ ((u.1 8) (i).toNat) ≤ 40)) ∨ (z_49 = 0 ∧ ¬ (-40 ≤ ((u.1 7) (i).toNat) ∧ ((u.1 7) (i).toNat) ≤ 40 ∧ -40 ≤ ((u.1 8) (i).toNat) ∧ ((u.1 8) (i).toNat) ≤ 40)) := h_49
              refine j_if_eq SS (tgt := 59) (x := z_49) dX12_take_52 (by decide) (by omega) (fun c_52 => ?_) (fun c_52 => ?_)
              · skip
                refine j_iconst SS dX12_take_59 ?_
                refine lv_istore_n (lv' := [(3, .int (J 0)), (0, .ref o), (1, .int (J s)), (2, .int (J b)), (4, .int (J i))]) SS.1 SS.2.1 dX12_take_60 rfl hl (by decide) rfl (fun ls hl => ?_)
                refine lv_iinc (v := J (i + 1)) (lv' := [(4, .int (J (i + 1))), (3, .int (J 0)), (0, .ref o), (1, .int (J s)), (2, .int (J b))]) SS.1 SS.2.1 dX12_take_61 hl (k := 4) rfl (J_add _ _) (by decide) rfl (fun ls hl => ?_)
                refine lv_goto (tgt := 18) SS.1 SS.2.1 dX12_take_64 (by decide) ?_
                exact ih_18 0 (i + 1) _ _ hP hS ls (lv_sub hl [2, 3, 4, 1, 0] rfl) (by omega) (by rw [tk_s i18_0.1]; first | (refine Or.inl ⟨rfl, ?_⟩; rcases i18_1 with k | k; exact ⟨k.2, fun _ => by omega⟩; omega) | (refine Or.inr ⟨rfl, ?_⟩; intro k; rcases i18_1 with k2 | k2; have := k.2 (by omega); omega; exact k2.2 k.1)) (by omega)
              · skip
                refine j_iconst SS dX12_take_55 ?_
                refine lv_goto (tgt := 60) SS.1 SS.2.1 dX12_take_56 (by decide) ?_
                refine lv_istore_n (lv' := [(3, .int (J 1)), (0, .ref o), (1, .int (J s)), (2, .int (J b)), (4, .int (J i))]) SS.1 SS.2.1 dX12_take_60 rfl hl (by decide) rfl (fun ls hl => ?_)
                refine lv_iinc (v := J (i + 1)) (lv' := [(4, .int (J (i + 1))), (3, .int (J 1)), (0, .ref o), (1, .int (J s)), (2, .int (J b))]) SS.1 SS.2.1 dX12_take_61 hl (k := 4) rfl (J_add _ _) (by decide) rfl (fun ls hl => ?_)
                refine lv_goto (tgt := 18) SS.1 SS.2.1 dX12_take_64 (by decide) ?_
                exact ih_18 1 (i + 1) _ _ hP hS ls (lv_sub hl [2, 3, 4, 1, 0] rfl) (by omega) (by rw [tk_s i18_0.1]; first | (refine Or.inl ⟨rfl, ?_⟩; rcases i18_1 with k | k; exact ⟨k.2, fun _ => by omega⟩; omega) | (refine Or.inr ⟨rfl, ?_⟩; intro k; rcases i18_1 with k2 | k2; have := k.2 (by omega); omega; exact k2.2 k.1)) (by omega)
    exact L_18 ((u.2.2 9 - (0 : Int)).toNat + 1) 1 0 _ _ hP hS ls (lv_sub hl [2, 3, 4, 1, 0] rfl) (by omega) (by rw [tk_0]; omega) (Nat.lt_succ_self _)


section JE
variable {p : Program} {l : Launch} {e : Env} {R : Room} {s : State} {m : MethodId} {args : Array Value} {below : List Frame} {meth : Method} {c : Code} {H : Heap} {locs : List Loc} {cells slots : Nat} {Q : State → Prop}
variable {cc : ByteArray} {nL : Nat} {own : String} {pc : Nat} {ls : Array Slot} {rest : List Value}
theorem j_vRl (S : jS p m c cc nL s args own) {D : JD} {P : Heap → Prop} {b : Nat} {As : List Value} {post : Int64 → Prop} {y : MethodName} {bytes : ByteArray} {maxL n index f nl : Nat} {ret : Option FieldType} (hM : Met l y (jw y bytes maxL ret) (jr f nl) (jP (.ref b :: As) D P) (vp_Sl post) 0 0 (fun _ => False)) (hy : jmV y bytes maxL ret n) (hl : Cond.methodLink own index y ∈ lw_g) (hG : j_K D s) (hP : P H) {ws : va_W} {ci q0 : Nat} {fs : List Value} {q : vw_C} (hW : va_P D.1 j_cl ws H) (hc : j_cl[ci]? = some q) (he : ws[q0]? = some (b, .inr (ci, fs))) (hq : q.1 = y.cls) (hn : As.length = n) (hls : ls.size = nL) (hR : (f + 1 ≤ R.frames ∧ 8 + (maxL + 11) + nl ≤ R.locals) ∧ (rest.map fun v => v.category).sum ≤ 8 ∧ cells ≤ R.cells ∧ slots ≤ R.slots) {st0 : List Value} (hst : st0 = As.reverse ++ .ref b :: rest) (hdg : decode cc pc = .ok (.invokevirtual index, 3))
    (k : ∀ x : Int64, post x → W p l e R s m args below meth c H locs cells slots Q (F0 m (pc + 3) ls (.long x :: rest))) : W p l e R s m args below meth c H locs cells slots Q (F0 m pc ls st0) :=
  vp_callSl (W.runV (C := y.cls) S hM ⟨j_cB S hy.1 hy.2.1 hl hy.2.2.2.2 hR.1, S.2.2.2.2 _ hy.2.2.1, S.2.2.2.2 _ hy.2.2.2.1⟩ ⟨jP.blind, hq ▸ va_recv hG.1 hW hc he, jP.at hG hP⟩ rfl hn hls hst (lv_room hR.2.1) hdg hR.2.2) k
end JE
def sm (f : Nat → Int) : Nat → Int
  | 0 => 0
  | n + 1 => sm f n + f n
def smI (g : Int → Int) (n : Int) : Int := sm (fun a => g a) n.toNat
theorem smI_0 {g : Int → Int} : smI g 0 = 0 := rfl
theorem smI_s {g : Int → Int} {n : Int} (h : 0 ≤ n) : smI g (n + 1) = smI g n + g n := by
  unfold smI
  rw [show (n + 1).toNat = n.toNat + 1 by omega]
  show sm _ n.toNat + g ((n.toNat : Nat) : Int) = _
  rw [show ((n.toNat : Nat) : Int) = n by omega]
theorem gcd_b {a b K : Int} (ha : -K ≤ a ∧ a ≤ K) (hb : -K ≤ b ∧ b ≤ K) : 0 ≤ (Int.gcd a b : Int) ∧ (Int.gcd a b : Int) ≤ K := by
  by_cases h : a = 0
  · subst h; rw [Int.gcd_zero_left]; omega
  · have := Int.gcd_le_natAbs_left b h; omega
theorem gcd_p {a b : Int} (h : a ≠ 0 ∨ b ≠ 0) : 0 < (Int.gcd a b : Int) := by
  rcases h with h | h
  · have := Int.gcd_pos_of_ne_zero_left b h; omega
  · have := Int.gcd_pos_of_ne_zero_right a h; omega
def mS (u : MS) (s i : Int) : Int := (Int.gcd (mX u s (i + 1) - mX u s i) (mY u s (i + 1) - mY u s i) : Int)
def mAr (u : MS) (s : Int) : Int := smI (fun i => mX u s i * mY u s (i + 1) - mX u s (i + 1) * mY u s i) (mN u s)
def mEd (u : MS) (s : Int) : Int := if mN u s < 2 then mN u s else if mN u s = 2 then mS u s 0 + 1 else smI (mS u s) (mN u s)
def mIn (u : MS) (s : Int) : Int := if 2 < mN u s then (mAr u s - mEd u s + 2).tdiv 2 else 0
theorem mS_b {u : MS} {s i : Int} (h : ∀ i : Int, 0 ≤ i → (-40 ≤ mX u s i ∧ mX u s i ≤ 40) ∧ (-40 ≤ mY u s i ∧ mY u s i ≤ 40)) (hi : 0 ≤ i) : 0 ≤ mS u s i ∧ mS u s i ≤ 80 := by
  have a := h i hi; have b := h (i + 1) (by omega)
  exact gcd_b (by omega) (by omega)
theorem Ch_ne {n : Int} {X Y : Nat → Int} (h : Ch n X Y) (hn : 2 ≤ n) {a : Nat} (ha : (a : Int) < n) : X (a + 1) ≠ X a ∨ Y (a + 1) ≠ Y a := by
  rcases h with h | ⟨t, h1, h2, h3, h4, h5, h6, h7, h8⟩
  · omega
  · by_cases e : a < t
    · have := h3 a e; unfold lt2 at this; omega
    · have := h5 a (by omega) ha; unfold lt2 at this; omega
theorem mS_p {u : MS} {s i : Int} (h : Ch (mN u s) (fun a => mX u s a) (fun a => mY u s a)) (hn : 2 ≤ mN u s) (h0 : 0 ≤ i) (hi : i < mN u s) : 0 < mS u s i := by
  have := Ch_ne h hn (a := i.toNat) (by omega)
  rw [show ((i.toNat + 1 : Nat) : Int) = i + 1 by omega, show ((i.toNat : Nat) : Int) = i by omega] at this
  exact gcd_p (by omega)
set_option maxHeartbeats 4000000 in
set_option maxRecDepth 100000 in
theorem c_X12_isPolygon (l : Launch) (D : JD) (o : Nat) (q : Nat → Nat) (u : MS) (s : Int) (p0 : 0 ≤ s ∧ s ≤ 7) (p1 : Sh u s) : Met l yX12_isPolygon (jw yX12_isPolygon cX12_isPolygon 2 (some .boolean)) (jr 0 0) (jP [.ref o, .int (J s)] D (fun H => va_P D.1 j_cl (mW D o q u) H)) (jRi (fun z => (z = 1 ∧ 2 < mN u s) ∨ (z = 0 ∧ mN u s ≤ 2))) 0 0 (fun _ => False) := by
  refine Met.ofW (cc := cX12_isPolygon) (maxL := 2) (ret := (some .boolean)) (by decide) rfl ?_
  intro pr en st mi args below meth co s₁ B hml hv
  obtain ⟨rfl, hG, hP⟩ := hv
  have hr := B.returns
  have hlk := B.notSynchronized
  have SS : jS pr mi co cX12_isPolygon 2 st _ RX12 := ⟨B.exec, B.bytes, hml, findClass_of_methodNamed B.named, fun w hw => atoms_spec (ws := (jw yX12_isPolygon cX12_isPolygon 2 (some .boolean))) B.pre w (List.mem_cons_of_mem _ hw)⟩
  have hl := lv_entry ([.ref o, .int (J s)]) (n := 2) (Nat.le_of_ble_eq_true rfl)
  rw [lg_entry_eq]
  generalize (lg_sl ([.ref o, .int (J s)]) ++ List.replicate (2 - (lg_sl ([.ref o, .int (J s)])).length) Slot.unset).toArray = ls at hl ⊢
  have hl : lv_has ls 2 [(0, .ref o), (1, .int (J s))] := hl
  have hN := p1.1
  have hC := p1.2.2
  refine lv_aload_n SS.1 SS.2.1 dX12_isPolygon_0 rfl (lv_at hl 0 rfl) ?_
  refine j_get SS hG hP 0 (v := .ref (q 0)) (C := RX12) (T := TX12) (N := 31) rfl rfl inX12 0 (by decide) (ref := RX12) kw_1058 rfl rfl dX12_isPolygon_1 ?_
  refine lv_iload_n SS.1 SS.2.1 dX12_isPolygon_4 rfl (lv_at hl 1 rfl) ?_
  refine j_iald SS hG hP 1 (n := 8) (f := (u.1 0)) rfl (z := s) (by omega) (by omega) dX12_isPolygon_5 ?_
  refine j_iconst SS dX12_isPolygon_6 ?_
  refine j_icmp_le SS (tgt := 14) (x := (mN u s)) (y := 2) dX12_isPolygon_7 (by decide) (by omega) (by decide) (fun c_7 => ?_) (fun c_7 => ?_)
  · skip
    refine j_iconst SS dX12_isPolygon_14 ?_
    exact W.zret SS.1 SS.2.1 hr (j_nz (by decide)) (fun t ht hW => ⟨_, rfl, ⟨0, rfl, (by omega)⟩, ht⟩) (fun _ h => nomatch h) dX12_isPolygon_15 hlk
  · skip
    refine j_iconst SS dX12_isPolygon_10 ?_
    refine lv_goto (tgt := 15) SS.1 SS.2.1 dX12_isPolygon_11 (by decide) ?_
    exact W.zret SS.1 SS.2.1 hr (j_nz (by decide)) (fun t ht hW => ⟨_, rfl, ⟨1, rfl, (by omega)⟩, ht⟩) (fun _ h => nomatch h) dX12_isPolygon_15 hlk

set_option maxHeartbeats 4000000 in
set_option maxRecDepth 100000 in
theorem c_X12_cross (l : Launch) (D : JD) (a : Int) (b : Int) (c : Int) (d : Int) : Met l yX12_cross (jw yX12_cross cX12_cross 4 (some .int)) (jr 0 0) (jP [.int (J a), .int (J b), .int (J c), .int (J d)] D (fun _ => True)) (jRi (fun z => z = a * d - b * c)) 0 0 (fun _ => False) := by
  refine Met.ofW (cc := cX12_cross) (maxL := 4) (ret := (some .int)) (by decide) rfl ?_
  intro pr en st mi args below meth co s₁ B hml hv
  obtain ⟨rfl, hG, hP⟩ := hv
  have hr := B.returns
  have hlk := B.notSynchronized
  have SS : jS pr mi co cX12_cross 4 st _ RX12 := ⟨B.exec, B.bytes, hml, findClass_of_methodNamed B.named, fun w hw => atoms_spec (ws := (jw yX12_cross cX12_cross 4 (some .int))) B.pre w (List.mem_cons_of_mem _ hw)⟩
  have hl := lv_entry ([.int (J a), .int (J b), .int (J c), .int (J d)]) (n := 4) (Nat.le_of_ble_eq_true rfl)
  rw [lg_entry_eq]
  generalize (lg_sl ([.int (J a), .int (J b), .int (J c), .int (J d)]) ++ List.replicate (4 - (lg_sl ([.int (J a), .int (J b), .int (J c), .int (J d)])).length) Slot.unset).toArray = ls at hl ⊢
  have hl : lv_has ls 4 [(0, .int (J a)), (1, .int (J b)), (2, .int (J c)), (3, .int (J d))] := hl
  refine lv_iload_n SS.1 SS.2.1 dX12_cross_0 rfl (lv_at hl 0 rfl) ?_
  refine lv_iload_n SS.1 SS.2.1 dX12_cross_1 rfl (lv_at hl 3 rfl) ?_
  refine j_imul SS (x := a) (y := d) dX12_cross_2 ?_
  refine lv_iload_n SS.1 SS.2.1 dX12_cross_3 rfl (lv_at hl 1 rfl) ?_
  refine lv_iload_n SS.1 SS.2.1 dX12_cross_4 rfl (lv_at hl 2 rfl) ?_
  refine j_imul SS (x := b) (y := c) dX12_cross_5 ?_
  refine j_isub SS (x := (a * d)) (y := (b * c)) dX12_cross_6 ?_
  exact W.iret SS.1 SS.2.1 hr (fun t ht hW => ⟨_, rfl, ⟨((a * d) - (b * c)), rfl, (by omega)⟩, ht⟩) (fun _ h => nomatch h) dX12_cross_7 hlk

set_option maxHeartbeats 4000000 in
set_option maxRecDepth 100000 in
theorem c_X12_areaOf (l : Launch) (D : JD) (o : Nat) (q : Nat → Nat) (u : MS) (s : Int) (p0 : 0 ≤ s ∧ s ≤ 7) (p1 : Sh u s) : Met l yX12_areaOf (jw yX12_areaOf cX12_areaOf 4 (some .int)) (jr 1 22) (jP [.ref o, .int (J s)] D (fun H => va_P D.1 j_cl (mW D o q u) H)) (jRi (fun z => z = mAr u s ∧ -80000 ≤ z ∧ z ≤ 80000)) 0 0 (fun _ => False) := by
  refine Met.ofW (cc := cX12_areaOf) (maxL := 4) (ret := (some .int)) (by decide) rfl ?_
  intro pr en st mi args below meth co s₁ B hml hv
  obtain ⟨rfl, hG, hP⟩ := hv
  have hr := B.returns
  have hlk := B.notSynchronized
  have SS : jS pr mi co cX12_areaOf 4 st _ RX12 := ⟨B.exec, B.bytes, hml, findClass_of_methodNamed B.named, fun w hw => atoms_spec (ws := (jw yX12_areaOf cX12_areaOf 4 (some .int))) B.pre w (List.mem_cons_of_mem _ hw)⟩
  have hl := lv_entry ([.ref o, .int (J s)]) (n := 4) (Nat.le_of_ble_eq_true rfl)
  rw [lg_entry_eq]
  generalize (lg_sl ([.ref o, .int (J s)]) ++ List.replicate (4 - (lg_sl ([.ref o, .int (J s)])).length) Slot.unset).toArray = ls at hl ⊢
  have hl : lv_has ls 4 [(0, .ref o), (1, .int (J s))] := hl
  have hN := p1.1
  have hC := p1.2.2
  refine j_iconst SS dX12_areaOf_0 ?_
  refine lv_istore_n (lv' := [(2, .int (J 0)), (0, .ref o), (1, .int (J s))]) SS.1 SS.2.1 dX12_areaOf_1 rfl hl (by decide) rfl (fun ls hl => ?_)
  refine j_iconst SS dX12_areaOf_2 ?_
  refine lv_istore_n (lv' := [(3, .int (J 0)), (2, .int (J 0)), (0, .ref o), (1, .int (J s))]) SS.1 SS.2.1 dX12_areaOf_3 rfl hl (by decide) rfl (fun ls hl => ?_)
  have L_4 : ∀ (nn : Nat) (a : Int) (i : Int) (ls : Array Slot) (hl : lv_has ls 4 [(0, .ref o), (1, .int (J s)), (2, .int (J a)), (3, .int (J i))]) (i4_0 : 0 ≤ i ∧ i ≤ mN u s) (i4_1 : a = smI (fun i => mX u s i * mY u s (i + 1) - mX u s (i + 1) * mY u s i) i) (i4_2 : -3200 * i ≤ a ∧ a ≤ 3200 * i), (mN u s - i).toNat < nn → W pr l en (headSpec (jw yX12_areaOf cX12_areaOf 4 (some .int)) (jr 1 22)).room st mi (([.ref o, .int (J s)] : List Value).toArray) below meth co st.heap [] 0 0 (MQ below (jRi (fun z => z = mAr u s ∧ -80000 ≤ z ∧ z ≤ 80000)) (([.ref o, .int (J s)] : List Value).toArray) st 0 0 (fun _ => False)) (F0 mi 4 ls []) := by
    intro nn
    induction nn with
    | zero => intros; omega
    | succ nn ih_4 =>
      intro a i ls hl i4_0 i4_1 i4_2 hm
      refine lv_iload_n SS.1 SS.2.1 dX12_areaOf_4 rfl (lv_at hl 3 rfl) ?_
      refine lv_aload_n SS.1 SS.2.1 dX12_areaOf_5 rfl (lv_at hl 0 rfl) ?_
      refine j_get SS hG hP 0 (v := .ref (q 0)) (C := RX12) (T := TX12) (N := 31) rfl rfl inX12 0 (by decide) (ref := RX12) kw_1058 rfl rfl dX12_areaOf_6 ?_
      refine lv_iload_n SS.1 SS.2.1 dX12_areaOf_9 rfl (lv_at hl 1 rfl) ?_
      refine j_iald SS hG hP 1 (n := 8) (f := (u.1 0)) rfl (z := s) (by omega) (by omega) dX12_areaOf_10 ?_
      refine j_icmp_ge SS (tgt := 54) (x := i) (y := (mN u s)) dX12_areaOf_11 (by decide) (by omega) (by omega) (fun c_11 => ?_) (fun c_11 => ?_)
      · skip
        refine lv_iload_n SS.1 SS.2.1 dX12_areaOf_54 rfl (lv_at hl 2 rfl) ?_
        exact W.iret SS.1 SS.2.1 hr (fun t ht hW => ⟨_, rfl, ⟨a, rfl, (⟨by rw [i4_1, show i = mN u s by omega]; rfl, by omega, by omega⟩)⟩, ht⟩) (fun _ h => nomatch h) dX12_areaOf_55 hlk
      · skip
        have b1 := p1.2.1 (by omega) i (by omega)
        have b2 := p1.2.1 (by omega) (i + 1) (by omega)
        have m1 := mulb b1.1 b2.2
        have m2 := mulb b2.1 b1.2
        refine lv_iload_n SS.1 SS.2.1 dX12_areaOf_14 rfl (lv_at hl 2 rfl) ?_
        refine lv_aload_n SS.1 SS.2.1 dX12_areaOf_15 rfl (lv_at hl 0 rfl) ?_
        refine lv_iload_n SS.1 SS.2.1 dX12_areaOf_16 rfl (lv_at hl 1 rfl) ?_
        refine lv_iload_n SS.1 SS.2.1 dX12_areaOf_17 rfl (lv_at hl 3 rfl) ?_
        refine j_vRi SS (As := [.int (J s), .int (J i)]) (rest := [.int (J a)]) (c_X12_x l D o q u s i (show 0 ≤ s ∧ s ≤ 7 from (by omega)) (show 0 ≤ i ∧ i ≤ 1000000 from (by omega)) (show 0 < mN u s ∧ mN u s ≤ 24 from (by omega))) mf_X12_x kw_1177 hG hP hP (ci := 8) (q0 := 0) rfl rfl rfl rfl hl.1 ⟨⟨Nat.le_of_ble_eq_true rfl, Nat.le_of_ble_eq_true rfl⟩, Nat.le_of_ble_eq_true rfl, Nat.le_refl _, Nat.le_refl _⟩ rfl dX12_areaOf_18 (fun z_18 h_18 => ?_)
        have h_18 : z_18 = mX u s i := h_18
        refine lv_aload_n SS.1 SS.2.1 dX12_areaOf_21 rfl (lv_at hl 0 rfl) ?_
        refine lv_iload_n SS.1 SS.2.1 dX12_areaOf_22 rfl (lv_at hl 1 rfl) ?_
        refine lv_iload_n SS.1 SS.2.1 dX12_areaOf_23 rfl (lv_at hl 3 rfl) ?_
        refine j_iconst SS dX12_areaOf_24 ?_
        refine j_iadd SS (x := i) (y := 1) dX12_areaOf_25 ?_
        refine j_vRi SS (As := [.int (J s), .int (J (i + 1))]) (rest := [.int (J z_18), .int (J a)]) (c_X12_y l D o q u s (i + 1) (show 0 ≤ s ∧ s ≤ 7 from (by omega)) (show 0 ≤ (i + 1) ∧ (i + 1) ≤ 1000000 from (by omega)) (show 0 < mN u s ∧ mN u s ≤ 24 from (by omega))) mf_X12_y kw_1181 hG hP hP (ci := 8) (q0 := 0) rfl rfl rfl rfl hl.1 ⟨⟨Nat.le_of_ble_eq_true rfl, Nat.le_of_ble_eq_true rfl⟩, Nat.le_of_ble_eq_true rfl, Nat.le_refl _, Nat.le_refl _⟩ rfl dX12_areaOf_26 (fun z_26 h_26 => ?_)
        have h_26 : z_26 = mY u s (i + 1) := h_26
        refine j_imul SS (x := z_18) (y := z_26) dX12_areaOf_29 ?_
        refine lv_aload_n SS.1 SS.2.1 dX12_areaOf_30 rfl (lv_at hl 0 rfl) ?_
        refine lv_iload_n SS.1 SS.2.1 dX12_areaOf_31 rfl (lv_at hl 1 rfl) ?_
        refine lv_iload_n SS.1 SS.2.1 dX12_areaOf_32 rfl (lv_at hl 3 rfl) ?_
        refine j_iconst SS dX12_areaOf_33 ?_
        refine j_iadd SS (x := i) (y := 1) dX12_areaOf_34 ?_
        refine j_vRi SS (As := [.int (J s), .int (J (i + 1))]) (rest := [.int (J (z_18 * z_26)), .int (J a)]) (c_X12_x l D o q u s (i + 1) (show 0 ≤ s ∧ s ≤ 7 from (by omega)) (show 0 ≤ (i + 1) ∧ (i + 1) ≤ 1000000 from (by omega)) (show 0 < mN u s ∧ mN u s ≤ 24 from (by omega))) mf_X12_x kw_1177 hG hP hP (ci := 8) (q0 := 0) rfl rfl rfl rfl hl.1 ⟨⟨Nat.le_of_ble_eq_true rfl, Nat.le_of_ble_eq_true rfl⟩, Nat.le_of_ble_eq_true rfl, Nat.le_refl _, Nat.le_refl _⟩ rfl dX12_areaOf_35 (fun z_35 h_35 => ?_)
        have h_35 : z_35 = mX u s (i + 1) := h_35
        refine lv_aload_n SS.1 SS.2.1 dX12_areaOf_38 rfl (lv_at hl 0 rfl) ?_
        refine lv_iload_n SS.1 SS.2.1 dX12_areaOf_39 rfl (lv_at hl 1 rfl) ?_
        refine lv_iload_n SS.1 SS.2.1 dX12_areaOf_40 rfl (lv_at hl 3 rfl) ?_
        refine j_vRi SS (As := [.int (J s), .int (J i)]) (rest := [.int (J z_35), .int (J (z_18 * z_26)), .int (J a)]) (c_X12_y l D o q u s i (show 0 ≤ s ∧ s ≤ 7 from (by omega)) (show 0 ≤ i ∧ i ≤ 1000000 from (by omega)) (show 0 < mN u s ∧ mN u s ≤ 24 from (by omega))) mf_X12_y kw_1181 hG hP hP (ci := 8) (q0 := 0) rfl rfl rfl rfl hl.1 ⟨⟨Nat.le_of_ble_eq_true rfl, Nat.le_of_ble_eq_true rfl⟩, Nat.le_of_ble_eq_true rfl, Nat.le_refl _, Nat.le_refl _⟩ rfl dX12_areaOf_41 (fun z_41 h_41 => ?_)
        have h_41 : z_41 = mY u s i := h_41
        refine j_imul SS (x := z_35) (y := z_41) dX12_areaOf_44 ?_
        refine j_isub SS (x := (z_18 * z_26)) (y := (z_35 * z_41)) dX12_areaOf_45 ?_
        refine j_iadd SS (x := a) (y := ((z_18 * z_26) - (z_35 * z_41))) dX12_areaOf_46 ?_
        refine lv_istore_n (lv' := [(2, .int (J (a + ((z_18 * z_26) - (z_35 * z_41))))), (0, .ref o), (1, .int (J s)), (3, .int (J i))]) SS.1 SS.2.1 dX12_areaOf_47 rfl hl (by decide) rfl (fun ls hl => ?_)
        refine lv_iinc (v := J (i + 1)) (lv' := [(3, .int (J (i + 1))), (2, .int (J (a + ((z_18 * z_26) - (z_35 * z_41))))), (0, .ref o), (1, .int (J s))]) SS.1 SS.2.1 dX12_areaOf_48 hl (k := 3) rfl (J_add _ _) (by decide) rfl (fun ls hl => ?_)
        refine lv_goto (tgt := 4) SS.1 SS.2.1 dX12_areaOf_51 (by decide) ?_
        exact ih_4 (a + ((z_18 * z_26) - (z_35 * z_41))) (i + 1) ls (lv_sub hl [2, 3, 1, 0] rfl) (by omega) (by rw [smI_s i4_0.1, ← i4_1, h_18, h_26, h_35, h_41]) (by rw [h_18, h_26, h_35, h_41]; omega) (by omega)
  exact L_4 ((mN u s - (0 : Int)).toNat + 1) 0 0 ls (lv_sub hl [2, 3, 1, 0] rfl) (by omega) (smI_0.symm) (by omega) (Nat.lt_succ_self _)

set_option maxHeartbeats 4000000 in
set_option maxRecDepth 100000 in
theorem c_X12_stepsOf (l : Launch) (D : JD) (o : Nat) (q : Nat → Nat) (u : MS) (s : Int) (i : Int) (p0 : 0 ≤ s ∧ s ≤ 7) (p1 : Sh u s) (p2 : 0 ≤ i ∧ i ≤ 100) (p3 : 0 < mN u s) : Met l yX12_stepsOf (jw yX12_stepsOf cX12_stepsOf 3 (some .int)) (jr 2 44) (jP [.ref o, .int (J s), .int (J i)] D (fun H => va_P D.1 j_cl (mW D o q u) H)) (jRi (fun z => z = mS u s i ∧ 0 ≤ z ∧ z ≤ 80)) 0 0 (fun _ => False) := by
  refine Met.ofW (cc := cX12_stepsOf) (maxL := 3) (ret := (some .int)) (by decide) rfl ?_
  intro pr en st mi args below meth co s₁ B hml hv
  obtain ⟨rfl, hG, hP⟩ := hv
  have hr := B.returns
  have hlk := B.notSynchronized
  have SS : jS pr mi co cX12_stepsOf 3 st _ RX12 := ⟨B.exec, B.bytes, hml, findClass_of_methodNamed B.named, fun w hw => atoms_spec (ws := (jw yX12_stepsOf cX12_stepsOf 3 (some .int))) B.pre w (List.mem_cons_of_mem _ hw)⟩
  have hl := lv_entry ([.ref o, .int (J s), .int (J i)]) (n := 3) (Nat.le_of_ble_eq_true rfl)
  rw [lg_entry_eq]
  generalize (lg_sl ([.ref o, .int (J s), .int (J i)]) ++ List.replicate (3 - (lg_sl ([.ref o, .int (J s), .int (J i)])).length) Slot.unset).toArray = ls at hl ⊢
  have hl : lv_has ls 3 [(0, .ref o), (1, .int (J s)), (2, .int (J i))] := hl
  have hN := p1.1
  have hC := p1.2.2
  have b1 := p1.2.1 p3 i (by omega)
  have b2 := p1.2.1 p3 (i + 1) (by omega)
  refine lv_aload_n SS.1 SS.2.1 dX12_stepsOf_0 rfl (lv_at hl 0 rfl) ?_
  refine lv_iload_n SS.1 SS.2.1 dX12_stepsOf_1 rfl (lv_at hl 1 rfl) ?_
  refine lv_iload_n SS.1 SS.2.1 dX12_stepsOf_2 rfl (lv_at hl 2 rfl) ?_
  refine j_iconst SS dX12_stepsOf_3 ?_
  refine j_iadd SS (x := i) (y := 1) dX12_stepsOf_4 ?_
  refine j_vRi SS (As := [.int (J s), .int (J (i + 1))]) (rest := []) (c_X12_x l D o q u s (i + 1) (show 0 ≤ s ∧ s ≤ 7 from (by omega)) (show 0 ≤ (i + 1) ∧ (i + 1) ≤ 1000000 from (by omega)) (show 0 < mN u s ∧ mN u s ≤ 24 from (by omega))) mf_X12_x kw_1177 hG hP hP (ci := 8) (q0 := 0) rfl rfl rfl rfl hl.1 ⟨⟨Nat.le_of_ble_eq_true rfl, Nat.le_of_ble_eq_true rfl⟩, Nat.le_of_ble_eq_true rfl, Nat.le_refl _, Nat.le_refl _⟩ rfl dX12_stepsOf_5 (fun z_5 h_5 => ?_)
  have h_5 : z_5 = mX u s (i + 1) := h_5
  refine lv_aload_n SS.1 SS.2.1 dX12_stepsOf_8 rfl (lv_at hl 0 rfl) ?_
  refine lv_iload_n SS.1 SS.2.1 dX12_stepsOf_9 rfl (lv_at hl 1 rfl) ?_
  refine lv_iload_n SS.1 SS.2.1 dX12_stepsOf_10 rfl (lv_at hl 2 rfl) ?_
  refine j_vRi SS (As := [.int (J s), .int (J i)]) (rest := [.int (J z_5)]) (c_X12_x l D o q u s i (show 0 ≤ s ∧ s ≤ 7 from (by omega)) (show 0 ≤ i ∧ i ≤ 1000000 from (by omega)) (show 0 < mN u s ∧ mN u s ≤ 24 from (by omega))) mf_X12_x kw_1177 hG hP hP (ci := 8) (q0 := 0) rfl rfl rfl rfl hl.1 ⟨⟨Nat.le_of_ble_eq_true rfl, Nat.le_of_ble_eq_true rfl⟩, Nat.le_of_ble_eq_true rfl, Nat.le_refl _, Nat.le_refl _⟩ rfl dX12_stepsOf_11 (fun z_11 h_11 => ?_)
  have h_11 : z_11 = mX u s i := h_11
  refine j_isub SS (x := z_5) (y := z_11) dX12_stepsOf_14 ?_
  refine lv_aload_n SS.1 SS.2.1 dX12_stepsOf_15 rfl (lv_at hl 0 rfl) ?_
  refine lv_iload_n SS.1 SS.2.1 dX12_stepsOf_16 rfl (lv_at hl 1 rfl) ?_
  refine lv_iload_n SS.1 SS.2.1 dX12_stepsOf_17 rfl (lv_at hl 2 rfl) ?_
  refine j_iconst SS dX12_stepsOf_18 ?_
  refine j_iadd SS (x := i) (y := 1) dX12_stepsOf_19 ?_
  refine j_vRi SS (As := [.int (J s), .int (J (i + 1))]) (rest := [.int (J (z_5 - z_11))]) (c_X12_y l D o q u s (i + 1) (show 0 ≤ s ∧ s ≤ 7 from (by omega)) (show 0 ≤ (i + 1) ∧ (i + 1) ≤ 1000000 from (by omega)) (show 0 < mN u s ∧ mN u s ≤ 24 from (by omega))) mf_X12_y kw_1181 hG hP hP (ci := 8) (q0 := 0) rfl rfl rfl rfl hl.1 ⟨⟨Nat.le_of_ble_eq_true rfl, Nat.le_of_ble_eq_true rfl⟩, Nat.le_of_ble_eq_true rfl, Nat.le_refl _, Nat.le_refl _⟩ rfl dX12_stepsOf_20 (fun z_20 h_20 => ?_)
  have h_20 : z_20 = mY u s (i + 1) := h_20
  refine lv_aload_n SS.1 SS.2.1 dX12_stepsOf_23 rfl (lv_at hl 0 rfl) ?_
  refine lv_iload_n SS.1 SS.2.1 dX12_stepsOf_24 rfl (lv_at hl 1 rfl) ?_
  refine lv_iload_n SS.1 SS.2.1 dX12_stepsOf_25 rfl (lv_at hl 2 rfl) ?_
  refine j_vRi SS (As := [.int (J s), .int (J i)]) (rest := [.int (J z_20), .int (J (z_5 - z_11))]) (c_X12_y l D o q u s i (show 0 ≤ s ∧ s ≤ 7 from (by omega)) (show 0 ≤ i ∧ i ≤ 1000000 from (by omega)) (show 0 < mN u s ∧ mN u s ≤ 24 from (by omega))) mf_X12_y kw_1181 hG hP hP (ci := 8) (q0 := 0) rfl rfl rfl rfl hl.1 ⟨⟨Nat.le_of_ble_eq_true rfl, Nat.le_of_ble_eq_true rfl⟩, Nat.le_of_ble_eq_true rfl, Nat.le_refl _, Nat.le_refl _⟩ rfl dX12_stepsOf_26 (fun z_26 h_26 => ?_)
  have h_26 : z_26 = mY u s i := h_26
  refine j_isub SS (x := z_20) (y := z_26) dX12_stepsOf_29 ?_
  refine j_sRi SS (As := [.int (J (z_5 - z_11)), .int (J (z_20 - z_26))]) (rest := []) (c_X12_common l D (z_5 - z_11) (z_20 - z_26) (show -2147483648 < (z_5 - z_11) ∧ (z_5 - z_11) ≤ 2147483647 from (by omega)) (show -2147483648 < (z_20 - z_26) ∧ (z_20 - z_26) ≤ 2147483647 from (by omega))) mf_X12_common kw_1230 hG trivial rfl hl.1 ⟨⟨Nat.le_of_ble_eq_true rfl, Nat.le_of_ble_eq_true rfl⟩, Nat.le_of_ble_eq_true rfl, Nat.le_refl _, Nat.le_refl _⟩ rfl dX12_stepsOf_30 (fun z_30 h_30 => ?_)
  have h_30 : z_30 = (Int.gcd (z_5 - z_11) (z_20 - z_26) : Int) := h_30
  exact W.iret SS.1 SS.2.1 hr (fun t ht hW => ⟨_, rfl, ⟨z_30, rfl, (⟨by rw [h_30, h_5, h_11, h_20, h_26]; rfl, by rw [h_30]; exact (gcd_b (K := 80) (by omega) (by omega)).1, by rw [h_30]; exact (gcd_b (K := 80) (by omega) (by omega)).2⟩)⟩, ht⟩) (fun _ h => nomatch h) dX12_stepsOf_33 hlk

set_option maxHeartbeats 4000000 in
set_option maxRecDepth 100000 in
theorem c_X12_edgeOf (l : Launch) (D : JD) (o : Nat) (q : Nat → Nat) (u : MS) (s : Int) (p0 : 0 ≤ s ∧ s ≤ 7) (p1 : Sh u s) : Met l yX12_edgeOf (jw yX12_edgeOf cX12_edgeOf 4 (some .int)) (jr 3 66) (jP [.ref o, .int (J s)] D (fun H => va_P D.1 j_cl (mW D o q u) H)) (jRi (fun z => z = mEd u s ∧ 0 ≤ z ∧ z ≤ 2000)) 0 0 (fun _ => False) := by
  refine Met.ofW (cc := cX12_edgeOf) (maxL := 4) (ret := (some .int)) (by decide) rfl ?_
  intro pr en st mi args below meth co s₁ B hml hv
  obtain ⟨rfl, hG, hP⟩ := hv
  have hr := B.returns
  have hlk := B.notSynchronized
  have SS : jS pr mi co cX12_edgeOf 4 st _ RX12 := ⟨B.exec, B.bytes, hml, findClass_of_methodNamed B.named, fun w hw => atoms_spec (ws := (jw yX12_edgeOf cX12_edgeOf 4 (some .int))) B.pre w (List.mem_cons_of_mem _ hw)⟩
  have hl := lv_entry ([.ref o, .int (J s)]) (n := 4) (Nat.le_of_ble_eq_true rfl)
  rw [lg_entry_eq]
  generalize (lg_sl ([.ref o, .int (J s)]) ++ List.replicate (4 - (lg_sl ([.ref o, .int (J s)])).length) Slot.unset).toArray = ls at hl ⊢
  have hl : lv_has ls 4 [(0, .ref o), (1, .int (J s))] := hl
  have hN := p1.1
  have hC := p1.2.2
  refine lv_aload_n SS.1 SS.2.1 dX12_edgeOf_0 rfl (lv_at hl 0 rfl) ?_
  refine j_get SS hG hP 0 (v := .ref (q 0)) (C := RX12) (T := TX12) (N := 31) rfl rfl inX12 0 (by decide) (ref := RX12) kw_1058 rfl rfl dX12_edgeOf_1 ?_
  refine lv_iload_n SS.1 SS.2.1 dX12_edgeOf_4 rfl (lv_at hl 1 rfl) ?_
  refine j_iald SS hG hP 1 (n := 8) (f := (u.1 0)) rfl (z := s) (by omega) (by omega) dX12_edgeOf_5 ?_
  refine j_iconst SS dX12_edgeOf_6 ?_
  refine j_icmp_ge SS (tgt := 17) (x := (mN u s)) (y := 2) dX12_edgeOf_7 (by decide) (by omega) (by decide) (fun c_7 => ?_) (fun c_7 => ?_)
  · skip
    refine lv_aload_n SS.1 SS.2.1 dX12_edgeOf_17 rfl (lv_at hl 0 rfl) ?_
    refine j_get SS hG hP 0 (v := .ref (q 0)) (C := RX12) (T := TX12) (N := 31) rfl rfl inX12 0 (by decide) (ref := RX12) kw_1058 rfl rfl dX12_edgeOf_18 ?_
    refine lv_iload_n SS.1 SS.2.1 dX12_edgeOf_21 rfl (lv_at hl 1 rfl) ?_
    refine j_iald SS hG hP 1 (n := 8) (f := (u.1 0)) rfl (z := s) (by omega) (by omega) dX12_edgeOf_22 ?_
    refine j_iconst SS dX12_edgeOf_23 ?_
    refine j_icmp_ne SS (tgt := 36) (x := (mN u s)) (y := 2) dX12_edgeOf_24 (by decide) (by omega) (by decide) (fun c_24 => ?_) (fun c_24 => ?_)
    · skip
      refine j_iconst SS dX12_edgeOf_36 ?_
      refine lv_istore_n (lv' := [(2, .int (J 0)), (0, .ref o), (1, .int (J s))]) SS.1 SS.2.1 dX12_edgeOf_37 rfl hl (by decide) rfl (fun ls hl => ?_)
      refine j_iconst SS dX12_edgeOf_38 ?_
      refine lv_istore_n (lv' := [(3, .int (J 0)), (2, .int (J 0)), (0, .ref o), (1, .int (J s))]) SS.1 SS.2.1 dX12_edgeOf_39 rfl hl (by decide) rfl (fun ls hl => ?_)
      have L_40 : ∀ (nn : Nat) (a : Int) (i : Int) (ls : Array Slot) (hl : lv_has ls 4 [(0, .ref o), (1, .int (J s)), (2, .int (J a)), (3, .int (J i))]) (i40_0 : 0 ≤ i ∧ i ≤ mN u s) (i40_1 : a = smI (mS u s) i) (i40_2 : 0 ≤ a ∧ a ≤ 80 * i), (mN u s - i).toNat < nn → W pr l en (headSpec (jw yX12_edgeOf cX12_edgeOf 4 (some .int)) (jr 3 66)).room st mi (([.ref o, .int (J s)] : List Value).toArray) below meth co st.heap [] 0 0 (MQ below (jRi (fun z => z = mEd u s ∧ 0 ≤ z ∧ z ≤ 2000)) (([.ref o, .int (J s)] : List Value).toArray) st 0 0 (fun _ => False)) (F0 mi 40 ls []) := by
        intro nn
        induction nn with
        | zero => intros; omega
        | succ nn ih_40 =>
          intro a i ls hl i40_0 i40_1 i40_2 hm
          refine lv_iload_n SS.1 SS.2.1 dX12_edgeOf_40 rfl (lv_at hl 3 rfl) ?_
          refine lv_aload_n SS.1 SS.2.1 dX12_edgeOf_41 rfl (lv_at hl 0 rfl) ?_
          refine j_get SS hG hP 0 (v := .ref (q 0)) (C := RX12) (T := TX12) (N := 31) rfl rfl inX12 0 (by decide) (ref := RX12) kw_1058 rfl rfl dX12_edgeOf_42 ?_
          refine lv_iload_n SS.1 SS.2.1 dX12_edgeOf_45 rfl (lv_at hl 1 rfl) ?_
          refine j_iald SS hG hP 1 (n := 8) (f := (u.1 0)) rfl (z := s) (by omega) (by omega) dX12_edgeOf_46 ?_
          refine j_icmp_ge SS (tgt := 65) (x := i) (y := (mN u s)) dX12_edgeOf_47 (by decide) (by omega) (by omega) (fun c_47 => ?_) (fun c_47 => ?_)
          · skip
            refine lv_iload_n SS.1 SS.2.1 dX12_edgeOf_65 rfl (lv_at hl 2 rfl) ?_
            exact W.iret SS.1 SS.2.1 hr (fun t ht hW => ⟨_, rfl, ⟨a, rfl, (⟨by unfold mEd; rw [if_neg (by omega), if_neg (by omega), i40_1, show i = mN u s by omega], by omega, by omega⟩)⟩, ht⟩) (fun _ h => nomatch h) dX12_edgeOf_66 hlk
          · skip
            refine lv_iload_n SS.1 SS.2.1 dX12_edgeOf_50 rfl (lv_at hl 2 rfl) ?_
            refine lv_aload_n SS.1 SS.2.1 dX12_edgeOf_51 rfl (lv_at hl 0 rfl) ?_
            refine lv_iload_n SS.1 SS.2.1 dX12_edgeOf_52 rfl (lv_at hl 1 rfl) ?_
            refine lv_iload_n SS.1 SS.2.1 dX12_edgeOf_53 rfl (lv_at hl 3 rfl) ?_
            refine j_vRi SS (As := [.int (J s), .int (J i)]) (rest := [.int (J a)]) (c_X12_stepsOf l D o q u s i (show 0 ≤ s ∧ s ≤ 7 from (p0)) (show Sh u s from (p1)) (show 0 ≤ i ∧ i ≤ 100 from (by omega)) (show 0 < mN u s from (by omega))) mf_X12_stepsOf kw_1226 hG hP hP (ci := 8) (q0 := 0) rfl rfl rfl rfl hl.1 ⟨⟨Nat.le_of_ble_eq_true rfl, Nat.le_of_ble_eq_true rfl⟩, Nat.le_of_ble_eq_true rfl, Nat.le_refl _, Nat.le_refl _⟩ rfl dX12_edgeOf_54 (fun z_54 h_54 => ?_)
            have h_54 : z_54 = mS u s i ∧ 0 ≤ z_54 ∧ z_54 ≤ 80 := h_54
            refine j_iadd SS (x := a) (y := z_54) dX12_edgeOf_57 ?_
            refine lv_istore_n (lv' := [(2, .int (J (a + z_54))), (0, .ref o), (1, .int (J s)), (3, .int (J i))]) SS.1 SS.2.1 dX12_edgeOf_58 rfl hl (by decide) rfl (fun ls hl => ?_)
            refine lv_iinc (v := J (i + 1)) (lv' := [(3, .int (J (i + 1))), (2, .int (J (a + z_54))), (0, .ref o), (1, .int (J s))]) SS.1 SS.2.1 dX12_edgeOf_59 hl (k := 3) rfl (J_add _ _) (by decide) rfl (fun ls hl => ?_)
            refine lv_goto (tgt := 40) SS.1 SS.2.1 dX12_edgeOf_62 (by decide) ?_
            exact ih_40 (a + z_54) (i + 1) ls (lv_sub hl [2, 3, 1, 0] rfl) (by omega) (by rw [smI_s i40_0.1, ← i40_1, h_54.1]) (by omega) (by omega)
      exact L_40 ((mN u s - (0 : Int)).toNat + 1) 0 0 ls (lv_sub hl [2, 3, 1, 0] rfl) (by omega) (smI_0.symm) (by omega) (Nat.lt_succ_self _)
    · skip
      refine lv_aload_n SS.1 SS.2.1 dX12_edgeOf_27 rfl (lv_at hl 0 rfl) ?_
      refine lv_iload_n SS.1 SS.2.1 dX12_edgeOf_28 rfl (lv_at hl 1 rfl) ?_
      refine j_iconst SS dX12_edgeOf_29 ?_
      refine j_vRi SS (As := [.int (J s), .int (J 0)]) (rest := []) (c_X12_stepsOf l D o q u s 0 (show 0 ≤ s ∧ s ≤ 7 from (p0)) (show Sh u s from (p1)) (show 0 ≤ (0 : Int) ∧ (0 : Int) ≤ 100 from (by omega)) (show 0 < mN u s from (by omega))) mf_X12_stepsOf kw_1226 hG hP hP (ci := 8) (q0 := 0) rfl rfl rfl rfl hl.1 ⟨⟨Nat.le_of_ble_eq_true rfl, Nat.le_of_ble_eq_true rfl⟩, Nat.le_of_ble_eq_true rfl, Nat.le_refl _, Nat.le_refl _⟩ rfl dX12_edgeOf_30 (fun z_30 h_30 => ?_)
      have h_30 : z_30 = mS u s (0 : Int) ∧ 0 ≤ z_30 ∧ z_30 ≤ 80 := h_30
      refine j_iconst SS dX12_edgeOf_33 ?_
      refine j_iadd SS (x := z_30) (y := 1) dX12_edgeOf_34 ?_
      exact W.iret SS.1 SS.2.1 hr (fun t ht hW => ⟨_, rfl, ⟨(z_30 + 1), rfl, (⟨by unfold mEd; rw [if_neg (by omega), if_pos (by omega), h_30.1], by omega, by omega⟩)⟩, ht⟩) (fun _ h => nomatch h) dX12_edgeOf_35 hlk
  · skip
    refine lv_aload_n SS.1 SS.2.1 dX12_edgeOf_10 rfl (lv_at hl 0 rfl) ?_
    refine j_get SS hG hP 0 (v := .ref (q 0)) (C := RX12) (T := TX12) (N := 31) rfl rfl inX12 0 (by decide) (ref := RX12) kw_1058 rfl rfl dX12_edgeOf_11 ?_
    refine lv_iload_n SS.1 SS.2.1 dX12_edgeOf_14 rfl (lv_at hl 1 rfl) ?_
    refine j_iald SS hG hP 1 (n := 8) (f := (u.1 0)) rfl (z := s) (by omega) (by omega) dX12_edgeOf_15 ?_
    exact W.iret SS.1 SS.2.1 hr (fun t ht hW => ⟨_, rfl, ⟨(mN u s), rfl, (⟨by unfold mEd; rw [if_pos (by omega)], by omega, by omega⟩)⟩, ht⟩) (fun _ h => nomatch h) dX12_edgeOf_16 hlk

set_option maxHeartbeats 4000000 in
set_option maxRecDepth 100000 in
theorem c_X12_insideOf (l : Launch) (D : JD) (o : Nat) (q : Nat → Nat) (u : MS) (s : Int) (p0 : 0 ≤ s ∧ s ≤ 7) (p1 : Sh u s) : Met l yX12_insideOf (jw yX12_insideOf cX12_insideOf 2 (some .int)) (jr 4 89) (jP [.ref o, .int (J s)] D (fun H => va_P D.1 j_cl (mW D o q u) H)) (jRi (fun z => z = mIn u s ∧ -100000 ≤ z ∧ z ≤ 100000)) 0 0 (fun _ => False) := by
  refine Met.ofW (cc := cX12_insideOf) (maxL := 2) (ret := (some .int)) (by decide) rfl ?_
  intro pr en st mi args below meth co s₁ B hml hv
  obtain ⟨rfl, hG, hP⟩ := hv
  have hr := B.returns
  have hlk := B.notSynchronized
  have SS : jS pr mi co cX12_insideOf 2 st _ RX12 := ⟨B.exec, B.bytes, hml, findClass_of_methodNamed B.named, fun w hw => atoms_spec (ws := (jw yX12_insideOf cX12_insideOf 2 (some .int))) B.pre w (List.mem_cons_of_mem _ hw)⟩
  have hl := lv_entry ([.ref o, .int (J s)]) (n := 2) (Nat.le_of_ble_eq_true rfl)
  rw [lg_entry_eq]
  generalize (lg_sl ([.ref o, .int (J s)]) ++ List.replicate (2 - (lg_sl ([.ref o, .int (J s)])).length) Slot.unset).toArray = ls at hl ⊢
  have hl : lv_has ls 2 [(0, .ref o), (1, .int (J s))] := hl
  have hN := p1.1
  have hC := p1.2.2
  refine lv_aload_n SS.1 SS.2.1 dX12_insideOf_0 rfl (lv_at hl 0 rfl) ?_
  refine lv_iload_n SS.1 SS.2.1 dX12_insideOf_1 rfl (lv_at hl 1 rfl) ?_
  refine j_vRi SS (As := [.int (J s)]) (rest := []) (c_X12_isPolygon l D o q u s (show 0 ≤ s ∧ s ≤ 7 from (p0)) (show Sh u s from (p1))) mf_X12_isPolygon kw_1240 hG hP hP (ci := 8) (q0 := 0) rfl rfl rfl rfl hl.1 ⟨⟨Nat.le_of_ble_eq_true rfl, Nat.le_of_ble_eq_true rfl⟩, Nat.le_of_ble_eq_true rfl, Nat.le_refl _, Nat.le_refl _⟩ rfl dX12_insideOf_2 (fun z_2 h_2 => ?_)
  have h_2 : (z_2 = 1 ∧ 2 < mN u s) ∨ (z_2 = 0 ∧ mN u s ≤ 2) := h_2
  refine j_if_eq SS (tgt := 26) (x := z_2) dX12_insideOf_5 (by decide) (by omega) (fun c_5 => ?_) (fun c_5 => ?_)
  · skip
    refine j_iconst SS dX12_insideOf_26 ?_
    exact W.iret SS.1 SS.2.1 hr (fun t ht hW => ⟨_, rfl, ⟨0, rfl, (by first | exact ⟨by unfold mIn; rw [if_pos (by omega), h_10.1, h_15.1], t2.1, t2.2⟩ | exact ⟨by unfold mIn; rw [if_neg (by omega)], by omega, by omega⟩)⟩, ht⟩) (fun _ h => nomatch h) dX12_insideOf_27 hlk
  · skip
    refine lv_aload_n SS.1 SS.2.1 dX12_insideOf_8 rfl (lv_at hl 0 rfl) ?_
    refine lv_iload_n SS.1 SS.2.1 dX12_insideOf_9 rfl (lv_at hl 1 rfl) ?_
    refine j_vRi SS (As := [.int (J s)]) (rest := []) (c_X12_areaOf l D o q u s (show 0 ≤ s ∧ s ≤ 7 from (p0)) (show Sh u s from (p1))) mf_X12_areaOf kw_1218 hG hP hP (ci := 8) (q0 := 0) rfl rfl rfl rfl hl.1 ⟨⟨Nat.le_of_ble_eq_true rfl, Nat.le_of_ble_eq_true rfl⟩, Nat.le_of_ble_eq_true rfl, Nat.le_refl _, Nat.le_refl _⟩ rfl dX12_insideOf_10 (fun z_10 h_10 => ?_)
    have h_10 : z_10 = mAr u s ∧ -80000 ≤ z_10 ∧ z_10 ≤ 80000 := h_10
    refine lv_aload_n SS.1 SS.2.1 dX12_insideOf_13 rfl (lv_at hl 0 rfl) ?_
    refine lv_iload_n SS.1 SS.2.1 dX12_insideOf_14 rfl (lv_at hl 1 rfl) ?_
    refine j_vRi SS (As := [.int (J s)]) (rest := [.int (J z_10)]) (c_X12_edgeOf l D o q u s (show 0 ≤ s ∧ s ≤ 7 from (p0)) (show Sh u s from (p1))) mf_X12_edgeOf kw_1222 hG hP hP (ci := 8) (q0 := 0) rfl rfl rfl rfl hl.1 ⟨⟨Nat.le_of_ble_eq_true rfl, Nat.le_of_ble_eq_true rfl⟩, Nat.le_of_ble_eq_true rfl, Nat.le_refl _, Nat.le_refl _⟩ rfl dX12_insideOf_15 (fun z_15 h_15 => ?_)
    have h_15 : z_15 = mEd u s ∧ 0 ≤ z_15 ∧ z_15 ≤ 2000 := h_15
    have t1 : (z_10 - z_15 + 2).tdiv 2 = (if 0 ≤ z_10 - z_15 + 2 then (z_10 - z_15 + 2) / 2 else -((-(z_10 - z_15 + 2)) / 2)) := by split; exact Int.tdiv_eq_ediv_of_nonneg (by omega); rw [show (z_10 - z_15 + 2) = -(-(z_10 - z_15 + 2)) by omega, Int.neg_tdiv, Int.tdiv_eq_ediv_of_nonneg (by omega)]; omega
    have t2 : -100000 ≤ (z_10 - z_15 + 2).tdiv 2 ∧ (z_10 - z_15 + 2).tdiv 2 ≤ 100000 := by rw [t1]; split <;> omega
    refine j_isub SS (x := z_10) (y := z_15) dX12_insideOf_18 ?_
    refine j_iconst SS dX12_insideOf_19 ?_
    refine j_iadd SS (x := (z_10 - z_15)) (y := 2) dX12_insideOf_20 ?_
    refine j_iconst SS dX12_insideOf_21 ?_
    refine j_idiv SS (x := ((z_10 - z_15) + 2)) (y := 2) dX12_insideOf_22 (by omega) (by decide) (by decide) ?_
    refine lv_goto (tgt := 27) SS.1 SS.2.1 dX12_insideOf_23 (by decide) ?_
    exact W.iret SS.1 SS.2.1 hr (fun t ht hW => ⟨_, rfl, ⟨(Int.tdiv ((z_10 - z_15) + 2) 2), rfl, (by first | exact ⟨by unfold mIn; rw [if_pos (by omega), h_10.1, h_15.1], t2.1, t2.2⟩ | exact ⟨by unfold mIn; rw [if_neg (by omega)], by omega, by omega⟩)⟩, ht⟩) (fun _ h => nomatch h) dX12_insideOf_27 hlk

