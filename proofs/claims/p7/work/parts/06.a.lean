
theorem gcd_step {x y : Int} (hx : 0 ≤ x) (hy : 0 < y) : Int.gcd y (x.tmod y) = Int.gcd x y := by
  rw [Int.gcd_eq_natAbs_gcd_natAbs, Int.gcd_eq_natAbs_gcd_natAbs, Int.natAbs_tmod, Nat.gcd_comm y.natAbs, ← Nat.gcd_rec, Nat.gcd_comm]
abbrev mN (u : MS) (s : Int) : Int := u.1 0 s.toNat
def mX (u : MS) (s i : Int) : Int := u.1 1 (24 * s + i.tmod (mN u s)).toNat
def mY (u : MS) (s i : Int) : Int := u.1 2 (24 * s + i.tmod (mN u s)).toNat
theorem tm_b {i n : Int} (h : 0 ≤ i) (hn : 0 < n) : 0 ≤ i.tmod n ∧ i.tmod n < n := by
  rw [Int.tmod_eq_emod_of_nonneg h]
  exact ⟨Int.emod_nonneg i (by omega), Int.emod_lt_of_pos i hn⟩

set_option maxHeartbeats 4000000 in
set_option maxRecDepth 100000 in
theorem c_X12_in (l : Launch) (D : JD) (v : Int) (low : Int) (high : Int) (p0 : -2147483648 ≤ v ∧ v ≤ 2147483647) (p1 : -2147483648 ≤ low ∧ low ≤ 2147483647) (p2 : -2147483648 ≤ high ∧ high ≤ 2147483647) : Met l yX12_in (jw yX12_in cX12_in 3 (some .boolean)) (jr 0 0) (jP [.int (J v), .int (J low), .int (J high)] D (fun _ => True)) (jRi (fun z => (z = 1 ∧ (low ≤ v ∧ v ≤ high)) ∨ (z = 0 ∧ ¬ (low ≤ v ∧ v ≤ high)))) 0 0 (fun _ => False) := by
  refine Met.ofW (cc := cX12_in) (maxL := 3) (ret := (some .boolean)) (by decide) rfl ?_
  intro pr en st mi args below meth co s₁ B hml hv
  obtain ⟨rfl, hG, hP⟩ := hv
  have hr := B.returns
  have hlk := B.notSynchronized
  have SS : jS pr mi co cX12_in 3 st _ RX12 := ⟨B.exec, B.bytes, hml, findClass_of_methodNamed B.named, fun w hw => atoms_spec (ws := (jw yX12_in cX12_in 3 (some .boolean))) B.pre w (List.mem_cons_of_mem _ hw)⟩
  have hl := lv_entry ([.int (J v), .int (J low), .int (J high)]) (n := 3) (Nat.le_of_ble_eq_true rfl)
  rw [lg_entry_eq]
  generalize (lg_sl ([.int (J v), .int (J low), .int (J high)]) ++ List.replicate (3 - (lg_sl ([.int (J v), .int (J low), .int (J high)])).length) Slot.unset).toArray = ls at hl ⊢
  have hl : lv_has ls 3 [(0, .int (J v)), (1, .int (J low)), (2, .int (J high))] := hl
  refine lv_iload_n SS.1 SS.2.1 dX12_in_0 rfl (lv_at hl 0 rfl) ?_
  refine lv_iload_n SS.1 SS.2.1 dX12_in_1 rfl (lv_at hl 1 rfl) ?_
  refine j_icmp_lt SS (tgt := 14) (x := v) (y := low) dX12_in_2 (by decide) (by omega) (by omega) (fun c_2 => ?_) (fun c_2 => ?_)
  · skip
    refine j_iconst SS dX12_in_14 ?_
    exact W.zret SS.1 SS.2.1 hr (j_nz (by decide)) (fun t ht hW => ⟨_, rfl, ⟨0, rfl, (by omega)⟩, ht⟩) (fun _ h => nomatch h) dX12_in_15 hlk
  · skip
    refine lv_iload_n SS.1 SS.2.1 dX12_in_5 rfl (lv_at hl 0 rfl) ?_
    refine lv_iload_n SS.1 SS.2.1 dX12_in_6 rfl (lv_at hl 2 rfl) ?_
    refine j_icmp_gt SS (tgt := 14) (x := v) (y := high) dX12_in_7 (by decide) (by omega) (by omega) (fun c_7 => ?_) (fun c_7 => ?_)
    · skip
      refine j_iconst SS dX12_in_14 ?_
      exact W.zret SS.1 SS.2.1 hr (j_nz (by decide)) (fun t ht hW => ⟨_, rfl, ⟨0, rfl, (by omega)⟩, ht⟩) (fun _ h => nomatch h) dX12_in_15 hlk
    · skip
      refine j_iconst SS dX12_in_10 ?_
      refine lv_goto (tgt := 15) SS.1 SS.2.1 dX12_in_11 (by decide) ?_
      exact W.zret SS.1 SS.2.1 hr (j_nz (by decide)) (fun t ht hW => ⟨_, rfl, ⟨1, rfl, (by omega)⟩, ht⟩) (fun _ h => nomatch h) dX12_in_15 hlk

set_option maxHeartbeats 4000000 in
set_option maxRecDepth 100000 in
theorem c_X12_isShape (l : Launch) (D : JD) (v : Int) (p0 : -2147483648 ≤ v ∧ v ≤ 2147483647) : Met l yX12_isShape (jw yX12_isShape cX12_isShape 1 (some .boolean)) (jr 1 22) (jP [.int (J v)] D (fun _ => True)) (jRi (fun z => (z = 1 ∧ (0 ≤ v ∧ v ≤ 7)) ∨ (z = 0 ∧ ¬ (0 ≤ v ∧ v ≤ 7)))) 0 0 (fun _ => False) := by
  refine Met.ofW (cc := cX12_isShape) (maxL := 1) (ret := (some .boolean)) (by decide) rfl ?_
  intro pr en st mi args below meth co s₁ B hml hv
  obtain ⟨rfl, hG, hP⟩ := hv
  have hr := B.returns
  have hlk := B.notSynchronized
  have SS : jS pr mi co cX12_isShape 1 st _ RX12 := ⟨B.exec, B.bytes, hml, findClass_of_methodNamed B.named, fun w hw => atoms_spec (ws := (jw yX12_isShape cX12_isShape 1 (some .boolean))) B.pre w (List.mem_cons_of_mem _ hw)⟩
  have hl := lv_entry ([.int (J v)]) (n := 1) (Nat.le_of_ble_eq_true rfl)
  rw [lg_entry_eq]
  generalize (lg_sl ([.int (J v)]) ++ List.replicate (1 - (lg_sl ([.int (J v)])).length) Slot.unset).toArray = ls at hl ⊢
  have hl : lv_has ls 1 [(0, .int (J v))] := hl
  refine lv_iload_n SS.1 SS.2.1 dX12_isShape_0 rfl (lv_at hl 0 rfl) ?_
  refine j_iconst SS dX12_isShape_1 ?_
  refine j_bipush SS dX12_isShape_2 (by decide +kernel) ?_
  refine j_sRi SS (As := [.int (J v), .int (J 0), .int (J 7)]) (rest := []) (c_X12_in l D v 0 7 (show -2147483648 ≤ v ∧ v ≤ 2147483647 from (by omega)) (show -2147483648 ≤ (0 : Int) ∧ (0 : Int) ≤ 2147483647 from (by omega)) (show -2147483648 ≤ (7 : Int) ∧ (7 : Int) ≤ 2147483647 from (by omega))) mf_X12_in kw_1159 hG trivial rfl hl.1 ⟨⟨Nat.le_of_ble_eq_true rfl, Nat.le_of_ble_eq_true rfl⟩, Nat.le_of_ble_eq_true rfl, Nat.le_refl _, Nat.le_refl _⟩ rfl dX12_isShape_4 (fun z_4 h_4 => ?_)
  have h_4 : (z_4 = 1 ∧ ((0 : Int) ≤ v ∧ v ≤ (7 : Int))) ∨ (z_4 = 0 ∧ ¬ ((0 : Int) ≤ v ∧ v ≤ (7 : Int))) := h_4
  exact W.zret SS.1 SS.2.1 hr (j_nz (by omega)) (fun t ht hW => ⟨_, rfl, ⟨z_4, rfl, (h_4)⟩, ht⟩) (fun _ h => nomatch h) dX12_isShape_7 hlk

set_option maxHeartbeats 4000000 in
set_option maxRecDepth 100000 in
theorem c_X12_isPlace (l : Launch) (D : JD) (v : Int) (x : Int) (p0 : -2147483648 ≤ v ∧ v ≤ 2147483647) (p1 : -2147483648 ≤ x ∧ x ≤ 2147483647) : Met l yX12_isPlace (jw yX12_isPlace cX12_isPlace 2 (some .boolean)) (jr 1 22) (jP [.int (J v), .int (J x)] D (fun _ => True)) (jRi (fun z => (z = 1 ∧ (-40 ≤ v ∧ v ≤ 40 ∧ -40 ≤ x ∧ x ≤ 40)) ∨ (z = 0 ∧ ¬ (-40 ≤ v ∧ v ≤ 40 ∧ -40 ≤ x ∧ x ≤ 40)))) 0 0 (fun _ => False) := by
  refine Met.ofW (cc := cX12_isPlace) (maxL := 2) (ret := (some .boolean)) (by decide) rfl ?_
  intro pr en st mi args below meth co s₁ B hml hv
  obtain ⟨rfl, hG, hP⟩ := hv
  have hr := B.returns
  have hlk := B.notSynchronized
  have SS : jS pr mi co cX12_isPlace 2 st _ RX12 := ⟨B.exec, B.bytes, hml, findClass_of_methodNamed B.named, fun w hw => atoms_spec (ws := (jw yX12_isPlace cX12_isPlace 2 (some .boolean))) B.pre w (List.mem_cons_of_mem _ hw)⟩
  have hl := lv_entry ([.int (J v), .int (J x)]) (n := 2) (Nat.le_of_ble_eq_true rfl)
  rw [lg_entry_eq]
  generalize (lg_sl ([.int (J v), .int (J x)]) ++ List.replicate (2 - (lg_sl ([.int (J v), .int (J x)])).length) Slot.unset).toArray = ls at hl ⊢
  have hl : lv_has ls 2 [(0, .int (J v)), (1, .int (J x))] := hl
  refine lv_iload_n SS.1 SS.2.1 dX12_isPlace_0 rfl (lv_at hl 0 rfl) ?_
  refine j_bipush SS dX12_isPlace_1 (by decide +kernel) ?_
  refine j_bipush SS dX12_isPlace_3 (by decide +kernel) ?_
  refine j_sRi SS (As := [.int (J v), .int (J (-40)), .int (J 40)]) (rest := []) (c_X12_in l D v (-40) 40 (show -2147483648 ≤ v ∧ v ≤ 2147483647 from (by omega)) (show -2147483648 ≤ (-40 : Int) ∧ (-40 : Int) ≤ 2147483647 from (by omega)) (show -2147483648 ≤ (40 : Int) ∧ (40 : Int) ≤ 2147483647 from (by omega))) mf_X12_in kw_1159 hG trivial rfl hl.1 ⟨⟨Nat.le_of_ble_eq_true rfl, Nat.le_of_ble_eq_true rfl⟩, Nat.le_of_ble_eq_true rfl, Nat.le_refl _, Nat.le_refl _⟩ rfl dX12_isPlace_5 (fun z_5 h_5 => ?_)
  have h_5 : (z_5 = 1 ∧ ((-40 : Int) ≤ v ∧ v ≤ (40 : Int))) ∨ (z_5 = 0 ∧ ¬ ((-40 : Int) ≤ v ∧ v ≤ (40 : Int))) := h_5
  refine j_if_eq SS (tgt := 26) (x := z_5) dX12_isPlace_8 (by decide) (by omega) (fun c_8 => ?_) (fun c_8 => ?_)
  · skip
    refine j_iconst SS dX12_isPlace_26 ?_
    exact W.zret SS.1 SS.2.1 hr (j_nz (by decide)) (fun t ht hW => ⟨_, rfl, ⟨0, rfl, (by omega)⟩, ht⟩) (fun _ h => nomatch h) dX12_isPlace_27 hlk
  · skip
    refine lv_iload_n SS.1 SS.2.1 dX12_isPlace_11 rfl (lv_at hl 1 rfl) ?_
    refine j_bipush SS dX12_isPlace_12 (by decide +kernel) ?_
    refine j_bipush SS dX12_isPlace_14 (by decide +kernel) ?_
    refine j_sRi SS (As := [.int (J x), .int (J (-40)), .int (J 40)]) (rest := []) (c_X12_in l D x (-40) 40 (show -2147483648 ≤ x ∧ x ≤ 2147483647 from (by omega)) (show -2147483648 ≤ (-40 : Int) ∧ (-40 : Int) ≤ 2147483647 from (by omega)) (show -2147483648 ≤ (40 : Int) ∧ (40 : Int) ≤ 2147483647 from (by omega))) mf_X12_in kw_1159 hG trivial rfl hl.1 ⟨⟨Nat.le_of_ble_eq_true rfl, Nat.le_of_ble_eq_true rfl⟩, Nat.le_of_ble_eq_true rfl, Nat.le_refl _, Nat.le_refl _⟩ rfl dX12_isPlace_16 (fun z_16 h_16 => ?_)
    have h_16 : (z_16 = 1 ∧ ((-40 : Int) ≤ x ∧ x ≤ (40 : Int))) ∨ (z_16 = 0 ∧ ¬ ((-40 : Int) ≤ x ∧ x ≤ (40 : Int))) := h_16
    refine j_if_eq SS (tgt := 26) (x := z_16) dX12_isPlace_19 (by decide) (by omega) (fun c_19 => ?_) (fun c_19 => ?_)
    · skip
      refine j_iconst SS dX12_isPlace_26 ?_
      exact W.zret SS.1 SS.2.1 hr (j_nz (by decide)) (fun t ht hW => ⟨_, rfl, ⟨0, rfl, (by omega)⟩, ht⟩) (fun _ h => nomatch h) dX12_isPlace_27 hlk
    · skip
      refine j_iconst SS dX12_isPlace_22 ?_
      refine lv_goto (tgt := 27) SS.1 SS.2.1 dX12_isPlace_23 (by decide) ?_
      exact W.zret SS.1 SS.2.1 hr (j_nz (by decide)) (fun t ht hW => ⟨_, rfl, ⟨1, rfl, (by omega)⟩, ht⟩) (fun _ h => nomatch h) dX12_isPlace_27 hlk

set_option maxHeartbeats 4000000 in
set_option maxRecDepth 100000 in
theorem c_X12_size (l : Launch) (D : JD) (v : Int) (p0 : -2147483648 < v ∧ v ≤ 2147483647) : Met l yX12_size (jw yX12_size cX12_size 1 (some .int)) (jr 0 0) (jP [.int (J v)] D (fun _ => True)) (jRi (fun z => (0 ≤ v → z = v) ∧ (v < 0 → z = -v))) 0 0 (fun _ => False) := by
  refine Met.ofW (cc := cX12_size) (maxL := 1) (ret := (some .int)) (by decide) rfl ?_
  intro pr en st mi args below meth co s₁ B hml hv
  obtain ⟨rfl, hG, hP⟩ := hv
  have hr := B.returns
  have hlk := B.notSynchronized
  have SS : jS pr mi co cX12_size 1 st _ RX12 := ⟨B.exec, B.bytes, hml, findClass_of_methodNamed B.named, fun w hw => atoms_spec (ws := (jw yX12_size cX12_size 1 (some .int))) B.pre w (List.mem_cons_of_mem _ hw)⟩
  have hl := lv_entry ([.int (J v)]) (n := 1) (Nat.le_of_ble_eq_true rfl)
  rw [lg_entry_eq]
  generalize (lg_sl ([.int (J v)]) ++ List.replicate (1 - (lg_sl ([.int (J v)])).length) Slot.unset).toArray = ls at hl ⊢
  have hl : lv_has ls 1 [(0, .int (J v))] := hl
  refine lv_iload_n SS.1 SS.2.1 dX12_size_0 rfl (lv_at hl 0 rfl) ?_
  refine j_if_ge SS (tgt := 9) (x := v) dX12_size_1 (by decide) (by omega) (fun c_1 => ?_) (fun c_1 => ?_)
  · skip
    refine lv_iload_n SS.1 SS.2.1 dX12_size_9 rfl (lv_at hl 0 rfl) ?_
    exact W.iret SS.1 SS.2.1 hr (fun t ht hW => ⟨_, rfl, ⟨v, rfl, (by omega)⟩, ht⟩) (fun _ h => nomatch h) dX12_size_10 hlk
  · skip
    refine lv_iload_n SS.1 SS.2.1 dX12_size_4 rfl (lv_at hl 0 rfl) ?_
    refine j_ineg SS dX12_size_5 ?_
    refine lv_goto (tgt := 10) SS.1 SS.2.1 dX12_size_6 (by decide) ?_
    exact W.iret SS.1 SS.2.1 hr (fun t ht hW => ⟨_, rfl, ⟨(-v), rfl, (by omega)⟩, ht⟩) (fun _ h => nomatch h) dX12_size_10 hlk

set_option maxHeartbeats 4000000 in
set_option maxRecDepth 100000 in
theorem c_X12_common (l : Launch) (D : JD) (a : Int) (b : Int) (p0 : -2147483648 < a ∧ a ≤ 2147483647) (p1 : -2147483648 < b ∧ b ≤ 2147483647) : Met l yX12_common (jw yX12_common cX12_common 5 (some .int)) (jr 1 20) (jP [.int (J a), .int (J b)] D (fun _ => True)) (jRi (fun z => z = (Int.gcd a b : Int))) 0 0 (fun _ => False) := by
  refine Met.ofW (cc := cX12_common) (maxL := 5) (ret := (some .int)) (by decide) rfl ?_
  intro pr en st mi args below meth co s₁ B hml hv
  obtain ⟨rfl, hG, hP⟩ := hv
  have hr := B.returns
  have hlk := B.notSynchronized
  have SS : jS pr mi co cX12_common 5 st _ RX12 := ⟨B.exec, B.bytes, hml, findClass_of_methodNamed B.named, fun w hw => atoms_spec (ws := (jw yX12_common cX12_common 5 (some .int))) B.pre w (List.mem_cons_of_mem _ hw)⟩
  have hl := lv_entry ([.int (J a), .int (J b)]) (n := 5) (Nat.le_of_ble_eq_true rfl)
  rw [lg_entry_eq]
  generalize (lg_sl ([.int (J a), .int (J b)]) ++ List.replicate (5 - (lg_sl ([.int (J a), .int (J b)])).length) Slot.unset).toArray = ls at hl ⊢
  have hl : lv_has ls 5 [(0, .int (J a)), (1, .int (J b))] := hl
  refine lv_iload_n SS.1 SS.2.1 dX12_common_0 rfl (lv_at hl 0 rfl) ?_
  refine j_sRi SS (As := [.int (J a)]) (rest := []) (c_X12_size l D a (show -2147483648 < a ∧ a ≤ 2147483647 from (by omega))) mf_X12_size kw_1233 hG trivial rfl hl.1 ⟨⟨Nat.le_of_ble_eq_true rfl, Nat.le_of_ble_eq_true rfl⟩, Nat.le_of_ble_eq_true rfl, Nat.le_refl _, Nat.le_refl _⟩ rfl dX12_common_1 (fun z_1 h_1 => ?_)
  have h_1 : (0 ≤ a → z_1 = a) ∧ (a < 0 → z_1 = -a) := h_1
  refine lv_istore_n (lv' := [(2, .int (J z_1)), (0, .int (J a)), (1, .int (J b))]) SS.1 SS.2.1 dX12_common_4 rfl hl (by decide) rfl (fun ls hl => ?_)
  refine lv_iload_n SS.1 SS.2.1 dX12_common_5 rfl (lv_at hl 2 rfl) ?_
  refine j_sRi SS (As := [.int (J b)]) (rest := []) (c_X12_size l D b (show -2147483648 < b ∧ b ≤ 2147483647 from (by omega))) mf_X12_size kw_1233 hG trivial rfl hl.1 ⟨⟨Nat.le_of_ble_eq_true rfl, Nat.le_of_ble_eq_true rfl⟩, Nat.le_of_ble_eq_true rfl, Nat.le_refl _, Nat.le_refl _⟩ rfl dX12_common_6 (fun z_6 h_6 => ?_)
  have h_6 : (0 ≤ b → z_6 = b) ∧ (b < 0 → z_6 = -b) := h_6
  refine lv_istore_n (lv' := [(3, .int (J z_6)), (2, .int (J z_1)), (0, .int (J a)), (1, .int (J b))]) SS.1 SS.2.1 dX12_common_9 rfl hl (by decide) rfl (fun ls hl => ?_)
  have L_10 : ∀ (nn : Nat) (x : Int) (y : Int) (ls : Array Slot) (hl : lv_has ls 5 [(3, .int (J y)), (2, .int (J x))]) (i10_0 : 0 ≤ x ∧ x ≤ 2147483647) (i10_1 : 0 ≤ y ∧ y ≤ 2147483647) (i10_2 : Int.gcd x y = Int.gcd a b), y.toNat < nn → W pr l en (headSpec (jw yX12_common cX12_common 5 (some .int)) (jr 1 20)).room st mi (([.int (J a), .int (J b)] : List Value).toArray) below meth co st.heap [] 0 0 (MQ below (jRi (fun z => z = (Int.gcd a b : Int))) (([.int (J a), .int (J b)] : List Value).toArray) st 0 0 (fun _ => False)) (F0 mi 10 ls []) := by
    intro nn
    induction nn with
    | zero => intros; omega
    | succ nn ih_10 =>
      intro x y ls hl i10_0 i10_1 i10_2 hm
      refine lv_iload_n SS.1 SS.2.1 dX12_common_10 rfl (lv_at hl 0 rfl) ?_
      refine j_if_eq SS (tgt := 27) (x := y) dX12_common_11 (by decide) (by omega) (fun c_11 => ?_) (fun c_11 => ?_)
      · skip
        refine lv_iload_n SS.1 SS.2.1 dX12_common_27 rfl (lv_at hl 1 rfl) ?_
        exact W.iret SS.1 SS.2.1 hr (fun t ht hW => ⟨_, rfl, ⟨x, rfl, (by have := i10_2; rw [c_11] at this; rw [← this]; simp [Int.gcd]; omega)⟩, ht⟩) (fun _ h => nomatch h) dX12_common_28 hlk
      · skip
        refine lv_iload_n SS.1 SS.2.1 dX12_common_14 rfl (lv_at hl 1 rfl) ?_
        refine lv_iload_n SS.1 SS.2.1 dX12_common_15 rfl (lv_at hl 0 rfl) ?_
        refine j_irem SS (x := x) (y := y) dX12_common_16 (by omega) (by omega) (by omega) ?_
        refine lv_istore (lv' := [(4, .int (J (Int.tmod x y))), (3, .int (J y)), (2, .int (J x))]) SS.1 SS.2.1 dX12_common_17 hl (by decide) rfl (fun ls hl => ?_)
        refine lv_iload_n SS.1 SS.2.1 dX12_common_19 rfl (lv_at hl 1 rfl) ?_
        refine lv_istore_n (lv' := [(2, .int (J y)), (4, .int (J (Int.tmod x y))), (3, .int (J y))]) SS.1 SS.2.1 dX12_common_20 rfl hl (by decide) rfl (fun ls hl => ?_)
        refine lv_iload SS.1 SS.2.1 dX12_common_21 (lv_at hl 1 rfl) ?_
        refine lv_istore_n (lv' := [(3, .int (J (Int.tmod x y))), (2, .int (J y)), (4, .int (J (Int.tmod x y)))]) SS.1 SS.2.1 dX12_common_23 rfl hl (by decide) rfl (fun ls hl => ?_)
        refine lv_goto (tgt := 10) SS.1 SS.2.1 dX12_common_24 (by decide) ?_
        exact ih_10 y (Int.tmod x y) ls (lv_sub hl [0, 1] rfl) (by omega) (by have := tm_b i10_0.1 (show (0:Int) < y by omega); omega) (by rw [gcd_step i10_0.1 (by omega)]; exact i10_2) (by have := tm_b i10_0.1 (show (0:Int) < y by omega); omega)
  exact L_10 (z_6.toNat + 1) z_1 z_6 ls (lv_sub hl [0, 1] rfl) (by omega) (by omega) (by rw [show z_1 = (a.natAbs : Int) by omega, show z_6 = (b.natAbs : Int) by omega]; simp [Int.gcd]) (Nat.lt_succ_self _)

set_option maxHeartbeats 4000000 in
set_option maxRecDepth 100000 in
theorem c_X12_x (l : Launch) (D : JD) (o : Nat) (q : Nat → Nat) (u : MS) (s : Int) (i : Int) (p0 : 0 ≤ s ∧ s ≤ 7) (p1 : 0 ≤ i ∧ i ≤ 1000000) (p2 : 0 < mN u s ∧ mN u s ≤ 24) : Met l yX12_x (jw yX12_x cX12_x 3 (some .int)) (jr 0 0) (jP [.ref o, .int (J s), .int (J i)] D (fun H => va_P D.1 j_cl (mW D o q u) H)) (jRi (fun z => z = mX u s i)) 0 0 (fun _ => False) := by
  refine Met.ofW (cc := cX12_x) (maxL := 3) (ret := (some .int)) (by decide) rfl ?_
  intro pr en st mi args below meth co s₁ B hml hv
  obtain ⟨rfl, hG, hP⟩ := hv
  have hr := B.returns
  have hlk := B.notSynchronized
  have SS : jS pr mi co cX12_x 3 st _ RX12 := ⟨B.exec, B.bytes, hml, findClass_of_methodNamed B.named, fun w hw => atoms_spec (ws := (jw yX12_x cX12_x 3 (some .int))) B.pre w (List.mem_cons_of_mem _ hw)⟩
  have hl := lv_entry ([.ref o, .int (J s), .int (J i)]) (n := 3) (Nat.le_of_ble_eq_true rfl)
  rw [lg_entry_eq]
  generalize (lg_sl ([.ref o, .int (J s), .int (J i)]) ++ List.replicate (3 - (lg_sl ([.ref o, .int (J s), .int (J i)])).length) Slot.unset).toArray = ls at hl ⊢
  have hl : lv_has ls 3 [(0, .ref o), (1, .int (J s)), (2, .int (J i))] := hl
  refine lv_aload_n SS.1 SS.2.1 dX12_x_0 rfl (lv_at hl 0 rfl) ?_
  refine j_get SS hG hP 0 (v := .ref (q 1)) (C := RX12) (T := TX12) (N := 31) rfl rfl inX12 1 (by decide) (ref := RX12) kw_1059 rfl rfl dX12_x_1 ?_
  refine j_bipush SS dX12_x_4 (by decide +kernel) ?_
  refine lv_iload_n SS.1 SS.2.1 dX12_x_6 rfl (lv_at hl 1 rfl) ?_
  refine j_imul SS (x := 24) (y := s) dX12_x_7 ?_
  refine lv_iload_n SS.1 SS.2.1 dX12_x_8 rfl (lv_at hl 2 rfl) ?_
  refine lv_aload_n SS.1 SS.2.1 dX12_x_9 rfl (lv_at hl 0 rfl) ?_
  refine j_get SS hG hP 0 (v := .ref (q 0)) (C := RX12) (T := TX12) (N := 31) rfl rfl inX12 0 (by decide) (ref := RX12) kw_1058 rfl rfl dX12_x_10 ?_
  refine lv_iload_n SS.1 SS.2.1 dX12_x_13 rfl (lv_at hl 1 rfl) ?_
  refine j_iald SS hG hP 1 (n := 8) (f := (u.1 0)) rfl (z := s) (by omega) (by omega) dX12_x_14 ?_
  refine j_irem SS (x := i) (y := (mN u s)) dX12_x_15 (by omega) (by omega) (by omega) ?_
  refine j_iadd SS (x := (24 * s)) (y := (Int.tmod i (mN u s))) dX12_x_16 ?_
  refine j_iald SS hG hP 2 (n := 192) (f := (u.1 1)) rfl (z := ((24 * s) + (Int.tmod i (mN u s)))) (by have := tm_b p1.1 p2.1; omega) (by have := tm_b p1.1 p2.1; omega) dX12_x_17 ?_
  exact W.iret SS.1 SS.2.1 hr (fun t ht hW => ⟨_, rfl, ⟨((u.1 1) (((24 * s) + (Int.tmod i (mN u s)))).toNat), rfl, (rfl)⟩, ht⟩) (fun _ h => nomatch h) dX12_x_18 hlk

set_option maxHeartbeats 4000000 in
set_option maxRecDepth 100000 in
theorem c_X12_y (l : Launch) (D : JD) (o : Nat) (q : Nat → Nat) (u : MS) (s : Int) (i : Int) (p0 : 0 ≤ s ∧ s ≤ 7) (p1 : 0 ≤ i ∧ i ≤ 1000000) (p2 : 0 < mN u s ∧ mN u s ≤ 24) : Met l yX12_y (jw yX12_y cX12_y 3 (some .int)) (jr 0 0) (jP [.ref o, .int (J s), .int (J i)] D (fun H => va_P D.1 j_cl (mW D o q u) H)) (jRi (fun z => z = mY u s i)) 0 0 (fun _ => False) := by
  refine Met.ofW (cc := cX12_y) (maxL := 3) (ret := (some .int)) (by decide) rfl ?_
  intro pr en st mi args below meth co s₁ B hml hv
  obtain ⟨rfl, hG, hP⟩ := hv
  have hr := B.returns
  have hlk := B.notSynchronized
  have SS : jS pr mi co cX12_y 3 st _ RX12 := ⟨B.exec, B.bytes, hml, findClass_of_methodNamed B.named, fun w hw => atoms_spec (ws := (jw yX12_y cX12_y 3 (some .int))) B.pre w (List.mem_cons_of_mem _ hw)⟩
  have hl := lv_entry ([.ref o, .int (J s), .int (J i)]) (n := 3) (Nat.le_of_ble_eq_true rfl)
  rw [lg_entry_eq]
  generalize (lg_sl ([.ref o, .int (J s), .int (J i)]) ++ List.replicate (3 - (lg_sl ([.ref o, .int (J s), .int (J i)])).length) Slot.unset).toArray = ls at hl ⊢
  have hl : lv_has ls 3 [(0, .ref o), (1, .int (J s)), (2, .int (J i))] := hl
  refine lv_aload_n SS.1 SS.2.1 dX12_y_0 rfl (lv_at hl 0 rfl) ?_
  refine j_get SS hG hP 0 (v := .ref (q 2)) (C := RX12) (T := TX12) (N := 31) rfl rfl inX12 2 (by decide) (ref := RX12) kw_1060 rfl rfl dX12_y_1 ?_
  refine j_bipush SS dX12_y_4 (by decide +kernel) ?_
  refine lv_iload_n SS.1 SS.2.1 dX12_y_6 rfl (lv_at hl 1 rfl) ?_
  refine j_imul SS (x := 24) (y := s) dX12_y_7 ?_
  refine lv_iload_n SS.1 SS.2.1 dX12_y_8 rfl (lv_at hl 2 rfl) ?_
  refine lv_aload_n SS.1 SS.2.1 dX12_y_9 rfl (lv_at hl 0 rfl) ?_
  refine j_get SS hG hP 0 (v := .ref (q 0)) (C := RX12) (T := TX12) (N := 31) rfl rfl inX12 0 (by decide) (ref := RX12) kw_1058 rfl rfl dX12_y_10 ?_
  refine lv_iload_n SS.1 SS.2.1 dX12_y_13 rfl (lv_at hl 1 rfl) ?_
  refine j_iald SS hG hP 1 (n := 8) (f := (u.1 0)) rfl (z := s) (by omega) (by omega) dX12_y_14 ?_
  refine j_irem SS (x := i) (y := (mN u s)) dX12_y_15 (by omega) (by omega) (by omega) ?_
  refine j_iadd SS (x := (24 * s)) (y := (Int.tmod i (mN u s))) dX12_y_16 ?_
  refine j_iald SS hG hP 3 (n := 192) (f := (u.1 2)) rfl (z := ((24 * s) + (Int.tmod i (mN u s)))) (by have := tm_b p1.1 p2.1; omega) (by have := tm_b p1.1 p2.1; omega) dX12_y_17 ?_
  exact W.iret SS.1 SS.2.1 hr (fun t ht hW => ⟨_, rfl, ⟨((u.1 2) (((24 * s) + (Int.tmod i (mN u s)))).toNat), rfl, (rfl)⟩, ht⟩) (fun _ h => nomatch h) dX12_y_18 hlk

set_option maxHeartbeats 4000000 in
set_option maxRecDepth 100000 in
theorem c_X12_put (l : Launch) (D : JD) (o : Nat) (q : Nat → Nat) (u : MS) (A : Nat → Prop) (hD : va_D A (mW D o q u)) (x : Int) (y : Int) (p0 : 0 ≤ u.2.2 6 ∧ u.2.2 6 < 640) : Met l yX12_put (jw yX12_put cX12_put 3 none) (jr 0 0) (jP [.ref o, .int (J x), .int (J y)] D (fun H => va_P D.1 j_cl (mW D o q u) H)) (jWv (fun u' => ∃ f : Nat → Int, ∃ g : Nat → Int, ∃ w : Int, u' = (uV (uI (uI u 4 f) 5 g) 6 w) ∧ (f = upI (u.1 4) (u.2.2 6).toNat x ∧ g = upI (u.1 5) (u.2.2 6).toNat y ∧ w = u.2.2 6 + 1)) (fun u' H => va_P D.1 j_cl (mW D o q u') H) A) 0 0 A := by
  refine Met.ofW (cc := cX12_put) (maxL := 3) (ret := none) (by decide) rfl ?_
  intro pr en st mi args below meth co s₁ B hml hv
  obtain ⟨rfl, hG, hP⟩ := hv
  have hr := B.returns
  have hlk := B.notSynchronized
  have SS : jS pr mi co cX12_put 3 st _ RX12 := ⟨B.exec, B.bytes, hml, findClass_of_methodNamed B.named, fun w hw => atoms_spec (ws := (jw yX12_put cX12_put 3 none)) B.pre w (List.mem_cons_of_mem _ hw)⟩
  have hl := lv_entry ([.ref o, .int (J x), .int (J y)]) (n := 3) (Nat.le_of_ble_eq_true rfl)
  rw [lg_entry_eq]
  generalize (lg_sl ([.ref o, .int (J x), .int (J y)]) ++ List.replicate (3 - (lg_sl ([.ref o, .int (J x), .int (J y)])).length) Slot.unset).toArray = ls at hl ⊢
  have hl : lv_has ls 3 [(0, .ref o), (1, .int (J x)), (2, .int (J y))] := hl
  have hS : va_S A st.heap st.heap [] := va_S.rf
  refine lv_aload_n SS.1 SS.2.1 dX12_put_0 rfl (lv_at hl 0 rfl) ?_
  refine j_get SS hG hP 0 (v := .ref (q 4)) (C := RX12) (T := TX12) (N := 31) rfl rfl inX12 4 (by decide) (ref := RX12) kw_1062 rfl rfl dX12_put_1 ?_
  refine lv_aload_n SS.1 SS.2.1 dX12_put_4 rfl (lv_at hl 0 rfl) ?_
  refine j_get SS hG hP 0 (v := .int (J (u.2.2 6))) (C := RX12) (T := TX12) (N := 31) rfl rfl inX12 6 (by decide) (ref := RX12) kw_1064 rfl rfl dX12_put_5 ?_
  refine lv_iload_n SS.1 SS.2.1 dX12_put_8 rfl (lv_at hl 1 rfl) ?_
  refine j_iast SS hG hP (mW_D hD) hS 5 (n := 640) (f := (u.1 4)) rfl (z := (u.2.2 6)) (v := x) (by omega) (by omega) dX12_put_9 (ws' := (mW D o q (uI u 4 (upI (u.1 4) ((u.2.2 6)).toNat x)))) rfl (fun H locs hP hS => ?_)
  refine lv_aload_n SS.1 SS.2.1 dX12_put_10 rfl (lv_at hl 0 rfl) ?_
  refine j_get SS hG hP 0 (v := .ref (q 5)) (C := RX12) (T := TX12) (N := 31) rfl rfl inX12 5 (by decide) (ref := RX12) kw_1063 rfl rfl dX12_put_11 ?_
  refine lv_aload_n SS.1 SS.2.1 dX12_put_14 rfl (lv_at hl 0 rfl) ?_
  refine j_get SS hG hP 0 (v := .int (J (u.2.2 6))) (C := RX12) (T := TX12) (N := 31) rfl rfl inX12 6 (by decide) (ref := RX12) kw_1064 rfl rfl dX12_put_15 ?_
  refine lv_iload_n SS.1 SS.2.1 dX12_put_18 rfl (lv_at hl 2 rfl) ?_
  refine j_iast SS hG hP (mW_D hD) hS 6 (n := 640) (f := (u.1 5)) rfl (z := (u.2.2 6)) (v := y) (by omega) (by omega) dX12_put_19 (ws' := (mW D o q (uI (uI u 4 (upI (u.1 4) ((u.2.2 6)).toNat x)) 5 (upI (u.1 5) ((u.2.2 6)).toNat y)))) rfl (fun H locs hP hS => ?_)
  refine lv_aload_n SS.1 SS.2.1 dX12_put_20 rfl (lv_at hl 0 rfl) ?_
  refine lv_dup SS.1 SS.2.1 dX12_put_21 rfl ?_
  refine j_get SS hG hP 0 (v := .int (J (u.2.2 6))) (C := RX12) (T := TX12) (N := 31) rfl rfl inX12 6 (by decide) (ref := RX12) kw_1064 rfl rfl dX12_put_22 ?_
  refine j_iconst SS dX12_put_25 ?_
  refine j_iadd SS (x := (u.2.2 6)) (y := 1) dX12_put_26 ?_
  refine j_put SS hG hP (mW_D hD) hS 0 (v := .int (J ((u.2.2 6) + 1))) (ty := .int) (C := RX12) (T := TX12) (N := 31) rfl rfl inX12 tyX12 tyX12_ok nmX12 6 (by decide) (ref := RX12) kw_1064 rfl rfl (by decide +kernel) rfl rfl (Nat.le_of_ble_eq_true rfl) dX12_put_27 (ws' := (mW D o q (uV (uI (uI u 4 (upI (u.1 4) ((u.2.2 6)).toNat x)) 5 (upI (u.1 5) ((u.2.2 6)).toNat y)) 6 ((u.2.2 6) + 1)))) rfl (fun H locs hP hS => ?_)
  exact W.vret SS.1 SS.2.1 hr (fun t ht hW => ⟨⟨(uV (uI (uI u 4 (upI (u.1 4) ((u.2.2 6)).toNat x)) 5 (upI (u.1 5) ((u.2.2 6)).toNat y)) 6 ((u.2.2 6) + 1)), rfl, (⟨(upI (u.1 4) ((u.2.2 6)).toNat x), (upI (u.1 5) ((u.2.2 6)).toNat y), ((u.2.2 6) + 1), rfl, ⟨rfl, rfl, rfl⟩⟩), by show va_P D.1 j_cl (mW D o q (uV (uI (uI u 4 (upI (u.1 4) ((u.2.2 6)).toNat x)) 5 (upI (u.1 5) ((u.2.2 6)).toNat y)) 6 ((u.2.2 6) + 1))) t.heap; rw [ht]; exact hP⟩, hS.F ht⟩) hS.2.2 dX12_put_30 hlk
