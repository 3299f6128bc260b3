
/-! counting bits of the class' sets -/
theorem dg_0w {n : Nat} : dg 1 n (fun _ => 0) = 0 := by
  induction n with
  | zero => rfl
  | succ n ih => show 0 + 1 * dg 1 n (fun _ => 0) = 0; rw [ih]
theorem dg_1w : ∀ (n j : Nat), j < n → dg 1 n (fun k => if k = j then 1 else 0) = 1 := by
  intro n
  induction n with
  | zero => intro j h; omega
  | succ n ih =>
    intro j h
    show (if 0 = j then 1 else 0) + 1 * dg 1 n (fun k => if k + 1 = j then 1 else 0) = 1
    by_cases e : 0 = j
    · subst e
      rw [if_pos rfl, dg_c n _ (fun _ => 0) (fun k _ => if_neg (by omega)), dg_0w]
    · rw [if_neg e, dg_c n _ (fun k => if k = j - 1 then 1 else 0) (fun k _ => by
        by_cases w : k + 1 = j
        · rw [if_pos w, if_pos (by omega)]
        · rw [if_neg w, if_neg (by omega)]), ih (j - 1) (by omega)]
theorem bt_gb {x : Int64} (k : Nat) : bt (nx9 x) k = if gb x k = true then 1 else 0 := by
  unfold bt
  have e : (nx9 x).testBit k = gb x k := gb_nx k
  rw [Nat.testBit_eq_decide_div_mod_eq] at e
  by_cases w : gb x k = true
  · rw [if_pos w]; rw [w] at e; exact of_decide_eq_true e
  · rw [if_neg w]
    have w2 : gb x k = false := by
      cases h : gb x k
      · rfl
      · exact absurd h w
    rw [w2] at e
    have := of_decide_eq_false e
    omega
/-- one bit more -/
theorem pc_up {x y : Int64} {j : Nat} (hj : j < 64) (h0 : gb x j = false) (h : ∀ k : Nat, k < 64 → gb y k = (gb x k || decide (k = j))) : pc9 (nx9 y) = pc9 (nx9 x) + 1 := by
  unfold pc9
  rw [dg_c 64 (bt (nx9 y)) (fun k => bt (nx9 x) k + (if k = j then 1 else 0)) (fun k hk => by
    show bt (nx9 y) k = bt (nx9 x) k + (if k = j then 1 else 0)
    rw [bt_gb, bt_gb, h k hk]
    by_cases e : k = j
    · subst e
      rw [h0, if_pos rfl]
      simp
    · rw [if_neg e, decide_eq_false e, Bool.or_false, Nat.add_zero]), ← dg_add, dg_1w 64 j hj]
theorem pc_0 : pc9 (nx9 0) = 0 := by
  unfold pc9
  rw [dg_c 64 (bt (nx9 0)) (fun _ => 0) (fun k _ => by rw [bt_gb, gb_0, if_neg (by decide)]), dg_0w]
theorem pc_PR {f : Nat → Bool} : ∀ n : Nat, n ≤ 62 → ((pc9 (nx9 (PR9 f n)) : Nat) : Int) = ct9 f n := by
  intro n
  induction n with
  | zero => intro _; show ((pc9 (nx9 0) : Nat) : Int) = 0; rw [pc_0]; rfl
  | succ n ih =>
    intro hn
    have q := ih (by omega)
    rw [ct9_s]
    by_cases e : f n = true
    · have u := pc_up (x := PR9 f n) (y := PR9 f (n + 1)) (j := 62 - n) (by omega) (by
        rw [gb_PR n (by omega), show 62 - (62 - n) = n by omega, decide_eq_false (show ¬ (62 - n ≤ 62 ∧ n < n) by omega), Bool.false_and]) (fun k hk => by
        rw [gb_PR n (by omega), gb_PR (n + 1) (by omega)]
        by_cases w : k = 62 - n
        · subst w
          rw [show 62 - (62 - n) = n by omega, e, decide_eq_true (show 62 - n ≤ 62 ∧ n < n + 1 by omega)]
          simp
        · rw [decide_eq_false w, Bool.or_false]
          by_cases v : k ≤ 62 ∧ 62 - k < n
          · rw [decide_eq_true v, decide_eq_true (show k ≤ 62 ∧ 62 - k < n + 1 by omega)]
          · rw [decide_eq_false v, decide_eq_false (show ¬ (k ≤ 62 ∧ 62 - k < n + 1) by omega), Bool.false_and])
      rw [u, if_pos e]
      omega
    · have u : PR9 f (n + 1) = PR9 f n := by
        show PR9 f n ||| (if f n = true then _ else 0) = PR9 f n
        rw [if_neg e, Int64.or_zero]
      rw [u, if_neg e]
      omega
def or9 (S : Nat → Int64) : Nat → Int64
  | 0 => 0
  | q + 1 => or9 S q ||| S q
theorem or9_p {S : Nat → Int64} {p : Int} {w : Int64} (hp : 0 ≤ p) (h : w = or9 S p.toNat) : w ||| S p.toNat = or9 S (p + 1).toNat := by
  rw [h, show (p + 1).toNat = p.toNat + 1 by omega]
  rfl
theorem PR_or {f g : Nat → Bool} {n : Nat} (hn : n ≤ 62) : PR9 f n ||| PR9 g n = PR9 (fun k => f k || g k) n := by
  apply gb_e
  intro i hi
  rw [gb_or, gb_PR n hn, gb_PR n hn, gb_PR n hn]
  cases decide (i ≤ 62 ∧ 62 - i < n) <;> rfl
theorem PR_0 {n : Nat} (hn : n ≤ 62) : PR9 (fun _ => false) n = 0 := by
  apply gb_e
  intro i hi
  rw [gb_PR n hn, gb_0, Bool.and_false]
theorem or9_F {S : Nat → Int64} {F : Nat → Nat → Bool} {n : Nat} (hn : n ≤ 62) : ∀ m : Nat, (∀ q : Nat, q < m → S q = PR9 (F q) n) → or9 S m = PR9 (sn9 F m) n := by
  intro m
  induction m with
  | zero => intro _; exact ((PR_c (g := fun _ => false) (fun _ _ => rfl)).trans (PR_0 hn)).symm
  | succ m ih =>
    intro h
    show or9 S m ||| S m = _
    rw [ih (fun q hq => h q (by omega)), h m (by omega), PR_or hn]
    exact PR_c (fun _ _ => rfl)
/-- a set's points -/
def cs9 (x : Int64) (k : Nat) : Bool := gb x (62 - k)
theorem cs_PR {f : Nat → Bool} {n : Nat} (hn : n ≤ 62) {p : Nat} (hp : p < n) : cs9 (PR9 f n) p = f p := by
  unfold cs9
  rw [gb_PR n hn, show 62 - (62 - p) = p by omega, decide_eq_true (show 62 - p ≤ 62 ∧ p < n by omega), Bool.true_and]
theorem and_cs {x : Int64} {k : Int} (h : 0 ≤ k ∧ k ≤ 62) : x &&& ((1 : Int64) <<< ((J (62 - k)).toInt64 &&& 63)) = 0 ↔ ¬ cs9 x k.toNat = true := by
  have e : (62 - k) = ((62 - k.toNat : Nat) : Int) := by omega
  have key : x &&& ((1 : Int64) <<< ((J (62 - k)).toInt64 &&& 63)) ≠ 0 ↔ cs9 x k.toNat = true := by
    rw [gb_nz, e]
    unfold cs9
    constructor
    · rintro ⟨i, i1, i2⟩
      rw [gb_and, gb_sh (show 62 - k.toNat < 64 by omega)] at i2
      by_cases w : 62 - k.toNat = i
      · rw [w]
        rw [decide_eq_true w, Bool.and_true] at i2
        exact i2
      · rw [decide_eq_false w, Bool.and_false] at i2; cases i2
    · intro w
      refine ⟨62 - k.toNat, by omega, ?_⟩
      rw [gb_and, gb_sh (show 62 - k.toNat < 64 by omega), w, decide_eq_true rfl]
      rfl
  exact ⟨fun w v => key.mpr v w, fun w => Classical.byContradiction (fun v => w (key.mp v))⟩
theorem ct9_p {f : Nat → Bool} {k : Int} (h : 0 ≤ k) : ct9 f (k + 1).toNat = ct9 f k.toNat + (if f k.toNat = true then 1 else 0) := by
  rw [show (k + 1).toNat = k.toNat + 1 by omega]
  rfl
def MB9 (x : Int64) (n w z : Int) : Prop := (z = -1 ∧ ct9 (cs9 x) n.toNat ≤ w) ∨ ((0 ≤ z ∧ z < n) ∧ cs9 x z.toNat = true ∧ ct9 (cs9 x) z.toNat = w)
theorem at_PR {f : Nat → Bool} {n i z : Int} {x : Int64} (hn : n ≤ 62) (hx : x = PR9 f n.toNat) (h : MB9 x n i z) : z = mem9 f n.toNat i := by
  have c : ∀ k : Nat, k ≤ n.toNat → ct9 (cs9 x) k = ct9 f k := fun k hk => ct9_c k (fun p hp => by rw [hx]; exact cs_PR (by omega) (by omega))
  rcases h with ⟨h1, h2⟩ | ⟨h1, h2, h3⟩
  · rw [c n.toNat (Nat.le_refl _)] at h2
    rw [mem9_no _ h2]; exact h1
  · rw [c z.toNat (by omega)] at h3
    rw [hx, cs_PR (by omega) (by omega)] at h2
    have := mem9_at h2 h3 n.toNat (by omega)
    omega
theorem fm_in {f : Nat → Bool} {n : Nat} {i : Int} (h0 : 0 ≤ i) (h : i < ct9 f n) : 0 ≤ mem9 f n i ∧ mem9 f n i < n := by
  obtain ⟨p, p1, p2, p3⟩ := mem9_ex h0 n h
  rw [mem9_at p2 p3 n p1]
  omega
theorem ut_a {X Y : Nat → Int} {n : Nat} {f : Nat → Bool} {y z : Int} (h : ct9 f n = 3) (e : z = tn X Y (mem9 f n 0).toNat (mem9 f n 1).toNat (mem9 f n 2).toNat) (k : 0 ≤ y ∧ (y = z ∨ y = -z)) : ut9 X Y n f ↔ y = 1 := by
  unfold ut9
  rw [← e]
  constructor
  · intro w; omega
  · intro w; exact ⟨h, by omega⟩

set_option maxHeartbeats 4000000 in
set_option maxRecDepth 100000 in
theorem c_X1_setOf3 (l : Launch) (D : JD) (q : Nat → Nat) (u : CS) (i : Int) (p0 : -2147483648 ≤ i ∧ i ≤ 2147483647) : Met l yX1_setOf (jw yX1_setOf cX1_setOf 2 (some .long)) (jr 0 0) (jP [.ref (q 7), .int (J i)] D (fun H => va_P D.1 j_cl (cW D q u) H)) (vp_Sl (fun x9 => 0 ≤ i → i < 80 → x9 = u.2.2.1 6 i.toNat)) 0 0 (fun _ => False) := by
  refine Met.ofW (cc := cX1_setOf) (maxL := 2) (ret := (some .long)) (by decide) rfl ?_
  intro pr en st mi args below meth co s₁ B hml hv
  obtain ⟨rfl, hG, hP⟩ := hv
  have hr := B.returns
  have hlk := B.notSynchronized
  have SS : jS pr mi co cX1_setOf 2 st _ RX1 := ⟨B.exec, B.bytes, hml, findClass_of_methodNamed B.named, fun w hw => atoms_spec (ws := (jw yX1_setOf cX1_setOf 2 (some .long))) B.pre w (List.mem_cons_of_mem _ hw)⟩
  have hl := lv_entry ([.ref (q 7), .int (J i)]) (n := 2) (Nat.le_of_ble_eq_true rfl)
  rw [lg_entry_eq]
  generalize (lg_sl ([.ref (q 7), .int (J i)]) ++ List.replicate (2 - (lg_sl ([.ref (q 7), .int (J i)])).length) Slot.unset).toArray = ls at hl ⊢
  have hl : lv_has ls 2 [(0, .ref (q 7)), (1, .int (J i))] := hl
  refine lv_iload_n SS.1 SS.2.1 dX1_setOf_0 rfl (lv_at hl 1 rfl) ?_
  refine j_if_lt SS (tgt := 22) (x := i) dX1_setOf_1 (by decide) (by omega) (fun c_1 => ?_) (fun c_1 => ?_)
  · skip
    refine lv_lconst (v := 0) SS.1 SS.2.1 dX1_setOf_22 (by decide +kernel) ?_
    exact W.lret SS.1 SS.2.1 hr (fun t0 ht hW => ⟨_, rfl, (by first | exact fun _ _ => rfl | (intro h1 h2; exfalso; omega)), ht⟩) (fun _ h => nomatch h) dX1_setOf_23 hlk
  · skip
    refine lv_iload_n SS.1 SS.2.1 dX1_setOf_4 rfl (lv_at hl 1 rfl) ?_
    refine lv_aload_n SS.1 SS.2.1 dX1_setOf_5 rfl (lv_at hl 0 rfl) ?_
    refine j_get SS hG hP 7 (v := .ref (q 73)) (C := RX1) (T := TX1) (N := 4) rfl rfl inX1 1 (by decide) (ref := "GridPolygons$Coarse") kw_372 rfl rfl dX1_setOf_6 ?_
    refine va_alen SS.1 SS.2.1 hG.1 hP 73 1 rfl rfl (v := J (80 : Int)) (by first | rfl | exact J_nat _) dX1_setOf_9 ?_
    refine j_icmp_ge SS (tgt := 22) (x := i) (y := 80) dX1_setOf_10 (by decide) (by omega) (by decide) (fun c_10 => ?_) (fun c_10 => ?_)
    · skip
      refine lv_lconst (v := 0) SS.1 SS.2.1 dX1_setOf_22 (by decide +kernel) ?_
      exact W.lret SS.1 SS.2.1 hr (fun t0 ht hW => ⟨_, rfl, (by first | exact fun _ _ => rfl | (intro h1 h2; exfalso; omega)), ht⟩) (fun _ h => nomatch h) dX1_setOf_23 hlk
    · skip
      refine lv_aload_n SS.1 SS.2.1 dX1_setOf_13 rfl (lv_at hl 0 rfl) ?_
      refine j_get SS hG hP 7 (v := .ref (q 73)) (C := RX1) (T := TX1) (N := 4) rfl rfl inX1 1 (by decide) (ref := "GridPolygons$Coarse") kw_372 rfl rfl dX1_setOf_14 ?_
      refine lv_iload_n SS.1 SS.2.1 dX1_setOf_17 rfl (lv_at hl 1 rfl) ?_
      refine j_lald SS hG hP 73 (n := 80) (f := (u.2.2.1 6)) rfl (z := i) (by omega) (by omega) dX1_setOf_18 ?_
      refine lv_goto (tgt := 23) SS.1 SS.2.1 dX1_setOf_19 (by decide) ?_
      exact W.lret SS.1 SS.2.1 hr (fun t0 ht hW => ⟨_, rfl, (by first | exact fun _ _ => rfl | (intro h1 h2; exfalso; omega)), ht⟩) (fun _ h => nomatch h) dX1_setOf_23 hlk

set_option maxHeartbeats 4000000 in
set_option maxRecDepth 100000 in
theorem c_X1_bit3 (l : Launch) (D : JD) (i : Int) : Met l yX1_bit (jw yX1_bit cX1_bit 1 (some .long)) (jr 0 0) (jP [.int (J i)] D (fun _ => True)) (vp_Sl (fun x9 => x9 = (1 : Int64) <<< ((J (62 - i)).toInt64 &&& 63))) 0 0 (fun _ => False) := by
  refine Met.ofW (cc := cX1_bit) (maxL := 1) (ret := (some .long)) (by decide) rfl ?_
  intro pr en st mi args below meth co s₁ B hml hv
  obtain ⟨rfl, hG, hP⟩ := hv
  have hr := B.returns
  have hlk := B.notSynchronized
  have SS : jS pr mi co cX1_bit 1 st _ RX1 := ⟨B.exec, B.bytes, hml, findClass_of_methodNamed B.named, fun w hw => atoms_spec (ws := (jw yX1_bit cX1_bit 1 (some .long))) B.pre w (List.mem_cons_of_mem _ hw)⟩
  have hl := lv_entry ([.int (J i)]) (n := 1) (Nat.le_of_ble_eq_true rfl)
  rw [lg_entry_eq]
  generalize (lg_sl ([.int (J i)]) ++ List.replicate (1 - (lg_sl ([.int (J i)])).length) Slot.unset).toArray = ls at hl ⊢
  have hl : lv_has ls 1 [(0, .int (J i))] := hl
  refine lv_lconst (v := 1) SS.1 SS.2.1 dX1_bit_0 (by decide +kernel) ?_
  refine j_bipush SS dX1_bit_1 (by decide +kernel) ?_
  refine lv_iload_n SS.1 SS.2.1 dX1_bit_3 rfl (lv_at hl 0 rfl) ?_
  refine j_isub SS (x := 62) (y := i) dX1_bit_4 ?_
  refine lv_lshl SS.1 SS.2.1 dX1_bit_5 rfl (lv_topl (fun x_5 ex_5 => ?_))
  exact W.lret SS.1 SS.2.1 hr (fun t0 ht hW => ⟨_, rfl, (ex_5), ht⟩) (fun _ h => nomatch h) dX1_bit_6 hlk

set_option maxHeartbeats 4000000 in
set_option maxRecDepth 100000 in
theorem c_X1_sizeOf3 (l : Launch) (D : JD) (q : Nat → Nat) (u : CS) (i : Int) (p0 : -2147483648 ≤ i ∧ i ≤ 2147483647) : Met l yX1_sizeOf (jw yX1_sizeOf cX1_sizeOf 2 (some .int)) (jr 1 21) (jP [.ref (q 7), .int (J i)] D (fun H => va_P D.1 j_cl (cW D q u) H)) (jRi (fun z => (0 ≤ z ∧ z ≤ 64) ∧ (0 ≤ i → i < 80 → z = ((pc9 (nx9 (u.2.2.1 6 i.toNat)) : Nat) : Int)))) 0 0 (fun _ => False) := by
  refine Met.ofW (cc := cX1_sizeOf) (maxL := 2) (ret := (some .int)) (by decide) rfl ?_
  intro pr en st mi args below meth co s₁ B hml hv
  obtain ⟨rfl, hG, hP⟩ := hv
  have hr := B.returns
  have hlk := B.notSynchronized
  have SS : jS pr mi co cX1_sizeOf 2 st _ RX1 := ⟨B.exec, B.bytes, hml, findClass_of_methodNamed B.named, fun w hw => atoms_spec (ws := (jw yX1_sizeOf cX1_sizeOf 2 (some .int))) B.pre w (List.mem_cons_of_mem _ hw)⟩
  have hl := lv_entry ([.ref (q 7), .int (J i)]) (n := 2) (Nat.le_of_ble_eq_true rfl)
  rw [lg_entry_eq]
  generalize (lg_sl ([.ref (q 7), .int (J i)]) ++ List.replicate (2 - (lg_sl ([.ref (q 7), .int (J i)])).length) Slot.unset).toArray = ls at hl ⊢
  have hl : lv_has ls 2 [(0, .ref (q 7)), (1, .int (J i))] := hl
  refine lv_aload_n SS.1 SS.2.1 dX1_sizeOf_0 rfl (lv_at hl 0 rfl) ?_
  refine lv_iload_n SS.1 SS.2.1 dX1_sizeOf_1 rfl (lv_at hl 1 rfl) ?_
  refine j_vRl SS (As := [.int (J i)]) (rest := []) (c_X1_setOf3 l D q u  i (show -2147483648 ≤ i ∧ i ≤ 2147483647 from (p0))) mf_X1_setOf kw_1018 hG hP hP (ci := 1) (q0 := 7) rfl rfl rfl rfl hl.1 ⟨⟨Nat.le_of_ble_eq_true rfl, Nat.le_of_ble_eq_true rfl⟩, Nat.le_of_ble_eq_true rfl, Nat.le_refl _, Nat.le_refl _⟩ rfl dX1_sizeOf_2 (fun x_2 h_2 => ?_)
  refine j_sRi SS (As := [.long x_2]) (rest := []) (c_J13_bitCount3 l D  x_2 ) mf_J13_bitCount_95d88 kw_1026 hG trivial rfl hl.1 ⟨⟨Nat.le_of_ble_eq_true rfl, Nat.le_of_ble_eq_true rfl⟩, Nat.le_of_ble_eq_true rfl, Nat.le_refl _, Nat.le_refl _⟩ rfl dX1_sizeOf_5 (fun z_5 h_5 => ?_)
  have h_5 : z_5 = ((pc9 (nx9 x_2) : Nat) : Int) ∧ 0 ≤ z_5 ∧ z_5 ≤ 64 := h_5
  exact W.iret SS.1 SS.2.1 hr (fun t0 ht hW => ⟨_, rfl, ⟨z_5, rfl, (⟨h_5.2, fun q1 q2 => by rw [← h_2 q1 q2]; exact h_5.1⟩)⟩, ht⟩) (fun _ h => nomatch h) dX1_sizeOf_8 hlk
