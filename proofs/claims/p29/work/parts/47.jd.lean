
/-! ===== sets of points as longs ===== -/
theorem fst_n9 {P : Nat → Prop} : ∀ n : Nat, (∀ j : Nat, j < n → P j) ∨ ∃ a : Nat, a < n ∧ ¬ P a ∧ ∀ j : Nat, j < a → P j := by
  intro n
  induction n with
  | zero => exact Or.inl (fun j hj => by omega)
  | succ n ih =>
    rcases ih with h | ⟨a, a1, a2, a3⟩
    · by_cases e : P n
      · exact Or.inl (fun j hj => by
          by_cases w : j = n
          · rw [w]; exact e
          · exact h j (by omega))
      · exact Or.inr ⟨n, by omega, e, h⟩
    · exact Or.inr ⟨a, by omega, a2, a3⟩
def gb (x : Int64) (i : Nat) : Bool := x.toBitVec.getLsbD i
theorem sh_d : ∀ m : Fin 64, ((1 : Int64) <<< ((J ((m.1 : Nat) : Int)).toInt64 &&& 63)).toBitVec = BitVec.twoPow 64 m.1 := by decide +kernel
theorem sh_b (m : Nat) (h : m < 64) : ((1 : Int64) <<< ((J (m : Int)).toInt64 &&& 63)).toBitVec = BitVec.twoPow 64 m := sh_d ⟨m, h⟩
theorem gb_sh {m : Nat} (h : m < 64) (i : Nat) : gb ((1 : Int64) <<< ((J (m : Int)).toInt64 &&& 63)) i = decide (m = i) := by
  unfold gb
  rw [sh_b m h, BitVec.getLsbD_twoPow, decide_eq_true h, Bool.true_and]
theorem gb_or {x y : Int64} (i : Nat) : gb (x ||| y) i = (gb x i || gb y i) := by unfold gb; rw [Int64.toBitVec_or, BitVec.getLsbD_or]
theorem gb_and {x y : Int64} (i : Nat) : gb (x &&& y) i = (gb x i && gb y i) := by unfold gb; rw [Int64.toBitVec_and, BitVec.getLsbD_and]
theorem gb_xor {x y : Int64} (i : Nat) : gb (x ^^^ y) i = (gb x i ^^ gb y i) := by unfold gb; rw [Int64.toBitVec_xor, BitVec.getLsbD_xor]
theorem gb_0 (i : Nat) : gb 0 i = false := by
  show (0#64).getLsbD i = false
  exact BitVec.getLsbD_zero
theorem gb_e {x y : Int64} (h : ∀ i : Nat, i < 64 → gb x i = gb y i) : x = y := by
  apply Int64.toBitVec_inj.mp
  exact BitVec.eq_of_getLsbD_eq (fun i hi => h i hi)
theorem gb_nz {x : Int64} : x ≠ 0 ↔ ∃ i : Nat, i < 64 ∧ gb x i = true := by
  constructor
  · intro h
    apply Classical.byContradiction
    intro w
    refine h (gb_e (fun i hi => ?_))
    rw [gb_0]
    cases e : gb x i
    · rfl
    · exact absurd ⟨i, hi, e⟩ w
  · rintro ⟨i, _, hi⟩ e
    rw [e, gb_0] at hi
    cases hi
/-- the reference's sets -/
theorem gb_PB {f : Nat → Bool} : ∀ n : Nat, n ≤ 64 → ∀ i : Nat, gb (PB f n) i = (decide (i < n) && f i) := by
  intro n
  induction n with
  | zero => intro _ i; show gb 0 i = _; rw [gb_0]; simp
  | succ n ih =>
    intro hn i
    show gb (PB f n ||| (if f n then (1 : Int64) <<< ((J n).toInt64 &&& 63) else 0)) i = _
    rw [gb_or, ih (by omega)]
    have e : gb (if f n then (1 : Int64) <<< ((J n).toInt64 &&& 63) else 0) i = (f n && decide (n = i)) := by
      cases h : f n
      · rw [if_neg (by decide), gb_0]; rfl
      · rw [if_pos rfl, gb_sh (by omega)]; rfl
    rw [e]
    by_cases w : n = i
    · subst w; simp
    · by_cases w2 : i < n
      · have w3 : i < n + 1 := by omega
        simp [w, w2, w3]
      · have w3 : ¬ i < n + 1 := by omega
        simp [w, w2, w3]
/-- the class' sets: the first point the highest bit -/
def PR9 (f : Nat → Bool) : Nat → Int64
  | 0 => 0
  | n + 1 => PR9 f n ||| (if f n then (1 : Int64) <<< ((J (62 - (n : Int))).toInt64 &&& 63) else 0)
theorem gb_PR {f : Nat → Bool} : ∀ n : Nat, n ≤ 62 → ∀ i : Nat, gb (PR9 f n) i = (decide (i ≤ 62 ∧ 62 - i < n) && f (62 - i)) := by
  intro n
  induction n with
  | zero => intro _ i; show gb 0 i = _; rw [gb_0]; simp
  | succ n ih =>
    intro hn i
    show gb (PR9 f n ||| (if f n then (1 : Int64) <<< ((J (62 - (n : Int))).toInt64 &&& 63) else 0)) i = _
    rw [gb_or, ih (by omega)]
    have e : gb (if f n then (1 : Int64) <<< ((J (62 - (n : Int))).toInt64 &&& 63) else 0) i = (f n && decide (62 - n = i)) := by
      cases h : f n
      · rw [if_neg (by decide), gb_0]; rfl
      · rw [if_pos rfl, show (62 - (n : Int)) = ((62 - n : Nat) : Int) by omega, gb_sh (by omega)]; rfl
    rw [e]
    by_cases w : 62 - n = i
    · have w1 : 62 - i = n := by omega
      have w2 : i ≤ 62 := by omega
      rw [w1]
      simp [w, w2]
    · by_cases w2 : i ≤ 62 ∧ 62 - i < n
      · have w3 : i ≤ 62 ∧ 62 - i < n + 1 := ⟨w2.1, by omega⟩
        simp [w, w2, w3]
      · have w3 : ¬ (i ≤ 62 ∧ 62 - i < n + 1) := fun q => w2 ⟨q.1, by omega⟩
        simp [w, w2, w3]
theorem gb_nx {x : Int64} (i : Nat) : (nx9 x).testBit i = gb x i := by
  unfold nx9 gb
  exact BitVec.testBit_toNat _
theorem nx9_in {x : Int64} (h : gb x 63 = false) : nx9 x < 2 ^ 63 := by
  apply Nat.lt_pow_two_of_testBit
  intro i hi
  by_cases e : i = 63
  · rw [gb_nx, e]; exact h
  · rw [gb_nx]
    unfold gb
    exact BitVec.getLsbD_of_ge _ _ (by omega)
theorem lt_tb {x y p : Nat} (h1 : x.testBit p = false) (h2 : y.testBit p = true) (h3 : ∀ q : Nat, p < q → x.testBit q = y.testBit q) : x < y := by
  rw [Nat.testBit_eq_decide_div_mod_eq] at h1 h2
  have a1 : x / 2 ^ p % 2 ≠ 1 := of_decide_eq_false h1
  have a2 : y / 2 ^ p % 2 = 1 := of_decide_eq_true h2
  have a3 : x / 2 ^ p / 2 = y / 2 ^ p / 2 := by
    apply Nat.eq_of_testBit_eq
    intro i
    rw [Nat.div_div_eq_div_mul, Nat.div_div_eq_div_mul, ← Nat.pow_succ, Nat.testBit_div_two_pow, Nat.testBit_div_two_pow]
    exact h3 _ (by omega)
  apply Nat.lt_of_not_le
  intro w
  have := Nat.div_le_div_right (c := 2 ^ p) w
  omega
/-- order: the highest bit in which two differ -/
theorem lt_gb {x y : Int64} (hx : gb x 63 = false) (hy : gb y 63 = false) {p : Nat} (h1 : gb x p = false) (h2 : gb y p = true) (h3 : ∀ q : Nat, p < q → gb x q = gb y q) : x < y := by
  have l := lt_tb (x := nx9 x) (y := nx9 y) (p := p) (by rw [gb_nx]; exact h1) (by rw [gb_nx]; exact h2) (fun q hq => by rw [gb_nx, gb_nx]; exact h3 q hq)
  have lx := nx9_in hx
  have ly := nx9_in hy
  rw [Int64.lt_iff_toInt_lt]
  show x.toBitVec.toInt < y.toBitVec.toInt
  rw [BitVec.toInt_eq_toNat_of_lt (by unfold nx9 at lx; omega), BitVec.toInt_eq_toNat_of_lt (by unfold nx9 at ly; omega)]
  unfold nx9 at l
  omega
/-- of two sets: the first point in which they differ is in the one -/
def ahd (n : Nat) (f g : Nat → Bool) : Prop := ∃ p : Nat, p < n ∧ f p = true ∧ g p = false ∧ ∀ r : Nat, r < p → f r = g r
theorem ahd_or {n : Nat} {f g : Nat → Bool} (h : ∃ p : Nat, p < n ∧ f p ≠ g p) : ahd n f g ∨ ahd n g f := by
  obtain ⟨p, p1, p2⟩ := h
  rcases fst_n9 (P := fun r => f r = g r) n with w | ⟨a, a1, a2, a3⟩
  · exact absurd (w p p1) p2
  · cases e : f a
    · cases e2 : g a
      · exact absurd (e.trans e2.symm) a2
      · exact Or.inr ⟨a, a1, e2, e, fun r hr => (a3 r hr).symm⟩
    · cases e2 : g a
      · exact Or.inl ⟨a, a1, e, e2, a3⟩
      · exact absurd (e.trans e2.symm) a2
theorem ahd_n {n : Nat} {f g : Nat → Bool} (h : ahd n f g) (k : ahd n g f) : False := by
  obtain ⟨p, p1, p2, p3, p4⟩ := h
  obtain ⟨q, q1, q2, q3, q4⟩ := k
  rcases Nat.lt_trichotomy p q with w | w | w
  · have := q4 p w; rw [p2, p3] at this; cases this
  · subst w; rw [p2] at q3; cases q3
  · have := p4 q w; rw [q2, q3] at this; cases this
theorem ahd_t {n : Nat} {f g h : Nat → Bool} (a : ahd n f g) (b : ahd n g h) : ahd n f h := by
  obtain ⟨p, p1, p2, p3, p4⟩ := a
  obtain ⟨q, q1, q2, q3, q4⟩ := b
  rcases Nat.lt_trichotomy p q with w | w | w
  · exact ⟨p, p1, p2, (q4 p w).symm.trans p3, fun r hr => (p4 r hr).trans (q4 r (by omega))⟩
  · subst w; rw [q2] at p3; cases p3
  · exact ⟨q, q1, (p4 q w).trans q2, q3, fun r hr => (p4 r (by omega)).trans (q4 r hr)⟩
/-- the class' order -/
theorem PR_lt {n : Nat} {f g : Nat → Bool} (hn : n ≤ 62) (h : ahd n f g) : PR9 g n < PR9 f n := by
  obtain ⟨p, p1, p2, p3, p4⟩ := h
  have z : ∀ f : Nat → Bool, gb (PR9 f n) 63 = false := fun f => by rw [gb_PR n hn]; simp
  refine lt_gb (z g) (z f) (p := 62 - p) ?_ ?_ (fun q hq => ?_)
  · rw [gb_PR n hn, show 62 - (62 - p) = p by omega, p3]; simp
  · rw [gb_PR n hn, show 62 - (62 - p) = p by omega, p2]
    have w1 : 62 - p ≤ 62 ∧ p < n := ⟨by omega, p1⟩
    simp [w1.2]
  · rw [gb_PR n hn, gb_PR n hn]
    by_cases w : q ≤ 62
    · rw [p4 (62 - q) (by omega)]
    · simp [w]
/-- the reference's order -/
theorem PB_ah {n : Nat} {f g : Nat → Bool} (hn : n ≤ 62) : (((PB f n ^^^ PB g n) &&& -(PB f n ^^^ PB g n)) &&& PB f n ≠ 0) ↔ ahd n f g := by
  have ng : ∀ (x : Int64) (i : Nat), gb (-x) i = (gb x i ^^ decide (i < 64) && decide (∃ j, j < i ∧ gb x j = true)) := fun x i => by
    unfold gb
    rw [Int64.toBitVec_neg, BitVec.getLsbD_neg]
  rw [gb_nz]
  constructor
  · rintro ⟨i, hi, h⟩
    rw [gb_and, gb_and, ng, gb_xor, gb_PB n (by omega), gb_PB n (by omega)] at h
    by_cases w : i < n
    · have lo : ∀ j, j < i → f j = g j := fun j hj => by
        apply Classical.byContradiction
        intro q
        have ex : ∃ j, j < i ∧ gb (PB f n ^^^ PB g n) j = true := ⟨j, hj, by
          rw [gb_xor, gb_PB n (by omega), gb_PB n (by omega), decide_eq_true (show j < n by omega)]
          cases e1 : f j <;> cases e2 : g j <;> simp_all⟩
        rw [decide_eq_true ex, decide_eq_true hi, decide_eq_true w] at h
        cases e1 : f i <;> cases e2 : g i <;> simp_all
      rw [decide_eq_true w] at h
      cases e1 : f i
      · rw [e1] at h; simp at h
      · cases e2 : g i
        · exact ⟨i, w, e1, e2, lo⟩
        · rw [e1, e2] at h; simp at h
    · rw [decide_eq_false w] at h; simp at h
  · rintro ⟨p, p1, p2, p3, p4⟩
    refine ⟨p, by omega, ?_⟩
    have ex : ¬ ∃ j, j < p ∧ gb (PB f n ^^^ PB g n) j = true := fun ⟨j, j1, j2⟩ => by
      rw [gb_xor, gb_PB n (by omega), gb_PB n (by omega), p4 j j1] at j2
      simp at j2
    rw [gb_and, gb_and, ng, gb_xor, gb_PB n (by omega), gb_PB n (by omega), decide_eq_false ex, decide_eq_true p1, p2, p3]
    simp
/-- equal sets -/
theorem PB_e {n : Nat} {f g : Nat → Bool} (hn : n ≤ 62) (h : PB f n = PB g n) : ∀ p : Nat, p < n → f p = g p := fun p hp => by
  have q := gb_PB (f := f) n (by omega) p
  rw [h, gb_PB n (by omega), decide_eq_true hp, Bool.true_and, Bool.true_and] at q
  exact q.symm
theorem PR_e {n : Nat} {f g : Nat → Bool} (hn : n ≤ 62) (h : PR9 f n = PR9 g n) : ∀ p : Nat, p < n → f p = g p := fun p hp => by
  have q := gb_PR (f := f) n hn (62 - p)
  rw [h, gb_PR n hn, show 62 - (62 - p) = p by omega, decide_eq_true (show 62 - p ≤ 62 ∧ p < n from ⟨by omega, hp⟩), Bool.true_and, Bool.true_and] at q
  exact q.symm
