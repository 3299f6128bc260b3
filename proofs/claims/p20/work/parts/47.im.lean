
/-- on which side of side i a point lies -/
def cvv (u : CS) (r : Nat) (i x y : Int) : Int := dX u r i * (y - ry9 u r i) - dY u r i * (x - rx u r i)
def loC (u : CS) (r : Nat) (x y n : Int) : Prop := (∃ a : Int, 0 ≤ a ∧ a < u.1.2.2.1 r ∧ ry9 u r a ≤ y) ∧ ∀ k : Int, 0 ≤ k → k < n → 0 < dX u r k → 0 ≤ cvv u r k x y
def hiC (u : CS) (r : Nat) (x y n : Int) : Prop := (∃ a : Int, 0 ≤ a ∧ a < u.1.2.2.1 r ∧ y ≤ ry9 u r a) ∧ ∀ k : Int, 0 ≤ k → k < n → 0 < -dX u r k → 0 ≤ cvv u r k x y
/-- in the box and left of the sides that are not upright -/
def inC (u : CS) (r : Nat) (x y : Int) : Prop := u.1.2.2.1 r ≠ 0 ∧ rx u r 0 ≤ x ∧ (∃ a : Int, 0 ≤ a ∧ a < u.1.2.2.1 r ∧ x ≤ rx u r a) ∧ loC u r x y (u.1.2.2.1 r) ∧ hiC u r x y (u.1.2.2.1 r)
def stC (u : CS) (r : Nat) (x y z : Int) : Prop := (z = 0 ∧ ¬ inC u r x y) ∨ (z = 1 ∧ inC u r x y ∧ ∃ i : Int, 0 ≤ i ∧ i < u.1.2.2.1 r ∧ cvv u r i x y = 0) ∨ (z = 2 ∧ inC u r x y ∧ ∀ i : Int, 0 ≤ i → i < u.1.2.2.1 r → cvv u r i x y ≠ 0)
theorem low_1 {X Y x y d e : Int} (hd : 0 < d) : Y - (X - x) * e / d ≤ y ↔ 0 ≤ d * (y - Y) - e * (x - X) := by
  have q := Int.le_ediv_iff_mul_le (a := Y - y) (b := (X - x) * e) hd
  have e1 : d * (y - Y) - e * (x - X) = (X - x) * e - (Y - y) * d := by grind
  rw [e1]
  constructor
  · intro w; have := q.mp (by omega); omega
  · intro w; have := q.mpr (by omega); omega
theorem high_1 {X Y x y d e : Int} (hd : 0 < -d) : y ≤ Y + (X - x) * e / (-d) ↔ 0 ≤ d * (y - Y) - e * (x - X) := by
  have q := Int.le_ediv_iff_mul_le (a := y - Y) (b := (X - x) * e) hd
  have e1 : d * (y - Y) - e * (x - X) = (X - x) * e - (y - Y) * (-d) := by grind
  rw [e1]
  constructor
  · intro w; have := q.mp (by omega); omega
  · intro w; have := q.mpr (by omega); omega
theorem loC_s {u : CS} {r : Nat} {x y i : Int} (h : 0 ≤ i) : loC u r x y (i + 1) ↔ loC u r x y i ∧ (0 < dX u r i → 0 ≤ cvv u r i x y) := by
  constructor
  · intro q; exact ⟨⟨q.1, fun k h0 h1 => q.2 k h0 (by omega)⟩, q.2 i h (by omega)⟩
  · intro q
    refine ⟨q.1.1, fun k h0 h1 => ?_⟩
    by_cases e : k = i
    · rw [e]; exact q.2
    · exact q.1.2 k h0 (by omega)
theorem hiC_s {u : CS} {r : Nat} {x y i : Int} (h : 0 ≤ i) : hiC u r x y (i + 1) ↔ hiC u r x y i ∧ (0 < -dX u r i → 0 ≤ cvv u r i x y) := by
  constructor
  · intro q; exact ⟨⟨q.1, fun k h0 h1 => q.2 k h0 (by omega)⟩, q.2 i h (by omega)⟩
  · intro q
    refine ⟨q.1.1, fun k h0 h1 => ?_⟩
    by_cases e : k = i
    · rw [e]; exact q.2
    · exact q.1.2 k h0 (by omega)
