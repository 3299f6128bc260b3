
def rfC (u : CS) (s z : Int) : Prop := (¬ (0 ≤ s ∧ s ≤ 7) ∧ z = -1) ∨ ((0 ≤ s ∧ s ≤ 7) ∧ ((z = 1 ∧ cRef u s.toNat) ∨ (z = 0 ∧ ¬ (cRef u s.toNat ∧ cHS u s.toNat))))
def rfM (u : MS) (s z : Int) : Prop := (¬ (0 ≤ s ∧ s ≤ 7) ∧ z = -1) ∨ ((0 ≤ s ∧ s ≤ 7) ∧ ((z = 1 ∧ mRef u s) ∨ (z = 0 ∧ ¬ mRef u s)))
theorem EQ_rf {u : CS} {v : MS} {s z z' : Int} (hC : CI u) (h : EQS u v) (hc : rfC u s z) (hm : rfM v s z') : z = z' ∧ wRg z := by
  unfold wRg
  rcases hc with ⟨a1, a2⟩ | ⟨a1, a2⟩ <;> rcases hm with ⟨b1, b2⟩ | ⟨b1, b2⟩
  · omega
  · exact absurd b1 a1
  · exact absurd a1 b1
  · obtain ⟨k1, k2, _⟩ := EQS_ref hC h (r := s.toNat) (by omega)
    rw [show ((s.toNat : Nat) : Int) = s by omega] at k2
    rcases a2 with ⟨c1, c2⟩ | ⟨c1, c2⟩ <;> rcases b2 with ⟨d1, d2⟩ | ⟨d1, d2⟩
    · omega
    · exact absurd (k2.mp c2) d2
    · exact absurd ⟨k2.mpr d2, k1⟩ c2
    · omega
/-! widths -/
def wayP (a b : Int) : Prop := (0 ≤ a ∧ a ≤ 100 ∧ -100 ≤ b ∧ b ≤ 100) ∧ ((a = 0 ∧ b = 1) ∨ (a ≠ 0 ∧ (Int.gcd a b : Int) = 1))
theorem way_g (a b : Int) (h1 : a = 0) (h2 : b = 1) : (Int.gcd a b : Int) = 1 := by rw [h1, h2]; rfl
def spR (u : CS) (r : Nat) (a b z : Int) : Prop := ∃ lo hi : Int, (∀ k : Int, 0 ≤ k → k < u.1.2.2.1 r → lo ≤ a * rx u r k + b * ry9 u r k ∧ a * rx u r k + b * ry9 u r k ≤ hi) ∧ (∃ k : Int, 0 ≤ k ∧ k < u.1.2.2.1 r ∧ a * rx u r k + b * ry9 u r k = lo) ∧ (∃ k : Int, 0 ≤ k ∧ k < u.1.2.2.1 r ∧ a * rx u r k + b * ry9 u r k = hi) ∧ z = hi - lo
def wdM (u : MS) (s a b z : Int) : Prop := ∃ lo hi : Int, (∀ k : Int, 0 ≤ k → k < mN u s → lo ≤ a * mX u s k + b * mY u s k ∧ a * mX u s k + b * mY u s k ≤ hi) ∧ (∃ k : Int, 0 ≤ k ∧ k < mN u s ∧ a * mX u s k + b * mY u s k = lo) ∧ (∃ k : Int, 0 ≤ k ∧ k < mN u s ∧ a * mX u s k + b * mY u s k = hi) ∧ z = hi - lo
def wiC (u : CS) (s a b z : Int) : Prop := (¬ ((0 ≤ s ∧ s ≤ 7) ∧ wayP a b) ∧ z = -1) ∨ (((0 ≤ s ∧ s ≤ 7) ∧ wayP a b) ∧ ((u.1.2.2.1 s.toNat = 0 ∧ z = -2) ∨ (u.1.2.2.1 s.toNat ≠ 0 ∧ spR u s.toNat a b z)))
def wiM (u : MS) (s a b z : Int) : Prop := (¬ ((0 ≤ s ∧ s ≤ 7) ∧ wayP a b) ∧ z = -1) ∨ (((0 ≤ s ∧ s ≤ 7) ∧ wayP a b) ∧ ((mN u s = 0 ∧ z = -2) ∨ (mN u s ≠ 0 ∧ wdM u s a b z)))
theorem EQS_x {u : CS} {v : MS} (hC : CI u) (h : EQS u v) {s : Int} (hs : 0 ≤ s ∧ s ≤ 7) : u.1.2.2.1 s.toNat = mN v s ∧ ∀ k : Int, 0 ≤ k → k < mN v s → rx u s.toNat k = mX v s k ∧ ry9 u s.toNat k = mY v s k := by
  obtain ⟨q1, q2, _⟩ := h s.toNat (by omega)
  rw [show ((s.toNat : Nat) : Int) = s by omega] at q1 q2
  refine ⟨q1, fun k h0 h1 => ?_⟩
  have hR := CI_40 hC (i := s.toNat) (by omega)
  have k1 := rx_n hR (a := k.toNat) (by omega)
  have k2 := q2 k.toNat (by omega)
  rw [show ((k.toNat : Nat) : Int) = k by omega] at k1 k2
  exact ⟨k1.1.trans k2.1, k1.2.trans k2.2⟩
theorem EQ_wi {u : CS} {v : MS} {s a b z z' : Int} (hC : CI u) (h : EQS u v) (hc : wiC u s a b z ∧ wRg z) (hm : wiM v s a b z') : z = z' ∧ wRg z := by
  refine ⟨?_, hc.2⟩
  rcases hc.1 with ⟨a1, a2⟩ | ⟨a1, a2⟩ <;> rcases hm with ⟨b1, b2⟩ | ⟨b1, b2⟩
  · omega
  · exact absurd b1 a1
  · exact absurd a1 b1
  · obtain ⟨k1, k2⟩ := EQS_x hC h a1.1
    rcases a2 with ⟨c1, c2⟩ | ⟨c1, lo, hi, c2, ⟨p, p1, p2, p3⟩, ⟨q, q1, q2, q3⟩, c3⟩ <;> rcases b2 with ⟨d1, d2⟩ | ⟨d1, lo', hi', d2, ⟨p', p1', p2', p3'⟩, ⟨q', q1', q2', q3'⟩, d3⟩
    · omega
    · omega
    · omega
    · have w1 := d2 p p1 (by omega)
      have w2 := d2 q q1 (by omega)
      have w3 := c2 p' p1' (by omega)
      have w4 := c2 q' q1' (by omega)
      rw [(k2 p p1 (by omega)).1, (k2 p p1 (by omega)).2] at p3
      rw [(k2 q q1 (by omega)).1, (k2 q q1 (by omega)).2] at q3
      rw [(k2 p' p1' p2').1, (k2 p' p1' p2').2] at w3
      rw [(k2 q' q1' q2').1, (k2 q' q1' q2').2] at w4
      omega
