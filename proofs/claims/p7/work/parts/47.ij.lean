
def crC (u : CS) (s z : Int) : Prop := (¬ (0 ≤ s ∧ s ≤ 7) ∧ z = -1) ∨ ((0 ≤ s ∧ s ≤ 7) ∧ z = u.1.2.2.1 s.toNat)
def coC (u : CS) (s i w z : Int) : Prop := (¬ ((0 ≤ s ∧ s ≤ 7) ∧ (0 ≤ i ∧ i < u.1.2.2.1 s.toNat) ∧ 0 ≤ w ∧ w ≤ 1) ∧ z = -1000000) ∨ (((0 ≤ s ∧ s ≤ 7) ∧ (0 ≤ i ∧ i < u.1.2.2.1 s.toNat) ∧ 0 ≤ w ∧ w ≤ 1) ∧ ((w = 0 ∧ z = rx u s.toNat i) ∨ (w = 1 ∧ z = ry9 u s.toNat i)))
def coM (u : MS) (s i w z : Int) : Prop := (¬ ((0 ≤ s ∧ s ≤ 7) ∧ (0 ≤ i ∧ i < mN u s) ∧ 0 ≤ w ∧ w ≤ 1) ∧ z = -1000000) ∨ (((0 ≤ s ∧ s ≤ 7) ∧ (0 ≤ i ∧ i < mN u s) ∧ 0 ≤ w ∧ w ≤ 1) ∧ ((w = 0 ∧ z = mX u s i) ∨ (w = 1 ∧ z = mY u s i)))
/-- a word's range -/
def wRg (z : Int) : Prop := -2147483648 ≤ z ∧ z ≤ 2147483647
theorem CI_n {u : CS} (h : CI u) {s : Int} (hs : 0 ≤ s ∧ s ≤ 7) : 0 ≤ u.1.2.2.1 s.toNat ∧ u.1.2.2.1 s.toNat ≤ 24 := by
  have q := (CI_40 h (i := s.toNat) (by omega)).1
  have := rl_s (show s.toNat < 8 by omega)
  omega
theorem HS_0 {S : Int → Int → Prop} {n : Int} {X Y : Nat → Int} (h : HS S n X Y) : 0 ≤ n := by
  rcases h with ⟨h, _⟩ | ⟨h, _⟩ <;> omega
theorem mkC_g {u u' : CS} {t : Nat} {z : Int} {S : Int → Int → Prop} (h : mkC u u' t z S) : wRg z := by
  obtain ⟨n, X, Y, H, k⟩ := h
  have := HS_0 H
  unfold wRg
  rcases k with ⟨_, k, _⟩ | ⟨k, _⟩ <;> omega
/-- the answers alike, and a word -/
theorem EQ_cl {u u' : CS} {v v' : MS} {s z z' : Int} (hC : CI u) (h : EQS u v) (hc : clC u u' s z) (hm : clM v v' s z') : z = z' ∧ wRg z := by
  refine ⟨(EQS_cl h hc hm).1, ?_⟩
  rcases hc with ⟨_, a2, _⟩ | ⟨a1, a2, _⟩
  · unfold wRg; omega
  · have := CI_n hC a1; unfold wRg; omega
theorem EQ_ad {u u' : CS} {v v' : MS} {s x y z z' : Int} (h : EQS u v) (hc : adC u u' s x y z) (hm : adM v v' s x y z') : z = z' ∧ wRg z := by
  refine ⟨(EQS_ad h hc hm).1, ?_⟩
  rcases hc with ⟨_, a2, _⟩ | ⟨_, _, a⟩
  · unfold wRg; omega
  · exact mkC_g a
theorem EQ_sm {u u' : CS} {v v' : MS} {s s2 t z z' : Int} (h : EQS u v) (hc : smC u u' s s2 t z) (hm : smM v v' s s2 t z') : z = z' ∧ wRg z := by
  refine ⟨(EQS_sm h hc hm).1, ?_⟩
  rcases hc with ⟨_, a2, _⟩ | ⟨_, _, _, a⟩
  · unfold wRg; omega
  · exact mkC_g a
theorem EQ_mp {u u' : CS} {v v' : MS} {s t a b c d e f z z' : Int} (h : EQS u v) (hc : mpC u u' s t a b c d e f z) (hm : mpM v v' s t a b c d e f z') : z = z' ∧ wRg z := by
  refine ⟨(EQS_mp h hc hm).1, ?_⟩
  rcases hc with ⟨_, a2, _⟩ | ⟨_, _, _, ⟨_, a2, _⟩ | ⟨_, ⟨a2, _⟩ | a⟩⟩
  · unfold wRg; omega
  · unfold wRg; omega
  · unfold wRg; omega
  · exact mkC_g a
theorem EQ_dl {u u' : CS} {v v' : MS} {s t z z' : Int} (hC : CI u) (h : EQS u v) (hc : dlC u u' s t z) (hm : dlM v v' s t z') : z = z' ∧ wRg z := by
  refine ⟨(EQS_dl hC h hc hm).1, ?_⟩
  rcases hc with ⟨_, a2, _⟩ | ⟨_, _, ⟨_, a2, _⟩ | ⟨_, a⟩⟩
  · unfold wRg; omega
  · unfold wRg; omega
  · exact mkC_g a
theorem EQ_cr {u : CS} {v : MS} {s z z' : Int} (hC : CI u) (h : EQS u v) (hc : crC u s z) (hm : (0 ≤ s ∧ s ≤ 7 ∧ z' = mN v s) ∨ (¬ (0 ≤ s ∧ s ≤ 7) ∧ z' = -1)) : z = z' ∧ wRg z := by
  unfold wRg
  rcases hc with ⟨a1, a2⟩ | ⟨a1, a2⟩
  · omega
  · have q := (h s.toNat (by omega)).1
    rw [show ((s.toNat : Nat) : Int) = s by omega] at q
    have := CI_n hC a1
    omega
theorem EQ_co {u : CS} {v : MS} {s i w z z' : Int} (hC : CI u) (h : EQS u v) (hc : coC u s i w z) (hm : coM v s i w z') : z = z' ∧ wRg z := by
  by_cases hs : 0 ≤ s ∧ s ≤ 7
  · obtain ⟨q1, q2, _⟩ := h s.toNat (by omega)
    rw [show ((s.toNat : Nat) : Int) = s by omega] at q1 q2
    rcases hc with ⟨a1, a2⟩ | ⟨a1, a2⟩ <;> rcases hm with ⟨b1, b2⟩ | ⟨b1, b2⟩
    · exact ⟨by omega, by unfold wRg; omega⟩
    · exact absurd ⟨b1.1, by omega, b1.2.2⟩ a1
    · exact absurd ⟨a1.1, by omega, a1.2.2⟩ b1
    · have hR := CI_40 hC (i := s.toNat) (by omega)
      have k := rx_n hR (a := i.toNat) (by omega)
      have k2 := q2 i.toNat (by omega)
      have k3 := hR.2 i.toNat
      rw [show ((i.toNat : Nat) : Int) = i by omega] at k k2
      unfold wRg
      rcases a2 with ⟨c1, c2⟩ | ⟨c1, c2⟩ <;> rcases b2 with ⟨d1, d2⟩ | ⟨d1, d2⟩
      · rw [k.1, k2.1] at c2; rw [k2.1] at k3; omega
      · omega
      · omega
      · rw [k.2, k2.2] at c2; rw [k2.2] at k3; omega
  · rcases hc with ⟨a1, a2⟩ | ⟨a1, a2⟩
    · rcases hm with ⟨b1, b2⟩ | ⟨b1, b2⟩
      · exact ⟨by omega, by unfold wRg; omega⟩
      · exact absurd b1.1 hs
    · exact absurd a1.1 hs
