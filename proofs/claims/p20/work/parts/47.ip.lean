
def whP (s x y : Int) : Prop := (0 ≤ s ∧ s ≤ 7) ∧ (-40 ≤ x ∧ x ≤ 40) ∧ -40 ≤ y ∧ y ≤ 40
def whC (u : CS) (s x y z : Int) : Prop := (¬ whP s x y ∧ z = -1) ∨ (whP s x y ∧ stC u s.toNat x y z)
def whM (u : MS) (s x y z : Int) : Prop := (¬ whP s x y ∧ z = -1) ∨ (whP s x y ∧ wR u s x y z)
theorem EQ_wh {u : CS} {v : MS} {s x y z z' : Int} (hC : CI u) (h : EQS u v) (hc : whC u s x y z) (hm : whM v s x y z') : z = z' ∧ wRg z := by
  rcases hc with ⟨a1, a2⟩ | ⟨a1, a2⟩ <;> rcases hm with ⟨b1, b2⟩ | ⟨b1, b2⟩
  · exact ⟨by omega, by unfold wRg; omega⟩
  · exact absurd b1 a1
  · exact absurd a1 b1
  · have e := EQ_st hC h a1.1 a2 b2
    have := wR_b b2
    exact ⟨e, by unfold wRg; omega⟩
theorem stC_b {u : CS} {r : Nat} {x y z : Int} (h : stC u r x y z) : 0 ≤ z ∧ z ≤ 2 := by
  rcases h with ⟨h, _⟩ | ⟨h, _⟩ | ⟨h, _⟩ <;> omega
def rdC (u : CS) (r : Nat) (z : Int) : Prop := (u.1.2.2.1 r < 3 ∧ z = 0) ∨ (3 ≤ u.1.2.2.1 r ∧ ∃ w : Int, stC u r 0 0 w ∧ ((w = 2 ∧ z = 1) ∨ (w ≠ 2 ∧ z = 0)))
def rdM (u : MS) (s z : Int) : Prop := (mN u s ≤ 2 ∧ z = 0) ∨ (2 < mN u s ∧ ∃ w : Int, wR u s 0 0 w ∧ ((w = 2 ∧ z = 1) ∨ (w ≠ 2 ∧ z = 0)))
theorem rdC_b {u : CS} {r : Nat} {z : Int} (h : rdC u r z) : z = 0 ∨ z = 1 := by
  rcases h with ⟨_, h⟩ | ⟨_, w, _, h⟩ <;> omega
theorem rdM_b {u : MS} {s z : Int} (h : rdM u s z) : z = 0 ∨ (z = 1 ∧ 2 < mN u s) := by
  rcases h with ⟨_, h⟩ | ⟨_, w, _, h⟩ <;> omega
theorem EQ_rd {u : CS} {v : MS} (hC : CI u) (h : EQS u v) {s z z' : Int} (hs : 0 ≤ s ∧ s ≤ 7) (hc : rdC u s.toNat z) (hm : rdM v s z') : z = z' := by
  have e1 := (EQS_x hC h hs).1
  rcases hc with ⟨a1, a2⟩ | ⟨a1, w, a2, a3⟩ <;> rcases hm with ⟨b1, b2⟩ | ⟨b1, w', b2, b3⟩
  · omega
  · omega
  · omega
  · have := EQ_st hC h hs a2 b2
    omega
def noP (n s i w : Int) : Prop := (0 ≤ s ∧ s ≤ 7) ∧ (0 ≤ i ∧ i < n) ∧ 0 ≤ w ∧ w ≤ 2
def noC (u : CS) (s i w z : Int) : Prop := (¬ noP (u.1.2.2.1 s.toNat) s i w ∧ z = -1000000) ∨ (noP (u.1.2.2.1 s.toNat) s i w ∧ ∃ t : Int, rdC u s.toNat t ∧ ((t = 0 ∧ z = -1000000) ∨ (t = 1 ∧ ((w = 0 ∧ z = dNX u s.toNat i) ∨ (w = 1 ∧ z = dNY u s.toNat i) ∨ (w = 2 ∧ z = dFar u s.toNat i)))))
def noM (u : MS) (s i w z : Int) : Prop := (¬ noP (mN u s) s i w ∧ z = -1000000) ∨ (noP (mN u s) s i w ∧ ∃ t : Int, rdM u s t ∧ ((t = 0 ∧ z = -1000000) ∨ (t = 1 ∧ ((w = 0 ∧ z = mNX u s i) ∨ (w = 1 ∧ z = mNY u s i) ∨ (w = 2 ∧ z = mFar u s i)))))
theorem EQS_n {u : CS} {v : MS} (hC : CI u) (h : EQS u v) {s i : Int} (hs : 0 ≤ s ∧ s ≤ 7) (h0 : 0 ≤ i) (h1 : i < mN v s) : dNX u s.toNat i = mNX v s i ∧ dNY u s.toNat i = mNY v s i ∧ dFar u s.toNat i = mFar v s i := by
  obtain ⟨_, e2⟩ := EQS_x hC h hs
  have d := EQS_d hC h hs i h0 h1
  have k1 : dNX u s.toNat i = mNX v s i := by unfold dNX mNX dS mS; rw [d.1, d.2]
  have k2 : dNY u s.toNat i = mNY v s i := by unfold dNY mNY dS mS; rw [d.1, d.2, Int.neg_sub]
  refine ⟨k1, k2, ?_⟩
  unfold dFar mFar
  rw [k1, k2, (e2 i h0 h1).1, (e2 i h0 h1).2]
theorem EQ_no {u : CS} {v : MS} {s i w z z' : Int} (hC : CI u) (h : EQS u v) (hc : noC u s i w z ∧ wRg z) (hm : noM v s i w z') : z = z' ∧ wRg z := by
  refine ⟨?_, hc.2⟩
  by_cases hs : 0 ≤ s ∧ s ≤ 7
  · have e1 := (EQS_x hC h hs).1
    have hc1 := hc.1
    unfold noC at hc1
    rw [e1] at hc1
    rcases hc1 with ⟨a1, a2⟩ | ⟨a1, t, a2, a3⟩ <;> rcases hm with ⟨b1, b2⟩ | ⟨b1, t', b2, b3⟩
    · omega
    · exact absurd b1 a1
    · exact absurd a1 b1
    · have et := EQ_rd hC h hs a2 b2
      obtain ⟨k1, k2, k3⟩ := EQS_n hC h hs a1.2.1.1 a1.2.1.2
      omega
  · rcases hc.1 with ⟨a1, a2⟩ | ⟨a1, _⟩
    · rcases hm with ⟨b1, b2⟩ | ⟨b1, _⟩
      · omega
      · exact absurd b1.1 hs
    · exact absurd a1.1 hs
