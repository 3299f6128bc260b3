
theorem gpar (a b : Int) : (a % 2 = 0 ∧ b % 2 = 0 ∧ (Int.gcd a b : Int) % 2 = 0) ∨ (¬ (a % 2 = 0 ∧ b % 2 = 0) ∧ (Int.gcd a b : Int) % 2 = 1) := by
  by_cases h : a % 2 = 0 ∧ b % 2 = 0
  · have d : (2 : Int) ∣ (Int.gcd a b : Int) := Int.dvd_coe_gcd (Int.dvd_of_emod_eq_zero h.1) (Int.dvd_of_emod_eq_zero h.2)
    exact Or.inl ⟨h.1, h.2, Int.emod_eq_zero_of_dvd d⟩
  · refine Or.inr ⟨h, ?_⟩
    by_cases e : (Int.gcd a b : Int) % 2 = 0
    · exfalso
      have d := Int.dvd_of_emod_eq_zero e
      exact h ⟨Int.emod_eq_zero_of_dvd (Int.dvd_trans d (Int.gcd_dvd_left a b)), Int.emod_eq_zero_of_dvd (Int.dvd_trans d (Int.gcd_dvd_right a b))⟩
    · omega
/-- 0 where both are even, else 1 -/
def ph (x y : Int) : Int := if x % 2 = 0 ∧ y % 2 = 0 then 0 else 1
theorem par_s (x y x2 y2 : Int) : (x * y2 - x2 * y + (Int.gcd (x2 - x) (y2 - y) : Int) - ph x2 y2 + ph x y) % 2 = 0 := by
  have g := gpar (x2 - x) (y2 - y)
  have m1 := Int.mul_emod x y2 2
  have m2 := Int.mul_emod x2 y 2
  unfold ph
  generalize (Int.gcd (x2 - x) (y2 - y) : Int) = G at g ⊢
  generalize x * y2 = A at m1 ⊢
  generalize x2 * y = C at m2 ⊢
  rcases Int.emod_two_eq x with hx | hx <;> rcases Int.emod_two_eq y with hy | hy <;> rcases Int.emod_two_eq x2 with hx2 | hx2 <;> rcases Int.emod_two_eq y2 with hy2 | hy2 <;> rw [hx, hy2] at m1 <;> rw [hx2, hy] at m2 <;> simp only [hx, hy, hx2, hy2] <;> simp only [Int.one_ne_zero, and_true, and_false, and_self, if_true, if_false] <;> omega
theorem par_n (F G : Int → Int) (n : Nat) : (smI (fun i => F i * G (i + 1) - F (i + 1) * G i) n + smI (fun i => (Int.gcd (F (i + 1) - F i) (G (i + 1) - G i) : Int)) n - ph (F n) (G n) + ph (F 0) (G 0)) % 2 = 0 := by
  induction n with
  | zero => rw [show (((0 : Nat) : Int)) = 0 from rfl, smI_0, smI_0]; omega
  | succ n ih =>
    rw [show ((n + 1 : Nat) : Int) = (n : Int) + 1 by omega, smI_s (by omega), smI_s (by omega)]
    have q := par_s (F n) (G n) (F (n + 1)) (G (n + 1))
    generalize smI (fun i => F i * G (i + 1) - F (i + 1) * G i) n = A at ih ⊢
    generalize smI (fun i => (Int.gcd (F (i + 1) - F i) (G (i + 1) - G i) : Int)) n = C at ih ⊢
    generalize F n * G (n + 1) - F (n + 1) * G n = D at q ⊢
    generalize (Int.gcd (F (n + 1) - F n) (G (n + 1) - G n) : Int) = E at q ⊢
    omega
theorem mX_w {v : MS} {s : Int} : mX v s (mN v s) = mX v s 0 ∧ mY v s (mN v s) = mY v s 0 := by
  unfold mX mY
  rw [Int.tmod_self, Int.zero_tmod]
  exact ⟨rfl, rfl⟩
theorem mpar {v : MS} {s : Int} (h : 2 < mN v s) : (mAr v s - mEd v s) % 2 = 0 := by
  have q := par_n (fun i => mX v s i) (fun i => mY v s i) (mN v s).toNat
  rw [show (((mN v s).toNat : Nat) : Int) = mN v s by omega] at q
  simp only [mX_w.1, mX_w.2] at q
  unfold mAr mEd mS
  rw [if_neg (by omega), if_neg (by omega)]
  generalize smI (fun i => mX v s i * mY v s (i + 1) - mX v s (i + 1) * mY v s i) (mN v s) = A at q ⊢
  generalize smI (fun i => (Int.gcd (mX v s (i + 1) - mX v s i) (mY v s (i + 1) - mY v s i) : Int)) (mN v s) = C at q ⊢
  omega
theorem EQS_d {u : CS} {v : MS} (hC : CI u) (h : EQS u v) {s : Int} (hs : 0 ≤ s ∧ s ≤ 7) : ∀ k : Int, 0 ≤ k → k < mN v s → dX u s.toNat k = mX v s (k + 1) - mX v s k ∧ dY u s.toNat k = mY v s (k + 1) - mY v s k := by
  obtain ⟨e1, e2⟩ := EQS_x hC h hs
  intro k h0 h1
  unfold dX dY
  rw [(e2 k h0 h1).1, (e2 k h0 h1).2]
  unfold ar
  by_cases e : k + 1 < mN v s
  · rw [if_neg (by omega), if_neg (by omega), (e2 (k + 1) (by omega) e).1, (e2 (k + 1) (by omega) e).2]
    exact ⟨rfl, rfl⟩
  · rw [if_pos (by omega), (e2 0 (by omega) (by omega)).1, (e2 0 (by omega) (by omega)).2, show k + 1 = mN v s by omega, mX_w.1, mX_w.2]
    exact ⟨rfl, rfl⟩
theorem EQS_a {u : CS} {v : MS} (hC : CI u) (h : EQS u v) {s : Int} (hs : 0 ≤ s ∧ s ≤ 7) : rA u s.toNat = mAr v s ∧ rE u s.toNat = mEd v s ∧ rI u s.toNat = mIn v s := by
  obtain ⟨e1, e2⟩ := EQS_x hC h hs
  have d := EQS_d hC h hs
  have n0 := CI_n hC hs
  have kA : rA u s.toNat = mAr v s := by
    unfold rA mAr
    rw [e1]
    refine smI_c (fun i h0 h1 => ?_)
    rw [(e2 i h0 h1).1, (e2 i h0 h1).2, (d i h0 h1).1, (d i h0 h1).2, Int.mul_sub, Int.mul_sub, Int.mul_comm (mY v s i) (mX v s (i + 1)), Int.mul_comm (mY v s i) (mX v s i)]
    omega
  have kS : ∀ i : Int, 0 ≤ i → i < mN v s → dS u s.toNat i = mS v s i := fun i h0 h1 => by
    unfold dS mS
    rw [(d i h0 h1).1, (d i h0 h1).2]
  have kE : rE u s.toNat = mEd v s := by
    unfold rE mEd
    rw [e1]
    by_cases g : mN v s < 3
    · rw [if_pos g]
      by_cases g0 : mN v s = 0
      · rw [if_pos g0, if_pos (by omega), g0]
      · rw [if_neg g0]
        by_cases g1 : mN v s = 1
        · rw [if_pos (by omega), g1]
          unfold dS dX dY ar
          rw [if_pos (by omega), Int.sub_self, Int.sub_self]
          rfl
        · rw [if_neg (by omega), if_pos (by omega), kS 0 (by omega) (by omega)]
    · rw [if_neg g, if_neg (by omega), if_neg (by omega)]
      exact smI_c kS
  refine ⟨kA, kE, ?_⟩
  unfold rI mIn
  rw [e1, kA, kE]
  by_cases g : mN v s < 3
  · rw [if_pos g, if_neg (by omega)]
  · rw [if_neg g, if_pos (by omega)]
    have p := mpar (v := v) (s := s) (by omega)
    have w : mAr v s - mEd v s = (mAr v s - mEd v s) / 2 * 2 := by omega
    rw [w, show (mAr v s - mEd v s) / 2 * 2 + 2 = ((mAr v s - mEd v s) / 2 + 1) * 2 by omega, Int.mul_tdiv_cancel _ (by decide), Int.mul_tdiv_cancel _ (by decide)]
def poC (u : CS) (s w z : Int) : Prop := (¬ ((0 ≤ s ∧ s ≤ 7) ∧ 0 ≤ w ∧ w ≤ 3) ∧ z = -1) ∨ (((0 ≤ s ∧ s ≤ 7) ∧ 0 ≤ w ∧ w ≤ 3) ∧ ((w = 0 ∧ z = rA u s.toNat) ∨ (w = 1 ∧ z = rE u s.toNat) ∨ (w = 2 ∧ z = rI u s.toNat) ∨ (w = 3 ∧ z = rE u s.toNat + rI u s.toNat)))
def poM (u : MS) (s w z : Int) : Prop := (¬ ((0 ≤ s ∧ s ≤ 7) ∧ 0 ≤ w ∧ w ≤ 3) ∧ z = -1) ∨ (((0 ≤ s ∧ s ≤ 7) ∧ 0 ≤ w ∧ w ≤ 3) ∧ ((w = 0 ∧ z = mAr u s) ∨ (w = 1 ∧ z = mEd u s) ∨ (w = 2 ∧ z = mIn u s) ∨ (w = 3 ∧ z = mEd u s + mIn u s)))
theorem EQ_po {u : CS} {v : MS} {s w z z' : Int} (hC : CI u) (h : EQS u v) (hc : poC u s w z ∧ wRg z) (hm : poM v s w z') : z = z' ∧ wRg z := by
  refine ⟨?_, hc.2⟩
  rcases hc.1 with ⟨a1, a2⟩ | ⟨a1, a2⟩ <;> rcases hm with ⟨b1, b2⟩ | ⟨b1, b2⟩
  · omega
  · exact absurd b1 a1
  · exact absurd a1 b1
  · obtain ⟨k1, k2, k3⟩ := EQS_a hC h a1.1
    omega
