
def tmV (n w A E N : Int) : Int := if w = 1 ∧ N ≤ 2 then -2 else if N = 0 then 0 else if n = 0 then (if w = 0 then 1 else 0) else if N ≤ 2 then (E - 1) * n + 1 else if w = 0 then (A * n * n - E * n + 2).tdiv 2 + E * n else (A * n * n - E * n + 2).tdiv 2
def tiM (u : MS) (s n w : Int) (x : Int64) : Prop := (¬ tiP s n w ∧ x = Int64.ofInt (-1)) ∨ (tiP s n w ∧ x = Int64.ofInt (tmV n w (mAr u s) (mEd u s) (mN u s)))
theorem tm_3 {n A E : Int} {x : Int64} (hn : 0 ≤ n ∧ n ≤ 1000) (hA : -10000000 ≤ A ∧ A ≤ 10000000) (hE : 0 ≤ E ∧ E ≤ 60000) (h : x = ((J A).toInt64 * (J n).toInt64 * (J n).toInt64 - (J E).toInt64 * (J n).toInt64 + 2) / 2) : x = Int64.ofInt ((A * n * n - E * n + 2).tdiv 2) := by
  have m2 := mulb (A := 10000000) (B := 1000) (a := A) (b := n) (by omega) (by omega)
  have m1 := mulb (A := 10000000000) (B := 1000) (a := A * n) (b := n) (by omega) (by omega)
  have m3 := mulb (A := 60000) (B := 1000) (a := E) (b := n) (by omega) (by omega)
  rw [h, L_J (by omega), L_J (by omega), L_J (by omega), ← Int64.ofInt_mul, ← Int64.ofInt_mul, ← Int64.ofInt_mul, ← Int64.ofInt_sub, show (2 : Int64) = Int64.ofInt 2 from rfl, ← Int64.ofInt_add]
  exact L_d2 (by omega)
theorem tm_4 {n A E : Int} {x : Int64} (hn : 0 ≤ n ∧ n ≤ 1000) (hA : -10000000 ≤ A ∧ A ≤ 10000000) (hE : 0 ≤ E ∧ E ≤ 60000) (h : x = ((J A).toInt64 * (J n).toInt64 * (J n).toInt64 - (J E).toInt64 * (J n).toInt64 + 2) / 2) : x + (J E).toInt64 * (J n).toInt64 = Int64.ofInt ((A * n * n - E * n + 2).tdiv 2 + E * n) := by
  rw [tm_3 hn hA hE h, Int64.ofInt_add, Int64.ofInt_mul E n, L_J (by omega), L_J (by omega)]
theorem tm_1 {n E : Int} (hn : 0 ≤ n ∧ n ≤ 1000) (hE : 0 ≤ E ∧ E ≤ 60000) : (J (E - 1)).toInt64 * (J n).toInt64 + 1 = Int64.ofInt ((E - 1) * n + 1) := by
  rw [L_J (by omega), L_J (by omega), ← Int64.ofInt_mul, Int64.ofInt_add]
  rfl
theorem par_D (n A E : Int) (h : (A - E) % 2 = 0) : (n * n * A - n * E) % 2 = 0 := by
  have m1 := Int.mul_emod (n * n) A 2
  have m2 := Int.mul_emod n n 2
  have m3 := Int.mul_emod n E 2
  generalize n * n * A = P at m1 ⊢
  generalize n * E = Q at m3 ⊢
  generalize n * n = T at m1 m2
  rcases Int.emod_two_eq n with hn | hn <;> rcases Int.emod_two_eq A with ha | ha <;> rcases Int.emod_two_eq E with he | he <;> rw [hn] at m2 <;> rw [hn, he] at m3 <;> rw [ha] at m1 <;> simp only [Int.mul_zero, Int.zero_mul, Int.mul_one] at m1 m2 m3 <;> omega
theorem ti_eq {n w A E N : Int} (hn : 0 ≤ n) (hw : 0 ≤ w ∧ w ≤ 1) (hN : 0 ≤ N) (hp : 3 ≤ N → (A - E) % 2 = 0) : tiV n w A E N = tmV n w A E N := by
  unfold tiV tmV atI itI
  have c1 : E * n = n * E := Int.mul_comm _ _
  have c2 : (E - 1) * n = n * (E - 1) := Int.mul_comm _ _
  have c3 : A * n * n = n * n * A := by grind
  rw [c1, c2, c3]
  by_cases g : 3 ≤ N
  · have d := par_D n A E (hp g)
    obtain ⟨k, ek⟩ : ∃ k, n * n * A - n * E = k * 2 := ⟨(n * n * A - n * E) / 2, by omega⟩
    rw [show n * n * A + n * E = (k + n * E) * 2 by omega, ek, show k * 2 + 2 = (k + 1) * 2 by omega, Int.mul_tdiv_cancel _ (by decide), Int.mul_tdiv_cancel _ (by decide), Int.mul_tdiv_cancel _ (by decide)]
    have f1 : ¬ (w = 1 ∧ N ≤ 2) := by omega
    have f2 : ¬ N = 0 := by omega
    have f3 : ¬ N < 3 := by omega
    have f4 : ¬ N ≤ 2 := by omega
    simp only [if_neg f1, if_neg f2, if_neg f3, if_neg f4, if_pos g]
    by_cases n0 : n = 0
    · have ek2 := ek
      rw [n0, Int.zero_mul, Int.zero_mul, Int.zero_mul] at ek2
      have e0 : n * E = 0 := by rw [n0, Int.zero_mul]
      by_cases w0 : w = 0
      · simp only [if_pos w0, if_pos n0]; omega
      · simp only [if_neg w0, if_pos n0]
    · by_cases w0 : w = 0
      · simp only [if_pos w0, if_neg n0]; omega
      · simp only [if_neg w0, if_neg n0]
  · have f3 : N < 3 := by omega
    have f4 : N ≤ 2 := by omega
    by_cases w0 : w = 0
    · have f1 : ¬ (w = 1 ∧ N ≤ 2) := by omega
      simp only [if_pos w0, if_neg f1, if_pos f3, if_pos f4]
      by_cases N0 : N = 0
      · simp only [if_pos N0]
      · simp only [if_neg N0]
        by_cases n0 : n = 0
        · have e0 : n * (E - 1) = 0 := by rw [n0, Int.zero_mul]
          simp only [if_pos n0]; omega
        · simp only [if_neg n0]
    · have f1 : w = 1 ∧ N ≤ 2 := by omega
      simp only [if_neg w0, if_neg g, if_pos f1]
theorem EQ_ti {u : CS} {v : MS} {s n w : Int} {x x' : Int64} (hC : CI u) (h : EQS u v) (hc : tiC u s n w x) (hm : tiM v s n w x') : x = x' := by
  rcases hc with ⟨a1, a2⟩ | ⟨a1, a2⟩ <;> rcases hm with ⟨b1, b2⟩ | ⟨b1, b2⟩
  · rw [a2, b2]
  · exact absurd b1 a1
  · exact absurd a1 b1
  · obtain ⟨k1, k2, _⟩ := EQS_a hC h a1.1
    have e1 := (EQS_x hC h a1.1).1
    have n0 := CI_n hC a1.1
    rw [a2, b2, k1, k2, e1, ti_eq a1.2.1.1 a1.2.2 (by omega) (fun g => mpar (by omega))]
