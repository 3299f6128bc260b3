
theorem L_J {z : Int} (h : -2147483648 ≤ z ∧ z ≤ 2147483647) : (J z).toInt64 = Int64.ofInt z := Int64.toInt_inj.mp (by rw [Int32.toInt_toInt64, J_toInt h, Int64.toInt_ofInt_of_le (by omega) (by omega)])
theorem L_d2 {a : Int} (h : -4000000000000000000 ≤ a ∧ a ≤ 4000000000000000000) : Int64.ofInt a / 2 = Int64.ofInt (a.tdiv 2) := by
  rw [show (2 : Int64) = Int64.ofInt 2 from rfl]
  exact (Int64.ofInt_tdiv (by show (-9223372036854775808 : Int) ≤ a; omega) (by show a ≤ (9223372036854775807 : Int); omega) (by decide) (by decide)).symm
def atI (n A E N : Int) : Int := if N = 0 then 0 else if N < 3 then n * (E - 1) + 1 else (n * n * A + n * E).tdiv 2 + 1
def itI (n A E : Int) : Int := if n = 0 then 0 else (n * n * A - n * E).tdiv 2 + 1
def tiP (s n w : Int) : Prop := (0 ≤ s ∧ s ≤ 7) ∧ (0 ≤ n ∧ n ≤ 1000) ∧ 0 ≤ w ∧ w ≤ 1
def tiV (n w A E N : Int) : Int := if w = 0 then atI n A E N else if 3 ≤ N then itI n A E else -2
def tiC (u : CS) (s n w : Int) (x : Int64) : Prop := (¬ tiP s n w ∧ x = Int64.ofInt (-1)) ∨ (tiP s n w ∧ x = Int64.ofInt (tiV n w (rA u s.toNat) (rE u s.toNat) (u.1.2.2.1 s.toNat)))
theorem at_3 {n A E : Int} {x : Int64} (hn : 0 ≤ n ∧ n ≤ 1000) (hA : -10000000 ≤ A ∧ A ≤ 10000000) (hE : 0 ≤ E ∧ E ≤ 60000) (h : x = ((J n).toInt64 * (J n).toInt64 * (J A).toInt64 + (J n).toInt64 * (J E).toInt64) / 2) : x + 1 = Int64.ofInt ((n * n * A + n * E).tdiv 2 + 1) := by
  have m1 := mulb (A := 1000) (B := 1000) (a := n) (b := n) (by omega) (by omega)
  have m2 := mulb (A := 1000000) (B := 10000000) (a := n * n) (b := A) (by omega) (by omega)
  have m3 := mulb (A := 1000) (B := 60000) (a := n) (b := E) (by omega) (by omega)
  rw [h, L_J (by omega), L_J (by omega), L_J (by omega), ← Int64.ofInt_mul, ← Int64.ofInt_mul, ← Int64.ofInt_mul, ← Int64.ofInt_add, L_d2 (by omega), Int64.ofInt_add]
  rfl
theorem it_3 {n A E : Int} {x : Int64} (hn : 0 ≤ n ∧ n ≤ 1000) (hA : -10000000 ≤ A ∧ A ≤ 10000000) (hE : 0 ≤ E ∧ E ≤ 60000) (h : x = ((J n).toInt64 * (J n).toInt64 * (J A).toInt64 - (J n).toInt64 * (J E).toInt64) / 2) : x + 1 = Int64.ofInt ((n * n * A - n * E).tdiv 2 + 1) := by
  have m1 := mulb (A := 1000) (B := 1000) (a := n) (b := n) (by omega) (by omega)
  have m2 := mulb (A := 1000000) (B := 10000000) (a := n * n) (b := A) (by omega) (by omega)
  have m3 := mulb (A := 1000) (B := 60000) (a := n) (b := E) (by omega) (by omega)
  rw [h, L_J (by omega), L_J (by omega), L_J (by omega), ← Int64.ofInt_mul, ← Int64.ofInt_mul, ← Int64.ofInt_mul, ← Int64.ofInt_sub, L_d2 (by omega), Int64.ofInt_add]
  rfl
theorem at_1 {n E : Int} (hn : 0 ≤ n ∧ n ≤ 1000) (hE : 0 ≤ E ∧ E ≤ 60000) : (J n).toInt64 * (J (E - 1)).toInt64 + 1 = Int64.ofInt (n * (E - 1) + 1) := by
  rw [L_J (by omega), L_J (by omega), ← Int64.ofInt_mul, Int64.ofInt_add]
  rfl
