
/-- digits, the least first -/
def dg (B : Nat) : Nat → (Nat → Nat) → Nat
  | 0, _ => 0
  | n + 1, v => v 0 + B * dg B n (fun k => v (k + 1))
theorem dg_c {B : Nat} : ∀ (n : Nat) (v w : Nat → Nat), (∀ k, k < n → v k = w k) → dg B n v = dg B n w := by
  intro n
  induction n with
  | zero => intro v w _; rfl
  | succ n ih =>
    intro v w h
    show v 0 + B * _ = w 0 + B * _
    rw [h 0 (by omega), ih _ (fun k => w (k + 1)) (fun k hk => h (k + 1) (by omega))]
theorem dg_add {B : Nat} : ∀ (n : Nat) (v w : Nat → Nat), dg B n v + dg B n w = dg B n (fun k => v k + w k) := by
  intro n
  induction n with
  | zero => intro v w; rfl
  | succ n ih =>
    intro v w
    show v 0 + B * dg B n (fun k => v (k + 1)) + (w 0 + B * dg B n (fun k => w (k + 1))) = v 0 + w 0 + B * dg B n (fun k => v (k + 1) + w (k + 1))
    rw [← ih, Nat.mul_add]
    omega
theorem dg_le {B : Nat} : ∀ (n : Nat) (v w : Nat → Nat), (∀ k, k < n → v k ≤ w k) → dg B n v ≤ dg B n w := by
  intro n
  induction n with
  | zero => intro v w _; exact Nat.le_refl _
  | succ n ih =>
    intro v w h
    show v 0 + B * _ ≤ w 0 + B * _
    have h1 := h 0 (by omega)
    have h2 := Nat.mul_le_mul_left B (ih (fun k => v (k + 1)) (fun k => w (k + 1)) (fun k hk => h (k + 1) (by omega)))
    omega
/-- two digits as one -/
theorem dg_2 {B : Nat} : ∀ (n : Nat) (v : Nat → Nat), dg B (2 * n) v = dg (B * B) n (fun k => v (2 * k) + B * v (2 * k + 1)) := by
  intro n
  induction n with
  | zero => intro v; rfl
  | succ n ih =>
    intro v
    show dg B (2 * n + 1 + 1) v = _
    show v 0 + B * (v 1 + B * dg B (2 * n) (fun k => v (k + 1 + 1))) = v 0 + B * v 1 + B * B * dg (B * B) n (fun k => v (2 * (k + 1)) + B * v (2 * (k + 1) + 1))
    rw [ih, Nat.mul_add, Nat.mul_assoc]
    have e : dg (B * B) n (fun k => v (2 * k + 1 + 1) + B * v (2 * k + 1 + 1 + 1)) = dg (B * B) n (fun k => v (2 * (k + 1)) + B * v (2 * (k + 1) + 1)) := dg_c n _ _ (fun k _ => by rw [show 2 * (k + 1) = 2 * k + 1 + 1 by omega])
    show v 0 + (B * v 1 + B * (B * dg (B * B) n (fun k => v (2 * k + 1 + 1) + B * v (2 * k + 1 + 1 + 1)))) = _
    rw [e]
    omega
theorem dg_and {p : Nat} : ∀ (n : Nat) (v w : Nat → Nat), (∀ k, k < n → v k < 2 ^ p ∧ w k < 2 ^ p) → dg (2 ^ p) n v &&& dg (2 ^ p) n w = dg (2 ^ p) n (fun k => v k &&& w k) := by
  intro n
  induction n with
  | zero => intro v w _; show (0 : Nat) &&& 0 = 0; rfl
  | succ n ih =>
    intro v w h
    have h0 := h 0 (by omega)
    have q := ih (fun k => v (k + 1)) (fun k => w (k + 1)) (fun k hk => h (k + 1) (by omega))
    show (v 0 + 2 ^ p * dg (2 ^ p) n (fun k => v (k + 1))) &&& (w 0 + 2 ^ p * dg (2 ^ p) n (fun k => w (k + 1))) = (v 0 &&& w 0) + 2 ^ p * dg (2 ^ p) n (fun k => v (k + 1) &&& w (k + 1))
    rw [← q]
    generalize dg (2 ^ p) n (fun k => v (k + 1)) = S
    generalize dg (2 ^ p) n (fun k => w (k + 1)) = T
    generalize v 0 = a at h0
    generalize w 0 = b at h0
    have pp : 0 < 2 ^ p := Nat.two_pow_pos p
    have md : ((a + 2 ^ p * S) &&& (b + 2 ^ p * T)) % 2 ^ p = a &&& b := by
      rw [Nat.and_mod_two_pow, Nat.add_mul_mod_self_left, Nat.add_mul_mod_self_left, Nat.mod_eq_of_lt h0.1, Nat.mod_eq_of_lt h0.2]
    have dv : ((a + 2 ^ p * S) &&& (b + 2 ^ p * T)) / 2 ^ p = S &&& T := by
      rw [Nat.and_div_two_pow, Nat.add_mul_div_left _ _ pp, Nat.add_mul_div_left _ _ pp, Nat.div_eq_of_lt h0.1, Nat.div_eq_of_lt h0.2, Nat.zero_add, Nat.zero_add]
    have e := Nat.mod_add_div ((a + 2 ^ p * S) &&& (b + 2 ^ p * T)) (2 ^ p)
    rw [md, dv] at e
    exact e.symm
theorem dg_sh {B : Nat} (hB : 0 < B) {n : Nat} {v : Nat → Nat} (h : v 0 < B) : dg B (n + 1) v / B = dg B n (fun k => v (k + 1)) := by
  show (v 0 + B * _) / B = _
  rw [Nat.add_mul_div_left _ _ hB, Nat.div_eq_of_lt h, Nat.zero_add]
theorem dg_md {B n : Nat} {v : Nat → Nat} (h : v 0 < B) : dg B (n + 1) v % B = v 0 := by
  show (v 0 + B * _) % B = _
  rw [Nat.add_mul_mod_self_left, Nat.mod_eq_of_lt h]
/-- bits -/
def bt (N k : Nat) : Nat := N / 2 ^ k % 2
theorem bt_b (N k : Nat) : bt N k ≤ 1 := by unfold bt; omega
theorem dg_bt : ∀ (n N : Nat), N < 2 ^ n → N = dg 2 n (bt N) := by
  intro n
  induction n with
  | zero => intro N h; show N = 0; rw [Nat.pow_zero] at h; omega
  | succ n ih =>
    intro N h
    have q := ih (N / 2) (by rw [Nat.pow_succ] at h; omega)
    show N = bt N 0 + 2 * dg 2 n (fun k => bt N (k + 1))
    have e : dg 2 n (bt (N / 2)) = dg 2 n (fun k => bt N (k + 1)) := dg_c n _ _ (fun k _ => by
      unfold bt
      rw [Nat.div_div_eq_div_mul, Nat.pow_succ, Nat.mul_comm 2])
    rw [← e, ← q]
    unfold bt
    rw [Nat.pow_zero, Nat.div_one]
    omega
theorem m1_b {a b : Nat} (ha : a ≤ 1) : (a + 2 * b) &&& 1 = a := by
  rw [Nat.and_one_is_mod]; omega
theorem m3_b {a b : Nat} (ha : a < 4) : (a + 4 * b) &&& 3 = a := by
  have := Nat.and_two_pow_sub_one_eq_mod (a + 4 * b) 2
  rw [show 2 ^ 2 - 1 = 3 from rfl] at this
  rw [this]; omega
theorem m15_b {a b : Nat} (ha : a < 16) : (a + 16 * b) &&& 15 = a := by
  have := Nat.and_two_pow_sub_one_eq_mod (a + 16 * b) 4
  rw [show 2 ^ 4 - 1 = 15 from rfl] at this
  rw [this]; omega
def M1 : Nat := 6148914691236517205
def M2 : Nat := 3689348814741910323
def M4 : Nat := 1085102592571150095
/-- how many bits of 64 -/
def pc9 (N : Nat) : Nat := dg 1 64 (bt N)
theorem dg_0 {B : Nat} : ∀ (n : Nat) (v : Nat → Nat), v n = 0 → dg B n v = dg B (n + 1) v := by
  intro n
  induction n with
  | zero => intro v hv; show 0 = v 0 + B * 0; omega
  | succ n ih => intro v hv; show v 0 + B * dg B n (fun k => v (k + 1)) = v 0 + B * dg B (n + 1) (fun k => v (k + 1)); rw [ih (fun k => v (k + 1)) hv]
/-- one digit less -/
theorem dg_s1 {B n : Nat} (hB : 0 < B) {v : Nat → Nat} (h : v 0 < B) (hz : v (n + 1) = 0) : dg B (n + 1) v / B = dg B (n + 1) (fun k => v (k + 1)) := (dg_sh hB h).trans (dg_0 n _ hz)
theorem dg_lt {B : Nat} : ∀ (n : Nat) (v : Nat → Nat), (∀ k, k < n → v k < B) → dg B n v < B ^ n := by
  intro n
  induction n with
  | zero => intro v _; show 0 < B ^ 0; rw [Nat.pow_zero]; omega
  | succ n ih =>
    intro v h
    have h0 := h 0 (by omega)
    have q := ih (fun k => v (k + 1)) (fun k hk => h (k + 1) (by omega))
    show v 0 + B * dg B n (fun k => v (k + 1)) < B ^ (n + 1)
    have m := Nat.mul_le_mul_left B (show dg B n (fun k => v (k + 1)) + 1 ≤ B ^ n by omega)
    rw [Nat.pow_succ, Nat.mul_comm (B ^ n) B]
    rw [Nat.mul_add, Nat.mul_one] at m
    omega
theorem bt_z {N k : Nat} (h : N < 2 ^ 64) (hk : 64 ≤ k) : bt N k = 0 := by
  unfold bt
  rw [Nat.div_eq_of_lt (Nat.lt_of_lt_of_le h (Nat.pow_le_pow_right (by omega) hk))]
theorem pop_1 {N : Nat} (h : N < 2 ^ 64) : (N / 2) &&& M1 ≤ N ∧ N - ((N / 2) &&& M1) = dg 4 32 (fun k => bt N (2 * k) + bt N (2 * k + 1)) := by
  have e1 : N = dg 4 32 (fun k => bt N (2 * k) + 2 * bt N (2 * k + 1)) := (dg_bt 64 N h).trans (dg_2 (B := 2) 32 (bt N))
  have e2 : N / 2 = dg 4 32 (fun k => bt N (2 * k + 1) + 2 * bt N (2 * k + 2)) := by
    have w := dg_s1 (B := 2) (n := 63) (v := bt N) (by omega) (by have := bt_b N 0; omega) (bt_z h (by omega))
    rw [← dg_bt 64 N h] at w
    exact w.trans (dg_2 (B := 2) 32 (fun k => bt N (k + 1)))
  have e3 : (N / 2) &&& M1 = dg 4 32 (fun k => bt N (2 * k + 1)) := by
    rw [e2, show M1 = dg 4 32 (fun _ => 1) by decide +kernel]
    have a := dg_and (p := 2) 32 (fun k => bt N (2 * k + 1) + 2 * bt N (2 * k + 2)) (fun _ => 1) (fun k _ => by have b1 := bt_b N (2 * k + 1); have b2 := bt_b N (2 * k + 2); exact ⟨by show _ + 2 * _ < 4; omega, by show 1 < 4; omega⟩)
    rw [show (2 : Nat) ^ 2 = 4 from rfl] at a
    rw [a]
    exact dg_c 32 _ _ (fun k _ => m1_b (bt_b N _))
  have e4 := dg_add (B := 4) 32 (fun k => bt N (2 * k) + bt N (2 * k + 1)) (fun k => bt N (2 * k + 1))
  have e5 : dg 4 32 (fun k => bt N (2 * k) + bt N (2 * k + 1) + bt N (2 * k + 1)) = N := (e1.trans (dg_c 32 _ _ (fun k _ => by omega))).symm
  rw [e3]
  omega
theorem pop_2 {p : Nat → Nat} (hp : ∀ k, p k ≤ 2) (hz : ∀ k, 32 ≤ k → p k = 0) : (dg 4 32 p &&& M2) + ((dg 4 32 p / 4) &&& M2) = dg 16 16 (fun k => p (2 * k) + p (2 * k + 1)) := by
  have e1 : dg 4 32 p = dg 16 16 (fun k => p (2 * k) + 4 * p (2 * k + 1)) := dg_2 (B := 4) 16 p
  have e2 : dg 4 32 p / 4 = dg 16 16 (fun k => p (2 * k + 1) + 4 * p (2 * k + 2)) := (dg_s1 (B := 4) (n := 31) (v := p) (by omega) (by have := hp 0; omega) (hz 32 (by omega))).trans (dg_2 (B := 4) 16 (fun k => p (k + 1)))
  have m : ∀ a : Nat → Nat, (∀ k, a k ≤ 2) → ∀ b : Nat → Nat, (∀ k, b k ≤ 2) → dg 16 16 (fun k => a k + 4 * b k) &&& M2 = dg 16 16 a := fun a ha b hb => by
    rw [show M2 = dg 16 16 (fun _ => 3) by decide +kernel]
    have q := dg_and (p := 4) 16 (fun k => a k + 4 * b k) (fun _ => 3) (fun k _ => by have b1 := ha k; have b2 := hb k; exact ⟨by show _ + 4 * _ < 16; omega, by show 3 < 16; omega⟩)
    rw [show (2 : Nat) ^ 4 = 16 from rfl] at q
    rw [q]
    exact dg_c 16 _ _ (fun k _ => m3_b (by have := ha k; omega))
  rw [e2, e1, m (fun k => p (2 * k)) (fun k => hp _) (fun k => p (2 * k + 1)) (fun k => hp _), m (fun k => p (2 * k + 1)) (fun k => hp _) (fun k => p (2 * k + 2)) (fun k => hp _), dg_add]
theorem pop_3 {q : Nat → Nat} (hq : ∀ k, q k ≤ 4) (hz : ∀ k, 16 ≤ k → q k = 0) : (dg 16 16 q + dg 16 16 q / 16) &&& M4 = dg 256 8 (fun k => q (2 * k) + q (2 * k + 1)) := by
  have e2 : dg 16 16 q / 16 = dg 16 16 (fun k => q (k + 1)) := dg_s1 (B := 16) (n := 15) (v := q) (by omega) (by have := hq 0; omega) (hz 16 (by omega))
  rw [e2, dg_add]
  have e3 : dg 16 16 (fun k => q k + q (k + 1)) = dg 256 8 (fun k => (q (2 * k) + q (2 * k + 1)) + 16 * (q (2 * k + 1) + q (2 * k + 1 + 1))) := dg_2 (B := 16) 8 (fun k => q k + q (k + 1))
  rw [e3, show M4 = dg 256 8 (fun _ => 15) by decide +kernel]
  have a := dg_and (p := 8) 8 (fun k => (q (2 * k) + q (2 * k + 1)) + 16 * (q (2 * k + 1) + q (2 * k + 1 + 1))) (fun _ => 15) (fun k _ => by have b1 := hq (2 * k); have b2 := hq (2 * k + 1); have b3 := hq (2 * k + 1 + 1); exact ⟨by show _ + 16 * _ < 256; omega, by show 15 < 256; omega⟩)
  rw [show (2 : Nat) ^ 8 = 256 from rfl] at a
  rw [a]
  exact dg_c 8 _ _ (fun k _ => m15_b (by have b1 := hq (2 * k); have b2 := hq (2 * k + 1); omega))
theorem sh_2 {v : Nat → Nat} (h : ∀ k, v k < 256) (hz : ∀ k, 8 ≤ k → v k = 0) : dg 256 8 v / 256 = dg 256 8 (fun k => v (k + 1)) := dg_s1 (B := 256) (n := 7) (by omega) (h 0) (hz 8 (by omega))
theorem pop_4 {r : Nat → Nat} (hr : ∀ k, r k ≤ 8) (hz : ∀ k, 8 ≤ k → r k = 0) {d e f g : Nat} (hd : d = dg 256 8 r) (he : e = d + d / 256) (hf : f = e + e / 65536) (hg : g = f + f / 4294967296) : (e < 2 ^ 64 ∧ f < 2 ^ 64 ∧ g < 2 ^ 64) ∧ g % 128 = dg 1 8 r := by
  have e1 : e = dg 256 8 (fun k => r k + r (k + 1)) := by
    rw [he, hd, sh_2 (fun k => by have := hr k; omega) hz, dg_add]
  have b1 : ∀ k, (fun k => r k + r (k + 1)) k < 256 := fun k => by have a := hr k; have b := hr (k + 1); show _ + _ < 256; omega
  have z1 : ∀ k, 8 ≤ k → (fun k => r k + r (k + 1)) k = 0 := fun k hk => by have a := hz k hk; have b := hz (k + 1) (by omega); show _ + _ = 0; omega
  have s2 : e / 65536 = dg 256 8 (fun k => r (k + 2) + r (k + 3)) := by
    rw [show (65536 : Nat) = 256 * 256 from rfl, ← Nat.div_div_eq_div_mul, e1, sh_2 b1 z1]
    exact sh_2 (v := fun k => r (k + 1) + r (k + 1 + 1)) (fun k => b1 (k + 1)) (fun k hk => z1 (k + 1) (by omega))
  have e2 : f = dg 256 8 (fun k => r k + r (k + 1) + (r (k + 2) + r (k + 3))) := by rw [hf, s2, e1, dg_add]
  have b2 : ∀ k, (fun k => r k + r (k + 1) + (r (k + 2) + r (k + 3))) k < 256 := fun k => by have a := hr k; have b := hr (k + 1); have c := hr (k + 2); have d := hr (k + 3); show _ + _ + (_ + _) < 256; omega
  have z2 : ∀ k, 8 ≤ k → (fun k => r k + r (k + 1) + (r (k + 2) + r (k + 3))) k = 0 := fun k hk => by have a := hz k hk; have b := hz (k + 1) (by omega); have c := hz (k + 2) (by omega); have d := hz (k + 3) (by omega); show _ + _ + (_ + _) = 0; omega
  have s4 : f / 4294967296 = dg 256 8 (fun k => r (k + 4) + r (k + 5) + (r (k + 6) + r (k + 7))) := by
    rw [show (4294967296 : Nat) = 256 * 256 * 256 * 256 from rfl, ← Nat.div_div_eq_div_mul, ← Nat.div_div_eq_div_mul, ← Nat.div_div_eq_div_mul, e2, sh_2 b2 z2]
    have c1 := sh_2 (v := fun k => r (k + 1) + r (k + 1 + 1) + (r (k + 1 + 2) + r (k + 1 + 3))) (fun k => b2 (k + 1)) (fun k hk => z2 (k + 1) (by omega))
    rw [c1]
    have c2 := sh_2 (v := fun k => r (k + 1 + 1) + r (k + 1 + 1 + 1) + (r (k + 1 + 1 + 2) + r (k + 1 + 1 + 3))) (fun k => b2 (k + 1 + 1)) (fun k hk => z2 (k + 1 + 1) (by omega))
    rw [c2]
    exact sh_2 (v := fun k => r (k + 1 + 1 + 1) + r (k + 1 + 1 + 1 + 1) + (r (k + 1 + 1 + 1 + 2) + r (k + 1 + 1 + 1 + 3))) (fun k => b2 (k + 1 + 1 + 1)) (fun k hk => z2 (k + 1 + 1 + 1) (by omega))
  have e3 : g = dg 256 8 (fun k => r k + r (k + 1) + (r (k + 2) + r (k + 3)) + (r (k + 4) + r (k + 5) + (r (k + 6) + r (k + 7)))) := by rw [hg, s4, e2, dg_add]
  have b3 : ∀ k, (fun k => r k + r (k + 1) + (r (k + 2) + r (k + 3)) + (r (k + 4) + r (k + 5) + (r (k + 6) + r (k + 7)))) k ≤ 64 := fun k => by
    have a := hr k; have b := hr (k + 1); have c := hr (k + 2); have d := hr (k + 3)
    have a2 := hr (k + 4); have b2 := hr (k + 5); have c2 := hr (k + 6); have d2 := hr (k + 7)
    show _ + _ + (_ + _) + (_ + _ + (_ + _)) ≤ 64
    omega
  have l1 := dg_lt (B := 256) 8 _ (fun k _ => b1 k)
  have l2 := dg_lt (B := 256) 8 _ (fun k _ => b2 k)
  have l3 := dg_lt (B := 256) 8 _ (fun k _ => Nat.lt_of_le_of_lt (b3 k) (show 64 < 256 by omega))
  rw [← e1] at l1
  rw [← e2] at l2
  rw [← e3] at l3
  refine ⟨⟨by omega, by omega, by omega⟩, ?_⟩
  have md : g % 256 = r 0 + r 1 + (r 2 + r 3) + (r 4 + r 5 + (r 6 + r 7)) := by
    rw [e3]
    exact dg_md (B := 256) (n := 7) (Nat.lt_of_le_of_lt (b3 0) (show 64 < 256 by omega))
  have b0 := b3 0
  show g % 128 = r 0 + 1 * (r 1 + 1 * (r 2 + 1 * (r 3 + 1 * (r 4 + 1 * (r 5 + 1 * (r 6 + 1 * (r 7 + 1 * 0)))))))
  have b00 : r 0 + r 1 + (r 2 + r 3) + (r 4 + r 5 + (r 6 + r 7)) ≤ 64 := b0
  omega
/-- the whole: bits counted -/
theorem pop_9 {N a c d e f g : Nat} (h : N < 2 ^ 64) (ha : a = N - ((N / 2) &&& M1)) (hc : c = (a &&& M2) + ((a / 4) &&& M2)) (hd : d = (c + c / 16) &&& M4) (he : e = d + d / 256) (hf : f = e + e / 65536) (hg : g = f + f / 4294967296) : ((N / 2) &&& M1 ≤ N ∧ c < 2 ^ 64 ∧ c + c / 16 < 2 ^ 64 ∧ e < 2 ^ 64 ∧ f < 2 ^ 64 ∧ g < 2 ^ 64) ∧ g % 128 = pc9 N := by
  obtain ⟨p0, p1⟩ := pop_1 h
  rw [← ha] at p1
  have P : ∀ k, (fun k => bt N (2 * k) + bt N (2 * k + 1)) k ≤ 2 := fun k => by have x := bt_b N (2 * k); have y := bt_b N (2 * k + 1); show _ + _ ≤ 2; omega
  have Z : ∀ k, 32 ≤ k → (fun k => bt N (2 * k) + bt N (2 * k + 1)) k = 0 := fun k hk => by have x := bt_z (k := 2 * k) h (by omega); have y := bt_z (k := 2 * k + 1) h (by omega); show _ + _ = 0; omega
  have p2 := pop_2 P Z
  rw [← p1, ← hc] at p2
  have P2 : ∀ k, (fun k => bt N (2 * (2 * k)) + bt N (2 * (2 * k) + 1) + (bt N (2 * (2 * k + 1)) + bt N (2 * (2 * k + 1) + 1))) k ≤ 4 := fun k => by have x := P (2 * k); have y := P (2 * k + 1); show _ + _ + (_ + _) ≤ 4; exact Nat.add_le_add x y
  have Z2 : ∀ k, 16 ≤ k → (fun k => bt N (2 * (2 * k)) + bt N (2 * (2 * k) + 1) + (bt N (2 * (2 * k + 1)) + bt N (2 * (2 * k + 1) + 1))) k = 0 := fun k hk => by
    have x := Z (2 * k) (by omega); have y := Z (2 * k + 1) (by omega)
    show (fun k => bt N (2 * k) + bt N (2 * k + 1)) (2 * k) + (fun k => bt N (2 * k) + bt N (2 * k + 1)) (2 * k + 1) = 0
    rw [x, y]
  have p3 := pop_3 P2 Z2
  have p2' : c = dg 16 16 (fun k => bt N (2 * (2 * k)) + bt N (2 * (2 * k) + 1) + (bt N (2 * (2 * k + 1)) + bt N (2 * (2 * k + 1) + 1))) := p2
  rw [← p2', ← hd] at p3
  have P3 : ∀ k, (fun k => (fun k => bt N (2 * (2 * k)) + bt N (2 * (2 * k) + 1) + (bt N (2 * (2 * k + 1)) + bt N (2 * (2 * k + 1) + 1))) (2 * k) + (fun k => bt N (2 * (2 * k)) + bt N (2 * (2 * k) + 1) + (bt N (2 * (2 * k + 1)) + bt N (2 * (2 * k + 1) + 1))) (2 * k + 1)) k ≤ 8 := fun k => Nat.add_le_add (P2 (2 * k)) (P2 (2 * k + 1))
  have Z3 : ∀ k, 8 ≤ k → (fun k => (fun k => bt N (2 * (2 * k)) + bt N (2 * (2 * k) + 1) + (bt N (2 * (2 * k + 1)) + bt N (2 * (2 * k + 1) + 1))) (2 * k) + (fun k => bt N (2 * (2 * k)) + bt N (2 * (2 * k) + 1) + (bt N (2 * (2 * k + 1)) + bt N (2 * (2 * k + 1) + 1))) (2 * k + 1)) k = 0 := fun k hk => by
    have x := Z2 (2 * k) (by omega); have y := Z2 (2 * k + 1) (by omega)
    show (fun k => bt N (2 * (2 * k)) + bt N (2 * (2 * k) + 1) + (bt N (2 * (2 * k + 1)) + bt N (2 * (2 * k + 1) + 1))) (2 * k) + (fun k => bt N (2 * (2 * k)) + bt N (2 * (2 * k) + 1) + (bt N (2 * (2 * k + 1)) + bt N (2 * (2 * k + 1) + 1))) (2 * k + 1) = 0
    rw [x, y]
  have p4 := pop_4 P3 Z3 p3 he hf hg
  have lc := dg_lt (B := 16) 16 _ (fun k _ => Nat.lt_of_le_of_lt (P2 k) (by omega))
  rw [← p2'] at lc
  have lc2 : c + c / 16 < 2 ^ 64 := by
    have w : c + c / 16 = dg 16 16 (fun k => (fun k => bt N (2 * (2 * k)) + bt N (2 * (2 * k) + 1) + (bt N (2 * (2 * k + 1)) + bt N (2 * (2 * k + 1) + 1))) k + (fun k => bt N (2 * (2 * k)) + bt N (2 * (2 * k) + 1) + (bt N (2 * (2 * k + 1)) + bt N (2 * (2 * k + 1) + 1))) (k + 1)) := by
      rw [← dg_add, ← p2', p2', dg_s1 (B := 16) (n := 15) (by omega) (Nat.lt_of_le_of_lt (P2 0) (by omega)) (Z2 16 (by omega))]
    have l := dg_lt (B := 16) 16 _ (fun k _ => Nat.lt_of_le_of_lt (Nat.add_le_add (P2 k) (P2 (k + 1))) (show 4 + 4 < 16 by omega))
    rw [← w] at l
    exact l
  refine ⟨⟨p0, by omega, lc2, p4.1.1, p4.1.2.1, p4.1.2.2⟩, ?_⟩
  rw [p4.2]
  unfold pc9
  have s1 := dg_2 (B := 1) 32 (bt N)
  have s2 := dg_2 (B := 1) 16 (fun k => bt N (2 * k) + 1 * bt N (2 * k + 1))
  have s3 := dg_2 (B := 1) 8 (fun k => bt N (2 * (2 * k)) + 1 * bt N (2 * (2 * k) + 1) + 1 * (bt N (2 * (2 * k + 1)) + 1 * bt N (2 * (2 * k + 1) + 1)))
  rw [show 2 * 32 = 64 from rfl, show 1 * 1 = 1 from rfl] at s1
  rw [show 2 * 16 = 32 from rfl, show 1 * 1 = 1 from rfl] at s2
  rw [show 2 * 8 = 16 from rfl, show 1 * 1 = 1 from rfl] at s3
  rw [s1, s2, s3]
  simp only [Nat.one_mul]

/-- a long's bits as a number -/
def nx9 (x : Int64) : Nat := x.toBitVec.toNat
theorem nx9_lt {x : Int64} : nx9 x < 2 ^ 64 := x.toBitVec.isLt
theorem nx9_and {x y : Int64} : nx9 (x &&& y) = nx9 x &&& nx9 y := by unfold nx9; rw [Int64.toBitVec_and, BitVec.toNat_and]
theorem nx9_sub {x y : Int64} (h : nx9 y ≤ nx9 x) : nx9 (x - y) = nx9 x - nx9 y := by
  have h1 := @nx9_lt x
  unfold nx9 at *
  rw [Int64.toBitVec_sub, BitVec.toNat_sub]
  omega
theorem nx9_add {x y : Int64} (h : nx9 x + nx9 y < 2 ^ 64) : nx9 (x + y) = nx9 x + nx9 y := by
  unfold nx9 at *
  rw [Int64.toBitVec_add, BitVec.toNat_add, Nat.mod_eq_of_lt h]
theorem nx9_shr {x : Int64} {k : UInt64} (hk : k.toNat < 64) : nx9 (x.toUInt64 >>> k).toInt64 = nx9 x / 2 ^ k.toNat := by
  show (x.toUInt64 >>> k).toNat = x.toUInt64.toNat / 2 ^ k.toNat
  rw [UInt64.toNat_shiftRight, Nat.mod_eq_of_lt hk, Nat.shiftRight_eq_div_pow]
theorem nx9_127 {v : Int64} : (J ((Int64.toInt32 v).toInt) &&& J 127).toInt = ((nx9 v % 128 : Nat) : Int) := by
  rw [← J_of (Int64.toInt32 v)]
  have h1 : (Int64.toInt32 v &&& J 127).toBitVec.toNat = nx9 v % 128 := by
    rw [Int32.toBitVec_and, BitVec.toNat_and]
    have e1 : (J 127).toBitVec.toNat = 2 ^ 7 - 1 := rfl
    have e2 : (Int64.toInt32 v).toBitVec.toNat = nx9 v % 2 ^ 32 := by
      show (v.toBitVec.signExtend 32).toNat = v.toBitVec.toNat % 2 ^ 32
      rw [BitVec.signExtend_eq_setWidth_of_le _ (by decide), BitVec.toNat_setWidth]
    rw [e1, e2, Nat.and_two_pow_sub_one_eq_mod]
    omega
  have h2 : nx9 v % 128 < 128 := Nat.mod_lt _ (by omega)
  show (Int64.toInt32 v &&& J 127).toBitVec.toInt = _
  rw [BitVec.toInt_eq_toNat_of_lt (by rw [h1]; omega), h1]
theorem bc_9 {x x3 x17 x27 x38 x45 x52 : Int64}
    (h3 : x3 = (x.toUInt64 >>> ((J 1).toInt64.toUInt64 &&& Int64.toUInt64 63)).toInt64)
    (h17 : x17 = ((x - (x3 &&& 6148914691236517205)).toUInt64 >>> ((J 2).toInt64.toUInt64 &&& Int64.toUInt64 63)).toInt64)
    (h27 : x27 = ((((x - (x3 &&& 6148914691236517205)) &&& 3689348814741910323) + (x17 &&& 3689348814741910323)).toUInt64 >>> ((J 4).toInt64.toUInt64 &&& Int64.toUInt64 63)).toInt64)
    (h38 : x38 = (((((x - (x3 &&& 6148914691236517205)) &&& 3689348814741910323) + (x17 &&& 3689348814741910323) + x27) &&& 1085102592571150095).toUInt64 >>> ((J 8).toInt64.toUInt64 &&& Int64.toUInt64 63)).toInt64)
    (h45 : x45 = ((((((x - (x3 &&& 6148914691236517205)) &&& 3689348814741910323) + (x17 &&& 3689348814741910323) + x27) &&& 1085102592571150095) + x38).toUInt64 >>> ((J 16).toInt64.toUInt64 &&& Int64.toUInt64 63)).toInt64)
    (h52 : x52 = (((((((x - (x3 &&& 6148914691236517205)) &&& 3689348814741910323) + (x17 &&& 3689348814741910323) + x27) &&& 1085102592571150095) + x38) + x45).toUInt64 >>> ((J 32).toInt64.toUInt64 &&& Int64.toUInt64 63)).toInt64) :
    nx9 ((((((x - (x3 &&& 6148914691236517205)) &&& 3689348814741910323) + (x17 &&& 3689348814741910323) + x27) &&& 1085102592571150095) + x38) + x45 + x52) % 128 = pc9 (nx9 x) := by
  have k1 : nx9 x3 = nx9 x / 2 := by rw [h3]; exact nx9_shr (k := 1) (by decide)
  have m1 : nx9 (6148914691236517205 : Int64) = M1 := rfl
  have m2 : nx9 (3689348814741910323 : Int64) = M2 := rfl
  have m4 : nx9 (1085102592571150095 : Int64) = M4 := rfl
  obtain ⟨a, ea⟩ : ∃ a, a = x - (x3 &&& 6148914691236517205) := ⟨_, rfl⟩
  rw [← ea] at h17 h27 h38 h45 h52 ⊢
  have k17 : nx9 x17 = nx9 a / 4 := by rw [h17]; exact nx9_shr (k := 2) (by decide)
  obtain ⟨c, ec⟩ : ∃ c, c = (a &&& 3689348814741910323) + (x17 &&& 3689348814741910323) := ⟨_, rfl⟩
  rw [← ec] at h27 h38 h45 h52 ⊢
  have k27 : nx9 x27 = nx9 c / 16 := by rw [h27]; exact nx9_shr (k := 4) (by decide)
  obtain ⟨d, ed⟩ : ∃ d, d = (c + x27) &&& 1085102592571150095 := ⟨_, rfl⟩
  rw [← ed] at h38 h45 h52 ⊢
  have k38 : nx9 x38 = nx9 d / 256 := by rw [h38]; exact nx9_shr (k := 8) (by decide)
  obtain ⟨e, ee⟩ : ∃ e, e = d + x38 := ⟨_, rfl⟩
  rw [← ee] at h45 h52 ⊢
  have k45 : nx9 x45 = nx9 e / 65536 := by rw [h45]; exact nx9_shr (k := 16) (by decide)
  obtain ⟨f, ef⟩ : ∃ f, f = e + x45 := ⟨_, rfl⟩
  rw [← ef] at h52 ⊢
  have k52 : nx9 x52 = nx9 f / 4294967296 := by rw [h52]; exact nx9_shr (k := 32) (by decide)
  have P := pop_9 (N := nx9 x) (a := nx9 x - ((nx9 x / 2) &&& M1)) nx9_lt rfl rfl rfl rfl rfl rfl
  obtain ⟨⟨b1, b2, b3, b4, b5, b6⟩, b7⟩ := P
  have n1 : nx9 a = nx9 x - ((nx9 x / 2) &&& M1) := by
    rw [ea, nx9_sub (by rw [nx9_and, k1, m1]; exact b1), nx9_and, k1, m1]
  rw [← n1] at b2 b3 b4 b5 b6 b7
  have n2 : nx9 c = (nx9 a &&& M2) + ((nx9 a / 4) &&& M2) := by
    rw [ec, nx9_add (by rw [nx9_and, nx9_and, k17, m2]; exact b2), nx9_and, nx9_and, k17, m2]
  rw [← n2] at b3 b4 b5 b6 b7
  have n3 : nx9 d = (nx9 c + nx9 c / 16) &&& M4 := by
    rw [ed, nx9_and, nx9_add (by rw [k27]; exact b3), k27, m4]
  rw [← n3] at b4 b5 b6 b7
  have n4 : nx9 e = nx9 d + nx9 d / 256 := by rw [ee, nx9_add (by rw [k38]; exact b4), k38]
  rw [← n4] at b5 b6 b7
  have n5 : nx9 f = nx9 e + nx9 e / 65536 := by rw [ef, nx9_add (by rw [k45]; exact b5), k45]
  rw [← n5] at b6 b7
  rw [nx9_add (by rw [k52]; exact b6), k52]
  exact b7
theorem pc9_b (N : Nat) : pc9 N ≤ 64 := by
  have : ∀ (n : Nat) (v : Nat → Nat), (∀ k, v k ≤ 1) → dg 1 n v ≤ n := by
    intro n
    induction n with
    | zero => intro v _; exact Nat.le_refl 0
    | succ n ih =>
      intro v h
      have h0 := h 0
      have q := ih (fun k => v (k + 1)) (fun k => h (k + 1))
      show v 0 + 1 * dg 1 n (fun k => v (k + 1)) ≤ n + 1
      omega
  exact this 64 _ (bt_b N)
