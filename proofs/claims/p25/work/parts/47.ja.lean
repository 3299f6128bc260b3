
/-- digits, the least first -/
def dg (B : Nat) : Nat → (Nat → Nat) → Nat
  | 0, _ => 0
  | n + 1, v => v 0 + B * dg B n (fun k => v (k + 1))
theorem dg_c {B : Nat} : ∀ (n : Nat) (v w : Nat → Nat), (∀ k, k < n → v k = w k) → dg B n v = dg B n w := by
  intro n
  induction n with
  | zero => intro v w _; rfl
  | succ n ih =>
    intro v w h
    show v 0 + B * _ = w 0 + B * _
    rw [h 0 (by omega), ih _ (fun k => w (k + 1)) (fun k hk => h (k + 1) (by omega))]
theorem dg_add {B : Nat} : ∀ (n : Nat) (v w : Nat → Nat), dg B n v + dg B n w = dg B n (fun k => v k + w k) := by
  intro n
  induction n with
  | zero => intro v w; rfl
  | succ n ih =>
    intro v w
    show v 0 + B * dg B n (fun k => v (k + 1)) + (w 0 + B * dg B n (fun k => w (k + 1))) = v 0 + w 0 + B * dg B n (fun k => v (k + 1) + w (k + 1))
    rw [← ih, Nat.mul_add]
    omega
/-- two digits as one -/
theorem dg_2 {B : Nat} : ∀ (n : Nat) (v : Nat → Nat), dg B (2 * n) v = dg (B * B) n (fun k => v (2 * k) + B * v (2 * k + 1)) := by
  intro n
  induction n with
  | zero => intro v; rfl
  | succ n ih =>
    intro v
    show dg B (2 * n + 1 + 1) v = _
    show v 0 + B * (v 1 + B * dg B (2 * n) (fun k => v (k + 1 + 1))) = v 0 + B * v 1 + B * B * dg (B * B) n (fun k => v (2 * (k + 1)) + B * v (2 * (k + 1) + 1))
    rw [ih, Nat.mul_add, Nat.mul_assoc]
    have e : dg (B * B) n (fun k => v (2 * k + 1 + 1) + B * v (2 * k + 1 + 1 + 1)) = dg (B * B) n (fun k => v (2 * (k + 1)) + B * v (2 * (k + 1) + 1)) := dg_c n _ _ (fun k _ => by rw [show 2 * (k + 1) = 2 * k + 1 + 1 by omega])
    show v 0 + (B * v 1 + B * (B * dg (B * B) n (fun k => v (2 * k + 1 + 1) + B * v (2 * k + 1 + 1 + 1)))) = _
    rw [e]
    omega
theorem dg_and {p : Nat} : ∀ (n : Nat) (v w : Nat → Nat), (∀ k, k < n → v k < 2 ^ p ∧ w k < 2 ^ p) → dg (2 ^ p) n v &&& dg (2 ^ p) n w = dg (2 ^ p) n (fun k => v k &&& w k) := by
  intro n
  induction n with
  | zero => intro v w _; show (0 : Nat) &&& 0 = 0; rfl
  | succ n ih =>
    intro v w h
    have h0 := h 0 (by omega)
    have q := ih (fun k => v (k + 1)) (fun k => w (k + 1)) (fun k hk => h (k + 1) (by omega))
    show (v 0 + 2 ^ p * dg (2 ^ p) n (fun k => v (k + 1))) &&& (w 0 + 2 ^ p * dg (2 ^ p) n (fun k => w (k + 1))) = (v 0 &&& w 0) + 2 ^ p * dg (2 ^ p) n (fun k => v (k + 1) &&& w (k + 1))
    rw [← q]
    generalize dg (2 ^ p) n (fun k => v (k + 1)) = S
    generalize dg (2 ^ p) n (fun k => w (k + 1)) = T
    generalize v 0 = a at h0
    generalize w 0 = b at h0
    have pp : 0 < 2 ^ p := Nat.two_pow_pos p
    have md : ((a + 2 ^ p * S) &&& (b + 2 ^ p * T)) % 2 ^ p = a &&& b := by
      rw [Nat.and_mod_two_pow, Nat.add_mul_mod_self_left, Nat.add_mul_mod_self_left, Nat.mod_eq_of_lt h0.1, Nat.mod_eq_of_lt h0.2]
    have dv : ((a + 2 ^ p * S) &&& (b + 2 ^ p * T)) / 2 ^ p = S &&& T := by
      rw [Nat.and_div_two_pow, Nat.add_mul_div_left _ _ pp, Nat.add_mul_div_left _ _ pp, Nat.div_eq_of_lt h0.1, Nat.div_eq_of_lt h0.2, Nat.zero_add, Nat.zero_add]
    have e := Nat.mod_add_div ((a + 2 ^ p * S) &&& (b + 2 ^ p * T)) (2 ^ p)
    rw [md, dv] at e
    exact e.symm
theorem dg_sh {B : Nat} (hB : 0 < B) {n : Nat} {v : Nat → Nat} (h : v 0 < B) : dg B (n + 1) v / B = dg B n (fun k => v (k + 1)) := by
  show (v 0 + B * _) / B = _
  rw [Nat.add_mul_div_left _ _ hB, Nat.div_eq_of_lt h, Nat.zero_add]
theorem dg_md {B n : Nat} {v : Nat → Nat} (h : v 0 < B) : dg B (n + 1) v % B = v 0 := by
  show (v 0 + B * _) % B = _
  rw [Nat.add_mul_mod_self_left, Nat.mod_eq_of_lt h]
/-- bits -/
def bt (N k : Nat) : Nat := N / 2 ^ k % 2
theorem bt_b (N k : Nat) : bt N k ≤ 1 := by unfold bt; omega
theorem dg_bt : ∀ (n N : Nat), N < 2 ^ n → N = dg 2 n (bt N) := by
  intro n
  induction n with
  | zero => intro N h; show N = 0; rw [Nat.pow_zero] at h; omega
  | succ n ih =>
    intro N h
    have q := ih (N / 2) (by rw [Nat.pow_succ] at h; omega)
    show N = bt N 0 + 2 * dg 2 n (fun k => bt N (k + 1))
    have e : dg 2 n (bt (N / 2)) = dg 2 n (fun k => bt N (k + 1)) := dg_c n _ _ (fun k _ => by
      unfold bt
      rw [Nat.div_div_eq_div_mul, Nat.pow_succ, Nat.mul_comm 2])
    rw [← e, ← q]
    unfold bt
    rw [Nat.pow_zero, Nat.div_one]
    omega
theorem m1_b {a b : Nat} (ha : a ≤ 1) : (a + 2 * b) &&& 1 = a := by
  rw [Nat.and_one_is_mod]; omega
theorem m3_b {a b : Nat} (ha : a < 4) : (a + 4 * b) &&& 3 = a := by
  have := Nat.and_two_pow_sub_one_eq_mod (a + 4 * b) 2
  rw [show 2 ^ 2 - 1 = 3 from rfl] at this
  rw [this]; omega
theorem m15_b {a b : Nat} (ha : a < 16) : (a + 16 * b) &&& 15 = a := by
  have := Nat.and_two_pow_sub_one_eq_mod (a + 16 * b) 4
  rw [show 2 ^ 4 - 1 = 15 from rfl] at this
  rw [this]; omega
def M1 : Nat := 6148914691236517205
def M2 : Nat := 3689348814741910323
def M4 : Nat := 1085102592571150095
/-- how many bits of 64 -/
def pc9 (N : Nat) : Nat := dg 1 64 (bt N)
theorem dg_0 {B : Nat} : ∀ (n : Nat) (v : Nat → Nat), v n = 0 → dg B n v = dg B (n + 1) v := by
  intro n
  induction n with
  | zero => intro v hv; show 0 = v 0 + B * 0; omega
  | succ n ih => intro v hv; show v 0 + B * dg B n (fun k => v (k + 1)) = v 0 + B * dg B (n + 1) (fun k => v (k + 1)); rw [ih (fun k => v (k + 1)) hv]
/-- one digit less -/
theorem dg_s1 {B n : Nat} (hB : 0 < B) {v : Nat → Nat} (h : v 0 < B) (hz : v (n + 1) = 0) : dg B (n + 1) v / B = dg B (n + 1) (fun k => v (k + 1)) := (dg_sh hB h).trans (dg_0 n _ hz)
theorem dg_lt {B : Nat} : ∀ (n : Nat) (v : Nat → Nat), (∀ k, k < n → v k < B) → dg B n v < B ^ n := by
  intro n
  induction n with
  | zero => intro v _; show 0 < B ^ 0; rw [Nat.pow_zero]; omega
  | succ n ih =>
    intro v h
    have h0 := h 0 (by omega)
    have q := ih (fun k => v (k + 1)) (fun k hk => h (k + 1) (by omega))
    show v 0 + B * dg B n (fun k => v (k + 1)) < B ^ (n + 1)
    have m := Nat.mul_le_mul_left B (show dg B n (fun k => v (k + 1)) + 1 ≤ B ^ n by omega)
    rw [Nat.pow_succ, Nat.mul_comm (B ^ n) B]
    rw [Nat.mul_add, Nat.mul_one] at m
    omega
theorem bt_z {N k : Nat} (h : N < 2 ^ 64) (hk : 64 ≤ k) : bt N k = 0 := by
  unfold bt
  rw [Nat.div_eq_of_lt (Nat.lt_of_lt_of_le h (Nat.pow_le_pow_right (by omega) hk))]
theorem pop_1 {N : Nat} (h : N < 2 ^ 64) : (N / 2) &&& M1 ≤ N ∧ N - ((N / 2) &&& M1) = dg 4 32 (fun k => bt N (2 * k) + bt N (2 * k + 1)) := by
  have e1 : N = dg 4 32 (fun k => bt N (2 * k) + 2 * bt N (2 * k + 1)) := (dg_bt 64 N h).trans (dg_2 (B := 2) 32 (bt N))
  have e2 : N / 2 = dg 4 32 (fun k => bt N (2 * k + 1) + 2 * bt N (2 * k + 2)) := by
    have w := dg_s1 (B := 2) (n := 63) (v := bt N) (by omega) (by have := bt_b N 0; omega) (bt_z h (by omega))
    rw [← dg_bt 64 N h] at w
    exact w.trans (dg_2 (B := 2) 32 (fun k => bt N (k + 1)))
  have e3 : (N / 2) &&& M1 = dg 4 32 (fun k => bt N (2 * k + 1)) := by
    rw [e2, show M1 = dg 4 32 (fun _ => 1) by decide +kernel]
    have a := dg_and (p := 2) 32 (fun k => bt N (2 * k + 1) + 2 * bt N (2 * k + 2)) (fun _ => 1) (fun k _ => by have b1 := bt_b N (2 * k + 1); have b2 := bt_b N (2 * k + 2); exact ⟨by show _ + 2 * _ < 4; omega, by show 1 < 4; omega⟩)
    rw [show (2 : Nat) ^ 2 = 4 from rfl] at a
    rw [a]
    exact dg_c 32 _ _ (fun k _ => m1_b (bt_b N _))
  have e4 := dg_add (B := 4) 32 (fun k => bt N (2 * k) + bt N (2 * k + 1)) (fun k => bt N (2 * k + 1))
  have e5 : dg 4 32 (fun k => bt N (2 * k) + bt N (2 * k + 1) + bt N (2 * k + 1)) = N := (e1.trans (dg_c 32 _ _ (fun k _ => by omega))).symm
  rw [e3]
  omega
theorem pop_2 {p : Nat → Nat} (hp : ∀ k, p k ≤ 2) (hz : ∀ k, 32 ≤ k → p k = 0) : (dg 4 32 p &&& M2) + ((dg 4 32 p / 4) &&& M2) = dg 16 16 (fun k => p (2 * k) + p (2 * k + 1)) := by
  have e1 : dg 4 32 p = dg 16 16 (fun k => p (2 * k) + 4 * p (2 * k + 1)) := dg_2 (B := 4) 16 p
  have e2 : dg 4 32 p / 4 = dg 16 16 (fun k => p (2 * k + 1) + 4 * p (2 * k + 2)) := (dg_s1 (B := 4) (n := 31) (v := p) (by omega) (by have := hp 0; omega) (hz 32 (by omega))).trans (dg_2 (B := 4) 16 (fun k => p (k + 1)))
  have m : ∀ a : Nat → Nat, (∀ k, a k ≤ 2) → ∀ b : Nat → Nat, (∀ k, b k ≤ 2) → dg 16 16 (fun k => a k + 4 * b k) &&& M2 = dg 16 16 a := fun a ha b hb => by
    rw [show M2 = dg 16 16 (fun _ => 3) by decide +kernel]
    have q := dg_and (p := 4) 16 (fun k => a k + 4 * b k) (fun _ => 3) (fun k _ => by have b1 := ha k; have b2 := hb k; exact ⟨by show _ + 4 * _ < 16; omega, by show 3 < 16; omega⟩)
    rw [show (2 : Nat) ^ 4 = 16 from rfl] at q
    rw [q]
    exact dg_c 16 _ _ (fun k _ => m3_b (by have := ha k; omega))
  rw [e2, e1, m (fun k => p (2 * k)) (fun k => hp _) (fun k => p (2 * k + 1)) (fun k => hp _), m (fun k => p (2 * k + 1)) (fun k => hp _) (fun k => p (2 * k + 2)) (fun k => hp _), dg_add]
theorem pop_3 {q : Nat → Nat} (hq : ∀ k, q k ≤ 4) (hz : ∀ k, 16 ≤ k → q k = 0) : (dg 16 16 q + dg 16 16 q / 16) &&& M4 = dg 256 8 (fun k => q (2 * k) + q (2 * k + 1)) := by
  have e2 : dg 16 16 q / 16 = dg 16 16 (fun k => q (k + 1)) := dg_s1 (B := 16) (n := 15) (v := q) (by omega) (by have := hq 0; omega) (hz 16 (by omega))
  rw [e2, dg_add]
  have e3 : dg 16 16 (fun k => q k + q (k + 1)) = dg 256 8 (fun k => (q (2 * k) + q (2 * k + 1)) + 16 * (q (2 * k + 1) + q (2 * k + 1 + 1))) := dg_2 (B := 16) 8 (fun k => q k + q (k + 1))
  rw [e3, show M4 = dg 256 8 (fun _ => 15) by decide +kernel]
  have a := dg_and (p := 8) 8 (fun k => (q (2 * k) + q (2 * k + 1)) + 16 * (q (2 * k + 1) + q (2 * k + 1 + 1))) (fun _ => 15) (fun k _ => by have b1 := hq (2 * k); have b2 := hq (2 * k + 1); have b3 := hq (2 * k + 1 + 1); exact ⟨by show _ + 16 * _ < 256; omega, by show 15 < 256; omega⟩)
  rw [show (2 : Nat) ^ 8 = 256 from rfl] at a
  rw [a]
  exact dg_c 8 _ _ (fun k _ => m15_b (by have b1 := hq (2 * k); have b2 := hq (2 * k + 1); omega))
theorem sh_2 {v : Nat → Nat} (h : ∀ k, v k < 256) (hz : ∀ k, 8 ≤ k → v k = 0) : dg 256 8 v / 256 = dg 256 8 (fun k => v (k + 1)) := dg_s1 (B := 256) (n := 7) (by omega) (h 0) (hz 8 (by omega))
theorem pop_4 {r : Nat → Nat} (hr : ∀ k, r k ≤ 8) (hz : ∀ k, 8 ≤ k → r k = 0) {d e f g : Nat} (hd : d = dg 256 8 r) (he : e = d + d / 256) (hf : f = e + e / 65536) (hg : g = f + f / 4294967296) : (e < 2 ^ 64 ∧ f < 2 ^ 64 ∧ g < 2 ^ 64) ∧ g % 128 = dg 1 8 r := by
  have e1 : e = dg 256 8 (fun k => r k + r (k + 1)) := by
    rw [he, hd, sh_2 (fun k => by have := hr k; omega) hz, dg_add]
  have b1 : ∀ k, (fun k => r k + r (k + 1)) k < 256 := fun k => by have a := hr k; have b := hr (k + 1); show _ + _ < 256; omega
  have z1 : ∀ k, 8 ≤ k → (fun k => r k + r (k + 1)) k = 0 := fun k hk => by have a := hz k hk; have b := hz (k + 1) (by omega); show _ + _ = 0; omega
  have s2 : e / 65536 = dg 256 8 (fun k => r (k + 2) + r (k + 3)) := by
    rw [show (65536 : Nat) = 256 * 256 from rfl, ← Nat.div_div_eq_div_mul, e1, sh_2 b1 z1]
    exact sh_2 (v := fun k => r (k + 1) + r (k + 1 + 1)) (fun k => b1 (k + 1)) (fun k hk => z1 (k + 1) (by omega))
  have e2 : f = dg 256 8 (fun k => r k + r (k + 1) + (r (k + 2) + r (k + 3))) := by rw [hf, s2, e1, dg_add]
  have b2 : ∀ k, (fun k => r k + r (k + 1) + (r (k + 2) + r (k + 3))) k < 256 := fun k => by have a := hr k; have b := hr (k + 1); have c := hr (k + 2); have d := hr (k + 3); show _ + _ + (_ + _) < 256; omega
  have z2 : ∀ k, 8 ≤ k → (fun k => r k + r (k + 1) + (r (k + 2) + r (k + 3))) k = 0 := fun k hk => by have a := hz k hk; have b := hz (k + 1) (by omega); have c := hz (k + 2) (by omega); have d := hz (k + 3) (by omega); show _ + _ + (_ + _) = 0; omega
  have s4 : f / 4294967296 = dg 256 8 (fun k => r (k + 4) + r (k + 5) + (r (k + 6) + r (k + 7))) := by
    rw [show (4294967296 : Nat) = 256 * 256 * 256 * 256 from rfl, ← Nat.div_div_eq_div_mul, ← Nat.div_div_eq_div_mul, ← Nat.div_div_eq_div_mul, e2, sh_2 b2 z2]
    have c1 := sh_2 (v := fun k => r (k + 1) + r (k + 1 + 1) + (r (k + 1 + 2) + r (k + 1 + 3))) (fun k => b2 (k + 1)) (fun k hk => z2 (k + 1) (by omega))
    rw [c1]
    have c2 := sh_2 (v := fun k => r (k + 1 + 1) + r (k + 1 + 1 + 1) + (r (k + 1 + 1 + 2) + r (k + 1 + 1 + 3))) (fun k => b2 (k + 1 + 1)) (fun k hk => z2 (k + 1 + 1) (by omega))
    rw [c2]
    exact sh_2 (v := fun k => r (k + 1 + 1 + 1) + r (k + 1 + 1 + 1 + 1) + (r (k + 1 + 1 + 1 + 2) + r (k + 1 + 1 + 1 + 3))) (fun k => b2 (k + 1 + 1 + 1)) (fun k hk => z2 (k + 1 + 1 + 1) (by omega))
  have e3 : g = dg 256 8 (fun k => r k + r (k + 1) + (r (k + 2) + r (k + 3)) + (r (k + 4) + r (k + 5) + (r (k + 6) + r (k + 7)))) := by rw [hg, s4, e2, dg_add]
  have b3 : ∀ k, (fun k => r k + r (k + 1) + (r (k + 2) + r (k + 3)) + (r (k + 4) + r (k + 5) + (r (k + 6) + r (k + 7)))) k ≤ 64 := fun k => by
    have a := hr k; have b := hr (k + 1); have c := hr (k + 2); have d := hr (k + 3)
    have a2 := hr (k + 4); have b2 := hr (k + 5); have c2 := hr (k + 6); have d2 := hr (k + 7)
    show _ + _ + (_ + _) + (_ + _ + (_ + _)) ≤ 64
    omega
  have l1 := dg_lt (B := 256) 8 _ (fun k _ => b1 k)
  have l2 := dg_lt (B := 256) 8 _ (fun k _ => b2 k)
  have l3 := dg_lt (B := 256) 8 _ (fun k _ => Nat.lt_of_le_of_lt (b3 k) (show 64 < 256 by omega))
  rw [← e1] at l1
  rw [← e2] at l2
  rw [← e3] at l3
  refine ⟨⟨by omega, by omega, by omega⟩, ?_⟩
  have md : g % 256 = r 0 + r 1 + (r 2 + r 3) + (r 4 + r 5 + (r 6 + r 7)) := by
    rw [e3]
    exact dg_md (B := 256) (n := 7) (Nat.lt_of_le_of_lt (b3 0) (show 64 < 256 by omega))
  have b0 := b3 0
  show g % 128 = r 0 + 1 * (r 1 + 1 * (r 2 + 1 * (r 3 + 1 * (r 4 + 1 * (r 5 + 1 * (r 6 + 1 * (r 7 + 1 * 0)))))))
  have b00 : r 0 + r 1 + (r 2 + r 3) + (r 4 + r 5 + (r 6 + r 7)) ≤ 64 := b0
  omega
/-- the whole: bits counted -/
theorem pop_9 {N a c d e f g : Nat} (h : N < 2 ^ 64) (ha : a = N - ((N / 2) &&& M1)) (hc : c = (a &&& M2) + ((a / 4) &&& M2)) (hd : d = (c + c / 16) &&& M4) (he : e = d + d / 256) (hf : f = e + e / 65536) (hg : g = f + f / 4294967296) : ((N / 2) &&& M1 ≤ N ∧ c < 2 ^ 64 ∧ c + c / 16 < 2 ^ 64 ∧ e < 2 ^ 64 ∧ f < 2 ^ 64 ∧ g < 2 ^ 64) ∧ g % 128 = pc9 N := by
  obtain ⟨p0, p1⟩ := pop_1 h
  rw [← ha] at p1
  have P : ∀ k, (fun k => bt N (2 * k) + bt N (2 * k + 1)) k ≤ 2 := fun k => by have x := bt_b N (2 * k); have y := bt_b N (2 * k + 1); show _ + _ ≤ 2; omega
  have Z : ∀ k, 32 ≤ k → (fun k => bt N (2 * k) + bt N (2 * k + 1)) k = 0 := fun k hk => by have x := bt_z (k := 2 * k) h (by omega); have y := bt_z (k := 2 * k + 1) h (by omega); show _ + _ = 0; omega
  have p2 := pop_2 P Z
  rw [← p1, ← hc] at p2
  have P2 : ∀ k, (fun k => bt N (2 * (2 * k)) + bt N (2 * (2 * k) + 1) + (bt N (2 * (2 * k + 1)) + bt N (2 * (2 * k + 1) + 1))) k ≤ 4 := fun k => by have x := P (2 * k); have y := P (2 * k + 1); show _ + _ + (_ + _) ≤ 4; exact Nat.add_le_add x y
  have Z2 : ∀ k, 16 ≤ k → (fun k => bt N (2 * (2 * k)) + bt N (2 * (2 * k) + 1) + (bt N (2 * (2 * k + 1)) + bt N (2 * (2 * k + 1) + 1))) k = 0 := fun k hk => by
    have x := Z (2 * k) (by omega); have y := Z (2 * k + 1) (by omega)
    show (fun k => bt N (2 * k) + bt N (2 * k + 1)) (2 * k) + (fun k => bt N (2 * k) + bt N (2 * k + 1)) (2 * k + 1) = 0
    rw [x, y]
  have p3 := pop_3 P2 Z2
  have p2' : c = dg 16 16 (fun k => bt N (2 * (2 * k)) + bt N (2 * (2 * k) + 1) + (bt N (2 * (2 * k + 1)) + bt N (2 * (2 * k + 1) + 1))) := p2
  rw [← p2', ← hd] at p3
  have P3 : ∀ k, (fun k => (fun k => bt N (2 * (2 * k)) + bt N (2 * (2 * k) + 1) + (bt N (2 * (2 * k + 1)) + bt N (2 * (2 * k + 1) + 1))) (2 * k) + (fun k => bt N (2 * (2 * k)) + bt N (2 * (2 * k) + 1) + (bt N (2 * (2 * k + 1)) + bt N (2 * (2 * k + 1) + 1))) (2 * k + 1)) k ≤ 8 := fun k => Nat.add_le_add (P2 (2 * k)) (P2 (2 * k + 1))
  have Z3 : ∀ k, 8 ≤ k → (fun k => (fun k => bt N (2 * (2 * k)) + bt N (2 * (2 * k) + 1) + (bt N (2 * (2 * k + 1)) + bt N (2 * (2 * k + 1) + 1))) (2 * k) + (fun k => bt N (2 * (2 * k)) + bt N (2 * (2 * k) + 1) + (bt N (2 * (2 * k + 1)) + bt N (2 * (2 * k + 1) + 1))) (2 * k + 1)) k = 0 := fun k hk => by
    have x := Z2 (2 * k) (by omega); have y := Z2 (2 * k + 1) (by omega)
    show (fun k => bt N (2 * (2 * k)) + bt N (2 * (2 * k) + 1) + (bt N (2 * (2 * k + 1)) + bt N (2 * (2 * k + 1) + 1))) (2 * k) + (fun k => bt N (2 * (2 * k)) + bt N (2 * (2 * k) + 1) + (bt N (2 * (2 * k + 1)) + bt N (2 * (2 * k + 1) + 1))) (2 * k + 1) = 0
    rw [x, y]
  have p4 := pop_4 P3 Z3 p3 he hf hg
  have lc := dg_lt (B := 16) 16 _ (fun k _ => Nat.lt_of_le_of_lt (P2 k) (by omega))
  rw [← p2'] at lc
  have lc2 : c + c / 16 < 2 ^ 64 := by
    have w : c + c / 16 = dg 16 16 (fun k => (fun k => bt N (2 * (2 * k)) + bt N (2 * (2 * k) + 1) + (bt N (2 * (2 * k + 1)) + bt N (2 * (2 * k + 1) + 1))) k + (fun k => bt N (2 * (2 * k)) + bt N (2 * (2 * k) + 1) + (bt N (2 * (2 * k + 1)) + bt N (2 * (2 * k + 1) + 1))) (k + 1)) := by
      rw [← dg_add, ← p2', p2', dg_s1 (B := 16) (n := 15) (by omega) (Nat.lt_of_le_of_lt (P2 0) (by omega)) (Z2 16 (by omega))]
    have l := dg_lt (B := 16) 16 _ (fun k _ => Nat.lt_of_le_of_lt (Nat.add_le_add (P2 k) (P2 (k + 1))) (show 4 + 4 < 16 by omega))
    rw [← w] at l
    exact l
  refine ⟨⟨p0, by omega, lc2, p4.1.1, p4.1.2.1, p4.1.2.2⟩, ?_⟩
  rw [p4.2]
  unfold pc9
  have s1 := dg_2 (B := 1) 32 (bt N)
  have s2 := dg_2 (B := 1) 16 (fun k => bt N (2 * k) + 1 * bt N (2 * k + 1))
  have s3 := dg_2 (B := 1) 8 (fun k => bt N (2 * (2 * k)) + 1 * bt N (2 * (2 * k) + 1) + 1 * (bt N (2 * (2 * k + 1)) + 1 * bt N (2 * (2 * k + 1) + 1)))
  rw [show 2 * 32 = 64 from rfl, show 1 * 1 = 1 from rfl] at s1
  rw [show 2 * 16 = 32 from rfl, show 1 * 1 = 1 from rfl] at s2
  rw [show 2 * 8 = 16 from rfl, show 1 * 1 = 1 from rfl] at s3
  rw [s1, s2, s3]
  simp only [Nat.one_mul]

/-- a long's bits as a number -/
def nx9 (x : Int64) : Nat := x.toBitVec.toNat
theorem nx9_lt {x : Int64} : nx9 x < 2 ^ 64 := x.toBitVec.isLt
theorem nx9_and {x y : Int64} : nx9 (x &&& y) = nx9 x &&& nx9 y := by unfold nx9; rw [Int64.toBitVec_and, BitVec.toNat_and]
theorem nx9_sub {x y : Int64} (h : nx9 y ≤ nx9 x) : nx9 (x - y) = nx9 x - nx9 y := by
  have h1 := @nx9_lt x
  unfold nx9 at *
  rw [Int64.toBitVec_sub, BitVec.toNat_sub]
  omega
theorem nx9_add {x y : Int64} (h : nx9 x + nx9 y < 2 ^ 64) : nx9 (x + y) = nx9 x + nx9 y := by
  unfold nx9 at *
  rw [Int64.toBitVec_add, BitVec.toNat_add, Nat.mod_eq_of_lt h]
theorem nx9_shr {x : Int64} {k : UInt64} (hk : k.toNat < 64) : nx9 (x.toUInt64 >>> k).toInt64 = nx9 x / 2 ^ k.toNat := by
  show (x.toUInt64 >>> k).toNat = x.toUInt64.toNat / 2 ^ k.toNat
  rw [UInt64.toNat_shiftRight, Nat.mod_eq_of_lt hk, Nat.shiftRight_eq_div_pow]
theorem nx9_127 {v : Int64} : (J ((Int64.toInt32 v).toInt) &&& J 127).toInt = ((nx9 v % 128 : Nat) : Int) := by
  rw [← J_of (Int64.toInt32 v)]
  have h1 : (Int64.toInt32 v &&& J 127).toBitVec.toNat = nx9 v % 128 := by
    rw [Int32.toBitVec_and, BitVec.toNat_and]
    have e1 : (J 127).toBitVec.toNat = 2 ^ 7 - 1 := rfl
    have e2 : (Int64.toInt32 v).toBitVec.toNat = nx9 v % 2 ^ 32 := by
      show (v.toBitVec.signExtend 32).toNat = v.toBitVec.toNat % 2 ^ 32
      rw [BitVec.signExtend_eq_setWidth_of_le _ (by decide), BitVec.toNat_setWidth]
    rw [e1, e2, Nat.and_two_pow_sub_one_eq_mod]
    omega
  have h2 : nx9 v % 128 < 128 := Nat.mod_lt _ (by omega)
  show (Int64.toInt32 v &&& J 127).toBitVec.toInt = _
  rw [BitVec.toInt_eq_toNat_of_lt (by rw [h1]; omega), h1]
theorem bc_9 {x x3 x17 x27 x38 x45 x52 : Int64}
    (h3 : x3 = (x.toUInt64 >>> ((J 1).toInt64.toUInt64 &&& Int64.toUInt64 63)).toInt64)
    (h17 : x17 = ((x - (x3 &&& 6148914691236517205)).toUInt64 >>> ((J 2).toInt64.toUInt64 &&& Int64.toUInt64 63)).toInt64)
    (h27 : x27 = ((((x - (x3 &&& 6148914691236517205)) &&& 3689348814741910323) + (x17 &&& 3689348814741910323)).toUInt64 >>> ((J 4).toInt64.toUInt64 &&& Int64.toUInt64 63)).toInt64)
    (h38 : x38 = (((((x - (x3 &&& 6148914691236517205)) &&& 3689348814741910323) + (x17 &&& 3689348814741910323) + x27) &&& 1085102592571150095).toUInt64 >>> ((J 8).toInt64.toUInt64 &&& Int64.toUInt64 63)).toInt64)
    (h45 : x45 = ((((((x - (x3 &&& 6148914691236517205)) &&& 3689348814741910323) + (x17 &&& 3689348814741910323) + x27) &&& 1085102592571150095) + x38).toUInt64 >>> ((J 16).toInt64.toUInt64 &&& Int64.toUInt64 63)).toInt64)
    (h52 : x52 = (((((((x - (x3 &&& 6148914691236517205)) &&& 3689348814741910323) + (x17 &&& 3689348814741910323) + x27) &&& 1085102592571150095) + x38) + x45).toUInt64 >>> ((J 32).toInt64.toUInt64 &&& Int64.toUInt64 63)).toInt64) :
    nx9 ((((((x - (x3 &&& 6148914691236517205)) &&& 3689348814741910323) + (x17 &&& 3689348814741910323) + x27) &&& 1085102592571150095) + x38) + x45 + x52) % 128 = pc9 (nx9 x) := by
  have k1 : nx9 x3 = nx9 x / 2 := by rw [h3]; exact nx9_shr (k := 1) (by decide)
  have m1 : nx9 (6148914691236517205 : Int64) = M1 := rfl
  have m2 : nx9 (3689348814741910323 : Int64) = M2 := rfl
  have m4 : nx9 (1085102592571150095 : Int64) = M4 := rfl
  obtain ⟨a, ea⟩ : ∃ a, a = x - (x3 &&& 6148914691236517205) := ⟨_, rfl⟩
  rw [← ea] at h17 h27 h38 h45 h52 ⊢
  have k17 : nx9 x17 = nx9 a / 4 := by rw [h17]; exact nx9_shr (k := 2) (by decide)
  obtain ⟨c, ec⟩ : ∃ c, c = (a &&& 3689348814741910323) + (x17 &&& 3689348814741910323) := ⟨_, rfl⟩
  rw [← ec] at h27 h38 h45 h52 ⊢
  have k27 : nx9 x27 = nx9 c / 16 := by rw [h27]; exact nx9_shr (k := 4) (by decide)
  obtain ⟨d, ed⟩ : ∃ d, d = (c + x27) &&& 1085102592571150095 := ⟨_, rfl⟩
  rw [← ed] at h38 h45 h52 ⊢
  have k38 : nx9 x38 = nx9 d / 256 := by rw [h38]; exact nx9_shr (k := 8) (by decide)
  obtain ⟨e, ee⟩ : ∃ e, e = d + x38 := ⟨_, rfl⟩
  rw [← ee] at h45 h52 ⊢
  have k45 : nx9 x45 = nx9 e / 65536 := by rw [h45]; exact nx9_shr (k := 16) (by decide)
  obtain ⟨f, ef⟩ : ∃ f, f = e + x45 := ⟨_, rfl⟩
  rw [← ef] at h52 ⊢
  have k52 : nx9 x52 = nx9 f / 4294967296 := by rw [h52]; exact nx9_shr (k := 32) (by decide)
  have P := pop_9 (N := nx9 x) (a := nx9 x - ((nx9 x / 2) &&& M1)) nx9_lt rfl rfl rfl rfl rfl rfl
  obtain ⟨⟨b1, b2, b3, b4, b5, b6⟩, b7⟩ := P
  have n1 : nx9 a = nx9 x - ((nx9 x / 2) &&& M1) := by
    rw [ea, nx9_sub (by rw [nx9_and, k1, m1]; exact b1), nx9_and, k1, m1]
  rw [← n1] at b2 b3 b4 b5 b6 b7
  have n2 : nx9 c = (nx9 a &&& M2) + ((nx9 a / 4) &&& M2) := by
    rw [ec, nx9_add (by rw [nx9_and, nx9_and, k17, m2]; exact b2), nx9_and, nx9_and, k17, m2]
  rw [← n2] at b3 b4 b5 b6 b7
  have n3 : nx9 d = (nx9 c + nx9 c / 16) &&& M4 := by
    rw [ed, nx9_and, nx9_add (by rw [k27]; exact b3), k27, m4]
  rw [← n3] at b4 b5 b6 b7
  have n4 : nx9 e = nx9 d + nx9 d / 256 := by rw [ee, nx9_add (by rw [k38]; exact b4), k38]
  rw [← n4] at b5 b6 b7
  have n5 : nx9 f = nx9 e + nx9 e / 65536 := by rw [ef, nx9_add (by rw [k45]; exact b5), k45]
  rw [← n5] at b6 b7
  rw [nx9_add (by rw [k52]; exact b6), k52]
  exact b7
theorem pc9_b (N : Nat) : pc9 N ≤ 64 := by
  have : ∀ (n : Nat) (v : Nat → Nat), (∀ k, v k ≤ 1) → dg 1 n v ≤ n := by
    intro n
    induction n with
    | zero => intro v _; exact Nat.le_refl 0
    | succ n ih =>
      intro v h
      have h0 := h 0
      have q := ih (fun k => v (k + 1)) (fun k => h (k + 1))
      show v 0 + 1 * dg 1 n (fun k => v (k + 1)) ≤ n + 1
      omega
  exact this 64 _ (bt_b N)


set_option maxHeartbeats 4000000 in
set_option maxRecDepth 100000 in
theorem c_J13_bitCount3 (l : Launch) (D : JD) (x : Int64) : Met l yJ13_bitCount_95d88 (jw yJ13_bitCount_95d88 cJ13_bitCount_95d88 2 (some .int)) (jr 0 0) (jP [.long x] D (fun _ => True)) (jRi (fun z => z = ((pc9 (nx9 x) : Nat) : Int) ∧ 0 ≤ z ∧ z ≤ 64)) 0 0 (fun _ => False) := by
  refine Met_ofWF (cc := cJ13_bitCount_95d88) (maxL := 2) (ret := (some .int)) (by decide +kernel) rfl ?_
  intro pr en st mi args below meth co s₁ B hml hv
  obtain ⟨rfl, hG, hP⟩ := hv
  have hr := B.returns
  have hlk := B.notSynchronized
  have SS : jS pr mi co cJ13_bitCount_95d88 2 st _ RJ13 := ⟨B.exec, B.bytes, hml, findClass_of_methodNamed B.named, fun w hw => atoms_spec (ws := (jw yJ13_bitCount_95d88 cJ13_bitCount_95d88 2 (some .int))) B.pre w (List.mem_cons_of_mem _ hw)⟩
  have hl := lv_entry ([.long x]) (n := 2) (Nat.le_of_ble_eq_true rfl)
  rw [lg_entry_eq]
  generalize (lg_sl ([.long x]) ++ List.replicate (2 - (lg_sl ([.long x])).length) Slot.unset).toArray = ls at hl ⊢
  have hl : lv_has ls 2 [(0, .long x)] := hl
  refine lv_lload_n SS.1 SS.2.1 dJ13_bitCount_95d88_0 rfl (lv_at hl 0 rfl) ?_
  refine lv_lload_n SS.1 SS.2.1 dJ13_bitCount_95d88_1 rfl (lv_at hl 0 rfl) ?_
  refine j_iconst SS dJ13_bitCount_95d88_2 ?_
  refine lv_lushr SS.1 SS.2.1 dJ13_bitCount_95d88_3 rfl (lv_topl (fun x_3 ex_3 => ?_))
  refine lv_ldc2 SS.1 SS.2.1 SS.2.2.2.1 (SS.2.2.2.2 _ kw_1029) dJ13_bitCount_95d88_4 ?_
  refine lv_land SS.1 SS.2.1 dJ13_bitCount_95d88_7 ?_
  refine lv_lsub SS.1 SS.2.1 dJ13_bitCount_95d88_8 ?_
  refine lv_lstore_n (lv' := [(0, .long (x - (x_3 &&& (6148914691236517205))))]) SS.1 SS.2.1 dJ13_bitCount_95d88_9 rfl hl (by decide) rfl (fun ls hl => ?_)
  refine lv_lload_n SS.1 SS.2.1 dJ13_bitCount_95d88_10 rfl (lv_at hl 0 rfl) ?_
  refine lv_ldc2 SS.1 SS.2.1 SS.2.2.2.1 (SS.2.2.2.2 _ kw_1030) dJ13_bitCount_95d88_11 ?_
  refine lv_land SS.1 SS.2.1 dJ13_bitCount_95d88_14 ?_
  refine lv_lload_n SS.1 SS.2.1 dJ13_bitCount_95d88_15 rfl (lv_at hl 0 rfl) ?_
  refine j_iconst SS dJ13_bitCount_95d88_16 ?_
  refine lv_lushr SS.1 SS.2.1 dJ13_bitCount_95d88_17 rfl (lv_topl (fun x_17 ex_17 => ?_))
  refine lv_ldc2 SS.1 SS.2.1 SS.2.2.2.1 (SS.2.2.2.2 _ kw_1030) dJ13_bitCount_95d88_18 ?_
  refine lv_land SS.1 SS.2.1 dJ13_bitCount_95d88_21 ?_
  refine lv_ladd SS.1 SS.2.1 dJ13_bitCount_95d88_22 ?_
  refine lv_lstore_n (lv' := [(0, .long (((x - (x_3 &&& (6148914691236517205))) &&& (3689348814741910323)) + (x_17 &&& (3689348814741910323))))]) SS.1 SS.2.1 dJ13_bitCount_95d88_23 rfl hl (by decide) rfl (fun ls hl => ?_)
  refine lv_lload_n SS.1 SS.2.1 dJ13_bitCount_95d88_24 rfl (lv_at hl 0 rfl) ?_
  refine lv_lload_n SS.1 SS.2.1 dJ13_bitCount_95d88_25 rfl (lv_at hl 0 rfl) ?_
  refine j_iconst SS dJ13_bitCount_95d88_26 ?_
  refine lv_lushr SS.1 SS.2.1 dJ13_bitCount_95d88_27 rfl (lv_topl (fun x_27 ex_27 => ?_))
  refine lv_ladd SS.1 SS.2.1 dJ13_bitCount_95d88_28 ?_
  refine lv_ldc2 SS.1 SS.2.1 SS.2.2.2.1 (SS.2.2.2.2 _ kw_1031) dJ13_bitCount_95d88_29 ?_
  refine lv_land SS.1 SS.2.1 dJ13_bitCount_95d88_32 ?_
  refine lv_lstore_n (lv' := [(0, .long (((((x - (x_3 &&& (6148914691236517205))) &&& (3689348814741910323)) + (x_17 &&& (3689348814741910323))) + x_27) &&& (1085102592571150095)))]) SS.1 SS.2.1 dJ13_bitCount_95d88_33 rfl hl (by decide) rfl (fun ls hl => ?_)
  refine lv_lload_n SS.1 SS.2.1 dJ13_bitCount_95d88_34 rfl (lv_at hl 0 rfl) ?_
  refine lv_lload_n SS.1 SS.2.1 dJ13_bitCount_95d88_35 rfl (lv_at hl 0 rfl) ?_
  refine j_bipush SS dJ13_bitCount_95d88_36 (by decide +kernel) ?_
  refine lv_lushr SS.1 SS.2.1 dJ13_bitCount_95d88_38 rfl (lv_topl (fun x_38 ex_38 => ?_))
  refine lv_ladd SS.1 SS.2.1 dJ13_bitCount_95d88_39 ?_
  refine lv_lstore_n (lv' := [(0, .long ((((((x - (x_3 &&& (6148914691236517205))) &&& (3689348814741910323)) + (x_17 &&& (3689348814741910323))) + x_27) &&& (1085102592571150095)) + x_38))]) SS.1 SS.2.1 dJ13_bitCount_95d88_40 rfl hl (by decide) rfl (fun ls hl => ?_)
  refine lv_lload_n SS.1 SS.2.1 dJ13_bitCount_95d88_41 rfl (lv_at hl 0 rfl) ?_
  refine lv_lload_n SS.1 SS.2.1 dJ13_bitCount_95d88_42 rfl (lv_at hl 0 rfl) ?_
  refine j_bipush SS dJ13_bitCount_95d88_43 (by decide +kernel) ?_
  refine lv_lushr SS.1 SS.2.1 dJ13_bitCount_95d88_45 rfl (lv_topl (fun x_45 ex_45 => ?_))
  refine lv_ladd SS.1 SS.2.1 dJ13_bitCount_95d88_46 ?_
  refine lv_lstore_n (lv' := [(0, .long (((((((x - (x_3 &&& (6148914691236517205))) &&& (3689348814741910323)) + (x_17 &&& (3689348814741910323))) + x_27) &&& (1085102592571150095)) + x_38) + x_45))]) SS.1 SS.2.1 dJ13_bitCount_95d88_47 rfl hl (by decide) rfl (fun ls hl => ?_)
  refine lv_lload_n SS.1 SS.2.1 dJ13_bitCount_95d88_48 rfl (lv_at hl 0 rfl) ?_
  refine lv_lload_n SS.1 SS.2.1 dJ13_bitCount_95d88_49 rfl (lv_at hl 0 rfl) ?_
  refine j_bipush SS dJ13_bitCount_95d88_50 (by decide +kernel) ?_
  refine lv_lushr SS.1 SS.2.1 dJ13_bitCount_95d88_52 rfl (lv_topl (fun x_52 ex_52 => ?_))
  refine lv_ladd SS.1 SS.2.1 dJ13_bitCount_95d88_53 ?_
  refine lv_lstore_n (lv' := [(0, .long ((((((((x - (x_3 &&& (6148914691236517205))) &&& (3689348814741910323)) + (x_17 &&& (3689348814741910323))) + x_27) &&& (1085102592571150095)) + x_38) + x_45) + x_52))]) SS.1 SS.2.1 dJ13_bitCount_95d88_54 rfl hl (by decide) rfl (fun ls hl => ?_)
  refine lv_lload_n SS.1 SS.2.1 dJ13_bitCount_95d88_55 rfl (lv_at hl 0 rfl) ?_
  refine lv_l2i SS.1 SS.2.1 dJ13_bitCount_95d88_56 rfl ?_
  rw [J_of (Int64.toInt32 _)]
  have r_56 := J_rng (Int64.toInt32 ((((((((x - (x_3 &&& (6148914691236517205))) &&& (3689348814741910323)) + (x_17 &&& (3689348814741910323))) + x_27) &&& (1085102592571150095)) + x_38) + x_45) + x_52))
  refine j_bipush SS dJ13_bitCount_95d88_57 (by decide +kernel) ?_
  refine lv_iand SS.1 SS.2.1 dJ13_bitCount_95d88_59 ?_
  rw [J_of (J ((Int64.toInt32 ((((((((x - (x_3 &&& (6148914691236517205))) &&& (3689348814741910323)) + (x_17 &&& (3689348814741910323))) + x_27) &&& (1085102592571150095)) + x_38) + x_45) + x_52)).toInt) &&& J 127)]
  have x_59 := J_a127 (J ((Int64.toInt32 ((((((((x - (x_3 &&& (6148914691236517205))) &&& (3689348814741910323)) + (x_17 &&& (3689348814741910323))) + x_27) &&& (1085102592571150095)) + x_38) + x_45) + x_52)).toInt))
  exact W.iret SS.1 SS.2.1 hr (fun t0 ht hW => ⟨_, rfl, ⟨(J ((Int64.toInt32 ((((((((x - (x_3 &&& (6148914691236517205))) &&& (3689348814741910323)) + (x_17 &&& (3689348814741910323))) + x_27) &&& (1085102592571150095)) + x_38) + x_45) + x_52)).toInt) &&& J 127).toInt, rfl, (by have w9 := bc_9 ex_3 ex_17 ex_27 ex_38 ex_45 ex_52; have w8 := pc9_b (nx9 x); rw [nx9_127, w9]; exact ⟨rfl, by omega, by omega⟩)⟩, ht⟩) (fun _ h => nomatch h) dJ13_bitCount_95d88_60 hlk


/-! stamps -/
theorem J_in9 {a b : Int} (ha : -2147483648 ≤ a ∧ a ≤ 2147483647) (hb : -2147483648 ≤ b ∧ b ≤ 2147483647) (e : J a = J b) : a = b := by
  have q := congrArg Int32.toInt e
  rw [J_toInt ha, J_toInt hb] at q
  exact q
def sSam (u u' : CS) : Prop := u'.2.2.2 0 = u.2.2.2 0 ∧ ∀ r : Nat, r < 8 → u'.1.2.2.2.2 r = u.1.2.2.2.2 r
def sNew (u u' : CS) (t : Nat) : Prop := u'.2.2.2 0 = u.2.2.2 0 + 1 ∧ u'.1.2.2.2.2 t = u.2.2.2 0 + 1 ∧ ∀ r : Nat, r < 8 → r ≠ t → u'.1.2.2.2.2 r = u.1.2.2.2.2 r
def sRel (u u' : CS) (t : Nat) (z : Int) : Prop := u.2.2.2 0 < 2147483647 → (z < 0 → sSam u u') ∧ (0 ≤ z → sNew u u' t)
theorem ss_refl {u : CS} : sSam u u := ⟨rfl, fun _ _ => rfl⟩
theorem sRel_n {u u' : CS} {t : Nat} {z : Int} (h : sSam u u') (hz : z < 0) : sRel u u' t z := fun _ => ⟨fun _ => h, fun q => by omega⟩
theorem sRel_k {u u' : CS} {i : Nat} {z tt st0 : Int} (e0 : u'.2.2.2 0 = st0) (e : ∀ r : Nat, u'.1.2.2.2.2 r = if r = i then tt else u.1.2.2.2.2 r) (h : (z = -3 ∧ tt = u.1.2.2.2.2 i ∧ st0 = u.2.2.2 0) ∨ (0 ≤ z ∧ (u.2.2.2 0 < 2147483647 → tt = u.2.2.2 0 + 1 ∧ st0 = u.2.2.2 0 + 1))) : sRel u u' i z := fun q => by
  refine ⟨fun hz => ?_, fun hz => ?_⟩
  · rcases h with ⟨_, h1, h2⟩ | ⟨h, _⟩
    · refine ⟨by rw [e0, h2], fun r _ => ?_⟩
      rw [e, h1]
      by_cases w : r = i
      · rw [if_pos w, w]
      · rw [if_neg w]
    · omega
  · rcases h with ⟨h, _⟩ | ⟨_, h⟩
    · omega
    · obtain ⟨h1, h2⟩ := h q
      exact ⟨by rw [e0, h2], by rw [e, if_pos rfl, h1], fun r _ hne => by rw [e, if_neg hne]⟩
/-- stamps tell shapes apart: no more than k of them were given -/
def STP9 (u : CS) (k : Int) : Prop := (0 ≤ u.2.2.2 0 ∧ u.2.2.2 0 ≤ k) ∧ (∀ r : Nat, r < 8 → 0 ≤ u.1.2.2.2.2 r ∧ u.1.2.2.2.2 r ≤ u.2.2.2 0) ∧ ∀ r r' : Nat, r < 8 → r' < 8 → r ≠ r' → u.1.2.2.2.2 r = u.1.2.2.2.2 r' → u.1.2.2.2.2 r = 0
theorem STP9_s {u u' : CS} {k k' : Int} (h : STP9 u k) (hk : k ≤ k') (hs : sSam u u') : STP9 u' k' := by
  refine ⟨by rw [hs.1]; have := h.1; omega, fun r hr => by rw [hs.1, hs.2 r hr]; exact h.2.1 r hr, fun r r' hr hr' hne e => ?_⟩
  rw [hs.2 r hr] at e ⊢
  rw [hs.2 r' hr'] at e
  exact h.2.2 r r' hr hr' hne e
theorem STP9_n {u u' : CS} {k k' : Int} {t : Nat} (h : STP9 u k) (hk : k + 1 ≤ k') (hs : sNew u u' t) : STP9 u' k' := by
  obtain ⟨n0, n1, n2⟩ := hs
  obtain ⟨⟨a1, a2⟩, a3, a4⟩ := h
  refine ⟨by omega, fun r hr => ?_, fun r r' hr hr' hne e => ?_⟩
  · by_cases w : r = t
    · rw [w, n1, n0]; omega
    · have := a3 r hr; rw [n2 r hr w, n0]; omega
  · by_cases w : r = t
    · have q := a3 r' hr'
      rw [w, n1, n2 r' hr' (by omega)] at e
      omega
    · by_cases w' : r' = t
      · have q := a3 r hr
        rw [w', n1, n2 r hr w] at e
        omega
      · rw [n2 r hr w] at e ⊢
        rw [n2 r' hr' w'] at e
        exact a4 r r' hr hr' hne e


set_option maxHeartbeats 4000000 in
set_option maxRecDepth 100000 in
theorem c_X11_newStampS (l : Launch) (D : JD) (q : Nat → Nat) (u : CS) (A : Nat → Prop) (hD : va_D A (cW D q u)) : Met l yX11_newStamp (jw yX11_newStamp cX11_newStamp 1 (some .int)) (jr 0 0) (jP [.ref (q 0)] D (fun H => va_P D.1 j_cl (cW D q u) H)) (jWi (fun z u' => ∃ t : Int, u' = (sV u 0 t) ∧ (z = t ∧ (-2147483648 ≤ t ∧ t ≤ 2147483647) ∧ (-2147483648 ≤ u.2.2.2 0 → u.2.2.2 0 < 2147483647 → t = u.2.2.2 0 + 1))) (fun u' H => va_P D.1 j_cl (cW D q u') H) A) 0 0 A := by
  refine Met.ofW (cc := cX11_newStamp) (maxL := 1) (ret := (some .int)) (by decide) rfl ?_
  intro pr en st mi args below meth co s₁ B hml hv
  obtain ⟨rfl, hG, hP⟩ := hv
  have hr := B.returns
  have hlk := B.notSynchronized
  have SS : jS pr mi co cX11_newStamp 1 st _ RX11 := ⟨B.exec, B.bytes, hml, findClass_of_methodNamed B.named, fun w hw => atoms_spec (ws := (jw yX11_newStamp cX11_newStamp 1 (some .int))) B.pre w (List.mem_cons_of_mem _ hw)⟩
  have hl := lv_entry ([.ref (q 0)]) (n := 1) (Nat.le_of_ble_eq_true rfl)
  rw [lg_entry_eq]
  generalize (lg_sl ([.ref (q 0)]) ++ List.replicate (1 - (lg_sl ([.ref (q 0)])).length) Slot.unset).toArray = ls at hl ⊢
  have hl : lv_has ls 1 [(0, .ref (q 0))] := hl
  have hS : va_S A st.heap st.heap [] := va_S.rf
  refine lv_aload_n SS.1 SS.2.1 dX11_newStamp_0 rfl (lv_at hl 0 rfl) ?_
  refine lv_dup SS.1 SS.2.1 dX11_newStamp_1 rfl ?_
  refine j_get SS hG hP 0 (v := .int (J (u.2.2.2 0))) (C := RX11) (T := TX11) (N := 8) rfl rfl inX11 7 (by decide) (ref := "GridPolygons") kw_392 rfl rfl dX11_newStamp_2 ?_
  refine j_iconst SS dX11_newStamp_5 ?_
  refine j_iadd SS (x := (u.2.2.2 0)) (y := 1) dX11_newStamp_6 ?_
  obtain ⟨nst, ew_6, rw_6⟩ := J_wr ((u.2.2.2 0) + 1)
  rw [ew_6]
  refine j_put SS hG hP (cW_D hD) hS 0 (v := .int (J nst)) (ty := .int) (C := RX11) (T := TX11) (N := 8) rfl rfl inX11 tyX11 tyX11_ok nmX11 7 (by decide) (ref := "GridPolygons") kw_392 rfl rfl (by decide +kernel) rfl rfl (Nat.le_of_ble_eq_true rfl) dX11_newStamp_7 (ws' := (cW D q (sV u 0 nst))) rfl (fun H locs hP hS => ?_)
  refine lv_aload_n SS.1 SS.2.1 dX11_newStamp_10 rfl (lv_at hl 0 rfl) ?_
  refine j_get SS hG hP 0 (v := .int (J nst)) (C := RX11) (T := TX11) (N := 8) rfl rfl inX11 7 (by decide) (ref := "GridPolygons") kw_392 rfl rfl dX11_newStamp_11 ?_
  exact W.iret SS.1 SS.2.1 hr (fun t0 ht hW => ⟨⟨_, (sV u 0 nst), rfl, ⟨nst, rfl, (⟨nst, rfl, ⟨rfl, ⟨rw_6.1, rw_6.2⟩, fun q1 q2 => (J_in9 (by omega) rw_6 ew_6).symm⟩⟩)⟩, by show va_P D.1 j_cl (cW D q (sV u 0 nst)) t0.heap; rw [ht]; first | exact hP | (simp only [sC_id, sX_id, sY_id, sH_id, sT_id, sV_id]; exact hP)⟩, hS.F ht⟩) hS.2.2 dX11_newStamp_14 hlk

set_option maxHeartbeats 4000000 in
set_option maxRecDepth 100000 in
theorem c_X11_remakeS_0 (l : Launch) (D : JD) (q : Nat → Nat) (u : CS) (A : Nat → Prop) (hD : va_D A (cW D q u)) (p0 : CI u) (p1 : u.1.2.2.1 8 ≤ 24) (p2 : bd 40 (u.1.1 8) (u.1.2.1 8) (u.1.2.2.1 8)) : Met l yX11_remake (jw yX11_remake cX11_remake 3 none) (jr 1 23) (jP [.ref (q 0), .ref (q (8 + 5 * 0))] D (fun H => va_P D.1 j_cl (cW D q u) H)) (jWv (fun u' => ∃ n : Int, ∃ f : Nat → Int, ∃ g : Nat → Int, ∃ hh : Nat → Int, ∃ tt : Int, ∃ st0 : Int, u' = (sY (sX (sV (sT (sH (sC u 0 n) 0 hh) 0 tt) 0 st0) 0 f) 0 g) ∧ (((CI u' ∧ n = u.1.2.2.1 8 ∧ ∀ j : Nat, (j : Int) < n → f j = u.1.1 8 j ∧ g j = u.1.2.1 8 j) ∧ ∀ a : Nat, a < 40 → hh a = 0) ∧ (u.2.2.2 0 < 2147483647 → tt = u.2.2.2 0 + 1 ∧ st0 = u.2.2.2 0 + 1))) (fun u' H => va_P D.1 j_cl (cW D q u') H) A) 0 0 A := by
  refine Met.ofW (cc := cX11_remake) (maxL := 3) (ret := none) (by decide) rfl ?_
  intro pr en st mi args below meth co s₁ B hml hv
  obtain ⟨rfl, hG, hP⟩ := hv
  have hr := B.returns
  have hlk := B.notSynchronized
  have SS : jS pr mi co cX11_remake 3 st _ RX11 := ⟨B.exec, B.bytes, hml, findClass_of_methodNamed B.named, fun w hw => atoms_spec (ws := (jw yX11_remake cX11_remake 3 none)) B.pre w (List.mem_cons_of_mem _ hw)⟩
  have hl := lv_entry ([.ref (q 0), .ref (q (8 + 5 * 0))]) (n := 3) (Nat.le_of_ble_eq_true rfl)
  rw [lg_entry_eq]
  generalize (lg_sl ([.ref (q 0), .ref (q (8 + 5 * 0))]) ++ List.replicate (3 - (lg_sl ([.ref (q 0), .ref (q (8 + 5 * 0))])).length) Slot.unset).toArray = ls at hl ⊢
  have hl : lv_has ls 3 [(0, .ref (q 0)), (1, .ref (q (8 + 5 * 0)))] := hl
  have hS : va_S A st.heap st.heap [] := va_S.rf
  have hR8 : RB 80 u 8 := p0.2.1.1
  have hRk := CI_40 p0 (show 0 < 8 by omega)
  have hc8 := hR8.1
  have hr8 := rl8
  rw [rl8] at hc8
  have hrk : (rl 0 : Int) = 24 := rfl
  have hHk := (p0.1 0 (by omega)).2.1
  refine lv_aload_n SS.1 SS.2.1 dX11_remake_0 rfl (lv_at hl 1 rfl) ?_
  refine j_get SS hG hP (8 + 5 * 0) (v := .ref (q (9 + 5 * 0))) (C := RX10) (T := TX10) (N := 3) (cw_shape (by omega)) rfl inX10 0 (by decide) (ref := "GridPolygons$Shape") kw_151 rfl rfl dX11_remake_1 ?_
  refine j_iconst SS dX11_remake_4 ?_
  refine j_putS SS hG hP (cW_D hD) hS (9 + 5 * 0) (v := .int (J 0)) (ty := .int) (C := RX7) (T := TX7) (N := 3) (cw_ring (by omega)) rfl inX7 tyX7 tyX7_ok nmX7 2 (by decide) (ref := "GridPolygons$Ring") kw_135 kw_132 rfl (by decide +kernel) rfl rfl (Nat.le_of_ble_eq_true rfl) dX11_remake_5 (ws' := (cW D q (sC u 0 0))) (cs_ring (by omega)) (fun H locs hP hS => ?_)
  refine j_iconst SS dX11_remake_8 ?_
  refine lv_istore_n (lv' := [(2, .int (J 0)), (0, .ref (q 0)), (1, .ref (q (8 + 5 * 0)))]) SS.1 SS.2.1 dX11_remake_9 rfl hl (by decide) rfl (fun ls hl => ?_)
  have L_10 : ∀ (nn : Nat) (i : Int) (n1 : Int) (f1 : Nat → Int) (g1 : Nat → Int) (H : Heap) (locs : List Loc) (hP : va_P D.1 j_cl (cW D q (sY (sX (sC u 0 n1) 0 f1) 0 g1)) H) (hS : va_S A st.heap H locs) (ls : Array Slot) (hl : lv_has ls 3 [(0, .ref (q 0)), (1, .ref (q (8 + 5 * 0))), (2, .int (J i))]) (i10_0 : (0 ≤ i ∧ i ≤ u.1.2.2.1 8) ∧ n1 = i) (i10_1 : RV 40 f1 g1) (i10_2 : ∀ j : Nat, (j : Int) < i → f1 j = u.1.1 8 j ∧ g1 j = u.1.2.1 8 j), (u.1.2.2.1 8 - i).toNat < nn → W pr l en (headSpec (jw yX11_remake cX11_remake 3 none) (jr 1 23)).room st mi (([.ref (q 0), .ref (q (8 + 5 * 0))] : List Value).toArray) below meth co H locs 0 0 (MQ below (jWv (fun u' => ∃ n : Int, ∃ f : Nat → Int, ∃ g : Nat → Int, ∃ hh : Nat → Int, ∃ tt : Int, ∃ st0 : Int, u' = (sY (sX (sV (sT (sH (sC u 0 n) 0 hh) 0 tt) 0 st0) 0 f) 0 g) ∧ (((CI u' ∧ n = u.1.2.2.1 8 ∧ ∀ j : Nat, (j : Int) < n → f j = u.1.1 8 j ∧ g j = u.1.2.1 8 j) ∧ ∀ a : Nat, a < 40 → hh a = 0) ∧ (u.2.2.2 0 < 2147483647 → tt = u.2.2.2 0 + 1 ∧ st0 = u.2.2.2 0 + 1))) (fun u' H => va_P D.1 j_cl (cW D q u') H) A) (([.ref (q 0), .ref (q (8 + 5 * 0))] : List Value).toArray) st 0 0 A) (F0 mi 10 ls []) := by
    intro nn
    induction nn with
    | zero => intros; omega
    | succ nn ih_10 =>
      intro i n1 f1 g1 H locs hP hS ls hl i10_0 i10_1 i10_2 hm
      refine lv_iload_n SS.1 SS.2.1 dX11_remake_10 rfl (lv_at hl 2 rfl) ?_
      refine lv_aload_n SS.1 SS.2.1 dX11_remake_11 rfl (lv_at hl 0 rfl) ?_
      refine j_get SS hG hP 0 (v := .ref (q 2)) (C := RX11) (T := TX11) (N := 8) rfl rfl inX11 1 (by decide) (ref := "GridPolygons") kw_386 rfl rfl dX11_remake_12 ?_
      refine j_get SS hG hP 2 (v := .ref (q (9 + 5 * 8))) (C := RX3) (T := TX3) (N := 3) rfl rfl inX3 2 (by decide) (ref := "GridPolygons$Hull") kw_180 rfl rfl dX11_remake_15 ?_
      refine j_getS SS hG hP (9 + 5 * 8) (v := .int (J (u.1.2.2.1 8))) (C := RX7) (T := TX7) (N := 3) (cw_ring (by omega)) rfl inX7 2 (by decide) (ref := "GridPolygons$Ring") kw_135 kw_132 rfl dX11_remake_18 ?_
      refine j_icmp_ge SS (tgt := 59) (x := i) (y := (u.1.2.2.1 8)) dX11_remake_21 (by decide) (by omega) (by omega) (fun c_21 => ?_) (fun c_21 => ?_)
      · skip
        refine lv_aload_n SS.1 SS.2.1 dX11_remake_59 rfl (lv_at hl 1 rfl) ?_
        refine j_get SS hG hP (8 + 5 * 0) (v := .ref (q (12 + 5 * 0))) (C := RX10) (T := TX10) (N := 3) (cw_shape (by omega)) rfl inX10 1 (by decide) (ref := "GridPolygons$Shape") kw_157 rfl rfl dX11_remake_60 ?_
        refine j_iconst SS dX11_remake_63 ?_
        refine j_sWv SS (As := [.ref (q (12 + 5 * 0)), .int (J 0)]) (rest := []) (c_J7_fill_53178 l D (ws := (cW D q (sY (sX (sC u 0 n1) 0 f1) 0 g1))) (A := A) (cW_D hD) (12 + 5 * 0) (0 : Int) (cw_hts (by omega)) (by first | decide | omega)) mf_J7_fill_53178 kw_466 hG hP hS (fun _ h => h) rfl hl.1 ⟨⟨Nat.le_of_ble_eq_true rfl, Nat.le_of_ble_eq_true rfl⟩, Nat.le_of_ble_eq_true rfl, Nat.le_refl _, Nat.le_refl _⟩ rfl dX11_remake_64 (fun _ H locs _ hP _ hS => ?_)
        have hP : va_P D.1 j_cl (cW D q (sY (sX (sH (sC u 0 n1) 0 (jf (u.1.2.2.2.1 0) (0 : Int) 40)) 0 f1) 0 g1)) H := Eq.mp (congrArg (fun w => va_P D.1 j_cl w H) (cs_hts (by omega))) hP
        refine lv_aload_n SS.1 SS.2.1 dX11_remake_67 rfl (lv_at hl 1 rfl) ?_
        refine lv_aload_n SS.1 SS.2.1 dX11_remake_68 rfl (lv_at hl 0 rfl) ?_
        refine j_vWi SS (As := []) (rest := [.ref (q (8 + 5 * 0))]) (c_X11_newStampS l D q (sY (sX (sH (sC u 0 n1) 0 (jf (u.1.2.2.2.1 0) (0 : Int) 40)) 0 f1) 0 g1) A (cW_D hD)   ) mf_X11_newStamp kw_467 hG hP hP (ci := 11) (q0 := 0) rfl rfl rfl hS (fun _ h => h) rfl hl.1 ⟨⟨Nat.le_of_ble_eq_true rfl, Nat.le_of_ble_eq_true rfl⟩, Nat.le_of_ble_eq_true rfl, Nat.le_refl _, Nat.le_refl _⟩ rfl dX11_remake_69 (fun z_69 u69 H locs h_69 hP _ hS => ?_)
        obtain ⟨t_69, rfl, h_69⟩ := h_69
        have hP : va_P D.1 j_cl (cW D q (sY (sX (sV (sH (sC u 0 n1) 0 (jf (u.1.2.2.2.1 0) (0 : Int) 40)) 0 t_69) 0 f1) 0 g1)) H := hP
        have h_69 : z_69 = t_69 ∧ (-2147483648 ≤ t_69 ∧ t_69 ≤ 2147483647) ∧ (-2147483648 ≤ (u.2.2.2 0) → (u.2.2.2 0) < 2147483647 → t_69 = (u.2.2.2 0) + 1) := h_69
        have hv0 := p0.2.2.2.1.1
        refine j_put SS hG hP (cW_D hD) hS (8 + 5 * 0) (v := .int (J z_69)) (ty := .int) (C := RX10) (T := TX10) (N := 3) (cw_shape (by omega)) rfl inX10 tyX10 tyX10_ok nmX10 2 (by decide) (ref := "GridPolygons$Shape") kw_161 rfl rfl (by decide +kernel) rfl rfl (Nat.le_of_ble_eq_true rfl) dX11_remake_72 (ws' := (cW D q (sY (sX (sV (sT (sH (sC u 0 n1) 0 (jf (u.1.2.2.2.1 0) (0 : Int) 40)) 0 z_69) 0 t_69) 0 f1) 0 g1))) (cs_shape (by omega)) (fun H locs hP hS => ?_)
        exact W.vret SS.1 SS.2.1 hr (fun t0 ht hW => ⟨⟨(sY (sX (sV (sT (sH (sC u 0 n1) 0 (jf (u.1.2.2.2.1 0) (0 : Int) 40)) 0 z_69) 0 t_69) 0 f1) 0 g1), rfl, (⟨n1, f1, g1, (jf (u.1.2.2.2.1 0) (0 : Int) 40), z_69, t_69, rfl, ⟨⟨⟨CI_sh p0 (by omega) (by omega) i10_1 (HB_f hHk) (by omega) (by omega), by omega, fun j hj => i10_2 j (by omega)⟩, fun a ha => by unfold jf; exact if_pos ha⟩, fun q => ⟨h_69.1.trans (h_69.2.2 hv0 q), h_69.2.2 hv0 q⟩⟩⟩), by show va_P D.1 j_cl (cW D q (sY (sX (sV (sT (sH (sC u 0 n1) 0 (jf (u.1.2.2.2.1 0) (0 : Int) 40)) 0 z_69) 0 t_69) 0 f1) 0 g1)) t0.heap; rw [ht]; first | exact hP | (simp only [sC_id, sX_id, sY_id, sH_id, sT_id, sV_id]; exact hP)⟩, hS.F ht⟩) hS.2.2 dX11_remake_75 hlk
      · skip
        refine lv_aload_n SS.1 SS.2.1 dX11_remake_24 rfl (lv_at hl 1 rfl) ?_
        refine j_get SS hG hP (8 + 5 * 0) (v := .ref (q (9 + 5 * 0))) (C := RX10) (T := TX10) (N := 3) (cw_shape (by omega)) rfl inX10 0 (by decide) (ref := "GridPolygons$Shape") kw_151 rfl rfl dX11_remake_25 ?_
        refine lv_aload_n SS.1 SS.2.1 dX11_remake_28 rfl (lv_at hl 0 rfl) ?_
        refine j_get SS hG hP 0 (v := .ref (q 2)) (C := RX11) (T := TX11) (N := 8) rfl rfl inX11 1 (by decide) (ref := "GridPolygons") kw_386 rfl rfl dX11_remake_29 ?_
        refine j_get SS hG hP 2 (v := .ref (q (9 + 5 * 8))) (C := RX3) (T := TX3) (N := 3) rfl rfl inX3 2 (by decide) (ref := "GridPolygons$Hull") kw_180 rfl rfl dX11_remake_32 ?_
        refine lv_iload_n SS.1 SS.2.1 dX11_remake_35 rfl (lv_at hl 2 rfl) ?_
        refine j_uRi SS (As := [.int (J i)]) (rest := [.ref (q (9 + 5 * 0))]) (c_X8_x l D q (sY (sX (sC u 0 n1) 0 f1) 0 g1) 8 (by omega) i (show -2147483648 ≤ i ∧ i ≤ 2147483647 from (by omega))) mu_7_x kw_463 hG hP hP (ci := 7) (q0 := (9 + 5 * 8)) rfl (cw_ring (by omega)) rfl rfl hl.1 ⟨⟨Nat.le_of_ble_eq_true rfl, Nat.le_of_ble_eq_true rfl⟩, Nat.le_of_ble_eq_true rfl, Nat.le_refl _, Nat.le_refl _⟩ rfl dX11_remake_36 (fun z_36 h_36 => ?_)
        have h_36 : z_36 = rx (sY (sX (sC u 0 n1) 0 f1) 0 g1) 8 i ∧ ∀ K : Int, 0 ≤ K → RB K (sY (sX (sC u 0 n1) 0 f1) 0 g1) 8 → -K ≤ z_36 ∧ z_36 ≤ K := h_36
        have hb_36 := h_36.2 80 (by omega) (hR8)
        have ex36 : z_36 = u.1.1 8 i.toNat := by rw [h_36.1]; exact if_pos (by rw [rl8]; omega)
        have hq := bd_at p2 (z := i) (by omega) (by omega)
        refine lv_aload_n SS.1 SS.2.1 dX11_remake_39 rfl (lv_at hl 0 rfl) ?_
        refine j_get SS hG hP 0 (v := .ref (q 2)) (C := RX11) (T := TX11) (N := 8) rfl rfl inX11 1 (by decide) (ref := "GridPolygons") kw_386 rfl rfl dX11_remake_40 ?_
        refine j_get SS hG hP 2 (v := .ref (q (9 + 5 * 8))) (C := RX3) (T := TX3) (N := 3) rfl rfl inX3 2 (by decide) (ref := "GridPolygons$Hull") kw_180 rfl rfl dX11_remake_43 ?_
        refine lv_iload_n SS.1 SS.2.1 dX11_remake_46 rfl (lv_at hl 2 rfl) ?_
        refine j_uRi SS (As := [.int (J i)]) (rest := [.int (J z_36), .ref (q (9 + 5 * 0))]) (c_X8_y l D q (sY (sX (sC u 0 n1) 0 f1) 0 g1) 8 (by omega) i (show -2147483648 ≤ i ∧ i ≤ 2147483647 from (by omega))) mu_7_y kw_464 hG hP hP (ci := 7) (q0 := (9 + 5 * 8)) rfl (cw_ring (by omega)) rfl rfl hl.1 ⟨⟨Nat.le_of_ble_eq_true rfl, Nat.le_of_ble_eq_true rfl⟩, Nat.le_of_ble_eq_true rfl, Nat.le_refl _, Nat.le_refl _⟩ rfl dX11_remake_47 (fun z_47 h_47 => ?_)
        have h_47 : z_47 = ry9 (sY (sX (sC u 0 n1) 0 f1) 0 g1) 8 i ∧ ∀ K : Int, 0 ≤ K → RB K (sY (sX (sC u 0 n1) 0 f1) 0 g1) 8 → -K ≤ z_47 ∧ z_47 ≤ K := h_47
        have hb_47 := h_47.2 80 (by omega) (hR8)
        have ex47 : z_47 = u.1.2.1 8 i.toNat := by rw [h_47.1]; exact if_pos (by rw [rl8]; omega)
        refine j_uWv SS (As := [.int (J z_36), .int (J z_47)]) (rest := []) (c_X8_append l D q (sY (sX (sC u 0 n1) 0 f1) 0 g1) A (cW_D hD) 0 (by omega) z_36 z_47 (show 0 ≤ n1 ∧ n1 ≤ rl 0 from (by omega))) mu_7_append kw_465 hG hP hP (ci := 7) (q0 := (9 + 5 * 0)) rfl (cw_ring (by omega)) rfl hS (fun _ h => h) rfl hl.1 ⟨⟨Nat.le_of_ble_eq_true rfl, Nat.le_of_ble_eq_true rfl⟩, Nat.le_of_ble_eq_true rfl, Nat.le_refl _, Nat.le_refl _⟩ rfl dX11_remake_50 (fun u50 H locs h_50 hP _ hS => ?_)
        obtain ⟨f_50, g_50, n_50, rfl, h_50⟩ := h_50
        have hP : va_P D.1 j_cl (cW D q (sY (sX (sC u 0 n_50) 0 f_50) 0 g_50)) H := hP
        have h_50 : (n1 < rl 0 ∧ f_50 = upI (f1) (n1).toNat z_36 ∧ g_50 = upI (g1) (n1).toNat z_47 ∧ n_50 = n1 + 1) ∨ (rl 0 ≤ n1 ∧ f_50 = f1 ∧ g_50 = g1 ∧ n_50 = n1) := h_50
        refine lv_iinc (v := J (i + 1)) (lv' := [(2, .int (J (i + 1))), (0, .ref (q 0)), (1, .ref (q (8 + 5 * 0)))]) SS.1 SS.2.1 dX11_remake_53 hl (k := 2) rfl (J_add _ _) (by decide) rfl (fun ls hl => ?_)
        refine lv_goto (tgt := 10) SS.1 SS.2.1 dX11_remake_56 (by decide) ?_
        exact ih_10 (i + 1) n_50 f_50 g_50 _ _ hP hS ls (lv_sub hl [1, 2, 0] rfl) (by rcases h_50 with q | q; omega; omega) ((ap_b (m := 24) (n0 := n1) (x := z_36) (y := z_47) i10_1 (by omega) (by omega) (by omega) (by rw [hrk] at h_50; exact h_50)).2) (fun j hj => by rcases h_50 with ⟨q0, q1, q2, q3⟩ | q; (rw [q1, q2]; by_cases e : (j : Int) = i; (rw [show j = n1.toNat by omega, upI_s, upI_s, ex36, ex47]; rw [show i.toNat = n1.toNat by omega]; exact ⟨rfl, rfl⟩); (rw [upI_n (by omega), upI_n (by omega)]; exact i10_2 j (by omega))); omega) (by omega)
  exact L_10 ((u.1.2.2.1 8 - (0 : Int)).toNat + 1) 0 0 (u.1.1 0) (u.1.2.1 0) _ _ hP hS ls (lv_sub hl [1, 2, 0] rfl) (by omega) (hRk.2) (fun j hj => by omega) (Nat.lt_succ_self _)

set_option maxHeartbeats 4000000 in
set_option maxRecDepth 100000 in
theorem c_X11_remakeS_1 (l : Launch) (D : JD) (q : Nat → Nat) (u : CS) (A : Nat → Prop) (hD : va_D A (cW D q u)) (p0 : CI u) (p1 : u.1.2.2.1 8 ≤ 24) (p2 : bd 40 (u.1.1 8) (u.1.2.1 8) (u.1.2.2.1 8)) : Met l yX11_remake (jw yX11_remake cX11_remake 3 none) (jr 1 23) (jP [.ref (q 0), .ref (q (8 + 5 * 1))] D (fun H => va_P D.1 j_cl (cW D q u) H)) (jWv (fun u' => ∃ n : Int, ∃ f : Nat → Int, ∃ g : Nat → Int, ∃ hh : Nat → Int, ∃ tt : Int, ∃ st0 : Int, u' = (sY (sX (sV (sT (sH (sC u 1 n) 1 hh) 1 tt) 0 st0) 1 f) 1 g) ∧ (((CI u' ∧ n = u.1.2.2.1 8 ∧ ∀ j : Nat, (j : Int) < n → f j = u.1.1 8 j ∧ g j = u.1.2.1 8 j) ∧ ∀ a : Nat, a < 40 → hh a = 0) ∧ (u.2.2.2 0 < 2147483647 → tt = u.2.2.2 0 + 1 ∧ st0 = u.2.2.2 0 + 1))) (fun u' H => va_P D.1 j_cl (cW D q u') H) A) 0 0 A := by
  refine Met.ofW (cc := cX11_remake) (maxL := 3) (ret := none) (by decide) rfl ?_
  intro pr en st mi args below meth co s₁ B hml hv
  obtain ⟨rfl, hG, hP⟩ := hv
  have hr := B.returns
  have hlk := B.notSynchronized
  have SS : jS pr mi co cX11_remake 3 st _ RX11 := ⟨B.exec, B.bytes, hml, findClass_of_methodNamed B.named, fun w hw => atoms_spec (ws := (jw yX11_remake cX11_remake 3 none)) B.pre w (List.mem_cons_of_mem _ hw)⟩
  have hl := lv_entry ([.ref (q 0), .ref (q (8 + 5 * 1))]) (n := 3) (Nat.le_of_ble_eq_true rfl)
  rw [lg_entry_eq]
  generalize (lg_sl ([.ref (q 0), .ref (q (8 + 5 * 1))]) ++ List.replicate (3 - (lg_sl ([.ref (q 0), .ref (q (8 + 5 * 1))])).length) Slot.unset).toArray = ls at hl ⊢
  have hl : lv_has ls 3 [(0, .ref (q 0)), (1, .ref (q (8 + 5 * 1)))] := hl
  have hS : va_S A st.heap st.heap [] := va_S.rf
  have hR8 : RB 80 u 8 := p0.2.1.1
  have hRk := CI_40 p0 (show 1 < 8 by omega)
  have hc8 := hR8.1
  have hr8 := rl8
  rw [rl8] at hc8
  have hrk : (rl 1 : Int) = 24 := rfl
  have hHk := (p0.1 1 (by omega)).2.1
  refine lv_aload_n SS.1 SS.2.1 dX11_remake_0 rfl (lv_at hl 1 rfl) ?_
  refine j_get SS hG hP (8 + 5 * 1) (v := .ref (q (9 + 5 * 1))) (C := RX10) (T := TX10) (N := 3) (cw_shape (by omega)) rfl inX10 0 (by decide) (ref := "GridPolygons$Shape") kw_151 rfl rfl dX11_remake_1 ?_
  refine j_iconst SS dX11_remake_4 ?_
  refine j_putS SS hG hP (cW_D hD) hS (9 + 5 * 1) (v := .int (J 0)) (ty := .int) (C := RX7) (T := TX7) (N := 3) (cw_ring (by omega)) rfl inX7 tyX7 tyX7_ok nmX7 2 (by decide) (ref := "GridPolygons$Ring") kw_135 kw_132 rfl (by decide +kernel) rfl rfl (Nat.le_of_ble_eq_true rfl) dX11_remake_5 (ws' := (cW D q (sC u 1 0))) (cs_ring (by omega)) (fun H locs hP hS => ?_)
  refine j_iconst SS dX11_remake_8 ?_
  refine lv_istore_n (lv' := [(2, .int (J 0)), (0, .ref (q 0)), (1, .ref (q (8 + 5 * 1)))]) SS.1 SS.2.1 dX11_remake_9 rfl hl (by decide) rfl (fun ls hl => ?_)
  have L_10 : ∀ (nn : Nat) (i : Int) (n1 : Int) (f1 : Nat → Int) (g1 : Nat → Int) (H : Heap) (locs : List Loc) (hP : va_P D.1 j_cl (cW D q (sY (sX (sC u 1 n1) 1 f1) 1 g1)) H) (hS : va_S A st.heap H locs) (ls : Array Slot) (hl : lv_has ls 3 [(0, .ref (q 0)), (1, .ref (q (8 + 5 * 1))), (2, .int (J i))]) (i10_0 : (0 ≤ i ∧ i ≤ u.1.2.2.1 8) ∧ n1 = i) (i10_1 : RV 40 f1 g1) (i10_2 : ∀ j : Nat, (j : Int) < i → f1 j = u.1.1 8 j ∧ g1 j = u.1.2.1 8 j), (u.1.2.2.1 8 - i).toNat < nn → W pr l en (headSpec (jw yX11_remake cX11_remake 3 none) (jr 1 23)).room st mi (([.ref (q 0), .ref (q (8 + 5 * 1))] : List Value).toArray) below meth co H locs 0 0 (MQ below (jWv (fun u' => ∃ n : Int, ∃ f : Nat → Int, ∃ g : Nat → Int, ∃ hh : Nat → Int, ∃ tt : Int, ∃ st0 : Int, u' = (sY (sX (sV (sT (sH (sC u 1 n) 1 hh) 1 tt) 0 st0) 1 f) 1 g) ∧ (((CI u' ∧ n = u.1.2.2.1 8 ∧ ∀ j : Nat, (j : Int) < n → f j = u.1.1 8 j ∧ g j = u.1.2.1 8 j) ∧ ∀ a : Nat, a < 40 → hh a = 0) ∧ (u.2.2.2 0 < 2147483647 → tt = u.2.2.2 0 + 1 ∧ st0 = u.2.2.2 0 + 1))) (fun u' H => va_P D.1 j_cl (cW D q u') H) A) (([.ref (q 0), .ref (q (8 + 5 * 1))] : List Value).toArray) st 0 0 A) (F0 mi 10 ls []) := by
    intro nn
    induction nn with
    | zero => intros; omega
    | succ nn ih_10 =>
      intro i n1 f1 g1 H locs hP hS ls hl i10_0 i10_1 i10_2 hm
      refine lv_iload_n SS.1 SS.2.1 dX11_remake_10 rfl (lv_at hl 2 rfl) ?_
      refine lv_aload_n SS.1 SS.2.1 dX11_remake_11 rfl (lv_at hl 0 rfl) ?_
      refine j_get SS hG hP 0 (v := .ref (q 2)) (C := RX11) (T := TX11) (N := 8) rfl rfl inX11 1 (by decide) (ref := "GridPolygons") kw_386 rfl rfl dX11_remake_12 ?_
      refine j_get SS hG hP 2 (v := .ref (q (9 + 5 * 8))) (C := RX3) (T := TX3) (N := 3) rfl rfl inX3 2 (by decide) (ref := "GridPolygons$Hull") kw_180 rfl rfl dX11_remake_15 ?_
      refine j_getS SS hG hP (9 + 5 * 8) (v := .int (J (u.1.2.2.1 8))) (C := RX7) (T := TX7) (N := 3) (cw_ring (by omega)) rfl inX7 2 (by decide) (ref := "GridPolygons$Ring") kw_135 kw_132 rfl dX11_remake_18 ?_
      refine j_icmp_ge SS (tgt := 59) (x := i) (y := (u.1.2.2.1 8)) dX11_remake_21 (by decide) (by omega) (by omega) (fun c_21 => ?_) (fun c_21 => ?_)
      · skip
        refine lv_aload_n SS.1 SS.2.1 dX11_remake_59 rfl (lv_at hl 1 rfl) ?_
        refine j_get SS hG hP (8 + 5 * 1) (v := .ref (q (12 + 5 * 1))) (C := RX10) (T := TX10) (N := 3) (cw_shape (by omega)) rfl inX10 1 (by decide) (ref := "GridPolygons$Shape") kw_157 rfl rfl dX11_remake_60 ?_
        refine j_iconst SS dX11_remake_63 ?_
        refine j_sWv SS (As := [.ref (q (12 + 5 * 1)), .int (J 0)]) (rest := []) (c_J7_fill_53178 l D (ws := (cW D q (sY (sX (sC u 1 n1) 1 f1) 1 g1))) (A := A) (cW_D hD) (12 + 5 * 1) (0 : Int) (cw_hts (by omega)) (by first | decide | omega)) mf_J7_fill_53178 kw_466 hG hP hS (fun _ h => h) rfl hl.1 ⟨⟨Nat.le_of_ble_eq_true rfl, Nat.le_of_ble_eq_true rfl⟩, Nat.le_of_ble_eq_true rfl, Nat.le_refl _, Nat.le_refl _⟩ rfl dX11_remake_64 (fun _ H locs _ hP _ hS => ?_)
        have hP : va_P D.1 j_cl (cW D q (sY (sX (sH (sC u 1 n1) 1 (jf (u.1.2.2.2.1 1) (0 : Int) 40)) 1 f1) 1 g1)) H := Eq.mp (congrArg (fun w => va_P D.1 j_cl w H) (cs_hts (by omega))) hP
        refine lv_aload_n SS.1 SS.2.1 dX11_remake_67 rfl (lv_at hl 1 rfl) ?_
        refine lv_aload_n SS.1 SS.2.1 dX11_remake_68 rfl (lv_at hl 0 rfl) ?_
        refine j_vWi SS (As := []) (rest := [.ref (q (8 + 5 * 1))]) (c_X11_newStampS l D q (sY (sX (sH (sC u 1 n1) 1 (jf (u.1.2.2.2.1 1) (0 : Int) 40)) 1 f1) 1 g1) A (cW_D hD)   ) mf_X11_newStamp kw_467 hG hP hP (ci := 11) (q0 := 0) rfl rfl rfl hS (fun _ h => h) rfl hl.1 ⟨⟨Nat.le_of_ble_eq_true rfl, Nat.le_of_ble_eq_true rfl⟩, Nat.le_of_ble_eq_true rfl, Nat.le_refl _, Nat.le_refl _⟩ rfl dX11_remake_69 (fun z_69 u69 H locs h_69 hP _ hS => ?_)
        obtain ⟨t_69, rfl, h_69⟩ := h_69
        have hP : va_P D.1 j_cl (cW D q (sY (sX (sV (sH (sC u 1 n1) 1 (jf (u.1.2.2.2.1 1) (0 : Int) 40)) 0 t_69) 1 f1) 1 g1)) H := hP
        have h_69 : z_69 = t_69 ∧ (-2147483648 ≤ t_69 ∧ t_69 ≤ 2147483647) ∧ (-2147483648 ≤ (u.2.2.2 0) → (u.2.2.2 0) < 2147483647 → t_69 = (u.2.2.2 0) + 1) := h_69
        have hv0 := p0.2.2.2.1.1
        refine j_put SS hG hP (cW_D hD) hS (8 + 5 * 1) (v := .int (J z_69)) (ty := .int) (C := RX10) (T := TX10) (N := 3) (cw_shape (by omega)) rfl inX10 tyX10 tyX10_ok nmX10 2 (by decide) (ref := "GridPolygons$Shape") kw_161 rfl rfl (by decide +kernel) rfl rfl (Nat.le_of_ble_eq_true rfl) dX11_remake_72 (ws' := (cW D q (sY (sX (sV (sT (sH (sC u 1 n1) 1 (jf (u.1.2.2.2.1 1) (0 : Int) 40)) 1 z_69) 0 t_69) 1 f1) 1 g1))) (cs_shape (by omega)) (fun H locs hP hS => ?_)
        exact W.vret SS.1 SS.2.1 hr (fun t0 ht hW => ⟨⟨(sY (sX (sV (sT (sH (sC u 1 n1) 1 (jf (u.1.2.2.2.1 1) (0 : Int) 40)) 1 z_69) 0 t_69) 1 f1) 1 g1), rfl, (⟨n1, f1, g1, (jf (u.1.2.2.2.1 1) (0 : Int) 40), z_69, t_69, rfl, ⟨⟨⟨CI_sh p0 (by omega) (by omega) i10_1 (HB_f hHk) (by omega) (by omega), by omega, fun j hj => i10_2 j (by omega)⟩, fun a ha => by unfold jf; exact if_pos ha⟩, fun q => ⟨h_69.1.trans (h_69.2.2 hv0 q), h_69.2.2 hv0 q⟩⟩⟩), by show va_P D.1 j_cl (cW D q (sY (sX (sV (sT (sH (sC u 1 n1) 1 (jf (u.1.2.2.2.1 1) (0 : Int) 40)) 1 z_69) 0 t_69) 1 f1) 1 g1)) t0.heap; rw [ht]; first | exact hP | (simp only [sC_id, sX_id, sY_id, sH_id, sT_id, sV_id]; exact hP)⟩, hS.F ht⟩) hS.2.2 dX11_remake_75 hlk
      · skip
        refine lv_aload_n SS.1 SS.2.1 dX11_remake_24 rfl (lv_at hl 1 rfl) ?_
        refine j_get SS hG hP (8 + 5 * 1) (v := .ref (q (9 + 5 * 1))) (C := RX10) (T := TX10) (N := 3) (cw_shape (by omega)) rfl inX10 0 (by decide) (ref := "GridPolygons$Shape") kw_151 rfl rfl dX11_remake_25 ?_
        refine lv_aload_n SS.1 SS.2.1 dX11_remake_28 rfl (lv_at hl 0 rfl) ?_
        refine j_get SS hG hP 0 (v := .ref (q 2)) (C := RX11) (T := TX11) (N := 8) rfl rfl inX11 1 (by decide) (ref := "GridPolygons") kw_386 rfl rfl dX11_remake_29 ?_
        refine j_get SS hG hP 2 (v := .ref (q (9 + 5 * 8))) (C := RX3) (T := TX3) (N := 3) rfl rfl inX3 2 (by decide) (ref := "GridPolygons$Hull") kw_180 rfl rfl dX11_remake_32 ?_
        refine lv_iload_n SS.1 SS.2.1 dX11_remake_35 rfl (lv_at hl 2 rfl) ?_
        refine j_uRi SS (As := [.int (J i)]) (rest := [.ref (q (9 + 5 * 1))]) (c_X8_x l D q (sY (sX (sC u 1 n1) 1 f1) 1 g1) 8 (by omega) i (show -2147483648 ≤ i ∧ i ≤ 2147483647 from (by omega))) mu_7_x kw_463 hG hP hP (ci := 7) (q0 := (9 + 5 * 8)) rfl (cw_ring (by omega)) rfl rfl hl.1 ⟨⟨Nat.le_of_ble_eq_true rfl, Nat.le_of_ble_eq_true rfl⟩, Nat.le_of_ble_eq_true rfl, Nat.le_refl _, Nat.le_refl _⟩ rfl dX11_remake_36 (fun z_36 h_36 => ?_)
        have h_36 : z_36 = rx (sY (sX (sC u 1 n1) 1 f1) 1 g1) 8 i ∧ ∀ K : Int, 0 ≤ K → RB K (sY (sX (sC u 1 n1) 1 f1) 1 g1) 8 → -K ≤ z_36 ∧ z_36 ≤ K := h_36
        have hb_36 := h_36.2 80 (by omega) (hR8)
        have ex36 : z_36 = u.1.1 8 i.toNat := by rw [h_36.1]; exact if_pos (by rw [rl8]; omega)
        have hq := bd_at p2 (z := i) (by omega) (by omega)
        refine lv_aload_n SS.1 SS.2.1 dX11_remake_39 rfl (lv_at hl 0 rfl) ?_
        refine j_get SS hG hP 0 (v := .ref (q 2)) (C := RX11) (T := TX11) (N := 8) rfl rfl inX11 1 (by decide) (ref := "GridPolygons") kw_386 rfl rfl dX11_remake_40 ?_
        refine j_get SS hG hP 2 (v := .ref (q (9 + 5 * 8))) (C := RX3) (T := TX3) (N := 3) rfl rfl inX3 2 (by decide) (ref := "GridPolygons$Hull") kw_180 rfl rfl dX11_remake_43 ?_
        refine lv_iload_n SS.1 SS.2.1 dX11_remake_46 rfl (lv_at hl 2 rfl) ?_
        refine j_uRi SS (As := [.int (J i)]) (rest := [.int (J z_36), .ref (q (9 + 5 * 1))]) (c_X8_y l D q (sY (sX (sC u 1 n1) 1 f1) 1 g1) 8 (by omega) i (show -2147483648 ≤ i ∧ i ≤ 2147483647 from (by omega))) mu_7_y kw_464 hG hP hP (ci := 7) (q0 := (9 + 5 * 8)) rfl (cw_ring (by omega)) rfl rfl hl.1 ⟨⟨Nat.le_of_ble_eq_true rfl, Nat.le_of_ble_eq_true rfl⟩, Nat.le_of_ble_eq_true rfl, Nat.le_refl _, Nat.le_refl _⟩ rfl dX11_remake_47 (fun z_47 h_47 => ?_)
        have h_47 : z_47 = ry9 (sY (sX (sC u 1 n1) 1 f1) 1 g1) 8 i ∧ ∀ K : Int, 0 ≤ K → RB K (sY (sX (sC u 1 n1) 1 f1) 1 g1) 8 → -K ≤ z_47 ∧ z_47 ≤ K := h_47
        have hb_47 := h_47.2 80 (by omega) (hR8)
        have ex47 : z_47 = u.1.2.1 8 i.toNat := by rw [h_47.1]; exact if_pos (by rw [rl8]; omega)
        refine j_uWv SS (As := [.int (J z_36), .int (J z_47)]) (rest := []) (c_X8_append l D q (sY (sX (sC u 1 n1) 1 f1) 1 g1) A (cW_D hD) 1 (by omega) z_36 z_47 (show 0 ≤ n1 ∧ n1 ≤ rl 1 from (by omega))) mu_7_append kw_465 hG hP hP (ci := 7) (q0 := (9 + 5 * 1)) rfl (cw_ring (by omega)) rfl hS (fun _ h => h) rfl hl.1 ⟨⟨Nat.le_of_ble_eq_true rfl, Nat.le_of_ble_eq_true rfl⟩, Nat.le_of_ble_eq_true rfl, Nat.le_refl _, Nat.le_refl _⟩ rfl dX11_remake_50 (fun u50 H locs h_50 hP _ hS => ?_)
        obtain ⟨f_50, g_50, n_50, rfl, h_50⟩ := h_50
        have hP : va_P D.1 j_cl (cW D q (sY (sX (sC u 1 n_50) 1 f_50) 1 g_50)) H := hP
        have h_50 : (n1 < rl 1 ∧ f_50 = upI (f1) (n1).toNat z_36 ∧ g_50 = upI (g1) (n1).toNat z_47 ∧ n_50 = n1 + 1) ∨ (rl 1 ≤ n1 ∧ f_50 = f1 ∧ g_50 = g1 ∧ n_50 = n1) := h_50
        refine lv_iinc (v := J (i + 1)) (lv' := [(2, .int (J (i + 1))), (0, .ref (q 0)), (1, .ref (q (8 + 5 * 1)))]) SS.1 SS.2.1 dX11_remake_53 hl (k := 2) rfl (J_add _ _) (by decide) rfl (fun ls hl => ?_)
        refine lv_goto (tgt := 10) SS.1 SS.2.1 dX11_remake_56 (by decide) ?_
        exact ih_10 (i + 1) n_50 f_50 g_50 _ _ hP hS ls (lv_sub hl [1, 2, 0] rfl) (by rcases h_50 with q | q; omega; omega) ((ap_b (m := 24) (n0 := n1) (x := z_36) (y := z_47) i10_1 (by omega) (by omega) (by omega) (by rw [hrk] at h_50; exact h_50)).2) (fun j hj => by rcases h_50 with ⟨q0, q1, q2, q3⟩ | q; (rw [q1, q2]; by_cases e : (j : Int) = i; (rw [show j = n1.toNat by omega, upI_s, upI_s, ex36, ex47]; rw [show i.toNat = n1.toNat by omega]; exact ⟨rfl, rfl⟩); (rw [upI_n (by omega), upI_n (by omega)]; exact i10_2 j (by omega))); omega) (by omega)
  exact L_10 ((u.1.2.2.1 8 - (0 : Int)).toNat + 1) 0 0 (u.1.1 1) (u.1.2.1 1) _ _ hP hS ls (lv_sub hl [1, 2, 0] rfl) (by omega) (hRk.2) (fun j hj => by omega) (Nat.lt_succ_self _)

set_option maxHeartbeats 4000000 in
set_option maxRecDepth 100000 in
theorem c_X11_remakeS_2 (l : Launch) (D : JD) (q : Nat → Nat) (u : CS) (A : Nat → Prop) (hD : va_D A (cW D q u)) (p0 : CI u) (p1 : u.1.2.2.1 8 ≤ 24) (p2 : bd 40 (u.1.1 8) (u.1.2.1 8) (u.1.2.2.1 8)) : Met l yX11_remake (jw yX11_remake cX11_remake 3 none) (jr 1 23) (jP [.ref (q 0), .ref (q (8 + 5 * 2))] D (fun H => va_P D.1 j_cl (cW D q u) H)) (jWv (fun u' => ∃ n : Int, ∃ f : Nat → Int, ∃ g : Nat → Int, ∃ hh : Nat → Int, ∃ tt : Int, ∃ st0 : Int, u' = (sY (sX (sV (sT (sH (sC u 2 n) 2 hh) 2 tt) 0 st0) 2 f) 2 g) ∧ (((CI u' ∧ n = u.1.2.2.1 8 ∧ ∀ j : Nat, (j : Int) < n → f j = u.1.1 8 j ∧ g j = u.1.2.1 8 j) ∧ ∀ a : Nat, a < 40 → hh a = 0) ∧ (u.2.2.2 0 < 2147483647 → tt = u.2.2.2 0 + 1 ∧ st0 = u.2.2.2 0 + 1))) (fun u' H => va_P D.1 j_cl (cW D q u') H) A) 0 0 A := by
  refine Met.ofW (cc := cX11_remake) (maxL := 3) (ret := none) (by decide) rfl ?_
  intro pr en st mi args below meth co s₁ B hml hv
  obtain ⟨rfl, hG, hP⟩ := hv
  have hr := B.returns
  have hlk := B.notSynchronized
  have SS : jS pr mi co cX11_remake 3 st _ RX11 := ⟨B.exec, B.bytes, hml, findClass_of_methodNamed B.named, fun w hw => atoms_spec (ws := (jw yX11_remake cX11_remake 3 none)) B.pre w (List.mem_cons_of_mem _ hw)⟩
  have hl := lv_entry ([.ref (q 0), .ref (q (8 + 5 * 2))]) (n := 3) (Nat.le_of_ble_eq_true rfl)
  rw [lg_entry_eq]
  generalize (lg_sl ([.ref (q 0), .ref (q (8 + 5 * 2))]) ++ List.replicate (3 - (lg_sl ([.ref (q 0), .ref (q (8 + 5 * 2))])).length) Slot.unset).toArray = ls at hl ⊢
  have hl : lv_has ls 3 [(0, .ref (q 0)), (1, .ref (q (8 + 5 * 2)))] := hl
  have hS : va_S A st.heap st.heap [] := va_S.rf
  have hR8 : RB 80 u 8 := p0.2.1.1
  have hRk := CI_40 p0 (show 2 < 8 by omega)
  have hc8 := hR8.1
  have hr8 := rl8
  rw [rl8] at hc8
  have hrk : (rl 2 : Int) = 24 := rfl
  have hHk := (p0.1 2 (by omega)).2.1
  refine lv_aload_n SS.1 SS.2.1 dX11_remake_0 rfl (lv_at hl 1 rfl) ?_
  refine j_get SS hG hP (8 + 5 * 2) (v := .ref (q (9 + 5 * 2))) (C := RX10) (T := TX10) (N := 3) (cw_shape (by omega)) rfl inX10 0 (by decide) (ref := "GridPolygons$Shape") kw_151 rfl rfl dX11_remake_1 ?_
  refine j_iconst SS dX11_remake_4 ?_
  refine j_putS SS hG hP (cW_D hD) hS (9 + 5 * 2) (v := .int (J 0)) (ty := .int) (C := RX7) (T := TX7) (N := 3) (cw_ring (by omega)) rfl inX7 tyX7 tyX7_ok nmX7 2 (by decide) (ref := "GridPolygons$Ring") kw_135 kw_132 rfl (by decide +kernel) rfl rfl (Nat.le_of_ble_eq_true rfl) dX11_remake_5 (ws' := (cW D q (sC u 2 0))) (cs_ring (by omega)) (fun H locs hP hS => ?_)
  refine j_iconst SS dX11_remake_8 ?_
  refine lv_istore_n (lv' := [(2, .int (J 0)), (0, .ref (q 0)), (1, .ref (q (8 + 5 * 2)))]) SS.1 SS.2.1 dX11_remake_9 rfl hl (by decide) rfl (fun ls hl => ?_)
  have L_10 : ∀ (nn : Nat) (i : Int) (n1 : Int) (f1 : Nat → Int) (g1 : Nat → Int) (H : Heap) (locs : List Loc) (hP : va_P D.1 j_cl (cW D q (sY (sX (sC u 2 n1) 2 f1) 2 g1)) H) (hS : va_S A st.heap H locs) (ls : Array Slot) (hl : lv_has ls 3 [(0, .ref (q 0)), (1, .ref (q (8 + 5 * 2))), (2, .int (J i))]) (i10_0 : (0 ≤ i ∧ i ≤ u.1.2.2.1 8) ∧ n1 = i) (i10_1 : RV 40 f1 g1) (i10_2 : ∀ j : Nat, (j : Int) < i → f1 j = u.1.1 8 j ∧ g1 j = u.1.2.1 8 j), (u.1.2.2.1 8 - i).toNat < nn → W pr l en (headSpec (jw yX11_remake cX11_remake 3 none) (jr 1 23)).room st mi (([.ref (q 0), .ref (q (8 + 5 * 2))] : List Value).toArray) below meth co H locs 0 0 (MQ below (jWv (fun u' => ∃ n : Int, ∃ f : Nat → Int, ∃ g : Nat → Int, ∃ hh : Nat → Int, ∃ tt : Int, ∃ st0 : Int, u' = (sY (sX (sV (sT (sH (sC u 2 n) 2 hh) 2 tt) 0 st0) 2 f) 2 g) ∧ (((CI u' ∧ n = u.1.2.2.1 8 ∧ ∀ j : Nat, (j : Int) < n → f j = u.1.1 8 j ∧ g j = u.1.2.1 8 j) ∧ ∀ a : Nat, a < 40 → hh a = 0) ∧ (u.2.2.2 0 < 2147483647 → tt = u.2.2.2 0 + 1 ∧ st0 = u.2.2.2 0 + 1))) (fun u' H => va_P D.1 j_cl (cW D q u') H) A) (([.ref (q 0), .ref (q (8 + 5 * 2))] : List Value).toArray) st 0 0 A) (F0 mi 10 ls []) := by
    intro nn
    induction nn with
    | zero => intros; omega
    | succ nn ih_10 =>
      intro i n1 f1 g1 H locs hP hS ls hl i10_0 i10_1 i10_2 hm
      refine lv_iload_n SS.1 SS.2.1 dX11_remake_10 rfl (lv_at hl 2 rfl) ?_
      refine lv_aload_n SS.1 SS.2.1 dX11_remake_11 rfl (lv_at hl 0 rfl) ?_
      refine j_get SS hG hP 0 (v := .ref (q 2)) (C := RX11) (T := TX11) (N := 8) rfl rfl inX11 1 (by decide) (ref := "GridPolygons") kw_386 rfl rfl dX11_remake_12 ?_
      refine j_get SS hG hP 2 (v := .ref (q (9 + 5 * 8))) (C := RX3) (T := TX3) (N := 3) rfl rfl inX3 2 (by decide) (ref := "GridPolygons$Hull") kw_180 rfl rfl dX11_remake_15 ?_
      refine j_getS SS hG hP (9 + 5 * 8) (v := .int (J (u.1.2.2.1 8))) (C := RX7) (T := TX7) (N := 3) (cw_ring (by omega)) rfl inX7 2 (by decide) (ref := "GridPolygons$Ring") kw_135 kw_132 rfl dX11_remake_18 ?_
      refine j_icmp_ge SS (tgt := 59) (x := i) (y := (u.1.2.2.1 8)) dX11_remake_21 (by decide) (by omega) (by omega) (fun c_21 => ?_) (fun c_21 => ?_)
      · skip
        refine lv_aload_n SS.1 SS.2.1 dX11_remake_59 rfl (lv_at hl 1 rfl) ?_
        refine j_get SS hG hP (8 + 5 * 2) (v := .ref (q (12 + 5 * 2))) (C := RX10) (T := TX10) (N := 3) (cw_shape (by omega)) rfl inX10 1 (by decide) (ref := "GridPolygons$Shape") kw_157 rfl rfl dX11_remake_60 ?_
        refine j_iconst SS dX11_remake_63 ?_
        refine j_sWv SS (As := [.ref (q (12 + 5 * 2)), .int (J 0)]) (rest := []) (c_J7_fill_53178 l D (ws := (cW D q (sY (sX (sC u 2 n1) 2 f1) 2 g1))) (A := A) (cW_D hD) (12 + 5 * 2) (0 : Int) (cw_hts (by omega)) (by first | decide | omega)) mf_J7_fill_53178 kw_466 hG hP hS (fun _ h => h) rfl hl.1 ⟨⟨Nat.le_of_ble_eq_true rfl, Nat.le_of_ble_eq_true rfl⟩, Nat.le_of_ble_eq_true rfl, Nat.le_refl _, Nat.le_refl _⟩ rfl dX11_remake_64 (fun _ H locs _ hP _ hS => ?_)
        have hP : va_P D.1 j_cl (cW D q (sY (sX (sH (sC u 2 n1) 2 (jf (u.1.2.2.2.1 2) (0 : Int) 40)) 2 f1) 2 g1)) H := Eq.mp (congrArg (fun w => va_P D.1 j_cl w H) (cs_hts (by omega))) hP
        refine lv_aload_n SS.1 SS.2.1 dX11_remake_67 rfl (lv_at hl 1 rfl) ?_
        refine lv_aload_n SS.1 SS.2.1 dX11_remake_68 rfl (lv_at hl 0 rfl) ?_
        refine j_vWi SS (As := []) (rest := [.ref (q (8 + 5 * 2))]) (c_X11_newStampS l D q (sY (sX (sH (sC u 2 n1) 2 (jf (u.1.2.2.2.1 2) (0 : Int) 40)) 2 f1) 2 g1) A (cW_D hD)   ) mf_X11_newStamp kw_467 hG hP hP (ci := 11) (q0 := 0) rfl rfl rfl hS (fun _ h => h) rfl hl.1 ⟨⟨Nat.le_of_ble_eq_true rfl, Nat.le_of_ble_eq_true rfl⟩, Nat.le_of_ble_eq_true rfl, Nat.le_refl _, Nat.le_refl _⟩ rfl dX11_remake_69 (fun z_69 u69 H locs h_69 hP _ hS => ?_)
        obtain ⟨t_69, rfl, h_69⟩ := h_69
        have hP : va_P D.1 j_cl (cW D q (sY (sX (sV (sH (sC u 2 n1) 2 (jf (u.1.2.2.2.1 2) (0 : Int) 40)) 0 t_69) 2 f1) 2 g1)) H := hP
        have h_69 : z_69 = t_69 ∧ (-2147483648 ≤ t_69 ∧ t_69 ≤ 2147483647) ∧ (-2147483648 ≤ (u.2.2.2 0) → (u.2.2.2 0) < 2147483647 → t_69 = (u.2.2.2 0) + 1) := h_69
        have hv0 := p0.2.2.2.1.1
        refine j_put SS hG hP (cW_D hD) hS (8 + 5 * 2) (v := .int (J z_69)) (ty := .int) (C := RX10) (T := TX10) (N := 3) (cw_shape (by omega)) rfl inX10 tyX10 tyX10_ok nmX10 2 (by decide) (ref := "GridPolygons$Shape") kw_161 rfl rfl (by decide +kernel) rfl rfl (Nat.le_of_ble_eq_true rfl) dX11_remake_72 (ws' := (cW D q (sY (sX (sV (sT (sH (sC u 2 n1) 2 (jf (u.1.2.2.2.1 2) (0 : Int) 40)) 2 z_69) 0 t_69) 2 f1) 2 g1))) (cs_shape (by omega)) (fun H locs hP hS => ?_)
        exact W.vret SS.1 SS.2.1 hr (fun t0 ht hW => ⟨⟨(sY (sX (sV (sT (sH (sC u 2 n1) 2 (jf (u.1.2.2.2.1 2) (0 : Int) 40)) 2 z_69) 0 t_69) 2 f1) 2 g1), rfl, (⟨n1, f1, g1, (jf (u.1.2.2.2.1 2) (0 : Int) 40), z_69, t_69, rfl, ⟨⟨⟨CI_sh p0 (by omega) (by omega) i10_1 (HB_f hHk) (by omega) (by omega), by omega, fun j hj => i10_2 j (by omega)⟩, fun a ha => by unfold jf; exact if_pos ha⟩, fun q => ⟨h_69.1.trans (h_69.2.2 hv0 q), h_69.2.2 hv0 q⟩⟩⟩), by show va_P D.1 j_cl (cW D q (sY (sX (sV (sT (sH (sC u 2 n1) 2 (jf (u.1.2.2.2.1 2) (0 : Int) 40)) 2 z_69) 0 t_69) 2 f1) 2 g1)) t0.heap; rw [ht]; first | exact hP | (simp only [sC_id, sX_id, sY_id, sH_id, sT_id, sV_id]; exact hP)⟩, hS.F ht⟩) hS.2.2 dX11_remake_75 hlk
      · skip
        refine lv_aload_n SS.1 SS.2.1 dX11_remake_24 rfl (lv_at hl 1 rfl) ?_
        refine j_get SS hG hP (8 + 5 * 2) (v := .ref (q (9 + 5 * 2))) (C := RX10) (T := TX10) (N := 3) (cw_shape (by omega)) rfl inX10 0 (by decide) (ref := "GridPolygons$Shape") kw_151 rfl rfl dX11_remake_25 ?_
        refine lv_aload_n SS.1 SS.2.1 dX11_remake_28 rfl (lv_at hl 0 rfl) ?_
        refine j_get SS hG hP 0 (v := .ref (q 2)) (C := RX11) (T := TX11) (N := 8) rfl rfl inX11 1 (by decide) (ref := "GridPolygons") kw_386 rfl rfl dX11_remake_29 ?_
        refine j_get SS hG hP 2 (v := .ref (q (9 + 5 * 8))) (C := RX3) (T := TX3) (N := 3) rfl rfl inX3 2 (by decide) (ref := "GridPolygons$Hull") kw_180 rfl rfl dX11_remake_32 ?_
        refine lv_iload_n SS.1 SS.2.1 dX11_remake_35 rfl (lv_at hl 2 rfl) ?_
        refine j_uRi SS (As := [.int (J i)]) (rest := [.ref (q (9 + 5 * 2))]) (c_X8_x l D q (sY (sX (sC u 2 n1) 2 f1) 2 g1) 8 (by omega) i (show -2147483648 ≤ i ∧ i ≤ 2147483647 from (by omega))) mu_7_x kw_463 hG hP hP (ci := 7) (q0 := (9 + 5 * 8)) rfl (cw_ring (by omega)) rfl rfl hl.1 ⟨⟨Nat.le_of_ble_eq_true rfl, Nat.le_of_ble_eq_true rfl⟩, Nat.le_of_ble_eq_true rfl, Nat.le_refl _, Nat.le_refl _⟩ rfl dX11_remake_36 (fun z_36 h_36 => ?_)
        have h_36 : z_36 = rx (sY (sX (sC u 2 n1) 2 f1) 2 g1) 8 i ∧ ∀ K : Int, 0 ≤ K → RB K (sY (sX (sC u 2 n1) 2 f1) 2 g1) 8 → -K ≤ z_36 ∧ z_36 ≤ K := h_36
        have hb_36 := h_36.2 80 (by omega) (hR8)
        have ex36 : z_36 = u.1.1 8 i.toNat := by rw [h_36.1]; exact if_pos (by rw [rl8]; omega)
        have hq := bd_at p2 (z := i) (by omega) (by omega)
        refine lv_aload_n SS.1 SS.2.1 dX11_remake_39 rfl (lv_at hl 0 rfl) ?_
        refine j_get SS hG hP 0 (v := .ref (q 2)) (C := RX11) (T := TX11) (N := 8) rfl rfl inX11 1 (by decide) (ref := "GridPolygons") kw_386 rfl rfl dX11_remake_40 ?_
        refine j_get SS hG hP 2 (v := .ref (q (9 + 5 * 8))) (C := RX3) (T := TX3) (N := 3) rfl rfl inX3 2 (by decide) (ref := "GridPolygons$Hull") kw_180 rfl rfl dX11_remake_43 ?_
        refine lv_iload_n SS.1 SS.2.1 dX11_remake_46 rfl (lv_at hl 2 rfl) ?_
        refine j_uRi SS (As := [.int (J i)]) (rest := [.int (J z_36), .ref (q (9 + 5 * 2))]) (c_X8_y l D q (sY (sX (sC u 2 n1) 2 f1) 2 g1) 8 (by omega) i (show -2147483648 ≤ i ∧ i ≤ 2147483647 from (by omega))) mu_7_y kw_464 hG hP hP (ci := 7) (q0 := (9 + 5 * 8)) rfl (cw_ring (by omega)) rfl rfl hl.1 ⟨⟨Nat.le_of_ble_eq_true rfl, Nat.le_of_ble_eq_true rfl⟩, Nat.le_of_ble_eq_true rfl, Nat.le_refl _, Nat.le_refl _⟩ rfl dX11_remake_47 (fun z_47 h_47 => ?_)
        have h_47 : z_47 = ry9 (sY (sX (sC u 2 n1) 2 f1) 2 g1) 8 i ∧ ∀ K : Int, 0 ≤ K → RB K (sY (sX (sC u 2 n1) 2 f1) 2 g1) 8 → -K ≤ z_47 ∧ z_47 ≤ K := h_47
        have hb_47 := h_47.2 80 (by omega) (hR8)
        have ex47 : z_47 = u.1.2.1 8 i.toNat := by rw [h_47.1]; exact if_pos (by rw [rl8]; omega)
        refine j_uWv SS (As := [.int (J z_36), .int (J z_47)]) (rest := []) (c_X8_append l D q (sY (sX (sC u 2 n1) 2 f1) 2 g1) A (cW_D hD) 2 (by omega) z_36 z_47 (show 0 ≤ n1 ∧ n1 ≤ rl 2 from (by omega))) mu_7_append kw_465 hG hP hP (ci := 7) (q0 := (9 + 5 * 2)) rfl (cw_ring (by omega)) rfl hS (fun _ h => h) rfl hl.1 ⟨⟨Nat.le_of_ble_eq_true rfl, Nat.le_of_ble_eq_true rfl⟩, Nat.le_of_ble_eq_true rfl, Nat.le_refl _, Nat.le_refl _⟩ rfl dX11_remake_50 (fun u50 H locs h_50 hP _ hS => ?_)
        obtain ⟨f_50, g_50, n_50, rfl, h_50⟩ := h_50
        have hP : va_P D.1 j_cl (cW D q (sY (sX (sC u 2 n_50) 2 f_50) 2 g_50)) H := hP
        have h_50 : (n1 < rl 2 ∧ f_50 = upI (f1) (n1).toNat z_36 ∧ g_50 = upI (g1) (n1).toNat z_47 ∧ n_50 = n1 + 1) ∨ (rl 2 ≤ n1 ∧ f_50 = f1 ∧ g_50 = g1 ∧ n_50 = n1) := h_50
        refine lv_iinc (v := J (i + 1)) (lv' := [(2, .int (J (i + 1))), (0, .ref (q 0)), (1, .ref (q (8 + 5 * 2)))]) SS.1 SS.2.1 dX11_remake_53 hl (k := 2) rfl (J_add _ _) (by decide) rfl (fun ls hl => ?_)
        refine lv_goto (tgt := 10) SS.1 SS.2.1 dX11_remake_56 (by decide) ?_
        exact ih_10 (i + 1) n_50 f_50 g_50 _ _ hP hS ls (lv_sub hl [1, 2, 0] rfl) (by rcases h_50 with q | q; omega; omega) ((ap_b (m := 24) (n0 := n1) (x := z_36) (y := z_47) i10_1 (by omega) (by omega) (by omega) (by rw [hrk] at h_50; exact h_50)).2) (fun j hj => by rcases h_50 with ⟨q0, q1, q2, q3⟩ | q; (rw [q1, q2]; by_cases e : (j : Int) = i; (rw [show j = n1.toNat by omega, upI_s, upI_s, ex36, ex47]; rw [show i.toNat = n1.toNat by omega]; exact ⟨rfl, rfl⟩); (rw [upI_n (by omega), upI_n (by omega)]; exact i10_2 j (by omega))); omega) (by omega)
  exact L_10 ((u.1.2.2.1 8 - (0 : Int)).toNat + 1) 0 0 (u.1.1 2) (u.1.2.1 2) _ _ hP hS ls (lv_sub hl [1, 2, 0] rfl) (by omega) (hRk.2) (fun j hj => by omega) (Nat.lt_succ_self _)

set_option maxHeartbeats 4000000 in
set_option maxRecDepth 100000 in
theorem c_X11_remakeS_3 (l : Launch) (D : JD) (q : Nat → Nat) (u : CS) (A : Nat → Prop) (hD : va_D A (cW D q u)) (p0 : CI u) (p1 : u.1.2.2.1 8 ≤ 24) (p2 : bd 40 (u.1.1 8) (u.1.2.1 8) (u.1.2.2.1 8)) : Met l yX11_remake (jw yX11_remake cX11_remake 3 none) (jr 1 23) (jP [.ref (q 0), .ref (q (8 + 5 * 3))] D (fun H => va_P D.1 j_cl (cW D q u) H)) (jWv (fun u' => ∃ n : Int, ∃ f : Nat → Int, ∃ g : Nat → Int, ∃ hh : Nat → Int, ∃ tt : Int, ∃ st0 : Int, u' = (sY (sX (sV (sT (sH (sC u 3 n) 3 hh) 3 tt) 0 st0) 3 f) 3 g) ∧ (((CI u' ∧ n = u.1.2.2.1 8 ∧ ∀ j : Nat, (j : Int) < n → f j = u.1.1 8 j ∧ g j = u.1.2.1 8 j) ∧ ∀ a : Nat, a < 40 → hh a = 0) ∧ (u.2.2.2 0 < 2147483647 → tt = u.2.2.2 0 + 1 ∧ st0 = u.2.2.2 0 + 1))) (fun u' H => va_P D.1 j_cl (cW D q u') H) A) 0 0 A := by
  refine Met.ofW (cc := cX11_remake) (maxL := 3) (ret := none) (by decide) rfl ?_
  intro pr en st mi args below meth co s₁ B hml hv
  obtain ⟨rfl, hG, hP⟩ := hv
  have hr := B.returns
  have hlk := B.notSynchronized
  have SS : jS pr mi co cX11_remake 3 st _ RX11 := ⟨B.exec, B.bytes, hml, findClass_of_methodNamed B.named, fun w hw => atoms_spec (ws := (jw yX11_remake cX11_remake 3 none)) B.pre w (List.mem_cons_of_mem _ hw)⟩
  have hl := lv_entry ([.ref (q 0), .ref (q (8 + 5 * 3))]) (n := 3) (Nat.le_of_ble_eq_true rfl)
  rw [lg_entry_eq]
  generalize (lg_sl ([.ref (q 0), .ref (q (8 + 5 * 3))]) ++ List.replicate (3 - (lg_sl ([.ref (q 0), .ref (q (8 + 5 * 3))])).length) Slot.unset).toArray = ls at hl ⊢
  have hl : lv_has ls 3 [(0, .ref (q 0)), (1, .ref (q (8 + 5 * 3)))] := hl
  have hS : va_S A st.heap st.heap [] := va_S.rf
  have hR8 : RB 80 u 8 := p0.2.1.1
  have hRk := CI_40 p0 (show 3 < 8 by omega)
  have hc8 := hR8.1
  have hr8 := rl8
  rw [rl8] at hc8
  have hrk : (rl 3 : Int) = 24 := rfl
  have hHk := (p0.1 3 (by omega)).2.1
  refine lv_aload_n SS.1 SS.2.1 dX11_remake_0 rfl (lv_at hl 1 rfl) ?_
  refine j_get SS hG hP (8 + 5 * 3) (v := .ref (q (9 + 5 * 3))) (C := RX10) (T := TX10) (N := 3) (cw_shape (by omega)) rfl inX10 0 (by decide) (ref := "GridPolygons$Shape") kw_151 rfl rfl dX11_remake_1 ?_
  refine j_iconst SS dX11_remake_4 ?_
  refine j_putS SS hG hP (cW_D hD) hS (9 + 5 * 3) (v := .int (J 0)) (ty := .int) (C := RX7) (T := TX7) (N := 3) (cw_ring (by omega)) rfl inX7 tyX7 tyX7_ok nmX7 2 (by decide) (ref := "GridPolygons$Ring") kw_135 kw_132 rfl (by decide +kernel) rfl rfl (Nat.le_of_ble_eq_true rfl) dX11_remake_5 (ws' := (cW D q (sC u 3 0))) (cs_ring (by omega)) (fun H locs hP hS => ?_)
  refine j_iconst SS dX11_remake_8 ?_
  refine lv_istore_n (lv' := [(2, .int (J 0)), (0, .ref (q 0)), (1, .ref (q (8 + 5 * 3)))]) SS.1 SS.2.1 dX11_remake_9 rfl hl (by decide) rfl (fun ls hl => ?_)
  have L_10 : ∀ (nn : Nat) (i : Int) (n1 : Int) (f1 : Nat → Int) (g1 : Nat → Int) (H : Heap) (locs : List Loc) (hP : va_P D.1 j_cl (cW D q (sY (sX (sC u 3 n1) 3 f1) 3 g1)) H) (hS : va_S A st.heap H locs) (ls : Array Slot) (hl : lv_has ls 3 [(0, .ref (q 0)), (1, .ref (q (8 + 5 * 3))), (2, .int (J i))]) (i10_0 : (0 ≤ i ∧ i ≤ u.1.2.2.1 8) ∧ n1 = i) (i10_1 : RV 40 f1 g1) (i10_2 : ∀ j : Nat, (j : Int) < i → f1 j = u.1.1 8 j ∧ g1 j = u.1.2.1 8 j), (u.1.2.2.1 8 - i).toNat < nn → W pr l en (headSpec (jw yX11_remake cX11_remake 3 none) (jr 1 23)).room st mi (([.ref (q 0), .ref (q (8 + 5 * 3))] : List Value).toArray) below meth co H locs 0 0 (MQ below (jWv (fun u' => ∃ n : Int, ∃ f : Nat → Int, ∃ g : Nat → Int, ∃ hh : Nat → Int, ∃ tt : Int, ∃ st0 : Int, u' = (sY (sX (sV (sT (sH (sC u 3 n) 3 hh) 3 tt) 0 st0) 3 f) 3 g) ∧ (((CI u' ∧ n = u.1.2.2.1 8 ∧ ∀ j : Nat, (j : Int) < n → f j = u.1.1 8 j ∧ g j = u.1.2.1 8 j) ∧ ∀ a : Nat, a < 40 → hh a = 0) ∧ (u.2.2.2 0 < 2147483647 → tt = u.2.2.2 0 + 1 ∧ st0 = u.2.2.2 0 + 1))) (fun u' H => va_P D.1 j_cl (cW D q u') H) A) (([.ref (q 0), .ref (q (8 + 5 * 3))] : List Value).toArray) st 0 0 A) (F0 mi 10 ls []) := by
    intro nn
    induction nn with
    | zero => intros; omega
    | succ nn ih_10 =>
      intro i n1 f1 g1 H locs hP hS ls hl i10_0 i10_1 i10_2 hm
      refine lv_iload_n SS.1 SS.2.1 dX11_remake_10 rfl (lv_at hl 2 rfl) ?_
      refine lv_aload_n SS.1 SS.2.1 dX11_remake_11 rfl (lv_at hl 0 rfl) ?_
      refine j_get SS hG hP 0 (v := .ref (q 2)) (C := RX11) (T := TX11) (N := 8) rfl rfl inX11 1 (by decide) (ref := "GridPolygons") kw_386 rfl rfl dX11_remake_12 ?_
      refine j_get SS hG hP 2 (v := .ref (q (9 + 5 * 8))) (C := RX3) (T := TX3) (N := 3) rfl rfl inX3 2 (by decide) (ref := "GridPolygons$Hull") kw_180 rfl rfl dX11_remake_15 ?_
      refine j_getS SS hG hP (9 + 5 * 8) (v := .int (J (u.1.2.2.1 8))) (C := RX7) (T := TX7) (N := 3) (cw_ring (by omega)) rfl inX7 2 (by decide) (ref := "GridPolygons$Ring") kw_135 kw_132 rfl dX11_remake_18 ?_
      refine j_icmp_ge SS (tgt := 59) (x := i) (y := (u.1.2.2.1 8)) dX11_remake_21 (by decide) (by omega) (by omega) (fun c_21 => ?_) (fun c_21 => ?_)
      · skip
        refine lv_aload_n SS.1 SS.2.1 dX11_remake_59 rfl (lv_at hl 1 rfl) ?_
        refine j_get SS hG hP (8 + 5 * 3) (v := .ref (q (12 + 5 * 3))) (C := RX10) (T := TX10) (N := 3) (cw_shape (by omega)) rfl inX10 1 (by decide) (ref := "GridPolygons$Shape") kw_157 rfl rfl dX11_remake_60 ?_
        refine j_iconst SS dX11_remake_63 ?_
        refine j_sWv SS (As := [.ref (q (12 + 5 * 3)), .int (J 0)]) (rest := []) (c_J7_fill_53178 l D (ws := (cW D q (sY (sX (sC u 3 n1) 3 f1) 3 g1))) (A := A) (cW_D hD) (12 + 5 * 3) (0 : Int) (cw_hts (by omega)) (by first | decide | omega)) mf_J7_fill_53178 kw_466 hG hP hS (fun _ h => h) rfl hl.1 ⟨⟨Nat.le_of_ble_eq_true rfl, Nat.le_of_ble_eq_true rfl⟩, Nat.le_of_ble_eq_true rfl, Nat.le_refl _, Nat.le_refl _⟩ rfl dX11_remake_64 (fun _ H locs _ hP _ hS => ?_)
        have hP : va_P D.1 j_cl (cW D q (sY (sX (sH (sC u 3 n1) 3 (jf (u.1.2.2.2.1 3) (0 : Int) 40)) 3 f1) 3 g1)) H := Eq.mp (congrArg (fun w => va_P D.1 j_cl w H) (cs_hts (by omega))) hP
        refine lv_aload_n SS.1 SS.2.1 dX11_remake_67 rfl (lv_at hl 1 rfl) ?_
        refine lv_aload_n SS.1 SS.2.1 dX11_remake_68 rfl (lv_at hl 0 rfl) ?_
        refine j_vWi SS (As := []) (rest := [.ref (q (8 + 5 * 3))]) (c_X11_newStampS l D q (sY (sX (sH (sC u 3 n1) 3 (jf (u.1.2.2.2.1 3) (0 : Int) 40)) 3 f1) 3 g1) A (cW_D hD)   ) mf_X11_newStamp kw_467 hG hP hP (ci := 11) (q0 := 0) rfl rfl rfl hS (fun _ h => h) rfl hl.1 ⟨⟨Nat.le_of_ble_eq_true rfl, Nat.le_of_ble_eq_true rfl⟩, Nat.le_of_ble_eq_true rfl, Nat.le_refl _, Nat.le_refl _⟩ rfl dX11_remake_69 (fun z_69 u69 H locs h_69 hP _ hS => ?_)
        obtain ⟨t_69, rfl, h_69⟩ := h_69
        have hP : va_P D.1 j_cl (cW D q (sY (sX (sV (sH (sC u 3 n1) 3 (jf (u.1.2.2.2.1 3) (0 : Int) 40)) 0 t_69) 3 f1) 3 g1)) H := hP
        have h_69 : z_69 = t_69 ∧ (-2147483648 ≤ t_69 ∧ t_69 ≤ 2147483647) ∧ (-2147483648 ≤ (u.2.2.2 0) → (u.2.2.2 0) < 2147483647 → t_69 = (u.2.2.2 0) + 1) := h_69
        have hv0 := p0.2.2.2.1.1
        refine j_put SS hG hP (cW_D hD) hS (8 + 5 * 3) (v := .int (J z_69)) (ty := .int) (C := RX10) (T := TX10) (N := 3) (cw_shape (by omega)) rfl inX10 tyX10 tyX10_ok nmX10 2 (by decide) (ref := "GridPolygons$Shape") kw_161 rfl rfl (by decide +kernel) rfl rfl (Nat.le_of_ble_eq_true rfl) dX11_remake_72 (ws' := (cW D q (sY (sX (sV (sT (sH (sC u 3 n1) 3 (jf (u.1.2.2.2.1 3) (0 : Int) 40)) 3 z_69) 0 t_69) 3 f1) 3 g1))) (cs_shape (by omega)) (fun H locs hP hS => ?_)
        exact W.vret SS.1 SS.2.1 hr (fun t0 ht hW => ⟨⟨(sY (sX (sV (sT (sH (sC u 3 n1) 3 (jf (u.1.2.2.2.1 3) (0 : Int) 40)) 3 z_69) 0 t_69) 3 f1) 3 g1), rfl, (⟨n1, f1, g1, (jf (u.1.2.2.2.1 3) (0 : Int) 40), z_69, t_69, rfl, ⟨⟨⟨CI_sh p0 (by omega) (by omega) i10_1 (HB_f hHk) (by omega) (by omega), by omega, fun j hj => i10_2 j (by omega)⟩, fun a ha => by unfold jf; exact if_pos ha⟩, fun q => ⟨h_69.1.trans (h_69.2.2 hv0 q), h_69.2.2 hv0 q⟩⟩⟩), by show va_P D.1 j_cl (cW D q (sY (sX (sV (sT (sH (sC u 3 n1) 3 (jf (u.1.2.2.2.1 3) (0 : Int) 40)) 3 z_69) 0 t_69) 3 f1) 3 g1)) t0.heap; rw [ht]; first | exact hP | (simp only [sC_id, sX_id, sY_id, sH_id, sT_id, sV_id]; exact hP)⟩, hS.F ht⟩) hS.2.2 dX11_remake_75 hlk
      · skip
        refine lv_aload_n SS.1 SS.2.1 dX11_remake_24 rfl (lv_at hl 1 rfl) ?_
        refine j_get SS hG hP (8 + 5 * 3) (v := .ref (q (9 + 5 * 3))) (C := RX10) (T := TX10) (N := 3) (cw_shape (by omega)) rfl inX10 0 (by decide) (ref := "GridPolygons$Shape") kw_151 rfl rfl dX11_remake_25 ?_
        refine lv_aload_n SS.1 SS.2.1 dX11_remake_28 rfl (lv_at hl 0 rfl) ?_
        refine j_get SS hG hP 0 (v := .ref (q 2)) (C := RX11) (T := TX11) (N := 8) rfl rfl inX11 1 (by decide) (ref := "GridPolygons") kw_386 rfl rfl dX11_remake_29 ?_
        refine j_get SS hG hP 2 (v := .ref (q (9 + 5 * 8))) (C := RX3) (T := TX3) (N := 3) rfl rfl inX3 2 (by decide) (ref := "GridPolygons$Hull") kw_180 rfl rfl dX11_remake_32 ?_
        refine lv_iload_n SS.1 SS.2.1 dX11_remake_35 rfl (lv_at hl 2 rfl) ?_
        refine j_uRi SS (As := [.int (J i)]) (rest := [.ref (q (9 + 5 * 3))]) (c_X8_x l D q (sY (sX (sC u 3 n1) 3 f1) 3 g1) 8 (by omega) i (show -2147483648 ≤ i ∧ i ≤ 2147483647 from (by omega))) mu_7_x kw_463 hG hP hP (ci := 7) (q0 := (9 + 5 * 8)) rfl (cw_ring (by omega)) rfl rfl hl.1 ⟨⟨Nat.le_of_ble_eq_true rfl, Nat.le_of_ble_eq_true rfl⟩, Nat.le_of_ble_eq_true rfl, Nat.le_refl _, Nat.le_refl _⟩ rfl dX11_remake_36 (fun z_36 h_36 => ?_)
        have h_36 : z_36 = rx (sY (sX (sC u 3 n1) 3 f1) 3 g1) 8 i ∧ ∀ K : Int, 0 ≤ K → RB K (sY (sX (sC u 3 n1) 3 f1) 3 g1) 8 → -K ≤ z_36 ∧ z_36 ≤ K := h_36
        have hb_36 := h_36.2 80 (by omega) (hR8)
        have ex36 : z_36 = u.1.1 8 i.toNat := by rw [h_36.1]; exact if_pos (by rw [rl8]; omega)
        have hq := bd_at p2 (z := i) (by omega) (by omega)
        refine lv_aload_n SS.1 SS.2.1 dX11_remake_39 rfl (lv_at hl 0 rfl) ?_
        refine j_get SS hG hP 0 (v := .ref (q 2)) (C := RX11) (T := TX11) (N := 8) rfl rfl inX11 1 (by decide) (ref := "GridPolygons") kw_386 rfl rfl dX11_remake_40 ?_
        refine j_get SS hG hP 2 (v := .ref (q (9 + 5 * 8))) (C := RX3) (T := TX3) (N := 3) rfl rfl inX3 2 (by decide) (ref := "GridPolygons$Hull") kw_180 rfl rfl dX11_remake_43 ?_
        refine lv_iload_n SS.1 SS.2.1 dX11_remake_46 rfl (lv_at hl 2 rfl) ?_
        refine j_uRi SS (As := [.int (J i)]) (rest := [.int (J z_36), .ref (q (9 + 5 * 3))]) (c_X8_y l D q (sY (sX (sC u 3 n1) 3 f1) 3 g1) 8 (by omega) i (show -2147483648 ≤ i ∧ i ≤ 2147483647 from (by omega))) mu_7_y kw_464 hG hP hP (ci := 7) (q0 := (9 + 5 * 8)) rfl (cw_ring (by omega)) rfl rfl hl.1 ⟨⟨Nat.le_of_ble_eq_true rfl, Nat.le_of_ble_eq_true rfl⟩, Nat.le_of_ble_eq_true rfl, Nat.le_refl _, Nat.le_refl _⟩ rfl dX11_remake_47 (fun z_47 h_47 => ?_)
        have h_47 : z_47 = ry9 (sY (sX (sC u 3 n1) 3 f1) 3 g1) 8 i ∧ ∀ K : Int, 0 ≤ K → RB K (sY (sX (sC u 3 n1) 3 f1) 3 g1) 8 → -K ≤ z_47 ∧ z_47 ≤ K := h_47
        have hb_47 := h_47.2 80 (by omega) (hR8)
        have ex47 : z_47 = u.1.2.1 8 i.toNat := by rw [h_47.1]; exact if_pos (by rw [rl8]; omega)
        refine j_uWv SS (As := [.int (J z_36), .int (J z_47)]) (rest := []) (c_X8_append l D q (sY (sX (sC u 3 n1) 3 f1) 3 g1) A (cW_D hD) 3 (by omega) z_36 z_47 (show 0 ≤ n1 ∧ n1 ≤ rl 3 from (by omega))) mu_7_append kw_465 hG hP hP (ci := 7) (q0 := (9 + 5 * 3)) rfl (cw_ring (by omega)) rfl hS (fun _ h => h) rfl hl.1 ⟨⟨Nat.le_of_ble_eq_true rfl, Nat.le_of_ble_eq_true rfl⟩, Nat.le_of_ble_eq_true rfl, Nat.le_refl _, Nat.le_refl _⟩ rfl dX11_remake_50 (fun u50 H locs h_50 hP _ hS => ?_)
        obtain ⟨f_50, g_50, n_50, rfl, h_50⟩ := h_50
        have hP : va_P D.1 j_cl (cW D q (sY (sX (sC u 3 n_50) 3 f_50) 3 g_50)) H := hP
        have h_50 : (n1 < rl 3 ∧ f_50 = upI (f1) (n1).toNat z_36 ∧ g_50 = upI (g1) (n1).toNat z_47 ∧ n_50 = n1 + 1) ∨ (rl 3 ≤ n1 ∧ f_50 = f1 ∧ g_50 = g1 ∧ n_50 = n1) := h_50
        refine lv_iinc (v := J (i + 1)) (lv' := [(2, .int (J (i + 1))), (0, .ref (q 0)), (1, .ref (q (8 + 5 * 3)))]) SS.1 SS.2.1 dX11_remake_53 hl (k := 2) rfl (J_add _ _) (by decide) rfl (fun ls hl => ?_)
        refine lv_goto (tgt := 10) SS.1 SS.2.1 dX11_remake_56 (by decide) ?_
        exact ih_10 (i + 1) n_50 f_50 g_50 _ _ hP hS ls (lv_sub hl [1, 2, 0] rfl) (by rcases h_50 with q | q; omega; omega) ((ap_b (m := 24) (n0 := n1) (x := z_36) (y := z_47) i10_1 (by omega) (by omega) (by omega) (by rw [hrk] at h_50; exact h_50)).2) (fun j hj => by rcases h_50 with ⟨q0, q1, q2, q3⟩ | q; (rw [q1, q2]; by_cases e : (j : Int) = i; (rw [show j = n1.toNat by omega, upI_s, upI_s, ex36, ex47]; rw [show i.toNat = n1.toNat by omega]; exact ⟨rfl, rfl⟩); (rw [upI_n (by omega), upI_n (by omega)]; exact i10_2 j (by omega))); omega) (by omega)
  exact L_10 ((u.1.2.2.1 8 - (0 : Int)).toNat + 1) 0 0 (u.1.1 3) (u.1.2.1 3) _ _ hP hS ls (lv_sub hl [1, 2, 0] rfl) (by omega) (hRk.2) (fun j hj => by omega) (Nat.lt_succ_self _)

set_option maxHeartbeats 4000000 in
set_option maxRecDepth 100000 in
theorem c_X11_remakeS_4 (l : Launch) (D : JD) (q : Nat → Nat) (u : CS) (A : Nat → Prop) (hD : va_D A (cW D q u)) (p0 : CI u) (p1 : u.1.2.2.1 8 ≤ 24) (p2 : bd 40 (u.1.1 8) (u.1.2.1 8) (u.1.2.2.1 8)) : Met l yX11_remake (jw yX11_remake cX11_remake 3 none) (jr 1 23) (jP [.ref (q 0), .ref (q (8 + 5 * 4))] D (fun H => va_P D.1 j_cl (cW D q u) H)) (jWv (fun u' => ∃ n : Int, ∃ f : Nat → Int, ∃ g : Nat → Int, ∃ hh : Nat → Int, ∃ tt : Int, ∃ st0 : Int, u' = (sY (sX (sV (sT (sH (sC u 4 n) 4 hh) 4 tt) 0 st0) 4 f) 4 g) ∧ (((CI u' ∧ n = u.1.2.2.1 8 ∧ ∀ j : Nat, (j : Int) < n → f j = u.1.1 8 j ∧ g j = u.1.2.1 8 j) ∧ ∀ a : Nat, a < 40 → hh a = 0) ∧ (u.2.2.2 0 < 2147483647 → tt = u.2.2.2 0 + 1 ∧ st0 = u.2.2.2 0 + 1))) (fun u' H => va_P D.1 j_cl (cW D q u') H) A) 0 0 A := by
  refine Met.ofW (cc := cX11_remake) (maxL := 3) (ret := none) (by decide) rfl ?_
  intro pr en st mi args below meth co s₁ B hml hv
  obtain ⟨rfl, hG, hP⟩ := hv
  have hr := B.returns
  have hlk := B.notSynchronized
  have SS : jS pr mi co cX11_remake 3 st _ RX11 := ⟨B.exec, B.bytes, hml, findClass_of_methodNamed B.named, fun w hw => atoms_spec (ws := (jw yX11_remake cX11_remake 3 none)) B.pre w (List.mem_cons_of_mem _ hw)⟩
  have hl := lv_entry ([.ref (q 0), .ref (q (8 + 5 * 4))]) (n := 3) (Nat.le_of_ble_eq_true rfl)
  rw [lg_entry_eq]
  generalize (lg_sl ([.ref (q 0), .ref (q (8 + 5 * 4))]) ++ List.replicate (3 - (lg_sl ([.ref (q 0), .ref (q (8 + 5 * 4))])).length) Slot.unset).toArray = ls at hl ⊢
  have hl : lv_has ls 3 [(0, .ref (q 0)), (1, .ref (q (8 + 5 * 4)))] := hl
  have hS : va_S A st.heap st.heap [] := va_S.rf
  have hR8 : RB 80 u 8 := p0.2.1.1
  have hRk := CI_40 p0 (show 4 < 8 by omega)
  have hc8 := hR8.1
  have hr8 := rl8
  rw [rl8] at hc8
  have hrk : (rl 4 : Int) = 24 := rfl
  have hHk := (p0.1 4 (by omega)).2.1
  refine lv_aload_n SS.1 SS.2.1 dX11_remake_0 rfl (lv_at hl 1 rfl) ?_
  refine j_get SS hG hP (8 + 5 * 4) (v := .ref (q (9 + 5 * 4))) (C := RX10) (T := TX10) (N := 3) (cw_shape (by omega)) rfl inX10 0 (by decide) (ref := "GridPolygons$Shape") kw_151 rfl rfl dX11_remake_1 ?_
  refine j_iconst SS dX11_remake_4 ?_
  refine j_putS SS hG hP (cW_D hD) hS (9 + 5 * 4) (v := .int (J 0)) (ty := .int) (C := RX7) (T := TX7) (N := 3) (cw_ring (by omega)) rfl inX7 tyX7 tyX7_ok nmX7 2 (by decide) (ref := "GridPolygons$Ring") kw_135 kw_132 rfl (by decide +kernel) rfl rfl (Nat.le_of_ble_eq_true rfl) dX11_remake_5 (ws' := (cW D q (sC u 4 0))) (cs_ring (by omega)) (fun H locs hP hS => ?_)
  refine j_iconst SS dX11_remake_8 ?_
  refine lv_istore_n (lv' := [(2, .int (J 0)), (0, .ref (q 0)), (1, .ref (q (8 + 5 * 4)))]) SS.1 SS.2.1 dX11_remake_9 rfl hl (by decide) rfl (fun ls hl => ?_)
  have L_10 : ∀ (nn : Nat) (i : Int) (n1 : Int) (f1 : Nat → Int) (g1 : Nat → Int) (H : Heap) (locs : List Loc) (hP : va_P D.1 j_cl (cW D q (sY (sX (sC u 4 n1) 4 f1) 4 g1)) H) (hS : va_S A st.heap H locs) (ls : Array Slot) (hl : lv_has ls 3 [(0, .ref (q 0)), (1, .ref (q (8 + 5 * 4))), (2, .int (J i))]) (i10_0 : (0 ≤ i ∧ i ≤ u.1.2.2.1 8) ∧ n1 = i) (i10_1 : RV 40 f1 g1) (i10_2 : ∀ j : Nat, (j : Int) < i → f1 j = u.1.1 8 j ∧ g1 j = u.1.2.1 8 j), (u.1.2.2.1 8 - i).toNat < nn → W pr l en (headSpec (jw yX11_remake cX11_remake 3 none) (jr 1 23)).room st mi (([.ref (q 0), .ref (q (8 + 5 * 4))] : List Value).toArray) below meth co H locs 0 0 (MQ below (jWv (fun u' => ∃ n : Int, ∃ f : Nat → Int, ∃ g : Nat → Int, ∃ hh : Nat → Int, ∃ tt : Int, ∃ st0 : Int, u' = (sY (sX (sV (sT (sH (sC u 4 n) 4 hh) 4 tt) 0 st0) 4 f) 4 g) ∧ (((CI u' ∧ n = u.1.2.2.1 8 ∧ ∀ j : Nat, (j : Int) < n → f j = u.1.1 8 j ∧ g j = u.1.2.1 8 j) ∧ ∀ a : Nat, a < 40 → hh a = 0) ∧ (u.2.2.2 0 < 2147483647 → tt = u.2.2.2 0 + 1 ∧ st0 = u.2.2.2 0 + 1))) (fun u' H => va_P D.1 j_cl (cW D q u') H) A) (([.ref (q 0), .ref (q (8 + 5 * 4))] : List Value).toArray) st 0 0 A) (F0 mi 10 ls []) := by
    intro nn
    induction nn with
    | zero => intros; omega
    | succ nn ih_10 =>
      intro i n1 f1 g1 H locs hP hS ls hl i10_0 i10_1 i10_2 hm
      refine lv_iload_n SS.1 SS.2.1 dX11_remake_10 rfl (lv_at hl 2 rfl) ?_
      refine lv_aload_n SS.1 SS.2.1 dX11_remake_11 rfl (lv_at hl 0 rfl) ?_
      refine j_get SS hG hP 0 (v := .ref (q 2)) (C := RX11) (T := TX11) (N := 8) rfl rfl inX11 1 (by decide) (ref := "GridPolygons") kw_386 rfl rfl dX11_remake_12 ?_
      refine j_get SS hG hP 2 (v := .ref (q (9 + 5 * 8))) (C := RX3) (T := TX3) (N := 3) rfl rfl inX3 2 (by decide) (ref := "GridPolygons$Hull") kw_180 rfl rfl dX11_remake_15 ?_
      refine j_getS SS hG hP (9 + 5 * 8) (v := .int (J (u.1.2.2.1 8))) (C := RX7) (T := TX7) (N := 3) (cw_ring (by omega)) rfl inX7 2 (by decide) (ref := "GridPolygons$Ring") kw_135 kw_132 rfl dX11_remake_18 ?_
      refine j_icmp_ge SS (tgt := 59) (x := i) (y := (u.1.2.2.1 8)) dX11_remake_21 (by decide) (by omega) (by omega) (fun c_21 => ?_) (fun c_21 => ?_)
      · skip
        refine lv_aload_n SS.1 SS.2.1 dX11_remake_59 rfl (lv_at hl 1 rfl) ?_
        refine j_get SS hG hP (8 + 5 * 4) (v := .ref (q (12 + 5 * 4))) (C := RX10) (T := TX10) (N := 3) (cw_shape (by omega)) rfl inX10 1 (by decide) (ref := "GridPolygons$Shape") kw_157 rfl rfl dX11_remake_60 ?_
        refine j_iconst SS dX11_remake_63 ?_
        refine j_sWv SS (As := [.ref (q (12 + 5 * 4)), .int (J 0)]) (rest := []) (c_J7_fill_53178 l D (ws := (cW D q (sY (sX (sC u 4 n1) 4 f1) 4 g1))) (A := A) (cW_D hD) (12 + 5 * 4) (0 : Int) (cw_hts (by omega)) (by first | decide | omega)) mf_J7_fill_53178 kw_466 hG hP hS (fun _ h => h) rfl hl.1 ⟨⟨Nat.le_of_ble_eq_true rfl, Nat.le_of_ble_eq_true rfl⟩, Nat.le_of_ble_eq_true rfl, Nat.le_refl _, Nat.le_refl _⟩ rfl dX11_remake_64 (fun _ H locs _ hP _ hS => ?_)
        have hP : va_P D.1 j_cl (cW D q (sY (sX (sH (sC u 4 n1) 4 (jf (u.1.2.2.2.1 4) (0 : Int) 40)) 4 f1) 4 g1)) H := Eq.mp (congrArg (fun w => va_P D.1 j_cl w H) (cs_hts (by omega))) hP
        refine lv_aload_n SS.1 SS.2.1 dX11_remake_67 rfl (lv_at hl 1 rfl) ?_
        refine lv_aload_n SS.1 SS.2.1 dX11_remake_68 rfl (lv_at hl 0 rfl) ?_
        refine j_vWi SS (As := []) (rest := [.ref (q (8 + 5 * 4))]) (c_X11_newStampS l D q (sY (sX (sH (sC u 4 n1) 4 (jf (u.1.2.2.2.1 4) (0 : Int) 40)) 4 f1) 4 g1) A (cW_D hD)   ) mf_X11_newStamp kw_467 hG hP hP (ci := 11) (q0 := 0) rfl rfl rfl hS (fun _ h => h) rfl hl.1 ⟨⟨Nat.le_of_ble_eq_true rfl, Nat.le_of_ble_eq_true rfl⟩, Nat.le_of_ble_eq_true rfl, Nat.le_refl _, Nat.le_refl _⟩ rfl dX11_remake_69 (fun z_69 u69 H locs h_69 hP _ hS => ?_)
        obtain ⟨t_69, rfl, h_69⟩ := h_69
        have hP : va_P D.1 j_cl (cW D q (sY (sX (sV (sH (sC u 4 n1) 4 (jf (u.1.2.2.2.1 4) (0 : Int) 40)) 0 t_69) 4 f1) 4 g1)) H := hP
        have h_69 : z_69 = t_69 ∧ (-2147483648 ≤ t_69 ∧ t_69 ≤ 2147483647) ∧ (-2147483648 ≤ (u.2.2.2 0) → (u.2.2.2 0) < 2147483647 → t_69 = (u.2.2.2 0) + 1) := h_69
        have hv0 := p0.2.2.2.1.1
        refine j_put SS hG hP (cW_D hD) hS (8 + 5 * 4) (v := .int (J z_69)) (ty := .int) (C := RX10) (T := TX10) (N := 3) (cw_shape (by omega)) rfl inX10 tyX10 tyX10_ok nmX10 2 (by decide) (ref := "GridPolygons$Shape") kw_161 rfl rfl (by decide +kernel) rfl rfl (Nat.le_of_ble_eq_true rfl) dX11_remake_72 (ws' := (cW D q (sY (sX (sV (sT (sH (sC u 4 n1) 4 (jf (u.1.2.2.2.1 4) (0 : Int) 40)) 4 z_69) 0 t_69) 4 f1) 4 g1))) (cs_shape (by omega)) (fun H locs hP hS => ?_)
        exact W.vret SS.1 SS.2.1 hr (fun t0 ht hW => ⟨⟨(sY (sX (sV (sT (sH (sC u 4 n1) 4 (jf (u.1.2.2.2.1 4) (0 : Int) 40)) 4 z_69) 0 t_69) 4 f1) 4 g1), rfl, (⟨n1, f1, g1, (jf (u.1.2.2.2.1 4) (0 : Int) 40), z_69, t_69, rfl, ⟨⟨⟨CI_sh p0 (by omega) (by omega) i10_1 (HB_f hHk) (by omega) (by omega), by omega, fun j hj => i10_2 j (by omega)⟩, fun a ha => by unfold jf; exact if_pos ha⟩, fun q => ⟨h_69.1.trans (h_69.2.2 hv0 q), h_69.2.2 hv0 q⟩⟩⟩), by show va_P D.1 j_cl (cW D q (sY (sX (sV (sT (sH (sC u 4 n1) 4 (jf (u.1.2.2.2.1 4) (0 : Int) 40)) 4 z_69) 0 t_69) 4 f1) 4 g1)) t0.heap; rw [ht]; first | exact hP | (simp only [sC_id, sX_id, sY_id, sH_id, sT_id, sV_id]; exact hP)⟩, hS.F ht⟩) hS.2.2 dX11_remake_75 hlk
      · skip
        refine lv_aload_n SS.1 SS.2.1 dX11_remake_24 rfl (lv_at hl 1 rfl) ?_
        refine j_get SS hG hP (8 + 5 * 4) (v := .ref (q (9 + 5 * 4))) (C := RX10) (T := TX10) (N := 3) (cw_shape (by omega)) rfl inX10 0 (by decide) (ref := "GridPolygons$Shape") kw_151 rfl rfl dX11_remake_25 ?_
        refine lv_aload_n SS.1 SS.2.1 dX11_remake_28 rfl (lv_at hl 0 rfl) ?_
        refine j_get SS hG hP 0 (v := .ref (q 2)) (C := RX11) (T := TX11) (N := 8) rfl rfl inX11 1 (by decide) (ref := "GridPolygons") kw_386 rfl rfl dX11_remake_29 ?_
        refine j_get SS hG hP 2 (v := .ref (q (9 + 5 * 8))) (C := RX3) (T := TX3) (N := 3) rfl rfl inX3 2 (by decide) (ref := "GridPolygons$Hull") kw_180 rfl rfl dX11_remake_32 ?_
        refine lv_iload_n SS.1 SS.2.1 dX11_remake_35 rfl (lv_at hl 2 rfl) ?_
        refine j_uRi SS (As := [.int (J i)]) (rest := [.ref (q (9 + 5 * 4))]) (c_X8_x l D q (sY (sX (sC u 4 n1) 4 f1) 4 g1) 8 (by omega) i (show -2147483648 ≤ i ∧ i ≤ 2147483647 from (by omega))) mu_7_x kw_463 hG hP hP (ci := 7) (q0 := (9 + 5 * 8)) rfl (cw_ring (by omega)) rfl rfl hl.1 ⟨⟨Nat.le_of_ble_eq_true rfl, Nat.le_of_ble_eq_true rfl⟩, Nat.le_of_ble_eq_true rfl, Nat.le_refl _, Nat.le_refl _⟩ rfl dX11_remake_36 (fun z_36 h_36 => ?_)
        have h_36 : z_36 = rx (sY (sX (sC u 4 n1) 4 f1) 4 g1) 8 i ∧ ∀ K : Int, 0 ≤ K → RB K (sY (sX (sC u 4 n1) 4 f1) 4 g1) 8 → -K ≤ z_36 ∧ z_36 ≤ K := h_36
        have hb_36 := h_36.2 80 (by omega) (hR8)
        have ex36 : z_36 = u.1.1 8 i.toNat := by rw [h_36.1]; exact if_pos (by rw [rl8]; omega)
        have hq := bd_at p2 (z := i) (by omega) (by omega)
        refine lv_aload_n SS.1 SS.2.1 dX11_remake_39 rfl (lv_at hl 0 rfl) ?_
        refine j_get SS hG hP 0 (v := .ref (q 2)) (C := RX11) (T := TX11) (N := 8) rfl rfl inX11 1 (by decide) (ref := "GridPolygons") kw_386 rfl rfl dX11_remake_40 ?_
        refine j_get SS hG hP 2 (v := .ref (q (9 + 5 * 8))) (C := RX3) (T := TX3) (N := 3) rfl rfl inX3 2 (by decide) (ref := "GridPolygons$Hull") kw_180 rfl rfl dX11_remake_43 ?_
        refine lv_iload_n SS.1 SS.2.1 dX11_remake_46 rfl (lv_at hl 2 rfl) ?_
        refine j_uRi SS (As := [.int (J i)]) (rest := [.int (J z_36), .ref (q (9 + 5 * 4))]) (c_X8_y l D q (sY (sX (sC u 4 n1) 4 f1) 4 g1) 8 (by omega) i (show -2147483648 ≤ i ∧ i ≤ 2147483647 from (by omega))) mu_7_y kw_464 hG hP hP (ci := 7) (q0 := (9 + 5 * 8)) rfl (cw_ring (by omega)) rfl rfl hl.1 ⟨⟨Nat.le_of_ble_eq_true rfl, Nat.le_of_ble_eq_true rfl⟩, Nat.le_of_ble_eq_true rfl, Nat.le_refl _, Nat.le_refl _⟩ rfl dX11_remake_47 (fun z_47 h_47 => ?_)
        have h_47 : z_47 = ry9 (sY (sX (sC u 4 n1) 4 f1) 4 g1) 8 i ∧ ∀ K : Int, 0 ≤ K → RB K (sY (sX (sC u 4 n1) 4 f1) 4 g1) 8 → -K ≤ z_47 ∧ z_47 ≤ K := h_47
        have hb_47 := h_47.2 80 (by omega) (hR8)
        have ex47 : z_47 = u.1.2.1 8 i.toNat := by rw [h_47.1]; exact if_pos (by rw [rl8]; omega)
        refine j_uWv SS (As := [.int (J z_36), .int (J z_47)]) (rest := []) (c_X8_append l D q (sY (sX (sC u 4 n1) 4 f1) 4 g1) A (cW_D hD) 4 (by omega) z_36 z_47 (show 0 ≤ n1 ∧ n1 ≤ rl 4 from (by omega))) mu_7_append kw_465 hG hP hP (ci := 7) (q0 := (9 + 5 * 4)) rfl (cw_ring (by omega)) rfl hS (fun _ h => h) rfl hl.1 ⟨⟨Nat.le_of_ble_eq_true rfl, Nat.le_of_ble_eq_true rfl⟩, Nat.le_of_ble_eq_true rfl, Nat.le_refl _, Nat.le_refl _⟩ rfl dX11_remake_50 (fun u50 H locs h_50 hP _ hS => ?_)
        obtain ⟨f_50, g_50, n_50, rfl, h_50⟩ := h_50
        have hP : va_P D.1 j_cl (cW D q (sY (sX (sC u 4 n_50) 4 f_50) 4 g_50)) H := hP
        have h_50 : (n1 < rl 4 ∧ f_50 = upI (f1) (n1).toNat z_36 ∧ g_50 = upI (g1) (n1).toNat z_47 ∧ n_50 = n1 + 1) ∨ (rl 4 ≤ n1 ∧ f_50 = f1 ∧ g_50 = g1 ∧ n_50 = n1) := h_50
        refine lv_iinc (v := J (i + 1)) (lv' := [(2, .int (J (i + 1))), (0, .ref (q 0)), (1, .ref (q (8 + 5 * 4)))]) SS.1 SS.2.1 dX11_remake_53 hl (k := 2) rfl (J_add _ _) (by decide) rfl (fun ls hl => ?_)
        refine lv_goto (tgt := 10) SS.1 SS.2.1 dX11_remake_56 (by decide) ?_
        exact ih_10 (i + 1) n_50 f_50 g_50 _ _ hP hS ls (lv_sub hl [1, 2, 0] rfl) (by rcases h_50 with q | q; omega; omega) ((ap_b (m := 24) (n0 := n1) (x := z_36) (y := z_47) i10_1 (by omega) (by omega) (by omega) (by rw [hrk] at h_50; exact h_50)).2) (fun j hj => by rcases h_50 with ⟨q0, q1, q2, q3⟩ | q; (rw [q1, q2]; by_cases e : (j : Int) = i; (rw [show j = n1.toNat by omega, upI_s, upI_s, ex36, ex47]; rw [show i.toNat = n1.toNat by omega]; exact ⟨rfl, rfl⟩); (rw [upI_n (by omega), upI_n (by omega)]; exact i10_2 j (by omega))); omega) (by omega)
  exact L_10 ((u.1.2.2.1 8 - (0 : Int)).toNat + 1) 0 0 (u.1.1 4) (u.1.2.1 4) _ _ hP hS ls (lv_sub hl [1, 2, 0] rfl) (by omega) (hRk.2) (fun j hj => by omega) (Nat.lt_succ_self _)

set_option maxHeartbeats 4000000 in
set_option maxRecDepth 100000 in
theorem c_X11_remakeS_5 (l : Launch) (D : JD) (q : Nat → Nat) (u : CS) (A : Nat → Prop) (hD : va_D A (cW D q u)) (p0 : CI u) (p1 : u.1.2.2.1 8 ≤ 24) (p2 : bd 40 (u.1.1 8) (u.1.2.1 8) (u.1.2.2.1 8)) : Met l yX11_remake (jw yX11_remake cX11_remake 3 none) (jr 1 23) (jP [.ref (q 0), .ref (q (8 + 5 * 5))] D (fun H => va_P D.1 j_cl (cW D q u) H)) (jWv (fun u' => ∃ n : Int, ∃ f : Nat → Int, ∃ g : Nat → Int, ∃ hh : Nat → Int, ∃ tt : Int, ∃ st0 : Int, u' = (sY (sX (sV (sT (sH (sC u 5 n) 5 hh) 5 tt) 0 st0) 5 f) 5 g) ∧ (((CI u' ∧ n = u.1.2.2.1 8 ∧ ∀ j : Nat, (j : Int) < n → f j = u.1.1 8 j ∧ g j = u.1.2.1 8 j) ∧ ∀ a : Nat, a < 40 → hh a = 0) ∧ (u.2.2.2 0 < 2147483647 → tt = u.2.2.2 0 + 1 ∧ st0 = u.2.2.2 0 + 1))) (fun u' H => va_P D.1 j_cl (cW D q u') H) A) 0 0 A := by
  refine Met.ofW (cc := cX11_remake) (maxL := 3) (ret := none) (by decide) rfl ?_
  intro pr en st mi args below meth co s₁ B hml hv
  obtain ⟨rfl, hG, hP⟩ := hv
  have hr := B.returns
  have hlk := B.notSynchronized
  have SS : jS pr mi co cX11_remake 3 st _ RX11 := ⟨B.exec, B.bytes, hml, findClass_of_methodNamed B.named, fun w hw => atoms_spec (ws := (jw yX11_remake cX11_remake 3 none)) B.pre w (List.mem_cons_of_mem _ hw)⟩
  have hl := lv_entry ([.ref (q 0), .ref (q (8 + 5 * 5))]) (n := 3) (Nat.le_of_ble_eq_true rfl)
  rw [lg_entry_eq]
  generalize (lg_sl ([.ref (q 0), .ref (q (8 + 5 * 5))]) ++ List.replicate (3 - (lg_sl ([.ref (q 0), .ref (q (8 + 5 * 5))])).length) Slot.unset).toArray = ls at hl ⊢
  have hl : lv_has ls 3 [(0, .ref (q 0)), (1, .ref (q (8 + 5 * 5)))] := hl
  have hS : va_S A st.heap st.heap [] := va_S.rf
  have hR8 : RB 80 u 8 := p0.2.1.1
  have hRk := CI_40 p0 (show 5 < 8 by omega)
  have hc8 := hR8.1
  have hr8 := rl8
  rw [rl8] at hc8
  have hrk : (rl 5 : Int) = 24 := rfl
  have hHk := (p0.1 5 (by omega)).2.1
  refine lv_aload_n SS.1 SS.2.1 dX11_remake_0 rfl (lv_at hl 1 rfl) ?_
  refine j_get SS hG hP (8 + 5 * 5) (v := .ref (q (9 + 5 * 5))) (C := RX10) (T := TX10) (N := 3) (cw_shape (by omega)) rfl inX10 0 (by decide) (ref := "GridPolygons$Shape") kw_151 rfl rfl dX11_remake_1 ?_
  refine j_iconst SS dX11_remake_4 ?_
  refine j_putS SS hG hP (cW_D hD) hS (9 + 5 * 5) (v := .int (J 0)) (ty := .int) (C := RX7) (T := TX7) (N := 3) (cw_ring (by omega)) rfl inX7 tyX7 tyX7_ok nmX7 2 (by decide) (ref := "GridPolygons$Ring") kw_135 kw_132 rfl (by decide +kernel) rfl rfl (Nat.le_of_ble_eq_true rfl) dX11_remake_5 (ws' := (cW D q (sC u 5 0))) (cs_ring (by omega)) (fun H locs hP hS => ?_)
  refine j_iconst SS dX11_remake_8 ?_
  refine lv_istore_n (lv' := [(2, .int (J 0)), (0, .ref (q 0)), (1, .ref (q (8 + 5 * 5)))]) SS.1 SS.2.1 dX11_remake_9 rfl hl (by decide) rfl (fun ls hl => ?_)
  have L_10 : ∀ (nn : Nat) (i : Int) (n1 : Int) (f1 : Nat → Int) (g1 : Nat → Int) (H : Heap) (locs : List Loc) (hP : va_P D.1 j_cl (cW D q (sY (sX (sC u 5 n1) 5 f1) 5 g1)) H) (hS : va_S A st.heap H locs) (ls : Array Slot) (hl : lv_has ls 3 [(0, .ref (q 0)), (1, .ref (q (8 + 5 * 5))), (2, .int (J i))]) (i10_0 : (0 ≤ i ∧ i ≤ u.1.2.2.1 8) ∧ n1 = i) (i10_1 : RV 40 f1 g1) (i10_2 : ∀ j : Nat, (j : Int) < i → f1 j = u.1.1 8 j ∧ g1 j = u.1.2.1 8 j), (u.1.2.2.1 8 - i).toNat < nn → W pr l en (headSpec (jw yX11_remake cX11_remake 3 none) (jr 1 23)).room st mi (([.ref (q 0), .ref (q (8 + 5 * 5))] : List Value).toArray) below meth co H locs 0 0 (MQ below (jWv (fun u' => ∃ n : Int, ∃ f : Nat → Int, ∃ g : Nat → Int, ∃ hh : Nat → Int, ∃ tt : Int, ∃ st0 : Int, u' = (sY (sX (sV (sT (sH (sC u 5 n) 5 hh) 5 tt) 0 st0) 5 f) 5 g) ∧ (((CI u' ∧ n = u.1.2.2.1 8 ∧ ∀ j : Nat, (j : Int) < n → f j = u.1.1 8 j ∧ g j = u.1.2.1 8 j) ∧ ∀ a : Nat, a < 40 → hh a = 0) ∧ (u.2.2.2 0 < 2147483647 → tt = u.2.2.2 0 + 1 ∧ st0 = u.2.2.2 0 + 1))) (fun u' H => va_P D.1 j_cl (cW D q u') H) A) (([.ref (q 0), .ref (q (8 + 5 * 5))] : List Value).toArray) st 0 0 A) (F0 mi 10 ls []) := by
    intro nn
    induction nn with
    | zero => intros; omega
    | succ nn ih_10 =>
      intro i n1 f1 g1 H locs hP hS ls hl i10_0 i10_1 i10_2 hm
      refine lv_iload_n SS.1 SS.2.1 dX11_remake_10 rfl (lv_at hl 2 rfl) ?_
      refine lv_aload_n SS.1 SS.2.1 dX11_remake_11 rfl (lv_at hl 0 rfl) ?_
      refine j_get SS hG hP 0 (v := .ref (q 2)) (C := RX11) (T := TX11) (N := 8) rfl rfl inX11 1 (by decide) (ref := "GridPolygons") kw_386 rfl rfl dX11_remake_12 ?_
      refine j_get SS hG hP 2 (v := .ref (q (9 + 5 * 8))) (C := RX3) (T := TX3) (N := 3) rfl rfl inX3 2 (by decide) (ref := "GridPolygons$Hull") kw_180 rfl rfl dX11_remake_15 ?_
      refine j_getS SS hG hP (9 + 5 * 8) (v := .int (J (u.1.2.2.1 8))) (C := RX7) (T := TX7) (N := 3) (cw_ring (by omega)) rfl inX7 2 (by decide) (ref := "GridPolygons$Ring") kw_135 kw_132 rfl dX11_remake_18 ?_
      refine j_icmp_ge SS (tgt := 59) (x := i) (y := (u.1.2.2.1 8)) dX11_remake_21 (by decide) (by omega) (by omega) (fun c_21 => ?_) (fun c_21 => ?_)
      · skip
        refine lv_aload_n SS.1 SS.2.1 dX11_remake_59 rfl (lv_at hl 1 rfl) ?_
        refine j_get SS hG hP (8 + 5 * 5) (v := .ref (q (12 + 5 * 5))) (C := RX10) (T := TX10) (N := 3) (cw_shape (by omega)) rfl inX10 1 (by decide) (ref := "GridPolygons$Shape") kw_157 rfl rfl dX11_remake_60 ?_
        refine j_iconst SS dX11_remake_63 ?_
        refine j_sWv SS (As := [.ref (q (12 + 5 * 5)), .int (J 0)]) (rest := []) (c_J7_fill_53178 l D (ws := (cW D q (sY (sX (sC u 5 n1) 5 f1) 5 g1))) (A := A) (cW_D hD) (12 + 5 * 5) (0 : Int) (cw_hts (by omega)) (by first | decide | omega)) mf_J7_fill_53178 kw_466 hG hP hS (fun _ h => h) rfl hl.1 ⟨⟨Nat.le_of_ble_eq_true rfl, Nat.le_of_ble_eq_true rfl⟩, Nat.le_of_ble_eq_true rfl, Nat.le_refl _, Nat.le_refl _⟩ rfl dX11_remake_64 (fun _ H locs _ hP _ hS => ?_)
        have hP : va_P D.1 j_cl (cW D q (sY (sX (sH (sC u 5 n1) 5 (jf (u.1.2.2.2.1 5) (0 : Int) 40)) 5 f1) 5 g1)) H := Eq.mp (congrArg (fun w => va_P D.1 j_cl w H) (cs_hts (by omega))) hP
        refine lv_aload_n SS.1 SS.2.1 dX11_remake_67 rfl (lv_at hl 1 rfl) ?_
        refine lv_aload_n SS.1 SS.2.1 dX11_remake_68 rfl (lv_at hl 0 rfl) ?_
        refine j_vWi SS (As := []) (rest := [.ref (q (8 + 5 * 5))]) (c_X11_newStampS l D q (sY (sX (sH (sC u 5 n1) 5 (jf (u.1.2.2.2.1 5) (0 : Int) 40)) 5 f1) 5 g1) A (cW_D hD)   ) mf_X11_newStamp kw_467 hG hP hP (ci := 11) (q0 := 0) rfl rfl rfl hS (fun _ h => h) rfl hl.1 ⟨⟨Nat.le_of_ble_eq_true rfl, Nat.le_of_ble_eq_true rfl⟩, Nat.le_of_ble_eq_true rfl, Nat.le_refl _, Nat.le_refl _⟩ rfl dX11_remake_69 (fun z_69 u69 H locs h_69 hP _ hS => ?_)
        obtain ⟨t_69, rfl, h_69⟩ := h_69
        have hP : va_P D.1 j_cl (cW D q (sY (sX (sV (sH (sC u 5 n1) 5 (jf (u.1.2.2.2.1 5) (0 : Int) 40)) 0 t_69) 5 f1) 5 g1)) H := hP
        have h_69 : z_69 = t_69 ∧ (-2147483648 ≤ t_69 ∧ t_69 ≤ 2147483647) ∧ (-2147483648 ≤ (u.2.2.2 0) → (u.2.2.2 0) < 2147483647 → t_69 = (u.2.2.2 0) + 1) := h_69
        have hv0 := p0.2.2.2.1.1
        refine j_put SS hG hP (cW_D hD) hS (8 + 5 * 5) (v := .int (J z_69)) (ty := .int) (C := RX10) (T := TX10) (N := 3) (cw_shape (by omega)) rfl inX10 tyX10 tyX10_ok nmX10 2 (by decide) (ref := "GridPolygons$Shape") kw_161 rfl rfl (by decide +kernel) rfl rfl (Nat.le_of_ble_eq_true rfl) dX11_remake_72 (ws' := (cW D q (sY (sX (sV (sT (sH (sC u 5 n1) 5 (jf (u.1.2.2.2.1 5) (0 : Int) 40)) 5 z_69) 0 t_69) 5 f1) 5 g1))) (cs_shape (by omega)) (fun H locs hP hS => ?_)
        exact W.vret SS.1 SS.2.1 hr (fun t0 ht hW => ⟨⟨(sY (sX (sV (sT (sH (sC u 5 n1) 5 (jf (u.1.2.2.2.1 5) (0 : Int) 40)) 5 z_69) 0 t_69) 5 f1) 5 g1), rfl, (⟨n1, f1, g1, (jf (u.1.2.2.2.1 5) (0 : Int) 40), z_69, t_69, rfl, ⟨⟨⟨CI_sh p0 (by omega) (by omega) i10_1 (HB_f hHk) (by omega) (by omega), by omega, fun j hj => i10_2 j (by omega)⟩, fun a ha => by unfold jf; exact if_pos ha⟩, fun q => ⟨h_69.1.trans (h_69.2.2 hv0 q), h_69.2.2 hv0 q⟩⟩⟩), by show va_P D.1 j_cl (cW D q (sY (sX (sV (sT (sH (sC u 5 n1) 5 (jf (u.1.2.2.2.1 5) (0 : Int) 40)) 5 z_69) 0 t_69) 5 f1) 5 g1)) t0.heap; rw [ht]; first | exact hP | (simp only [sC_id, sX_id, sY_id, sH_id, sT_id, sV_id]; exact hP)⟩, hS.F ht⟩) hS.2.2 dX11_remake_75 hlk
      · skip
        refine lv_aload_n SS.1 SS.2.1 dX11_remake_24 rfl (lv_at hl 1 rfl) ?_
        refine j_get SS hG hP (8 + 5 * 5) (v := .ref (q (9 + 5 * 5))) (C := RX10) (T := TX10) (N := 3) (cw_shape (by omega)) rfl inX10 0 (by decide) (ref := "GridPolygons$Shape") kw_151 rfl rfl dX11_remake_25 ?_
        refine lv_aload_n SS.1 SS.2.1 dX11_remake_28 rfl (lv_at hl 0 rfl) ?_
        refine j_get SS hG hP 0 (v := .ref (q 2)) (C := RX11) (T := TX11) (N := 8) rfl rfl inX11 1 (by decide) (ref := "GridPolygons") kw_386 rfl rfl dX11_remake_29 ?_
        refine j_get SS hG hP 2 (v := .ref (q (9 + 5 * 8))) (C := RX3) (T := TX3) (N := 3) rfl rfl inX3 2 (by decide) (ref := "GridPolygons$Hull") kw_180 rfl rfl dX11_remake_32 ?_
        refine lv_iload_n SS.1 SS.2.1 dX11_remake_35 rfl (lv_at hl 2 rfl) ?_
        refine j_uRi SS (As := [.int (J i)]) (rest := [.ref (q (9 + 5 * 5))]) (c_X8_x l D q (sY (sX (sC u 5 n1) 5 f1) 5 g1) 8 (by omega) i (show -2147483648 ≤ i ∧ i ≤ 2147483647 from (by omega))) mu_7_x kw_463 hG hP hP (ci := 7) (q0 := (9 + 5 * 8)) rfl (cw_ring (by omega)) rfl rfl hl.1 ⟨⟨Nat.le_of_ble_eq_true rfl, Nat.le_of_ble_eq_true rfl⟩, Nat.le_of_ble_eq_true rfl, Nat.le_refl _, Nat.le_refl _⟩ rfl dX11_remake_36 (fun z_36 h_36 => ?_)
        have h_36 : z_36 = rx (sY (sX (sC u 5 n1) 5 f1) 5 g1) 8 i ∧ ∀ K : Int, 0 ≤ K → RB K (sY (sX (sC u 5 n1) 5 f1) 5 g1) 8 → -K ≤ z_36 ∧ z_36 ≤ K := h_36
        have hb_36 := h_36.2 80 (by omega) (hR8)
        have ex36 : z_36 = u.1.1 8 i.toNat := by rw [h_36.1]; exact if_pos (by rw [rl8]; omega)
        have hq := bd_at p2 (z := i) (by omega) (by omega)
        refine lv_aload_n SS.1 SS.2.1 dX11_remake_39 rfl (lv_at hl 0 rfl) ?_
        refine j_get SS hG hP 0 (v := .ref (q 2)) (C := RX11) (T := TX11) (N := 8) rfl rfl inX11 1 (by decide) (ref := "GridPolygons") kw_386 rfl rfl dX11_remake_40 ?_
        refine j_get SS hG hP 2 (v := .ref (q (9 + 5 * 8))) (C := RX3) (T := TX3) (N := 3) rfl rfl inX3 2 (by decide) (ref := "GridPolygons$Hull") kw_180 rfl rfl dX11_remake_43 ?_
        refine lv_iload_n SS.1 SS.2.1 dX11_remake_46 rfl (lv_at hl 2 rfl) ?_
        refine j_uRi SS (As := [.int (J i)]) (rest := [.int (J z_36), .ref (q (9 + 5 * 5))]) (c_X8_y l D q (sY (sX (sC u 5 n1) 5 f1) 5 g1) 8 (by omega) i (show -2147483648 ≤ i ∧ i ≤ 2147483647 from (by omega))) mu_7_y kw_464 hG hP hP (ci := 7) (q0 := (9 + 5 * 8)) rfl (cw_ring (by omega)) rfl rfl hl.1 ⟨⟨Nat.le_of_ble_eq_true rfl, Nat.le_of_ble_eq_true rfl⟩, Nat.le_of_ble_eq_true rfl, Nat.le_refl _, Nat.le_refl _⟩ rfl dX11_remake_47 (fun z_47 h_47 => ?_)
        have h_47 : z_47 = ry9 (sY (sX (sC u 5 n1) 5 f1) 5 g1) 8 i ∧ ∀ K : Int, 0 ≤ K → RB K (sY (sX (sC u 5 n1) 5 f1) 5 g1) 8 → -K ≤ z_47 ∧ z_47 ≤ K := h_47
        have hb_47 := h_47.2 80 (by omega) (hR8)
        have ex47 : z_47 = u.1.2.1 8 i.toNat := by rw [h_47.1]; exact if_pos (by rw [rl8]; omega)
        refine j_uWv SS (As := [.int (J z_36), .int (J z_47)]) (rest := []) (c_X8_append l D q (sY (sX (sC u 5 n1) 5 f1) 5 g1) A (cW_D hD) 5 (by omega) z_36 z_47 (show 0 ≤ n1 ∧ n1 ≤ rl 5 from (by omega))) mu_7_append kw_465 hG hP hP (ci := 7) (q0 := (9 + 5 * 5)) rfl (cw_ring (by omega)) rfl hS (fun _ h => h) rfl hl.1 ⟨⟨Nat.le_of_ble_eq_true rfl, Nat.le_of_ble_eq_true rfl⟩, Nat.le_of_ble_eq_true rfl, Nat.le_refl _, Nat.le_refl _⟩ rfl dX11_remake_50 (fun u50 H locs h_50 hP _ hS => ?_)
        obtain ⟨f_50, g_50, n_50, rfl, h_50⟩ := h_50
        have hP : va_P D.1 j_cl (cW D q (sY (sX (sC u 5 n_50) 5 f_50) 5 g_50)) H := hP
        have h_50 : (n1 < rl 5 ∧ f_50 = upI (f1) (n1).toNat z_36 ∧ g_50 = upI (g1) (n1).toNat z_47 ∧ n_50 = n1 + 1) ∨ (rl 5 ≤ n1 ∧ f_50 = f1 ∧ g_50 = g1 ∧ n_50 = n1) := h_50
        refine lv_iinc (v := J (i + 1)) (lv' := [(2, .int (J (i + 1))), (0, .ref (q 0)), (1, .ref (q (8 + 5 * 5)))]) SS.1 SS.2.1 dX11_remake_53 hl (k := 2) rfl (J_add _ _) (by decide) rfl (fun ls hl => ?_)
        refine lv_goto (tgt := 10) SS.1 SS.2.1 dX11_remake_56 (by decide) ?_
        exact ih_10 (i + 1) n_50 f_50 g_50 _ _ hP hS ls (lv_sub hl [1, 2, 0] rfl) (by rcases h_50 with q | q; omega; omega) ((ap_b (m := 24) (n0 := n1) (x := z_36) (y := z_47) i10_1 (by omega) (by omega) (by omega) (by rw [hrk] at h_50; exact h_50)).2) (fun j hj => by rcases h_50 with ⟨q0, q1, q2, q3⟩ | q; (rw [q1, q2]; by_cases e : (j : Int) = i; (rw [show j = n1.toNat by omega, upI_s, upI_s, ex36, ex47]; rw [show i.toNat = n1.toNat by omega]; exact ⟨rfl, rfl⟩); (rw [upI_n (by omega), upI_n (by omega)]; exact i10_2 j (by omega))); omega) (by omega)
  exact L_10 ((u.1.2.2.1 8 - (0 : Int)).toNat + 1) 0 0 (u.1.1 5) (u.1.2.1 5) _ _ hP hS ls (lv_sub hl [1, 2, 0] rfl) (by omega) (hRk.2) (fun j hj => by omega) (Nat.lt_succ_self _)

set_option maxHeartbeats 4000000 in
set_option maxRecDepth 100000 in
theorem c_X11_remakeS_6 (l : Launch) (D : JD) (q : Nat → Nat) (u : CS) (A : Nat → Prop) (hD : va_D A (cW D q u)) (p0 : CI u) (p1 : u.1.2.2.1 8 ≤ 24) (p2 : bd 40 (u.1.1 8) (u.1.2.1 8) (u.1.2.2.1 8)) : Met l yX11_remake (jw yX11_remake cX11_remake 3 none) (jr 1 23) (jP [.ref (q 0), .ref (q (8 + 5 * 6))] D (fun H => va_P D.1 j_cl (cW D q u) H)) (jWv (fun u' => ∃ n : Int, ∃ f : Nat → Int, ∃ g : Nat → Int, ∃ hh : Nat → Int, ∃ tt : Int, ∃ st0 : Int, u' = (sY (sX (sV (sT (sH (sC u 6 n) 6 hh) 6 tt) 0 st0) 6 f) 6 g) ∧ (((CI u' ∧ n = u.1.2.2.1 8 ∧ ∀ j : Nat, (j : Int) < n → f j = u.1.1 8 j ∧ g j = u.1.2.1 8 j) ∧ ∀ a : Nat, a < 40 → hh a = 0) ∧ (u.2.2.2 0 < 2147483647 → tt = u.2.2.2 0 + 1 ∧ st0 = u.2.2.2 0 + 1))) (fun u' H => va_P D.1 j_cl (cW D q u') H) A) 0 0 A := by
  refine Met.ofW (cc := cX11_remake) (maxL := 3) (ret := none) (by decide) rfl ?_
  intro pr en st mi args below meth co s₁ B hml hv
  obtain ⟨rfl, hG, hP⟩ := hv
  have hr := B.returns
  have hlk := B.notSynchronized
  have SS : jS pr mi co cX11_remake 3 st _ RX11 := ⟨B.exec, B.bytes, hml, findClass_of_methodNamed B.named, fun w hw => atoms_spec (ws := (jw yX11_remake cX11_remake 3 none)) B.pre w (List.mem_cons_of_mem _ hw)⟩
  have hl := lv_entry ([.ref (q 0), .ref (q (8 + 5 * 6))]) (n := 3) (Nat.le_of_ble_eq_true rfl)
  rw [lg_entry_eq]
  generalize (lg_sl ([.ref (q 0), .ref (q (8 + 5 * 6))]) ++ List.replicate (3 - (lg_sl ([.ref (q 0), .ref (q (8 + 5 * 6))])).length) Slot.unset).toArray = ls at hl ⊢
  have hl : lv_has ls 3 [(0, .ref (q 0)), (1, .ref (q (8 + 5 * 6)))] := hl
  have hS : va_S A st.heap st.heap [] := va_S.rf
  have hR8 : RB 80 u 8 := p0.2.1.1
  have hRk := CI_40 p0 (show 6 < 8 by omega)
  have hc8 := hR8.1
  have hr8 := rl8
  rw [rl8] at hc8
  have hrk : (rl 6 : Int) = 24 := rfl
  have hHk := (p0.1 6 (by omega)).2.1
  refine lv_aload_n SS.1 SS.2.1 dX11_remake_0 rfl (lv_at hl 1 rfl) ?_
  refine j_get SS hG hP (8 + 5 * 6) (v := .ref (q (9 + 5 * 6))) (C := RX10) (T := TX10) (N := 3) (cw_shape (by omega)) rfl inX10 0 (by decide) (ref := "GridPolygons$Shape") kw_151 rfl rfl dX11_remake_1 ?_
  refine j_iconst SS dX11_remake_4 ?_
  refine j_putS SS hG hP (cW_D hD) hS (9 + 5 * 6) (v := .int (J 0)) (ty := .int) (C := RX7) (T := TX7) (N := 3) (cw_ring (by omega)) rfl inX7 tyX7 tyX7_ok nmX7 2 (by decide) (ref := "GridPolygons$Ring") kw_135 kw_132 rfl (by decide +kernel) rfl rfl (Nat.le_of_ble_eq_true rfl) dX11_remake_5 (ws' := (cW D q (sC u 6 0))) (cs_ring (by omega)) (fun H locs hP hS => ?_)
  refine j_iconst SS dX11_remake_8 ?_
  refine lv_istore_n (lv' := [(2, .int (J 0)), (0, .ref (q 0)), (1, .ref (q (8 + 5 * 6)))]) SS.1 SS.2.1 dX11_remake_9 rfl hl (by decide) rfl (fun ls hl => ?_)
  have L_10 : ∀ (nn : Nat) (i : Int) (n1 : Int) (f1 : Nat → Int) (g1 : Nat → Int) (H : Heap) (locs : List Loc) (hP : va_P D.1 j_cl (cW D q (sY (sX (sC u 6 n1) 6 f1) 6 g1)) H) (hS : va_S A st.heap H locs) (ls : Array Slot) (hl : lv_has ls 3 [(0, .ref (q 0)), (1, .ref (q (8 + 5 * 6))), (2, .int (J i))]) (i10_0 : (0 ≤ i ∧ i ≤ u.1.2.2.1 8) ∧ n1 = i) (i10_1 : RV 40 f1 g1) (i10_2 : ∀ j : Nat, (j : Int) < i → f1 j = u.1.1 8 j ∧ g1 j = u.1.2.1 8 j), (u.1.2.2.1 8 - i).toNat < nn → W pr l en (headSpec (jw yX11_remake cX11_remake 3 none) (jr 1 23)).room st mi (([.ref (q 0), .ref (q (8 + 5 * 6))] : List Value).toArray) below meth co H locs 0 0 (MQ below (jWv (fun u' => ∃ n : Int, ∃ f : Nat → Int, ∃ g : Nat → Int, ∃ hh : Nat → Int, ∃ tt : Int, ∃ st0 : Int, u' = (sY (sX (sV (sT (sH (sC u 6 n) 6 hh) 6 tt) 0 st0) 6 f) 6 g) ∧ (((CI u' ∧ n = u.1.2.2.1 8 ∧ ∀ j : Nat, (j : Int) < n → f j = u.1.1 8 j ∧ g j = u.1.2.1 8 j) ∧ ∀ a : Nat, a < 40 → hh a = 0) ∧ (u.2.2.2 0 < 2147483647 → tt = u.2.2.2 0 + 1 ∧ st0 = u.2.2.2 0 + 1))) (fun u' H => va_P D.1 j_cl (cW D q u') H) A) (([.ref (q 0), .ref (q (8 + 5 * 6))] : List Value).toArray) st 0 0 A) (F0 mi 10 ls []) := by
    intro nn
    induction nn with
    | zero => intros; omega
    | succ nn ih_10 =>
      intro i n1 f1 g1 H locs hP hS ls hl i10_0 i10_1 i10_2 hm
      refine lv_iload_n SS.1 SS.2.1 dX11_remake_10 rfl (lv_at hl 2 rfl) ?_
      refine lv_aload_n SS.1 SS.2.1 dX11_remake_11 rfl (lv_at hl 0 rfl) ?_
      refine j_get SS hG hP 0 (v := .ref (q 2)) (C := RX11) (T := TX11) (N := 8) rfl rfl inX11 1 (by decide) (ref := "GridPolygons") kw_386 rfl rfl dX11_remake_12 ?_
      refine j_get SS hG hP 2 (v := .ref (q (9 + 5 * 8))) (C := RX3) (T := TX3) (N := 3) rfl rfl inX3 2 (by decide) (ref := "GridPolygons$Hull") kw_180 rfl rfl dX11_remake_15 ?_
      refine j_getS SS hG hP (9 + 5 * 8) (v := .int (J (u.1.2.2.1 8))) (C := RX7) (T := TX7) (N := 3) (cw_ring (by omega)) rfl inX7 2 (by decide) (ref := "GridPolygons$Ring") kw_135 kw_132 rfl dX11_remake_18 ?_
      refine j_icmp_ge SS (tgt := 59) (x := i) (y := (u.1.2.2.1 8)) dX11_remake_21 (by decide) (by omega) (by omega) (fun c_21 => ?_) (fun c_21 => ?_)
      · skip
        refine lv_aload_n SS.1 SS.2.1 dX11_remake_59 rfl (lv_at hl 1 rfl) ?_
        refine j_get SS hG hP (8 + 5 * 6) (v := .ref (q (12 + 5 * 6))) (C := RX10) (T := TX10) (N := 3) (cw_shape (by omega)) rfl inX10 1 (by decide) (ref := "GridPolygons$Shape") kw_157 rfl rfl dX11_remake_60 ?_
        refine j_iconst SS dX11_remake_63 ?_
        refine j_sWv SS (As := [.ref (q (12 + 5 * 6)), .int (J 0)]) (rest := []) (c_J7_fill_53178 l D (ws := (cW D q (sY (sX (sC u 6 n1) 6 f1) 6 g1))) (A := A) (cW_D hD) (12 + 5 * 6) (0 : Int) (cw_hts (by omega)) (by first | decide | omega)) mf_J7_fill_53178 kw_466 hG hP hS (fun _ h => h) rfl hl.1 ⟨⟨Nat.le_of_ble_eq_true rfl, Nat.le_of_ble_eq_true rfl⟩, Nat.le_of_ble_eq_true rfl, Nat.le_refl _, Nat.le_refl _⟩ rfl dX11_remake_64 (fun _ H locs _ hP _ hS => ?_)
        have hP : va_P D.1 j_cl (cW D q (sY (sX (sH (sC u 6 n1) 6 (jf (u.1.2.2.2.1 6) (0 : Int) 40)) 6 f1) 6 g1)) H := Eq.mp (congrArg (fun w => va_P D.1 j_cl w H) (cs_hts (by omega))) hP
        refine lv_aload_n SS.1 SS.2.1 dX11_remake_67 rfl (lv_at hl 1 rfl) ?_
        refine lv_aload_n SS.1 SS.2.1 dX11_remake_68 rfl (lv_at hl 0 rfl) ?_
        refine j_vWi SS (As := []) (rest := [.ref (q (8 + 5 * 6))]) (c_X11_newStampS l D q (sY (sX (sH (sC u 6 n1) 6 (jf (u.1.2.2.2.1 6) (0 : Int) 40)) 6 f1) 6 g1) A (cW_D hD)   ) mf_X11_newStamp kw_467 hG hP hP (ci := 11) (q0 := 0) rfl rfl rfl hS (fun _ h => h) rfl hl.1 ⟨⟨Nat.le_of_ble_eq_true rfl, Nat.le_of_ble_eq_true rfl⟩, Nat.le_of_ble_eq_true rfl, Nat.le_refl _, Nat.le_refl _⟩ rfl dX11_remake_69 (fun z_69 u69 H locs h_69 hP _ hS => ?_)
        obtain ⟨t_69, rfl, h_69⟩ := h_69
        have hP : va_P D.1 j_cl (cW D q (sY (sX (sV (sH (sC u 6 n1) 6 (jf (u.1.2.2.2.1 6) (0 : Int) 40)) 0 t_69) 6 f1) 6 g1)) H := hP
        have h_69 : z_69 = t_69 ∧ (-2147483648 ≤ t_69 ∧ t_69 ≤ 2147483647) ∧ (-2147483648 ≤ (u.2.2.2 0) → (u.2.2.2 0) < 2147483647 → t_69 = (u.2.2.2 0) + 1) := h_69
        have hv0 := p0.2.2.2.1.1
        refine j_put SS hG hP (cW_D hD) hS (8 + 5 * 6) (v := .int (J z_69)) (ty := .int) (C := RX10) (T := TX10) (N := 3) (cw_shape (by omega)) rfl inX10 tyX10 tyX10_ok nmX10 2 (by decide) (ref := "GridPolygons$Shape") kw_161 rfl rfl (by decide +kernel) rfl rfl (Nat.le_of_ble_eq_true rfl) dX11_remake_72 (ws' := (cW D q (sY (sX (sV (sT (sH (sC u 6 n1) 6 (jf (u.1.2.2.2.1 6) (0 : Int) 40)) 6 z_69) 0 t_69) 6 f1) 6 g1))) (cs_shape (by omega)) (fun H locs hP hS => ?_)
        exact W.vret SS.1 SS.2.1 hr (fun t0 ht hW => ⟨⟨(sY (sX (sV (sT (sH (sC u 6 n1) 6 (jf (u.1.2.2.2.1 6) (0 : Int) 40)) 6 z_69) 0 t_69) 6 f1) 6 g1), rfl, (⟨n1, f1, g1, (jf (u.1.2.2.2.1 6) (0 : Int) 40), z_69, t_69, rfl, ⟨⟨⟨CI_sh p0 (by omega) (by omega) i10_1 (HB_f hHk) (by omega) (by omega), by omega, fun j hj => i10_2 j (by omega)⟩, fun a ha => by unfold jf; exact if_pos ha⟩, fun q => ⟨h_69.1.trans (h_69.2.2 hv0 q), h_69.2.2 hv0 q⟩⟩⟩), by show va_P D.1 j_cl (cW D q (sY (sX (sV (sT (sH (sC u 6 n1) 6 (jf (u.1.2.2.2.1 6) (0 : Int) 40)) 6 z_69) 0 t_69) 6 f1) 6 g1)) t0.heap; rw [ht]; first | exact hP | (simp only [sC_id, sX_id, sY_id, sH_id, sT_id, sV_id]; exact hP)⟩, hS.F ht⟩) hS.2.2 dX11_remake_75 hlk
      · skip
        refine lv_aload_n SS.1 SS.2.1 dX11_remake_24 rfl (lv_at hl 1 rfl) ?_
        refine j_get SS hG hP (8 + 5 * 6) (v := .ref (q (9 + 5 * 6))) (C := RX10) (T := TX10) (N := 3) (cw_shape (by omega)) rfl inX10 0 (by decide) (ref := "GridPolygons$Shape") kw_151 rfl rfl dX11_remake_25 ?_
        refine lv_aload_n SS.1 SS.2.1 dX11_remake_28 rfl (lv_at hl 0 rfl) ?_
        refine j_get SS hG hP 0 (v := .ref (q 2)) (C := RX11) (T := TX11) (N := 8) rfl rfl inX11 1 (by decide) (ref := "GridPolygons") kw_386 rfl rfl dX11_remake_29 ?_
        refine j_get SS hG hP 2 (v := .ref (q (9 + 5 * 8))) (C := RX3) (T := TX3) (N := 3) rfl rfl inX3 2 (by decide) (ref := "GridPolygons$Hull") kw_180 rfl rfl dX11_remake_32 ?_
        refine lv_iload_n SS.1 SS.2.1 dX11_remake_35 rfl (lv_at hl 2 rfl) ?_
        refine j_uRi SS (As := [.int (J i)]) (rest := [.ref (q (9 + 5 * 6))]) (c_X8_x l D q (sY (sX (sC u 6 n1) 6 f1) 6 g1) 8 (by omega) i (show -2147483648 ≤ i ∧ i ≤ 2147483647 from (by omega))) mu_7_x kw_463 hG hP hP (ci := 7) (q0 := (9 + 5 * 8)) rfl (cw_ring (by omega)) rfl rfl hl.1 ⟨⟨Nat.le_of_ble_eq_true rfl, Nat.le_of_ble_eq_true rfl⟩, Nat.le_of_ble_eq_true rfl, Nat.le_refl _, Nat.le_refl _⟩ rfl dX11_remake_36 (fun z_36 h_36 => ?_)
        have h_36 : z_36 = rx (sY (sX (sC u 6 n1) 6 f1) 6 g1) 8 i ∧ ∀ K : Int, 0 ≤ K → RB K (sY (sX (sC u 6 n1) 6 f1) 6 g1) 8 → -K ≤ z_36 ∧ z_36 ≤ K := h_36
        have hb_36 := h_36.2 80 (by omega) (hR8)
        have ex36 : z_36 = u.1.1 8 i.toNat := by rw [h_36.1]; exact if_pos (by rw [rl8]; omega)
        have hq := bd_at p2 (z := i) (by omega) (by omega)
        refine lv_aload_n SS.1 SS.2.1 dX11_remake_39 rfl (lv_at hl 0 rfl) ?_
        refine j_get SS hG hP 0 (v := .ref (q 2)) (C := RX11) (T := TX11) (N := 8) rfl rfl inX11 1 (by decide) (ref := "GridPolygons") kw_386 rfl rfl dX11_remake_40 ?_
        refine j_get SS hG hP 2 (v := .ref (q (9 + 5 * 8))) (C := RX3) (T := TX3) (N := 3) rfl rfl inX3 2 (by decide) (ref := "GridPolygons$Hull") kw_180 rfl rfl dX11_remake_43 ?_
        refine lv_iload_n SS.1 SS.2.1 dX11_remake_46 rfl (lv_at hl 2 rfl) ?_
        refine j_uRi SS (As := [.int (J i)]) (rest := [.int (J z_36), .ref (q (9 + 5 * 6))]) (c_X8_y l D q (sY (sX (sC u 6 n1) 6 f1) 6 g1) 8 (by omega) i (show -2147483648 ≤ i ∧ i ≤ 2147483647 from (by omega))) mu_7_y kw_464 hG hP hP (ci := 7) (q0 := (9 + 5 * 8)) rfl (cw_ring (by omega)) rfl rfl hl.1 ⟨⟨Nat.le_of_ble_eq_true rfl, Nat.le_of_ble_eq_true rfl⟩, Nat.le_of_ble_eq_true rfl, Nat.le_refl _, Nat.le_refl _⟩ rfl dX11_remake_47 (fun z_47 h_47 => ?_)
        have h_47 : z_47 = ry9 (sY (sX (sC u 6 n1) 6 f1) 6 g1) 8 i ∧ ∀ K : Int, 0 ≤ K → RB K (sY (sX (sC u 6 n1) 6 f1) 6 g1) 8 → -K ≤ z_47 ∧ z_47 ≤ K := h_47
        have hb_47 := h_47.2 80 (by omega) (hR8)
        have ex47 : z_47 = u.1.2.1 8 i.toNat := by rw [h_47.1]; exact if_pos (by rw [rl8]; omega)
        refine j_uWv SS (As := [.int (J z_36), .int (J z_47)]) (rest := []) (c_X8_append l D q (sY (sX (sC u 6 n1) 6 f1) 6 g1) A (cW_D hD) 6 (by omega) z_36 z_47 (show 0 ≤ n1 ∧ n1 ≤ rl 6 from (by omega))) mu_7_append kw_465 hG hP hP (ci := 7) (q0 := (9 + 5 * 6)) rfl (cw_ring (by omega)) rfl hS (fun _ h => h) rfl hl.1 ⟨⟨Nat.le_of_ble_eq_true rfl, Nat.le_of_ble_eq_true rfl⟩, Nat.le_of_ble_eq_true rfl, Nat.le_refl _, Nat.le_refl _⟩ rfl dX11_remake_50 (fun u50 H locs h_50 hP _ hS => ?_)
        obtain ⟨f_50, g_50, n_50, rfl, h_50⟩ := h_50
        have hP : va_P D.1 j_cl (cW D q (sY (sX (sC u 6 n_50) 6 f_50) 6 g_50)) H := hP
        have h_50 : (n1 < rl 6 ∧ f_50 = upI (f1) (n1).toNat z_36 ∧ g_50 = upI (g1) (n1).toNat z_47 ∧ n_50 = n1 + 1) ∨ (rl 6 ≤ n1 ∧ f_50 = f1 ∧ g_50 = g1 ∧ n_50 = n1) := h_50
        refine lv_iinc (v := J (i + 1)) (lv' := [(2, .int (J (i + 1))), (0, .ref (q 0)), (1, .ref (q (8 + 5 * 6)))]) SS.1 SS.2.1 dX11_remake_53 hl (k := 2) rfl (J_add _ _) (by decide) rfl (fun ls hl => ?_)
        refine lv_goto (tgt := 10) SS.1 SS.2.1 dX11_remake_56 (by decide) ?_
        exact ih_10 (i + 1) n_50 f_50 g_50 _ _ hP hS ls (lv_sub hl [1, 2, 0] rfl) (by rcases h_50 with q | q; omega; omega) ((ap_b (m := 24) (n0 := n1) (x := z_36) (y := z_47) i10_1 (by omega) (by omega) (by omega) (by rw [hrk] at h_50; exact h_50)).2) (fun j hj => by rcases h_50 with ⟨q0, q1, q2, q3⟩ | q; (rw [q1, q2]; by_cases e : (j : Int) = i; (rw [show j = n1.toNat by omega, upI_s, upI_s, ex36, ex47]; rw [show i.toNat = n1.toNat by omega]; exact ⟨rfl, rfl⟩); (rw [upI_n (by omega), upI_n (by omega)]; exact i10_2 j (by omega))); omega) (by omega)
  exact L_10 ((u.1.2.2.1 8 - (0 : Int)).toNat + 1) 0 0 (u.1.1 6) (u.1.2.1 6) _ _ hP hS ls (lv_sub hl [1, 2, 0] rfl) (by omega) (hRk.2) (fun j hj => by omega) (Nat.lt_succ_self _)

set_option maxHeartbeats 4000000 in
set_option maxRecDepth 100000 in
theorem c_X11_remakeS_7 (l : Launch) (D : JD) (q : Nat → Nat) (u : CS) (A : Nat → Prop) (hD : va_D A (cW D q u)) (p0 : CI u) (p1 : u.1.2.2.1 8 ≤ 24) (p2 : bd 40 (u.1.1 8) (u.1.2.1 8) (u.1.2.2.1 8)) : Met l yX11_remake (jw yX11_remake cX11_remake 3 none) (jr 1 23) (jP [.ref (q 0), .ref (q (8 + 5 * 7))] D (fun H => va_P D.1 j_cl (cW D q u) H)) (jWv (fun u' => ∃ n : Int, ∃ f : Nat → Int, ∃ g : Nat → Int, ∃ hh : Nat → Int, ∃ tt : Int, ∃ st0 : Int, u' = (sY (sX (sV (sT (sH (sC u 7 n) 7 hh) 7 tt) 0 st0) 7 f) 7 g) ∧ (((CI u' ∧ n = u.1.2.2.1 8 ∧ ∀ j : Nat, (j : Int) < n → f j = u.1.1 8 j ∧ g j = u.1.2.1 8 j) ∧ ∀ a : Nat, a < 40 → hh a = 0) ∧ (u.2.2.2 0 < 2147483647 → tt = u.2.2.2 0 + 1 ∧ st0 = u.2.2.2 0 + 1))) (fun u' H => va_P D.1 j_cl (cW D q u') H) A) 0 0 A := by
  refine Met.ofW (cc := cX11_remake) (maxL := 3) (ret := none) (by decide) rfl ?_
  intro pr en st mi args below meth co s₁ B hml hv
  obtain ⟨rfl, hG, hP⟩ := hv
  have hr := B.returns
  have hlk := B.notSynchronized
  have SS : jS pr mi co cX11_remake 3 st _ RX11 := ⟨B.exec, B.bytes, hml, findClass_of_methodNamed B.named, fun w hw => atoms_spec (ws := (jw yX11_remake cX11_remake 3 none)) B.pre w (List.mem_cons_of_mem _ hw)⟩
  have hl := lv_entry ([.ref (q 0), .ref (q (8 + 5 * 7))]) (n := 3) (Nat.le_of_ble_eq_true rfl)
  rw [lg_entry_eq]
  generalize (lg_sl ([.ref (q 0), .ref (q (8 + 5 * 7))]) ++ List.replicate (3 - (lg_sl ([.ref (q 0), .ref (q (8 + 5 * 7))])).length) Slot.unset).toArray = ls at hl ⊢
  have hl : lv_has ls 3 [(0, .ref (q 0)), (1, .ref (q (8 + 5 * 7)))] := hl
  have hS : va_S A st.heap st.heap [] := va_S.rf
  have hR8 : RB 80 u 8 := p0.2.1.1
  have hRk := CI_40 p0 (show 7 < 8 by omega)
  have hc8 := hR8.1
  have hr8 := rl8
  rw [rl8] at hc8
  have hrk : (rl 7 : Int) = 24 := rfl
  have hHk := (p0.1 7 (by omega)).2.1
  refine lv_aload_n SS.1 SS.2.1 dX11_remake_0 rfl (lv_at hl 1 rfl) ?_
  refine j_get SS hG hP (8 + 5 * 7) (v := .ref (q (9 + 5 * 7))) (C := RX10) (T := TX10) (N := 3) (cw_shape (by omega)) rfl inX10 0 (by decide) (ref := "GridPolygons$Shape") kw_151 rfl rfl dX11_remake_1 ?_
  refine j_iconst SS dX11_remake_4 ?_
  refine j_putS SS hG hP (cW_D hD) hS (9 + 5 * 7) (v := .int (J 0)) (ty := .int) (C := RX7) (T := TX7) (N := 3) (cw_ring (by omega)) rfl inX7 tyX7 tyX7_ok nmX7 2 (by decide) (ref := "GridPolygons$Ring") kw_135 kw_132 rfl (by decide +kernel) rfl rfl (Nat.le_of_ble_eq_true rfl) dX11_remake_5 (ws' := (cW D q (sC u 7 0))) (cs_ring (by omega)) (fun H locs hP hS => ?_)
  refine j_iconst SS dX11_remake_8 ?_
  refine lv_istore_n (lv' := [(2, .int (J 0)), (0, .ref (q 0)), (1, .ref (q (8 + 5 * 7)))]) SS.1 SS.2.1 dX11_remake_9 rfl hl (by decide) rfl (fun ls hl => ?_)
  have L_10 : ∀ (nn : Nat) (i : Int) (n1 : Int) (f1 : Nat → Int) (g1 : Nat → Int) (H : Heap) (locs : List Loc) (hP : va_P D.1 j_cl (cW D q (sY (sX (sC u 7 n1) 7 f1) 7 g1)) H) (hS : va_S A st.heap H locs) (ls : Array Slot) (hl : lv_has ls 3 [(0, .ref (q 0)), (1, .ref (q (8 + 5 * 7))), (2, .int (J i))]) (i10_0 : (0 ≤ i ∧ i ≤ u.1.2.2.1 8) ∧ n1 = i) (i10_1 : RV 40 f1 g1) (i10_2 : ∀ j : Nat, (j : Int) < i → f1 j = u.1.1 8 j ∧ g1 j = u.1.2.1 8 j), (u.1.2.2.1 8 - i).toNat < nn → W pr l en (headSpec (jw yX11_remake cX11_remake 3 none) (jr 1 23)).room st mi (([.ref (q 0), .ref (q (8 + 5 * 7))] : List Value).toArray) below meth co H locs 0 0 (MQ below (jWv (fun u' => ∃ n : Int, ∃ f : Nat → Int, ∃ g : Nat → Int, ∃ hh : Nat → Int, ∃ tt : Int, ∃ st0 : Int, u' = (sY (sX (sV (sT (sH (sC u 7 n) 7 hh) 7 tt) 0 st0) 7 f) 7 g) ∧ (((CI u' ∧ n = u.1.2.2.1 8 ∧ ∀ j : Nat, (j : Int) < n → f j = u.1.1 8 j ∧ g j = u.1.2.1 8 j) ∧ ∀ a : Nat, a < 40 → hh a = 0) ∧ (u.2.2.2 0 < 2147483647 → tt = u.2.2.2 0 + 1 ∧ st0 = u.2.2.2 0 + 1))) (fun u' H => va_P D.1 j_cl (cW D q u') H) A) (([.ref (q 0), .ref (q (8 + 5 * 7))] : List Value).toArray) st 0 0 A) (F0 mi 10 ls []) := by
    intro nn
    induction nn with
    | zero => intros; omega
    | succ nn ih_10 =>
      intro i n1 f1 g1 H locs hP hS ls hl i10_0 i10_1 i10_2 hm
      refine lv_iload_n SS.1 SS.2.1 dX11_remake_10 rfl (lv_at hl 2 rfl) ?_
      refine lv_aload_n SS.1 SS.2.1 dX11_remake_11 rfl (lv_at hl 0 rfl) ?_
      refine j_get SS hG hP 0 (v := .ref (q 2)) (C := RX11) (T := TX11) (N := 8) rfl rfl inX11 1 (by decide) (ref := "GridPolygons") kw_386 rfl rfl dX11_remake_12 ?_
      refine j_get SS hG hP 2 (v := .ref (q (9 + 5 * 8))) (C := RX3) (T := TX3) (N := 3) rfl rfl inX3 2 (by decide) (ref := "GridPolygons$Hull") kw_180 rfl rfl dX11_remake_15 ?_
      refine j_getS SS hG hP (9 + 5 * 8) (v := .int (J (u.1.2.2.1 8))) (C := RX7) (T := TX7) (N := 3) (cw_ring (by omega)) rfl inX7 2 (by decide) (ref := "GridPolygons$Ring") kw_135 kw_132 rfl dX11_remake_18 ?_
      refine j_icmp_ge SS (tgt := 59) (x := i) (y := (u.1.2.2.1 8)) dX11_remake_21 (by decide) (by omega) (by omega) (fun c_21 => ?_) (fun c_21 => ?_)
      · skip
        refine lv_aload_n SS.1 SS.2.1 dX11_remake_59 rfl (lv_at hl 1 rfl) ?_
        refine j_get SS hG hP (8 + 5 * 7) (v := .ref (q (12 + 5 * 7))) (C := RX10) (T := TX10) (N := 3) (cw_shape (by omega)) rfl inX10 1 (by decide) (ref := "GridPolygons$Shape") kw_157 rfl rfl dX11_remake_60 ?_
        refine j_iconst SS dX11_remake_63 ?_
        refine j_sWv SS (As := [.ref (q (12 + 5 * 7)), .int (J 0)]) (rest := []) (c_J7_fill_53178 l D (ws := (cW D q (sY (sX (sC u 7 n1) 7 f1) 7 g1))) (A := A) (cW_D hD) (12 + 5 * 7) (0 : Int) (cw_hts (by omega)) (by first | decide | omega)) mf_J7_fill_53178 kw_466 hG hP hS (fun _ h => h) rfl hl.1 ⟨⟨Nat.le_of_ble_eq_true rfl, Nat.le_of_ble_eq_true rfl⟩, Nat.le_of_ble_eq_true rfl, Nat.le_refl _, Nat.le_refl _⟩ rfl dX11_remake_64 (fun _ H locs _ hP _ hS => ?_)
        have hP : va_P D.1 j_cl (cW D q (sY (sX (sH (sC u 7 n1) 7 (jf (u.1.2.2.2.1 7) (0 : Int) 40)) 7 f1) 7 g1)) H := Eq.mp (congrArg (fun w => va_P D.1 j_cl w H) (cs_hts (by omega))) hP
        refine lv_aload_n SS.1 SS.2.1 dX11_remake_67 rfl (lv_at hl 1 rfl) ?_
        refine lv_aload_n SS.1 SS.2.1 dX11_remake_68 rfl (lv_at hl 0 rfl) ?_
        refine j_vWi SS (As := []) (rest := [.ref (q (8 + 5 * 7))]) (c_X11_newStampS l D q (sY (sX (sH (sC u 7 n1) 7 (jf (u.1.2.2.2.1 7) (0 : Int) 40)) 7 f1) 7 g1) A (cW_D hD)   ) mf_X11_newStamp kw_467 hG hP hP (ci := 11) (q0 := 0) rfl rfl rfl hS (fun _ h => h) rfl hl.1 ⟨⟨Nat.le_of_ble_eq_true rfl, Nat.le_of_ble_eq_true rfl⟩, Nat.le_of_ble_eq_true rfl, Nat.le_refl _, Nat.le_refl _⟩ rfl dX11_remake_69 (fun z_69 u69 H locs h_69 hP _ hS => ?_)
        obtain ⟨t_69, rfl, h_69⟩ := h_69
        have hP : va_P D.1 j_cl (cW D q (sY (sX (sV (sH (sC u 7 n1) 7 (jf (u.1.2.2.2.1 7) (0 : Int) 40)) 0 t_69) 7 f1) 7 g1)) H := hP
        have h_69 : z_69 = t_69 ∧ (-2147483648 ≤ t_69 ∧ t_69 ≤ 2147483647) ∧ (-2147483648 ≤ (u.2.2.2 0) → (u.2.2.2 0) < 2147483647 → t_69 = (u.2.2.2 0) + 1) := h_69
        have hv0 := p0.2.2.2.1.1
        refine j_put SS hG hP (cW_D hD) hS (8 + 5 * 7) (v := .int (J z_69)) (ty := .int) (C := RX10) (T := TX10) (N := 3) (cw_shape (by omega)) rfl inX10 tyX10 tyX10_ok nmX10 2 (by decide) (ref := "GridPolygons$Shape") kw_161 rfl rfl (by decide +kernel) rfl rfl (Nat.le_of_ble_eq_true rfl) dX11_remake_72 (ws' := (cW D q (sY (sX (sV (sT (sH (sC u 7 n1) 7 (jf (u.1.2.2.2.1 7) (0 : Int) 40)) 7 z_69) 0 t_69) 7 f1) 7 g1))) (cs_shape (by omega)) (fun H locs hP hS => ?_)
        exact W.vret SS.1 SS.2.1 hr (fun t0 ht hW => ⟨⟨(sY (sX (sV (sT (sH (sC u 7 n1) 7 (jf (u.1.2.2.2.1 7) (0 : Int) 40)) 7 z_69) 0 t_69) 7 f1) 7 g1), rfl, (⟨n1, f1, g1, (jf (u.1.2.2.2.1 7) (0 : Int) 40), z_69, t_69, rfl, ⟨⟨⟨CI_sh p0 (by omega) (by omega) i10_1 (HB_f hHk) (by omega) (by omega), by omega, fun j hj => i10_2 j (by omega)⟩, fun a ha => by unfold jf; exact if_pos ha⟩, fun q => ⟨h_69.1.trans (h_69.2.2 hv0 q), h_69.2.2 hv0 q⟩⟩⟩), by show va_P D.1 j_cl (cW D q (sY (sX (sV (sT (sH (sC u 7 n1) 7 (jf (u.1.2.2.2.1 7) (0 : Int) 40)) 7 z_69) 0 t_69) 7 f1) 7 g1)) t0.heap; rw [ht]; first | exact hP | (simp only [sC_id, sX_id, sY_id, sH_id, sT_id, sV_id]; exact hP)⟩, hS.F ht⟩) hS.2.2 dX11_remake_75 hlk
      · skip
        refine lv_aload_n SS.1 SS.2.1 dX11_remake_24 rfl (lv_at hl 1 rfl) ?_
        refine j_get SS hG hP (8 + 5 * 7) (v := .ref (q (9 + 5 * 7))) (C := RX10) (T := TX10) (N := 3) (cw_shape (by omega)) rfl inX10 0 (by decide) (ref := "GridPolygons$Shape") kw_151 rfl rfl dX11_remake_25 ?_
        refine lv_aload_n SS.1 SS.2.1 dX11_remake_28 rfl (lv_at hl 0 rfl) ?_
        refine j_get SS hG hP 0 (v := .ref (q 2)) (C := RX11) (T := TX11) (N := 8) rfl rfl inX11 1 (by decide) (ref := "GridPolygons") kw_386 rfl rfl dX11_remake_29 ?_
        refine j_get SS hG hP 2 (v := .ref (q (9 + 5 * 8))) (C := RX3) (T := TX3) (N := 3) rfl rfl inX3 2 (by decide) (ref := "GridPolygons$Hull") kw_180 rfl rfl dX11_remake_32 ?_
        refine lv_iload_n SS.1 SS.2.1 dX11_remake_35 rfl (lv_at hl 2 rfl) ?_
        refine j_uRi SS (As := [.int (J i)]) (rest := [.ref (q (9 + 5 * 7))]) (c_X8_x l D q (sY (sX (sC u 7 n1) 7 f1) 7 g1) 8 (by omega) i (show -2147483648 ≤ i ∧ i ≤ 2147483647 from (by omega))) mu_7_x kw_463 hG hP hP (ci := 7) (q0 := (9 + 5 * 8)) rfl (cw_ring (by omega)) rfl rfl hl.1 ⟨⟨Nat.le_of_ble_eq_true rfl, Nat.le_of_ble_eq_true rfl⟩, Nat.le_of_ble_eq_true rfl, Nat.le_refl _, Nat.le_refl _⟩ rfl dX11_remake_36 (fun z_36 h_36 => ?_)
        have h_36 : z_36 = rx (sY (sX (sC u 7 n1) 7 f1) 7 g1) 8 i ∧ ∀ K : Int, 0 ≤ K → RB K (sY (sX (sC u 7 n1) 7 f1) 7 g1) 8 → -K ≤ z_36 ∧ z_36 ≤ K := h_36
        have hb_36 := h_36.2 80 (by omega) (hR8)
        have ex36 : z_36 = u.1.1 8 i.toNat := by rw [h_36.1]; exact if_pos (by rw [rl8]; omega)
        have hq := bd_at p2 (z := i) (by omega) (by omega)
        refine lv_aload_n SS.1 SS.2.1 dX11_remake_39 rfl (lv_at hl 0 rfl) ?_
        refine j_get SS hG hP 0 (v := .ref (q 2)) (C := RX11) (T := TX11) (N := 8) rfl rfl inX11 1 (by decide) (ref := "GridPolygons") kw_386 rfl rfl dX11_remake_40 ?_
        refine j_get SS hG hP 2 (v := .ref (q (9 + 5 * 8))) (C := RX3) (T := TX3) (N := 3) rfl rfl inX3 2 (by decide) (ref := "GridPolygons$Hull") kw_180 rfl rfl dX11_remake_43 ?_
        refine lv_iload_n SS.1 SS.2.1 dX11_remake_46 rfl (lv_at hl 2 rfl) ?_
        refine j_uRi SS (As := [.int (J i)]) (rest := [.int (J z_36), .ref (q (9 + 5 * 7))]) (c_X8_y l D q (sY (sX (sC u 7 n1) 7 f1) 7 g1) 8 (by omega) i (show -2147483648 ≤ i ∧ i ≤ 2147483647 from (by omega))) mu_7_y kw_464 hG hP hP (ci := 7) (q0 := (9 + 5 * 8)) rfl (cw_ring (by omega)) rfl rfl hl.1 ⟨⟨Nat.le_of_ble_eq_true rfl, Nat.le_of_ble_eq_true rfl⟩, Nat.le_of_ble_eq_true rfl, Nat.le_refl _, Nat.le_refl _⟩ rfl dX11_remake_47 (fun z_47 h_47 => ?_)
        have h_47 : z_47 = ry9 (sY (sX (sC u 7 n1) 7 f1) 7 g1) 8 i ∧ ∀ K : Int, 0 ≤ K → RB K (sY (sX (sC u 7 n1) 7 f1) 7 g1) 8 → -K ≤ z_47 ∧ z_47 ≤ K := h_47
        have hb_47 := h_47.2 80 (by omega) (hR8)
        have ex47 : z_47 = u.1.2.1 8 i.toNat := by rw [h_47.1]; exact if_pos (by rw [rl8]; omega)
        refine j_uWv SS (As := [.int (J z_36), .int (J z_47)]) (rest := []) (c_X8_append l D q (sY (sX (sC u 7 n1) 7 f1) 7 g1) A (cW_D hD) 7 (by omega) z_36 z_47 (show 0 ≤ n1 ∧ n1 ≤ rl 7 from (by omega))) mu_7_append kw_465 hG hP hP (ci := 7) (q0 := (9 + 5 * 7)) rfl (cw_ring (by omega)) rfl hS (fun _ h => h) rfl hl.1 ⟨⟨Nat.le_of_ble_eq_true rfl, Nat.le_of_ble_eq_true rfl⟩, Nat.le_of_ble_eq_true rfl, Nat.le_refl _, Nat.le_refl _⟩ rfl dX11_remake_50 (fun u50 H locs h_50 hP _ hS => ?_)
        obtain ⟨f_50, g_50, n_50, rfl, h_50⟩ := h_50
        have hP : va_P D.1 j_cl (cW D q (sY (sX (sC u 7 n_50) 7 f_50) 7 g_50)) H := hP
        have h_50 : (n1 < rl 7 ∧ f_50 = upI (f1) (n1).toNat z_36 ∧ g_50 = upI (g1) (n1).toNat z_47 ∧ n_50 = n1 + 1) ∨ (rl 7 ≤ n1 ∧ f_50 = f1 ∧ g_50 = g1 ∧ n_50 = n1) := h_50
        refine lv_iinc (v := J (i + 1)) (lv' := [(2, .int (J (i + 1))), (0, .ref (q 0)), (1, .ref (q (8 + 5 * 7)))]) SS.1 SS.2.1 dX11_remake_53 hl (k := 2) rfl (J_add _ _) (by decide) rfl (fun ls hl => ?_)
        refine lv_goto (tgt := 10) SS.1 SS.2.1 dX11_remake_56 (by decide) ?_
        exact ih_10 (i + 1) n_50 f_50 g_50 _ _ hP hS ls (lv_sub hl [1, 2, 0] rfl) (by rcases h_50 with q | q; omega; omega) ((ap_b (m := 24) (n0 := n1) (x := z_36) (y := z_47) i10_1 (by omega) (by omega) (by omega) (by rw [hrk] at h_50; exact h_50)).2) (fun j hj => by rcases h_50 with ⟨q0, q1, q2, q3⟩ | q; (rw [q1, q2]; by_cases e : (j : Int) = i; (rw [show j = n1.toNat by omega, upI_s, upI_s, ex36, ex47]; rw [show i.toNat = n1.toNat by omega]; exact ⟨rfl, rfl⟩); (rw [upI_n (by omega), upI_n (by omega)]; exact i10_2 j (by omega))); omega) (by omega)
  exact L_10 ((u.1.2.2.1 8 - (0 : Int)).toNat + 1) 0 0 (u.1.1 7) (u.1.2.1 7) _ _ hP hS ls (lv_sub hl [1, 2, 0] rfl) (by omega) (hRk.2) (fun j hj => by omega) (Nat.lt_succ_self _)

set_option maxHeartbeats 4000000 in
set_option maxRecDepth 100000 in
theorem c_X11_remakeS (l : Launch) (D : JD) (q : Nat → Nat) (u : CS) (A : Nat → Prop) (hD : va_D A (cW D q u)) (i : Nat) (hi : i < 8) (p0 : CI u) (p1 : u.1.2.2.1 8 ≤ 24) (p2 : bd 40 (u.1.1 8) (u.1.2.1 8) (u.1.2.2.1 8)) : Met l yX11_remake (jw yX11_remake cX11_remake 3 none) (jr 1 23) (jP [.ref (q 0), .ref (q (8 + 5 * i))] D (fun H => va_P D.1 j_cl (cW D q u) H)) (jWv (fun u' => ∃ n : Int, ∃ f : Nat → Int, ∃ g : Nat → Int, ∃ hh : Nat → Int, ∃ tt : Int, ∃ st0 : Int, u' = (sY (sX (sV (sT (sH (sC u i n) i hh) i tt) 0 st0) i f) i g) ∧ (((CI u' ∧ n = u.1.2.2.1 8 ∧ ∀ j : Nat, (j : Int) < n → f j = u.1.1 8 j ∧ g j = u.1.2.1 8 j) ∧ ∀ a : Nat, a < 40 → hh a = 0) ∧ (u.2.2.2 0 < 2147483647 → tt = u.2.2.2 0 + 1 ∧ st0 = u.2.2.2 0 + 1))) (fun u' H => va_P D.1 j_cl (cW D q u') H) A) 0 0 A := by
  rcases (show i = 0 ∨ i = 1 ∨ i = 2 ∨ i = 3 ∨ i = 4 ∨ i = 5 ∨ i = 6 ∨ i = 7 by omega) with rfl | rfl | rfl | rfl | rfl | rfl | rfl | rfl
  · exact c_X11_remakeS_0 l D q u A hD p0 p1 p2
  · exact c_X11_remakeS_1 l D q u A hD p0 p1 p2
  · exact c_X11_remakeS_2 l D q u A hD p0 p1 p2
  · exact c_X11_remakeS_3 l D q u A hD p0 p1 p2
  · exact c_X11_remakeS_4 l D q u A hD p0 p1 p2
  · exact c_X11_remakeS_5 l D q u A hD p0 p1 p2
  · exact c_X11_remakeS_6 l D q u A hD p0 p1 p2
  · exact c_X11_remakeS_7 l D q u A hD p0 p1 p2

set_option maxHeartbeats 4000000 in
set_option maxRecDepth 100000 in
theorem c_X11_remakeIfFitsS (l : Launch) (D : JD) (q : Nat → Nat) (u : CS) (A : Nat → Prop) (hD : va_D A (cW D q u)) (i : Nat) (hi : i < 8) (p0 : CI u) : Met l yX11_remakeIfFits (jw yX11_remakeIfFits cX11_remakeIfFits 2 (some .int)) (jr 2 45) (jP [.ref (q 0), .ref (q (8 + 5 * i))] D (fun H => va_P D.1 j_cl (cW D q u) H)) (jWi (fun z u' => ∃ n : Int, ∃ f : Nat → Int, ∃ g : Nat → Int, ∃ hh : Nat → Int, ∃ tt : Int, ∃ st0 : Int, u' = (sY (sX (sV (sT (sH (sC u i n) i hh) i tt) 0 st0) i f) i g) ∧ (((CI u' ∧ ((z = -3 ∧ ¬ (u.1.2.2.1 8 ≤ 24 ∧ bd 40 (u.1.1 8) (u.1.2.1 8) (u.1.2.2.1 8)) ∧ cSame u u') ∨ (z = u.1.2.2.1 8 ∧ u.1.2.2.1 8 ≤ 24 ∧ bd 40 (u.1.1 8) (u.1.2.1 8) (u.1.2.2.1 8) ∧ cNew u u' i (u.1.2.2.1 8) (u.1.1 8) (u.1.2.1 8)))) ∧ ((z = -3 ∧ hh = u.1.2.2.2.1 i) ∨ (0 ≤ z ∧ ∀ a : Nat, a < 40 → hh a = 0))) ∧ ((z = -3 ∧ tt = u.1.2.2.2.2 i ∧ st0 = u.2.2.2 0) ∨ (0 ≤ z ∧ (u.2.2.2 0 < 2147483647 → tt = u.2.2.2 0 + 1 ∧ st0 = u.2.2.2 0 + 1))))) (fun u' H => va_P D.1 j_cl (cW D q u') H) A) 0 0 A := by
  refine Met.ofW (cc := cX11_remakeIfFits) (maxL := 2) (ret := (some .int)) (by decide) rfl ?_
  intro pr en st mi args below meth co s₁ B hml hv
  obtain ⟨rfl, hG, hP⟩ := hv
  have hr := B.returns
  have hlk := B.notSynchronized
  have SS : jS pr mi co cX11_remakeIfFits 2 st _ RX11 := ⟨B.exec, B.bytes, hml, findClass_of_methodNamed B.named, fun w hw => atoms_spec (ws := (jw yX11_remakeIfFits cX11_remakeIfFits 2 (some .int))) B.pre w (List.mem_cons_of_mem _ hw)⟩
  have hl := lv_entry ([.ref (q 0), .ref (q (8 + 5 * i))]) (n := 2) (Nat.le_of_ble_eq_true rfl)
  rw [lg_entry_eq]
  generalize (lg_sl ([.ref (q 0), .ref (q (8 + 5 * i))]) ++ List.replicate (2 - (lg_sl ([.ref (q 0), .ref (q (8 + 5 * i))])).length) Slot.unset).toArray = ls at hl ⊢
  have hl : lv_has ls 2 [(0, .ref (q 0)), (1, .ref (q (8 + 5 * i)))] := hl
  have hS : va_S A st.heap st.heap [] := va_S.rf
  have hc8 := p0.2.1.1.1
  have hr8 := rl8
  rw [rl8] at hc8
  refine lv_aload_n SS.1 SS.2.1 dX11_remakeIfFits_0 rfl (lv_at hl 0 rfl) ?_
  refine j_get SS hG hP 0 (v := .ref (q 2)) (C := RX11) (T := TX11) (N := 8) rfl rfl inX11 1 (by decide) (ref := "GridPolygons") kw_386 rfl rfl dX11_remakeIfFits_1 ?_
  refine j_get SS hG hP 2 (v := .ref (q (9 + 5 * 8))) (C := RX3) (T := TX3) (N := 3) rfl rfl inX3 2 (by decide) (ref := "GridPolygons$Hull") kw_180 rfl rfl dX11_remakeIfFits_4 ?_
  refine j_getS SS hG hP (9 + 5 * 8) (v := .int (J (u.1.2.2.1 8))) (C := RX7) (T := TX7) (N := 3) (cw_ring (by omega)) rfl inX7 2 (by decide) (ref := "GridPolygons$Ring") kw_135 kw_132 rfl dX11_remakeIfFits_7 ?_
  refine j_bipush SS dX11_remakeIfFits_10 (by decide +kernel) ?_
  refine j_icmp_gt SS (tgt := 28) (x := (u.1.2.2.1 8)) (y := 24) dX11_remakeIfFits_12 (by decide) (by omega) (by decide) (fun c_12 => ?_) (fun c_12 => ?_)
  · skip
    refine j_bipush SS dX11_remakeIfFits_28 (by decide +kernel) ?_
    exact W.iret SS.1 SS.2.1 hr (fun t0 ht hW => ⟨⟨_, (sY (sX (sV (sT (sH (sC u i (u.1.2.2.1 i)) i (u.1.2.2.2.1 i)) i (u.1.2.2.2.2 i)) 0 (u.2.2.2 0)) i (u.1.1 i)) i (u.1.2.1 i)), rfl, ⟨(-3), rfl, (⟨(u.1.2.2.1 i), (u.1.1 i), (u.1.2.1 i), (u.1.2.2.2.1 i), (u.1.2.2.2.2 i), (u.2.2.2 0), rfl, ⟨⟨⟨CI_id p0 (by omega), Or.inl ⟨rfl, fun q => by first | omega | (rcases h_22 with q2 | q2; omega; exact q2.2 q.2), by simp only [sC_id, sX_id, sY_id, sH_id, sT_id, sV_id]; exact cs_refl⟩⟩, Or.inl ⟨rfl, rfl⟩⟩, Or.inl ⟨rfl, rfl, rfl⟩⟩⟩)⟩, by show va_P D.1 j_cl (cW D q (sY (sX (sV (sT (sH (sC u i (u.1.2.2.1 i)) i (u.1.2.2.2.1 i)) i (u.1.2.2.2.2 i)) 0 (u.2.2.2 0)) i (u.1.1 i)) i (u.1.2.1 i))) t0.heap; rw [ht]; first | exact hP | (simp only [sC_id, sX_id, sY_id, sH_id, sT_id, sV_id]; exact hP)⟩, hS.F ht⟩) hS.2.2 dX11_remakeIfFits_30 hlk
  · skip
    refine lv_aload_n SS.1 SS.2.1 dX11_remakeIfFits_15 rfl (lv_at hl 0 rfl) ?_
    refine j_get SS hG hP 0 (v := .ref (q 2)) (C := RX11) (T := TX11) (N := 8) rfl rfl inX11 1 (by decide) (ref := "GridPolygons") kw_386 rfl rfl dX11_remakeIfFits_16 ?_
    refine j_get SS hG hP 2 (v := .ref (q (9 + 5 * 8))) (C := RX3) (T := TX3) (N := 3) rfl rfl inX3 2 (by decide) (ref := "GridPolygons$Hull") kw_180 rfl rfl dX11_remakeIfFits_19 ?_
    refine j_vRi SS (As := []) (rest := []) (c_X7_isOnGrid l D q u 8 (by omega) (80 : Int)  (show 0 ≤ (80 : Int) ∧ (80 : Int) ≤ 80 from (by omega)) (show RB (80 : Int) u 8 from (p0.2.1.1))) mf_X7_isOnGrid kw_497 hG hP hP (ci := 7) (q0 := (9 + 5 * 8)) rfl (cw_ring (by omega)) rfl rfl hl.1 ⟨⟨Nat.le_of_ble_eq_true rfl, Nat.le_of_ble_eq_true rfl⟩, Nat.le_of_ble_eq_true rfl, Nat.le_refl _, Nat.le_refl _⟩ rfl dX11_remakeIfFits_22 (fun z_22 h_22 => ?_)
    have h_22 : (z_22 = 1 ∧ bd 40 ((u.1.1 8)) ((u.1.2.1 8)) ((u.1.2.2.1 8))) ∨ (z_22 = 0 ∧ ¬ bd 40 ((u.1.1 8)) ((u.1.2.1 8)) ((u.1.2.2.1 8))) := h_22
    refine j_if_ne SS (tgt := 31) (x := z_22) dX11_remakeIfFits_25 (by decide) (by omega) (fun c_25 => ?_) (fun c_25 => ?_)
    · skip
      refine lv_aload_n SS.1 SS.2.1 dX11_remakeIfFits_31 rfl (lv_at hl 0 rfl) ?_
      refine lv_aload_n SS.1 SS.2.1 dX11_remakeIfFits_32 rfl (lv_at hl 1 rfl) ?_
      refine j_vWv SS (As := [.ref (q (8 + 5 * i))]) (rest := []) (c_X11_remakeS l D q u A (cW_D hD) i (by omega)  (show CI u from (p0)) (show (u.1.2.2.1 8) ≤ 24 from (by omega)) (show bd 40 ((u.1.1 8)) ((u.1.2.1 8)) ((u.1.2.2.1 8)) from (by rcases h_22 with q | q; exact q.2; omega))) mf_X11_remake kw_459 hG hP hP (ci := 11) (q0 := 0) rfl rfl rfl hS (fun _ h => h) rfl hl.1 ⟨⟨Nat.le_of_ble_eq_true rfl, Nat.le_of_ble_eq_true rfl⟩, Nat.le_of_ble_eq_true rfl, Nat.le_refl _, Nat.le_refl _⟩ rfl dX11_remakeIfFits_33 (fun u33 H locs h_33 hP _ hS => ?_)
      obtain ⟨n_33, f_33, g_33, hh_33, tt_33, st0_33, rfl, h_33⟩ := h_33
      have hP : va_P D.1 j_cl (cW D q (sY (sX (sV (sT (sH (sC u i n_33) i hh_33) i tt_33) 0 st0_33) i f_33) i g_33)) H := hP
      have h_33 : ((CI (sY (sX (sV (sT (sH (sC u i n_33) i hh_33) i tt_33) 0 st0_33) i f_33) i g_33) ∧ n_33 = (u.1.2.2.1 8) ∧ ∀ j : Nat, (j : Int) < n_33 → f_33 j = (u.1.1 8) j ∧ g_33 j = (u.1.2.1 8) j) ∧ ∀ a : Nat, a < 40 → hh_33 a = 0) ∧ ((u.2.2.2 0) < 2147483647 → tt_33 = (u.2.2.2 0) + 1 ∧ st0_33 = (u.2.2.2 0) + 1) := h_33
      obtain ⟨h_33, sz_33⟩ := h_33
      obtain ⟨h_33, hz_33⟩ := h_33
      refine lv_aload_n SS.1 SS.2.1 dX11_remakeIfFits_36 rfl (lv_at hl 1 rfl) ?_
      refine j_get SS hG hP (8 + 5 * i) (v := .ref (q (9 + 5 * i))) (C := RX10) (T := TX10) (N := 3) (cw_shape (by omega)) rfl inX10 0 (by decide) (ref := "GridPolygons$Shape") kw_151 rfl rfl dX11_remakeIfFits_37 ?_
      refine j_getS SS hG hP (9 + 5 * i) (v := .int (J ((sY (sX (sV (sT (sH (sC u i n_33) i hh_33) i tt_33) 0 st0_33) i f_33) i g_33).1.2.2.1 i))) (C := RX7) (T := TX7) (N := 3) (cw_ring (by omega)) rfl inX7 2 (by decide) (ref := "GridPolygons$Ring") kw_135 kw_132 rfl dX11_remakeIfFits_40 ?_
      obtain ⟨nn9, enn9⟩ : ∃ z : Int, z = ((sY (sX (sV (sT (sH (sC u i n_33) i hh_33) i tt_33) 0 st0_33) i f_33) i g_33).1.2.2.1 i) := ⟨_, rfl⟩
      rw [← enn9]
      exact W.iret SS.1 SS.2.1 hr (fun t0 ht hW => ⟨⟨_, (sY (sX (sV (sT (sH (sC u i n_33) i hh_33) i tt_33) 0 st0_33) i f_33) i g_33), rfl, ⟨nn9, rfl, (⟨n_33, f_33, g_33, hh_33, tt_33, st0_33, rfl, ⟨⟨⟨h_33.1, Or.inr ⟨by rw [enn9]; exact (if_pos rfl).trans h_33.2.1, by omega, by rcases h_22 with q | q; exact q.2; omega, ⟨(if_pos rfl).trans h_33.2.1, fun a ha => ⟨(congrFun (if_pos rfl) a).trans (h_33.2.2 a (by omega)).1, (congrFun (if_pos rfl) a).trans (h_33.2.2 a (by omega)).2⟩⟩, fun r hr hne => ⟨if_neg hne, if_neg hne, if_neg hne⟩⟩⟩, Or.inr ⟨by have e9 : nn9 = n_33 := enn9.trans (if_pos rfl); omega, hz_33⟩⟩, Or.inr ⟨by have e9 : nn9 = n_33 := enn9.trans (if_pos rfl); omega, sz_33⟩⟩⟩)⟩, by show va_P D.1 j_cl (cW D q (sY (sX (sV (sT (sH (sC u i n_33) i hh_33) i tt_33) 0 st0_33) i f_33) i g_33)) t0.heap; rw [ht]; first | exact hP | (simp only [sC_id, sX_id, sY_id, sH_id, sT_id, sV_id]; exact hP)⟩, hS.F ht⟩) hS.2.2 dX11_remakeIfFits_43 hlk
    · skip
      refine j_bipush SS dX11_remakeIfFits_28 (by decide +kernel) ?_
      exact W.iret SS.1 SS.2.1 hr (fun t0 ht hW => ⟨⟨_, (sY (sX (sV (sT (sH (sC u i (u.1.2.2.1 i)) i (u.1.2.2.2.1 i)) i (u.1.2.2.2.2 i)) 0 (u.2.2.2 0)) i (u.1.1 i)) i (u.1.2.1 i)), rfl, ⟨(-3), rfl, (⟨(u.1.2.2.1 i), (u.1.1 i), (u.1.2.1 i), (u.1.2.2.2.1 i), (u.1.2.2.2.2 i), (u.2.2.2 0), rfl, ⟨⟨⟨CI_id p0 (by omega), Or.inl ⟨rfl, fun q => by first | omega | (rcases h_22 with q2 | q2; omega; exact q2.2 q.2), by simp only [sC_id, sX_id, sY_id, sH_id, sT_id, sV_id]; exact cs_refl⟩⟩, Or.inl ⟨rfl, rfl⟩⟩, Or.inl ⟨rfl, rfl, rfl⟩⟩⟩)⟩, by show va_P D.1 j_cl (cW D q (sY (sX (sV (sT (sH (sC u i (u.1.2.2.1 i)) i (u.1.2.2.2.1 i)) i (u.1.2.2.2.2 i)) 0 (u.2.2.2 0)) i (u.1.1 i)) i (u.1.2.1 i))) t0.heap; rw [ht]; first | exact hP | (simp only [sC_id, sX_id, sY_id, sH_id, sT_id, sV_id]; exact hP)⟩, hS.F ht⟩) hS.2.2 dX11_remakeIfFits_30 hlk


/-- no more than L points in all -/
def FT9 (u : CS) (r : Nat) (L : Int) : Prop := ∃ (m : Int) (X Y : Nat → Int), OL (inC u r) m X Y ∧ m ≤ L
theorem OL_sub {P Q : Int → Int → Prop} {n m : Int} {X Y X' Y' : Nat → Int} (h : OL P n X Y) (h' : OL Q m X' Y') (hs : ∀ x y : Int, P x y → Q x y) : n ≤ m := by
  have key : ∀ a : Nat, (a : Int) < n → ∃ c : Nat, (c : Int) < m ∧ a ≤ c ∧ X a = X' c ∧ Y a = Y' c := by
    intro a
    induction a with
    | zero =>
      intro ha
      obtain ⟨c, c1, c2, c3⟩ := (h'.2.2 _ _).mpr (hs _ _ (OL_in h ha))
      exact ⟨c, c1, Nat.zero_le _, c2, c3⟩
    | succ a ih =>
      intro ha
      obtain ⟨d, d1, d2, d3, d4⟩ := ih (by omega)
      obtain ⟨c, c1, c2, c3⟩ := (h'.2.2 _ _).mpr (hs _ _ (OL_in h ha))
      refine ⟨c, c1, ?_, c2, c3⟩
      have q := os_l2 h.2.1 (show a < a + 1 by omega) ha
      rw [d3, d4, c2, c3] at q
      apply Nat.not_lt.mp
      intro w
      by_cases e : c = d
      · rw [e] at q; exact lt2_n q
      · exact lt2_n (lt2_tr q (os_l2 h'.2.1 (show c < d by omega) d1))
  apply Int.not_lt.mp
  intro w
  have h0 := h.1
  have h0' := h'.1
  obtain ⟨c, c1, c2, _⟩ := key (n - 1).toNat (by omega)
  omega
theorem inC_e {u s : CS} {r : Nat} (e1 : s.1.2.2.1 r = u.1.2.2.1 r) (e2 : s.1.1 r = u.1.1 r) (e3 : s.1.2.1 r = u.1.2.1 r) : (∀ x y n : Int, loC s r x y n ↔ loC u r x y n) ∧ (∀ x y n : Int, hiC s r x y n ↔ hiC u r x y n) ∧ ∀ i : Int, rx s r i = rx u r i := by
  unfold loC hiC cvv dX dY ar rx ry9
  rw [e1, e2, e3]
  exact ⟨fun _ _ _ => Iff.rfl, fun _ _ _ => Iff.rfl, fun _ => rfl⟩
theorem st_ne {u : CS} {r k : Nat} {n : Int} {f g : Nat → Int} (h : r ≠ k) : (sY (sX (sC u k n) k f) k g).1.2.2.1 r = u.1.2.2.1 r ∧ (sY (sX (sC u k n) k f) k g).1.1 r = u.1.1 r ∧ (sY (sX (sC u k n) k f) k g).1.2.1 r = u.1.2.1 r := ⟨if_neg h, if_neg h, if_neg h⟩
/-- one more point of a column -/
theorem OL_f {u : CS} {r : Nat} {L n2 n3 x y lo hi : Int} {f2 g2 f3 g3 : Nat → Int} (h : FT9 u r L → OL (fun a b => inC u r a b ∧ (a < x ∨ (a = x ∧ b < y))) n2 f2 g2) (hc : ∀ b : Int, inC u r x b ↔ lo ≤ b ∧ b ≤ hi) (hy : lo ≤ y ∧ y ≤ hi) (ha : (n2 < L ∧ f3 = upI f2 n2.toNat x ∧ g3 = upI g2 n2.toNat y ∧ n3 = n2 + 1) ∨ (L ≤ n2 ∧ f3 = f2 ∧ g3 = g2 ∧ n3 = n2)) : FT9 u r L → OL (fun a b => inC u r a b ∧ (a < x ∨ (a = x ∧ b < y + 1))) n3 f3 g3 := fun F => by
  have q := h F
  have q2 := OL_p (Q := fun a b => inC u r a b ∧ (a < x ∨ (a = x ∧ b < y + 1))) (p := x) (q := y) q (fun a b w => w.2) (fun a b => by
    constructor
    · rintro ⟨w1, w2⟩
      by_cases e : a = x ∧ b = y
      · exact Or.inr e
      · exact Or.inl ⟨w1, by omega⟩
    · rintro (⟨w1, w2⟩ | ⟨w1, w2⟩)
      · exact ⟨w1, by omega⟩
      · rw [w1, w2]; exact ⟨(hc y).mpr hy, by omega⟩)
  obtain ⟨m, X', Y', F1, F2⟩ := F
  have l := OL_sub q2 F1 (fun a b w => w.1)
  rcases ha with ⟨_, a2, a3, a4⟩ | ⟨a1, _⟩
  · rw [a2, a3, a4]; exact q2
  · omega

