
/-! bits of longs, one by one -/
theorem sr_d : ∀ m : Fin 64, ((J ((m.1 : Nat) : Int)).toInt64 &&& 63).toBitVec.smod 64 = BitVec.ofNat 64 m.1 := by decide +kernel
theorem sr_b {x : Int64} {m : Nat} (h : m < 64) (i : Nat) (hi : m + i < 64) : gb (x >>> ((J (m : Int)).toInt64 &&& 63)) i = gb x (m + i) := by
  show (BitVec.sshiftRight' x.toBitVec (((J (m : Int)).toInt64 &&& 63).toBitVec.smod 64)).getLsbD i = x.toBitVec.getLsbD (m + i)
  have e : ((J (m : Int)).toInt64 &&& 63).toBitVec.smod 64 = BitVec.ofNat 64 m := sr_d ⟨m, h⟩
  rw [e, BitVec.getLsbD_sshiftRight', BitVec.toNat_ofNat, Nat.mod_eq_of_lt (show m < 2 ^ 64 by omega), if_pos hi, decide_eq_false (show ¬ 64 ≤ i by omega)]
  rfl
theorem gb_1 (i : Nat) : gb 1 i = decide (0 = i) := by
  unfold gb
  rw [show (1 : Int64).toBitVec = BitVec.twoPow 64 0 by decide +kernel, BitVec.getLsbD_twoPow, decide_eq_true (show 0 < 64 by omega), Bool.true_and]
theorem and1_g {y : Int64} : y &&& 1 = 1 ↔ gb y 0 = true := by
  constructor
  · intro h
    have q : gb (y &&& 1) 0 = true := by rw [h, gb_1]; rfl
    rw [gb_and, gb_1] at q
    simpa using q
  · intro h
    apply gb_e
    intro i hi
    rw [gb_and, gb_1]
    by_cases e : 0 = i
    · rw [← e, h]; rfl
    · rw [decide_eq_false e, Bool.and_false]
theorem bvI_g {x : Int64} {k : Int} (h : 0 ≤ k ∧ k < 64) : bvI x k = if gb x k.toNat = true then 1 else 0 := by
  obtain ⟨m, rfl⟩ : ∃ m : Nat, k = m := ⟨k.toNat, by omega⟩
  rw [Int.toNat_natCast]
  have e : ((x >>> ((J (m : Int)).toInt64 &&& 63)) &&& 1 = 1) ↔ gb x m = true := by
    rw [and1_g, sr_b (show m < 64 by omega) 0 (by omega), Nat.add_zero]
  unfold bvI
  by_cases w : gb x m = true
  · rw [if_pos (e.mpr w), if_pos w]
  · rw [if_neg (fun q => w (e.mp q)), if_neg w]
theorem bvI_1 {x : Int64} {k : Int} (h : 0 ≤ k ∧ k < 64) : bvI x k = 1 ↔ gb x k.toNat = true := by
  rw [bvI_g h]
  by_cases w : gb x k.toNat = true
  · rw [if_pos w]; exact ⟨fun _ => w, fun _ => rfl⟩
  · rw [if_neg w]; exact ⟨fun q => by omega, fun q => absurd q w⟩
theorem smI_g {x : Int64} : ∀ n : Nat, n ≤ 64 → smI (bvI x) n = ct9 (gb x) n := by
  intro n
  induction n with
  | zero => intro _; rfl
  | succ n ih =>
    intro h
    rw [show ((n + 1 : Nat) : Int) = (n : Int) + 1 by omega, smI_s (by omega), ih (by omega), bvI_g (by omega), Int.toNat_natCast, ct9_s]
theorem smI_gi {x : Int64} {k : Int} (h : 0 ≤ k ∧ k ≤ 64) : smI (bvI x) k = ct9 (gb x) k.toNat := by
  have e := smI_g (x := x) k.toNat (by omega)
  rw [Int.toNat_of_nonneg h.1] at e
  exact e
theorem bI_40 {x : Int64} : smI (bvI x) 40 = ct9 (gb x) 40 := smI_g 40 (by omega)
/-- of a set of points -/
theorem ct_PB {f : Nat → Bool} {n : Nat} (hn : n ≤ 40) : ct9 (gb (PB f n)) 40 = ct9 f n := by
  have e := ct9_x (f := gb (PB f n)) (g := f) (n := n) (fun p hp => by rw [gb_PB n (by omega), decide_eq_true hp, Bool.true_and]) (40 - n) (fun p q1 q2 => by rw [gb_PB n (by omega), decide_eq_false (show ¬ p < n by omega), Bool.false_and])
  rw [show n + (40 - n) = 40 by omega] at e
  exact e
theorem at_PB {f : Nat → Bool} {n : Nat} {b : Int64} {z i : Int} (hn : n ≤ 40) (hb : b = PB f n) (hi : 0 ≤ i) (h : (z = -9 ∧ (0 ≤ i → ct9 (gb b) 40 ≤ i)) ∨ ((0 ≤ z ∧ z < 40) ∧ gb b z.toNat = true ∧ ct9 (gb b) z.toNat = i)) : (z = -9 ∧ ct9 f n ≤ i ∧ mem9 f n i = -1) ∨ (z = mem9 f n i ∧ 0 ≤ z ∧ z < n ∧ i < ct9 f n) := by
  rw [hb] at h
  rcases h with ⟨h1, h2⟩ | ⟨h1, h2, h3⟩
  · have q := h2 hi
    rw [ct_PB hn] at q
    exact Or.inl ⟨h1, q, mem9_no n q⟩
  · rw [gb_PB n (by omega)] at h2
    have hz : z.toNat < n := by
      by_cases w : z.toNat < n
      · exact w
      · rw [decide_eq_false w, Bool.false_and] at h2; cases h2
    rw [decide_eq_true hz, Bool.true_and] at h2
    have c : ct9 (gb (PB f n)) z.toNat = ct9 f z.toNat := ct9_c _ (fun p hp => by rw [gb_PB n (by omega), decide_eq_true (show p < n by omega), Bool.true_and])
    rw [c] at h3
    have l := ct9_l h2 hz
    have e := mem9_at h2 h3 n hz
    exact Or.inr ⟨by omega, by omega, by omega, by omega⟩
theorem PB_or {f g : Nat → Bool} {n : Nat} (hn : n ≤ 62) : PB f n ||| PB g n = PB (fun k => f k || g k) n := by
  apply gb_e
  intro i hi
  rw [gb_or, gb_PB n (by omega), gb_PB n (by omega), gb_PB n (by omega)]
  cases decide (i < n) <;> rfl
theorem PB_0 {n : Nat} (hn : n ≤ 62) : PB (fun _ => false) n = 0 := by
  apply gb_e
  intro i hi
  rw [gb_PB n (by omega), gb_0, Bool.and_false]
theorem ut_z {X Y : Nat → Int} {n : Nat} {f : Nat → Bool} {y z : Int} (h : ct9 f n = 3) (e : z = tn X Y (mem9 f n 0).toNat (mem9 f n 1).toNat (mem9 f n 2).toNat) (k : (0 ≤ z → y = z) ∧ (z < 0 → y = -z)) : ut9 X Y n f ↔ y = 1 := by
  unfold ut9
  rw [← e]
  constructor
  · intro w; omega
  · intro w; exact ⟨h, by omega⟩
theorem ut_n {X Y : Nat → Int} {n : Nat} {f : Nat → Bool} (h : ct9 f n ≠ 3) : ¬ ut9 X Y n f := fun w => h w.1
theorem sn_0 {F : Nat → Nat → Bool} {n : Nat} (hn : n ≤ 62) : PB (sn9 F 0) n = 0 := (PB_c (g := fun _ => false) (fun _ _ => rfl)).trans (PB_0 hn)
theorem sn_s {F : Nat → Nat → Bool} {n : Nat} {p : Int} {w b : Int64} (hn : n ≤ 62) (hp : 0 ≤ p) (h1 : w = PB (sn9 F p.toNat) n) (h2 : b = PB (F p.toNat) n) : w ||| b = PB (sn9 F (p + 1).toNat) n := by
  rw [h1, h2, PB_or hn, show (p + 1).toNat = p.toNat + 1 by omega]
  exact PB_c (fun _ _ => rfl)
theorem cu9_p {X Y : Nat → Int} {n : Nat} {F : Nat → Nat → Bool} {p z z' : Int} (hp : 0 ≤ p) (h : cu9 X Y n F p.toNat z) (e : (ut9 X Y n (F p.toNat) ∧ z' = z + 1) ∨ (¬ ut9 X Y n (F p.toNat) ∧ z' = z)) : cu9 X Y n F (p + 1).toNat z' := by
  rw [show (p + 1).toNat = p.toNat + 1 by omega]
  exact cu9_s h e
/-- the reference's answers -/
def lfM (u : MS) (s : Int) : Prop := 2 < mN u s ∧ mEd u s + mIn u s ≤ 40
def psM (u : MS) (s w z : Int) : Prop := (¬ ((0 ≤ s ∧ s ≤ 7) ∧ 0 ≤ w ∧ w ≤ 2) ∧ z = -1) ∨ (((0 ≤ s ∧ s ≤ 7) ∧ 0 ≤ w ∧ w ≤ 2) ∧ ((¬ lfM u s ∧ z = -2) ∨ (lfM u s ∧ ∃ (n : Int) (X Y : Nat → Int) (m : Int) (F : Nat → Nat → Bool), LS9 (PBx u s) (h9 (u.1 3) s) n X Y m F ∧ psA n X Y m F w z)))
def pcM (u : MS) (s p i z : Int) : Prop := (¬ ((0 ≤ s ∧ s ≤ 7) ∧ 0 ≤ p ∧ -1 ≤ i) ∧ z = -1) ∨ (((0 ≤ s ∧ s ≤ 7) ∧ 0 ≤ p ∧ -1 ≤ i) ∧ ((¬ lfM u s ∧ z = -2) ∨ (lfM u s ∧ ∃ (n : Int) (X Y : Nat → Int) (m : Int) (F : Nat → Nat → Bool), LS9 (PBx u s) (h9 (u.1 3) s) n X Y m F ∧ pcA n m F p i z)))
