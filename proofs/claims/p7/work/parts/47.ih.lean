
theorem ex_max (F : Nat → Int) : ∀ n : Nat, ∃ a : Nat, a ≤ n ∧ ∀ b : Nat, b ≤ n → F b ≤ F a := by
  intro n
  induction n with
  | zero => exact ⟨0, Nat.le_refl 0, fun b hb => by rw [show b = 0 by omega]; exact Int.le_refl _⟩
  | succ n ih =>
    obtain ⟨a, h1, h2⟩ := ih
    by_cases e : F a ≤ F (n + 1)
    · refine ⟨n + 1, Nat.le_refl _, fun b hb => ?_⟩
      by_cases w : b = n + 1
      · rw [w]; exact Int.le_refl _
      · have := h2 b (by omega); omega
    · refine ⟨a, by omega, fun b hb => ?_⟩
      by_cases w : b = n + 1
      · rw [w]; omega
      · exact h2 b (by omega)
theorem nmul {a b : Int} (ha : a ≤ 0) (hb : 0 ≤ b) : a * b ≤ 0 := by
  have := Int.mul_nonneg (show 0 ≤ -a by omega) hb
  rw [Int.neg_mul] at this
  omega
theorem nmul2 {a b : Int} (ha : 0 < a) (hb : b < 0) : a * b < 0 := by
  have := Int.mul_pos ha (show 0 < -b by omega)
  rw [Int.mul_neg] at this
  omega
/-- a corner that is best among its neighbours is best of all -/
theorem max_at {S : Int → Int → Prop} {α β g1 g2 p1 p2 e1 e2 x y : Int} (E1 : edS S g1 g2 p1 p2) (E2 : edS S p1 p2 e1 e2) (sg : S g1 g2) (se : S e1 e2) (sq : S x y) (hg : α * g1 + β * g2 ≤ α * p1 + β * p2) (he : α * e1 + β * e2 ≤ α * p1 + β * p2) : α * x + β * y ≤ α * p1 + β * p2 := by
  apply Int.not_lt.mp
  intro hl
  have q1 := E1.2 x y sq
  have q2 := E2.2 x y sq
  have q3 := E1.2 e1 e2 se
  have q4 := E2.2 g1 g2 sg
  rw [cx_sh] at q1 q3
  have f4 : cx (e1 - p1) (e2 - p2) (g1 - p1) (g2 - p2) = cx (p1 - g1) (p2 - g2) (e1 - p1) (e2 - p2) := by unfold cx; grind
  rw [f4] at q4
  have id0 : cx (p1 - g1) (p2 - g2) (e1 - p1) (e2 - p2) * (α * (x - p1) + β * (y - p2)) = cx (p1 - g1) (p2 - g2) (x - p1) (y - p2) * (α * (e1 - p1) + β * (e2 - p2)) - cx (e1 - p1) (e2 - p2) (x - p1) (y - p2) * (α * (p1 - g1) + β * (p2 - g2)) := by unfold cx; grind
  have La : 0 ≤ α * (p1 - g1) + β * (p2 - g2) := by
    rw [show α * (p1 - g1) + β * (p2 - g2) = (α * p1 + β * p2) - (α * g1 + β * g2) by grind]; omega
  have Lb : α * (e1 - p1) + β * (e2 - p2) ≤ 0 := by
    rw [show α * (e1 - p1) + β * (e2 - p2) = (α * e1 + β * e2) - (α * p1 + β * p2) by grind]; omega
  have Lc : 0 < α * (x - p1) + β * (y - p2) := by
    rw [show α * (x - p1) + β * (y - p2) = (α * x + β * y) - (α * p1 + β * p2) by grind]; omega
  have m1 := nmul Lb q1.1
  rw [Int.mul_comm] at m1
  have m2 := Int.mul_nonneg q2.1 La
  have z0 : cx (p1 - g1) (p2 - g2) (e1 - p1) (e2 - p2) = 0 := by
    by_cases w : cx (p1 - g1) (p2 - g2) (e1 - p1) (e2 - p2) = 0
    · exact w
    · have := Int.mul_pos (show 0 < cx (p1 - g1) (p2 - g2) (e1 - p1) (e2 - p2) by omega) Lc
      omega
  have b3 := q3.2 z0
  have b4 := q4.2 z0
  have n1 := E1.1
  have eg : e1 = g1 ∧ e2 = g2 := by unfold lxn at b3 b4; omega
  obtain ⟨rfl, rfl⟩ := eg
  have f2 : cx (e1 - p1) (e2 - p2) (x - p1) (y - p2) = - cx (p1 - e1) (p2 - e2) (x - p1) (y - p2) := by unfold cx; grind
  have q21 := q2.1
  have q11 := q1.1
  have z1 : cx (p1 - e1) (p2 - e2) (x - p1) (y - p2) = 0 := by omega
  have b1 := q1.2 z1
  have i1 : (α * (x - p1) + β * (y - p2)) * (p1 - e1) = (x - p1) * (α * (p1 - e1) + β * (p2 - e2)) + β * cx (p1 - e1) (p2 - e2) (x - p1) (y - p2) := by unfold cx; grind
  have i2 : (α * (x - p1) + β * (y - p2)) * (p2 - e2) = (y - p2) * (α * (p1 - e1) + β * (p2 - e2)) - α * cx (p1 - e1) (p2 - e2) (x - p1) (y - p2) := by unfold cx; grind
  have i3 : cx (p1 - e1) (p2 - e2) (x - p1) (y - p2) = (p1 - e1) * (y - p2) - (p2 - e2) * (x - p1) := rfl
  rw [z1, Int.mul_zero] at i1 i2
  rw [z1] at i3
  generalize α * (p1 - e1) + β * (p2 - e2) = A at La i1 i2 m2
  generalize α * (x - p1) + β * (y - p2) = C at Lc i1 i2
  by_cases w : p1 - e1 = 0
  · rw [w, Int.zero_mul] at i3
    have hx : x - p1 = 0 := by
      by_cases z : x - p1 = 0
      · exact z
      · have := Int.mul_ne_zero (show p2 - e2 ≠ 0 by omega) z
        omega
    rcases (show 0 < p2 - e2 ∨ p2 - e2 < 0 by omega) with s | s
    · have hy : y - p2 ≤ 0 := by unfold lxn at b1; omega
      have t1 := Int.mul_pos Lc s
      have t2 := nmul hy La
      omega
    · have hy : 0 ≤ y - p2 := by unfold lxn at b1; omega
      have t1 := nmul2 Lc s
      have t2 := Int.mul_nonneg hy La
      omega
  · rcases (show 0 < p1 - e1 ∨ p1 - e1 < 0 by omega) with s | s
    · have hx : x - p1 ≤ 0 := by unfold lxn at b1; omega
      have t1 := Int.mul_pos Lc s
      have t2 := nmul hx La
      omega
    · have hx : 0 ≤ x - p1 := by unfold lxn at b1; omega
      have t1 := nmul2 Lc s
      have t2 := Int.mul_nonneg hx La
      omega
theorem nxt_c {X Y : Nat → Int} {n : Int} {a : Nat} (ha : (a : Int) < n) : ∃ b : Nat, (b : Int) < n ∧ nxt X n a = X b ∧ nxt Y n a = Y b := by
  by_cases e : (a : Int) + 1 < n
  · exact ⟨a + 1, by omega, if_pos e, if_pos e⟩
  · exact ⟨0, by omega, if_neg e, if_neg e⟩
theorem nxt_p {X Y : Nat → Int} {n : Int} {a : Nat} (ha : (a : Int) < n) : ∃ b : Nat, (b : Int) < n ∧ nxt X n b = X a ∧ nxt Y n b = Y a := by
  by_cases e : a = 0
  · refine ⟨(n - 1).toNat, by omega, ?_, ?_⟩
    · unfold nxt; rw [if_neg (by omega), e]
    · unfold nxt; rw [if_neg (by omega), e]
  · refine ⟨a - 1, by omega, ?_, ?_⟩
    · unfold nxt; rw [if_pos (by omega), show a - 1 + 1 = a by omega]
    · unfold nxt; rw [if_pos (by omega), show a - 1 + 1 = a by omega]
/-- what bounds the corners bounds all -/
theorem HS_max {S : Int → Int → Prop} {n : Int} {X Y : Nat → Int} {α β M : Int} (h : HS S n X Y) (hM : ∀ a : Nat, (a : Int) < n → α * X a + β * Y a ≤ M) {x y : Int} (s : S x y) : α * x + β * y ≤ M := by
  have hc := HS_S h
  rcases h with ⟨_, h⟩ | ⟨h1, h2, h3, ⟨h4, h5⟩ | ⟨h4, h5, h6⟩⟩
  · exact absurd s (h x y)
  · obtain ⟨e1, e2⟩ := h5 x y s
    rw [e1, e2]; exact hM 0 (by omega)
  · obtain ⟨a, ha, hb⟩ := ex_max (fun b => α * X b + β * Y b) (n - 1).toNat
    obtain ⟨b, b1, b2, b3⟩ := nxt_c (X := X) (Y := Y) (n := n) (a := a) (by omega)
    obtain ⟨p, p1, p2, p3⟩ := nxt_p (X := X) (Y := Y) (n := n) (a := a) (by omega)
    have E1 := h6 p p1
    have E2 := h6 a (by omega)
    rw [p2, p3] at E1
    rw [b2, b3] at E2
    have q := max_at (α := α) (β := β) E1 E2 (hc p p1) (hc b b1) s (hb p (by omega)) (hb b (by omega))
    have := hM a (by omega)
    omega
theorem HS_box {S : Int → Int → Prop} {n K : Int} {X Y : Nat → Int} (h : HS S n X Y) (hb : bd K X Y n) {x y : Int} (s : S x y) : (-K ≤ x ∧ x ≤ K) ∧ -K ≤ y ∧ y ≤ K := by
  have a1 := HS_max (α := 1) (β := 0) (M := K) h (fun a ha => by have := hb a ha; omega) s
  have a2 := HS_max (α := -1) (β := 0) (M := K) h (fun a ha => by have := hb a ha; omega) s
  have a3 := HS_max (α := 0) (β := 1) (M := K) h (fun a ha => by have := hb a ha; omega) s
  have a4 := HS_max (α := 0) (β := -1) (M := K) h (fun a ha => by have := hb a ha; omega) s
  omega
theorem HS_sub {S T : Int → Int → Prop} {n : Int} {X Y : Nat → Int} (h : HS S n X Y) (hT : ∀ x y : Int, T x y → S x y) (hc : ∀ a : Nat, (a : Int) < n → T (X a) (Y a)) : HS T n X Y := by
  rcases h with ⟨h, h2⟩ | ⟨h1, h2, h3, h4⟩
  · exact Or.inl ⟨h, fun x y t => h2 x y (hT x y t)⟩
  · refine Or.inr ⟨h1, hc 0 (by omega), fun x y t => h3 x y (hT x y t), ?_⟩
    rcases h4 with ⟨h4, h5⟩ | ⟨h4, h5, h6⟩
    · exact Or.inl ⟨h4, fun x y t => h5 x y (hT x y t)⟩
    · exact Or.inr ⟨h4, fun a a0 ha => ⟨hc a ha, (h5 a a0 ha).2⟩, fun a ha => ⟨(h6 a ha).1, fun x y t => (h6 a ha).2 x y (hT x y t)⟩⟩
/-! both sides hold the same -/
def EQS (u : CS) (v : MS) : Prop := ∀ r : Nat, r < 8 → u.1.2.2.1 r = mN v r ∧ (∀ a : Nat, (a : Int) < mN v r → u.1.1 r a = mX v r a ∧ u.1.2.1 r a = mY v r a) ∧ HS (SP v r) (mN v r) (fun a => mX v r a) (fun a => mY v r a)
theorem ms_N {v v' : MS} (h : mSame v v') : mN v' = mN v ∧ mX v' = mX v ∧ mY v' = mY v := by
  obtain ⟨h0, h1, h2⟩ := h
  have eN : mN v' = mN v := by funext s; show v'.1 0 s.toNat = v.1 0 s.toNat; rw [h0]
  refine ⟨eN, ?_, ?_⟩
  · funext s i; unfold mX; rw [h1, eN]
  · funext s i; unfold mY; rw [h2, eN]
theorem EQS_s {u u' : CS} {v v' : MS} (h : EQS u v) (hc : cSame u u') (hm : mSame v v') : EQS u' v' := by
  intro r hr
  obtain ⟨a1, a2, a3⟩ := h r hr
  obtain ⟨b1, b2, b3⟩ := hc r hr
  obtain ⟨e1, e2, e3⟩ := ms_N hm
  have e4 : SP v' r = SP v r := by unfold SP; rw [e1, e2, e3]
  rw [b1, b2, b3, e1, e2, e3, e4]
  exact ⟨a1, a2, a3⟩
theorem ms_refl {v : MS} : mSame v v := ⟨rfl, rfl, rfl⟩
theorem EQS_P {u : CS} {v : MS} (h : EQS u v) {r : Nat} (hr : r < 8) (x y : Int) : RP u r x y ↔ SP v r x y := by
  obtain ⟨a1, a2, _⟩ := h r hr
  unfold RP RPi SP
  rw [a1]
  constructor
  · rintro ⟨a, q1, q2, q3⟩
    exact ⟨a, q1, q2.trans (a2 a q1).1, q3.trans (a2 a q1).2⟩
  · rintro ⟨a, q1, q2, q3⟩
    exact ⟨a, q1, q2.trans (a2 a q1).1.symm, q3.trans (a2 a q1).2.symm⟩
theorem EQS_Ps {u : CS} {v : MS} (h : EQS u v) {s : Int} (hs : 0 ≤ s ∧ s ≤ 7) (x y : Int) : RP u s.toNat x y ↔ SP v s x y := by
  have := EQS_P h (r := s.toNat) (by omega) x y
  rw [show ((s.toNat : Nat) : Int) = s by omega] at this
  exact this
/-- a shape made anew, alike -/
theorem EQS_new {u u' : CS} {v v' : MS} {t n : Int} {X Y X' Y' : Nat → Int} {S : Int → Int → Prop} (h : EQS u v) (ht : 0 ≤ t ∧ t ≤ 7) (hH : HS S n X' Y') (e : ∀ a : Nat, (a : Int) < n → X a = X' a ∧ Y a = Y' a) (hc : cNew u u' t.toNat n X Y) (hm : mNew v v' t n X' Y') : EQS u' v' := by
  intro r hr
  obtain ⟨⟨c1, c2⟩, c3⟩ := hc
  obtain ⟨⟨m1, m2⟩, m3⟩ := hm
  by_cases w : r = t.toNat
  · subst w
    rw [show ((t.toNat : Nat) : Int) = t by omega]
    rw [c1, m1]
    refine ⟨rfl, fun a ha => ?_, ?_⟩
    · rw [(c2 a ha).1, (c2 a ha).2, (m2 a ha).1, (m2 a ha).2]; exact e a ha
    · have q := HS_sub (T := SP v' t) hH (fun x y ⟨a, a1, a2, a3⟩ => by
        rw [m1] at a1
        rw [a2, a3, (m2 a a1).1, (m2 a a1).2]
        exact HS_S hH a a1) (fun a ha => ⟨a, by rw [m1]; exact ha, (m2 a ha).1.symm, (m2 a ha).2.symm⟩)
      exact HS_c q (fun _ _ => Iff.rfl) (fun a ha => m2 a ha)
  · obtain ⟨a1, a2, a3⟩ := h r hr
    obtain ⟨d1, d2, d3⟩ := c3 r hr w
    obtain ⟨n1, n2⟩ := m3 r (by omega) (by omega) (by omega)
    have key : ∀ a : Nat, (a : Int) < mN v r → mX v' r a = mX v r a ∧ mY v' r a = mY v r a := fun a ha => n2 (by omega) a (by omega)
    rw [d1, d2, d3, n1]
    refine ⟨a1, fun a ha => ?_, ?_⟩
    · rw [(key a ha).1, (key a ha).2]; exact a2 a ha
    · refine HS_c a3 (fun x y => ?_) (fun a ha => key a ha)
      unfold SP
      rw [n1]
      constructor
      · rintro ⟨a, q1, q2, q3⟩
        exact ⟨a, q1, q2.trans (key a q1).1.symm, q3.trans (key a q1).2.symm⟩
      · rintro ⟨a, q1, q2, q3⟩
        exact ⟨a, q1, q2.trans (key a q1).1, q3.trans (key a q1).2⟩
theorem EQS_mk {u u' : CS} {v v' : MS} {t z z' : Int} {S S' : Int → Int → Prop} (h : EQS u v) (ht : 0 ≤ t ∧ t ≤ 7) (hS : ∀ x y : Int, S x y ↔ S' x y) (hc : mkC u u' t.toNat z S) (hm : mkM v v' t z' S') : z = z' ∧ EQS u' v' := by
  obtain ⟨n, X, Y, H, k⟩ := hc
  obtain ⟨n', X', Y', H', k'⟩ := hm
  have H2 := HS_c H hS (fun _ _ => ⟨rfl, rfl⟩)
  obtain ⟨en, e⟩ := HS_u H2 H'
  subst en
  have hb : bd 40 X Y n ↔ bd 40 X' Y' n := ⟨fun q a ha => by rw [← (e a ha).1, ← (e a ha).2]; exact q a ha, fun q a ha => by rw [(e a ha).1, (e a ha).2]; exact q a ha⟩
  rcases k with ⟨k1, k2, k3⟩ | ⟨k1, k2, k3⟩ <;> rcases k' with ⟨l1, l2, l3⟩ | ⟨l1, l2, l3⟩
  · exact ⟨by omega, EQS_new h ht H' e k3 l3⟩
  · exact absurd ⟨k2.1, hb.mp k2.2⟩ l2
  · exact absurd ⟨l2.1, hb.mpr l2.2⟩ k2
  · exact ⟨by omega, EQS_s h k3 l3⟩
theorem EQS_cl {u u' : CS} {v v' : MS} {s z z' : Int} (h : EQS u v) (hc : clC u u' s z) (hm : clM v v' s z') : z = z' ∧ EQS u' v' := by
  rcases hc with ⟨a1, a2, a3⟩ | ⟨a1, a2, a3⟩ <;> rcases hm with ⟨b1, b2, b3⟩ | ⟨b1, b2, b3⟩
  · exact ⟨by omega, EQS_s h a3 b3⟩
  · exact absurd b1 a1
  · exact absurd a1 b1
  · have q := (h s.toNat (by omega)).1
    rw [show ((s.toNat : Nat) : Int) = s by omega] at q
    exact ⟨by omega, EQS_new (S := fun _ _ => False) h a1 (Or.inl ⟨rfl, fun _ _ q => q⟩) (fun _ _ => ⟨rfl, rfl⟩) a3 b3⟩
theorem EQS_ad {u u' : CS} {v v' : MS} {s x y z z' : Int} (h : EQS u v) (hc : adC u u' s x y z) (hm : adM v v' s x y z') : z = z' ∧ EQS u' v' := by
  rcases hc with ⟨a1, a2, a3⟩ | ⟨a1, a2, a3⟩ <;> rcases hm with ⟨b1, b2, b3⟩ | ⟨b1, b2, b3⟩
  · exact ⟨by omega, EQS_s h a3 b3⟩
  · exact absurd ⟨b1, b2⟩ a1
  · exact absurd ⟨a1, a2⟩ b1
  · exact EQS_mk h a1 (fun p q => by rw [EQS_Ps h a1]) a3 b3
theorem EQS_sm {u u' : CS} {v v' : MS} {s s2 t z z' : Int} (h : EQS u v) (hc : smC u u' s s2 t z) (hm : smM v v' s s2 t z') : z = z' ∧ EQS u' v' := by
  rcases hc with ⟨a1, a2, a3⟩ | ⟨a1, a2, a3, a4⟩ <;> rcases hm with ⟨b1, b2, b3⟩ | ⟨b1, b2, b3, b4⟩
  · exact ⟨by omega, EQS_s h a3 b3⟩
  · exact absurd ⟨b1, b2, b3⟩ a1
  · exact absurd ⟨a1, a2, a3⟩ b1
  · refine EQS_mk h a3 (fun p q => ?_) a4 b4
    unfold SM
    constructor
    · rintro ⟨a, b, c, d, q1, q2, q3⟩
      exact ⟨a, b, c, d, (EQS_Ps h a1 _ _).mp q1, (EQS_Ps h a2 _ _).mp q2, q3⟩
    · rintro ⟨a, b, c, d, q1, q2, q3⟩
      exact ⟨a, b, c, d, (EQS_Ps h a1 _ _).mpr q1, (EQS_Ps h a2 _ _).mpr q2, q3⟩
theorem EQS_mp {u u' : CS} {v v' : MS} {s t a b c d e f z z' : Int} (h : EQS u v) (hc : mpC u u' s t a b c d e f z) (hm : mpM v v' s t a b c d e f z') : z = z' ∧ EQS u' v' := by
  rcases hc with ⟨a1, a2, a3⟩ | ⟨a1, a2, a3, a4⟩ <;> rcases hm with ⟨b1, b2, b3⟩ | ⟨b1, b2, b3, b4⟩
  · exact ⟨by omega, EQS_s h a3 b3⟩
  · exact absurd ⟨b1, b2, b3⟩ a1
  · exact absurd ⟨a1, a2, a3⟩ b1
  · rcases a4 with ⟨c1, c2, c3⟩ | ⟨c1, c2⟩ <;> rcases b4 with ⟨d1, d2, d3⟩ | ⟨d1, d2⟩
    · exact ⟨by omega, EQS_s h c3 d3⟩
    · exact absurd d1 c1
    · exact absurd c1 d1
    · have hS : ∀ p q : Int, MP (RP u s.toNat) a b c d e f p q ↔ MP (SP v s) a b c d e f p q := fun p q => by
        unfold MP
        constructor
        · rintro ⟨p, q, w1, w2⟩
          exact ⟨p, q, (EQS_Ps h a1 _ _).mp w1, w2⟩
        · rintro ⟨p, q, w1, w2⟩
          exact ⟨p, q, (EQS_Ps h a1 _ _).mpr w1, w2⟩
      rcases c2 with ⟨k1, k2, x, y, k3, k4⟩ | c2
      · obtain ⟨n, X, Y, H, k⟩ := d2
        rcases k with ⟨l1, l2, l3⟩ | ⟨l1, l2, l3⟩
        · exact absurd (HS_box H l2.2 ((hS x y).mp k3)) k4
        · exact ⟨by omega, EQS_s h k2 l3⟩
      · exact EQS_mk h a2 hS c2 d2
