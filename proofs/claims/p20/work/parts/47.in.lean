
theorem sgn_b {p e x : Int} (h : (x - p) * (x - e) ≤ 0) : (p ≤ x ∧ x ≤ e) ∨ (e ≤ x ∧ x ≤ p) := by
  by_cases a : p ≤ x
  · by_cases b : x ≤ e
    · exact Or.inl ⟨a, b⟩
    · by_cases c : x = p
      · exact Or.inr ⟨by omega, by omega⟩
      · have := Int.mul_pos (show 0 < x - p by omega) (show 0 < x - e by omega)
        omega
  · by_cases b : e ≤ x
    · exact Or.inr ⟨b, by omega⟩
    · have := Int.mul_pos_of_neg_of_neg (show x - p < 0 by omega) (show x - e < 0 by omega)
      omega
theorem b_sgn {p e x : Int} (h : (p ≤ x ∧ x ≤ e) ∨ (e ≤ x ∧ x ≤ p)) : (x - p) * (x - e) ≤ 0 := by
  rcases h with ⟨a, b⟩ | ⟨a, b⟩
  · have := Int.mul_nonneg (show 0 ≤ x - p by omega) (show 0 ≤ e - x by omega)
    have e1 : (x - p) * (x - e) = - ((x - p) * (e - x)) := by grind
    omega
  · have := Int.mul_nonneg (show 0 ≤ p - x by omega) (show 0 ≤ x - e by omega)
    have e1 : (x - p) * (x - e) = - ((p - x) * (x - e)) := by grind
    omega
theorem le_m {k a b : Int} (hk : 0 < k) (h : 0 ≤ (b - a) * k) : a ≤ b := by
  by_cases e : a ≤ b
  · exact e
  · have := Int.mul_pos (show 0 < a - b by omega) hk
    have e1 : (b - a) * k = - ((a - b) * k) := by grind
    omega
/-- what bounds both ends bounds the segment -/
theorem seg_max {px py ex ey x y α β M : Int} (g0 : cx (ex - px) (ey - py) (x - px) (y - py) = 0) (b1 : (x - px) * (x - ex) ≤ 0) (b2 : (y - py) * (y - ey) ≤ 0) (h1 : α * px + β * py ≤ M) (h2 : α * ex + β * ey ≤ M) : α * x + β * y ≤ M := by
  have s1 := sgn_b b1
  have s2 := sgn_b b2
  have i1 : (M - (α * x + β * y)) * (ex - px) = (M - (α * px + β * py)) * (ex - x) + (M - (α * ex + β * ey)) * (x - px) - β * cx (ex - px) (ey - py) (x - px) (y - py) := by unfold cx; grind
  have i2 : (M - (α * x + β * y)) * (ey - py) = (M - (α * px + β * py)) * (ey - y) + (M - (α * ex + β * ey)) * (y - py) + α * cx (ex - px) (ey - py) (x - px) (y - py) := by unfold cx; grind
  rw [g0, Int.mul_zero] at i1 i2
  rcases (show 0 < ex - px ∨ 0 < px - ex ∨ ex = px by omega) with q | q | q
  · refine le_m q ?_
    have m1 := Int.mul_nonneg (show 0 ≤ M - (α * px + β * py) by omega) (show 0 ≤ ex - x by omega)
    have m2 := Int.mul_nonneg (show 0 ≤ M - (α * ex + β * ey) by omega) (show 0 ≤ x - px by omega)
    omega
  · refine le_m q ?_
    have m1 := Int.mul_nonneg (show 0 ≤ M - (α * px + β * py) by omega) (show 0 ≤ x - ex by omega)
    have m2 := Int.mul_nonneg (show 0 ≤ M - (α * ex + β * ey) by omega) (show 0 ≤ px - x by omega)
    have i3 : (M - (α * x + β * y)) * (px - ex) = (M - (α * px + β * py)) * (x - ex) + (M - (α * ex + β * ey)) * (px - x) := by grind
    omega
  · rcases (show 0 < ey - py ∨ 0 < py - ey ∨ ey = py by omega) with r | r | r
    · refine le_m r ?_
      have m1 := Int.mul_nonneg (show 0 ≤ M - (α * px + β * py) by omega) (show 0 ≤ ey - y by omega)
      have m2 := Int.mul_nonneg (show 0 ≤ M - (α * ex + β * ey) by omega) (show 0 ≤ y - py by omega)
      omega
    · refine le_m r ?_
      have m1 := Int.mul_nonneg (show 0 ≤ M - (α * px + β * py) by omega) (show 0 ≤ y - ey by omega)
      have m2 := Int.mul_nonneg (show 0 ≤ M - (α * ex + β * ey) by omega) (show 0 ≤ py - y by omega)
      have i3 : (M - (α * x + β * y)) * (py - ey) = (M - (α * px + β * py)) * (y - ey) + (M - (α * ex + β * ey)) * (py - y) := by grind
      omega
    · rw [show x = px by omega, show y = py by omega]
      exact h1
/-- the next corner's number -/
def nj (n : Int) (a : Nat) : Nat := if (a : Int) + 1 < n then a + 1 else 0
theorem nj_n {X : Nat → Int} {n : Int} {a : Nat} : nxt X n a = X (nj n a) := by unfold nxt nj; split <;> rfl
theorem nj_l {n : Int} {a : Nat} (h : 0 < n) : (nj n a : Int) < n := by unfold nj; split <;> omega
theorem w1 {S : Int → Int → Prop} {n x y : Int} {X Y : Nat → Int} (h : HS S n X Y) (hn : 2 ≤ n) (h0 : X 0 ≤ x) (h1 : ∃ a : Nat, (a : Int) < n ∧ x ≤ X a) (hg : ∀ a : Nat, (a : Int) < n → nxt X n a - X a ≠ 0 → 0 ≤ cx (nxt X n a - X a) (nxt Y n a - Y a) (x - X a) (y - Y a)) : ∀ a : Nat, (a : Int) < n → 0 ≤ cx (nxt X n a - X a) (nxt Y n a - Y a) (x - X a) (y - Y a) := by
  have hc := HS_S h
  rcases h with ⟨h, _⟩ | ⟨p1, p2, p3, ⟨p4, p5⟩ | ⟨p4, p5, p6⟩⟩
  · omega
  · omega
  · intro a ha
    by_cases e : nxt X n a - X a = 0
    · have E := p6 a ha
      have n1 := E.1
      obtain ⟨b, b1, b2⟩ := h1
      have qb := (E.2 _ _ (hc b b1)).1
      have q0 := (E.2 _ _ (hc 0 (by omega))).1
      unfold cx at qb q0 ⊢
      rw [e, Int.zero_mul] at qb q0 ⊢
      rcases (show 0 < nxt Y n a - Y a ∨ 0 < -(nxt Y n a - Y a) by omega) with s | s
      · have t : X b ≤ X a := le_m s (by
          have e1 : (X a - X b) * (nxt Y n a - Y a) = 0 - (nxt Y n a - Y a) * (X b - X a) := by grind
          omega)
        have m := Int.mul_nonneg (show 0 ≤ nxt Y n a - Y a by omega) (show 0 ≤ X a - x by omega)
        have e1 : 0 - (nxt Y n a - Y a) * (x - X a) = (nxt Y n a - Y a) * (X a - x) := by grind
        omega
      · have t : X a ≤ X 0 := le_m s (by
          have e1 : (X 0 - X a) * -(nxt Y n a - Y a) = 0 - (nxt Y n a - Y a) * (X 0 - X a) := by grind
          omega)
        have m := Int.mul_nonneg (show 0 ≤ -(nxt Y n a - Y a) by omega) (show 0 ≤ x - X a by omega)
        have e1 : 0 - (nxt Y n a - Y a) * (x - X a) = -(nxt Y n a - Y a) * (x - X a) := by grind
        omega
    · exact hg a ha e
/-- with three corners or more each corner turns left -/
theorem w3 {S : Int → Int → Prop} {n : Int} {X Y : Nat → Int} (h : HS S n X Y) (hn : 3 ≤ n) {a b : Nat} (ha : (a : Int) < n) (hb : b = nj n a) : 0 < cx (X b - X a) (Y b - Y a) (X (nj n b) - X b) (Y (nj n b) - Y b) := by
  have hc := HS_S h
  rcases h with ⟨h, _⟩ | ⟨p1, p2, p3, ⟨p4, p5⟩ | ⟨p4, p5, p6⟩⟩
  · omega
  · omega
  · obtain ⟨c, ec⟩ : ∃ c, c = nj n b := ⟨_, rfl⟩
    rw [← ec]
    have hbn : (b : Int) < n := by rw [hb]; exact nj_l (by omega)
    have hcn : (c : Int) < n := by rw [ec]; exact nj_l (by omega)
    have Ea := p6 a ha
    have Eb := p6 b hbn
    rw [nj_n, nj_n, ← hb] at Ea
    rw [nj_n, nj_n, ← ec] at Eb
    have q1 := Ea.2 _ _ (hc c hcn)
    rw [cx_sh] at q1
    by_cases z : cx (X b - X a) (Y b - Y a) (X c - X b) (Y c - Y b) = 0
    · exfalso
      have b3 := q1.2 z
      have q4 := Eb.2 _ _ (hc a ha)
      have f4 : cx (X c - X b) (Y c - Y b) (X a - X b) (Y a - Y b) = cx (X b - X a) (Y b - Y a) (X c - X b) (Y c - Y b) := by unfold cx; grind
      rw [f4] at q4
      have b4 := q4.2 z
      have n1 := Ea.1
      have eg : X c = X a ∧ Y c = Y a := by unfold lxn at b3 b4; omega
      -- all lie between the two
      have all : ∀ p q : Int, S p q → cx (X b - X a) (Y b - Y a) (p - X a) (q - Y a) = 0 := fun p q s => by
        have r1 := (Ea.2 p q s).1
        have r2 := (Eb.2 p q s).1
        rw [eg.1, eg.2] at r2
        have f2 : cx (X a - X b) (Y a - Y b) (p - X b) (q - Y b) = - cx (X b - X a) (Y b - Y a) (p - X a) (q - Y a) := by unfold cx; grind
        omega
      have btw : ∀ p q : Int, S p q → (lxn (p - X a) (q - Y a) ∧ lxn (X b - p) (Y b - q)) ∨ (lxn (X a - p) (Y a - q) ∧ lxn (p - X b) (q - Y b)) := fun p q s => (Ea.2 p q s).2 (all p q s)
      have oA := p3 _ _ (hc a ha)
      have oB := p3 _ _ (hc b hbn)
      have o0 := btw _ _ p2
      have hor : (X 0 = X a ∧ Y 0 = Y a) ∨ (X 0 = X b ∧ Y 0 = Y b) := by unfold lxn at oA oB o0; omega
      rcases hor with w | w
      · have a0 : a = 0 := by
          by_cases e : a = 0
          · exact e
          · have := (p5 a (by omega) ha).2; omega
        have c0 : c = 0 := by
          by_cases e : c = 0
          · exact e
          · have := (p5 c (by omega) hcn).2; omega
        unfold nj at hb ec
        rw [if_pos (by omega)] at hb
        rw [if_pos (by omega)] at ec
        omega
      · have b0 : b = 0 := by
          by_cases e : b = 0
          · exact e
          · have := (p5 b (by omega) hbn).2; omega
        subst b0
        have c1 : c = 1 := by unfold nj at ec; rw [if_pos (by omega)] at ec; omega
        subst c1
        have E1 := p6 1 (by omega)
        have x2 : nxt X n 1 = X 2 ∧ nxt Y n 1 = Y 2 := by unfold nxt; rw [if_pos (by omega), if_pos (by omega)]; exact ⟨rfl, rfl⟩
        rw [x2.1, x2.2] at E1
        have d2 := (p5 2 (by omega) (by omega)).2
        have t0 := E1.2 _ _ p2
        have a2 := all _ _ (hc 2 (by omega))
        have f5 : cx (X 2 - X 1) (Y 2 - Y 1) (X 0 - X 1) (Y 0 - Y 1) = - cx (X 0 - X a) (Y 0 - Y a) (X 2 - X a) (Y 2 - Y a) := by rw [eg.1, eg.2]; unfold cx; grind
        have b5 := t0.2 (by omega)
        have o2 := p3 _ _ (hc 2 (by omega))
        have o1 := p3 _ _ (hc 1 (by omega))
        have d1 := (p5 1 (by omega) (by omega)).2
        unfold lxn at b5 o2 o1
        omega
    · omega
theorem par_x {a1 a2 dx dy wx wy : Int} (h : cx dx dy wx wy = 0) : cx a1 a2 wx wy * dx = cx a1 a2 dx dy * wx ∧ cx a1 a2 wx wy * dy = cx a1 a2 dx dy * wy := by
  have e1 : cx a1 a2 wx wy * dx = cx a1 a2 dx dy * wx + a1 * cx dx dy wx wy := by unfold cx; grind
  have e2 : cx a1 a2 wx wy * dy = cx a1 a2 dx dy * wy + a2 * cx dx dy wx wy := by unfold cx; grind
  rw [h, Int.mul_zero, Int.add_zero] at e1 e2
  exact ⟨e1, e2⟩
/-- k c = m w with c above 0 and k at least 0: w has the sign of m -/
theorem sg_x {k c m w : Int} (hk : 0 ≤ k) (hc : 0 < c) (h : k * m = c * w) : (0 < m → 0 ≤ w) ∧ (m < 0 → w ≤ 0) ∧ (m = 0 → w = 0) := by
  refine ⟨fun hm => ?_, fun hm => ?_, fun hm => ?_⟩
  · have := Int.mul_nonneg hk (show 0 ≤ m by omega)
    exact le_m hc (by rw [Int.sub_zero, Int.mul_comm]; omega)
  · have := Int.mul_nonneg hk (show 0 ≤ -m by omega)
    rw [Int.mul_neg] at this
    exact le_m hc (by rw [Int.sub_mul, Int.zero_mul, Int.mul_comm w c]; omega)
  · rw [hm, Int.mul_zero] at h
    by_cases e : w = 0
    · exact e
    · have := Int.mul_ne_zero (show c ≠ 0 by omega) e
      omega
/-- left of all sides and in line with one: on it -/
theorem w4 {S : Int → Int → Prop} {n x y : Int} {X Y : Nat → Int} (h : HS S n X Y) (hn : 3 ≤ n) (hg : ∀ a : Nat, (a : Int) < n → 0 ≤ cx (nxt X n a - X a) (nxt Y n a - Y a) (x - X a) (y - Y a)) {a : Nat} (ha : (a : Int) < n) (h0 : cx (nxt X n a - X a) (nxt Y n a - Y a) (x - X a) (y - Y a) = 0) : ((x - X a) * (x - nxt X n a) ≤ 0 ∧ (y - Y a) * (y - nxt Y n a) ≤ 0) ∧ ((lxn (x - X a) (y - Y a) ∧ lxn (nxt X n a - x) (nxt Y n a - y)) ∨ (lxn (X a - x) (Y a - y) ∧ lxn (x - nxt X n a) (y - nxt Y n a))) := by
  obtain ⟨z, hz, ez⟩ : ∃ z : Nat, (z : Int) < n ∧ nj n z = a := by
    by_cases e : a = 0
    · exact ⟨(n - 1).toNat, by omega, by unfold nj; rw [if_neg (by omega), e]⟩
    · exact ⟨a - 1, by omega, by unfold nj; rw [if_pos (by omega)]; omega⟩
  have hbn : (nj n a : Int) < n := nj_l (by omega)
  have T1 := w3 h hn ha rfl
  have T2 := w3 h hn hz rfl
  rw [ez] at T2
  have gb := hg _ hbn
  have gz := hg _ hz
  rw [nj_n, nj_n] at gb gz h0 ⊢
  rw [ez, cx_sh] at gz
  obtain ⟨b, eb⟩ : ∃ b, b = nj n a := ⟨_, rfl⟩
  rw [← eb] at T1 T2 gb h0 ⊢
  have P1 := par_x (a1 := X a - X z) (a2 := Y a - Y z) h0
  have h02 : cx (X b - X a) (Y b - Y a) (x - X b) (y - Y b) = 0 := by rw [← cx_sh]; exact h0
  have P2 := par_x (a1 := X (nj n b) - X b) (a2 := Y (nj n b) - Y b) h02
  have f1 : cx (X (nj n b) - X b) (Y (nj n b) - Y b) (X b - X a) (Y b - Y a) = - cx (X b - X a) (Y b - Y a) (X (nj n b) - X b) (Y (nj n b) - Y b) := by unfold cx; grind
  rw [f1, Int.neg_mul, Int.neg_mul] at P2
  have A1 := sg_x gz T2 P1.1
  have A2 := sg_x gz T2 P1.2
  have B1 := sg_x (w := X b - x) gb T1 (by rw [P2.1]; grind)
  have B2 := sg_x (w := Y b - y) gb T1 (by rw [P2.2]; grind)
  refine ⟨⟨b_sgn (by omega), b_sgn (by omega)⟩, ?_⟩
  have ly : X b - X a ≠ 0 → x = X a → y = Y a := fun q1 q2 => by
    unfold cx at h0
    rw [q2, Int.sub_self, Int.mul_zero] at h0
    by_cases e : y = Y a
    · exact e
    · have := Int.mul_ne_zero q1 (show y - Y a ≠ 0 by omega)
      omega
  have lz : X b - X a ≠ 0 → x = X b → y = Y b := fun q1 q2 => by
    unfold cx at h02
    rw [q2, Int.sub_self, Int.mul_zero] at h02
    by_cases e : y = Y b
    · exact e
    · have := Int.mul_ne_zero q1 (show y - Y b ≠ 0 by omega)
      omega
  unfold lxn
  rcases (show 0 < X b - X a ∨ X b - X a < 0 ∨ X b - X a = 0 by omega) with q | q | q
  · have l1 := ly (by omega); have l2 := lz (by omega); omega
  · have l1 := ly (by omega); have l2 := lz (by omega); omega
  · omega
/-- left of all sides: in the box -/
theorem w5 {S : Int → Int → Prop} {n x y : Int} {X Y : Nat → Int} (h : HS S n X Y) (hn : 3 ≤ n) (hg : ∀ a : Nat, (a : Int) < n → 0 ≤ cx (nxt X n a - X a) (nxt Y n a - Y a) (x - X a) (y - Y a)) : X 0 ≤ x ∧ (∃ a : Nat, (a : Int) < n ∧ x ≤ X a) ∧ (∃ a : Nat, (a : Int) < n ∧ Y a ≤ y) ∧ ∃ a : Nat, (a : Int) < n ∧ y ≤ Y a := by
  have k4 : ∀ a : Nat, (a : Int) < n → _ → _ := fun a ha h0 => (w4 h hn hg ha h0).2
  have hc := HS_S h
  rcases h with ⟨h, _⟩ | ⟨h1, h2, h3, ⟨h4, h5⟩ | ⟨h4, h5, h6⟩⟩
  · omega
  · omega
  · have E : ∀ a : Nat, (a : Int) < n → edS (fun p q => S p q ∨ (p = x ∧ q = y)) (X a) (Y a) (nxt X n a) (nxt Y n a) := fun a ha => by
      refine ⟨(h6 a ha).1, fun p q s => ?_⟩
      rcases s with s | ⟨rfl, rfl⟩
      · exact (h6 a ha).2 p q s
      · exact ⟨hg a ha, k4 a ha⟩
    have C : ∀ a : Nat, (a : Int) < n → S (X a) (Y a) ∨ (X a = x ∧ Y a = y) := fun a ha => Or.inl (hc a ha)
    have O : (fun p q => S p q ∨ (p = x ∧ q = y)) x y := Or.inr ⟨rfl, rfl⟩
    refine ⟨?_, ?_, ?_, ?_⟩
    · have q := EDG_max (α := -1) (β := 0) (M := - X 0) h1 E C (fun a ha => by have := h3 _ _ (hc a ha); unfold lxn at this; omega) O
      omega
    · apply Classical.byContradiction
      intro w
      have q := EDG_max (α := 1) (β := 0) (M := x - 1) h1 E C (fun a ha => by
        have : ¬ x ≤ X a := fun z => w ⟨a, ha, z⟩
        omega) O
      omega
    · apply Classical.byContradiction
      intro w
      have q := EDG_max (α := 0) (β := -1) (M := - y - 1) h1 E C (fun a ha => by
        have : ¬ Y a ≤ y := fun z => w ⟨a, ha, z⟩
        omega) O
      omega
    · apply Classical.byContradiction
      intro w
      have q := EDG_max (α := 0) (β := 1) (M := y - 1) h1 E C (fun a ha => by
        have : ¬ y ≤ Y a := fun z => w ⟨a, ha, z⟩
        omega) O
      omega
