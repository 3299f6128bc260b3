
/-! ===== hulls ===== -/
/-- of two numbers: the first above 0, or 0 and the second above 0; lxn: or both 0 -/
def lxp (a b : Int) : Prop := 0 < a ∨ (a = 0 ∧ 0 < b)
def lxn (a b : Int) : Prop := 0 < a ∨ (a = 0 ∧ 0 ≤ b)
theorem lp_ln {a b : Int} (h : lxp a b) : lxn a b := by unfold lxp at h; unfold lxn; omega
theorem lpT {a b c d e f : Int} (h1 : lxp a b) (h2 : lxp c d) (h3 : lxn e f) (g1 : 0 ≤ cx a b c d) (g2 : 0 ≤ cx c d e f) : 0 ≤ cx a b e f := by
  have ha : 0 ≤ a := by unfold lxp at h1; omega
  have he : 0 ≤ e := by unfold lxn at h3; omega
  rcases h2 with hc | ⟨hc, hd⟩
  · have i1 : cx a b e f * c = cx a b c d * e + cx c d e f * a := by unfold cx; grind
    have m1 := Int.mul_nonneg g1 he
    have m2 := Int.mul_nonneg g2 ha
    exact Int.le_of_mul_le_mul_right (show 0 * c ≤ cx a b e f * c from by rw [Int.zero_mul, i1]; omega) hc
  · subst hc
    have he0 : e = 0 := by
      by_cases q : e = 0
      · exact q
      · have m := Int.mul_pos hd (show 0 < e by omega)
        unfold cx at g2
        omega
    subst he0
    have m := Int.mul_nonneg ha (show 0 ≤ f by unfold lxn at h3; omega)
    unfold cx
    omega
theorem lpS {a b c d e f : Int} (h1 : lxp a b) (h2 : lxp c d) (h3 : lxp e f) (g1 : 0 ≤ cx a b c d) (g2 : 0 < cx c d e f) : 0 < cx a b e f := by
  have ha : 0 ≤ a := by unfold lxp at h1; omega
  have he : 0 ≤ e := by unfold lxp at h3; omega
  rcases h2 with hc | ⟨hc, hd⟩
  · have i1 : cx a b e f * c = cx a b c d * e + cx c d e f * a := by unfold cx; grind
    have m1 := Int.mul_nonneg g1 he
    have ha2 : 0 < a := by
      by_cases q : a = 0
      · subst q
        have m := Int.mul_pos (show 0 < b by unfold lxp at h1; omega) hc
        unfold cx at g1
        omega
      · omega
    have m2 := Int.mul_pos g2 ha2
    exact Int.lt_of_mul_lt_mul_right (show 0 * c < cx a b e f * c from by rw [Int.zero_mul, i1]; omega) (by omega)
  · subst hc
    exfalso
    have m := Int.mul_nonneg (show 0 ≤ d by omega) he
    unfold cx at g2
    omega
/-- on the left of an edge or on it, then between its ends -/
def edg (px py ex ey x y : Int) : Prop := 0 ≤ cx (ex - px) (ey - py) (x - px) (y - py) ∧ (cx (ex - px) (ey - py) (x - px) (y - py) = 0 → lxn (x - px) (y - py) ∧ lxn (ex - x) (ey - y))
/-- a chain over the points S, from the place b to the place before h -/
def chx (S : Int → Int → Prop) (X Y : Nat → Int) (b h : Nat) : Prop := b < h ∧ (∀ a : Nat, b ≤ a → a < h → S (X a) (Y a)) ∧ (∀ a : Nat, b ≤ a → a + 1 < h → lxp (X (a + 1) - X a) (Y (a + 1) - Y a)) ∧ (∀ x y : Int, S x y → lxn (x - X b) (y - Y b) ∧ lxn (X (h - 1) - x) (Y (h - 1) - y)) ∧ (∀ a : Nat, b ≤ a → a + 1 < h → ∀ x y : Int, S x y → edg (X a) (Y a) (X (a + 1)) (Y (a + 1)) x y) ∧ ∀ a : Nat, b ≤ a → a + 2 < h → 0 < tn X Y a (a + 1) (a + 2)
theorem ln_t {a b c d : Int} (h : lxn a b) (h2 : lxn c d) : lxn (a + c) (b + d) := by unfold lxn at *; omega
theorem lp_t {a b c d : Int} (h : lxp a b) (h2 : lxn c d) : lxp (a + c) (b + d) := by unfold lxn lxp at *; omega
theorem chx_up {S : Int → Int → Prop} {X Y : Nat → Int} {b h : Nat} (H : ∀ a : Nat, b ≤ a → a + 1 < h → lxp (X (a + 1) - X a) (Y (a + 1) - Y a)) : ∀ (k a : Nat), b ≤ a → a + k < h → lxn (X (a + k) - X a) (Y (a + k) - Y a) := by
  intro k
  induction k with
  | zero => intro a _ _; show lxn (X a - X a) (Y a - Y a); unfold lxn; omega
  | succ k ih =>
    intro a ha hk
    have q := ih a ha (by omega)
    have r := H (a + k) (by omega) (by omega)
    show lxn (X (a + k + 1) - X a) (Y (a + k + 1) - Y a)
    unfold lxn lxp at *
    omega
theorem cx_sw {a b c d : Int} : cx c d a b = - cx a b c d := by unfold cx; grind
theorem cx_sh {a b c d e f : Int} : cx (c - a) (d - b) (e - a) (f - b) = cx (c - a) (d - b) (e - c) (f - d) := by unfold cx; grind
theorem cx_c1 {gx gy hx hy qx qy wx wy : Int} : cx (wx - gx) (wy - gy) (qx - gx) (qy - gy) = cx (wx - qx) (wy - qy) (hx - gx) (hy - gy) + cx (wx - hx) (wy - hy) (qx - hx) (qy - hy) := by unfold cx; grind
theorem cx_c2 {hx hy qx qy wx wy : Int} : cx (wx - qx) (wy - qy) (wx - hx) (wy - hy) = cx (wx - hx) (wy - hy) (qx - hx) (qy - hy) := by unfold cx; grind
theorem cx_c3 {gx gy hx hy qx qy : Int} : cx (hx - qx) (hy - qy) (hx - gx) (hy - gy) = cx (hx - gx) (hy - gy) (qx - gx) (qy - gy) := by unfold cx; grind
theorem cx_c4 {hx hy qx qy wx wy : Int} : cx (wx - hx) (wy - hy) (qx - hx) (qy - hy) = cx (hx - qx) (hy - qy) (wx - hx) (wy - hy) := by unfold cx; grind
theorem cx_00 {a b : Int} : cx a b a b = 0 := by unfold cx; grind
theorem cx_z {a b : Int} : cx a b 0 0 = 0 := by unfold cx; grind
/-- the points behind the place that stays are left of the way to the new one -/
theorem chx_k1 {S : Int → Int → Prop} {X Y : Nat → Int} {b h v : Nat} {wx wy : Int} (C : chx S X Y b h) (hw : lxp (wx - X (h - 1)) (wy - Y (h - 1))) (hv : b < v) (hvh : v ≤ h) (hpop : ∀ j : Nat, v ≤ j → j < h → cx (X j - X (j - 1)) (Y j - Y (j - 1)) (wx - X (j - 1)) (wy - Y (j - 1)) ≤ 0) :
    ∀ (k m : Nat), m + k + 1 = h → v ≤ m + 1 → ∀ x y : Int, S x y → lxn (x - X m) (y - Y m) → 0 ≤ cx (wx - X m) (wy - Y m) (x - X m) (y - Y m) := by
  obtain ⟨_, _, c3, c4, c5, _⟩ := C
  intro k
  induction k with
  | zero =>
    intro m hm _ x y hs hl
    have q := (c4 x y hs).2
    rw [show h - 1 = m by omega] at q
    rw [show x - X m = 0 by unfold lxn at *; omega, show y - Y m = 0 by unfold lxn at *; omega, cx_z]
    omega
  | succ k ih =>
    intro m hm hvm x y hs hl
    have P := ih (m + 1) (by omega) (by omega) x y hs
    have hp := hpop (m + 1) (by omega) (by omega)
    rw [show m + 1 - 1 = m by omega] at hp
    have hd := c3 m (by omega) (by omega)
    have up := chx_up (S := S) c3 (h - 1 - (m + 1)) (m + 1) (by omega) (by omega)
    rw [show m + 1 + (h - 1 - (m + 1)) = h - 1 by omega] at up
    have hwH : lxp (wx - X (m + 1)) (wy - Y (m + 1)) := by unfold lxp lxn at *; omega
    have hwg : lxp (wx - X m) (wy - Y m) := by unfold lxp lxn at *; omega
    by_cases e : lxn (x - X (m + 1)) (y - Y (m + 1))
    · have q := P e
      have hwq : lxp (wx - x) (wy - y) := by
        have z := (c4 x y hs).2
        unfold lxp lxn at *; omega
      rw [cx_c1 (hx := X (m + 1)) (hy := Y (m + 1))]
      have z := lpT hwq hwH (lp_ln hd) (by rw [cx_c2]; exact q) (by rw [cx_sw, ← cx_sh]; omega)
      omega
    · have q := (c5 m (by omega) (by omega) x y hs).1
      exact lpT hwg hd hl (by rw [cx_sw]; omega) q
/-- the points before it too -/
theorem chx_k2 {S : Int → Int → Prop} {X Y : Nat → Int} {b h v : Nat} {wx wy : Int} (C : chx S X Y b h) (hw : lxp (wx - X (h - 1)) (wy - Y (h - 1))) (hv : b < v) (hvh : v ≤ h) (hkeep : v ≤ b + 1 ∨ 0 < cx (X (v - 1) - X (v - 2)) (Y (v - 1) - Y (v - 2)) (wx - X (v - 2)) (wy - Y (v - 2))) {x y : Int} (hs : S x y) (hl : ¬ lxn (x - X (v - 1)) (y - Y (v - 1))) : 0 < cx (wx - X (v - 1)) (wy - Y (v - 1)) (x - X (v - 1)) (y - Y (v - 1)) := by
  obtain ⟨_, _, c3, c4, c5, _⟩ := C
  have hb := (c4 x y hs).1
  have hvb : b + 1 < v := by
    apply Nat.lt_of_not_le; intro q
    rw [show v - 1 = b by omega] at hl
    exact hl hb
  have hk : 0 < cx (X (v - 1) - X (v - 2)) (Y (v - 1) - Y (v - 2)) (wx - X (v - 2)) (wy - Y (v - 2)) := by
    rcases hkeep with q | q
    · omega
    · exact q
  have hd := c3 (v - 2) (by omega) (by omega)
  have he := (c5 (v - 2) (by omega) (by omega) x y hs).1
  rw [show v - 2 + 1 = v - 1 by omega] at hd he
  have up := chx_up (S := S) c3 (h - 1 - (v - 1)) (v - 1) (by omega) (by omega)
  rw [show v - 1 + (h - 1 - (v - 1)) = h - 1 by omega] at up
  have ha : lxp (wx - X (v - 1)) (wy - Y (v - 1)) := by unfold lxp lxn at *; omega
  have hq : lxp (X (v - 1) - x) (Y (v - 1) - y) := by unfold lxp; unfold lxn at hl; omega
  rw [cx_c4]
  exact lpS hq hd ha (by rw [cx_c3]; exact he) (by rw [← cx_sh]; exact hk)
/-- the new point is left of the edges that stay -/
theorem chx_k3 {S : Int → Int → Prop} {X Y : Nat → Int} {b h v : Nat} {wx wy : Int} (C : chx S X Y b h) (hw : lxp (wx - X (h - 1)) (wy - Y (h - 1))) (hv : b < v) (hvh : v ≤ h) (hkeep : v ≤ b + 1 ∨ 0 < cx (X (v - 1) - X (v - 2)) (Y (v - 1) - Y (v - 2)) (wx - X (v - 2)) (wy - Y (v - 2))) : ∀ (k a : Nat), a + k + 2 = v → b ≤ a → 0 < cx (X (a + 1) - X a) (Y (a + 1) - Y a) (wx - X a) (wy - Y a) := by
  obtain ⟨_, _, c3, c4, c5, c6⟩ := C
  intro k
  induction k with
  | zero =>
    intro a ha hb
    rcases hkeep with q | q
    · omega
    · rw [show v - 1 = a + 1 by omega, show v - 2 = a by omega] at q; exact q
  | succ k ih =>
    intro a ha hb
    have q := ih (a + 1) (by omega) (by omega)
    have t := c6 a hb (by omega)
    have d0 := c3 a hb (by omega)
    have d1 := c3 (a + 1) (by omega) (by omega)
    have up := chx_up (S := S) c3 (h - 1 - (a + 1)) (a + 1) (by omega) (by omega)
    rw [show a + 1 + (h - 1 - (a + 1)) = h - 1 by omega] at up
    have hwa : lxp (wx - X (a + 1)) (wy - Y (a + 1)) := by unfold lxp lxn at *; omega
    have t2 : 0 < cx (X (a + 1) - X a) (Y (a + 1) - Y a) (X (a + 2) - X (a + 1)) (Y (a + 2) - Y (a + 1)) := by
      rw [← cx_sh]; exact t
    rw [cx_sh]
    exact lpS d0 d1 hwa (by show 0 ≤ cx _ _ (X (a + 2) - X (a + 1)) (Y (a + 2) - Y (a + 1)); omega) q
/-- a chain goes on -/
theorem chx_s {S : Int → Int → Prop} {X Y X' Y' : Nat → Int} {b h v : Nat} {wx wy : Int} (C : chx S X Y b h) (hw : lxp (wx - X (h - 1)) (wy - Y (h - 1))) (hv : b < v) (hvh : v ≤ h) (hpop : ∀ j : Nat, v ≤ j → j < h → cx (X j - X (j - 1)) (Y j - Y (j - 1)) (wx - X (j - 1)) (wy - Y (j - 1)) ≤ 0) (hkeep : v ≤ b + 1 ∨ 0 < cx (X (v - 1) - X (v - 2)) (Y (v - 1) - Y (v - 2)) (wx - X (v - 2)) (wy - Y (v - 2))) (hX : ∀ a : Nat, a < v → X' a = X a ∧ Y' a = Y a) (hx : X' v = wx) (hy : Y' v = wy) {S' : Int → Int → Prop} (hS : ∀ x y : Int, S' x y ↔ S x y ∨ (x = wx ∧ y = wy)) : chx S' X' Y' b (v + 1) := by
  have K1 := chx_k1 C hw hv hvh hpop (h - v) (v - 1) (by omega) (by omega)
  have K3 := chx_k3 C hw hv hvh hkeep
  have K2 := fun x y hs hl => chx_k2 C hw hv hvh hkeep (x := x) (y := y) hs hl
  obtain ⟨c1, c2, c3, c4, c5, c6⟩ := C
  have eX : ∀ a : Nat, a < v → X' a = X a := fun a ha => (hX a ha).1
  have eY : ∀ a : Nat, a < v → Y' a = Y a := fun a ha => (hX a ha).2
  have up := chx_up (S := S) c3 (h - 1 - (v - 1)) (v - 1) (by omega) (by omega)
  rw [show v - 1 + (h - 1 - (v - 1)) = h - 1 by omega] at up
  have ub := chx_up (S := S) c3 (v - 1 - b) b (by omega) (by omega)
  rw [show b + (v - 1 - b) = v - 1 by omega] at ub
  have hwv : lxp (wx - X (v - 1)) (wy - Y (v - 1)) := by unfold lxp lxn at *; omega
  have hwq : ∀ x y : Int, S x y → lxp (wx - x) (wy - y) := fun x y hs => by
    have z := (c4 x y hs).2
    unfold lxp lxn at *; omega
  refine ⟨by omega, fun a ha hh => ?_, fun a ha hh => ?_, fun x y hs => ?_, fun a ha hh x y hs => ?_, fun a ha hh => ?_⟩
  · by_cases e : a = v
    · subst e; exact (hS _ _).mpr (Or.inr ⟨hx, hy⟩)
    · rw [eX a (by omega), eY a (by omega)]; exact (hS _ _).mpr (Or.inl (c2 a ha (by omega)))
  · by_cases e : a + 1 = v
    · rw [e, hx, hy, eX a (by omega), eY a (by omega), show a = v - 1 by omega]; exact hwv
    · rw [eX a (by omega), eY a (by omega), eX (a + 1) (by omega), eY (a + 1) (by omega)]; exact c3 a ha (by omega)
  · rw [show v + 1 - 1 = v by omega, hx, hy, eX b hv, eY b hv]
    rcases (hS x y).mp hs with q | ⟨q1, q2⟩
    · exact ⟨(c4 x y q).1, lp_ln (hwq x y q)⟩
    · subst q1; subst q2
      exact ⟨by unfold lxp lxn at *; omega, by unfold lxn; omega⟩
  · by_cases e : a + 1 = v
    · rw [e, hx, hy, eX a (by omega), eY a (by omega), show a = v - 1 by omega]
      rcases (hS x y).mp hs with q | ⟨q1, q2⟩
      · by_cases l : lxn (x - X (v - 1)) (y - Y (v - 1))
        · exact ⟨K1 x y q l, fun _ => ⟨l, lp_ln (hwq x y q)⟩⟩
        · have z := K2 x y q l
          exact ⟨by omega, fun z2 => by omega⟩
      · subst q1; subst q2
        exact ⟨by rw [cx_00]; omega, fun _ => ⟨lp_ln hwv, by unfold lxn; omega⟩⟩
    · rw [eX a (by omega), eY a (by omega), eX (a + 1) (by omega), eY (a + 1) (by omega)]
      rcases (hS x y).mp hs with q | ⟨q1, q2⟩
      · exact c5 a ha (by omega) x y q
      · subst q1; subst q2
        have z := K3 (v - 2 - a) a (by omega) ha
        exact ⟨by omega, fun z2 => by omega⟩
  · by_cases e : a + 2 = v
    · unfold tn
      rw [e, hx, hy, eX a (by omega), eY a (by omega), eX (a + 1) (by omega), eY (a + 1) (by omega)]
      rcases hkeep with q | q
      · omega
      · rw [show v - 1 = a + 1 by omega, show v - 2 = a by omega] at q
        unfold cx at q
        exact q
    · rw [tn_cong (eX a (by omega)) (eX (a + 1) (by omega)) (eX (a + 2) (by omega)) (eY a (by omega)) (eY (a + 1) (by omega)) (eY (a + 2) (by omega))]
      exact c6 a ha (by omega)
/-- a chain of one point -/
theorem chx_1 {S : Int → Int → Prop} {X Y : Nat → Int} {b : Nat} (h : ∀ x y : Int, S x y ↔ x = X b ∧ y = Y b) : chx S X Y b (b + 1) := by
  refine ⟨by omega, fun a ha hh => ?_, fun a ha hh => by omega, fun x y hs => ?_, fun a ha hh => by omega, fun a ha hh => by omega⟩
  · rw [show a = b by omega]; exact (h _ _).mpr ⟨rfl, rfl⟩
  · obtain ⟨e1, e2⟩ := (h x y).mp hs
    rw [show b + 1 - 1 = b by omega, e1, e2]
    exact ⟨by unfold lxn; omega, by unfold lxn; omega⟩
theorem chx_cong {S S' : Int → Int → Prop} {X Y X' Y' : Nat → Int} {b h : Nat} (C : chx S X Y b h) (e : ∀ a : Nat, b ≤ a → a < h → X' a = X a ∧ Y' a = Y a) (hS : ∀ x y : Int, S' x y ↔ S x y) : chx S' X' Y' b h := by
  obtain ⟨c1, c2, c3, c4, c5, c6⟩ := C
  refine ⟨c1, fun a ha hh => ?_, fun a ha hh => ?_, fun x y hs => ?_, fun a ha hh x y hs => ?_, fun a ha hh => ?_⟩
  · rw [(e a ha hh).1, (e a ha hh).2]; exact (hS _ _).mpr (c2 a ha hh)
  · rw [(e a ha (by omega)).1, (e a ha (by omega)).2, (e (a + 1) (by omega) hh).1, (e (a + 1) (by omega) hh).2]; exact c3 a ha hh
  · rw [(e b (by omega) c1).1, (e b (by omega) c1).2, (e (h - 1) (by omega) (by omega)).1, (e (h - 1) (by omega) (by omega)).2]; exact c4 x y ((hS _ _).mp hs)
  · rw [(e a ha (by omega)).1, (e a ha (by omega)).2, (e (a + 1) (by omega) hh).1, (e (a + 1) (by omega) hh).2]; exact c5 a ha hh x y ((hS _ _).mp hs)
  · rw [tn_cong (e a ha (by omega)).1 (e (a + 1) (by omega) (by omega)).1 (e (a + 2) (by omega) (by omega)).1 (e a ha (by omega)).2 (e (a + 1) (by omega) (by omega)).2 (e (a + 2) (by omega) (by omega)).2]; exact c6 a ha hh
/-! what a hull is -/
def nxt (X : Nat → Int) (n : Int) (a : Nat) : Int := if (a : Int) + 1 < n then X (a + 1) else X 0
/-- an edge of S, told either way -/
def edS (S : Int → Int → Prop) (px py ex ey : Int) : Prop := (px ≠ ex ∨ py ≠ ey) ∧ ∀ x y : Int, S x y → 0 ≤ cx (ex - px) (ey - py) (x - px) (y - py) ∧ (cx (ex - px) (ey - py) (x - px) (y - py) = 0 → (lxn (x - px) (y - py) ∧ lxn (ex - x) (ey - y)) ∨ (lxn (px - x) (py - y) ∧ lxn (x - ex) (y - ey)))
def HS (S : Int → Int → Prop) (n : Int) (X Y : Nat → Int) : Prop := (n = 0 ∧ ∀ x y : Int, ¬ S x y) ∨ (0 < n ∧ S (X 0) (Y 0) ∧ (∀ x y : Int, S x y → lxn (x - X 0) (y - Y 0)) ∧ ((n = 1 ∧ ∀ x y : Int, S x y → x = X 0 ∧ y = Y 0) ∨ (2 ≤ n ∧ (∀ a : Nat, 0 < a → (a : Int) < n → S (X a) (Y a) ∧ (X a ≠ X 0 ∨ Y a ≠ Y 0)) ∧ ∀ a : Nat, (a : Int) < n → edS S (X a) (Y a) (nxt X n a) (nxt Y n a))))
theorem edS_u {S : Int → Int → Prop} {px py ex ey fx fy : Int} (h : edS S px py ex ey) (h' : edS S px py fx fy) (se : S ex ey) (sf : S fx fy) : ex = fx ∧ ey = fy := by
  obtain ⟨n1, g1⟩ := h
  obtain ⟨n2, g2⟩ := h'
  obtain ⟨a1, b1⟩ := g1 fx fy sf
  obtain ⟨a2, b2⟩ := g2 ex ey se
  rw [cx_sw] at a2 b2
  have z : cx (ex - px) (ey - py) (fx - px) (fy - py) = 0 := by omega
  have r1 := b1 z
  have r2 := b2 (by omega)
  unfold lxn at r1 r2
  omega
theorem HS_S {S : Int → Int → Prop} {n : Int} {X Y : Nat → Int} (h : HS S n X Y) (a : Nat) (ha : (a : Int) < n) : S (X a) (Y a) := by
  rcases h with ⟨h, _⟩ | ⟨h1, h2, h3, ⟨h4, _⟩ | ⟨h4, h5, _⟩⟩
  · omega
  · rw [show a = 0 by omega]; exact h2
  · by_cases e : a = 0
    · rw [e]; exact h2
    · exact (h5 a (by omega) ha).1
theorem HS_p {S : Int → Int → Prop} {n n' : Int} {X Y X' Y' : Nat → Int} (h : HS S n X Y) (h' : HS S n' X' Y') : ∀ a : Nat, (a : Int) < n → (a : Int) < n' → X a = X' a ∧ Y a = Y' a := by
  intro a
  induction a with
  | zero =>
    intro h1 h2
    have s1 := HS_S h 0 h1
    have s2 := HS_S h' 0 h2
    rcases h with ⟨h, _⟩ | ⟨_, _, h3, _⟩
    · omega
    · rcases h' with ⟨h', _⟩ | ⟨_, _, h3', _⟩
      · omega
      · have q1 := h3 _ _ s2
        have q2 := h3' _ _ s1
        unfold lxn at q1 q2
        omega
  | succ a ih =>
    intro h1 h2
    obtain ⟨e1, e2⟩ := ih (by omega) (by omega)
    have s1 := HS_S h (a + 1) h1
    have s2 := HS_S h' (a + 1) h2
    rcases h with ⟨h, _⟩ | ⟨_, _, _, ⟨h4, _⟩ | ⟨_, _, h6⟩⟩
    · omega
    · omega
    · rcases h' with ⟨h', _⟩ | ⟨_, _, _, ⟨h4', _⟩ | ⟨_, _, h6'⟩⟩
      · omega
      · omega
      · have g1 := h6 a (by omega)
        have g2 := h6' a (by omega)
        unfold nxt at g1 g2
        rw [if_pos (by omega), if_pos (by omega)] at g1 g2
        rw [e1, e2] at g1
        exact edS_u g1 g2 s1 s2
theorem HS_n {S : Int → Int → Prop} {n n' : Int} {X Y X' Y' : Nat → Int} (h : HS S n X Y) (h' : HS S n' X' Y') : n' ≤ n := by
  apply Int.not_lt.mp
  intro hl
  have P := HS_p h h'
  have T := fun a ha => HS_S h' a ha
  rcases h with ⟨h, hn⟩ | ⟨h1, h2, h3, h4⟩
  · exact hn _ _ (T 0 (by omega))
  · have e0 := P 0 (by omega) (by omega)
    rcases h' with ⟨h', _⟩ | ⟨_, _, _, ⟨h4', _⟩ | ⟨h4', h5', h6'⟩⟩
    · omega
    · omega
    · rcases h4 with ⟨h4, h5⟩ | ⟨h4, h5, h6⟩
      · have q := h5' 1 (by omega) (by omega)
        have r := h5 _ _ q.1
        omega
      · have e1 := P (n - 1).toNat (by omega) (by omega)
        have g1 := h6 (n - 1).toNat (by omega)
        have g2 := h6' (n - 1).toNat (by omega)
        unfold nxt at g1 g2
        rw [if_neg (by omega), if_neg (by omega)] at g1
        rw [if_pos (by omega), if_pos (by omega)] at g2
        rw [e1.1, e1.2] at g1
        have q := h5' ((n - 1).toNat + 1) (by omega) (by omega)
        have r := edS_u g1 g2 h2 q.1
        omega
theorem HS_u {S : Int → Int → Prop} {n n' : Int} {X Y X' Y' : Nat → Int} (h : HS S n X Y) (h' : HS S n' X' Y') : n = n' ∧ ∀ a : Nat, (a : Int) < n → X a = X' a ∧ Y a = Y' a := by
  have h1 := HS_n h h'
  have h2 := HS_n h' h
  exact ⟨by omega, fun a ha => HS_p h h' a ha (by omega)⟩
theorem HS_c {S S' : Int → Int → Prop} {n : Int} {X Y X' Y' : Nat → Int} (h : HS S n X Y) (hS : ∀ x y : Int, S x y ↔ S' x y) (e : ∀ a : Nat, (a : Int) < n → X' a = X a ∧ Y' a = Y a) : HS S' n X' Y' := by
  rcases h with ⟨h, h2⟩ | ⟨h1, h2, h3, h4⟩
  · exact Or.inl ⟨h, fun x y q => h2 x y ((hS x y).mpr q)⟩
  · have e0 := e 0 (by omega)
    refine Or.inr ⟨h1, by rw [e0.1, e0.2]; exact (hS _ _).mp h2, fun x y q => by rw [e0.1, e0.2]; exact h3 x y ((hS x y).mpr q), ?_⟩
    rcases h4 with ⟨h4, h5⟩ | ⟨h4, h5, h6⟩
    · exact Or.inl ⟨h4, fun x y q => by rw [e0.1, e0.2]; exact h5 x y ((hS x y).mpr q)⟩
    · refine Or.inr ⟨h4, fun a ha hh => ?_, fun a ha => ?_⟩
      · have q := h5 a ha hh
        rw [(e a hh).1, (e a hh).2, e0.1, e0.2]
        exact ⟨(hS _ _).mp q.1, q.2⟩
      · have q := h6 a ha
        have n1 : nxt X' n a = nxt X n a := by
          unfold nxt; split
          · exact (e (a + 1) (by omega)).1
          · exact e0.1
        have n2 : nxt Y' n a = nxt Y n a := by
          unfold nxt; split
          · exact (e (a + 1) (by omega)).2
          · exact e0.2
        rw [(e a ha).1, (e a ha).2, n1, n2]
        exact ⟨q.1, fun x y s => q.2 x y ((hS x y).mpr s)⟩
