
theorem cx_nn {a b c d e f g h : Int} : cx (-a - -b) (-c - -d) (-e - -b) (-f - -d) = cx (a - b) (c - d) (e - b) (f - d) := by unfold cx; grind
/-- the points of S turned by a half turn -/
def ngS (S : Int → Int → Prop) : Int → Int → Prop := fun x y => S (-x) (-y)
def ng (X : Nat → Int) : Nat → Int := fun a => - X a
theorem ngS_n {S : Int → Int → Prop} {x y : Int} : ngS S (-x) (-y) ↔ S x y := by unfold ngS; rw [Int.neg_neg, Int.neg_neg]
/-- an edge of a chain is one of S -/
theorem chx_e1 {S : Int → Int → Prop} {X Y : Nat → Int} {b h a : Nat} (C : chx S X Y b h) (ha : b ≤ a) (hh : a + 1 < h) : edS S (X a) (Y a) (X (a + 1)) (Y (a + 1)) := by
  have d := C.2.2.1 a ha hh
  refine ⟨by unfold lxp at d; omega, fun x y s => ?_⟩
  have q := C.2.2.2.2.1 a ha hh x y s
  exact ⟨q.1, fun z => Or.inl (q.2 z)⟩
theorem chx_e2 {S : Int → Int → Prop} {X Y : Nat → Int} {b h a : Nat} (C : chx (ngS S) (ng X) (ng Y) b h) (ha : b ≤ a) (hh : a + 1 < h) : edS S (X a) (Y a) (X (a + 1)) (Y (a + 1)) := by
  have d := C.2.2.1 a ha hh
  unfold ng at d
  refine ⟨by unfold lxp at d; omega, fun x y s => ?_⟩
  have q := C.2.2.2.2.1 a ha hh (-x) (-y) (ngS_n.mpr s)
  unfold edg ng at q
  rw [cx_nn (g := 0) (h := 0)] at q
  refine ⟨q.1, fun z => Or.inr ?_⟩
  have r := q.2 z
  unfold lxn at r ⊢
  omega
theorem chx_lt {S : Int → Int → Prop} {X Y : Nat → Int} {b h : Nat} (C : chx S X Y b h) {a c : Nat} (ha : b ≤ a) (hac : a < c) (hc : c < h) : lxp (X c - X a) (Y c - Y a) := by
  have d := C.2.2.1 a ha (by omega)
  have up := chx_up (S := S) C.2.2.1 (c - (a + 1)) (a + 1) (by omega) (by omega)
  rw [show a + 1 + (c - (a + 1)) = c by omega] at up
  unfold lxp lxn at *
  omega
/-- the reference's way: lower chain to t, upper chain from t on; the place n holds the first one again -/
theorem HS_m {S : Int → Int → Prop} {X Y : Nat → Int} {t n : Nat} (C1 : chx S X Y 0 (t + 1)) (C2 : chx (ngS S) (ng X) (ng Y) t (n + 1)) (ht : 1 ≤ t) (hn : t < n) (eX : X n = X 0) (eY : Y n = Y 0) : HS S n X Y := by
  have s0 := C1.2.1 0 (by omega) (by omega)
  refine Or.inr ⟨by omega, s0, fun x y s => (C1.2.2.2.1 x y s).1, Or.inr ⟨by omega, fun a ha hh => ⟨?_, ?_⟩, fun a ha => ?_⟩⟩
  · by_cases e : a ≤ t
    · exact C1.2.1 a (by omega) (by omega)
    · have q := C2.2.1 a (by omega) (by omega)
      unfold ng at q
      exact ngS_n.mp q
  · by_cases e : a ≤ t
    · have q := chx_lt C1 (a := 0) (c := a) (by omega) ha (by omega)
      unfold lxp at q; omega
    · have q := chx_lt C2 (a := a) (c := n) (by omega) (by omega) (by omega)
      unfold lxp ng at q; omega
  · have n1 : nxt X n a = X (a + 1) := by
      unfold nxt; split
      · rfl
      · rw [show a + 1 = n by omega, eX]
    have n2 : nxt Y n a = Y (a + 1) := by
      unfold nxt; split
      · rfl
      · rw [show a + 1 = n by omega, eY]
    rw [n1, n2]
    by_cases e : a < t
    · exact chx_e1 C1 (by omega) (by omega)
    · exact chx_e2 C2 (by omega) (by omega)
theorem HS_1 {S : Int → Int → Prop} {X Y : Nat → Int} (h : S (X 0) (Y 0)) (h2 : ∀ x y : Int, S x y → x = X 0 ∧ y = Y 0) : HS S 1 X Y :=
  Or.inr ⟨by omega, h, fun x y s => by obtain ⟨e1, e2⟩ := h2 x y s; rw [e1, e2]; unfold lxn; omega, Or.inl ⟨rfl, h2⟩⟩
/-! the class's way: columns -/
/-- of each column (x from -80 on) the least and the greatest -/
def HUL (S : Int → Int → Prop) (f g : Nat → Int) : Prop := (∀ x y : Int, S x y → (-80 ≤ x ∧ x ≤ 80) ∧ f (x + 80).toNat ≤ y ∧ y ≤ g (x + 80).toNat) ∧ (∀ c : Nat, c < 161 → f c ≤ g c → S ((c : Int) - 80) (f c) ∧ S ((c : Int) - 80) (g c)) ∧ ∀ c : Nat, c < 161 → f c ≤ g c ∨ (81 ≤ f c ∧ g c ≤ -81)
/-- the lowest points of the columns before k -/
def SL (f g : Nat → Int) (k : Nat) : Int → Int → Prop := fun x y => ∃ c : Nat, c < k ∧ f c ≤ g c ∧ x = (c : Int) - 80 ∧ y = f c
/-- the highest points of the columns from k on -/
def SH (f g : Nat → Int) (k : Nat) : Int → Int → Prop := fun x y => ∃ c : Nat, k ≤ c ∧ c < 161 ∧ f c ≤ g c ∧ x = (c : Int) - 80 ∧ y = g c
theorem HUL_l {S : Int → Int → Prop} {f g : Nat → Int} (h : HUL S f g) {x y : Int} (s : S x y) : SL f g 161 x (f (x + 80).toNat) ∧ SH f g 0 x (g (x + 80).toNat) := by
  have q := h.1 x y s
  exact ⟨⟨(x + 80).toNat, by omega, by omega, by omega, rfl⟩, ⟨(x + 80).toNat, by omega, by omega, by omega, by omega, rfl⟩⟩
theorem SL_S {S : Int → Int → Prop} {f g : Nat → Int} (h : HUL S f g) {x y : Int} (s : SL f g 161 x y) : S x y := by
  obtain ⟨c, h1, h2, rfl, rfl⟩ := s
  exact (h.2.1 c h1 h2).1
theorem SH_S {S : Int → Int → Prop} {f g : Nat → Int} (h : HUL S f g) {x y : Int} (s : SH f g 0 x y) : S x y := by
  obtain ⟨c, _, h1, h2, rfl, rfl⟩ := s
  exact (h.2.1 c h1 h2).2
theorem cx_up {a b c d e : Int} : cx a b c d = cx a b c e + a * (d - e) := by unfold cx; grind
/-- an edge over the lowest points is one of S -/
theorem edS_l {S : Int → Int → Prop} {f g : Nat → Int} (h : HUL S f g) {X Y : Nat → Int} {b m a : Nat} (C : chx (SL f g 161) X Y b m) (ha : b ≤ a) (hh : a + 1 < m) : edS S (X a) (Y a) (X (a + 1)) (Y (a + 1)) := by
  have d := C.2.2.1 a ha hh
  have hx : 0 < X (a + 1) - X a := by
    obtain ⟨c1, _, _, e1, e2⟩ := C.2.1 a ha (by omega)
    obtain ⟨c2, _, _, e3, e4⟩ := C.2.1 (a + 1) (by omega) hh
    rcases d with d | ⟨d1, d2⟩
    · exact d
    · have : c1 = c2 := by omega
      subst this
      omega
  refine ⟨by omega, fun x y s => ?_⟩
  have q := C.2.2.2.2.1 a ha hh _ _ (HUL_l h s).1
  have r := (h.1 x y s).2.1
  have m0 := Int.mul_nonneg (show 0 ≤ X (a + 1) - X a by omega) (show 0 ≤ (y - Y a) - (f (x + 80).toNat - Y a) by omega)
  have e := cx_up (a := X (a + 1) - X a) (b := Y (a + 1) - Y a) (c := x - X a) (d := y - Y a) (e := f (x + 80).toNat - Y a)
  have q1 := q.1
  refine ⟨by omega, fun z => Or.inl ?_⟩
  have ey : y = f (x + 80).toNat := by
    by_cases w : y = f (x + 80).toNat
    · exact w
    · have m1 := Int.mul_pos hx (show 0 < (y - Y a) - (f (x + 80).toNat - Y a) by omega)
      omega
  have q2 := q.2 (by rw [← ey]; exact z)
  rw [← ey] at q2
  exact q2
theorem edS_h {S : Int → Int → Prop} {f g : Nat → Int} (h : HUL S f g) {X Y : Nat → Int} {b m a : Nat} (C : chx (ngS (SH f g 0)) (ng X) (ng Y) b m) (ha : b ≤ a) (hh : a + 1 < m) : edS S (X a) (Y a) (X (a + 1)) (Y (a + 1)) := by
  have d := C.2.2.1 a ha hh
  unfold ng at d
  have hx : X (a + 1) - X a < 0 := by
    obtain ⟨c1, _, _, _, e1, e2⟩ := ngS_n.mp (C.2.1 a ha (by omega))
    obtain ⟨c2, _, _, _, e3, e4⟩ := ngS_n.mp (C.2.1 (a + 1) (by omega) hh)
    rcases d with d | ⟨d1, d2⟩
    · omega
    · have : c1 = c2 := by omega
      subst this
      omega
  refine ⟨by omega, fun x y s => ?_⟩
  have q := C.2.2.2.2.1 a ha hh (-x) (-(g (x + 80).toNat)) (ngS_n.mpr (HUL_l h s).2)
  unfold edg ng at q
  rw [cx_nn (g := 0) (h := 0)] at q
  have r := (h.1 x y s).2.2
  have m0 := Int.mul_nonneg (show 0 ≤ X a - X (a + 1) by omega) (show 0 ≤ (g (x + 80).toNat - Y a) - (y - Y a) by omega)
  have e := cx_up (a := X (a + 1) - X a) (b := Y (a + 1) - Y a) (c := x - X a) (d := y - Y a) (e := g (x + 80).toNat - Y a)
  have e2 : (X (a + 1) - X a) * (y - Y a - (g (x + 80).toNat - Y a)) = (X a - X (a + 1)) * ((g (x + 80).toNat - Y a) - (y - Y a)) := by grind
  have q1 := q.1
  refine ⟨by omega, fun z => Or.inr ?_⟩
  have ey : y = g (x + 80).toNat := by
    by_cases w : y = g (x + 80).toNat
    · exact w
    · have m1 := Int.mul_pos (show 0 < X a - X (a + 1) by omega) (show 0 < (g (x + 80).toNat - Y a) - (y - Y a) by omega)
      omega
  have q2 := q.2 (by rw [← ey]; exact z)
  rw [← ey] at q2
  unfold lxn at q2 ⊢
  omega
/-- upright edges -/
theorem edS_u1 {S : Int → Int → Prop} {px py ey : Int} (hp : py < ey) (h : ∀ x y : Int, S x y → x < px ∨ (x = px ∧ py ≤ y ∧ y ≤ ey)) : edS S px py px ey := by
  refine ⟨by omega, fun x y s => ?_⟩
  have e : cx (px - px) (ey - py) (x - px) (y - py) = (ey - py) * (px - x) := by unfold cx; grind
  rw [e]
  rcases h x y s with q | ⟨q, q1, q2⟩
  · have m := Int.mul_pos (show 0 < ey - py by omega) (show 0 < px - x by omega)
    exact ⟨by omega, fun z => by omega⟩
  · subst q
    rw [show x - x = 0 by omega, Int.mul_zero]
    exact ⟨by omega, fun _ => Or.inl (by unfold lxn; omega)⟩
theorem edS_u2 {S : Int → Int → Prop} {px py ey : Int} (hp : ey < py) (h : ∀ x y : Int, S x y → px < x ∨ (x = px ∧ ey ≤ y ∧ y ≤ py)) : edS S px py px ey := by
  refine ⟨by omega, fun x y s => ?_⟩
  have e : cx (px - px) (ey - py) (x - px) (y - py) = (py - ey) * (x - px) := by unfold cx; grind
  rw [e]
  rcases h x y s with q | ⟨q, q1, q2⟩
  · have m := Int.mul_pos (show 0 < py - ey by omega) (show 0 < x - px by omega)
    exact ⟨by omega, fun z => by omega⟩
  · subst q
    rw [show x - x = 0 by omega, Int.mul_zero]
    exact ⟨by omega, fun _ => Or.inr (by unfold lxn; omega)⟩
/-- the class's hull: lower chain to m, an upright edge or none, upper chain from b on to k - 1; n of them are told -/
theorem HS_k {S : Int → Int → Prop} {f g : Nat → Int} (h : HUL S f g) {X Y : Nat → Int} {m b k n : Nat} (C1 : chx (SL f g 161) X Y 0 (m + 1)) (C2 : chx (ngS (SH f g 0)) (ng X) (ng Y) b k) (hb : (b = m ∧ Y b = Y m) ∨ (b = m + 1 ∧ X b = X m ∧ Y m < Y b)) (hn : (n = k ∧ (k ≤ 1 ∨ X 0 ≠ X (k - 1) ∨ Y 0 ≠ Y (k - 1))) ∨ (n + 1 = k ∧ 1 < k ∧ X 0 = X (k - 1) ∧ Y 0 = Y (k - 1))) : HS S n X Y := by
  have hbk := C2.1
  have s0 : S (X 0) (Y 0) := SL_S h (C1.2.1 0 (by omega) (by omega))
  -- the ends
  have L0 : ∀ x y : Int, S x y → X 0 < x ∨ (x = X 0 ∧ Y 0 ≤ y) := fun x y s => by
    have q := (C1.2.2.2.1 _ _ (HUL_l h s).1).1
    have r := (h.1 x y s).2
    obtain ⟨c, _, _, e1, e2⟩ := C1.2.1 0 (by omega) (by omega)
    unfold lxn at q
    omega
  have Lm : ∀ x y : Int, S x y → x ≤ X m := fun x y s => by
    have q := (C1.2.2.2.1 _ _ (HUL_l h s).1).2
    rw [show m + 1 - 1 = m by omega] at q
    unfold lxn at q
    omega
  have Xb : X b = X m := by
    rcases hb with q | q
    · rw [q.1]
    · exact q.2.1
  have Hb : ∀ x y : Int, S x y → x = X m → y ≤ Y b := fun x y s e => by
    have q := (C2.2.2.2.1 _ _ (ngS_n.mpr (HUL_l h s).2)).1
    have r := (h.1 x y s).2
    unfold lxn ng at q
    omega
  have He : ∀ x y : Int, S x y → X (k - 1) < x ∨ (x = X (k - 1) ∧ y ≤ Y (k - 1)) := fun x y s => by
    have q := (C2.2.2.2.1 _ _ (ngS_n.mpr (HUL_l h s).2)).2
    have r := (h.1 x y s).2
    obtain ⟨c, _, _, _, e1, e2⟩ := ngS_n.mp (C2.2.1 (k - 1) (by omega) (by omega))
    unfold lxn ng at q
    by_cases z : x = X (k - 1)
    · rw [show (x + 80).toNat = c by omega] at r
      omega
    · omega
  have Se : S (X (k - 1)) (Y (k - 1)) := SH_S h (ngS_n.mp (C2.2.1 (k - 1) (by omega) (by omega)))
  have Sm : S (X m) (Y m) := SL_S h (C1.2.1 m (by omega) (by omega))
  have Lmy : ∀ x y : Int, S x y → x = X m → Y m ≤ y := fun x y s e => by
    have r := (h.1 x y s).2
    obtain ⟨c, _, _, e1, e2⟩ := C1.2.1 m (by omega) (by omega)
    rw [show (x + 80).toNat = c by omega] at r
    omega
  have X0e : X (k - 1) = X 0 := by
    have q1 := L0 _ _ Se
    have q2 := He _ _ s0
    omega
  have Y0e : Y 0 ≤ Y (k - 1) := by
    have q1 := L0 _ _ Se
    omega
  by_cases one : k = 1
  · -- one point
    have b0 : b = 0 := by omega
    have m0 : m = 0 := by omega
    subst m0
    have n1 : n = 1 := by omega
    subst n1
    refine HS_1 s0 (fun x y s => ?_)
    have q1 := L0 x y s
    have q2 := He x y s
    rw [one] at q2
    have q3 := Lm x y s
    rw [show 1 - 1 = 0 from rfl] at q2
    omega
  have hn2 : 2 ≤ n := by
    rcases hn with ⟨q, _⟩ | ⟨q, q2, q3, q4⟩
    · omega
    · apply Nat.le_of_not_lt
      intro w
      have k2 : k = 2 := by omega
      subst k2
      rw [show 2 - 1 = 1 from rfl] at q3 q4
      rcases hb with ⟨b1, b2⟩ | ⟨b1, b2, b3⟩
      · by_cases e : b = 0
        · have d := chx_lt C2 (a := 0) (c := 1) (by omega) (by omega) (by omega)
          unfold lxp ng at d
          omega
        · have d := chx_lt C1 (a := 0) (c := 1) (by omega) (by omega) (by omega)
          unfold lxp at d
          omega
      · have : m = 0 := by omega
        subst this
        rw [b1, show 0 + 1 = 1 from rfl] at b3
        omega
  refine Or.inr ⟨by omega, s0, fun x y s => by have q := L0 x y s; unfold lxn; omega, Or.inr ⟨by omega, fun a ha hh => ⟨?_, ?_⟩, fun a ha => ?_⟩⟩
  · by_cases e : a ≤ m
    · exact SL_S h (C1.2.1 a (by omega) (by omega))
    · exact SH_S h (ngS_n.mp (C2.2.1 a (by omega) (by omega)))
  · by_cases e : a ≤ m
    · have d := chx_lt C1 (a := 0) (c := a) (by omega) ha (by omega)
      unfold lxp at d; omega
    · by_cases w : a < k - 1
      · have d := chx_lt C2 (a := a) (c := k - 1) (by omega) w (by omega)
        unfold lxp ng at d; omega
      · have ea : a = k - 1 := by omega
        subst ea
        rcases hn with ⟨_, q⟩ | ⟨q, _⟩
        · omega
        · omega
  · have n1 : a + 1 < k → nxt X n a = X (a + 1) ∧ nxt Y n a = Y (a + 1) := fun w => by
      unfold nxt
      split
      · exact ⟨rfl, rfl⟩
      · rcases hn with ⟨q, _⟩ | ⟨q, _, q3, q4⟩
        · omega
        · rw [show a + 1 = k - 1 by omega]; exact ⟨q3, q4⟩
    by_cases w : a + 1 < k
    · rw [(n1 w).1, (n1 w).2]
      by_cases e : a < m
      · exact edS_l h C1 (by omega) (by omega)
      · by_cases e2 : b ≤ a
        · exact edS_h h C2 e2 w
        · rcases hb with ⟨b1, _⟩ | ⟨b1, b2, b3⟩
          · omega
          · have ea : a = m := by omega
            subst ea
            rw [← b1, b2]
            refine edS_u1 b3 (fun x y s => ?_)
            have q1 := Lm x y s
            by_cases z : x = X a
            · exact Or.inr ⟨z, Lmy x y s z, Hb x y s z⟩
            · omega
    · -- the upright edge at the left end
      have ea : a = k - 1 := by omega
      have en : n = k := by omega
      subst ea
      have n2 : nxt X n (k - 1) = X 0 ∧ nxt Y n (k - 1) = Y 0 := by
        unfold nxt
        rw [if_neg (by omega), if_neg (by omega)]
        exact ⟨rfl, rfl⟩
      rw [n2.1, n2.2]
      have hy : Y 0 < Y (k - 1) := by
        rcases hn with ⟨_, q⟩ | ⟨q, _⟩
        · omega
        · omega
      rw [← X0e]
      refine edS_u2 hy (fun x y s => ?_)
      have q1 := L0 x y s
      have q2 := He x y s
      omega
