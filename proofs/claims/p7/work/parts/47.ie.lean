
/-! the lower chain over the columns -/
def CLW (f g X Y : Nat → Int) (i n : Int) : Prop := (n = 0 ∧ ∀ c : Nat, (c : Int) < i → ¬ f c ≤ g c) ∨ (0 < n ∧ chx (SL f g i.toNat) X Y 0 n.toNat)
theorem CLW_0 {f g X Y : Nat → Int} : CLW f g X Y 0 0 := Or.inl ⟨rfl, fun c h => by omega⟩
theorem CLW_k {f g X Y : Nat → Int} {i n : Int} (h0 : 0 ≤ i) (h : CLW f g X Y i n) (he : ¬ f i.toNat ≤ g i.toNat) : CLW f g X Y (i + 1) n := by
  rcases h with ⟨h1, h2⟩ | ⟨h1, h2⟩
  · refine Or.inl ⟨h1, fun c hc => ?_⟩
    by_cases e : (c : Int) = i
    · rw [show c = i.toNat by omega]; exact he
    · exact h2 c (by omega)
  · refine Or.inr ⟨h1, chx_cong h2 (fun _ _ _ => ⟨rfl, rfl⟩) (fun x y => ?_)⟩
    constructor
    · rintro ⟨c, c1, c2, c3⟩
      by_cases e : (c : Int) = i
      · rw [show c = i.toNat by omega] at c2; exact absurd c2 he
      · exact ⟨c, by omega, c2, c3⟩
    · rintro ⟨c, c1, c2, c3⟩
      exact ⟨c, by omega, c2, c3⟩
theorem SL_s {f g : Nat → Int} {i : Int} (h0 : 0 ≤ i) (he : f i.toNat ≤ g i.toNat) (x y : Int) : SL f g (i + 1).toNat x y ↔ SL f g i.toNat x y ∨ (x = i - 80 ∧ y = f i.toNat) := by
  constructor
  · rintro ⟨c, c1, c2, c3, c4⟩
    by_cases e : (c : Int) = i
    · rw [show c = i.toNat by omega] at c4; exact Or.inr ⟨by omega, c4⟩
    · exact Or.inl ⟨c, by omega, c2, c3, c4⟩
  · rintro (⟨c, c1, c2, c3⟩ | ⟨c3, c4⟩)
    · exact ⟨c, by omega, c2, c3⟩
    · exact ⟨i.toNat, by omega, he, by omega, c4⟩
/-- what push does -/
def PU (X Y X' Y' : Nat → Int) (k t a b n : Int) : Prop := ((0 < k ∧ X (k - 1).toNat = a ∧ Y (k - 1).toNat = b) ∧ n = k ∧ X' = X ∧ Y' = Y) ∨ (¬ (0 < k ∧ X (k - 1).toNat = a ∧ Y (k - 1).toNat = b) ∧ ∃ v : Int, (0 ≤ v ∧ v ≤ k ∧ (1 ≤ k - t → 1 ≤ v - t)) ∧ n = v + 1 ∧ X' = upI X v.toNat a ∧ Y' = upI Y v.toNat b ∧ (∀ j : Nat, v ≤ j → (j : Int) < k → cx (X j - X (j - 1)) (Y j - Y (j - 1)) (a - X (j - 1)) (b - Y (j - 1)) ≤ 0) ∧ (v - t ≤ 1 ∨ 0 < cx (X (v.toNat - 1) - X (v.toNat - 2)) (Y (v.toNat - 1) - Y (v.toNat - 2)) (a - X (v.toNat - 2)) (b - Y (v.toNat - 2))))
theorem PU_n {X Y X' Y' : Nat → Int} {k t a b n : Int} (h : PU X Y X' Y' k t a b n) : n ≤ k + 1 := by
  rcases h with ⟨_, h, _⟩ | ⟨_, v, h1, h2, _⟩ <;> omega
theorem CLW_s {f g X Y X' Y' : Nat → Int} {i n n' : Int} (h0 : 0 ≤ i) (hn : 0 ≤ n) (h : CLW f g X Y i n) (he : f i.toNat ≤ g i.toNat) (hp : PU X Y X' Y' n 0 (i - 80) (f i.toNat) n') : CLW f g X' Y' (i + 1) n' := by
  rcases hp with ⟨⟨k1, k2, k3⟩, _⟩ | ⟨_, v, ⟨v0, v1, v2⟩, e1, e2, e3, hpo, hk⟩
  · exfalso
    rcases h with ⟨h1, h2⟩ | ⟨h1, h2⟩
    · omega
    · obtain ⟨c, c1, c2, c3, c4⟩ := h2.2.1 (n.toNat - 1) (by omega) (by omega)
      rw [show n.toNat - 1 = (n - 1).toNat by omega] at c3
      omega
  · subst e1; subst e2; subst e3
    refine Or.inr ⟨by omega, ?_⟩
    rcases h with ⟨h1, h2⟩ | ⟨h1, h2⟩
    · have hv : v = 0 := by omega
      subst hv
      refine chx_1 (b := 0) (fun x y => ?_)
      rw [SL_s h0 he, show (0 : Int).toNat = 0 from rfl, upI_s, upI_s]
      constructor
      · rintro (⟨c, c1, c2, _⟩ | q)
        · exact absurd c2 (h2 c (by omega))
        · exact q
      · exact Or.inr
    · rw [show (v + 1).toNat = v.toNat + 1 by omega]
      refine chx_s h2 (v := v.toNat) (wx := i - 80) (wy := f i.toNat) ?_ (by omega) (by omega) (fun j q1 q2 => hpo j (by omega) (by omega)) ?_ (fun a ha => ⟨upI_n (by omega), upI_n (by omega)⟩) upI_s upI_s (SL_s h0 he)
      · obtain ⟨c, c1, c2, c3, c4⟩ := h2.2.1 (n.toNat - 1) (by omega) (by omega)
        unfold lxp; omega
      · rcases hk with q | q
        · exact Or.inl (by omega)
        · exact Or.inr q
/-- the upper chain on its way: the columns behind j are done -/
def UP (f g FX FY : Nat → Int) (m : Nat) (j : Int) (X Y : Nat → Int) (k : Nat) : Prop := (∀ a : Nat, a ≤ m → X a = FX a ∧ Y a = FY a) ∧ ((k = m + 1 ∧ ∀ c : Nat, j < c → c < 161 → ¬ f c ≤ g c) ∨ ∃ b : Nat, ((b = m ∧ Y b = Y m) ∨ (b = m + 1 ∧ X b = X m ∧ Y m < Y b)) ∧ chx (ngS (SH f g (j + 1).toNat)) (ng X) (ng Y) b k)
theorem UP_0 {f g FX FY : Nat → Int} {m : Nat} : UP f g FX FY m 160 FX FY (m + 1) := ⟨fun _ _ => ⟨rfl, rfl⟩, Or.inl ⟨rfl, fun c h1 h2 => by omega⟩⟩
theorem UP_k {f g FX FY X Y : Nat → Int} {m k : Nat} {j : Int} (h0 : 0 ≤ j) (h : UP f g FX FY m j X Y k) (he : ¬ f j.toNat ≤ g j.toNat) : UP f g FX FY m (j + -1) X Y k := by
  obtain ⟨h1, h2⟩ := h
  refine ⟨h1, ?_⟩
  rcases h2 with ⟨h2, h3⟩ | ⟨b, hb, C⟩
  · refine Or.inl ⟨h2, fun c c1 c2 => ?_⟩
    by_cases e : (c : Int) = j
    · rw [show c = j.toNat by omega]; exact he
    · exact h3 c (by omega) c2
  · refine Or.inr ⟨b, hb, chx_cong C (fun _ _ _ => ⟨rfl, rfl⟩) (fun x y => ?_)⟩
    unfold ngS
    constructor
    · rintro ⟨c, c1, c2, c3, c4⟩
      by_cases e : (c : Int) = j
      · rw [show c = j.toNat by omega] at c3; exact absurd c3 he
      · exact ⟨c, by omega, c2, c3, c4⟩
    · rintro ⟨c, c1, c2, c3, c4⟩
      exact ⟨c, by omega, c2, c3, c4⟩
theorem SH_s {f g : Nat → Int} {j : Int} (h0 : 0 ≤ j) (h1 : j ≤ 160) (he : f j.toNat ≤ g j.toNat) (x y : Int) : ngS (SH f g (j + -1 + 1).toNat) x y ↔ ngS (SH f g (j + 1).toNat) x y ∨ (x = -(j - 80) ∧ y = -(g j.toNat)) := by
  unfold ngS
  constructor
  · rintro ⟨c, c1, c2, c3, c4, c5⟩
    by_cases e : (c : Int) = j
    · rw [show c = j.toNat by omega] at c5; exact Or.inr ⟨by omega, by omega⟩
    · exact Or.inl ⟨c, by omega, c2, c3, c4, c5⟩
  · rintro (⟨c, c1, c2, c3⟩ | ⟨c3, c4⟩)
    · exact ⟨c, by omega, c2, c3⟩
    · exact ⟨j.toNat, by omega, by omega, he, by omega, by omega⟩
theorem UP_s {f g FX FY X Y X' Y' : Nat → Int} {m k : Nat} {j n n' : Int} (C1 : chx (SL f g 161) FX FY 0 (m + 1)) (h0 : 0 ≤ j) (hj : j ≤ 160) (h : UP f g FX FY m j X Y k) (hn : n = k) (he : f j.toNat ≤ g j.toNat) (hp : PU X Y X' Y' n m (j - 80) (g j.toNat) n') : UP f g FX FY m (j + -1) X' Y' n'.toNat := by
  obtain ⟨u1, u2⟩ := h
  have um := u1 m (by omega)
  rcases u2 with ⟨u2, u3⟩ | ⟨b, hb, C⟩
  · -- the first column from the right
    have hX : X m = j - 80 ∧ Y m = f j.toNat := by
      obtain ⟨c, c1, c2, c3, c4⟩ := C1.2.1 m (by omega) (by omega)
      have q := (C1.2.2.2.1 (j - 80) (f j.toNat) ⟨j.toNat, by omega, he, by omega, rfl⟩).2
      rw [show m + 1 - 1 = m by omega] at q
      have hc : ¬ j < c := fun w => u3 c w c1 c2
      have hcj : c = j.toNat := by unfold lxn at q; omega
      rw [um.1, um.2, c3, c4, hcj]
      exact ⟨by omega, rfl⟩
    have hS : ∀ x y : Int, ngS (SH f g (j + -1 + 1).toNat) x y ↔ x = -(j - 80) ∧ y = -(g j.toNat) := fun x y => by
      rw [SH_s h0 hj he]
      unfold ngS
      constructor
      · rintro (⟨c, c1, c2, c3, _⟩ | q)
        · exact absurd c3 (u3 c (by omega) c2)
        · exact q
      · exact Or.inr
    rcases hp with ⟨⟨k1, k2, k3⟩, e1, e2, e3⟩ | ⟨kn, v, ⟨v0, v1, v2⟩, e1, e2, e3, hpo, hk⟩
    · rw [show (n - 1).toNat = m by omega] at k2 k3
      subst e2; subst e3
      refine ⟨u1, Or.inr ⟨m, Or.inl ⟨rfl, rfl⟩, ?_⟩⟩
      rw [show n'.toNat = m + 1 by omega]
      exact chx_1 (fun x y => by rw [hS]; unfold ng; rw [k2, k3])
    · have hv : v = (m : Int) + 1 := by omega
      subst e1; subst e2; subst e3
      rw [show v.toNat = m + 1 by omega]
      refine ⟨fun a ha => by rw [upI_n (by omega), upI_n (by omega)]; exact u1 a ha, Or.inr ⟨m + 1, Or.inr ⟨rfl, by rw [upI_s, upI_n (by omega), hX.1], ?_⟩, ?_⟩⟩
      · rw [upI_s, upI_n (by omega), hX.2]
        by_cases w : f j.toNat = g j.toNat
        · exfalso
          apply kn
          rw [show (n - 1).toNat = m by omega]
          exact ⟨by omega, hX.1, by rw [hX.2]; exact w⟩
        · omega
      · rw [show (v + 1).toNat = m + 1 + 1 by omega]
        exact chx_1 (fun x y => by rw [hS]; unfold ng; rw [upI_s, upI_s])
  · -- a further one
    have hbk := C.1
    have hlast : ∃ c : Nat, j < c ∧ X (k - 1) = (c : Int) - 80 := by
      obtain ⟨c, c1, c2, c3, c4, c5⟩ := ngS_n.mp (C.2.1 (k - 1) (by omega) (by omega))
      exact ⟨c, by omega, c4⟩
    have hXm : j - 80 < X m := by
      have q : X b = X m := by
        rcases hb with w | w
        · rw [w.1]
        · exact w.2.1
      obtain ⟨c, c1, c2, c3, c4, c5⟩ := ngS_n.mp (C.2.1 b (by omega) (by omega))
      omega
    obtain ⟨c, hc1, hc2⟩ := hlast
    have hmk : m + 1 ≤ k := by rcases hb with w | w <;> omega
    rcases hp with ⟨⟨k1, k2, k3⟩, _⟩ | ⟨kn, v, ⟨v0, v1, v2⟩, e1, e2, e3, hpo, hk⟩
    · exfalso
      rw [show (n - 1).toNat = k - 1 by omega] at k2
      omega
    · have vm := v2 (by omega)
      have hbv : b < v.toNat := by
        rcases hb with ⟨w1, _⟩ | ⟨w1, w2, w3⟩
        · omega
        · apply Nat.lt_of_not_le
          intro w
          have q := hpo (m + 1) (by omega) (by omega)
          rw [show m + 1 - 1 = m by omega, ← w1, w2] at q
          have z := Int.mul_pos (show 0 < Y b - Y m by omega) (show 0 < X m - (j - 80) by omega)
          have z2 : cx (X m - X m) (Y b - Y m) (j - 80 - X m) (g j.toNat - Y m) = (Y b - Y m) * (X m - (j - 80)) := by unfold cx; grind
          omega
      subst e1; subst e2; subst e3
      refine ⟨fun a ha => by rw [upI_n (by omega), upI_n (by omega)]; exact u1 a ha, Or.inr ⟨b, ?_, ?_⟩⟩
      · rcases hb with ⟨w1, w2⟩ | ⟨w1, w2, w3⟩
        · exact Or.inl ⟨w1, by rw [w1]⟩
        · exact Or.inr ⟨w1, by rw [upI_n (by omega), upI_n (by omega)]; exact w2, by rw [upI_n (by omega), upI_n (by omega)]; exact w3⟩
      · rw [show (v + 1).toNat = v.toNat + 1 by omega]
        refine chx_s C (v := v.toNat) (wx := -(j - 80)) (wy := -(g j.toNat)) ?_ hbv (by omega) (fun i q1 q2 => ?_) ?_ (fun a ha => ⟨?_, ?_⟩) ?_ ?_ (SH_s h0 hj he)
        · unfold lxp ng
          omega
        · unfold ng; rw [cx_ng]; exact hpo i (by omega) (by omega)
        · rcases hk with q | q
          · exact Or.inl (by rcases hb with w | w <;> omega)
          · exact Or.inr (by unfold ng; rw [cx_ng]; exact q)
        · unfold ng; rw [upI_n (by omega)]
        · unfold ng; rw [upI_n (by omega)]
        · unfold ng; rw [upI_s]
        · unfold ng; rw [upI_s]
/-- what both chains together are -/
theorem UP_e {f g FX FY X Y : Nat → Int} {n1 n2 n j : Int} (hc : CLW f g FX FY 161 n1) (hu : 0 < n1 → UP f g FX FY (n1 - 1).toNat j X Y n2.toNat) (hj : j = -1) (h2 : 0 ≤ n2) (h1 : n1 = 0 → n2 = 0) (hn : (n = n2 ∧ (n2 ≤ 1 ∨ X 0 ≠ X (n2 - 1).toNat ∨ Y 0 ≠ Y (n2 - 1).toNat)) ∨ (n = n2 - 1 ∧ 1 < n2 ∧ X 0 = X (n2 - 1).toNat ∧ Y 0 = Y (n2 - 1).toNat)) (S : Int → Int → Prop) (h : HUL S f g) : HS S n X Y := by
  subst hj
  rcases hc with ⟨c1, c2⟩ | ⟨c1, C1⟩
  · have z := h1 c1
    refine Or.inl ⟨by omega, fun x y s => ?_⟩
    obtain ⟨⟨c, q1, q2, _⟩, _⟩ := HUL_l h s
    exact c2 c (by omega) q2
  · have C1 : chx (SL f g 161) FX FY 0 ((n1 - 1).toNat + 1) := by
      rw [show (n1 - 1).toNat + 1 = n1.toNat by omega]; exact C1
    obtain ⟨u1, u2⟩ := hu c1
    rcases u2 with ⟨u2, u3⟩ | ⟨b, hb, C⟩
    · exfalso
      obtain ⟨c, q1, q2, _⟩ := C1.2.1 0 (by omega) (by omega)
      exact u3 c (by omega) q1 q2
    · rw [show ((-1 : Int) + 1).toNat = 0 from rfl] at C
      have D1 : chx (SL f g 161) X Y 0 ((n1 - 1).toNat + 1) := chx_cong C1 (fun a _ ha => u1 a (by omega)) (fun _ _ => Iff.rfl)
      have hbk := C.1
      have q := HS_k (n := n.toNat) h D1 C hb (by
        rw [show n2.toNat - 1 = (n2 - 1).toNat by omega]
        rcases hn with ⟨w1, w2⟩ | ⟨w1, w2, w3⟩
        · refine Or.inl ⟨by omega, ?_⟩
          rcases w2 with w2 | w2
          · exact Or.inl (by omega)
          · exact Or.inr w2
        · exact Or.inr ⟨by omega, by omega, w3⟩)
      rw [show ((n.toNat : Nat) : Int) = n by omega] at q
      exact q
/-! taking points -/
theorem HUL_0 {f g : Nat → Int} : HUL (fun _ _ => False) (jf f 81 161) (jf g (-81) 161) := ⟨fun _ _ h => h.elim, fun c hc h => by unfold jf at h; rw [if_pos hc, if_pos hc] at h; omega, fun c hc => by unfold jf; rw [if_pos hc, if_pos hc]; omega⟩
theorem HUL_t {S : Int → Int → Prop} {f g : Nat → Int} {a b : Int} (h : HUL S f g) (ha : -80 ≤ a ∧ a ≤ 80) (hbb : -80 ≤ b ∧ b ≤ 80) : HUL (fun x y => S x y ∨ (x = a ∧ y = b)) (upI f (a + 80).toNat (min (f (a + 80).toNat) b)) (upI g (a + 80).toNat (max (g (a + 80).toNat) b)) := by
  refine ⟨fun x y s => ?_, fun c hc hl => ?_, fun c hc => ?_⟩
  · rcases s with s | ⟨s1, s2⟩
    · have q := h.1 x y s
      refine ⟨q.1, ?_⟩
      by_cases e : (x + 80).toNat = (a + 80).toNat
      · rw [e, upI_s, upI_s]; rw [e] at q; omega
      · rw [upI_n e, upI_n e]; exact q.2
    · subst s1; subst s2
      rw [upI_s, upI_s]
      omega
  · by_cases e : c = (a + 80).toNat
    · subst e
      rw [upI_s, upI_s] at hl ⊢
      rw [show (((a + 80).toNat : Nat) : Int) - 80 = a by omega]
      by_cases w : f (a + 80).toNat ≤ g (a + 80).toNat
      · have q := h.2.1 _ hc w
        rw [show (((a + 80).toNat : Nat) : Int) - 80 = a by omega] at q
        constructor
        · by_cases z : f (a + 80).toNat ≤ b
          · rw [Int.min_eq_left z]; exact Or.inl q.1
          · rw [Int.min_eq_right (by omega)]; exact Or.inr ⟨rfl, rfl⟩
        · by_cases z : g (a + 80).toNat ≤ b
          · rw [Int.max_eq_right z]; exact Or.inr ⟨rfl, rfl⟩
          · rw [Int.max_eq_left (by omega)]; exact Or.inl q.2
      · have w2 : 81 ≤ f (a + 80).toNat ∧ g (a + 80).toNat ≤ -81 := by
          rcases h.2.2 _ hc with q | q
          · exact absurd q w
          · exact q
        rw [Int.min_eq_right (by omega), Int.max_eq_right (by omega)]
        exact ⟨Or.inr ⟨rfl, rfl⟩, Or.inr ⟨rfl, rfl⟩⟩
    · rw [upI_n e, upI_n e] at hl ⊢
      have q := h.2.1 c hc hl
      exact ⟨Or.inl q.1, Or.inl q.2⟩
  · by_cases e : c = (a + 80).toNat
    · subst e
      rw [upI_s, upI_s]
      have q := h.2.2 _ hc
      by_cases z : f (a + 80).toNat ≤ b
      · rw [Int.min_eq_left z]; by_cases y : g (a + 80).toNat ≤ b
        · rw [Int.max_eq_right y]; omega
        · rw [Int.max_eq_left (by omega)]; omega
      · rw [Int.min_eq_right (by omega)]; by_cases y : g (a + 80).toNat ≤ b
        · rw [Int.max_eq_right y]; omega
        · rw [Int.max_eq_left (by omega)]; omega
    · rw [upI_n e, upI_n e]; exact h.2.2 c hc
theorem HUL_c {S S' : Int → Int → Prop} {f g : Nat → Int} (h : HUL S f g) (e : ∀ x y : Int, S' x y ↔ S x y) : HUL S' f g := ⟨fun x y s => h.1 x y ((e x y).mp s), fun c hc hl => ⟨(e _ _).mpr (h.2.1 c hc hl).1, (e _ _).mpr (h.2.1 c hc hl).2⟩, h.2.2⟩
/-- the corners of a row before the place i -/
def RPi (u : CS) (r : Nat) (i : Int) : Int → Int → Prop := fun x y => ∃ a : Nat, (a : Int) < i ∧ x = u.1.1 r a ∧ y = u.1.2.1 r a
def RP (u : CS) (r : Nat) : Int → Int → Prop := RPi u r (u.1.2.2.1 r)
theorem rp_s {S : Prop} {u : CS} {r : Nat} {i x0 y0 : Int} (h : 0 ≤ i) (ex : x0 = u.1.1 r i.toNat) (ey : y0 = u.1.2.1 r i.toNat) (x y : Int) : S ∨ RPi u r (i + 1) x y ↔ (S ∨ RPi u r i x y) ∨ (x = x0 ∧ y = y0) := by
  constructor
  · rintro (q | ⟨a, q1, q2, q3⟩)
    · exact Or.inl (Or.inl q)
    · by_cases e : (a : Int) = i
      · rw [show a = i.toNat by omega] at q2 q3; exact Or.inr ⟨q2.trans ex.symm, q3.trans ey.symm⟩
      · exact Or.inl (Or.inr ⟨a, by omega, q2, q3⟩)
  · rintro ((q | ⟨a, q1, q2⟩) | ⟨q1, q2⟩)
    · exact Or.inl q
    · exact Or.inr ⟨a, by omega, q2⟩
    · exact Or.inr ⟨i.toNat, by omega, q1.trans ex, q2.trans ey⟩
theorem rs_s {S : Prop} {u : CS} {r2 : Nat} {j A C x0 y0 : Int} (h : 0 ≤ j) (ex : x0 = A + u.1.1 r2 j.toNat) (ey : y0 = C + u.1.2.1 r2 j.toNat) (x y : Int) : (S ∨ ∃ b : Nat, (b : Int) < j + 1 ∧ x = A + u.1.1 r2 b ∧ y = C + u.1.2.1 r2 b) ↔ (S ∨ ∃ b : Nat, (b : Int) < j ∧ x = A + u.1.1 r2 b ∧ y = C + u.1.2.1 r2 b) ∨ (x = x0 ∧ y = y0) := by
  constructor
  · rintro (q | ⟨a, q1, q2, q3⟩)
    · exact Or.inl (Or.inl q)
    · by_cases e : (a : Int) = j
      · rw [show a = j.toNat by omega] at q2 q3; exact Or.inr ⟨q2.trans ex.symm, q3.trans ey.symm⟩
      · exact Or.inl (Or.inr ⟨a, by omega, q2, q3⟩)
  · rintro ((q | ⟨a, q1, q2⟩) | ⟨q1, q2⟩)
    · exact Or.inl q
    · exact Or.inr ⟨a, by omega, q2⟩
    · exact Or.inr ⟨j.toNat, by omega, q1.trans ex, q2.trans ey⟩
theorem RSi_s {u : CS} {r r2 : Nat} {i : Int} (h0 : 0 ≤ i) (x y : Int) : SM (RPi u r (i + 1)) (RP u r2) x y ↔ SM (RPi u r i) (RP u r2) x y ∨ ∃ b : Nat, (b : Int) < u.1.2.2.1 r2 ∧ x = u.1.1 r i.toNat + u.1.1 r2 b ∧ y = u.1.2.1 r i.toNat + u.1.2.1 r2 b := by
  constructor
  · rintro ⟨a, b, c, d, ⟨k, k1, k2, k3⟩, ⟨m, m1, m2, m3⟩, q1, q2⟩
    by_cases e : (k : Int) = i
    · rw [show k = i.toNat by omega] at k2 k3
      exact Or.inr ⟨m, m1, by omega, by omega⟩
    · exact Or.inl ⟨a, b, c, d, ⟨k, by omega, k2, k3⟩, ⟨m, m1, m2, m3⟩, q1, q2⟩
  · rintro (⟨a, b, c, d, ⟨k, k1, k2, k3⟩, q⟩ | ⟨b, q1, q2, q3⟩)
    · exact ⟨a, b, c, d, ⟨k, by omega, k2, k3⟩, q⟩
    · exact ⟨_, _, _, _, ⟨i.toNat, by omega, rfl, rfl⟩, ⟨b, q1, rfl, rfl⟩, q2, q3⟩
