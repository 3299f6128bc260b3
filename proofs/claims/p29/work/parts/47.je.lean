
/-! ===== pieces ===== -/
/-- how far the point p is above the plane of i, j, k, times their area (heights h) -/
def ab9 (X Y h : Nat → Int) (i j k p : Nat) : Int := tn X Y i j k * (h p - h i) - tn X Y i p k * (h j - h i) - tn X Y i j p * (h k - h i)
theorem tn_ii {X Y : Nat → Int} {i k : Nat} : tn X Y i i k = 0 := by unfold tn; grind
theorem tn_ij {X Y : Nat → Int} {i j : Nat} : tn X Y i j i = 0 := by unfold tn; grind
theorem tn_jj {X Y : Nat → Int} {i j : Nat} : tn X Y i j j = 0 := by unfold tn; grind
theorem tn_sw {X Y : Nat → Int} {i j k : Nat} : tn X Y i k j = - tn X Y i j k := by unfold tn; grind
theorem ab_i {X Y h : Nat → Int} {i j k : Nat} : ab9 X Y h i j k i = 0 := by unfold ab9; rw [tn_ii, tn_ij]; grind
theorem ab_j {X Y h : Nat → Int} {i j k : Nat} : ab9 X Y h i j k j = 0 := by unfold ab9; rw [tn_jj]; grind
theorem ab_k {X Y h : Nat → Int} {i j k : Nat} : ab9 X Y h i j k k = 0 := by unfold ab9; rw [tn_jj (i := i) (j := k)]; grind
theorem ab_sw {X Y h : Nat → Int} {i j k p : Nat} : ab9 X Y h i j p k = - ab9 X Y h i j k p := by
  unfold ab9
  rw [tn_sw (i := i) (j := k) (k := p)]
  grind
/-- a plane: a D at each height, then an affine part -/
def pl9 (X Y h : Nat → Int) (D A B C : Int) (p : Nat) : Int := D * h p + (A * X p + B * Y p + C)
theorem ab_pl {X Y h : Nat → Int} {i j k : Nat} : ∃ A B C : Int, ∀ p : Nat, ab9 X Y h i j k p = pl9 X Y h (tn X Y i j k) A B C p := by
  refine ⟨(Y k - Y i) * (h j - h i) * (-1) + (Y j - Y i) * (h k - h i), (X k - X i) * (h j - h i) - (X j - X i) * (h k - h i), -(tn X Y i j k * h i) + ((Y k - Y i) * (h j - h i) - (Y j - Y i) * (h k - h i)) * X i - ((X k - X i) * (h j - h i) - (X j - X i) * (h k - h i)) * Y i, fun p => ?_⟩
  unfold ab9 pl9 tn
  grind
/-- through three points of a plane that span: the same plane -/
theorem pl_ab {X Y h : Nat → Int} {D A B C : Int} {a b c p : Nat} : tn X Y a b c * pl9 X Y h D A B C p = (tn X Y p b c * pl9 X Y h D A B C a + tn X Y a p c * pl9 X Y h D A B C b + tn X Y a b p * pl9 X Y h D A B C c) + D * ab9 X Y h a b c p := by
  unfold pl9 ab9 tn
  grind
theorem ab_ab {X Y h : Nat → Int} {i j k a b c : Nat} (h1 : ab9 X Y h i j k a = 0) (h2 : ab9 X Y h i j k b = 0) (h3 : ab9 X Y h i j k c = 0) (p : Nat) : tn X Y a b c * ab9 X Y h i j k p = tn X Y i j k * ab9 X Y h a b c p := by
  obtain ⟨A, B, C, e⟩ := ab_pl (X := X) (Y := Y) (h := h) (i := i) (j := j) (k := k)
  rw [e] at h1 h2 h3 ⊢
  rw [pl_ab, h1, h2, h3, Int.mul_zero, Int.mul_zero, Int.mul_zero]
  omega
/-- signs: two planes through three common points that span, told with areas above 0 -/
theorem ab_sg {X Y h : Nat → Int} {i j k a b c : Nat} (h1 : ab9 X Y h i j k a = 0) (h2 : ab9 X Y h i j k b = 0) (h3 : ab9 X Y h i j k c = 0) (hD : 0 < tn X Y i j k) (hE : 0 < tn X Y a b c) (p : Nat) : (0 ≤ ab9 X Y h i j k p ↔ 0 ≤ ab9 X Y h a b c p) ∧ (ab9 X Y h i j k p = 0 ↔ ab9 X Y h a b c p = 0) := by
  have e := ab_ab h1 h2 h3 p
  generalize ab9 X Y h i j k p = u at e ⊢
  generalize ab9 X Y h a b c p = w at e ⊢
  generalize tn X Y i j k = D at e hD
  generalize tn X Y a b c = E at e hE
  have k1 : 0 ≤ u → 0 ≤ w := fun q => by
    have m := Int.mul_nonneg (show 0 ≤ E by omega) q
    exact le_m hD (by rw [Int.sub_zero, Int.mul_comm]; omega)
  have k2 : 0 ≤ w → 0 ≤ u := fun q => by
    have m := Int.mul_nonneg (show 0 ≤ D by omega) q
    exact le_m hE (by rw [Int.sub_zero, Int.mul_comm]; omega)
  refine ⟨⟨k1, k2⟩, fun q => ?_, fun q => ?_⟩
  · rw [q, Int.mul_zero] at e
    by_cases z : w = 0
    · exact z
    · have := Int.mul_ne_zero (show D ≠ 0 by omega) z; omega
  · rw [q, Int.mul_zero] at e
    by_cases z : u = 0
    · exact z
    · have := Int.mul_ne_zero (show E ≠ 0 by omega) z; omega
/-- a piece: the points in a plane that none lies below, three of them spanning -/
def gs9 (X Y h : Nat → Int) (n : Nat) (f : Nat → Bool) : Prop := ∃ i j k : Nat, i < n ∧ j < n ∧ k < n ∧ 0 < tn X Y i j k ∧ (∀ p : Nat, p < n → 0 ≤ ab9 X Y h i j k p) ∧ ∀ p : Nat, p < n → f p = decide (ab9 X Y h i j k p = 0)
theorem gs9_c {X Y h : Nat → Int} {n : Nat} {f g : Nat → Bool} (H : gs9 X Y h n f) (e : ∀ p : Nat, p < n → f p = g p) : gs9 X Y h n g := by
  obtain ⟨i, j, k, a1, a2, a3, a4, a5, a6⟩ := H
  exact ⟨i, j, k, a1, a2, a3, a4, a5, fun p hp => (e p hp).symm.trans (a6 p hp)⟩
/-- the lowest point left of an edge -/
def LL9 (X Y h : Nat → Int) (n i j k : Nat) : Prop := k < n ∧ 0 < tn X Y i j k ∧ ∀ p : Nat, p < n → 0 < tn X Y i j p → 0 ≤ ab9 X Y h i j k p
theorem os_lx {X Y : Nat → Int} {n : Nat} (hs : os_s X Y n) {a b : Nat} (hab : a < b) (hb : b < n) : lxp (X b - X a) (Y b - Y a) := by
  have q := os_l2 hs hab (by omega)
  unfold lt2 at q
  unfold lxp; omega
/-- of a set's points behind its first one, one that has all others to the left or in line -/
theorem ed_1 {X Y : Nat → Int} {n a : Nat} (hs : os_s X Y n) (S : Nat → Prop) : ∀ m : Nat, m ≤ n → (∀ p : Nat, a < p → p < m → ¬ S p) ∨ ∃ j : Nat, a < j ∧ j < m ∧ S j ∧ ∀ p : Nat, a < p → p < m → S p → 0 ≤ tn X Y a j p := by
  intro m
  induction m with
  | zero => intro _; exact Or.inl (fun p h1 h2 => by omega)
  | succ m ih =>
    intro hm
    by_cases e : a < m ∧ S m
    · rcases ih (by omega) with h | ⟨j, j1, j2, j3, j4⟩
      · refine Or.inr ⟨m, e.1, by omega, e.2, fun p h1 h2 h3 => ?_⟩
        by_cases w : p = m
        · rw [w, tn_jj]; omega
        · exact absurd h3 (h p h1 (by omega))
      · by_cases g : 0 ≤ tn X Y a j m
        · refine Or.inr ⟨j, j1, by omega, j3, fun p h1 h2 h3 => ?_⟩
          by_cases w : p = m
          · rw [w]; exact g
          · exact j4 p h1 (by omega) h3
        · refine Or.inr ⟨m, e.1, by omega, e.2, fun p h1 h2 h3 => ?_⟩
          by_cases w : p = m
          · rw [w, tn_jj]; omega
          · have q := j4 p h1 (by omega) h3
            have l1 := os_lx hs e.1 (by omega)
            have l2 := os_lx hs j1 (by omega)
            have l3 := os_lx hs h1 (by omega)
            have s1 : 0 ≤ cx (X m - X a) (Y m - Y a) (X j - X a) (Y j - Y a) := by
              have := @tn_sw X Y a j m
              have e9 : cx (X m - X a) (Y m - Y a) (X j - X a) (Y j - Y a) = tn X Y a m j := rfl
              omega
            have s2 : 0 ≤ cx (X j - X a) (Y j - Y a) (X p - X a) (Y p - Y a) := q
            exact lpT l1 l2 (lp_ln l3) s1 s2
    · rcases ih (by omega) with h | ⟨j, j1, j2, j3, j4⟩
      · refine Or.inl (fun p h1 h2 h3 => ?_)
        by_cases w : p = m
        · rw [w] at h1 h3; exact e ⟨h1, h3⟩
        · exact h p h1 (by omega) h3
      · refine Or.inr ⟨j, j1, by omega, j3, fun p h1 h2 h3 => ?_⟩
        by_cases w : p = m
        · rw [w] at h1 h3; exact absurd ⟨h1, h3⟩ e
        · exact j4 p h1 (by omega) h3
theorem tn_ln {X Y : Nat → Int} {a b i j k : Nat} (hd : X b - X a ≠ 0 ∨ Y b - Y a ≠ 0) (h1 : tn X Y a b i = 0) (h2 : tn X Y a b j = 0) (h3 : tn X Y a b k = 0) : tn X Y i j k = 0 := by
  have e1 : (X b - X a) * tn X Y i j k = (X j - X i) * (tn X Y a b k - tn X Y a b i) - (X k - X i) * (tn X Y a b j - tn X Y a b i) := by unfold tn; grind
  have e2 : (Y b - Y a) * tn X Y i j k = (Y j - Y i) * (tn X Y a b k - tn X Y a b i) - (Y k - Y i) * (tn X Y a b j - tn X Y a b i) := by unfold tn; grind
  rw [h1, h2, h3, Int.sub_self, Int.mul_zero, Int.mul_zero] at e1 e2
  by_cases z : tn X Y i j k = 0
  · exact z
  · rcases hd with w | w
    · have := Int.mul_ne_zero w z; omega
    · have := Int.mul_ne_zero w z; omega
/-- a piece is found by an edge from its first point on -/
theorem ed_2 {X Y h : Nat → Int} {n : Nat} {f : Nat → Bool} (hs : os_s X Y n) (H : gs9 X Y h n f) : ∃ a j : Nat, a < j ∧ j < n ∧ (∃ k : Nat, k < n ∧ 0 < tn X Y a j k) ∧ ∀ k : Nat, LL9 X Y h n a j k → (∀ p : Nat, p < n → 0 ≤ ab9 X Y h a j k p) ∧ ∀ p : Nat, p < n → f p = decide (ab9 X Y h a j k p = 0) := by
  obtain ⟨i, j, k, a1, a2, a3, a4, a5, a6⟩ := H
  have fi : f i = true := by rw [a6 i a1, ab_i]; rfl
  have fj : f j = true := by rw [a6 j a2, ab_j]; rfl
  have fk : f k = true := by rw [a6 k a3, ab_k]; rfl
  -- the first point
  rcases fst_n9 (P := fun p => f p = false) n with w | ⟨a, w1, w2, w3⟩
  · rw [w i a1] at fi; cases fi
  have fa : f a = true := by
    cases e : f a
    · exact absurd e w2
    · rfl
  have ge : ∀ p : Nat, f p = true → a ≤ p := fun p hp => by
    apply Nat.not_lt.mp
    intro q
    have := w3 p q
    rw [hp] at this; cases this
  have zr : ∀ p : Nat, p < n → f p = true → ab9 X Y h i j k p = 0 := fun p hp q => by
    rw [a6 p hp] at q
    exact of_decide_eq_true q
  -- the edge
  have dst : ∃ p : Nat, a < p ∧ p < n ∧ f p = true := by
    by_cases e : a = i
    · by_cases e2 : a = j
      · rw [← e, ← e2, tn_ii] at a4; omega
      · exact ⟨j, by have := ge j fj; omega, a2, fj⟩
    · exact ⟨i, by have := ge i fi; omega, a1, fi⟩
  rcases ed_1 hs (fun p => f p = true) n (Nat.le_refl n) (a := a) with w | ⟨b, b1, b2, b3, b4⟩
  · obtain ⟨p, p1, p2, p3⟩ := dst
    exact absurd p3 (w p p1 p2)
  have nd : X b - X a ≠ 0 ∨ Y b - Y a ≠ 0 := by
    have l := os_lx hs b1 b2
    unfold lxp at l; omega
  have nn : ∀ p : Nat, p < n → f p = true → 0 ≤ tn X Y a b p := fun p hp q => by
    by_cases e : p = a
    · rw [e, tn_ij]; omega
    · exact b4 p (by have := ge p q; omega) hp q
  have ex : ∃ c : Nat, c < n ∧ f c = true ∧ 0 < tn X Y a b c := by
    apply Classical.byContradiction
    intro w
    have z : ∀ p : Nat, p < n → f p = true → tn X Y a b p = 0 := fun p hp q => by
      have := nn p hp q
      apply Classical.byContradiction
      intro v
      exact w ⟨p, hp, q, by omega⟩
    have := tn_ln nd (z i a1 fi) (z j a2 fj) (z k a3 fk)
    omega
  obtain ⟨c, c1, c2, c3⟩ := ex
  refine ⟨a, b, b1, b2, ⟨c, c1, c3⟩, fun m hm => ?_⟩
  have P := ab_sg (zr a w1 fa) (zr b b2 b3) (zr c c1 c2) a4 c3
  have pos : ∀ p : Nat, p < n → 0 ≤ ab9 X Y h a b c p := fun p hp => (P p).1.mp (a5 p hp)
  have m0 : ab9 X Y h a b c m = 0 := by
    have q1 := pos m hm.1
    have q2 := hm.2.2 c c1 c3
    have q3 := @ab_sw X Y h a b m c
    omega
  have Q := ab_sg (X := X) (Y := Y) (h := h) (i := a) (j := b) (k := c) (a := a) (b := b) (c := m) ab_i ab_j m0 c3 hm.2.1
  refine ⟨fun p hp => (Q p).1.mp (pos p hp), fun p hp => ?_⟩
  rw [a6 p hp]
  exact decide_eq_decide.mpr ((P p).2.trans (Q p).2)
/-! lists of pieces in order: there is one -/
theorem ahd_c {n : Nat} {f g f' g' : Nat → Bool} (hf : ∀ p : Nat, p < n → f p = f' p) (hg : ∀ p : Nat, p < n → g p = g' p) (h : ahd n f g) : ahd n f' g' := by
  obtain ⟨p, p1, p2, p3, p4⟩ := h
  exact ⟨p, p1, (hf p p1).symm.trans p2, (hg p p1).symm.trans p3, fun r hr => ((hf r (by omega)).symm.trans (p4 r hr)).trans (hg r (by omega))⟩
theorem ahd_i {n : Nat} {f : Nat → Bool} (h : ahd n f f) : False := ahd_n h h
def SQ9 (n : Nat) (G : (Nat → Bool) → Prop) (m : Int) (F : Nat → Nat → Bool) : Prop := 0 ≤ m ∧ (∀ q : Nat, (q : Int) < m → G (F q)) ∧ (∀ a b : Nat, a < b → (b : Int) < m → ahd n (F a) (F b)) ∧ ∀ f : Nat → Bool, G f → ∃ q : Nat, (q : Int) < m ∧ ∀ p : Nat, p < n → F q p = f p
theorem SQ_e {n : Nat} {G : (Nat → Bool) → Prop} {m m' : Int} {F F' : Nat → Nat → Bool} (h : SQ9 n G m F) (h' : SQ9 n G m' F') : ∀ a : Nat, (a : Int) < m → (a : Int) < m' → ∀ p : Nat, p < n → F a p = F' a p := by
  intro a
  induction a using Nat.strongRecOn with
  | _ a ih =>
    intro h1 h2
    obtain ⟨c, c1, c2⟩ := h'.2.2.2 _ (h.2.1 a h1)
    obtain ⟨d, d1, d2⟩ := h.2.2.2 _ (h'.2.1 a h2)
    have hc : a ≤ c := by
      apply Nat.not_lt.mp
      intro w
      have e := ih c w (by omega) c1
      exact ahd_i (ahd_c (fun p hp => (e p hp).trans (c2 p hp)) (fun _ _ => rfl) (h.2.2.1 c a w h1))
    have hd : a ≤ d := by
      apply Nat.not_lt.mp
      intro w
      have e := ih d w d1 (by omega)
      exact ahd_i (ahd_c (fun p hp => ((e p hp).symm.trans (d2 p hp))) (fun _ _ => rfl) (h'.2.2.1 d a w h2))
    by_cases e : a = c
    · subst e; exact fun p hp => (c2 p hp).symm
    · by_cases e' : a = d
      · subst e'; exact d2
      · have q := ahd_c (fun _ _ => rfl) c2 (h'.2.2.1 a c (by omega) c1)
        have q' := ahd_c (fun _ _ => rfl) d2 (h.2.2.1 a d (by omega) d1)
        exact (ahd_n q q').elim
theorem SQ_n {n : Nat} {G : (Nat → Bool) → Prop} {m m' : Int} {F F' : Nat → Nat → Bool} (h : SQ9 n G m F) (h' : SQ9 n G m' F') : m ≤ m' := by
  apply Int.not_lt.mp
  intro w
  have h0 := h'.1
  obtain ⟨c, c1, c2⟩ := h'.2.2.2 _ (h.2.1 m'.toNat (by omega))
  have e := SQ_e h h' c (by omega) c1
  exact ahd_i (ahd_c (fun p hp => (e p hp).trans (c2 p hp)) (fun _ _ => rfl) (h.2.2.1 c m'.toNat (by omega) (by omega)))
theorem SQ_u {n : Nat} {G : (Nat → Bool) → Prop} {m m' : Int} {F F' : Nat → Nat → Bool} (h : SQ9 n G m F) (h' : SQ9 n G m' F') : m = m' ∧ ∀ a : Nat, (a : Int) < m → ∀ p : Nat, p < n → F a p = F' a p := by
  have h1 := SQ_n h h'
  have h2 := SQ_n h' h
  exact ⟨by omega, fun a ha => SQ_e h h' a ha (by omega)⟩
