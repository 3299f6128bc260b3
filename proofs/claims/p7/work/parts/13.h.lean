
/-- the cross product of two directions -/
def cx (a b c d : Int) : Int := a * d - b * c
theorem cx_add {a b c d e f : Int} : cx a b (c + e) (d + f) = cx a b c d + cx a b e f := by unfold cx; rw [Int.mul_add, Int.mul_add]; omega
theorem cx_add' {a b c d e f : Int} : cx (a + e) (b + f) c d = cx a b c d + cx e f c d := by unfold cx; rw [Int.add_mul, Int.add_mul]; omega
theorem cx_neg {a b c d : Int} : cx (-a) (-b) (-c) (-d) = cx a b c d := by unfold cx; rw [Int.neg_mul_neg, Int.neg_mul_neg]
def lp (a b : Int) : Prop := 0 < a ∨ (a = 0 ∧ 0 < b)
theorem cx_id {a b c d e f : Int} : c * cx a b e f = a * cx c d e f + e * cx a b c d := by unfold cx; grind
theorem cx_tr {a b c d e f : Int} (h1 : lp a b) (h2 : lp c d) (h3 : lp e f) (g1 : 0 < cx a b c d) (g2 : 0 < cx c d e f) : 0 < cx a b e f := by
  have hid := cx_id (a := a) (b := b) (c := c) (d := d) (e := e) (f := f)
  rcases h2 with h2 | ⟨h2, h2'⟩
  · have ha : 0 ≤ a := by unfold lp at h1; omega
    have he : 0 ≤ e := by unfold lp at h3; omega
    have p1 : 0 ≤ a * cx c d e f := Int.mul_nonneg ha (by omega)
    have p2 : 0 ≤ e * cx a b c d := Int.mul_nonneg he (by omega)
    have hpos : 0 < a ∨ 0 < e := by
      rcases h1 with h1 | ⟨h1, h1'⟩
      · exact Or.inl h1
      · exfalso
        subst h1
        unfold cx at g1
        have : 0 < b * c := Int.mul_pos h1' h2
        omega
    have hs : 0 < c * cx a b e f := by
      rcases hpos with q | q
      · have := Int.mul_pos q g2; omega
      · have := Int.mul_pos q g1; omega
    exact Int.pos_of_mul_pos_left (by rw [Int.mul_comm]; exact hs) h2
  · exfalso
    subst h2
    unfold cx at g2
    have he : 0 ≤ e := by unfold lp at h3; omega
    have : 0 ≤ d * e := Int.mul_nonneg (by omega) he
    omega
/-- a chain: directions to the right (or up), left turns; then any two directions turn left -/
def chn (dx dy : Nat → Int) (n : Nat) : Prop := (∀ a, a < n → lp (dx a) (dy a)) ∧ ∀ a, a + 1 < n → 0 < cx (dx a) (dy a) (dx (a + 1)) (dy (a + 1))
theorem chn_2 {dx dy : Nat → Int} {n : Nat} (h : chn dx dy n) : ∀ (k a : Nat), a + k + 1 < n → 0 < cx (dx a) (dy a) (dx (a + k + 1)) (dy (a + k + 1)) := by
  intro k
  induction k with
  | zero => intro a ha; exact h.2 a ha
  | succ k ih => intro a ha; exact cx_tr (h.1 a (by omega)) (h.1 (a + k + 1) (by omega)) (h.1 (a + (k + 1) + 1) (by omega)) (ih a (by omega)) (h.2 (a + k + 1) (by omega))
def df (X : Nat → Int) : Nat → Int := fun a => X (a + 1) - X a
theorem chn_3 {X Y : Nat → Int} {n : Nat} (h : chn (df X) (df Y) n) (a j : Nat) (haj : a < j) : ∀ k : Nat, j + k + 1 ≤ n → 0 < cx (df X a) (df Y a) (X (j + k + 1) - X j) (Y (j + k + 1) - Y j) := by
  intro k
  induction k with
  | zero =>
    intro hk
    have := chn_2 h (j - a - 1) a (by omega)
    rw [show a + (j - a - 1) + 1 = j by omega] at this
    exact this
  | succ k ih =>
    intro hk
    have h1 := ih (by omega)
    have h2 := chn_2 h (j + k + 1 - a - 1) a (by omega)
    rw [show a + (j + k + 1 - a - 1) + 1 = j + k + 1 by omega] at h2
    rw [show X (j + (k + 1) + 1) - X j = (X (j + k + 1) - X j) + df X (j + k + 1) by unfold df; rw [show j + (k + 1) + 1 = j + k + 1 + 1 by omega]; omega, show Y (j + (k + 1) + 1) - Y j = (Y (j + k + 1) - Y j) + df Y (j + k + 1) by unfold df; rw [show j + (k + 1) + 1 = j + k + 1 + 1 by omega]; omega, cx_add]
    omega
theorem chn_4 {X Y : Nat → Int} {n : Nat} (h : chn (df X) (df Y) n) (j k : Nat) (hjk : j < k) (hk : k ≤ n) : ∀ m : Nat, m + 1 ≤ j → 0 < cx (X j - X (j - m - 1)) (Y j - Y (j - m - 1)) (X k - X j) (Y k - Y j) := by
  intro m
  induction m with
  | zero =>
    intro hm
    have := chn_3 h (j - 1) j (by omega) (k - j - 1) (by omega)
    rw [show j + (k - j - 1) + 1 = k by omega] at this
    unfold df at this
    rw [show j - 1 + 1 = j by omega] at this
    exact this
  | succ m ih =>
    intro hm
    have h1 := ih (by omega)
    have h2 := chn_3 h (j - (m + 1) - 1) j (by omega) (k - j - 1) (by omega)
    rw [show j + (k - j - 1) + 1 = k by omega] at h2
    rw [show X j - X (j - (m + 1) - 1) = (X j - X (j - m - 1)) + df X (j - (m + 1) - 1) by unfold df; rw [show j - (m + 1) - 1 + 1 = j - m - 1 by omega]; omega, show Y j - Y (j - (m + 1) - 1) = (Y j - Y (j - m - 1)) + df Y (j - (m + 1) - 1) by unfold df; rw [show j - (m + 1) - 1 + 1 = j - m - 1 by omega]; omega, cx_add']
    omega
theorem tn_cx {X Y : Nat → Int} {i j k : Nat} : tn X Y i j k = cx (X j - X i) (Y j - Y i) (X k - X j) (Y k - Y j) := by
  unfold tn cx; grind
/-- any three of a chain turn left -/
theorem chn_t {X Y : Nat → Int} {n i j k : Nat} (h : chn (df X) (df Y) n) (h1 : i < j) (h2 : j < k) (h3 : k ≤ n) : 0 < tn X Y i j k := by
  rw [tn_cx]
  have := chn_4 h j k h2 h3 (j - i - 1) (by omega)
  rw [show j - (j - i - 1) - 1 = i by omega] at this
  exact this
theorem tn_rot {X Y : Nat → Int} {i j k : Nat} : tn X Y i j k = tn X Y k i j := by unfold tn; grind
theorem chn_lo {X Y : Nat → Int} {t : Nat} (h1 : ∀ a : Nat, a < t → lt2 (X a) (Y a) (X (a + 1)) (Y (a + 1))) (h2 : lft X Y 0 ((t : Int) + 1)) : chn (df X) (df Y) t := by
  refine ⟨fun a ha => ?_, fun a ha => ?_⟩
  · have := h1 a ha; unfold lt2 at this; unfold lp df; omega
  · have := h2 a (by omega) (by omega)
    rw [tn_cx] at this; exact this
/-- the upper chain, turned by half a turn, from the place t on -/
theorem chn_up {X Y : Nat → Int} {t : Nat} {n : Int} (h1 : ∀ a : Nat, t ≤ a → (a : Int) < n → lt2 (X (a + 1)) (Y (a + 1)) (X a) (Y a)) (h2 : lft X Y t (n + 1)) : chn (df (fun a => -X (t + a))) (df (fun a => -Y (t + a))) (n.toNat - t) := by
  refine ⟨fun a ha => ?_, fun a ha => ?_⟩
  · have := h1 (t + a) (by omega) (by omega); unfold lt2 at this; unfold lp df; dsimp only; rw [show t + (a + 1) = t + a + 1 by omega]; omega
  · have := h2 (t + a) (by omega) (by omega)
    rw [tn_cx] at this
    unfold df; dsimp only
    rw [show t + (a + 1) = t + a + 1 by omega, show t + (a + 1 + 1) = t + a + 2 by omega, ← cx_neg]
    rw [show -(-X (t + a + 1) - -X (t + a)) = X (t + a + 1) - X (t + a) by omega, show -(-Y (t + a + 1) - -Y (t + a)) = Y (t + a + 1) - Y (t + a) by omega, show -(-X (t + a + 2) - -X (t + a + 1)) = X (t + a + 2) - X (t + a + 1) by omega, show -(-Y (t + a + 2) - -Y (t + a + 1)) = Y (t + a + 2) - Y (t + a + 1) by omega]
    exact this
theorem Ch_d {n : Int} {X Y : Nat → Int} (h : Ch n X Y) (hn : 2 < n) : 0 < tn X Y 0 1 2 := by
  rcases h with h | ⟨t, h1, h2, h3, h4, h5, h6, h7, h8⟩
  · omega
  · by_cases e : 2 ≤ t
    · exact h4 0 (by omega) (by omega)
    · have et : t = 1 := by omega
      subst et
      have hc := chn_up h5 h6
      have := chn_t hc (i := 0) (j := 1) (k := n.toNat - 1) (by omega) (by omega) (Nat.le_refl _)
      rw [tn_cx] at this
      rw [show 1 + (n.toNat - 1) = n.toNat by omega, ← cx_neg] at this
      rw [show 1 + 0 = 1 from rfl, show 1 + 1 = 2 from rfl, h7, h8] at this
      rw [tn_cx]
      unfold cx at this ⊢
      grind
theorem Sh_d {u : MS} {s : Int} (h : Sh u s) (hn : 2 < mN u s) : 0 < (mX u s 1 - mX u s 0) * (mY u s 2 - mY u s 0) - (mY u s 1 - mY u s 0) * (mX u s 2 - mX u s 0) := Ch_d h.2.2 hn
