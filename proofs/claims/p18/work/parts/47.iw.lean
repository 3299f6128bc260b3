
/-! ===== ways round ===== -/
def dl0 (x y : Int) : Int64 := if x = 0 ∧ y = 0 then 1 else 0
/-- what comes from 0 to s steps behind -/
def stw (N : Int → Int → Int64) (dx dy : Int) : Nat → Int → Int → Int64
  | 0, x, y => N x y
  | s + 1, x, y => stw N dx dy s x y + N (x - ((s : Int) + 1) * dx) (y - ((s : Int) + 1) * dy)
/-- all ways, by sides -/
def MI (dx dy : Nat → Int) (s : Nat → Nat) : Nat → Int → Int → Int64
  | 0 => dl0
  | i + 1 => fun x y => stw (MI dx dy s i) (dx i) (dy i) (s i) x y
theorem stw_c {N N' : Int → Int → Int64} {dx dy : Int} : ∀ (s : Nat) (x y : Int), (∀ t : Nat, t ≤ s → N (x - (t : Int) * dx) (y - (t : Int) * dy) = N' (x - (t : Int) * dx) (y - (t : Int) * dy)) → stw N dx dy s x y = stw N' dx dy s x y := by
  intro s
  induction s with
  | zero =>
    intro x y h
    have := h 0 (Nat.le_refl 0)
    rw [show ((0 : Nat) : Int) = 0 from rfl, Int.zero_mul, Int.zero_mul, Int.sub_zero, Int.sub_zero] at this
    exact this
  | succ s ih =>
    intro x y h
    have h1 := ih x y (fun t ht => h t (by omega))
    have h2 := h (s + 1) (Nat.le_refl _)
    rw [show ((s + 1 : Nat) : Int) = (s : Int) + 1 by omega] at h2
    show stw N dx dy s x y + N _ _ = stw N' dx dy s x y + N' _ _
    rw [h1, h2]
theorem stw_0 {dx dy : Int} : ∀ (s : Nat) (x y : Int), stw (fun _ _ => 0) dx dy s x y = 0 := by
  intro s
  induction s with
  | zero => intro x y; rfl
  | succ s ih => intro x y; show stw (fun _ _ => 0) dx dy s x y + 0 = 0; rw [ih]; rfl
theorem stw_nz {N : Int → Int → Int64} {dx dy : Int} : ∀ (s : Nat) (x y : Int), stw N dx dy s x y ≠ 0 → ∃ t : Nat, t ≤ s ∧ N (x - (t : Int) * dx) (y - (t : Int) * dy) ≠ 0 := by
  intro s x y h
  apply Classical.byContradiction
  intro w
  refine h ((stw_c s x y (fun t ht => ?_)).trans (stw_0 s x y))
  apply Classical.byContradiction
  intro w2
  exact w ⟨t, ht, w2⟩
theorem stw_r {N : Int → Int → Int64} {dx dy : Int} : ∀ (s : Nat) (x y : Int), stw N dx dy s x y = N x y + stw N dx dy s (x - dx) (y - dy) - N (x - ((s : Int) + 1) * dx) (y - ((s : Int) + 1) * dy) := by
  intro s
  induction s with
  | zero =>
    intro x y
    show N x y = N x y + N (x - dx) (y - dy) - N (x - (((0 : Nat) : Int) + 1) * dx) (y - (((0 : Nat) : Int) + 1) * dy)
    rw [show (((0 : Nat) : Int) + 1) = 1 from rfl, Int.one_mul, Int.one_mul]
    grind
  | succ s ih =>
    intro x y
    show stw N dx dy s x y + N (x - ((s : Int) + 1) * dx) (y - ((s : Int) + 1) * dy) = N x y + (stw N dx dy s (x - dx) (y - dy) + N (x - dx - ((s : Int) + 1) * dx) (y - dy - ((s : Int) + 1) * dy)) - N (x - (((s + 1 : Nat) : Int) + 1) * dx) (y - (((s + 1 : Nat) : Int) + 1) * dy)
    rw [ih x y, show ((s + 1 : Nat) : Int) = (s : Int) + 1 by omega, show x - dx - ((s : Int) + 1) * dx = x - ((s : Int) + 1 + 1) * dx by grind, show y - dy - ((s : Int) + 1) * dy = y - ((s : Int) + 1 + 1) * dy by grind]
    grind
theorem sm_rng {f g : Nat → Int} {i : Nat} : ∀ n : Nat, i ≤ n → (∀ j : Nat, i ≤ j → j < n → f j = g j) → sm f n - sm f i = sm g n - sm g i := by
  intro n
  induction n with
  | zero => intro h _; rw [show i = 0 by omega]; omega
  | succ n ih =>
    intro h hf
    by_cases e : i = n + 1
    · rw [e]; omega
    · have := ih (by omega) (fun j h1 h2 => hf j h1 (by omega))
      have h2 := hf n (by omega) (by omega)
      show sm f n + f n - sm f i = sm g n + g n - sm g i
      omega
/-- what can be reached by the sides before i; from where the sides from i on lead home -/
def rc9 (dx dy : Nat → Int) (s : Nat → Nat) (i : Nat) (x y : Int) : Prop := ∃ t : Nat → Int, (∀ j : Nat, j < i → 0 ≤ t j ∧ t j ≤ s j) ∧ x = sm (fun j => t j * dx j) i ∧ y = sm (fun j => t j * dy j) i
def co9 (dx dy : Nat → Int) (s : Nat → Nat) (n i : Nat) (x y : Int) : Prop := ∃ t : Nat → Int, (∀ j : Nat, i ≤ j → j < n → 0 ≤ t j ∧ t j ≤ s j) ∧ x + (sm (fun j => t j * dx j) n - sm (fun j => t j * dx j) i) = 0 ∧ y + (sm (fun j => t j * dy j) n - sm (fun j => t j * dy j) i) = 0
theorem co9_n {dx dy : Nat → Int} {s : Nat → Nat} {n : Nat} : co9 dx dy s n n 0 0 := ⟨fun _ => 0, fun j h1 h2 => by omega, by omega, by omega⟩
/-- a place from which the later sides lead home: t steps of side i before it, too -/
theorem co9_s {dx dy : Nat → Int} {s : Nat → Nat} {n i t : Nat} {x y : Int} (hi : i < n) (h : co9 dx dy s n (i + 1) x y) (ht : t ≤ s i) : co9 dx dy s n i (x - (t : Int) * dx i) (y - (t : Int) * dy i) := by
  obtain ⟨f, h1, h2, h3⟩ := h
  have key : ∀ d : Nat → Int, sm (fun j => (if j = i then (t : Int) else f j) * d j) n - sm (fun j => (if j = i then (t : Int) else f j) * d j) i = sm (fun j => f j * d j) n - sm (fun j => f j * d j) (i + 1) + (t : Int) * d i := fun d => by
    have q1 := sm_rng (f := fun j => (if j = i then (t : Int) else f j) * d j) (g := fun j => f j * d j) (i := i + 1) n (by omega) (fun j j1 j2 => by show (if j = i then (t : Int) else f j) * d j = f j * d j; rw [if_neg (by omega)])
    have q2 : sm (fun j => (if j = i then (t : Int) else f j) * d j) (i + 1) = sm (fun j => (if j = i then (t : Int) else f j) * d j) i + (t : Int) * d i := by
      show sm _ i + (if i = i then (t : Int) else f i) * d i = _
      rw [if_pos rfl]
    omega
  refine ⟨fun j => if j = i then (t : Int) else f j, fun j j1 j2 => ?_, ?_, ?_⟩
  · by_cases e : j = i
    · subst e
      show 0 ≤ (if j = j then (t : Int) else f j) ∧ (if j = j then (t : Int) else f j) ≤ s j
      rw [if_pos rfl]; omega
    · show 0 ≤ (if j = i then (t : Int) else f j) ∧ (if j = i then (t : Int) else f j) ≤ s j
      rw [if_neg e]; exact h1 j (by omega) j2
  · show x - (t : Int) * dx i + (sm (fun j => (if j = i then (t : Int) else f j) * dx j) n - sm (fun j => (if j = i then (t : Int) else f j) * dx j) i) = 0
    have := key dx; omega
  · show y - (t : Int) * dy i + (sm (fun j => (if j = i then (t : Int) else f j) * dy j) n - sm (fun j => (if j = i then (t : Int) else f j) * dy j) i) = 0
    have := key dy; omega
theorem MI_rc {dx dy : Nat → Int} {s : Nat → Nat} : ∀ (i : Nat) (x y : Int), MI dx dy s i x y ≠ 0 → rc9 dx dy s i x y := by
  intro i
  induction i with
  | zero =>
    intro x y h
    have h2 : x = 0 ∧ y = 0 := by
      apply Classical.byContradiction
      intro w
      exact h (if_neg w)
    exact ⟨fun _ => 0, fun j hj => by omega, h2.1, h2.2⟩
  | succ i ih =>
    intro x y h
    obtain ⟨t, t1, t2⟩ := stw_nz (s i) x y h
    obtain ⟨f, f1, f2, f3⟩ := ih _ _ t2
    have key : ∀ d : Nat → Int, sm (fun j => (if j = i then (t : Int) else f j) * d j) (i + 1) = sm (fun j => f j * d j) i + (t : Int) * d i := fun d => by
      show sm _ i + (if i = i then (t : Int) else f i) * d i = _
      rw [if_pos rfl, sm_c (g := fun j => f j * d j) (fun j hj => by show (if j = i then (t : Int) else f j) * d j = f j * d j; rw [if_neg (by omega)])]
    refine ⟨fun j => if j = i then (t : Int) else f j, fun j hj => ?_, ?_, ?_⟩
    · by_cases e : j = i
      · subst e
        show 0 ≤ (if j = j then (t : Int) else f j) ∧ (if j = j then (t : Int) else f j) ≤ s j
        rw [if_pos rfl]; omega
      · show 0 ≤ (if j = i then (t : Int) else f j) ∧ (if j = i then (t : Int) else f j) ≤ s j
        rw [if_neg e]; exact f1 j (by omega)
    · show x = sm (fun j => (if j = i then (t : Int) else f j) * dx j) (i + 1)
      have := key dx; omega
    · show y = sm (fun j => (if j = i then (t : Int) else f j) * dy j) (i + 1)
      have := key dy; omega
/-- a count by sides that keeps to a region R agrees with all ways where the later sides lead home -/
theorem MI_s {dx dy : Nat → Int} {s : Nat → Nat} {n i : Nat} {N N' : Int → Int → Int64} {R : Int → Int → Prop} (hi : i < n) (hR : ∀ x y : Int, rc9 dx dy s (i + 1) x y → co9 dx dy s n (i + 1) x y → R x y) (h : ∀ x y : Int, co9 dx dy s n i x y → N x y = MI dx dy s i x y) (h1 : ∀ x y : Int, R x y → N' x y = stw N (dx i) (dy i) (s i) x y) (h2 : ∀ x y : Int, ¬ R x y → N' x y = 0) (x y : Int) (hc : co9 dx dy s n (i + 1) x y) : N' x y = MI dx dy s (i + 1) x y := by
  by_cases e : R x y
  · rw [h1 x y e]
    exact stw_c _ x y (fun t ht => h _ _ (co9_s hi hc ht))
  · rw [h2 x y e]
    apply Classical.byContradiction
    intro w
    exact e (hR x y (MI_rc (i + 1) x y (fun q => w q.symm)) hc)
/-! in one direction -/
theorem seg_u {V t ph sg : Nat → Int} {n : Nat} (hV : ∀ j : Nat, j < n → V (j + 1) - V j = sg j * ph j) (ht : ∀ j : Nat, j < n → 0 ≤ t j ∧ t j ≤ sg j) {p : Nat} : ∀ q : Nat, p ≤ q → q ≤ n → (∀ j : Nat, p ≤ j → j < q → 0 ≤ ph j) → 0 ≤ sm (fun j => t j * ph j) q - sm (fun j => t j * ph j) p ∧ sm (fun j => t j * ph j) q - sm (fun j => t j * ph j) p ≤ V q - V p := by
  intro q
  induction q with
  | zero => intro h _ _; rw [show p = 0 by omega]; omega
  | succ q ih =>
    intro h hn hp
    by_cases e : p = q + 1
    · rw [e]; omega
    · have k := ih (by omega) (by omega) (fun j a b => hp j a (by omega))
      have v := hV q (by omega)
      have tt := ht q (by omega)
      have pp := hp q (by omega) (by omega)
      have m1 := Int.mul_nonneg tt.1 pp
      have m2 := Int.mul_le_mul_of_nonneg_right tt.2 pp
      show 0 ≤ sm (fun j => t j * ph j) q + t q * ph q - sm (fun j => t j * ph j) p ∧ sm (fun j => t j * ph j) q + t q * ph q - sm (fun j => t j * ph j) p ≤ V (q + 1) - V p
      omega
theorem seg_d {V t ph sg : Nat → Int} {n : Nat} (hV : ∀ j : Nat, j < n → V (j + 1) - V j = sg j * ph j) (ht : ∀ j : Nat, j < n → 0 ≤ t j ∧ t j ≤ sg j) {p : Nat} : ∀ q : Nat, p ≤ q → q ≤ n → (∀ j : Nat, p ≤ j → j < q → ph j ≤ 0) → sm (fun j => t j * ph j) q - sm (fun j => t j * ph j) p ≤ 0 ∧ V q - V p ≤ sm (fun j => t j * ph j) q - sm (fun j => t j * ph j) p := by
  intro q
  induction q with
  | zero => intro h _ _; rw [show p = 0 by omega]; omega
  | succ q ih =>
    intro h hn hp
    by_cases e : p = q + 1
    · rw [e]; omega
    · have k := ih (by omega) (by omega) (fun j a b => hp j a (by omega))
      have v := hV q (by omega)
      have tt := ht q (by omega)
      have pp := hp q (by omega) (by omega)
      have m1 := Int.mul_nonneg tt.1 (show 0 ≤ -ph q by omega)
      have m2 := Int.mul_le_mul_of_nonneg_right tt.2 (show 0 ≤ -ph q by omega)
      rw [Int.mul_neg] at m1 m2
      rw [Int.mul_neg] at m2
      show sm (fun j => t j * ph j) q + t q * ph q - sm (fun j => t j * ph j) p ≤ 0 ∧ V (q + 1) - V p ≤ sm (fun j => t j * ph j) q + t q * ph q - sm (fun j => t j * ph j) p
      omega
/-- up and down at most twice: the sums of what is taken of each side stay within the bounds -/
theorem box_1 {V t ph sg : Nat → Int} {n a b i : Nat} {lo hi : Int} (hV : ∀ j : Nat, j < n → V (j + 1) - V j = sg j * ph j) (ht : ∀ j : Nat, j < n → 0 ≤ t j ∧ t j ≤ sg j) (h0 : V n = V 0) (hs : sm (fun j => t j * ph j) n = 0) (hab : a ≤ b ∧ b ≤ n) (hp : ((∀ j : Nat, j < a → ph j ≤ 0) ∧ (∀ j : Nat, a ≤ j → j < b → 0 ≤ ph j) ∧ ∀ j : Nat, b ≤ j → j < n → ph j ≤ 0) ∨ ((∀ j : Nat, j < a → 0 ≤ ph j) ∧ (∀ j : Nat, a ≤ j → j < b → ph j ≤ 0) ∧ ∀ j : Nat, b ≤ j → j < n → 0 ≤ ph j)) (hb : ∀ j : Nat, j ≤ n → lo ≤ V j ∧ V j ≤ hi) (hi9 : i ≤ n) : lo ≤ V 0 + sm (fun j => t j * ph j) i ∧ V 0 + sm (fun j => t j * ph j) i ≤ hi := by
  have z : sm (fun j => t j * ph j) 0 = 0 := rfl
  have b0 := hb 0 (by omega)
  have ba := hb a (by omega)
  have bb := hb b (by omega)
  have bi := hb i hi9
  rcases hp with ⟨p1, p2, p3⟩ | ⟨p1, p2, p3⟩
  · have A := seg_d hV ht (p := 0) a (by omega) (by omega) (fun j _ h => p1 j h)
    have Bq := seg_u hV ht (p := a) b hab.1 hab.2 p2
    have Cq := seg_d hV ht (p := b) n hab.2 (by omega) p3
    rcases (show i ≤ a ∨ (a ≤ i ∧ i ≤ b) ∨ b ≤ i by omega) with w | w | w
    · have A1 := seg_d hV ht (p := 0) i (by omega) hi9 (fun j _ h => p1 j (by omega))
      omega
    · have B1 := seg_u hV ht (p := a) i w.1 hi9 (fun j h1 h2 => p2 j h1 (by omega))
      have B2 := seg_u hV ht (p := i) b w.2 hab.2 (fun j h1 h2 => p2 j (by omega) h2)
      omega
    · have C2 := seg_d hV ht (p := i) n hi9 (by omega) (fun j h1 h2 => p3 j (by omega) h2)
      omega
  · have A := seg_u hV ht (p := 0) a (by omega) (by omega) (fun j _ h => p1 j h)
    have Bq := seg_d hV ht (p := a) b hab.1 hab.2 p2
    have Cq := seg_u hV ht (p := b) n hab.2 (by omega) p3
    rcases (show i ≤ a ∨ (a ≤ i ∧ i ≤ b) ∨ b ≤ i by omega) with w | w | w
    · have A1 := seg_u hV ht (p := 0) i (by omega) hi9 (fun j _ h => p1 j (by omega))
      omega
    · have B1 := seg_d hV ht (p := a) i w.1 hi9 (fun j h1 h2 => p2 j h1 (by omega))
      have B2 := seg_d hV ht (p := i) b w.2 hab.2 (fun j h1 h2 => p2 j (by omega) h2)
      omega
    · have C2 := seg_u hV ht (p := i) n hi9 (by omega) (fun j h1 h2 => p3 j (by omega) h2)
      omega
theorem fst_not {P : Nat → Prop} : ∀ n : Nat, (∀ j : Nat, j < n → P j) ∨ ∃ a : Nat, a < n ∧ ¬ P a ∧ ∀ j : Nat, j < a → P j := by
  intro n
  induction n with
  | zero => exact Or.inl (fun j hj => by omega)
  | succ n ih =>
    rcases ih with h | ⟨a, a1, a2, a3⟩
    · by_cases e : P n
      · exact Or.inl (fun j hj => by
          by_cases w : j = n
          · rw [w]; exact e
          · exact h j (by omega))
      · exact Or.inr ⟨n, by omega, e, h⟩
    · exact Or.inr ⟨a, by omega, a2, a3⟩
/-- one change from down to up at most, and one from up to down -/
theorem pat_1 {u : Nat → Prop} {n : Nat} (h0 : ¬ u 0) (hDU : ∀ k k' : Nat, 0 < k → k < n → 0 < k' → k' < n → ¬ u (k - 1) → u k → ¬ u (k' - 1) → u k' → k = k') : ∃ a b : Nat, a ≤ b ∧ b ≤ n ∧ (∀ j : Nat, j < a → ¬ u j) ∧ (∀ j : Nat, a ≤ j → j < b → u j) ∧ ∀ j : Nat, b ≤ j → j < n → ¬ u j := by
  rcases fst_not (P := fun j => ¬ u j) n with h | ⟨a, a1, a2, a3⟩
  · exact ⟨n, n, Nat.le_refl _, Nat.le_refl _, h, fun j h1 h2 => by omega, fun j h1 h2 => by omega⟩
  · have ua : u a := Classical.byContradiction a2
    have a0 : 0 < a := by
      apply Nat.pos_of_ne_zero
      intro e
      rw [e] at ua
      exact h0 ua
    rcases fst_not (P := fun j => u (a + j)) (n - a) with h | ⟨c, c1, c2, c3⟩
    · exact ⟨a, n, by omega, Nat.le_refl _, a3, fun j h1 h2 => by
        have := h (j - a) (by omega)
        rw [show a + (j - a) = j by omega] at this
        exact this, fun j h1 h2 => by omega⟩
    · refine ⟨a, a + c, by omega, by omega, a3, fun j h1 h2 => ?_, fun j h1 h2 w => ?_⟩
      · have := c3 (j - a) (by omega)
        rw [show a + (j - a) = j by omega] at this
        exact this
      · have c0 : ¬ u (a + c) := c2
        rcases fst_not (P := fun k => ¬ u (a + c + k)) (j - (a + c) + 1) with h | ⟨e, e1, e2, e3⟩
        · have := h (j - (a + c)) (by omega)
          rw [show a + c + (j - (a + c)) = j by omega] at this
          exact this w
        · have ue : u (a + c + e) := Classical.byContradiction e2
          have e0 : 0 < e := by
            apply Nat.pos_of_ne_zero
            intro z
            rw [z] at ue
            exact c0 ue
          have d1 := e3 (e - 1) (by omega)
          rw [show a + c + (e - 1) = a + c + e - 1 by omega] at d1
          have := hDU a (a + c + e) a0 a1 (by omega) (by omega) (a3 (a - 1) (by omega)) ua d1 ue
          omega
theorem pat_2 {u : Nat → Prop} {n : Nat} (hDU : ∀ k k' : Nat, 0 < k → k < n → 0 < k' → k' < n → ¬ u (k - 1) → u k → ¬ u (k' - 1) → u k' → k = k') (hUD : ∀ k k' : Nat, 0 < k → k < n → 0 < k' → k' < n → u (k - 1) → ¬ u k → u (k' - 1) → ¬ u k' → k = k') : ∃ a b : Nat, (a ≤ b ∧ b ≤ n) ∧ (((∀ j : Nat, j < a → ¬ u j) ∧ (∀ j : Nat, a ≤ j → j < b → u j) ∧ ∀ j : Nat, b ≤ j → j < n → ¬ u j) ∨ ((∀ j : Nat, j < a → u j) ∧ (∀ j : Nat, a ≤ j → j < b → ¬ u j) ∧ ∀ j : Nat, b ≤ j → j < n → u j)) := by
  by_cases e : u 0
  · obtain ⟨a, b, h1, h2, h3, h4, h5⟩ := pat_1 (u := fun j => ¬ u j) (n := n) (fun q => q e) (fun k k' x1 x2 x3 x4 x5 x6 x7 x8 => hUD k k' x1 x2 x3 x4 (Classical.byContradiction x5) x6 (Classical.byContradiction x7) x8)
    exact ⟨a, b, ⟨h1, h2⟩, Or.inr ⟨fun j q => Classical.byContradiction (h3 j q), h4, fun j q1 q2 => Classical.byContradiction (h5 j q1 q2)⟩⟩
  · obtain ⟨a, b, h1, h2, h3, h4, h5⟩ := pat_1 (u := u) (n := n) e hDU
    exact ⟨a, b, ⟨h1, h2⟩, Or.inl ⟨h3, h4, h5⟩⟩
/-- corners are different points -/
theorem HS_ne {S : Int → Int → Prop} {n : Int} {X Y : Nat → Int} (h : HS S n X Y) : ∀ (m k k' : Nat), (k' : Int) + m + 1 = n → k < k' → ¬ (X k = X k' ∧ Y k = Y k') := by
  have hc := HS_S h
  rcases h with ⟨h, _⟩ | ⟨p1, p2, p3, ⟨p4, p5⟩ | ⟨p4, p5, p6⟩⟩
  · intro m k k' h1 h2; omega
  · intro m k k' h1 h2; omega
  · intro m
    induction m with
    | zero =>
      rintro k k' h1 h2 ⟨e1, e2⟩
      have A := p6 k (by omega)
      have C := p6 k' (by omega)
      have x1 : nxt X n k = X (k + 1) ∧ nxt Y n k = Y (k + 1) := by unfold nxt; rw [if_pos (by omega), if_pos (by omega)]; exact ⟨rfl, rfl⟩
      have x2 : nxt X n k' = X 0 ∧ nxt Y n k' = Y 0 := by unfold nxt; rw [if_neg (by omega), if_neg (by omega)]; exact ⟨rfl, rfl⟩
      rw [x1.1, x1.2] at A
      rw [x2.1, x2.2, ← e1, ← e2] at C
      obtain ⟨q1, q2⟩ := edS_u A C (hc _ (by omega)) p2
      have := (p5 (k + 1) (by omega) (by omega)).2
      omega
    | succ m ih =>
      rintro k k' h1 h2 ⟨e1, e2⟩
      have A := p6 k (by omega)
      have C := p6 k' (by omega)
      have x1 : nxt X n k = X (k + 1) ∧ nxt Y n k = Y (k + 1) := by unfold nxt; rw [if_pos (by omega), if_pos (by omega)]; exact ⟨rfl, rfl⟩
      have x2 : nxt X n k' = X (k' + 1) ∧ nxt Y n k' = Y (k' + 1) := by unfold nxt; rw [if_pos (by omega), if_pos (by omega)]; exact ⟨rfl, rfl⟩
      rw [x1.1, x1.2] at A
      rw [x2.1, x2.2, ← e1, ← e2] at C
      exact ih (k + 1) (k' + 1) (by omega) (by omega) (edS_u A C (hc _ (by omega)) (hc _ (by omega)))
theorem HS_di {S : Int → Int → Prop} {n : Int} {X Y : Nat → Int} (h : HS S n X Y) {k k' : Nat} (h1 : (k : Int) < n) (h2 : (k' : Int) < n) (e : X k = X k' ∧ Y k = Y k') : k = k' := by
  rcases Nat.lt_trichotomy k k' with w | w | w
  · exact absurd e (HS_ne h (n - k' - 1).toNat k k' (by omega) w)
  · exact w
  · exact absurd ⟨e.1.symm, e.2.symm⟩ (HS_ne h (n - k - 1).toNat k' k (by omega) w)
/-- no worse than both neighbours: no worse than any -/
theorem HS_loc {S : Int → Int → Prop} {n : Int} {X Y : Nat → Int} {α β : Int} (h : HS S n X Y) (hn : 2 ≤ n) {k : Nat} (h0 : 0 < k) (h1 : (k : Int) < n) (hp : α * X (k - 1) + β * Y (k - 1) ≤ α * X k + β * Y k) (hs : α * nxt X n k + β * nxt Y n k ≤ α * X k + β * Y k) {j : Nat} (hj : (j : Int) < n) : α * X j + β * Y j ≤ α * X k + β * Y k := by
  have hc := HS_S h
  rcases h with ⟨h, _⟩ | ⟨p1, p2, p3, ⟨p4, p5⟩ | ⟨p4, p5, p6⟩⟩
  · omega
  · omega
  · have E1 := p6 (k - 1) (by omega)
    have E2 := p6 k h1
    have x1 : nxt X n (k - 1) = X k ∧ nxt Y n (k - 1) = Y k := by unfold nxt; rw [if_pos (by omega), if_pos (by omega), show k - 1 + 1 = k by omega]; exact ⟨rfl, rfl⟩
    rw [x1.1, x1.2] at E1
    obtain ⟨b, b1, b2, b3⟩ := nxt_c (X := X) (Y := Y) h1
    rw [b2, b3] at E2 hs
    exact max_at E1 E2 (hc _ (by omega)) (hc b b1) (hc j hj) hp hs
/-- along a direction that tells points apart: up and down at most twice -/
theorem HS_pat {S : Int → Int → Prop} {n : Int} {X Y : Nat → Int} {α β : Int} (h : HS S n X Y) (hn : 2 ≤ n) (hinj : ∀ a b : Nat, (a : Int) < n → (b : Int) < n → α * X a + β * Y a = α * X b + β * Y b → X a = X b ∧ Y a = Y b) : ∃ a b : Nat, (a ≤ b ∧ b ≤ n.toNat) ∧ (((∀ j : Nat, j < a → α * nxt X n j + β * nxt Y n j ≤ α * X j + β * Y j) ∧ (∀ j : Nat, a ≤ j → j < b → α * X j + β * Y j < α * nxt X n j + β * nxt Y n j) ∧ ∀ j : Nat, b ≤ j → j < n.toNat → α * nxt X n j + β * nxt Y n j ≤ α * X j + β * Y j) ∨ ((∀ j : Nat, j < a → α * X j + β * Y j < α * nxt X n j + β * nxt Y n j) ∧ (∀ j : Nat, a ≤ j → j < b → α * nxt X n j + β * nxt Y n j ≤ α * X j + β * Y j) ∧ ∀ j : Nat, b ≤ j → j < n.toNat → α * X j + β * Y j < α * nxt X n j + β * nxt Y n j)) := by
  have pv : ∀ k : Nat, 0 < k → (k : Int) < n → nxt X n (k - 1) = X k ∧ nxt Y n (k - 1) = Y k := fun k h0 h1 => by
    unfold nxt; rw [if_pos (by omega), if_pos (by omega), show k - 1 + 1 = k by omega]; exact ⟨rfl, rfl⟩
  have ng : ∀ x y : Int, -α * x + -β * y = -(α * x + β * y) := fun x y => by rw [Int.neg_mul, Int.neg_mul]; omega
  obtain ⟨a, b, hab, hp⟩ := pat_2 (u := fun j => α * X j + β * Y j < α * nxt X n j + β * nxt Y n j) (n := n.toNat) (fun k k' a1 a2 a3 a4 d1 u1 d2 u2 => by
      rw [(pv k a1 (by omega)).1, (pv k a1 (by omega)).2] at d1
      rw [(pv k' a3 (by omega)).1, (pv k' a3 (by omega)).2] at d2
      have m1 := HS_loc (α := -α) (β := -β) h hn a1 (by omega) (by rw [ng, ng]; omega) (by rw [ng, ng]; omega) (j := k') (by omega)
      have m2 := HS_loc (α := -α) (β := -β) h hn a3 (by omega) (by rw [ng, ng]; omega) (by rw [ng, ng]; omega) (j := k) (by omega)
      rw [ng, ng] at m1 m2
      exact HS_di h (by omega) (by omega) (hinj k k' (by omega) (by omega) (by omega))) (fun k k' a1 a2 a3 a4 d1 u1 d2 u2 => by
      rw [(pv k a1 (by omega)).1, (pv k a1 (by omega)).2] at d1
      rw [(pv k' a3 (by omega)).1, (pv k' a3 (by omega)).2] at d2
      have m1 := HS_loc (α := α) (β := β) h hn a1 (by omega) (by omega) (by omega) (j := k') (by omega)
      have m2 := HS_loc (α := α) (β := β) h hn a3 (by omega) (by omega) (by omega) (j := k) (by omega)
      exact HS_di h (by omega) (by omega) (hinj k k' (by omega) (by omega) (by omega)))
  refine ⟨a, b, hab, ?_⟩
  rcases hp with ⟨q1, q2, q3⟩ | ⟨q1, q2, q3⟩
  · exact Or.inl ⟨fun j w => Int.not_lt.mp (q1 j w), q2, fun j w1 w2 => Int.not_lt.mp (q3 j w1 w2)⟩
  · exact Or.inr ⟨q1, fun j w1 w2 => Int.not_lt.mp (q2 j w1 w2), q3⟩
/-- the sum of a coordinate's parts stays within its bounds -/
theorem box_2 {X : Nat → Int} {n : Int} {t ph sg : Nat → Int} {a b i : Nat} {lo hi : Int} (hn : 0 < n) (hV : ∀ j : Nat, (j : Int) < n → nxt X n j - X j = sg j * ph j) (ht : ∀ j : Nat, (j : Int) < n → 0 ≤ t j ∧ t j ≤ sg j) (hs : sm (fun j => t j * ph j) n.toNat = 0) (hab : a ≤ b ∧ b ≤ n.toNat) (hp : ((∀ j : Nat, j < a → ph j ≤ 0) ∧ (∀ j : Nat, a ≤ j → j < b → 0 ≤ ph j) ∧ ∀ j : Nat, b ≤ j → j < n.toNat → ph j ≤ 0) ∨ ((∀ j : Nat, j < a → 0 ≤ ph j) ∧ (∀ j : Nat, a ≤ j → j < b → ph j ≤ 0) ∧ ∀ j : Nat, b ≤ j → j < n.toNat → 0 ≤ ph j)) (hb : ∀ j : Nat, (j : Int) < n → lo ≤ X j ∧ X j ≤ hi) (hi9 : i ≤ n.toNat) : lo ≤ X 0 + sm (fun j => t j * ph j) i ∧ X 0 + sm (fun j => t j * ph j) i ≤ hi := by
  have v : ∀ j : Nat, (j : Int) < n → (if (j : Int) < n then X j else X 0) = X j := fun j h => if_pos h
  have q := box_1 (V := fun j => if (j : Int) < n then X j else X 0) (t := t) (ph := ph) (sg := sg) (n := n.toNat) (a := a) (b := b) (i := i) (lo := lo) (hi := hi) (fun j hj => by
      have w := hV j (by omega)
      unfold nxt at w
      show (if ((j + 1 : Nat) : Int) < n then X (j + 1) else X 0) - (if (j : Int) < n then X j else X 0) = sg j * ph j
      rw [if_pos (show (j : Int) < n by omega), show ((j + 1 : Nat) : Int) = (j : Int) + 1 by omega]
      exact w) (fun j hj => ht j (by omega)) (by
      show (if ((n.toNat : Nat) : Int) < n then X n.toNat else X 0) = (if ((0 : Nat) : Int) < n then X 0 else X 0)
      rw [if_neg (by omega), if_pos (by omega)]) hs hab hp (fun j hj => by
      show lo ≤ (if (j : Int) < n then X j else X 0) ∧ (if (j : Int) < n then X j else X 0) ≤ hi
      by_cases e : (j : Int) < n
      · rw [if_pos e]; exact hb j e
      · rw [if_neg e]; exact hb 0 (by omega)) hi9
  have q2 : lo ≤ (if ((0 : Nat) : Int) < n then X 0 else X 0) + sm (fun j => t j * ph j) i ∧ (if ((0 : Nat) : Int) < n then X 0 else X 0) + sm (fun j => t j * ph j) i ≤ hi := q
  rw [if_pos (by omega)] at q2
  exact q2
theorem sg_le {s p : Int} (hs : 0 < s) (h : s * p ≤ 0) : p ≤ 0 := by
  apply Int.not_lt.mp
  intro w
  have := Int.mul_pos hs w
  omega
theorem sg_ge {s p : Int} (hs : 0 < s) (h : 0 ≤ s * p) : 0 ≤ p := by
  apply Int.not_lt.mp
  intro w
  have := nmul2 hs w
  omega
/-- who is under way and comes home stays in the frame -/
theorem home {S : Int → Int → Prop} {n : Int} {X Y : Nat → Int} {dx dy : Nat → Int} {s : Nat → Nat} (h : HS S n X Y) (hn : 2 ≤ n) (hb : bd 40 X Y n) (hd : ∀ j : Nat, (j : Int) < n → 0 < s j ∧ nxt X n j - X j = (s j : Int) * dx j ∧ nxt Y n j - Y j = (s j : Int) * dy j) {i : Nat} (hi : i ≤ n.toNat) {x y : Int} (hr : rc9 dx dy s i x y) (hc : co9 dx dy s n.toNat i x y) {lx hx ly hy : Int} (hf : ∀ j : Nat, (j : Int) < n → (lx ≤ X j ∧ X j ≤ hx) ∧ ly ≤ Y j ∧ Y j ≤ hy) : (lx ≤ X 0 + x ∧ X 0 + x ≤ hx) ∧ ly ≤ Y 0 + y ∧ Y 0 + y ≤ hy := by
  obtain ⟨t1, r1, r2, r3⟩ := hr
  obtain ⟨t2, c1, c2, c3⟩ := hc
  have ht : ∀ j : Nat, (j : Int) < n → 0 ≤ (if j < i then t1 j else t2 j) ∧ (if j < i then t1 j else t2 j) ≤ (s j : Int) := fun j hj => by
    by_cases e : j < i
    · rw [if_pos e]; exact r1 j e
    · rw [if_neg e]; exact c1 j (by omega) (by omega)
  have s1 : ∀ d : Nat → Int, sm (fun j => (if j < i then t1 j else t2 j) * d j) i = sm (fun j => t1 j * d j) i := fun d => sm_c (fun j hj => by rw [if_pos hj])
  have s2 : ∀ d : Nat → Int, sm (fun j => (if j < i then t1 j else t2 j) * d j) n.toNat - sm (fun j => (if j < i then t1 j else t2 j) * d j) i = sm (fun j => t2 j * d j) n.toNat - sm (fun j => t2 j * d j) i := fun d => sm_rng _ hi (fun j h1 h2 => by rw [if_neg (by omega)])
  have bb : ∀ j : Nat, (j : Int) < n → (-80 ≤ nxt X n j - X j ∧ nxt X n j - X j ≤ 80) ∧ -80 ≤ nxt Y n j - Y j ∧ nxt Y n j - Y j ≤ 80 := fun j hj => by
    obtain ⟨b, b1, b2, b3⟩ := nxt_c (X := X) (Y := Y) hj
    have k1 := hb j hj
    have k2 := hb b b1
    rw [b2, b3]; omega
  have up : ∀ j : Nat, (j : Int) < n → ∀ p q : Int, 0 < (s j : Int) → True := fun _ _ _ _ _ => trivial
  constructor
  · obtain ⟨a, b, hab, hp⟩ := HS_pat (α := 200) (β := 1) h hn (fun a b ha hb9 e => by have k1 := hb a ha; have k2 := hb b hb9; omega)
    have dn : ∀ j : Nat, (j : Int) < n → 200 * nxt X n j + 1 * nxt Y n j ≤ 200 * X j + 1 * Y j → dx j ≤ 0 := fun j hj w => by
      have k := bb j hj
      obtain ⟨d0, d1, d2⟩ := hd j hj
      exact sg_le (s := (s j : Int)) (by omega) (by omega)
    have un : ∀ j : Nat, (j : Int) < n → 200 * X j + 1 * Y j < 200 * nxt X n j + 1 * nxt Y n j → 0 ≤ dx j := fun j hj w => by
      have k := bb j hj
      obtain ⟨d0, d1, d2⟩ := hd j hj
      exact sg_ge (s := (s j : Int)) (by omega) (by omega)
    have q := box_2 (X := X) (t := fun j => if j < i then t1 j else t2 j) (ph := dx) (sg := fun j => (s j : Int)) (i := i) (lo := lx) (hi := hx) (by omega) (fun j hj => (hd j hj).2.1) ht (by have k1 := s1 dx; have k2 := s2 dx; show sm (fun j => (if j < i then t1 j else t2 j) * dx j) n.toNat = 0; omega) hab (by
        rcases hp with ⟨q1, q2, q3⟩ | ⟨q1, q2, q3⟩
        · exact Or.inl ⟨fun j w => dn j (by omega) (q1 j w), fun j w1 w2 => un j (by omega) (q2 j w1 w2), fun j w1 w2 => dn j (by omega) (q3 j w1 w2)⟩
        · exact Or.inr ⟨fun j w => un j (by omega) (q1 j w), fun j w1 w2 => dn j (by omega) (q2 j w1 w2), fun j w1 w2 => un j (by omega) (q3 j w1 w2)⟩) (fun j hj => (hf j hj).1) hi
    have k1 := s1 dx
    rw [r2, ← k1]
    exact q
  · obtain ⟨a, b, hab, hp⟩ := HS_pat (α := 1) (β := 200) h hn (fun a b ha hb9 e => by have k1 := hb a ha; have k2 := hb b hb9; omega)
    have dn : ∀ j : Nat, (j : Int) < n → 1 * nxt X n j + 200 * nxt Y n j ≤ 1 * X j + 200 * Y j → dy j ≤ 0 := fun j hj w => by
      have k := bb j hj
      obtain ⟨d0, d1, d2⟩ := hd j hj
      exact sg_le (s := (s j : Int)) (by omega) (by omega)
    have un : ∀ j : Nat, (j : Int) < n → 1 * X j + 200 * Y j < 1 * nxt X n j + 200 * nxt Y n j → 0 ≤ dy j := fun j hj w => by
      have k := bb j hj
      obtain ⟨d0, d1, d2⟩ := hd j hj
      exact sg_ge (s := (s j : Int)) (by omega) (by omega)
    have q := box_2 (X := Y) (t := fun j => if j < i then t1 j else t2 j) (ph := dy) (sg := fun j => (s j : Int)) (i := i) (lo := ly) (hi := hy) (by omega) (fun j hj => (hd j hj).2.2) ht (by have k1 := s1 dy; have k2 := s2 dy; show sm (fun j => (if j < i then t1 j else t2 j) * dy j) n.toNat = 0; omega) hab (by
        rcases hp with ⟨q1, q2, q3⟩ | ⟨q1, q2, q3⟩
        · exact Or.inl ⟨fun j w => dn j (by omega) (q1 j w), fun j w1 w2 => un j (by omega) (q2 j w1 w2), fun j w1 w2 => dn j (by omega) (q3 j w1 w2)⟩
        · exact Or.inr ⟨fun j w => un j (by omega) (q1 j w), fun j w1 w2 => dn j (by omega) (q2 j w1 w2), fun j w1 w2 => un j (by omega) (q3 j w1 w2)⟩) (fun j hj => (hf j hj).2) hi
    have k1 := s1 dy
    rw [r3, ← k1]
    exact q
