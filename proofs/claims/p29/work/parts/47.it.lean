
/-- all points of P in order -/
def OL (P : Int → Int → Prop) (n : Int) (X Y : Nat → Int) : Prop := 0 ≤ n ∧ os_s X Y n ∧ ∀ x y : Int, SWW X Y n x y ↔ P x y
theorem lt2_n {a b : Int} : ¬ lt2 a b a b := by unfold lt2; omega
theorem lt2_tr {a b c d e f : Int} (h : lt2 a b c d) (k : lt2 c d e f) : lt2 a b e f := by unfold lt2 at *; omega
theorem os_l2 {X Y : Nat → Int} {n : Int} (h : os_s X Y n) {a b : Nat} (hab : a < b) (hb : (b : Int) < n) : lt2 (X a) (Y a) (X b) (Y b) := by
  have q := os_lt h (b - a - 1) a (by omega)
  rw [show a + (b - a - 1) + 1 = b by omega] at q
  exact q
theorem OL_in {P : Int → Int → Prop} {n : Int} {X Y : Nat → Int} (h : OL P n X Y) {a : Nat} (ha : (a : Int) < n) : P (X a) (Y a) := (h.2.2 _ _).mp ⟨a, ha, rfl, rfl⟩
theorem OL_e {P : Int → Int → Prop} {n n' : Int} {X Y X' Y' : Nat → Int} (h : OL P n X Y) (h' : OL P n' X' Y') : ∀ a : Nat, (a : Int) < n → (a : Int) < n' → X a = X' a ∧ Y a = Y' a := by
  intro a
  induction a using Nat.strongRecOn with
  | _ a ih =>
    intro h1 h2
    obtain ⟨c, c1, c2, c3⟩ := (h'.2.2 _ _).mpr (OL_in h h1)
    obtain ⟨d, d1, d2, d3⟩ := (h.2.2 _ _).mpr (OL_in h' h2)
    have hc : a ≤ c := by
      apply Nat.not_lt.mp
      intro w
      obtain ⟨e1, e2⟩ := ih c w (by omega) c1
      have q := os_l2 h.2.1 w h1
      rw [e1, e2, ← c2, ← c3] at q
      exact lt2_n q
    have hd : a ≤ d := by
      apply Nat.not_lt.mp
      intro w
      obtain ⟨e1, e2⟩ := ih d w d1 (by omega)
      have q := os_l2 h'.2.1 w h2
      rw [← e1, ← e2, ← d2, ← d3] at q
      exact lt2_n q
    by_cases e : a = c
    · rw [← e] at c2 c3; exact ⟨c2, c3⟩
    · by_cases e' : a = d
      · rw [← e'] at d2 d3; exact ⟨d2.symm, d3.symm⟩
      · have q := os_l2 h'.2.1 (show a < c by omega) c1
        have q' := os_l2 h.2.1 (show a < d by omega) d1
        rw [← c2, ← c3] at q
        rw [← d2, ← d3] at q'
        exact absurd (lt2_tr q q') lt2_n
theorem OL_n {P : Int → Int → Prop} {n n' : Int} {X Y X' Y' : Nat → Int} (h : OL P n X Y) (h' : OL P n' X' Y') : n ≤ n' := by
  apply Int.not_lt.mp
  intro w
  have h0 := h'.1
  obtain ⟨c, c1, c2, c3⟩ := (h'.2.2 _ _).mpr (OL_in h (a := n'.toNat) (by omega))
  obtain ⟨e1, e2⟩ := OL_e h h' c (by omega) c1
  have q := os_l2 h.2.1 (show c < n'.toNat by omega) (by omega)
  rw [e1, e2, ← c2, ← c3] at q
  exact lt2_n q
theorem OL_u {P : Int → Int → Prop} {n n' : Int} {X Y X' Y' : Nat → Int} (h : OL P n X Y) (h' : OL P n' X' Y') : n = n' ∧ ∀ a : Nat, (a : Int) < n → X a = X' a ∧ Y a = Y' a := by
  have h1 := OL_n h h'
  have h2 := OL_n h' h
  exact ⟨by omega, fun a ha => OL_e h h' a ha (by omega)⟩
theorem OL_c {P Q : Int → Int → Prop} {n : Int} {X Y : Nat → Int} (h : OL P n X Y) (e : ∀ x y : Int, P x y ↔ Q x y) : OL Q n X Y := ⟨h.1, h.2.1, fun x y => (h.2.2 x y).trans (e x y)⟩
theorem OL_0 {P : Int → Int → Prop} (h : ∀ x y : Int, ¬ P x y) {X Y : Nat → Int} : OL P 0 X Y := ⟨by omega, fun a ha => by omega, fun x y => ⟨fun q => absurd q (SWW_0 (by omega)), fun q => absurd q (h x y)⟩⟩
/-- a point behind all others -/
theorem OL_p {P Q : Int → Int → Prop} {n p q : Int} {X Y : Nat → Int} (h : OL P n X Y) (hl : ∀ x y : Int, P x y → lt2 x y p q) (e : ∀ x y : Int, Q x y ↔ P x y ∨ (x = p ∧ y = q)) : OL Q (n + 1) (upI X n.toNat p) (upI Y n.toNat q) := by
  have h0 := h.1
  refine ⟨by omega, fun a ha => ?_, fun x y => ?_⟩
  · by_cases w : (a : Int) + 1 = n
    · rw [show a + 1 = n.toNat by omega, upI_s, upI_s, upI_n (by omega), upI_n (by omega)]
      exact hl _ _ (OL_in h (by omega))
    · rw [upI_n (by omega), upI_n (by omega), upI_n (by omega), upI_n (by omega)]
      exact h.2.1 a (by omega)
  · rw [SWW_put h0, h.2.2, e]
/-- the points of a column join -/
theorem OL_col {P : Int → Int → Prop} {m x lo hi : Int} {X Y : Nat → Int} (h : OL (fun a b => P a b ∧ a < x) m X Y) (hP : ∀ y : Int, P x y ↔ lo ≤ y ∧ y ≤ hi) : ∀ k : Nat, lo + k ≤ hi + 1 ∨ k = 0 → ∃ X' Y' : Nat → Int, OL (fun a b => P a b ∧ (a < x ∨ (a = x ∧ b < lo + k))) (m + k) X' Y' := by
  intro k
  induction k with
  | zero =>
    intro _
    refine ⟨X, Y, ?_⟩
    rw [show m + ((0 : Nat) : Int) = m by omega]
    refine OL_c h (fun a b => ⟨fun q => ⟨q.1, Or.inl q.2⟩, fun q => ⟨q.1, ?_⟩⟩)
    rcases q.2 with w | ⟨w, w2⟩
    · exact w
    · have q1 := q.1
      rw [w, hP] at q1
      omega
  | succ k ih =>
    intro hk
    obtain ⟨X', Y', h'⟩ := ih (by omega)
    refine ⟨upI X' (m + k).toNat x, upI Y' (m + k).toNat (lo + k), ?_⟩
    rw [show m + ((k + 1 : Nat) : Int) = m + k + 1 by omega]
    refine OL_p (p := x) (q := lo + k) h' (fun a b q => ?_) (fun a b => ?_)
    · unfold lt2; rcases q.2 with w | w
      · exact Or.inl w
      · exact Or.inr w
    · constructor
      · rintro ⟨q1, q2⟩
        by_cases w : a = x ∧ b = lo + k
        · exact Or.inr w
        · exact Or.inl ⟨q1, by omega⟩
      · rintro (⟨q1, q2⟩ | ⟨q1, q2⟩)
        · exact ⟨q1, by omega⟩
        · rw [q1, q2]
          exact ⟨(hP _).mpr (by omega), by omega⟩
/-- the place of a point among all -/
theorem OL_at {P : Int → Int → Prop} {n i x y : Int} {X Y X' Y' : Nat → Int} (h : OL P n X Y) (hP : P x y) (h' : OL (fun a b => P a b ∧ lt2 a b x y) i X' Y') : 0 ≤ i ∧ i < n ∧ X i.toNat = x ∧ Y i.toNat = y := by
  obtain ⟨c, c1, c2, c3⟩ := (h.2.2 _ _).mpr hP
  have k : OL (fun a b => P a b ∧ lt2 a b x y) c X Y := by
    refine ⟨by omega, fun a ha => h.2.1 a (by omega), fun p q => ⟨fun ⟨a, a1, a2, a3⟩ => ?_, fun ⟨q1, q2⟩ => ?_⟩⟩
    · rw [a2, a3, c2, c3]
      exact ⟨OL_in h (by omega), os_l2 h.2.1 (by omega) c1⟩
    · obtain ⟨a, a1, a2, a3⟩ := (h.2.2 _ _).mpr q1
      refine ⟨a, ?_, a2, a3⟩
      apply Int.not_le.mp
      intro w
      rw [a2, a3, c2, c3] at q2
      by_cases e : a = c
      · rw [e] at q2; exact lt2_n q2
      · exact lt2_n (lt2_tr q2 (os_l2 h.2.1 (show c < a by omega) a1))
  obtain ⟨e, _⟩ := OL_u h' k
  exact ⟨by omega, by omega, by rw [show i.toNat = c by omega]; exact c2.symm, by rw [show i.toNat = c by omega]; exact c3.symm⟩
/-! the reference -/
theorem wR_u {v : MS} {s x y z z' : Int} (h : wR v s x y z) (h' : wR v s x y z') : z = z' := by
  rcases h with ⟨a, h⟩ | ⟨a, h⟩ <;> rcases h' with ⟨b, h'⟩ | ⟨b, h'⟩
  · rcases h with ⟨h1, h2⟩ | ⟨h1, h2⟩ <;> rcases h' with ⟨k1, k2⟩ | ⟨k1, k2⟩
    · omega
    · exact absurd h2 k2
    · exact absurd k2 h2
    · omega
  · omega
  · omega
  · rcases h with ⟨h1, h2⟩ | ⟨h1, h2, h3⟩ | ⟨h1, h2, h3⟩ <;> rcases h' with ⟨k1, k2⟩ | ⟨k1, k2, k3⟩ | ⟨k1, k2, k3⟩
    · omega
    · exact absurd h2 k2
    · exact absurd h2 k2
    · exact absurd k2 h2
    · omega
    · exact absurd h3 k3
    · exact absurd k2 h2
    · exact absurd k3 h3
    · omega
def PBx (u : MS) (s x y : Int) : Prop := (∃ z : Int, 0 < z ∧ wR u s x y z) ∧ ((∃ a : Int, 0 ≤ a ∧ a < mN u s ∧ mX u s a ≤ x) ∧ ∃ a : Int, 0 ≤ a ∧ a < mN u s ∧ x ≤ mX u s a) ∧ (∃ a : Int, 0 ≤ a ∧ a < mN u s ∧ mY u s a ≤ y) ∧ ∃ a : Int, 0 ≤ a ∧ a < mN u s ∧ y ≤ mY u s a
def fy_in (u : MS) (s i ly hy : Int) : Prop := (i = 0 → ly = 1000 ∧ hy = -1000) ∧ (∀ k : Int, 0 ≤ k → k < i → ly ≤ mY u s k ∧ mY u s k ≤ hy) ∧ (0 < i → (∃ k : Int, 0 ≤ k ∧ k < i ∧ mY u s k = ly) ∧ ∃ k : Int, 0 ≤ k ∧ k < i ∧ mY u s k = hy)
theorem fy_s {u : MS} {s i ly hy c d : Int} (hb : -40 ≤ mY u s i ∧ mY u s i ≤ 40) (hi : 0 ≤ i) (h : fy_in u s i ly hy) (hc : (c = ly ∨ c = mY u s i) ∧ c ≤ ly ∧ c ≤ mY u s i) (hd : (d = hy ∨ d = mY u s i) ∧ hy ≤ d ∧ mY u s i ≤ d) : fy_in u s (i + 1) c d := by
  obtain ⟨h1, h2, h3⟩ := h
  refine ⟨fun w => by omega, fun k k1 k2 => ?_, fun _ => ⟨?_, ?_⟩⟩
  · by_cases e : k = i
    · subst e; clear h1 h2 h3; omega
    · have := h2 k k1 (by omega); clear h1 h2 h3; omega
  · rcases hc.1 with e | e
    · by_cases hp : 0 < i
      · obtain ⟨⟨k, k1, k2, k3⟩, _⟩ := h3 hp; exact ⟨k, k1, by omega, by omega⟩
      · have := h1 (by omega); omega
    · exact ⟨i, hi, by omega, e.symm⟩
  · rcases hd.1 with e | e
    · by_cases hp : 0 < i
      · obtain ⟨_, ⟨k, k1, k2, k3⟩⟩ := h3 hp; exact ⟨k, k1, by omega, by omega⟩
      · have := h1 (by omega); omega
    · exact ⟨i, hi, by omega, e.symm⟩
/-- the frame of the reference, and what it holds -/
theorem PBx_b {u : MS} {s lx hx ly hy x y : Int} (h1 : fa_in u s (mN u s) lx hx ly hy) (h2 : fy_in u s (mN u s) ly hy) (h : PBx u s x y) : (lx ≤ x ∧ x ≤ hx) ∧ ly ≤ y ∧ y ≤ hy := by
  obtain ⟨_, ⟨⟨a, a0, a1, a2⟩, ⟨b, b0, b1, b2⟩⟩, ⟨c, c0, c1, c2⟩, ⟨d, d0, d1, d2⟩⟩ := h
  have w1 := h1.2.1 a a0 a1
  have w2 := h1.2.1 b b0 b1
  have w3 := h2.2.1 c c0 c1
  have w4 := h2.2.1 d d0 d1
  clear h1 h2
  omega
theorem PBx_i {u : MS} {s lx hx ly hy x y z : Int} (h1 : fa_in u s (mN u s) lx hx ly hy) (h2 : fy_in u s (mN u s) ly hy) (hn : 0 < mN u s) (hx0 : lx ≤ x ∧ x ≤ hx) (hy0 : ly ≤ y ∧ y ≤ hy) (hz : 0 < z) (hw : wR u s x y z) : PBx u s x y := by
  obtain ⟨⟨a, a0, a1, a2⟩, ⟨b, b0, b1, b2⟩⟩ := h1.2.2 hn
  obtain ⟨⟨c, c0, c1, c2⟩, ⟨d, d0, d1, d2⟩⟩ := h2.2.2 hn
  exact ⟨⟨z, hz, hw⟩, ⟨⟨a, a0, a1, by omega⟩, ⟨b, b0, b1, by omega⟩⟩, ⟨c, c0, c1, by omega⟩, ⟨d, d0, d1, by omega⟩⟩
theorem PBx_n {u : MS} {s x y z : Int} (hz : z ≤ 0) (hw : wR u s x y z) : ¬ PBx u s x y := fun ⟨⟨z', h1, h2⟩, _⟩ => by
  have := wR_u hw h2
  omega
/-- one more place is looked at -/
theorem fp_y {P : Int → Int → Prop} {n px py : Int} {X Y : Nat → Int} (h0 : 0 ≤ n) (h : ∀ x y : Int, SWW X Y n x y ↔ P x y ∧ (x < px ∨ (x = px ∧ y < py))) (hp : P px py) (x y : Int) : SWW (upI X n.toNat px) (upI Y n.toNat py) (n + 1) x y ↔ P x y ∧ (x < px ∨ (x = px ∧ y < py + 1)) := by
  rw [SWW_put h0, h]
  constructor
  · rintro (⟨q1, q2⟩ | ⟨q1, q2⟩)
    · exact ⟨q1, by omega⟩
    · rw [q1, q2]; exact ⟨hp, by omega⟩
  · rintro ⟨q1, q2⟩
    by_cases w : x = px ∧ y = py
    · exact Or.inr w
    · exact Or.inl ⟨q1, by omega⟩
theorem fp_n {P : Int → Int → Prop} {n px py : Int} {X Y : Nat → Int} (h : ∀ x y : Int, SWW X Y n x y ↔ P x y ∧ (x < px ∨ (x = px ∧ y < py))) (hp : ¬ P px py) (x y : Int) : SWW X Y n x y ↔ P x y ∧ (x < px ∨ (x = px ∧ y < py + 1)) := by
  rw [h]
  constructor
  · rintro ⟨q1, q2⟩; exact ⟨q1, by omega⟩
  · rintro ⟨q1, q2⟩
    by_cases w : x = px ∧ y = py
    · rw [w.1, w.2] at q1; exact absurd q1 hp
    · exact ⟨q1, by omega⟩
def ptP (s i w : Int) : Prop := (0 ≤ s ∧ s ≤ 7) ∧ 0 ≤ i ∧ 0 ≤ w ∧ w ≤ 1
def ptM (u : MS) (s i w z : Int) : Prop := (¬ ptP s i w ∧ z = -1000000) ∨ (ptP s i w ∧ ∃ (n : Int) (X Y : Nat → Int), OL (PBx u s) n X Y ∧ ((n ≤ i ∧ z = -1000000) ∨ (i < n ∧ ((w = 0 ∧ z = X i.toNat) ∨ (w = 1 ∧ z = Y i.toNat)))))
/-! the class -/
def crd (u : CS) (r : Nat) (i w z : Int) : Prop := (∃ (m : Int) (X Y : Nat → Int), OL (inC u r) m X Y ∧ m ≤ i ∧ z = -1000000) ∨ ∃ (x y : Int) (X Y : Nat → Int), inC u r x y ∧ OL (fun a b => inC u r a b ∧ lt2 a b x y) i X Y ∧ ((w = 0 ∧ z = x) ∨ (w ≠ 0 ∧ z = y))
def ptC (u : CS) (s i w z : Int) : Prop := (¬ ptP s i w ∧ z = -1000000) ∨ (ptP s i w ∧ crd u s.toNat i w z)
theorem crd_col {u : CS} {r : Nat} {x lo hi : Int} (hn : u.1.2.2.1 r ≠ 0) (h0 : rx u r 0 ≤ x) (h1 : ∃ a : Int, 0 ≤ a ∧ a < u.1.2.2.1 r ∧ x ≤ rx u r a) (hl : ∀ y : Int, lo ≤ y ↔ loC u r x y (u.1.2.2.1 r)) (hh : ∀ y : Int, y ≤ hi ↔ hiC u r x y (u.1.2.2.1 r)) (y : Int) : inC u r x y ↔ lo ≤ y ∧ y ≤ hi := by
  unfold inC
  rw [hl, hh]
  exact ⟨fun q => q.2.2.2, fun q => ⟨hn, h0, h1, q⟩⟩
/-! both -/
theorem EQS_pb {u : CS} {v : MS} (hC : CI u) (h : EQS u v) {s : Int} (hs : 0 ≤ s ∧ s ≤ 7) (x y : Int) : PBx v s x y ↔ inC u s.toNat x y := by
  have key : ∀ z : Int, wR v s x y z → (0 < z ↔ inC u s.toNat x y) := fun z hz => by
    by_cases a : inC u s.toNat x y
    · by_cases b : ∃ i : Int, 0 ≤ i ∧ i < u.1.2.2.1 s.toNat ∧ cvv u s.toNat i x y = 0
      · have e := EQ_st hC h hs (z := 1) (Or.inr (Or.inl ⟨rfl, a, b⟩)) hz
        exact ⟨fun _ => a, fun _ => by omega⟩
      · have e := EQ_st hC h hs (z := 2) (Or.inr (Or.inr ⟨rfl, a, fun i i0 i1 q => b ⟨i, i0, i1, q⟩⟩)) hz
        exact ⟨fun _ => a, fun _ => by omega⟩
    · have e := EQ_st hC h hs (z := 0) (Or.inl ⟨rfl, a⟩) hz
      exact ⟨fun q => by omega, fun q => absurd q a⟩
  constructor
  · rintro ⟨⟨z, z0, z1⟩, _⟩
    exact (key z z1).mp z0
  · intro q
    have qM := (EQS_in hC h hs).mp q
    obtain ⟨q1, q2, ⟨a, a1, a2⟩, ⟨⟨b, b1, b2⟩, ⟨c, c1, c2⟩⟩, _⟩ := qM
    have ex : ∃ z : Int, wR v s x y z := by
      by_cases g : mN v s < 2
      · by_cases e : mN v s = 1 ∧ mX v s 0 = x ∧ mY v s 0 = y
        · exact ⟨1, Or.inl ⟨g, Or.inl ⟨rfl, e⟩⟩⟩
        · exact ⟨0, Or.inl ⟨g, Or.inr ⟨rfl, e⟩⟩⟩
      · by_cases e : wOn v s x y (mN v s)
        · exact ⟨1, Or.inr ⟨by omega, Or.inl ⟨rfl, e⟩⟩⟩
        · by_cases f : wIn v s x y (mN v s) ∧ 2 < mN v s
          · exact ⟨2, Or.inr ⟨by omega, Or.inr (Or.inl ⟨rfl, e, f⟩)⟩⟩
          · exact ⟨0, Or.inr ⟨by omega, Or.inr (Or.inr ⟨rfl, e, f⟩)⟩⟩
    obtain ⟨z, hz⟩ := ex
    have n0 : 0 ≤ mN v s := by have := (CI_n hC hs).1; have := (EQS_x hC h hs).1; omega
    exact ⟨⟨z, (key z hz).mpr q, hz⟩, ⟨⟨0, by omega, by omega, q2⟩, ⟨a, by omega, a1, a2⟩⟩, ⟨b, by omega, b1, b2⟩, ⟨c, by omega, c1, c2⟩⟩
theorem EQ_pt {u : CS} {v : MS} {s i w z z' : Int} (hC : CI u) (h : EQS u v) (hc : ptC u s i w z ∧ wRg z) (hm : ptM v s i w z') : z = z' ∧ wRg z := by
  refine ⟨?_, hc.2⟩
  rcases hc.1 with ⟨a1, a2⟩ | ⟨a1, a2⟩ <;> rcases hm with ⟨b1, b2⟩ | ⟨b1, n, X, Y, b2, b3⟩
  · omega
  · exact absurd b1 a1
  · exact absurd a1 b1
  · have hO := OL_c b2 (EQS_pb hC h a1.1)
    rcases a2 with ⟨m, X', Y', c1, c2, c3⟩ | ⟨x, y, X', Y', c1, c2, c3⟩
    · have e := (OL_u c1 hO).1
      omega
    · obtain ⟨k0, k1, k2, k3⟩ := OL_at hO c1 c2
      have := a1.2.2
      rw [k2, k3] at b3
      omega
