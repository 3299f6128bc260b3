
/-- no more than L points in all -/
def FT9 (u : CS) (r : Nat) (L : Int) : Prop := ∃ (m : Int) (X Y : Nat → Int), OL (inC u r) m X Y ∧ m ≤ L
theorem OL_sub {P Q : Int → Int → Prop} {n m : Int} {X Y X' Y' : Nat → Int} (h : OL P n X Y) (h' : OL Q m X' Y') (hs : ∀ x y : Int, P x y → Q x y) : n ≤ m := by
  have key : ∀ a : Nat, (a : Int) < n → ∃ c : Nat, (c : Int) < m ∧ a ≤ c ∧ X a = X' c ∧ Y a = Y' c := by
    intro a
    induction a with
    | zero =>
      intro ha
      obtain ⟨c, c1, c2, c3⟩ := (h'.2.2 _ _).mpr (hs _ _ (OL_in h ha))
      exact ⟨c, c1, Nat.zero_le _, c2, c3⟩
    | succ a ih =>
      intro ha
      obtain ⟨d, d1, d2, d3, d4⟩ := ih (by omega)
      obtain ⟨c, c1, c2, c3⟩ := (h'.2.2 _ _).mpr (hs _ _ (OL_in h ha))
      refine ⟨c, c1, ?_, c2, c3⟩
      have q := os_l2 h.2.1 (show a < a + 1 by omega) ha
      rw [d3, d4, c2, c3] at q
      apply Nat.not_lt.mp
      intro w
      by_cases e : c = d
      · rw [e] at q; exact lt2_n q
      · exact lt2_n (lt2_tr q (os_l2 h'.2.1 (show c < d by omega) d1))
  apply Int.not_lt.mp
  intro w
  have h0 := h.1
  have h0' := h'.1
  obtain ⟨c, c1, c2, _⟩ := key (n - 1).toNat (by omega)
  omega
theorem inC_e {u s : CS} {r : Nat} (e1 : s.1.2.2.1 r = u.1.2.2.1 r) (e2 : s.1.1 r = u.1.1 r) (e3 : s.1.2.1 r = u.1.2.1 r) : (∀ x y n : Int, loC s r x y n ↔ loC u r x y n) ∧ (∀ x y n : Int, hiC s r x y n ↔ hiC u r x y n) ∧ ∀ i : Int, rx s r i = rx u r i := by
  unfold loC hiC cvv dX dY ar rx ry9
  rw [e1, e2, e3]
  exact ⟨fun _ _ _ => Iff.rfl, fun _ _ _ => Iff.rfl, fun _ => rfl⟩
theorem st_ne {u : CS} {r k : Nat} {n : Int} {f g : Nat → Int} (h : r ≠ k) : (sY (sX (sC u k n) k f) k g).1.2.2.1 r = u.1.2.2.1 r ∧ (sY (sX (sC u k n) k f) k g).1.1 r = u.1.1 r ∧ (sY (sX (sC u k n) k f) k g).1.2.1 r = u.1.2.1 r := ⟨if_neg h, if_neg h, if_neg h⟩
/-- one more point of a column -/
theorem OL_f {u : CS} {r : Nat} {L n2 n3 x y lo hi : Int} {f2 g2 f3 g3 : Nat → Int} (h : FT9 u r L → OL (fun a b => inC u r a b ∧ (a < x ∨ (a = x ∧ b < y))) n2 f2 g2) (hc : ∀ b : Int, inC u r x b ↔ lo ≤ b ∧ b ≤ hi) (hy : lo ≤ y ∧ y ≤ hi) (ha : (n2 < L ∧ f3 = upI f2 n2.toNat x ∧ g3 = upI g2 n2.toNat y ∧ n3 = n2 + 1) ∨ (L ≤ n2 ∧ f3 = f2 ∧ g3 = g2 ∧ n3 = n2)) : FT9 u r L → OL (fun a b => inC u r a b ∧ (a < x ∨ (a = x ∧ b < y + 1))) n3 f3 g3 := fun F => by
  have q := h F
  have q2 := OL_p (Q := fun a b => inC u r a b ∧ (a < x ∨ (a = x ∧ b < y + 1))) (p := x) (q := y) q (fun a b w => w.2) (fun a b => by
    constructor
    · rintro ⟨w1, w2⟩
      by_cases e : a = x ∧ b = y
      · exact Or.inr e
      · exact Or.inl ⟨w1, by omega⟩
    · rintro (⟨w1, w2⟩ | ⟨w1, w2⟩)
      · exact ⟨w1, by omega⟩
      · rw [w1, w2]; exact ⟨(hc y).mpr hy, by omega⟩)
  obtain ⟨m, X', Y', F1, F2⟩ := F
  have l := OL_sub q2 F1 (fun a b w => w.1)
  rcases ha with ⟨_, a2, a3, a4⟩ | ⟨a1, _⟩
  · rw [a2, a3, a4]; exact q2
  · omega
