
/-! stamps -/
theorem J_in9 {a b : Int} (ha : -2147483648 ≤ a ∧ a ≤ 2147483647) (hb : -2147483648 ≤ b ∧ b ≤ 2147483647) (e : J a = J b) : a = b := by
  have q := congrArg Int32.toInt e
  rw [J_toInt ha, J_toInt hb] at q
  exact q
def sSam (u u' : CS) : Prop := u'.2.2.2 0 = u.2.2.2 0 ∧ ∀ r : Nat, r < 8 → u'.1.2.2.2.2 r = u.1.2.2.2.2 r
def sNew (u u' : CS) (t : Nat) : Prop := u'.2.2.2 0 = u.2.2.2 0 + 1 ∧ u'.1.2.2.2.2 t = u.2.2.2 0 + 1 ∧ ∀ r : Nat, r < 8 → r ≠ t → u'.1.2.2.2.2 r = u.1.2.2.2.2 r
def sRel (u u' : CS) (t : Nat) (z : Int) : Prop := u.2.2.2 0 < 2147483647 → (z < 0 → sSam u u') ∧ (0 ≤ z → sNew u u' t)
theorem ss_refl {u : CS} : sSam u u := ⟨rfl, fun _ _ => rfl⟩
theorem sRel_n {u u' : CS} {t : Nat} {z : Int} (h : sSam u u') (hz : z < 0) : sRel u u' t z := fun _ => ⟨fun _ => h, fun q => by omega⟩
theorem sRel_k {u u' : CS} {i : Nat} {z tt st0 : Int} (e0 : u'.2.2.2 0 = st0) (e : ∀ r : Nat, u'.1.2.2.2.2 r = if r = i then tt else u.1.2.2.2.2 r) (h : (z = -3 ∧ tt = u.1.2.2.2.2 i ∧ st0 = u.2.2.2 0) ∨ (0 ≤ z ∧ (u.2.2.2 0 < 2147483647 → tt = u.2.2.2 0 + 1 ∧ st0 = u.2.2.2 0 + 1))) : sRel u u' i z := fun q => by
  refine ⟨fun hz => ?_, fun hz => ?_⟩
  · rcases h with ⟨_, h1, h2⟩ | ⟨h, _⟩
    · refine ⟨by rw [e0, h2], fun r _ => ?_⟩
      rw [e, h1]
      by_cases w : r = i
      · rw [if_pos w, w]
      · rw [if_neg w]
    · omega
  · rcases h with ⟨h, _⟩ | ⟨_, h⟩
    · omega
    · obtain ⟨h1, h2⟩ := h q
      exact ⟨by rw [e0, h2], by rw [e, if_pos rfl, h1], fun r _ hne => by rw [e, if_neg hne]⟩
/-- stamps tell shapes apart: no more than k of them were given -/
def STP9 (u : CS) (k : Int) : Prop := (0 ≤ u.2.2.2 0 ∧ u.2.2.2 0 ≤ k) ∧ (∀ r : Nat, r < 8 → 0 ≤ u.1.2.2.2.2 r ∧ u.1.2.2.2.2 r ≤ u.2.2.2 0) ∧ ∀ r r' : Nat, r < 8 → r' < 8 → r ≠ r' → u.1.2.2.2.2 r = u.1.2.2.2.2 r' → u.1.2.2.2.2 r = 0
theorem STP9_s {u u' : CS} {k k' : Int} (h : STP9 u k) (hk : k ≤ k') (hs : sSam u u') : STP9 u' k' := by
  refine ⟨by rw [hs.1]; have := h.1; omega, fun r hr => by rw [hs.1, hs.2 r hr]; exact h.2.1 r hr, fun r r' hr hr' hne e => ?_⟩
  rw [hs.2 r hr] at e ⊢
  rw [hs.2 r' hr'] at e
  exact h.2.2 r r' hr hr' hne e
theorem STP9_n {u u' : CS} {k k' : Int} {t : Nat} (h : STP9 u k) (hk : k + 1 ≤ k') (hs : sNew u u' t) : STP9 u' k' := by
  obtain ⟨n0, n1, n2⟩ := hs
  obtain ⟨⟨a1, a2⟩, a3, a4⟩ := h
  refine ⟨by omega, fun r hr => ?_, fun r r' hr hr' hne e => ?_⟩
  · by_cases w : r = t
    · rw [w, n1, n0]; omega
    · have := a3 r hr; rw [n2 r hr w, n0]; omega
  · by_cases w : r = t
    · have q := a3 r' hr'
      rw [w, n1, n2 r' hr' (by omega)] at e
      omega
    · by_cases w' : r' = t
      · have q := a3 r hr
        rw [w', n1, n2 r hr w] at e
        omega
      · rw [n2 r hr w] at e ⊢
        rw [n2 r' hr' w'] at e
        exact a4 r r' hr hr' hne e
theorem STP9_r {u u' : CS} {k k' : Int} {t : Nat} {z : Int} (h : STP9 u k) (hk : k + 1 ≤ k') (hk2 : k < 2147483647) (hs : sRel u u' t z) : STP9 u' k' := by
  obtain ⟨h1, h2⟩ := hs (by have := h.1; omega)
  by_cases g : z < 0
  · exact STP9_s h (by omega) (h1 g)
  · exact STP9_n h hk (h2 (by omega))
