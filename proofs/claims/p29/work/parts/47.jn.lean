
/-! ===== what each call keeps ===== -/
def kCo (u u' : CS) : Prop := (u'.1.2.2.1 10 = u.1.2.2.1 10 ∧ u'.1.1 10 = u.1.1 10 ∧ u'.1.2.1 10 = u.1.2.1 10) ∧ u'.2.2.1 6 = u.2.2.1 6 ∧ u'.2.2.2 25 = u.2.2.2 25 ∧ u'.2.2.2 26 = u.2.2.2 26
def kCu (u u' : CS) : Prop := (u'.1.2.2.1 9 = u.1.2.2.1 9 ∧ u'.1.1 9 = u.1.1 9 ∧ u'.1.2.1 9 = u.1.2.1 9) ∧ (u'.2.1 2 = u.2.1 2 ∧ u'.2.1 3 = u.2.1 3 ∧ u'.2.1 4 = u.2.1 4 ∧ u'.2.1 7 = u.2.1 7 ∧ u'.2.1 8 = u.2.1 8) ∧ (u'.2.2.1 2 = u.2.2.1 2 ∧ u'.2.2.1 3 = u.2.2.1 3 ∧ u'.2.2.1 4 = u.2.2.1 4 ∧ u'.2.2.1 5 = u.2.2.1 5) ∧ (u'.2.2.2 20 = u.2.2.2 20 ∧ u'.2.2.2 21 = u.2.2.2 21 ∧ u'.2.2.2 22 = u.2.2.2 22 ∧ u'.2.2.2 23 = u.2.2.2 23 ∧ u'.2.2.2 24 = u.2.2.2 24)
theorem kCo_r {u : CS} : kCo u u := ⟨⟨rfl, rfl, rfl⟩, rfl, rfl, rfl⟩
theorem kCu_r {u : CS} : kCu u u := ⟨⟨rfl, rfl, rfl⟩, ⟨rfl, rfl, rfl, rfl, rfl⟩, ⟨rfl, rfl, rfl, rfl⟩, rfl, rfl, rfl, rfl, rfl⟩
def kSam (u u' : CS) : Prop := hSam u u' ∧ sSam u u' ∧ kCo u u' ∧ kCu u u'
def kMut (u u' : CS) (t : Nat) (z : Int) : Prop := cHr u u' t z ∧ sRel u u' t z ∧ kCo u u' ∧ kCu u u'
theorem kMut_n {u : CS} {t : Nat} {z : Int} (hz : z < 0) : kMut u u t z := ⟨cHr_n hs_refl hz, sRel_n ss_refl hz, kCo_r, kCu_r⟩
theorem inC_s {u s : CS} {r : Nat} (e : s.1.2.2.1 r = u.1.2.2.1 r ∧ s.1.1 r = u.1.1 r ∧ s.1.2.1 r = u.1.2.1 r) (x y : Int) : inC s r x y ↔ inC u r x y := by
  obtain ⟨a, b, c⟩ := inC_e e.1 e.2.1 e.2.2
  unfold inC
  rw [e.1, c 0]
  constructor
  · rintro ⟨p1, p2, ⟨q, q0, q1, q2⟩, p4, p5⟩
    exact ⟨p1, p2, ⟨q, q0, q1, by rw [← c]; exact q2⟩, (a _ _ _).mp p4, (b _ _ _).mp p5⟩
  · rintro ⟨p1, p2, ⟨q, q0, q1, q2⟩, p4, p5⟩
    exact ⟨p1, p2, ⟨q, q0, q1, by rw [c]; exact q2⟩, (a _ _ _).mpr p4, (b _ _ _).mpr p5⟩
theorem FT_s {u s : CS} {r : Nat} {M : Int} (e : s.1.2.2.1 r = u.1.2.2.1 r ∧ s.1.1 r = u.1.1 r ∧ s.1.2.1 r = u.1.2.1 r) (h : FT9 s r M) : FT9 u r M := by
  obtain ⟨m, X, Y, h1, h2⟩ := h
  exact ⟨m, X, Y, OL_c h1 (inC_s e), h2⟩
theorem LC_c {P Q : Int → Int → Prop} {t X Y : Nat → Int} {n m : Int} {S : Nat → Int64} (h : LC9 P t n X Y m S) (e : ∀ x y : Int, P x y ↔ Q x y) : LC9 Q t n X Y m S := ⟨h.1, OL_c h.2.1 e, h.2.2⟩
/-- the pieces that the class holds are those of shape r -/
def LCu (u : CS) (r : Nat) : Prop := LC9 (inC u r) (u.1.2.2.2.1 r) (u.1.2.2.1 10) (u.1.1 10) (u.1.2.1 10) (u.2.2.2 25) (u.2.2.1 6)
theorem LCu_s {u s : CS} {r : Nat} (e : s.1.2.2.1 r = u.1.2.2.1 r ∧ s.1.1 r = u.1.1 r ∧ s.1.2.1 r = u.1.2.1 r) (eh : s.1.2.2.2.1 r = u.1.2.2.2.1 r) (k : kCo u s) (h : LCu u r) : LCu s r := by
  unfold LCu at *
  rw [eh, k.1.1, k.1.2.1, k.1.2.2, k.2.1, k.2.2.1]
  exact LC_c h (fun x y => (inC_s e x y).symm)
/-- what holds of heights, stamps and what is held, after k calls -/
def FI (u : CS) (k : Int) : Prop := STP9 u k ∧ (∀ r : Nat, r < 8 → u.1.2.2.2.2 r = 0 → u.1.2.2.1 r < 3) ∧ u.2.2.2 26 ≤ u.2.2.2 0 ∧ ∀ r : Nat, r < 8 → u.1.2.2.2.2 r = u.2.2.2 26 → 3 ≤ u.1.2.2.1 r → FT9 u r 40 → LCu u r
theorem FI_w {u : CS} {k k' : Int} (h : FI u k) (hk : k ≤ k') : FI u k' := ⟨STP9_s h.1 hk ss_refl, h.2⟩
theorem FI_s {u u' : CS} {k k' : Int} (h : FI u k) (hk : k ≤ k') (hc : cSame u u') (hh : hSam u u') (hs : sSam u u') (ko : kCo u u') : FI u' k' := by
  obtain ⟨h1, h2, h3, h4⟩ := h
  refine ⟨STP9_s h1 hk hs, fun r hr e => ?_, by rw [ko.2.2.2, hs.1]; exact h3, fun r hr e1 e2 e3 => ?_⟩
  · rw [hs.2 r hr] at e; rw [(hc r hr).1]; exact h2 r hr e
  · rw [hs.2 r hr, ko.2.2.2] at e1
    rw [(hc r hr).1] at e2
    exact LCu_s (hc r hr) (hh r hr) ko (h4 r hr e1 e2 (FT_s (hc r hr) e3))
theorem FI_n {u u' : CS} {k k' : Int} {t : Nat} (h : FI u k) (hk : k + 1 ≤ k') (hs : sNew u u' t) (ho : ∀ r : Nat, r < 8 → r ≠ t → u'.1.2.2.1 r = u.1.2.2.1 r ∧ u'.1.1 r = u.1.1 r ∧ u'.1.2.1 r = u.1.2.1 r) (hh : ∀ r : Nat, r < 8 → r ≠ t → u'.1.2.2.2.1 r = u.1.2.2.2.1 r) (ko : kCo u u') : FI u' k' := by
  obtain ⟨h1, h2, h3, h4⟩ := h
  have b0 := h1.1
  refine ⟨STP9_n h1 hk hs, fun r hr e => ?_, by rw [ko.2.2.2, hs.1]; omega, fun r hr e1 e2 e3 => ?_⟩
  · by_cases w : r = t
    · rw [w, hs.2.1] at e; omega
    · rw [hs.2.2 r hr w] at e; rw [(ho r hr w).1]; exact h2 r hr e
  · by_cases w : r = t
    · rw [w, hs.2.1, ko.2.2.2] at e1; omega
    · rw [hs.2.2 r hr w, ko.2.2.2] at e1
      rw [(ho r hr w).1] at e2
      exact LCu_s (ho r hr w) (hh r hr w) ko (h4 r hr e1 e2 (FT_s (ho r hr w) e3))
theorem FI_m {u u' : CS} {k k' : Int} {t : Nat} {z : Int} (h : FI u k) (hk : k + 1 ≤ k') (hk2 : k < 2147483647) (ho : (z < 0 → cSame u u') ∧ (0 ≤ z → ∀ r : Nat, r < 8 → r ≠ t → u'.1.2.2.1 r = u.1.2.2.1 r ∧ u'.1.1 r = u.1.1 r ∧ u'.1.2.1 r = u.1.2.1 r)) (hm : kMut u u' t z) : FI u' k' := by
  obtain ⟨m1, m2, ko, _⟩ := hm
  obtain ⟨s1, s2⟩ := m2 (by have := h.1.1; omega)
  by_cases g : z < 0
  · exact FI_s h (by omega) (ho.1 g) (m1.1 g) (s1 g) ko
  · have g2 : 0 ≤ z := by omega
    exact FI_n h hk (s2 g2) (ho.2 g2) (m1.2 g2).2 ko
/-- the class' pieces were made for shape i, or they were held -/
def bR9 (u u' : CS) (i : Nat) : Prop := (u.2.2.2 26 = u.1.2.2.2.2 i ∧ kCo u u') ∨ (u'.2.2.2 26 = u.1.2.2.2.2 i ∧ (FT9 u i 40 → LC9 (inC u i) (u.1.2.2.2.1 i) (u'.1.2.2.1 10) (u'.1.1 10) (u'.1.2.1 10) (u'.2.2.2 25) (u'.2.2.1 6)))
theorem FI_b {u u' : CS} {k k' : Int} {i : Nat} (hi : i < 8) (h : FI u k) (hk : k ≤ k') (hc : cSame u u') (hh : hSam u u') (hs : sSam u u') (hb : bR9 u u' i) : FI u' k' := by
  rcases hb with ⟨b1, b2⟩ | ⟨b1, b2⟩
  · exact FI_s h hk hc hh hs b2
  · obtain ⟨h1, h2, h3, h4⟩ := h
    refine ⟨STP9_s h1 hk hs, fun r hr e => ?_, by rw [b1, hs.1]; exact (h1.2.1 i hi).2, fun r hr e1 e2 e3 => ?_⟩
    · rw [hs.2 r hr] at e; rw [(hc r hr).1]; exact h2 r hr e
    · rw [hs.2 r hr, b1] at e1
      by_cases w : r = i
      · subst w
        have l := b2 (FT_s (hc r hr) e3)
        unfold LCu
        rw [hh r hr]
        exact LC_c l (fun x y => (inC_s (hc r hr) x y).symm)
      · have z0 := h1.2.2 r i hr hi w e1
        have q := h2 r hr z0
        rw [(hc r hr).1] at e2
        omega
theorem bR_LC {u u' : CS} {k : Int} {i : Nat} (hi : i < 8) (h3 : 3 ≤ u.1.2.2.1 i) (h : FI u k) (hb : bR9 u u' i) (hF : FT9 u i 40) : LC9 (inC u i) (u.1.2.2.2.1 i) (u'.1.2.2.1 10) (u'.1.1 10) (u'.1.2.1 10) (u'.2.2.2 25) (u'.2.2.1 6) := by
  rcases hb with ⟨b1, b2⟩ | ⟨b1, b2⟩
  · have l := h.2.2.2 i hi b1.symm h3 hF
    unfold LCu at l
    rw [b2.1.1, b2.1.2.1, b2.1.2.2, b2.2.1, b2.2.2.1]
    exact l
  · exact b2 hF
/-! which shapes a call leaves as they are -/
def cOt (u u' : CS) (t : Nat) (z : Int) : Prop := (z < 0 → cSame u u') ∧ (0 ≤ z → ∀ r : Nat, r < 8 → r ≠ t → u'.1.2.2.1 r = u.1.2.2.1 r ∧ u'.1.1 r = u.1.1 r ∧ u'.1.2.1 r = u.1.2.1 r)
theorem cOt_s {u u' : CS} {t : Nat} {z : Int} (hz : z < 0) (h : cSame u u') : cOt u u' t z := ⟨fun _ => h, fun q => by omega⟩
theorem HS_n9 {S : Int → Int → Prop} {n : Int} {X Y : Nat → Int} (h : HS S n X Y) : 0 ≤ n := by
  rcases h with h | h
  · have := h.1; omega
  · have := h.1; omega
theorem cOt_k {u u' : CS} {t : Nat} {z : Int} {S : Int → Int → Prop} (h : mkC u u' t z S) : cOt u u' t z := by
  obtain ⟨n, X, Y, h0, ⟨h1, _, h2⟩ | ⟨h1, _, h2⟩⟩ := h
  · have n0 := HS_n9 h0
    exact ⟨fun q => by omega, fun _ => h2.2⟩
  · exact cOt_s (by omega) h2
theorem cOt_cl {u u' : CS} {s z : Int} (hC : CI u) (h : clC u u' s z) : cOt u u' s.toNat z := by
  rcases h with ⟨_, h1, h2⟩ | ⟨h0, h1, h2⟩
  · exact cOt_s (by omega) h2
  · have n0 := (CI_n hC h0).1
    exact ⟨fun q => by omega, fun _ => h2.2⟩
theorem cOt_ad {u u' : CS} {s x y z : Int} (h : adC u u' s x y z) : cOt u u' s.toNat z := by
  rcases h with ⟨_, h1, h2⟩ | ⟨_, _, h2⟩
  · exact cOt_s (by omega) h2
  · exact cOt_k h2
theorem cOt_sm {u u' : CS} {s s2 t z : Int} (h : smC u u' s s2 t z) : cOt u u' t.toNat z := by
  rcases h with ⟨_, h1, h2⟩ | ⟨_, _, _, h2⟩
  · exact cOt_s (by omega) h2
  · exact cOt_k h2
theorem cOt_mp {u u' : CS} {s t a b c d e f z : Int} (h : mpC u u' s t a b c d e f z) : cOt u u' t.toNat z := by
  rcases h with ⟨_, h1, h2⟩ | ⟨_, _, _, ⟨_, h1, h2⟩ | ⟨_, ⟨h1, h2, _⟩ | h2⟩⟩
  · exact cOt_s (by omega) h2
  · exact cOt_s (by omega) h2
  · exact cOt_s (by omega) h2
  · exact cOt_k h2
theorem cOt_dl {u u' : CS} {s t z : Int} (h : dlC u u' s t z) : cOt u u' t.toNat z := by
  rcases h with ⟨_, h1, h2⟩ | ⟨_, _, ⟨_, h1, h2⟩ | ⟨_, h2⟩⟩
  · exact cOt_s (by omega) h2
  · exact cOt_s (by omega) h2
  · exact cOt_k h2
/-- a height is changed -/
def kHt (u u' : CS) (s i v : Int) : Prop := (u.2.2.2 0 < 2147483647 → (¬ htP (u.1.2.2.1 s.toNat) (rE u s.toNat + rI u s.toNat) s i v → sSam u u') ∧ (htP (u.1.2.2.1 s.toNat) (rE u s.toNat + rI u s.toNat) s i v → sNew u u' s.toNat)) ∧ kCo u u' ∧ kCu u u'
theorem FI_ht {u u' : CS} {k k' s i v z : Int} (h : FI u k) (hk : k + 1 ≤ k') (hk2 : k < 2147483647) (hc : cSame u u') (hh : htC u u' s i v z) (hm : kHt u u' s i v) : FI u' k' := by
  obtain ⟨m1, ko, _⟩ := hm
  obtain ⟨s1, s2⟩ := m1 (by have := h.1.1; omega)
  rcases hh with ⟨a1, _, a2⟩ | ⟨a1, _, a2⟩
  · exact FI_s h (by omega) hc a2 (s1 a1) ko
  · exact FI_n h hk (s2 a1) (fun r hr _ => hc r hr) (fun r hr hne => by rw [a2 r hr, if_neg hne]) ko
