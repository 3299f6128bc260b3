
/-! ===== pieces, as the class finds them ===== -/
theorem rx_10 {u : CS} {i : Int} (h : 0 ≤ i ∧ i < 40) : rx u 10 i = u.1.1 10 i.toNat := if_pos (by rw [show (rl 10 : Int) = 40 from rfl]; exact h)
theorem ry_10 {u : CS} {i : Int} (h : 0 ≤ i ∧ i < 40) : ry9 u 10 i = u.1.2.1 10 i.toNat := if_pos (by rw [show (rl 10 : Int) = 40 from rfl]; exact h)
/-- the lowest point left of an edge, of the first k -/
def LO9 (X Y t : Nat → Int) (a b : Nat) (k lo : Int) : Prop := (lo = -1 ∧ ∀ p : Nat, (p : Int) < k → ¬ 0 < tn X Y a b p) ∨ (0 ≤ lo ∧ LL9 X Y t k.toNat a b lo.toNat)
theorem LO_n {X Y t : Nat → Int} {a b : Nat} {k lo : Int} (hk : 0 ≤ k) (h : LO9 X Y t a b k lo) (g : ¬ 0 < tn X Y a b k.toNat) : LO9 X Y t a b (k + 1) lo := by
  rcases h with ⟨h1, h2⟩ | ⟨h1, h2, h3, h4⟩
  · refine Or.inl ⟨h1, fun p hp => ?_⟩
    by_cases e : (p : Int) = k
    · rw [show p = k.toNat by omega]; exact g
    · exact h2 p (by omega)
  · refine Or.inr ⟨h1, by omega, h3, fun p hp q => ?_⟩
    by_cases e : p = k.toNat
    · rw [e] at q; exact absurd q g
    · exact h4 p (by omega) q
theorem LO_k {X Y t : Nat → Int} {a b : Nat} {k lo : Int} (hk : 0 ≤ k) (h : LO9 X Y t a b k lo) (h0 : 0 ≤ lo) (g : 0 ≤ ab9 X Y t a b lo.toNat k.toNat) : LO9 X Y t a b (k + 1) lo := by
  rcases h with ⟨h1, h2⟩ | ⟨h1, h2, h3, h4⟩
  · omega
  · refine Or.inr ⟨h1, by omega, h3, fun p hp q => ?_⟩
    by_cases e : p = k.toNat
    · rw [e]; exact g
    · exact h4 p (by omega) q
theorem ab_3 {X Y t : Nat → Int} {a b l m q : Nat} : tn X Y a b m * ab9 X Y t a b l q = tn X Y a b l * ab9 X Y t a b m q + tn X Y a b q * ab9 X Y t a b l m := by
  unfold ab9 tn
  grind
theorem LO_w {X Y t : Nat → Int} {a b : Nat} {k lo : Int} (hk : 0 ≤ k) (h : LO9 X Y t a b k lo) (g : 0 < tn X Y a b k.toNat) (g2 : lo < 0 ∨ ab9 X Y t a b lo.toNat k.toNat < 0) : LO9 X Y t a b (k + 1) k := by
  refine Or.inr ⟨hk, by omega, g, fun p hp q => ?_⟩
  by_cases e : p = k.toNat
  · rw [e, ab_k]; omega
  · rcases h with ⟨h1, h2⟩ | ⟨h1, h2, h3, h4⟩
    · exact absurd q (h2 p (by omega))
    · have w := h4 p (by omega) q
      have n : ab9 X Y t a b lo.toNat k.toNat < 0 := by omega
      have e3 := @ab_3 X Y t a b lo.toNat k.toNat p
      have m1 := Int.mul_nonneg (show 0 ≤ tn X Y a b k.toNat by omega) w
      have m2 := Int.mul_nonneg (show 0 ≤ tn X Y a b p by omega) (show 0 ≤ - ab9 X Y t a b lo.toNat k.toNat by omega)
      rw [Int.mul_neg] at m2
      exact le_m h3 (by rw [Int.sub_zero, Int.mul_comm]; omega)
/-- one bit more -/
theorem PRp {F : Nat → Int} {m : Int} {x : Int64} (hm : 0 ≤ m) (h : x = PR9 (fun q => decide (F q = 0)) m.toNat) : (F m.toNat = 0 → x ||| ((1 : Int64) <<< ((J (62 - m)).toInt64 &&& 63)) = PR9 (fun q => decide (F q = 0)) (m + 1).toNat) ∧ (F m.toNat ≠ 0 → x = PR9 (fun q => decide (F q = 0)) (m + 1).toNat) := by
  have e : ((m.toNat : Nat) : Int) = m := Int.toNat_of_nonneg hm
  rw [show (m + 1).toNat = m.toNat + 1 by omega]
  constructor
  · intro hz
    show _ = PR9 _ m.toNat ||| (if decide (F m.toNat = 0) = true then (1 : Int64) <<< ((J (62 - ((m.toNat : Nat) : Int))).toInt64 &&& 63) else 0)
    rw [e, ← h, if_pos (decide_eq_true hz)]
  · intro hz
    show _ = PR9 _ m.toNat ||| (if decide (F m.toNat = 0) = true then (1 : Int64) <<< ((J (62 - ((m.toNat : Nat) : Int))).toInt64 &&& 63) else 0)
    rw [← h, if_neg (fun q => hz (of_decide_eq_true q)), Int64.or_zero]
theorem PR_nz {f : Nat → Bool} {n a : Nat} (hn : n ≤ 62) (ha : a < n) (hf : f a = true) : PR9 f n ≠ 0 := by
  rw [gb_nz]
  refine ⟨62 - a, by omega, ?_⟩
  rw [gb_PR n hn, show 62 - (62 - a) = a by omega, hf, decide_eq_true (show 62 - a ≤ 62 ∧ a < n from ⟨by omega, ha⟩)]
  rfl
theorem CO_i {X Y t : Nat → Int} {n : Nat} {x y : Int64} (hn : n ≤ 62) (hx : gE9 PR9 X Y t n x) (hy : gE9 PR9 X Y t n y) : y < x ↔ lE9 PR9 n x y := by
  have f1 : ∀ a b : Int64, lE9 PR9 n a b → b < a := fun a b ⟨f, g, h1, h2, h3⟩ => by rw [h2, h3]; exact PR_lt hn h1
  constructor
  · intro h
    by_cases e : x = y
    · rw [e] at h; exact absurd h (Int64.lt_irrefl)
    · rcases lE_or (PR_en hn) hx hy e with w | w
      · exact w
      · exact absurd (Int64.lt_trans h (f1 _ _ w)) Int64.lt_irrefl
  · exact f1 x y
theorem PL_ch {enc : (Nat → Bool) → Nat → Int64} {X Y t : Nat → Int} {n : Nat} {m : Int} {Bb : Nat → Int64} (h : PL9 enc X Y t n m Bb) : ∃ F : Nat → Nat → Bool, ∀ q : Nat, (q : Int) < m → gs9 X Y t n (F q) ∧ Bb q = enc (F q) n := by
  have ch : ∀ q : Nat, ∃ f : Nat → Bool, (q : Int) < m → gs9 X Y t n f ∧ Bb q = enc f n := fun q => by
    by_cases e : (q : Int) < m
    · obtain ⟨f, f1, f2⟩ := h.2.1 q e
      exact ⟨f, fun _ => ⟨f1, f2⟩⟩
    · exact ⟨fun _ => false, fun w => absurd w e⟩
  exact ⟨fun q => Classical.choose (ch q), fun q => Classical.choose_spec (ch q)⟩
theorem h9_0 {t : Nat → Int} : h9 t 0 = t := by
  funext p
  show t (40 * 0 + (p : Int)).toNat = t p
  congr 1
  omega
/-- no more than 80 pieces -/
theorem CL_80 {X Y t : Nat → Int} {n m : Int} {S : Nat → Int64} {x : Int64} (hn : n ≤ 40) (hs : os_s X Y n) (h : PL9 PR9 X Y t n.toNat m S) (hx : gE9 PR9 X Y t n.toNat x) (hne : ∀ q : Nat, (q : Int) < m → S q ≠ x) : m + 1 ≤ 80 := by
  obtain ⟨F, hF⟩ := PL_ch h
  obtain ⟨f, f1, f2⟩ := hx
  have h0 := h.1
  have key : pz X Y t 0 n (fun q => if (q : Int) = m then PB f n.toNat else PB (F q) n.toNat) (m + 1) := by
    refine ⟨by omega, fun q hq => ?_, fun q r hqr hr e => ?_⟩
    · show gd X Y t 0 n (if (q : Int) = m then PB f n.toNat else PB (F q) n.toNat)
      by_cases w : (q : Int) = m
      · rw [if_pos w]; exact gs_pt (by rw [h9_0]; exact f1)
      · rw [if_neg w]; exact gs_pt (by rw [h9_0]; exact (hF q (by omega)).1)
    · have hq : ¬ (q : Int) = m := by omega
      have e2 : PB (F q) n.toNat = (if (r : Int) = m then PB f n.toNat else PB (F r) n.toNat) := by
        have e1 : (if (q : Int) = m then PB f n.toNat else PB (F q) n.toNat) = (if (r : Int) = m then PB f n.toNat else PB (F r) n.toNat) := e
        rw [if_neg hq] at e1; exact e1
      by_cases w : (r : Int) = m
      · rw [if_pos w] at e2
        refine hne q (by omega) ?_
        rw [(hF q (by omega)).2, f2]
        exact PR_c ((PB_en (by omega)).1 _ _ e2)
      · rw [if_neg w] at e2
        have e3 : S q = S r := by
          rw [(hF q (by omega)).2, (hF r (by omega)).2]
          exact PR_c ((PB_en (by omega)).1 _ _ e2)
        have l := h.2.2 q r hqr (by omega)
        rw [e3] at l
        exact lE_i (PR_en (by omega)) l
  exact pz_80 hn hs key
/-- edges that were looked at -/
def ED9 (X Y t : Nat → Int) (n m : Int) (S : Nat → Int64) (P : Nat → Nat → Prop) : Prop := ∀ a b : Nat, a < b → (b : Int) < n → P a b → (∀ p : Nat, (p : Int) < n → ¬ 0 < tn X Y a b p) ∨ ∃ k : Nat, LL9 X Y t n.toNat a b k ∧ ((∃ p : Nat, (p : Int) < n ∧ ab9 X Y t a b k p < 0) ∨ ∃ q : Nat, (q : Int) < m ∧ S q = PR9 (fun p => decide (ab9 X Y t a b k p = 0)) n.toNat)
def BL9 (X Y t : Nat → Int) (n m : Int) (S : Nat → Int64) (P : Nat → Nat → Prop) : Prop := PL9 PR9 X Y t n.toNat m S ∧ ED9 X Y t n m S P
theorem BL_c {X Y t : Nat → Int} {n m : Int} {S : Nat → Int64} {P Q : Nat → Nat → Prop} (h : BL9 X Y t n m S P) (e : ∀ a b : Nat, a < b → (b : Int) < n → Q a b → P a b) : BL9 X Y t n m S Q := ⟨h.1, fun a b hab hb q => h.2 a b hab hb (e a b hab hb q)⟩
def EN_9 (s s' : Nat → Int64) (m m' : Int) (x : Int64) : Prop := ((x = 0 ∨ 80 ≤ m ∨ ∃ q : Nat, (q : Int) < m ∧ s q = x) ∧ s' = s ∧ m' = m) ∨ ((x ≠ 0 ∧ m < 80 ∧ ∀ q : Nat, (q : Int) < m → s q ≠ x) ∧ m' = m + 1 ∧ ∃ (a : Int) (w : Nat → Int64), (0 ≤ a ∧ a ≤ m) ∧ sh_ s w m a ∧ (∀ q : Nat, a ≤ q → (q : Int) < m → s q < x) ∧ (a = 0 ∨ ¬ w (a - 1).toNat < x) ∧ s' = vp_updL w a.toNat x)
theorem BL_s {X Y t : Nat → Int} {n m m' z : Int} {S S' : Nat → Int64} {P : Nat → Nat → Prop} {a b : Nat} {x : Int64} (hn : n ≤ 40) (hs : os_s X Y n) (h : BL9 X Y t n m S P) (hab : a < b) (hb : (b : Int) < n) (hk : LO9 X Y t a b n z) (hp : (z < 0 → x = 0) ∧ (0 ≤ z → (x = 0 ∧ ∃ p : Nat, (p : Int) < n ∧ ab9 X Y t a b z.toNat p < 0) ∨ ((∀ p : Nat, (p : Int) < n → 0 ≤ ab9 X Y t a b z.toNat p) ∧ x = PR9 (fun p => decide (ab9 X Y t a b z.toNat p = 0)) n.toNat))) (he : EN_9 S S' m m' x) : BL9 X Y t n m' S' (fun a' b' => P a' b' ∨ (a' = a ∧ b' = b)) := by
  have up : ∀ (m2 : Int) (S2 : Nat → Int64), (∀ q : Nat, (q : Int) < m → ∃ q' : Nat, (q' : Int) < m2 ∧ S2 q' = S q) → ((∀ p : Nat, (p : Int) < n → ¬ 0 < tn X Y a b p) ∨ ∃ k : Nat, LL9 X Y t n.toNat a b k ∧ ((∃ p : Nat, (p : Int) < n ∧ ab9 X Y t a b k p < 0) ∨ ∃ q : Nat, (q : Int) < m2 ∧ S2 q = PR9 (fun p => decide (ab9 X Y t a b k p = 0)) n.toNat)) → ED9 X Y t n m2 S2 (fun a' b' => P a' b' ∨ (a' = a ∧ b' = b)) := by
    intro m2 S2 u1 u2 a' b' hab' hb' q
    rcases q with q | ⟨q1, q2⟩
    · rcases h.2 a' b' hab' hb' q with w | ⟨k, k1, w | ⟨r, r1, r2⟩⟩
      · exact Or.inl w
      · exact Or.inr ⟨k, k1, Or.inl w⟩
      · obtain ⟨r', r3, r4⟩ := u1 r r1
        exact Or.inr ⟨k, k1, Or.inr ⟨r', r3, r4.trans r2⟩⟩
    · rw [q1, q2]; exact u2
  have same : ∀ q : Nat, (q : Int) < m → ∃ q' : Nat, (q' : Int) < m ∧ S q' = S q := fun q hq => ⟨q, hq, rfl⟩
  by_cases x0 : x = 0
  · have hS : S' = S ∧ m' = m := by
      rcases he with ⟨_, e1, e2⟩ | ⟨⟨e1, _⟩, _⟩
      · exact ⟨e1, e2⟩
      · exact absurd x0 e1
    rw [hS.1, hS.2]
    refine ⟨h.1, up m S same ?_⟩
    rcases hk with ⟨_, k2⟩ | ⟨k1, k2⟩
    · exact Or.inl k2
    · rcases hp.2 k1 with ⟨_, w⟩ | ⟨_, w⟩
      · exact Or.inr ⟨z.toNat, k2, Or.inl w⟩
      · exact absurd x0 (by rw [w]; exact PR_nz (a := a) (by omega) (by omega) (by rw [ab_i]; rfl))
  · rcases hk with ⟨k1, k2⟩ | ⟨k1, k2⟩
    · exact absurd (hp.1 (by omega)) x0
    · rcases hp.2 k1 with ⟨w, _⟩ | ⟨w1, w2⟩
      · exact absurd w x0
      · have gx : gE9 PR9 X Y t n.toNat x := ⟨fun p => decide (ab9 X Y t a b z.toNat p = 0), ⟨a, b, z.toNat, by omega, by omega, k2.1, k2.2.1, fun p hp => w1 p (by omega), fun _ _ => rfl⟩, w2⟩
        rcases he with ⟨e0, e1, e2⟩ | ⟨⟨e0, e1, e2⟩, e3, at9, w, e4, e5, e6, e7, e8⟩
        · rw [e1, e2]
          have kn : ∃ q : Nat, (q : Int) < m ∧ S q = x := by
            rcases e0 with e0 | e0 | e0
            · exact absurd e0 x0
            · apply Classical.byContradiction
              intro v
              have := CL_80 hn hs h.1 gx (fun q hq e => v ⟨q, hq, e⟩)
              omega
            · exact e0
          obtain ⟨q, q1, q2⟩ := kn
          exact ⟨h.1, up m S same (Or.inr ⟨z.toNat, k2, Or.inr ⟨q, q1, q2.trans w2⟩⟩)⟩
        · have I := PL_in (PR_en (by omega)) h.1 e5 e4.1 e4.2 gx e2 (fun q h1 h2 => (CO_i (by omega) gx (h.1.2.1 q h2)).mp (e6 q h1 h2)) (by
            by_cases a0 : at9 = 0
            · exact Or.inl a0
            · refine Or.inr (fun v => ?_)
              have v2 := (CO_i (by omega) gx (by rw [e5.1 (at9 - 1).toNat (by omega)]; exact h.1.2.1 (at9 - 1).toNat (by omega))).mpr v
              rcases e7 with e7 | e7
              · exact a0 e7
              · exact e7 v2)
          rw [e3, e8]
          obtain ⟨q, q1, q2⟩ := I.2.2
          exact ⟨I.1, up (m + 1) _ I.2.1 (Or.inr ⟨z.toNat, k2, Or.inr ⟨q, q1, q2.trans w2⟩⟩)⟩
/-- what the class holds of a shape's pieces -/
def LC9 (P : Int → Int → Prop) (t : Nat → Int) (n : Int) (X Y : Nat → Int) (m : Int) (S : Nat → Int64) : Prop := (0 ≤ n ∧ n ≤ 40) ∧ OL P n X Y ∧ PL9 PR9 X Y t n.toNat m S ∧ ∀ f : Nat → Bool, gs9 X Y t n.toNat f → ∃ q : Nat, (q : Int) < m ∧ S q = PR9 f n.toNat
theorem BL_f {P : Int → Int → Prop} {X Y t : Nat → Int} {n m : Int} {S : Nat → Int64} {Q : Nat → Nat → Prop} (hn : 0 ≤ n ∧ n ≤ 40) (hO : OL P n X Y) (h : BL9 X Y t n m S Q) (hQ : ∀ a b : Nat, a < b → (b : Int) < n → Q a b) : LC9 P t n X Y m S := by
  refine ⟨hn, hO, h.1, fun f hf => ?_⟩
  obtain ⟨a, b, b1, b2, ⟨c, c1, c2⟩, hall⟩ := ed_2 (by rw [Int.toNat_of_nonneg hn.1]; exact hO.2.1) hf
  rcases h.2 a b b1 (by omega) (hQ a b b1 (by omega)) with w | ⟨k, k1, w⟩
  · exact absurd c2 (w c (by omega))
  · obtain ⟨p1, p2⟩ := hall k k1
    rcases w with ⟨p, q1, q2⟩ | ⟨q, q1, q2⟩
    · have := p1 p (by omega); omega
    · exact ⟨q, q1, q2.trans (PR_c (fun p hp => (p2 p hp).symm))⟩
theorem LC_LS {P : Int → Int → Prop} {t X Y : Nat → Int} {n m : Int} {S : Nat → Int64} (h : LC9 P t n X Y m S) : ∃ F : Nat → Nat → Bool, LS9 P t n X Y m F ∧ ∀ q : Nat, (q : Int) < m → S q = PR9 (F q) n.toNat := by
  obtain ⟨F, F1, F2⟩ := PL_F (PR_en (by have := h.1; omega)) h.2.2.1 h.2.2.2
  exact ⟨F, ⟨h.1, h.2.1, F1⟩, F2⟩
