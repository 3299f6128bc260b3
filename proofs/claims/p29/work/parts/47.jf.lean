
/-! ===== pieces in order, as longs ===== -/
def EN9 (enc : (Nat → Bool) → Nat → Int64) (n : Nat) : Prop := (∀ f g : Nat → Bool, enc f n = enc g n → ∀ p : Nat, p < n → f p = g p) ∧ ∀ f g : Nat → Bool, (∀ p : Nat, p < n → f p = g p) → enc f n = enc g n
theorem PB_en {n : Nat} (hn : n ≤ 62) : EN9 PB n := ⟨fun _ _ h => PB_e hn h, fun _ _ h => PB_c h⟩
theorem PR_c {f g : Nat → Bool} {n : Nat} (h : ∀ k, k < n → f k = g k) : PR9 f n = PR9 g n := by
  induction n with
  | zero => rfl
  | succ n ih =>
    show PR9 f n ||| _ = PR9 g n ||| _
    rw [ih (fun k hk => h k (by omega)), h n (by omega)]
theorem PR_en {n : Nat} (hn : n ≤ 62) : EN9 PR9 n := ⟨fun _ _ h => PR_e hn h, fun _ _ h => PR_c h⟩
def gE9 (enc : (Nat → Bool) → Nat → Int64) (X Y t : Nat → Int) (n : Nat) (b : Int64) : Prop := ∃ f : Nat → Bool, gs9 X Y t n f ∧ b = enc f n
def lE9 (enc : (Nat → Bool) → Nat → Int64) (n : Nat) (x y : Int64) : Prop := ∃ f g : Nat → Bool, ahd n f g ∧ x = enc f n ∧ y = enc g n
theorem lE_t {enc : (Nat → Bool) → Nat → Int64} {n : Nat} {x y z : Int64} (H : EN9 enc n) (h : lE9 enc n x y) (k : lE9 enc n y z) : lE9 enc n x z := by
  obtain ⟨f, g, a1, a2, a3⟩ := h
  obtain ⟨f', g', b1, b2, b3⟩ := k
  have e := H.1 g f' (a3.symm.trans b2)
  exact ⟨f, g', ahd_t a1 (ahd_c (fun p hp => (e p hp).symm) (fun _ _ => rfl) b1), a2, b3⟩
theorem lE_i {enc : (Nat → Bool) → Nat → Int64} {n : Nat} {x : Int64} (H : EN9 enc n) (h : lE9 enc n x x) : False := by
  obtain ⟨f, g, a1, a2, a3⟩ := h
  have e := H.1 f g (a2.symm.trans a3)
  exact ahd_i (ahd_c (fun _ _ => rfl) (fun p hp => (e p hp).symm) a1)
theorem lE_or {enc : (Nat → Bool) → Nat → Int64} {X Y t : Nat → Int} {n : Nat} {x y : Int64} (H : EN9 enc n) (hx : gE9 enc X Y t n x) (hy : gE9 enc X Y t n y) (hne : x ≠ y) : lE9 enc n x y ∨ lE9 enc n y x := by
  obtain ⟨f, _, ef⟩ := hx
  obtain ⟨g, _, eg⟩ := hy
  have ex : ∃ p : Nat, p < n ∧ f p ≠ g p := Classical.byContradiction (fun w => hne (by
    rw [ef, eg]
    exact H.2 f g (fun p hp => Classical.byContradiction (fun q => w ⟨p, hp, q⟩))))
  rcases ahd_or ex with w | w
  · exact Or.inl ⟨f, g, w, ef, eg⟩
  · exact Or.inr ⟨g, f, w, eg, ef⟩
/-- pieces so far, in order -/
def PL9 (enc : (Nat → Bool) → Nat → Int64) (X Y t : Nat → Int) (n : Nat) (m : Int) (B : Nat → Int64) : Prop := 0 ≤ m ∧ (∀ q : Nat, (q : Int) < m → gE9 enc X Y t n (B q)) ∧ ∀ a b : Nat, a < b → (b : Int) < m → lE9 enc n (B a) (B b)
theorem PL_in {enc : (Nat → Bool) → Nat → Int64} {X Y t : Nat → Int} {n : Nat} {m a : Int} {Bb Bc : Nat → Int64} {b : Int64} (H : EN9 enc n) (hP : PL9 enc X Y t n m Bb) (hs : sh_ Bb Bc m a) (h0 : 0 ≤ a) (hm : a ≤ m) (hg : gE9 enc X Y t n b) (hne : ∀ q : Nat, (q : Int) < m → Bb q ≠ b) (hhi : ∀ q : Nat, a ≤ q → (q : Int) < m → lE9 enc n b (Bb q)) (hlo : a = 0 ∨ ¬ lE9 enc n b (Bc (a - 1).toNat)) : PL9 enc X Y t n (m + 1) (vp_updL Bc a.toNat b) ∧ (∀ q : Nat, (q : Int) < m → ∃ q' : Nat, (q' : Int) < m + 1 ∧ vp_updL Bc a.toNat b q' = Bb q) ∧ ∃ q' : Nat, (q' : Int) < m + 1 ∧ vp_updL Bc a.toNat b q' = b := by
  obtain ⟨z0, z1, z2⟩ := hP
  have f : ∀ q : Nat, (q : Int) < m + 1 → ((q : Int) < a ∧ vp_updL Bc a.toNat b q = Bb q) ∨ ((q : Int) = a ∧ vp_updL Bc a.toNat b q = b) ∨ (a < (q : Int) ∧ vp_updL Bc a.toNat b q = Bb (q - 1)) := by
    intro q hq
    by_cases e1 : (q : Int) < a
    · exact Or.inl ⟨e1, by rw [pk_uLn (by omega)]; exact hs.1 q e1⟩
    · by_cases e2 : (q : Int) = a
      · exact Or.inr (Or.inl ⟨e2, by rw [show q = a.toNat by omega, pk_uLs]⟩)
      · refine Or.inr (Or.inr ⟨by omega, ?_⟩)
        rw [pk_uLn (by omega)]
        have := hs.2 (q - 1) (by omega) (by omega)
        rw [show q - 1 + 1 = q by omega] at this
        exact this
  have lo : ∀ q : Nat, (q : Int) < a → lE9 enc n (Bb q) b := by
    intro q hq
    have last : lE9 enc n (Bb (a - 1).toNat) b := by
      rcases hlo with w | w
      · omega
      · rw [hs.1 (a - 1).toNat (by omega)] at w
        rcases lE_or H hg (z1 (a - 1).toNat (by omega)) (fun e => hne (a - 1).toNat (by omega) e.symm) with v | v
        · exact absurd v w
        · exact v
    by_cases e : (q : Int) = a - 1
    · rw [show (a - 1).toNat = q by omega] at last; exact last
    · exact lE_t H (z2 q (a - 1).toNat (by omega) (by omega)) last
  refine ⟨⟨by omega, fun q hq => ?_, fun q r hqr hr => ?_⟩, fun q hq => ?_, a.toNat, by omega, pk_uLs⟩
  · rcases f q hq with ⟨c, e⟩ | ⟨c, e⟩ | ⟨c, e⟩
    · rw [e]; exact z1 q (by omega)
    · rw [e]; exact hg
    · rw [e]; exact z1 (q - 1) (by omega)
  · rcases f q (by omega) with ⟨c, e⟩ | ⟨c, e⟩ | ⟨c, e⟩
    · rcases f r hr with ⟨c2, e2⟩ | ⟨c2, e2⟩ | ⟨c2, e2⟩
      · rw [e, e2]; exact z2 q r hqr (by omega)
      · rw [e, e2]; exact lo q c
      · rw [e, e2]; exact z2 q (r - 1) (by omega) (by omega)
    · rcases f r hr with ⟨c2, e2⟩ | ⟨c2, e2⟩ | ⟨c2, e2⟩
      · omega
      · omega
      · rw [e, e2]; exact hhi (r - 1) (by omega) (by omega)
    · rcases f r hr with ⟨c2, e2⟩ | ⟨c2, e2⟩ | ⟨c2, e2⟩
      · omega
      · omega
      · rw [e, e2]; exact z2 (q - 1) (r - 1) (by omega) (by omega)
  · by_cases w : (q : Int) < a
    · exact ⟨q, by omega, by rw [pk_uLn (by omega)]; exact hs.1 q w⟩
    · exact ⟨q + 1, by omega, by rw [pk_uLn (by omega)]; exact hs.2 q (by omega) hq⟩
/-- told by sets -/
theorem PL_F {enc : (Nat → Bool) → Nat → Int64} {X Y t : Nat → Int} {n : Nat} {m : Int} {Bb : Nat → Int64} (H : EN9 enc n) (h : PL9 enc X Y t n m Bb) (hc : ∀ f : Nat → Bool, gs9 X Y t n f → ∃ q : Nat, (q : Int) < m ∧ Bb q = enc f n) : ∃ F : Nat → Nat → Bool, SQ9 n (gs9 X Y t n) m F ∧ ∀ q : Nat, (q : Int) < m → Bb q = enc (F q) n := by
  obtain ⟨h0, h1, h2⟩ := h
  have ch : ∀ q : Nat, ∃ f : Nat → Bool, (q : Int) < m → gs9 X Y t n f ∧ Bb q = enc f n := fun q => by
    by_cases e : (q : Int) < m
    · obtain ⟨f, f1, f2⟩ := h1 q e
      exact ⟨f, fun _ => ⟨f1, f2⟩⟩
    · exact ⟨fun _ => false, fun w => absurd w e⟩
  have F1 := fun q => Classical.choose_spec (ch q)
  refine ⟨fun q => Classical.choose (ch q), ⟨h0, fun q hq => (F1 q hq).1, fun a b hab hb => ?_, fun f hf => ?_⟩, fun q hq => (F1 q hq).2⟩
  · obtain ⟨f, g, w1, w2, w3⟩ := h2 a b hab hb
    have e1 := H.1 _ _ (w2.symm.trans (F1 a (by omega)).2)
    have e2 := H.1 _ _ (w3.symm.trans (F1 b hb).2)
    exact ahd_c e1 e2 w1
  · obtain ⟨q, q1, q2⟩ := hc f hf
    exact ⟨q, q1, H.1 _ _ ((F1 q q1).2.symm.trans q2)⟩
/-! triples of points, as the reference takes them -/
def h9 (H : Nat → Int) (s : Int) (p : Nat) : Int := H (40 * s + p).toNat
theorem pA_ab {X Y H : Nat → Int} {s i j k : Int} (hi : 0 ≤ i) (hj : 0 ≤ j) (hk : 0 ≤ k) (p : Nat) : pA X Y H s i j k p = ab9 X Y (h9 H s) i.toNat j.toNat k.toNat p := by
  have e1 : hI H s i = h9 H s i.toNat := by unfold hI h9; rw [Int.toNat_of_nonneg hi]
  have e2 : hI H s j = h9 H s j.toNat := by unfold hI h9; rw [Int.toNat_of_nonneg hj]
  have e3 : hI H s k = h9 H s k.toNat := by unfold hI h9; rw [Int.toNat_of_nonneg hk]
  have e4 : hI H s p = h9 H s p := rfl
  have t1 : tnI X Y i p k = tn X Y i.toNat p k.toNat := rfl
  have t2 : tnI X Y i j p = tn X Y i.toNat j.toNat p := rfl
  have t3 : tnI X Y i j k = tn X Y i.toNat j.toNat k.toNat := rfl
  unfold pA ab9
  rw [e1, e2, e3, e4, t1, t2, t3, Int.mul_comm (h9 H s p - h9 H s i.toNat)]
  omega
theorem ab_kj {X Y t : Nat → Int} {i j k p : Nat} : ab9 X Y t i k j p = - ab9 X Y t i j k p := by
  unfold ab9
  rw [tn_sw (i := i) (j := p) (k := j), tn_sw (i := i) (j := k) (k := p), tn_sw (i := i) (j := j) (k := k)]
  grind
theorem pt_gs {X Y H : Nat → Int} {s n i j k : Int} {b : Int64} (h : pt X Y H s n b i j k) : gE9 PB X Y (h9 H s) n.toNat b := by
  obtain ⟨a1, a2, a3, a4, a5, a6, a7⟩ := h
  refine ⟨fun p => decide (pS X Y H s i j k p = 0), ?_, a7⟩
  have e := fun p : Nat => pA_ab (X := X) (Y := Y) (H := H) (s := s) a1 (show 0 ≤ j by omega) (show 0 ≤ k by omega) p
  have t3 : tnI X Y i j k = tn X Y i.toNat j.toNat k.toNat := rfl
  by_cases g : 0 < tnI X Y i j k
  · have e2 : ∀ p : Nat, pS X Y H s i j k p = ab9 X Y (h9 H s) i.toNat j.toNat k.toNat p := fun p => by unfold pS; rw [if_pos g, e]
    refine ⟨i.toNat, j.toNat, k.toNat, by omega, by omega, by omega, by omega, fun p hp => ?_, fun p hp => ?_⟩
    · rw [← e2]; exact a6 p (by omega) (by omega)
    · show decide (pS X Y H s i j k (p : Int) = 0) = _
      rw [e2]
  · have e2 : ∀ p : Nat, pS X Y H s i j k p = ab9 X Y (h9 H s) i.toNat k.toNat j.toNat p := fun p => by unfold pS; rw [if_neg g, e, ab_kj, Int.neg_neg]
    have sw := @tn_sw X Y i.toNat j.toNat k.toNat
    refine ⟨i.toNat, k.toNat, j.toNat, by omega, by omega, by omega, by omega, fun p hp => ?_, fun p hp => ?_⟩
    · rw [← e2]; exact a6 p (by omega) (by omega)
    · show decide (pS X Y H s i j k (p : Int) = 0) = _
      rw [e2]
theorem srt3 {X Y t : Nat → Int} {i j k n : Nat} (hi : i < n) (hj : j < n) (hk : k < n) (h : 0 < tn X Y i j k) : ∃ a b c : Nat, a < b ∧ b < c ∧ c < n ∧ tn X Y a b c ≠ 0 ∧ ab9 X Y t i j k a = 0 ∧ ab9 X Y t i j k b = 0 ∧ ab9 X Y t i j k c = 0 := by
  have r1 := @tn_rot X Y i j k
  have r2 := @tn_rot X Y k i j
  have s1 := @tn_sw X Y i j k
  have s2 := @tn_sw X Y j k i
  have s3 := @tn_sw X Y k i j
  have n1 : i ≠ j := fun e => by rw [e, tn_ii] at h; omega
  have n2 : j ≠ k := fun e => by rw [e, tn_jj] at h; omega
  have n3 : i ≠ k := fun e => by rw [e, tn_ij] at h; omega
  have z1 := @ab_i X Y t i j k
  have z2 := @ab_j X Y t i j k
  have z3 := @ab_k X Y t i j k
  by_cases c1 : i < j
  · by_cases c2 : j < k
    · exact ⟨i, j, k, c1, c2, hk, by omega, z1, z2, z3⟩
    · by_cases c3 : i < k
      · exact ⟨i, k, j, c3, by omega, hj, by omega, z1, z3, z2⟩
      · exact ⟨k, i, j, by omega, c1, hj, by omega, z3, z1, z2⟩
  · by_cases c2 : i < k
    · exact ⟨j, i, k, by omega, c2, hk, by omega, z2, z1, z3⟩
    · by_cases c3 : j < k
      · exact ⟨j, k, i, c3, by omega, hi, by omega, z2, z3, z1⟩
      · exact ⟨k, j, i, by omega, by omega, hi, by omega, z3, z2, z1⟩
theorem gs_pt {X Y H : Nat → Int} {s n : Int} {f : Nat → Bool} (h : gs9 X Y (h9 H s) n.toNat f) : ∃ i j k : Int, pt X Y H s n (PB f n.toNat) i j k := by
  obtain ⟨i, j, k, a1, a2, a3, a4, a5, a6⟩ := h
  obtain ⟨a, b, c, b1, b2, b3, b4, b5, b6, b7⟩ := srt3 (t := h9 H s) a1 a2 a3 a4
  have e := fun p : Nat => pA_ab (X := X) (Y := Y) (H := H) (s := s) (i := a) (j := b) (k := c) (by omega) (by omega) (by omega) p
  have key : ∀ p : Nat, (0 ≤ ab9 X Y (h9 H s) i j k p ↔ 0 ≤ pS X Y H s a b c p) ∧ (ab9 X Y (h9 H s) i j k p = 0 ↔ pS X Y H s a b c p = 0) := fun p => by
    by_cases g : 0 < tn X Y a b c
    · have e2 : pS X Y H s a b c p = ab9 X Y (h9 H s) a b c p := by unfold pS; rw [if_pos (show 0 < tnI X Y a b c from g)]; exact e p
      rw [e2]
      exact ab_sg b5 b6 b7 a4 g p
    · have e2 : pS X Y H s a b c p = ab9 X Y (h9 H s) a c b p := by unfold pS; rw [if_neg (show ¬ 0 < tnI X Y a b c from g), ab_kj]; exact congrArg (fun z => -z) (e p)
      rw [e2]
      have sw := @tn_sw X Y a b c
      exact ab_sg b5 b7 b6 a4 (by omega) p
  refine ⟨a, b, c, by omega, by omega, by omega, by omega, b4, fun p p0 p1 => ?_, PB_c (fun p hp => ?_)⟩
  · have k1 := (key p.toNat).1.mp (a5 p.toNat (by omega))
    rw [Int.toNat_of_nonneg p0] at k1
    exact k1
  · rw [a6 p hp]
    exact decide_eq_decide.mpr (key p).2
theorem pt_u {X Y H : Nat → Int} {s n i j k : Int} {b b' : Int64} (h : pt X Y H s n b i j k) (h' : pt X Y H s n b' i j k) : b = b' := h.2.2.2.2.2.2.trans h'.2.2.2.2.2.2.symm
theorem pt_nz {X Y H : Nat → Int} {s n i j k : Int} {b : Int64} (hn : n ≤ 62) (h : pt X Y H s n b i j k) : b ≠ 0 := by
  obtain ⟨a1, a2, a3, a4, a5, a6, a7⟩ := h
  rw [a7, gb_nz]
  refine ⟨i.toNat, by omega, ?_⟩
  rw [gb_PB n.toNat (by omega), decide_eq_true (show i.toNat < n.toNat by omega), Bool.true_and]
  refine decide_eq_true ?_
  rw [Int.toNat_of_nonneg a1]
  exact pS_0.mpr pA_v.1
theorem PL_pz {X Y H : Nat → Int} {s n m : Int} {Bb : Nat → Int64} (hn : n ≤ 62) (h : PL9 PB X Y (h9 H s) n.toNat m Bb) : pz X Y H s n Bb m := by
  refine ⟨h.1, fun q hq => ?_, fun q r hqr hr e => ?_⟩
  · obtain ⟨f, f1, f2⟩ := h.2.1 q hq
    rw [f2]
    exact gs_pt f1
  · have w := h.2.2 q r hqr hr
    rw [e] at w
    exact lE_i (PB_en (by omega)) w
/-- the reference's order -/
def RO9 (x y : Int64) : Int64 := ((x ^^^ y) &&& -(x ^^^ y)) &&& x
theorem RO_i {X Y t : Nat → Int} {n : Nat} {x y : Int64} (hn : n ≤ 62) (hx : gE9 PB X Y t n x) (hy : gE9 PB X Y t n y) : RO9 x y ≠ 0 ↔ lE9 PB n x y := by
  obtain ⟨f, _, ef⟩ := hx
  obtain ⟨g, _, eg⟩ := hy
  have k := PB_ah (f := f) (g := g) hn
  unfold RO9
  rw [ef, eg]
  constructor
  · intro w; exact ⟨f, g, k.mp w, rfl, rfl⟩
  · rintro ⟨f', g', w1, w2, w3⟩
    exact k.mpr (ahd_c (fun p hp => ((PB_en hn).1 _ _ w2 p hp).symm) (fun p hp => ((PB_en hn).1 _ _ w3 p hp).symm) w1)
/-- all pieces of the triples told -/
def DN9 (X Y H : Nat → Int) (s n : Int) (Bb : Nat → Int64) (m : Int) (P : Int → Int → Int → Prop) : Prop := ∀ (i j k : Int) (b : Int64), pt X Y H s n b i j k → P i j k → ∃ q : Nat, (q : Int) < m ∧ Bb q = b
theorem DN_c {X Y H : Nat → Int} {s n m : Int} {Bb : Nat → Int64} {P Q : Int → Int → Int → Prop} (h : DN9 X Y H s n Bb m P) (e : ∀ i j k : Int, 0 ≤ i → i < j → j < k → k < n → Q i j k → P i j k) : DN9 X Y H s n Bb m Q := fun i j k b w q => h i j k b w (e i j k w.1 w.2.1 w.2.2.1 w.2.2.2.1 q)
theorem DN_s {X Y H : Nat → Int} {s n m i j k : Int} {Bb : Nat → Int64} {P Q : Int → Int → Int → Prop} (h : DN9 X Y H s n Bb m P) (e : ∀ i' j' k' : Int, Q i' j' k' → P i' j' k' ∨ (i' = i ∧ j' = j ∧ k' = k)) (hb : ∀ b : Int64, pt X Y H s n b i j k → ∃ q : Nat, (q : Int) < m ∧ Bb q = b) : DN9 X Y H s n Bb m Q := fun i' j' k' b w q => by
  rcases e i' j' k' q with v | ⟨v1, v2, v3⟩
  · exact h i' j' k' b w v
  · rw [v1, v2, v3] at w; exact hb b w
theorem DN_i {X Y H : Nat → Int} {s n m i j k : Int} {Bb Bc : Nat → Int64} {x : Int64} {P Q : Int → Int → Int → Prop} (h : DN9 X Y H s n Bb m P) (e : ∀ i' j' k' : Int, Q i' j' k' → P i' j' k' ∨ (i' = i ∧ j' = j ∧ k' = k)) (hx : pt X Y H s n x i j k) (h1 : ∀ q : Nat, (q : Int) < m → ∃ q' : Nat, (q' : Int) < m + 1 ∧ Bc q' = Bb q) (h2 : ∃ q' : Nat, (q' : Int) < m + 1 ∧ Bc q' = x) : DN9 X Y H s n Bc (m + 1) Q := fun i' j' k' b w q => by
  rcases e i' j' k' q with v | ⟨v1, v2, v3⟩
  · obtain ⟨r, r1, r2⟩ := h i' j' k' b w v
    obtain ⟨r', r3, r4⟩ := h1 r r1
    exact ⟨r', r3, r4.trans r2⟩
  · rw [v1, v2, v3] at w
    rw [pt_u w hx]; exact h2
theorem DN_gs {X Y H : Nat → Int} {s n m : Int} {Bb : Nat → Int64} {P : Int → Int → Int → Prop} (h : DN9 X Y H s n Bb m P) (hP : ∀ i j k : Int, 0 ≤ i → i < j → j < k → k < n → P i j k) (f : Nat → Bool) (hf : gs9 X Y (h9 H s) n.toNat f) : ∃ q : Nat, (q : Int) < m ∧ Bb q = PB f n.toNat := by
  obtain ⟨i, j, k, w⟩ := gs_pt hf
  exact h i j k _ w (hP i j k w.1 w.2.1 w.2.2.1 w.2.2.2.1)
/-! counting -/
def ct9 (f : Nat → Bool) : Nat → Int
  | 0 => 0
  | n + 1 => ct9 f n + (if f n = true then 1 else 0)
def mem9 (f : Nat → Bool) : Nat → Int → Int
  | 0, _ => -1
  | n + 1, i => if f n = true ∧ ct9 f n = i then (n : Int) else mem9 f n i
theorem ct9_s {f : Nat → Bool} {n : Nat} : ct9 f (n + 1) = ct9 f n + (if f n = true then 1 else 0) := rfl
theorem ct9_b {f : Nat → Bool} : ∀ n : Nat, 0 ≤ ct9 f n ∧ ct9 f n ≤ n := by
  intro n
  induction n with
  | zero => exact ⟨Int.le_refl 0, Int.le_refl 0⟩
  | succ n ih => rw [ct9_s]; split <;> omega
theorem ct9_m {f : Nat → Bool} {n : Nat} : ∀ k : Nat, ct9 f n ≤ ct9 f (n + k) := by
  intro k
  induction k with
  | zero => exact Int.le_refl _
  | succ k ih =>
    have e : ct9 f (n + (k + 1)) = ct9 f (n + k) + (if f (n + k) = true then 1 else 0) := rfl
    rw [e]; split <;> omega
theorem ct9_l {f : Nat → Bool} {p n : Nat} (hp : f p = true) (h : p < n) : ct9 f p + 1 ≤ ct9 f n := by
  have e : ct9 f (p + 1) = ct9 f p + 1 := by rw [ct9_s, if_pos hp]
  have q := ct9_m (f := f) (n := p + 1) (n - (p + 1))
  rw [show p + 1 + (n - (p + 1)) = n by omega] at q
  omega
theorem ct9_c {f g : Nat → Bool} : ∀ n : Nat, (∀ p : Nat, p < n → f p = g p) → ct9 f n = ct9 g n := by
  intro n
  induction n with
  | zero => intro _; rfl
  | succ n ih => intro h; rw [ct9_s, ct9_s, ih (fun p hp => h p (by omega)), h n (by omega)]
theorem ct9_x {f g : Nat → Bool} {n : Nat} (h : ∀ p : Nat, p < n → f p = g p) : ∀ k : Nat, (∀ p : Nat, n ≤ p → p < n + k → f p = false) → ct9 f (n + k) = ct9 g n := by
  intro k
  induction k with
  | zero => intro _; exact ct9_c n h
  | succ k ih =>
    intro h2
    have e : ct9 f (n + (k + 1)) = ct9 f (n + k) + (if f (n + k) = true then 1 else 0) := rfl
    rw [e, ih (fun p q1 q2 => h2 p q1 (by omega)), h2 (n + k) (by omega) (by omega), if_neg (by decide)]
    omega
theorem mem9_s {f : Nat → Bool} {n : Nat} {i : Int} : mem9 f (n + 1) i = if f n = true ∧ ct9 f n = i then (n : Int) else mem9 f n i := rfl
theorem mem9_at {f : Nat → Bool} {p : Nat} {i : Int} (hp : f p = true) (hi : ct9 f p = i) : ∀ n : Nat, p < n → mem9 f n i = p := by
  intro n
  induction n with
  | zero => intro h; omega
  | succ n ih =>
    intro h
    rw [mem9_s]
    by_cases e : p = n
    · rw [← e, if_pos ⟨hp, hi⟩]
    · rw [if_neg (fun w => by have := ct9_l hp (show p < n by omega); omega)]
      exact ih (by omega)
theorem mem9_no {f : Nat → Bool} {i : Int} : ∀ n : Nat, ct9 f n ≤ i → mem9 f n i = -1 := by
  intro n
  induction n with
  | zero => intro _; rfl
  | succ n ih =>
    intro h
    rw [ct9_s] at h
    rw [mem9_s, if_neg (fun w => by rw [if_pos w.1] at h; omega)]
    exact ih (by split at h <;> omega)
theorem mem9_ex {f : Nat → Bool} {i : Int} (h0 : 0 ≤ i) : ∀ n : Nat, i < ct9 f n → ∃ p : Nat, p < n ∧ f p = true ∧ ct9 f p = i := by
  intro n
  induction n with
  | zero => intro h; have e : ct9 f 0 = 0 := rfl; omega
  | succ n ih =>
    intro h
    by_cases g : i < ct9 f n
    · obtain ⟨p, p1, p2, p3⟩ := ih g
      exact ⟨p, by omega, p2, p3⟩
    · rw [ct9_s] at h
      by_cases e : f n = true
      · rw [if_pos e] at h; exact ⟨n, by omega, e, by omega⟩
      · rw [if_neg e] at h; omega
theorem mem9_c {f g : Nat → Bool} {i : Int} : ∀ n : Nat, (∀ p : Nat, p < n → f p = g p) → mem9 f n i = mem9 g n i := by
  intro n
  induction n with
  | zero => intro _; rfl
  | succ n ih => intro h; rw [mem9_s, mem9_s, ih (fun p hp => h p (by omega)), h n (by omega), ct9_c n (fun p hp => h p (by omega))]
theorem mem9_b {f : Nat → Bool} {i : Int} : ∀ n : Nat, -1 ≤ mem9 f n i ∧ mem9 f n i < n := by
  intro n
  induction n with
  | zero => show (-1 : Int) ≤ -1 ∧ (-1 : Int) < 0; omega
  | succ n ih => rw [mem9_s]; split <;> omega
/-- the sets seen; the least triangles -/
def sn9 (F : Nat → Nat → Bool) : Nat → Nat → Bool
  | 0, _ => false
  | q + 1, k => sn9 F q k || F q k
def ut9 (X Y : Nat → Int) (n : Nat) (f : Nat → Bool) : Prop := ct9 f n = 3 ∧ (tn X Y (mem9 f n 0).toNat (mem9 f n 1).toNat (mem9 f n 2).toNat = 1 ∨ tn X Y (mem9 f n 0).toNat (mem9 f n 1).toNat (mem9 f n 2).toNat = -1)
/-- z of the first m are least triangles -/
def cu9 (X Y : Nat → Int) (n : Nat) (F : Nat → Nat → Bool) (m : Nat) (z : Int) : Prop := ∃ w : Nat → Int, w 0 = 0 ∧ w m = z ∧ ∀ q : Nat, q < m → (ut9 X Y n (F q) ∧ w (q + 1) = w q + 1) ∨ (¬ ut9 X Y n (F q) ∧ w (q + 1) = w q)
theorem cu9_0 {X Y : Nat → Int} {n : Nat} {F : Nat → Nat → Bool} : cu9 X Y n F 0 0 := ⟨fun _ => 0, rfl, rfl, fun q hq => by omega⟩
theorem cu9_s {X Y : Nat → Int} {n m : Nat} {F : Nat → Nat → Bool} {z z' : Int} (h : cu9 X Y n F m z) (e : (ut9 X Y n (F m) ∧ z' = z + 1) ∨ (¬ ut9 X Y n (F m) ∧ z' = z)) : cu9 X Y n F (m + 1) z' := by
  obtain ⟨w, w0, w1, w2⟩ := h
  refine ⟨upI w (m + 1) z', by rw [upI_n (by omega)]; exact w0, upI_s, fun q hq => ?_⟩
  by_cases g : q = m
  · subst g
    rw [upI_s, upI_n (by omega), w1]; exact e
  · rw [upI_n (by omega), upI_n (by omega)]; exact w2 q (by omega)
theorem ut9_c {X Y X' Y' : Nat → Int} {n : Nat} {f g : Nat → Bool} (hx : ∀ a : Nat, a < n → X a = X' a ∧ Y a = Y' a) (h : ∀ p : Nat, p < n → f p = g p) (k : ut9 X Y n f) : ut9 X' Y' n g := by
  obtain ⟨k1, k2⟩ := k
  have c := ct9_c n h
  have e := fun i : Int => mem9_c (i := i) n h
  have b : ∀ i : Int, 0 ≤ i → i < 3 → (mem9 f n i).toNat < n := fun i i0 i1 => by
    obtain ⟨p, p1, p2, p3⟩ := mem9_ex (f := f) i0 n (by omega)
    rw [mem9_at p2 p3 n p1]; omega
  have b0 := hx _ (b 0 (by omega) (by omega))
  have b1 := hx _ (b 1 (by omega) (by omega))
  have b2 := hx _ (b 2 (by omega) (by omega))
  have t : tn X' Y' (mem9 f n 0).toNat (mem9 f n 1).toNat (mem9 f n 2).toNat = tn X Y (mem9 f n 0).toNat (mem9 f n 1).toNat (mem9 f n 2).toNat := tn_cong b0.1.symm b1.1.symm b2.1.symm b0.2.symm b1.2.symm b2.2.symm
  refine ⟨by omega, ?_⟩
  rw [← e, ← e, ← e, t]
  exact k2
theorem cu9_u {X Y X' Y' : Nat → Int} {n m : Nat} {F F' : Nat → Nat → Bool} {z z' : Int} (hx : ∀ a : Nat, a < n → X a = X' a ∧ Y a = Y' a) (hF : ∀ q : Nat, q < m → ∀ p : Nat, p < n → F q p = F' q p) (h : cu9 X Y n F m z) (h' : cu9 X' Y' n F' m z') : z = z' := by
  obtain ⟨w, w0, w1, w2⟩ := h
  obtain ⟨v, v0, v1, v2⟩ := h'
  have key : ∀ q : Nat, q ≤ m → w q = v q := by
    intro q
    induction q with
    | zero => intro _; omega
    | succ q ih =>
      intro hq
      have e := ih (by omega)
      rcases w2 q (by omega) with ⟨a1, a2⟩ | ⟨a1, a2⟩ <;> rcases v2 q (by omega) with ⟨b1, b2⟩ | ⟨b1, b2⟩
      · omega
      · exact absurd (ut9_c hx (hF q (by omega)) a1) b1
      · exact absurd (ut9_c (fun a ha => ⟨(hx a ha).1.symm, (hx a ha).2.symm⟩) (fun p hp => (hF q (by omega) p hp).symm) b1) a1
      · omega
  have := key m (Nat.le_refl m)
  omega
theorem sn9_c {F F' : Nat → Nat → Bool} {n : Nat} : ∀ m : Nat, (∀ q : Nat, q < m → ∀ p : Nat, p < n → F q p = F' q p) → ∀ p : Nat, p < n → sn9 F m p = sn9 F' m p := by
  intro m
  induction m with
  | zero => intro _ p _; rfl
  | succ m ih =>
    intro h p hp
    show (sn9 F m p || F m p) = (sn9 F' m p || F' m p)
    rw [ih (fun q hq => h q (by omega)) p hp, h m (by omega) p hp]
/-- what both sides find: the points in order, the pieces in order -/
def LS9 (P : Int → Int → Prop) (t : Nat → Int) (n : Int) (X Y : Nat → Int) (m : Int) (F : Nat → Nat → Bool) : Prop := (0 ≤ n ∧ n ≤ 40) ∧ OL P n X Y ∧ SQ9 n.toNat (gs9 X Y t n.toNat) m F
theorem gs9_h {X Y X' Y' t t' : Nat → Int} {n : Nat} {f : Nat → Bool} (hx : ∀ a : Nat, a < n → X a = X' a ∧ Y a = Y' a) (ht : ∀ a : Nat, a < n → t a = t' a) (H : gs9 X Y t n f) : gs9 X' Y' t' n f := by
  obtain ⟨i, j, k, a1, a2, a3, a4, a5, a6⟩ := H
  have T : ∀ a b c : Nat, a < n → b < n → c < n → tn X' Y' a b c = tn X Y a b c := fun a b c ha hb hc => tn_cong (hx a ha).1.symm (hx b hb).1.symm (hx c hc).1.symm (hx a ha).2.symm (hx b hb).2.symm (hx c hc).2.symm
  have A : ∀ p : Nat, p < n → ab9 X' Y' t' i j k p = ab9 X Y t i j k p := fun p hp => by
    unfold ab9
    rw [T _ _ _ a1 a2 a3, T _ _ _ a1 hp a3, T _ _ _ a1 a2 hp, ht p hp, ht i a1, ht j a2, ht k a3]
  exact ⟨i, j, k, a1, a2, a3, by rw [T _ _ _ a1 a2 a3]; exact a4, fun p hp => by rw [A p hp]; exact a5 p hp, fun p hp => by rw [A p hp]; exact a6 p hp⟩
theorem LS_u {P P' : Int → Int → Prop} {t t' : Nat → Int} {n n' m m' : Int} {X Y X' Y' : Nat → Int} {F F' : Nat → Nat → Bool} (hP : ∀ x y : Int, P x y ↔ P' x y) (ht : ∀ a : Nat, a < 40 → t a = t' a) (h : LS9 P t n X Y m F) (h' : LS9 P' t' n' X' Y' m' F') : n = n' ∧ m = m' ∧ (∀ a : Nat, (a : Int) < n → X a = X' a ∧ Y a = Y' a) ∧ ∀ q : Nat, (q : Int) < m → ∀ p : Nat, (p : Int) < n → F q p = F' q p := by
  obtain ⟨a1, a2, a3⟩ := h
  obtain ⟨b1, b2, b3⟩ := h'
  obtain ⟨e, ex⟩ := OL_u (OL_c a2 hP) b2
  subst e
  have hx : ∀ a : Nat, a < n.toNat → X a = X' a ∧ Y a = Y' a := fun a ha => ex a (by omega)
  have b4 : SQ9 n.toNat (gs9 X Y t n.toNat) m' F' := by
    refine ⟨b3.1, fun q hq => ?_, b3.2.2.1, fun f hf => ?_⟩
    · exact gs9_h (fun a ha => ⟨(hx a ha).1.symm, (hx a ha).2.symm⟩) (fun a ha => (ht a (by omega)).symm) (b3.2.1 q hq)
    · exact b3.2.2.2 f (gs9_h hx (fun a ha => ht a (by omega)) hf)
  obtain ⟨c1, c2⟩ := SQ_u a3 b4
  exact ⟨rfl, c1, ex, fun q hq p hp => c2 q hq p (by omega)⟩
/-- the answers of pieces, of piece -/
def psA (n : Int) (X Y : Nat → Int) (m : Int) (F : Nat → Nat → Bool) (w z : Int) : Prop := (w = 0 ∧ z = m) ∨ (w = 1 ∧ z = ct9 (sn9 F m.toNat) n.toNat) ∨ (w = 2 ∧ cu9 X Y n.toNat F m.toNat z)
def pcA (n m : Int) (F : Nat → Nat → Bool) (p i z : Int) : Prop := (m ≤ p ∧ z = -1) ∨ (p < m ∧ ((i = -1 ∧ z = ct9 (F p.toNat) n.toNat) ∨ (0 ≤ i ∧ z = mem9 (F p.toNat) n.toNat i)))
