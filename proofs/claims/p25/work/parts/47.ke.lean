
/-! ===== cuts: the class ===== -/
/-- the numbers of the segments while they are made: what was not looked at has -1 -/
def NTf (X Y : Nat → Int) (n c : Int) (A Bb S : Nat → Int) (P : Int → Int → Prop) : Prop := NTp (-1) X Y n c A Bb S P ∧ ∀ x y : Int, 0 ≤ x → x < y → y < n → ¬ P x y → S (12 * x + y).toNat = -1
theorem NTf_n {X Y : Nat → Int} {n c a b : Int} {A Bb S : Nat → Int} {P Q : Int → Int → Prop} (h : NTf X Y n c A Bb S P) (ha : 0 ≤ a ∧ a < b ∧ b < n) (hP : ¬ P a b) (hs : ¬ SGP X Y n a b) (k : ∀ x y : Int, Q x y ↔ P x y ∨ (x = a ∧ y = b)) : NTf X Y n c A Bb S Q := by
  refine ⟨fun x y h1 h2 h3 q => ?_, fun x y h1 h2 h3 q => h.2 x y h1 h2 h3 (fun w => q ((k x y).mpr (Or.inl w)))⟩
  rcases (k x y).mp q with v | ⟨v, w⟩
  · exact h.1 x y h1 h2 h3 v
  · rw [v, w]; exact Or.inl ⟨h.2 a b ha.1 ha.2.1 ha.2.2 hP, hs⟩
theorem NTf_y {X Y : Nat → Int} {n c a b : Int} {A Bb S : Nat → Int} {P Q : Int → Int → Prop} (h : NTf X Y n c A Bb S P) (ha : 0 ≤ a ∧ a < b ∧ b < n) (hn : n ≤ 12) (hc : 0 ≤ c) (k : ∀ x y : Int, Q x y ↔ P x y ∨ (x = a ∧ y = b)) : NTf X Y n (c + 1) (upI A c.toNat a) (upI Bb c.toNat b) (upI S (12 * a + b).toNat c) Q := by
  refine ⟨NT_y h.1 ha hn hc (fun k9 => by
    by_cases e : k9 = (12 * a + b).toNat
    · rw [e, upI_s, if_pos rfl]
    · rw [upI_n e, if_neg e]) (fun x y q => (k x y).mp q), fun x y h1 h2 h3 q => ?_⟩
  have w : ¬ (x = a ∧ y = b) := fun w => q ((k x y).mpr (Or.inr w))
  rw [upI_n (by omega)]
  exact h.2 x y h1 h2 h3 (fun v => q ((k x y).mpr (Or.inl v)))
theorem NTf_c {X Y : Nat → Int} {n c : Int} {A Bb S : Nat → Int} {P Q : Int → Int → Prop} (h : NTf X Y n c A Bb S P) (k : ∀ x y : Int, 0 ≤ x → x < y → y < n → (Q x y ↔ P x y)) : NTf X Y n c A Bb S Q := ⟨fun x y h1 h2 h3 q => h.1 x y h1 h2 h3 ((k x y h1 h2 h3).mp q), fun x y h1 h2 h3 q => h.2 x y h1 h2 h3 (fun w => q ((k x y h1 h2 h3).mpr w))⟩
/-- a segment between two points has the number k -/
def PA9 (A Bb : Nat → Int) (c : Nat) (k x y : Nat) : Prop := k < c ∧ ((A k = x ∧ Bb k = y) ∨ (A k = y ∧ Bb k = x))
theorem PA_s {A Bb : Nat → Int} {c k x y : Nat} (h : PA9 A Bb c k x y) : PA9 A Bb c k y x := ⟨h.1, h.2.symm⟩
theorem PA_u {X Y A Bb : Nat → Int} {n m : Int} {c k k' x y : Nat} (hO : OL (SGP X Y n) m A Bb) (hc : (c : Int) ≤ m) (h : PA9 A Bb c k x y) (h' : PA9 A Bb c k' x y) : k = k' := by
  have a1 := h.1
  have a2 := h'.1
  have l := (OL_in hO (a := k) (by omega)).1
  have l' := (OL_in hO (a := k') (by omega)).1
  refine sg_u hO (by omega) (by omega) ?_
  rcases h.2 with e | e <;> rcases h'.2 with e' | e' <;> omega
theorem SM_P {A Bb : Nat → Int} {c x y : Nat} {f : Nat → Bool} : SM9 A Bb c f x y ↔ ∃ k : Nat, PA9 A Bb c k x y ∧ f k = true := by
  constructor
  · rintro ⟨k, k1, k2, k3⟩; exact ⟨k, ⟨k1, k3⟩, k2⟩
  · rintro ⟨k, ⟨k1, k3⟩, k2⟩; exact ⟨k, k1, k2, k3⟩
/-- the number of a segment, asked for by its ends: -1 if there is none -/
theorem nb_s {X Y : Nat → Int} {n c a b z : Int} {A Bb S : Nat → Int} (hO : OL (SGP X Y n) c A Bb) (h : NTp (-1) X Y n c A Bb S (fun _ _ => True)) (ha : 0 ≤ a ∧ a < n) (hb : 0 ≤ b ∧ b < n) (hne : a ≠ b) (hz : (a < b ∧ z = S (12 * a + b).toNat) ∨ (b ≤ a ∧ z = S (12 * b + a).toNat)) : (z = -1 ∧ ∀ k : Nat, ¬ PA9 A Bb c.toNat k a.toNat b.toNat) ∨ ((0 ≤ z ∧ z < c) ∧ PA9 A Bb c.toNat z.toNat a.toNat b.toNat) := by
  have key : ∀ x y : Int, 0 ≤ x → x < y → y < n → (S (12 * x + y).toNat = -1 ∧ ∀ k : Nat, ¬ PA9 A Bb c.toNat k x.toNat y.toNat) ∨ ((0 ≤ S (12 * x + y).toNat ∧ S (12 * x + y).toNat < c) ∧ PA9 A Bb c.toNat (S (12 * x + y).toNat).toNat x.toNat y.toNat) := fun x y h1 h2 h3 => by
    rcases h x y h1 h2 h3 trivial with ⟨q1, q2⟩ | ⟨q1, q2, q3⟩
    · refine Or.inl ⟨q1, fun k w => ?_⟩
      have w0 := w.1
      have g := OL_in hO (a := k) (by omega)
      have g1 := g.1
      rcases w.2 with ⟨w1, w2⟩ | ⟨w1, w2⟩
      · rw [show A k = x by omega, show Bb k = y by omega] at g; exact q2 g
      · omega
    · exact Or.inr ⟨q1, by omega, Or.inl ⟨by omega, by omega⟩⟩
  rcases hz with ⟨h1, e⟩ | ⟨h1, e⟩
  · rw [e]; exact key a b ha.1 h1 hb.2
  · rw [e]
    rcases key b a hb.1 (by omega) ha.2 with ⟨q1, q2⟩ | ⟨q1, q2⟩
    · exact Or.inl ⟨q1, fun k w => q2 k (PA_s w)⟩
    · exact Or.inr ⟨q1, PA_s q2⟩
/-- the segments that a segment crosses, as a long -/
def CR9 (X Y A Bb : Nat → Int) (c : Nat) (x : Int64) (s : Nat) : Prop := ∀ t : Nat, t < 64 → (gb x t = true ↔ t < c ∧ XS9 X Y A Bb s t)
theorem CR_0 {X Y A Bb : Nat → Int} {s : Nat} : CR9 X Y A Bb 0 0 s := fun t _ => by rw [gb_0]; exact ⟨fun q => (by cases q), fun q => by have := q.1; omega⟩
theorem CR_y {X Y A Bb : Nat → Int} {t : Int} {x : Int64} {s : Nat} (ht : 0 ≤ t ∧ t < 64) (h : CR9 X Y A Bb t.toNat x s) (hx : XS9 X Y A Bb s t.toNat) : CR9 X Y A Bb (t + 1).toNat (x ||| ((1 : Int64) <<< ((J t).toInt64 &&& 63))) s := fun i hi => by
  have et : t = ((t.toNat : Nat) : Int) := by omega
  rw [gb_or, et, gb_sh (show t.toNat < 64 by omega), Bool.or_eq_true, h i hi]
  constructor
  · rintro (⟨q1, q2⟩ | q)
    · exact ⟨by omega, q2⟩
    · have e := of_decide_eq_true q
      rw [← e]; exact ⟨by omega, hx⟩
  · rintro ⟨q1, q2⟩
    by_cases e : i = t.toNat
    · exact Or.inr (decide_eq_true e.symm)
    · exact Or.inl ⟨by omega, q2⟩
theorem CR_n {X Y A Bb : Nat → Int} {t : Int} {x : Int64} {s : Nat} (ht : 0 ≤ t) (h : CR9 X Y A Bb t.toNat x s) (hx : ¬ XS9 X Y A Bb s t.toNat) : CR9 X Y A Bb (t + 1).toNat x s := fun i hi => by
  rw [h i hi]
  constructor
  · rintro ⟨q1, q2⟩; exact ⟨by omega, q2⟩
  · rintro ⟨q1, q2⟩
    refine ⟨?_, q2⟩
    by_cases e : i = t.toNat
    · rw [e] at q2; exact absurd q2 hx
    · omega
/-- whether a segment crosses one of a set -/
theorem CR_a {X Y A Bb : Nat → Int} {c : Nat} {k : Int} {x y : Int64} {f : Nat → Bool} (hk : 0 ≤ k ∧ k < c) (hc : c ≤ 64) (h : CR9 X Y A Bb c x k.toNat) (hy : y = PB f k.toNat) : x &&& y = 0 ↔ ∀ i : Nat, i < k.toNat → f i = true → ¬ XS9 X Y A Bb k.toNat i := by
  constructor
  · intro e i hi fi w
    have q : gb (x &&& y) i = true := by
      rw [gb_and, (h i (by omega)).mpr ⟨by omega, w⟩, hy, gb_PB k.toNat (by omega), decide_eq_true hi, fi]
      rfl
    rw [e, gb_0] at q
    cases q
  · intro q
    apply Classical.byContradiction
    intro w
    obtain ⟨i, i1, i2⟩ := gb_nz.mp w
    rw [gb_and, hy, gb_PB k.toNat (by omega), Bool.and_eq_true, Bool.and_eq_true] at i2
    obtain ⟨j1, j2, j3⟩ := i2
    exact q i (of_decide_eq_true j2) j3 ((h i i1).mp j1).2
theorem fc_y2 {X Y A Bb : Nat → Int} {k : Int} {f : Nat → Bool} {x : Int64} (hk : 0 ≤ k) (h : FC9 X Y A Bb k.toNat f) (hx : x = PB f k.toNat) (hc : ∀ i : Nat, i < k.toNat → f i = true → ¬ XS9 X Y A Bb k.toNat i) : ∃ g : Nat → Bool, FC9 X Y A Bb (k + 1).toNat g ∧ x ||| ((1 : Int64) <<< ((J k).toInt64 &&& 63)) = PB g (k + 1).toNat := fc_y hk h hx (fun j hj fj w => hc j (by omega) fj (XC_s w))
theorem fc_n2 {X Y A Bb : Nat → Int} {k : Int} {f : Nat → Bool} {x : Int64} (hk : 0 ≤ k) (h : FC9 X Y A Bb k.toNat f) (hx : x = PB f k.toNat) (hc : ¬ ∀ i : Nat, i < k.toNat → f i = true → ¬ XS9 X Y A Bb k.toNat i) : ∃ g : Nat → Bool, FC9 X Y A Bb (k + 1).toNat g ∧ x = PB g (k + 1).toNat := by
  have ex : ∃ j : Nat, (j : Int) < k ∧ f j = true ∧ XS9 X Y A Bb j k.toNat := Classical.byContradiction (fun w => hc (fun i hi fi q => w ⟨i, by omega, fi, XC_s q⟩))
  obtain ⟨g, g1, g2⟩ := fc_n hk h hx ex
  exact ⟨g, g1, by rw [← g2, Int64.or_zero]⟩
/-! all flips, as the class keeps them: needed and changed segments, for the segment k and the point p on its left -/
def FE9 (X Y A Bb : Nat → Int) (n c : Nat) (k p q o i1 i2 i3 i4 : Nat) : Prop := (k < c ∧ p < n ∧ q < n) ∧ tn X Y (A k).toNat (Bb k).toNat p = 1 ∧ (X q = X (A k).toNat + X (Bb k).toNat - X p ∧ Y q = Y (A k).toNat + Y (Bb k).toNat - Y p) ∧ PA9 A Bb c o p q ∧ PA9 A Bb c i1 (A k).toNat p ∧ PA9 A Bb c i2 (Bb k).toNat p ∧ PA9 A Bb c i3 (A k).toNat q ∧ PA9 A Bb c i4 (Bb k).toNat q
def FQ9 (X Y A Bb : Nat → Int) (n c : Nat) (N C : Int64) (k p : Nat) : Prop := ∃ q o i1 i2 i3 i4 : Nat, FE9 X Y A Bb n c k p q o i1 i2 i3 i4 ∧ (∀ i : Nat, i < 64 → (gb N i = true ↔ i = k ∨ i = i1 ∨ i = i2 ∨ i = i3 ∨ i = i4)) ∧ ∀ i : Nat, i < 64 → (gb C i = true ↔ i = k ∨ i = o)
theorem cf_n {N x : Int64} : x &&& N = N ↔ ∀ i : Nat, i < 64 → gb N i = true → gb x i = true := by
  constructor
  · intro e i hi w
    have q : gb (x &&& N) i = true := by rw [e]; exact w
    rw [gb_and, Bool.and_eq_true] at q
    exact q.1
  · intro h
    apply gb_e
    intro i hi
    rw [gb_and]
    cases w : gb N i
    · exact Bool.and_false _
    · rw [h i hi w]; rfl
/-- a flip that a set bears -/
theorem cf_1 {X Y A Bb : Nat → Int} {n : Int} {c : Nat} {m : Int} {N C x : Int64} {k p : Nat} {f : Nat → Bool} (hO : OL (SGP X Y n) m A Bb) (hc : (c : Int) ≤ m) (h63 : c ≤ 63) (h : FQ9 X Y A Bb n.toNat c N C k p) (hx : x = PB f c) (hN : NX9 X Y A Bb c f) (e : x &&& N = N) : (∃ o : Nat, FL9 X Y A Bb n.toNat c f k o ∧ x ^^^ C = PB (fl9 f k o) c) ∧ x ^^^ C ≠ 0 ∧ SM9 A Bb c f (A k).toNat p ∧ SM9 A Bb c f (Bb k).toNat p ∧ tn X Y (A k).toNat (Bb k).toNat p = 1 ∧ p < n.toNat := by
  obtain ⟨q, o, i1, i2, i3, i4, ⟨⟨k1, k2, k3⟩, t1, t2, po, p1, p2, p3, p4⟩, n1, c1⟩ := h
  have bits : ∀ i : Nat, i < c → gb N i = true → f i = true := fun i hi w => by
    have q := cf_n.mp e i (by omega) w
    rw [hx, gb_PB c (by omega), decide_eq_true hi, Bool.true_and] at q
    exact q
  have o1 := po.1
  have a1 := p1.1
  have a2 := p2.1
  have a3 := p3.1
  have a4 := p4.1
  have fk := bits k k1 ((n1 k (by omega)).mpr (Or.inl rfl))
  have f1 := bits i1 a1 ((n1 i1 (by omega)).mpr (by omega))
  have f2 := bits i2 a2 ((n1 i2 (by omega)).mpr (by omega))
  have f3 := bits i3 a3 ((n1 i3 (by omega)).mpr (by omega))
  have f4 := bits i4 a4 ((n1 i4 (by omega)).mpr (by omega))
  have s1 := SM_P.mpr ⟨i1, p1, f1⟩
  have s2 := SM_P.mpr ⟨i2, p2, f2⟩
  have s3 := SM_P.mpr ⟨i3, p3, f3⟩
  have s4 := SM_P.mpr ⟨i4, p4, f4⟩
  have FL : FL9 X Y A Bb n.toNat c f k o := ⟨⟨k1, o1, fk⟩, p, q, ⟨k2, k3⟩, t1, t2, ⟨s1, s2, s3, s4⟩, po.2⟩
  have on := FL_n hN FL
  have ev : x ^^^ C = PB (fl9 f k o) c := by
    apply gb_e
    intro i hi
    rw [gb_xor, hx, gb_PB c (by omega), gb_PB c (by omega)]
    unfold fl9
    by_cases w1 : i = k
    · rw [if_pos w1, (c1 i hi).mpr (Or.inl w1), w1, decide_eq_true k1, fk]; rfl
    · rw [if_neg w1]
      by_cases w2 : i = o
      · rw [if_pos w2, (c1 i hi).mpr (Or.inr w2), w2, decide_eq_true o1, on.1]; rfl
      · rw [if_neg w2]
        have z : gb C i = false := bf9 (fun v => by have := (c1 i hi).mp v; omega)
        rw [z, Bool.xor_false]
  refine ⟨⟨o, FL, ev⟩, ?_, s1, s2, t1, k2⟩
  rw [ev, gb_nz]
  refine ⟨o, by omega, ?_⟩
  rw [gb_PB c (by omega), decide_eq_true o1, Bool.true_and]
  unfold fl9
  rw [if_neg (fun v => on.2 v.symm), if_pos rfl]
/-- the flips, told in order of segment and point -/
def FS9 (X Y A Bb : Nat → Int) (n c : Nat) (N C : Nat → Int64) (m : Int) (K Q : Nat → Nat) (P : Nat → Nat → Prop) : Prop := 0 ≤ m ∧ (∀ a : Nat, (a : Int) < m → FQ9 X Y A Bb n c (N a) (C a) (K a) (Q a) ∧ P (K a) (Q a)) ∧ (∀ a b : Nat, a < b → (b : Int) < m → K a < K b ∨ (K a = K b ∧ Q a < Q b)) ∧ ∀ k p q o i1 i2 i3 i4 : Nat, P k p → FE9 X Y A Bb n c k p q o i1 i2 i3 i4 → ∃ a : Nat, (a : Int) < m ∧ K a = k ∧ Q a = p
def FM9 (X Y A Bb : Nat → Int) (n c : Nat) (N C : Nat → Int64) (m : Int) (P : Nat → Nat → Prop) : Prop := ∃ K Q : Nat → Nat, FS9 X Y A Bb n c N C m K Q P
theorem FM_c {X Y A Bb : Nat → Int} {n c : Nat} {N C : Nat → Int64} {m : Int} {P P' : Nat → Nat → Prop} (h : FM9 X Y A Bb n c N C m P) (e1 : ∀ k p : Nat, P k p → P' k p) (e2 : ∀ k p : Nat, k < c → p < n → P' k p → P k p) : FM9 X Y A Bb n c N C m P' := by
  obtain ⟨K, Q, h0, h1, h2, h3⟩ := h
  exact ⟨K, Q, h0, fun a ha => ⟨(h1 a ha).1, e1 _ _ (h1 a ha).2⟩, h2, fun k p q o i1 i2 i3 i4 q1 q2 => h3 k p q o i1 i2 i3 i4 (e2 k p q2.1.1 q2.1.2.1 q1) q2⟩
/-- no flip for this point -/
theorem FM_n {X Y A Bb : Nat → Int} {n c : Nat} {N C : Nat → Int64} {m : Int} {P P' : Nat → Nat → Prop} {s r : Nat} (h : FM9 X Y A Bb n c N C m P) (e : ∀ k p : Nat, P' k p ↔ P k p ∨ (k = s ∧ p = r)) (hn : ∀ q o i1 i2 i3 i4 : Nat, ¬ FE9 X Y A Bb n c s r q o i1 i2 i3 i4) : FM9 X Y A Bb n c N C m P' := by
  obtain ⟨K, Q, h0, h1, h2, h3⟩ := h
  refine ⟨K, Q, h0, fun a ha => ⟨(h1 a ha).1, (e _ _).mpr (Or.inl (h1 a ha).2)⟩, h2, fun k p q o i1 i2 i3 i4 q1 q2 => ?_⟩
  rcases (e k p).mp q1 with w | ⟨w1, w2⟩
  · exact h3 k p q o i1 i2 i3 i4 w q2
  · rw [w1, w2] at q2; exact absurd q2 (hn q o i1 i2 i3 i4)
/-- one flip more -/
theorem FM_y {X Y A Bb : Nat → Int} {n c : Nat} {N C : Nat → Int64} {m : Int} {P P' : Nat → Nat → Prop} {s r : Nat} {x y : Int64} (h : FM9 X Y A Bb n c N C m P) (e : ∀ k p : Nat, P' k p ↔ P k p ∨ (k = s ∧ p = r)) (hl : ∀ k p : Nat, P k p → k < s ∨ (k = s ∧ p < r)) (hq : FQ9 X Y A Bb n c x y s r) : FM9 X Y A Bb n c (vp_updL N m.toNat x) (vp_updL C m.toNat y) (m + 1) P' := by
  obtain ⟨K, Q, h0, h1, h2, h3⟩ := h
  refine ⟨fun a => if a = m.toNat then s else K a, fun a => if a = m.toNat then r else Q a, by omega, fun a ha => ?_, fun a b hab hb => ?_, fun k p q o i1 i2 i3 i4 q1 q2 => ?_⟩
  · show FQ9 X Y A Bb n c (vp_updL N m.toNat x a) (vp_updL C m.toNat y a) (if a = m.toNat then s else K a) (if a = m.toNat then r else Q a) ∧ P' (if a = m.toNat then s else K a) (if a = m.toNat then r else Q a)
    by_cases w : a = m.toNat
    · rw [if_pos w, if_pos w, w, pk_uLs, pk_uLs]; exact ⟨hq, (e s r).mpr (Or.inr ⟨rfl, rfl⟩)⟩
    · rw [if_neg w, if_neg w, pk_uLn w, pk_uLn w]
      have q := h1 a (by omega)
      exact ⟨q.1, (e _ _).mpr (Or.inl q.2)⟩
  · have wa : a ≠ m.toNat := by omega
    show (if a = m.toNat then s else K a) < (if b = m.toNat then s else K b) ∨ ((if a = m.toNat then s else K a) = (if b = m.toNat then s else K b) ∧ (if a = m.toNat then r else Q a) < (if b = m.toNat then r else Q b))
    rw [if_neg wa, if_neg wa]
    by_cases w : b = m.toNat
    · rw [if_pos w, if_pos w]; exact hl _ _ (h1 a (by omega)).2
    · rw [if_neg w, if_neg w]; exact h2 a b hab (by omega)
  · rcases (e k p).mp q1 with w | ⟨w1, w2⟩
    · obtain ⟨a, a1, a2, a3⟩ := h3 k p q o i1 i2 i3 i4 w q2
      exact ⟨a, by omega, by show (if a = m.toNat then s else K a) = k; rw [if_neg (by omega)]; exact a2, by show (if a = m.toNat then r else Q a) = p; rw [if_neg (by omega)]; exact a3⟩
    · exact ⟨m.toNat, by omega, by show (if m.toNat = m.toNat then s else K m.toNat) = k; rw [if_pos rfl]; exact w1.symm, by show (if m.toNat = m.toNat then r else Q m.toNat) = p; rw [if_pos rfl]; exact w2.symm⟩
/-- a set bears no flip of the segment k: nothing comes of it -/
theorem cf_2 {X Y A Bb : Nat → Int} {n : Int} {c : Nat} {m fc : Int} {N C : Nat → Int64} {x : Int64} {k : Nat} {f : Nat → Bool} {K Q : Nat → Nat} (hs : os_s X Y n) (hO : OL (SGP X Y n) m A Bb) (hc : (c : Int) ≤ m) (h63 : c ≤ 63) (h : FS9 X Y A Bb n.toNat c N C fc K Q (fun _ _ => True)) (hx : x = PB f c) (hz : ∀ a : Nat, (a : Int) < fc → K a = k → ¬ x &&& N a = N a) : NV9 X Y A Bb n.toNat c x k 0 := Or.inr ⟨rfl, fun g hg o w => by
  obtain ⟨⟨k1, k2, k3⟩, p, q, ⟨p1, p2⟩, p3, p4, ⟨s1, s2, s3, s4⟩, e⟩ := FL_c (PB_e6 (by omega) (hg.symm.trans hx)) w
  obtain ⟨i1, q1, f1⟩ := SM_P.mp s1
  obtain ⟨i2, q2, f2⟩ := SM_P.mp s2
  obtain ⟨i3, q3, f3⟩ := SM_P.mp s3
  obtain ⟨i4, q4, f4⟩ := SM_P.mp s4
  obtain ⟨a, a1, a2, a3⟩ := h.2.2.2 k p q o i1 i2 i3 i4 trivial ⟨⟨k1, p1, p2⟩, p3, p4, ⟨k2, e⟩, q1, q2, q3, q4⟩
  have fq := (h.2.1 a a1).1
  rw [a2, a3] at fq
  obtain ⟨q', o', j1, j2, j3, j4, ⟨⟨_, _, r3⟩, _, t2, _, r4, r5, r6, r7⟩, nn, _⟩ := fq
  have eq : q' = q := os_u hs (by omega) (by omega) ⟨by omega, by omega⟩
  rw [eq] at r6 r7
  refine hz a a1 a2 (cf_n.mpr (fun i hi w2 => ?_))
  have hfi : f i = true ∧ i < c := by
    rcases (nn i hi).mp w2 with v | v | v | v | v
    · rw [v]; exact ⟨k3, k1⟩
    · rw [v, PA_u hO hc r4 q1]; exact ⟨f1, q1.1⟩
    · rw [v, PA_u hO hc r5 q2]; exact ⟨f2, q2.1⟩
    · rw [v, PA_u hO hc r6 q3]; exact ⟨f3, q3.1⟩
    · rw [v, PA_u hO hc r7 q4]; exact ⟨f4, q4.1⟩
  rw [hx, gb_PB c (by omega), decide_eq_true hfi.2, hfi.1]
  rfl⟩
/-- of a segment's flips a set bears one at most -/
theorem cf_3 {X Y A Bb : Nat → Int} {n : Int} {c : Nat} {m fc : Int} {N C : Nat → Int64} {x : Int64} {f : Nat → Bool} {K Q : Nat → Nat} (hs : os_s X Y n) (hO : OL (SGP X Y n) m A Bb) (hc : (c : Int) ≤ m) (h63 : c ≤ 63) (h : FS9 X Y A Bb n.toNat c N C fc K Q (fun _ _ => True)) (hx : x = PB f c) (hN : NX9 X Y A Bb c f) {a b : Nat} (hab : a < b) (hb : (b : Int) < fc) (e : K a = K b) (ea : x &&& N a = N a) (eb : x &&& N b = N b) : False := by
  obtain ⟨_, _, s1, s2, t1, l1⟩ := cf_1 hO hc h63 (h.2.1 a (by omega)).1 hx hN ea
  obtain ⟨_, _, s3, s4, t2, l2⟩ := cf_1 hO hc h63 (h.2.1 b hb).1 hx hN eb
  rw [e] at s1 s2 t1
  have q := tri_1 hs hN (by omega) (by omega) t1 t2 s1 s2 s3 s4
  have l := h.2.2.1 a b hab hb
  omega
/-- the search while the flips of the set i are gone through: flips before a are done -/
def SI9 (NV : Int64 → Nat → Int64 → Prop) (b0 : Int64) (i : Int) (a m : Int) (Bs : Nat → Int64) (D : Nat → Int) (N : Nat → Int64) (fc : Int) (K : Nat → Nat) : Prop := ∃ k : Int, (0 ≤ k ∧ k ≤ 64) ∧ RS9 NV b0 (64 * i + k).toNat m Bs D 0 ∧ (∀ r : Nat, (r : Int) < a → Bs i.toNat &&& N r = N r → (K r : Int) < k) ∧ ∀ r : Nat, a ≤ r → (r : Int) < fc → Bs i.toNat &&& N r = N r → k ≤ K r
theorem SI_0 {NV : Int64 → Nat → Int64 → Prop} {b0 : Int64} {i m : Int} {Bs : Nat → Int64} {D : Nat → Int} {N : Nat → Int64} {fc : Int} {K : Nat → Nat} (h : RS9 NV b0 (64 * i).toNat m Bs D 0) : SI9 NV b0 i 0 m Bs D N fc K := ⟨0, by omega, by rw [show (64 * i + 0).toNat = (64 * i).toNat by omega]; exact h, fun r hr => by omega, fun r _ _ _ => by omega⟩
/-- a flip that the set doesn't bear -/
theorem SI_n {NV : Int64 → Nat → Int64 → Prop} {b0 : Int64} {i a m : Int} {Bs : Nat → Int64} {D : Nat → Int} {N : Nat → Int64} {fc : Int} {K : Nat → Nat} (ha : 0 ≤ a) (h : SI9 NV b0 i a m Bs D N fc K) (e : ¬ Bs i.toNat &&& N a.toNat = N a.toNat) : SI9 NV b0 i (a + 1) m Bs D N fc K := by
  obtain ⟨k, k1, k2, k3, k4⟩ := h
  refine ⟨k, k1, k2, fun r hr w => ?_, fun r h1 h2 w => k4 r (by omega) h2 w⟩
  by_cases g : (r : Int) = a
  · rw [show r = a.toNat by omega] at w; exact absurd w e
  · exact k3 r (by omega) w
/-- a flip that the set bears: all steps up to its segment are done; what comes of it; the steps behind it -/
theorem SI_at {X Y A Bb : Nat → Int} {n : Int} {c : Nat} {m0 fc : Int} {N C : Nat → Int64} {b0 : Int64} {i a m : Int} {Bs : Nat → Int64} {D : Nat → Int} {K Q : Nat → Nat} (hs : os_s X Y n) (hO : OL (SGP X Y n) m0 A Bb) (hc : (c : Int) ≤ m0) (h63 : c ≤ 63) (hF : FS9 X Y A Bb n.toNat c N C fc K Q (fun _ _ => True)) (hX : LX9 X Y A Bb c Bs m) (hi : 0 ≤ i ∧ i < m) (h : SI9 (NV9 X Y A Bb n.toNat c) b0 i a m Bs D N fc K) (ha : 0 ≤ a ∧ a < fc) (e : Bs i.toNat &&& N a.toNat = N a.toNat) : RS9 (NV9 X Y A Bb n.toNat c) b0 (64 * i + (K a.toNat : Int)).toNat m Bs D 0 ∧ NV9 X Y A Bb n.toNat c (Bs i.toNat) (K a.toNat) (Bs i.toNat ^^^ C a.toNat) ∧ Bs i.toNat ^^^ C a.toNat ≠ 0 ∧ (K a.toNat : Int) < 64 ∧ ∀ (m' : Int) (Bs' : Nat → Int64) (D' : Nat → Int), Bs' i.toNat = Bs i.toNat → RS9 (NV9 X Y A Bb n.toNat c) b0 (64 * i + ((K a.toNat : Int) + 1)).toNat m' Bs' D' 0 → SI9 (NV9 X Y A Bb n.toNat c) b0 i (a + 1) m' Bs' D' N fc K := by
  obtain ⟨k, k1, k2, k3, k4⟩ := h
  obtain ⟨f, f1, f2⟩ := hX i.toNat (by omega)
  have fa := hF.2.1 a.toNat (by omega)
  have cf := cf_1 hO hc h63 fa.1 f2 f1 e
  have kc : K a.toNat < c := by obtain ⟨q, o, i1, i2, i3, i4, w, _⟩ := fa.1; exact w.1.1
  have le : ∀ r r' : Nat, r ≤ r' → (r' : Int) < fc → K r ≤ K r' := fun r r' h1 h2 => by
    by_cases g : r = r'
    · rw [g]; exact Nat.le_refl _
    · have := hF.2.2.1 r r' (by omega) h2; omega
  refine ⟨?_, ?_, cf.2.1, by omega, fun m' Bs' D' eB rs => ⟨(K a.toNat : Int) + 1, by omega, rs, fun r hr w => ?_, fun r h1 h2 w => ?_⟩⟩
  · refine RI_j hi.1 ⟨k1.1, k4 a.toNat (by omega) (by omega) e, by omega⟩ k2 hi.2 (fun j j1 j2 => ?_)
    refine cf_2 hs hO hc h63 hF f2 (fun r hr er w => ?_)
    by_cases g : (r : Int) < a
    · have := k3 r g w; omega
    · have := le a.toNat r (by omega) hr; omega
  · obtain ⟨o, fl, ev⟩ := cf.1
    exact Or.inl ⟨f, o, f1, f2, fl, ev⟩
  · have := le r a.toNat (by omega) (by omega); omega
  · have l := le a.toNat r (by omega) h2
    rw [eB] at w
    by_cases g : K a.toNat = K r
    · exact (cf_3 hs hO hc h63 hF f2 f1 (show a.toNat < r by omega) h2 g e w).elim
    · omega
/-- all flips of the set i are done -/
theorem SI_end {X Y A Bb : Nat → Int} {n : Int} {c : Nat} {m0 fc : Int} {N C : Nat → Int64} {b0 : Int64} {i a m : Int} {Bs : Nat → Int64} {D : Nat → Int} {K Q : Nat → Nat} (hs : os_s X Y n) (hO : OL (SGP X Y n) m0 A Bb) (hc : (c : Int) ≤ m0) (h63 : c ≤ 63) (hF : FS9 X Y A Bb n.toNat c N C fc K Q (fun _ _ => True)) (hX : LX9 X Y A Bb c Bs m) (hi : 0 ≤ i ∧ i < m) (h : SI9 (NV9 X Y A Bb n.toNat c) b0 i a m Bs D N fc K) (ha : fc ≤ a) : RS9 (NV9 X Y A Bb n.toNat c) b0 (64 * (i + 1)).toNat m Bs D 0 := by
  obtain ⟨k, k1, k2, k3, k4⟩ := h
  obtain ⟨f, f1, f2⟩ := hX i.toNat (by omega)
  rw [show (64 * (i + 1)).toNat = (64 * i + 64).toNat by omega]
  refine RI_j hi.1 ⟨k1.1, k1.2, by omega⟩ k2 hi.2 (fun j j1 j2 => ?_)
  refine cf_2 hs hO hc h63 hF f2 (fun r hr er w => ?_)
  have := k3 r (by omega) w
  omega


/-! ===== cuts: the class, method by method ===== -/
theorem rx_99 {u : CS} {i : Int} (h : 0 ≤ i ∧ i < 12) : rx u 9 i = u.1.1 9 i.toNat := if_pos (by rw [show (rl 9 : Int) = 12 from rfl]; exact h)
theorem ry_99 {u : CS} {i : Int} (h : 0 ≤ i ∧ i < 12) : ry9 u 9 i = u.1.2.1 9 i.toNat := if_pos (by rw [show (rl 9 : Int) = 12 from rfl]; exact h)
/-- points in order, their segments in order with their numbers -/
def MG9 (X Y : Nat → Int) (n c : Int) (A Bb S : Nat → Int) : Prop := (0 ≤ n ∧ n ≤ 12) ∧ os_s X Y n ∧ OL (SGP X Y n) c A Bb ∧ NTp (-1) X Y n c A Bb S (fun _ _ => True) ∧ c ≤ 63
def NB9 (S : Nat → Int) (a b z : Int) : Prop := (a < b ∧ z = S (12 * a + b).toNat) ∨ (b ≤ a ∧ z = S (12 * b + a).toNat)
/-- a flip noted -/
def NF9 (N C N' C' : Nat → Int64) (m m' k o i1 i2 i3 i4 : Int) : Prop := (¬ ((0 ≤ k ∧ 0 ≤ o ∧ 0 ≤ i1 ∧ 0 ≤ i2 ∧ 0 ≤ i3 ∧ 0 ≤ i4) ∧ m < 756) ∧ N' = N ∧ C' = C ∧ m' = m) ∨ (((0 ≤ k ∧ 0 ≤ o ∧ 0 ≤ i1 ∧ 0 ≤ i2 ∧ 0 ≤ i3 ∧ 0 ≤ i4) ∧ m < 756) ∧ N' = vp_updL N m.toNat ((((((1 : Int64) <<< ((J k).toInt64 &&& 63)) ||| ((1 : Int64) <<< ((J i1).toInt64 &&& 63))) ||| ((1 : Int64) <<< ((J i2).toInt64 &&& 63))) ||| ((1 : Int64) <<< ((J i3).toInt64 &&& 63))) ||| ((1 : Int64) <<< ((J i4).toInt64 &&& 63))) ∧ C' = vp_updL C m.toNat (((1 : Int64) <<< ((J k).toInt64 &&& 63)) ||| ((1 : Int64) <<< ((J o).toInt64 &&& 63))) ∧ m' = m + 1)
theorem gb_s1 {k : Int} (hk : 0 ≤ k ∧ k < 64) (i : Nat) : gb ((1 : Int64) <<< ((J k).toInt64 &&& 63)) i = true ↔ i = k.toNat := by
  have e : k = ((k.toNat : Nat) : Int) := by omega
  rw [e, gb_sh (show k.toNat < 64 by omega), Int.toNat_natCast]
  exact ⟨fun q => (of_decide_eq_true q).symm, fun q => decide_eq_true q.symm⟩
/-- what noteFlip does for the segment s, the point r and the fourth corner d -/
theorem NF_s {X Y A Bb S : Nat → Int} {n c m m' k o i1 i2 i3 i4 s r d : Int} {N C N' C' : Nat → Int64} (H : MG9 X Y n c A Bb S) (hs : 0 ≤ s ∧ s < c) (hr : 0 ≤ r ∧ r < n) (ht : tn X Y (A s.toNat).toNat (Bb s.toNat).toNat r.toNat = 1) (hm : 0 ≤ m ∧ m ≤ 12 * s + r) (h : FM9 X Y A Bb n.toNat c.toNat N C m (fun k p => (k : Int) < s ∨ ((k : Int) = s ∧ (p : Int) < r)))
    (hd : (d < 0 ∧ (∀ p : Nat, (p : Int) < n → ¬ (X p = X (A s.toNat).toNat + X (Bb s.toNat).toNat - X r.toNat ∧ Y p = Y (A s.toNat).toNat + Y (Bb s.toNat).toNat - Y r.toNat)) ∧ N' = N ∧ C' = C ∧ m' = m) ∨ ((0 ≤ d ∧ d < n) ∧ (X d.toNat = X (A s.toNat).toNat + X (Bb s.toNat).toNat - X r.toNat ∧ Y d.toNat = Y (A s.toNat).toNat + Y (Bb s.toNat).toNat - Y r.toNat) ∧ (NB9 S (A s.toNat) (Bb s.toNat) k ∧ NB9 S r d o ∧ NB9 S (A s.toNat) r i1 ∧ NB9 S (Bb s.toNat) r i2 ∧ NB9 S (A s.toNat) d i3 ∧ NB9 S (Bb s.toNat) d i4) ∧ NF9 N C N' C' m m' k o i1 i2 i3 i4)) :
    FM9 X Y A Bb n.toNat c.toNat N' C' m' (fun k p => (k : Int) < s ∨ ((k : Int) = s ∧ (p : Int) < r + 1)) ∧ m' ≤ 12 * s + (r + 1) := by
  obtain ⟨hn, hos, hO, hNT, h63⟩ := H
  have gs := (OL_in hO (a := s.toNat) (by omega)).1
  have eP : ∀ k p : Nat, ((k : Int) < s ∨ ((k : Int) = s ∧ (p : Int) < r + 1)) ↔ ((k : Int) < s ∨ ((k : Int) = s ∧ (p : Int) < r)) ∨ (k = s.toNat ∧ p = r.toNat) := fun k p => by omega
  rcases hd with ⟨_, hno, e1, e2, e3⟩ | ⟨hd1, hd2, ⟨b0, bo, b1, b2, b3, b4⟩, hf⟩
  · rw [e1, e2, e3]
    refine ⟨FM_n h eP (fun q o i1 i2 i3 i4 w => hno q (by have := w.1.2.2; omega) w.2.2.1), by omega⟩
  · have dd := dia_2 ht hd2.1 hd2.2
    have ne1 : A s.toNat ≠ r := fun e => by
      rw [e, show r.toNat = r.toNat from rfl, tn_ij] at ht; omega
    have ne2 : Bb s.toNat ≠ r := fun e => by rw [e, tn_jj] at ht; omega
    have ne3 : A s.toNat ≠ d := fun e => by
      have q := dd.1
      rw [e, tn_ij] at q; omega
    have ne4 : Bb s.toNat ≠ d := fun e => by
      have q := dd.1
      rw [e, tn_jj] at q; omega
    have ne5 : r ≠ d := fun e => by
      have q := dd.1
      rw [← e, ht] at q; omega
    have c0 := nb_s hO hNT (by omega) (by omega) (by omega) b0
    have co := nb_s hO hNT hr hd1 ne5 bo
    have c1 := nb_s hO hNT (by omega) hr ne1 b1
    have c2 := nb_s hO hNT (by omega) hr ne2 b2
    have c3 := nb_s hO hNT (by omega) hd1 ne3 b3
    have c4 := nb_s hO hNT (by omega) hd1 ne4 b4
    have PS : PA9 A Bb c.toNat s.toNat (A s.toNat).toNat (Bb s.toNat).toNat := ⟨by omega, Or.inl ⟨by omega, by omega⟩⟩
    rcases hf with ⟨g0, g1, g2, g3⟩ | ⟨⟨g0, g4⟩, g1, g2, g3⟩
    · rw [g1, g2, g3]
      refine ⟨FM_n h eP (fun q o' j1 j2 j3 j4 w => ?_), by omega⟩
      obtain ⟨⟨_, _, w1⟩, _, w2, w3, w4, w5, w6, w7⟩ := w
      have eq : q = d.toNat := os_u hos (by omega) (by omega) ⟨by omega, by omega⟩
      subst eq
      refine g0 ⟨⟨?_, ?_, ?_, ?_, ?_, ?_⟩, by omega⟩
      · rcases c0 with ⟨_, q⟩ | ⟨q, _⟩
        · exact absurd PS (q _)
        · omega
      · rcases co with ⟨_, q⟩ | ⟨q, _⟩
        · exact absurd w3 (q _)
        · omega
      · rcases c1 with ⟨_, q⟩ | ⟨q, _⟩
        · exact absurd w4 (q _)
        · omega
      · rcases c2 with ⟨_, q⟩ | ⟨q, _⟩
        · exact absurd w5 (q _)
        · omega
      · rcases c3 with ⟨_, q⟩ | ⟨q, _⟩
        · exact absurd w6 (q _)
        · omega
      · rcases c4 with ⟨_, q⟩ | ⟨q, _⟩
        · exact absurd w7 (q _)
        · omega
    · have d0 : (0 ≤ k ∧ k < c) ∧ PA9 A Bb c.toNat k.toNat (A s.toNat).toNat (Bb s.toNat).toNat := by rcases c0 with ⟨q, _⟩ | q; omega; exact q
      have do_ : (0 ≤ o ∧ o < c) ∧ PA9 A Bb c.toNat o.toNat r.toNat d.toNat := by rcases co with ⟨q, _⟩ | q; omega; exact q
      have d1 : (0 ≤ i1 ∧ i1 < c) ∧ PA9 A Bb c.toNat i1.toNat (A s.toNat).toNat r.toNat := by rcases c1 with ⟨q, _⟩ | q; omega; exact q
      have d2 : (0 ≤ i2 ∧ i2 < c) ∧ PA9 A Bb c.toNat i2.toNat (Bb s.toNat).toNat r.toNat := by rcases c2 with ⟨q, _⟩ | q; omega; exact q
      have d3 : (0 ≤ i3 ∧ i3 < c) ∧ PA9 A Bb c.toNat i3.toNat (A s.toNat).toNat d.toNat := by rcases c3 with ⟨q, _⟩ | q; omega; exact q
      have d4 : (0 ≤ i4 ∧ i4 < c) ∧ PA9 A Bb c.toNat i4.toNat (Bb s.toNat).toNat d.toNat := by rcases c4 with ⟨q, _⟩ | q; omega; exact q
      have ek : k.toNat = s.toNat := PA_u hO (by omega) d0.2 PS
      rw [g1, g2, g3]
      refine ⟨FM_y h eP (fun k p w => by omega) ⟨d.toNat, o.toNat, i1.toNat, i2.toNat, i3.toNat, i4.toNat, ⟨⟨by omega, by omega, by omega⟩, ht, hd2, do_.2, d1.2, d2.2, d3.2, d4.2⟩, fun i hi => ?_, fun i hi => ?_⟩, by omega⟩
      · rw [gb_or, gb_or, gb_or, gb_or, Bool.or_eq_true, Bool.or_eq_true, Bool.or_eq_true, Bool.or_eq_true, gb_s1 (by omega), gb_s1 (by omega), gb_s1 (by omega), gb_s1 (by omega), gb_s1 (by omega), ek]
        omega
      · rw [gb_or, Bool.or_eq_true, gb_s1 (by omega), gb_s1 (by omega), ek]
/-- the mesh of the points P, whole -/
def ML9 (P : Int → Int → Prop) (n : Int) (X Y A Bb S : Nat → Int) (c : Int) (W N C : Nat → Int64) (m : Int) : Prop := OL P n X Y ∧ MG9 X Y n c A Bb S ∧ (∀ s : Nat, (s : Int) < c → CR9 X Y A Bb c.toNat (W s) s) ∧ FM9 X Y A Bb n.toNat c.toNat N C m (fun _ _ => True)
/-- places of the sets: the class -/
def VC9 (W : Nat → Int) (p : Nat) : Int := W p - 1
def hC9 (x : Int64) : Nat := (J (Int64.toInt32 ((x * (-7046029254386353131)).toUInt64 >>> ((J 52).toInt64.toUInt64 &&& Int64.toUInt64 63)).toInt64).toInt &&& J 4095).toInt.toNat
/-- what enter does -/
def ET9 (Bs Bs' : Nat → Int64) (D D' W W' : Nat → Int) (m m' s s' : Int) (x : Int64) (st : Int) : Prop := HT9 hC9 (VC9 W) Bs m → m ≤ 1500 → HT9 hC9 (VC9 W') Bs' m' ∧ (((∃ q : Nat, (q : Int) < m ∧ Bs q = x) ∧ Bs' = Bs ∧ D' = D ∧ m' = m ∧ s' = s) ∨ ((∀ q : Nat, (q : Int) < m → Bs q ≠ x) ∧ ((m = 1500 ∧ Bs' = Bs ∧ D' = D ∧ m' = m ∧ s' = 1) ∨ (m < 1500 ∧ Bs' = vp_updL Bs m.toNat x ∧ D' = upI D m.toNat st ∧ m' = m + 1 ∧ s' = s))))


set_option maxHeartbeats 4000000 in
set_option maxRecDepth 100000 in
theorem c_X6_turn_9t (l : Launch) (D : JD) (q : Nat → Nat) (u : CS) (i : Int) (j : Int) (k : Int) (p0 : RB 40 u 9) (p1 : -2147483648 ≤ i ∧ i ≤ 2147483647) (p2 : -2147483648 ≤ j ∧ j ≤ 2147483647) (p3 : -2147483648 ≤ k ∧ k ≤ 2147483647) : Met l yX6_turn (jw yX6_turn cX6_turn 4 (some .int)) (jr 1 21) (jP [.ref (q (9 + 5 * 9)), .int (J i), .int (J j), .int (J k)] D (fun H => va_P D.1 j_cl (cW D q u) H)) (jRi (fun z => (-12800 ≤ z ∧ z ≤ 12800) ∧ ((0 ≤ i ∧ i < 12) → (0 ≤ j ∧ j < 12) → (0 ≤ k ∧ k < 12) → z = tn (u.1.1 9) (u.1.2.1 9) i.toNat j.toNat k.toNat))) 0 0 (fun _ => False) := by
  refine Met.ofW (cc := cX6_turn) (maxL := 4) (ret := (some .int)) (by decide) rfl ?_
  intro pr en st mi args below meth co s₁ B hml hv
  obtain ⟨rfl, hG, hP⟩ := hv
  have hr := B.returns
  have hlk := B.notSynchronized
  have SS : jS pr mi co cX6_turn 4 st _ RX6 := ⟨B.exec, B.bytes, hml, findClass_of_methodNamed B.named, fun w hw => atoms_spec (ws := (jw yX6_turn cX6_turn 4 (some .int))) B.pre w (List.mem_cons_of_mem _ hw)⟩
  have hl := lv_entry ([.ref (q (9 + 5 * 9)), .int (J i), .int (J j), .int (J k)]) (n := 4) (Nat.le_of_ble_eq_true rfl)
  rw [lg_entry_eq]
  generalize (lg_sl ([.ref (q (9 + 5 * 9)), .int (J i), .int (J j), .int (J k)]) ++ List.replicate (4 - (lg_sl ([.ref (q (9 + 5 * 9)), .int (J i), .int (J j), .int (J k)])).length) Slot.unset).toArray = ls at hl ⊢
  have hl : lv_has ls 4 [(0, .ref (q (9 + 5 * 9))), (1, .int (J i)), (2, .int (J j)), (3, .int (J k))] := hl
  refine lv_aload_n SS.1 SS.2.1 dX6_turn_0 rfl (lv_at hl 0 rfl) ?_
  refine lv_iload_n SS.1 SS.2.1 dX6_turn_1 rfl (lv_at hl 2 rfl) ?_
  refine j_uRi SS (As := [.int (J j)]) (rest := []) (c_X8_xP l D q u 9 (by omega) j (show -2147483648 ≤ j ∧ j ≤ 2147483647 from (p2))) mu_6_x kw_908 hG hP hP (ci := 6) (q0 := (9 + 5 * 9)) rfl (cw_pts (by omega)) rfl rfl hl.1 ⟨⟨Nat.le_of_ble_eq_true rfl, Nat.le_of_ble_eq_true rfl⟩, Nat.le_of_ble_eq_true rfl, Nat.le_refl _, Nat.le_refl _⟩ rfl dX6_turn_2 (fun z_2 h_2 => ?_)
  have h_2 : z_2 = rx u 9 j ∧ ∀ K : Int, 0 ≤ K → RB K u 9 → -K ≤ z_2 ∧ z_2 ≤ K := h_2
  have hb_2 := h_2.2 40 (by omega) (p0)
  refine lv_aload_n SS.1 SS.2.1 dX6_turn_5 rfl (lv_at hl 0 rfl) ?_
  refine lv_iload_n SS.1 SS.2.1 dX6_turn_6 rfl (lv_at hl 1 rfl) ?_
  refine j_uRi SS (As := [.int (J i)]) (rest := [.int (J z_2)]) (c_X8_xP l D q u 9 (by omega) i (show -2147483648 ≤ i ∧ i ≤ 2147483647 from (p1))) mu_6_x kw_908 hG hP hP (ci := 6) (q0 := (9 + 5 * 9)) rfl (cw_pts (by omega)) rfl rfl hl.1 ⟨⟨Nat.le_of_ble_eq_true rfl, Nat.le_of_ble_eq_true rfl⟩, Nat.le_of_ble_eq_true rfl, Nat.le_refl _, Nat.le_refl _⟩ rfl dX6_turn_7 (fun z_7 h_7 => ?_)
  have h_7 : z_7 = rx u 9 i ∧ ∀ K : Int, 0 ≤ K → RB K u 9 → -K ≤ z_7 ∧ z_7 ≤ K := h_7
  have hb_7 := h_7.2 40 (by omega) (p0)
  refine j_isub SS (x := z_2) (y := z_7) dX6_turn_10 ?_
  refine lv_aload_n SS.1 SS.2.1 dX6_turn_11 rfl (lv_at hl 0 rfl) ?_
  refine lv_iload_n SS.1 SS.2.1 dX6_turn_12 rfl (lv_at hl 3 rfl) ?_
  refine j_uRi SS (As := [.int (J k)]) (rest := [.int (J (z_2 - z_7))]) (c_X8_yP l D q u 9 (by omega) k (show -2147483648 ≤ k ∧ k ≤ 2147483647 from (p3))) mu_6_y kw_909 hG hP hP (ci := 6) (q0 := (9 + 5 * 9)) rfl (cw_pts (by omega)) rfl rfl hl.1 ⟨⟨Nat.le_of_ble_eq_true rfl, Nat.le_of_ble_eq_true rfl⟩, Nat.le_of_ble_eq_true rfl, Nat.le_refl _, Nat.le_refl _⟩ rfl dX6_turn_13 (fun z_13 h_13 => ?_)
  have h_13 : z_13 = ry9 u 9 k ∧ ∀ K : Int, 0 ≤ K → RB K u 9 → -K ≤ z_13 ∧ z_13 ≤ K := h_13
  have hb_13 := h_13.2 40 (by omega) (p0)
  refine lv_aload_n SS.1 SS.2.1 dX6_turn_16 rfl (lv_at hl 0 rfl) ?_
  refine lv_iload_n SS.1 SS.2.1 dX6_turn_17 rfl (lv_at hl 1 rfl) ?_
  refine j_uRi SS (As := [.int (J i)]) (rest := [.int (J z_13), .int (J (z_2 - z_7))]) (c_X8_yP l D q u 9 (by omega) i (show -2147483648 ≤ i ∧ i ≤ 2147483647 from (p1))) mu_6_y kw_909 hG hP hP (ci := 6) (q0 := (9 + 5 * 9)) rfl (cw_pts (by omega)) rfl rfl hl.1 ⟨⟨Nat.le_of_ble_eq_true rfl, Nat.le_of_ble_eq_true rfl⟩, Nat.le_of_ble_eq_true rfl, Nat.le_refl _, Nat.le_refl _⟩ rfl dX6_turn_18 (fun z_18 h_18 => ?_)
  have h_18 : z_18 = ry9 u 9 i ∧ ∀ K : Int, 0 ≤ K → RB K u 9 → -K ≤ z_18 ∧ z_18 ≤ K := h_18
  have hb_18 := h_18.2 40 (by omega) (p0)
  refine j_isub SS (x := z_13) (y := z_18) dX6_turn_21 ?_
  refine j_imul SS (x := (z_2 - z_7)) (y := (z_13 - z_18)) dX6_turn_22 ?_
  refine lv_aload_n SS.1 SS.2.1 dX6_turn_23 rfl (lv_at hl 0 rfl) ?_
  refine lv_iload_n SS.1 SS.2.1 dX6_turn_24 rfl (lv_at hl 2 rfl) ?_
  refine j_uRi SS (As := [.int (J j)]) (rest := [.int (J ((z_2 - z_7) * (z_13 - z_18)))]) (c_X8_yP l D q u 9 (by omega) j (show -2147483648 ≤ j ∧ j ≤ 2147483647 from (p2))) mu_6_y kw_909 hG hP hP (ci := 6) (q0 := (9 + 5 * 9)) rfl (cw_pts (by omega)) rfl rfl hl.1 ⟨⟨Nat.le_of_ble_eq_true rfl, Nat.le_of_ble_eq_true rfl⟩, Nat.le_of_ble_eq_true rfl, Nat.le_refl _, Nat.le_refl _⟩ rfl dX6_turn_25 (fun z_25 h_25 => ?_)
  have h_25 : z_25 = ry9 u 9 j ∧ ∀ K : Int, 0 ≤ K → RB K u 9 → -K ≤ z_25 ∧ z_25 ≤ K := h_25
  have hb_25 := h_25.2 40 (by omega) (p0)
  refine lv_aload_n SS.1 SS.2.1 dX6_turn_28 rfl (lv_at hl 0 rfl) ?_
  refine lv_iload_n SS.1 SS.2.1 dX6_turn_29 rfl (lv_at hl 1 rfl) ?_
  refine j_uRi SS (As := [.int (J i)]) (rest := [.int (J z_25), .int (J ((z_2 - z_7) * (z_13 - z_18)))]) (c_X8_yP l D q u 9 (by omega) i (show -2147483648 ≤ i ∧ i ≤ 2147483647 from (p1))) mu_6_y kw_909 hG hP hP (ci := 6) (q0 := (9 + 5 * 9)) rfl (cw_pts (by omega)) rfl rfl hl.1 ⟨⟨Nat.le_of_ble_eq_true rfl, Nat.le_of_ble_eq_true rfl⟩, Nat.le_of_ble_eq_true rfl, Nat.le_refl _, Nat.le_refl _⟩ rfl dX6_turn_30 (fun z_30 h_30 => ?_)
  have h_30 : z_30 = ry9 u 9 i ∧ ∀ K : Int, 0 ≤ K → RB K u 9 → -K ≤ z_30 ∧ z_30 ≤ K := h_30
  have hb_30 := h_30.2 40 (by omega) (p0)
  refine j_isub SS (x := z_25) (y := z_30) dX6_turn_33 ?_
  refine lv_aload_n SS.1 SS.2.1 dX6_turn_34 rfl (lv_at hl 0 rfl) ?_
  refine lv_iload_n SS.1 SS.2.1 dX6_turn_35 rfl (lv_at hl 3 rfl) ?_
  refine j_uRi SS (As := [.int (J k)]) (rest := [.int (J (z_25 - z_30)), .int (J ((z_2 - z_7) * (z_13 - z_18)))]) (c_X8_xP l D q u 9 (by omega) k (show -2147483648 ≤ k ∧ k ≤ 2147483647 from (p3))) mu_6_x kw_908 hG hP hP (ci := 6) (q0 := (9 + 5 * 9)) rfl (cw_pts (by omega)) rfl rfl hl.1 ⟨⟨Nat.le_of_ble_eq_true rfl, Nat.le_of_ble_eq_true rfl⟩, Nat.le_of_ble_eq_true rfl, Nat.le_refl _, Nat.le_refl _⟩ rfl dX6_turn_36 (fun z_36 h_36 => ?_)
  have h_36 : z_36 = rx u 9 k ∧ ∀ K : Int, 0 ≤ K → RB K u 9 → -K ≤ z_36 ∧ z_36 ≤ K := h_36
  have hb_36 := h_36.2 40 (by omega) (p0)
  refine lv_aload_n SS.1 SS.2.1 dX6_turn_39 rfl (lv_at hl 0 rfl) ?_
  refine lv_iload_n SS.1 SS.2.1 dX6_turn_40 rfl (lv_at hl 1 rfl) ?_
  refine j_uRi SS (As := [.int (J i)]) (rest := [.int (J z_36), .int (J (z_25 - z_30)), .int (J ((z_2 - z_7) * (z_13 - z_18)))]) (c_X8_xP l D q u 9 (by omega) i (show -2147483648 ≤ i ∧ i ≤ 2147483647 from (p1))) mu_6_x kw_908 hG hP hP (ci := 6) (q0 := (9 + 5 * 9)) rfl (cw_pts (by omega)) rfl rfl hl.1 ⟨⟨Nat.le_of_ble_eq_true rfl, Nat.le_of_ble_eq_true rfl⟩, Nat.le_of_ble_eq_true rfl, Nat.le_refl _, Nat.le_refl _⟩ rfl dX6_turn_41 (fun z_41 h_41 => ?_)
  have h_41 : z_41 = rx u 9 i ∧ ∀ K : Int, 0 ≤ K → RB K u 9 → -K ≤ z_41 ∧ z_41 ≤ K := h_41
  have hb_41 := h_41.2 40 (by omega) (p0)
  refine j_isub SS (x := z_36) (y := z_41) dX6_turn_44 ?_
  refine j_imul SS (x := (z_25 - z_30)) (y := (z_36 - z_41)) dX6_turn_45 ?_
  refine j_isub SS (x := ((z_2 - z_7) * (z_13 - z_18))) (y := ((z_25 - z_30) * (z_36 - z_41))) dX6_turn_46 ?_
  have m1 := mulb (A := 80) (B := 80) (a := z_2 - z_7) (b := z_13 - z_18) (by omega) (by omega)
  have m2 := mulb (A := 80) (B := 80) (a := z_25 - z_30) (b := z_36 - z_41) (by omega) (by omega)
  exact W.iret SS.1 SS.2.1 hr (fun t0 ht hW => ⟨_, rfl, ⟨(((z_2 - z_7) * (z_13 - z_18)) - ((z_25 - z_30) * (z_36 - z_41))), rfl, (⟨by omega, fun q1 q2 q3 => by rw [h_2.1.trans (rx_99 q2), h_7.1.trans (rx_99 q1), h_13.1.trans (ry_99 q3), h_18.1.trans (ry_99 q1), h_25.1.trans (ry_99 q2), h_30.1.trans (ry_99 q1), h_36.1.trans (rx_99 q3), h_41.1.trans (rx_99 q1)]; rfl⟩)⟩, ht⟩) (fun _ h => nomatch h) dX6_turn_47 hlk

set_option maxHeartbeats 4000000 in
set_option maxRecDepth 100000 in
theorem c_X6_find3 (l : Launch) (D : JD) (q : Nat → Nat) (u : CS) (x : Int) (y : Int) (p0 : RB 40 u 9) (p1 : -2147483648 ≤ x ∧ x ≤ 2147483647) (p2 : -2147483648 ≤ y ∧ y ≤ 2147483647) : Met l yX6_find (jw yX6_find cX6_find 4 (some .int)) (jr 1 21) (jP [.ref (q (9 + 5 * 9)), .int (J x), .int (J y)] D (fun H => va_P D.1 j_cl (cW D q u) H)) (jRi (fun z => (-1 ≤ z ∧ z ≤ 11) ∧ ((z = -1 ∧ ∀ p : Nat, (p : Int) < u.1.2.2.1 9 → ¬ (u.1.1 9 p = x ∧ u.1.2.1 9 p = y)) ∨ ((0 ≤ z ∧ z < u.1.2.2.1 9) ∧ u.1.1 9 z.toNat = x ∧ u.1.2.1 9 z.toNat = y)))) 0 0 (fun _ => False) := by
  refine Met.ofW (cc := cX6_find) (maxL := 4) (ret := (some .int)) (by decide) rfl ?_
  intro pr en st mi args below meth co s₁ B hml hv
  obtain ⟨rfl, hG, hP⟩ := hv
  have hr := B.returns
  have hlk := B.notSynchronized
  have SS : jS pr mi co cX6_find 4 st _ RX6 := ⟨B.exec, B.bytes, hml, findClass_of_methodNamed B.named, fun w hw => atoms_spec (ws := (jw yX6_find cX6_find 4 (some .int))) B.pre w (List.mem_cons_of_mem _ hw)⟩
  have hl := lv_entry ([.ref (q (9 + 5 * 9)), .int (J x), .int (J y)]) (n := 4) (Nat.le_of_ble_eq_true rfl)
  rw [lg_entry_eq]
  generalize (lg_sl ([.ref (q (9 + 5 * 9)), .int (J x), .int (J y)]) ++ List.replicate (4 - (lg_sl ([.ref (q (9 + 5 * 9)), .int (J x), .int (J y)])).length) Slot.unset).toArray = ls at hl ⊢
  have hl : lv_has ls 4 [(0, .ref (q (9 + 5 * 9))), (1, .int (J x)), (2, .int (J y))] := hl
  have hc := p0.1
  have hrk : (rl 9 : Int) = 12 := rfl
  refine j_iconst SS dX6_find_0 ?_
  refine lv_istore_n (lv' := [(3, .int (J 0)), (0, .ref (q (9 + 5 * 9))), (1, .int (J x)), (2, .int (J y))]) SS.1 SS.2.1 dX6_find_1 rfl hl (by decide) rfl (fun ls hl => ?_)
  have L_2 : ∀ (nn : Nat) (i : Int) (ls : Array Slot) (hl : lv_has ls 4 [(0, .ref (q (9 + 5 * 9))), (1, .int (J x)), (2, .int (J y)), (3, .int (J i))]) (i2_0 : 0 ≤ i ∧ i ≤ u.1.2.2.1 9) (i2_1 : ∀ p : Nat, (p : Int) < i → ¬ (u.1.1 9 p = x ∧ u.1.2.1 9 p = y)), (u.1.2.2.1 9 - i).toNat < nn → W pr l en (headSpec (jw yX6_find cX6_find 4 (some .int)) (jr 1 21)).room st mi (([.ref (q (9 + 5 * 9)), .int (J x), .int (J y)] : List Value).toArray) below meth co st.heap [] 0 0 (MQ below (jRi (fun z => (-1 ≤ z ∧ z ≤ 11) ∧ ((z = -1 ∧ ∀ p : Nat, (p : Int) < u.1.2.2.1 9 → ¬ (u.1.1 9 p = x ∧ u.1.2.1 9 p = y)) ∨ ((0 ≤ z ∧ z < u.1.2.2.1 9) ∧ u.1.1 9 z.toNat = x ∧ u.1.2.1 9 z.toNat = y)))) (([.ref (q (9 + 5 * 9)), .int (J x), .int (J y)] : List Value).toArray) st 0 0 (fun _ => False)) (F0 mi 2 ls []) := by
    intro nn
    induction nn with
    | zero => intros; omega
    | succ nn ih_2 =>
      intro i ls hl i2_0 i2_1 hm
      refine lv_iload_n SS.1 SS.2.1 dX6_find_2 rfl (lv_at hl 3 rfl) ?_
      refine lv_aload_n SS.1 SS.2.1 dX6_find_3 rfl (lv_at hl 0 rfl) ?_
      refine j_getS SS hG hP (9 + 5 * 9) (v := .int (J (u.1.2.2.1 9))) (C := RX6) (T := TX6) (N := 3) (cw_pts (by omega)) rfl inX6 2 (by decide) (ref := "GridPolygons$Points") kw_133 kw_134 rfl dX6_find_4 ?_
      refine j_icmp_ge SS (tgt := 36) (x := i) (y := (u.1.2.2.1 9)) dX6_find_7 (by decide) (by omega) (by omega) (fun c_7 => ?_) (fun c_7 => ?_)
      · skip
        refine j_iconst SS dX6_find_36 ?_
        exact W.iret SS.1 SS.2.1 hr (fun t0 ht hW => ⟨_, rfl, ⟨(-1), rfl, (⟨by omega, Or.inl ⟨rfl, fun p9 hp9 => i2_1 p9 (by omega)⟩⟩)⟩, ht⟩) (fun _ h => nomatch h) dX6_find_37 hlk
      · skip
        refine lv_aload_n SS.1 SS.2.1 dX6_find_10 rfl (lv_at hl 0 rfl) ?_
        refine lv_iload_n SS.1 SS.2.1 dX6_find_11 rfl (lv_at hl 3 rfl) ?_
        refine j_uRi SS (As := [.int (J i)]) (rest := []) (c_X8_xP l D q u 9 (by omega) i (show -2147483648 ≤ i ∧ i ≤ 2147483647 from (by omega))) mu_6_x kw_908 hG hP hP (ci := 6) (q0 := (9 + 5 * 9)) rfl (cw_pts (by omega)) rfl rfl hl.1 ⟨⟨Nat.le_of_ble_eq_true rfl, Nat.le_of_ble_eq_true rfl⟩, Nat.le_of_ble_eq_true rfl, Nat.le_refl _, Nat.le_refl _⟩ rfl dX6_find_12 (fun z_12 h_12 => ?_)
        have h_12 : z_12 = rx u 9 i ∧ ∀ K : Int, 0 ≤ K → RB K u 9 → -K ≤ z_12 ∧ z_12 ≤ K := h_12
        have hb_12 := h_12.2 40 (by omega) (p0)
        have e12 : z_12 = u.1.1 9 i.toNat := h_12.1.trans (rx_99 (by omega))
        refine lv_iload_n SS.1 SS.2.1 dX6_find_15 rfl (lv_at hl 1 rfl) ?_
        refine j_icmp_ne SS (tgt := 30) (x := z_12) (y := x) dX6_find_16 (by decide) (by omega) (by omega) (fun c_16 => ?_) (fun c_16 => ?_)
        · skip
          refine lv_iinc (v := J (i + 1)) (lv' := [(3, .int (J (i + 1))), (0, .ref (q (9 + 5 * 9))), (1, .int (J x)), (2, .int (J y))]) SS.1 SS.2.1 dX6_find_30 hl (k := 3) rfl (J_add _ _) (by decide) rfl (fun ls hl => ?_)
          refine lv_goto (tgt := 2) SS.1 SS.2.1 dX6_find_33 (by decide) ?_
          exact ih_2 (i + 1) ls (lv_sub hl [1, 2, 3, 0] rfl) (by omega) (fun p9 hp9 w9 => by by_cases e9 : (p9 : Int) = i; (rw [show p9 = i.toNat by omega] at w9; omega); exact i2_1 p9 (by omega) w9) (by omega)
        · skip
          refine lv_aload_n SS.1 SS.2.1 dX6_find_19 rfl (lv_at hl 0 rfl) ?_
          refine lv_iload_n SS.1 SS.2.1 dX6_find_20 rfl (lv_at hl 3 rfl) ?_
          refine j_uRi SS (As := [.int (J i)]) (rest := []) (c_X8_yP l D q u 9 (by omega) i (show -2147483648 ≤ i ∧ i ≤ 2147483647 from (by omega))) mu_6_y kw_909 hG hP hP (ci := 6) (q0 := (9 + 5 * 9)) rfl (cw_pts (by omega)) rfl rfl hl.1 ⟨⟨Nat.le_of_ble_eq_true rfl, Nat.le_of_ble_eq_true rfl⟩, Nat.le_of_ble_eq_true rfl, Nat.le_refl _, Nat.le_refl _⟩ rfl dX6_find_21 (fun z_21 h_21 => ?_)
          have h_21 : z_21 = ry9 u 9 i ∧ ∀ K : Int, 0 ≤ K → RB K u 9 → -K ≤ z_21 ∧ z_21 ≤ K := h_21
          have hb_21 := h_21.2 40 (by omega) (p0)
          have e21 : z_21 = u.1.2.1 9 i.toNat := h_21.1.trans (ry_99 (by omega))
          refine lv_iload_n SS.1 SS.2.1 dX6_find_24 rfl (lv_at hl 2 rfl) ?_
          refine j_icmp_ne SS (tgt := 30) (x := z_21) (y := y) dX6_find_25 (by decide) (by omega) (by omega) (fun c_25 => ?_) (fun c_25 => ?_)
          · skip
            refine lv_iinc (v := J (i + 1)) (lv' := [(3, .int (J (i + 1))), (0, .ref (q (9 + 5 * 9))), (1, .int (J x)), (2, .int (J y))]) SS.1 SS.2.1 dX6_find_30 hl (k := 3) rfl (J_add _ _) (by decide) rfl (fun ls hl => ?_)
            refine lv_goto (tgt := 2) SS.1 SS.2.1 dX6_find_33 (by decide) ?_
            exact ih_2 (i + 1) ls (lv_sub hl [1, 2, 3, 0] rfl) (by omega) (fun p9 hp9 w9 => by by_cases e9 : (p9 : Int) = i; (rw [show p9 = i.toNat by omega] at w9; omega); exact i2_1 p9 (by omega) w9) (by omega)
          · skip
            refine lv_iload_n SS.1 SS.2.1 dX6_find_28 rfl (lv_at hl 3 rfl) ?_
            exact W.iret SS.1 SS.2.1 hr (fun t0 ht hW => ⟨_, rfl, ⟨i, rfl, (⟨by omega, Or.inr ⟨by omega, by omega, by omega⟩⟩)⟩, ht⟩) (fun _ h => nomatch h) dX6_find_29 hlk
  exact L_2 ((u.1.2.2.1 9 - (0 : Int)).toNat + 1) 0 ls (lv_sub hl [1, 2, 3, 0] rfl) (by omega) (fun p hp => by omega) (Nat.lt_succ_self _)

set_option maxHeartbeats 4000000 in
set_option maxRecDepth 100000 in
theorem c_X5_number3 (l : Launch) (D : JD) (q : Nat → Nat) (u : CS) (a : Int) (b : Int) (p0 : 0 ≤ a ∧ a ≤ 12) (p1 : 0 ≤ b ∧ b ≤ 12) (p2 : ∀ k : Nat, -1 ≤ u.2.1 4 k ∧ u.2.1 4 k ≤ 63) : Met l yX5_number (jw yX5_number cX5_number 4 (some .int)) (jr 1 21) (jP [.ref (q 66), .int (J a), .int (J b)] D (fun H => va_P D.1 j_cl (cW D q u) H)) (jRi (fun z => (-1 ≤ z ∧ z ≤ 63) ∧ ((0 ≤ a ∧ a < 12) → (0 ≤ b ∧ b < 12) → NB9 (u.2.1 4) a b z))) 0 0 (fun _ => False) := by
  refine Met.ofW (cc := cX5_number) (maxL := 4) (ret := (some .int)) (by decide) rfl ?_
  intro pr en st mi args below meth co s₁ B hml hv
  obtain ⟨rfl, hG, hP⟩ := hv
  have hr := B.returns
  have hlk := B.notSynchronized
  have SS : jS pr mi co cX5_number 4 st _ RX5 := ⟨B.exec, B.bytes, hml, findClass_of_methodNamed B.named, fun w hw => atoms_spec (ws := (jw yX5_number cX5_number 4 (some .int))) B.pre w (List.mem_cons_of_mem _ hw)⟩
  have hl := lv_entry ([.ref (q 66), .int (J a), .int (J b)]) (n := 4) (Nat.le_of_ble_eq_true rfl)
  rw [lg_entry_eq]
  generalize (lg_sl ([.ref (q 66), .int (J a), .int (J b)]) ++ List.replicate (4 - (lg_sl ([.ref (q 66), .int (J a), .int (J b)])).length) Slot.unset).toArray = ls at hl ⊢
  have hl : lv_has ls 4 [(0, .ref (q 66)), (1, .int (J a)), (2, .int (J b))] := hl
  refine lv_iload_n SS.1 SS.2.1 dX5_number_0 rfl (lv_at hl 1 rfl) ?_
  refine lv_iload_n SS.1 SS.2.1 dX5_number_1 rfl (lv_at hl 2 rfl) ?_
  refine j_sRi SS (As := [.int (J a), .int (J b)]) (rest := []) (c_J9_min_7cf53 l D  a b (show -2147483648 ≤ a ∧ a ≤ 2147483647 from (by omega)) (show -2147483648 ≤ b ∧ b ≤ 2147483647 from (by omega))) mf_J9_min_7cf53 kw_926 hG trivial rfl hl.1 ⟨⟨Nat.le_of_ble_eq_true rfl, Nat.le_of_ble_eq_true rfl⟩, Nat.le_of_ble_eq_true rfl, Nat.le_refl _, Nat.le_refl _⟩ rfl dX5_number_2 (fun z_2 h_2 => ?_)
  have h_2 : (z_2 = a ∨ z_2 = b) ∧ z_2 ≤ a ∧ z_2 ≤ b := h_2
  refine j_bipush SS dX5_number_5 (by decide +kernel) ?_
  refine j_imul SS (x := z_2) (y := 12) dX5_number_7 ?_
  refine lv_iload_n SS.1 SS.2.1 dX5_number_8 rfl (lv_at hl 1 rfl) ?_
  refine lv_iload_n SS.1 SS.2.1 dX5_number_9 rfl (lv_at hl 2 rfl) ?_
  refine j_sRi SS (As := [.int (J a), .int (J b)]) (rest := [.int (J (z_2 * 12))]) (c_J9_max_7cf53 l D  a b (show -2147483648 ≤ a ∧ a ≤ 2147483647 from (by omega)) (show -2147483648 ≤ b ∧ b ≤ 2147483647 from (by omega))) mf_J9_max_7cf53 kw_927 hG trivial rfl hl.1 ⟨⟨Nat.le_of_ble_eq_true rfl, Nat.le_of_ble_eq_true rfl⟩, Nat.le_of_ble_eq_true rfl, Nat.le_refl _, Nat.le_refl _⟩ rfl dX5_number_10 (fun z_10 h_10 => ?_)
  have h_10 : (z_10 = a ∨ z_10 = b) ∧ a ≤ z_10 ∧ b ≤ z_10 := h_10
  refine j_iadd SS (x := (z_2 * 12)) (y := z_10) dX5_number_13 ?_
  refine lv_istore_n (lv' := [(3, .int (J ((z_2 * 12) + z_10))), (0, .ref (q 66)), (1, .int (J a)), (2, .int (J b))]) SS.1 SS.2.1 dX5_number_14 rfl hl (by decide) rfl (fun ls hl => ?_)
  refine lv_iload_n SS.1 SS.2.1 dX5_number_15 rfl (lv_at hl 0 rfl) ?_
  refine j_if_lt SS (tgt := 28) (x := ((z_2 * 12) + z_10)) dX5_number_16 (by decide) (by omega) (fun c_16 => ?_) (fun c_16 => ?_)
  · skip
    refine j_iconst SS dX5_number_28 ?_
    refine lv_goto (tgt := 38) SS.1 SS.2.1 dX5_number_29 (by decide) ?_
    exact W.iret SS.1 SS.2.1 hr (fun t0 ht hW => ⟨_, rfl, ⟨(-1), rfl, (by first | exact ⟨by omega, fun q1 q2 => by exfalso; omega⟩ | (have lp9 := p2 ((z_2 * 12) + z_10).toNat; exact ⟨lp9, fun q1 q2 => by by_cases e9 : a < b; exact Or.inl ⟨e9, by rw [show (z_2 * 12) + z_10 = 12 * a + b by omega]⟩; exact Or.inr ⟨by omega, by rw [show (z_2 * 12) + z_10 = 12 * b + a by omega]⟩⟩))⟩, ht⟩) (fun _ h => nomatch h) dX5_number_38 hlk
  · skip
    refine lv_iload_n SS.1 SS.2.1 dX5_number_19 rfl (lv_at hl 0 rfl) ?_
    refine lv_aload_n SS.1 SS.2.1 dX5_number_20 rfl (lv_at hl 1 rfl) ?_
    refine j_get SS hG hP 66 (v := .ref (q 58)) (C := RX5) (T := TX5) (N := 9) rfl rfl inX5 4 (by decide) (ref := "GridPolygons$Mesh") kw_314 rfl rfl dX5_number_21 ?_
    refine va_alen SS.1 SS.2.1 hG.1 hP 58 0 rfl rfl (v := J (144 : Int)) (by first | rfl | exact J_nat _) dX5_number_24 ?_
    refine j_icmp_lt SS (tgt := 32) (x := ((z_2 * 12) + z_10)) (y := 144) dX5_number_25 (by decide) (by omega) (by decide) (fun c_25 => ?_) (fun c_25 => ?_)
    · skip
      refine lv_aload_n SS.1 SS.2.1 dX5_number_32 rfl (lv_at hl 1 rfl) ?_
      refine j_get SS hG hP 66 (v := .ref (q 58)) (C := RX5) (T := TX5) (N := 9) rfl rfl inX5 4 (by decide) (ref := "GridPolygons$Mesh") kw_314 rfl rfl dX5_number_33 ?_
      refine lv_iload_n SS.1 SS.2.1 dX5_number_36 rfl (lv_at hl 0 rfl) ?_
      refine j_iald SS hG hP 58 (n := 144) (f := (u.2.1 4)) rfl (z := ((z_2 * 12) + z_10)) (by omega) (by omega) dX5_number_37 ?_
      exact W.iret SS.1 SS.2.1 hr (fun t0 ht hW => ⟨_, rfl, ⟨((u.2.1 4) (((z_2 * 12) + z_10)).toNat), rfl, (by first | exact ⟨by omega, fun q1 q2 => by exfalso; omega⟩ | (have lp9 := p2 ((z_2 * 12) + z_10).toNat; exact ⟨lp9, fun q1 q2 => by by_cases e9 : a < b; exact Or.inl ⟨e9, by rw [show (z_2 * 12) + z_10 = 12 * a + b by omega]⟩; exact Or.inr ⟨by omega, by rw [show (z_2 * 12) + z_10 = 12 * b + a by omega]⟩⟩))⟩, ht⟩) (fun _ h => nomatch h) dX5_number_38 hlk
    · skip
      refine j_iconst SS dX5_number_28 ?_
      refine lv_goto (tgt := 38) SS.1 SS.2.1 dX5_number_29 (by decide) ?_
      exact W.iret SS.1 SS.2.1 hr (fun t0 ht hW => ⟨_, rfl, ⟨(-1), rfl, (by first | exact ⟨by omega, fun q1 q2 => by exfalso; omega⟩ | (have lp9 := p2 ((z_2 * 12) + z_10).toNat; exact ⟨lp9, fun q1 q2 => by by_cases e9 : a < b; exact Or.inl ⟨e9, by rw [show (z_2 * 12) + z_10 = 12 * a + b by omega]⟩; exact Or.inr ⟨by omega, by rw [show (z_2 * 12) + z_10 = 12 * b + a by omega]⟩⟩))⟩, ht⟩) (fun _ h => nomatch h) dX5_number_38 hlk

set_option maxHeartbeats 4000000 in
set_option maxRecDepth 100000 in
theorem c_X5_cross3 (l : Launch) (D : JD) (q : Nat → Nat) (u : CS) (a : Int) (b : Int) (c : Int) (d : Int) (p0 : RB 40 u 9) (p1 : -2147483648 ≤ a ∧ a ≤ 2147483647) (p2 : -2147483648 ≤ b ∧ b ≤ 2147483647) (p3 : -2147483648 ≤ c ∧ c ≤ 2147483647) (p4 : -2147483648 ≤ d ∧ d ≤ 2147483647) : Met l yX5_cross (jw yX5_cross cX5_cross 5 (some .boolean)) (jr 2 44) (jP [.ref (q 66), .int (J a), .int (J b), .int (J c), .int (J d)] D (fun H => va_P D.1 j_cl (cW D q u) H)) (jRi (fun z => (z = 0 ∨ z = 1) ∧ ((0 ≤ a ∧ a < 12) → (0 ≤ b ∧ b < 12) → (0 ≤ c ∧ c < 12) → (0 ≤ d ∧ d < 12) → (z = 1 ↔ XC9 (u.1.1 9) (u.1.2.1 9) a.toNat b.toNat c.toNat d.toNat)))) 0 0 (fun _ => False) := by
  refine Met.ofW (cc := cX5_cross) (maxL := 5) (ret := (some .boolean)) (by decide) rfl ?_
  intro pr en st mi args below meth co s₁ B hml hv
  obtain ⟨rfl, hG, hP⟩ := hv
  have hr := B.returns
  have hlk := B.notSynchronized
  have SS : jS pr mi co cX5_cross 5 st _ RX5 := ⟨B.exec, B.bytes, hml, findClass_of_methodNamed B.named, fun w hw => atoms_spec (ws := (jw yX5_cross cX5_cross 5 (some .boolean))) B.pre w (List.mem_cons_of_mem _ hw)⟩
  have hl := lv_entry ([.ref (q 66), .int (J a), .int (J b), .int (J c), .int (J d)]) (n := 5) (Nat.le_of_ble_eq_true rfl)
  rw [lg_entry_eq]
  generalize (lg_sl ([.ref (q 66), .int (J a), .int (J b), .int (J c), .int (J d)]) ++ List.replicate (5 - (lg_sl ([.ref (q 66), .int (J a), .int (J b), .int (J c), .int (J d)])).length) Slot.unset).toArray = ls at hl ⊢
  have hl : lv_has ls 5 [(0, .ref (q 66)), (1, .int (J a)), (2, .int (J b)), (3, .int (J c)), (4, .int (J d))] := hl
  refine lv_aload_n SS.1 SS.2.1 dX5_cross_0 rfl (lv_at hl 0 rfl) ?_
  refine j_get SS hG hP 66 (v := .ref (q (9 + 5 * 9))) (C := RX5) (T := TX5) (N := 9) rfl rfl inX5 0 (by decide) (ref := "GridPolygons$Mesh") kw_310 rfl rfl dX5_cross_1 ?_
  refine lv_iload_n SS.1 SS.2.1 dX5_cross_4 rfl (lv_at hl 1 rfl) ?_
  refine lv_iload_n SS.1 SS.2.1 dX5_cross_5 rfl (lv_at hl 2 rfl) ?_
  refine lv_iload_n SS.1 SS.2.1 dX5_cross_6 rfl (lv_at hl 3 rfl) ?_
  refine j_vRi SS (As := [.int (J a), .int (J b), .int (J c)]) (rest := []) (c_X6_turn_9t l D q u  a b c (show RB 40 u 9 from (p0)) (show -2147483648 ≤ a ∧ a ≤ 2147483647 from (by omega)) (show -2147483648 ≤ b ∧ b ≤ 2147483647 from (by omega)) (show -2147483648 ≤ c ∧ c ≤ 2147483647 from (by omega))) mf_X6_turn kw_904 hG hP hP (ci := 6) (q0 := (9 + 5 * 9)) rfl (cw_pts (by omega)) rfl rfl hl.1 ⟨⟨Nat.le_of_ble_eq_true rfl, Nat.le_of_ble_eq_true rfl⟩, Nat.le_of_ble_eq_true rfl, Nat.le_refl _, Nat.le_refl _⟩ rfl dX5_cross_7 (fun z_7 h_7 => ?_)
  have h_7 : (-12800 ≤ z_7 ∧ z_7 ≤ 12800) ∧ ((0 ≤ a ∧ a < 12) → (0 ≤ b ∧ b < 12) → (0 ≤ c ∧ c < 12) → z_7 = tn ((u.1.1 9)) ((u.1.2.1 9)) a.toNat b.toNat c.toNat) := h_7
  obtain ⟨t_7, e_7⟩ := h_7
  refine lv_aload_n SS.1 SS.2.1 dX5_cross_10 rfl (lv_at hl 0 rfl) ?_
  refine j_get SS hG hP 66 (v := .ref (q (9 + 5 * 9))) (C := RX5) (T := TX5) (N := 9) rfl rfl inX5 0 (by decide) (ref := "GridPolygons$Mesh") kw_310 rfl rfl dX5_cross_11 ?_
  refine lv_iload_n SS.1 SS.2.1 dX5_cross_14 rfl (lv_at hl 1 rfl) ?_
  refine lv_iload_n SS.1 SS.2.1 dX5_cross_15 rfl (lv_at hl 2 rfl) ?_
  refine lv_iload SS.1 SS.2.1 dX5_cross_16 (lv_at hl 4 rfl) ?_
  refine j_vRi SS (As := [.int (J a), .int (J b), .int (J d)]) (rest := [.int (J z_7)]) (c_X6_turn_9t l D q u  a b d (show RB 40 u 9 from (p0)) (show -2147483648 ≤ a ∧ a ≤ 2147483647 from (by omega)) (show -2147483648 ≤ b ∧ b ≤ 2147483647 from (by omega)) (show -2147483648 ≤ d ∧ d ≤ 2147483647 from (by omega))) mf_X6_turn kw_904 hG hP hP (ci := 6) (q0 := (9 + 5 * 9)) rfl (cw_pts (by omega)) rfl rfl hl.1 ⟨⟨Nat.le_of_ble_eq_true rfl, Nat.le_of_ble_eq_true rfl⟩, Nat.le_of_ble_eq_true rfl, Nat.le_refl _, Nat.le_refl _⟩ rfl dX5_cross_18 (fun z_18 h_18 => ?_)
  have h_18 : (-12800 ≤ z_18 ∧ z_18 ≤ 12800) ∧ ((0 ≤ a ∧ a < 12) → (0 ≤ b ∧ b < 12) → (0 ≤ d ∧ d < 12) → z_18 = tn ((u.1.1 9)) ((u.1.2.1 9)) a.toNat b.toNat d.toNat) := h_18
  obtain ⟨t_18, e_18⟩ := h_18
  refine j_imul SS (x := z_7) (y := z_18) dX5_cross_21 ?_
  have m1 := mulb (A := 12800) (B := 12800) (a := z_7) (b := z_18) (by omega) (by omega)
  refine j_if_ge SS (tgt := 55) (x := (z_7 * z_18)) dX5_cross_22 (by decide) (by omega) (fun c_22 => ?_) (fun c_22 => ?_)
  · skip
    refine j_iconst SS dX5_cross_55 ?_
    exact W.zret SS.1 SS.2.1 hr (j_nz (by decide)) (fun t0 ht hW => ⟨_, rfl, ⟨0, rfl, (⟨by omega, fun q1 q2 q3 q4 => by first | exact ⟨fun _ => ⟨by rw [← e_7 q1 q2 q3, ← e_18 q1 q2 q4]; omega, by rw [← e_33 q3 q4 q1, ← e_44 q3 q4 q2]; omega⟩, fun _ => rfl⟩ | exact ⟨fun w9 => by omega, fun w9 => by have w8 := w9.1; rw [← e_7 q1 q2 q3, ← e_18 q1 q2 q4] at w8; omega⟩ | exact ⟨fun w9 => by omega, fun w9 => by have w8 := w9.2; rw [← e_33 q3 q4 q1, ← e_44 q3 q4 q2] at w8; omega⟩⟩)⟩, ht⟩) (fun _ h => nomatch h) dX5_cross_56 hlk
  · skip
    refine lv_aload_n SS.1 SS.2.1 dX5_cross_25 rfl (lv_at hl 0 rfl) ?_
    refine j_get SS hG hP 66 (v := .ref (q (9 + 5 * 9))) (C := RX5) (T := TX5) (N := 9) rfl rfl inX5 0 (by decide) (ref := "GridPolygons$Mesh") kw_310 rfl rfl dX5_cross_26 ?_
    refine lv_iload_n SS.1 SS.2.1 dX5_cross_29 rfl (lv_at hl 3 rfl) ?_
    refine lv_iload SS.1 SS.2.1 dX5_cross_30 (lv_at hl 4 rfl) ?_
    refine lv_iload_n SS.1 SS.2.1 dX5_cross_32 rfl (lv_at hl 1 rfl) ?_
    refine j_vRi SS (As := [.int (J c), .int (J d), .int (J a)]) (rest := []) (c_X6_turn_9t l D q u  c d a (show RB 40 u 9 from (p0)) (show -2147483648 ≤ c ∧ c ≤ 2147483647 from (by omega)) (show -2147483648 ≤ d ∧ d ≤ 2147483647 from (by omega)) (show -2147483648 ≤ a ∧ a ≤ 2147483647 from (by omega))) mf_X6_turn kw_904 hG hP hP (ci := 6) (q0 := (9 + 5 * 9)) rfl (cw_pts (by omega)) rfl rfl hl.1 ⟨⟨Nat.le_of_ble_eq_true rfl, Nat.le_of_ble_eq_true rfl⟩, Nat.le_of_ble_eq_true rfl, Nat.le_refl _, Nat.le_refl _⟩ rfl dX5_cross_33 (fun z_33 h_33 => ?_)
    have h_33 : (-12800 ≤ z_33 ∧ z_33 ≤ 12800) ∧ ((0 ≤ c ∧ c < 12) → (0 ≤ d ∧ d < 12) → (0 ≤ a ∧ a < 12) → z_33 = tn ((u.1.1 9)) ((u.1.2.1 9)) c.toNat d.toNat a.toNat) := h_33
    obtain ⟨t_33, e_33⟩ := h_33
    refine lv_aload_n SS.1 SS.2.1 dX5_cross_36 rfl (lv_at hl 0 rfl) ?_
    refine j_get SS hG hP 66 (v := .ref (q (9 + 5 * 9))) (C := RX5) (T := TX5) (N := 9) rfl rfl inX5 0 (by decide) (ref := "GridPolygons$Mesh") kw_310 rfl rfl dX5_cross_37 ?_
    refine lv_iload_n SS.1 SS.2.1 dX5_cross_40 rfl (lv_at hl 3 rfl) ?_
    refine lv_iload SS.1 SS.2.1 dX5_cross_41 (lv_at hl 4 rfl) ?_
    refine lv_iload_n SS.1 SS.2.1 dX5_cross_43 rfl (lv_at hl 2 rfl) ?_
    refine j_vRi SS (As := [.int (J c), .int (J d), .int (J b)]) (rest := [.int (J z_33)]) (c_X6_turn_9t l D q u  c d b (show RB 40 u 9 from (p0)) (show -2147483648 ≤ c ∧ c ≤ 2147483647 from (by omega)) (show -2147483648 ≤ d ∧ d ≤ 2147483647 from (by omega)) (show -2147483648 ≤ b ∧ b ≤ 2147483647 from (by omega))) mf_X6_turn kw_904 hG hP hP (ci := 6) (q0 := (9 + 5 * 9)) rfl (cw_pts (by omega)) rfl rfl hl.1 ⟨⟨Nat.le_of_ble_eq_true rfl, Nat.le_of_ble_eq_true rfl⟩, Nat.le_of_ble_eq_true rfl, Nat.le_refl _, Nat.le_refl _⟩ rfl dX5_cross_44 (fun z_44 h_44 => ?_)
    have h_44 : (-12800 ≤ z_44 ∧ z_44 ≤ 12800) ∧ ((0 ≤ c ∧ c < 12) → (0 ≤ d ∧ d < 12) → (0 ≤ b ∧ b < 12) → z_44 = tn ((u.1.1 9)) ((u.1.2.1 9)) c.toNat d.toNat b.toNat) := h_44
    obtain ⟨t_44, e_44⟩ := h_44
    refine j_imul SS (x := z_33) (y := z_44) dX5_cross_47 ?_
    have m2 := mulb (A := 12800) (B := 12800) (a := z_33) (b := z_44) (by omega) (by omega)
    refine j_if_ge SS (tgt := 55) (x := (z_33 * z_44)) dX5_cross_48 (by decide) (by omega) (fun c_48 => ?_) (fun c_48 => ?_)
    · skip
      refine j_iconst SS dX5_cross_55 ?_
      exact W.zret SS.1 SS.2.1 hr (j_nz (by decide)) (fun t0 ht hW => ⟨_, rfl, ⟨0, rfl, (⟨by omega, fun q1 q2 q3 q4 => by first | exact ⟨fun _ => ⟨by rw [← e_7 q1 q2 q3, ← e_18 q1 q2 q4]; omega, by rw [← e_33 q3 q4 q1, ← e_44 q3 q4 q2]; omega⟩, fun _ => rfl⟩ | exact ⟨fun w9 => by omega, fun w9 => by have w8 := w9.1; rw [← e_7 q1 q2 q3, ← e_18 q1 q2 q4] at w8; omega⟩ | exact ⟨fun w9 => by omega, fun w9 => by have w8 := w9.2; rw [← e_33 q3 q4 q1, ← e_44 q3 q4 q2] at w8; omega⟩⟩)⟩, ht⟩) (fun _ h => nomatch h) dX5_cross_56 hlk
    · skip
      refine j_iconst SS dX5_cross_51 ?_
      refine lv_goto (tgt := 56) SS.1 SS.2.1 dX5_cross_52 (by decide) ?_
      exact W.zret SS.1 SS.2.1 hr (j_nz (by decide)) (fun t0 ht hW => ⟨_, rfl, ⟨1, rfl, (⟨by omega, fun q1 q2 q3 q4 => by first | exact ⟨fun _ => ⟨by rw [← e_7 q1 q2 q3, ← e_18 q1 q2 q4]; omega, by rw [← e_33 q3 q4 q1, ← e_44 q3 q4 q2]; omega⟩, fun _ => rfl⟩ | exact ⟨fun w9 => by omega, fun w9 => by have w8 := w9.1; rw [← e_7 q1 q2 q3, ← e_18 q1 q2 q4] at w8; omega⟩ | exact ⟨fun w9 => by omega, fun w9 => by have w8 := w9.2; rw [← e_33 q3 q4 q1, ← e_44 q3 q4 q2] at w8; omega⟩⟩)⟩, ht⟩) (fun _ h => nomatch h) dX5_cross_56 hlk

set_option maxHeartbeats 4000000 in
set_option maxRecDepth 100000 in
theorem c_X5_appendSegment3 (l : Launch) (D : JD) (q : Nat → Nat) (u : CS) (A : Nat → Prop) (hD : va_D A (cW D q u)) (a : Int) (b : Int) (p0 : 0 ≤ a ∧ a ≤ 12) (p1 : 0 ≤ b ∧ b ≤ 12) (p2 : 0 ≤ u.2.2.2 20 ∧ u.2.2.2 20 ≤ 63) (p3 : ∀ k : Nat, 0 ≤ u.2.1 2 k ∧ u.2.1 2 k ≤ 12) (p4 : ∀ k : Nat, 0 ≤ u.2.1 3 k ∧ u.2.1 3 k ≤ 12) (p5 : ∀ k : Nat, -1 ≤ u.2.1 4 k ∧ u.2.1 4 k ≤ 63) : Met l yX5_appendSegment (jw yX5_appendSegment cX5_appendSegment 4 none) (jr 0 0) (jP [.ref (q 66), .int (J a), .int (J b)] D (fun H => va_P D.1 j_cl (cW D q u) H)) (jWv (fun u' => ∃ n : Int, ∃ f : Nat → Int, ∃ g : Nat → Int, ∃ nb : Nat → Int, u' = (sV (sI (sI (sI u 2 f) 3 g) 4 nb) 20 n) ∧ (((0 ≤ n ∧ n ≤ 63) ∧ (∀ k : Nat, 0 ≤ f k ∧ f k ≤ 12) ∧ (∀ k : Nat, 0 ≤ g k ∧ g k ≤ 12) ∧ (∀ k : Nat, -1 ≤ nb k ∧ nb k ≤ 63)) ∧ ((0 ≤ a ∧ a < 12) → (0 ≤ b ∧ b < 12) → u.2.2.2 20 < 63 → n = u.2.2.2 20 + 1 ∧ f = upI (u.2.1 2) (u.2.2.2 20).toNat a ∧ g = upI (u.2.1 3) (u.2.2.2 20).toNat b ∧ nb = upI (u.2.1 4) (12 * a + b).toNat (u.2.2.2 20)))) (fun u' H => va_P D.1 j_cl (cW D q u') H) A) 0 0 A := by
  refine Met.ofW (cc := cX5_appendSegment) (maxL := 4) (ret := none) (by decide) rfl ?_
  intro pr en st mi args below meth co s₁ B hml hv
  obtain ⟨rfl, hG, hP⟩ := hv
  have hr := B.returns
  have hlk := B.notSynchronized
  have SS : jS pr mi co cX5_appendSegment 4 st _ RX5 := ⟨B.exec, B.bytes, hml, findClass_of_methodNamed B.named, fun w hw => atoms_spec (ws := (jw yX5_appendSegment cX5_appendSegment 4 none)) B.pre w (List.mem_cons_of_mem _ hw)⟩
  have hl := lv_entry ([.ref (q 66), .int (J a), .int (J b)]) (n := 4) (Nat.le_of_ble_eq_true rfl)
  rw [lg_entry_eq]
  generalize (lg_sl ([.ref (q 66), .int (J a), .int (J b)]) ++ List.replicate (4 - (lg_sl ([.ref (q 66), .int (J a), .int (J b)])).length) Slot.unset).toArray = ls at hl ⊢
  have hl : lv_has ls 4 [(0, .ref (q 66)), (1, .int (J a)), (2, .int (J b))] := hl
  have hS : va_S A st.heap st.heap [] := va_S.rf
  refine lv_iload_n SS.1 SS.2.1 dX5_appendSegment_0 rfl (lv_at hl 1 rfl) ?_
  refine j_bipush SS dX5_appendSegment_1 (by decide +kernel) ?_
  refine j_imul SS (x := a) (y := 12) dX5_appendSegment_3 ?_
  refine lv_iload_n SS.1 SS.2.1 dX5_appendSegment_4 rfl (lv_at hl 2 rfl) ?_
  refine j_iadd SS (x := (a * 12)) (y := b) dX5_appendSegment_5 ?_
  refine lv_istore_n (lv' := [(3, .int (J ((a * 12) + b))), (0, .ref (q 66)), (1, .int (J a)), (2, .int (J b))]) SS.1 SS.2.1 dX5_appendSegment_6 rfl hl (by decide) rfl (fun ls hl => ?_)
  refine lv_aload_n SS.1 SS.2.1 dX5_appendSegment_7 rfl (lv_at hl 1 rfl) ?_
  refine j_get SS hG hP 66 (v := .int (J (u.2.2.2 20))) (C := RX5) (T := TX5) (N := 9) rfl rfl inX5 5 (by decide) (ref := "GridPolygons$Mesh") kw_315 rfl rfl dX5_appendSegment_8 ?_
  refine j_bipush SS dX5_appendSegment_11 (by decide +kernel) ?_
  refine j_icmp_ge SS (tgt := 69) (x := (u.2.2.2 20)) (y := 63) dX5_appendSegment_13 (by decide) (by omega) (by decide) (fun c_13 => ?_) (fun c_13 => ?_)
  · skip
    exact W.vret SS.1 SS.2.1 hr (fun t0 ht hW => ⟨⟨(sV (sI (sI (sI u 2 (u.2.1 2)) 3 (u.2.1 3)) 4 (u.2.1 4)) 20 (u.2.2.2 20)), rfl, (⟨(u.2.2.2 20), (u.2.1 2), (u.2.1 3), (u.2.1 4), rfl, by first | exact ⟨⟨by omega, p3, p4, p5⟩, fun q1 q2 q3 => by exfalso; omega⟩ | exact ⟨⟨by omega, UP_b p3 (by omega), UP_b p4 (by omega), UP_b p5 (by omega)⟩, fun q1 q2 q3 => ⟨rfl, rfl, rfl, by rw [show (a * 12) + b = 12 * a + b by omega]⟩⟩⟩), by show va_P D.1 j_cl (cW D q (sV (sI (sI (sI u 2 (u.2.1 2)) 3 (u.2.1 3)) 4 (u.2.1 4)) 20 (u.2.2.2 20))) t0.heap; rw [ht]; first | exact hP | (simp only [sI_id, sL_id, sC_id, sX_id, sY_id, sH_id, sT_id, sV_id]; exact hP)⟩, hS.F ht⟩) hS.2.2 dX5_appendSegment_69 hlk
  · skip
    refine lv_iload_n SS.1 SS.2.1 dX5_appendSegment_16 rfl (lv_at hl 0 rfl) ?_
    refine j_if_lt SS (tgt := 69) (x := ((a * 12) + b)) dX5_appendSegment_17 (by decide) (by omega) (fun c_17 => ?_) (fun c_17 => ?_)
    · skip
      exact W.vret SS.1 SS.2.1 hr (fun t0 ht hW => ⟨⟨(sV (sI (sI (sI u 2 (u.2.1 2)) 3 (u.2.1 3)) 4 (u.2.1 4)) 20 (u.2.2.2 20)), rfl, (⟨(u.2.2.2 20), (u.2.1 2), (u.2.1 3), (u.2.1 4), rfl, by first | exact ⟨⟨by omega, p3, p4, p5⟩, fun q1 q2 q3 => by exfalso; omega⟩ | exact ⟨⟨by omega, UP_b p3 (by omega), UP_b p4 (by omega), UP_b p5 (by omega)⟩, fun q1 q2 q3 => ⟨rfl, rfl, rfl, by rw [show (a * 12) + b = 12 * a + b by omega]⟩⟩⟩), by show va_P D.1 j_cl (cW D q (sV (sI (sI (sI u 2 (u.2.1 2)) 3 (u.2.1 3)) 4 (u.2.1 4)) 20 (u.2.2.2 20))) t0.heap; rw [ht]; first | exact hP | (simp only [sI_id, sL_id, sC_id, sX_id, sY_id, sH_id, sT_id, sV_id]; exact hP)⟩, hS.F ht⟩) hS.2.2 dX5_appendSegment_69 hlk
    · skip
      refine lv_iload_n SS.1 SS.2.1 dX5_appendSegment_20 rfl (lv_at hl 0 rfl) ?_
      refine lv_aload_n SS.1 SS.2.1 dX5_appendSegment_21 rfl (lv_at hl 1 rfl) ?_
      refine j_get SS hG hP 66 (v := .ref (q 58)) (C := RX5) (T := TX5) (N := 9) rfl rfl inX5 4 (by decide) (ref := "GridPolygons$Mesh") kw_314 rfl rfl dX5_appendSegment_22 ?_
      refine va_alen SS.1 SS.2.1 hG.1 hP 58 0 rfl rfl (v := J (144 : Int)) (by first | rfl | exact J_nat _) dX5_appendSegment_25 ?_
      refine j_icmp_ge SS (tgt := 69) (x := ((a * 12) + b)) (y := 144) dX5_appendSegment_26 (by decide) (by omega) (by decide) (fun c_26 => ?_) (fun c_26 => ?_)
      · skip
        exact W.vret SS.1 SS.2.1 hr (fun t0 ht hW => ⟨⟨(sV (sI (sI (sI u 2 (u.2.1 2)) 3 (u.2.1 3)) 4 (u.2.1 4)) 20 (u.2.2.2 20)), rfl, (⟨(u.2.2.2 20), (u.2.1 2), (u.2.1 3), (u.2.1 4), rfl, by first | exact ⟨⟨by omega, p3, p4, p5⟩, fun q1 q2 q3 => by exfalso; omega⟩ | exact ⟨⟨by omega, UP_b p3 (by omega), UP_b p4 (by omega), UP_b p5 (by omega)⟩, fun q1 q2 q3 => ⟨rfl, rfl, rfl, by rw [show (a * 12) + b = 12 * a + b by omega]⟩⟩⟩), by show va_P D.1 j_cl (cW D q (sV (sI (sI (sI u 2 (u.2.1 2)) 3 (u.2.1 3)) 4 (u.2.1 4)) 20 (u.2.2.2 20))) t0.heap; rw [ht]; first | exact hP | (simp only [sI_id, sL_id, sC_id, sX_id, sY_id, sH_id, sT_id, sV_id]; exact hP)⟩, hS.F ht⟩) hS.2.2 dX5_appendSegment_69 hlk
      · skip
        refine lv_aload_n SS.1 SS.2.1 dX5_appendSegment_29 rfl (lv_at hl 1 rfl) ?_
        refine j_get SS hG hP 66 (v := .ref (q 53)) (C := RX5) (T := TX5) (N := 9) rfl rfl inX5 1 (by decide) (ref := "GridPolygons$Mesh") kw_311 rfl rfl dX5_appendSegment_30 ?_
        refine lv_aload_n SS.1 SS.2.1 dX5_appendSegment_33 rfl (lv_at hl 1 rfl) ?_
        refine j_get SS hG hP 66 (v := .int (J (u.2.2.2 20))) (C := RX5) (T := TX5) (N := 9) rfl rfl inX5 5 (by decide) (ref := "GridPolygons$Mesh") kw_315 rfl rfl dX5_appendSegment_34 ?_
        refine lv_iload_n SS.1 SS.2.1 dX5_appendSegment_37 rfl (lv_at hl 2 rfl) ?_
        refine j_iast SS hG hP (cW_D hD) hS 53 (n := 63) (f := (u.2.1 2)) rfl (z := (u.2.2.2 20)) (v := a) (by omega) (by omega) dX5_appendSegment_38 (ws' := (cW D q (sI u 2 (upI (u.2.1 2) ((u.2.2.2 20)).toNat a)))) rfl (fun H locs hP hS => ?_)
        refine lv_aload_n SS.1 SS.2.1 dX5_appendSegment_39 rfl (lv_at hl 1 rfl) ?_
        refine j_get SS hG hP 66 (v := .ref (q 57)) (C := RX5) (T := TX5) (N := 9) rfl rfl inX5 2 (by decide) (ref := "GridPolygons$Mesh") kw_312 rfl rfl dX5_appendSegment_40 ?_
        refine lv_aload_n SS.1 SS.2.1 dX5_appendSegment_43 rfl (lv_at hl 1 rfl) ?_
        refine j_get SS hG hP 66 (v := .int (J (u.2.2.2 20))) (C := RX5) (T := TX5) (N := 9) rfl rfl inX5 5 (by decide) (ref := "GridPolygons$Mesh") kw_315 rfl rfl dX5_appendSegment_44 ?_
        refine lv_iload_n SS.1 SS.2.1 dX5_appendSegment_47 rfl (lv_at hl 3 rfl) ?_
        refine j_iast SS hG hP (cW_D hD) hS 57 (n := 63) (f := (u.2.1 3)) rfl (z := (u.2.2.2 20)) (v := b) (by omega) (by omega) dX5_appendSegment_48 (ws' := (cW D q (sI (sI u 2 (upI (u.2.1 2) ((u.2.2.2 20)).toNat a)) 3 (upI (u.2.1 3) ((u.2.2.2 20)).toNat b)))) rfl (fun H locs hP hS => ?_)
        refine lv_aload_n SS.1 SS.2.1 dX5_appendSegment_49 rfl (lv_at hl 1 rfl) ?_
        refine j_get SS hG hP 66 (v := .ref (q 58)) (C := RX5) (T := TX5) (N := 9) rfl rfl inX5 4 (by decide) (ref := "GridPolygons$Mesh") kw_314 rfl rfl dX5_appendSegment_50 ?_
        refine lv_iload_n SS.1 SS.2.1 dX5_appendSegment_53 rfl (lv_at hl 0 rfl) ?_
        refine lv_aload_n SS.1 SS.2.1 dX5_appendSegment_54 rfl (lv_at hl 1 rfl) ?_
        refine j_get SS hG hP 66 (v := .int (J (u.2.2.2 20))) (C := RX5) (T := TX5) (N := 9) rfl rfl inX5 5 (by decide) (ref := "GridPolygons$Mesh") kw_315 rfl rfl dX5_appendSegment_55 ?_
        refine j_iast SS hG hP (cW_D hD) hS 58 (n := 144) (f := (u.2.1 4)) rfl (z := ((a * 12) + b)) (v := (u.2.2.2 20)) (by omega) (by omega) dX5_appendSegment_58 (ws' := (cW D q (sI (sI (sI u 2 (upI (u.2.1 2) ((u.2.2.2 20)).toNat a)) 3 (upI (u.2.1 3) ((u.2.2.2 20)).toNat b)) 4 (upI (u.2.1 4) (((a * 12) + b)).toNat (u.2.2.2 20))))) rfl (fun H locs hP hS => ?_)
        refine lv_aload_n SS.1 SS.2.1 dX5_appendSegment_59 rfl (lv_at hl 1 rfl) ?_
        refine lv_dup SS.1 SS.2.1 dX5_appendSegment_60 rfl ?_
        refine j_get SS hG hP 66 (v := .int (J (u.2.2.2 20))) (C := RX5) (T := TX5) (N := 9) rfl rfl inX5 5 (by decide) (ref := "GridPolygons$Mesh") kw_315 rfl rfl dX5_appendSegment_61 ?_
        refine j_iconst SS dX5_appendSegment_64 ?_
        refine j_iadd SS (x := (u.2.2.2 20)) (y := 1) dX5_appendSegment_65 ?_
        refine j_put SS hG hP (cW_D hD) hS 66 (v := .int (J ((u.2.2.2 20) + 1))) (ty := .int) (C := RX5) (T := TX5) (N := 9) rfl rfl inX5 tyX5 tyX5_ok nmX5 5 (by decide) (ref := "GridPolygons$Mesh") kw_315 rfl rfl (by decide +kernel) rfl rfl (Nat.le_of_ble_eq_true rfl) dX5_appendSegment_66 (ws' := (cW D q (sV (sI (sI (sI u 2 (upI (u.2.1 2) ((u.2.2.2 20)).toNat a)) 3 (upI (u.2.1 3) ((u.2.2.2 20)).toNat b)) 4 (upI (u.2.1 4) (((a * 12) + b)).toNat (u.2.2.2 20))) 20 ((u.2.2.2 20) + 1)))) rfl (fun H locs hP hS => ?_)
        exact W.vret SS.1 SS.2.1 hr (fun t0 ht hW => ⟨⟨(sV (sI (sI (sI u 2 (upI (u.2.1 2) ((u.2.2.2 20)).toNat a)) 3 (upI (u.2.1 3) ((u.2.2.2 20)).toNat b)) 4 (upI (u.2.1 4) (((a * 12) + b)).toNat (u.2.2.2 20))) 20 ((u.2.2.2 20) + 1)), rfl, (⟨((u.2.2.2 20) + 1), (upI (u.2.1 2) ((u.2.2.2 20)).toNat a), (upI (u.2.1 3) ((u.2.2.2 20)).toNat b), (upI (u.2.1 4) (((a * 12) + b)).toNat (u.2.2.2 20)), rfl, by first | exact ⟨⟨by omega, p3, p4, p5⟩, fun q1 q2 q3 => by exfalso; omega⟩ | exact ⟨⟨by omega, UP_b p3 (by omega), UP_b p4 (by omega), UP_b p5 (by omega)⟩, fun q1 q2 q3 => ⟨rfl, rfl, rfl, by rw [show (a * 12) + b = 12 * a + b by omega]⟩⟩⟩), by show va_P D.1 j_cl (cW D q (sV (sI (sI (sI u 2 (upI (u.2.1 2) ((u.2.2.2 20)).toNat a)) 3 (upI (u.2.1 3) ((u.2.2.2 20)).toNat b)) 4 (upI (u.2.1 4) (((a * 12) + b)).toNat (u.2.2.2 20))) 20 ((u.2.2.2 20) + 1))) t0.heap; rw [ht]; first | exact hP | (simp only [sI_id, sL_id, sC_id, sX_id, sY_id, sH_id, sT_id, sV_id]; exact hP)⟩, hS.F ht⟩) hS.2.2 dX5_appendSegment_69 hlk


set_option maxHeartbeats 4000000 in
set_option maxRecDepth 100000 in
theorem c_X5_noteCrossed3 (l : Launch) (D : JD) (q : Nat → Nat) (u : CS) (A : Nat → Prop) (hD : va_D A (cW D q u)) (s : Int) (p0 : RB 40 u 9) (p1 : -2147483648 ≤ s ∧ s ≤ 2147483647) (p2 : ∀ k : Nat, 0 ≤ u.2.1 2 k ∧ u.2.1 2 k ≤ 12) (p3 : ∀ k : Nat, 0 ≤ u.2.1 3 k ∧ u.2.1 3 k ≤ 12) (p4 : 0 ≤ u.2.2.2 20 ∧ u.2.2.2 20 ≤ 63) : Met l yX5_noteCrossed (jw yX5_noteCrossed cX5_noteCrossed 3 none) (jr 3 68) (jP [.ref (q 66), .int (J s)] D (fun H => va_P D.1 j_cl (cW D q u) H)) (jWv (fun u' => ∃ w : Nat → Int64, u' = (sL u 3 w) ∧ (((∀ k : Nat, (k : Int) < u.2.2.2 20 → u.2.1 2 k < 12 ∧ u.2.1 3 k < 12) → 0 ≤ s ∧ s < u.2.2.2 20 → (∀ q : Nat, q ≠ s.toNat → w q = u.2.2.1 3 q) ∧ CR9 (u.1.1 9) (u.1.2.1 9) (u.2.1 2) (u.2.1 3) (u.2.2.2 20).toNat (w s.toNat) s.toNat))) (fun u' H => va_P D.1 j_cl (cW D q u') H) A) 0 0 A := by
  refine Met.ofW (cc := cX5_noteCrossed) (maxL := 3) (ret := none) (by decide) rfl ?_
  intro pr en st mi args below meth co s₁ B hml hv
  obtain ⟨rfl, hG, hP⟩ := hv
  have hr := B.returns
  have hlk := B.notSynchronized
  have SS : jS pr mi co cX5_noteCrossed 3 st _ RX5 := ⟨B.exec, B.bytes, hml, findClass_of_methodNamed B.named, fun w hw => atoms_spec (ws := (jw yX5_noteCrossed cX5_noteCrossed 3 none)) B.pre w (List.mem_cons_of_mem _ hw)⟩
  have hl := lv_entry ([.ref (q 66), .int (J s)]) (n := 3) (Nat.le_of_ble_eq_true rfl)
  rw [lg_entry_eq]
  generalize (lg_sl ([.ref (q 66), .int (J s)]) ++ List.replicate (3 - (lg_sl ([.ref (q 66), .int (J s)])).length) Slot.unset).toArray = ls at hl ⊢
  have hl : lv_has ls 3 [(0, .ref (q 66)), (1, .int (J s))] := hl
  have hS : va_S A st.heap st.heap [] := va_S.rf
  refine lv_iload_n SS.1 SS.2.1 dX5_noteCrossed_0 rfl (lv_at hl 1 rfl) ?_
  refine j_if_lt SS (tgt := 10) (x := s) dX5_noteCrossed_1 (by decide) (by omega) (fun c_1 => ?_) (fun c_1 => ?_)
  · skip
    exact W.vret SS.1 SS.2.1 hr (fun t0 ht hW => ⟨⟨(sL u 3 (u.2.2.1 3)), rfl, (⟨(u.2.2.1 3), rfl, fun hix hs9 => by exfalso; omega⟩), by show va_P D.1 j_cl (cW D q (sL u 3 (u.2.2.1 3))) t0.heap; rw [ht]; first | exact hP | (simp only [sC_id, sX_id, sY_id, sH_id, sT_id, sV_id]; exact hP)⟩, hS.F ht⟩) hS.2.2 dX5_noteCrossed_10 hlk
  · skip
    refine lv_iload_n SS.1 SS.2.1 dX5_noteCrossed_4 rfl (lv_at hl 1 rfl) ?_
    refine j_bipush SS dX5_noteCrossed_5 (by decide +kernel) ?_
    refine j_icmp_lt SS (tgt := 11) (x := s) (y := 63) dX5_noteCrossed_7 (by decide) (by omega) (by decide) (fun c_7 => ?_) (fun c_7 => ?_)
    · skip
      refine lv_aload_n SS.1 SS.2.1 dX5_noteCrossed_11 rfl (lv_at hl 0 rfl) ?_
      refine j_get SS hG hP 66 (v := .ref (q 70)) (C := RX5) (T := TX5) (N := 9) rfl rfl inX5 3 (by decide) (ref := "GridPolygons$Mesh") kw_313 rfl rfl dX5_noteCrossed_12 ?_
      refine lv_iload_n SS.1 SS.2.1 dX5_noteCrossed_15 rfl (lv_at hl 1 rfl) ?_
      refine lv_lconst (v := 0) SS.1 SS.2.1 dX5_noteCrossed_16 (by decide +kernel) ?_
      refine j_last SS hG hP (cW_D hD) hS 70 (n := 63) (f := (u.2.2.1 3)) rfl (z := s) (v := 0) (by omega) (by omega) dX5_noteCrossed_17 (ws' := (cW D q (sL u 3 (vp_updL (u.2.2.1 3) (s).toNat 0)))) rfl (fun H locs hP hS => ?_)
      refine j_iconst SS dX5_noteCrossed_18 ?_
      refine lv_istore_n (lv' := [(2, .int (J 0)), (0, .ref (q 66)), (1, .int (J s))]) SS.1 SS.2.1 dX5_noteCrossed_19 rfl hl (by decide) rfl (fun ls hl => ?_)
      have L_20 : ∀ (nn : Nat) (t : Int) (w1 : Nat → Int64) (H : Heap) (locs : List Loc) (hP : va_P D.1 j_cl (cW D q (sL u 3 w1)) H) (hS : va_S A st.heap H locs) (ls : Array Slot) (hl : lv_has ls 3 [(0, .ref (q 66)), (1, .int (J s)), (2, .int (J t))]) (i20_0 : 0 ≤ t ∧ t ≤ u.2.2.2 20) (i20_1 : ∀ q : Nat, q ≠ s.toNat → w1 q = u.2.2.1 3 q) (i20_2 : (∀ k : Nat, (k : Int) < u.2.2.2 20 → u.2.1 2 k < 12 ∧ u.2.1 3 k < 12) → s < u.2.2.2 20 → CR9 (u.1.1 9) (u.1.2.1 9) (u.2.1 2) (u.2.1 3) t.toNat (w1 s.toNat) s.toNat), ((63 : Int) - t).toNat < nn → W pr l en (headSpec (jw yX5_noteCrossed cX5_noteCrossed 3 none) (jr 3 68)).room st mi (([.ref (q 66), .int (J s)] : List Value).toArray) below meth co H locs 0 0 (MQ below (jWv (fun u' => ∃ w : Nat → Int64, u' = (sL u 3 w) ∧ (((∀ k : Nat, (k : Int) < u.2.2.2 20 → u.2.1 2 k < 12 ∧ u.2.1 3 k < 12) → 0 ≤ s ∧ s < u.2.2.2 20 → (∀ q : Nat, q ≠ s.toNat → w q = u.2.2.1 3 q) ∧ CR9 (u.1.1 9) (u.1.2.1 9) (u.2.1 2) (u.2.1 3) (u.2.2.2 20).toNat (w s.toNat) s.toNat))) (fun u' H => va_P D.1 j_cl (cW D q u') H) A) (([.ref (q 66), .int (J s)] : List Value).toArray) st 0 0 A) (F0 mi 20 ls []) := by
        intro nn
        induction nn with
        | zero => intros; omega
        | succ nn ih_20 =>
          intro t w1 H locs hP hS ls hl i20_0 i20_1 i20_2 hm
          refine lv_iload_n SS.1 SS.2.1 dX5_noteCrossed_20 rfl (lv_at hl 2 rfl) ?_
          refine lv_aload_n SS.1 SS.2.1 dX5_noteCrossed_21 rfl (lv_at hl 0 rfl) ?_
          refine j_get SS hG hP 66 (v := .int (J (u.2.2.2 20))) (C := RX5) (T := TX5) (N := 9) rfl rfl inX5 5 (by decide) (ref := "GridPolygons$Mesh") kw_315 rfl rfl dX5_noteCrossed_22 ?_
          refine j_icmp_ge SS (tgt := 83) (x := t) (y := (u.2.2.2 20)) dX5_noteCrossed_25 (by decide) (by omega) (by omega) (fun c_25 => ?_) (fun c_25 => ?_)
          · skip
            exact W.vret SS.1 SS.2.1 hr (fun t0 ht hW => ⟨⟨(sL u 3 w1), rfl, (⟨w1, rfl, fun hix hs9 => ⟨i20_1, by rw [show u.2.2.2 20 = t by omega]; exact i20_2 hix hs9.2⟩⟩), by show va_P D.1 j_cl (cW D q (sL u 3 w1)) t0.heap; rw [ht]; first | exact hP | (simp only [sC_id, sX_id, sY_id, sH_id, sT_id, sV_id]; exact hP)⟩, hS.F ht⟩) hS.2.2 dX5_noteCrossed_83 hlk
          · skip
            refine lv_iload_n SS.1 SS.2.1 dX5_noteCrossed_28 rfl (lv_at hl 2 rfl) ?_
            refine j_bipush SS dX5_noteCrossed_29 (by decide +kernel) ?_
            refine j_icmp_ge SS (tgt := 83) (x := t) (y := 63) dX5_noteCrossed_31 (by decide) (by omega) (by decide) (fun c_31 => ?_) (fun c_31 => ?_)
            · skip
              exact W.vret SS.1 SS.2.1 hr (fun t0 ht hW => ⟨⟨(sL u 3 w1), rfl, (⟨w1, rfl, fun hix hs9 => ⟨i20_1, by rw [show u.2.2.2 20 = t by omega]; exact i20_2 hix hs9.2⟩⟩), by show va_P D.1 j_cl (cW D q (sL u 3 w1)) t0.heap; rw [ht]; first | exact hP | (simp only [sC_id, sX_id, sY_id, sH_id, sT_id, sV_id]; exact hP)⟩, hS.F ht⟩) hS.2.2 dX5_noteCrossed_83 hlk
            · skip
              refine lv_aload_n SS.1 SS.2.1 dX5_noteCrossed_34 rfl (lv_at hl 0 rfl) ?_
              refine lv_aload_n SS.1 SS.2.1 dX5_noteCrossed_35 rfl (lv_at hl 0 rfl) ?_
              refine j_get SS hG hP 66 (v := .ref (q 53)) (C := RX5) (T := TX5) (N := 9) rfl rfl inX5 1 (by decide) (ref := "GridPolygons$Mesh") kw_311 rfl rfl dX5_noteCrossed_36 ?_
              refine lv_iload_n SS.1 SS.2.1 dX5_noteCrossed_39 rfl (lv_at hl 1 rfl) ?_
              refine j_iald SS hG hP 53 (n := 63) (f := (u.2.1 2)) rfl (z := s) (by omega) (by omega) dX5_noteCrossed_40 ?_
              refine lv_aload_n SS.1 SS.2.1 dX5_noteCrossed_41 rfl (lv_at hl 0 rfl) ?_
              refine j_get SS hG hP 66 (v := .ref (q 57)) (C := RX5) (T := TX5) (N := 9) rfl rfl inX5 2 (by decide) (ref := "GridPolygons$Mesh") kw_312 rfl rfl dX5_noteCrossed_42 ?_
              refine lv_iload_n SS.1 SS.2.1 dX5_noteCrossed_45 rfl (lv_at hl 1 rfl) ?_
              refine j_iald SS hG hP 57 (n := 63) (f := (u.2.1 3)) rfl (z := s) (by omega) (by omega) dX5_noteCrossed_46 ?_
              refine lv_aload_n SS.1 SS.2.1 dX5_noteCrossed_47 rfl (lv_at hl 0 rfl) ?_
              refine j_get SS hG hP 66 (v := .ref (q 53)) (C := RX5) (T := TX5) (N := 9) rfl rfl inX5 1 (by decide) (ref := "GridPolygons$Mesh") kw_311 rfl rfl dX5_noteCrossed_48 ?_
              refine lv_iload_n SS.1 SS.2.1 dX5_noteCrossed_51 rfl (lv_at hl 2 rfl) ?_
              refine j_iald SS hG hP 53 (n := 63) (f := (u.2.1 2)) rfl (z := t) (by omega) (by omega) dX5_noteCrossed_52 ?_
              refine lv_aload_n SS.1 SS.2.1 dX5_noteCrossed_53 rfl (lv_at hl 0 rfl) ?_
              refine j_get SS hG hP 66 (v := .ref (q 57)) (C := RX5) (T := TX5) (N := 9) rfl rfl inX5 2 (by decide) (ref := "GridPolygons$Mesh") kw_312 rfl rfl dX5_noteCrossed_54 ?_
              refine lv_iload_n SS.1 SS.2.1 dX5_noteCrossed_57 rfl (lv_at hl 2 rfl) ?_
              refine j_iald SS hG hP 57 (n := 63) (f := (u.2.1 3)) rfl (z := t) (by omega) (by omega) dX5_noteCrossed_58 ?_
              have l1 := p2 s.toNat
              have l2 := p3 s.toNat
              have l3 := p2 t.toNat
              have l4 := p3 t.toNat
              refine j_vRi SS (As := [.int (J ((u.2.1 2) (s).toNat)), .int (J ((u.2.1 3) (s).toNat)), .int (J ((u.2.1 2) (t).toNat)), .int (J ((u.2.1 3) (t).toNat))]) (rest := []) (c_X5_cross3 l D q (sL u 3 w1)  ((u.2.1 2) (s).toNat) ((u.2.1 3) (s).toNat) ((u.2.1 2) (t).toNat) ((u.2.1 3) (t).toNat) (show RB 40 (sL u 3 w1) 9 from (p0)) (show -2147483648 ≤ ((u.2.1 2) (s).toNat) ∧ ((u.2.1 2) (s).toNat) ≤ 2147483647 from (by omega)) (show -2147483648 ≤ ((u.2.1 3) (s).toNat) ∧ ((u.2.1 3) (s).toNat) ≤ 2147483647 from (by omega)) (show -2147483648 ≤ ((u.2.1 2) (t).toNat) ∧ ((u.2.1 2) (t).toNat) ≤ 2147483647 from (by omega)) (show -2147483648 ≤ ((u.2.1 3) (t).toNat) ∧ ((u.2.1 3) (t).toNat) ≤ 2147483647 from (by omega))) mf_X5_cross kw_900 hG hP hP (ci := 5) (q0 := 66) rfl rfl rfl rfl hl.1 ⟨⟨Nat.le_of_ble_eq_true rfl, Nat.le_of_ble_eq_true rfl⟩, Nat.le_of_ble_eq_true rfl, Nat.le_refl _, Nat.le_refl _⟩ rfl dX5_noteCrossed_59 (fun z_59 h_59 => ?_)
              have h_59 : (z_59 = 0 ∨ z_59 = 1) ∧ ((0 ≤ ((u.2.1 2) (s).toNat) ∧ ((u.2.1 2) (s).toNat) < 12) → (0 ≤ ((u.2.1 3) (s).toNat) ∧ ((u.2.1 3) (s).toNat) < 12) → (0 ≤ ((u.2.1 2) (t).toNat) ∧ ((u.2.1 2) (t).toNat) < 12) → (0 ≤ ((u.2.1 3) (t).toNat) ∧ ((u.2.1 3) (t).toNat) < 12) → (z_59 = 1 ↔ XC9 ((u.1.1 9)) ((u.1.2.1 9)) ((u.2.1 2) (s).toNat).toNat ((u.2.1 3) (s).toNat).toNat ((u.2.1 2) (t).toNat).toNat ((u.2.1 3) (t).toNat).toNat)) := h_59
              obtain ⟨t_59, e_59⟩ := h_59
              have x59 : (∀ k : Nat, (k : Int) < u.2.2.2 20 → u.2.1 2 k < 12 ∧ u.2.1 3 k < 12) → s < u.2.2.2 20 → (z_59 = 1 ↔ XS9 (u.1.1 9) (u.1.2.1 9) (u.2.1 2) (u.2.1 3) s.toNat t.toNat) := fun hix hs9 => by have k1 := hix s.toNat (by omega); have k2 := hix t.toNat (by omega); exact e_59 (by omega) (by omega) (by omega) (by omega)
              refine j_if_eq SS (tgt := 77) (x := z_59) dX5_noteCrossed_62 (by decide) (by omega) (fun c_62 => ?_) (fun c_62 => ?_)
              · skip
                refine lv_iinc (v := J (t + 1)) (lv' := [(2, .int (J (t + 1))), (0, .ref (q 66)), (1, .int (J s))]) SS.1 SS.2.1 dX5_noteCrossed_77 hl (k := 2) rfl (J_add _ _) (by decide) rfl (fun ls hl => ?_)
                refine lv_goto (tgt := 20) SS.1 SS.2.1 dX5_noteCrossed_80 (by decide) ?_
                exact ih_20 (t + 1) w1 _ _ hP hS ls (lv_sub hl [1, 2, 0] rfl) (by omega) (by first | exact i20_1 | exact fun q hq => (pk_uLn hq).trans (i20_1 q hq)) (fun hix hs9 => by first | exact CR_n (by omega) (i20_2 hix hs9) (fun w9 => by have w8 := (x59 hix hs9).mpr w9; omega) | (rw [pk_uLs, ex_74]; exact CR_y (by omega) (i20_2 hix hs9) ((x59 hix hs9).mp (by omega)))) (by omega)
              · skip
                refine lv_aload_n SS.1 SS.2.1 dX5_noteCrossed_65 rfl (lv_at hl 0 rfl) ?_
                refine j_get SS hG hP 66 (v := .ref (q 70)) (C := RX5) (T := TX5) (N := 9) rfl rfl inX5 3 (by decide) (ref := "GridPolygons$Mesh") kw_313 rfl rfl dX5_noteCrossed_66 ?_
                refine lv_iload_n SS.1 SS.2.1 dX5_noteCrossed_69 rfl (lv_at hl 1 rfl) ?_
                refine lv_dup2_11 SS.1 SS.2.1 dX5_noteCrossed_70 rfl rfl ?_
                refine j_lald SS hG hP 70 (n := 63) (f := w1) rfl (z := s) (by omega) (by omega) dX5_noteCrossed_71 ?_
                refine lv_lconst (v := 1) SS.1 SS.2.1 dX5_noteCrossed_72 (by decide +kernel) ?_
                refine lv_iload_n SS.1 SS.2.1 dX5_noteCrossed_73 rfl (lv_at hl 2 rfl) ?_
                refine lv_lshl SS.1 SS.2.1 dX5_noteCrossed_74 rfl (lv_topl (fun x_74 ex_74 => ?_))
                refine lv_lor SS.1 SS.2.1 dX5_noteCrossed_75 ?_
                refine j_last SS hG hP (cW_D hD) hS 70 (n := 63) (f := w1) rfl (z := s) (v := ((w1 (s).toNat) ||| x_74)) (by omega) (by omega) dX5_noteCrossed_76 (ws' := (cW D q (sL u 3 (vp_updL w1 (s).toNat ((w1 (s).toNat) ||| x_74))))) rfl (fun H locs hP hS => ?_)
                refine lv_iinc (v := J (t + 1)) (lv' := [(2, .int (J (t + 1))), (0, .ref (q 66)), (1, .int (J s))]) SS.1 SS.2.1 dX5_noteCrossed_77 hl (k := 2) rfl (J_add _ _) (by decide) rfl (fun ls hl => ?_)
                refine lv_goto (tgt := 20) SS.1 SS.2.1 dX5_noteCrossed_80 (by decide) ?_
                exact ih_20 (t + 1) (vp_updL w1 (s).toNat ((w1 (s).toNat) ||| x_74)) _ _ hP hS ls (lv_sub hl [1, 2, 0] rfl) (by omega) (by first | exact i20_1 | exact fun q hq => (pk_uLn hq).trans (i20_1 q hq)) (fun hix hs9 => by first | exact CR_n (by omega) (i20_2 hix hs9) (fun w9 => by have w8 := (x59 hix hs9).mpr w9; omega) | (rw [pk_uLs, ex_74]; exact CR_y (by omega) (i20_2 hix hs9) ((x59 hix hs9).mp (by omega)))) (by omega)
      exact L_20 (((63 : Int) - (0 : Int)).toNat + 1) 0 (vp_updL (u.2.2.1 3) (s).toNat 0) _ _ hP hS ls (lv_sub hl [1, 2, 0] rfl) (by omega) (fun q hq => pk_uLn hq) (fun _ _ => by rw [pk_uLs]; exact CR_0) (Nat.lt_succ_self _)
    · skip
      exact W.vret SS.1 SS.2.1 hr (fun t0 ht hW => ⟨⟨(sL u 3 (u.2.2.1 3)), rfl, (⟨(u.2.2.1 3), rfl, fun hix hs9 => by exfalso; omega⟩), by show va_P D.1 j_cl (cW D q (sL u 3 (u.2.2.1 3))) t0.heap; rw [ht]; first | exact hP | (simp only [sC_id, sX_id, sY_id, sH_id, sT_id, sV_id]; exact hP)⟩, hS.F ht⟩) hS.2.2 dX5_noteCrossed_10 hlk

set_option maxHeartbeats 4000000 in
set_option maxRecDepth 100000 in
theorem c_X5_noteFlip3 (l : Launch) (D : JD) (q : Nat → Nat) (u : CS) (A : Nat → Prop) (hD : va_D A (cW D q u)) (a : Int) (b : Int) (c : Int) (d : Int) (p0 : 0 ≤ a ∧ a ≤ 12) (p1 : 0 ≤ b ∧ b ≤ 12) (p2 : 0 ≤ c ∧ c ≤ 12) (p3 : 0 ≤ d ∧ d ≤ 12) (p4 : ∀ k : Nat, -1 ≤ u.2.1 4 k ∧ u.2.1 4 k ≤ 63) (p5 : 0 ≤ u.2.2.2 21 ∧ u.2.2.2 21 ≤ 756) : Met l yX5_noteFlip (jw yX5_noteFlip cX5_noteFlip 11 none) (jr 2 44) (jP [.ref (q 66), .int (J a), .int (J b), .int (J c), .int (J d)] D (fun H => va_P D.1 j_cl (cW D q u) H)) (jWv (fun u' => ∃ w1 : Nat → Int64, ∃ w2 : Nat → Int64, ∃ n : Int, u' = (sV (sL (sL u 4 w1) 5 w2) 21 n) ∧ ((0 ≤ n ∧ n ≤ 756) ∧ ((0 ≤ a ∧ a < 12) → (0 ≤ b ∧ b < 12) → (0 ≤ c ∧ c < 12) → (0 ≤ d ∧ d < 12) → ∃ k9 o9 j1 j2 j3 j4 : Int, (NB9 (u.2.1 4) a b k9 ∧ NB9 (u.2.1 4) c d o9 ∧ NB9 (u.2.1 4) a c j1 ∧ NB9 (u.2.1 4) b c j2 ∧ NB9 (u.2.1 4) a d j3 ∧ NB9 (u.2.1 4) b d j4) ∧ NF9 (u.2.2.1 4) (u.2.2.1 5) w1 w2 (u.2.2.2 21) n k9 o9 j1 j2 j3 j4))) (fun u' H => va_P D.1 j_cl (cW D q u') H) A) 0 0 A := by
  refine Met.ofW (cc := cX5_noteFlip) (maxL := 11) (ret := none) (by decide) rfl ?_
  intro pr en st mi args below meth co s₁ B hml hv
  obtain ⟨rfl, hG, hP⟩ := hv
  have hr := B.returns
  have hlk := B.notSynchronized
  have SS : jS pr mi co cX5_noteFlip 11 st _ RX5 := ⟨B.exec, B.bytes, hml, findClass_of_methodNamed B.named, fun w hw => atoms_spec (ws := (jw yX5_noteFlip cX5_noteFlip 11 none)) B.pre w (List.mem_cons_of_mem _ hw)⟩
  have hl := lv_entry ([.ref (q 66), .int (J a), .int (J b), .int (J c), .int (J d)]) (n := 11) (Nat.le_of_ble_eq_true rfl)
  rw [lg_entry_eq]
  generalize (lg_sl ([.ref (q 66), .int (J a), .int (J b), .int (J c), .int (J d)]) ++ List.replicate (11 - (lg_sl ([.ref (q 66), .int (J a), .int (J b), .int (J c), .int (J d)])).length) Slot.unset).toArray = ls at hl ⊢
  have hl : lv_has ls 11 [(0, .ref (q 66)), (1, .int (J a)), (2, .int (J b)), (3, .int (J c)), (4, .int (J d))] := hl
  have hS : va_S A st.heap st.heap [] := va_S.rf
  refine lv_aload_n SS.1 SS.2.1 dX5_noteFlip_0 rfl (lv_at hl 0 rfl) ?_
  refine lv_iload_n SS.1 SS.2.1 dX5_noteFlip_1 rfl (lv_at hl 1 rfl) ?_
  refine lv_iload_n SS.1 SS.2.1 dX5_noteFlip_2 rfl (lv_at hl 2 rfl) ?_
  refine j_vRi SS (As := [.int (J a), .int (J b)]) (rest := []) (c_X5_number3 l D q u  a b (show 0 ≤ a ∧ a ≤ 12 from (by omega)) (show 0 ≤ b ∧ b ≤ 12 from (by omega)) (show ∀ k : Nat, -1 ≤ (u.2.1 4) k ∧ (u.2.1 4) k ≤ 63 from (p4))) mf_X5_number kw_922 hG hP hP (ci := 5) (q0 := 66) rfl rfl rfl rfl hl.1 ⟨⟨Nat.le_of_ble_eq_true rfl, Nat.le_of_ble_eq_true rfl⟩, Nat.le_of_ble_eq_true rfl, Nat.le_refl _, Nat.le_refl _⟩ rfl dX5_noteFlip_3 (fun z_3 h_3 => ?_)
  have h_3 : (-1 ≤ z_3 ∧ z_3 ≤ 63) ∧ ((0 ≤ a ∧ a < 12) → (0 ≤ b ∧ b < 12) → NB9 ((u.2.1 4)) a b z_3) := h_3
  obtain ⟨t_3, e_3⟩ := h_3
  refine lv_istore (lv' := [(5, .int (J z_3)), (0, .ref (q 66)), (1, .int (J a)), (2, .int (J b)), (3, .int (J c)), (4, .int (J d))]) SS.1 SS.2.1 dX5_noteFlip_6 hl (by decide) rfl (fun ls hl => ?_)
  refine lv_aload_n SS.1 SS.2.1 dX5_noteFlip_8 rfl (lv_at hl 1 rfl) ?_
  refine lv_iload_n SS.1 SS.2.1 dX5_noteFlip_9 rfl (lv_at hl 4 rfl) ?_
  refine lv_iload SS.1 SS.2.1 dX5_noteFlip_10 (lv_at hl 5 rfl) ?_
  refine j_vRi SS (As := [.int (J c), .int (J d)]) (rest := []) (c_X5_number3 l D q u  c d (show 0 ≤ c ∧ c ≤ 12 from (by omega)) (show 0 ≤ d ∧ d ≤ 12 from (by omega)) (show ∀ k : Nat, -1 ≤ (u.2.1 4) k ∧ (u.2.1 4) k ≤ 63 from (p4))) mf_X5_number kw_922 hG hP hP (ci := 5) (q0 := 66) rfl rfl rfl rfl hl.1 ⟨⟨Nat.le_of_ble_eq_true rfl, Nat.le_of_ble_eq_true rfl⟩, Nat.le_of_ble_eq_true rfl, Nat.le_refl _, Nat.le_refl _⟩ rfl dX5_noteFlip_12 (fun z_12 h_12 => ?_)
  have h_12 : (-1 ≤ z_12 ∧ z_12 ≤ 63) ∧ ((0 ≤ c ∧ c < 12) → (0 ≤ d ∧ d < 12) → NB9 ((u.2.1 4)) c d z_12) := h_12
  obtain ⟨t_12, e_12⟩ := h_12
  refine lv_istore (lv' := [(6, .int (J z_12)), (5, .int (J z_3)), (0, .ref (q 66)), (1, .int (J a)), (2, .int (J b)), (3, .int (J c)), (4, .int (J d))]) SS.1 SS.2.1 dX5_noteFlip_15 hl (by decide) rfl (fun ls hl => ?_)
  refine lv_aload_n SS.1 SS.2.1 dX5_noteFlip_17 rfl (lv_at hl 2 rfl) ?_
  refine lv_iload_n SS.1 SS.2.1 dX5_noteFlip_18 rfl (lv_at hl 3 rfl) ?_
  refine lv_iload_n SS.1 SS.2.1 dX5_noteFlip_19 rfl (lv_at hl 5 rfl) ?_
  refine j_vRi SS (As := [.int (J a), .int (J c)]) (rest := []) (c_X5_number3 l D q u  a c (show 0 ≤ a ∧ a ≤ 12 from (by omega)) (show 0 ≤ c ∧ c ≤ 12 from (by omega)) (show ∀ k : Nat, -1 ≤ (u.2.1 4) k ∧ (u.2.1 4) k ≤ 63 from (p4))) mf_X5_number kw_922 hG hP hP (ci := 5) (q0 := 66) rfl rfl rfl rfl hl.1 ⟨⟨Nat.le_of_ble_eq_true rfl, Nat.le_of_ble_eq_true rfl⟩, Nat.le_of_ble_eq_true rfl, Nat.le_refl _, Nat.le_refl _⟩ rfl dX5_noteFlip_20 (fun z_20 h_20 => ?_)
  have h_20 : (-1 ≤ z_20 ∧ z_20 ≤ 63) ∧ ((0 ≤ a ∧ a < 12) → (0 ≤ c ∧ c < 12) → NB9 ((u.2.1 4)) a c z_20) := h_20
  obtain ⟨t_20, e_20⟩ := h_20
  refine lv_istore (lv' := [(7, .int (J z_20)), (6, .int (J z_12)), (5, .int (J z_3)), (0, .ref (q 66)), (1, .int (J a)), (2, .int (J b)), (3, .int (J c)), (4, .int (J d))]) SS.1 SS.2.1 dX5_noteFlip_23 hl (by decide) rfl (fun ls hl => ?_)
  refine lv_aload_n SS.1 SS.2.1 dX5_noteFlip_25 rfl (lv_at hl 3 rfl) ?_
  refine lv_iload_n SS.1 SS.2.1 dX5_noteFlip_26 rfl (lv_at hl 5 rfl) ?_
  refine lv_iload_n SS.1 SS.2.1 dX5_noteFlip_27 rfl (lv_at hl 6 rfl) ?_
  refine j_vRi SS (As := [.int (J b), .int (J c)]) (rest := []) (c_X5_number3 l D q u  b c (show 0 ≤ b ∧ b ≤ 12 from (by omega)) (show 0 ≤ c ∧ c ≤ 12 from (by omega)) (show ∀ k : Nat, -1 ≤ (u.2.1 4) k ∧ (u.2.1 4) k ≤ 63 from (p4))) mf_X5_number kw_922 hG hP hP (ci := 5) (q0 := 66) rfl rfl rfl rfl hl.1 ⟨⟨Nat.le_of_ble_eq_true rfl, Nat.le_of_ble_eq_true rfl⟩, Nat.le_of_ble_eq_true rfl, Nat.le_refl _, Nat.le_refl _⟩ rfl dX5_noteFlip_28 (fun z_28 h_28 => ?_)
  have h_28 : (-1 ≤ z_28 ∧ z_28 ≤ 63) ∧ ((0 ≤ b ∧ b < 12) → (0 ≤ c ∧ c < 12) → NB9 ((u.2.1 4)) b c z_28) := h_28
  obtain ⟨t_28, e_28⟩ := h_28
  refine lv_istore (lv' := [(8, .int (J z_28)), (7, .int (J z_20)), (6, .int (J z_12)), (5, .int (J z_3)), (0, .ref (q 66)), (1, .int (J a)), (2, .int (J b)), (3, .int (J c)), (4, .int (J d))]) SS.1 SS.2.1 dX5_noteFlip_31 hl (by decide) rfl (fun ls hl => ?_)
  refine lv_aload_n SS.1 SS.2.1 dX5_noteFlip_33 rfl (lv_at hl 4 rfl) ?_
  refine lv_iload_n SS.1 SS.2.1 dX5_noteFlip_34 rfl (lv_at hl 5 rfl) ?_
  refine lv_iload SS.1 SS.2.1 dX5_noteFlip_35 (lv_at hl 8 rfl) ?_
  refine j_vRi SS (As := [.int (J a), .int (J d)]) (rest := []) (c_X5_number3 l D q u  a d (show 0 ≤ a ∧ a ≤ 12 from (by omega)) (show 0 ≤ d ∧ d ≤ 12 from (by omega)) (show ∀ k : Nat, -1 ≤ (u.2.1 4) k ∧ (u.2.1 4) k ≤ 63 from (p4))) mf_X5_number kw_922 hG hP hP (ci := 5) (q0 := 66) rfl rfl rfl rfl hl.1 ⟨⟨Nat.le_of_ble_eq_true rfl, Nat.le_of_ble_eq_true rfl⟩, Nat.le_of_ble_eq_true rfl, Nat.le_refl _, Nat.le_refl _⟩ rfl dX5_noteFlip_37 (fun z_37 h_37 => ?_)
  have h_37 : (-1 ≤ z_37 ∧ z_37 ≤ 63) ∧ ((0 ≤ a ∧ a < 12) → (0 ≤ d ∧ d < 12) → NB9 ((u.2.1 4)) a d z_37) := h_37
  obtain ⟨t_37, e_37⟩ := h_37
  refine lv_istore (lv' := [(9, .int (J z_37)), (8, .int (J z_28)), (7, .int (J z_20)), (6, .int (J z_12)), (5, .int (J z_3)), (0, .ref (q 66)), (1, .int (J a)), (2, .int (J b)), (3, .int (J c)), (4, .int (J d))]) SS.1 SS.2.1 dX5_noteFlip_40 hl (by decide) rfl (fun ls hl => ?_)
  refine lv_aload_n SS.1 SS.2.1 dX5_noteFlip_42 rfl (lv_at hl 5 rfl) ?_
  refine lv_iload_n SS.1 SS.2.1 dX5_noteFlip_43 rfl (lv_at hl 7 rfl) ?_
  refine lv_iload SS.1 SS.2.1 dX5_noteFlip_44 (lv_at hl 9 rfl) ?_
  refine j_vRi SS (As := [.int (J b), .int (J d)]) (rest := []) (c_X5_number3 l D q u  b d (show 0 ≤ b ∧ b ≤ 12 from (by omega)) (show 0 ≤ d ∧ d ≤ 12 from (by omega)) (show ∀ k : Nat, -1 ≤ (u.2.1 4) k ∧ (u.2.1 4) k ≤ 63 from (p4))) mf_X5_number kw_922 hG hP hP (ci := 5) (q0 := 66) rfl rfl rfl rfl hl.1 ⟨⟨Nat.le_of_ble_eq_true rfl, Nat.le_of_ble_eq_true rfl⟩, Nat.le_of_ble_eq_true rfl, Nat.le_refl _, Nat.le_refl _⟩ rfl dX5_noteFlip_46 (fun z_46 h_46 => ?_)
  have h_46 : (-1 ≤ z_46 ∧ z_46 ≤ 63) ∧ ((0 ≤ b ∧ b < 12) → (0 ≤ d ∧ d < 12) → NB9 ((u.2.1 4)) b d z_46) := h_46
  obtain ⟨t_46, e_46⟩ := h_46
  refine lv_istore (lv' := [(10, .int (J z_46)), (9, .int (J z_37)), (8, .int (J z_28)), (7, .int (J z_20)), (6, .int (J z_12)), (5, .int (J z_3)), (0, .ref (q 66)), (1, .int (J a)), (2, .int (J b)), (3, .int (J c)), (4, .int (J d))]) SS.1 SS.2.1 dX5_noteFlip_49 hl (by decide) rfl (fun ls hl => ?_)
  refine lv_iload SS.1 SS.2.1 dX5_noteFlip_51 (lv_at hl 5 rfl) ?_
  refine j_if_lt SS (tgt := 91) (x := z_3) dX5_noteFlip_53 (by decide) (by omega) (fun c_53 => ?_) (fun c_53 => ?_)
  · skip
    exact W.vret SS.1 SS.2.1 hr (fun t0 ht hW => ⟨⟨(sV (sL (sL u 4 (u.2.2.1 4)) 5 (u.2.2.1 5)) 21 (u.2.2.2 21)), rfl, (⟨(u.2.2.1 4), (u.2.2.1 5), (u.2.2.2 21), rfl, ⟨by omega, fun q1 q2 q3 q4 => ⟨z_3, z_12, z_20, z_28, z_37, z_46, ⟨e_3 q1 q2, e_12 q3 q4, e_20 q1 q3, e_28 q2 q3, e_37 q1 q4, e_46 q2 q4⟩, Or.inl ⟨by omega, rfl, rfl, rfl⟩⟩⟩⟩), by show va_P D.1 j_cl (cW D q (sV (sL (sL u 4 (u.2.2.1 4)) 5 (u.2.2.1 5)) 21 (u.2.2.2 21))) t0.heap; rw [ht]; first | exact hP | (simp only [sC_id, sX_id, sY_id, sH_id, sT_id, sV_id]; exact hP)⟩, hS.F ht⟩) hS.2.2 dX5_noteFlip_91 hlk
  · skip
    refine lv_iload SS.1 SS.2.1 dX5_noteFlip_56 (lv_at hl 4 rfl) ?_
    refine j_if_lt SS (tgt := 91) (x := z_12) dX5_noteFlip_58 (by decide) (by omega) (fun c_58 => ?_) (fun c_58 => ?_)
    · skip
      exact W.vret SS.1 SS.2.1 hr (fun t0 ht hW => ⟨⟨(sV (sL (sL u 4 (u.2.2.1 4)) 5 (u.2.2.1 5)) 21 (u.2.2.2 21)), rfl, (⟨(u.2.2.1 4), (u.2.2.1 5), (u.2.2.2 21), rfl, ⟨by omega, fun q1 q2 q3 q4 => ⟨z_3, z_12, z_20, z_28, z_37, z_46, ⟨e_3 q1 q2, e_12 q3 q4, e_20 q1 q3, e_28 q2 q3, e_37 q1 q4, e_46 q2 q4⟩, Or.inl ⟨by omega, rfl, rfl, rfl⟩⟩⟩⟩), by show va_P D.1 j_cl (cW D q (sV (sL (sL u 4 (u.2.2.1 4)) 5 (u.2.2.1 5)) 21 (u.2.2.2 21))) t0.heap; rw [ht]; first | exact hP | (simp only [sC_id, sX_id, sY_id, sH_id, sT_id, sV_id]; exact hP)⟩, hS.F ht⟩) hS.2.2 dX5_noteFlip_91 hlk
    · skip
      refine lv_iload SS.1 SS.2.1 dX5_noteFlip_61 (lv_at hl 3 rfl) ?_
      refine j_if_lt SS (tgt := 91) (x := z_20) dX5_noteFlip_63 (by decide) (by omega) (fun c_63 => ?_) (fun c_63 => ?_)
      · skip
        exact W.vret SS.1 SS.2.1 hr (fun t0 ht hW => ⟨⟨(sV (sL (sL u 4 (u.2.2.1 4)) 5 (u.2.2.1 5)) 21 (u.2.2.2 21)), rfl, (⟨(u.2.2.1 4), (u.2.2.1 5), (u.2.2.2 21), rfl, ⟨by omega, fun q1 q2 q3 q4 => ⟨z_3, z_12, z_20, z_28, z_37, z_46, ⟨e_3 q1 q2, e_12 q3 q4, e_20 q1 q3, e_28 q2 q3, e_37 q1 q4, e_46 q2 q4⟩, Or.inl ⟨by omega, rfl, rfl, rfl⟩⟩⟩⟩), by show va_P D.1 j_cl (cW D q (sV (sL (sL u 4 (u.2.2.1 4)) 5 (u.2.2.1 5)) 21 (u.2.2.2 21))) t0.heap; rw [ht]; first | exact hP | (simp only [sC_id, sX_id, sY_id, sH_id, sT_id, sV_id]; exact hP)⟩, hS.F ht⟩) hS.2.2 dX5_noteFlip_91 hlk
      · skip
        refine lv_iload SS.1 SS.2.1 dX5_noteFlip_66 (lv_at hl 2 rfl) ?_
        refine j_if_lt SS (tgt := 91) (x := z_28) dX5_noteFlip_68 (by decide) (by omega) (fun c_68 => ?_) (fun c_68 => ?_)
        · skip
          exact W.vret SS.1 SS.2.1 hr (fun t0 ht hW => ⟨⟨(sV (sL (sL u 4 (u.2.2.1 4)) 5 (u.2.2.1 5)) 21 (u.2.2.2 21)), rfl, (⟨(u.2.2.1 4), (u.2.2.1 5), (u.2.2.2 21), rfl, ⟨by omega, fun q1 q2 q3 q4 => ⟨z_3, z_12, z_20, z_28, z_37, z_46, ⟨e_3 q1 q2, e_12 q3 q4, e_20 q1 q3, e_28 q2 q3, e_37 q1 q4, e_46 q2 q4⟩, Or.inl ⟨by omega, rfl, rfl, rfl⟩⟩⟩⟩), by show va_P D.1 j_cl (cW D q (sV (sL (sL u 4 (u.2.2.1 4)) 5 (u.2.2.1 5)) 21 (u.2.2.2 21))) t0.heap; rw [ht]; first | exact hP | (simp only [sC_id, sX_id, sY_id, sH_id, sT_id, sV_id]; exact hP)⟩, hS.F ht⟩) hS.2.2 dX5_noteFlip_91 hlk
        · skip
          refine lv_iload SS.1 SS.2.1 dX5_noteFlip_71 (lv_at hl 1 rfl) ?_
          refine j_if_lt SS (tgt := 91) (x := z_37) dX5_noteFlip_73 (by decide) (by omega) (fun c_73 => ?_) (fun c_73 => ?_)
          · skip
            exact W.vret SS.1 SS.2.1 hr (fun t0 ht hW => ⟨⟨(sV (sL (sL u 4 (u.2.2.1 4)) 5 (u.2.2.1 5)) 21 (u.2.2.2 21)), rfl, (⟨(u.2.2.1 4), (u.2.2.1 5), (u.2.2.2 21), rfl, ⟨by omega, fun q1 q2 q3 q4 => ⟨z_3, z_12, z_20, z_28, z_37, z_46, ⟨e_3 q1 q2, e_12 q3 q4, e_20 q1 q3, e_28 q2 q3, e_37 q1 q4, e_46 q2 q4⟩, Or.inl ⟨by omega, rfl, rfl, rfl⟩⟩⟩⟩), by show va_P D.1 j_cl (cW D q (sV (sL (sL u 4 (u.2.2.1 4)) 5 (u.2.2.1 5)) 21 (u.2.2.2 21))) t0.heap; rw [ht]; first | exact hP | (simp only [sC_id, sX_id, sY_id, sH_id, sT_id, sV_id]; exact hP)⟩, hS.F ht⟩) hS.2.2 dX5_noteFlip_91 hlk
          · skip
            refine lv_iload SS.1 SS.2.1 dX5_noteFlip_76 (lv_at hl 0 rfl) ?_
            refine j_if_lt SS (tgt := 91) (x := z_46) dX5_noteFlip_78 (by decide) (by omega) (fun c_78 => ?_) (fun c_78 => ?_)
            · skip
              exact W.vret SS.1 SS.2.1 hr (fun t0 ht hW => ⟨⟨(sV (sL (sL u 4 (u.2.2.1 4)) 5 (u.2.2.1 5)) 21 (u.2.2.2 21)), rfl, (⟨(u.2.2.1 4), (u.2.2.1 5), (u.2.2.2 21), rfl, ⟨by omega, fun q1 q2 q3 q4 => ⟨z_3, z_12, z_20, z_28, z_37, z_46, ⟨e_3 q1 q2, e_12 q3 q4, e_20 q1 q3, e_28 q2 q3, e_37 q1 q4, e_46 q2 q4⟩, Or.inl ⟨by omega, rfl, rfl, rfl⟩⟩⟩⟩), by show va_P D.1 j_cl (cW D q (sV (sL (sL u 4 (u.2.2.1 4)) 5 (u.2.2.1 5)) 21 (u.2.2.2 21))) t0.heap; rw [ht]; first | exact hP | (simp only [sC_id, sX_id, sY_id, sH_id, sT_id, sV_id]; exact hP)⟩, hS.F ht⟩) hS.2.2 dX5_noteFlip_91 hlk
            · skip
              refine lv_aload_n SS.1 SS.2.1 dX5_noteFlip_81 rfl (lv_at hl 6 rfl) ?_
              refine j_get SS hG hP 66 (v := .int (J (u.2.2.2 21))) (C := RX5) (T := TX5) (N := 9) rfl rfl inX5 8 (by decide) (ref := "GridPolygons$Mesh") kw_319 rfl rfl dX5_noteFlip_82 ?_
              refine j_sipush SS dX5_noteFlip_85 (by decide +kernel) ?_
              refine j_icmp_lt SS (tgt := 92) (x := (u.2.2.2 21)) (y := 756) dX5_noteFlip_88 (by decide) (by omega) (by decide) (fun c_88 => ?_) (fun c_88 => ?_)
              · skip
                refine lv_aload_n SS.1 SS.2.1 dX5_noteFlip_92 rfl (lv_at hl 6 rfl) ?_
                refine j_get SS hG hP 66 (v := .ref (q 71)) (C := RX5) (T := TX5) (N := 9) rfl rfl inX5 6 (by decide) (ref := "GridPolygons$Mesh") kw_317 rfl rfl dX5_noteFlip_93 ?_
                refine lv_aload_n SS.1 SS.2.1 dX5_noteFlip_96 rfl (lv_at hl 6 rfl) ?_
                refine j_get SS hG hP 66 (v := .int (J (u.2.2.2 21))) (C := RX5) (T := TX5) (N := 9) rfl rfl inX5 8 (by decide) (ref := "GridPolygons$Mesh") kw_319 rfl rfl dX5_noteFlip_97 ?_
                refine lv_lconst (v := 1) SS.1 SS.2.1 dX5_noteFlip_100 (by decide +kernel) ?_
                refine lv_iload SS.1 SS.2.1 dX5_noteFlip_101 (lv_at hl 5 rfl) ?_
                refine lv_lshl SS.1 SS.2.1 dX5_noteFlip_103 rfl (lv_topl (fun x_103 ex_103 => ?_))
                refine lv_lconst (v := 1) SS.1 SS.2.1 dX5_noteFlip_104 (by decide +kernel) ?_
                refine lv_iload SS.1 SS.2.1 dX5_noteFlip_105 (lv_at hl 3 rfl) ?_
                refine lv_lshl SS.1 SS.2.1 dX5_noteFlip_107 rfl (lv_topl (fun x_107 ex_107 => ?_))
                refine lv_lor SS.1 SS.2.1 dX5_noteFlip_108 ?_
                refine lv_lconst (v := 1) SS.1 SS.2.1 dX5_noteFlip_109 (by decide +kernel) ?_
                refine lv_iload SS.1 SS.2.1 dX5_noteFlip_110 (lv_at hl 2 rfl) ?_
                refine lv_lshl SS.1 SS.2.1 dX5_noteFlip_112 rfl (lv_topl (fun x_112 ex_112 => ?_))
                refine lv_lor SS.1 SS.2.1 dX5_noteFlip_113 ?_
                refine lv_lconst (v := 1) SS.1 SS.2.1 dX5_noteFlip_114 (by decide +kernel) ?_
                refine lv_iload SS.1 SS.2.1 dX5_noteFlip_115 (lv_at hl 1 rfl) ?_
                refine lv_lshl SS.1 SS.2.1 dX5_noteFlip_117 rfl (lv_topl (fun x_117 ex_117 => ?_))
                refine lv_lor SS.1 SS.2.1 dX5_noteFlip_118 ?_
                refine lv_lconst (v := 1) SS.1 SS.2.1 dX5_noteFlip_119 (by decide +kernel) ?_
                refine lv_iload SS.1 SS.2.1 dX5_noteFlip_120 (lv_at hl 0 rfl) ?_
                refine lv_lshl SS.1 SS.2.1 dX5_noteFlip_122 rfl (lv_topl (fun x_122 ex_122 => ?_))
                refine lv_lor SS.1 SS.2.1 dX5_noteFlip_123 ?_
                refine j_last SS hG hP (cW_D hD) hS 71 (n := 756) (f := (u.2.2.1 4)) rfl (z := (u.2.2.2 21)) (v := ((((x_103 ||| x_107) ||| x_112) ||| x_117) ||| x_122)) (by omega) (by omega) dX5_noteFlip_124 (ws' := (cW D q (sL u 4 (vp_updL (u.2.2.1 4) ((u.2.2.2 21)).toNat ((((x_103 ||| x_107) ||| x_112) ||| x_117) ||| x_122))))) rfl (fun H locs hP hS => ?_)
                refine lv_aload_n SS.1 SS.2.1 dX5_noteFlip_125 rfl (lv_at hl 6 rfl) ?_
                refine j_get SS hG hP 66 (v := .ref (q 72)) (C := RX5) (T := TX5) (N := 9) rfl rfl inX5 7 (by decide) (ref := "GridPolygons$Mesh") kw_318 rfl rfl dX5_noteFlip_126 ?_
                refine lv_aload_n SS.1 SS.2.1 dX5_noteFlip_129 rfl (lv_at hl 6 rfl) ?_
                refine j_get SS hG hP 66 (v := .int (J (u.2.2.2 21))) (C := RX5) (T := TX5) (N := 9) rfl rfl inX5 8 (by decide) (ref := "GridPolygons$Mesh") kw_319 rfl rfl dX5_noteFlip_130 ?_
                refine lv_lconst (v := 1) SS.1 SS.2.1 dX5_noteFlip_133 (by decide +kernel) ?_
                refine lv_iload SS.1 SS.2.1 dX5_noteFlip_134 (lv_at hl 5 rfl) ?_
                refine lv_lshl SS.1 SS.2.1 dX5_noteFlip_136 rfl (lv_topl (fun x_136 ex_136 => ?_))
                refine lv_lconst (v := 1) SS.1 SS.2.1 dX5_noteFlip_137 (by decide +kernel) ?_
                refine lv_iload SS.1 SS.2.1 dX5_noteFlip_138 (lv_at hl 4 rfl) ?_
                refine lv_lshl SS.1 SS.2.1 dX5_noteFlip_140 rfl (lv_topl (fun x_140 ex_140 => ?_))
                refine lv_lor SS.1 SS.2.1 dX5_noteFlip_141 ?_
                refine j_last SS hG hP (cW_D hD) hS 72 (n := 756) (f := (u.2.2.1 5)) rfl (z := (u.2.2.2 21)) (v := (x_136 ||| x_140)) (by omega) (by omega) dX5_noteFlip_142 (ws' := (cW D q (sL (sL u 4 (vp_updL (u.2.2.1 4) ((u.2.2.2 21)).toNat ((((x_103 ||| x_107) ||| x_112) ||| x_117) ||| x_122))) 5 (vp_updL (u.2.2.1 5) ((u.2.2.2 21)).toNat (x_136 ||| x_140))))) rfl (fun H locs hP hS => ?_)
                refine lv_aload_n SS.1 SS.2.1 dX5_noteFlip_143 rfl (lv_at hl 6 rfl) ?_
                refine lv_dup SS.1 SS.2.1 dX5_noteFlip_144 rfl ?_
                refine j_get SS hG hP 66 (v := .int (J (u.2.2.2 21))) (C := RX5) (T := TX5) (N := 9) rfl rfl inX5 8 (by decide) (ref := "GridPolygons$Mesh") kw_319 rfl rfl dX5_noteFlip_145 ?_
                refine j_iconst SS dX5_noteFlip_148 ?_
                refine j_iadd SS (x := (u.2.2.2 21)) (y := 1) dX5_noteFlip_149 ?_
                refine j_put SS hG hP (cW_D hD) hS 66 (v := .int (J ((u.2.2.2 21) + 1))) (ty := .int) (C := RX5) (T := TX5) (N := 9) rfl rfl inX5 tyX5 tyX5_ok nmX5 8 (by decide) (ref := "GridPolygons$Mesh") kw_319 rfl rfl (by decide +kernel) rfl rfl (Nat.le_of_ble_eq_true rfl) dX5_noteFlip_150 (ws' := (cW D q (sV (sL (sL u 4 (vp_updL (u.2.2.1 4) ((u.2.2.2 21)).toNat ((((x_103 ||| x_107) ||| x_112) ||| x_117) ||| x_122))) 5 (vp_updL (u.2.2.1 5) ((u.2.2.2 21)).toNat (x_136 ||| x_140))) 21 ((u.2.2.2 21) + 1)))) rfl (fun H locs hP hS => ?_)
                exact W.vret SS.1 SS.2.1 hr (fun t0 ht hW => ⟨⟨(sV (sL (sL u 4 (vp_updL (u.2.2.1 4) ((u.2.2.2 21)).toNat ((((x_103 ||| x_107) ||| x_112) ||| x_117) ||| x_122))) 5 (vp_updL (u.2.2.1 5) ((u.2.2.2 21)).toNat (x_136 ||| x_140))) 21 ((u.2.2.2 21) + 1)), rfl, (⟨(vp_updL (u.2.2.1 4) ((u.2.2.2 21)).toNat ((((x_103 ||| x_107) ||| x_112) ||| x_117) ||| x_122)), (vp_updL (u.2.2.1 5) ((u.2.2.2 21)).toNat (x_136 ||| x_140)), ((u.2.2.2 21) + 1), rfl, ⟨by omega, fun q1 q2 q3 q4 => ⟨z_3, z_12, z_20, z_28, z_37, z_46, ⟨e_3 q1 q2, e_12 q3 q4, e_20 q1 q3, e_28 q2 q3, e_37 q1 q4, e_46 q2 q4⟩, Or.inr ⟨by omega, by rw [ex_103, ex_107, ex_112, ex_117, ex_122], by rw [ex_136, ex_140], rfl⟩⟩⟩⟩), by show va_P D.1 j_cl (cW D q (sV (sL (sL u 4 (vp_updL (u.2.2.1 4) ((u.2.2.2 21)).toNat ((((x_103 ||| x_107) ||| x_112) ||| x_117) ||| x_122))) 5 (vp_updL (u.2.2.1 5) ((u.2.2.2 21)).toNat (x_136 ||| x_140))) 21 ((u.2.2.2 21) + 1))) t0.heap; rw [ht]; first | exact hP | (simp only [sC_id, sX_id, sY_id, sH_id, sT_id, sV_id]; exact hP)⟩, hS.F ht⟩) hS.2.2 dX5_noteFlip_153 hlk
              · skip
                exact W.vret SS.1 SS.2.1 hr (fun t0 ht hW => ⟨⟨(sV (sL (sL u 4 (u.2.2.1 4)) 5 (u.2.2.1 5)) 21 (u.2.2.2 21)), rfl, (⟨(u.2.2.1 4), (u.2.2.1 5), (u.2.2.2 21), rfl, ⟨by omega, fun q1 q2 q3 q4 => ⟨z_3, z_12, z_20, z_28, z_37, z_46, ⟨e_3 q1 q2, e_12 q3 q4, e_20 q1 q3, e_28 q2 q3, e_37 q1 q4, e_46 q2 q4⟩, Or.inl ⟨by omega, rfl, rfl, rfl⟩⟩⟩⟩), by show va_P D.1 j_cl (cW D q (sV (sL (sL u 4 (u.2.2.1 4)) 5 (u.2.2.1 5)) 21 (u.2.2.2 21))) t0.heap; rw [ht]; first | exact hP | (simp only [sC_id, sX_id, sY_id, sH_id, sT_id, sV_id]; exact hP)⟩, hS.F ht⟩) hS.2.2 dX5_noteFlip_91 hlk

set_option maxHeartbeats 4000000 in
set_option maxRecDepth 100000 in
theorem c_X5_noteFlips3 (l : Launch) (D : JD) (q : Nat → Nat) (u : CS) (A : Nat → Prop) (hD : va_D A (cW D q u)) (s : Int) (p0 : RB 40 u 9) (p1 : -2147483648 ≤ s ∧ s ≤ 2147483647) (p2 : ∀ k : Nat, 0 ≤ u.2.1 2 k ∧ u.2.1 2 k ≤ 12) (p3 : ∀ k : Nat, 0 ≤ u.2.1 3 k ∧ u.2.1 3 k ≤ 12) (p4 : ∀ k : Nat, -1 ≤ u.2.1 4 k ∧ u.2.1 4 k ≤ 63) (p5 : 0 ≤ u.2.2.2 21 ∧ u.2.2.2 21 ≤ 756) : Met l yX5_noteFlips (jw yX5_noteFlips cX5_noteFlips 6 none) (jr 3 74) (jP [.ref (q 66), .int (J s)] D (fun H => va_P D.1 j_cl (cW D q u) H)) (jWv (fun u' => ∃ w1 : Nat → Int64, ∃ w2 : Nat → Int64, ∃ n : Int, u' = (sV (sL (sL u 4 w1) 5 w2) 21 n) ∧ ((0 ≤ n ∧ n ≤ 756) ∧ (MG9 (u.1.1 9) (u.1.2.1 9) (u.1.2.2.1 9) (u.2.2.2 20) (u.2.1 2) (u.2.1 3) (u.2.1 4) → (0 ≤ s ∧ s < u.2.2.2 20) → u.2.2.2 21 ≤ 12 * s → FM9 (u.1.1 9) (u.1.2.1 9) (u.2.1 2) (u.2.1 3) (u.1.2.2.1 9).toNat (u.2.2.2 20).toNat (u.2.2.1 4) (u.2.2.1 5) (u.2.2.2 21) (fun k p => (k : Int) < s) → FM9 (u.1.1 9) (u.1.2.1 9) (u.2.1 2) (u.2.1 3) (u.1.2.2.1 9).toNat (u.2.2.2 20).toNat (w1) (w2) n (fun k p => (k : Int) < s + 1) ∧ n ≤ 12 * (s + 1)))) (fun u' H => va_P D.1 j_cl (cW D q u') H) A) 0 0 A := by
  refine Met.ofW (cc := cX5_noteFlips) (maxL := 6) (ret := none) (by decide) rfl ?_
  intro pr en st mi args below meth co s₁ B hml hv
  obtain ⟨rfl, hG, hP⟩ := hv
  have hr := B.returns
  have hlk := B.notSynchronized
  have SS : jS pr mi co cX5_noteFlips 6 st _ RX5 := ⟨B.exec, B.bytes, hml, findClass_of_methodNamed B.named, fun w hw => atoms_spec (ws := (jw yX5_noteFlips cX5_noteFlips 6 none)) B.pre w (List.mem_cons_of_mem _ hw)⟩
  have hl := lv_entry ([.ref (q 66), .int (J s)]) (n := 6) (Nat.le_of_ble_eq_true rfl)
  rw [lg_entry_eq]
  generalize (lg_sl ([.ref (q 66), .int (J s)]) ++ List.replicate (6 - (lg_sl ([.ref (q 66), .int (J s)])).length) Slot.unset).toArray = ls at hl ⊢
  have hl : lv_has ls 6 [(0, .ref (q 66)), (1, .int (J s))] := hl
  have hS : va_S A st.heap st.heap [] := va_S.rf
  have hc := p0.1
  have hrk : (rl 9 : Int) = 12 := rfl
  refine lv_iload_n SS.1 SS.2.1 dX5_noteFlips_0 rfl (lv_at hl 1 rfl) ?_
  refine j_if_lt SS (tgt := 10) (x := s) dX5_noteFlips_1 (by decide) (by omega) (fun c_1 => ?_) (fun c_1 => ?_)
  · skip
    exact W.vret SS.1 SS.2.1 hr (fun t0 ht hW => ⟨⟨(sV (sL (sL u 4 (u.2.2.1 4)) 5 (u.2.2.1 5)) 21 (u.2.2.2 21)), rfl, (⟨(u.2.2.1 4), (u.2.2.1 5), (u.2.2.2 21), rfl, ⟨by omega, fun g1 g2 g3 g4 => by exfalso; have := g1.2.2.2.2; omega⟩⟩), by show va_P D.1 j_cl (cW D q (sV (sL (sL u 4 (u.2.2.1 4)) 5 (u.2.2.1 5)) 21 (u.2.2.2 21))) t0.heap; rw [ht]; first | exact hP | (simp only [sC_id, sX_id, sY_id, sH_id, sT_id, sV_id]; exact hP)⟩, hS.F ht⟩) hS.2.2 dX5_noteFlips_10 hlk
  · skip
    refine lv_iload_n SS.1 SS.2.1 dX5_noteFlips_4 rfl (lv_at hl 1 rfl) ?_
    refine j_bipush SS dX5_noteFlips_5 (by decide +kernel) ?_
    refine j_icmp_lt SS (tgt := 11) (x := s) (y := 63) dX5_noteFlips_7 (by decide) (by omega) (by decide) (fun c_7 => ?_) (fun c_7 => ?_)
    · skip
      refine lv_aload_n SS.1 SS.2.1 dX5_noteFlips_11 rfl (lv_at hl 0 rfl) ?_
      refine j_get SS hG hP 66 (v := .ref (q 53)) (C := RX5) (T := TX5) (N := 9) rfl rfl inX5 1 (by decide) (ref := "GridPolygons$Mesh") kw_311 rfl rfl dX5_noteFlips_12 ?_
      refine lv_iload_n SS.1 SS.2.1 dX5_noteFlips_15 rfl (lv_at hl 1 rfl) ?_
      refine j_iald SS hG hP 53 (n := 63) (f := (u.2.1 2)) rfl (z := s) (by omega) (by omega) dX5_noteFlips_16 ?_
      obtain ⟨a1, ea1⟩ : ∃ z : Int, z = ((u.2.1 2) (s).toNat) := ⟨_, rfl⟩
      rw [← ea1]
      refine lv_istore_n (lv' := [(2, .int (J a1)), (0, .ref (q 66)), (1, .int (J s))]) SS.1 SS.2.1 dX5_noteFlips_17 rfl hl (by decide) rfl (fun ls hl => ?_)
      refine lv_aload_n SS.1 SS.2.1 dX5_noteFlips_18 rfl (lv_at hl 1 rfl) ?_
      refine j_get SS hG hP 66 (v := .ref (q 57)) (C := RX5) (T := TX5) (N := 9) rfl rfl inX5 2 (by decide) (ref := "GridPolygons$Mesh") kw_312 rfl rfl dX5_noteFlips_19 ?_
      refine lv_iload_n SS.1 SS.2.1 dX5_noteFlips_22 rfl (lv_at hl 2 rfl) ?_
      refine j_iald SS hG hP 57 (n := 63) (f := (u.2.1 3)) rfl (z := s) (by omega) (by omega) dX5_noteFlips_23 ?_
      obtain ⟨b1, eb1⟩ : ∃ z : Int, z = ((u.2.1 3) (s).toNat) := ⟨_, rfl⟩
      rw [← eb1]
      refine lv_istore_n (lv' := [(3, .int (J b1)), (2, .int (J a1)), (0, .ref (q 66)), (1, .int (J s))]) SS.1 SS.2.1 dX5_noteFlips_24 rfl hl (by decide) rfl (fun ls hl => ?_)
      have l1 := p2 s.toNat
      have l2 := p3 s.toNat
      rw [← ea1] at l1
      rw [← eb1] at l2
      refine j_iconst SS dX5_noteFlips_25 ?_
      refine lv_istore (lv' := [(4, .int (J 0)), (3, .int (J b1)), (2, .int (J a1)), (0, .ref (q 66)), (1, .int (J s))]) SS.1 SS.2.1 dX5_noteFlips_26 hl (by decide) rfl (fun ls hl => ?_)
      have L_28 : ∀ (nn : Nat) (c : Int) (w3 : Nat → Int64) (w4 : Nat → Int64) (n3 : Int) (H : Heap) (locs : List Loc) (hP : va_P D.1 j_cl (cW D q (sV (sL (sL u 4 w3) 5 w4) 21 n3)) H) (hS : va_S A st.heap H locs) (ls : Array Slot) (hl : lv_has ls 6 [(0, .ref (q 66)), (1, .int (J s)), (2, .int (J a1)), (3, .int (J b1)), (4, .int (J c))]) (i28_0 : 0 ≤ c ∧ c ≤ u.1.2.2.1 9) (i28_1 : 0 ≤ n3 ∧ n3 ≤ 756) (i28_2 : MG9 (u.1.1 9) (u.1.2.1 9) (u.1.2.2.1 9) (u.2.2.2 20) (u.2.1 2) (u.2.1 3) (u.2.1 4) → (0 ≤ s ∧ s < u.2.2.2 20) → u.2.2.2 21 ≤ 12 * s → FM9 (u.1.1 9) (u.1.2.1 9) (u.2.1 2) (u.2.1 3) (u.1.2.2.1 9).toNat (u.2.2.2 20).toNat (u.2.2.1 4) (u.2.2.1 5) (u.2.2.2 21) (fun k p => (k : Int) < s) → FM9 (u.1.1 9) (u.1.2.1 9) (u.2.1 2) (u.2.1 3) (u.1.2.2.1 9).toNat (u.2.2.2 20).toNat (w3) (w4) n3 (fun k p => (k : Int) < s ∨ ((k : Int) = s ∧ (p : Int) < c)) ∧ n3 ≤ 12 * s + c), ((12 : Int) - c).toNat < nn → W pr l en (headSpec (jw yX5_noteFlips cX5_noteFlips 6 none) (jr 3 74)).room st mi (([.ref (q 66), .int (J s)] : List Value).toArray) below meth co H locs 0 0 (MQ below (jWv (fun u' => ∃ w1 : Nat → Int64, ∃ w2 : Nat → Int64, ∃ n : Int, u' = (sV (sL (sL u 4 w1) 5 w2) 21 n) ∧ ((0 ≤ n ∧ n ≤ 756) ∧ (MG9 (u.1.1 9) (u.1.2.1 9) (u.1.2.2.1 9) (u.2.2.2 20) (u.2.1 2) (u.2.1 3) (u.2.1 4) → (0 ≤ s ∧ s < u.2.2.2 20) → u.2.2.2 21 ≤ 12 * s → FM9 (u.1.1 9) (u.1.2.1 9) (u.2.1 2) (u.2.1 3) (u.1.2.2.1 9).toNat (u.2.2.2 20).toNat (u.2.2.1 4) (u.2.2.1 5) (u.2.2.2 21) (fun k p => (k : Int) < s) → FM9 (u.1.1 9) (u.1.2.1 9) (u.2.1 2) (u.2.1 3) (u.1.2.2.1 9).toNat (u.2.2.2 20).toNat (w1) (w2) n (fun k p => (k : Int) < s + 1) ∧ n ≤ 12 * (s + 1)))) (fun u' H => va_P D.1 j_cl (cW D q u') H) A) (([.ref (q 66), .int (J s)] : List Value).toArray) st 0 0 A) (F0 mi 28 ls []) := by
        intro nn
        induction nn with
        | zero => intros; omega
        | succ nn ih_28 =>
          intro c w3 w4 n3 H locs hP hS ls hl i28_0 i28_1 i28_2 hm
          refine lv_iload SS.1 SS.2.1 dX5_noteFlips_28 (lv_at hl 4 rfl) ?_
          refine lv_aload_n SS.1 SS.2.1 dX5_noteFlips_30 rfl (lv_at hl 0 rfl) ?_
          refine j_get SS hG hP 66 (v := .ref (q (9 + 5 * 9))) (C := RX5) (T := TX5) (N := 9) rfl rfl inX5 0 (by decide) (ref := "GridPolygons$Mesh") kw_310 rfl rfl dX5_noteFlips_31 ?_
          refine j_getS SS hG hP (9 + 5 * 9) (v := .int (J (u.1.2.2.1 9))) (C := RX6) (T := TX6) (N := 3) (cw_pts (by omega)) rfl inX6 2 (by decide) (ref := "GridPolygons$Points") kw_136 kw_134 rfl dX5_noteFlips_34 ?_
          refine j_icmp_ge SS (tgt := 139) (x := c) (y := (u.1.2.2.1 9)) dX5_noteFlips_37 (by decide) (by omega) (by omega) (fun c_37 => ?_) (fun c_37 => ?_)
          · skip
            exact W.vret SS.1 SS.2.1 hr (fun t0 ht hW => ⟨⟨(sV (sL (sL u 4 w3) 5 w4) 21 n3), rfl, (⟨w3, w4, n3, rfl, ⟨by omega, fun g1 g2 g3 g4 => by have f9 := i28_2 g1 g2 g3 g4; have q9 := g1.1; exact ⟨FM_c f9.1 (fun k p w => by omega) (fun k p h1 h2 w => by omega), by omega⟩⟩⟩), by show va_P D.1 j_cl (cW D q (sV (sL (sL u 4 w3) 5 w4) 21 n3)) t0.heap; rw [ht]; first | exact hP | (simp only [sC_id, sX_id, sY_id, sH_id, sT_id, sV_id]; exact hP)⟩, hS.F ht⟩) hS.2.2 dX5_noteFlips_139 hlk
          · skip
            refine lv_aload_n SS.1 SS.2.1 dX5_noteFlips_40 rfl (lv_at hl 0 rfl) ?_
            refine j_get SS hG hP 66 (v := .ref (q (9 + 5 * 9))) (C := RX5) (T := TX5) (N := 9) rfl rfl inX5 0 (by decide) (ref := "GridPolygons$Mesh") kw_310 rfl rfl dX5_noteFlips_41 ?_
            refine lv_iload_n SS.1 SS.2.1 dX5_noteFlips_44 rfl (lv_at hl 2 rfl) ?_
            refine lv_iload_n SS.1 SS.2.1 dX5_noteFlips_45 rfl (lv_at hl 3 rfl) ?_
            refine lv_iload SS.1 SS.2.1 dX5_noteFlips_46 (lv_at hl 4 rfl) ?_
            refine j_vRi SS (As := [.int (J a1), .int (J b1), .int (J c)]) (rest := []) (c_X6_turn_9t l D q (sV (sL (sL u 4 w3) 5 w4) 21 n3)  a1 b1 c (show RB 40 (sV (sL (sL u 4 w3) 5 w4) 21 n3) 9 from (p0)) (show -2147483648 ≤ a1 ∧ a1 ≤ 2147483647 from (by omega)) (show -2147483648 ≤ b1 ∧ b1 ≤ 2147483647 from (by omega)) (show -2147483648 ≤ c ∧ c ≤ 2147483647 from (by omega))) mf_X6_turn kw_904 hG hP hP (ci := 6) (q0 := (9 + 5 * 9)) rfl (cw_pts (by omega)) rfl rfl hl.1 ⟨⟨Nat.le_of_ble_eq_true rfl, Nat.le_of_ble_eq_true rfl⟩, Nat.le_of_ble_eq_true rfl, Nat.le_refl _, Nat.le_refl _⟩ rfl dX5_noteFlips_48 (fun z_48 h_48 => ?_)
            have h_48 : (-12800 ≤ z_48 ∧ z_48 ≤ 12800) ∧ ((0 ≤ a1 ∧ a1 < 12) → (0 ≤ b1 ∧ b1 < 12) → (0 ≤ c ∧ c < 12) → z_48 = tn ((u.1.1 9)) ((u.1.2.1 9)) a1.toNat b1.toNat c.toNat) := h_48
            obtain ⟨t_48, e_48⟩ := h_48
            have gx : MG9 (u.1.1 9) (u.1.2.1 9) (u.1.2.2.1 9) (u.2.2.2 20) (u.2.1 2) (u.2.1 3) (u.2.1 4) → (0 ≤ s ∧ s < u.2.2.2 20) → (0 ≤ a1 ∧ a1 < b1 ∧ b1 < u.1.2.2.1 9 ∧ u.1.2.2.1 9 ≤ 12) := fun g1 g2 => by have q9 := (OL_in g1.2.2.1 (a := s.toNat) (by omega)).1; have q8 := g1.1; rw [ea1, eb1]; omega
            have tx : MG9 (u.1.1 9) (u.1.2.1 9) (u.1.2.2.1 9) (u.2.2.2 20) (u.2.1 2) (u.2.1 3) (u.2.1 4) → (0 ≤ s ∧ s < u.2.2.2 20) → z_48 = tn (u.1.1 9) (u.1.2.1 9) (u.2.1 2 s.toNat).toNat (u.2.1 3 s.toNat).toNat c.toNat := fun g1 g2 => by have q9 := gx g1 g2; rw [← ea1, ← eb1]; exact e_48 (by omega) (by omega) (by omega)
            refine j_iconst SS dX5_noteFlips_51 ?_
            refine j_icmp_ne SS (tgt := 133) (x := z_48) (y := 1) dX5_noteFlips_52 (by decide) (by omega) (by decide) (fun c_52 => ?_) (fun c_52 => ?_)
            · skip
              refine lv_iinc (v := J (c + 1)) (lv' := [(4, .int (J (c + 1))), (0, .ref (q 66)), (1, .int (J s)), (2, .int (J a1)), (3, .int (J b1))]) SS.1 SS.2.1 dX5_noteFlips_133 hl (k := 4) rfl (J_add _ _) (by decide) rfl (fun ls hl => ?_)
              refine lv_goto (tgt := 28) SS.1 SS.2.1 dX5_noteFlips_136 (by decide) ?_
              exact ih_28 (c + 1) w3 w4 n3 _ _ hP hS ls (lv_sub hl [1, 2, 3, 4, 0] rfl) (by omega) (by omega) (fun g1 g2 g3 g4 => by have f9 := i28_2 g1 g2 g3 g4; have q9 := gx g1 g2; have tx9 := tx g1 g2; first | (have xx9 := xx g1 g2; exact NF_s (d := z_113) (k := 0) (o := 0) (i1 := 0) (i2 := 0) (i3 := 0) (i4 := 0) g1 g2 (by omega) (by omega) (by omega) f9.1 (Or.inl ⟨by omega, by rcases e_113 with w9 | w9; (have w8 := w9.2; rw [xx9.1, xx9.2.1, xx9.2.2.1, xx9.2.2.2.1, xx9.2.2.2.2.1, xx9.2.2.2.2.2] at w8; exact w8); omega, rfl, rfl, rfl⟩)) | (have xx9 := xx g1 g2; obtain ⟨k9, o9, j1, j2, j3, j4, nb9, nf9⟩ := e_130 (by omega) (by omega) (by omega) (by omega); exact NF_s (d := z_113) g1 g2 (by omega) (by omega) (by omega) f9.1 (Or.inr ⟨by rcases e_113 with w9 | w9; omega; exact w9.1, by rcases e_113 with w9 | w9; omega; (have w8 := w9.2; rw [xx9.1, xx9.2.1, xx9.2.2.1, xx9.2.2.2.1, xx9.2.2.2.2.1, xx9.2.2.2.2.2] at w8; exact w8), by rw [ea1, eb1] at nb9; exact nb9, nf9⟩)) | exact ⟨FM_n (s := s.toNat) (r := c.toNat) f9.1 (fun k p => by omega) (fun q o i1 i2 i3 i4 w => by have w9 := w.2.1; omega), by omega⟩) (by omega)
            · skip
              refine lv_aload_n SS.1 SS.2.1 dX5_noteFlips_55 rfl (lv_at hl 0 rfl) ?_
              refine j_get SS hG hP 66 (v := .ref (q (9 + 5 * 9))) (C := RX5) (T := TX5) (N := 9) rfl rfl inX5 0 (by decide) (ref := "GridPolygons$Mesh") kw_310 rfl rfl dX5_noteFlips_56 ?_
              refine lv_aload_n SS.1 SS.2.1 dX5_noteFlips_59 rfl (lv_at hl 0 rfl) ?_
              refine j_get SS hG hP 66 (v := .ref (q (9 + 5 * 9))) (C := RX5) (T := TX5) (N := 9) rfl rfl inX5 0 (by decide) (ref := "GridPolygons$Mesh") kw_310 rfl rfl dX5_noteFlips_60 ?_
              refine lv_iload_n SS.1 SS.2.1 dX5_noteFlips_63 rfl (lv_at hl 2 rfl) ?_
              refine j_uRi SS (As := [.int (J a1)]) (rest := [.ref (q (9 + 5 * 9))]) (c_X8_xP l D q (sV (sL (sL u 4 w3) 5 w4) 21 n3) 9 (by omega) a1 (show -2147483648 ≤ a1 ∧ a1 ≤ 2147483647 from (by omega))) mu_6_x kw_885 hG hP hP (ci := 6) (q0 := (9 + 5 * 9)) rfl (cw_pts (by omega)) rfl rfl hl.1 ⟨⟨Nat.le_of_ble_eq_true rfl, Nat.le_of_ble_eq_true rfl⟩, Nat.le_of_ble_eq_true rfl, Nat.le_refl _, Nat.le_refl _⟩ rfl dX5_noteFlips_64 (fun z_64 h_64 => ?_)
              have h_64 : z_64 = rx (sV (sL (sL u 4 w3) 5 w4) 21 n3) 9 a1 ∧ ∀ K : Int, 0 ≤ K → RB K (sV (sL (sL u 4 w3) 5 w4) 21 n3) 9 → -K ≤ z_64 ∧ z_64 ≤ K := h_64
              have hb_64 := h_64.2 40 (by omega) (p0)
              refine lv_aload_n SS.1 SS.2.1 dX5_noteFlips_67 rfl (lv_at hl 0 rfl) ?_
              refine j_get SS hG hP 66 (v := .ref (q (9 + 5 * 9))) (C := RX5) (T := TX5) (N := 9) rfl rfl inX5 0 (by decide) (ref := "GridPolygons$Mesh") kw_310 rfl rfl dX5_noteFlips_68 ?_
              refine lv_iload_n SS.1 SS.2.1 dX5_noteFlips_71 rfl (lv_at hl 3 rfl) ?_
              refine j_uRi SS (As := [.int (J b1)]) (rest := [.int (J z_64), .ref (q (9 + 5 * 9))]) (c_X8_xP l D q (sV (sL (sL u 4 w3) 5 w4) 21 n3) 9 (by omega) b1 (show -2147483648 ≤ b1 ∧ b1 ≤ 2147483647 from (by omega))) mu_6_x kw_885 hG hP hP (ci := 6) (q0 := (9 + 5 * 9)) rfl (cw_pts (by omega)) rfl rfl hl.1 ⟨⟨Nat.le_of_ble_eq_true rfl, Nat.le_of_ble_eq_true rfl⟩, Nat.le_of_ble_eq_true rfl, Nat.le_refl _, Nat.le_refl _⟩ rfl dX5_noteFlips_72 (fun z_72 h_72 => ?_)
              have h_72 : z_72 = rx (sV (sL (sL u 4 w3) 5 w4) 21 n3) 9 b1 ∧ ∀ K : Int, 0 ≤ K → RB K (sV (sL (sL u 4 w3) 5 w4) 21 n3) 9 → -K ≤ z_72 ∧ z_72 ≤ K := h_72
              have hb_72 := h_72.2 40 (by omega) (p0)
              refine j_iadd SS (x := z_64) (y := z_72) dX5_noteFlips_75 ?_
              refine lv_aload_n SS.1 SS.2.1 dX5_noteFlips_76 rfl (lv_at hl 0 rfl) ?_
              refine j_get SS hG hP 66 (v := .ref (q (9 + 5 * 9))) (C := RX5) (T := TX5) (N := 9) rfl rfl inX5 0 (by decide) (ref := "GridPolygons$Mesh") kw_310 rfl rfl dX5_noteFlips_77 ?_
              refine lv_iload SS.1 SS.2.1 dX5_noteFlips_80 (lv_at hl 4 rfl) ?_
              refine j_uRi SS (As := [.int (J c)]) (rest := [.int (J (z_64 + z_72)), .ref (q (9 + 5 * 9))]) (c_X8_xP l D q (sV (sL (sL u 4 w3) 5 w4) 21 n3) 9 (by omega) c (show -2147483648 ≤ c ∧ c ≤ 2147483647 from (by omega))) mu_6_x kw_885 hG hP hP (ci := 6) (q0 := (9 + 5 * 9)) rfl (cw_pts (by omega)) rfl rfl hl.1 ⟨⟨Nat.le_of_ble_eq_true rfl, Nat.le_of_ble_eq_true rfl⟩, Nat.le_of_ble_eq_true rfl, Nat.le_refl _, Nat.le_refl _⟩ rfl dX5_noteFlips_82 (fun z_82 h_82 => ?_)
              have h_82 : z_82 = rx (sV (sL (sL u 4 w3) 5 w4) 21 n3) 9 c ∧ ∀ K : Int, 0 ≤ K → RB K (sV (sL (sL u 4 w3) 5 w4) 21 n3) 9 → -K ≤ z_82 ∧ z_82 ≤ K := h_82
              have hb_82 := h_82.2 40 (by omega) (p0)
              refine j_isub SS (x := (z_64 + z_72)) (y := z_82) dX5_noteFlips_85 ?_
              refine lv_aload_n SS.1 SS.2.1 dX5_noteFlips_86 rfl (lv_at hl 0 rfl) ?_
              refine j_get SS hG hP 66 (v := .ref (q (9 + 5 * 9))) (C := RX5) (T := TX5) (N := 9) rfl rfl inX5 0 (by decide) (ref := "GridPolygons$Mesh") kw_310 rfl rfl dX5_noteFlips_87 ?_
              refine lv_iload_n SS.1 SS.2.1 dX5_noteFlips_90 rfl (lv_at hl 2 rfl) ?_
              refine j_uRi SS (As := [.int (J a1)]) (rest := [.int (J ((z_64 + z_72) - z_82)), .ref (q (9 + 5 * 9))]) (c_X8_yP l D q (sV (sL (sL u 4 w3) 5 w4) 21 n3) 9 (by omega) a1 (show -2147483648 ≤ a1 ∧ a1 ≤ 2147483647 from (by omega))) mu_6_y kw_888 hG hP hP (ci := 6) (q0 := (9 + 5 * 9)) rfl (cw_pts (by omega)) rfl rfl hl.1 ⟨⟨Nat.le_of_ble_eq_true rfl, Nat.le_of_ble_eq_true rfl⟩, Nat.le_of_ble_eq_true rfl, Nat.le_refl _, Nat.le_refl _⟩ rfl dX5_noteFlips_91 (fun z_91 h_91 => ?_)
              have h_91 : z_91 = ry9 (sV (sL (sL u 4 w3) 5 w4) 21 n3) 9 a1 ∧ ∀ K : Int, 0 ≤ K → RB K (sV (sL (sL u 4 w3) 5 w4) 21 n3) 9 → -K ≤ z_91 ∧ z_91 ≤ K := h_91
              have hb_91 := h_91.2 40 (by omega) (p0)
              refine lv_aload_n SS.1 SS.2.1 dX5_noteFlips_94 rfl (lv_at hl 0 rfl) ?_
              refine j_get SS hG hP 66 (v := .ref (q (9 + 5 * 9))) (C := RX5) (T := TX5) (N := 9) rfl rfl inX5 0 (by decide) (ref := "GridPolygons$Mesh") kw_310 rfl rfl dX5_noteFlips_95 ?_
              refine lv_iload_n SS.1 SS.2.1 dX5_noteFlips_98 rfl (lv_at hl 3 rfl) ?_
              refine j_uRi SS (As := [.int (J b1)]) (rest := [.int (J z_91), .int (J ((z_64 + z_72) - z_82)), .ref (q (9 + 5 * 9))]) (c_X8_yP l D q (sV (sL (sL u 4 w3) 5 w4) 21 n3) 9 (by omega) b1 (show -2147483648 ≤ b1 ∧ b1 ≤ 2147483647 from (by omega))) mu_6_y kw_888 hG hP hP (ci := 6) (q0 := (9 + 5 * 9)) rfl (cw_pts (by omega)) rfl rfl hl.1 ⟨⟨Nat.le_of_ble_eq_true rfl, Nat.le_of_ble_eq_true rfl⟩, Nat.le_of_ble_eq_true rfl, Nat.le_refl _, Nat.le_refl _⟩ rfl dX5_noteFlips_99 (fun z_99 h_99 => ?_)
              have h_99 : z_99 = ry9 (sV (sL (sL u 4 w3) 5 w4) 21 n3) 9 b1 ∧ ∀ K : Int, 0 ≤ K → RB K (sV (sL (sL u 4 w3) 5 w4) 21 n3) 9 → -K ≤ z_99 ∧ z_99 ≤ K := h_99
              have hb_99 := h_99.2 40 (by omega) (p0)
              refine j_iadd SS (x := z_91) (y := z_99) dX5_noteFlips_102 ?_
              refine lv_aload_n SS.1 SS.2.1 dX5_noteFlips_103 rfl (lv_at hl 0 rfl) ?_
              refine j_get SS hG hP 66 (v := .ref (q (9 + 5 * 9))) (C := RX5) (T := TX5) (N := 9) rfl rfl inX5 0 (by decide) (ref := "GridPolygons$Mesh") kw_310 rfl rfl dX5_noteFlips_104 ?_
              refine lv_iload SS.1 SS.2.1 dX5_noteFlips_107 (lv_at hl 4 rfl) ?_
              refine j_uRi SS (As := [.int (J c)]) (rest := [.int (J (z_91 + z_99)), .int (J ((z_64 + z_72) - z_82)), .ref (q (9 + 5 * 9))]) (c_X8_yP l D q (sV (sL (sL u 4 w3) 5 w4) 21 n3) 9 (by omega) c (show -2147483648 ≤ c ∧ c ≤ 2147483647 from (by omega))) mu_6_y kw_888 hG hP hP (ci := 6) (q0 := (9 + 5 * 9)) rfl (cw_pts (by omega)) rfl rfl hl.1 ⟨⟨Nat.le_of_ble_eq_true rfl, Nat.le_of_ble_eq_true rfl⟩, Nat.le_of_ble_eq_true rfl, Nat.le_refl _, Nat.le_refl _⟩ rfl dX5_noteFlips_109 (fun z_109 h_109 => ?_)
              have h_109 : z_109 = ry9 (sV (sL (sL u 4 w3) 5 w4) 21 n3) 9 c ∧ ∀ K : Int, 0 ≤ K → RB K (sV (sL (sL u 4 w3) 5 w4) 21 n3) 9 → -K ≤ z_109 ∧ z_109 ≤ K := h_109
              have hb_109 := h_109.2 40 (by omega) (p0)
              refine j_isub SS (x := (z_91 + z_99)) (y := z_109) dX5_noteFlips_112 ?_
              refine j_vRi SS (As := [.int (J ((z_64 + z_72) - z_82)), .int (J ((z_91 + z_99) - z_109))]) (rest := []) (c_X6_find3 l D q (sV (sL (sL u 4 w3) 5 w4) 21 n3)  ((z_64 + z_72) - z_82) ((z_91 + z_99) - z_109) (show RB 40 (sV (sL (sL u 4 w3) 5 w4) 21 n3) 9 from (p0)) (show -2147483648 ≤ ((z_64 + z_72) - z_82) ∧ ((z_64 + z_72) - z_82) ≤ 2147483647 from (by omega)) (show -2147483648 ≤ ((z_91 + z_99) - z_109) ∧ ((z_91 + z_99) - z_109) ≤ 2147483647 from (by omega))) mf_X6_find kw_914 hG hP hP (ci := 6) (q0 := (9 + 5 * 9)) rfl (cw_pts (by omega)) rfl rfl hl.1 ⟨⟨Nat.le_of_ble_eq_true rfl, Nat.le_of_ble_eq_true rfl⟩, Nat.le_of_ble_eq_true rfl, Nat.le_refl _, Nat.le_refl _⟩ rfl dX5_noteFlips_113 (fun z_113 h_113 => ?_)
              have h_113 : (-1 ≤ z_113 ∧ z_113 ≤ 11) ∧ ((z_113 = -1 ∧ ∀ p : Nat, (p : Int) < (u.1.2.2.1 9) → ¬ ((u.1.1 9) p = ((z_64 + z_72) - z_82) ∧ (u.1.2.1 9) p = ((z_91 + z_99) - z_109))) ∨ ((0 ≤ z_113 ∧ z_113 < (u.1.2.2.1 9)) ∧ (u.1.1 9) z_113.toNat = ((z_64 + z_72) - z_82) ∧ (u.1.2.1 9) z_113.toNat = ((z_91 + z_99) - z_109))) := h_113
              obtain ⟨t_113, e_113⟩ := h_113
              have xx : MG9 (u.1.1 9) (u.1.2.1 9) (u.1.2.2.1 9) (u.2.2.2 20) (u.2.1 2) (u.2.1 3) (u.2.1 4) → (0 ≤ s ∧ s < u.2.2.2 20) → z_64 = u.1.1 9 (u.2.1 2 s.toNat).toNat ∧ z_72 = u.1.1 9 (u.2.1 3 s.toNat).toNat ∧ z_82 = u.1.1 9 c.toNat ∧ z_91 = u.1.2.1 9 (u.2.1 2 s.toNat).toNat ∧ z_99 = u.1.2.1 9 (u.2.1 3 s.toNat).toNat ∧ z_109 = u.1.2.1 9 c.toNat := fun g1 g2 => by have q9 := gx g1 g2; rw [← ea1, ← eb1]; exact ⟨h_64.1.trans (rx_99 (by omega)), h_72.1.trans (rx_99 (by omega)), h_82.1.trans (rx_99 (by omega)), h_91.1.trans (ry_99 (by omega)), h_99.1.trans (ry_99 (by omega)), h_109.1.trans (ry_99 (by omega))⟩
              refine lv_istore (lv' := [(5, .int (J z_113)), (0, .ref (q 66)), (1, .int (J s)), (2, .int (J a1)), (3, .int (J b1)), (4, .int (J c))]) SS.1 SS.2.1 dX5_noteFlips_116 hl (by decide) rfl (fun ls hl => ?_)
              refine lv_iload SS.1 SS.2.1 dX5_noteFlips_118 (lv_at hl 0 rfl) ?_
              refine j_if_lt SS (tgt := 133) (x := z_113) dX5_noteFlips_120 (by decide) (by omega) (fun c_120 => ?_) (fun c_120 => ?_)
              · skip
                refine lv_iinc (v := J (c + 1)) (lv' := [(4, .int (J (c + 1))), (5, .int (J z_113)), (0, .ref (q 66)), (1, .int (J s)), (2, .int (J a1)), (3, .int (J b1))]) SS.1 SS.2.1 dX5_noteFlips_133 hl (k := 5) rfl (J_add _ _) (by decide) rfl (fun ls hl => ?_)
                refine lv_goto (tgt := 28) SS.1 SS.2.1 dX5_noteFlips_136 (by decide) ?_
                exact ih_28 (c + 1) w3 w4 n3 _ _ hP hS ls (lv_sub hl [2, 3, 4, 5, 0] rfl) (by omega) (by omega) (fun g1 g2 g3 g4 => by have f9 := i28_2 g1 g2 g3 g4; have q9 := gx g1 g2; have tx9 := tx g1 g2; first | (have xx9 := xx g1 g2; exact NF_s (d := z_113) (k := 0) (o := 0) (i1 := 0) (i2 := 0) (i3 := 0) (i4 := 0) g1 g2 (by omega) (by omega) (by omega) f9.1 (Or.inl ⟨by omega, by rcases e_113 with w9 | w9; (have w8 := w9.2; rw [xx9.1, xx9.2.1, xx9.2.2.1, xx9.2.2.2.1, xx9.2.2.2.2.1, xx9.2.2.2.2.2] at w8; exact w8); omega, rfl, rfl, rfl⟩)) | (have xx9 := xx g1 g2; obtain ⟨k9, o9, j1, j2, j3, j4, nb9, nf9⟩ := e_130 (by omega) (by omega) (by omega) (by omega); exact NF_s (d := z_113) g1 g2 (by omega) (by omega) (by omega) f9.1 (Or.inr ⟨by rcases e_113 with w9 | w9; omega; exact w9.1, by rcases e_113 with w9 | w9; omega; (have w8 := w9.2; rw [xx9.1, xx9.2.1, xx9.2.2.1, xx9.2.2.2.1, xx9.2.2.2.2.1, xx9.2.2.2.2.2] at w8; exact w8), by rw [ea1, eb1] at nb9; exact nb9, nf9⟩)) | exact ⟨FM_n (s := s.toNat) (r := c.toNat) f9.1 (fun k p => by omega) (fun q o i1 i2 i3 i4 w => by have w9 := w.2.1; omega), by omega⟩) (by omega)
              · skip
                refine lv_aload_n SS.1 SS.2.1 dX5_noteFlips_123 rfl (lv_at hl 1 rfl) ?_
                refine lv_iload_n SS.1 SS.2.1 dX5_noteFlips_124 rfl (lv_at hl 3 rfl) ?_
                refine lv_iload_n SS.1 SS.2.1 dX5_noteFlips_125 rfl (lv_at hl 4 rfl) ?_
                refine lv_iload SS.1 SS.2.1 dX5_noteFlips_126 (lv_at hl 5 rfl) ?_
                refine lv_iload SS.1 SS.2.1 dX5_noteFlips_128 (lv_at hl 0 rfl) ?_
                refine j_vWv SS (As := [.int (J a1), .int (J b1), .int (J c), .int (J z_113)]) (rest := []) (c_X5_noteFlip3 l D q (sV (sL (sL u 4 w3) 5 w4) 21 n3) A (cW_D hD)  a1 b1 c z_113 (show 0 ≤ a1 ∧ a1 ≤ 12 from (by omega)) (show 0 ≤ b1 ∧ b1 ≤ 12 from (by omega)) (show 0 ≤ c ∧ c ≤ 12 from (by omega)) (show 0 ≤ z_113 ∧ z_113 ≤ 12 from (by omega)) (show ∀ k : Nat, -1 ≤ (u.2.1 4) k ∧ (u.2.1 4) k ≤ 63 from (p4)) (show 0 ≤ n3 ∧ n3 ≤ 756 from (by omega))) mf_X5_noteFlip kw_918 hG hP hP (ci := 5) (q0 := 66) rfl rfl rfl hS (fun _ h => h) rfl hl.1 ⟨⟨Nat.le_of_ble_eq_true rfl, Nat.le_of_ble_eq_true rfl⟩, Nat.le_of_ble_eq_true rfl, Nat.le_refl _, Nat.le_refl _⟩ rfl dX5_noteFlips_130 (fun u130 H locs h_130 hP _ hS => ?_)
                obtain ⟨w1_130, w2_130, n_130, rfl, h_130⟩ := h_130
                have hP : va_P D.1 j_cl (cW D q (sV (sL (sL u 4 w1_130) 5 w2_130) 21 n_130)) H := hP
                have h_130 : (0 ≤ n_130 ∧ n_130 ≤ 756) ∧ ((0 ≤ a1 ∧ a1 < 12) → (0 ≤ b1 ∧ b1 < 12) → (0 ≤ c ∧ c < 12) → (0 ≤ z_113 ∧ z_113 < 12) → ∃ k9 o9 j1 j2 j3 j4 : Int, (NB9 ((u.2.1 4)) a1 b1 k9 ∧ NB9 ((u.2.1 4)) c z_113 o9 ∧ NB9 ((u.2.1 4)) a1 c j1 ∧ NB9 ((u.2.1 4)) b1 c j2 ∧ NB9 ((u.2.1 4)) a1 z_113 j3 ∧ NB9 ((u.2.1 4)) b1 z_113 j4) ∧ NF9 (w3) (w4) w1_130 w2_130 (n3) n_130 k9 o9 j1 j2 j3 j4) := h_130
                obtain ⟨t_130, e_130⟩ := h_130
                refine lv_iinc (v := J (c + 1)) (lv' := [(4, .int (J (c + 1))), (5, .int (J z_113)), (0, .ref (q 66)), (1, .int (J s)), (2, .int (J a1)), (3, .int (J b1))]) SS.1 SS.2.1 dX5_noteFlips_133 hl (k := 5) rfl (J_add _ _) (by decide) rfl (fun ls hl => ?_)
                refine lv_goto (tgt := 28) SS.1 SS.2.1 dX5_noteFlips_136 (by decide) ?_
                exact ih_28 (c + 1) w1_130 w2_130 n_130 _ _ hP hS ls (lv_sub hl [2, 3, 4, 5, 0] rfl) (by omega) (by omega) (fun g1 g2 g3 g4 => by have f9 := i28_2 g1 g2 g3 g4; have q9 := gx g1 g2; have tx9 := tx g1 g2; first | (have xx9 := xx g1 g2; exact NF_s (d := z_113) (k := 0) (o := 0) (i1 := 0) (i2 := 0) (i3 := 0) (i4 := 0) g1 g2 (by omega) (by omega) (by omega) f9.1 (Or.inl ⟨by omega, by rcases e_113 with w9 | w9; (have w8 := w9.2; rw [xx9.1, xx9.2.1, xx9.2.2.1, xx9.2.2.2.1, xx9.2.2.2.2.1, xx9.2.2.2.2.2] at w8; exact w8); omega, rfl, rfl, rfl⟩)) | (have xx9 := xx g1 g2; obtain ⟨k9, o9, j1, j2, j3, j4, nb9, nf9⟩ := e_130 (by omega) (by omega) (by omega) (by omega); exact NF_s (d := z_113) g1 g2 (by omega) (by omega) (by omega) f9.1 (Or.inr ⟨by rcases e_113 with w9 | w9; omega; exact w9.1, by rcases e_113 with w9 | w9; omega; (have w8 := w9.2; rw [xx9.1, xx9.2.1, xx9.2.2.1, xx9.2.2.2.1, xx9.2.2.2.2.1, xx9.2.2.2.2.2] at w8; exact w8), by rw [ea1, eb1] at nb9; exact nb9, nf9⟩)) | exact ⟨FM_n (s := s.toNat) (r := c.toNat) f9.1 (fun k p => by omega) (fun q o i1 i2 i3 i4 w => by have w9 := w.2.1; omega), by omega⟩) (by omega)
      exact L_28 (((12 : Int) - (0 : Int)).toNat + 1) 0 (u.2.2.1 4) (u.2.2.1 5) (u.2.2.2 21) _ _ hP hS ls (lv_sub hl [3, 4, 2, 1, 0] rfl) (by omega) (by omega) (fun g1 g2 g3 g4 => ⟨FM_c g4 (fun k p w => Or.inl w) (fun k p h1 h2 w => by rcases w with w | w; exact w; (exfalso; have := w.2; omega)), by omega⟩) (Nat.lt_succ_self _)
    · skip
      exact W.vret SS.1 SS.2.1 hr (fun t0 ht hW => ⟨⟨(sV (sL (sL u 4 (u.2.2.1 4)) 5 (u.2.2.1 5)) 21 (u.2.2.2 21)), rfl, (⟨(u.2.2.1 4), (u.2.2.1 5), (u.2.2.2 21), rfl, ⟨by omega, fun g1 g2 g3 g4 => by exfalso; have := g1.2.2.2.2; omega⟩⟩), by show va_P D.1 j_cl (cW D q (sV (sL (sL u 4 (u.2.2.1 4)) 5 (u.2.2.1 5)) 21 (u.2.2.2 21))) t0.heap; rw [ht]; first | exact hP | (simp only [sC_id, sX_id, sY_id, sH_id, sT_id, sV_id]; exact hP)⟩, hS.F ht⟩) hS.2.2 dX5_noteFlips_10 hlk


/-! ===== cuts: the class, whole ===== -/
theorem J_a4 {a : Int} (h : 0 ≤ a ∧ a ≤ 4096) : (J a &&& J 4095).toInt = a % 4096 := by
  have e := J_andm (a := a) (n := 4095) (by omega) rfl
  rw [show (4095 : Int) + 1 = 4096 from rfl] at e
  rw [e]
  exact J_toInt (by omega)
theorem FM_0 {X Y A Bb : Nat → Int} {n c : Nat} {N C : Nat → Int64} {P : Nat → Nat → Prop} (h : ∀ k p : Nat, ¬ P k p) : FM9 X Y A Bb n c N C 0 P := ⟨fun _ => 0, fun _ => 0, Int.le_refl 0, fun a ha => by omega, fun a b _ hb => by omega, fun k p q o i1 i2 i3 i4 w _ => absurd w (h k p)⟩
/-- flipped, as the class tells it -/
def FR9 (x N C r : Int64) (g : Prop) : Prop := (r = 0 ∧ (g → ¬ x &&& N = N)) ∨ (g ∧ x &&& N = N ∧ r = x ^^^ C)
theorem FR_y {x N C r : Int64} {g : Prop} (h : FR9 x N C r g) (e : r ≠ 0) : x &&& N = N ∧ r = x ^^^ C := by
  rcases h with h | h
  · exact absurd h.1 e
  · exact h.2
theorem FR_n {x N C r : Int64} {g : Prop} (h : FR9 x N C r g) (hg : g) (e : r = 0) (w : x &&& N = N) : x ^^^ C = 0 := by
  rcases h with h | h
  · exact absurd w (h.2 hg)
  · exact h.2.2.symm.trans e
/-- enter: the set stands there -/
theorem ET_in {Bs : Nat → Int64} {D W : Nat → Int} {m s st pl : Int} {x : Int64} (hp : 0 ≤ pl ∧ pl ≤ 4095) (hv : W pl.toNat ≠ 0) (hb : Bs (W pl.toNat - 1).toNat = x) : ET9 Bs Bs D D W W m m s s x st := fun H _ => ⟨H, Or.inl ⟨HT_in H (p := pl.toNat) (by omega) (by show W pl.toNat - 1 ≠ -1; omega) hb, rfl, rfl, rfl, rfl⟩⟩
theorem ET_no {Bs : Nat → Int64} {W : Nat → Int} {m pl i : Int} {x : Int64} (hi : 0 ≤ i ∧ i ≤ 4096) (hp : pl.toNat = (hC9 x + i.toNat) % 4096) (hl : LK9 hC9 (VC9 W) Bs x i.toNat) (hv : 4096 ≤ i ∨ W pl.toNat = 0) (H : HT9 hC9 (VC9 W) Bs m) (hm : m ≤ 1500) : i < 4096 ∧ VC9 W ((hC9 x + i.toNat) % 4096) = -1 ∧ ∀ q : Nat, (q : Int) < m → Bs q ≠ x := by
  have h4 : ¬ 4096 ≤ i := fun w => HT_fu H hm (by
    have e : i.toNat = 4096 := by omega
    rw [e] at hl; exact hl)
  have h0 : W pl.toNat = 0 := by
    rcases hv with w | w
    · exact absurd w h4
    · exact w
  have hv' : VC9 W ((hC9 x + i.toNat) % 4096) = -1 := by
    rw [← hp]
    show W pl.toNat - 1 = -1
    omega
  exact ⟨by omega, hv', HT_no H hl hv'⟩
/-- enter: no room -/
theorem ET_sp {Bs : Nat → Int64} {D W : Nat → Int} {m s st pl i : Int} {x : Int64} (hi : 0 ≤ i ∧ i ≤ 4096) (hp : pl.toNat = (hC9 x + i.toNat) % 4096) (hl : LK9 hC9 (VC9 W) Bs x i.toNat) (hv : 4096 ≤ i ∨ W pl.toNat = 0) (h : 1500 ≤ m) : ET9 Bs Bs D D W W m m s 1 x st := fun H hm => by
  obtain ⟨_, _, h3⟩ := ET_no hi hp hl hv H hm
  exact ⟨H, Or.inr ⟨h3, Or.inl ⟨by omega, rfl, rfl, rfl, rfl⟩⟩⟩
/-- enter: one more -/
theorem ET_up {Bs : Nat → Int64} {D W : Nat → Int} {m s st pl i : Int} {x : Int64} (hi : 0 ≤ i ∧ i ≤ 4096) (hp : pl.toNat = (hC9 x + i.toNat) % 4096) (hl : LK9 hC9 (VC9 W) Bs x i.toNat) (hv : 4096 ≤ i ∨ W pl.toNat = 0) (h : 0 ≤ m ∧ m < 1500) : ET9 Bs (vp_updL Bs m.toNat x) D (upI D m.toNat st) W (upI W pl.toNat (m + 1)) m (m + 1) s s x st := fun H hm => by
  obtain ⟨h1, h2, h3⟩ := ET_no hi hp hl hv H hm
  refine ⟨HT_up (d := i.toNat) h.1 H hl (by omega) h2 (fun p _ => ?_) (fun q hq => pk_uLn (by omega)) pk_uLs, Or.inr ⟨h3, Or.inr ⟨h.2, rfl, rfl, rfl, rfl⟩⟩⟩
  rw [← hp]
  show upI W pl.toNat (m + 1) p - 1 = if p = pl.toNat then m else W p - 1
  by_cases e : p = pl.toNat
  · rw [e, upI_s, if_pos rfl]; omega
  · rw [upI_n e, if_neg e]
/-- the first set -/
theorem SE_0 {Bs Bs' : Nat → Int64} {D D' W W' : Nat → Int} {m' s' : Int} {x : Int64} (h : ET9 Bs Bs' D D' (jf W 0 4096) W' 0 m' 0 s' x 0) : HT9 hC9 (VC9 W') Bs' m' ∧ m' = 1 ∧ s' = 0 ∧ Bs' 0 = x ∧ D' 0 = 0 := by
  obtain ⟨h1, h2⟩ := h (HT_0 (fun p hp => by
    show (if p < 4096 then (0 : Int) else W p) - 1 = -1
    rw [if_pos hp]; first | done | rfl)) (by decide)
  rcases h2 with ⟨⟨q, q1, _⟩, _⟩ | ⟨_, ⟨e, _⟩ | ⟨_, e1, e2, e3, e4⟩⟩
  · omega
  · exact absurd e (by decide)
  · refine ⟨h1, by omega, e4, ?_, ?_⟩
    · rw [e1]; exact pk_uLs
    · rw [e2]; exact upI_s
/-- the search stands in the flips of the set i, or was given up -/
def SJ9 (NV : Int64 → Nat → Int64 → Prop) (b0 : Int64) (i a m : Int) (Bs : Nat → Int64) (D : Nat → Int) (N : Nat → Int64) (fc : Int) (K : Nat → Nat) (s : Int) : Prop := (s = 0 ∧ SI9 NV b0 i a m Bs D N fc K) ∨ (s = 1 ∧ ∃ T : Nat, RS9 NV b0 T m Bs D 1)
theorem SJ_o {NV : Int64 → Nat → Int64 → Prop} {b0 : Int64} {i a m : Int} {Bs : Nat → Int64} {D : Nat → Int} {N : Nat → Int64} {fc : Int} {K : Nat → Nat} {s : Int} (h : SJ9 NV b0 i a m Bs D N fc K s) (e : s ≠ 1) : SI9 NV b0 i a m Bs D N fc K := by
  rcases h with h | h
  · exact h.2
  · exact absurd h.1 e
theorem SJ_e {X Y A Bb : Nat → Int} {n : Int} {c : Nat} {m0 fc : Int} {N C : Nat → Int64} {b0 : Int64} {i a m m' s' : Int} {Bs Bs' : Nat → Int64} {D D' W W' : Nat → Int} {K Q : Nat → Nat} (hs : os_s X Y n) (hO : OL (SGP X Y n) m0 A Bb) (hc : (c : Int) ≤ m0) (h63 : c ≤ 63) (hF : FS9 X Y A Bb n.toNat c N C fc K Q (fun _ _ => True)) (hX : LX9 X Y A Bb c Bs m) (hi : 0 ≤ i ∧ i < m) (hm : m ≤ 1500) (h : SI9 (NV9 X Y A Bb n.toNat c) b0 i a m Bs D N fc K) (ha : 0 ≤ a ∧ a < fc) (e : Bs i.toNat &&& N a.toNat = N a.toNat) (H : HT9 hC9 (VC9 W) Bs m) (he : ET9 Bs Bs' D D' W W' m m' 0 s' (Bs i.toNat ^^^ C a.toNat) (D i.toNat + 1)) : HT9 hC9 (VC9 W') Bs' m' ∧ LX9 X Y A Bb c Bs' m' ∧ SJ9 (NV9 X Y A Bb n.toNat c) b0 i (a + 1) m' Bs' D' N fc K s' ∧ i < m' := by
  obtain ⟨g1, g2, g3, g4, g5⟩ := SI_at hs hO hc h63 hF hX hi h ha e
  obtain ⟨H', w⟩ := he H hm
  have k64 : 0 ≤ (K a.toNat : Int) ∧ (K a.toNat : Int) < 64 := ⟨by omega, g4⟩
  have im : i.toNat ≠ m.toNat := by omega
  have im1 : i < m + 1 := by omega
  rcases w with ⟨wq, e1, e2, e3, e4⟩ | ⟨no, ⟨e0, e1, e2, e3, e4⟩ | ⟨e0, e1, e2, e3, e4⟩⟩
  · refine ⟨H', by rw [e1, e3]; exact hX, Or.inl ⟨e4, ?_⟩, by rw [e3]; exact hi.2⟩
    rw [e1, e2, e3]
    exact g5 m Bs D rfl (RI_k hi.1 k64 g1 hi.2 g2 (Or.inr wq))
  · refine ⟨H', by rw [e1, e3]; exact hX, Or.inr ⟨e4, ?_⟩, by rw [e3]; exact hi.2⟩
    rw [e1, e2, e3]
    exact RI_s hi.1 k64 g1 hi.2 g2 g3 no e0
  · refine ⟨H', by rw [e1, e3]; exact LX_a hX (NV_x hs hO hc g2 g3), Or.inl ⟨e4, ?_⟩, by rw [e3]; exact im1⟩
    rw [e1, e2, e3]
    exact g5 (m + 1) (vp_updL Bs m.toNat (Bs i.toNat ^^^ C a.toNat)) (upI D m.toNat (D i.toNat + 1)) (pk_uLn im) (RI_a hi.1 k64 g1 hi.2 g2 g3 no e0 rfl)
theorem FCT_m {X Y A Bb : Nat → Int} {n m c t i : Int} {C : Nat → Int64} {F : Nat → Int} {x : Int64} (hf : fcE X Y A Bb m x) (hX : LX9 X Y A Bb m.toNat C c) (h : RT9 (NV9 X Y A Bb n.toNat m.toNat) x (64 * i).toNat c C F t) (he : t ≠ 0 ∨ c ≤ i) (hi : 0 ≤ i) : FCT X Y n A Bb m C F c t := by
  obtain ⟨f, f1, f2⟩ := hf
  rw [f2] at h
  rcases h with ⟨h1, h2⟩ | ⟨h1, T, h2⟩
  · refine ⟨f, (64 * i).toNat, f1, by rw [h1]; exact h2, Or.inr ?_, hX⟩
    rcases he with w | w
    · exact absurd h1 w
    · omega
  · exact ⟨f, T, f1, by rw [h1]; exact h2, Or.inl h1, hX⟩

