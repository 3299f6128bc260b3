
theorem EDG_max {S : Int → Int → Prop} {n : Int} {X Y : Nat → Int} {α β M : Int} (hn : 0 < n) (h6 : ∀ a : Nat, (a : Int) < n → edS S (X a) (Y a) (nxt X n a) (nxt Y n a)) (hc : ∀ a : Nat, (a : Int) < n → S (X a) (Y a)) (hM : ∀ a : Nat, (a : Int) < n → α * X a + β * Y a ≤ M) {x y : Int} (s : S x y) : α * x + β * y ≤ M := by
  obtain ⟨a, ha, hb⟩ := ex_max (fun b => α * X b + β * Y b) (n - 1).toNat
  obtain ⟨b, b1, b2, b3⟩ := nxt_c (X := X) (Y := Y) (n := n) (a := a) (by omega)
  obtain ⟨p, p1, p2, p3⟩ := nxt_p (X := X) (Y := Y) (n := n) (a := a) (by omega)
  have E1 := h6 p p1
  have E2 := h6 a (by omega)
  rw [p2, p3] at E1
  rw [b2, b3] at E2
  have q := max_at (α := α) (β := β) E1 E2 (hc p p1) (hc b b1) s (hb p (by omega)) (hb b (by omega))
  have := hM a (by omega)
  omega
/-- the origin is strictly left of each side: then it lies between the ends either way -/
theorem HS_org {S : Int → Int → Prop} {n : Int} {X Y : Nat → Int} (h : HS S n X Y) (hn : 3 ≤ n) (hL : ∀ a : Nat, (a : Int) < n → 0 < (nxt Y n a - Y a) * X a - (nxt X n a - X a) * Y a) : (∀ a : Nat, (a : Int) < n → X 0 ≤ X a) ∧ X 0 ≤ 0 ∧ (∃ a : Nat, (a : Int) < n ∧ 0 ≤ X a) ∧ (∃ a : Nat, (a : Int) < n ∧ Y a ≤ 0) ∧ ∃ a : Nat, (a : Int) < n ∧ 0 ≤ Y a := by
  have hc := HS_S h
  rcases h with ⟨h, _⟩ | ⟨h1, h2, h3, ⟨h4, h5⟩ | ⟨h4, h5, h6⟩⟩
  · omega
  · omega
  · have E : ∀ a : Nat, (a : Int) < n → edS (fun x y => S x y ∨ (x = 0 ∧ y = 0)) (X a) (Y a) (nxt X n a) (nxt Y n a) := fun a ha => by
      refine ⟨(h6 a ha).1, fun x y s => ?_⟩
      rcases s with s | ⟨rfl, rfl⟩
      · exact (h6 a ha).2 x y s
      · have q := hL a ha
        have e : cx (nxt X n a - X a) (nxt Y n a - Y a) (0 - X a) (0 - Y a) = (nxt Y n a - Y a) * X a - (nxt X n a - X a) * Y a := by unfold cx; grind
        exact ⟨by omega, fun z => by omega⟩
    have C : ∀ a : Nat, (a : Int) < n → S (X a) (Y a) ∨ (X a = 0 ∧ Y a = 0) := fun a ha => Or.inl (hc a ha)
    have O : (fun x y => S x y ∨ (x = 0 ∧ y = 0)) (0 : Int) (0 : Int) := Or.inr ⟨rfl, rfl⟩
    have X0 : ∀ a : Nat, (a : Int) < n → X 0 ≤ X a := fun a ha => by
      have q := h3 _ _ (hc a ha)
      unfold lxn at q; omega
    refine ⟨X0, ?_, ?_, ?_, ?_⟩
    · have q := EDG_max (α := -1) (β := 0) (M := - X 0) h1 E C (fun a ha => by have := X0 a ha; omega) O
      omega
    · apply Classical.byContradiction
      intro w
      have q := EDG_max (α := 1) (β := 0) (M := -1) h1 E C (fun a ha => by
        have : ¬ 0 ≤ X a := fun z => w ⟨a, ha, z⟩
        omega) O
      omega
    · apply Classical.byContradiction
      intro w
      have q := EDG_max (α := 0) (β := -1) (M := -1) h1 E C (fun a ha => by
        have : ¬ Y a ≤ 0 := fun z => w ⟨a, ha, z⟩
        omega) O
      omega
    · apply Classical.byContradiction
      intro w
      have q := EDG_max (α := 0) (β := 1) (M := -1) h1 E C (fun a ha => by
        have : ¬ 0 ≤ Y a := fun z => w ⟨a, ha, z⟩
        omega) O
      omega
/-- a side at distance 1 -/
theorem far_1 {a b x y : Int} (h : a.tdiv (Int.gcd b a : Int) * x + (-b).tdiv (Int.gcd b a : Int) * y = 1) : 0 < a * x - b * y := by
  have d1 : a.tdiv (Int.gcd b a : Int) * (Int.gcd b a : Int) = a := Int.tdiv_mul_cancel (Int.gcd_dvd_right b a)
  have d2 : (-b).tdiv (Int.gcd b a : Int) * (Int.gcd b a : Int) = -b := Int.tdiv_mul_cancel (Int.dvd_neg.mpr (Int.gcd_dvd_left b a))
  have g0 : 0 ≤ (Int.gcd b a : Int) := Int.natCast_nonneg _
  have g1 : (Int.gcd b a : Int) ≠ 0 := by
    intro e
    rw [e, Int.tdiv_zero, Int.tdiv_zero, Int.zero_mul, Int.zero_mul] at h
    omega
  generalize (Int.gcd b a : Int) = g at h d1 d2 g0 g1
  generalize a.tdiv g = p at h d1
  generalize (-b).tdiv g = q at h d2
  have hb : b = -(q * g) := by omega
  have e : a * x - b * y = g * (p * x + q * y) := by rw [hb, ← d1]; grind
  rw [e, h]
  omega
/-! the reference -/
def mNX (u : MS) (s i : Int) : Int := (mY u s (i + 1) - mY u s i).tdiv (mS u s i)
def mNY (u : MS) (s i : Int) : Int := (mX u s i - mX u s (i + 1)).tdiv (mS u s i)
def mFar (u : MS) (s i : Int) : Int := mNX u s i * mX u s i + mNY u s i * mY u s i
def mRef (u : MS) (s : Int) : Prop := 2 < mN u s ∧ ∀ i : Int, 0 ≤ i → i < mN u s → mFar u s i = 1
def mLO (u : MS) (s : Int) : Prop := 2 < mN u s ∧ ∀ i : Int, 0 ≤ i → i < mN u s → 0 < wcr u s i 0 0
theorem mRef_LO {u : MS} {s : Int} (h : mRef u s) : mLO u s := ⟨h.1, fun i h0 h1 => by
  have q := h.2 i h0 h1
  unfold mFar mNX mNY mS at q
  rw [show mX u s i - mX u s (i + 1) = -(mX u s (i + 1) - mX u s i) by omega] at q
  have := far_1 q
  unfold wcr
  grind⟩
theorem wLO {u : MS} {s z : Int} (h : wR u s 0 0 z) (L : mLO u s) : z = 2 := by
  have n1 : ¬ wOn u s 0 0 (mN u s) := fun ⟨i, h1, h2, h3, _⟩ => by
    have := L.2 i h1 h2
    omega
  have n2 : wIn u s 0 0 (mN u s) := fun i h1 h2 => by
    have := L.2 i h1 h2
    omega
  have l := L.1
  rcases h with ⟨h, _⟩ | ⟨_, ⟨_, h⟩ | ⟨h, _⟩ | ⟨_, _, h⟩⟩
  · omega
  · exact absurd h n1
  · exact h
  · exact absurd ⟨n2, l⟩ h
/-- the normals before the place i -/
def NMi (u : MS) (s i : Int) : Int → Int → Prop := fun x y => ∃ a : Nat, (a : Int) < i ∧ x = mNX u s a ∧ y = mNY u s a
theorem nm_s {v : MS} {s i x0 y0 : Int} (h : 0 ≤ i) (ex : x0 = mNX v s i) (ey : y0 = mNY v s i) (x y : Int) : NMi v s i x y ∨ (x = x0 ∧ y = y0) ↔ NMi v s (i + 1) x y := by
  constructor
  · rintro (⟨a, q1, q2⟩ | ⟨q1, q2⟩)
    · exact ⟨a, by omega, q2⟩
    · exact ⟨i.toNat, by omega, by rw [show ((i.toNat : Nat) : Int) = i by omega]; exact ⟨q1.trans ex, q2.trans ey⟩⟩
  · rintro ⟨a, q1, q2, q3⟩
    by_cases e : (a : Int) = i
    · rw [e] at q2 q3; exact Or.inr ⟨q2.trans ex.symm, q3.trans ey.symm⟩
    · exact Or.inl ⟨a, by omega, q2, q3⟩
def dlM (u u' : MS) (s t z : Int) : Prop := (¬ ((0 ≤ s ∧ s ≤ 7) ∧ 0 ≤ t ∧ t ≤ 7) ∧ z = -1 ∧ mSame u u') ∨ ((0 ≤ s ∧ s ≤ 7) ∧ (0 ≤ t ∧ t ≤ 7) ∧ ((¬ mRef u s ∧ z = -2 ∧ mSame u u') ∨ (mRef u s ∧ mkM u u' t z (NMi u s (mN u s)))))
/-! the class -/
def dNX (u : CS) (r : Nat) (i : Int) : Int := (dY u r i).tdiv (dS u r i)
def dNY (u : CS) (r : Nat) (i : Int) : Int := (- dX u r i).tdiv (dS u r i)
def dFar (u : CS) (r : Nat) (i : Int) : Int := dNX u r i * rx u r i + dNY u r i * ry9 u r i
def cRef (u : CS) (r : Nat) : Prop := 3 ≤ u.1.2.2.1 r ∧ ∀ i : Int, 0 ≤ i → i < u.1.2.2.1 r → dFar u r i = 1
/-- the origin lies strictly left of each side and between the ends -/
def cAR (u : CS) (r : Nat) : Prop := 3 ≤ u.1.2.2.1 r ∧ (∀ i : Int, 0 ≤ i → i < u.1.2.2.1 r → 0 < dY u r i * rx u r i - dX u r i * ry9 u r i) ∧ rx u r 0 ≤ 0 ∧ (∃ i : Int, 0 ≤ i ∧ i < u.1.2.2.1 r ∧ 0 ≤ rx u r i) ∧ (∃ i : Int, 0 ≤ i ∧ i < u.1.2.2.1 r ∧ ry9 u r i ≤ 0) ∧ ∃ i : Int, 0 ≤ i ∧ i < u.1.2.2.1 r ∧ 0 ≤ ry9 u r i
def cHS (u : CS) (r : Nat) : Prop := ∃ S : Int → Int → Prop, HS S (u.1.2.2.1 r) (u.1.1 r) (u.1.2.1 r)
theorem rx_n {K : Int} {u : CS} {r : Nat} (h : RB K u r) {a : Nat} (ha : (a : Int) < u.1.2.2.1 r) : rx u r a = u.1.1 r a ∧ ry9 u r a = u.1.2.1 r a := by
  have := h.1
  exact ⟨if_pos (by omega), if_pos (by omega)⟩
theorem rx_ar {K : Int} {u : CS} {r : Nat} (h : RB K u r) {a : Nat} (ha : (a : Int) < u.1.2.2.1 r) : rx u r (ar u r a 1) = nxt (u.1.1 r) (u.1.2.2.1 r) a ∧ ry9 u r (ar u r a 1) = nxt (u.1.2.1 r) (u.1.2.2.1 r) a := by
  unfold ar nxt
  by_cases e : (a : Int) + 1 < u.1.2.2.1 r
  · rw [if_neg (by omega), if_neg (by omega), if_pos e, if_pos e]
    exact rx_n h (a := a + 1) (by omega)
  · rw [if_pos (by omega), if_neg e, if_neg e]
    exact rx_n h (a := 0) (by omega)
theorem cRef_AR {K : Int} {u : CS} {r : Nat} (hR : RB K u r) (h : cRef u r) (hh : cHS u r) : cAR u r := by
  have L : ∀ i : Int, 0 ≤ i → i < u.1.2.2.1 r → 0 < dY u r i * rx u r i - dX u r i * ry9 u r i := fun i h0 h1 => by
    have q := h.2 i h0 h1
    unfold dFar dNX dNY dS at q
    exact far_1 q
  obtain ⟨S, hS⟩ := hh
  obtain ⟨_, o1, ⟨a, a1, a2⟩, ⟨b, b1, b2⟩, ⟨c, c1, c2⟩⟩ := HS_org hS h.1 (fun a ha => by
    have q := L a (by omega) ha
    unfold dX dY at q
    rw [(rx_ar hR ha).1, (rx_ar hR ha).2, (rx_n hR ha).1, (rx_n hR ha).2] at q
    exact q)
  have h3 := h.1
  exact ⟨h.1, L, by have e := (rx_n hR (a := 0) (by omega)).1; rw [show ((0 : Nat) : Int) = 0 from rfl] at e; rw [e]; exact o1, ⟨a, by omega, a1, by rw [(rx_n hR a1).1]; exact a2⟩, ⟨b, by omega, b1, by rw [(rx_n hR b1).2]; exact b2⟩, ⟨c, by omega, c1, by rw [(rx_n hR c1).2]; exact c2⟩⟩
theorem low_0 {X Y d e : Int} (hd : 0 < d) (h : 0 < e * X - d * Y) : Y ≤ (X - 0) * e / d := by
  refine (Int.le_ediv_iff_mul_le hd).mpr ?_
  rw [Int.sub_zero, Int.mul_comm Y d, Int.mul_comm X e]
  omega
theorem high_0 {X Y d e : Int} (hd : 0 < -d) (h : 0 < e * X - d * Y) : -Y ≤ (X - 0) * e / (-d) := by
  refine (Int.le_ediv_iff_mul_le hd).mpr ?_
  rw [Int.sub_zero, Int.neg_mul_neg, Int.mul_comm Y d, Int.mul_comm X e]
  omega
def NCi (u : CS) (r : Nat) (i : Int) : Int → Int → Prop := fun x y => ∃ a : Nat, (a : Int) < i ∧ x = dNX u r a ∧ y = dNY u r a
theorem nc_s {u : CS} {r : Nat} {i x0 y0 : Int} (h : 0 ≤ i) (ex : x0 = dNX u r i) (ey : y0 = dNY u r i) (x y : Int) : NCi u r (i + 1) x y ↔ NCi u r i x y ∨ (x = x0 ∧ y = y0) := by
  constructor
  · rintro ⟨a, q1, q2, q3⟩
    by_cases e : (a : Int) = i
    · rw [e] at q2 q3; exact Or.inr ⟨q2.trans ex.symm, q3.trans ey.symm⟩
    · exact Or.inl ⟨a, by omega, q2, q3⟩
  · rintro (⟨a, q1, q2⟩ | ⟨q1, q2⟩)
    · exact ⟨a, by omega, q2⟩
    · exact ⟨i.toNat, by omega, by rw [show ((i.toNat : Nat) : Int) = i by omega]; exact ⟨q1.trans ex, q2.trans ey⟩⟩
def dlC (u u' : CS) (s t z : Int) : Prop := (¬ ((0 ≤ s ∧ s ≤ 7) ∧ 0 ≤ t ∧ t ≤ 7) ∧ z = -1 ∧ cSame u u') ∨ ((0 ≤ s ∧ s ≤ 7) ∧ (0 ≤ t ∧ t ≤ 7) ∧ ((¬ (cRef u s.toNat ∧ cHS u s.toNat) ∧ z = -2 ∧ cSame u u') ∨ (cRef u s.toNat ∧ mkC u u' t.toNat z (NCi u s.toNat (u.1.2.2.1 s.toNat)))))
/-! both -/
theorem EQS_ref {u : CS} {v : MS} (hC : CI u) (h : EQS u v) {r : Nat} (hr : r < 8) : cHS u r ∧ (cRef u r ↔ mRef v r) ∧ ∀ x y : Int, NCi u r (u.1.2.2.1 r) x y ↔ NMi v r (mN v r) x y := by
  obtain ⟨a1, a2, a3⟩ := h r hr
  have hR := CI_40 hC hr
  have key : ∀ a : Nat, (a : Int) < u.1.2.2.1 r → rx u r a = mX v r a ∧ ry9 u r a = mY v r a ∧ rx u r (ar u r a 1) = mX v r ((a : Int) + 1) ∧ ry9 u r (ar u r a 1) = mY v r ((a : Int) + 1) := fun a ha => by
    have k1 := rx_n hR ha
    have k2 := rx_ar hR ha
    have k3 := a2 a (by omega)
    refine ⟨k1.1.trans k3.1, k1.2.trans k3.2, ?_, ?_⟩
    · rw [k2.1]; unfold nxt
      by_cases e : (a : Int) + 1 < u.1.2.2.1 r
      · rw [if_pos e]; exact (a2 (a + 1) (by omega)).1
      · rw [if_neg e, (a2 0 (by omega)).1]
        unfold mX
        rw [show (a : Int) + 1 = mN v r by omega, Int.tmod_self, show (((0 : Nat) : Int)).tmod (mN v r) = 0 from Int.zero_tmod _]
    · rw [k2.2]; unfold nxt
      by_cases e : (a : Int) + 1 < u.1.2.2.1 r
      · rw [if_pos e]; exact (a2 (a + 1) (by omega)).2
      · rw [if_neg e, (a2 0 (by omega)).2]
        unfold mY
        rw [show (a : Int) + 1 = mN v r by omega, Int.tmod_self, show (((0 : Nat) : Int)).tmod (mN v r) = 0 from Int.zero_tmod _]
  have kn : ∀ a : Nat, (a : Int) < u.1.2.2.1 r → dNX u r a = mNX v r a ∧ dNY u r a = mNY v r a := fun a ha => by
    obtain ⟨k1, k2, k3, k4⟩ := key a ha
    unfold dNX dNY mNX mNY dS mS dX dY
    rw [k1, k2, k3, k4]
    exact ⟨rfl, by rw [Int.neg_sub]⟩
  have kf : ∀ a : Nat, (a : Int) < u.1.2.2.1 r → dFar u r a = mFar v r a := fun a ha => by
    obtain ⟨k1, k2, _⟩ := key a ha
    unfold dFar mFar
    rw [k1, k2, (kn a ha).1, (kn a ha).2]
  refine ⟨⟨_, HS_c (X' := u.1.1 r) (Y' := u.1.2.1 r) (by rw [a1]; exact a3) (fun _ _ => Iff.rfl) (fun a ha => a2 a (by omega))⟩, ⟨fun q => ⟨by have := q.1; omega, fun i h0 h1 => ?_⟩, fun q => ⟨by have := q.1; omega, fun i h0 h1 => ?_⟩⟩, fun x y => ⟨?_, ?_⟩⟩
  · have w := kf i.toNat (by omega)
    rw [show ((i.toNat : Nat) : Int) = i by omega] at w
    rw [← w]; exact q.2 i h0 (by omega)
  · have w := kf i.toNat (by omega)
    rw [show ((i.toNat : Nat) : Int) = i by omega] at w
    rw [w]; exact q.2 i h0 (by omega)
  · rintro ⟨a, q1, q2, q3⟩
    exact ⟨a, by omega, q2.trans (kn a q1).1, q3.trans (kn a q1).2⟩
  · rintro ⟨a, q1, q2, q3⟩
    exact ⟨a, by omega, q2.trans (kn a (by omega)).1.symm, q3.trans (kn a (by omega)).2.symm⟩
theorem EQS_dl {u u' : CS} {v v' : MS} {s t z z' : Int} (hC : CI u) (h : EQS u v) (hc : dlC u u' s t z) (hm : dlM v v' s t z') : z = z' ∧ EQS u' v' := by
  rcases hc with ⟨a1, a2, a3⟩ | ⟨a1, a2, a3⟩ <;> rcases hm with ⟨b1, b2, b3⟩ | ⟨b1, b2, b3⟩
  · exact ⟨by omega, EQS_s h a3 b3⟩
  · exact absurd ⟨b1, b2⟩ a1
  · exact absurd ⟨a1, a2⟩ b1
  · obtain ⟨k1, k2, k3⟩ := EQS_ref hC h (r := s.toNat) (by omega)
    rw [show ((s.toNat : Nat) : Int) = s by omega] at k2 k3
    rcases a3 with ⟨c1, c2, c3⟩ | ⟨c1, c2⟩ <;> rcases b3 with ⟨d1, d2, d3⟩ | ⟨d1, d2⟩
    · exact ⟨by omega, EQS_s h c3 d3⟩
    · exact absurd ⟨k2.mpr d1, k1⟩ c1
    · exact absurd (k2.mp c1) d1
    · exact EQS_mk h a2 k3 c2 d2
