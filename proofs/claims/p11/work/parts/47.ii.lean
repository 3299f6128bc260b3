
theorem EDG_max {S : Int → Int → Prop} {n : Int} {X Y : Nat → Int} {α β M : Int} (hn : 0 < n) (h6 : ∀ a : Nat, (a : Int) < n → edS S (X a) (Y a) (nxt X n a) (nxt Y n a)) (hc : ∀ a : Nat, (a : Int) < n → S (X a) (Y a)) (hM : ∀ a : Nat, (a : Int) < n → α * X a + β * Y a ≤ M) {x y : Int} (s : S x y) : α * x + β * y ≤ M := by
  obtain ⟨a, ha, hb⟩ := ex_max (fun b => α * X b + β * Y b) (n - 1).toNat
  obtain ⟨b, b1, b2, b3⟩ := nxt_c (X := X) (Y := Y) (n := n) (a := a) (by omega)
  obtain ⟨p, p1, p2, p3⟩ := nxt_p (X := X) (Y := Y) (n := n) (a := a) (by omega)
  have E1 := h6 p p1
  have E2 := h6 a (by omega)
  rw [p2, p3] at E1
  rw [b2, b3] at E2
  have q := max_at (α := α) (β := β) E1 E2 (hc p p1) (hc b b1) s (hb p (by omega)) (hb b (by omega))
  have := hM a (by omega)
  omega
/-- the origin is strictly left of each side: then it lies between the ends either way -/
theorem HS_org {S : Int → Int → Prop} {n : Int} {X Y : Nat → Int} (h : HS S n X Y) (hn : 3 ≤ n) (hL : ∀ a : Nat, (a : Int) < n → 0 < (nxt Y n a - Y a) * X a - (nxt X n a - X a) * Y a) : (∀ a : Nat, (a : Int) < n → X 0 ≤ X a) ∧ X 0 ≤ 0 ∧ (∃ a : Nat, (a : Int) < n ∧ 0 ≤ X a) ∧ (∃ a : Nat, (a : Int) < n ∧ Y a ≤ 0) ∧ ∃ a : Nat, (a : Int) < n ∧ 0 ≤ Y a := by
  have hc := HS_S h
  rcases h with ⟨h, _⟩ | ⟨h1, h2, h3, ⟨h4, h5⟩ | ⟨h4, h5, h6⟩⟩
  · omega
  · omega
  · have E : ∀ a : Nat, (a : Int) < n → edS (fun x y => S x y ∨ (x = 0 ∧ y = 0)) (X a) (Y a) (nxt X n a) (nxt Y n a) := fun a ha => by
      refine ⟨(h6 a ha).1, fun x y s => ?_⟩
      rcases s with s | ⟨rfl, rfl⟩
      · exact (h6 a ha).2 x y s
      · have q := hL a ha
        have e : cx (nxt X n a - X a) (nxt Y n a - Y a) (0 - X a) (0 - Y a) = (nxt Y n a - Y a) * X a - (nxt X n a - X a) * Y a := by unfold cx; grind
        exact ⟨by omega, fun z => by omega⟩
    have C : ∀ a : Nat, (a : Int) < n → S (X a) (Y a) ∨ (X a = 0 ∧ Y a = 0) := fun a ha => Or.inl (hc a ha)
    have O : (fun x y => S x y ∨ (x = 0 ∧ y = 0)) (0 : Int) (0 : Int) := Or.inr ⟨rfl, rfl⟩
    have X0 : ∀ a : Nat, (a : Int) < n → X 0 ≤ X a := fun a ha => by
      have q := h3 _ _ (hc a ha)
      unfold lxn at q; omega
    refine ⟨X0, ?_, ?_, ?_, ?_⟩
    · have q := EDG_max (α := -1) (β := 0) (M := - X 0) h1 E C (fun a ha => by have := X0 a ha; omega) O
      omega
    · apply Classical.byContradiction
      intro w
      have q := EDG_max (α := 1) (β := 0) (M := -1) h1 E C (fun a ha => by
        have : ¬ 0 ≤ X a := fun z => w ⟨a, ha, z⟩
        omega) O
      omega
    · apply Classical.byContradiction
      intro w
      have q := EDG_max (α := 0) (β := -1) (M := -1) h1 E C (fun a ha => by
        have : ¬ Y a ≤ 0 := fun z => w ⟨a, ha, z⟩
        omega) O
      omega
    · apply Classical.byContradiction
      intro w
      have q := EDG_max (α := 0) (β := 1) (M := -1) h1 E C (fun a ha => by
        have : ¬ 0 ≤ Y a := fun z => w ⟨a, ha, z⟩
        omega) O
      omega
/-- a side at distance 1 -/
theorem far_1 {a b x y : Int} (h : a.tdiv (Int.gcd b a : Int) * x + (-b).tdiv (Int.gcd b a : Int) * y = 1) : 0 < a * x - b * y := by
  have d1 : a.tdiv (Int.gcd b a : Int) * (Int.gcd b a : Int) = a := Int.tdiv_mul_cancel (Int.gcd_dvd_right b a)
  have d2 : (-b).tdiv (Int.gcd b a : Int) * (Int.gcd b a : Int) = -b := Int.tdiv_mul_cancel (Int.dvd_neg.mpr (Int.gcd_dvd_left b a))
  have g0 : 0 ≤ (Int.gcd b a : Int) := Int.natCast_nonneg _
  have g1 : (Int.gcd b a : Int) ≠ 0 := by
    intro e
    rw [e, Int.tdiv_zero, Int.tdiv_zero, Int.zero_mul, Int.zero_mul] at h
    omega
  generalize (Int.gcd b a : Int) = g at h d1 d2 g0 g1
  generalize a.tdiv g = p at h d1
  generalize (-b).tdiv g = q at h d2
  have hb : b = -(q * g) := by omega
  have e : a * x - b * y = g * (p * x + q * y) := by rw [hb, ← d1]; grind
  rw [e, h]
  omega
/-! the reference -/
def mNX (u : MS) (s i : Int) : Int := (mY u s (i + 1) - mY u s i).tdiv (mS u s i)
def mNY (u : MS) (s i : Int) : Int := (mX u s i - mX u s (i + 1)).tdiv (mS u s i)
def mFar (u : MS) (s i : Int) : Int := mNX u s i * mX u s i + mNY u s i * mY u s i
def mRef (u : MS) (s : Int) : Prop := 2 < mN u s ∧ ∀ i : Int, 0 ≤ i → i < mN u s → mFar u s i = 1
def mLO (u : MS) (s : Int) : Prop := 2 < mN u s ∧ ∀ i : Int, 0 ≤ i → i < mN u s → 0 < wcr u s i 0 0
theorem mRef_LO {u : MS} {s : Int} (h : mRef u s) : mLO u s := ⟨h.1, fun i h0 h1 => by
  have q := h.2 i h0 h1
  unfold mFar mNX mNY mS at q
  rw [show mX u s i - mX u s (i + 1) = -(mX u s (i + 1) - mX u s i) by omega] at q
  have := far_1 q
  unfold wcr
  grind⟩
theorem wLO {u : MS} {s z : Int} (h : wR u s 0 0 z) (L : mLO u s) : z = 2 := by
  have n1 : ¬ wOn u s 0 0 (mN u s) := fun ⟨i, h1, h2, h3, _⟩ => by
    have := L.2 i h1 h2
    omega
  have n2 : wIn u s 0 0 (mN u s) := fun i h1 h2 => by
    have := L.2 i h1 h2
    omega
  have l := L.1
  rcases h with ⟨h, _⟩ | ⟨_, ⟨_, h⟩ | ⟨h, _⟩ | ⟨_, _, h⟩⟩
  · omega
  · exact absurd h n1
  · exact h
  · exact absurd ⟨n2, l⟩ h
/-- the normals before the place i -/
def NMi (u : MS) (s i : Int) : Int → Int → Prop := fun x y => ∃ a : Nat, (a : Int) < i ∧ x = mNX u s a ∧ y = mNY u s a
theorem nm_s {v : MS} {s i x0 y0 : Int} (h : 0 ≤ i) (ex : x0 = mNX v s i) (ey : y0 = mNY v s i) (x y : Int) : NMi v s i x y ∨ (x = x0 ∧ y = y0) ↔ NMi v s (i + 1) x y := by
  constructor
  · rintro (⟨a, q1, q2⟩ | ⟨q1, q2⟩)
    · exact ⟨a, by omega, q2⟩
    · exact ⟨i.toNat, by omega, by rw [show ((i.toNat : Nat) : Int) = i by omega]; exact ⟨q1.trans ex, q2.trans ey⟩⟩
  · rintro ⟨a, q1, q2, q3⟩
    by_cases e : (a : Int) = i
    · rw [e] at q2 q3; exact Or.inr ⟨q2.trans ex.symm, q3.trans ey.symm⟩
    · exact Or.inl ⟨a, by omega, q2, q3⟩
def dlM (u u' : MS) (s t z : Int) : Prop := (¬ ((0 ≤ s ∧ s ≤ 7) ∧ 0 ≤ t ∧ t ≤ 7) ∧ z = -1 ∧ mSame u u') ∨ ((0 ≤ s ∧ s ≤ 7) ∧ (0 ≤ t ∧ t ≤ 7) ∧ ((¬ mRef u s ∧ z = -2 ∧ mSame u u') ∨ (mRef u s ∧ mkM u u' t z (NMi u s (mN u s)))))
/-! the class -/
def dNX (u : CS) (r : Nat) (i : Int) : Int := (dY u r i).tdiv (dS u r i)
def dNY (u : CS) (r : Nat) (i : Int) : Int := (- dX u r i).tdiv (dS u r i)
def dFar (u : CS) (r : Nat) (i : Int) : Int := dNX u r i * rx u r i + dNY u r i * ry9 u r i
def cRef (u : CS) (r : Nat) : Prop := 3 ≤ u.1.2.2.1 r ∧ ∀ i : Int, 0 ≤ i → i < u.1.2.2.1 r → dFar u r i = 1
/-- the origin lies strictly left of each side and between the ends -/
def cAR (u : CS) (r : Nat) : Prop := 3 ≤ u.1.2.2.1 r ∧ (∀ i : Int, 0 ≤ i → i < u.1.2.2.1 r → 0 < dY u r i * rx u r i - dX u r i * ry9 u r i) ∧ rx u r 0 ≤ 0 ∧ (∃ i : Int, 0 ≤ i ∧ i < u.1.2.2.1 r ∧ 0 ≤ rx u r i) ∧ (∃ i : Int, 0 ≤ i ∧ i < u.1.2.2.1 r ∧ ry9 u r i ≤ 0) ∧ ∃ i : Int, 0 ≤ i ∧ i < u.1.2.2.1 r ∧ 0 ≤ ry9 u r i
def cHS (u : CS) (r : Nat) : Prop := ∃ S : Int → Int → Prop, HS S (u.1.2.2.1 r) (u.1.1 r) (u.1.2.1 r)
theorem rx_n {K : Int} {u : CS} {r : Nat} (h : RB K u r) {a : Nat} (ha : (a : Int) < u.1.2.2.1 r) : rx u r a = u.1.1 r a ∧ ry9 u r a = u.1.2.1 r a := by
  have := h.1
  exact ⟨if_pos (by omega), if_pos (by omega)⟩
theorem rx_ar {K : Int} {u : CS} {r : Nat} (h : RB K u r) {a : Nat} (ha : (a : Int) < u.1.2.2.1 r) : rx u r (ar u r a 1) = nxt (u.1.1 r) (u.1.2.2.1 r) a ∧ ry9 u r (ar u r a 1) = nxt (u.1.2.1 r) (u.1.2.2.1 r) a := by
  unfold ar nxt
  by_cases e : (a : Int) + 1 < u.1.2.2.1 r
  · rw [if_neg (by omega), if_neg (by omega), if_pos e, if_pos e]
    exact rx_n h (a := a + 1) (by omega)
  · rw [if_pos (by omega), if_neg e, if_neg e]
    exact rx_n h (a := 0) (by omega)
theorem cRef_AR {K : Int} {u : CS} {r : Nat} (hR : RB K u r) (h : cRef u r) (hh : cHS u r) : cAR u r := by
  have L : ∀ i : Int, 0 ≤ i → i < u.1.2.2.1 r → 0 < dY u r i * rx u r i - dX u r i * ry9 u r i := fun i h0 h1 => by
    have q := h.2 i h0 h1
    unfold dFar dNX dNY dS at q
    exact far_1 q
  obtain ⟨S, hS⟩ := hh
  obtain ⟨_, o1, ⟨a, a1, a2⟩, ⟨b, b1, b2⟩, ⟨c, c1, c2⟩⟩ := HS_org hS h.1 (fun a ha => by
    have q := L a (by omega) ha
    unfold dX dY at q
    rw [(rx_ar hR ha).1, (rx_ar hR ha).2, (rx_n hR ha).1, (rx_n hR ha).2] at q
    exact q)
  have h3 := h.1
  exact ⟨h.1, L, by have e := (rx_n hR (a := 0) (by omega)).1; rw [show ((0 : Nat) : Int) = 0 from rfl] at e; rw [e]; exact o1, ⟨a, by omega, a1, by rw [(rx_n hR a1).1]; exact a2⟩, ⟨b, by omega, b1, by rw [(rx_n hR b1).2]; exact b2⟩, ⟨c, by omega, c1, by rw [(rx_n hR c1).2]; exact c2⟩⟩
theorem low_0 {X Y d e : Int} (hd : 0 < d) (h : 0 < e * X - d * Y) : Y ≤ (X - 0) * e / d := by
  refine (Int.le_ediv_iff_mul_le hd).mpr ?_
  rw [Int.sub_zero, Int.mul_comm Y d, Int.mul_comm X e]
  omega
theorem high_0 {X Y d e : Int} (hd : 0 < -d) (h : 0 < e * X - d * Y) : -Y ≤ (X - 0) * e / (-d) := by
  refine (Int.le_ediv_iff_mul_le hd).mpr ?_
  rw [Int.sub_zero, Int.neg_mul_neg, Int.mul_comm Y d, Int.mul_comm X e]
  omega
def NCi (u : CS) (r : Nat) (i : Int) : Int → Int → Prop := fun x y => ∃ a : Nat, (a : Int) < i ∧ x = dNX u r a ∧ y = dNY u r a
theorem nc_s {u : CS} {r : Nat} {i x0 y0 : Int} (h : 0 ≤ i) (ex : x0 = dNX u r i) (ey : y0 = dNY u r i) (x y : Int) : NCi u r (i + 1) x y ↔ NCi u r i x y ∨ (x = x0 ∧ y = y0) := by
  constructor
  · rintro ⟨a, q1, q2, q3⟩
    by_cases e : (a : Int) = i
    · rw [e] at q2 q3; exact Or.inr ⟨q2.trans ex.symm, q3.trans ey.symm⟩
    · exact Or.inl ⟨a, by omega, q2, q3⟩
  · rintro (⟨a, q1, q2⟩ | ⟨q1, q2⟩)
    · exact ⟨a, by omega, q2⟩
    · exact ⟨i.toNat, by omega, by rw [show ((i.toNat : Nat) : Int) = i by omega]; exact ⟨q1.trans ex, q2.trans ey⟩⟩
def dlC (u u' : CS) (s t z : Int) : Prop := (¬ ((0 ≤ s ∧ s ≤ 7) ∧ 0 ≤ t ∧ t ≤ 7) ∧ z = -1 ∧ cSame u u') ∨ ((0 ≤ s ∧ s ≤ 7) ∧ (0 ≤ t ∧ t ≤ 7) ∧ ((¬ (cRef u s.toNat ∧ cHS u s.toNat) ∧ z = -2 ∧ cSame u u') ∨ (cRef u s.toNat ∧ mkC u u' t.toNat z (NCi u s.toNat (u.1.2.2.1 s.toNat)))))
/-! both -/
theorem EQS_ref {u : CS} {v : MS} (hC : CI u) (h : EQS u v) {r : Nat} (hr : r < 8) : cHS u r ∧ (cRef u r ↔ mRef v r) ∧ ∀ x y : Int, NCi u r (u.1.2.2.1 r) x y ↔ NMi v r (mN v r) x y := by
  obtain ⟨a1, a2, a3⟩ := h r hr
  have hR := CI_40 hC hr
  have key : ∀ a : Nat, (a : Int) < u.1.2.2.1 r → rx u r a = mX v r a ∧ ry9 u r a = mY v r a ∧ rx u r (ar u r a 1) = mX v r ((a : Int) + 1) ∧ ry9 u r (ar u r a 1) = mY v r ((a : Int) + 1) := fun a ha => by
    have k1 := rx_n hR ha
    have k2 := rx_ar hR ha
    have k3 := a2 a (by omega)
    refine ⟨k1.1.trans k3.1, k1.2.trans k3.2, ?_, ?_⟩
    · rw [k2.1]; unfold nxt
      by_cases e : (a : Int) + 1 < u.1.2.2.1 r
      · rw [if_pos e]; exact (a2 (a + 1) (by omega)).1
      · rw [if_neg e, (a2 0 (by omega)).1]
        unfold mX
        rw [show (a : Int) + 1 = mN v r by omega, Int.tmod_self, show (((0 : Nat) : Int)).tmod (mN v r) = 0 from Int.zero_tmod _]
    · rw [k2.2]; unfold nxt
      by_cases e : (a : Int) + 1 < u.1.2.2.1 r
      · rw [if_pos e]; exact (a2 (a + 1) (by omega)).2
      · rw [if_neg e, (a2 0 (by omega)).2]
        unfold mY
        rw [show (a : Int) + 1 = mN v r by omega, Int.tmod_self, show (((0 : Nat) : Int)).tmod (mN v r) = 0 from Int.zero_tmod _]
  have kn : ∀ a : Nat, (a : Int) < u.1.2.2.1 r → dNX u r a = mNX v r a ∧ dNY u r a = mNY v r a := fun a ha => by
    obtain ⟨k1, k2, k3, k4⟩ := key a ha
    unfold dNX dNY mNX mNY dS mS dX dY
    rw [k1, k2, k3, k4]
    exact ⟨rfl, by rw [Int.neg_sub]⟩
  have kf : ∀ a : Nat, (a : Int) < u.1.2.2.1 r → dFar u r a = mFar v r a := fun a ha => by
    obtain ⟨k1, k2, _⟩ := key a ha
    unfold dFar mFar
    rw [k1, k2, (kn a ha).1, (kn a ha).2]
  refine ⟨⟨_, HS_c (X' := u.1.1 r) (Y' := u.1.2.1 r) (by rw [a1]; exact a3) (fun _ _ => Iff.rfl) (fun a ha => a2 a (by omega))⟩, ⟨fun q => ⟨by have := q.1; omega, fun i h0 h1 => ?_⟩, fun q => ⟨by have := q.1; omega, fun i h0 h1 => ?_⟩⟩, fun x y => ⟨?_, ?_⟩⟩
  · have w := kf i.toNat (by omega)
    rw [show ((i.toNat : Nat) : Int) = i by omega] at w
    rw [← w]; exact q.2 i h0 (by omega)
  · have w := kf i.toNat (by omega)
    rw [show ((i.toNat : Nat) : Int) = i by omega] at w
    rw [w]; exact q.2 i h0 (by omega)
  · rintro ⟨a, q1, q2, q3⟩
    exact ⟨a, by omega, q2.trans (kn a q1).1, q3.trans (kn a q1).2⟩
  · rintro ⟨a, q1, q2, q3⟩
    exact ⟨a, by omega, q2.trans (kn a (by omega)).1.symm, q3.trans (kn a (by omega)).2.symm⟩
theorem EQS_dl {u u' : CS} {v v' : MS} {s t z z' : Int} (hC : CI u) (h : EQS u v) (hc : dlC u u' s t z) (hm : dlM v v' s t z') : z = z' ∧ EQS u' v' := by
  rcases hc with ⟨a1, a2, a3⟩ | ⟨a1, a2, a3⟩ <;> rcases hm with ⟨b1, b2, b3⟩ | ⟨b1, b2, b3⟩
  · exact ⟨by omega, EQS_s h a3 b3⟩
  · exact absurd ⟨b1, b2⟩ a1
  · exact absurd ⟨a1, a2⟩ b1
  · obtain ⟨k1, k2, k3⟩ := EQS_ref hC h (r := s.toNat) (by omega)
    rw [show ((s.toNat : Nat) : Int) = s by omega] at k2 k3
    rcases a3 with ⟨c1, c2, c3⟩ | ⟨c1, c2⟩ <;> rcases b3 with ⟨d1, d2, d3⟩ | ⟨d1, d2⟩
    · exact ⟨by omega, EQS_s h c3 d3⟩
    · exact absurd ⟨k2.mpr d1, k1⟩ c1
    · exact absurd (k2.mp c1) d1
    · exact EQS_mk h a2 k3 c2 d2


set_option maxHeartbeats 4000000 in
set_option maxRecDepth 100000 in
theorem c_X12_normalX2 (l : Launch) (D : JD) (o : Nat) (q : Nat → Nat) (u : MS) (s : Int) (i : Int) (p0 : 0 ≤ s ∧ s ≤ 7) (p1 : Sh u s) (p2 : 0 ≤ i ∧ i < mN u s) (p3 : 2 ≤ mN u s) : Met l yX12_normalX (jw yX12_normalX cX12_normalX 3 (some .int)) (jr 3 66) (jP [.ref o, .int (J s), .int (J i)] D (fun H => va_P D.1 j_cl (mW D o q u) H)) (jRi (fun z => z = mNX u s i ∧ -80 ≤ z ∧ z ≤ 80)) 0 0 (fun _ => False) := by
  refine Met.ofW (cc := cX12_normalX) (maxL := 3) (ret := (some .int)) (by decide) rfl ?_
  intro pr en st mi args below meth co s₁ B hml hv
  obtain ⟨rfl, hG, hP⟩ := hv
  have hr := B.returns
  have hlk := B.notSynchronized
  have SS : jS pr mi co cX12_normalX 3 st _ RX12 := ⟨B.exec, B.bytes, hml, findClass_of_methodNamed B.named, fun w hw => atoms_spec (ws := (jw yX12_normalX cX12_normalX 3 (some .int))) B.pre w (List.mem_cons_of_mem _ hw)⟩
  have hl := lv_entry ([.ref o, .int (J s), .int (J i)]) (n := 3) (Nat.le_of_ble_eq_true rfl)
  rw [lg_entry_eq]
  generalize (lg_sl ([.ref o, .int (J s), .int (J i)]) ++ List.replicate (3 - (lg_sl ([.ref o, .int (J s), .int (J i)])).length) Slot.unset).toArray = ls at hl ⊢
  have hl : lv_has ls 3 [(0, .ref o), (1, .int (J s)), (2, .int (J i))] := hl
  have hN := p1.1
  have hC := p1.2.2
  have hp := mS_p hC p3 p2.1 p2.2
  refine lv_aload_n SS.1 SS.2.1 dX12_normalX_0 rfl (lv_at hl 0 rfl) ?_
  refine lv_iload_n SS.1 SS.2.1 dX12_normalX_1 rfl (lv_at hl 1 rfl) ?_
  refine lv_iload_n SS.1 SS.2.1 dX12_normalX_2 rfl (lv_at hl 2 rfl) ?_
  refine j_iconst SS dX12_normalX_3 ?_
  refine j_iadd SS (x := i) (y := 1) dX12_normalX_4 ?_
  refine j_vRi SS (As := [.int (J s), .int (J (i + 1))]) (rest := []) (c_X12_y l D o q u s (i + 1) (show 0 ≤ s ∧ s ≤ 7 from (by omega)) (show 0 ≤ (i + 1) ∧ (i + 1) ≤ 1000000 from (by omega)) (show 0 < mN u s ∧ mN u s ≤ 24 from (by first | omega | (have hq := (show Sh u s from p1).1; omega)))) mf_X12_y kw_1181 hG hP hP (ci := 8) (q0 := 0) rfl rfl rfl rfl hl.1 ⟨⟨Nat.le_of_ble_eq_true rfl, Nat.le_of_ble_eq_true rfl⟩, Nat.le_of_ble_eq_true rfl, Nat.le_refl _, Nat.le_refl _⟩ rfl dX12_normalX_5 (fun z_5 h_5 => ?_)
  have h_5 : z_5 = mY u s (i + 1) := h_5
  have hb_5 := (show Sh u s from p1).2.1 (by omega) (i + 1) (by omega)
  refine lv_aload_n SS.1 SS.2.1 dX12_normalX_8 rfl (lv_at hl 0 rfl) ?_
  refine lv_iload_n SS.1 SS.2.1 dX12_normalX_9 rfl (lv_at hl 1 rfl) ?_
  refine lv_iload_n SS.1 SS.2.1 dX12_normalX_10 rfl (lv_at hl 2 rfl) ?_
  refine j_vRi SS (As := [.int (J s), .int (J i)]) (rest := [.int (J z_5)]) (c_X12_y l D o q u s i (show 0 ≤ s ∧ s ≤ 7 from (by omega)) (show 0 ≤ i ∧ i ≤ 1000000 from (by omega)) (show 0 < mN u s ∧ mN u s ≤ 24 from (by first | omega | (have hq := (show Sh u s from p1).1; omega)))) mf_X12_y kw_1181 hG hP hP (ci := 8) (q0 := 0) rfl rfl rfl rfl hl.1 ⟨⟨Nat.le_of_ble_eq_true rfl, Nat.le_of_ble_eq_true rfl⟩, Nat.le_of_ble_eq_true rfl, Nat.le_refl _, Nat.le_refl _⟩ rfl dX12_normalX_11 (fun z_11 h_11 => ?_)
  have h_11 : z_11 = mY u s i := h_11
  have hb_11 := (show Sh u s from p1).2.1 (by omega) i (by omega)
  refine j_isub SS (x := z_5) (y := z_11) dX12_normalX_14 ?_
  refine lv_aload_n SS.1 SS.2.1 dX12_normalX_15 rfl (lv_at hl 0 rfl) ?_
  refine lv_iload_n SS.1 SS.2.1 dX12_normalX_16 rfl (lv_at hl 1 rfl) ?_
  refine lv_iload_n SS.1 SS.2.1 dX12_normalX_17 rfl (lv_at hl 2 rfl) ?_
  refine j_vRi SS (As := [.int (J s), .int (J i)]) (rest := [.int (J (z_5 - z_11))]) (c_X12_stepsOf l D o q u s i (show 0 ≤ s ∧ s ≤ 7 from (by omega)) (show Sh u s from (p1)) (show 0 ≤ i ∧ i ≤ 100 from (by omega)) (show 0 < mN u s from (by first | omega | (have hq := (show Sh u s from p1).1; omega)))) mf_X12_stepsOf kw_1226 hG hP hP (ci := 8) (q0 := 0) rfl rfl rfl rfl hl.1 ⟨⟨Nat.le_of_ble_eq_true rfl, Nat.le_of_ble_eq_true rfl⟩, Nat.le_of_ble_eq_true rfl, Nat.le_refl _, Nat.le_refl _⟩ rfl dX12_normalX_18 (fun z_18 h_18 => ?_)
  have h_18 : z_18 = mS u s i ∧ 0 ≤ z_18 ∧ z_18 ≤ 80 := h_18
  have hp9 := hp
  rw [← h_18.1] at hp9
  have htd := td_b (b := z_18) (show -80 ≤ z_5 - z_11 ∧ z_5 - z_11 ≤ 80 by omega)
  refine j_idiv SS (x := (z_5 - z_11)) (y := z_18) dX12_normalX_21 (by omega) (by omega) (by omega) ?_
  exact W.iret SS.1 SS.2.1 hr (fun t ht hW => ⟨_, rfl, ⟨(Int.tdiv (z_5 - z_11) z_18), rfl, (⟨by rw [h_5, h_11, h_18.1]; rfl, htd⟩)⟩, ht⟩) (fun _ h => nomatch h) dX12_normalX_22 hlk

set_option maxHeartbeats 4000000 in
set_option maxRecDepth 100000 in
theorem c_X12_normalY2 (l : Launch) (D : JD) (o : Nat) (q : Nat → Nat) (u : MS) (s : Int) (i : Int) (p0 : 0 ≤ s ∧ s ≤ 7) (p1 : Sh u s) (p2 : 0 ≤ i ∧ i < mN u s) (p3 : 2 ≤ mN u s) : Met l yX12_normalY (jw yX12_normalY cX12_normalY 3 (some .int)) (jr 3 66) (jP [.ref o, .int (J s), .int (J i)] D (fun H => va_P D.1 j_cl (mW D o q u) H)) (jRi (fun z => z = mNY u s i ∧ -80 ≤ z ∧ z ≤ 80)) 0 0 (fun _ => False) := by
  refine Met.ofW (cc := cX12_normalY) (maxL := 3) (ret := (some .int)) (by decide) rfl ?_
  intro pr en st mi args below meth co s₁ B hml hv
  obtain ⟨rfl, hG, hP⟩ := hv
  have hr := B.returns
  have hlk := B.notSynchronized
  have SS : jS pr mi co cX12_normalY 3 st _ RX12 := ⟨B.exec, B.bytes, hml, findClass_of_methodNamed B.named, fun w hw => atoms_spec (ws := (jw yX12_normalY cX12_normalY 3 (some .int))) B.pre w (List.mem_cons_of_mem _ hw)⟩
  have hl := lv_entry ([.ref o, .int (J s), .int (J i)]) (n := 3) (Nat.le_of_ble_eq_true rfl)
  rw [lg_entry_eq]
  generalize (lg_sl ([.ref o, .int (J s), .int (J i)]) ++ List.replicate (3 - (lg_sl ([.ref o, .int (J s), .int (J i)])).length) Slot.unset).toArray = ls at hl ⊢
  have hl : lv_has ls 3 [(0, .ref o), (1, .int (J s)), (2, .int (J i))] := hl
  have hN := p1.1
  have hC := p1.2.2
  have hp := mS_p hC p3 p2.1 p2.2
  refine lv_aload_n SS.1 SS.2.1 dX12_normalY_0 rfl (lv_at hl 0 rfl) ?_
  refine lv_iload_n SS.1 SS.2.1 dX12_normalY_1 rfl (lv_at hl 1 rfl) ?_
  refine lv_iload_n SS.1 SS.2.1 dX12_normalY_2 rfl (lv_at hl 2 rfl) ?_
  refine j_vRi SS (As := [.int (J s), .int (J i)]) (rest := []) (c_X12_x l D o q u s i (show 0 ≤ s ∧ s ≤ 7 from (by omega)) (show 0 ≤ i ∧ i ≤ 1000000 from (by omega)) (show 0 < mN u s ∧ mN u s ≤ 24 from (by first | omega | (have hq := (show Sh u s from p1).1; omega)))) mf_X12_x kw_1177 hG hP hP (ci := 8) (q0 := 0) rfl rfl rfl rfl hl.1 ⟨⟨Nat.le_of_ble_eq_true rfl, Nat.le_of_ble_eq_true rfl⟩, Nat.le_of_ble_eq_true rfl, Nat.le_refl _, Nat.le_refl _⟩ rfl dX12_normalY_3 (fun z_3 h_3 => ?_)
  have h_3 : z_3 = mX u s i := h_3
  have hb_3 := (show Sh u s from p1).2.1 (by omega) i (by omega)
  refine lv_aload_n SS.1 SS.2.1 dX12_normalY_6 rfl (lv_at hl 0 rfl) ?_
  refine lv_iload_n SS.1 SS.2.1 dX12_normalY_7 rfl (lv_at hl 1 rfl) ?_
  refine lv_iload_n SS.1 SS.2.1 dX12_normalY_8 rfl (lv_at hl 2 rfl) ?_
  refine j_iconst SS dX12_normalY_9 ?_
  refine j_iadd SS (x := i) (y := 1) dX12_normalY_10 ?_
  refine j_vRi SS (As := [.int (J s), .int (J (i + 1))]) (rest := [.int (J z_3)]) (c_X12_x l D o q u s (i + 1) (show 0 ≤ s ∧ s ≤ 7 from (by omega)) (show 0 ≤ (i + 1) ∧ (i + 1) ≤ 1000000 from (by omega)) (show 0 < mN u s ∧ mN u s ≤ 24 from (by first | omega | (have hq := (show Sh u s from p1).1; omega)))) mf_X12_x kw_1177 hG hP hP (ci := 8) (q0 := 0) rfl rfl rfl rfl hl.1 ⟨⟨Nat.le_of_ble_eq_true rfl, Nat.le_of_ble_eq_true rfl⟩, Nat.le_of_ble_eq_true rfl, Nat.le_refl _, Nat.le_refl _⟩ rfl dX12_normalY_11 (fun z_11 h_11 => ?_)
  have h_11 : z_11 = mX u s (i + 1) := h_11
  have hb_11 := (show Sh u s from p1).2.1 (by omega) (i + 1) (by omega)
  refine j_isub SS (x := z_3) (y := z_11) dX12_normalY_14 ?_
  refine lv_aload_n SS.1 SS.2.1 dX12_normalY_15 rfl (lv_at hl 0 rfl) ?_
  refine lv_iload_n SS.1 SS.2.1 dX12_normalY_16 rfl (lv_at hl 1 rfl) ?_
  refine lv_iload_n SS.1 SS.2.1 dX12_normalY_17 rfl (lv_at hl 2 rfl) ?_
  refine j_vRi SS (As := [.int (J s), .int (J i)]) (rest := [.int (J (z_3 - z_11))]) (c_X12_stepsOf l D o q u s i (show 0 ≤ s ∧ s ≤ 7 from (by omega)) (show Sh u s from (p1)) (show 0 ≤ i ∧ i ≤ 100 from (by omega)) (show 0 < mN u s from (by first | omega | (have hq := (show Sh u s from p1).1; omega)))) mf_X12_stepsOf kw_1226 hG hP hP (ci := 8) (q0 := 0) rfl rfl rfl rfl hl.1 ⟨⟨Nat.le_of_ble_eq_true rfl, Nat.le_of_ble_eq_true rfl⟩, Nat.le_of_ble_eq_true rfl, Nat.le_refl _, Nat.le_refl _⟩ rfl dX12_normalY_18 (fun z_18 h_18 => ?_)
  have h_18 : z_18 = mS u s i ∧ 0 ≤ z_18 ∧ z_18 ≤ 80 := h_18
  have hp9 := hp
  rw [← h_18.1] at hp9
  have htd := td_b (b := z_18) (show -80 ≤ z_3 - z_11 ∧ z_3 - z_11 ≤ 80 by omega)
  refine j_idiv SS (x := (z_3 - z_11)) (y := z_18) dX12_normalY_21 (by omega) (by omega) (by omega) ?_
  exact W.iret SS.1 SS.2.1 hr (fun t ht hW => ⟨_, rfl, ⟨(Int.tdiv (z_3 - z_11) z_18), rfl, (⟨by rw [h_3, h_11, h_18.1]; rfl, htd⟩)⟩, ht⟩) (fun _ h => nomatch h) dX12_normalY_22 hlk

set_option maxHeartbeats 4000000 in
set_option maxRecDepth 100000 in
theorem c_X12_farOf2 (l : Launch) (D : JD) (o : Nat) (q : Nat → Nat) (u : MS) (s : Int) (i : Int) (p0 : 0 ≤ s ∧ s ≤ 7) (p1 : Sh u s) (p2 : 0 ≤ i ∧ i < mN u s) (p3 : 2 ≤ mN u s) : Met l yX12_farOf (jw yX12_farOf cX12_farOf 3 (some .int)) (jr 4 88) (jP [.ref o, .int (J s), .int (J i)] D (fun H => va_P D.1 j_cl (mW D o q u) H)) (jRi (fun z => z = mFar u s i ∧ -6400 ≤ z ∧ z ≤ 6400)) 0 0 (fun _ => False) := by
  refine Met.ofW (cc := cX12_farOf) (maxL := 3) (ret := (some .int)) (by decide) rfl ?_
  intro pr en st mi args below meth co s₁ B hml hv
  obtain ⟨rfl, hG, hP⟩ := hv
  have hr := B.returns
  have hlk := B.notSynchronized
  have SS : jS pr mi co cX12_farOf 3 st _ RX12 := ⟨B.exec, B.bytes, hml, findClass_of_methodNamed B.named, fun w hw => atoms_spec (ws := (jw yX12_farOf cX12_farOf 3 (some .int))) B.pre w (List.mem_cons_of_mem _ hw)⟩
  have hl := lv_entry ([.ref o, .int (J s), .int (J i)]) (n := 3) (Nat.le_of_ble_eq_true rfl)
  rw [lg_entry_eq]
  generalize (lg_sl ([.ref o, .int (J s), .int (J i)]) ++ List.replicate (3 - (lg_sl ([.ref o, .int (J s), .int (J i)])).length) Slot.unset).toArray = ls at hl ⊢
  have hl : lv_has ls 3 [(0, .ref o), (1, .int (J s)), (2, .int (J i))] := hl
  have hN := p1.1
  have hC := p1.2.2
  refine lv_aload_n SS.1 SS.2.1 dX12_farOf_0 rfl (lv_at hl 0 rfl) ?_
  refine lv_iload_n SS.1 SS.2.1 dX12_farOf_1 rfl (lv_at hl 1 rfl) ?_
  refine lv_iload_n SS.1 SS.2.1 dX12_farOf_2 rfl (lv_at hl 2 rfl) ?_
  refine j_vRi SS (As := [.int (J s), .int (J i)]) (rest := []) (c_X12_normalX2 l D o q u s i (show 0 ≤ s ∧ s ≤ 7 from (by omega)) (show Sh u s from (p1)) (show 0 ≤ i ∧ i < mN u s from (by first | omega | (have hq := (show Sh u s from p1).1; omega))) (show 2 ≤ mN u s from (by first | omega | (have hq := (show Sh u s from p1).1; omega)))) mf_X12_normalX kw_1364 hG hP hP (ci := 8) (q0 := 0) rfl rfl rfl rfl hl.1 ⟨⟨Nat.le_of_ble_eq_true rfl, Nat.le_of_ble_eq_true rfl⟩, Nat.le_of_ble_eq_true rfl, Nat.le_refl _, Nat.le_refl _⟩ rfl dX12_farOf_3 (fun z_3 h_3 => ?_)
  have h_3 : z_3 = mNX u s i ∧ -80 ≤ z_3 ∧ z_3 ≤ 80 := h_3
  refine lv_aload_n SS.1 SS.2.1 dX12_farOf_6 rfl (lv_at hl 0 rfl) ?_
  refine lv_iload_n SS.1 SS.2.1 dX12_farOf_7 rfl (lv_at hl 1 rfl) ?_
  refine lv_iload_n SS.1 SS.2.1 dX12_farOf_8 rfl (lv_at hl 2 rfl) ?_
  refine j_vRi SS (As := [.int (J s), .int (J i)]) (rest := [.int (J z_3)]) (c_X12_x l D o q u s i (show 0 ≤ s ∧ s ≤ 7 from (by omega)) (show 0 ≤ i ∧ i ≤ 1000000 from (by omega)) (show 0 < mN u s ∧ mN u s ≤ 24 from (by first | omega | (have hq := (show Sh u s from p1).1; omega)))) mf_X12_x kw_1177 hG hP hP (ci := 8) (q0 := 0) rfl rfl rfl rfl hl.1 ⟨⟨Nat.le_of_ble_eq_true rfl, Nat.le_of_ble_eq_true rfl⟩, Nat.le_of_ble_eq_true rfl, Nat.le_refl _, Nat.le_refl _⟩ rfl dX12_farOf_9 (fun z_9 h_9 => ?_)
  have h_9 : z_9 = mX u s i := h_9
  have hb_9 := (show Sh u s from p1).2.1 (by omega) i (by omega)
  have m1 := mulb (A := 80) (B := 40) (a := z_3) (b := z_9) (by omega) (by omega)
  refine j_imul SS (x := z_3) (y := z_9) dX12_farOf_12 ?_
  refine lv_aload_n SS.1 SS.2.1 dX12_farOf_13 rfl (lv_at hl 0 rfl) ?_
  refine lv_iload_n SS.1 SS.2.1 dX12_farOf_14 rfl (lv_at hl 1 rfl) ?_
  refine lv_iload_n SS.1 SS.2.1 dX12_farOf_15 rfl (lv_at hl 2 rfl) ?_
  refine j_vRi SS (As := [.int (J s), .int (J i)]) (rest := [.int (J (z_3 * z_9))]) (c_X12_normalY2 l D o q u s i (show 0 ≤ s ∧ s ≤ 7 from (by omega)) (show Sh u s from (p1)) (show 0 ≤ i ∧ i < mN u s from (by first | omega | (have hq := (show Sh u s from p1).1; omega))) (show 2 ≤ mN u s from (by first | omega | (have hq := (show Sh u s from p1).1; omega)))) mf_X12_normalY kw_1368 hG hP hP (ci := 8) (q0 := 0) rfl rfl rfl rfl hl.1 ⟨⟨Nat.le_of_ble_eq_true rfl, Nat.le_of_ble_eq_true rfl⟩, Nat.le_of_ble_eq_true rfl, Nat.le_refl _, Nat.le_refl _⟩ rfl dX12_farOf_16 (fun z_16 h_16 => ?_)
  have h_16 : z_16 = mNY u s i ∧ -80 ≤ z_16 ∧ z_16 ≤ 80 := h_16
  refine lv_aload_n SS.1 SS.2.1 dX12_farOf_19 rfl (lv_at hl 0 rfl) ?_
  refine lv_iload_n SS.1 SS.2.1 dX12_farOf_20 rfl (lv_at hl 1 rfl) ?_
  refine lv_iload_n SS.1 SS.2.1 dX12_farOf_21 rfl (lv_at hl 2 rfl) ?_
  refine j_vRi SS (As := [.int (J s), .int (J i)]) (rest := [.int (J z_16), .int (J (z_3 * z_9))]) (c_X12_y l D o q u s i (show 0 ≤ s ∧ s ≤ 7 from (by omega)) (show 0 ≤ i ∧ i ≤ 1000000 from (by omega)) (show 0 < mN u s ∧ mN u s ≤ 24 from (by first | omega | (have hq := (show Sh u s from p1).1; omega)))) mf_X12_y kw_1181 hG hP hP (ci := 8) (q0 := 0) rfl rfl rfl rfl hl.1 ⟨⟨Nat.le_of_ble_eq_true rfl, Nat.le_of_ble_eq_true rfl⟩, Nat.le_of_ble_eq_true rfl, Nat.le_refl _, Nat.le_refl _⟩ rfl dX12_farOf_22 (fun z_22 h_22 => ?_)
  have h_22 : z_22 = mY u s i := h_22
  have hb_22 := (show Sh u s from p1).2.1 (by omega) i (by omega)
  have m2 := mulb (A := 80) (B := 40) (a := z_16) (b := z_22) (by omega) (by omega)
  refine j_imul SS (x := z_16) (y := z_22) dX12_farOf_25 ?_
  refine j_iadd SS (x := (z_3 * z_9)) (y := (z_16 * z_22)) dX12_farOf_26 ?_
  exact W.iret SS.1 SS.2.1 hr (fun t ht hW => ⟨_, rfl, ⟨((z_3 * z_9) + (z_16 * z_22)), rfl, (⟨by rw [h_3.1, h_9, h_16.1, h_22]; rfl, by omega, by omega⟩)⟩, ht⟩) (fun _ h => nomatch h) dX12_farOf_27 hlk

set_option maxHeartbeats 4000000 in
set_option maxRecDepth 100000 in
theorem c_X12_isRound2 (l : Launch) (D : JD) (o : Nat) (q : Nat → Nat) (u : MS) (s : Int) (p0 : 0 ≤ s ∧ s ≤ 7) (p1 : Sh u s) : Met l yX12_isRound (jw yX12_isRound cX12_isRound 2 (some .boolean)) (jr 2 51) (jP [.ref o, .int (J s)] D (fun H => va_P D.1 j_cl (mW D o q u) H)) (jRi (fun z => ((z = 1 ∧ 2 < mN u s) ∨ z = 0) ∧ (mLO u s → z = 1))) 0 0 (fun _ => False) := by
  refine Met.ofW (cc := cX12_isRound) (maxL := 2) (ret := (some .boolean)) (by decide) rfl ?_
  intro pr en st mi args below meth co s₁ B hml hv
  obtain ⟨rfl, hG, hP⟩ := hv
  have hr := B.returns
  have hlk := B.notSynchronized
  have SS : jS pr mi co cX12_isRound 2 st _ RX12 := ⟨B.exec, B.bytes, hml, findClass_of_methodNamed B.named, fun w hw => atoms_spec (ws := (jw yX12_isRound cX12_isRound 2 (some .boolean))) B.pre w (List.mem_cons_of_mem _ hw)⟩
  have hl := lv_entry ([.ref o, .int (J s)]) (n := 2) (Nat.le_of_ble_eq_true rfl)
  rw [lg_entry_eq]
  generalize (lg_sl ([.ref o, .int (J s)]) ++ List.replicate (2 - (lg_sl ([.ref o, .int (J s)])).length) Slot.unset).toArray = ls at hl ⊢
  have hl : lv_has ls 2 [(0, .ref o), (1, .int (J s))] := hl
  have hN := p1.1
  have hC := p1.2.2
  refine lv_aload_n SS.1 SS.2.1 dX12_isRound_0 rfl (lv_at hl 0 rfl) ?_
  refine lv_iload_n SS.1 SS.2.1 dX12_isRound_1 rfl (lv_at hl 1 rfl) ?_
  refine j_vRi SS (As := [.int (J s)]) (rest := []) (c_X12_isPolygon l D o q u s (show 0 ≤ s ∧ s ≤ 7 from (by omega)) (show Sh u s from (p1))) mf_X12_isPolygon kw_1240 hG hP hP (ci := 8) (q0 := 0) rfl rfl rfl rfl hl.1 ⟨⟨Nat.le_of_ble_eq_true rfl, Nat.le_of_ble_eq_true rfl⟩, Nat.le_of_ble_eq_true rfl, Nat.le_refl _, Nat.le_refl _⟩ rfl dX12_isRound_2 (fun z_2 h_2 => ?_)
  have h_2 : (z_2 = 1 ∧ 2 < mN u s) ∨ (z_2 = 0 ∧ mN u s ≤ 2) := h_2
  refine j_if_eq SS (tgt := 23) (x := z_2) dX12_isRound_5 (by decide) (by omega) (fun c_5 => ?_) (fun c_5 => ?_)
  · skip
    refine j_iconst SS dX12_isRound_23 ?_
    exact W.zret SS.1 SS.2.1 hr (j_nz (by decide)) (fun t ht hW => ⟨_, rfl, ⟨0, rfl, (by first | exact ⟨Or.inl ⟨rfl, by omega⟩, fun _ => rfl⟩ | exact ⟨Or.inr rfl, fun q => by have := q.1; omega⟩ | exact ⟨Or.inr rfl, fun q => by have w := wLO h_12 q; omega⟩)⟩, ht⟩) (fun _ h => nomatch h) dX12_isRound_24 hlk
  · skip
    refine lv_aload_n SS.1 SS.2.1 dX12_isRound_8 rfl (lv_at hl 0 rfl) ?_
    refine lv_iload_n SS.1 SS.2.1 dX12_isRound_9 rfl (lv_at hl 1 rfl) ?_
    refine j_iconst SS dX12_isRound_10 ?_
    refine j_iconst SS dX12_isRound_11 ?_
    refine j_vRi SS (As := [.int (J s), .int (J 0), .int (J 0)]) (rest := []) (c_X12_whereOf l D o q u s 0 0 (show 0 ≤ s ∧ s ≤ 7 from (by omega)) (show Sh u s from (p1)) (show -100 ≤ (0 : Int) ∧ (0 : Int) ≤ 100 from (by omega)) (show -100 ≤ (0 : Int) ∧ (0 : Int) ≤ 100 from (by omega))) mf_X12_whereOf kw_1255 hG hP hP (ci := 8) (q0 := 0) rfl rfl rfl rfl hl.1 ⟨⟨Nat.le_of_ble_eq_true rfl, Nat.le_of_ble_eq_true rfl⟩, Nat.le_of_ble_eq_true rfl, Nat.le_refl _, Nat.le_refl _⟩ rfl dX12_isRound_12 (fun z_12 h_12 => ?_)
    have h_12 : wR u s (0 : Int) (0 : Int) z_12 := h_12
    have zb := wR_b h_12
    refine j_iconst SS dX12_isRound_15 ?_
    refine j_icmp_ne SS (tgt := 23) (x := z_12) (y := 2) dX12_isRound_16 (by decide) (by omega) (by decide) (fun c_16 => ?_) (fun c_16 => ?_)
    · skip
      refine j_iconst SS dX12_isRound_23 ?_
      exact W.zret SS.1 SS.2.1 hr (j_nz (by decide)) (fun t ht hW => ⟨_, rfl, ⟨0, rfl, (by first | exact ⟨Or.inl ⟨rfl, by omega⟩, fun _ => rfl⟩ | exact ⟨Or.inr rfl, fun q => by have := q.1; omega⟩ | exact ⟨Or.inr rfl, fun q => by have w := wLO h_12 q; omega⟩)⟩, ht⟩) (fun _ h => nomatch h) dX12_isRound_24 hlk
    · skip
      refine j_iconst SS dX12_isRound_19 ?_
      refine lv_goto (tgt := 24) SS.1 SS.2.1 dX12_isRound_20 (by decide) ?_
      exact W.zret SS.1 SS.2.1 hr (j_nz (by decide)) (fun t ht hW => ⟨_, rfl, ⟨1, rfl, (by first | exact ⟨Or.inl ⟨rfl, by omega⟩, fun _ => rfl⟩ | exact ⟨Or.inr rfl, fun q => by have := q.1; omega⟩ | exact ⟨Or.inr rfl, fun q => by have w := wLO h_12 q; omega⟩)⟩, ht⟩) (fun _ h => nomatch h) dX12_isRound_24 hlk

set_option maxHeartbeats 4000000 in
set_option maxRecDepth 100000 in
theorem c_X12_isReflexive2 (l : Launch) (D : JD) (o : Nat) (q : Nat → Nat) (u : MS) (s : Int) (p0 : 0 ≤ s ∧ s ≤ 7) (p1 : Sh u s) : Met l yX12_isReflexive (jw yX12_isReflexive cX12_isReflexive 4 (some .boolean)) (jr 5 110) (jP [.ref o, .int (J s)] D (fun H => va_P D.1 j_cl (mW D o q u) H)) (jRi (fun z => (z = 1 ∧ mRef u s) ∨ (z = 0 ∧ ¬ mRef u s))) 0 0 (fun _ => False) := by
  refine Met.ofW (cc := cX12_isReflexive) (maxL := 4) (ret := (some .boolean)) (by decide) rfl ?_
  intro pr en st mi args below meth co s₁ B hml hv
  obtain ⟨rfl, hG, hP⟩ := hv
  have hr := B.returns
  have hlk := B.notSynchronized
  have SS : jS pr mi co cX12_isReflexive 4 st _ RX12 := ⟨B.exec, B.bytes, hml, findClass_of_methodNamed B.named, fun w hw => atoms_spec (ws := (jw yX12_isReflexive cX12_isReflexive 4 (some .boolean))) B.pre w (List.mem_cons_of_mem _ hw)⟩
  have hl := lv_entry ([.ref o, .int (J s)]) (n := 4) (Nat.le_of_ble_eq_true rfl)
  rw [lg_entry_eq]
  generalize (lg_sl ([.ref o, .int (J s)]) ++ List.replicate (4 - (lg_sl ([.ref o, .int (J s)])).length) Slot.unset).toArray = ls at hl ⊢
  have hl : lv_has ls 4 [(0, .ref o), (1, .int (J s))] := hl
  have hN := p1.1
  have hC := p1.2.2
  refine lv_aload_n SS.1 SS.2.1 dX12_isReflexive_0 rfl (lv_at hl 0 rfl) ?_
  refine lv_iload_n SS.1 SS.2.1 dX12_isReflexive_1 rfl (lv_at hl 1 rfl) ?_
  refine j_vRi SS (As := [.int (J s)]) (rest := []) (c_X12_isRound2 l D o q u s (show 0 ≤ s ∧ s ≤ 7 from (by omega)) (show Sh u s from (p1))) mf_X12_isRound kw_1360 hG hP hP (ci := 8) (q0 := 0) rfl rfl rfl rfl hl.1 ⟨⟨Nat.le_of_ble_eq_true rfl, Nat.le_of_ble_eq_true rfl⟩, Nat.le_of_ble_eq_true rfl, Nat.le_refl _, Nat.le_refl _⟩ rfl dX12_isReflexive_2 (fun z_2 h_2 => ?_)
  have h_2 : ((z_2 = 1 ∧ 2 < mN u s) ∨ z_2 = 0) ∧ (mLO u s → z_2 = 1) := h_2
  refine lv_istore_n (lv' := [(2, .int (J z_2)), (0, .ref o), (1, .int (J s))]) SS.1 SS.2.1 dX12_isReflexive_5 rfl hl (by decide) rfl (fun ls hl => ?_)
  refine j_iconst SS dX12_isReflexive_6 ?_
  refine lv_istore_n (lv' := [(3, .int (J 0)), (2, .int (J z_2)), (0, .ref o), (1, .int (J s))]) SS.1 SS.2.1 dX12_isReflexive_7 rfl hl (by decide) rfl (fun ls hl => ?_)
  have L_8 : ∀ (nn : Nat) (t2 : Int) (i : Int) (ls : Array Slot) (hl : lv_has ls 4 [(0, .ref o), (1, .int (J s)), (2, .int (J t2)), (3, .int (J i))]) (i8_0 : 0 ≤ i ∧ i ≤ 24) (i8_1 : (t2 = 1 ∧ 2 < mN u s ∧ ∀ j : Int, 0 ≤ j → j < i → mFar u s j = 1) ∨ (t2 = 0 ∧ ¬ mRef u s)), ((24 : Int) - i).toNat < nn → W pr l en (headSpec (jw yX12_isReflexive cX12_isReflexive 4 (some .boolean)) (jr 5 110)).room st mi (([.ref o, .int (J s)] : List Value).toArray) below meth co st.heap [] 0 0 (MQ below (jRi (fun z => (z = 1 ∧ mRef u s) ∨ (z = 0 ∧ ¬ mRef u s))) (([.ref o, .int (J s)] : List Value).toArray) st 0 0 (fun _ => False)) (F0 mi 8 ls []) := by
    intro nn
    induction nn with
    | zero => intros; omega
    | succ nn ih_8 =>
      intro t2 i ls hl i8_0 i8_1 hm
      refine lv_iload_n SS.1 SS.2.1 dX12_isReflexive_8 rfl (lv_at hl 2 rfl) ?_
      refine j_if_eq SS (tgt := 44) (x := t2) dX12_isReflexive_9 (by decide) (by omega) (fun c_9 => ?_) (fun c_9 => ?_)
      · skip
        refine lv_iload_n SS.1 SS.2.1 dX12_isReflexive_44 rfl (lv_at hl 2 rfl) ?_
        exact W.zret SS.1 SS.2.1 hr (j_nz (by omega)) (fun t ht hW => ⟨_, rfl, ⟨t2, rfl, (by rcases i8_1 with q | q; exact Or.inl ⟨q.1, q.2.1, fun j h1 h2 => q.2.2 j h1 (by omega)⟩; exact Or.inr q)⟩, ht⟩) (fun _ h => nomatch h) dX12_isReflexive_45 hlk
      · skip
        refine lv_iload_n SS.1 SS.2.1 dX12_isReflexive_12 rfl (lv_at hl 3 rfl) ?_
        refine lv_aload_n SS.1 SS.2.1 dX12_isReflexive_13 rfl (lv_at hl 0 rfl) ?_
        refine j_get SS hG hP 0 (v := .ref (q 0)) (C := RX12) (T := TX12) (N := 31) rfl rfl inX12 0 (by decide) (ref := RX12) kw_1058 rfl rfl dX12_isReflexive_14 ?_
        refine lv_iload_n SS.1 SS.2.1 dX12_isReflexive_17 rfl (lv_at hl 1 rfl) ?_
        refine j_iald SS hG hP 1 (n := 8) (f := (u.1 0)) rfl (z := s) (by omega) (by omega) dX12_isReflexive_18 ?_
        have hN_18 := (show Sh u s from p1).1
        refine j_icmp_ge SS (tgt := 44) (x := i) (y := (mN u s)) dX12_isReflexive_19 (by decide) (by omega) (by omega) (fun c_19 => ?_) (fun c_19 => ?_)
        · skip
          refine lv_iload_n SS.1 SS.2.1 dX12_isReflexive_44 rfl (lv_at hl 2 rfl) ?_
          exact W.zret SS.1 SS.2.1 hr (j_nz (by omega)) (fun t ht hW => ⟨_, rfl, ⟨t2, rfl, (by rcases i8_1 with q | q; exact Or.inl ⟨q.1, q.2.1, fun j h1 h2 => q.2.2 j h1 (by omega)⟩; exact Or.inr q)⟩, ht⟩) (fun _ h => nomatch h) dX12_isReflexive_45 hlk
        · skip
          refine lv_aload_n SS.1 SS.2.1 dX12_isReflexive_22 rfl (lv_at hl 0 rfl) ?_
          refine lv_iload_n SS.1 SS.2.1 dX12_isReflexive_23 rfl (lv_at hl 1 rfl) ?_
          refine lv_iload_n SS.1 SS.2.1 dX12_isReflexive_24 rfl (lv_at hl 3 rfl) ?_
          refine j_vRi SS (As := [.int (J s), .int (J i)]) (rest := []) (c_X12_farOf2 l D o q u s i (show 0 ≤ s ∧ s ≤ 7 from (by omega)) (show Sh u s from (p1)) (show 0 ≤ i ∧ i < mN u s from (by first | omega | (have hq := (show Sh u s from p1).1; omega))) (show 2 ≤ mN u s from (by first | omega | (have hq := (show Sh u s from p1).1; omega)))) mf_X12_farOf kw_1372 hG hP hP (ci := 8) (q0 := 0) rfl rfl rfl rfl hl.1 ⟨⟨Nat.le_of_ble_eq_true rfl, Nat.le_of_ble_eq_true rfl⟩, Nat.le_of_ble_eq_true rfl, Nat.le_refl _, Nat.le_refl _⟩ rfl dX12_isReflexive_25 (fun z_25 h_25 => ?_)
          have h_25 : z_25 = mFar u s i ∧ -6400 ≤ z_25 ∧ z_25 ≤ 6400 := h_25
          refine j_iconst SS dX12_isReflexive_28 ?_
          refine j_icmp_ne SS (tgt := 36) (x := z_25) (y := 1) dX12_isReflexive_29 (by decide) (by omega) (by decide) (fun c_29 => ?_) (fun c_29 => ?_)
          · skip
            refine j_iconst SS dX12_isReflexive_36 ?_
            refine lv_istore_n (lv' := [(2, .int (J 0)), (0, .ref o), (1, .int (J s)), (3, .int (J i))]) SS.1 SS.2.1 dX12_isReflexive_37 rfl hl (by decide) rfl (fun ls hl => ?_)
            refine lv_iinc (v := J (i + 1)) (lv' := [(3, .int (J (i + 1))), (2, .int (J 0)), (0, .ref o), (1, .int (J s))]) SS.1 SS.2.1 dX12_isReflexive_38 hl (k := 3) rfl (J_add _ _) (by decide) rfl (fun ls hl => ?_)
            refine lv_goto (tgt := 8) SS.1 SS.2.1 dX12_isReflexive_41 (by decide) ?_
            exact ih_8 0 (i + 1) ls (lv_sub hl [2, 3, 1, 0] rfl) (by omega) (by first | (refine Or.inl ⟨rfl, by omega, fun j h1 h2 => ?_⟩; by_cases e : j = i; (rw [e, ← h_25.1]; omega); rcases i8_1 with q | q; exact q.2.2 j h1 (by omega); omega) | (refine Or.inr ⟨rfl, fun w => ?_⟩; have w2 := w.2 i (by omega) (by omega); rw [← h_25.1] at w2; omega)) (by omega)
          · skip
            refine j_iconst SS dX12_isReflexive_32 ?_
            refine lv_goto (tgt := 37) SS.1 SS.2.1 dX12_isReflexive_33 (by decide) ?_
            refine lv_istore_n (lv' := [(2, .int (J 1)), (0, .ref o), (1, .int (J s)), (3, .int (J i))]) SS.1 SS.2.1 dX12_isReflexive_37 rfl hl (by decide) rfl (fun ls hl => ?_)
            refine lv_iinc (v := J (i + 1)) (lv' := [(3, .int (J (i + 1))), (2, .int (J 1)), (0, .ref o), (1, .int (J s))]) SS.1 SS.2.1 dX12_isReflexive_38 hl (k := 3) rfl (J_add _ _) (by decide) rfl (fun ls hl => ?_)
            refine lv_goto (tgt := 8) SS.1 SS.2.1 dX12_isReflexive_41 (by decide) ?_
            exact ih_8 1 (i + 1) ls (lv_sub hl [2, 3, 1, 0] rfl) (by omega) (by first | (refine Or.inl ⟨rfl, by omega, fun j h1 h2 => ?_⟩; by_cases e : j = i; (rw [e, ← h_25.1]; omega); rcases i8_1 with q | q; exact q.2.2 j h1 (by omega); omega) | (refine Or.inr ⟨rfl, fun w => ?_⟩; have w2 := w.2 i (by omega) (by omega); rw [← h_25.1] at w2; omega)) (by omega)
  exact L_8 (((24 : Int) - (0 : Int)).toNat + 1) z_2 0 ls (lv_sub hl [2, 3, 1, 0] rfl) (by omega) (by rcases h_2.1 with q | q; exact Or.inl ⟨q.1, q.2, fun j h1 h2 => by omega⟩; exact Or.inr ⟨q, fun w => by have := h_2.2 (mRef_LO w); omega⟩) (Nat.lt_succ_self _)

set_option maxHeartbeats 4000000 in
set_option maxRecDepth 100000 in
theorem c_X12_dual2 (l : Launch) (D : JD) (o : Nat) (q : Nat → Nat) (u : MS) (A : Nat → Prop) (hD : va_D A (mW D o q u)) (s : Int) (t2 : Int) (p0 : IM u) (p1 : -2147483648 ≤ s ∧ s ≤ 2147483647) (p2 : -2147483648 ≤ t2 ∧ t2 ≤ 2147483647) : Met l yX12_dual (jw yX12_dual cX12_dual 4 (some .int)) (jr 6 133) (jP [.ref o, .int (J s), .int (J t2)] D (fun H => va_P D.1 j_cl (mW D o q u) H)) (jWi (fun z u' => ∃ f0 : Nat → Int, ∃ f1 : Nat → Int, ∃ f2 : Nat → Int, ∃ f3 : Nat → Int, ∃ f4 : Nat → Int, ∃ f5 : Nat → Int, ∃ w : Int, ∃ X : Nat → Int, ∃ Y : Nat → Int, ∃ nh : Int, u' = (uV (uI (uI (uV (uI (uI (uI (uI (uI (uI u 0 f0) 1 f1) 2 f2) 3 f3) 4 f4) 5 f5) 6 w) 7 X) 8 Y) 9 nh) ∧ (IM u' ∧ dlM u u' s t2 z)) (fun u' H => va_P D.1 j_cl (mW D o q u') H) A) 0 0 A := by
  refine Met.ofW (cc := cX12_dual) (maxL := 4) (ret := (some .int)) (by decide) rfl ?_
  intro pr en st mi args below meth co s₁ B hml hv
  obtain ⟨rfl, hG, hP⟩ := hv
  have hr := B.returns
  have hlk := B.notSynchronized
  have SS : jS pr mi co cX12_dual 4 st _ RX12 := ⟨B.exec, B.bytes, hml, findClass_of_methodNamed B.named, fun w hw => atoms_spec (ws := (jw yX12_dual cX12_dual 4 (some .int))) B.pre w (List.mem_cons_of_mem _ hw)⟩
  have hl := lv_entry ([.ref o, .int (J s), .int (J t2)]) (n := 4) (Nat.le_of_ble_eq_true rfl)
  rw [lg_entry_eq]
  generalize (lg_sl ([.ref o, .int (J s), .int (J t2)]) ++ List.replicate (4 - (lg_sl ([.ref o, .int (J s), .int (J t2)])).length) Slot.unset).toArray = ls at hl ⊢
  have hl : lv_has ls 4 [(0, .ref o), (1, .int (J s)), (2, .int (J t2))] := hl
  have hS : va_S A st.heap st.heap [] := va_S.rf
  refine lv_iload_n SS.1 SS.2.1 dX12_dual_0 rfl (lv_at hl 1 rfl) ?_
  refine j_sRi SS (As := [.int (J s)]) (rest := []) (c_X12_isShape l D s (show -2147483648 ≤ s ∧ s ≤ 2147483647 from (by omega))) mf_X12_isShape kw_1156 hG trivial rfl hl.1 ⟨⟨Nat.le_of_ble_eq_true rfl, Nat.le_of_ble_eq_true rfl⟩, Nat.le_of_ble_eq_true rfl, Nat.le_refl _, Nat.le_refl _⟩ rfl dX12_dual_1 (fun z_1 h_1 => ?_)
  have h_1 : (z_1 = 1 ∧ (0 ≤ s ∧ s ≤ 7)) ∨ (z_1 = 0 ∧ ¬ (0 ≤ s ∧ s ≤ 7)) := h_1
  refine j_if_eq SS (tgt := 14) (x := z_1) dX12_dual_4 (by decide) (by omega) (fun c_4 => ?_) (fun c_4 => ?_)
  · skip
    refine j_iconst SS dX12_dual_14 ?_
    exact W.iret SS.1 SS.2.1 hr (fun t ht hW => ⟨⟨_, (uV (uI (uI (uV (uI (uI (uI (uI (uI (uI u 0 (u.1 0)) 1 (u.1 1)) 2 (u.1 2)) 3 (u.1 3)) 4 (u.1 4)) 5 (u.1 5)) 6 (u.2.2 6)) 7 (u.1 7)) 8 (u.1 8)) 9 (u.2.2 9)), rfl, ⟨(-1), rfl, (⟨(u.1 0), (u.1 1), (u.1 2), (u.1 3), (u.1 4), (u.1 5), (u.2.2 6), (u.1 7), (u.1 8), (u.2.2 9), rfl, ⟨p0, Or.inl ⟨by omega, rfl, rfl, rfl, rfl⟩⟩⟩)⟩, by show va_P D.1 j_cl (mW D o q (uV (uI (uI (uV (uI (uI (uI (uI (uI (uI u 0 (u.1 0)) 1 (u.1 1)) 2 (u.1 2)) 3 (u.1 3)) 4 (u.1 4)) 5 (u.1 5)) 6 (u.2.2 6)) 7 (u.1 7)) 8 (u.1 8)) 9 (u.2.2 9))) t.heap; rw [ht]; exact hP⟩, hS.F ht⟩) hS.2.2 dX12_dual_15 hlk
  · skip
    refine lv_iload_n SS.1 SS.2.1 dX12_dual_7 rfl (lv_at hl 2 rfl) ?_
    refine j_sRi SS (As := [.int (J t2)]) (rest := []) (c_X12_isShape l D t2 (show -2147483648 ≤ t2 ∧ t2 ≤ 2147483647 from (by omega))) mf_X12_isShape kw_1156 hG trivial rfl hl.1 ⟨⟨Nat.le_of_ble_eq_true rfl, Nat.le_of_ble_eq_true rfl⟩, Nat.le_of_ble_eq_true rfl, Nat.le_refl _, Nat.le_refl _⟩ rfl dX12_dual_8 (fun z_8 h_8 => ?_)
    have h_8 : (z_8 = 1 ∧ (0 ≤ t2 ∧ t2 ≤ 7)) ∨ (z_8 = 0 ∧ ¬ (0 ≤ t2 ∧ t2 ≤ 7)) := h_8
    refine j_if_ne SS (tgt := 16) (x := z_8) dX12_dual_11 (by decide) (by omega) (fun c_11 => ?_) (fun c_11 => ?_)
    · skip
      refine lv_aload_n SS.1 SS.2.1 dX12_dual_16 rfl (lv_at hl 0 rfl) ?_
      refine lv_iload_n SS.1 SS.2.1 dX12_dual_17 rfl (lv_at hl 1 rfl) ?_
      refine j_vRi SS (As := [.int (J s)]) (rest := []) (c_X12_isReflexive2 l D o q u s (show 0 ≤ s ∧ s ≤ 7 from (by omega)) (show Sh u s from (p0.1 _ (by omega) (by omega)))) mf_X12_isReflexive kw_1380 hG hP hP (ci := 8) (q0 := 0) rfl rfl rfl rfl hl.1 ⟨⟨Nat.le_of_ble_eq_true rfl, Nat.le_of_ble_eq_true rfl⟩, Nat.le_of_ble_eq_true rfl, Nat.le_refl _, Nat.le_refl _⟩ rfl dX12_dual_18 (fun z_18 h_18 => ?_)
      have h_18 : (z_18 = 1 ∧ mRef u s) ∨ (z_18 = 0 ∧ ¬ mRef u s) := h_18
      refine j_if_ne SS (tgt := 27) (x := z_18) dX12_dual_21 (by decide) (by omega) (fun c_21 => ?_) (fun c_21 => ?_)
      · skip
        have hSh := p0.1 s (by omega) (by omega)
        have hN := hSh.1
        have href : mRef u s := by rcases h_18 with q | q; exact q.2; omega
        have hn3 := href.1
        refine lv_aload_n SS.1 SS.2.1 dX12_dual_27 rfl (lv_at hl 0 rfl) ?_
        refine j_iconst SS dX12_dual_28 ?_
        refine j_put SS hG hP (mW_D hD) hS 0 (v := .int (J 0)) (ty := .int) (C := RX12) (T := TX12) (N := 31) rfl rfl inX12 tyX12 tyX12_ok nmX12 6 (by decide) (ref := RX12) kw_1064 rfl rfl (by decide +kernel) rfl rfl (Nat.le_of_ble_eq_true rfl) dX12_dual_29 (ws' := (mW D o q (uV u 6 0))) rfl (fun H locs hP hS => ?_)
        refine j_iconst SS dX12_dual_32 ?_
        refine lv_istore_n (lv' := [(3, .int (J 0)), (0, .ref o), (1, .int (J s)), (2, .int (J t2))]) SS.1 SS.2.1 dX12_dual_33 rfl hl (by decide) rfl (fun ls hl => ?_)
        have L_34 : ∀ (nn : Nat) (i : Int) (f : Nat → Int) (g : Nat → Int) (w : Int) (H : Heap) (locs : List Loc) (hP : va_P D.1 j_cl (mW D o q (uV (uI (uI u 4 f) 5 g) 6 w)) H) (hS : va_S A st.heap H locs) (ls : Array Slot) (hl : lv_has ls 4 [(0, .ref o), (1, .int (J s)), (2, .int (J t2)), (3, .int (J i))]) (i34_0 : 0 ≤ i ∧ i ≤ mN u s) (i34_1 : w = i) (i34_2 : bd 80 f g w) (i34_3 : ∀ x y : Int, SWW f g w x y ↔ NMi u s i x y), (mN u s - i).toNat < nn → W pr l en (headSpec (jw yX12_dual cX12_dual 4 (some .int)) (jr 6 133)).room st mi (([.ref o, .int (J s), .int (J t2)] : List Value).toArray) below meth co H locs 0 0 (MQ below (jWi (fun z u' => ∃ f0 : Nat → Int, ∃ f1 : Nat → Int, ∃ f2 : Nat → Int, ∃ f3 : Nat → Int, ∃ f4 : Nat → Int, ∃ f5 : Nat → Int, ∃ w : Int, ∃ X : Nat → Int, ∃ Y : Nat → Int, ∃ nh : Int, u' = (uV (uI (uI (uV (uI (uI (uI (uI (uI (uI u 0 f0) 1 f1) 2 f2) 3 f3) 4 f4) 5 f5) 6 w) 7 X) 8 Y) 9 nh) ∧ (IM u' ∧ dlM u u' s t2 z)) (fun u' H => va_P D.1 j_cl (mW D o q u') H) A) (([.ref o, .int (J s), .int (J t2)] : List Value).toArray) st 0 0 A) (F0 mi 34 ls []) := by
          intro nn
          induction nn with
          | zero => intros; omega
          | succ nn ih_34 =>
            intro i f g w H locs hP hS ls hl i34_0 i34_1 i34_2 i34_3 hm
            refine lv_iload_n SS.1 SS.2.1 dX12_dual_34 rfl (lv_at hl 3 rfl) ?_
            refine lv_aload_n SS.1 SS.2.1 dX12_dual_35 rfl (lv_at hl 0 rfl) ?_
            refine j_get SS hG hP 0 (v := .ref (q 0)) (C := RX12) (T := TX12) (N := 31) rfl rfl inX12 0 (by decide) (ref := RX12) kw_1058 rfl rfl dX12_dual_36 ?_
            refine lv_iload_n SS.1 SS.2.1 dX12_dual_39 rfl (lv_at hl 1 rfl) ?_
            refine j_iald SS hG hP 1 (n := 8) (f := (u.1 0)) rfl (z := s) (by omega) (by omega) dX12_dual_40 ?_
            have hN_40 := (show Sh u s from p0.1 _ (by omega) (by omega)).1
            refine j_icmp_ge SS (tgt := 66) (x := i) (y := (mN u s)) dX12_dual_41 (by decide) (by omega) (by omega) (fun c_41 => ?_) (fun c_41 => ?_)
            · skip
              refine lv_aload_n SS.1 SS.2.1 dX12_dual_66 rfl (lv_at hl 0 rfl) ?_
              refine j_vWv SS (As := []) (rest := []) (c_X12_findHull2 l D o q (uV (uI (uI u 4 f) 5 g) 6 w) A (mW_D hD)  (show 0 ≤ w ∧ w ≤ 640 from (by omega)) (show bd 10000 (f) (g) (w) from (bd_K i34_2 (by omega)))) mf_X12_findHull kw_1189 hG hP hP (ci := 8) (q0 := 0) rfl rfl rfl hS (fun _ h => h) rfl hl.1 ⟨⟨Nat.le_of_ble_eq_true rfl, Nat.le_of_ble_eq_true rfl⟩, Nat.le_of_ble_eq_true rfl, Nat.le_refl _, Nat.le_refl _⟩ rfl dX12_dual_67 (fun u67 H locs h_67 hP _ hS => ?_)
              obtain ⟨f_67, g_67, w_67, X_67, Y_67, nh_67, rfl, h_67⟩ := h_67
              have hP : va_P D.1 j_cl (mW D o q (uV (uI (uI (uV (uI (uI u 4 f_67) 5 g_67) 6 w_67) 7 X_67) 8 Y_67) 9 nh_67)) H := hP
              have h_67 : 0 ≤ nh_67 ∧ nh_67 ≤ 1290 ∧ Ch nh_67 X_67 Y_67 ∧ (0 < w → 0 < nh_67) ∧ bd 10000 X_67 Y_67 nh_67 ∧ (∀ K : Int, bd K (f) (g) (w) → bd K X_67 Y_67 nh_67) ∧ HS (SWW (f) (g) (w)) nh_67 X_67 Y_67 := h_67
              obtain ⟨a1, a2, a3, a4, a5, a6, a7⟩ := h_67
              refine lv_aload_n SS.1 SS.2.1 dX12_dual_70 rfl (lv_at hl 0 rfl) ?_
              refine lv_iload_n SS.1 SS.2.1 dX12_dual_71 rfl (lv_at hl 2 rfl) ?_
              refine j_iconst SS dX12_dual_72 ?_
              refine j_vWi SS (As := [.int (J t2), .int (J 1)]) (rest := []) (c_X12_take l D o q (uV (uI (uI (uV (uI (uI u 4 f_67) 5 g_67) 6 w_67) 7 X_67) 8 Y_67) 9 nh_67) A (mW_D hD) t2 1 (show 0 ≤ t2 ∧ t2 ≤ 7 from (by omega)) (show (1 : Int) = 0 ∨ (1 : Int) = 1 from (by omega)) (show 0 ≤ nh_67 ∧ nh_67 ≤ 1290 from (by omega)) (show bd 10000 (X_67) (Y_67) (nh_67) from (a5))) mf_X12_take kw_1162 hG hP hP (ci := 8) (q0 := 0) rfl rfl rfl hS (fun _ h => h) rfl hl.1 ⟨⟨Nat.le_of_ble_eq_true rfl, Nat.le_of_ble_eq_true rfl⟩, Nat.le_of_ble_eq_true rfl, Nat.le_refl _, Nat.le_refl _⟩ rfl dX12_dual_73 (fun z_73 u73 H locs h_73 hP _ hS => ?_)
              obtain ⟨f0_73, f1_73, f2_73, f3_73, rfl, h_73⟩ := h_73
              have hP : va_P D.1 j_cl (mW D o q (uV (uI (uI (uV (uI (uI (uI (uI (uI (uI u 0 f0_73) 1 f1_73) 2 f2_73) 3 f3_73) 4 f_67) 5 g_67) 6 w_67) 7 X_67) 8 Y_67) 9 nh_67)) H := hP
              have h_73 : (z_73 = -3 ∧ ¬ tk_ok (1 : Int) 40 (X_67) (Y_67) (nh_67) (nh_67) ∧ f0_73 = (u.1 0) ∧ f1_73 = (u.1 1) ∧ f2_73 = (u.1 2) ∧ f3_73 = (u.1 3)) ∨ (z_73 = nh_67 ∧ tk_ok (1 : Int) 40 (X_67) (Y_67) (nh_67) (nh_67) ∧ tk_new (uV (uI (uI (uV (uI (uI u 4 f_67) 5 g_67) 6 w_67) 7 X_67) 8 Y_67) 9 nh_67) f0_73 f1_73 f2_73 f3_73 t2) := h_73
              exact W.iret SS.1 SS.2.1 hr (fun t ht hW => ⟨⟨_, (uV (uI (uI (uV (uI (uI (uI (uI (uI (uI u 0 f0_73) 1 f1_73) 2 f2_73) 3 f3_73) 4 f_67) 5 g_67) 6 w_67) 7 X_67) 8 Y_67) 9 nh_67), rfl, ⟨z_73, rfl, (⟨f0_73, f1_73, f2_73, f3_73, f_67, g_67, w_67, X_67, Y_67, nh_67, rfl, ⟨(show IM (uI (uI (uI (uI (uV (uI (uI (uV (uI (uI u 4 f_67) 5 g_67) 6 w_67) 7 X_67) 8 Y_67) 9 nh_67) 0 f0_73) 1 f1_73) 2 f2_73) 3 f3_73) from IM_tk (u := (uV (uI (uI (uV (uI (uI u 4 f_67) 5 g_67) 6 w_67) 7 X_67) 8 Y_67) 9 nh_67)) p0 ⟨by omega, by omega⟩ (Or.inr rfl) a1 (fun q => by omega) a3 h_73), Or.inr ⟨by omega, by omega, Or.inr ⟨href, mkM_tk (v0 := u) (v := (uV (uI (uI (uV (uI (uI u 4 f_67) 5 g_67) 6 w_67) 7 X_67) 8 Y_67) 9 nh_67)) p0.1 rfl rfl rfl ⟨by omega, by omega⟩ a1 (Or.inr rfl) (fun q => by omega) a7 (by rw [show i = mN u s by omega] at i34_3; exact i34_3) h_73⟩⟩⟩⟩)⟩, by show va_P D.1 j_cl (mW D o q (uV (uI (uI (uV (uI (uI (uI (uI (uI (uI u 0 f0_73) 1 f1_73) 2 f2_73) 3 f3_73) 4 f_67) 5 g_67) 6 w_67) 7 X_67) 8 Y_67) 9 nh_67)) t.heap; rw [ht]; exact hP⟩, hS.F ht⟩) hS.2.2 dX12_dual_76 hlk
            · skip
              refine lv_aload_n SS.1 SS.2.1 dX12_dual_44 rfl (lv_at hl 0 rfl) ?_
              refine lv_aload_n SS.1 SS.2.1 dX12_dual_45 rfl (lv_at hl 0 rfl) ?_
              refine lv_iload_n SS.1 SS.2.1 dX12_dual_46 rfl (lv_at hl 1 rfl) ?_
              refine lv_iload_n SS.1 SS.2.1 dX12_dual_47 rfl (lv_at hl 3 rfl) ?_
              refine j_vRi SS (As := [.int (J s), .int (J i)]) (rest := [.ref o]) (c_X12_normalX2 l D o q (uV (uI (uI u 4 f) 5 g) 6 w) s i (show 0 ≤ s ∧ s ≤ 7 from (by omega)) (show Sh u s from (hSh)) (show 0 ≤ i ∧ i < mN u s from (by omega)) (show 2 ≤ mN u s from (by omega))) mf_X12_normalX kw_1364 hG hP hP (ci := 8) (q0 := 0) rfl rfl rfl rfl hl.1 ⟨⟨Nat.le_of_ble_eq_true rfl, Nat.le_of_ble_eq_true rfl⟩, Nat.le_of_ble_eq_true rfl, Nat.le_refl _, Nat.le_refl _⟩ rfl dX12_dual_48 (fun z_48 h_48 => ?_)
              have h_48 : z_48 = mNX u s i ∧ -80 ≤ z_48 ∧ z_48 ≤ 80 := h_48
              refine lv_aload_n SS.1 SS.2.1 dX12_dual_51 rfl (lv_at hl 0 rfl) ?_
              refine lv_iload_n SS.1 SS.2.1 dX12_dual_52 rfl (lv_at hl 1 rfl) ?_
              refine lv_iload_n SS.1 SS.2.1 dX12_dual_53 rfl (lv_at hl 3 rfl) ?_
              refine j_vRi SS (As := [.int (J s), .int (J i)]) (rest := [.int (J z_48), .ref o]) (c_X12_normalY2 l D o q (uV (uI (uI u 4 f) 5 g) 6 w) s i (show 0 ≤ s ∧ s ≤ 7 from (by omega)) (show Sh u s from (hSh)) (show 0 ≤ i ∧ i < mN u s from (by omega)) (show 2 ≤ mN u s from (by omega))) mf_X12_normalY kw_1368 hG hP hP (ci := 8) (q0 := 0) rfl rfl rfl rfl hl.1 ⟨⟨Nat.le_of_ble_eq_true rfl, Nat.le_of_ble_eq_true rfl⟩, Nat.le_of_ble_eq_true rfl, Nat.le_refl _, Nat.le_refl _⟩ rfl dX12_dual_54 (fun z_54 h_54 => ?_)
              have h_54 : z_54 = mNY u s i ∧ -80 ≤ z_54 ∧ z_54 ≤ 80 := h_54
              refine j_vWv SS (As := [.int (J z_48), .int (J z_54)]) (rest := []) (c_X12_put l D o q (uV (uI (uI u 4 f) 5 g) 6 w) A (mW_D hD) z_48 z_54 (show 0 ≤ w ∧ w < 640 from (by omega))) mf_X12_put kw_1185 hG hP hP (ci := 8) (q0 := 0) rfl rfl rfl hS (fun _ h => h) rfl hl.1 ⟨⟨Nat.le_of_ble_eq_true rfl, Nat.le_of_ble_eq_true rfl⟩, Nat.le_of_ble_eq_true rfl, Nat.le_refl _, Nat.le_refl _⟩ rfl dX12_dual_57 (fun u57 H locs h_57 hP _ hS => ?_)
              obtain ⟨f_57, g_57, w_57, rfl, h_57⟩ := h_57
              have hP : va_P D.1 j_cl (mW D o q (uV (uI (uI u 4 f_57) 5 g_57) 6 w_57)) H := hP
              have h_57 : f_57 = upI (f) (w).toNat z_48 ∧ g_57 = upI (g) (w).toNat z_54 ∧ w_57 = w + 1 := h_57
              have k1 := h_57.2.2
              refine lv_iinc (v := J (i + 1)) (lv' := [(3, .int (J (i + 1))), (0, .ref o), (1, .int (J s)), (2, .int (J t2))]) SS.1 SS.2.1 dX12_dual_60 hl (k := 3) rfl (J_add _ _) (by decide) rfl (fun ls hl => ?_)
              refine lv_goto (tgt := 34) SS.1 SS.2.1 dX12_dual_63 (by decide) ?_
              exact ih_34 (i + 1) f_57 g_57 w_57 _ _ hP hS ls (lv_sub hl [1, 2, 3, 0] rfl) (by omega) (by omega) (by obtain ⟨k1, k2, k3⟩ := h_57; rw [k1, k2, k3]; exact bd_put (by omega) i34_2 (by omega) (by omega)) (fun x y => by obtain ⟨k1, k2, k3⟩ := h_57; rw [k1, k2, k3, SWW_put (by omega), i34_3]; exact nm_s i34_0.1 h_48.1 h_54.1 x y) (by omega)
        exact L_34 ((mN u s - (0 : Int)).toNat + 1) 0 (u.1 4) (u.1 5) 0 _ _ hP hS ls (lv_sub hl [1, 2, 3, 0] rfl) (by omega) (by omega) (fun a ha => by omega) (fun x y => ⟨fun q => absurd q (SWW_0 (by omega)), fun ⟨a, q1, _⟩ => by omega⟩) (Nat.lt_succ_self _)
      · skip
        refine j_bipush SS dX12_dual_24 (by decide +kernel) ?_
        exact W.iret SS.1 SS.2.1 hr (fun t ht hW => ⟨⟨_, (uV (uI (uI (uV (uI (uI (uI (uI (uI (uI u 0 (u.1 0)) 1 (u.1 1)) 2 (u.1 2)) 3 (u.1 3)) 4 (u.1 4)) 5 (u.1 5)) 6 (u.2.2 6)) 7 (u.1 7)) 8 (u.1 8)) 9 (u.2.2 9)), rfl, ⟨(-2), rfl, (⟨(u.1 0), (u.1 1), (u.1 2), (u.1 3), (u.1 4), (u.1 5), (u.2.2 6), (u.1 7), (u.1 8), (u.2.2 9), rfl, ⟨p0, Or.inr ⟨by omega, by omega, Or.inl ⟨by rcases h_18 with q | q; omega; exact q.2, rfl, rfl, rfl, rfl⟩⟩⟩⟩)⟩, by show va_P D.1 j_cl (mW D o q (uV (uI (uI (uV (uI (uI (uI (uI (uI (uI u 0 (u.1 0)) 1 (u.1 1)) 2 (u.1 2)) 3 (u.1 3)) 4 (u.1 4)) 5 (u.1 5)) 6 (u.2.2 6)) 7 (u.1 7)) 8 (u.1 8)) 9 (u.2.2 9))) t.heap; rw [ht]; exact hP⟩, hS.F ht⟩) hS.2.2 dX12_dual_26 hlk
    · skip
      refine j_iconst SS dX12_dual_14 ?_
      exact W.iret SS.1 SS.2.1 hr (fun t ht hW => ⟨⟨_, (uV (uI (uI (uV (uI (uI (uI (uI (uI (uI u 0 (u.1 0)) 1 (u.1 1)) 2 (u.1 2)) 3 (u.1 3)) 4 (u.1 4)) 5 (u.1 5)) 6 (u.2.2 6)) 7 (u.1 7)) 8 (u.1 8)) 9 (u.2.2 9)), rfl, ⟨(-1), rfl, (⟨(u.1 0), (u.1 1), (u.1 2), (u.1 3), (u.1 4), (u.1 5), (u.2.2 6), (u.1 7), (u.1 8), (u.2.2 9), rfl, ⟨p0, Or.inl ⟨by omega, rfl, rfl, rfl, rfl⟩⟩⟩)⟩, by show va_P D.1 j_cl (mW D o q (uV (uI (uI (uV (uI (uI (uI (uI (uI (uI u 0 (u.1 0)) 1 (u.1 1)) 2 (u.1 2)) 3 (u.1 3)) 4 (u.1 4)) 5 (u.1 5)) 6 (u.2.2 6)) 7 (u.1 7)) 8 (u.1 8)) 9 (u.2.2 9))) t.heap; rw [ht]; exact hP⟩, hS.F ht⟩) hS.2.2 dX12_dual_15 hlk


set_option maxHeartbeats 4000000 in
set_option maxRecDepth 100000 in
theorem c_X7_rightmost2 (l : Launch) (D : JD) (q : Nat → Nat) (u : CS) (r : Nat) (hr : r ≤ 8) (K : Int) (p0 : 0 ≤ K ∧ K ≤ 80) (p1 : RB K u r) : Met l yX7_rightmost (jw yX7_rightmost cX7_rightmost 3 (some .int)) (jr 1 21) (jP [.ref (q (9 + 5 * r))] D (fun H => va_P D.1 j_cl (cW D q u) H)) (jRi (fun z => (-K ≤ z ∧ z ≤ K) ∧ (cAR u r → 0 ≤ z))) 0 0 (fun _ => False) := by
  refine Met.ofW (cc := cX7_rightmost) (maxL := 3) (ret := (some .int)) (by decide) rfl ?_
  intro pr en st mi args below meth co s₁ B hml hv
  obtain ⟨rfl, hG, hP⟩ := hv
  have hr := B.returns
  have hlk := B.notSynchronized
  have SS : jS pr mi co cX7_rightmost 3 st _ RX7 := ⟨B.exec, B.bytes, hml, findClass_of_methodNamed B.named, fun w hw => atoms_spec (ws := (jw yX7_rightmost cX7_rightmost 3 (some .int))) B.pre w (List.mem_cons_of_mem _ hw)⟩
  have hl := lv_entry ([.ref (q (9 + 5 * r))]) (n := 3) (Nat.le_of_ble_eq_true rfl)
  rw [lg_entry_eq]
  generalize (lg_sl ([.ref (q (9 + 5 * r))]) ++ List.replicate (3 - (lg_sl ([.ref (q (9 + 5 * r))])).length) Slot.unset).toArray = ls at hl ⊢
  have hl : lv_has ls 3 [(0, .ref (q (9 + 5 * r)))] := hl
  have hc := p1.1
  have hrl := rl_b r
  refine lv_aload_n SS.1 SS.2.1 dX7_rightmost_0 rfl (lv_at hl 0 rfl) ?_
  refine j_iconst SS dX7_rightmost_1 ?_
  refine j_uRi SS (As := [.int (J 0)]) (rest := []) (c_X8_x l D q u r (by omega) 0 (show -2147483648 ≤ (0 : Int) ∧ (0 : Int) ≤ 2147483647 from (by omega))) mu_7_x kw_501 hG hP hP (ci := 7) (q0 := (9 + 5 * r)) rfl (cw_ring (by omega)) rfl rfl hl.1 ⟨⟨Nat.le_of_ble_eq_true rfl, Nat.le_of_ble_eq_true rfl⟩, Nat.le_of_ble_eq_true rfl, Nat.le_refl _, Nat.le_refl _⟩ rfl dX7_rightmost_2 (fun z_2 h_2 => ?_)
  have h_2 : z_2 = rx u r (0 : Int) ∧ ∀ K : Int, 0 ≤ K → RB K u r → -K ≤ z_2 ∧ z_2 ≤ K := h_2
  have hb_2 := h_2.2 K (by omega) (p1)
  refine lv_istore_n (lv' := [(1, .int (J z_2)), (0, .ref (q (9 + 5 * r)))]) SS.1 SS.2.1 dX7_rightmost_5 rfl hl (by decide) rfl (fun ls hl => ?_)
  refine j_iconst SS dX7_rightmost_6 ?_
  refine lv_istore_n (lv' := [(2, .int (J 1)), (1, .int (J z_2)), (0, .ref (q (9 + 5 * r)))]) SS.1 SS.2.1 dX7_rightmost_7 rfl hl (by decide) rfl (fun ls hl => ?_)
  have L_8 : ∀ (nn : Nat) (t : Int) (i : Int) (ls : Array Slot) (hl : lv_has ls 3 [(0, .ref (q (9 + 5 * r))), (1, .int (J t)), (2, .int (J i))]) (i8_0 : 1 ≤ i ∧ (i ≤ u.1.2.2.1 r ∨ i = 1)) (i8_1 : -K ≤ t ∧ t ≤ K) (i8_2 : ∀ a : Int, 0 ≤ a → a < i → rx u r a ≤ t), (u.1.2.2.1 r - i).toNat < nn → W pr l en (headSpec (jw yX7_rightmost cX7_rightmost 3 (some .int)) (jr 1 21)).room st mi (([.ref (q (9 + 5 * r))] : List Value).toArray) below meth co st.heap [] 0 0 (MQ below (jRi (fun z => (-K ≤ z ∧ z ≤ K) ∧ (cAR u r → 0 ≤ z))) (([.ref (q (9 + 5 * r))] : List Value).toArray) st 0 0 (fun _ => False)) (F0 mi 8 ls []) := by
    intro nn
    induction nn with
    | zero => intros; omega
    | succ nn ih_8 =>
      intro t i ls hl i8_0 i8_1 i8_2 hm
      refine lv_iload_n SS.1 SS.2.1 dX7_rightmost_8 rfl (lv_at hl 2 rfl) ?_
      refine lv_aload_n SS.1 SS.2.1 dX7_rightmost_9 rfl (lv_at hl 0 rfl) ?_
      refine j_getS SS hG hP (9 + 5 * r) (v := .int (J (u.1.2.2.1 r))) (C := RX7) (T := TX7) (N := 3) (cw_ring (by omega)) rfl inX7 2 (by decide) (ref := "GridPolygons$Ring") kw_131 kw_132 rfl dX7_rightmost_10 ?_
      refine j_icmp_ge SS (tgt := 32) (x := i) (y := (u.1.2.2.1 r)) dX7_rightmost_13 (by decide) (by omega) (by omega) (fun c_13 => ?_) (fun c_13 => ?_)
      · skip
        refine lv_iload_n SS.1 SS.2.1 dX7_rightmost_32 rfl (lv_at hl 1 rfl) ?_
        exact W.iret SS.1 SS.2.1 hr (fun t0 ht hW => ⟨_, rfl, ⟨t, rfl, (⟨by omega, fun q => by obtain ⟨b, b1, b2, b3⟩ := q.2.2.2.1; have := i8_2 b b1 (by omega); omega⟩)⟩, ht⟩) (fun _ h => nomatch h) dX7_rightmost_33 hlk
      · skip
        refine lv_iload_n SS.1 SS.2.1 dX7_rightmost_16 rfl (lv_at hl 1 rfl) ?_
        refine lv_aload_n SS.1 SS.2.1 dX7_rightmost_17 rfl (lv_at hl 0 rfl) ?_
        refine lv_iload_n SS.1 SS.2.1 dX7_rightmost_18 rfl (lv_at hl 2 rfl) ?_
        refine j_uRi SS (As := [.int (J i)]) (rest := [.int (J t)]) (c_X8_x l D q u r (by omega) i (show -2147483648 ≤ i ∧ i ≤ 2147483647 from (by omega))) mu_7_x kw_501 hG hP hP (ci := 7) (q0 := (9 + 5 * r)) rfl (cw_ring (by omega)) rfl rfl hl.1 ⟨⟨Nat.le_of_ble_eq_true rfl, Nat.le_of_ble_eq_true rfl⟩, Nat.le_of_ble_eq_true rfl, Nat.le_refl _, Nat.le_refl _⟩ rfl dX7_rightmost_19 (fun z_19 h_19 => ?_)
        have h_19 : z_19 = rx u r i ∧ ∀ K : Int, 0 ≤ K → RB K u r → -K ≤ z_19 ∧ z_19 ≤ K := h_19
        have hb_19 := h_19.2 K (by omega) (p1)
        refine j_sRi SS (As := [.int (J t), .int (J z_19)]) (rest := []) (c_J9_max_7cf53 l D  t z_19 (show -2147483648 ≤ t ∧ t ≤ 2147483647 from (by omega)) (show -2147483648 ≤ z_19 ∧ z_19 ≤ 2147483647 from (by omega))) mf_J9_max_7cf53 kw_593 hG trivial rfl hl.1 ⟨⟨Nat.le_of_ble_eq_true rfl, Nat.le_of_ble_eq_true rfl⟩, Nat.le_of_ble_eq_true rfl, Nat.le_refl _, Nat.le_refl _⟩ rfl dX7_rightmost_22 (fun z_22 h_22 => ?_)
        have h_22 : (z_22 = t ∨ z_22 = z_19) ∧ t ≤ z_22 ∧ z_19 ≤ z_22 := h_22
        refine lv_istore_n (lv' := [(1, .int (J z_22)), (0, .ref (q (9 + 5 * r))), (2, .int (J i))]) SS.1 SS.2.1 dX7_rightmost_25 rfl hl (by decide) rfl (fun ls hl => ?_)
        refine lv_iinc (v := J (i + 1)) (lv' := [(2, .int (J (i + 1))), (1, .int (J z_22)), (0, .ref (q (9 + 5 * r)))]) SS.1 SS.2.1 dX7_rightmost_26 hl (k := 2) rfl (J_add _ _) (by decide) rfl (fun ls hl => ?_)
        refine lv_goto (tgt := 8) SS.1 SS.2.1 dX7_rightmost_29 (by decide) ?_
        exact ih_8 z_22 (i + 1) ls (lv_sub hl [2, 1, 0] rfl) (by omega) (by omega) (fun a h1 h2 => by by_cases e : a = i; (rw [e, ← h_19.1]; omega); have := i8_2 a h1 (by omega); omega) (by omega)
  exact L_8 ((u.1.2.2.1 r - (1 : Int)).toNat + 1) z_2 1 ls (lv_sub hl [2, 1, 0] rfl) (by omega) (by omega) (fun a h1 h2 => by rw [show a = 0 by omega, ← h_2.1]; omega) (Nat.lt_succ_self _)

set_option maxHeartbeats 4000000 in
set_option maxRecDepth 100000 in
theorem c_X7_bottom2 (l : Launch) (D : JD) (q : Nat → Nat) (u : CS) (r : Nat) (hr : r ≤ 8) (K : Int) (p0 : 0 ≤ K ∧ K ≤ 80) (p1 : RB K u r) : Met l yX7_bottom (jw yX7_bottom cX7_bottom 3 (some .int)) (jr 1 21) (jP [.ref (q (9 + 5 * r))] D (fun H => va_P D.1 j_cl (cW D q u) H)) (jRi (fun z => (-K ≤ z ∧ z ≤ K) ∧ (cAR u r → z ≤ 0))) 0 0 (fun _ => False) := by
  refine Met.ofW (cc := cX7_bottom) (maxL := 3) (ret := (some .int)) (by decide) rfl ?_
  intro pr en st mi args below meth co s₁ B hml hv
  obtain ⟨rfl, hG, hP⟩ := hv
  have hr := B.returns
  have hlk := B.notSynchronized
  have SS : jS pr mi co cX7_bottom 3 st _ RX7 := ⟨B.exec, B.bytes, hml, findClass_of_methodNamed B.named, fun w hw => atoms_spec (ws := (jw yX7_bottom cX7_bottom 3 (some .int))) B.pre w (List.mem_cons_of_mem _ hw)⟩
  have hl := lv_entry ([.ref (q (9 + 5 * r))]) (n := 3) (Nat.le_of_ble_eq_true rfl)
  rw [lg_entry_eq]
  generalize (lg_sl ([.ref (q (9 + 5 * r))]) ++ List.replicate (3 - (lg_sl ([.ref (q (9 + 5 * r))])).length) Slot.unset).toArray = ls at hl ⊢
  have hl : lv_has ls 3 [(0, .ref (q (9 + 5 * r)))] := hl
  have hc := p1.1
  have hrl := rl_b r
  refine lv_aload_n SS.1 SS.2.1 dX7_bottom_0 rfl (lv_at hl 0 rfl) ?_
  refine j_iconst SS dX7_bottom_1 ?_
  refine j_uRi SS (As := [.int (J 0)]) (rest := []) (c_X8_y l D q u r (by omega) 0 (show -2147483648 ≤ (0 : Int) ∧ (0 : Int) ≤ 2147483647 from (by omega))) mu_7_y kw_503 hG hP hP (ci := 7) (q0 := (9 + 5 * r)) rfl (cw_ring (by omega)) rfl rfl hl.1 ⟨⟨Nat.le_of_ble_eq_true rfl, Nat.le_of_ble_eq_true rfl⟩, Nat.le_of_ble_eq_true rfl, Nat.le_refl _, Nat.le_refl _⟩ rfl dX7_bottom_2 (fun z_2 h_2 => ?_)
  have h_2 : z_2 = ry9 u r (0 : Int) ∧ ∀ K : Int, 0 ≤ K → RB K u r → -K ≤ z_2 ∧ z_2 ≤ K := h_2
  have hb_2 := h_2.2 K (by omega) (p1)
  refine lv_istore_n (lv' := [(1, .int (J z_2)), (0, .ref (q (9 + 5 * r)))]) SS.1 SS.2.1 dX7_bottom_5 rfl hl (by decide) rfl (fun ls hl => ?_)
  refine j_iconst SS dX7_bottom_6 ?_
  refine lv_istore_n (lv' := [(2, .int (J 1)), (1, .int (J z_2)), (0, .ref (q (9 + 5 * r)))]) SS.1 SS.2.1 dX7_bottom_7 rfl hl (by decide) rfl (fun ls hl => ?_)
  have L_8 : ∀ (nn : Nat) (t : Int) (i : Int) (ls : Array Slot) (hl : lv_has ls 3 [(0, .ref (q (9 + 5 * r))), (1, .int (J t)), (2, .int (J i))]) (i8_0 : 1 ≤ i ∧ (i ≤ u.1.2.2.1 r ∨ i = 1)) (i8_1 : -K ≤ t ∧ t ≤ K) (i8_2 : ∀ a : Int, 0 ≤ a → a < i → ry9 u r a ≥ t), (u.1.2.2.1 r - i).toNat < nn → W pr l en (headSpec (jw yX7_bottom cX7_bottom 3 (some .int)) (jr 1 21)).room st mi (([.ref (q (9 + 5 * r))] : List Value).toArray) below meth co st.heap [] 0 0 (MQ below (jRi (fun z => (-K ≤ z ∧ z ≤ K) ∧ (cAR u r → z ≤ 0))) (([.ref (q (9 + 5 * r))] : List Value).toArray) st 0 0 (fun _ => False)) (F0 mi 8 ls []) := by
    intro nn
    induction nn with
    | zero => intros; omega
    | succ nn ih_8 =>
      intro t i ls hl i8_0 i8_1 i8_2 hm
      refine lv_iload_n SS.1 SS.2.1 dX7_bottom_8 rfl (lv_at hl 2 rfl) ?_
      refine lv_aload_n SS.1 SS.2.1 dX7_bottom_9 rfl (lv_at hl 0 rfl) ?_
      refine j_getS SS hG hP (9 + 5 * r) (v := .int (J (u.1.2.2.1 r))) (C := RX7) (T := TX7) (N := 3) (cw_ring (by omega)) rfl inX7 2 (by decide) (ref := "GridPolygons$Ring") kw_131 kw_132 rfl dX7_bottom_10 ?_
      refine j_icmp_ge SS (tgt := 32) (x := i) (y := (u.1.2.2.1 r)) dX7_bottom_13 (by decide) (by omega) (by omega) (fun c_13 => ?_) (fun c_13 => ?_)
      · skip
        refine lv_iload_n SS.1 SS.2.1 dX7_bottom_32 rfl (lv_at hl 1 rfl) ?_
        exact W.iret SS.1 SS.2.1 hr (fun t0 ht hW => ⟨_, rfl, ⟨t, rfl, (⟨by omega, fun q => by obtain ⟨b, b1, b2, b3⟩ := q.2.2.2.2.1; have := i8_2 b b1 (by omega); omega⟩)⟩, ht⟩) (fun _ h => nomatch h) dX7_bottom_33 hlk
      · skip
        refine lv_iload_n SS.1 SS.2.1 dX7_bottom_16 rfl (lv_at hl 1 rfl) ?_
        refine lv_aload_n SS.1 SS.2.1 dX7_bottom_17 rfl (lv_at hl 0 rfl) ?_
        refine lv_iload_n SS.1 SS.2.1 dX7_bottom_18 rfl (lv_at hl 2 rfl) ?_
        refine j_uRi SS (As := [.int (J i)]) (rest := [.int (J t)]) (c_X8_y l D q u r (by omega) i (show -2147483648 ≤ i ∧ i ≤ 2147483647 from (by omega))) mu_7_y kw_503 hG hP hP (ci := 7) (q0 := (9 + 5 * r)) rfl (cw_ring (by omega)) rfl rfl hl.1 ⟨⟨Nat.le_of_ble_eq_true rfl, Nat.le_of_ble_eq_true rfl⟩, Nat.le_of_ble_eq_true rfl, Nat.le_refl _, Nat.le_refl _⟩ rfl dX7_bottom_19 (fun z_19 h_19 => ?_)
        have h_19 : z_19 = ry9 u r i ∧ ∀ K : Int, 0 ≤ K → RB K u r → -K ≤ z_19 ∧ z_19 ≤ K := h_19
        have hb_19 := h_19.2 K (by omega) (p1)
        refine j_sRi SS (As := [.int (J t), .int (J z_19)]) (rest := []) (c_J9_min_7cf53 l D  t z_19 (show -2147483648 ≤ t ∧ t ≤ 2147483647 from (by omega)) (show -2147483648 ≤ z_19 ∧ z_19 ≤ 2147483647 from (by omega))) mf_J9_min_7cf53 kw_602 hG trivial rfl hl.1 ⟨⟨Nat.le_of_ble_eq_true rfl, Nat.le_of_ble_eq_true rfl⟩, Nat.le_of_ble_eq_true rfl, Nat.le_refl _, Nat.le_refl _⟩ rfl dX7_bottom_22 (fun z_22 h_22 => ?_)
        have h_22 : (z_22 = t ∨ z_22 = z_19) ∧ z_22 ≤ t ∧ z_22 ≤ z_19 := h_22
        refine lv_istore_n (lv' := [(1, .int (J z_22)), (0, .ref (q (9 + 5 * r))), (2, .int (J i))]) SS.1 SS.2.1 dX7_bottom_25 rfl hl (by decide) rfl (fun ls hl => ?_)
        refine lv_iinc (v := J (i + 1)) (lv' := [(2, .int (J (i + 1))), (1, .int (J z_22)), (0, .ref (q (9 + 5 * r)))]) SS.1 SS.2.1 dX7_bottom_26 hl (k := 2) rfl (J_add _ _) (by decide) rfl (fun ls hl => ?_)
        refine lv_goto (tgt := 8) SS.1 SS.2.1 dX7_bottom_29 (by decide) ?_
        exact ih_8 z_22 (i + 1) ls (lv_sub hl [2, 1, 0] rfl) (by omega) (by omega) (fun a h1 h2 => by by_cases e : a = i; (rw [e, ← h_19.1]; omega); have := i8_2 a h1 (by omega); omega) (by omega)
  exact L_8 ((u.1.2.2.1 r - (1 : Int)).toNat + 1) z_2 1 ls (lv_sub hl [2, 1, 0] rfl) (by omega) (by omega) (fun a h1 h2 => by rw [show a = 0 by omega, ← h_2.1]; omega) (Nat.lt_succ_self _)

set_option maxHeartbeats 4000000 in
set_option maxRecDepth 100000 in
theorem c_X7_top2 (l : Launch) (D : JD) (q : Nat → Nat) (u : CS) (r : Nat) (hr : r ≤ 8) (K : Int) (p0 : 0 ≤ K ∧ K ≤ 80) (p1 : RB K u r) : Met l yX7_top (jw yX7_top cX7_top 3 (some .int)) (jr 1 21) (jP [.ref (q (9 + 5 * r))] D (fun H => va_P D.1 j_cl (cW D q u) H)) (jRi (fun z => (-K ≤ z ∧ z ≤ K) ∧ (cAR u r → 0 ≤ z))) 0 0 (fun _ => False) := by
  refine Met.ofW (cc := cX7_top) (maxL := 3) (ret := (some .int)) (by decide) rfl ?_
  intro pr en st mi args below meth co s₁ B hml hv
  obtain ⟨rfl, hG, hP⟩ := hv
  have hr := B.returns
  have hlk := B.notSynchronized
  have SS : jS pr mi co cX7_top 3 st _ RX7 := ⟨B.exec, B.bytes, hml, findClass_of_methodNamed B.named, fun w hw => atoms_spec (ws := (jw yX7_top cX7_top 3 (some .int))) B.pre w (List.mem_cons_of_mem _ hw)⟩
  have hl := lv_entry ([.ref (q (9 + 5 * r))]) (n := 3) (Nat.le_of_ble_eq_true rfl)
  rw [lg_entry_eq]
  generalize (lg_sl ([.ref (q (9 + 5 * r))]) ++ List.replicate (3 - (lg_sl ([.ref (q (9 + 5 * r))])).length) Slot.unset).toArray = ls at hl ⊢
  have hl : lv_has ls 3 [(0, .ref (q (9 + 5 * r)))] := hl
  have hc := p1.1
  have hrl := rl_b r
  refine lv_aload_n SS.1 SS.2.1 dX7_top_0 rfl (lv_at hl 0 rfl) ?_
  refine j_iconst SS dX7_top_1 ?_
  refine j_uRi SS (As := [.int (J 0)]) (rest := []) (c_X8_y l D q u r (by omega) 0 (show -2147483648 ≤ (0 : Int) ∧ (0 : Int) ≤ 2147483647 from (by omega))) mu_7_y kw_503 hG hP hP (ci := 7) (q0 := (9 + 5 * r)) rfl (cw_ring (by omega)) rfl rfl hl.1 ⟨⟨Nat.le_of_ble_eq_true rfl, Nat.le_of_ble_eq_true rfl⟩, Nat.le_of_ble_eq_true rfl, Nat.le_refl _, Nat.le_refl _⟩ rfl dX7_top_2 (fun z_2 h_2 => ?_)
  have h_2 : z_2 = ry9 u r (0 : Int) ∧ ∀ K : Int, 0 ≤ K → RB K u r → -K ≤ z_2 ∧ z_2 ≤ K := h_2
  have hb_2 := h_2.2 K (by omega) (p1)
  refine lv_istore_n (lv' := [(1, .int (J z_2)), (0, .ref (q (9 + 5 * r)))]) SS.1 SS.2.1 dX7_top_5 rfl hl (by decide) rfl (fun ls hl => ?_)
  refine j_iconst SS dX7_top_6 ?_
  refine lv_istore_n (lv' := [(2, .int (J 1)), (1, .int (J z_2)), (0, .ref (q (9 + 5 * r)))]) SS.1 SS.2.1 dX7_top_7 rfl hl (by decide) rfl (fun ls hl => ?_)
  have L_8 : ∀ (nn : Nat) (t : Int) (i : Int) (ls : Array Slot) (hl : lv_has ls 3 [(0, .ref (q (9 + 5 * r))), (1, .int (J t)), (2, .int (J i))]) (i8_0 : 1 ≤ i ∧ (i ≤ u.1.2.2.1 r ∨ i = 1)) (i8_1 : -K ≤ t ∧ t ≤ K) (i8_2 : ∀ a : Int, 0 ≤ a → a < i → ry9 u r a ≤ t), (u.1.2.2.1 r - i).toNat < nn → W pr l en (headSpec (jw yX7_top cX7_top 3 (some .int)) (jr 1 21)).room st mi (([.ref (q (9 + 5 * r))] : List Value).toArray) below meth co st.heap [] 0 0 (MQ below (jRi (fun z => (-K ≤ z ∧ z ≤ K) ∧ (cAR u r → 0 ≤ z))) (([.ref (q (9 + 5 * r))] : List Value).toArray) st 0 0 (fun _ => False)) (F0 mi 8 ls []) := by
    intro nn
    induction nn with
    | zero => intros; omega
    | succ nn ih_8 =>
      intro t i ls hl i8_0 i8_1 i8_2 hm
      refine lv_iload_n SS.1 SS.2.1 dX7_top_8 rfl (lv_at hl 2 rfl) ?_
      refine lv_aload_n SS.1 SS.2.1 dX7_top_9 rfl (lv_at hl 0 rfl) ?_
      refine j_getS SS hG hP (9 + 5 * r) (v := .int (J (u.1.2.2.1 r))) (C := RX7) (T := TX7) (N := 3) (cw_ring (by omega)) rfl inX7 2 (by decide) (ref := "GridPolygons$Ring") kw_131 kw_132 rfl dX7_top_10 ?_
      refine j_icmp_ge SS (tgt := 32) (x := i) (y := (u.1.2.2.1 r)) dX7_top_13 (by decide) (by omega) (by omega) (fun c_13 => ?_) (fun c_13 => ?_)
      · skip
        refine lv_iload_n SS.1 SS.2.1 dX7_top_32 rfl (lv_at hl 1 rfl) ?_
        exact W.iret SS.1 SS.2.1 hr (fun t0 ht hW => ⟨_, rfl, ⟨t, rfl, (⟨by omega, fun q => by obtain ⟨b, b1, b2, b3⟩ := q.2.2.2.2.2; have := i8_2 b b1 (by omega); omega⟩)⟩, ht⟩) (fun _ h => nomatch h) dX7_top_33 hlk
      · skip
        refine lv_iload_n SS.1 SS.2.1 dX7_top_16 rfl (lv_at hl 1 rfl) ?_
        refine lv_aload_n SS.1 SS.2.1 dX7_top_17 rfl (lv_at hl 0 rfl) ?_
        refine lv_iload_n SS.1 SS.2.1 dX7_top_18 rfl (lv_at hl 2 rfl) ?_
        refine j_uRi SS (As := [.int (J i)]) (rest := [.int (J t)]) (c_X8_y l D q u r (by omega) i (show -2147483648 ≤ i ∧ i ≤ 2147483647 from (by omega))) mu_7_y kw_503 hG hP hP (ci := 7) (q0 := (9 + 5 * r)) rfl (cw_ring (by omega)) rfl rfl hl.1 ⟨⟨Nat.le_of_ble_eq_true rfl, Nat.le_of_ble_eq_true rfl⟩, Nat.le_of_ble_eq_true rfl, Nat.le_refl _, Nat.le_refl _⟩ rfl dX7_top_19 (fun z_19 h_19 => ?_)
        have h_19 : z_19 = ry9 u r i ∧ ∀ K : Int, 0 ≤ K → RB K u r → -K ≤ z_19 ∧ z_19 ≤ K := h_19
        have hb_19 := h_19.2 K (by omega) (p1)
        refine j_sRi SS (As := [.int (J t), .int (J z_19)]) (rest := []) (c_J9_max_7cf53 l D  t z_19 (show -2147483648 ≤ t ∧ t ≤ 2147483647 from (by omega)) (show -2147483648 ≤ z_19 ∧ z_19 ≤ 2147483647 from (by omega))) mf_J9_max_7cf53 kw_593 hG trivial rfl hl.1 ⟨⟨Nat.le_of_ble_eq_true rfl, Nat.le_of_ble_eq_true rfl⟩, Nat.le_of_ble_eq_true rfl, Nat.le_refl _, Nat.le_refl _⟩ rfl dX7_top_22 (fun z_22 h_22 => ?_)
        have h_22 : (z_22 = t ∨ z_22 = z_19) ∧ t ≤ z_22 ∧ z_19 ≤ z_22 := h_22
        refine lv_istore_n (lv' := [(1, .int (J z_22)), (0, .ref (q (9 + 5 * r))), (2, .int (J i))]) SS.1 SS.2.1 dX7_top_25 rfl hl (by decide) rfl (fun ls hl => ?_)
        refine lv_iinc (v := J (i + 1)) (lv' := [(2, .int (J (i + 1))), (1, .int (J z_22)), (0, .ref (q (9 + 5 * r)))]) SS.1 SS.2.1 dX7_top_26 hl (k := 2) rfl (J_add _ _) (by decide) rfl (fun ls hl => ?_)
        refine lv_goto (tgt := 8) SS.1 SS.2.1 dX7_top_29 (by decide) ?_
        exact ih_8 z_22 (i + 1) ls (lv_sub hl [2, 1, 0] rfl) (by omega) (by omega) (fun a h1 h2 => by by_cases e : a = i; (rw [e, ← h_19.1]; omega); have := i8_2 a h1 (by omega); omega) (by omega)
  exact L_8 ((u.1.2.2.1 r - (1 : Int)).toNat + 1) z_2 1 ls (lv_sub hl [2, 1, 0] rfl) (by omega) (by omega) (fun a h1 h2 => by rw [show a = 0 by omega, ← h_2.1]; omega) (Nat.lt_succ_self _)

set_option maxHeartbeats 4000000 in
set_option maxRecDepth 100000 in
theorem c_X7_lowestAt2 (l : Launch) (D : JD) (q : Nat → Nat) (u : CS) (r : Nat) (hr : r ≤ 8) (K : Int) (x : Int) (p0 : 0 ≤ K ∧ K ≤ 80) (p1 : RB K u r) (p2 : -200 ≤ x ∧ x ≤ 200) : Met l yX7_lowestAt (jw yX7_lowestAt cX7_lowestAt 5 (some .int)) (jr 2 44) (jP [.ref (q (9 + 5 * r)), .int (J x)] D (fun H => va_P D.1 j_cl (cW D q u) H)) (jRi (fun z => (-K ≤ z ∧ z ≤ 60000) ∧ (x = 0 → cAR u r → z ≤ 0))) 0 0 (fun _ => False) := by
  refine Met.ofW (cc := cX7_lowestAt) (maxL := 5) (ret := (some .int)) (by decide) rfl ?_
  intro pr en st mi args below meth co s₁ B hml hv
  obtain ⟨rfl, hG, hP⟩ := hv
  have hr := B.returns
  have hlk := B.notSynchronized
  have SS : jS pr mi co cX7_lowestAt 5 st _ RX7 := ⟨B.exec, B.bytes, hml, findClass_of_methodNamed B.named, fun w hw => atoms_spec (ws := (jw yX7_lowestAt cX7_lowestAt 5 (some .int))) B.pre w (List.mem_cons_of_mem _ hw)⟩
  have hl := lv_entry ([.ref (q (9 + 5 * r)), .int (J x)]) (n := 5) (Nat.le_of_ble_eq_true rfl)
  rw [lg_entry_eq]
  generalize (lg_sl ([.ref (q (9 + 5 * r)), .int (J x)]) ++ List.replicate (5 - (lg_sl ([.ref (q (9 + 5 * r)), .int (J x)])).length) Slot.unset).toArray = ls at hl ⊢
  have hl : lv_has ls 5 [(0, .ref (q (9 + 5 * r))), (1, .int (J x))] := hl
  have hc := p1.1
  have hrl := rl_b r
  refine lv_aload_n SS.1 SS.2.1 dX7_lowestAt_0 rfl (lv_at hl 0 rfl) ?_
  refine j_vRi SS (As := []) (rest := []) (c_X7_bottom2 l D q u r (by omega) K  (show 0 ≤ K ∧ K ≤ 80 from (p0)) (show RB K u r from (p1))) mf_X7_bottom kw_598 hG hP hP (ci := 7) (q0 := (9 + 5 * r)) rfl (cw_ring (by omega)) rfl rfl hl.1 ⟨⟨Nat.le_of_ble_eq_true rfl, Nat.le_of_ble_eq_true rfl⟩, Nat.le_of_ble_eq_true rfl, Nat.le_refl _, Nat.le_refl _⟩ rfl dX7_lowestAt_1 (fun z_1 h_1 => ?_)
  have h_1 : (-K ≤ z_1 ∧ z_1 ≤ K) ∧ (cAR u r → z_1 ≤ 0) := h_1
  refine lv_istore_n (lv' := [(2, .int (J z_1)), (0, .ref (q (9 + 5 * r))), (1, .int (J x))]) SS.1 SS.2.1 dX7_lowestAt_4 rfl hl (by decide) rfl (fun ls hl => ?_)
  refine j_iconst SS dX7_lowestAt_5 ?_
  refine lv_istore_n (lv' := [(3, .int (J 0)), (2, .int (J z_1)), (0, .ref (q (9 + 5 * r))), (1, .int (J x))]) SS.1 SS.2.1 dX7_lowestAt_6 rfl hl (by decide) rfl (fun ls hl => ?_)
  have L_7 : ∀ (nn : Nat) (t : Int) (i : Int) (ls : Array Slot) (hl : lv_has ls 5 [(0, .ref (q (9 + 5 * r))), (1, .int (J x)), (2, .int (J t)), (3, .int (J i))]) (i7_0 : 0 ≤ i ∧ i ≤ u.1.2.2.1 r) (i7_1 : -K ≤ t ∧ t ≤ 60000) (i7_2 : x = 0 → cAR u r → t ≤ 0), (u.1.2.2.1 r - i).toNat < nn → W pr l en (headSpec (jw yX7_lowestAt cX7_lowestAt 5 (some .int)) (jr 2 44)).room st mi (([.ref (q (9 + 5 * r)), .int (J x)] : List Value).toArray) below meth co st.heap [] 0 0 (MQ below (jRi (fun z => (-K ≤ z ∧ z ≤ 60000) ∧ (x = 0 → cAR u r → z ≤ 0))) (([.ref (q (9 + 5 * r)), .int (J x)] : List Value).toArray) st 0 0 (fun _ => False)) (F0 mi 7 ls []) := by
    intro nn
    induction nn with
    | zero => intros; omega
    | succ nn ih_7 =>
      intro t i ls hl i7_0 i7_1 i7_2 hm
      refine lv_iload_n SS.1 SS.2.1 dX7_lowestAt_7 rfl (lv_at hl 3 rfl) ?_
      refine lv_aload_n SS.1 SS.2.1 dX7_lowestAt_8 rfl (lv_at hl 0 rfl) ?_
      refine j_getS SS hG hP (9 + 5 * r) (v := .int (J (u.1.2.2.1 r))) (C := RX7) (T := TX7) (N := 3) (cw_ring (by omega)) rfl inX7 2 (by decide) (ref := "GridPolygons$Ring") kw_131 kw_132 rfl dX7_lowestAt_9 ?_
      refine j_icmp_ge SS (tgt := 62) (x := i) (y := (u.1.2.2.1 r)) dX7_lowestAt_12 (by decide) (by omega) (by omega) (fun c_12 => ?_) (fun c_12 => ?_)
      · skip
        refine lv_iload_n SS.1 SS.2.1 dX7_lowestAt_62 rfl (lv_at hl 2 rfl) ?_
        exact W.iret SS.1 SS.2.1 hr (fun t0 ht hW => ⟨_, rfl, ⟨t, rfl, (⟨i7_1, i7_2⟩)⟩, ht⟩) (fun _ h => nomatch h) dX7_lowestAt_63 hlk
      · skip
        refine lv_aload_n SS.1 SS.2.1 dX7_lowestAt_15 rfl (lv_at hl 0 rfl) ?_
        refine lv_iload_n SS.1 SS.2.1 dX7_lowestAt_16 rfl (lv_at hl 3 rfl) ?_
        refine j_vRi SS (As := [.int (J i)]) (rest := []) (c_X7_sideX l D q u r (by omega) K i (show 0 ≤ K ∧ K ≤ 80 from (p0)) (show RB K u r from (p1)) (show -1000 ≤ i ∧ i ≤ 1000 from (by omega))) mf_X7_sideX kw_529 hG hP hP (ci := 7) (q0 := (9 + 5 * r)) rfl (cw_ring (by omega)) rfl rfl hl.1 ⟨⟨Nat.le_of_ble_eq_true rfl, Nat.le_of_ble_eq_true rfl⟩, Nat.le_of_ble_eq_true rfl, Nat.le_refl _, Nat.le_refl _⟩ rfl dX7_lowestAt_17 (fun z_17 h_17 => ?_)
        have h_17 : z_17 = dX u r i ∧ -2 * K ≤ z_17 ∧ z_17 ≤ 2 * K := h_17
        refine lv_istore (lv' := [(4, .int (J z_17)), (0, .ref (q (9 + 5 * r))), (1, .int (J x)), (2, .int (J t)), (3, .int (J i))]) SS.1 SS.2.1 dX7_lowestAt_20 hl (by decide) rfl (fun ls hl => ?_)
        refine lv_iload SS.1 SS.2.1 dX7_lowestAt_22 (lv_at hl 0 rfl) ?_
        refine j_if_le SS (tgt := 56) (x := z_17) dX7_lowestAt_24 (by decide) (by omega) (fun c_24 => ?_) (fun c_24 => ?_)
        · skip
          refine lv_iinc (v := J (i + 1)) (lv' := [(3, .int (J (i + 1))), (4, .int (J z_17)), (0, .ref (q (9 + 5 * r))), (1, .int (J x)), (2, .int (J t))]) SS.1 SS.2.1 dX7_lowestAt_56 hl (k := 4) rfl (J_add _ _) (by decide) rfl (fun ls hl => ?_)
          refine lv_goto (tgt := 7) SS.1 SS.2.1 dX7_lowestAt_59 (by decide) ?_
          exact ih_7 t (i + 1) ls (lv_sub hl [2, 3, 4, 0] rfl) (by omega) (by omega) (fun e q => by have w := i7_2 e q; first | exact w | (have v := q.2.1 i i7_0.1 (by omega); rw [← h_42.1, ← h_35.1, ← h_17.1, ← h_30.1] at v; have v2 := low_0 (by omega) v; rw [← e, ← h_48] at v2; omega)) (by omega)
        · skip
          refine lv_iload_n SS.1 SS.2.1 dX7_lowestAt_27 rfl (lv_at hl 3 rfl) ?_
          refine lv_aload_n SS.1 SS.2.1 dX7_lowestAt_28 rfl (lv_at hl 1 rfl) ?_
          refine lv_iload_n SS.1 SS.2.1 dX7_lowestAt_29 rfl (lv_at hl 4 rfl) ?_
          refine j_uRi SS (As := [.int (J i)]) (rest := [.int (J t)]) (c_X8_y l D q u r (by omega) i (show -2147483648 ≤ i ∧ i ≤ 2147483647 from (by omega))) mu_7_y kw_503 hG hP hP (ci := 7) (q0 := (9 + 5 * r)) rfl (cw_ring (by omega)) rfl rfl hl.1 ⟨⟨Nat.le_of_ble_eq_true rfl, Nat.le_of_ble_eq_true rfl⟩, Nat.le_of_ble_eq_true rfl, Nat.le_refl _, Nat.le_refl _⟩ rfl dX7_lowestAt_30 (fun z_30 h_30 => ?_)
          have h_30 : z_30 = ry9 u r i ∧ ∀ K : Int, 0 ≤ K → RB K u r → -K ≤ z_30 ∧ z_30 ≤ K := h_30
          have hb_30 := h_30.2 K (by omega) (p1)
          refine lv_aload_n SS.1 SS.2.1 dX7_lowestAt_33 rfl (lv_at hl 1 rfl) ?_
          refine lv_iload_n SS.1 SS.2.1 dX7_lowestAt_34 rfl (lv_at hl 4 rfl) ?_
          refine j_uRi SS (As := [.int (J i)]) (rest := [.int (J z_30), .int (J t)]) (c_X8_x l D q u r (by omega) i (show -2147483648 ≤ i ∧ i ≤ 2147483647 from (by omega))) mu_7_x kw_501 hG hP hP (ci := 7) (q0 := (9 + 5 * r)) rfl (cw_ring (by omega)) rfl rfl hl.1 ⟨⟨Nat.le_of_ble_eq_true rfl, Nat.le_of_ble_eq_true rfl⟩, Nat.le_of_ble_eq_true rfl, Nat.le_refl _, Nat.le_refl _⟩ rfl dX7_lowestAt_35 (fun z_35 h_35 => ?_)
          have h_35 : z_35 = rx u r i ∧ ∀ K : Int, 0 ≤ K → RB K u r → -K ≤ z_35 ∧ z_35 ≤ K := h_35
          have hb_35 := h_35.2 K (by omega) (p1)
          refine lv_iload_n SS.1 SS.2.1 dX7_lowestAt_38 rfl (lv_at hl 2 rfl) ?_
          refine j_isub SS (x := z_35) (y := x) dX7_lowestAt_39 ?_
          refine lv_aload_n SS.1 SS.2.1 dX7_lowestAt_40 rfl (lv_at hl 1 rfl) ?_
          refine lv_iload_n SS.1 SS.2.1 dX7_lowestAt_41 rfl (lv_at hl 4 rfl) ?_
          refine j_vRi SS (As := [.int (J i)]) (rest := [.int (J (z_35 - x)), .int (J z_30), .int (J t)]) (c_X7_sideY l D q u r (by omega) K i (show 0 ≤ K ∧ K ≤ 80 from (p0)) (show RB K u r from (p1)) (show -1000 ≤ i ∧ i ≤ 1000 from (by omega))) mf_X7_sideY kw_521 hG hP hP (ci := 7) (q0 := (9 + 5 * r)) rfl (cw_ring (by omega)) rfl rfl hl.1 ⟨⟨Nat.le_of_ble_eq_true rfl, Nat.le_of_ble_eq_true rfl⟩, Nat.le_of_ble_eq_true rfl, Nat.le_refl _, Nat.le_refl _⟩ rfl dX7_lowestAt_42 (fun z_42 h_42 => ?_)
          have h_42 : z_42 = dY u r i ∧ -2 * K ≤ z_42 ∧ z_42 ≤ 2 * K := h_42
          refine j_imul SS (x := (z_35 - x)) (y := z_42) dX7_lowestAt_45 ?_
          have m0 := mulb (A := 280) (B := 160) (a := z_35 - x) (b := z_42) (by omega) (by omega)
          refine lv_iload SS.1 SS.2.1 dX7_lowestAt_46 (lv_at hl 0 rfl) ?_
          refine j_sRi SS (As := [.int (J ((z_35 - x) * z_42)), .int (J z_17)]) (rest := [.int (J z_30), .int (J t)]) (c_J9_floorDiv_7cf53 l D  ((z_35 - x) * z_42) z_17 (show -2147483648 < ((z_35 - x) * z_42) ∧ ((z_35 - x) * z_42) ≤ 2147483647 from (by omega)) (show 0 < z_17 ∧ z_17 ≤ 2147483647 from (by omega))) mf_J9_floorDiv_7cf53 kw_603 hG trivial rfl hl.1 ⟨⟨Nat.le_of_ble_eq_true rfl, Nat.le_of_ble_eq_true rfl⟩, Nat.le_of_ble_eq_true rfl, Nat.le_refl _, Nat.le_refl _⟩ rfl dX7_lowestAt_48 (fun z_48 h_48 => ?_)
          have h_48 : z_48 = ((z_35 - x) * z_42) / z_17 := h_48
          have m1 := mulb (A := 280) (B := 160) (a := z_35 - x) (b := z_42) (by omega) (by omega)
          have fb := fd_b (a := (z_35 - x) * z_42) (b := z_17) (K := 44800) (by omega) (by omega)
          rw [← h_48] at fb
          refine j_isub SS (x := z_30) (y := z_48) dX7_lowestAt_51 ?_
          refine j_sRi SS (As := [.int (J t), .int (J (z_30 - z_48))]) (rest := []) (c_J9_max_7cf53 l D  t (z_30 - z_48) (show -2147483648 ≤ t ∧ t ≤ 2147483647 from (by omega)) (show -2147483648 ≤ (z_30 - z_48) ∧ (z_30 - z_48) ≤ 2147483647 from (by omega))) mf_J9_max_7cf53 kw_593 hG trivial rfl hl.1 ⟨⟨Nat.le_of_ble_eq_true rfl, Nat.le_of_ble_eq_true rfl⟩, Nat.le_of_ble_eq_true rfl, Nat.le_refl _, Nat.le_refl _⟩ rfl dX7_lowestAt_52 (fun z_52 h_52 => ?_)
          have h_52 : (z_52 = t ∨ z_52 = (z_30 - z_48)) ∧ t ≤ z_52 ∧ (z_30 - z_48) ≤ z_52 := h_52
          refine lv_istore_n (lv' := [(2, .int (J z_52)), (4, .int (J z_17)), (0, .ref (q (9 + 5 * r))), (1, .int (J x)), (3, .int (J i))]) SS.1 SS.2.1 dX7_lowestAt_55 rfl hl (by decide) rfl (fun ls hl => ?_)
          refine lv_iinc (v := J (i + 1)) (lv' := [(3, .int (J (i + 1))), (2, .int (J z_52)), (4, .int (J z_17)), (0, .ref (q (9 + 5 * r))), (1, .int (J x))]) SS.1 SS.2.1 dX7_lowestAt_56 hl (k := 4) rfl (J_add _ _) (by decide) rfl (fun ls hl => ?_)
          refine lv_goto (tgt := 7) SS.1 SS.2.1 dX7_lowestAt_59 (by decide) ?_
          exact ih_7 z_52 (i + 1) ls (lv_sub hl [3, 4, 1, 0] rfl) (by omega) (by omega) (fun e q => by have w := i7_2 e q; first | exact w | (have v := q.2.1 i i7_0.1 (by omega); rw [← h_42.1, ← h_35.1, ← h_17.1, ← h_30.1] at v; have v2 := low_0 (by omega) v; rw [← e, ← h_48] at v2; omega)) (by omega)
  exact L_7 ((u.1.2.2.1 r - (0 : Int)).toNat + 1) z_1 0 ls (lv_sub hl [2, 3, 1, 0] rfl) (by omega) (by omega) (fun _ q => h_1.2 q) (Nat.lt_succ_self _)

set_option maxHeartbeats 4000000 in
set_option maxRecDepth 100000 in
theorem c_X7_highestAt2 (l : Launch) (D : JD) (q : Nat → Nat) (u : CS) (r : Nat) (hr : r ≤ 8) (K : Int) (x : Int) (p0 : 0 ≤ K ∧ K ≤ 80) (p1 : RB K u r) (p2 : -200 ≤ x ∧ x ≤ 200) : Met l yX7_highestAt (jw yX7_highestAt cX7_highestAt 5 (some .int)) (jr 2 44) (jP [.ref (q (9 + 5 * r)), .int (J x)] D (fun H => va_P D.1 j_cl (cW D q u) H)) (jRi (fun z => (-60000 ≤ z ∧ z ≤ K) ∧ (x = 0 → cAR u r → 0 ≤ z))) 0 0 (fun _ => False) := by
  refine Met.ofW (cc := cX7_highestAt) (maxL := 5) (ret := (some .int)) (by decide) rfl ?_
  intro pr en st mi args below meth co s₁ B hml hv
  obtain ⟨rfl, hG, hP⟩ := hv
  have hr := B.returns
  have hlk := B.notSynchronized
  have SS : jS pr mi co cX7_highestAt 5 st _ RX7 := ⟨B.exec, B.bytes, hml, findClass_of_methodNamed B.named, fun w hw => atoms_spec (ws := (jw yX7_highestAt cX7_highestAt 5 (some .int))) B.pre w (List.mem_cons_of_mem _ hw)⟩
  have hl := lv_entry ([.ref (q (9 + 5 * r)), .int (J x)]) (n := 5) (Nat.le_of_ble_eq_true rfl)
  rw [lg_entry_eq]
  generalize (lg_sl ([.ref (q (9 + 5 * r)), .int (J x)]) ++ List.replicate (5 - (lg_sl ([.ref (q (9 + 5 * r)), .int (J x)])).length) Slot.unset).toArray = ls at hl ⊢
  have hl : lv_has ls 5 [(0, .ref (q (9 + 5 * r))), (1, .int (J x))] := hl
  have hc := p1.1
  have hrl := rl_b r
  refine lv_aload_n SS.1 SS.2.1 dX7_highestAt_0 rfl (lv_at hl 0 rfl) ?_
  refine j_vRi SS (As := []) (rest := []) (c_X7_top2 l D q u r (by omega) K  (show 0 ≤ K ∧ K ≤ 80 from (p0)) (show RB K u r from (p1))) mf_X7_top kw_610 hG hP hP (ci := 7) (q0 := (9 + 5 * r)) rfl (cw_ring (by omega)) rfl rfl hl.1 ⟨⟨Nat.le_of_ble_eq_true rfl, Nat.le_of_ble_eq_true rfl⟩, Nat.le_of_ble_eq_true rfl, Nat.le_refl _, Nat.le_refl _⟩ rfl dX7_highestAt_1 (fun z_1 h_1 => ?_)
  have h_1 : (-K ≤ z_1 ∧ z_1 ≤ K) ∧ (cAR u r → 0 ≤ z_1) := h_1
  refine lv_istore_n (lv' := [(2, .int (J z_1)), (0, .ref (q (9 + 5 * r))), (1, .int (J x))]) SS.1 SS.2.1 dX7_highestAt_4 rfl hl (by decide) rfl (fun ls hl => ?_)
  refine j_iconst SS dX7_highestAt_5 ?_
  refine lv_istore_n (lv' := [(3, .int (J 0)), (2, .int (J z_1)), (0, .ref (q (9 + 5 * r))), (1, .int (J x))]) SS.1 SS.2.1 dX7_highestAt_6 rfl hl (by decide) rfl (fun ls hl => ?_)
  have L_7 : ∀ (nn : Nat) (t : Int) (i : Int) (ls : Array Slot) (hl : lv_has ls 5 [(0, .ref (q (9 + 5 * r))), (1, .int (J x)), (2, .int (J t)), (3, .int (J i))]) (i7_0 : 0 ≤ i ∧ i ≤ u.1.2.2.1 r) (i7_1 : -60000 ≤ t ∧ t ≤ K) (i7_2 : x = 0 → cAR u r → 0 ≤ t), (u.1.2.2.1 r - i).toNat < nn → W pr l en (headSpec (jw yX7_highestAt cX7_highestAt 5 (some .int)) (jr 2 44)).room st mi (([.ref (q (9 + 5 * r)), .int (J x)] : List Value).toArray) below meth co st.heap [] 0 0 (MQ below (jRi (fun z => (-60000 ≤ z ∧ z ≤ K) ∧ (x = 0 → cAR u r → 0 ≤ z))) (([.ref (q (9 + 5 * r)), .int (J x)] : List Value).toArray) st 0 0 (fun _ => False)) (F0 mi 7 ls []) := by
    intro nn
    induction nn with
    | zero => intros; omega
    | succ nn ih_7 =>
      intro t i ls hl i7_0 i7_1 i7_2 hm
      refine lv_iload_n SS.1 SS.2.1 dX7_highestAt_7 rfl (lv_at hl 3 rfl) ?_
      refine lv_aload_n SS.1 SS.2.1 dX7_highestAt_8 rfl (lv_at hl 0 rfl) ?_
      refine j_getS SS hG hP (9 + 5 * r) (v := .int (J (u.1.2.2.1 r))) (C := RX7) (T := TX7) (N := 3) (cw_ring (by omega)) rfl inX7 2 (by decide) (ref := "GridPolygons$Ring") kw_131 kw_132 rfl dX7_highestAt_9 ?_
      refine j_icmp_ge SS (tgt := 63) (x := i) (y := (u.1.2.2.1 r)) dX7_highestAt_12 (by decide) (by omega) (by omega) (fun c_12 => ?_) (fun c_12 => ?_)
      · skip
        refine lv_iload_n SS.1 SS.2.1 dX7_highestAt_63 rfl (lv_at hl 2 rfl) ?_
        exact W.iret SS.1 SS.2.1 hr (fun t0 ht hW => ⟨_, rfl, ⟨t, rfl, (⟨i7_1, i7_2⟩)⟩, ht⟩) (fun _ h => nomatch h) dX7_highestAt_64 hlk
      · skip
        refine lv_aload_n SS.1 SS.2.1 dX7_highestAt_15 rfl (lv_at hl 0 rfl) ?_
        refine lv_iload_n SS.1 SS.2.1 dX7_highestAt_16 rfl (lv_at hl 3 rfl) ?_
        refine j_vRi SS (As := [.int (J i)]) (rest := []) (c_X7_sideX l D q u r (by omega) K i (show 0 ≤ K ∧ K ≤ 80 from (p0)) (show RB K u r from (p1)) (show -1000 ≤ i ∧ i ≤ 1000 from (by omega))) mf_X7_sideX kw_529 hG hP hP (ci := 7) (q0 := (9 + 5 * r)) rfl (cw_ring (by omega)) rfl rfl hl.1 ⟨⟨Nat.le_of_ble_eq_true rfl, Nat.le_of_ble_eq_true rfl⟩, Nat.le_of_ble_eq_true rfl, Nat.le_refl _, Nat.le_refl _⟩ rfl dX7_highestAt_17 (fun z_17 h_17 => ?_)
        have h_17 : z_17 = dX u r i ∧ -2 * K ≤ z_17 ∧ z_17 ≤ 2 * K := h_17
        refine j_ineg SS dX7_highestAt_20 ?_
        refine lv_istore (lv' := [(4, .int (J (-z_17))), (0, .ref (q (9 + 5 * r))), (1, .int (J x)), (2, .int (J t)), (3, .int (J i))]) SS.1 SS.2.1 dX7_highestAt_21 hl (by decide) rfl (fun ls hl => ?_)
        refine lv_iload SS.1 SS.2.1 dX7_highestAt_23 (lv_at hl 0 rfl) ?_
        refine j_if_le SS (tgt := 57) (x := (-z_17)) dX7_highestAt_25 (by decide) (by omega) (fun c_25 => ?_) (fun c_25 => ?_)
        · skip
          refine lv_iinc (v := J (i + 1)) (lv' := [(3, .int (J (i + 1))), (4, .int (J (-z_17))), (0, .ref (q (9 + 5 * r))), (1, .int (J x)), (2, .int (J t))]) SS.1 SS.2.1 dX7_highestAt_57 hl (k := 4) rfl (J_add _ _) (by decide) rfl (fun ls hl => ?_)
          refine lv_goto (tgt := 7) SS.1 SS.2.1 dX7_highestAt_60 (by decide) ?_
          exact ih_7 t (i + 1) ls (lv_sub hl [2, 3, 4, 0] rfl) (by omega) (by omega) (fun e q => by have w := i7_2 e q; first | exact w | (have v := q.2.1 i i7_0.1 (by omega); rw [← h_43.1, ← h_36.1, ← h_17.1, ← h_31.1] at v; have v2 := high_0 (by omega) v; rw [← e, ← h_49] at v2; omega)) (by omega)
        · skip
          refine lv_iload_n SS.1 SS.2.1 dX7_highestAt_28 rfl (lv_at hl 3 rfl) ?_
          refine lv_aload_n SS.1 SS.2.1 dX7_highestAt_29 rfl (lv_at hl 1 rfl) ?_
          refine lv_iload_n SS.1 SS.2.1 dX7_highestAt_30 rfl (lv_at hl 4 rfl) ?_
          refine j_uRi SS (As := [.int (J i)]) (rest := [.int (J t)]) (c_X8_y l D q u r (by omega) i (show -2147483648 ≤ i ∧ i ≤ 2147483647 from (by omega))) mu_7_y kw_503 hG hP hP (ci := 7) (q0 := (9 + 5 * r)) rfl (cw_ring (by omega)) rfl rfl hl.1 ⟨⟨Nat.le_of_ble_eq_true rfl, Nat.le_of_ble_eq_true rfl⟩, Nat.le_of_ble_eq_true rfl, Nat.le_refl _, Nat.le_refl _⟩ rfl dX7_highestAt_31 (fun z_31 h_31 => ?_)
          have h_31 : z_31 = ry9 u r i ∧ ∀ K : Int, 0 ≤ K → RB K u r → -K ≤ z_31 ∧ z_31 ≤ K := h_31
          have hb_31 := h_31.2 K (by omega) (p1)
          refine lv_aload_n SS.1 SS.2.1 dX7_highestAt_34 rfl (lv_at hl 1 rfl) ?_
          refine lv_iload_n SS.1 SS.2.1 dX7_highestAt_35 rfl (lv_at hl 4 rfl) ?_
          refine j_uRi SS (As := [.int (J i)]) (rest := [.int (J z_31), .int (J t)]) (c_X8_x l D q u r (by omega) i (show -2147483648 ≤ i ∧ i ≤ 2147483647 from (by omega))) mu_7_x kw_501 hG hP hP (ci := 7) (q0 := (9 + 5 * r)) rfl (cw_ring (by omega)) rfl rfl hl.1 ⟨⟨Nat.le_of_ble_eq_true rfl, Nat.le_of_ble_eq_true rfl⟩, Nat.le_of_ble_eq_true rfl, Nat.le_refl _, Nat.le_refl _⟩ rfl dX7_highestAt_36 (fun z_36 h_36 => ?_)
          have h_36 : z_36 = rx u r i ∧ ∀ K : Int, 0 ≤ K → RB K u r → -K ≤ z_36 ∧ z_36 ≤ K := h_36
          have hb_36 := h_36.2 K (by omega) (p1)
          refine lv_iload_n SS.1 SS.2.1 dX7_highestAt_39 rfl (lv_at hl 2 rfl) ?_
          refine j_isub SS (x := z_36) (y := x) dX7_highestAt_40 ?_
          refine lv_aload_n SS.1 SS.2.1 dX7_highestAt_41 rfl (lv_at hl 1 rfl) ?_
          refine lv_iload_n SS.1 SS.2.1 dX7_highestAt_42 rfl (lv_at hl 4 rfl) ?_
          refine j_vRi SS (As := [.int (J i)]) (rest := [.int (J (z_36 - x)), .int (J z_31), .int (J t)]) (c_X7_sideY l D q u r (by omega) K i (show 0 ≤ K ∧ K ≤ 80 from (p0)) (show RB K u r from (p1)) (show -1000 ≤ i ∧ i ≤ 1000 from (by omega))) mf_X7_sideY kw_521 hG hP hP (ci := 7) (q0 := (9 + 5 * r)) rfl (cw_ring (by omega)) rfl rfl hl.1 ⟨⟨Nat.le_of_ble_eq_true rfl, Nat.le_of_ble_eq_true rfl⟩, Nat.le_of_ble_eq_true rfl, Nat.le_refl _, Nat.le_refl _⟩ rfl dX7_highestAt_43 (fun z_43 h_43 => ?_)
          have h_43 : z_43 = dY u r i ∧ -2 * K ≤ z_43 ∧ z_43 ≤ 2 * K := h_43
          refine j_imul SS (x := (z_36 - x)) (y := z_43) dX7_highestAt_46 ?_
          have m0 := mulb (A := 280) (B := 160) (a := z_36 - x) (b := z_43) (by omega) (by omega)
          refine lv_iload SS.1 SS.2.1 dX7_highestAt_47 (lv_at hl 0 rfl) ?_
          refine j_sRi SS (As := [.int (J ((z_36 - x) * z_43)), .int (J (-z_17))]) (rest := [.int (J z_31), .int (J t)]) (c_J9_floorDiv_7cf53 l D  ((z_36 - x) * z_43) (-z_17) (show -2147483648 < ((z_36 - x) * z_43) ∧ ((z_36 - x) * z_43) ≤ 2147483647 from (by omega)) (show 0 < (-z_17) ∧ (-z_17) ≤ 2147483647 from (by omega))) mf_J9_floorDiv_7cf53 kw_603 hG trivial rfl hl.1 ⟨⟨Nat.le_of_ble_eq_true rfl, Nat.le_of_ble_eq_true rfl⟩, Nat.le_of_ble_eq_true rfl, Nat.le_refl _, Nat.le_refl _⟩ rfl dX7_highestAt_49 (fun z_49 h_49 => ?_)
          have h_49 : z_49 = ((z_36 - x) * z_43) / (-z_17) := h_49
          have m1 := mulb (A := 280) (B := 160) (a := z_36 - x) (b := z_43) (by omega) (by omega)
          have fb := fd_b (a := (z_36 - x) * z_43) (b := (-z_17)) (K := 44800) (by omega) (by omega)
          rw [← h_49] at fb
          refine j_iadd SS (x := z_31) (y := z_49) dX7_highestAt_52 ?_
          refine j_sRi SS (As := [.int (J t), .int (J (z_31 + z_49))]) (rest := []) (c_J9_min_7cf53 l D  t (z_31 + z_49) (show -2147483648 ≤ t ∧ t ≤ 2147483647 from (by omega)) (show -2147483648 ≤ (z_31 + z_49) ∧ (z_31 + z_49) ≤ 2147483647 from (by omega))) mf_J9_min_7cf53 kw_602 hG trivial rfl hl.1 ⟨⟨Nat.le_of_ble_eq_true rfl, Nat.le_of_ble_eq_true rfl⟩, Nat.le_of_ble_eq_true rfl, Nat.le_refl _, Nat.le_refl _⟩ rfl dX7_highestAt_53 (fun z_53 h_53 => ?_)
          have h_53 : (z_53 = t ∨ z_53 = (z_31 + z_49)) ∧ z_53 ≤ t ∧ z_53 ≤ (z_31 + z_49) := h_53
          refine lv_istore_n (lv' := [(2, .int (J z_53)), (4, .int (J (-z_17))), (0, .ref (q (9 + 5 * r))), (1, .int (J x)), (3, .int (J i))]) SS.1 SS.2.1 dX7_highestAt_56 rfl hl (by decide) rfl (fun ls hl => ?_)
          refine lv_iinc (v := J (i + 1)) (lv' := [(3, .int (J (i + 1))), (2, .int (J z_53)), (4, .int (J (-z_17))), (0, .ref (q (9 + 5 * r))), (1, .int (J x))]) SS.1 SS.2.1 dX7_highestAt_57 hl (k := 4) rfl (J_add _ _) (by decide) rfl (fun ls hl => ?_)
          refine lv_goto (tgt := 7) SS.1 SS.2.1 dX7_highestAt_60 (by decide) ?_
          exact ih_7 z_53 (i + 1) ls (lv_sub hl [3, 4, 1, 0] rfl) (by omega) (by omega) (fun e q => by have w := i7_2 e q; first | exact w | (have v := q.2.1 i i7_0.1 (by omega); rw [← h_43.1, ← h_36.1, ← h_17.1, ← h_31.1] at v; have v2 := high_0 (by omega) v; rw [← e, ← h_49] at v2; omega)) (by omega)
  exact L_7 ((u.1.2.2.1 r - (0 : Int)).toNat + 1) z_1 0 ls (lv_sub hl [2, 3, 1, 0] rfl) (by omega) (by omega) (fun _ q => h_1.2 q) (Nat.lt_succ_self _)

set_option maxHeartbeats 4000000 in
set_option maxRecDepth 100000 in
theorem c_X7_standing2 (l : Launch) (D : JD) (q : Nat → Nat) (u : CS) (r : Nat) (hr : r ≤ 8) (K : Int) (x : Int) (y : Int) (p0 : 0 ≤ K ∧ K ≤ 80) (p1 : RB K u r) (p2 : -200 ≤ x ∧ x ≤ 200) (p3 : -200 ≤ y ∧ y ≤ 200) : Met l yX7_standing (jw yX7_standing cX7_standing 4 (some .int)) (jr 3 68) (jP [.ref (q (9 + 5 * r)), .int (J x), .int (J y)] D (fun H => va_P D.1 j_cl (cW D q u) H)) (jRi (fun z => (z = 0 ∨ z = 1 ∨ z = 2) ∧ (x = 0 → y = 0 → cAR u r → z = 2))) 0 0 (fun _ => False) := by
  refine Met.ofW (cc := cX7_standing) (maxL := 4) (ret := (some .int)) (by decide) rfl ?_
  intro pr en st mi args below meth co s₁ B hml hv
  obtain ⟨rfl, hG, hP⟩ := hv
  have hr := B.returns
  have hlk := B.notSynchronized
  have SS : jS pr mi co cX7_standing 4 st _ RX7 := ⟨B.exec, B.bytes, hml, findClass_of_methodNamed B.named, fun w hw => atoms_spec (ws := (jw yX7_standing cX7_standing 4 (some .int))) B.pre w (List.mem_cons_of_mem _ hw)⟩
  have hl := lv_entry ([.ref (q (9 + 5 * r)), .int (J x), .int (J y)]) (n := 4) (Nat.le_of_ble_eq_true rfl)
  rw [lg_entry_eq]
  generalize (lg_sl ([.ref (q (9 + 5 * r)), .int (J x), .int (J y)]) ++ List.replicate (4 - (lg_sl ([.ref (q (9 + 5 * r)), .int (J x), .int (J y)])).length) Slot.unset).toArray = ls at hl ⊢
  have hl : lv_has ls 4 [(0, .ref (q (9 + 5 * r))), (1, .int (J x)), (2, .int (J y))] := hl
  have hc := p1.1
  have hrl := rl_b r
  refine lv_aload_n SS.1 SS.2.1 dX7_standing_0 rfl (lv_at hl 0 rfl) ?_
  refine j_getS SS hG hP (9 + 5 * r) (v := .int (J (u.1.2.2.1 r))) (C := RX7) (T := TX7) (N := 3) (cw_ring (by omega)) rfl inX7 2 (by decide) (ref := "GridPolygons$Ring") kw_131 kw_132 rfl dX7_standing_1 ?_
  refine j_if_eq SS (tgt := 41) (x := (u.1.2.2.1 r)) dX7_standing_4 (by decide) (by omega) (fun c_4 => ?_) (fun c_4 => ?_)
  · skip
    refine j_iconst SS dX7_standing_41 ?_
    exact W.iret SS.1 SS.2.1 hr (fun t0 ht hW => ⟨_, rfl, ⟨0, rfl, (⟨Or.inl rfl, fun e1 e2 q => by exfalso; have a1 := q.1; have a3 := q.2.2.1; first | omega | (rw [← h_9.1] at a3; omega) | (have a4 := h_17.2 q; omega) | (have a4 := h_26.2 e1 q; omega) | (have a4 := h_35.2 e1 q; omega)⟩)⟩, ht⟩) (fun _ h => nomatch h) dX7_standing_42 hlk
  · skip
    refine lv_iload_n SS.1 SS.2.1 dX7_standing_7 rfl (lv_at hl 1 rfl) ?_
    refine lv_aload_n SS.1 SS.2.1 dX7_standing_8 rfl (lv_at hl 0 rfl) ?_
    refine j_vRi SS (As := []) (rest := [.int (J x)]) (c_X7_leftmost l D q u r (by omega) K  (show 0 ≤ K ∧ K ≤ 80 from (p0)) (show RB K u r from (p1))) mf_X7_leftmost kw_585 hG hP hP (ci := 7) (q0 := (9 + 5 * r)) rfl (cw_ring (by omega)) rfl rfl hl.1 ⟨⟨Nat.le_of_ble_eq_true rfl, Nat.le_of_ble_eq_true rfl⟩, Nat.le_of_ble_eq_true rfl, Nat.le_refl _, Nat.le_refl _⟩ rfl dX7_standing_9 (fun z_9 h_9 => ?_)
    have h_9 : z_9 = rx u r 0 ∧ -K ≤ z_9 ∧ z_9 ≤ K := h_9
    refine j_icmp_lt SS (tgt := 41) (x := x) (y := z_9) dX7_standing_12 (by decide) (by omega) (by omega) (fun c_12 => ?_) (fun c_12 => ?_)
    · skip
      refine j_iconst SS dX7_standing_41 ?_
      exact W.iret SS.1 SS.2.1 hr (fun t0 ht hW => ⟨_, rfl, ⟨0, rfl, (⟨Or.inl rfl, fun e1 e2 q => by exfalso; have a1 := q.1; have a3 := q.2.2.1; first | omega | (rw [← h_9.1] at a3; omega) | (have a4 := h_17.2 q; omega) | (have a4 := h_26.2 e1 q; omega) | (have a4 := h_35.2 e1 q; omega)⟩)⟩, ht⟩) (fun _ h => nomatch h) dX7_standing_42 hlk
    · skip
      refine lv_iload_n SS.1 SS.2.1 dX7_standing_15 rfl (lv_at hl 1 rfl) ?_
      refine lv_aload_n SS.1 SS.2.1 dX7_standing_16 rfl (lv_at hl 0 rfl) ?_
      refine j_vRi SS (As := []) (rest := [.int (J x)]) (c_X7_rightmost2 l D q u r (by omega) K  (show 0 ≤ K ∧ K ≤ 80 from (p0)) (show RB K u r from (p1))) mf_X7_rightmost kw_589 hG hP hP (ci := 7) (q0 := (9 + 5 * r)) rfl (cw_ring (by omega)) rfl rfl hl.1 ⟨⟨Nat.le_of_ble_eq_true rfl, Nat.le_of_ble_eq_true rfl⟩, Nat.le_of_ble_eq_true rfl, Nat.le_refl _, Nat.le_refl _⟩ rfl dX7_standing_17 (fun z_17 h_17 => ?_)
      have h_17 : (-K ≤ z_17 ∧ z_17 ≤ K) ∧ (cAR u r → 0 ≤ z_17) := h_17
      refine j_icmp_gt SS (tgt := 41) (x := x) (y := z_17) dX7_standing_20 (by decide) (by omega) (by omega) (fun c_20 => ?_) (fun c_20 => ?_)
      · skip
        refine j_iconst SS dX7_standing_41 ?_
        exact W.iret SS.1 SS.2.1 hr (fun t0 ht hW => ⟨_, rfl, ⟨0, rfl, (⟨Or.inl rfl, fun e1 e2 q => by exfalso; have a1 := q.1; have a3 := q.2.2.1; first | omega | (rw [← h_9.1] at a3; omega) | (have a4 := h_17.2 q; omega) | (have a4 := h_26.2 e1 q; omega) | (have a4 := h_35.2 e1 q; omega)⟩)⟩, ht⟩) (fun _ h => nomatch h) dX7_standing_42 hlk
      · skip
        refine lv_iload_n SS.1 SS.2.1 dX7_standing_23 rfl (lv_at hl 2 rfl) ?_
        refine lv_aload_n SS.1 SS.2.1 dX7_standing_24 rfl (lv_at hl 0 rfl) ?_
        refine lv_iload_n SS.1 SS.2.1 dX7_standing_25 rfl (lv_at hl 1 rfl) ?_
        refine j_vRi SS (As := [.int (J x)]) (rest := [.int (J y)]) (c_X7_lowestAt2 l D q u r (by omega) K x (show 0 ≤ K ∧ K ≤ 80 from (p0)) (show RB K u r from (p1)) (show -200 ≤ x ∧ x ≤ 200 from (p2))) mf_X7_lowestAt kw_594 hG hP hP (ci := 7) (q0 := (9 + 5 * r)) rfl (cw_ring (by omega)) rfl rfl hl.1 ⟨⟨Nat.le_of_ble_eq_true rfl, Nat.le_of_ble_eq_true rfl⟩, Nat.le_of_ble_eq_true rfl, Nat.le_refl _, Nat.le_refl _⟩ rfl dX7_standing_26 (fun z_26 h_26 => ?_)
        have h_26 : (-K ≤ z_26 ∧ z_26 ≤ 60000) ∧ (x = 0 → cAR u r → z_26 ≤ 0) := h_26
        refine j_icmp_lt SS (tgt := 41) (x := y) (y := z_26) dX7_standing_29 (by decide) (by omega) (by omega) (fun c_29 => ?_) (fun c_29 => ?_)
        · skip
          refine j_iconst SS dX7_standing_41 ?_
          exact W.iret SS.1 SS.2.1 hr (fun t0 ht hW => ⟨_, rfl, ⟨0, rfl, (⟨Or.inl rfl, fun e1 e2 q => by exfalso; have a1 := q.1; have a3 := q.2.2.1; first | omega | (rw [← h_9.1] at a3; omega) | (have a4 := h_17.2 q; omega) | (have a4 := h_26.2 e1 q; omega) | (have a4 := h_35.2 e1 q; omega)⟩)⟩, ht⟩) (fun _ h => nomatch h) dX7_standing_42 hlk
        · skip
          refine lv_iload_n SS.1 SS.2.1 dX7_standing_32 rfl (lv_at hl 2 rfl) ?_
          refine lv_aload_n SS.1 SS.2.1 dX7_standing_33 rfl (lv_at hl 0 rfl) ?_
          refine lv_iload_n SS.1 SS.2.1 dX7_standing_34 rfl (lv_at hl 1 rfl) ?_
          refine j_vRi SS (As := [.int (J x)]) (rest := [.int (J y)]) (c_X7_highestAt2 l D q u r (by omega) K x (show 0 ≤ K ∧ K ≤ 80 from (p0)) (show RB K u r from (p1)) (show -200 ≤ x ∧ x ≤ 200 from (p2))) mf_X7_highestAt kw_606 hG hP hP (ci := 7) (q0 := (9 + 5 * r)) rfl (cw_ring (by omega)) rfl rfl hl.1 ⟨⟨Nat.le_of_ble_eq_true rfl, Nat.le_of_ble_eq_true rfl⟩, Nat.le_of_ble_eq_true rfl, Nat.le_refl _, Nat.le_refl _⟩ rfl dX7_standing_35 (fun z_35 h_35 => ?_)
          have h_35 : (-60000 ≤ z_35 ∧ z_35 ≤ K) ∧ (x = 0 → cAR u r → 0 ≤ z_35) := h_35
          refine j_icmp_le SS (tgt := 43) (x := y) (y := z_35) dX7_standing_38 (by decide) (by omega) (by omega) (fun c_38 => ?_) (fun c_38 => ?_)
          · skip
            refine j_iconst SS dX7_standing_43 ?_
            refine lv_istore_n (lv' := [(3, .int (J 0)), (0, .ref (q (9 + 5 * r))), (1, .int (J x)), (2, .int (J y))]) SS.1 SS.2.1 dX7_standing_44 rfl hl (by decide) rfl (fun ls hl => ?_)
            have L_45 : ∀ (nn : Nat) (i : Int) (ls : Array Slot) (hl : lv_has ls 4 [(0, .ref (q (9 + 5 * r))), (1, .int (J x)), (2, .int (J y)), (3, .int (J i))]) (i45_0 : 0 ≤ i ∧ i ≤ u.1.2.2.1 r), (u.1.2.2.1 r - i).toNat < nn → W pr l en (headSpec (jw yX7_standing cX7_standing 4 (some .int)) (jr 3 68)).room st mi (([.ref (q (9 + 5 * r)), .int (J x), .int (J y)] : List Value).toArray) below meth co st.heap [] 0 0 (MQ below (jRi (fun z => (z = 0 ∨ z = 1 ∨ z = 2) ∧ (x = 0 → y = 0 → cAR u r → z = 2))) (([.ref (q (9 + 5 * r)), .int (J x), .int (J y)] : List Value).toArray) st 0 0 (fun _ => False)) (F0 mi 45 ls []) := by
              intro nn
              induction nn with
              | zero => intros; omega
              | succ nn ih_45 =>
                intro i ls hl i45_0 hm
                refine lv_iload_n SS.1 SS.2.1 dX7_standing_45 rfl (lv_at hl 3 rfl) ?_
                refine lv_aload_n SS.1 SS.2.1 dX7_standing_46 rfl (lv_at hl 0 rfl) ?_
                refine j_getS SS hG hP (9 + 5 * r) (v := .int (J (u.1.2.2.1 r))) (C := RX7) (T := TX7) (N := 3) (cw_ring (by omega)) rfl inX7 2 (by decide) (ref := "GridPolygons$Ring") kw_131 kw_132 rfl dX7_standing_47 ?_
                refine j_icmp_ge SS (tgt := 90) (x := i) (y := (u.1.2.2.1 r)) dX7_standing_50 (by decide) (by omega) (by omega) (fun c_50 => ?_) (fun c_50 => ?_)
                · skip
                  refine j_iconst SS dX7_standing_90 ?_
                  exact W.iret SS.1 SS.2.1 hr (fun t0 ht hW => ⟨_, rfl, ⟨2, rfl, (⟨Or.inr (Or.inr rfl), fun _ _ _ => rfl⟩)⟩, ht⟩) (fun _ h => nomatch h) dX7_standing_91 hlk
                · skip
                  refine lv_aload_n SS.1 SS.2.1 dX7_standing_53 rfl (lv_at hl 0 rfl) ?_
                  refine lv_iload_n SS.1 SS.2.1 dX7_standing_54 rfl (lv_at hl 3 rfl) ?_
                  refine j_vRi SS (As := [.int (J i)]) (rest := []) (c_X7_sideX l D q u r (by omega) K i (show 0 ≤ K ∧ K ≤ 80 from (p0)) (show RB K u r from (p1)) (show -1000 ≤ i ∧ i ≤ 1000 from (by omega))) mf_X7_sideX kw_529 hG hP hP (ci := 7) (q0 := (9 + 5 * r)) rfl (cw_ring (by omega)) rfl rfl hl.1 ⟨⟨Nat.le_of_ble_eq_true rfl, Nat.le_of_ble_eq_true rfl⟩, Nat.le_of_ble_eq_true rfl, Nat.le_refl _, Nat.le_refl _⟩ rfl dX7_standing_55 (fun z_55 h_55 => ?_)
                  have h_55 : z_55 = dX u r i ∧ -2 * K ≤ z_55 ∧ z_55 ≤ 2 * K := h_55
                  refine lv_iload_n SS.1 SS.2.1 dX7_standing_58 rfl (lv_at hl 2 rfl) ?_
                  refine lv_aload_n SS.1 SS.2.1 dX7_standing_59 rfl (lv_at hl 0 rfl) ?_
                  refine lv_iload_n SS.1 SS.2.1 dX7_standing_60 rfl (lv_at hl 3 rfl) ?_
                  refine j_uRi SS (As := [.int (J i)]) (rest := [.int (J y), .int (J z_55)]) (c_X8_y l D q u r (by omega) i (show -2147483648 ≤ i ∧ i ≤ 2147483647 from (by omega))) mu_7_y kw_503 hG hP hP (ci := 7) (q0 := (9 + 5 * r)) rfl (cw_ring (by omega)) rfl rfl hl.1 ⟨⟨Nat.le_of_ble_eq_true rfl, Nat.le_of_ble_eq_true rfl⟩, Nat.le_of_ble_eq_true rfl, Nat.le_refl _, Nat.le_refl _⟩ rfl dX7_standing_61 (fun z_61 h_61 => ?_)
                  have h_61 : z_61 = ry9 u r i ∧ ∀ K : Int, 0 ≤ K → RB K u r → -K ≤ z_61 ∧ z_61 ≤ K := h_61
                  have hb_61 := h_61.2 K (by omega) (p1)
                  refine j_isub SS (x := y) (y := z_61) dX7_standing_64 ?_
                  refine j_imul SS (x := z_55) (y := (y - z_61)) dX7_standing_65 ?_
                  refine lv_aload_n SS.1 SS.2.1 dX7_standing_66 rfl (lv_at hl 0 rfl) ?_
                  refine lv_iload_n SS.1 SS.2.1 dX7_standing_67 rfl (lv_at hl 3 rfl) ?_
                  refine j_vRi SS (As := [.int (J i)]) (rest := [.int (J (z_55 * (y - z_61)))]) (c_X7_sideY l D q u r (by omega) K i (show 0 ≤ K ∧ K ≤ 80 from (p0)) (show RB K u r from (p1)) (show -1000 ≤ i ∧ i ≤ 1000 from (by omega))) mf_X7_sideY kw_521 hG hP hP (ci := 7) (q0 := (9 + 5 * r)) rfl (cw_ring (by omega)) rfl rfl hl.1 ⟨⟨Nat.le_of_ble_eq_true rfl, Nat.le_of_ble_eq_true rfl⟩, Nat.le_of_ble_eq_true rfl, Nat.le_refl _, Nat.le_refl _⟩ rfl dX7_standing_68 (fun z_68 h_68 => ?_)
                  have h_68 : z_68 = dY u r i ∧ -2 * K ≤ z_68 ∧ z_68 ≤ 2 * K := h_68
                  refine lv_iload_n SS.1 SS.2.1 dX7_standing_71 rfl (lv_at hl 1 rfl) ?_
                  refine lv_aload_n SS.1 SS.2.1 dX7_standing_72 rfl (lv_at hl 0 rfl) ?_
                  refine lv_iload_n SS.1 SS.2.1 dX7_standing_73 rfl (lv_at hl 3 rfl) ?_
                  refine j_uRi SS (As := [.int (J i)]) (rest := [.int (J x), .int (J z_68), .int (J (z_55 * (y - z_61)))]) (c_X8_x l D q u r (by omega) i (show -2147483648 ≤ i ∧ i ≤ 2147483647 from (by omega))) mu_7_x kw_501 hG hP hP (ci := 7) (q0 := (9 + 5 * r)) rfl (cw_ring (by omega)) rfl rfl hl.1 ⟨⟨Nat.le_of_ble_eq_true rfl, Nat.le_of_ble_eq_true rfl⟩, Nat.le_of_ble_eq_true rfl, Nat.le_refl _, Nat.le_refl _⟩ rfl dX7_standing_74 (fun z_74 h_74 => ?_)
                  have h_74 : z_74 = rx u r i ∧ ∀ K : Int, 0 ≤ K → RB K u r → -K ≤ z_74 ∧ z_74 ≤ K := h_74
                  have hb_74 := h_74.2 K (by omega) (p1)
                  refine j_isub SS (x := x) (y := z_74) dX7_standing_77 ?_
                  refine j_imul SS (x := z_68) (y := (x - z_74)) dX7_standing_78 ?_
                  have m1 := mulb (A := 160) (B := 280) (a := z_55) (b := y - z_61) (by omega) (by omega)
                  have m2 := mulb (A := 160) (B := 280) (a := z_68) (b := x - z_74) (by omega) (by omega)
                  refine j_icmp_ne SS (tgt := 84) (x := (z_55 * (y - z_61))) (y := (z_68 * (x - z_74))) dX7_standing_79 (by decide) (by omega) (by omega) (fun c_79 => ?_) (fun c_79 => ?_)
                  · skip
                    refine lv_iinc (v := J (i + 1)) (lv' := [(3, .int (J (i + 1))), (0, .ref (q (9 + 5 * r))), (1, .int (J x)), (2, .int (J y))]) SS.1 SS.2.1 dX7_standing_84 hl (k := 3) rfl (J_add _ _) (by decide) rfl (fun ls hl => ?_)
                    refine lv_goto (tgt := 45) SS.1 SS.2.1 dX7_standing_87 (by decide) ?_
                    exact ih_45 (i + 1) ls (lv_sub hl [1, 2, 3, 0] rfl) (by omega) (by omega)
                  · skip
                    refine j_iconst SS dX7_standing_82 ?_
                    exact W.iret SS.1 SS.2.1 hr (fun t0 ht hW => ⟨_, rfl, ⟨1, rfl, (⟨Or.inr (Or.inl rfl), fun e1 e2 q => by exfalso; have v := q.2.1 i i45_0.1 (by omega); rw [← h_55.1, ← h_68.1, ← h_61.1, ← h_74.1] at v; subst e1; subst e2; have c := c_79; rw [show z_55 * (0 - z_61) = -(z_55 * z_61) by grind, show z_68 * (0 - z_74) = -(z_68 * z_74) by grind] at c; omega⟩)⟩, ht⟩) (fun _ h => nomatch h) dX7_standing_83 hlk
            exact L_45 ((u.1.2.2.1 r - (0 : Int)).toNat + 1) 0 ls (lv_sub hl [1, 2, 3, 0] rfl) (by omega) (Nat.lt_succ_self _)
          · skip
            refine j_iconst SS dX7_standing_41 ?_
            exact W.iret SS.1 SS.2.1 hr (fun t0 ht hW => ⟨_, rfl, ⟨0, rfl, (⟨Or.inl rfl, fun e1 e2 q => by exfalso; have a1 := q.1; have a3 := q.2.2.1; first | omega | (rw [← h_9.1] at a3; omega) | (have a4 := h_17.2 q; omega) | (have a4 := h_26.2 e1 q; omega) | (have a4 := h_35.2 e1 q; omega)⟩)⟩, ht⟩) (fun _ h => nomatch h) dX7_standing_42 hlk

set_option maxHeartbeats 4000000 in
set_option maxRecDepth 100000 in
theorem c_X7_isRound2 (l : Launch) (D : JD) (q : Nat → Nat) (u : CS) (r : Nat) (hr : r ≤ 8) (K : Int) (p0 : 0 ≤ K ∧ K ≤ 80) (p1 : RB K u r) : Met l yX7_isRound (jw yX7_isRound cX7_isRound 1 (some .boolean)) (jr 4 91) (jP [.ref (q (9 + 5 * r))] D (fun H => va_P D.1 j_cl (cW D q u) H)) (jRi (fun z => ((z = 1 ∧ 3 ≤ u.1.2.2.1 r) ∨ z = 0) ∧ (cAR u r → z = 1))) 0 0 (fun _ => False) := by
  refine Met.ofW (cc := cX7_isRound) (maxL := 1) (ret := (some .boolean)) (by decide) rfl ?_
  intro pr en st mi args below meth co s₁ B hml hv
  obtain ⟨rfl, hG, hP⟩ := hv
  have hr := B.returns
  have hlk := B.notSynchronized
  have SS : jS pr mi co cX7_isRound 1 st _ RX7 := ⟨B.exec, B.bytes, hml, findClass_of_methodNamed B.named, fun w hw => atoms_spec (ws := (jw yX7_isRound cX7_isRound 1 (some .boolean))) B.pre w (List.mem_cons_of_mem _ hw)⟩
  have hl := lv_entry ([.ref (q (9 + 5 * r))]) (n := 1) (Nat.le_of_ble_eq_true rfl)
  rw [lg_entry_eq]
  generalize (lg_sl ([.ref (q (9 + 5 * r))]) ++ List.replicate (1 - (lg_sl ([.ref (q (9 + 5 * r))])).length) Slot.unset).toArray = ls at hl ⊢
  have hl : lv_has ls 1 [(0, .ref (q (9 + 5 * r)))] := hl
  have hc := p1.1
  have hrl := rl_b r
  refine lv_aload_n SS.1 SS.2.1 dX7_isRound_0 rfl (lv_at hl 0 rfl) ?_
  refine j_vRi SS (As := []) (rest := []) (c_X7_isPolygon l D q u r (by omega) K  (show 0 ≤ K ∧ K ≤ 80 from (p0)) (show RB K u r from (p1))) mf_X7_isPolygon kw_798 hG hP hP (ci := 7) (q0 := (9 + 5 * r)) rfl (cw_ring (by omega)) rfl rfl hl.1 ⟨⟨Nat.le_of_ble_eq_true rfl, Nat.le_of_ble_eq_true rfl⟩, Nat.le_of_ble_eq_true rfl, Nat.le_refl _, Nat.le_refl _⟩ rfl dX7_isRound_1 (fun z_1 h_1 => ?_)
  have h_1 : (z_1 = 1 ∧ 3 ≤ (u.1.2.2.1 r)) ∨ (z_1 = 0 ∧ (u.1.2.2.1 r) < 3) := h_1
  refine j_if_eq SS (tgt := 21) (x := z_1) dX7_isRound_4 (by decide) (by omega) (fun c_4 => ?_) (fun c_4 => ?_)
  · skip
    refine j_iconst SS dX7_isRound_21 ?_
    exact W.zret SS.1 SS.2.1 hr (j_nz (by decide)) (fun t0 ht hW => ⟨_, rfl, ⟨0, rfl, (by first | exact ⟨Or.inl ⟨rfl, by omega⟩, fun _ => rfl⟩ | exact ⟨Or.inr rfl, fun q => by have := q.1; omega⟩ | exact ⟨Or.inr rfl, fun q => by have := h_10.2 rfl rfl q; omega⟩)⟩, ht⟩) (fun _ h => nomatch h) dX7_isRound_22 hlk
  · skip
    refine lv_aload_n SS.1 SS.2.1 dX7_isRound_7 rfl (lv_at hl 0 rfl) ?_
    refine j_iconst SS dX7_isRound_8 ?_
    refine j_iconst SS dX7_isRound_9 ?_
    refine j_vRi SS (As := [.int (J 0), .int (J 0)]) (rest := []) (c_X7_standing2 l D q u r (by omega) K 0 0 (show 0 ≤ K ∧ K ≤ 80 from (p0)) (show RB K u r from (p1)) (show -200 ≤ (0 : Int) ∧ (0 : Int) ≤ 200 from (by omega)) (show -200 ≤ (0 : Int) ∧ (0 : Int) ≤ 200 from (by omega))) mf_X7_standing kw_799 hG hP hP (ci := 7) (q0 := (9 + 5 * r)) rfl (cw_ring (by omega)) rfl rfl hl.1 ⟨⟨Nat.le_of_ble_eq_true rfl, Nat.le_of_ble_eq_true rfl⟩, Nat.le_of_ble_eq_true rfl, Nat.le_refl _, Nat.le_refl _⟩ rfl dX7_isRound_10 (fun z_10 h_10 => ?_)
    have h_10 : (z_10 = 0 ∨ z_10 = 1 ∨ z_10 = 2) ∧ ((0 : Int) = 0 → (0 : Int) = 0 → cAR u r → z_10 = 2) := h_10
    refine j_iconst SS dX7_isRound_13 ?_
    refine j_icmp_ne SS (tgt := 21) (x := z_10) (y := 2) dX7_isRound_14 (by decide) (by omega) (by decide) (fun c_14 => ?_) (fun c_14 => ?_)
    · skip
      refine j_iconst SS dX7_isRound_21 ?_
      exact W.zret SS.1 SS.2.1 hr (j_nz (by decide)) (fun t0 ht hW => ⟨_, rfl, ⟨0, rfl, (by first | exact ⟨Or.inl ⟨rfl, by omega⟩, fun _ => rfl⟩ | exact ⟨Or.inr rfl, fun q => by have := q.1; omega⟩ | exact ⟨Or.inr rfl, fun q => by have := h_10.2 rfl rfl q; omega⟩)⟩, ht⟩) (fun _ h => nomatch h) dX7_isRound_22 hlk
    · skip
      refine j_iconst SS dX7_isRound_17 ?_
      refine lv_goto (tgt := 22) SS.1 SS.2.1 dX7_isRound_18 (by decide) ?_
      exact W.zret SS.1 SS.2.1 hr (j_nz (by decide)) (fun t0 ht hW => ⟨_, rfl, ⟨1, rfl, (by first | exact ⟨Or.inl ⟨rfl, by omega⟩, fun _ => rfl⟩ | exact ⟨Or.inr rfl, fun q => by have := q.1; omega⟩ | exact ⟨Or.inr rfl, fun q => by have := h_10.2 rfl rfl q; omega⟩)⟩, ht⟩) (fun _ h => nomatch h) dX7_isRound_22 hlk

set_option maxHeartbeats 4000000 in
set_option maxRecDepth 100000 in
theorem c_X7_normalA2 (l : Launch) (D : JD) (q : Nat → Nat) (u : CS) (r : Nat) (hr : r ≤ 8) (K : Int) (i : Int) (p0 : 0 ≤ K ∧ K ≤ 80) (p1 : RB K u r) (p2 : -1000 ≤ i ∧ i ≤ 1000) : Met l yX7_normalA (jw yX7_normalA cX7_normalA 3 (some .int)) (jr 3 66) (jP [.ref (q (9 + 5 * r)), .int (J i)] D (fun H => va_P D.1 j_cl (cW D q u) H)) (jRi (fun z => z = dNX u r i ∧ -2 * K ≤ z ∧ z ≤ 2 * K)) 0 0 (fun _ => False) := by
  refine Met.ofW (cc := cX7_normalA) (maxL := 3) (ret := (some .int)) (by decide) rfl ?_
  intro pr en st mi args below meth co s₁ B hml hv
  obtain ⟨rfl, hG, hP⟩ := hv
  have hr := B.returns
  have hlk := B.notSynchronized
  have SS : jS pr mi co cX7_normalA 3 st _ RX7 := ⟨B.exec, B.bytes, hml, findClass_of_methodNamed B.named, fun w hw => atoms_spec (ws := (jw yX7_normalA cX7_normalA 3 (some .int))) B.pre w (List.mem_cons_of_mem _ hw)⟩
  have hl := lv_entry ([.ref (q (9 + 5 * r)), .int (J i)]) (n := 3) (Nat.le_of_ble_eq_true rfl)
  rw [lg_entry_eq]
  generalize (lg_sl ([.ref (q (9 + 5 * r)), .int (J i)]) ++ List.replicate (3 - (lg_sl ([.ref (q (9 + 5 * r)), .int (J i)])).length) Slot.unset).toArray = ls at hl ⊢
  have hl : lv_has ls 3 [(0, .ref (q (9 + 5 * r))), (1, .int (J i))] := hl
  have hc := p1.1
  have hrl := rl_b r
  refine lv_aload_n SS.1 SS.2.1 dX7_normalA_0 rfl (lv_at hl 0 rfl) ?_
  refine lv_iload_n SS.1 SS.2.1 dX7_normalA_1 rfl (lv_at hl 1 rfl) ?_
  refine j_vRi SS (As := [.int (J i)]) (rest := []) (c_X7_stepsOf l D q u r (by omega) K i (show 0 ≤ K ∧ K ≤ 80 from (p0)) (show RB K u r from (p1)) (show -1000 ≤ i ∧ i ≤ 1000 from (p2))) mf_X7_stepsOf kw_537 hG hP hP (ci := 7) (q0 := (9 + 5 * r)) rfl (cw_ring (by omega)) rfl rfl hl.1 ⟨⟨Nat.le_of_ble_eq_true rfl, Nat.le_of_ble_eq_true rfl⟩, Nat.le_of_ble_eq_true rfl, Nat.le_refl _, Nat.le_refl _⟩ rfl dX7_normalA_2 (fun z_2 h_2 => ?_)
  have h_2 : z_2 = dS u r i ∧ 0 ≤ z_2 ∧ z_2 ≤ 2 * K := h_2
  refine lv_istore_n (lv' := [(2, .int (J z_2)), (0, .ref (q (9 + 5 * r))), (1, .int (J i))]) SS.1 SS.2.1 dX7_normalA_5 rfl hl (by decide) rfl (fun ls hl => ?_)
  refine lv_iload_n SS.1 SS.2.1 dX7_normalA_6 rfl (lv_at hl 0 rfl) ?_
  refine j_if_ne SS (tgt := 14) (x := z_2) dX7_normalA_7 (by decide) (by omega) (fun c_7 => ?_) (fun c_7 => ?_)
  · skip
    refine lv_aload_n SS.1 SS.2.1 dX7_normalA_14 rfl (lv_at hl 1 rfl) ?_
    refine lv_iload_n SS.1 SS.2.1 dX7_normalA_15 rfl (lv_at hl 2 rfl) ?_
    refine j_vRi SS (As := [.int (J i)]) (rest := []) (c_X7_sideY l D q u r (by omega) K i (show 0 ≤ K ∧ K ≤ 80 from (p0)) (show RB K u r from (p1)) (show -1000 ≤ i ∧ i ≤ 1000 from (p2))) mf_X7_sideY kw_521 hG hP hP (ci := 7) (q0 := (9 + 5 * r)) rfl (cw_ring (by omega)) rfl rfl hl.1 ⟨⟨Nat.le_of_ble_eq_true rfl, Nat.le_of_ble_eq_true rfl⟩, Nat.le_of_ble_eq_true rfl, Nat.le_refl _, Nat.le_refl _⟩ rfl dX7_normalA_16 (fun z_16 h_16 => ?_)
    have h_16 : z_16 = dY u r i ∧ -2 * K ≤ z_16 ∧ z_16 ≤ 2 * K := h_16
    refine lv_iload_n SS.1 SS.2.1 dX7_normalA_19 rfl (lv_at hl 0 rfl) ?_
    have td := td_b (a := z_16) (b := z_2) (K := 2 * K) (by omega)
    refine j_idiv SS (x := z_16) (y := z_2) dX7_normalA_20 (by omega) (by omega) (by omega) ?_
    exact W.iret SS.1 SS.2.1 hr (fun t0 ht hW => ⟨_, rfl, ⟨(Int.tdiv z_16 z_2), rfl, (by first | exact ⟨by rw [h_2.1, h_16.1]; rfl, by omega, by omega⟩ | exact ⟨by unfold dNX; rw [show dS u r i = 0 by omega, Int.tdiv_zero], by omega, by omega⟩)⟩, ht⟩) (fun _ h => nomatch h) dX7_normalA_21 hlk
  · skip
    refine j_iconst SS dX7_normalA_10 ?_
    refine lv_goto (tgt := 21) SS.1 SS.2.1 dX7_normalA_11 (by decide) ?_
    exact W.iret SS.1 SS.2.1 hr (fun t0 ht hW => ⟨_, rfl, ⟨0, rfl, (by first | exact ⟨by rw [h_2.1, h_16.1]; rfl, by omega, by omega⟩ | exact ⟨by unfold dNX; rw [show dS u r i = 0 by omega, Int.tdiv_zero], by omega, by omega⟩)⟩, ht⟩) (fun _ h => nomatch h) dX7_normalA_21 hlk

set_option maxHeartbeats 4000000 in
set_option maxRecDepth 100000 in
theorem c_X7_normalB2 (l : Launch) (D : JD) (q : Nat → Nat) (u : CS) (r : Nat) (hr : r ≤ 8) (K : Int) (i : Int) (p0 : 0 ≤ K ∧ K ≤ 80) (p1 : RB K u r) (p2 : -1000 ≤ i ∧ i ≤ 1000) : Met l yX7_normalB (jw yX7_normalB cX7_normalB 3 (some .int)) (jr 3 66) (jP [.ref (q (9 + 5 * r)), .int (J i)] D (fun H => va_P D.1 j_cl (cW D q u) H)) (jRi (fun z => z = dNY u r i ∧ -2 * K ≤ z ∧ z ≤ 2 * K)) 0 0 (fun _ => False) := by
  refine Met.ofW (cc := cX7_normalB) (maxL := 3) (ret := (some .int)) (by decide) rfl ?_
  intro pr en st mi args below meth co s₁ B hml hv
  obtain ⟨rfl, hG, hP⟩ := hv
  have hr := B.returns
  have hlk := B.notSynchronized
  have SS : jS pr mi co cX7_normalB 3 st _ RX7 := ⟨B.exec, B.bytes, hml, findClass_of_methodNamed B.named, fun w hw => atoms_spec (ws := (jw yX7_normalB cX7_normalB 3 (some .int))) B.pre w (List.mem_cons_of_mem _ hw)⟩
  have hl := lv_entry ([.ref (q (9 + 5 * r)), .int (J i)]) (n := 3) (Nat.le_of_ble_eq_true rfl)
  rw [lg_entry_eq]
  generalize (lg_sl ([.ref (q (9 + 5 * r)), .int (J i)]) ++ List.replicate (3 - (lg_sl ([.ref (q (9 + 5 * r)), .int (J i)])).length) Slot.unset).toArray = ls at hl ⊢
  have hl : lv_has ls 3 [(0, .ref (q (9 + 5 * r))), (1, .int (J i))] := hl
  have hc := p1.1
  have hrl := rl_b r
  refine lv_aload_n SS.1 SS.2.1 dX7_normalB_0 rfl (lv_at hl 0 rfl) ?_
  refine lv_iload_n SS.1 SS.2.1 dX7_normalB_1 rfl (lv_at hl 1 rfl) ?_
  refine j_vRi SS (As := [.int (J i)]) (rest := []) (c_X7_stepsOf l D q u r (by omega) K i (show 0 ≤ K ∧ K ≤ 80 from (p0)) (show RB K u r from (p1)) (show -1000 ≤ i ∧ i ≤ 1000 from (p2))) mf_X7_stepsOf kw_537 hG hP hP (ci := 7) (q0 := (9 + 5 * r)) rfl (cw_ring (by omega)) rfl rfl hl.1 ⟨⟨Nat.le_of_ble_eq_true rfl, Nat.le_of_ble_eq_true rfl⟩, Nat.le_of_ble_eq_true rfl, Nat.le_refl _, Nat.le_refl _⟩ rfl dX7_normalB_2 (fun z_2 h_2 => ?_)
  have h_2 : z_2 = dS u r i ∧ 0 ≤ z_2 ∧ z_2 ≤ 2 * K := h_2
  refine lv_istore_n (lv' := [(2, .int (J z_2)), (0, .ref (q (9 + 5 * r))), (1, .int (J i))]) SS.1 SS.2.1 dX7_normalB_5 rfl hl (by decide) rfl (fun ls hl => ?_)
  refine lv_iload_n SS.1 SS.2.1 dX7_normalB_6 rfl (lv_at hl 0 rfl) ?_
  refine j_if_ne SS (tgt := 14) (x := z_2) dX7_normalB_7 (by decide) (by omega) (fun c_7 => ?_) (fun c_7 => ?_)
  · skip
    refine lv_aload_n SS.1 SS.2.1 dX7_normalB_14 rfl (lv_at hl 1 rfl) ?_
    refine lv_iload_n SS.1 SS.2.1 dX7_normalB_15 rfl (lv_at hl 2 rfl) ?_
    refine j_vRi SS (As := [.int (J i)]) (rest := []) (c_X7_sideX l D q u r (by omega) K i (show 0 ≤ K ∧ K ≤ 80 from (p0)) (show RB K u r from (p1)) (show -1000 ≤ i ∧ i ≤ 1000 from (p2))) mf_X7_sideX kw_529 hG hP hP (ci := 7) (q0 := (9 + 5 * r)) rfl (cw_ring (by omega)) rfl rfl hl.1 ⟨⟨Nat.le_of_ble_eq_true rfl, Nat.le_of_ble_eq_true rfl⟩, Nat.le_of_ble_eq_true rfl, Nat.le_refl _, Nat.le_refl _⟩ rfl dX7_normalB_16 (fun z_16 h_16 => ?_)
    have h_16 : z_16 = dX u r i ∧ -2 * K ≤ z_16 ∧ z_16 ≤ 2 * K := h_16
    refine j_ineg SS dX7_normalB_19 ?_
    refine lv_iload_n SS.1 SS.2.1 dX7_normalB_20 rfl (lv_at hl 0 rfl) ?_
    have td := td_b (a := -z_16) (b := z_2) (K := 2 * K) (by omega)
    refine j_idiv SS (x := (-z_16)) (y := z_2) dX7_normalB_21 (by omega) (by omega) (by omega) ?_
    exact W.iret SS.1 SS.2.1 hr (fun t0 ht hW => ⟨_, rfl, ⟨(Int.tdiv (-z_16) z_2), rfl, (by first | exact ⟨by rw [h_2.1, h_16.1]; rfl, by omega, by omega⟩ | exact ⟨by unfold dNY; rw [show dS u r i = 0 by omega, Int.tdiv_zero], by omega, by omega⟩)⟩, ht⟩) (fun _ h => nomatch h) dX7_normalB_22 hlk
  · skip
    refine j_iconst SS dX7_normalB_10 ?_
    refine lv_goto (tgt := 22) SS.1 SS.2.1 dX7_normalB_11 (by decide) ?_
    exact W.iret SS.1 SS.2.1 hr (fun t0 ht hW => ⟨_, rfl, ⟨0, rfl, (by first | exact ⟨by rw [h_2.1, h_16.1]; rfl, by omega, by omega⟩ | exact ⟨by unfold dNY; rw [show dS u r i = 0 by omega, Int.tdiv_zero], by omega, by omega⟩)⟩, ht⟩) (fun _ h => nomatch h) dX7_normalB_22 hlk

set_option maxHeartbeats 4000000 in
set_option maxRecDepth 100000 in
theorem c_X7_far2 (l : Launch) (D : JD) (q : Nat → Nat) (u : CS) (r : Nat) (hr : r ≤ 8) (K : Int) (i : Int) (p0 : 0 ≤ K ∧ K ≤ 80) (p1 : RB K u r) (p2 : -1000 ≤ i ∧ i ≤ 1000) : Met l yX7_far (jw yX7_far cX7_far 2 (some .int)) (jr 4 88) (jP [.ref (q (9 + 5 * r)), .int (J i)] D (fun H => va_P D.1 j_cl (cW D q u) H)) (jRi (fun z => z = dFar u r i ∧ -30000 ≤ z ∧ z ≤ 30000)) 0 0 (fun _ => False) := by
  refine Met.ofW (cc := cX7_far) (maxL := 2) (ret := (some .int)) (by decide) rfl ?_
  intro pr en st mi args below meth co s₁ B hml hv
  obtain ⟨rfl, hG, hP⟩ := hv
  have hr := B.returns
  have hlk := B.notSynchronized
  have SS : jS pr mi co cX7_far 2 st _ RX7 := ⟨B.exec, B.bytes, hml, findClass_of_methodNamed B.named, fun w hw => atoms_spec (ws := (jw yX7_far cX7_far 2 (some .int))) B.pre w (List.mem_cons_of_mem _ hw)⟩
  have hl := lv_entry ([.ref (q (9 + 5 * r)), .int (J i)]) (n := 2) (Nat.le_of_ble_eq_true rfl)
  rw [lg_entry_eq]
  generalize (lg_sl ([.ref (q (9 + 5 * r)), .int (J i)]) ++ List.replicate (2 - (lg_sl ([.ref (q (9 + 5 * r)), .int (J i)])).length) Slot.unset).toArray = ls at hl ⊢
  have hl : lv_has ls 2 [(0, .ref (q (9 + 5 * r))), (1, .int (J i))] := hl
  have hc := p1.1
  have hrl := rl_b r
  refine lv_aload_n SS.1 SS.2.1 dX7_far_0 rfl (lv_at hl 0 rfl) ?_
  refine lv_iload_n SS.1 SS.2.1 dX7_far_1 rfl (lv_at hl 1 rfl) ?_
  refine j_vRi SS (As := [.int (J i)]) (rest := []) (c_X7_normalA2 l D q u r (by omega) K i (show 0 ≤ K ∧ K ≤ 80 from (p0)) (show RB K u r from (p1)) (show -1000 ≤ i ∧ i ≤ 1000 from (p2))) mf_X7_normalA kw_812 hG hP hP (ci := 7) (q0 := (9 + 5 * r)) rfl (cw_ring (by omega)) rfl rfl hl.1 ⟨⟨Nat.le_of_ble_eq_true rfl, Nat.le_of_ble_eq_true rfl⟩, Nat.le_of_ble_eq_true rfl, Nat.le_refl _, Nat.le_refl _⟩ rfl dX7_far_2 (fun z_2 h_2 => ?_)
  have h_2 : z_2 = dNX u r i ∧ -2 * K ≤ z_2 ∧ z_2 ≤ 2 * K := h_2
  refine lv_aload_n SS.1 SS.2.1 dX7_far_5 rfl (lv_at hl 0 rfl) ?_
  refine lv_iload_n SS.1 SS.2.1 dX7_far_6 rfl (lv_at hl 1 rfl) ?_
  refine j_uRi SS (As := [.int (J i)]) (rest := [.int (J z_2)]) (c_X8_x l D q u r (by omega) i (show -2147483648 ≤ i ∧ i ≤ 2147483647 from (by omega))) mu_7_x kw_501 hG hP hP (ci := 7) (q0 := (9 + 5 * r)) rfl (cw_ring (by omega)) rfl rfl hl.1 ⟨⟨Nat.le_of_ble_eq_true rfl, Nat.le_of_ble_eq_true rfl⟩, Nat.le_of_ble_eq_true rfl, Nat.le_refl _, Nat.le_refl _⟩ rfl dX7_far_7 (fun z_7 h_7 => ?_)
  have h_7 : z_7 = rx u r i ∧ ∀ K : Int, 0 ≤ K → RB K u r → -K ≤ z_7 ∧ z_7 ≤ K := h_7
  have hb_7 := h_7.2 K (by omega) (p1)
  refine j_imul SS (x := z_2) (y := z_7) dX7_far_10 ?_
  refine lv_aload_n SS.1 SS.2.1 dX7_far_11 rfl (lv_at hl 0 rfl) ?_
  refine lv_iload_n SS.1 SS.2.1 dX7_far_12 rfl (lv_at hl 1 rfl) ?_
  refine j_vRi SS (As := [.int (J i)]) (rest := [.int (J (z_2 * z_7))]) (c_X7_normalB2 l D q u r (by omega) K i (show 0 ≤ K ∧ K ≤ 80 from (p0)) (show RB K u r from (p1)) (show -1000 ≤ i ∧ i ≤ 1000 from (p2))) mf_X7_normalB kw_813 hG hP hP (ci := 7) (q0 := (9 + 5 * r)) rfl (cw_ring (by omega)) rfl rfl hl.1 ⟨⟨Nat.le_of_ble_eq_true rfl, Nat.le_of_ble_eq_true rfl⟩, Nat.le_of_ble_eq_true rfl, Nat.le_refl _, Nat.le_refl _⟩ rfl dX7_far_13 (fun z_13 h_13 => ?_)
  have h_13 : z_13 = dNY u r i ∧ -2 * K ≤ z_13 ∧ z_13 ≤ 2 * K := h_13
  refine lv_aload_n SS.1 SS.2.1 dX7_far_16 rfl (lv_at hl 0 rfl) ?_
  refine lv_iload_n SS.1 SS.2.1 dX7_far_17 rfl (lv_at hl 1 rfl) ?_
  refine j_uRi SS (As := [.int (J i)]) (rest := [.int (J z_13), .int (J (z_2 * z_7))]) (c_X8_y l D q u r (by omega) i (show -2147483648 ≤ i ∧ i ≤ 2147483647 from (by omega))) mu_7_y kw_503 hG hP hP (ci := 7) (q0 := (9 + 5 * r)) rfl (cw_ring (by omega)) rfl rfl hl.1 ⟨⟨Nat.le_of_ble_eq_true rfl, Nat.le_of_ble_eq_true rfl⟩, Nat.le_of_ble_eq_true rfl, Nat.le_refl _, Nat.le_refl _⟩ rfl dX7_far_18 (fun z_18 h_18 => ?_)
  have h_18 : z_18 = ry9 u r i ∧ ∀ K : Int, 0 ≤ K → RB K u r → -K ≤ z_18 ∧ z_18 ≤ K := h_18
  have hb_18 := h_18.2 K (by omega) (p1)
  refine j_imul SS (x := z_13) (y := z_18) dX7_far_21 ?_
  have m1 := mulb (A := 160) (B := 80) (a := z_2) (b := z_7) (by omega) (by omega)
  have m2 := mulb (A := 160) (B := 80) (a := z_13) (b := z_18) (by omega) (by omega)
  refine j_iadd SS (x := (z_2 * z_7)) (y := (z_13 * z_18)) dX7_far_22 ?_
  exact W.iret SS.1 SS.2.1 hr (fun t0 ht hW => ⟨_, rfl, ⟨((z_2 * z_7) + (z_13 * z_18)), rfl, (⟨by rw [h_2.1, h_7.1, h_13.1, h_18.1]; rfl, by omega, by omega⟩)⟩, ht⟩) (fun _ h => nomatch h) dX7_far_23 hlk

set_option maxHeartbeats 4000000 in
set_option maxRecDepth 100000 in
theorem c_X7_isReflexive2 (l : Launch) (D : JD) (q : Nat → Nat) (u : CS) (r : Nat) (hr : r ≤ 8) (K : Int) (p0 : 0 ≤ K ∧ K ≤ 80) (p1 : RB K u r) : Met l yX7_isReflexive (jw yX7_isReflexive cX7_isReflexive 2 (some .boolean)) (jr 5 111) (jP [.ref (q (9 + 5 * r))] D (fun H => va_P D.1 j_cl (cW D q u) H)) (jRi (fun z => (z = 1 ∧ cRef u r) ∨ (z = 0 ∧ ¬ (cRef u r ∧ cHS u r)))) 0 0 (fun _ => False) := by
  refine Met.ofW (cc := cX7_isReflexive) (maxL := 2) (ret := (some .boolean)) (by decide) rfl ?_
  intro pr en st mi args below meth co s₁ B hml hv
  obtain ⟨rfl, hG, hP⟩ := hv
  have hr := B.returns
  have hlk := B.notSynchronized
  have SS : jS pr mi co cX7_isReflexive 2 st _ RX7 := ⟨B.exec, B.bytes, hml, findClass_of_methodNamed B.named, fun w hw => atoms_spec (ws := (jw yX7_isReflexive cX7_isReflexive 2 (some .boolean))) B.pre w (List.mem_cons_of_mem _ hw)⟩
  have hl := lv_entry ([.ref (q (9 + 5 * r))]) (n := 2) (Nat.le_of_ble_eq_true rfl)
  rw [lg_entry_eq]
  generalize (lg_sl ([.ref (q (9 + 5 * r))]) ++ List.replicate (2 - (lg_sl ([.ref (q (9 + 5 * r))])).length) Slot.unset).toArray = ls at hl ⊢
  have hl : lv_has ls 2 [(0, .ref (q (9 + 5 * r)))] := hl
  have hc := p1.1
  have hrl := rl_b r
  refine lv_aload_n SS.1 SS.2.1 dX7_isReflexive_0 rfl (lv_at hl 0 rfl) ?_
  refine j_vRi SS (As := []) (rest := []) (c_X7_isRound2 l D q u r (by omega) K  (show 0 ≤ K ∧ K ≤ 80 from (p0)) (show RB K u r from (p1))) mf_X7_isRound kw_822 hG hP hP (ci := 7) (q0 := (9 + 5 * r)) rfl (cw_ring (by omega)) rfl rfl hl.1 ⟨⟨Nat.le_of_ble_eq_true rfl, Nat.le_of_ble_eq_true rfl⟩, Nat.le_of_ble_eq_true rfl, Nat.le_refl _, Nat.le_refl _⟩ rfl dX7_isReflexive_1 (fun z_1 h_1 => ?_)
  have h_1 : ((z_1 = 1 ∧ 3 ≤ (u.1.2.2.1 r)) ∨ z_1 = 0) ∧ (cAR u r → z_1 = 1) := h_1
  refine j_if_ne SS (tgt := 9) (x := z_1) dX7_isReflexive_4 (by decide) (by omega) (fun c_4 => ?_) (fun c_4 => ?_)
  · skip
    refine j_iconst SS dX7_isReflexive_9 ?_
    refine lv_istore_n (lv' := [(1, .int (J 0)), (0, .ref (q (9 + 5 * r)))]) SS.1 SS.2.1 dX7_isReflexive_10 rfl hl (by decide) rfl (fun ls hl => ?_)
    have L_11 : ∀ (nn : Nat) (i : Int) (ls : Array Slot) (hl : lv_has ls 2 [(0, .ref (q (9 + 5 * r))), (1, .int (J i))]) (i11_0 : 0 ≤ i ∧ i ≤ u.1.2.2.1 r) (i11_1 : ∀ j : Int, 0 ≤ j → j < i → dFar u r j = 1), (u.1.2.2.1 r - i).toNat < nn → W pr l en (headSpec (jw yX7_isReflexive cX7_isReflexive 2 (some .boolean)) (jr 5 111)).room st mi (([.ref (q (9 + 5 * r))] : List Value).toArray) below meth co st.heap [] 0 0 (MQ below (jRi (fun z => (z = 1 ∧ cRef u r) ∨ (z = 0 ∧ ¬ (cRef u r ∧ cHS u r)))) (([.ref (q (9 + 5 * r))] : List Value).toArray) st 0 0 (fun _ => False)) (F0 mi 11 ls []) := by
      intro nn
      induction nn with
      | zero => intros; omega
      | succ nn ih_11 =>
        intro i ls hl i11_0 i11_1 hm
        refine lv_iload_n SS.1 SS.2.1 dX7_isReflexive_11 rfl (lv_at hl 1 rfl) ?_
        refine lv_aload_n SS.1 SS.2.1 dX7_isReflexive_12 rfl (lv_at hl 0 rfl) ?_
        refine j_getS SS hG hP (9 + 5 * r) (v := .int (J (u.1.2.2.1 r))) (C := RX7) (T := TX7) (N := 3) (cw_ring (by omega)) rfl inX7 2 (by decide) (ref := "GridPolygons$Ring") kw_131 kw_132 rfl dX7_isReflexive_13 ?_
        refine j_icmp_ge SS (tgt := 36) (x := i) (y := (u.1.2.2.1 r)) dX7_isReflexive_16 (by decide) (by omega) (by omega) (fun c_16 => ?_) (fun c_16 => ?_)
        · skip
          refine j_iconst SS dX7_isReflexive_36 ?_
          exact W.zret SS.1 SS.2.1 hr (j_nz (by decide)) (fun t0 ht hW => ⟨_, rfl, ⟨1, rfl, (Or.inl ⟨rfl, by omega, fun j h1 h2 => i11_1 j h1 (by omega)⟩)⟩, ht⟩) (fun _ h => nomatch h) dX7_isReflexive_37 hlk
        · skip
          refine lv_aload_n SS.1 SS.2.1 dX7_isReflexive_19 rfl (lv_at hl 0 rfl) ?_
          refine lv_iload_n SS.1 SS.2.1 dX7_isReflexive_20 rfl (lv_at hl 1 rfl) ?_
          refine j_vRi SS (As := [.int (J i)]) (rest := []) (c_X7_far2 l D q u r (by omega) K i (show 0 ≤ K ∧ K ≤ 80 from (p0)) (show RB K u r from (p1)) (show -1000 ≤ i ∧ i ≤ 1000 from (by omega))) mf_X7_far kw_823 hG hP hP (ci := 7) (q0 := (9 + 5 * r)) rfl (cw_ring (by omega)) rfl rfl hl.1 ⟨⟨Nat.le_of_ble_eq_true rfl, Nat.le_of_ble_eq_true rfl⟩, Nat.le_of_ble_eq_true rfl, Nat.le_refl _, Nat.le_refl _⟩ rfl dX7_isReflexive_21 (fun z_21 h_21 => ?_)
          have h_21 : z_21 = dFar u r i ∧ -30000 ≤ z_21 ∧ z_21 ≤ 30000 := h_21
          refine j_iconst SS dX7_isReflexive_24 ?_
          refine j_icmp_eq SS (tgt := 30) (x := z_21) (y := 1) dX7_isReflexive_25 (by decide) (by omega) (by decide) (fun c_25 => ?_) (fun c_25 => ?_)
          · skip
            refine lv_iinc (v := J (i + 1)) (lv' := [(1, .int (J (i + 1))), (0, .ref (q (9 + 5 * r)))]) SS.1 SS.2.1 dX7_isReflexive_30 hl (k := 1) rfl (J_add _ _) (by decide) rfl (fun ls hl => ?_)
            refine lv_goto (tgt := 11) SS.1 SS.2.1 dX7_isReflexive_33 (by decide) ?_
            exact ih_11 (i + 1) ls (lv_sub hl [1, 0] rfl) (by omega) (fun j h1 h2 => by by_cases e : j = i; (rw [e, ← h_21.1]; omega); exact i11_1 j h1 (by omega)) (by omega)
          · skip
            refine j_iconst SS dX7_isReflexive_28 ?_
            exact W.zret SS.1 SS.2.1 hr (j_nz (by decide)) (fun t0 ht hW => ⟨_, rfl, ⟨0, rfl, (Or.inr ⟨rfl, fun q => by have w := q.1.2 i i11_0.1 (by omega); rw [← h_21.1] at w; omega⟩)⟩, ht⟩) (fun _ h => nomatch h) dX7_isReflexive_29 hlk
    exact L_11 ((u.1.2.2.1 r - (0 : Int)).toNat + 1) 0 ls (lv_sub hl [1, 0] rfl) (by omega) (fun j h1 h2 => by omega) (Nat.lt_succ_self _)
  · skip
    refine j_iconst SS dX7_isReflexive_7 ?_
    exact W.zret SS.1 SS.2.1 hr (j_nz (by decide)) (fun t0 ht hW => ⟨_, rfl, ⟨0, rfl, (Or.inr ⟨rfl, fun q => by have := h_1.2 (cRef_AR p1 q.1 q.2); omega⟩)⟩, ht⟩) (fun _ h => nomatch h) dX7_isReflexive_8 hlk


set_option maxHeartbeats 4000000 in
set_option maxRecDepth 100000 in
theorem c_X11_dualN (l : Launch) (D : JD) (q : Nat → Nat) (u : CS) (A : Nat → Prop) (hD : va_D A (cW D q u)) (s : Int) (to : Int) (p0 : CI u) (p1 : -2147483648 ≤ s ∧ s ≤ 2147483647) (p2 : -2147483648 ≤ to ∧ to ≤ 2147483647) : Met l yX11_dual (jw yX11_dual cX11_dual 6 (some .int)) (jr 6 132) (jP [.ref (q 0), .int (J s), .int (J to)] D (fun H => va_P D.1 j_cl (cW D q u) H)) (jWi (fun z u' => CI u' ∧ dlC u u' s to z) (fun u' H => va_P D.1 j_cl (cW D q u') H) A) 0 0 A := by
  refine Met.ofW (cc := cX11_dual) (maxL := 6) (ret := (some .int)) (by decide) rfl ?_
  intro pr en st mi args below meth co s₁ B hml hv
  obtain ⟨rfl, hG, hP⟩ := hv
  have hr := B.returns
  have hlk := B.notSynchronized
  have SS : jS pr mi co cX11_dual 6 st _ RX11 := ⟨B.exec, B.bytes, hml, findClass_of_methodNamed B.named, fun w hw => atoms_spec (ws := (jw yX11_dual cX11_dual 6 (some .int))) B.pre w (List.mem_cons_of_mem _ hw)⟩
  have hl := lv_entry ([.ref (q 0), .int (J s), .int (J to)]) (n := 6) (Nat.le_of_ble_eq_true rfl)
  rw [lg_entry_eq]
  generalize (lg_sl ([.ref (q 0), .int (J s), .int (J to)]) ++ List.replicate (6 - (lg_sl ([.ref (q 0), .int (J s), .int (J to)])).length) Slot.unset).toArray = ls at hl ⊢
  have hl : lv_has ls 6 [(0, .ref (q 0)), (1, .int (J s)), (2, .int (J to))] := hl
  have hS : va_S A st.heap st.heap [] := va_S.rf
  refine lv_aload_n SS.1 SS.2.1 dX11_dual_0 rfl (lv_at hl 0 rfl) ?_
  refine lv_iload_n SS.1 SS.2.1 dX11_dual_1 rfl (lv_at hl 1 rfl) ?_
  refine j_vSh SS (As := [.int (J s)]) (rest := []) (c_X11_shapeAt l D q u  s (show -2147483648 ≤ s ∧ s ≤ 2147483647 from (p1))) mf_X11_shapeAt kw_414 hG hP hP (ci := 11) (q0 := 0) rfl rfl rfl rfl hl.1 ⟨⟨Nat.le_of_ble_eq_true rfl, Nat.le_of_ble_eq_true rfl⟩, Nat.le_of_ble_eq_true rfl, Nat.le_refl _, Nat.le_refl _⟩ rfl dX11_dual_2 (fun i_2 hi_2 hz_2 => ?_) (fun hn_2 => ?_)
  · skip
    have hI2 := CI_s p0 (show i_2 < 8 by omega)
    have hI2c := hI2.1
    have hrl2 := rl_s (show i_2 < 8 by omega)
    refine lv_astore_n (lv' := [(3, .ref (q (8 + 5 * i_2))), (0, .ref (q 0)), (1, .int (J s)), (2, .int (J to))]) SS.1 SS.2.1 dX11_dual_5 rfl hl (by decide) rfl (fun ls hl => ?_)
    refine lv_aload_n SS.1 SS.2.1 dX11_dual_6 rfl (lv_at hl 1 rfl) ?_
    refine lv_iload_n SS.1 SS.2.1 dX11_dual_7 rfl (lv_at hl 3 rfl) ?_
    refine j_vSh SS (As := [.int (J to)]) (rest := []) (c_X11_shapeAt l D q u  to (show -2147483648 ≤ to ∧ to ≤ 2147483647 from (p2))) mf_X11_shapeAt kw_414 hG hP hP (ci := 11) (q0 := 0) rfl rfl rfl rfl hl.1 ⟨⟨Nat.le_of_ble_eq_true rfl, Nat.le_of_ble_eq_true rfl⟩, Nat.le_of_ble_eq_true rfl, Nat.le_refl _, Nat.le_refl _⟩ rfl dX11_dual_8 (fun i_8 hi_8 hz_8 => ?_) (fun hn_8 => ?_)
    · skip
      refine lv_astore (lv' := [(4, .ref (q (8 + 5 * i_8))), (3, .ref (q (8 + 5 * i_2))), (0, .ref (q 0)), (1, .int (J s)), (2, .int (J to))]) SS.1 SS.2.1 dX11_dual_11 hl (by decide) rfl (fun ls hl => ?_)
      refine lv_aload_n SS.1 SS.2.1 dX11_dual_13 rfl (lv_at hl 1 rfl) ?_
      refine lv_ifnull SS.1 SS.2.1 dX11_dual_14 ?_
      refine lv_aload SS.1 SS.2.1 dX11_dual_17 (lv_at hl 0 rfl) ?_
      refine lv_ifnonnull SS.1 SS.2.1 (tgt := 24) dX11_dual_19 (by decide) ?_
      refine lv_aload_n SS.1 SS.2.1 dX11_dual_24 rfl (lv_at hl 1 rfl) ?_
      refine j_get SS hG hP (8 + 5 * i_2) (v := .ref (q (9 + 5 * i_2))) (C := RX10) (T := TX10) (N := 3) (cw_shape (by omega)) rfl inX10 0 (by decide) (ref := "GridPolygons$Shape") kw_151 rfl rfl dX11_dual_25 ?_
      refine j_vRi SS (As := []) (rest := []) (c_X7_isReflexive2 l D q u i_2 (by omega) (40 : Int)  (show 0 ≤ (40 : Int) ∧ (40 : Int) ≤ 80 from (by omega)) (show RB (40 : Int) u i_2 from (show RB 40 u i_2 from CI_40 p0 (by omega)))) mf_X7_isReflexive kw_818 hG hP hP (ci := 7) (q0 := (9 + 5 * i_2)) rfl (cw_ring (by omega)) rfl rfl hl.1 ⟨⟨Nat.le_of_ble_eq_true rfl, Nat.le_of_ble_eq_true rfl⟩, Nat.le_of_ble_eq_true rfl, Nat.le_refl _, Nat.le_refl _⟩ rfl dX11_dual_28 (fun z_28 h_28 => ?_)
      have h_28 : (z_28 = 1 ∧ cRef u i_2) ∨ (z_28 = 0 ∧ ¬ (cRef u i_2 ∧ cHS u i_2)) := h_28
      refine j_if_ne SS (tgt := 37) (x := z_28) dX11_dual_31 (by decide) (by omega) (fun c_31 => ?_) (fun c_31 => ?_)
      · skip
        refine lv_aload_n SS.1 SS.2.1 dX11_dual_37 rfl (lv_at hl 2 rfl) ?_
        refine j_get SS hG hP 0 (v := .ref (q 2)) (C := RX11) (T := TX11) (N := 8) rfl rfl inX11 1 (by decide) (ref := "GridPolygons") kw_386 rfl rfl dX11_dual_38 ?_
        refine j_vWv SS (As := []) (rest := []) (c_X3_begin l D q u A (cW_D hD)   (show HU_ ((u.2.1 0)) ((u.2.1 1)) from (p0.2.2.1))) mf_X3_begin kw_418 hG hP hP (ci := 3) (q0 := 2) rfl rfl rfl hS (fun _ h => h) rfl hl.1 ⟨⟨Nat.le_of_ble_eq_true rfl, Nat.le_of_ble_eq_true rfl⟩, Nat.le_of_ble_eq_true rfl, Nat.le_refl _, Nat.le_refl _⟩ rfl dX11_dual_41 (fun u41 H locs h_41 hP _ hS => ?_)
        obtain ⟨f_41, g_41, rfl, h_41⟩ := h_41
        have hP : va_P D.1 j_cl (cW D q (sI (sI u 0 f_41) 1 g_41)) H := hP
        have h_41 : f_41 = jf ((u.2.1 0)) 81 161 ∧ g_41 = jf ((u.2.1 1)) (-81) 161 ∧ HU_ f_41 g_41 := h_41
        refine j_iconst SS dX11_dual_44 ?_
        refine lv_istore (lv' := [(5, .int (J 0)), (4, .ref (q (8 + 5 * i_8))), (3, .ref (q (8 + 5 * i_2))), (0, .ref (q 0)), (1, .int (J s)), (2, .int (J to))]) SS.1 SS.2.1 dX11_dual_45 hl (by decide) rfl (fun ls hl => ?_)
        have L_47 : ∀ (nn : Nat) (i : Int) (f1 : Nat → Int) (g1 : Nat → Int) (H : Heap) (locs : List Loc) (hP : va_P D.1 j_cl (cW D q (sI (sI u 0 f1) 1 g1)) H) (hS : va_S A st.heap H locs) (ls : Array Slot) (hl : lv_has ls 6 [(0, .ref (q 0)), (1, .int (J s)), (2, .int (J to)), (3, .ref (q (8 + 5 * i_2))), (4, .ref (q (8 + 5 * i_8))), (5, .int (J i))]) (i47_0 : 0 ≤ i ∧ i ≤ u.1.2.2.1 i_2) (i47_1 : HU_ f1 g1) (i47_2 : HUL (NCi u i_2 i) f1 g1), (u.1.2.2.1 i_2 - i).toNat < nn → W pr l en (headSpec (jw yX11_dual cX11_dual 6 (some .int)) (jr 6 132)).room st mi (([.ref (q 0), .int (J s), .int (J to)] : List Value).toArray) below meth co H locs 0 0 (MQ below (jWi (fun z u' => CI u' ∧ dlC u u' s to z) (fun u' H => va_P D.1 j_cl (cW D q u') H) A) (([.ref (q 0), .int (J s), .int (J to)] : List Value).toArray) st 0 0 A) (F0 mi 47 ls []) := by
          intro nn
          induction nn with
          | zero => intros; omega
          | succ nn ih_47 =>
            intro i f1 g1 H locs hP hS ls hl i47_0 i47_1 i47_2 hm
            refine lv_iload SS.1 SS.2.1 dX11_dual_47 (lv_at hl 5 rfl) ?_
            refine lv_aload_n SS.1 SS.2.1 dX11_dual_49 rfl (lv_at hl 3 rfl) ?_
            refine j_get SS hG hP (8 + 5 * i_2) (v := .ref (q (9 + 5 * i_2))) (C := RX10) (T := TX10) (N := 3) (cw_shape (by omega)) rfl inX10 0 (by decide) (ref := "GridPolygons$Shape") kw_151 rfl rfl dX11_dual_50 ?_
            refine j_getS SS hG hP (9 + 5 * i_2) (v := .int (J (u.1.2.2.1 i_2))) (C := RX7) (T := TX7) (N := 3) (cw_ring (by omega)) rfl inX7 2 (by decide) (ref := "GridPolygons$Ring") kw_135 kw_132 rfl dX11_dual_53 ?_
            refine j_icmp_ge SS (tgt := 90) (x := i) (y := (u.1.2.2.1 i_2)) dX11_dual_56 (by decide) (by omega) (by omega) (fun c_56 => ?_) (fun c_56 => ?_)
            · skip
              refine lv_aload_n SS.1 SS.2.1 dX11_dual_90 rfl (lv_at hl 0 rfl) ?_
              refine j_get SS hG hP 0 (v := .ref (q 2)) (C := RX11) (T := TX11) (N := 8) rfl rfl inX11 1 (by decide) (ref := "GridPolygons") kw_386 rfl rfl dX11_dual_91 ?_
              have hU : HUL (NCi u i_2 (u.1.2.2.1 i_2)) f1 g1 := by rw [show i = u.1.2.2.1 i_2 by omega] at i47_2; exact i47_2
              refine j_vWv SS (As := []) (rest := []) (c_X3_close2 l D q (sI (sI u 0 f1) 1 g1) A (cW_D hD)   (show RB 80 (sI (sI u 0 f1) 1 g1) 8 from (p0.2.1.1)) (show HU_ (f1) (g1) from (i47_1))) mf_X3_close kw_425 hG hP hP (ci := 3) (q0 := 2) rfl rfl rfl hS (fun _ h => h) rfl hl.1 ⟨⟨Nat.le_of_ble_eq_true rfl, Nat.le_of_ble_eq_true rfl⟩, Nat.le_of_ble_eq_true rfl, Nat.le_refl _, Nat.le_refl _⟩ rfl dX11_dual_94 (fun u94 H locs h_94 hP _ hS => ?_)
              obtain ⟨f_94, g_94, n_94, rfl, h_94⟩ := h_94
              have hP : va_P D.1 j_cl (cW D q (sY (sX (sI (sI (sC u 8 n_94) 0 f1) 1 g1) 8 f_94) 8 g_94)) H := hP
              have h_94 : (0 ≤ n_94 ∧ n_94 ≤ 323) ∧ RV 80 f_94 g_94 ∧ ∀ S : Int → Int → Prop, HUL S (f1) (g1) → HS S n_94 f_94 g_94 := h_94
              refine lv_aload_n SS.1 SS.2.1 dX11_dual_97 rfl (lv_at hl 0 rfl) ?_
              refine lv_aload SS.1 SS.2.1 dX11_dual_98 (lv_at hl 4 rfl) ?_
              refine j_vWi SS (As := [.ref (q (8 + 5 * i_8))]) (rest := []) (c_X11_remakeIfFitsN l D q (sY (sX (sI (sI (sC u 8 n_94) 0 f1) 1 g1) 8 f_94) 8 g_94) A (cW_D hD) i_8 (by omega)  (show CI (sY (sX (sI (sI (sC u 8 n_94) 0 f1) 1 g1) 8 f_94) 8 g_94) from (CI_8 (CI_h p0 i47_1) h_94.1 h_94.2.1))) mf_X11_remakeIfFits kw_493 hG hP hP (ci := 11) (q0 := 0) rfl rfl rfl hS (fun _ h => h) rfl hl.1 ⟨⟨Nat.le_of_ble_eq_true rfl, Nat.le_of_ble_eq_true rfl⟩, Nat.le_of_ble_eq_true rfl, Nat.le_refl _, Nat.le_refl _⟩ rfl dX11_dual_100 (fun z_100 u100 H locs h_100 hP _ hS => ?_)
              obtain ⟨n_100, f_100, g_100, hh_100, tt_100, st0_100, rfl, h_100⟩ := h_100
              have hP : va_P D.1 j_cl (cW D q (sY (sY (sX (sX (sV (sT (sI (sI (sH (sC (sC u 8 n_94) i_8 n_100) i_8 hh_100) 0 f1) 1 g1) i_8 tt_100) 0 st0_100) 8 f_94) i_8 f_100) 8 g_94) i_8 g_100)) H := hP
              have h_100 : CI (sY (sY (sX (sX (sV (sT (sI (sI (sH (sC (sC u 8 n_94) i_8 n_100) i_8 hh_100) 0 f1) 1 g1) i_8 tt_100) 0 st0_100) 8 f_94) i_8 f_100) 8 g_94) i_8 g_100) ∧ ((z_100 = -3 ∧ ¬ (n_94 ≤ 24 ∧ bd 40 (f_94) (g_94) (n_94)) ∧ cSame (sY (sX (sI (sI (sC u 8 n_94) 0 f1) 1 g1) 8 f_94) 8 g_94) (sY (sY (sX (sX (sV (sT (sI (sI (sH (sC (sC u 8 n_94) i_8 n_100) i_8 hh_100) 0 f1) 1 g1) i_8 tt_100) 0 st0_100) 8 f_94) i_8 f_100) 8 g_94) i_8 g_100)) ∨ (z_100 = n_94 ∧ n_94 ≤ 24 ∧ bd 40 (f_94) (g_94) (n_94) ∧ cNew (sY (sX (sI (sI (sC u 8 n_94) 0 f1) 1 g1) 8 f_94) 8 g_94) (sY (sY (sX (sX (sV (sT (sI (sI (sH (sC (sC u 8 n_94) i_8 n_100) i_8 hh_100) 0 f1) 1 g1) i_8 tt_100) 0 st0_100) 8 f_94) i_8 f_100) 8 g_94) i_8 g_100) i_8 (n_94) (f_94) (g_94))) := h_100
              exact W.iret SS.1 SS.2.1 hr (fun t0 ht hW => ⟨⟨_, (sY (sY (sX (sX (sV (sT (sI (sI (sH (sC (sC u 8 n_94) i_8 n_100) i_8 hh_100) 0 f1) 1 g1) i_8 tt_100) 0 st0_100) 8 f_94) i_8 f_100) 8 g_94) i_8 g_100), rfl, ⟨z_100, rfl, (⟨h_100.1, Or.inr ⟨by omega, by omega, Or.inr ⟨by rw [show s.toNat = i_2 by omega]; rcases h_28 with q | q; exact q.2; omega, by rw [show s.toNat = i_2 by omega, show to.toNat = i_8 by omega]; exact mkC_r (by first | exact cs_refl | exact (fun r hr => ⟨if_neg (by omega), if_neg (by omega), if_neg (by omega)⟩)) (h_94.2.2 _ hU) h_100.2⟩⟩⟩)⟩, by show va_P D.1 j_cl (cW D q (sY (sY (sX (sX (sV (sT (sI (sI (sH (sC (sC u 8 n_94) i_8 n_100) i_8 hh_100) 0 f1) 1 g1) i_8 tt_100) 0 st0_100) 8 f_94) i_8 f_100) 8 g_94) i_8 g_100)) t0.heap; rw [ht]; first | exact hP | (simp only [sC_id, sX_id, sY_id, sH_id, sT_id, sV_id]; exact hP)⟩, hS.F ht⟩) hS.2.2 dX11_dual_103 hlk
            · skip
              refine lv_aload_n SS.1 SS.2.1 dX11_dual_59 rfl (lv_at hl 0 rfl) ?_
              refine j_get SS hG hP 0 (v := .ref (q 2)) (C := RX11) (T := TX11) (N := 8) rfl rfl inX11 1 (by decide) (ref := "GridPolygons") kw_386 rfl rfl dX11_dual_60 ?_
              refine lv_aload_n SS.1 SS.2.1 dX11_dual_63 rfl (lv_at hl 3 rfl) ?_
              refine j_get SS hG hP (8 + 5 * i_2) (v := .ref (q (9 + 5 * i_2))) (C := RX10) (T := TX10) (N := 3) (cw_shape (by omega)) rfl inX10 0 (by decide) (ref := "GridPolygons$Shape") kw_151 rfl rfl dX11_dual_64 ?_
              refine lv_iload SS.1 SS.2.1 dX11_dual_67 (lv_at hl 5 rfl) ?_
              refine j_vRi SS (As := [.int (J i)]) (rest := [.ref (q 2)]) (c_X7_normalA2 l D q (sI (sI u 0 f1) 1 g1) i_2 (by omega) (40 : Int) i (show 0 ≤ (40 : Int) ∧ (40 : Int) ≤ 80 from (by omega)) (show RB (40 : Int) (sI (sI u 0 f1) 1 g1) i_2 from (show RB 40 u i_2 from CI_40 p0 (by omega))) (show -1000 ≤ i ∧ i ≤ 1000 from (by omega))) mf_X7_normalA kw_800 hG hP hP (ci := 7) (q0 := (9 + 5 * i_2)) rfl (cw_ring (by omega)) rfl rfl hl.1 ⟨⟨Nat.le_of_ble_eq_true rfl, Nat.le_of_ble_eq_true rfl⟩, Nat.le_of_ble_eq_true rfl, Nat.le_refl _, Nat.le_refl _⟩ rfl dX11_dual_69 (fun z_69 h_69 => ?_)
              have h_69 : z_69 = dNX (sI (sI u 0 f1) 1 g1) i_2 i ∧ -2 * (40 : Int) ≤ z_69 ∧ z_69 ≤ 2 * (40 : Int) := h_69
              refine lv_aload_n SS.1 SS.2.1 dX11_dual_72 rfl (lv_at hl 3 rfl) ?_
              refine j_get SS hG hP (8 + 5 * i_2) (v := .ref (q (9 + 5 * i_2))) (C := RX10) (T := TX10) (N := 3) (cw_shape (by omega)) rfl inX10 0 (by decide) (ref := "GridPolygons$Shape") kw_151 rfl rfl dX11_dual_73 ?_
              refine lv_iload SS.1 SS.2.1 dX11_dual_76 (lv_at hl 5 rfl) ?_
              refine j_vRi SS (As := [.int (J i)]) (rest := [.int (J z_69), .ref (q 2)]) (c_X7_normalB2 l D q (sI (sI u 0 f1) 1 g1) i_2 (by omega) (40 : Int) i (show 0 ≤ (40 : Int) ∧ (40 : Int) ≤ 80 from (by omega)) (show RB (40 : Int) (sI (sI u 0 f1) 1 g1) i_2 from (show RB 40 u i_2 from CI_40 p0 (by omega))) (show -1000 ≤ i ∧ i ≤ 1000 from (by omega))) mf_X7_normalB kw_804 hG hP hP (ci := 7) (q0 := (9 + 5 * i_2)) rfl (cw_ring (by omega)) rfl rfl hl.1 ⟨⟨Nat.le_of_ble_eq_true rfl, Nat.le_of_ble_eq_true rfl⟩, Nat.le_of_ble_eq_true rfl, Nat.le_refl _, Nat.le_refl _⟩ rfl dX11_dual_78 (fun z_78 h_78 => ?_)
              have h_78 : z_78 = dNY (sI (sI u 0 f1) 1 g1) i_2 i ∧ -2 * (40 : Int) ≤ z_78 ∧ z_78 ≤ 2 * (40 : Int) := h_78
              refine j_vWv SS (As := [.int (J z_69), .int (J z_78)]) (rest := []) (c_X3_take l D q (sI (sI u 0 f1) 1 g1) A (cW_D hD)  z_69 z_78 (show HU_ (f1) (g1) from (i47_1)) (show -1000 ≤ z_69 ∧ z_69 ≤ 1000 from (by omega)) (show -2147483648 ≤ z_78 ∧ z_78 ≤ 2147483647 from (by omega))) mf_X3_take kw_492 hG hP hP (ci := 3) (q0 := 2) rfl rfl rfl hS (fun _ h => h) rfl hl.1 ⟨⟨Nat.le_of_ble_eq_true rfl, Nat.le_of_ble_eq_true rfl⟩, Nat.le_of_ble_eq_true rfl, Nat.le_refl _, Nat.le_refl _⟩ rfl dX11_dual_81 (fun u81 H locs h_81 hP _ hS => ?_)
              obtain ⟨f_81, g_81, rfl, h_81⟩ := h_81
              have hP : va_P D.1 j_cl (cW D q (sI (sI u 0 f_81) 1 g_81)) H := hP
              have h_81 : ((-80 ≤ z_69 ∧ z_69 ≤ 80 ∧ -80 ≤ z_78 ∧ z_78 ≤ 80) ∧ f_81 = upI (f1) (z_69 + 80).toNat (min (f1 (z_69 + 80).toNat) z_78) ∧ g_81 = upI (g1) (z_69 + 80).toNat (max (g1 (z_69 + 80).toNat) z_78) ∨ ¬ (-80 ≤ z_69 ∧ z_69 ≤ 80 ∧ -80 ≤ z_78 ∧ z_78 ≤ 80) ∧ f_81 = f1 ∧ g_81 = g1) ∧ HU_ f_81 g_81 := h_81
              refine lv_iinc (v := J (i + 1)) (lv' := [(5, .int (J (i + 1))), (0, .ref (q 0)), (1, .int (J s)), (2, .int (J to)), (3, .ref (q (8 + 5 * i_2))), (4, .ref (q (8 + 5 * i_8)))]) SS.1 SS.2.1 dX11_dual_84 hl (k := 5) rfl (J_add _ _) (by decide) rfl (fun ls hl => ?_)
              refine lv_goto (tgt := 47) SS.1 SS.2.1 dX11_dual_87 (by decide) ?_
              exact ih_47 (i + 1) f_81 g_81 _ _ hP hS ls (lv_sub hl [1, 2, 3, 4, 5, 0] rfl) (by omega) (h_81.2) (by rcases h_81.1 with ⟨w1, w2, w3⟩ | ⟨w1, _⟩; (rw [w2, w3]; exact HUL_c (HUL_t i47_2 (by omega) (by omega)) (fun x y => nc_s i47_0.1 h_69.1 h_78.1 x y)); omega) (by omega)
        exact L_47 ((u.1.2.2.1 i_2 - (0 : Int)).toNat + 1) 0 f_41 g_41 _ _ hP hS ls (lv_sub hl [3, 4, 5, 2, 1, 0] rfl) (by omega) (h_41.2.2) (by rw [h_41.1, h_41.2.1]; exact HUL_c HUL_0 (fun x y => ⟨fun ⟨a, q1, _⟩ => by omega, False.elim⟩)) (Nat.lt_succ_self _)
      · skip
        refine j_bipush SS dX11_dual_34 (by decide +kernel) ?_
        exact W.iret SS.1 SS.2.1 hr (fun t0 ht hW => ⟨⟨_, u, rfl, ⟨(-2), rfl, (⟨p0, Or.inr ⟨by omega, by omega, Or.inl ⟨by rw [show s.toNat = i_2 by omega]; rcases h_28 with q | q; omega; exact q.2, rfl, cs_refl⟩⟩⟩)⟩, by show va_P D.1 j_cl (cW D q u) t0.heap; rw [ht]; first | exact hP | (simp only [sC_id, sX_id, sY_id, sH_id, sT_id, sV_id]; exact hP)⟩, hS.F ht⟩) hS.2.2 dX11_dual_36 hlk
    · skip
      refine lv_astoreN (lv' := [(4, .null), (3, .ref (q (8 + 5 * i_2))), (0, .ref (q 0)), (1, .int (J s)), (2, .int (J to))]) SS.1 SS.2.1 dX11_dual_11 hl (by decide) rfl (fun ls hl => ?_)
      refine lv_aload_n SS.1 SS.2.1 dX11_dual_13 rfl (lv_at hl 1 rfl) ?_
      refine lv_ifnull SS.1 SS.2.1 dX11_dual_14 ?_
      refine lv_aloadN SS.1 SS.2.1 dX11_dual_17 (lv_at hl 0 rfl) ?_
      refine lv_ifnonnullN SS.1 SS.2.1 dX11_dual_19 ?_
      refine j_iconst SS dX11_dual_22 ?_
      exact W.iret SS.1 SS.2.1 hr (fun t0 ht hW => ⟨⟨_, u, rfl, ⟨(-1), rfl, (⟨p0, Or.inl ⟨by omega, rfl, cs_refl⟩⟩)⟩, by show va_P D.1 j_cl (cW D q u) t0.heap; rw [ht]; first | exact hP | (simp only [sC_id, sX_id, sY_id, sH_id, sT_id, sV_id]; exact hP)⟩, hS.F ht⟩) hS.2.2 dX11_dual_23 hlk
  · skip
    refine lv_astore_nN (lv' := [(3, .null), (0, .ref (q 0)), (1, .int (J s)), (2, .int (J to))]) SS.1 SS.2.1 dX11_dual_5 rfl hl (by decide) rfl (fun ls hl => ?_)
    refine lv_aload_n SS.1 SS.2.1 dX11_dual_6 rfl (lv_at hl 1 rfl) ?_
    refine lv_iload_n SS.1 SS.2.1 dX11_dual_7 rfl (lv_at hl 3 rfl) ?_
    refine j_vSh SS (As := [.int (J to)]) (rest := []) (c_X11_shapeAt l D q u  to (show -2147483648 ≤ to ∧ to ≤ 2147483647 from (p2))) mf_X11_shapeAt kw_414 hG hP hP (ci := 11) (q0 := 0) rfl rfl rfl rfl hl.1 ⟨⟨Nat.le_of_ble_eq_true rfl, Nat.le_of_ble_eq_true rfl⟩, Nat.le_of_ble_eq_true rfl, Nat.le_refl _, Nat.le_refl _⟩ rfl dX11_dual_8 (fun i_8 hi_8 hz_8 => ?_) (fun hn_8 => ?_)
    · skip
      refine lv_astore (lv' := [(4, .ref (q (8 + 5 * i_8))), (3, .null), (0, .ref (q 0)), (1, .int (J s)), (2, .int (J to))]) SS.1 SS.2.1 dX11_dual_11 hl (by decide) rfl (fun ls hl => ?_)
      refine lv_aload_nN SS.1 SS.2.1 dX11_dual_13 rfl (lv_at hl 1 rfl) ?_
      refine lv_ifnullN SS.1 SS.2.1 (tgt := 22) dX11_dual_14 (by decide) ?_
      refine j_iconst SS dX11_dual_22 ?_
      exact W.iret SS.1 SS.2.1 hr (fun t0 ht hW => ⟨⟨_, u, rfl, ⟨(-1), rfl, (⟨p0, Or.inl ⟨by omega, rfl, cs_refl⟩⟩)⟩, by show va_P D.1 j_cl (cW D q u) t0.heap; rw [ht]; first | exact hP | (simp only [sC_id, sX_id, sY_id, sH_id, sT_id, sV_id]; exact hP)⟩, hS.F ht⟩) hS.2.2 dX11_dual_23 hlk
    · skip
      refine lv_astoreN (lv' := [(4, .null), (3, .null), (0, .ref (q 0)), (1, .int (J s)), (2, .int (J to))]) SS.1 SS.2.1 dX11_dual_11 hl (by decide) rfl (fun ls hl => ?_)
      refine lv_aload_nN SS.1 SS.2.1 dX11_dual_13 rfl (lv_at hl 1 rfl) ?_
      refine lv_ifnullN SS.1 SS.2.1 (tgt := 22) dX11_dual_14 (by decide) ?_
      refine j_iconst SS dX11_dual_22 ?_
      exact W.iret SS.1 SS.2.1 hr (fun t0 ht hW => ⟨⟨_, u, rfl, ⟨(-1), rfl, (⟨p0, Or.inl ⟨by omega, rfl, cs_refl⟩⟩)⟩, by show va_P D.1 j_cl (cW D q u) t0.heap; rw [ht]; first | exact hP | (simp only [sC_id, sX_id, sY_id, sH_id, sT_id, sV_id]; exact hP)⟩, hS.F ht⟩) hS.2.2 dX11_dual_23 hlk


def crC (u : CS) (s z : Int) : Prop := (¬ (0 ≤ s ∧ s ≤ 7) ∧ z = -1) ∨ ((0 ≤ s ∧ s ≤ 7) ∧ z = u.1.2.2.1 s.toNat)
def coC (u : CS) (s i w z : Int) : Prop := (¬ ((0 ≤ s ∧ s ≤ 7) ∧ (0 ≤ i ∧ i < u.1.2.2.1 s.toNat) ∧ 0 ≤ w ∧ w ≤ 1) ∧ z = -1000000) ∨ (((0 ≤ s ∧ s ≤ 7) ∧ (0 ≤ i ∧ i < u.1.2.2.1 s.toNat) ∧ 0 ≤ w ∧ w ≤ 1) ∧ ((w = 0 ∧ z = rx u s.toNat i) ∨ (w = 1 ∧ z = ry9 u s.toNat i)))
def coM (u : MS) (s i w z : Int) : Prop := (¬ ((0 ≤ s ∧ s ≤ 7) ∧ (0 ≤ i ∧ i < mN u s) ∧ 0 ≤ w ∧ w ≤ 1) ∧ z = -1000000) ∨ (((0 ≤ s ∧ s ≤ 7) ∧ (0 ≤ i ∧ i < mN u s) ∧ 0 ≤ w ∧ w ≤ 1) ∧ ((w = 0 ∧ z = mX u s i) ∨ (w = 1 ∧ z = mY u s i)))
/-- a word's range -/
def wRg (z : Int) : Prop := -2147483648 ≤ z ∧ z ≤ 2147483647
theorem CI_n {u : CS} (h : CI u) {s : Int} (hs : 0 ≤ s ∧ s ≤ 7) : 0 ≤ u.1.2.2.1 s.toNat ∧ u.1.2.2.1 s.toNat ≤ 24 := by
  have q := (CI_40 h (i := s.toNat) (by omega)).1
  have := rl_s (show s.toNat < 8 by omega)
  omega
theorem HS_0 {S : Int → Int → Prop} {n : Int} {X Y : Nat → Int} (h : HS S n X Y) : 0 ≤ n := by
  rcases h with ⟨h, _⟩ | ⟨h, _⟩ <;> omega
theorem mkC_g {u u' : CS} {t : Nat} {z : Int} {S : Int → Int → Prop} (h : mkC u u' t z S) : wRg z := by
  obtain ⟨n, X, Y, H, k⟩ := h
  have := HS_0 H
  unfold wRg
  rcases k with ⟨_, k, _⟩ | ⟨k, _⟩ <;> omega
/-- the answers alike, and a word -/
theorem EQ_cl {u u' : CS} {v v' : MS} {s z z' : Int} (hC : CI u) (h : EQS u v) (hc : clC u u' s z) (hm : clM v v' s z') : z = z' ∧ wRg z := by
  refine ⟨(EQS_cl h hc hm).1, ?_⟩
  rcases hc with ⟨_, a2, _⟩ | ⟨a1, a2, _⟩
  · unfold wRg; omega
  · have := CI_n hC a1; unfold wRg; omega
theorem EQ_ad {u u' : CS} {v v' : MS} {s x y z z' : Int} (h : EQS u v) (hc : adC u u' s x y z) (hm : adM v v' s x y z') : z = z' ∧ wRg z := by
  refine ⟨(EQS_ad h hc hm).1, ?_⟩
  rcases hc with ⟨_, a2, _⟩ | ⟨_, _, a⟩
  · unfold wRg; omega
  · exact mkC_g a
theorem EQ_sm {u u' : CS} {v v' : MS} {s s2 t z z' : Int} (h : EQS u v) (hc : smC u u' s s2 t z) (hm : smM v v' s s2 t z') : z = z' ∧ wRg z := by
  refine ⟨(EQS_sm h hc hm).1, ?_⟩
  rcases hc with ⟨_, a2, _⟩ | ⟨_, _, _, a⟩
  · unfold wRg; omega
  · exact mkC_g a
theorem EQ_mp {u u' : CS} {v v' : MS} {s t a b c d e f z z' : Int} (h : EQS u v) (hc : mpC u u' s t a b c d e f z) (hm : mpM v v' s t a b c d e f z') : z = z' ∧ wRg z := by
  refine ⟨(EQS_mp h hc hm).1, ?_⟩
  rcases hc with ⟨_, a2, _⟩ | ⟨_, _, _, ⟨_, a2, _⟩ | ⟨_, ⟨a2, _⟩ | a⟩⟩
  · unfold wRg; omega
  · unfold wRg; omega
  · unfold wRg; omega
  · exact mkC_g a
theorem EQ_dl {u u' : CS} {v v' : MS} {s t z z' : Int} (hC : CI u) (h : EQS u v) (hc : dlC u u' s t z) (hm : dlM v v' s t z') : z = z' ∧ wRg z := by
  refine ⟨(EQS_dl hC h hc hm).1, ?_⟩
  rcases hc with ⟨_, a2, _⟩ | ⟨_, _, ⟨_, a2, _⟩ | ⟨_, a⟩⟩
  · unfold wRg; omega
  · unfold wRg; omega
  · exact mkC_g a

