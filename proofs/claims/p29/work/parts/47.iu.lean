
/-! sums round about -/
theorem smI_add {f g : Int → Int} {n : Int} : smI (fun i => f i + g i) n = smI f n + smI g n := sm_add n.toNat
theorem smI_mul {f : Int → Int} {c n : Int} : smI (fun i => c * f i) n = c * smI f n := sm_mul n.toNat
theorem smI_per {f : Int → Int} {n : Int} (hn : 0 ≤ n) (h : ∀ i : Int, 0 ≤ i → f (i + n) = f i) : ∀ c : Nat, smI (fun i => f (i + c)) n = smI f n := by
  intro c
  induction c with
  | zero => exact smI_c (fun i _ _ => congrArg f (by omega))
  | succ c ih =>
    have e1 := smI_s (g := fun i => f (i + c)) hn
    have e2 := smI_sp (f := fun i => f (i + c)) (a := 1) (b := n) (by omega) hn
    rw [show (1 : Int) + n = n + 1 by omega, e1] at e2
    have e3 : smI (fun i => f (i + c)) 1 = f c := by
      have := smI_s (g := fun i => f (i + c)) (n := 0) (by omega)
      rw [smI_0] at this
      rw [show (0 : Int) + 1 = 1 from rfl] at this
      rw [this]
      show 0 + f (0 + c) = f c
      rw [Int.zero_add, Int.zero_add]
    have e4 : f (n + c) = f c := by rw [Int.add_comm]; exact h c (by omega)
    have e5 : smI (fun k => f (1 + k + c)) n = smI (fun i => f (i + ((c + 1 : Nat) : Int))) n := smI_c (fun i _ _ => congrArg f (by omega))
    have e6 : smI (fun i => f (i + c)) n + f (n + c) = smI (fun i => f (i + c)) 1 + smI (fun k => f (1 + k + c)) n := e2
    rw [e3, e4, e5] at e6
    omega
/-- moved so that a corner is the origin, a closed way has the same area -/
theorem tele {F G : Int → Int} {c d : Int} : ∀ m : Nat, smI (fun i => (F i - c) * (G (i + 1) - d) - (F (i + 1) - c) * (G i - d)) m = smI (fun i => F i * G (i + 1) - F (i + 1) * G i) m + d * (F m - F 0) - c * (G m - G 0) := by
  intro m
  induction m with
  | zero => rw [show (((0 : Nat) : Int)) = 0 from rfl, smI_0, smI_0]; grind
  | succ m ih =>
    rw [show ((m + 1 : Nat) : Int) = (m : Int) + 1 by omega, smI_s (by omega), smI_s (by omega), ih]
    grind
/-- the area by the numbers of the corners, taken round about -/
def ar0 (X Y : Int → Int) (n : Int) : Int := smI (fun i => X (i % n) * Y ((i + 1) % n) - X ((i + 1) % n) * Y (i % n)) n
/-- a linear map takes the corners of one, from its first one on, to those of the other, from j on or back -/
def AF (PX PY QX QY : Int → Int) (n j t a b c e : Int) : Prop := ∀ i : Int, 0 ≤ i → i < n → a * (PX i - PX 0) + b * (PY i - PY 0) = QX ((j + t * i) % n) - QX j ∧ c * (PX i - PX 0) + e * (PY i - PY 0) = QY ((j + t * i) % n) - QY j
def AFF (PX PY QX QY : Int → Int) (n j t : Int) : Prop := ∃ a b c e : Int, (a * e - b * c = 1 ∨ a * e - b * c = -1) ∧ AF PX PY QX QY n j t a b c e
def AFC (PX PY QX QY : Int → Int) (n j t : Int) : Prop := ∃ a b c e : Int, a * e - b * c = t ∧ AF PX PY QX QY n j t a b c e
theorem AF_c {PX PY QX QY PX' PY' QX' QY' : Int → Int} {n j t a b c e : Int} (hn : 0 < n) (hj : 0 ≤ j ∧ j < n) (hP : ∀ k : Int, 0 ≤ k → k < n → PX k = PX' k ∧ PY k = PY' k) (hQ : ∀ k : Int, 0 ≤ k → k < n → QX k = QX' k ∧ QY k = QY' k) (h : AF PX PY QX QY n j t a b c e) : AF PX' PY' QX' QY' n j t a b c e := fun i h0 h1 => by
  have q := h i h0 h1
  have m0 := Int.emod_nonneg (j + t * i) (show n ≠ 0 by omega)
  have m1 := Int.emod_lt_of_pos (j + t * i) hn
  rw [(hP i h0 h1).1, (hP i h0 h1).2, (hP 0 (by omega) hn).1, (hP 0 (by omega) hn).2, (hQ _ m0 m1).1, (hQ _ m0 m1).2, (hQ j hj.1 hj.2).1, (hQ j hj.1 hj.2).2] at q
  exact q
theorem ar0_e {X Y : Int → Int} {n : Int} (hn : 0 < n) (hX : X n = X 0 ∧ Y n = Y 0) : ar0 X Y n = smI (fun i => X i * Y (i + 1) - X (i + 1) * Y i) n := by
  unfold ar0
  refine smI_c (fun i h0 h1 => ?_)
  rw [Int.emod_eq_of_lt h0 h1]
  by_cases e : i + 1 < n
  · rw [Int.emod_eq_of_lt (by omega) e]
  · rw [show i + 1 = n by omega, Int.emod_self, hX.1, hX.2]
theorem AF_ar {PX PY QX QY : Int → Int} {n j t a b c e : Int} (hn : 0 < n) (hj : 0 ≤ j ∧ j < n) (ht : t = 1 ∨ t = -1) (h : AF PX PY QX QY n j t a b c e) : t * ar0 QX QY n = (a * e - b * c) * ar0 PX PY n := by
  have nn : ((n.toNat : Nat) : Int) = n := by omega
  -- both ways, moved
  have t1 := tele (F := fun i => PX (i % n)) (G := fun i => PY (i % n)) (c := PX 0) (d := PY 0) n.toNat
  have t2 := tele (F := fun i => QX ((j + t * i) % n)) (G := fun i => QY ((j + t * i) % n)) (c := QX j) (d := QY j) n.toNat
  rw [nn] at t1 t2
  have z0 : (0 : Int) % n = 0 := Int.zero_emod n
  have zn : n % n = 0 := Int.emod_self
  have j0 : (j + t * 0) % n = j := by rw [Int.mul_zero, Int.add_zero]; exact Int.emod_eq_of_lt hj.1 hj.2
  have jn : (j + t * n) % n = j := by rw [Int.add_mul_emod_self_right]; exact Int.emod_eq_of_lt hj.1 hj.2
  simp only [z0, zn, Int.sub_self, Int.mul_zero, Int.add_zero, Int.sub_zero] at t1
  have jj : j % n = j := Int.emod_eq_of_lt hj.1 hj.2
  simp only [j0, jn, jj, Int.sub_self, Int.mul_zero, Int.add_zero, Int.sub_zero] at t2
  have full : ∀ i : Int, 0 ≤ i → i ≤ n → a * (PX (i % n) - PX 0) + b * (PY (i % n) - PY 0) = QX ((j + t * i) % n) - QX j ∧ c * (PX (i % n) - PX 0) + e * (PY (i % n) - PY 0) = QY ((j + t * i) % n) - QY j := fun i h0 h1 => by
    by_cases w : i = n
    · rw [w, jn, zn]; simp only [Int.sub_self, Int.mul_zero, Int.add_zero]; exact ⟨trivial, trivial⟩
    · rw [Int.emod_eq_of_lt h0 (by omega)]; exact h i h0 (by omega)
  have k1 : smI (fun i => (QX ((j + t * i) % n) - QX j) * (QY ((j + t * (i + 1)) % n) - QY j) - (QX ((j + t * (i + 1)) % n) - QX j) * (QY ((j + t * i) % n) - QY j)) n = (a * e - b * c) * smI (fun i => (PX (i % n) - PX 0) * (PY ((i + 1) % n) - PY 0) - (PX ((i + 1) % n) - PX 0) * (PY (i % n) - PY 0)) n := by
    rw [← smI_mul]
    refine smI_c (fun i h0 h1 => ?_)
    obtain ⟨q1, q2⟩ := full i h0 (by omega)
    obtain ⟨q3, q4⟩ := full (i + 1) (by omega) (by omega)
    rw [← q1, ← q2, ← q3, ← q4]
    grind
  rw [t1, t2] at k1
  have k2 : smI (fun i => QX ((j + t * i) % n) * QY ((j + t * (i + 1)) % n) - QX ((j + t * (i + 1)) % n) * QY ((j + t * i) % n)) n = t * ar0 QX QY n := by
    have per : ∀ i : Int, 0 ≤ i → (fun i : Int => QX (i % n) * QY ((i + 1) % n) - QX ((i + 1) % n) * QY (i % n)) (i + n) = (fun i : Int => QX (i % n) * QY ((i + 1) % n) - QX ((i + 1) % n) * QY (i % n)) i := fun i _ => by
      show QX ((i + n) % n) * QY ((i + n + 1) % n) - QX ((i + n + 1) % n) * QY ((i + n) % n) = _
      rw [show i + n + 1 = i + 1 + n by omega, Int.add_emod_right, Int.add_emod_right]
    have sh := smI_per (f := fun i : Int => QX (i % n) * QY ((i + 1) % n) - QX ((i + 1) % n) * QY (i % n)) (show 0 ≤ n by omega) per j.toNat
    rw [show ((j.toNat : Nat) : Int) = j by omega] at sh
    rcases ht with e1 | e1
    · subst e1
      rw [Int.one_mul]
      refine Eq.trans (smI_c (fun i _ _ => ?_)) sh
      show QX ((j + 1 * i) % n) * QY ((j + 1 * (i + 1)) % n) - QX ((j + 1 * (i + 1)) % n) * QY ((j + 1 * i) % n) = QX ((i + j) % n) * QY ((i + j + 1) % n) - QX ((i + j + 1) % n) * QY ((i + j) % n)
      rw [show j + 1 * i = i + j by omega, show j + 1 * (i + 1) = i + j + 1 by omega]
    · subst e1
      have rv := smI_rev (f := fun i => (-1) * (QX ((i + j) % n) * QY ((i + j + 1) % n) - QX ((i + j + 1) % n) * QY ((i + j) % n))) (show 0 ≤ n by omega)
      have rv := rv.trans smI_mul
      refine Eq.trans (smI_c (fun i _ _ => ?_)) (rv.trans (congrArg (fun z => (-1 : Int) * z) sh))
      show QX ((j + -1 * i) % n) * QY ((j + -1 * (i + 1)) % n) - QX ((j + -1 * (i + 1)) % n) * QY ((j + -1 * i) % n) = (-1) * (QX ((n - 1 - i + j) % n) * QY ((n - 1 - i + j + 1) % n) - QX ((n - 1 - i + j + 1) % n) * QY ((n - 1 - i + j) % n))
      rw [show n - 1 - i + j = j + -1 * (i + 1) + n by omega, show j + -1 * (i + 1) + n + 1 = j + -1 * i + n by omega, Int.add_emod_right, Int.add_emod_right]
      grind
  rw [k2] at k1
  exact k1
theorem tmn {x n : Int} (hn : 0 < n) (h : 0 ≤ x + n) : (x + n).tmod n = x % n := by
  rw [Int.tmod_eq_emod_of_nonneg h, Int.add_emod_right]
theorem tmn2 {x n : Int} (hn : 0 < n) (h : 0 ≤ x + 2 * n) : (x + 2 * n).tmod n = x % n := by
  rw [Int.tmod_eq_emod_of_nonneg h, Int.add_mul_emod_self_right]
theorem tmn3 {x n : Int} (hn : 0 < n) : (x.tmod n + n).tmod n = x % n := by
  have t := tm_c (a := x) hn
  rw [tmn hn (by omega)]
  have e := Int.mul_tdiv_add_tmod x n
  have : x % n = (n * x.tdiv n + x.tmod n) % n := by rw [e]
  rw [this, Int.mul_add_emod_self_left]
theorem ar_m {u : CS} {r : Nat} {i t : Int} (h : 0 ≤ i ∧ i < u.1.2.2.1 r) (ht : t = 1 ∨ t = -1) : ar u r i t = (i + t) % u.1.2.2.1 r := by
  unfold ar
  by_cases a : u.1.2.2.1 r ≤ i + t
  · rw [if_pos a, show i + t = u.1.2.2.1 r by omega, Int.emod_self]
  · rw [if_neg a]
    by_cases b : i + t < 0
    · rw [if_pos b, ← Int.add_emod_right, Int.emod_eq_of_lt (by omega) (by omega)]
      omega
    · rw [if_neg b, Int.emod_eq_of_lt (by omega) (by omega)]
theorem ar_m2 {u : CS} {r : Nat} {s i t : Int} (hn : 0 < u.1.2.2.1 r) (ht : t = 1 ∨ t = -1) : ar u r ((s + t * i) % u.1.2.2.1 r) t = (s + t * (i + 1)) % u.1.2.2.1 r := by
  rw [ar_m ⟨Int.emod_nonneg _ (by omega), Int.emod_lt_of_pos _ hn⟩ ht, Int.emod_add_emod, Int.mul_add, Int.mul_one, Int.add_assoc]
/-- a matrix is told by two places -/
theorem mat_q {ux uy vx vy px qx a b d : Int} (hd : d = ux * vy - uy * vx) (h1 : a * ux + b * uy = px) (h2 : a * vx + b * vy = qx) : px * vy - qx * uy = a * d ∧ qx * ux - px * vx = b * d := by
  subst hd; subst h1; subst h2
  exact ⟨by grind, by grind⟩
theorem mat_t {a d v : Int} (hd : d ≠ 0) (h : v = a * d) : v.tmod d = 0 ∧ v.tdiv d = a := by
  rw [h]
  exact ⟨Int.mul_tmod_left a d, Int.mul_tdiv_cancel a hd⟩
/-! counting -/
def CN2 (F G : Nat → Prop) : Nat → Int → Prop
  | 0, z => z = 0
  | n + 1, z => ∃ w a b : Int, CN2 F G n w ∧ ((a = 1 ∧ F n) ∨ (a = 0 ∧ ¬ F n)) ∧ ((b = 1 ∧ G n) ∨ (b = 0 ∧ ¬ G n)) ∧ z = w + a + b
theorem CN2_u {F G F' G' : Nat → Prop} : ∀ (n : Nat) (z z' : Int), (∀ k : Nat, k < n → (F k ↔ F' k) ∧ (G k ↔ G' k)) → CN2 F G n z → CN2 F' G' n z' → z = z' := by
  intro n
  induction n with
  | zero => intro z z' _ h h'; unfold CN2 at h h'; omega
  | succ n ih =>
    intro z z' he h h'
    obtain ⟨w, a, b, h1, h2, h3, h4⟩ := h
    obtain ⟨w', a', b', h1', h2', h3', h4'⟩ := h'
    have e := ih w w' (fun k hk => he k (by omega)) h1 h1'
    obtain ⟨q1, q2⟩ := he n (by omega)
    rw [q1] at h2
    rw [q2] at h3
    have ea : a = a' := by
      rcases h2 with ⟨x, y⟩ | ⟨x, y⟩ <;> rcases h2' with ⟨x', y'⟩ | ⟨x', y'⟩
      · omega
      · exact absurd y y'
      · exact absurd y' y
      · omega
    have eb : b = b' := by
      rcases h3 with ⟨x, y⟩ | ⟨x, y⟩ <;> rcases h3' with ⟨x', y'⟩ | ⟨x', y'⟩
      · omega
      · exact absurd y y'
      · exact absurd y' y
      · omega
    omega
theorem CN2_0 {F G : Nat → Prop} : ∀ (n : Nat) (z : Int), (∀ k : Nat, k < n → ¬ F k ∧ ¬ G k) → CN2 F G n z → z = 0 := by
  intro n
  induction n with
  | zero => intro z _ h; exact h
  | succ n ih =>
    intro z he h
    obtain ⟨w, a, b, h1, h2, h3, h4⟩ := h
    have e := ih w (fun k hk => he k (by omega)) h1
    obtain ⟨q1, q2⟩ := he n (by omega)
    have ea : a = 0 := by
      rcases h2 with ⟨x, y⟩ | ⟨x, y⟩
      · exact absurd y q1
      · exact x
    have eb : b = 0 := by
      rcases h3 with ⟨x, y⟩ | ⟨x, y⟩
      · exact absurd y q2
      · exact x
    omega
def CN1 (F G : Nat → Prop) : Nat → Int → Prop
  | 0, z => z = 0
  | n + 1, z => ∃ w a : Int, CN1 F G n w ∧ ((a = 1 ∧ F n) ∨ (a = 0 ∧ G n)) ∧ z = w + a
theorem CN1_u {F G F' G' : Nat → Prop} : ∀ (n : Nat) (z z' : Int), (∀ k : Nat, k < n → ¬ (F k ∧ G' k) ∧ ¬ (G k ∧ F' k)) → CN1 F G n z → CN1 F' G' n z' → z = z' := by
  intro n
  induction n with
  | zero => intro z z' _ h h'; unfold CN1 at h h'; omega
  | succ n ih =>
    intro z z' he h h'
    obtain ⟨w, a, h1, h2, h4⟩ := h
    obtain ⟨w', a', h1', h2', h4'⟩ := h'
    have e := ih w w' (fun k hk => he k (by omega)) h1 h1'
    obtain ⟨q1, q2⟩ := he n (by omega)
    have ea : a = a' := by
      rcases h2 with ⟨x, y⟩ | ⟨x, y⟩ <;> rcases h2' with ⟨x', y'⟩ | ⟨x', y'⟩
      · omega
      · exact absurd ⟨y, y'⟩ q1
      · exact absurd ⟨y, y'⟩ q2
      · omega
    omega
/-! the class -/
def cAF (u : CS) (r r2 : Nat) (j t : Int) : Prop := AFC (rx u r) (ry9 u r) (rx u r2) (ry9 u r2) (u.1.2.2.1 r) j t
/-- the corners beside a corner span with it -/
def cWh (u : CS) (r : Nat) : Int := (rx u r 1 - rx u r 0) * (ry9 u r (u.1.2.2.1 r - 1) - ry9 u r 0) - (ry9 u r 1 - ry9 u r 0) * (rx u r (u.1.2.2.1 r - 1) - rx u r 0)
def mbC (u : CS) (r r2 : Nat) (z : Int) : Prop := (¬ (u.1.2.2.1 r = u.1.2.2.1 r2 ∧ rA u r = rA u r2) ∧ z = 0) ∨ ((u.1.2.2.1 r = u.1.2.2.1 r2 ∧ rA u r = rA u r2) ∧ CN2 (fun k => cWh u r ≠ 0 ∧ cAF u r r2 k 1) (fun k => cWh u r ≠ 0 ∧ cAF u r r2 k (-1)) (u.1.2.2.1 r2).toNat z)
def alC (u : CS) (r r2 : Nat) (z : Int) : Prop := (¬ (3 ≤ u.1.2.2.1 r ∧ 3 ≤ u.1.2.2.1 r2) ∧ ((z = 1 ∧ u.1.2.2.1 r = u.1.2.2.1 r2 ∧ rE u r = rE u r2) ∨ (z = 0 ∧ ¬ (u.1.2.2.1 r = u.1.2.2.1 r2 ∧ rE u r = rE u r2)))) ∨ ((3 ≤ u.1.2.2.1 r ∧ 3 ≤ u.1.2.2.1 r2) ∧ ∃ w : Int, mbC u r r2 w ∧ ((z = 1 ∧ 0 < w) ∨ (z = 0 ∧ w ≤ 0)))
def maC (u : CS) (s t z : Int) : Prop := (¬ ((0 ≤ s ∧ s ≤ 7) ∧ 0 ≤ t ∧ t ≤ 7) ∧ z = -1) ∨ (((0 ≤ s ∧ s ≤ 7) ∧ 0 ≤ t ∧ t ≤ 7) ∧ ((¬ (3 ≤ u.1.2.2.1 s.toNat ∧ 3 ≤ u.1.2.2.1 t.toNat) ∧ z = -2) ∨ ((3 ≤ u.1.2.2.1 s.toNat ∧ 3 ≤ u.1.2.2.1 t.toNat) ∧ mbC u s.toNat t.toNat z)))
def akC (u : CS) (s t z : Int) : Prop := (¬ ((0 ≤ s ∧ s ≤ 7) ∧ 0 ≤ t ∧ t ≤ 7) ∧ z = -1) ∨ (((0 ≤ s ∧ s ≤ 7) ∧ 0 ≤ t ∧ t ≤ 7) ∧ alC u s.toNat t.toNat z)
def nhC (u : CS) (i : Nat) : Prop := 3 ≤ u.1.2.2.1 i ∧ ∀ j : Nat, j < i → alC u i j 0
def ohC (u : CS) (i : Nat) : Prop := u.1.2.2.1 i < 3 ∨ ∃ j : Nat, j < i ∧ alC u i j 1
def heC (u : CS) (z : Int) : Prop := CN1 (nhC u) (ohC u) 8 z
/-! the reference -/
def mAF (v : MS) (s o j t : Int) : Prop := AFF (mX v s) (mY v s) (mX v o) (mY v o) (mN v s) j t
def mbM (v : MS) (s o z : Int) : Prop := (mN v s ≠ mN v o ∧ z = 0) ∨ (mN v s = mN v o ∧ CN2 (fun k => mAF v s o k 1) (fun k => mAF v s o k (-1)) (mN v s).toNat z)
def alM (v : MS) (s o z : Int) : Prop := (¬ (2 < mN v s ∧ 2 < mN v o) ∧ ((z = 1 ∧ mN v s = mN v o ∧ (mN v s ≠ 2 ∨ mEd v s = mEd v o)) ∨ (z = 0 ∧ ¬ (mN v s = mN v o ∧ (mN v s ≠ 2 ∨ mEd v s = mEd v o))))) ∨ ((2 < mN v s ∧ 2 < mN v o) ∧ ∃ w : Int, mbM v s o w ∧ ((z = 1 ∧ 0 < w) ∨ (z = 0 ∧ w ≤ 0)))
def maM (v : MS) (s t z : Int) : Prop := (¬ ((0 ≤ s ∧ s ≤ 7) ∧ 0 ≤ t ∧ t ≤ 7) ∧ z = -1) ∨ (((0 ≤ s ∧ s ≤ 7) ∧ 0 ≤ t ∧ t ≤ 7) ∧ ((¬ (2 < mN v s ∧ 2 < mN v t) ∧ z = -2) ∨ ((2 < mN v s ∧ 2 < mN v t) ∧ mbM v s t z)))
def akM (v : MS) (s t z : Int) : Prop := (¬ ((0 ≤ s ∧ s ≤ 7) ∧ 0 ≤ t ∧ t ≤ 7) ∧ z = -1) ∨ (((0 ≤ s ∧ s ≤ 7) ∧ 0 ≤ t ∧ t ≤ 7) ∧ alM v s t z)
def nhM (v : MS) (i : Nat) : Prop := 2 < mN v i ∧ ∀ j : Nat, j < i → alM v i j 0
def ohM (v : MS) (i : Nat) : Prop := mN v i ≤ 2 ∨ ∃ j : Nat, j < i ∧ alM v i j 1
def heM (v : MS) (z : Int) : Prop := CN1 (nhM v) (ohM v) 8 z
/-! both -/
theorem w6 {S : Int → Int → Prop} {n : Int} {X Y : Nat → Int} (h : HS S n X Y) (hn : 3 ≤ n) {a b c : Nat} (ha : (a : Int) < n) (hb : b = nj n a) (hc : c = nj n b) : 0 < cx (X c - X b) (Y c - Y b) (X a - X b) (Y a - Y b) := by
  have q := w3 h hn ha hb
  rw [← hc] at q
  have e : cx (X c - X b) (Y c - Y b) (X a - X b) (Y a - Y b) = cx (X b - X a) (Y b - Y a) (X c - X b) (Y c - Y b) := by unfold cx; grind
  rw [e]; exact q

theorem nx_m {n j : Int} (h : 0 ≤ j ∧ j < n) : (j + 1) % n = (nj n j.toNat : Int) := by
  unfold nj
  by_cases e : j + 1 < n
  · rw [if_pos (by omega), Int.emod_eq_of_lt (by omega) e]; omega
  · rw [if_neg (by omega), show j + 1 = n by omega, Int.emod_self]; rfl
theorem pv_m {n j : Int} (h : 0 ≤ j ∧ j < n) : nj n ((j + -1) % n).toNat = j.toNat ∧ 0 ≤ (j + -1) % n ∧ (j + -1) % n < n := by
  refine ⟨?_, Int.emod_nonneg _ (by omega), Int.emod_lt_of_pos _ (by omega)⟩
  by_cases e : j = 0
  · rw [e, show (0 + -1 : Int) % n = n - 1 from by rw [← Int.add_emod_right, Int.emod_eq_of_lt (by omega) (by omega)]; omega]
    unfold nj; rw [if_neg (by omega)]; rfl
  · rw [Int.emod_eq_of_lt (by omega) (by omega)]
    unfold nj; rw [if_pos (by omega)]; omega
/-- the turn at a corner -/
theorem m_tn {v : MS} {s j : Int} (h : HS (SP v s) (mN v s) (fun a => mX v s a) (fun a => mY v s a)) (hn : 3 ≤ mN v s) (hj : 0 ≤ j ∧ j < mN v s) : 0 < cx (mX v s ((j + 1) % mN v s) - mX v s j) (mY v s ((j + 1) % mN v s) - mY v s j) (mX v s ((j + -1) % mN v s) - mX v s j) (mY v s ((j + -1) % mN v s) - mY v s j) := by
  obtain ⟨p1, p2, p3⟩ := pv_m hj
  have q := w6 (a := ((j + -1) % mN v s).toNat) (b := j.toNat) (c := nj (mN v s) j.toNat) h hn (by omega) p1.symm rfl
  have e1 : ((((j + -1) % mN v s).toNat : Nat) : Int) = (j + -1) % mN v s := by omega
  have e2 : ((j.toNat : Nat) : Int) = j := by omega
  simp only [e1, e2, ← nx_m hj] at q
  exact q
theorem ln_1 {n j t : Int} (ht : t = 1 ∨ t = -1) : (j + t * (n - 1)) % n = (j + -t) % n := by
  rcases ht with e | e
  · rw [e, show j + 1 * (n - 1) = j + -1 + n by omega, Int.add_emod_right]
  · rw [e, show j + -1 * (n - 1) = j + - -1 + (-1) * n by omega, Int.add_mul_emod_self_right]
/-- a map that takes one to the other round about has the determinant of its turn -/
theorem mAF_t {v : MS} {s o j t : Int} (hs : HS (SP v s) (mN v s) (fun a => mX v s a) (fun a => mY v s a)) (ho : HS (SP v o) (mN v o) (fun a => mX v o a) (fun a => mY v o a)) (hn : 3 ≤ mN v s) (he : mN v o = mN v s) (hj : 0 ≤ j ∧ j < mN v s) (ht : t = 1 ∨ t = -1) (h : mAF v s o j t) : AFC (mX v s) (mY v s) (mX v o) (mY v o) (mN v s) j t := by
  obtain ⟨a, b, c, e, hd, hA⟩ := h
  refine ⟨a, b, c, e, ?_, hA⟩
  have T1 := m_tn hs hn (j := 0) (by omega)
  have T2 := m_tn ho (by omega) (j := j) (by omega)
  rw [he] at T2
  obtain ⟨q1, q2⟩ := hA 1 (by omega) (by omega)
  obtain ⟨q3, q4⟩ := hA (mN v s - 1) (by omega) (by omega)
  rw [ln_1 ht] at q3 q4
  rw [Int.mul_one] at q1 q2
  rw [show ((0 : Int) + 1) % mN v s = 1 from Int.emod_eq_of_lt (by omega) (by omega), show ((0 : Int) + -1) % mN v s = mN v s - 1 from by rw [← Int.add_emod_right, Int.emod_eq_of_lt (by omega) (by omega)]; omega] at T1
  have id0 : cx (a * (mX v s 1 - mX v s 0) + b * (mY v s 1 - mY v s 0)) (c * (mX v s 1 - mX v s 0) + e * (mY v s 1 - mY v s 0)) (a * (mX v s (mN v s - 1) - mX v s 0) + b * (mY v s (mN v s - 1) - mY v s 0)) (c * (mX v s (mN v s - 1) - mX v s 0) + e * (mY v s (mN v s - 1) - mY v s 0)) = (a * e - b * c) * cx (mX v s 1 - mX v s 0) (mY v s 1 - mY v s 0) (mX v s (mN v s - 1) - mX v s 0) (mY v s (mN v s - 1) - mY v s 0) := by unfold cx; grind
  rw [q1, q2, q3, q4] at id0
  generalize cx (mX v s 1 - mX v s 0) (mY v s 1 - mY v s 0) (mX v s (mN v s - 1) - mX v s 0) (mY v s (mN v s - 1) - mY v s 0) = W at T1 id0
  rcases ht with e1 | e1
  · rw [e1] at id0 ⊢
    rcases hd with d | d
    · exact d
    · rw [d] at id0; omega
  · rw [e1] at id0 ⊢
    rw [show (j + - -1) = j + 1 by omega] at id0
    have sw := @cx_sw (mX v o ((j + 1) % mN v s) - mX v o j) (mY v o ((j + 1) % mN v s) - mY v o j) (mX v o ((j + -1) % mN v s) - mX v o j) (mY v o ((j + -1) % mN v s) - mY v o j)
    rcases hd with d | d
    · rw [d] at id0; omega
    · exact d
theorem mAr_0 {v : MS} {s : Int} (h : 0 < mN v s) : ar0 (mX v s) (mY v s) (mN v s) = mAr v s := ar0_e h mX_w
theorem mAF_ar {v : MS} {s o j t : Int} (hs : HS (SP v s) (mN v s) (fun a => mX v s a) (fun a => mY v s a)) (ho : HS (SP v o) (mN v o) (fun a => mX v o a) (fun a => mY v o a)) (hn : 3 ≤ mN v s) (he : mN v o = mN v s) (hj : 0 ≤ j ∧ j < mN v s) (ht : t = 1 ∨ t = -1) (h : mAF v s o j t) : mAr v s = mAr v o := by
  obtain ⟨a, b, c, e, hd, hA⟩ := mAF_t hs ho hn he hj ht h
  have q := AF_ar (by omega) hj ht hA
  rw [hd, mAr_0 (by omega), ← he, mAr_0 (by omega)] at q
  rcases ht with e1 | e1
  · rw [e1] at q; omega
  · rw [e1] at q; omega
theorem EQS_h {u : CS} {v : MS} (h : EQS u v) {s : Int} (hs : 0 ≤ s ∧ s ≤ 7) : HS (SP v s) (mN v s) (fun a => mX v s a) (fun a => mY v s a) := by
  have q := (h s.toNat (by omega)).2.2
  rw [show ((s.toNat : Nat) : Int) = s by omega] at q
  exact q
theorem EQS_af {u : CS} {v : MS} (hC : CI u) (h : EQS u v) {s o j t : Int} (hs : 0 ≤ s ∧ s ≤ 7) (ho : 0 ≤ o ∧ o ≤ 7) (hn : 3 ≤ mN v s) (he : mN v o = mN v s) (hj : 0 ≤ j ∧ j < mN v s) (ht : t = 1 ∨ t = -1) : (cWh u s.toNat ≠ 0 ∧ cAF u s.toNat o.toNat j t) ↔ mAF v s o j t := by
  obtain ⟨e1, e2⟩ := EQS_x hC h hs
  obtain ⟨f1, f2⟩ := EQS_x hC h ho
  rw [he] at f1 f2
  constructor
  · rintro ⟨_, a, b, c, e, hd, hA⟩
    rw [e1] at hA
    exact ⟨a, b, c, e, by omega, AF_c (by omega) hj e2 f2 hA⟩
  · intro q
    obtain ⟨a, b, c, e, hd, hA⟩ := mAF_t (EQS_h h hs) (EQS_h h ho) hn he hj ht q
    refine ⟨?_, a, b, c, e, hd, ?_⟩
    · have T1 := m_tn (EQS_h h hs) hn (j := 0) (by omega)
      rw [show ((0 : Int) + 1) % mN v s = 1 from Int.emod_eq_of_lt (by omega) (by omega), show ((0 : Int) + -1) % mN v s = mN v s - 1 from by rw [← Int.add_emod_right, Int.emod_eq_of_lt (by omega) (by omega)]; omega] at T1
      unfold cWh
      rw [e1, (e2 0 (by omega) (by omega)).1, (e2 0 (by omega) (by omega)).2, (e2 1 (by omega) (by omega)).1, (e2 1 (by omega) (by omega)).2, (e2 (mN v s - 1) (by omega) (by omega)).1, (e2 (mN v s - 1) (by omega) (by omega)).2]
      unfold cx at T1
      omega
    · rw [e1]
      exact AF_c (by omega) hj (fun k h0 h1 => ⟨(e2 k h0 h1).1.symm, (e2 k h0 h1).2.symm⟩) (fun k h0 h1 => ⟨(f2 k h0 h1).1.symm, (f2 k h0 h1).2.symm⟩) hA
theorem EQ_mb {u : CS} {v : MS} (hC : CI u) (h : EQS u v) {s o z z' : Int} (hs : 0 ≤ s ∧ s ≤ 7) (ho : 0 ≤ o ∧ o ≤ 7) (hn : 2 < mN v s) (hc : mbC u s.toNat o.toNat z) (hm : mbM v s o z') : z = z' := by
  have e1 := (EQS_x hC h hs).1
  have f1 := (EQS_x hC h ho).1
  have a1 := (EQS_a hC h hs).1
  have b1 := (EQS_a hC h ho).1
  unfold mbC at hc
  rw [e1, f1, a1, b1] at hc
  rcases hc with ⟨c1, c2⟩ | ⟨⟨c1, c2⟩, c3⟩ <;> rcases hm with ⟨d1, d2⟩ | ⟨d1, d2⟩
  · omega
  · have w := CN2_0 _ _ (fun k hk => ⟨fun q => c1 ⟨d1, mAF_ar (EQS_h h hs) (EQS_h h ho) (by omega) (by omega) (by omega) (Or.inl rfl) q⟩, fun q => c1 ⟨d1, mAF_ar (EQS_h h hs) (EQS_h h ho) (by omega) (by omega) (by omega) (Or.inr rfl) q⟩⟩) d2
    omega
  · exact absurd c1 d1
  · rw [← c1] at c3
    exact CN2_u _ _ _ (fun k hk => ⟨EQS_af hC h hs ho (by omega) (by omega) (by omega) (Or.inl rfl), EQS_af hC h hs ho (by omega) (by omega) (by omega) (Or.inr rfl)⟩) c3 d2
theorem EQ_al {u : CS} {v : MS} (hC : CI u) (h : EQS u v) {s o z z' : Int} (hs : 0 ≤ s ∧ s ≤ 7) (ho : 0 ≤ o ∧ o ≤ 7) (hc : alC u s.toNat o.toNat z) (hm : alM v s o z') : z = z' := by
  have e1 := (EQS_x hC h hs).1
  have f1 := (EQS_x hC h ho).1
  have a1 := (EQS_a hC h hs).2.1
  have b1 := (EQS_a hC h ho).2.1
  unfold alC at hc
  rw [e1, f1, a1, b1] at hc
  have n0 := CI_n hC hs
  rcases hc with ⟨c1, c2⟩ | ⟨c1, w, c2, c3⟩ <;> rcases hm with ⟨d1, d2⟩ | ⟨d1, w', d2, d3⟩
  · rcases c2 with ⟨x1, x2, x3⟩ | ⟨x1, x2⟩ <;> rcases d2 with ⟨y1, y2, y3⟩ | ⟨y1, y2⟩
    · omega
    · exact absurd ⟨x2, Or.inr x3⟩ y2
    · rcases y3 with y3 | y3
      · have g1 : mEd v s = mN v s := by unfold mEd; rw [if_pos (by omega)]
        have g2 : mEd v o = mN v o := by unfold mEd; rw [if_pos (by omega)]
        exact absurd ⟨y2, by omega⟩ x2
      · exact absurd ⟨y2, y3⟩ x2
    · omega
  · omega
  · omega
  · have e := EQ_mb hC h hs ho d1.1 c2 d2
    omega
theorem alC_b {u : CS} {r r2 : Nat} {z : Int} (h : alC u r r2 z) : z = 0 ∨ z = 1 := by
  rcases h with ⟨_, h⟩ | ⟨_, w, _, h⟩ <;> omega
theorem EQ_ma {u : CS} {v : MS} {s t z z' : Int} (hC : CI u) (h : EQS u v) (hc : maC u s t z ∧ wRg z) (hm : maM v s t z') : z = z' ∧ wRg z := by
  refine ⟨?_, hc.2⟩
  rcases hc.1 with ⟨a1, a2⟩ | ⟨a1, a2⟩ <;> rcases hm with ⟨b1, b2⟩ | ⟨b1, b2⟩
  · omega
  · exact absurd b1 a1
  · exact absurd a1 b1
  · have e1 := (EQS_x hC h a1.1).1
    have f1 := (EQS_x hC h a1.2).1
    rw [e1, f1] at a2
    rcases a2 with ⟨c1, c2⟩ | ⟨c1, c2⟩ <;> rcases b2 with ⟨d1, d2⟩ | ⟨d1, d2⟩
    · omega
    · omega
    · omega
    · exact EQ_mb hC h a1.1 a1.2 d1.1 c2 d2
theorem EQ_ak {u : CS} {v : MS} {s t z z' : Int} (hC : CI u) (h : EQS u v) (hc : akC u s t z) (hm : akM v s t z') : z = z' ∧ wRg z := by
  rcases hc with ⟨a1, a2⟩ | ⟨a1, a2⟩ <;> rcases hm with ⟨b1, b2⟩ | ⟨b1, b2⟩
  · exact ⟨by omega, by unfold wRg; omega⟩
  · exact absurd b1 a1
  · exact absurd a1 b1
  · have e := EQ_al hC h a1.1 a1.2 a2 b2
    have := alC_b a2
    exact ⟨e, by unfold wRg; omega⟩
theorem EQ_he {u : CS} {v : MS} {z z' : Int} (hC : CI u) (h : EQS u v) (hc : heC u z ∧ 0 ≤ z ∧ z ≤ 8) (hm : heM v z') : z = z' ∧ wRg z := by
  refine ⟨?_, by unfold wRg; omega⟩
  refine CN1_u 8 z z' (fun k hk => ?_) hc.1 hm
  have e1 := (EQS_x hC h (s := (k : Int)) (by omega)).1
  rw [Int.toNat_natCast] at e1
  refine ⟨fun ⟨⟨q1, q2⟩, q3⟩ => ?_, fun ⟨q1, q2, q3⟩ => ?_⟩
  · rcases q3 with q3 | ⟨j, j1, j2⟩
    · omega
    · have w := EQ_al hC h (s := (k : Int)) (o := (j : Int)) (by omega) (by omega) (q2 j j1) j2
      omega
  · rcases q1 with q1 | ⟨j, j1, j2⟩
    · omega
    · have w := EQ_al hC h (s := (k : Int)) (o := (j : Int)) (by omega) (by omega) j2 (q3 j j1)
      omega
/-! the walks' lemmas: the class -/
def FT (u : CS) (r r2 : Nat) (s t px py qx qy nx ny lx ly : Int) : Prop := (px = rx u r 1 - rx u r 0 ∧ py = ry9 u r 1 - ry9 u r 0) ∧ (qx = rx u r (u.1.2.2.1 r - 1) - rx u r 0 ∧ qy = ry9 u r (u.1.2.2.1 r - 1) - ry9 u r 0) ∧ (nx = rx u r2 (ar u r2 s t) - rx u r2 s ∧ ny = ry9 u r2 (ar u r2 s t) - ry9 u r2 s) ∧ (lx = rx u r2 (ar u r2 s (-t)) - rx u r2 s ∧ ly = ry9 u r2 (ar u r2 s (-t)) - ry9 u r2 s)
theorem FT_w {u : CS} {r r2 : Nat} {s t px py qx qy nx ny lx ly : Int} (h : FT u r r2 s t px py qx qy nx ny lx ly) : px * qy - py * qx = cWh u r := by
  obtain ⟨⟨rfl, rfl⟩, ⟨rfl, rfl⟩, _⟩ := h
  rfl
theorem FT_d {u : CS} {r r2 : Nat} {s t px py qx qy nx ny lx ly : Int} (h : FT u r r2 s t px py qx qy nx ny lx ly) (he : u.1.2.2.1 r2 = u.1.2.2.1 r) (hn : 3 ≤ u.1.2.2.1 r) (hs : 0 ≤ s ∧ s < u.1.2.2.1 r) (ht : t = 1 ∨ t = -1) (w : cAF u r r2 s t) : nx * ly - ny * lx = t * cWh u r ∧ ∃ a b c e : Int, AF (rx u r) (ry9 u r) (rx u r2) (ry9 u r2) (u.1.2.2.1 r) s t a b c e ∧ (nx * qy - lx * py = a * cWh u r ∧ lx * px - nx * qx = b * cWh u r) ∧ ny * qy - ly * py = c * cWh u r ∧ ly * px - ny * qx = e * cWh u r := by
  have hw := FT_w h
  obtain ⟨⟨rfl, rfl⟩, ⟨rfl, rfl⟩, ⟨hnx, hny⟩, ⟨hlx, hly⟩⟩ := h
  obtain ⟨a, b, c, e, hd, hA⟩ := w
  obtain ⟨q1, q2⟩ := hA 1 (by omega) (by omega)
  obtain ⟨q3, q4⟩ := hA (u.1.2.2.1 r - 1) (by omega) (by omega)
  rw [ln_1 ht] at q3 q4
  rw [Int.mul_one] at q1 q2
  rw [ar_m (by omega) ht, he] at hnx hny
  rw [ar_m (by omega) (by omega), he] at hlx hly
  rw [← hnx] at q1
  rw [← hny] at q2
  rw [← hlx] at q3
  rw [← hly] at q4
  have k1 := mat_q hw.symm q1 q3
  have k2 := mat_q hw.symm q2 q4
  refine ⟨?_, a, b, c, e, hA, k1, k2⟩
  rw [← hd, ← hw, ← q1, ← q2, ← q3, ← q4]
  grind
theorem FT_y {u : CS} {r r2 : Nat} {s t px py qx qy nx ny lx ly ma mb mc md wh : Int} (h : FT u r r2 s t px py qx qy nx ny lx ly) (hw : wh = cWh u r) (h0 : wh ≠ 0) (hc : nx * ly - ny * lx = t * wh) (ea : ma = nx * qy - lx * py) (eb : mb = lx * px - nx * qx) (ec : mc = ny * qy - ly * py) (ed : md = ly * px - ny * qx) (ta : ma.tmod wh = 0) (tb : mb.tmod wh = 0) (tc : mc.tmod wh = 0) (td : md.tmod wh = 0) (hA : ∀ k : Int, 0 ≤ k → k < u.1.2.2.1 r → ma * (rx u r k - rx u r 0) + mb * (ry9 u r k - ry9 u r 0) = wh * (rx u r2 ((s + t * k) % u.1.2.2.1 r) - rx u r2 s) ∧ mc * (rx u r k - rx u r 0) + md * (ry9 u r k - ry9 u r 0) = wh * (ry9 u r2 ((s + t * k) % u.1.2.2.1 r) - ry9 u r2 s)) : cWh u r ≠ 0 ∧ cAF u r r2 s t := by
  have hww := FT_w h
  rw [← hw] at hww
  have da := tm_dv ta
  have db := tm_dv tb
  have dc := tm_dv tc
  have dd := tm_dv td
  refine ⟨by omega, ma.tdiv wh, mb.tdiv wh, mc.tdiv wh, md.tdiv wh, ?_, fun k k0 k1 => ?_⟩
  · generalize ma.tdiv wh = A at da
    generalize mb.tdiv wh = Bq at db
    generalize mc.tdiv wh = Cq at dc
    generalize md.tdiv wh = Dq at dd
    have i1 : ma * md - mb * mc = wh * (nx * ly - ny * lx) := by rw [ea, eb, ec, ed, ← hww]; grind
    rw [hc, ← da, ← db, ← dc, ← dd] at i1
    have i2 : wh * (wh * (A * Dq - Bq * Cq)) = wh * (wh * t) := by
      rw [Int.mul_comm wh t, ← i1]; grind
    exact Int.eq_of_mul_eq_mul_left h0 (Int.eq_of_mul_eq_mul_left h0 i2)
  · obtain ⟨q1, q2⟩ := hA k k0 k1
    generalize ma.tdiv wh = A at da
    generalize mb.tdiv wh = Bq at db
    generalize mc.tdiv wh = Cq at dc
    generalize md.tdiv wh = Dq at dd
    rw [← da, ← db, Int.mul_assoc, Int.mul_assoc, ← Int.mul_add] at q1
    rw [← dc, ← dd, Int.mul_assoc, Int.mul_assoc, ← Int.mul_add] at q2
    exact ⟨Int.eq_of_mul_eq_mul_left h0 q1, Int.eq_of_mul_eq_mul_left h0 q2⟩
theorem ar_m3 {u : CS} {r r2 : Nat} {s i t z tq : Int} (hz : z = ar u r2 tq t) (htq : tq = (s + t * i) % u.1.2.2.1 r) (he : u.1.2.2.1 r2 = u.1.2.2.1 r) (hn : 3 ≤ u.1.2.2.1 r) (ht : t = 1 ∨ t = -1) : (0 ≤ z ∧ z < u.1.2.2.1 r) ∧ z = (s + t * (i + 1)) % u.1.2.2.1 r := by
  have e9 : z = (s + t * (i + 1)) % u.1.2.2.1 r := by
    rw [hz, htq, ← he]
    exact ar_m2 (by omega) ht
  exact ⟨by rw [e9]; exact ⟨Int.emod_nonneg _ (by omega), Int.emod_lt_of_pos _ (by omega)⟩, e9⟩
theorem CN2_s {F G : Int → Prop} {i z w a b : Int} (h0 : 0 ≤ i) (h : CN2 (fun k => F k) (fun k => G k) i.toNat w) (ha : (a = 1 ∧ F i) ∨ (a = 0 ∧ ¬ F i)) (hb : (b = 1 ∧ G i) ∨ (b = 0 ∧ ¬ G i)) (e : z = w + a + b) : CN2 (fun k => F k) (fun k => G k) (i + 1).toNat z := by
  rw [show (i + 1).toNat = i.toNat + 1 by omega]
  refine ⟨w, a, b, h, ?_, ?_, e⟩
  · show (a = 1 ∧ F (i.toNat : Int)) ∨ (a = 0 ∧ ¬ F (i.toNat : Int))
    rw [show ((i.toNat : Nat) : Int) = i by omega]; exact ha
  · show (b = 1 ∧ G (i.toNat : Int)) ∨ (b = 0 ∧ ¬ G (i.toNat : Int))
    rw [show ((i.toNat : Nat) : Int) = i by omega]; exact hb
theorem CN1_s {F G : Nat → Prop} {i z w a : Int} (h0 : 0 ≤ i) (h : CN1 F G i.toNat w) (ha : (a = 1 ∧ F i.toNat) ∨ (a = 0 ∧ G i.toNat)) (e : z = w + a) : CN1 F G (i + 1).toNat z := by
  rw [show (i + 1).toNat = i.toNat + 1 by omega]
  exact ⟨w, a, h, ha, e⟩
/-! the reference -/
def FM (v : MS) (s o j t ux uy vx vy px py qx qy : Int) : Prop := (ux = mX v s 1 - mX v s 0 ∧ uy = mY v s 1 - mY v s 0) ∧ (vx = mX v s 2 - mX v s 0 ∧ vy = mY v s 2 - mY v s 0) ∧ (px = mX v o ((j + t) % mN v s) - mX v o j ∧ py = mY v o ((j + t) % mN v s) - mY v o j) ∧ (qx = mX v o ((j + 2 * t) % mN v s) - mX v o j ∧ qy = mY v o ((j + 2 * t) % mN v s) - mY v o j)
theorem FM_d {v : MS} {s o j t ux uy vx vy px py qx qy a b c e d : Int} (h : FM v s o j t ux uy vx vy px py qx qy) (hn : 2 < mN v s) (hd : d = ux * vy - uy * vx) (hA : AF (mX v s) (mY v s) (mX v o) (mY v o) (mN v s) j t a b c e) : (px * vy - qx * uy = a * d ∧ qx * ux - px * vx = b * d) ∧ py * vy - qy * uy = c * d ∧ qy * ux - py * vx = e * d := by
  obtain ⟨⟨rfl, rfl⟩, ⟨rfl, rfl⟩, ⟨rfl, rfl⟩, ⟨rfl, rfl⟩⟩ := h
  obtain ⟨q1, q2⟩ := hA 1 (by omega) (by omega)
  obtain ⟨q3, q4⟩ := hA 2 (by omega) (by omega)
  rw [Int.mul_one] at q1 q2
  rw [Int.mul_comm t 2] at q3 q4
  exact ⟨mat_q hd q1 q3, mat_q hd q2 q4⟩
