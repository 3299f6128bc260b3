
/-! least widths -/
def le3 (w a b w' a' b' : Int) : Prop := w < w' ∨ (w = w' ∧ (a < a' ∨ (a = a' ∧ b ≤ b')))
def lt3 (w a b w' a' b' : Int) : Prop := w < w' ∨ (w = w' ∧ (a < a' ∨ (a = a' ∧ b < b')))
theorem le3_t {a b c d e f g h i : Int} (k : le3 a b c d e f) (l : le3 d e f g h i) : le3 a b c g h i := by unfold le3 at *; omega
theorem le3_r {a b c : Int} : le3 a b c a b c := by unfold le3; omega
theorem lt3_n {a b c d e f : Int} (h : ¬ lt3 a b c d e f) : le3 d e f a b c := by unfold lt3 at h; unfold le3; omega
theorem lt3_e {a b c d e f : Int} (h : lt3 a b c d e f) : le3 a b c d e f := by unfold lt3 at h; unfold le3; omega
def way1 (a b : Int) : Prop := (Int.gcd a b : Int) = 1 ∧ (0 < a ∨ (a = 0 ∧ b = 1))
def nrm (a b : Int) : Prop := 0 < a ∨ (a = 0 ∧ 0 < b)
theorem way_nrm {a b : Int} (h : way1 a b) : nrm a b := by unfold way1 at h; unfold nrm; omega
/-! the reference -/
theorem wdM_u {v : MS} {s a b z z' : Int} (h : wdM v s a b z) (h' : wdM v s a b z') : z = z' := by
  obtain ⟨lo, hi, c2, ⟨p, p1, p2, p3⟩, ⟨q, q1, q2, q3⟩, c3⟩ := h
  obtain ⟨lo', hi', d2, ⟨p', p1', p2', p3'⟩, ⟨q', q1', q2', q3'⟩, d3⟩ := h'
  have w1 := d2 p p1 p2
  have w2 := d2 q q1 q2
  have w3 := c2 p' p1' p2'
  have w4 := c2 q' q1' q2'
  omega
theorem wdM_p {v : MS} {s a b z : Int} (h : wdM v s a b z) {i j : Int} (hi : 0 ≤ i ∧ i < mN v s) (hj : 0 ≤ j ∧ j < mN v s) : -z ≤ a * (mX v s i - mX v s j) + b * (mY v s i - mY v s j) ∧ a * (mX v s i - mX v s j) + b * (mY v s i - mY v s j) ≤ z := by
  obtain ⟨lo, hi9, c2, _, _, c3⟩ := h
  have k1 := c2 i hi.1 hi.2
  have k2 := c2 j hj.1 hj.2
  rw [Int.mul_sub, Int.mul_sub]
  omega
theorem wdM_b {v : MS} {s a b z : Int} (hS : Sh v s) (h : wdM v s a b z) (ha : -1 ≤ a ∧ a ≤ 1) (hb : -1 ≤ b ∧ b ≤ 1) : 0 ≤ z ∧ z ≤ 320 := by
  obtain ⟨lo, hi9, c2, ⟨p, p1, p2, p3⟩, ⟨q, q1, q2, q3⟩, c3⟩ := h
  have bp := hS.2.1 (by omega) p p1
  have bq := hS.2.1 (by omega) q q1
  have m1 := mulb (A := 1) (B := 40) ha bp.1
  have m2 := mulb (A := 1) (B := 40) hb bp.2
  have m3 := mulb (A := 1) (B := 40) ha bq.1
  have m4 := mulb (A := 1) (B := 40) hb bq.2
  have := c2 p p1 p2
  omega
/-- what the search has found among the ways in V that are no wider than m -/
def LI (v : MS) (s m : Int) (V : Int → Int → Prop) (be ba bb : Int) : Prop := ((ba = -1000000 ∧ be = m) ∨ (way1 ba bb ∧ wdM v s ba bb be ∧ be ≤ m)) ∧ ∀ a b w : Int, way1 a b → V a b → wdM v s a b w → w ≤ m → way1 ba bb ∧ le3 be ba bb w a b
theorem LI_s {v : MS} {s m be ba bb : Int} {V V' : Int → Int → Prop} (h : LI v s m V be ba bb) (hV : ∀ a b w : Int, way1 a b → V' a b → wdM v s a b w → w ≤ m → V a b) : LI v s m V' be ba bb :=
  ⟨h.1, fun a b w h1 h2 h3 h4 => h.2 a b w h1 (hV a b w h1 h2 h3 h4) h3 h4⟩
theorem LI_k {v : MS} {s m be ba bb a9 b9 z : Int} {V V' : Int → Int → Prop} (h : LI v s m V be ba bb) (hV : ∀ a b : Int, way1 a b → V' a b → V a b ∨ (a = a9 ∧ b = b9)) (hz : wdM v s a9 b9 z) (hc : be < z ∨ (ba ≠ -1000000 ∧ ¬ lt3 z a9 b9 be ba bb)) : LI v s m V' be ba bb := by
  refine ⟨h.1, fun a b w h1 h2 h3 h4 => ?_⟩
  rcases hV a b h1 h2 with q | ⟨q1, q2⟩
  · exact h.2 a b w h1 q h3 h4
  · subst q1; subst q2
    have e := wdM_u h3 hz
    subst e
    have hw : way1 ba bb := by
      rcases h.1 with k | k
      · omega
      · exact k.1
    refine ⟨hw, ?_⟩
    rcases hc with k | k
    · unfold le3; omega
    · exact lt3_n k.2
theorem LI_u {v : MS} {s m be ba bb a9 b9 z : Int} {V V' : Int → Int → Prop} (h : LI v s m V be ba bb) (hV : ∀ a b : Int, way1 a b → V' a b → V a b ∨ (a = a9 ∧ b = b9)) (hz : wdM v s a9 b9 z) (h9 : way1 a9 b9) (hc : z ≤ be ∧ (ba = -1000000 ∨ lt3 z a9 b9 be ba bb)) : LI v s m V' z a9 b9 := by
  have hm : be ≤ m := by
    rcases h.1 with k | k <;> omega
  refine ⟨Or.inr ⟨h9, hz, by omega⟩, fun a b w h1 h2 h3 h4 => ⟨h9, ?_⟩⟩
  rcases hV a b h1 h2 with q | ⟨q1, q2⟩
  · have k := h.2 a b w h1 q h3 h4
    rcases hc.2 with e | e
    · have := k.1.2; omega
    · exact le3_t (lt3_e e) k.2
  · subst q1; subst q2
    have e := wdM_u h3 hz
    subst e
    exact le3_r
def leP (s k n : Int) : Prop := (0 ≤ s ∧ s ≤ 7) ∧ (0 ≤ k ∧ k ≤ 2) ∧ 3 ≤ n
def leM (v : MS) (s k z : Int) : Prop := (¬ leP s k (mN v s) ∧ z = -1000000) ∨ (leP s k (mN v s) ∧ ∃ W A B : Int, way1 A B ∧ wdM v s A B W ∧ (∀ a b w : Int, way1 a b → wdM v s a b w → le3 W A B w a b) ∧ ((k = 0 ∧ z = W) ∨ (k = 1 ∧ z = A) ∨ (k = 2 ∧ z = B)))
/-- the places (of two corners' differences) looked at so far -/
def PL (ux uy vx vy x y : Int) : Int → Int → Prop := fun a b => a * ux + b * uy < x ∨ (a * ux + b * uy = x ∧ a * vx + b * vy < y)
theorem LI_e {v : MS} {s m be ba bb one other x : Int} {ux uy : Int} (hn : 3 ≤ mN v s) (h1 : wdM v s 1 0 one) (h2 : wdM v s 0 1 other) (hm : m = one ∨ m = other) (hu : ux = mX v s 1 - mX v s 0 ∧ uy = mY v s 1 - mY v s 0) (hx : m < x) (h : LI v s m (fun a b => a * ux + b * uy < x) be ba bb) : way1 ba bb ∧ wdM v s ba bb be ∧ ∀ a b w : Int, way1 a b → wdM v s a b w → le3 be ba bb w a b := by
  have w1 : way1 1 0 := ⟨rfl, Or.inl (by omega)⟩
  have w2 : way1 0 1 := ⟨rfl, Or.inr ⟨rfl, rfl⟩⟩
  have all : ∀ a b w : Int, wdM v s a b w → w ≤ m → a * ux + b * uy < x := fun a b w hw hl => by
    have q := wdM_p hw (i := 1) (j := 0) (by omega) (by omega)
    rw [hu.1, hu.2]; omega
  have hw : way1 ba bb := by
    rcases hm with e | e
    · exact (h.2 1 0 one w1 (all _ _ _ h1 (by omega)) h1 (by omega)).1
    · exact (h.2 0 1 other w2 (all _ _ _ h2 (by omega)) h2 (by omega)).1
  have hb : wdM v s ba bb be ∧ be ≤ m := by
    rcases h.1 with k | k
    · have := hw.2; omega
    · exact k.2
  refine ⟨hw, hb.1, fun a b w k1 k2 => ?_⟩
  by_cases g : w ≤ m
  · exact (h.2 a b w k1 (all a b w k2 g) k2 g).2
  · unfold le3; omega
/-! the class -/
theorem spR_p {u : CS} {r : Nat} {a b z : Int} (h : spR u r a b z) {i j : Int} (hi : 0 ≤ i ∧ i < u.1.2.2.1 r) (hj : 0 ≤ j ∧ j < u.1.2.2.1 r) : -z ≤ a * (rx u r i - rx u r j) + b * (ry9 u r i - ry9 u r j) ∧ a * (rx u r i - rx u r j) + b * (ry9 u r i - ry9 u r j) ≤ z := by
  obtain ⟨lo, hi9, c2, _, _, c3⟩ := h
  have k1 := c2 i hi.1 hi.2
  have k2 := c2 j hj.1 hj.2
  rw [Int.mul_sub, Int.mul_sub]
  omega
theorem spR_0 {u : CS} {r : Nat} {a b z : Int} (h : spR u r a b z) : 0 ≤ z := by
  obtain ⟨lo, hi9, c2, ⟨p, p1, p2, p3⟩, _, c3⟩ := h
  have := c2 p p1 p2
  omega
theorem spR_1 {u : CS} {r : Nat} {z K : Int} (hK : 0 ≤ K) (hR : RB K u r) (h : spR u r 0 1 z) : z ≤ 2 * K := by
  obtain ⟨lo, hi9, c2, ⟨p, p1, p2, p3⟩, ⟨q, q1, q2, q3⟩, c3⟩ := h
  have b1 := ry9_b (i := p) hK hR
  have b2 := ry9_b (i := q) hK hR
  omega
def WGH (u : CS) (r : Nat) (a b c a0 b0 c1 a1 b1 : Int) : Prop := (a = 0 ∧ b = 0 ∧ c1 = c ∧ a1 = a0 ∧ b1 = b0) ∨ ∃ p q h : Int, ((p = a ∧ q = b) ∨ (p = -a ∧ q = -b)) ∧ nrm p q ∧ spR u r p q h ∧ ((lt3 h p q c a0 b0 ∧ c1 = h ∧ a1 = p ∧ b1 = q) ∨ (¬ lt3 h p q c a0 b0 ∧ c1 = c ∧ a1 = a0 ∧ b1 = b0))
def cLm (u : CS) (r : Nat) (V : Int → Int → Prop) (c a b : Int) : Prop := nrm a b ∧ spR u r a b c ∧ ∀ p q w : Int, nrm p q → V p q → spR u r p q w → le3 c a b w p q
theorem spR_u {u : CS} {r : Nat} {a b z z' : Int} (h : spR u r a b z) (h' : spR u r a b z') : z = z' := by
  obtain ⟨lo, hi, c2, ⟨p, p1, p2, p3⟩, ⟨q, q1, q2, q3⟩, c3⟩ := h
  obtain ⟨lo', hi', d2, ⟨p', p1', p2', p3'⟩, ⟨q', q1', q2', q3'⟩, d3⟩ := h'
  have w1 := d2 p p1 p2
  have w2 := d2 q q1 q2
  have w3 := c2 p' p1' p2'
  have w4 := c2 q' q1' q2'
  omega
theorem cLm_s {u : CS} {r : Nat} {V V' : Int → Int → Prop} {c a b : Int} (h : cLm u r V c a b) (hV : ∀ p q w : Int, nrm p q → V' p q → spR u r p q w → V p q ∨ c < w) : cLm u r V' c a b := by
  refine ⟨h.1, h.2.1, fun p q w h1 h2 h3 => ?_⟩
  rcases hV p q w h1 h2 h3 with k | k
  · exact h.2.2 p q w h1 k h3
  · unfold le3; omega
theorem cLm_w {u : CS} {r : Nat} {V V' : Int → Int → Prop} {c a0 b0 a b c1 a1 b1 : Int} (h : cLm u r V c a0 b0) (hw : WGH u r a b c a0 b0 c1 a1 b1) (hV : ∀ p q : Int, nrm p q → V' p q → V p q ∨ (p = a ∧ q = b) ∨ (p = -a ∧ q = -b)) : cLm u r V' c1 a1 b1 := by
  rcases hw with ⟨e1, e2, e3, e4, e5⟩ | ⟨p, q, hh, hs, hn, hsp, hc⟩
  · rw [e3, e4, e5]
    refine cLm_s h (fun p q w k1 k2 k3 => ?_)
    rcases hV p q k1 k2 with k | k
    · exact Or.inl k
    · unfold nrm at k1; omega
  · have same : ∀ p' q' : Int, nrm p' q' → ((p' = a ∧ q' = b) ∨ (p' = -a ∧ q' = -b)) → p' = p ∧ q' = q := fun p' q' k1 k2 => by unfold nrm at k1 hn; omega
    rcases hc with ⟨l, e3, e4, e5⟩ | ⟨l, e3, e4, e5⟩
    · rw [e3, e4, e5]
      refine ⟨hn, hsp, fun p' q' w k1 k2 k3 => ?_⟩
      rcases hV p' q' k1 k2 with k | k
      · exact le3_t (lt3_e l) (h.2.2 p' q' w k1 k k3)
      · obtain ⟨s1, s2⟩ := same p' q' k1 k
        subst s1; subst s2
        rw [spR_u k3 hsp]
        exact le3_r
    · rw [e3, e4, e5]
      refine ⟨h.1, h.2.1, fun p' q' w k1 k2 k3 => ?_⟩
      rcases hV p' q' k1 k2 with k | k
      · exact h.2.2 p' q' w k1 k k3
      · obtain ⟨s1, s2⟩ := same p' q' k1 k
        subst s1; subst s2
        rw [spR_u k3 hsp]
        exact lt3_n l
/-- the places looked at so far, either way -/
def PC (px py qx qy m n : Int) : Int → Int → Prop := fun a b => ∃ M N : Int, ((M = a * px + b * py ∧ N = a * qx + b * qy) ∨ (M = -(a * px + b * py) ∧ N = -(a * qx + b * qy))) ∧ 0 ≤ M ∧ (M < m ∨ (M = m ∧ N < n))
theorem cL_0 {u : CS} {r : Nat} {px py qx qy c a0 b0 c1 a1 b1 : Int} (hw : WGH u r 1 0 c a0 b0 c1 a1 b1) (h : nrm a0 b0 ∧ spR u r a0 b0 c) : cLm u r (fun p q => ∃ M N : Int, ((M = p * px + q * py ∧ N = p * qx + q * qy) ∨ (M = -(p * px + q * py) ∧ N = -(p * qx + q * qy))) ∧ 0 ≤ M ∧ M < 0) c1 a1 b1 := by
  have base : cLm u r (fun _ _ => False) c a0 b0 := ⟨h.1, h.2, fun _ _ _ _ k _ => k.elim⟩
  have k := cLm_w (V' := fun _ _ => False) base hw (fun _ _ _ k => k.elim)
  exact ⟨k.1, k.2.1, fun p q w _ ⟨M, N, _, k2, k3⟩ _ => by omega⟩
def leC (u : CS) (s k z : Int) : Prop := (¬ leP s k (u.1.2.2.1 s.toNat) ∧ z = -1000000) ∨ (leP s k (u.1.2.2.1 s.toNat) ∧ (cWh u s.toNat ≠ 0 → ∃ W A B : Int, cLm u s.toNat (fun _ _ => True) W A B ∧ ((k = 0 ∧ z = W) ∨ (k = 1 ∧ z = A) ∨ (k = 2 ∧ z = B))))
/-- the place of a pair is (m, n): it is the one that is weighed, either way -/
theorem PC_at {px py qx qy m n a b d : Int} (hd : d = px * qy - py * qx) (h0 : d ≠ 0) (h : PC px py qx qy m (n + 1) a b) : PC px py qx qy m n a b ∨ ((m * qy - n * py).tmod d = 0 ∧ (n * px - m * qx).tmod d = 0 ∧ ((a = (m * qy - n * py).tdiv d ∧ b = (n * px - m * qx).tdiv d) ∨ (a = -(m * qy - n * py).tdiv d ∧ b = -(n * px - m * qx).tdiv d))) := by
  obtain ⟨M, N, hs, h1, h2⟩ := h
  by_cases e : M = m ∧ N = n
  · right
    obtain ⟨e1, e2⟩ := e
    subst e1; subst e2
    rcases hs with ⟨k1, k2⟩ | ⟨k1, k2⟩
    · obtain ⟨q1, q2⟩ := mat_q hd k1.symm k2.symm
      have t1 := mat_t h0 q1
      have t2 := mat_t h0 q2
      exact ⟨t1.1, t2.1, Or.inl ⟨t1.2.symm, t2.2.symm⟩⟩
    · obtain ⟨q1, q2⟩ := mat_q (a := -a) (b := -b) hd (show -a * px + -b * py = M by rw [k1]; grind) (show -a * qx + -b * qy = N by rw [k2]; grind)
      have t1 := mat_t h0 q1
      have t2 := mat_t h0 q2
      exact ⟨t1.1, t2.1, Or.inr ⟨by omega, by omega⟩⟩
  · exact Or.inl ⟨M, N, hs, h1, by omega⟩
/-! both -/
theorem EQS_sp {u : CS} {v : MS} (hC : CI u) (h : EQS u v) {s a b z : Int} (hs : 0 ≤ s ∧ s ≤ 7) : spR u s.toNat a b z ↔ wdM v s a b z := by
  obtain ⟨e1, e2⟩ := EQS_x hC h hs
  unfold spR wdM
  rw [e1]
  have key : ∀ k : Int, 0 ≤ k → k < mN v s → a * rx u s.toNat k + b * ry9 u s.toNat k = a * mX v s k + b * mY v s k := fun k h0 h1 => by rw [(e2 k h0 h1).1, (e2 k h0 h1).2]
  constructor
  · rintro ⟨lo, hi, c2, ⟨p, p1, p2, p3⟩, ⟨q, q1, q2, q3⟩, c3⟩
    exact ⟨lo, hi, fun k h0 h1 => by rw [← key k h0 h1]; exact c2 k h0 h1, ⟨p, p1, p2, by rw [← key p p1 p2]; exact p3⟩, ⟨q, q1, q2, by rw [← key q q1 q2]; exact q3⟩, c3⟩
  · rintro ⟨lo, hi, c2, ⟨p, p1, p2, p3⟩, ⟨q, q1, q2, q3⟩, c3⟩
    exact ⟨lo, hi, fun k h0 h1 => by rw [key k h0 h1]; exact c2 k h0 h1, ⟨p, p1, p2, by rw [key p p1 p2]; exact p3⟩, ⟨q, q1, q2, by rw [key q q1 q2]; exact q3⟩, c3⟩
theorem EQS_wh {u : CS} {v : MS} (hC : CI u) (h : EQS u v) {s : Int} (hs : 0 ≤ s ∧ s ≤ 7) (hn : 3 ≤ mN v s) : cWh u s.toNat ≠ 0 := by
  obtain ⟨e1, e2⟩ := EQS_x hC h hs
  have T1 := m_tn (EQS_h h hs) hn (j := 0) (by omega)
  rw [show ((0 : Int) + 1) % mN v s = 1 from Int.emod_eq_of_lt (by omega) (by omega), show ((0 : Int) + -1) % mN v s = mN v s - 1 from by rw [← Int.add_emod_right, Int.emod_eq_of_lt (by omega) (by omega)]; omega] at T1
  unfold cWh
  rw [e1, (e2 0 (by omega) (by omega)).1, (e2 0 (by omega) (by omega)).2, (e2 1 (by omega) (by omega)).1, (e2 1 (by omega) (by omega)).2, (e2 (mN v s - 1) (by omega) (by omega)).1, (e2 (mN v s - 1) (by omega) (by omega)).2]
  unfold cx at T1
  omega
/-- a polygon is not flat -/
theorem spR_n {u : CS} {r : Nat} {a b z : Int} (hn : 3 ≤ u.1.2.2.1 r) (hw : cWh u r ≠ 0) (h : spR u r a b z) (hz : z = 0) : a = 0 ∧ b = 0 := by
  have q1 := spR_p h (i := 1) (j := 0) (by omega) (by omega)
  have q2 := spR_p h (i := u.1.2.2.1 r - 1) (j := 0) (by omega) (by omega)
  have k := mat_q (a := a) (b := b) (px := 0) (qx := 0) (d := cWh u r) (ux := rx u r 1 - rx u r 0) (uy := ry9 u r 1 - ry9 u r 0) (vx := rx u r (u.1.2.2.1 r - 1) - rx u r 0) (vy := ry9 u r (u.1.2.2.1 r - 1) - ry9 u r 0) rfl (by omega) (by omega)
  rw [Int.zero_mul, Int.zero_mul, Int.zero_mul, Int.zero_mul] at k
  constructor
  · by_cases e : a = 0
    · exact e
    · have := Int.mul_ne_zero e hw; omega
  · by_cases e : b = 0
    · exact e
    · have := Int.mul_ne_zero e hw; omega
/-- a multiple is wider -/
theorem spR_g {u : CS} {r : Nat} {g a b z : Int} (hg : 0 < g) (h : spR u r (g * a) (g * b) z) : ∃ w : Int, spR u r a b w ∧ z = g * w := by
  obtain ⟨lo, hi, c2, ⟨p, p1, p2, p3⟩, ⟨q, q1, q2, q3⟩, c3⟩ := h
  have e : ∀ k : Int, g * a * rx u r k + g * b * ry9 u r k = g * (a * rx u r k + b * ry9 u r k) := fun k => by grind
  refine ⟨(a * rx u r q + b * ry9 u r q) - (a * rx u r p + b * ry9 u r p), ⟨_, _, fun k h0 h1 => ?_, ⟨p, p1, p2, rfl⟩, ⟨q, q1, q2, rfl⟩, rfl⟩, ?_⟩
  · have w := c2 k h0 h1
    rw [← p3, ← q3, e, e, e] at w
    exact ⟨Int.le_of_mul_le_mul_left w.1 hg, Int.le_of_mul_le_mul_left w.2 hg⟩
  · rw [c3, ← p3, ← q3, e, e, Int.mul_sub]
theorem EQ_le {u : CS} {v : MS} {s k z z' : Int} (hC : CI u) (h : EQS u v) (hc : leC u s k z ∧ wRg z) (hm : leM v s k z') : z = z' ∧ wRg z := by
  refine ⟨?_, hc.2⟩
  have hc1 := hc.1
  unfold leC at hc1
  by_cases hs : 0 ≤ s ∧ s ≤ 7
  · have e1 := (EQS_x hC h hs).1
    rw [e1] at hc1
    rcases hc1 with ⟨a1, a2⟩ | ⟨a1, a2⟩ <;> rcases hm with ⟨b1, b2⟩ | ⟨b1, W', A', B', b2, b3, b4, b5⟩
    · omega
    · exact absurd b1 a1
    · exact absurd a1 b1
    · have hw := EQS_wh hC h hs a1.2.2
      obtain ⟨W, A, B, c1, c2⟩ := a2 hw
      have l1 : le3 W A B W' A' B' := c1.2.2 A' B' W' (way_nrm b2) trivial ((EQS_sp hC h hs).mpr b3)
      have hn3 : 3 ≤ u.1.2.2.1 s.toNat := by have := a1.2.2; omega
      have hway : way1 A B := by
        have n1 := c1.1
        have g0 : 0 < (Int.gcd A B : Int) := gcd_p (by unfold nrm at n1; omega)
        obtain ⟨A2, eA⟩ := Int.gcd_dvd_left A B
        obtain ⟨B2, eB⟩ := Int.gcd_dvd_right A B
        by_cases g1 : (Int.gcd A B : Int) = 1
        · refine ⟨g1, ?_⟩
          rcases n1 with n1 | ⟨n1, n2⟩
          · exact Or.inl n1
          · refine Or.inr ⟨n1, ?_⟩
            rw [n1, Int.gcd_zero_left] at g1
            omega
        · exfalso
          generalize (Int.gcd A B : Int) = g at g0 g1 eA eB
          subst eA; subst eB
          obtain ⟨w, w1, w2⟩ := spR_g g0 c1.2.1
          have nz : nrm A2 B2 := by
            unfold nrm at n1 ⊢
            rcases n1 with n1 | ⟨n1, n2⟩
            · exact Or.inl (Int.pos_of_mul_pos_left (by rw [Int.mul_comm]; exact n1) g0)
            · refine Or.inr ⟨?_, Int.pos_of_mul_pos_left (by rw [Int.mul_comm]; exact n2) g0⟩
              by_cases e : A2 = 0
              · exact e
              · exact absurd n1 (Int.mul_ne_zero (by omega) e)
          have l := c1.2.2 A2 B2 w nz trivial w1
          have w0 := spR_0 w1
          have nz2 : w ≠ 0 := fun e => by
            have := spR_n hn3 hw w1 e
            unfold nrm at nz; omega
          have m := Int.mul_lt_mul_of_pos_right (show 1 < g by omega) (show 0 < w by omega)
          unfold le3 at l
          omega
      have l2 : le3 W' A' B' W A B := b4 A B W hway ((EQS_sp hC h hs).mp c1.2.1)
      unfold le3 at l1 l2
      omega
  · rcases hc1 with ⟨a1, a2⟩ | ⟨a1, _⟩
    · rcases hm with ⟨b1, b2⟩ | ⟨b1, _⟩
      · omega
      · exact absurd b1.1 hs
    · exact absurd a1.1 hs
