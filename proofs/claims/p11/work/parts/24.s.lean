
theorem cx_ts {a b c d e f : Int} (h1 : lp a b) (h2 : lp c d) (h3 : lp e f) (g1 : 0 < cx a b c d) (g2 : 0 ≤ cx c d e f) : 0 < cx a b e f := by
  have hid := cx_id (a := a) (b := b) (c := c) (d := d) (e := e) (f := f)
  have ha : 0 ≤ a := by unfold lp at h1; omega
  have he : 0 ≤ e := by unfold lp at h3; omega
  rcases h2 with h2 | ⟨h2, h2'⟩
  · have p1 : 0 ≤ a * cx c d e f := Int.mul_nonneg ha g2
    have hs : 0 < c * cx a b e f := by
      by_cases q : 0 < e
      · have := Int.mul_pos q g1; omega
      · have e0 : e = 0 := by omega
        have hf : 0 < f := by unfold lp at h3; omega
        subst e0
        have q2 : 0 < cx c d 0 f := by
          have := Int.mul_pos h2 hf
          unfold cx; omega
        have ha2 : 0 < a := by
          by_cases a0 : a = 0
          · exfalso
            have hb : 0 < b := by unfold lp at h1; omega
            have := Int.mul_pos hb h2
            unfold cx at g1; rw [a0] at g1; omega
          · omega
        have := Int.mul_pos ha2 q2
        omega
    exact Int.pos_of_mul_pos_left (by rw [Int.mul_comm]; exact hs) h2
  · subst h2
    unfold cx at g1 g2 ⊢
    have e0 : e = 0 := by
      by_cases q : e = 0
      · exact q
      · have : 0 < d * e := Int.mul_pos h2' (by omega)
        omega
    have hf : 0 < f := by unfold lp at h3; omega
    have ha2 : 0 < a := by
      by_cases a0 : a = 0
      · rw [a0] at g1; omega
      · omega
    have := Int.mul_pos ha2 hf
    rw [e0]; omega
theorem cx_st {a b c d e f : Int} (h1 : lp a b) (h2 : lp c d) (h3 : lp e f) (g1 : 0 ≤ cx a b c d) (g2 : 0 < cx c d e f) : 0 < cx a b e f := by
  by_cases q : 0 < cx a b c d
  · exact cx_ts h1 h2 h3 q (by omega)
  · have q0 : cx a b c d = 0 := by omega
    have hid := cx_id (a := a) (b := b) (c := c) (d := d) (e := e) (f := f)
    have hidy := cx_idy (a := a) (b := b) (c := c) (d := d) (e := e) (f := f)
    rw [q0] at hid hidy
    have ha : 0 ≤ a := by unfold lp at h1; omega
    by_cases a0 : a = 0
    · have hb : 0 < b := by unfold lp at h1; omega
      have hc0 : c = 0 := by
        by_cases qc : c = 0
        · exact qc
        · have : 0 < b * c := Int.mul_pos hb (by unfold lp at h2; omega)
          unfold cx at q0; rw [a0] at q0; omega
      have hd : 0 < d := by unfold lp at h2; omega
      have := Int.mul_pos hb g2
      exact Int.pos_of_mul_pos_left (b := d) (by rw [Int.mul_comm]; omega) hd
    · have p := Int.mul_pos (show 0 < a by omega) g2
      have hc : 0 < c := by
        by_cases qc : c = 0
        · subst qc; omega
        · unfold lp at h2; omega
      exact Int.pos_of_mul_pos_left (b := c) (by rw [Int.mul_comm]; omega) hc
def Lf (a b x y : Int) : Int := a * x + b * y
theorem cone_id {a b ux uy vx vy wx wy : Int} : cx ux uy vx vy * Lf a b wx wy = cx wx wy vx vy * Lf a b ux uy + cx ux uy wx wy * Lf a b vx vy := by unfold cx Lf; grind
/-- two functionals that part two cones with a common way inside -/
theorem cone_0 {a b ux uy vx vy px py qx qy : Int} (hu : lp (-ux) (-uy)) (hv : lp vx vy) (hp : lp (-px) (-py)) (hq : lp qx qy) (c1 : 0 < cx ux uy vx vy) (c2 : 0 < cx px py qx qy) (l1 : 0 ≤ Lf a b ux uy) (l2 : 0 ≤ Lf a b vx vy) (l3 : Lf a b px py ≤ 0) (l4 : Lf a b qx qy ≤ 0) : a = 0 ∧ b = 0 := by
  have n1 : cx vx vy (-ux) (-uy) = cx ux uy vx vy := by unfold cx; grind
  have n2 : cx qx qy (-px) (-py) = cx px py qx qy := by unfold cx; grind
  have n3 : cx vx vy (-px) (-py) = cx px py vx vy := by unfold cx; grind
  have n4 : cx qx qy (-ux) (-uy) = cx ux uy qx qy := by unfold cx; grind
  have zu : Lf a b ux uy = 0 := by
    by_cases q : 0 ≤ cx ux uy px py
    · have k := cx_ts hv hu hp (by rw [n1]; exact c1) (by rw [cx_neg]; exact q)
      rw [n3] at k
      have e := cone_id (a := a) (b := b) (ux := ux) (uy := uy) (vx := vx) (vy := vy) (wx := px) (wy := py)
      have t1 := Int.mul_nonneg q l2
      have t2 : cx ux uy vx vy * Lf a b px py ≤ 0 := Int.mul_nonpos_of_nonneg_of_nonpos (by omega) l3
      apply Classical.byContradiction; intro hn
      have := Int.mul_pos k (show 0 < Lf a b ux uy by omega)
      omega
    · have q2 : 0 ≤ cx px py ux uy := by
        have : cx px py ux uy = -cx ux uy px py := by unfold cx; grind
        omega
      have k := cx_ts hq hp hu (by rw [n2]; exact c2) (by rw [cx_neg]; exact q2)
      rw [n4] at k
      have e := cone_id (a := a) (b := b) (ux := px) (uy := py) (vx := qx) (vy := qy) (wx := ux) (wy := uy)
      have t1 : cx ux uy qx qy * Lf a b px py ≤ 0 := Int.mul_nonpos_of_nonneg_of_nonpos (by omega) l3
      have t2 : cx px py ux uy * Lf a b qx qy ≤ 0 := Int.mul_nonpos_of_nonneg_of_nonpos q2 l4
      apply Classical.byContradiction; intro hn
      have := Int.mul_pos c2 (show 0 < Lf a b ux uy by omega)
      omega
  have zv : Lf a b vx vy = 0 := by
    by_cases q : 0 ≤ cx qx qy vx vy
    · have k := cx_st hq hv hu q (by rw [n1]; exact c1)
      rw [n4] at k
      have e := cone_id (a := a) (b := b) (ux := ux) (uy := uy) (vx := vx) (vy := vy) (wx := qx) (wy := qy)
      rw [zu] at e
      have t2 : cx ux uy vx vy * Lf a b qx qy ≤ 0 := Int.mul_nonpos_of_nonneg_of_nonpos (by omega) l4
      apply Classical.byContradiction; intro hn
      have := Int.mul_pos k (show 0 < Lf a b vx vy by omega)
      omega
    · have q2 : 0 ≤ cx vx vy qx qy := by
        have : cx vx vy qx qy = -cx qx qy vx vy := by unfold cx; grind
        omega
      have k := cx_st hv hq hp q2 (by rw [n2]; exact c2)
      rw [n3] at k
      have e := cone_id (a := a) (b := b) (ux := px) (uy := py) (vx := qx) (vy := qy) (wx := vx) (wy := vy)
      have t1 : cx vx vy qx qy * Lf a b px py ≤ 0 := Int.mul_nonpos_of_nonneg_of_nonpos q2 l3
      have t2 : cx px py vx vy * Lf a b qx qy ≤ 0 := Int.mul_nonpos_of_nonneg_of_nonpos (by omega) l4
      apply Classical.byContradiction; intro hn
      have := Int.mul_pos c2 (show 0 < Lf a b vx vy by omega)
      omega
  have ea : a * cx ux uy vx vy = vy * Lf a b ux uy - uy * Lf a b vx vy := by unfold cx Lf; grind
  have eb : b * cx ux uy vx vy = ux * Lf a b vx vy - vx * Lf a b ux uy := by unfold cx Lf; grind
  rw [zu, zv] at ea eb
  have ea0 : a * cx ux uy vx vy = 0 := by omega
  have eb0 : b * cx ux uy vx vy = 0 := by omega
  refine ⟨?_, ?_⟩
  · rcases Int.mul_eq_zero.mp ea0 with h | h
    · exact h
    · omega
  · rcases Int.mul_eq_zero.mp eb0 with h | h
    · exact h
    · omega
def hI (H : Nat → Int) (s p : Int) : Int := H (40 * s + p).toNat
def tnI (X Y : Nat → Int) (i j k : Int) : Int := tn X Y i.toNat j.toNat k.toNat
def pA (X Y H : Nat → Int) (s i j k p : Int) : Int := (hI H s p - hI H s i) * tnI X Y i j k - (tnI X Y i p k * (hI H s j - hI H s i) + tnI X Y i j p * (hI H s k - hI H s i))
def pS (X Y H : Nat → Int) (s i j k p : Int) : Int := if 0 < tnI X Y i j k then pA X Y H s i j k p else -pA X Y H s i j k p
def PB (f : Nat → Bool) : Nat → Int64
  | 0 => 0
  | n + 1 => PB f n ||| (if f n then (1 : Int64) <<< ((J n).toInt64 &&& 63) else 0)
theorem PB_c {f g : Nat → Bool} {n : Nat} (h : ∀ k, k < n → f k = g k) : PB f n = PB g n := by
  induction n with
  | zero => rfl
  | succ n ih =>
    show PB f n ||| _ = PB g n ||| _
    rw [ih (fun k hk => h k (by omega)), h n (by omega)]
theorem PBp {F : Int → Int} {p : Int} {x : Int64} (hp : 0 ≤ p) (h : x = PB (fun q => decide (F q = 0)) p.toNat) : (F p = 0 → x ||| ((1 : Int64) <<< ((J p).toInt64 &&& 63)) = PB (fun q => decide (F q = 0)) (p + 1).toNat) ∧ (F p ≠ 0 → x ||| 0 = PB (fun q => decide (F q = 0)) (p + 1).toNat) := by
  rw [show (p + 1).toNat = p.toNat + 1 by omega]
  have e : ((p.toNat : Nat) : Int) = p := by omega
  constructor
  · intro hz
    show _ = PB _ p.toNat ||| (if decide (F ((p.toNat : Nat) : Int) = 0) = true then (1 : Int64) <<< ((J ((p.toNat : Nat) : Int)).toInt64 &&& 63) else 0)
    rw [e, ← h, if_pos (decide_eq_true hz)]
  · intro hz
    show _ = PB _ p.toNat ||| (if decide (F ((p.toNat : Nat) : Int) = 0) = true then (1 : Int64) <<< ((J ((p.toNat : Nat) : Int)).toInt64 &&& 63) else 0)
    rw [e, ← h, if_neg (fun q => hz (of_decide_eq_true q))]
def pt (X Y H : Nat → Int) (s n : Int) (b : Int64) (i j k : Int) : Prop := 0 ≤ i ∧ i < j ∧ j < k ∧ k < n ∧ tnI X Y i j k ≠ 0 ∧ (∀ p : Int, 0 ≤ p → p < n → 0 ≤ pS X Y H s i j k p) ∧ b = PB (fun p => decide (pS X Y H s i j k p = 0)) n.toNat
def gd (X Y H : Nat → Int) (s n : Int) (b : Int64) : Prop := ∃ i j k : Int, pt X Y H s n b i j k
theorem pA_lin {X Y H : Nat → Int} {s i j k p : Int} : pA X Y H s i j k p = tnI X Y i j k * (hI H s p - hI H s j) - (((Y k.toNat - Y i.toNat) * (hI H s j - hI H s i) - (Y j.toNat - Y i.toNat) * (hI H s k - hI H s i)) * (X p.toNat - X j.toNat) + (-((X k.toNat - X i.toNat) * (hI H s j - hI H s i)) + (X j.toNat - X i.toNat) * (hI H s k - hI H s i)) * (Y p.toNat - Y j.toNat)) := by
  unfold pA tnI tn; grind
theorem pA_v {X Y H : Nat → Int} {s i j k : Int} : pA X Y H s i j k i = 0 ∧ pA X Y H s i j k k = 0 := by
  unfold pA tnI tn; constructor <;> grind
theorem pS_0 {X Y H : Nat → Int} {s i j k p : Int} : pS X Y H s i j k p = 0 ↔ pA X Y H s i j k p = 0 := by
  unfold pS; split <;> omega
theorem pc_eq {X Y H : Nat → Int} {s n i j k i2 k2 : Int} {b b2 : Int64} (hs : os_s X Y n) (h : pt X Y H s n b i j k) (h2 : pt X Y H s n b2 i2 j k2) (hsg : 0 < tnI X Y i j k ↔ 0 < tnI X Y i2 j k2) : b = b2 := by
  obtain ⟨a1, a2, a3, a4, a5, a6, a7⟩ := h
  obtain ⟨b1, b2', b3, b4, b5, b6, b7⟩ := h2
  have lpx : ∀ x y : Int, 0 ≤ x → x < y → y < n → lp (X y.toNat - X x.toNat) (Y y.toNat - Y x.toNat) := by
    intro x y x0 xy yn
    have := os_lt hs (y.toNat - x.toNat - 1) x.toNat (by omega)
    rw [show x.toNat + (y.toNat - x.toNat - 1) + 1 = y.toNat by omega] at this
    unfold lt2 at this; unfold lp; omega
  have l1 := fun p : Int => pA_lin (X := X) (Y := Y) (H := H) (s := s) (i := i) (j := j) (k := k) (p := p)
  have l2 := fun p : Int => pA_lin (X := X) (Y := Y) (H := H) (s := s) (i := i2) (j := j) (k := k2) (p := p)
  have cv : cx (X k.toNat - X j.toNat) (Y k.toNat - Y j.toNat) (X i.toNat - X j.toNat) (Y i.toNat - Y j.toNat) = tnI X Y i j k := by unfold cx tnI tn; grind
  have cv2 : cx (X k2.toNat - X j.toNat) (Y k2.toNat - Y j.toNat) (X i2.toNat - X j.toNat) (Y i2.toNat - Y j.toNat) = tnI X Y i2 j k2 := by unfold cx tnI tn; grind
  have v1 := pA_v (X := X) (Y := Y) (H := H) (s := s) (i := i) (j := j) (k := k)
  have v2 := pA_v (X := X) (Y := Y) (H := H) (s := s) (i := i2) (j := j) (k := k2)
  have cu : cx (X i.toNat - X j.toNat) (Y i.toNat - Y j.toNat) (X k.toNat - X j.toNat) (Y k.toNat - Y j.toNat) = -tnI X Y i j k := by unfold cx tnI tn; grind
  have cu2 : cx (X i2.toNat - X j.toNat) (Y i2.toNat - Y j.toNat) (X k2.toNat - X j.toNat) (Y k2.toNat - Y j.toNat) = -tnI X Y i2 j k2 := by unfold cx tnI tn; grind
  have m1 := a6 i2 b1 (by omega)
  have m2 := a6 k2 (by omega) b4
  have m3 := b6 i a1 (by omega)
  have m4 := b6 k (by omega) a4
  unfold pS at m1 m2 m3 m4
  generalize hd : tnI X Y i j k = d at *
  generalize hd2 : tnI X Y i2 j k2 = d2 at *
  generalize hA : (Y k.toNat - Y i.toNat) * (hI H s j - hI H s i) - (Y j.toNat - Y i.toNat) * (hI H s k - hI H s i) = A at *
  generalize hB : -((X k.toNat - X i.toNat) * (hI H s j - hI H s i)) + (X j.toNat - X i.toNat) * (hI H s k - hI H s i) = B at *
  generalize hA2 : (Y k2.toNat - Y i2.toNat) * (hI H s j - hI H s i2) - (Y j.toNat - Y i2.toNat) * (hI H s k2 - hI H s i2) = A2 at *
  generalize hB2 : -((X k2.toNat - X i2.toNat) * (hI H s j - hI H s i2)) + (X j.toNat - X i2.toNat) * (hI H s k2 - hI H s i2) = B2 at *
  have hL : ∀ p : Int, Lf (d2 * A - d * A2) (d2 * B - d * B2) (X p.toNat - X j.toNat) (Y p.toNat - Y j.toNat) = d * pA X Y H s i2 j k2 p - d2 * pA X Y H s i j k p := by
    intro p
    rw [l1, l2]
    unfold Lf; grind
  have hz : d2 * A - d * A2 = 0 ∧ d2 * B - d * B2 = 0 := by
    have L1 := hL i
    have L2 := hL k
    have L3 := hL i2
    have L4 := hL k2
    rw [v1.1] at L1
    rw [v1.2] at L2
    rw [v2.1] at L3
    rw [v2.2] at L4
    have wu := lpx i j a1 a2 (by omega)
    have wv := lpx j k (by omega) a3 a4
    have wp := lpx i2 j b1 b2' (by omega)
    have wq := lpx j k2 (by omega) b3 b4
    by_cases hp : 0 < d
    · have hp2 := hsg.mp hp
      rw [if_pos hp] at m1 m2
      rw [if_pos hp2] at m3 m4
      have n1 := Int.mul_nonneg (show 0 ≤ d by omega) m3
      have n2 := Int.mul_nonneg (show 0 ≤ d by omega) m4
      have n3 := Int.mul_nonneg (show 0 ≤ d2 by omega) m1
      have n4 := Int.mul_nonneg (show 0 ≤ d2 by omega) m2
      have ng : ∀ x y : Int, Lf (-(d2 * A - d * A2)) (-(d2 * B - d * B2)) (-x) (-y) = Lf (d2 * A - d * A2) (d2 * B - d * B2) x y := by
        intro x y; unfold Lf; rw [Int.neg_mul_neg, Int.neg_mul_neg]
      have r := cone_0 (a := -(d2 * A - d * A2)) (b := -(d2 * B - d * B2)) (ux := -(X k.toNat - X j.toNat)) (uy := -(Y k.toNat - Y j.toNat)) (vx := -(X i.toNat - X j.toNat)) (vy := -(Y i.toNat - Y j.toNat)) (px := -(X k2.toNat - X j.toNat)) (py := -(Y k2.toNat - Y j.toNat)) (qx := -(X i2.toNat - X j.toNat)) (qy := -(Y i2.toNat - Y j.toNat))
        (by rw [Int.neg_neg, Int.neg_neg]; exact wv) (by rw [Int.neg_sub, Int.neg_sub]; exact wu) (by rw [Int.neg_neg, Int.neg_neg]; exact wq) (by rw [Int.neg_sub, Int.neg_sub]; exact wp)
        (by rw [cx_neg, cv]; exact hp) (by rw [cx_neg, cv2]; exact hp2)
        (by rw [ng, L2]; omega) (by rw [ng, L1]; omega) (by rw [ng, L4]; omega) (by rw [ng, L3]; omega)
      omega
    · have hp2 : ¬ 0 < d2 := fun q => hp (hsg.mpr q)
      rw [if_neg hp] at m1 m2
      rw [if_neg hp2] at m3 m4
      have n1 := Int.mul_nonneg (show 0 ≤ -d by omega) m3
      have n2 := Int.mul_nonneg (show 0 ≤ -d by omega) m4
      have n3 := Int.mul_nonneg (show 0 ≤ -d2 by omega) m1
      have n4 := Int.mul_nonneg (show 0 ≤ -d2 by omega) m2
      rw [Int.neg_mul_neg] at n1 n2 n3 n4
      refine cone_0 (ux := X i.toNat - X j.toNat) (uy := Y i.toNat - Y j.toNat) (vx := X k.toNat - X j.toNat) (vy := Y k.toNat - Y j.toNat) (px := X i2.toNat - X j.toNat) (py := Y i2.toNat - Y j.toNat) (qx := X k2.toNat - X j.toNat) (qy := Y k2.toNat - Y j.toNat)
        (by rw [Int.neg_sub, Int.neg_sub]; exact wu) wv (by rw [Int.neg_sub, Int.neg_sub]; exact wp) wq (by rw [cu]; omega) (by rw [cu2]; omega) (by rw [L1]; omega) (by rw [L2]; omega) (by rw [L3]; omega) (by rw [L4]; omega)
  have hAll : ∀ p : Int, d * pA X Y H s i2 j k2 p = d2 * pA X Y H s i j k p := by
    intro p
    have := hL p
    rw [hz.1, hz.2] at this
    unfold Lf at this
    omega
  rw [a7, b7]
  refine PB_c (fun q _ => ?_)
  have e : pS X Y H s i j k q = 0 ↔ pS X Y H s i2 j k2 q = 0 := by
    rw [pS_0, pS_0]
    have := hAll q
    constructor
    · intro z
      rw [z, Int.mul_zero] at this
      rcases Int.mul_eq_zero.mp this with h | h
      · exact absurd h a5
      · exact h
    · intro z
      rw [z, Int.mul_zero] at this
      rcases Int.mul_eq_zero.mp this.symm with h | h
      · exact absurd h b5
      · exact h
  exact decide_eq_decide.mpr e
/-- the pieces so far: each of a plane below all, no two the same -/
def pz (X Y H : Nat → Int) (s n : Int) (Bb : Nat → Int64) (m : Int) : Prop := 0 ≤ m ∧ (∀ q : Nat, (q : Int) < m → gd X Y H s n (Bb q)) ∧ ∀ q r : Nat, q < r → (r : Int) < m → Bb q ≠ Bb r
theorem pz_80 {X Y H : Nat → Int} {s n m : Int} {Bb : Nat → Int64} (hn : n ≤ 40) (hs : os_s X Y n) (h : pz X Y H s n Bb m) : m ≤ 80 := by
  obtain ⟨h0, h1, h2⟩ := h
  have hch : ∀ q : Nat, ∃ t : Int × Int × Int, (q : Int) < m → pt X Y H s n (Bb q) t.1 t.2.1 t.2.2 := by
    intro q
    by_cases hq : (q : Int) < m
    · obtain ⟨i, j, k, hp⟩ := h1 q hq
      exact ⟨(i, j, k), fun _ => hp⟩
    · exact ⟨(0, 0, 0), fun hc => absurd hc hq⟩
  have hc2 := fun q => Classical.choose_spec (hch q)
  have := fb_holes 80 m.toNat (fun q => 2 * (Classical.choose (hch q)).2.1.toNat + (if 0 < tnI X Y (Classical.choose (hch q)).1 (Classical.choose (hch q)).2.1 (Classical.choose (hch q)).2.2 then 1 else 0)) (fun q hq => by
    have hp := hc2 q (by omega)
    generalize Classical.choose (hch q) = t at hp
    obtain ⟨a1, a2, a3, a4, _⟩ := hp
    split <;> omega) (fun q r hqr hr he => by
    have hp := hc2 q (by omega)
    have hp2 := hc2 r (by omega)
    generalize Classical.choose (hch q) = t at hp he
    generalize Classical.choose (hch r) = t2 at hp2 he
    have hj : t.2.1 = t2.2.1 := by
      have g1 := hp.1
      have g2 := hp.2.1
      have g3 := hp2.1
      have g4 := hp2.2.1
      split at he <;> split at he <;> omega
    have hsg : 0 < tnI X Y t.1 t.2.1 t.2.2 ↔ 0 < tnI X Y t2.1 t2.2.1 t2.2.2 := by
      split at he <;> split at he <;> first | (constructor <;> intro _ <;> assumption) | omega | (constructor <;> intro _ <;> contradiction)
    rw [hj] at hp hsg
    exact h2 q r hqr (by omega) (pc_eq hs hp hp2 hsg))
  omega
/-- the row while one is put in -/
def sh_ (Bb Bc : Nat → Int64) (m a : Int) : Prop := (∀ q : Nat, (q : Int) < a → Bc q = Bb q) ∧ ∀ q : Nat, a ≤ q → (q : Int) < m → Bc (q + 1) = Bb q
theorem sh_0 {Bb : Nat → Int64} {m : Int} : sh_ Bb Bb m m := ⟨fun q _ => rfl, fun q h1 h2 => by omega⟩
theorem sh_s {Bb Bc : Nat → Int64} {m a : Int} (h0 : 0 < a) (hm : a ≤ m) (h : sh_ Bb Bc m a) : sh_ Bb (vp_updL Bc a.toNat (Bc (a - 1).toNat)) m (a + -1) := by
  refine ⟨fun q hq => ?_, fun q h1 h2 => ?_⟩
  · rw [pk_uLn (by omega)]; exact h.1 q (by omega)
  · by_cases e : (q : Int) = a - 1
    · rw [show q + 1 = a.toNat by omega, pk_uLs, show (a - 1).toNat = q by omega]; exact h.1 q (by omega)
    · rw [pk_uLn (by omega)]; exact h.2 q (by omega) h2
theorem pz_s {X Y H : Nat → Int} {s n m a : Int} {Bb Bc : Nat → Int64} {b : Int64} (h : pz X Y H s n Bb m) (hs : sh_ Bb Bc m a) (h0 : 0 ≤ a) (hm : a ≤ m) (hg : gd X Y H s n b) (hne : ∀ q : Nat, (q : Int) < m → Bb q ≠ b) : pz X Y H s n (vp_updL Bc a.toNat b) (m + 1) := by
  obtain ⟨z0, z1, z2⟩ := h
  have f : ∀ q : Nat, (q : Int) < m + 1 → ((q : Int) < a ∧ vp_updL Bc a.toNat b q = Bb q) ∨ ((q : Int) = a ∧ vp_updL Bc a.toNat b q = b) ∨ (a < (q : Int) ∧ vp_updL Bc a.toNat b q = Bb (q - 1)) := by
    intro q hq
    by_cases e1 : (q : Int) < a
    · exact Or.inl ⟨e1, by rw [pk_uLn (by omega)]; exact hs.1 q e1⟩
    · by_cases e2 : (q : Int) = a
      · exact Or.inr (Or.inl ⟨e2, by rw [show q = a.toNat by omega, pk_uLs]⟩)
      · refine Or.inr (Or.inr ⟨by omega, ?_⟩)
        rw [pk_uLn (by omega)]
        have := hs.2 (q - 1) (by omega) (by omega)
        rw [show q - 1 + 1 = q by omega] at this
        exact this
  refine ⟨by omega, fun q hq => ?_, fun q r hqr hr => ?_⟩
  · rcases f q hq with ⟨c, e⟩ | ⟨c, e⟩ | ⟨c, e⟩
    · rw [e]; exact z1 q (by omega)
    · rw [e]; exact hg
    · rw [e]; exact z1 (q - 1) (by omega)
  · rcases f q (by omega) with ⟨c, e⟩ | ⟨c, e⟩ | ⟨c, e⟩
    · rcases f r hr with ⟨c2, e2⟩ | ⟨c2, e2⟩ | ⟨c2, e2⟩
      · rw [e, e2]; exact z2 q r hqr (by omega)
      · rw [e, e2]; exact hne q (by omega)
      · rw [e, e2]; exact z2 q (r - 1) (by omega) (by omega)
    · rcases f r hr with ⟨c2, e2⟩ | ⟨c2, e2⟩ | ⟨c2, e2⟩
      · omega
      · omega
      · rw [e, e2]; exact fun z => hne (r - 1) (by omega) z.symm
    · rcases f r hr with ⟨c2, e2⟩ | ⟨c2, e2⟩ | ⟨c2, e2⟩
      · omega
      · omega
      · rw [e, e2]; exact z2 (q - 1) (r - 1) (by omega) (by omega)
/-! longs as integers -/
def L (z : Int) : Int64 := Int64.ofInt z
theorem L_add (a b : Int) : L a + L b = L (a + b) := (Int64.ofInt_add a b).symm
theorem L_mul (a b : Int) : L a * L b = L (a * b) := (Int64.ofInt_mul a b).symm
theorem L_sub (a b : Int) : L a - L b = L (a - b) := (Int64.ofInt_sub a b).symm
theorem L_toInt {z : Int} (h : -9223372036854775808 ≤ z ∧ z ≤ 9223372036854775807) : (L z).toInt = z := Int64.toInt_ofInt_of_le (by omega) (by omega)
theorem J_L {z : Int} (h : -2147483648 ≤ z ∧ z ≤ 2147483647) : (J z).toInt64 = L z := by
  apply Int64.toInt_inj.mp
  rw [Int32.toInt_toInt64, J_toInt h, L_toInt (by omega)]
theorem L_lt {a b : Int} (ha : -9223372036854775808 ≤ a ∧ a ≤ 9223372036854775807) (hb : -9223372036854775808 ≤ b ∧ b ≤ 9223372036854775807) : L a < L b ↔ a < b := by
  rw [Int64.lt_iff_toInt_lt, L_toInt ha, L_toInt hb]
theorem L_eq {a b : Int} (ha : -9223372036854775808 ≤ a ∧ a ≤ 9223372036854775807) (hb : -9223372036854775808 ≤ b ∧ b ≤ 9223372036854775807) : L a = L b ↔ a = b := by
  constructor
  · intro h
    have h2 := congrArg Int64.toInt h
    rw [L_toInt ha, L_toInt hb] at h2
    exact h2
  · intro h
    rw [h]
theorem L_cmp {a z : Int} (ha : -9223372036854775808 ≤ a ∧ a ≤ 9223372036854775807) (h : -1 ≤ z ∧ z ≤ 1 ∧ (z < 0 ↔ L a < 0) ∧ (z = 0 ↔ L a = 0)) : -1 ≤ z ∧ z ≤ 1 ∧ (z < 0 ↔ a < 0) ∧ (z = 0 ↔ a = 0) := by
  have e0 : (0 : Int64) = L 0 := rfl
  rw [e0, L_lt ha (by omega), L_eq ha (by omega)] at h
  exact h
theorem off_L {d up ot one two hp : Int} (h1 : -2147483648 ≤ d ∧ d ≤ 2147483647) (h2 : -2147483648 ≤ up ∧ up ≤ 2147483647) (h3 : -2147483648 ≤ ot ∧ ot ≤ 2147483647) (h4 : -2147483648 ≤ one ∧ one ≤ 2147483647) (h5 : -2147483648 ≤ two ∧ two ≤ 2147483647) (h6 : -2147483648 ≤ hp ∧ hp ≤ 2147483647) : (J hp).toInt64 * (J d).toInt64 - ((J one).toInt64 * (J up).toInt64 + (J two).toInt64 * (J ot).toInt64) = L (hp * d - (one * up + two * ot)) ∧ (J one).toInt64 * (J up).toInt64 + (J two).toInt64 * (J ot).toInt64 - (J hp).toInt64 * (J d).toInt64 = L (-(hp * d - (one * up + two * ot))) := by
  rw [J_L h1, J_L h2, J_L h3, J_L h4, J_L h5, J_L h6, L_mul, L_mul, L_mul, L_add, L_sub, L_sub]
  refine ⟨rfl, ?_⟩
  congr 1; omega
def bvI (x : Int64) (k : Int) : Int := if (x >>> ((J k).toInt64 &&& 63)) &&& 1 = 1 then 1 else 0
theorem L_and1 (y : Int64) : (y &&& 1 = 0 ∧ (Int64.toInt32 (y &&& 1)).toInt = 0) ∨ (y &&& 1 = 1 ∧ (Int64.toInt32 (y &&& 1)).toInt = 1) := by
  have h1 : (y &&& 1).toBitVec.toNat ≤ 1 := by
    rw [Int64.toBitVec_and, BitVec.toNat_and]
    exact Nat.and_le_right
  have h2 : y &&& 1 = Int64.ofNat (y &&& 1).toBitVec.toNat := by
    apply Int64.toBitVec_inj.mp
    show (y &&& 1).toBitVec = BitVec.ofNat 64 (y &&& 1).toBitVec.toNat
    rw [BitVec.ofNat_toNat, BitVec.setWidth_eq]
  generalize y &&& 1 = w at h1 h2
  generalize w.toBitVec.toNat = n at h1 h2
  subst h2
  have : n = 0 ∨ n = 1 := by omega
  rcases this with e | e <;> subst e
  · exact Or.inl ⟨rfl, by decide +kernel⟩
  · exact Or.inr ⟨rfl, by decide +kernel⟩
theorem bvI_v {x w : Int64} {k : Int} (e : w = x >>> ((J k).toInt64 &&& 63)) : (Int64.toInt32 (w &&& 1)).toInt = bvI x k := by
  unfold bvI
  rw [← e]
  rcases L_and1 w with ⟨h1, h2⟩ | ⟨h1, h2⟩
  · rw [h2, h1, if_neg (by decide +kernel)]
  · rw [h2, h1, if_pos rfl]
theorem bvI_01 {x : Int64} {k : Int} : bvI x k = 0 ∨ bvI x k = 1 := by unfold bvI; split <;> omega

set_option maxHeartbeats 4000000 in
set_option maxRecDepth 100000 in
theorem c_X12_planeOf (l : Launch) (D : JD) (o : Nat) (q : Nat → Nat) (u : MS) (s : Int) (i : Int) (j : Int) (k : Int) (p0 : 0 ≤ s ∧ s ≤ 7) (p1 : 0 ≤ u.2.2 12 ∧ u.2.2 12 ≤ 40) (p2 : bd 40 (u.1 10) (u.1 11) 6561) (p3 : HB (u.1 3)) (p4 : 0 ≤ i ∧ i < u.2.2 12) (p5 : 0 ≤ j ∧ j < u.2.2 12) (p6 : 0 ≤ k ∧ k < u.2.2 12) : Met l yX12_planeOf (jw yX12_planeOf cX12_planeOf 24 (some .long)) (jr 2 46) (jP [.ref o, .int (J s), .int (J i), .int (J j), .int (J k)] D (fun H => va_P D.1 j_cl (mW D o q u) H)) (vp_Sl (fun r => r = 0 ∨ ((∀ p : Int, 0 ≤ p → p < u.2.2 12 → 0 ≤ pS (u.1 10) (u.1 11) (u.1 3) s i j k p) ∧ r = PB (fun p => decide (pS (u.1 10) (u.1 11) (u.1 3) s i j k p = 0)) (u.2.2 12).toNat))) 0 0 (fun _ => False) := by
  refine Met.ofW (cc := cX12_planeOf) (maxL := 24) (ret := (some .long)) (by decide) rfl ?_
  intro pr en st mi args below meth co s₁ B hml hv
  obtain ⟨rfl, hG, hP⟩ := hv
  have hr := B.returns
  have hlk := B.notSynchronized
  have SS : jS pr mi co cX12_planeOf 24 st _ RX12 := ⟨B.exec, B.bytes, hml, findClass_of_methodNamed B.named, fun w hw => atoms_spec (ws := (jw yX12_planeOf cX12_planeOf 24 (some .long))) B.pre w (List.mem_cons_of_mem _ hw)⟩
  have hl := lv_entry ([.ref o, .int (J s), .int (J i), .int (J j), .int (J k)]) (n := 24) (Nat.le_of_ble_eq_true rfl)
  rw [lg_entry_eq]
  generalize (lg_sl ([.ref o, .int (J s), .int (J i), .int (J j), .int (J k)]) ++ List.replicate (24 - (lg_sl ([.ref o, .int (J s), .int (J i), .int (J j), .int (J k)])).length) Slot.unset).toArray = ls at hl ⊢
  have hl : lv_has ls 24 [(0, .ref o), (1, .int (J s)), (2, .int (J i)), (3, .int (J j)), (4, .int (J k))] := hl
  have hH : ∀ z : Int, -1000 ≤ (u.1 3) ((40 * s) + z).toNat ∧ (u.1 3) ((40 * s) + z).toNat ≤ 1000 := fun z => p3 _
  have hi := hH i
  have hj := hH j
  have hk := hH k
  refine lv_aload_n SS.1 SS.2.1 dX12_planeOf_0 rfl (lv_at hl 0 rfl) ?_
  refine lv_iload_n SS.1 SS.2.1 dX12_planeOf_1 rfl (lv_at hl 2 rfl) ?_
  refine lv_iload_n SS.1 SS.2.1 dX12_planeOf_2 rfl (lv_at hl 3 rfl) ?_
  refine lv_iload SS.1 SS.2.1 dX12_planeOf_3 (lv_at hl 4 rfl) ?_
  refine j_vRi SS (As := [.int (J i), .int (J j), .int (J k)]) (rest := []) (c_X12_turn l D o q u i j k (show 0 ≤ i ∧ i < 6561 from (by omega)) (show 0 ≤ j ∧ j < 6561 from (by omega)) (show 0 ≤ k ∧ k < 6561 from (by omega)) (show bd 40 ((u.1 10)) ((u.1 11)) 6561 from (p2))) mf_X12_turn kw_1427 hG hP hP (ci := 8) (q0 := 0) rfl rfl rfl rfl hl.1 ⟨⟨Nat.le_of_ble_eq_true rfl, Nat.le_of_ble_eq_true rfl⟩, Nat.le_of_ble_eq_true rfl, Nat.le_refl _, Nat.le_refl _⟩ rfl dX12_planeOf_5 (fun z_5 h_5 => ?_)
  have h_5 : z_5 = tn ((u.1 10)) ((u.1 11)) i.toNat j.toNat k.toNat ∧ -12800 ≤ z_5 ∧ z_5 ≤ 12800 := h_5
  refine lv_i2l SS.1 SS.2.1 dX12_planeOf_8 rfl ?_
  refine lv_lstore (lv' := [(5, .long ((J z_5).toInt64)), (0, .ref o), (1, .int (J s)), (2, .int (J i)), (3, .int (J j)), (4, .int (J k))]) SS.1 SS.2.1 dX12_planeOf_9 hl (by decide) rfl (fun ls hl => ?_)
  refine lv_aload_n SS.1 SS.2.1 dX12_planeOf_11 rfl (lv_at hl 1 rfl) ?_
  refine j_get SS hG hP 0 (v := .ref (q 3)) (C := RX12) (T := TX12) (N := 31) rfl rfl inX12 3 (by decide) (ref := RX12) kw_1061 rfl rfl dX12_planeOf_12 ?_
  refine j_bipush SS dX12_planeOf_15 (by decide +kernel) ?_
  refine lv_iload_n SS.1 SS.2.1 dX12_planeOf_17 rfl (lv_at hl 2 rfl) ?_
  refine j_imul SS (x := 40) (y := s) dX12_planeOf_18 ?_
  refine lv_iload_n SS.1 SS.2.1 dX12_planeOf_19 rfl (lv_at hl 4 rfl) ?_
  refine j_iadd SS (x := (40 * s)) (y := j) dX12_planeOf_20 ?_
  refine j_iald SS hG hP 4 (n := 320) (f := (u.1 3)) rfl (z := ((40 * s) + j)) (by omega) (by omega) dX12_planeOf_21 ?_
  refine lv_aload_n SS.1 SS.2.1 dX12_planeOf_22 rfl (lv_at hl 1 rfl) ?_
  refine j_get SS hG hP 0 (v := .ref (q 3)) (C := RX12) (T := TX12) (N := 31) rfl rfl inX12 3 (by decide) (ref := RX12) kw_1061 rfl rfl dX12_planeOf_23 ?_
  refine j_bipush SS dX12_planeOf_26 (by decide +kernel) ?_
  refine lv_iload_n SS.1 SS.2.1 dX12_planeOf_28 rfl (lv_at hl 2 rfl) ?_
  refine j_imul SS (x := 40) (y := s) dX12_planeOf_29 ?_
  refine lv_iload_n SS.1 SS.2.1 dX12_planeOf_30 rfl (lv_at hl 3 rfl) ?_
  refine j_iadd SS (x := (40 * s)) (y := i) dX12_planeOf_31 ?_
  refine j_iald SS hG hP 4 (n := 320) (f := (u.1 3)) rfl (z := ((40 * s) + i)) (by omega) (by omega) dX12_planeOf_32 ?_
  refine j_isub SS (x := ((u.1 3) (((40 * s) + j)).toNat)) (y := ((u.1 3) (((40 * s) + i)).toNat)) dX12_planeOf_33 ?_
  obtain ⟨up, eup⟩ : ∃ z : Int, z = (((u.1 3) (((40 * s) + j)).toNat) - ((u.1 3) (((40 * s) + i)).toNat)) := ⟨_, rfl⟩
  rw [← eup]
  refine lv_i2l SS.1 SS.2.1 dX12_planeOf_34 rfl ?_
  refine lv_lstore (lv' := [(7, .long ((J up).toInt64)), (5, .long ((J z_5).toInt64)), (0, .ref o), (1, .int (J s)), (2, .int (J i)), (3, .int (J j)), (4, .int (J k))]) SS.1 SS.2.1 dX12_planeOf_35 hl (by decide) rfl (fun ls hl => ?_)
  refine lv_aload_n SS.1 SS.2.1 dX12_planeOf_37 rfl (lv_at hl 2 rfl) ?_
  refine j_get SS hG hP 0 (v := .ref (q 3)) (C := RX12) (T := TX12) (N := 31) rfl rfl inX12 3 (by decide) (ref := RX12) kw_1061 rfl rfl dX12_planeOf_38 ?_
  refine j_bipush SS dX12_planeOf_41 (by decide +kernel) ?_
  refine lv_iload_n SS.1 SS.2.1 dX12_planeOf_43 rfl (lv_at hl 3 rfl) ?_
  refine j_imul SS (x := 40) (y := s) dX12_planeOf_44 ?_
  refine lv_iload SS.1 SS.2.1 dX12_planeOf_45 (lv_at hl 6 rfl) ?_
  refine j_iadd SS (x := (40 * s)) (y := k) dX12_planeOf_47 ?_
  refine j_iald SS hG hP 4 (n := 320) (f := (u.1 3)) rfl (z := ((40 * s) + k)) (by omega) (by omega) dX12_planeOf_48 ?_
  refine lv_aload_n SS.1 SS.2.1 dX12_planeOf_49 rfl (lv_at hl 2 rfl) ?_
  refine j_get SS hG hP 0 (v := .ref (q 3)) (C := RX12) (T := TX12) (N := 31) rfl rfl inX12 3 (by decide) (ref := RX12) kw_1061 rfl rfl dX12_planeOf_50 ?_
  refine j_bipush SS dX12_planeOf_53 (by decide +kernel) ?_
  refine lv_iload_n SS.1 SS.2.1 dX12_planeOf_55 rfl (lv_at hl 3 rfl) ?_
  refine j_imul SS (x := 40) (y := s) dX12_planeOf_56 ?_
  refine lv_iload_n SS.1 SS.2.1 dX12_planeOf_57 rfl (lv_at hl 4 rfl) ?_
  refine j_iadd SS (x := (40 * s)) (y := i) dX12_planeOf_58 ?_
  refine j_iald SS hG hP 4 (n := 320) (f := (u.1 3)) rfl (z := ((40 * s) + i)) (by omega) (by omega) dX12_planeOf_59 ?_
  refine j_isub SS (x := ((u.1 3) (((40 * s) + k)).toNat)) (y := ((u.1 3) (((40 * s) + i)).toNat)) dX12_planeOf_60 ?_
  obtain ⟨ot, eot⟩ : ∃ z : Int, z = (((u.1 3) (((40 * s) + k)).toNat) - ((u.1 3) (((40 * s) + i)).toNat)) := ⟨_, rfl⟩
  rw [← eot]
  refine lv_i2l SS.1 SS.2.1 dX12_planeOf_61 rfl ?_
  refine lv_lstore (lv' := [(9, .long ((J ot).toInt64)), (7, .long ((J up).toInt64)), (5, .long ((J z_5).toInt64)), (0, .ref o), (1, .int (J s)), (2, .int (J i)), (3, .int (J j)), (4, .int (J k))]) SS.1 SS.2.1 dX12_planeOf_62 hl (by decide) rfl (fun ls hl => ?_)
  refine lv_lconst (v := 0) SS.1 SS.2.1 dX12_planeOf_64 (by decide +kernel) ?_
  refine lv_lstore (lv' := [(11, .long 0), (9, .long ((J ot).toInt64)), (7, .long ((J up).toInt64)), (5, .long ((J z_5).toInt64)), (0, .ref o), (1, .int (J s)), (2, .int (J i)), (3, .int (J j)), (4, .int (J k))]) SS.1 SS.2.1 dX12_planeOf_65 hl (by decide) rfl (fun ls hl => ?_)
  refine j_iconst SS dX12_planeOf_67 ?_
  refine lv_istore (lv' := [(13, .int (J 0)), (11, .long 0), (9, .long ((J ot).toInt64)), (7, .long ((J up).toInt64)), (5, .long ((J z_5).toInt64)), (0, .ref o), (1, .int (J s)), (2, .int (J i)), (3, .int (J j)), (4, .int (J k))]) SS.1 SS.2.1 dX12_planeOf_68 hl (by decide) rfl (fun ls hl => ?_)
  have L_70 : ∀ (nn : Nat) (x : Int64) (p : Int) (ls : Array Slot) (hl : lv_has ls 24 [(0, .ref o), (1, .int (J s)), (2, .int (J i)), (3, .int (J j)), (4, .int (J k)), (5, .long ((J z_5).toInt64)), (7, .long ((J up).toInt64)), (9, .long ((J ot).toInt64)), (11, .long x), (13, .int (J p))]) (i70_0 : 0 ≤ p ∧ p ≤ u.2.2 12) (i70_1 : ∀ q : Int, 0 ≤ q → q < p → 0 ≤ pS (u.1 10) (u.1 11) (u.1 3) s i j k q) (i70_2 : x = PB (fun q => decide (pS (u.1 10) (u.1 11) (u.1 3) s i j k q = 0)) p.toNat), (u.2.2 12 - p).toNat < nn → W pr l en (headSpec (jw yX12_planeOf cX12_planeOf 24 (some .long)) (jr 2 46)).room st mi (([.ref o, .int (J s), .int (J i), .int (J j), .int (J k)] : List Value).toArray) below meth co st.heap [] 0 0 (MQ below (vp_Sl (fun r => r = 0 ∨ ((∀ p : Int, 0 ≤ p → p < u.2.2 12 → 0 ≤ pS (u.1 10) (u.1 11) (u.1 3) s i j k p) ∧ r = PB (fun p => decide (pS (u.1 10) (u.1 11) (u.1 3) s i j k p = 0)) (u.2.2 12).toNat))) (([.ref o, .int (J s), .int (J i), .int (J j), .int (J k)] : List Value).toArray) st 0 0 (fun _ => False)) (F0 mi 70 ls []) := by
    intro nn
    induction nn with
    | zero => intros; omega
    | succ nn ih_70 =>
      intro x p ls hl i70_0 i70_1 i70_2 hm
      refine lv_iload SS.1 SS.2.1 dX12_planeOf_70 (lv_at hl 9 rfl) ?_
      refine lv_aload_n SS.1 SS.2.1 dX12_planeOf_72 rfl (lv_at hl 0 rfl) ?_
      refine j_get SS hG hP 0 (v := .int (J (u.2.2 12))) (C := RX12) (T := TX12) (N := 31) rfl rfl inX12 12 (by decide) (ref := RX12) kw_1070 rfl rfl dX12_planeOf_73 ?_
      refine j_icmp_ge SS (tgt := 202) (x := p) (y := (u.2.2 12)) dX12_planeOf_76 (by decide) (by omega) (by omega) (fun c_76 => ?_) (fun c_76 => ?_)
      · skip
        refine lv_lload SS.1 SS.2.1 dX12_planeOf_202 (lv_at hl 8 rfl) ?_
        exact W.lret SS.1 SS.2.1 hr (fun t ht hW => ⟨_, rfl, (Or.inr ⟨fun q h1 h2 => i70_1 q h1 (by omega), by rw [i70_2, show p = u.2.2 12 by omega]⟩), ht⟩) (fun _ h => nomatch h) dX12_planeOf_204 hlk
      · skip
        refine lv_aload_n SS.1 SS.2.1 dX12_planeOf_79 rfl (lv_at hl 0 rfl) ?_
        refine lv_iload_n SS.1 SS.2.1 dX12_planeOf_80 rfl (lv_at hl 2 rfl) ?_
        refine lv_iload SS.1 SS.2.1 dX12_planeOf_81 (lv_at hl 9 rfl) ?_
        refine lv_iload SS.1 SS.2.1 dX12_planeOf_83 (lv_at hl 4 rfl) ?_
        refine j_vRi SS (As := [.int (J i), .int (J p), .int (J k)]) (rest := []) (c_X12_turn l D o q u i p k (show 0 ≤ i ∧ i < 6561 from (by omega)) (show 0 ≤ p ∧ p < 6561 from (by omega)) (show 0 ≤ k ∧ k < 6561 from (by omega)) (show bd 40 ((u.1 10)) ((u.1 11)) 6561 from (p2))) mf_X12_turn kw_1427 hG hP hP (ci := 8) (q0 := 0) rfl rfl rfl rfl hl.1 ⟨⟨Nat.le_of_ble_eq_true rfl, Nat.le_of_ble_eq_true rfl⟩, Nat.le_of_ble_eq_true rfl, Nat.le_refl _, Nat.le_refl _⟩ rfl dX12_planeOf_85 (fun z_85 h_85 => ?_)
        have h_85 : z_85 = tn ((u.1 10)) ((u.1 11)) i.toNat p.toNat k.toNat ∧ -12800 ≤ z_85 ∧ z_85 ≤ 12800 := h_85
        refine lv_i2l SS.1 SS.2.1 dX12_planeOf_88 rfl ?_
        refine lv_lstore (lv' := [(14, .long ((J z_85).toInt64)), (0, .ref o), (1, .int (J s)), (2, .int (J i)), (3, .int (J j)), (4, .int (J k)), (5, .long ((J z_5).toInt64)), (7, .long ((J up).toInt64)), (9, .long ((J ot).toInt64)), (11, .long x), (13, .int (J p))]) SS.1 SS.2.1 dX12_planeOf_89 hl (by decide) rfl (fun ls hl => ?_)
        refine lv_aload_n SS.1 SS.2.1 dX12_planeOf_91 rfl (lv_at hl 1 rfl) ?_
        refine lv_iload_n SS.1 SS.2.1 dX12_planeOf_92 rfl (lv_at hl 3 rfl) ?_
        refine lv_iload_n SS.1 SS.2.1 dX12_planeOf_93 rfl (lv_at hl 4 rfl) ?_
        refine lv_iload SS.1 SS.2.1 dX12_planeOf_94 (lv_at hl 10 rfl) ?_
        refine j_vRi SS (As := [.int (J i), .int (J j), .int (J p)]) (rest := []) (c_X12_turn l D o q u i j p (show 0 ≤ i ∧ i < 6561 from (by omega)) (show 0 ≤ j ∧ j < 6561 from (by omega)) (show 0 ≤ p ∧ p < 6561 from (by omega)) (show bd 40 ((u.1 10)) ((u.1 11)) 6561 from (p2))) mf_X12_turn kw_1427 hG hP hP (ci := 8) (q0 := 0) rfl rfl rfl rfl hl.1 ⟨⟨Nat.le_of_ble_eq_true rfl, Nat.le_of_ble_eq_true rfl⟩, Nat.le_of_ble_eq_true rfl, Nat.le_refl _, Nat.le_refl _⟩ rfl dX12_planeOf_96 (fun z_96 h_96 => ?_)
        have h_96 : z_96 = tn ((u.1 10)) ((u.1 11)) i.toNat j.toNat p.toNat ∧ -12800 ≤ z_96 ∧ z_96 ≤ 12800 := h_96
        refine lv_i2l SS.1 SS.2.1 dX12_planeOf_99 rfl ?_
        refine lv_lstore (lv' := [(16, .long ((J z_96).toInt64)), (14, .long ((J z_85).toInt64)), (0, .ref o), (1, .int (J s)), (2, .int (J i)), (3, .int (J j)), (4, .int (J k)), (5, .long ((J z_5).toInt64)), (7, .long ((J up).toInt64)), (9, .long ((J ot).toInt64)), (11, .long x), (13, .int (J p))]) SS.1 SS.2.1 dX12_planeOf_100 hl (by decide) rfl (fun ls hl => ?_)
        refine lv_lload SS.1 SS.2.1 dX12_planeOf_102 (lv_at hl 1 rfl) ?_
        refine lv_lload SS.1 SS.2.1 dX12_planeOf_104 (lv_at hl 8 rfl) ?_
        refine lv_lmul SS.1 SS.2.1 dX12_planeOf_106 ?_
        refine lv_lload SS.1 SS.2.1 dX12_planeOf_107 (lv_at hl 0 rfl) ?_
        refine lv_lload SS.1 SS.2.1 dX12_planeOf_109 (lv_at hl 9 rfl) ?_
        refine lv_lmul SS.1 SS.2.1 dX12_planeOf_111 ?_
        refine lv_ladd SS.1 SS.2.1 dX12_planeOf_112 ?_
        refine lv_lstore (lv' := [(18, .long ((((J z_85).toInt64) * ((J up).toInt64)) + (((J z_96).toInt64) * ((J ot).toInt64)))), (16, .long ((J z_96).toInt64)), (14, .long ((J z_85).toInt64)), (0, .ref o), (1, .int (J s)), (2, .int (J i)), (3, .int (J j)), (4, .int (J k)), (5, .long ((J z_5).toInt64)), (7, .long ((J up).toInt64)), (9, .long ((J ot).toInt64)), (11, .long x), (13, .int (J p))]) SS.1 SS.2.1 dX12_planeOf_113 hl (by decide) rfl (fun ls hl => ?_)
        have hq := hH p
        refine lv_aload_n SS.1 SS.2.1 dX12_planeOf_115 rfl (lv_at hl 3 rfl) ?_
        refine j_get SS hG hP 0 (v := .ref (q 3)) (C := RX12) (T := TX12) (N := 31) rfl rfl inX12 3 (by decide) (ref := RX12) kw_1061 rfl rfl dX12_planeOf_116 ?_
        refine j_bipush SS dX12_planeOf_119 (by decide +kernel) ?_
        refine lv_iload_n SS.1 SS.2.1 dX12_planeOf_121 rfl (lv_at hl 4 rfl) ?_
        refine j_imul SS (x := 40) (y := s) dX12_planeOf_122 ?_
        refine lv_iload SS.1 SS.2.1 dX12_planeOf_123 (lv_at hl 12 rfl) ?_
        refine j_iadd SS (x := (40 * s)) (y := p) dX12_planeOf_125 ?_
        refine j_iald SS hG hP 4 (n := 320) (f := (u.1 3)) rfl (z := ((40 * s) + p)) (by omega) (by omega) dX12_planeOf_126 ?_
        refine lv_aload_n SS.1 SS.2.1 dX12_planeOf_127 rfl (lv_at hl 3 rfl) ?_
        refine j_get SS hG hP 0 (v := .ref (q 3)) (C := RX12) (T := TX12) (N := 31) rfl rfl inX12 3 (by decide) (ref := RX12) kw_1061 rfl rfl dX12_planeOf_128 ?_
        refine j_bipush SS dX12_planeOf_131 (by decide +kernel) ?_
        refine lv_iload_n SS.1 SS.2.1 dX12_planeOf_133 rfl (lv_at hl 4 rfl) ?_
        refine j_imul SS (x := 40) (y := s) dX12_planeOf_134 ?_
        refine lv_iload_n SS.1 SS.2.1 dX12_planeOf_135 rfl (lv_at hl 5 rfl) ?_
        refine j_iadd SS (x := (40 * s)) (y := i) dX12_planeOf_136 ?_
        refine j_iald SS hG hP 4 (n := 320) (f := (u.1 3)) rfl (z := ((40 * s) + i)) (by omega) (by omega) dX12_planeOf_137 ?_
        refine j_isub SS (x := ((u.1 3) (((40 * s) + p)).toNat)) (y := ((u.1 3) (((40 * s) + i)).toNat)) dX12_planeOf_138 ?_
        obtain ⟨hp, ehp⟩ : ∃ z : Int, z = (((u.1 3) (((40 * s) + p)).toNat) - ((u.1 3) (((40 * s) + i)).toNat)) := ⟨_, rfl⟩
        rw [← ehp]
        refine lv_i2l SS.1 SS.2.1 dX12_planeOf_139 rfl ?_
        refine lv_lload SS.1 SS.2.1 dX12_planeOf_140 (lv_at hl 8 rfl) ?_
        refine lv_lmul SS.1 SS.2.1 dX12_planeOf_142 ?_
        refine lv_lstore (lv' := [(20, .long (((J hp).toInt64) * ((J z_5).toInt64))), (18, .long ((((J z_85).toInt64) * ((J up).toInt64)) + (((J z_96).toInt64) * ((J ot).toInt64)))), (16, .long ((J z_96).toInt64)), (14, .long ((J z_85).toInt64)), (0, .ref o), (1, .int (J s)), (2, .int (J i)), (3, .int (J j)), (4, .int (J k)), (5, .long ((J z_5).toInt64)), (7, .long ((J up).toInt64)), (9, .long ((J ot).toInt64)), (11, .long x), (13, .int (J p))]) SS.1 SS.2.1 dX12_planeOf_143 hl (by decide) rfl (fun ls hl => ?_)
        have ho := off_L (d := z_5) (up := up) (ot := ot) (one := z_85) (two := z_96) (hp := hp) (by omega) (by omega) (by omega) (by omega) (by omega) (by omega)
        have o1 := mulb (A := 2000) (B := 12800) (a := hp) (b := z_5) (by omega) (by omega)
        have o2 := mulb (A := 12800) (B := 2000) (a := z_85) (b := up) (by omega) (by omega)
        have o3 := mulb (A := 12800) (B := 2000) (a := z_96) (b := ot) (by omega) (by omega)
        have hpA : pA (u.1 10) (u.1 11) (u.1 3) s i j k p = hp * z_5 - (z_85 * up + z_96 * ot) := by rw [ehp, eup, eot, h_5.1, h_85.1, h_96.1]; rfl
        refine lv_lload SS.1 SS.2.1 dX12_planeOf_145 (lv_at hl 9 rfl) ?_
        refine lv_lconst (v := 0) SS.1 SS.2.1 dX12_planeOf_147 (by decide +kernel) ?_
        refine j_lcmp SS dX12_planeOf_148 (fun z_148 hz_148 => ?_)
        rw [show (J z_5).toInt64 = L z_5 from J_L (by omega)] at hz_148
        have hz_148 := L_cmp (by omega) hz_148
        refine j_if_le SS (tgt := 160) (x := z_148) dX12_planeOf_149 (by decide) (by omega) (fun c_149 => ?_) (fun c_149 => ?_)
        · skip
          refine lv_lload SS.1 SS.2.1 dX12_planeOf_160 (lv_at hl 1 rfl) ?_
          refine lv_lload SS.1 SS.2.1 dX12_planeOf_162 (lv_at hl 0 rfl) ?_
          refine lv_lsub SS.1 SS.2.1 dX12_planeOf_164 ?_
          refine lv_lstore (lv' := [(22, .long (((((J z_85).toInt64) * ((J up).toInt64)) + (((J z_96).toInt64) * ((J ot).toInt64))) - (((J hp).toInt64) * ((J z_5).toInt64)))), (20, .long (((J hp).toInt64) * ((J z_5).toInt64))), (18, .long ((((J z_85).toInt64) * ((J up).toInt64)) + (((J z_96).toInt64) * ((J ot).toInt64)))), (16, .long ((J z_96).toInt64)), (14, .long ((J z_85).toInt64)), (0, .ref o), (1, .int (J s)), (2, .int (J i)), (3, .int (J j)), (4, .int (J k)), (5, .long ((J z_5).toInt64)), (7, .long ((J up).toInt64)), (9, .long ((J ot).toInt64)), (11, .long x), (13, .int (J p))]) SS.1 SS.2.1 dX12_planeOf_165 hl (by decide) rfl (fun ls hl => ?_)
          refine lv_lload SS.1 SS.2.1 dX12_planeOf_167 (lv_at hl 0 rfl) ?_
          refine lv_lconst (v := 0) SS.1 SS.2.1 dX12_planeOf_169 (by decide +kernel) ?_
          first | rw [ho.1] | rw [ho.2]
          refine j_lcmp SS dX12_planeOf_170 (fun z_170 hz_170 => ?_)
          have hz_170 := L_cmp (by omega) hz_170
          have hpS : pS (u.1 10) (u.1 11) (u.1 3) s i j k p = if 0 < z_5 then (hp * z_5 - (z_85 * up + z_96 * ot)) else -(hp * z_5 - (z_85 * up + z_96 * ot)) := by unfold pS; rw [hpA, h_5.1]; rfl
          first | rw [if_pos (by omega)] at hpS | rw [if_neg (by omega)] at hpS
          refine j_if_ge SS (tgt := 176) (x := z_170) dX12_planeOf_171 (by decide) (by omega) (fun c_171 => ?_) (fun c_171 => ?_)
          · skip
            refine lv_lload SS.1 SS.2.1 dX12_planeOf_176 (lv_at hl 13 rfl) ?_
            refine lv_lload SS.1 SS.2.1 dX12_planeOf_178 (lv_at hl 0 rfl) ?_
            refine lv_lconst (v := 0) SS.1 SS.2.1 dX12_planeOf_180 (by decide +kernel) ?_
            first | rw [ho.1] | rw [ho.2]
            refine j_lcmp SS dX12_planeOf_181 (fun z_181 hz_181 => ?_)
            have hz_181 := L_cmp (by omega) hz_181
            refine j_if_ne SS (tgt := 192) (x := z_181) dX12_planeOf_182 (by decide) (by omega) (fun c_182 => ?_) (fun c_182 => ?_)
            · skip
              refine lv_lconst (v := 0) SS.1 SS.2.1 dX12_planeOf_192 (by decide +kernel) ?_
              refine lv_lor SS.1 SS.2.1 dX12_planeOf_193 ?_
              refine lv_lstore (lv' := [(11, .long (x ||| 0)), (22, .long (((((J z_85).toInt64) * ((J up).toInt64)) + (((J z_96).toInt64) * ((J ot).toInt64))) - (((J hp).toInt64) * ((J z_5).toInt64)))), (20, .long (((J hp).toInt64) * ((J z_5).toInt64))), (18, .long ((((J z_85).toInt64) * ((J up).toInt64)) + (((J z_96).toInt64) * ((J ot).toInt64)))), (16, .long ((J z_96).toInt64)), (14, .long ((J z_85).toInt64)), (0, .ref o), (1, .int (J s)), (2, .int (J i)), (3, .int (J j)), (4, .int (J k)), (5, .long ((J z_5).toInt64)), (7, .long ((J up).toInt64)), (9, .long ((J ot).toInt64)), (13, .int (J p))]) SS.1 SS.2.1 dX12_planeOf_194 hl (by decide) rfl (fun ls hl => ?_)
              refine lv_iinc (v := J (p + 1)) (lv' := [(13, .int (J (p + 1))), (11, .long (x ||| 0)), (22, .long (((((J z_85).toInt64) * ((J up).toInt64)) + (((J z_96).toInt64) * ((J ot).toInt64))) - (((J hp).toInt64) * ((J z_5).toInt64)))), (20, .long (((J hp).toInt64) * ((J z_5).toInt64))), (18, .long ((((J z_85).toInt64) * ((J up).toInt64)) + (((J z_96).toInt64) * ((J ot).toInt64)))), (16, .long ((J z_96).toInt64)), (14, .long ((J z_85).toInt64)), (0, .ref o), (1, .int (J s)), (2, .int (J i)), (3, .int (J j)), (4, .int (J k)), (5, .long ((J z_5).toInt64)), (7, .long ((J up).toInt64)), (9, .long ((J ot).toInt64))]) SS.1 SS.2.1 dX12_planeOf_196 hl (k := 14) rfl (J_add _ _) (by decide) rfl (fun ls hl => ?_)
              refine lv_goto (tgt := 70) SS.1 SS.2.1 dX12_planeOf_199 (by decide) ?_
              exact ih_70 (x ||| 0) (p + 1) ls (lv_sub hl [7, 8, 9, 10, 11, 12, 13, 14, 1, 0] rfl) (by omega) (fun q h1 h2 => by by_cases e : q = p; (rw [e]; omega); exact i70_1 q h1 (by omega)) (by first | exact (PBp (F := pS (u.1 10) (u.1 11) (u.1 3) s i j k) i70_0.1 i70_2).2 (by omega) | (rw [ex_188]; exact (PBp (F := pS (u.1 10) (u.1 11) (u.1 3) s i j k) i70_0.1 i70_2).1 (by omega))) (by omega)
            · skip
              refine lv_lconst (v := 1) SS.1 SS.2.1 dX12_planeOf_185 (by decide +kernel) ?_
              refine lv_iload SS.1 SS.2.1 dX12_planeOf_186 (lv_at hl 14 rfl) ?_
              refine lv_lshl SS.1 SS.2.1 dX12_planeOf_188 rfl (lv_topl (fun x_188 ex_188 => ?_))
              refine lv_goto (tgt := 193) SS.1 SS.2.1 dX12_planeOf_189 (by decide) ?_
              refine lv_lor SS.1 SS.2.1 dX12_planeOf_193 ?_
              refine lv_lstore (lv' := [(11, .long (x ||| x_188)), (22, .long (((((J z_85).toInt64) * ((J up).toInt64)) + (((J z_96).toInt64) * ((J ot).toInt64))) - (((J hp).toInt64) * ((J z_5).toInt64)))), (20, .long (((J hp).toInt64) * ((J z_5).toInt64))), (18, .long ((((J z_85).toInt64) * ((J up).toInt64)) + (((J z_96).toInt64) * ((J ot).toInt64)))), (16, .long ((J z_96).toInt64)), (14, .long ((J z_85).toInt64)), (0, .ref o), (1, .int (J s)), (2, .int (J i)), (3, .int (J j)), (4, .int (J k)), (5, .long ((J z_5).toInt64)), (7, .long ((J up).toInt64)), (9, .long ((J ot).toInt64)), (13, .int (J p))]) SS.1 SS.2.1 dX12_planeOf_194 hl (by decide) rfl (fun ls hl => ?_)
              refine lv_iinc (v := J (p + 1)) (lv' := [(13, .int (J (p + 1))), (11, .long (x ||| x_188)), (22, .long (((((J z_85).toInt64) * ((J up).toInt64)) + (((J z_96).toInt64) * ((J ot).toInt64))) - (((J hp).toInt64) * ((J z_5).toInt64)))), (20, .long (((J hp).toInt64) * ((J z_5).toInt64))), (18, .long ((((J z_85).toInt64) * ((J up).toInt64)) + (((J z_96).toInt64) * ((J ot).toInt64)))), (16, .long ((J z_96).toInt64)), (14, .long ((J z_85).toInt64)), (0, .ref o), (1, .int (J s)), (2, .int (J i)), (3, .int (J j)), (4, .int (J k)), (5, .long ((J z_5).toInt64)), (7, .long ((J up).toInt64)), (9, .long ((J ot).toInt64))]) SS.1 SS.2.1 dX12_planeOf_196 hl (k := 14) rfl (J_add _ _) (by decide) rfl (fun ls hl => ?_)
              refine lv_goto (tgt := 70) SS.1 SS.2.1 dX12_planeOf_199 (by decide) ?_
              exact ih_70 (x ||| x_188) (p + 1) ls (lv_sub hl [7, 8, 9, 10, 11, 12, 13, 14, 1, 0] rfl) (by omega) (fun q h1 h2 => by by_cases e : q = p; (rw [e]; omega); exact i70_1 q h1 (by omega)) (by first | exact (PBp (F := pS (u.1 10) (u.1 11) (u.1 3) s i j k) i70_0.1 i70_2).2 (by omega) | (rw [ex_188]; exact (PBp (F := pS (u.1 10) (u.1 11) (u.1 3) s i j k) i70_0.1 i70_2).1 (by omega))) (by omega)
          · skip
            refine lv_lconst (v := 0) SS.1 SS.2.1 dX12_planeOf_174 (by decide +kernel) ?_
            exact W.lret SS.1 SS.2.1 hr (fun t ht hW => ⟨_, rfl, (Or.inl rfl), ht⟩) (fun _ h => nomatch h) dX12_planeOf_175 hlk
        · skip
          refine lv_lload SS.1 SS.2.1 dX12_planeOf_152 (lv_at hl 0 rfl) ?_
          refine lv_lload SS.1 SS.2.1 dX12_planeOf_154 (lv_at hl 1 rfl) ?_
          refine lv_lsub SS.1 SS.2.1 dX12_planeOf_156 ?_
          refine lv_goto (tgt := 165) SS.1 SS.2.1 dX12_planeOf_157 (by decide) ?_
          refine lv_lstore (lv' := [(22, .long ((((J hp).toInt64) * ((J z_5).toInt64)) - ((((J z_85).toInt64) * ((J up).toInt64)) + (((J z_96).toInt64) * ((J ot).toInt64))))), (20, .long (((J hp).toInt64) * ((J z_5).toInt64))), (18, .long ((((J z_85).toInt64) * ((J up).toInt64)) + (((J z_96).toInt64) * ((J ot).toInt64)))), (16, .long ((J z_96).toInt64)), (14, .long ((J z_85).toInt64)), (0, .ref o), (1, .int (J s)), (2, .int (J i)), (3, .int (J j)), (4, .int (J k)), (5, .long ((J z_5).toInt64)), (7, .long ((J up).toInt64)), (9, .long ((J ot).toInt64)), (11, .long x), (13, .int (J p))]) SS.1 SS.2.1 dX12_planeOf_165 hl (by decide) rfl (fun ls hl => ?_)
          refine lv_lload SS.1 SS.2.1 dX12_planeOf_167 (lv_at hl 0 rfl) ?_
          refine lv_lconst (v := 0) SS.1 SS.2.1 dX12_planeOf_169 (by decide +kernel) ?_
          first | rw [ho.1] | rw [ho.2]
          refine j_lcmp SS dX12_planeOf_170 (fun z_170 hz_170 => ?_)
          have hz_170 := L_cmp (by omega) hz_170
          have hpS : pS (u.1 10) (u.1 11) (u.1 3) s i j k p = if 0 < z_5 then (hp * z_5 - (z_85 * up + z_96 * ot)) else -(hp * z_5 - (z_85 * up + z_96 * ot)) := by unfold pS; rw [hpA, h_5.1]; rfl
          first | rw [if_pos (by omega)] at hpS | rw [if_neg (by omega)] at hpS
          refine j_if_ge SS (tgt := 176) (x := z_170) dX12_planeOf_171 (by decide) (by omega) (fun c_171 => ?_) (fun c_171 => ?_)
          · skip
            refine lv_lload SS.1 SS.2.1 dX12_planeOf_176 (lv_at hl 13 rfl) ?_
            refine lv_lload SS.1 SS.2.1 dX12_planeOf_178 (lv_at hl 0 rfl) ?_
            refine lv_lconst (v := 0) SS.1 SS.2.1 dX12_planeOf_180 (by decide +kernel) ?_
            first | rw [ho.1] | rw [ho.2]
            refine j_lcmp SS dX12_planeOf_181 (fun z_181 hz_181 => ?_)
            have hz_181 := L_cmp (by omega) hz_181
            refine j_if_ne SS (tgt := 192) (x := z_181) dX12_planeOf_182 (by decide) (by omega) (fun c_182 => ?_) (fun c_182 => ?_)
            · skip
              refine lv_lconst (v := 0) SS.1 SS.2.1 dX12_planeOf_192 (by decide +kernel) ?_
              refine lv_lor SS.1 SS.2.1 dX12_planeOf_193 ?_
              refine lv_lstore (lv' := [(11, .long (x ||| 0)), (22, .long ((((J hp).toInt64) * ((J z_5).toInt64)) - ((((J z_85).toInt64) * ((J up).toInt64)) + (((J z_96).toInt64) * ((J ot).toInt64))))), (20, .long (((J hp).toInt64) * ((J z_5).toInt64))), (18, .long ((((J z_85).toInt64) * ((J up).toInt64)) + (((J z_96).toInt64) * ((J ot).toInt64)))), (16, .long ((J z_96).toInt64)), (14, .long ((J z_85).toInt64)), (0, .ref o), (1, .int (J s)), (2, .int (J i)), (3, .int (J j)), (4, .int (J k)), (5, .long ((J z_5).toInt64)), (7, .long ((J up).toInt64)), (9, .long ((J ot).toInt64)), (13, .int (J p))]) SS.1 SS.2.1 dX12_planeOf_194 hl (by decide) rfl (fun ls hl => ?_)
              refine lv_iinc (v := J (p + 1)) (lv' := [(13, .int (J (p + 1))), (11, .long (x ||| 0)), (22, .long ((((J hp).toInt64) * ((J z_5).toInt64)) - ((((J z_85).toInt64) * ((J up).toInt64)) + (((J z_96).toInt64) * ((J ot).toInt64))))), (20, .long (((J hp).toInt64) * ((J z_5).toInt64))), (18, .long ((((J z_85).toInt64) * ((J up).toInt64)) + (((J z_96).toInt64) * ((J ot).toInt64)))), (16, .long ((J z_96).toInt64)), (14, .long ((J z_85).toInt64)), (0, .ref o), (1, .int (J s)), (2, .int (J i)), (3, .int (J j)), (4, .int (J k)), (5, .long ((J z_5).toInt64)), (7, .long ((J up).toInt64)), (9, .long ((J ot).toInt64))]) SS.1 SS.2.1 dX12_planeOf_196 hl (k := 14) rfl (J_add _ _) (by decide) rfl (fun ls hl => ?_)
              refine lv_goto (tgt := 70) SS.1 SS.2.1 dX12_planeOf_199 (by decide) ?_
              exact ih_70 (x ||| 0) (p + 1) ls (lv_sub hl [7, 8, 9, 10, 11, 12, 13, 14, 1, 0] rfl) (by omega) (fun q h1 h2 => by by_cases e : q = p; (rw [e]; omega); exact i70_1 q h1 (by omega)) (by first | exact (PBp (F := pS (u.1 10) (u.1 11) (u.1 3) s i j k) i70_0.1 i70_2).2 (by omega) | (rw [ex_188]; exact (PBp (F := pS (u.1 10) (u.1 11) (u.1 3) s i j k) i70_0.1 i70_2).1 (by omega))) (by omega)
            · skip
              refine lv_lconst (v := 1) SS.1 SS.2.1 dX12_planeOf_185 (by decide +kernel) ?_
              refine lv_iload SS.1 SS.2.1 dX12_planeOf_186 (lv_at hl 14 rfl) ?_
              refine lv_lshl SS.1 SS.2.1 dX12_planeOf_188 rfl (lv_topl (fun x_188 ex_188 => ?_))
              refine lv_goto (tgt := 193) SS.1 SS.2.1 dX12_planeOf_189 (by decide) ?_
              refine lv_lor SS.1 SS.2.1 dX12_planeOf_193 ?_
              refine lv_lstore (lv' := [(11, .long (x ||| x_188)), (22, .long ((((J hp).toInt64) * ((J z_5).toInt64)) - ((((J z_85).toInt64) * ((J up).toInt64)) + (((J z_96).toInt64) * ((J ot).toInt64))))), (20, .long (((J hp).toInt64) * ((J z_5).toInt64))), (18, .long ((((J z_85).toInt64) * ((J up).toInt64)) + (((J z_96).toInt64) * ((J ot).toInt64)))), (16, .long ((J z_96).toInt64)), (14, .long ((J z_85).toInt64)), (0, .ref o), (1, .int (J s)), (2, .int (J i)), (3, .int (J j)), (4, .int (J k)), (5, .long ((J z_5).toInt64)), (7, .long ((J up).toInt64)), (9, .long ((J ot).toInt64)), (13, .int (J p))]) SS.1 SS.2.1 dX12_planeOf_194 hl (by decide) rfl (fun ls hl => ?_)
              refine lv_iinc (v := J (p + 1)) (lv' := [(13, .int (J (p + 1))), (11, .long (x ||| x_188)), (22, .long ((((J hp).toInt64) * ((J z_5).toInt64)) - ((((J z_85).toInt64) * ((J up).toInt64)) + (((J z_96).toInt64) * ((J ot).toInt64))))), (20, .long (((J hp).toInt64) * ((J z_5).toInt64))), (18, .long ((((J z_85).toInt64) * ((J up).toInt64)) + (((J z_96).toInt64) * ((J ot).toInt64)))), (16, .long ((J z_96).toInt64)), (14, .long ((J z_85).toInt64)), (0, .ref o), (1, .int (J s)), (2, .int (J i)), (3, .int (J j)), (4, .int (J k)), (5, .long ((J z_5).toInt64)), (7, .long ((J up).toInt64)), (9, .long ((J ot).toInt64))]) SS.1 SS.2.1 dX12_planeOf_196 hl (k := 14) rfl (J_add _ _) (by decide) rfl (fun ls hl => ?_)
              refine lv_goto (tgt := 70) SS.1 SS.2.1 dX12_planeOf_199 (by decide) ?_
              exact ih_70 (x ||| x_188) (p + 1) ls (lv_sub hl [7, 8, 9, 10, 11, 12, 13, 14, 1, 0] rfl) (by omega) (fun q h1 h2 => by by_cases e : q = p; (rw [e]; omega); exact i70_1 q h1 (by omega)) (by first | exact (PBp (F := pS (u.1 10) (u.1 11) (u.1 3) s i j k) i70_0.1 i70_2).2 (by omega) | (rw [ex_188]; exact (PBp (F := pS (u.1 10) (u.1 11) (u.1 3) s i j k) i70_0.1 i70_2).1 (by omega))) (by omega)
          · skip
            refine lv_lconst (v := 0) SS.1 SS.2.1 dX12_planeOf_174 (by decide +kernel) ?_
            exact W.lret SS.1 SS.2.1 hr (fun t ht hW => ⟨_, rfl, (Or.inl rfl), ht⟩) (fun _ h => nomatch h) dX12_planeOf_175 hlk
  exact L_70 ((u.2.2 12 - (0 : Int)).toNat + 1) 0 0 ls (lv_sub hl [5, 6, 7, 8, 9, 4, 3, 2, 1, 0] rfl) (by omega) (fun q h1 h2 => by omega) (rfl) (Nat.lt_succ_self _)

