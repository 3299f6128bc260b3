
theorem cx_ts {a b c d e f : Int} (h1 : lp a b) (h2 : lp c d) (h3 : lp e f) (g1 : 0 < cx a b c d) (g2 : 0 ≤ cx c d e f) : 0 < cx a b e f := by
  have hid := cx_id (a := a) (b := b) (c := c) (d := d) (e := e) (f := f)
  have ha : 0 ≤ a := by unfold lp at h1; omega
  have he : 0 ≤ e := by unfold lp at h3; omega
  rcases h2 with h2 | ⟨h2, h2'⟩
  · have p1 : 0 ≤ a * cx c d e f := Int.mul_nonneg ha g2
    have hs : 0 < c * cx a b e f := by
      by_cases q : 0 < e
      · have := Int.mul_pos q g1; omega
      · have e0 : e = 0 := by omega
        have hf : 0 < f := by unfold lp at h3; omega
        subst e0
        have q2 : 0 < cx c d 0 f := by
          have := Int.mul_pos h2 hf
          unfold cx; omega
        have ha2 : 0 < a := by
          by_cases a0 : a = 0
          · exfalso
            have hb : 0 < b := by unfold lp at h1; omega
            have := Int.mul_pos hb h2
            unfold cx at g1; rw [a0] at g1; omega
          · omega
        have := Int.mul_pos ha2 q2
        omega
    exact Int.pos_of_mul_pos_left (by rw [Int.mul_comm]; exact hs) h2
  · subst h2
    unfold cx at g1 g2 ⊢
    have e0 : e = 0 := by
      by_cases q : e = 0
      · exact q
      · have : 0 < d * e := Int.mul_pos h2' (by omega)
        omega
    have hf : 0 < f := by unfold lp at h3; omega
    have ha2 : 0 < a := by
      by_cases a0 : a = 0
      · rw [a0] at g1; omega
      · omega
    have := Int.mul_pos ha2 hf
    rw [e0]; omega
theorem cx_st {a b c d e f : Int} (h1 : lp a b) (h2 : lp c d) (h3 : lp e f) (g1 : 0 ≤ cx a b c d) (g2 : 0 < cx c d e f) : 0 < cx a b e f := by
  by_cases q : 0 < cx a b c d
  · exact cx_ts h1 h2 h3 q (by omega)
  · have q0 : cx a b c d = 0 := by omega
    have hid := cx_id (a := a) (b := b) (c := c) (d := d) (e := e) (f := f)
    have hidy := cx_idy (a := a) (b := b) (c := c) (d := d) (e := e) (f := f)
    rw [q0] at hid hidy
    have ha : 0 ≤ a := by unfold lp at h1; omega
    by_cases a0 : a = 0
    · have hb : 0 < b := by unfold lp at h1; omega
      have hc0 : c = 0 := by
        by_cases qc : c = 0
        · exact qc
        · have : 0 < b * c := Int.mul_pos hb (by unfold lp at h2; omega)
          unfold cx at q0; rw [a0] at q0; omega
      have hd : 0 < d := by unfold lp at h2; omega
      have := Int.mul_pos hb g2
      exact Int.pos_of_mul_pos_left (b := d) (by rw [Int.mul_comm]; omega) hd
    · have p := Int.mul_pos (show 0 < a by omega) g2
      have hc : 0 < c := by
        by_cases qc : c = 0
        · subst qc; omega
        · unfold lp at h2; omega
      exact Int.pos_of_mul_pos_left (b := c) (by rw [Int.mul_comm]; omega) hc
def Lf (a b x y : Int) : Int := a * x + b * y
theorem cone_id {a b ux uy vx vy wx wy : Int} : cx ux uy vx vy * Lf a b wx wy = cx wx wy vx vy * Lf a b ux uy + cx ux uy wx wy * Lf a b vx vy := by unfold cx Lf; grind
/-- two functionals that part two cones with a common way inside -/
theorem cone_0 {a b ux uy vx vy px py qx qy : Int} (hu : lp (-ux) (-uy)) (hv : lp vx vy) (hp : lp (-px) (-py)) (hq : lp qx qy) (c1 : 0 < cx ux uy vx vy) (c2 : 0 < cx px py qx qy) (l1 : 0 ≤ Lf a b ux uy) (l2 : 0 ≤ Lf a b vx vy) (l3 : Lf a b px py ≤ 0) (l4 : Lf a b qx qy ≤ 0) : a = 0 ∧ b = 0 := by
  have n1 : cx vx vy (-ux) (-uy) = cx ux uy vx vy := by unfold cx; grind
  have n2 : cx qx qy (-px) (-py) = cx px py qx qy := by unfold cx; grind
  have n3 : cx vx vy (-px) (-py) = cx px py vx vy := by unfold cx; grind
  have n4 : cx qx qy (-ux) (-uy) = cx ux uy qx qy := by unfold cx; grind
  have zu : Lf a b ux uy = 0 := by
    by_cases q : 0 ≤ cx ux uy px py
    · have k := cx_ts hv hu hp (by rw [n1]; exact c1) (by rw [cx_neg]; exact q)
      rw [n3] at k
      have e := cone_id (a := a) (b := b) (ux := ux) (uy := uy) (vx := vx) (vy := vy) (wx := px) (wy := py)
      have t1 := Int.mul_nonneg q l2
      have t2 : cx ux uy vx vy * Lf a b px py ≤ 0 := Int.mul_nonpos_of_nonneg_of_nonpos (by omega) l3
      apply Classical.byContradiction; intro hn
      have := Int.mul_pos k (show 0 < Lf a b ux uy by omega)
      omega
    · have q2 : 0 ≤ cx px py ux uy := by
        have : cx px py ux uy = -cx ux uy px py := by unfold cx; grind
        omega
      have k := cx_ts hq hp hu (by rw [n2]; exact c2) (by rw [cx_neg]; exact q2)
      rw [n4] at k
      have e := cone_id (a := a) (b := b) (ux := px) (uy := py) (vx := qx) (vy := qy) (wx := ux) (wy := uy)
      have t1 : cx ux uy qx qy * Lf a b px py ≤ 0 := Int.mul_nonpos_of_nonneg_of_nonpos (by omega) l3
      have t2 : cx px py ux uy * Lf a b qx qy ≤ 0 := Int.mul_nonpos_of_nonneg_of_nonpos q2 l4
      apply Classical.byContradiction; intro hn
      have := Int.mul_pos c2 (show 0 < Lf a b ux uy by omega)
      omega
  have zv : Lf a b vx vy = 0 := by
    by_cases q : 0 ≤ cx qx qy vx vy
    · have k := cx_st hq hv hu q (by rw [n1]; exact c1)
      rw [n4] at k
      have e := cone_id (a := a) (b := b) (ux := ux) (uy := uy) (vx := vx) (vy := vy) (wx := qx) (wy := qy)
      rw [zu] at e
      have t2 : cx ux uy vx vy * Lf a b qx qy ≤ 0 := Int.mul_nonpos_of_nonneg_of_nonpos (by omega) l4
      apply Classical.byContradiction; intro hn
      have := Int.mul_pos k (show 0 < Lf a b vx vy by omega)
      omega
    · have q2 : 0 ≤ cx vx vy qx qy := by
        have : cx vx vy qx qy = -cx qx qy vx vy := by unfold cx; grind
        omega
      have k := cx_st hv hq hp q2 (by rw [n2]; exact c2)
      rw [n3] at k
      have e := cone_id (a := a) (b := b) (ux := px) (uy := py) (vx := qx) (vy := qy) (wx := vx) (wy := vy)
      have t1 : cx vx vy qx qy * Lf a b px py ≤ 0 := Int.mul_nonpos_of_nonneg_of_nonpos q2 l3
      have t2 : cx px py vx vy * Lf a b qx qy ≤ 0 := Int.mul_nonpos_of_nonneg_of_nonpos (by omega) l4
      apply Classical.byContradiction; intro hn
      have := Int.mul_pos c2 (show 0 < Lf a b vx vy by omega)
      omega
  have ea : a * cx ux uy vx vy = vy * Lf a b ux uy - uy * Lf a b vx vy := by unfold cx Lf; grind
  have eb : b * cx ux uy vx vy = ux * Lf a b vx vy - vx * Lf a b ux uy := by unfold cx Lf; grind
  rw [zu, zv] at ea eb
  have ea0 : a * cx ux uy vx vy = 0 := by omega
  have eb0 : b * cx ux uy vx vy = 0 := by omega
  refine ⟨?_, ?_⟩
  · rcases Int.mul_eq_zero.mp ea0 with h | h
    · exact h
    · omega
  · rcases Int.mul_eq_zero.mp eb0 with h | h
    · exact h
    · omega
def hI (H : Nat → Int) (s p : Int) : Int := H (40 * s + p).toNat
def tnI (X Y : Nat → Int) (i j k : Int) : Int := tn X Y i.toNat j.toNat k.toNat
def pA (X Y H : Nat → Int) (s i j k p : Int) : Int := (hI H s p - hI H s i) * tnI X Y i j k - (tnI X Y i p k * (hI H s j - hI H s i) + tnI X Y i j p * (hI H s k - hI H s i))
def pS (X Y H : Nat → Int) (s i j k p : Int) : Int := if 0 < tnI X Y i j k then pA X Y H s i j k p else -pA X Y H s i j k p
def PB (f : Nat → Bool) : Nat → Int64
  | 0 => 0
  | n + 1 => PB f n ||| (if f n then (1 : Int64) <<< ((J n).toInt64 &&& 63) else 0)
theorem PB_c {f g : Nat → Bool} {n : Nat} (h : ∀ k, k < n → f k = g k) : PB f n = PB g n := by
  induction n with
  | zero => rfl
  | succ n ih =>
    show PB f n ||| _ = PB g n ||| _
    rw [ih (fun k hk => h k (by omega)), h n (by omega)]
theorem PBp {F : Int → Int} {p : Int} {x : Int64} (hp : 0 ≤ p) (h : x = PB (fun q => decide (F q = 0)) p.toNat) : (F p = 0 → x ||| ((1 : Int64) <<< ((J p).toInt64 &&& 63)) = PB (fun q => decide (F q = 0)) (p + 1).toNat) ∧ (F p ≠ 0 → x ||| 0 = PB (fun q => decide (F q = 0)) (p + 1).toNat) := by
  rw [show (p + 1).toNat = p.toNat + 1 by omega]
  have e : ((p.toNat : Nat) : Int) = p := by omega
  constructor
  · intro hz
    show _ = PB _ p.toNat ||| (if decide (F ((p.toNat : Nat) : Int) = 0) = true then (1 : Int64) <<< ((J ((p.toNat : Nat) : Int)).toInt64 &&& 63) else 0)
    rw [e, ← h, if_pos (decide_eq_true hz)]
  · intro hz
    show _ = PB _ p.toNat ||| (if decide (F ((p.toNat : Nat) : Int) = 0) = true then (1 : Int64) <<< ((J ((p.toNat : Nat) : Int)).toInt64 &&& 63) else 0)
    rw [e, ← h, if_neg (fun q => hz (of_decide_eq_true q))]
def pt (X Y H : Nat → Int) (s n : Int) (b : Int64) (i j k : Int) : Prop := 0 ≤ i ∧ i < j ∧ j < k ∧ k < n ∧ tnI X Y i j k ≠ 0 ∧ (∀ p : Int, 0 ≤ p → p < n → 0 ≤ pS X Y H s i j k p) ∧ b = PB (fun p => decide (pS X Y H s i j k p = 0)) n.toNat
def gd (X Y H : Nat → Int) (s n : Int) (b : Int64) : Prop := ∃ i j k : Int, pt X Y H s n b i j k
theorem pA_lin {X Y H : Nat → Int} {s i j k p : Int} : pA X Y H s i j k p = tnI X Y i j k * (hI H s p - hI H s j) - (((Y k.toNat - Y i.toNat) * (hI H s j - hI H s i) - (Y j.toNat - Y i.toNat) * (hI H s k - hI H s i)) * (X p.toNat - X j.toNat) + (-((X k.toNat - X i.toNat) * (hI H s j - hI H s i)) + (X j.toNat - X i.toNat) * (hI H s k - hI H s i)) * (Y p.toNat - Y j.toNat)) := by
  unfold pA tnI tn; grind
theorem pA_v {X Y H : Nat → Int} {s i j k : Int} : pA X Y H s i j k i = 0 ∧ pA X Y H s i j k k = 0 := by
  unfold pA tnI tn; constructor <;> grind
theorem pS_0 {X Y H : Nat → Int} {s i j k p : Int} : pS X Y H s i j k p = 0 ↔ pA X Y H s i j k p = 0 := by
  unfold pS; split <;> omega
theorem pc_eq {X Y H : Nat → Int} {s n i j k i2 k2 : Int} {b b2 : Int64} (hs : os_s X Y n) (h : pt X Y H s n b i j k) (h2 : pt X Y H s n b2 i2 j k2) (hsg : 0 < tnI X Y i j k ↔ 0 < tnI X Y i2 j k2) : b = b2 := by
  obtain ⟨a1, a2, a3, a4, a5, a6, a7⟩ := h
  obtain ⟨b1, b2', b3, b4, b5, b6, b7⟩ := h2
  have lpx : ∀ x y : Int, 0 ≤ x → x < y → y < n → lp (X y.toNat - X x.toNat) (Y y.toNat - Y x.toNat) := by
    intro x y x0 xy yn
    have := os_lt hs (y.toNat - x.toNat - 1) x.toNat (by omega)
    rw [show x.toNat + (y.toNat - x.toNat - 1) + 1 = y.toNat by omega] at this
    unfold lt2 at this; unfold lp; omega
  have l1 := fun p : Int => pA_lin (X := X) (Y := Y) (H := H) (s := s) (i := i) (j := j) (k := k) (p := p)
  have l2 := fun p : Int => pA_lin (X := X) (Y := Y) (H := H) (s := s) (i := i2) (j := j) (k := k2) (p := p)
  have cv : cx (X k.toNat - X j.toNat) (Y k.toNat - Y j.toNat) (X i.toNat - X j.toNat) (Y i.toNat - Y j.toNat) = tnI X Y i j k := by unfold cx tnI tn; grind
  have cv2 : cx (X k2.toNat - X j.toNat) (Y k2.toNat - Y j.toNat) (X i2.toNat - X j.toNat) (Y i2.toNat - Y j.toNat) = tnI X Y i2 j k2 := by unfold cx tnI tn; grind
  have v1 := pA_v (X := X) (Y := Y) (H := H) (s := s) (i := i) (j := j) (k := k)
  have v2 := pA_v (X := X) (Y := Y) (H := H) (s := s) (i := i2) (j := j) (k := k2)
  have cu : cx (X i.toNat - X j.toNat) (Y i.toNat - Y j.toNat) (X k.toNat - X j.toNat) (Y k.toNat - Y j.toNat) = -tnI X Y i j k := by unfold cx tnI tn; grind
  have cu2 : cx (X i2.toNat - X j.toNat) (Y i2.toNat - Y j.toNat) (X k2.toNat - X j.toNat) (Y k2.toNat - Y j.toNat) = -tnI X Y i2 j k2 := by unfold cx tnI tn; grind
  have m1 := a6 i2 b1 (by omega)
  have m2 := a6 k2 (by omega) b4
  have m3 := b6 i a1 (by omega)
  have m4 := b6 k (by omega) a4
  unfold pS at m1 m2 m3 m4
  generalize hd : tnI X Y i j k = d at *
  generalize hd2 : tnI X Y i2 j k2 = d2 at *
  generalize hA : (Y k.toNat - Y i.toNat) * (hI H s j - hI H s i) - (Y j.toNat - Y i.toNat) * (hI H s k - hI H s i) = A at *
  generalize hB : -((X k.toNat - X i.toNat) * (hI H s j - hI H s i)) + (X j.toNat - X i.toNat) * (hI H s k - hI H s i) = B at *
  generalize hA2 : (Y k2.toNat - Y i2.toNat) * (hI H s j - hI H s i2) - (Y j.toNat - Y i2.toNat) * (hI H s k2 - hI H s i2) = A2 at *
  generalize hB2 : -((X k2.toNat - X i2.toNat) * (hI H s j - hI H s i2)) + (X j.toNat - X i2.toNat) * (hI H s k2 - hI H s i2) = B2 at *
  have hL : ∀ p : Int, Lf (d2 * A - d * A2) (d2 * B - d * B2) (X p.toNat - X j.toNat) (Y p.toNat - Y j.toNat) = d * pA X Y H s i2 j k2 p - d2 * pA X Y H s i j k p := by
    intro p
    rw [l1, l2]
    unfold Lf; grind
  have hz : d2 * A - d * A2 = 0 ∧ d2 * B - d * B2 = 0 := by
    have L1 := hL i
    have L2 := hL k
    have L3 := hL i2
    have L4 := hL k2
    rw [v1.1] at L1
    rw [v1.2] at L2
    rw [v2.1] at L3
    rw [v2.2] at L4
    have wu := lpx i j a1 a2 (by omega)
    have wv := lpx j k (by omega) a3 a4
    have wp := lpx i2 j b1 b2' (by omega)
    have wq := lpx j k2 (by omega) b3 b4
    by_cases hp : 0 < d
    · have hp2 := hsg.mp hp
      rw [if_pos hp] at m1 m2
      rw [if_pos hp2] at m3 m4
      have n1 := Int.mul_nonneg (show 0 ≤ d by omega) m3
      have n2 := Int.mul_nonneg (show 0 ≤ d by omega) m4
      have n3 := Int.mul_nonneg (show 0 ≤ d2 by omega) m1
      have n4 := Int.mul_nonneg (show 0 ≤ d2 by omega) m2
      have ng : ∀ x y : Int, Lf (-(d2 * A - d * A2)) (-(d2 * B - d * B2)) (-x) (-y) = Lf (d2 * A - d * A2) (d2 * B - d * B2) x y := by
        intro x y; unfold Lf; rw [Int.neg_mul_neg, Int.neg_mul_neg]
      have r := cone_0 (a := -(d2 * A - d * A2)) (b := -(d2 * B - d * B2)) (ux := -(X k.toNat - X j.toNat)) (uy := -(Y k.toNat - Y j.toNat)) (vx := -(X i.toNat - X j.toNat)) (vy := -(Y i.toNat - Y j.toNat)) (px := -(X k2.toNat - X j.toNat)) (py := -(Y k2.toNat - Y j.toNat)) (qx := -(X i2.toNat - X j.toNat)) (qy := -(Y i2.toNat - Y j.toNat))
        (by rw [Int.neg_neg, Int.neg_neg]; exact wv) (by rw [Int.neg_sub, Int.neg_sub]; exact wu) (by rw [Int.neg_neg, Int.neg_neg]; exact wq) (by rw [Int.neg_sub, Int.neg_sub]; exact wp)
        (by rw [cx_neg, cv]; exact hp) (by rw [cx_neg, cv2]; exact hp2)
        (by rw [ng, L2]; omega) (by rw [ng, L1]; omega) (by rw [ng, L4]; omega) (by rw [ng, L3]; omega)
      omega
    · have hp2 : ¬ 0 < d2 := fun q => hp (hsg.mpr q)
      rw [if_neg hp] at m1 m2
      rw [if_neg hp2] at m3 m4
      have n1 := Int.mul_nonneg (show 0 ≤ -d by omega) m3
      have n2 := Int.mul_nonneg (show 0 ≤ -d by omega) m4
      have n3 := Int.mul_nonneg (show 0 ≤ -d2 by omega) m1
      have n4 := Int.mul_nonneg (show 0 ≤ -d2 by omega) m2
      rw [Int.neg_mul_neg] at n1 n2 n3 n4
      refine cone_0 (ux := X i.toNat - X j.toNat) (uy := Y i.toNat - Y j.toNat) (vx := X k.toNat - X j.toNat) (vy := Y k.toNat - Y j.toNat) (px := X i2.toNat - X j.toNat) (py := Y i2.toNat - Y j.toNat) (qx := X k2.toNat - X j.toNat) (qy := Y k2.toNat - Y j.toNat)
        (by rw [Int.neg_sub, Int.neg_sub]; exact wu) wv (by rw [Int.neg_sub, Int.neg_sub]; exact wp) wq (by rw [cu]; omega) (by rw [cu2]; omega) (by rw [L1]; omega) (by rw [L2]; omega) (by rw [L3]; omega) (by rw [L4]; omega)
  have hAll : ∀ p : Int, d * pA X Y H s i2 j k2 p = d2 * pA X Y H s i j k p := by
    intro p
    have := hL p
    rw [hz.1, hz.2] at this
    unfold Lf at this
    omega
  rw [a7, b7]
  refine PB_c (fun q _ => ?_)
  have e : pS X Y H s i j k q = 0 ↔ pS X Y H s i2 j k2 q = 0 := by
    rw [pS_0, pS_0]
    have := hAll q
    constructor
    · intro z
      rw [z, Int.mul_zero] at this
      rcases Int.mul_eq_zero.mp this with h | h
      · exact absurd h a5
      · exact h
    · intro z
      rw [z, Int.mul_zero] at this
      rcases Int.mul_eq_zero.mp this.symm with h | h
      · exact absurd h b5
      · exact h
  exact decide_eq_decide.mpr e
/-- the pieces so far: each of a plane below all, no two the same -/
def pz (X Y H : Nat → Int) (s n : Int) (Bb : Nat → Int64) (m : Int) : Prop := 0 ≤ m ∧ (∀ q : Nat, (q : Int) < m → gd X Y H s n (Bb q)) ∧ ∀ q r : Nat, q < r → (r : Int) < m → Bb q ≠ Bb r
theorem pz_80 {X Y H : Nat → Int} {s n m : Int} {Bb : Nat → Int64} (hn : n ≤ 40) (hs : os_s X Y n) (h : pz X Y H s n Bb m) : m ≤ 80 := by
  obtain ⟨h0, h1, h2⟩ := h
  have hch : ∀ q : Nat, ∃ t : Int × Int × Int, (q : Int) < m → pt X Y H s n (Bb q) t.1 t.2.1 t.2.2 := by
    intro q
    by_cases hq : (q : Int) < m
    · obtain ⟨i, j, k, hp⟩ := h1 q hq
      exact ⟨(i, j, k), fun _ => hp⟩
    · exact ⟨(0, 0, 0), fun hc => absurd hc hq⟩
  have hc2 := fun q => Classical.choose_spec (hch q)
  have := fb_holes 80 m.toNat (fun q => 2 * (Classical.choose (hch q)).2.1.toNat + (if 0 < tnI X Y (Classical.choose (hch q)).1 (Classical.choose (hch q)).2.1 (Classical.choose (hch q)).2.2 then 1 else 0)) (fun q hq => by
    have hp := hc2 q (by omega)
    generalize Classical.choose (hch q) = t at hp
    obtain ⟨a1, a2, a3, a4, _⟩ := hp
    split <;> omega) (fun q r hqr hr he => by
    have hp := hc2 q (by omega)
    have hp2 := hc2 r (by omega)
    generalize Classical.choose (hch q) = t at hp he
    generalize Classical.choose (hch r) = t2 at hp2 he
    have hj : t.2.1 = t2.2.1 := by
      have g1 := hp.1
      have g2 := hp.2.1
      have g3 := hp2.1
      have g4 := hp2.2.1
      split at he <;> split at he <;> omega
    have hsg : 0 < tnI X Y t.1 t.2.1 t.2.2 ↔ 0 < tnI X Y t2.1 t2.2.1 t2.2.2 := by
      split at he <;> split at he <;> first | (constructor <;> intro _ <;> assumption) | omega | (constructor <;> intro _ <;> contradiction)
    rw [hj] at hp hsg
    exact h2 q r hqr (by omega) (pc_eq hs hp hp2 hsg))
  omega
/-- the row while one is put in -/
def sh_ (Bb Bc : Nat → Int64) (m a : Int) : Prop := (∀ q : Nat, (q : Int) < a → Bc q = Bb q) ∧ ∀ q : Nat, a ≤ q → (q : Int) < m → Bc (q + 1) = Bb q
theorem sh_0 {Bb : Nat → Int64} {m : Int} : sh_ Bb Bb m m := ⟨fun q _ => rfl, fun q h1 h2 => by omega⟩
theorem sh_s {Bb Bc : Nat → Int64} {m a : Int} (h0 : 0 < a) (hm : a ≤ m) (h : sh_ Bb Bc m a) : sh_ Bb (vp_updL Bc a.toNat (Bc (a - 1).toNat)) m (a + -1) := by
  refine ⟨fun q hq => ?_, fun q h1 h2 => ?_⟩
  · rw [pk_uLn (by omega)]; exact h.1 q (by omega)
  · by_cases e : (q : Int) = a - 1
    · rw [show q + 1 = a.toNat by omega, pk_uLs, show (a - 1).toNat = q by omega]; exact h.1 q (by omega)
    · rw [pk_uLn (by omega)]; exact h.2 q (by omega) h2
def L (z : Int) : Int64 := Int64.ofInt z
theorem L_add (a b : Int) : L a + L b = L (a + b) := (Int64.ofInt_add a b).symm
theorem L_mul (a b : Int) : L a * L b = L (a * b) := (Int64.ofInt_mul a b).symm
theorem L_sub (a b : Int) : L a - L b = L (a - b) := (Int64.ofInt_sub a b).symm
theorem L_toInt {z : Int} (h : -9223372036854775808 ≤ z ∧ z ≤ 9223372036854775807) : (L z).toInt = z := Int64.toInt_ofInt_of_le (by omega) (by omega)
theorem J_L {z : Int} (h : -2147483648 ≤ z ∧ z ≤ 2147483647) : (J z).toInt64 = L z := by
  apply Int64.toInt_inj.mp
  rw [Int32.toInt_toInt64, J_toInt h, L_toInt (by omega)]
theorem L_lt {a b : Int} (ha : -9223372036854775808 ≤ a ∧ a ≤ 9223372036854775807) (hb : -9223372036854775808 ≤ b ∧ b ≤ 9223372036854775807) : L a < L b ↔ a < b := by
  rw [Int64.lt_iff_toInt_lt, L_toInt ha, L_toInt hb]
theorem L_eq {a b : Int} (ha : -9223372036854775808 ≤ a ∧ a ≤ 9223372036854775807) (hb : -9223372036854775808 ≤ b ∧ b ≤ 9223372036854775807) : L a = L b ↔ a = b := by
  constructor
  · intro h
    have h2 := congrArg Int64.toInt h
    rw [L_toInt ha, L_toInt hb] at h2
    exact h2
  · intro h
    rw [h]
theorem L_cmp {a z : Int} (ha : -9223372036854775808 ≤ a ∧ a ≤ 9223372036854775807) (h : -1 ≤ z ∧ z ≤ 1 ∧ (z < 0 ↔ L a < 0) ∧ (z = 0 ↔ L a = 0)) : -1 ≤ z ∧ z ≤ 1 ∧ (z < 0 ↔ a < 0) ∧ (z = 0 ↔ a = 0) := by
  have e0 : (0 : Int64) = L 0 := rfl
  rw [e0, L_lt ha (by omega), L_eq ha (by omega)] at h
  exact h
theorem off_L {d up ot one two hp : Int} (h1 : -2147483648 ≤ d ∧ d ≤ 2147483647) (h2 : -2147483648 ≤ up ∧ up ≤ 2147483647) (h3 : -2147483648 ≤ ot ∧ ot ≤ 2147483647) (h4 : -2147483648 ≤ one ∧ one ≤ 2147483647) (h5 : -2147483648 ≤ two ∧ two ≤ 2147483647) (h6 : -2147483648 ≤ hp ∧ hp ≤ 2147483647) : (J hp).toInt64 * (J d).toInt64 - ((J one).toInt64 * (J up).toInt64 + (J two).toInt64 * (J ot).toInt64) = L (hp * d - (one * up + two * ot)) ∧ (J one).toInt64 * (J up).toInt64 + (J two).toInt64 * (J ot).toInt64 - (J hp).toInt64 * (J d).toInt64 = L (-(hp * d - (one * up + two * ot))) := by
  rw [J_L h1, J_L h2, J_L h3, J_L h4, J_L h5, J_L h6, L_mul, L_mul, L_mul, L_add, L_sub, L_sub]
  refine ⟨rfl, ?_⟩
  congr 1; omega
def bvI (x : Int64) (k : Int) : Int := if (x >>> ((J k).toInt64 &&& 63)) &&& 1 = 1 then 1 else 0
theorem L_and1 (y : Int64) : (y &&& 1 = 0 ∧ (Int64.toInt32 (y &&& 1)).toInt = 0) ∨ (y &&& 1 = 1 ∧ (Int64.toInt32 (y &&& 1)).toInt = 1) := by
  have h1 : (y &&& 1).toBitVec.toNat ≤ 1 := by
    rw [Int64.toBitVec_and, BitVec.toNat_and]
    exact Nat.and_le_right
  have h2 : y &&& 1 = Int64.ofNat (y &&& 1).toBitVec.toNat := by
    apply Int64.toBitVec_inj.mp
    show (y &&& 1).toBitVec = BitVec.ofNat 64 (y &&& 1).toBitVec.toNat
    rw [BitVec.ofNat_toNat, BitVec.setWidth_eq]
  generalize y &&& 1 = w at h1 h2
  generalize w.toBitVec.toNat = n at h1 h2
  subst h2
  have : n = 0 ∨ n = 1 := by omega
  rcases this with e | e <;> subst e
  · exact Or.inl ⟨rfl, by decide +kernel⟩
  · exact Or.inr ⟨rfl, by decide +kernel⟩
theorem bvI_v {x w : Int64} {k : Int} (e : w = x >>> ((J k).toInt64 &&& 63)) : (Int64.toInt32 (w &&& 1)).toInt = bvI x k := by
  unfold bvI
  rw [← e]
  rcases L_and1 w with ⟨h1, h2⟩ | ⟨h1, h2⟩
  · rw [h2, h1, if_neg (by decide +kernel)]
  · rw [h2, h1, if_pos rfl]
theorem bvI_01 {x : Int64} {k : Int} : bvI x k = 0 ∨ bvI x k = 1 := by unfold bvI; split <;> omega


set_option maxHeartbeats 4000000 in
set_option maxRecDepth 100000 in
theorem c_X12_bitsIn (l : Launch) (D : JD) (x : Int64) : Met l yX12_bitsIn (jw yX12_bitsIn cX12_bitsIn 4 (some .int)) (jr 0 0) (jP [.long x] D (fun _ => True)) (jRi (fun z => z = smI (bvI x) 40 ∧ 0 ≤ z ∧ z ≤ 40)) 0 0 (fun _ => False) := by
  refine Met.ofW (cc := cX12_bitsIn) (maxL := 4) (ret := (some .int)) (by decide) rfl ?_
  intro pr en st mi args below meth co s₁ B hml hv
  obtain ⟨rfl, hG, hP⟩ := hv
  have hr := B.returns
  have hlk := B.notSynchronized
  have SS : jS pr mi co cX12_bitsIn 4 st _ RX12 := ⟨B.exec, B.bytes, hml, findClass_of_methodNamed B.named, fun w hw => atoms_spec (ws := (jw yX12_bitsIn cX12_bitsIn 4 (some .int))) B.pre w (List.mem_cons_of_mem _ hw)⟩
  have hl := lv_entry ([.long x]) (n := 4) (Nat.le_of_ble_eq_true rfl)
  rw [lg_entry_eq]
  generalize (lg_sl ([.long x]) ++ List.replicate (4 - (lg_sl ([.long x])).length) Slot.unset).toArray = ls at hl ⊢
  have hl : lv_has ls 4 [(0, .long x)] := hl
  refine j_iconst SS dX12_bitsIn_0 ?_
  refine lv_istore_n (lv' := [(2, .int (J 0)), (0, .long x)]) SS.1 SS.2.1 dX12_bitsIn_1 rfl hl (by decide) rfl (fun ls hl => ?_)
  refine j_iconst SS dX12_bitsIn_2 ?_
  refine lv_istore_n (lv' := [(3, .int (J 0)), (2, .int (J 0)), (0, .long x)]) SS.1 SS.2.1 dX12_bitsIn_3 rfl hl (by decide) rfl (fun ls hl => ?_)
  have L_4 : ∀ (nn : Nat) (n : Int) (k : Int) (ls : Array Slot) (hl : lv_has ls 4 [(0, .long x), (2, .int (J n)), (3, .int (J k))]) (i4_0 : 0 ≤ k ∧ k ≤ 40) (i4_1 : n = smI (bvI x) k) (i4_2 : 0 ≤ n ∧ n ≤ k), ((40 : Int) - k).toNat < nn → W pr l en (headSpec (jw yX12_bitsIn cX12_bitsIn 4 (some .int)) (jr 0 0)).room st mi (([.long x] : List Value).toArray) below meth co st.heap [] 0 0 (MQ below (jRi (fun z => z = smI (bvI x) 40 ∧ 0 ≤ z ∧ z ≤ 40)) (([.long x] : List Value).toArray) st 0 0 (fun _ => False)) (F0 mi 4 ls []) := by
    intro nn
    induction nn with
    | zero => intros; omega
    | succ nn ih_4 =>
      intro n k ls hl i4_0 i4_1 i4_2 hm
      refine lv_iload_n SS.1 SS.2.1 dX12_bitsIn_4 rfl (lv_at hl 2 rfl) ?_
      refine j_bipush SS dX12_bitsIn_5 (by decide +kernel) ?_
      refine j_icmp_ge SS (tgt := 25) (x := k) (y := 40) dX12_bitsIn_7 (by decide) (by omega) (by decide) (fun c_7 => ?_) (fun c_7 => ?_)
      · skip
        refine lv_iload_n SS.1 SS.2.1 dX12_bitsIn_25 rfl (lv_at hl 1 rfl) ?_
        exact W.iret SS.1 SS.2.1 hr (fun t ht hW => ⟨_, rfl, ⟨n, rfl, (⟨by rw [i4_1, show k = 40 by omega], by omega, by omega⟩)⟩, ht⟩) (fun _ h => nomatch h) dX12_bitsIn_26 hlk
      · skip
        refine lv_iload_n SS.1 SS.2.1 dX12_bitsIn_10 rfl (lv_at hl 1 rfl) ?_
        refine lv_lload_n SS.1 SS.2.1 dX12_bitsIn_11 rfl (lv_at hl 0 rfl) ?_
        refine lv_iload_n SS.1 SS.2.1 dX12_bitsIn_12 rfl (lv_at hl 2 rfl) ?_
        refine lv_lshr SS.1 SS.2.1 dX12_bitsIn_13 rfl (lv_topl (fun x_13 ex_13 => ?_))
        refine lv_lconst (v := 1) SS.1 SS.2.1 dX12_bitsIn_14 (by decide +kernel) ?_
        refine lv_land SS.1 SS.2.1 dX12_bitsIn_15 ?_
        have hv := bvI_v ex_13
        refine lv_l2i SS.1 SS.2.1 dX12_bitsIn_16 rfl ?_
        rw [J_of (Int64.toInt32 _)]
        have r_16 := J_rng (Int64.toInt32 (x_13 &&& 1))
        refine j_iadd SS (x := n) (y := (Int64.toInt32 (x_13 &&& 1)).toInt) dX12_bitsIn_17 ?_
        refine lv_istore_n (lv' := [(2, .int (J (n + ((Int64.toInt32 (x_13 &&& 1)).toInt)))), (0, .long x), (3, .int (J k))]) SS.1 SS.2.1 dX12_bitsIn_18 rfl hl (by decide) rfl (fun ls hl => ?_)
        refine lv_iinc (v := J (k + 1)) (lv' := [(3, .int (J (k + 1))), (2, .int (J (n + ((Int64.toInt32 (x_13 &&& 1)).toInt)))), (0, .long x)]) SS.1 SS.2.1 dX12_bitsIn_19 hl (k := 2) rfl (J_add _ _) (by decide) rfl (fun ls hl => ?_)
        refine lv_goto (tgt := 4) SS.1 SS.2.1 dX12_bitsIn_22 (by decide) ?_
        exact ih_4 (n + ((Int64.toInt32 (x_13 &&& 1)).toInt)) (k + 1) ls (lv_sub hl [2, 1, 0] rfl) (by omega) (by rw [smI_s i4_0.1, ← i4_1, hv]) (by rw [hv]; have q := bvI_01 (x := x) (k := k); omega) (by omega)
  exact L_4 (((40 : Int) - (0 : Int)).toNat + 1) 0 0 ls (lv_sub hl [2, 1, 0] rfl) (by omega) (smI_0.symm) (by omega) (Nat.lt_succ_self _)


theorem nx_sum {px py wx wy qx qy : Int} (h1 : cx px py wx wy = 1) (h2 : cx wx wy qx qy = 1) : px + qx = cx px py qx qy * wx ∧ py + qy = cx px py qx qy * wy := by
  have e1 : cx px py wx wy * qx + cx wx wy qx qy * px = cx px py qx qy * wx := by unfold cx; grind
  have e2 : cx px py wx wy * qy + cx wx wy qx qy * py = cx px py qx qy * wy := by unfold cx; grind
  rw [h1, h2] at e1 e2
  omega
def pl4 (a b c d : Int) : Prop := (-40 ≤ a ∧ a ≤ 40) ∧ (-40 ≤ b ∧ b ≤ 40) ∧ (-40 ≤ c ∧ c ≤ 40) ∧ -40 ≤ d ∧ d ≤ 40
/-- the answer of between -/
def btw_ (a b c d z : Int) : Prop := (¬ pl4 a b c d ∧ z = -1) ∨ (pl4 a b c d ∧ cx a b c d ≤ 0 ∧ z = -2) ∨ (pl4 a b c d ∧ 0 < cx a b c d ∧ ∃ X Y : Nat → Int, ry a b c d X Y z)
/-- the i-th of them -/
def ry_at (X Y : Nat → Int) (n i what z : Int) : Prop := (what = 0 ∧ z = X i.toNat) ∨ (what = 1 ∧ z = Y i.toNat) ∨ (what = 2 ∧ ((i = 0 ∨ i = n - 1) ∧ z = -1000000 ∨ (0 < i ∧ i < n - 1 ∧ z = cx (X (i - 1).toNat) (Y (i - 1).toNat) (X (i + 1).toNat) (Y (i + 1).toNat))))
/-- the answer of ray -/
def ray_ (a b c d i what z : Int) : Prop := (¬ (pl4 a b c d ∧ (0 ≤ what ∧ what ≤ 2) ∧ 0 < cx a b c d ∧ 0 ≤ i) ∧ z = -1000000) ∨ (pl4 a b c d ∧ (0 ≤ what ∧ what ≤ 2) ∧ 0 < cx a b c d ∧ 0 ≤ i ∧ ∃ (X Y : Nat → Int) (n : Int), ry a b c d X Y n ∧ ((n ≤ i ∧ z = -1000000) ∨ (i < n ∧ ry_at X Y n i what z)))
theorem ry_bend {a b c d : Int} {X Y : Nat → Int} {n i : Int} (h : ry a b c d X Y n) (h0 : 0 < i) (h1 : i < n - 1) : X (i - 1).toNat + X (i + 1).toNat = cx (X (i - 1).toNat) (Y (i - 1).toNat) (X (i + 1).toNat) (Y (i + 1).toNat) * X i.toNat ∧ Y (i - 1).toNat + Y (i + 1).toNat = cx (X (i - 1).toNat) (Y (i - 1).toNat) (X (i + 1).toNat) (Y (i + 1).toNat) * Y i.toNat ∧ (X i.toNat ≠ 0 ∨ Y i.toNat ≠ 0) := by
  have s1 := h.2.2.2.1 (i - 1).toNat (by omega)
  have s2 := h.2.2.2.1 i.toNat (by omega)
  rw [show (i - 1).toNat + 1 = i.toNat by omega] at s1
  rw [show i.toNat + 1 = (i + 1).toNat by omega] at s2
  have := nx_sum s1.1 s2.1
  refine ⟨this.1, this.2, ?_⟩
  apply Classical.byContradiction
  intro hn
  have e1 : X i.toNat = 0 := by omega
  have e2 : Y i.toNat = 0 := by omega
  have s := s1.1
  rw [e1, e2] at s
  unfold cx at s
  omega
theorem ry_dv {s m w : Int} (h : s = m * w) (hw : w ≠ 0) : s.tdiv w = m := by rw [h]; exact Int.mul_tdiv_cancel _ hw
theorem ry_b {a b c d : Int} {X Y : Nat → Int} {n i : Int} (h : ry a b c d X Y n) (h0 : 0 ≤ i) (h1 : i < n) : (-40 ≤ X i.toNat ∧ X i.toNat ≤ 40) ∧ -40 ≤ Y i.toNat ∧ Y i.toNat ≤ 40 := bd_at h.2.2.2.2.1 h0 h1

set_option maxHeartbeats 4000000 in
set_option maxRecDepth 100000 in
theorem c_X12_between (l : Launch) (D : JD) (o : Nat) (q : Nat → Nat) (u : MS) (A : Nat → Prop) (hD : va_D A (mW D o q u)) (a : Int) (b : Int) (c : Int) (d : Int) (p0 : IM u) (p1 : -2147483648 ≤ a ∧ a ≤ 2147483647) (p2 : -2147483648 ≤ b ∧ b ≤ 2147483647) (p3 : -2147483648 ≤ c ∧ c ≤ 2147483647) (p4 : -2147483648 ≤ d ∧ d ≤ 2147483647) : Met l yX12_between (jw yX12_between cX12_between 5 (some .int)) (jr 3 77) (jP [.ref o, .int (J a), .int (J b), .int (J c), .int (J d)] D (fun H => va_P D.1 j_cl (mW D o q u) H)) (jWi (fun z u' => ∃ X : Nat → Int, ∃ Y : Nat → Int, ∃ n : Int, u' = (uV (uI (uI u 17 X) 18 Y) 19 n) ∧ (btw_ a b c d z ∧ IM u')) (fun u' H => va_P D.1 j_cl (mW D o q u') H) A) 0 0 A := by
  refine Met.ofW (cc := cX12_between) (maxL := 5) (ret := (some .int)) (by decide) rfl ?_
  intro pr en st mi args below meth co s₁ B hml hv
  obtain ⟨rfl, hG, hP⟩ := hv
  have hr := B.returns
  have hlk := B.notSynchronized
  have SS : jS pr mi co cX12_between 5 st _ RX12 := ⟨B.exec, B.bytes, hml, findClass_of_methodNamed B.named, fun w hw => atoms_spec (ws := (jw yX12_between cX12_between 5 (some .int))) B.pre w (List.mem_cons_of_mem _ hw)⟩
  have hl := lv_entry ([.ref o, .int (J a), .int (J b), .int (J c), .int (J d)]) (n := 5) (Nat.le_of_ble_eq_true rfl)
  rw [lg_entry_eq]
  generalize (lg_sl ([.ref o, .int (J a), .int (J b), .int (J c), .int (J d)]) ++ List.replicate (5 - (lg_sl ([.ref o, .int (J a), .int (J b), .int (J c), .int (J d)])).length) Slot.unset).toArray = ls at hl ⊢
  have hl : lv_has ls 5 [(0, .ref o), (1, .int (J a)), (2, .int (J b)), (3, .int (J c)), (4, .int (J d))] := hl
  have hS : va_S A st.heap st.heap [] := va_S.rf
  refine lv_iload_n SS.1 SS.2.1 dX12_between_0 rfl (lv_at hl 1 rfl) ?_
  refine lv_iload_n SS.1 SS.2.1 dX12_between_1 rfl (lv_at hl 2 rfl) ?_
  refine j_sRi SS (As := [.int (J a), .int (J b)]) (rest := []) (c_X12_isPlace l D a b (show -2147483648 ≤ a ∧ a ≤ 2147483647 from (by omega)) (show -2147483648 ≤ b ∧ b ≤ 2147483647 from (by omega))) mf_X12_isPlace kw_1166 hG trivial rfl hl.1 ⟨⟨Nat.le_of_ble_eq_true rfl, Nat.le_of_ble_eq_true rfl⟩, Nat.le_of_ble_eq_true rfl, Nat.le_refl _, Nat.le_refl _⟩ rfl dX12_between_2 (fun z_2 h_2 => ?_)
  have h_2 : (z_2 = 1 ∧ (-40 ≤ a ∧ a ≤ 40 ∧ -40 ≤ b ∧ b ≤ 40)) ∨ (z_2 = 0 ∧ ¬ (-40 ≤ a ∧ a ≤ 40 ∧ -40 ≤ b ∧ b ≤ 40)) := h_2
  refine j_if_eq SS (tgt := 17) (x := z_2) dX12_between_5 (by decide) (by omega) (fun c_5 => ?_) (fun c_5 => ?_)
  · skip
    refine j_iconst SS dX12_between_17 ?_
    exact W.iret SS.1 SS.2.1 hr (fun t ht hW => ⟨⟨_, (uV (uI (uI u 17 (u.1 17)) 18 (u.1 18)) 19 (u.2.2 19)), rfl, ⟨(-1), rfl, (⟨(u.1 17), (u.1 18), (u.2.2 19), rfl, ⟨Or.inl ⟨fun h => by unfold pl4 at h; omega, rfl⟩, p0⟩⟩)⟩, by show va_P D.1 j_cl (mW D o q (uV (uI (uI u 17 (u.1 17)) 18 (u.1 18)) 19 (u.2.2 19))) t.heap; rw [ht]; exact hP⟩, hS.F ht⟩) hS.2.2 dX12_between_18 hlk
  · skip
    refine lv_iload_n SS.1 SS.2.1 dX12_between_8 rfl (lv_at hl 3 rfl) ?_
    refine lv_iload SS.1 SS.2.1 dX12_between_9 (lv_at hl 4 rfl) ?_
    refine j_sRi SS (As := [.int (J c), .int (J d)]) (rest := []) (c_X12_isPlace l D c d (show -2147483648 ≤ c ∧ c ≤ 2147483647 from (by omega)) (show -2147483648 ≤ d ∧ d ≤ 2147483647 from (by omega))) mf_X12_isPlace kw_1166 hG trivial rfl hl.1 ⟨⟨Nat.le_of_ble_eq_true rfl, Nat.le_of_ble_eq_true rfl⟩, Nat.le_of_ble_eq_true rfl, Nat.le_refl _, Nat.le_refl _⟩ rfl dX12_between_11 (fun z_11 h_11 => ?_)
    have h_11 : (z_11 = 1 ∧ (-40 ≤ c ∧ c ≤ 40 ∧ -40 ≤ d ∧ d ≤ 40)) ∨ (z_11 = 0 ∧ ¬ (-40 ≤ c ∧ c ≤ 40 ∧ -40 ≤ d ∧ d ≤ 40)) := h_11
    refine j_if_ne SS (tgt := 19) (x := z_11) dX12_between_14 (by decide) (by omega) (fun c_14 => ?_) (fun c_14 => ?_)
    · skip
      refine lv_aload_n SS.1 SS.2.1 dX12_between_19 rfl (lv_at hl 0 rfl) ?_
      refine lv_iload_n SS.1 SS.2.1 dX12_between_20 rfl (lv_at hl 1 rfl) ?_
      refine lv_iload_n SS.1 SS.2.1 dX12_between_21 rfl (lv_at hl 2 rfl) ?_
      refine lv_iload_n SS.1 SS.2.1 dX12_between_22 rfl (lv_at hl 3 rfl) ?_
      refine lv_iload SS.1 SS.2.1 dX12_between_23 (lv_at hl 4 rfl) ?_
      refine j_vWi SS (As := [.int (J a), .int (J b), .int (J c), .int (J d)]) (rest := []) (c_X12_findRays l D o q u A (mW_D hD) a b c d (show -40 ≤ a ∧ a ≤ 40 from (by omega)) (show -40 ≤ b ∧ b ≤ 40 from (by omega)) (show -40 ≤ c ∧ c ≤ 40 from (by omega)) (show -40 ≤ d ∧ d ≤ 40 from (by omega))) mf_X12_findRays kw_1392 hG hP hP (ci := 8) (q0 := 0) rfl rfl rfl hS (fun _ h => h) rfl hl.1 ⟨⟨Nat.le_of_ble_eq_true rfl, Nat.le_of_ble_eq_true rfl⟩, Nat.le_of_ble_eq_true rfl, Nat.le_refl _, Nat.le_refl _⟩ rfl dX12_between_25 (fun z_25 u25 H locs h_25 hP _ hS => ?_)
      obtain ⟨X_25, Y_25, n_25, rfl, h_25⟩ := h_25
      have hP : va_P D.1 j_cl (mW D o q (uV (uI (uI u 17 X_25) 18 Y_25) 19 n_25)) H := hP
      have h_25 : (z_25 = 0 ∧ cx a b c d ≤ 0) ∨ (z_25 = 1 ∧ 0 < cx a b c d ∧ ry a b c d X_25 Y_25 n_25) := h_25
      refine j_if_eq SS (tgt := 38) (x := z_25) dX12_between_28 (by decide) (by omega) (fun c_28 => ?_) (fun c_28 => ?_)
      · skip
        refine j_bipush SS dX12_between_38 (by decide +kernel) ?_
        exact W.iret SS.1 SS.2.1 hr (fun t ht hW => ⟨⟨_, (uV (uI (uI u 17 X_25) 18 Y_25) 19 n_25), rfl, ⟨(-2), rfl, (⟨X_25, Y_25, n_25, rfl, by have hp : pl4 a b c d := (by unfold pl4; omega); first | (refine ⟨Or.inr (Or.inr ⟨hp, ?_, X_25, Y_25, ?_⟩), p0⟩; (rcases h_25 with q | q; omega; exact q.2.1); (rcases h_25 with q | q; omega; exact q.2.2)) | exact ⟨Or.inr (Or.inl ⟨hp, by rcases h_25 with q | q; exact q.2; omega, rfl⟩), p0⟩⟩)⟩, by show va_P D.1 j_cl (mW D o q (uV (uI (uI u 17 X_25) 18 Y_25) 19 n_25)) t.heap; rw [ht]; exact hP⟩, hS.F ht⟩) hS.2.2 dX12_between_40 hlk
      · skip
        refine lv_aload_n SS.1 SS.2.1 dX12_between_31 rfl (lv_at hl 0 rfl) ?_
        refine j_get SS hG hP 0 (v := .int (J n_25)) (C := RX12) (T := TX12) (N := 31) rfl rfl inX12 19 (by decide) (ref := RX12) kw_1077 rfl rfl dX12_between_32 ?_
        refine lv_goto (tgt := 40) SS.1 SS.2.1 dX12_between_35 (by decide) ?_
        exact W.iret SS.1 SS.2.1 hr (fun t ht hW => ⟨⟨_, (uV (uI (uI u 17 X_25) 18 Y_25) 19 n_25), rfl, ⟨n_25, rfl, (⟨X_25, Y_25, n_25, rfl, by have hp : pl4 a b c d := (by unfold pl4; omega); first | (refine ⟨Or.inr (Or.inr ⟨hp, ?_, X_25, Y_25, ?_⟩), p0⟩; (rcases h_25 with q | q; omega; exact q.2.1); (rcases h_25 with q | q; omega; exact q.2.2)) | exact ⟨Or.inr (Or.inl ⟨hp, by rcases h_25 with q | q; exact q.2; omega, rfl⟩), p0⟩⟩)⟩, by show va_P D.1 j_cl (mW D o q (uV (uI (uI u 17 X_25) 18 Y_25) 19 n_25)) t.heap; rw [ht]; exact hP⟩, hS.F ht⟩) hS.2.2 dX12_between_40 hlk
    · skip
      refine j_iconst SS dX12_between_17 ?_
      exact W.iret SS.1 SS.2.1 hr (fun t ht hW => ⟨⟨_, (uV (uI (uI u 17 (u.1 17)) 18 (u.1 18)) 19 (u.2.2 19)), rfl, ⟨(-1), rfl, (⟨(u.1 17), (u.1 18), (u.2.2 19), rfl, ⟨Or.inl ⟨fun h => by unfold pl4 at h; omega, rfl⟩, p0⟩⟩)⟩, by show va_P D.1 j_cl (mW D o q (uV (uI (uI u 17 (u.1 17)) 18 (u.1 18)) 19 (u.2.2 19))) t.heap; rw [ht]; exact hP⟩, hS.F ht⟩) hS.2.2 dX12_between_18 hlk

set_option maxHeartbeats 4000000 in
set_option maxRecDepth 100000 in
theorem c_X12_ray (l : Launch) (D : JD) (o : Nat) (q : Nat → Nat) (u : MS) (A : Nat → Prop) (hD : va_D A (mW D o q u)) (a : Int) (b : Int) (c : Int) (d : Int) (i : Int) (what : Int) (p0 : IM u) (p1 : -2147483648 ≤ a ∧ a ≤ 2147483647) (p2 : -2147483648 ≤ b ∧ b ≤ 2147483647) (p3 : -2147483648 ≤ c ∧ c ≤ 2147483647) (p4 : -2147483648 ≤ d ∧ d ≤ 2147483647) (p5 : -2147483648 ≤ i ∧ i ≤ 2147483647) (p6 : -2147483648 ≤ what ∧ what ≤ 2147483647) : Met l yX12_ray (jw yX12_ray cX12_ray 7 (some .int)) (jr 3 77) (jP [.ref o, .int (J a), .int (J b), .int (J c), .int (J d), .int (J i), .int (J what)] D (fun H => va_P D.1 j_cl (mW D o q u) H)) (jWi (fun z u' => ∃ X : Nat → Int, ∃ Y : Nat → Int, ∃ n : Int, u' = (uV (uI (uI u 17 X) 18 Y) 19 n) ∧ (ray_ a b c d i what z ∧ IM u')) (fun u' H => va_P D.1 j_cl (mW D o q u') H) A) 0 0 A := by
  refine Met.ofW (cc := cX12_ray) (maxL := 7) (ret := (some .int)) (by decide) rfl ?_
  intro pr en st mi args below meth co s₁ B hml hv
  obtain ⟨rfl, hG, hP⟩ := hv
  have hr := B.returns
  have hlk := B.notSynchronized
  have SS : jS pr mi co cX12_ray 7 st _ RX12 := ⟨B.exec, B.bytes, hml, findClass_of_methodNamed B.named, fun w hw => atoms_spec (ws := (jw yX12_ray cX12_ray 7 (some .int))) B.pre w (List.mem_cons_of_mem _ hw)⟩
  have hl := lv_entry ([.ref o, .int (J a), .int (J b), .int (J c), .int (J d), .int (J i), .int (J what)]) (n := 7) (Nat.le_of_ble_eq_true rfl)
  rw [lg_entry_eq]
  generalize (lg_sl ([.ref o, .int (J a), .int (J b), .int (J c), .int (J d), .int (J i), .int (J what)]) ++ List.replicate (7 - (lg_sl ([.ref o, .int (J a), .int (J b), .int (J c), .int (J d), .int (J i), .int (J what)])).length) Slot.unset).toArray = ls at hl ⊢
  have hl : lv_has ls 7 [(0, .ref o), (1, .int (J a)), (2, .int (J b)), (3, .int (J c)), (4, .int (J d)), (5, .int (J i)), (6, .int (J what))] := hl
  have hS : va_S A st.heap st.heap [] := va_S.rf
  refine lv_iload_n SS.1 SS.2.1 dX12_ray_0 rfl (lv_at hl 1 rfl) ?_
  refine lv_iload_n SS.1 SS.2.1 dX12_ray_1 rfl (lv_at hl 2 rfl) ?_
  refine j_sRi SS (As := [.int (J a), .int (J b)]) (rest := []) (c_X12_isPlace l D a b (show -2147483648 ≤ a ∧ a ≤ 2147483647 from (by omega)) (show -2147483648 ≤ b ∧ b ≤ 2147483647 from (by omega))) mf_X12_isPlace kw_1166 hG trivial rfl hl.1 ⟨⟨Nat.le_of_ble_eq_true rfl, Nat.le_of_ble_eq_true rfl⟩, Nat.le_of_ble_eq_true rfl, Nat.le_refl _, Nat.le_refl _⟩ rfl dX12_ray_2 (fun z_2 h_2 => ?_)
  have h_2 : (z_2 = 1 ∧ (-40 ≤ a ∧ a ≤ 40 ∧ -40 ≤ b ∧ b ≤ 40)) ∨ (z_2 = 0 ∧ ¬ (-40 ≤ a ∧ a ≤ 40 ∧ -40 ≤ b ∧ b ≤ 40)) := h_2
  refine j_if_eq SS (tgt := 54) (x := z_2) dX12_ray_5 (by decide) (by omega) (fun c_5 => ?_) (fun c_5 => ?_)
  · skip
    refine j_ldc SS (-1000000) kw_1213 dX12_ray_54 ?_
    exact W.iret SS.1 SS.2.1 hr (fun t ht hW => ⟨⟨_, (uV (uI (uI u 17 (u.1 17)) 18 (u.1 18)) 19 (u.2.2 19)), rfl, ⟨(-1000000), rfl, (⟨(u.1 17), (u.1 18), (u.2.2 19), rfl, by first | exact ⟨Or.inl ⟨fun h => by unfold pl4 at h; omega, rfl⟩, p0⟩ | exact ⟨Or.inl ⟨fun h => by (rcases h_33 with q | q; have q2 := h.2.2.1; omega; omega), rfl⟩, p0⟩ | (by_cases hi : 0 ≤ i; exact ⟨Or.inr ⟨hp, by omega, hc, hi, X_33, Y_33, n_33, hry, Or.inl ⟨by omega, rfl⟩⟩, p0⟩; exact ⟨Or.inl ⟨fun h => by have := h.2.2.2; omega, rfl⟩, p0⟩)⟩)⟩, by show va_P D.1 j_cl (mW D o q (uV (uI (uI u 17 (u.1 17)) 18 (u.1 18)) 19 (u.2.2 19))) t.heap; rw [ht]; exact hP⟩, hS.F ht⟩) hS.2.2 dX12_ray_56 hlk
  · skip
    refine lv_iload_n SS.1 SS.2.1 dX12_ray_8 rfl (lv_at hl 3 rfl) ?_
    refine lv_iload SS.1 SS.2.1 dX12_ray_9 (lv_at hl 4 rfl) ?_
    refine j_sRi SS (As := [.int (J c), .int (J d)]) (rest := []) (c_X12_isPlace l D c d (show -2147483648 ≤ c ∧ c ≤ 2147483647 from (by omega)) (show -2147483648 ≤ d ∧ d ≤ 2147483647 from (by omega))) mf_X12_isPlace kw_1166 hG trivial rfl hl.1 ⟨⟨Nat.le_of_ble_eq_true rfl, Nat.le_of_ble_eq_true rfl⟩, Nat.le_of_ble_eq_true rfl, Nat.le_refl _, Nat.le_refl _⟩ rfl dX12_ray_11 (fun z_11 h_11 => ?_)
    have h_11 : (z_11 = 1 ∧ (-40 ≤ c ∧ c ≤ 40 ∧ -40 ≤ d ∧ d ≤ 40)) ∨ (z_11 = 0 ∧ ¬ (-40 ≤ c ∧ c ≤ 40 ∧ -40 ≤ d ∧ d ≤ 40)) := h_11
    refine j_if_eq SS (tgt := 54) (x := z_11) dX12_ray_14 (by decide) (by omega) (fun c_14 => ?_) (fun c_14 => ?_)
    · skip
      refine j_ldc SS (-1000000) kw_1213 dX12_ray_54 ?_
      exact W.iret SS.1 SS.2.1 hr (fun t ht hW => ⟨⟨_, (uV (uI (uI u 17 (u.1 17)) 18 (u.1 18)) 19 (u.2.2 19)), rfl, ⟨(-1000000), rfl, (⟨(u.1 17), (u.1 18), (u.2.2 19), rfl, by first | exact ⟨Or.inl ⟨fun h => by unfold pl4 at h; omega, rfl⟩, p0⟩ | exact ⟨Or.inl ⟨fun h => by (rcases h_33 with q | q; have q2 := h.2.2.1; omega; omega), rfl⟩, p0⟩ | (by_cases hi : 0 ≤ i; exact ⟨Or.inr ⟨hp, by omega, hc, hi, X_33, Y_33, n_33, hry, Or.inl ⟨by omega, rfl⟩⟩, p0⟩; exact ⟨Or.inl ⟨fun h => by have := h.2.2.2; omega, rfl⟩, p0⟩)⟩)⟩, by show va_P D.1 j_cl (mW D o q (uV (uI (uI u 17 (u.1 17)) 18 (u.1 18)) 19 (u.2.2 19))) t.heap; rw [ht]; exact hP⟩, hS.F ht⟩) hS.2.2 dX12_ray_56 hlk
    · skip
      refine lv_iload SS.1 SS.2.1 dX12_ray_17 (lv_at hl 6 rfl) ?_
      refine j_iconst SS dX12_ray_19 ?_
      refine j_iconst SS dX12_ray_20 ?_
      refine j_sRi SS (As := [.int (J what), .int (J 0), .int (J 2)]) (rest := []) (c_X12_in l D what 0 2 (show -2147483648 ≤ what ∧ what ≤ 2147483647 from (by omega)) (show -2147483648 ≤ (0 : Int) ∧ (0 : Int) ≤ 2147483647 from (by omega)) (show -2147483648 ≤ (2 : Int) ∧ (2 : Int) ≤ 2147483647 from (by omega))) mf_X12_in kw_1159 hG trivial rfl hl.1 ⟨⟨Nat.le_of_ble_eq_true rfl, Nat.le_of_ble_eq_true rfl⟩, Nat.le_of_ble_eq_true rfl, Nat.le_refl _, Nat.le_refl _⟩ rfl dX12_ray_21 (fun z_21 h_21 => ?_)
      have h_21 : (z_21 = 1 ∧ ((0 : Int) ≤ what ∧ what ≤ (2 : Int))) ∨ (z_21 = 0 ∧ ¬ ((0 : Int) ≤ what ∧ what ≤ (2 : Int))) := h_21
      refine j_if_eq SS (tgt := 54) (x := z_21) dX12_ray_24 (by decide) (by omega) (fun c_24 => ?_) (fun c_24 => ?_)
      · skip
        refine j_ldc SS (-1000000) kw_1213 dX12_ray_54 ?_
        exact W.iret SS.1 SS.2.1 hr (fun t ht hW => ⟨⟨_, (uV (uI (uI u 17 (u.1 17)) 18 (u.1 18)) 19 (u.2.2 19)), rfl, ⟨(-1000000), rfl, (⟨(u.1 17), (u.1 18), (u.2.2 19), rfl, by first | exact ⟨Or.inl ⟨fun h => by unfold pl4 at h; omega, rfl⟩, p0⟩ | exact ⟨Or.inl ⟨fun h => by (rcases h_33 with q | q; have q2 := h.2.2.1; omega; omega), rfl⟩, p0⟩ | (by_cases hi : 0 ≤ i; exact ⟨Or.inr ⟨hp, by omega, hc, hi, X_33, Y_33, n_33, hry, Or.inl ⟨by omega, rfl⟩⟩, p0⟩; exact ⟨Or.inl ⟨fun h => by have := h.2.2.2; omega, rfl⟩, p0⟩)⟩)⟩, by show va_P D.1 j_cl (mW D o q (uV (uI (uI u 17 (u.1 17)) 18 (u.1 18)) 19 (u.2.2 19))) t.heap; rw [ht]; exact hP⟩, hS.F ht⟩) hS.2.2 dX12_ray_56 hlk
      · skip
        refine lv_aload_n SS.1 SS.2.1 dX12_ray_27 rfl (lv_at hl 0 rfl) ?_
        refine lv_iload_n SS.1 SS.2.1 dX12_ray_28 rfl (lv_at hl 1 rfl) ?_
        refine lv_iload_n SS.1 SS.2.1 dX12_ray_29 rfl (lv_at hl 2 rfl) ?_
        refine lv_iload_n SS.1 SS.2.1 dX12_ray_30 rfl (lv_at hl 3 rfl) ?_
        refine lv_iload SS.1 SS.2.1 dX12_ray_31 (lv_at hl 4 rfl) ?_
        refine j_vWi SS (As := [.int (J a), .int (J b), .int (J c), .int (J d)]) (rest := []) (c_X12_findRays l D o q u A (mW_D hD) a b c d (show -40 ≤ a ∧ a ≤ 40 from (by omega)) (show -40 ≤ b ∧ b ≤ 40 from (by omega)) (show -40 ≤ c ∧ c ≤ 40 from (by omega)) (show -40 ≤ d ∧ d ≤ 40 from (by omega))) mf_X12_findRays kw_1392 hG hP hP (ci := 8) (q0 := 0) rfl rfl rfl hS (fun _ h => h) rfl hl.1 ⟨⟨Nat.le_of_ble_eq_true rfl, Nat.le_of_ble_eq_true rfl⟩, Nat.le_of_ble_eq_true rfl, Nat.le_refl _, Nat.le_refl _⟩ rfl dX12_ray_33 (fun z_33 u33 H locs h_33 hP _ hS => ?_)
        obtain ⟨X_33, Y_33, n_33, rfl, h_33⟩ := h_33
        have hP : va_P D.1 j_cl (mW D o q (uV (uI (uI u 17 X_33) 18 Y_33) 19 n_33)) H := hP
        have h_33 : (z_33 = 0 ∧ cx a b c d ≤ 0) ∨ (z_33 = 1 ∧ 0 < cx a b c d ∧ ry a b c d X_33 Y_33 n_33) := h_33
        refine j_if_eq SS (tgt := 54) (x := z_33) dX12_ray_36 (by decide) (by omega) (fun c_36 => ?_) (fun c_36 => ?_)
        · skip
          refine j_ldc SS (-1000000) kw_1213 dX12_ray_54 ?_
          exact W.iret SS.1 SS.2.1 hr (fun t ht hW => ⟨⟨_, (uV (uI (uI u 17 X_33) 18 Y_33) 19 n_33), rfl, ⟨(-1000000), rfl, (⟨X_33, Y_33, n_33, rfl, by first | exact ⟨Or.inl ⟨fun h => by unfold pl4 at h; omega, rfl⟩, p0⟩ | exact ⟨Or.inl ⟨fun h => by (rcases h_33 with q | q; have q2 := h.2.2.1; omega; omega), rfl⟩, p0⟩ | (by_cases hi : 0 ≤ i; exact ⟨Or.inr ⟨hp, by omega, hc, hi, X_33, Y_33, n_33, hry, Or.inl ⟨by omega, rfl⟩⟩, p0⟩; exact ⟨Or.inl ⟨fun h => by have := h.2.2.2; omega, rfl⟩, p0⟩)⟩)⟩, by show va_P D.1 j_cl (mW D o q (uV (uI (uI u 17 X_33) 18 Y_33) 19 n_33)) t.heap; rw [ht]; exact hP⟩, hS.F ht⟩) hS.2.2 dX12_ray_56 hlk
        · skip
          have hp : pl4 a b c d := by unfold pl4; omega
          have hry : ry a b c d X_33 Y_33 n_33 := by rcases h_33 with q | q; omega; exact q.2.2
          have hc : 0 < cx a b c d := by rcases h_33 with q | q; omega; exact q.2.1
          have hn := hry.1
          refine lv_iload SS.1 SS.2.1 dX12_ray_39 (lv_at hl 5 rfl) ?_
          refine j_iconst SS dX12_ray_41 ?_
          refine lv_aload_n SS.1 SS.2.1 dX12_ray_42 rfl (lv_at hl 0 rfl) ?_
          refine j_get SS hG hP 0 (v := .int (J n_33)) (C := RX12) (T := TX12) (N := 31) rfl rfl inX12 19 (by decide) (ref := RX12) kw_1077 rfl rfl dX12_ray_43 ?_
          refine j_iconst SS dX12_ray_46 ?_
          refine j_isub SS (x := n_33) (y := 1) dX12_ray_47 ?_
          refine j_sRi SS (As := [.int (J i), .int (J 0), .int (J (n_33 - 1))]) (rest := []) (c_X12_in l D i 0 (n_33 - 1) (show -2147483648 ≤ i ∧ i ≤ 2147483647 from (by omega)) (show -2147483648 ≤ (0 : Int) ∧ (0 : Int) ≤ 2147483647 from (by omega)) (show -2147483648 ≤ (n_33 - 1) ∧ (n_33 - 1) ≤ 2147483647 from (by omega))) mf_X12_in kw_1159 hG trivial rfl hl.1 ⟨⟨Nat.le_of_ble_eq_true rfl, Nat.le_of_ble_eq_true rfl⟩, Nat.le_of_ble_eq_true rfl, Nat.le_refl _, Nat.le_refl _⟩ rfl dX12_ray_48 (fun z_48 h_48 => ?_)
          have h_48 : (z_48 = 1 ∧ ((0 : Int) ≤ i ∧ i ≤ (n_33 - 1))) ∨ (z_48 = 0 ∧ ¬ ((0 : Int) ≤ i ∧ i ≤ (n_33 - 1))) := h_48
          refine j_if_ne SS (tgt := 57) (x := z_48) dX12_ray_51 (by decide) (by omega) (fun c_51 => ?_) (fun c_51 => ?_)
          · skip
            have hbi := ry_b hry (i := i) (by omega) (by omega)
            refine lv_iload SS.1 SS.2.1 dX12_ray_57 (lv_at hl 6 rfl) ?_
            refine j_iconst SS dX12_ray_59 ?_
            refine j_icmp_ge SS (tgt := 86) (x := what) (y := 2) dX12_ray_60 (by decide) (by omega) (by decide) (fun c_60 => ?_) (fun c_60 => ?_)
            · skip
              refine lv_iload SS.1 SS.2.1 dX12_ray_86 (lv_at hl 5 rfl) ?_
              refine j_if_eq SS (tgt := 102) (x := i) dX12_ray_88 (by decide) (by omega) (fun c_88 => ?_) (fun c_88 => ?_)
              · skip
                refine j_ldc SS (-1000000) kw_1213 dX12_ray_102 ?_
                exact W.iret SS.1 SS.2.1 hr (fun t ht hW => ⟨⟨_, (uV (uI (uI u 17 X_33) 18 Y_33) 19 n_33), rfl, ⟨(-1000000), rfl, (⟨X_33, Y_33, n_33, rfl, ⟨Or.inr ⟨hp, by omega, hc, by omega, X_33, Y_33, n_33, hry, Or.inr ⟨by omega, Or.inr (Or.inr ⟨by omega, Or.inl ⟨by omega, rfl⟩⟩)⟩⟩, p0⟩⟩)⟩, by show va_P D.1 j_cl (mW D o q (uV (uI (uI u 17 X_33) 18 Y_33) 19 n_33)) t.heap; rw [ht]; exact hP⟩, hS.F ht⟩) hS.2.2 dX12_ray_104 hlk
              · skip
                refine lv_iload SS.1 SS.2.1 dX12_ray_91 (lv_at hl 5 rfl) ?_
                refine lv_aload_n SS.1 SS.2.1 dX12_ray_93 rfl (lv_at hl 0 rfl) ?_
                refine j_get SS hG hP 0 (v := .int (J n_33)) (C := RX12) (T := TX12) (N := 31) rfl rfl inX12 19 (by decide) (ref := RX12) kw_1077 rfl rfl dX12_ray_94 ?_
                refine j_iconst SS dX12_ray_97 ?_
                refine j_isub SS (x := n_33) (y := 1) dX12_ray_98 ?_
                refine j_icmp_ne SS (tgt := 105) (x := i) (y := (n_33 - 1)) dX12_ray_99 (by decide) (by omega) (by omega) (fun c_99 => ?_) (fun c_99 => ?_)
                · skip
                  have hbp := ry_b hry (i := i - 1) (by omega) (by omega)
                  have hbn := ry_b hry (i := i + 1) (by omega) (by omega)
                  have hbe := ry_bend hry (i := i) (by omega) (by omega)
                  refine lv_aload_n SS.1 SS.2.1 dX12_ray_105 rfl (lv_at hl 0 rfl) ?_
                  refine j_get SS hG hP 0 (v := .ref (q 17)) (C := RX12) (T := TX12) (N := 31) rfl rfl inX12 17 (by decide) (ref := RX12) kw_1075 rfl rfl dX12_ray_106 ?_
                  refine lv_iload SS.1 SS.2.1 dX12_ray_109 (lv_at hl 5 rfl) ?_
                  refine j_iald SS hG hP 15 (n := 4000) (f := X_33) rfl (z := i) (by omega) (by omega) dX12_ray_111 ?_
                  refine j_if_eq SS (tgt := 145) (x := (X_33 (i).toNat)) dX12_ray_112 (by decide) (by omega) (fun c_112 => ?_) (fun c_112 => ?_)
                  · skip
                    refine lv_aload_n SS.1 SS.2.1 dX12_ray_145 rfl (lv_at hl 0 rfl) ?_
                    refine j_get SS hG hP 0 (v := .ref (q 18)) (C := RX12) (T := TX12) (N := 31) rfl rfl inX12 18 (by decide) (ref := RX12) kw_1076 rfl rfl dX12_ray_146 ?_
                    refine lv_iload SS.1 SS.2.1 dX12_ray_149 (lv_at hl 5 rfl) ?_
                    refine j_iconst SS dX12_ray_151 ?_
                    refine j_isub SS (x := i) (y := 1) dX12_ray_152 ?_
                    refine j_iald SS hG hP 16 (n := 4000) (f := Y_33) rfl (z := (i - 1)) (by omega) (by omega) dX12_ray_153 ?_
                    refine lv_aload_n SS.1 SS.2.1 dX12_ray_154 rfl (lv_at hl 0 rfl) ?_
                    refine j_get SS hG hP 0 (v := .ref (q 18)) (C := RX12) (T := TX12) (N := 31) rfl rfl inX12 18 (by decide) (ref := RX12) kw_1076 rfl rfl dX12_ray_155 ?_
                    refine lv_iload SS.1 SS.2.1 dX12_ray_158 (lv_at hl 5 rfl) ?_
                    refine j_iconst SS dX12_ray_160 ?_
                    refine j_iadd SS (x := i) (y := 1) dX12_ray_161 ?_
                    refine j_iald SS hG hP 16 (n := 4000) (f := Y_33) rfl (z := (i + 1)) (by omega) (by omega) dX12_ray_162 ?_
                    refine j_iadd SS (x := (Y_33 ((i - 1)).toNat)) (y := (Y_33 ((i + 1)).toNat)) dX12_ray_163 ?_
                    refine lv_aload_n SS.1 SS.2.1 dX12_ray_164 rfl (lv_at hl 0 rfl) ?_
                    refine j_get SS hG hP 0 (v := .ref (q 18)) (C := RX12) (T := TX12) (N := 31) rfl rfl inX12 18 (by decide) (ref := RX12) kw_1076 rfl rfl dX12_ray_165 ?_
                    refine lv_iload SS.1 SS.2.1 dX12_ray_168 (lv_at hl 5 rfl) ?_
                    refine j_iald SS hG hP 16 (n := 4000) (f := Y_33) rfl (z := i) (by omega) (by omega) dX12_ray_170 ?_
                    refine j_idiv SS (x := ((Y_33 ((i - 1)).toNat) + (Y_33 ((i + 1)).toNat))) (y := (Y_33 (i).toNat)) dX12_ray_171 (by omega) (by omega) (by omega) ?_
                    exact W.iret SS.1 SS.2.1 hr (fun t ht hW => ⟨⟨_, (uV (uI (uI u 17 X_33) 18 Y_33) 19 n_33), rfl, ⟨(Int.tdiv ((Y_33 ((i - 1)).toNat) + (Y_33 ((i + 1)).toNat)) (Y_33 (i).toNat)), rfl, (⟨X_33, Y_33, n_33, rfl, ⟨Or.inr ⟨hp, by omega, hc, by omega, X_33, Y_33, n_33, hry, Or.inr ⟨by omega, Or.inr (Or.inr ⟨by omega, Or.inr ⟨by omega, by omega, by first | exact ry_dv hbe.1 (by omega) | exact ry_dv hbe.2.1 (by omega)⟩⟩)⟩⟩, p0⟩⟩)⟩, by show va_P D.1 j_cl (mW D o q (uV (uI (uI u 17 X_33) 18 Y_33) 19 n_33)) t.heap; rw [ht]; exact hP⟩, hS.F ht⟩) hS.2.2 dX12_ray_172 hlk
                  · skip
                    refine lv_aload_n SS.1 SS.2.1 dX12_ray_115 rfl (lv_at hl 0 rfl) ?_
                    refine j_get SS hG hP 0 (v := .ref (q 17)) (C := RX12) (T := TX12) (N := 31) rfl rfl inX12 17 (by decide) (ref := RX12) kw_1075 rfl rfl dX12_ray_116 ?_
                    refine lv_iload SS.1 SS.2.1 dX12_ray_119 (lv_at hl 5 rfl) ?_
                    refine j_iconst SS dX12_ray_121 ?_
                    refine j_isub SS (x := i) (y := 1) dX12_ray_122 ?_
                    refine j_iald SS hG hP 15 (n := 4000) (f := X_33) rfl (z := (i - 1)) (by omega) (by omega) dX12_ray_123 ?_
                    refine lv_aload_n SS.1 SS.2.1 dX12_ray_124 rfl (lv_at hl 0 rfl) ?_
                    refine j_get SS hG hP 0 (v := .ref (q 17)) (C := RX12) (T := TX12) (N := 31) rfl rfl inX12 17 (by decide) (ref := RX12) kw_1075 rfl rfl dX12_ray_125 ?_
                    refine lv_iload SS.1 SS.2.1 dX12_ray_128 (lv_at hl 5 rfl) ?_
                    refine j_iconst SS dX12_ray_130 ?_
                    refine j_iadd SS (x := i) (y := 1) dX12_ray_131 ?_
                    refine j_iald SS hG hP 15 (n := 4000) (f := X_33) rfl (z := (i + 1)) (by omega) (by omega) dX12_ray_132 ?_
                    refine j_iadd SS (x := (X_33 ((i - 1)).toNat)) (y := (X_33 ((i + 1)).toNat)) dX12_ray_133 ?_
                    refine lv_aload_n SS.1 SS.2.1 dX12_ray_134 rfl (lv_at hl 0 rfl) ?_
                    refine j_get SS hG hP 0 (v := .ref (q 17)) (C := RX12) (T := TX12) (N := 31) rfl rfl inX12 17 (by decide) (ref := RX12) kw_1075 rfl rfl dX12_ray_135 ?_
                    refine lv_iload SS.1 SS.2.1 dX12_ray_138 (lv_at hl 5 rfl) ?_
                    refine j_iald SS hG hP 15 (n := 4000) (f := X_33) rfl (z := i) (by omega) (by omega) dX12_ray_140 ?_
                    refine j_idiv SS (x := ((X_33 ((i - 1)).toNat) + (X_33 ((i + 1)).toNat))) (y := (X_33 (i).toNat)) dX12_ray_141 (by omega) (by omega) (by omega) ?_
                    refine lv_goto (tgt := 172) SS.1 SS.2.1 dX12_ray_142 (by decide) ?_
                    exact W.iret SS.1 SS.2.1 hr (fun t ht hW => ⟨⟨_, (uV (uI (uI u 17 X_33) 18 Y_33) 19 n_33), rfl, ⟨(Int.tdiv ((X_33 ((i - 1)).toNat) + (X_33 ((i + 1)).toNat)) (X_33 (i).toNat)), rfl, (⟨X_33, Y_33, n_33, rfl, ⟨Or.inr ⟨hp, by omega, hc, by omega, X_33, Y_33, n_33, hry, Or.inr ⟨by omega, Or.inr (Or.inr ⟨by omega, Or.inr ⟨by omega, by omega, by first | exact ry_dv hbe.1 (by omega) | exact ry_dv hbe.2.1 (by omega)⟩⟩)⟩⟩, p0⟩⟩)⟩, by show va_P D.1 j_cl (mW D o q (uV (uI (uI u 17 X_33) 18 Y_33) 19 n_33)) t.heap; rw [ht]; exact hP⟩, hS.F ht⟩) hS.2.2 dX12_ray_172 hlk
                · skip
                  refine j_ldc SS (-1000000) kw_1213 dX12_ray_102 ?_
                  exact W.iret SS.1 SS.2.1 hr (fun t ht hW => ⟨⟨_, (uV (uI (uI u 17 X_33) 18 Y_33) 19 n_33), rfl, ⟨(-1000000), rfl, (⟨X_33, Y_33, n_33, rfl, ⟨Or.inr ⟨hp, by omega, hc, by omega, X_33, Y_33, n_33, hry, Or.inr ⟨by omega, Or.inr (Or.inr ⟨by omega, Or.inl ⟨by omega, rfl⟩⟩)⟩⟩, p0⟩⟩)⟩, by show va_P D.1 j_cl (mW D o q (uV (uI (uI u 17 X_33) 18 Y_33) 19 n_33)) t.heap; rw [ht]; exact hP⟩, hS.F ht⟩) hS.2.2 dX12_ray_104 hlk
            · skip
              refine lv_iload SS.1 SS.2.1 dX12_ray_63 (lv_at hl 6 rfl) ?_
              refine j_if_ne SS (tgt := 78) (x := what) dX12_ray_65 (by decide) (by omega) (fun c_65 => ?_) (fun c_65 => ?_)
              · skip
                refine lv_aload_n SS.1 SS.2.1 dX12_ray_78 rfl (lv_at hl 0 rfl) ?_
                refine j_get SS hG hP 0 (v := .ref (q 18)) (C := RX12) (T := TX12) (N := 31) rfl rfl inX12 18 (by decide) (ref := RX12) kw_1076 rfl rfl dX12_ray_79 ?_
                refine lv_iload SS.1 SS.2.1 dX12_ray_82 (lv_at hl 5 rfl) ?_
                refine j_iald SS hG hP 16 (n := 4000) (f := Y_33) rfl (z := i) (by omega) (by omega) dX12_ray_84 ?_
                exact W.iret SS.1 SS.2.1 hr (fun t ht hW => ⟨⟨_, (uV (uI (uI u 17 X_33) 18 Y_33) 19 n_33), rfl, ⟨(Y_33 (i).toNat), rfl, (⟨X_33, Y_33, n_33, rfl, ⟨Or.inr ⟨hp, by omega, hc, by omega, X_33, Y_33, n_33, hry, Or.inr ⟨by omega, by first | exact Or.inl ⟨by omega, rfl⟩ | exact Or.inr (Or.inl ⟨by omega, rfl⟩)⟩⟩, p0⟩⟩)⟩, by show va_P D.1 j_cl (mW D o q (uV (uI (uI u 17 X_33) 18 Y_33) 19 n_33)) t.heap; rw [ht]; exact hP⟩, hS.F ht⟩) hS.2.2 dX12_ray_85 hlk
              · skip
                refine lv_aload_n SS.1 SS.2.1 dX12_ray_68 rfl (lv_at hl 0 rfl) ?_
                refine j_get SS hG hP 0 (v := .ref (q 17)) (C := RX12) (T := TX12) (N := 31) rfl rfl inX12 17 (by decide) (ref := RX12) kw_1075 rfl rfl dX12_ray_69 ?_
                refine lv_iload SS.1 SS.2.1 dX12_ray_72 (lv_at hl 5 rfl) ?_
                refine j_iald SS hG hP 15 (n := 4000) (f := X_33) rfl (z := i) (by omega) (by omega) dX12_ray_74 ?_
                refine lv_goto (tgt := 85) SS.1 SS.2.1 dX12_ray_75 (by decide) ?_
                exact W.iret SS.1 SS.2.1 hr (fun t ht hW => ⟨⟨_, (uV (uI (uI u 17 X_33) 18 Y_33) 19 n_33), rfl, ⟨(X_33 (i).toNat), rfl, (⟨X_33, Y_33, n_33, rfl, ⟨Or.inr ⟨hp, by omega, hc, by omega, X_33, Y_33, n_33, hry, Or.inr ⟨by omega, by first | exact Or.inl ⟨by omega, rfl⟩ | exact Or.inr (Or.inl ⟨by omega, rfl⟩)⟩⟩, p0⟩⟩)⟩, by show va_P D.1 j_cl (mW D o q (uV (uI (uI u 17 X_33) 18 Y_33) 19 n_33)) t.heap; rw [ht]; exact hP⟩, hS.F ht⟩) hS.2.2 dX12_ray_85 hlk
          · skip
            refine j_ldc SS (-1000000) kw_1213 dX12_ray_54 ?_
            exact W.iret SS.1 SS.2.1 hr (fun t ht hW => ⟨⟨_, (uV (uI (uI u 17 X_33) 18 Y_33) 19 n_33), rfl, ⟨(-1000000), rfl, (⟨X_33, Y_33, n_33, rfl, by first | exact ⟨Or.inl ⟨fun h => by unfold pl4 at h; omega, rfl⟩, p0⟩ | exact ⟨Or.inl ⟨fun h => by (rcases h_33 with q | q; have q2 := h.2.2.1; omega; omega), rfl⟩, p0⟩ | (by_cases hi : 0 ≤ i; exact ⟨Or.inr ⟨hp, by omega, hc, hi, X_33, Y_33, n_33, hry, Or.inl ⟨by omega, rfl⟩⟩, p0⟩; exact ⟨Or.inl ⟨fun h => by have := h.2.2.2; omega, rfl⟩, p0⟩)⟩)⟩, by show va_P D.1 j_cl (mW D o q (uV (uI (uI u 17 X_33) 18 Y_33) 19 n_33)) t.heap; rw [ht]; exact hP⟩, hS.F ht⟩) hS.2.2 dX12_ray_56 hlk


/-! the class's state: rows of points (the rings of the shapes, 8: the hull's, 9, 10: points), heights and stamps of the shapes; the rest as the reference's -/
abbrev CS : Type := ((Nat → Nat → Int) × (Nat → Nat → Int) × (Nat → Int) × (Nat → Nat → Int) × (Nat → Int)) × MS
def sX (u : CS) (r : Nat) (f : Nat → Int) : CS := ((fun j => if j = r then f else u.1.1 j, u.1.2), u.2)
def sY (u : CS) (r : Nat) (f : Nat → Int) : CS := ((u.1.1, fun j => if j = r then f else u.1.2.1 j, u.1.2.2), u.2)
def sC (u : CS) (r : Nat) (v : Int) : CS := ((u.1.1, u.1.2.1, fun j => if j = r then v else u.1.2.2.1 j, u.1.2.2.2), u.2)
def sH (u : CS) (r : Nat) (f : Nat → Int) : CS := ((u.1.1, u.1.2.1, u.1.2.2.1, fun j => if j = r then f else u.1.2.2.2.1 j, u.1.2.2.2.2), u.2)
def sT (u : CS) (r : Nat) (v : Int) : CS := ((u.1.1, u.1.2.1, u.1.2.2.1, u.1.2.2.2.1, fun j => if j = r then v else u.1.2.2.2.2 j), u.2)
def sI (u : CS) (k : Nat) (f : Nat → Int) : CS := (u.1, uI u.2 k f)
def sL (u : CS) (k : Nat) (f : Nat → Int64) : CS := (u.1, uL u.2 k f)
def sV (u : CS) (k : Nat) (v : Int) : CS := (u.1, uV u.2 k v)
/-- how many places a row has -/
def rl (r : Nat) : Nat := if r < 8 then 24 else if r = 8 then 323 else if r = 9 then 12 else 40
theorem rl_b (r : Nat) : 12 ≤ rl r ∧ rl r ≤ 323 := by unfold rl; split; omega; split; omega; split <;> omega
theorem rl_s {r : Nat} (h : r < 8) : rl r = 24 := if_pos h
def cW (D : JD) (q : Nat → Nat) (u : CS) : va_W := [(q 0, .inr (11, [.ref (q 1), .ref (q 2), .ref (q 3), .ref (q 4), .ref (q 5), .ref (q 6), .ref (q 7), .int (J (u.2.2.2 0))])), (q 1, .inl (D.2.2.2, 8, .inr (.inr (.inr (.inr (fun i => some (q (8 + 5 * i)))))))), (q 2, .inr (3, [.ref (q 48), .ref (q 52), .ref (q 49)])), (q 3, .inr (4, [.int (J (u.2.2.2 1)), .int (J (u.2.2.2 2)), .int (J (u.2.2.2 3))])), (q 4, .inr (9, [.int (J (u.2.2.2 4)), .int (J (u.2.2.2 5)), .int (J (u.2.2.2 6)), .int (J (u.2.2.2 7)), .int (J (u.2.2.2 8)), .int (J (u.2.2.2 9))])), (q 5, .inr (0, [.ref (q 67), .ref (q 68), .ref (q 62), .ref (q 63), .int (J (u.2.2.2 10)), .int (J (u.2.2.2 11)), .int (J (u.2.2.2 12)), .int (J (u.2.2.2 13)), .int (J (u.2.2.2 14)), .int (J (u.2.2.2 15)), .int (J (u.2.2.2 16)), .int (J (u.2.2.2 17)), .int (J (u.2.2.2 18)), .int (J (u.2.2.2 19))])), (q 6, .inr (2, [.ref (q 66), .ref (q 69), .ref (q 64), .ref (q 65), .int (J (u.2.2.2 22)), .int (J (u.2.2.2 23)), .int (J (u.2.2.2 24))])), (q 7, .inr (1, [.ref (q 59), .ref (q 73), .int (J (u.2.2.2 25)), .int (J (u.2.2.2 26))])), (q 8, .inr (10, [.ref (q 9), .ref (q 12), .int (J (u.1.2.2.2.2 0))])), (q 9, .inr (7, [.ref (q 10), .ref (q 11), .int (J (u.1.2.2.1 0))])), (q 10, .inl (D.2.1, 24, .inl (fun i => J (u.1.1 0 i)))), (q 11, .inl (D.2.1, 24, .inl (fun i => J (u.1.2.1 0 i)))), (q 12, .inl (D.2.1, 40, .inl (fun i => J (u.1.2.2.2.1 0 i)))), (q 13, .inr (10, [.ref (q 14), .ref (q 17), .int (J (u.1.2.2.2.2 1))])), (q 14, .inr (7, [.ref (q 15), .ref (q 16), .int (J (u.1.2.2.1 1))])), (q 15, .inl (D.2.1, 24, .inl (fun i => J (u.1.1 1 i)))), (q 16, .inl (D.2.1, 24, .inl (fun i => J (u.1.2.1 1 i)))), (q 17, .inl (D.2.1, 40, .inl (fun i => J (u.1.2.2.2.1 1 i)))), (q 18, .inr (10, [.ref (q 19), .ref (q 22), .int (J (u.1.2.2.2.2 2))])), (q 19, .inr (7, [.ref (q 20), .ref (q 21), .int (J (u.1.2.2.1 2))])), (q 20, .inl (D.2.1, 24, .inl (fun i => J (u.1.1 2 i)))), (q 21, .inl (D.2.1, 24, .inl (fun i => J (u.1.2.1 2 i)))), (q 22, .inl (D.2.1, 40, .inl (fun i => J (u.1.2.2.2.1 2 i)))), (q 23, .inr (10, [.ref (q 24), .ref (q 27), .int (J (u.1.2.2.2.2 3))])), (q 24, .inr (7, [.ref (q 25), .ref (q 26), .int (J (u.1.2.2.1 3))])), (q 25, .inl (D.2.1, 24, .inl (fun i => J (u.1.1 3 i)))), (q 26, .inl (D.2.1, 24, .inl (fun i => J (u.1.2.1 3 i)))), (q 27, .inl (D.2.1, 40, .inl (fun i => J (u.1.2.2.2.1 3 i)))), (q 28, .inr (10, [.ref (q 29), .ref (q 32), .int (J (u.1.2.2.2.2 4))])), (q 29, .inr (7, [.ref (q 30), .ref (q 31), .int (J (u.1.2.2.1 4))])), (q 30, .inl (D.2.1, 24, .inl (fun i => J (u.1.1 4 i)))), (q 31, .inl (D.2.1, 24, .inl (fun i => J (u.1.2.1 4 i)))), (q 32, .inl (D.2.1, 40, .inl (fun i => J (u.1.2.2.2.1 4 i)))), (q 33, .inr (10, [.ref (q 34), .ref (q 37), .int (J (u.1.2.2.2.2 5))])), (q 34, .inr (7, [.ref (q 35), .ref (q 36), .int (J (u.1.2.2.1 5))])), (q 35, .inl (D.2.1, 24, .inl (fun i => J (u.1.1 5 i)))), (q 36, .inl (D.2.1, 24, .inl (fun i => J (u.1.2.1 5 i)))), (q 37, .inl (D.2.1, 40, .inl (fun i => J (u.1.2.2.2.1 5 i)))), (q 38, .inr (10, [.ref (q 39), .ref (q 42), .int (J (u.1.2.2.2.2 6))])), (q 39, .inr (7, [.ref (q 40), .ref (q 41), .int (J (u.1.2.2.1 6))])), (q 40, .inl (D.2.1, 24, .inl (fun i => J (u.1.1 6 i)))), (q 41, .inl (D.2.1, 24, .inl (fun i => J (u.1.2.1 6 i)))), (q 42, .inl (D.2.1, 40, .inl (fun i => J (u.1.2.2.2.1 6 i)))), (q 43, .inr (10, [.ref (q 44), .ref (q 47), .int (J (u.1.2.2.2.2 7))])), (q 44, .inr (7, [.ref (q 45), .ref (q 46), .int (J (u.1.2.2.1 7))])), (q 45, .inl (D.2.1, 24, .inl (fun i => J (u.1.1 7 i)))), (q 46, .inl (D.2.1, 24, .inl (fun i => J (u.1.2.1 7 i)))), (q 47, .inl (D.2.1, 40, .inl (fun i => J (u.1.2.2.2.1 7 i)))), (q 48, .inl (D.2.1, 161, .inl (fun i => J (u.2.1 0 i)))), (q 49, .inr (7, [.ref (q 50), .ref (q 51), .int (J (u.1.2.2.1 8))])), (q 50, .inl (D.2.1, 323, .inl (fun i => J (u.1.1 8 i)))), (q 51, .inl (D.2.1, 323, .inl (fun i => J (u.1.2.1 8 i)))), (q 52, .inl (D.2.1, 161, .inl (fun i => J (u.2.1 1 i)))), (q 53, .inl (D.2.1, 63, .inl (fun i => J (u.2.1 2 i)))), (q 54, .inr (6, [.ref (q 55), .ref (q 56), .int (J (u.1.2.2.1 9))])), (q 55, .inl (D.2.1, 12, .inl (fun i => J (u.1.1 9 i)))), (q 56, .inl (D.2.1, 12, .inl (fun i => J (u.1.2.1 9 i)))), (q 57, .inl (D.2.1, 63, .inl (fun i => J (u.2.1 3 i)))), (q 58, .inl (D.2.1, 144, .inl (fun i => J (u.2.1 4 i)))), (q 59, .inr (6, [.ref (q 60), .ref (q 61), .int (J (u.1.2.2.1 10))])), (q 60, .inl (D.2.1, 40, .inl (fun i => J (u.1.1 10 i)))), (q 61, .inl (D.2.1, 40, .inl (fun i => J (u.1.2.1 10 i)))), (q 62, .inl (D.2.1, 164025, .inl (fun i => J (u.2.1 5 i)))), (q 63, .inl (D.2.1, 24, .inl (fun i => J (u.2.1 6 i)))), (q 64, .inl (D.2.1, 1500, .inl (fun i => J (u.2.1 7 i)))), (q 65, .inl (D.2.1, 4096, .inl (fun i => J (u.2.1 8 i)))), (q 66, .inr (5, [.ref (q 54), .ref (q 53), .ref (q 57), .ref (q 70), .ref (q 58), .int (J (u.2.2.2 20)), .ref (q 71), .ref (q 72), .int (J (u.2.2.2 21))])), (q 67, .inl (D.2.2.1, 6561, .inr (.inl (u.2.2.1 0)))), (q 68, .inl (D.2.2.1, 6561, .inr (.inl (u.2.2.1 1)))), (q 69, .inl (D.2.2.1, 1500, .inr (.inl (u.2.2.1 2)))), (q 70, .inl (D.2.2.1, 63, .inr (.inl (u.2.2.1 3)))), (q 71, .inl (D.2.2.1, 756, .inr (.inl (u.2.2.1 4)))), (q 72, .inl (D.2.2.1, 756, .inr (.inl (u.2.2.1 5)))), (q 73, .inl (D.2.2.1, 80, .inr (.inl (u.2.2.1 6))))]
theorem cw_ring {D : JD} {q : Nat → Nat} {u : CS} {r : Nat} (h : r ≤ 8) : (cW D q u)[9 + 5 * r]? = some (q (9 + 5 * r), .inr (7, [.ref (q (10 + 5 * r)), .ref (q (11 + 5 * r)), .int (J (u.1.2.2.1 r))])) := by
  have hh : r = 0 ∨ r = 1 ∨ r = 2 ∨ r = 3 ∨ r = 4 ∨ r = 5 ∨ r = 6 ∨ r = 7 ∨ r = 8 := by omega
  rcases hh with rfl | rfl | rfl | rfl | rfl | rfl | rfl | rfl | rfl <;> rfl
theorem cs_ring {D : JD} {q : Nat → Nat} {u : CS} {r : Nat} (h : r ≤ 8) {v : Int} : (cW D q u).set (9 + 5 * r) (q (9 + 5 * r), .inr (7, [.ref (q (10 + 5 * r)), .ref (q (11 + 5 * r)), .int (J v)])) = cW D q (sC u r v) := by
  have hh : r = 0 ∨ r = 1 ∨ r = 2 ∨ r = 3 ∨ r = 4 ∨ r = 5 ∨ r = 6 ∨ r = 7 ∨ r = 8 := by omega
  rcases hh with rfl | rfl | rfl | rfl | rfl | rfl | rfl | rfl | rfl <;> rfl
theorem cw_pts {D : JD} {q : Nat → Nat} {u : CS} {r : Nat} (h : r = 9 ∨ r = 10) : (cW D q u)[9 + 5 * r]? = some (q (9 + 5 * r), .inr (6, [.ref (q (10 + 5 * r)), .ref (q (11 + 5 * r)), .int (J (u.1.2.2.1 r))])) := by
  have hh : r = 9 ∨ r = 10 := by omega
  rcases hh with rfl | rfl <;> rfl
theorem cs_pts {D : JD} {q : Nat → Nat} {u : CS} {r : Nat} (h : r = 9 ∨ r = 10) {v : Int} : (cW D q u).set (9 + 5 * r) (q (9 + 5 * r), .inr (6, [.ref (q (10 + 5 * r)), .ref (q (11 + 5 * r)), .int (J v)])) = cW D q (sC u r v) := by
  have hh : r = 9 ∨ r = 10 := by omega
  rcases hh with rfl | rfl <;> rfl
theorem cw_xs {D : JD} {q : Nat → Nat} {u : CS} {r : Nat} (h : r ≤ 10) : (cW D q u)[10 + 5 * r]? = some (q (10 + 5 * r), .inl (D.2.1, rl r, .inl (fun i => J (u.1.1 r i)))) := by
  have hh : r = 0 ∨ r = 1 ∨ r = 2 ∨ r = 3 ∨ r = 4 ∨ r = 5 ∨ r = 6 ∨ r = 7 ∨ r = 8 ∨ r = 9 ∨ r = 10 := by omega
  rcases hh with rfl | rfl | rfl | rfl | rfl | rfl | rfl | rfl | rfl | rfl | rfl <;> rfl
theorem cs_xs {D : JD} {q : Nat → Nat} {u : CS} {r : Nat} (h : r ≤ 10) {f : Nat → Int} : (cW D q u).set (10 + 5 * r) (q (10 + 5 * r), .inl (D.2.1, rl r, .inl (fun i => J (f i)))) = cW D q (sX u r f) := by
  have hh : r = 0 ∨ r = 1 ∨ r = 2 ∨ r = 3 ∨ r = 4 ∨ r = 5 ∨ r = 6 ∨ r = 7 ∨ r = 8 ∨ r = 9 ∨ r = 10 := by omega
  rcases hh with rfl | rfl | rfl | rfl | rfl | rfl | rfl | rfl | rfl | rfl | rfl <;> rfl
theorem cw_ys {D : JD} {q : Nat → Nat} {u : CS} {r : Nat} (h : r ≤ 10) : (cW D q u)[11 + 5 * r]? = some (q (11 + 5 * r), .inl (D.2.1, rl r, .inl (fun i => J (u.1.2.1 r i)))) := by
  have hh : r = 0 ∨ r = 1 ∨ r = 2 ∨ r = 3 ∨ r = 4 ∨ r = 5 ∨ r = 6 ∨ r = 7 ∨ r = 8 ∨ r = 9 ∨ r = 10 := by omega
  rcases hh with rfl | rfl | rfl | rfl | rfl | rfl | rfl | rfl | rfl | rfl | rfl <;> rfl
theorem cs_ys {D : JD} {q : Nat → Nat} {u : CS} {r : Nat} (h : r ≤ 10) {f : Nat → Int} : (cW D q u).set (11 + 5 * r) (q (11 + 5 * r), .inl (D.2.1, rl r, .inl (fun i => J (f i)))) = cW D q (sY u r f) := by
  have hh : r = 0 ∨ r = 1 ∨ r = 2 ∨ r = 3 ∨ r = 4 ∨ r = 5 ∨ r = 6 ∨ r = 7 ∨ r = 8 ∨ r = 9 ∨ r = 10 := by omega
  rcases hh with rfl | rfl | rfl | rfl | rfl | rfl | rfl | rfl | rfl | rfl | rfl <;> rfl
theorem cw_hts {D : JD} {q : Nat → Nat} {u : CS} {r : Nat} (h : r < 8) : (cW D q u)[12 + 5 * r]? = some (q (12 + 5 * r), .inl (D.2.1, 40, .inl (fun i => J (u.1.2.2.2.1 r i)))) := by
  have hh : r = 0 ∨ r = 1 ∨ r = 2 ∨ r = 3 ∨ r = 4 ∨ r = 5 ∨ r = 6 ∨ r = 7 := by omega
  rcases hh with rfl | rfl | rfl | rfl | rfl | rfl | rfl | rfl <;> rfl
theorem cs_hts {D : JD} {q : Nat → Nat} {u : CS} {r : Nat} (h : r < 8) {f : Nat → Int} : (cW D q u).set (12 + 5 * r) (q (12 + 5 * r), .inl (D.2.1, 40, .inl (fun i => J (f i)))) = cW D q (sH u r f) := by
  have hh : r = 0 ∨ r = 1 ∨ r = 2 ∨ r = 3 ∨ r = 4 ∨ r = 5 ∨ r = 6 ∨ r = 7 := by omega
  rcases hh with rfl | rfl | rfl | rfl | rfl | rfl | rfl | rfl <;> rfl
theorem cw_shape {D : JD} {q : Nat → Nat} {u : CS} {r : Nat} (h : r < 8) : (cW D q u)[8 + 5 * r]? = some (q (8 + 5 * r), .inr (10, [.ref (q (9 + 5 * r)), .ref (q (12 + 5 * r)), .int (J (u.1.2.2.2.2 r))])) := by
  have hh : r = 0 ∨ r = 1 ∨ r = 2 ∨ r = 3 ∨ r = 4 ∨ r = 5 ∨ r = 6 ∨ r = 7 := by omega
  rcases hh with rfl | rfl | rfl | rfl | rfl | rfl | rfl | rfl <;> rfl
theorem cs_shape {D : JD} {q : Nat → Nat} {u : CS} {r : Nat} (h : r < 8) {v : Int} : (cW D q u).set (8 + 5 * r) (q (8 + 5 * r), .inr (10, [.ref (q (9 + 5 * r)), .ref (q (12 + 5 * r)), .int (J v)])) = cW D q (sT u r v) := by
  have hh : r = 0 ∨ r = 1 ∨ r = 2 ∨ r = 3 ∨ r = 4 ∨ r = 5 ∨ r = 6 ∨ r = 7 := by omega
  rcases hh with rfl | rfl | rfl | rfl | rfl | rfl | rfl | rfl <;> rfl
theorem cW_ad (D : JD) (q : Nat → Nat) (u v : CS) : (cW D q u).map (fun x => x.1) = (cW D q v).map (fun x => x.1) := rfl
theorem cW_D {A : Nat → Prop} {D : JD} {q : Nat → Nat} {u v : CS} (h : va_D A (cW D q u)) : va_D A (cW D q v) := h.ad (cW_ad D q u v)
theorem inX0 : ∀ w ∈ u_ws RX0 TX0 14, w ∈ lw_g := by decide +kernel
theorem inX1 : ∀ w ∈ u_ws RX1 TX1 4, w ∈ lw_g := by decide +kernel
theorem inX2 : ∀ w ∈ u_ws RX2 TX2 7, w ∈ lw_g := by decide +kernel
theorem inX3 : ∀ w ∈ u_ws RX3 TX3 3, w ∈ lw_g := by decide +kernel
theorem inX4 : ∀ w ∈ u_ws RX4 TX4 3, w ∈ lw_g := by decide +kernel
theorem inX5 : ∀ w ∈ u_ws RX5 TX5 9, w ∈ lw_g := by decide +kernel
theorem inX6 : ∀ w ∈ u_ws RX6 TX6 3, w ∈ lw_g := by decide +kernel
theorem inX7 : ∀ w ∈ u_ws RX7 TX7 3, w ∈ lw_g := by decide +kernel
theorem inX9 : ∀ w ∈ u_ws RX9 TX9 6, w ∈ lw_g := by decide +kernel
theorem inX10 : ∀ w ∈ u_ws RX10 TX10 3, w ∈ lw_g := by decide +kernel
theorem inX11 : ∀ w ∈ u_ws RX11 TX11 8, w ∈ lw_g := by decide +kernel
section JK
variable {p : Program} {l : Launch} {e : Env} {R : Room} {s : State} {m : MethodId} {args : Array Value} {below : List Frame} {meth : Method} {c : Code} {H : Heap} {locs : List Loc} {cells slots : Nat} {Q : State → Prop}
variable {cc : ByteArray} {nL : Nat} {own : String} {pc : Nat} {ls : Array Slot} {rest : List Value}
theorem j_getS (S : jS p m c cc nL s args own) {D : JD} {ws : va_W} (hG : j_K D s) (hP : va_P D.1 j_cl ws H) (q0 : Nat) {a ci : Nat} {fs : List Value} {C : String} {T : u_T} {N index : Nat} {v : Value} (he : ws[q0]? = some (a, .inr (ci, fs))) (hc : j_cl[ci]? = some (C, T, N)) (hin : ∀ w ∈ u_ws C T N, w ∈ lw_g) (k : Nat) (hk : k < N) {ref : String} (hlink : Cond.fieldLink own index ref (T k).2.1 (T k).2.2.1 ∈ lw_g) (hsame : Cond.sameField ref (T k).1 (T k).2.1 (T k).2.2.1 ∈ lw_g) (hv : fs[k]? = some v) (hdg : decode cc pc = .ok (.getfield index, 3))
    (kk : W p l e R s m args below meth c H locs cells slots Q (F0 m (pc + 3) ls (v :: rest))) : W p l e R s m args below meth c H locs cells slots Q (F0 m pc ls (.ref a :: rest)) :=
  va_get S.1 S.2.1 S.2.2.2.2 hin S.2.2.2.1 hG.1 hP q0 he hc k hk (S.2.2.2.2 _ hlink) (fun x h => u_same (S.2.2.2.2 _ hsame) x h) hv hdg kk
theorem j_putS (S : jS p m c cc nL s args own) {D : JD} {ws ws' : va_W} {A : Nat → Prop} {H0 : Heap} (hG : j_K D s) (hP : va_P D.1 j_cl ws H) (hD : va_D A ws) (hS : va_S A H0 H locs) (q0 : Nat) {a ci : Nat} {fs : List Value} {C : String} {T : u_T} {N index : Nat} {v : Value} {ty : FieldType} (he : ws[q0]? = some (a, .inr (ci, fs))) (hc : j_cl[ci]? = some (C, T, N)) (hin : ∀ w ∈ u_ws C T N, w ∈ lw_g) (ty0 : Nat → FieldType) (hty : ∀ k, k < N → parseFieldDescriptor (T k).2.2.1 = some (ty0 k)) (hnm : ∀ a, a < N → ∀ b, b < N → a ≠ b → (T a).2.1 ≠ (T b).2.1) (k : Nat) (hk : k < N) {ref : String} (hlink : Cond.fieldLink own index ref (T k).2.1 (T k).2.2.1 ∈ lw_g) (hsame : Cond.sameField ref (T k).1 (T k).2.1 (T k).2.2.1 ∈ lw_g) (hfin : (T k).2.2.2 = false) (hd : parseFieldDescriptor (T k).2.2.1 = some ty) (hn : narrow ty v = v) (hfit : fits ty v = true) (hl : k < fs.length) (hdg : decode cc pc = .ok (.putfield index, 3)) (hw : ws.set q0 (a, .inr (ci, fs.set k v)) = ws')
    (kk : ∀ (H1 : Heap) (locs1 : List Loc), va_P D.1 j_cl ws' H1 → va_S A H0 H1 locs1 → W p l e R s m args below meth c H1 locs1 cells slots Q (F0 m (pc + 3) ls rest)) : W p l e R s m args below meth c H locs cells slots Q (F0 m pc ls (v :: .ref a :: rest)) :=
  va_put S.1 S.2.1 S.2.2.2.2 hin ty0 hty hnm S.2.2.2.1 hG.1 hP hD hS q0 he hc k hk (S.2.2.2.2 _ hlink) (fun x h => u_same (S.2.2.2.2 _ hsame) x h) hfin hd hn hfit hl hdg (fun H1 locs1 h1 _ h3 => kk H1 locs1 (hw ▸ h1) h3)
theorem j_goodU {ws : List Cond} (h : ∀ w ∈ ws, w ∈ lw_g) {w0 : Cond} (h0 : w0 ∈ lw_g) : GoodIn lw_g (ws ++ (w0 :: lw_g)) := fun v hv => by
  rcases List.mem_append.mp hv with e | e
  · exact lw_goodin v (h v e)
  · exact j_good h0 v e
/-- what the tables say of an inherited method at a class -/
def jmU (C owner : String) (x y : MethodName) (bytes : ByteArray) (maxL : Nat) (ret : Option FieldType) (n : Nat) : Prop := y = ⟨owner, x.name, x.desc⟩ ∧ Cond.sameMethod x.cls owner x.name x.desc ∈ lw_g ∧ Cond.selects C x y ∈ lw_g ∧ Cond.instanceMethod y ∈ lw_g ∧ Cond.initialized y.cls ∈ lw_g ∧ Cond.code y bytes maxL ret ∈ lw_g ∧ (owner ≠ "java/lang/invoke/MethodHandle" ∧ owner ≠ "java/lang/invoke/VarHandle" ∧ (parseMethodDescriptor x.desc).map (fun d => d.parameters.length) = some n)
theorem j_cwU (S : jS p m c cc nL s args own) {C owner : String} {x y : MethodName} {bytes : ByteArray} {maxL n index f nl : Nat} {ret : Option FieldType} (hy : jmU C owner x y bytes maxL ret n) (hl : Cond.methodLink own index x ∈ lw_g) (hR : f + 1 ≤ R.frames ∧ 8 + (maxL + 11) + nl ≤ R.locals) : va_CU R s args own C owner index x y bytes maxL ret (jw y bytes maxL ret) (jr f nl) 0 0 n :=
  va_cwU n S.2.2.2.2 (j_goodU (fun w hw => by
    simp only [List.mem_cons, List.not_mem_nil, or_false] at hw
    rcases hw with rfl | rfl | rfl | rfl | rfl
    · exact hl
    · exact hy.2.1
    · exact hy.2.2.1
    · exact hy.2.2.2.1
    · exact hy.2.2.2.2.1) hy.2.2.2.2.2.1) rfl rfl rfl hy.1 hy.2.2.2.2.2.2 hR
theorem j_uRi (S : jS p m c cc nL s args own) {D : JD} {P : Heap → Prop} {b : Nat} {As : List Value} {post : Int → Prop} {C owner : String} {x y : MethodName} {bytes : ByteArray} {maxL n index f nl : Nat} {ret : Option FieldType} (hM : Met l y (jw y bytes maxL ret) (jr f nl) (jP (.ref b :: As) D P) (jRi post) 0 0 (fun _ => False)) (hy : jmU C owner x y bytes maxL ret n) (hl : Cond.methodLink own index x ∈ lw_g) (hG : j_K D s) (hP : P H) {ws : va_W} {ci q0 : Nat} {fs : List Value} {q : vw_C} (hW : va_P D.1 j_cl ws H) (hc : j_cl[ci]? = some q) (he : ws[q0]? = some (b, .inr (ci, fs))) (hq : q.1 = C) (hn : As.length = n) (hls : ls.size = nL) (hR : (f + 1 ≤ R.frames ∧ 8 + (maxL + 11) + nl ≤ R.locals) ∧ (rest.map fun v => v.category).sum ≤ 8 ∧ cells ≤ R.cells ∧ slots ≤ R.slots) {st0 : List Value} (hst : st0 = As.reverse ++ .ref b :: rest) (hdg : decode cc pc = .ok (.invokevirtual index, 3))
    (k : ∀ z : Int, post z → W p l e R s m args below meth c H locs cells slots Q (F0 m (pc + 3) ls (.int (J z) :: rest))) : W p l e R s m args below meth c H locs cells slots Q (F0 m pc ls st0) := by
  refine vp_callSi (post := fun r => ∃ z : Int, r = J z ∧ post z) (va_Run.run (va_runU S hM (j_cwU S hy hl hR.1) ⟨jP.blind, hq ▸ va_recv hG.1 hW hc he, jP.at hG hP⟩ rfl hn hls hst (lv_room hR.2.1) hdg hR.2.2)) (fun r h => ?_)
  obtain ⟨z, rfl, hz⟩ := h
  exact k z hz
theorem j_uWv (S : jS p m c cc nL s args own) {D : JD} {P : Heap → Prop} {b : Nat} {As : List Value} {U : Type} {post : U → Prop} {B : U → Heap → Prop} {A1 A0 : Nat → Prop} {H0 : Heap} {C owner : String} {x y : MethodName} {bytes : ByteArray} {maxL n index f nl : Nat} {ret : Option FieldType} (hM : Met l y (jw y bytes maxL ret) (jr f nl) (jP (.ref b :: As) D P) (jWv post B A1) 0 0 A1) (hy : jmU C owner x y bytes maxL ret n) (hl : Cond.methodLink own index x ∈ lw_g) (hG : j_K D s) (hP : P H) {ws : va_W} {ci q0 : Nat} {fs : List Value} {q : vw_C} (hW : va_P D.1 j_cl ws H) (hc : j_cl[ci]? = some q) (he : ws[q0]? = some (b, .inr (ci, fs))) (hq : q.1 = C) (hS : va_S A0 H0 H locs) (hA : ∀ q, A1 q → A0 q) (hn : As.length = n) (hls : ls.size = nL) (hR : (f + 1 ≤ R.frames ∧ 8 + (maxL + 11) + nl ≤ R.locals) ∧ (rest.map fun v => v.category).sum ≤ 8 ∧ cells ≤ R.cells ∧ slots ≤ R.slots) {st0 : List Value} (hst : st0 = As.reverse ++ .ref b :: rest) (hdg : decode cc pc = .ok (.invokevirtual index, 3))
    (k : ∀ (u : U) (H1 : Heap) (locs1 : List Loc), post u → B u H1 → (H.size ≤ H1.size ∧ ∀ q : Nat, q < H.size → ¬ A1 q → H1[q]? = H[q]?) → va_S A0 H0 H1 locs1 → W p l e R s m args below meth c H1 locs1 cells slots Q (F0 m (pc + 3) ls rest)) : W p l e R s m args below meth c H locs cells slots Q (F0 m pc ls st0) := by
  refine va_callv (va_runU S hM (j_cwU S hy hl hR.1) ⟨jP.blind, hq ▸ va_recv hG.1 hW hc he, jP.at hG hP⟩ rfl hn hls hst (lv_room hR.2.1) hdg hR.2.2) hS (fun q _ h => hA q h) hA (fun u t H1 locs1 ht hvm hp hB hz hk hS1 => ?_)
  exact k u H1 locs1 hp (ht ▸ hB) ⟨hz, hk⟩ hS1
/-- a nest mate's static method -/
theorem j_nRi (S : jS p m c cc nL s args own) {D : JD} {P : Heap → Prop} {As : List Value} {post : Int → Prop} {host : String} {y : MethodName} {bytes : ByteArray} {maxL n index f nl : Nat} {ret : Option FieldType} (hM : Met l y (jw y bytes maxL ret) (jr f nl) (jP As D P) (jRi post) 0 0 (fun _ => False)) (hy : jmS y bytes maxL ret n) (hl : va_Nw (.methodLinkNest own index y host) s) (hG : j_K D s) (hP : P H) (hn : As.length = n) (hls : ls.size = nL) (hR : (f + 1 ≤ R.frames ∧ 8 + (maxL + 11) + nl ≤ R.locals) ∧ (rest.map fun v => v.category).sum ≤ 8 ∧ cells ≤ R.cells ∧ slots ≤ R.slots) {st0 : List Value} (hst : st0 = As.reverse ++ rest) (hdg : decode cc pc = .ok (.invokestatic index, 3))
    (k : ∀ z : Int, post z → W p l e R s m args below meth c H locs cells slots Q (F0 m (pc + 3) ls (.int (J z) :: rest))) : W p l e R s m args below meth c H locs cells slots Q (F0 m pc ls st0) := by
  refine vp_callSi (post := fun r => ∃ z : Int, r = J z ∧ post z) (va_Run.run (va_runSN S hM ⟨va_cnB n S.2.2.2.2 (j_good hy.1) rfl rfl rfl hl (S.2.2.2.2 _ hy.2.1) hy.2.2.2 hR.1, S.2.2.2.2 _ hy.2.2.1, trivial⟩ ⟨jP.blind, jP.at hG hP⟩ rfl hn hls hst (lv_room hR.2.1) hdg hR.2.2)) (fun r h => ?_)
  obtain ⟨z, rfl, hz⟩ := h
  exact k z hz
/-- a static method that writes -/
theorem j_sWv (S : jS p m c cc nL s args own) {D : JD} {P : Heap → Prop} {As : List Value} {U : Type} {post : U → Prop} {B : U → Heap → Prop} {A1 A0 : Nat → Prop} {H0 : Heap} {y : MethodName} {bytes : ByteArray} {maxL n index f nl : Nat} {ret : Option FieldType} (hM : Met l y (jw y bytes maxL ret) (jr f nl) (jP As D P) (jWv post B A1) 0 0 A1) (hy : jmS y bytes maxL ret n) (hl : Cond.methodLink own index y ∈ lw_g) (hG : j_K D s) (hP : P H) (hS : va_S A0 H0 H locs) (hA : ∀ q, A1 q → A0 q) (hn : As.length = n) (hls : ls.size = nL) (hR : (f + 1 ≤ R.frames ∧ 8 + (maxL + 11) + nl ≤ R.locals) ∧ (rest.map fun v => v.category).sum ≤ 8 ∧ cells ≤ R.cells ∧ slots ≤ R.slots) {st0 : List Value} (hst : st0 = As.reverse ++ rest) (hdg : decode cc pc = .ok (.invokestatic index, 3))
    (k : ∀ (u : U) (H1 : Heap) (locs1 : List Loc), post u → B u H1 → (H.size ≤ H1.size ∧ ∀ q : Nat, q < H.size → ¬ A1 q → H1[q]? = H[q]?) → va_S A0 H0 H1 locs1 → W p l e R s m args below meth c H1 locs1 cells slots Q (F0 m (pc + 3) ls rest)) : W p l e R s m args below meth c H locs cells slots Q (F0 m pc ls st0) := by
  refine va_callv (va_runS S hM ⟨j_cB S hy.1 hy.2.1 hl hy.2.2.2 hR.1, S.2.2.2.2 _ hy.2.2.1⟩ ⟨jP.blind, jP.at hG hP⟩ rfl hn hls hst (lv_room hR.2.1) hdg hR.2.2) hS (fun q _ h => hA q h) hA (fun u t H1 locs1 ht hvm hp hB hz hk hS1 => ?_)
  exact k u H1 locs1 hp (ht ▸ hB) ⟨hz, hk⟩ hS1
/-- a shape, or null -/
theorem j_vSh (S : jS p m c cc nL s args own) {D : JD} {P : Heap → Prop} {b : Nat} {As : List Value} {ad : Nat → Nat} {z : Int} {y : MethodName} {bytes : ByteArray} {maxL n index f nl : Nat} {ret : Option FieldType} (hM : Met l y (jw y bytes maxL ret) (jr f nl) (jP (.ref b :: As) D P) (va_Se ad (fun r => (0 ≤ z ∧ z ≤ 7 ∧ r = some z.toNat) ∨ (¬ (0 ≤ z ∧ z ≤ 7) ∧ r = none))) 0 0 (fun _ => False)) (hy : jmV y bytes maxL ret n) (hl : Cond.methodLink own index y ∈ lw_g) (hG : j_K D s) (hP : P H) {ws : va_W} {ci q0 : Nat} {fs : List Value} {q : vw_C} (hW : va_P D.1 j_cl ws H) (hc : j_cl[ci]? = some q) (he : ws[q0]? = some (b, .inr (ci, fs))) (hq : q.1 = y.cls) (hn : As.length = n) (hls : ls.size = nL) (hR : (f + 1 ≤ R.frames ∧ 8 + (maxL + 11) + nl ≤ R.locals) ∧ (rest.map fun v => v.category).sum ≤ 8 ∧ cells ≤ R.cells ∧ slots ≤ R.slots) {st0 : List Value} (hst : st0 = As.reverse ++ .ref b :: rest) (hdg : decode cc pc = .ok (.invokevirtual index, 3))
    (k1 : ∀ i : Nat, i < 8 → z = (i : Int) → W p l e R s m args below meth c H locs cells slots Q (F0 m (pc + 3) ls (.ref (ad i) :: rest))) (k2 : ¬ (0 ≤ z ∧ z ≤ 7) → W p l e R s m args below meth c H locs cells slots Q (F0 m (pc + 3) ls (.null :: rest))) : W p l e R s m args below meth c H locs cells slots Q (F0 m pc ls st0) := by
  refine va_cse (W.runV (C := y.cls) S hM ⟨j_cB S hy.1 hy.2.1 hl hy.2.2.2.2 hR.1, S.2.2.2.2 _ hy.2.2.1, S.2.2.2.2 _ hy.2.2.2.1⟩ ⟨jP.blind, hq ▸ va_recv hG.1 hW hc he, jP.at hG hP⟩ rfl hn hls hst (lv_room hR.2.1) hdg hR.2.2) (fun r h => ?_)
  rcases h with ⟨h1, h2, rfl⟩ | ⟨h1, rfl⟩
  · exact k1 z.toNat (by omega) (by omega)
  · exact k2 h1
theorem J_wr (z : Int) : ∃ y : Int, J z = J y ∧ -2147483648 ≤ y ∧ y ≤ 2147483647 := ⟨(J z).toInt, J_of _, J_rng _⟩
/-! the rows filled by the JDK -/
def jf (f : Nat → Int) (v : Int) (n : Nat) : Nat → Int := fun i => if i < n then v else f i
theorem jf_0 {f : Nat → Int} {v : Int} : jf f v 0 = f := by funext i; unfold jf; rw [if_neg (by omega)]
theorem jf_s {f : Nat → Int} {v : Int} {n : Nat} : upI (jf f v n) n v = jf f v (n + 1) := by
  funext i; unfold upI jf
  by_cases e : i = n
  · rw [if_pos e, if_pos (by omega)]
  · rw [if_neg e]
    by_cases e2 : i < n
    · rw [if_pos e2, if_pos (by omega)]
    · rw [if_neg e2, if_neg (by omega)]
def jfL (f : Nat → Int64) (v : Int64) (n : Nat) : Nat → Int64 := fun i => if i < n then v else f i
theorem jfL_0 {f : Nat → Int64} {v : Int64} : jfL f v 0 = f := by funext i; unfold jfL; rw [if_neg (by omega)]
theorem jfL_s {f : Nat → Int64} {v : Int64} {n : Nat} : vp_updL (jfL f v n) n v = jfL f v (n + 1) := by
  funext i; unfold vp_updL jfL
  by_cases e : i = n
  · rw [if_pos e, if_pos (by omega)]
  · rw [if_neg e]
    by_cases e2 : i < n
    · rw [if_pos e2, if_pos (by omega)]
    · rw [if_neg e2, if_neg (by omega)]
end JK
theorem mu_7_x : jmU RX7 RX8 ⟨"GridPolygons$Ring", "x", "(I)I"⟩ yX8_x cX8_x 2 (some .int) 1 := ⟨rfl, kw_438, kw_440, kw_441, kw_90, kw_442, ⟨by decide +kernel, by decide +kernel, by decide +kernel⟩⟩
theorem mu_7_y : jmU RX7 RX8 ⟨"GridPolygons$Ring", "y", "(I)I"⟩ yX8_y cX8_y 2 (some .int) 1 := ⟨rfl, kw_444, kw_446, kw_447, kw_90, kw_448, ⟨by decide +kernel, by decide +kernel, by decide +kernel⟩⟩
theorem mu_7_append : jmU RX7 RX8 ⟨"GridPolygons$Ring", "append", "(II)V"⟩ yX8_append cX8_append 3 none 2 := ⟨rfl, kw_454, kw_456, kw_457, kw_90, kw_458, ⟨by decide +kernel, by decide +kernel, by decide +kernel⟩⟩
theorem mu_6_x : jmU RX6 RX8 ⟨"GridPolygons$Points", "x", "(I)I"⟩ yX8_x cX8_x 2 (some .int) 1 := ⟨rfl, kw_886, kw_887, kw_441, kw_90, kw_442, ⟨by decide +kernel, by decide +kernel, by decide +kernel⟩⟩
theorem mu_6_y : jmU RX6 RX8 ⟨"GridPolygons$Points", "y", "(I)I"⟩ yX8_y cX8_y 2 (some .int) 1 := ⟨rfl, kw_889, kw_890, kw_447, kw_90, kw_448, ⟨by decide +kernel, by decide +kernel, by decide +kernel⟩⟩
theorem mu_6_append : jmU RX6 RX8 ⟨"GridPolygons$Points", "append", "(II)V"⟩ yX8_append cX8_append 3 none 2 := ⟨rfl, kw_882, kw_883, kw_457, kw_90, kw_458, ⟨by decide +kernel, by decide +kernel, by decide +kernel⟩⟩

theorem kw_1029 : Cond.constantLong RJ13 314 (6148914691236517205) ∈ lw_g := lw_gin 1029 (by decide +kernel) (by decide +kernel)
theorem kw_1030 : Cond.constantLong RJ13 316 (3689348814741910323) ∈ lw_g := lw_gin 1030 (by decide +kernel) (by decide +kernel)
theorem kw_1031 : Cond.constantLong RJ13 318 (1085102592571150095) ∈ lw_g := lw_gin 1031 (by decide +kernel) (by decide +kernel)
theorem set_self {α : Type} {l : List α} {k : Nat} {x : α} (h : l[k]? = some x) : l.set k x = l := by
  apply List.ext_getElem?
  intro j
  rw [List.getElem?_set]
  by_cases e : k = j
  · subst e
    rw [if_pos rfl, if_pos (List.getElem?_eq_some_iff.mp h).1, h]
  · rw [if_neg e]
theorem Met_ofWF {l : Launch} {y : MethodName} {ws ws' : List Cond} {rm : Room} {Pc : Array Value → State → Prop} {Qc : Array Value → State → Outcome → State → Prop} {mc ms : Nat} {free : Addr → Prop} {cc : ByteArray} {maxL : Nat} {ret : Option FieldType}
    (hy : plainFor y = true) (hw : ws = Cond.code y cc maxL ret :: ws')
    (body : ∀ p e s m args below meth c s₁, BodyLoose p l y (headSpec ws rm) cc maxL ret e s m args below meth c s₁ → c.maxLocals = maxL → Pc args s →
      W p l e (headSpec ws rm).room s m args below meth c s.heap [] 0 0 (MQ below Qc args s mc ms free) (entryFrame m args maxL)) : Met l y ws rm Pc Qc mc ms free := by
  refine MetFree.of_bodySF (code := cc) (maxLocals := maxL) (ret := ret) hy ?_ ?_
  · intro args s m h hn
    obtain ⟨meth, c, h1, h2, h3, h4, h5, h6, -, -⟩ := Cond.code_spec hn (atoms_spec (ws := ws) h _ (by rw [hw]; exact List.mem_cons_self))
    exact ⟨meth, c, h1, h2, h3, h4, h5, h6⟩
  · intro p e s m args below meth c s₁ B hml hP _
    have hh0 : s₁.heap = s.heap := by rw [B.state]; rfl
    obtain ⟨t, a1, o, b1, b2, b3⟩ := body p e s m args below meth c s₁ B hml hP s₁ hh0 (Stand.of_body B)
    exact ⟨t, o, a1, b1, b2, ⟨b3.1, b3.2⟩⟩
theorem J_nat (n : Nat) : Int32.ofNat n = J (n : Int) := by
  apply Int32.toBitVec_inj.mp
  show BitVec.ofNat 32 n = (Int32.ofInt (n : Int)).toBitVec
  rw [Int32.toBitVec_ofInt, BitVec.ofInt_natCast]
theorem J_xsg {a b : Int} (ha : -2147483648 ≤ a ∧ a ≤ 2147483647) (hb : -2147483648 ≤ b ∧ b ≤ 2147483647) : (J a ^^^ J b).toInt < 0 ↔ ¬ (a < 0 ↔ b < 0) := by
  have h1 : (J a ^^^ J b).toBitVec.msb = ((J a).toBitVec.msb ^^ (J b).toBitVec.msb) := by rw [Int32.toBitVec_xor, BitVec.msb_xor]
  rw [BitVec.msb_eq_toInt, BitVec.msb_eq_toInt, BitVec.msb_eq_toInt] at h1
  have h2 : decide ((J a ^^^ J b).toInt < 0) = (decide ((J a).toInt < 0) ^^ decide ((J b).toInt < 0)) := h1
  rw [J_toInt ha, J_toInt hb] at h2
  by_cases c1 : (J a ^^^ J b).toInt < 0 <;> by_cases c2 : a < 0 <;> by_cases c3 : b < 0 <;> simp [c1, c2, c3] at h2 ⊢
theorem J_a127 (x : Int32) : 0 ≤ (x &&& J 127).toInt ∧ (x &&& J 127).toInt ≤ 127 := by
  have h1 : (x &&& J 127).toBitVec.toNat ≤ 127 := by
    rw [Ja_nat, J_bn (by omega)]
    exact Nat.and_le_right
  have h2 : (x &&& J 127) = J (((x &&& J 127).toBitVec.toNat : Nat) : Int) := by
    rw [← J_nat]
    apply Int32.toBitVec_inj.mp
    show _ = BitVec.ofNat 32 _
    rw [BitVec.ofNat_toNat, BitVec.setWidth_eq]
  rw [h2, J_toInt (by omega)]
  omega
theorem fd_a {a b : Int} (hb : 0 < b) (ha : 0 ≤ a) : a.tdiv b = a / b := Int.tdiv_eq_ediv_of_nonneg ha
theorem fd_n {a b : Int} (hb : 0 < b) (ha : a < 0) : (a.tdiv b * b = a → a.tdiv b = a / b) ∧ (a.tdiv b * b ≠ a → a.tdiv b - 1 = a / b) := by
  obtain ⟨c, rfl⟩ : ∃ c, a = -c := ⟨-a, by omega⟩
  rw [Int.neg_tdiv, Int.tdiv_eq_ediv_of_nonneg (by omega)]
  have h1 := Int.emod_nonneg c (show b ≠ 0 by omega)
  have h2 := Int.emod_lt_of_pos c hb
  have h3 := Int.emod_add_mul_ediv c b
  generalize c / b = k at *
  rw [Int.mul_comm] at h3
  constructor
  · intro h
    refine (fl_u hb (by omega) ?_).symm
    rw [Int.add_mul]; omega
  · intro h
    refine (fl_u hb ?_ ?_).symm
    · rw [Int.sub_mul]; rw [Int.neg_mul] at h ⊢; omega
    · rw [Int.add_mul, Int.sub_mul]; rw [Int.neg_mul] at h ⊢; omega
theorem fd_m {a b : Int} (hb : 0 < b) : (a.tdiv b * b).natAbs ≤ a.natAbs := by
  rw [Int.natAbs_mul, Int.natAbs_tdiv]
  exact Nat.div_mul_le_self _ _
/-- each division halves the product: fewer than 64 are wanted -/
def gf (m n i : Int) : Prop := n = 0 ∨ i = 0 ∨ (0 < i ∧ n < m ∧ m * n * 2 ^ (i - 1).toNat ≤ 10000000000)
theorem gf_s {m n i r : Int} (hi : 0 ≤ i) (hm : 0 ≤ m ∧ m ≤ 100000) (hn : 0 < n ∧ n ≤ 100000) (h : gf m n i) (hr : r = m.tmod n) : gf n r (i + 1) := by
  have hb := tm_b hm.1 hn.1
  rw [← hr] at hb
  refine Or.inr (Or.inr ⟨by omega, hb.2, ?_⟩)
  rw [show i + 1 - 1 = i by omega]
  rcases h with h | h | ⟨h1, h2, h3⟩
  · omega
  · subst h
    have m1 := mulb (A := 100000) (B := 100000) (a := n) (b := r) (by omega) (by omega)
    rw [show (2 : Int) ^ (0 : Int).toNat = 1 from rfl]; omega
  · have e := Int.tmod_add_tdiv_mul m n
    rw [← hr] at e
    have hq : 1 ≤ m.tdiv n := by
      rw [Int.tdiv_eq_ediv_of_nonneg hm.1]
      exact (Int.le_ediv_iff_mul_le hn.1).mpr (by omega)
    have e2 : 1 * n ≤ m.tdiv n * n := Int.mul_le_mul_of_nonneg_right hq (by omega)
    have e3 : n * (2 * r) ≤ n * m := Int.mul_le_mul_of_nonneg_left (by omega) (by omega)
    have e4 : n * (2 * r) * 2 ^ (i - 1).toNat ≤ n * m * 2 ^ (i - 1).toNat := Int.mul_le_mul_of_nonneg_right e3 (Int.pow_nonneg (by decide))
    rw [show i.toNat = (i - 1).toNat + 1 by omega, Int.pow_succ]
    have e5 : n * r * (2 ^ (i - 1).toNat * 2) = n * (2 * r) * 2 ^ (i - 1).toNat := by grind
    have e6 : n * m * 2 ^ (i - 1).toNat = m * n * 2 ^ (i - 1).toNat := by rw [Int.mul_comm n m]
    omega
theorem gf_e {m n i : Int} (hn : 0 ≤ n) (hi : i = 64) (h : gf m n i) : n = 0 := by
  apply Classical.byContradiction
  intro hc
  rcases h with h | h | ⟨h1, h2, h3⟩
  · exact hc h
  · omega
  · subst hi
    have p1 : 0 < m * n := Int.mul_pos (by omega) (by omega)
    have p2 : 1 * 2 ^ ((64 : Int) - 1).toNat ≤ m * n * 2 ^ ((64 : Int) - 1).toNat := Int.mul_le_mul_of_nonneg_right (by omega) (Int.pow_nonneg (by decide))
    rw [show (2 : Int) ^ ((64 : Int) - 1).toNat = 9223372036854775808 from rfl] at p2 h3
    omega
def RB (K : Int) (u : CS) (r : Nat) : Prop := (0 ≤ u.1.2.2.1 r ∧ u.1.2.2.1 r ≤ rl r) ∧ ∀ i : Nat, (-K ≤ u.1.1 r i ∧ u.1.1 r i ≤ K) ∧ -K ≤ u.1.2.1 r i ∧ u.1.2.1 r i ≤ K

theorem c_J7_fill_53178 (l : Launch) (D : JD) {ws : va_W} {A : Nat → Prop} (hD : va_D A ws) (k : Nat) (v : Int) {a n : Nat} {f : Nat → Int} (hk : ws[k]? = some (a, .inl (D.2.1, n, .inl (fun j9 => J (f j9))))) (hn : n ≤ 1000000) : Met l yJ7_fill_53178 (jw yJ7_fill_53178 cJ7_fill_53178 4 none) (jr 0 0) (jP [.ref a, .int (J v)] D (fun H => va_P D.1 j_cl ws H)) (jWv (fun _ : Unit => True) (fun _ H => va_P D.1 j_cl (ws.set k (a, .inl (D.2.1, n, .inl (fun j9 => J ((jf f v n) j9))))) H) A) 0 0 A := by
  have hkl : k < ws.length := (List.getElem?_eq_some_iff.mp hk).1
  refine Met_ofWF (cc := cJ7_fill_53178) (maxL := 4) (ret := none) (by decide +kernel) rfl ?_
  intro pr en st mi args below meth co s₁ B hml hv
  obtain ⟨rfl, hG, hP⟩ := hv
  have hr := B.returns
  have hlk := B.notSynchronized
  have SS : jS pr mi co cJ7_fill_53178 4 st _ RJ7 := ⟨B.exec, B.bytes, hml, findClass_of_methodNamed B.named, fun w hw => atoms_spec (ws := (jw yJ7_fill_53178 cJ7_fill_53178 4 none)) B.pre w (List.mem_cons_of_mem _ hw)⟩
  have hl := lv_entry ([.ref a, .int (J v)]) (n := 4) (Nat.le_of_ble_eq_true rfl)
  rw [lg_entry_eq]
  generalize (lg_sl ([.ref a, .int (J v)]) ++ List.replicate (4 - (lg_sl ([.ref a, .int (J v)])).length) Slot.unset).toArray = ls at hl ⊢
  have hl : lv_has ls 4 [(0, .ref a), (1, .int (J v))] := hl
  have hS : va_S A st.heap st.heap [] := va_S.rf
  refine j_iconst SS dJ7_fill_53178_0 ?_
  refine lv_istore_n (lv' := [(2, .int (J 0)), (0, .ref a), (1, .int (J v))]) SS.1 SS.2.1 dJ7_fill_53178_1 rfl hl (by decide) rfl (fun ls hl => ?_)
  refine lv_aload_n SS.1 SS.2.1 dJ7_fill_53178_2 rfl (lv_at hl 1 rfl) ?_
  refine va_alen SS.1 SS.2.1 hG.1 hP k 0 hk rfl (v := J (n : Int)) (J_nat n) dJ7_fill_53178_3 ?_
  refine lv_istore_n (lv' := [(3, .int (J (n : Int))), (2, .int (J 0)), (0, .ref a), (1, .int (J v))]) SS.1 SS.2.1 dJ7_fill_53178_4 rfl hl (by decide) rfl (fun ls hl => ?_)
  have L_5 : ∀ (nn : Nat) (i : Int) (H : Heap) (locs : List Loc) (hP : va_P D.1 j_cl (ws.set k (a, .inl (D.2.1, n, .inl (fun j9 => J ((jf f v i.toNat) j9))))) H) (hS : va_S A st.heap H locs) (ls : Array Slot) (hl : lv_has ls 4 [(3, .int (J (n : Int))), (2, .int (J i)), (0, .ref a), (1, .int (J v))]) (hi : 0 ≤ i ∧ i ≤ n), ((n : Int) - i).toNat < nn → W pr l en (headSpec (jw yJ7_fill_53178 cJ7_fill_53178 4 none) (jr 0 0)).room st mi (([.ref a, .int (J v)] : List Value).toArray) below meth co H locs 0 0 (MQ below (jWv (fun _ : Unit => True) (fun _ H => va_P D.1 j_cl (ws.set k (a, .inl (D.2.1, n, .inl (fun j9 => J ((jf f v n) j9))))) H) A) (([.ref a, .int (J v)] : List Value).toArray) st 0 0 A) (F0 mi 5 ls []) := by
    intro nn
    induction nn with
    | zero => intros; omega
    | succ nn ih =>
      intro i H locs hP hS ls hl hi hm
      refine lv_iload_n SS.1 SS.2.1 dJ7_fill_53178_5 rfl (lv_at hl 1 rfl) ?_
      refine lv_iload_n SS.1 SS.2.1 dJ7_fill_53178_6 rfl (lv_at hl 0 rfl) ?_
      refine j_icmp_ge SS (tgt := 20) (x := i) (y := (n : Int)) dJ7_fill_53178_7 (by decide) (by omega) (by omega) (fun c => ?_) (fun c => ?_)
      · have e : i.toNat = n := by omega
        rw [e] at hP
        exact W.vret SS.1 SS.2.1 hr (fun t ht hW => ⟨⟨(), rfl, trivial, by show va_P D.1 j_cl _ t.heap; rw [ht]; exact hP⟩, hS.F ht⟩) hS.2.2 dJ7_fill_53178_20 hlk
      · refine lv_aload_n SS.1 SS.2.1 dJ7_fill_53178_10 rfl (lv_at hl 2 rfl) ?_
        refine lv_iload_n SS.1 SS.2.1 dJ7_fill_53178_11 rfl (lv_at hl 1 rfl) ?_
        refine lv_iload_n SS.1 SS.2.1 dJ7_fill_53178_12 rfl (lv_at hl 3 rfl) ?_
        refine j_iast SS hG hP (hD.set hk) hS k (n := n) (f := jf f v i.toNat) (List.getElem?_set_self hkl) (z := i) (v := v) (by omega) (by omega) dJ7_fill_53178_13 (ws' := ws.set k (a, .inl (D.2.1, n, .inl (fun j9 => J ((jf f v (i.toNat + 1)) j9))))) (by rw [List.set_set, jf_s]) (fun H locs hP hS => ?_)
        refine lv_iinc (v := J (i + 1)) (lv' := [(2, .int (J (i + 1))), (3, .int (J (n : Int))), (0, .ref a), (1, .int (J v))]) SS.1 SS.2.1 dJ7_fill_53178_14 hl (k := 1) rfl (J_add _ _) (by decide) rfl (fun ls hl => ?_)
        refine lv_goto (tgt := 5) SS.1 SS.2.1 dJ7_fill_53178_17 (by decide) ?_
        exact ih (i + 1) H locs (by rw [show (i + 1).toNat = i.toNat + 1 by omega]; exact hP) hS ls (lv_sub hl [1, 0, 2, 3] rfl) (by omega) (by omega)
  exact L_5 (((n : Int) - 0).toNat + 1) 0 st.heap [] (by
    rw [show (0 : Int).toNat = 0 from rfl, jf_0, set_self hk]; exact hP) hS ls (lv_sub hl [0, 1, 2, 3] rfl) (by omega) (Nat.lt_succ_self _)

theorem c_J7_fill_d0a16 (l : Launch) (D : JD) {ws : va_W} {A : Nat → Prop} (hD : va_D A ws) (k : Nat) (v : Int64) {a n : Nat} {f : Nat → Int64} (hk : ws[k]? = some (a, .inl (D.2.2.1, n, .inr (.inl f)))) (hn : n ≤ 1000000) : Met l yJ7_fill_d0a16 (jw yJ7_fill_d0a16 cJ7_fill_d0a16 5 none) (jr 0 0) (jP [.ref a, .long v] D (fun H => va_P D.1 j_cl ws H)) (jWv (fun _ : Unit => True) (fun _ H => va_P D.1 j_cl (ws.set k (a, .inl (D.2.2.1, n, .inr (.inl (jfL f v n))))) H) A) 0 0 A := by
  have hkl : k < ws.length := (List.getElem?_eq_some_iff.mp hk).1
  refine Met_ofWF (cc := cJ7_fill_d0a16) (maxL := 5) (ret := none) (by decide +kernel) rfl ?_
  intro pr en st mi args below meth co s₁ B hml hv
  obtain ⟨rfl, hG, hP⟩ := hv
  have hr := B.returns
  have hlk := B.notSynchronized
  have SS : jS pr mi co cJ7_fill_d0a16 5 st _ RJ7 := ⟨B.exec, B.bytes, hml, findClass_of_methodNamed B.named, fun w hw => atoms_spec (ws := (jw yJ7_fill_d0a16 cJ7_fill_d0a16 5 none)) B.pre w (List.mem_cons_of_mem _ hw)⟩
  have hl := lv_entry ([.ref a, .long v]) (n := 5) (Nat.le_of_ble_eq_true rfl)
  rw [lg_entry_eq]
  generalize (lg_sl ([.ref a, .long v]) ++ List.replicate (5 - (lg_sl ([.ref a, .long v])).length) Slot.unset).toArray = ls at hl ⊢
  have hl : lv_has ls 5 [(0, .ref a), (1, .long v)] := hl
  have hS : va_S A st.heap st.heap [] := va_S.rf
  refine j_iconst SS dJ7_fill_d0a16_0 ?_
  refine lv_istore_n (lv' := [(3, .int (J 0)), (0, .ref a), (1, .long v)]) SS.1 SS.2.1 dJ7_fill_d0a16_1 rfl hl (by decide) rfl (fun ls hl => ?_)
  refine lv_aload_n SS.1 SS.2.1 dJ7_fill_d0a16_2 rfl (lv_at hl 1 rfl) ?_
  refine va_alen SS.1 SS.2.1 hG.1 hP k 1 hk rfl (v := J (n : Int)) (J_nat n) dJ7_fill_d0a16_3 ?_
  refine lv_istore (lv' := [(4, .int (J (n : Int))), (3, .int (J 0)), (0, .ref a), (1, .long v)]) SS.1 SS.2.1 dJ7_fill_d0a16_4 hl (by decide) rfl (fun ls hl => ?_)
  have L_5 : ∀ (nn : Nat) (i : Int) (H : Heap) (locs : List Loc) (hP : va_P D.1 j_cl (ws.set k (a, .inl (D.2.2.1, n, .inr (.inl (jfL f v i.toNat))))) H) (hS : va_S A st.heap H locs) (ls : Array Slot) (hl : lv_has ls 5 [(4, .int (J (n : Int))), (3, .int (J i)), (0, .ref a), (1, .long v)]) (hi : 0 ≤ i ∧ i ≤ n), ((n : Int) - i).toNat < nn → W pr l en (headSpec (jw yJ7_fill_d0a16 cJ7_fill_d0a16 5 none) (jr 0 0)).room st mi (([.ref a, .long v] : List Value).toArray) below meth co H locs 0 0 (MQ below (jWv (fun _ : Unit => True) (fun _ H => va_P D.1 j_cl (ws.set k (a, .inl (D.2.2.1, n, .inr (.inl (jfL f v n))))) H) A) (([.ref a, .long v] : List Value).toArray) st 0 0 A) (F0 mi 6 ls []) := by
    intro nn
    induction nn with
    | zero => intros; omega
    | succ nn ih =>
      intro i H locs hP hS ls hl hi hm
      refine lv_iload_n SS.1 SS.2.1 dJ7_fill_d0a16_6 rfl (lv_at hl 1 rfl) ?_
      refine lv_iload SS.1 SS.2.1 dJ7_fill_d0a16_7 (lv_at hl 0 rfl) ?_
      refine j_icmp_ge SS (tgt := 22) (x := i) (y := (n : Int)) dJ7_fill_d0a16_9 (by decide) (by omega) (by omega) (fun c => ?_) (fun c => ?_)
      · have e : i.toNat = n := by omega
        rw [e] at hP
        exact W.vret SS.1 SS.2.1 hr (fun t ht hW => ⟨⟨(), rfl, trivial, by show va_P D.1 j_cl _ t.heap; rw [ht]; exact hP⟩, hS.F ht⟩) hS.2.2 dJ7_fill_d0a16_22 hlk
      · refine lv_aload_n SS.1 SS.2.1 dJ7_fill_d0a16_12 rfl (lv_at hl 2 rfl) ?_
        refine lv_iload_n SS.1 SS.2.1 dJ7_fill_d0a16_13 rfl (lv_at hl 1 rfl) ?_
        refine lv_lload_n SS.1 SS.2.1 dJ7_fill_d0a16_14 rfl (lv_at hl 3 rfl) ?_
        refine j_last SS hG hP (hD.set hk) hS k (n := n) (f := jfL f v i.toNat) (List.getElem?_set_self hkl) (z := i) (v := v) (by omega) (by omega) dJ7_fill_d0a16_15 (ws' := ws.set k (a, .inl (D.2.2.1, n, .inr (.inl (jfL f v (i.toNat + 1)))))) (by rw [List.set_set, jfL_s]) (fun H locs hP hS => ?_)
        refine lv_iinc (v := J (i + 1)) (lv' := [(3, .int (J (i + 1))), (4, .int (J (n : Int))), (0, .ref a), (1, .long v)]) SS.1 SS.2.1 dJ7_fill_d0a16_16 hl (k := 1) rfl (J_add _ _) (by decide) rfl (fun ls hl => ?_)
        refine lv_goto (tgt := 6) SS.1 SS.2.1 dJ7_fill_d0a16_19 (by decide) ?_
        exact ih (i + 1) H locs (by rw [show (i + 1).toNat = i.toNat + 1 by omega]; exact hP) hS ls (lv_sub hl [1, 0, 2, 3] rfl) (by omega) (by omega)
  exact L_5 (((n : Int) - 0).toNat + 1) 0 st.heap [] (by
    rw [show (0 : Int).toNat = 0 from rfl, jfL_0, set_self hk]; exact hP) hS ls (lv_sub hl [0, 1, 2, 3] rfl) (by omega) (Nat.lt_succ_self _)

set_option maxHeartbeats 4000000 in
set_option maxRecDepth 100000 in
theorem c_J9_max_7cf53 (l : Launch) (D : JD) (a : Int) (b : Int) (p0 : -2147483648 ≤ a ∧ a ≤ 2147483647) (p1 : -2147483648 ≤ b ∧ b ≤ 2147483647) : Met l yJ9_max_7cf53 (jw yJ9_max_7cf53 cJ9_max_7cf53 2 (some .int)) (jr 0 0) (jP [.int (J a), .int (J b)] D (fun _ => True)) (jRi (fun z => (z = a ∨ z = b) ∧ a ≤ z ∧ b ≤ z)) 0 0 (fun _ => False) := by
  refine Met_ofWF (cc := cJ9_max_7cf53) (maxL := 2) (ret := (some .int)) (by decide +kernel) rfl ?_
  intro pr en st mi args below meth co s₁ B hml hv
  obtain ⟨rfl, hG, hP⟩ := hv
  have hr := B.returns
  have hlk := B.notSynchronized
  have SS : jS pr mi co cJ9_max_7cf53 2 st _ RJ9 := ⟨B.exec, B.bytes, hml, findClass_of_methodNamed B.named, fun w hw => atoms_spec (ws := (jw yJ9_max_7cf53 cJ9_max_7cf53 2 (some .int))) B.pre w (List.mem_cons_of_mem _ hw)⟩
  have hl := lv_entry ([.int (J a), .int (J b)]) (n := 2) (Nat.le_of_ble_eq_true rfl)
  rw [lg_entry_eq]
  generalize (lg_sl ([.int (J a), .int (J b)]) ++ List.replicate (2 - (lg_sl ([.int (J a), .int (J b)])).length) Slot.unset).toArray = ls at hl ⊢
  have hl : lv_has ls 2 [(0, .int (J a)), (1, .int (J b))] := hl
  refine lv_iload_n SS.1 SS.2.1 dJ9_max_7cf53_0 rfl (lv_at hl 0 rfl) ?_
  refine lv_iload_n SS.1 SS.2.1 dJ9_max_7cf53_1 rfl (lv_at hl 1 rfl) ?_
  refine j_icmp_lt SS (tgt := 9) (x := a) (y := b) dJ9_max_7cf53_2 (by decide) (by omega) (by omega) (fun c_2 => ?_) (fun c_2 => ?_)
  · skip
    refine lv_iload_n SS.1 SS.2.1 dJ9_max_7cf53_9 rfl (lv_at hl 1 rfl) ?_
    exact W.iret SS.1 SS.2.1 hr (fun t0 ht hW => ⟨_, rfl, ⟨b, rfl, (by omega)⟩, ht⟩) (fun _ h => nomatch h) dJ9_max_7cf53_10 hlk
  · skip
    refine lv_iload_n SS.1 SS.2.1 dJ9_max_7cf53_5 rfl (lv_at hl 0 rfl) ?_
    refine lv_goto (tgt := 10) SS.1 SS.2.1 dJ9_max_7cf53_6 (by decide) ?_
    exact W.iret SS.1 SS.2.1 hr (fun t0 ht hW => ⟨_, rfl, ⟨a, rfl, (by omega)⟩, ht⟩) (fun _ h => nomatch h) dJ9_max_7cf53_10 hlk

set_option maxHeartbeats 4000000 in
set_option maxRecDepth 100000 in
theorem c_J9_min_7cf53 (l : Launch) (D : JD) (a : Int) (b : Int) (p0 : -2147483648 ≤ a ∧ a ≤ 2147483647) (p1 : -2147483648 ≤ b ∧ b ≤ 2147483647) : Met l yJ9_min_7cf53 (jw yJ9_min_7cf53 cJ9_min_7cf53 2 (some .int)) (jr 0 0) (jP [.int (J a), .int (J b)] D (fun _ => True)) (jRi (fun z => (z = a ∨ z = b) ∧ z ≤ a ∧ z ≤ b)) 0 0 (fun _ => False) := by
  refine Met_ofWF (cc := cJ9_min_7cf53) (maxL := 2) (ret := (some .int)) (by decide +kernel) rfl ?_
  intro pr en st mi args below meth co s₁ B hml hv
  obtain ⟨rfl, hG, hP⟩ := hv
  have hr := B.returns
  have hlk := B.notSynchronized
  have SS : jS pr mi co cJ9_min_7cf53 2 st _ RJ9 := ⟨B.exec, B.bytes, hml, findClass_of_methodNamed B.named, fun w hw => atoms_spec (ws := (jw yJ9_min_7cf53 cJ9_min_7cf53 2 (some .int))) B.pre w (List.mem_cons_of_mem _ hw)⟩
  have hl := lv_entry ([.int (J a), .int (J b)]) (n := 2) (Nat.le_of_ble_eq_true rfl)
  rw [lg_entry_eq]
  generalize (lg_sl ([.int (J a), .int (J b)]) ++ List.replicate (2 - (lg_sl ([.int (J a), .int (J b)])).length) Slot.unset).toArray = ls at hl ⊢
  have hl : lv_has ls 2 [(0, .int (J a)), (1, .int (J b))] := hl
  refine lv_iload_n SS.1 SS.2.1 dJ9_min_7cf53_0 rfl (lv_at hl 0 rfl) ?_
  refine lv_iload_n SS.1 SS.2.1 dJ9_min_7cf53_1 rfl (lv_at hl 1 rfl) ?_
  refine j_icmp_gt SS (tgt := 9) (x := a) (y := b) dJ9_min_7cf53_2 (by decide) (by omega) (by omega) (fun c_2 => ?_) (fun c_2 => ?_)
  · skip
    refine lv_iload_n SS.1 SS.2.1 dJ9_min_7cf53_9 rfl (lv_at hl 1 rfl) ?_
    exact W.iret SS.1 SS.2.1 hr (fun t0 ht hW => ⟨_, rfl, ⟨b, rfl, (by omega)⟩, ht⟩) (fun _ h => nomatch h) dJ9_min_7cf53_10 hlk
  · skip
    refine lv_iload_n SS.1 SS.2.1 dJ9_min_7cf53_5 rfl (lv_at hl 0 rfl) ?_
    refine lv_goto (tgt := 10) SS.1 SS.2.1 dJ9_min_7cf53_6 (by decide) ?_
    exact W.iret SS.1 SS.2.1 hr (fun t0 ht hW => ⟨_, rfl, ⟨a, rfl, (by omega)⟩, ht⟩) (fun _ h => nomatch h) dJ9_min_7cf53_10 hlk

set_option maxHeartbeats 4000000 in
set_option maxRecDepth 100000 in
theorem c_J9_abs_0f7a4 (l : Launch) (D : JD) (a : Int) (p0 : -2147483648 < a ∧ a ≤ 2147483647) : Met l yJ9_abs_0f7a4 (jw yJ9_abs_0f7a4 cJ9_abs_0f7a4 1 (some .int)) (jr 0 0) (jP [.int (J a)] D (fun _ => True)) (jRi (fun z => 0 ≤ z ∧ (z = a ∨ z = -a))) 0 0 (fun _ => False) := by
  refine Met_ofWF (cc := cJ9_abs_0f7a4) (maxL := 1) (ret := (some .int)) (by decide +kernel) rfl ?_
  intro pr en st mi args below meth co s₁ B hml hv
  obtain ⟨rfl, hG, hP⟩ := hv
  have hr := B.returns
  have hlk := B.notSynchronized
  have SS : jS pr mi co cJ9_abs_0f7a4 1 st _ RJ9 := ⟨B.exec, B.bytes, hml, findClass_of_methodNamed B.named, fun w hw => atoms_spec (ws := (jw yJ9_abs_0f7a4 cJ9_abs_0f7a4 1 (some .int))) B.pre w (List.mem_cons_of_mem _ hw)⟩
  have hl := lv_entry ([.int (J a)]) (n := 1) (Nat.le_of_ble_eq_true rfl)
  rw [lg_entry_eq]
  generalize (lg_sl ([.int (J a)]) ++ List.replicate (1 - (lg_sl ([.int (J a)])).length) Slot.unset).toArray = ls at hl ⊢
  have hl : lv_has ls 1 [(0, .int (J a))] := hl
  refine lv_iload_n SS.1 SS.2.1 dJ9_abs_0f7a4_0 rfl (lv_at hl 0 rfl) ?_
  refine j_if_ge SS (tgt := 9) (x := a) dJ9_abs_0f7a4_1 (by decide) (by omega) (fun c_1 => ?_) (fun c_1 => ?_)
  · skip
    refine lv_iload_n SS.1 SS.2.1 dJ9_abs_0f7a4_9 rfl (lv_at hl 0 rfl) ?_
    exact W.iret SS.1 SS.2.1 hr (fun t0 ht hW => ⟨_, rfl, ⟨a, rfl, (by omega)⟩, ht⟩) (fun _ h => nomatch h) dJ9_abs_0f7a4_10 hlk
  · skip
    refine lv_iload_n SS.1 SS.2.1 dJ9_abs_0f7a4_4 rfl (lv_at hl 0 rfl) ?_
    refine j_ineg SS dJ9_abs_0f7a4_5 ?_
    refine lv_goto (tgt := 10) SS.1 SS.2.1 dJ9_abs_0f7a4_6 (by decide) ?_
    exact W.iret SS.1 SS.2.1 hr (fun t0 ht hW => ⟨_, rfl, ⟨(-a), rfl, (by omega)⟩, ht⟩) (fun _ h => nomatch h) dJ9_abs_0f7a4_10 hlk

set_option maxHeartbeats 4000000 in
set_option maxRecDepth 100000 in
theorem c_J9_floorDiv_7cf53 (l : Launch) (D : JD) (a : Int) (b : Int) (p0 : -2147483648 < a ∧ a ≤ 2147483647) (p1 : 0 < b ∧ b ≤ 2147483647) : Met l yJ9_floorDiv_7cf53 (jw yJ9_floorDiv_7cf53 cJ9_floorDiv_7cf53 3 (some .int)) (jr 0 0) (jP [.int (J a), .int (J b)] D (fun _ => True)) (jRi (fun z => z = a / b)) 0 0 (fun _ => False) := by
  refine Met_ofWF (cc := cJ9_floorDiv_7cf53) (maxL := 3) (ret := (some .int)) (by decide +kernel) rfl ?_
  intro pr en st mi args below meth co s₁ B hml hv
  obtain ⟨rfl, hG, hP⟩ := hv
  have hr := B.returns
  have hlk := B.notSynchronized
  have SS : jS pr mi co cJ9_floorDiv_7cf53 3 st _ RJ9 := ⟨B.exec, B.bytes, hml, findClass_of_methodNamed B.named, fun w hw => atoms_spec (ws := (jw yJ9_floorDiv_7cf53 cJ9_floorDiv_7cf53 3 (some .int))) B.pre w (List.mem_cons_of_mem _ hw)⟩
  have hl := lv_entry ([.int (J a), .int (J b)]) (n := 3) (Nat.le_of_ble_eq_true rfl)
  rw [lg_entry_eq]
  generalize (lg_sl ([.int (J a), .int (J b)]) ++ List.replicate (3 - (lg_sl ([.int (J a), .int (J b)])).length) Slot.unset).toArray = ls at hl ⊢
  have hl : lv_has ls 3 [(0, .int (J a)), (1, .int (J b))] := hl
  refine lv_iload_n SS.1 SS.2.1 dJ9_floorDiv_7cf53_0 rfl (lv_at hl 0 rfl) ?_
  refine lv_iload_n SS.1 SS.2.1 dJ9_floorDiv_7cf53_1 rfl (lv_at hl 1 rfl) ?_
  refine j_idiv SS (x := a) (y := b) dJ9_floorDiv_7cf53_2 (by omega) (by omega) (by omega) ?_
  obtain ⟨t9, et9⟩ : ∃ z : Int, z = (Int.tdiv a b) := ⟨_, rfl⟩
  rw [← et9]
  refine lv_istore_n (lv' := [(2, .int (J t9)), (0, .int (J a)), (1, .int (J b))]) SS.1 SS.2.1 dJ9_floorDiv_7cf53_3 rfl hl (by decide) rfl (fun ls hl => ?_)
  have ht := td_b (a := a) (b := b) (K := 2147483647) (by omega)
  rw [← et9] at ht
  refine lv_iload_n SS.1 SS.2.1 dJ9_floorDiv_7cf53_4 rfl (lv_at hl 1 rfl) ?_
  refine lv_iload_n SS.1 SS.2.1 dJ9_floorDiv_7cf53_5 rfl (lv_at hl 2 rfl) ?_
  refine lv_ixor SS.1 SS.2.1 dJ9_floorDiv_7cf53_6 ?_
  rw [J_of (J a ^^^ J b)]
  have r_6 := J_rng (J a ^^^ J b)
  have x_6 := J_xsg (a := a) (b := b) (by omega) (by omega)
  refine j_if_ge SS (tgt := 21) (x := (J a ^^^ J b).toInt) dJ9_floorDiv_7cf53_7 (by decide) (by omega) (fun c_7 => ?_) (fun c_7 => ?_)
  · skip
    refine lv_iload_n SS.1 SS.2.1 dJ9_floorDiv_7cf53_21 rfl (lv_at hl 0 rfl) ?_
    exact W.iret SS.1 SS.2.1 hr (fun t0 ht hW => ⟨_, rfl, ⟨t9, rfl, (by first | (rw [et9]; exact fd_a (by omega) (by omega)) | (have := hn.1 (by omega); omega))⟩, ht⟩) (fun _ h => nomatch h) dJ9_floorDiv_7cf53_22 hlk
  · skip
    refine lv_iload_n SS.1 SS.2.1 dJ9_floorDiv_7cf53_10 rfl (lv_at hl 0 rfl) ?_
    refine lv_iload_n SS.1 SS.2.1 dJ9_floorDiv_7cf53_11 rfl (lv_at hl 2 rfl) ?_
    refine j_imul SS (x := t9) (y := b) dJ9_floorDiv_7cf53_12 ?_
    refine lv_iload_n SS.1 SS.2.1 dJ9_floorDiv_7cf53_13 rfl (lv_at hl 1 rfl) ?_
    have hn := fd_n (a := a) (b := b) (by omega) (by omega)
    rw [← et9] at hn
    have hr2 : -2147483648 ≤ t9 * b ∧ t9 * b ≤ 2147483647 := by have q := Int.natAbs_tdiv_le_natAbs a b; have q2 := fd_m (a := a) (b := b) (by omega); rw [← et9] at q2; omega
    refine j_icmp_eq SS (tgt := 21) (x := (t9 * b)) (y := a) dJ9_floorDiv_7cf53_14 (by decide) (by omega) (by omega) (fun c_14 => ?_) (fun c_14 => ?_)
    · skip
      refine lv_iload_n SS.1 SS.2.1 dJ9_floorDiv_7cf53_21 rfl (lv_at hl 0 rfl) ?_
      exact W.iret SS.1 SS.2.1 hr (fun t0 ht hW => ⟨_, rfl, ⟨t9, rfl, (by first | (rw [et9]; exact fd_a (by omega) (by omega)) | (have := hn.1 (by omega); omega))⟩, ht⟩) (fun _ h => nomatch h) dJ9_floorDiv_7cf53_22 hlk
    · skip
      refine lv_iload_n SS.1 SS.2.1 dJ9_floorDiv_7cf53_17 rfl (lv_at hl 0 rfl) ?_
      refine j_iconst SS dJ9_floorDiv_7cf53_18 ?_
      refine j_isub SS (x := t9) (y := 1) dJ9_floorDiv_7cf53_19 ?_
      exact W.iret SS.1 SS.2.1 hr (fun t0 ht hW => ⟨_, rfl, ⟨(t9 - 1), rfl, (by have := hn.2 (by omega); omega)⟩, ht⟩) (fun _ h => nomatch h) dJ9_floorDiv_7cf53_20 hlk

set_option maxHeartbeats 4000000 in
set_option maxRecDepth 100000 in
theorem c_X11_onGrid (l : Launch) (D : JD) (v : Int) (p0 : -2147483648 ≤ v ∧ v ≤ 2147483647) : Met l yX11_onGrid (jw yX11_onGrid cX11_onGrid 1 (some .boolean)) (jr 0 0) (jP [.int (J v)] D (fun _ => True)) (jRi (fun z => (z = 1 ∧ (-40 ≤ v ∧ v ≤ 40)) ∨ (z = 0 ∧ ¬ (-40 ≤ v ∧ v ≤ 40)))) 0 0 (fun _ => False) := by
  refine Met.ofW (cc := cX11_onGrid) (maxL := 1) (ret := (some .boolean)) (by decide) rfl ?_
  intro pr en st mi args below meth co s₁ B hml hv
  obtain ⟨rfl, hG, hP⟩ := hv
  have hr := B.returns
  have hlk := B.notSynchronized
  have SS : jS pr mi co cX11_onGrid 1 st _ RX11 := ⟨B.exec, B.bytes, hml, findClass_of_methodNamed B.named, fun w hw => atoms_spec (ws := (jw yX11_onGrid cX11_onGrid 1 (some .boolean))) B.pre w (List.mem_cons_of_mem _ hw)⟩
  have hl := lv_entry ([.int (J v)]) (n := 1) (Nat.le_of_ble_eq_true rfl)
  rw [lg_entry_eq]
  generalize (lg_sl ([.int (J v)]) ++ List.replicate (1 - (lg_sl ([.int (J v)])).length) Slot.unset).toArray = ls at hl ⊢
  have hl : lv_has ls 1 [(0, .int (J v))] := hl
  refine lv_iload_n SS.1 SS.2.1 dX11_onGrid_0 rfl (lv_at hl 0 rfl) ?_
  refine j_bipush SS dX11_onGrid_1 (by decide +kernel) ?_
  refine j_icmp_lt SS (tgt := 16) (x := v) (y := (-40)) dX11_onGrid_3 (by decide) (by omega) (by decide) (fun c_3 => ?_) (fun c_3 => ?_)
  · skip
    refine j_iconst SS dX11_onGrid_16 ?_
    exact W.zret SS.1 SS.2.1 hr (j_nz (by decide)) (fun t0 ht hW => ⟨_, rfl, ⟨0, rfl, (by omega)⟩, ht⟩) (fun _ h => nomatch h) dX11_onGrid_17 hlk
  · skip
    refine lv_iload_n SS.1 SS.2.1 dX11_onGrid_6 rfl (lv_at hl 0 rfl) ?_
    refine j_bipush SS dX11_onGrid_7 (by decide +kernel) ?_
    refine j_icmp_gt SS (tgt := 16) (x := v) (y := 40) dX11_onGrid_9 (by decide) (by omega) (by decide) (fun c_9 => ?_) (fun c_9 => ?_)
    · skip
      refine j_iconst SS dX11_onGrid_16 ?_
      exact W.zret SS.1 SS.2.1 hr (j_nz (by decide)) (fun t0 ht hW => ⟨_, rfl, ⟨0, rfl, (by omega)⟩, ht⟩) (fun _ h => nomatch h) dX11_onGrid_17 hlk
    · skip
      refine j_iconst SS dX11_onGrid_12 ?_
      refine lv_goto (tgt := 17) SS.1 SS.2.1 dX11_onGrid_13 (by decide) ?_
      exact W.zret SS.1 SS.2.1 hr (j_nz (by decide)) (fun t0 ht hW => ⟨_, rfl, ⟨1, rfl, (by omega)⟩, ht⟩) (fun _ h => nomatch h) dX11_onGrid_17 hlk

set_option maxHeartbeats 4000000 in
set_option maxRecDepth 100000 in
theorem c_X11_isAngle (l : Launch) (D : JD) (x : Int) (y : Int) (a : Int) (b : Int) (p0 : -40 ≤ x ∧ x ≤ 40) (p1 : -40 ≤ y ∧ y ≤ 40) (p2 : -40 ≤ a ∧ a ≤ 40) (p3 : -40 ≤ b ∧ b ≤ 40) : Met l yX11_isAngle (jw yX11_isAngle cX11_isAngle 4 (some .boolean)) (jr 0 0) (jP [.int (J x), .int (J y), .int (J a), .int (J b)] D (fun _ => True)) (jRi (fun z => (z = 1 ∧ 0 < cx x y a b) ∨ (z = 0 ∧ cx x y a b ≤ 0))) 0 0 (fun _ => False) := by
  refine Met.ofW (cc := cX11_isAngle) (maxL := 4) (ret := (some .boolean)) (by decide) rfl ?_
  intro pr en st mi args below meth co s₁ B hml hv
  obtain ⟨rfl, hG, hP⟩ := hv
  have hr := B.returns
  have hlk := B.notSynchronized
  have SS : jS pr mi co cX11_isAngle 4 st _ RX11 := ⟨B.exec, B.bytes, hml, findClass_of_methodNamed B.named, fun w hw => atoms_spec (ws := (jw yX11_isAngle cX11_isAngle 4 (some .boolean))) B.pre w (List.mem_cons_of_mem _ hw)⟩
  have hl := lv_entry ([.int (J x), .int (J y), .int (J a), .int (J b)]) (n := 4) (Nat.le_of_ble_eq_true rfl)
  rw [lg_entry_eq]
  generalize (lg_sl ([.int (J x), .int (J y), .int (J a), .int (J b)]) ++ List.replicate (4 - (lg_sl ([.int (J x), .int (J y), .int (J a), .int (J b)])).length) Slot.unset).toArray = ls at hl ⊢
  have hl : lv_has ls 4 [(0, .int (J x)), (1, .int (J y)), (2, .int (J a)), (3, .int (J b))] := hl
  have m1 := mulb (A := 40) (B := 40) p0 p3
  have m2 := mulb (A := 40) (B := 40) p1 p2
  unfold cx
  refine lv_iload_n SS.1 SS.2.1 dX11_isAngle_0 rfl (lv_at hl 0 rfl) ?_
  refine lv_iload_n SS.1 SS.2.1 dX11_isAngle_1 rfl (lv_at hl 3 rfl) ?_
  refine j_imul SS (x := x) (y := b) dX11_isAngle_2 ?_
  refine lv_iload_n SS.1 SS.2.1 dX11_isAngle_3 rfl (lv_at hl 1 rfl) ?_
  refine lv_iload_n SS.1 SS.2.1 dX11_isAngle_4 rfl (lv_at hl 2 rfl) ?_
  refine j_imul SS (x := y) (y := a) dX11_isAngle_5 ?_
  refine j_isub SS (x := (x * b)) (y := (y * a)) dX11_isAngle_6 ?_
  refine j_if_le SS (tgt := 14) (x := ((x * b) - (y * a))) dX11_isAngle_7 (by decide) (by omega) (fun c_7 => ?_) (fun c_7 => ?_)
  · skip
    refine j_iconst SS dX11_isAngle_14 ?_
    exact W.zret SS.1 SS.2.1 hr (j_nz (by decide)) (fun t0 ht hW => ⟨_, rfl, ⟨0, rfl, (by omega)⟩, ht⟩) (fun _ h => nomatch h) dX11_isAngle_15 hlk
  · skip
    refine j_iconst SS dX11_isAngle_10 ?_
    refine lv_goto (tgt := 15) SS.1 SS.2.1 dX11_isAngle_11 (by decide) ?_
    exact W.zret SS.1 SS.2.1 hr (j_nz (by decide)) (fun t0 ht hW => ⟨_, rfl, ⟨1, rfl, (by omega)⟩, ht⟩) (fun _ h => nomatch h) dX11_isAngle_15 hlk

set_option maxHeartbeats 4000000 in
set_option maxRecDepth 100000 in
theorem c_X11_gcd (l : Launch) (D : JD) (a : Int) (b : Int) (p0 : -100000 ≤ a ∧ a ≤ 100000) (p1 : -100000 ≤ b ∧ b ≤ 100000) : Met l yX11_gcd (jw yX11_gcd cX11_gcd 6 (some .int)) (jr 1 20) (jP [.int (J a), .int (J b)] D (fun _ => True)) (jRi (fun z => z = (Int.gcd a b : Int))) 0 0 (fun _ => False) := by
  refine Met.ofW (cc := cX11_gcd) (maxL := 6) (ret := (some .int)) (by decide) rfl ?_
  intro pr en st mi args below meth co s₁ B hml hv
  obtain ⟨rfl, hG, hP⟩ := hv
  have hr := B.returns
  have hlk := B.notSynchronized
  have SS : jS pr mi co cX11_gcd 6 st _ RX11 := ⟨B.exec, B.bytes, hml, findClass_of_methodNamed B.named, fun w hw => atoms_spec (ws := (jw yX11_gcd cX11_gcd 6 (some .int))) B.pre w (List.mem_cons_of_mem _ hw)⟩
  have hl := lv_entry ([.int (J a), .int (J b)]) (n := 6) (Nat.le_of_ble_eq_true rfl)
  rw [lg_entry_eq]
  generalize (lg_sl ([.int (J a), .int (J b)]) ++ List.replicate (6 - (lg_sl ([.int (J a), .int (J b)])).length) Slot.unset).toArray = ls at hl ⊢
  have hl : lv_has ls 6 [(0, .int (J a)), (1, .int (J b))] := hl
  refine lv_iload_n SS.1 SS.2.1 dX11_gcd_0 rfl (lv_at hl 0 rfl) ?_
  refine j_sRi SS (As := [.int (J a)]) (rest := []) (c_J9_abs_0f7a4 l D  a (show -2147483648 < a ∧ a ≤ 2147483647 from (by omega))) mf_J9_abs_0f7a4 kw_544 hG trivial rfl hl.1 ⟨⟨Nat.le_of_ble_eq_true rfl, Nat.le_of_ble_eq_true rfl⟩, Nat.le_of_ble_eq_true rfl, Nat.le_refl _, Nat.le_refl _⟩ rfl dX11_gcd_1 (fun z_1 h_1 => ?_)
  have h_1 : 0 ≤ z_1 ∧ (z_1 = a ∨ z_1 = -a) := h_1
  refine lv_istore_n (lv' := [(2, .int (J z_1)), (0, .int (J a)), (1, .int (J b))]) SS.1 SS.2.1 dX11_gcd_4 rfl hl (by decide) rfl (fun ls hl => ?_)
  refine lv_iload_n SS.1 SS.2.1 dX11_gcd_5 rfl (lv_at hl 2 rfl) ?_
  refine j_sRi SS (As := [.int (J b)]) (rest := []) (c_J9_abs_0f7a4 l D  b (show -2147483648 < b ∧ b ≤ 2147483647 from (by omega))) mf_J9_abs_0f7a4 kw_544 hG trivial rfl hl.1 ⟨⟨Nat.le_of_ble_eq_true rfl, Nat.le_of_ble_eq_true rfl⟩, Nat.le_of_ble_eq_true rfl, Nat.le_refl _, Nat.le_refl _⟩ rfl dX11_gcd_6 (fun z_6 h_6 => ?_)
  have h_6 : 0 ≤ z_6 ∧ (z_6 = b ∨ z_6 = -b) := h_6
  refine lv_istore_n (lv' := [(3, .int (J z_6)), (2, .int (J z_1)), (0, .int (J a)), (1, .int (J b))]) SS.1 SS.2.1 dX11_gcd_9 rfl hl (by decide) rfl (fun ls hl => ?_)
  refine j_iconst SS dX11_gcd_10 ?_
  refine lv_istore (lv' := [(4, .int (J 0)), (3, .int (J z_6)), (2, .int (J z_1)), (0, .int (J a)), (1, .int (J b))]) SS.1 SS.2.1 dX11_gcd_11 hl (by decide) rfl (fun ls hl => ?_)
  have L_13 : ∀ (nn : Nat) (m : Int) (n : Int) (i : Int) (ls : Array Slot) (hl : lv_has ls 6 [(2, .int (J m)), (3, .int (J n)), (4, .int (J i))]) (i13_0 : 0 ≤ i ∧ i ≤ 64) (i13_1 : 0 ≤ m ∧ m ≤ 100000) (i13_2 : 0 ≤ n ∧ n ≤ 100000) (i13_3 : Int.gcd m n = Int.gcd a b) (i13_4 : gf m n i), ((64 : Int) - i).toNat < nn → W pr l en (headSpec (jw yX11_gcd cX11_gcd 6 (some .int)) (jr 1 20)).room st mi (([.int (J a), .int (J b)] : List Value).toArray) below meth co st.heap [] 0 0 (MQ below (jRi (fun z => z = (Int.gcd a b : Int))) (([.int (J a), .int (J b)] : List Value).toArray) st 0 0 (fun _ => False)) (F0 mi 13 ls []) := by
    intro nn
    induction nn with
    | zero => intros; omega
    | succ nn ih_13 =>
      intro m n i ls hl i13_0 i13_1 i13_2 i13_3 i13_4 hm
      refine lv_iload SS.1 SS.2.1 dX11_gcd_13 (lv_at hl 2 rfl) ?_
      refine j_bipush SS dX11_gcd_15 (by decide +kernel) ?_
      refine j_icmp_ge SS (tgt := 40) (x := i) (y := 64) dX11_gcd_17 (by decide) (by omega) (by decide) (fun c_17 => ?_) (fun c_17 => ?_)
      · skip
        refine lv_iload_n SS.1 SS.2.1 dX11_gcd_40 rfl (lv_at hl 0 rfl) ?_
        exact W.iret SS.1 SS.2.1 hr (fun t0 ht hW => ⟨_, rfl, ⟨m, rfl, (by have := i13_3; rw [show n = 0 by first | omega | exact gf_e i13_2.1 (by omega) i13_4] at this; rw [← this]; simp [Int.gcd]; omega)⟩, ht⟩) (fun _ h => nomatch h) dX11_gcd_41 hlk
      · skip
        refine lv_iload_n SS.1 SS.2.1 dX11_gcd_20 rfl (lv_at hl 1 rfl) ?_
        refine j_if_eq SS (tgt := 40) (x := n) dX11_gcd_21 (by decide) (by omega) (fun c_21 => ?_) (fun c_21 => ?_)
        · skip
          refine lv_iload_n SS.1 SS.2.1 dX11_gcd_40 rfl (lv_at hl 0 rfl) ?_
          exact W.iret SS.1 SS.2.1 hr (fun t0 ht hW => ⟨_, rfl, ⟨m, rfl, (by have := i13_3; rw [show n = 0 by first | omega | exact gf_e i13_2.1 (by omega) i13_4] at this; rw [← this]; simp [Int.gcd]; omega)⟩, ht⟩) (fun _ h => nomatch h) dX11_gcd_41 hlk
        · skip
          refine lv_iload_n SS.1 SS.2.1 dX11_gcd_24 rfl (lv_at hl 0 rfl) ?_
          refine lv_iload_n SS.1 SS.2.1 dX11_gcd_25 rfl (lv_at hl 1 rfl) ?_
          refine j_irem SS (x := m) (y := n) dX11_gcd_26 (by omega) (by omega) (by omega) ?_
          refine lv_istore (lv' := [(5, .int (J (Int.tmod m n))), (2, .int (J m)), (3, .int (J n)), (4, .int (J i))]) SS.1 SS.2.1 dX11_gcd_27 hl (by decide) rfl (fun ls hl => ?_)
          refine lv_iload_n SS.1 SS.2.1 dX11_gcd_29 rfl (lv_at hl 2 rfl) ?_
          refine lv_istore_n (lv' := [(2, .int (J n)), (5, .int (J (Int.tmod m n))), (3, .int (J n)), (4, .int (J i))]) SS.1 SS.2.1 dX11_gcd_30 rfl hl (by decide) rfl (fun ls hl => ?_)
          refine lv_iload SS.1 SS.2.1 dX11_gcd_31 (lv_at hl 1 rfl) ?_
          refine lv_istore_n (lv' := [(3, .int (J (Int.tmod m n))), (2, .int (J n)), (5, .int (J (Int.tmod m n))), (4, .int (J i))]) SS.1 SS.2.1 dX11_gcd_33 rfl hl (by decide) rfl (fun ls hl => ?_)
          refine lv_iinc (v := J (i + 1)) (lv' := [(4, .int (J (i + 1))), (3, .int (J (Int.tmod m n))), (2, .int (J n)), (5, .int (J (Int.tmod m n)))]) SS.1 SS.2.1 dX11_gcd_34 hl (k := 3) rfl (J_add _ _) (by decide) rfl (fun ls hl => ?_)
          refine lv_goto (tgt := 13) SS.1 SS.2.1 dX11_gcd_37 (by decide) ?_
          exact ih_13 n (Int.tmod m n) (i + 1) ls (lv_sub hl [2, 1, 0] rfl) (by omega) (by omega) (by have := tm_b i13_1.1 (show (0:Int) < n by omega); omega) (by rw [gcd_step i13_1.1 (by omega)]; exact i13_3) (gf_s (by omega) i13_1 (by omega) i13_4 rfl) (by omega)
  exact L_13 (((64 : Int) - (0 : Int)).toNat + 1) z_1 z_6 0 ls (lv_sub hl [2, 1, 0] rfl) (by omega) (by omega) (by omega) (by rw [show z_1 = (a.natAbs : Int) by omega, show z_6 = (b.natAbs : Int) by omega]; simp [Int.gcd]) (Or.inr (Or.inl rfl)) (Nat.lt_succ_self _)


theorem cl_1 (mu px py wx wy : Int) : cx wx wy (mu * wx - px) (mu * wy - py) = cx px py wx wy := by unfold cx; grind
theorem cl_2 (mu px py wx wy : Int) : cx px py (mu * wx - px) (mu * wy - py) = mu * cx px py wx wy := by unfold cx; grind
theorem cl_4 (px py wx wy tx ty : Int) : cx px py wx wy * tx + cx wx wy tx ty * px = cx px py tx ty * wx := by unfold cx; grind
theorem cl_5 (px py wx wy tx ty : Int) : cx px py wx wy * ty + cx wx wy tx ty * py = cx px py tx ty * wy := by unfold cx; grind
theorem cl_6 (g k a b c d : Int) : cx (g * a) (g * b) (k * c) (k * d) = g * k * cx a b c d := by unfold cx; grind
theorem cl_7 (px py wx wy k : Int) : cx px py (wx - k * px) (wy - k * py) = cx px py wx wy := by unfold cx; grind
theorem cl_8 (px py wx wy k tx ty : Int) : cx (wx - k * px) (wy - k * py) tx ty = cx wx wy tx ty - cx px py tx ty * k := by unfold cx; grind
theorem cl_9 (a b y k : Int) : a * (y - b * k) = a * y - b * (a * k) := by grind
theorem eu_ex {a b : Int} : ∀ (n : Nat) (r s p q t w : Int), s.natAbs < n → eu a b r s p q t w → ∃ r' p' q' t' w' : Int, eu a b r' 0 p' q' t' w' := by
  intro n
  induction n with
  | zero => intro r s p q t w h _; omega
  | succ n ih =>
    intro r s p q t w hn h
    by_cases hs : s = 0
    · subst hs; exact ⟨r, p, q, t, w, h⟩
    · have h2 := eu_s h hs rfl
      exact ih _ _ _ _ _ _ (by omega) h2.1
theorem bz {a b : Int} (ha : -40 ≤ a ∧ a ≤ 40) (hb : -40 ≤ b ∧ b ≤ 40) (hg : Int.gcd a b = 1) : ∃ x y : Int, cx a b x y = 1 := by
  obtain ⟨r, p, q, t, w, h⟩ := eu_ex (b.natAbs + 1) a b 1 0 0 1 (Nat.lt_succ_self _) (eu_0 ha hb hg)
  exact ⟨_, _, (eu_e h rfl).1⟩
theorem bz_j {a b : Int} (ha : -40 ≤ a ∧ a ≤ 40) (hb : -40 ≤ b ∧ b ≤ 40) (hg : Int.gcd a b = 1) (h0 : a ≠ 0) : ∃ j : Int, 0 ≤ j ∧ j < (a.natAbs : Int) ∧ (1 + b * j).tmod a = 0 := by
  obtain ⟨x, y, h⟩ := bz ha hb hg
  refine ⟨x % a, Int.emod_nonneg x h0, Int.emod_lt x h0, ?_⟩
  have e := Int.emod_add_mul_ediv x a
  have e3 : b * x = b * (x % a) + b * (a * (x / a)) := by rw [← Int.mul_add, e]
  have e2 : 1 + b * (x % a) = a * (y - b * (x / a)) := by
    rw [cl_9]
    unfold cx at h
    omega
  rw [e2, Int.mul_tmod_right]
theorem tm_dv {a b : Int} (h : a.tmod b = 0) : b * a.tdiv b = a := by
  have := Int.tmod_add_tdiv_mul a b
  rw [Int.mul_comm]; omega
/-- the search for a point beside (px, py) -/
def fs_ (px py i wx wy : Int) : Prop := (-40 ≤ wx ∧ wx ≤ 40) ∧ (-2000 ≤ wy ∧ wy ≤ 2000) ∧ (px = 0 → wx = -py ∧ wy = 0) ∧ (px ≠ 0 → cx px py wx wy = 1 ∨ ∀ j : Int, 0 ≤ j → j < i → (1 + py * j).tmod px ≠ 0)
theorem fs_y {px py i : Int} (hp : px ≠ 0) (hi : 0 ≤ i ∧ i ≤ 40) (hy : -40 ≤ py ∧ py ≤ 40) (h : (1 + py * i).tmod px = 0) : fs_ px py (i + 1) i ((1 + py * i).tdiv px) := by
  have m := mulb (A := 40) (B := 40) (a := py) (b := i) (by omega) (by omega)
  have t := td_b (a := 1 + py * i) (b := px) (K := 2000) (by omega)
  refine ⟨by omega, t, fun q => absurd q hp, fun _ => Or.inl ?_⟩
  have := tm_dv h
  unfold cx; omega
theorem fs_n {px py i wx wy : Int} (hp : px ≠ 0) (h : fs_ px py i wx wy) (hn : (1 + py * i).tmod px ≠ 0) : fs_ px py (i + 1) wx wy := by
  obtain ⟨a, b, c, d⟩ := h
  refine ⟨a, b, c, fun q => ?_⟩
  rcases d q with d | d
  · exact Or.inl d
  · refine Or.inr (fun j j0 j1 => ?_)
    by_cases e : j = i
    · rw [e]; exact hn
    · exact d j j0 (by omega)
theorem fs_e {px py i wx wy : Int} (hx : -40 ≤ px ∧ px ≤ 40) (hy : -40 ≤ py ∧ py ≤ 40) (hg : Int.gcd px py = 1) (h : fs_ px py i wx wy) (hi : px = 0 ∨ (px.natAbs : Int) ≤ i) : cx px py wx wy = 1 := by
  obtain ⟨a, b, c, d⟩ := h
  by_cases hp : px = 0
  · obtain ⟨e1, e2⟩ := c hp
    subst hp
    rw [Int.gcd_zero_left] at hg
    have : py = 1 ∨ py = -1 := by omega
    rw [e1, e2]
    rcases this with q | q <;> subst q <;> decide
  · rcases d hp with d | d
    · exact d
    · obtain ⟨j, j0, j1, j2⟩ := bz_j hx hy hg hp
      exact absurd j2 (d j j0 (by omega))
theorem sec_nx {px py tx ty wx wy k : Int} (h : cx px py wx wy = 1) (hw : 0 < cx px py tx ty) (hk : k = cx wx wy tx ty / cx px py tx ty) : nx px py tx ty (wx - k * px) (wy - k * py) := by
  have e1 := cl_7 px py wx wy k
  have e2 := cl_8 px py wx wy k tx ty
  have h1 := Int.emod_nonneg (cx wx wy tx ty) (show cx px py tx ty ≠ 0 by omega)
  have h2 := Int.emod_lt_of_pos (cx wx wy tx ty) hw
  have h3 := Int.emod_add_mul_ediv (cx wx wy tx ty) (cx px py tx ty)
  rw [← hk] at h3
  exact ⟨by rw [e1]; exact h, by rw [e2]; omega, by rw [e2]; omega⟩
/-- two ways to the same side in one line, both without a common divisor -/
theorem nx_end {px py tx ty wx wy : Int} (h : nx px py tx ty wx wy) (h0 : cx wx wy tx ty ≤ 0) (hg : Int.gcd tx ty = 1) : wx = tx ∧ wy = ty := by
  obtain ⟨h1, h2, h3⟩ := h
  have hz : cx wx wy tx ty = 0 := by omega
  have e1 := cl_4 px py wx wy tx ty
  have e2 := cl_5 px py wx wy tx ty
  rw [h1, hz] at e1 e2
  rw [Int.gcd_eq_one_iff] at hg
  have d := hg (cx px py tx ty) ⟨wx, by omega⟩ ⟨wy, by omega⟩
  have d1 : cx px py tx ty = 1 := by
    have := Int.le_of_dvd (by decide) d
    omega
  rw [d1] at e1 e2
  omega
theorem tm_c2 {a n : Int} (hn : -40 ≤ n ∧ n ≤ 40) : -2000000 ≤ a → a ≤ 2000000 → -2000000 ≤ a.tmod n ∧ a.tmod n ≤ 2000000 := by
  intro h1 h2
  have : (a.tmod n).natAbs ≤ a.natAbs := by rw [Int.natAbs_tmod]; exact Nat.mod_le _ _
  omega
theorem cx_div {a b c d : Int} (h : 0 < cx a b c d) (hg : 0 < (Int.gcd a b : Int)) (hh : 0 < (Int.gcd c d : Int)) : 0 < cx (a.tdiv (Int.gcd a b)) (b.tdiv (Int.gcd a b)) (c.tdiv (Int.gcd c d)) (d.tdiv (Int.gcd c d)) := by
  have e1 : (Int.gcd a b : Int) * a.tdiv (Int.gcd a b) = a := Int.mul_tdiv_cancel' (Int.gcd_dvd_left _ _)
  have e2 : (Int.gcd a b : Int) * b.tdiv (Int.gcd a b) = b := Int.mul_tdiv_cancel' (Int.gcd_dvd_right _ _)
  have e3 : (Int.gcd c d : Int) * c.tdiv (Int.gcd c d) = c := Int.mul_tdiv_cancel' (Int.gcd_dvd_left _ _)
  have e4 : (Int.gcd c d : Int) * d.tdiv (Int.gcd c d) = d := Int.mul_tdiv_cancel' (Int.gcd_dvd_right _ _)
  generalize (Int.gcd a b : Int) = g at *
  generalize (Int.gcd c d : Int) = k at *
  generalize a.tdiv g = a1 at *
  generalize b.tdiv g = b1 at *
  generalize c.tdiv k = c1 at *
  generalize d.tdiv k = d1 at *
  have e5 : cx a b c d = g * k * cx a1 b1 c1 d1 := by rw [← e1, ← e2, ← e3, ← e4]; exact cl_6 g k a1 b1 c1 d1
  rw [e5] at h
  exact Int.pos_of_mul_pos_left (by rw [Int.mul_comm]; exact h) (Int.mul_pos hg hh)
def kept (X Y : Nat → Int) (k wn x1 y1 b1 : Int) : Prop := 0 ≤ wn → wn < k → x1 = X wn.toNat ∧ y1 = Y wn.toNat ∧ (wn = 0 → b1 = -1000000) ∧ (0 < wn → b1 = cx (X (wn - 1).toNat) (Y (wn - 1).toNat) (X (wn + 1).toNat) (Y (wn + 1).toNat))
/-- k points are kept, the next one is (wx, wy) -/
def SW (ax ay tx ty k px py wx wy wn x1 y1 b1 : Int) : Prop := 1 ≤ k ∧ ∃ X Y : Nat → Int, X 0 = ax ∧ Y 0 = ay ∧ rsq X Y (k + 1) tx ty ∧ bd 40 X Y (k + 1) ∧ (px = X (k - 1).toNat ∧ py = Y (k - 1).toNat) ∧ (wx = X k.toNat ∧ wy = Y k.toNat) ∧ kept X Y k wn x1 y1 b1
theorem SW_0 {ax ay tx ty sx sy wn x1 y1 b1 : Int} (h : nx ax ay tx ty sx sy) (ha : (-40 ≤ ax ∧ ax ≤ 40) ∧ -40 ≤ ay ∧ ay ≤ 40) (ht : (-40 ≤ tx ∧ tx ≤ 40) ∧ -40 ≤ ty ∧ ty ≤ 40) (hk : wn = 0 → x1 = ax ∧ y1 = ay ∧ b1 = -1000000) : SW ax ay tx ty 1 ax ay sx sy wn x1 y1 b1 := by
  have hs := nx_b h ha ht
  refine ⟨by omega, fun k => if k = 0 then ax else sx, fun k => if k = 0 then ay else sy, rfl, rfl, fun k hk => ?_, fun k hk => ?_, ⟨rfl, rfl⟩, ⟨rfl, rfl⟩, fun h0 h1 => ?_⟩
  · have : k = 0 := by omega
    subst this; exact h
  · have : k = 0 ∨ k = 1 := by omega
    rcases this with e | e <;> subst e
    · exact ⟨ha.1, ha.2⟩
    · exact ⟨hs.1, hs.2⟩
  · have e : wn = 0 := by omega
    obtain ⟨e1, e2, e3⟩ := hk e
    subst e
    exact ⟨e1, e2, fun _ => e3, fun q => by omega⟩
theorem SW_s {ax ay tx ty k px py wx wy wn x1 y1 b1 x2 y2 b2 mu nx_ ny_ : Int} (ht : (-40 ≤ tx ∧ tx ≤ 40) ∧ -40 ≤ ty ∧ ty ≤ 40) (h : SW ax ay tx ty k px py wx wy wn x1 y1 b1) (hx : nx_ = mu * wx - px) (hy : ny_ = mu * wy - py) (hn : 0 ≤ cx nx_ ny_ tx ty ∧ cx nx_ ny_ tx ty < cx wx wy tx ty) (hk1 : k = wn → x2 = wx ∧ y2 = wy ∧ b2 = mu) (hk2 : k ≠ wn → x2 = x1 ∧ y2 = y1 ∧ b2 = b1) : SW ax ay tx ty (k + 1) wx wy nx_ ny_ wn x2 y2 b2 := by
  obtain ⟨h1, X, Y, e1, e2, e3, e4, ⟨e5, e6⟩, ⟨e7, e8⟩, e9⟩ := h
  have s1 := e3 (k - 1).toNat (by omega)
  rw [show (k - 1).toNat + 1 = k.toNat by omega, ← e5, ← e6, ← e7, ← e8] at s1
  have c1 : cx wx wy nx_ ny_ = 1 := by
    rw [hx, hy, cl_1]; exact s1.1
  have hnx : nx wx wy tx ty nx_ ny_ := ⟨c1, hn⟩
  have hbw := bd_at e4 (z := k) (by omega) (by omega)
  rw [← e7, ← e8] at hbw
  have hbn := nx_b hnx ⟨hbw.1, hbw.2⟩ ht
  have mu_e : mu = cx px py nx_ ny_ := by
    have : cx px py nx_ ny_ = mu * cx px py wx wy := by rw [hx, hy, cl_2]
    rw [s1.1] at this; omega
  refine ⟨by omega, upI X (k + 1).toNat nx_, upI Y (k + 1).toNat ny_, by rw [upI_n (by omega)]; exact e1, by rw [upI_n (by omega)]; exact e2, fun j hj => ?_, bd_put (by omega) e4 ⟨hbn.1.1, hbn.1.2⟩ hbn.2, ⟨?_, ?_⟩, ⟨by rw [upI_s], by rw [upI_s]⟩, fun h0 hlt => ?_⟩
  · by_cases e : (j : Int) = k
    · rw [show j = k.toNat by omega, show k.toNat + 1 = (k + 1).toNat by omega, upI_s, upI_s, upI_n (by omega), upI_n (by omega), ← e7, ← e8]
      exact hnx
    · rw [upI_n (by omega), upI_n (by omega), upI_n (by omega), upI_n (by omega)]
      exact e3 j (by omega)
  · rw [show k + 1 - 1 = k by omega, upI_n (by omega)]; exact e7
  · rw [show k + 1 - 1 = k by omega, upI_n (by omega)]; exact e8
  · by_cases e : k = wn
    · obtain ⟨q1, q2, q3⟩ := hk1 e
      subst e
      refine ⟨by rw [upI_n (by omega), q1]; exact e7, by rw [upI_n (by omega), q2]; exact e8, fun z => by omega, fun _ => ?_⟩
      rw [upI_s, upI_s, upI_n (by omega), upI_n (by omega), ← e5, ← e6, q3]
      exact mu_e
    · obtain ⟨q1, q2, q3⟩ := hk2 e
      obtain ⟨r1, r2, r3, r4⟩ := e9 h0 (by omega)
      refine ⟨by rw [upI_n (by omega), q1]; exact r1, by rw [upI_n (by omega), q2]; exact r2, fun z => by rw [q3]; exact r3 z, fun z => ?_⟩
      rw [upI_n (by omega), upI_n (by omega), upI_n (by omega), upI_n (by omega), q3]
      exact r4 z
theorem SW_nx {ax ay tx ty k px py wx wy wn x1 y1 b1 : Int} (h : SW ax ay tx ty k px py wx wy wn x1 y1 b1) : nx px py tx ty wx wy ∧ ((-40 ≤ px ∧ px ≤ 40) ∧ -40 ≤ py ∧ py ≤ 40) ∧ (-40 ≤ wx ∧ wx ≤ 40) ∧ -40 ≤ wy ∧ wy ≤ 40 := by
  obtain ⟨h1, X, Y, e1, e2, e3, e4, ⟨e5, e6⟩, ⟨e7, e8⟩, e9⟩ := h
  have s1 := e3 (k - 1).toNat (by omega)
  rw [show (k - 1).toNat + 1 = k.toNat by omega, ← e5, ← e6, ← e7, ← e8] at s1
  have b1 := bd_at e4 (z := k - 1) (by omega) (by omega)
  have b2 := bd_at e4 (z := k) (by omega) (by omega)
  rw [← e5, ← e6] at b1
  rw [← e7, ← e8] at b2
  exact ⟨s1, ⟨b1.1, b1.2⟩, b2.1, b2.2⟩
/-- what walk leaves -/
def wk (a b c d wn n x1 y1 b1 : Int) : Prop := ∃ X Y : Nat → Int, ry a b c d X Y n ∧ (0 ≤ wn → wn < n → x1 = X wn.toNat ∧ y1 = Y wn.toNat ∧ (wn = 0 ∨ wn = n - 1 → b1 = -1000000) ∧ (0 < wn → wn < n - 1 → b1 = cx (X (wn - 1).toNat) (Y (wn - 1).toNat) (X (wn + 1).toNat) (Y (wn + 1).toNat)))
theorem SW_e {a b c d k px py wx wy wn x1 y1 b1 x2 y2 b2 : Int} (hk9 : k ≤ 3250) (hg : Int.gcd (c.tdiv (Int.gcd c d)) (d.tdiv (Int.gcd c d)) = 1) (h : SW (a.tdiv (Int.gcd a b)) (b.tdiv (Int.gcd a b)) (c.tdiv (Int.gcd c d)) (d.tdiv (Int.gcd c d)) k px py wx wy wn x1 y1 b1) (h0 : cx wx wy (c.tdiv (Int.gcd c d)) (d.tdiv (Int.gcd c d)) ≤ 0) (hk1 : k = wn → x2 = c.tdiv (Int.gcd c d) ∧ y2 = d.tdiv (Int.gcd c d) ∧ b2 = -1000000) (hk2 : k ≠ wn → x2 = x1 ∧ y2 = y1 ∧ b2 = b1) : wk a b c d wn (k + 1) x2 y2 b2 := by
  have hn := (SW_nx h).1
  have he := nx_end hn h0 hg
  obtain ⟨h1, X, Y, e1, e2, e3, e4, ⟨e5, e6⟩, ⟨e7, e8⟩, e9⟩ := h
  refine ⟨X, Y, ⟨by omega, e1, e2, e3, e4, ?_⟩, fun w0 w1 => ?_⟩
  · rw [show k + 1 - 1 = k by omega, ← e7, ← e8]; exact h0
  · by_cases e : k = wn
    · obtain ⟨q1, q2, q3⟩ := hk1 e
      subst e
      exact ⟨by rw [← e7, q1]; exact he.1.symm, by rw [← e8, q2]; exact he.2.symm, fun _ => q3, fun _ z => by omega⟩
    · obtain ⟨q1, q2, q3⟩ := hk2 e
      obtain ⟨r1, r2, r3, r4⟩ := e9 w0 (by omega)
      exact ⟨by rw [q1]; exact r1, by rw [q2]; exact r2, fun z => by rw [q3]; exact r3 (by omega), fun z _ => by rw [q3]; exact r4 z⟩
theorem mu_c {bf rs mu : Int} (hr : 0 < rs) (hm : mu = -((-bf) / rs)) : 0 ≤ mu * rs - bf ∧ mu * rs - bf < rs := by
  have h1 := Int.emod_nonneg (-bf) (show rs ≠ 0 by omega)
  have h2 := Int.emod_lt_of_pos (-bf) hr
  have h3 := Int.emod_add_mul_ediv (-bf) rs
  rw [hm, Int.neg_mul, Int.mul_comm]
  omega

set_option maxHeartbeats 4000000 in
set_option maxRecDepth 100000 in
theorem c_X9_keep (l : Launch) (D : JD) (q : Nat → Nat) (u : CS) (A : Nat → Prop) (hD : va_D A (cW D q u)) (a : Int) (b : Int) (m : Int) (w : Int) (p0 : 0 ≤ u.2.2.2 4 ∧ u.2.2.2 4 ≤ 100000) (p1 : -2147483648 ≤ w ∧ w ≤ 2147483647) : Met l yX9_keep (jw yX9_keep cX9_keep 5 none) (jr 0 0) (jP [.ref (q 4), .int (J a), .int (J b), .int (J m), .int (J w)] D (fun H => va_P D.1 j_cl (cW D q u) H)) (jWv (fun u' => ∃ cn : Int, ∃ x1 : Int, ∃ y1 : Int, ∃ b1 : Int, u' = (sV (sV (sV (sV u 4 cn) 5 x1) 6 y1) 7 b1) ∧ (cn = u.2.2.2 4 + 1 ∧ (u.2.2.2 4 = w → x1 = a ∧ y1 = b ∧ b1 = m) ∧ (u.2.2.2 4 ≠ w → x1 = u.2.2.2 5 ∧ y1 = u.2.2.2 6 ∧ b1 = u.2.2.2 7))) (fun u' H => va_P D.1 j_cl (cW D q u') H) A) 0 0 A := by
  refine Met.ofW (cc := cX9_keep) (maxL := 5) (ret := none) (by decide) rfl ?_
  intro pr en st mi args below meth co s₁ B hml hv
  obtain ⟨rfl, hG, hP⟩ := hv
  have hr := B.returns
  have hlk := B.notSynchronized
  have SS : jS pr mi co cX9_keep 5 st _ RX9 := ⟨B.exec, B.bytes, hml, findClass_of_methodNamed B.named, fun w hw => atoms_spec (ws := (jw yX9_keep cX9_keep 5 none)) B.pre w (List.mem_cons_of_mem _ hw)⟩
  have hl := lv_entry ([.ref (q 4), .int (J a), .int (J b), .int (J m), .int (J w)]) (n := 5) (Nat.le_of_ble_eq_true rfl)
  rw [lg_entry_eq]
  generalize (lg_sl ([.ref (q 4), .int (J a), .int (J b), .int (J m), .int (J w)]) ++ List.replicate (5 - (lg_sl ([.ref (q 4), .int (J a), .int (J b), .int (J m), .int (J w)])).length) Slot.unset).toArray = ls at hl ⊢
  have hl : lv_has ls 5 [(0, .ref (q 4)), (1, .int (J a)), (2, .int (J b)), (3, .int (J m)), (4, .int (J w))] := hl
  have hS : va_S A st.heap st.heap [] := va_S.rf
  refine lv_aload_n SS.1 SS.2.1 dX9_keep_0 rfl (lv_at hl 0 rfl) ?_
  refine j_get SS hG hP 4 (v := .int (J (u.2.2.2 4))) (C := RX9) (T := TX9) (N := 6) rfl rfl inX9 0 (by decide) (ref := "GridPolygons$Sail") kw_213 rfl rfl dX9_keep_1 ?_
  refine lv_iload SS.1 SS.2.1 dX9_keep_4 (lv_at hl 4 rfl) ?_
  refine j_icmp_ne SS (tgt := 24) (x := (u.2.2.2 4)) (y := w) dX9_keep_6 (by decide) (by omega) (by omega) (fun c_6 => ?_) (fun c_6 => ?_)
  · skip
    refine lv_aload_n SS.1 SS.2.1 dX9_keep_24 rfl (lv_at hl 0 rfl) ?_
    refine lv_dup SS.1 SS.2.1 dX9_keep_25 rfl ?_
    refine j_get SS hG hP 4 (v := .int (J (u.2.2.2 4))) (C := RX9) (T := TX9) (N := 6) rfl rfl inX9 0 (by decide) (ref := "GridPolygons$Sail") kw_213 rfl rfl dX9_keep_26 ?_
    refine j_iconst SS dX9_keep_29 ?_
    refine j_iadd SS (x := (u.2.2.2 4)) (y := 1) dX9_keep_30 ?_
    refine j_put SS hG hP (cW_D hD) hS 4 (v := .int (J ((u.2.2.2 4) + 1))) (ty := .int) (C := RX9) (T := TX9) (N := 6) rfl rfl inX9 tyX9 tyX9_ok nmX9 0 (by decide) (ref := "GridPolygons$Sail") kw_213 rfl rfl (by decide +kernel) rfl rfl (Nat.le_of_ble_eq_true rfl) dX9_keep_31 (ws' := (cW D q (sV u 4 ((u.2.2.2 4) + 1)))) rfl (fun H locs hP hS => ?_)
    exact W.vret SS.1 SS.2.1 hr (fun t0 ht hW => ⟨⟨(sV (sV (sV (sV u 4 ((u.2.2.2 4) + 1)) 5 (u.2.2.2 5)) 6 (u.2.2.2 6)) 7 (u.2.2.2 7)), rfl, (⟨((u.2.2.2 4) + 1), (u.2.2.2 5), (u.2.2.2 6), (u.2.2.2 7), rfl, by first | exact ⟨rfl, fun _ => ⟨rfl, rfl, rfl⟩, fun q => absurd (by omega) q⟩ | exact ⟨rfl, fun q => absurd q (by omega), fun _ => ⟨rfl, rfl, rfl⟩⟩⟩), by show va_P D.1 j_cl (cW D q (sV (sV (sV (sV u 4 ((u.2.2.2 4) + 1)) 5 (u.2.2.2 5)) 6 (u.2.2.2 6)) 7 (u.2.2.2 7))) t0.heap; rw [ht]; first | exact hP | (simp only [sC_id, sX_id, sY_id, sH_id, sT_id, sV_id]; exact hP)⟩, hS.F ht⟩) hS.2.2 dX9_keep_34 hlk
  · skip
    refine lv_aload_n SS.1 SS.2.1 dX9_keep_9 rfl (lv_at hl 0 rfl) ?_
    refine lv_iload_n SS.1 SS.2.1 dX9_keep_10 rfl (lv_at hl 1 rfl) ?_
    refine j_put SS hG hP (cW_D hD) hS 4 (v := .int (J a)) (ty := .int) (C := RX9) (T := TX9) (N := 6) rfl rfl inX9 tyX9 tyX9_ok nmX9 1 (by decide) (ref := "GridPolygons$Sail") kw_215 rfl rfl (by decide +kernel) rfl rfl (Nat.le_of_ble_eq_true rfl) dX9_keep_11 (ws' := (cW D q (sV u 5 a))) rfl (fun H locs hP hS => ?_)
    refine lv_aload_n SS.1 SS.2.1 dX9_keep_14 rfl (lv_at hl 0 rfl) ?_
    refine lv_iload_n SS.1 SS.2.1 dX9_keep_15 rfl (lv_at hl 2 rfl) ?_
    refine j_put SS hG hP (cW_D hD) hS 4 (v := .int (J b)) (ty := .int) (C := RX9) (T := TX9) (N := 6) rfl rfl inX9 tyX9 tyX9_ok nmX9 2 (by decide) (ref := "GridPolygons$Sail") kw_217 rfl rfl (by decide +kernel) rfl rfl (Nat.le_of_ble_eq_true rfl) dX9_keep_16 (ws' := (cW D q (sV (sV u 5 a) 6 b))) rfl (fun H locs hP hS => ?_)
    refine lv_aload_n SS.1 SS.2.1 dX9_keep_19 rfl (lv_at hl 0 rfl) ?_
    refine lv_iload_n SS.1 SS.2.1 dX9_keep_20 rfl (lv_at hl 3 rfl) ?_
    refine j_put SS hG hP (cW_D hD) hS 4 (v := .int (J m)) (ty := .int) (C := RX9) (T := TX9) (N := 6) rfl rfl inX9 tyX9 tyX9_ok nmX9 3 (by decide) (ref := "GridPolygons$Sail") kw_219 rfl rfl (by decide +kernel) rfl rfl (Nat.le_of_ble_eq_true rfl) dX9_keep_21 (ws' := (cW D q (sV (sV (sV u 5 a) 6 b) 7 m))) rfl (fun H locs hP hS => ?_)
    refine lv_aload_n SS.1 SS.2.1 dX9_keep_24 rfl (lv_at hl 0 rfl) ?_
    refine lv_dup SS.1 SS.2.1 dX9_keep_25 rfl ?_
    refine j_get SS hG hP 4 (v := .int (J (u.2.2.2 4))) (C := RX9) (T := TX9) (N := 6) rfl rfl inX9 0 (by decide) (ref := "GridPolygons$Sail") kw_213 rfl rfl dX9_keep_26 ?_
    refine j_iconst SS dX9_keep_29 ?_
    refine j_iadd SS (x := (u.2.2.2 4)) (y := 1) dX9_keep_30 ?_
    refine j_put SS hG hP (cW_D hD) hS 4 (v := .int (J ((u.2.2.2 4) + 1))) (ty := .int) (C := RX9) (T := TX9) (N := 6) rfl rfl inX9 tyX9 tyX9_ok nmX9 0 (by decide) (ref := "GridPolygons$Sail") kw_213 rfl rfl (by decide +kernel) rfl rfl (Nat.le_of_ble_eq_true rfl) dX9_keep_31 (ws' := (cW D q (sV (sV (sV (sV u 4 ((u.2.2.2 4) + 1)) 5 a) 6 b) 7 m))) rfl (fun H locs hP hS => ?_)
    exact W.vret SS.1 SS.2.1 hr (fun t0 ht hW => ⟨⟨(sV (sV (sV (sV u 4 ((u.2.2.2 4) + 1)) 5 a) 6 b) 7 m), rfl, (⟨((u.2.2.2 4) + 1), a, b, m, rfl, by first | exact ⟨rfl, fun _ => ⟨rfl, rfl, rfl⟩, fun q => absurd (by omega) q⟩ | exact ⟨rfl, fun q => absurd q (by omega), fun _ => ⟨rfl, rfl, rfl⟩⟩⟩), by show va_P D.1 j_cl (cW D q (sV (sV (sV (sV u 4 ((u.2.2.2 4) + 1)) 5 a) 6 b) 7 m)) t0.heap; rw [ht]; first | exact hP | (simp only [sC_id, sX_id, sY_id, sH_id, sT_id, sV_id]; exact hP)⟩, hS.F ht⟩) hS.2.2 dX9_keep_34 hlk

set_option maxHeartbeats 4000000 in
set_option maxRecDepth 100000 in
theorem c_X9_findSecond (l : Launch) (D : JD) (q : Nat → Nat) (u : CS) (A : Nat → Prop) (hD : va_D A (cW D q u)) (a : Int) (b : Int) (c : Int) (d : Int) (p0 : -40 ≤ a ∧ a ≤ 40) (p1 : -40 ≤ b ∧ b ≤ 40) (p2 : -40 ≤ c ∧ c ≤ 40) (p3 : -40 ≤ d ∧ d ≤ 40) (p4 : Int.gcd a b = 1) (p5 : 0 < cx a b c d) : Met l yX9_findSecond (jw yX9_findSecond cX9_findSecond 9 none) (jr 1 22) (jP [.ref (q 4), .int (J a), .int (J b), .int (J c), .int (J d)] D (fun H => va_P D.1 j_cl (cW D q u) H)) (jWv (fun u' => ∃ sx : Int, ∃ sy : Int, u' = (sV (sV u 8 sx) 9 sy) ∧ (nx a b c d sx sy)) (fun u' H => va_P D.1 j_cl (cW D q u') H) A) 0 0 A := by
  refine Met.ofW (cc := cX9_findSecond) (maxL := 9) (ret := none) (by decide) rfl ?_
  intro pr en st mi args below meth co s₁ B hml hv
  obtain ⟨rfl, hG, hP⟩ := hv
  have hr := B.returns
  have hlk := B.notSynchronized
  have SS : jS pr mi co cX9_findSecond 9 st _ RX9 := ⟨B.exec, B.bytes, hml, findClass_of_methodNamed B.named, fun w hw => atoms_spec (ws := (jw yX9_findSecond cX9_findSecond 9 none)) B.pre w (List.mem_cons_of_mem _ hw)⟩
  have hl := lv_entry ([.ref (q 4), .int (J a), .int (J b), .int (J c), .int (J d)]) (n := 9) (Nat.le_of_ble_eq_true rfl)
  rw [lg_entry_eq]
  generalize (lg_sl ([.ref (q 4), .int (J a), .int (J b), .int (J c), .int (J d)]) ++ List.replicate (9 - (lg_sl ([.ref (q 4), .int (J a), .int (J b), .int (J c), .int (J d)])).length) Slot.unset).toArray = ls at hl ⊢
  have hl : lv_has ls 9 [(0, .ref (q 4)), (1, .int (J a)), (2, .int (J b)), (3, .int (J c)), (4, .int (J d))] := hl
  have hS : va_S A st.heap st.heap [] := va_S.rf
  refine lv_iload_n SS.1 SS.2.1 dX9_findSecond_0 rfl (lv_at hl 2 rfl) ?_
  refine j_ineg SS dX9_findSecond_1 ?_
  refine lv_istore (lv' := [(5, .int (J (-b))), (0, .ref (q 4)), (1, .int (J a)), (2, .int (J b)), (3, .int (J c)), (4, .int (J d))]) SS.1 SS.2.1 dX9_findSecond_2 hl (by decide) rfl (fun ls hl => ?_)
  refine j_iconst SS dX9_findSecond_4 ?_
  refine lv_istore (lv' := [(6, .int (J 0)), (5, .int (J (-b))), (0, .ref (q 4)), (1, .int (J a)), (2, .int (J b)), (3, .int (J c)), (4, .int (J d))]) SS.1 SS.2.1 dX9_findSecond_5 hl (by decide) rfl (fun ls hl => ?_)
  refine j_iconst SS dX9_findSecond_7 ?_
  refine lv_istore (lv' := [(7, .int (J 0)), (6, .int (J 0)), (5, .int (J (-b))), (0, .ref (q 4)), (1, .int (J a)), (2, .int (J b)), (3, .int (J c)), (4, .int (J d))]) SS.1 SS.2.1 dX9_findSecond_8 hl (by decide) rfl (fun ls hl => ?_)
  have L_10 : ∀ (nn : Nat) (wx : Int) (wy : Int) (i : Int) (H : Heap) (locs : List Loc) (hP : va_P D.1 j_cl (cW D q u) H) (hS : va_S A st.heap H locs) (ls : Array Slot) (hl : lv_has ls 9 [(0, .ref (q 4)), (1, .int (J a)), (2, .int (J b)), (3, .int (J c)), (4, .int (J d)), (5, .int (J wx)), (6, .int (J wy)), (7, .int (J i))]) (i10_0 : 0 ≤ i ∧ i ≤ 40) (i10_1 : fs_ a b i wx wy) (i10_2 : a = 0 ∨ i ≤ (a.natAbs : Int)), ((41 : Int) - i).toNat < nn → W pr l en (headSpec (jw yX9_findSecond cX9_findSecond 9 none) (jr 1 22)).room st mi (([.ref (q 4), .int (J a), .int (J b), .int (J c), .int (J d)] : List Value).toArray) below meth co H locs 0 0 (MQ below (jWv (fun u' => ∃ sx : Int, ∃ sy : Int, u' = (sV (sV u 8 sx) 9 sy) ∧ (nx a b c d sx sy)) (fun u' H => va_P D.1 j_cl (cW D q u') H) A) (([.ref (q 4), .int (J a), .int (J b), .int (J c), .int (J d)] : List Value).toArray) st 0 0 A) (F0 mi 10 ls []) := by
    intro nn
    induction nn with
    | zero => intros; omega
    | succ nn ih_10 =>
      intro wx wy i  H locs hP hS ls hl i10_0 i10_1 i10_2 hm
      refine lv_iload_n SS.1 SS.2.1 dX9_findSecond_10 rfl (lv_at hl 1 rfl) ?_
      refine j_if_eq SS (tgt := 54) (x := a) dX9_findSecond_11 (by decide) (by omega) (fun c_11 => ?_) (fun c_11 => ?_)
      · skip
        have hw1 := fs_e p0 p1 p4 i10_1 (by omega)
        have hw2 := i10_1.1
        have hw3 := i10_1.2.1
        have m1 := mulb (A := 40) (B := 40) (a := a) (b := d) p0 p3
        have m2 := mulb (A := 40) (B := 40) (a := b) (b := c) p1 p2
        refine lv_iload_n SS.1 SS.2.1 dX9_findSecond_54 rfl (lv_at hl 1 rfl) ?_
        refine lv_iload SS.1 SS.2.1 dX9_findSecond_55 (lv_at hl 4 rfl) ?_
        refine j_imul SS (x := a) (y := d) dX9_findSecond_57 ?_
        refine lv_iload_n SS.1 SS.2.1 dX9_findSecond_58 rfl (lv_at hl 2 rfl) ?_
        refine lv_iload_n SS.1 SS.2.1 dX9_findSecond_59 rfl (lv_at hl 3 rfl) ?_
        refine j_imul SS (x := b) (y := c) dX9_findSecond_60 ?_
        refine j_isub SS (x := (a * d)) (y := (b * c)) dX9_findSecond_61 ?_
        obtain ⟨wh, ewh⟩ : ∃ z : Int, z = ((a * d) - (b * c)) := ⟨_, rfl⟩
        rw [← ewh]
        refine lv_istore (lv' := [(7, .int (J wh)), (0, .ref (q 4)), (1, .int (J a)), (2, .int (J b)), (3, .int (J c)), (4, .int (J d)), (5, .int (J wx)), (6, .int (J wy))]) SS.1 SS.2.1 dX9_findSecond_62 hl (by decide) rfl (fun ls hl => ?_)
        have ewc : wh = cx a b c d := ewh
        refine lv_iload SS.1 SS.2.1 dX9_findSecond_64 (lv_at hl 0 rfl) ?_
        refine j_if_ne SS (tgt := 73) (x := wh) dX9_findSecond_66 (by decide) (by omega) (fun c_66 => ?_) (fun c_66 => ?_)
        · skip
          refine lv_iload SS.1 SS.2.1 dX9_findSecond_73 (lv_at hl 6 rfl) ?_
          have m3 := mulb (A := 40) (B := 40) (a := wx) (b := d) hw2 p3
          have m4 := mulb (A := 2000) (B := 40) (a := wy) (b := c) hw3 p2
          refine lv_iload SS.1 SS.2.1 dX9_findSecond_75 (lv_at hl 5 rfl) ?_
          refine j_imul SS (x := wx) (y := d) dX9_findSecond_77 ?_
          refine lv_iload SS.1 SS.2.1 dX9_findSecond_78 (lv_at hl 7 rfl) ?_
          refine lv_iload_n SS.1 SS.2.1 dX9_findSecond_80 rfl (lv_at hl 4 rfl) ?_
          refine j_imul SS (x := wy) (y := c) dX9_findSecond_81 ?_
          refine j_isub SS (x := (wx * d)) (y := (wy * c)) dX9_findSecond_82 ?_
          obtain ⟨cw, ecw⟩ : ∃ z : Int, z = ((wx * d) - (wy * c)) := ⟨_, rfl⟩
          rw [← ecw]
          refine lv_iload SS.1 SS.2.1 dX9_findSecond_83 (lv_at hl 0 rfl) ?_
          refine j_sRi SS (As := [.int (J cw), .int (J wh)]) (rest := []) (c_J9_floorDiv_7cf53 l D  cw wh (show -2147483648 < cw ∧ cw ≤ 2147483647 from (by omega)) (show 0 < wh ∧ wh ≤ 2147483647 from (by omega))) mf_J9_floorDiv_7cf53 kw_850 hG trivial rfl hl.1 ⟨⟨Nat.le_of_ble_eq_true rfl, Nat.le_of_ble_eq_true rfl⟩, Nat.le_of_ble_eq_true rfl, Nat.le_refl _, Nat.le_refl _⟩ rfl dX9_findSecond_85 (fun z_85 h_85 => ?_)
          have h_85 : z_85 = cw / wh := h_85
          refine lv_istore (lv' := [(8, .int (J z_85)), (7, .int (J wh)), (0, .ref (q 4)), (1, .int (J a)), (2, .int (J b)), (3, .int (J c)), (4, .int (J d)), (5, .int (J wx)), (6, .int (J wy))]) SS.1 SS.2.1 dX9_findSecond_88 hl (by decide) rfl (fun ls hl => ?_)
          refine lv_aload_n SS.1 SS.2.1 dX9_findSecond_90 rfl (lv_at hl 2 rfl) ?_
          refine lv_iload SS.1 SS.2.1 dX9_findSecond_91 (lv_at hl 7 rfl) ?_
          refine lv_iload SS.1 SS.2.1 dX9_findSecond_93 (lv_at hl 0 rfl) ?_
          refine lv_iload_n SS.1 SS.2.1 dX9_findSecond_95 rfl (lv_at hl 3 rfl) ?_
          refine j_imul SS (x := z_85) (y := a) dX9_findSecond_96 ?_
          refine j_isub SS (x := wx) (y := (z_85 * a)) dX9_findSecond_97 ?_
          refine j_put SS hG hP (cW_D hD) hS 4 (v := .int (J (wx - (z_85 * a)))) (ty := .int) (C := RX9) (T := TX9) (N := 6) rfl rfl inX9 tyX9 tyX9_ok nmX9 4 (by decide) (ref := "GridPolygons$Sail") kw_221 rfl rfl (by decide +kernel) rfl rfl (Nat.le_of_ble_eq_true rfl) dX9_findSecond_98 (ws' := (cW D q (sV u 8 (wx - (z_85 * a))))) rfl (fun H locs hP hS => ?_)
          refine lv_aload_n SS.1 SS.2.1 dX9_findSecond_101 rfl (lv_at hl 2 rfl) ?_
          refine lv_iload SS.1 SS.2.1 dX9_findSecond_102 (lv_at hl 8 rfl) ?_
          refine lv_iload SS.1 SS.2.1 dX9_findSecond_104 (lv_at hl 0 rfl) ?_
          refine lv_iload_n SS.1 SS.2.1 dX9_findSecond_106 rfl (lv_at hl 4 rfl) ?_
          refine j_imul SS (x := z_85) (y := b) dX9_findSecond_107 ?_
          refine j_isub SS (x := wy) (y := (z_85 * b)) dX9_findSecond_108 ?_
          refine j_put SS hG hP (cW_D hD) hS 4 (v := .int (J (wy - (z_85 * b)))) (ty := .int) (C := RX9) (T := TX9) (N := 6) rfl rfl inX9 tyX9 tyX9_ok nmX9 5 (by decide) (ref := "GridPolygons$Sail") kw_222 rfl rfl (by decide +kernel) rfl rfl (Nat.le_of_ble_eq_true rfl) dX9_findSecond_109 (ws' := (cW D q (sV (sV u 8 (wx - (z_85 * a))) 9 (wy - (z_85 * b))))) rfl (fun H locs hP hS => ?_)
          exact W.vret SS.1 SS.2.1 hr (fun t0 ht hW => ⟨⟨(sV (sV u 8 (wx - (z_85 * a))) 9 (wy - (z_85 * b))), rfl, (⟨(wx - (z_85 * a)), (wy - (z_85 * b)), rfl, sec_nx hw1 p5 (by rw [h_85, ecw, ewc]; rfl)⟩), by show va_P D.1 j_cl (cW D q (sV (sV u 8 (wx - (z_85 * a))) 9 (wy - (z_85 * b)))) t0.heap; rw [ht]; first | exact hP | (simp only [sC_id, sX_id, sY_id, sH_id, sT_id, sV_id]; exact hP)⟩, hS.F ht⟩) hS.2.2 dX9_findSecond_112 hlk
        · skip
          exfalso; omega
      · skip
        refine lv_iload SS.1 SS.2.1 dX9_findSecond_14 (lv_at hl 7 rfl) ?_
        refine lv_iload_n SS.1 SS.2.1 dX9_findSecond_16 rfl (lv_at hl 1 rfl) ?_
        refine j_sRi SS (As := [.int (J a)]) (rest := [.int (J i)]) (c_J9_abs_0f7a4 l D  a (show -2147483648 < a ∧ a ≤ 2147483647 from (by omega))) mf_J9_abs_0f7a4 kw_849 hG trivial rfl hl.1 ⟨⟨Nat.le_of_ble_eq_true rfl, Nat.le_of_ble_eq_true rfl⟩, Nat.le_of_ble_eq_true rfl, Nat.le_refl _, Nat.le_refl _⟩ rfl dX9_findSecond_17 (fun z_17 h_17 => ?_)
        have h_17 : 0 ≤ z_17 ∧ (z_17 = a ∨ z_17 = -a) := h_17
        refine j_icmp_ge SS (tgt := 54) (x := i) (y := z_17) dX9_findSecond_20 (by decide) (by omega) (by omega) (fun c_20 => ?_) (fun c_20 => ?_)
        · skip
          have hw1 := fs_e p0 p1 p4 i10_1 (by omega)
          have hw2 := i10_1.1
          have hw3 := i10_1.2.1
          have m1 := mulb (A := 40) (B := 40) (a := a) (b := d) p0 p3
          have m2 := mulb (A := 40) (B := 40) (a := b) (b := c) p1 p2
          refine lv_iload_n SS.1 SS.2.1 dX9_findSecond_54 rfl (lv_at hl 1 rfl) ?_
          refine lv_iload SS.1 SS.2.1 dX9_findSecond_55 (lv_at hl 4 rfl) ?_
          refine j_imul SS (x := a) (y := d) dX9_findSecond_57 ?_
          refine lv_iload_n SS.1 SS.2.1 dX9_findSecond_58 rfl (lv_at hl 2 rfl) ?_
          refine lv_iload_n SS.1 SS.2.1 dX9_findSecond_59 rfl (lv_at hl 3 rfl) ?_
          refine j_imul SS (x := b) (y := c) dX9_findSecond_60 ?_
          refine j_isub SS (x := (a * d)) (y := (b * c)) dX9_findSecond_61 ?_
          obtain ⟨wh, ewh⟩ : ∃ z : Int, z = ((a * d) - (b * c)) := ⟨_, rfl⟩
          rw [← ewh]
          refine lv_istore (lv' := [(7, .int (J wh)), (0, .ref (q 4)), (1, .int (J a)), (2, .int (J b)), (3, .int (J c)), (4, .int (J d)), (5, .int (J wx)), (6, .int (J wy))]) SS.1 SS.2.1 dX9_findSecond_62 hl (by decide) rfl (fun ls hl => ?_)
          have ewc : wh = cx a b c d := ewh
          refine lv_iload SS.1 SS.2.1 dX9_findSecond_64 (lv_at hl 0 rfl) ?_
          refine j_if_ne SS (tgt := 73) (x := wh) dX9_findSecond_66 (by decide) (by omega) (fun c_66 => ?_) (fun c_66 => ?_)
          · skip
            refine lv_iload SS.1 SS.2.1 dX9_findSecond_73 (lv_at hl 6 rfl) ?_
            have m3 := mulb (A := 40) (B := 40) (a := wx) (b := d) hw2 p3
            have m4 := mulb (A := 2000) (B := 40) (a := wy) (b := c) hw3 p2
            refine lv_iload SS.1 SS.2.1 dX9_findSecond_75 (lv_at hl 5 rfl) ?_
            refine j_imul SS (x := wx) (y := d) dX9_findSecond_77 ?_
            refine lv_iload SS.1 SS.2.1 dX9_findSecond_78 (lv_at hl 7 rfl) ?_
            refine lv_iload_n SS.1 SS.2.1 dX9_findSecond_80 rfl (lv_at hl 4 rfl) ?_
            refine j_imul SS (x := wy) (y := c) dX9_findSecond_81 ?_
            refine j_isub SS (x := (wx * d)) (y := (wy * c)) dX9_findSecond_82 ?_
            obtain ⟨cw, ecw⟩ : ∃ z : Int, z = ((wx * d) - (wy * c)) := ⟨_, rfl⟩
            rw [← ecw]
            refine lv_iload SS.1 SS.2.1 dX9_findSecond_83 (lv_at hl 0 rfl) ?_
            refine j_sRi SS (As := [.int (J cw), .int (J wh)]) (rest := []) (c_J9_floorDiv_7cf53 l D  cw wh (show -2147483648 < cw ∧ cw ≤ 2147483647 from (by omega)) (show 0 < wh ∧ wh ≤ 2147483647 from (by omega))) mf_J9_floorDiv_7cf53 kw_850 hG trivial rfl hl.1 ⟨⟨Nat.le_of_ble_eq_true rfl, Nat.le_of_ble_eq_true rfl⟩, Nat.le_of_ble_eq_true rfl, Nat.le_refl _, Nat.le_refl _⟩ rfl dX9_findSecond_85 (fun z_85 h_85 => ?_)
            have h_85 : z_85 = cw / wh := h_85
            refine lv_istore (lv' := [(8, .int (J z_85)), (7, .int (J wh)), (0, .ref (q 4)), (1, .int (J a)), (2, .int (J b)), (3, .int (J c)), (4, .int (J d)), (5, .int (J wx)), (6, .int (J wy))]) SS.1 SS.2.1 dX9_findSecond_88 hl (by decide) rfl (fun ls hl => ?_)
            refine lv_aload_n SS.1 SS.2.1 dX9_findSecond_90 rfl (lv_at hl 2 rfl) ?_
            refine lv_iload SS.1 SS.2.1 dX9_findSecond_91 (lv_at hl 7 rfl) ?_
            refine lv_iload SS.1 SS.2.1 dX9_findSecond_93 (lv_at hl 0 rfl) ?_
            refine lv_iload_n SS.1 SS.2.1 dX9_findSecond_95 rfl (lv_at hl 3 rfl) ?_
            refine j_imul SS (x := z_85) (y := a) dX9_findSecond_96 ?_
            refine j_isub SS (x := wx) (y := (z_85 * a)) dX9_findSecond_97 ?_
            refine j_put SS hG hP (cW_D hD) hS 4 (v := .int (J (wx - (z_85 * a)))) (ty := .int) (C := RX9) (T := TX9) (N := 6) rfl rfl inX9 tyX9 tyX9_ok nmX9 4 (by decide) (ref := "GridPolygons$Sail") kw_221 rfl rfl (by decide +kernel) rfl rfl (Nat.le_of_ble_eq_true rfl) dX9_findSecond_98 (ws' := (cW D q (sV u 8 (wx - (z_85 * a))))) rfl (fun H locs hP hS => ?_)
            refine lv_aload_n SS.1 SS.2.1 dX9_findSecond_101 rfl (lv_at hl 2 rfl) ?_
            refine lv_iload SS.1 SS.2.1 dX9_findSecond_102 (lv_at hl 8 rfl) ?_
            refine lv_iload SS.1 SS.2.1 dX9_findSecond_104 (lv_at hl 0 rfl) ?_
            refine lv_iload_n SS.1 SS.2.1 dX9_findSecond_106 rfl (lv_at hl 4 rfl) ?_
            refine j_imul SS (x := z_85) (y := b) dX9_findSecond_107 ?_
            refine j_isub SS (x := wy) (y := (z_85 * b)) dX9_findSecond_108 ?_
            refine j_put SS hG hP (cW_D hD) hS 4 (v := .int (J (wy - (z_85 * b)))) (ty := .int) (C := RX9) (T := TX9) (N := 6) rfl rfl inX9 tyX9 tyX9_ok nmX9 5 (by decide) (ref := "GridPolygons$Sail") kw_222 rfl rfl (by decide +kernel) rfl rfl (Nat.le_of_ble_eq_true rfl) dX9_findSecond_109 (ws' := (cW D q (sV (sV u 8 (wx - (z_85 * a))) 9 (wy - (z_85 * b))))) rfl (fun H locs hP hS => ?_)
            exact W.vret SS.1 SS.2.1 hr (fun t0 ht hW => ⟨⟨(sV (sV u 8 (wx - (z_85 * a))) 9 (wy - (z_85 * b))), rfl, (⟨(wx - (z_85 * a)), (wy - (z_85 * b)), rfl, sec_nx hw1 p5 (by rw [h_85, ecw, ewc]; rfl)⟩), by show va_P D.1 j_cl (cW D q (sV (sV u 8 (wx - (z_85 * a))) 9 (wy - (z_85 * b)))) t0.heap; rw [ht]; first | exact hP | (simp only [sC_id, sX_id, sY_id, sH_id, sT_id, sV_id]; exact hP)⟩, hS.F ht⟩) hS.2.2 dX9_findSecond_112 hlk
          · skip
            exfalso; omega
        · skip
          refine j_iconst SS dX9_findSecond_23 ?_
          refine lv_iload_n SS.1 SS.2.1 dX9_findSecond_24 rfl (lv_at hl 2 rfl) ?_
          refine lv_iload SS.1 SS.2.1 dX9_findSecond_25 (lv_at hl 7 rfl) ?_
          have m0 := mulb (A := 40) (B := 40) (a := b) (b := i) p1 (by omega)
          refine j_imul SS (x := b) (y := i) dX9_findSecond_27 ?_
          refine j_iadd SS (x := 1) (y := (b * i)) dX9_findSecond_28 ?_
          refine lv_iload_n SS.1 SS.2.1 dX9_findSecond_29 rfl (lv_at hl 1 rfl) ?_
          refine j_irem SS (x := (1 + (b * i))) (y := a) dX9_findSecond_30 (by omega) (by omega) (by omega) ?_
          have tc := tm_c2 (a := 1 + b * i) (n := a) p0 (by omega) (by omega)
          refine j_if_ne SS (tgt := 48) (x := (Int.tmod (1 + (b * i)) a)) dX9_findSecond_31 (by decide) (by omega) (fun c_31 => ?_) (fun c_31 => ?_)
          · skip
            refine lv_iinc (v := J (i + 1)) (lv' := [(7, .int (J (i + 1))), (0, .ref (q 4)), (1, .int (J a)), (2, .int (J b)), (3, .int (J c)), (4, .int (J d)), (5, .int (J wx)), (6, .int (J wy))]) SS.1 SS.2.1 dX9_findSecond_48 hl (k := 7) rfl (J_add _ _) (by decide) rfl (fun ls hl => ?_)
            refine lv_goto (tgt := 10) SS.1 SS.2.1 dX9_findSecond_51 (by decide) ?_
            exact ih_10 wx wy (i + 1) _ _ hP hS ls (lv_sub hl [1, 2, 3, 4, 5, 6, 7, 0] rfl) (by omega) (by first | exact fs_y (by omega) (by omega) p1 c_31 | exact fs_n (by omega) i10_1 c_31) (by omega) (by omega)
          · skip
            refine lv_iload SS.1 SS.2.1 dX9_findSecond_34 (lv_at hl 7 rfl) ?_
            refine lv_istore (lv' := [(5, .int (J i)), (0, .ref (q 4)), (1, .int (J a)), (2, .int (J b)), (3, .int (J c)), (4, .int (J d)), (6, .int (J wy)), (7, .int (J i))]) SS.1 SS.2.1 dX9_findSecond_36 hl (by decide) rfl (fun ls hl => ?_)
            refine j_iconst SS dX9_findSecond_38 ?_
            refine lv_iload_n SS.1 SS.2.1 dX9_findSecond_39 rfl (lv_at hl 3 rfl) ?_
            refine lv_iload SS.1 SS.2.1 dX9_findSecond_40 (lv_at hl 7 rfl) ?_
            refine j_imul SS (x := b) (y := i) dX9_findSecond_42 ?_
            refine j_iadd SS (x := 1) (y := (b * i)) dX9_findSecond_43 ?_
            refine lv_iload_n SS.1 SS.2.1 dX9_findSecond_44 rfl (lv_at hl 2 rfl) ?_
            refine j_idiv SS (x := (1 + (b * i))) (y := a) dX9_findSecond_45 (by omega) (by omega) (by omega) ?_
            refine lv_istore (lv' := [(6, .int (J (Int.tdiv (1 + (b * i)) a))), (5, .int (J i)), (0, .ref (q 4)), (1, .int (J a)), (2, .int (J b)), (3, .int (J c)), (4, .int (J d)), (7, .int (J i))]) SS.1 SS.2.1 dX9_findSecond_46 hl (by decide) rfl (fun ls hl => ?_)
            refine lv_iinc (v := J (i + 1)) (lv' := [(7, .int (J (i + 1))), (6, .int (J (Int.tdiv (1 + (b * i)) a))), (5, .int (J i)), (0, .ref (q 4)), (1, .int (J a)), (2, .int (J b)), (3, .int (J c)), (4, .int (J d))]) SS.1 SS.2.1 dX9_findSecond_48 hl (k := 7) rfl (J_add _ _) (by decide) rfl (fun ls hl => ?_)
            refine lv_goto (tgt := 10) SS.1 SS.2.1 dX9_findSecond_51 (by decide) ?_
            exact ih_10 i (Int.tdiv (1 + (b * i)) a) (i + 1) _ _ hP hS ls (lv_sub hl [3, 4, 5, 6, 7, 2, 1, 0] rfl) (by omega) (by first | exact fs_y (by omega) (by omega) p1 c_31 | exact fs_n (by omega) i10_1 c_31) (by omega) (by omega)
  exact L_10 (((41 : Int) - (0 : Int)).toNat + 1) (-b) 0 0 _ _ hP hS ls (lv_sub hl [3, 4, 5, 6, 7, 2, 1, 0] rfl) (by omega) (⟨by omega, by omega, fun _ => ⟨rfl, rfl⟩, fun _ => Or.inr (fun j h1 h2 => by omega)⟩) (by omega) (Nat.lt_succ_self _)

