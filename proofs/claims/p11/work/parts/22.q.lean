
def lp0 (a b : Int) : Prop := 0 < a ∨ (a = 0 ∧ 0 ≤ b)
theorem lp_lp0 {a b : Int} (h : lp a b) : lp0 a b := by unfold lp at h; unfold lp0; omega
theorem cx_tr0 {a b c d e f : Int} (h1 : lp0 a b) (h2 : lp c d) (h3 : lp0 e f) (g1 : 0 ≤ cx a b c d) (g2 : 0 ≤ cx c d e f) : 0 ≤ cx a b e f := by
  have hid := cx_id (a := a) (b := b) (c := c) (d := d) (e := e) (f := f)
  have ha : 0 ≤ a := by unfold lp0 at h1; omega
  have he : 0 ≤ e := by unfold lp0 at h3; omega
  rcases h2 with h2 | ⟨h2, h2'⟩
  · have p1 : 0 ≤ a * cx c d e f := Int.mul_nonneg ha g2
    have p2 : 0 ≤ e * cx a b c d := Int.mul_nonneg he g1
    apply Int.not_lt.mp
    intro hl
    have := Int.mul_neg_of_pos_of_neg h2 hl
    omega
  · subst h2
    unfold cx at g1 g2 ⊢
    have he0 : e = 0 := by
      by_cases q : e = 0
      · exact q
      · have : 0 < d * e := Int.mul_pos h2' (by omega)
        omega
    subst he0
    have hf : 0 ≤ f := by unfold lp0 at h3; omega
    have := Int.mul_nonneg ha hf
    omega
theorem chn_lp {X Y : Nat → Int} {t a : Nat} (h : chn (df X) (df Y) t) : ∀ k : Nat, a + k + 1 ≤ t → lp (X (a + k + 1) - X a) (Y (a + k + 1) - Y a) := by
  intro k
  induction k with
  | zero => intro hk; exact h.1 a (by omega)
  | succ k ih =>
    intro hk
    have h1 := ih (by omega)
    have h2 := h.1 (a + k + 1) (by omega)
    unfold df at h2
    unfold lp at *
    rw [show a + (k + 1) + 1 = a + k + 1 + 1 by omega]
    omega
theorem chn_in {X Y : Nat → Int} {t e k : Nat} (h : chn (df X) (df Y) t) (he : e < t) (hk : k ≤ t) : 0 ≤ cx (df X e) (df Y e) (X k - X e) (Y k - Y e) := by
  have e1 : cx (df X e) (df Y e) (X k - X e) (Y k - Y e) = tn X Y e (e + 1) k := rfl
  rw [e1]
  by_cases c1 : k < e
  · have := chn_t h (i := k) (j := e) (k := e + 1) c1 (by omega) (by omega)
    rw [tn_rot, tn_rot] at this; omega
  · by_cases c2 : k = e
    · subst c2; unfold tn; rw [Int.sub_self, Int.sub_self]; omega
    · by_cases c3 : k = e + 1
      · subst c3; unfold tn; rw [Int.mul_comm]; omega
      · have := chn_t h (i := e) (j := e + 1) (k := k) (by omega) (by omega) (by omega)
        omega
theorem cvx_g {X Y : Nat → Int} {t e : Nat} {qx qy : Int} (h : chn (df X) (df Y) t) (hd : 0 ≤ cx (X t - X 0) (Y t - Y 0) (qx - X 0) (qy - Y 0)) (h1 : lp0 (qx - X 0) (qy - Y 0)) (h2 : lp0 (X t - qx) (Y t - qy)) (he : e < t) : 0 ≤ cx (df X e) (df Y e) (qx - X e) (qy - Y e) := by
  have hA := chn_in h he (k := 0) (by omega)
  have hB := chn_in h he (k := t) (by omega)
  have hlp := h.1 e he
  have hdl : lp (X t - X 0) (Y t - Y 0) := by
    have := chn_lp (a := 0) h (t - 1) (by omega)
    rw [show 0 + (t - 1) + 1 = t by omega] at this
    exact this
  by_cases hc : 0 ≤ cx (df X e) (df Y e) (X t - X 0) (Y t - Y 0)
  · have g := cx_tr0 (lp_lp0 hlp) hdl h1 hc hd
    have e1 : cx (df X e) (df Y e) (qx - X e) (qy - Y e) = cx (df X e) (df Y e) (qx - X 0) (qy - Y 0) + cx (df X e) (df Y e) (X 0 - X e) (Y 0 - Y e) := by
      rw [← cx_add]; congr 1 <;> omega
    omega
  · have e2 : cx (X t - qx) (Y t - qy) (X t - X 0) (Y t - Y 0) = cx (X t - X 0) (Y t - Y 0) (qx - X 0) (qy - Y 0) := by unfold cx; grind
    have e3 : cx (X t - X 0) (Y t - Y 0) (df X e) (df Y e) = -cx (df X e) (df Y e) (X t - X 0) (Y t - Y 0) := by unfold cx; grind
    have g := cx_tr0 h2 hdl (lp_lp0 hlp) (by rw [e2]; exact hd) (by rw [e3]; omega)
    have e4 : cx (df X e) (df Y e) (qx - X e) (qy - Y e) = cx (X t - qx) (Y t - qy) (df X e) (df Y e) + cx (df X e) (df Y e) (X t - X e) (Y t - Y e) := by unfold cx; grind
    omega
/-- the chains of a hull, the greatest corner told -/
def ChT (t : Nat) (n : Int) (X Y : Nat → Int) : Prop := 1 ≤ t ∧ (t : Int) < n ∧ (∀ a : Nat, a < t → lt2 (X a) (Y a) (X (a + 1)) (Y (a + 1))) ∧ lft X Y 0 ((t : Int) + 1) ∧ (∀ a : Nat, t ≤ a → (a : Int) < n → lt2 (X (a + 1)) (Y (a + 1)) (X a) (Y a)) ∧ lft X Y t (n + 1) ∧ X n.toNat = X 0 ∧ Y n.toNat = Y 0
/-- the half turn of the upper chain -/
def rt (t : Nat) (X : Nat → Int) : Nat → Int := fun a => -X (t + a)
theorem ChT_lo {t : Nat} {n : Int} {X Y : Nat → Int} (h : ChT t n X Y) : chn (df X) (df Y) t := chn_lo h.2.2.1 h.2.2.2.1
theorem ChT_up {t : Nat} {n : Int} {X Y : Nat → Int} (h : ChT t n X Y) : chn (df (rt t X)) (df (rt t Y)) (n.toNat - t) := chn_up h.2.2.2.2.1 h.2.2.2.2.2.1
theorem ChT_dec {t : Nat} {n : Int} {X Y : Nat → Int} (h : ChT t n X Y) {a b : Nat} (h1 : t ≤ a) (h2 : a < b) (h3 : (b : Int) ≤ n) : lt2 (X b) (Y b) (X a) (Y a) := by
  have := dec_lt (X := X) (Y := Y) (t := t) (h := n + 1) (fun a h1 h2 => h.2.2.2.2.1 a (by omega) (by omega)) (b - a - 1) a (by omega) (by omega)
  rw [show a + (b - a - 1) + 1 = b by omega] at this
  exact this
theorem ChT_inc {t : Nat} {n : Int} {X Y : Nat → Int} (h : ChT t n X Y) {a b : Nat} (h2 : a < b) (h3 : b ≤ t) : lt2 (X a) (Y a) (X b) (Y b) := by
  have := os_lt (f := X) (g := Y) (n := (t : Int) + 1) (fun a h1 => h.2.2.1 a (by omega)) (b - a - 1) a (by omega)
  rw [show a + (b - a - 1) + 1 = b by omega] at this
  exact this
/-- all corners are to the left of all sides -/
theorem cvx {t : Nat} {n : Int} {X Y : Nat → Int} (h : ChT t n X Y) {e k : Nat} (he : (e : Int) < n) (hk : (k : Int) ≤ n) : 0 ≤ cx (df X e) (df Y e) (X k - X e) (Y k - Y e) := by
  have hlo := ChT_lo h
  have hup := ChT_up h
  have h0 := h.1
  have h1 := h.2.1
  have eN : X n.toNat = X 0 ∧ Y n.toNat = Y 0 := h.2.2.2.2.2.2
  by_cases ce : e < t
  · by_cases ck : k ≤ t
    · exact chn_in hlo ce ck
    · refine cvx_g hlo ?_ ?_ ?_ ce
      · by_cases cn : (k : Int) = n
        · rw [show k = n.toNat by omega, eN.1, eN.2, Int.sub_self, Int.sub_self]
          unfold cx; omega
        · have := chn_t hup (i := 0) (j := k - t) (k := n.toNat - t) (by omega) (by omega) (by omega)
          unfold tn rt at this
          rw [show t + 0 = t by omega, show t + (k - t) = k by omega, show t + (n.toNat - t) = n.toNat by omega, eN.1, eN.2] at this
          have e1 : cx (X t - X 0) (Y t - Y 0) (X k - X 0) (Y k - Y 0) = (-X k - -X t) * (-Y 0 - -Y t) - (-Y k - -Y t) * (-X 0 - -X t) := by unfold cx; grind
          omega
      · by_cases cn : (k : Int) = n
        · rw [show k = n.toNat by omega, eN.1, eN.2]; unfold lp0; omega
        · have := ChT_dec h (a := k) (b := n.toNat) (by omega) (by omega) (by omega)
          rw [eN.1, eN.2] at this
          unfold lt2 at this; unfold lp0; omega
      · have := ChT_dec h (a := t) (b := k) (by omega) (by omega) (by omega)
        unfold lt2 at this; unfold lp0; omega
  · have ed : df (rt t X) (e - t) = -df X e ∧ df (rt t Y) (e - t) = -df Y e := by
      unfold df rt
      rw [show t + (e - t + 1) = e + 1 by omega, show t + (e - t) = e by omega]
      omega
    have main : 0 ≤ cx (df (rt t X) (e - t)) (df (rt t Y) (e - t)) (-X k - rt t X (e - t)) (-Y k - rt t Y (e - t)) := by
      by_cases ck : t ≤ k
      · have := chn_in hup (e := e - t) (k := k - t) (by omega) (by omega)
        rw [show rt t X (k - t) = -X k by unfold rt; rw [show t + (k - t) = k by omega], show rt t Y (k - t) = -Y k by unfold rt; rw [show t + (k - t) = k by omega]] at this
        exact this
      · have r0 : rt t X 0 = -X t ∧ rt t Y 0 = -Y t := ⟨rfl, rfl⟩
        have rN : rt t X (n.toNat - t) = -X 0 ∧ rt t Y (n.toNat - t) = -Y 0 := by
          unfold rt
          rw [show t + (n.toNat - t) = n.toNat by omega, eN.1, eN.2]
          exact ⟨rfl, rfl⟩
        have hi := ChT_inc h (a := k) (b := t) (by omega) (by omega)
        refine cvx_g hup ?_ ?_ ?_ (by omega)
        · rw [r0.1, r0.2, rN.1, rN.2]
          by_cases k0 : k = 0
          · subst k0; unfold cx; rw [Int.mul_comm]; omega
          · have := chn_t hlo (i := 0) (j := k) (k := t) (by omega) (by omega) (by omega)
            have e1 : cx (-X 0 - -X t) (-Y 0 - -Y t) (-X k - -X t) (-Y k - -Y t) = tn X Y 0 k t := by unfold cx tn; grind
            omega
        · rw [r0.1, r0.2]
          unfold lt2 at hi; unfold lp0; omega
        · rw [rN.1, rN.2]
          by_cases k0 : k = 0
          · subst k0; unfold lp0; omega
          · have h00 := ChT_inc h (a := 0) (b := k) (by omega) (by omega)
            unfold lt2 at h00; unfold lp0; omega
    rw [ed.1, ed.2, show rt t X (e - t) = -X e by unfold rt; rw [show t + (e - t) = e by omega], show rt t Y (e - t) = -Y e by unfold rt; rw [show t + (e - t) = e by omega], show -X k - -X e = -(X k - X e) by omega, show -Y k - -Y e = -(Y k - Y e) by omega, cx_neg] at main
    exact main
theorem btw {p a b : Int} (h : (p - a) * (p - b) ≤ 0) (hab : a < b) : a ≤ p ∧ p ≤ b := by
  refine ⟨?_, ?_⟩
  · apply Int.not_lt.mp; intro hl
    have := Int.mul_pos_of_neg_of_neg (show p - a < 0 by omega) (show p - b < 0 by omega)
    omega
  · apply Int.not_lt.mp; intro hl
    have := Int.mul_pos (show 0 < p - a by omega) (show 0 < p - b by omega)
    omega
theorem seg1 {ax ay x0 y0 x1 y1 px py ex ey : Int} (h0 : 0 ≤ cx ax ay (x0 - ex) (y0 - ey)) (h1 : 0 ≤ cx ax ay (x1 - ex) (y1 - ey)) (hc : (x1 - x0) * (py - y0) - (y1 - y0) * (px - x0) = 0) (hx : x0 ≤ px ∧ px ≤ x1) (hl : x0 < x1) : 0 ≤ cx ax ay (px - ex) (py - ey) := by
  have e : (x1 - x0) * cx ax ay (px - ex) (py - ey) = (x1 - px) * cx ax ay (x0 - ex) (y0 - ey) + (px - x0) * cx ax ay (x1 - ex) (y1 - ey) + ax * ((x1 - x0) * (py - y0) - (y1 - y0) * (px - x0)) := by unfold cx; grind
  rw [hc] at e
  have p1 := Int.mul_nonneg (show 0 ≤ x1 - px by omega) h0
  have p2 := Int.mul_nonneg (show 0 ≤ px - x0 by omega) h1
  apply Int.not_lt.mp; intro hn
  have := Int.mul_neg_of_pos_of_neg (show 0 < x1 - x0 by omega) hn
  omega
theorem seg2 {ax ay x0 y0 x1 y1 px py ex ey : Int} (h0 : 0 ≤ cx ax ay (x0 - ex) (y0 - ey)) (h1 : 0 ≤ cx ax ay (x1 - ex) (y1 - ey)) (hc : (x1 - x0) * (py - y0) - (y1 - y0) * (px - x0) = 0) (hx : y0 ≤ py ∧ py ≤ y1) (hl : y0 < y1) : 0 ≤ cx ax ay (px - ex) (py - ey) := by
  have e : (y1 - y0) * cx ax ay (px - ex) (py - ey) = (y1 - py) * cx ax ay (x0 - ex) (y0 - ey) + (py - y0) * cx ax ay (x1 - ex) (y1 - ey) + ay * ((x1 - x0) * (py - y0) - (y1 - y0) * (px - x0)) := by unfold cx; grind
  rw [hc] at e
  have p1 := Int.mul_nonneg (show 0 ≤ y1 - py by omega) h0
  have p2 := Int.mul_nonneg (show 0 ≤ py - y0 by omega) h1
  apply Int.not_lt.mp; intro hn
  have := Int.mul_neg_of_pos_of_neg (show 0 < y1 - y0 by omega) hn
  omega
/-- a point on a segment is where its ends are -/
theorem seg {ax ay x0 y0 x1 y1 px py ex ey : Int} (h0 : 0 ≤ cx ax ay (x0 - ex) (y0 - ey)) (h1 : 0 ≤ cx ax ay (x1 - ex) (y1 - ey)) (hc : (x1 - x0) * (py - y0) - (y1 - y0) * (px - x0) = 0) (hx : (px - x0) * (px - x1) ≤ 0) (hy : (py - y0) * (py - y1) ≤ 0) (hne : x1 ≠ x0 ∨ y1 ≠ y0) : 0 ≤ cx ax ay (px - ex) (py - ey) := by
  have hc2 : (x0 - x1) * (py - y1) - (y0 - y1) * (px - x1) = 0 := by rw [← hc]; grind
  by_cases a : x0 < x1
  · exact seg1 h0 h1 hc (btw hx a) a
  · by_cases b : x1 < x0
    · exact seg1 h1 h0 hc2 (btw (by rw [Int.mul_comm]; exact hx) b) b
    · by_cases c : y0 < y1
      · exact seg2 h0 h1 hc (btw hy c) c
      · have d : y1 < y0 := by omega
        exact seg2 h1 h0 hc2 (btw (by rw [Int.mul_comm]; exact hy) d) d
theorem LoP_le {X Y : Nat → Int} {e : Nat} {x l y : Int} (h : LoP X Y e x l) (hc : 0 ≤ cx (df X e) (df Y e) (x - X e) (y - Y e)) : l ≤ y := by
  obtain ⟨h1, _, _, h2, _⟩ := h
  unfold cx df at hc
  have e1 : (X (e + 1) - X e) * (y - Y e) = (X (e + 1) - X e) * y - (X (e + 1) - X e) * Y e := Int.mul_sub _ _ _
  have e2 : (Y (e + 1) - Y e) * (x - X e) = (x - X e) * (Y (e + 1) - Y e) := Int.mul_comm _ _
  rw [e1, e2] at hc
  have h3 : (X (e + 1) - X e) * (l - 1) < (X (e + 1) - X e) * y := by omega
  have h4 := Int.lt_of_mul_lt_mul_left h3 (show 0 ≤ X (e + 1) - X e by omega)
  omega
theorem LU2 {D d F xe ye xf yf xg yg x l u : Int} (hD : 0 < D) (hF : F = xf - xg) (hF0 : 0 < F) (hx : xg ≤ x ∧ x ≤ xf) (h1 : D * (l - 1) < D * ye + (x - xe) * d) (h2 : F * (-u - 1) < F * -yf + (xf - x) * (yf - yg)) (c1 : 0 ≤ D * (yf - ye) - d * (xf - xe)) (c2 : 0 ≤ D * (yg - ye) - d * (xg - xe)) : l ≤ u + 1 := by
  apply Int.not_lt.mp; intro hl
  have p1 := Int.mul_nonneg (show 0 ≤ x - xg by omega) c1
  have p2 := Int.mul_nonneg (show 0 ≤ xf - x by omega) c2
  have e1 : (x - xg) * (D * (yf - ye) - d * (xf - xe)) + (xf - x) * (D * (yg - ye) - d * (xg - xe)) = D * (F * yf - (xf - x) * (yf - yg)) - F * (D * ye + (x - xe) * d) := by rw [hF]; grind
  have q1 := Int.mul_lt_mul_of_pos_left h1 hF0
  have q2 := Int.mul_lt_mul_of_pos_left h2 hD
  have e2 : D * (F * (-u - 1)) = -(D * F * (u + 1)) := by grind
  have e3 : D * (F * -yf + (xf - x) * (yf - yg)) = -(D * (F * yf - (xf - x) * (yf - yg))) := by grind
  have e4 : F * (D * (l - 1)) = D * F * (l - 1) := by grind
  have q3 : D * F * (u + 1) ≤ D * F * (l - 1) := Int.mul_le_mul_of_nonneg_left (by omega) (Int.mul_nonneg (by omega) (by omega))
  omega
theorem sm_tel {f : Nat → Int} (n : Nat) : sm (fun e => f (e + 1) - f e) n = f n - f 0 := by
  induction n with
  | zero => show (0 : Int) = f 0 - f 0; omega
  | succ n ih => show sm (fun e => f (e + 1) - f e) n + (f (n + 1) - f n) = _; rw [ih]; omega
theorem smI_rev {f : Int → Int} {n : Int} (hn : 0 ≤ n) : smI (fun k => f (n - 1 - k)) n = smI f n := by
  unfold smI
  rw [← sm_rev (f := fun a : Nat => f (a : Int))]
  refine sm_c (fun i hi => ?_)
  show f (n - 1 - (i : Int)) = f ((n.toNat - 1 - i : Nat) : Int)
  rw [show ((n.toNat - 1 - i : Nat) : Int) = n - 1 - (i : Int) by omega]
def gE (X Y : Nat → Int) (e : Nat) : Int := -((X (e + 1) - X e) * (Y e + Y (e + 1))) + (Int.gcd (X (e + 1) - X e) (Y (e + 1) - Y e) : Int)
/-- Pick's count, by columns -/
theorem pick {t : Nat} {n : Int} {X Y : Nat → Int} (h : ChT t n X Y) (hn : 2 < n) : X 0 ≤ X t ∧ ∃ L U : Int → Int, 2 * cb_ L U (X 0) (X t + 1 - X 0) = sm (gE X Y) n.toNat + 2 ∧ ∀ x, X 0 ≤ x → x ≤ X t → L x ≤ U x + 1 ∧ ∀ y, (∀ e : Nat, (e : Int) < n → 0 ≤ cx (df X e) (df Y e) (x - X e) (y - Y e)) → L x ≤ y ∧ y ≤ U x := by
  have hlo := ChT_lo h
  have hup := ChT_up h
  have h0 := h.1
  have h1 := h.2.1
  have eN : X n.toNat = X 0 ∧ Y n.toNat = Y 0 := h.2.2.2.2.2.2
  have r0 : rt t X 0 = -X t ∧ rt t Y 0 = -Y t := ⟨rfl, rfl⟩
  have rN : rt t X (n.toNat - t) = -X 0 ∧ rt t Y (n.toNat - t) = -Y 0 := by
    unfold rt
    rw [show t + (n.toNat - t) = n.toNat by omega, eN.1, eN.2]
    exact ⟨rfl, rfl⟩
  have hX : X 0 < X t := by
    have i1 := ChT_inc h (a := 0) (b := t) (by omega) (by omega)
    by_cases e : X 0 < X t
    · exact e
    · exfalso
      have e0 : X 0 = X t := by unfold lt2 at i1; omega
      by_cases t1 : 1 < t
      · have := chn_st hlo (a := 0) (by omega)
        have i2 := ChT_inc h (a := 0 + 1) (b := t) (by omega) (by omega)
        unfold lt2 at i2; omega
      · have := chn_st hup (a := 0) (by omega)
        have i2 := ChT_dec h (a := t + 1) (b := n.toNat) (by omega) (by omega) (by omega)
        rw [eN.1, eN.2] at i2
        unfold rt at this
        rw [show t + 0 = t by omega, show t + (0 + 1) = t + 1 by omega] at this
        unfold lt2 at i2; omega
  obtain ⟨L, l1, l2⟩ := CL t h0 hlo hX
  obtain ⟨M, m1, m2⟩ := CL (n.toNat - t) (by omega) hup (by rw [r0.1, rN.1]; omega)
  rw [r0.1, r0.2, rN.1, rN.2, show -X 0 + 1 - -X t = X t + 1 - X 0 by omega] at m1
  rw [r0.1, rN.1] at m2
  refine ⟨by omega, L, fun x => -M (-x), ?_, fun x x1 x2 => ?_⟩
  · have em : smI (fun k => M (-(X 0 + k))) (X t + 1 - X 0) = smI (fun k => M (-X t + k)) (X t + 1 - X 0) := by
      rw [← smI_rev (f := fun k => M (-X t + k)) (by omega)]
      refine smI_c (fun i _ _ => ?_)
      show M (-(X 0 + i)) = M (-X t + (X t + 1 - X 0 - 1 - i))
      congr 1; omega
    have ecb : cb_ L (fun x => -M (-x)) (X 0) (X t + 1 - X 0) + smI (fun k => M (-(X 0 + k))) (X t + 1 - X 0) + smI (fun k => L (X 0 + k)) (X t + 1 - X 0) = X t + 1 - X 0 := by
      have ek := sm_k (c := 1) (X t + 1 - X 0).toNat
      unfold cb_ smI
      rw [← sm_add, ← sm_add]
      rw [show (((X t + 1 - X 0).toNat : Nat) : Int) * 1 = X t + 1 - X 0 by omega] at ek
      refine (sm_c (g := fun _ => (1 : Int)) (fun i _ => ?_)).trans ek
      show -M (-(X 0 + (i : Int))) + 1 - L (X 0 + (i : Int)) + M (-(X 0 + (i : Int))) + L (X 0 + (i : Int)) = 1
      omega
    rw [em] at ecb
    have s1 : sm (gE X Y) t + sm (EQ X Y) t = X t - X 0 := by
      rw [← sm_add, ← sm_tel]
      refine sm_c (fun i _ => ?_)
      show gE X Y i + EQ X Y i = X (i + 1) - X i
      unfold gE EQ; omega
    have s2 : sm (fun i => gE X Y (t + i)) (n.toNat - t) + sm (EQ (rt t X) (rt t Y)) (n.toNat - t) = X t - X 0 := by
      have st := sm_tel (f := rt t X) (n.toNat - t)
      rw [r0.1, rN.1] at st
      rw [show X t - X 0 = -X 0 - -X t by omega, ← st, ← sm_add]
      refine sm_c (fun i _ => ?_)
      show gE X Y (t + i) + EQ (rt t X) (rt t Y) i = rt t X (i + 1) - rt t X i
      unfold gE EQ rt
      rw [show t + (i + 1) = t + i + 1 by omega, show -X (t + i + 1) - -X (t + i) = -(X (t + i + 1) - X (t + i)) by omega, show -Y (t + i + 1) - -Y (t + i) = -(Y (t + i + 1) - Y (t + i)) by omega, show -Y (t + i) + -Y (t + i + 1) = -(Y (t + i) + Y (t + i + 1)) by omega, Int.gcd_neg, Int.neg_gcd, Int.neg_mul_neg]
      omega
    have s3 := sm_sp (f := gE X Y) (a := t) (n.toNat - t)
    rw [show t + (n.toNat - t) = n.toNat by omega] at s3
    omega
  · obtain ⟨e, e1, e2⟩ := l2 x x1 x2
    obtain ⟨f, f1, f2⟩ := m2 (-x) (by omega) (by omega)
    refine ⟨?_, fun y hy => ⟨LoP_le e2 (hy e (by omega)), ?_⟩⟩
    · obtain ⟨a1, a2, a3, a4, a5⟩ := e2
      obtain ⟨b1, b2, b3, b4, b5⟩ := f2
      unfold rt at b1 b2 b3 b4
      rw [show t + (f + 1) = t + f + 1 by omega] at b1 b3 b4
      have c1 := cvx h (e := e) (k := t + f) (by omega) (by omega)
      have c2 := cvx h (e := e) (k := t + f + 1) (by omega) (by omega)
      unfold cx df at c1 c2
      refine LU2 (F := X (t + f) - X (t + f + 1)) (show 0 < X (e + 1) - X e by omega) rfl (by omega) (show X (t + f + 1) ≤ x ∧ x ≤ X (t + f) by omega) a4 ?_ c1 c2
      rw [show -X (t + f + 1) - -X (t + f) = X (t + f) - X (t + f + 1) by omega, show -x - -X (t + f) = X (t + f) - x by omega, show -Y (t + f + 1) - -Y (t + f) = Y (t + f) - Y (t + f + 1) by omega] at b4
      rw [show - -M (-x) - 1 = M (-x) - 1 by omega]
      exact b4
    · have hc := hy (t + f) (by omega)
      have hq : M (-x) ≤ -y := by
        refine LoP_le f2 ?_
        unfold df rt
        unfold df at hc
        rw [show t + (f + 1) = t + f + 1 by omega, show -X (t + f + 1) - -X (t + f) = -(X (t + f + 1) - X (t + f)) by omega, show -Y (t + f + 1) - -Y (t + f) = -(Y (t + f + 1) - Y (t + f)) by omega, show -x - -X (t + f) = -(x - X (t + f)) by omega, show -y - -Y (t + f) = -(y - Y (t + f)) by omega, cx_neg]
        exact hc
      show y ≤ -M (-x)
      omega
/-- what wR says of a point: it is not to the right of any side -/
theorem wR_in {u : MS} {s x y z : Int} (h : Sh u s) (hn : 2 < mN u s) (hw : wR u s x y z) (hz : 0 < z) : ∀ e : Nat, (e : Int) < mN u s → 0 ≤ cx (df (fun a => mX u s a) e) (df (fun a => mY u s a) e) (x - mX u s e) (y - mY u s e) := by
  intro e he
  rcases hw with ⟨hw, _⟩ | ⟨_, hw⟩
  · omega
  · rcases hw with ⟨_, hw⟩ | ⟨_, _, hw, _⟩ | ⟨hw, _⟩
    · obtain ⟨i, i0, i1, i2, i3, i4⟩ := hw
      rcases h.2.2 with hc | ⟨t, hc⟩
      · omega
      · have hc : ChT t (mN u s) (fun a => mX u s a) (fun a => mY u s a) := hc
        have c1 := cvx hc he (k := i.toNat) (by omega)
        have c2 := cvx hc he (k := i.toNat + 1) (by omega)
        have hne := Ch_ne (Or.inr ⟨t, hc⟩) (by omega) (a := i.toNat) (by omega)
        try dsimp only at c1 c2 hne
        rw [show ((i.toNat + 1 : Nat) : Int) = i + 1 by omega] at c2 hne
        rw [show ((i.toNat : Nat) : Int) = i by omega] at c1 hne
        exact seg c1 c2 i2 i3 i4 hne
    · have := hw (e : Int) (by omega) he
      unfold wcr at this
      unfold df
      dsimp only
      rw [show ((e + 1 : Nat) : Int) = (e : Int) + 1 by omega]
      exact this
    · omega
/-- no more points than Pick says -/
theorem fa_pick {u : MS} {s n lo hi : Int} (h : Sh u s) (hn : 2 < mN u s) (hx : (∀ k : Int, 0 ≤ k → k < mN u s → lo ≤ mX u s k ∧ mX u s k ≤ hi) ∧ (∃ k : Int, 0 ≤ k ∧ k < mN u s ∧ mX u s k = lo) ∧ ∃ k : Int, 0 ≤ k ∧ k < mN u s ∧ mX u s k = hi) (hL : ∀ L U : Int → Int, LU u s lo hi L U → n ≤ cb_ L U lo (hi + 1 - lo) ∨ hi < lo ∧ n = 0) : n ≤ mEd u s + mIn u s := by
  rcases h.2.2 with hc | ⟨t, hc⟩
  · omega
  · have hc : ChT t (mN u s) (fun a => mX u s a) (fun a => mY u s a) := hc
    obtain ⟨hle, L, U, q1, q2⟩ := pick hc hn
    have h1 := hc.1
    have h2 := hc.2.1
    have eN : mX u s ((mN u s).toNat : Nat) = mX u s ((0 : Nat) : Int) ∧ mY u s ((mN u s).toNat : Nat) = mY u s ((0 : Nat) : Int) := hc.2.2.2.2.2.2
    have hb : ∀ k : Int, 0 ≤ k → k < mN u s → mX u s 0 ≤ mX u s k ∧ mX u s k ≤ mX u s t := by
      intro k k0 k1
      by_cases a : k < t
      · have i2 := ChT_inc hc (a := k.toNat) (b := t) (by omega) (by omega)
        try dsimp only at i2
        rw [show ((k.toNat : Nat) : Int) = k by omega] at i2
        by_cases k00 : k = 0
        · subst k00; unfold lt2 at i2; omega
        · have i1 := ChT_inc hc (a := 0) (b := k.toNat) (by omega) (by omega)
          try dsimp only at i1
          rw [show ((k.toNat : Nat) : Int) = k by omega] at i1
          have e0 : ((0 : Nat) : Int) = 0 := rfl
          rw [e0] at i1
          unfold lt2 at i1 i2; omega
      · have i2 := ChT_dec hc (a := k.toNat) (b := (mN u s).toNat) (by omega) (by omega) (by omega)
        rw [eN.1, eN.2] at i2
        try dsimp only at i2
        have e0 : ((0 : Nat) : Int) = 0 := rfl
        rw [show ((k.toNat : Nat) : Int) = k by omega, e0] at i2
        by_cases kt : k = t
        · subst kt; unfold lt2 at i2; omega
        · have i1 := ChT_dec hc (a := t) (b := k.toNat) (by omega) (by omega) (by omega)
          try dsimp only at i1
          rw [show ((k.toNat : Nat) : Int) = k by omega] at i1
          unfold lt2 at i1 i2; omega
    have elo : lo = mX u s 0 := by
      obtain ⟨k, k0, k1, k2⟩ := hx.2.1
      have a1 := hb k k0 k1
      have a2 := hx.1 0 (by omega) (by omega)
      omega
    have ehi : hi = mX u s t := by
      obtain ⟨k, k0, k1, k2⟩ := hx.2.2
      have a1 := hb k k0 k1
      have a2 := hx.1 t (by omega) (by omega)
      omega
    have hq := hL L U ⟨fun x y z x1 x2 hw hz => by
      have := (q2 x (by show mX u s 0 ≤ x; omega) (by show x ≤ mX u s t; omega)).2 y (wR_in h hn hw hz)
      exact this, fun x x1 x2 => (q2 x (by show mX u s 0 ≤ x; omega) (by show x ≤ mX u s t; omega)).1⟩
    try dsimp only at hle
    have hle : mX u s 0 ≤ mX u s t := hle
    rw [elo, ehi] at hq
    have q1 : 2 * cb_ L U (mX u s 0) (mX u s t + 1 - mX u s 0) = sm (gE (fun a => mX u s a) (fun a => mY u s a)) (mN u s).toNat + 2 := q1
    have eA : sm (gE (fun a => mX u s a) (fun a => mY u s a)) (mN u s).toNat = mAr u s + mEd u s := by
      unfold mEd mAr
      rw [if_neg (by omega), if_neg (by omega)]
      unfold smI
      show _ = sm (fun i : Nat => mX u s (i : Int) * mY u s ((i : Int) + 1) - mX u s ((i : Int) + 1) * mY u s (i : Int)) (mN u s).toNat + sm (fun i : Nat => mS u s (i : Int)) (mN u s).toNat
      have ht := sm_tel (f := fun e : Nat => mX u s e * mY u s e) (mN u s).toNat
      have e0 : mX u s ((mN u s).toNat : Nat) * mY u s ((mN u s).toNat : Nat) - mX u s ((0 : Nat) : Int) * mY u s ((0 : Nat) : Int) = 0 := by
        have a1 := eN.1
        have a2 := eN.2
        try dsimp only at a1 a2
        rw [a1, a2]; omega
      have ht : sm (fun e : Nat => mX u s ((e + 1 : Nat) : Int) * mY u s ((e + 1 : Nat) : Int) - mX u s e * mY u s e) (mN u s).toNat = 0 := by rw [← e0]; exact ht
      have es : sm (gE (fun a => mX u s a) (fun a => mY u s a)) (mN u s).toNat + sm (fun e : Nat => mX u s ((e + 1 : Nat) : Int) * mY u s ((e + 1 : Nat) : Int) - mX u s e * mY u s e) (mN u s).toNat = sm (fun i : Nat => mX u s (i : Int) * mY u s ((i : Int) + 1) - mX u s ((i : Int) + 1) * mY u s (i : Int)) (mN u s).toNat + sm (fun i : Nat => mS u s (i : Int)) (mN u s).toNat := by
        rw [← sm_add, ← sm_add]
        refine sm_c (fun i _ => ?_)
        show gE (fun a => mX u s a) (fun a => mY u s a) i + (mX u s ((i + 1 : Nat) : Int) * mY u s ((i + 1 : Nat) : Int) - mX u s i * mY u s i) = _
        unfold gE mS
        dsimp only
        rw [show ((i + 1 : Nat) : Int) = (i : Int) + 1 by omega]
        grind
      omega
    unfold mIn
    rw [if_pos hn]
    have e2 : mAr u s - mEd u s + 2 = (cb_ L U (mX u s 0) (mX u s t + 1 - mX u s 0) - mEd u s) * 2 := by omega
    rw [e2, Int.mul_tdiv_cancel _ (by decide)]
    omega

