
/-! ===== parts: the class ===== -/
abbrev inF9 (l b w h x y : Int) : Prop := (l ≤ x ∧ x < l + w) ∧ b ≤ y ∧ y < b + h
def ixF (l b h x y : Int) : Int := (x - l) * h + (y - b)
theorem ixF_r {l b w h x y : Int} (hw : w ≤ 81) (hh : h ≤ 81) (i : inF9 l b w h x y) : 0 ≤ ixF l b h x y ∧ ixF l b h x y < 6561 := by
  unfold inF9 at i
  unfold ixF
  have m1 := mulb (A := 80) (B := 81) (a := x - l) (b := h) (by omega) (by omega)
  have m2 := Int.mul_nonneg (show 0 ≤ x - l by omega) (show 0 ≤ h by omega)
  omega
theorem ixF_u {l b w h x y x' y' : Int} (i : inF9 l b w h x y) (i' : inF9 l b w h x' y') (e : ixF l b h x y = ixF l b h x' y') : x = x' ∧ y = y' := by
  unfold inF9 at i i'
  unfold ixF at e
  have d : (x' - l) * h - (x - l) * h = (x' - x) * h := by grind
  rcases Int.lt_trichotomy x x' with w1 | w1 | w1
  · have m := Int.mul_le_mul_of_nonneg_right (show 1 ≤ x' - x by omega) (show 0 ≤ h by omega)
    omega
  · subst w1
    exact ⟨rfl, by omega⟩
  · have m := Int.mul_le_mul_of_nonneg_right (show 1 ≤ x - x' by omega) (show 0 ≤ h by omega)
    have d2 : (x - x') * h = -((x' - x) * h) := by grind
    omega
def arF (f : Nat → Int64) (l b w h x y : Int) : Int64 := if inF9 l b w h x y then f (ixF l b h x y).toNat else 0
theorem arF_p {f : Nat → Int64} {l b w h x y : Int} (i : inF9 l b w h x y) : arF f l b w h x y = f (ixF l b h x y).toNat := if_pos i
theorem arF_n {f : Nat → Int64} {l b w h x y : Int} (i : ¬ inF9 l b w h x y) : arF f l b w h x y = 0 := if_neg i
/-- who steps out of the frame does not come back on the same line -/
theorem out_F {l b w h x y dx dy : Int} (i : inF9 l b w h x y) (o : ¬ inF9 l b w h (x - dx) (y - dy)) (t : Nat) : ¬ inF9 l b w h (x - dx - (t : Int) * dx) (y - dy - (t : Int) * dy) := fun q => o (by
  unfold inF9 at i q ⊢
  have k : ∀ d : Int, (0 ≤ d ∧ 0 ≤ (t : Int) * d) ∨ (d ≤ 0 ∧ (t : Int) * d ≤ 0) := fun d => by
    rcases (show 0 ≤ d ∨ d ≤ 0 by omega) with w1 | w1
    · exact Or.inl ⟨w1, Int.mul_nonneg (by omega) w1⟩
    · refine Or.inr ⟨w1, ?_⟩
      have := Int.mul_nonneg (show 0 ≤ (t : Int) by omega) (show 0 ≤ -d by omega)
      rw [Int.mul_neg] at this
      omega
  have k1 := k dx
  have k2 := k dy
  omega)
theorem stw_out {f : Nat → Int64} {l b w h x y dx dy : Int} (i : inF9 l b w h x y) (o : ¬ inF9 l b w h (x - dx) (y - dy)) (s : Nat) : stw (arF f l b w h) dx dy s (x - dx) (y - dy) = 0 :=
  (stw_c (N' := fun _ _ => 0) s _ _ (fun t _ => arF_n (out_F i o t))).trans (stw_0 s _ _)
/-- the places of the frame that are told anew hold the new ways -/
def SP9 (f n : Nat → Int64) (l b w h dx dy : Int) (s : Nat) (P : Int → Int → Prop) : Prop := ∀ x y : Int, inF9 l b w h x y → P x y → n (ixF l b h x y).toNat = stw (arF f l b w h) dx dy s x y
/-- before a place in the order of telling -/
def pr9 (rs x y : Int) : Int → Int → Prop := fun x' y' => (rs = 1 ∧ (x' < x ∨ (x' = x ∧ y' < y))) ∨ (rs = 0 ∧ (x < x' ∨ (x' = x ∧ y < y')))
theorem SP9_c {f n : Nat → Int64} {l b w h dx dy : Int} {s : Nat} {P P' : Int → Int → Prop} (H : SP9 f n l b w h dx dy s P) (hp : ∀ x y : Int, inF9 l b w h x y → P' x y → P x y) : SP9 f n l b w h dx dy s P' := fun x y i p => H x y i (hp x y i p)
theorem SP9_s {f n : Nat → Int64} {l b w h dx dy rs x y : Int} {s : Nat} {P' : Int → Int → Prop} {a1 a2 : Int64} (hw : w ≤ 81) (hh : h ≤ 81) (hd : (rs = 1 ∧ (0 < dx ∨ (dx = 0 ∧ 0 < dy))) ∨ (rs = 0 ∧ (dx < 0 ∨ (dx = 0 ∧ dy < 0)))) (i : inF9 l b w h x y) (H : SP9 f n l b w h dx dy s (pr9 rs x y)) (e1 : a1 = arF n l b w h (x - dx) (y - dy)) (e2 : a2 = arF f l b w h (x - ((s : Int) + 1) * dx) (y - ((s : Int) + 1) * dy)) (hP : ∀ x' y' : Int, inF9 l b w h x' y' → P' x' y' → pr9 rs x y x' y' ∨ (x' = x ∧ y' = y)) : SP9 f (vp_updL n (ixF l b h x y).toNat (f (ixF l b h x y).toNat + a1 - a2)) l b w h dx dy s P' := fun x' y' i' p => by
  have r := ixF_r hw hh i
  have r' := ixF_r hw hh i'
  have here : f (ixF l b h x y).toNat + a1 - a2 = stw (arF f l b w h) dx dy s x y := by
    rw [stw_r, e1, e2, arF_p i]
    congr 2
    by_cases o : inF9 l b w h (x - dx) (y - dy)
    · rw [arF_p o]
      refine H _ _ o ?_
      unfold pr9
      omega
    · rw [arF_n o, stw_out i o]
  rcases hP x' y' i' p with q | ⟨q1, q2⟩
  · by_cases e : (ixF l b h x' y').toNat = (ixF l b h x y).toNat
    · obtain ⟨z1, z2⟩ := ixF_u i' i (by omega)
      subst z1; subst z2
      show (if (ixF l b h x' y').toNat = (ixF l b h x' y').toNat then _ else _) = _
      rw [if_pos rfl]; exact here
    · show (if (ixF l b h x' y').toNat = (ixF l b h x y).toNat then _ else n (ixF l b h x' y').toNat) = _
      rw [if_neg e]; exact H x' y' i' q
  · subst q1; subst q2
    show (if (ixF l b h x' y').toNat = (ixF l b h x' y').toNat then _ else _) = _
    rw [if_pos rfl]; exact here
/-- the sides' steps -/
def cdx (u : CS) (r : Nat) (j : Nat) : Int := (dX u r j).tdiv (dS u r j)
def cdy (u : CS) (r : Nat) (j : Nat) : Int := (dY u r j).tdiv (dS u r j)
def csn (u : CS) (r : Nat) (j : Nat) : Nat := (dS u r j).toNat
theorem c_nx {K : Int} {u : CS} {r : Nat} (hR : RB K u r) {j : Nat} (hj : (j : Int) < u.1.2.2.1 r) : nxt (u.1.1 r) (u.1.2.2.1 r) j - u.1.1 r j = dX u r j ∧ nxt (u.1.2.1 r) (u.1.2.2.1 r) j - u.1.2.1 r j = dY u r j := by
  have k1 := rx_n hR hj
  have k2 := rx_ar hR hj
  unfold dX dY
  rw [k1.1, k1.2, k2.1, k2.2]
  exact ⟨rfl, rfl⟩
theorem c_side {K : Int} {u : CS} {r : Nat} (hR : RB K u r) (h : cHS u r) (hn : 2 ≤ u.1.2.2.1 r) {j : Nat} (hj : (j : Int) < u.1.2.2.1 r) : 0 < csn u r j ∧ nxt (u.1.1 r) (u.1.2.2.1 r) j - u.1.1 r j = (csn u r j : Int) * cdx u r j ∧ nxt (u.1.2.1 r) (u.1.2.2.1 r) j - u.1.2.1 r j = (csn u r j : Int) * cdy u r j := by
  have nm := c_nx hR hj
  have E : dX u r j ≠ 0 ∨ dY u r j ≠ 0 := by
    obtain ⟨S, h⟩ := h
    rcases h with ⟨h, _⟩ | ⟨p1, p2, p3, ⟨p4, p5⟩ | ⟨p4, p5, p6⟩⟩
    · omega
    · omega
    · have q := (p6 j hj).1
      omega
  have g := gcd_p E
  have eS : (csn u r j : Int) = (Int.gcd (dX u r j) (dY u r j) : Int) := by unfold csn dS; omega
  refine ⟨by omega, ?_, ?_⟩
  · rw [nm.1, eS]
    exact (Int.mul_tdiv_cancel' (Int.gcd_dvd_left _ _)).symm
  · rw [nm.2, eS]
    exact (Int.mul_tdiv_cancel' (Int.gcd_dvd_right _ _)).symm
theorem c_dn {K : Int} {u : CS} {r : Nat} (hR : RB K u r) (h : cHS u r) (hn : 2 ≤ u.1.2.2.1 r) {j : Nat} (hj : (j : Int) < u.1.2.2.1 r) : cdx u r j ≠ 0 ∨ cdy u r j ≠ 0 := by
  obtain ⟨g0, g1, g2⟩ := c_side hR h hn hj
  obtain ⟨S, h⟩ := h
  rcases h with ⟨h, _⟩ | ⟨p1, p2, p3, ⟨p4, p5⟩ | ⟨p4, p5, p6⟩⟩
  · omega
  · omega
  · have q := (p6 j hj).1
    by_cases e : cdx u r j = 0
    · by_cases e2 : cdy u r j = 0
      · rw [e, Int.mul_zero] at g1
        rw [e2, Int.mul_zero] at g2
        omega
      · exact Or.inr e2
    · exact Or.inl e
/-- the frame holds the corners, the first one is leftmost -/
def FRc (u : CS) (r : Nat) (l b w h : Int) : Prop := (l = rx u r 0 ∧ w ≤ 81 ∧ h ≤ 81) ∧ (∀ k : Int, 0 ≤ k → k < u.1.2.2.1 r → rx u r k < l + w) ∧ ∀ k : Int, 0 ≤ k → k < u.1.2.2.1 r → b ≤ ry9 u r k ∧ ry9 u r k < b + h
theorem FRc_0 {u : CS} {r : Nat} {l b w h : Int} (F : FRc u r l b w h) (hn : 0 < u.1.2.2.1 r) : inF9 l b w h (rx u r 0) (ry9 u r 0) := by
  have k1 := F.2.1 0 (by omega) hn
  have k2 := F.2.2 0 (by omega) hn
  have := F.1.1
  unfold inF9; omega
theorem c_home {u : CS} {r : Nat} {l b w h : Int} (hR : RB 40 u r) (F : FRc u r l b w h) (H : cHS u r) (hn : 2 ≤ u.1.2.2.1 r) {i : Nat} (hi : i ≤ (u.1.2.2.1 r).toNat) {x y : Int} (hr : rc9 (cdx u r) (cdy u r) (csn u r) i x y) (hc : co9 (cdx u r) (cdy u r) (csn u r) (u.1.2.2.1 r).toNat i x y) : inF9 l b w h (x + rx u r 0) (y + ry9 u r 0) := by
  have H2 := H
  obtain ⟨S, hS⟩ := H2
  have k0 := rx_n hR (a := 0) (by omega)
  rw [show ((0 : Nat) : Int) = 0 from rfl] at k0
  have X0 : ∀ a : Nat, (a : Int) < u.1.2.2.1 r → u.1.1 r 0 ≤ u.1.1 r a := fun a ha => by
    have hc := HS_S hS
    rcases hS with ⟨h, _⟩ | ⟨p1, p2, p3, _⟩
    · omega
    · have := p3 _ _ (hc a ha)
      unfold lxn at this; omega
  have q := home hS hn (fun a _ => hR.2 a) (fun j hj => c_side hR H hn hj) hi hr hc (lx := l) (hx := l + w - 1) (ly := b) (hy := b + h - 1) (fun j hj => by
    have k := rx_n hR hj
    have k1 := F.2.1 j (by omega) hj
    have k2 := F.2.2 j (by omega) hj
    have k3 := X0 j hj
    have k4 := F.1.1
    rw [k.1] at k1
    rw [k.2] at k2
    omega)
  unfold inF9
  rw [k0.1, k0.2]
  omega
def PCi (u : CS) (r : Nat) (l b w h : Int) (i : Nat) (f : Nat → Int64) : Prop := cHS u r → ∀ x y : Int, co9 (cdx u r) (cdy u r) (csn u r) (u.1.2.2.1 r).toNat i x y → arF f l b w h (x + rx u r 0) (y + ry9 u r 0) = MI (cdx u r) (cdy u r) (csn u r) i x y
theorem PCi_0 {u : CS} {r : Nat} {l b w h z : Int} {f : Nat → Int64} (F : FRc u r l b w h) (hn : 0 < u.1.2.2.1 r) (hz : z = ixF l b h (rx u r 0) (ry9 u r 0)) : PCi u r l b w h 0 (vp_updL (jfL f 0 6561) z.toNat 1) := fun _ x y _ => by
  show arF _ l b w h (x + rx u r 0) (y + ry9 u r 0) = dl0 x y
  have i0 := FRc_0 F hn
  have r0 := ixF_r F.1.2.1 F.1.2.2 i0
  unfold dl0
  by_cases i : inF9 l b w h (x + rx u r 0) (y + ry9 u r 0)
  · have r1 := ixF_r F.1.2.1 F.1.2.2 i
    rw [arF_p i]
    show (if (ixF l b h (x + rx u r 0) (y + ry9 u r 0)).toNat = z.toNat then 1 else jfL f 0 6561 (ixF l b h (x + rx u r 0) (y + ry9 u r 0)).toNat) = _
    by_cases e : x = 0 ∧ y = 0
    · rw [if_pos e, if_pos (by rw [hz, e.1, e.2, Int.zero_add, Int.zero_add])]
    · rw [if_neg e, if_neg (fun q => e (by have := ixF_u i i0 (by omega); omega))]
      unfold jfL
      exact if_pos (by omega)
  · rw [arF_n i, if_neg (fun e => i (by rw [e.1, e.2, Int.zero_add, Int.zero_add]; exact i0))]
theorem stw_sh {N : Int → Int → Int64} {dx dy a c : Int} : ∀ (s : Nat) (x y : Int), stw (fun x y => N (x + a) (y + c)) dx dy s x y = stw N dx dy s (x + a) (y + c) := by
  intro s
  induction s with
  | zero => intro x y; rfl
  | succ s ih =>
    intro x y
    show stw (fun x y => N (x + a) (y + c)) dx dy s x y + N (x - ((s : Int) + 1) * dx + a) (y - ((s : Int) + 1) * dy + c) = stw N dx dy s (x + a) (y + c) + N (x + a - ((s : Int) + 1) * dx) (y + c - ((s : Int) + 1) * dy)
    rw [ih, show x - ((s : Int) + 1) * dx + a = x + a - ((s : Int) + 1) * dx by omega, show y - ((s : Int) + 1) * dy + c = y + c - ((s : Int) + 1) * dy by omega]
theorem PCi_s {u : CS} {r : Nat} {l b w h i sp dx dy : Int} {f n g : Nat → Int64} (hR : RB 40 u r) (F : FRc u r l b w h) (hn : 3 ≤ u.1.2.2.1 r) (hi : 0 ≤ i ∧ i < u.1.2.2.1 r) (H : PCi u r l b w h i.toNat f) (es : sp = dS u r i ∧ dx = (dX u r i).tdiv (dS u r i) ∧ dy = (dY u r i).tdiv (dS u r i)) (hs : (dx ≠ 0 ∨ dy ≠ 0) → SP9 f n l b w h dx dy sp.toNat (fun _ _ => True)) (hg : ∀ j : Nat, j < 6561 → g j = n j) : PCi u r l b w h (i + 1).toNat g := fun hH x y hc => by
  rw [show (i + 1).toNat = i.toNat + 1 by omega] at hc ⊢
  have e0 : ((i.toNat : Nat) : Int) = i := by omega
  have ed : dx = cdx u r i.toNat ∧ dy = cdy u r i.toNat ∧ sp.toNat = csn u r i.toNat := by
    unfold cdx cdy csn
    rw [e0]
    exact ⟨es.2.1, es.2.2, by rw [es.1]⟩
  have nd := c_dn hR hH (by omega) (j := i.toNat) (by omega)
  have S9 := hs (by rw [ed.1, ed.2.1]; exact nd)
  refine MI_s (N := fun x y => arF f l b w h (x + rx u r 0) (y + ry9 u r 0)) (N' := fun x y => arF g l b w h (x + rx u r 0) (y + ry9 u r 0)) (R := fun x y => inF9 l b w h (x + rx u r 0) (y + ry9 u r 0)) (by omega) (fun x y h1 h2 => c_home hR F hH (by omega) (by omega) h1 h2) (H hH) (fun x y q => ?_) (fun x y q => arF_n q) x y hc
  have r1 := ixF_r F.1.2.1 F.1.2.2 q
  rw [stw_sh (N := arF f l b w h), ← ed.1, ← ed.2.1, ← ed.2.2, ← S9 _ _ q trivial]
  show arF g l b w h _ _ = _
  rw [arF_p q]
  exact hg _ (by omega)
theorem PCi_e {u : CS} {r : Nat} {l b w h z : Int} {f : Nat → Int64} (F : FRc u r l b w h) (hn : 0 < u.1.2.2.1 r) (hz : z = ixF l b h (rx u r 0) (ry9 u r 0)) (H : PCi u r l b w h (u.1.2.2.1 r).toNat f) (hH : cHS u r) : f z.toNat = MI (cdx u r) (cdy u r) (csn u r) (u.1.2.2.1 r).toNat 0 0 := by
  rw [← H hH 0 0 co9_n, Int.zero_add, Int.zero_add, arF_p (FRc_0 F hn), hz]
def paC (u : CS) (s : Int) (x : Int64) : Prop := (¬ (0 ≤ s ∧ s ≤ 7) ∧ x = -1) ∨ ((0 ≤ s ∧ s ≤ 7) ∧ ((u.1.2.2.1 s.toNat < 3 ∧ x = -2) ∨ (3 ≤ u.1.2.2.1 s.toNat ∧ (cHS u s.toNat → x = MI (cdx u s.toNat) (cdy u s.toNat) (csn u s.toNat) (u.1.2.2.1 s.toNat).toNat 0 0))))
theorem MI_c {dx dy dx' dy' : Nat → Int} {s s' : Nat → Nat} : ∀ i : Nat, (∀ j : Nat, j < i → dx j = dx' j ∧ dy j = dy' j ∧ s j = s' j) → ∀ x y : Int, MI dx dy s i x y = MI dx' dy' s' i x y := by
  intro i
  induction i with
  | zero => intro _ x y; rfl
  | succ i ih =>
    intro h x y
    obtain ⟨h1, h2, h3⟩ := h i (by omega)
    show stw (MI dx dy s i) (dx i) (dy i) (s i) x y = stw (MI dx' dy' s' i) (dx' i) (dy' i) (s' i) x y
    rw [h1, h2, h3]
    exact stw_c _ x y (fun t _ => ih (fun j hj => h j (by omega)) _ _)
theorem EQ_pa {u : CS} {v : MS} {s : Int} {x x' : Int64} (hC : CI u) (h : EQS u v) (hc : paC u s x) (hm : paM v s x') : x = x' := by
  rcases hc with ⟨a1, a2⟩ | ⟨a1, a2⟩ <;> rcases hm with ⟨b1, b2⟩ | ⟨b1, b2⟩
  · rw [a2, b2]
  · exact absurd b1 a1
  · exact absurd a1 b1
  · obtain ⟨e1, e2⟩ := EQS_x hC h a1
    have hH : mHS v s := EQS_h h a1
    have cH : cHS u s.toNat := by
      refine ⟨_, HS_c (X' := u.1.1 s.toNat) (Y' := u.1.2.1 s.toNat) (by rw [e1]; exact hH) (fun _ _ => Iff.rfl) (fun a ha => ?_)⟩
      have q := (h s.toNat (by omega)).2.1 a (by rw [show ((s.toNat : Nat) : Int) = s by omega]; omega)
      rw [show ((s.toNat : Nat) : Int) = s by omega] at q
      exact q
    rw [e1] at a2
    rcases a2 with ⟨c1, c2⟩ | ⟨c1, c2⟩ <;> rcases b2 with ⟨d1, d2⟩ | ⟨d1, d2⟩
    · rw [c2, d2]
    · omega
    · omega
    · rw [c2 cH, d2 hH]
      refine MI_c _ (fun j hj => ?_) 0 0
      have d := EQS_d hC h a1 j (by omega) (by omega)
      unfold cdx cdy csn rdx rdy rsn mDX mDY dS mS
      rw [d.1, d.2]
      exact ⟨rfl, rfl, rfl⟩
