
theorem cl_1 (mu px py wx wy : Int) : cx wx wy (mu * wx - px) (mu * wy - py) = cx px py wx wy := by unfold cx; grind
theorem cl_2 (mu px py wx wy : Int) : cx px py (mu * wx - px) (mu * wy - py) = mu * cx px py wx wy := by unfold cx; grind
theorem cl_3 (mu px py wx wy tx ty : Int) : cx (mu * wx - px) (mu * wy - py) tx ty = mu * cx wx wy tx ty - cx px py tx ty := by unfold cx; grind
theorem cl_4 (px py wx wy tx ty : Int) : cx px py wx wy * tx + cx wx wy tx ty * px = cx px py tx ty * wx := by unfold cx; grind
theorem cl_5 (px py wx wy tx ty : Int) : cx px py wx wy * ty + cx wx wy tx ty * py = cx px py tx ty * wy := by unfold cx; grind
theorem cl_6 (g k a b c d : Int) : cx (g * a) (g * b) (k * c) (k * d) = g * k * cx a b c d := by unfold cx; grind
theorem cl_7 (px py wx wy k : Int) : cx px py (wx - k * px) (wy - k * py) = cx px py wx wy := by unfold cx; grind
theorem cl_8 (px py wx wy k tx ty : Int) : cx (wx - k * px) (wy - k * py) tx ty = cx wx wy tx ty - cx px py tx ty * k := by unfold cx; grind
theorem cl_9 (a b y k : Int) : a * (y - b * k) = a * y - b * (a * k) := by grind
theorem eu_ex {a b : Int} : ∀ (n : Nat) (r s p q t w : Int), s.natAbs < n → eu a b r s p q t w → ∃ r' p' q' t' w' : Int, eu a b r' 0 p' q' t' w' := by
  intro n
  induction n with
  | zero => intro r s p q t w h _; omega
  | succ n ih =>
    intro r s p q t w hn h
    by_cases hs : s = 0
    · subst hs; exact ⟨r, p, q, t, w, h⟩
    · have h2 := eu_s h hs rfl
      exact ih _ _ _ _ _ _ (by omega) h2.1
theorem bz {a b : Int} (ha : -40 ≤ a ∧ a ≤ 40) (hb : -40 ≤ b ∧ b ≤ 40) (hg : Int.gcd a b = 1) : ∃ x y : Int, cx a b x y = 1 := by
  obtain ⟨r, p, q, t, w, h⟩ := eu_ex (b.natAbs + 1) a b 1 0 0 1 (Nat.lt_succ_self _) (eu_0 ha hb hg)
  exact ⟨_, _, (eu_e h rfl).1⟩
theorem bz_j {a b : Int} (ha : -40 ≤ a ∧ a ≤ 40) (hb : -40 ≤ b ∧ b ≤ 40) (hg : Int.gcd a b = 1) (h0 : a ≠ 0) : ∃ j : Int, 0 ≤ j ∧ j < (a.natAbs : Int) ∧ (1 + b * j).tmod a = 0 := by
  obtain ⟨x, y, h⟩ := bz ha hb hg
  refine ⟨x % a, Int.emod_nonneg x h0, Int.emod_lt x h0, ?_⟩
  have e := Int.emod_add_mul_ediv x a
  have e3 : b * x = b * (x % a) + b * (a * (x / a)) := by rw [← Int.mul_add, e]
  have e2 : 1 + b * (x % a) = a * (y - b * (x / a)) := by
    rw [cl_9]
    unfold cx at h
    omega
  rw [e2, Int.mul_tmod_right]
theorem tm_dv {a b : Int} (h : a.tmod b = 0) : b * a.tdiv b = a := by
  have := Int.tmod_add_tdiv_mul a b
  rw [Int.mul_comm]; omega
/-- the search for a point beside (px, py) -/
def fs_ (px py i wx wy : Int) : Prop := (-40 ≤ wx ∧ wx ≤ 40) ∧ (-2000 ≤ wy ∧ wy ≤ 2000) ∧ (px = 0 → wx = -py ∧ wy = 0) ∧ (px ≠ 0 → cx px py wx wy = 1 ∨ ∀ j : Int, 0 ≤ j → j < i → (1 + py * j).tmod px ≠ 0)
theorem fs_y {px py i : Int} (hp : px ≠ 0) (hi : 0 ≤ i ∧ i ≤ 40) (hy : -40 ≤ py ∧ py ≤ 40) (h : (1 + py * i).tmod px = 0) : fs_ px py (i + 1) i ((1 + py * i).tdiv px) := by
  have m := mulb (A := 40) (B := 40) (a := py) (b := i) (by omega) (by omega)
  have t := td_b (a := 1 + py * i) (b := px) (K := 2000) (by omega)
  refine ⟨by omega, t, fun q => absurd q hp, fun _ => Or.inl ?_⟩
  have := tm_dv h
  unfold cx; omega
theorem fs_n {px py i wx wy : Int} (hp : px ≠ 0) (h : fs_ px py i wx wy) (hn : (1 + py * i).tmod px ≠ 0) : fs_ px py (i + 1) wx wy := by
  obtain ⟨a, b, c, d⟩ := h
  refine ⟨a, b, c, fun q => ?_⟩
  rcases d q with d | d
  · exact Or.inl d
  · refine Or.inr (fun j j0 j1 => ?_)
    by_cases e : j = i
    · rw [e]; exact hn
    · exact d j j0 (by omega)
theorem fs_e {px py i wx wy : Int} (hx : -40 ≤ px ∧ px ≤ 40) (hy : -40 ≤ py ∧ py ≤ 40) (hg : Int.gcd px py = 1) (h : fs_ px py i wx wy) (hi : px = 0 ∨ (px.natAbs : Int) ≤ i) : cx px py wx wy = 1 := by
  obtain ⟨a, b, c, d⟩ := h
  by_cases hp : px = 0
  · obtain ⟨e1, e2⟩ := c hp
    subst hp
    rw [Int.gcd_zero_left] at hg
    have : py = 1 ∨ py = -1 := by omega
    rw [e1, e2]
    rcases this with q | q <;> subst q <;> decide
  · rcases d hp with d | d
    · exact d
    · obtain ⟨j, j0, j1, j2⟩ := bz_j hx hy hg hp
      exact absurd j2 (d j j0 (by omega))
theorem sec_nx {px py tx ty wx wy k : Int} (h : cx px py wx wy = 1) (hw : 0 < cx px py tx ty) (hk : k = cx wx wy tx ty / cx px py tx ty) : nx px py tx ty (wx - k * px) (wy - k * py) := by
  have e1 := cl_7 px py wx wy k
  have e2 := cl_8 px py wx wy k tx ty
  have h1 := Int.emod_nonneg (cx wx wy tx ty) (show cx px py tx ty ≠ 0 by omega)
  have h2 := Int.emod_lt_of_pos (cx wx wy tx ty) hw
  have h3 := Int.emod_add_mul_ediv (cx wx wy tx ty) (cx px py tx ty)
  rw [← hk] at h3
  exact ⟨by rw [e1]; exact h, by rw [e2]; omega, by rw [e2]; omega⟩
/-- two ways to the same side in one line, both without a common divisor -/
theorem nx_end {px py tx ty wx wy : Int} (h : nx px py tx ty wx wy) (h0 : cx wx wy tx ty ≤ 0) (hg : Int.gcd tx ty = 1) : wx = tx ∧ wy = ty := by
  obtain ⟨h1, h2, h3⟩ := h
  have hz : cx wx wy tx ty = 0 := by omega
  have e1 := cl_4 px py wx wy tx ty
  have e2 := cl_5 px py wx wy tx ty
  rw [h1, hz] at e1 e2
  rw [Int.gcd_eq_one_iff] at hg
  have d := hg (cx px py tx ty) ⟨wx, by omega⟩ ⟨wy, by omega⟩
  have d1 : cx px py tx ty = 1 := by
    have := Int.le_of_dvd (by decide) d
    omega
  rw [d1] at e1 e2
  omega
theorem tm_c2 {a n : Int} (hn : -40 ≤ n ∧ n ≤ 40) : -2000000 ≤ a → a ≤ 2000000 → -2000000 ≤ a.tmod n ∧ a.tmod n ≤ 2000000 := by
  intro h1 h2
  have : (a.tmod n).natAbs ≤ a.natAbs := by rw [Int.natAbs_tmod]; exact Nat.mod_le _ _
  omega
theorem cx_div {a b c d : Int} (h : 0 < cx a b c d) (hg : 0 < (Int.gcd a b : Int)) (hh : 0 < (Int.gcd c d : Int)) : 0 < cx (a.tdiv (Int.gcd a b)) (b.tdiv (Int.gcd a b)) (c.tdiv (Int.gcd c d)) (d.tdiv (Int.gcd c d)) := by
  have e1 : (Int.gcd a b : Int) * a.tdiv (Int.gcd a b) = a := Int.mul_tdiv_cancel' (Int.gcd_dvd_left _ _)
  have e2 : (Int.gcd a b : Int) * b.tdiv (Int.gcd a b) = b := Int.mul_tdiv_cancel' (Int.gcd_dvd_right _ _)
  have e3 : (Int.gcd c d : Int) * c.tdiv (Int.gcd c d) = c := Int.mul_tdiv_cancel' (Int.gcd_dvd_left _ _)
  have e4 : (Int.gcd c d : Int) * d.tdiv (Int.gcd c d) = d := Int.mul_tdiv_cancel' (Int.gcd_dvd_right _ _)
  generalize (Int.gcd a b : Int) = g at *
  generalize (Int.gcd c d : Int) = k at *
  generalize a.tdiv g = a1 at *
  generalize b.tdiv g = b1 at *
  generalize c.tdiv k = c1 at *
  generalize d.tdiv k = d1 at *
  have e5 : cx a b c d = g * k * cx a1 b1 c1 d1 := by rw [← e1, ← e2, ← e3, ← e4]; exact cl_6 g k a1 b1 c1 d1
  rw [e5] at h
  exact Int.pos_of_mul_pos_left (by rw [Int.mul_comm]; exact h) (Int.mul_pos hg hh)
def kept (X Y : Nat → Int) (k wn x1 y1 b1 : Int) : Prop := 0 ≤ wn → wn < k → x1 = X wn.toNat ∧ y1 = Y wn.toNat ∧ (wn = 0 → b1 = -1000000) ∧ (0 < wn → b1 = cx (X (wn - 1).toNat) (Y (wn - 1).toNat) (X (wn + 1).toNat) (Y (wn + 1).toNat))
/-- k points are kept, the next one is (wx, wy) -/
def SW (ax ay tx ty k px py wx wy wn x1 y1 b1 : Int) : Prop := 1 ≤ k ∧ ∃ X Y : Nat → Int, X 0 = ax ∧ Y 0 = ay ∧ rsq X Y (k + 1) tx ty ∧ bd 40 X Y (k + 1) ∧ (px = X (k - 1).toNat ∧ py = Y (k - 1).toNat) ∧ (wx = X k.toNat ∧ wy = Y k.toNat) ∧ kept X Y k wn x1 y1 b1
theorem SW_0 {ax ay tx ty sx sy wn x1 y1 b1 : Int} (h : nx ax ay tx ty sx sy) (ha : (-40 ≤ ax ∧ ax ≤ 40) ∧ -40 ≤ ay ∧ ay ≤ 40) (ht : (-40 ≤ tx ∧ tx ≤ 40) ∧ -40 ≤ ty ∧ ty ≤ 40) (hk : wn = 0 → x1 = ax ∧ y1 = ay ∧ b1 = -1000000) : SW ax ay tx ty 1 ax ay sx sy wn x1 y1 b1 := by
  have hs := nx_b h ha ht
  refine ⟨by omega, fun k => if k = 0 then ax else sx, fun k => if k = 0 then ay else sy, rfl, rfl, fun k hk => ?_, fun k hk => ?_, ⟨rfl, rfl⟩, ⟨rfl, rfl⟩, fun h0 h1 => ?_⟩
  · have : k = 0 := by omega
    subst this; exact h
  · have : k = 0 ∨ k = 1 := by omega
    rcases this with e | e <;> subst e
    · exact ⟨ha.1, ha.2⟩
    · exact ⟨hs.1, hs.2⟩
  · have e : wn = 0 := by omega
    obtain ⟨e1, e2, e3⟩ := hk e
    subst e
    exact ⟨e1, e2, fun _ => e3, fun q => by omega⟩
theorem SW_s {ax ay tx ty k px py wx wy wn x1 y1 b1 x2 y2 b2 mu nx_ ny_ : Int} (ht : (-40 ≤ tx ∧ tx ≤ 40) ∧ -40 ≤ ty ∧ ty ≤ 40) (h : SW ax ay tx ty k px py wx wy wn x1 y1 b1) (hx : nx_ = mu * wx - px) (hy : ny_ = mu * wy - py) (hn : 0 ≤ cx nx_ ny_ tx ty ∧ cx nx_ ny_ tx ty < cx wx wy tx ty) (hk1 : k = wn → x2 = wx ∧ y2 = wy ∧ b2 = mu) (hk2 : k ≠ wn → x2 = x1 ∧ y2 = y1 ∧ b2 = b1) : SW ax ay tx ty (k + 1) wx wy nx_ ny_ wn x2 y2 b2 := by
  obtain ⟨h1, X, Y, e1, e2, e3, e4, ⟨e5, e6⟩, ⟨e7, e8⟩, e9⟩ := h
  have s1 := e3 (k - 1).toNat (by omega)
  rw [show (k - 1).toNat + 1 = k.toNat by omega, ← e5, ← e6, ← e7, ← e8] at s1
  have c1 : cx wx wy nx_ ny_ = 1 := by
    rw [hx, hy, cl_1]; exact s1.1
  have hnx : nx wx wy tx ty nx_ ny_ := ⟨c1, hn⟩
  have hbw := bd_at e4 (z := k) (by omega) (by omega)
  rw [← e7, ← e8] at hbw
  have hbn := nx_b hnx ⟨hbw.1, hbw.2⟩ ht
  have mu_e : mu = cx px py nx_ ny_ := by
    have : cx px py nx_ ny_ = mu * cx px py wx wy := by rw [hx, hy, cl_2]
    rw [s1.1] at this; omega
  refine ⟨by omega, upI X (k + 1).toNat nx_, upI Y (k + 1).toNat ny_, by rw [upI_n (by omega)]; exact e1, by rw [upI_n (by omega)]; exact e2, fun j hj => ?_, bd_put (by omega) e4 ⟨hbn.1.1, hbn.1.2⟩ hbn.2, ⟨?_, ?_⟩, ⟨by rw [upI_s], by rw [upI_s]⟩, fun h0 hlt => ?_⟩
  · by_cases e : (j : Int) = k
    · rw [show j = k.toNat by omega, show k.toNat + 1 = (k + 1).toNat by omega, upI_s, upI_s, upI_n (by omega), upI_n (by omega), ← e7, ← e8]
      exact hnx
    · rw [upI_n (by omega), upI_n (by omega), upI_n (by omega), upI_n (by omega)]
      exact e3 j (by omega)
  · rw [show k + 1 - 1 = k by omega, upI_n (by omega)]; exact e7
  · rw [show k + 1 - 1 = k by omega, upI_n (by omega)]; exact e8
  · by_cases e : k = wn
    · obtain ⟨q1, q2, q3⟩ := hk1 e
      subst e
      refine ⟨by rw [upI_n (by omega), q1]; exact e7, by rw [upI_n (by omega), q2]; exact e8, fun z => by omega, fun _ => ?_⟩
      rw [upI_s, upI_s, upI_n (by omega), upI_n (by omega), ← e5, ← e6, q3]
      exact mu_e
    · obtain ⟨q1, q2, q3⟩ := hk2 e
      obtain ⟨r1, r2, r3, r4⟩ := e9 h0 (by omega)
      refine ⟨by rw [upI_n (by omega), q1]; exact r1, by rw [upI_n (by omega), q2]; exact r2, fun z => by rw [q3]; exact r3 z, fun z => ?_⟩
      rw [upI_n (by omega), upI_n (by omega), upI_n (by omega), upI_n (by omega), q3]
      exact r4 z
theorem SW_nx {ax ay tx ty k px py wx wy wn x1 y1 b1 : Int} (h : SW ax ay tx ty k px py wx wy wn x1 y1 b1) : nx px py tx ty wx wy ∧ ((-40 ≤ px ∧ px ≤ 40) ∧ -40 ≤ py ∧ py ≤ 40) ∧ (-40 ≤ wx ∧ wx ≤ 40) ∧ -40 ≤ wy ∧ wy ≤ 40 := by
  obtain ⟨h1, X, Y, e1, e2, e3, e4, ⟨e5, e6⟩, ⟨e7, e8⟩, e9⟩ := h
  have s1 := e3 (k - 1).toNat (by omega)
  rw [show (k - 1).toNat + 1 = k.toNat by omega, ← e5, ← e6, ← e7, ← e8] at s1
  have b1 := bd_at e4 (z := k - 1) (by omega) (by omega)
  have b2 := bd_at e4 (z := k) (by omega) (by omega)
  rw [← e5, ← e6] at b1
  rw [← e7, ← e8] at b2
  exact ⟨s1, ⟨b1.1, b1.2⟩, b2.1, b2.2⟩
/-- what walk leaves -/
def wk (a b c d wn n x1 y1 b1 : Int) : Prop := ∃ X Y : Nat → Int, ry a b c d X Y n ∧ (0 ≤ wn → wn < n → x1 = X wn.toNat ∧ y1 = Y wn.toNat ∧ (wn = 0 ∨ wn = n - 1 → b1 = -1000000) ∧ (0 < wn → wn < n - 1 → b1 = cx (X (wn - 1).toNat) (Y (wn - 1).toNat) (X (wn + 1).toNat) (Y (wn + 1).toNat)))
theorem SW_e {a b c d k px py wx wy wn x1 y1 b1 x2 y2 b2 : Int} (hk9 : k ≤ 3250) (hg : Int.gcd (c.tdiv (Int.gcd c d)) (d.tdiv (Int.gcd c d)) = 1) (h : SW (a.tdiv (Int.gcd a b)) (b.tdiv (Int.gcd a b)) (c.tdiv (Int.gcd c d)) (d.tdiv (Int.gcd c d)) k px py wx wy wn x1 y1 b1) (h0 : cx wx wy (c.tdiv (Int.gcd c d)) (d.tdiv (Int.gcd c d)) ≤ 0) (hk1 : k = wn → x2 = c.tdiv (Int.gcd c d) ∧ y2 = d.tdiv (Int.gcd c d) ∧ b2 = -1000000) (hk2 : k ≠ wn → x2 = x1 ∧ y2 = y1 ∧ b2 = b1) : wk a b c d wn (k + 1) x2 y2 b2 := by
  have hn := (SW_nx h).1
  have he := nx_end hn h0 hg
  obtain ⟨h1, X, Y, e1, e2, e3, e4, ⟨e5, e6⟩, ⟨e7, e8⟩, e9⟩ := h
  refine ⟨X, Y, ⟨by omega, e1, e2, e3, e4, ?_⟩, fun w0 w1 => ?_⟩
  · rw [show k + 1 - 1 = k by omega, ← e7, ← e8]; exact h0
  · by_cases e : k = wn
    · obtain ⟨q1, q2, q3⟩ := hk1 e
      subst e
      exact ⟨by rw [← e7, q1]; exact he.1.symm, by rw [← e8, q2]; exact he.2.symm, fun _ => q3, fun _ z => by omega⟩
    · obtain ⟨q1, q2, q3⟩ := hk2 e
      obtain ⟨r1, r2, r3, r4⟩ := e9 w0 (by omega)
      exact ⟨by rw [q1]; exact r1, by rw [q2]; exact r2, fun z => by rw [q3]; exact r3 (by omega), fun z _ => by rw [q3]; exact r4 z⟩
theorem mu_c {bf rs mu : Int} (hr : 0 < rs) (hm : mu = -((-bf) / rs)) : 0 ≤ mu * rs - bf ∧ mu * rs - bf < rs := by
  have h1 := Int.emod_nonneg (-bf) (show rs ≠ 0 by omega)
  have h2 := Int.emod_lt_of_pos (-bf) hr
  have h3 := Int.emod_add_mul_ediv (-bf) rs
  rw [hm, Int.neg_mul, Int.mul_comm]
  omega

set_option maxHeartbeats 4000000 in
set_option maxRecDepth 100000 in
theorem c_X9_keep (l : Launch) (D : JD) (q : Nat → Nat) (u : CS) (A : Nat → Prop) (hD : va_D A (cW D q u)) (a : Int) (b : Int) (m : Int) (w : Int) (p0 : 0 ≤ u.2.2.2 4 ∧ u.2.2.2 4 ≤ 100000) (p1 : -2147483648 ≤ w ∧ w ≤ 2147483647) : Met l yX9_keep (jw yX9_keep cX9_keep 5 none) (jr 0 0) (jP [.ref (q 4), .int (J a), .int (J b), .int (J m), .int (J w)] D (fun H => va_P D.1 j_cl (cW D q u) H)) (jWv (fun u' => ∃ cn : Int, ∃ x1 : Int, ∃ y1 : Int, ∃ b1 : Int, u' = (sV (sV (sV (sV u 4 cn) 5 x1) 6 y1) 7 b1) ∧ (cn = u.2.2.2 4 + 1 ∧ (u.2.2.2 4 = w → x1 = a ∧ y1 = b ∧ b1 = m) ∧ (u.2.2.2 4 ≠ w → x1 = u.2.2.2 5 ∧ y1 = u.2.2.2 6 ∧ b1 = u.2.2.2 7))) (fun u' H => va_P D.1 j_cl (cW D q u') H) A) 0 0 A := by
  refine Met.ofW (cc := cX9_keep) (maxL := 5) (ret := none) (by decide) rfl ?_
  intro pr en st mi args below meth co s₁ B hml hv
  obtain ⟨rfl, hG, hP⟩ := hv
  have hr := B.returns
  have hlk := B.notSynchronized
  have SS : jS pr mi co cX9_keep 5 st _ RX9 := ⟨B.exec, B.bytes, hml, findClass_of_methodNamed B.named, fun w hw => atoms_spec (ws := (jw yX9_keep cX9_keep 5 none)) B.pre w (List.mem_cons_of_mem _ hw)⟩
  have hl := lv_entry ([.ref (q 4), .int (J a), .int (J b), .int (J m), .int (J w)]) (n := 5) (Nat.le_of_ble_eq_true rfl)
  rw [lg_entry_eq]
  generalize (lg_sl ([.ref (q 4), .int (J a), .int (J b), .int (J m), .int (J w)]) ++ List.replicate (5 - (lg_sl ([.ref (q 4), .int (J a), .int (J b), .int (J m), .int (J w)])).length) Slot.unset).toArray = ls at hl ⊢
  have hl : lv_has ls 5 [(0, .ref (q 4)), (1, .int (J a)), (2, .int (J b)), (3, .int (J m)), (4, .int (J w))] := hl
  have hS : va_S A st.heap st.heap [] := va_S.rf
  refine lv_aload_n SS.1 SS.2.1 dX9_keep_0 rfl (lv_at hl 0 rfl) ?_
  refine j_get SS hG hP 4 (v := .int (J (u.2.2.2 4))) (C := RX9) (T := TX9) (N := 6) rfl rfl inX9 0 (by decide) (ref := "GridPolygons$Sail") kw_213 rfl rfl dX9_keep_1 ?_
  refine lv_iload SS.1 SS.2.1 dX9_keep_4 (lv_at hl 4 rfl) ?_
  refine j_icmp_ne SS (tgt := 24) (x := (u.2.2.2 4)) (y := w) dX9_keep_6 (by decide) (by omega) (by omega) (fun c_6 => ?_) (fun c_6 => ?_)
  · skip
    refine lv_aload_n SS.1 SS.2.1 dX9_keep_24 rfl (lv_at hl 0 rfl) ?_
    refine lv_dup SS.1 SS.2.1 dX9_keep_25 rfl ?_
    refine j_get SS hG hP 4 (v := .int (J (u.2.2.2 4))) (C := RX9) (T := TX9) (N := 6) rfl rfl inX9 0 (by decide) (ref := "GridPolygons$Sail") kw_213 rfl rfl dX9_keep_26 ?_
    refine j_iconst SS dX9_keep_29 ?_
    refine j_iadd SS (x := (u.2.2.2 4)) (y := 1) dX9_keep_30 ?_
    refine j_put SS hG hP (cW_D hD) hS 4 (v := .int (J ((u.2.2.2 4) + 1))) (ty := .int) (C := RX9) (T := TX9) (N := 6) rfl rfl inX9 tyX9 tyX9_ok nmX9 0 (by decide) (ref := "GridPolygons$Sail") kw_213 rfl rfl (by decide +kernel) rfl rfl (Nat.le_of_ble_eq_true rfl) dX9_keep_31 (ws' := (cW D q (sV u 4 ((u.2.2.2 4) + 1)))) rfl (fun H locs hP hS => ?_)
    exact W.vret SS.1 SS.2.1 hr (fun t0 ht hW => ⟨⟨(sV (sV (sV (sV u 4 ((u.2.2.2 4) + 1)) 5 (u.2.2.2 5)) 6 (u.2.2.2 6)) 7 (u.2.2.2 7)), rfl, (⟨((u.2.2.2 4) + 1), (u.2.2.2 5), (u.2.2.2 6), (u.2.2.2 7), rfl, by first | exact ⟨rfl, fun _ => ⟨rfl, rfl, rfl⟩, fun q => absurd (by omega) q⟩ | exact ⟨rfl, fun q => absurd q (by omega), fun _ => ⟨rfl, rfl, rfl⟩⟩⟩), by show va_P D.1 j_cl (cW D q (sV (sV (sV (sV u 4 ((u.2.2.2 4) + 1)) 5 (u.2.2.2 5)) 6 (u.2.2.2 6)) 7 (u.2.2.2 7))) t0.heap; rw [ht]; first | exact hP | (simp only [sC_id, sX_id, sY_id, sH_id, sT_id, sV_id]; exact hP)⟩, hS.F ht⟩) hS.2.2 dX9_keep_34 hlk
  · skip
    refine lv_aload_n SS.1 SS.2.1 dX9_keep_9 rfl (lv_at hl 0 rfl) ?_
    refine lv_iload_n SS.1 SS.2.1 dX9_keep_10 rfl (lv_at hl 1 rfl) ?_
    refine j_put SS hG hP (cW_D hD) hS 4 (v := .int (J a)) (ty := .int) (C := RX9) (T := TX9) (N := 6) rfl rfl inX9 tyX9 tyX9_ok nmX9 1 (by decide) (ref := "GridPolygons$Sail") kw_215 rfl rfl (by decide +kernel) rfl rfl (Nat.le_of_ble_eq_true rfl) dX9_keep_11 (ws' := (cW D q (sV u 5 a))) rfl (fun H locs hP hS => ?_)
    refine lv_aload_n SS.1 SS.2.1 dX9_keep_14 rfl (lv_at hl 0 rfl) ?_
    refine lv_iload_n SS.1 SS.2.1 dX9_keep_15 rfl (lv_at hl 2 rfl) ?_
    refine j_put SS hG hP (cW_D hD) hS 4 (v := .int (J b)) (ty := .int) (C := RX9) (T := TX9) (N := 6) rfl rfl inX9 tyX9 tyX9_ok nmX9 2 (by decide) (ref := "GridPolygons$Sail") kw_217 rfl rfl (by decide +kernel) rfl rfl (Nat.le_of_ble_eq_true rfl) dX9_keep_16 (ws' := (cW D q (sV (sV u 5 a) 6 b))) rfl (fun H locs hP hS => ?_)
    refine lv_aload_n SS.1 SS.2.1 dX9_keep_19 rfl (lv_at hl 0 rfl) ?_
    refine lv_iload_n SS.1 SS.2.1 dX9_keep_20 rfl (lv_at hl 3 rfl) ?_
    refine j_put SS hG hP (cW_D hD) hS 4 (v := .int (J m)) (ty := .int) (C := RX9) (T := TX9) (N := 6) rfl rfl inX9 tyX9 tyX9_ok nmX9 3 (by decide) (ref := "GridPolygons$Sail") kw_219 rfl rfl (by decide +kernel) rfl rfl (Nat.le_of_ble_eq_true rfl) dX9_keep_21 (ws' := (cW D q (sV (sV (sV u 5 a) 6 b) 7 m))) rfl (fun H locs hP hS => ?_)
    refine lv_aload_n SS.1 SS.2.1 dX9_keep_24 rfl (lv_at hl 0 rfl) ?_
    refine lv_dup SS.1 SS.2.1 dX9_keep_25 rfl ?_
    refine j_get SS hG hP 4 (v := .int (J (u.2.2.2 4))) (C := RX9) (T := TX9) (N := 6) rfl rfl inX9 0 (by decide) (ref := "GridPolygons$Sail") kw_213 rfl rfl dX9_keep_26 ?_
    refine j_iconst SS dX9_keep_29 ?_
    refine j_iadd SS (x := (u.2.2.2 4)) (y := 1) dX9_keep_30 ?_
    refine j_put SS hG hP (cW_D hD) hS 4 (v := .int (J ((u.2.2.2 4) + 1))) (ty := .int) (C := RX9) (T := TX9) (N := 6) rfl rfl inX9 tyX9 tyX9_ok nmX9 0 (by decide) (ref := "GridPolygons$Sail") kw_213 rfl rfl (by decide +kernel) rfl rfl (Nat.le_of_ble_eq_true rfl) dX9_keep_31 (ws' := (cW D q (sV (sV (sV (sV u 4 ((u.2.2.2 4) + 1)) 5 a) 6 b) 7 m))) rfl (fun H locs hP hS => ?_)
    exact W.vret SS.1 SS.2.1 hr (fun t0 ht hW => ⟨⟨(sV (sV (sV (sV u 4 ((u.2.2.2 4) + 1)) 5 a) 6 b) 7 m), rfl, (⟨((u.2.2.2 4) + 1), a, b, m, rfl, by first | exact ⟨rfl, fun _ => ⟨rfl, rfl, rfl⟩, fun q => absurd (by omega) q⟩ | exact ⟨rfl, fun q => absurd q (by omega), fun _ => ⟨rfl, rfl, rfl⟩⟩⟩), by show va_P D.1 j_cl (cW D q (sV (sV (sV (sV u 4 ((u.2.2.2 4) + 1)) 5 a) 6 b) 7 m)) t0.heap; rw [ht]; first | exact hP | (simp only [sC_id, sX_id, sY_id, sH_id, sT_id, sV_id]; exact hP)⟩, hS.F ht⟩) hS.2.2 dX9_keep_34 hlk

set_option maxHeartbeats 4000000 in
set_option maxRecDepth 100000 in
theorem c_X9_findSecond (l : Launch) (D : JD) (q : Nat → Nat) (u : CS) (A : Nat → Prop) (hD : va_D A (cW D q u)) (a : Int) (b : Int) (c : Int) (d : Int) (p0 : -40 ≤ a ∧ a ≤ 40) (p1 : -40 ≤ b ∧ b ≤ 40) (p2 : -40 ≤ c ∧ c ≤ 40) (p3 : -40 ≤ d ∧ d ≤ 40) (p4 : Int.gcd a b = 1) (p5 : 0 < cx a b c d) : Met l yX9_findSecond (jw yX9_findSecond cX9_findSecond 9 none) (jr 1 22) (jP [.ref (q 4), .int (J a), .int (J b), .int (J c), .int (J d)] D (fun H => va_P D.1 j_cl (cW D q u) H)) (jWv (fun u' => ∃ sx : Int, ∃ sy : Int, u' = (sV (sV u 8 sx) 9 sy) ∧ (nx a b c d sx sy)) (fun u' H => va_P D.1 j_cl (cW D q u') H) A) 0 0 A := by
  refine Met.ofW (cc := cX9_findSecond) (maxL := 9) (ret := none) (by decide) rfl ?_
  intro pr en st mi args below meth co s₁ B hml hv
  obtain ⟨rfl, hG, hP⟩ := hv
  have hr := B.returns
  have hlk := B.notSynchronized
  have SS : jS pr mi co cX9_findSecond 9 st _ RX9 := ⟨B.exec, B.bytes, hml, findClass_of_methodNamed B.named, fun w hw => atoms_spec (ws := (jw yX9_findSecond cX9_findSecond 9 none)) B.pre w (List.mem_cons_of_mem _ hw)⟩
  have hl := lv_entry ([.ref (q 4), .int (J a), .int (J b), .int (J c), .int (J d)]) (n := 9) (Nat.le_of_ble_eq_true rfl)
  rw [lg_entry_eq]
  generalize (lg_sl ([.ref (q 4), .int (J a), .int (J b), .int (J c), .int (J d)]) ++ List.replicate (9 - (lg_sl ([.ref (q 4), .int (J a), .int (J b), .int (J c), .int (J d)])).length) Slot.unset).toArray = ls at hl ⊢
  have hl : lv_has ls 9 [(0, .ref (q 4)), (1, .int (J a)), (2, .int (J b)), (3, .int (J c)), (4, .int (J d))] := hl
  have hS : va_S A st.heap st.heap [] := va_S.rf
  refine lv_iload_n SS.1 SS.2.1 dX9_findSecond_0 rfl (lv_at hl 2 rfl) ?_
  refine j_ineg SS dX9_findSecond_1 ?_
  refine lv_istore (lv' := [(5, .int (J (-b))), (0, .ref (q 4)), (1, .int (J a)), (2, .int (J b)), (3, .int (J c)), (4, .int (J d))]) SS.1 SS.2.1 dX9_findSecond_2 hl (by decide) rfl (fun ls hl => ?_)
  refine j_iconst SS dX9_findSecond_4 ?_
  refine lv_istore (lv' := [(6, .int (J 0)), (5, .int (J (-b))), (0, .ref (q 4)), (1, .int (J a)), (2, .int (J b)), (3, .int (J c)), (4, .int (J d))]) SS.1 SS.2.1 dX9_findSecond_5 hl (by decide) rfl (fun ls hl => ?_)
  refine j_iconst SS dX9_findSecond_7 ?_
  refine lv_istore (lv' := [(7, .int (J 0)), (6, .int (J 0)), (5, .int (J (-b))), (0, .ref (q 4)), (1, .int (J a)), (2, .int (J b)), (3, .int (J c)), (4, .int (J d))]) SS.1 SS.2.1 dX9_findSecond_8 hl (by decide) rfl (fun ls hl => ?_)
  have L_10 : ∀ (nn : Nat) (wx : Int) (wy : Int) (i : Int) (H : Heap) (locs : List Loc) (hP : va_P D.1 j_cl (cW D q u) H) (hS : va_S A st.heap H locs) (ls : Array Slot) (hl : lv_has ls 9 [(0, .ref (q 4)), (1, .int (J a)), (2, .int (J b)), (3, .int (J c)), (4, .int (J d)), (5, .int (J wx)), (6, .int (J wy)), (7, .int (J i))]) (i10_0 : 0 ≤ i ∧ i ≤ 40) (i10_1 : fs_ a b i wx wy) (i10_2 : a = 0 ∨ i ≤ (a.natAbs : Int)), ((41 : Int) - i).toNat < nn → W pr l en (headSpec (jw yX9_findSecond cX9_findSecond 9 none) (jr 1 22)).room st mi (([.ref (q 4), .int (J a), .int (J b), .int (J c), .int (J d)] : List Value).toArray) below meth co H locs 0 0 (MQ below (jWv (fun u' => ∃ sx : Int, ∃ sy : Int, u' = (sV (sV u 8 sx) 9 sy) ∧ (nx a b c d sx sy)) (fun u' H => va_P D.1 j_cl (cW D q u') H) A) (([.ref (q 4), .int (J a), .int (J b), .int (J c), .int (J d)] : List Value).toArray) st 0 0 A) (F0 mi 10 ls []) := by
    intro nn
    induction nn with
    | zero => intros; omega
    | succ nn ih_10 =>
      intro wx wy i  H locs hP hS ls hl i10_0 i10_1 i10_2 hm
      refine lv_iload_n SS.1 SS.2.1 dX9_findSecond_10 rfl (lv_at hl 1 rfl) ?_
      refine j_if_eq SS (tgt := 54) (x := a) dX9_findSecond_11 (by decide) (by omega) (fun c_11 => ?_) (fun c_11 => ?_)
      · skip
        have hw1 := fs_e p0 p1 p4 i10_1 (by omega)
        have hw2 := i10_1.1
        have hw3 := i10_1.2.1
        have m1 := mulb (A := 40) (B := 40) (a := a) (b := d) p0 p3
        have m2 := mulb (A := 40) (B := 40) (a := b) (b := c) p1 p2
        refine lv_iload_n SS.1 SS.2.1 dX9_findSecond_54 rfl (lv_at hl 1 rfl) ?_
        refine lv_iload SS.1 SS.2.1 dX9_findSecond_55 (lv_at hl 4 rfl) ?_
        refine j_imul SS (x := a) (y := d) dX9_findSecond_57 ?_
        refine lv_iload_n SS.1 SS.2.1 dX9_findSecond_58 rfl (lv_at hl 2 rfl) ?_
        refine lv_iload_n SS.1 SS.2.1 dX9_findSecond_59 rfl (lv_at hl 3 rfl) ?_
        refine j_imul SS (x := b) (y := c) dX9_findSecond_60 ?_
        refine j_isub SS (x := (a * d)) (y := (b * c)) dX9_findSecond_61 ?_
        obtain ⟨wh, ewh⟩ : ∃ z : Int, z = ((a * d) - (b * c)) := ⟨_, rfl⟩
        rw [← ewh]
        refine lv_istore (lv' := [(7, .int (J wh)), (0, .ref (q 4)), (1, .int (J a)), (2, .int (J b)), (3, .int (J c)), (4, .int (J d)), (5, .int (J wx)), (6, .int (J wy))]) SS.1 SS.2.1 dX9_findSecond_62 hl (by decide) rfl (fun ls hl => ?_)
        have ewc : wh = cx a b c d := ewh
        refine lv_iload SS.1 SS.2.1 dX9_findSecond_64 (lv_at hl 0 rfl) ?_
        refine j_if_ne SS (tgt := 73) (x := wh) dX9_findSecond_66 (by decide) (by omega) (fun c_66 => ?_) (fun c_66 => ?_)
        · skip
          refine lv_iload SS.1 SS.2.1 dX9_findSecond_73 (lv_at hl 6 rfl) ?_
          have m3 := mulb (A := 40) (B := 40) (a := wx) (b := d) hw2 p3
          have m4 := mulb (A := 2000) (B := 40) (a := wy) (b := c) hw3 p2
          refine lv_iload SS.1 SS.2.1 dX9_findSecond_75 (lv_at hl 5 rfl) ?_
          refine j_imul SS (x := wx) (y := d) dX9_findSecond_77 ?_
          refine lv_iload SS.1 SS.2.1 dX9_findSecond_78 (lv_at hl 7 rfl) ?_
          refine lv_iload_n SS.1 SS.2.1 dX9_findSecond_80 rfl (lv_at hl 4 rfl) ?_
          refine j_imul SS (x := wy) (y := c) dX9_findSecond_81 ?_
          refine j_isub SS (x := (wx * d)) (y := (wy * c)) dX9_findSecond_82 ?_
          obtain ⟨cw, ecw⟩ : ∃ z : Int, z = ((wx * d) - (wy * c)) := ⟨_, rfl⟩
          rw [← ecw]
          refine lv_iload SS.1 SS.2.1 dX9_findSecond_83 (lv_at hl 0 rfl) ?_
          refine j_sRi SS (As := [.int (J cw), .int (J wh)]) (rest := []) (c_J9_floorDiv_7cf53 l D  cw wh (show -2147483648 < cw ∧ cw ≤ 2147483647 from (by omega)) (show 0 < wh ∧ wh ≤ 2147483647 from (by omega))) mf_J9_floorDiv_7cf53 kw_850 hG trivial rfl hl.1 ⟨⟨Nat.le_of_ble_eq_true rfl, Nat.le_of_ble_eq_true rfl⟩, Nat.le_of_ble_eq_true rfl, Nat.le_refl _, Nat.le_refl _⟩ rfl dX9_findSecond_85 (fun z_85 h_85 => ?_)
          have h_85 : z_85 = cw / wh := h_85
          refine lv_istore (lv' := [(8, .int (J z_85)), (7, .int (J wh)), (0, .ref (q 4)), (1, .int (J a)), (2, .int (J b)), (3, .int (J c)), (4, .int (J d)), (5, .int (J wx)), (6, .int (J wy))]) SS.1 SS.2.1 dX9_findSecond_88 hl (by decide) rfl (fun ls hl => ?_)
          refine lv_aload_n SS.1 SS.2.1 dX9_findSecond_90 rfl (lv_at hl 2 rfl) ?_
          refine lv_iload SS.1 SS.2.1 dX9_findSecond_91 (lv_at hl 7 rfl) ?_
          refine lv_iload SS.1 SS.2.1 dX9_findSecond_93 (lv_at hl 0 rfl) ?_
          refine lv_iload_n SS.1 SS.2.1 dX9_findSecond_95 rfl (lv_at hl 3 rfl) ?_
          refine j_imul SS (x := z_85) (y := a) dX9_findSecond_96 ?_
          refine j_isub SS (x := wx) (y := (z_85 * a)) dX9_findSecond_97 ?_
          refine j_put SS hG hP (cW_D hD) hS 4 (v := .int (J (wx - (z_85 * a)))) (ty := .int) (C := RX9) (T := TX9) (N := 6) rfl rfl inX9 tyX9 tyX9_ok nmX9 4 (by decide) (ref := "GridPolygons$Sail") kw_221 rfl rfl (by decide +kernel) rfl rfl (Nat.le_of_ble_eq_true rfl) dX9_findSecond_98 (ws' := (cW D q (sV u 8 (wx - (z_85 * a))))) rfl (fun H locs hP hS => ?_)
          refine lv_aload_n SS.1 SS.2.1 dX9_findSecond_101 rfl (lv_at hl 2 rfl) ?_
          refine lv_iload SS.1 SS.2.1 dX9_findSecond_102 (lv_at hl 8 rfl) ?_
          refine lv_iload SS.1 SS.2.1 dX9_findSecond_104 (lv_at hl 0 rfl) ?_
          refine lv_iload_n SS.1 SS.2.1 dX9_findSecond_106 rfl (lv_at hl 4 rfl) ?_
          refine j_imul SS (x := z_85) (y := b) dX9_findSecond_107 ?_
          refine j_isub SS (x := wy) (y := (z_85 * b)) dX9_findSecond_108 ?_
          refine j_put SS hG hP (cW_D hD) hS 4 (v := .int (J (wy - (z_85 * b)))) (ty := .int) (C := RX9) (T := TX9) (N := 6) rfl rfl inX9 tyX9 tyX9_ok nmX9 5 (by decide) (ref := "GridPolygons$Sail") kw_222 rfl rfl (by decide +kernel) rfl rfl (Nat.le_of_ble_eq_true rfl) dX9_findSecond_109 (ws' := (cW D q (sV (sV u 8 (wx - (z_85 * a))) 9 (wy - (z_85 * b))))) rfl (fun H locs hP hS => ?_)
          exact W.vret SS.1 SS.2.1 hr (fun t0 ht hW => ⟨⟨(sV (sV u 8 (wx - (z_85 * a))) 9 (wy - (z_85 * b))), rfl, (⟨(wx - (z_85 * a)), (wy - (z_85 * b)), rfl, sec_nx hw1 p5 (by rw [h_85, ecw, ewc]; rfl)⟩), by show va_P D.1 j_cl (cW D q (sV (sV u 8 (wx - (z_85 * a))) 9 (wy - (z_85 * b)))) t0.heap; rw [ht]; first | exact hP | (simp only [sC_id, sX_id, sY_id, sH_id, sT_id, sV_id]; exact hP)⟩, hS.F ht⟩) hS.2.2 dX9_findSecond_112 hlk
        · skip
          exfalso; omega
      · skip
        refine lv_iload SS.1 SS.2.1 dX9_findSecond_14 (lv_at hl 7 rfl) ?_
        refine lv_iload_n SS.1 SS.2.1 dX9_findSecond_16 rfl (lv_at hl 1 rfl) ?_
        refine j_sRi SS (As := [.int (J a)]) (rest := [.int (J i)]) (c_J9_abs_0f7a4 l D  a (show -2147483648 < a ∧ a ≤ 2147483647 from (by omega))) mf_J9_abs_0f7a4 kw_849 hG trivial rfl hl.1 ⟨⟨Nat.le_of_ble_eq_true rfl, Nat.le_of_ble_eq_true rfl⟩, Nat.le_of_ble_eq_true rfl, Nat.le_refl _, Nat.le_refl _⟩ rfl dX9_findSecond_17 (fun z_17 h_17 => ?_)
        have h_17 : 0 ≤ z_17 ∧ (z_17 = a ∨ z_17 = -a) := h_17
        refine j_icmp_ge SS (tgt := 54) (x := i) (y := z_17) dX9_findSecond_20 (by decide) (by omega) (by omega) (fun c_20 => ?_) (fun c_20 => ?_)
        · skip
          have hw1 := fs_e p0 p1 p4 i10_1 (by omega)
          have hw2 := i10_1.1
          have hw3 := i10_1.2.1
          have m1 := mulb (A := 40) (B := 40) (a := a) (b := d) p0 p3
          have m2 := mulb (A := 40) (B := 40) (a := b) (b := c) p1 p2
          refine lv_iload_n SS.1 SS.2.1 dX9_findSecond_54 rfl (lv_at hl 1 rfl) ?_
          refine lv_iload SS.1 SS.2.1 dX9_findSecond_55 (lv_at hl 4 rfl) ?_
          refine j_imul SS (x := a) (y := d) dX9_findSecond_57 ?_
          refine lv_iload_n SS.1 SS.2.1 dX9_findSecond_58 rfl (lv_at hl 2 rfl) ?_
          refine lv_iload_n SS.1 SS.2.1 dX9_findSecond_59 rfl (lv_at hl 3 rfl) ?_
          refine j_imul SS (x := b) (y := c) dX9_findSecond_60 ?_
          refine j_isub SS (x := (a * d)) (y := (b * c)) dX9_findSecond_61 ?_
          obtain ⟨wh, ewh⟩ : ∃ z : Int, z = ((a * d) - (b * c)) := ⟨_, rfl⟩
          rw [← ewh]
          refine lv_istore (lv' := [(7, .int (J wh)), (0, .ref (q 4)), (1, .int (J a)), (2, .int (J b)), (3, .int (J c)), (4, .int (J d)), (5, .int (J wx)), (6, .int (J wy))]) SS.1 SS.2.1 dX9_findSecond_62 hl (by decide) rfl (fun ls hl => ?_)
          have ewc : wh = cx a b c d := ewh
          refine lv_iload SS.1 SS.2.1 dX9_findSecond_64 (lv_at hl 0 rfl) ?_
          refine j_if_ne SS (tgt := 73) (x := wh) dX9_findSecond_66 (by decide) (by omega) (fun c_66 => ?_) (fun c_66 => ?_)
          · skip
            refine lv_iload SS.1 SS.2.1 dX9_findSecond_73 (lv_at hl 6 rfl) ?_
            have m3 := mulb (A := 40) (B := 40) (a := wx) (b := d) hw2 p3
            have m4 := mulb (A := 2000) (B := 40) (a := wy) (b := c) hw3 p2
            refine lv_iload SS.1 SS.2.1 dX9_findSecond_75 (lv_at hl 5 rfl) ?_
            refine j_imul SS (x := wx) (y := d) dX9_findSecond_77 ?_
            refine lv_iload SS.1 SS.2.1 dX9_findSecond_78 (lv_at hl 7 rfl) ?_
            refine lv_iload_n SS.1 SS.2.1 dX9_findSecond_80 rfl (lv_at hl 4 rfl) ?_
            refine j_imul SS (x := wy) (y := c) dX9_findSecond_81 ?_
            refine j_isub SS (x := (wx * d)) (y := (wy * c)) dX9_findSecond_82 ?_
            obtain ⟨cw, ecw⟩ : ∃ z : Int, z = ((wx * d) - (wy * c)) := ⟨_, rfl⟩
            rw [← ecw]
            refine lv_iload SS.1 SS.2.1 dX9_findSecond_83 (lv_at hl 0 rfl) ?_
            refine j_sRi SS (As := [.int (J cw), .int (J wh)]) (rest := []) (c_J9_floorDiv_7cf53 l D  cw wh (show -2147483648 < cw ∧ cw ≤ 2147483647 from (by omega)) (show 0 < wh ∧ wh ≤ 2147483647 from (by omega))) mf_J9_floorDiv_7cf53 kw_850 hG trivial rfl hl.1 ⟨⟨Nat.le_of_ble_eq_true rfl, Nat.le_of_ble_eq_true rfl⟩, Nat.le_of_ble_eq_true rfl, Nat.le_refl _, Nat.le_refl _⟩ rfl dX9_findSecond_85 (fun z_85 h_85 => ?_)
            have h_85 : z_85 = cw / wh := h_85
            refine lv_istore (lv' := [(8, .int (J z_85)), (7, .int (J wh)), (0, .ref (q 4)), (1, .int (J a)), (2, .int (J b)), (3, .int (J c)), (4, .int (J d)), (5, .int (J wx)), (6, .int (J wy))]) SS.1 SS.2.1 dX9_findSecond_88 hl (by decide) rfl (fun ls hl => ?_)
            refine lv_aload_n SS.1 SS.2.1 dX9_findSecond_90 rfl (lv_at hl 2 rfl) ?_
            refine lv_iload SS.1 SS.2.1 dX9_findSecond_91 (lv_at hl 7 rfl) ?_
            refine lv_iload SS.1 SS.2.1 dX9_findSecond_93 (lv_at hl 0 rfl) ?_
            refine lv_iload_n SS.1 SS.2.1 dX9_findSecond_95 rfl (lv_at hl 3 rfl) ?_
            refine j_imul SS (x := z_85) (y := a) dX9_findSecond_96 ?_
            refine j_isub SS (x := wx) (y := (z_85 * a)) dX9_findSecond_97 ?_
            refine j_put SS hG hP (cW_D hD) hS 4 (v := .int (J (wx - (z_85 * a)))) (ty := .int) (C := RX9) (T := TX9) (N := 6) rfl rfl inX9 tyX9 tyX9_ok nmX9 4 (by decide) (ref := "GridPolygons$Sail") kw_221 rfl rfl (by decide +kernel) rfl rfl (Nat.le_of_ble_eq_true rfl) dX9_findSecond_98 (ws' := (cW D q (sV u 8 (wx - (z_85 * a))))) rfl (fun H locs hP hS => ?_)
            refine lv_aload_n SS.1 SS.2.1 dX9_findSecond_101 rfl (lv_at hl 2 rfl) ?_
            refine lv_iload SS.1 SS.2.1 dX9_findSecond_102 (lv_at hl 8 rfl) ?_
            refine lv_iload SS.1 SS.2.1 dX9_findSecond_104 (lv_at hl 0 rfl) ?_
            refine lv_iload_n SS.1 SS.2.1 dX9_findSecond_106 rfl (lv_at hl 4 rfl) ?_
            refine j_imul SS (x := z_85) (y := b) dX9_findSecond_107 ?_
            refine j_isub SS (x := wy) (y := (z_85 * b)) dX9_findSecond_108 ?_
            refine j_put SS hG hP (cW_D hD) hS 4 (v := .int (J (wy - (z_85 * b)))) (ty := .int) (C := RX9) (T := TX9) (N := 6) rfl rfl inX9 tyX9 tyX9_ok nmX9 5 (by decide) (ref := "GridPolygons$Sail") kw_222 rfl rfl (by decide +kernel) rfl rfl (Nat.le_of_ble_eq_true rfl) dX9_findSecond_109 (ws' := (cW D q (sV (sV u 8 (wx - (z_85 * a))) 9 (wy - (z_85 * b))))) rfl (fun H locs hP hS => ?_)
            exact W.vret SS.1 SS.2.1 hr (fun t0 ht hW => ⟨⟨(sV (sV u 8 (wx - (z_85 * a))) 9 (wy - (z_85 * b))), rfl, (⟨(wx - (z_85 * a)), (wy - (z_85 * b)), rfl, sec_nx hw1 p5 (by rw [h_85, ecw, ewc]; rfl)⟩), by show va_P D.1 j_cl (cW D q (sV (sV u 8 (wx - (z_85 * a))) 9 (wy - (z_85 * b)))) t0.heap; rw [ht]; first | exact hP | (simp only [sC_id, sX_id, sY_id, sH_id, sT_id, sV_id]; exact hP)⟩, hS.F ht⟩) hS.2.2 dX9_findSecond_112 hlk
          · skip
            exfalso; omega
        · skip
          refine j_iconst SS dX9_findSecond_23 ?_
          refine lv_iload_n SS.1 SS.2.1 dX9_findSecond_24 rfl (lv_at hl 2 rfl) ?_
          refine lv_iload SS.1 SS.2.1 dX9_findSecond_25 (lv_at hl 7 rfl) ?_
          have m0 := mulb (A := 40) (B := 40) (a := b) (b := i) p1 (by omega)
          refine j_imul SS (x := b) (y := i) dX9_findSecond_27 ?_
          refine j_iadd SS (x := 1) (y := (b * i)) dX9_findSecond_28 ?_
          refine lv_iload_n SS.1 SS.2.1 dX9_findSecond_29 rfl (lv_at hl 1 rfl) ?_
          refine j_irem SS (x := (1 + (b * i))) (y := a) dX9_findSecond_30 (by omega) (by omega) (by omega) ?_
          have tc := tm_c2 (a := 1 + b * i) (n := a) p0 (by omega) (by omega)
          refine j_if_ne SS (tgt := 48) (x := (Int.tmod (1 + (b * i)) a)) dX9_findSecond_31 (by decide) (by omega) (fun c_31 => ?_) (fun c_31 => ?_)
          · skip
            refine lv_iinc (v := J (i + 1)) (lv' := [(7, .int (J (i + 1))), (0, .ref (q 4)), (1, .int (J a)), (2, .int (J b)), (3, .int (J c)), (4, .int (J d)), (5, .int (J wx)), (6, .int (J wy))]) SS.1 SS.2.1 dX9_findSecond_48 hl (k := 7) rfl (J_add _ _) (by decide) rfl (fun ls hl => ?_)
            refine lv_goto (tgt := 10) SS.1 SS.2.1 dX9_findSecond_51 (by decide) ?_
            exact ih_10 wx wy (i + 1) _ _ hP hS ls (lv_sub hl [1, 2, 3, 4, 5, 6, 7, 0] rfl) (by omega) (by first | exact fs_y (by omega) (by omega) p1 c_31 | exact fs_n (by omega) i10_1 c_31) (by omega) (by omega)
          · skip
            refine lv_iload SS.1 SS.2.1 dX9_findSecond_34 (lv_at hl 7 rfl) ?_
            refine lv_istore (lv' := [(5, .int (J i)), (0, .ref (q 4)), (1, .int (J a)), (2, .int (J b)), (3, .int (J c)), (4, .int (J d)), (6, .int (J wy)), (7, .int (J i))]) SS.1 SS.2.1 dX9_findSecond_36 hl (by decide) rfl (fun ls hl => ?_)
            refine j_iconst SS dX9_findSecond_38 ?_
            refine lv_iload_n SS.1 SS.2.1 dX9_findSecond_39 rfl (lv_at hl 3 rfl) ?_
            refine lv_iload SS.1 SS.2.1 dX9_findSecond_40 (lv_at hl 7 rfl) ?_
            refine j_imul SS (x := b) (y := i) dX9_findSecond_42 ?_
            refine j_iadd SS (x := 1) (y := (b * i)) dX9_findSecond_43 ?_
            refine lv_iload_n SS.1 SS.2.1 dX9_findSecond_44 rfl (lv_at hl 2 rfl) ?_
            refine j_idiv SS (x := (1 + (b * i))) (y := a) dX9_findSecond_45 (by omega) (by omega) (by omega) ?_
            refine lv_istore (lv' := [(6, .int (J (Int.tdiv (1 + (b * i)) a))), (5, .int (J i)), (0, .ref (q 4)), (1, .int (J a)), (2, .int (J b)), (3, .int (J c)), (4, .int (J d)), (7, .int (J i))]) SS.1 SS.2.1 dX9_findSecond_46 hl (by decide) rfl (fun ls hl => ?_)
            refine lv_iinc (v := J (i + 1)) (lv' := [(7, .int (J (i + 1))), (6, .int (J (Int.tdiv (1 + (b * i)) a))), (5, .int (J i)), (0, .ref (q 4)), (1, .int (J a)), (2, .int (J b)), (3, .int (J c)), (4, .int (J d))]) SS.1 SS.2.1 dX9_findSecond_48 hl (k := 7) rfl (J_add _ _) (by decide) rfl (fun ls hl => ?_)
            refine lv_goto (tgt := 10) SS.1 SS.2.1 dX9_findSecond_51 (by decide) ?_
            exact ih_10 i (Int.tdiv (1 + (b * i)) a) (i + 1) _ _ hP hS ls (lv_sub hl [3, 4, 5, 6, 7, 2, 1, 0] rfl) (by omega) (by first | exact fs_y (by omega) (by omega) p1 c_31 | exact fs_n (by omega) i10_1 c_31) (by omega) (by omega)
  exact L_10 (((41 : Int) - (0 : Int)).toNat + 1) (-b) 0 0 _ _ hP hS ls (lv_sub hl [3, 4, 5, 6, 7, 2, 1, 0] rfl) (by omega) (⟨by omega, by omega, fun _ => ⟨rfl, rfl⟩, fun _ => Or.inr (fun j h1 h2 => by omega)⟩) (by omega) (Nat.lt_succ_self _)
