
/-- a call that answers a long and writes: the answer is told of -/
def jWL {S : Type} (post : Int64 → S → Prop) (B : S → Heap → Prop) (A : Nat → Prop) : Array Value → State → Outcome → State → Prop := va_Ql post (fun u t => B u t.heap) A
section JWL
variable {p : Program} {l : Launch} {e : Env} {R : Room} {s : State} {m : MethodId} {args : Array Value} {below : List Frame} {meth : Method} {c : Code} {H : Heap} {locs : List Loc} {cells slots : Nat} {Q : State → Prop}
variable {cc : ByteArray} {nL : Nat} {own : String} {pc : Nat} {ls : Array Slot} {rest : List Value}
theorem j_vWL (S : jS p m c cc nL s args own) {D : JD} {P : Heap → Prop} {b : Nat} {As : List Value} {U : Type} {post : Int64 → U → Prop} {B : U → Heap → Prop} {A1 A0 : Nat → Prop} {H0 : Heap} {y : MethodName} {bytes : ByteArray} {maxL n index f nl : Nat} {ret : Option FieldType} (hM : Met l y (jw y bytes maxL ret) (jr f nl) (jP (.ref b :: As) D P) (jWL post B A1) 0 0 A1) (hy : jmV y bytes maxL ret n) (hl : Cond.methodLink own index y ∈ lw_g) (hG : j_K D s) (hP : P H) {ws : va_W} {ci q0 : Nat} {fs : List Value} {q : vw_C} (hW : va_P D.1 j_cl ws H) (hc : j_cl[ci]? = some q) (he : ws[q0]? = some (b, .inr (ci, fs))) (hq : q.1 = y.cls) (hS : va_S A0 H0 H locs) (hA : ∀ q, A1 q → A0 q) (hn : As.length = n) (hls : ls.size = nL) (hR : (f + 1 ≤ R.frames ∧ 8 + (maxL + 11) + nl ≤ R.locals) ∧ (rest.map fun v => v.category).sum ≤ 8 ∧ cells ≤ R.cells ∧ slots ≤ R.slots) {st0 : List Value} (hst : st0 = As.reverse ++ .ref b :: rest) (hdg : decode cc pc = .ok (.invokevirtual index, 3))
    (k : ∀ (x : Int64) (u : U) (H1 : Heap) (locs1 : List Loc), post x u → B u H1 → (H.size ≤ H1.size ∧ ∀ q : Nat, q < H.size → ¬ A1 q → H1[q]? = H[q]?) → va_S A0 H0 H1 locs1 → W p l e R s m args below meth c H1 locs1 cells slots Q (F0 m (pc + 3) ls (.long x :: rest))) : W p l e R s m args below meth c H locs cells slots Q (F0 m pc ls st0) := by
  refine va_calll (va_runV (C := y.cls) S hM ⟨j_cB S hy.1 hy.2.1 hl hy.2.2.2.2 hR.1, S.2.2.2.2 _ hy.2.2.1, S.2.2.2.2 _ hy.2.2.2.1⟩ ⟨jP.blind, hq ▸ va_recv hG.1 hW hc he, jP.at hG hP⟩ rfl hn hls hst (lv_room hR.2.1) hdg hR.2.2) hS (fun q _ h => hA q h) hA (fun r u t H1 locs1 ht hvm hp hB hz hk hS1 => ?_)
  exact k r u H1 locs1 hp (ht ▸ hB) ⟨hz, hk⟩ hS1
end JWL

/-! ===== parts: the reference ===== -/
abbrev inB9 (x y : Int) : Prop := (-80 ≤ x ∧ x ≤ 80) ∧ -80 ≤ y ∧ y ≤ 80
def ixB (x y : Int) : Int := 161 * (y + 80) + x + 80
theorem ixB_u {x y x' y' : Int} (h : inB9 x y) (h' : inB9 x' y') (e : ixB x y = ixB x' y') : x = x' ∧ y = y' := by unfold inB9 at h h'; unfold ixB at e; omega
theorem ixB_r {x y : Int} (h : inB9 x y) : 0 ≤ ixB x y ∧ ixB x y < 25921 := by unfold inB9 at h; unfold ixB; omega
theorem ixB_k {k : Int} (h : 0 ≤ k ∧ k < 25921) : inB9 (k % 161 - 80) (k / 161 - 80) ∧ ixB (k % 161 - 80) (k / 161 - 80) = k := by unfold inB9 ixB; omega
/-- the plane, as far as its places lie before K -/
def arK (f : Nat → Int64) (K x y : Int) : Int64 := if inB9 x y ∧ ixB x y < K then f (ixB x y).toNat else 0
def arN (f : Nat → Int64) (x y : Int) : Int64 := if inB9 x y then f (ixB x y).toNat else 0
theorem arK_e {f : Nat → Int64} {x y : Int} : arK f 25921 x y = arN f x y := by
  unfold arK arN
  by_cases h : inB9 x y
  · rw [if_pos h, if_pos ⟨h, (ixB_r h).2⟩]
  · rw [if_neg h, if_neg (fun q => h q.1)]
theorem arK_0 {f : Nat → Int64} {x y : Int} : arK f 0 x y = 0 := by
  unfold arK
  rw [if_neg (fun q => by have := ixB_r q.1; omega)]
/-- the place K more -/
theorem arK_s {f : Nat → Int64} {K x y : Int} (hK : 0 ≤ K ∧ K < 25921) : arK f (K + 1) x y = arK f K x y + (if x = K % 161 - 80 ∧ y = K / 161 - 80 then f K.toNat else 0) := by
  obtain ⟨k1, k2⟩ := ixB_k hK
  unfold arK
  by_cases h : inB9 x y
  · by_cases e : x = K % 161 - 80 ∧ y = K / 161 - 80
    · rw [if_pos e, if_pos ⟨h, by rw [e.1, e.2, k2]; omega⟩, if_neg (fun q => by rw [e.1, e.2, k2] at q; omega), e.1, e.2, k2]
      grind
    · rw [if_neg e]
      by_cases w : ixB x y < K
      · rw [if_pos ⟨h, by omega⟩, if_pos ⟨h, w⟩]; grind
      · rw [if_neg (fun q => e (ixB_u h k1 (by rw [k2]; omega))), if_neg (fun q => w q.2)]; grind
  · rw [if_neg (fun q => h q.1), if_neg (fun q => h q.1), if_neg (fun q => h (by rw [q.1, q.2]; exact k1))]; grind
/-- what one place gives, by steps -/
def ctw (a : Int64) (cx cy dx dy : Int) : Nat → Int → Int → Int64
  | 0, _, _ => 0
  | t + 1, x, y => ctw a cx cy dx dy t x y + (if x = cx + (t : Int) * dx ∧ y = cy + (t : Int) * dy then a else 0)
theorem ctw_0 {cx cy dx dy : Int} : ∀ (t : Nat) (x y : Int), ctw 0 cx cy dx dy t x y = 0 := by
  intro t
  induction t with
  | zero => intro x y; rfl
  | succ t ih =>
    intro x y
    show ctw 0 cx cy dx dy t x y + (if x = cx + (t : Int) * dx ∧ y = cy + (t : Int) * dy then 0 else 0) = 0
    rw [ih]; split <;> rfl
theorem stw_p {N : Int → Int → Int64} {a : Int64} {cx cy dx dy : Int} {N' : Int → Int → Int64} (h : ∀ x y : Int, N' x y = N x y + (if x = cx ∧ y = cy then a else 0)) : ∀ (s : Nat) (x y : Int), stw N' dx dy s x y = stw N dx dy s x y + ctw a cx cy dx dy (s + 1) x y := by
  intro s
  induction s with
  | zero =>
    intro x y
    show N' x y = N x y + (0 + (if x = cx + ((0 : Nat) : Int) * dx ∧ y = cy + ((0 : Nat) : Int) * dy then a else 0))
    rw [h, show ((0 : Nat) : Int) = 0 from rfl, Int.zero_mul, Int.zero_mul, Int.add_zero, Int.add_zero]
    grind
  | succ s ih =>
    intro x y
    show stw N' dx dy s x y + N' (x - ((s : Int) + 1) * dx) (y - ((s : Int) + 1) * dy) = stw N dx dy s x y + N (x - ((s : Int) + 1) * dx) (y - ((s : Int) + 1) * dy) + (ctw a cx cy dx dy (s + 1) x y + (if x = cx + ((s + 1 : Nat) : Int) * dx ∧ y = cy + ((s + 1 : Nat) : Int) * dy then a else 0))
    rw [ih, h, show ((s + 1 : Nat) : Int) = (s : Int) + 1 by omega]
    by_cases e : x = cx + ((s : Int) + 1) * dx ∧ y = cy + ((s : Int) + 1) * dy
    · rw [if_pos e, if_pos ⟨by omega, by omega⟩]; grind
    · rw [if_neg e, if_neg (fun q => e ⟨by omega, by omega⟩)]; grind
/-- the sides' steps -/
def rdx (v : MS) (s : Int) (j : Nat) : Int := mDX v s j
def rdy (v : MS) (s : Int) (j : Nat) : Int := mDY v s j
def rsn (v : MS) (s : Int) (j : Nat) : Nat := (mS v s j).toNat
def mHS (v : MS) (s : Int) : Prop := HS (SP v s) (mN v s) (fun a => mX v s a) (fun a => mY v s a)
theorem m_side {v : MS} {s : Int} (h : mHS v s) (hn : 2 ≤ mN v s) {j : Nat} (hj : (j : Int) < mN v s) : 0 < rsn v s j ∧ nxt (fun a => mX v s a) (mN v s) j - mX v s j = (rsn v s j : Int) * rdx v s j ∧ nxt (fun a => mY v s a) (mN v s) j - mY v s j = (rsn v s j : Int) * rdy v s j := by
  have nm := nxt_m hj
  have E : mX v s ((j : Int) + 1) - mX v s j ≠ 0 ∨ mY v s ((j : Int) + 1) - mY v s j ≠ 0 := by
    rcases h with ⟨h, _⟩ | ⟨p1, p2, p3, ⟨p4, p5⟩ | ⟨p4, p5, p6⟩⟩
    · omega
    · omega
    · have q := (p6 j hj).1
      rw [nm.1, nm.2] at q
      have e1 : (fun a : Nat => mX v s a) j = mX v s j := rfl
      have e2 : (fun a : Nat => mY v s a) j = mY v s j := rfl
      rw [e1, e2] at q
      omega
  have g := gcd_p E
  have eS : (rsn v s j : Int) = (Int.gcd (mX v s ((j : Int) + 1) - mX v s j) (mY v s ((j : Int) + 1) - mY v s j) : Int) := by unfold rsn mS; omega
  refine ⟨by omega, ?_, ?_⟩
  · rw [nm.1, eS]
    exact (Int.mul_tdiv_cancel' (Int.gcd_dvd_left _ _)).symm
  · rw [nm.2, eS]
    exact (Int.mul_tdiv_cancel' (Int.gcd_dvd_right _ _)).symm
theorem m_home {v : MS} {s : Int} (h : mHS v s) (hS : Sh v s) (hn : 2 ≤ mN v s) {i : Nat} (hi : i ≤ (mN v s).toNat) {x y : Int} (hr : rc9 (rdx v s) (rdy v s) (rsn v s) i x y) (hc : co9 (rdx v s) (rdy v s) (rsn v s) (mN v s).toNat i x y) : inB9 x y := by
  have hb : ∀ j : Nat, (j : Int) < mN v s → (-40 ≤ mX v s j ∧ mX v s j ≤ 40) ∧ -40 ≤ mY v s j ∧ mY v s j ≤ 40 := fun j hj => hS.2.1 (by omega) j (by omega)
  have q := home (X := fun a => mX v s a) (Y := fun a => mY v s a) h hn (fun a ha => hb a ha) (fun j hj => m_side h hn hj) hi hr hc (lx := -40) (hx := 40) (ly := -40) (hy := 40) hb
  have b0 := hb 0 (by omega)
  unfold inB9
  omega
/-- what the plane holds after the sides before i -/
def PNi (v : MS) (s : Int) (i : Nat) (f : Nat → Int64) : Prop := mHS v s → ∀ x y : Int, co9 (rdx v s) (rdy v s) (rsn v s) (mN v s).toNat i x y → arN f x y = MI (rdx v s) (rdy v s) (rsn v s) i x y
theorem PNi_0 {v : MS} {s : Int} {f : Nat → Int64} (h : ∀ j : Nat, (j : Int) < 25921 → f j = if (j : Int) = 12960 then 1 else 0) : PNi v s 0 f := fun _ x y _ => by
  show arN f x y = dl0 x y
  unfold arN dl0
  by_cases b : inB9 x y
  · have r := ixB_r b
    rw [if_pos b, h _ (by omega)]
    by_cases e : x = 0 ∧ y = 0
    · rw [if_pos e, if_pos (by rw [e.1, e.2]; rfl)]
    · rw [if_neg e, if_neg (fun q => e (by unfold inB9 at b; unfold ixB at q r; omega))]
  · rw [if_neg b, if_neg (fun e => b (by rw [e.1, e.2]; unfold inB9; omega))]
theorem PNi_s {v : MS} {s i : Int} {f t g : Nat → Int64} (hS : Sh v s) (hn : 2 < mN v s) (hi : 0 ≤ i ∧ i < mN v s) (h : PNi v s i.toNat f) (ht : ∀ x y : Int, inB9 x y → t (ixB x y).toNat = stw (arK f 25921) (mDX v s i) (mDY v s i) (mS v s i).toNat x y) (hg : ∀ j : Nat, (j : Int) < 25921 → g j = t j) : PNi v s (i + 1).toNat g := fun hH x y hc => by
  rw [show (i + 1).toNat = i.toNat + 1 by omega] at hc ⊢
  have e0 : ((i.toNat : Nat) : Int) = i := by omega
  refine MI_s (N := arN f) (N' := arN g) (R := inB9) (by omega) (fun x y h1 h2 => m_home hH hS (by omega) (by omega) h1 h2) (h hH) (fun x y b => ?_) (fun x y b => if_neg b) x y hc
  have r := ixB_r b
  unfold rdx rdy rsn
  rw [e0]
  show (if inB9 x y then g (ixB x y).toNat else 0) = _
  rw [if_pos b, hg _ (by omega), ht x y b]
  exact stw_c _ _ _ (fun _ _ => arK_e)
def paM (v : MS) (s : Int) (x : Int64) : Prop := (¬ (0 ≤ s ∧ s ≤ 7) ∧ x = -1) ∨ ((0 ≤ s ∧ s ≤ 7) ∧ ((mN v s ≤ 2 ∧ x = -2) ∨ (2 < mN v s ∧ (mHS v s → x = MI (rdx v s) (rdy v s) (rsn v s) (mN v s).toNat 0 0))))
theorem PNi_e {v : MS} {s : Int} {f : Nat → Int64} (h : PNi v s (mN v s).toNat f) (hH : mHS v s) : f 12960 = MI (rdx v s) (rdy v s) (rsn v s) (mN v s).toNat 0 0 := by
  rw [← h hH 0 0 co9_n]
  unfold arN
  rw [if_pos (by unfold inB9; omega)]
  rfl
/-- inside the loop over the steps of a place -/
def PT9 (f t : Nat → Int64) (K dx dy : Int) (s T : Nat) : Prop := ∀ x y : Int, inB9 x y → t (ixB x y).toNat = stw (arK f K) dx dy s x y + ctw (f K.toNat) (K % 161 - 80) (K / 161 - 80) dx dy T x y
theorem PT9_0 {f t : Nat → Int64} {K dx dy : Int} {s : Nat} (h : ∀ x y : Int, inB9 x y → t (ixB x y).toNat = stw (arK f K) dx dy s x y) : PT9 f t K dx dy s 0 := fun x y b => by
  rw [h x y b]
  show _ = _ + (0 : Int64)
  grind
theorem PT9_s {f t : Nat → Int64} {K dx dy T x0 y0 to9 : Int} {s : Nat} (hT : 0 ≤ T) (h : PT9 f t K dx dy s T.toNat) (ex : x0 = K % 161 - 80 + T * dx) (ey : y0 = K / 161 - 80 + T * dy) (hto : (inB9 x0 y0 ∧ to9 = ixB x0 y0)) : PT9 f (vp_updL t to9.toNat (t to9.toNat + f K.toNat)) K dx dy s (T + 1).toNat := fun x y b => by
  rw [show (T + 1).toNat = T.toNat + 1 by omega]
  have q := h x y b
  show vp_updL t to9.toNat (t to9.toNat + f K.toNat) (ixB x y).toNat = _ + (ctw _ _ _ _ _ T.toNat x y + (if x = K % 161 - 80 + ((T.toNat : Nat) : Int) * dx ∧ y = K / 161 - 80 + ((T.toNat : Nat) : Int) * dy then f K.toNat else 0))
  rw [show ((T.toNat : Nat) : Int) = T by omega, ← ex, ← ey]
  have r := ixB_r b
  have r2 := ixB_r hto.1
  by_cases e : x = x0 ∧ y = y0
  · rw [if_pos e, hto.2, e.1, e.2]
    show (if (ixB x0 y0).toNat = (ixB x0 y0).toNat then _ else _) = _
    rw [if_pos rfl]
    rw [e.1, e.2] at q
    rw [q]
    grind
  · rw [if_neg e]
    show (if (ixB x y).toNat = to9.toNat then _ else t (ixB x y).toNat) = _
    rw [if_neg (fun w => e (ixB_u b hto.1 (by omega))), q]
    grind
theorem PT9_n {f t : Nat → Int64} {K dx dy T x0 y0 : Int} {s : Nat} (hT : 0 ≤ T) (h : PT9 f t K dx dy s T.toNat) (ex : x0 = K % 161 - 80 + T * dx) (ey : y0 = K / 161 - 80 + T * dy) (hto : ¬ inB9 x0 y0) : PT9 f t K dx dy s (T + 1).toNat := fun x y b => by
  rw [show (T + 1).toNat = T.toNat + 1 by omega]
  have q := h x y b
  show t (ixB x y).toNat = _ + (ctw _ _ _ _ _ T.toNat x y + (if x = K % 161 - 80 + ((T.toNat : Nat) : Int) * dx ∧ y = K / 161 - 80 + ((T.toNat : Nat) : Int) * dy then f K.toNat else 0))
  rw [show ((T.toNat : Nat) : Int) = T by omega, ← ex, ← ey, if_neg (fun w => hto (by rw [← w.1, ← w.2]; exact b)), q]
  grind
theorem PT9_e {f t : Nat → Int64} {K dx dy : Int} {s : Nat} (hK : 0 ≤ K ∧ K < 25921) (h : PT9 f t K dx dy s (s + 1)) (x y : Int) (b : inB9 x y) : t (ixB x y).toNat = stw (arK f (K + 1)) dx dy s x y := by
  rw [h x y b]
  exact (stw_p (fun x y => arK_s hK) s x y).symm
theorem PT9_z {f t : Nat → Int64} {K dx dy : Int} {s : Nat} (hK : 0 ≤ K ∧ K < 25921) (hz : f K.toNat = 0) (h : ∀ x y : Int, inB9 x y → t (ixB x y).toNat = stw (arK f K) dx dy s x y) (x y : Int) (b : inB9 x y) : t (ixB x y).toNat = stw (arK f (K + 1)) dx dy s x y := by
  rw [h x y b, stw_p (N := arK f K) (N' := arK f (K + 1)) (a := f K.toNat) (fun x y => arK_s hK) s x y, hz, ctw_0]
  grind
