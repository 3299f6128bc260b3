
/-- a shape's corners -/
def SP (v : MS) (s : Int) : Int → Int → Prop := fun x y => ∃ a : Nat, (a : Int) < mN v s ∧ x = mX v s a ∧ y = mY v s a
def mSame (v v' : MS) : Prop := v'.1 0 = v.1 0 ∧ v'.1 1 = v.1 1 ∧ v'.1 2 = v.1 2
def mNew (v v' : MS) (s n : Int) (X Y : Nat → Int) : Prop := (mN v' s = n ∧ ∀ a : Nat, (a : Int) < n → mX v' s a = X a ∧ mY v' s a = Y a) ∧ ∀ r : Int, 0 ≤ r → r ≤ 7 → r ≠ s → mN v' r = mN v r ∧ (0 < mN v r → ∀ i : Int, 0 ≤ i → mX v' r i = mX v r i ∧ mY v' r i = mY v r i)
/-- the hull of S goes to a shape, if it fits -/
def mkM (v v' : MS) (t z : Int) (S : Int → Int → Prop) : Prop := ∃ (n : Int) (X Y : Nat → Int), HS S n X Y ∧ ((z = n ∧ (n ≤ 24 ∧ bd 40 X Y n) ∧ mNew v v' t n X Y) ∨ (z = -3 ∧ ¬ (n ≤ 24 ∧ bd 40 X Y n) ∧ mSame v v'))
theorem mNew_tk {v0 v : MS} {f0 f1 f2 f3 : Nat → Int} {s : Int} (hI : SHs v0) (e0 : v.1 0 = v0.1 0) (e1 : v.1 1 = v0.1 1) (e2 : v.1 2 = v0.1 2) (h0 : 0 ≤ s ∧ s ≤ 7) (hn : 0 ≤ v.2.2 9 ∧ v.2.2 9 ≤ 24) (h : tk_new v f0 f1 f2 f3 s) : mNew v0 (uI (uI (uI (uI v 0 f0) 1 f1) 2 f2) 3 f3) s (v.2.2 9) (v.1 7) (v.1 8) := by
  obtain ⟨k0, ⟨c1, c2⟩, _⟩ := h
  rw [e0] at k0
  rw [e1, e2] at c2
  have eN : ∀ r, mN (uI (uI (uI (uI v 0 f0) 1 f1) 2 f2) 3 f3) r = f0 r.toNat := fun _ => rfl
  have eX : ∀ r i, mX (uI (uI (uI (uI v 0 f0) 1 f1) 2 f2) 3 f3) r i = f1 (24 * r + i.tmod (f0 r.toNat)).toNat := fun _ _ => rfl
  have eY : ∀ r i, mY (uI (uI (uI (uI v 0 f0) 1 f1) 2 f2) 3 f3) r i = f2 (24 * r + i.tmod (f0 r.toNat)).toNat := fun _ _ => rfl
  have es : f0 s.toNat = v.2.2 9 := by rw [k0, upI_s]
  refine ⟨⟨by rw [eN, es], fun a ha => ?_⟩, fun r r0 r7 hr => ?_⟩
  · rw [eX, eY, es, Int.tmod_eq_of_lt (by omega) (by omega)]
    exact c1 a ha
  · have er : f0 r.toNat = mN v0 r := by rw [k0, upI_n (by omega)]
    obtain ⟨a1, _, _⟩ := hI r r0 r7
    refine ⟨by rw [eN, er], fun hp i hi => ?_⟩
    rw [eX, eY, er]
    have q := tm_b hi hp
    exact c2 (24 * r + i.tmod (mN v0 r)).toNat (by omega)
theorem mkM_tk {v0 v : MS} {f0 f1 f2 f3 : Nat → Int} {s b z : Int} {S S' : Int → Int → Prop} (hI : SHs v0) (e0 : v.1 0 = v0.1 0) (e1 : v.1 1 = v0.1 1) (e2 : v.1 2 = v0.1 2) (h0 : 0 ≤ s ∧ s ≤ 7) (hn : 0 ≤ v.2.2 9) (hb : b = 0 ∨ b = 1) (hb0 : b = 0 → bd 40 (v.1 7) (v.1 8) (v.2.2 9)) (hH : HS S' (v.2.2 9) (v.1 7) (v.1 8)) (hS : ∀ x y : Int, S' x y ↔ S x y) (h : (z = -3 ∧ ¬ tk_ok b 40 (v.1 7) (v.1 8) (v.2.2 9) (v.2.2 9) ∧ f0 = v.1 0 ∧ f1 = v.1 1 ∧ f2 = v.1 2 ∧ f3 = v.1 3) ∨ (z = v.2.2 9 ∧ tk_ok b 40 (v.1 7) (v.1 8) (v.2.2 9) (v.2.2 9) ∧ tk_new v f0 f1 f2 f3 s)) : mkM v0 (uI (uI (uI (uI v 0 f0) 1 f1) 2 f2) 3 f3) s z S := by
  refine ⟨v.2.2 9, v.1 7, v.1 8, HS_c hH hS (fun _ _ => ⟨rfl, rfl⟩), ?_⟩
  rcases h with ⟨k1, k2, k3, k4, k5, _⟩ | ⟨k1, k2, k3⟩
  · exact Or.inr ⟨k1, fun q => k2 ⟨q.1, fun _ => q.2⟩, k3.trans e0, k4.trans e1, k5.trans e2⟩
  · refine Or.inl ⟨k1, ⟨k2.1, ?_⟩, mNew_tk hI e0 e1 e2 h0 ⟨hn, k2.1⟩ k3⟩
    rcases hb with e | e
    · exact hb0 e
    · exact k2.2 e
/-- the corners before the place i -/
def SPi (v : MS) (s i : Int) : Int → Int → Prop := fun x y => ∃ a : Nat, (a : Int) < i ∧ x = mX v s a ∧ y = mY v s a
theorem SWW_0 {f g : Nat → Int} {w x y : Int} (h : w ≤ 0) : ¬ SWW f g w x y := fun ⟨a, h1, _⟩ => by omega
def adM (u u' : MS) (s x y z : Int) : Prop := (¬ ((0 ≤ s ∧ s ≤ 7) ∧ (-40 ≤ x ∧ x ≤ 40) ∧ -40 ≤ y ∧ y ≤ 40) ∧ z = -1 ∧ mSame u u') ∨ ((0 ≤ s ∧ s ≤ 7) ∧ ((-40 ≤ x ∧ x ≤ 40) ∧ -40 ≤ y ∧ y ≤ 40) ∧ mkM u u' s z (fun a b => SP u s a b ∨ (a = x ∧ b = y)))
def clM (u u' : MS) (s z : Int) : Prop := (¬ (0 ≤ s ∧ s ≤ 7) ∧ z = -1 ∧ mSame u u') ∨ ((0 ≤ s ∧ s ≤ 7) ∧ z = mN u s ∧ mNew u u' s 0 (fun _ => 0) (fun _ => 0))
/-- all sums -/
def SM (S T : Int → Int → Prop) : Int → Int → Prop := fun x y => ∃ a b c d : Int, S a b ∧ T c d ∧ x = a + c ∧ y = b + d
def smM (u u' : MS) (s s2 t z : Int) : Prop := (¬ ((0 ≤ s ∧ s ≤ 7) ∧ (0 ≤ s2 ∧ s2 ≤ 7) ∧ 0 ≤ t ∧ t ≤ 7) ∧ z = -1 ∧ mSame u u') ∨ ((0 ≤ s ∧ s ≤ 7) ∧ (0 ≤ s2 ∧ s2 ≤ 7) ∧ (0 ≤ t ∧ t ≤ 7) ∧ mkM u u' t z (SM (SP u s) (SP u s2)))
/-- what a map makes -/
def MP (S : Int → Int → Prop) (a b c d e f : Int) : Int → Int → Prop := fun x y => ∃ p q : Int, S p q ∧ x = a * p + b * q + e ∧ y = c * p + d * q + f
def six (a b c d e f : Int) : Prop := (-40 ≤ a ∧ a ≤ 40) ∧ (-40 ≤ b ∧ b ≤ 40) ∧ (-40 ≤ c ∧ c ≤ 40) ∧ (-40 ≤ d ∧ d ≤ 40) ∧ (-40 ≤ e ∧ e ≤ 40) ∧ -40 ≤ f ∧ f ≤ 40
def mpM (u u' : MS) (s t a b c d e f z : Int) : Prop := (¬ ((0 ≤ s ∧ s ≤ 7) ∧ (0 ≤ t ∧ t ≤ 7) ∧ six a b c d e f) ∧ z = -1 ∧ mSame u u') ∨ ((0 ≤ s ∧ s ≤ 7) ∧ (0 ≤ t ∧ t ≤ 7) ∧ six a b c d e f ∧ ((¬ (a * d - b * c = 1 ∨ a * d - b * c = -1) ∧ z = -2 ∧ mSame u u') ∨ ((a * d - b * c = 1 ∨ a * d - b * c = -1) ∧ mkM u u' t z (MP (SP u s) a b c d e f))))
theorem SMi_s {v : MS} {s s2 i : Int} {f g : Nat → Int} {w : Int} (h0 : 0 ≤ i) (h : ∀ x y : Int, SWW f g w x y ↔ SM (SPi v s i) (SP v s2) x y ∨ ∃ b : Nat, (b : Int) < mN v s2 ∧ x = mX v s i + mX v s2 b ∧ y = mY v s i + mY v s2 b) (x y : Int) : SWW f g w x y ↔ SM (SPi v s (i + 1)) (SP v s2) x y := by
  rw [h]
  constructor
  · rintro (⟨a, b, c, d, ⟨k, k1, k2, k3⟩, q⟩ | ⟨b, q1, q2, q3⟩)
    · exact ⟨a, b, c, d, ⟨k, by omega, k2, k3⟩, q⟩
    · exact ⟨_, _, _, _, ⟨i.toNat, by omega, by rw [show ((i.toNat : Nat) : Int) = i by omega], by rw [show ((i.toNat : Nat) : Int) = i by omega]⟩, ⟨b, q1, rfl, rfl⟩, q2, q3⟩
  · rintro ⟨a, b, c, d, ⟨k, k1, k2, k3⟩, ⟨m, m1, m2, m3⟩, q1, q2⟩
    by_cases e : (k : Int) = i
    · rw [e] at k2 k3
      exact Or.inr ⟨m, m1, by omega, by omega⟩
    · exact Or.inl ⟨a, b, c, d, ⟨k, by omega, k2, k3⟩, ⟨m, m1, m2, m3⟩, q1, q2⟩

theorem sp_s {P : Prop} {v : MS} {s i : Int} (h : 0 ≤ i) (x y : Int) : (P ∨ SPi v s i x y) ∨ (x = mX v s i ∧ y = mY v s i) ↔ P ∨ SPi v s (i + 1) x y := by
  constructor
  · rintro ((q | ⟨a, q1, q2⟩) | ⟨q1, q2⟩)
    · exact Or.inl q
    · exact Or.inr ⟨a, by omega, q2⟩
    · exact Or.inr ⟨i.toNat, by omega, by rw [show ((i.toNat : Nat) : Int) = i by omega]; exact ⟨q1, q2⟩⟩
  · rintro (q | ⟨a, q1, q2, q3⟩)
    · exact Or.inl (Or.inl q)
    · by_cases e : (a : Int) = i
      · rw [e] at q2 q3; exact Or.inr ⟨q2, q3⟩
      · exact Or.inl (Or.inr ⟨a, by omega, q2, q3⟩)
theorem sm_s {P : Prop} {v : MS} {s2 j A C x0 y0 : Int} (h : 0 ≤ j) (ex : x0 = A + mX v s2 j) (ey : y0 = C + mY v s2 j) (x y : Int) : (P ∨ ∃ b : Nat, (b : Int) < j ∧ x = A + mX v s2 b ∧ y = C + mY v s2 b) ∨ (x = x0 ∧ y = y0) ↔ P ∨ ∃ b : Nat, (b : Int) < j + 1 ∧ x = A + mX v s2 b ∧ y = C + mY v s2 b := by
  constructor
  · rintro ((q | ⟨a, q1, q2⟩) | ⟨q1, q2⟩)
    · exact Or.inl q
    · exact Or.inr ⟨a, by omega, q2⟩
    · exact Or.inr ⟨j.toNat, by omega, by rw [show ((j.toNat : Nat) : Int) = j by omega]; exact ⟨q1.trans ex, q2.trans ey⟩⟩
  · rintro (q | ⟨a, q1, q2, q3⟩)
    · exact Or.inl (Or.inl q)
    · by_cases e : (a : Int) = j
      · rw [e] at q2 q3; exact Or.inr ⟨q2.trans ex.symm, q3.trans ey.symm⟩
      · exact Or.inl (Or.inr ⟨a, by omega, q2, q3⟩)
theorem mp_s {v : MS} {s i a b c d e f x0 y0 : Int} (h : 0 ≤ i) (ex : x0 = a * mX v s i + b * mY v s i + e) (ey : y0 = c * mX v s i + d * mY v s i + f) (x y : Int) : MP (SPi v s i) a b c d e f x y ∨ (x = x0 ∧ y = y0) ↔ MP (SPi v s (i + 1)) a b c d e f x y := by
  constructor
  · rintro (⟨p, q, ⟨k, k1, k2, k3⟩, r⟩ | ⟨q1, q2⟩)
    · exact ⟨p, q, ⟨k, by omega, k2, k3⟩, r⟩
    · exact ⟨_, _, ⟨i.toNat, by omega, by rw [show ((i.toNat : Nat) : Int) = i by omega], by rw [show ((i.toNat : Nat) : Int) = i by omega]⟩, q1.trans ex, q2.trans ey⟩
  · rintro ⟨p, q, ⟨k, k1, k2, k3⟩, r1, r2⟩
    by_cases w : (k : Int) = i
    · rw [w] at k2 k3
      rw [k2, k3] at r1 r2
      exact Or.inr ⟨r1.trans ex.symm, r2.trans ey.symm⟩
    · exact Or.inl ⟨p, q, ⟨k, by omega, k2, k3⟩, r1, r2⟩

set_option maxHeartbeats 4000000 in
set_option maxRecDepth 100000 in
theorem c_X12_putShape2 (l : Launch) (D : JD) (o : Nat) (q : Nat → Nat) (u : MS) (A : Nat → Prop) (hD : va_D A (mW D o q u)) (s : Int) (p0 : 0 ≤ s ∧ s ≤ 7) (p1 : Sh u s) (p2 : 0 ≤ u.2.2 6 ∧ u.2.2 6 ≤ 600) : Met l yX12_putShape (jw yX12_putShape cX12_putShape 3 none) (jr 1 22) (jP [.ref o, .int (J s)] D (fun H => va_P D.1 j_cl (mW D o q u) H)) (jWv (fun u' => ∃ f : Nat → Int, ∃ g : Nat → Int, ∃ w : Int, u' = (uV (uI (uI u 4 f) 5 g) 6 w) ∧ (w = u.2.2 6 + mN u s ∧ (bd 40 (u.1 4) (u.1 5) (u.2.2 6) → bd 40 f g w) ∧ ∀ x y : Int, SWW f g w x y ↔ SWW (u.1 4) (u.1 5) (u.2.2 6) x y ∨ SPi u s (mN u s) x y)) (fun u' H => va_P D.1 j_cl (mW D o q u') H) A) 0 0 A := by
  refine Met.ofW (cc := cX12_putShape) (maxL := 3) (ret := none) (by decide) rfl ?_
  intro pr en st mi args below meth co s₁ B hml hv
  obtain ⟨rfl, hG, hP⟩ := hv
  have hr := B.returns
  have hlk := B.notSynchronized
  have SS : jS pr mi co cX12_putShape 3 st _ RX12 := ⟨B.exec, B.bytes, hml, findClass_of_methodNamed B.named, fun w hw => atoms_spec (ws := (jw yX12_putShape cX12_putShape 3 none)) B.pre w (List.mem_cons_of_mem _ hw)⟩
  have hl := lv_entry ([.ref o, .int (J s)]) (n := 3) (Nat.le_of_ble_eq_true rfl)
  rw [lg_entry_eq]
  generalize (lg_sl ([.ref o, .int (J s)]) ++ List.replicate (3 - (lg_sl ([.ref o, .int (J s)])).length) Slot.unset).toArray = ls at hl ⊢
  have hl : lv_has ls 3 [(0, .ref o), (1, .int (J s))] := hl
  have hS : va_S A st.heap st.heap [] := va_S.rf
  have hN := p1.1
  have hC := p1.2.2
  refine j_iconst SS dX12_putShape_0 ?_
  refine lv_istore_n (lv' := [(2, .int (J 0)), (0, .ref o), (1, .int (J s))]) SS.1 SS.2.1 dX12_putShape_1 rfl hl (by decide) rfl (fun ls hl => ?_)
  have L_2 : ∀ (nn : Nat) (i : Int) (f : Nat → Int) (g : Nat → Int) (w : Int) (H : Heap) (locs : List Loc) (hP : va_P D.1 j_cl (mW D o q (uV (uI (uI u 4 f) 5 g) 6 w)) H) (hS : va_S A st.heap H locs) (ls : Array Slot) (hl : lv_has ls 3 [(0, .ref o), (1, .int (J s)), (2, .int (J i))]) (i2_0 : 0 ≤ i ∧ i ≤ mN u s) (i2_1 : w = u.2.2 6 + i) (i2_2 : bd 40 (u.1 4) (u.1 5) (u.2.2 6) → bd 40 f g w) (i2_3 : ∀ x y : Int, SWW f g w x y ↔ SWW (u.1 4) (u.1 5) (u.2.2 6) x y ∨ SPi u s i x y), (mN u s - i).toNat < nn → W pr l en (headSpec (jw yX12_putShape cX12_putShape 3 none) (jr 1 22)).room st mi (([.ref o, .int (J s)] : List Value).toArray) below meth co H locs 0 0 (MQ below (jWv (fun u' => ∃ f : Nat → Int, ∃ g : Nat → Int, ∃ w : Int, u' = (uV (uI (uI u 4 f) 5 g) 6 w) ∧ (w = u.2.2 6 + mN u s ∧ (bd 40 (u.1 4) (u.1 5) (u.2.2 6) → bd 40 f g w) ∧ ∀ x y : Int, SWW f g w x y ↔ SWW (u.1 4) (u.1 5) (u.2.2 6) x y ∨ SPi u s (mN u s) x y)) (fun u' H => va_P D.1 j_cl (mW D o q u') H) A) (([.ref o, .int (J s)] : List Value).toArray) st 0 0 A) (F0 mi 2 ls []) := by
    intro nn
    induction nn with
    | zero => intros; omega
    | succ nn ih_2 =>
      intro i f g w H locs hP hS ls hl i2_0 i2_1 i2_2 i2_3 hm
      refine lv_iload_n SS.1 SS.2.1 dX12_putShape_2 rfl (lv_at hl 2 rfl) ?_
      refine lv_aload_n SS.1 SS.2.1 dX12_putShape_3 rfl (lv_at hl 0 rfl) ?_
      refine j_get SS hG hP 0 (v := .ref (q 0)) (C := RX12) (T := TX12) (N := 31) rfl rfl inX12 0 (by decide) (ref := RX12) kw_1058 rfl rfl dX12_putShape_4 ?_
      refine lv_iload_n SS.1 SS.2.1 dX12_putShape_7 rfl (lv_at hl 1 rfl) ?_
      refine j_iald SS hG hP 1 (n := 8) (f := (u.1 0)) rfl (z := s) (by omega) (by omega) dX12_putShape_8 ?_
      refine j_icmp_ge SS (tgt := 34) (x := i) (y := (mN u s)) dX12_putShape_9 (by decide) (by omega) (by omega) (fun c_9 => ?_) (fun c_9 => ?_)
      · skip
        exact W.vret SS.1 SS.2.1 hr (fun t ht hW => ⟨⟨(uV (uI (uI u 4 f) 5 g) 6 w), rfl, (⟨f, g, w, rfl, ⟨by omega, i2_2, by rw [show i = mN u s by omega] at i2_3; exact i2_3⟩⟩), by show va_P D.1 j_cl (mW D o q (uV (uI (uI u 4 f) 5 g) 6 w)) t.heap; rw [ht]; exact hP⟩, hS.F ht⟩) hS.2.2 dX12_putShape_34 hlk
      · skip
        have hb := p1.2.1 (by omega) i (by omega)
        refine lv_aload_n SS.1 SS.2.1 dX12_putShape_12 rfl (lv_at hl 0 rfl) ?_
        refine lv_aload_n SS.1 SS.2.1 dX12_putShape_13 rfl (lv_at hl 0 rfl) ?_
        refine lv_iload_n SS.1 SS.2.1 dX12_putShape_14 rfl (lv_at hl 1 rfl) ?_
        refine lv_iload_n SS.1 SS.2.1 dX12_putShape_15 rfl (lv_at hl 2 rfl) ?_
        refine j_vRi SS (As := [.int (J s), .int (J i)]) (rest := [.ref o]) (c_X12_x l D o q (uV (uI (uI u 4 f) 5 g) 6 w) s i (show 0 ≤ s ∧ s ≤ 7 from (by omega)) (show 0 ≤ i ∧ i ≤ 1000000 from (by omega)) (show 0 < mN u s ∧ mN u s ≤ 24 from (by omega))) mf_X12_x kw_1177 hG hP hP (ci := 8) (q0 := 0) rfl rfl rfl rfl hl.1 ⟨⟨Nat.le_of_ble_eq_true rfl, Nat.le_of_ble_eq_true rfl⟩, Nat.le_of_ble_eq_true rfl, Nat.le_refl _, Nat.le_refl _⟩ rfl dX12_putShape_16 (fun z_16 h_16 => ?_)
        have h_16 : z_16 = mX u s i := h_16
        refine lv_aload_n SS.1 SS.2.1 dX12_putShape_19 rfl (lv_at hl 0 rfl) ?_
        refine lv_iload_n SS.1 SS.2.1 dX12_putShape_20 rfl (lv_at hl 1 rfl) ?_
        refine lv_iload_n SS.1 SS.2.1 dX12_putShape_21 rfl (lv_at hl 2 rfl) ?_
        refine j_vRi SS (As := [.int (J s), .int (J i)]) (rest := [.int (J z_16), .ref o]) (c_X12_y l D o q (uV (uI (uI u 4 f) 5 g) 6 w) s i (show 0 ≤ s ∧ s ≤ 7 from (by omega)) (show 0 ≤ i ∧ i ≤ 1000000 from (by omega)) (show 0 < mN u s ∧ mN u s ≤ 24 from (by omega))) mf_X12_y kw_1181 hG hP hP (ci := 8) (q0 := 0) rfl rfl rfl rfl hl.1 ⟨⟨Nat.le_of_ble_eq_true rfl, Nat.le_of_ble_eq_true rfl⟩, Nat.le_of_ble_eq_true rfl, Nat.le_refl _, Nat.le_refl _⟩ rfl dX12_putShape_22 (fun z_22 h_22 => ?_)
        have h_22 : z_22 = mY u s i := h_22
        refine j_vWv SS (As := [.int (J z_16), .int (J z_22)]) (rest := []) (c_X12_put l D o q (uV (uI (uI u 4 f) 5 g) 6 w) A (mW_D hD) z_16 z_22 (show 0 ≤ w ∧ w < 640 from (by omega))) mf_X12_put kw_1185 hG hP hP (ci := 8) (q0 := 0) rfl rfl rfl hS (fun _ h => h) rfl hl.1 ⟨⟨Nat.le_of_ble_eq_true rfl, Nat.le_of_ble_eq_true rfl⟩, Nat.le_of_ble_eq_true rfl, Nat.le_refl _, Nat.le_refl _⟩ rfl dX12_putShape_25 (fun u25 H locs h_25 hP _ hS => ?_)
        obtain ⟨f_25, g_25, w_25, rfl, h_25⟩ := h_25
        have hP : va_P D.1 j_cl (mW D o q (uV (uI (uI u 4 f_25) 5 g_25) 6 w_25)) H := hP
        have h_25 : f_25 = upI (f) (w).toNat z_16 ∧ g_25 = upI (g) (w).toNat z_22 ∧ w_25 = w + 1 := h_25
        have k1 := h_25.2.2
        refine lv_iinc (v := J (i + 1)) (lv' := [(2, .int (J (i + 1))), (0, .ref o), (1, .int (J s))]) SS.1 SS.2.1 dX12_putShape_28 hl (k := 2) rfl (J_add _ _) (by decide) rfl (fun ls hl => ?_)
        refine lv_goto (tgt := 2) SS.1 SS.2.1 dX12_putShape_31 (by decide) ?_
        exact ih_2 (i + 1) f_25 g_25 w_25 _ _ hP hS ls (lv_sub hl [1, 2, 0] rfl) (by omega) (by omega) (fun h => by obtain ⟨k1, k2, k3⟩ := h_25; rw [k1, k2, k3, h_16, h_22]; exact bd_put (by omega) (i2_2 h) hb.1 hb.2) (fun x y => by obtain ⟨k1, k2, k3⟩ := h_25; rw [k1, k2, k3, SWW_put (by omega), i2_3, h_16, h_22]; exact sp_s i2_0.1 x y) (by omega)
  exact L_2 ((mN u s - (0 : Int)).toNat + 1) 0 (u.1 4) (u.1 5) (u.2.2 6) _ _ hP hS ls (lv_sub hl [1, 2, 0] rfl) (by omega) (by omega) (fun h => h) (fun x y => ⟨Or.inl, fun q => by rcases q with q | ⟨a, q1, _⟩; exact q; omega⟩) (Nat.lt_succ_self _)

set_option maxHeartbeats 4000000 in
set_option maxRecDepth 100000 in
theorem c_X12_clear2 (l : Launch) (D : JD) (o : Nat) (q : Nat → Nat) (u : MS) (A : Nat → Prop) (hD : va_D A (mW D o q u)) (s : Int) (p0 : IM u) (p1 : -2147483648 ≤ s ∧ s ≤ 2147483647) : Met l yX12_clear (jw yX12_clear cX12_clear 4 (some .int)) (jr 3 67) (jP [.ref o, .int (J s)] D (fun H => va_P D.1 j_cl (mW D o q u) H)) (jWi (fun z u' => ∃ f0 : Nat → Int, ∃ f1 : Nat → Int, ∃ f2 : Nat → Int, ∃ f3 : Nat → Int, ∃ nh : Int, u' = (uV (uI (uI (uI (uI u 0 f0) 1 f1) 2 f2) 3 f3) 9 nh) ∧ (IM u' ∧ clM u u' s z)) (fun u' H => va_P D.1 j_cl (mW D o q u') H) A) 0 0 A := by
  refine Met.ofW (cc := cX12_clear) (maxL := 4) (ret := (some .int)) (by decide) rfl ?_
  intro pr en st mi args below meth co s₁ B hml hv
  obtain ⟨rfl, hG, hP⟩ := hv
  have hr := B.returns
  have hlk := B.notSynchronized
  have SS : jS pr mi co cX12_clear 4 st _ RX12 := ⟨B.exec, B.bytes, hml, findClass_of_methodNamed B.named, fun w hw => atoms_spec (ws := (jw yX12_clear cX12_clear 4 (some .int))) B.pre w (List.mem_cons_of_mem _ hw)⟩
  have hl := lv_entry ([.ref o, .int (J s)]) (n := 4) (Nat.le_of_ble_eq_true rfl)
  rw [lg_entry_eq]
  generalize (lg_sl ([.ref o, .int (J s)]) ++ List.replicate (4 - (lg_sl ([.ref o, .int (J s)])).length) Slot.unset).toArray = ls at hl ⊢
  have hl : lv_has ls 4 [(0, .ref o), (1, .int (J s))] := hl
  have hS : va_S A st.heap st.heap [] := va_S.rf
  refine lv_iload_n SS.1 SS.2.1 dX12_clear_0 rfl (lv_at hl 1 rfl) ?_
  refine j_sRi SS (As := [.int (J s)]) (rest := []) (c_X12_isShape l D s (show -2147483648 ≤ s ∧ s ≤ 2147483647 from (by omega))) mf_X12_isShape kw_1156 hG trivial rfl hl.1 ⟨⟨Nat.le_of_ble_eq_true rfl, Nat.le_of_ble_eq_true rfl⟩, Nat.le_of_ble_eq_true rfl, Nat.le_refl _, Nat.le_refl _⟩ rfl dX12_clear_1 (fun z_1 h_1 => ?_)
  have h_1 : (z_1 = 1 ∧ (0 ≤ s ∧ s ≤ 7)) ∨ (z_1 = 0 ∧ ¬ (0 ≤ s ∧ s ≤ 7)) := h_1
  refine j_if_ne SS (tgt := 9) (x := z_1) dX12_clear_4 (by decide) (by omega) (fun c_4 => ?_) (fun c_4 => ?_)
  · skip
    have hs : 0 ≤ s ∧ s ≤ 7 := by omega
    obtain ⟨hN, _, _⟩ := p0.1 s hs.1 hs.2
    refine lv_aload_n SS.1 SS.2.1 dX12_clear_9 rfl (lv_at hl 0 rfl) ?_
    refine j_get SS hG hP 0 (v := .ref (q 0)) (C := RX12) (T := TX12) (N := 31) rfl rfl inX12 0 (by decide) (ref := RX12) kw_1058 rfl rfl dX12_clear_10 ?_
    refine lv_iload_n SS.1 SS.2.1 dX12_clear_13 rfl (lv_at hl 1 rfl) ?_
    refine j_iald SS hG hP 1 (n := 8) (f := (u.1 0)) rfl (z := s) (by omega) (by omega) dX12_clear_14 ?_
    refine lv_istore_n (lv' := [(2, .int (J (mN u s))), (0, .ref o), (1, .int (J s))]) SS.1 SS.2.1 dX12_clear_15 rfl hl (by decide) rfl (fun ls hl => ?_)
    refine lv_aload_n SS.1 SS.2.1 dX12_clear_16 rfl (lv_at hl 1 rfl) ?_
    refine j_iconst SS dX12_clear_17 ?_
    refine j_put SS hG hP (mW_D hD) hS 0 (v := .int (J 0)) (ty := .int) (C := RX12) (T := TX12) (N := 31) rfl rfl inX12 tyX12 tyX12_ok nmX12 9 (by decide) (ref := RX12) kw_1067 rfl rfl (by decide +kernel) rfl rfl (Nat.le_of_ble_eq_true rfl) dX12_clear_18 (ws' := (mW D o q (uV u 9 0))) rfl (fun H locs hP hS => ?_)
    refine lv_aload_n SS.1 SS.2.1 dX12_clear_21 rfl (lv_at hl 1 rfl) ?_
    refine lv_iload_n SS.1 SS.2.1 dX12_clear_22 rfl (lv_at hl 2 rfl) ?_
    refine j_iconst SS dX12_clear_23 ?_
    refine j_vWi SS (As := [.int (J s), .int (J 0)]) (rest := []) (c_X12_take l D o q (uV u 9 0) A (mW_D hD) s 0 (show 0 ≤ s ∧ s ≤ 7 from (by omega)) (show (0 : Int) = 0 ∨ (0 : Int) = 1 from (by omega)) (show 0 ≤ 0 ∧ 0 ≤ 1290 from (by omega)) (show bd 10000 ((u.1 7)) ((u.1 8)) (0) from (fun a ha => by omega))) mf_X12_take kw_1162 hG hP hP (ci := 8) (q0 := 0) rfl rfl rfl hS (fun _ h => h) rfl hl.1 ⟨⟨Nat.le_of_ble_eq_true rfl, Nat.le_of_ble_eq_true rfl⟩, Nat.le_of_ble_eq_true rfl, Nat.le_refl _, Nat.le_refl _⟩ rfl dX12_clear_24 (fun z_24 u24 H locs h_24 hP _ hS => ?_)
    obtain ⟨f0_24, f1_24, f2_24, f3_24, rfl, h_24⟩ := h_24
    have hP : va_P D.1 j_cl (mW D o q (uV (uI (uI (uI (uI u 0 f0_24) 1 f1_24) 2 f2_24) 3 f3_24) 9 0)) H := hP
    have h_24 : (z_24 = -3 ∧ ¬ tk_ok (0 : Int) 40 ((u.1 7)) ((u.1 8)) (0) (0) ∧ f0_24 = (u.1 0) ∧ f1_24 = (u.1 1) ∧ f2_24 = (u.1 2) ∧ f3_24 = (u.1 3)) ∨ (z_24 = 0 ∧ tk_ok (0 : Int) 40 ((u.1 7)) ((u.1 8)) (0) (0) ∧ tk_new (uV u 9 0) f0_24 f1_24 f2_24 f3_24 s) := h_24
    have hz : z_24 = 0 ∧ tk_new (uV u 9 0) f0_24 f1_24 f2_24 f3_24 s := by rcases h_24 with k | k; exact absurd (tk_0.mpr (by omega)) k.2.1; exact ⟨k.1, k.2.2⟩
    refine lv_istore_n (lv' := [(3, .int (J z_24)), (2, .int (J (mN u s))), (0, .ref o), (1, .int (J s))]) SS.1 SS.2.1 dX12_clear_27 rfl hl (by decide) rfl (fun ls hl => ?_)
    refine lv_iload_n SS.1 SS.2.1 dX12_clear_28 rfl (lv_at hl 1 rfl) ?_
    refine lv_iload_n SS.1 SS.2.1 dX12_clear_29 rfl (lv_at hl 0 rfl) ?_
    refine j_iadd SS (x := (mN u s)) (y := z_24) dX12_clear_30 ?_
    exact W.iret SS.1 SS.2.1 hr (fun t ht hW => ⟨⟨_, (uV (uI (uI (uI (uI u 0 f0_24) 1 f1_24) 2 f2_24) 3 f3_24) 9 0), rfl, ⟨((mN u s) + z_24), rfl, (⟨f0_24, f1_24, f2_24, f3_24, 0, rfl, ⟨IM_new (u := uV u 9 0) p0 hs.1 hs.2 (by show (0:Int) ≤ 0 ∧ (0:Int) ≤ 24; omega) (fun a ha => by have : (a : Int) < 0 := ha; omega) (Or.inl (by show (0:Int) ≤ 1; omega)) hz.2, Or.inr ⟨hs, by omega, by have q := mNew_tk (v0 := u) (v := uV u 9 0) p0.1 rfl rfl rfl hs (by show (0:Int) ≤ 0 ∧ (0:Int) ≤ 24; omega) hz.2; exact ⟨⟨q.1.1, fun a ha => by omega⟩, q.2⟩⟩⟩⟩)⟩, by show va_P D.1 j_cl (mW D o q (uV (uI (uI (uI (uI u 0 f0_24) 1 f1_24) 2 f2_24) 3 f3_24) 9 0)) t.heap; rw [ht]; exact hP⟩, hS.F ht⟩) hS.2.2 dX12_clear_31 hlk
  · skip
    refine j_iconst SS dX12_clear_7 ?_
    exact W.iret SS.1 SS.2.1 hr (fun t ht hW => ⟨⟨_, (uV (uI (uI (uI (uI u 0 (u.1 0)) 1 (u.1 1)) 2 (u.1 2)) 3 (u.1 3)) 9 (u.2.2 9)), rfl, ⟨(-1), rfl, (⟨(u.1 0), (u.1 1), (u.1 2), (u.1 3), (u.2.2 9), rfl, ⟨p0, Or.inl ⟨by omega, rfl, rfl, rfl, rfl⟩⟩⟩)⟩, by show va_P D.1 j_cl (mW D o q (uV (uI (uI (uI (uI u 0 (u.1 0)) 1 (u.1 1)) 2 (u.1 2)) 3 (u.1 3)) 9 (u.2.2 9))) t.heap; rw [ht]; exact hP⟩, hS.F ht⟩) hS.2.2 dX12_clear_8 hlk

set_option maxHeartbeats 4000000 in
set_option maxRecDepth 100000 in
theorem c_X12_add2 (l : Launch) (D : JD) (o : Nat) (q : Nat → Nat) (u : MS) (A : Nat → Prop) (hD : va_D A (mW D o q u)) (s : Int) (x : Int) (y : Int) (p0 : IM u) (p1 : -2147483648 ≤ s ∧ s ≤ 2147483647) (p2 : -2147483648 ≤ x ∧ x ≤ 2147483647) (p3 : -2147483648 ≤ y ∧ y ≤ 2147483647) : Met l yX12_add (jw yX12_add cX12_add 4 (some .int)) (jr 3 68) (jP [.ref o, .int (J s), .int (J x), .int (J y)] D (fun H => va_P D.1 j_cl (mW D o q u) H)) (jWi (fun z u' => ∃ f0 : Nat → Int, ∃ f1 : Nat → Int, ∃ f2 : Nat → Int, ∃ f3 : Nat → Int, ∃ f4 : Nat → Int, ∃ f5 : Nat → Int, ∃ w : Int, ∃ X : Nat → Int, ∃ Y : Nat → Int, ∃ nh : Int, u' = (uV (uI (uI (uV (uI (uI (uI (uI (uI (uI u 0 f0) 1 f1) 2 f2) 3 f3) 4 f4) 5 f5) 6 w) 7 X) 8 Y) 9 nh) ∧ (IM u' ∧ adM u u' s x y z)) (fun u' H => va_P D.1 j_cl (mW D o q u') H) A) 0 0 A := by
  refine Met.ofW (cc := cX12_add) (maxL := 4) (ret := (some .int)) (by decide) rfl ?_
  intro pr en st mi args below meth co s₁ B hml hv
  obtain ⟨rfl, hG, hP⟩ := hv
  have hr := B.returns
  have hlk := B.notSynchronized
  have SS : jS pr mi co cX12_add 4 st _ RX12 := ⟨B.exec, B.bytes, hml, findClass_of_methodNamed B.named, fun w hw => atoms_spec (ws := (jw yX12_add cX12_add 4 (some .int))) B.pre w (List.mem_cons_of_mem _ hw)⟩
  have hl := lv_entry ([.ref o, .int (J s), .int (J x), .int (J y)]) (n := 4) (Nat.le_of_ble_eq_true rfl)
  rw [lg_entry_eq]
  generalize (lg_sl ([.ref o, .int (J s), .int (J x), .int (J y)]) ++ List.replicate (4 - (lg_sl ([.ref o, .int (J s), .int (J x), .int (J y)])).length) Slot.unset).toArray = ls at hl ⊢
  have hl : lv_has ls 4 [(0, .ref o), (1, .int (J s)), (2, .int (J x)), (3, .int (J y))] := hl
  have hS : va_S A st.heap st.heap [] := va_S.rf
  refine lv_iload_n SS.1 SS.2.1 dX12_add_0 rfl (lv_at hl 1 rfl) ?_
  refine j_sRi SS (As := [.int (J s)]) (rest := []) (c_X12_isShape l D s (show -2147483648 ≤ s ∧ s ≤ 2147483647 from (by omega))) mf_X12_isShape kw_1156 hG trivial rfl hl.1 ⟨⟨Nat.le_of_ble_eq_true rfl, Nat.le_of_ble_eq_true rfl⟩, Nat.le_of_ble_eq_true rfl, Nat.le_refl _, Nat.le_refl _⟩ rfl dX12_add_1 (fun z_1 h_1 => ?_)
  have h_1 : (z_1 = 1 ∧ (0 ≤ s ∧ s ≤ 7)) ∨ (z_1 = 0 ∧ ¬ (0 ≤ s ∧ s ≤ 7)) := h_1
  refine j_if_eq SS (tgt := 15) (x := z_1) dX12_add_4 (by decide) (by omega) (fun c_4 => ?_) (fun c_4 => ?_)
  · skip
    refine j_iconst SS dX12_add_15 ?_
    exact W.iret SS.1 SS.2.1 hr (fun t ht hW => ⟨⟨_, (uV (uI (uI (uV (uI (uI (uI (uI (uI (uI u 0 (u.1 0)) 1 (u.1 1)) 2 (u.1 2)) 3 (u.1 3)) 4 (u.1 4)) 5 (u.1 5)) 6 (u.2.2 6)) 7 (u.1 7)) 8 (u.1 8)) 9 (u.2.2 9)), rfl, ⟨(-1), rfl, (⟨(u.1 0), (u.1 1), (u.1 2), (u.1 3), (u.1 4), (u.1 5), (u.2.2 6), (u.1 7), (u.1 8), (u.2.2 9), rfl, ⟨p0, Or.inl ⟨by omega, rfl, rfl, rfl, rfl⟩⟩⟩)⟩, by show va_P D.1 j_cl (mW D o q (uV (uI (uI (uV (uI (uI (uI (uI (uI (uI u 0 (u.1 0)) 1 (u.1 1)) 2 (u.1 2)) 3 (u.1 3)) 4 (u.1 4)) 5 (u.1 5)) 6 (u.2.2 6)) 7 (u.1 7)) 8 (u.1 8)) 9 (u.2.2 9))) t.heap; rw [ht]; exact hP⟩, hS.F ht⟩) hS.2.2 dX12_add_16 hlk
  · skip
    refine lv_iload_n SS.1 SS.2.1 dX12_add_7 rfl (lv_at hl 2 rfl) ?_
    refine lv_iload_n SS.1 SS.2.1 dX12_add_8 rfl (lv_at hl 3 rfl) ?_
    refine j_sRi SS (As := [.int (J x), .int (J y)]) (rest := []) (c_X12_isPlace l D x y (show -2147483648 ≤ x ∧ x ≤ 2147483647 from (by omega)) (show -2147483648 ≤ y ∧ y ≤ 2147483647 from (by omega))) mf_X12_isPlace kw_1166 hG trivial rfl hl.1 ⟨⟨Nat.le_of_ble_eq_true rfl, Nat.le_of_ble_eq_true rfl⟩, Nat.le_of_ble_eq_true rfl, Nat.le_refl _, Nat.le_refl _⟩ rfl dX12_add_9 (fun z_9 h_9 => ?_)
    have h_9 : (z_9 = 1 ∧ (-40 ≤ x ∧ x ≤ 40 ∧ -40 ≤ y ∧ y ≤ 40)) ∨ (z_9 = 0 ∧ ¬ (-40 ≤ x ∧ x ≤ 40 ∧ -40 ≤ y ∧ y ≤ 40)) := h_9
    refine j_if_ne SS (tgt := 17) (x := z_9) dX12_add_12 (by decide) (by omega) (fun c_12 => ?_) (fun c_12 => ?_)
    · skip
      refine lv_aload_n SS.1 SS.2.1 dX12_add_17 rfl (lv_at hl 0 rfl) ?_
      refine j_iconst SS dX12_add_18 ?_
      refine j_put SS hG hP (mW_D hD) hS 0 (v := .int (J 0)) (ty := .int) (C := RX12) (T := TX12) (N := 31) rfl rfl inX12 tyX12 tyX12_ok nmX12 6 (by decide) (ref := RX12) kw_1064 rfl rfl (by decide +kernel) rfl rfl (Nat.le_of_ble_eq_true rfl) dX12_add_19 (ws' := (mW D o q (uV u 6 0))) rfl (fun H locs hP hS => ?_)
      refine lv_aload_n SS.1 SS.2.1 dX12_add_22 rfl (lv_at hl 0 rfl) ?_
      refine lv_iload_n SS.1 SS.2.1 dX12_add_23 rfl (lv_at hl 1 rfl) ?_
      refine j_vWv SS (As := [.int (J s)]) (rest := []) (c_X12_putShape2 l D o q (uV u 6 0) A (mW_D hD) s (show 0 ≤ s ∧ s ≤ 7 from (by omega)) (show Sh u s from (p0.1 _ (by omega) (by omega))) (show 0 ≤ 0 ∧ 0 ≤ 600 from (by omega))) mf_X12_putShape kw_1173 hG hP hP (ci := 8) (q0 := 0) rfl rfl rfl hS (fun _ h => h) rfl hl.1 ⟨⟨Nat.le_of_ble_eq_true rfl, Nat.le_of_ble_eq_true rfl⟩, Nat.le_of_ble_eq_true rfl, Nat.le_refl _, Nat.le_refl _⟩ rfl dX12_add_24 (fun u24 H locs h_24 hP _ hS => ?_)
      obtain ⟨f_24, g_24, w_24, rfl, h_24⟩ := h_24
      have hP : va_P D.1 j_cl (mW D o q (uV (uI (uI u 4 f_24) 5 g_24) 6 w_24)) H := hP
      have h_24 : w_24 = 0 + mN u s ∧ (bd 40 ((u.1 4)) ((u.1 5)) (0) → bd 40 f_24 g_24 w_24) ∧ ∀ x y : Int, SWW f_24 g_24 w_24 x y ↔ SWW ((u.1 4)) ((u.1 5)) (0) x y ∨ SPi (uV u 6 0) s (mN u s) x y := h_24
      have hb := h_24.2.1 (fun a ha => by omega)
      have hN := (p0.1 s (by omega) (by omega)).1
      refine lv_aload_n SS.1 SS.2.1 dX12_add_27 rfl (lv_at hl 0 rfl) ?_
      refine lv_iload_n SS.1 SS.2.1 dX12_add_28 rfl (lv_at hl 2 rfl) ?_
      refine lv_iload_n SS.1 SS.2.1 dX12_add_29 rfl (lv_at hl 3 rfl) ?_
      refine j_vWv SS (As := [.int (J x), .int (J y)]) (rest := []) (c_X12_put l D o q (uV (uI (uI u 4 f_24) 5 g_24) 6 w_24) A (mW_D hD) x y (show 0 ≤ w_24 ∧ w_24 < 640 from (by omega))) mf_X12_put kw_1185 hG hP hP (ci := 8) (q0 := 0) rfl rfl rfl hS (fun _ h => h) rfl hl.1 ⟨⟨Nat.le_of_ble_eq_true rfl, Nat.le_of_ble_eq_true rfl⟩, Nat.le_of_ble_eq_true rfl, Nat.le_refl _, Nat.le_refl _⟩ rfl dX12_add_30 (fun u30 H locs h_30 hP _ hS => ?_)
      obtain ⟨f_30, g_30, w_30, rfl, h_30⟩ := h_30
      have hP : va_P D.1 j_cl (mW D o q (uV (uI (uI u 4 f_30) 5 g_30) 6 w_30)) H := hP
      have h_30 : f_30 = upI (f_24) (w_24).toNat x ∧ g_30 = upI (g_24) (w_24).toNat y ∧ w_30 = w_24 + 1 := h_30
      have hb3 : bd 40 f_30 g_30 w_30 := by obtain ⟨k1, k2, k3⟩ := h_30; rw [k1, k2, k3]; exact bd_put (by omega) hb (by omega) (by omega)
      have hw3 : w_30 = mN u s + 1 := by have := h_30.2.2; omega
      have hS3 : ∀ a b : Int, SWW f_30 g_30 w_30 a b ↔ SP u s a b ∨ (a = x ∧ b = y) := fun a b => by obtain ⟨k1, k2, k3⟩ := h_30; rw [k1, k2, k3, SWW_put (by omega), h_24.2.2]; exact ⟨fun q => by rcases q with (q | q) | q; exact absurd q (SWW_0 (by omega)); exact Or.inl q; exact Or.inr q, fun q => by rcases q with q | q; exact Or.inl (Or.inr q); exact Or.inr q⟩
      refine lv_aload_n SS.1 SS.2.1 dX12_add_33 rfl (lv_at hl 0 rfl) ?_
      refine j_vWv SS (As := []) (rest := []) (c_X12_findHull2 l D o q (uV (uI (uI u 4 f_30) 5 g_30) 6 w_30) A (mW_D hD)  (show 0 ≤ w_30 ∧ w_30 ≤ 640 from (by omega)) (show bd 10000 (f_30) (g_30) (w_30) from (bd_K hb3 (by omega)))) mf_X12_findHull kw_1189 hG hP hP (ci := 8) (q0 := 0) rfl rfl rfl hS (fun _ h => h) rfl hl.1 ⟨⟨Nat.le_of_ble_eq_true rfl, Nat.le_of_ble_eq_true rfl⟩, Nat.le_of_ble_eq_true rfl, Nat.le_refl _, Nat.le_refl _⟩ rfl dX12_add_34 (fun u34 H locs h_34 hP _ hS => ?_)
      obtain ⟨f_34, g_34, w_34, X_34, Y_34, nh_34, rfl, h_34⟩ := h_34
      have hP : va_P D.1 j_cl (mW D o q (uV (uI (uI (uV (uI (uI u 4 f_34) 5 g_34) 6 w_34) 7 X_34) 8 Y_34) 9 nh_34)) H := hP
      have h_34 : 0 ≤ nh_34 ∧ nh_34 ≤ 1290 ∧ Ch nh_34 X_34 Y_34 ∧ (0 < w_30 → 0 < nh_34) ∧ bd 10000 X_34 Y_34 nh_34 ∧ (∀ K : Int, bd K (f_30) (g_30) (w_30) → bd K X_34 Y_34 nh_34) ∧ HS (SWW (f_30) (g_30) (w_30)) nh_34 X_34 Y_34 := h_34
      obtain ⟨a1, a2, a3, a4, a5, a6, a7⟩ := h_34
      have hb4 := a6 40 hb3
      refine lv_aload_n SS.1 SS.2.1 dX12_add_37 rfl (lv_at hl 0 rfl) ?_
      refine lv_iload_n SS.1 SS.2.1 dX12_add_38 rfl (lv_at hl 1 rfl) ?_
      refine j_iconst SS dX12_add_39 ?_
      refine j_vWi SS (As := [.int (J s), .int (J 0)]) (rest := []) (c_X12_take l D o q (uV (uI (uI (uV (uI (uI u 4 f_34) 5 g_34) 6 w_34) 7 X_34) 8 Y_34) 9 nh_34) A (mW_D hD) s 0 (show 0 ≤ s ∧ s ≤ 7 from (by omega)) (show (0 : Int) = 0 ∨ (0 : Int) = 1 from (by omega)) (show 0 ≤ nh_34 ∧ nh_34 ≤ 1290 from (by omega)) (show bd 10000 (X_34) (Y_34) (nh_34) from (a5))) mf_X12_take kw_1162 hG hP hP (ci := 8) (q0 := 0) rfl rfl rfl hS (fun _ h => h) rfl hl.1 ⟨⟨Nat.le_of_ble_eq_true rfl, Nat.le_of_ble_eq_true rfl⟩, Nat.le_of_ble_eq_true rfl, Nat.le_refl _, Nat.le_refl _⟩ rfl dX12_add_40 (fun z_40 u40 H locs h_40 hP _ hS => ?_)
      obtain ⟨f0_40, f1_40, f2_40, f3_40, rfl, h_40⟩ := h_40
      have hP : va_P D.1 j_cl (mW D o q (uV (uI (uI (uV (uI (uI (uI (uI (uI (uI u 0 f0_40) 1 f1_40) 2 f2_40) 3 f3_40) 4 f_34) 5 g_34) 6 w_34) 7 X_34) 8 Y_34) 9 nh_34)) H := hP
      have h_40 : (z_40 = -3 ∧ ¬ tk_ok (0 : Int) 40 (X_34) (Y_34) (nh_34) (nh_34) ∧ f0_40 = (u.1 0) ∧ f1_40 = (u.1 1) ∧ f2_40 = (u.1 2) ∧ f3_40 = (u.1 3)) ∨ (z_40 = nh_34 ∧ tk_ok (0 : Int) 40 (X_34) (Y_34) (nh_34) (nh_34) ∧ tk_new (uV (uI (uI (uV (uI (uI u 4 f_34) 5 g_34) 6 w_34) 7 X_34) 8 Y_34) 9 nh_34) f0_40 f1_40 f2_40 f3_40 s) := h_40
      exact W.iret SS.1 SS.2.1 hr (fun t ht hW => ⟨⟨_, (uV (uI (uI (uV (uI (uI (uI (uI (uI (uI u 0 f0_40) 1 f1_40) 2 f2_40) 3 f3_40) 4 f_34) 5 g_34) 6 w_34) 7 X_34) 8 Y_34) 9 nh_34), rfl, ⟨z_40, rfl, (⟨f0_40, f1_40, f2_40, f3_40, f_34, g_34, w_34, X_34, Y_34, nh_34, rfl, ⟨(show IM (uI (uI (uI (uI (uV (uI (uI (uV (uI (uI u 4 f_34) 5 g_34) 6 w_34) 7 X_34) 8 Y_34) 9 nh_34) 0 f0_40) 1 f1_40) 2 f2_40) 3 f3_40) from IM_tk (u := (uV (uI (uI (uV (uI (uI u 4 f_34) 5 g_34) 6 w_34) 7 X_34) 8 Y_34) 9 nh_34)) p0 ⟨by omega, by omega⟩ (Or.inl rfl) a1 (fun _ => hb4) a3 h_40), Or.inr ⟨by omega, by omega, mkM_tk (v0 := u) (v := (uV (uI (uI (uV (uI (uI u 4 f_34) 5 g_34) 6 w_34) 7 X_34) 8 Y_34) 9 nh_34)) p0.1 rfl rfl rfl ⟨by omega, by omega⟩ a1 (Or.inl rfl) (fun _ => hb4) a7 hS3 h_40⟩⟩⟩)⟩, by show va_P D.1 j_cl (mW D o q (uV (uI (uI (uV (uI (uI (uI (uI (uI (uI u 0 f0_40) 1 f1_40) 2 f2_40) 3 f3_40) 4 f_34) 5 g_34) 6 w_34) 7 X_34) 8 Y_34) 9 nh_34)) t.heap; rw [ht]; exact hP⟩, hS.F ht⟩) hS.2.2 dX12_add_43 hlk
    · skip
      refine j_iconst SS dX12_add_15 ?_
      exact W.iret SS.1 SS.2.1 hr (fun t ht hW => ⟨⟨_, (uV (uI (uI (uV (uI (uI (uI (uI (uI (uI u 0 (u.1 0)) 1 (u.1 1)) 2 (u.1 2)) 3 (u.1 3)) 4 (u.1 4)) 5 (u.1 5)) 6 (u.2.2 6)) 7 (u.1 7)) 8 (u.1 8)) 9 (u.2.2 9)), rfl, ⟨(-1), rfl, (⟨(u.1 0), (u.1 1), (u.1 2), (u.1 3), (u.1 4), (u.1 5), (u.2.2 6), (u.1 7), (u.1 8), (u.2.2 9), rfl, ⟨p0, Or.inl ⟨by omega, rfl, rfl, rfl, rfl⟩⟩⟩)⟩, by show va_P D.1 j_cl (mW D o q (uV (uI (uI (uV (uI (uI (uI (uI (uI (uI u 0 (u.1 0)) 1 (u.1 1)) 2 (u.1 2)) 3 (u.1 3)) 4 (u.1 4)) 5 (u.1 5)) 6 (u.2.2 6)) 7 (u.1 7)) 8 (u.1 8)) 9 (u.2.2 9))) t.heap; rw [ht]; exact hP⟩, hS.F ht⟩) hS.2.2 dX12_add_16 hlk

set_option maxHeartbeats 4000000 in
set_option maxRecDepth 100000 in
theorem c_X12_findSum2 (l : Launch) (D : JD) (o : Nat) (q : Nat → Nat) (u : MS) (A : Nat → Prop) (hD : va_D A (mW D o q u)) (s : Int) (s2 : Int) (p0 : 0 ≤ s ∧ s ≤ 7) (p1 : Sh u s) (p2 : 0 ≤ s2 ∧ s2 ≤ 7) (p3 : Sh u s2) : Met l yX12_findSum (jw yX12_findSum cX12_findSum 5 none) (jr 3 68) (jP [.ref o, .int (J s), .int (J s2)] D (fun H => va_P D.1 j_cl (mW D o q u) H)) (jWv (fun u' => ∃ f : Nat → Int, ∃ g : Nat → Int, ∃ w : Int, ∃ X : Nat → Int, ∃ Y : Nat → Int, ∃ nh : Int, u' = (uV (uI (uI (uV (uI (uI u 4 f) 5 g) 6 w) 7 X) 8 Y) 9 nh) ∧ (0 ≤ nh ∧ nh ≤ 1290 ∧ Ch nh X Y ∧ bd 10000 X Y nh ∧ bd 80 X Y nh ∧ HS (SM (SP u s) (SP u s2)) nh X Y)) (fun u' H => va_P D.1 j_cl (mW D o q u') H) A) 0 0 A := by
  refine Met.ofW (cc := cX12_findSum) (maxL := 5) (ret := none) (by decide) rfl ?_
  intro pr en st mi args below meth co s₁ B hml hv
  obtain ⟨rfl, hG, hP⟩ := hv
  have hr := B.returns
  have hlk := B.notSynchronized
  have SS : jS pr mi co cX12_findSum 5 st _ RX12 := ⟨B.exec, B.bytes, hml, findClass_of_methodNamed B.named, fun w hw => atoms_spec (ws := (jw yX12_findSum cX12_findSum 5 none)) B.pre w (List.mem_cons_of_mem _ hw)⟩
  have hl := lv_entry ([.ref o, .int (J s), .int (J s2)]) (n := 5) (Nat.le_of_ble_eq_true rfl)
  rw [lg_entry_eq]
  generalize (lg_sl ([.ref o, .int (J s), .int (J s2)]) ++ List.replicate (5 - (lg_sl ([.ref o, .int (J s), .int (J s2)])).length) Slot.unset).toArray = ls at hl ⊢
  have hl : lv_has ls 5 [(0, .ref o), (1, .int (J s)), (2, .int (J s2))] := hl
  have hS : va_S A st.heap st.heap [] := va_S.rf
  have hN := p1.1
  have hN2 := p3.1
  refine lv_aload_n SS.1 SS.2.1 dX12_findSum_0 rfl (lv_at hl 0 rfl) ?_
  refine j_iconst SS dX12_findSum_1 ?_
  refine j_put SS hG hP (mW_D hD) hS 0 (v := .int (J 0)) (ty := .int) (C := RX12) (T := TX12) (N := 31) rfl rfl inX12 tyX12 tyX12_ok nmX12 6 (by decide) (ref := RX12) kw_1064 rfl rfl (by decide +kernel) rfl rfl (Nat.le_of_ble_eq_true rfl) dX12_findSum_2 (ws' := (mW D o q (uV u 6 0))) rfl (fun H locs hP hS => ?_)
  refine j_iconst SS dX12_findSum_5 ?_
  refine lv_istore_n (lv' := [(3, .int (J 0)), (0, .ref o), (1, .int (J s)), (2, .int (J s2))]) SS.1 SS.2.1 dX12_findSum_6 rfl hl (by decide) rfl (fun ls hl => ?_)
  have L_7 : ∀ (nn : Nat) (i : Int) (f : Nat → Int) (g : Nat → Int) (w : Int) (H : Heap) (locs : List Loc) (hP : va_P D.1 j_cl (mW D o q (uV (uI (uI u 4 f) 5 g) 6 w)) H) (hS : va_S A st.heap H locs) (ls : Array Slot) (hl : lv_has ls 5 [(0, .ref o), (1, .int (J s)), (2, .int (J s2)), (3, .int (J i))]) (i7_0 : 0 ≤ i ∧ i ≤ mN u s) (i7_1 : 0 ≤ w ∧ w ≤ 24 * i) (i7_2 : bd 80 f g w) (i7_3 : ∀ x y : Int, SWW f g w x y ↔ SM (SPi u s i) (SP u s2) x y), (mN u s - i).toNat < nn → W pr l en (headSpec (jw yX12_findSum cX12_findSum 5 none) (jr 3 68)).room st mi (([.ref o, .int (J s), .int (J s2)] : List Value).toArray) below meth co H locs 0 0 (MQ below (jWv (fun u' => ∃ f : Nat → Int, ∃ g : Nat → Int, ∃ w : Int, ∃ X : Nat → Int, ∃ Y : Nat → Int, ∃ nh : Int, u' = (uV (uI (uI (uV (uI (uI u 4 f) 5 g) 6 w) 7 X) 8 Y) 9 nh) ∧ (0 ≤ nh ∧ nh ≤ 1290 ∧ Ch nh X Y ∧ bd 10000 X Y nh ∧ bd 80 X Y nh ∧ HS (SM (SP u s) (SP u s2)) nh X Y)) (fun u' H => va_P D.1 j_cl (mW D o q u') H) A) (([.ref o, .int (J s), .int (J s2)] : List Value).toArray) st 0 0 A) (F0 mi 7 ls []) := by
    intro nn
    induction nn with
    | zero => intros; omega
    | succ nn ih_7 =>
      intro i f g w H locs hP hS ls hl i7_0 i7_1 i7_2 i7_3 hm
      refine lv_iload_n SS.1 SS.2.1 dX12_findSum_7 rfl (lv_at hl 3 rfl) ?_
      refine lv_aload_n SS.1 SS.2.1 dX12_findSum_8 rfl (lv_at hl 0 rfl) ?_
      refine j_get SS hG hP 0 (v := .ref (q 0)) (C := RX12) (T := TX12) (N := 31) rfl rfl inX12 0 (by decide) (ref := RX12) kw_1058 rfl rfl dX12_findSum_9 ?_
      refine lv_iload_n SS.1 SS.2.1 dX12_findSum_12 rfl (lv_at hl 1 rfl) ?_
      refine j_iald SS hG hP 1 (n := 8) (f := (u.1 0)) rfl (z := s) (by omega) (by omega) dX12_findSum_13 ?_
      have hN_13 := (show Sh u s from (by first | exact p1 | exact p3)).1
      refine j_icmp_ge SS (tgt := 75) (x := i) (y := (mN u s)) dX12_findSum_14 (by decide) (by omega) (by omega) (fun c_14 => ?_) (fun c_14 => ?_)
      · skip
        refine lv_aload_n SS.1 SS.2.1 dX12_findSum_75 rfl (lv_at hl 0 rfl) ?_
        refine j_vWv SS (As := []) (rest := []) (c_X12_findHull2 l D o q (uV (uI (uI u 4 f) 5 g) 6 w) A (mW_D hD)  (show 0 ≤ w ∧ w ≤ 640 from (by omega)) (show bd 10000 (f) (g) (w) from (bd_K i7_2 (by omega)))) mf_X12_findHull kw_1189 hG hP hP (ci := 8) (q0 := 0) rfl rfl rfl hS (fun _ h => h) rfl hl.1 ⟨⟨Nat.le_of_ble_eq_true rfl, Nat.le_of_ble_eq_true rfl⟩, Nat.le_of_ble_eq_true rfl, Nat.le_refl _, Nat.le_refl _⟩ rfl dX12_findSum_76 (fun u76 H locs h_76 hP _ hS => ?_)
        obtain ⟨f_76, g_76, w_76, X_76, Y_76, nh_76, rfl, h_76⟩ := h_76
        have hP : va_P D.1 j_cl (mW D o q (uV (uI (uI (uV (uI (uI u 4 f_76) 5 g_76) 6 w_76) 7 X_76) 8 Y_76) 9 nh_76)) H := hP
        have h_76 : 0 ≤ nh_76 ∧ nh_76 ≤ 1290 ∧ Ch nh_76 X_76 Y_76 ∧ (0 < w → 0 < nh_76) ∧ bd 10000 X_76 Y_76 nh_76 ∧ (∀ K : Int, bd K (f) (g) (w) → bd K X_76 Y_76 nh_76) ∧ HS (SWW (f) (g) (w)) nh_76 X_76 Y_76 := h_76
        obtain ⟨a1, a2, a3, a4, a5, a6, a7⟩ := h_76
        exact W.vret SS.1 SS.2.1 hr (fun t ht hW => ⟨⟨(uV (uI (uI (uV (uI (uI u 4 f_76) 5 g_76) 6 w_76) 7 X_76) 8 Y_76) 9 nh_76), rfl, (⟨f_76, g_76, w_76, X_76, Y_76, nh_76, rfl, ⟨a1, a2, a3, a5, a6 80 i7_2, HS_c a7 (by rw [show i = mN u s by omega] at i7_3; exact i7_3) (fun _ _ => ⟨rfl, rfl⟩)⟩⟩), by show va_P D.1 j_cl (mW D o q (uV (uI (uI (uV (uI (uI u 4 f_76) 5 g_76) 6 w_76) 7 X_76) 8 Y_76) 9 nh_76)) t.heap; rw [ht]; exact hP⟩, hS.F ht⟩) hS.2.2 dX12_findSum_79 hlk
      · skip
        refine j_iconst SS dX12_findSum_17 ?_
        refine lv_istore (lv' := [(4, .int (J 0)), (0, .ref o), (1, .int (J s)), (2, .int (J s2)), (3, .int (J i))]) SS.1 SS.2.1 dX12_findSum_18 hl (by decide) rfl (fun ls hl => ?_)
        have L_20 : ∀ (nn : Nat) (j : Int) (f_ : Nat → Int) (g_ : Nat → Int) (w_ : Int) (H : Heap) (locs : List Loc) (hP : va_P D.1 j_cl (mW D o q (uV (uI (uI u 4 f_) 5 g_) 6 w_)) H) (hS : va_S A st.heap H locs) (ls : Array Slot) (hl : lv_has ls 5 [(0, .ref o), (1, .int (J s)), (2, .int (J s2)), (3, .int (J i)), (4, .int (J j))]) (i20_0 : 0 ≤ j ∧ j ≤ mN u s2) (i20_1 : 0 ≤ w_ ∧ w_ ≤ 24 * i + j) (i20_2 : bd 80 f_ g_ w_) (i20_3 : ∀ x y : Int, SWW f_ g_ w_ x y ↔ SM (SPi u s i) (SP u s2) x y ∨ ∃ b : Nat, (b : Int) < j ∧ x = mX u s i + mX u s2 b ∧ y = mY u s i + mY u s2 b), (mN u s2 - j).toNat < nn → W pr l en (headSpec (jw yX12_findSum cX12_findSum 5 none) (jr 3 68)).room st mi (([.ref o, .int (J s), .int (J s2)] : List Value).toArray) below meth co H locs 0 0 (MQ below (jWv (fun u' => ∃ f : Nat → Int, ∃ g : Nat → Int, ∃ w : Int, ∃ X : Nat → Int, ∃ Y : Nat → Int, ∃ nh : Int, u' = (uV (uI (uI (uV (uI (uI u 4 f) 5 g) 6 w) 7 X) 8 Y) 9 nh) ∧ (0 ≤ nh ∧ nh ≤ 1290 ∧ Ch nh X Y ∧ bd 10000 X Y nh ∧ bd 80 X Y nh ∧ HS (SM (SP u s) (SP u s2)) nh X Y)) (fun u' H => va_P D.1 j_cl (mW D o q u') H) A) (([.ref o, .int (J s), .int (J s2)] : List Value).toArray) st 0 0 A) (F0 mi 20 ls []) := by
          intro nn
          induction nn with
          | zero => intros; omega
          | succ nn ih_20 =>
            intro j f_ g_ w_ H locs hP hS ls hl i20_0 i20_1 i20_2 i20_3 hm
            refine lv_iload SS.1 SS.2.1 dX12_findSum_20 (lv_at hl 4 rfl) ?_
            refine lv_aload_n SS.1 SS.2.1 dX12_findSum_22 rfl (lv_at hl 0 rfl) ?_
            refine j_get SS hG hP 0 (v := .ref (q 0)) (C := RX12) (T := TX12) (N := 31) rfl rfl inX12 0 (by decide) (ref := RX12) kw_1058 rfl rfl dX12_findSum_23 ?_
            refine lv_iload_n SS.1 SS.2.1 dX12_findSum_26 rfl (lv_at hl 2 rfl) ?_
            refine j_iald SS hG hP 1 (n := 8) (f := (u.1 0)) rfl (z := s2) (by omega) (by omega) dX12_findSum_27 ?_
            have hN_27 := (show Sh u s2 from (by first | exact p1 | exact p3)).1
            refine j_icmp_ge SS (tgt := 69) (x := j) (y := (mN u s2)) dX12_findSum_28 (by decide) (by omega) (by omega) (fun c_28 => ?_) (fun c_28 => ?_)
            · skip
              refine lv_iinc (v := J (i + 1)) (lv' := [(3, .int (J (i + 1))), (0, .ref o), (1, .int (J s)), (2, .int (J s2)), (4, .int (J j))]) SS.1 SS.2.1 dX12_findSum_69 hl (k := 3) rfl (J_add _ _) (by decide) rfl (fun ls hl => ?_)
              refine lv_goto (tgt := 7) SS.1 SS.2.1 dX12_findSum_72 (by decide) ?_
              exact ih_7 (i + 1) f_ g_ w_ _ _ hP hS ls (lv_sub hl [1, 2, 3, 0] rfl) (by omega) (by omega) (i20_2) (SMi_s i7_0.1 (by rw [show j = mN u s2 by omega] at i20_3; exact i20_3)) (by omega)
            · skip
              refine lv_aload_n SS.1 SS.2.1 dX12_findSum_31 rfl (lv_at hl 0 rfl) ?_
              refine lv_aload_n SS.1 SS.2.1 dX12_findSum_32 rfl (lv_at hl 0 rfl) ?_
              refine lv_iload_n SS.1 SS.2.1 dX12_findSum_33 rfl (lv_at hl 1 rfl) ?_
              refine lv_iload_n SS.1 SS.2.1 dX12_findSum_34 rfl (lv_at hl 3 rfl) ?_
              refine j_vRi SS (As := [.int (J s), .int (J i)]) (rest := [.ref o]) (c_X12_x l D o q (uV (uI (uI u 4 f_) 5 g_) 6 w_) s i (show 0 ≤ s ∧ s ≤ 7 from (by omega)) (show 0 ≤ i ∧ i ≤ 1000000 from (by omega)) (show 0 < mN u s ∧ mN u s ≤ 24 from (by first | omega | (have hq := (show Sh u s from (by first | exact p1 | exact p3)).1; omega)))) mf_X12_x kw_1177 hG hP hP (ci := 8) (q0 := 0) rfl rfl rfl rfl hl.1 ⟨⟨Nat.le_of_ble_eq_true rfl, Nat.le_of_ble_eq_true rfl⟩, Nat.le_of_ble_eq_true rfl, Nat.le_refl _, Nat.le_refl _⟩ rfl dX12_findSum_35 (fun z_35 h_35 => ?_)
              have h_35 : z_35 = mX u s i := h_35
              have hb_35 := (show Sh u s from (by first | exact p1 | exact p3)).2.1 (by omega) i (by omega)
              refine lv_aload_n SS.1 SS.2.1 dX12_findSum_38 rfl (lv_at hl 0 rfl) ?_
              refine lv_iload_n SS.1 SS.2.1 dX12_findSum_39 rfl (lv_at hl 2 rfl) ?_
              refine lv_iload SS.1 SS.2.1 dX12_findSum_40 (lv_at hl 4 rfl) ?_
              refine j_vRi SS (As := [.int (J s2), .int (J j)]) (rest := [.int (J z_35), .ref o]) (c_X12_x l D o q (uV (uI (uI u 4 f_) 5 g_) 6 w_) s2 j (show 0 ≤ s2 ∧ s2 ≤ 7 from (by omega)) (show 0 ≤ j ∧ j ≤ 1000000 from (by omega)) (show 0 < mN u s2 ∧ mN u s2 ≤ 24 from (by first | omega | (have hq := (show Sh u s2 from (by first | exact p1 | exact p3)).1; omega)))) mf_X12_x kw_1177 hG hP hP (ci := 8) (q0 := 0) rfl rfl rfl rfl hl.1 ⟨⟨Nat.le_of_ble_eq_true rfl, Nat.le_of_ble_eq_true rfl⟩, Nat.le_of_ble_eq_true rfl, Nat.le_refl _, Nat.le_refl _⟩ rfl dX12_findSum_42 (fun z_42 h_42 => ?_)
              have h_42 : z_42 = mX u s2 j := h_42
              have hb_42 := (show Sh u s2 from (by first | exact p1 | exact p3)).2.1 (by omega) j (by omega)
              refine j_iadd SS (x := z_35) (y := z_42) dX12_findSum_45 ?_
              refine lv_aload_n SS.1 SS.2.1 dX12_findSum_46 rfl (lv_at hl 0 rfl) ?_
              refine lv_iload_n SS.1 SS.2.1 dX12_findSum_47 rfl (lv_at hl 1 rfl) ?_
              refine lv_iload_n SS.1 SS.2.1 dX12_findSum_48 rfl (lv_at hl 3 rfl) ?_
              refine j_vRi SS (As := [.int (J s), .int (J i)]) (rest := [.int (J (z_35 + z_42)), .ref o]) (c_X12_y l D o q (uV (uI (uI u 4 f_) 5 g_) 6 w_) s i (show 0 ≤ s ∧ s ≤ 7 from (by omega)) (show 0 ≤ i ∧ i ≤ 1000000 from (by omega)) (show 0 < mN u s ∧ mN u s ≤ 24 from (by first | omega | (have hq := (show Sh u s from (by first | exact p1 | exact p3)).1; omega)))) mf_X12_y kw_1181 hG hP hP (ci := 8) (q0 := 0) rfl rfl rfl rfl hl.1 ⟨⟨Nat.le_of_ble_eq_true rfl, Nat.le_of_ble_eq_true rfl⟩, Nat.le_of_ble_eq_true rfl, Nat.le_refl _, Nat.le_refl _⟩ rfl dX12_findSum_49 (fun z_49 h_49 => ?_)
              have h_49 : z_49 = mY u s i := h_49
              have hb_49 := (show Sh u s from (by first | exact p1 | exact p3)).2.1 (by omega) i (by omega)
              refine lv_aload_n SS.1 SS.2.1 dX12_findSum_52 rfl (lv_at hl 0 rfl) ?_
              refine lv_iload_n SS.1 SS.2.1 dX12_findSum_53 rfl (lv_at hl 2 rfl) ?_
              refine lv_iload SS.1 SS.2.1 dX12_findSum_54 (lv_at hl 4 rfl) ?_
              refine j_vRi SS (As := [.int (J s2), .int (J j)]) (rest := [.int (J z_49), .int (J (z_35 + z_42)), .ref o]) (c_X12_y l D o q (uV (uI (uI u 4 f_) 5 g_) 6 w_) s2 j (show 0 ≤ s2 ∧ s2 ≤ 7 from (by omega)) (show 0 ≤ j ∧ j ≤ 1000000 from (by omega)) (show 0 < mN u s2 ∧ mN u s2 ≤ 24 from (by first | omega | (have hq := (show Sh u s2 from (by first | exact p1 | exact p3)).1; omega)))) mf_X12_y kw_1181 hG hP hP (ci := 8) (q0 := 0) rfl rfl rfl rfl hl.1 ⟨⟨Nat.le_of_ble_eq_true rfl, Nat.le_of_ble_eq_true rfl⟩, Nat.le_of_ble_eq_true rfl, Nat.le_refl _, Nat.le_refl _⟩ rfl dX12_findSum_56 (fun z_56 h_56 => ?_)
              have h_56 : z_56 = mY u s2 j := h_56
              have hb_56 := (show Sh u s2 from (by first | exact p1 | exact p3)).2.1 (by omega) j (by omega)
              refine j_iadd SS (x := z_49) (y := z_56) dX12_findSum_59 ?_
              refine j_vWv SS (As := [.int (J (z_35 + z_42)), .int (J (z_49 + z_56))]) (rest := []) (c_X12_put l D o q (uV (uI (uI u 4 f_) 5 g_) 6 w_) A (mW_D hD) (z_35 + z_42) (z_49 + z_56) (show 0 ≤ w_ ∧ w_ < 640 from (by omega))) mf_X12_put kw_1185 hG hP hP (ci := 8) (q0 := 0) rfl rfl rfl hS (fun _ h => h) rfl hl.1 ⟨⟨Nat.le_of_ble_eq_true rfl, Nat.le_of_ble_eq_true rfl⟩, Nat.le_of_ble_eq_true rfl, Nat.le_refl _, Nat.le_refl _⟩ rfl dX12_findSum_60 (fun u60 H locs h_60 hP _ hS => ?_)
              obtain ⟨f_60, g_60, w_60, rfl, h_60⟩ := h_60
              have hP : va_P D.1 j_cl (mW D o q (uV (uI (uI u 4 f_60) 5 g_60) 6 w_60)) H := hP
              have h_60 : f_60 = upI (f_) (w_).toNat (z_35 + z_42) ∧ g_60 = upI (g_) (w_).toNat (z_49 + z_56) ∧ w_60 = w_ + 1 := h_60
              have k1 := h_60.2.2
              refine lv_iinc (v := J (j + 1)) (lv' := [(4, .int (J (j + 1))), (0, .ref o), (1, .int (J s)), (2, .int (J s2)), (3, .int (J i))]) SS.1 SS.2.1 dX12_findSum_63 hl (k := 4) rfl (J_add _ _) (by decide) rfl (fun ls hl => ?_)
              refine lv_goto (tgt := 20) SS.1 SS.2.1 dX12_findSum_66 (by decide) ?_
              exact ih_20 (j + 1) f_60 g_60 w_60 _ _ hP hS ls (lv_sub hl [1, 2, 3, 4, 0] rfl) (by omega) (by omega) (by obtain ⟨k1, k2, k3⟩ := h_60; rw [k1, k2, k3]; exact bd_put (by omega) i20_2 (by omega) (by omega)) (fun x y => by obtain ⟨k1, k2, k3⟩ := h_60; rw [k1, k2, k3, SWW_put (by omega), i20_3]; exact sm_s i20_0.1 (by rw [h_35, h_42]) (by rw [h_49, h_56]) x y) (by omega)
        exact L_20 ((mN u s2 - (0 : Int)).toNat + 1) 0 f g w _ _ hP hS ls (lv_sub hl [1, 2, 3, 4, 0] rfl) (by omega) (by omega) (i7_2) (fun x y => (i7_3 x y).trans ⟨Or.inl, fun q => by rcases q with q | ⟨b, q1, _⟩; exact q; omega⟩) (Nat.lt_succ_self _)
  exact L_7 ((mN u s - (0 : Int)).toNat + 1) 0 (u.1 4) (u.1 5) 0 _ _ hP hS ls (lv_sub hl [1, 2, 3, 0] rfl) (by omega) (by omega) (fun a ha => by omega) (fun x y => ⟨fun q => absurd q (SWW_0 (by omega)), fun ⟨a, b, c, d, ⟨k, k1, _⟩, _⟩ => by omega⟩) (Nat.lt_succ_self _)

set_option maxHeartbeats 4000000 in
set_option maxRecDepth 100000 in
theorem c_X12_sum2 (l : Launch) (D : JD) (o : Nat) (q : Nat → Nat) (u : MS) (A : Nat → Prop) (hD : va_D A (mW D o q u)) (s : Int) (s2 : Int) (t2 : Int) (p0 : IM u) (p1 : -2147483648 ≤ s ∧ s ≤ 2147483647) (p2 : -2147483648 ≤ s2 ∧ s2 ≤ 2147483647) (p3 : -2147483648 ≤ t2 ∧ t2 ≤ 2147483647) : Met l yX12_sum (jw yX12_sum cX12_sum 4 (some .int)) (jr 4 92) (jP [.ref o, .int (J s), .int (J s2), .int (J t2)] D (fun H => va_P D.1 j_cl (mW D o q u) H)) (jWi (fun z u' => ∃ f0 : Nat → Int, ∃ f1 : Nat → Int, ∃ f2 : Nat → Int, ∃ f3 : Nat → Int, ∃ f4 : Nat → Int, ∃ f5 : Nat → Int, ∃ w : Int, ∃ X : Nat → Int, ∃ Y : Nat → Int, ∃ nh : Int, u' = (uV (uI (uI (uV (uI (uI (uI (uI (uI (uI u 0 f0) 1 f1) 2 f2) 3 f3) 4 f4) 5 f5) 6 w) 7 X) 8 Y) 9 nh) ∧ (IM u' ∧ smM u u' s s2 t2 z)) (fun u' H => va_P D.1 j_cl (mW D o q u') H) A) 0 0 A := by
  refine Met.ofW (cc := cX12_sum) (maxL := 4) (ret := (some .int)) (by decide) rfl ?_
  intro pr en st mi args below meth co s₁ B hml hv
  obtain ⟨rfl, hG, hP⟩ := hv
  have hr := B.returns
  have hlk := B.notSynchronized
  have SS : jS pr mi co cX12_sum 4 st _ RX12 := ⟨B.exec, B.bytes, hml, findClass_of_methodNamed B.named, fun w hw => atoms_spec (ws := (jw yX12_sum cX12_sum 4 (some .int))) B.pre w (List.mem_cons_of_mem _ hw)⟩
  have hl := lv_entry ([.ref o, .int (J s), .int (J s2), .int (J t2)]) (n := 4) (Nat.le_of_ble_eq_true rfl)
  rw [lg_entry_eq]
  generalize (lg_sl ([.ref o, .int (J s), .int (J s2), .int (J t2)]) ++ List.replicate (4 - (lg_sl ([.ref o, .int (J s), .int (J s2), .int (J t2)])).length) Slot.unset).toArray = ls at hl ⊢
  have hl : lv_has ls 4 [(0, .ref o), (1, .int (J s)), (2, .int (J s2)), (3, .int (J t2))] := hl
  have hS : va_S A st.heap st.heap [] := va_S.rf
  refine lv_iload_n SS.1 SS.2.1 dX12_sum_0 rfl (lv_at hl 1 rfl) ?_
  refine j_sRi SS (As := [.int (J s)]) (rest := []) (c_X12_isShape l D s (show -2147483648 ≤ s ∧ s ≤ 2147483647 from (by omega))) mf_X12_isShape kw_1156 hG trivial rfl hl.1 ⟨⟨Nat.le_of_ble_eq_true rfl, Nat.le_of_ble_eq_true rfl⟩, Nat.le_of_ble_eq_true rfl, Nat.le_refl _, Nat.le_refl _⟩ rfl dX12_sum_1 (fun z_1 h_1 => ?_)
  have h_1 : (z_1 = 1 ∧ (0 ≤ s ∧ s ≤ 7)) ∨ (z_1 = 0 ∧ ¬ (0 ≤ s ∧ s ≤ 7)) := h_1
  refine j_if_eq SS (tgt := 21) (x := z_1) dX12_sum_4 (by decide) (by omega) (fun c_4 => ?_) (fun c_4 => ?_)
  · skip
    refine j_iconst SS dX12_sum_21 ?_
    exact W.iret SS.1 SS.2.1 hr (fun t ht hW => ⟨⟨_, (uV (uI (uI (uV (uI (uI (uI (uI (uI (uI u 0 (u.1 0)) 1 (u.1 1)) 2 (u.1 2)) 3 (u.1 3)) 4 (u.1 4)) 5 (u.1 5)) 6 (u.2.2 6)) 7 (u.1 7)) 8 (u.1 8)) 9 (u.2.2 9)), rfl, ⟨(-1), rfl, (⟨(u.1 0), (u.1 1), (u.1 2), (u.1 3), (u.1 4), (u.1 5), (u.2.2 6), (u.1 7), (u.1 8), (u.2.2 9), rfl, ⟨p0, Or.inl ⟨by omega, rfl, rfl, rfl, rfl⟩⟩⟩)⟩, by show va_P D.1 j_cl (mW D o q (uV (uI (uI (uV (uI (uI (uI (uI (uI (uI u 0 (u.1 0)) 1 (u.1 1)) 2 (u.1 2)) 3 (u.1 3)) 4 (u.1 4)) 5 (u.1 5)) 6 (u.2.2 6)) 7 (u.1 7)) 8 (u.1 8)) 9 (u.2.2 9))) t.heap; rw [ht]; exact hP⟩, hS.F ht⟩) hS.2.2 dX12_sum_22 hlk
  · skip
    refine lv_iload_n SS.1 SS.2.1 dX12_sum_7 rfl (lv_at hl 2 rfl) ?_
    refine j_sRi SS (As := [.int (J s2)]) (rest := []) (c_X12_isShape l D s2 (show -2147483648 ≤ s2 ∧ s2 ≤ 2147483647 from (by omega))) mf_X12_isShape kw_1156 hG trivial rfl hl.1 ⟨⟨Nat.le_of_ble_eq_true rfl, Nat.le_of_ble_eq_true rfl⟩, Nat.le_of_ble_eq_true rfl, Nat.le_refl _, Nat.le_refl _⟩ rfl dX12_sum_8 (fun z_8 h_8 => ?_)
    have h_8 : (z_8 = 1 ∧ (0 ≤ s2 ∧ s2 ≤ 7)) ∨ (z_8 = 0 ∧ ¬ (0 ≤ s2 ∧ s2 ≤ 7)) := h_8
    refine j_if_eq SS (tgt := 21) (x := z_8) dX12_sum_11 (by decide) (by omega) (fun c_11 => ?_) (fun c_11 => ?_)
    · skip
      refine j_iconst SS dX12_sum_21 ?_
      exact W.iret SS.1 SS.2.1 hr (fun t ht hW => ⟨⟨_, (uV (uI (uI (uV (uI (uI (uI (uI (uI (uI u 0 (u.1 0)) 1 (u.1 1)) 2 (u.1 2)) 3 (u.1 3)) 4 (u.1 4)) 5 (u.1 5)) 6 (u.2.2 6)) 7 (u.1 7)) 8 (u.1 8)) 9 (u.2.2 9)), rfl, ⟨(-1), rfl, (⟨(u.1 0), (u.1 1), (u.1 2), (u.1 3), (u.1 4), (u.1 5), (u.2.2 6), (u.1 7), (u.1 8), (u.2.2 9), rfl, ⟨p0, Or.inl ⟨by omega, rfl, rfl, rfl, rfl⟩⟩⟩)⟩, by show va_P D.1 j_cl (mW D o q (uV (uI (uI (uV (uI (uI (uI (uI (uI (uI u 0 (u.1 0)) 1 (u.1 1)) 2 (u.1 2)) 3 (u.1 3)) 4 (u.1 4)) 5 (u.1 5)) 6 (u.2.2 6)) 7 (u.1 7)) 8 (u.1 8)) 9 (u.2.2 9))) t.heap; rw [ht]; exact hP⟩, hS.F ht⟩) hS.2.2 dX12_sum_22 hlk
    · skip
      refine lv_iload_n SS.1 SS.2.1 dX12_sum_14 rfl (lv_at hl 3 rfl) ?_
      refine j_sRi SS (As := [.int (J t2)]) (rest := []) (c_X12_isShape l D t2 (show -2147483648 ≤ t2 ∧ t2 ≤ 2147483647 from (by omega))) mf_X12_isShape kw_1156 hG trivial rfl hl.1 ⟨⟨Nat.le_of_ble_eq_true rfl, Nat.le_of_ble_eq_true rfl⟩, Nat.le_of_ble_eq_true rfl, Nat.le_refl _, Nat.le_refl _⟩ rfl dX12_sum_15 (fun z_15 h_15 => ?_)
      have h_15 : (z_15 = 1 ∧ (0 ≤ t2 ∧ t2 ≤ 7)) ∨ (z_15 = 0 ∧ ¬ (0 ≤ t2 ∧ t2 ≤ 7)) := h_15
      refine j_if_ne SS (tgt := 23) (x := z_15) dX12_sum_18 (by decide) (by omega) (fun c_18 => ?_) (fun c_18 => ?_)
      · skip
        refine lv_aload_n SS.1 SS.2.1 dX12_sum_23 rfl (lv_at hl 0 rfl) ?_
        refine lv_iload_n SS.1 SS.2.1 dX12_sum_24 rfl (lv_at hl 1 rfl) ?_
        refine lv_iload_n SS.1 SS.2.1 dX12_sum_25 rfl (lv_at hl 2 rfl) ?_
        refine j_vWv SS (As := [.int (J s), .int (J s2)]) (rest := []) (c_X12_findSum2 l D o q u A (mW_D hD) s s2 (show 0 ≤ s ∧ s ≤ 7 from (by omega)) (show Sh u s from (p0.1 _ (by omega) (by omega))) (show 0 ≤ s2 ∧ s2 ≤ 7 from (by omega)) (show Sh u s2 from (p0.1 _ (by omega) (by omega)))) mf_X12_findSum kw_1317 hG hP hP (ci := 8) (q0 := 0) rfl rfl rfl hS (fun _ h => h) rfl hl.1 ⟨⟨Nat.le_of_ble_eq_true rfl, Nat.le_of_ble_eq_true rfl⟩, Nat.le_of_ble_eq_true rfl, Nat.le_refl _, Nat.le_refl _⟩ rfl dX12_sum_26 (fun u26 H locs h_26 hP _ hS => ?_)
        obtain ⟨f_26, g_26, w_26, X_26, Y_26, nh_26, rfl, h_26⟩ := h_26
        have hP : va_P D.1 j_cl (mW D o q (uV (uI (uI (uV (uI (uI u 4 f_26) 5 g_26) 6 w_26) 7 X_26) 8 Y_26) 9 nh_26)) H := hP
        have h_26 : 0 ≤ nh_26 ∧ nh_26 ≤ 1290 ∧ Ch nh_26 X_26 Y_26 ∧ bd 10000 X_26 Y_26 nh_26 ∧ bd 80 X_26 Y_26 nh_26 ∧ HS (SM (SP u s) (SP u s2)) nh_26 X_26 Y_26 := h_26
        obtain ⟨a1, a2, a3, a4, a5, a7⟩ := h_26
        refine lv_aload_n SS.1 SS.2.1 dX12_sum_29 rfl (lv_at hl 0 rfl) ?_
        refine lv_iload_n SS.1 SS.2.1 dX12_sum_30 rfl (lv_at hl 3 rfl) ?_
        refine j_iconst SS dX12_sum_31 ?_
        refine j_vWi SS (As := [.int (J t2), .int (J 1)]) (rest := []) (c_X12_take l D o q (uV (uI (uI (uV (uI (uI u 4 f_26) 5 g_26) 6 w_26) 7 X_26) 8 Y_26) 9 nh_26) A (mW_D hD) t2 1 (show 0 ≤ t2 ∧ t2 ≤ 7 from (by omega)) (show (1 : Int) = 0 ∨ (1 : Int) = 1 from (by omega)) (show 0 ≤ nh_26 ∧ nh_26 ≤ 1290 from (by omega)) (show bd 10000 (X_26) (Y_26) (nh_26) from (a4))) mf_X12_take kw_1162 hG hP hP (ci := 8) (q0 := 0) rfl rfl rfl hS (fun _ h => h) rfl hl.1 ⟨⟨Nat.le_of_ble_eq_true rfl, Nat.le_of_ble_eq_true rfl⟩, Nat.le_of_ble_eq_true rfl, Nat.le_refl _, Nat.le_refl _⟩ rfl dX12_sum_32 (fun z_32 u32 H locs h_32 hP _ hS => ?_)
        obtain ⟨f0_32, f1_32, f2_32, f3_32, rfl, h_32⟩ := h_32
        have hP : va_P D.1 j_cl (mW D o q (uV (uI (uI (uV (uI (uI (uI (uI (uI (uI u 0 f0_32) 1 f1_32) 2 f2_32) 3 f3_32) 4 f_26) 5 g_26) 6 w_26) 7 X_26) 8 Y_26) 9 nh_26)) H := hP
        have h_32 : (z_32 = -3 ∧ ¬ tk_ok (1 : Int) 40 (X_26) (Y_26) (nh_26) (nh_26) ∧ f0_32 = (u.1 0) ∧ f1_32 = (u.1 1) ∧ f2_32 = (u.1 2) ∧ f3_32 = (u.1 3)) ∨ (z_32 = nh_26 ∧ tk_ok (1 : Int) 40 (X_26) (Y_26) (nh_26) (nh_26) ∧ tk_new (uV (uI (uI (uV (uI (uI u 4 f_26) 5 g_26) 6 w_26) 7 X_26) 8 Y_26) 9 nh_26) f0_32 f1_32 f2_32 f3_32 t2) := h_32
        exact W.iret SS.1 SS.2.1 hr (fun t ht hW => ⟨⟨_, (uV (uI (uI (uV (uI (uI (uI (uI (uI (uI u 0 f0_32) 1 f1_32) 2 f2_32) 3 f3_32) 4 f_26) 5 g_26) 6 w_26) 7 X_26) 8 Y_26) 9 nh_26), rfl, ⟨z_32, rfl, (⟨f0_32, f1_32, f2_32, f3_32, f_26, g_26, w_26, X_26, Y_26, nh_26, rfl, ⟨(show IM (uI (uI (uI (uI (uV (uI (uI (uV (uI (uI u 4 f_26) 5 g_26) 6 w_26) 7 X_26) 8 Y_26) 9 nh_26) 0 f0_32) 1 f1_32) 2 f2_32) 3 f3_32) from IM_tk (u := (uV (uI (uI (uV (uI (uI u 4 f_26) 5 g_26) 6 w_26) 7 X_26) 8 Y_26) 9 nh_26)) p0 ⟨by omega, by omega⟩ (Or.inr rfl) a1 (fun q => by omega) a3 h_32), Or.inr ⟨by omega, by omega, by omega, mkM_tk (v0 := u) (v := (uV (uI (uI (uV (uI (uI u 4 f_26) 5 g_26) 6 w_26) 7 X_26) 8 Y_26) 9 nh_26)) p0.1 rfl rfl rfl ⟨by omega, by omega⟩ a1 (Or.inr rfl) (fun q => by omega) a7 (fun _ _ => Iff.rfl) h_32⟩⟩⟩)⟩, by show va_P D.1 j_cl (mW D o q (uV (uI (uI (uV (uI (uI (uI (uI (uI (uI u 0 f0_32) 1 f1_32) 2 f2_32) 3 f3_32) 4 f_26) 5 g_26) 6 w_26) 7 X_26) 8 Y_26) 9 nh_26)) t.heap; rw [ht]; exact hP⟩, hS.F ht⟩) hS.2.2 dX12_sum_35 hlk
      · skip
        refine j_iconst SS dX12_sum_21 ?_
        exact W.iret SS.1 SS.2.1 hr (fun t ht hW => ⟨⟨_, (uV (uI (uI (uV (uI (uI (uI (uI (uI (uI u 0 (u.1 0)) 1 (u.1 1)) 2 (u.1 2)) 3 (u.1 3)) 4 (u.1 4)) 5 (u.1 5)) 6 (u.2.2 6)) 7 (u.1 7)) 8 (u.1 8)) 9 (u.2.2 9)), rfl, ⟨(-1), rfl, (⟨(u.1 0), (u.1 1), (u.1 2), (u.1 3), (u.1 4), (u.1 5), (u.2.2 6), (u.1 7), (u.1 8), (u.2.2 9), rfl, ⟨p0, Or.inl ⟨by omega, rfl, rfl, rfl, rfl⟩⟩⟩)⟩, by show va_P D.1 j_cl (mW D o q (uV (uI (uI (uV (uI (uI (uI (uI (uI (uI u 0 (u.1 0)) 1 (u.1 1)) 2 (u.1 2)) 3 (u.1 3)) 4 (u.1 4)) 5 (u.1 5)) 6 (u.2.2 6)) 7 (u.1 7)) 8 (u.1 8)) 9 (u.2.2 9))) t.heap; rw [ht]; exact hP⟩, hS.F ht⟩) hS.2.2 dX12_sum_22 hlk

set_option maxHeartbeats 4000000 in
set_option maxRecDepth 100000 in
theorem c_X12_map2 (l : Launch) (D : JD) (o : Nat) (q : Nat → Nat) (u : MS) (A : Nat → Prop) (hD : va_D A (mW D o q u)) (s : Int) (t2 : Int) (a : Int) (b : Int) (c : Int) (d : Int) (e : Int) (f : Int) (p0 : IM u) (p1 : -2147483648 ≤ s ∧ s ≤ 2147483647) (p2 : -2147483648 ≤ t2 ∧ t2 ≤ 2147483647) (p3 : -2147483648 ≤ a ∧ a ≤ 2147483647) (p4 : -2147483648 ≤ b ∧ b ≤ 2147483647) (p5 : -2147483648 ≤ c ∧ c ≤ 2147483647) (p6 : -2147483648 ≤ d ∧ d ≤ 2147483647) (p7 : -2147483648 ≤ e ∧ e ≤ 2147483647) (p8 : -2147483648 ≤ f ∧ f ≤ 2147483647) : Met l yX12_map (jw yX12_map cX12_map 10 (some .int)) (jr 3 68) (jP [.ref o, .int (J s), .int (J t2), .int (J a), .int (J b), .int (J c), .int (J d), .int (J e), .int (J f)] D (fun H => va_P D.1 j_cl (mW D o q u) H)) (jWi (fun z u' => ∃ f0 : Nat → Int, ∃ f1 : Nat → Int, ∃ f2 : Nat → Int, ∃ f3 : Nat → Int, ∃ f4 : Nat → Int, ∃ f5 : Nat → Int, ∃ w : Int, ∃ X : Nat → Int, ∃ Y : Nat → Int, ∃ nh : Int, u' = (uV (uI (uI (uV (uI (uI (uI (uI (uI (uI u 0 f0) 1 f1) 2 f2) 3 f3) 4 f4) 5 f5) 6 w) 7 X) 8 Y) 9 nh) ∧ (IM u' ∧ mpM u u' s t2 a b c d e f z)) (fun u' H => va_P D.1 j_cl (mW D o q u') H) A) 0 0 A := by
  refine Met.ofW (cc := cX12_map) (maxL := 10) (ret := (some .int)) (by decide) rfl ?_
  intro pr en st mi args below meth co s₁ B hml hv
  obtain ⟨rfl, hG, hP⟩ := hv
  have hr := B.returns
  have hlk := B.notSynchronized
  have SS : jS pr mi co cX12_map 10 st _ RX12 := ⟨B.exec, B.bytes, hml, findClass_of_methodNamed B.named, fun w hw => atoms_spec (ws := (jw yX12_map cX12_map 10 (some .int))) B.pre w (List.mem_cons_of_mem _ hw)⟩
  have hl := lv_entry ([.ref o, .int (J s), .int (J t2), .int (J a), .int (J b), .int (J c), .int (J d), .int (J e), .int (J f)]) (n := 10) (Nat.le_of_ble_eq_true rfl)
  rw [lg_entry_eq]
  generalize (lg_sl ([.ref o, .int (J s), .int (J t2), .int (J a), .int (J b), .int (J c), .int (J d), .int (J e), .int (J f)]) ++ List.replicate (10 - (lg_sl ([.ref o, .int (J s), .int (J t2), .int (J a), .int (J b), .int (J c), .int (J d), .int (J e), .int (J f)])).length) Slot.unset).toArray = ls at hl ⊢
  have hl : lv_has ls 10 [(0, .ref o), (1, .int (J s)), (2, .int (J t2)), (3, .int (J a)), (4, .int (J b)), (5, .int (J c)), (6, .int (J d)), (7, .int (J e)), (8, .int (J f))] := hl
  have hS : va_S A st.heap st.heap [] := va_S.rf
  refine lv_iload_n SS.1 SS.2.1 dX12_map_0 rfl (lv_at hl 1 rfl) ?_
  refine j_sRi SS (As := [.int (J s)]) (rest := []) (c_X12_isShape l D s (show -2147483648 ≤ s ∧ s ≤ 2147483647 from (by omega))) mf_X12_isShape kw_1156 hG trivial rfl hl.1 ⟨⟨Nat.le_of_ble_eq_true rfl, Nat.le_of_ble_eq_true rfl⟩, Nat.le_of_ble_eq_true rfl, Nat.le_refl _, Nat.le_refl _⟩ rfl dX12_map_1 (fun z_1 h_1 => ?_)
  have h_1 : (z_1 = 1 ∧ (0 ≤ s ∧ s ≤ 7)) ∨ (z_1 = 0 ∧ ¬ (0 ≤ s ∧ s ≤ 7)) := h_1
  refine j_if_eq SS (tgt := 43) (x := z_1) dX12_map_4 (by decide) (by omega) (fun c_4 => ?_) (fun c_4 => ?_)
  · skip
    refine j_iconst SS dX12_map_43 ?_
    exact W.iret SS.1 SS.2.1 hr (fun t ht hW => ⟨⟨_, (uV (uI (uI (uV (uI (uI (uI (uI (uI (uI u 0 (u.1 0)) 1 (u.1 1)) 2 (u.1 2)) 3 (u.1 3)) 4 (u.1 4)) 5 (u.1 5)) 6 (u.2.2 6)) 7 (u.1 7)) 8 (u.1 8)) 9 (u.2.2 9)), rfl, ⟨(-1), rfl, (⟨(u.1 0), (u.1 1), (u.1 2), (u.1 3), (u.1 4), (u.1 5), (u.2.2 6), (u.1 7), (u.1 8), (u.2.2 9), rfl, ⟨p0, Or.inl ⟨by unfold six; omega, rfl, rfl, rfl, rfl⟩⟩⟩)⟩, by show va_P D.1 j_cl (mW D o q (uV (uI (uI (uV (uI (uI (uI (uI (uI (uI u 0 (u.1 0)) 1 (u.1 1)) 2 (u.1 2)) 3 (u.1 3)) 4 (u.1 4)) 5 (u.1 5)) 6 (u.2.2 6)) 7 (u.1 7)) 8 (u.1 8)) 9 (u.2.2 9))) t.heap; rw [ht]; exact hP⟩, hS.F ht⟩) hS.2.2 dX12_map_44 hlk
  · skip
    refine lv_iload_n SS.1 SS.2.1 dX12_map_7 rfl (lv_at hl 2 rfl) ?_
    refine j_sRi SS (As := [.int (J t2)]) (rest := []) (c_X12_isShape l D t2 (show -2147483648 ≤ t2 ∧ t2 ≤ 2147483647 from (by omega))) mf_X12_isShape kw_1156 hG trivial rfl hl.1 ⟨⟨Nat.le_of_ble_eq_true rfl, Nat.le_of_ble_eq_true rfl⟩, Nat.le_of_ble_eq_true rfl, Nat.le_refl _, Nat.le_refl _⟩ rfl dX12_map_8 (fun z_8 h_8 => ?_)
    have h_8 : (z_8 = 1 ∧ (0 ≤ t2 ∧ t2 ≤ 7)) ∨ (z_8 = 0 ∧ ¬ (0 ≤ t2 ∧ t2 ≤ 7)) := h_8
    refine j_if_eq SS (tgt := 43) (x := z_8) dX12_map_11 (by decide) (by omega) (fun c_11 => ?_) (fun c_11 => ?_)
    · skip
      refine j_iconst SS dX12_map_43 ?_
      exact W.iret SS.1 SS.2.1 hr (fun t ht hW => ⟨⟨_, (uV (uI (uI (uV (uI (uI (uI (uI (uI (uI u 0 (u.1 0)) 1 (u.1 1)) 2 (u.1 2)) 3 (u.1 3)) 4 (u.1 4)) 5 (u.1 5)) 6 (u.2.2 6)) 7 (u.1 7)) 8 (u.1 8)) 9 (u.2.2 9)), rfl, ⟨(-1), rfl, (⟨(u.1 0), (u.1 1), (u.1 2), (u.1 3), (u.1 4), (u.1 5), (u.2.2 6), (u.1 7), (u.1 8), (u.2.2 9), rfl, ⟨p0, Or.inl ⟨by unfold six; omega, rfl, rfl, rfl, rfl⟩⟩⟩)⟩, by show va_P D.1 j_cl (mW D o q (uV (uI (uI (uV (uI (uI (uI (uI (uI (uI u 0 (u.1 0)) 1 (u.1 1)) 2 (u.1 2)) 3 (u.1 3)) 4 (u.1 4)) 5 (u.1 5)) 6 (u.2.2 6)) 7 (u.1 7)) 8 (u.1 8)) 9 (u.2.2 9))) t.heap; rw [ht]; exact hP⟩, hS.F ht⟩) hS.2.2 dX12_map_44 hlk
    · skip
      refine lv_iload_n SS.1 SS.2.1 dX12_map_14 rfl (lv_at hl 3 rfl) ?_
      refine lv_iload SS.1 SS.2.1 dX12_map_15 (lv_at hl 4 rfl) ?_
      refine j_sRi SS (As := [.int (J a), .int (J b)]) (rest := []) (c_X12_isPlace l D a b (show -2147483648 ≤ a ∧ a ≤ 2147483647 from (by omega)) (show -2147483648 ≤ b ∧ b ≤ 2147483647 from (by omega))) mf_X12_isPlace kw_1166 hG trivial rfl hl.1 ⟨⟨Nat.le_of_ble_eq_true rfl, Nat.le_of_ble_eq_true rfl⟩, Nat.le_of_ble_eq_true rfl, Nat.le_refl _, Nat.le_refl _⟩ rfl dX12_map_17 (fun z_17 h_17 => ?_)
      have h_17 : (z_17 = 1 ∧ (-40 ≤ a ∧ a ≤ 40 ∧ -40 ≤ b ∧ b ≤ 40)) ∨ (z_17 = 0 ∧ ¬ (-40 ≤ a ∧ a ≤ 40 ∧ -40 ≤ b ∧ b ≤ 40)) := h_17
      refine j_if_eq SS (tgt := 43) (x := z_17) dX12_map_20 (by decide) (by omega) (fun c_20 => ?_) (fun c_20 => ?_)
      · skip
        refine j_iconst SS dX12_map_43 ?_
        exact W.iret SS.1 SS.2.1 hr (fun t ht hW => ⟨⟨_, (uV (uI (uI (uV (uI (uI (uI (uI (uI (uI u 0 (u.1 0)) 1 (u.1 1)) 2 (u.1 2)) 3 (u.1 3)) 4 (u.1 4)) 5 (u.1 5)) 6 (u.2.2 6)) 7 (u.1 7)) 8 (u.1 8)) 9 (u.2.2 9)), rfl, ⟨(-1), rfl, (⟨(u.1 0), (u.1 1), (u.1 2), (u.1 3), (u.1 4), (u.1 5), (u.2.2 6), (u.1 7), (u.1 8), (u.2.2 9), rfl, ⟨p0, Or.inl ⟨by unfold six; omega, rfl, rfl, rfl, rfl⟩⟩⟩)⟩, by show va_P D.1 j_cl (mW D o q (uV (uI (uI (uV (uI (uI (uI (uI (uI (uI u 0 (u.1 0)) 1 (u.1 1)) 2 (u.1 2)) 3 (u.1 3)) 4 (u.1 4)) 5 (u.1 5)) 6 (u.2.2 6)) 7 (u.1 7)) 8 (u.1 8)) 9 (u.2.2 9))) t.heap; rw [ht]; exact hP⟩, hS.F ht⟩) hS.2.2 dX12_map_44 hlk
      · skip
        refine lv_iload SS.1 SS.2.1 dX12_map_23 (lv_at hl 5 rfl) ?_
        refine lv_iload SS.1 SS.2.1 dX12_map_25 (lv_at hl 6 rfl) ?_
        refine j_sRi SS (As := [.int (J c), .int (J d)]) (rest := []) (c_X12_isPlace l D c d (show -2147483648 ≤ c ∧ c ≤ 2147483647 from (by omega)) (show -2147483648 ≤ d ∧ d ≤ 2147483647 from (by omega))) mf_X12_isPlace kw_1166 hG trivial rfl hl.1 ⟨⟨Nat.le_of_ble_eq_true rfl, Nat.le_of_ble_eq_true rfl⟩, Nat.le_of_ble_eq_true rfl, Nat.le_refl _, Nat.le_refl _⟩ rfl dX12_map_27 (fun z_27 h_27 => ?_)
        have h_27 : (z_27 = 1 ∧ (-40 ≤ c ∧ c ≤ 40 ∧ -40 ≤ d ∧ d ≤ 40)) ∨ (z_27 = 0 ∧ ¬ (-40 ≤ c ∧ c ≤ 40 ∧ -40 ≤ d ∧ d ≤ 40)) := h_27
        refine j_if_eq SS (tgt := 43) (x := z_27) dX12_map_30 (by decide) (by omega) (fun c_30 => ?_) (fun c_30 => ?_)
        · skip
          refine j_iconst SS dX12_map_43 ?_
          exact W.iret SS.1 SS.2.1 hr (fun t ht hW => ⟨⟨_, (uV (uI (uI (uV (uI (uI (uI (uI (uI (uI u 0 (u.1 0)) 1 (u.1 1)) 2 (u.1 2)) 3 (u.1 3)) 4 (u.1 4)) 5 (u.1 5)) 6 (u.2.2 6)) 7 (u.1 7)) 8 (u.1 8)) 9 (u.2.2 9)), rfl, ⟨(-1), rfl, (⟨(u.1 0), (u.1 1), (u.1 2), (u.1 3), (u.1 4), (u.1 5), (u.2.2 6), (u.1 7), (u.1 8), (u.2.2 9), rfl, ⟨p0, Or.inl ⟨by unfold six; omega, rfl, rfl, rfl, rfl⟩⟩⟩)⟩, by show va_P D.1 j_cl (mW D o q (uV (uI (uI (uV (uI (uI (uI (uI (uI (uI u 0 (u.1 0)) 1 (u.1 1)) 2 (u.1 2)) 3 (u.1 3)) 4 (u.1 4)) 5 (u.1 5)) 6 (u.2.2 6)) 7 (u.1 7)) 8 (u.1 8)) 9 (u.2.2 9))) t.heap; rw [ht]; exact hP⟩, hS.F ht⟩) hS.2.2 dX12_map_44 hlk
        · skip
          refine lv_iload SS.1 SS.2.1 dX12_map_33 (lv_at hl 7 rfl) ?_
          refine lv_iload SS.1 SS.2.1 dX12_map_35 (lv_at hl 8 rfl) ?_
          refine j_sRi SS (As := [.int (J e), .int (J f)]) (rest := []) (c_X12_isPlace l D e f (show -2147483648 ≤ e ∧ e ≤ 2147483647 from (by omega)) (show -2147483648 ≤ f ∧ f ≤ 2147483647 from (by omega))) mf_X12_isPlace kw_1166 hG trivial rfl hl.1 ⟨⟨Nat.le_of_ble_eq_true rfl, Nat.le_of_ble_eq_true rfl⟩, Nat.le_of_ble_eq_true rfl, Nat.le_refl _, Nat.le_refl _⟩ rfl dX12_map_37 (fun z_37 h_37 => ?_)
          have h_37 : (z_37 = 1 ∧ (-40 ≤ e ∧ e ≤ 40 ∧ -40 ≤ f ∧ f ≤ 40)) ∨ (z_37 = 0 ∧ ¬ (-40 ≤ e ∧ e ≤ 40 ∧ -40 ≤ f ∧ f ≤ 40)) := h_37
          refine j_if_ne SS (tgt := 45) (x := z_37) dX12_map_40 (by decide) (by omega) (fun c_40 => ?_) (fun c_40 => ?_)
          · skip
            refine lv_iload_n SS.1 SS.2.1 dX12_map_45 rfl (lv_at hl 3 rfl) ?_
            refine lv_iload SS.1 SS.2.1 dX12_map_46 (lv_at hl 6 rfl) ?_
            refine j_imul SS (x := a) (y := d) dX12_map_48 ?_
            refine lv_iload SS.1 SS.2.1 dX12_map_49 (lv_at hl 4 rfl) ?_
            refine lv_iload SS.1 SS.2.1 dX12_map_51 (lv_at hl 5 rfl) ?_
            refine j_imul SS (x := b) (y := c) dX12_map_53 ?_
            refine j_isub SS (x := (a * d)) (y := (b * c)) dX12_map_54 ?_
            have m1 := mulb (A := 40) (B := 40) (a := a) (b := d) (by omega) (by omega)
            have m2 := mulb (A := 40) (B := 40) (a := b) (b := c) (by omega) (by omega)
            refine j_sRi SS (As := [.int (J ((a * d) - (b * c)))]) (rest := []) (c_X12_size l D ((a * d) - (b * c)) (show -2147483648 < ((a * d) - (b * c)) ∧ ((a * d) - (b * c)) ≤ 2147483647 from (by omega))) mf_X12_size kw_1233 hG trivial rfl hl.1 ⟨⟨Nat.le_of_ble_eq_true rfl, Nat.le_of_ble_eq_true rfl⟩, Nat.le_of_ble_eq_true rfl, Nat.le_refl _, Nat.le_refl _⟩ rfl dX12_map_55 (fun z_55 h_55 => ?_)
            have h_55 : (0 ≤ ((a * d) - (b * c)) → z_55 = ((a * d) - (b * c))) ∧ (((a * d) - (b * c)) < 0 → z_55 = -((a * d) - (b * c))) := h_55
            refine j_iconst SS dX12_map_58 ?_
            refine j_icmp_eq SS (tgt := 65) (x := z_55) (y := 1) dX12_map_59 (by decide) (by omega) (by decide) (fun c_59 => ?_) (fun c_59 => ?_)
            · skip
              have hSh := p0.1 s (by omega) (by omega)
              have hN := hSh.1
              refine lv_aload_n SS.1 SS.2.1 dX12_map_65 rfl (lv_at hl 0 rfl) ?_
              refine j_iconst SS dX12_map_66 ?_
              refine j_put SS hG hP (mW_D hD) hS 0 (v := .int (J 0)) (ty := .int) (C := RX12) (T := TX12) (N := 31) rfl rfl inX12 tyX12 tyX12_ok nmX12 6 (by decide) (ref := RX12) kw_1064 rfl rfl (by decide +kernel) rfl rfl (Nat.le_of_ble_eq_true rfl) dX12_map_67 (ws' := (mW D o q (uV u 6 0))) rfl (fun H locs hP hS => ?_)
              refine j_iconst SS dX12_map_70 ?_
              refine lv_istore (lv' := [(9, .int (J 0)), (0, .ref o), (1, .int (J s)), (2, .int (J t2)), (3, .int (J a)), (4, .int (J b)), (5, .int (J c)), (6, .int (J d)), (7, .int (J e)), (8, .int (J f))]) SS.1 SS.2.1 dX12_map_71 hl (by decide) rfl (fun ls hl => ?_)
              have L_73 : ∀ (nn : Nat) (i : Int) (ff : Nat → Int) (g : Nat → Int) (w : Int) (H : Heap) (locs : List Loc) (hP : va_P D.1 j_cl (mW D o q (uV (uI (uI u 4 ff) 5 g) 6 w)) H) (hS : va_S A st.heap H locs) (ls : Array Slot) (hl : lv_has ls 10 [(0, .ref o), (1, .int (J s)), (2, .int (J t2)), (3, .int (J a)), (4, .int (J b)), (5, .int (J c)), (6, .int (J d)), (7, .int (J e)), (8, .int (J f)), (9, .int (J i))]) (i73_0 : 0 ≤ i ∧ i ≤ mN u s) (i73_1 : w = i) (i73_2 : bd 10000 ff g w) (i73_3 : ∀ x y : Int, SWW ff g w x y ↔ MP (SPi u s i) a b c d e f x y), (mN u s - i).toNat < nn → W pr l en (headSpec (jw yX12_map cX12_map 10 (some .int)) (jr 3 68)).room st mi (([.ref o, .int (J s), .int (J t2), .int (J a), .int (J b), .int (J c), .int (J d), .int (J e), .int (J f)] : List Value).toArray) below meth co H locs 0 0 (MQ below (jWi (fun z u' => ∃ f0 : Nat → Int, ∃ f1 : Nat → Int, ∃ f2 : Nat → Int, ∃ f3 : Nat → Int, ∃ f4 : Nat → Int, ∃ f5 : Nat → Int, ∃ w : Int, ∃ X : Nat → Int, ∃ Y : Nat → Int, ∃ nh : Int, u' = (uV (uI (uI (uV (uI (uI (uI (uI (uI (uI u 0 f0) 1 f1) 2 f2) 3 f3) 4 f4) 5 f5) 6 w) 7 X) 8 Y) 9 nh) ∧ (IM u' ∧ mpM u u' s t2 a b c d e f z)) (fun u' H => va_P D.1 j_cl (mW D o q u') H) A) (([.ref o, .int (J s), .int (J t2), .int (J a), .int (J b), .int (J c), .int (J d), .int (J e), .int (J f)] : List Value).toArray) st 0 0 A) (F0 mi 73 ls []) := by
                intro nn
                induction nn with
                | zero => intros; omega
                | succ nn ih_73 =>
                  intro i ff g w H locs hP hS ls hl i73_0 i73_1 i73_2 i73_3 hm
                  refine lv_iload SS.1 SS.2.1 dX12_map_73 (lv_at hl 9 rfl) ?_
                  refine lv_aload_n SS.1 SS.2.1 dX12_map_75 rfl (lv_at hl 0 rfl) ?_
                  refine j_get SS hG hP 0 (v := .ref (q 0)) (C := RX12) (T := TX12) (N := 31) rfl rfl inX12 0 (by decide) (ref := RX12) kw_1058 rfl rfl dX12_map_76 ?_
                  refine lv_iload_n SS.1 SS.2.1 dX12_map_79 rfl (lv_at hl 1 rfl) ?_
                  refine j_iald SS hG hP 1 (n := 8) (f := (u.1 0)) rfl (z := s) (by omega) (by omega) dX12_map_80 ?_
                  have hN_80 := (show Sh u s from p0.1 _ (by omega) (by omega)).1
                  refine j_icmp_ge SS (tgt := 141) (x := i) (y := (mN u s)) dX12_map_81 (by decide) (by omega) (by omega) (fun c_81 => ?_) (fun c_81 => ?_)
                  · skip
                    refine lv_aload_n SS.1 SS.2.1 dX12_map_141 rfl (lv_at hl 0 rfl) ?_
                    refine j_vWv SS (As := []) (rest := []) (c_X12_findHull2 l D o q (uV (uI (uI u 4 ff) 5 g) 6 w) A (mW_D hD)  (show 0 ≤ w ∧ w ≤ 640 from (by omega)) (show bd 10000 (ff) (g) (w) from (i73_2))) mf_X12_findHull kw_1189 hG hP hP (ci := 8) (q0 := 0) rfl rfl rfl hS (fun _ h => h) rfl hl.1 ⟨⟨Nat.le_of_ble_eq_true rfl, Nat.le_of_ble_eq_true rfl⟩, Nat.le_of_ble_eq_true rfl, Nat.le_refl _, Nat.le_refl _⟩ rfl dX12_map_142 (fun u142 H locs h_142 hP _ hS => ?_)
                    obtain ⟨f_142, g_142, w_142, X_142, Y_142, nh_142, rfl, h_142⟩ := h_142
                    have hP : va_P D.1 j_cl (mW D o q (uV (uI (uI (uV (uI (uI u 4 f_142) 5 g_142) 6 w_142) 7 X_142) 8 Y_142) 9 nh_142)) H := hP
                    have h_142 : 0 ≤ nh_142 ∧ nh_142 ≤ 1290 ∧ Ch nh_142 X_142 Y_142 ∧ (0 < w → 0 < nh_142) ∧ bd 10000 X_142 Y_142 nh_142 ∧ (∀ K : Int, bd K (ff) (g) (w) → bd K X_142 Y_142 nh_142) ∧ HS (SWW (ff) (g) (w)) nh_142 X_142 Y_142 := h_142
                    obtain ⟨a1, a2, a3, a4, a5, a6, a7⟩ := h_142
                    refine lv_aload_n SS.1 SS.2.1 dX12_map_145 rfl (lv_at hl 0 rfl) ?_
                    refine lv_iload_n SS.1 SS.2.1 dX12_map_146 rfl (lv_at hl 2 rfl) ?_
                    refine j_iconst SS dX12_map_147 ?_
                    refine j_vWi SS (As := [.int (J t2), .int (J 1)]) (rest := []) (c_X12_take l D o q (uV (uI (uI (uV (uI (uI u 4 f_142) 5 g_142) 6 w_142) 7 X_142) 8 Y_142) 9 nh_142) A (mW_D hD) t2 1 (show 0 ≤ t2 ∧ t2 ≤ 7 from (by omega)) (show (1 : Int) = 0 ∨ (1 : Int) = 1 from (by omega)) (show 0 ≤ nh_142 ∧ nh_142 ≤ 1290 from (by omega)) (show bd 10000 (X_142) (Y_142) (nh_142) from (a5))) mf_X12_take kw_1162 hG hP hP (ci := 8) (q0 := 0) rfl rfl rfl hS (fun _ h => h) rfl hl.1 ⟨⟨Nat.le_of_ble_eq_true rfl, Nat.le_of_ble_eq_true rfl⟩, Nat.le_of_ble_eq_true rfl, Nat.le_refl _, Nat.le_refl _⟩ rfl dX12_map_148 (fun z_148 u148 H locs h_148 hP _ hS => ?_)
                    obtain ⟨f0_148, f1_148, f2_148, f3_148, rfl, h_148⟩ := h_148
                    have hP : va_P D.1 j_cl (mW D o q (uV (uI (uI (uV (uI (uI (uI (uI (uI (uI u 0 f0_148) 1 f1_148) 2 f2_148) 3 f3_148) 4 f_142) 5 g_142) 6 w_142) 7 X_142) 8 Y_142) 9 nh_142)) H := hP
                    have h_148 : (z_148 = -3 ∧ ¬ tk_ok (1 : Int) 40 (X_142) (Y_142) (nh_142) (nh_142) ∧ f0_148 = (u.1 0) ∧ f1_148 = (u.1 1) ∧ f2_148 = (u.1 2) ∧ f3_148 = (u.1 3)) ∨ (z_148 = nh_142 ∧ tk_ok (1 : Int) 40 (X_142) (Y_142) (nh_142) (nh_142) ∧ tk_new (uV (uI (uI (uV (uI (uI u 4 f_142) 5 g_142) 6 w_142) 7 X_142) 8 Y_142) 9 nh_142) f0_148 f1_148 f2_148 f3_148 t2) := h_148
                    exact W.iret SS.1 SS.2.1 hr (fun t ht hW => ⟨⟨_, (uV (uI (uI (uV (uI (uI (uI (uI (uI (uI u 0 f0_148) 1 f1_148) 2 f2_148) 3 f3_148) 4 f_142) 5 g_142) 6 w_142) 7 X_142) 8 Y_142) 9 nh_142), rfl, ⟨z_148, rfl, (⟨f0_148, f1_148, f2_148, f3_148, f_142, g_142, w_142, X_142, Y_142, nh_142, rfl, ⟨(show IM (uI (uI (uI (uI (uV (uI (uI (uV (uI (uI u 4 f_142) 5 g_142) 6 w_142) 7 X_142) 8 Y_142) 9 nh_142) 0 f0_148) 1 f1_148) 2 f2_148) 3 f3_148) from IM_tk (u := (uV (uI (uI (uV (uI (uI u 4 f_142) 5 g_142) 6 w_142) 7 X_142) 8 Y_142) 9 nh_142)) p0 ⟨by omega, by omega⟩ (Or.inr rfl) a1 (fun q => by omega) a3 h_148), Or.inr ⟨by omega, by omega, by unfold six; omega, Or.inr ⟨by omega, mkM_tk (v0 := u) (v := (uV (uI (uI (uV (uI (uI u 4 f_142) 5 g_142) 6 w_142) 7 X_142) 8 Y_142) 9 nh_142)) p0.1 rfl rfl rfl ⟨by omega, by omega⟩ a1 (Or.inr rfl) (fun q => by omega) a7 (by rw [show i = mN u s by omega] at i73_3; exact i73_3) h_148⟩⟩⟩⟩)⟩, by show va_P D.1 j_cl (mW D o q (uV (uI (uI (uV (uI (uI (uI (uI (uI (uI u 0 f0_148) 1 f1_148) 2 f2_148) 3 f3_148) 4 f_142) 5 g_142) 6 w_142) 7 X_142) 8 Y_142) 9 nh_142)) t.heap; rw [ht]; exact hP⟩, hS.F ht⟩) hS.2.2 dX12_map_151 hlk
                  · skip
                    refine lv_aload_n SS.1 SS.2.1 dX12_map_84 rfl (lv_at hl 0 rfl) ?_
                    refine lv_iload_n SS.1 SS.2.1 dX12_map_85 rfl (lv_at hl 3 rfl) ?_
                    refine lv_aload_n SS.1 SS.2.1 dX12_map_86 rfl (lv_at hl 0 rfl) ?_
                    refine lv_iload_n SS.1 SS.2.1 dX12_map_87 rfl (lv_at hl 1 rfl) ?_
                    refine lv_iload SS.1 SS.2.1 dX12_map_88 (lv_at hl 9 rfl) ?_
                    refine j_vRi SS (As := [.int (J s), .int (J i)]) (rest := [.int (J a), .ref o]) (c_X12_x l D o q (uV (uI (uI u 4 ff) 5 g) 6 w) s i (show 0 ≤ s ∧ s ≤ 7 from (by omega)) (show 0 ≤ i ∧ i ≤ 1000000 from (by omega)) (show 0 < mN u s ∧ mN u s ≤ 24 from (by first | omega | (have hq := (show Sh u s from p0.1 _ (by omega) (by omega)).1; omega)))) mf_X12_x kw_1177 hG hP hP (ci := 8) (q0 := 0) rfl rfl rfl rfl hl.1 ⟨⟨Nat.le_of_ble_eq_true rfl, Nat.le_of_ble_eq_true rfl⟩, Nat.le_of_ble_eq_true rfl, Nat.le_refl _, Nat.le_refl _⟩ rfl dX12_map_90 (fun z_90 h_90 => ?_)
                    have h_90 : z_90 = mX u s i := h_90
                    have hb_90 := (show Sh u s from p0.1 _ (by omega) (by omega)).2.1 (by omega) i (by omega)
                    refine j_imul SS (x := a) (y := z_90) dX12_map_93 ?_
                    refine lv_iload SS.1 SS.2.1 dX12_map_94 (lv_at hl 4 rfl) ?_
                    refine lv_aload_n SS.1 SS.2.1 dX12_map_96 rfl (lv_at hl 0 rfl) ?_
                    refine lv_iload_n SS.1 SS.2.1 dX12_map_97 rfl (lv_at hl 1 rfl) ?_
                    refine lv_iload SS.1 SS.2.1 dX12_map_98 (lv_at hl 9 rfl) ?_
                    refine j_vRi SS (As := [.int (J s), .int (J i)]) (rest := [.int (J b), .int (J (a * z_90)), .ref o]) (c_X12_y l D o q (uV (uI (uI u 4 ff) 5 g) 6 w) s i (show 0 ≤ s ∧ s ≤ 7 from (by omega)) (show 0 ≤ i ∧ i ≤ 1000000 from (by omega)) (show 0 < mN u s ∧ mN u s ≤ 24 from (by first | omega | (have hq := (show Sh u s from p0.1 _ (by omega) (by omega)).1; omega)))) mf_X12_y kw_1181 hG hP hP (ci := 8) (q0 := 0) rfl rfl rfl rfl hl.1 ⟨⟨Nat.le_of_ble_eq_true rfl, Nat.le_of_ble_eq_true rfl⟩, Nat.le_of_ble_eq_true rfl, Nat.le_refl _, Nat.le_refl _⟩ rfl dX12_map_100 (fun z_100 h_100 => ?_)
                    have h_100 : z_100 = mY u s i := h_100
                    have hb_100 := (show Sh u s from p0.1 _ (by omega) (by omega)).2.1 (by omega) i (by omega)
                    refine j_imul SS (x := b) (y := z_100) dX12_map_103 ?_
                    refine j_iadd SS (x := (a * z_90)) (y := (b * z_100)) dX12_map_104 ?_
                    refine lv_iload SS.1 SS.2.1 dX12_map_105 (lv_at hl 7 rfl) ?_
                    refine j_iadd SS (x := ((a * z_90) + (b * z_100))) (y := e) dX12_map_107 ?_
                    refine lv_iload SS.1 SS.2.1 dX12_map_108 (lv_at hl 5 rfl) ?_
                    refine lv_aload_n SS.1 SS.2.1 dX12_map_110 rfl (lv_at hl 0 rfl) ?_
                    refine lv_iload_n SS.1 SS.2.1 dX12_map_111 rfl (lv_at hl 1 rfl) ?_
                    refine lv_iload SS.1 SS.2.1 dX12_map_112 (lv_at hl 9 rfl) ?_
                    refine j_vRi SS (As := [.int (J s), .int (J i)]) (rest := [.int (J c), .int (J (((a * z_90) + (b * z_100)) + e)), .ref o]) (c_X12_x l D o q (uV (uI (uI u 4 ff) 5 g) 6 w) s i (show 0 ≤ s ∧ s ≤ 7 from (by omega)) (show 0 ≤ i ∧ i ≤ 1000000 from (by omega)) (show 0 < mN u s ∧ mN u s ≤ 24 from (by first | omega | (have hq := (show Sh u s from p0.1 _ (by omega) (by omega)).1; omega)))) mf_X12_x kw_1177 hG hP hP (ci := 8) (q0 := 0) rfl rfl rfl rfl hl.1 ⟨⟨Nat.le_of_ble_eq_true rfl, Nat.le_of_ble_eq_true rfl⟩, Nat.le_of_ble_eq_true rfl, Nat.le_refl _, Nat.le_refl _⟩ rfl dX12_map_114 (fun z_114 h_114 => ?_)
                    have h_114 : z_114 = mX u s i := h_114
                    have hb_114 := (show Sh u s from p0.1 _ (by omega) (by omega)).2.1 (by omega) i (by omega)
                    refine j_imul SS (x := c) (y := z_114) dX12_map_117 ?_
                    refine lv_iload SS.1 SS.2.1 dX12_map_118 (lv_at hl 6 rfl) ?_
                    refine lv_aload_n SS.1 SS.2.1 dX12_map_120 rfl (lv_at hl 0 rfl) ?_
                    refine lv_iload_n SS.1 SS.2.1 dX12_map_121 rfl (lv_at hl 1 rfl) ?_
                    refine lv_iload SS.1 SS.2.1 dX12_map_122 (lv_at hl 9 rfl) ?_
                    refine j_vRi SS (As := [.int (J s), .int (J i)]) (rest := [.int (J d), .int (J (c * z_114)), .int (J (((a * z_90) + (b * z_100)) + e)), .ref o]) (c_X12_y l D o q (uV (uI (uI u 4 ff) 5 g) 6 w) s i (show 0 ≤ s ∧ s ≤ 7 from (by omega)) (show 0 ≤ i ∧ i ≤ 1000000 from (by omega)) (show 0 < mN u s ∧ mN u s ≤ 24 from (by first | omega | (have hq := (show Sh u s from p0.1 _ (by omega) (by omega)).1; omega)))) mf_X12_y kw_1181 hG hP hP (ci := 8) (q0 := 0) rfl rfl rfl rfl hl.1 ⟨⟨Nat.le_of_ble_eq_true rfl, Nat.le_of_ble_eq_true rfl⟩, Nat.le_of_ble_eq_true rfl, Nat.le_refl _, Nat.le_refl _⟩ rfl dX12_map_124 (fun z_124 h_124 => ?_)
                    have h_124 : z_124 = mY u s i := h_124
                    have hb_124 := (show Sh u s from p0.1 _ (by omega) (by omega)).2.1 (by omega) i (by omega)
                    refine j_imul SS (x := d) (y := z_124) dX12_map_127 ?_
                    refine j_iadd SS (x := (c * z_114)) (y := (d * z_124)) dX12_map_128 ?_
                    refine lv_iload SS.1 SS.2.1 dX12_map_129 (lv_at hl 8 rfl) ?_
                    refine j_iadd SS (x := ((c * z_114) + (d * z_124))) (y := f) dX12_map_131 ?_
                    have n1 := mulb (A := 40) (B := 40) (a := a) (b := z_90) (by omega) (by omega)
                    have n2 := mulb (A := 40) (B := 40) (a := b) (b := z_100) (by omega) (by omega)
                    have n3 := mulb (A := 40) (B := 40) (a := c) (b := z_114) (by omega) (by omega)
                    have n4 := mulb (A := 40) (B := 40) (a := d) (b := z_124) (by omega) (by omega)
                    refine j_vWv SS (As := [.int (J (((a * z_90) + (b * z_100)) + e)), .int (J (((c * z_114) + (d * z_124)) + f))]) (rest := []) (c_X12_put l D o q (uV (uI (uI u 4 ff) 5 g) 6 w) A (mW_D hD) (((a * z_90) + (b * z_100)) + e) (((c * z_114) + (d * z_124)) + f) (show 0 ≤ w ∧ w < 640 from (by omega))) mf_X12_put kw_1185 hG hP hP (ci := 8) (q0 := 0) rfl rfl rfl hS (fun _ h => h) rfl hl.1 ⟨⟨Nat.le_of_ble_eq_true rfl, Nat.le_of_ble_eq_true rfl⟩, Nat.le_of_ble_eq_true rfl, Nat.le_refl _, Nat.le_refl _⟩ rfl dX12_map_132 (fun u132 H locs h_132 hP _ hS => ?_)
                    obtain ⟨f_132, g_132, w_132, rfl, h_132⟩ := h_132
                    have hP : va_P D.1 j_cl (mW D o q (uV (uI (uI u 4 f_132) 5 g_132) 6 w_132)) H := hP
                    have h_132 : f_132 = upI (ff) (w).toNat (((a * z_90) + (b * z_100)) + e) ∧ g_132 = upI (g) (w).toNat (((c * z_114) + (d * z_124)) + f) ∧ w_132 = w + 1 := h_132
                    have k1 := h_132.2.2
                    refine lv_iinc (v := J (i + 1)) (lv' := [(9, .int (J (i + 1))), (0, .ref o), (1, .int (J s)), (2, .int (J t2)), (3, .int (J a)), (4, .int (J b)), (5, .int (J c)), (6, .int (J d)), (7, .int (J e)), (8, .int (J f))]) SS.1 SS.2.1 dX12_map_135 hl (k := 9) rfl (J_add _ _) (by decide) rfl (fun ls hl => ?_)
                    refine lv_goto (tgt := 73) SS.1 SS.2.1 dX12_map_138 (by decide) ?_
                    exact ih_73 (i + 1) f_132 g_132 w_132 _ _ hP hS ls (lv_sub hl [1, 2, 3, 4, 5, 6, 7, 8, 9, 0] rfl) (by omega) (by omega) (by obtain ⟨k1, k2, k3⟩ := h_132; rw [k1, k2, k3]; exact bd_put (by omega) i73_2 (by omega) (by omega)) (fun x y => by obtain ⟨k1, k2, k3⟩ := h_132; rw [k1, k2, k3, SWW_put (by omega), i73_3]; exact mp_s i73_0.1 (by rw [h_90, h_100]) (by rw [h_114, h_124]) x y) (by omega)
              exact L_73 ((mN u s - (0 : Int)).toNat + 1) 0 (u.1 4) (u.1 5) 0 _ _ hP hS ls (lv_sub hl [1, 2, 3, 4, 5, 6, 7, 8, 9, 0] rfl) (by omega) (by omega) (fun a ha => by omega) (fun x y => ⟨fun q => absurd q (SWW_0 (by omega)), fun ⟨p, q, ⟨k, k1, _⟩, _⟩ => by omega⟩) (Nat.lt_succ_self _)
            · skip
              refine j_bipush SS dX12_map_62 (by decide +kernel) ?_
              exact W.iret SS.1 SS.2.1 hr (fun t ht hW => ⟨⟨_, (uV (uI (uI (uV (uI (uI (uI (uI (uI (uI u 0 (u.1 0)) 1 (u.1 1)) 2 (u.1 2)) 3 (u.1 3)) 4 (u.1 4)) 5 (u.1 5)) 6 (u.2.2 6)) 7 (u.1 7)) 8 (u.1 8)) 9 (u.2.2 9)), rfl, ⟨(-2), rfl, (⟨(u.1 0), (u.1 1), (u.1 2), (u.1 3), (u.1 4), (u.1 5), (u.2.2 6), (u.1 7), (u.1 8), (u.2.2 9), rfl, ⟨p0, Or.inr ⟨by omega, by omega, by unfold six; omega, Or.inl ⟨by omega, rfl, rfl, rfl, rfl⟩⟩⟩⟩)⟩, by show va_P D.1 j_cl (mW D o q (uV (uI (uI (uV (uI (uI (uI (uI (uI (uI u 0 (u.1 0)) 1 (u.1 1)) 2 (u.1 2)) 3 (u.1 3)) 4 (u.1 4)) 5 (u.1 5)) 6 (u.2.2 6)) 7 (u.1 7)) 8 (u.1 8)) 9 (u.2.2 9))) t.heap; rw [ht]; exact hP⟩, hS.F ht⟩) hS.2.2 dX12_map_64 hlk
          · skip
            refine j_iconst SS dX12_map_43 ?_
            exact W.iret SS.1 SS.2.1 hr (fun t ht hW => ⟨⟨_, (uV (uI (uI (uV (uI (uI (uI (uI (uI (uI u 0 (u.1 0)) 1 (u.1 1)) 2 (u.1 2)) 3 (u.1 3)) 4 (u.1 4)) 5 (u.1 5)) 6 (u.2.2 6)) 7 (u.1 7)) 8 (u.1 8)) 9 (u.2.2 9)), rfl, ⟨(-1), rfl, (⟨(u.1 0), (u.1 1), (u.1 2), (u.1 3), (u.1 4), (u.1 5), (u.2.2 6), (u.1 7), (u.1 8), (u.2.2 9), rfl, ⟨p0, Or.inl ⟨by unfold six; omega, rfl, rfl, rfl, rfl⟩⟩⟩)⟩, by show va_P D.1 j_cl (mW D o q (uV (uI (uI (uV (uI (uI (uI (uI (uI (uI u 0 (u.1 0)) 1 (u.1 1)) 2 (u.1 2)) 3 (u.1 3)) 4 (u.1 4)) 5 (u.1 5)) 6 (u.2.2 6)) 7 (u.1 7)) 8 (u.1 8)) 9 (u.2.2 9))) t.heap; rw [ht]; exact hP⟩, hS.F ht⟩) hS.2.2 dX12_map_44 hlk


/-! the lower chain over the columns -/
def CLW (f g X Y : Nat → Int) (i n : Int) : Prop := (n = 0 ∧ ∀ c : Nat, (c : Int) < i → ¬ f c ≤ g c) ∨ (0 < n ∧ chx (SL f g i.toNat) X Y 0 n.toNat)
theorem CLW_0 {f g X Y : Nat → Int} : CLW f g X Y 0 0 := Or.inl ⟨rfl, fun c h => by omega⟩
theorem CLW_k {f g X Y : Nat → Int} {i n : Int} (h0 : 0 ≤ i) (h : CLW f g X Y i n) (he : ¬ f i.toNat ≤ g i.toNat) : CLW f g X Y (i + 1) n := by
  rcases h with ⟨h1, h2⟩ | ⟨h1, h2⟩
  · refine Or.inl ⟨h1, fun c hc => ?_⟩
    by_cases e : (c : Int) = i
    · rw [show c = i.toNat by omega]; exact he
    · exact h2 c (by omega)
  · refine Or.inr ⟨h1, chx_cong h2 (fun _ _ _ => ⟨rfl, rfl⟩) (fun x y => ?_)⟩
    constructor
    · rintro ⟨c, c1, c2, c3⟩
      by_cases e : (c : Int) = i
      · rw [show c = i.toNat by omega] at c2; exact absurd c2 he
      · exact ⟨c, by omega, c2, c3⟩
    · rintro ⟨c, c1, c2, c3⟩
      exact ⟨c, by omega, c2, c3⟩
theorem SL_s {f g : Nat → Int} {i : Int} (h0 : 0 ≤ i) (he : f i.toNat ≤ g i.toNat) (x y : Int) : SL f g (i + 1).toNat x y ↔ SL f g i.toNat x y ∨ (x = i - 80 ∧ y = f i.toNat) := by
  constructor
  · rintro ⟨c, c1, c2, c3, c4⟩
    by_cases e : (c : Int) = i
    · rw [show c = i.toNat by omega] at c4; exact Or.inr ⟨by omega, c4⟩
    · exact Or.inl ⟨c, by omega, c2, c3, c4⟩
  · rintro (⟨c, c1, c2, c3⟩ | ⟨c3, c4⟩)
    · exact ⟨c, by omega, c2, c3⟩
    · exact ⟨i.toNat, by omega, he, by omega, c4⟩
/-- what push does -/
def PU (X Y X' Y' : Nat → Int) (k t a b n : Int) : Prop := ((0 < k ∧ X (k - 1).toNat = a ∧ Y (k - 1).toNat = b) ∧ n = k ∧ X' = X ∧ Y' = Y) ∨ (¬ (0 < k ∧ X (k - 1).toNat = a ∧ Y (k - 1).toNat = b) ∧ ∃ v : Int, (0 ≤ v ∧ v ≤ k ∧ (1 ≤ k - t → 1 ≤ v - t)) ∧ n = v + 1 ∧ X' = upI X v.toNat a ∧ Y' = upI Y v.toNat b ∧ (∀ j : Nat, v ≤ j → (j : Int) < k → cx (X j - X (j - 1)) (Y j - Y (j - 1)) (a - X (j - 1)) (b - Y (j - 1)) ≤ 0) ∧ (v - t ≤ 1 ∨ 0 < cx (X (v.toNat - 1) - X (v.toNat - 2)) (Y (v.toNat - 1) - Y (v.toNat - 2)) (a - X (v.toNat - 2)) (b - Y (v.toNat - 2))))
theorem PU_n {X Y X' Y' : Nat → Int} {k t a b n : Int} (h : PU X Y X' Y' k t a b n) : n ≤ k + 1 := by
  rcases h with ⟨_, h, _⟩ | ⟨_, v, h1, h2, _⟩ <;> omega
theorem CLW_s {f g X Y X' Y' : Nat → Int} {i n n' : Int} (h0 : 0 ≤ i) (hn : 0 ≤ n) (h : CLW f g X Y i n) (he : f i.toNat ≤ g i.toNat) (hp : PU X Y X' Y' n 0 (i - 80) (f i.toNat) n') : CLW f g X' Y' (i + 1) n' := by
  rcases hp with ⟨⟨k1, k2, k3⟩, _⟩ | ⟨_, v, ⟨v0, v1, v2⟩, e1, e2, e3, hpo, hk⟩
  · exfalso
    rcases h with ⟨h1, h2⟩ | ⟨h1, h2⟩
    · omega
    · obtain ⟨c, c1, c2, c3, c4⟩ := h2.2.1 (n.toNat - 1) (by omega) (by omega)
      rw [show n.toNat - 1 = (n - 1).toNat by omega] at c3
      omega
  · subst e1; subst e2; subst e3
    refine Or.inr ⟨by omega, ?_⟩
    rcases h with ⟨h1, h2⟩ | ⟨h1, h2⟩
    · have hv : v = 0 := by omega
      subst hv
      refine chx_1 (b := 0) (fun x y => ?_)
      rw [SL_s h0 he, show (0 : Int).toNat = 0 from rfl, upI_s, upI_s]
      constructor
      · rintro (⟨c, c1, c2, _⟩ | q)
        · exact absurd c2 (h2 c (by omega))
        · exact q
      · exact Or.inr
    · rw [show (v + 1).toNat = v.toNat + 1 by omega]
      refine chx_s h2 (v := v.toNat) (wx := i - 80) (wy := f i.toNat) ?_ (by omega) (by omega) (fun j q1 q2 => hpo j (by omega) (by omega)) ?_ (fun a ha => ⟨upI_n (by omega), upI_n (by omega)⟩) upI_s upI_s (SL_s h0 he)
      · obtain ⟨c, c1, c2, c3, c4⟩ := h2.2.1 (n.toNat - 1) (by omega) (by omega)
        unfold lxp; omega
      · rcases hk with q | q
        · exact Or.inl (by omega)
        · exact Or.inr q
/-- the upper chain on its way: the columns behind j are done -/
def UP (f g FX FY : Nat → Int) (m : Nat) (j : Int) (X Y : Nat → Int) (k : Nat) : Prop := (∀ a : Nat, a ≤ m → X a = FX a ∧ Y a = FY a) ∧ ((k = m + 1 ∧ ∀ c : Nat, j < c → c < 161 → ¬ f c ≤ g c) ∨ ∃ b : Nat, ((b = m ∧ Y b = Y m) ∨ (b = m + 1 ∧ X b = X m ∧ Y m < Y b)) ∧ chx (ngS (SH f g (j + 1).toNat)) (ng X) (ng Y) b k)
theorem UP_0 {f g FX FY : Nat → Int} {m : Nat} : UP f g FX FY m 160 FX FY (m + 1) := ⟨fun _ _ => ⟨rfl, rfl⟩, Or.inl ⟨rfl, fun c h1 h2 => by omega⟩⟩
theorem UP_k {f g FX FY X Y : Nat → Int} {m k : Nat} {j : Int} (h0 : 0 ≤ j) (h : UP f g FX FY m j X Y k) (he : ¬ f j.toNat ≤ g j.toNat) : UP f g FX FY m (j + -1) X Y k := by
  obtain ⟨h1, h2⟩ := h
  refine ⟨h1, ?_⟩
  rcases h2 with ⟨h2, h3⟩ | ⟨b, hb, C⟩
  · refine Or.inl ⟨h2, fun c c1 c2 => ?_⟩
    by_cases e : (c : Int) = j
    · rw [show c = j.toNat by omega]; exact he
    · exact h3 c (by omega) c2
  · refine Or.inr ⟨b, hb, chx_cong C (fun _ _ _ => ⟨rfl, rfl⟩) (fun x y => ?_)⟩
    unfold ngS
    constructor
    · rintro ⟨c, c1, c2, c3, c4⟩
      by_cases e : (c : Int) = j
      · rw [show c = j.toNat by omega] at c3; exact absurd c3 he
      · exact ⟨c, by omega, c2, c3, c4⟩
    · rintro ⟨c, c1, c2, c3, c4⟩
      exact ⟨c, by omega, c2, c3, c4⟩
theorem SH_s {f g : Nat → Int} {j : Int} (h0 : 0 ≤ j) (h1 : j ≤ 160) (he : f j.toNat ≤ g j.toNat) (x y : Int) : ngS (SH f g (j + -1 + 1).toNat) x y ↔ ngS (SH f g (j + 1).toNat) x y ∨ (x = -(j - 80) ∧ y = -(g j.toNat)) := by
  unfold ngS
  constructor
  · rintro ⟨c, c1, c2, c3, c4, c5⟩
    by_cases e : (c : Int) = j
    · rw [show c = j.toNat by omega] at c5; exact Or.inr ⟨by omega, by omega⟩
    · exact Or.inl ⟨c, by omega, c2, c3, c4, c5⟩
  · rintro (⟨c, c1, c2, c3⟩ | ⟨c3, c4⟩)
    · exact ⟨c, by omega, c2, c3⟩
    · exact ⟨j.toNat, by omega, by omega, he, by omega, by omega⟩
theorem UP_s {f g FX FY X Y X' Y' : Nat → Int} {m k : Nat} {j n n' : Int} (C1 : chx (SL f g 161) FX FY 0 (m + 1)) (h0 : 0 ≤ j) (hj : j ≤ 160) (h : UP f g FX FY m j X Y k) (hn : n = k) (he : f j.toNat ≤ g j.toNat) (hp : PU X Y X' Y' n m (j - 80) (g j.toNat) n') : UP f g FX FY m (j + -1) X' Y' n'.toNat := by
  obtain ⟨u1, u2⟩ := h
  have um := u1 m (by omega)
  rcases u2 with ⟨u2, u3⟩ | ⟨b, hb, C⟩
  · -- the first column from the right
    have hX : X m = j - 80 ∧ Y m = f j.toNat := by
      obtain ⟨c, c1, c2, c3, c4⟩ := C1.2.1 m (by omega) (by omega)
      have q := (C1.2.2.2.1 (j - 80) (f j.toNat) ⟨j.toNat, by omega, he, by omega, rfl⟩).2
      rw [show m + 1 - 1 = m by omega] at q
      have hc : ¬ j < c := fun w => u3 c w c1 c2
      have hcj : c = j.toNat := by unfold lxn at q; omega
      rw [um.1, um.2, c3, c4, hcj]
      exact ⟨by omega, rfl⟩
    have hS : ∀ x y : Int, ngS (SH f g (j + -1 + 1).toNat) x y ↔ x = -(j - 80) ∧ y = -(g j.toNat) := fun x y => by
      rw [SH_s h0 hj he]
      unfold ngS
      constructor
      · rintro (⟨c, c1, c2, c3, _⟩ | q)
        · exact absurd c3 (u3 c (by omega) c2)
        · exact q
      · exact Or.inr
    rcases hp with ⟨⟨k1, k2, k3⟩, e1, e2, e3⟩ | ⟨kn, v, ⟨v0, v1, v2⟩, e1, e2, e3, hpo, hk⟩
    · rw [show (n - 1).toNat = m by omega] at k2 k3
      subst e2; subst e3
      refine ⟨u1, Or.inr ⟨m, Or.inl ⟨rfl, rfl⟩, ?_⟩⟩
      rw [show n'.toNat = m + 1 by omega]
      exact chx_1 (fun x y => by rw [hS]; unfold ng; rw [k2, k3])
    · have hv : v = (m : Int) + 1 := by omega
      subst e1; subst e2; subst e3
      rw [show v.toNat = m + 1 by omega]
      refine ⟨fun a ha => by rw [upI_n (by omega), upI_n (by omega)]; exact u1 a ha, Or.inr ⟨m + 1, Or.inr ⟨rfl, by rw [upI_s, upI_n (by omega), hX.1], ?_⟩, ?_⟩⟩
      · rw [upI_s, upI_n (by omega), hX.2]
        by_cases w : f j.toNat = g j.toNat
        · exfalso
          apply kn
          rw [show (n - 1).toNat = m by omega]
          exact ⟨by omega, hX.1, by rw [hX.2]; exact w⟩
        · omega
      · rw [show (v + 1).toNat = m + 1 + 1 by omega]
        exact chx_1 (fun x y => by rw [hS]; unfold ng; rw [upI_s, upI_s])
  · -- a further one
    have hbk := C.1
    have hlast : ∃ c : Nat, j < c ∧ X (k - 1) = (c : Int) - 80 := by
      obtain ⟨c, c1, c2, c3, c4, c5⟩ := ngS_n.mp (C.2.1 (k - 1) (by omega) (by omega))
      exact ⟨c, by omega, c4⟩
    have hXm : j - 80 < X m := by
      have q : X b = X m := by
        rcases hb with w | w
        · rw [w.1]
        · exact w.2.1
      obtain ⟨c, c1, c2, c3, c4, c5⟩ := ngS_n.mp (C.2.1 b (by omega) (by omega))
      omega
    obtain ⟨c, hc1, hc2⟩ := hlast
    have hmk : m + 1 ≤ k := by rcases hb with w | w <;> omega
    rcases hp with ⟨⟨k1, k2, k3⟩, _⟩ | ⟨kn, v, ⟨v0, v1, v2⟩, e1, e2, e3, hpo, hk⟩
    · exfalso
      rw [show (n - 1).toNat = k - 1 by omega] at k2
      omega
    · have vm := v2 (by omega)
      have hbv : b < v.toNat := by
        rcases hb with ⟨w1, _⟩ | ⟨w1, w2, w3⟩
        · omega
        · apply Nat.lt_of_not_le
          intro w
          have q := hpo (m + 1) (by omega) (by omega)
          rw [show m + 1 - 1 = m by omega, ← w1, w2] at q
          have z := Int.mul_pos (show 0 < Y b - Y m by omega) (show 0 < X m - (j - 80) by omega)
          have z2 : cx (X m - X m) (Y b - Y m) (j - 80 - X m) (g j.toNat - Y m) = (Y b - Y m) * (X m - (j - 80)) := by unfold cx; grind
          omega
      subst e1; subst e2; subst e3
      refine ⟨fun a ha => by rw [upI_n (by omega), upI_n (by omega)]; exact u1 a ha, Or.inr ⟨b, ?_, ?_⟩⟩
      · rcases hb with ⟨w1, w2⟩ | ⟨w1, w2, w3⟩
        · exact Or.inl ⟨w1, by rw [w1]⟩
        · exact Or.inr ⟨w1, by rw [upI_n (by omega), upI_n (by omega)]; exact w2, by rw [upI_n (by omega), upI_n (by omega)]; exact w3⟩
      · rw [show (v + 1).toNat = v.toNat + 1 by omega]
        refine chx_s C (v := v.toNat) (wx := -(j - 80)) (wy := -(g j.toNat)) ?_ hbv (by omega) (fun i q1 q2 => ?_) ?_ (fun a ha => ⟨?_, ?_⟩) ?_ ?_ (SH_s h0 hj he)
        · unfold lxp ng
          omega
        · unfold ng; rw [cx_ng]; exact hpo i (by omega) (by omega)
        · rcases hk with q | q
          · exact Or.inl (by rcases hb with w | w <;> omega)
          · exact Or.inr (by unfold ng; rw [cx_ng]; exact q)
        · unfold ng; rw [upI_n (by omega)]
        · unfold ng; rw [upI_n (by omega)]
        · unfold ng; rw [upI_s]
        · unfold ng; rw [upI_s]
/-- what both chains together are -/
theorem UP_e {f g FX FY X Y : Nat → Int} {n1 n2 n j : Int} (hc : CLW f g FX FY 161 n1) (hu : 0 < n1 → UP f g FX FY (n1 - 1).toNat j X Y n2.toNat) (hj : j = -1) (h2 : 0 ≤ n2) (h1 : n1 = 0 → n2 = 0) (hn : (n = n2 ∧ (n2 ≤ 1 ∨ X 0 ≠ X (n2 - 1).toNat ∨ Y 0 ≠ Y (n2 - 1).toNat)) ∨ (n = n2 - 1 ∧ 1 < n2 ∧ X 0 = X (n2 - 1).toNat ∧ Y 0 = Y (n2 - 1).toNat)) (S : Int → Int → Prop) (h : HUL S f g) : HS S n X Y := by
  subst hj
  rcases hc with ⟨c1, c2⟩ | ⟨c1, C1⟩
  · have z := h1 c1
    refine Or.inl ⟨by omega, fun x y s => ?_⟩
    obtain ⟨⟨c, q1, q2, _⟩, _⟩ := HUL_l h s
    exact c2 c (by omega) q2
  · have C1 : chx (SL f g 161) FX FY 0 ((n1 - 1).toNat + 1) := by
      rw [show (n1 - 1).toNat + 1 = n1.toNat by omega]; exact C1
    obtain ⟨u1, u2⟩ := hu c1
    rcases u2 with ⟨u2, u3⟩ | ⟨b, hb, C⟩
    · exfalso
      obtain ⟨c, q1, q2, _⟩ := C1.2.1 0 (by omega) (by omega)
      exact u3 c (by omega) q1 q2
    · rw [show ((-1 : Int) + 1).toNat = 0 from rfl] at C
      have D1 : chx (SL f g 161) X Y 0 ((n1 - 1).toNat + 1) := chx_cong C1 (fun a _ ha => u1 a (by omega)) (fun _ _ => Iff.rfl)
      have hbk := C.1
      have q := HS_k (n := n.toNat) h D1 C hb (by
        rw [show n2.toNat - 1 = (n2 - 1).toNat by omega]
        rcases hn with ⟨w1, w2⟩ | ⟨w1, w2, w3⟩
        · refine Or.inl ⟨by omega, ?_⟩
          rcases w2 with w2 | w2
          · exact Or.inl (by omega)
          · exact Or.inr w2
        · exact Or.inr ⟨by omega, by omega, w3⟩)
      rw [show ((n.toNat : Nat) : Int) = n by omega] at q
      exact q
/-! taking points -/
theorem HUL_0 {f g : Nat → Int} : HUL (fun _ _ => False) (jf f 81 161) (jf g (-81) 161) := ⟨fun _ _ h => h.elim, fun c hc h => by unfold jf at h; rw [if_pos hc, if_pos hc] at h; omega, fun c hc => by unfold jf; rw [if_pos hc, if_pos hc]; omega⟩
theorem HUL_t {S : Int → Int → Prop} {f g : Nat → Int} {a b : Int} (h : HUL S f g) (ha : -80 ≤ a ∧ a ≤ 80) (hbb : -80 ≤ b ∧ b ≤ 80) : HUL (fun x y => S x y ∨ (x = a ∧ y = b)) (upI f (a + 80).toNat (min (f (a + 80).toNat) b)) (upI g (a + 80).toNat (max (g (a + 80).toNat) b)) := by
  refine ⟨fun x y s => ?_, fun c hc hl => ?_, fun c hc => ?_⟩
  · rcases s with s | ⟨s1, s2⟩
    · have q := h.1 x y s
      refine ⟨q.1, ?_⟩
      by_cases e : (x + 80).toNat = (a + 80).toNat
      · rw [e, upI_s, upI_s]; rw [e] at q; omega
      · rw [upI_n e, upI_n e]; exact q.2
    · subst s1; subst s2
      rw [upI_s, upI_s]
      omega
  · by_cases e : c = (a + 80).toNat
    · subst e
      rw [upI_s, upI_s] at hl ⊢
      rw [show (((a + 80).toNat : Nat) : Int) - 80 = a by omega]
      by_cases w : f (a + 80).toNat ≤ g (a + 80).toNat
      · have q := h.2.1 _ hc w
        rw [show (((a + 80).toNat : Nat) : Int) - 80 = a by omega] at q
        constructor
        · by_cases z : f (a + 80).toNat ≤ b
          · rw [Int.min_eq_left z]; exact Or.inl q.1
          · rw [Int.min_eq_right (by omega)]; exact Or.inr ⟨rfl, rfl⟩
        · by_cases z : g (a + 80).toNat ≤ b
          · rw [Int.max_eq_right z]; exact Or.inr ⟨rfl, rfl⟩
          · rw [Int.max_eq_left (by omega)]; exact Or.inl q.2
      · have w2 : 81 ≤ f (a + 80).toNat ∧ g (a + 80).toNat ≤ -81 := by
          rcases h.2.2 _ hc with q | q
          · exact absurd q w
          · exact q
        rw [Int.min_eq_right (by omega), Int.max_eq_right (by omega)]
        exact ⟨Or.inr ⟨rfl, rfl⟩, Or.inr ⟨rfl, rfl⟩⟩
    · rw [upI_n e, upI_n e] at hl ⊢
      have q := h.2.1 c hc hl
      exact ⟨Or.inl q.1, Or.inl q.2⟩
  · by_cases e : c = (a + 80).toNat
    · subst e
      rw [upI_s, upI_s]
      have q := h.2.2 _ hc
      by_cases z : f (a + 80).toNat ≤ b
      · rw [Int.min_eq_left z]; by_cases y : g (a + 80).toNat ≤ b
        · rw [Int.max_eq_right y]; omega
        · rw [Int.max_eq_left (by omega)]; omega
      · rw [Int.min_eq_right (by omega)]; by_cases y : g (a + 80).toNat ≤ b
        · rw [Int.max_eq_right y]; omega
        · rw [Int.max_eq_left (by omega)]; omega
    · rw [upI_n e, upI_n e]; exact h.2.2 c hc
theorem HUL_c {S S' : Int → Int → Prop} {f g : Nat → Int} (h : HUL S f g) (e : ∀ x y : Int, S' x y ↔ S x y) : HUL S' f g := ⟨fun x y s => h.1 x y ((e x y).mp s), fun c hc hl => ⟨(e _ _).mpr (h.2.1 c hc hl).1, (e _ _).mpr (h.2.1 c hc hl).2⟩, h.2.2⟩
/-- the corners of a row before the place i -/
def RPi (u : CS) (r : Nat) (i : Int) : Int → Int → Prop := fun x y => ∃ a : Nat, (a : Int) < i ∧ x = u.1.1 r a ∧ y = u.1.2.1 r a
def RP (u : CS) (r : Nat) : Int → Int → Prop := RPi u r (u.1.2.2.1 r)
theorem rp_s {S : Prop} {u : CS} {r : Nat} {i x0 y0 : Int} (h : 0 ≤ i) (ex : x0 = u.1.1 r i.toNat) (ey : y0 = u.1.2.1 r i.toNat) (x y : Int) : S ∨ RPi u r (i + 1) x y ↔ (S ∨ RPi u r i x y) ∨ (x = x0 ∧ y = y0) := by
  constructor
  · rintro (q | ⟨a, q1, q2, q3⟩)
    · exact Or.inl (Or.inl q)
    · by_cases e : (a : Int) = i
      · rw [show a = i.toNat by omega] at q2 q3; exact Or.inr ⟨q2.trans ex.symm, q3.trans ey.symm⟩
      · exact Or.inl (Or.inr ⟨a, by omega, q2, q3⟩)
  · rintro ((q | ⟨a, q1, q2⟩) | ⟨q1, q2⟩)
    · exact Or.inl q
    · exact Or.inr ⟨a, by omega, q2⟩
    · exact Or.inr ⟨i.toNat, by omega, q1.trans ex, q2.trans ey⟩
theorem rs_s {S : Prop} {u : CS} {r2 : Nat} {j A C x0 y0 : Int} (h : 0 ≤ j) (ex : x0 = A + u.1.1 r2 j.toNat) (ey : y0 = C + u.1.2.1 r2 j.toNat) (x y : Int) : (S ∨ ∃ b : Nat, (b : Int) < j + 1 ∧ x = A + u.1.1 r2 b ∧ y = C + u.1.2.1 r2 b) ↔ (S ∨ ∃ b : Nat, (b : Int) < j ∧ x = A + u.1.1 r2 b ∧ y = C + u.1.2.1 r2 b) ∨ (x = x0 ∧ y = y0) := by
  constructor
  · rintro (q | ⟨a, q1, q2, q3⟩)
    · exact Or.inl (Or.inl q)
    · by_cases e : (a : Int) = j
      · rw [show a = j.toNat by omega] at q2 q3; exact Or.inr ⟨q2.trans ex.symm, q3.trans ey.symm⟩
      · exact Or.inl (Or.inr ⟨a, by omega, q2, q3⟩)
  · rintro ((q | ⟨a, q1, q2⟩) | ⟨q1, q2⟩)
    · exact Or.inl q
    · exact Or.inr ⟨a, by omega, q2⟩
    · exact Or.inr ⟨j.toNat, by omega, q1.trans ex, q2.trans ey⟩
theorem RSi_s {u : CS} {r r2 : Nat} {i : Int} (h0 : 0 ≤ i) (x y : Int) : SM (RPi u r (i + 1)) (RP u r2) x y ↔ SM (RPi u r i) (RP u r2) x y ∨ ∃ b : Nat, (b : Int) < u.1.2.2.1 r2 ∧ x = u.1.1 r i.toNat + u.1.1 r2 b ∧ y = u.1.2.1 r i.toNat + u.1.2.1 r2 b := by
  constructor
  · rintro ⟨a, b, c, d, ⟨k, k1, k2, k3⟩, ⟨m, m1, m2, m3⟩, q1, q2⟩
    by_cases e : (k : Int) = i
    · rw [show k = i.toNat by omega] at k2 k3
      exact Or.inr ⟨m, m1, by omega, by omega⟩
    · exact Or.inl ⟨a, b, c, d, ⟨k, by omega, k2, k3⟩, ⟨m, m1, m2, m3⟩, q1, q2⟩
  · rintro (⟨a, b, c, d, ⟨k, k1, k2, k3⟩, q⟩ | ⟨b, q1, q2, q3⟩)
    · exact ⟨a, b, c, d, ⟨k, by omega, k2, k3⟩, q⟩
    · exact ⟨_, _, _, _, ⟨i.toNat, by omega, rfl, rfl⟩, ⟨b, q1, rfl, rfl⟩, q2, q3⟩


set_option maxHeartbeats 4000000 in
set_option maxRecDepth 100000 in
theorem c_X3_push2 (l : Launch) (D : JD) (q : Nat → Nat) (u : CS) (A : Nat → Prop) (hD : va_D A (cW D q u)) (a : Int) (b : Int) (t : Int) (p0 : RB 80 u 8) (p1 : -80 ≤ a ∧ a ≤ 80) (p2 : -80 ≤ b ∧ b ≤ 80) (p3 : 0 ≤ t ∧ t ≤ 400) (p4 : u.1.2.2.1 8 ≤ 322) : Met l yX3_push (jw yX3_push cX3_push 4 none) (jr 2 46) (jP [.ref (q 2), .int (J a), .int (J b), .int (J t)] D (fun H => va_P D.1 j_cl (cW D q u) H)) (jWv (fun u' => ∃ f : Nat → Int, ∃ g : Nat → Int, ∃ n : Int, u' = (sY (sX (sC u 8 n) 8 f) 8 g) ∧ (((0 ≤ n ∧ n ≤ 323) ∧ RV 80 f g) ∧ PU (u.1.1 8) (u.1.2.1 8) f g (u.1.2.2.1 8) t a b n)) (fun u' H => va_P D.1 j_cl (cW D q u') H) A) 0 0 A := by
  refine Met.ofW (cc := cX3_push) (maxL := 4) (ret := none) (by decide) rfl ?_
  intro pr en st mi args below meth co s₁ B hml hv
  obtain ⟨rfl, hG, hP⟩ := hv
  have hr := B.returns
  have hlk := B.notSynchronized
  have SS : jS pr mi co cX3_push 4 st _ RX3 := ⟨B.exec, B.bytes, hml, findClass_of_methodNamed B.named, fun w hw => atoms_spec (ws := (jw yX3_push cX3_push 4 none)) B.pre w (List.mem_cons_of_mem _ hw)⟩
  have hl := lv_entry ([.ref (q 2), .int (J a), .int (J b), .int (J t)]) (n := 4) (Nat.le_of_ble_eq_true rfl)
  rw [lg_entry_eq]
  generalize (lg_sl ([.ref (q 2), .int (J a), .int (J b), .int (J t)]) ++ List.replicate (4 - (lg_sl ([.ref (q 2), .int (J a), .int (J b), .int (J t)])).length) Slot.unset).toArray = ls at hl ⊢
  have hl : lv_has ls 4 [(0, .ref (q 2)), (1, .int (J a)), (2, .int (J b)), (3, .int (J t))] := hl
  have hS : va_S A st.heap st.heap [] := va_S.rf
  have hR : RB 80 u 8 := p0
  have hc := p0.1
  have hr8 := rl8
  rw [rl8] at hc
  refine lv_aload_n SS.1 SS.2.1 dX3_push_0 rfl (lv_at hl 0 rfl) ?_
  refine lv_iload_n SS.1 SS.2.1 dX3_push_1 rfl (lv_at hl 1 rfl) ?_
  refine lv_iload_n SS.1 SS.2.1 dX3_push_2 rfl (lv_at hl 2 rfl) ?_
  refine j_vRi SS (As := [.int (J a), .int (J b)]) (rest := []) (c_X3_isLast l D q u  a b (show RB 80 u 8 from (hR)) (show -2147483648 ≤ a ∧ a ≤ 2147483647 from (by omega)) (show -2147483648 ≤ b ∧ b ≤ 2147483647 from (by omega))) mf_X3_isLast kw_433 hG hP hP (ci := 3) (q0 := 2) rfl rfl rfl rfl hl.1 ⟨⟨Nat.le_of_ble_eq_true rfl, Nat.le_of_ble_eq_true rfl⟩, Nat.le_of_ble_eq_true rfl, Nat.le_refl _, Nat.le_refl _⟩ rfl dX3_push_3 (fun z_3 h_3 => ?_)
  have h_3 : (z_3 = 1 ∧ 0 < (u.1.2.2.1 8) ∧ rx u 8 ((u.1.2.2.1 8) - 1) = a ∧ ry9 u 8 ((u.1.2.2.1 8) - 1) = b) ∨ (z_3 = 0 ∧ ¬ (0 < (u.1.2.2.1 8) ∧ rx u 8 ((u.1.2.2.1 8) - 1) = a ∧ ry9 u 8 ((u.1.2.2.1 8) - 1) = b)) := h_3
  have hrx : 0 < u.1.2.2.1 8 → rx u 8 (u.1.2.2.1 8 - 1) = u.1.1 8 (u.1.2.2.1 8 - 1).toNat ∧ ry9 u 8 (u.1.2.2.1 8 - 1) = u.1.2.1 8 (u.1.2.2.1 8 - 1).toNat := fun h => ⟨if_pos (by rw [rl8]; omega), if_pos (by rw [rl8]; omega)⟩
  refine j_if_eq SS (tgt := 10) (x := z_3) dX3_push_6 (by decide) (by omega) (fun c_6 => ?_) (fun c_6 => ?_)
  · skip
    have L_10 : ∀ (nn : Nat) (n1 : Int) (H : Heap) (locs : List Loc) (hP : va_P D.1 j_cl (cW D q (sC u 8 n1)) H) (hS : va_S A st.heap H locs) (ls : Array Slot) (hl : lv_has ls 4 [(0, .ref (q 2)), (1, .int (J a)), (2, .int (J b)), (3, .int (J t))]) (i10_0 : 0 ≤ n1 ∧ n1 ≤ u.1.2.2.1 8) (i10_1 : 1 ≤ u.1.2.2.1 8 - t → 1 ≤ n1 - t) (i10_2 : ∀ j : Nat, n1 ≤ j → (j : Int) < u.1.2.2.1 8 → cx (u.1.1 8 j - u.1.1 8 (j - 1)) (u.1.2.1 8 j - u.1.2.1 8 (j - 1)) (a - u.1.1 8 (j - 1)) (b - u.1.2.1 8 (j - 1)) ≤ 0), n1.toNat < nn → W pr l en (headSpec (jw yX3_push cX3_push 4 none) (jr 2 46)).room st mi (([.ref (q 2), .int (J a), .int (J b), .int (J t)] : List Value).toArray) below meth co H locs 0 0 (MQ below (jWv (fun u' => ∃ f : Nat → Int, ∃ g : Nat → Int, ∃ n : Int, u' = (sY (sX (sC u 8 n) 8 f) 8 g) ∧ (((0 ≤ n ∧ n ≤ 323) ∧ RV 80 f g) ∧ PU (u.1.1 8) (u.1.2.1 8) f g (u.1.2.2.1 8) t a b n)) (fun u' H => va_P D.1 j_cl (cW D q u') H) A) (([.ref (q 2), .int (J a), .int (J b), .int (J t)] : List Value).toArray) st 0 0 A) (F0 mi 10 ls []) := by
      intro nn
      induction nn with
      | zero => intros; omega
      | succ nn ih_10 =>
        intro  n1 H locs hP hS ls hl i10_0 i10_1 i10_2 hm
        have hR : RB 80 (sC u 8 n1) 8 := ⟨by show 0 ≤ n1 ∧ n1 ≤ (rl 8 : Int); rw [rl8]; omega, p0.2⟩
        refine lv_aload_n SS.1 SS.2.1 dX3_push_10 rfl (lv_at hl 0 rfl) ?_
        refine j_get SS hG hP 2 (v := .ref (q (9 + 5 * 8))) (C := RX3) (T := TX3) (N := 3) rfl rfl inX3 2 (by decide) (ref := "GridPolygons$Hull") kw_179 rfl rfl dX3_push_11 ?_
        refine j_getS SS hG hP (9 + 5 * 8) (v := .int (J n1)) (C := RX7) (T := TX7) (N := 3) (cw_ring (by omega)) rfl inX7 2 (by decide) (ref := "GridPolygons$Ring") kw_141 kw_132 rfl dX3_push_14 ?_
        refine lv_iload_n SS.1 SS.2.1 dX3_push_17 rfl (lv_at hl 3 rfl) ?_
        refine j_isub SS (x := n1) (y := t) dX3_push_18 ?_
        refine j_iconst SS dX3_push_19 ?_
        refine j_icmp_lt SS (tgt := 48) (x := (n1 - t)) (y := 2) dX3_push_20 (by decide) (by omega) (by decide) (fun c_20 => ?_) (fun c_20 => ?_)
        · skip
          refine lv_aload_n SS.1 SS.2.1 dX3_push_48 rfl (lv_at hl 0 rfl) ?_
          refine j_get SS hG hP 2 (v := .ref (q (9 + 5 * 8))) (C := RX3) (T := TX3) (N := 3) rfl rfl inX3 2 (by decide) (ref := "GridPolygons$Hull") kw_179 rfl rfl dX3_push_49 ?_
          refine lv_iload_n SS.1 SS.2.1 dX3_push_52 rfl (lv_at hl 1 rfl) ?_
          refine lv_iload_n SS.1 SS.2.1 dX3_push_53 rfl (lv_at hl 2 rfl) ?_
          refine j_uWv SS (As := [.int (J a), .int (J b)]) (rest := []) (c_X8_append l D q (sC u 8 n1) A (cW_D hD) 8 (by omega) a b (show 0 ≤ n1 ∧ n1 ≤ rl 8 from (by omega))) mu_7_append kw_453 hG hP hP (ci := 7) (q0 := (9 + 5 * 8)) rfl (cw_ring (by omega)) rfl hS (fun _ h => h) rfl hl.1 ⟨⟨Nat.le_of_ble_eq_true rfl, Nat.le_of_ble_eq_true rfl⟩, Nat.le_of_ble_eq_true rfl, Nat.le_refl _, Nat.le_refl _⟩ rfl dX3_push_54 (fun u54 H locs h_54 hP _ hS => ?_)
          obtain ⟨f_54, g_54, n_54, rfl, h_54⟩ := h_54
          have hP : va_P D.1 j_cl (cW D q (sY (sX (sC u 8 n_54) 8 f_54) 8 g_54)) H := hP
          have h_54 : (n1 < rl 8 ∧ f_54 = upI ((u.1.1 8)) (n1).toNat a ∧ g_54 = upI ((u.1.2.1 8)) (n1).toNat b ∧ n_54 = n1 + 1) ∨ (rl 8 ≤ n1 ∧ f_54 = (u.1.1 8) ∧ g_54 = (u.1.2.1 8) ∧ n_54 = n1) := h_54
          exact W.vret SS.1 SS.2.1 hr (fun t0 ht hW => ⟨⟨(sY (sX (sC u 8 n_54) 8 f_54) 8 g_54), rfl, (⟨f_54, g_54, n_54, rfl, ⟨ap_b (n0 := n1) (K := 80) p0.2 (m := 323) (by omega) p1 p2 (by rw [rl8] at h_54; exact h_54), Or.inr ⟨by rcases h_3 with q | q; omega; intro w; exact q.2 ⟨w.1, by rw [(hrx w.1).1]; exact w.2.1, by rw [(hrx w.1).2]; exact w.2.2⟩, n1, ⟨by omega, by omega, i10_1⟩, by rw [rl8] at h_54; omega, by rw [rl8] at h_54; rcases h_54 with q | q; exact q.2.1; omega, by rw [rl8] at h_54; rcases h_54 with q | q; exact q.2.2.1; omega, i10_2, by first | exact Or.inl (by omega) | (refine Or.inr ?_; rw [show n1.toNat - 1 = (n1 - 1).toNat by omega, show n1.toNat - 2 = (n1 - 2).toNat by omega, cx_sh]; unfold cx; rcases h_26 with q | q; (have q2 := q.2; rw [ex1, ex2, ey1, ey2] at q2; exact q2); omega)⟩⟩⟩), by show va_P D.1 j_cl (cW D q (sY (sX (sC u 8 n_54) 8 f_54) 8 g_54)) t0.heap; rw [ht]; first | exact hP | (simp only [sC_id, sX_id, sY_id, sH_id, sT_id, sV_id]; exact hP)⟩, hS.F ht⟩) hS.2.2 dX3_push_57 hlk
        · skip
          refine lv_aload_n SS.1 SS.2.1 dX3_push_23 rfl (lv_at hl 0 rfl) ?_
          refine lv_iload_n SS.1 SS.2.1 dX3_push_24 rfl (lv_at hl 1 rfl) ?_
          refine lv_iload_n SS.1 SS.2.1 dX3_push_25 rfl (lv_at hl 2 rfl) ?_
          have ex1 : rx (sC u 8 n1) 8 (n1 - 1) = u.1.1 8 (n1 - 1).toNat := if_pos (by rw [rl8]; omega)
          have ex2 : rx (sC u 8 n1) 8 (n1 - 1 - 1) = u.1.1 8 (n1 - 2).toNat := by rw [show n1 - 1 - 1 = n1 - 2 by omega]; exact if_pos (by rw [rl8]; omega)
          have ey1 : ry9 (sC u 8 n1) 8 (n1 - 1) = u.1.2.1 8 (n1 - 1).toNat := if_pos (by rw [rl8]; omega)
          have ey2 : ry9 (sC u 8 n1) 8 (n1 - 1 - 1) = u.1.2.1 8 (n1 - 2).toNat := by rw [show n1 - 1 - 1 = n1 - 2 by omega]; exact if_pos (by rw [rl8]; omega)
          refine j_vRi SS (As := [.int (J a), .int (J b)]) (rest := []) (c_X3_turnsLeft l D q (sC u 8 n1)  a b (show RB 80 (sC u 8 n1) 8 from (hR)) (show -80 ≤ a ∧ a ≤ 80 from (by omega)) (show -80 ≤ b ∧ b ≤ 80 from (by omega))) mf_X3_turnsLeft kw_449 hG hP hP (ci := 3) (q0 := 2) rfl rfl rfl rfl hl.1 ⟨⟨Nat.le_of_ble_eq_true rfl, Nat.le_of_ble_eq_true rfl⟩, Nat.le_of_ble_eq_true rfl, Nat.le_refl _, Nat.le_refl _⟩ rfl dX3_push_26 (fun z_26 h_26 => ?_)
          have h_26 : (z_26 = 1 ∧ 0 < (rx (sC u 8 n1) 8 (n1 - 1) - rx (sC u 8 n1) 8 (n1 - 1 - 1)) * (b - ry9 (sC u 8 n1) 8 (n1 - 1)) - (ry9 (sC u 8 n1) 8 (n1 - 1) - ry9 (sC u 8 n1) 8 (n1 - 1 - 1)) * (a - rx (sC u 8 n1) 8 (n1 - 1))) ∨ (z_26 = 0 ∧ (rx (sC u 8 n1) 8 (n1 - 1) - rx (sC u 8 n1) 8 (n1 - 1 - 1)) * (b - ry9 (sC u 8 n1) 8 (n1 - 1)) - (ry9 (sC u 8 n1) 8 (n1 - 1) - ry9 (sC u 8 n1) 8 (n1 - 1 - 1)) * (a - rx (sC u 8 n1) 8 (n1 - 1)) ≤ 0) := h_26
          refine j_if_ne SS (tgt := 48) (x := z_26) dX3_push_29 (by decide) (by omega) (fun c_29 => ?_) (fun c_29 => ?_)
          · skip
            refine lv_aload_n SS.1 SS.2.1 dX3_push_48 rfl (lv_at hl 0 rfl) ?_
            refine j_get SS hG hP 2 (v := .ref (q (9 + 5 * 8))) (C := RX3) (T := TX3) (N := 3) rfl rfl inX3 2 (by decide) (ref := "GridPolygons$Hull") kw_179 rfl rfl dX3_push_49 ?_
            refine lv_iload_n SS.1 SS.2.1 dX3_push_52 rfl (lv_at hl 1 rfl) ?_
            refine lv_iload_n SS.1 SS.2.1 dX3_push_53 rfl (lv_at hl 2 rfl) ?_
            refine j_uWv SS (As := [.int (J a), .int (J b)]) (rest := []) (c_X8_append l D q (sC u 8 n1) A (cW_D hD) 8 (by omega) a b (show 0 ≤ n1 ∧ n1 ≤ rl 8 from (by omega))) mu_7_append kw_453 hG hP hP (ci := 7) (q0 := (9 + 5 * 8)) rfl (cw_ring (by omega)) rfl hS (fun _ h => h) rfl hl.1 ⟨⟨Nat.le_of_ble_eq_true rfl, Nat.le_of_ble_eq_true rfl⟩, Nat.le_of_ble_eq_true rfl, Nat.le_refl _, Nat.le_refl _⟩ rfl dX3_push_54 (fun u54 H locs h_54 hP _ hS => ?_)
            obtain ⟨f_54, g_54, n_54, rfl, h_54⟩ := h_54
            have hP : va_P D.1 j_cl (cW D q (sY (sX (sC u 8 n_54) 8 f_54) 8 g_54)) H := hP
            have h_54 : (n1 < rl 8 ∧ f_54 = upI ((u.1.1 8)) (n1).toNat a ∧ g_54 = upI ((u.1.2.1 8)) (n1).toNat b ∧ n_54 = n1 + 1) ∨ (rl 8 ≤ n1 ∧ f_54 = (u.1.1 8) ∧ g_54 = (u.1.2.1 8) ∧ n_54 = n1) := h_54
            exact W.vret SS.1 SS.2.1 hr (fun t0 ht hW => ⟨⟨(sY (sX (sC u 8 n_54) 8 f_54) 8 g_54), rfl, (⟨f_54, g_54, n_54, rfl, ⟨ap_b (n0 := n1) (K := 80) p0.2 (m := 323) (by omega) p1 p2 (by rw [rl8] at h_54; exact h_54), Or.inr ⟨by rcases h_3 with q | q; omega; intro w; exact q.2 ⟨w.1, by rw [(hrx w.1).1]; exact w.2.1, by rw [(hrx w.1).2]; exact w.2.2⟩, n1, ⟨by omega, by omega, i10_1⟩, by rw [rl8] at h_54; omega, by rw [rl8] at h_54; rcases h_54 with q | q; exact q.2.1; omega, by rw [rl8] at h_54; rcases h_54 with q | q; exact q.2.2.1; omega, i10_2, by first | exact Or.inl (by omega) | (refine Or.inr ?_; rw [show n1.toNat - 1 = (n1 - 1).toNat by omega, show n1.toNat - 2 = (n1 - 2).toNat by omega, cx_sh]; unfold cx; rcases h_26 with q | q; (have q2 := q.2; rw [ex1, ex2, ey1, ey2] at q2; exact q2); omega)⟩⟩⟩), by show va_P D.1 j_cl (cW D q (sY (sX (sC u 8 n_54) 8 f_54) 8 g_54)) t0.heap; rw [ht]; first | exact hP | (simp only [sC_id, sX_id, sY_id, sH_id, sT_id, sV_id]; exact hP)⟩, hS.F ht⟩) hS.2.2 dX3_push_57 hlk
          · skip
            refine lv_aload_n SS.1 SS.2.1 dX3_push_32 rfl (lv_at hl 0 rfl) ?_
            refine j_get SS hG hP 2 (v := .ref (q (9 + 5 * 8))) (C := RX3) (T := TX3) (N := 3) rfl rfl inX3 2 (by decide) (ref := "GridPolygons$Hull") kw_179 rfl rfl dX3_push_33 ?_
            refine lv_dup SS.1 SS.2.1 dX3_push_36 rfl ?_
            refine j_getS SS hG hP (9 + 5 * 8) (v := .int (J n1)) (C := RX7) (T := TX7) (N := 3) (cw_ring (by omega)) rfl inX7 2 (by decide) (ref := "GridPolygons$Ring") kw_141 kw_132 rfl dX3_push_37 ?_
            refine j_iconst SS dX3_push_40 ?_
            refine j_isub SS (x := n1) (y := 1) dX3_push_41 ?_
            refine j_putS SS hG hP (cW_D hD) hS (9 + 5 * 8) (v := .int (J (n1 - 1))) (ty := .int) (C := RX7) (T := TX7) (N := 3) (cw_ring (by omega)) rfl inX7 tyX7 tyX7_ok nmX7 2 (by decide) (ref := "GridPolygons$Ring") kw_141 kw_132 rfl (by decide +kernel) rfl rfl (Nat.le_of_ble_eq_true rfl) dX3_push_42 (ws' := (cW D q (sC u 8 (n1 - 1)))) (cs_ring (by omega)) (fun H locs hP hS => ?_)
            refine lv_goto (tgt := 10) SS.1 SS.2.1 dX3_push_45 (by decide) ?_
            exact ih_10 (n1 - 1) _ _ hP hS ls (lv_sub hl [0, 1, 2, 3] rfl) (by omega) (by omega) (fun j h1 h2 => by by_cases e : (j : Int) = n1 - 1; (rw [show j - 1 = (n1 - 2).toNat by omega, show j = (n1 - 1).toNat by omega, cx_sh]; unfold cx; rcases h_26 with q | q; omega; have q2 := q.2; rw [ex1, ex2, ey1, ey2] at q2; exact q2); exact i10_2 j (by omega) h2) (by omega)
    exact L_10 ((u.1.2.2.1 8).toNat + 1) (u.1.2.2.1 8) _ _ hP hS ls (lv_sub hl [0, 1, 2, 3] rfl) (by omega) (by omega) (fun j h1 h2 => by omega) (Nat.lt_succ_self _)
  · skip
    exact W.vret SS.1 SS.2.1 hr (fun t0 ht hW => ⟨⟨(sY (sX (sC u 8 (u.1.2.2.1 8)) 8 (u.1.1 8)) 8 (u.1.2.1 8)), rfl, (⟨(u.1.1 8), (u.1.2.1 8), (u.1.2.2.1 8), rfl, ⟨⟨hc, p0.2⟩, Or.inl ⟨by rcases h_3 with q | q; exact ⟨q.2.1, by rw [← (hrx q.2.1).1]; exact q.2.2.1, by rw [← (hrx q.2.1).2]; exact q.2.2.2⟩; omega, rfl, rfl, rfl⟩⟩⟩), by show va_P D.1 j_cl (cW D q (sY (sX (sC u 8 (u.1.2.2.1 8)) 8 (u.1.1 8)) 8 (u.1.2.1 8))) t0.heap; rw [ht]; first | exact hP | (simp only [sC_id, sX_id, sY_id, sH_id, sT_id, sV_id]; exact hP)⟩, hS.F ht⟩) hS.2.2 dX3_push_9 hlk


set_option maxHeartbeats 4000000 in
set_option maxRecDepth 100000 in
theorem c_X3_close2 (l : Launch) (D : JD) (q : Nat → Nat) (u : CS) (A : Nat → Prop) (hD : va_D A (cW D q u)) (p0 : RB 80 u 8) (p1 : HU_ (u.2.1 0) (u.2.1 1)) : Met l yX3_close (jw yX3_close cX3_close 3 none) (jr 3 69) (jP [.ref (q 2)] D (fun H => va_P D.1 j_cl (cW D q u) H)) (jWv (fun u' => ∃ f : Nat → Int, ∃ g : Nat → Int, ∃ n : Int, u' = (sY (sX (sC u 8 n) 8 f) 8 g) ∧ ((0 ≤ n ∧ n ≤ 323) ∧ RV 80 f g ∧ ∀ S : Int → Int → Prop, HUL S (u.2.1 0) (u.2.1 1) → HS S n f g)) (fun u' H => va_P D.1 j_cl (cW D q u') H) A) 0 0 A := by
  refine Met.ofW (cc := cX3_close) (maxL := 3) (ret := none) (by decide) rfl ?_
  intro pr en st mi args below meth co s₁ B hml hv
  obtain ⟨rfl, hG, hP⟩ := hv
  have hr := B.returns
  have hlk := B.notSynchronized
  have SS : jS pr mi co cX3_close 3 st _ RX3 := ⟨B.exec, B.bytes, hml, findClass_of_methodNamed B.named, fun w hw => atoms_spec (ws := (jw yX3_close cX3_close 3 none)) B.pre w (List.mem_cons_of_mem _ hw)⟩
  have hl := lv_entry ([.ref (q 2)]) (n := 3) (Nat.le_of_ble_eq_true rfl)
  rw [lg_entry_eq]
  generalize (lg_sl ([.ref (q 2)]) ++ List.replicate (3 - (lg_sl ([.ref (q 2)])).length) Slot.unset).toArray = ls at hl ⊢
  have hl : lv_has ls 3 [(0, .ref (q 2))] := hl
  have hS : va_S A st.heap st.heap [] := va_S.rf
  have hR : RB 80 u 8 := p0
  have hc := p0.1
  have hr8 := rl8
  rw [rl8] at hc
  refine lv_aload_n SS.1 SS.2.1 dX3_close_0 rfl (lv_at hl 0 rfl) ?_
  refine j_get SS hG hP 2 (v := .ref (q (9 + 5 * 8))) (C := RX3) (T := TX3) (N := 3) rfl rfl inX3 2 (by decide) (ref := "GridPolygons$Hull") kw_179 rfl rfl dX3_close_1 ?_
  refine j_iconst SS dX3_close_4 ?_
  refine j_putS SS hG hP (cW_D hD) hS (9 + 5 * 8) (v := .int (J 0)) (ty := .int) (C := RX7) (T := TX7) (N := 3) (cw_ring (by omega)) rfl inX7 tyX7 tyX7_ok nmX7 2 (by decide) (ref := "GridPolygons$Ring") kw_141 kw_132 rfl (by decide +kernel) rfl rfl (Nat.le_of_ble_eq_true rfl) dX3_close_5 (ws' := (cW D q (sC u 8 0))) (cs_ring (by omega)) (fun H locs hP hS => ?_)
  refine j_iconst SS dX3_close_8 ?_
  refine lv_istore_n (lv' := [(1, .int (J 0)), (0, .ref (q 2))]) SS.1 SS.2.1 dX3_close_9 rfl hl (by decide) rfl (fun ls hl => ?_)
  have L_10 : ∀ (nn : Nat) (i : Int) (f1 : Nat → Int) (g1 : Nat → Int) (n1 : Int) (H : Heap) (locs : List Loc) (hP : va_P D.1 j_cl (cW D q (sY (sX (sC u 8 n1) 8 f1) 8 g1)) H) (hS : va_S A st.heap H locs) (ls : Array Slot) (hl : lv_has ls 3 [(0, .ref (q 2)), (1, .int (J i))]) (i10_0 : 0 ≤ i ∧ i ≤ 161) (i10_1 : 0 ≤ n1 ∧ n1 ≤ i) (i10_2 : RV 80 f1 g1) (i10_3 : CLW (u.2.1 0) (u.2.1 1) f1 g1 i n1), ((161 : Int) - i).toNat < nn → W pr l en (headSpec (jw yX3_close cX3_close 3 none) (jr 3 69)).room st mi (([.ref (q 2)] : List Value).toArray) below meth co H locs 0 0 (MQ below (jWv (fun u' => ∃ f : Nat → Int, ∃ g : Nat → Int, ∃ n : Int, u' = (sY (sX (sC u 8 n) 8 f) 8 g) ∧ ((0 ≤ n ∧ n ≤ 323) ∧ RV 80 f g ∧ ∀ S : Int → Int → Prop, HUL S (u.2.1 0) (u.2.1 1) → HS S n f g)) (fun u' H => va_P D.1 j_cl (cW D q u') H) A) (([.ref (q 2)] : List Value).toArray) st 0 0 A) (F0 mi 10 ls []) := by
    intro nn
    induction nn with
    | zero => intros; omega
    | succ nn ih_10 =>
      intro i f1 g1 n1 H locs hP hS ls hl i10_0 i10_1 i10_2 i10_3 hm
      have hR : RB 80 (sY (sX (sC u 8 n1) 8 f1) 8 g1) 8 := ⟨by show 0 ≤ n1 ∧ n1 ≤ (rl 8 : Int); rw [rl8]; omega, i10_2⟩
      have qh := p1 i.toNat
      refine lv_iload_n SS.1 SS.2.1 dX3_close_10 rfl (lv_at hl 1 rfl) ?_
      refine j_sipush SS dX3_close_11 (by decide +kernel) ?_
      refine j_icmp_ge SS (tgt := 53) (x := i) (y := 161) dX3_close_14 (by decide) (by omega) (by decide) (fun c_14 => ?_) (fun c_14 => ?_)
      · skip
        refine lv_aload_n SS.1 SS.2.1 dX3_close_53 rfl (lv_at hl 0 rfl) ?_
        refine j_get SS hG hP 2 (v := .ref (q (9 + 5 * 8))) (C := RX3) (T := TX3) (N := 3) rfl rfl inX3 2 (by decide) (ref := "GridPolygons$Hull") kw_179 rfl rfl dX3_close_54 ?_
        refine j_getS SS hG hP (9 + 5 * 8) (v := .int (J n1)) (C := RX7) (T := TX7) (N := 3) (cw_ring (by omega)) rfl inX7 2 (by decide) (ref := "GridPolygons$Ring") kw_141 kw_132 rfl dX3_close_57 ?_
        refine j_iconst SS dX3_close_60 ?_
        refine j_isub SS (x := n1) (y := 1) dX3_close_61 ?_
        refine lv_istore_n (lv' := [(1, .int (J (n1 - 1))), (0, .ref (q 2))]) SS.1 SS.2.1 dX3_close_62 rfl hl (by decide) rfl (fun ls hl => ?_)
        have ei : i = 161 := by omega
        rw [ei] at i10_3
        refine j_sipush SS dX3_close_63 (by decide +kernel) ?_
        refine lv_istore_n (lv' := [(2, .int (J 160)), (1, .int (J (n1 - 1))), (0, .ref (q 2))]) SS.1 SS.2.1 dX3_close_66 rfl hl (by decide) rfl (fun ls hl => ?_)
        have L_67 : ∀ (nn : Nat) (j : Int) (f2 : Nat → Int) (g2 : Nat → Int) (n2 : Int) (H : Heap) (locs : List Loc) (hP : va_P D.1 j_cl (cW D q (sY (sX (sC u 8 n2) 8 f2) 8 g2)) H) (hS : va_S A st.heap H locs) (ls : Array Slot) (hl : lv_has ls 3 [(0, .ref (q 2)), (1, .int (J (n1 - 1))), (2, .int (J j))]) (i67_0 : -1 ≤ j ∧ j ≤ 160) (i67_1 : 0 ≤ n2 ∧ n2 ≤ n1 + 160 - j) (i67_2 : RV 80 f2 g2) (i67_3 : 0 < n1 → UP (u.2.1 0) (u.2.1 1) f1 g1 (n1 - 1).toNat j f2 g2 n2.toNat) (i67_4 : n1 = 0 → n2 = 0), (j + 1).toNat < nn → W pr l en (headSpec (jw yX3_close cX3_close 3 none) (jr 3 69)).room st mi (([.ref (q 2)] : List Value).toArray) below meth co H locs 0 0 (MQ below (jWv (fun u' => ∃ f : Nat → Int, ∃ g : Nat → Int, ∃ n : Int, u' = (sY (sX (sC u 8 n) 8 f) 8 g) ∧ ((0 ≤ n ∧ n ≤ 323) ∧ RV 80 f g ∧ ∀ S : Int → Int → Prop, HUL S (u.2.1 0) (u.2.1 1) → HS S n f g)) (fun u' H => va_P D.1 j_cl (cW D q u') H) A) (([.ref (q 2)] : List Value).toArray) st 0 0 A) (F0 mi 67 ls []) := by
          intro nn
          induction nn with
          | zero => intros; omega
          | succ nn ih_67 =>
            intro j f2 g2 n2 H locs hP hS ls hl i67_0 i67_1 i67_2 i67_3 i67_4 hm
            have hR : RB 80 (sY (sX (sC u 8 n2) 8 f2) 8 g2) 8 := ⟨by show 0 ≤ n2 ∧ n2 ≤ (rl 8 : Int); rw [rl8]; omega, i67_2⟩
            have qh := p1 j.toNat
            refine lv_iload_n SS.1 SS.2.1 dX3_close_67 rfl (lv_at hl 2 rfl) ?_
            refine j_if_lt SS (tgt := 107) (x := j) dX3_close_68 (by decide) (by omega) (fun c_68 => ?_) (fun c_68 => ?_)
            · skip
              refine lv_aload_n SS.1 SS.2.1 dX3_close_107 rfl (lv_at hl 0 rfl) ?_
              refine j_get SS hG hP 2 (v := .ref (q (9 + 5 * 8))) (C := RX3) (T := TX3) (N := 3) rfl rfl inX3 2 (by decide) (ref := "GridPolygons$Hull") kw_179 rfl rfl dX3_close_108 ?_
              refine j_getS SS hG hP (9 + 5 * 8) (v := .int (J n2)) (C := RX7) (T := TX7) (N := 3) (cw_ring (by omega)) rfl inX7 2 (by decide) (ref := "GridPolygons$Ring") kw_141 kw_132 rfl dX3_close_111 ?_
              refine j_iconst SS dX3_close_114 ?_
              refine j_icmp_le SS (tgt := 154) (x := n2) (y := 1) dX3_close_115 (by decide) (by omega) (by decide) (fun c_115 => ?_) (fun c_115 => ?_)
              · skip
                exact W.vret SS.1 SS.2.1 hr (fun t0 ht hW => ⟨⟨(sY (sX (sC u 8 n2) 8 f2) 8 g2), rfl, (⟨f2, g2, n2, rfl, ⟨by omega, i67_2, UP_e i10_3 i67_3 (by omega) (by omega) i67_4 (by first | exact Or.inl ⟨by omega, Or.inl (by omega)⟩ | (rcases h_135 with q | q; exact Or.inr ⟨by omega, by omega, q.2.2.1.symm, q.2.2.2.symm⟩; omega) | (rcases h_135 with q | q; omega; refine Or.inl ⟨by omega, ?_⟩; have q2 := q.2; by_cases w1 : f2 0 = f2 (n2 - 1).toNat; (by_cases w2 : g2 0 = g2 (n2 - 1).toNat; exact absurd ⟨by omega, w1.symm, w2.symm⟩ q2; exact Or.inr (Or.inr w2)); exact Or.inr (Or.inl w1)))⟩⟩), by show va_P D.1 j_cl (cW D q (sY (sX (sC u 8 n2) 8 f2) 8 g2)) t0.heap; rw [ht]; first | exact hP | (simp only [sC_id, sX_id, sY_id, sH_id, sT_id, sV_id]; exact hP)⟩, hS.F ht⟩) hS.2.2 dX3_close_154 hlk
              · skip
                refine lv_aload_n SS.1 SS.2.1 dX3_close_118 rfl (lv_at hl 0 rfl) ?_
                refine lv_aload_n SS.1 SS.2.1 dX3_close_119 rfl (lv_at hl 0 rfl) ?_
                refine j_get SS hG hP 2 (v := .ref (q (9 + 5 * 8))) (C := RX3) (T := TX3) (N := 3) rfl rfl inX3 2 (by decide) (ref := "GridPolygons$Hull") kw_179 rfl rfl dX3_close_120 ?_
                refine j_iconst SS dX3_close_123 ?_
                refine j_uRi SS (As := [.int (J 0)]) (rest := [.ref (q 2)]) (c_X8_x l D q (sY (sX (sC u 8 n2) 8 f2) 8 g2) 8 (by omega) 0 (show -2147483648 ≤ (0 : Int) ∧ (0 : Int) ≤ 2147483647 from (by omega))) mu_7_x kw_437 hG hP hP (ci := 7) (q0 := (9 + 5 * 8)) rfl (cw_ring (by omega)) rfl rfl hl.1 ⟨⟨Nat.le_of_ble_eq_true rfl, Nat.le_of_ble_eq_true rfl⟩, Nat.le_of_ble_eq_true rfl, Nat.le_refl _, Nat.le_refl _⟩ rfl dX3_close_124 (fun z_124 h_124 => ?_)
                have h_124 : z_124 = rx (sY (sX (sC u 8 n2) 8 f2) 8 g2) 8 (0 : Int) ∧ ∀ K : Int, 0 ≤ K → RB K (sY (sX (sC u 8 n2) 8 f2) 8 g2) 8 → -K ≤ z_124 ∧ z_124 ≤ K := h_124
                have hb_124 := h_124.2 80 (by omega) (hR)
                refine lv_aload_n SS.1 SS.2.1 dX3_close_127 rfl (lv_at hl 0 rfl) ?_
                refine j_get SS hG hP 2 (v := .ref (q (9 + 5 * 8))) (C := RX3) (T := TX3) (N := 3) rfl rfl inX3 2 (by decide) (ref := "GridPolygons$Hull") kw_179 rfl rfl dX3_close_128 ?_
                refine j_iconst SS dX3_close_131 ?_
                refine j_uRi SS (As := [.int (J 0)]) (rest := [.int (J z_124), .ref (q 2)]) (c_X8_y l D q (sY (sX (sC u 8 n2) 8 f2) 8 g2) 8 (by omega) 0 (show -2147483648 ≤ (0 : Int) ∧ (0 : Int) ≤ 2147483647 from (by omega))) mu_7_y kw_443 hG hP hP (ci := 7) (q0 := (9 + 5 * 8)) rfl (cw_ring (by omega)) rfl rfl hl.1 ⟨⟨Nat.le_of_ble_eq_true rfl, Nat.le_of_ble_eq_true rfl⟩, Nat.le_of_ble_eq_true rfl, Nat.le_refl _, Nat.le_refl _⟩ rfl dX3_close_132 (fun z_132 h_132 => ?_)
                have h_132 : z_132 = ry9 (sY (sX (sC u 8 n2) 8 f2) 8 g2) 8 (0 : Int) ∧ ∀ K : Int, 0 ≤ K → RB K (sY (sX (sC u 8 n2) 8 f2) 8 g2) 8 → -K ≤ z_132 ∧ z_132 ≤ K := h_132
                have hb_132 := h_132.2 80 (by omega) (hR)
                have hx0 : z_124 = f2 0 := by rw [h_124.1]; exact if_pos (by rw [rl8]; omega)
                have hy0 : z_132 = g2 0 := by rw [h_132.1]; exact if_pos (by rw [rl8]; omega)
                refine j_vRi SS (As := [.int (J z_124), .int (J z_132)]) (rest := []) (c_X3_isLast l D q (sY (sX (sC u 8 n2) 8 f2) 8 g2)  z_124 z_132 (show RB 80 (sY (sX (sC u 8 n2) 8 f2) 8 g2) 8 from (hR)) (show -2147483648 ≤ z_124 ∧ z_124 ≤ 2147483647 from (by omega)) (show -2147483648 ≤ z_132 ∧ z_132 ≤ 2147483647 from (by omega))) mf_X3_isLast kw_433 hG hP hP (ci := 3) (q0 := 2) rfl rfl rfl rfl hl.1 ⟨⟨Nat.le_of_ble_eq_true rfl, Nat.le_of_ble_eq_true rfl⟩, Nat.le_of_ble_eq_true rfl, Nat.le_refl _, Nat.le_refl _⟩ rfl dX3_close_135 (fun z_135 h_135 => ?_)
                have h_135 : (z_135 = 1 ∧ 0 < n2 ∧ rx (sY (sX (sC u 8 n2) 8 f2) 8 g2) 8 (n2 - 1) = z_124 ∧ ry9 (sY (sX (sC u 8 n2) 8 f2) 8 g2) 8 (n2 - 1) = z_132) ∨ (z_135 = 0 ∧ ¬ (0 < n2 ∧ rx (sY (sX (sC u 8 n2) 8 f2) 8 g2) 8 (n2 - 1) = z_124 ∧ ry9 (sY (sX (sC u 8 n2) 8 f2) 8 g2) 8 (n2 - 1) = z_132)) := h_135
                have hrx : rx (sY (sX (sC u 8 n2) 8 f2) 8 g2) 8 (n2 - 1) = f2 (n2 - 1).toNat := if_pos (by rw [rl8]; omega)
                have hry : ry9 (sY (sX (sC u 8 n2) 8 f2) 8 g2) 8 (n2 - 1) = g2 (n2 - 1).toNat := if_pos (by rw [rl8]; omega)
                rw [hrx, hry, hx0, hy0] at h_135
                refine j_if_eq SS (tgt := 154) (x := z_135) dX3_close_138 (by decide) (by omega) (fun c_138 => ?_) (fun c_138 => ?_)
                · skip
                  exact W.vret SS.1 SS.2.1 hr (fun t0 ht hW => ⟨⟨(sY (sX (sC u 8 n2) 8 f2) 8 g2), rfl, (⟨f2, g2, n2, rfl, ⟨by omega, i67_2, UP_e i10_3 i67_3 (by omega) (by omega) i67_4 (by first | exact Or.inl ⟨by omega, Or.inl (by omega)⟩ | (rcases h_135 with q | q; exact Or.inr ⟨by omega, by omega, q.2.2.1.symm, q.2.2.2.symm⟩; omega) | (rcases h_135 with q | q; omega; refine Or.inl ⟨by omega, ?_⟩; have q2 := q.2; by_cases w1 : f2 0 = f2 (n2 - 1).toNat; (by_cases w2 : g2 0 = g2 (n2 - 1).toNat; exact absurd ⟨by omega, w1.symm, w2.symm⟩ q2; exact Or.inr (Or.inr w2)); exact Or.inr (Or.inl w1)))⟩⟩), by show va_P D.1 j_cl (cW D q (sY (sX (sC u 8 n2) 8 f2) 8 g2)) t0.heap; rw [ht]; first | exact hP | (simp only [sC_id, sX_id, sY_id, sH_id, sT_id, sV_id]; exact hP)⟩, hS.F ht⟩) hS.2.2 dX3_close_154 hlk
                · skip
                  refine lv_aload_n SS.1 SS.2.1 dX3_close_141 rfl (lv_at hl 0 rfl) ?_
                  refine j_get SS hG hP 2 (v := .ref (q (9 + 5 * 8))) (C := RX3) (T := TX3) (N := 3) rfl rfl inX3 2 (by decide) (ref := "GridPolygons$Hull") kw_179 rfl rfl dX3_close_142 ?_
                  refine lv_dup SS.1 SS.2.1 dX3_close_145 rfl ?_
                  refine j_getS SS hG hP (9 + 5 * 8) (v := .int (J n2)) (C := RX7) (T := TX7) (N := 3) (cw_ring (by omega)) rfl inX7 2 (by decide) (ref := "GridPolygons$Ring") kw_141 kw_132 rfl dX3_close_146 ?_
                  refine j_iconst SS dX3_close_149 ?_
                  refine j_isub SS (x := n2) (y := 1) dX3_close_150 ?_
                  refine j_putS SS hG hP (cW_D hD) hS (9 + 5 * 8) (v := .int (J (n2 - 1))) (ty := .int) (C := RX7) (T := TX7) (N := 3) (cw_ring (by omega)) rfl inX7 tyX7 tyX7_ok nmX7 2 (by decide) (ref := "GridPolygons$Ring") kw_141 kw_132 rfl (by decide +kernel) rfl rfl (Nat.le_of_ble_eq_true rfl) dX3_close_151 (ws' := (cW D q (sY (sX (sC u 8 (n2 - 1)) 8 f2) 8 g2))) (cs_ring (by omega)) (fun H locs hP hS => ?_)
                  exact W.vret SS.1 SS.2.1 hr (fun t0 ht hW => ⟨⟨(sY (sX (sC u 8 (n2 - 1)) 8 f2) 8 g2), rfl, (⟨f2, g2, (n2 - 1), rfl, ⟨by omega, i67_2, UP_e i10_3 i67_3 (by omega) (by omega) i67_4 (by first | exact Or.inl ⟨by omega, Or.inl (by omega)⟩ | (rcases h_135 with q | q; exact Or.inr ⟨by omega, by omega, q.2.2.1.symm, q.2.2.2.symm⟩; omega) | (rcases h_135 with q | q; omega; refine Or.inl ⟨by omega, ?_⟩; have q2 := q.2; by_cases w1 : f2 0 = f2 (n2 - 1).toNat; (by_cases w2 : g2 0 = g2 (n2 - 1).toNat; exact absurd ⟨by omega, w1.symm, w2.symm⟩ q2; exact Or.inr (Or.inr w2)); exact Or.inr (Or.inl w1)))⟩⟩), by show va_P D.1 j_cl (cW D q (sY (sX (sC u 8 (n2 - 1)) 8 f2) 8 g2)) t0.heap; rw [ht]; first | exact hP | (simp only [sC_id, sX_id, sY_id, sH_id, sT_id, sV_id]; exact hP)⟩, hS.F ht⟩) hS.2.2 dX3_close_154 hlk
            · skip
              refine lv_aload_n SS.1 SS.2.1 dX3_close_71 rfl (lv_at hl 0 rfl) ?_
              refine j_get SS hG hP 2 (v := .ref (q 48)) (C := RX3) (T := TX3) (N := 3) rfl rfl inX3 0 (by decide) (ref := "GridPolygons$Hull") kw_177 rfl rfl dX3_close_72 ?_
              refine lv_iload_n SS.1 SS.2.1 dX3_close_75 rfl (lv_at hl 2 rfl) ?_
              refine j_iald SS hG hP 48 (n := 161) (f := (u.2.1 0)) rfl (z := j) (by omega) (by omega) dX3_close_76 ?_
              refine lv_aload_n SS.1 SS.2.1 dX3_close_77 rfl (lv_at hl 0 rfl) ?_
              refine j_get SS hG hP 2 (v := .ref (q 52)) (C := RX3) (T := TX3) (N := 3) rfl rfl inX3 1 (by decide) (ref := "GridPolygons$Hull") kw_178 rfl rfl dX3_close_78 ?_
              refine lv_iload_n SS.1 SS.2.1 dX3_close_81 rfl (lv_at hl 2 rfl) ?_
              refine j_iald SS hG hP 52 (n := 161) (f := (u.2.1 1)) rfl (z := j) (by omega) (by omega) dX3_close_82 ?_
              refine j_icmp_gt SS (tgt := 101) (x := ((u.2.1 0) (j).toNat)) (y := ((u.2.1 1) (j).toNat)) dX3_close_83 (by decide) (by omega) (by omega) (fun c_83 => ?_) (fun c_83 => ?_)
              · skip
                refine lv_iinc (v := J (j + (-1))) (lv' := [(2, .int (J (j + (-1)))), (0, .ref (q 2)), (1, .int (J (n1 - 1)))]) SS.1 SS.2.1 dX3_close_101 hl (k := 2) rfl (J_add _ _) (by decide) rfl (fun ls hl => ?_)
                refine lv_goto (tgt := 67) SS.1 SS.2.1 dX3_close_104 (by decide) ?_
                exact ih_67 (j + (-1)) f2 g2 n2 _ _ hP hS ls (lv_sub hl [1, 2, 0] rfl) (by omega) (by first | (have := PU_n h_98.2; omega) | omega) (by first | exact h_98.1.2 | exact i67_2) (fun h => by first | exact UP_s (n := n2) hC1 (by omega) (by omega) (i67_3 h) (by omega) (by omega) (by rw [show (((n1 - 1).toNat : Nat) : Int) = n1 - 1 by omega]; exact h_98.2) | exact UP_k (by omega) (i67_3 h) (by omega)) (fun h => by first | exact i67_4 h | omega) (by omega)
              · skip
                refine lv_aload_n SS.1 SS.2.1 dX3_close_86 rfl (lv_at hl 0 rfl) ?_
                refine lv_iload_n SS.1 SS.2.1 dX3_close_87 rfl (lv_at hl 2 rfl) ?_
                refine j_bipush SS dX3_close_88 (by decide +kernel) ?_
                refine j_isub SS (x := j) (y := 80) dX3_close_90 ?_
                refine lv_aload_n SS.1 SS.2.1 dX3_close_91 rfl (lv_at hl 0 rfl) ?_
                refine j_get SS hG hP 2 (v := .ref (q 52)) (C := RX3) (T := TX3) (N := 3) rfl rfl inX3 1 (by decide) (ref := "GridPolygons$Hull") kw_178 rfl rfl dX3_close_92 ?_
                refine lv_iload_n SS.1 SS.2.1 dX3_close_95 rfl (lv_at hl 2 rfl) ?_
                refine j_iald SS hG hP 52 (n := 161) (f := (u.2.1 1)) rfl (z := j) (by omega) (by omega) dX3_close_96 ?_
                refine lv_iload_n SS.1 SS.2.1 dX3_close_97 rfl (lv_at hl 1 rfl) ?_
                have hn1 : 0 < n1 := by rcases i10_3 with q | q; exact absurd (show u.2.1 0 j.toNat ≤ u.2.1 1 j.toNat by omega) (q.2 j.toNat (by omega)); exact q.1
                have hC1 : chx (SL (u.2.1 0) (u.2.1 1) 161) f1 g1 0 ((n1 - 1).toNat + 1) := by rcases i10_3 with q | q; omega; rw [show (n1 - 1).toNat + 1 = n1.toNat by omega]; exact q.2
                refine j_vWv SS (As := [.int (J (j - 80)), .int (J ((u.2.1 1) (j).toNat)), .int (J (n1 - 1))]) (rest := []) (c_X3_push2 l D q (sY (sX (sC u 8 n2) 8 f2) 8 g2) A (cW_D hD)  (j - 80) ((u.2.1 1) (j).toNat) (n1 - 1) (show RB 80 (sY (sX (sC u 8 n2) 8 f2) 8 g2) 8 from (hR)) (show -80 ≤ (j - 80) ∧ (j - 80) ≤ 80 from (by omega)) (show -80 ≤ ((u.2.1 1) (j).toNat) ∧ ((u.2.1 1) (j).toNat) ≤ 80 from (by omega)) (show 0 ≤ (n1 - 1) ∧ (n1 - 1) ≤ 400 from (by omega)) (show n2 ≤ 322 from (by omega))) mf_X3_push kw_429 hG hP hP (ci := 3) (q0 := 2) rfl rfl rfl hS (fun _ h => h) rfl hl.1 ⟨⟨Nat.le_of_ble_eq_true rfl, Nat.le_of_ble_eq_true rfl⟩, Nat.le_of_ble_eq_true rfl, Nat.le_refl _, Nat.le_refl _⟩ rfl dX3_close_98 (fun u98 H locs h_98 hP _ hS => ?_)
                obtain ⟨f_98, g_98, n_98, rfl, h_98⟩ := h_98
                have hP : va_P D.1 j_cl (cW D q (sY (sX (sC u 8 n_98) 8 f_98) 8 g_98)) H := hP
                have h_98 : ((0 ≤ n_98 ∧ n_98 ≤ 323) ∧ RV 80 f_98 g_98) ∧ PU (f2) (g2) f_98 g_98 (n2) (n1 - 1) (j - 80) ((u.2.1 1) (j).toNat) n_98 := h_98
                refine lv_iinc (v := J (j + (-1))) (lv' := [(2, .int (J (j + (-1)))), (0, .ref (q 2)), (1, .int (J (n1 - 1)))]) SS.1 SS.2.1 dX3_close_101 hl (k := 2) rfl (J_add _ _) (by decide) rfl (fun ls hl => ?_)
                refine lv_goto (tgt := 67) SS.1 SS.2.1 dX3_close_104 (by decide) ?_
                exact ih_67 (j + (-1)) f_98 g_98 n_98 _ _ hP hS ls (lv_sub hl [1, 2, 0] rfl) (by omega) (by first | (have := PU_n h_98.2; omega) | omega) (by first | exact h_98.1.2 | exact i67_2) (fun h => by first | exact UP_s (n := n2) hC1 (by omega) (by omega) (i67_3 h) (by omega) (by omega) (by rw [show (((n1 - 1).toNat : Nat) : Int) = n1 - 1 by omega]; exact h_98.2) | exact UP_k (by omega) (i67_3 h) (by omega)) (fun h => by first | exact i67_4 h | omega) (by omega)
        exact L_67 (((160 : Int) + 1).toNat + 1) 160 f1 g1 n1 _ _ hP hS ls (lv_sub hl [2, 1, 0] rfl) (by omega) (by omega) (i10_2) (fun h => by have q := UP_0 (f := u.2.1 0) (g := u.2.1 1) (FX := f1) (FY := g1) (m := (n1 - 1).toNat); rw [show (n1 - 1).toNat + 1 = n1.toNat by omega] at q; exact q) (by omega) (Nat.lt_succ_self _)
      · skip
        refine lv_aload_n SS.1 SS.2.1 dX3_close_17 rfl (lv_at hl 0 rfl) ?_
        refine j_get SS hG hP 2 (v := .ref (q 48)) (C := RX3) (T := TX3) (N := 3) rfl rfl inX3 0 (by decide) (ref := "GridPolygons$Hull") kw_177 rfl rfl dX3_close_18 ?_
        refine lv_iload_n SS.1 SS.2.1 dX3_close_21 rfl (lv_at hl 1 rfl) ?_
        refine j_iald SS hG hP 48 (n := 161) (f := (u.2.1 0)) rfl (z := i) (by omega) (by omega) dX3_close_22 ?_
        refine lv_aload_n SS.1 SS.2.1 dX3_close_23 rfl (lv_at hl 0 rfl) ?_
        refine j_get SS hG hP 2 (v := .ref (q 52)) (C := RX3) (T := TX3) (N := 3) rfl rfl inX3 1 (by decide) (ref := "GridPolygons$Hull") kw_178 rfl rfl dX3_close_24 ?_
        refine lv_iload_n SS.1 SS.2.1 dX3_close_27 rfl (lv_at hl 1 rfl) ?_
        refine j_iald SS hG hP 52 (n := 161) (f := (u.2.1 1)) rfl (z := i) (by omega) (by omega) dX3_close_28 ?_
        refine j_icmp_gt SS (tgt := 47) (x := ((u.2.1 0) (i).toNat)) (y := ((u.2.1 1) (i).toNat)) dX3_close_29 (by decide) (by omega) (by omega) (fun c_29 => ?_) (fun c_29 => ?_)
        · skip
          refine lv_iinc (v := J (i + 1)) (lv' := [(1, .int (J (i + 1))), (0, .ref (q 2))]) SS.1 SS.2.1 dX3_close_47 hl (k := 1) rfl (J_add _ _) (by decide) rfl (fun ls hl => ?_)
          refine lv_goto (tgt := 10) SS.1 SS.2.1 dX3_close_50 (by decide) ?_
          exact ih_10 (i + 1) f1 g1 n1 _ _ hP hS ls (lv_sub hl [1, 0] rfl) (by omega) (by first | (have := PU_n h_44.2; omega) | omega) (by first | exact h_44.1.2 | exact i10_2) (by first | exact CLW_s (by omega) (by omega) i10_3 (by omega) h_44.2 | exact CLW_k (by omega) i10_3 (by omega)) (by omega)
        · skip
          refine lv_aload_n SS.1 SS.2.1 dX3_close_32 rfl (lv_at hl 0 rfl) ?_
          refine lv_iload_n SS.1 SS.2.1 dX3_close_33 rfl (lv_at hl 1 rfl) ?_
          refine j_bipush SS dX3_close_34 (by decide +kernel) ?_
          refine j_isub SS (x := i) (y := 80) dX3_close_36 ?_
          refine lv_aload_n SS.1 SS.2.1 dX3_close_37 rfl (lv_at hl 0 rfl) ?_
          refine j_get SS hG hP 2 (v := .ref (q 48)) (C := RX3) (T := TX3) (N := 3) rfl rfl inX3 0 (by decide) (ref := "GridPolygons$Hull") kw_177 rfl rfl dX3_close_38 ?_
          refine lv_iload_n SS.1 SS.2.1 dX3_close_41 rfl (lv_at hl 1 rfl) ?_
          refine j_iald SS hG hP 48 (n := 161) (f := (u.2.1 0)) rfl (z := i) (by omega) (by omega) dX3_close_42 ?_
          refine j_iconst SS dX3_close_43 ?_
          refine j_vWv SS (As := [.int (J (i - 80)), .int (J ((u.2.1 0) (i).toNat)), .int (J 0)]) (rest := []) (c_X3_push2 l D q (sY (sX (sC u 8 n1) 8 f1) 8 g1) A (cW_D hD)  (i - 80) ((u.2.1 0) (i).toNat) 0 (show RB 80 (sY (sX (sC u 8 n1) 8 f1) 8 g1) 8 from (hR)) (show -80 ≤ (i - 80) ∧ (i - 80) ≤ 80 from (by omega)) (show -80 ≤ ((u.2.1 0) (i).toNat) ∧ ((u.2.1 0) (i).toNat) ≤ 80 from (by omega)) (show 0 ≤ (0 : Int) ∧ (0 : Int) ≤ 400 from (by omega)) (show n1 ≤ 322 from (by omega))) mf_X3_push kw_429 hG hP hP (ci := 3) (q0 := 2) rfl rfl rfl hS (fun _ h => h) rfl hl.1 ⟨⟨Nat.le_of_ble_eq_true rfl, Nat.le_of_ble_eq_true rfl⟩, Nat.le_of_ble_eq_true rfl, Nat.le_refl _, Nat.le_refl _⟩ rfl dX3_close_44 (fun u44 H locs h_44 hP _ hS => ?_)
          obtain ⟨f_44, g_44, n_44, rfl, h_44⟩ := h_44
          have hP : va_P D.1 j_cl (cW D q (sY (sX (sC u 8 n_44) 8 f_44) 8 g_44)) H := hP
          have h_44 : ((0 ≤ n_44 ∧ n_44 ≤ 323) ∧ RV 80 f_44 g_44) ∧ PU (f1) (g1) f_44 g_44 (n1) (0 : Int) (i - 80) ((u.2.1 0) (i).toNat) n_44 := h_44
          refine lv_iinc (v := J (i + 1)) (lv' := [(1, .int (J (i + 1))), (0, .ref (q 2))]) SS.1 SS.2.1 dX3_close_47 hl (k := 1) rfl (J_add _ _) (by decide) rfl (fun ls hl => ?_)
          refine lv_goto (tgt := 10) SS.1 SS.2.1 dX3_close_50 (by decide) ?_
          exact ih_10 (i + 1) f_44 g_44 n_44 _ _ hP hS ls (lv_sub hl [1, 0] rfl) (by omega) (by first | (have := PU_n h_44.2; omega) | omega) (by first | exact h_44.1.2 | exact i10_2) (by first | exact CLW_s (by omega) (by omega) i10_3 (by omega) h_44.2 | exact CLW_k (by omega) i10_3 (by omega)) (by omega)
  exact L_10 (((161 : Int) - (0 : Int)).toNat + 1) 0 (u.1.1 8) (u.1.2.1 8) 0 _ _ hP hS ls (lv_sub hl [1, 0] rfl) (by omega) (by omega) (p0.2) (CLW_0) (Nat.lt_succ_self _)

