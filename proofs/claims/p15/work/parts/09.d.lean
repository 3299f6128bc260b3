
theorem bd_step {K : Int} {f g : Nat → Int} {i : Int} (h0 : 0 ≤ i) : bd K f g (i + 1) ↔ bd K f g i ∧ (-K ≤ f i.toNat ∧ f i.toNat ≤ K) ∧ (-K ≤ g i.toNat ∧ g i.toNat ≤ K) := by
  constructor
  · intro h; exact ⟨bd_le h (by omega), h i.toNat (by omega)⟩
  · intro h a ha
    by_cases e : (a : Int) < i
    · exact h.1 a e
    · rw [show a = i.toNat by omega]; exact h.2
def tk_ok (b K : Int) (f g : Nat → Int) (n i : Int) : Prop := n ≤ 24 ∧ (b = 1 → bd K f g i)
theorem tk_0 {b K : Int} {f g : Nat → Int} {n : Int} : tk_ok b K f g n 0 ↔ n ≤ 24 := ⟨fun h => h.1, fun h => ⟨h, fun _ a ha => by omega⟩⟩
theorem tk_s {b : Int} {f g : Nat → Int} {n i : Int} (h0 : 0 ≤ i) : tk_ok b 40 f g n (i + 1) ↔ tk_ok b 40 f g n i ∧ (b = 1 → (-40 ≤ f i.toNat ∧ f i.toNat ≤ 40) ∧ (-40 ≤ g i.toNat ∧ g i.toNat ≤ 40)) := by
  unfold tk_ok
  rw [bd_step h0]
  constructor
  · intro h; exact ⟨⟨h.1, fun q => (h.2 q).1⟩, fun q => (h.2 q).2⟩
  · intro h; exact ⟨h.1.1, fun q => ⟨h.1.2 q, h.2 q⟩⟩
/-- the corners as written so far -/
def cw_ (X Y f1 f2 o1 o2 : Nat → Int) (s i : Int) : Prop := (∀ a : Nat, (a : Int) < i → f1 (24 * s + a).toNat = X a ∧ f2 (24 * s + a).toNat = Y a) ∧ ∀ k : Nat, ((k : Int) < 24 * s ∨ 24 * s + i ≤ k) → f1 k = o1 k ∧ f2 k = o2 k
theorem cw_0 {X Y o1 o2 : Nat → Int} {s : Int} : cw_ X Y o1 o2 o1 o2 s 0 := ⟨fun a h => by omega, fun k _ => ⟨rfl, rfl⟩⟩
theorem cw_s {X Y f1 f2 o1 o2 : Nat → Int} {s i : Int} (hs : 0 ≤ s) (hi : 0 ≤ i) (h : cw_ X Y f1 f2 o1 o2 s i) : cw_ X Y (upI f1 (24 * s + i).toNat (X i.toNat)) (upI f2 (24 * s + i).toNat (Y i.toNat)) o1 o2 s (i + 1) := by
  refine ⟨fun a ha => ?_, fun k hk => ?_⟩
  · by_cases e : (a : Int) = i
    · subst e
      rw [upI_s, upI_s]; exact ⟨rfl, rfl⟩
    · rw [upI_n (by omega), upI_n (by omega)]; exact h.1 a (by omega)
  · rw [upI_n (by omega), upI_n (by omega)]; exact h.2 k (by omega)
theorem Ch_cong {n : Int} {X Y X' Y' : Nat → Int} (h : Ch n X Y) (e : ∀ a : Nat, (a : Int) ≤ n → X' a = X a ∧ Y' a = Y a) : Ch n X' Y' := by
  rcases h with h | ⟨t, h1, h2, h3, h4, h5, h6, h7, h8⟩
  · exact Or.inl h
  · refine Or.inr ⟨t, h1, h2, fun a ha => ?_, lft_cong h4 (fun a ha => e a (by omega)), fun a ha hb => ?_, lft_cong h6 (fun a ha => e a (by omega)), ?_, ?_⟩
    · rw [(e a (by omega)).1, (e a (by omega)).2, (e (a + 1) (by omega)).1, (e (a + 1) (by omega)).2]; exact h3 a ha
    · rw [(e a (by omega)).1, (e a (by omega)).2, (e (a + 1) (by omega)).1, (e (a + 1) (by omega)).2]; exact h5 a ha hb
    · rw [(e n.toNat (by omega)).1, (e 0 (by omega)).1]; exact h7
    · rw [(e n.toNat (by omega)).2, (e 0 (by omega)).2]; exact h8
def Sh (u : MS) (s : Int) : Prop := (0 ≤ mN u s ∧ mN u s ≤ 24) ∧ (0 < mN u s → ∀ i : Int, 0 ≤ i → (-40 ≤ mX u s i ∧ mX u s i ≤ 40) ∧ (-40 ≤ mY u s i ∧ mY u s i ≤ 40)) ∧ Ch (mN u s) (fun a => mX u s a) (fun a => mY u s a)
def SHs (u : MS) : Prop := ∀ s : Int, 0 ≤ s → s ≤ 7 → Sh u s
def HB (f : Nat → Int) : Prop := ∀ k : Nat, -1000 ≤ f k ∧ f k ≤ 1000
def IM (u : MS) : Prop := SHs u ∧ HB (u.1 3) ∧ bd 40 (u.1 10) (u.1 11) 6561
def hz_ (o f : Nat → Int) (s i : Int) : Prop := ∀ k : Nat, (40 * s ≤ k ∧ (k : Int) < 40 * s + i → f k = 0) ∧ (¬ (40 * s ≤ k ∧ (k : Int) < 40 * s + i) → f k = o k)
theorem hz_0 {o : Nat → Int} {s : Int} : hz_ o o s 0 := fun k => ⟨fun h => by omega, fun _ => rfl⟩
theorem hz_s {o f : Nat → Int} {s i : Int} (hs : 0 ≤ s) (hi : 0 ≤ i) (h : hz_ o f s i) : hz_ o (upI f (40 * s + i).toNat 0) s (i + 1) := by
  intro k
  by_cases e : (k : Int) = 40 * s + i
  · rw [show k = (40 * s + i).toNat by omega, upI_s]
    exact ⟨fun _ => rfl, fun q => by omega⟩
  · rw [upI_n (by omega)]
    exact ⟨fun q => (h k).1 (by omega), fun q => (h k).2 (by omega)⟩
/-- a shape made anew -/
def tk_new (u : MS) (f0 f1 f2 f3 : Nat → Int) (s : Int) : Prop := f0 = upI (u.1 0) s.toNat (u.2.2 9) ∧ cw_ (u.1 7) (u.1 8) f1 f2 (u.1 1) (u.1 2) s (u.2.2 9) ∧ hz_ (u.1 3) f3 s 40
theorem IM_new {u : MS} {f0 f1 f2 f3 : Nat → Int} {s : Int} (hI : IM u) (h0 : 0 ≤ s) (h7 : s ≤ 7) (hn : 0 ≤ u.2.2 9 ∧ u.2.2 9 ≤ 24) (hb : bd 40 (u.1 7) (u.1 8) (u.2.2 9)) (hc : Ch (u.2.2 9) (u.1 7) (u.1 8)) (h : tk_new u f0 f1 f2 f3 s) : IM (uI (uI (uI (uI u 0 f0) 1 f1) 2 f2) 3 f3) := by
  obtain ⟨e0, ⟨c1, c2⟩, hz⟩ := h
  refine ⟨?_, fun k => ?_, hI.2.2⟩
  rotate_left
  · show -1000 ≤ f3 k ∧ f3 k ≤ 1000
    have a := hI.2.1 k
    by_cases e : 40 * s ≤ k ∧ (k : Int) < 40 * s + 40
    · rw [(hz k).1 e]; omega
    · rw [(hz k).2 e]; exact a
  have hI := hI.1
  intro s' g0 g7
  have eN : mN (uI (uI (uI (uI u 0 f0) 1 f1) 2 f2) 3 f3) s' = f0 s'.toNat := rfl
  have eX : ∀ i, mX (uI (uI (uI (uI u 0 f0) 1 f1) 2 f2) 3 f3) s' i = f1 (24 * s' + i.tmod (f0 s'.toNat)).toNat := fun _ => rfl
  have eY : ∀ i, mY (uI (uI (uI (uI u 0 f0) 1 f1) 2 f2) 3 f3) s' i = f2 (24 * s' + i.tmod (f0 s'.toNat)).toNat := fun _ => rfl
  by_cases e : s' = s
  · subst e
    have eh : f0 s'.toNat = u.2.2 9 := by rw [e0, upI_s]
    have key : 0 < u.2.2 9 → ∀ i : Int, 0 ≤ i → mX (uI (uI (uI (uI u 0 f0) 1 f1) 2 f2) 3 f3) s' i = u.1 7 (i.tmod (u.2.2 9)).toNat ∧ mY (uI (uI (uI (uI u 0 f0) 1 f1) 2 f2) 3 f3) s' i = u.1 8 (i.tmod (u.2.2 9)).toNat := by
      intro hp i hi
      have q := tm_b hi hp
      have r := c1 (i.tmod (u.2.2 9)).toNat (by omega)
      rw [show (((i.tmod (u.2.2 9)).toNat : Nat) : Int) = i.tmod (u.2.2 9) by omega] at r
      rw [eX, eY, eh]; exact r
    refine ⟨by rw [eN, eh]; exact hn, fun hp i hi => ?_, ?_⟩
    · rw [eN, eh] at hp
      obtain ⟨k1, k2⟩ := key hp i hi
      have q := tm_b hi hp
      rw [k1, k2]; exact hb _ (by omega)
    · rw [eN, eh]
      by_cases hp : 1 < u.2.2 9
      · refine Ch_cong hc (fun a ha => ?_)
        obtain ⟨k1, k2⟩ := key (by omega) a (by omega)
        show mX _ _ _ = _ ∧ mY _ _ _ = _
        rw [k1, k2]
        by_cases ea : (a : Int) = u.2.2 9
        · rcases hc with hc | ⟨t, _, _, _, _, _, _, g1, g2⟩
          · omega
          · rw [← ea, Int.tmod_self]
            rw [← ea] at g1 g2
            rw [show ((a : Int)).toNat = a from rfl] at g1 g2
            exact ⟨g1.symm, g2.symm⟩
        · rw [Int.tmod_eq_of_lt (by omega) (by omega)]; exact ⟨rfl, rfl⟩
      · exact Or.inl (by omega)
  · obtain ⟨a1, a2, a3⟩ := hI s' g0 g7
    have eh : f0 s'.toNat = mN u s' := by rw [e0, upI_n (by omega)]
    have key : 0 < mN u s' → ∀ i : Int, 0 ≤ i → mX (uI (uI (uI (uI u 0 f0) 1 f1) 2 f2) 3 f3) s' i = mX u s' i ∧ mY (uI (uI (uI (uI u 0 f0) 1 f1) 2 f2) 3 f3) s' i = mY u s' i := by
      intro hp i hi
      have q := tm_b hi hp
      have r := c2 (24 * s' + i.tmod (mN u s')).toNat (by omega)
      rw [eX, eY, eh]; exact r
    refine ⟨by rw [eN, eh]; exact a1, fun hp i hi => ?_, ?_⟩
    · rw [eN, eh] at hp
      rw [(key hp i hi).1, (key hp i hi).2]; exact a2 hp i hi
    · rw [eN, eh]
      by_cases hp : 0 < mN u s'
      · exact Ch_cong a3 (fun a ha => key hp a (by omega))
      · exact Or.inl (by omega)

set_option maxHeartbeats 4000000 in
set_option maxRecDepth 100000 in
theorem c_X12_take (l : Launch) (D : JD) (o : Nat) (q : Nat → Nat) (u : MS) (A : Nat → Prop) (hD : va_D A (mW D o q u)) (s : Int) (b : Int) (p0 : 0 ≤ s ∧ s ≤ 7) (p1 : b = 0 ∨ b = 1) (p2 : 0 ≤ u.2.2 9 ∧ u.2.2 9 ≤ 1290) (p3 : bd 10000 (u.1 7) (u.1 8) (u.2.2 9)) : Met l yX12_take (jw yX12_take cX12_take 5 (some .int)) (jr 2 43) (jP [.ref o, .int (J s), .int (J b)] D (fun H => va_P D.1 j_cl (mW D o q u) H)) (jWi (fun z u' => ∃ f0 : Nat → Int, ∃ f1 : Nat → Int, ∃ f2 : Nat → Int, ∃ f3 : Nat → Int, u' = (uI (uI (uI (uI u 0 f0) 1 f1) 2 f2) 3 f3) ∧ ((z = -3 ∧ ¬ tk_ok b 40 (u.1 7) (u.1 8) (u.2.2 9) (u.2.2 9) ∧ f0 = u.1 0 ∧ f1 = u.1 1 ∧ f2 = u.1 2 ∧ f3 = u.1 3) ∨ (z = u.2.2 9 ∧ tk_ok b 40 (u.1 7) (u.1 8) (u.2.2 9) (u.2.2 9) ∧ tk_new u f0 f1 f2 f3 s))) (fun u' H => va_P D.1 j_cl (mW D o q u') H) A) 0 0 A := by
  refine Met.ofW (cc := cX12_take) (maxL := 5) (ret := (some .int)) (by decide) rfl ?_
  intro pr en st mi args below meth co s₁ B hml hv
  obtain ⟨rfl, hG, hP⟩ := hv
  have hr := B.returns
  have hlk := B.notSynchronized
  have SS : jS pr mi co cX12_take 5 st _ RX12 := ⟨B.exec, B.bytes, hml, findClass_of_methodNamed B.named, fun w hw => atoms_spec (ws := (jw yX12_take cX12_take 5 (some .int))) B.pre w (List.mem_cons_of_mem _ hw)⟩
  have hl := lv_entry ([.ref o, .int (J s), .int (J b)]) (n := 5) (Nat.le_of_ble_eq_true rfl)
  rw [lg_entry_eq]
  generalize (lg_sl ([.ref o, .int (J s), .int (J b)]) ++ List.replicate (5 - (lg_sl ([.ref o, .int (J s), .int (J b)])).length) Slot.unset).toArray = ls at hl ⊢
  have hl : lv_has ls 5 [(0, .ref o), (1, .int (J s)), (2, .int (J b))] := hl
  have hS : va_S A st.heap st.heap [] := va_S.rf
  refine lv_aload_n SS.1 SS.2.1 dX12_take_0 rfl (lv_at hl 0 rfl) ?_
  refine j_get SS hG hP 0 (v := .int (J (u.2.2 9))) (C := RX12) (T := TX12) (N := 31) rfl rfl inX12 9 (by decide) (ref := RX12) kw_1067 rfl rfl dX12_take_1 ?_
  refine j_bipush SS dX12_take_4 (by decide +kernel) ?_
  refine j_icmp_gt SS (tgt := 13) (x := (u.2.2 9)) (y := 24) dX12_take_6 (by decide) (by omega) (by decide) (fun c_6 => ?_) (fun c_6 => ?_)
  · skip
    refine j_iconst SS dX12_take_13 ?_
    refine lv_istore_n (lv' := [(3, .int (J 0)), (0, .ref o), (1, .int (J s)), (2, .int (J b))]) SS.1 SS.2.1 dX12_take_14 rfl hl (by decide) rfl (fun ls hl => ?_)
    refine j_iconst SS dX12_take_15 ?_
    refine lv_istore (lv' := [(4, .int (J 0)), (3, .int (J 0)), (0, .ref o), (1, .int (J s)), (2, .int (J b))]) SS.1 SS.2.1 dX12_take_16 hl (by decide) rfl (fun ls hl => ?_)
    have L_18 : ∀ (nn : Nat) (w : Int) (i : Int) (H : Heap) (locs : List Loc) (hP : va_P D.1 j_cl (mW D o q u) H) (hS : va_S A st.heap H locs) (ls : Array Slot) (hl : lv_has ls 5 [(0, .ref o), (1, .int (J s)), (2, .int (J b)), (3, .int (J w)), (4, .int (J i))]) (i18_0 : 0 ≤ i ∧ i ≤ u.2.2 9) (i18_1 : (w = 1 ∧ tk_ok b 40 (u.1 7) (u.1 8) (u.2.2 9) i) ∨ (w = 0 ∧ ¬ tk_ok b 40 (u.1 7) (u.1 8) (u.2.2 9) i)), (u.2.2 9 - i).toNat < nn → W pr l en (headSpec (jw yX12_take cX12_take 5 (some .int)) (jr 2 43)).room st mi (([.ref o, .int (J s), .int (J b)] : List Value).toArray) below meth co H locs 0 0 (MQ below (jWi (fun z u' => ∃ f0 : Nat → Int, ∃ f1 : Nat → Int, ∃ f2 : Nat → Int, ∃ f3 : Nat → Int, u' = (uI (uI (uI (uI u 0 f0) 1 f1) 2 f2) 3 f3) ∧ ((z = -3 ∧ ¬ tk_ok b 40 (u.1 7) (u.1 8) (u.2.2 9) (u.2.2 9) ∧ f0 = u.1 0 ∧ f1 = u.1 1 ∧ f2 = u.1 2 ∧ f3 = u.1 3) ∨ (z = u.2.2 9 ∧ tk_ok b 40 (u.1 7) (u.1 8) (u.2.2 9) (u.2.2 9) ∧ tk_new u f0 f1 f2 f3 s))) (fun u' H => va_P D.1 j_cl (mW D o q u') H) A) (([.ref o, .int (J s), .int (J b)] : List Value).toArray) st 0 0 A) (F0 mi 18 ls []) := by
      intro nn
      induction nn with
      | zero => intros; omega
      | succ nn ih_18 =>
        intro w i  H locs hP hS ls hl i18_0 i18_1 hm
        refine lv_iload SS.1 SS.2.1 dX12_take_18 (lv_at hl 4 rfl) ?_
        refine lv_aload_n SS.1 SS.2.1 dX12_take_20 rfl (lv_at hl 0 rfl) ?_
        refine j_get SS hG hP 0 (v := .int (J (u.2.2 9))) (C := RX12) (T := TX12) (N := 31) rfl rfl inX12 9 (by decide) (ref := RX12) kw_1067 rfl rfl dX12_take_21 ?_
        refine j_icmp_ge SS (tgt := 67) (x := i) (y := (u.2.2 9)) dX12_take_24 (by decide) (by omega) (by omega) (fun c_24 => ?_) (fun c_24 => ?_)
        · skip
          refine lv_iload_n SS.1 SS.2.1 dX12_take_67 rfl (lv_at hl 3 rfl) ?_
          refine j_if_ne SS (tgt := 74) (x := w) dX12_take_68 (by decide) (by omega) (fun c_68 => ?_) (fun c_68 => ?_)
          · skip
            have hok : w = 1 ∧ tk_ok b 40 (u.1 7) (u.1 8) (u.2.2 9) i := by rcases i18_1 with k | k; exact k; omega
            have h24 := hok.2.1
            have ei : i = u.2.2 9 := by omega
            rw [ei] at hok
            refine lv_aload_n SS.1 SS.2.1 dX12_take_74 rfl (lv_at hl 0 rfl) ?_
            refine j_get SS hG hP 0 (v := .ref (q 0)) (C := RX12) (T := TX12) (N := 31) rfl rfl inX12 0 (by decide) (ref := RX12) kw_1058 rfl rfl dX12_take_75 ?_
            refine lv_iload_n SS.1 SS.2.1 dX12_take_78 rfl (lv_at hl 1 rfl) ?_
            refine lv_aload_n SS.1 SS.2.1 dX12_take_79 rfl (lv_at hl 0 rfl) ?_
            refine j_get SS hG hP 0 (v := .int (J (u.2.2 9))) (C := RX12) (T := TX12) (N := 31) rfl rfl inX12 9 (by decide) (ref := RX12) kw_1067 rfl rfl dX12_take_80 ?_
            refine j_iast SS hG hP (mW_D hD) hS 1 (n := 8) (f := (u.1 0)) rfl (z := s) (v := (u.2.2 9)) (by omega) (by omega) dX12_take_83 (ws' := (mW D o q (uI u 0 (upI (u.1 0) (s).toNat (u.2.2 9))))) rfl (fun H locs hP hS => ?_)
            refine j_iconst SS dX12_take_84 ?_
            refine lv_istore (lv' := [(4, .int (J 0)), (0, .ref o), (1, .int (J s)), (2, .int (J b)), (3, .int (J w))]) SS.1 SS.2.1 dX12_take_85 hl (by decide) rfl (fun ls hl => ?_)
            have L_87 : ∀ (nn : Nat) (i2 : Int) (g1 : Nat → Int) (g2 : Nat → Int) (H : Heap) (locs : List Loc) (hP : va_P D.1 j_cl (mW D o q (uI (uI (uI u 0 (upI (u.1 0) (s).toNat (u.2.2 9))) 1 g1) 2 g2)) H) (hS : va_S A st.heap H locs) (ls : Array Slot) (hl : lv_has ls 5 [(0, .ref o), (1, .int (J s)), (4, .int (J i2))]) (i87_0 : 0 ≤ i2 ∧ i2 ≤ u.2.2 9) (i87_1 : cw_ (u.1 7) (u.1 8) g1 g2 (u.1 1) (u.1 2) s i2), (u.2.2 9 - i2).toNat < nn → W pr l en (headSpec (jw yX12_take cX12_take 5 (some .int)) (jr 2 43)).room st mi (([.ref o, .int (J s), .int (J b)] : List Value).toArray) below meth co H locs 0 0 (MQ below (jWi (fun z u' => ∃ f0 : Nat → Int, ∃ f1 : Nat → Int, ∃ f2 : Nat → Int, ∃ f3 : Nat → Int, u' = (uI (uI (uI (uI u 0 f0) 1 f1) 2 f2) 3 f3) ∧ ((z = -3 ∧ ¬ tk_ok b 40 (u.1 7) (u.1 8) (u.2.2 9) (u.2.2 9) ∧ f0 = u.1 0 ∧ f1 = u.1 1 ∧ f2 = u.1 2 ∧ f3 = u.1 3) ∨ (z = u.2.2 9 ∧ tk_ok b 40 (u.1 7) (u.1 8) (u.2.2 9) (u.2.2 9) ∧ tk_new u f0 f1 f2 f3 s))) (fun u' H => va_P D.1 j_cl (mW D o q u') H) A) (([.ref o, .int (J s), .int (J b)] : List Value).toArray) st 0 0 A) (F0 mi 87 ls []) := by
              intro nn
              induction nn with
              | zero => intros; omega
              | succ nn ih_87 =>
                intro i2 g1 g2 H locs hP hS ls hl i87_0 i87_1 hm
                refine lv_iload SS.1 SS.2.1 dX12_take_87 (lv_at hl 2 rfl) ?_
                refine lv_aload_n SS.1 SS.2.1 dX12_take_89 rfl (lv_at hl 0 rfl) ?_
                refine j_get SS hG hP 0 (v := .int (J (u.2.2 9))) (C := RX12) (T := TX12) (N := 31) rfl rfl inX12 9 (by decide) (ref := RX12) kw_1067 rfl rfl dX12_take_90 ?_
                refine j_icmp_ge SS (tgt := 140) (x := i2) (y := (u.2.2 9)) dX12_take_93 (by decide) (by omega) (by omega) (fun c_93 => ?_) (fun c_93 => ?_)
                · skip
                  refine j_iconst SS dX12_take_140 ?_
                  refine lv_istore (lv' := [(4, .int (J 0)), (0, .ref o), (1, .int (J s))]) SS.1 SS.2.1 dX12_take_141 hl (by decide) rfl (fun ls hl => ?_)
                  have L_143 : ∀ (nn : Nat) (i3 : Int) (g3 : Nat → Int) (H : Heap) (locs : List Loc) (hP : va_P D.1 j_cl (mW D o q (uI (uI (uI (uI u 0 (upI (u.1 0) (s).toNat (u.2.2 9))) 1 g1) 2 g2) 3 g3)) H) (hS : va_S A st.heap H locs) (ls : Array Slot) (hl : lv_has ls 5 [(0, .ref o), (1, .int (J s)), (4, .int (J i3))]) (i143_0 : 0 ≤ i3 ∧ i3 ≤ 40) (i143_1 : hz_ (u.1 3) g3 s i3), ((40 : Int) - i3).toNat < nn → W pr l en (headSpec (jw yX12_take cX12_take 5 (some .int)) (jr 2 43)).room st mi (([.ref o, .int (J s), .int (J b)] : List Value).toArray) below meth co H locs 0 0 (MQ below (jWi (fun z u' => ∃ f0 : Nat → Int, ∃ f1 : Nat → Int, ∃ f2 : Nat → Int, ∃ f3 : Nat → Int, u' = (uI (uI (uI (uI u 0 f0) 1 f1) 2 f2) 3 f3) ∧ ((z = -3 ∧ ¬ tk_ok b 40 (u.1 7) (u.1 8) (u.2.2 9) (u.2.2 9) ∧ f0 = u.1 0 ∧ f1 = u.1 1 ∧ f2 = u.1 2 ∧ f3 = u.1 3) ∨ (z = u.2.2 9 ∧ tk_ok b 40 (u.1 7) (u.1 8) (u.2.2 9) (u.2.2 9) ∧ tk_new u f0 f1 f2 f3 s))) (fun u' H => va_P D.1 j_cl (mW D o q u') H) A) (([.ref o, .int (J s), .int (J b)] : List Value).toArray) st 0 0 A) (F0 mi 143 ls []) := by
                    intro nn
                    induction nn with
                    | zero => intros; omega
                    | succ nn ih_143 =>
                      intro i3 g3 H locs hP hS ls hl i143_0 i143_1 hm
                      refine lv_iload SS.1 SS.2.1 dX12_take_143 (lv_at hl 2 rfl) ?_
                      refine j_bipush SS dX12_take_145 (by decide +kernel) ?_
                      refine j_icmp_ge SS (tgt := 169) (x := i3) (y := 40) dX12_take_147 (by decide) (by omega) (by decide) (fun c_147 => ?_) (fun c_147 => ?_)
                      · skip
                        refine lv_aload_n SS.1 SS.2.1 dX12_take_169 rfl (lv_at hl 0 rfl) ?_
                        refine j_get SS hG hP 0 (v := .int (J (u.2.2 9))) (C := RX12) (T := TX12) (N := 31) rfl rfl inX12 9 (by decide) (ref := RX12) kw_1067 rfl rfl dX12_take_170 ?_
                        exact W.iret SS.1 SS.2.1 hr (fun t ht hW => ⟨⟨_, (uI (uI (uI (uI u 0 (upI (u.1 0) (s).toNat (u.2.2 9))) 1 g1) 2 g2) 3 g3), rfl, ⟨(u.2.2 9), rfl, (⟨(upI (u.1 0) (s).toNat (u.2.2 9)), g1, g2, g3, rfl, Or.inr ⟨rfl, hok.2, rfl, by rw [show i2 = u.2.2 9 by omega] at i87_1; exact i87_1, by rw [show i3 = 40 by omega] at i143_1; exact i143_1⟩⟩)⟩, by show va_P D.1 j_cl (mW D o q (uI (uI (uI (uI u 0 (upI (u.1 0) (s).toNat (u.2.2 9))) 1 g1) 2 g2) 3 g3)) t.heap; rw [ht]; exact hP⟩, hS.F ht⟩) hS.2.2 dX12_take_173 hlk
                      · skip
                        refine lv_aload_n SS.1 SS.2.1 dX12_take_150 rfl (lv_at hl 0 rfl) ?_
                        refine j_get SS hG hP 0 (v := .ref (q 3)) (C := RX12) (T := TX12) (N := 31) rfl rfl inX12 3 (by decide) (ref := RX12) kw_1061 rfl rfl dX12_take_151 ?_
                        refine j_bipush SS dX12_take_154 (by decide +kernel) ?_
                        refine lv_iload_n SS.1 SS.2.1 dX12_take_156 rfl (lv_at hl 1 rfl) ?_
                        refine j_imul SS (x := 40) (y := s) dX12_take_157 ?_
                        refine lv_iload SS.1 SS.2.1 dX12_take_158 (lv_at hl 2 rfl) ?_
                        refine j_iadd SS (x := (40 * s)) (y := i3) dX12_take_160 ?_
                        refine j_iconst SS dX12_take_161 ?_
                        refine j_iast SS hG hP (mW_D hD) hS 4 (n := 320) (f := g3) rfl (z := ((40 * s) + i3)) (v := 0) (by omega) (by omega) dX12_take_162 (ws' := (mW D o q (uI (uI (uI (uI u 0 (upI (u.1 0) (s).toNat (u.2.2 9))) 1 g1) 2 g2) 3 (upI g3 (((40 * s) + i3)).toNat 0)))) rfl (fun H locs hP hS => ?_)
                        refine lv_iinc (v := J (i3 + 1)) (lv' := [(4, .int (J (i3 + 1))), (0, .ref o), (1, .int (J s))]) SS.1 SS.2.1 dX12_take_163 hl (k := 2) rfl (J_add _ _) (by decide) rfl (fun ls hl => ?_)
                        refine lv_goto (tgt := 143) SS.1 SS.2.1 dX12_take_166 (by decide) ?_
                        exact ih_143 (i3 + 1) (upI g3 (((40 * s) + i3)).toNat 0) _ _ hP hS ls (lv_sub hl [1, 2, 0] rfl) (by omega) (by first | exact hz_0 | exact hz_s p0.1 (by omega) i143_1) (by omega)
                  exact L_143 (((40 : Int) - (0 : Int)).toNat + 1) 0 (u.1 3) _ _ hP hS ls (lv_sub hl [1, 2, 0] rfl) (by omega) (by first | exact hz_0 | exact hz_s p0.1 (by omega) i143_1) (Nat.lt_succ_self _)
                · skip
                  refine lv_aload_n SS.1 SS.2.1 dX12_take_96 rfl (lv_at hl 0 rfl) ?_
                  refine j_get SS hG hP 0 (v := .ref (q 1)) (C := RX12) (T := TX12) (N := 31) rfl rfl inX12 1 (by decide) (ref := RX12) kw_1059 rfl rfl dX12_take_97 ?_
                  refine j_bipush SS dX12_take_100 (by decide +kernel) ?_
                  refine lv_iload_n SS.1 SS.2.1 dX12_take_102 rfl (lv_at hl 1 rfl) ?_
                  refine j_imul SS (x := 24) (y := s) dX12_take_103 ?_
                  refine lv_iload SS.1 SS.2.1 dX12_take_104 (lv_at hl 2 rfl) ?_
                  refine j_iadd SS (x := (24 * s)) (y := i2) dX12_take_106 ?_
                  refine lv_aload_n SS.1 SS.2.1 dX12_take_107 rfl (lv_at hl 0 rfl) ?_
                  refine j_get SS hG hP 0 (v := .ref (q 7)) (C := RX12) (T := TX12) (N := 31) rfl rfl inX12 7 (by decide) (ref := RX12) kw_1065 rfl rfl dX12_take_108 ?_
                  refine lv_iload SS.1 SS.2.1 dX12_take_111 (lv_at hl 2 rfl) ?_
                  refine j_iald SS hG hP 7 (n := 1300) (f := (u.1 7)) rfl (z := i2) (by omega) (by omega) dX12_take_113 ?_
                  refine j_iast SS hG hP (mW_D hD) hS 2 (n := 192) (f := g1) rfl (z := ((24 * s) + i2)) (v := ((u.1 7) (i2).toNat)) (by omega) (by omega) dX12_take_114 (ws' := (mW D o q (uI (uI (uI u 0 (upI (u.1 0) (s).toNat (u.2.2 9))) 1 (upI g1 (((24 * s) + i2)).toNat ((u.1 7) (i2).toNat))) 2 g2))) rfl (fun H locs hP hS => ?_)
                  refine lv_aload_n SS.1 SS.2.1 dX12_take_115 rfl (lv_at hl 0 rfl) ?_
                  refine j_get SS hG hP 0 (v := .ref (q 2)) (C := RX12) (T := TX12) (N := 31) rfl rfl inX12 2 (by decide) (ref := RX12) kw_1060 rfl rfl dX12_take_116 ?_
                  refine j_bipush SS dX12_take_119 (by decide +kernel) ?_
                  refine lv_iload_n SS.1 SS.2.1 dX12_take_121 rfl (lv_at hl 1 rfl) ?_
                  refine j_imul SS (x := 24) (y := s) dX12_take_122 ?_
                  refine lv_iload SS.1 SS.2.1 dX12_take_123 (lv_at hl 2 rfl) ?_
                  refine j_iadd SS (x := (24 * s)) (y := i2) dX12_take_125 ?_
                  refine lv_aload_n SS.1 SS.2.1 dX12_take_126 rfl (lv_at hl 0 rfl) ?_
                  refine j_get SS hG hP 0 (v := .ref (q 8)) (C := RX12) (T := TX12) (N := 31) rfl rfl inX12 8 (by decide) (ref := RX12) kw_1066 rfl rfl dX12_take_127 ?_
                  refine lv_iload SS.1 SS.2.1 dX12_take_130 (lv_at hl 2 rfl) ?_
                  refine j_iald SS hG hP 8 (n := 1300) (f := (u.1 8)) rfl (z := i2) (by omega) (by omega) dX12_take_132 ?_
                  refine j_iast SS hG hP (mW_D hD) hS 3 (n := 192) (f := g2) rfl (z := ((24 * s) + i2)) (v := ((u.1 8) (i2).toNat)) (by omega) (by omega) dX12_take_133 (ws' := (mW D o q (uI (uI (uI u 0 (upI (u.1 0) (s).toNat (u.2.2 9))) 1 (upI g1 (((24 * s) + i2)).toNat ((u.1 7) (i2).toNat))) 2 (upI g2 (((24 * s) + i2)).toNat ((u.1 8) (i2).toNat))))) rfl (fun H locs hP hS => ?_)
                  refine lv_iinc (v := J (i2 + 1)) (lv' := [(4, .int (J (i2 + 1))), (0, .ref o), (1, .int (J s))]) SS.1 SS.2.1 dX12_take_134 hl (k := 2) rfl (J_add _ _) (by decide) rfl (fun ls hl => ?_)
                  refine lv_goto (tgt := 87) SS.1 SS.2.1 dX12_take_137 (by decide) ?_
                  exact ih_87 (i2 + 1) (upI g1 (((24 * s) + i2)).toNat ((u.1 7) (i2).toNat)) (upI g2 (((24 * s) + i2)).toNat ((u.1 8) (i2).toNat)) _ _ hP hS ls (lv_sub hl [1, 2, 0] rfl) (by omega) (cw_s p0.1 i87_0.1 i87_1) (by omega)
            exact L_87 ((u.2.2 9 - (0 : Int)).toNat + 1) 0 (u.1 1) (u.1 2) _ _ hP hS ls (lv_sub hl [1, 2, 0] rfl) (by omega) (cw_0) (Nat.lt_succ_self _)
          · skip
            refine j_bipush SS dX12_take_71 (by decide +kernel) ?_
            exact W.iret SS.1 SS.2.1 hr (fun t ht hW => ⟨⟨_, (uI (uI (uI (uI u 0 (u.1 0)) 1 (u.1 1)) 2 (u.1 2)) 3 (u.1 3)), rfl, ⟨(-3), rfl, (⟨(u.1 0), (u.1 1), (u.1 2), (u.1 3), rfl, Or.inl ⟨rfl, by rcases i18_1 with k | k; omega; rw [show i = u.2.2 9 by omega] at k; exact k.2, rfl, rfl, rfl, rfl⟩⟩)⟩, by show va_P D.1 j_cl (mW D o q (uI (uI (uI (uI u 0 (u.1 0)) 1 (u.1 1)) 2 (u.1 2)) 3 (u.1 3))) t.heap; rw [ht]; exact hP⟩, hS.F ht⟩) hS.2.2 dX12_take_73 hlk
        · skip
          refine lv_iload_n SS.1 SS.2.1 dX12_take_27 rfl (lv_at hl 3 rfl) ?_
          refine j_if_eq SS (tgt := 59) (x := w) dX12_take_28 (by decide) (by omega) (fun c_28 => ?_) (fun c_28 => ?_)
          · skip
            refine j_iconst SS dX12_take_59 ?_
            refine lv_istore_n (lv' := [(3, .int (J 0)), (0, .ref o), (1, .int (J s)), (2, .int (J b)), (4, .int (J i))]) SS.1 SS.2.1 dX12_take_60 rfl hl (by decide) rfl (fun ls hl => ?_)
            refine lv_iinc (v := J (i + 1)) (lv' := [(4, .int (J (i + 1))), (3, .int (J 0)), (0, .ref o), (1, .int (J s)), (2, .int (J b))]) SS.1 SS.2.1 dX12_take_61 hl (k := 4) rfl (J_add _ _) (by decide) rfl (fun ls hl => ?_)
            refine lv_goto (tgt := 18) SS.1 SS.2.1 dX12_take_64 (by decide) ?_
            exact ih_18 0 (i + 1) _ _ hP hS ls (lv_sub hl [2, 3, 4, 1, 0] rfl) (by omega) (by rw [tk_s i18_0.1]; first | (refine Or.inl ⟨rfl, ?_⟩; rcases i18_1 with k | k; exact ⟨k.2, fun _ => by omega⟩; omega) | (refine Or.inr ⟨rfl, ?_⟩; intro k; rcases i18_1 with k2 | k2; have := k.2 (by omega); omega; exact k2.2 k.1)) (by omega)
          · skip
            refine lv_iload_n SS.1 SS.2.1 dX12_take_31 rfl (lv_at hl 2 rfl) ?_
            refine j_if_eq SS (tgt := 55) (x := b) dX12_take_32 (by decide) (by omega) (fun c_32 => ?_) (fun c_32 => ?_)
            · skip
              refine j_iconst SS dX12_take_55 ?_
              refine lv_goto (tgt := 60) SS.1 SS.2.1 dX12_take_56 (by decide) ?_
              refine lv_istore_n (lv' := [(3, .int (J 1)), (0, .ref o), (1, .int (J s)), (2, .int (J b)), (4, .int (J i))]) SS.1 SS.2.1 dX12_take_60 rfl hl (by decide) rfl (fun ls hl => ?_)
              refine lv_iinc (v := J (i + 1)) (lv' := [(4, .int (J (i + 1))), (3, .int (J 1)), (0, .ref o), (1, .int (J s)), (2, .int (J b))]) SS.1 SS.2.1 dX12_take_61 hl (k := 4) rfl (J_add _ _) (by decide) rfl (fun ls hl => ?_)
              refine lv_goto (tgt := 18) SS.1 SS.2.1 dX12_take_64 (by decide) ?_
              exact ih_18 1 (i + 1) _ _ hP hS ls (lv_sub hl [2, 3, 4, 1, 0] rfl) (by omega) (by rw [tk_s i18_0.1]; first | (refine Or.inl ⟨rfl, ?_⟩; rcases i18_1 with k | k; exact ⟨k.2, fun _ => by omega⟩; omega) | (refine Or.inr ⟨rfl, ?_⟩; intro k; rcases i18_1 with k2 | k2; have := k.2 (by omega); omega; exact k2.2 k.1)) (by omega)
            · skip
              refine lv_aload_n SS.1 SS.2.1 dX12_take_35 rfl (lv_at hl 0 rfl) ?_
              refine j_get SS hG hP 0 (v := .ref (q 7)) (C := RX12) (T := TX12) (N := 31) rfl rfl inX12 7 (by decide) (ref := RX12) kw_1065 rfl rfl dX12_take_36 ?_
              refine lv_iload SS.1 SS.2.1 dX12_take_39 (lv_at hl 4 rfl) ?_
              refine j_iald SS hG hP 7 (n := 1300) (f := (u.1 7)) rfl (z := i) (by omega) (by omega) dX12_take_41 ?_
              refine lv_aload_n SS.1 SS.2.1 dX12_take_42 rfl (lv_at hl 0 rfl) ?_
              refine j_get SS hG hP 0 (v := .ref (q 8)) (C := RX12) (T := TX12) (N := 31) rfl rfl inX12 8 (by decide) (ref := RX12) kw_1066 rfl rfl dX12_take_43 ?_
              refine lv_iload SS.1 SS.2.1 dX12_take_46 (lv_at hl 4 rfl) ?_
              refine j_iald SS hG hP 8 (n := 1300) (f := (u.1 8)) rfl (z := i) (by omega) (by omega) dX12_take_48 ?_
              have q := bd_at p3 (z := i) (by omega) (by omega)
              refine j_sRi SS (As := [.int (J ((u.1 7) (i).toNat)), .int (J ((u.1 8) (i).toNat))]) (rest := []) (c_X12_isPlace l D ((u.1 7) (i).toNat) ((u.1 8) (i).toNat) (show -2147483648 ≤ ((u.1 7) (i).toNat) ∧ ((u.1 7) (i).toNat) ≤ 2147483647 from (by omega)) (show -2147483648 ≤ ((u.1 8) (i).toNat) ∧ ((u.1 8) (i).toNat) ≤ 2147483647 from (by omega))) mf_X12_isPlace kw_1166 hG trivial rfl hl.1 ⟨⟨Nat.le_of_ble_eq_true rfl, Nat.le_of_ble_eq_true rfl⟩, Nat.le_of_ble_eq_true rfl, Nat.le_refl _, Nat.le_refl _⟩ rfl dX12_take_49 (fun z_49 h_49 => ?_)
              have h_49 : (z_49 = 1 ∧ (-40 ≤ ((u.1 7) (i).toNat) ∧ ((u.1 7) (i).toNat) ≤ 40 ∧ -40 ≤ ((u.1 8) (i).toNat) ∧ ((u.1 8) (i).toNat) ≤ 40)) ∨ (z_49 = 0 ∧ ¬ (-40 ≤ ((u.1 7) (i).toNat) ∧ ((u.1 7) (i).toNat) ≤ 40 ∧ -40 ≤ ((u.1 8) (i).toNat) ∧ ((u.1 8) (i).toNat) ≤ 40)) := h_49
              refine j_if_eq SS (tgt := 59) (x := z_49) dX12_take_52 (by decide) (by omega) (fun c_52 => ?_) (fun c_52 => ?_)
              · skip
                refine j_iconst SS dX12_take_59 ?_
                refine lv_istore_n (lv' := [(3, .int (J 0)), (0, .ref o), (1, .int (J s)), (2, .int (J b)), (4, .int (J i))]) SS.1 SS.2.1 dX12_take_60 rfl hl (by decide) rfl (fun ls hl => ?_)
                refine lv_iinc (v := J (i + 1)) (lv' := [(4, .int (J (i + 1))), (3, .int (J 0)), (0, .ref o), (1, .int (J s)), (2, .int (J b))]) SS.1 SS.2.1 dX12_take_61 hl (k := 4) rfl (J_add _ _) (by decide) rfl (fun ls hl => ?_)
                refine lv_goto (tgt := 18) SS.1 SS.2.1 dX12_take_64 (by decide) ?_
                exact ih_18 0 (i + 1) _ _ hP hS ls (lv_sub hl [2, 3, 4, 1, 0] rfl) (by omega) (by rw [tk_s i18_0.1]; first | (refine Or.inl ⟨rfl, ?_⟩; rcases i18_1 with k | k; exact ⟨k.2, fun _ => by omega⟩; omega) | (refine Or.inr ⟨rfl, ?_⟩; intro k; rcases i18_1 with k2 | k2; have := k.2 (by omega); omega; exact k2.2 k.1)) (by omega)
              · skip
                refine j_iconst SS dX12_take_55 ?_
                refine lv_goto (tgt := 60) SS.1 SS.2.1 dX12_take_56 (by decide) ?_
                refine lv_istore_n (lv' := [(3, .int (J 1)), (0, .ref o), (1, .int (J s)), (2, .int (J b)), (4, .int (J i))]) SS.1 SS.2.1 dX12_take_60 rfl hl (by decide) rfl (fun ls hl => ?_)
                refine lv_iinc (v := J (i + 1)) (lv' := [(4, .int (J (i + 1))), (3, .int (J 1)), (0, .ref o), (1, .int (J s)), (2, .int (J b))]) SS.1 SS.2.1 dX12_take_61 hl (k := 4) rfl (J_add _ _) (by decide) rfl (fun ls hl => ?_)
                refine lv_goto (tgt := 18) SS.1 SS.2.1 dX12_take_64 (by decide) ?_
                exact ih_18 1 (i + 1) _ _ hP hS ls (lv_sub hl [2, 3, 4, 1, 0] rfl) (by omega) (by rw [tk_s i18_0.1]; first | (refine Or.inl ⟨rfl, ?_⟩; rcases i18_1 with k | k; exact ⟨k.2, fun _ => by omega⟩; omega) | (refine Or.inr ⟨rfl, ?_⟩; intro k; rcases i18_1 with k2 | k2; have := k.2 (by omega); omega; exact k2.2 k.1)) (by omega)
    exact L_18 ((u.2.2 9 - (0 : Int)).toNat + 1) 0 0 _ _ hP hS ls (lv_sub hl [2, 3, 4, 1, 0] rfl) (by omega) (by rw [tk_0]; omega) (Nat.lt_succ_self _)
  · skip
    refine j_iconst SS dX12_take_9 ?_
    refine lv_goto (tgt := 14) SS.1 SS.2.1 dX12_take_10 (by decide) ?_
    refine lv_istore_n (lv' := [(3, .int (J 1)), (0, .ref o), (1, .int (J s)), (2, .int (J b))]) SS.1 SS.2.1 dX12_take_14 rfl hl (by decide) rfl (fun ls hl => ?_)
    refine j_iconst SS dX12_take_15 ?_
    refine lv_istore (lv' := [(4, .int (J 0)), (3, .int (J 1)), (0, .ref o), (1, .int (J s)), (2, .int (J b))]) SS.1 SS.2.1 dX12_take_16 hl (by decide) rfl (fun ls hl => ?_)
    have L_18 : ∀ (nn : Nat) (w : Int) (i : Int) (H : Heap) (locs : List Loc) (hP : va_P D.1 j_cl (mW D o q u) H) (hS : va_S A st.heap H locs) (ls : Array Slot) (hl : lv_has ls 5 [(0, .ref o), (1, .int (J s)), (2, .int (J b)), (3, .int (J w)), (4, .int (J i))]) (i18_0 : 0 ≤ i ∧ i ≤ u.2.2 9) (i18_1 : (w = 1 ∧ tk_ok b 40 (u.1 7) (u.1 8) (u.2.2 9) i) ∨ (w = 0 ∧ ¬ tk_ok b 40 (u.1 7) (u.1 8) (u.2.2 9) i)), (u.2.2 9 - i).toNat < nn → W pr l en (headSpec (jw yX12_take cX12_take 5 (some .int)) (jr 2 43)).room st mi (([.ref o, .int (J s), .int (J b)] : List Value).toArray) below meth co H locs 0 0 (MQ below (jWi (fun z u' => ∃ f0 : Nat → Int, ∃ f1 : Nat → Int, ∃ f2 : Nat → Int, ∃ f3 : Nat → Int, u' = (uI (uI (uI (uI u 0 f0) 1 f1) 2 f2) 3 f3) ∧ ((z = -3 ∧ ¬ tk_ok b 40 (u.1 7) (u.1 8) (u.2.2 9) (u.2.2 9) ∧ f0 = u.1 0 ∧ f1 = u.1 1 ∧ f2 = u.1 2 ∧ f3 = u.1 3) ∨ (z = u.2.2 9 ∧ tk_ok b 40 (u.1 7) (u.1 8) (u.2.2 9) (u.2.2 9) ∧ tk_new u f0 f1 f2 f3 s))) (fun u' H => va_P D.1 j_cl (mW D o q u') H) A) (([.ref o, .int (J s), .int (J b)] : List Value).toArray) st 0 0 A) (F0 mi 18 ls []) := by
      intro nn
      induction nn with
      | zero => intros; omega
      | succ nn ih_18 =>
        intro w i  H locs hP hS ls hl i18_0 i18_1 hm
        refine lv_iload SS.1 SS.2.1 dX12_take_18 (lv_at hl 4 rfl) ?_
        refine lv_aload_n SS.1 SS.2.1 dX12_take_20 rfl (lv_at hl 0 rfl) ?_
        refine j_get SS hG hP 0 (v := .int (J (u.2.2 9))) (C := RX12) (T := TX12) (N := 31) rfl rfl inX12 9 (by decide) (ref := RX12) kw_1067 rfl rfl dX12_take_21 ?_
        refine j_icmp_ge SS (tgt := 67) (x := i) (y := (u.2.2 9)) dX12_take_24 (by decide) (by omega) (by omega) (fun c_24 => ?_) (fun c_24 => ?_)
        · skip
          refine lv_iload_n SS.1 SS.2.1 dX12_take_67 rfl (lv_at hl 3 rfl) ?_
          refine j_if_ne SS (tgt := 74) (x := w) dX12_take_68 (by decide) (by omega) (fun c_68 => ?_) (fun c_68 => ?_)
          · skip
            have hok : w = 1 ∧ tk_ok b 40 (u.1 7) (u.1 8) (u.2.2 9) i := by rcases i18_1 with k | k; exact k; omega
            have h24 := hok.2.1
            have ei : i = u.2.2 9 := by omega
            rw [ei] at hok
            refine lv_aload_n SS.1 SS.2.1 dX12_take_74 rfl (lv_at hl 0 rfl) ?_
            refine j_get SS hG hP 0 (v := .ref (q 0)) (C := RX12) (T := TX12) (N := 31) rfl rfl inX12 0 (by decide) (ref := RX12) kw_1058 rfl rfl dX12_take_75 ?_
            refine lv_iload_n SS.1 SS.2.1 dX12_take_78 rfl (lv_at hl 1 rfl) ?_
            refine lv_aload_n SS.1 SS.2.1 dX12_take_79 rfl (lv_at hl 0 rfl) ?_
            refine j_get SS hG hP 0 (v := .int (J (u.2.2 9))) (C := RX12) (T := TX12) (N := 31) rfl rfl inX12 9 (by decide) (ref := RX12) kw_1067 rfl rfl dX12_take_80 ?_
            refine j_iast SS hG hP (mW_D hD) hS 1 (n := 8) (f := (u.1 0)) rfl (z := s) (v := (u.2.2 9)) (by omega) (by omega) dX12_take_83 (ws' := (mW D o q (uI u 0 (upI (u.1 0) (s).toNat (u.2.2 9))))) rfl (fun H locs hP hS => ?_)
            refine j_iconst SS dX12_take_84 ?_
            refine lv_istore (lv' := [(4, .int (J 0)), (0, .ref o), (1, .int (J s)), (2, .int (J b)), (3, .int (J w))]) SS.1 SS.2.1 dX12_take_85 hl (by decide) rfl (fun ls hl => ?_)
            have L_87 : ∀ (nn : Nat) (i2 : Int) (g1 : Nat → Int) (g2 : Nat → Int) (H : Heap) (locs : List Loc) (hP : va_P D.1 j_cl (mW D o q (uI (uI (uI u 0 (upI (u.1 0) (s).toNat (u.2.2 9))) 1 g1) 2 g2)) H) (hS : va_S A st.heap H locs) (ls : Array Slot) (hl : lv_has ls 5 [(0, .ref o), (1, .int (J s)), (4, .int (J i2))]) (i87_0 : 0 ≤ i2 ∧ i2 ≤ u.2.2 9) (i87_1 : cw_ (u.1 7) (u.1 8) g1 g2 (u.1 1) (u.1 2) s i2), (u.2.2 9 - i2).toNat < nn → W pr l en (headSpec (jw yX12_take cX12_take 5 (some .int)) (jr 2 43)).room st mi (([.ref o, .int (J s), .int (J b)] : List Value).toArray) below meth co H locs 0 0 (MQ below (jWi (fun z u' => ∃ f0 : Nat → Int, ∃ f1 : Nat → Int, ∃ f2 : Nat → Int, ∃ f3 : Nat → Int, u' = (uI (uI (uI (uI u 0 f0) 1 f1) 2 f2) 3 f3) ∧ ((z = -3 ∧ ¬ tk_ok b 40 (u.1 7) (u.1 8) (u.2.2 9) (u.2.2 9) ∧ f0 = u.1 0 ∧ f1 = u.1 1 ∧ f2 = u.1 2 ∧ f3 = u.1 3) ∨ (z = u.2.2 9 ∧ tk_ok b 40 (u.1 7) (u.1 8) (u.2.2 9) (u.2.2 9) ∧ tk_new u f0 f1 f2 f3 s))) (fun u' H => va_P D.1 j_cl (mW D o q u') H) A) (([.ref o, .int (J s), .int (J b)] : List Value).toArray) st 0 0 A) (F0 mi 87 ls []) := by
              intro nn
              induction nn with
              | zero => intros; omega
              | succ nn ih_87 =>
                intro i2 g1 g2 H locs hP hS ls hl i87_0 i87_1 hm
                refine lv_iload SS.1 SS.2.1 dX12_take_87 (lv_at hl 2 rfl) ?_
                refine lv_aload_n SS.1 SS.2.1 dX12_take_89 rfl (lv_at hl 0 rfl) ?_
                refine j_get SS hG hP 0 (v := .int (J (u.2.2 9))) (C := RX12) (T := TX12) (N := 31) rfl rfl inX12 9 (by decide) (ref := RX12) kw_1067 rfl rfl dX12_take_90 ?_
                refine j_icmp_ge SS (tgt := 140) (x := i2) (y := (u.2.2 9)) dX12_take_93 (by decide) (by omega) (by omega) (fun c_93 => ?_) (fun c_93 => ?_)
                · skip
                  refine j_iconst SS dX12_take_140 ?_
                  refine lv_istore (lv' := [(4, .int (J 0)), (0, .ref o), (1, .int (J s))]) SS.1 SS.2.1 dX12_take_141 hl (by decide) rfl (fun ls hl => ?_)
                  have L_143 : ∀ (nn : Nat) (i3 : Int) (g3 : Nat → Int) (H : Heap) (locs : List Loc) (hP : va_P D.1 j_cl (mW D o q (uI (uI (uI (uI u 0 (upI (u.1 0) (s).toNat (u.2.2 9))) 1 g1) 2 g2) 3 g3)) H) (hS : va_S A st.heap H locs) (ls : Array Slot) (hl : lv_has ls 5 [(0, .ref o), (1, .int (J s)), (4, .int (J i3))]) (i143_0 : 0 ≤ i3 ∧ i3 ≤ 40) (i143_1 : hz_ (u.1 3) g3 s i3), ((40 : Int) - i3).toNat < nn → W pr l en (headSpec (jw yX12_take cX12_take 5 (some .int)) (jr 2 43)).room st mi (([.ref o, .int (J s), .int (J b)] : List Value).toArray) below meth co H locs 0 0 (MQ below (jWi (fun z u' => ∃ f0 : Nat → Int, ∃ f1 : Nat → Int, ∃ f2 : Nat → Int, ∃ f3 : Nat → Int, u' = (uI (uI (uI (uI u 0 f0) 1 f1) 2 f2) 3 f3) ∧ ((z = -3 ∧ ¬ tk_ok b 40 (u.1 7) (u.1 8) (u.2.2 9) (u.2.2 9) ∧ f0 = u.1 0 ∧ f1 = u.1 1 ∧ f2 = u.1 2 ∧ f3 = u.1 3) ∨ (z = u.2.2 9 ∧ tk_ok b 40 (u.1 7) (u.1 8) (u.2.2 9) (u.2.2 9) ∧ tk_new u f0 f1 f2 f3 s))) (fun u' H => va_P D.1 j_cl (mW D o q u') H) A) (([.ref o, .int (J s), .int (J b)] : List Value).toArray) st 0 0 A) (F0 mi 143 ls []) := by
                    intro nn
                    induction nn with
                    | zero => intros; omega
                    | succ nn ih_143 =>
                      intro i3 g3 H locs hP hS ls hl i143_0 i143_1 hm
                      refine lv_iload SS.1 SS.2.1 dX12_take_143 (lv_at hl 2 rfl) ?_
                      refine j_bipush SS dX12_take_145 (by decide +kernel) ?_
                      refine j_icmp_ge SS (tgt := 169) (x := i3) (y := 40) dX12_take_147 (by decide) (by omega) (by decide) (fun c_147 => ?_) (fun c_147 => ?_)
                      · skip
                        refine lv_aload_n SS.1 SS.2.1 dX12_take_169 rfl (lv_at hl 0 rfl) ?_
                        refine j_get SS hG hP 0 (v := .int (J (u.2.2 9))) (C := RX12) (T := TX12) (N := 31) rfl rfl inX12 9 (by decide) (ref := RX12) kw_1067 rfl rfl dX12_take_170 ?_
                        exact W.iret SS.1 SS.2.1 hr (fun t ht hW => ⟨⟨_, (uI (uI (uI (uI u 0 (upI (u.1 0) (s).toNat (u.2.2 9))) 1 g1) 2 g2) 3 g3), rfl, ⟨(u.2.2 9), rfl, (⟨(upI (u.1 0) (s).toNat (u.2.2 9)), g1, g2, g3, rfl, Or.inr ⟨rfl, hok.2, rfl, by rw [show i2 = u.2.2 9 by omega] at i87_1; exact i87_1, by rw [show i3 = 40 by omega] at i143_1; exact i143_1⟩⟩)⟩, by show va_P D.1 j_cl (mW D o q (uI (uI (uI (uI u 0 (upI (u.1 0) (s).toNat (u.2.2 9))) 1 g1) 2 g2) 3 g3)) t.heap; rw [ht]; exact hP⟩, hS.F ht⟩) hS.2.2 dX12_take_173 hlk
                      · skip
                        refine lv_aload_n SS.1 SS.2.1 dX12_take_150 rfl (lv_at hl 0 rfl) ?_
                        refine j_get SS hG hP 0 (v := .ref (q 3)) (C := RX12) (T := TX12) (N := 31) rfl rfl inX12 3 (by decide) (ref := RX12) kw_1061 rfl rfl dX12_take_151 ?_
                        refine j_bipush SS dX12_take_154 (by decide +kernel) ?_
                        refine lv_iload_n SS.1 SS.2.1 dX12_take_156 rfl (lv_at hl 1 rfl) ?_
                        refine j_imul SS (x := 40) (y := s) dX12_take_157 ?_
                        refine lv_iload SS.1 SS.2.1 dX12_take_158 (lv_at hl 2 rfl) ?_
                        refine j_iadd SS (x := (40 * s)) (y := i3) dX12_take_160 ?_
                        refine j_iconst SS dX12_take_161 ?_
                        refine j_iast SS hG hP (mW_D hD) hS 4 (n := 320) (f := g3) rfl (z := ((40 * s) + i3)) (v := 0) (by omega) (by omega) dX12_take_162 (ws' := (mW D o q (uI (uI (uI (uI u 0 (upI (u.1 0) (s).toNat (u.2.2 9))) 1 g1) 2 g2) 3 (upI g3 (((40 * s) + i3)).toNat 0)))) rfl (fun H locs hP hS => ?_)
                        refine lv_iinc (v := J (i3 + 1)) (lv' := [(4, .int (J (i3 + 1))), (0, .ref o), (1, .int (J s))]) SS.1 SS.2.1 dX12_take_163 hl (k := 2) rfl (J_add _ _) (by decide) rfl (fun ls hl => ?_)
                        refine lv_goto (tgt := 143) SS.1 SS.2.1 dX12_take_166 (by decide) ?_
                        exact ih_143 (i3 + 1) (upI g3 (((40 * s) + i3)).toNat 0) _ _ hP hS ls (lv_sub hl [1, 2, 0] rfl) (by omega) (by first | exact hz_0 | exact hz_s p0.1 (by omega) i143_1) (by omega)
                  exact L_143 (((40 : Int) - (0 : Int)).toNat + 1) 0 (u.1 3) _ _ hP hS ls (lv_sub hl [1, 2, 0] rfl) (by omega) (by first | exact hz_0 | exact hz_s p0.1 (by omega) i143_1) (Nat.lt_succ_self _)
                · skip
                  refine lv_aload_n SS.1 SS.2.1 dX12_take_96 rfl (lv_at hl 0 rfl) ?_
                  refine j_get SS hG hP 0 (v := .ref (q 1)) (C := RX12) (T := TX12) (N := 31) rfl rfl inX12 1 (by decide) (ref := RX12) kw_1059 rfl rfl dX12_take_97 ?_
                  refine j_bipush SS dX12_take_100 (by decide +kernel) ?_
                  refine lv_iload_n SS.1 SS.2.1 dX12_take_102 rfl (lv_at hl 1 rfl) ?_
                  refine j_imul SS (x := 24) (y := s) dX12_take_103 ?_
                  refine lv_iload SS.1 SS.2.1 dX12_take_104 (lv_at hl 2 rfl) ?_
                  refine j_iadd SS (x := (24 * s)) (y := i2) dX12_take_106 ?_
                  refine lv_aload_n SS.1 SS.2.1 dX12_take_107 rfl (lv_at hl 0 rfl) ?_
                  refine j_get SS hG hP 0 (v := .ref (q 7)) (C := RX12) (T := TX12) (N := 31) rfl rfl inX12 7 (by decide) (ref := RX12) kw_1065 rfl rfl dX12_take_108 ?_
                  refine lv_iload SS.1 SS.2.1 dX12_take_111 (lv_at hl 2 rfl) ?_
                  refine j_iald SS hG hP 7 (n := 1300) (f := (u.1 7)) rfl (z := i2) (by omega) (by omega) dX12_take_113 ?_
                  refine j_iast SS hG hP (mW_D hD) hS 2 (n := 192) (f := g1) rfl (z := ((24 * s) + i2)) (v := ((u.1 7) (i2).toNat)) (by omega) (by omega) dX12_take_114 (ws' := (mW D o q (uI (uI (uI u 0 (upI (u.1 0) (s).toNat (u.2.2 9))) 1 (upI g1 (((24 * s) + i2)).toNat ((u.1 7) (i2).toNat))) 2 g2))) rfl (fun H locs hP hS => ?_)
                  refine lv_aload_n SS.1 SS.2.1 dX12_take_115 rfl (lv_at hl 0 rfl) ?_
                  refine j_get SS hG hP 0 (v := .ref (q 2)) (C := RX12) (T := TX12) (N := 31) rfl rfl inX12 2 (by decide) (ref := RX12) kw_1060 rfl rfl dX12_take_116 ?_
                  refine j_bipush SS dX12_take_119 (by decide +kernel) ?_
                  refine lv_iload_n SS.1 SS.2.1 dX12_take_121 rfl (lv_at hl 1 rfl) ?_
                  refine j_imul SS (x := 24) (y := s) dX12_take_122 ?_
                  refine lv_iload SS.1 SS.2.1 dX12_take_123 (lv_at hl 2 rfl) ?_
                  refine j_iadd SS (x := (24 * s)) (y := i2) dX12_take_125 ?_
                  refine lv_aload_n SS.1 SS.2.1 dX12_take_126 rfl (lv_at hl 0 rfl) ?_
                  refine j_get SS hG hP 0 (v := .ref (q 8)) (C := RX12) (T := TX12) (N := 31) rfl rfl inX12 8 (by decide) (ref := RX12) kw_1066 rfl rfl dX12_take_127 ?_
                  refine lv_iload SS.1 SS.2.1 dX12_take_130 (lv_at hl 2 rfl) ?_
                  refine j_iald SS hG hP 8 (n := 1300) (f := (u.1 8)) rfl (z := i2) (by omega) (by omega) dX12_take_132 ?_
                  refine j_iast SS hG hP (mW_D hD) hS 3 (n := 192) (f := g2) rfl (z := ((24 * s) + i2)) (v := ((u.1 8) (i2).toNat)) (by omega) (by omega) dX12_take_133 (ws' := (mW D o q (uI (uI (uI u 0 (upI (u.1 0) (s).toNat (u.2.2 9))) 1 (upI g1 (((24 * s) + i2)).toNat ((u.1 7) (i2).toNat))) 2 (upI g2 (((24 * s) + i2)).toNat ((u.1 8) (i2).toNat))))) rfl (fun H locs hP hS => ?_)
                  refine lv_iinc (v := J (i2 + 1)) (lv' := [(4, .int (J (i2 + 1))), (0, .ref o), (1, .int (J s))]) SS.1 SS.2.1 dX12_take_134 hl (k := 2) rfl (J_add _ _) (by decide) rfl (fun ls hl => ?_)
                  refine lv_goto (tgt := 87) SS.1 SS.2.1 dX12_take_137 (by decide) ?_
                  exact ih_87 (i2 + 1) (upI g1 (((24 * s) + i2)).toNat ((u.1 7) (i2).toNat)) (upI g2 (((24 * s) + i2)).toNat ((u.1 8) (i2).toNat)) _ _ hP hS ls (lv_sub hl [1, 2, 0] rfl) (by omega) (cw_s p0.1 i87_0.1 i87_1) (by omega)
            exact L_87 ((u.2.2 9 - (0 : Int)).toNat + 1) 0 (u.1 1) (u.1 2) _ _ hP hS ls (lv_sub hl [1, 2, 0] rfl) (by omega) (cw_0) (Nat.lt_succ_self _)
          · skip
            refine j_bipush SS dX12_take_71 (by decide +kernel) ?_
            exact W.iret SS.1 SS.2.1 hr (fun t ht hW => ⟨⟨_, (uI (uI (uI (uI u 0 (u.1 0)) 1 (u.1 1)) 2 (u.1 2)) 3 (u.1 3)), rfl, ⟨(-3), rfl, (⟨(u.1 0), (u.1 1), (u.1 2), (u.1 3), rfl, Or.inl ⟨rfl, by rcases i18_1 with k | k; omega; rw [show i = u.2.2 9 by omega] at k; exact k.2, rfl, rfl, rfl, rfl⟩⟩)⟩, by show va_P D.1 j_cl (mW D o q (uI (uI (uI (uI u 0 (u.1 0)) 1 (u.1 1)) 2 (u.1 2)) 3 (u.1 3))) t.heap; rw [ht]; exact hP⟩, hS.F ht⟩) hS.2.2 dX12_take_73 hlk
        · skip
          refine lv_iload_n SS.1 SS.2.1 dX12_take_27 rfl (lv_at hl 3 rfl) ?_
          refine j_if_eq SS (tgt := 59) (x := w) dX12_take_28 (by decide) (by omega) (fun c_28 => ?_) (fun c_28 => ?_)
          · skip
            refine j_iconst SS dX12_take_59 ?_
            refine lv_istore_n (lv' := [(3, .int (J 0)), (0, .ref o), (1, .int (J s)), (2, .int (J b)), (4, .int (J i))]) SS.1 SS.2.1 dX12_take_60 rfl hl (by decide) rfl (fun ls hl => ?_)
            refine lv_iinc (v := J (i + 1)) (lv' := [(4, .int (J (i + 1))), (3, .int (J 0)), (0, .ref o), (1, .int (J s)), (2, .int (J b))]) SS.1 SS.2.1 dX12_take_61 hl (k := 4) rfl (J_add _ _) (by decide) rfl (fun ls hl => ?_)
            refine lv_goto (tgt := 18) SS.1 SS.2.1 dX12_take_64 (by decide) ?_
            exact ih_18 0 (i + 1) _ _ hP hS ls (lv_sub hl [2, 3, 4, 1, 0] rfl) (by omega) (by rw [tk_s i18_0.1]; first | (refine Or.inl ⟨rfl, ?_⟩; rcases i18_1 with k | k; exact ⟨k.2, fun _ => by omega⟩; omega) | (refine Or.inr ⟨rfl, ?_⟩; intro k; rcases i18_1 with k2 | k2; have := k.2 (by omega); omega; exact k2.2 k.1)) (by omega)
          · skip
            refine lv_iload_n SS.1 SS.2.1 dX12_take_31 rfl (lv_at hl 2 rfl) ?_
            refine j_if_eq SS (tgt := 55) (x := b) dX12_take_32 (by decide) (by omega) (fun c_32 => ?_) (fun c_32 => ?_)
            · skip
              refine j_iconst SS dX12_take_55 ?_
              refine lv_goto (tgt := 60) SS.1 SS.2.1 dX12_take_56 (by decide) ?_
              refine lv_istore_n (lv' := [(3, .int (J 1)), (0, .ref o), (1, .int (J s)), (2, .int (J b)), (4, .int (J i))]) SS.1 SS.2.1 dX12_take_60 rfl hl (by decide) rfl (fun ls hl => ?_)
              refine lv_iinc (v := J (i + 1)) (lv' := [(4, .int (J (i + 1))), (3, .int (J 1)), (0, .ref o), (1, .int (J s)), (2, .int (J b))]) SS.1 SS.2.1 dX12_take_61 hl (k := 4) rfl (J_add _ _) (by decide) rfl (fun ls hl => ?_)
              refine lv_goto (tgt := 18) SS.1 SS.2.1 dX12_take_64 (by decide) ?_
              exact ih_18 1 (i + 1) _ _ hP hS ls (lv_sub hl [2, 3, 4, 1, 0] rfl) (by omega) (by rw [tk_s i18_0.1]; first | (refine Or.inl ⟨rfl, ?_⟩; rcases i18_1 with k | k; exact ⟨k.2, fun _ => by omega⟩; omega) | (refine Or.inr ⟨rfl, ?_⟩; intro k; rcases i18_1 with k2 | k2; have := k.2 (by omega); omega; exact k2.2 k.1)) (by omega)
            · skip
              refine lv_aload_n SS.1 SS.2.1 dX12_take_35 rfl (lv_at hl 0 rfl) ?_
              refine j_get SS hG hP 0 (v := .ref (q 7)) (C := RX12) (T := TX12) (N := 31) rfl rfl inX12 7 (by decide) (ref := RX12) kw_1065 rfl rfl dX12_take_36 ?_
              refine lv_iload SS.1 SS.2.1 dX12_take_39 (lv_at hl 4 rfl) ?_
              refine j_iald SS hG hP 7 (n := 1300) (f := (u.1 7)) rfl (z := i) (by omega) (by omega) dX12_take_41 ?_
              refine lv_aload_n SS.1 SS.2.1 dX12_take_42 rfl (lv_at hl 0 rfl) ?_
              refine j_get SS hG hP 0 (v := .ref (q 8)) (C := RX12) (T := TX12) (N := 31) rfl rfl inX12 8 (by decide) (ref := RX12) kw_1066 rfl rfl dX12_take_43 ?_
              refine lv_iload SS.1 SS.2.1 dX12_take_46 (lv_at hl 4 rfl) ?_
              refine j_iald SS hG hP 8 (n := 1300) (f := (u.1 8)) rfl (z := i) (by omega) (by omega) dX12_take_48 ?_
              have q := bd_at p3 (z := i) (by omega) (by omega)
              refine j_sRi SS (As := [.int (J ((u.1 7) (i).toNat)), .int (J ((u.1 8) (i).toNat))]) (rest := []) (c_X12_isPlace l D ((u.1 7) (i).toNat) ((u.1 8) (i).toNat) (show -2147483648 ≤ ((u.1 7) (i).toNat) ∧ ((u.1 7) (i).toNat) ≤ 2147483647 from (by omega)) (show -2147483648 ≤ ((u.1 8) (i).toNat) ∧ ((u.1 8) (i).toNat) ≤ 2147483647 from (by omega))) mf_X12_isPlace kw_1166 hG trivial rfl hl.1 ⟨⟨Nat.le_of_ble_eq_true rfl, Nat.le_of_ble_eq_true rfl⟩, Nat.le_of_ble_eq_true rfl, Nat.le_refl _, Nat.le_refl _⟩ rfl dX12_take_49 (fun z_49 h_49 => ?_)
              have h_49 : (z_49 = 1 ∧ (-40 ≤ ((u.1 7) (i).toNat) ∧ ((u.1 7) (i).toNat) ≤ 40 ∧ -40 ≤ ((u.1 8) (i).toNat) ∧ ((u.1 8) (i).toNat) ≤ 40)) ∨ (z_49 = 0 ∧ ¬ (-40 ≤ ((u.1 7) (i).toNat) ∧ ((u.1 7) (i).toNat) ≤ 40 ∧ -40 ≤ ((u.1 8) (i).toNat) ∧ ((u.1 8) (i).toNat) ≤ 40)) := h_49
              refine j_if_eq SS (tgt := 59) (x := z_49) dX12_take_52 (by decide) (by omega) (fun c_52 => ?_) (fun c_52 => ?_)
              · skip
                refine j_iconst SS dX12_take_59 ?_
                refine lv_istore_n (lv' := [(3, .int (J 0)), (0, .ref o), (1, .int (J s)), (2, .int (J b)), (4, .int (J i))]) SS.1 SS.2.1 dX12_take_60 rfl hl (by decide) rfl (fun ls hl => ?_)
                refine lv_iinc (v := J (i + 1)) (lv' := [(4, .int (J (i + 1))), (3, .int (J 0)), (0, .ref o), (1, .int (J s)), (2, .int (J b))]) SS.1 SS.2.1 dX12_take_61 hl (k := 4) rfl (J_add _ _) (by decide) rfl (fun ls hl => ?_)
                refine lv_goto (tgt := 18) SS.1 SS.2.1 dX12_take_64 (by decide) ?_
                exact ih_18 0 (i + 1) _ _ hP hS ls (lv_sub hl [2, 3, 4, 1, 0] rfl) (by omega) (by rw [tk_s i18_0.1]; first | (refine Or.inl ⟨rfl, ?_⟩; rcases i18_1 with k | k; exact ⟨k.2, fun _ => by omega⟩; omega) | (refine Or.inr ⟨rfl, ?_⟩; intro k; rcases i18_1 with k2 | k2; have := k.2 (by omega); omega; exact k2.2 k.1)) (by omega)
              · skip
                refine j_iconst SS dX12_take_55 ?_
                refine lv_goto (tgt := 60) SS.1 SS.2.1 dX12_take_56 (by decide) ?_
                refine lv_istore_n (lv' := [(3, .int (J 1)), (0, .ref o), (1, .int (J s)), (2, .int (J b)), (4, .int (J i))]) SS.1 SS.2.1 dX12_take_60 rfl hl (by decide) rfl (fun ls hl => ?_)
                refine lv_iinc (v := J (i + 1)) (lv' := [(4, .int (J (i + 1))), (3, .int (J 1)), (0, .ref o), (1, .int (J s)), (2, .int (J b))]) SS.1 SS.2.1 dX12_take_61 hl (k := 4) rfl (J_add _ _) (by decide) rfl (fun ls hl => ?_)
                refine lv_goto (tgt := 18) SS.1 SS.2.1 dX12_take_64 (by decide) ?_
                exact ih_18 1 (i + 1) _ _ hP hS ls (lv_sub hl [2, 3, 4, 1, 0] rfl) (by omega) (by rw [tk_s i18_0.1]; first | (refine Or.inl ⟨rfl, ?_⟩; rcases i18_1 with k | k; exact ⟨k.2, fun _ => by omega⟩; omega) | (refine Or.inr ⟨rfl, ?_⟩; intro k; rcases i18_1 with k2 | k2; have := k.2 (by omega); omega; exact k2.2 k.1)) (by omega)
    exact L_18 ((u.2.2 9 - (0 : Int)).toNat + 1) 1 0 _ _ hP hS ls (lv_sub hl [2, 3, 4, 1, 0] rfl) (by omega) (by rw [tk_0]; omega) (Nat.lt_succ_self _)


section JE
variable {p : Program} {l : Launch} {e : Env} {R : Room} {s : State} {m : MethodId} {args : Array Value} {below : List Frame} {meth : Method} {c : Code} {H : Heap} {locs : List Loc} {cells slots : Nat} {Q : State → Prop}
variable {cc : ByteArray} {nL : Nat} {own : String} {pc : Nat} {ls : Array Slot} {rest : List Value}
theorem j_vRl (S : jS p m c cc nL s args own) {D : JD} {P : Heap → Prop} {b : Nat} {As : List Value} {post : Int64 → Prop} {y : MethodName} {bytes : ByteArray} {maxL n index f nl : Nat} {ret : Option FieldType} (hM : Met l y (jw y bytes maxL ret) (jr f nl) (jP (.ref b :: As) D P) (vp_Sl post) 0 0 (fun _ => False)) (hy : jmV y bytes maxL ret n) (hl : Cond.methodLink own index y ∈ lw_g) (hG : j_K D s) (hP : P H) {ws : va_W} {ci q0 : Nat} {fs : List Value} {q : vw_C} (hW : va_P D.1 j_cl ws H) (hc : j_cl[ci]? = some q) (he : ws[q0]? = some (b, .inr (ci, fs))) (hq : q.1 = y.cls) (hn : As.length = n) (hls : ls.size = nL) (hR : (f + 1 ≤ R.frames ∧ 8 + (maxL + 11) + nl ≤ R.locals) ∧ (rest.map fun v => v.category).sum ≤ 8 ∧ cells ≤ R.cells ∧ slots ≤ R.slots) {st0 : List Value} (hst : st0 = As.reverse ++ .ref b :: rest) (hdg : decode cc pc = .ok (.invokevirtual index, 3))
    (k : ∀ x : Int64, post x → W p l e R s m args below meth c H locs cells slots Q (F0 m (pc + 3) ls (.long x :: rest))) : W p l e R s m args below meth c H locs cells slots Q (F0 m pc ls st0) :=
  vp_callSl (W.runV (C := y.cls) S hM ⟨j_cB S hy.1 hy.2.1 hl hy.2.2.2.2 hR.1, S.2.2.2.2 _ hy.2.2.1, S.2.2.2.2 _ hy.2.2.2.1⟩ ⟨jP.blind, hq ▸ va_recv hG.1 hW hc he, jP.at hG hP⟩ rfl hn hls hst (lv_room hR.2.1) hdg hR.2.2) k
end JE
def sm (f : Nat → Int) : Nat → Int
  | 0 => 0
  | n + 1 => sm f n + f n
def smI (g : Int → Int) (n : Int) : Int := sm (fun a => g a) n.toNat
theorem smI_0 {g : Int → Int} : smI g 0 = 0 := rfl
theorem smI_s {g : Int → Int} {n : Int} (h : 0 ≤ n) : smI g (n + 1) = smI g n + g n := by
  unfold smI
  rw [show (n + 1).toNat = n.toNat + 1 by omega]
  show sm _ n.toNat + g ((n.toNat : Nat) : Int) = _
  rw [show ((n.toNat : Nat) : Int) = n by omega]
theorem gcd_b {a b K : Int} (ha : -K ≤ a ∧ a ≤ K) (hb : -K ≤ b ∧ b ≤ K) : 0 ≤ (Int.gcd a b : Int) ∧ (Int.gcd a b : Int) ≤ K := by
  by_cases h : a = 0
  · subst h; rw [Int.gcd_zero_left]; omega
  · have := Int.gcd_le_natAbs_left b h; omega
theorem gcd_p {a b : Int} (h : a ≠ 0 ∨ b ≠ 0) : 0 < (Int.gcd a b : Int) := by
  rcases h with h | h
  · have := Int.gcd_pos_of_ne_zero_left b h; omega
  · have := Int.gcd_pos_of_ne_zero_right a h; omega
def mS (u : MS) (s i : Int) : Int := (Int.gcd (mX u s (i + 1) - mX u s i) (mY u s (i + 1) - mY u s i) : Int)
def mAr (u : MS) (s : Int) : Int := smI (fun i => mX u s i * mY u s (i + 1) - mX u s (i + 1) * mY u s i) (mN u s)
def mEd (u : MS) (s : Int) : Int := if mN u s < 2 then mN u s else if mN u s = 2 then mS u s 0 + 1 else smI (mS u s) (mN u s)
def mIn (u : MS) (s : Int) : Int := if 2 < mN u s then (mAr u s - mEd u s + 2).tdiv 2 else 0
theorem mS_b {u : MS} {s i : Int} (h : ∀ i : Int, 0 ≤ i → (-40 ≤ mX u s i ∧ mX u s i ≤ 40) ∧ (-40 ≤ mY u s i ∧ mY u s i ≤ 40)) (hi : 0 ≤ i) : 0 ≤ mS u s i ∧ mS u s i ≤ 80 := by
  have a := h i hi; have b := h (i + 1) (by omega)
  exact gcd_b (by omega) (by omega)
theorem Ch_ne {n : Int} {X Y : Nat → Int} (h : Ch n X Y) (hn : 2 ≤ n) {a : Nat} (ha : (a : Int) < n) : X (a + 1) ≠ X a ∨ Y (a + 1) ≠ Y a := by
  rcases h with h | ⟨t, h1, h2, h3, h4, h5, h6, h7, h8⟩
  · omega
  · by_cases e : a < t
    · have := h3 a e; unfold lt2 at this; omega
    · have := h5 a (by omega) ha; unfold lt2 at this; omega
theorem mS_p {u : MS} {s i : Int} (h : Ch (mN u s) (fun a => mX u s a) (fun a => mY u s a)) (hn : 2 ≤ mN u s) (h0 : 0 ≤ i) (hi : i < mN u s) : 0 < mS u s i := by
  have := Ch_ne h hn (a := i.toNat) (by omega)
  rw [show ((i.toNat + 1 : Nat) : Int) = i + 1 by omega, show ((i.toNat : Nat) : Int) = i by omega] at this
  exact gcd_p (by omega)
set_option maxHeartbeats 4000000 in
set_option maxRecDepth 100000 in
theorem c_X12_isPolygon (l : Launch) (D : JD) (o : Nat) (q : Nat → Nat) (u : MS) (s : Int) (p0 : 0 ≤ s ∧ s ≤ 7) (p1 : Sh u s) : Met l yX12_isPolygon (jw yX12_isPolygon cX12_isPolygon 2 (some .boolean)) (jr 0 0) (jP [.ref o, .int (J s)] D (fun H => va_P D.1 j_cl (mW D o q u) H)) (jRi (fun z => (z = 1 ∧ 2 < mN u s) ∨ (z = 0 ∧ mN u s ≤ 2))) 0 0 (fun _ => False) := by
  refine Met.ofW (cc := cX12_isPolygon) (maxL := 2) (ret := (some .boolean)) (by decide) rfl ?_
  intro pr en st mi args below meth co s₁ B hml hv
  obtain ⟨rfl, hG, hP⟩ := hv
  have hr := B.returns
  have hlk := B.notSynchronized
  have SS : jS pr mi co cX12_isPolygon 2 st _ RX12 := ⟨B.exec, B.bytes, hml, findClass_of_methodNamed B.named, fun w hw => atoms_spec (ws := (jw yX12_isPolygon cX12_isPolygon 2 (some .boolean))) B.pre w (List.mem_cons_of_mem _ hw)⟩
  have hl := lv_entry ([.ref o, .int (J s)]) (n := 2) (Nat.le_of_ble_eq_true rfl)
  rw [lg_entry_eq]
  generalize (lg_sl ([.ref o, .int (J s)]) ++ List.replicate (2 - (lg_sl ([.ref o, .int (J s)])).length) Slot.unset).toArray = ls at hl ⊢
  have hl : lv_has ls 2 [(0, .ref o), (1, .int (J s))] := hl
  have hN := p1.1
  have hC := p1.2.2
  refine lv_aload_n SS.1 SS.2.1 dX12_isPolygon_0 rfl (lv_at hl 0 rfl) ?_
  refine j_get SS hG hP 0 (v := .ref (q 0)) (C := RX12) (T := TX12) (N := 31) rfl rfl inX12 0 (by decide) (ref := RX12) kw_1058 rfl rfl dX12_isPolygon_1 ?_
  refine lv_iload_n SS.1 SS.2.1 dX12_isPolygon_4 rfl (lv_at hl 1 rfl) ?_
  refine j_iald SS hG hP 1 (n := 8) (f := (u.1 0)) rfl (z := s) (by omega) (by omega) dX12_isPolygon_5 ?_
  refine j_iconst SS dX12_isPolygon_6 ?_
  refine j_icmp_le SS (tgt := 14) (x := (mN u s)) (y := 2) dX12_isPolygon_7 (by decide) (by omega) (by decide) (fun c_7 => ?_) (fun c_7 => ?_)
  · skip
    refine j_iconst SS dX12_isPolygon_14 ?_
    exact W.zret SS.1 SS.2.1 hr (j_nz (by decide)) (fun t ht hW => ⟨_, rfl, ⟨0, rfl, (by omega)⟩, ht⟩) (fun _ h => nomatch h) dX12_isPolygon_15 hlk
  · skip
    refine j_iconst SS dX12_isPolygon_10 ?_
    refine lv_goto (tgt := 15) SS.1 SS.2.1 dX12_isPolygon_11 (by decide) ?_
    exact W.zret SS.1 SS.2.1 hr (j_nz (by decide)) (fun t ht hW => ⟨_, rfl, ⟨1, rfl, (by omega)⟩, ht⟩) (fun _ h => nomatch h) dX12_isPolygon_15 hlk

set_option maxHeartbeats 4000000 in
set_option maxRecDepth 100000 in
theorem c_X12_cross (l : Launch) (D : JD) (a : Int) (b : Int) (c : Int) (d : Int) : Met l yX12_cross (jw yX12_cross cX12_cross 4 (some .int)) (jr 0 0) (jP [.int (J a), .int (J b), .int (J c), .int (J d)] D (fun _ => True)) (jRi (fun z => z = a * d - b * c)) 0 0 (fun _ => False) := by
  refine Met.ofW (cc := cX12_cross) (maxL := 4) (ret := (some .int)) (by decide) rfl ?_
  intro pr en st mi args below meth co s₁ B hml hv
  obtain ⟨rfl, hG, hP⟩ := hv
  have hr := B.returns
  have hlk := B.notSynchronized
  have SS : jS pr mi co cX12_cross 4 st _ RX12 := ⟨B.exec, B.bytes, hml, findClass_of_methodNamed B.named, fun w hw => atoms_spec (ws := (jw yX12_cross cX12_cross 4 (some .int))) B.pre w (List.mem_cons_of_mem _ hw)⟩
  have hl := lv_entry ([.int (J a), .int (J b), .int (J c), .int (J d)]) (n := 4) (Nat.le_of_ble_eq_true rfl)
  rw [lg_entry_eq]
  generalize (lg_sl ([.int (J a), .int (J b), .int (J c), .int (J d)]) ++ List.replicate (4 - (lg_sl ([.int (J a), .int (J b), .int (J c), .int (J d)])).length) Slot.unset).toArray = ls at hl ⊢
  have hl : lv_has ls 4 [(0, .int (J a)), (1, .int (J b)), (2, .int (J c)), (3, .int (J d))] := hl
  refine lv_iload_n SS.1 SS.2.1 dX12_cross_0 rfl (lv_at hl 0 rfl) ?_
  refine lv_iload_n SS.1 SS.2.1 dX12_cross_1 rfl (lv_at hl 3 rfl) ?_
  refine j_imul SS (x := a) (y := d) dX12_cross_2 ?_
  refine lv_iload_n SS.1 SS.2.1 dX12_cross_3 rfl (lv_at hl 1 rfl) ?_
  refine lv_iload_n SS.1 SS.2.1 dX12_cross_4 rfl (lv_at hl 2 rfl) ?_
  refine j_imul SS (x := b) (y := c) dX12_cross_5 ?_
  refine j_isub SS (x := (a * d)) (y := (b * c)) dX12_cross_6 ?_
  exact W.iret SS.1 SS.2.1 hr (fun t ht hW => ⟨_, rfl, ⟨((a * d) - (b * c)), rfl, (by omega)⟩, ht⟩) (fun _ h => nomatch h) dX12_cross_7 hlk

set_option maxHeartbeats 4000000 in
set_option maxRecDepth 100000 in
theorem c_X12_areaOf (l : Launch) (D : JD) (o : Nat) (q : Nat → Nat) (u : MS) (s : Int) (p0 : 0 ≤ s ∧ s ≤ 7) (p1 : Sh u s) : Met l yX12_areaOf (jw yX12_areaOf cX12_areaOf 4 (some .int)) (jr 1 22) (jP [.ref o, .int (J s)] D (fun H => va_P D.1 j_cl (mW D o q u) H)) (jRi (fun z => z = mAr u s ∧ -80000 ≤ z ∧ z ≤ 80000)) 0 0 (fun _ => False) := by
  refine Met.ofW (cc := cX12_areaOf) (maxL := 4) (ret := (some .int)) (by decide) rfl ?_
  intro pr en st mi args below meth co s₁ B hml hv
  obtain ⟨rfl, hG, hP⟩ := hv
  have hr := B.returns
  have hlk := B.notSynchronized
  have SS : jS pr mi co cX12_areaOf 4 st _ RX12 := ⟨B.exec, B.bytes, hml, findClass_of_methodNamed B.named, fun w hw => atoms_spec (ws := (jw yX12_areaOf cX12_areaOf 4 (some .int))) B.pre w (List.mem_cons_of_mem _ hw)⟩
  have hl := lv_entry ([.ref o, .int (J s)]) (n := 4) (Nat.le_of_ble_eq_true rfl)
  rw [lg_entry_eq]
  generalize (lg_sl ([.ref o, .int (J s)]) ++ List.replicate (4 - (lg_sl ([.ref o, .int (J s)])).length) Slot.unset).toArray = ls at hl ⊢
  have hl : lv_has ls 4 [(0, .ref o), (1, .int (J s))] := hl
  have hN := p1.1
  have hC := p1.2.2
  refine j_iconst SS dX12_areaOf_0 ?_
  refine lv_istore_n (lv' := [(2, .int (J 0)), (0, .ref o), (1, .int (J s))]) SS.1 SS.2.1 dX12_areaOf_1 rfl hl (by decide) rfl (fun ls hl => ?_)
  refine j_iconst SS dX12_areaOf_2 ?_
  refine lv_istore_n (lv' := [(3, .int (J 0)), (2, .int (J 0)), (0, .ref o), (1, .int (J s))]) SS.1 SS.2.1 dX12_areaOf_3 rfl hl (by decide) rfl (fun ls hl => ?_)
  have L_4 : ∀ (nn : Nat) (a : Int) (i : Int) (ls : Array Slot) (hl : lv_has ls 4 [(0, .ref o), (1, .int (J s)), (2, .int (J a)), (3, .int (J i))]) (i4_0 : 0 ≤ i ∧ i ≤ mN u s) (i4_1 : a = smI (fun i => mX u s i * mY u s (i + 1) - mX u s (i + 1) * mY u s i) i) (i4_2 : -3200 * i ≤ a ∧ a ≤ 3200 * i), (mN u s - i).toNat < nn → W pr l en (headSpec (jw yX12_areaOf cX12_areaOf 4 (some .int)) (jr 1 22)).room st mi (([.ref o, .int (J s)] : List Value).toArray) below meth co st.heap [] 0 0 (MQ below (jRi (fun z => z = mAr u s ∧ -80000 ≤ z ∧ z ≤ 80000)) (([.ref o, .int (J s)] : List Value).toArray) st 0 0 (fun _ => False)) (F0 mi 4 ls []) := by
    intro nn
    induction nn with
    | zero => intros; omega
    | succ nn ih_4 =>
      intro a i ls hl i4_0 i4_1 i4_2 hm
      refine lv_iload_n SS.1 SS.2.1 dX12_areaOf_4 rfl (lv_at hl 3 rfl) ?_
      refine lv_aload_n SS.1 SS.2.1 dX12_areaOf_5 rfl (lv_at hl 0 rfl) ?_
      refine j_get SS hG hP 0 (v := .ref (q 0)) (C := RX12) (T := TX12) (N := 31) rfl rfl inX12 0 (by decide) (ref := RX12) kw_1058 rfl rfl dX12_areaOf_6 ?_
      refine lv_iload_n SS.1 SS.2.1 dX12_areaOf_9 rfl (lv_at hl 1 rfl) ?_
      refine j_iald SS hG hP 1 (n := 8) (f := (u.1 0)) rfl (z := s) (by omega) (by omega) dX12_areaOf_10 ?_
      refine j_icmp_ge SS (tgt := 54) (x := i) (y := (mN u s)) dX12_areaOf_11 (by decide) (by omega) (by omega) (fun c_11 => ?_) (fun c_11 => ?_)
      · skip
        refine lv_iload_n SS.1 SS.2.1 dX12_areaOf_54 rfl (lv_at hl 2 rfl) ?_
        exact W.iret SS.1 SS.2.1 hr (fun t ht hW => ⟨_, rfl, ⟨a, rfl, (⟨by rw [i4_1, show i = mN u s by omega]; rfl, by omega, by omega⟩)⟩, ht⟩) (fun _ h => nomatch h) dX12_areaOf_55 hlk
      · skip
        have b1 := p1.2.1 (by omega) i (by omega)
        have b2 := p1.2.1 (by omega) (i + 1) (by omega)
        have m1 := mulb b1.1 b2.2
        have m2 := mulb b2.1 b1.2
        refine lv_iload_n SS.1 SS.2.1 dX12_areaOf_14 rfl (lv_at hl 2 rfl) ?_
        refine lv_aload_n SS.1 SS.2.1 dX12_areaOf_15 rfl (lv_at hl 0 rfl) ?_
        refine lv_iload_n SS.1 SS.2.1 dX12_areaOf_16 rfl (lv_at hl 1 rfl) ?_
        refine lv_iload_n SS.1 SS.2.1 dX12_areaOf_17 rfl (lv_at hl 3 rfl) ?_
        refine j_vRi SS (As := [.int (J s), .int (J i)]) (rest := [.int (J a)]) (c_X12_x l D o q u s i (show 0 ≤ s ∧ s ≤ 7 from (by omega)) (show 0 ≤ i ∧ i ≤ 1000000 from (by omega)) (show 0 < mN u s ∧ mN u s ≤ 24 from (by omega))) mf_X12_x kw_1177 hG hP hP (ci := 8) (q0 := 0) rfl rfl rfl rfl hl.1 ⟨⟨Nat.le_of_ble_eq_true rfl, Nat.le_of_ble_eq_true rfl⟩, Nat.le_of_ble_eq_true rfl, Nat.le_refl _, Nat.le_refl _⟩ rfl dX12_areaOf_18 (fun z_18 h_18 => ?_)
        have h_18 : z_18 = mX u s i := h_18
        refine lv_aload_n SS.1 SS.2.1 dX12_areaOf_21 rfl (lv_at hl 0 rfl) ?_
        refine lv_iload_n SS.1 SS.2.1 dX12_areaOf_22 rfl (lv_at hl 1 rfl) ?_
        refine lv_iload_n SS.1 SS.2.1 dX12_areaOf_23 rfl (lv_at hl 3 rfl) ?_
        refine j_iconst SS dX12_areaOf_24 ?_
        refine j_iadd SS (x := i) (y := 1) dX12_areaOf_25 ?_
        refine j_vRi SS (As := [.int (J s), .int (J (i + 1))]) (rest := [.int (J z_18), .int (J a)]) (c_X12_y l D o q u s (i + 1) (show 0 ≤ s ∧ s ≤ 7 from (by omega)) (show 0 ≤ (i + 1) ∧ (i + 1) ≤ 1000000 from (by omega)) (show 0 < mN u s ∧ mN u s ≤ 24 from (by omega))) mf_X12_y kw_1181 hG hP hP (ci := 8) (q0 := 0) rfl rfl rfl rfl hl.1 ⟨⟨Nat.le_of_ble_eq_true rfl, Nat.le_of_ble_eq_true rfl⟩, Nat.le_of_ble_eq_true rfl, Nat.le_refl _, Nat.le_refl _⟩ rfl dX12_areaOf_26 (fun z_26 h_26 => ?_)
        have h_26 : z_26 = mY u s (i + 1) := h_26
        refine j_imul SS (x := z_18) (y := z_26) dX12_areaOf_29 ?_
        refine lv_aload_n SS.1 SS.2.1 dX12_areaOf_30 rfl (lv_at hl 0 rfl) ?_
        refine lv_iload_n SS.1 SS.2.1 dX12_areaOf_31 rfl (lv_at hl 1 rfl) ?_
        refine lv_iload_n SS.1 SS.2.1 dX12_areaOf_32 rfl (lv_at hl 3 rfl) ?_
        refine j_iconst SS dX12_areaOf_33 ?_
        refine j_iadd SS (x := i) (y := 1) dX12_areaOf_34 ?_
        refine j_vRi SS (As := [.int (J s), .int (J (i + 1))]) (rest := [.int (J (z_18 * z_26)), .int (J a)]) (c_X12_x l D o q u s (i + 1) (show 0 ≤ s ∧ s ≤ 7 from (by omega)) (show 0 ≤ (i + 1) ∧ (i + 1) ≤ 1000000 from (by omega)) (show 0 < mN u s ∧ mN u s ≤ 24 from (by omega))) mf_X12_x kw_1177 hG hP hP (ci := 8) (q0 := 0) rfl rfl rfl rfl hl.1 ⟨⟨Nat.le_of_ble_eq_true rfl, Nat.le_of_ble_eq_true rfl⟩, Nat.le_of_ble_eq_true rfl, Nat.le_refl _, Nat.le_refl _⟩ rfl dX12_areaOf_35 (fun z_35 h_35 => ?_)
        have h_35 : z_35 = mX u s (i + 1) := h_35
        refine lv_aload_n SS.1 SS.2.1 dX12_areaOf_38 rfl (lv_at hl 0 rfl) ?_
        refine lv_iload_n SS.1 SS.2.1 dX12_areaOf_39 rfl (lv_at hl 1 rfl) ?_
        refine lv_iload_n SS.1 SS.2.1 dX12_areaOf_40 rfl (lv_at hl 3 rfl) ?_
        refine j_vRi SS (As := [.int (J s), .int (J i)]) (rest := [.int (J z_35), .int (J (z_18 * z_26)), .int (J a)]) (c_X12_y l D o q u s i (show 0 ≤ s ∧ s ≤ 7 from (by omega)) (show 0 ≤ i ∧ i ≤ 1000000 from (by omega)) (show 0 < mN u s ∧ mN u s ≤ 24 from (by omega))) mf_X12_y kw_1181 hG hP hP (ci := 8) (q0 := 0) rfl rfl rfl rfl hl.1 ⟨⟨Nat.le_of_ble_eq_true rfl, Nat.le_of_ble_eq_true rfl⟩, Nat.le_of_ble_eq_true rfl, Nat.le_refl _, Nat.le_refl _⟩ rfl dX12_areaOf_41 (fun z_41 h_41 => ?_)
        have h_41 : z_41 = mY u s i := h_41
        refine j_imul SS (x := z_35) (y := z_41) dX12_areaOf_44 ?_
        refine j_isub SS (x := (z_18 * z_26)) (y := (z_35 * z_41)) dX12_areaOf_45 ?_
        refine j_iadd SS (x := a) (y := ((z_18 * z_26) - (z_35 * z_41))) dX12_areaOf_46 ?_
        refine lv_istore_n (lv' := [(2, .int (J (a + ((z_18 * z_26) - (z_35 * z_41))))), (0, .ref o), (1, .int (J s)), (3, .int (J i))]) SS.1 SS.2.1 dX12_areaOf_47 rfl hl (by decide) rfl (fun ls hl => ?_)
        refine lv_iinc (v := J (i + 1)) (lv' := [(3, .int (J (i + 1))), (2, .int (J (a + ((z_18 * z_26) - (z_35 * z_41))))), (0, .ref o), (1, .int (J s))]) SS.1 SS.2.1 dX12_areaOf_48 hl (k := 3) rfl (J_add _ _) (by decide) rfl (fun ls hl => ?_)
        refine lv_goto (tgt := 4) SS.1 SS.2.1 dX12_areaOf_51 (by decide) ?_
        exact ih_4 (a + ((z_18 * z_26) - (z_35 * z_41))) (i + 1) ls (lv_sub hl [2, 3, 1, 0] rfl) (by omega) (by rw [smI_s i4_0.1, ← i4_1, h_18, h_26, h_35, h_41]) (by rw [h_18, h_26, h_35, h_41]; omega) (by omega)
  exact L_4 ((mN u s - (0 : Int)).toNat + 1) 0 0 ls (lv_sub hl [2, 3, 1, 0] rfl) (by omega) (smI_0.symm) (by omega) (Nat.lt_succ_self _)

set_option maxHeartbeats 4000000 in
set_option maxRecDepth 100000 in
theorem c_X12_stepsOf (l : Launch) (D : JD) (o : Nat) (q : Nat → Nat) (u : MS) (s : Int) (i : Int) (p0 : 0 ≤ s ∧ s ≤ 7) (p1 : Sh u s) (p2 : 0 ≤ i ∧ i ≤ 100) (p3 : 0 < mN u s) : Met l yX12_stepsOf (jw yX12_stepsOf cX12_stepsOf 3 (some .int)) (jr 2 44) (jP [.ref o, .int (J s), .int (J i)] D (fun H => va_P D.1 j_cl (mW D o q u) H)) (jRi (fun z => z = mS u s i ∧ 0 ≤ z ∧ z ≤ 80)) 0 0 (fun _ => False) := by
  refine Met.ofW (cc := cX12_stepsOf) (maxL := 3) (ret := (some .int)) (by decide) rfl ?_
  intro pr en st mi args below meth co s₁ B hml hv
  obtain ⟨rfl, hG, hP⟩ := hv
  have hr := B.returns
  have hlk := B.notSynchronized
  have SS : jS pr mi co cX12_stepsOf 3 st _ RX12 := ⟨B.exec, B.bytes, hml, findClass_of_methodNamed B.named, fun w hw => atoms_spec (ws := (jw yX12_stepsOf cX12_stepsOf 3 (some .int))) B.pre w (List.mem_cons_of_mem _ hw)⟩
  have hl := lv_entry ([.ref o, .int (J s), .int (J i)]) (n := 3) (Nat.le_of_ble_eq_true rfl)
  rw [lg_entry_eq]
  generalize (lg_sl ([.ref o, .int (J s), .int (J i)]) ++ List.replicate (3 - (lg_sl ([.ref o, .int (J s), .int (J i)])).length) Slot.unset).toArray = ls at hl ⊢
  have hl : lv_has ls 3 [(0, .ref o), (1, .int (J s)), (2, .int (J i))] := hl
  have hN := p1.1
  have hC := p1.2.2
  have b1 := p1.2.1 p3 i (by omega)
  have b2 := p1.2.1 p3 (i + 1) (by omega)
  refine lv_aload_n SS.1 SS.2.1 dX12_stepsOf_0 rfl (lv_at hl 0 rfl) ?_
  refine lv_iload_n SS.1 SS.2.1 dX12_stepsOf_1 rfl (lv_at hl 1 rfl) ?_
  refine lv_iload_n SS.1 SS.2.1 dX12_stepsOf_2 rfl (lv_at hl 2 rfl) ?_
  refine j_iconst SS dX12_stepsOf_3 ?_
  refine j_iadd SS (x := i) (y := 1) dX12_stepsOf_4 ?_
  refine j_vRi SS (As := [.int (J s), .int (J (i + 1))]) (rest := []) (c_X12_x l D o q u s (i + 1) (show 0 ≤ s ∧ s ≤ 7 from (by omega)) (show 0 ≤ (i + 1) ∧ (i + 1) ≤ 1000000 from (by omega)) (show 0 < mN u s ∧ mN u s ≤ 24 from (by omega))) mf_X12_x kw_1177 hG hP hP (ci := 8) (q0 := 0) rfl rfl rfl rfl hl.1 ⟨⟨Nat.le_of_ble_eq_true rfl, Nat.le_of_ble_eq_true rfl⟩, Nat.le_of_ble_eq_true rfl, Nat.le_refl _, Nat.le_refl _⟩ rfl dX12_stepsOf_5 (fun z_5 h_5 => ?_)
  have h_5 : z_5 = mX u s (i + 1) := h_5
  refine lv_aload_n SS.1 SS.2.1 dX12_stepsOf_8 rfl (lv_at hl 0 rfl) ?_
  refine lv_iload_n SS.1 SS.2.1 dX12_stepsOf_9 rfl (lv_at hl 1 rfl) ?_
  refine lv_iload_n SS.1 SS.2.1 dX12_stepsOf_10 rfl (lv_at hl 2 rfl) ?_
  refine j_vRi SS (As := [.int (J s), .int (J i)]) (rest := [.int (J z_5)]) (c_X12_x l D o q u s i (show 0 ≤ s ∧ s ≤ 7 from (by omega)) (show 0 ≤ i ∧ i ≤ 1000000 from (by omega)) (show 0 < mN u s ∧ mN u s ≤ 24 from (by omega))) mf_X12_x kw_1177 hG hP hP (ci := 8) (q0 := 0) rfl rfl rfl rfl hl.1 ⟨⟨Nat.le_of_ble_eq_true rfl, Nat.le_of_ble_eq_true rfl⟩, Nat.le_of_ble_eq_true rfl, Nat.le_refl _, Nat.le_refl _⟩ rfl dX12_stepsOf_11 (fun z_11 h_11 => ?_)
  have h_11 : z_11 = mX u s i := h_11
  refine j_isub SS (x := z_5) (y := z_11) dX12_stepsOf_14 ?_
  refine lv_aload_n SS.1 SS.2.1 dX12_stepsOf_15 rfl (lv_at hl 0 rfl) ?_
  refine lv_iload_n SS.1 SS.2.1 dX12_stepsOf_16 rfl (lv_at hl 1 rfl) ?_
  refine lv_iload_n SS.1 SS.2.1 dX12_stepsOf_17 rfl (lv_at hl 2 rfl) ?_
  refine j_iconst SS dX12_stepsOf_18 ?_
  refine j_iadd SS (x := i) (y := 1) dX12_stepsOf_19 ?_
  refine j_vRi SS (As := [.int (J s), .int (J (i + 1))]) (rest := [.int (J (z_5 - z_11))]) (c_X12_y l D o q u s (i + 1) (show 0 ≤ s ∧ s ≤ 7 from (by omega)) (show 0 ≤ (i + 1) ∧ (i + 1) ≤ 1000000 from (by omega)) (show 0 < mN u s ∧ mN u s ≤ 24 from (by omega))) mf_X12_y kw_1181 hG hP hP (ci := 8) (q0 := 0) rfl rfl rfl rfl hl.1 ⟨⟨Nat.le_of_ble_eq_true rfl, Nat.le_of_ble_eq_true rfl⟩, Nat.le_of_ble_eq_true rfl, Nat.le_refl _, Nat.le_refl _⟩ rfl dX12_stepsOf_20 (fun z_20 h_20 => ?_)
  have h_20 : z_20 = mY u s (i + 1) := h_20
  refine lv_aload_n SS.1 SS.2.1 dX12_stepsOf_23 rfl (lv_at hl 0 rfl) ?_
  refine lv_iload_n SS.1 SS.2.1 dX12_stepsOf_24 rfl (lv_at hl 1 rfl) ?_
  refine lv_iload_n SS.1 SS.2.1 dX12_stepsOf_25 rfl (lv_at hl 2 rfl) ?_
  refine j_vRi SS (As := [.int (J s), .int (J i)]) (rest := [.int (J z_20), .int (J (z_5 - z_11))]) (c_X12_y l D o q u s i (show 0 ≤ s ∧ s ≤ 7 from (by omega)) (show 0 ≤ i ∧ i ≤ 1000000 from (by omega)) (show 0 < mN u s ∧ mN u s ≤ 24 from (by omega))) mf_X12_y kw_1181 hG hP hP (ci := 8) (q0 := 0) rfl rfl rfl rfl hl.1 ⟨⟨Nat.le_of_ble_eq_true rfl, Nat.le_of_ble_eq_true rfl⟩, Nat.le_of_ble_eq_true rfl, Nat.le_refl _, Nat.le_refl _⟩ rfl dX12_stepsOf_26 (fun z_26 h_26 => ?_)
  have h_26 : z_26 = mY u s i := h_26
  refine j_isub SS (x := z_20) (y := z_26) dX12_stepsOf_29 ?_
  refine j_sRi SS (As := [.int (J (z_5 - z_11)), .int (J (z_20 - z_26))]) (rest := []) (c_X12_common l D (z_5 - z_11) (z_20 - z_26) (show -2147483648 < (z_5 - z_11) ∧ (z_5 - z_11) ≤ 2147483647 from (by omega)) (show -2147483648 < (z_20 - z_26) ∧ (z_20 - z_26) ≤ 2147483647 from (by omega))) mf_X12_common kw_1230 hG trivial rfl hl.1 ⟨⟨Nat.le_of_ble_eq_true rfl, Nat.le_of_ble_eq_true rfl⟩, Nat.le_of_ble_eq_true rfl, Nat.le_refl _, Nat.le_refl _⟩ rfl dX12_stepsOf_30 (fun z_30 h_30 => ?_)
  have h_30 : z_30 = (Int.gcd (z_5 - z_11) (z_20 - z_26) : Int) := h_30
  exact W.iret SS.1 SS.2.1 hr (fun t ht hW => ⟨_, rfl, ⟨z_30, rfl, (⟨by rw [h_30, h_5, h_11, h_20, h_26]; rfl, by rw [h_30]; exact (gcd_b (K := 80) (by omega) (by omega)).1, by rw [h_30]; exact (gcd_b (K := 80) (by omega) (by omega)).2⟩)⟩, ht⟩) (fun _ h => nomatch h) dX12_stepsOf_33 hlk

set_option maxHeartbeats 4000000 in
set_option maxRecDepth 100000 in
theorem c_X12_edgeOf (l : Launch) (D : JD) (o : Nat) (q : Nat → Nat) (u : MS) (s : Int) (p0 : 0 ≤ s ∧ s ≤ 7) (p1 : Sh u s) : Met l yX12_edgeOf (jw yX12_edgeOf cX12_edgeOf 4 (some .int)) (jr 3 66) (jP [.ref o, .int (J s)] D (fun H => va_P D.1 j_cl (mW D o q u) H)) (jRi (fun z => z = mEd u s ∧ 0 ≤ z ∧ z ≤ 2000)) 0 0 (fun _ => False) := by
  refine Met.ofW (cc := cX12_edgeOf) (maxL := 4) (ret := (some .int)) (by decide) rfl ?_
  intro pr en st mi args below meth co s₁ B hml hv
  obtain ⟨rfl, hG, hP⟩ := hv
  have hr := B.returns
  have hlk := B.notSynchronized
  have SS : jS pr mi co cX12_edgeOf 4 st _ RX12 := ⟨B.exec, B.bytes, hml, findClass_of_methodNamed B.named, fun w hw => atoms_spec (ws := (jw yX12_edgeOf cX12_edgeOf 4 (some .int))) B.pre w (List.mem_cons_of_mem _ hw)⟩
  have hl := lv_entry ([.ref o, .int (J s)]) (n := 4) (Nat.le_of_ble_eq_true rfl)
  rw [lg_entry_eq]
  generalize (lg_sl ([.ref o, .int (J s)]) ++ List.replicate (4 - (lg_sl ([.ref o, .int (J s)])).length) Slot.unset).toArray = ls at hl ⊢
  have hl : lv_has ls 4 [(0, .ref o), (1, .int (J s))] := hl
  have hN := p1.1
  have hC := p1.2.2
  refine lv_aload_n SS.1 SS.2.1 dX12_edgeOf_0 rfl (lv_at hl 0 rfl) ?_
  refine j_get SS hG hP 0 (v := .ref (q 0)) (C := RX12) (T := TX12) (N := 31) rfl rfl inX12 0 (by decide) (ref := RX12) kw_1058 rfl rfl dX12_edgeOf_1 ?_
  refine lv_iload_n SS.1 SS.2.1 dX12_edgeOf_4 rfl (lv_at hl 1 rfl) ?_
  refine j_iald SS hG hP 1 (n := 8) (f := (u.1 0)) rfl (z := s) (by omega) (by omega) dX12_edgeOf_5 ?_
  refine j_iconst SS dX12_edgeOf_6 ?_
  refine j_icmp_ge SS (tgt := 17) (x := (mN u s)) (y := 2) dX12_edgeOf_7 (by decide) (by omega) (by decide) (fun c_7 => ?_) (fun c_7 => ?_)
  · skip
    refine lv_aload_n SS.1 SS.2.1 dX12_edgeOf_17 rfl (lv_at hl 0 rfl) ?_
    refine j_get SS hG hP 0 (v := .ref (q 0)) (C := RX12) (T := TX12) (N := 31) rfl rfl inX12 0 (by decide) (ref := RX12) kw_1058 rfl rfl dX12_edgeOf_18 ?_
    refine lv_iload_n SS.1 SS.2.1 dX12_edgeOf_21 rfl (lv_at hl 1 rfl) ?_
    refine j_iald SS hG hP 1 (n := 8) (f := (u.1 0)) rfl (z := s) (by omega) (by omega) dX12_edgeOf_22 ?_
    refine j_iconst SS dX12_edgeOf_23 ?_
    refine j_icmp_ne SS (tgt := 36) (x := (mN u s)) (y := 2) dX12_edgeOf_24 (by decide) (by omega) (by decide) (fun c_24 => ?_) (fun c_24 => ?_)
    · skip
      refine j_iconst SS dX12_edgeOf_36 ?_
      refine lv_istore_n (lv' := [(2, .int (J 0)), (0, .ref o), (1, .int (J s))]) SS.1 SS.2.1 dX12_edgeOf_37 rfl hl (by decide) rfl (fun ls hl => ?_)
      refine j_iconst SS dX12_edgeOf_38 ?_
      refine lv_istore_n (lv' := [(3, .int (J 0)), (2, .int (J 0)), (0, .ref o), (1, .int (J s))]) SS.1 SS.2.1 dX12_edgeOf_39 rfl hl (by decide) rfl (fun ls hl => ?_)
      have L_40 : ∀ (nn : Nat) (a : Int) (i : Int) (ls : Array Slot) (hl : lv_has ls 4 [(0, .ref o), (1, .int (J s)), (2, .int (J a)), (3, .int (J i))]) (i40_0 : 0 ≤ i ∧ i ≤ mN u s) (i40_1 : a = smI (mS u s) i) (i40_2 : 0 ≤ a ∧ a ≤ 80 * i), (mN u s - i).toNat < nn → W pr l en (headSpec (jw yX12_edgeOf cX12_edgeOf 4 (some .int)) (jr 3 66)).room st mi (([.ref o, .int (J s)] : List Value).toArray) below meth co st.heap [] 0 0 (MQ below (jRi (fun z => z = mEd u s ∧ 0 ≤ z ∧ z ≤ 2000)) (([.ref o, .int (J s)] : List Value).toArray) st 0 0 (fun _ => False)) (F0 mi 40 ls []) := by
        intro nn
        induction nn with
        | zero => intros; omega
        | succ nn ih_40 =>
          intro a i ls hl i40_0 i40_1 i40_2 hm
          refine lv_iload_n SS.1 SS.2.1 dX12_edgeOf_40 rfl (lv_at hl 3 rfl) ?_
          refine lv_aload_n SS.1 SS.2.1 dX12_edgeOf_41 rfl (lv_at hl 0 rfl) ?_
          refine j_get SS hG hP 0 (v := .ref (q 0)) (C := RX12) (T := TX12) (N := 31) rfl rfl inX12 0 (by decide) (ref := RX12) kw_1058 rfl rfl dX12_edgeOf_42 ?_
          refine lv_iload_n SS.1 SS.2.1 dX12_edgeOf_45 rfl (lv_at hl 1 rfl) ?_
          refine j_iald SS hG hP 1 (n := 8) (f := (u.1 0)) rfl (z := s) (by omega) (by omega) dX12_edgeOf_46 ?_
          refine j_icmp_ge SS (tgt := 65) (x := i) (y := (mN u s)) dX12_edgeOf_47 (by decide) (by omega) (by omega) (fun c_47 => ?_) (fun c_47 => ?_)
          · skip
            refine lv_iload_n SS.1 SS.2.1 dX12_edgeOf_65 rfl (lv_at hl 2 rfl) ?_
            exact W.iret SS.1 SS.2.1 hr (fun t ht hW => ⟨_, rfl, ⟨a, rfl, (⟨by unfold mEd; rw [if_neg (by omega), if_neg (by omega), i40_1, show i = mN u s by omega], by omega, by omega⟩)⟩, ht⟩) (fun _ h => nomatch h) dX12_edgeOf_66 hlk
          · skip
            refine lv_iload_n SS.1 SS.2.1 dX12_edgeOf_50 rfl (lv_at hl 2 rfl) ?_
            refine lv_aload_n SS.1 SS.2.1 dX12_edgeOf_51 rfl (lv_at hl 0 rfl) ?_
            refine lv_iload_n SS.1 SS.2.1 dX12_edgeOf_52 rfl (lv_at hl 1 rfl) ?_
            refine lv_iload_n SS.1 SS.2.1 dX12_edgeOf_53 rfl (lv_at hl 3 rfl) ?_
            refine j_vRi SS (As := [.int (J s), .int (J i)]) (rest := [.int (J a)]) (c_X12_stepsOf l D o q u s i (show 0 ≤ s ∧ s ≤ 7 from (p0)) (show Sh u s from (p1)) (show 0 ≤ i ∧ i ≤ 100 from (by omega)) (show 0 < mN u s from (by omega))) mf_X12_stepsOf kw_1226 hG hP hP (ci := 8) (q0 := 0) rfl rfl rfl rfl hl.1 ⟨⟨Nat.le_of_ble_eq_true rfl, Nat.le_of_ble_eq_true rfl⟩, Nat.le_of_ble_eq_true rfl, Nat.le_refl _, Nat.le_refl _⟩ rfl dX12_edgeOf_54 (fun z_54 h_54 => ?_)
            have h_54 : z_54 = mS u s i ∧ 0 ≤ z_54 ∧ z_54 ≤ 80 := h_54
            refine j_iadd SS (x := a) (y := z_54) dX12_edgeOf_57 ?_
            refine lv_istore_n (lv' := [(2, .int (J (a + z_54))), (0, .ref o), (1, .int (J s)), (3, .int (J i))]) SS.1 SS.2.1 dX12_edgeOf_58 rfl hl (by decide) rfl (fun ls hl => ?_)
            refine lv_iinc (v := J (i + 1)) (lv' := [(3, .int (J (i + 1))), (2, .int (J (a + z_54))), (0, .ref o), (1, .int (J s))]) SS.1 SS.2.1 dX12_edgeOf_59 hl (k := 3) rfl (J_add _ _) (by decide) rfl (fun ls hl => ?_)
            refine lv_goto (tgt := 40) SS.1 SS.2.1 dX12_edgeOf_62 (by decide) ?_
            exact ih_40 (a + z_54) (i + 1) ls (lv_sub hl [2, 3, 1, 0] rfl) (by omega) (by rw [smI_s i40_0.1, ← i40_1, h_54.1]) (by omega) (by omega)
      exact L_40 ((mN u s - (0 : Int)).toNat + 1) 0 0 ls (lv_sub hl [2, 3, 1, 0] rfl) (by omega) (smI_0.symm) (by omega) (Nat.lt_succ_self _)
    · skip
      refine lv_aload_n SS.1 SS.2.1 dX12_edgeOf_27 rfl (lv_at hl 0 rfl) ?_
      refine lv_iload_n SS.1 SS.2.1 dX12_edgeOf_28 rfl (lv_at hl 1 rfl) ?_
      refine j_iconst SS dX12_edgeOf_29 ?_
      refine j_vRi SS (As := [.int (J s), .int (J 0)]) (rest := []) (c_X12_stepsOf l D o q u s 0 (show 0 ≤ s ∧ s ≤ 7 from (p0)) (show Sh u s from (p1)) (show 0 ≤ (0 : Int) ∧ (0 : Int) ≤ 100 from (by omega)) (show 0 < mN u s from (by omega))) mf_X12_stepsOf kw_1226 hG hP hP (ci := 8) (q0 := 0) rfl rfl rfl rfl hl.1 ⟨⟨Nat.le_of_ble_eq_true rfl, Nat.le_of_ble_eq_true rfl⟩, Nat.le_of_ble_eq_true rfl, Nat.le_refl _, Nat.le_refl _⟩ rfl dX12_edgeOf_30 (fun z_30 h_30 => ?_)
      have h_30 : z_30 = mS u s (0 : Int) ∧ 0 ≤ z_30 ∧ z_30 ≤ 80 := h_30
      refine j_iconst SS dX12_edgeOf_33 ?_
      refine j_iadd SS (x := z_30) (y := 1) dX12_edgeOf_34 ?_
      exact W.iret SS.1 SS.2.1 hr (fun t ht hW => ⟨_, rfl, ⟨(z_30 + 1), rfl, (⟨by unfold mEd; rw [if_neg (by omega), if_pos (by omega), h_30.1], by omega, by omega⟩)⟩, ht⟩) (fun _ h => nomatch h) dX12_edgeOf_35 hlk
  · skip
    refine lv_aload_n SS.1 SS.2.1 dX12_edgeOf_10 rfl (lv_at hl 0 rfl) ?_
    refine j_get SS hG hP 0 (v := .ref (q 0)) (C := RX12) (T := TX12) (N := 31) rfl rfl inX12 0 (by decide) (ref := RX12) kw_1058 rfl rfl dX12_edgeOf_11 ?_
    refine lv_iload_n SS.1 SS.2.1 dX12_edgeOf_14 rfl (lv_at hl 1 rfl) ?_
    refine j_iald SS hG hP 1 (n := 8) (f := (u.1 0)) rfl (z := s) (by omega) (by omega) dX12_edgeOf_15 ?_
    exact W.iret SS.1 SS.2.1 hr (fun t ht hW => ⟨_, rfl, ⟨(mN u s), rfl, (⟨by unfold mEd; rw [if_pos (by omega)], by omega, by omega⟩)⟩, ht⟩) (fun _ h => nomatch h) dX12_edgeOf_16 hlk

set_option maxHeartbeats 4000000 in
set_option maxRecDepth 100000 in
theorem c_X12_insideOf (l : Launch) (D : JD) (o : Nat) (q : Nat → Nat) (u : MS) (s : Int) (p0 : 0 ≤ s ∧ s ≤ 7) (p1 : Sh u s) : Met l yX12_insideOf (jw yX12_insideOf cX12_insideOf 2 (some .int)) (jr 4 89) (jP [.ref o, .int (J s)] D (fun H => va_P D.1 j_cl (mW D o q u) H)) (jRi (fun z => z = mIn u s ∧ -100000 ≤ z ∧ z ≤ 100000)) 0 0 (fun _ => False) := by
  refine Met.ofW (cc := cX12_insideOf) (maxL := 2) (ret := (some .int)) (by decide) rfl ?_
  intro pr en st mi args below meth co s₁ B hml hv
  obtain ⟨rfl, hG, hP⟩ := hv
  have hr := B.returns
  have hlk := B.notSynchronized
  have SS : jS pr mi co cX12_insideOf 2 st _ RX12 := ⟨B.exec, B.bytes, hml, findClass_of_methodNamed B.named, fun w hw => atoms_spec (ws := (jw yX12_insideOf cX12_insideOf 2 (some .int))) B.pre w (List.mem_cons_of_mem _ hw)⟩
  have hl := lv_entry ([.ref o, .int (J s)]) (n := 2) (Nat.le_of_ble_eq_true rfl)
  rw [lg_entry_eq]
  generalize (lg_sl ([.ref o, .int (J s)]) ++ List.replicate (2 - (lg_sl ([.ref o, .int (J s)])).length) Slot.unset).toArray = ls at hl ⊢
  have hl : lv_has ls 2 [(0, .ref o), (1, .int (J s))] := hl
  have hN := p1.1
  have hC := p1.2.2
  refine lv_aload_n SS.1 SS.2.1 dX12_insideOf_0 rfl (lv_at hl 0 rfl) ?_
  refine lv_iload_n SS.1 SS.2.1 dX12_insideOf_1 rfl (lv_at hl 1 rfl) ?_
  refine j_vRi SS (As := [.int (J s)]) (rest := []) (c_X12_isPolygon l D o q u s (show 0 ≤ s ∧ s ≤ 7 from (p0)) (show Sh u s from (p1))) mf_X12_isPolygon kw_1240 hG hP hP (ci := 8) (q0 := 0) rfl rfl rfl rfl hl.1 ⟨⟨Nat.le_of_ble_eq_true rfl, Nat.le_of_ble_eq_true rfl⟩, Nat.le_of_ble_eq_true rfl, Nat.le_refl _, Nat.le_refl _⟩ rfl dX12_insideOf_2 (fun z_2 h_2 => ?_)
  have h_2 : (z_2 = 1 ∧ 2 < mN u s) ∨ (z_2 = 0 ∧ mN u s ≤ 2) := h_2
  refine j_if_eq SS (tgt := 26) (x := z_2) dX12_insideOf_5 (by decide) (by omega) (fun c_5 => ?_) (fun c_5 => ?_)
  · skip
    refine j_iconst SS dX12_insideOf_26 ?_
    exact W.iret SS.1 SS.2.1 hr (fun t ht hW => ⟨_, rfl, ⟨0, rfl, (by first | exact ⟨by unfold mIn; rw [if_pos (by omega), h_10.1, h_15.1], t2.1, t2.2⟩ | exact ⟨by unfold mIn; rw [if_neg (by omega)], by omega, by omega⟩)⟩, ht⟩) (fun _ h => nomatch h) dX12_insideOf_27 hlk
  · skip
    refine lv_aload_n SS.1 SS.2.1 dX12_insideOf_8 rfl (lv_at hl 0 rfl) ?_
    refine lv_iload_n SS.1 SS.2.1 dX12_insideOf_9 rfl (lv_at hl 1 rfl) ?_
    refine j_vRi SS (As := [.int (J s)]) (rest := []) (c_X12_areaOf l D o q u s (show 0 ≤ s ∧ s ≤ 7 from (p0)) (show Sh u s from (p1))) mf_X12_areaOf kw_1218 hG hP hP (ci := 8) (q0 := 0) rfl rfl rfl rfl hl.1 ⟨⟨Nat.le_of_ble_eq_true rfl, Nat.le_of_ble_eq_true rfl⟩, Nat.le_of_ble_eq_true rfl, Nat.le_refl _, Nat.le_refl _⟩ rfl dX12_insideOf_10 (fun z_10 h_10 => ?_)
    have h_10 : z_10 = mAr u s ∧ -80000 ≤ z_10 ∧ z_10 ≤ 80000 := h_10
    refine lv_aload_n SS.1 SS.2.1 dX12_insideOf_13 rfl (lv_at hl 0 rfl) ?_
    refine lv_iload_n SS.1 SS.2.1 dX12_insideOf_14 rfl (lv_at hl 1 rfl) ?_
    refine j_vRi SS (As := [.int (J s)]) (rest := [.int (J z_10)]) (c_X12_edgeOf l D o q u s (show 0 ≤ s ∧ s ≤ 7 from (p0)) (show Sh u s from (p1))) mf_X12_edgeOf kw_1222 hG hP hP (ci := 8) (q0 := 0) rfl rfl rfl rfl hl.1 ⟨⟨Nat.le_of_ble_eq_true rfl, Nat.le_of_ble_eq_true rfl⟩, Nat.le_of_ble_eq_true rfl, Nat.le_refl _, Nat.le_refl _⟩ rfl dX12_insideOf_15 (fun z_15 h_15 => ?_)
    have h_15 : z_15 = mEd u s ∧ 0 ≤ z_15 ∧ z_15 ≤ 2000 := h_15
    have t1 : (z_10 - z_15 + 2).tdiv 2 = (if 0 ≤ z_10 - z_15 + 2 then (z_10 - z_15 + 2) / 2 else -((-(z_10 - z_15 + 2)) / 2)) := by split; exact Int.tdiv_eq_ediv_of_nonneg (by omega); rw [show (z_10 - z_15 + 2) = -(-(z_10 - z_15 + 2)) by omega, Int.neg_tdiv, Int.tdiv_eq_ediv_of_nonneg (by omega)]; omega
    have t2 : -100000 ≤ (z_10 - z_15 + 2).tdiv 2 ∧ (z_10 - z_15 + 2).tdiv 2 ≤ 100000 := by rw [t1]; split <;> omega
    refine j_isub SS (x := z_10) (y := z_15) dX12_insideOf_18 ?_
    refine j_iconst SS dX12_insideOf_19 ?_
    refine j_iadd SS (x := (z_10 - z_15)) (y := 2) dX12_insideOf_20 ?_
    refine j_iconst SS dX12_insideOf_21 ?_
    refine j_idiv SS (x := ((z_10 - z_15) + 2)) (y := 2) dX12_insideOf_22 (by omega) (by decide) (by decide) ?_
    refine lv_goto (tgt := 27) SS.1 SS.2.1 dX12_insideOf_23 (by decide) ?_
    exact W.iret SS.1 SS.2.1 hr (fun t ht hW => ⟨_, rfl, ⟨(Int.tdiv ((z_10 - z_15) + 2) 2), rfl, (by first | exact ⟨by unfold mIn; rw [if_pos (by omega), h_10.1, h_15.1], t2.1, t2.2⟩ | exact ⟨by unfold mIn; rw [if_neg (by omega)], by omega, by omega⟩)⟩, ht⟩) (fun _ h => nomatch h) dX12_insideOf_27 hlk


def wcr (u : MS) (s i px py : Int) : Int := (mX u s (i + 1) - mX u s i) * (py - mY u s i) - (mY u s (i + 1) - mY u s i) * (px - mX u s i)
def wIn (u : MS) (s px py n : Int) : Prop := ∀ i : Int, 0 ≤ i → i < n → 0 ≤ wcr u s i px py
def wBt (u : MS) (s i px py : Int) : Prop := (px - mX u s i) * (px - mX u s (i + 1)) ≤ 0 ∧ (py - mY u s i) * (py - mY u s (i + 1)) ≤ 0
def wOn (u : MS) (s px py n : Int) : Prop := ∃ i : Int, 0 ≤ i ∧ i < n ∧ wcr u s i px py = 0 ∧ wBt u s i px py
theorem wIn_s {u : MS} {s px py n : Int} (h : 0 ≤ n) : wIn u s px py (n + 1) ↔ wIn u s px py n ∧ 0 ≤ wcr u s n px py := by
  constructor
  · intro q; exact ⟨fun i h1 h2 => q i h1 (by omega), q n h (by omega)⟩
  · intro q i h1 h2
    by_cases e : i = n
    · rw [e]; exact q.2
    · exact q.1 i h1 (by omega)
theorem wOn_s {u : MS} {s px py n : Int} (h : 0 ≤ n) : wOn u s px py (n + 1) ↔ wOn u s px py n ∨ (wcr u s n px py = 0 ∧ wBt u s n px py) := by
  constructor
  · intro ⟨i, h1, h2, h3⟩
    by_cases e : i = n
    · rw [e] at h3; exact Or.inr h3
    · exact Or.inl ⟨i, h1, by omega, h3⟩
  · intro q
    rcases q with ⟨i, h1, h2, h3⟩ | q
    · exact ⟨i, h1, by omega, h3⟩
    · exact ⟨n, h, by omega, q⟩
def wR (u : MS) (s px py z : Int) : Prop := (mN u s < 2 ∧ ((z = 1 ∧ mN u s = 1 ∧ mX u s 0 = px ∧ mY u s 0 = py) ∨ (z = 0 ∧ ¬ (mN u s = 1 ∧ mX u s 0 = px ∧ mY u s 0 = py)))) ∨ (2 ≤ mN u s ∧ ((z = 1 ∧ wOn u s px py (mN u s)) ∨ (z = 2 ∧ ¬ wOn u s px py (mN u s) ∧ wIn u s px py (mN u s) ∧ 2 < mN u s) ∨ (z = 0 ∧ ¬ wOn u s px py (mN u s) ∧ ¬ (wIn u s px py (mN u s) ∧ 2 < mN u s))))
theorem wR_b {u : MS} {s px py z : Int} (h : wR u s px py z) : 0 ≤ z ∧ z ≤ 2 := by unfold wR at h; omega

set_option maxHeartbeats 4000000 in
set_option maxRecDepth 100000 in
theorem c_X12_whereOf (l : Launch) (D : JD) (o : Nat) (q : Nat → Nat) (u : MS) (s : Int) (x : Int) (y : Int) (p0 : 0 ≤ s ∧ s ≤ 7) (p1 : Sh u s) (p2 : -100 ≤ x ∧ x ≤ 100) (p3 : -100 ≤ y ∧ y ≤ 100) : Met l yX12_whereOf (jw yX12_whereOf cX12_whereOf 9 (some .int)) (jr 1 23) (jP [.ref o, .int (J s), .int (J x), .int (J y)] D (fun H => va_P D.1 j_cl (mW D o q u) H)) (jRi (fun z => wR u s x y z)) 0 0 (fun _ => False) := by
  refine Met.ofW (cc := cX12_whereOf) (maxL := 9) (ret := (some .int)) (by decide) rfl ?_
  intro pr en st mi args below meth co s₁ B hml hv
  obtain ⟨rfl, hG, hP⟩ := hv
  have hr := B.returns
  have hlk := B.notSynchronized
  have SS : jS pr mi co cX12_whereOf 9 st _ RX12 := ⟨B.exec, B.bytes, hml, findClass_of_methodNamed B.named, fun w hw => atoms_spec (ws := (jw yX12_whereOf cX12_whereOf 9 (some .int))) B.pre w (List.mem_cons_of_mem _ hw)⟩
  have hl := lv_entry ([.ref o, .int (J s), .int (J x), .int (J y)]) (n := 9) (Nat.le_of_ble_eq_true rfl)
  rw [lg_entry_eq]
  generalize (lg_sl ([.ref o, .int (J s), .int (J x), .int (J y)]) ++ List.replicate (9 - (lg_sl ([.ref o, .int (J s), .int (J x), .int (J y)])).length) Slot.unset).toArray = ls at hl ⊢
  have hl : lv_has ls 9 [(0, .ref o), (1, .int (J s)), (2, .int (J x)), (3, .int (J y))] := hl
  have hN := p1.1
  have hC := p1.2.2
  refine lv_aload_n SS.1 SS.2.1 dX12_whereOf_0 rfl (lv_at hl 0 rfl) ?_
  refine j_get SS hG hP 0 (v := .ref (q 0)) (C := RX12) (T := TX12) (N := 31) rfl rfl inX12 0 (by decide) (ref := RX12) kw_1058 rfl rfl dX12_whereOf_1 ?_
  refine lv_iload_n SS.1 SS.2.1 dX12_whereOf_4 rfl (lv_at hl 1 rfl) ?_
  refine j_iald SS hG hP 1 (n := 8) (f := (u.1 0)) rfl (z := s) (by omega) (by omega) dX12_whereOf_5 ?_
  refine j_iconst SS dX12_whereOf_6 ?_
  refine j_icmp_ge SS (tgt := 46) (x := (mN u s)) (y := 2) dX12_whereOf_7 (by decide) (by omega) (by decide) (fun c_7 => ?_) (fun c_7 => ?_)
  · skip
    refine j_iconst SS dX12_whereOf_46 ?_
    refine lv_istore (lv' := [(4, .int (J 1)), (0, .ref o), (1, .int (J s)), (2, .int (J x)), (3, .int (J y))]) SS.1 SS.2.1 dX12_whereOf_47 hl (by decide) rfl (fun ls hl => ?_)
    refine j_iconst SS dX12_whereOf_49 ?_
    refine lv_istore (lv' := [(5, .int (J 0)), (4, .int (J 1)), (0, .ref o), (1, .int (J s)), (2, .int (J x)), (3, .int (J y))]) SS.1 SS.2.1 dX12_whereOf_50 hl (by decide) rfl (fun ls hl => ?_)
    refine j_iconst SS dX12_whereOf_52 ?_
    refine lv_istore (lv' := [(6, .int (J 0)), (5, .int (J 0)), (4, .int (J 1)), (0, .ref o), (1, .int (J s)), (2, .int (J x)), (3, .int (J y))]) SS.1 SS.2.1 dX12_whereOf_53 hl (by decide) rfl (fun ls hl => ?_)
    have L_55 : ∀ (nn : Nat) (w : Int) (v : Int) (i : Int) (ls : Array Slot) (hl : lv_has ls 9 [(0, .ref o), (1, .int (J s)), (2, .int (J x)), (3, .int (J y)), (4, .int (J w)), (5, .int (J v)), (6, .int (J i))]) (i55_0 : 0 ≤ i ∧ i ≤ mN u s) (i55_1 : (w = 1 ∧ wIn u s x y i) ∨ (w = 0 ∧ ¬ wIn u s x y i)) (i55_2 : (v = 1 ∧ wOn u s x y i) ∨ (v = 0 ∧ ¬ wOn u s x y i)), (mN u s - i).toNat < nn → W pr l en (headSpec (jw yX12_whereOf cX12_whereOf 9 (some .int)) (jr 1 23)).room st mi (([.ref o, .int (J s), .int (J x), .int (J y)] : List Value).toArray) below meth co st.heap [] 0 0 (MQ below (jRi (fun z => wR u s x y z)) (([.ref o, .int (J s), .int (J x), .int (J y)] : List Value).toArray) st 0 0 (fun _ => False)) (F0 mi 55 ls []) := by
      intro nn
      induction nn with
      | zero => intros; omega
      | succ nn ih_55 =>
        intro w v i ls hl i55_0 i55_1 i55_2 hm
        refine lv_iload SS.1 SS.2.1 dX12_whereOf_55 (lv_at hl 6 rfl) ?_
        refine lv_aload_n SS.1 SS.2.1 dX12_whereOf_57 rfl (lv_at hl 0 rfl) ?_
        refine j_get SS hG hP 0 (v := .ref (q 0)) (C := RX12) (T := TX12) (N := 31) rfl rfl inX12 0 (by decide) (ref := RX12) kw_1058 rfl rfl dX12_whereOf_58 ?_
        refine lv_iload_n SS.1 SS.2.1 dX12_whereOf_61 rfl (lv_at hl 1 rfl) ?_
        refine j_iald SS hG hP 1 (n := 8) (f := (u.1 0)) rfl (z := s) (by omega) (by omega) dX12_whereOf_62 ?_
        refine j_icmp_ge SS (tgt := 223) (x := i) (y := (mN u s)) dX12_whereOf_63 (by decide) (by omega) (by omega) (fun c_63 => ?_) (fun c_63 => ?_)
        · skip
          refine lv_iload SS.1 SS.2.1 dX12_whereOf_223 (lv_at hl 5 rfl) ?_
          refine j_if_eq SS (tgt := 232) (x := v) dX12_whereOf_225 (by decide) (by omega) (fun c_225 => ?_) (fun c_225 => ?_)
          · skip
            refine lv_iload SS.1 SS.2.1 dX12_whereOf_232 (lv_at hl 4 rfl) ?_
            refine j_if_eq SS (tgt := 249) (x := w) dX12_whereOf_234 (by decide) (by omega) (fun c_234 => ?_) (fun c_234 => ?_)
            · skip
              refine j_iconst SS dX12_whereOf_249 ?_
              exact W.iret SS.1 SS.2.1 hr (fun t ht hW => ⟨_, rfl, ⟨0, rfl, (Or.inr ⟨by omega, by rw [show i = mN u s by omega] at i55_1 i55_2; first | (refine Or.inl ⟨rfl, ?_⟩; rcases i55_2 with k | k; exact k.2; omega) | (refine Or.inr (Or.inl ⟨rfl, ?_, ?_, ?_⟩); (rcases i55_2 with k | k; omega; exact k.2); (rcases i55_1 with k | k; exact k.2; omega); omega) | (refine Or.inr (Or.inr ⟨rfl, ?_, ?_⟩); (rcases i55_2 with k | k; omega; exact k.2); (intro q; first | omega | (rcases i55_1 with k | k; omega; exact k.2 q.1)))⟩)⟩, ht⟩) (fun _ h => nomatch h) dX12_whereOf_250 hlk
            · skip
              refine lv_aload_n SS.1 SS.2.1 dX12_whereOf_237 rfl (lv_at hl 0 rfl) ?_
              refine lv_iload_n SS.1 SS.2.1 dX12_whereOf_238 rfl (lv_at hl 1 rfl) ?_
              refine j_vRi SS (As := [.int (J s)]) (rest := []) (c_X12_isPolygon l D o q u s (show 0 ≤ s ∧ s ≤ 7 from (p0)) (show Sh u s from (p1))) mf_X12_isPolygon kw_1240 hG hP hP (ci := 8) (q0 := 0) rfl rfl rfl rfl hl.1 ⟨⟨Nat.le_of_ble_eq_true rfl, Nat.le_of_ble_eq_true rfl⟩, Nat.le_of_ble_eq_true rfl, Nat.le_refl _, Nat.le_refl _⟩ rfl dX12_whereOf_239 (fun z_239 h_239 => ?_)
              have h_239 : (z_239 = 1 ∧ 2 < mN u s) ∨ (z_239 = 0 ∧ mN u s ≤ 2) := h_239
              refine j_if_eq SS (tgt := 249) (x := z_239) dX12_whereOf_242 (by decide) (by omega) (fun c_242 => ?_) (fun c_242 => ?_)
              · skip
                refine j_iconst SS dX12_whereOf_249 ?_
                exact W.iret SS.1 SS.2.1 hr (fun t ht hW => ⟨_, rfl, ⟨0, rfl, (Or.inr ⟨by omega, by rw [show i = mN u s by omega] at i55_1 i55_2; first | (refine Or.inl ⟨rfl, ?_⟩; rcases i55_2 with k | k; exact k.2; omega) | (refine Or.inr (Or.inl ⟨rfl, ?_, ?_, ?_⟩); (rcases i55_2 with k | k; omega; exact k.2); (rcases i55_1 with k | k; exact k.2; omega); omega) | (refine Or.inr (Or.inr ⟨rfl, ?_, ?_⟩); (rcases i55_2 with k | k; omega; exact k.2); (intro q; first | omega | (rcases i55_1 with k | k; omega; exact k.2 q.1)))⟩)⟩, ht⟩) (fun _ h => nomatch h) dX12_whereOf_250 hlk
              · skip
                refine j_iconst SS dX12_whereOf_245 ?_
                refine lv_goto (tgt := 250) SS.1 SS.2.1 dX12_whereOf_246 (by decide) ?_
                exact W.iret SS.1 SS.2.1 hr (fun t ht hW => ⟨_, rfl, ⟨2, rfl, (Or.inr ⟨by omega, by rw [show i = mN u s by omega] at i55_1 i55_2; first | (refine Or.inl ⟨rfl, ?_⟩; rcases i55_2 with k | k; exact k.2; omega) | (refine Or.inr (Or.inl ⟨rfl, ?_, ?_, ?_⟩); (rcases i55_2 with k | k; omega; exact k.2); (rcases i55_1 with k | k; exact k.2; omega); omega) | (refine Or.inr (Or.inr ⟨rfl, ?_, ?_⟩); (rcases i55_2 with k | k; omega; exact k.2); (intro q; first | omega | (rcases i55_1 with k | k; omega; exact k.2 q.1)))⟩)⟩, ht⟩) (fun _ h => nomatch h) dX12_whereOf_250 hlk
          · skip
            refine j_iconst SS dX12_whereOf_228 ?_
            refine lv_goto (tgt := 250) SS.1 SS.2.1 dX12_whereOf_229 (by decide) ?_
            exact W.iret SS.1 SS.2.1 hr (fun t ht hW => ⟨_, rfl, ⟨1, rfl, (Or.inr ⟨by omega, by rw [show i = mN u s by omega] at i55_1 i55_2; first | (refine Or.inl ⟨rfl, ?_⟩; rcases i55_2 with k | k; exact k.2; omega) | (refine Or.inr (Or.inl ⟨rfl, ?_, ?_, ?_⟩); (rcases i55_2 with k | k; omega; exact k.2); (rcases i55_1 with k | k; exact k.2; omega); omega) | (refine Or.inr (Or.inr ⟨rfl, ?_, ?_⟩); (rcases i55_2 with k | k; omega; exact k.2); (intro q; first | omega | (rcases i55_1 with k | k; omega; exact k.2 q.1)))⟩)⟩, ht⟩) (fun _ h => nomatch h) dX12_whereOf_250 hlk
        · skip
          have b1 := p1.2.1 (by omega) i (by omega)
          have b2 := p1.2.1 (by omega) (i + 1) (by omega)
          refine lv_aload_n SS.1 SS.2.1 dX12_whereOf_66 rfl (lv_at hl 0 rfl) ?_
          refine lv_iload_n SS.1 SS.2.1 dX12_whereOf_67 rfl (lv_at hl 1 rfl) ?_
          refine lv_iload SS.1 SS.2.1 dX12_whereOf_68 (lv_at hl 6 rfl) ?_
          refine j_iconst SS dX12_whereOf_70 ?_
          refine j_iadd SS (x := i) (y := 1) dX12_whereOf_71 ?_
          refine j_vRi SS (As := [.int (J s), .int (J (i + 1))]) (rest := []) (c_X12_x l D o q u s (i + 1) (show 0 ≤ s ∧ s ≤ 7 from (by omega)) (show 0 ≤ (i + 1) ∧ (i + 1) ≤ 1000000 from (by omega)) (show 0 < mN u s ∧ mN u s ≤ 24 from (by omega))) mf_X12_x kw_1177 hG hP hP (ci := 8) (q0 := 0) rfl rfl rfl rfl hl.1 ⟨⟨Nat.le_of_ble_eq_true rfl, Nat.le_of_ble_eq_true rfl⟩, Nat.le_of_ble_eq_true rfl, Nat.le_refl _, Nat.le_refl _⟩ rfl dX12_whereOf_72 (fun z_72 h_72 => ?_)
          have h_72 : z_72 = mX u s (i + 1) := h_72
          refine lv_aload_n SS.1 SS.2.1 dX12_whereOf_75 rfl (lv_at hl 0 rfl) ?_
          refine lv_iload_n SS.1 SS.2.1 dX12_whereOf_76 rfl (lv_at hl 1 rfl) ?_
          refine lv_iload SS.1 SS.2.1 dX12_whereOf_77 (lv_at hl 6 rfl) ?_
          refine j_vRi SS (As := [.int (J s), .int (J i)]) (rest := [.int (J z_72)]) (c_X12_x l D o q u s i (show 0 ≤ s ∧ s ≤ 7 from (by omega)) (show 0 ≤ i ∧ i ≤ 1000000 from (by omega)) (show 0 < mN u s ∧ mN u s ≤ 24 from (by omega))) mf_X12_x kw_1177 hG hP hP (ci := 8) (q0 := 0) rfl rfl rfl rfl hl.1 ⟨⟨Nat.le_of_ble_eq_true rfl, Nat.le_of_ble_eq_true rfl⟩, Nat.le_of_ble_eq_true rfl, Nat.le_refl _, Nat.le_refl _⟩ rfl dX12_whereOf_79 (fun z_79 h_79 => ?_)
          have h_79 : z_79 = mX u s i := h_79
          refine j_isub SS (x := z_72) (y := z_79) dX12_whereOf_82 ?_
          refine lv_aload_n SS.1 SS.2.1 dX12_whereOf_83 rfl (lv_at hl 0 rfl) ?_
          refine lv_iload_n SS.1 SS.2.1 dX12_whereOf_84 rfl (lv_at hl 1 rfl) ?_
          refine lv_iload SS.1 SS.2.1 dX12_whereOf_85 (lv_at hl 6 rfl) ?_
          refine j_iconst SS dX12_whereOf_87 ?_
          refine j_iadd SS (x := i) (y := 1) dX12_whereOf_88 ?_
          refine j_vRi SS (As := [.int (J s), .int (J (i + 1))]) (rest := [.int (J (z_72 - z_79))]) (c_X12_y l D o q u s (i + 1) (show 0 ≤ s ∧ s ≤ 7 from (by omega)) (show 0 ≤ (i + 1) ∧ (i + 1) ≤ 1000000 from (by omega)) (show 0 < mN u s ∧ mN u s ≤ 24 from (by omega))) mf_X12_y kw_1181 hG hP hP (ci := 8) (q0 := 0) rfl rfl rfl rfl hl.1 ⟨⟨Nat.le_of_ble_eq_true rfl, Nat.le_of_ble_eq_true rfl⟩, Nat.le_of_ble_eq_true rfl, Nat.le_refl _, Nat.le_refl _⟩ rfl dX12_whereOf_89 (fun z_89 h_89 => ?_)
          have h_89 : z_89 = mY u s (i + 1) := h_89
          refine lv_aload_n SS.1 SS.2.1 dX12_whereOf_92 rfl (lv_at hl 0 rfl) ?_
          refine lv_iload_n SS.1 SS.2.1 dX12_whereOf_93 rfl (lv_at hl 1 rfl) ?_
          refine lv_iload SS.1 SS.2.1 dX12_whereOf_94 (lv_at hl 6 rfl) ?_
          refine j_vRi SS (As := [.int (J s), .int (J i)]) (rest := [.int (J z_89), .int (J (z_72 - z_79))]) (c_X12_y l D o q u s i (show 0 ≤ s ∧ s ≤ 7 from (by omega)) (show 0 ≤ i ∧ i ≤ 1000000 from (by omega)) (show 0 < mN u s ∧ mN u s ≤ 24 from (by omega))) mf_X12_y kw_1181 hG hP hP (ci := 8) (q0 := 0) rfl rfl rfl rfl hl.1 ⟨⟨Nat.le_of_ble_eq_true rfl, Nat.le_of_ble_eq_true rfl⟩, Nat.le_of_ble_eq_true rfl, Nat.le_refl _, Nat.le_refl _⟩ rfl dX12_whereOf_96 (fun z_96 h_96 => ?_)
          have h_96 : z_96 = mY u s i := h_96
          refine j_isub SS (x := z_89) (y := z_96) dX12_whereOf_99 ?_
          refine lv_iload_n SS.1 SS.2.1 dX12_whereOf_100 rfl (lv_at hl 2 rfl) ?_
          refine lv_aload_n SS.1 SS.2.1 dX12_whereOf_101 rfl (lv_at hl 0 rfl) ?_
          refine lv_iload_n SS.1 SS.2.1 dX12_whereOf_102 rfl (lv_at hl 1 rfl) ?_
          refine lv_iload SS.1 SS.2.1 dX12_whereOf_103 (lv_at hl 6 rfl) ?_
          refine j_vRi SS (As := [.int (J s), .int (J i)]) (rest := [.int (J x), .int (J (z_89 - z_96)), .int (J (z_72 - z_79))]) (c_X12_x l D o q u s i (show 0 ≤ s ∧ s ≤ 7 from (by omega)) (show 0 ≤ i ∧ i ≤ 1000000 from (by omega)) (show 0 < mN u s ∧ mN u s ≤ 24 from (by omega))) mf_X12_x kw_1177 hG hP hP (ci := 8) (q0 := 0) rfl rfl rfl rfl hl.1 ⟨⟨Nat.le_of_ble_eq_true rfl, Nat.le_of_ble_eq_true rfl⟩, Nat.le_of_ble_eq_true rfl, Nat.le_refl _, Nat.le_refl _⟩ rfl dX12_whereOf_105 (fun z_105 h_105 => ?_)
          have h_105 : z_105 = mX u s i := h_105
          refine j_isub SS (x := x) (y := z_105) dX12_whereOf_108 ?_
          refine lv_iload_n SS.1 SS.2.1 dX12_whereOf_109 rfl (lv_at hl 3 rfl) ?_
          refine lv_aload_n SS.1 SS.2.1 dX12_whereOf_110 rfl (lv_at hl 0 rfl) ?_
          refine lv_iload_n SS.1 SS.2.1 dX12_whereOf_111 rfl (lv_at hl 1 rfl) ?_
          refine lv_iload SS.1 SS.2.1 dX12_whereOf_112 (lv_at hl 6 rfl) ?_
          refine j_vRi SS (As := [.int (J s), .int (J i)]) (rest := [.int (J y), .int (J (x - z_105)), .int (J (z_89 - z_96)), .int (J (z_72 - z_79))]) (c_X12_y l D o q u s i (show 0 ≤ s ∧ s ≤ 7 from (by omega)) (show 0 ≤ i ∧ i ≤ 1000000 from (by omega)) (show 0 < mN u s ∧ mN u s ≤ 24 from (by omega))) mf_X12_y kw_1181 hG hP hP (ci := 8) (q0 := 0) rfl rfl rfl rfl hl.1 ⟨⟨Nat.le_of_ble_eq_true rfl, Nat.le_of_ble_eq_true rfl⟩, Nat.le_of_ble_eq_true rfl, Nat.le_refl _, Nat.le_refl _⟩ rfl dX12_whereOf_114 (fun z_114 h_114 => ?_)
          have h_114 : z_114 = mY u s i := h_114
          refine j_isub SS (x := y) (y := z_114) dX12_whereOf_117 ?_
          refine j_sRi SS (As := [.int (J (z_72 - z_79)), .int (J (z_89 - z_96)), .int (J (x - z_105)), .int (J (y - z_114))]) (rest := []) (c_X12_cross l D (z_72 - z_79) (z_89 - z_96) (x - z_105) (y - z_114) ) mf_X12_cross kw_1259 hG trivial rfl hl.1 ⟨⟨Nat.le_of_ble_eq_true rfl, Nat.le_of_ble_eq_true rfl⟩, Nat.le_of_ble_eq_true rfl, Nat.le_refl _, Nat.le_refl _⟩ rfl dX12_whereOf_118 (fun z_118 h_118 => ?_)
          have h_118 : z_118 = (z_72 - z_79) * (y - z_114) - (z_89 - z_96) * (x - z_105) := h_118
          have e0 : z_118 = wcr u s i x y := by rw [h_118, h_72, h_79, h_89, h_96, h_105, h_114]; rfl
          have q1 := mulb (A := 80) (B := 140) (a := z_72 - z_79) (b := y - z_114) (by omega) (by omega)
          have q2 := mulb (A := 80) (B := 140) (a := z_89 - z_96) (b := x - z_105) (by omega) (by omega)
          refine lv_istore (lv' := [(7, .int (J z_118)), (0, .ref o), (1, .int (J s)), (2, .int (J x)), (3, .int (J y)), (4, .int (J w)), (5, .int (J v)), (6, .int (J i))]) SS.1 SS.2.1 dX12_whereOf_121 hl (by decide) rfl (fun ls hl => ?_)
          refine lv_iload SS.1 SS.2.1 dX12_whereOf_123 (lv_at hl 5 rfl) ?_
          have L_138 : ∀ (w1 : Int) (ls : Array Slot) (hl : lv_has ls 9 [(0, .ref o), (1, .int (J s)), (2, .int (J x)), (3, .int (J y)), (5, .int (J v)), (6, .int (J i)), (7, .int (J z_118))]) (i138_0 : (w1 = 1 ∧ wIn u s x y i ∧ 0 ≤ wcr u s i x y) ∨ (w1 = 0 ∧ ¬ (wIn u s x y i ∧ 0 ≤ wcr u s i x y))), W pr l en (headSpec (jw yX12_whereOf cX12_whereOf 9 (some .int)) (jr 1 23)).room st mi (([.ref o, .int (J s), .int (J x), .int (J y)] : List Value).toArray) below meth co st.heap [] 0 0 (MQ below (jRi (fun z => wR u s x y z)) (([.ref o, .int (J s), .int (J x), .int (J y)] : List Value).toArray) st 0 0 (fun _ => False)) (F0 mi 138 ls [.int (J w1)]) := by
            intro w1 ls hl i138_0
            refine lv_istore (lv' := [(4, .int (J w1)), (0, .ref o), (1, .int (J s)), (2, .int (J x)), (3, .int (J y)), (5, .int (J v)), (6, .int (J i)), (7, .int (J z_118))]) SS.1 SS.2.1 dX12_whereOf_138 hl (by decide) rfl (fun ls hl => ?_)
            refine lv_iload_n SS.1 SS.2.1 dX12_whereOf_140 rfl (lv_at hl 3 rfl) ?_
            refine lv_aload_n SS.1 SS.2.1 dX12_whereOf_141 rfl (lv_at hl 1 rfl) ?_
            refine lv_iload_n SS.1 SS.2.1 dX12_whereOf_142 rfl (lv_at hl 2 rfl) ?_
            refine lv_iload SS.1 SS.2.1 dX12_whereOf_143 (lv_at hl 6 rfl) ?_
            refine j_vRi SS (As := [.int (J s), .int (J i)]) (rest := [.int (J x)]) (c_X12_x l D o q u s i (show 0 ≤ s ∧ s ≤ 7 from (by omega)) (show 0 ≤ i ∧ i ≤ 1000000 from (by omega)) (show 0 < mN u s ∧ mN u s ≤ 24 from (by omega))) mf_X12_x kw_1177 hG hP hP (ci := 8) (q0 := 0) rfl rfl rfl rfl hl.1 ⟨⟨Nat.le_of_ble_eq_true rfl, Nat.le_of_ble_eq_true rfl⟩, Nat.le_of_ble_eq_true rfl, Nat.le_refl _, Nat.le_refl _⟩ rfl dX12_whereOf_145 (fun z_145 h_145 => ?_)
            have h_145 : z_145 = mX u s i := h_145
            refine j_isub SS (x := x) (y := z_145) dX12_whereOf_148 ?_
            refine lv_iload_n SS.1 SS.2.1 dX12_whereOf_149 rfl (lv_at hl 3 rfl) ?_
            refine lv_aload_n SS.1 SS.2.1 dX12_whereOf_150 rfl (lv_at hl 1 rfl) ?_
            refine lv_iload_n SS.1 SS.2.1 dX12_whereOf_151 rfl (lv_at hl 2 rfl) ?_
            refine lv_iload SS.1 SS.2.1 dX12_whereOf_152 (lv_at hl 6 rfl) ?_
            refine j_iconst SS dX12_whereOf_154 ?_
            refine j_iadd SS (x := i) (y := 1) dX12_whereOf_155 ?_
            refine j_vRi SS (As := [.int (J s), .int (J (i + 1))]) (rest := [.int (J x), .int (J (x - z_145))]) (c_X12_x l D o q u s (i + 1) (show 0 ≤ s ∧ s ≤ 7 from (by omega)) (show 0 ≤ (i + 1) ∧ (i + 1) ≤ 1000000 from (by omega)) (show 0 < mN u s ∧ mN u s ≤ 24 from (by omega))) mf_X12_x kw_1177 hG hP hP (ci := 8) (q0 := 0) rfl rfl rfl rfl hl.1 ⟨⟨Nat.le_of_ble_eq_true rfl, Nat.le_of_ble_eq_true rfl⟩, Nat.le_of_ble_eq_true rfl, Nat.le_refl _, Nat.le_refl _⟩ rfl dX12_whereOf_156 (fun z_156 h_156 => ?_)
            have h_156 : z_156 = mX u s (i + 1) := h_156
            refine j_isub SS (x := x) (y := z_156) dX12_whereOf_159 ?_
            refine j_imul SS (x := (x - z_145)) (y := (x - z_156)) dX12_whereOf_160 ?_
            obtain ⟨m1, em1⟩ : ∃ z : Int, z = ((x - z_145) * (x - z_156)) := ⟨_, rfl⟩
            rw [← em1]
            have L_193 : ∀ (w2 : Int) (ls : Array Slot) (hl : lv_has ls 9 [(0, .ref o), (1, .int (J s)), (2, .int (J x)), (3, .int (J y)), (4, .int (J w1)), (5, .int (J v)), (6, .int (J i)), (7, .int (J z_118))]) (i193_0 : (w2 = 1 ∧ wBt u s i x y) ∨ (w2 = 0 ∧ ¬ wBt u s i x y)), W pr l en (headSpec (jw yX12_whereOf cX12_whereOf 9 (some .int)) (jr 1 23)).room st mi (([.ref o, .int (J s), .int (J x), .int (J y)] : List Value).toArray) below meth co st.heap [] 0 0 (MQ below (jRi (fun z => wR u s x y z)) (([.ref o, .int (J s), .int (J x), .int (J y)] : List Value).toArray) st 0 0 (fun _ => False)) (F0 mi 193 ls [.int (J w2)]) := by
              intro w2 ls hl i193_0
              refine lv_istore (lv' := [(8, .int (J w2)), (0, .ref o), (1, .int (J s)), (2, .int (J x)), (3, .int (J y)), (4, .int (J w1)), (5, .int (J v)), (6, .int (J i)), (7, .int (J z_118))]) SS.1 SS.2.1 dX12_whereOf_193 hl (by decide) rfl (fun ls hl => ?_)
              refine lv_iload SS.1 SS.2.1 dX12_whereOf_195 (lv_at hl 6 rfl) ?_
              refine j_if_ne SS (tgt := 210) (x := v) dX12_whereOf_197 (by decide) (by omega) (fun c_197 => ?_) (fun c_197 => ?_)
              · skip
                refine j_iconst SS dX12_whereOf_210 ?_
                refine lv_goto (tgt := 215) SS.1 SS.2.1 dX12_whereOf_211 (by decide) ?_
                refine lv_istore (lv' := [(5, .int (J 1)), (8, .int (J w2)), (0, .ref o), (1, .int (J s)), (2, .int (J x)), (3, .int (J y)), (4, .int (J w1)), (6, .int (J i)), (7, .int (J z_118))]) SS.1 SS.2.1 dX12_whereOf_215 hl (by decide) rfl (fun ls hl => ?_)
                refine lv_iinc (v := J (i + 1)) (lv' := [(6, .int (J (i + 1))), (5, .int (J 1)), (8, .int (J w2)), (0, .ref o), (1, .int (J s)), (2, .int (J x)), (3, .int (J y)), (4, .int (J w1)), (7, .int (J z_118))]) SS.1 SS.2.1 dX12_whereOf_217 hl (k := 7) rfl (J_add _ _) (by decide) rfl (fun ls hl => ?_)
                refine lv_goto (tgt := 55) SS.1 SS.2.1 dX12_whereOf_220 (by decide) ?_
                exact ih_55 w1 1 (i + 1) ls (lv_sub hl [3, 4, 5, 6, 7, 1, 0] rfl) (by omega) (by rw [wIn_s i55_0.1]; rcases i138_0 with k | k; exact Or.inl k; exact Or.inr k) (by rw [wOn_s i55_0.1]; first | (refine Or.inl ⟨rfl, ?_⟩; rcases i55_2 with k | k; exact Or.inl k.2; first | (exfalso; omega) | exact Or.inr ⟨by omega, by rcases i193_0 with k2 | k2; exact k2.2; omega⟩) | (refine Or.inr ⟨rfl, ?_⟩; rintro (k | k); (rcases i55_2 with k2 | k2; omega; exact k2.2 k); (first | omega | (rcases i193_0 with k2 | k2; omega; exact k2.2 k.2)))) (by omega)
              · skip
                refine lv_iload SS.1 SS.2.1 dX12_whereOf_200 (lv_at hl 8 rfl) ?_
                refine j_if_ne SS (tgt := 214) (x := z_118) dX12_whereOf_202 (by decide) (by omega) (fun c_202 => ?_) (fun c_202 => ?_)
                · skip
                  refine j_iconst SS dX12_whereOf_214 ?_
                  refine lv_istore (lv' := [(5, .int (J 0)), (8, .int (J w2)), (0, .ref o), (1, .int (J s)), (2, .int (J x)), (3, .int (J y)), (4, .int (J w1)), (6, .int (J i)), (7, .int (J z_118))]) SS.1 SS.2.1 dX12_whereOf_215 hl (by decide) rfl (fun ls hl => ?_)
                  refine lv_iinc (v := J (i + 1)) (lv' := [(6, .int (J (i + 1))), (5, .int (J 0)), (8, .int (J w2)), (0, .ref o), (1, .int (J s)), (2, .int (J x)), (3, .int (J y)), (4, .int (J w1)), (7, .int (J z_118))]) SS.1 SS.2.1 dX12_whereOf_217 hl (k := 7) rfl (J_add _ _) (by decide) rfl (fun ls hl => ?_)
                  refine lv_goto (tgt := 55) SS.1 SS.2.1 dX12_whereOf_220 (by decide) ?_
                  exact ih_55 w1 0 (i + 1) ls (lv_sub hl [3, 4, 5, 6, 7, 1, 0] rfl) (by omega) (by rw [wIn_s i55_0.1]; rcases i138_0 with k | k; exact Or.inl k; exact Or.inr k) (by rw [wOn_s i55_0.1]; first | (refine Or.inl ⟨rfl, ?_⟩; rcases i55_2 with k | k; exact Or.inl k.2; first | (exfalso; omega) | exact Or.inr ⟨by omega, by rcases i193_0 with k2 | k2; exact k2.2; omega⟩) | (refine Or.inr ⟨rfl, ?_⟩; rintro (k | k); (rcases i55_2 with k2 | k2; omega; exact k2.2 k); (first | omega | (rcases i193_0 with k2 | k2; omega; exact k2.2 k.2)))) (by omega)
                · skip
                  refine lv_iload SS.1 SS.2.1 dX12_whereOf_205 (lv_at hl 0 rfl) ?_
                  refine j_if_eq SS (tgt := 214) (x := w2) dX12_whereOf_207 (by decide) (by omega) (fun c_207 => ?_) (fun c_207 => ?_)
                  · skip
                    refine j_iconst SS dX12_whereOf_214 ?_
                    refine lv_istore (lv' := [(5, .int (J 0)), (8, .int (J w2)), (0, .ref o), (1, .int (J s)), (2, .int (J x)), (3, .int (J y)), (4, .int (J w1)), (6, .int (J i)), (7, .int (J z_118))]) SS.1 SS.2.1 dX12_whereOf_215 hl (by decide) rfl (fun ls hl => ?_)
                    refine lv_iinc (v := J (i + 1)) (lv' := [(6, .int (J (i + 1))), (5, .int (J 0)), (8, .int (J w2)), (0, .ref o), (1, .int (J s)), (2, .int (J x)), (3, .int (J y)), (4, .int (J w1)), (7, .int (J z_118))]) SS.1 SS.2.1 dX12_whereOf_217 hl (k := 7) rfl (J_add _ _) (by decide) rfl (fun ls hl => ?_)
                    refine lv_goto (tgt := 55) SS.1 SS.2.1 dX12_whereOf_220 (by decide) ?_
                    exact ih_55 w1 0 (i + 1) ls (lv_sub hl [3, 4, 5, 6, 7, 1, 0] rfl) (by omega) (by rw [wIn_s i55_0.1]; rcases i138_0 with k | k; exact Or.inl k; exact Or.inr k) (by rw [wOn_s i55_0.1]; first | (refine Or.inl ⟨rfl, ?_⟩; rcases i55_2 with k | k; exact Or.inl k.2; first | (exfalso; omega) | exact Or.inr ⟨by omega, by rcases i193_0 with k2 | k2; exact k2.2; omega⟩) | (refine Or.inr ⟨rfl, ?_⟩; rintro (k | k); (rcases i55_2 with k2 | k2; omega; exact k2.2 k); (first | omega | (rcases i193_0 with k2 | k2; omega; exact k2.2 k.2)))) (by omega)
                  · skip
                    refine j_iconst SS dX12_whereOf_210 ?_
                    refine lv_goto (tgt := 215) SS.1 SS.2.1 dX12_whereOf_211 (by decide) ?_
                    refine lv_istore (lv' := [(5, .int (J 1)), (8, .int (J w2)), (0, .ref o), (1, .int (J s)), (2, .int (J x)), (3, .int (J y)), (4, .int (J w1)), (6, .int (J i)), (7, .int (J z_118))]) SS.1 SS.2.1 dX12_whereOf_215 hl (by decide) rfl (fun ls hl => ?_)
                    refine lv_iinc (v := J (i + 1)) (lv' := [(6, .int (J (i + 1))), (5, .int (J 1)), (8, .int (J w2)), (0, .ref o), (1, .int (J s)), (2, .int (J x)), (3, .int (J y)), (4, .int (J w1)), (7, .int (J z_118))]) SS.1 SS.2.1 dX12_whereOf_217 hl (k := 7) rfl (J_add _ _) (by decide) rfl (fun ls hl => ?_)
                    refine lv_goto (tgt := 55) SS.1 SS.2.1 dX12_whereOf_220 (by decide) ?_
                    exact ih_55 w1 1 (i + 1) ls (lv_sub hl [3, 4, 5, 6, 7, 1, 0] rfl) (by omega) (by rw [wIn_s i55_0.1]; rcases i138_0 with k | k; exact Or.inl k; exact Or.inr k) (by rw [wOn_s i55_0.1]; first | (refine Or.inl ⟨rfl, ?_⟩; rcases i55_2 with k | k; exact Or.inl k.2; first | (exfalso; omega) | exact Or.inr ⟨by omega, by rcases i193_0 with k2 | k2; exact k2.2; omega⟩) | (refine Or.inr ⟨rfl, ?_⟩; rintro (k | k); (rcases i55_2 with k2 | k2; omega; exact k2.2 k); (first | omega | (rcases i193_0 with k2 | k2; omega; exact k2.2 k.2)))) (by omega)
            have q3 := mulb (A := 140) (B := 140) (a := x - z_145) (b := x - z_156) (by omega) (by omega)
            have e1 : m1 = (x - mX u s i) * (x - mX u s (i + 1)) := by rw [em1, h_145, h_156]
            refine j_if_gt SS (tgt := 192) (x := m1) dX12_whereOf_161 (by decide) (by omega) (fun c_161 => ?_) (fun c_161 => ?_)
            · skip
              refine j_iconst SS dX12_whereOf_192 ?_
              exact L_193 0 ls (lv_sub hl [1, 2, 3, 4, 0, 5, 6, 7] rfl) (Or.inr ⟨rfl, fun k => by first | (have k1 := k.1; rw [← e1] at k1; omega) | (have k2 := k.2; rw [← e2] at k2; omega)⟩)
            · skip
              refine lv_iload_n SS.1 SS.2.1 dX12_whereOf_164 rfl (lv_at hl 4 rfl) ?_
              refine lv_aload_n SS.1 SS.2.1 dX12_whereOf_165 rfl (lv_at hl 1 rfl) ?_
              refine lv_iload_n SS.1 SS.2.1 dX12_whereOf_166 rfl (lv_at hl 2 rfl) ?_
              refine lv_iload SS.1 SS.2.1 dX12_whereOf_167 (lv_at hl 6 rfl) ?_
              refine j_vRi SS (As := [.int (J s), .int (J i)]) (rest := [.int (J y)]) (c_X12_y l D o q u s i (show 0 ≤ s ∧ s ≤ 7 from (by omega)) (show 0 ≤ i ∧ i ≤ 1000000 from (by omega)) (show 0 < mN u s ∧ mN u s ≤ 24 from (by omega))) mf_X12_y kw_1181 hG hP hP (ci := 8) (q0 := 0) rfl rfl rfl rfl hl.1 ⟨⟨Nat.le_of_ble_eq_true rfl, Nat.le_of_ble_eq_true rfl⟩, Nat.le_of_ble_eq_true rfl, Nat.le_refl _, Nat.le_refl _⟩ rfl dX12_whereOf_169 (fun z_169 h_169 => ?_)
              have h_169 : z_169 = mY u s i := h_169
              refine j_isub SS (x := y) (y := z_169) dX12_whereOf_172 ?_
              refine lv_iload_n SS.1 SS.2.1 dX12_whereOf_173 rfl (lv_at hl 4 rfl) ?_
              refine lv_aload_n SS.1 SS.2.1 dX12_whereOf_174 rfl (lv_at hl 1 rfl) ?_
              refine lv_iload_n SS.1 SS.2.1 dX12_whereOf_175 rfl (lv_at hl 2 rfl) ?_
              refine lv_iload SS.1 SS.2.1 dX12_whereOf_176 (lv_at hl 6 rfl) ?_
              refine j_iconst SS dX12_whereOf_178 ?_
              refine j_iadd SS (x := i) (y := 1) dX12_whereOf_179 ?_
              refine j_vRi SS (As := [.int (J s), .int (J (i + 1))]) (rest := [.int (J y), .int (J (y - z_169))]) (c_X12_y l D o q u s (i + 1) (show 0 ≤ s ∧ s ≤ 7 from (by omega)) (show 0 ≤ (i + 1) ∧ (i + 1) ≤ 1000000 from (by omega)) (show 0 < mN u s ∧ mN u s ≤ 24 from (by omega))) mf_X12_y kw_1181 hG hP hP (ci := 8) (q0 := 0) rfl rfl rfl rfl hl.1 ⟨⟨Nat.le_of_ble_eq_true rfl, Nat.le_of_ble_eq_true rfl⟩, Nat.le_of_ble_eq_true rfl, Nat.le_refl _, Nat.le_refl _⟩ rfl dX12_whereOf_180 (fun z_180 h_180 => ?_)
              have h_180 : z_180 = mY u s (i + 1) := h_180
              refine j_isub SS (x := y) (y := z_180) dX12_whereOf_183 ?_
              refine j_imul SS (x := (y - z_169)) (y := (y - z_180)) dX12_whereOf_184 ?_
              obtain ⟨m2, em2⟩ : ∃ z : Int, z = ((y - z_169) * (y - z_180)) := ⟨_, rfl⟩
              rw [← em2]
              have q4 := mulb (A := 140) (B := 140) (a := y - z_169) (b := y - z_180) (by omega) (by omega)
              have e2 : m2 = (y - mY u s i) * (y - mY u s (i + 1)) := by rw [em2, h_169, h_180]
              refine j_if_gt SS (tgt := 192) (x := m2) dX12_whereOf_185 (by decide) (by omega) (fun c_185 => ?_) (fun c_185 => ?_)
              · skip
                refine j_iconst SS dX12_whereOf_192 ?_
                exact L_193 0 ls (lv_sub hl [1, 2, 3, 4, 0, 5, 6, 7] rfl) (Or.inr ⟨rfl, fun k => by first | (have k1 := k.1; rw [← e1] at k1; omega) | (have k2 := k.2; rw [← e2] at k2; omega)⟩)
              · skip
                refine j_iconst SS dX12_whereOf_188 ?_
                refine lv_goto (tgt := 193) SS.1 SS.2.1 dX12_whereOf_189 (by decide) ?_
                exact L_193 1 ls (lv_sub hl [1, 2, 3, 4, 0, 5, 6, 7] rfl) (Or.inl ⟨rfl, by rw [e1] at c_161; exact c_161, by rw [e2] at c_185; exact c_185⟩)
          refine j_if_eq SS (tgt := 137) (x := w) dX12_whereOf_125 (by decide) (by omega) (fun c_125 => ?_) (fun c_125 => ?_)
          · skip
            refine j_iconst SS dX12_whereOf_137 ?_
            exact L_138 0 ls (lv_sub hl [1, 2, 3, 4, 6, 7, 0] rfl) (Or.inr ⟨rfl, fun k => by first | omega | (rcases i55_1 with k2 | k2; omega; exact k2.2 k.1)⟩)
          · skip
            refine lv_iload SS.1 SS.2.1 dX12_whereOf_128 (lv_at hl 0 rfl) ?_
            refine j_if_lt SS (tgt := 137) (x := z_118) dX12_whereOf_130 (by decide) (by omega) (fun c_130 => ?_) (fun c_130 => ?_)
            · skip
              refine j_iconst SS dX12_whereOf_137 ?_
              exact L_138 0 ls (lv_sub hl [1, 2, 3, 4, 6, 7, 0] rfl) (Or.inr ⟨rfl, fun k => by first | omega | (rcases i55_1 with k2 | k2; omega; exact k2.2 k.1)⟩)
            · skip
              refine j_iconst SS dX12_whereOf_133 ?_
              refine lv_goto (tgt := 138) SS.1 SS.2.1 dX12_whereOf_134 (by decide) ?_
              exact L_138 1 ls (lv_sub hl [1, 2, 3, 4, 6, 7, 0] rfl) (Or.inl ⟨rfl, by rcases i55_1 with k | k; exact k.2; omega, by omega⟩)
    exact L_55 ((mN u s - (0 : Int)).toNat + 1) 1 0 0 ls (lv_sub hl [3, 4, 5, 6, 2, 1, 0] rfl) (by omega) (Or.inl ⟨rfl, fun j h1 h2 => by omega⟩) (Or.inr ⟨rfl, fun ⟨j, h1, h2, _⟩ => by omega⟩) (Nat.lt_succ_self _)
  · skip
    refine lv_aload_n SS.1 SS.2.1 dX12_whereOf_10 rfl (lv_at hl 0 rfl) ?_
    refine j_get SS hG hP 0 (v := .ref (q 0)) (C := RX12) (T := TX12) (N := 31) rfl rfl inX12 0 (by decide) (ref := RX12) kw_1058 rfl rfl dX12_whereOf_11 ?_
    refine lv_iload_n SS.1 SS.2.1 dX12_whereOf_14 rfl (lv_at hl 1 rfl) ?_
    refine j_iald SS hG hP 1 (n := 8) (f := (u.1 0)) rfl (z := s) (by omega) (by omega) dX12_whereOf_15 ?_
    refine j_iconst SS dX12_whereOf_16 ?_
    refine j_icmp_ne SS (tgt := 44) (x := (mN u s)) (y := 1) dX12_whereOf_17 (by decide) (by omega) (by decide) (fun c_17 => ?_) (fun c_17 => ?_)
    · skip
      refine j_iconst SS dX12_whereOf_44 ?_
      exact W.iret SS.1 SS.2.1 hr (fun t ht hW => ⟨_, rfl, ⟨0, rfl, (Or.inl ⟨by omega, by omega⟩)⟩, ht⟩) (fun _ h => nomatch h) dX12_whereOf_45 hlk
    · skip
      have b0 := p1.2.1 (by omega) 0 (by omega)
      refine lv_aload_n SS.1 SS.2.1 dX12_whereOf_20 rfl (lv_at hl 0 rfl) ?_
      refine lv_iload_n SS.1 SS.2.1 dX12_whereOf_21 rfl (lv_at hl 1 rfl) ?_
      refine j_iconst SS dX12_whereOf_22 ?_
      refine j_vRi SS (As := [.int (J s), .int (J 0)]) (rest := []) (c_X12_x l D o q u s 0 (show 0 ≤ s ∧ s ≤ 7 from (by omega)) (show 0 ≤ (0 : Int) ∧ (0 : Int) ≤ 1000000 from (by omega)) (show 0 < mN u s ∧ mN u s ≤ 24 from (by omega))) mf_X12_x kw_1177 hG hP hP (ci := 8) (q0 := 0) rfl rfl rfl rfl hl.1 ⟨⟨Nat.le_of_ble_eq_true rfl, Nat.le_of_ble_eq_true rfl⟩, Nat.le_of_ble_eq_true rfl, Nat.le_refl _, Nat.le_refl _⟩ rfl dX12_whereOf_23 (fun z_23 h_23 => ?_)
      have h_23 : z_23 = mX u s (0 : Int) := h_23
      refine lv_iload_n SS.1 SS.2.1 dX12_whereOf_26 rfl (lv_at hl 2 rfl) ?_
      refine j_icmp_ne SS (tgt := 44) (x := z_23) (y := x) dX12_whereOf_27 (by decide) (by omega) (by omega) (fun c_27 => ?_) (fun c_27 => ?_)
      · skip
        refine j_iconst SS dX12_whereOf_44 ?_
        exact W.iret SS.1 SS.2.1 hr (fun t ht hW => ⟨_, rfl, ⟨0, rfl, (Or.inl ⟨by omega, by omega⟩)⟩, ht⟩) (fun _ h => nomatch h) dX12_whereOf_45 hlk
      · skip
        refine lv_aload_n SS.1 SS.2.1 dX12_whereOf_30 rfl (lv_at hl 0 rfl) ?_
        refine lv_iload_n SS.1 SS.2.1 dX12_whereOf_31 rfl (lv_at hl 1 rfl) ?_
        refine j_iconst SS dX12_whereOf_32 ?_
        refine j_vRi SS (As := [.int (J s), .int (J 0)]) (rest := []) (c_X12_y l D o q u s 0 (show 0 ≤ s ∧ s ≤ 7 from (by omega)) (show 0 ≤ (0 : Int) ∧ (0 : Int) ≤ 1000000 from (by omega)) (show 0 < mN u s ∧ mN u s ≤ 24 from (by omega))) mf_X12_y kw_1181 hG hP hP (ci := 8) (q0 := 0) rfl rfl rfl rfl hl.1 ⟨⟨Nat.le_of_ble_eq_true rfl, Nat.le_of_ble_eq_true rfl⟩, Nat.le_of_ble_eq_true rfl, Nat.le_refl _, Nat.le_refl _⟩ rfl dX12_whereOf_33 (fun z_33 h_33 => ?_)
        have h_33 : z_33 = mY u s (0 : Int) := h_33
        refine lv_iload_n SS.1 SS.2.1 dX12_whereOf_36 rfl (lv_at hl 3 rfl) ?_
        refine j_icmp_ne SS (tgt := 44) (x := z_33) (y := y) dX12_whereOf_37 (by decide) (by omega) (by omega) (fun c_37 => ?_) (fun c_37 => ?_)
        · skip
          refine j_iconst SS dX12_whereOf_44 ?_
          exact W.iret SS.1 SS.2.1 hr (fun t ht hW => ⟨_, rfl, ⟨0, rfl, (Or.inl ⟨by omega, by omega⟩)⟩, ht⟩) (fun _ h => nomatch h) dX12_whereOf_45 hlk
        · skip
          refine j_iconst SS dX12_whereOf_40 ?_
          refine lv_goto (tgt := 45) SS.1 SS.2.1 dX12_whereOf_41 (by decide) ?_
          exact W.iret SS.1 SS.2.1 hr (fun t ht hW => ⟨_, rfl, ⟨1, rfl, (Or.inl ⟨by omega, by omega⟩)⟩, ht⟩) (fun _ h => nomatch h) dX12_whereOf_45 hlk

