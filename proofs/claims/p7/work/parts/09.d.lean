
theorem bd_step {K : Int} {f g : Nat → Int} {i : Int} (h0 : 0 ≤ i) : bd K f g (i + 1) ↔ bd K f g i ∧ (-K ≤ f i.toNat ∧ f i.toNat ≤ K) ∧ (-K ≤ g i.toNat ∧ g i.toNat ≤ K) := by
  constructor
  · intro h; exact ⟨bd_le h (by omega), h i.toNat (by omega)⟩
  · intro h a ha
    by_cases e : (a : Int) < i
    · exact h.1 a e
    · rw [show a = i.toNat by omega]; exact h.2
def tk_ok (b K : Int) (f g : Nat → Int) (n i : Int) : Prop := n ≤ 24 ∧ (b = 1 → bd K f g i)
theorem tk_0 {b K : Int} {f g : Nat → Int} {n : Int} : tk_ok b K f g n 0 ↔ n ≤ 24 := ⟨fun h => h.1, fun h => ⟨h, fun _ a ha => by omega⟩⟩
theorem tk_s {b : Int} {f g : Nat → Int} {n i : Int} (h0 : 0 ≤ i) : tk_ok b 40 f g n (i + 1) ↔ tk_ok b 40 f g n i ∧ (b = 1 → (-40 ≤ f i.toNat ∧ f i.toNat ≤ 40) ∧ (-40 ≤ g i.toNat ∧ g i.toNat ≤ 40)) := by
  unfold tk_ok
  rw [bd_step h0]
  constructor
  · intro h; exact ⟨⟨h.1, fun q => (h.2 q).1⟩, fun q => (h.2 q).2⟩
  · intro h; exact ⟨h.1.1, fun q => ⟨h.1.2 q, h.2 q⟩⟩
/-- the corners as written so far -/
def cw_ (X Y f1 f2 o1 o2 : Nat → Int) (s i : Int) : Prop := (∀ a : Nat, (a : Int) < i → f1 (24 * s + a).toNat = X a ∧ f2 (24 * s + a).toNat = Y a) ∧ ∀ k : Nat, ((k : Int) < 24 * s ∨ 24 * s + i ≤ k) → f1 k = o1 k ∧ f2 k = o2 k
theorem cw_0 {X Y o1 o2 : Nat → Int} {s : Int} : cw_ X Y o1 o2 o1 o2 s 0 := ⟨fun a h => by omega, fun k _ => ⟨rfl, rfl⟩⟩
theorem cw_s {X Y f1 f2 o1 o2 : Nat → Int} {s i : Int} (hs : 0 ≤ s) (hi : 0 ≤ i) (h : cw_ X Y f1 f2 o1 o2 s i) : cw_ X Y (upI f1 (24 * s + i).toNat (X i.toNat)) (upI f2 (24 * s + i).toNat (Y i.toNat)) o1 o2 s (i + 1) := by
  refine ⟨fun a ha => ?_, fun k hk => ?_⟩
  · by_cases e : (a : Int) = i
    · subst e
      rw [upI_s, upI_s]; exact ⟨rfl, rfl⟩
    · rw [upI_n (by omega), upI_n (by omega)]; exact h.1 a (by omega)
  · rw [upI_n (by omega), upI_n (by omega)]; exact h.2 k (by omega)
theorem Ch_cong {n : Int} {X Y X' Y' : Nat → Int} (h : Ch n X Y) (e : ∀ a : Nat, (a : Int) ≤ n → X' a = X a ∧ Y' a = Y a) : Ch n X' Y' := by
  rcases h with h | ⟨t, h1, h2, h3, h4, h5, h6, h7, h8⟩
  · exact Or.inl h
  · refine Or.inr ⟨t, h1, h2, fun a ha => ?_, lft_cong h4 (fun a ha => e a (by omega)), fun a ha hb => ?_, lft_cong h6 (fun a ha => e a (by omega)), ?_, ?_⟩
    · rw [(e a (by omega)).1, (e a (by omega)).2, (e (a + 1) (by omega)).1, (e (a + 1) (by omega)).2]; exact h3 a ha
    · rw [(e a (by omega)).1, (e a (by omega)).2, (e (a + 1) (by omega)).1, (e (a + 1) (by omega)).2]; exact h5 a ha hb
    · rw [(e n.toNat (by omega)).1, (e 0 (by omega)).1]; exact h7
    · rw [(e n.toNat (by omega)).2, (e 0 (by omega)).2]; exact h8
def Sh (u : MS) (s : Int) : Prop := (0 ≤ mN u s ∧ mN u s ≤ 24) ∧ (0 < mN u s → ∀ i : Int, 0 ≤ i → (-40 ≤ mX u s i ∧ mX u s i ≤ 40) ∧ (-40 ≤ mY u s i ∧ mY u s i ≤ 40)) ∧ Ch (mN u s) (fun a => mX u s a) (fun a => mY u s a)
def SHs (u : MS) : Prop := ∀ s : Int, 0 ≤ s → s ≤ 7 → Sh u s
def HB (f : Nat → Int) : Prop := ∀ k : Nat, -1000 ≤ f k ∧ f k ≤ 1000
def IM (u : MS) : Prop := SHs u ∧ HB (u.1 3) ∧ bd 40 (u.1 10) (u.1 11) 6561
def hz_ (o f : Nat → Int) (s i : Int) : Prop := ∀ k : Nat, (40 * s ≤ k ∧ (k : Int) < 40 * s + i → f k = 0) ∧ (¬ (40 * s ≤ k ∧ (k : Int) < 40 * s + i) → f k = o k)
theorem hz_0 {o : Nat → Int} {s : Int} : hz_ o o s 0 := fun k => ⟨fun h => by omega, fun _ => rfl⟩
theorem hz_s {o f : Nat → Int} {s i : Int} (hs : 0 ≤ s) (hi : 0 ≤ i) (h : hz_ o f s i) : hz_ o (upI f (40 * s + i).toNat 0) s (i + 1) := by
  intro k
  by_cases e : (k : Int) = 40 * s + i
  · rw [show k = (40 * s + i).toNat by omega, upI_s]
    exact ⟨fun _ => rfl, fun q => by omega⟩
  · rw [upI_n (by omega)]
    exact ⟨fun q => (h k).1 (by omega), fun q => (h k).2 (by omega)⟩
/-- a shape made anew -/
def tk_new (u : MS) (f0 f1 f2 f3 : Nat → Int) (s : Int) : Prop := f0 = upI (u.1 0) s.toNat (u.2.2 9) ∧ cw_ (u.1 7) (u.1 8) f1 f2 (u.1 1) (u.1 2) s (u.2.2 9) ∧ hz_ (u.1 3) f3 s 40
theorem IM_new {u : MS} {f0 f1 f2 f3 : Nat → Int} {s : Int} (hI : IM u) (h0 : 0 ≤ s) (h7 : s ≤ 7) (hn : 0 ≤ u.2.2 9 ∧ u.2.2 9 ≤ 24) (hb : bd 40 (u.1 7) (u.1 8) (u.2.2 9)) (hc : Ch (u.2.2 9) (u.1 7) (u.1 8)) (h : tk_new u f0 f1 f2 f3 s) : IM (uI (uI (uI (uI u 0 f0) 1 f1) 2 f2) 3 f3) := by
  obtain ⟨e0, ⟨c1, c2⟩, hz⟩ := h
  refine ⟨?_, fun k => ?_, hI.2.2⟩
  rotate_left
  · show -1000 ≤ f3 k ∧ f3 k ≤ 1000
    have a := hI.2.1 k
    by_cases e : 40 * s ≤ k ∧ (k : Int) < 40 * s + 40
    · rw [(hz k).1 e]; omega
    · rw [(hz k).2 e]; exact a
  have hI := hI.1
  intro s' g0 g7
  have eN : mN (uI (uI (uI (uI u 0 f0) 1 f1) 2 f2) 3 f3) s' = f0 s'.toNat := rfl
  have eX : ∀ i, mX (uI (uI (uI (uI u 0 f0) 1 f1) 2 f2) 3 f3) s' i = f1 (24 * s' + i.tmod (f0 s'.toNat)).toNat := fun _ => rfl
  have eY : ∀ i, mY (uI (uI (uI (uI u 0 f0) 1 f1) 2 f2) 3 f3) s' i = f2 (24 * s' + i.tmod (f0 s'.toNat)).toNat := fun _ => rfl
  by_cases e : s' = s
  · subst e
    have eh : f0 s'.toNat = u.2.2 9 := by rw [e0, upI_s]
    have key : 0 < u.2.2 9 → ∀ i : Int, 0 ≤ i → mX (uI (uI (uI (uI u 0 f0) 1 f1) 2 f2) 3 f3) s' i = u.1 7 (i.tmod (u.2.2 9)).toNat ∧ mY (uI (uI (uI (uI u 0 f0) 1 f1) 2 f2) 3 f3) s' i = u.1 8 (i.tmod (u.2.2 9)).toNat := by
      intro hp i hi
      have q := tm_b hi hp
      have r := c1 (i.tmod (u.2.2 9)).toNat (by omega)
      rw [show (((i.tmod (u.2.2 9)).toNat : Nat) : Int) = i.tmod (u.2.2 9) by omega] at r
      rw [eX, eY, eh]; exact r
    refine ⟨by rw [eN, eh]; exact hn, fun hp i hi => ?_, ?_⟩
    · rw [eN, eh] at hp
      obtain ⟨k1, k2⟩ := key hp i hi
      have q := tm_b hi hp
      rw [k1, k2]; exact hb _ (by omega)
    · rw [eN, eh]
      by_cases hp : 1 < u.2.2 9
      · refine Ch_cong hc (fun a ha => ?_)
        obtain ⟨k1, k2⟩ := key (by omega) a (by omega)
        show mX _ _ _ = _ ∧ mY _ _ _ = _
        rw [k1, k2]
        by_cases ea : (a : Int) = u.2.2 9
        · rcases hc with hc | ⟨t, _, _, _, _, _, _, g1, g2⟩
          · omega
          · rw [← ea, Int.tmod_self]
            rw [← ea] at g1 g2
            rw [show ((a : Int)).toNat = a from rfl] at g1 g2
            exact ⟨g1.symm, g2.symm⟩
        · rw [Int.tmod_eq_of_lt (by omega) (by omega)]; exact ⟨rfl, rfl⟩
      · exact Or.inl (by omega)
  · obtain ⟨a1, a2, a3⟩ := hI s' g0 g7
    have eh : f0 s'.toNat = mN u s' := by rw [e0, upI_n (by omega)]
    have key : 0 < mN u s' → ∀ i : Int, 0 ≤ i → mX (uI (uI (uI (uI u 0 f0) 1 f1) 2 f2) 3 f3) s' i = mX u s' i ∧ mY (uI (uI (uI (uI u 0 f0) 1 f1) 2 f2) 3 f3) s' i = mY u s' i := by
      intro hp i hi
      have q := tm_b hi hp
      have r := c2 (24 * s' + i.tmod (mN u s')).toNat (by omega)
      rw [eX, eY, eh]; exact r
    refine ⟨by rw [eN, eh]; exact a1, fun hp i hi => ?_, ?_⟩
    · rw [eN, eh] at hp
      rw [(key hp i hi).1, (key hp i hi).2]; exact a2 hp i hi
    · rw [eN, eh]
      by_cases hp : 0 < mN u s'
      · exact Ch_cong a3 (fun a ha => key hp a (by omega))
      · exact Or.inl (by omega)

set_option maxHeartbeats 4000000 in
set_option maxRecDepth 100000 in
theorem c_X12_take (l : Launch) (D : JD) (o : Nat) (q : Nat → Nat) (u : MS) (A : Nat → Prop) (hD : va_D A (mW D o q u)) (s : Int) (b : Int) (p0 : 0 ≤ s ∧ s ≤ 7) (p1 : b = 0 ∨ b = 1) (p2 : 0 ≤ u.2.2 9 ∧ u.2.2 9 ≤ 1290) (p3 : bd 10000 (u.1 7) (u.1 8) (u.2.2 9)) : Met l yX12_take (jw yX12_take cX12_take 5 (some .int)) (jr 2 43) (jP [.ref o, .int (J s), .int (J b)] D (fun H => va_P D.1 j_cl (mW D o q u) H)) (jWi (fun z u' => ∃ f0 : Nat → Int, ∃ f1 : Nat → Int, ∃ f2 : Nat → Int, ∃ f3 : Nat → Int, u' = (uI (uI (uI (uI u 0 f0) 1 f1) 2 f2) 3 f3) ∧ ((z = -3 ∧ ¬ tk_ok b 40 (u.1 7) (u.1 8) (u.2.2 9) (u.2.2 9) ∧ f0 = u.1 0 ∧ f1 = u.1 1 ∧ f2 = u.1 2 ∧ f3 = u.1 3) ∨ (z = u.2.2 9 ∧ tk_ok b 40 (u.1 7) (u.1 8) (u.2.2 9) (u.2.2 9) ∧ tk_new u f0 f1 f2 f3 s))) (fun u' H => va_P D.1 j_cl (mW D o q u') H) A) 0 0 A := by
  refine Met.ofW (cc := cX12_take) (maxL := 5) (ret := (some .int)) (by decide) rfl ?_
  intro pr en st mi args below meth co s₁ B hml hv
  obtain ⟨rfl, hG, hP⟩ := hv
  have hr := B.returns
  have hlk := B.notSynchronized
  have SS : jS pr mi co cX12_take 5 st _ RX12 := ⟨B.exec, B.bytes, hml, findClass_of_methodNamed B.named, fun w hw => atoms_spec (ws := (jw yX12_take cX12_take 5 (some .int))) B.pre w (List.mem_cons_of_mem _ hw)⟩
  have hl := lv_entry ([.ref o, .int (J s), .int (J b)]) (n := 5) (Nat.le_of_ble_eq_true rfl)
  rw [lg_entry_eq]
  generalize (lg_sl ([.ref o, .int (J s), .int (J b)]) ++ List.replicate (5 - (lg_sl ([.ref o, .int (J s), .int (J b)])).length) Slot.unset).toArray = ls at hl ⊢
  have hl : lv_has ls 5 [(0, .ref o), (1, .int (J s)), (2, .int (J b))] := hl
  have hS : va_S A st.heap st.heap [] := va_S.rf
  refine lv_aload_n SS.1 SS.2.1 dX12_take_0 rfl (lv_at hl 0 rfl) ?_
  refine j_get SS hG hP 0 (v := .int (J (u.2.2 9))) (C := RX12) (T := TX12) (N := 31) rfl rfl inX12 9 (by decide) (ref := RX12) kw_1067 rfl rfl dX12_take_1 ?_
  refine j_bipush SS dX12_take_4 (by decide +kernel) ?_
  refine j_icmp_gt SS (tgt := 13) (x := (u.2.2 9)) (y := 24) dX12_take_6 (by decide) (by omega) (by decide) (fun c_6 => ?_) (fun c_6 => ?_)
  · skip
    refine j_iconst SS dX12_take_13 ?_
    refine lv_istore_n (lv' := [(3, .int (J 0)), (0, .ref o), (1, .int (J s)), (2, .int (J b))]) SS.1 SS.2.1 dX12_take_14 rfl hl (by decide) rfl (fun ls hl => ?_)
    refine j_iconst SS dX12_take_15 ?_
    refine lv_istore (lv' := [(4, .int (J 0)), (3, .int (J 0)), (0, .ref o), (1, .int (J s)), (2, .int (J b))]) SS.1 SS.2.1 dX12_take_16 hl (by decide) rfl (fun ls hl => ?_)
    have L_18 : ∀ (nn : Nat) (w : Int) (i : Int) (H : Heap) (locs : List Loc) (hP : va_P D.1 j_cl (mW D o q u) H) (hS : va_S A st.heap H locs) (ls : Array Slot) (hl : lv_has ls 5 [(0, .ref o), (1, .int (J s)), (2, .int (J b)), (3, .int (J w)), (4, .int (J i))]) (i18_0 : 0 ≤ i ∧ i ≤ u.2.2 9) (i18_1 : (w = 1 ∧ tk_ok b 40 (u.1 7) (u.1 8) (u.2.2 9) i) ∨ (w = 0 ∧ ¬ tk_ok b 40 (u.1 7) (u.1 8) (u.2.2 9) i)), (u.2.2 9 - i).toNat < nn → W pr l en (headSpec (jw yX12_take cX12_take 5 (some .int)) (jr 2 43)).room st mi (([.ref o, .int (J s), .int (J b)] : List Value).toArray) below meth co H locs 0 0 (MQ below (jWi (fun z u' => ∃ f0 : Nat → Int, ∃ f1 : Nat → Int, ∃ f2 : Nat → Int, ∃ f3 : Nat → Int, u' = (uI (uI (uI (uI u 0 f0) 1 f1) 2 f2) 3 f3) ∧ ((z = -3 ∧ ¬ tk_ok b 40 (u.1 7) (u.1 8) (u.2.2 9) (u.2.2 9) ∧ f0 = u.1 0 ∧ f1 = u.1 1 ∧ f2 = u.1 2 ∧ f3 = u.1 3) ∨ (z = u.2.2 9 ∧ tk_ok b 40 (u.1 7) (u.1 8) (u.2.2 9) (u.2.2 9) ∧ tk_new u f0 f1 f2 f3 s))) (fun u' H => va_P D.1 j_cl (mW D o q u') H) A) (([.ref o, .int (J s), .int (J b)] : List Value).toArray) st 0 0 A) (F0 mi 18 ls []) := by
      intro nn
      induction nn with
      | zero => intros; omega
      | succ nn ih_18 =>
        intro w i  H locs hP hS ls hl i18_0 i18_1 hm
        refine lv_iload SS.1 SS.2.1 dX12_take_18 (lv_at hl 4 rfl) ?_
        refine lv_aload_n SS.1 SS.2.1 dX12_take_20 rfl (lv_at hl 0 rfl) ?_
        refine j_get SS hG hP 0 (v := .int (J (u.2.2 9))) (C := RX12) (T := TX12) (N := 31) rfl rfl inX12 9 (by decide) (ref := RX12) kw_1067 rfl rfl dX12_take_21 ?_
        refine j_icmp_ge SS (tgt := 67) (x := i) (y := (u.2.2 9)) dX12_take_24 (by decide) (by omega) (by omega) (fun c_24 => ?_) (fun c_24 => ?_)
        · skip
          refine lv_iload_n SS.1 SS.2.1 dX12_take_67 rfl (lv_at hl 3 rfl) ?_
          refine j_if_ne SS (tgt := 74) (x := w) dX12_take_68 (by decide) (by omega) (fun c_68 => ?_) (fun c_68 => ?_)
          · skip
            have hok : w = 1 ∧ tk_ok b 40 (u.1 7) (u.1 8) (u.2.2 9) i := by rcases i18_1 with k | k; exact k; omega
            have h24 := hok.2.1
            have ei : i = u.2.2 9 := by omega
            rw [ei] at hok
            refine lv_aload_n SS.1 SS.2.1 dX12_take_74 rfl (lv_at hl 0 rfl) ?_
            refine j_get SS hG hP 0 (v := .ref (q 0)) (C := RX12) (T := TX12) (N := 31) rfl rfl inX12 0 (by decide) (ref := RX12) kw_1058 rfl rfl dX12_take_75 ?_
            refine lv_iload_n SS.1 SS.2.1 dX12_take_78 rfl (lv_at hl 1 rfl) ?_
            refine lv_aload_n SS.1 SS.2.1 dX12_take_79 rfl (lv_at hl 0 rfl) ?_
            refine j_get SS hG hP 0 (v := .int (J (u.2.2 9))) (C := RX12) (T := TX12) (N := 31) rfl rfl inX12 9 (by decide) (ref := RX12) kw_1067 rfl rfl dX12_take_80 ?_
            refine j_iast SS hG hP (mW_D hD) hS 1 (n := 8) (f := (u.1 0)) rfl (z := s) (v := (u.2.2 9)) (by omega) (by omega) dX12_take_83 (ws' := (mW D o q (uI u 0 (upI (u.1 0) (s).toNat (u.2.2 9))))) rfl (fun H locs hP hS => ?_)
            refine j_iconst SS dX12_take_84 ?_
            refine lv_istore (lv' := [(4, .int (J 0)), (0, .ref o), (1, .int (J s)), (2, .int (J b)), (3, .int (J w))]) SS.1 SS.2.1 dX12_take_85 hl (by decide) rfl (fun ls hl => ?_)
            have L_87 : ∀ (nn : Nat) (i2 : Int) (g1 : Nat → Int) (g2 : Nat → Int) (H : Heap) (locs : List Loc) (hP : va_P D.1 j_cl (mW D o q (uI (uI (uI u 0 (upI (u.1 0) (s).toNat (u.2.2 9))) 1 g1) 2 g2)) H) (hS : va_S A st.heap H locs) (ls : Array Slot) (hl : lv_has ls 5 [(0, .ref o), (1, .int (J s)), (4, .int (J i2))]) (i87_0 : 0 ≤ i2 ∧ i2 ≤ u.2.2 9) (i87_1 : cw_ (u.1 7) (u.1 8) g1 g2 (u.1 1) (u.1 2) s i2), (u.2.2 9 - i2).toNat < nn → W pr l en (headSpec (jw yX12_take cX12_take 5 (some .int)) (jr 2 43)).room st mi (([.ref o, .int (J s), .int (J b)] : List Value).toArray) below meth co H locs 0 0 (MQ below (jWi (fun z u' => ∃ f0 : Nat → Int, ∃ f1 : Nat → Int, ∃ f2 : Nat → Int, ∃ f3 : Nat → Int, u' = (uI (uI (uI (uI u 0 f0) 1 f1) 2 f2) 3 f3) ∧ ((z = -3 ∧ ¬ tk_ok b 40 (u.1 7) (u.1 8) (u.2.2 9) (u.2.2 9) ∧ f0 = u.1 0 ∧ f1 = u.1 1 ∧ f2 = u.1 2 ∧ f3 = u.1 3) ∨ (z = u.2.2 9 ∧ tk_ok b 40 (u.1 7) (u.1 8) (u.2.2 9) (u.2.2 9) ∧ tk_new u f0 f1 f2 f3 s))) (fun u' H => va_P D.1 j_cl (mW D o q u') H) A) (([.ref o, .int (J s), .int (J b)] : List Value).toArray) st 0 0 A) (F0 mi 87 ls []) := by
              intro nn
              induction nn with
              | zero => intros; omega
              | succ nn ih_87 =>
                intro i2 g1 g2 H locs hP hS ls hl i87_0 i87_1 hm
                refine lv_iload SS.1 SS.2.1 dX12_take_87 (lv_at hl 2 rfl) ?_
                refine lv_aload_n SS.1 SS.2.1 dX12_take_89 rfl (lv_at hl 0 rfl) ?_
                refine j_get SS hG hP 0 (v := .int (J (u.2.2 9))) (C := RX12) (T := TX12) (N := 31) rfl rfl inX12 9 (by decide) (ref := RX12) kw_1067 rfl rfl dX12_take_90 ?_
                refine j_icmp_ge SS (tgt := 140) (x := i2) (y := (u.2.2 9)) dX12_take_93 (by decide) (by omega) (by omega) (fun c_93 => ?_) (fun c_93 => ?_)
                · skip
                  refine j_iconst SS dX12_take_140 ?_
                  refine lv_istore (lv' := [(4, .int (J 0)), (0, .ref o), (1, .int (J s))]) SS.1 SS.2.1 dX12_take_141 hl (by decide) rfl (fun ls hl => ?_)
                  have L_143 : ∀ (nn : Nat) (i3 : Int) (g3 : Nat → Int) (H : Heap) (locs : List Loc) (hP : va_P D.1 j_cl (mW D o q (uI (uI (uI (uI u 0 (upI (u.1 0) (s).toNat (u.2.2 9))) 1 g1) 2 g2) 3 g3)) H) (hS : va_S A st.heap H locs) (ls : Array Slot) (hl : lv_has ls 5 [(0, .ref o), (1, .int (J s)), (4, .int (J i3))]) (i143_0 : 0 ≤ i3 ∧ i3 ≤ 40) (i143_1 : hz_ (u.1 3) g3 s i3), ((40 : Int) - i3).toNat < nn → W pr l en (headSpec (jw yX12_take cX12_take 5 (some .int)) (jr 2 43)).room st mi (([.ref o, .int (J s), .int (J b)] : List Value).toArray) below meth co H locs 0 0 (MQ below (jWi (fun z u' => ∃ f0 : Nat → Int, ∃ f1 : Nat → Int, ∃ f2 : Nat → Int, ∃ f3 : Nat → Int, u' = (uI (uI (uI (uI u 0 f0) 1 f1) 2 f2) 3 f3) ∧ ((z = -3 ∧ ¬ tk_ok b 40 (u.1 7) (u.1 8) (u.2.2 9) (u.2.2 9) ∧ f0 = u.1 0 ∧ f1 = u.1 1 ∧ f2 = u.1 2 ∧ f3 = u.1 3) ∨ (z = u.2.2 9 ∧ tk_ok b 40 (u.1 7) (u.1 8) (u.2.2 9) (u.2.2 9) ∧ tk_new u f0 f1 f2 f3 s))) (fun u' H => va_P D.1 j_cl (mW D o q u') H) A) (([.ref o, .int (J s), .int (J b)] : List Value).toArray) st 0 0 A) (F0 mi 143 ls []) := by
                    intro nn
                    induction nn with
                    | zero => intros; omega
                    | succ nn ih_143 =>
                      intro i3 g3 H locs hP hS ls hl i143_0 i143_1 hm
                      refine lv_iload SS.1 SS.2.1 dX12_take_143 (lv_at hl 2 rfl) ?_
                      refine j_bipush SS dX12_take_145 (by decide +kernel) ?_
                      refine j_icmp_ge SS (tgt := 169) (x := i3) (y := 40) dX12_take_147 (by decide) (by omega) (by decide) (fun c_147 => ?_) (fun c_147 => ?_)
                      · skip
                        refine lv_aload_n SS.1 SS.2.1 dX12_take_169 rfl (lv_at hl 0 rfl) ?_
                        refine j_get SS hG hP 0 (v := .int (J (u.2.2 9))) (C := RX12) (T := TX12) (N := 31) rfl rfl inX12 9 (by decide) (ref := RX12) kw_1067 rfl rfl dX12_take_170 ?_
                        exact W.iret SS.1 SS.2.1 hr (fun t ht hW => ⟨⟨_, (uI (uI (uI (uI u 0 (upI (u.1 0) (s).toNat (u.2.2 9))) 1 g1) 2 g2) 3 g3), rfl, ⟨(u.2.2 9), rfl, (⟨(upI (u.1 0) (s).toNat (u.2.2 9)), g1, g2, g3, rfl, Or.inr ⟨rfl, hok.2, rfl, by rw [show i2 = u.2.2 9 by omega] at i87_1; exact i87_1, by rw [show i3 = 40 by omega] at i143_1; exact i143_1⟩⟩)⟩, by show va_P D.1 j_cl (mW D o q (uI (uI (uI (uI u 0 (upI (u.1 0) (s).toNat (u.2.2 9))) 1 g1) 2 g2) 3 g3)) t.heap; rw [ht]; exact hP⟩, hS.F ht⟩) hS.2.2 dX12_take_173 hlk
                      · skip
                        refine lv_aload_n SS.1 SS.2.1 dX12_take_150 rfl (lv_at hl 0 rfl) ?_
                        refine j_get SS hG hP 0 (v := .ref (q 3)) (C := RX12) (T := TX12) (N := 31) rfl rfl inX12 3 (by decide) (ref := RX12) kw_1061 rfl rfl dX12_take_151 ?_
                        refine j_bipush SS dX12_take_154 (by decide +kernel) ?_
                        refine lv_iload_n SS.1 SS.2.1 dX12_take_156 rfl (lv_at hl 1 rfl) ?_
                        refine j_imul SS (x := 40) (y := s) dX12_take_157 ?_
                        refine lv_iload SS.1 SS.2.1 dX12_take_158 (lv_at hl 2 rfl) ?_
                        refine j_iadd SS (x := (40 * s)) (y := i3) dX12_take_160 ?_
                        refine j_iconst SS dX12_take_161 ?_
                        refine j_iast SS hG hP (mW_D hD) hS 4 (n := 320) (f := g3) rfl (z := ((40 * s) + i3)) (v := 0) (by omega) (by omega) dX12_take_162 (ws' := (mW D o q (uI (uI (uI (uI u 0 (upI (u.1 0) (s).toNat (u.2.2 9))) 1 g1) 2 g2) 3 (upI g3 (((40 * s) + i3)).toNat 0)))) rfl (fun H locs hP hS => ?_)
                        refine lv_iinc (v := J (i3 + 1)) (lv' := [(4, .int (J (i3 + 1))), (0, .ref o), (1, .int (J s))]) SS.1 SS.2.1 dX12_take_163 hl (k := 2) rfl (J_add _ _) (by decide) rfl (fun ls hl => ?_)
                        refine lv_goto (tgt := 143) SS.1 SS.2.1 dX12_take_166 (by decide) ?_
                        exact ih_143 (i3 + 1) (upI g3 (((40 * s) + i3)).toNat 0) _ _ hP hS ls (lv_sub hl [1, 2, 0] rfl) (by omega) (by first | exact hz_0 | exact hz_s p0.1 (by omega) i143_1) (by omega)
                  exact L_143 (((40 : Int) - (0 : Int)).toNat + 1) 0 (u.1 3) _ _ hP hS ls (lv_sub hl [1, 2, 0] rfl) (by omega) (by first | exact hz_0 | exact hz_s p0.1 (by omega) i143_1) (Nat.lt_succ_self _)
                · skip
                  refine lv_aload_n SS.1 SS.2.1 dX12_take_96 rfl (lv_at hl 0 rfl) ?_
                  refine j_get SS hG hP 0 (v := .ref (q 1)) (C := RX12) (T := TX12) (N := 31) rfl rfl inX12 1 (by decide) (ref := RX12) kw_1059 rfl rfl dX12_take_97 ?_
                  refine j_bipush SS dX12_take_100 (by decide +kernel) ?_
                  refine lv_iload_n SS.1 SS.2.1 dX12_take_102 rfl (lv_at hl 1 rfl) ?_
                  refine j_imul SS (x := 24) (y := s) dX12_take_103 ?_
                  refine lv_iload SS.1 SS.2.1 dX12_take_104 (lv_at hl 2 rfl) ?_
                  refine j_iadd SS (x := (24 * s)) (y := i2) dX12_take_106 ?_
                  refine lv_aload_n SS.1 SS.2.1 dX12_take_107 rfl (lv_at hl 0 rfl) ?_
                  refine j_get SS hG hP 0 (v := .ref (q 7)) (C := RX12) (T := TX12) (N := 31) rfl rfl inX12 7 (by decide) (ref := RX12) kw_1065 rfl rfl dX12_take_108 ?_
                  refine lv_iload SS.1 SS.2.1 dX12_take_111 (lv_at hl 2 rfl) ?_
                  refine j_iald SS hG hP 7 (n := 1300) (f := (u.1 7)) rfl (z := i2) (by omega) (by omega) dX12_take_113 ?_
                  refine j_iast SS hG hP (mW_D hD) hS 2 (n := 192) (f := g1) rfl (z := ((24 * s) + i2)) (v := ((u.1 7) (i2).toNat)) (by omega) (by omega) dX12_take_114 (ws' := (mW D o q (uI (uI (uI u 0 (upI (u.1 0) (s).toNat (u.2.2 9))) 1 (upI g1 (((24 * s) + i2)).toNat ((u.1 7) (i2).toNat))) 2 g2))) rfl (fun H locs hP hS => ?_)
                  refine lv_aload_n SS.1 SS.2.1 dX12_take_115 rfl (lv_at hl 0 rfl) ?_
                  refine j_get SS hG hP 0 (v := .ref (q 2)) (C := RX12) (T := TX12) (N := 31) rfl rfl inX12 2 (by decide) (ref := RX12) kw_1060 rfl rfl dX12_take_116 ?_
                  refine j_bipush SS dX12_take_119 (by decide +kernel) ?_
                  refine lv_iload_n SS.1 SS.2.1 dX12_take_121 rfl (lv_at hl 1 rfl) ?_
                  refine j_imul SS (x := 24) (y := s) dX12_take_122 ?_
                  refine lv_iload SS.1 SS.2.1 dX12_take_123 (lv_at hl 2 rfl) ?_
                  refine j_iadd SS (x := (24 * s)) (y := i2) dX12_take_125 ?_
                  refine lv_aload_n SS.1 SS.2.1 dX12_take_126 rfl (lv_at hl 0 rfl) ?_
                  refine j_get SS hG hP 0 (v := .ref (q 8)) (C := RX12) (T := TX12) (N := 31) rfl rfl inX12 8 (by decide) (ref := RX12) kw_1066 rfl rfl dX12_take_127 ?_
                  refine lv_iload SS.1 SS.2.1 dX12_take_130 (lv_at hl 2 rfl) ?_
                  refine j_iald SS hG hP 8 (n := 1300) (f := (u.1 8)) rfl (z := i2) (by omega) (by omega) dX12_take_132 ?_
                  refine j_iast SS hG hP (mW_D hD) hS 3 (n := 192) (f := g2) rfl (z := ((24 * s) + i2)) (v := ((u.1 8) (i2).toNat)) (by omega) (by omega) dX12_take_133 (ws' := (mW D o q (uI (uI (uI u 0 (upI (u.1 0) (s).toNat (u.2.2 9))) 1 (upI g1 (((24 * s) + i2)).toNat ((u.1 7) (i2).toNat))) 2 (upI g2 (((24 * s) + i2)).toNat ((u.1 8) (i2).toNat))))) rfl (fun H locs hP hS => ?_)
                  refine lv_iinc (v := J (i2 + 1)) (lv' := [(4, .int (J (i2 + 1))), (0, .ref o), (1, .int (J s))]) SS.1 SS.2.1 dX12_take_134 hl (k := 2) rfl (J_add _ _) (by decide) rfl (fun ls hl => ?_)
                  refine lv_goto (tgt := 87) SS.1 SS.2.1 dX12_take_137 (by decide) ?_
                  exact ih_87 (i2 + 1) (upI g1 (((24 * s) + i2)).toNat ((u.1 7) (i2).toNat)) (upI g2 (((24 * s) + i2)).toNat ((u.1 8) (i2).toNat)) _ _ hP hS ls (lv_sub hl [1, 2, 0] rfl) (by omega) (cw_s p0.1 i87_0.1 i87_1) (by omega)
            exact L_87 ((u.2.2 9 - (0 : Int)).toNat + 1) 0 (u.1 1) (u.1 2) _ _ hP hS ls (lv_sub hl [1, 2, 0] rfl) (by omega) (cw_0) (Nat.lt_succ_self _)
          · skip
            refine j_bipush SS dX12_take_71 (by decide +kernel) ?_
            exact W.iret SS.1 SS.2.1 hr (fun t ht hW => ⟨⟨_, (uI (uI (uI (uI u 0 (u.1 0)) 1 (u.1 1)) 2 (u.1 2)) 3 (u.1 3)), rfl, ⟨(-3), rfl, (⟨(u.1 0), (u.1 1), (u.1 2), (u.1 3), rfl, Or.inl ⟨rfl, by rcases i18_1 with k | k; omega; rw [show i = u.2.2 9 by omega] at k; exact k.2, rfl, rfl, rfl, rfl⟩⟩)⟩, by show va_P D.1 j_cl (mW D o q (uI (uI (uI (uI u 0 (u.1 0)) 1 (u.1 1)) 2 (u.1 2)) 3 (u.1 3))) t.heap; rw [ht]; exact hP⟩, hS.F ht⟩) hS.2.2 dX12_take_73 hlk
        · skip
          refine lv_iload_n SS.1 SS.2.1 dX12_take_27 rfl (lv_at hl 3 rfl) ?_
          refine j_if_eq SS (tgt := 59) (x := w) dX12_take_28 (by decide) (by omega) (fun c_28 => ?_) (fun c_28 => ?_)
          · skip
            refine j_iconst SS dX12_take_59 ?_
            refine lv_istore_n (lv' := [(3, .int (J 0)), (0, .ref o), (1, .int (J s)), (2, .int (J b)), (4, .int (J i))]) SS.1 SS.2.1 dX12_take_60 rfl hl (by decide) rfl (fun ls hl => ?_)
            refine lv_iinc (v := J (i + 1)) (lv' := [(4, .int (J (i + 1))), (3, .int (J 0)), (0, .ref o), (1, .int (J s)), (2, .int (J b))]) SS.1 SS.2.1 dX12_take_61 hl (k := 4) rfl (J_add _ _) (by decide) rfl (fun ls hl => ?_)
            refine lv_goto (tgt := 18) SS.1 SS.2.1 dX12_take_64 (by decide) ?_
            exact ih_18 0 (i + 1) _ _ hP hS ls (lv_sub hl [2, 3, 4, 1, 0] rfl) (by omega) (by rw [tk_s i18_0.1]; first | (refine Or.inl ⟨rfl, ?_⟩; rcases i18_1 with k | k; exact ⟨k.2, fun _ => by omega⟩; omega) | (refine Or.inr ⟨rfl, ?_⟩; intro k; rcases i18_1 with k2 | k2; have := k.2 (by omega); omega; exact k2.2 k.1)) (by omega)
          · skip
            refine lv_iload_n SS.1 SS.2.1 dX12_take_31 rfl (lv_at hl 2 rfl) ?_
            refine j_if_eq SS (tgt := 55) (x := b) dX12_take_32 (by decide) (by omega) (fun c_32 => ?_) (fun c_32 => ?_)
            · skip
              refine j_iconst SS dX12_take_55 ?_
              refine lv_goto (tgt := 60) SS.1 SS.2.1 dX12_take_56 (by decide) ?_
              refine lv_istore_n (lv' := [(3, .int (J 1)), (0, .ref o), (1, .int (J s)), (2, .int (J b)), (4, .int (J i))]) SS.1 SS.2.1 dX12_take_60 rfl hl (by decide) rfl (fun ls hl => ?_)
              refine lv_iinc (v := J (i + 1)) (lv' := [(4, .int (J (i + 1))), (3, .int (J 1)), (0, .ref o), (1, .int (J s)), (2, .int (J b))]) SS.1 SS.2.1 dX12_take_61 hl (k := 4) rfl (J_add _ _) (by decide) rfl (fun ls hl => ?_)
              refine lv_goto (tgt := 18) SS.1 SS.2.1 dX12_take_64 (by decide) ?_
              exact ih_18 1 (i + 1) _ _ hP hS ls (lv_sub hl [2, 3, 4, 1, 0] rfl) (by omega) (by rw [tk_s i18_0.1]; first | (refine Or.inl ⟨rfl, ?_⟩; rcases i18_1 with k | k; exact ⟨k.2, fun _ => by omega⟩; omega) | (refine Or.inr ⟨rfl, ?_⟩; intro k; rcases i18_1 with k2 | k2; have := k.2 (by omega); omega; exact k2.2 k.1)) (by omega)
            · skip
              refine lv_aload_n SS.1 SS.2.1 dX12_take_35 rfl (lv_at hl 0 rfl) ?_
              refine j_get SS hG hP 0 (v := .ref (q 7)) (C := RX12) (T := TX12) (N := 31) rfl rfl inX12 7 (by decide) (ref := RX12) kw_1065 rfl rfl dX12_take_36 ?_
              refine lv_iload SS.1 SS.2.1 dX12_take_39 (lv_at hl 4 rfl) ?_
              refine j_iald SS hG hP 7 (n := 1300) (f := (u.1 7)) rfl (z := i) (by omega) (by omega) dX12_take_41 ?_
              refine lv_aload_n SS.1 SS.2.1 dX12_take_42 rfl (lv_at hl 0 rfl) ?_
              refine j_get SS hG hP 0 (v := .ref (q 8)) (C := RX12) (T := TX12) (N := 31) rfl rfl inX12 8 (by decide) (ref := RX12) kw_1066 rfl rfl dX12_take_43 ?_
              refine lv_iload SS.1 SS.2.1 dX12_take_46 (lv_at hl 4 rfl) ?_
              refine j_iald SS hG hP 8 (n := 1300) (f := (u.1 8)) rfl (z := i) (by omega) (by omega) dX12_take_48 ?_
              have q := bd_at p3 (z := i) (by omega) (by omega)
              refine j_sRi SS (As := [.int (J ((u.1 7) (i).toNat)), .int (J ((u.1 8) (i).toNat))]) (rest := []) (c_X12_isPlace l D ((u.1 7) (i).toNat) ((u.1 8) (i).toNat) (show -2147483648 ≤ ((u.1 7) (i).toNat) ∧ ((u.1 7) (i).toNat) ≤ 2147483647 from (by omega)) (show -2147483648 ≤ ((u.1 8) (i).toNat) ∧ ((u.1 8) (i).toNat) ≤ 2147483647 from (by omega))) mf_X12_isPlace kw_1166 hG trivial rfl hl.1 ⟨⟨Nat.le_of_ble_eq_true rfl, Nat.le_of_ble_eq_true rfl⟩, Nat.le_of_ble_eq_true rfl, Nat.le_refl _, Nat.le_refl _⟩ rfl dX12_take_49 (fun z_49 h_49 => ?_)
              have h_49 : (z_49 = 1 ∧ (-40 ≤ ((u.1 7) (i).toNat) ∧ ((u.1 7) (i).toNat) ≤ 40 ∧ -40 ≤ ((u.1 8) (i).toNat) ∧ ((u.1 8) (i).toNat) ≤ 40)) ∨ (z_49 = 0 ∧ ¬ (-40 ≤ ((u.1 7) (i).toNat) ∧ ((u.1 7) (i).toNat) ≤ 40 ∧ -40 ≤ ((u.1 8) (i).toNat) ∧ ((u.1 8) (i).toNat) ≤ 40)) := h_49
              refine j_if_eq SS (tgt := 59) (x := z_49) dX12_take_52 (by decide) (by omega) (fun c_52 => ?_) (fun c_52 => ?_)
              · skip
                refine j_iconst SS dX12_take_59 ?_
                refine lv_istore_n (lv' := [(3, .int (J 0)), (0, .ref o), (1, .int (J s)), (2, .int (J b)), (4, .int (J i))]) SS.1 SS.2.1 dX12_take_60 rfl hl (by decide) rfl (fun ls hl => ?_)
                refine lv_iinc (v := J (i + 1)) (lv' := [(4, .int (J (i + 1))), (3, .int (J 0)), (0, .ref o), (1, .int (J s)), (2, .int (J b))]) SS.1 SS.2.1 dX12_take_61 hl (k := 4) rfl (J_add _ _) (by decide) rfl (fun ls hl => ?_)
                refine lv_goto (tgt := 18) SS.1 SS.2.1 dX12_take_64 (by decide) ?_
                exact ih_18 0 (i + 1) _ _ hP hS ls (lv_sub hl [2, 3, 4, 1, 0] rfl) (by omega) (by rw [tk_s i18_0.1]; first | (refine Or.inl ⟨rfl, ?_⟩; rcases i18_1 with k | k; exact ⟨k.2, fun _ => by omega⟩; omega) | (refine Or.inr ⟨rfl, ?_⟩; intro k; rcases i18_1 with k2 | k2; have := k.2 (by omega); omega; exact k2.2 k.1)) (by omega)
              · skip
                refine j_iconst SS dX12_take_55 ?_
                refine lv_goto (tgt := 60) SS.1 SS.2.1 dX12_take_56 (by decide) ?_
                refine lv_istore_n (lv' := [(3, .int (J 1)), (0, .ref o), (1, .int (J s)), (2, .int (J b)), (4, .int (J i))]) SS.1 SS.2.1 dX12_take_60 rfl hl (by decide) rfl (fun ls hl => ?_)
                refine lv_iinc (v := J (i + 1)) (lv' := [(4, .int (J (i + 1))), (3, .int (J 1)), (0, .ref o), (1, .int (J s)), (2, .int (J b))]) SS.1 SS.2.1 dX12_take_61 hl (k := 4) rfl (J_add _ _) (by decide) rfl (fun ls hl => ?_)
                refine lv_goto (tgt := 18) SS.1 SS.2.1 dX12_take_64 (by decide) ?_
                exact ih_18 1 (i + 1) _ _ hP hS ls (lv_sub hl [2, 3, 4, 1, 0] rfl) (by omega) (by rw [tk_s i18_0.1]; first | (refine Or.inl ⟨rfl, ?_⟩; rcases i18_1 with k | k; exact ⟨k.2, fun _ => by omega⟩; omega) | (refine Or.inr ⟨rfl, ?_⟩; intro k; rcases i18_1 with k2 | k2; have := k.2 (by omega); omega; exact k2.2 k.1)) (by omega)
    exact L_18 ((u.2.2 9 - (0 : Int)).toNat + 1) 0 0 _ _ hP hS ls (lv_sub hl [2, 3, 4, 1, 0] rfl) (by omega) (by rw [tk_0]; omega) (Nat.lt_succ_self _)
  · skip
    refine j_iconst SS dX12_take_9 ?_
    refine lv_goto (tgt := 14) SS.1 SS.2.1 dX12_take_10 (by decide) ?_
    refine lv_istore_n (lv' := [(3, .int (J 1)), (0, .ref o), (1, .int (J s)), (2, .int (J b))]) SS.1 SS.2.1 dX12_take_14 rfl hl (by decide) rfl (fun ls hl => ?_)
    refine j_iconst SS dX12_take_15 ?_
    refine lv_istore (lv' := [(4, .int (J 0)), (3, .int (J 1)), (0, .ref o), (1, .int (J s)), (2, .int (J b))]) SS.1 SS.2.1 dX12_take_16 hl (by decide) rfl (fun ls hl => ?_)
    have L_18 : ∀ (nn : Nat) (w : Int) (i : Int) (H : Heap) (locs : List Loc) (hP : va_P D.1 j_cl (mW D o q u) H) (hS : va_S A st.heap H locs) (ls : Array Slot) (hl : lv_has ls 5 [(0, .ref o), (1, .int (J s)), (2, .int (J b)), (3, .int (J w)), (4, .int (J i))]) (i18_0 : 0 ≤ i ∧ i ≤ u.2.2 9) (i18_1 : (w = 1 ∧ tk_ok b 40 (u.1 7) (u.1 8) (u.2.2 9) i) ∨ (w = 0 ∧ ¬ tk_ok b 40 (u.1 7) (u.1 8) (u.2.2 9) i)), (u.2.2 9 - i).toNat < nn → W pr l en (headSpec (jw yX12_take cX12_take 5 (some .int)) (jr 2 43)).room st mi (([.ref o, .int (J s), .int (J b)] : List Value).toArray) below meth co H locs 0 0 (MQ below (jWi (fun z u' => ∃ f0 : Nat → Int, ∃ f1 : Nat → Int, ∃ f2 : Nat → Int, ∃ f3 : Nat → Int, u' = (uI (uI (uI (uI u 0 f0) 1 f1) 2 f2) 3 f3) ∧ ((z = -3 ∧ ¬ tk_ok b 40 (u.1 7) (u.1 8) (u.2.2 9) (u.2.2 9) ∧ f0 = u.1 0 ∧ f1 = u.1 1 ∧ f2 = u.1 2 ∧ f3 = u.1 3) ∨ (z = u.2.2 9 ∧ tk_ok b 40 (u.1 7) (u.1 8) (u.2.2 9) (u.2.2 9) ∧ tk_new u f0 f1 f2 f3 s))) (fun u' H => va_P D.1 j_cl (mW D o q u') H) A) (([.ref o, .int (J s), .int (J b)] : List Value).toArray) st 0 0 A) (F0 mi 18 ls []) := by
      intro nn
      induction nn with
      | zero => intros; omega
      | succ nn ih_18 =>
        intro w i  H locs hP hS ls hl i18_0 i18_1 hm
        refine lv_iload SS.1 SS.2.1 dX12_take_18 (lv_at hl 4 rfl) ?_
        refine lv_aload_n SS.1 SS.2.1 dX12_take_20 rfl (lv_at hl 0 rfl) ?_
        refine j_get SS hG hP 0 (v := .int (J (u.2.2 9))) (C := RX12) (T := TX12) (N := 31) rfl rfl inX12 9 (by decide) (ref := RX12) kw_1067 rfl rfl dX12_take_21 ?_
        refine j_icmp_ge SS (tgt := 67) (x := i) (y := (u.2.2 9)) dX12_take_24 (by decide) (by omega) (by omega) (fun c_24 => ?_) (fun c_24 => ?_)
        · skip
          refine lv_iload_n SS.1 SS.2.1 dX12_take_67 rfl (lv_at hl 3 rfl) ?_
          refine j_if_ne SS (tgt := 74) (x := w) dX12_take_68 (by decide) (by omega) (fun c_68 => ?_) (fun c_68 => ?_)
          · skip
            have hok : w = 1 ∧ tk_ok b 40 (u.1 7) (u.1 8) (u.2.2 9) i := by rcases i18_1 with k | k; exact k; omega
            have h24 := hok.2.1
            have ei : i = u.2.2 9 := by omega
            rw [ei] at hok
            refine lv_aload_n SS.1 SS.2.1 dX12_take_74 rfl (lv_at hl 0 rfl) ?_
            refine j_get SS hG hP 0 (v := .ref (q 0)) (C := RX12) (T := TX12) (N := 31) rfl rfl inX12 0 (by decide) (ref := RX12) kw_1058 rfl rfl dX12_take_75 ?_
            refine lv_iload_n SS.1 SS.2.1 dX12_take_78 rfl (lv_at hl 1 rfl) ?_
            refine lv_aload_n SS.1 SS.2.1 dX12_take_79 rfl (lv_at hl 0 rfl) ?_
            refine j_get SS hG hP 0 (v := .int (J (u.2.2 9))) (C := RX12) (T := TX12) (N := 31) rfl rfl inX12 9 (by decide) (ref := RX12) kw_1067 rfl rfl dX12_take_80 ?_
            refine j_iast SS hG hP (mW_D hD) hS 1 (n := 8) (f := (u.1 0)) rfl (z := s) (v := (u.2.2 9)) (by omega) (by omega) dX12_take_83 (ws' := (mW D o q (uI u 0 (upI (u.1 0) (s).toNat (u.2.2 9))))) rfl (fun H locs hP hS => ?_)
            refine j_iconst SS dX12_take_84 ?_
            refine lv_istore (lv' := [(4, .int (J 0)), (0, .ref o), (1, .int (J s)), (2, .int (J b)), (3, .int (J w))]) SS.1 SS.2.1 dX12_take_85 hl (by decide) rfl (fun ls hl => ?_)
            have L_87 : ∀ (nn : Nat) (i2 : Int) (g1 : Nat → Int) (g2 : Nat → Int) (H : Heap) (locs : List Loc) (hP : va_P D.1 j_cl (mW D o q (uI (uI (uI u 0 (upI (u.1 0) (s).toNat (u.2.2 9))) 1 g1) 2 g2)) H) (hS : va_S A st.heap H locs) (ls : Array Slot) (hl : lv_has ls 5 [(0, .ref o), (1, .int (J s)), (4, .int (J i2))]) (i87_0 : 0 ≤ i2 ∧ i2 ≤ u.2.2 9) (i87_1 : cw_ (u.1 7) (u.1 8) g1 g2 (u.1 1) (u.1 2) s i2), (u.2.2 9 - i2).toNat < nn → W pr l en (headSpec (jw yX12_take cX12_take 5 (some .int)) (jr 2 43)).room st mi (([.ref o, .int (J s), .int (J b)] : List Value).toArray) below meth co H locs 0 0 (MQ below (jWi (fun z u' => ∃ f0 : Nat → Int, ∃ f1 : Nat → Int, ∃ f2 : Nat → Int, ∃ f3 : Nat → Int, u' = (uI (uI (uI (uI u 0 f0) 1 f1) 2 f2) 3 f3) ∧ ((z = -3 ∧ ¬ tk_ok b 40 (u.1 7) (u.1 8) (u.2.2 9) (u.2.2 9) ∧ f0 = u.1 0 ∧ f1 = u.1 1 ∧ f2 = u.1 2 ∧ f3 = u.1 3) ∨ (z = u.2.2 9 ∧ tk_ok b 40 (u.1 7) (u.1 8) (u.2.2 9) (u.2.2 9) ∧ tk_new u f0 f1 f2 f3 s))) (fun u' H => va_P D.1 j_cl (mW D o q u') H) A) (([.ref o, .int (J s), .int (J b)] : List Value).toArray) st 0 0 A) (F0 mi 87 ls []) := by
              intro nn
              induction nn with
              | zero => intros; omega
              | succ nn ih_87 =>
                intro i2 g1 g2 H locs hP hS ls hl i87_0 i87_1 hm
                refine lv_iload SS.1 SS.2.1 dX12_take_87 (lv_at hl 2 rfl) ?_
                refine lv_aload_n SS.1 SS.2.1 dX12_take_89 rfl (lv_at hl 0 rfl) ?_
                refine j_get SS hG hP 0 (v := .int (J (u.2.2 9))) (C := RX12) (T := TX12) (N := 31) rfl rfl inX12 9 (by decide) (ref := RX12) kw_1067 rfl rfl dX12_take_90 ?_
                refine j_icmp_ge SS (tgt := 140) (x := i2) (y := (u.2.2 9)) dX12_take_93 (by decide) (by omega) (by omega) (fun c_93 => ?_) (fun c_93 => ?_)
                · skip
                  refine j_iconst SS dX12_take_140 ?_
                  refine lv_istore (lv' := [(4, .int (J 0)), (0, .ref o), (1, .int (J s))]) SS.1 SS.2.1 dX12_take_141 hl (by decide) rfl (fun ls hl => ?_)
                  have L_143 : ∀ (nn : Nat) (i3 : Int) (g3 : Nat → Int) (H : Heap) (locs : List Loc) (hP : va_P D.1 j_cl (mW D o q (uI (uI (uI (uI u 0 (upI (u.1 0) (s).toNat (u.2.2 9))) 1 g1) 2 g2) 3 g3)) H) (hS : va_S A st.heap H locs) (ls : Array Slot) (hl : lv_has ls 5 [(0, .ref o), (1, .int (J s)), (4, .int (J i3))]) (i143_0 : 0 ≤ i3 ∧ i3 ≤ 40) (i143_1 : hz_ (u.1 3) g3 s i3), ((40 : Int) - i3).toNat < nn → W pr l en (headSpec (jw yX12_take cX12_take 5 (some .int)) (jr 2 43)).room st mi (([.ref o, .int (J s), .int (J b)] : List Value).toArray) below meth co H locs 0 0 (MQ below (jWi (fun z u' => ∃ f0 : Nat → Int, ∃ f1 : Nat → Int, ∃ f2 : Nat → Int, ∃ f3 : Nat → Int, u' = (uI (uI (uI (uI u 0 f0) 1 f1) 2 f2) 3 f3) ∧ ((z = -3 ∧ ¬ tk_ok b 40 (u.1 7) (u.1 8) (u.2.2 9) (u.2.2 9) ∧ f0 = u.1 0 ∧ f1 = u.1 1 ∧ f2 = u.1 2 ∧ f3 = u.1 3) ∨ (z = u.2.2 9 ∧ tk_ok b 40 (u.1 7) (u.1 8) (u.2.2 9) (u.2.2 9) ∧ tk_new u f0 f1 f2 f3 s))) (fun u' H => va_P D.1 j_cl (mW D o q u') H) A) (([.ref o, .int (J s), .int (J b)] : List Value).toArray) st 0 0 A) (F0 mi 143 ls []) := by
                    intro nn
                    induction nn with
                    | zero => intros; omega
                    | succ nn ih_143 =>
                      intro i3 g3 H locs hP hS ls hl i143_0 i143_1 hm
                      refine lv_iload SS.1 SS.2.1 dX12_take_143 (lv_at hl 2 rfl) ?_
                      refine j_bipush SS dX12_take_145 (by decide +kernel) ?_
                      refine j_icmp_ge SS (tgt := 169) (x := i3) (y := 40) dX12_take_147 (by decide) (by omega) (by decide) (fun c_147 => ?_) (fun c_147 => ?_)
                      · skip
                        refine lv_aload_n SS.1 SS.2.1 dX12_take_169 rfl (lv_at hl 0 rfl) ?_
                        refine j_get SS hG hP 0 (v := .int (J (u.2.2 9))) (C := RX12) (T := TX12) (N := 31) rfl rfl inX12 9 (by decide) (ref := RX12) kw_1067 rfl rfl dX12_take_170 ?_
                        exact W.iret SS.1 SS.2.1 hr (fun t ht hW => ⟨⟨_, (uI (uI (uI (uI u 0 (upI (u.1 0) (s).toNat (u.2.2 9))) 1 g1) 2 g2) 3 g3), rfl, ⟨(u.2.2 9), rfl, (⟨(upI (u.1 0) (s).toNat (u.2.2 9)), g1, g2, g3, rfl, Or.inr ⟨rfl, hok.2, rfl, by rw [show i2 = u.2.2 9 by omega] at i87_1; exact i87_1, by rw [show i3 = 40 by omega] at i143_1; exact i143_1⟩⟩)⟩, by show va_P D.1 j_cl (mW D o q (uI (uI (uI (uI u 0 (upI (u.1 0) (s).toNat (u.2.2 9))) 1 g1) 2 g2) 3 g3)) t.heap; rw [ht]; exact hP⟩, hS.F ht⟩) hS.2.2 dX12_take_173 hlk
                      · skip
                        refine lv_aload_n SS.1 SS.2.1 dX12_take_150 rfl (lv_at hl 0 rfl) ?_
                        refine j_get SS hG hP 0 (v := .ref (q 3)) (C := RX12) (T := TX12) (N := 31) rfl rfl inX12 3 (by decide) (ref := RX12) kw_1061 rfl rfl dX12_take_151 ?_
                        refine j_bipush SS dX12_take_154 (by decide +kernel) ?_
                        refine lv_iload_n SS.1 SS.2.1 dX12_take_156 rfl (lv_at hl 1 rfl) ?_
                        refine j_imul SS (x := 40) (y := s) dX12_take_157 ?_
                        refine lv_iload SS.1 SS.2.1 dX12_take_158 (lv_at hl 2 rfl) ?_
                        refine j_iadd SS (x := (40 * s)) (y := i3) dX12_take_160 ?_
                        refine j_iconst SS dX12_take_161 ?_
                        refine j_iast SS hG hP (mW_D hD) hS 4 (n := 320) (f := g3) rfl (z := ((40 * s) + i3)) (v := 0) (by omega) (by omega) dX12_take_162 (ws' := (mW D o q (uI (uI (uI (uI u 0 (upI (u.1 0) (s).toNat (u.2.2 9))) 1 g1) 2 g2) 3 (upI g3 (((40 * s) + i3)).toNat 0)))) rfl (fun H locs hP hS => ?_)
                        refine lv_iinc (v := J (i3 + 1)) (lv' := [(4, .int (J (i3 + 1))), (0, .ref o), (1, .int (J s))]) SS.1 SS.2.1 dX12_take_163 hl (k := 2) rfl (J_add _ _) (by decide) rfl (fun ls hl => ?_)
                        refine lv_goto (tgt := 143) SS.1 SS.2.1 dX12_take_166 (by decide) ?_
                        exact ih_143 (i3 + 1) (upI g3 (((40 * s) + i3)).toNat 0) _ _ hP hS ls (lv_sub hl [1, 2, 0] rfl) (by omega) (by first | exact hz_0 | exact hz_s p0.1 (by omega) i143_1) (by omega)
                  exact L_143 (((40 : Int) - (0 : Int)).toNat + 1) 0 (u.1 3) _ _ hP hS ls (lv_sub hl [1, 2, 0] rfl) (by omega) (by first | exact hz_0 | exact hz_s p0.1 (by omega) i143_1) (Nat.lt_succ_self _)
                · skip
                  refine lv_aload_n SS.1 SS.2.1 dX12_take_96 rfl (lv_at hl 0 rfl) ?_
                  refine j_get SS hG hP 0 (v := .ref (q 1)) (C := RX12) (T := TX12) (N := 31) rfl rfl inX12 1 (by decide) (ref := RX12) kw_1059 rfl rfl dX12_take_97 ?_
                  refine j_bipush SS dX12_take_100 (by decide +kernel) ?_
                  refine lv_iload_n SS.1 SS.2.1 dX12_take_102 rfl (lv_at hl 1 rfl) ?_
                  refine j_imul SS (x := 24) (y := s) dX12_take_103 ?_
                  refine lv_iload SS.1 SS.2.1 dX12_take_104 (lv_at hl 2 rfl) ?_
                  refine j_iadd SS (x := (24 * s)) (y := i2) dX12_take_106 ?_
                  refine lv_aload_n SS.1 SS.2.1 dX12_take_107 rfl (lv_at hl 0 rfl) ?_
                  refine j_get SS hG hP 0 (v := .ref (q 7)) (C := RX12) (T := TX12) (N := 31) rfl rfl inX12 7 (by decide) (ref := RX12) kw_1065 rfl rfl dX12_take_108 ?_
                  refine lv_iload SS.1 SS.2.1 dX12_take_111 (lv_at hl 2 rfl) ?_
                  refine j_iald SS hG hP 7 (n := 1300) (f := (u.1 7)) rfl (z := i2) (by omega) (by omega) dX12_take_113 ?_
                  refine j_iast SS hG hP (mW_D hD) hS 2 (n := 192) (f := g1) rfl (z := ((24 * s) + i2)) (v := ((u.1 7) (i2).toNat)) (by omega) (by omega) dX12_take_114 (ws' := (mW D o q (uI (uI (uI u 0 (upI (u.1 0) (s).toNat (u.2.2 9))) 1 (upI g1 (((24 * s) + i2)).toNat ((u.1 7) (i2).toNat))) 2 g2))) rfl (fun H locs hP hS => ?_)
                  refine lv_aload_n SS.1 SS.2.1 dX12_take_115 rfl (lv_at hl 0 rfl) ?_
                  refine j_get SS hG hP 0 (v := .ref (q 2)) (C := RX12) (T := TX12) (N := 31) rfl rfl inX12 2 (by decide) (ref := RX12) kw_1060 rfl rfl dX12_take_116 ?_
                  refine j_bipush SS dX12_take_119 (by decide +kernel) ?_
                  refine lv_iload_n SS.1 SS.2.1 dX12_take_121 rfl (lv_at hl 1 rfl) ?_
                  refine j_imul SS (x := 24) (y := s) dX12_take_122 ?_
                  refine lv_iload SS.1 SS.2.1 dX12_take_123 (lv_at hl 2 rfl) ?_
                  refine j_iadd SS (x := (24 * s)) (y := i2) dX12_take_125 ?_
                  refine lv_aload_n SS.1 SS.2.1 dX12_take_126 rfl (lv_at hl 0 rfl) ?_
                  refine j_get SS hG hP 0 (v := .ref (q 8)) (C := RX12) (T := TX12) (N := 31) rfl rfl inX12 8 (by decide) (ref := RX12) kw_1066 rfl rfl dX12_take_127 ?_
                  refine lv_iload SS.1 SS.2.1 dX12_take_130 (lv_at hl 2 rfl) ?_
                  refine j_iald SS hG hP 8 (n := 1300) (f := (u.1 8)) rfl (z := i2) (by omega) (by omega) dX12_take_132 ?_
                  refine j_iast SS hG hP (mW_D hD) hS 3 (n := 192) (f := g2) rfl (z := ((24 * s) + i2)) (v := ((u.1 8) (i2).toNat)) (by omega) (by omega) dX12_take_133 (ws' := (mW D o q (uI (uI (uI u 0 (upI (u.1 0) (s).toNat (u.2.2 9))) 1 (upI g1 (((24 * s) + i2)).toNat ((u.1 7) (i2).toNat))) 2 (upI g2 (((24 * s) + i2)).toNat ((u.1 8) (i2).toNat))))) rfl (fun H locs hP hS => ?_)
                  refine lv_iinc (v := J (i2 + 1)) (lv' := [(4, .int (J (i2 + 1))), (0, .ref o), (1, .int (J s))]) SS.1 SS.2.1 dX12_take_134 hl (k := 2) rfl (J_add _ _) (by decide) rfl (fun ls hl => ?_)
                  refine lv_goto (tgt := 87) SS.1 SS.2.1 dX12_take_137 (by decide) ?_
                  exact ih_87 (i2 + 1) (upI g1 (((24 * s) + i2)).toNat ((u.1 7) (i2).toNat)) (upI g2 (((24 * s) + i2)).toNat ((u.1 8) (i2).toNat)) _ _ hP hS ls (lv_sub hl [1, 2, 0] rfl) (by omega) (cw_s p0.1 i87_0.1 i87_1) (by omega)
            exact L_87 ((u.2.2 9 - (0 : Int)).toNat + 1) 0 (u.1 1) (u.1 2) _ _ hP hS ls (lv_sub hl [1, 2, 0] rfl) (by omega) (cw_0) (Nat.lt_succ_self _)
          · skip
            refine j_bipush SS dX12_take_71 (by decide +kernel) ?_
            exact W.iret SS.1 SS.2.1 hr (fun t ht hW => ⟨⟨_, (uI (uI (uI (uI u 0 (u.1 0)) 1 (u.1 1)) 2 (u.1 2)) 3 (u.1 3)), rfl, ⟨(-3), rfl, (⟨(u.1 0), (u.1 1), (u.1 2), (u.1 3), rfl, Or.inl ⟨rfl, by rcases i18_1 with k | k; omega; rw [show i = u.2.2 9 by omega] at k; exact k.2, rfl, rfl, rfl, rfl⟩⟩)⟩, by show va_P D.1 j_cl (mW D o q (uI (uI (uI (uI u 0 (u.1 0)) 1 (u.1 1)) 2 (u.1 2)) 3 (u.1 3))) t.heap; rw [ht]; exact hP⟩, hS.F ht⟩) hS.2.2 dX12_take_73 hlk
        · skip
          refine lv_iload_n SS.1 SS.2.1 dX12_take_27 rfl (lv_at hl 3 rfl) ?_
          refine j_if_eq SS (tgt := 59) (x := w) dX12_take_28 (by decide) (by omega) (fun c_28 => ?_) (fun c_28 => ?_)
          · skip
            refine j_iconst SS dX12_take_59 ?_
            refine lv_istore_n (lv' := [(3, .int (J 0)), (0, .ref o), (1, .int (J s)), (2, .int (J b)), (4, .int (J i))]) SS.1 SS.2.1 dX12_take_60 rfl hl (by decide) rfl (fun ls hl => ?_)
            refine lv_iinc (v := J (i + 1)) (lv' := [(4, .int (J (i + 1))), (3, .int (J 0)), (0, .ref o), (1, .int (J s)), (2, .int (J b))]) SS.1 SS.2.1 dX12_take_61 hl (k := 4) rfl (J_add _ _) (by decide) rfl (fun ls hl => ?_)
            refine lv_goto (tgt := 18) SS.1 SS.2.1 dX12_take_64 (by decide) ?_
            exact ih_18 0 (i + 1) _ _ hP hS ls (lv_sub hl [2, 3, 4, 1, 0] rfl) (by omega) (by rw [tk_s i18_0.1]; first | (refine Or.inl ⟨rfl, ?_⟩; rcases i18_1 with k | k; exact ⟨k.2, fun _ => by omega⟩; omega) | (refine Or.inr ⟨rfl, ?_⟩; intro k; rcases i18_1 with k2 | k2; have := k.2 (by omega); omega; exact k2.2 k.1)) (by omega)
          · skip
            refine lv_iload_n SS.1 SS.2.1 dX12_take_31 rfl (lv_at hl 2 rfl) ?_
            refine j_if_eq SS (tgt := 55) (x := b) dX12_take_32 (by decide) (by omega) (fun c_32 => ?_) (fun c_32 => ?_)
            · skip
              refine j_iconst SS dX12_take_55 ?_
              refine lv_goto (tgt := 60) SS.1 SS.2.1 dX12_take_56 (by decide) ?_
              refine lv_istore_n (lv' := [(3, .int (J 1)), (0, .ref o), (1, .int (J s)), (2, .int (J b)), (4, .int (J i))]) SS.1 SS.2.1 dX12_take_60 rfl hl (by decide) rfl (fun ls hl => ?_)
              refine lv_iinc (v := J (i + 1)) (lv' := [(4, .int (J (i + 1))), (3, .int (J 1)), (0, .ref o), (1, .int (J s)), (2, .int (J b))]) SS.1 SS.2.1 dX12_take_61 hl (k := 4) rfl (J_add _ _) (by decide) rfl (fun ls hl => ?_)
              refine lv_goto (tgt := 18) SS.1 SS.2.1 dX12_take_64 (by decide) ?_
              exact ih_18 1 (i + 1) _ _ hP hS ls (lv_sub hl [2, 3, 4, 1, 0] rfl) (by omega) (by rw [tk_s i18_0.1]; first | (refine Or.inl ⟨rfl, ?_⟩; rcases i18_1 with k | k; exact ⟨k.2, fun _ => by omega⟩; omega) | (refine Or.inr ⟨rfl, ?_⟩; intro k; rcases i18_1 with k2 | k2; have := k.2 (by omega); omega; exact k2.2 k.1)) (by omega)
            · skip
              refine lv_aload_n SS.1 SS.2.1 dX12_take_35 rfl (lv_at hl 0 rfl) ?_
              refine j_get SS hG hP 0 (v := .ref (q 7)) (C := RX12) (T := TX12) (N := 31) rfl rfl inX12 7 (by decide) (ref := RX12) kw_1065 rfl rfl dX12_take_36 ?_
              refine lv_iload SS.1 SS.2.1 dX12_take_39 (lv_at hl 4 rfl) ?_
              refine j_iald SS hG hP 7 (n := 1300) (f := (u.1 7)) rfl (z := i) (by omega) (by omega) dX12_take_41 ?_
              refine lv_aload_n SS.1 SS.2.1 dX12_take_42 rfl (lv_at hl 0 rfl) ?_
              refine j_get SS hG hP 0 (v := .ref (q 8)) (C := RX12) (T := TX12) (N := 31) rfl rfl inX12 8 (by decide) (ref := RX12) kw_1066 rfl rfl dX12_take_43 ?_
              refine lv_iload SS.1 SS.2.1 dX12_take_46 (lv_at hl 4 rfl) ?_
              refine j_iald SS hG hP 8 (n := 1300) (f := (u.1 8)) rfl (z := i) (by omega) (by omega) dX12_take_48 ?_
              have q := bd_at p3 (z := i) (by omega) (by omega)
              refine j_sRi SS (As := [.int (J ((u.1 7) (i).toNat)), .int (J ((u.1 8) (i).toNat))]) (rest := []) (c_X12_isPlace l D ((u.1 7) (i).toNat) ((u.1 8) (i).toNat) (show -2147483648 ≤ ((u.1 7) (i).toNat) ∧ ((u.1 7) (i).toNat) ≤ 2147483647 from (by omega)) (show -2147483648 ≤ ((u.1 8) (i).toNat) ∧ ((u.1 8) (i).toNat) ≤ 2147483647 from (by omega))) mf_X12_isPlace kw_1166 hG trivial rfl hl.1 ⟨⟨Nat.le_of_ble_eq_true rfl, Nat.le_of_ble_eq_true rfl⟩, Nat.le_of_ble_eq_true rfl, Nat.le_refl _, Nat.le_refl _⟩ rfl dX12_take_49 (fun z_49 h_49 => ?_)
              have h_49 : (z_49 = 1 ∧ (-40 ≤ ((u.1 7) (i).toNat) ∧ ((u.1 7) (i).toNat) ≤ 40 ∧ -40 ≤ ((u.1 8) (i).toNat) ∧ ((u.1 8) (i).toNat) ≤ 40)) ∨ (z_49 = 0 ∧ ¬ (-40 ≤ ((u.1 7) (i).toNat) ∧ ((u.1 7) (i).toNat) ≤ 40 ∧ -40 ≤ ((u.1 8) (i).toNat) ∧ ((u.1 8) (i).toNat) ≤ 40)) := h_49
              refine j_if_eq SS (tgt := 59) (x := z_49) dX12_take_52 (by decide) (by omega) (fun c_52 => ?_) (fun c_52 => ?_)
              · skip
                refine j_iconst SS dX12_take_59 ?_
                refine lv_istore_n (lv' := [(3, .int (J 0)), (0, .ref o), (1, .int (J s)), (2, .int (J b)), (4, .int (J i))]) SS.1 SS.2.1 dX12_take_60 rfl hl (by decide) rfl (fun ls hl => ?_)
                refine lv_iinc (v := J (i + 1)) (lv' := [(4, .int (J (i + 1))), (3, .int (J 0)), (0, .ref o), (1, .int (J s)), (2, .int (J b))]) SS.1 SS.2.1 dX12_take_61 hl (k := 4) rfl (J_add _ _) (by decide) rfl (fun ls hl => ?_)
                refine lv_goto (tgt := 18) SS.1 SS.2.1 dX12_take_64 (by decide) ?_
                exact ih_18 0 (i + 1) _ _ hP hS ls (lv_sub hl [2, 3, 4, 1, 0] rfl) (by omega) (by rw [tk_s i18_0.1]; first | (refine Or.inl ⟨rfl, ?_⟩; rcases i18_1 with k | k; exact ⟨k.2, fun _ => by omega⟩; omega) | (refine Or.inr ⟨rfl, ?_⟩; intro k; rcases i18_1 with k2 | k2; have := k.2 (by omega); omega; exact k2.2 k.1)) (by omega)
              · skip
                refine j_iconst SS dX12_take_55 ?_
                refine lv_goto (tgt := 60) SS.1 SS.2.1 dX12_take_56 (by decide) ?_
                refine lv_istore_n (lv' := [(3, .int (J 1)), (0, .ref o), (1, .int (J s)), (2, .int (J b)), (4, .int (J i))]) SS.1 SS.2.1 dX12_take_60 rfl hl (by decide) rfl (fun ls hl => ?_)
                refine lv_iinc (v := J (i + 1)) (lv' := [(4, .int (J (i + 1))), (3, .int (J 1)), (0, .ref o), (1, .int (J s)), (2, .int (J b))]) SS.1 SS.2.1 dX12_take_61 hl (k := 4) rfl (J_add _ _) (by decide) rfl (fun ls hl => ?_)
                refine lv_goto (tgt := 18) SS.1 SS.2.1 dX12_take_64 (by decide) ?_
                exact ih_18 1 (i + 1) _ _ hP hS ls (lv_sub hl [2, 3, 4, 1, 0] rfl) (by omega) (by rw [tk_s i18_0.1]; first | (refine Or.inl ⟨rfl, ?_⟩; rcases i18_1 with k | k; exact ⟨k.2, fun _ => by omega⟩; omega) | (refine Or.inr ⟨rfl, ?_⟩; intro k; rcases i18_1 with k2 | k2; have := k.2 (by omega); omega; exact k2.2 k.1)) (by omega)
    exact L_18 ((u.2.2 9 - (0 : Int)).toNat + 1) 1 0 _ _ hP hS ls (lv_sub hl [2, 3, 4, 1, 0] rfl) (by omega) (by rw [tk_0]; omega) (Nat.lt_succ_self _)

set_option maxHeartbeats 4000000 in
set_option maxRecDepth 100000 in
theorem c_X12_clear (l : Launch) (D : JD) (o : Nat) (q : Nat → Nat) (u : MS) (A : Nat → Prop) (hD : va_D A (mW D o q u)) (s : Int) (p0 : IM u) (p1 : -2147483648 ≤ s ∧ s ≤ 2147483647) : Met l yX12_clear (jw yX12_clear cX12_clear 4 (some .int)) (jr 3 67) (jP [.ref o, .int (J s)] D (fun H => va_P D.1 j_cl (mW D o q u) H)) (jWi (fun z u' => ∃ f0 : Nat → Int, ∃ f1 : Nat → Int, ∃ f2 : Nat → Int, ∃ f3 : Nat → Int, ∃ nh : Int, u' = (uV (uI (uI (uI (uI u 0 f0) 1 f1) 2 f2) 3 f3) 9 nh) ∧ (((0 ≤ s ∧ s ≤ 7) ∧ z = mN u s ∨ ¬ (0 ≤ s ∧ s ≤ 7) ∧ z = -1) ∧ IM u')) (fun u' H => va_P D.1 j_cl (mW D o q u') H) A) 0 0 A := by
  refine Met.ofW (cc := cX12_clear) (maxL := 4) (ret := (some .int)) (by decide) rfl ?_
  intro pr en st mi args below meth co s₁ B hml hv
  obtain ⟨rfl, hG, hP⟩ := hv
  have hr := B.returns
  have hlk := B.notSynchronized
  have SS : jS pr mi co cX12_clear 4 st _ RX12 := ⟨B.exec, B.bytes, hml, findClass_of_methodNamed B.named, fun w hw => atoms_spec (ws := (jw yX12_clear cX12_clear 4 (some .int))) B.pre w (List.mem_cons_of_mem _ hw)⟩
  have hl := lv_entry ([.ref o, .int (J s)]) (n := 4) (Nat.le_of_ble_eq_true rfl)
  rw [lg_entry_eq]
  generalize (lg_sl ([.ref o, .int (J s)]) ++ List.replicate (4 - (lg_sl ([.ref o, .int (J s)])).length) Slot.unset).toArray = ls at hl ⊢
  have hl : lv_has ls 4 [(0, .ref o), (1, .int (J s))] := hl
  have hS : va_S A st.heap st.heap [] := va_S.rf
  refine lv_iload_n SS.1 SS.2.1 dX12_clear_0 rfl (lv_at hl 1 rfl) ?_
  refine j_sRi SS (As := [.int (J s)]) (rest := []) (c_X12_isShape l D s (show -2147483648 ≤ s ∧ s ≤ 2147483647 from (by omega))) mf_X12_isShape kw_1156 hG trivial rfl hl.1 ⟨⟨Nat.le_of_ble_eq_true rfl, Nat.le_of_ble_eq_true rfl⟩, Nat.le_of_ble_eq_true rfl, Nat.le_refl _, Nat.le_refl _⟩ rfl dX12_clear_1 (fun z_1 h_1 => ?_)
  have h_1 : (z_1 = 1 ∧ (0 ≤ s ∧ s ≤ 7)) ∨ (z_1 = 0 ∧ ¬ (0 ≤ s ∧ s ≤ 7)) := h_1
  refine j_if_ne SS (tgt := 9) (x := z_1) dX12_clear_4 (by decide) (by omega) (fun c_4 => ?_) (fun c_4 => ?_)
  · skip
    have hs : 0 ≤ s ∧ s ≤ 7 := by omega
    obtain ⟨hN, _, _⟩ := p0.1 s hs.1 hs.2
    refine lv_aload_n SS.1 SS.2.1 dX12_clear_9 rfl (lv_at hl 0 rfl) ?_
    refine j_get SS hG hP 0 (v := .ref (q 0)) (C := RX12) (T := TX12) (N := 31) rfl rfl inX12 0 (by decide) (ref := RX12) kw_1058 rfl rfl dX12_clear_10 ?_
    refine lv_iload_n SS.1 SS.2.1 dX12_clear_13 rfl (lv_at hl 1 rfl) ?_
    refine j_iald SS hG hP 1 (n := 8) (f := (u.1 0)) rfl (z := s) (by omega) (by omega) dX12_clear_14 ?_
    refine lv_istore_n (lv' := [(2, .int (J (mN u s))), (0, .ref o), (1, .int (J s))]) SS.1 SS.2.1 dX12_clear_15 rfl hl (by decide) rfl (fun ls hl => ?_)
    refine lv_aload_n SS.1 SS.2.1 dX12_clear_16 rfl (lv_at hl 1 rfl) ?_
    refine j_iconst SS dX12_clear_17 ?_
    refine j_put SS hG hP (mW_D hD) hS 0 (v := .int (J 0)) (ty := .int) (C := RX12) (T := TX12) (N := 31) rfl rfl inX12 tyX12 tyX12_ok nmX12 9 (by decide) (ref := RX12) kw_1067 rfl rfl (by decide +kernel) rfl rfl (Nat.le_of_ble_eq_true rfl) dX12_clear_18 (ws' := (mW D o q (uV u 9 0))) rfl (fun H locs hP hS => ?_)
    refine lv_aload_n SS.1 SS.2.1 dX12_clear_21 rfl (lv_at hl 1 rfl) ?_
    refine lv_iload_n SS.1 SS.2.1 dX12_clear_22 rfl (lv_at hl 2 rfl) ?_
    refine j_iconst SS dX12_clear_23 ?_
    refine j_vWi SS (As := [.int (J s), .int (J 0)]) (rest := []) (c_X12_take l D o q (uV u 9 0) A (mW_D hD) s 0 (show 0 ≤ s ∧ s ≤ 7 from (by omega)) (show (0 : Int) = 0 ∨ (0 : Int) = 1 from (by omega)) (show 0 ≤ 0 ∧ 0 ≤ 1290 from (by omega)) (show bd 10000 ((u.1 7)) ((u.1 8)) (0) from (fun a ha => by omega))) mf_X12_take kw_1162 hG hP hP (ci := 8) (q0 := 0) rfl rfl rfl hS (fun _ h => h) rfl hl.1 ⟨⟨Nat.le_of_ble_eq_true rfl, Nat.le_of_ble_eq_true rfl⟩, Nat.le_of_ble_eq_true rfl, Nat.le_refl _, Nat.le_refl _⟩ rfl dX12_clear_24 (fun z_24 u24 H locs h_24 hP _ hS => ?_)
    obtain ⟨f0_24, f1_24, f2_24, f3_24, rfl, h_24⟩ := h_24
    have hP : va_P D.1 j_cl (mW D o q (uV (uI (uI (uI (uI u 0 f0_24) 1 f1_24) 2 f2_24) 3 f3_24) 9 0)) H := hP
    have h_24 : (z_24 = -3 ∧ ¬ tk_ok (0 : Int) 40 ((u.1 7)) ((u.1 8)) (0) (0) ∧ f0_24 = (u.1 0) ∧ f1_24 = (u.1 1) ∧ f2_24 = (u.1 2) ∧ f3_24 = (u.1 3)) ∨ (z_24 = 0 ∧ tk_ok (0 : Int) 40 ((u.1 7)) ((u.1 8)) (0) (0) ∧ tk_new (uV u 9 0) f0_24 f1_24 f2_24 f3_24 s) := h_24
    have hz : z_24 = 0 ∧ tk_new (uV u 9 0) f0_24 f1_24 f2_24 f3_24 s := by rcases h_24 with k | k; exact absurd (tk_0.mpr (by omega)) k.2.1; exact ⟨k.1, k.2.2⟩
    refine lv_istore_n (lv' := [(3, .int (J z_24)), (2, .int (J (mN u s))), (0, .ref o), (1, .int (J s))]) SS.1 SS.2.1 dX12_clear_27 rfl hl (by decide) rfl (fun ls hl => ?_)
    refine lv_iload_n SS.1 SS.2.1 dX12_clear_28 rfl (lv_at hl 1 rfl) ?_
    refine lv_iload_n SS.1 SS.2.1 dX12_clear_29 rfl (lv_at hl 0 rfl) ?_
    refine j_iadd SS (x := (mN u s)) (y := z_24) dX12_clear_30 ?_
    exact W.iret SS.1 SS.2.1 hr (fun t ht hW => ⟨⟨_, (uV (uI (uI (uI (uI u 0 f0_24) 1 f1_24) 2 f2_24) 3 f3_24) 9 0), rfl, ⟨((mN u s) + z_24), rfl, (⟨f0_24, f1_24, f2_24, f3_24, 0, rfl, ⟨Or.inl ⟨hs, by omega⟩, IM_new (u := uV u 9 0) p0 hs.1 hs.2 (by show (0:Int) ≤ 0 ∧ (0:Int) ≤ 24; omega) (fun a ha => by have : (a : Int) < 0 := ha; omega) (Or.inl (by show (0:Int) ≤ 1; omega)) hz.2⟩⟩)⟩, by show va_P D.1 j_cl (mW D o q (uV (uI (uI (uI (uI u 0 f0_24) 1 f1_24) 2 f2_24) 3 f3_24) 9 0)) t.heap; rw [ht]; exact hP⟩, hS.F ht⟩) hS.2.2 dX12_clear_31 hlk
  · skip
    refine j_iconst SS dX12_clear_7 ?_
    exact W.iret SS.1 SS.2.1 hr (fun t ht hW => ⟨⟨_, (uV (uI (uI (uI (uI u 0 (u.1 0)) 1 (u.1 1)) 2 (u.1 2)) 3 (u.1 3)) 9 (u.2.2 9)), rfl, ⟨(-1), rfl, (⟨(u.1 0), (u.1 1), (u.1 2), (u.1 3), (u.2.2 9), rfl, ⟨by omega, p0⟩⟩)⟩, by show va_P D.1 j_cl (mW D o q (uV (uI (uI (uI (uI u 0 (u.1 0)) 1 (u.1 1)) 2 (u.1 2)) 3 (u.1 3)) 9 (u.2.2 9))) t.heap; rw [ht]; exact hP⟩, hS.F ht⟩) hS.2.2 dX12_clear_8 hlk
