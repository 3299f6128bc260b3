
def LU (u : MS) (s lo hi : Int) (L U : Int → Int) : Prop := (∀ x y z : Int, lo ≤ x → x ≤ hi → wR u s x y z → 0 < z → L x ≤ y ∧ y ≤ U x) ∧ ∀ x : Int, lo ≤ x → x ≤ hi → L x ≤ U x + 1
def cb_ (L U : Int → Int) (lo n : Int) : Int := smI (fun k => U (lo + k) + 1 - L (lo + k)) n
theorem cb_0 {L U : Int → Int} {lo : Int} : cb_ L U lo 0 = 0 := rfl
theorem cb_s {L U : Int → Int} {lo x : Int} (h : lo ≤ x) : cb_ L U lo (x + 1 - lo) = cb_ L U lo (x - lo) + (U x + 1 - L x) := by
  unfold cb_
  rw [show x + 1 - lo = (x - lo) + 1 by omega, smI_s (by omega)]
  show _ + (U (lo + (x - lo)) + 1 - L (lo + (x - lo))) = _
  rw [show lo + (x - lo) = x by omega]
theorem os_no {f g : Nat → Int} {n x y : Int} (h : os_s f g n) (h2 : ∀ a : Nat, (a : Int) < n → lt2 (f a) (g a) x y) : os_s f g n ∧ ∀ a : Nat, (a : Int) < n → lt2 (f a) (g a) x (y + 1) :=
  ⟨h, fun a ha => by have q := h2 a ha; unfold lt2 at *; omega⟩
theorem os_put {f g : Nat → Int} {n x y : Int} (h0 : 0 ≤ n) (h : os_s f g n) (h2 : ∀ a : Nat, (a : Int) < n → lt2 (f a) (g a) x y) : os_s (upI f n.toNat x) (upI g n.toNat y) (n + 1) ∧ ∀ a : Nat, (a : Int) < n + 1 → lt2 (upI f n.toNat x a) (upI g n.toNat y a) x (y + 1) := by
  refine ⟨fun a ha => ?_, fun a ha => ?_⟩
  · by_cases e : (a : Int) + 1 = n
    · rw [show a + 1 = n.toNat by omega, upI_s, upI_s, upI_n (by omega), upI_n (by omega)]
      exact h2 a (by omega)
    · rw [upI_n (by omega), upI_n (by omega), upI_n (by omega), upI_n (by omega)]
      exact h a (by omega)
  · by_cases e : (a : Int) = n
    · rw [show a = n.toNat by omega, upI_s, upI_s]; unfold lt2; omega
    · rw [upI_n (by omega), upI_n (by omega)]
      have q := h2 a (by omega)
      unfold lt2 at *; omega
def fa_in (u : MS) (s i lx hx ly hy : Int) : Prop := ((i = 0 ∧ lx = 1000 ∧ hx = -1000 ∧ ly = 1000 ∧ hy = -1000) ∨ (0 < i ∧ -40 ≤ lx ∧ lx ≤ 40 ∧ -40 ≤ hx ∧ hx ≤ 40 ∧ -40 ≤ ly ∧ ly ≤ 40 ∧ -40 ≤ hy ∧ hy ≤ 40)) ∧ (∀ k : Int, 0 ≤ k → k < i → lx ≤ mX u s k ∧ mX u s k ≤ hx) ∧ (0 < i → (∃ k : Int, 0 ≤ k ∧ k < i ∧ mX u s k = lx) ∧ ∃ k : Int, 0 ≤ k ∧ k < i ∧ mX u s k = hx)
theorem fa_s {u : MS} {s i lx hx ly hy a b c d : Int} (hb : (-40 ≤ mX u s i ∧ mX u s i ≤ 40) ∧ (-40 ≤ mY u s i ∧ mY u s i ≤ 40)) (hi : 0 ≤ i) (h : fa_in u s i lx hx ly hy) (ha : (a = lx ∨ a = mX u s i) ∧ a ≤ lx ∧ a ≤ mX u s i) (hbb : (b = hx ∨ b = mX u s i) ∧ hx ≤ b ∧ mX u s i ≤ b) (hc : (c = ly ∨ c = mY u s i) ∧ c ≤ ly ∧ c ≤ mY u s i) (hd : (d = hy ∨ d = mY u s i) ∧ hy ≤ d ∧ mY u s i ≤ d) : fa_in u s (i + 1) a b c d := by
  obtain ⟨h1, h2, h3⟩ := h
  refine ⟨Or.inr (by clear h2 h3; omega), fun k k1 k2 => ?_, fun _ => ⟨?_, ?_⟩⟩
  · by_cases e : k = i
    · subst e; clear h2 h3; omega
    · have := h2 k k1 (by omega); clear h2 h3; omega
  · rcases ha.1 with e | e
    · by_cases hp : 0 < i
      · obtain ⟨⟨k, k1, k2, k3⟩, _⟩ := h3 hp; exact ⟨k, k1, by omega, by omega⟩
      · omega
    · exact ⟨i, hi, by omega, e.symm⟩
  · rcases hbb.1 with e | e
    · by_cases hp : 0 < i
      · obtain ⟨_, ⟨k, k1, k2, k3⟩⟩ := h3 hp; exact ⟨k, k1, by omega, by omega⟩
      · omega
    · exact ⟨i, hi, by omega, e.symm⟩

set_option maxHeartbeats 4000000 in
set_option maxRecDepth 100000 in
theorem c_X12_findAll (l : Launch) (D : JD) (o : Nat) (q : Nat → Nat) (u : MS) (A : Nat → Prop) (hD : va_D A (mW D o q u)) (s : Int) (p0 : 0 ≤ s ∧ s ≤ 7) (p1 : Sh u s) : Met l yX12_findAll (jw yX12_findAll cX12_findAll 8 none) (jr 2 51) (jP [.ref o, .int (J s)] D (fun H => va_P D.1 j_cl (mW D o q u) H)) (jWv (fun u' => ∃ X : Nat → Int, ∃ Y : Nat → Int, ∃ n : Int, ∃ lo : Int, ∃ hi : Int, u' = (uV (uI (uI u 10 X) 11 Y) 12 n) ∧ (0 ≤ n ∧ n ≤ 6561 ∧ bd 40 X Y n ∧ os_s X Y n ∧ (bd 40 (u.1 10) (u.1 11) 6561 → bd 40 X Y 6561) ∧ (0 < mN u s → (∀ k : Int, 0 ≤ k → k < mN u s → lo ≤ mX u s k ∧ mX u s k ≤ hi) ∧ (∃ k : Int, 0 ≤ k ∧ k < mN u s ∧ mX u s k = lo) ∧ ∃ k : Int, 0 ≤ k ∧ k < mN u s ∧ mX u s k = hi) ∧ ∀ L U : Int → Int, LU u s lo hi L U → n ≤ cb_ L U lo (hi + 1 - lo) ∨ hi < lo ∧ n = 0)) (fun u' H => va_P D.1 j_cl (mW D o q u') H) A) 0 0 A := by
  refine Met.ofW (cc := cX12_findAll) (maxL := 8) (ret := none) (by decide) rfl ?_
  intro pr en st mi args below meth co s₁ B hml hv
  obtain ⟨rfl, hG, hP⟩ := hv
  have hr := B.returns
  have hlk := B.notSynchronized
  have SS : jS pr mi co cX12_findAll 8 st _ RX12 := ⟨B.exec, B.bytes, hml, findClass_of_methodNamed B.named, fun w hw => atoms_spec (ws := (jw yX12_findAll cX12_findAll 8 none)) B.pre w (List.mem_cons_of_mem _ hw)⟩
  have hl := lv_entry ([.ref o, .int (J s)]) (n := 8) (Nat.le_of_ble_eq_true rfl)
  rw [lg_entry_eq]
  generalize (lg_sl ([.ref o, .int (J s)]) ++ List.replicate (8 - (lg_sl ([.ref o, .int (J s)])).length) Slot.unset).toArray = ls at hl ⊢
  have hl : lv_has ls 8 [(0, .ref o), (1, .int (J s))] := hl
  have hS : va_S A st.heap st.heap [] := va_S.rf
  have hN := p1.1
  have hC := p1.2.2
  refine lv_aload_n SS.1 SS.2.1 dX12_findAll_0 rfl (lv_at hl 0 rfl) ?_
  refine j_iconst SS dX12_findAll_1 ?_
  refine j_put SS hG hP (mW_D hD) hS 0 (v := .int (J 0)) (ty := .int) (C := RX12) (T := TX12) (N := 31) rfl rfl inX12 tyX12 tyX12_ok nmX12 12 (by decide) (ref := RX12) kw_1070 rfl rfl (by decide +kernel) rfl rfl (Nat.le_of_ble_eq_true rfl) dX12_findAll_2 (ws' := (mW D o q (uV u 12 0))) rfl (fun H locs hP hS => ?_)
  refine j_sipush SS dX12_findAll_5 (by decide +kernel) ?_
  refine lv_istore_n (lv' := [(2, .int (J 1000)), (0, .ref o), (1, .int (J s))]) SS.1 SS.2.1 dX12_findAll_8 rfl hl (by decide) rfl (fun ls hl => ?_)
  refine j_sipush SS dX12_findAll_9 (by decide +kernel) ?_
  refine lv_istore_n (lv' := [(3, .int (J (-1000))), (2, .int (J 1000)), (0, .ref o), (1, .int (J s))]) SS.1 SS.2.1 dX12_findAll_12 rfl hl (by decide) rfl (fun ls hl => ?_)
  refine j_sipush SS dX12_findAll_13 (by decide +kernel) ?_
  refine lv_istore (lv' := [(4, .int (J 1000)), (3, .int (J (-1000))), (2, .int (J 1000)), (0, .ref o), (1, .int (J s))]) SS.1 SS.2.1 dX12_findAll_16 hl (by decide) rfl (fun ls hl => ?_)
  refine j_sipush SS dX12_findAll_18 (by decide +kernel) ?_
  refine lv_istore (lv' := [(5, .int (J (-1000))), (4, .int (J 1000)), (3, .int (J (-1000))), (2, .int (J 1000)), (0, .ref o), (1, .int (J s))]) SS.1 SS.2.1 dX12_findAll_21 hl (by decide) rfl (fun ls hl => ?_)
  refine j_iconst SS dX12_findAll_23 ?_
  refine lv_istore (lv' := [(6, .int (J 0)), (5, .int (J (-1000))), (4, .int (J 1000)), (3, .int (J (-1000))), (2, .int (J 1000)), (0, .ref o), (1, .int (J s))]) SS.1 SS.2.1 dX12_findAll_24 hl (by decide) rfl (fun ls hl => ?_)
  have L_26 : ∀ (nn : Nat) (lx : Int) (hx : Int) (ly : Int) (hy : Int) (i : Int) (H : Heap) (locs : List Loc) (hP : va_P D.1 j_cl (mW D o q (uV u 12 0)) H) (hS : va_S A st.heap H locs) (ls : Array Slot) (hl : lv_has ls 8 [(0, .ref o), (1, .int (J s)), (2, .int (J lx)), (3, .int (J hx)), (4, .int (J ly)), (5, .int (J hy)), (6, .int (J i))]) (i26_0 : 0 ≤ i ∧ i ≤ mN u s) (i26_1 : fa_in u s i lx hx ly hy), (mN u s - i).toNat < nn → W pr l en (headSpec (jw yX12_findAll cX12_findAll 8 none) (jr 2 51)).room st mi (([.ref o, .int (J s)] : List Value).toArray) below meth co H locs 0 0 (MQ below (jWv (fun u' => ∃ X : Nat → Int, ∃ Y : Nat → Int, ∃ n : Int, ∃ lo : Int, ∃ hi : Int, u' = (uV (uI (uI u 10 X) 11 Y) 12 n) ∧ (0 ≤ n ∧ n ≤ 6561 ∧ bd 40 X Y n ∧ os_s X Y n ∧ (bd 40 (u.1 10) (u.1 11) 6561 → bd 40 X Y 6561) ∧ (0 < mN u s → (∀ k : Int, 0 ≤ k → k < mN u s → lo ≤ mX u s k ∧ mX u s k ≤ hi) ∧ (∃ k : Int, 0 ≤ k ∧ k < mN u s ∧ mX u s k = lo) ∧ ∃ k : Int, 0 ≤ k ∧ k < mN u s ∧ mX u s k = hi) ∧ ∀ L U : Int → Int, LU u s lo hi L U → n ≤ cb_ L U lo (hi + 1 - lo) ∨ hi < lo ∧ n = 0)) (fun u' H => va_P D.1 j_cl (mW D o q u') H) A) (([.ref o, .int (J s)] : List Value).toArray) st 0 0 A) (F0 mi 26 ls []) := by
    intro nn
    induction nn with
    | zero => intros; omega
    | succ nn ih_26 =>
      intro lx hx ly hy i  H locs hP hS ls hl i26_0 i26_1 hm
      have qa := i26_1.1
      refine lv_iload SS.1 SS.2.1 dX12_findAll_26 (lv_at hl 6 rfl) ?_
      refine lv_aload_n SS.1 SS.2.1 dX12_findAll_28 rfl (lv_at hl 0 rfl) ?_
      refine j_get SS hG hP 0 (v := .ref (q 0)) (C := RX12) (T := TX12) (N := 31) rfl rfl inX12 0 (by decide) (ref := RX12) kw_1058 rfl rfl dX12_findAll_29 ?_
      refine lv_iload_n SS.1 SS.2.1 dX12_findAll_32 rfl (lv_at hl 1 rfl) ?_
      refine j_iald SS hG hP 1 (n := 8) (f := (u.1 0)) rfl (z := s) (by omega) (by omega) dX12_findAll_33 ?_
      refine j_icmp_ge SS (tgt := 141) (x := i) (y := (mN u s)) dX12_findAll_34 (by decide) (by omega) (by omega) (fun c_34 => ?_) (fun c_34 => ?_)
      · skip
        refine lv_iload_n SS.1 SS.2.1 dX12_findAll_141 rfl (lv_at hl 2 rfl) ?_
        refine lv_istore (lv' := [(6, .int (J lx)), (0, .ref o), (1, .int (J s)), (2, .int (J lx)), (3, .int (J hx)), (4, .int (J ly)), (5, .int (J hy))]) SS.1 SS.2.1 dX12_findAll_142 hl (by decide) rfl (fun ls hl => ?_)
        have L_144 : ∀ (nn : Nat) (px : Int) (X : Nat → Int) (Y : Nat → Int) (n : Int) (H : Heap) (locs : List Loc) (hP : va_P D.1 j_cl (mW D o q (uV (uI (uI u 10 X) 11 Y) 12 n)) H) (hS : va_S A st.heap H locs) (ls : Array Slot) (hl : lv_has ls 8 [(0, .ref o), (1, .int (J s)), (2, .int (J lx)), (3, .int (J hx)), (4, .int (J ly)), (5, .int (J hy)), (6, .int (J px))]) (i144_0 : lx ≤ px ∧ (px ≤ hx + 1 ∨ px = lx)) (i144_1 : 0 ≤ n ∧ n ≤ 6561) (i144_2 : bd 40 X Y n) (i144_3 : ∀ L U : Int → Int, LU u s lx hx L U → n ≤ cb_ L U lx (px - lx)) (i144_4 : bd 40 (u.1 10) (u.1 11) 6561 → bd 40 X Y 6561) (i144_5 : os_s X Y n ∧ ∀ a : Nat, (a : Int) < n → X a < px), (hx + 1 - px).toNat < nn → W pr l en (headSpec (jw yX12_findAll cX12_findAll 8 none) (jr 2 51)).room st mi (([.ref o, .int (J s)] : List Value).toArray) below meth co H locs 0 0 (MQ below (jWv (fun u' => ∃ X : Nat → Int, ∃ Y : Nat → Int, ∃ n : Int, ∃ lo : Int, ∃ hi : Int, u' = (uV (uI (uI u 10 X) 11 Y) 12 n) ∧ (0 ≤ n ∧ n ≤ 6561 ∧ bd 40 X Y n ∧ os_s X Y n ∧ (bd 40 (u.1 10) (u.1 11) 6561 → bd 40 X Y 6561) ∧ (0 < mN u s → (∀ k : Int, 0 ≤ k → k < mN u s → lo ≤ mX u s k ∧ mX u s k ≤ hi) ∧ (∃ k : Int, 0 ≤ k ∧ k < mN u s ∧ mX u s k = lo) ∧ ∃ k : Int, 0 ≤ k ∧ k < mN u s ∧ mX u s k = hi) ∧ ∀ L U : Int → Int, LU u s lo hi L U → n ≤ cb_ L U lo (hi + 1 - lo) ∨ hi < lo ∧ n = 0)) (fun u' H => va_P D.1 j_cl (mW D o q u') H) A) (([.ref o, .int (J s)] : List Value).toArray) st 0 0 A) (F0 mi 144 ls []) := by
          intro nn
          induction nn with
          | zero => intros; omega
          | succ nn ih_144 =>
            intro px X Y n H locs hP hS ls hl i144_0 i144_1 i144_2 i144_3 i144_4 i144_5 hm
            refine lv_iload SS.1 SS.2.1 dX12_findAll_144 (lv_at hl 6 rfl) ?_
            refine lv_iload_n SS.1 SS.2.1 dX12_findAll_146 rfl (lv_at hl 3 rfl) ?_
            refine j_icmp_gt SS (tgt := 227) (x := px) (y := hx) dX12_findAll_147 (by decide) (by omega) (by omega) (fun c_147 => ?_) (fun c_147 => ?_)
            · skip
              exact W.vret SS.1 SS.2.1 hr (fun t ht hW => ⟨⟨(uV (uI (uI u 10 X) 11 Y) 12 n), rfl, (⟨X, Y, n, lx, hx, rfl, ⟨by omega, by omega, i144_2, i144_5.1, i144_4, fun h => by rw [show i = mN u s by omega] at i26_1; exact ⟨i26_1.2.1, i26_1.2.2 h⟩, fun L U h => by by_cases e : hx < lx; exact Or.inr ⟨e, by have k := i144_3 L U h; rw [show px - lx = 0 by omega, cb_0] at k; omega⟩; exact Or.inl (by have k := i144_3 L U h; rw [show px = hx + 1 by omega] at k; exact k)⟩⟩), by show va_P D.1 j_cl (mW D o q (uV (uI (uI u 10 X) 11 Y) 12 n)) t.heap; rw [ht]; exact hP⟩, hS.F ht⟩) hS.2.2 dX12_findAll_227 hlk
            · skip
              have qb := i26_1.1
              refine lv_iload SS.1 SS.2.1 dX12_findAll_150 (lv_at hl 4 rfl) ?_
              refine lv_istore (lv' := [(7, .int (J ly)), (0, .ref o), (1, .int (J s)), (2, .int (J lx)), (3, .int (J hx)), (4, .int (J ly)), (5, .int (J hy)), (6, .int (J px))]) SS.1 SS.2.1 dX12_findAll_152 hl (by decide) rfl (fun ls hl => ?_)
              have L_154 : ∀ (nn : Nat) (py : Int) (X2 : Nat → Int) (Y2 : Nat → Int) (n2 : Int) (H : Heap) (locs : List Loc) (hP : va_P D.1 j_cl (mW D o q (uV (uI (uI u 10 X2) 11 Y2) 12 n2)) H) (hS : va_S A st.heap H locs) (ls : Array Slot) (hl : lv_has ls 8 [(0, .ref o), (1, .int (J s)), (2, .int (J lx)), (3, .int (J hx)), (4, .int (J ly)), (5, .int (J hy)), (6, .int (J px)), (7, .int (J py))]) (i154_0 : ly ≤ py ∧ (py ≤ hy + 1 ∨ py = ly)) (i154_1 : 0 ≤ n2 ∧ n2 ≤ 6561) (i154_2 : bd 40 X2 Y2 n2) (i154_3 : ∀ L U : Int → Int, LU u s lx hx L U → n2 ≤ cb_ L U lx (px - lx) + max 0 (min py (U px + 1) - L px)) (i154_4 : bd 40 (u.1 10) (u.1 11) 6561 → bd 40 X2 Y2 6561) (i154_5 : os_s X2 Y2 n2 ∧ ∀ a : Nat, (a : Int) < n2 → lt2 (X2 a) (Y2 a) px py), (hy + 1 - py).toNat < nn → W pr l en (headSpec (jw yX12_findAll cX12_findAll 8 none) (jr 2 51)).room st mi (([.ref o, .int (J s)] : List Value).toArray) below meth co H locs 0 0 (MQ below (jWv (fun u' => ∃ X : Nat → Int, ∃ Y : Nat → Int, ∃ n : Int, ∃ lo : Int, ∃ hi : Int, u' = (uV (uI (uI u 10 X) 11 Y) 12 n) ∧ (0 ≤ n ∧ n ≤ 6561 ∧ bd 40 X Y n ∧ os_s X Y n ∧ (bd 40 (u.1 10) (u.1 11) 6561 → bd 40 X Y 6561) ∧ (0 < mN u s → (∀ k : Int, 0 ≤ k → k < mN u s → lo ≤ mX u s k ∧ mX u s k ≤ hi) ∧ (∃ k : Int, 0 ≤ k ∧ k < mN u s ∧ mX u s k = lo) ∧ ∃ k : Int, 0 ≤ k ∧ k < mN u s ∧ mX u s k = hi) ∧ ∀ L U : Int → Int, LU u s lo hi L U → n ≤ cb_ L U lo (hi + 1 - lo) ∨ hi < lo ∧ n = 0)) (fun u' H => va_P D.1 j_cl (mW D o q u') H) A) (([.ref o, .int (J s)] : List Value).toArray) st 0 0 A) (F0 mi 154 ls []) := by
                intro nn
                induction nn with
                | zero => intros; omega
                | succ nn ih_154 =>
                  intro py X2 Y2 n2 H locs hP hS ls hl i154_0 i154_1 i154_2 i154_3 i154_4 i154_5 hm
                  refine lv_iload SS.1 SS.2.1 dX12_findAll_154 (lv_at hl 7 rfl) ?_
                  refine lv_iload SS.1 SS.2.1 dX12_findAll_156 (lv_at hl 5 rfl) ?_
                  refine j_icmp_gt SS (tgt := 221) (x := py) (y := hy) dX12_findAll_158 (by decide) (by omega) (by omega) (fun c_158 => ?_) (fun c_158 => ?_)
                  · skip
                    refine lv_iinc (v := J (px + 1)) (lv' := [(6, .int (J (px + 1))), (0, .ref o), (1, .int (J s)), (2, .int (J lx)), (3, .int (J hx)), (4, .int (J ly)), (5, .int (J hy)), (7, .int (J py))]) SS.1 SS.2.1 dX12_findAll_221 hl (k := 6) rfl (J_add _ _) (by decide) rfl (fun ls hl => ?_)
                    refine lv_goto (tgt := 144) SS.1 SS.2.1 dX12_findAll_224 (by decide) ?_
                    exact ih_144 (px + 1) X2 Y2 n2 _ _ hP hS ls (lv_sub hl [1, 2, 3, 4, 5, 6, 0] rfl) (by omega) (by omega) (i154_2) (fun L U h => by have k1 := i154_3 L U h; have k2 := h.2 px (by omega) (by omega); have k3 := cb_s (L := L) (U := U) (show lx ≤ px by omega); rw [show px + 1 - lx = px + 1 - lx from rfl] at k3; omega) (i154_4) (⟨i154_5.1, fun a ha => by have q9 := i154_5.2 a ha; unfold lt2 at q9; omega⟩) (by omega)
                  · skip
                    refine lv_aload_n SS.1 SS.2.1 dX12_findAll_161 rfl (lv_at hl 0 rfl) ?_
                    refine j_get SS hG hP 0 (v := .int (J n2)) (C := RX12) (T := TX12) (N := 31) rfl rfl inX12 12 (by decide) (ref := RX12) kw_1070 rfl rfl dX12_findAll_162 ?_
                    refine j_sipush SS dX12_findAll_165 (by decide +kernel) ?_
                    refine j_icmp_ge SS (tgt := 215) (x := n2) (y := 6561) dX12_findAll_168 (by decide) (by omega) (by decide) (fun c_168 => ?_) (fun c_168 => ?_)
                    · skip
                      refine lv_iinc (v := J (py + 1)) (lv' := [(7, .int (J (py + 1))), (0, .ref o), (1, .int (J s)), (2, .int (J lx)), (3, .int (J hx)), (4, .int (J ly)), (5, .int (J hy)), (6, .int (J px))]) SS.1 SS.2.1 dX12_findAll_215 hl (k := 7) rfl (J_add _ _) (by decide) rfl (fun ls hl => ?_)
                      refine lv_goto (tgt := 154) SS.1 SS.2.1 dX12_findAll_218 (by decide) ?_
                      exact ih_154 (py + 1) X2 Y2 n2 _ _ hP hS ls (lv_sub hl [1, 2, 3, 4, 5, 6, 7, 0] rfl) (by omega) (by omega) (by first | exact i154_2 | exact bd_put (by omega) i154_2 (by omega) (by omega)) (fun L U h => by have k1 := i154_3 L U h; first | omega | (have k2 := h.1 px py z_177 (by omega) (by omega) h_177 (by omega); omega)) (fun h => by first | exact i154_4 h | exact bd_up (i154_4 h) (by omega) (by omega)) (by first | exact os_no i154_5.1 i154_5.2 | exact os_put (by omega) i154_5.1 i154_5.2) (by omega)
                    · skip
                      refine lv_aload_n SS.1 SS.2.1 dX12_findAll_171 rfl (lv_at hl 0 rfl) ?_
                      refine lv_iload_n SS.1 SS.2.1 dX12_findAll_172 rfl (lv_at hl 1 rfl) ?_
                      refine lv_iload SS.1 SS.2.1 dX12_findAll_173 (lv_at hl 6 rfl) ?_
                      refine lv_iload SS.1 SS.2.1 dX12_findAll_175 (lv_at hl 7 rfl) ?_
                      refine j_vRi SS (As := [.int (J s), .int (J px), .int (J py)]) (rest := []) (c_X12_whereOf l D o q (uV (uI (uI u 10 X2) 11 Y2) 12 n2) s px py (show 0 ≤ s ∧ s ≤ 7 from (p0)) (show Sh u s from (p1)) (show -100 ≤ px ∧ px ≤ 100 from (by omega)) (show -100 ≤ py ∧ py ≤ 100 from (by omega))) mf_X12_whereOf kw_1255 hG hP hP (ci := 8) (q0 := 0) rfl rfl rfl rfl hl.1 ⟨⟨Nat.le_of_ble_eq_true rfl, Nat.le_of_ble_eq_true rfl⟩, Nat.le_of_ble_eq_true rfl, Nat.le_refl _, Nat.le_refl _⟩ rfl dX12_findAll_177 (fun z_177 h_177 => ?_)
                      have h_177 : wR u s px py z_177 := h_177
                      have zb := wR_b h_177
                      refine j_if_le SS (tgt := 215) (x := z_177) dX12_findAll_180 (by decide) (by omega) (fun c_180 => ?_) (fun c_180 => ?_)
                      · skip
                        refine lv_iinc (v := J (py + 1)) (lv' := [(7, .int (J (py + 1))), (0, .ref o), (1, .int (J s)), (2, .int (J lx)), (3, .int (J hx)), (4, .int (J ly)), (5, .int (J hy)), (6, .int (J px))]) SS.1 SS.2.1 dX12_findAll_215 hl (k := 7) rfl (J_add _ _) (by decide) rfl (fun ls hl => ?_)
                        refine lv_goto (tgt := 154) SS.1 SS.2.1 dX12_findAll_218 (by decide) ?_
                        exact ih_154 (py + 1) X2 Y2 n2 _ _ hP hS ls (lv_sub hl [1, 2, 3, 4, 5, 6, 7, 0] rfl) (by omega) (by omega) (by first | exact i154_2 | exact bd_put (by omega) i154_2 (by omega) (by omega)) (fun L U h => by have k1 := i154_3 L U h; first | omega | (have k2 := h.1 px py z_177 (by omega) (by omega) h_177 (by omega); omega)) (fun h => by first | exact i154_4 h | exact bd_up (i154_4 h) (by omega) (by omega)) (by first | exact os_no i154_5.1 i154_5.2 | exact os_put (by omega) i154_5.1 i154_5.2) (by omega)
                      · skip
                        refine lv_aload_n SS.1 SS.2.1 dX12_findAll_183 rfl (lv_at hl 0 rfl) ?_
                        refine j_get SS hG hP 0 (v := .ref (q 10)) (C := RX12) (T := TX12) (N := 31) rfl rfl inX12 10 (by decide) (ref := RX12) kw_1068 rfl rfl dX12_findAll_184 ?_
                        refine lv_aload_n SS.1 SS.2.1 dX12_findAll_187 rfl (lv_at hl 0 rfl) ?_
                        refine j_get SS hG hP 0 (v := .int (J n2)) (C := RX12) (T := TX12) (N := 31) rfl rfl inX12 12 (by decide) (ref := RX12) kw_1070 rfl rfl dX12_findAll_188 ?_
                        refine lv_iload SS.1 SS.2.1 dX12_findAll_191 (lv_at hl 6 rfl) ?_
                        refine j_iast SS hG hP (mW_D hD) hS 9 (n := 6561) (f := X2) rfl (z := n2) (v := px) (by omega) (by omega) dX12_findAll_193 (ws' := (mW D o q (uV (uI (uI u 10 (upI X2 (n2).toNat px)) 11 Y2) 12 n2))) rfl (fun H locs hP hS => ?_)
                        refine lv_aload_n SS.1 SS.2.1 dX12_findAll_194 rfl (lv_at hl 0 rfl) ?_
                        refine j_get SS hG hP 0 (v := .ref (q 11)) (C := RX12) (T := TX12) (N := 31) rfl rfl inX12 11 (by decide) (ref := RX12) kw_1069 rfl rfl dX12_findAll_195 ?_
                        refine lv_aload_n SS.1 SS.2.1 dX12_findAll_198 rfl (lv_at hl 0 rfl) ?_
                        refine j_get SS hG hP 0 (v := .int (J n2)) (C := RX12) (T := TX12) (N := 31) rfl rfl inX12 12 (by decide) (ref := RX12) kw_1070 rfl rfl dX12_findAll_199 ?_
                        refine lv_iload SS.1 SS.2.1 dX12_findAll_202 (lv_at hl 7 rfl) ?_
                        refine j_iast SS hG hP (mW_D hD) hS 10 (n := 6561) (f := Y2) rfl (z := n2) (v := py) (by omega) (by omega) dX12_findAll_204 (ws' := (mW D o q (uV (uI (uI u 10 (upI X2 (n2).toNat px)) 11 (upI Y2 (n2).toNat py)) 12 n2))) rfl (fun H locs hP hS => ?_)
                        refine lv_aload_n SS.1 SS.2.1 dX12_findAll_205 rfl (lv_at hl 0 rfl) ?_
                        refine lv_dup SS.1 SS.2.1 dX12_findAll_206 rfl ?_
                        refine j_get SS hG hP 0 (v := .int (J n2)) (C := RX12) (T := TX12) (N := 31) rfl rfl inX12 12 (by decide) (ref := RX12) kw_1070 rfl rfl dX12_findAll_207 ?_
                        refine j_iconst SS dX12_findAll_210 ?_
                        refine j_iadd SS (x := n2) (y := 1) dX12_findAll_211 ?_
                        refine j_put SS hG hP (mW_D hD) hS 0 (v := .int (J (n2 + 1))) (ty := .int) (C := RX12) (T := TX12) (N := 31) rfl rfl inX12 tyX12 tyX12_ok nmX12 12 (by decide) (ref := RX12) kw_1070 rfl rfl (by decide +kernel) rfl rfl (Nat.le_of_ble_eq_true rfl) dX12_findAll_212 (ws' := (mW D o q (uV (uI (uI u 10 (upI X2 (n2).toNat px)) 11 (upI Y2 (n2).toNat py)) 12 (n2 + 1)))) rfl (fun H locs hP hS => ?_)
                        refine lv_iinc (v := J (py + 1)) (lv' := [(7, .int (J (py + 1))), (0, .ref o), (1, .int (J s)), (2, .int (J lx)), (3, .int (J hx)), (4, .int (J ly)), (5, .int (J hy)), (6, .int (J px))]) SS.1 SS.2.1 dX12_findAll_215 hl (k := 7) rfl (J_add _ _) (by decide) rfl (fun ls hl => ?_)
                        refine lv_goto (tgt := 154) SS.1 SS.2.1 dX12_findAll_218 (by decide) ?_
                        exact ih_154 (py + 1) (upI X2 (n2).toNat px) (upI Y2 (n2).toNat py) (n2 + 1) _ _ hP hS ls (lv_sub hl [1, 2, 3, 4, 5, 6, 7, 0] rfl) (by omega) (by omega) (by first | exact i154_2 | exact bd_put (by omega) i154_2 (by omega) (by omega)) (fun L U h => by have k1 := i154_3 L U h; first | omega | (have k2 := h.1 px py z_177 (by omega) (by omega) h_177 (by omega); omega)) (fun h => by first | exact i154_4 h | exact bd_up (i154_4 h) (by omega) (by omega)) (by first | exact os_no i154_5.1 i154_5.2 | exact os_put (by omega) i154_5.1 i154_5.2) (by omega)
              exact L_154 ((hy + 1 - ly).toNat + 1) ly X Y n _ _ hP hS ls (lv_sub hl [1, 2, 3, 4, 5, 6, 7, 0] rfl) (by omega) (by omega) (i144_2) (fun L U h => by have k1 := i144_3 L U h; omega) (i144_4) (⟨i144_5.1, fun a ha => Or.inl (i144_5.2 a ha)⟩) (Nat.lt_succ_self _)
        exact L_144 ((hx + 1 - lx).toNat + 1) lx (u.1 10) (u.1 11) 0 _ _ hP hS ls (lv_sub hl [1, 2, 3, 4, 5, 6, 0] rfl) (by omega) (by omega) (fun a ha => by omega) (fun L U h => by rw [show lx - lx = 0 by omega, cb_0]; omega) (fun h => h) (⟨fun a ha => by omega, fun a ha => by omega⟩) (Nat.lt_succ_self _)
      · skip
        have b1 := p1.2.1 (by omega) i (by omega)
        refine lv_aload_n SS.1 SS.2.1 dX12_findAll_37 rfl (lv_at hl 0 rfl) ?_
        refine lv_iload_n SS.1 SS.2.1 dX12_findAll_38 rfl (lv_at hl 1 rfl) ?_
        refine lv_iload SS.1 SS.2.1 dX12_findAll_39 (lv_at hl 6 rfl) ?_
        refine j_vRi SS (As := [.int (J s), .int (J i)]) (rest := []) (c_X12_x l D o q (uV u 12 0) s i (show 0 ≤ s ∧ s ≤ 7 from (by omega)) (show 0 ≤ i ∧ i ≤ 1000000 from (by omega)) (show 0 < mN u s ∧ mN u s ≤ 24 from (by omega))) mf_X12_x kw_1177 hG hP hP (ci := 8) (q0 := 0) rfl rfl rfl rfl hl.1 ⟨⟨Nat.le_of_ble_eq_true rfl, Nat.le_of_ble_eq_true rfl⟩, Nat.le_of_ble_eq_true rfl, Nat.le_refl _, Nat.le_refl _⟩ rfl dX12_findAll_41 (fun z_41 h_41 => ?_)
        have h_41 : z_41 = mX u s i := h_41
        refine lv_iload_n SS.1 SS.2.1 dX12_findAll_44 rfl (lv_at hl 2 rfl) ?_
        have L_59 : ∀ (a59 : Int) (H : Heap) (locs : List Loc) (hP : va_P D.1 j_cl (mW D o q (uV u 12 0)) H) (hS : va_S A st.heap H locs) (ls : Array Slot) (hl : lv_has ls 8 [(0, .ref o), (1, .int (J s)), (2, .int (J lx)), (3, .int (J hx)), (4, .int (J ly)), (5, .int (J hy)), (6, .int (J i))]) (i59_0 : (a59 = lx ∨ a59 = mX u s i) ∧ a59 ≤ lx ∧ a59 ≤ mX u s i), W pr l en (headSpec (jw yX12_findAll cX12_findAll 8 none) (jr 2 51)).room st mi (([.ref o, .int (J s)] : List Value).toArray) below meth co H locs 0 0 (MQ below (jWv (fun u' => ∃ X : Nat → Int, ∃ Y : Nat → Int, ∃ n : Int, ∃ lo : Int, ∃ hi : Int, u' = (uV (uI (uI u 10 X) 11 Y) 12 n) ∧ (0 ≤ n ∧ n ≤ 6561 ∧ bd 40 X Y n ∧ os_s X Y n ∧ (bd 40 (u.1 10) (u.1 11) 6561 → bd 40 X Y 6561) ∧ (0 < mN u s → (∀ k : Int, 0 ≤ k → k < mN u s → lo ≤ mX u s k ∧ mX u s k ≤ hi) ∧ (∃ k : Int, 0 ≤ k ∧ k < mN u s ∧ mX u s k = lo) ∧ ∃ k : Int, 0 ≤ k ∧ k < mN u s ∧ mX u s k = hi) ∧ ∀ L U : Int → Int, LU u s lo hi L U → n ≤ cb_ L U lo (hi + 1 - lo) ∨ hi < lo ∧ n = 0)) (fun u' H => va_P D.1 j_cl (mW D o q u') H) A) (([.ref o, .int (J s)] : List Value).toArray) st 0 0 A) (F0 mi 59 ls [.int (J a59)]) := by
          intro a59  H locs hP hS ls hl i59_0
          refine lv_istore_n (lv' := [(2, .int (J a59)), (0, .ref o), (1, .int (J s)), (3, .int (J hx)), (4, .int (J ly)), (5, .int (J hy)), (6, .int (J i))]) SS.1 SS.2.1 dX12_findAll_59 rfl hl (by decide) rfl (fun ls hl => ?_)
          refine lv_aload_n SS.1 SS.2.1 dX12_findAll_60 rfl (lv_at hl 1 rfl) ?_
          refine lv_iload_n SS.1 SS.2.1 dX12_findAll_61 rfl (lv_at hl 2 rfl) ?_
          refine lv_iload SS.1 SS.2.1 dX12_findAll_62 (lv_at hl 6 rfl) ?_
          refine j_vRi SS (As := [.int (J s), .int (J i)]) (rest := []) (c_X12_x l D o q (uV u 12 0) s i (show 0 ≤ s ∧ s ≤ 7 from (by omega)) (show 0 ≤ i ∧ i ≤ 1000000 from (by omega)) (show 0 < mN u s ∧ mN u s ≤ 24 from (by omega))) mf_X12_x kw_1177 hG hP hP (ci := 8) (q0 := 0) rfl rfl rfl rfl hl.1 ⟨⟨Nat.le_of_ble_eq_true rfl, Nat.le_of_ble_eq_true rfl⟩, Nat.le_of_ble_eq_true rfl, Nat.le_refl _, Nat.le_refl _⟩ rfl dX12_findAll_64 (fun z_64 h_64 => ?_)
          have h_64 : z_64 = mX u s i := h_64
          refine lv_iload_n SS.1 SS.2.1 dX12_findAll_67 rfl (lv_at hl 3 rfl) ?_
          have L_82 : ∀ (a82 : Int) (H : Heap) (locs : List Loc) (hP : va_P D.1 j_cl (mW D o q (uV u 12 0)) H) (hS : va_S A st.heap H locs) (ls : Array Slot) (hl : lv_has ls 8 [(0, .ref o), (1, .int (J s)), (2, .int (J a59)), (3, .int (J hx)), (4, .int (J ly)), (5, .int (J hy)), (6, .int (J i))]) (i82_0 : (a82 = hx ∨ a82 = mX u s i) ∧ hx ≤ a82 ∧ mX u s i ≤ a82), W pr l en (headSpec (jw yX12_findAll cX12_findAll 8 none) (jr 2 51)).room st mi (([.ref o, .int (J s)] : List Value).toArray) below meth co H locs 0 0 (MQ below (jWv (fun u' => ∃ X : Nat → Int, ∃ Y : Nat → Int, ∃ n : Int, ∃ lo : Int, ∃ hi : Int, u' = (uV (uI (uI u 10 X) 11 Y) 12 n) ∧ (0 ≤ n ∧ n ≤ 6561 ∧ bd 40 X Y n ∧ os_s X Y n ∧ (bd 40 (u.1 10) (u.1 11) 6561 → bd 40 X Y 6561) ∧ (0 < mN u s → (∀ k : Int, 0 ≤ k → k < mN u s → lo ≤ mX u s k ∧ mX u s k ≤ hi) ∧ (∃ k : Int, 0 ≤ k ∧ k < mN u s ∧ mX u s k = lo) ∧ ∃ k : Int, 0 ≤ k ∧ k < mN u s ∧ mX u s k = hi) ∧ ∀ L U : Int → Int, LU u s lo hi L U → n ≤ cb_ L U lo (hi + 1 - lo) ∨ hi < lo ∧ n = 0)) (fun u' H => va_P D.1 j_cl (mW D o q u') H) A) (([.ref o, .int (J s)] : List Value).toArray) st 0 0 A) (F0 mi 82 ls [.int (J a82)]) := by
            intro a82  H locs hP hS ls hl i82_0
            refine lv_istore_n (lv' := [(3, .int (J a82)), (0, .ref o), (1, .int (J s)), (2, .int (J a59)), (4, .int (J ly)), (5, .int (J hy)), (6, .int (J i))]) SS.1 SS.2.1 dX12_findAll_82 rfl hl (by decide) rfl (fun ls hl => ?_)
            refine lv_aload_n SS.1 SS.2.1 dX12_findAll_83 rfl (lv_at hl 1 rfl) ?_
            refine lv_iload_n SS.1 SS.2.1 dX12_findAll_84 rfl (lv_at hl 2 rfl) ?_
            refine lv_iload SS.1 SS.2.1 dX12_findAll_85 (lv_at hl 6 rfl) ?_
            refine j_vRi SS (As := [.int (J s), .int (J i)]) (rest := []) (c_X12_y l D o q (uV u 12 0) s i (show 0 ≤ s ∧ s ≤ 7 from (by omega)) (show 0 ≤ i ∧ i ≤ 1000000 from (by omega)) (show 0 < mN u s ∧ mN u s ≤ 24 from (by omega))) mf_X12_y kw_1181 hG hP hP (ci := 8) (q0 := 0) rfl rfl rfl rfl hl.1 ⟨⟨Nat.le_of_ble_eq_true rfl, Nat.le_of_ble_eq_true rfl⟩, Nat.le_of_ble_eq_true rfl, Nat.le_refl _, Nat.le_refl _⟩ rfl dX12_findAll_87 (fun z_87 h_87 => ?_)
            have h_87 : z_87 = mY u s i := h_87
            refine lv_iload SS.1 SS.2.1 dX12_findAll_90 (lv_at hl 4 rfl) ?_
            have L_107 : ∀ (a107 : Int) (H : Heap) (locs : List Loc) (hP : va_P D.1 j_cl (mW D o q (uV u 12 0)) H) (hS : va_S A st.heap H locs) (ls : Array Slot) (hl : lv_has ls 8 [(0, .ref o), (1, .int (J s)), (2, .int (J a59)), (3, .int (J a82)), (4, .int (J ly)), (5, .int (J hy)), (6, .int (J i))]) (i107_0 : (a107 = ly ∨ a107 = mY u s i) ∧ a107 ≤ ly ∧ a107 ≤ mY u s i), W pr l en (headSpec (jw yX12_findAll cX12_findAll 8 none) (jr 2 51)).room st mi (([.ref o, .int (J s)] : List Value).toArray) below meth co H locs 0 0 (MQ below (jWv (fun u' => ∃ X : Nat → Int, ∃ Y : Nat → Int, ∃ n : Int, ∃ lo : Int, ∃ hi : Int, u' = (uV (uI (uI u 10 X) 11 Y) 12 n) ∧ (0 ≤ n ∧ n ≤ 6561 ∧ bd 40 X Y n ∧ os_s X Y n ∧ (bd 40 (u.1 10) (u.1 11) 6561 → bd 40 X Y 6561) ∧ (0 < mN u s → (∀ k : Int, 0 ≤ k → k < mN u s → lo ≤ mX u s k ∧ mX u s k ≤ hi) ∧ (∃ k : Int, 0 ≤ k ∧ k < mN u s ∧ mX u s k = lo) ∧ ∃ k : Int, 0 ≤ k ∧ k < mN u s ∧ mX u s k = hi) ∧ ∀ L U : Int → Int, LU u s lo hi L U → n ≤ cb_ L U lo (hi + 1 - lo) ∨ hi < lo ∧ n = 0)) (fun u' H => va_P D.1 j_cl (mW D o q u') H) A) (([.ref o, .int (J s)] : List Value).toArray) st 0 0 A) (F0 mi 107 ls [.int (J a107)]) := by
              intro a107  H locs hP hS ls hl i107_0
              refine lv_istore (lv' := [(4, .int (J a107)), (0, .ref o), (1, .int (J s)), (2, .int (J a59)), (3, .int (J a82)), (5, .int (J hy)), (6, .int (J i))]) SS.1 SS.2.1 dX12_findAll_107 hl (by decide) rfl (fun ls hl => ?_)
              refine lv_aload_n SS.1 SS.2.1 dX12_findAll_109 rfl (lv_at hl 1 rfl) ?_
              refine lv_iload_n SS.1 SS.2.1 dX12_findAll_110 rfl (lv_at hl 2 rfl) ?_
              refine lv_iload SS.1 SS.2.1 dX12_findAll_111 (lv_at hl 6 rfl) ?_
              refine j_vRi SS (As := [.int (J s), .int (J i)]) (rest := []) (c_X12_y l D o q (uV u 12 0) s i (show 0 ≤ s ∧ s ≤ 7 from (by omega)) (show 0 ≤ i ∧ i ≤ 1000000 from (by omega)) (show 0 < mN u s ∧ mN u s ≤ 24 from (by omega))) mf_X12_y kw_1181 hG hP hP (ci := 8) (q0 := 0) rfl rfl rfl rfl hl.1 ⟨⟨Nat.le_of_ble_eq_true rfl, Nat.le_of_ble_eq_true rfl⟩, Nat.le_of_ble_eq_true rfl, Nat.le_refl _, Nat.le_refl _⟩ rfl dX12_findAll_113 (fun z_113 h_113 => ?_)
              have h_113 : z_113 = mY u s i := h_113
              refine lv_iload SS.1 SS.2.1 dX12_findAll_116 (lv_at hl 5 rfl) ?_
              have L_133 : ∀ (a133 : Int) (H : Heap) (locs : List Loc) (hP : va_P D.1 j_cl (mW D o q (uV u 12 0)) H) (hS : va_S A st.heap H locs) (ls : Array Slot) (hl : lv_has ls 8 [(0, .ref o), (1, .int (J s)), (2, .int (J a59)), (3, .int (J a82)), (4, .int (J a107)), (5, .int (J hy)), (6, .int (J i))]) (i133_0 : (a133 = hy ∨ a133 = mY u s i) ∧ hy ≤ a133 ∧ mY u s i ≤ a133), W pr l en (headSpec (jw yX12_findAll cX12_findAll 8 none) (jr 2 51)).room st mi (([.ref o, .int (J s)] : List Value).toArray) below meth co H locs 0 0 (MQ below (jWv (fun u' => ∃ X : Nat → Int, ∃ Y : Nat → Int, ∃ n : Int, ∃ lo : Int, ∃ hi : Int, u' = (uV (uI (uI u 10 X) 11 Y) 12 n) ∧ (0 ≤ n ∧ n ≤ 6561 ∧ bd 40 X Y n ∧ os_s X Y n ∧ (bd 40 (u.1 10) (u.1 11) 6561 → bd 40 X Y 6561) ∧ (0 < mN u s → (∀ k : Int, 0 ≤ k → k < mN u s → lo ≤ mX u s k ∧ mX u s k ≤ hi) ∧ (∃ k : Int, 0 ≤ k ∧ k < mN u s ∧ mX u s k = lo) ∧ ∃ k : Int, 0 ≤ k ∧ k < mN u s ∧ mX u s k = hi) ∧ ∀ L U : Int → Int, LU u s lo hi L U → n ≤ cb_ L U lo (hi + 1 - lo) ∨ hi < lo ∧ n = 0)) (fun u' H => va_P D.1 j_cl (mW D o q u') H) A) (([.ref o, .int (J s)] : List Value).toArray) st 0 0 A) (F0 mi 133 ls [.int (J a133)]) := by
                intro a133  H locs hP hS ls hl i133_0
                refine lv_istore (lv' := [(5, .int (J a133)), (0, .ref o), (1, .int (J s)), (2, .int (J a59)), (3, .int (J a82)), (4, .int (J a107)), (6, .int (J i))]) SS.1 SS.2.1 dX12_findAll_133 hl (by decide) rfl (fun ls hl => ?_)
                refine lv_iinc (v := J (i + 1)) (lv' := [(6, .int (J (i + 1))), (5, .int (J a133)), (0, .ref o), (1, .int (J s)), (2, .int (J a59)), (3, .int (J a82)), (4, .int (J a107))]) SS.1 SS.2.1 dX12_findAll_135 hl (k := 6) rfl (J_add _ _) (by decide) rfl (fun ls hl => ?_)
                refine lv_goto (tgt := 26) SS.1 SS.2.1 dX12_findAll_138 (by decide) ?_
                exact ih_26 a59 a82 a107 a133 (i + 1) _ _ hP hS ls (lv_sub hl [2, 3, 4, 5, 6, 1, 0] rfl) (by omega) (fa_s b1 (by omega) i26_1 i59_0 i82_0 i107_0 i133_0) (by omega)
              refine j_icmp_le SS (tgt := 131) (x := z_113) (y := hy) dX12_findAll_118 (by decide) (by omega) (by omega) (fun c_118 => ?_) (fun c_118 => ?_)
              · skip
                refine lv_iload SS.1 SS.2.1 dX12_findAll_131 (lv_at hl 5 rfl) ?_
                exact L_133 hy _ _ hP hS ls (lv_sub hl [1, 2, 3, 4, 0, 5, 6] rfl) (by omega)
              · skip
                refine lv_aload_n SS.1 SS.2.1 dX12_findAll_121 rfl (lv_at hl 1 rfl) ?_
                refine lv_iload_n SS.1 SS.2.1 dX12_findAll_122 rfl (lv_at hl 2 rfl) ?_
                refine lv_iload SS.1 SS.2.1 dX12_findAll_123 (lv_at hl 6 rfl) ?_
                refine j_vRi SS (As := [.int (J s), .int (J i)]) (rest := []) (c_X12_y l D o q (uV u 12 0) s i (show 0 ≤ s ∧ s ≤ 7 from (by omega)) (show 0 ≤ i ∧ i ≤ 1000000 from (by omega)) (show 0 < mN u s ∧ mN u s ≤ 24 from (by omega))) mf_X12_y kw_1181 hG hP hP (ci := 8) (q0 := 0) rfl rfl rfl rfl hl.1 ⟨⟨Nat.le_of_ble_eq_true rfl, Nat.le_of_ble_eq_true rfl⟩, Nat.le_of_ble_eq_true rfl, Nat.le_refl _, Nat.le_refl _⟩ rfl dX12_findAll_125 (fun z_125 h_125 => ?_)
                have h_125 : z_125 = mY u s i := h_125
                refine lv_goto (tgt := 133) SS.1 SS.2.1 dX12_findAll_128 (by decide) ?_
                exact L_133 z_125 _ _ hP hS ls (lv_sub hl [1, 2, 3, 4, 0, 5, 6] rfl) (by omega)
            refine j_icmp_ge SS (tgt := 105) (x := z_87) (y := ly) dX12_findAll_92 (by decide) (by omega) (by omega) (fun c_92 => ?_) (fun c_92 => ?_)
            · skip
              refine lv_iload SS.1 SS.2.1 dX12_findAll_105 (lv_at hl 4 rfl) ?_
              exact L_107 ly _ _ hP hS ls (lv_sub hl [1, 2, 3, 0, 4, 5, 6] rfl) (by omega)
            · skip
              refine lv_aload_n SS.1 SS.2.1 dX12_findAll_95 rfl (lv_at hl 1 rfl) ?_
              refine lv_iload_n SS.1 SS.2.1 dX12_findAll_96 rfl (lv_at hl 2 rfl) ?_
              refine lv_iload SS.1 SS.2.1 dX12_findAll_97 (lv_at hl 6 rfl) ?_
              refine j_vRi SS (As := [.int (J s), .int (J i)]) (rest := []) (c_X12_y l D o q (uV u 12 0) s i (show 0 ≤ s ∧ s ≤ 7 from (by omega)) (show 0 ≤ i ∧ i ≤ 1000000 from (by omega)) (show 0 < mN u s ∧ mN u s ≤ 24 from (by omega))) mf_X12_y kw_1181 hG hP hP (ci := 8) (q0 := 0) rfl rfl rfl rfl hl.1 ⟨⟨Nat.le_of_ble_eq_true rfl, Nat.le_of_ble_eq_true rfl⟩, Nat.le_of_ble_eq_true rfl, Nat.le_refl _, Nat.le_refl _⟩ rfl dX12_findAll_99 (fun z_99 h_99 => ?_)
              have h_99 : z_99 = mY u s i := h_99
              refine lv_goto (tgt := 107) SS.1 SS.2.1 dX12_findAll_102 (by decide) ?_
              exact L_107 z_99 _ _ hP hS ls (lv_sub hl [1, 2, 3, 0, 4, 5, 6] rfl) (by omega)
          refine j_icmp_le SS (tgt := 81) (x := z_64) (y := hx) dX12_findAll_68 (by decide) (by omega) (by omega) (fun c_68 => ?_) (fun c_68 => ?_)
          · skip
            refine lv_iload_n SS.1 SS.2.1 dX12_findAll_81 rfl (lv_at hl 3 rfl) ?_
            exact L_82 hx _ _ hP hS ls (lv_sub hl [1, 2, 0, 3, 4, 5, 6] rfl) (by omega)
          · skip
            refine lv_aload_n SS.1 SS.2.1 dX12_findAll_71 rfl (lv_at hl 1 rfl) ?_
            refine lv_iload_n SS.1 SS.2.1 dX12_findAll_72 rfl (lv_at hl 2 rfl) ?_
            refine lv_iload SS.1 SS.2.1 dX12_findAll_73 (lv_at hl 6 rfl) ?_
            refine j_vRi SS (As := [.int (J s), .int (J i)]) (rest := []) (c_X12_x l D o q (uV u 12 0) s i (show 0 ≤ s ∧ s ≤ 7 from (by omega)) (show 0 ≤ i ∧ i ≤ 1000000 from (by omega)) (show 0 < mN u s ∧ mN u s ≤ 24 from (by omega))) mf_X12_x kw_1177 hG hP hP (ci := 8) (q0 := 0) rfl rfl rfl rfl hl.1 ⟨⟨Nat.le_of_ble_eq_true rfl, Nat.le_of_ble_eq_true rfl⟩, Nat.le_of_ble_eq_true rfl, Nat.le_refl _, Nat.le_refl _⟩ rfl dX12_findAll_75 (fun z_75 h_75 => ?_)
            have h_75 : z_75 = mX u s i := h_75
            refine lv_goto (tgt := 82) SS.1 SS.2.1 dX12_findAll_78 (by decide) ?_
            exact L_82 z_75 _ _ hP hS ls (lv_sub hl [1, 2, 0, 3, 4, 5, 6] rfl) (by omega)
        refine j_icmp_ge SS (tgt := 58) (x := z_41) (y := lx) dX12_findAll_45 (by decide) (by omega) (by omega) (fun c_45 => ?_) (fun c_45 => ?_)
        · skip
          refine lv_iload_n SS.1 SS.2.1 dX12_findAll_58 rfl (lv_at hl 2 rfl) ?_
          exact L_59 lx _ _ hP hS ls (lv_sub hl [0, 1, 2, 3, 4, 5, 6] rfl) (by omega)
        · skip
          refine lv_aload_n SS.1 SS.2.1 dX12_findAll_48 rfl (lv_at hl 0 rfl) ?_
          refine lv_iload_n SS.1 SS.2.1 dX12_findAll_49 rfl (lv_at hl 1 rfl) ?_
          refine lv_iload SS.1 SS.2.1 dX12_findAll_50 (lv_at hl 6 rfl) ?_
          refine j_vRi SS (As := [.int (J s), .int (J i)]) (rest := []) (c_X12_x l D o q (uV u 12 0) s i (show 0 ≤ s ∧ s ≤ 7 from (by omega)) (show 0 ≤ i ∧ i ≤ 1000000 from (by omega)) (show 0 < mN u s ∧ mN u s ≤ 24 from (by omega))) mf_X12_x kw_1177 hG hP hP (ci := 8) (q0 := 0) rfl rfl rfl rfl hl.1 ⟨⟨Nat.le_of_ble_eq_true rfl, Nat.le_of_ble_eq_true rfl⟩, Nat.le_of_ble_eq_true rfl, Nat.le_refl _, Nat.le_refl _⟩ rfl dX12_findAll_52 (fun z_52 h_52 => ?_)
          have h_52 : z_52 = mX u s i := h_52
          refine lv_goto (tgt := 59) SS.1 SS.2.1 dX12_findAll_55 (by decide) ?_
          exact L_59 z_52 _ _ hP hS ls (lv_sub hl [0, 1, 2, 3, 4, 5, 6] rfl) (by omega)
  exact L_26 ((mN u s - (0 : Int)).toNat + 1) 1000 (-1000) 1000 (-1000) 0 _ _ hP hS ls (lv_sub hl [5, 6, 4, 3, 2, 1, 0] rfl) (by omega) (⟨Or.inl ⟨rfl, rfl, rfl, rfl, rfl⟩, fun k h1 h2 => by omega, fun h => by omega⟩) (Nat.lt_succ_self _)


/-- the cross product of two directions -/
def cx (a b c d : Int) : Int := a * d - b * c
theorem cx_add {a b c d e f : Int} : cx a b (c + e) (d + f) = cx a b c d + cx a b e f := by unfold cx; rw [Int.mul_add, Int.mul_add]; omega
theorem cx_add' {a b c d e f : Int} : cx (a + e) (b + f) c d = cx a b c d + cx e f c d := by unfold cx; rw [Int.add_mul, Int.add_mul]; omega
theorem cx_neg {a b c d : Int} : cx (-a) (-b) (-c) (-d) = cx a b c d := by unfold cx; rw [Int.neg_mul_neg, Int.neg_mul_neg]
def lp (a b : Int) : Prop := 0 < a ∨ (a = 0 ∧ 0 < b)
theorem cx_id {a b c d e f : Int} : c * cx a b e f = a * cx c d e f + e * cx a b c d := by unfold cx; grind
theorem cx_tr {a b c d e f : Int} (h1 : lp a b) (h2 : lp c d) (h3 : lp e f) (g1 : 0 < cx a b c d) (g2 : 0 < cx c d e f) : 0 < cx a b e f := by
  have hid := cx_id (a := a) (b := b) (c := c) (d := d) (e := e) (f := f)
  rcases h2 with h2 | ⟨h2, h2'⟩
  · have ha : 0 ≤ a := by unfold lp at h1; omega
    have he : 0 ≤ e := by unfold lp at h3; omega
    have p1 : 0 ≤ a * cx c d e f := Int.mul_nonneg ha (by omega)
    have p2 : 0 ≤ e * cx a b c d := Int.mul_nonneg he (by omega)
    have hpos : 0 < a ∨ 0 < e := by
      rcases h1 with h1 | ⟨h1, h1'⟩
      · exact Or.inl h1
      · exfalso
        subst h1
        unfold cx at g1
        have : 0 < b * c := Int.mul_pos h1' h2
        omega
    have hs : 0 < c * cx a b e f := by
      rcases hpos with q | q
      · have := Int.mul_pos q g2; omega
      · have := Int.mul_pos q g1; omega
    exact Int.pos_of_mul_pos_left (by rw [Int.mul_comm]; exact hs) h2
  · exfalso
    subst h2
    unfold cx at g2
    have he : 0 ≤ e := by unfold lp at h3; omega
    have : 0 ≤ d * e := Int.mul_nonneg (by omega) he
    omega
/-- a chain: directions to the right (or up), left turns; then any two directions turn left -/
def chn (dx dy : Nat → Int) (n : Nat) : Prop := (∀ a, a < n → lp (dx a) (dy a)) ∧ ∀ a, a + 1 < n → 0 < cx (dx a) (dy a) (dx (a + 1)) (dy (a + 1))
theorem chn_2 {dx dy : Nat → Int} {n : Nat} (h : chn dx dy n) : ∀ (k a : Nat), a + k + 1 < n → 0 < cx (dx a) (dy a) (dx (a + k + 1)) (dy (a + k + 1)) := by
  intro k
  induction k with
  | zero => intro a ha; exact h.2 a ha
  | succ k ih => intro a ha; exact cx_tr (h.1 a (by omega)) (h.1 (a + k + 1) (by omega)) (h.1 (a + (k + 1) + 1) (by omega)) (ih a (by omega)) (h.2 (a + k + 1) (by omega))
def df (X : Nat → Int) : Nat → Int := fun a => X (a + 1) - X a
theorem chn_3 {X Y : Nat → Int} {n : Nat} (h : chn (df X) (df Y) n) (a j : Nat) (haj : a < j) : ∀ k : Nat, j + k + 1 ≤ n → 0 < cx (df X a) (df Y a) (X (j + k + 1) - X j) (Y (j + k + 1) - Y j) := by
  intro k
  induction k with
  | zero =>
    intro hk
    have := chn_2 h (j - a - 1) a (by omega)
    rw [show a + (j - a - 1) + 1 = j by omega] at this
    exact this
  | succ k ih =>
    intro hk
    have h1 := ih (by omega)
    have h2 := chn_2 h (j + k + 1 - a - 1) a (by omega)
    rw [show a + (j + k + 1 - a - 1) + 1 = j + k + 1 by omega] at h2
    rw [show X (j + (k + 1) + 1) - X j = (X (j + k + 1) - X j) + df X (j + k + 1) by unfold df; rw [show j + (k + 1) + 1 = j + k + 1 + 1 by omega]; omega, show Y (j + (k + 1) + 1) - Y j = (Y (j + k + 1) - Y j) + df Y (j + k + 1) by unfold df; rw [show j + (k + 1) + 1 = j + k + 1 + 1 by omega]; omega, cx_add]
    omega
theorem chn_4 {X Y : Nat → Int} {n : Nat} (h : chn (df X) (df Y) n) (j k : Nat) (hjk : j < k) (hk : k ≤ n) : ∀ m : Nat, m + 1 ≤ j → 0 < cx (X j - X (j - m - 1)) (Y j - Y (j - m - 1)) (X k - X j) (Y k - Y j) := by
  intro m
  induction m with
  | zero =>
    intro hm
    have := chn_3 h (j - 1) j (by omega) (k - j - 1) (by omega)
    rw [show j + (k - j - 1) + 1 = k by omega] at this
    unfold df at this
    rw [show j - 1 + 1 = j by omega] at this
    exact this
  | succ m ih =>
    intro hm
    have h1 := ih (by omega)
    have h2 := chn_3 h (j - (m + 1) - 1) j (by omega) (k - j - 1) (by omega)
    rw [show j + (k - j - 1) + 1 = k by omega] at h2
    rw [show X j - X (j - (m + 1) - 1) = (X j - X (j - m - 1)) + df X (j - (m + 1) - 1) by unfold df; rw [show j - (m + 1) - 1 + 1 = j - m - 1 by omega]; omega, show Y j - Y (j - (m + 1) - 1) = (Y j - Y (j - m - 1)) + df Y (j - (m + 1) - 1) by unfold df; rw [show j - (m + 1) - 1 + 1 = j - m - 1 by omega]; omega, cx_add']
    omega
theorem tn_cx {X Y : Nat → Int} {i j k : Nat} : tn X Y i j k = cx (X j - X i) (Y j - Y i) (X k - X j) (Y k - Y j) := by
  unfold tn cx; grind
/-- any three of a chain turn left -/
theorem chn_t {X Y : Nat → Int} {n i j k : Nat} (h : chn (df X) (df Y) n) (h1 : i < j) (h2 : j < k) (h3 : k ≤ n) : 0 < tn X Y i j k := by
  rw [tn_cx]
  have := chn_4 h j k h2 h3 (j - i - 1) (by omega)
  rw [show j - (j - i - 1) - 1 = i by omega] at this
  exact this
theorem tn_rot {X Y : Nat → Int} {i j k : Nat} : tn X Y i j k = tn X Y k i j := by unfold tn; grind
theorem chn_lo {X Y : Nat → Int} {t : Nat} (h1 : ∀ a : Nat, a < t → lt2 (X a) (Y a) (X (a + 1)) (Y (a + 1))) (h2 : lft X Y 0 ((t : Int) + 1)) : chn (df X) (df Y) t := by
  refine ⟨fun a ha => ?_, fun a ha => ?_⟩
  · have := h1 a ha; unfold lt2 at this; unfold lp df; omega
  · have := h2 a (by omega) (by omega)
    rw [tn_cx] at this; exact this
/-- the upper chain, turned by half a turn, from the place t on -/
theorem chn_up {X Y : Nat → Int} {t : Nat} {n : Int} (h1 : ∀ a : Nat, t ≤ a → (a : Int) < n → lt2 (X (a + 1)) (Y (a + 1)) (X a) (Y a)) (h2 : lft X Y t (n + 1)) : chn (df (fun a => -X (t + a))) (df (fun a => -Y (t + a))) (n.toNat - t) := by
  refine ⟨fun a ha => ?_, fun a ha => ?_⟩
  · have := h1 (t + a) (by omega) (by omega); unfold lt2 at this; unfold lp df; dsimp only; rw [show t + (a + 1) = t + a + 1 by omega]; omega
  · have := h2 (t + a) (by omega) (by omega)
    rw [tn_cx] at this
    unfold df; dsimp only
    rw [show t + (a + 1) = t + a + 1 by omega, show t + (a + 1 + 1) = t + a + 2 by omega, ← cx_neg]
    rw [show -(-X (t + a + 1) - -X (t + a)) = X (t + a + 1) - X (t + a) by omega, show -(-Y (t + a + 1) - -Y (t + a)) = Y (t + a + 1) - Y (t + a) by omega, show -(-X (t + a + 2) - -X (t + a + 1)) = X (t + a + 2) - X (t + a + 1) by omega, show -(-Y (t + a + 2) - -Y (t + a + 1)) = Y (t + a + 2) - Y (t + a + 1) by omega]
    exact this
theorem Ch_d {n : Int} {X Y : Nat → Int} (h : Ch n X Y) (hn : 2 < n) : 0 < tn X Y 0 1 2 := by
  rcases h with h | ⟨t, h1, h2, h3, h4, h5, h6, h7, h8⟩
  · omega
  · by_cases e : 2 ≤ t
    · exact h4 0 (by omega) (by omega)
    · have et : t = 1 := by omega
      subst et
      have hc := chn_up h5 h6
      have := chn_t hc (i := 0) (j := 1) (k := n.toNat - 1) (by omega) (by omega) (Nat.le_refl _)
      rw [tn_cx] at this
      rw [show 1 + (n.toNat - 1) = n.toNat by omega, ← cx_neg] at this
      rw [show 1 + 0 = 1 from rfl, show 1 + 1 = 2 from rfl, h7, h8] at this
      rw [tn_cx]
      unfold cx at this ⊢
      grind
theorem Sh_d {u : MS} {s : Int} (h : Sh u s) (hn : 2 < mN u s) : 0 < (mX u s 1 - mX u s 0) * (mY u s 2 - mY u s 0) - (mY u s 1 - mY u s 0) * (mX u s 2 - mX u s 0) := Ch_d h.2.2 hn


theorem IM_tk {u : MS} {f0 f1 f2 f3 : Nat → Int} {s b z : Int} (hI : IM u) (h0 : 0 ≤ s ∧ s ≤ 7) (hb : b = 0 ∨ b = 1) (hn : 0 ≤ u.2.2 9) (hb0 : b = 0 → bd 40 (u.1 7) (u.1 8) (u.2.2 9)) (hc : Ch (u.2.2 9) (u.1 7) (u.1 8)) (h : (z = -3 ∧ ¬ tk_ok b 40 (u.1 7) (u.1 8) (u.2.2 9) (u.2.2 9) ∧ f0 = u.1 0 ∧ f1 = u.1 1 ∧ f2 = u.1 2 ∧ f3 = u.1 3) ∨ (z = u.2.2 9 ∧ tk_ok b 40 (u.1 7) (u.1 8) (u.2.2 9) (u.2.2 9) ∧ tk_new u f0 f1 f2 f3 s)) : IM (uI (uI (uI (uI u 0 f0) 1 f1) 2 f2) 3 f3) := by
  rcases h with ⟨_, _, e0, e1, e2, e3⟩ | ⟨k1, k2, k3⟩
  · rw [e0, e1, e2, e3]; exact hI
  · refine IM_new hI h0.1 h0.2 ⟨hn, k2.1⟩ ?_ hc k3
    rcases hb with e | e
    · exact hb0 e
    · exact k2.2 e

set_option maxHeartbeats 4000000 in
set_option maxRecDepth 100000 in
theorem c_X12_corners (l : Launch) (D : JD) (o : Nat) (q : Nat → Nat) (u : MS) (s : Int) (p0 : IM u) (p1 : -2147483648 ≤ s ∧ s ≤ 2147483647) : Met l yX12_corners (jw yX12_corners cX12_corners 2 (some .int)) (jr 2 42) (jP [.ref o, .int (J s)] D (fun H => va_P D.1 j_cl (mW D o q u) H)) (jRi (fun z => (0 ≤ s ∧ s ≤ 7 ∧ z = mN u s) ∨ (¬ (0 ≤ s ∧ s ≤ 7) ∧ z = -1))) 0 0 (fun _ => False) := by
  refine Met.ofW (cc := cX12_corners) (maxL := 2) (ret := (some .int)) (by decide) rfl ?_
  intro pr en st mi args below meth co s₁ B hml hv
  obtain ⟨rfl, hG, hP⟩ := hv
  have hr := B.returns
  have hlk := B.notSynchronized
  have SS : jS pr mi co cX12_corners 2 st _ RX12 := ⟨B.exec, B.bytes, hml, findClass_of_methodNamed B.named, fun w hw => atoms_spec (ws := (jw yX12_corners cX12_corners 2 (some .int))) B.pre w (List.mem_cons_of_mem _ hw)⟩
  have hl := lv_entry ([.ref o, .int (J s)]) (n := 2) (Nat.le_of_ble_eq_true rfl)
  rw [lg_entry_eq]
  generalize (lg_sl ([.ref o, .int (J s)]) ++ List.replicate (2 - (lg_sl ([.ref o, .int (J s)])).length) Slot.unset).toArray = ls at hl ⊢
  have hl : lv_has ls 2 [(0, .ref o), (1, .int (J s))] := hl
  refine lv_iload_n SS.1 SS.2.1 dX12_corners_0 rfl (lv_at hl 1 rfl) ?_
  refine j_sRi SS (As := [.int (J s)]) (rest := []) (c_X12_isShape l D s (show -2147483648 ≤ s ∧ s ≤ 2147483647 from (by omega))) mf_X12_isShape kw_1156 hG trivial rfl hl.1 ⟨⟨Nat.le_of_ble_eq_true rfl, Nat.le_of_ble_eq_true rfl⟩, Nat.le_of_ble_eq_true rfl, Nat.le_refl _, Nat.le_refl _⟩ rfl dX12_corners_1 (fun z_1 h_1 => ?_)
  have h_1 : (z_1 = 1 ∧ (0 ≤ s ∧ s ≤ 7)) ∨ (z_1 = 0 ∧ ¬ (0 ≤ s ∧ s ≤ 7)) := h_1
  refine j_if_eq SS (tgt := 16) (x := z_1) dX12_corners_4 (by decide) (by omega) (fun c_4 => ?_) (fun c_4 => ?_)
  · skip
    refine j_iconst SS dX12_corners_16 ?_
    exact W.iret SS.1 SS.2.1 hr (fun t ht hW => ⟨_, rfl, ⟨(-1), rfl, (by omega)⟩, ht⟩) (fun _ h => nomatch h) dX12_corners_17 hlk
  · skip
    refine lv_aload_n SS.1 SS.2.1 dX12_corners_7 rfl (lv_at hl 0 rfl) ?_
    refine j_get SS hG hP 0 (v := .ref (q 0)) (C := RX12) (T := TX12) (N := 31) rfl rfl inX12 0 (by decide) (ref := RX12) kw_1058 rfl rfl dX12_corners_8 ?_
    refine lv_iload_n SS.1 SS.2.1 dX12_corners_11 rfl (lv_at hl 1 rfl) ?_
    refine j_iald SS hG hP 1 (n := 8) (f := (u.1 0)) rfl (z := s) (by omega) (by omega) dX12_corners_12 ?_
    have hN_12 := (show Sh u s from p0.1 _ (by omega) (by omega)).1
    refine lv_goto (tgt := 17) SS.1 SS.2.1 dX12_corners_13 (by decide) ?_
    exact W.iret SS.1 SS.2.1 hr (fun t ht hW => ⟨_, rfl, ⟨(mN u s), rfl, (by omega)⟩, ht⟩) (fun _ h => nomatch h) dX12_corners_17 hlk

set_option maxHeartbeats 4000000 in
set_option maxRecDepth 100000 in
theorem c_X12_where (l : Launch) (D : JD) (o : Nat) (q : Nat → Nat) (u : MS) (s : Int) (x : Int) (y : Int) (p0 : IM u) (p1 : -2147483648 ≤ s ∧ s ≤ 2147483647) (p2 : -2147483648 ≤ x ∧ x ≤ 2147483647) (p3 : -2147483648 ≤ y ∧ y ≤ 2147483647) : Met l yX12_where (jw yX12_where cX12_where 4 (some .int)) (jr 2 51) (jP [.ref o, .int (J s), .int (J x), .int (J y)] D (fun H => va_P D.1 j_cl (mW D o q u) H)) (jRi (fun z => True)) 0 0 (fun _ => False) := by
  refine Met.ofW (cc := cX12_where) (maxL := 4) (ret := (some .int)) (by decide) rfl ?_
  intro pr en st mi args below meth co s₁ B hml hv
  obtain ⟨rfl, hG, hP⟩ := hv
  have hr := B.returns
  have hlk := B.notSynchronized
  have SS : jS pr mi co cX12_where 4 st _ RX12 := ⟨B.exec, B.bytes, hml, findClass_of_methodNamed B.named, fun w hw => atoms_spec (ws := (jw yX12_where cX12_where 4 (some .int))) B.pre w (List.mem_cons_of_mem _ hw)⟩
  have hl := lv_entry ([.ref o, .int (J s), .int (J x), .int (J y)]) (n := 4) (Nat.le_of_ble_eq_true rfl)
  rw [lg_entry_eq]
  generalize (lg_sl ([.ref o, .int (J s), .int (J x), .int (J y)]) ++ List.replicate (4 - (lg_sl ([.ref o, .int (J s), .int (J x), .int (J y)])).length) Slot.unset).toArray = ls at hl ⊢
  have hl : lv_has ls 4 [(0, .ref o), (1, .int (J s)), (2, .int (J x)), (3, .int (J y))] := hl
  refine lv_iload_n SS.1 SS.2.1 dX12_where_0 rfl (lv_at hl 1 rfl) ?_
  refine j_sRi SS (As := [.int (J s)]) (rest := []) (c_X12_isShape l D s (show -2147483648 ≤ s ∧ s ≤ 2147483647 from (by omega))) mf_X12_isShape kw_1156 hG trivial rfl hl.1 ⟨⟨Nat.le_of_ble_eq_true rfl, Nat.le_of_ble_eq_true rfl⟩, Nat.le_of_ble_eq_true rfl, Nat.le_refl _, Nat.le_refl _⟩ rfl dX12_where_1 (fun z_1 h_1 => ?_)
  have h_1 : (z_1 = 1 ∧ (0 ≤ s ∧ s ≤ 7)) ∨ (z_1 = 0 ∧ ¬ (0 ≤ s ∧ s ≤ 7)) := h_1
  refine j_if_eq SS (tgt := 25) (x := z_1) dX12_where_4 (by decide) (by omega) (fun c_4 => ?_) (fun c_4 => ?_)
  · skip
    refine j_iconst SS dX12_where_25 ?_
    exact W.iret SS.1 SS.2.1 hr (fun t ht hW => ⟨_, rfl, ⟨(-1), rfl, (trivial)⟩, ht⟩) (fun _ h => nomatch h) dX12_where_26 hlk
  · skip
    refine lv_iload_n SS.1 SS.2.1 dX12_where_7 rfl (lv_at hl 2 rfl) ?_
    refine lv_iload_n SS.1 SS.2.1 dX12_where_8 rfl (lv_at hl 3 rfl) ?_
    refine j_sRi SS (As := [.int (J x), .int (J y)]) (rest := []) (c_X12_isPlace l D x y (show -2147483648 ≤ x ∧ x ≤ 2147483647 from (by omega)) (show -2147483648 ≤ y ∧ y ≤ 2147483647 from (by omega))) mf_X12_isPlace kw_1166 hG trivial rfl hl.1 ⟨⟨Nat.le_of_ble_eq_true rfl, Nat.le_of_ble_eq_true rfl⟩, Nat.le_of_ble_eq_true rfl, Nat.le_refl _, Nat.le_refl _⟩ rfl dX12_where_9 (fun z_9 h_9 => ?_)
    have h_9 : (z_9 = 1 ∧ (-40 ≤ x ∧ x ≤ 40 ∧ -40 ≤ y ∧ y ≤ 40)) ∨ (z_9 = 0 ∧ ¬ (-40 ≤ x ∧ x ≤ 40 ∧ -40 ≤ y ∧ y ≤ 40)) := h_9
    refine j_if_eq SS (tgt := 25) (x := z_9) dX12_where_12 (by decide) (by omega) (fun c_12 => ?_) (fun c_12 => ?_)
    · skip
      refine j_iconst SS dX12_where_25 ?_
      exact W.iret SS.1 SS.2.1 hr (fun t ht hW => ⟨_, rfl, ⟨(-1), rfl, (trivial)⟩, ht⟩) (fun _ h => nomatch h) dX12_where_26 hlk
    · skip
      refine lv_aload_n SS.1 SS.2.1 dX12_where_15 rfl (lv_at hl 0 rfl) ?_
      refine lv_iload_n SS.1 SS.2.1 dX12_where_16 rfl (lv_at hl 1 rfl) ?_
      refine lv_iload_n SS.1 SS.2.1 dX12_where_17 rfl (lv_at hl 2 rfl) ?_
      refine lv_iload_n SS.1 SS.2.1 dX12_where_18 rfl (lv_at hl 3 rfl) ?_
      refine j_vRi SS (As := [.int (J s), .int (J x), .int (J y)]) (rest := []) (c_X12_whereOf l D o q u s x y (show 0 ≤ s ∧ s ≤ 7 from (by omega)) (show Sh u s from (p0.1 _ (by omega) (by omega))) (show -100 ≤ x ∧ x ≤ 100 from (by omega)) (show -100 ≤ y ∧ y ≤ 100 from (by omega))) mf_X12_whereOf kw_1255 hG hP hP (ci := 8) (q0 := 0) rfl rfl rfl rfl hl.1 ⟨⟨Nat.le_of_ble_eq_true rfl, Nat.le_of_ble_eq_true rfl⟩, Nat.le_of_ble_eq_true rfl, Nat.le_refl _, Nat.le_refl _⟩ rfl dX12_where_19 (fun z_19 h_19 => ?_)
      have h_19 : wR u s x y z_19 := h_19
      refine lv_goto (tgt := 26) SS.1 SS.2.1 dX12_where_22 (by decide) ?_
      exact W.iret SS.1 SS.2.1 hr (fun t ht hW => ⟨_, rfl, ⟨z_19, rfl, (trivial)⟩, ht⟩) (fun _ h => nomatch h) dX12_where_26 hlk

set_option maxHeartbeats 4000000 in
set_option maxRecDepth 100000 in
theorem c_X12_isWay (l : Launch) (D : JD) (a : Int) (b : Int) (p0 : -2147483648 < a ∧ a ≤ 2147483647) (p1 : -2147483648 < b ∧ b ≤ 2147483647) : Met l yX12_isWay (jw yX12_isWay cX12_isWay 2 (some .boolean)) (jr 2 44) (jP [.int (J a), .int (J b)] D (fun _ => True)) (jRi (fun z => (z = 1 ∧ ((Int.gcd a b : Int) = 1 ∧ (0 < a ∨ (a = 0 ∧ b = 1)))) ∨ (z = 0 ∧ ¬ ((Int.gcd a b : Int) = 1 ∧ (0 < a ∨ (a = 0 ∧ b = 1)))))) 0 0 (fun _ => False) := by
  refine Met.ofW (cc := cX12_isWay) (maxL := 2) (ret := (some .boolean)) (by decide) rfl ?_
  intro pr en st mi args below meth co s₁ B hml hv
  obtain ⟨rfl, hG, hP⟩ := hv
  have hr := B.returns
  have hlk := B.notSynchronized
  have SS : jS pr mi co cX12_isWay 2 st _ RX12 := ⟨B.exec, B.bytes, hml, findClass_of_methodNamed B.named, fun w hw => atoms_spec (ws := (jw yX12_isWay cX12_isWay 2 (some .boolean))) B.pre w (List.mem_cons_of_mem _ hw)⟩
  have hl := lv_entry ([.int (J a), .int (J b)]) (n := 2) (Nat.le_of_ble_eq_true rfl)
  rw [lg_entry_eq]
  generalize (lg_sl ([.int (J a), .int (J b)]) ++ List.replicate (2 - (lg_sl ([.int (J a), .int (J b)])).length) Slot.unset).toArray = ls at hl ⊢
  have hl : lv_has ls 2 [(0, .int (J a)), (1, .int (J b))] := hl
  refine lv_iload_n SS.1 SS.2.1 dX12_isWay_0 rfl (lv_at hl 0 rfl) ?_
  refine lv_iload_n SS.1 SS.2.1 dX12_isWay_1 rfl (lv_at hl 1 rfl) ?_
  refine j_sRi SS (As := [.int (J a), .int (J b)]) (rest := []) (c_X12_common l D a b (show -2147483648 < a ∧ a ≤ 2147483647 from (by omega)) (show -2147483648 < b ∧ b ≤ 2147483647 from (by omega))) mf_X12_common kw_1230 hG trivial rfl hl.1 ⟨⟨Nat.le_of_ble_eq_true rfl, Nat.le_of_ble_eq_true rfl⟩, Nat.le_of_ble_eq_true rfl, Nat.le_refl _, Nat.le_refl _⟩ rfl dX12_isWay_2 (fun z_2 h_2 => ?_)
  have h_2 : z_2 = (Int.gcd a b : Int) := h_2
  have hg := gcd_b (a := a) (b := b) (K := 2147483647) (by omega) (by omega)
  refine j_iconst SS dX12_isWay_5 ?_
  refine j_icmp_ne SS (tgt := 26) (x := z_2) (y := 1) dX12_isWay_6 (by decide) (by omega) (by decide) (fun c_6 => ?_) (fun c_6 => ?_)
  · skip
    refine j_iconst SS dX12_isWay_26 ?_
    exact W.zret SS.1 SS.2.1 hr (j_nz (by decide)) (fun t ht hW => ⟨_, rfl, ⟨0, rfl, (by omega)⟩, ht⟩) (fun _ h => nomatch h) dX12_isWay_27 hlk
  · skip
    refine lv_iload_n SS.1 SS.2.1 dX12_isWay_9 rfl (lv_at hl 0 rfl) ?_
    refine j_if_gt SS (tgt := 22) (x := a) dX12_isWay_10 (by decide) (by omega) (fun c_10 => ?_) (fun c_10 => ?_)
    · skip
      refine j_iconst SS dX12_isWay_22 ?_
      refine lv_goto (tgt := 27) SS.1 SS.2.1 dX12_isWay_23 (by decide) ?_
      exact W.zret SS.1 SS.2.1 hr (j_nz (by decide)) (fun t ht hW => ⟨_, rfl, ⟨1, rfl, (by omega)⟩, ht⟩) (fun _ h => nomatch h) dX12_isWay_27 hlk
    · skip
      refine lv_iload_n SS.1 SS.2.1 dX12_isWay_13 rfl (lv_at hl 0 rfl) ?_
      refine j_if_ne SS (tgt := 26) (x := a) dX12_isWay_14 (by decide) (by omega) (fun c_14 => ?_) (fun c_14 => ?_)
      · skip
        refine j_iconst SS dX12_isWay_26 ?_
        exact W.zret SS.1 SS.2.1 hr (j_nz (by decide)) (fun t ht hW => ⟨_, rfl, ⟨0, rfl, (by omega)⟩, ht⟩) (fun _ h => nomatch h) dX12_isWay_27 hlk
      · skip
        refine lv_iload_n SS.1 SS.2.1 dX12_isWay_17 rfl (lv_at hl 1 rfl) ?_
        refine j_iconst SS dX12_isWay_18 ?_
        refine j_icmp_ne SS (tgt := 26) (x := b) (y := 1) dX12_isWay_19 (by decide) (by omega) (by decide) (fun c_19 => ?_) (fun c_19 => ?_)
        · skip
          refine j_iconst SS dX12_isWay_26 ?_
          exact W.zret SS.1 SS.2.1 hr (j_nz (by decide)) (fun t ht hW => ⟨_, rfl, ⟨0, rfl, (by omega)⟩, ht⟩) (fun _ h => nomatch h) dX12_isWay_27 hlk
        · skip
          refine j_iconst SS dX12_isWay_22 ?_
          refine lv_goto (tgt := 27) SS.1 SS.2.1 dX12_isWay_23 (by decide) ?_
          exact W.zret SS.1 SS.2.1 hr (j_nz (by decide)) (fun t ht hW => ⟨_, rfl, ⟨1, rfl, (by omega)⟩, ht⟩) (fun _ h => nomatch h) dX12_isWay_27 hlk

set_option maxHeartbeats 4000000 in
set_option maxRecDepth 100000 in
theorem c_X12_widthOf (l : Launch) (D : JD) (o : Nat) (q : Nat → Nat) (u : MS) (s : Int) (a : Int) (b : Int) (p0 : 0 ≤ s ∧ s ≤ 7) (p1 : Sh u s) (p2 : 0 < mN u s) (p3 : -1000000 ≤ a ∧ a ≤ 1000000) (p4 : -1000000 ≤ b ∧ b ≤ 1000000) : Met l yX12_widthOf (jw yX12_widthOf cX12_widthOf 8 (some .int)) (jr 1 22) (jP [.ref o, .int (J s), .int (J a), .int (J b)] D (fun H => va_P D.1 j_cl (mW D o q u) H)) (jRi (fun z => 0 ≤ z ∧ z ≤ 400000000 ∧ (-1 ≤ a ∧ a ≤ 1 → -1 ≤ b ∧ b ≤ 1 → z ≤ 320))) 0 0 (fun _ => False) := by
  refine Met.ofW (cc := cX12_widthOf) (maxL := 8) (ret := (some .int)) (by decide) rfl ?_
  intro pr en st mi args below meth co s₁ B hml hv
  obtain ⟨rfl, hG, hP⟩ := hv
  have hr := B.returns
  have hlk := B.notSynchronized
  have SS : jS pr mi co cX12_widthOf 8 st _ RX12 := ⟨B.exec, B.bytes, hml, findClass_of_methodNamed B.named, fun w hw => atoms_spec (ws := (jw yX12_widthOf cX12_widthOf 8 (some .int))) B.pre w (List.mem_cons_of_mem _ hw)⟩
  have hl := lv_entry ([.ref o, .int (J s), .int (J a), .int (J b)]) (n := 8) (Nat.le_of_ble_eq_true rfl)
  rw [lg_entry_eq]
  generalize (lg_sl ([.ref o, .int (J s), .int (J a), .int (J b)]) ++ List.replicate (8 - (lg_sl ([.ref o, .int (J s), .int (J a), .int (J b)])).length) Slot.unset).toArray = ls at hl ⊢
  have hl : lv_has ls 8 [(0, .ref o), (1, .int (J s)), (2, .int (J a)), (3, .int (J b))] := hl
  have hN := p1.1
  have hC := p1.2.2
  have hb0 := p1.2.1 (by omega) 0 (by omega)
  have m1 := mulb (A := 1000000) (B := 40) p3 hb0.1
  have m2 := mulb (A := 1000000) (B := 40) p4 hb0.2
  refine lv_iload_n SS.1 SS.2.1 dX12_widthOf_0 rfl (lv_at hl 2 rfl) ?_
  refine lv_aload_n SS.1 SS.2.1 dX12_widthOf_1 rfl (lv_at hl 0 rfl) ?_
  refine lv_iload_n SS.1 SS.2.1 dX12_widthOf_2 rfl (lv_at hl 1 rfl) ?_
  refine j_iconst SS dX12_widthOf_3 ?_
  refine j_vRi SS (As := [.int (J s), .int (J 0)]) (rest := [.int (J a)]) (c_X12_x l D o q u s 0 (show 0 ≤ s ∧ s ≤ 7 from (by omega)) (show 0 ≤ (0 : Int) ∧ (0 : Int) ≤ 1000000 from (by omega)) (show 0 < mN u s ∧ mN u s ≤ 24 from (by first | omega | (have hq := (show Sh u s from p1).1; omega)))) mf_X12_x kw_1177 hG hP hP (ci := 8) (q0 := 0) rfl rfl rfl rfl hl.1 ⟨⟨Nat.le_of_ble_eq_true rfl, Nat.le_of_ble_eq_true rfl⟩, Nat.le_of_ble_eq_true rfl, Nat.le_refl _, Nat.le_refl _⟩ rfl dX12_widthOf_4 (fun z_4 h_4 => ?_)
  have h_4 : z_4 = mX u s (0 : Int) := h_4
  have hb_4 := (show Sh u s from p1).2.1 (by omega) (0 : Int) (by omega)
  refine j_imul SS (x := a) (y := z_4) dX12_widthOf_7 ?_
  obtain ⟨v5a, ev5a⟩ : ∃ z : Int, z = (a * z_4) := ⟨_, rfl⟩
  rw [← ev5a]
  refine lv_iload_n SS.1 SS.2.1 dX12_widthOf_8 rfl (lv_at hl 3 rfl) ?_
  refine lv_aload_n SS.1 SS.2.1 dX12_widthOf_9 rfl (lv_at hl 0 rfl) ?_
  refine lv_iload_n SS.1 SS.2.1 dX12_widthOf_10 rfl (lv_at hl 1 rfl) ?_
  refine j_iconst SS dX12_widthOf_11 ?_
  refine j_vRi SS (As := [.int (J s), .int (J 0)]) (rest := [.int (J b), .int (J v5a)]) (c_X12_y l D o q u s 0 (show 0 ≤ s ∧ s ≤ 7 from (by omega)) (show 0 ≤ (0 : Int) ∧ (0 : Int) ≤ 1000000 from (by omega)) (show 0 < mN u s ∧ mN u s ≤ 24 from (by first | omega | (have hq := (show Sh u s from p1).1; omega)))) mf_X12_y kw_1181 hG hP hP (ci := 8) (q0 := 0) rfl rfl rfl rfl hl.1 ⟨⟨Nat.le_of_ble_eq_true rfl, Nat.le_of_ble_eq_true rfl⟩, Nat.le_of_ble_eq_true rfl, Nat.le_refl _, Nat.le_refl _⟩ rfl dX12_widthOf_12 (fun z_12 h_12 => ?_)
  have h_12 : z_12 = mY u s (0 : Int) := h_12
  have hb_12 := (show Sh u s from p1).2.1 (by omega) (0 : Int) (by omega)
  refine j_imul SS (x := b) (y := z_12) dX12_widthOf_15 ?_
  obtain ⟨v5b, ev5b⟩ : ∃ z : Int, z = (b * z_12) := ⟨_, rfl⟩
  rw [← ev5b]
  refine j_iadd SS (x := v5a) (y := v5b) dX12_widthOf_16 ?_
  obtain ⟨v4, ev4⟩ : ∃ z : Int, z = (v5a + v5b) := ⟨_, rfl⟩
  rw [← ev4]
  rw [h_4] at ev5a
  rw [h_12] at ev5b
  refine lv_istore (lv' := [(4, .int (J v4)), (0, .ref o), (1, .int (J s)), (2, .int (J a)), (3, .int (J b))]) SS.1 SS.2.1 dX12_widthOf_17 hl (by decide) rfl (fun ls hl => ?_)
  refine lv_iload SS.1 SS.2.1 dX12_widthOf_19 (lv_at hl 0 rfl) ?_
  refine lv_istore (lv' := [(5, .int (J v4)), (4, .int (J v4)), (0, .ref o), (1, .int (J s)), (2, .int (J a)), (3, .int (J b))]) SS.1 SS.2.1 dX12_widthOf_21 hl (by decide) rfl (fun ls hl => ?_)
  refine j_iconst SS dX12_widthOf_23 ?_
  refine lv_istore (lv' := [(6, .int (J 1)), (5, .int (J v4)), (4, .int (J v4)), (0, .ref o), (1, .int (J s)), (2, .int (J a)), (3, .int (J b))]) SS.1 SS.2.1 dX12_widthOf_24 hl (by decide) rfl (fun ls hl => ?_)
  have L_26 : ∀ (nn : Nat) (lo : Int) (hi : Int) (i : Int) (ls : Array Slot) (hl : lv_has ls 8 [(0, .ref o), (1, .int (J s)), (2, .int (J a)), (3, .int (J b)), (4, .int (J lo)), (5, .int (J hi)), (6, .int (J i))]) (i26_0 : 1 ≤ i ∧ i ≤ 100) (i26_1 : -200000000 ≤ lo ∧ lo ≤ 200000000) (i26_2 : -200000000 ≤ hi ∧ hi ≤ 200000000) (i26_3 : lo ≤ hi) (i26_4 : -1 ≤ a ∧ a ≤ 1 → -1 ≤ b ∧ b ≤ 1 → -160 ≤ lo ∧ hi ≤ 160), ((100 : Int) - i).toNat < nn → W pr l en (headSpec (jw yX12_widthOf cX12_widthOf 8 (some .int)) (jr 1 22)).room st mi (([.ref o, .int (J s), .int (J a), .int (J b)] : List Value).toArray) below meth co st.heap [] 0 0 (MQ below (jRi (fun z => 0 ≤ z ∧ z ≤ 400000000 ∧ (-1 ≤ a ∧ a ≤ 1 → -1 ≤ b ∧ b ≤ 1 → z ≤ 320))) (([.ref o, .int (J s), .int (J a), .int (J b)] : List Value).toArray) st 0 0 (fun _ => False)) (F0 mi 26 ls []) := by
    intro nn
    induction nn with
    | zero => intros; omega
    | succ nn ih_26 =>
      intro lo hi i ls hl i26_0 i26_1 i26_2 i26_3 i26_4 hm
      refine lv_iload SS.1 SS.2.1 dX12_widthOf_26 (lv_at hl 6 rfl) ?_
      refine lv_aload_n SS.1 SS.2.1 dX12_widthOf_28 rfl (lv_at hl 0 rfl) ?_
      refine j_get SS hG hP 0 (v := .ref (q 0)) (C := RX12) (T := TX12) (N := 31) rfl rfl inX12 0 (by decide) (ref := RX12) kw_1058 rfl rfl dX12_widthOf_29 ?_
      refine lv_iload_n SS.1 SS.2.1 dX12_widthOf_32 rfl (lv_at hl 1 rfl) ?_
      refine j_iald SS hG hP 1 (n := 8) (f := (u.1 0)) rfl (z := s) (by omega) (by omega) dX12_widthOf_33 ?_
      have hN_33 := (show Sh u s from p1).1
      refine j_icmp_ge SS (tgt := 96) (x := i) (y := (mN u s)) dX12_widthOf_34 (by decide) (by omega) (by omega) (fun c_34 => ?_) (fun c_34 => ?_)
      · skip
        refine lv_iload SS.1 SS.2.1 dX12_widthOf_96 (lv_at hl 5 rfl) ?_
        refine lv_iload SS.1 SS.2.1 dX12_widthOf_98 (lv_at hl 4 rfl) ?_
        refine j_isub SS (x := hi) (y := lo) dX12_widthOf_100 ?_
        exact W.iret SS.1 SS.2.1 hr (fun t ht hW => ⟨_, rfl, ⟨(hi - lo), rfl, (⟨by omega, by omega, fun qa qb => by have k := i26_4 qa qb; omega⟩)⟩, ht⟩) (fun _ h => nomatch h) dX12_widthOf_101 hlk
      · skip
        have hbi := p1.2.1 (by omega) i (by omega)
        have m3 := mulb (A := 1000000) (B := 40) p3 hbi.1
        have m4 := mulb (A := 1000000) (B := 40) p4 hbi.2
        refine lv_iload_n SS.1 SS.2.1 dX12_widthOf_37 rfl (lv_at hl 2 rfl) ?_
        refine lv_aload_n SS.1 SS.2.1 dX12_widthOf_38 rfl (lv_at hl 0 rfl) ?_
        refine lv_iload_n SS.1 SS.2.1 dX12_widthOf_39 rfl (lv_at hl 1 rfl) ?_
        refine lv_iload SS.1 SS.2.1 dX12_widthOf_40 (lv_at hl 6 rfl) ?_
        refine j_vRi SS (As := [.int (J s), .int (J i)]) (rest := [.int (J a)]) (c_X12_x l D o q u s i (show 0 ≤ s ∧ s ≤ 7 from (by omega)) (show 0 ≤ i ∧ i ≤ 1000000 from (by omega)) (show 0 < mN u s ∧ mN u s ≤ 24 from (by first | omega | (have hq := (show Sh u s from p1).1; omega)))) mf_X12_x kw_1177 hG hP hP (ci := 8) (q0 := 0) rfl rfl rfl rfl hl.1 ⟨⟨Nat.le_of_ble_eq_true rfl, Nat.le_of_ble_eq_true rfl⟩, Nat.le_of_ble_eq_true rfl, Nat.le_refl _, Nat.le_refl _⟩ rfl dX12_widthOf_42 (fun z_42 h_42 => ?_)
        have h_42 : z_42 = mX u s i := h_42
        have hb_42 := (show Sh u s from p1).2.1 (by omega) i (by omega)
        refine j_imul SS (x := a) (y := z_42) dX12_widthOf_45 ?_
        obtain ⟨v6a, ev6a⟩ : ∃ z : Int, z = (a * z_42) := ⟨_, rfl⟩
        rw [← ev6a]
        refine lv_iload_n SS.1 SS.2.1 dX12_widthOf_46 rfl (lv_at hl 3 rfl) ?_
        refine lv_aload_n SS.1 SS.2.1 dX12_widthOf_47 rfl (lv_at hl 0 rfl) ?_
        refine lv_iload_n SS.1 SS.2.1 dX12_widthOf_48 rfl (lv_at hl 1 rfl) ?_
        refine lv_iload SS.1 SS.2.1 dX12_widthOf_49 (lv_at hl 6 rfl) ?_
        refine j_vRi SS (As := [.int (J s), .int (J i)]) (rest := [.int (J b), .int (J v6a)]) (c_X12_y l D o q u s i (show 0 ≤ s ∧ s ≤ 7 from (by omega)) (show 0 ≤ i ∧ i ≤ 1000000 from (by omega)) (show 0 < mN u s ∧ mN u s ≤ 24 from (by first | omega | (have hq := (show Sh u s from p1).1; omega)))) mf_X12_y kw_1181 hG hP hP (ci := 8) (q0 := 0) rfl rfl rfl rfl hl.1 ⟨⟨Nat.le_of_ble_eq_true rfl, Nat.le_of_ble_eq_true rfl⟩, Nat.le_of_ble_eq_true rfl, Nat.le_refl _, Nat.le_refl _⟩ rfl dX12_widthOf_51 (fun z_51 h_51 => ?_)
        have h_51 : z_51 = mY u s i := h_51
        have hb_51 := (show Sh u s from p1).2.1 (by omega) i (by omega)
        refine j_imul SS (x := b) (y := z_51) dX12_widthOf_54 ?_
        obtain ⟨v6b, ev6b⟩ : ∃ z : Int, z = (b * z_51) := ⟨_, rfl⟩
        rw [← ev6b]
        refine j_iadd SS (x := v6a) (y := v6b) dX12_widthOf_55 ?_
        obtain ⟨v7, ev7⟩ : ∃ z : Int, z = (v6a + v6b) := ⟨_, rfl⟩
        rw [← ev7]
        rw [h_42] at ev6a
        rw [h_51] at ev6b
        refine lv_istore (lv' := [(7, .int (J v7)), (0, .ref o), (1, .int (J s)), (2, .int (J a)), (3, .int (J b)), (4, .int (J lo)), (5, .int (J hi)), (6, .int (J i))]) SS.1 SS.2.1 dX12_widthOf_56 hl (by decide) rfl (fun ls hl => ?_)
        refine lv_iload SS.1 SS.2.1 dX12_widthOf_58 (lv_at hl 0 rfl) ?_
        refine lv_iload SS.1 SS.2.1 dX12_widthOf_60 (lv_at hl 5 rfl) ?_
        have L_72 : ∀ (c1 : Int) (ls : Array Slot) (hl : lv_has ls 8 [(0, .ref o), (1, .int (J s)), (2, .int (J a)), (3, .int (J b)), (4, .int (J lo)), (5, .int (J hi)), (6, .int (J i)), (7, .int (J v7))]) (i72_0 : c1 ≤ lo ∧ (c1 = lo ∨ c1 = v7)) (i72_1 : c1 ≤ v7), W pr l en (headSpec (jw yX12_widthOf cX12_widthOf 8 (some .int)) (jr 1 22)).room st mi (([.ref o, .int (J s), .int (J a), .int (J b)] : List Value).toArray) below meth co st.heap [] 0 0 (MQ below (jRi (fun z => 0 ≤ z ∧ z ≤ 400000000 ∧ (-1 ≤ a ∧ a ≤ 1 → -1 ≤ b ∧ b ≤ 1 → z ≤ 320))) (([.ref o, .int (J s), .int (J a), .int (J b)] : List Value).toArray) st 0 0 (fun _ => False)) (F0 mi 72 ls [.int (J c1)]) := by
          intro c1 ls hl i72_0 i72_1
          refine lv_istore (lv' := [(4, .int (J c1)), (0, .ref o), (1, .int (J s)), (2, .int (J a)), (3, .int (J b)), (5, .int (J hi)), (6, .int (J i)), (7, .int (J v7))]) SS.1 SS.2.1 dX12_widthOf_72 hl (by decide) rfl (fun ls hl => ?_)
          refine lv_iload SS.1 SS.2.1 dX12_widthOf_74 (lv_at hl 7 rfl) ?_
          refine lv_iload SS.1 SS.2.1 dX12_widthOf_76 (lv_at hl 5 rfl) ?_
          have L_88 : ∀ (c2 : Int) (ls : Array Slot) (hl : lv_has ls 8 [(0, .ref o), (1, .int (J s)), (2, .int (J a)), (3, .int (J b)), (4, .int (J c1)), (5, .int (J hi)), (6, .int (J i)), (7, .int (J v7))]) (i88_0 : hi ≤ c2 ∧ (c2 = hi ∨ c2 = v7)) (i88_1 : v7 ≤ c2), W pr l en (headSpec (jw yX12_widthOf cX12_widthOf 8 (some .int)) (jr 1 22)).room st mi (([.ref o, .int (J s), .int (J a), .int (J b)] : List Value).toArray) below meth co st.heap [] 0 0 (MQ below (jRi (fun z => 0 ≤ z ∧ z ≤ 400000000 ∧ (-1 ≤ a ∧ a ≤ 1 → -1 ≤ b ∧ b ≤ 1 → z ≤ 320))) (([.ref o, .int (J s), .int (J a), .int (J b)] : List Value).toArray) st 0 0 (fun _ => False)) (F0 mi 88 ls [.int (J c2)]) := by
            intro c2 ls hl i88_0 i88_1
            refine lv_istore (lv' := [(5, .int (J c2)), (0, .ref o), (1, .int (J s)), (2, .int (J a)), (3, .int (J b)), (4, .int (J c1)), (6, .int (J i)), (7, .int (J v7))]) SS.1 SS.2.1 dX12_widthOf_88 hl (by decide) rfl (fun ls hl => ?_)
            refine lv_iinc (v := J (i + 1)) (lv' := [(6, .int (J (i + 1))), (5, .int (J c2)), (0, .ref o), (1, .int (J s)), (2, .int (J a)), (3, .int (J b)), (4, .int (J c1)), (7, .int (J v7))]) SS.1 SS.2.1 dX12_widthOf_90 hl (k := 6) rfl (J_add _ _) (by decide) rfl (fun ls hl => ?_)
            refine lv_goto (tgt := 26) SS.1 SS.2.1 dX12_widthOf_93 (by decide) ?_
            exact ih_26 c1 c2 (i + 1) ls (lv_sub hl [2, 3, 4, 5, 6, 1, 0] rfl) (by omega) (by omega) (by omega) (by omega) (fun qa qb => by first | (have k := i26_4 qa qb; have m3 := mulb (A := 1) (B := 40) qa hbi.1; have m4 := mulb (A := 1) (B := 40) qb hbi.2; omega) | (have m3 := mulb (A := 1) (B := 40) qa hb0.1; have m4 := mulb (A := 1) (B := 40) qb hb0.2; omega)) (by omega)
          refine j_icmp_le SS (tgt := 86) (x := v7) (y := hi) dX12_widthOf_78 (by decide) (by omega) (by omega) (fun c_78 => ?_) (fun c_78 => ?_)
          · skip
            refine lv_iload SS.1 SS.2.1 dX12_widthOf_86 (lv_at hl 5 rfl) ?_
            exact L_88 hi ls (lv_sub hl [1, 2, 3, 4, 0, 5, 6, 7] rfl) (by omega) (by omega)
          · skip
            refine lv_iload SS.1 SS.2.1 dX12_widthOf_81 (lv_at hl 7 rfl) ?_
            refine lv_goto (tgt := 88) SS.1 SS.2.1 dX12_widthOf_83 (by decide) ?_
            exact L_88 v7 ls (lv_sub hl [1, 2, 3, 4, 0, 5, 6, 7] rfl) (by omega) (by omega)
        refine j_icmp_ge SS (tgt := 70) (x := v7) (y := lo) dX12_widthOf_62 (by decide) (by omega) (by omega) (fun c_62 => ?_) (fun c_62 => ?_)
        · skip
          refine lv_iload SS.1 SS.2.1 dX12_widthOf_70 (lv_at hl 5 rfl) ?_
          exact L_72 lo ls (lv_sub hl [1, 2, 3, 4, 5, 6, 7, 0] rfl) (by omega) (by omega)
        · skip
          refine lv_iload SS.1 SS.2.1 dX12_widthOf_65 (lv_at hl 0 rfl) ?_
          refine lv_goto (tgt := 72) SS.1 SS.2.1 dX12_widthOf_67 (by decide) ?_
          exact L_72 v7 ls (lv_sub hl [1, 2, 3, 4, 5, 6, 7, 0] rfl) (by omega) (by omega)
  exact L_26 (((100 : Int) - (1 : Int)).toNat + 1) v4 v4 1 ls (lv_sub hl [3, 4, 5, 6, 2, 1, 0] rfl) (by omega) (by omega) (by omega) (by omega) (fun qa qb => by first | (have k := i26_4 qa qb; have m3 := mulb (A := 1) (B := 40) qa hbi.1; have m4 := mulb (A := 1) (B := 40) qb hbi.2; omega) | (have m3 := mulb (A := 1) (B := 40) qa hb0.1; have m4 := mulb (A := 1) (B := 40) qb hb0.2; omega)) (Nat.lt_succ_self _)


theorem td_b {a b K : Int} (h : -K ≤ a ∧ a ≤ K) : -K ≤ a.tdiv b ∧ a.tdiv b ≤ K := by
  have := Int.natAbs_tdiv_le_natAbs a b; omega
theorem tm_c {a n : Int} (hn : 0 < n) : -n < a.tmod n ∧ a.tmod n < n := by
  have h : (a.tmod n).natAbs < n.natAbs := by rw [Int.natAbs_tmod]; exact Nat.mod_lt _ (by omega)
  omega

set_option maxHeartbeats 4000000 in
set_option maxRecDepth 100000 in
theorem c_X12_normalX (l : Launch) (D : JD) (o : Nat) (q : Nat → Nat) (u : MS) (s : Int) (i : Int) (p0 : 0 ≤ s ∧ s ≤ 7) (p1 : Sh u s) (p2 : 0 ≤ i ∧ i < mN u s) (p3 : 2 ≤ mN u s) : Met l yX12_normalX (jw yX12_normalX cX12_normalX 3 (some .int)) (jr 3 66) (jP [.ref o, .int (J s), .int (J i)] D (fun H => va_P D.1 j_cl (mW D o q u) H)) (jRi (fun z => -80 ≤ z ∧ z ≤ 80)) 0 0 (fun _ => False) := by
  refine Met.ofW (cc := cX12_normalX) (maxL := 3) (ret := (some .int)) (by decide) rfl ?_
  intro pr en st mi args below meth co s₁ B hml hv
  obtain ⟨rfl, hG, hP⟩ := hv
  have hr := B.returns
  have hlk := B.notSynchronized
  have SS : jS pr mi co cX12_normalX 3 st _ RX12 := ⟨B.exec, B.bytes, hml, findClass_of_methodNamed B.named, fun w hw => atoms_spec (ws := (jw yX12_normalX cX12_normalX 3 (some .int))) B.pre w (List.mem_cons_of_mem _ hw)⟩
  have hl := lv_entry ([.ref o, .int (J s), .int (J i)]) (n := 3) (Nat.le_of_ble_eq_true rfl)
  rw [lg_entry_eq]
  generalize (lg_sl ([.ref o, .int (J s), .int (J i)]) ++ List.replicate (3 - (lg_sl ([.ref o, .int (J s), .int (J i)])).length) Slot.unset).toArray = ls at hl ⊢
  have hl : lv_has ls 3 [(0, .ref o), (1, .int (J s)), (2, .int (J i))] := hl
  have hN := p1.1
  have hC := p1.2.2
  have hp := mS_p hC p3 p2.1 p2.2
  refine lv_aload_n SS.1 SS.2.1 dX12_normalX_0 rfl (lv_at hl 0 rfl) ?_
  refine lv_iload_n SS.1 SS.2.1 dX12_normalX_1 rfl (lv_at hl 1 rfl) ?_
  refine lv_iload_n SS.1 SS.2.1 dX12_normalX_2 rfl (lv_at hl 2 rfl) ?_
  refine j_iconst SS dX12_normalX_3 ?_
  refine j_iadd SS (x := i) (y := 1) dX12_normalX_4 ?_
  refine j_vRi SS (As := [.int (J s), .int (J (i + 1))]) (rest := []) (c_X12_y l D o q u s (i + 1) (show 0 ≤ s ∧ s ≤ 7 from (by omega)) (show 0 ≤ (i + 1) ∧ (i + 1) ≤ 1000000 from (by omega)) (show 0 < mN u s ∧ mN u s ≤ 24 from (by first | omega | (have hq := (show Sh u s from p1).1; omega)))) mf_X12_y kw_1181 hG hP hP (ci := 8) (q0 := 0) rfl rfl rfl rfl hl.1 ⟨⟨Nat.le_of_ble_eq_true rfl, Nat.le_of_ble_eq_true rfl⟩, Nat.le_of_ble_eq_true rfl, Nat.le_refl _, Nat.le_refl _⟩ rfl dX12_normalX_5 (fun z_5 h_5 => ?_)
  have h_5 : z_5 = mY u s (i + 1) := h_5
  have hb_5 := (show Sh u s from p1).2.1 (by omega) (i + 1) (by omega)
  refine lv_aload_n SS.1 SS.2.1 dX12_normalX_8 rfl (lv_at hl 0 rfl) ?_
  refine lv_iload_n SS.1 SS.2.1 dX12_normalX_9 rfl (lv_at hl 1 rfl) ?_
  refine lv_iload_n SS.1 SS.2.1 dX12_normalX_10 rfl (lv_at hl 2 rfl) ?_
  refine j_vRi SS (As := [.int (J s), .int (J i)]) (rest := [.int (J z_5)]) (c_X12_y l D o q u s i (show 0 ≤ s ∧ s ≤ 7 from (by omega)) (show 0 ≤ i ∧ i ≤ 1000000 from (by omega)) (show 0 < mN u s ∧ mN u s ≤ 24 from (by first | omega | (have hq := (show Sh u s from p1).1; omega)))) mf_X12_y kw_1181 hG hP hP (ci := 8) (q0 := 0) rfl rfl rfl rfl hl.1 ⟨⟨Nat.le_of_ble_eq_true rfl, Nat.le_of_ble_eq_true rfl⟩, Nat.le_of_ble_eq_true rfl, Nat.le_refl _, Nat.le_refl _⟩ rfl dX12_normalX_11 (fun z_11 h_11 => ?_)
  have h_11 : z_11 = mY u s i := h_11
  have hb_11 := (show Sh u s from p1).2.1 (by omega) i (by omega)
  refine j_isub SS (x := z_5) (y := z_11) dX12_normalX_14 ?_
  refine lv_aload_n SS.1 SS.2.1 dX12_normalX_15 rfl (lv_at hl 0 rfl) ?_
  refine lv_iload_n SS.1 SS.2.1 dX12_normalX_16 rfl (lv_at hl 1 rfl) ?_
  refine lv_iload_n SS.1 SS.2.1 dX12_normalX_17 rfl (lv_at hl 2 rfl) ?_
  refine j_vRi SS (As := [.int (J s), .int (J i)]) (rest := [.int (J (z_5 - z_11))]) (c_X12_stepsOf l D o q u s i (show 0 ≤ s ∧ s ≤ 7 from (by omega)) (show Sh u s from (p1)) (show 0 ≤ i ∧ i ≤ 100 from (by omega)) (show 0 < mN u s from (by first | omega | (have hq := (show Sh u s from p1).1; omega)))) mf_X12_stepsOf kw_1226 hG hP hP (ci := 8) (q0 := 0) rfl rfl rfl rfl hl.1 ⟨⟨Nat.le_of_ble_eq_true rfl, Nat.le_of_ble_eq_true rfl⟩, Nat.le_of_ble_eq_true rfl, Nat.le_refl _, Nat.le_refl _⟩ rfl dX12_normalX_18 (fun z_18 h_18 => ?_)
  have h_18 : z_18 = mS u s i ∧ 0 ≤ z_18 ∧ z_18 ≤ 80 := h_18
  rw [← h_18.1] at hp
  have htd := td_b (b := z_18) (show -80 ≤ z_5 - z_11 ∧ z_5 - z_11 ≤ 80 by omega)
  refine j_idiv SS (x := (z_5 - z_11)) (y := z_18) dX12_normalX_21 (by omega) (by omega) (by omega) ?_
  exact W.iret SS.1 SS.2.1 hr (fun t ht hW => ⟨_, rfl, ⟨(Int.tdiv (z_5 - z_11) z_18), rfl, (htd)⟩, ht⟩) (fun _ h => nomatch h) dX12_normalX_22 hlk

set_option maxHeartbeats 4000000 in
set_option maxRecDepth 100000 in
theorem c_X12_normalY (l : Launch) (D : JD) (o : Nat) (q : Nat → Nat) (u : MS) (s : Int) (i : Int) (p0 : 0 ≤ s ∧ s ≤ 7) (p1 : Sh u s) (p2 : 0 ≤ i ∧ i < mN u s) (p3 : 2 ≤ mN u s) : Met l yX12_normalY (jw yX12_normalY cX12_normalY 3 (some .int)) (jr 3 66) (jP [.ref o, .int (J s), .int (J i)] D (fun H => va_P D.1 j_cl (mW D o q u) H)) (jRi (fun z => -80 ≤ z ∧ z ≤ 80)) 0 0 (fun _ => False) := by
  refine Met.ofW (cc := cX12_normalY) (maxL := 3) (ret := (some .int)) (by decide) rfl ?_
  intro pr en st mi args below meth co s₁ B hml hv
  obtain ⟨rfl, hG, hP⟩ := hv
  have hr := B.returns
  have hlk := B.notSynchronized
  have SS : jS pr mi co cX12_normalY 3 st _ RX12 := ⟨B.exec, B.bytes, hml, findClass_of_methodNamed B.named, fun w hw => atoms_spec (ws := (jw yX12_normalY cX12_normalY 3 (some .int))) B.pre w (List.mem_cons_of_mem _ hw)⟩
  have hl := lv_entry ([.ref o, .int (J s), .int (J i)]) (n := 3) (Nat.le_of_ble_eq_true rfl)
  rw [lg_entry_eq]
  generalize (lg_sl ([.ref o, .int (J s), .int (J i)]) ++ List.replicate (3 - (lg_sl ([.ref o, .int (J s), .int (J i)])).length) Slot.unset).toArray = ls at hl ⊢
  have hl : lv_has ls 3 [(0, .ref o), (1, .int (J s)), (2, .int (J i))] := hl
  have hN := p1.1
  have hC := p1.2.2
  have hp := mS_p hC p3 p2.1 p2.2
  refine lv_aload_n SS.1 SS.2.1 dX12_normalY_0 rfl (lv_at hl 0 rfl) ?_
  refine lv_iload_n SS.1 SS.2.1 dX12_normalY_1 rfl (lv_at hl 1 rfl) ?_
  refine lv_iload_n SS.1 SS.2.1 dX12_normalY_2 rfl (lv_at hl 2 rfl) ?_
  refine j_vRi SS (As := [.int (J s), .int (J i)]) (rest := []) (c_X12_x l D o q u s i (show 0 ≤ s ∧ s ≤ 7 from (by omega)) (show 0 ≤ i ∧ i ≤ 1000000 from (by omega)) (show 0 < mN u s ∧ mN u s ≤ 24 from (by first | omega | (have hq := (show Sh u s from p1).1; omega)))) mf_X12_x kw_1177 hG hP hP (ci := 8) (q0 := 0) rfl rfl rfl rfl hl.1 ⟨⟨Nat.le_of_ble_eq_true rfl, Nat.le_of_ble_eq_true rfl⟩, Nat.le_of_ble_eq_true rfl, Nat.le_refl _, Nat.le_refl _⟩ rfl dX12_normalY_3 (fun z_3 h_3 => ?_)
  have h_3 : z_3 = mX u s i := h_3
  have hb_3 := (show Sh u s from p1).2.1 (by omega) i (by omega)
  refine lv_aload_n SS.1 SS.2.1 dX12_normalY_6 rfl (lv_at hl 0 rfl) ?_
  refine lv_iload_n SS.1 SS.2.1 dX12_normalY_7 rfl (lv_at hl 1 rfl) ?_
  refine lv_iload_n SS.1 SS.2.1 dX12_normalY_8 rfl (lv_at hl 2 rfl) ?_
  refine j_iconst SS dX12_normalY_9 ?_
  refine j_iadd SS (x := i) (y := 1) dX12_normalY_10 ?_
  refine j_vRi SS (As := [.int (J s), .int (J (i + 1))]) (rest := [.int (J z_3)]) (c_X12_x l D o q u s (i + 1) (show 0 ≤ s ∧ s ≤ 7 from (by omega)) (show 0 ≤ (i + 1) ∧ (i + 1) ≤ 1000000 from (by omega)) (show 0 < mN u s ∧ mN u s ≤ 24 from (by first | omega | (have hq := (show Sh u s from p1).1; omega)))) mf_X12_x kw_1177 hG hP hP (ci := 8) (q0 := 0) rfl rfl rfl rfl hl.1 ⟨⟨Nat.le_of_ble_eq_true rfl, Nat.le_of_ble_eq_true rfl⟩, Nat.le_of_ble_eq_true rfl, Nat.le_refl _, Nat.le_refl _⟩ rfl dX12_normalY_11 (fun z_11 h_11 => ?_)
  have h_11 : z_11 = mX u s (i + 1) := h_11
  have hb_11 := (show Sh u s from p1).2.1 (by omega) (i + 1) (by omega)
  refine j_isub SS (x := z_3) (y := z_11) dX12_normalY_14 ?_
  refine lv_aload_n SS.1 SS.2.1 dX12_normalY_15 rfl (lv_at hl 0 rfl) ?_
  refine lv_iload_n SS.1 SS.2.1 dX12_normalY_16 rfl (lv_at hl 1 rfl) ?_
  refine lv_iload_n SS.1 SS.2.1 dX12_normalY_17 rfl (lv_at hl 2 rfl) ?_
  refine j_vRi SS (As := [.int (J s), .int (J i)]) (rest := [.int (J (z_3 - z_11))]) (c_X12_stepsOf l D o q u s i (show 0 ≤ s ∧ s ≤ 7 from (by omega)) (show Sh u s from (p1)) (show 0 ≤ i ∧ i ≤ 100 from (by omega)) (show 0 < mN u s from (by first | omega | (have hq := (show Sh u s from p1).1; omega)))) mf_X12_stepsOf kw_1226 hG hP hP (ci := 8) (q0 := 0) rfl rfl rfl rfl hl.1 ⟨⟨Nat.le_of_ble_eq_true rfl, Nat.le_of_ble_eq_true rfl⟩, Nat.le_of_ble_eq_true rfl, Nat.le_refl _, Nat.le_refl _⟩ rfl dX12_normalY_18 (fun z_18 h_18 => ?_)
  have h_18 : z_18 = mS u s i ∧ 0 ≤ z_18 ∧ z_18 ≤ 80 := h_18
  rw [← h_18.1] at hp
  have htd := td_b (b := z_18) (show -80 ≤ z_3 - z_11 ∧ z_3 - z_11 ≤ 80 by omega)
  refine j_idiv SS (x := (z_3 - z_11)) (y := z_18) dX12_normalY_21 (by omega) (by omega) (by omega) ?_
  exact W.iret SS.1 SS.2.1 hr (fun t ht hW => ⟨_, rfl, ⟨(Int.tdiv (z_3 - z_11) z_18), rfl, (htd)⟩, ht⟩) (fun _ h => nomatch h) dX12_normalY_22 hlk

set_option maxHeartbeats 4000000 in
set_option maxRecDepth 100000 in
theorem c_X12_farOf (l : Launch) (D : JD) (o : Nat) (q : Nat → Nat) (u : MS) (s : Int) (i : Int) (p0 : 0 ≤ s ∧ s ≤ 7) (p1 : Sh u s) (p2 : 0 ≤ i ∧ i < mN u s) (p3 : 2 ≤ mN u s) : Met l yX12_farOf (jw yX12_farOf cX12_farOf 3 (some .int)) (jr 4 88) (jP [.ref o, .int (J s), .int (J i)] D (fun H => va_P D.1 j_cl (mW D o q u) H)) (jRi (fun z => -6400 ≤ z ∧ z ≤ 6400)) 0 0 (fun _ => False) := by
  refine Met.ofW (cc := cX12_farOf) (maxL := 3) (ret := (some .int)) (by decide) rfl ?_
  intro pr en st mi args below meth co s₁ B hml hv
  obtain ⟨rfl, hG, hP⟩ := hv
  have hr := B.returns
  have hlk := B.notSynchronized
  have SS : jS pr mi co cX12_farOf 3 st _ RX12 := ⟨B.exec, B.bytes, hml, findClass_of_methodNamed B.named, fun w hw => atoms_spec (ws := (jw yX12_farOf cX12_farOf 3 (some .int))) B.pre w (List.mem_cons_of_mem _ hw)⟩
  have hl := lv_entry ([.ref o, .int (J s), .int (J i)]) (n := 3) (Nat.le_of_ble_eq_true rfl)
  rw [lg_entry_eq]
  generalize (lg_sl ([.ref o, .int (J s), .int (J i)]) ++ List.replicate (3 - (lg_sl ([.ref o, .int (J s), .int (J i)])).length) Slot.unset).toArray = ls at hl ⊢
  have hl : lv_has ls 3 [(0, .ref o), (1, .int (J s)), (2, .int (J i))] := hl
  have hN := p1.1
  have hC := p1.2.2
  refine lv_aload_n SS.1 SS.2.1 dX12_farOf_0 rfl (lv_at hl 0 rfl) ?_
  refine lv_iload_n SS.1 SS.2.1 dX12_farOf_1 rfl (lv_at hl 1 rfl) ?_
  refine lv_iload_n SS.1 SS.2.1 dX12_farOf_2 rfl (lv_at hl 2 rfl) ?_
  refine j_vRi SS (As := [.int (J s), .int (J i)]) (rest := []) (c_X12_normalX l D o q u s i (show 0 ≤ s ∧ s ≤ 7 from (by omega)) (show Sh u s from (p1)) (show 0 ≤ i ∧ i < mN u s from (by first | omega | (have hq := (show Sh u s from p1).1; omega))) (show 2 ≤ mN u s from (by first | omega | (have hq := (show Sh u s from p1).1; omega)))) mf_X12_normalX kw_1364 hG hP hP (ci := 8) (q0 := 0) rfl rfl rfl rfl hl.1 ⟨⟨Nat.le_of_ble_eq_true rfl, Nat.le_of_ble_eq_true rfl⟩, Nat.le_of_ble_eq_true rfl, Nat.le_refl _, Nat.le_refl _⟩ rfl dX12_farOf_3 (fun z_3 h_3 => ?_)
  have h_3 : -80 ≤ z_3 ∧ z_3 ≤ 80 := h_3
  refine lv_aload_n SS.1 SS.2.1 dX12_farOf_6 rfl (lv_at hl 0 rfl) ?_
  refine lv_iload_n SS.1 SS.2.1 dX12_farOf_7 rfl (lv_at hl 1 rfl) ?_
  refine lv_iload_n SS.1 SS.2.1 dX12_farOf_8 rfl (lv_at hl 2 rfl) ?_
  refine j_vRi SS (As := [.int (J s), .int (J i)]) (rest := [.int (J z_3)]) (c_X12_x l D o q u s i (show 0 ≤ s ∧ s ≤ 7 from (by omega)) (show 0 ≤ i ∧ i ≤ 1000000 from (by omega)) (show 0 < mN u s ∧ mN u s ≤ 24 from (by first | omega | (have hq := (show Sh u s from p1).1; omega)))) mf_X12_x kw_1177 hG hP hP (ci := 8) (q0 := 0) rfl rfl rfl rfl hl.1 ⟨⟨Nat.le_of_ble_eq_true rfl, Nat.le_of_ble_eq_true rfl⟩, Nat.le_of_ble_eq_true rfl, Nat.le_refl _, Nat.le_refl _⟩ rfl dX12_farOf_9 (fun z_9 h_9 => ?_)
  have h_9 : z_9 = mX u s i := h_9
  have hb_9 := (show Sh u s from p1).2.1 (by omega) i (by omega)
  have m1 := mulb (A := 80) (B := 40) (a := z_3) (b := z_9) (by omega) (by omega)
  refine j_imul SS (x := z_3) (y := z_9) dX12_farOf_12 ?_
  refine lv_aload_n SS.1 SS.2.1 dX12_farOf_13 rfl (lv_at hl 0 rfl) ?_
  refine lv_iload_n SS.1 SS.2.1 dX12_farOf_14 rfl (lv_at hl 1 rfl) ?_
  refine lv_iload_n SS.1 SS.2.1 dX12_farOf_15 rfl (lv_at hl 2 rfl) ?_
  refine j_vRi SS (As := [.int (J s), .int (J i)]) (rest := [.int (J (z_3 * z_9))]) (c_X12_normalY l D o q u s i (show 0 ≤ s ∧ s ≤ 7 from (by omega)) (show Sh u s from (p1)) (show 0 ≤ i ∧ i < mN u s from (by first | omega | (have hq := (show Sh u s from p1).1; omega))) (show 2 ≤ mN u s from (by first | omega | (have hq := (show Sh u s from p1).1; omega)))) mf_X12_normalY kw_1368 hG hP hP (ci := 8) (q0 := 0) rfl rfl rfl rfl hl.1 ⟨⟨Nat.le_of_ble_eq_true rfl, Nat.le_of_ble_eq_true rfl⟩, Nat.le_of_ble_eq_true rfl, Nat.le_refl _, Nat.le_refl _⟩ rfl dX12_farOf_16 (fun z_16 h_16 => ?_)
  have h_16 : -80 ≤ z_16 ∧ z_16 ≤ 80 := h_16
  refine lv_aload_n SS.1 SS.2.1 dX12_farOf_19 rfl (lv_at hl 0 rfl) ?_
  refine lv_iload_n SS.1 SS.2.1 dX12_farOf_20 rfl (lv_at hl 1 rfl) ?_
  refine lv_iload_n SS.1 SS.2.1 dX12_farOf_21 rfl (lv_at hl 2 rfl) ?_
  refine j_vRi SS (As := [.int (J s), .int (J i)]) (rest := [.int (J z_16), .int (J (z_3 * z_9))]) (c_X12_y l D o q u s i (show 0 ≤ s ∧ s ≤ 7 from (by omega)) (show 0 ≤ i ∧ i ≤ 1000000 from (by omega)) (show 0 < mN u s ∧ mN u s ≤ 24 from (by first | omega | (have hq := (show Sh u s from p1).1; omega)))) mf_X12_y kw_1181 hG hP hP (ci := 8) (q0 := 0) rfl rfl rfl rfl hl.1 ⟨⟨Nat.le_of_ble_eq_true rfl, Nat.le_of_ble_eq_true rfl⟩, Nat.le_of_ble_eq_true rfl, Nat.le_refl _, Nat.le_refl _⟩ rfl dX12_farOf_22 (fun z_22 h_22 => ?_)
  have h_22 : z_22 = mY u s i := h_22
  have hb_22 := (show Sh u s from p1).2.1 (by omega) i (by omega)
  have m2 := mulb (A := 80) (B := 40) (a := z_16) (b := z_22) (by omega) (by omega)
  refine j_imul SS (x := z_16) (y := z_22) dX12_farOf_25 ?_
  refine j_iadd SS (x := (z_3 * z_9)) (y := (z_16 * z_22)) dX12_farOf_26 ?_
  exact W.iret SS.1 SS.2.1 hr (fun t ht hW => ⟨_, rfl, ⟨((z_3 * z_9) + (z_16 * z_22)), rfl, (by omega)⟩, ht⟩) (fun _ h => nomatch h) dX12_farOf_27 hlk

set_option maxHeartbeats 4000000 in
set_option maxRecDepth 100000 in
theorem c_X12_isRound (l : Launch) (D : JD) (o : Nat) (q : Nat → Nat) (u : MS) (s : Int) (p0 : 0 ≤ s ∧ s ≤ 7) (p1 : Sh u s) : Met l yX12_isRound (jw yX12_isRound cX12_isRound 2 (some .boolean)) (jr 2 51) (jP [.ref o, .int (J s)] D (fun H => va_P D.1 j_cl (mW D o q u) H)) (jRi (fun z => (z = 1 ∧ 2 < mN u s) ∨ z = 0)) 0 0 (fun _ => False) := by
  refine Met.ofW (cc := cX12_isRound) (maxL := 2) (ret := (some .boolean)) (by decide) rfl ?_
  intro pr en st mi args below meth co s₁ B hml hv
  obtain ⟨rfl, hG, hP⟩ := hv
  have hr := B.returns
  have hlk := B.notSynchronized
  have SS : jS pr mi co cX12_isRound 2 st _ RX12 := ⟨B.exec, B.bytes, hml, findClass_of_methodNamed B.named, fun w hw => atoms_spec (ws := (jw yX12_isRound cX12_isRound 2 (some .boolean))) B.pre w (List.mem_cons_of_mem _ hw)⟩
  have hl := lv_entry ([.ref o, .int (J s)]) (n := 2) (Nat.le_of_ble_eq_true rfl)
  rw [lg_entry_eq]
  generalize (lg_sl ([.ref o, .int (J s)]) ++ List.replicate (2 - (lg_sl ([.ref o, .int (J s)])).length) Slot.unset).toArray = ls at hl ⊢
  have hl : lv_has ls 2 [(0, .ref o), (1, .int (J s))] := hl
  have hN := p1.1
  have hC := p1.2.2
  refine lv_aload_n SS.1 SS.2.1 dX12_isRound_0 rfl (lv_at hl 0 rfl) ?_
  refine lv_iload_n SS.1 SS.2.1 dX12_isRound_1 rfl (lv_at hl 1 rfl) ?_
  refine j_vRi SS (As := [.int (J s)]) (rest := []) (c_X12_isPolygon l D o q u s (show 0 ≤ s ∧ s ≤ 7 from (by omega)) (show Sh u s from (p1))) mf_X12_isPolygon kw_1240 hG hP hP (ci := 8) (q0 := 0) rfl rfl rfl rfl hl.1 ⟨⟨Nat.le_of_ble_eq_true rfl, Nat.le_of_ble_eq_true rfl⟩, Nat.le_of_ble_eq_true rfl, Nat.le_refl _, Nat.le_refl _⟩ rfl dX12_isRound_2 (fun z_2 h_2 => ?_)
  have h_2 : (z_2 = 1 ∧ 2 < mN u s) ∨ (z_2 = 0 ∧ mN u s ≤ 2) := h_2
  refine j_if_eq SS (tgt := 23) (x := z_2) dX12_isRound_5 (by decide) (by omega) (fun c_5 => ?_) (fun c_5 => ?_)
  · skip
    refine j_iconst SS dX12_isRound_23 ?_
    exact W.zret SS.1 SS.2.1 hr (j_nz (by decide)) (fun t ht hW => ⟨_, rfl, ⟨0, rfl, (by omega)⟩, ht⟩) (fun _ h => nomatch h) dX12_isRound_24 hlk
  · skip
    refine lv_aload_n SS.1 SS.2.1 dX12_isRound_8 rfl (lv_at hl 0 rfl) ?_
    refine lv_iload_n SS.1 SS.2.1 dX12_isRound_9 rfl (lv_at hl 1 rfl) ?_
    refine j_iconst SS dX12_isRound_10 ?_
    refine j_iconst SS dX12_isRound_11 ?_
    refine j_vRi SS (As := [.int (J s), .int (J 0), .int (J 0)]) (rest := []) (c_X12_whereOf l D o q u s 0 0 (show 0 ≤ s ∧ s ≤ 7 from (by omega)) (show Sh u s from (p1)) (show -100 ≤ (0 : Int) ∧ (0 : Int) ≤ 100 from (by omega)) (show -100 ≤ (0 : Int) ∧ (0 : Int) ≤ 100 from (by omega))) mf_X12_whereOf kw_1255 hG hP hP (ci := 8) (q0 := 0) rfl rfl rfl rfl hl.1 ⟨⟨Nat.le_of_ble_eq_true rfl, Nat.le_of_ble_eq_true rfl⟩, Nat.le_of_ble_eq_true rfl, Nat.le_refl _, Nat.le_refl _⟩ rfl dX12_isRound_12 (fun z_12 h_12 => ?_)
    have h_12 : wR u s (0 : Int) (0 : Int) z_12 := h_12
    have zb := wR_b h_12
    refine j_iconst SS dX12_isRound_15 ?_
    refine j_icmp_ne SS (tgt := 23) (x := z_12) (y := 2) dX12_isRound_16 (by decide) (by omega) (by decide) (fun c_16 => ?_) (fun c_16 => ?_)
    · skip
      refine j_iconst SS dX12_isRound_23 ?_
      exact W.zret SS.1 SS.2.1 hr (j_nz (by decide)) (fun t ht hW => ⟨_, rfl, ⟨0, rfl, (by omega)⟩, ht⟩) (fun _ h => nomatch h) dX12_isRound_24 hlk
    · skip
      refine j_iconst SS dX12_isRound_19 ?_
      refine lv_goto (tgt := 24) SS.1 SS.2.1 dX12_isRound_20 (by decide) ?_
      exact W.zret SS.1 SS.2.1 hr (j_nz (by decide)) (fun t ht hW => ⟨_, rfl, ⟨1, rfl, (by omega)⟩, ht⟩) (fun _ h => nomatch h) dX12_isRound_24 hlk

set_option maxHeartbeats 4000000 in
set_option maxRecDepth 100000 in
theorem c_X12_normal (l : Launch) (D : JD) (o : Nat) (q : Nat → Nat) (u : MS) (s : Int) (i : Int) (what : Int) (p0 : IM u) (p1 : -2147483648 ≤ s ∧ s ≤ 2147483647) (p2 : -2147483648 ≤ i ∧ i ≤ 2147483647) (p3 : -2147483648 ≤ what ∧ what ≤ 2147483647) : Met l yX12_normal (jw yX12_normal cX12_normal 4 (some .int)) (jr 5 110) (jP [.ref o, .int (J s), .int (J i), .int (J what)] D (fun H => va_P D.1 j_cl (mW D o q u) H)) (jRi (fun z => True)) 0 0 (fun _ => False) := by
  refine Met.ofW (cc := cX12_normal) (maxL := 4) (ret := (some .int)) (by decide) rfl ?_
  intro pr en st mi args below meth co s₁ B hml hv
  obtain ⟨rfl, hG, hP⟩ := hv
  have hr := B.returns
  have hlk := B.notSynchronized
  have SS : jS pr mi co cX12_normal 4 st _ RX12 := ⟨B.exec, B.bytes, hml, findClass_of_methodNamed B.named, fun w hw => atoms_spec (ws := (jw yX12_normal cX12_normal 4 (some .int))) B.pre w (List.mem_cons_of_mem _ hw)⟩
  have hl := lv_entry ([.ref o, .int (J s), .int (J i), .int (J what)]) (n := 4) (Nat.le_of_ble_eq_true rfl)
  rw [lg_entry_eq]
  generalize (lg_sl ([.ref o, .int (J s), .int (J i), .int (J what)]) ++ List.replicate (4 - (lg_sl ([.ref o, .int (J s), .int (J i), .int (J what)])).length) Slot.unset).toArray = ls at hl ⊢
  have hl : lv_has ls 4 [(0, .ref o), (1, .int (J s)), (2, .int (J i)), (3, .int (J what))] := hl
  refine lv_iload_n SS.1 SS.2.1 dX12_normal_0 rfl (lv_at hl 1 rfl) ?_
  refine j_sRi SS (As := [.int (J s)]) (rest := []) (c_X12_isShape l D s (show -2147483648 ≤ s ∧ s ≤ 2147483647 from (by omega))) mf_X12_isShape kw_1156 hG trivial rfl hl.1 ⟨⟨Nat.le_of_ble_eq_true rfl, Nat.le_of_ble_eq_true rfl⟩, Nat.le_of_ble_eq_true rfl, Nat.le_refl _, Nat.le_refl _⟩ rfl dX12_normal_1 (fun z_1 h_1 => ?_)
  have h_1 : (z_1 = 1 ∧ (0 ≤ s ∧ s ≤ 7)) ∨ (z_1 = 0 ∧ ¬ (0 ≤ s ∧ s ≤ 7)) := h_1
  refine j_if_eq SS (tgt := 40) (x := z_1) dX12_normal_4 (by decide) (by omega) (fun c_4 => ?_) (fun c_4 => ?_)
  · skip
    refine j_ldc SS (-1000000) kw_1213 dX12_normal_40 ?_
    exact W.iret SS.1 SS.2.1 hr (fun t ht hW => ⟨_, rfl, ⟨(-1000000), rfl, (trivial)⟩, ht⟩) (fun _ h => nomatch h) dX12_normal_42 hlk
  · skip
    refine lv_iload_n SS.1 SS.2.1 dX12_normal_7 rfl (lv_at hl 2 rfl) ?_
    refine j_iconst SS dX12_normal_8 ?_
    refine lv_aload_n SS.1 SS.2.1 dX12_normal_9 rfl (lv_at hl 0 rfl) ?_
    refine j_get SS hG hP 0 (v := .ref (q 0)) (C := RX12) (T := TX12) (N := 31) rfl rfl inX12 0 (by decide) (ref := RX12) kw_1058 rfl rfl dX12_normal_10 ?_
    refine lv_iload_n SS.1 SS.2.1 dX12_normal_13 rfl (lv_at hl 1 rfl) ?_
    refine j_iald SS hG hP 1 (n := 8) (f := (u.1 0)) rfl (z := s) (by omega) (by omega) dX12_normal_14 ?_
    have hN_14 := (show Sh u s from p0.1 _ (by omega) (by omega)).1
    refine j_iconst SS dX12_normal_15 ?_
    refine j_isub SS (x := (mN u s)) (y := 1) dX12_normal_16 ?_
    refine j_sRi SS (As := [.int (J i), .int (J 0), .int (J ((mN u s) - 1))]) (rest := []) (c_X12_in l D i 0 ((mN u s) - 1) (show -2147483648 ≤ i ∧ i ≤ 2147483647 from (by omega)) (show -2147483648 ≤ (0 : Int) ∧ (0 : Int) ≤ 2147483647 from (by omega)) (show -2147483648 ≤ ((mN u s) - 1) ∧ ((mN u s) - 1) ≤ 2147483647 from (by omega))) mf_X12_in kw_1159 hG trivial rfl hl.1 ⟨⟨Nat.le_of_ble_eq_true rfl, Nat.le_of_ble_eq_true rfl⟩, Nat.le_of_ble_eq_true rfl, Nat.le_refl _, Nat.le_refl _⟩ rfl dX12_normal_17 (fun z_17 h_17 => ?_)
    have h_17 : (z_17 = 1 ∧ ((0 : Int) ≤ i ∧ i ≤ ((mN u s) - 1))) ∨ (z_17 = 0 ∧ ¬ ((0 : Int) ≤ i ∧ i ≤ ((mN u s) - 1))) := h_17
    refine j_if_eq SS (tgt := 40) (x := z_17) dX12_normal_20 (by decide) (by omega) (fun c_20 => ?_) (fun c_20 => ?_)
    · skip
      refine j_ldc SS (-1000000) kw_1213 dX12_normal_40 ?_
      exact W.iret SS.1 SS.2.1 hr (fun t ht hW => ⟨_, rfl, ⟨(-1000000), rfl, (trivial)⟩, ht⟩) (fun _ h => nomatch h) dX12_normal_42 hlk
    · skip
      refine lv_iload_n SS.1 SS.2.1 dX12_normal_23 rfl (lv_at hl 3 rfl) ?_
      refine j_iconst SS dX12_normal_24 ?_
      refine j_iconst SS dX12_normal_25 ?_
      refine j_sRi SS (As := [.int (J what), .int (J 0), .int (J 2)]) (rest := []) (c_X12_in l D what 0 2 (show -2147483648 ≤ what ∧ what ≤ 2147483647 from (by omega)) (show -2147483648 ≤ (0 : Int) ∧ (0 : Int) ≤ 2147483647 from (by omega)) (show -2147483648 ≤ (2 : Int) ∧ (2 : Int) ≤ 2147483647 from (by omega))) mf_X12_in kw_1159 hG trivial rfl hl.1 ⟨⟨Nat.le_of_ble_eq_true rfl, Nat.le_of_ble_eq_true rfl⟩, Nat.le_of_ble_eq_true rfl, Nat.le_refl _, Nat.le_refl _⟩ rfl dX12_normal_26 (fun z_26 h_26 => ?_)
      have h_26 : (z_26 = 1 ∧ ((0 : Int) ≤ what ∧ what ≤ (2 : Int))) ∨ (z_26 = 0 ∧ ¬ ((0 : Int) ≤ what ∧ what ≤ (2 : Int))) := h_26
      refine j_if_eq SS (tgt := 40) (x := z_26) dX12_normal_29 (by decide) (by omega) (fun c_29 => ?_) (fun c_29 => ?_)
      · skip
        refine j_ldc SS (-1000000) kw_1213 dX12_normal_40 ?_
        exact W.iret SS.1 SS.2.1 hr (fun t ht hW => ⟨_, rfl, ⟨(-1000000), rfl, (trivial)⟩, ht⟩) (fun _ h => nomatch h) dX12_normal_42 hlk
      · skip
        refine lv_aload_n SS.1 SS.2.1 dX12_normal_32 rfl (lv_at hl 0 rfl) ?_
        refine lv_iload_n SS.1 SS.2.1 dX12_normal_33 rfl (lv_at hl 1 rfl) ?_
        refine j_vRi SS (As := [.int (J s)]) (rest := []) (c_X12_isRound l D o q u s (show 0 ≤ s ∧ s ≤ 7 from (by omega)) (show Sh u s from (p0.1 _ (by omega) (by omega)))) mf_X12_isRound kw_1360 hG hP hP (ci := 8) (q0 := 0) rfl rfl rfl rfl hl.1 ⟨⟨Nat.le_of_ble_eq_true rfl, Nat.le_of_ble_eq_true rfl⟩, Nat.le_of_ble_eq_true rfl, Nat.le_refl _, Nat.le_refl _⟩ rfl dX12_normal_34 (fun z_34 h_34 => ?_)
        have h_34 : (z_34 = 1 ∧ 2 < mN u s) ∨ z_34 = 0 := h_34
        refine j_if_ne SS (tgt := 43) (x := z_34) dX12_normal_37 (by decide) (by omega) (fun c_37 => ?_) (fun c_37 => ?_)
        · skip
          refine lv_iload_n SS.1 SS.2.1 dX12_normal_43 rfl (lv_at hl 3 rfl) ?_
          refine j_if_ne SS (tgt := 56) (x := what) dX12_normal_44 (by decide) (by omega) (fun c_44 => ?_) (fun c_44 => ?_)
          · skip
            refine lv_iload_n SS.1 SS.2.1 dX12_normal_56 rfl (lv_at hl 3 rfl) ?_
            refine j_iconst SS dX12_normal_57 ?_
            refine j_icmp_ne SS (tgt := 70) (x := what) (y := 1) dX12_normal_58 (by decide) (by omega) (by decide) (fun c_58 => ?_) (fun c_58 => ?_)
            · skip
              refine lv_aload_n SS.1 SS.2.1 dX12_normal_70 rfl (lv_at hl 0 rfl) ?_
              refine lv_iload_n SS.1 SS.2.1 dX12_normal_71 rfl (lv_at hl 1 rfl) ?_
              refine lv_iload_n SS.1 SS.2.1 dX12_normal_72 rfl (lv_at hl 2 rfl) ?_
              refine j_vRi SS (As := [.int (J s), .int (J i)]) (rest := []) (c_X12_farOf l D o q u s i (show 0 ≤ s ∧ s ≤ 7 from (by omega)) (show Sh u s from (p0.1 _ (by omega) (by omega))) (show 0 ≤ i ∧ i < mN u s from (by first | omega | (have hq := (show Sh u s from p0.1 _ (by omega) (by omega)).1; omega))) (show 2 ≤ mN u s from (by first | omega | (have hq := (show Sh u s from p0.1 _ (by omega) (by omega)).1; omega)))) mf_X12_farOf kw_1372 hG hP hP (ci := 8) (q0 := 0) rfl rfl rfl rfl hl.1 ⟨⟨Nat.le_of_ble_eq_true rfl, Nat.le_of_ble_eq_true rfl⟩, Nat.le_of_ble_eq_true rfl, Nat.le_refl _, Nat.le_refl _⟩ rfl dX12_normal_73 (fun z_73 h_73 => ?_)
              have h_73 : -6400 ≤ z_73 ∧ z_73 ≤ 6400 := h_73
              exact W.iret SS.1 SS.2.1 hr (fun t ht hW => ⟨_, rfl, ⟨z_73, rfl, (trivial)⟩, ht⟩) (fun _ h => nomatch h) dX12_normal_76 hlk
            · skip
              refine lv_aload_n SS.1 SS.2.1 dX12_normal_61 rfl (lv_at hl 0 rfl) ?_
              refine lv_iload_n SS.1 SS.2.1 dX12_normal_62 rfl (lv_at hl 1 rfl) ?_
              refine lv_iload_n SS.1 SS.2.1 dX12_normal_63 rfl (lv_at hl 2 rfl) ?_
              refine j_vRi SS (As := [.int (J s), .int (J i)]) (rest := []) (c_X12_normalY l D o q u s i (show 0 ≤ s ∧ s ≤ 7 from (by omega)) (show Sh u s from (p0.1 _ (by omega) (by omega))) (show 0 ≤ i ∧ i < mN u s from (by first | omega | (have hq := (show Sh u s from p0.1 _ (by omega) (by omega)).1; omega))) (show 2 ≤ mN u s from (by first | omega | (have hq := (show Sh u s from p0.1 _ (by omega) (by omega)).1; omega)))) mf_X12_normalY kw_1368 hG hP hP (ci := 8) (q0 := 0) rfl rfl rfl rfl hl.1 ⟨⟨Nat.le_of_ble_eq_true rfl, Nat.le_of_ble_eq_true rfl⟩, Nat.le_of_ble_eq_true rfl, Nat.le_refl _, Nat.le_refl _⟩ rfl dX12_normal_64 (fun z_64 h_64 => ?_)
              have h_64 : -80 ≤ z_64 ∧ z_64 ≤ 80 := h_64
              refine lv_goto (tgt := 76) SS.1 SS.2.1 dX12_normal_67 (by decide) ?_
              exact W.iret SS.1 SS.2.1 hr (fun t ht hW => ⟨_, rfl, ⟨z_64, rfl, (trivial)⟩, ht⟩) (fun _ h => nomatch h) dX12_normal_76 hlk
          · skip
            refine lv_aload_n SS.1 SS.2.1 dX12_normal_47 rfl (lv_at hl 0 rfl) ?_
            refine lv_iload_n SS.1 SS.2.1 dX12_normal_48 rfl (lv_at hl 1 rfl) ?_
            refine lv_iload_n SS.1 SS.2.1 dX12_normal_49 rfl (lv_at hl 2 rfl) ?_
            refine j_vRi SS (As := [.int (J s), .int (J i)]) (rest := []) (c_X12_normalX l D o q u s i (show 0 ≤ s ∧ s ≤ 7 from (by omega)) (show Sh u s from (p0.1 _ (by omega) (by omega))) (show 0 ≤ i ∧ i < mN u s from (by first | omega | (have hq := (show Sh u s from p0.1 _ (by omega) (by omega)).1; omega))) (show 2 ≤ mN u s from (by first | omega | (have hq := (show Sh u s from p0.1 _ (by omega) (by omega)).1; omega)))) mf_X12_normalX kw_1364 hG hP hP (ci := 8) (q0 := 0) rfl rfl rfl rfl hl.1 ⟨⟨Nat.le_of_ble_eq_true rfl, Nat.le_of_ble_eq_true rfl⟩, Nat.le_of_ble_eq_true rfl, Nat.le_refl _, Nat.le_refl _⟩ rfl dX12_normal_50 (fun z_50 h_50 => ?_)
            have h_50 : -80 ≤ z_50 ∧ z_50 ≤ 80 := h_50
            refine lv_goto (tgt := 76) SS.1 SS.2.1 dX12_normal_53 (by decide) ?_
            exact W.iret SS.1 SS.2.1 hr (fun t ht hW => ⟨_, rfl, ⟨z_50, rfl, (trivial)⟩, ht⟩) (fun _ h => nomatch h) dX12_normal_76 hlk
        · skip
          refine j_ldc SS (-1000000) kw_1213 dX12_normal_40 ?_
          exact W.iret SS.1 SS.2.1 hr (fun t ht hW => ⟨_, rfl, ⟨(-1000000), rfl, (trivial)⟩, ht⟩) (fun _ h => nomatch h) dX12_normal_42 hlk

set_option maxHeartbeats 4000000 in
set_option maxRecDepth 100000 in
theorem c_X12_findSum (l : Launch) (D : JD) (o : Nat) (q : Nat → Nat) (u : MS) (A : Nat → Prop) (hD : va_D A (mW D o q u)) (s : Int) (s2 : Int) (p0 : 0 ≤ s ∧ s ≤ 7) (p1 : Sh u s) (p2 : 0 ≤ s2 ∧ s2 ≤ 7) (p3 : Sh u s2) : Met l yX12_findSum (jw yX12_findSum cX12_findSum 5 none) (jr 3 68) (jP [.ref o, .int (J s), .int (J s2)] D (fun H => va_P D.1 j_cl (mW D o q u) H)) (jWv (fun u' => ∃ f : Nat → Int, ∃ g : Nat → Int, ∃ w : Int, ∃ X : Nat → Int, ∃ Y : Nat → Int, ∃ nh : Int, u' = (uV (uI (uI (uV (uI (uI u 4 f) 5 g) 6 w) 7 X) 8 Y) 9 nh) ∧ (0 ≤ nh ∧ nh ≤ 1290 ∧ Ch nh X Y ∧ bd 10000 X Y nh ∧ bd 80 X Y nh)) (fun u' H => va_P D.1 j_cl (mW D o q u') H) A) 0 0 A := by
  refine Met.ofW (cc := cX12_findSum) (maxL := 5) (ret := none) (by decide) rfl ?_
  intro pr en st mi args below meth co s₁ B hml hv
  obtain ⟨rfl, hG, hP⟩ := hv
  have hr := B.returns
  have hlk := B.notSynchronized
  have SS : jS pr mi co cX12_findSum 5 st _ RX12 := ⟨B.exec, B.bytes, hml, findClass_of_methodNamed B.named, fun w hw => atoms_spec (ws := (jw yX12_findSum cX12_findSum 5 none)) B.pre w (List.mem_cons_of_mem _ hw)⟩
  have hl := lv_entry ([.ref o, .int (J s), .int (J s2)]) (n := 5) (Nat.le_of_ble_eq_true rfl)
  rw [lg_entry_eq]
  generalize (lg_sl ([.ref o, .int (J s), .int (J s2)]) ++ List.replicate (5 - (lg_sl ([.ref o, .int (J s), .int (J s2)])).length) Slot.unset).toArray = ls at hl ⊢
  have hl : lv_has ls 5 [(0, .ref o), (1, .int (J s)), (2, .int (J s2))] := hl
  have hS : va_S A st.heap st.heap [] := va_S.rf
  have hN := p1.1
  have hN2 := p3.1
  refine lv_aload_n SS.1 SS.2.1 dX12_findSum_0 rfl (lv_at hl 0 rfl) ?_
  refine j_iconst SS dX12_findSum_1 ?_
  refine j_put SS hG hP (mW_D hD) hS 0 (v := .int (J 0)) (ty := .int) (C := RX12) (T := TX12) (N := 31) rfl rfl inX12 tyX12 tyX12_ok nmX12 6 (by decide) (ref := RX12) kw_1064 rfl rfl (by decide +kernel) rfl rfl (Nat.le_of_ble_eq_true rfl) dX12_findSum_2 (ws' := (mW D o q (uV u 6 0))) rfl (fun H locs hP hS => ?_)
  refine j_iconst SS dX12_findSum_5 ?_
  refine lv_istore_n (lv' := [(3, .int (J 0)), (0, .ref o), (1, .int (J s)), (2, .int (J s2))]) SS.1 SS.2.1 dX12_findSum_6 rfl hl (by decide) rfl (fun ls hl => ?_)
  have L_7 : ∀ (nn : Nat) (i : Int) (f : Nat → Int) (g : Nat → Int) (w : Int) (H : Heap) (locs : List Loc) (hP : va_P D.1 j_cl (mW D o q (uV (uI (uI u 4 f) 5 g) 6 w)) H) (hS : va_S A st.heap H locs) (ls : Array Slot) (hl : lv_has ls 5 [(0, .ref o), (1, .int (J s)), (2, .int (J s2)), (3, .int (J i))]) (i7_0 : 0 ≤ i ∧ i ≤ mN u s) (i7_1 : 0 ≤ w ∧ w ≤ 24 * i) (i7_2 : bd 80 f g w), (mN u s - i).toNat < nn → W pr l en (headSpec (jw yX12_findSum cX12_findSum 5 none) (jr 3 68)).room st mi (([.ref o, .int (J s), .int (J s2)] : List Value).toArray) below meth co H locs 0 0 (MQ below (jWv (fun u' => ∃ f : Nat → Int, ∃ g : Nat → Int, ∃ w : Int, ∃ X : Nat → Int, ∃ Y : Nat → Int, ∃ nh : Int, u' = (uV (uI (uI (uV (uI (uI u 4 f) 5 g) 6 w) 7 X) 8 Y) 9 nh) ∧ (0 ≤ nh ∧ nh ≤ 1290 ∧ Ch nh X Y ∧ bd 10000 X Y nh ∧ bd 80 X Y nh)) (fun u' H => va_P D.1 j_cl (mW D o q u') H) A) (([.ref o, .int (J s), .int (J s2)] : List Value).toArray) st 0 0 A) (F0 mi 7 ls []) := by
    intro nn
    induction nn with
    | zero => intros; omega
    | succ nn ih_7 =>
      intro i f g w H locs hP hS ls hl i7_0 i7_1 i7_2 hm
      refine lv_iload_n SS.1 SS.2.1 dX12_findSum_7 rfl (lv_at hl 3 rfl) ?_
      refine lv_aload_n SS.1 SS.2.1 dX12_findSum_8 rfl (lv_at hl 0 rfl) ?_
      refine j_get SS hG hP 0 (v := .ref (q 0)) (C := RX12) (T := TX12) (N := 31) rfl rfl inX12 0 (by decide) (ref := RX12) kw_1058 rfl rfl dX12_findSum_9 ?_
      refine lv_iload_n SS.1 SS.2.1 dX12_findSum_12 rfl (lv_at hl 1 rfl) ?_
      refine j_iald SS hG hP 1 (n := 8) (f := (u.1 0)) rfl (z := s) (by omega) (by omega) dX12_findSum_13 ?_
      have hN_13 := (show Sh u s from (by first | exact p1 | exact p3)).1
      refine j_icmp_ge SS (tgt := 75) (x := i) (y := (mN u s)) dX12_findSum_14 (by decide) (by omega) (by omega) (fun c_14 => ?_) (fun c_14 => ?_)
      · skip
        refine lv_aload_n SS.1 SS.2.1 dX12_findSum_75 rfl (lv_at hl 0 rfl) ?_
        refine j_vWv SS (As := []) (rest := []) (c_X12_findHull l D o q (uV (uI (uI u 4 f) 5 g) 6 w) A (mW_D hD)  (show 0 ≤ w ∧ w ≤ 640 from (by omega)) (show bd 10000 (f) (g) (w) from (bd_K i7_2 (by omega)))) mf_X12_findHull kw_1189 hG hP hP (ci := 8) (q0 := 0) rfl rfl rfl hS (fun _ h => h) rfl hl.1 ⟨⟨Nat.le_of_ble_eq_true rfl, Nat.le_of_ble_eq_true rfl⟩, Nat.le_of_ble_eq_true rfl, Nat.le_refl _, Nat.le_refl _⟩ rfl dX12_findSum_76 (fun u76 H locs h_76 hP _ hS => ?_)
        obtain ⟨f_76, g_76, w_76, X_76, Y_76, nh_76, rfl, h_76⟩ := h_76
        have hP : va_P D.1 j_cl (mW D o q (uV (uI (uI (uV (uI (uI u 4 f_76) 5 g_76) 6 w_76) 7 X_76) 8 Y_76) 9 nh_76)) H := hP
        have h_76 : 0 ≤ nh_76 ∧ nh_76 ≤ 1290 ∧ Ch nh_76 X_76 Y_76 ∧ (0 < w → 0 < nh_76) ∧ bd 10000 X_76 Y_76 nh_76 ∧ ∀ K : Int, bd K (f) (g) (w) → bd K X_76 Y_76 nh_76 := h_76
        obtain ⟨a1, a2, a3, a4, a5, a6⟩ := h_76
        exact W.vret SS.1 SS.2.1 hr (fun t ht hW => ⟨⟨(uV (uI (uI (uV (uI (uI u 4 f_76) 5 g_76) 6 w_76) 7 X_76) 8 Y_76) 9 nh_76), rfl, (⟨f_76, g_76, w_76, X_76, Y_76, nh_76, rfl, ⟨a1, a2, a3, a5, a6 80 i7_2⟩⟩), by show va_P D.1 j_cl (mW D o q (uV (uI (uI (uV (uI (uI u 4 f_76) 5 g_76) 6 w_76) 7 X_76) 8 Y_76) 9 nh_76)) t.heap; rw [ht]; exact hP⟩, hS.F ht⟩) hS.2.2 dX12_findSum_79 hlk
      · skip
        refine j_iconst SS dX12_findSum_17 ?_
        refine lv_istore (lv' := [(4, .int (J 0)), (0, .ref o), (1, .int (J s)), (2, .int (J s2)), (3, .int (J i))]) SS.1 SS.2.1 dX12_findSum_18 hl (by decide) rfl (fun ls hl => ?_)
        have L_20 : ∀ (nn : Nat) (j : Int) (f_ : Nat → Int) (g_ : Nat → Int) (w_ : Int) (H : Heap) (locs : List Loc) (hP : va_P D.1 j_cl (mW D o q (uV (uI (uI u 4 f_) 5 g_) 6 w_)) H) (hS : va_S A st.heap H locs) (ls : Array Slot) (hl : lv_has ls 5 [(0, .ref o), (1, .int (J s)), (2, .int (J s2)), (3, .int (J i)), (4, .int (J j))]) (i20_0 : 0 ≤ j ∧ j ≤ mN u s2) (i20_1 : 0 ≤ w_ ∧ w_ ≤ 24 * i + j) (i20_2 : bd 80 f_ g_ w_), (mN u s2 - j).toNat < nn → W pr l en (headSpec (jw yX12_findSum cX12_findSum 5 none) (jr 3 68)).room st mi (([.ref o, .int (J s), .int (J s2)] : List Value).toArray) below meth co H locs 0 0 (MQ below (jWv (fun u' => ∃ f : Nat → Int, ∃ g : Nat → Int, ∃ w : Int, ∃ X : Nat → Int, ∃ Y : Nat → Int, ∃ nh : Int, u' = (uV (uI (uI (uV (uI (uI u 4 f) 5 g) 6 w) 7 X) 8 Y) 9 nh) ∧ (0 ≤ nh ∧ nh ≤ 1290 ∧ Ch nh X Y ∧ bd 10000 X Y nh ∧ bd 80 X Y nh)) (fun u' H => va_P D.1 j_cl (mW D o q u') H) A) (([.ref o, .int (J s), .int (J s2)] : List Value).toArray) st 0 0 A) (F0 mi 20 ls []) := by
          intro nn
          induction nn with
          | zero => intros; omega
          | succ nn ih_20 =>
            intro j f_ g_ w_ H locs hP hS ls hl i20_0 i20_1 i20_2 hm
            refine lv_iload SS.1 SS.2.1 dX12_findSum_20 (lv_at hl 4 rfl) ?_
            refine lv_aload_n SS.1 SS.2.1 dX12_findSum_22 rfl (lv_at hl 0 rfl) ?_
            refine j_get SS hG hP 0 (v := .ref (q 0)) (C := RX12) (T := TX12) (N := 31) rfl rfl inX12 0 (by decide) (ref := RX12) kw_1058 rfl rfl dX12_findSum_23 ?_
            refine lv_iload_n SS.1 SS.2.1 dX12_findSum_26 rfl (lv_at hl 2 rfl) ?_
            refine j_iald SS hG hP 1 (n := 8) (f := (u.1 0)) rfl (z := s2) (by omega) (by omega) dX12_findSum_27 ?_
            have hN_27 := (show Sh u s2 from (by first | exact p1 | exact p3)).1
            refine j_icmp_ge SS (tgt := 69) (x := j) (y := (mN u s2)) dX12_findSum_28 (by decide) (by omega) (by omega) (fun c_28 => ?_) (fun c_28 => ?_)
            · skip
              refine lv_iinc (v := J (i + 1)) (lv' := [(3, .int (J (i + 1))), (0, .ref o), (1, .int (J s)), (2, .int (J s2)), (4, .int (J j))]) SS.1 SS.2.1 dX12_findSum_69 hl (k := 3) rfl (J_add _ _) (by decide) rfl (fun ls hl => ?_)
              refine lv_goto (tgt := 7) SS.1 SS.2.1 dX12_findSum_72 (by decide) ?_
              exact ih_7 (i + 1) f_ g_ w_ _ _ hP hS ls (lv_sub hl [1, 2, 3, 0] rfl) (by omega) (by omega) (i20_2) (by omega)
            · skip
              refine lv_aload_n SS.1 SS.2.1 dX12_findSum_31 rfl (lv_at hl 0 rfl) ?_
              refine lv_aload_n SS.1 SS.2.1 dX12_findSum_32 rfl (lv_at hl 0 rfl) ?_
              refine lv_iload_n SS.1 SS.2.1 dX12_findSum_33 rfl (lv_at hl 1 rfl) ?_
              refine lv_iload_n SS.1 SS.2.1 dX12_findSum_34 rfl (lv_at hl 3 rfl) ?_
              refine j_vRi SS (As := [.int (J s), .int (J i)]) (rest := [.ref o]) (c_X12_x l D o q (uV (uI (uI u 4 f_) 5 g_) 6 w_) s i (show 0 ≤ s ∧ s ≤ 7 from (by omega)) (show 0 ≤ i ∧ i ≤ 1000000 from (by omega)) (show 0 < mN u s ∧ mN u s ≤ 24 from (by first | omega | (have hq := (show Sh u s from (by first | exact p1 | exact p3)).1; omega)))) mf_X12_x kw_1177 hG hP hP (ci := 8) (q0 := 0) rfl rfl rfl rfl hl.1 ⟨⟨Nat.le_of_ble_eq_true rfl, Nat.le_of_ble_eq_true rfl⟩, Nat.le_of_ble_eq_true rfl, Nat.le_refl _, Nat.le_refl _⟩ rfl dX12_findSum_35 (fun z_35 h_35 => ?_)
              have h_35 : z_35 = mX u s i := h_35
              have hb_35 := (show Sh u s from (by first | exact p1 | exact p3)).2.1 (by omega) i (by omega)
              refine lv_aload_n SS.1 SS.2.1 dX12_findSum_38 rfl (lv_at hl 0 rfl) ?_
              refine lv_iload_n SS.1 SS.2.1 dX12_findSum_39 rfl (lv_at hl 2 rfl) ?_
              refine lv_iload SS.1 SS.2.1 dX12_findSum_40 (lv_at hl 4 rfl) ?_
              refine j_vRi SS (As := [.int (J s2), .int (J j)]) (rest := [.int (J z_35), .ref o]) (c_X12_x l D o q (uV (uI (uI u 4 f_) 5 g_) 6 w_) s2 j (show 0 ≤ s2 ∧ s2 ≤ 7 from (by omega)) (show 0 ≤ j ∧ j ≤ 1000000 from (by omega)) (show 0 < mN u s2 ∧ mN u s2 ≤ 24 from (by first | omega | (have hq := (show Sh u s2 from (by first | exact p1 | exact p3)).1; omega)))) mf_X12_x kw_1177 hG hP hP (ci := 8) (q0 := 0) rfl rfl rfl rfl hl.1 ⟨⟨Nat.le_of_ble_eq_true rfl, Nat.le_of_ble_eq_true rfl⟩, Nat.le_of_ble_eq_true rfl, Nat.le_refl _, Nat.le_refl _⟩ rfl dX12_findSum_42 (fun z_42 h_42 => ?_)
              have h_42 : z_42 = mX u s2 j := h_42
              have hb_42 := (show Sh u s2 from (by first | exact p1 | exact p3)).2.1 (by omega) j (by omega)
              refine j_iadd SS (x := z_35) (y := z_42) dX12_findSum_45 ?_
              refine lv_aload_n SS.1 SS.2.1 dX12_findSum_46 rfl (lv_at hl 0 rfl) ?_
              refine lv_iload_n SS.1 SS.2.1 dX12_findSum_47 rfl (lv_at hl 1 rfl) ?_
              refine lv_iload_n SS.1 SS.2.1 dX12_findSum_48 rfl (lv_at hl 3 rfl) ?_
              refine j_vRi SS (As := [.int (J s), .int (J i)]) (rest := [.int (J (z_35 + z_42)), .ref o]) (c_X12_y l D o q (uV (uI (uI u 4 f_) 5 g_) 6 w_) s i (show 0 ≤ s ∧ s ≤ 7 from (by omega)) (show 0 ≤ i ∧ i ≤ 1000000 from (by omega)) (show 0 < mN u s ∧ mN u s ≤ 24 from (by first | omega | (have hq := (show Sh u s from (by first | exact p1 | exact p3)).1; omega)))) mf_X12_y kw_1181 hG hP hP (ci := 8) (q0 := 0) rfl rfl rfl rfl hl.1 ⟨⟨Nat.le_of_ble_eq_true rfl, Nat.le_of_ble_eq_true rfl⟩, Nat.le_of_ble_eq_true rfl, Nat.le_refl _, Nat.le_refl _⟩ rfl dX12_findSum_49 (fun z_49 h_49 => ?_)
              have h_49 : z_49 = mY u s i := h_49
              have hb_49 := (show Sh u s from (by first | exact p1 | exact p3)).2.1 (by omega) i (by omega)
              refine lv_aload_n SS.1 SS.2.1 dX12_findSum_52 rfl (lv_at hl 0 rfl) ?_
              refine lv_iload_n SS.1 SS.2.1 dX12_findSum_53 rfl (lv_at hl 2 rfl) ?_
              refine lv_iload SS.1 SS.2.1 dX12_findSum_54 (lv_at hl 4 rfl) ?_
              refine j_vRi SS (As := [.int (J s2), .int (J j)]) (rest := [.int (J z_49), .int (J (z_35 + z_42)), .ref o]) (c_X12_y l D o q (uV (uI (uI u 4 f_) 5 g_) 6 w_) s2 j (show 0 ≤ s2 ∧ s2 ≤ 7 from (by omega)) (show 0 ≤ j ∧ j ≤ 1000000 from (by omega)) (show 0 < mN u s2 ∧ mN u s2 ≤ 24 from (by first | omega | (have hq := (show Sh u s2 from (by first | exact p1 | exact p3)).1; omega)))) mf_X12_y kw_1181 hG hP hP (ci := 8) (q0 := 0) rfl rfl rfl rfl hl.1 ⟨⟨Nat.le_of_ble_eq_true rfl, Nat.le_of_ble_eq_true rfl⟩, Nat.le_of_ble_eq_true rfl, Nat.le_refl _, Nat.le_refl _⟩ rfl dX12_findSum_56 (fun z_56 h_56 => ?_)
              have h_56 : z_56 = mY u s2 j := h_56
              have hb_56 := (show Sh u s2 from (by first | exact p1 | exact p3)).2.1 (by omega) j (by omega)
              refine j_iadd SS (x := z_49) (y := z_56) dX12_findSum_59 ?_
              refine j_vWv SS (As := [.int (J (z_35 + z_42)), .int (J (z_49 + z_56))]) (rest := []) (c_X12_put l D o q (uV (uI (uI u 4 f_) 5 g_) 6 w_) A (mW_D hD) (z_35 + z_42) (z_49 + z_56) (show 0 ≤ w_ ∧ w_ < 640 from (by omega))) mf_X12_put kw_1185 hG hP hP (ci := 8) (q0 := 0) rfl rfl rfl hS (fun _ h => h) rfl hl.1 ⟨⟨Nat.le_of_ble_eq_true rfl, Nat.le_of_ble_eq_true rfl⟩, Nat.le_of_ble_eq_true rfl, Nat.le_refl _, Nat.le_refl _⟩ rfl dX12_findSum_60 (fun u60 H locs h_60 hP _ hS => ?_)
              obtain ⟨f_60, g_60, w_60, rfl, h_60⟩ := h_60
              have hP : va_P D.1 j_cl (mW D o q (uV (uI (uI u 4 f_60) 5 g_60) 6 w_60)) H := hP
              have h_60 : f_60 = upI (f_) (w_).toNat (z_35 + z_42) ∧ g_60 = upI (g_) (w_).toNat (z_49 + z_56) ∧ w_60 = w_ + 1 := h_60
              have k1 := h_60.2.2
              refine lv_iinc (v := J (j + 1)) (lv' := [(4, .int (J (j + 1))), (0, .ref o), (1, .int (J s)), (2, .int (J s2)), (3, .int (J i))]) SS.1 SS.2.1 dX12_findSum_63 hl (k := 4) rfl (J_add _ _) (by decide) rfl (fun ls hl => ?_)
              refine lv_goto (tgt := 20) SS.1 SS.2.1 dX12_findSum_66 (by decide) ?_
              exact ih_20 (j + 1) f_60 g_60 w_60 _ _ hP hS ls (lv_sub hl [1, 2, 3, 4, 0] rfl) (by omega) (by omega) (by obtain ⟨k1, k2, k3⟩ := h_60; rw [k1, k2, k3]; exact bd_put (by omega) i20_2 (by omega) (by omega)) (by omega)
        exact L_20 ((mN u s2 - (0 : Int)).toNat + 1) 0 f g w _ _ hP hS ls (lv_sub hl [1, 2, 3, 4, 0] rfl) (by omega) (by omega) (i7_2) (Nat.lt_succ_self _)
  exact L_7 ((mN u s - (0 : Int)).toNat + 1) 0 (u.1 4) (u.1 5) 0 _ _ hP hS ls (lv_sub hl [1, 2, 3, 0] rfl) (by omega) (by omega) (fun a ha => by omega) (Nat.lt_succ_self _)

set_option maxHeartbeats 4000000 in
set_option maxRecDepth 100000 in
theorem c_X12_mixed (l : Launch) (D : JD) (o : Nat) (q : Nat → Nat) (u : MS) (A : Nat → Prop) (hD : va_D A (mW D o q u)) (s : Int) (s2 : Int) (p0 : IM u) (p1 : -2147483648 ≤ s ∧ s ≤ 2147483647) (p2 : -2147483648 ≤ s2 ∧ s2 ≤ 2147483647) : Met l yX12_mixed (jw yX12_mixed cX12_mixed 6 (some .int)) (jr 4 92) (jP [.ref o, .int (J s), .int (J s2)] D (fun H => va_P D.1 j_cl (mW D o q u) H)) (jWi (fun z u' => ∃ f4 : Nat → Int, ∃ f5 : Nat → Int, ∃ w : Int, ∃ X : Nat → Int, ∃ Y : Nat → Int, ∃ nh : Int, u' = (uV (uI (uI (uV (uI (uI u 4 f4) 5 f5) 6 w) 7 X) 8 Y) 9 nh) ∧ (IM u')) (fun u' H => va_P D.1 j_cl (mW D o q u') H) A) 0 0 A := by
  refine Met.ofW (cc := cX12_mixed) (maxL := 6) (ret := (some .int)) (by decide) rfl ?_
  intro pr en st mi args below meth co s₁ B hml hv
  obtain ⟨rfl, hG, hP⟩ := hv
  have hr := B.returns
  have hlk := B.notSynchronized
  have SS : jS pr mi co cX12_mixed 6 st _ RX12 := ⟨B.exec, B.bytes, hml, findClass_of_methodNamed B.named, fun w hw => atoms_spec (ws := (jw yX12_mixed cX12_mixed 6 (some .int))) B.pre w (List.mem_cons_of_mem _ hw)⟩
  have hl := lv_entry ([.ref o, .int (J s), .int (J s2)]) (n := 6) (Nat.le_of_ble_eq_true rfl)
  rw [lg_entry_eq]
  generalize (lg_sl ([.ref o, .int (J s), .int (J s2)]) ++ List.replicate (6 - (lg_sl ([.ref o, .int (J s), .int (J s2)])).length) Slot.unset).toArray = ls at hl ⊢
  have hl : lv_has ls 6 [(0, .ref o), (1, .int (J s)), (2, .int (J s2))] := hl
  have hS : va_S A st.heap st.heap [] := va_S.rf
  refine lv_iload_n SS.1 SS.2.1 dX12_mixed_0 rfl (lv_at hl 1 rfl) ?_
  refine j_sRi SS (As := [.int (J s)]) (rest := []) (c_X12_isShape l D s (show -2147483648 ≤ s ∧ s ≤ 2147483647 from (by omega))) mf_X12_isShape kw_1156 hG trivial rfl hl.1 ⟨⟨Nat.le_of_ble_eq_true rfl, Nat.le_of_ble_eq_true rfl⟩, Nat.le_of_ble_eq_true rfl, Nat.le_refl _, Nat.le_refl _⟩ rfl dX12_mixed_1 (fun z_1 h_1 => ?_)
  have h_1 : (z_1 = 1 ∧ (0 ≤ s ∧ s ≤ 7)) ∨ (z_1 = 0 ∧ ¬ (0 ≤ s ∧ s ≤ 7)) := h_1
  refine j_if_eq SS (tgt := 14) (x := z_1) dX12_mixed_4 (by decide) (by omega) (fun c_4 => ?_) (fun c_4 => ?_)
  · skip
    refine j_iconst SS dX12_mixed_14 ?_
    exact W.iret SS.1 SS.2.1 hr (fun t ht hW => ⟨⟨_, (uV (uI (uI (uV (uI (uI u 4 (u.1 4)) 5 (u.1 5)) 6 (u.2.2 6)) 7 (u.1 7)) 8 (u.1 8)) 9 (u.2.2 9)), rfl, ⟨(-1), rfl, (⟨(u.1 4), (u.1 5), (u.2.2 6), (u.1 7), (u.1 8), (u.2.2 9), rfl, p0⟩)⟩, by show va_P D.1 j_cl (mW D o q (uV (uI (uI (uV (uI (uI u 4 (u.1 4)) 5 (u.1 5)) 6 (u.2.2 6)) 7 (u.1 7)) 8 (u.1 8)) 9 (u.2.2 9))) t.heap; rw [ht]; exact hP⟩, hS.F ht⟩) hS.2.2 dX12_mixed_15 hlk
  · skip
    refine lv_iload_n SS.1 SS.2.1 dX12_mixed_7 rfl (lv_at hl 2 rfl) ?_
    refine j_sRi SS (As := [.int (J s2)]) (rest := []) (c_X12_isShape l D s2 (show -2147483648 ≤ s2 ∧ s2 ≤ 2147483647 from (by omega))) mf_X12_isShape kw_1156 hG trivial rfl hl.1 ⟨⟨Nat.le_of_ble_eq_true rfl, Nat.le_of_ble_eq_true rfl⟩, Nat.le_of_ble_eq_true rfl, Nat.le_refl _, Nat.le_refl _⟩ rfl dX12_mixed_8 (fun z_8 h_8 => ?_)
    have h_8 : (z_8 = 1 ∧ (0 ≤ s2 ∧ s2 ≤ 7)) ∨ (z_8 = 0 ∧ ¬ (0 ≤ s2 ∧ s2 ≤ 7)) := h_8
    refine j_if_ne SS (tgt := 16) (x := z_8) dX12_mixed_11 (by decide) (by omega) (fun c_11 => ?_) (fun c_11 => ?_)
    · skip
      refine lv_aload_n SS.1 SS.2.1 dX12_mixed_16 rfl (lv_at hl 0 rfl) ?_
      refine j_get SS hG hP 0 (v := .ref (q 0)) (C := RX12) (T := TX12) (N := 31) rfl rfl inX12 0 (by decide) (ref := RX12) kw_1058 rfl rfl dX12_mixed_17 ?_
      refine lv_iload_n SS.1 SS.2.1 dX12_mixed_20 rfl (lv_at hl 1 rfl) ?_
      refine j_iald SS hG hP 1 (n := 8) (f := (u.1 0)) rfl (z := s) (by omega) (by omega) dX12_mixed_21 ?_
      have hN_21 := (show Sh u s from p0.1 _ (by omega) (by omega)).1
      refine j_if_eq SS (tgt := 34) (x := (mN u s)) dX12_mixed_22 (by decide) (by omega) (fun c_22 => ?_) (fun c_22 => ?_)
      · skip
        refine j_iconst SS dX12_mixed_34 ?_
        exact W.iret SS.1 SS.2.1 hr (fun t ht hW => ⟨⟨_, (uV (uI (uI (uV (uI (uI u 4 (u.1 4)) 5 (u.1 5)) 6 (u.2.2 6)) 7 (u.1 7)) 8 (u.1 8)) 9 (u.2.2 9)), rfl, ⟨0, rfl, (⟨(u.1 4), (u.1 5), (u.2.2 6), (u.1 7), (u.1 8), (u.2.2 9), rfl, p0⟩)⟩, by show va_P D.1 j_cl (mW D o q (uV (uI (uI (uV (uI (uI u 4 (u.1 4)) 5 (u.1 5)) 6 (u.2.2 6)) 7 (u.1 7)) 8 (u.1 8)) 9 (u.2.2 9))) t.heap; rw [ht]; exact hP⟩, hS.F ht⟩) hS.2.2 dX12_mixed_35 hlk
      · skip
        refine lv_aload_n SS.1 SS.2.1 dX12_mixed_25 rfl (lv_at hl 0 rfl) ?_
        refine j_get SS hG hP 0 (v := .ref (q 0)) (C := RX12) (T := TX12) (N := 31) rfl rfl inX12 0 (by decide) (ref := RX12) kw_1058 rfl rfl dX12_mixed_26 ?_
        refine lv_iload_n SS.1 SS.2.1 dX12_mixed_29 rfl (lv_at hl 2 rfl) ?_
        refine j_iald SS hG hP 1 (n := 8) (f := (u.1 0)) rfl (z := s2) (by omega) (by omega) dX12_mixed_30 ?_
        have hN_30 := (show Sh u s2 from p0.1 _ (by omega) (by omega)).1
        refine j_if_ne SS (tgt := 36) (x := (mN u s2)) dX12_mixed_31 (by decide) (by omega) (fun c_31 => ?_) (fun c_31 => ?_)
        · skip
          refine lv_aload_n SS.1 SS.2.1 dX12_mixed_36 rfl (lv_at hl 0 rfl) ?_
          refine lv_iload_n SS.1 SS.2.1 dX12_mixed_37 rfl (lv_at hl 1 rfl) ?_
          refine lv_iload_n SS.1 SS.2.1 dX12_mixed_38 rfl (lv_at hl 2 rfl) ?_
          refine j_vWv SS (As := [.int (J s), .int (J s2)]) (rest := []) (c_X12_findSum l D o q u A (mW_D hD) s s2 (show 0 ≤ s ∧ s ≤ 7 from (by omega)) (show Sh u s from (p0.1 _ (by omega) (by omega))) (show 0 ≤ s2 ∧ s2 ≤ 7 from (by omega)) (show Sh u s2 from (p0.1 _ (by omega) (by omega)))) mf_X12_findSum kw_1317 hG hP hP (ci := 8) (q0 := 0) rfl rfl rfl hS (fun _ h => h) rfl hl.1 ⟨⟨Nat.le_of_ble_eq_true rfl, Nat.le_of_ble_eq_true rfl⟩, Nat.le_of_ble_eq_true rfl, Nat.le_refl _, Nat.le_refl _⟩ rfl dX12_mixed_39 (fun u39 H locs h_39 hP _ hS => ?_)
          obtain ⟨f_39, g_39, w_39, X_39, Y_39, nh_39, rfl, h_39⟩ := h_39
          have hP : va_P D.1 j_cl (mW D o q (uV (uI (uI (uV (uI (uI u 4 f_39) 5 g_39) 6 w_39) 7 X_39) 8 Y_39) 9 nh_39)) H := hP
          have h_39 : 0 ≤ nh_39 ∧ nh_39 ≤ 1290 ∧ Ch nh_39 X_39 Y_39 ∧ bd 10000 X_39 Y_39 nh_39 ∧ bd 80 X_39 Y_39 nh_39 := h_39
          obtain ⟨a1, a2, a3, a4, a5⟩ := h_39
          refine j_iconst SS dX12_mixed_42 ?_
          refine lv_istore_n (lv' := [(3, .int (J 0)), (0, .ref o), (1, .int (J s)), (2, .int (J s2))]) SS.1 SS.2.1 dX12_mixed_43 rfl hl (by decide) rfl (fun ls hl => ?_)
          refine j_iconst SS dX12_mixed_44 ?_
          refine lv_istore (lv' := [(4, .int (J 0)), (3, .int (J 0)), (0, .ref o), (1, .int (J s)), (2, .int (J s2))]) SS.1 SS.2.1 dX12_mixed_45 hl (by decide) rfl (fun ls hl => ?_)
          have L_47 : ∀ (nn : Nat) (t3 : Int) (i : Int) (H : Heap) (locs : List Loc) (hP : va_P D.1 j_cl (mW D o q (uV (uI (uI (uV (uI (uI u 4 f_39) 5 g_39) 6 w_39) 7 X_39) 8 Y_39) 9 nh_39)) H) (hS : va_S A st.heap H locs) (ls : Array Slot) (hl : lv_has ls 6 [(0, .ref o), (1, .int (J s)), (2, .int (J s2)), (3, .int (J t3)), (4, .int (J i))]) (i47_0 : 0 ≤ i ∧ i ≤ nh_39), (nh_39 - i).toNat < nn → W pr l en (headSpec (jw yX12_mixed cX12_mixed 6 (some .int)) (jr 4 92)).room st mi (([.ref o, .int (J s), .int (J s2)] : List Value).toArray) below meth co H locs 0 0 (MQ below (jWi (fun z u' => ∃ f4 : Nat → Int, ∃ f5 : Nat → Int, ∃ w : Int, ∃ X : Nat → Int, ∃ Y : Nat → Int, ∃ nh : Int, u' = (uV (uI (uI (uV (uI (uI u 4 f4) 5 f5) 6 w) 7 X) 8 Y) 9 nh) ∧ (IM u')) (fun u' H => va_P D.1 j_cl (mW D o q u') H) A) (([.ref o, .int (J s), .int (J s2)] : List Value).toArray) st 0 0 A) (F0 mi 47 ls []) := by
            intro nn
            induction nn with
            | zero => intros; omega
            | succ nn ih_47 =>
              intro t3 i  H locs hP hS ls hl i47_0 hm
              refine lv_iload SS.1 SS.2.1 dX12_mixed_47 (lv_at hl 4 rfl) ?_
              refine lv_aload_n SS.1 SS.2.1 dX12_mixed_49 rfl (lv_at hl 0 rfl) ?_
              refine j_get SS hG hP 0 (v := .int (J nh_39)) (C := RX12) (T := TX12) (N := 31) rfl rfl inX12 9 (by decide) (ref := RX12) kw_1067 rfl rfl dX12_mixed_50 ?_
              refine j_icmp_ge SS (tgt := 107) (x := i) (y := nh_39) dX12_mixed_53 (by decide) (by omega) (by omega) (fun c_53 => ?_) (fun c_53 => ?_)
              · skip
                refine lv_iload_n SS.1 SS.2.1 dX12_mixed_107 rfl (lv_at hl 3 rfl) ?_
                refine lv_aload_n SS.1 SS.2.1 dX12_mixed_108 rfl (lv_at hl 0 rfl) ?_
                refine lv_iload_n SS.1 SS.2.1 dX12_mixed_109 rfl (lv_at hl 1 rfl) ?_
                refine j_vRi SS (As := [.int (J s)]) (rest := [.int (J t3)]) (c_X12_areaOf l D o q (uV (uI (uI (uV (uI (uI u 4 f_39) 5 g_39) 6 w_39) 7 X_39) 8 Y_39) 9 nh_39) s (show 0 ≤ s ∧ s ≤ 7 from (by omega)) (show Sh u s from (p0.1 _ (by omega) (by omega)))) mf_X12_areaOf kw_1218 hG hP hP (ci := 8) (q0 := 0) rfl rfl rfl rfl hl.1 ⟨⟨Nat.le_of_ble_eq_true rfl, Nat.le_of_ble_eq_true rfl⟩, Nat.le_of_ble_eq_true rfl, Nat.le_refl _, Nat.le_refl _⟩ rfl dX12_mixed_110 (fun z_110 h_110 => ?_)
                have h_110 : z_110 = mAr u s ∧ -80000 ≤ z_110 ∧ z_110 ≤ 80000 := h_110
                refine j_isub SS (x := t3) (y := z_110) dX12_mixed_113 ?_
                refine lv_aload_n SS.1 SS.2.1 dX12_mixed_114 rfl (lv_at hl 0 rfl) ?_
                refine lv_iload_n SS.1 SS.2.1 dX12_mixed_115 rfl (lv_at hl 2 rfl) ?_
                refine j_vRi SS (As := [.int (J s2)]) (rest := [.int (J (t3 - z_110))]) (c_X12_areaOf l D o q (uV (uI (uI (uV (uI (uI u 4 f_39) 5 g_39) 6 w_39) 7 X_39) 8 Y_39) 9 nh_39) s2 (show 0 ≤ s2 ∧ s2 ≤ 7 from (by omega)) (show Sh u s2 from (p0.1 _ (by omega) (by omega)))) mf_X12_areaOf kw_1218 hG hP hP (ci := 8) (q0 := 0) rfl rfl rfl rfl hl.1 ⟨⟨Nat.le_of_ble_eq_true rfl, Nat.le_of_ble_eq_true rfl⟩, Nat.le_of_ble_eq_true rfl, Nat.le_refl _, Nat.le_refl _⟩ rfl dX12_mixed_116 (fun z_116 h_116 => ?_)
                have h_116 : z_116 = mAr u s2 ∧ -80000 ≤ z_116 ∧ z_116 ≤ 80000 := h_116
                refine j_isub SS (x := (t3 - z_110)) (y := z_116) dX12_mixed_119 ?_
                exact W.iret SS.1 SS.2.1 hr (fun t ht hW => ⟨⟨_, (uV (uI (uI (uV (uI (uI u 4 f_39) 5 g_39) 6 w_39) 7 X_39) 8 Y_39) 9 nh_39), rfl, ⟨((t3 - z_110) - z_116), rfl, (⟨f_39, g_39, w_39, X_39, Y_39, nh_39, rfl, p0⟩)⟩, by show va_P D.1 j_cl (mW D o q (uV (uI (uI (uV (uI (uI u 4 f_39) 5 g_39) 6 w_39) 7 X_39) 8 Y_39) 9 nh_39)) t.heap; rw [ht]; exact hP⟩, hS.F ht⟩) hS.2.2 dX12_mixed_120 hlk
              · skip
                refine lv_iload SS.1 SS.2.1 dX12_mixed_56 (lv_at hl 4 rfl) ?_
                refine j_iconst SS dX12_mixed_58 ?_
                refine j_iadd SS (x := i) (y := 1) dX12_mixed_59 ?_
                refine lv_aload_n SS.1 SS.2.1 dX12_mixed_60 rfl (lv_at hl 0 rfl) ?_
                have tb := tm_b (i := i + 1) (n := nh_39) (by omega) (by omega)
                refine j_get SS hG hP 0 (v := .int (J nh_39)) (C := RX12) (T := TX12) (N := 31) rfl rfl inX12 9 (by decide) (ref := RX12) kw_1067 rfl rfl dX12_mixed_61 ?_
                refine j_irem SS (x := (i + 1)) (y := nh_39) dX12_mixed_64 (by omega) (by omega) (by omega) ?_
                refine lv_istore (lv' := [(5, .int (J (Int.tmod (i + 1) nh_39))), (0, .ref o), (1, .int (J s)), (2, .int (J s2)), (3, .int (J t3)), (4, .int (J i))]) SS.1 SS.2.1 dX12_mixed_65 hl (by decide) rfl (fun ls hl => ?_)
                refine lv_iload_n SS.1 SS.2.1 dX12_mixed_67 rfl (lv_at hl 4 rfl) ?_
                refine lv_aload_n SS.1 SS.2.1 dX12_mixed_68 rfl (lv_at hl 1 rfl) ?_
                refine j_get SS hG hP 0 (v := .ref (q 7)) (C := RX12) (T := TX12) (N := 31) rfl rfl inX12 7 (by decide) (ref := RX12) kw_1065 rfl rfl dX12_mixed_69 ?_
                refine lv_iload SS.1 SS.2.1 dX12_mixed_72 (lv_at hl 5 rfl) ?_
                refine j_iald SS hG hP 7 (n := 1300) (f := X_39) rfl (z := i) (by omega) (by omega) dX12_mixed_74 ?_
                refine lv_aload_n SS.1 SS.2.1 dX12_mixed_75 rfl (lv_at hl 1 rfl) ?_
                refine j_get SS hG hP 0 (v := .ref (q 8)) (C := RX12) (T := TX12) (N := 31) rfl rfl inX12 8 (by decide) (ref := RX12) kw_1066 rfl rfl dX12_mixed_76 ?_
                refine lv_iload SS.1 SS.2.1 dX12_mixed_79 (lv_at hl 0 rfl) ?_
                refine j_iald SS hG hP 8 (n := 1300) (f := Y_39) rfl (z := (Int.tmod (i + 1) nh_39)) (by omega) (by omega) dX12_mixed_81 ?_
                refine j_imul SS (x := (X_39 (i).toNat)) (y := (Y_39 ((Int.tmod (i + 1) nh_39)).toNat)) dX12_mixed_82 ?_
                refine lv_aload_n SS.1 SS.2.1 dX12_mixed_83 rfl (lv_at hl 1 rfl) ?_
                refine j_get SS hG hP 0 (v := .ref (q 7)) (C := RX12) (T := TX12) (N := 31) rfl rfl inX12 7 (by decide) (ref := RX12) kw_1065 rfl rfl dX12_mixed_84 ?_
                refine lv_iload SS.1 SS.2.1 dX12_mixed_87 (lv_at hl 0 rfl) ?_
                refine j_iald SS hG hP 7 (n := 1300) (f := X_39) rfl (z := (Int.tmod (i + 1) nh_39)) (by omega) (by omega) dX12_mixed_89 ?_
                refine lv_aload_n SS.1 SS.2.1 dX12_mixed_90 rfl (lv_at hl 1 rfl) ?_
                refine j_get SS hG hP 0 (v := .ref (q 8)) (C := RX12) (T := TX12) (N := 31) rfl rfl inX12 8 (by decide) (ref := RX12) kw_1066 rfl rfl dX12_mixed_91 ?_
                refine lv_iload SS.1 SS.2.1 dX12_mixed_94 (lv_at hl 5 rfl) ?_
                refine j_iald SS hG hP 8 (n := 1300) (f := Y_39) rfl (z := i) (by omega) (by omega) dX12_mixed_96 ?_
                refine j_imul SS (x := (X_39 ((Int.tmod (i + 1) nh_39)).toNat)) (y := (Y_39 (i).toNat)) dX12_mixed_97 ?_
                refine j_isub SS (x := ((X_39 (i).toNat) * (Y_39 ((Int.tmod (i + 1) nh_39)).toNat))) (y := ((X_39 ((Int.tmod (i + 1) nh_39)).toNat) * (Y_39 (i).toNat))) dX12_mixed_98 ?_
                refine j_iadd SS (x := t3) (y := (((X_39 (i).toNat) * (Y_39 ((Int.tmod (i + 1) nh_39)).toNat)) - ((X_39 ((Int.tmod (i + 1) nh_39)).toNat) * (Y_39 (i).toNat)))) dX12_mixed_99 ?_
                refine lv_istore_n (lv' := [(3, .int (J (t3 + (((X_39 (i).toNat) * (Y_39 ((Int.tmod (i + 1) nh_39)).toNat)) - ((X_39 ((Int.tmod (i + 1) nh_39)).toNat) * (Y_39 (i).toNat)))))), (5, .int (J (Int.tmod (i + 1) nh_39))), (0, .ref o), (1, .int (J s)), (2, .int (J s2)), (4, .int (J i))]) SS.1 SS.2.1 dX12_mixed_100 rfl hl (by decide) rfl (fun ls hl => ?_)
                refine lv_iinc (v := J (i + 1)) (lv' := [(4, .int (J (i + 1))), (3, .int (J (t3 + (((X_39 (i).toNat) * (Y_39 ((Int.tmod (i + 1) nh_39)).toNat)) - ((X_39 ((Int.tmod (i + 1) nh_39)).toNat) * (Y_39 (i).toNat)))))), (5, .int (J (Int.tmod (i + 1) nh_39))), (0, .ref o), (1, .int (J s)), (2, .int (J s2))]) SS.1 SS.2.1 dX12_mixed_101 hl (k := 5) rfl (J_add _ _) (by decide) rfl (fun ls hl => ?_)
                refine lv_goto (tgt := 47) SS.1 SS.2.1 dX12_mixed_104 (by decide) ?_
                exact ih_47 (t3 + (((X_39 (i).toNat) * (Y_39 ((Int.tmod (i + 1) nh_39)).toNat)) - ((X_39 ((Int.tmod (i + 1) nh_39)).toNat) * (Y_39 (i).toNat)))) (i + 1) _ _ hP hS ls (lv_sub hl [3, 4, 5, 1, 0] rfl) (by omega) (by omega)
          exact L_47 ((nh_39 - (0 : Int)).toNat + 1) 0 0 _ _ hP hS ls (lv_sub hl [2, 3, 4, 1, 0] rfl) (by omega) (Nat.lt_succ_self _)
        · skip
          refine j_iconst SS dX12_mixed_34 ?_
          exact W.iret SS.1 SS.2.1 hr (fun t ht hW => ⟨⟨_, (uV (uI (uI (uV (uI (uI u 4 (u.1 4)) 5 (u.1 5)) 6 (u.2.2 6)) 7 (u.1 7)) 8 (u.1 8)) 9 (u.2.2 9)), rfl, ⟨0, rfl, (⟨(u.1 4), (u.1 5), (u.2.2 6), (u.1 7), (u.1 8), (u.2.2 9), rfl, p0⟩)⟩, by show va_P D.1 j_cl (mW D o q (uV (uI (uI (uV (uI (uI u 4 (u.1 4)) 5 (u.1 5)) 6 (u.2.2 6)) 7 (u.1 7)) 8 (u.1 8)) 9 (u.2.2 9))) t.heap; rw [ht]; exact hP⟩, hS.F ht⟩) hS.2.2 dX12_mixed_35 hlk
    · skip
      refine j_iconst SS dX12_mixed_14 ?_
      exact W.iret SS.1 SS.2.1 hr (fun t ht hW => ⟨⟨_, (uV (uI (uI (uV (uI (uI u 4 (u.1 4)) 5 (u.1 5)) 6 (u.2.2 6)) 7 (u.1 7)) 8 (u.1 8)) 9 (u.2.2 9)), rfl, ⟨(-1), rfl, (⟨(u.1 4), (u.1 5), (u.2.2 6), (u.1 7), (u.1 8), (u.2.2 9), rfl, p0⟩)⟩, by show va_P D.1 j_cl (mW D o q (uV (uI (uI (uV (uI (uI u 4 (u.1 4)) 5 (u.1 5)) 6 (u.2.2 6)) 7 (u.1 7)) 8 (u.1 8)) 9 (u.2.2 9))) t.heap; rw [ht]; exact hP⟩, hS.F ht⟩) hS.2.2 dX12_mixed_15 hlk

