
def LU (u : MS) (s lo hi : Int) (L U : Int → Int) : Prop := (∀ x y z : Int, lo ≤ x → x ≤ hi → wR u s x y z → 0 < z → L x ≤ y ∧ y ≤ U x) ∧ ∀ x : Int, lo ≤ x → x ≤ hi → L x ≤ U x + 1
def cb_ (L U : Int → Int) (lo n : Int) : Int := smI (fun k => U (lo + k) + 1 - L (lo + k)) n
theorem cb_0 {L U : Int → Int} {lo : Int} : cb_ L U lo 0 = 0 := rfl
theorem cb_s {L U : Int → Int} {lo x : Int} (h : lo ≤ x) : cb_ L U lo (x + 1 - lo) = cb_ L U lo (x - lo) + (U x + 1 - L x) := by
  unfold cb_
  rw [show x + 1 - lo = (x - lo) + 1 by omega, smI_s (by omega)]
  show _ + (U (lo + (x - lo)) + 1 - L (lo + (x - lo))) = _
  rw [show lo + (x - lo) = x by omega]
theorem os_no {f g : Nat → Int} {n x y : Int} (h : os_s f g n) (h2 : ∀ a : Nat, (a : Int) < n → lt2 (f a) (g a) x y) : os_s f g n ∧ ∀ a : Nat, (a : Int) < n → lt2 (f a) (g a) x (y + 1) :=
  ⟨h, fun a ha => by have q := h2 a ha; unfold lt2 at *; omega⟩
theorem os_put {f g : Nat → Int} {n x y : Int} (h0 : 0 ≤ n) (h : os_s f g n) (h2 : ∀ a : Nat, (a : Int) < n → lt2 (f a) (g a) x y) : os_s (upI f n.toNat x) (upI g n.toNat y) (n + 1) ∧ ∀ a : Nat, (a : Int) < n + 1 → lt2 (upI f n.toNat x a) (upI g n.toNat y a) x (y + 1) := by
  refine ⟨fun a ha => ?_, fun a ha => ?_⟩
  · by_cases e : (a : Int) + 1 = n
    · rw [show a + 1 = n.toNat by omega, upI_s, upI_s, upI_n (by omega), upI_n (by omega)]
      exact h2 a (by omega)
    · rw [upI_n (by omega), upI_n (by omega), upI_n (by omega), upI_n (by omega)]
      exact h a (by omega)
  · by_cases e : (a : Int) = n
    · rw [show a = n.toNat by omega, upI_s, upI_s]; unfold lt2; omega
    · rw [upI_n (by omega), upI_n (by omega)]
      have q := h2 a (by omega)
      unfold lt2 at *; omega
def fa_in (u : MS) (s i lx hx ly hy : Int) : Prop := ((i = 0 ∧ lx = 1000 ∧ hx = -1000 ∧ ly = 1000 ∧ hy = -1000) ∨ (0 < i ∧ -40 ≤ lx ∧ lx ≤ 40 ∧ -40 ≤ hx ∧ hx ≤ 40 ∧ -40 ≤ ly ∧ ly ≤ 40 ∧ -40 ≤ hy ∧ hy ≤ 40)) ∧ (∀ k : Int, 0 ≤ k → k < i → lx ≤ mX u s k ∧ mX u s k ≤ hx) ∧ (0 < i → (∃ k : Int, 0 ≤ k ∧ k < i ∧ mX u s k = lx) ∧ ∃ k : Int, 0 ≤ k ∧ k < i ∧ mX u s k = hx)
theorem fa_s {u : MS} {s i lx hx ly hy a b c d : Int} (hb : (-40 ≤ mX u s i ∧ mX u s i ≤ 40) ∧ (-40 ≤ mY u s i ∧ mY u s i ≤ 40)) (hi : 0 ≤ i) (h : fa_in u s i lx hx ly hy) (ha : (a = lx ∨ a = mX u s i) ∧ a ≤ lx ∧ a ≤ mX u s i) (hbb : (b = hx ∨ b = mX u s i) ∧ hx ≤ b ∧ mX u s i ≤ b) (hc : (c = ly ∨ c = mY u s i) ∧ c ≤ ly ∧ c ≤ mY u s i) (hd : (d = hy ∨ d = mY u s i) ∧ hy ≤ d ∧ mY u s i ≤ d) : fa_in u s (i + 1) a b c d := by
  obtain ⟨h1, h2, h3⟩ := h
  refine ⟨Or.inr (by clear h2 h3; omega), fun k k1 k2 => ?_, fun _ => ⟨?_, ?_⟩⟩
  · by_cases e : k = i
    · subst e; clear h2 h3; omega
    · have := h2 k k1 (by omega); clear h2 h3; omega
  · rcases ha.1 with e | e
    · by_cases hp : 0 < i
      · obtain ⟨⟨k, k1, k2, k3⟩, _⟩ := h3 hp; exact ⟨k, k1, by omega, by omega⟩
      · omega
    · exact ⟨i, hi, by omega, e.symm⟩
  · rcases hbb.1 with e | e
    · by_cases hp : 0 < i
      · obtain ⟨_, ⟨k, k1, k2, k3⟩⟩ := h3 hp; exact ⟨k, k1, by omega, by omega⟩
      · omega
    · exact ⟨i, hi, by omega, e.symm⟩

set_option maxHeartbeats 4000000 in
set_option maxRecDepth 100000 in
theorem c_X12_findAll (l : Launch) (D : JD) (o : Nat) (q : Nat → Nat) (u : MS) (A : Nat → Prop) (hD : va_D A (mW D o q u)) (s : Int) (p0 : 0 ≤ s ∧ s ≤ 7) (p1 : Sh u s) : Met l yX12_findAll (jw yX12_findAll cX12_findAll 8 none) (jr 2 51) (jP [.ref o, .int (J s)] D (fun H => va_P D.1 j_cl (mW D o q u) H)) (jWv (fun u' => ∃ X : Nat → Int, ∃ Y : Nat → Int, ∃ n : Int, ∃ lo : Int, ∃ hi : Int, u' = (uV (uI (uI u 10 X) 11 Y) 12 n) ∧ (0 ≤ n ∧ n ≤ 6561 ∧ bd 40 X Y n ∧ os_s X Y n ∧ (bd 40 (u.1 10) (u.1 11) 6561 → bd 40 X Y 6561) ∧ (0 < mN u s → (∀ k : Int, 0 ≤ k → k < mN u s → lo ≤ mX u s k ∧ mX u s k ≤ hi) ∧ (∃ k : Int, 0 ≤ k ∧ k < mN u s ∧ mX u s k = lo) ∧ ∃ k : Int, 0 ≤ k ∧ k < mN u s ∧ mX u s k = hi) ∧ ∀ L U : Int → Int, LU u s lo hi L U → n ≤ cb_ L U lo (hi + 1 - lo) ∨ hi < lo ∧ n = 0)) (fun u' H => va_P D.1 j_cl (mW D o q u') H) A) 0 0 A := by
  refine Met.ofW (cc := cX12_findAll) (maxL := 8) (ret := none) (by decide) rfl ?_
  intro pr en st mi args below meth co s₁ B hml hv
  obtain ⟨rfl, hG, hP⟩ := hv
  have hr := B.returns
  have hlk := B.notSynchronized
  have SS : jS pr mi co cX12_findAll 8 st _ RX12 := ⟨B.exec, B.bytes, hml, findClass_of_methodNamed B.named, fun w hw => atoms_spec (ws := (jw yX12_findAll cX12_findAll 8 none)) B.pre w (List.mem_cons_of_mem _ hw)⟩
  have hl := lv_entry ([.ref o, .int (J s)]) (n := 8) (Nat.le_of_ble_eq_true rfl)
  rw [lg_entry_eq]
  generalize (lg_sl ([.ref o, .int (J s)]) ++ List.replicate (8 - (lg_sl ([.ref o, .int (J s)])).length) Slot.unset).toArray = ls at hl ⊢
  have hl : lv_has ls 8 [(0, .ref o), (1, .int (J s))] := hl
  have hS : va_S A st.heap st.heap [] := va_S.rf
  have hN := p1.1
  have hC := p1.2.2
  refine lv_aload_n SS.1 SS.2.1 dX12_findAll_0 rfl (lv_at hl 0 rfl) ?_
  refine j_iconst SS dX12_findAll_1 ?_
  refine j_put SS hG hP (mW_D hD) hS 0 (v := .int (J 0)) (ty := .int) (C := RX12) (T := TX12) (N := 31) rfl rfl inX12 tyX12 tyX12_ok nmX12 12 (by decide) (ref := RX12) kw_1070 rfl rfl (by decide +kernel) rfl rfl (Nat.le_of_ble_eq_true rfl) dX12_findAll_2 (ws' := (mW D o q (uV u 12 0))) rfl (fun H locs hP hS => ?_)
  refine j_sipush SS dX12_findAll_5 (by decide +kernel) ?_
  refine lv_istore_n (lv' := [(2, .int (J 1000)), (0, .ref o), (1, .int (J s))]) SS.1 SS.2.1 dX12_findAll_8 rfl hl (by decide) rfl (fun ls hl => ?_)
  refine j_sipush SS dX12_findAll_9 (by decide +kernel) ?_
  refine lv_istore_n (lv' := [(3, .int (J (-1000))), (2, .int (J 1000)), (0, .ref o), (1, .int (J s))]) SS.1 SS.2.1 dX12_findAll_12 rfl hl (by decide) rfl (fun ls hl => ?_)
  refine j_sipush SS dX12_findAll_13 (by decide +kernel) ?_
  refine lv_istore (lv' := [(4, .int (J 1000)), (3, .int (J (-1000))), (2, .int (J 1000)), (0, .ref o), (1, .int (J s))]) SS.1 SS.2.1 dX12_findAll_16 hl (by decide) rfl (fun ls hl => ?_)
  refine j_sipush SS dX12_findAll_18 (by decide +kernel) ?_
  refine lv_istore (lv' := [(5, .int (J (-1000))), (4, .int (J 1000)), (3, .int (J (-1000))), (2, .int (J 1000)), (0, .ref o), (1, .int (J s))]) SS.1 SS.2.1 dX12_findAll_21 hl (by decide) rfl (fun ls hl => ?_)
  refine j_iconst SS dX12_findAll_23 ?_
  refine lv_istore (lv' := [(6, .int (J 0)), (5, .int (J (-1000))), (4, .int (J 1000)), (3, .int (J (-1000))), (2, .int (J 1000)), (0, .ref o), (1, .int (J s))]) SS.1 SS.2.1 dX12_findAll_24 hl (by decide) rfl (fun ls hl => ?_)
  have L_26 : ∀ (nn : Nat) (lx : Int) (hx : Int) (ly : Int) (hy : Int) (i : Int) (H : Heap) (locs : List Loc) (hP : va_P D.1 j_cl (mW D o q (uV u 12 0)) H) (hS : va_S A st.heap H locs) (ls : Array Slot) (hl : lv_has ls 8 [(0, .ref o), (1, .int (J s)), (2, .int (J lx)), (3, .int (J hx)), (4, .int (J ly)), (5, .int (J hy)), (6, .int (J i))]) (i26_0 : 0 ≤ i ∧ i ≤ mN u s) (i26_1 : fa_in u s i lx hx ly hy), (mN u s - i).toNat < nn → W pr l en (headSpec (jw yX12_findAll cX12_findAll 8 none) (jr 2 51)).room st mi (([.ref o, .int (J s)] : List Value).toArray) below meth co H locs 0 0 (MQ below (jWv (fun u' => ∃ X : Nat → Int, ∃ Y : Nat → Int, ∃ n : Int, ∃ lo : Int, ∃ hi : Int, u' = (uV (uI (uI u 10 X) 11 Y) 12 n) ∧ (0 ≤ n ∧ n ≤ 6561 ∧ bd 40 X Y n ∧ os_s X Y n ∧ (bd 40 (u.1 10) (u.1 11) 6561 → bd 40 X Y 6561) ∧ (0 < mN u s → (∀ k : Int, 0 ≤ k → k < mN u s → lo ≤ mX u s k ∧ mX u s k ≤ hi) ∧ (∃ k : Int, 0 ≤ k ∧ k < mN u s ∧ mX u s k = lo) ∧ ∃ k : Int, 0 ≤ k ∧ k < mN u s ∧ mX u s k = hi) ∧ ∀ L U : Int → Int, LU u s lo hi L U → n ≤ cb_ L U lo (hi + 1 - lo) ∨ hi < lo ∧ n = 0)) (fun u' H => va_P D.1 j_cl (mW D o q u') H) A) (([.ref o, .int (J s)] : List Value).toArray) st 0 0 A) (F0 mi 26 ls []) := by
    intro nn
    induction nn with
    | zero => intros; omega
    | succ nn ih_26 =>
      intro lx hx ly hy i  H locs hP hS ls hl i26_0 i26_1 hm
      have qa := i26_1.1
      refine lv_iload SS.1 SS.2.1 dX12_findAll_26 (lv_at hl 6 rfl) ?_
      refine lv_aload_n SS.1 SS.2.1 dX12_findAll_28 rfl (lv_at hl 0 rfl) ?_
      refine j_get SS hG hP 0 (v := .ref (q 0)) (C := RX12) (T := TX12) (N := 31) rfl rfl inX12 0 (by decide) (ref := RX12) kw_1058 rfl rfl dX12_findAll_29 ?_
      refine lv_iload_n SS.1 SS.2.1 dX12_findAll_32 rfl (lv_at hl 1 rfl) ?_
      refine j_iald SS hG hP 1 (n := 8) (f := (u.1 0)) rfl (z := s) (by omega) (by omega) dX12_findAll_33 ?_
      refine j_icmp_ge SS (tgt := 141) (x := i) (y := (mN u s)) dX12_findAll_34 (by decide) (by omega) (by omega) (fun c_34 => ?_) (fun c_34 => ?_)
      · skip
        refine lv_iload_n SS.1 SS.2.1 dX12_findAll_141 rfl (lv_at hl 2 rfl) ?_
        refine lv_istore (lv' := [(6, .int (J lx)), (0, .ref o), (1, .int (J s)), (2, .int (J lx)), (3, .int (J hx)), (4, .int (J ly)), (5, .int (J hy))]) SS.1 SS.2.1 dX12_findAll_142 hl (by decide) rfl (fun ls hl => ?_)
        have L_144 : ∀ (nn : Nat) (px : Int) (X : Nat → Int) (Y : Nat → Int) (n : Int) (H : Heap) (locs : List Loc) (hP : va_P D.1 j_cl (mW D o q (uV (uI (uI u 10 X) 11 Y) 12 n)) H) (hS : va_S A st.heap H locs) (ls : Array Slot) (hl : lv_has ls 8 [(0, .ref o), (1, .int (J s)), (2, .int (J lx)), (3, .int (J hx)), (4, .int (J ly)), (5, .int (J hy)), (6, .int (J px))]) (i144_0 : lx ≤ px ∧ (px ≤ hx + 1 ∨ px = lx)) (i144_1 : 0 ≤ n ∧ n ≤ 6561) (i144_2 : bd 40 X Y n) (i144_3 : ∀ L U : Int → Int, LU u s lx hx L U → n ≤ cb_ L U lx (px - lx)) (i144_4 : bd 40 (u.1 10) (u.1 11) 6561 → bd 40 X Y 6561) (i144_5 : os_s X Y n ∧ ∀ a : Nat, (a : Int) < n → X a < px), (hx + 1 - px).toNat < nn → W pr l en (headSpec (jw yX12_findAll cX12_findAll 8 none) (jr 2 51)).room st mi (([.ref o, .int (J s)] : List Value).toArray) below meth co H locs 0 0 (MQ below (jWv (fun u' => ∃ X : Nat → Int, ∃ Y : Nat → Int, ∃ n : Int, ∃ lo : Int, ∃ hi : Int, u' = (uV (uI (uI u 10 X) 11 Y) 12 n) ∧ (0 ≤ n ∧ n ≤ 6561 ∧ bd 40 X Y n ∧ os_s X Y n ∧ (bd 40 (u.1 10) (u.1 11) 6561 → bd 40 X Y 6561) ∧ (0 < mN u s → (∀ k : Int, 0 ≤ k → k < mN u s → lo ≤ mX u s k ∧ mX u s k ≤ hi) ∧ (∃ k : Int, 0 ≤ k ∧ k < mN u s ∧ mX u s k = lo) ∧ ∃ k : Int, 0 ≤ k ∧ k < mN u s ∧ mX u s k = hi) ∧ ∀ L U : Int → Int, LU u s lo hi L U → n ≤ cb_ L U lo (hi + 1 - lo) ∨ hi < lo ∧ n = 0)) (fun u' H => va_P D.1 j_cl (mW D o q u') H) A) (([.ref o, .int (J s)] : List Value).toArray) st 0 0 A) (F0 mi 144 ls []) := by
          intro nn
          induction nn with
          | zero => intros; omega
          | succ nn ih_144 =>
            intro px X Y n H locs hP hS ls hl i144_0 i144_1 i144_2 i144_3 i144_4 i144_5 hm
            refine lv_iload SS.1 SS.2.1 dX12_findAll_144 (lv_at hl 6 rfl) ?_
            refine lv_iload_n SS.1 SS.2.1 dX12_findAll_146 rfl (lv_at hl 3 rfl) ?_
            refine j_icmp_gt SS (tgt := 227) (x := px) (y := hx) dX12_findAll_147 (by decide) (by omega) (by omega) (fun c_147 => ?_) (fun c_147 => ?_)
            · skip
              exact W.vret SS.1 SS.2.1 hr (fun t ht hW => ⟨⟨(uV (uI (uI u 10 X) 11 Y) 12 n), rfl, (⟨X, Y, n, lx, hx, rfl, ⟨by omega, by omega, i144_2, i144_5.1, i144_4, fun h => by rw [show i = mN u s by omega] at i26_1; exact ⟨i26_1.2.1, i26_1.2.2 h⟩, fun L U h => by by_cases e : hx < lx; exact Or.inr ⟨e, by have k := i144_3 L U h; rw [show px - lx = 0 by omega, cb_0] at k; omega⟩; exact Or.inl (by have k := i144_3 L U h; rw [show px = hx + 1 by omega] at k; exact k)⟩⟩), by show va_P D.1 j_cl (mW D o q (uV (uI (uI u 10 X) 11 Y) 12 n)) t.heap; rw [ht]; exact hP⟩, hS.F ht⟩) hS.2.2 dX12_findAll_227 hlk
            · skip
              have qb := i26_1.1
              refine lv_iload SS.1 SS.2.1 dX12_findAll_150 (lv_at hl 4 rfl) ?_
              refine lv_istore (lv' := [(7, .int (J ly)), (0, .ref o), (1, .int (J s)), (2, .int (J lx)), (3, .int (J hx)), (4, .int (J ly)), (5, .int (J hy)), (6, .int (J px))]) SS.1 SS.2.1 dX12_findAll_152 hl (by decide) rfl (fun ls hl => ?_)
              have L_154 : ∀ (nn : Nat) (py : Int) (X2 : Nat → Int) (Y2 : Nat → Int) (n2 : Int) (H : Heap) (locs : List Loc) (hP : va_P D.1 j_cl (mW D o q (uV (uI (uI u 10 X2) 11 Y2) 12 n2)) H) (hS : va_S A st.heap H locs) (ls : Array Slot) (hl : lv_has ls 8 [(0, .ref o), (1, .int (J s)), (2, .int (J lx)), (3, .int (J hx)), (4, .int (J ly)), (5, .int (J hy)), (6, .int (J px)), (7, .int (J py))]) (i154_0 : ly ≤ py ∧ (py ≤ hy + 1 ∨ py = ly)) (i154_1 : 0 ≤ n2 ∧ n2 ≤ 6561) (i154_2 : bd 40 X2 Y2 n2) (i154_3 : ∀ L U : Int → Int, LU u s lx hx L U → n2 ≤ cb_ L U lx (px - lx) + max 0 (min py (U px + 1) - L px)) (i154_4 : bd 40 (u.1 10) (u.1 11) 6561 → bd 40 X2 Y2 6561) (i154_5 : os_s X2 Y2 n2 ∧ ∀ a : Nat, (a : Int) < n2 → lt2 (X2 a) (Y2 a) px py), (hy + 1 - py).toNat < nn → W pr l en (headSpec (jw yX12_findAll cX12_findAll 8 none) (jr 2 51)).room st mi (([.ref o, .int (J s)] : List Value).toArray) below meth co H locs 0 0 (MQ below (jWv (fun u' => ∃ X : Nat → Int, ∃ Y : Nat → Int, ∃ n : Int, ∃ lo : Int, ∃ hi : Int, u' = (uV (uI (uI u 10 X) 11 Y) 12 n) ∧ (0 ≤ n ∧ n ≤ 6561 ∧ bd 40 X Y n ∧ os_s X Y n ∧ (bd 40 (u.1 10) (u.1 11) 6561 → bd 40 X Y 6561) ∧ (0 < mN u s → (∀ k : Int, 0 ≤ k → k < mN u s → lo ≤ mX u s k ∧ mX u s k ≤ hi) ∧ (∃ k : Int, 0 ≤ k ∧ k < mN u s ∧ mX u s k = lo) ∧ ∃ k : Int, 0 ≤ k ∧ k < mN u s ∧ mX u s k = hi) ∧ ∀ L U : Int → Int, LU u s lo hi L U → n ≤ cb_ L U lo (hi + 1 - lo) ∨ hi < lo ∧ n = 0)) (fun u' H => va_P D.1 j_cl (mW D o q u') H) A) (([.ref o, .int (J s)] : List Value).toArray) st 0 0 A) (F0 mi 154 ls []) := by
                intro nn
                induction nn with
                | zero => intros; omega
                | succ nn ih_154 =>
                  intro py X2 Y2 n2 H locs hP hS ls hl i154_0 i154_1 i154_2 i154_3 i154_4 i154_5 hm
                  refine lv_iload SS.1 SS.2.1 dX12_findAll_154 (lv_at hl 7 rfl) ?_
                  refine lv_iload SS.1 SS.2.1 dX12_findAll_156 (lv_at hl 5 rfl) ?_
                  refine j_icmp_gt SS (tgt := 221) (x := py) (y := hy) dX12_findAll_158 (by decide) (by omega) (by omega) (fun c_158 => ?_) (fun c_158 => ?_)
                  · skip
                    refine lv_iinc (v := J (px + 1)) (lv' := [(6, .int (J (px + 1))), (0, .ref o), (1, .int (J s)), (2, .int (J lx)), (3, .int (J hx)), (4, .int (J ly)), (5, .int (J hy)), (7, .int (J py))]) SS.1 SS.2.1 dX12_findAll_221 hl (k := 6) rfl (J_add _ _) (by decide) rfl (fun ls hl => ?_)
                    refine lv_goto (tgt := 144) SS.1 SS.2.1 dX12_findAll_224 (by decide) ?_
                    exact ih_144 (px + 1) X2 Y2 n2 _ _ hP hS ls (lv_sub hl [1, 2, 3, 4, 5, 6, 0] rfl) (by omega) (by omega) (i154_2) (fun L U h => by have k1 := i154_3 L U h; have k2 := h.2 px (by omega) (by omega); have k3 := cb_s (L := L) (U := U) (show lx ≤ px by omega); rw [show px + 1 - lx = px + 1 - lx from rfl] at k3; omega) (i154_4) (⟨i154_5.1, fun a ha => by have q9 := i154_5.2 a ha; unfold lt2 at q9; omega⟩) (by omega)
                  · skip
                    refine lv_aload_n SS.1 SS.2.1 dX12_findAll_161 rfl (lv_at hl 0 rfl) ?_
                    refine j_get SS hG hP 0 (v := .int (J n2)) (C := RX12) (T := TX12) (N := 31) rfl rfl inX12 12 (by decide) (ref := RX12) kw_1070 rfl rfl dX12_findAll_162 ?_
                    refine j_sipush SS dX12_findAll_165 (by decide +kernel) ?_
                    refine j_icmp_ge SS (tgt := 215) (x := n2) (y := 6561) dX12_findAll_168 (by decide) (by omega) (by decide) (fun c_168 => ?_) (fun c_168 => ?_)
                    · skip
                      refine lv_iinc (v := J (py + 1)) (lv' := [(7, .int (J (py + 1))), (0, .ref o), (1, .int (J s)), (2, .int (J lx)), (3, .int (J hx)), (4, .int (J ly)), (5, .int (J hy)), (6, .int (J px))]) SS.1 SS.2.1 dX12_findAll_215 hl (k := 7) rfl (J_add _ _) (by decide) rfl (fun ls hl => ?_)
                      refine lv_goto (tgt := 154) SS.1 SS.2.1 dX12_findAll_218 (by decide) ?_
                      exact ih_154 (py + 1) X2 Y2 n2 _ _ hP hS ls (lv_sub hl [1, 2, 3, 4, 5, 6, 7, 0] rfl) (by omega) (by omega) (by first | exact i154_2 | exact bd_put (by omega) i154_2 (by omega) (by omega)) (fun L U h => by have k1 := i154_3 L U h; first | omega | (have k2 := h.1 px py z_177 (by omega) (by omega) h_177 (by omega); omega)) (fun h => by first | exact i154_4 h | exact bd_up (i154_4 h) (by omega) (by omega)) (by first | exact os_no i154_5.1 i154_5.2 | exact os_put (by omega) i154_5.1 i154_5.2) (by omega)
                    · skip
                      refine lv_aload_n SS.1 SS.2.1 dX12_findAll_171 rfl (lv_at hl 0 rfl) ?_
                      refine lv_iload_n SS.1 SS.2.1 dX12_findAll_172 rfl (lv_at hl 1 rfl) ?_
                      refine lv_iload SS.1 SS.2.1 dX12_findAll_173 (lv_at hl 6 rfl) ?_
                      refine lv_iload SS.1 SS.2.1 dX12_findAll_175 (lv_at hl 7 rfl) ?_
                      refine j_vRi SS (As := [.int (J s), .int (J px), .int (J py)]) (rest := []) (c_X12_whereOf l D o q (uV (uI (uI u 10 X2) 11 Y2) 12 n2) s px py (show 0 ≤ s ∧ s ≤ 7 from (p0)) (show Sh u s from (p1)) (show -100 ≤ px ∧ px ≤ 100 from (by omega)) (show -100 ≤ py ∧ py ≤ 100 from (by omega))) mf_X12_whereOf kw_1255 hG hP hP (ci := 8) (q0 := 0) rfl rfl rfl rfl hl.1 ⟨⟨Nat.le_of_ble_eq_true rfl, Nat.le_of_ble_eq_true rfl⟩, Nat.le_of_ble_eq_true rfl, Nat.le_refl _, Nat.le_refl _⟩ rfl dX12_findAll_177 (fun z_177 h_177 => ?_)
                      have h_177 : wR u s px py z_177 := h_177
                      have zb := wR_b h_177
                      refine j_if_le SS (tgt := 215) (x := z_177) dX12_findAll_180 (by decide) (by omega) (fun c_180 => ?_) (fun c_180 => ?_)
                      · skip
                        refine lv_iinc (v := J (py + 1)) (lv' := [(7, .int (J (py + 1))), (0, .ref o), (1, .int (J s)), (2, .int (J lx)), (3, .int (J hx)), (4, .int (J ly)), (5, .int (J hy)), (6, .int (J px))]) SS.1 SS.2.1 dX12_findAll_215 hl (k := 7) rfl (J_add _ _) (by decide) rfl (fun ls hl => ?_)
                        refine lv_goto (tgt := 154) SS.1 SS.2.1 dX12_findAll_218 (by decide) ?_
                        exact ih_154 (py + 1) X2 Y2 n2 _ _ hP hS ls (lv_sub hl [1, 2, 3, 4, 5, 6, 7, 0] rfl) (by omega) (by omega) (by first | exact i154_2 | exact bd_put (by omega) i154_2 (by omega) (by omega)) (fun L U h => by have k1 := i154_3 L U h; first | omega | (have k2 := h.1 px py z_177 (by omega) (by omega) h_177 (by omega); omega)) (fun h => by first | exact i154_4 h | exact bd_up (i154_4 h) (by omega) (by omega)) (by first | exact os_no i154_5.1 i154_5.2 | exact os_put (by omega) i154_5.1 i154_5.2) (by omega)
                      · skip
                        refine lv_aload_n SS.1 SS.2.1 dX12_findAll_183 rfl (lv_at hl 0 rfl) ?_
                        refine j_get SS hG hP 0 (v := .ref (q 10)) (C := RX12) (T := TX12) (N := 31) rfl rfl inX12 10 (by decide) (ref := RX12) kw_1068 rfl rfl dX12_findAll_184 ?_
                        refine lv_aload_n SS.1 SS.2.1 dX12_findAll_187 rfl (lv_at hl 0 rfl) ?_
                        refine j_get SS hG hP 0 (v := .int (J n2)) (C := RX12) (T := TX12) (N := 31) rfl rfl inX12 12 (by decide) (ref := RX12) kw_1070 rfl rfl dX12_findAll_188 ?_
                        refine lv_iload SS.1 SS.2.1 dX12_findAll_191 (lv_at hl 6 rfl) ?_
                        refine j_iast SS hG hP (mW_D hD) hS 9 (n := 6561) (f := X2) rfl (z := n2) (v := px) (by omega) (by omega) dX12_findAll_193 (ws' := (mW D o q (uV (uI (uI u 10 (upI X2 (n2).toNat px)) 11 Y2) 12 n2))) rfl (fun H locs hP hS => ?_)
                        refine lv_aload_n SS.1 SS.2.1 dX12_findAll_194 rfl (lv_at hl 0 rfl) ?_
                        refine j_get SS hG hP 0 (v := .ref (q 11)) (C := RX12) (T := TX12) (N := 31) rfl rfl inX12 11 (by decide) (ref := RX12) kw_1069 rfl rfl dX12_findAll_195 ?_
                        refine lv_aload_n SS.1 SS.2.1 dX12_findAll_198 rfl (lv_at hl 0 rfl) ?_
                        refine j_get SS hG hP 0 (v := .int (J n2)) (C := RX12) (T := TX12) (N := 31) rfl rfl inX12 12 (by decide) (ref := RX12) kw_1070 rfl rfl dX12_findAll_199 ?_
                        refine lv_iload SS.1 SS.2.1 dX12_findAll_202 (lv_at hl 7 rfl) ?_
                        refine j_iast SS hG hP (mW_D hD) hS 10 (n := 6561) (f := Y2) rfl (z := n2) (v := py) (by omega) (by omega) dX12_findAll_204 (ws' := (mW D o q (uV (uI (uI u 10 (upI X2 (n2).toNat px)) 11 (upI Y2 (n2).toNat py)) 12 n2))) rfl (fun H locs hP hS => ?_)
                        refine lv_aload_n SS.1 SS.2.1 dX12_findAll_205 rfl (lv_at hl 0 rfl) ?_
                        refine lv_dup SS.1 SS.2.1 dX12_findAll_206 rfl ?_
                        refine j_get SS hG hP 0 (v := .int (J n2)) (C := RX12) (T := TX12) (N := 31) rfl rfl inX12 12 (by decide) (ref := RX12) kw_1070 rfl rfl dX12_findAll_207 ?_
                        refine j_iconst SS dX12_findAll_210 ?_
                        refine j_iadd SS (x := n2) (y := 1) dX12_findAll_211 ?_
                        refine j_put SS hG hP (mW_D hD) hS 0 (v := .int (J (n2 + 1))) (ty := .int) (C := RX12) (T := TX12) (N := 31) rfl rfl inX12 tyX12 tyX12_ok nmX12 12 (by decide) (ref := RX12) kw_1070 rfl rfl (by decide +kernel) rfl rfl (Nat.le_of_ble_eq_true rfl) dX12_findAll_212 (ws' := (mW D o q (uV (uI (uI u 10 (upI X2 (n2).toNat px)) 11 (upI Y2 (n2).toNat py)) 12 (n2 + 1)))) rfl (fun H locs hP hS => ?_)
                        refine lv_iinc (v := J (py + 1)) (lv' := [(7, .int (J (py + 1))), (0, .ref o), (1, .int (J s)), (2, .int (J lx)), (3, .int (J hx)), (4, .int (J ly)), (5, .int (J hy)), (6, .int (J px))]) SS.1 SS.2.1 dX12_findAll_215 hl (k := 7) rfl (J_add _ _) (by decide) rfl (fun ls hl => ?_)
                        refine lv_goto (tgt := 154) SS.1 SS.2.1 dX12_findAll_218 (by decide) ?_
                        exact ih_154 (py + 1) (upI X2 (n2).toNat px) (upI Y2 (n2).toNat py) (n2 + 1) _ _ hP hS ls (lv_sub hl [1, 2, 3, 4, 5, 6, 7, 0] rfl) (by omega) (by omega) (by first | exact i154_2 | exact bd_put (by omega) i154_2 (by omega) (by omega)) (fun L U h => by have k1 := i154_3 L U h; first | omega | (have k2 := h.1 px py z_177 (by omega) (by omega) h_177 (by omega); omega)) (fun h => by first | exact i154_4 h | exact bd_up (i154_4 h) (by omega) (by omega)) (by first | exact os_no i154_5.1 i154_5.2 | exact os_put (by omega) i154_5.1 i154_5.2) (by omega)
              exact L_154 ((hy + 1 - ly).toNat + 1) ly X Y n _ _ hP hS ls (lv_sub hl [1, 2, 3, 4, 5, 6, 7, 0] rfl) (by omega) (by omega) (i144_2) (fun L U h => by have k1 := i144_3 L U h; omega) (i144_4) (⟨i144_5.1, fun a ha => Or.inl (i144_5.2 a ha)⟩) (Nat.lt_succ_self _)
        exact L_144 ((hx + 1 - lx).toNat + 1) lx (u.1 10) (u.1 11) 0 _ _ hP hS ls (lv_sub hl [1, 2, 3, 4, 5, 6, 0] rfl) (by omega) (by omega) (fun a ha => by omega) (fun L U h => by rw [show lx - lx = 0 by omega, cb_0]; omega) (fun h => h) (⟨fun a ha => by omega, fun a ha => by omega⟩) (Nat.lt_succ_self _)
      · skip
        have b1 := p1.2.1 (by omega) i (by omega)
        refine lv_aload_n SS.1 SS.2.1 dX12_findAll_37 rfl (lv_at hl 0 rfl) ?_
        refine lv_iload_n SS.1 SS.2.1 dX12_findAll_38 rfl (lv_at hl 1 rfl) ?_
        refine lv_iload SS.1 SS.2.1 dX12_findAll_39 (lv_at hl 6 rfl) ?_
        refine j_vRi SS (As := [.int (J s), .int (J i)]) (rest := []) (c_X12_x l D o q (uV u 12 0) s i (show 0 ≤ s ∧ s ≤ 7 from (by omega)) (show 0 ≤ i ∧ i ≤ 1000000 from (by omega)) (show 0 < mN u s ∧ mN u s ≤ 24 from (by omega))) mf_X12_x kw_1177 hG hP hP (ci := 8) (q0 := 0) rfl rfl rfl rfl hl.1 ⟨⟨Nat.le_of_ble_eq_true rfl, Nat.le_of_ble_eq_true rfl⟩, Nat.le_of_ble_eq_true rfl, Nat.le_refl _, Nat.le_refl _⟩ rfl dX12_findAll_41 (fun z_41 h_41 => ?_)
        have h_41 : z_41 = mX u s i := h_41
        refine lv_iload_n SS.1 SS.2.1 dX12_findAll_44 rfl (lv_at hl 2 rfl) ?_
        have L_59 : ∀ (a59 : Int) (H : Heap) (locs : List Loc) (hP : va_P D.1 j_cl (mW D o q (uV u 12 0)) H) (hS : va_S A st.heap H locs) (ls : Array Slot) (hl : lv_has ls 8 [(0, .ref o), (1, .int (J s)), (2, .int (J lx)), (3, .int (J hx)), (4, .int (J ly)), (5, .int (J hy)), (6, .int (J i))]) (i59_0 : (a59 = lx ∨ a59 = mX u s i) ∧ a59 ≤ lx ∧ a59 ≤ mX u s i), W pr l en (headSpec (jw yX12_findAll cX12_findAll 8 none) (jr 2 51)).room st mi (([.ref o, .int (J s)] : List Value).toArray) below meth co H locs 0 0 (MQ below (jWv (fun u' => ∃ X : Nat → Int, ∃ Y : Nat → Int, ∃ n : Int, ∃ lo : Int, ∃ hi : Int, u' = (uV (uI (uI u 10 X) 11 Y) 12 n) ∧ (0 ≤ n ∧ n ≤ 6561 ∧ bd 40 X Y n ∧ os_s X Y n ∧ (bd 40 (u.1 10) (u.1 11) 6561 → bd 40 X Y 6561) ∧ (0 < mN u s → (∀ k : Int, 0 ≤ k → k < mN u s → lo ≤ mX u s k ∧ mX u s k ≤ hi) ∧ (∃ k : Int, 0 ≤ k ∧ k < mN u s ∧ mX u s k = lo) ∧ ∃ k : Int, 0 ≤ k ∧ k < mN u s ∧ mX u s k = hi) ∧ ∀ L U : Int → Int, LU u s lo hi L U → n ≤ cb_ L U lo (hi + 1 - lo) ∨ hi < lo ∧ n = 0)) (fun u' H => va_P D.1 j_cl (mW D o q u') H) A) (([.ref o, .int (J s)] : List Value).toArray) st 0 0 A) (F0 mi 59 ls [.int (J a59)]) := by
          intro a59  H locs hP hS ls hl i59_0
          refine lv_istore_n (lv' := [(2, .int (J a59)), (0, .ref o), (1, .int (J s)), (3, .int (J hx)), (4, .int (J ly)), (5, .int (J hy)), (6, .int (J i))]) SS.1 SS.2.1 dX12_findAll_59 rfl hl (by decide) rfl (fun ls hl => ?_)
          refine lv_aload_n SS.1 SS.2.1 dX12_findAll_60 rfl (lv_at hl 1 rfl) ?_
          refine lv_iload_n SS.1 SS.2.1 dX12_findAll_61 rfl (lv_at hl 2 rfl) ?_
          refine lv_iload SS.1 SS.2.1 dX12_findAll_62 (lv_at hl 6 rfl) ?_
          refine j_vRi SS (As := [.int (J s), .int (J i)]) (rest := []) (c_X12_x l D o q (uV u 12 0) s i (show 0 ≤ s ∧ s ≤ 7 from (by omega)) (show 0 ≤ i ∧ i ≤ 1000000 from (by omega)) (show 0 < mN u s ∧ mN u s ≤ 24 from (by omega))) mf_X12_x kw_1177 hG hP hP (ci := 8) (q0 := 0) rfl rfl rfl rfl hl.1 ⟨⟨Nat.le_of_ble_eq_true rfl, Nat.le_of_ble_eq_true rfl⟩, Nat.le_of_ble_eq_true rfl, Nat.le_refl _, Nat.le_refl _⟩ rfl dX12_findAll_64 (fun z_64 h_64 => ?_)
          have h_64 : z_64 = mX u s i := h_64
          refine lv_iload_n SS.1 SS.2.1 dX12_findAll_67 rfl (lv_at hl 3 rfl) ?_
          have L_82 : ∀ (a82 : Int) (H : Heap) (locs : List Loc) (hP : va_P D.1 j_cl (mW D o q (uV u 12 0)) H) (hS : va_S A st.heap H locs) (ls : Array Slot) (hl : lv_has ls 8 [(0, .ref o), (1, .int (J s)), (2, .int (J a59)), (3, .int (J hx)), (4, .int (J ly)), (5, .int (J hy)), (6, .int (J i))]) (i82_0 : (a82 = hx ∨ a82 = mX u s i) ∧ hx ≤ a82 ∧ mX u s i ≤ a82), W pr l en (headSpec (jw yX12_findAll cX12_findAll 8 none) (jr 2 51)).room st mi (([.ref o, .int (J s)] : List Value).toArray) below meth co H locs 0 0 (MQ below (jWv (fun u' => ∃ X : Nat → Int, ∃ Y : Nat → Int, ∃ n : Int, ∃ lo : Int, ∃ hi : Int, u' = (uV (uI (uI u 10 X) 11 Y) 12 n) ∧ (0 ≤ n ∧ n ≤ 6561 ∧ bd 40 X Y n ∧ os_s X Y n ∧ (bd 40 (u.1 10) (u.1 11) 6561 → bd 40 X Y 6561) ∧ (0 < mN u s → (∀ k : Int, 0 ≤ k → k < mN u s → lo ≤ mX u s k ∧ mX u s k ≤ hi) ∧ (∃ k : Int, 0 ≤ k ∧ k < mN u s ∧ mX u s k = lo) ∧ ∃ k : Int, 0 ≤ k ∧ k < mN u s ∧ mX u s k = hi) ∧ ∀ L U : Int → Int, LU u s lo hi L U → n ≤ cb_ L U lo (hi + 1 - lo) ∨ hi < lo ∧ n = 0)) (fun u' H => va_P D.1 j_cl (mW D o q u') H) A) (([.ref o, .int (J s)] : List Value).toArray) st 0 0 A) (F0 mi 82 ls [.int (J a82)]) := by
            intro a82  H locs hP hS ls hl i82_0
            refine lv_istore_n (lv' := [(3, .int (J a82)), (0, .ref o), (1, .int (J s)), (2, .int (J a59)), (4, .int (J ly)), (5, .int (J hy)), (6, .int (J i))]) SS.1 SS.2.1 dX12_findAll_82 rfl hl (by decide) rfl (fun ls hl => ?_)
            refine lv_aload_n SS.1 SS.2.1 dX12_findAll_83 rfl (lv_at hl 1 rfl) ?_
            refine lv_iload_n SS.1 SS.2.1 dX12_findAll_84 rfl (lv_at hl 2 rfl) ?_
            refine lv_iload SS.1 SS.2.1 dX12_findAll_85 (lv_at hl 6 rfl) ?_
            refine j_vRi SS (As := [.int (J s), .int (J i)]) (rest := []) (c_X12_y l D o q (uV u 12 0) s i (show 0 ≤ s ∧ s ≤ 7 from (by omega)) (show 0 ≤ i ∧ i ≤ 1000000 from (by omega)) (show 0 < mN u s ∧ mN u s ≤ 24 from (by omega))) mf_X12_y kw_1181 hG hP hP (ci := 8) (q0 := 0) rfl rfl rfl rfl hl.1 ⟨⟨Nat.le_of_ble_eq_true rfl, Nat.le_of_ble_eq_true rfl⟩, Nat.le_of_ble_eq_true rfl, Nat.le_refl _, Nat.le_refl _⟩ rfl dX12_findAll_87 (fun z_87 h_87 => ?_)
            have h_87 : z_87 = mY u s i := h_87
            refine lv_iload SS.1 SS.2.1 dX12_findAll_90 (lv_at hl 4 rfl) ?_
            have L_107 : ∀ (a107 : Int) (H : Heap) (locs : List Loc) (hP : va_P D.1 j_cl (mW D o q (uV u 12 0)) H) (hS : va_S A st.heap H locs) (ls : Array Slot) (hl : lv_has ls 8 [(0, .ref o), (1, .int (J s)), (2, .int (J a59)), (3, .int (J a82)), (4, .int (J ly)), (5, .int (J hy)), (6, .int (J i))]) (i107_0 : (a107 = ly ∨ a107 = mY u s i) ∧ a107 ≤ ly ∧ a107 ≤ mY u s i), W pr l en (headSpec (jw yX12_findAll cX12_findAll 8 none) (jr 2 51)).room st mi (([.ref o, .int (J s)] : List Value).toArray) below meth co H locs 0 0 (MQ below (jWv (fun u' => ∃ X : Nat → Int, ∃ Y : Nat → Int, ∃ n : Int, ∃ lo : Int, ∃ hi : Int, u' = (uV (uI (uI u 10 X) 11 Y) 12 n) ∧ (0 ≤ n ∧ n ≤ 6561 ∧ bd 40 X Y n ∧ os_s X Y n ∧ (bd 40 (u.1 10) (u.1 11) 6561 → bd 40 X Y 6561) ∧ (0 < mN u s → (∀ k : Int, 0 ≤ k → k < mN u s → lo ≤ mX u s k ∧ mX u s k ≤ hi) ∧ (∃ k : Int, 0 ≤ k ∧ k < mN u s ∧ mX u s k = lo) ∧ ∃ k : Int, 0 ≤ k ∧ k < mN u s ∧ mX u s k = hi) ∧ ∀ L U : Int → Int, LU u s lo hi L U → n ≤ cb_ L U lo (hi + 1 - lo) ∨ hi < lo ∧ n = 0)) (fun u' H => va_P D.1 j_cl (mW D o q u') H) A) (([.ref o, .int (J s)] : List Value).toArray) st 0 0 A) (F0 mi 107 ls [.int (J a107)]) := by
              intro a107  H locs hP hS ls hl i107_0
              refine lv_istore (lv' := [(4, .int (J a107)), (0, .ref o), (1, .int (J s)), (2, .int (J a59)), (3, .int (J a82)), (5, .int (J hy)), (6, .int (J i))]) SS.1 SS.2.1 dX12_findAll_107 hl (by decide) rfl (fun ls hl => ?_)
              refine lv_aload_n SS.1 SS.2.1 dX12_findAll_109 rfl (lv_at hl 1 rfl) ?_
              refine lv_iload_n SS.1 SS.2.1 dX12_findAll_110 rfl (lv_at hl 2 rfl) ?_
              refine lv_iload SS.1 SS.2.1 dX12_findAll_111 (lv_at hl 6 rfl) ?_
              refine j_vRi SS (As := [.int (J s), .int (J i)]) (rest := []) (c_X12_y l D o q (uV u 12 0) s i (show 0 ≤ s ∧ s ≤ 7 from (by omega)) (show 0 ≤ i ∧ i ≤ 1000000 from (by omega)) (show 0 < mN u s ∧ mN u s ≤ 24 from (by omega))) mf_X12_y kw_1181 hG hP hP (ci := 8) (q0 := 0) rfl rfl rfl rfl hl.1 ⟨⟨Nat.le_of_ble_eq_true rfl, Nat.le_of_ble_eq_true rfl⟩, Nat.le_of_ble_eq_true rfl, Nat.le_refl _, Nat.le_refl _⟩ rfl dX12_findAll_113 (fun z_113 h_113 => ?_)
              have h_113 : z_113 = mY u s i := h_113
              refine lv_iload SS.1 SS.2.1 dX12_findAll_116 (lv_at hl 5 rfl) ?_
              have L_133 : ∀ (a133 : Int) (H : Heap) (locs : List Loc) (hP : va_P D.1 j_cl (mW D o q (uV u 12 0)) H) (hS : va_S A st.heap H locs) (ls : Array Slot) (hl : lv_has ls 8 [(0, .ref o), (1, .int (J s)), (2, .int (J a59)), (3, .int (J a82)), (4, .int (J a107)), (5, .int (J hy)), (6, .int (J i))]) (i133_0 : (a133 = hy ∨ a133 = mY u s i) ∧ hy ≤ a133 ∧ mY u s i ≤ a133), W pr l en (headSpec (jw yX12_findAll cX12_findAll 8 none) (jr 2 51)).room st mi (([.ref o, .int (J s)] : List Value).toArray) below meth co H locs 0 0 (MQ below (jWv (fun u' => ∃ X : Nat → Int, ∃ Y : Nat → Int, ∃ n : Int, ∃ lo : Int, ∃ hi : Int, u' = (uV (uI (uI u 10 X) 11 Y) 12 n) ∧ (0 ≤ n ∧ n ≤ 6561 ∧ bd 40 X Y n ∧ os_s X Y n ∧ (bd 40 (u.1 10) (u.1 11) 6561 → bd 40 X Y 6561) ∧ (0 < mN u s → (∀ k : Int, 0 ≤ k → k < mN u s → lo ≤ mX u s k ∧ mX u s k ≤ hi) ∧ (∃ k : Int, 0 ≤ k ∧ k < mN u s ∧ mX u s k = lo) ∧ ∃ k : Int, 0 ≤ k ∧ k < mN u s ∧ mX u s k = hi) ∧ ∀ L U : Int → Int, LU u s lo hi L U → n ≤ cb_ L U lo (hi + 1 - lo) ∨ hi < lo ∧ n = 0)) (fun u' H => va_P D.1 j_cl (mW D o q u') H) A) (([.ref o, .int (J s)] : List Value).toArray) st 0 0 A) (F0 mi 133 ls [.int (J a133)]) := by
                intro a133  H locs hP hS ls hl i133_0
                refine lv_istore (lv' := [(5, .int (J a133)), (0, .ref o), (1, .int (J s)), (2, .int (J a59)), (3, .int (J a82)), (4, .int (J a107)), (6, .int (J i))]) SS.1 SS.2.1 dX12_findAll_133 hl (by decide) rfl (fun ls hl => ?_)
                refine lv_iinc (v := J (i + 1)) (lv' := [(6, .int (J (i + 1))), (5, .int (J a133)), (0, .ref o), (1, .int (J s)), (2, .int (J a59)), (3, .int (J a82)), (4, .int (J a107))]) SS.1 SS.2.1 dX12_findAll_135 hl (k := 6) rfl (J_add _ _) (by decide) rfl (fun ls hl => ?_)
                refine lv_goto (tgt := 26) SS.1 SS.2.1 dX12_findAll_138 (by decide) ?_
                exact ih_26 a59 a82 a107 a133 (i + 1) _ _ hP hS ls (lv_sub hl [2, 3, 4, 5, 6, 1, 0] rfl) (by omega) (fa_s b1 (by omega) i26_1 i59_0 i82_0 i107_0 i133_0) (by omega)
              refine j_icmp_le SS (tgt := 131) (x := z_113) (y := hy) dX12_findAll_118 (by decide) (by omega) (by omega) (fun c_118 => ?_) (fun c_118 => ?_)
              · skip
                refine lv_iload SS.1 SS.2.1 dX12_findAll_131 (lv_at hl 5 rfl) ?_
                exact L_133 hy _ _ hP hS ls (lv_sub hl [1, 2, 3, 4, 0, 5, 6] rfl) (by omega)
              · skip
                refine lv_aload_n SS.1 SS.2.1 dX12_findAll_121 rfl (lv_at hl 1 rfl) ?_
                refine lv_iload_n SS.1 SS.2.1 dX12_findAll_122 rfl (lv_at hl 2 rfl) ?_
                refine lv_iload SS.1 SS.2.1 dX12_findAll_123 (lv_at hl 6 rfl) ?_
                refine j_vRi SS (As := [.int (J s), .int (J i)]) (rest := []) (c_X12_y l D o q (uV u 12 0) s i (show 0 ≤ s ∧ s ≤ 7 from (by omega)) (show 0 ≤ i ∧ i ≤ 1000000 from (by omega)) (show 0 < mN u s ∧ mN u s ≤ 24 from (by omega))) mf_X12_y kw_1181 hG hP hP (ci := 8) (q0 := 0) rfl rfl rfl rfl hl.1 ⟨⟨Nat.le_of_ble_eq_true rfl, Nat.le_of_ble_eq_true rfl⟩, Nat.le_of_ble_eq_true rfl, Nat.le_refl _, Nat.le_refl _⟩ rfl dX12_findAll_125 (fun z_125 h_125 => ?_)
                have h_125 : z_125 = mY u s i := h_125
                refine lv_goto (tgt := 133) SS.1 SS.2.1 dX12_findAll_128 (by decide) ?_
                exact L_133 z_125 _ _ hP hS ls (lv_sub hl [1, 2, 3, 4, 0, 5, 6] rfl) (by omega)
            refine j_icmp_ge SS (tgt := 105) (x := z_87) (y := ly) dX12_findAll_92 (by decide) (by omega) (by omega) (fun c_92 => ?_) (fun c_92 => ?_)
            · skip
              refine lv_iload SS.1 SS.2.1 dX12_findAll_105 (lv_at hl 4 rfl) ?_
              exact L_107 ly _ _ hP hS ls (lv_sub hl [1, 2, 3, 0, 4, 5, 6] rfl) (by omega)
            · skip
              refine lv_aload_n SS.1 SS.2.1 dX12_findAll_95 rfl (lv_at hl 1 rfl) ?_
              refine lv_iload_n SS.1 SS.2.1 dX12_findAll_96 rfl (lv_at hl 2 rfl) ?_
              refine lv_iload SS.1 SS.2.1 dX12_findAll_97 (lv_at hl 6 rfl) ?_
              refine j_vRi SS (As := [.int (J s), .int (J i)]) (rest := []) (c_X12_y l D o q (uV u 12 0) s i (show 0 ≤ s ∧ s ≤ 7 from (by omega)) (show 0 ≤ i ∧ i ≤ 1000000 from (by omega)) (show 0 < mN u s ∧ mN u s ≤ 24 from (by omega))) mf_X12_y kw_1181 hG hP hP (ci := 8) (q0 := 0) rfl rfl rfl rfl hl.1 ⟨⟨Nat.le_of_ble_eq_true rfl, Nat.le_of_ble_eq_true rfl⟩, Nat.le_of_ble_eq_true rfl, Nat.le_refl _, Nat.le_refl _⟩ rfl dX12_findAll_99 (fun z_99 h_99 => ?_)
              have h_99 : z_99 = mY u s i := h_99
              refine lv_goto (tgt := 107) SS.1 SS.2.1 dX12_findAll_102 (by decide) ?_
              exact L_107 z_99 _ _ hP hS ls (lv_sub hl [1, 2, 3, 0, 4, 5, 6] rfl) (by omega)
          refine j_icmp_le SS (tgt := 81) (x := z_64) (y := hx) dX12_findAll_68 (by decide) (by omega) (by omega) (fun c_68 => ?_) (fun c_68 => ?_)
          · skip
            refine lv_iload_n SS.1 SS.2.1 dX12_findAll_81 rfl (lv_at hl 3 rfl) ?_
            exact L_82 hx _ _ hP hS ls (lv_sub hl [1, 2, 0, 3, 4, 5, 6] rfl) (by omega)
          · skip
            refine lv_aload_n SS.1 SS.2.1 dX12_findAll_71 rfl (lv_at hl 1 rfl) ?_
            refine lv_iload_n SS.1 SS.2.1 dX12_findAll_72 rfl (lv_at hl 2 rfl) ?_
            refine lv_iload SS.1 SS.2.1 dX12_findAll_73 (lv_at hl 6 rfl) ?_
            refine j_vRi SS (As := [.int (J s), .int (J i)]) (rest := []) (c_X12_x l D o q (uV u 12 0) s i (show 0 ≤ s ∧ s ≤ 7 from (by omega)) (show 0 ≤ i ∧ i ≤ 1000000 from (by omega)) (show 0 < mN u s ∧ mN u s ≤ 24 from (by omega))) mf_X12_x kw_1177 hG hP hP (ci := 8) (q0 := 0) rfl rfl rfl rfl hl.1 ⟨⟨Nat.le_of_ble_eq_true rfl, Nat.le_of_ble_eq_true rfl⟩, Nat.le_of_ble_eq_true rfl, Nat.le_refl _, Nat.le_refl _⟩ rfl dX12_findAll_75 (fun z_75 h_75 => ?_)
            have h_75 : z_75 = mX u s i := h_75
            refine lv_goto (tgt := 82) SS.1 SS.2.1 dX12_findAll_78 (by decide) ?_
            exact L_82 z_75 _ _ hP hS ls (lv_sub hl [1, 2, 0, 3, 4, 5, 6] rfl) (by omega)
        refine j_icmp_ge SS (tgt := 58) (x := z_41) (y := lx) dX12_findAll_45 (by decide) (by omega) (by omega) (fun c_45 => ?_) (fun c_45 => ?_)
        · skip
          refine lv_iload_n SS.1 SS.2.1 dX12_findAll_58 rfl (lv_at hl 2 rfl) ?_
          exact L_59 lx _ _ hP hS ls (lv_sub hl [0, 1, 2, 3, 4, 5, 6] rfl) (by omega)
        · skip
          refine lv_aload_n SS.1 SS.2.1 dX12_findAll_48 rfl (lv_at hl 0 rfl) ?_
          refine lv_iload_n SS.1 SS.2.1 dX12_findAll_49 rfl (lv_at hl 1 rfl) ?_
          refine lv_iload SS.1 SS.2.1 dX12_findAll_50 (lv_at hl 6 rfl) ?_
          refine j_vRi SS (As := [.int (J s), .int (J i)]) (rest := []) (c_X12_x l D o q (uV u 12 0) s i (show 0 ≤ s ∧ s ≤ 7 from (by omega)) (show 0 ≤ i ∧ i ≤ 1000000 from (by omega)) (show 0 < mN u s ∧ mN u s ≤ 24 from (by omega))) mf_X12_x kw_1177 hG hP hP (ci := 8) (q0 := 0) rfl rfl rfl rfl hl.1 ⟨⟨Nat.le_of_ble_eq_true rfl, Nat.le_of_ble_eq_true rfl⟩, Nat.le_of_ble_eq_true rfl, Nat.le_refl _, Nat.le_refl _⟩ rfl dX12_findAll_52 (fun z_52 h_52 => ?_)
          have h_52 : z_52 = mX u s i := h_52
          refine lv_goto (tgt := 59) SS.1 SS.2.1 dX12_findAll_55 (by decide) ?_
          exact L_59 z_52 _ _ hP hS ls (lv_sub hl [0, 1, 2, 3, 4, 5, 6] rfl) (by omega)
  exact L_26 ((mN u s - (0 : Int)).toNat + 1) 1000 (-1000) 1000 (-1000) 0 _ _ hP hS ls (lv_sub hl [5, 6, 4, 3, 2, 1, 0] rfl) (by omega) (⟨Or.inl ⟨rfl, rfl, rfl, rfl, rfl⟩, fun k h1 h2 => by omega, fun h => by omega⟩) (Nat.lt_succ_self _)
