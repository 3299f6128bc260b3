
def lt2 (a b c d : Int) : Prop := a < c ∨ (a = c ∧ b < d)
def le2 (a b c d : Int) : Prop := a < c ∨ (a = c ∧ b ≤ d)
def bd (K : Int) (f g : Nat → Int) (n : Int) : Prop := ∀ a : Nat, (a : Int) < n → (-K ≤ f a ∧ f a ≤ K) ∧ (-K ≤ g a ∧ g a ≤ K)
theorem bd_at {K : Int} {f g : Nat → Int} {n z : Int} (h : bd K f g n) (h0 : 0 ≤ z) (h1 : z < n) : (-K ≤ f z.toNat ∧ f z.toNat ≤ K) ∧ (-K ≤ g z.toNat ∧ g z.toNat ≤ K) := h z.toNat (by omega)
theorem bd_up {K : Int} {f g : Nat → Int} {n x y : Int} {k : Nat} (h : bd K f g n) (hx : -K ≤ x ∧ x ≤ K) (hy : -K ≤ y ∧ y ≤ K) : bd K (upI f k x) (upI g k y) n := by
  intro a ha
  by_cases e : a = k
  · rw [e, upI_s, upI_s]; exact ⟨hx, hy⟩
  · rw [upI_n e, upI_n e]; exact h a ha
def os_in (f g : Nat → Int) (i j : Int) : Prop := (∀ a : Nat, (a : Int) + 1 ≤ i → (a : Int) + 1 ≠ j → le2 (f a) (g a) (f (a + 1)) (g (a + 1))) ∧ ∀ k : Nat, (k : Int) + 1 = j → j < i → le2 (f k) (g k) (f (k + 2)) (g (k + 2))
theorem os_swap {f g : Nat → Int} {i j : Int} (h0 : 0 < j) (h1 : j ≤ i) (h : os_in f g i j) (hl : lt2 (f j.toNat) (g j.toNat) (f (j - 1).toNat) (g (j - 1).toNat)) : os_in (upI (upI f j.toNat (f (j - 1).toNat)) (j - 1).toNat (f j.toNat)) (upI (upI g j.toNat (g (j - 1).toNat)) (j - 1).toNat (g j.toNat)) i (j + -1) := by
  obtain ⟨k, rfl⟩ : ∃ k : Nat, j = (k : Int) + 1 := ⟨(j - 1).toNat, by omega⟩
  rw [show ((k : Int) + 1).toNat = k + 1 by omega, show ((k : Int) + 1 - 1).toNat = k by omega] at *
  have s0 : ∀ (p : Nat → Int), upI (upI p (k + 1) (p k)) k (p (k + 1)) k = p (k + 1) := fun p => upI_s
  have s1 : ∀ (p : Nat → Int), upI (upI p (k + 1) (p k)) k (p (k + 1)) (k + 1) = p k := fun p => by rw [upI_n (by omega), upI_s]
  have s2 : ∀ (p : Nat → Int) (a : Nat), a ≠ k → a ≠ k + 1 → upI (upI p (k + 1) (p k)) k (p (k + 1)) a = p a := fun p a h1 h2 => by rw [upI_n h1, upI_n h2]
  refine ⟨fun a ha hn => ?_, fun b hb hi => ?_⟩
  · by_cases e1 : a = k
    · rw [e1, s0, s0, s1, s1]
      unfold lt2 at hl; unfold le2; omega
    · by_cases e2 : a = k + 1
      · rw [e2, s1, s1, s2 f (k + 1 + 1) (by omega) (by omega), s2 g (k + 1 + 1) (by omega) (by omega)]
        exact h.2 k rfl (by omega)
      · rw [s2 f a e1 e2, s2 g a e1 e2, s2 f (a + 1) (by omega) (by omega), s2 g (a + 1) (by omega) (by omega)]
        exact h.1 a ha (by omega)
  · rw [s2 f b (by omega) (by omega), s2 g b (by omega) (by omega), show b + 2 = k + 1 by omega, s1, s1]
    have := h.1 b (by omega) (by omega)
    rw [show b + 1 = k by omega] at this
    exact this
def os_w (f g : Nat → Int) (i : Int) : Prop := ∀ a : Nat, (a : Int) + 1 < i → le2 (f a) (g a) (f (a + 1)) (g (a + 1))
theorem os_start {f g : Nat → Int} {i : Int} (h : os_w f g i) : os_in f g i i := ⟨fun a h1 h2 => h a (by omega), fun k h1 h2 => absurd h2 (by omega)⟩
theorem os_end {f g : Nat → Int} {i j : Int} (h : os_in f g i j) (hj : j ≤ 0 ∨ (0 < j ∧ j ≤ i ∧ ¬ lt2 (f j.toNat) (g j.toNat) (f (j - 1).toNat) (g (j - 1).toNat))) : os_w f g (i + 1) := by
  intro a ha
  by_cases e : (a : Int) + 1 = j
  · rcases hj with hj | ⟨_, _, hj⟩
    · omega
    · rw [show j.toNat = a + 1 by omega, show (j - 1).toNat = a by omega] at hj
      unfold lt2 at hj; unfold le2; omega
  · exact h.1 a (by omega) e
def os_s (f g : Nat → Int) (n : Int) : Prop := ∀ a : Nat, (a : Int) + 1 < n → lt2 (f a) (g a) (f (a + 1)) (g (a + 1))
/-- the second pass: n points kept out of the first i of w -/
def os_d (f g : Nat → Int) (n i w : Int) : Prop := 0 ≤ n ∧ n ≤ i ∧ (0 < i → 0 < n) ∧ os_s f g n ∧ (∀ a : Nat, i ≤ a → (a : Int) + 1 < w → le2 (f a) (g a) (f (a + 1)) (g (a + 1))) ∧ ∀ a b : Nat, (a : Int) + 1 = n → (b : Int) = i → i < w → le2 (f a) (g a) (f b) (g b)
theorem os_d0 {f g : Nat → Int} {w : Int} (h : os_w f g w) : os_d f g 0 0 w := ⟨by omega, by omega, by omega, fun a h => absurd h (by omega), fun a _ h2 => h a h2, fun a b h => absurd h (by omega)⟩
theorem os_dskip {f g : Nat → Int} {n i w : Int} (h : os_d f g n i w) (hn : n ≠ 0) (hi : i < w) (e1 : f i.toNat = f (n - 1).toNat) (e2 : g i.toNat = g (n - 1).toNat) : os_d f g n (i + 1) w := by
  obtain ⟨h1, h2, h3, h4, h5, h6⟩ := h
  refine ⟨h1, by omega, fun _ => by omega, h4, fun a ha hw => h5 a (by omega) hw, fun a b ha hb hw => ?_⟩
  rw [show (n - 1).toNat = a by omega] at e1 e2
  rw [← e1, ← e2, show b = i.toNat + 1 by omega]
  exact h5 i.toNat (by omega) (by omega)
theorem os_dput {f g : Nat → Int} {n i w : Int} (h : os_d f g n i w) (hi : i < w) (hd : n = 0 ∨ f i.toNat ≠ f (n - 1).toNat ∨ g i.toNat ≠ g (n - 1).toNat) : os_d (upI f n.toNat (f i.toNat)) (upI g n.toNat (g i.toNat)) (n + 1) (i + 1) w := by
  obtain ⟨h1, h2, h3, h4, h5, h6⟩ := h
  refine ⟨by omega, by omega, fun _ => by omega, fun a ha => ?_, fun a ha hw => ?_, fun a b ha hb hw => ?_⟩
  · by_cases e : a + 1 = n.toNat
    · rw [← e, upI_s, upI_s, upI_n (by omega), upI_n (by omega)]
      have := h6 a i.toNat (by omega) (by omega) hi
      rw [show (n - 1).toNat = a by omega] at hd
      unfold le2 at this; unfold lt2; omega
    · rw [upI_n (by omega), upI_n (by omega), upI_n (by omega), upI_n (by omega)]
      exact h4 a (by omega)
  · rw [upI_n (by omega), upI_n (by omega), upI_n (by omega), upI_n (by omega)]
    exact h5 a (by omega) hw
  · rw [show a = n.toNat by omega, upI_s, upI_s, upI_n (by omega), upI_n (by omega), show b = i.toNat + 1 by omega]
    exact h5 i.toNat (by omega) (by omega)
theorem mulb {a b A B : Int} (ha : -A ≤ a ∧ a ≤ A) (hb : -B ≤ b ∧ b ≤ B) : -(A * B) ≤ a * b ∧ a * b ≤ A * B := by
  have h : (a * b).natAbs ≤ A.natAbs * B.natAbs := by
    rw [Int.natAbs_mul]
    exact Nat.mul_le_mul (by omega) (by omega)
  have e : ((A.natAbs * B.natAbs : Nat) : Int) = A * B := by
    rw [Int.natCast_mul, show ((A.natAbs : Nat) : Int) = A by omega, show ((B.natAbs : Nat) : Int) = B by omega]
  omega

set_option maxHeartbeats 4000000 in
set_option maxRecDepth 100000 in
theorem c_X12_isAfter (l : Launch) (D : JD) (o : Nat) (q : Nat → Nat) (u : MS) (i : Int) (j : Int) (p0 : 0 ≤ i ∧ i < 640) (p1 : 0 ≤ j ∧ j < 640) (p2 : -10000 ≤ u.1 4 i.toNat ∧ u.1 4 i.toNat ≤ 10000) (p3 : -10000 ≤ u.1 4 j.toNat ∧ u.1 4 j.toNat ≤ 10000) (p4 : -10000 ≤ u.1 5 i.toNat ∧ u.1 5 i.toNat ≤ 10000) (p5 : -10000 ≤ u.1 5 j.toNat ∧ u.1 5 j.toNat ≤ 10000) : Met l yX12_isAfter (jw yX12_isAfter cX12_isAfter 3 (some .boolean)) (jr 0 0) (jP [.ref o, .int (J i), .int (J j)] D (fun H => va_P D.1 j_cl (mW D o q u) H)) (jRi (fun z => (z = 1 ∧ lt2 (u.1 4 j.toNat) (u.1 5 j.toNat) (u.1 4 i.toNat) (u.1 5 i.toNat)) ∨ (z = 0 ∧ ¬ lt2 (u.1 4 j.toNat) (u.1 5 j.toNat) (u.1 4 i.toNat) (u.1 5 i.toNat)))) 0 0 (fun _ => False) := by
  refine Met.ofW (cc := cX12_isAfter) (maxL := 3) (ret := (some .boolean)) (by decide) rfl ?_
  intro pr en st mi args below meth co s₁ B hml hv
  obtain ⟨rfl, hG, hP⟩ := hv
  have hr := B.returns
  have hlk := B.notSynchronized
  have SS : jS pr mi co cX12_isAfter 3 st _ RX12 := ⟨B.exec, B.bytes, hml, findClass_of_methodNamed B.named, fun w hw => atoms_spec (ws := (jw yX12_isAfter cX12_isAfter 3 (some .boolean))) B.pre w (List.mem_cons_of_mem _ hw)⟩
  have hl := lv_entry ([.ref o, .int (J i), .int (J j)]) (n := 3) (Nat.le_of_ble_eq_true rfl)
  rw [lg_entry_eq]
  generalize (lg_sl ([.ref o, .int (J i), .int (J j)]) ++ List.replicate (3 - (lg_sl ([.ref o, .int (J i), .int (J j)])).length) Slot.unset).toArray = ls at hl ⊢
  have hl : lv_has ls 3 [(0, .ref o), (1, .int (J i)), (2, .int (J j))] := hl
  refine lv_aload_n SS.1 SS.2.1 dX12_isAfter_0 rfl (lv_at hl 0 rfl) ?_
  refine j_get SS hG hP 0 (v := .ref (q 4)) (C := RX12) (T := TX12) (N := 31) rfl rfl inX12 4 (by decide) (ref := RX12) kw_1062 rfl rfl dX12_isAfter_1 ?_
  refine lv_iload_n SS.1 SS.2.1 dX12_isAfter_4 rfl (lv_at hl 1 rfl) ?_
  refine j_iald SS hG hP 5 (n := 640) (f := (u.1 4)) rfl (z := i) (by omega) (by omega) dX12_isAfter_5 ?_
  refine lv_aload_n SS.1 SS.2.1 dX12_isAfter_6 rfl (lv_at hl 0 rfl) ?_
  refine j_get SS hG hP 0 (v := .ref (q 4)) (C := RX12) (T := TX12) (N := 31) rfl rfl inX12 4 (by decide) (ref := RX12) kw_1062 rfl rfl dX12_isAfter_7 ?_
  refine lv_iload_n SS.1 SS.2.1 dX12_isAfter_10 rfl (lv_at hl 2 rfl) ?_
  refine j_iald SS hG hP 5 (n := 640) (f := (u.1 4)) rfl (z := j) (by omega) (by omega) dX12_isAfter_11 ?_
  refine j_icmp_gt SS (tgt := 45) (x := ((u.1 4) (i).toNat)) (y := ((u.1 4) (j).toNat)) dX12_isAfter_12 (by decide) (by omega) (by omega) (fun c_12 => ?_) (fun c_12 => ?_)
  · skip
    refine j_iconst SS dX12_isAfter_45 ?_
    refine lv_goto (tgt := 50) SS.1 SS.2.1 dX12_isAfter_46 (by decide) ?_
    exact W.zret SS.1 SS.2.1 hr (j_nz (by decide)) (fun t ht hW => ⟨_, rfl, ⟨1, rfl, (by unfold lt2; omega)⟩, ht⟩) (fun _ h => nomatch h) dX12_isAfter_50 hlk
  · skip
    refine lv_aload_n SS.1 SS.2.1 dX12_isAfter_15 rfl (lv_at hl 0 rfl) ?_
    refine j_get SS hG hP 0 (v := .ref (q 4)) (C := RX12) (T := TX12) (N := 31) rfl rfl inX12 4 (by decide) (ref := RX12) kw_1062 rfl rfl dX12_isAfter_16 ?_
    refine lv_iload_n SS.1 SS.2.1 dX12_isAfter_19 rfl (lv_at hl 1 rfl) ?_
    refine j_iald SS hG hP 5 (n := 640) (f := (u.1 4)) rfl (z := i) (by omega) (by omega) dX12_isAfter_20 ?_
    refine lv_aload_n SS.1 SS.2.1 dX12_isAfter_21 rfl (lv_at hl 0 rfl) ?_
    refine j_get SS hG hP 0 (v := .ref (q 4)) (C := RX12) (T := TX12) (N := 31) rfl rfl inX12 4 (by decide) (ref := RX12) kw_1062 rfl rfl dX12_isAfter_22 ?_
    refine lv_iload_n SS.1 SS.2.1 dX12_isAfter_25 rfl (lv_at hl 2 rfl) ?_
    refine j_iald SS hG hP 5 (n := 640) (f := (u.1 4)) rfl (z := j) (by omega) (by omega) dX12_isAfter_26 ?_
    refine j_icmp_ne SS (tgt := 49) (x := ((u.1 4) (i).toNat)) (y := ((u.1 4) (j).toNat)) dX12_isAfter_27 (by decide) (by omega) (by omega) (fun c_27 => ?_) (fun c_27 => ?_)
    · skip
      refine j_iconst SS dX12_isAfter_49 ?_
      exact W.zret SS.1 SS.2.1 hr (j_nz (by decide)) (fun t ht hW => ⟨_, rfl, ⟨0, rfl, (by unfold lt2; omega)⟩, ht⟩) (fun _ h => nomatch h) dX12_isAfter_50 hlk
    · skip
      refine lv_aload_n SS.1 SS.2.1 dX12_isAfter_30 rfl (lv_at hl 0 rfl) ?_
      refine j_get SS hG hP 0 (v := .ref (q 5)) (C := RX12) (T := TX12) (N := 31) rfl rfl inX12 5 (by decide) (ref := RX12) kw_1063 rfl rfl dX12_isAfter_31 ?_
      refine lv_iload_n SS.1 SS.2.1 dX12_isAfter_34 rfl (lv_at hl 1 rfl) ?_
      refine j_iald SS hG hP 6 (n := 640) (f := (u.1 5)) rfl (z := i) (by omega) (by omega) dX12_isAfter_35 ?_
      refine lv_aload_n SS.1 SS.2.1 dX12_isAfter_36 rfl (lv_at hl 0 rfl) ?_
      refine j_get SS hG hP 0 (v := .ref (q 5)) (C := RX12) (T := TX12) (N := 31) rfl rfl inX12 5 (by decide) (ref := RX12) kw_1063 rfl rfl dX12_isAfter_37 ?_
      refine lv_iload_n SS.1 SS.2.1 dX12_isAfter_40 rfl (lv_at hl 2 rfl) ?_
      refine j_iald SS hG hP 6 (n := 640) (f := (u.1 5)) rfl (z := j) (by omega) (by omega) dX12_isAfter_41 ?_
      refine j_icmp_le SS (tgt := 49) (x := ((u.1 5) (i).toNat)) (y := ((u.1 5) (j).toNat)) dX12_isAfter_42 (by decide) (by omega) (by omega) (fun c_42 => ?_) (fun c_42 => ?_)
      · skip
        refine j_iconst SS dX12_isAfter_49 ?_
        exact W.zret SS.1 SS.2.1 hr (j_nz (by decide)) (fun t ht hW => ⟨_, rfl, ⟨0, rfl, (by unfold lt2; omega)⟩, ht⟩) (fun _ h => nomatch h) dX12_isAfter_50 hlk
      · skip
        refine j_iconst SS dX12_isAfter_45 ?_
        refine lv_goto (tgt := 50) SS.1 SS.2.1 dX12_isAfter_46 (by decide) ?_
        exact W.zret SS.1 SS.2.1 hr (j_nz (by decide)) (fun t ht hW => ⟨_, rfl, ⟨1, rfl, (by unfold lt2; omega)⟩, ht⟩) (fun _ h => nomatch h) dX12_isAfter_50 hlk

set_option maxHeartbeats 4000000 in
set_option maxRecDepth 100000 in
theorem c_X12_order (l : Launch) (D : JD) (o : Nat) (q : Nat → Nat) (u : MS) (A : Nat → Prop) (hD : va_D A (mW D o q u)) (p0 : 0 ≤ u.2.2 6 ∧ u.2.2 6 ≤ 640) (p1 : bd 10000 (u.1 4) (u.1 5) (u.2.2 6)) : Met l yX12_order (jw yX12_order cX12_order 5 none) (jr 1 22) (jP [.ref o] D (fun H => va_P D.1 j_cl (mW D o q u) H)) (jWv (fun u' => ∃ f : Nat → Int, ∃ g : Nat → Int, ∃ w : Int, u' = (uV (uI (uI u 4 f) 5 g) 6 w) ∧ (0 ≤ w ∧ w ≤ u.2.2 6 ∧ (0 < u.2.2 6 → 0 < w) ∧ os_s f g w ∧ bd 10000 f g w ∧ ∀ K : Int, bd K (u.1 4) (u.1 5) (u.2.2 6) → bd K f g w)) (fun u' H => va_P D.1 j_cl (mW D o q u') H) A) 0 0 A := by
  refine Met.ofW (cc := cX12_order) (maxL := 5) (ret := none) (by decide) rfl ?_
  intro pr en st mi args below meth co s₁ B hml hv
  obtain ⟨rfl, hG, hP⟩ := hv
  have hr := B.returns
  have hlk := B.notSynchronized
  have SS : jS pr mi co cX12_order 5 st _ RX12 := ⟨B.exec, B.bytes, hml, findClass_of_methodNamed B.named, fun w hw => atoms_spec (ws := (jw yX12_order cX12_order 5 none)) B.pre w (List.mem_cons_of_mem _ hw)⟩
  have hl := lv_entry ([.ref o]) (n := 5) (Nat.le_of_ble_eq_true rfl)
  rw [lg_entry_eq]
  generalize (lg_sl ([.ref o]) ++ List.replicate (5 - (lg_sl ([.ref o])).length) Slot.unset).toArray = ls at hl ⊢
  have hl : lv_has ls 5 [(0, .ref o)] := hl
  have hS : va_S A st.heap st.heap [] := va_S.rf
  refine j_iconst SS dX12_order_0 ?_
  refine lv_istore_n (lv' := [(1, .int (J 1)), (0, .ref o)]) SS.1 SS.2.1 dX12_order_1 rfl hl (by decide) rfl (fun ls hl => ?_)
  have L_2 : ∀ (nn : Nat) (i : Int) (f : Nat → Int) (g : Nat → Int) (H : Heap) (locs : List Loc) (hP : va_P D.1 j_cl (mW D o q (uI (uI u 4 f) 5 g)) H) (hS : va_S A st.heap H locs) (ls : Array Slot) (hl : lv_has ls 5 [(0, .ref o), (1, .int (J i))]) (i2_0 : 1 ≤ i ∧ (i ≤ u.2.2 6 ∨ i = 1)) (i2_1 : os_w f g i) (i2_2 : ∀ K : Int, bd K (u.1 4) (u.1 5) (u.2.2 6) → bd K f g (u.2.2 6)), (u.2.2 6 - i).toNat < nn → W pr l en (headSpec (jw yX12_order cX12_order 5 none) (jr 1 22)).room st mi (([.ref o] : List Value).toArray) below meth co H locs 0 0 (MQ below (jWv (fun u' => ∃ f : Nat → Int, ∃ g : Nat → Int, ∃ w : Int, u' = (uV (uI (uI u 4 f) 5 g) 6 w) ∧ (0 ≤ w ∧ w ≤ u.2.2 6 ∧ (0 < u.2.2 6 → 0 < w) ∧ os_s f g w ∧ bd 10000 f g w ∧ ∀ K : Int, bd K (u.1 4) (u.1 5) (u.2.2 6) → bd K f g w)) (fun u' H => va_P D.1 j_cl (mW D o q u') H) A) (([.ref o] : List Value).toArray) st 0 0 A) (F0 mi 2 ls []) := by
    intro nn
    induction nn with
    | zero => intros; omega
    | succ nn ih_2 =>
      intro i f g H locs hP hS ls hl i2_0 i2_1 i2_2 hm
      refine lv_iload_n SS.1 SS.2.1 dX12_order_2 rfl (lv_at hl 1 rfl) ?_
      refine lv_aload_n SS.1 SS.2.1 dX12_order_3 rfl (lv_at hl 0 rfl) ?_
      refine j_get SS hG hP 0 (v := .int (J (u.2.2 6))) (C := RX12) (T := TX12) (N := 31) rfl rfl inX12 6 (by decide) (ref := RX12) kw_1064 rfl rfl dX12_order_4 ?_
      refine j_icmp_ge SS (tgt := 101) (x := i) (y := (u.2.2 6)) dX12_order_7 (by decide) (by omega) (by omega) (fun c_7 => ?_) (fun c_7 => ?_)
      · skip
        refine j_iconst SS dX12_order_101 ?_
        refine lv_istore_n (lv' := [(1, .int (J 0)), (0, .ref o)]) SS.1 SS.2.1 dX12_order_102 rfl hl (by decide) rfl (fun ls hl => ?_)
        refine j_iconst SS dX12_order_103 ?_
        refine lv_istore_n (lv' := [(2, .int (J 0)), (1, .int (J 0)), (0, .ref o)]) SS.1 SS.2.1 dX12_order_104 rfl hl (by decide) rfl (fun ls hl => ?_)
        have L_105 : ∀ (nn : Nat) (n : Int) (i2 : Int) (f3 : Nat → Int) (g3 : Nat → Int) (H : Heap) (locs : List Loc) (hP : va_P D.1 j_cl (mW D o q (uI (uI u 4 f3) 5 g3)) H) (hS : va_S A st.heap H locs) (ls : Array Slot) (hl : lv_has ls 5 [(0, .ref o), (1, .int (J n)), (2, .int (J i2))]) (i105_0 : 0 ≤ i2 ∧ i2 ≤ u.2.2 6) (i105_1 : os_d f3 g3 n i2 (u.2.2 6)) (i105_2 : ∀ K : Int, bd K (u.1 4) (u.1 5) (u.2.2 6) → bd K f3 g3 (u.2.2 6)) (i105_3 : bd 10000 f3 g3 (u.2.2 6)), (u.2.2 6 - i2).toNat < nn → W pr l en (headSpec (jw yX12_order cX12_order 5 none) (jr 1 22)).room st mi (([.ref o] : List Value).toArray) below meth co H locs 0 0 (MQ below (jWv (fun u' => ∃ f : Nat → Int, ∃ g : Nat → Int, ∃ w : Int, u' = (uV (uI (uI u 4 f) 5 g) 6 w) ∧ (0 ≤ w ∧ w ≤ u.2.2 6 ∧ (0 < u.2.2 6 → 0 < w) ∧ os_s f g w ∧ bd 10000 f g w ∧ ∀ K : Int, bd K (u.1 4) (u.1 5) (u.2.2 6) → bd K f g w)) (fun u' H => va_P D.1 j_cl (mW D o q u') H) A) (([.ref o] : List Value).toArray) st 0 0 A) (F0 mi 105 ls []) := by
          intro nn
          induction nn with
          | zero => intros; omega
          | succ nn ih_105 =>
            intro n i2 f3 g3 H locs hP hS ls hl i105_0 i105_1 i105_2 i105_3 hm
            have hn1 := i105_1.1
            have hn2 := i105_1.2.1
            refine lv_iload_n SS.1 SS.2.1 dX12_order_105 rfl (lv_at hl 2 rfl) ?_
            refine lv_aload_n SS.1 SS.2.1 dX12_order_106 rfl (lv_at hl 0 rfl) ?_
            refine j_get SS hG hP 0 (v := .int (J (u.2.2 6))) (C := RX12) (T := TX12) (N := 31) rfl rfl inX12 6 (by decide) (ref := RX12) kw_1064 rfl rfl dX12_order_107 ?_
            refine j_icmp_ge SS (tgt := 184) (x := i2) (y := (u.2.2 6)) dX12_order_110 (by decide) (by omega) (by omega) (fun c_110 => ?_) (fun c_110 => ?_)
            · skip
              refine lv_aload_n SS.1 SS.2.1 dX12_order_184 rfl (lv_at hl 0 rfl) ?_
              refine lv_iload_n SS.1 SS.2.1 dX12_order_185 rfl (lv_at hl 1 rfl) ?_
              refine j_put SS hG hP (mW_D hD) hS 0 (v := .int (J n)) (ty := .int) (C := RX12) (T := TX12) (N := 31) rfl rfl inX12 tyX12 tyX12_ok nmX12 6 (by decide) (ref := RX12) kw_1064 rfl rfl (by decide +kernel) rfl rfl (Nat.le_of_ble_eq_true rfl) dX12_order_186 (ws' := (mW D o q (uV (uI (uI u 4 f3) 5 g3) 6 n))) rfl (fun H locs hP hS => ?_)
              exact W.vret SS.1 SS.2.1 hr (fun t ht hW => ⟨⟨(uV (uI (uI u 4 f3) 5 g3) 6 n), rfl, (⟨f3, g3, n, rfl, ⟨i105_1.1, by omega, by have := i105_1.2.2.1; omega, i105_1.2.2.2.1, fun a h => i105_3 a (by omega), fun K h a ha => i105_2 K h a (by omega)⟩⟩), by show va_P D.1 j_cl (mW D o q (uV (uI (uI u 4 f3) 5 g3) 6 n)) t.heap; rw [ht]; exact hP⟩, hS.F ht⟩) hS.2.2 dX12_order_189 hlk
            · skip
              refine lv_iload_n SS.1 SS.2.1 dX12_order_113 rfl (lv_at hl 1 rfl) ?_
              refine j_if_eq SS (tgt := 151) (x := n) dX12_order_114 (by decide) (by omega) (fun c_114 => ?_) (fun c_114 => ?_)
              · skip
                refine lv_aload_n SS.1 SS.2.1 dX12_order_151 rfl (lv_at hl 0 rfl) ?_
                refine j_get SS hG hP 0 (v := .ref (q 4)) (C := RX12) (T := TX12) (N := 31) rfl rfl inX12 4 (by decide) (ref := RX12) kw_1062 rfl rfl dX12_order_152 ?_
                refine lv_iload_n SS.1 SS.2.1 dX12_order_155 rfl (lv_at hl 1 rfl) ?_
                refine lv_aload_n SS.1 SS.2.1 dX12_order_156 rfl (lv_at hl 0 rfl) ?_
                refine j_get SS hG hP 0 (v := .ref (q 4)) (C := RX12) (T := TX12) (N := 31) rfl rfl inX12 4 (by decide) (ref := RX12) kw_1062 rfl rfl dX12_order_157 ?_
                refine lv_iload_n SS.1 SS.2.1 dX12_order_160 rfl (lv_at hl 2 rfl) ?_
                refine j_iald SS hG hP 5 (n := 640) (f := f3) rfl (z := i2) (by omega) (by omega) dX12_order_161 ?_
                refine j_iast SS hG hP (mW_D hD) hS 5 (n := 640) (f := f3) rfl (z := n) (v := (f3 (i2).toNat)) (by omega) (by omega) dX12_order_162 (ws' := (mW D o q (uI (uI u 4 (upI f3 (n).toNat (f3 (i2).toNat))) 5 g3))) rfl (fun H locs hP hS => ?_)
                refine lv_aload_n SS.1 SS.2.1 dX12_order_163 rfl (lv_at hl 0 rfl) ?_
                refine j_get SS hG hP 0 (v := .ref (q 5)) (C := RX12) (T := TX12) (N := 31) rfl rfl inX12 5 (by decide) (ref := RX12) kw_1063 rfl rfl dX12_order_164 ?_
                refine lv_iload_n SS.1 SS.2.1 dX12_order_167 rfl (lv_at hl 1 rfl) ?_
                refine lv_aload_n SS.1 SS.2.1 dX12_order_168 rfl (lv_at hl 0 rfl) ?_
                refine j_get SS hG hP 0 (v := .ref (q 5)) (C := RX12) (T := TX12) (N := 31) rfl rfl inX12 5 (by decide) (ref := RX12) kw_1063 rfl rfl dX12_order_169 ?_
                refine lv_iload_n SS.1 SS.2.1 dX12_order_172 rfl (lv_at hl 2 rfl) ?_
                refine j_iald SS hG hP 6 (n := 640) (f := g3) rfl (z := i2) (by omega) (by omega) dX12_order_173 ?_
                refine j_iast SS hG hP (mW_D hD) hS 6 (n := 640) (f := g3) rfl (z := n) (v := (g3 (i2).toNat)) (by omega) (by omega) dX12_order_174 (ws' := (mW D o q (uI (uI u 4 (upI f3 (n).toNat (f3 (i2).toNat))) 5 (upI g3 (n).toNat (g3 (i2).toNat))))) rfl (fun H locs hP hS => ?_)
                refine lv_iinc (v := J (n + 1)) (lv' := [(1, .int (J (n + 1))), (0, .ref o), (2, .int (J i2))]) SS.1 SS.2.1 dX12_order_175 hl (k := 1) rfl (J_add _ _) (by decide) rfl (fun ls hl => ?_)
                refine lv_iinc (v := J (i2 + 1)) (lv' := [(2, .int (J (i2 + 1))), (1, .int (J (n + 1))), (0, .ref o)]) SS.1 SS.2.1 dX12_order_178 hl (k := 2) rfl (J_add _ _) (by decide) rfl (fun ls hl => ?_)
                refine lv_goto (tgt := 105) SS.1 SS.2.1 dX12_order_181 (by decide) ?_
                exact ih_105 (n + 1) (i2 + 1) (upI f3 (n).toNat (f3 (i2).toNat)) (upI g3 (n).toNat (g3 (i2).toNat)) _ _ hP hS ls (lv_sub hl [2, 1, 0] rfl) (by omega) (by first | exact os_dput i105_1 (by omega) (Or.inl (by omega)) | exact os_dput i105_1 (by omega) (Or.inr (Or.inl (by omega))) | exact os_dput i105_1 (by omega) (Or.inr (Or.inr (by omega))) | exact os_dskip i105_1 (by omega) (by omega) (by omega) (by omega)) (fun K h => by have q := i105_2 K h; have q1 := bd_at q (z := i2) (by omega) (by omega); first | exact bd_up q q1.1 q1.2 | exact q) (by have q1 := bd_at i105_3 (z := i2) (by omega) (by omega); first | exact bd_up i105_3 q1.1 q1.2 | exact i105_3) (by omega)
              · skip
                refine lv_aload_n SS.1 SS.2.1 dX12_order_117 rfl (lv_at hl 0 rfl) ?_
                refine j_get SS hG hP 0 (v := .ref (q 4)) (C := RX12) (T := TX12) (N := 31) rfl rfl inX12 4 (by decide) (ref := RX12) kw_1062 rfl rfl dX12_order_118 ?_
                refine lv_iload_n SS.1 SS.2.1 dX12_order_121 rfl (lv_at hl 2 rfl) ?_
                refine j_iald SS hG hP 5 (n := 640) (f := f3) rfl (z := i2) (by omega) (by omega) dX12_order_122 ?_
                refine lv_aload_n SS.1 SS.2.1 dX12_order_123 rfl (lv_at hl 0 rfl) ?_
                refine j_get SS hG hP 0 (v := .ref (q 4)) (C := RX12) (T := TX12) (N := 31) rfl rfl inX12 4 (by decide) (ref := RX12) kw_1062 rfl rfl dX12_order_124 ?_
                refine lv_iload_n SS.1 SS.2.1 dX12_order_127 rfl (lv_at hl 1 rfl) ?_
                refine j_iconst SS dX12_order_128 ?_
                refine j_isub SS (x := n) (y := 1) dX12_order_129 ?_
                refine j_iald SS hG hP 5 (n := 640) (f := f3) rfl (z := (n - 1)) (by omega) (by omega) dX12_order_130 ?_
                have q1 := bd_at i105_3 (z := i2) (by omega) (by omega)
                have q2 := bd_at i105_3 (z := n - 1) (by omega) (by omega)
                refine j_icmp_ne SS (tgt := 151) (x := (f3 (i2).toNat)) (y := (f3 ((n - 1)).toNat)) dX12_order_131 (by decide) (by omega) (by omega) (fun c_131 => ?_) (fun c_131 => ?_)
                · skip
                  refine lv_aload_n SS.1 SS.2.1 dX12_order_151 rfl (lv_at hl 0 rfl) ?_
                  refine j_get SS hG hP 0 (v := .ref (q 4)) (C := RX12) (T := TX12) (N := 31) rfl rfl inX12 4 (by decide) (ref := RX12) kw_1062 rfl rfl dX12_order_152 ?_
                  refine lv_iload_n SS.1 SS.2.1 dX12_order_155 rfl (lv_at hl 1 rfl) ?_
                  refine lv_aload_n SS.1 SS.2.1 dX12_order_156 rfl (lv_at hl 0 rfl) ?_
                  refine j_get SS hG hP 0 (v := .ref (q 4)) (C := RX12) (T := TX12) (N := 31) rfl rfl inX12 4 (by decide) (ref := RX12) kw_1062 rfl rfl dX12_order_157 ?_
                  refine lv_iload_n SS.1 SS.2.1 dX12_order_160 rfl (lv_at hl 2 rfl) ?_
                  refine j_iald SS hG hP 5 (n := 640) (f := f3) rfl (z := i2) (by omega) (by omega) dX12_order_161 ?_
                  refine j_iast SS hG hP (mW_D hD) hS 5 (n := 640) (f := f3) rfl (z := n) (v := (f3 (i2).toNat)) (by omega) (by omega) dX12_order_162 (ws' := (mW D o q (uI (uI u 4 (upI f3 (n).toNat (f3 (i2).toNat))) 5 g3))) rfl (fun H locs hP hS => ?_)
                  refine lv_aload_n SS.1 SS.2.1 dX12_order_163 rfl (lv_at hl 0 rfl) ?_
                  refine j_get SS hG hP 0 (v := .ref (q 5)) (C := RX12) (T := TX12) (N := 31) rfl rfl inX12 5 (by decide) (ref := RX12) kw_1063 rfl rfl dX12_order_164 ?_
                  refine lv_iload_n SS.1 SS.2.1 dX12_order_167 rfl (lv_at hl 1 rfl) ?_
                  refine lv_aload_n SS.1 SS.2.1 dX12_order_168 rfl (lv_at hl 0 rfl) ?_
                  refine j_get SS hG hP 0 (v := .ref (q 5)) (C := RX12) (T := TX12) (N := 31) rfl rfl inX12 5 (by decide) (ref := RX12) kw_1063 rfl rfl dX12_order_169 ?_
                  refine lv_iload_n SS.1 SS.2.1 dX12_order_172 rfl (lv_at hl 2 rfl) ?_
                  refine j_iald SS hG hP 6 (n := 640) (f := g3) rfl (z := i2) (by omega) (by omega) dX12_order_173 ?_
                  refine j_iast SS hG hP (mW_D hD) hS 6 (n := 640) (f := g3) rfl (z := n) (v := (g3 (i2).toNat)) (by omega) (by omega) dX12_order_174 (ws' := (mW D o q (uI (uI u 4 (upI f3 (n).toNat (f3 (i2).toNat))) 5 (upI g3 (n).toNat (g3 (i2).toNat))))) rfl (fun H locs hP hS => ?_)
                  refine lv_iinc (v := J (n + 1)) (lv' := [(1, .int (J (n + 1))), (0, .ref o), (2, .int (J i2))]) SS.1 SS.2.1 dX12_order_175 hl (k := 1) rfl (J_add _ _) (by decide) rfl (fun ls hl => ?_)
                  refine lv_iinc (v := J (i2 + 1)) (lv' := [(2, .int (J (i2 + 1))), (1, .int (J (n + 1))), (0, .ref o)]) SS.1 SS.2.1 dX12_order_178 hl (k := 2) rfl (J_add _ _) (by decide) rfl (fun ls hl => ?_)
                  refine lv_goto (tgt := 105) SS.1 SS.2.1 dX12_order_181 (by decide) ?_
                  exact ih_105 (n + 1) (i2 + 1) (upI f3 (n).toNat (f3 (i2).toNat)) (upI g3 (n).toNat (g3 (i2).toNat)) _ _ hP hS ls (lv_sub hl [2, 1, 0] rfl) (by omega) (by first | exact os_dput i105_1 (by omega) (Or.inl (by omega)) | exact os_dput i105_1 (by omega) (Or.inr (Or.inl (by omega))) | exact os_dput i105_1 (by omega) (Or.inr (Or.inr (by omega))) | exact os_dskip i105_1 (by omega) (by omega) (by omega) (by omega)) (fun K h => by have q := i105_2 K h; have q1 := bd_at q (z := i2) (by omega) (by omega); first | exact bd_up q q1.1 q1.2 | exact q) (by have q1 := bd_at i105_3 (z := i2) (by omega) (by omega); first | exact bd_up i105_3 q1.1 q1.2 | exact i105_3) (by omega)
                · skip
                  refine lv_aload_n SS.1 SS.2.1 dX12_order_134 rfl (lv_at hl 0 rfl) ?_
                  refine j_get SS hG hP 0 (v := .ref (q 5)) (C := RX12) (T := TX12) (N := 31) rfl rfl inX12 5 (by decide) (ref := RX12) kw_1063 rfl rfl dX12_order_135 ?_
                  refine lv_iload_n SS.1 SS.2.1 dX12_order_138 rfl (lv_at hl 2 rfl) ?_
                  refine j_iald SS hG hP 6 (n := 640) (f := g3) rfl (z := i2) (by omega) (by omega) dX12_order_139 ?_
                  refine lv_aload_n SS.1 SS.2.1 dX12_order_140 rfl (lv_at hl 0 rfl) ?_
                  refine j_get SS hG hP 0 (v := .ref (q 5)) (C := RX12) (T := TX12) (N := 31) rfl rfl inX12 5 (by decide) (ref := RX12) kw_1063 rfl rfl dX12_order_141 ?_
                  refine lv_iload_n SS.1 SS.2.1 dX12_order_144 rfl (lv_at hl 1 rfl) ?_
                  refine j_iconst SS dX12_order_145 ?_
                  refine j_isub SS (x := n) (y := 1) dX12_order_146 ?_
                  refine j_iald SS hG hP 6 (n := 640) (f := g3) rfl (z := (n - 1)) (by omega) (by omega) dX12_order_147 ?_
                  have q1 := bd_at i105_3 (z := i2) (by omega) (by omega)
                  have q2 := bd_at i105_3 (z := n - 1) (by omega) (by omega)
                  refine j_icmp_eq SS (tgt := 178) (x := (g3 (i2).toNat)) (y := (g3 ((n - 1)).toNat)) dX12_order_148 (by decide) (by omega) (by omega) (fun c_148 => ?_) (fun c_148 => ?_)
                  · skip
                    refine lv_iinc (v := J (i2 + 1)) (lv' := [(2, .int (J (i2 + 1))), (0, .ref o), (1, .int (J n))]) SS.1 SS.2.1 dX12_order_178 hl (k := 2) rfl (J_add _ _) (by decide) rfl (fun ls hl => ?_)
                    refine lv_goto (tgt := 105) SS.1 SS.2.1 dX12_order_181 (by decide) ?_
                    exact ih_105 n (i2 + 1) f3 g3 _ _ hP hS ls (lv_sub hl [1, 2, 0] rfl) (by omega) (by first | exact os_dput i105_1 (by omega) (Or.inl (by omega)) | exact os_dput i105_1 (by omega) (Or.inr (Or.inl (by omega))) | exact os_dput i105_1 (by omega) (Or.inr (Or.inr (by omega))) | exact os_dskip i105_1 (by omega) (by omega) (by omega) (by omega)) (fun K h => by have q := i105_2 K h; have q1 := bd_at q (z := i2) (by omega) (by omega); first | exact bd_up q q1.1 q1.2 | exact q) (by have q1 := bd_at i105_3 (z := i2) (by omega) (by omega); first | exact bd_up i105_3 q1.1 q1.2 | exact i105_3) (by omega)
                  · skip
                    refine lv_aload_n SS.1 SS.2.1 dX12_order_151 rfl (lv_at hl 0 rfl) ?_
                    refine j_get SS hG hP 0 (v := .ref (q 4)) (C := RX12) (T := TX12) (N := 31) rfl rfl inX12 4 (by decide) (ref := RX12) kw_1062 rfl rfl dX12_order_152 ?_
                    refine lv_iload_n SS.1 SS.2.1 dX12_order_155 rfl (lv_at hl 1 rfl) ?_
                    refine lv_aload_n SS.1 SS.2.1 dX12_order_156 rfl (lv_at hl 0 rfl) ?_
                    refine j_get SS hG hP 0 (v := .ref (q 4)) (C := RX12) (T := TX12) (N := 31) rfl rfl inX12 4 (by decide) (ref := RX12) kw_1062 rfl rfl dX12_order_157 ?_
                    refine lv_iload_n SS.1 SS.2.1 dX12_order_160 rfl (lv_at hl 2 rfl) ?_
                    refine j_iald SS hG hP 5 (n := 640) (f := f3) rfl (z := i2) (by omega) (by omega) dX12_order_161 ?_
                    refine j_iast SS hG hP (mW_D hD) hS 5 (n := 640) (f := f3) rfl (z := n) (v := (f3 (i2).toNat)) (by omega) (by omega) dX12_order_162 (ws' := (mW D o q (uI (uI u 4 (upI f3 (n).toNat (f3 (i2).toNat))) 5 g3))) rfl (fun H locs hP hS => ?_)
                    refine lv_aload_n SS.1 SS.2.1 dX12_order_163 rfl (lv_at hl 0 rfl) ?_
                    refine j_get SS hG hP 0 (v := .ref (q 5)) (C := RX12) (T := TX12) (N := 31) rfl rfl inX12 5 (by decide) (ref := RX12) kw_1063 rfl rfl dX12_order_164 ?_
                    refine lv_iload_n SS.1 SS.2.1 dX12_order_167 rfl (lv_at hl 1 rfl) ?_
                    refine lv_aload_n SS.1 SS.2.1 dX12_order_168 rfl (lv_at hl 0 rfl) ?_
                    refine j_get SS hG hP 0 (v := .ref (q 5)) (C := RX12) (T := TX12) (N := 31) rfl rfl inX12 5 (by decide) (ref := RX12) kw_1063 rfl rfl dX12_order_169 ?_
                    refine lv_iload_n SS.1 SS.2.1 dX12_order_172 rfl (lv_at hl 2 rfl) ?_
                    refine j_iald SS hG hP 6 (n := 640) (f := g3) rfl (z := i2) (by omega) (by omega) dX12_order_173 ?_
                    refine j_iast SS hG hP (mW_D hD) hS 6 (n := 640) (f := g3) rfl (z := n) (v := (g3 (i2).toNat)) (by omega) (by omega) dX12_order_174 (ws' := (mW D o q (uI (uI u 4 (upI f3 (n).toNat (f3 (i2).toNat))) 5 (upI g3 (n).toNat (g3 (i2).toNat))))) rfl (fun H locs hP hS => ?_)
                    refine lv_iinc (v := J (n + 1)) (lv' := [(1, .int (J (n + 1))), (0, .ref o), (2, .int (J i2))]) SS.1 SS.2.1 dX12_order_175 hl (k := 1) rfl (J_add _ _) (by decide) rfl (fun ls hl => ?_)
                    refine lv_iinc (v := J (i2 + 1)) (lv' := [(2, .int (J (i2 + 1))), (1, .int (J (n + 1))), (0, .ref o)]) SS.1 SS.2.1 dX12_order_178 hl (k := 2) rfl (J_add _ _) (by decide) rfl (fun ls hl => ?_)
                    refine lv_goto (tgt := 105) SS.1 SS.2.1 dX12_order_181 (by decide) ?_
                    exact ih_105 (n + 1) (i2 + 1) (upI f3 (n).toNat (f3 (i2).toNat)) (upI g3 (n).toNat (g3 (i2).toNat)) _ _ hP hS ls (lv_sub hl [2, 1, 0] rfl) (by omega) (by first | exact os_dput i105_1 (by omega) (Or.inl (by omega)) | exact os_dput i105_1 (by omega) (Or.inr (Or.inl (by omega))) | exact os_dput i105_1 (by omega) (Or.inr (Or.inr (by omega))) | exact os_dskip i105_1 (by omega) (by omega) (by omega) (by omega)) (fun K h => by have q := i105_2 K h; have q1 := bd_at q (z := i2) (by omega) (by omega); first | exact bd_up q q1.1 q1.2 | exact q) (by have q1 := bd_at i105_3 (z := i2) (by omega) (by omega); first | exact bd_up i105_3 q1.1 q1.2 | exact i105_3) (by omega)
        exact L_105 ((u.2.2 6 - (0 : Int)).toNat + 1) 0 0 f g _ _ hP hS ls (lv_sub hl [2, 1, 0] rfl) (by omega) (os_d0 (fun a h => i2_1 a (by omega))) (i2_2) (i2_2 _ p1) (Nat.lt_succ_self _)
      · skip
        refine lv_iload_n SS.1 SS.2.1 dX12_order_10 rfl (lv_at hl 1 rfl) ?_
        refine lv_istore_n (lv' := [(2, .int (J i)), (0, .ref o), (1, .int (J i))]) SS.1 SS.2.1 dX12_order_11 rfl hl (by decide) rfl (fun ls hl => ?_)
        have L_12 : ∀ (nn : Nat) (j : Int) (f2 : Nat → Int) (g2 : Nat → Int) (H : Heap) (locs : List Loc) (hP : va_P D.1 j_cl (mW D o q (uI (uI u 4 f2) 5 g2)) H) (hS : va_S A st.heap H locs) (ls : Array Slot) (hl : lv_has ls 5 [(0, .ref o), (1, .int (J i)), (2, .int (J j))]) (i12_0 : 0 ≤ j ∧ j ≤ i) (i12_1 : os_in f2 g2 i j) (i12_2 : ∀ K : Int, bd K (u.1 4) (u.1 5) (u.2.2 6) → bd K f2 g2 (u.2.2 6)) (i12_3 : bd 10000 f2 g2 (u.2.2 6)), j.toNat < nn → W pr l en (headSpec (jw yX12_order cX12_order 5 none) (jr 1 22)).room st mi (([.ref o] : List Value).toArray) below meth co H locs 0 0 (MQ below (jWv (fun u' => ∃ f : Nat → Int, ∃ g : Nat → Int, ∃ w : Int, u' = (uV (uI (uI u 4 f) 5 g) 6 w) ∧ (0 ≤ w ∧ w ≤ u.2.2 6 ∧ (0 < u.2.2 6 → 0 < w) ∧ os_s f g w ∧ bd 10000 f g w ∧ ∀ K : Int, bd K (u.1 4) (u.1 5) (u.2.2 6) → bd K f g w)) (fun u' H => va_P D.1 j_cl (mW D o q u') H) A) (([.ref o] : List Value).toArray) st 0 0 A) (F0 mi 12 ls []) := by
          intro nn
          induction nn with
          | zero => intros; omega
          | succ nn ih_12 =>
            intro j f2 g2 H locs hP hS ls hl i12_0 i12_1 i12_2 i12_3 hm
            refine lv_iload_n SS.1 SS.2.1 dX12_order_12 rfl (lv_at hl 2 rfl) ?_
            refine j_if_le SS (tgt := 95) (x := j) dX12_order_13 (by decide) (by omega) (fun c_13 => ?_) (fun c_13 => ?_)
            · skip
              refine lv_iinc (v := J (i + 1)) (lv' := [(1, .int (J (i + 1))), (0, .ref o), (2, .int (J j))]) SS.1 SS.2.1 dX12_order_95 hl (k := 1) rfl (J_add _ _) (by decide) rfl (fun ls hl => ?_)
              refine lv_goto (tgt := 2) SS.1 SS.2.1 dX12_order_98 (by decide) ?_
              exact ih_2 (i + 1) f2 g2 _ _ hP hS ls (lv_sub hl [1, 0] rfl) (by omega) (by first | exact os_end i12_1 (Or.inl (by omega)) | exact os_end i12_1 (Or.inr ⟨by omega, by omega, by rcases h_21 with h | h; omega; exact h.2⟩)) (i12_2) (by omega)
            · skip
              refine lv_aload_n SS.1 SS.2.1 dX12_order_16 rfl (lv_at hl 0 rfl) ?_
              refine lv_iload_n SS.1 SS.2.1 dX12_order_17 rfl (lv_at hl 2 rfl) ?_
              refine j_iconst SS dX12_order_18 ?_
              refine j_isub SS (x := j) (y := 1) dX12_order_19 ?_
              refine lv_iload_n SS.1 SS.2.1 dX12_order_20 rfl (lv_at hl 2 rfl) ?_
              refine j_vRi SS (As := [.int (J (j - 1)), .int (J j)]) (rest := []) (c_X12_isAfter l D o q (uI (uI u 4 f2) 5 g2) (j - 1) j (show 0 ≤ (j - 1) ∧ (j - 1) < 640 from (by omega)) (show 0 ≤ j ∧ j < 640 from (by omega)) (show -10000 ≤ f2 (j - 1).toNat ∧ f2 (j - 1).toNat ≤ 10000 from (by have q := bd_at i12_3 (z := j - 1) (by omega) (by omega); exact q.1)) (show -10000 ≤ f2 j.toNat ∧ f2 j.toNat ≤ 10000 from (by have q := bd_at i12_3 (z := j) (by omega) (by omega); exact q.1)) (show -10000 ≤ g2 (j - 1).toNat ∧ g2 (j - 1).toNat ≤ 10000 from (by have q := bd_at i12_3 (z := j - 1) (by omega) (by omega); exact q.2)) (show -10000 ≤ g2 j.toNat ∧ g2 j.toNat ≤ 10000 from (by have q := bd_at i12_3 (z := j) (by omega) (by omega); exact q.2))) mf_X12_isAfter kw_1197 hG hP hP (ci := 8) (q0 := 0) rfl rfl rfl rfl hl.1 ⟨⟨Nat.le_of_ble_eq_true rfl, Nat.le_of_ble_eq_true rfl⟩, Nat.le_of_ble_eq_true rfl, Nat.le_refl _, Nat.le_refl _⟩ rfl dX12_order_21 (fun z_21 h_21 => ?_)
              have h_21 : (z_21 = 1 ∧ lt2 (f2 j.toNat) (g2 j.toNat) (f2 (j - 1).toNat) (g2 (j - 1).toNat)) ∨ (z_21 = 0 ∧ ¬ lt2 (f2 j.toNat) (g2 j.toNat) (f2 (j - 1).toNat) (g2 (j - 1).toNat)) := h_21
              refine j_if_eq SS (tgt := 95) (x := z_21) dX12_order_24 (by decide) (by omega) (fun c_24 => ?_) (fun c_24 => ?_)
              · skip
                refine lv_iinc (v := J (i + 1)) (lv' := [(1, .int (J (i + 1))), (0, .ref o), (2, .int (J j))]) SS.1 SS.2.1 dX12_order_95 hl (k := 1) rfl (J_add _ _) (by decide) rfl (fun ls hl => ?_)
                refine lv_goto (tgt := 2) SS.1 SS.2.1 dX12_order_98 (by decide) ?_
                exact ih_2 (i + 1) f2 g2 _ _ hP hS ls (lv_sub hl [1, 0] rfl) (by omega) (by first | exact os_end i12_1 (Or.inl (by omega)) | exact os_end i12_1 (Or.inr ⟨by omega, by omega, by rcases h_21 with h | h; omega; exact h.2⟩)) (i12_2) (by omega)
              · skip
                refine lv_aload_n SS.1 SS.2.1 dX12_order_27 rfl (lv_at hl 0 rfl) ?_
                refine j_get SS hG hP 0 (v := .ref (q 4)) (C := RX12) (T := TX12) (N := 31) rfl rfl inX12 4 (by decide) (ref := RX12) kw_1062 rfl rfl dX12_order_28 ?_
                refine lv_iload_n SS.1 SS.2.1 dX12_order_31 rfl (lv_at hl 2 rfl) ?_
                refine j_iald SS hG hP 5 (n := 640) (f := f2) rfl (z := j) (by omega) (by omega) dX12_order_32 ?_
                refine lv_istore_n (lv' := [(3, .int (J (f2 (j).toNat))), (0, .ref o), (1, .int (J i)), (2, .int (J j))]) SS.1 SS.2.1 dX12_order_33 rfl hl (by decide) rfl (fun ls hl => ?_)
                refine lv_aload_n SS.1 SS.2.1 dX12_order_34 rfl (lv_at hl 1 rfl) ?_
                refine j_get SS hG hP 0 (v := .ref (q 5)) (C := RX12) (T := TX12) (N := 31) rfl rfl inX12 5 (by decide) (ref := RX12) kw_1063 rfl rfl dX12_order_35 ?_
                refine lv_iload_n SS.1 SS.2.1 dX12_order_38 rfl (lv_at hl 3 rfl) ?_
                refine j_iald SS hG hP 6 (n := 640) (f := g2) rfl (z := j) (by omega) (by omega) dX12_order_39 ?_
                refine lv_istore (lv' := [(4, .int (J (g2 (j).toNat))), (3, .int (J (f2 (j).toNat))), (0, .ref o), (1, .int (J i)), (2, .int (J j))]) SS.1 SS.2.1 dX12_order_40 hl (by decide) rfl (fun ls hl => ?_)
                refine lv_aload_n SS.1 SS.2.1 dX12_order_42 rfl (lv_at hl 2 rfl) ?_
                refine j_get SS hG hP 0 (v := .ref (q 4)) (C := RX12) (T := TX12) (N := 31) rfl rfl inX12 4 (by decide) (ref := RX12) kw_1062 rfl rfl dX12_order_43 ?_
                refine lv_iload_n SS.1 SS.2.1 dX12_order_46 rfl (lv_at hl 4 rfl) ?_
                refine lv_aload_n SS.1 SS.2.1 dX12_order_47 rfl (lv_at hl 2 rfl) ?_
                refine j_get SS hG hP 0 (v := .ref (q 4)) (C := RX12) (T := TX12) (N := 31) rfl rfl inX12 4 (by decide) (ref := RX12) kw_1062 rfl rfl dX12_order_48 ?_
                refine lv_iload_n SS.1 SS.2.1 dX12_order_51 rfl (lv_at hl 4 rfl) ?_
                refine j_iconst SS dX12_order_52 ?_
                refine j_isub SS (x := j) (y := 1) dX12_order_53 ?_
                refine j_iald SS hG hP 5 (n := 640) (f := f2) rfl (z := (j - 1)) (by omega) (by omega) dX12_order_54 ?_
                refine j_iast SS hG hP (mW_D hD) hS 5 (n := 640) (f := f2) rfl (z := j) (v := (f2 ((j - 1)).toNat)) (by omega) (by omega) dX12_order_55 (ws' := (mW D o q (uI (uI u 4 (upI f2 (j).toNat (f2 ((j - 1)).toNat))) 5 g2))) rfl (fun H locs hP hS => ?_)
                refine lv_aload_n SS.1 SS.2.1 dX12_order_56 rfl (lv_at hl 2 rfl) ?_
                refine j_get SS hG hP 0 (v := .ref (q 5)) (C := RX12) (T := TX12) (N := 31) rfl rfl inX12 5 (by decide) (ref := RX12) kw_1063 rfl rfl dX12_order_57 ?_
                refine lv_iload_n SS.1 SS.2.1 dX12_order_60 rfl (lv_at hl 4 rfl) ?_
                refine lv_aload_n SS.1 SS.2.1 dX12_order_61 rfl (lv_at hl 2 rfl) ?_
                refine j_get SS hG hP 0 (v := .ref (q 5)) (C := RX12) (T := TX12) (N := 31) rfl rfl inX12 5 (by decide) (ref := RX12) kw_1063 rfl rfl dX12_order_62 ?_
                refine lv_iload_n SS.1 SS.2.1 dX12_order_65 rfl (lv_at hl 4 rfl) ?_
                refine j_iconst SS dX12_order_66 ?_
                refine j_isub SS (x := j) (y := 1) dX12_order_67 ?_
                refine j_iald SS hG hP 6 (n := 640) (f := g2) rfl (z := (j - 1)) (by omega) (by omega) dX12_order_68 ?_
                refine j_iast SS hG hP (mW_D hD) hS 6 (n := 640) (f := g2) rfl (z := j) (v := (g2 ((j - 1)).toNat)) (by omega) (by omega) dX12_order_69 (ws' := (mW D o q (uI (uI u 4 (upI f2 (j).toNat (f2 ((j - 1)).toNat))) 5 (upI g2 (j).toNat (g2 ((j - 1)).toNat))))) rfl (fun H locs hP hS => ?_)
                refine lv_aload_n SS.1 SS.2.1 dX12_order_70 rfl (lv_at hl 2 rfl) ?_
                refine j_get SS hG hP 0 (v := .ref (q 4)) (C := RX12) (T := TX12) (N := 31) rfl rfl inX12 4 (by decide) (ref := RX12) kw_1062 rfl rfl dX12_order_71 ?_
                refine lv_iload_n SS.1 SS.2.1 dX12_order_74 rfl (lv_at hl 4 rfl) ?_
                refine j_iconst SS dX12_order_75 ?_
                refine j_isub SS (x := j) (y := 1) dX12_order_76 ?_
                refine lv_iload_n SS.1 SS.2.1 dX12_order_77 rfl (lv_at hl 1 rfl) ?_
                refine j_iast SS hG hP (mW_D hD) hS 5 (n := 640) (f := (upI f2 (j).toNat (f2 ((j - 1)).toNat))) rfl (z := (j - 1)) (v := (f2 (j).toNat)) (by omega) (by omega) dX12_order_78 (ws' := (mW D o q (uI (uI u 4 (upI (upI f2 (j).toNat (f2 ((j - 1)).toNat)) ((j - 1)).toNat (f2 (j).toNat))) 5 (upI g2 (j).toNat (g2 ((j - 1)).toNat))))) rfl (fun H locs hP hS => ?_)
                refine lv_aload_n SS.1 SS.2.1 dX12_order_79 rfl (lv_at hl 2 rfl) ?_
                refine j_get SS hG hP 0 (v := .ref (q 5)) (C := RX12) (T := TX12) (N := 31) rfl rfl inX12 5 (by decide) (ref := RX12) kw_1063 rfl rfl dX12_order_80 ?_
                refine lv_iload_n SS.1 SS.2.1 dX12_order_83 rfl (lv_at hl 4 rfl) ?_
                refine j_iconst SS dX12_order_84 ?_
                refine j_isub SS (x := j) (y := 1) dX12_order_85 ?_
                refine lv_iload SS.1 SS.2.1 dX12_order_86 (lv_at hl 0 rfl) ?_
                refine j_iast SS hG hP (mW_D hD) hS 6 (n := 640) (f := (upI g2 (j).toNat (g2 ((j - 1)).toNat))) rfl (z := (j - 1)) (v := (g2 (j).toNat)) (by omega) (by omega) dX12_order_88 (ws' := (mW D o q (uI (uI u 4 (upI (upI f2 (j).toNat (f2 ((j - 1)).toNat)) ((j - 1)).toNat (f2 (j).toNat))) 5 (upI (upI g2 (j).toNat (g2 ((j - 1)).toNat)) ((j - 1)).toNat (g2 (j).toNat))))) rfl (fun H locs hP hS => ?_)
                refine lv_iinc (v := J (j + (-1))) (lv' := [(2, .int (J (j + (-1)))), (4, .int (J (g2 (j).toNat))), (3, .int (J (f2 (j).toNat))), (0, .ref o), (1, .int (J i))]) SS.1 SS.2.1 dX12_order_89 hl (k := 4) rfl (J_add _ _) (by decide) rfl (fun ls hl => ?_)
                refine lv_goto (tgt := 12) SS.1 SS.2.1 dX12_order_92 (by decide) ?_
                exact ih_12 (j + (-1)) (upI (upI f2 (j).toNat (f2 ((j - 1)).toNat)) ((j - 1)).toNat (f2 (j).toNat)) (upI (upI g2 (j).toNat (g2 ((j - 1)).toNat)) ((j - 1)).toNat (g2 (j).toNat)) _ _ hP hS ls (lv_sub hl [3, 4, 0] rfl) (by omega) (os_swap (by omega) (by omega) i12_1 (by rcases h_21 with h | h; exact h.2; omega)) (fun K h => by have q := i12_2 K h; have q1 := bd_at q (z := j) (by omega) (by omega); have q2 := bd_at q (z := j - 1) (by omega) (by omega); exact bd_up (bd_up q q2.1 q2.2) q1.1 q1.2) (by have q1 := bd_at i12_3 (z := j) (by omega) (by omega); have q2 := bd_at i12_3 (z := j - 1) (by omega) (by omega); exact bd_up (bd_up i12_3 q2.1 q2.2) q1.1 q1.2) (by omega)
        exact L_12 (i.toNat + 1) i f g _ _ hP hS ls (lv_sub hl [1, 2, 0] rfl) (by omega) (os_start i2_1) (i2_2) (i2_2 _ p1) (Nat.lt_succ_self _)
  exact L_2 ((u.2.2 6 - (1 : Int)).toNat + 1) 1 (u.1 4) (u.1 5) _ _ hP hS ls (lv_sub hl [1, 0] rfl) (by omega) (fun a h => absurd h (by omega)) (fun _ h => h) (Nat.lt_succ_self _)
