
set_option maxHeartbeats 4000000 in
set_option maxRecDepth 100000 in
theorem c_X12_isAhead (l : Launch) (D : JD) (x : Int64) (y : Int64) : Met l yX12_isAhead (jw yX12_isAhead cX12_isAhead 6 (some .boolean)) (jr 0 0) (jP [.long x, .long y] D (fun _ => True)) (jRi (fun z => z = 0 ∨ z = 1)) 0 0 (fun _ => False) := by
  refine Met.ofW (cc := cX12_isAhead) (maxL := 6) (ret := (some .boolean)) (by decide) rfl ?_
  intro pr en st mi args below meth co s₁ B hml hv
  obtain ⟨rfl, hG, hP⟩ := hv
  have hr := B.returns
  have hlk := B.notSynchronized
  have SS : jS pr mi co cX12_isAhead 6 st _ RX12 := ⟨B.exec, B.bytes, hml, findClass_of_methodNamed B.named, fun w hw => atoms_spec (ws := (jw yX12_isAhead cX12_isAhead 6 (some .boolean))) B.pre w (List.mem_cons_of_mem _ hw)⟩
  have hl := lv_entry ([.long x, .long y]) (n := 6) (Nat.le_of_ble_eq_true rfl)
  rw [lg_entry_eq]
  generalize (lg_sl ([.long x, .long y]) ++ List.replicate (6 - (lg_sl ([.long x, .long y])).length) Slot.unset).toArray = ls at hl ⊢
  have hl : lv_has ls 6 [(0, .long x), (2, .long y)] := hl
  refine lv_lload_n SS.1 SS.2.1 dX12_isAhead_0 rfl (lv_at hl 0 rfl) ?_
  refine lv_lload_n SS.1 SS.2.1 dX12_isAhead_1 rfl (lv_at hl 1 rfl) ?_
  refine lv_lxor SS.1 SS.2.1 dX12_isAhead_2 ?_
  refine lv_lstore (lv' := [(4, .long (x ^^^ y)), (0, .long x), (2, .long y)]) SS.1 SS.2.1 dX12_isAhead_3 hl (by decide) rfl (fun ls hl => ?_)
  refine lv_lload SS.1 SS.2.1 dX12_isAhead_5 (lv_at hl 0 rfl) ?_
  refine lv_lload SS.1 SS.2.1 dX12_isAhead_7 (lv_at hl 0 rfl) ?_
  refine lv_lneg SS.1 SS.2.1 dX12_isAhead_9 ?_
  refine lv_land SS.1 SS.2.1 dX12_isAhead_10 ?_
  refine lv_lload_n SS.1 SS.2.1 dX12_isAhead_11 rfl (lv_at hl 1 rfl) ?_
  refine lv_land SS.1 SS.2.1 dX12_isAhead_12 ?_
  refine lv_lconst (v := 0) SS.1 SS.2.1 dX12_isAhead_13 (by decide +kernel) ?_
  refine j_lcmp SS dX12_isAhead_14 (fun z_14 hz_14 => ?_)
  refine j_if_eq SS (tgt := 22) (x := z_14) dX12_isAhead_15 (by decide) (by omega) (fun c_15 => ?_) (fun c_15 => ?_)
  · skip
    refine j_iconst SS dX12_isAhead_22 ?_
    exact W.zret SS.1 SS.2.1 hr (j_nz (by decide)) (fun t ht hW => ⟨_, rfl, ⟨0, rfl, (by omega)⟩, ht⟩) (fun _ h => nomatch h) dX12_isAhead_23 hlk
  · skip
    refine j_iconst SS dX12_isAhead_18 ?_
    refine lv_goto (tgt := 23) SS.1 SS.2.1 dX12_isAhead_19 (by decide) ?_
    exact W.zret SS.1 SS.2.1 hr (j_nz (by decide)) (fun t ht hW => ⟨_, rfl, ⟨1, rfl, (by omega)⟩, ht⟩) (fun _ h => nomatch h) dX12_isAhead_23 hlk

set_option maxHeartbeats 4000000 in
set_option maxRecDepth 100000 in
theorem c_X12_bitsIn (l : Launch) (D : JD) (x : Int64) : Met l yX12_bitsIn (jw yX12_bitsIn cX12_bitsIn 4 (some .int)) (jr 0 0) (jP [.long x] D (fun _ => True)) (jRi (fun z => z = smI (bvI x) 40 ∧ 0 ≤ z ∧ z ≤ 40)) 0 0 (fun _ => False) := by
  refine Met.ofW (cc := cX12_bitsIn) (maxL := 4) (ret := (some .int)) (by decide) rfl ?_
  intro pr en st mi args below meth co s₁ B hml hv
  obtain ⟨rfl, hG, hP⟩ := hv
  have hr := B.returns
  have hlk := B.notSynchronized
  have SS : jS pr mi co cX12_bitsIn 4 st _ RX12 := ⟨B.exec, B.bytes, hml, findClass_of_methodNamed B.named, fun w hw => atoms_spec (ws := (jw yX12_bitsIn cX12_bitsIn 4 (some .int))) B.pre w (List.mem_cons_of_mem _ hw)⟩
  have hl := lv_entry ([.long x]) (n := 4) (Nat.le_of_ble_eq_true rfl)
  rw [lg_entry_eq]
  generalize (lg_sl ([.long x]) ++ List.replicate (4 - (lg_sl ([.long x])).length) Slot.unset).toArray = ls at hl ⊢
  have hl : lv_has ls 4 [(0, .long x)] := hl
  refine j_iconst SS dX12_bitsIn_0 ?_
  refine lv_istore_n (lv' := [(2, .int (J 0)), (0, .long x)]) SS.1 SS.2.1 dX12_bitsIn_1 rfl hl (by decide) rfl (fun ls hl => ?_)
  refine j_iconst SS dX12_bitsIn_2 ?_
  refine lv_istore_n (lv' := [(3, .int (J 0)), (2, .int (J 0)), (0, .long x)]) SS.1 SS.2.1 dX12_bitsIn_3 rfl hl (by decide) rfl (fun ls hl => ?_)
  have L_4 : ∀ (nn : Nat) (n : Int) (k : Int) (ls : Array Slot) (hl : lv_has ls 4 [(0, .long x), (2, .int (J n)), (3, .int (J k))]) (i4_0 : 0 ≤ k ∧ k ≤ 40) (i4_1 : n = smI (bvI x) k) (i4_2 : 0 ≤ n ∧ n ≤ k), ((40 : Int) - k).toNat < nn → W pr l en (headSpec (jw yX12_bitsIn cX12_bitsIn 4 (some .int)) (jr 0 0)).room st mi (([.long x] : List Value).toArray) below meth co st.heap [] 0 0 (MQ below (jRi (fun z => z = smI (bvI x) 40 ∧ 0 ≤ z ∧ z ≤ 40)) (([.long x] : List Value).toArray) st 0 0 (fun _ => False)) (F0 mi 4 ls []) := by
    intro nn
    induction nn with
    | zero => intros; omega
    | succ nn ih_4 =>
      intro n k ls hl i4_0 i4_1 i4_2 hm
      refine lv_iload_n SS.1 SS.2.1 dX12_bitsIn_4 rfl (lv_at hl 2 rfl) ?_
      refine j_bipush SS dX12_bitsIn_5 (by decide +kernel) ?_
      refine j_icmp_ge SS (tgt := 25) (x := k) (y := 40) dX12_bitsIn_7 (by decide) (by omega) (by decide) (fun c_7 => ?_) (fun c_7 => ?_)
      · skip
        refine lv_iload_n SS.1 SS.2.1 dX12_bitsIn_25 rfl (lv_at hl 1 rfl) ?_
        exact W.iret SS.1 SS.2.1 hr (fun t ht hW => ⟨_, rfl, ⟨n, rfl, (⟨by rw [i4_1, show k = 40 by omega], by omega, by omega⟩)⟩, ht⟩) (fun _ h => nomatch h) dX12_bitsIn_26 hlk
      · skip
        refine lv_iload_n SS.1 SS.2.1 dX12_bitsIn_10 rfl (lv_at hl 1 rfl) ?_
        refine lv_lload_n SS.1 SS.2.1 dX12_bitsIn_11 rfl (lv_at hl 0 rfl) ?_
        refine lv_iload_n SS.1 SS.2.1 dX12_bitsIn_12 rfl (lv_at hl 2 rfl) ?_
        refine lv_lshr SS.1 SS.2.1 dX12_bitsIn_13 rfl (lv_topl (fun x_13 ex_13 => ?_))
        refine lv_lconst (v := 1) SS.1 SS.2.1 dX12_bitsIn_14 (by decide +kernel) ?_
        refine lv_land SS.1 SS.2.1 dX12_bitsIn_15 ?_
        have hv := bvI_v ex_13
        refine lv_l2i SS.1 SS.2.1 dX12_bitsIn_16 rfl ?_
        rw [J_of (Int64.toInt32 _)]
        have r_16 := J_rng (Int64.toInt32 (x_13 &&& 1))
        refine j_iadd SS (x := n) (y := (Int64.toInt32 (x_13 &&& 1)).toInt) dX12_bitsIn_17 ?_
        refine lv_istore_n (lv' := [(2, .int (J (n + ((Int64.toInt32 (x_13 &&& 1)).toInt)))), (0, .long x), (3, .int (J k))]) SS.1 SS.2.1 dX12_bitsIn_18 rfl hl (by decide) rfl (fun ls hl => ?_)
        refine lv_iinc (v := J (k + 1)) (lv' := [(3, .int (J (k + 1))), (2, .int (J (n + ((Int64.toInt32 (x_13 &&& 1)).toInt)))), (0, .long x)]) SS.1 SS.2.1 dX12_bitsIn_19 hl (k := 2) rfl (J_add _ _) (by decide) rfl (fun ls hl => ?_)
        refine lv_goto (tgt := 4) SS.1 SS.2.1 dX12_bitsIn_22 (by decide) ?_
        exact ih_4 (n + ((Int64.toInt32 (x_13 &&& 1)).toInt)) (k + 1) ls (lv_sub hl [2, 1, 0] rfl) (by omega) (by rw [smI_s i4_0.1, ← i4_1, hv]) (by rw [hv]; have q := bvI_01 (x := x) (k := k); omega) (by omega)
  exact L_4 (((40 : Int) - (0 : Int)).toNat + 1) 0 0 ls (lv_sub hl [2, 1, 0] rfl) (by omega) (smI_0.symm) (by omega) (Nat.lt_succ_self _)

set_option maxHeartbeats 4000000 in
set_option maxRecDepth 100000 in
theorem c_X12_bitAt (l : Launch) (D : JD) (x : Int64) (i : Int) (p0 : -2147483648 ≤ i ∧ i ≤ 2147483647) : Met l yX12_bitAt (jw yX12_bitAt cX12_bitAt 5 (some .int)) (jr 0 0) (jP [.long x, .int (J i)] D (fun _ => True)) (jRi (fun z => (z = -9 ∧ (0 ≤ i → smI (bvI x) 40 ≤ i)) ∨ (0 ≤ z ∧ z < 40))) 0 0 (fun _ => False) := by
  refine Met.ofW (cc := cX12_bitAt) (maxL := 5) (ret := (some .int)) (by decide) rfl ?_
  intro pr en st mi args below meth co s₁ B hml hv
  obtain ⟨rfl, hG, hP⟩ := hv
  have hr := B.returns
  have hlk := B.notSynchronized
  have SS : jS pr mi co cX12_bitAt 5 st _ RX12 := ⟨B.exec, B.bytes, hml, findClass_of_methodNamed B.named, fun w hw => atoms_spec (ws := (jw yX12_bitAt cX12_bitAt 5 (some .int))) B.pre w (List.mem_cons_of_mem _ hw)⟩
  have hl := lv_entry ([.long x, .int (J i)]) (n := 5) (Nat.le_of_ble_eq_true rfl)
  rw [lg_entry_eq]
  generalize (lg_sl ([.long x, .int (J i)]) ++ List.replicate (5 - (lg_sl ([.long x, .int (J i)])).length) Slot.unset).toArray = ls at hl ⊢
  have hl : lv_has ls 5 [(0, .long x), (2, .int (J i))] := hl
  refine j_iconst SS dX12_bitAt_0 ?_
  refine lv_istore_n (lv' := [(3, .int (J 0)), (0, .long x), (2, .int (J i))]) SS.1 SS.2.1 dX12_bitAt_1 rfl hl (by decide) rfl (fun ls hl => ?_)
  refine j_iconst SS dX12_bitAt_2 ?_
  refine lv_istore (lv' := [(4, .int (J 0)), (3, .int (J 0)), (0, .long x), (2, .int (J i))]) SS.1 SS.2.1 dX12_bitAt_3 hl (by decide) rfl (fun ls hl => ?_)
  have L_5 : ∀ (nn : Nat) (n : Int) (k : Int) (ls : Array Slot) (hl : lv_has ls 5 [(0, .long x), (2, .int (J i)), (3, .int (J n)), (4, .int (J k))]) (i5_0 : 0 ≤ k ∧ k ≤ 40) (i5_1 : n = smI (bvI x) k) (i5_2 : 0 ≤ n ∧ n ≤ k) (i5_3 : 0 ≤ i → n ≤ i), ((40 : Int) - k).toNat < nn → W pr l en (headSpec (jw yX12_bitAt cX12_bitAt 5 (some .int)) (jr 0 0)).room st mi (([.long x, .int (J i)] : List Value).toArray) below meth co st.heap [] 0 0 (MQ below (jRi (fun z => (z = -9 ∧ (0 ≤ i → smI (bvI x) 40 ≤ i)) ∨ (0 ≤ z ∧ z < 40))) (([.long x, .int (J i)] : List Value).toArray) st 0 0 (fun _ => False)) (F0 mi 5 ls []) := by
    intro nn
    induction nn with
    | zero => intros; omega
    | succ nn ih_5 =>
      intro n k ls hl i5_0 i5_1 i5_2 i5_3 hm
      refine lv_iload SS.1 SS.2.1 dX12_bitAt_5 (lv_at hl 3 rfl) ?_
      refine j_bipush SS dX12_bitAt_7 (by decide +kernel) ?_
      refine j_icmp_ge SS (tgt := 40) (x := k) (y := 40) dX12_bitAt_9 (by decide) (by omega) (by decide) (fun c_9 => ?_) (fun c_9 => ?_)
      · skip
        refine j_bipush SS dX12_bitAt_40 (by decide +kernel) ?_
        exact W.iret SS.1 SS.2.1 hr (fun t ht hW => ⟨_, rfl, ⟨(-9), rfl, (Or.inl ⟨rfl, fun h => by rw [show k = 40 by omega] at i5_1; rw [← i5_1]; exact i5_3 h⟩)⟩, ht⟩) (fun _ h => nomatch h) dX12_bitAt_42 hlk
      · skip
        refine lv_lload_n SS.1 SS.2.1 dX12_bitAt_12 rfl (lv_at hl 0 rfl) ?_
        refine lv_iload SS.1 SS.2.1 dX12_bitAt_13 (lv_at hl 3 rfl) ?_
        refine lv_lshr SS.1 SS.2.1 dX12_bitAt_15 rfl (lv_topl (fun x_15 ex_15 => ?_))
        refine lv_lconst (v := 1) SS.1 SS.2.1 dX12_bitAt_16 (by decide +kernel) ?_
        refine lv_land SS.1 SS.2.1 dX12_bitAt_17 ?_
        refine lv_lconst (v := 1) SS.1 SS.2.1 dX12_bitAt_18 (by decide +kernel) ?_
        refine j_lcmp SS dX12_bitAt_19 (fun z_19 hz_19 => ?_)
        have hv : bvI x k = if z_19 = 0 then 1 else 0 := by unfold bvI; rw [← ex_15]; by_cases e : x_15 &&& 1 = 1; rw [if_pos e, if_pos (hz_19.2.2.2.mpr e)]; rw [if_neg e, if_neg (fun q => e (hz_19.2.2.2.mp q))]
        refine j_if_ne SS (tgt := 34) (x := z_19) dX12_bitAt_20 (by decide) (by omega) (fun c_20 => ?_) (fun c_20 => ?_)
        · skip
          refine lv_iinc (v := J (k + 1)) (lv' := [(4, .int (J (k + 1))), (0, .long x), (2, .int (J i)), (3, .int (J n))]) SS.1 SS.2.1 dX12_bitAt_34 hl (k := 3) rfl (J_add _ _) (by decide) rfl (fun ls hl => ?_)
          refine lv_goto (tgt := 5) SS.1 SS.2.1 dX12_bitAt_37 (by decide) ?_
          exact ih_5 n (k + 1) ls (lv_sub hl [1, 2, 3, 0] rfl) (by omega) (by rw [smI_s i5_0.1, ← i5_1, hv]; first | (rw [if_pos (by omega)]) | (rw [if_neg (by omega)]; omega)) (by omega) (by omega) (by omega)
        · skip
          refine lv_iload_n SS.1 SS.2.1 dX12_bitAt_23 rfl (lv_at hl 2 rfl) ?_
          refine lv_iload_n SS.1 SS.2.1 dX12_bitAt_24 rfl (lv_at hl 1 rfl) ?_
          refine j_icmp_ne SS (tgt := 31) (x := n) (y := i) dX12_bitAt_25 (by decide) (by omega) (by omega) (fun c_25 => ?_) (fun c_25 => ?_)
          · skip
            refine lv_iinc (v := J (n + 1)) (lv' := [(3, .int (J (n + 1))), (0, .long x), (2, .int (J i)), (4, .int (J k))]) SS.1 SS.2.1 dX12_bitAt_31 hl (k := 2) rfl (J_add _ _) (by decide) rfl (fun ls hl => ?_)
            refine lv_iinc (v := J (k + 1)) (lv' := [(4, .int (J (k + 1))), (3, .int (J (n + 1))), (0, .long x), (2, .int (J i))]) SS.1 SS.2.1 dX12_bitAt_34 hl (k := 3) rfl (J_add _ _) (by decide) rfl (fun ls hl => ?_)
            refine lv_goto (tgt := 5) SS.1 SS.2.1 dX12_bitAt_37 (by decide) ?_
            exact ih_5 (n + 1) (k + 1) ls (lv_sub hl [2, 3, 1, 0] rfl) (by omega) (by rw [smI_s i5_0.1, ← i5_1, hv]; first | (rw [if_pos (by omega)]) | (rw [if_neg (by omega)]; omega)) (by omega) (by omega) (by omega)
          · skip
            refine lv_iload SS.1 SS.2.1 dX12_bitAt_28 (lv_at hl 3 rfl) ?_
            exact W.iret SS.1 SS.2.1 hr (fun t ht hW => ⟨_, rfl, ⟨k, rfl, (Or.inr (by omega))⟩, ht⟩) (fun _ h => nomatch h) dX12_bitAt_30 hlk
  exact L_5 (((40 : Int) - (0 : Int)).toNat + 1) 0 0 ls (lv_sub hl [2, 3, 1, 0] rfl) (by omega) (smI_0.symm) (by omega) (by omega) (Nat.lt_succ_self _)

set_option maxHeartbeats 4000000 in
set_option maxRecDepth 100000 in
theorem c_X12_findPieces (l : Launch) (D : JD) (o : Nat) (q : Nat → Nat) (u : MS) (A : Nat → Prop) (hD : va_D A (mW D o q u)) (s : Int) (p0 : IM u) (p1 : 0 ≤ s ∧ s ≤ 7) (p2 : 2 < mN u s) (p3 : mEd u s + mIn u s ≤ 40) : Met l yX12_findPieces (jw yX12_findPieces cX12_findPieces 9 none) (jr 3 89) (jP [.ref o, .int (J s)] D (fun H => va_P D.1 j_cl (mW D o q u) H)) (jWv (fun u' => ∃ X : Nat → Int, ∃ Y : Nat → Int, ∃ n : Int, ∃ C : Nat → Int64, ∃ m : Int, u' = (uV (uL (uV (uI (uI u 10 X) 11 Y) 12 n) 29 C) 30 m) ∧ ((0 ≤ m ∧ m ≤ 80) ∧ IM u')) (fun u' H => va_P D.1 j_cl (mW D o q u') H) A) 0 0 A := by
  refine Met.ofW (cc := cX12_findPieces) (maxL := 9) (ret := none) (by decide) rfl ?_
  intro pr en st mi args below meth co s₁ B hml hv
  obtain ⟨rfl, hG, hP⟩ := hv
  have hr := B.returns
  have hlk := B.notSynchronized
  have SS : jS pr mi co cX12_findPieces 9 st _ RX12 := ⟨B.exec, B.bytes, hml, findClass_of_methodNamed B.named, fun w hw => atoms_spec (ws := (jw yX12_findPieces cX12_findPieces 9 none)) B.pre w (List.mem_cons_of_mem _ hw)⟩
  have hl := lv_entry ([.ref o, .int (J s)]) (n := 9) (Nat.le_of_ble_eq_true rfl)
  rw [lg_entry_eq]
  generalize (lg_sl ([.ref o, .int (J s)]) ++ List.replicate (9 - (lg_sl ([.ref o, .int (J s)])).length) Slot.unset).toArray = ls at hl ⊢
  have hl : lv_has ls 9 [(0, .ref o), (1, .int (J s))] := hl
  have hS : va_S A st.heap st.heap [] := va_S.rf
  refine lv_aload_n SS.1 SS.2.1 dX12_findPieces_0 rfl (lv_at hl 0 rfl) ?_
  refine lv_iload_n SS.1 SS.2.1 dX12_findPieces_1 rfl (lv_at hl 1 rfl) ?_
  refine j_vWv SS (As := [.int (J s)]) (rest := []) (c_X12_findAll l D o q u A (mW_D hD) s (show 0 ≤ s ∧ s ≤ 7 from (by omega)) (show Sh u s from (p0.1 _ (by omega) (by omega)))) mf_X12_findAll kw_1266 hG hP hP (ci := 8) (q0 := 0) rfl rfl rfl hS (fun _ h => h) rfl hl.1 ⟨⟨Nat.le_of_ble_eq_true rfl, Nat.le_of_ble_eq_true rfl⟩, Nat.le_of_ble_eq_true rfl, Nat.le_refl _, Nat.le_refl _⟩ rfl dX12_findPieces_2 (fun u2 H locs h_2 hP _ hS => ?_)
  obtain ⟨X_2, Y_2, n_2, lo_2, hi_2, rfl, h_2⟩ := h_2
  have hP : va_P D.1 j_cl (mW D o q (uV (uI (uI u 10 X_2) 11 Y_2) 12 n_2)) H := hP
  have h_2 : 0 ≤ n_2 ∧ n_2 ≤ 6561 ∧ bd 40 X_2 Y_2 n_2 ∧ os_s X_2 Y_2 n_2 ∧ (bd 40 ((u.1 10)) ((u.1 11)) 6561 → bd 40 X_2 Y_2 6561) ∧ (0 < mN u s → (∀ k : Int, 0 ≤ k → k < mN u s → lo_2 ≤ mX u s k ∧ mX u s k ≤ hi_2) ∧ (∃ k : Int, 0 ≤ k ∧ k < mN u s ∧ mX u s k = lo_2) ∧ ∃ k : Int, 0 ≤ k ∧ k < mN u s ∧ mX u s k = hi_2) ∧ ∀ L U : Int → Int, LU u s lo_2 hi_2 L U → n_2 ≤ cb_ L U lo_2 (hi_2 + 1 - lo_2) ∨ hi_2 < lo_2 ∧ n_2 = 0 := h_2
  have hq := h_2.2.2.2.2.2
  have hn40 : n_2 ≤ 40 := Int.le_trans (fa_pick (p0.1 s (by omega) (by omega)) p2 (hq.1 (by omega)) hq.2) p3
  have hn0 := h_2.1
  have hos := h_2.2.2.2.1
  have hIM : bd 40 X_2 Y_2 6561 := h_2.2.2.2.2.1 p0.2.2
  refine lv_aload_n SS.1 SS.2.1 dX12_findPieces_5 rfl (lv_at hl 0 rfl) ?_
  refine j_iconst SS dX12_findPieces_6 ?_
  refine j_put SS hG hP (mW_D hD) hS 0 (v := .int (J 0)) (ty := .int) (C := RX12) (T := TX12) (N := 31) rfl rfl inX12 tyX12 tyX12_ok nmX12 30 (by decide) (ref := RX12) kw_1088 rfl rfl (by decide +kernel) rfl rfl (Nat.le_of_ble_eq_true rfl) dX12_findPieces_7 (ws' := (mW D o q (uV (uV (uI (uI u 10 X_2) 11 Y_2) 12 n_2) 30 0))) rfl (fun H locs hP hS => ?_)
  refine j_iconst SS dX12_findPieces_10 ?_
  refine lv_istore_n (lv' := [(2, .int (J 0)), (0, .ref o), (1, .int (J s))]) SS.1 SS.2.1 dX12_findPieces_11 rfl hl (by decide) rfl (fun ls hl => ?_)
  have L_12 : ∀ (nn : Nat) (i : Int) (B1 : Nat → Int64) (m1 : Int) (H : Heap) (locs : List Loc) (hP : va_P D.1 j_cl (mW D o q (uV (uL (uV (uI (uI u 10 X_2) 11 Y_2) 12 n_2) 29 B1) 30 m1)) H) (hS : va_S A st.heap H locs) (ls : Array Slot) (hl : lv_has ls 9 [(0, .ref o), (1, .int (J s)), (2, .int (J i))]) (i12_0 : 0 ≤ i ∧ i ≤ n_2) (i12_1 : pz X_2 Y_2 (u.1 3) s n_2 B1 m1), (n_2 - i).toNat < nn → W pr l en (headSpec (jw yX12_findPieces cX12_findPieces 9 none) (jr 3 89)).room st mi (([.ref o, .int (J s)] : List Value).toArray) below meth co H locs 0 0 (MQ below (jWv (fun u' => ∃ X : Nat → Int, ∃ Y : Nat → Int, ∃ n : Int, ∃ C : Nat → Int64, ∃ m : Int, u' = (uV (uL (uV (uI (uI u 10 X) 11 Y) 12 n) 29 C) 30 m) ∧ ((0 ≤ m ∧ m ≤ 80) ∧ IM u')) (fun u' H => va_P D.1 j_cl (mW D o q u') H) A) (([.ref o, .int (J s)] : List Value).toArray) st 0 0 A) (F0 mi 12 ls []) := by
    intro nn
    induction nn with
    | zero => intros; omega
    | succ nn ih_12 =>
      intro i B1 m1 H locs hP hS ls hl i12_0 i12_1 hm
      refine lv_iload_n SS.1 SS.2.1 dX12_findPieces_12 rfl (lv_at hl 2 rfl) ?_
      refine lv_aload_n SS.1 SS.2.1 dX12_findPieces_13 rfl (lv_at hl 0 rfl) ?_
      refine j_get SS hG hP 0 (v := .int (J n_2)) (C := RX12) (T := TX12) (N := 31) rfl rfl inX12 12 (by decide) (ref := RX12) kw_1070 rfl rfl dX12_findPieces_14 ?_
      refine j_icmp_ge SS (tgt := 221) (x := i) (y := n_2) dX12_findPieces_17 (by decide) (by omega) (by omega) (fun c_17 => ?_) (fun c_17 => ?_)
      · skip
        exact W.vret SS.1 SS.2.1 hr (fun t ht hW => ⟨⟨(uV (uL (uV (uI (uI u 10 X_2) 11 Y_2) 12 n_2) 29 B1) 30 m1), rfl, (⟨X_2, Y_2, n_2, B1, m1, rfl, ⟨⟨i12_1.1, pz_80 hn40 hos i12_1⟩, p0.1, p0.2.1, hIM⟩⟩), by show va_P D.1 j_cl (mW D o q (uV (uL (uV (uI (uI u 10 X_2) 11 Y_2) 12 n_2) 29 B1) 30 m1)) t.heap; rw [ht]; exact hP⟩, hS.F ht⟩) hS.2.2 dX12_findPieces_221 hlk
      · skip
        refine lv_iload_n SS.1 SS.2.1 dX12_findPieces_20 rfl (lv_at hl 2 rfl) ?_
        refine j_iconst SS dX12_findPieces_21 ?_
        refine j_iadd SS (x := i) (y := 1) dX12_findPieces_22 ?_
        refine lv_istore_n (lv' := [(3, .int (J (i + 1))), (0, .ref o), (1, .int (J s)), (2, .int (J i))]) SS.1 SS.2.1 dX12_findPieces_23 rfl hl (by decide) rfl (fun ls hl => ?_)
        have L_24 : ∀ (nn : Nat) (j : Int) (B2 : Nat → Int64) (m2 : Int) (H : Heap) (locs : List Loc) (hP : va_P D.1 j_cl (mW D o q (uV (uL (uV (uI (uI u 10 X_2) 11 Y_2) 12 n_2) 29 B2) 30 m2)) H) (hS : va_S A st.heap H locs) (ls : Array Slot) (hl : lv_has ls 9 [(0, .ref o), (1, .int (J s)), (2, .int (J i)), (3, .int (J j))]) (i24_0 : i + 1 ≤ j ∧ j ≤ n_2) (i24_1 : pz X_2 Y_2 (u.1 3) s n_2 B2 m2), (n_2 - j).toNat < nn → W pr l en (headSpec (jw yX12_findPieces cX12_findPieces 9 none) (jr 3 89)).room st mi (([.ref o, .int (J s)] : List Value).toArray) below meth co H locs 0 0 (MQ below (jWv (fun u' => ∃ X : Nat → Int, ∃ Y : Nat → Int, ∃ n : Int, ∃ C : Nat → Int64, ∃ m : Int, u' = (uV (uL (uV (uI (uI u 10 X) 11 Y) 12 n) 29 C) 30 m) ∧ ((0 ≤ m ∧ m ≤ 80) ∧ IM u')) (fun u' H => va_P D.1 j_cl (mW D o q u') H) A) (([.ref o, .int (J s)] : List Value).toArray) st 0 0 A) (F0 mi 24 ls []) := by
          intro nn
          induction nn with
          | zero => intros; omega
          | succ nn ih_24 =>
            intro j B2 m2 H locs hP hS ls hl i24_0 i24_1 hm
            refine lv_iload_n SS.1 SS.2.1 dX12_findPieces_24 rfl (lv_at hl 3 rfl) ?_
            refine lv_aload_n SS.1 SS.2.1 dX12_findPieces_25 rfl (lv_at hl 0 rfl) ?_
            refine j_get SS hG hP 0 (v := .int (J n_2)) (C := RX12) (T := TX12) (N := 31) rfl rfl inX12 12 (by decide) (ref := RX12) kw_1070 rfl rfl dX12_findPieces_26 ?_
            refine j_icmp_ge SS (tgt := 215) (x := j) (y := n_2) dX12_findPieces_29 (by decide) (by omega) (by omega) (fun c_29 => ?_) (fun c_29 => ?_)
            · skip
              refine lv_iinc (v := J (i + 1)) (lv' := [(2, .int (J (i + 1))), (0, .ref o), (1, .int (J s)), (3, .int (J j))]) SS.1 SS.2.1 dX12_findPieces_215 hl (k := 2) rfl (J_add _ _) (by decide) rfl (fun ls hl => ?_)
              refine lv_goto (tgt := 12) SS.1 SS.2.1 dX12_findPieces_218 (by decide) ?_
              exact ih_12 (i + 1) B2 m2 _ _ hP hS ls (lv_sub hl [1, 2, 0] rfl) (by omega) (i24_1) (by omega)
            · skip
              refine lv_iload_n SS.1 SS.2.1 dX12_findPieces_32 rfl (lv_at hl 3 rfl) ?_
              refine j_iconst SS dX12_findPieces_33 ?_
              refine j_iadd SS (x := j) (y := 1) dX12_findPieces_34 ?_
              refine lv_istore (lv' := [(4, .int (J (j + 1))), (0, .ref o), (1, .int (J s)), (2, .int (J i)), (3, .int (J j))]) SS.1 SS.2.1 dX12_findPieces_35 hl (by decide) rfl (fun ls hl => ?_)
              have L_37 : ∀ (nn : Nat) (k : Int) (B3 : Nat → Int64) (m3 : Int) (H : Heap) (locs : List Loc) (hP : va_P D.1 j_cl (mW D o q (uV (uL (uV (uI (uI u 10 X_2) 11 Y_2) 12 n_2) 29 B3) 30 m3)) H) (hS : va_S A st.heap H locs) (ls : Array Slot) (hl : lv_has ls 9 [(0, .ref o), (1, .int (J s)), (2, .int (J i)), (3, .int (J j)), (4, .int (J k))]) (i37_0 : j + 1 ≤ k ∧ k ≤ n_2) (i37_1 : pz X_2 Y_2 (u.1 3) s n_2 B3 m3), (n_2 - k).toNat < nn → W pr l en (headSpec (jw yX12_findPieces cX12_findPieces 9 none) (jr 3 89)).room st mi (([.ref o, .int (J s)] : List Value).toArray) below meth co H locs 0 0 (MQ below (jWv (fun u' => ∃ X : Nat → Int, ∃ Y : Nat → Int, ∃ n : Int, ∃ C : Nat → Int64, ∃ m : Int, u' = (uV (uL (uV (uI (uI u 10 X) 11 Y) 12 n) 29 C) 30 m) ∧ ((0 ≤ m ∧ m ≤ 80) ∧ IM u')) (fun u' H => va_P D.1 j_cl (mW D o q u') H) A) (([.ref o, .int (J s)] : List Value).toArray) st 0 0 A) (F0 mi 37 ls []) := by
                intro nn
                induction nn with
                | zero => intros; omega
                | succ nn ih_37 =>
                  intro k B3 m3 H locs hP hS ls hl i37_0 i37_1 hm
                  have hm80 := pz_80 hn40 hos i37_1
                  have hm0 := i37_1.1
                  refine lv_iload SS.1 SS.2.1 dX12_findPieces_37 (lv_at hl 4 rfl) ?_
                  refine lv_aload_n SS.1 SS.2.1 dX12_findPieces_39 rfl (lv_at hl 0 rfl) ?_
                  refine j_get SS hG hP 0 (v := .int (J n_2)) (C := RX12) (T := TX12) (N := 31) rfl rfl inX12 12 (by decide) (ref := RX12) kw_1070 rfl rfl dX12_findPieces_40 ?_
                  refine j_icmp_ge SS (tgt := 209) (x := k) (y := n_2) dX12_findPieces_43 (by decide) (by omega) (by omega) (fun c_43 => ?_) (fun c_43 => ?_)
                  · skip
                    refine lv_iinc (v := J (j + 1)) (lv' := [(3, .int (J (j + 1))), (0, .ref o), (1, .int (J s)), (2, .int (J i)), (4, .int (J k))]) SS.1 SS.2.1 dX12_findPieces_209 hl (k := 3) rfl (J_add _ _) (by decide) rfl (fun ls hl => ?_)
                    refine lv_goto (tgt := 24) SS.1 SS.2.1 dX12_findPieces_212 (by decide) ?_
                    exact ih_24 (j + 1) B3 m3 _ _ hP hS ls (lv_sub hl [1, 2, 3, 0] rfl) (by omega) (i37_1) (by omega)
                  · skip
                    refine lv_aload_n SS.1 SS.2.1 dX12_findPieces_46 rfl (lv_at hl 0 rfl) ?_
                    refine lv_iload_n SS.1 SS.2.1 dX12_findPieces_47 rfl (lv_at hl 2 rfl) ?_
                    refine lv_iload_n SS.1 SS.2.1 dX12_findPieces_48 rfl (lv_at hl 3 rfl) ?_
                    refine lv_iload SS.1 SS.2.1 dX12_findPieces_49 (lv_at hl 4 rfl) ?_
                    refine j_vRi SS (As := [.int (J i), .int (J j), .int (J k)]) (rest := []) (c_X12_turn l D o q (uV (uL (uV (uI (uI u 10 X_2) 11 Y_2) 12 n_2) 29 B3) 30 m3) i j k (show 0 ≤ i ∧ i < 6561 from (by omega)) (show 0 ≤ j ∧ j < 6561 from (by omega)) (show 0 ≤ k ∧ k < 6561 from (by omega)) (show bd 40 (X_2) (Y_2) 6561 from (hIM))) mf_X12_turn kw_1427 hG hP hP (ci := 8) (q0 := 0) rfl rfl rfl rfl hl.1 ⟨⟨Nat.le_of_ble_eq_true rfl, Nat.le_of_ble_eq_true rfl⟩, Nat.le_of_ble_eq_true rfl, Nat.le_refl _, Nat.le_refl _⟩ rfl dX12_findPieces_51 (fun z_51 h_51 => ?_)
                    have h_51 : z_51 = tn (X_2) (Y_2) i.toNat j.toNat k.toNat ∧ -12800 ≤ z_51 ∧ z_51 ≤ 12800 := h_51
                    have L_72 : ∀ (b : Int64) (H : Heap) (locs : List Loc) (hP : va_P D.1 j_cl (mW D o q (uV (uL (uV (uI (uI u 10 X_2) 11 Y_2) 12 n_2) 29 B3) 30 m3)) H) (hS : va_S A st.heap H locs) (ls : Array Slot) (hl : lv_has ls 9 [(0, .ref o), (1, .int (J s)), (2, .int (J i)), (3, .int (J j)), (4, .int (J k)), (5, .long b)]) (i72_0 : b = 0 ∨ gd X_2 Y_2 (u.1 3) s n_2 b), W pr l en (headSpec (jw yX12_findPieces cX12_findPieces 9 none) (jr 3 89)).room st mi (([.ref o, .int (J s)] : List Value).toArray) below meth co H locs 0 0 (MQ below (jWv (fun u' => ∃ X : Nat → Int, ∃ Y : Nat → Int, ∃ n : Int, ∃ C : Nat → Int64, ∃ m : Int, u' = (uV (uL (uV (uI (uI u 10 X) 11 Y) 12 n) 29 C) 30 m) ∧ ((0 ≤ m ∧ m ≤ 80) ∧ IM u')) (fun u' H => va_P D.1 j_cl (mW D o q u') H) A) (([.ref o, .int (J s)] : List Value).toArray) st 0 0 A) (F0 mi 72 ls []) := by
                      intro b  H locs hP hS ls hl i72_0
                      refine lv_lload SS.1 SS.2.1 dX12_findPieces_72 (lv_at hl 5 rfl) ?_
                      refine lv_lconst (v := 0) SS.1 SS.2.1 dX12_findPieces_74 (by decide +kernel) ?_
                      refine j_lcmp SS dX12_findPieces_75 (fun z_75 hz_75 => ?_)
                      have L_89 : ∀ (nn : Nat) (t : Int) (p : Int) (H : Heap) (locs : List Loc) (hP : va_P D.1 j_cl (mW D o q (uV (uL (uV (uI (uI u 10 X_2) 11 Y_2) 12 n_2) 29 B3) 30 m3)) H) (hS : va_S A st.heap H locs) (ls : Array Slot) (hl : lv_has ls 9 [(0, .ref o), (1, .int (J s)), (2, .int (J i)), (3, .int (J j)), (4, .int (J k)), (5, .long b), (7, .int (J t)), (8, .int (J p))]) (i89_0 : 0 ≤ p ∧ p ≤ m3) (i89_1 : t = 0 ∨ t = 1) (i89_2 : t = 0 → b ≠ 0 ∧ ∀ q : Nat, (q : Int) < p → B3 q ≠ b), (m3 - p).toNat < nn → W pr l en (headSpec (jw yX12_findPieces cX12_findPieces 9 none) (jr 3 89)).room st mi (([.ref o, .int (J s)] : List Value).toArray) below meth co H locs 0 0 (MQ below (jWv (fun u' => ∃ X : Nat → Int, ∃ Y : Nat → Int, ∃ n : Int, ∃ C : Nat → Int64, ∃ m : Int, u' = (uV (uL (uV (uI (uI u 10 X) 11 Y) 12 n) 29 C) 30 m) ∧ ((0 ≤ m ∧ m ≤ 80) ∧ IM u')) (fun u' H => va_P D.1 j_cl (mW D o q u') H) A) (([.ref o, .int (J s)] : List Value).toArray) st 0 0 A) (F0 mi 89 ls []) := by
                        intro nn
                        induction nn with
                        | zero => intros; omega
                        | succ nn ih_89 =>
                          intro t p  H locs hP hS ls hl i89_0 i89_1 i89_2 hm
                          refine lv_iload SS.1 SS.2.1 dX12_findPieces_89 (lv_at hl 7 rfl) ?_
                          refine lv_aload_n SS.1 SS.2.1 dX12_findPieces_91 rfl (lv_at hl 0 rfl) ?_
                          refine j_get SS hG hP 0 (v := .int (J m3)) (C := RX12) (T := TX12) (N := 31) rfl rfl inX12 30 (by decide) (ref := RX12) kw_1088 rfl rfl dX12_findPieces_92 ?_
                          refine j_icmp_ge SS (tgt := 129) (x := p) (y := m3) dX12_findPieces_95 (by decide) (by omega) (by omega) (fun c_95 => ?_) (fun c_95 => ?_)
                          · skip
                            refine lv_iload SS.1 SS.2.1 dX12_findPieces_129 (lv_at hl 6 rfl) ?_
                            refine j_if_ne SS (tgt := 203) (x := t) dX12_findPieces_131 (by decide) (by omega) (fun c_131 => ?_) (fun c_131 => ?_)
                            · skip
                              refine lv_iinc (v := J (k + 1)) (lv' := [(4, .int (J (k + 1))), (0, .ref o), (1, .int (J s)), (2, .int (J i)), (3, .int (J j)), (5, .long b), (7, .int (J t)), (8, .int (J p))]) SS.1 SS.2.1 dX12_findPieces_203 hl (k := 4) rfl (J_add _ _) (by decide) rfl (fun ls hl => ?_)
                              refine lv_goto (tgt := 37) SS.1 SS.2.1 dX12_findPieces_206 (by decide) ?_
                              exact ih_37 (k + 1) B3 m3 _ _ hP hS ls (lv_sub hl [1, 2, 3, 4, 0] rfl) (by omega) (by first | exact i37_1 | exact pz_s i37_1 i140_1 i140_0.1 i140_0.2 hgd (fun q hq => (i89_2 (by omega)).2 q (by omega))) (by omega)
                            · skip
                              have hgd : gd X_2 Y_2 (u.1 3) s n_2 b := by rcases i72_0 with q | q; exact absurd q (i89_2 (by omega)).1; exact q
                              refine lv_aload_n SS.1 SS.2.1 dX12_findPieces_134 rfl (lv_at hl 0 rfl) ?_
                              refine j_get SS hG hP 0 (v := .int (J m3)) (C := RX12) (T := TX12) (N := 31) rfl rfl inX12 30 (by decide) (ref := RX12) kw_1088 rfl rfl dX12_findPieces_135 ?_
                              refine lv_istore (lv' := [(8, .int (J m3)), (0, .ref o), (1, .int (J s)), (2, .int (J i)), (3, .int (J j)), (4, .int (J k)), (5, .long b), (7, .int (J t))]) SS.1 SS.2.1 dX12_findPieces_138 hl (by decide) rfl (fun ls hl => ?_)
                              have L_140 : ∀ (nn : Nat) (a : Int) (B4 : Nat → Int64) (H : Heap) (locs : List Loc) (hP : va_P D.1 j_cl (mW D o q (uV (uL (uV (uI (uI u 10 X_2) 11 Y_2) 12 n_2) 29 B4) 30 m3)) H) (hS : va_S A st.heap H locs) (ls : Array Slot) (hl : lv_has ls 9 [(0, .ref o), (1, .int (J s)), (2, .int (J i)), (3, .int (J j)), (4, .int (J k)), (5, .long b), (8, .int (J a))]) (i140_0 : 0 ≤ a ∧ a ≤ m3) (i140_1 : sh_ B3 B4 m3 a), a.toNat < nn → W pr l en (headSpec (jw yX12_findPieces cX12_findPieces 9 none) (jr 3 89)).room st mi (([.ref o, .int (J s)] : List Value).toArray) below meth co H locs 0 0 (MQ below (jWv (fun u' => ∃ X : Nat → Int, ∃ Y : Nat → Int, ∃ n : Int, ∃ C : Nat → Int64, ∃ m : Int, u' = (uV (uL (uV (uI (uI u 10 X) 11 Y) 12 n) 29 C) 30 m) ∧ ((0 ≤ m ∧ m ≤ 80) ∧ IM u')) (fun u' H => va_P D.1 j_cl (mW D o q u') H) A) (([.ref o, .int (J s)] : List Value).toArray) st 0 0 A) (F0 mi 140 ls []) := by
                                intro nn
                                induction nn with
                                | zero => intros; omega
                                | succ nn ih_140 =>
                                  intro a B4 H locs hP hS ls hl i140_0 i140_1 hm
                                  refine lv_iload SS.1 SS.2.1 dX12_findPieces_140 (lv_at hl 6 rfl) ?_
                                  refine j_if_le SS (tgt := 184) (x := a) dX12_findPieces_142 (by decide) (by omega) (fun c_142 => ?_) (fun c_142 => ?_)
                                  · skip
                                    refine lv_aload_n SS.1 SS.2.1 dX12_findPieces_184 rfl (lv_at hl 0 rfl) ?_
                                    refine j_get SS hG hP 0 (v := .ref (q 29)) (C := RX12) (T := TX12) (N := 31) rfl rfl inX12 29 (by decide) (ref := RX12) kw_1087 rfl rfl dX12_findPieces_185 ?_
                                    refine lv_iload SS.1 SS.2.1 dX12_findPieces_188 (lv_at hl 6 rfl) ?_
                                    refine lv_lload SS.1 SS.2.1 dX12_findPieces_190 (lv_at hl 5 rfl) ?_
                                    refine j_last SS hG hP (mW_D hD) hS 23 (n := 100) (f := B4) rfl (z := a) (v := b) (by omega) (by omega) dX12_findPieces_192 (ws' := (mW D o q (uV (uL (uV (uI (uI u 10 X_2) 11 Y_2) 12 n_2) 29 (vp_updL B4 (a).toNat b)) 30 m3))) rfl (fun H locs hP hS => ?_)
                                    refine lv_aload_n SS.1 SS.2.1 dX12_findPieces_193 rfl (lv_at hl 0 rfl) ?_
                                    refine lv_dup SS.1 SS.2.1 dX12_findPieces_194 rfl ?_
                                    refine j_get SS hG hP 0 (v := .int (J m3)) (C := RX12) (T := TX12) (N := 31) rfl rfl inX12 30 (by decide) (ref := RX12) kw_1088 rfl rfl dX12_findPieces_195 ?_
                                    refine j_iconst SS dX12_findPieces_198 ?_
                                    refine j_iadd SS (x := m3) (y := 1) dX12_findPieces_199 ?_
                                    refine j_put SS hG hP (mW_D hD) hS 0 (v := .int (J (m3 + 1))) (ty := .int) (C := RX12) (T := TX12) (N := 31) rfl rfl inX12 tyX12 tyX12_ok nmX12 30 (by decide) (ref := RX12) kw_1088 rfl rfl (by decide +kernel) rfl rfl (Nat.le_of_ble_eq_true rfl) dX12_findPieces_200 (ws' := (mW D o q (uV (uL (uV (uI (uI u 10 X_2) 11 Y_2) 12 n_2) 29 (vp_updL B4 (a).toNat b)) 30 (m3 + 1)))) rfl (fun H locs hP hS => ?_)
                                    refine lv_iinc (v := J (k + 1)) (lv' := [(4, .int (J (k + 1))), (0, .ref o), (1, .int (J s)), (2, .int (J i)), (3, .int (J j)), (5, .long b), (8, .int (J a))]) SS.1 SS.2.1 dX12_findPieces_203 hl (k := 4) rfl (J_add _ _) (by decide) rfl (fun ls hl => ?_)
                                    refine lv_goto (tgt := 37) SS.1 SS.2.1 dX12_findPieces_206 (by decide) ?_
                                    exact ih_37 (k + 1) (vp_updL B4 (a).toNat b) (m3 + 1) _ _ hP hS ls (lv_sub hl [1, 2, 3, 4, 0] rfl) (by omega) (by first | exact i37_1 | exact pz_s i37_1 i140_1 i140_0.1 i140_0.2 hgd (fun q hq => (i89_2 (by omega)).2 q (by omega))) (by omega)
                                  · skip
                                    refine lv_lload SS.1 SS.2.1 dX12_findPieces_145 (lv_at hl 5 rfl) ?_
                                    refine lv_aload_n SS.1 SS.2.1 dX12_findPieces_147 rfl (lv_at hl 0 rfl) ?_
                                    refine j_get SS hG hP 0 (v := .ref (q 29)) (C := RX12) (T := TX12) (N := 31) rfl rfl inX12 29 (by decide) (ref := RX12) kw_1087 rfl rfl dX12_findPieces_148 ?_
                                    refine lv_iload SS.1 SS.2.1 dX12_findPieces_151 (lv_at hl 6 rfl) ?_
                                    refine j_iconst SS dX12_findPieces_153 ?_
                                    refine j_isub SS (x := a) (y := 1) dX12_findPieces_154 ?_
                                    refine j_lald SS hG hP 23 (n := 100) (f := B4) rfl (z := (a - 1)) (by omega) (by omega) dX12_findPieces_155 ?_
                                    refine j_sRi SS (As := [.long b, .long (B4 ((a - 1)).toNat)]) (rest := []) (c_X12_isAhead l D b (B4 ((a - 1)).toNat) ) mf_X12_isAhead kw_1487 hG trivial rfl hl.1 ⟨⟨Nat.le_of_ble_eq_true rfl, Nat.le_of_ble_eq_true rfl⟩, Nat.le_of_ble_eq_true rfl, Nat.le_refl _, Nat.le_refl _⟩ rfl dX12_findPieces_156 (fun z_156 h_156 => ?_)
                                    have h_156 : z_156 = 0 ∨ z_156 = 1 := h_156
                                    refine j_if_eq SS (tgt := 184) (x := z_156) dX12_findPieces_159 (by decide) (by omega) (fun c_159 => ?_) (fun c_159 => ?_)
                                    · skip
                                      refine lv_aload_n SS.1 SS.2.1 dX12_findPieces_184 rfl (lv_at hl 0 rfl) ?_
                                      refine j_get SS hG hP 0 (v := .ref (q 29)) (C := RX12) (T := TX12) (N := 31) rfl rfl inX12 29 (by decide) (ref := RX12) kw_1087 rfl rfl dX12_findPieces_185 ?_
                                      refine lv_iload SS.1 SS.2.1 dX12_findPieces_188 (lv_at hl 6 rfl) ?_
                                      refine lv_lload SS.1 SS.2.1 dX12_findPieces_190 (lv_at hl 5 rfl) ?_
                                      refine j_last SS hG hP (mW_D hD) hS 23 (n := 100) (f := B4) rfl (z := a) (v := b) (by omega) (by omega) dX12_findPieces_192 (ws' := (mW D o q (uV (uL (uV (uI (uI u 10 X_2) 11 Y_2) 12 n_2) 29 (vp_updL B4 (a).toNat b)) 30 m3))) rfl (fun H locs hP hS => ?_)
                                      refine lv_aload_n SS.1 SS.2.1 dX12_findPieces_193 rfl (lv_at hl 0 rfl) ?_
                                      refine lv_dup SS.1 SS.2.1 dX12_findPieces_194 rfl ?_
                                      refine j_get SS hG hP 0 (v := .int (J m3)) (C := RX12) (T := TX12) (N := 31) rfl rfl inX12 30 (by decide) (ref := RX12) kw_1088 rfl rfl dX12_findPieces_195 ?_
                                      refine j_iconst SS dX12_findPieces_198 ?_
                                      refine j_iadd SS (x := m3) (y := 1) dX12_findPieces_199 ?_
                                      refine j_put SS hG hP (mW_D hD) hS 0 (v := .int (J (m3 + 1))) (ty := .int) (C := RX12) (T := TX12) (N := 31) rfl rfl inX12 tyX12 tyX12_ok nmX12 30 (by decide) (ref := RX12) kw_1088 rfl rfl (by decide +kernel) rfl rfl (Nat.le_of_ble_eq_true rfl) dX12_findPieces_200 (ws' := (mW D o q (uV (uL (uV (uI (uI u 10 X_2) 11 Y_2) 12 n_2) 29 (vp_updL B4 (a).toNat b)) 30 (m3 + 1)))) rfl (fun H locs hP hS => ?_)
                                      refine lv_iinc (v := J (k + 1)) (lv' := [(4, .int (J (k + 1))), (0, .ref o), (1, .int (J s)), (2, .int (J i)), (3, .int (J j)), (5, .long b), (8, .int (J a))]) SS.1 SS.2.1 dX12_findPieces_203 hl (k := 4) rfl (J_add _ _) (by decide) rfl (fun ls hl => ?_)
                                      refine lv_goto (tgt := 37) SS.1 SS.2.1 dX12_findPieces_206 (by decide) ?_
                                      exact ih_37 (k + 1) (vp_updL B4 (a).toNat b) (m3 + 1) _ _ hP hS ls (lv_sub hl [1, 2, 3, 4, 0] rfl) (by omega) (by first | exact i37_1 | exact pz_s i37_1 i140_1 i140_0.1 i140_0.2 hgd (fun q hq => (i89_2 (by omega)).2 q (by omega))) (by omega)
                                    · skip
                                      refine lv_aload_n SS.1 SS.2.1 dX12_findPieces_162 rfl (lv_at hl 0 rfl) ?_
                                      refine j_get SS hG hP 0 (v := .ref (q 29)) (C := RX12) (T := TX12) (N := 31) rfl rfl inX12 29 (by decide) (ref := RX12) kw_1087 rfl rfl dX12_findPieces_163 ?_
                                      refine lv_iload SS.1 SS.2.1 dX12_findPieces_166 (lv_at hl 6 rfl) ?_
                                      refine lv_aload_n SS.1 SS.2.1 dX12_findPieces_168 rfl (lv_at hl 0 rfl) ?_
                                      refine j_get SS hG hP 0 (v := .ref (q 29)) (C := RX12) (T := TX12) (N := 31) rfl rfl inX12 29 (by decide) (ref := RX12) kw_1087 rfl rfl dX12_findPieces_169 ?_
                                      refine lv_iload SS.1 SS.2.1 dX12_findPieces_172 (lv_at hl 6 rfl) ?_
                                      refine j_iconst SS dX12_findPieces_174 ?_
                                      refine j_isub SS (x := a) (y := 1) dX12_findPieces_175 ?_
                                      refine j_lald SS hG hP 23 (n := 100) (f := B4) rfl (z := (a - 1)) (by omega) (by omega) dX12_findPieces_176 ?_
                                      refine j_last SS hG hP (mW_D hD) hS 23 (n := 100) (f := B4) rfl (z := a) (v := (B4 ((a - 1)).toNat)) (by omega) (by omega) dX12_findPieces_177 (ws' := (mW D o q (uV (uL (uV (uI (uI u 10 X_2) 11 Y_2) 12 n_2) 29 (vp_updL B4 (a).toNat (B4 ((a - 1)).toNat))) 30 m3))) rfl (fun H locs hP hS => ?_)
                                      refine lv_iinc (v := J (a + (-1))) (lv' := [(8, .int (J (a + (-1)))), (0, .ref o), (1, .int (J s)), (2, .int (J i)), (3, .int (J j)), (4, .int (J k)), (5, .long b)]) SS.1 SS.2.1 dX12_findPieces_178 hl (k := 6) rfl (J_add _ _) (by decide) rfl (fun ls hl => ?_)
                                      refine lv_goto (tgt := 140) SS.1 SS.2.1 dX12_findPieces_181 (by decide) ?_
                                      exact ih_140 (a + (-1)) (vp_updL B4 (a).toNat (B4 ((a - 1)).toNat)) _ _ hP hS ls (lv_sub hl [1, 2, 3, 4, 5, 6, 0] rfl) (by omega) (sh_s (by omega) (by omega) i140_1) (by omega)
                              exact L_140 (m3.toNat + 1) m3 B3 _ _ hP hS ls (lv_sub hl [1, 2, 3, 4, 5, 6, 0] rfl) (by omega) (sh_0) (Nat.lt_succ_self _)
                          · skip
                            refine lv_iload SS.1 SS.2.1 dX12_findPieces_98 (lv_at hl 6 rfl) ?_
                            refine j_if_ne SS (tgt := 129) (x := t) dX12_findPieces_100 (by decide) (by omega) (fun c_100 => ?_) (fun c_100 => ?_)
                            · skip
                              refine lv_iload SS.1 SS.2.1 dX12_findPieces_129 (lv_at hl 6 rfl) ?_
                              refine j_if_ne SS (tgt := 203) (x := t) dX12_findPieces_131 (by decide) (by omega) (fun c_131 => ?_) (fun c_131 => ?_)
                              · skip
                                refine lv_iinc (v := J (k + 1)) (lv' := [(4, .int (J (k + 1))), (0, .ref o), (1, .int (J s)), (2, .int (J i)), (3, .int (J j)), (5, .long b), (7, .int (J t)), (8, .int (J p))]) SS.1 SS.2.1 dX12_findPieces_203 hl (k := 4) rfl (J_add _ _) (by decide) rfl (fun ls hl => ?_)
                                refine lv_goto (tgt := 37) SS.1 SS.2.1 dX12_findPieces_206 (by decide) ?_
                                exact ih_37 (k + 1) B3 m3 _ _ hP hS ls (lv_sub hl [1, 2, 3, 4, 0] rfl) (by omega) (by first | exact i37_1 | exact pz_s i37_1 i140_1 i140_0.1 i140_0.2 hgd (fun q hq => (i89_2 (by omega)).2 q (by omega))) (by omega)
                              · skip
                                have hgd : gd X_2 Y_2 (u.1 3) s n_2 b := by rcases i72_0 with q | q; exact absurd q (i89_2 (by omega)).1; exact q
                                refine lv_aload_n SS.1 SS.2.1 dX12_findPieces_134 rfl (lv_at hl 0 rfl) ?_
                                refine j_get SS hG hP 0 (v := .int (J m3)) (C := RX12) (T := TX12) (N := 31) rfl rfl inX12 30 (by decide) (ref := RX12) kw_1088 rfl rfl dX12_findPieces_135 ?_
                                refine lv_istore (lv' := [(8, .int (J m3)), (0, .ref o), (1, .int (J s)), (2, .int (J i)), (3, .int (J j)), (4, .int (J k)), (5, .long b), (7, .int (J t))]) SS.1 SS.2.1 dX12_findPieces_138 hl (by decide) rfl (fun ls hl => ?_)
                                have L_140 : ∀ (nn : Nat) (a : Int) (B4 : Nat → Int64) (H : Heap) (locs : List Loc) (hP : va_P D.1 j_cl (mW D o q (uV (uL (uV (uI (uI u 10 X_2) 11 Y_2) 12 n_2) 29 B4) 30 m3)) H) (hS : va_S A st.heap H locs) (ls : Array Slot) (hl : lv_has ls 9 [(0, .ref o), (1, .int (J s)), (2, .int (J i)), (3, .int (J j)), (4, .int (J k)), (5, .long b), (8, .int (J a))]) (i140_0 : 0 ≤ a ∧ a ≤ m3) (i140_1 : sh_ B3 B4 m3 a), a.toNat < nn → W pr l en (headSpec (jw yX12_findPieces cX12_findPieces 9 none) (jr 3 89)).room st mi (([.ref o, .int (J s)] : List Value).toArray) below meth co H locs 0 0 (MQ below (jWv (fun u' => ∃ X : Nat → Int, ∃ Y : Nat → Int, ∃ n : Int, ∃ C : Nat → Int64, ∃ m : Int, u' = (uV (uL (uV (uI (uI u 10 X) 11 Y) 12 n) 29 C) 30 m) ∧ ((0 ≤ m ∧ m ≤ 80) ∧ IM u')) (fun u' H => va_P D.1 j_cl (mW D o q u') H) A) (([.ref o, .int (J s)] : List Value).toArray) st 0 0 A) (F0 mi 140 ls []) := by
                                  intro nn
                                  induction nn with
                                  | zero => intros; omega
                                  | succ nn ih_140 =>
                                    intro a B4 H locs hP hS ls hl i140_0 i140_1 hm
                                    refine lv_iload SS.1 SS.2.1 dX12_findPieces_140 (lv_at hl 6 rfl) ?_
                                    refine j_if_le SS (tgt := 184) (x := a) dX12_findPieces_142 (by decide) (by omega) (fun c_142 => ?_) (fun c_142 => ?_)
                                    · skip
                                      refine lv_aload_n SS.1 SS.2.1 dX12_findPieces_184 rfl (lv_at hl 0 rfl) ?_
                                      refine j_get SS hG hP 0 (v := .ref (q 29)) (C := RX12) (T := TX12) (N := 31) rfl rfl inX12 29 (by decide) (ref := RX12) kw_1087 rfl rfl dX12_findPieces_185 ?_
                                      refine lv_iload SS.1 SS.2.1 dX12_findPieces_188 (lv_at hl 6 rfl) ?_
                                      refine lv_lload SS.1 SS.2.1 dX12_findPieces_190 (lv_at hl 5 rfl) ?_
                                      refine j_last SS hG hP (mW_D hD) hS 23 (n := 100) (f := B4) rfl (z := a) (v := b) (by omega) (by omega) dX12_findPieces_192 (ws' := (mW D o q (uV (uL (uV (uI (uI u 10 X_2) 11 Y_2) 12 n_2) 29 (vp_updL B4 (a).toNat b)) 30 m3))) rfl (fun H locs hP hS => ?_)
                                      refine lv_aload_n SS.1 SS.2.1 dX12_findPieces_193 rfl (lv_at hl 0 rfl) ?_
                                      refine lv_dup SS.1 SS.2.1 dX12_findPieces_194 rfl ?_
                                      refine j_get SS hG hP 0 (v := .int (J m3)) (C := RX12) (T := TX12) (N := 31) rfl rfl inX12 30 (by decide) (ref := RX12) kw_1088 rfl rfl dX12_findPieces_195 ?_
                                      refine j_iconst SS dX12_findPieces_198 ?_
                                      refine j_iadd SS (x := m3) (y := 1) dX12_findPieces_199 ?_
                                      refine j_put SS hG hP (mW_D hD) hS 0 (v := .int (J (m3 + 1))) (ty := .int) (C := RX12) (T := TX12) (N := 31) rfl rfl inX12 tyX12 tyX12_ok nmX12 30 (by decide) (ref := RX12) kw_1088 rfl rfl (by decide +kernel) rfl rfl (Nat.le_of_ble_eq_true rfl) dX12_findPieces_200 (ws' := (mW D o q (uV (uL (uV (uI (uI u 10 X_2) 11 Y_2) 12 n_2) 29 (vp_updL B4 (a).toNat b)) 30 (m3 + 1)))) rfl (fun H locs hP hS => ?_)
                                      refine lv_iinc (v := J (k + 1)) (lv' := [(4, .int (J (k + 1))), (0, .ref o), (1, .int (J s)), (2, .int (J i)), (3, .int (J j)), (5, .long b), (8, .int (J a))]) SS.1 SS.2.1 dX12_findPieces_203 hl (k := 4) rfl (J_add _ _) (by decide) rfl (fun ls hl => ?_)
                                      refine lv_goto (tgt := 37) SS.1 SS.2.1 dX12_findPieces_206 (by decide) ?_
                                      exact ih_37 (k + 1) (vp_updL B4 (a).toNat b) (m3 + 1) _ _ hP hS ls (lv_sub hl [1, 2, 3, 4, 0] rfl) (by omega) (by first | exact i37_1 | exact pz_s i37_1 i140_1 i140_0.1 i140_0.2 hgd (fun q hq => (i89_2 (by omega)).2 q (by omega))) (by omega)
                                    · skip
                                      refine lv_lload SS.1 SS.2.1 dX12_findPieces_145 (lv_at hl 5 rfl) ?_
                                      refine lv_aload_n SS.1 SS.2.1 dX12_findPieces_147 rfl (lv_at hl 0 rfl) ?_
                                      refine j_get SS hG hP 0 (v := .ref (q 29)) (C := RX12) (T := TX12) (N := 31) rfl rfl inX12 29 (by decide) (ref := RX12) kw_1087 rfl rfl dX12_findPieces_148 ?_
                                      refine lv_iload SS.1 SS.2.1 dX12_findPieces_151 (lv_at hl 6 rfl) ?_
                                      refine j_iconst SS dX12_findPieces_153 ?_
                                      refine j_isub SS (x := a) (y := 1) dX12_findPieces_154 ?_
                                      refine j_lald SS hG hP 23 (n := 100) (f := B4) rfl (z := (a - 1)) (by omega) (by omega) dX12_findPieces_155 ?_
                                      refine j_sRi SS (As := [.long b, .long (B4 ((a - 1)).toNat)]) (rest := []) (c_X12_isAhead l D b (B4 ((a - 1)).toNat) ) mf_X12_isAhead kw_1487 hG trivial rfl hl.1 ⟨⟨Nat.le_of_ble_eq_true rfl, Nat.le_of_ble_eq_true rfl⟩, Nat.le_of_ble_eq_true rfl, Nat.le_refl _, Nat.le_refl _⟩ rfl dX12_findPieces_156 (fun z_156 h_156 => ?_)
                                      have h_156 : z_156 = 0 ∨ z_156 = 1 := h_156
                                      refine j_if_eq SS (tgt := 184) (x := z_156) dX12_findPieces_159 (by decide) (by omega) (fun c_159 => ?_) (fun c_159 => ?_)
                                      · skip
                                        refine lv_aload_n SS.1 SS.2.1 dX12_findPieces_184 rfl (lv_at hl 0 rfl) ?_
                                        refine j_get SS hG hP 0 (v := .ref (q 29)) (C := RX12) (T := TX12) (N := 31) rfl rfl inX12 29 (by decide) (ref := RX12) kw_1087 rfl rfl dX12_findPieces_185 ?_
                                        refine lv_iload SS.1 SS.2.1 dX12_findPieces_188 (lv_at hl 6 rfl) ?_
                                        refine lv_lload SS.1 SS.2.1 dX12_findPieces_190 (lv_at hl 5 rfl) ?_
                                        refine j_last SS hG hP (mW_D hD) hS 23 (n := 100) (f := B4) rfl (z := a) (v := b) (by omega) (by omega) dX12_findPieces_192 (ws' := (mW D o q (uV (uL (uV (uI (uI u 10 X_2) 11 Y_2) 12 n_2) 29 (vp_updL B4 (a).toNat b)) 30 m3))) rfl (fun H locs hP hS => ?_)
                                        refine lv_aload_n SS.1 SS.2.1 dX12_findPieces_193 rfl (lv_at hl 0 rfl) ?_
                                        refine lv_dup SS.1 SS.2.1 dX12_findPieces_194 rfl ?_
                                        refine j_get SS hG hP 0 (v := .int (J m3)) (C := RX12) (T := TX12) (N := 31) rfl rfl inX12 30 (by decide) (ref := RX12) kw_1088 rfl rfl dX12_findPieces_195 ?_
                                        refine j_iconst SS dX12_findPieces_198 ?_
                                        refine j_iadd SS (x := m3) (y := 1) dX12_findPieces_199 ?_
                                        refine j_put SS hG hP (mW_D hD) hS 0 (v := .int (J (m3 + 1))) (ty := .int) (C := RX12) (T := TX12) (N := 31) rfl rfl inX12 tyX12 tyX12_ok nmX12 30 (by decide) (ref := RX12) kw_1088 rfl rfl (by decide +kernel) rfl rfl (Nat.le_of_ble_eq_true rfl) dX12_findPieces_200 (ws' := (mW D o q (uV (uL (uV (uI (uI u 10 X_2) 11 Y_2) 12 n_2) 29 (vp_updL B4 (a).toNat b)) 30 (m3 + 1)))) rfl (fun H locs hP hS => ?_)
                                        refine lv_iinc (v := J (k + 1)) (lv' := [(4, .int (J (k + 1))), (0, .ref o), (1, .int (J s)), (2, .int (J i)), (3, .int (J j)), (5, .long b), (8, .int (J a))]) SS.1 SS.2.1 dX12_findPieces_203 hl (k := 4) rfl (J_add _ _) (by decide) rfl (fun ls hl => ?_)
                                        refine lv_goto (tgt := 37) SS.1 SS.2.1 dX12_findPieces_206 (by decide) ?_
                                        exact ih_37 (k + 1) (vp_updL B4 (a).toNat b) (m3 + 1) _ _ hP hS ls (lv_sub hl [1, 2, 3, 4, 0] rfl) (by omega) (by first | exact i37_1 | exact pz_s i37_1 i140_1 i140_0.1 i140_0.2 hgd (fun q hq => (i89_2 (by omega)).2 q (by omega))) (by omega)
                                      · skip
                                        refine lv_aload_n SS.1 SS.2.1 dX12_findPieces_162 rfl (lv_at hl 0 rfl) ?_
                                        refine j_get SS hG hP 0 (v := .ref (q 29)) (C := RX12) (T := TX12) (N := 31) rfl rfl inX12 29 (by decide) (ref := RX12) kw_1087 rfl rfl dX12_findPieces_163 ?_
                                        refine lv_iload SS.1 SS.2.1 dX12_findPieces_166 (lv_at hl 6 rfl) ?_
                                        refine lv_aload_n SS.1 SS.2.1 dX12_findPieces_168 rfl (lv_at hl 0 rfl) ?_
                                        refine j_get SS hG hP 0 (v := .ref (q 29)) (C := RX12) (T := TX12) (N := 31) rfl rfl inX12 29 (by decide) (ref := RX12) kw_1087 rfl rfl dX12_findPieces_169 ?_
                                        refine lv_iload SS.1 SS.2.1 dX12_findPieces_172 (lv_at hl 6 rfl) ?_
                                        refine j_iconst SS dX12_findPieces_174 ?_
                                        refine j_isub SS (x := a) (y := 1) dX12_findPieces_175 ?_
                                        refine j_lald SS hG hP 23 (n := 100) (f := B4) rfl (z := (a - 1)) (by omega) (by omega) dX12_findPieces_176 ?_
                                        refine j_last SS hG hP (mW_D hD) hS 23 (n := 100) (f := B4) rfl (z := a) (v := (B4 ((a - 1)).toNat)) (by omega) (by omega) dX12_findPieces_177 (ws' := (mW D o q (uV (uL (uV (uI (uI u 10 X_2) 11 Y_2) 12 n_2) 29 (vp_updL B4 (a).toNat (B4 ((a - 1)).toNat))) 30 m3))) rfl (fun H locs hP hS => ?_)
                                        refine lv_iinc (v := J (a + (-1))) (lv' := [(8, .int (J (a + (-1)))), (0, .ref o), (1, .int (J s)), (2, .int (J i)), (3, .int (J j)), (4, .int (J k)), (5, .long b)]) SS.1 SS.2.1 dX12_findPieces_178 hl (k := 6) rfl (J_add _ _) (by decide) rfl (fun ls hl => ?_)
                                        refine lv_goto (tgt := 140) SS.1 SS.2.1 dX12_findPieces_181 (by decide) ?_
                                        exact ih_140 (a + (-1)) (vp_updL B4 (a).toNat (B4 ((a - 1)).toNat)) _ _ hP hS ls (lv_sub hl [1, 2, 3, 4, 5, 6, 0] rfl) (by omega) (sh_s (by omega) (by omega) i140_1) (by omega)
                                exact L_140 (m3.toNat + 1) m3 B3 _ _ hP hS ls (lv_sub hl [1, 2, 3, 4, 5, 6, 0] rfl) (by omega) (sh_0) (Nat.lt_succ_self _)
                            · skip
                              refine lv_aload_n SS.1 SS.2.1 dX12_findPieces_103 rfl (lv_at hl 0 rfl) ?_
                              refine j_get SS hG hP 0 (v := .ref (q 29)) (C := RX12) (T := TX12) (N := 31) rfl rfl inX12 29 (by decide) (ref := RX12) kw_1087 rfl rfl dX12_findPieces_104 ?_
                              refine lv_iload SS.1 SS.2.1 dX12_findPieces_107 (lv_at hl 7 rfl) ?_
                              refine j_lald SS hG hP 23 (n := 100) (f := B3) rfl (z := p) (by omega) (by omega) dX12_findPieces_109 ?_
                              refine lv_lload SS.1 SS.2.1 dX12_findPieces_110 (lv_at hl 5 rfl) ?_
                              refine j_lcmp SS dX12_findPieces_112 (fun z_112 hz_112 => ?_)
                              refine j_if_ne SS (tgt := 120) (x := z_112) dX12_findPieces_113 (by decide) (by omega) (fun c_113 => ?_) (fun c_113 => ?_)
                              · skip
                                refine j_iconst SS dX12_findPieces_120 ?_
                                refine lv_istore (lv' := [(7, .int (J 0)), (0, .ref o), (1, .int (J s)), (2, .int (J i)), (3, .int (J j)), (4, .int (J k)), (5, .long b), (8, .int (J p))]) SS.1 SS.2.1 dX12_findPieces_121 hl (by decide) rfl (fun ls hl => ?_)
                                refine lv_iinc (v := J (p + 1)) (lv' := [(8, .int (J (p + 1))), (7, .int (J 0)), (0, .ref o), (1, .int (J s)), (2, .int (J i)), (3, .int (J j)), (4, .int (J k)), (5, .long b)]) SS.1 SS.2.1 dX12_findPieces_123 hl (k := 7) rfl (J_add _ _) (by decide) rfl (fun ls hl => ?_)
                                refine lv_goto (tgt := 89) SS.1 SS.2.1 dX12_findPieces_126 (by decide) ?_
                                exact ih_89 0 (p + 1) _ _ hP hS ls (lv_sub hl [2, 3, 4, 5, 6, 7, 1, 0] rfl) (by omega) (by omega) (by first | (intro h; exfalso; omega) | (intro _; have q2 := i89_2 (by omega); exact ⟨q2.1, fun q hq => by by_cases e : (q : Int) = p; (rw [show q = p.toNat by omega]; exact fun e2 => c_113 (hz_112.2.2.2.mpr e2)); exact q2.2 q (by omega)⟩)) (by omega)
                              · skip
                                refine j_iconst SS dX12_findPieces_116 ?_
                                refine lv_goto (tgt := 121) SS.1 SS.2.1 dX12_findPieces_117 (by decide) ?_
                                refine lv_istore (lv' := [(7, .int (J 1)), (0, .ref o), (1, .int (J s)), (2, .int (J i)), (3, .int (J j)), (4, .int (J k)), (5, .long b), (8, .int (J p))]) SS.1 SS.2.1 dX12_findPieces_121 hl (by decide) rfl (fun ls hl => ?_)
                                refine lv_iinc (v := J (p + 1)) (lv' := [(8, .int (J (p + 1))), (7, .int (J 1)), (0, .ref o), (1, .int (J s)), (2, .int (J i)), (3, .int (J j)), (4, .int (J k)), (5, .long b)]) SS.1 SS.2.1 dX12_findPieces_123 hl (k := 7) rfl (J_add _ _) (by decide) rfl (fun ls hl => ?_)
                                refine lv_goto (tgt := 89) SS.1 SS.2.1 dX12_findPieces_126 (by decide) ?_
                                exact ih_89 1 (p + 1) _ _ hP hS ls (lv_sub hl [2, 3, 4, 5, 6, 7, 1, 0] rfl) (by omega) (by omega) (by first | (intro h; exfalso; omega) | (intro _; have q2 := i89_2 (by omega); exact ⟨q2.1, fun q hq => by by_cases e : (q : Int) = p; (rw [show q = p.toNat by omega]; exact fun e2 => c_113 (hz_112.2.2.2.mpr e2)); exact q2.2 q (by omega)⟩)) (by omega)
                      refine j_if_ne SS (tgt := 83) (x := z_75) dX12_findPieces_76 (by decide) (by omega) (fun c_76 => ?_) (fun c_76 => ?_)
                      · skip
                        refine j_iconst SS dX12_findPieces_83 ?_
                        refine lv_istore (lv' := [(7, .int (J 0)), (0, .ref o), (1, .int (J s)), (2, .int (J i)), (3, .int (J j)), (4, .int (J k)), (5, .long b)]) SS.1 SS.2.1 dX12_findPieces_84 hl (by decide) rfl (fun ls hl => ?_)
                        refine j_iconst SS dX12_findPieces_86 ?_
                        refine lv_istore (lv' := [(8, .int (J 0)), (7, .int (J 0)), (0, .ref o), (1, .int (J s)), (2, .int (J i)), (3, .int (J j)), (4, .int (J k)), (5, .long b)]) SS.1 SS.2.1 dX12_findPieces_87 hl (by decide) rfl (fun ls hl => ?_)
                        exact L_89 ((m3 - (0 : Int)).toNat + 1) 0 0 _ _ hP hS ls (lv_sub hl [2, 3, 4, 5, 6, 7, 1, 0] rfl) (by omega) (by omega) (by first | (intro h; exfalso; omega) | exact fun _ => ⟨fun e => c_76 (hz_75.2.2.2.mpr e), fun q hq => by omega⟩) (Nat.lt_succ_self _)
                      · skip
                        refine j_iconst SS dX12_findPieces_79 ?_
                        refine lv_goto (tgt := 84) SS.1 SS.2.1 dX12_findPieces_80 (by decide) ?_
                        refine lv_istore (lv' := [(7, .int (J 1)), (0, .ref o), (1, .int (J s)), (2, .int (J i)), (3, .int (J j)), (4, .int (J k)), (5, .long b)]) SS.1 SS.2.1 dX12_findPieces_84 hl (by decide) rfl (fun ls hl => ?_)
                        refine j_iconst SS dX12_findPieces_86 ?_
                        refine lv_istore (lv' := [(8, .int (J 0)), (7, .int (J 1)), (0, .ref o), (1, .int (J s)), (2, .int (J i)), (3, .int (J j)), (4, .int (J k)), (5, .long b)]) SS.1 SS.2.1 dX12_findPieces_87 hl (by decide) rfl (fun ls hl => ?_)
                        exact L_89 ((m3 - (0 : Int)).toNat + 1) 1 0 _ _ hP hS ls (lv_sub hl [2, 3, 4, 5, 6, 7, 1, 0] rfl) (by omega) (by omega) (by first | (intro h; exfalso; omega) | exact fun _ => ⟨fun e => c_76 (hz_75.2.2.2.mpr e), fun q hq => by omega⟩) (Nat.lt_succ_self _)
                    refine j_if_ne SS (tgt := 61) (x := z_51) dX12_findPieces_54 (by decide) (by omega) (fun c_54 => ?_) (fun c_54 => ?_)
                    · skip
                      refine lv_aload_n SS.1 SS.2.1 dX12_findPieces_61 rfl (lv_at hl 0 rfl) ?_
                      refine lv_iload_n SS.1 SS.2.1 dX12_findPieces_62 rfl (lv_at hl 1 rfl) ?_
                      refine lv_iload_n SS.1 SS.2.1 dX12_findPieces_63 rfl (lv_at hl 2 rfl) ?_
                      refine lv_iload_n SS.1 SS.2.1 dX12_findPieces_64 rfl (lv_at hl 3 rfl) ?_
                      refine lv_iload SS.1 SS.2.1 dX12_findPieces_65 (lv_at hl 4 rfl) ?_
                      refine j_vRl SS (As := [.int (J s), .int (J i), .int (J j), .int (J k)]) (rest := []) (c_X12_planeOf l D o q (uV (uL (uV (uI (uI u 10 X_2) 11 Y_2) 12 n_2) 29 B3) 30 m3) s i j k (show 0 ≤ s ∧ s ≤ 7 from (by omega)) (show 0 ≤ n_2 ∧ n_2 ≤ 40 from (by omega)) (show bd 40 (X_2) (Y_2) 6561 from (hIM)) (show HB ((u.1 3)) from (p0.2.1)) (show 0 ≤ i ∧ i < n_2 from (by omega)) (show 0 ≤ j ∧ j < n_2 from (by omega)) (show 0 ≤ k ∧ k < n_2 from (by omega))) mf_X12_planeOf kw_1483 hG hP hP (ci := 8) (q0 := 0) rfl rfl rfl rfl hl.1 ⟨⟨Nat.le_of_ble_eq_true rfl, Nat.le_of_ble_eq_true rfl⟩, Nat.le_of_ble_eq_true rfl, Nat.le_refl _, Nat.le_refl _⟩ rfl dX12_findPieces_67 (fun x_67 h_67 => ?_)
                      refine lv_lstore (lv' := [(5, .long x_67), (0, .ref o), (1, .int (J s)), (2, .int (J i)), (3, .int (J j)), (4, .int (J k))]) SS.1 SS.2.1 dX12_findPieces_70 hl (by decide) rfl (fun ls hl => ?_)
                      exact L_72 x_67 _ _ hP hS ls (lv_sub hl [1, 2, 3, 4, 5, 0] rfl) (by first | exact Or.inl rfl | (rcases h_67 with q | q; exact Or.inl q; exact Or.inr ⟨i, j, k, by omega, by omega, by omega, by omega, by rw [← show z_51 = tnI X_2 Y_2 i j k from h_51.1]; exact c_54, q.1, q.2⟩))
                    · skip
                      refine lv_lconst (v := 0) SS.1 SS.2.1 dX12_findPieces_57 (by decide +kernel) ?_
                      refine lv_goto (tgt := 70) SS.1 SS.2.1 dX12_findPieces_58 (by decide) ?_
                      refine lv_lstore (lv' := [(5, .long 0), (0, .ref o), (1, .int (J s)), (2, .int (J i)), (3, .int (J j)), (4, .int (J k))]) SS.1 SS.2.1 dX12_findPieces_70 hl (by decide) rfl (fun ls hl => ?_)
                      exact L_72 0 _ _ hP hS ls (lv_sub hl [1, 2, 3, 4, 5, 0] rfl) (by first | exact Or.inl rfl | (rcases h_67 with q | q; exact Or.inl q; exact Or.inr ⟨i, j, k, by omega, by omega, by omega, by omega, by rw [← show z_51 = tnI X_2 Y_2 i j k from h_51.1]; exact c_54, q.1, q.2⟩))
              exact L_37 ((n_2 - (j + 1)).toNat + 1) (j + 1) B2 m2 _ _ hP hS ls (lv_sub hl [1, 2, 3, 4, 0] rfl) (by omega) (i24_1) (Nat.lt_succ_self _)
        exact L_24 ((n_2 - (i + 1)).toNat + 1) (i + 1) B1 m1 _ _ hP hS ls (lv_sub hl [1, 2, 3, 0] rfl) (by omega) (i12_1) (Nat.lt_succ_self _)
  exact L_12 ((n_2 - (0 : Int)).toNat + 1) 0 (u.2.1 29) 0 _ _ hP hS ls (lv_sub hl [1, 2, 0] rfl) (by omega) (⟨by omega, fun q hq => by omega, fun q r h1 h2 => by omega⟩) (Nat.lt_succ_self _)

set_option maxHeartbeats 4000000 in
set_option maxRecDepth 100000 in
theorem c_X12_height (l : Launch) (D : JD) (o : Nat) (q : Nat → Nat) (u : MS) (A : Nat → Prop) (hD : va_D A (mW D o q u)) (s : Int) (i : Int) (v : Int) (p0 : IM u) (p1 : -2147483648 ≤ s ∧ s ≤ 2147483647) (p2 : -2147483648 ≤ i ∧ i ≤ 2147483647) (p3 : -2147483648 ≤ v ∧ v ≤ 2147483647) : Met l yX12_height (jw yX12_height cX12_height 5 (some .int)) (jr 6 131) (jP [.ref o, .int (J s), .int (J i), .int (J v)] D (fun H => va_P D.1 j_cl (mW D o q u) H)) (jWi (fun z u' => ∃ f3 : Nat → Int, u' = (uI u 3 f3) ∧ (IM u')) (fun u' H => va_P D.1 j_cl (mW D o q u') H) A) 0 0 A := by
  refine Met.ofW (cc := cX12_height) (maxL := 5) (ret := (some .int)) (by decide) rfl ?_
  intro pr en st mi args below meth co s₁ B hml hv
  obtain ⟨rfl, hG, hP⟩ := hv
  have hr := B.returns
  have hlk := B.notSynchronized
  have SS : jS pr mi co cX12_height 5 st _ RX12 := ⟨B.exec, B.bytes, hml, findClass_of_methodNamed B.named, fun w hw => atoms_spec (ws := (jw yX12_height cX12_height 5 (some .int))) B.pre w (List.mem_cons_of_mem _ hw)⟩
  have hl := lv_entry ([.ref o, .int (J s), .int (J i), .int (J v)]) (n := 5) (Nat.le_of_ble_eq_true rfl)
  rw [lg_entry_eq]
  generalize (lg_sl ([.ref o, .int (J s), .int (J i), .int (J v)]) ++ List.replicate (5 - (lg_sl ([.ref o, .int (J s), .int (J i), .int (J v)])).length) Slot.unset).toArray = ls at hl ⊢
  have hl : lv_has ls 5 [(0, .ref o), (1, .int (J s)), (2, .int (J i)), (3, .int (J v))] := hl
  have hS : va_S A st.heap st.heap [] := va_S.rf
  refine lv_iload_n SS.1 SS.2.1 dX12_height_0 rfl (lv_at hl 1 rfl) ?_
  refine j_sRi SS (As := [.int (J s)]) (rest := []) (c_X12_isShape l D s (show -2147483648 ≤ s ∧ s ≤ 2147483647 from (by omega))) mf_X12_isShape kw_1156 hG trivial rfl hl.1 ⟨⟨Nat.le_of_ble_eq_true rfl, Nat.le_of_ble_eq_true rfl⟩, Nat.le_of_ble_eq_true rfl, Nat.le_refl _, Nat.le_refl _⟩ rfl dX12_height_1 (fun z_1 h_1 => ?_)
  have h_1 : (z_1 = 1 ∧ (0 ≤ s ∧ s ≤ 7)) ∨ (z_1 = 0 ∧ ¬ (0 ≤ s ∧ s ≤ 7)) := h_1
  refine j_if_eq SS (tgt := 49) (x := z_1) dX12_height_4 (by decide) (by omega) (fun c_4 => ?_) (fun c_4 => ?_)
  · skip
    refine j_ldc SS (-1000000) kw_1213 dX12_height_49 ?_
    exact W.iret SS.1 SS.2.1 hr (fun t ht hW => ⟨⟨_, (uI u 3 (u.1 3)), rfl, ⟨(-1000000), rfl, (⟨(u.1 3), rfl, p0⟩)⟩, by show va_P D.1 j_cl (mW D o q (uI u 3 (u.1 3))) t.heap; rw [ht]; exact hP⟩, hS.F ht⟩) hS.2.2 dX12_height_51 hlk
  · skip
    refine lv_iload_n SS.1 SS.2.1 dX12_height_7 rfl (lv_at hl 3 rfl) ?_
    refine j_sipush SS dX12_height_8 (by decide +kernel) ?_
    refine j_sipush SS dX12_height_11 (by decide +kernel) ?_
    refine j_sRi SS (As := [.int (J v), .int (J (-1000)), .int (J 1000)]) (rest := []) (c_X12_in l D v (-1000) 1000 (show -2147483648 ≤ v ∧ v ≤ 2147483647 from (by omega)) (show -2147483648 ≤ (-1000 : Int) ∧ (-1000 : Int) ≤ 2147483647 from (by omega)) (show -2147483648 ≤ (1000 : Int) ∧ (1000 : Int) ≤ 2147483647 from (by omega))) mf_X12_in kw_1159 hG trivial rfl hl.1 ⟨⟨Nat.le_of_ble_eq_true rfl, Nat.le_of_ble_eq_true rfl⟩, Nat.le_of_ble_eq_true rfl, Nat.le_refl _, Nat.le_refl _⟩ rfl dX12_height_14 (fun z_14 h_14 => ?_)
    have h_14 : (z_14 = 1 ∧ ((-1000 : Int) ≤ v ∧ v ≤ (1000 : Int))) ∨ (z_14 = 0 ∧ ¬ ((-1000 : Int) ≤ v ∧ v ≤ (1000 : Int))) := h_14
    refine j_if_eq SS (tgt := 49) (x := z_14) dX12_height_17 (by decide) (by omega) (fun c_17 => ?_) (fun c_17 => ?_)
    · skip
      refine j_ldc SS (-1000000) kw_1213 dX12_height_49 ?_
      exact W.iret SS.1 SS.2.1 hr (fun t ht hW => ⟨⟨_, (uI u 3 (u.1 3)), rfl, ⟨(-1000000), rfl, (⟨(u.1 3), rfl, p0⟩)⟩, by show va_P D.1 j_cl (mW D o q (uI u 3 (u.1 3))) t.heap; rw [ht]; exact hP⟩, hS.F ht⟩) hS.2.2 dX12_height_51 hlk
    · skip
      refine lv_aload_n SS.1 SS.2.1 dX12_height_20 rfl (lv_at hl 0 rfl) ?_
      refine lv_iload_n SS.1 SS.2.1 dX12_height_21 rfl (lv_at hl 1 rfl) ?_
      refine j_vRi SS (As := [.int (J s)]) (rest := []) (c_X12_isLifted l D o q u s (show 0 ≤ s ∧ s ≤ 7 from (by omega)) (show Sh u s from (p0.1 _ (by omega) (by omega)))) mf_X12_isLifted kw_1471 hG hP hP (ci := 8) (q0 := 0) rfl rfl rfl rfl hl.1 ⟨⟨Nat.le_of_ble_eq_true rfl, Nat.le_of_ble_eq_true rfl⟩, Nat.le_of_ble_eq_true rfl, Nat.le_refl _, Nat.le_refl _⟩ rfl dX12_height_22 (fun z_22 h_22 => ?_)
      have h_22 : (z_22 = 1 ∧ 2 < mN u s ∧ mEd u s + mIn u s ≤ 40) ∨ (z_22 = 0 ∧ ¬ (2 < mN u s ∧ mEd u s + mIn u s ≤ 40)) := h_22
      refine j_if_eq SS (tgt := 49) (x := z_22) dX12_height_25 (by decide) (by omega) (fun c_25 => ?_) (fun c_25 => ?_)
      · skip
        refine j_ldc SS (-1000000) kw_1213 dX12_height_49 ?_
        exact W.iret SS.1 SS.2.1 hr (fun t ht hW => ⟨⟨_, (uI u 3 (u.1 3)), rfl, ⟨(-1000000), rfl, (⟨(u.1 3), rfl, p0⟩)⟩, by show va_P D.1 j_cl (mW D o q (uI u 3 (u.1 3))) t.heap; rw [ht]; exact hP⟩, hS.F ht⟩) hS.2.2 dX12_height_51 hlk
      · skip
        refine lv_iload_n SS.1 SS.2.1 dX12_height_28 rfl (lv_at hl 2 rfl) ?_
        refine j_iconst SS dX12_height_29 ?_
        refine lv_aload_n SS.1 SS.2.1 dX12_height_30 rfl (lv_at hl 0 rfl) ?_
        refine lv_iload_n SS.1 SS.2.1 dX12_height_31 rfl (lv_at hl 1 rfl) ?_
        refine j_vRi SS (As := [.int (J s)]) (rest := [.int (J 0), .int (J i)]) (c_X12_edgeOf l D o q u s (show 0 ≤ s ∧ s ≤ 7 from (by omega)) (show Sh u s from (p0.1 _ (by omega) (by omega)))) mf_X12_edgeOf kw_1222 hG hP hP (ci := 8) (q0 := 0) rfl rfl rfl rfl hl.1 ⟨⟨Nat.le_of_ble_eq_true rfl, Nat.le_of_ble_eq_true rfl⟩, Nat.le_of_ble_eq_true rfl, Nat.le_refl _, Nat.le_refl _⟩ rfl dX12_height_32 (fun z_32 h_32 => ?_)
        have h_32 : z_32 = mEd u s ∧ 0 ≤ z_32 ∧ z_32 ≤ 2000 := h_32
        refine lv_aload_n SS.1 SS.2.1 dX12_height_35 rfl (lv_at hl 0 rfl) ?_
        refine lv_iload_n SS.1 SS.2.1 dX12_height_36 rfl (lv_at hl 1 rfl) ?_
        refine j_vRi SS (As := [.int (J s)]) (rest := [.int (J z_32), .int (J 0), .int (J i)]) (c_X12_insideOf l D o q u s (show 0 ≤ s ∧ s ≤ 7 from (by omega)) (show Sh u s from (p0.1 _ (by omega) (by omega)))) mf_X12_insideOf kw_1236 hG hP hP (ci := 8) (q0 := 0) rfl rfl rfl rfl hl.1 ⟨⟨Nat.le_of_ble_eq_true rfl, Nat.le_of_ble_eq_true rfl⟩, Nat.le_of_ble_eq_true rfl, Nat.le_refl _, Nat.le_refl _⟩ rfl dX12_height_37 (fun z_37 h_37 => ?_)
        have h_37 : z_37 = mIn u s ∧ -100000 ≤ z_37 ∧ z_37 ≤ 100000 := h_37
        refine j_iadd SS (x := z_32) (y := z_37) dX12_height_40 ?_
        refine j_iconst SS dX12_height_41 ?_
        refine j_isub SS (x := (z_32 + z_37)) (y := 1) dX12_height_42 ?_
        refine j_sRi SS (As := [.int (J i), .int (J 0), .int (J ((z_32 + z_37) - 1))]) (rest := []) (c_X12_in l D i 0 ((z_32 + z_37) - 1) (show -2147483648 ≤ i ∧ i ≤ 2147483647 from (by omega)) (show -2147483648 ≤ (0 : Int) ∧ (0 : Int) ≤ 2147483647 from (by omega)) (show -2147483648 ≤ ((z_32 + z_37) - 1) ∧ ((z_32 + z_37) - 1) ≤ 2147483647 from (by omega))) mf_X12_in kw_1159 hG trivial rfl hl.1 ⟨⟨Nat.le_of_ble_eq_true rfl, Nat.le_of_ble_eq_true rfl⟩, Nat.le_of_ble_eq_true rfl, Nat.le_refl _, Nat.le_refl _⟩ rfl dX12_height_43 (fun z_43 h_43 => ?_)
        have h_43 : (z_43 = 1 ∧ ((0 : Int) ≤ i ∧ i ≤ ((z_32 + z_37) - 1))) ∨ (z_43 = 0 ∧ ¬ ((0 : Int) ≤ i ∧ i ≤ ((z_32 + z_37) - 1))) := h_43
        refine j_if_ne SS (tgt := 52) (x := z_43) dX12_height_46 (by decide) (by omega) (fun c_46 => ?_) (fun c_46 => ?_)
        · skip
          have hi40 : 0 ≤ i ∧ i < 40 := by omega
          refine lv_aload_n SS.1 SS.2.1 dX12_height_52 rfl (lv_at hl 0 rfl) ?_
          refine j_get SS hG hP 0 (v := .ref (q 3)) (C := RX12) (T := TX12) (N := 31) rfl rfl inX12 3 (by decide) (ref := RX12) kw_1061 rfl rfl dX12_height_53 ?_
          refine j_bipush SS dX12_height_56 (by decide +kernel) ?_
          refine lv_iload_n SS.1 SS.2.1 dX12_height_58 rfl (lv_at hl 1 rfl) ?_
          refine j_imul SS (x := 40) (y := s) dX12_height_59 ?_
          refine lv_iload_n SS.1 SS.2.1 dX12_height_60 rfl (lv_at hl 2 rfl) ?_
          refine j_iadd SS (x := (40 * s)) (y := i) dX12_height_61 ?_
          refine j_iald SS hG hP 4 (n := 320) (f := (u.1 3)) rfl (z := ((40 * s) + i)) (by omega) (by omega) dX12_height_62 ?_
          refine lv_istore (lv' := [(4, .int (J ((u.1 3) (((40 * s) + i)).toNat))), (0, .ref o), (1, .int (J s)), (2, .int (J i)), (3, .int (J v))]) SS.1 SS.2.1 dX12_height_63 hl (by decide) rfl (fun ls hl => ?_)
          refine lv_aload_n SS.1 SS.2.1 dX12_height_65 rfl (lv_at hl 1 rfl) ?_
          refine j_get SS hG hP 0 (v := .ref (q 3)) (C := RX12) (T := TX12) (N := 31) rfl rfl inX12 3 (by decide) (ref := RX12) kw_1061 rfl rfl dX12_height_66 ?_
          refine j_bipush SS dX12_height_69 (by decide +kernel) ?_
          refine lv_iload_n SS.1 SS.2.1 dX12_height_71 rfl (lv_at hl 2 rfl) ?_
          refine j_imul SS (x := 40) (y := s) dX12_height_72 ?_
          refine lv_iload_n SS.1 SS.2.1 dX12_height_73 rfl (lv_at hl 3 rfl) ?_
          refine j_iadd SS (x := (40 * s)) (y := i) dX12_height_74 ?_
          refine lv_iload_n SS.1 SS.2.1 dX12_height_75 rfl (lv_at hl 4 rfl) ?_
          refine j_iast SS hG hP (mW_D hD) hS 4 (n := 320) (f := (u.1 3)) rfl (z := ((40 * s) + i)) (v := v) (by omega) (by omega) dX12_height_76 (ws' := (mW D o q (uI u 3 (upI (u.1 3) (((40 * s) + i)).toNat v)))) rfl (fun H locs hP hS => ?_)
          refine lv_iload SS.1 SS.2.1 dX12_height_77 (lv_at hl 0 rfl) ?_
          exact W.iret SS.1 SS.2.1 hr (fun t ht hW => ⟨⟨_, (uI u 3 (upI (u.1 3) (((40 * s) + i)).toNat v)), rfl, ⟨((u.1 3) (((40 * s) + i)).toNat), rfl, (⟨(upI (u.1 3) (((40 * s) + i)).toNat v), rfl, ⟨p0.1, fun k => by by_cases e : k = ((40 * s) + i).toNat; (rw [e]; show -1000 ≤ upI _ _ _ _ ∧ upI _ _ _ _ ≤ 1000; rw [upI_s]; omega); (show -1000 ≤ upI _ _ _ _ ∧ upI _ _ _ _ ≤ 1000; rw [upI_n e]; exact p0.2.1 k), p0.2.2⟩⟩)⟩, by show va_P D.1 j_cl (mW D o q (uI u 3 (upI (u.1 3) (((40 * s) + i)).toNat v))) t.heap; rw [ht]; exact hP⟩, hS.F ht⟩) hS.2.2 dX12_height_79 hlk
        · skip
          refine j_ldc SS (-1000000) kw_1213 dX12_height_49 ?_
          exact W.iret SS.1 SS.2.1 hr (fun t ht hW => ⟨⟨_, (uI u 3 (u.1 3)), rfl, ⟨(-1000000), rfl, (⟨(u.1 3), rfl, p0⟩)⟩, by show va_P D.1 j_cl (mW D o q (uI u 3 (u.1 3))) t.heap; rw [ht]; exact hP⟩, hS.F ht⟩) hS.2.2 dX12_height_51 hlk

set_option maxHeartbeats 4000000 in
set_option maxRecDepth 100000 in
theorem c_X12_pieces (l : Launch) (D : JD) (o : Nat) (q : Nat → Nat) (u : MS) (A : Nat → Prop) (hD : va_D A (mW D o q u)) (s : Int) (what : Int) (p0 : IM u) (p1 : -2147483648 ≤ s ∧ s ≤ 2147483647) (p2 : -2147483648 ≤ what ∧ what ≤ 2147483647) : Met l yX12_pieces (jw yX12_pieces cX12_pieces 9 (some .int)) (jr 6 131) (jP [.ref o, .int (J s), .int (J what)] D (fun H => va_P D.1 j_cl (mW D o q u) H)) (jWi (fun z u' => ∃ X : Nat → Int, ∃ Y : Nat → Int, ∃ n : Int, ∃ C : Nat → Int64, ∃ m : Int, u' = (uV (uL (uV (uI (uI u 10 X) 11 Y) 12 n) 29 C) 30 m) ∧ (IM u')) (fun u' H => va_P D.1 j_cl (mW D o q u') H) A) 0 0 A := by
  refine Met.ofW (cc := cX12_pieces) (maxL := 9) (ret := (some .int)) (by decide) rfl ?_
  intro pr en st mi args below meth co s₁ B hml hv
  obtain ⟨rfl, hG, hP⟩ := hv
  have hr := B.returns
  have hlk := B.notSynchronized
  have SS : jS pr mi co cX12_pieces 9 st _ RX12 := ⟨B.exec, B.bytes, hml, findClass_of_methodNamed B.named, fun w hw => atoms_spec (ws := (jw yX12_pieces cX12_pieces 9 (some .int))) B.pre w (List.mem_cons_of_mem _ hw)⟩
  have hl := lv_entry ([.ref o, .int (J s), .int (J what)]) (n := 9) (Nat.le_of_ble_eq_true rfl)
  rw [lg_entry_eq]
  generalize (lg_sl ([.ref o, .int (J s), .int (J what)]) ++ List.replicate (9 - (lg_sl ([.ref o, .int (J s), .int (J what)])).length) Slot.unset).toArray = ls at hl ⊢
  have hl : lv_has ls 9 [(0, .ref o), (1, .int (J s)), (2, .int (J what))] := hl
  have hS : va_S A st.heap st.heap [] := va_S.rf
  refine lv_iload_n SS.1 SS.2.1 dX12_pieces_0 rfl (lv_at hl 1 rfl) ?_
  refine j_sRi SS (As := [.int (J s)]) (rest := []) (c_X12_isShape l D s (show -2147483648 ≤ s ∧ s ≤ 2147483647 from (by omega))) mf_X12_isShape kw_1156 hG trivial rfl hl.1 ⟨⟨Nat.le_of_ble_eq_true rfl, Nat.le_of_ble_eq_true rfl⟩, Nat.le_of_ble_eq_true rfl, Nat.le_refl _, Nat.le_refl _⟩ rfl dX12_pieces_1 (fun z_1 h_1 => ?_)
  have h_1 : (z_1 = 1 ∧ (0 ≤ s ∧ s ≤ 7)) ∨ (z_1 = 0 ∧ ¬ (0 ≤ s ∧ s ≤ 7)) := h_1
  refine j_if_eq SS (tgt := 16) (x := z_1) dX12_pieces_4 (by decide) (by omega) (fun c_4 => ?_) (fun c_4 => ?_)
  · skip
    refine j_iconst SS dX12_pieces_16 ?_
    exact W.iret SS.1 SS.2.1 hr (fun t ht hW => ⟨⟨_, (uV (uL (uV (uI (uI u 10 (u.1 10)) 11 (u.1 11)) 12 (u.2.2 12)) 29 (u.2.1 29)) 30 (u.2.2 30)), rfl, ⟨(-1), rfl, (⟨(u.1 10), (u.1 11), (u.2.2 12), (u.2.1 29), (u.2.2 30), rfl, p0⟩)⟩, by show va_P D.1 j_cl (mW D o q (uV (uL (uV (uI (uI u 10 (u.1 10)) 11 (u.1 11)) 12 (u.2.2 12)) 29 (u.2.1 29)) 30 (u.2.2 30))) t.heap; rw [ht]; exact hP⟩, hS.F ht⟩) hS.2.2 dX12_pieces_17 hlk
  · skip
    refine lv_iload_n SS.1 SS.2.1 dX12_pieces_7 rfl (lv_at hl 2 rfl) ?_
    refine j_iconst SS dX12_pieces_8 ?_
    refine j_iconst SS dX12_pieces_9 ?_
    refine j_sRi SS (As := [.int (J what), .int (J 0), .int (J 2)]) (rest := []) (c_X12_in l D what 0 2 (show -2147483648 ≤ what ∧ what ≤ 2147483647 from (by omega)) (show -2147483648 ≤ (0 : Int) ∧ (0 : Int) ≤ 2147483647 from (by omega)) (show -2147483648 ≤ (2 : Int) ∧ (2 : Int) ≤ 2147483647 from (by omega))) mf_X12_in kw_1159 hG trivial rfl hl.1 ⟨⟨Nat.le_of_ble_eq_true rfl, Nat.le_of_ble_eq_true rfl⟩, Nat.le_of_ble_eq_true rfl, Nat.le_refl _, Nat.le_refl _⟩ rfl dX12_pieces_10 (fun z_10 h_10 => ?_)
    have h_10 : (z_10 = 1 ∧ ((0 : Int) ≤ what ∧ what ≤ (2 : Int))) ∨ (z_10 = 0 ∧ ¬ ((0 : Int) ≤ what ∧ what ≤ (2 : Int))) := h_10
    refine j_if_ne SS (tgt := 18) (x := z_10) dX12_pieces_13 (by decide) (by omega) (fun c_13 => ?_) (fun c_13 => ?_)
    · skip
      refine lv_aload_n SS.1 SS.2.1 dX12_pieces_18 rfl (lv_at hl 0 rfl) ?_
      refine lv_iload_n SS.1 SS.2.1 dX12_pieces_19 rfl (lv_at hl 1 rfl) ?_
      refine j_vRi SS (As := [.int (J s)]) (rest := []) (c_X12_isLifted l D o q u s (show 0 ≤ s ∧ s ≤ 7 from (by omega)) (show Sh u s from (p0.1 _ (by omega) (by omega)))) mf_X12_isLifted kw_1471 hG hP hP (ci := 8) (q0 := 0) rfl rfl rfl rfl hl.1 ⟨⟨Nat.le_of_ble_eq_true rfl, Nat.le_of_ble_eq_true rfl⟩, Nat.le_of_ble_eq_true rfl, Nat.le_refl _, Nat.le_refl _⟩ rfl dX12_pieces_20 (fun z_20 h_20 => ?_)
      have h_20 : (z_20 = 1 ∧ 2 < mN u s ∧ mEd u s + mIn u s ≤ 40) ∨ (z_20 = 0 ∧ ¬ (2 < mN u s ∧ mEd u s + mIn u s ≤ 40)) := h_20
      refine j_if_ne SS (tgt := 29) (x := z_20) dX12_pieces_23 (by decide) (by omega) (fun c_23 => ?_) (fun c_23 => ?_)
      · skip
        refine lv_aload_n SS.1 SS.2.1 dX12_pieces_29 rfl (lv_at hl 0 rfl) ?_
        refine lv_iload_n SS.1 SS.2.1 dX12_pieces_30 rfl (lv_at hl 1 rfl) ?_
        refine j_vWv SS (As := [.int (J s)]) (rest := []) (c_X12_findPieces l D o q u A (mW_D hD) s (show IM u from (p0)) (show 0 ≤ s ∧ s ≤ 7 from (by omega)) (show 2 < mN u s from (by omega)) (show mEd u s + mIn u s ≤ 40 from (by omega))) mf_X12_findPieces kw_1479 hG hP hP (ci := 8) (q0 := 0) rfl rfl rfl hS (fun _ h => h) rfl hl.1 ⟨⟨Nat.le_of_ble_eq_true rfl, Nat.le_of_ble_eq_true rfl⟩, Nat.le_of_ble_eq_true rfl, Nat.le_refl _, Nat.le_refl _⟩ rfl dX12_pieces_31 (fun u31 H locs h_31 hP _ hS => ?_)
        obtain ⟨X_31, Y_31, n_31, C_31, m_31, rfl, h_31⟩ := h_31
        have hP : va_P D.1 j_cl (mW D o q (uV (uL (uV (uI (uI u 10 X_31) 11 Y_31) 12 n_31) 29 C_31) 30 m_31)) H := hP
        have h_31 : (0 ≤ m_31 ∧ m_31 ≤ 80) ∧ IM (uV (uL (uV (uI (uI u 10 X_31) 11 Y_31) 12 n_31) 29 C_31) 30 m_31) := h_31
        obtain ⟨hm, hI⟩ := h_31
        refine lv_iload_n SS.1 SS.2.1 dX12_pieces_34 rfl (lv_at hl 2 rfl) ?_
        refine j_if_ne SS (tgt := 43) (x := what) dX12_pieces_35 (by decide) (by omega) (fun c_35 => ?_) (fun c_35 => ?_)
        · skip
          refine lv_lconst (v := 0) SS.1 SS.2.1 dX12_pieces_43 (by decide +kernel) ?_
          refine lv_lstore_n (lv' := [(3, .long 0), (0, .ref o), (1, .int (J s)), (2, .int (J what))]) SS.1 SS.2.1 dX12_pieces_44 rfl hl (by decide) rfl (fun ls hl => ?_)
          refine j_iconst SS dX12_pieces_45 ?_
          refine lv_istore (lv' := [(5, .int (J 0)), (3, .long 0), (0, .ref o), (1, .int (J s)), (2, .int (J what))]) SS.1 SS.2.1 dX12_pieces_46 hl (by decide) rfl (fun ls hl => ?_)
          refine j_iconst SS dX12_pieces_48 ?_
          refine lv_istore (lv' := [(6, .int (J 0)), (5, .int (J 0)), (3, .long 0), (0, .ref o), (1, .int (J s)), (2, .int (J what))]) SS.1 SS.2.1 dX12_pieces_49 hl (by decide) rfl (fun ls hl => ?_)
          have L_51 : ∀ (nn : Nat) (w : Int64) (n9 : Int) (p : Int) (H : Heap) (locs : List Loc) (hP : va_P D.1 j_cl (mW D o q (uV (uL (uV (uI (uI u 10 X_31) 11 Y_31) 12 n_31) 29 C_31) 30 m_31)) H) (hS : va_S A st.heap H locs) (ls : Array Slot) (hl : lv_has ls 9 [(0, .ref o), (1, .int (J s)), (2, .int (J what)), (3, .long w), (5, .int (J n9)), (6, .int (J p))]) (i51_0 : 0 ≤ p ∧ p ≤ m_31) (i51_1 : 0 ≤ n9 ∧ n9 ≤ p), (m_31 - p).toNat < nn → W pr l en (headSpec (jw yX12_pieces cX12_pieces 9 (some .int)) (jr 6 131)).room st mi (([.ref o, .int (J s), .int (J what)] : List Value).toArray) below meth co H locs 0 0 (MQ below (jWi (fun z u' => ∃ X : Nat → Int, ∃ Y : Nat → Int, ∃ n : Int, ∃ C : Nat → Int64, ∃ m : Int, u' = (uV (uL (uV (uI (uI u 10 X) 11 Y) 12 n) 29 C) 30 m) ∧ (IM u')) (fun u' H => va_P D.1 j_cl (mW D o q u') H) A) (([.ref o, .int (J s), .int (J what)] : List Value).toArray) st 0 0 A) (F0 mi 51 ls []) := by
            intro nn
            induction nn with
            | zero => intros; omega
            | succ nn ih_51 =>
              intro w n9 p  H locs hP hS ls hl i51_0 i51_1 hm
              refine lv_iload SS.1 SS.2.1 dX12_pieces_51 (lv_at hl 5 rfl) ?_
              refine lv_aload_n SS.1 SS.2.1 dX12_pieces_53 rfl (lv_at hl 0 rfl) ?_
              refine j_get SS hG hP 0 (v := .int (J m_31)) (C := RX12) (T := TX12) (N := 31) rfl rfl inX12 30 (by decide) (ref := RX12) kw_1088 rfl rfl dX12_pieces_54 ?_
              refine j_icmp_ge SS (tgt := 128) (x := p) (y := m_31) dX12_pieces_57 (by decide) (by omega) (by omega) (fun c_57 => ?_) (fun c_57 => ?_)
              · skip
                refine lv_iload_n SS.1 SS.2.1 dX12_pieces_128 rfl (lv_at hl 2 rfl) ?_
                refine j_iconst SS dX12_pieces_129 ?_
                refine j_icmp_ne SS (tgt := 140) (x := what) (y := 1) dX12_pieces_130 (by decide) (by omega) (by decide) (fun c_130 => ?_) (fun c_130 => ?_)
                · skip
                  refine lv_iload SS.1 SS.2.1 dX12_pieces_140 (lv_at hl 4 rfl) ?_
                  exact W.iret SS.1 SS.2.1 hr (fun t ht hW => ⟨⟨_, (uV (uL (uV (uI (uI u 10 X_31) 11 Y_31) 12 n_31) 29 C_31) 30 m_31), rfl, ⟨n9, rfl, (⟨X_31, Y_31, n_31, C_31, m_31, rfl, hI⟩)⟩, by show va_P D.1 j_cl (mW D o q (uV (uL (uV (uI (uI u 10 X_31) 11 Y_31) 12 n_31) 29 C_31) 30 m_31)) t.heap; rw [ht]; exact hP⟩, hS.F ht⟩) hS.2.2 dX12_pieces_142 hlk
                · skip
                  refine lv_lload_n SS.1 SS.2.1 dX12_pieces_133 rfl (lv_at hl 3 rfl) ?_
                  refine j_sRi SS (As := [.long w]) (rest := []) (c_X12_bitsIn l D w ) mf_X12_bitsIn kw_1490 hG trivial rfl hl.1 ⟨⟨Nat.le_of_ble_eq_true rfl, Nat.le_of_ble_eq_true rfl⟩, Nat.le_of_ble_eq_true rfl, Nat.le_refl _, Nat.le_refl _⟩ rfl dX12_pieces_134 (fun z_134 h_134 => ?_)
                  have h_134 : z_134 = smI (bvI w) 40 ∧ 0 ≤ z_134 ∧ z_134 ≤ 40 := h_134
                  refine lv_goto (tgt := 142) SS.1 SS.2.1 dX12_pieces_137 (by decide) ?_
                  exact W.iret SS.1 SS.2.1 hr (fun t ht hW => ⟨⟨_, (uV (uL (uV (uI (uI u 10 X_31) 11 Y_31) 12 n_31) 29 C_31) 30 m_31), rfl, ⟨z_134, rfl, (⟨X_31, Y_31, n_31, C_31, m_31, rfl, hI⟩)⟩, by show va_P D.1 j_cl (mW D o q (uV (uL (uV (uI (uI u 10 X_31) 11 Y_31) 12 n_31) 29 C_31) 30 m_31)) t.heap; rw [ht]; exact hP⟩, hS.F ht⟩) hS.2.2 dX12_pieces_142 hlk
              · skip
                refine lv_aload_n SS.1 SS.2.1 dX12_pieces_60 rfl (lv_at hl 0 rfl) ?_
                refine j_get SS hG hP 0 (v := .ref (q 29)) (C := RX12) (T := TX12) (N := 31) rfl rfl inX12 29 (by decide) (ref := RX12) kw_1087 rfl rfl dX12_pieces_61 ?_
                refine lv_iload SS.1 SS.2.1 dX12_pieces_64 (lv_at hl 5 rfl) ?_
                refine j_lald SS hG hP 23 (n := 100) (f := C_31) rfl (z := p) (by omega) (by omega) dX12_pieces_66 ?_
                refine lv_lstore (lv' := [(7, .long (C_31 (p).toNat)), (0, .ref o), (1, .int (J s)), (2, .int (J what)), (3, .long w), (5, .int (J n9)), (6, .int (J p))]) SS.1 SS.2.1 dX12_pieces_67 hl (by decide) rfl (fun ls hl => ?_)
                refine lv_lload_n SS.1 SS.2.1 dX12_pieces_69 rfl (lv_at hl 4 rfl) ?_
                refine lv_lload SS.1 SS.2.1 dX12_pieces_70 (lv_at hl 0 rfl) ?_
                refine lv_lor SS.1 SS.2.1 dX12_pieces_72 ?_
                refine lv_lstore_n (lv' := [(3, .long (w ||| (C_31 (p).toNat))), (7, .long (C_31 (p).toNat)), (0, .ref o), (1, .int (J s)), (2, .int (J what)), (5, .int (J n9)), (6, .int (J p))]) SS.1 SS.2.1 dX12_pieces_73 rfl hl (by decide) rfl (fun ls hl => ?_)
                refine lv_iload SS.1 SS.2.1 dX12_pieces_74 (lv_at hl 5 rfl) ?_
                refine lv_lload SS.1 SS.2.1 dX12_pieces_76 (lv_at hl 1 rfl) ?_
                refine j_sRi SS (As := [.long (C_31 (p).toNat)]) (rest := [.int (J n9)]) (c_X12_bitsIn l D (C_31 (p).toNat) ) mf_X12_bitsIn kw_1490 hG trivial rfl hl.1 ⟨⟨Nat.le_of_ble_eq_true rfl, Nat.le_of_ble_eq_true rfl⟩, Nat.le_of_ble_eq_true rfl, Nat.le_refl _, Nat.le_refl _⟩ rfl dX12_pieces_78 (fun z_78 h_78 => ?_)
                have h_78 : z_78 = smI (bvI (C_31 (p).toNat)) 40 ∧ 0 ≤ z_78 ∧ z_78 ≤ 40 := h_78
                have h3 := h_78
                refine j_iconst SS dX12_pieces_81 ?_
                refine j_icmp_ne SS (tgt := 118) (x := z_78) (y := 3) dX12_pieces_82 (by decide) (by omega) (by decide) (fun c_82 => ?_) (fun c_82 => ?_)
                · skip
                  refine j_iconst SS dX12_pieces_118 ?_
                  refine j_iadd SS (x := n9) (y := 0) dX12_pieces_119 ?_
                  refine lv_istore (lv' := [(5, .int (J (n9 + 0))), (3, .long (w ||| (C_31 (p).toNat))), (7, .long (C_31 (p).toNat)), (0, .ref o), (1, .int (J s)), (2, .int (J what)), (6, .int (J p))]) SS.1 SS.2.1 dX12_pieces_120 hl (by decide) rfl (fun ls hl => ?_)
                  refine lv_iinc (v := J (p + 1)) (lv' := [(6, .int (J (p + 1))), (5, .int (J (n9 + 0))), (3, .long (w ||| (C_31 (p).toNat))), (7, .long (C_31 (p).toNat)), (0, .ref o), (1, .int (J s)), (2, .int (J what))]) SS.1 SS.2.1 dX12_pieces_122 hl (k := 6) rfl (J_add _ _) (by decide) rfl (fun ls hl => ?_)
                  refine lv_goto (tgt := 51) SS.1 SS.2.1 dX12_pieces_125 (by decide) ?_
                  exact ih_51 (w ||| (C_31 (p).toNat)) (n9 + 0) (p + 1) _ _ hP hS ls (lv_sub hl [4, 5, 6, 2, 1, 0] rfl) (by omega) (by omega) (by omega)
                · skip
                  refine lv_aload_n SS.1 SS.2.1 dX12_pieces_85 rfl (lv_at hl 2 rfl) ?_
                  refine lv_lload SS.1 SS.2.1 dX12_pieces_86 (lv_at hl 1 rfl) ?_
                  refine j_iconst SS dX12_pieces_88 ?_
                  have h3 : z_78 = 3 := by omega
                  have h3e : smI (bvI (C_31 (p).toNat)) 40 = 3 := by omega
                  refine j_sRi SS (As := [.long (C_31 (p).toNat), .int (J 0)]) (rest := [.ref o, .int (J n9)]) (c_X12_bitAt l D (C_31 (p).toNat) 0 (show -2147483648 ≤ (0 : Int) ∧ (0 : Int) ≤ 2147483647 from (by omega))) mf_X12_bitAt kw_1493 hG trivial rfl hl.1 ⟨⟨Nat.le_of_ble_eq_true rfl, Nat.le_of_ble_eq_true rfl⟩, Nat.le_of_ble_eq_true rfl, Nat.le_refl _, Nat.le_refl _⟩ rfl dX12_pieces_89 (fun z_89 h_89 => ?_)
                  have h_89 : (z_89 = -9 ∧ (0 ≤ (0 : Int) → smI (bvI (C_31 (p).toNat)) 40 ≤ (0 : Int))) ∨ (0 ≤ z_89 ∧ z_89 < 40) := h_89
                  refine lv_lload SS.1 SS.2.1 dX12_pieces_92 (lv_at hl 1 rfl) ?_
                  refine j_iconst SS dX12_pieces_94 ?_
                  refine j_sRi SS (As := [.long (C_31 (p).toNat), .int (J 1)]) (rest := [.int (J z_89), .ref o, .int (J n9)]) (c_X12_bitAt l D (C_31 (p).toNat) 1 (show -2147483648 ≤ (1 : Int) ∧ (1 : Int) ≤ 2147483647 from (by omega))) mf_X12_bitAt kw_1493 hG trivial rfl hl.1 ⟨⟨Nat.le_of_ble_eq_true rfl, Nat.le_of_ble_eq_true rfl⟩, Nat.le_of_ble_eq_true rfl, Nat.le_refl _, Nat.le_refl _⟩ rfl dX12_pieces_95 (fun z_95 h_95 => ?_)
                  have h_95 : (z_95 = -9 ∧ (0 ≤ (1 : Int) → smI (bvI (C_31 (p).toNat)) 40 ≤ (1 : Int))) ∨ (0 ≤ z_95 ∧ z_95 < 40) := h_95
                  refine lv_lload SS.1 SS.2.1 dX12_pieces_98 (lv_at hl 1 rfl) ?_
                  refine j_iconst SS dX12_pieces_100 ?_
                  refine j_sRi SS (As := [.long (C_31 (p).toNat), .int (J 2)]) (rest := [.int (J z_95), .int (J z_89), .ref o, .int (J n9)]) (c_X12_bitAt l D (C_31 (p).toNat) 2 (show -2147483648 ≤ (2 : Int) ∧ (2 : Int) ≤ 2147483647 from (by omega))) mf_X12_bitAt kw_1493 hG trivial rfl hl.1 ⟨⟨Nat.le_of_ble_eq_true rfl, Nat.le_of_ble_eq_true rfl⟩, Nat.le_of_ble_eq_true rfl, Nat.le_refl _, Nat.le_refl _⟩ rfl dX12_pieces_101 (fun z_101 h_101 => ?_)
                  have h_101 : (z_101 = -9 ∧ (0 ≤ (2 : Int) → smI (bvI (C_31 (p).toNat)) 40 ≤ (2 : Int))) ∨ (0 ≤ z_101 ∧ z_101 < 40) := h_101
                  refine j_vRi SS (As := [.int (J z_89), .int (J z_95), .int (J z_101)]) (rest := [.int (J n9)]) (c_X12_turn l D o q (uV (uL (uV (uI (uI u 10 X_31) 11 Y_31) 12 n_31) 29 C_31) 30 m_31) z_89 z_95 z_101 (show 0 ≤ z_89 ∧ z_89 < 6561 from (by omega)) (show 0 ≤ z_95 ∧ z_95 < 6561 from (by omega)) (show 0 ≤ z_101 ∧ z_101 < 6561 from (by omega)) (show bd 40 (X_31) (Y_31) 6561 from (hI.2.2))) mf_X12_turn kw_1427 hG hP hP (ci := 8) (q0 := 0) rfl rfl rfl rfl hl.1 ⟨⟨Nat.le_of_ble_eq_true rfl, Nat.le_of_ble_eq_true rfl⟩, Nat.le_of_ble_eq_true rfl, Nat.le_refl _, Nat.le_refl _⟩ rfl dX12_pieces_104 (fun z_104 h_104 => ?_)
                  have h_104 : z_104 = tn (X_31) (Y_31) z_89.toNat z_95.toNat z_101.toNat ∧ -12800 ≤ z_104 ∧ z_104 ≤ 12800 := h_104
                  refine j_sRi SS (As := [.int (J z_104)]) (rest := [.int (J n9)]) (c_X12_size l D z_104 (show -2147483648 < z_104 ∧ z_104 ≤ 2147483647 from (by omega))) mf_X12_size kw_1233 hG trivial rfl hl.1 ⟨⟨Nat.le_of_ble_eq_true rfl, Nat.le_of_ble_eq_true rfl⟩, Nat.le_of_ble_eq_true rfl, Nat.le_refl _, Nat.le_refl _⟩ rfl dX12_pieces_107 (fun z_107 h_107 => ?_)
                  have h_107 : (0 ≤ z_104 → z_107 = z_104) ∧ (z_104 < 0 → z_107 = -z_104) := h_107
                  refine j_iconst SS dX12_pieces_110 ?_
                  refine j_icmp_ne SS (tgt := 118) (x := z_107) (y := 1) dX12_pieces_111 (by decide) (by omega) (by decide) (fun c_111 => ?_) (fun c_111 => ?_)
                  · skip
                    refine j_iconst SS dX12_pieces_118 ?_
                    refine j_iadd SS (x := n9) (y := 0) dX12_pieces_119 ?_
                    refine lv_istore (lv' := [(5, .int (J (n9 + 0))), (3, .long (w ||| (C_31 (p).toNat))), (7, .long (C_31 (p).toNat)), (0, .ref o), (1, .int (J s)), (2, .int (J what)), (6, .int (J p))]) SS.1 SS.2.1 dX12_pieces_120 hl (by decide) rfl (fun ls hl => ?_)
                    refine lv_iinc (v := J (p + 1)) (lv' := [(6, .int (J (p + 1))), (5, .int (J (n9 + 0))), (3, .long (w ||| (C_31 (p).toNat))), (7, .long (C_31 (p).toNat)), (0, .ref o), (1, .int (J s)), (2, .int (J what))]) SS.1 SS.2.1 dX12_pieces_122 hl (k := 6) rfl (J_add _ _) (by decide) rfl (fun ls hl => ?_)
                    refine lv_goto (tgt := 51) SS.1 SS.2.1 dX12_pieces_125 (by decide) ?_
                    exact ih_51 (w ||| (C_31 (p).toNat)) (n9 + 0) (p + 1) _ _ hP hS ls (lv_sub hl [4, 5, 6, 2, 1, 0] rfl) (by omega) (by omega) (by omega)
                  · skip
                    refine j_iconst SS dX12_pieces_114 ?_
                    refine lv_goto (tgt := 119) SS.1 SS.2.1 dX12_pieces_115 (by decide) ?_
                    refine j_iadd SS (x := n9) (y := 1) dX12_pieces_119 ?_
                    refine lv_istore (lv' := [(5, .int (J (n9 + 1))), (3, .long (w ||| (C_31 (p).toNat))), (7, .long (C_31 (p).toNat)), (0, .ref o), (1, .int (J s)), (2, .int (J what)), (6, .int (J p))]) SS.1 SS.2.1 dX12_pieces_120 hl (by decide) rfl (fun ls hl => ?_)
                    refine lv_iinc (v := J (p + 1)) (lv' := [(6, .int (J (p + 1))), (5, .int (J (n9 + 1))), (3, .long (w ||| (C_31 (p).toNat))), (7, .long (C_31 (p).toNat)), (0, .ref o), (1, .int (J s)), (2, .int (J what))]) SS.1 SS.2.1 dX12_pieces_122 hl (k := 6) rfl (J_add _ _) (by decide) rfl (fun ls hl => ?_)
                    refine lv_goto (tgt := 51) SS.1 SS.2.1 dX12_pieces_125 (by decide) ?_
                    exact ih_51 (w ||| (C_31 (p).toNat)) (n9 + 1) (p + 1) _ _ hP hS ls (lv_sub hl [4, 5, 6, 2, 1, 0] rfl) (by omega) (by omega) (by omega)
          exact L_51 ((m_31 - (0 : Int)).toNat + 1) 0 0 0 _ _ hP hS ls (lv_sub hl [3, 4, 5, 2, 1, 0] rfl) (by omega) (by omega) (Nat.lt_succ_self _)
        · skip
          refine lv_aload_n SS.1 SS.2.1 dX12_pieces_38 rfl (lv_at hl 0 rfl) ?_
          refine j_get SS hG hP 0 (v := .int (J m_31)) (C := RX12) (T := TX12) (N := 31) rfl rfl inX12 30 (by decide) (ref := RX12) kw_1088 rfl rfl dX12_pieces_39 ?_
          exact W.iret SS.1 SS.2.1 hr (fun t ht hW => ⟨⟨_, (uV (uL (uV (uI (uI u 10 X_31) 11 Y_31) 12 n_31) 29 C_31) 30 m_31), rfl, ⟨m_31, rfl, (⟨X_31, Y_31, n_31, C_31, m_31, rfl, hI⟩)⟩, by show va_P D.1 j_cl (mW D o q (uV (uL (uV (uI (uI u 10 X_31) 11 Y_31) 12 n_31) 29 C_31) 30 m_31)) t.heap; rw [ht]; exact hP⟩, hS.F ht⟩) hS.2.2 dX12_pieces_42 hlk
      · skip
        refine j_bipush SS dX12_pieces_26 (by decide +kernel) ?_
        exact W.iret SS.1 SS.2.1 hr (fun t ht hW => ⟨⟨_, (uV (uL (uV (uI (uI u 10 (u.1 10)) 11 (u.1 11)) 12 (u.2.2 12)) 29 (u.2.1 29)) 30 (u.2.2 30)), rfl, ⟨(-2), rfl, (⟨(u.1 10), (u.1 11), (u.2.2 12), (u.2.1 29), (u.2.2 30), rfl, p0⟩)⟩, by show va_P D.1 j_cl (mW D o q (uV (uL (uV (uI (uI u 10 (u.1 10)) 11 (u.1 11)) 12 (u.2.2 12)) 29 (u.2.1 29)) 30 (u.2.2 30))) t.heap; rw [ht]; exact hP⟩, hS.F ht⟩) hS.2.2 dX12_pieces_28 hlk
    · skip
      refine j_iconst SS dX12_pieces_16 ?_
      exact W.iret SS.1 SS.2.1 hr (fun t ht hW => ⟨⟨_, (uV (uL (uV (uI (uI u 10 (u.1 10)) 11 (u.1 11)) 12 (u.2.2 12)) 29 (u.2.1 29)) 30 (u.2.2 30)), rfl, ⟨(-1), rfl, (⟨(u.1 10), (u.1 11), (u.2.2 12), (u.2.1 29), (u.2.2 30), rfl, p0⟩)⟩, by show va_P D.1 j_cl (mW D o q (uV (uL (uV (uI (uI u 10 (u.1 10)) 11 (u.1 11)) 12 (u.2.2 12)) 29 (u.2.1 29)) 30 (u.2.2 30))) t.heap; rw [ht]; exact hP⟩, hS.F ht⟩) hS.2.2 dX12_pieces_17 hlk

set_option maxHeartbeats 4000000 in
set_option maxRecDepth 100000 in
theorem c_X12_piece (l : Launch) (D : JD) (o : Nat) (q : Nat → Nat) (u : MS) (A : Nat → Prop) (hD : va_D A (mW D o q u)) (s : Int) (p : Int) (i : Int) (p0 : IM u) (p1 : -2147483648 ≤ s ∧ s ≤ 2147483647) (p2 : -2147483648 ≤ p ∧ p ≤ 2147483647) (p3 : -2147483648 ≤ i ∧ i ≤ 2147483647) : Met l yX12_piece (jw yX12_piece cX12_piece 5 (some .int)) (jr 6 131) (jP [.ref o, .int (J s), .int (J p), .int (J i)] D (fun H => va_P D.1 j_cl (mW D o q u) H)) (jWi (fun z u' => ∃ X : Nat → Int, ∃ Y : Nat → Int, ∃ n : Int, ∃ C : Nat → Int64, ∃ m : Int, u' = (uV (uL (uV (uI (uI u 10 X) 11 Y) 12 n) 29 C) 30 m) ∧ (IM u')) (fun u' H => va_P D.1 j_cl (mW D o q u') H) A) 0 0 A := by
  refine Met.ofW (cc := cX12_piece) (maxL := 5) (ret := (some .int)) (by decide) rfl ?_
  intro pr en st mi args below meth co s₁ B hml hv
  obtain ⟨rfl, hG, hP⟩ := hv
  have hr := B.returns
  have hlk := B.notSynchronized
  have SS : jS pr mi co cX12_piece 5 st _ RX12 := ⟨B.exec, B.bytes, hml, findClass_of_methodNamed B.named, fun w hw => atoms_spec (ws := (jw yX12_piece cX12_piece 5 (some .int))) B.pre w (List.mem_cons_of_mem _ hw)⟩
  have hl := lv_entry ([.ref o, .int (J s), .int (J p), .int (J i)]) (n := 5) (Nat.le_of_ble_eq_true rfl)
  rw [lg_entry_eq]
  generalize (lg_sl ([.ref o, .int (J s), .int (J p), .int (J i)]) ++ List.replicate (5 - (lg_sl ([.ref o, .int (J s), .int (J p), .int (J i)])).length) Slot.unset).toArray = ls at hl ⊢
  have hl : lv_has ls 5 [(0, .ref o), (1, .int (J s)), (2, .int (J p)), (3, .int (J i))] := hl
  have hS : va_S A st.heap st.heap [] := va_S.rf
  refine lv_iload_n SS.1 SS.2.1 dX12_piece_0 rfl (lv_at hl 1 rfl) ?_
  refine j_sRi SS (As := [.int (J s)]) (rest := []) (c_X12_isShape l D s (show -2147483648 ≤ s ∧ s ≤ 2147483647 from (by omega))) mf_X12_isShape kw_1156 hG trivial rfl hl.1 ⟨⟨Nat.le_of_ble_eq_true rfl, Nat.le_of_ble_eq_true rfl⟩, Nat.le_of_ble_eq_true rfl, Nat.le_refl _, Nat.le_refl _⟩ rfl dX12_piece_1 (fun z_1 h_1 => ?_)
  have h_1 : (z_1 = 1 ∧ (0 ≤ s ∧ s ≤ 7)) ∨ (z_1 = 0 ∧ ¬ (0 ≤ s ∧ s ≤ 7)) := h_1
  refine j_if_eq SS (tgt := 16) (x := z_1) dX12_piece_4 (by decide) (by omega) (fun c_4 => ?_) (fun c_4 => ?_)
  · skip
    refine j_iconst SS dX12_piece_16 ?_
    exact W.iret SS.1 SS.2.1 hr (fun t ht hW => ⟨⟨_, (uV (uL (uV (uI (uI u 10 (u.1 10)) 11 (u.1 11)) 12 (u.2.2 12)) 29 (u.2.1 29)) 30 (u.2.2 30)), rfl, ⟨(-1), rfl, (⟨(u.1 10), (u.1 11), (u.2.2 12), (u.2.1 29), (u.2.2 30), rfl, p0⟩)⟩, by show va_P D.1 j_cl (mW D o q (uV (uL (uV (uI (uI u 10 (u.1 10)) 11 (u.1 11)) 12 (u.2.2 12)) 29 (u.2.1 29)) 30 (u.2.2 30))) t.heap; rw [ht]; exact hP⟩, hS.F ht⟩) hS.2.2 dX12_piece_17 hlk
  · skip
    refine lv_iload_n SS.1 SS.2.1 dX12_piece_7 rfl (lv_at hl 2 rfl) ?_
    refine j_if_lt SS (tgt := 16) (x := p) dX12_piece_8 (by decide) (by omega) (fun c_8 => ?_) (fun c_8 => ?_)
    · skip
      refine j_iconst SS dX12_piece_16 ?_
      exact W.iret SS.1 SS.2.1 hr (fun t ht hW => ⟨⟨_, (uV (uL (uV (uI (uI u 10 (u.1 10)) 11 (u.1 11)) 12 (u.2.2 12)) 29 (u.2.1 29)) 30 (u.2.2 30)), rfl, ⟨(-1), rfl, (⟨(u.1 10), (u.1 11), (u.2.2 12), (u.2.1 29), (u.2.2 30), rfl, p0⟩)⟩, by show va_P D.1 j_cl (mW D o q (uV (uL (uV (uI (uI u 10 (u.1 10)) 11 (u.1 11)) 12 (u.2.2 12)) 29 (u.2.1 29)) 30 (u.2.2 30))) t.heap; rw [ht]; exact hP⟩, hS.F ht⟩) hS.2.2 dX12_piece_17 hlk
    · skip
      refine lv_iload_n SS.1 SS.2.1 dX12_piece_11 rfl (lv_at hl 3 rfl) ?_
      refine j_iconst SS dX12_piece_12 ?_
      refine j_icmp_ge SS (tgt := 18) (x := i) (y := (-1)) dX12_piece_13 (by decide) (by omega) (by decide) (fun c_13 => ?_) (fun c_13 => ?_)
      · skip
        refine lv_aload_n SS.1 SS.2.1 dX12_piece_18 rfl (lv_at hl 0 rfl) ?_
        refine lv_iload_n SS.1 SS.2.1 dX12_piece_19 rfl (lv_at hl 1 rfl) ?_
        refine j_vRi SS (As := [.int (J s)]) (rest := []) (c_X12_isLifted l D o q u s (show 0 ≤ s ∧ s ≤ 7 from (by omega)) (show Sh u s from (p0.1 _ (by omega) (by omega)))) mf_X12_isLifted kw_1471 hG hP hP (ci := 8) (q0 := 0) rfl rfl rfl rfl hl.1 ⟨⟨Nat.le_of_ble_eq_true rfl, Nat.le_of_ble_eq_true rfl⟩, Nat.le_of_ble_eq_true rfl, Nat.le_refl _, Nat.le_refl _⟩ rfl dX12_piece_20 (fun z_20 h_20 => ?_)
        have h_20 : (z_20 = 1 ∧ 2 < mN u s ∧ mEd u s + mIn u s ≤ 40) ∨ (z_20 = 0 ∧ ¬ (2 < mN u s ∧ mEd u s + mIn u s ≤ 40)) := h_20
        refine j_if_ne SS (tgt := 29) (x := z_20) dX12_piece_23 (by decide) (by omega) (fun c_23 => ?_) (fun c_23 => ?_)
        · skip
          refine lv_aload_n SS.1 SS.2.1 dX12_piece_29 rfl (lv_at hl 0 rfl) ?_
          refine lv_iload_n SS.1 SS.2.1 dX12_piece_30 rfl (lv_at hl 1 rfl) ?_
          refine j_vWv SS (As := [.int (J s)]) (rest := []) (c_X12_findPieces l D o q u A (mW_D hD) s (show IM u from (p0)) (show 0 ≤ s ∧ s ≤ 7 from (by omega)) (show 2 < mN u s from (by omega)) (show mEd u s + mIn u s ≤ 40 from (by omega))) mf_X12_findPieces kw_1479 hG hP hP (ci := 8) (q0 := 0) rfl rfl rfl hS (fun _ h => h) rfl hl.1 ⟨⟨Nat.le_of_ble_eq_true rfl, Nat.le_of_ble_eq_true rfl⟩, Nat.le_of_ble_eq_true rfl, Nat.le_refl _, Nat.le_refl _⟩ rfl dX12_piece_31 (fun u31 H locs h_31 hP _ hS => ?_)
          obtain ⟨X_31, Y_31, n_31, C_31, m_31, rfl, h_31⟩ := h_31
          have hP : va_P D.1 j_cl (mW D o q (uV (uL (uV (uI (uI u 10 X_31) 11 Y_31) 12 n_31) 29 C_31) 30 m_31)) H := hP
          have h_31 : (0 ≤ m_31 ∧ m_31 ≤ 80) ∧ IM (uV (uL (uV (uI (uI u 10 X_31) 11 Y_31) 12 n_31) 29 C_31) 30 m_31) := h_31
          obtain ⟨hm, hI⟩ := h_31
          refine lv_iload_n SS.1 SS.2.1 dX12_piece_34 rfl (lv_at hl 2 rfl) ?_
          refine lv_aload_n SS.1 SS.2.1 dX12_piece_35 rfl (lv_at hl 0 rfl) ?_
          refine j_get SS hG hP 0 (v := .int (J m_31)) (C := RX12) (T := TX12) (N := 31) rfl rfl inX12 30 (by decide) (ref := RX12) kw_1088 rfl rfl dX12_piece_36 ?_
          refine j_icmp_lt SS (tgt := 44) (x := p) (y := m_31) dX12_piece_39 (by decide) (by omega) (by omega) (fun c_39 => ?_) (fun c_39 => ?_)
          · skip
            refine lv_iload_n SS.1 SS.2.1 dX12_piece_44 rfl (lv_at hl 3 rfl) ?_
            refine j_if_ge SS (tgt := 53) (x := i) dX12_piece_45 (by decide) (by omega) (fun c_45 => ?_) (fun c_45 => ?_)
            · skip
              refine lv_aload_n SS.1 SS.2.1 dX12_piece_53 rfl (lv_at hl 0 rfl) ?_
              refine j_get SS hG hP 0 (v := .ref (q 29)) (C := RX12) (T := TX12) (N := 31) rfl rfl inX12 29 (by decide) (ref := RX12) kw_1087 rfl rfl dX12_piece_54 ?_
              refine lv_iload_n SS.1 SS.2.1 dX12_piece_57 rfl (lv_at hl 2 rfl) ?_
              refine j_lald SS hG hP 23 (n := 100) (f := C_31) rfl (z := p) (by omega) (by omega) dX12_piece_58 ?_
              refine lv_iload_n SS.1 SS.2.1 dX12_piece_59 rfl (lv_at hl 3 rfl) ?_
              refine j_sRi SS (As := [.long (C_31 (p).toNat), .int (J i)]) (rest := []) (c_X12_bitAt l D (C_31 (p).toNat) i (show -2147483648 ≤ i ∧ i ≤ 2147483647 from (by omega))) mf_X12_bitAt kw_1493 hG trivial rfl hl.1 ⟨⟨Nat.le_of_ble_eq_true rfl, Nat.le_of_ble_eq_true rfl⟩, Nat.le_of_ble_eq_true rfl, Nat.le_refl _, Nat.le_refl _⟩ rfl dX12_piece_60 (fun z_60 h_60 => ?_)
              have h_60 : (z_60 = -9 ∧ (0 ≤ i → smI (bvI (C_31 (p).toNat)) 40 ≤ i)) ∨ (0 ≤ z_60 ∧ z_60 < 40) := h_60
              refine lv_istore (lv' := [(4, .int (J z_60)), (0, .ref o), (1, .int (J s)), (2, .int (J p)), (3, .int (J i))]) SS.1 SS.2.1 dX12_piece_63 hl (by decide) rfl (fun ls hl => ?_)
              refine lv_iload_n SS.1 SS.2.1 dX12_piece_65 rfl (lv_at hl 4 rfl) ?_
              refine j_if_ge SS (tgt := 81) (x := i) dX12_piece_66 (by decide) (by omega) (fun c_66 => ?_) (fun c_66 => ?_)
              · skip
                refine lv_iload SS.1 SS.2.1 dX12_piece_81 (lv_at hl 0 rfl) ?_
                refine j_bipush SS dX12_piece_83 (by decide +kernel) ?_
                refine j_icmp_ne SS (tgt := 92) (x := z_60) (y := (-9)) dX12_piece_85 (by decide) (by omega) (by decide) (fun c_85 => ?_) (fun c_85 => ?_)
                · skip
                  refine lv_iload SS.1 SS.2.1 dX12_piece_92 (lv_at hl 0 rfl) ?_
                  exact W.iret SS.1 SS.2.1 hr (fun t ht hW => ⟨⟨_, (uV (uL (uV (uI (uI u 10 X_31) 11 Y_31) 12 n_31) 29 C_31) 30 m_31), rfl, ⟨z_60, rfl, (⟨X_31, Y_31, n_31, C_31, m_31, rfl, hI⟩)⟩, by show va_P D.1 j_cl (mW D o q (uV (uL (uV (uI (uI u 10 X_31) 11 Y_31) 12 n_31) 29 C_31) 30 m_31)) t.heap; rw [ht]; exact hP⟩, hS.F ht⟩) hS.2.2 dX12_piece_94 hlk
                · skip
                  refine j_iconst SS dX12_piece_88 ?_
                  refine lv_goto (tgt := 94) SS.1 SS.2.1 dX12_piece_89 (by decide) ?_
                  exact W.iret SS.1 SS.2.1 hr (fun t ht hW => ⟨⟨_, (uV (uL (uV (uI (uI u 10 X_31) 11 Y_31) 12 n_31) 29 C_31) 30 m_31), rfl, ⟨(-1), rfl, (⟨X_31, Y_31, n_31, C_31, m_31, rfl, hI⟩)⟩, by show va_P D.1 j_cl (mW D o q (uV (uL (uV (uI (uI u 10 X_31) 11 Y_31) 12 n_31) 29 C_31) 30 m_31)) t.heap; rw [ht]; exact hP⟩, hS.F ht⟩) hS.2.2 dX12_piece_94 hlk
              · skip
                refine lv_aload_n SS.1 SS.2.1 dX12_piece_69 rfl (lv_at hl 1 rfl) ?_
                refine j_get SS hG hP 0 (v := .ref (q 29)) (C := RX12) (T := TX12) (N := 31) rfl rfl inX12 29 (by decide) (ref := RX12) kw_1087 rfl rfl dX12_piece_70 ?_
                refine lv_iload_n SS.1 SS.2.1 dX12_piece_73 rfl (lv_at hl 3 rfl) ?_
                refine j_lald SS hG hP 23 (n := 100) (f := C_31) rfl (z := p) (by omega) (by omega) dX12_piece_74 ?_
                refine j_sRi SS (As := [.long (C_31 (p).toNat)]) (rest := []) (c_X12_bitsIn l D (C_31 (p).toNat) ) mf_X12_bitsIn kw_1490 hG trivial rfl hl.1 ⟨⟨Nat.le_of_ble_eq_true rfl, Nat.le_of_ble_eq_true rfl⟩, Nat.le_of_ble_eq_true rfl, Nat.le_refl _, Nat.le_refl _⟩ rfl dX12_piece_75 (fun z_75 h_75 => ?_)
                have h_75 : z_75 = smI (bvI (C_31 (p).toNat)) 40 ∧ 0 ≤ z_75 ∧ z_75 ≤ 40 := h_75
                refine lv_goto (tgt := 94) SS.1 SS.2.1 dX12_piece_78 (by decide) ?_
                exact W.iret SS.1 SS.2.1 hr (fun t ht hW => ⟨⟨_, (uV (uL (uV (uI (uI u 10 X_31) 11 Y_31) 12 n_31) 29 C_31) 30 m_31), rfl, ⟨z_75, rfl, (⟨X_31, Y_31, n_31, C_31, m_31, rfl, hI⟩)⟩, by show va_P D.1 j_cl (mW D o q (uV (uL (uV (uI (uI u 10 X_31) 11 Y_31) 12 n_31) 29 C_31) 30 m_31)) t.heap; rw [ht]; exact hP⟩, hS.F ht⟩) hS.2.2 dX12_piece_94 hlk
            · skip
              refine j_bipush SS dX12_piece_48 (by decide +kernel) ?_
              refine lv_goto (tgt := 63) SS.1 SS.2.1 dX12_piece_50 (by decide) ?_
              refine lv_istore (lv' := [(4, .int (J (-9))), (0, .ref o), (1, .int (J s)), (2, .int (J p)), (3, .int (J i))]) SS.1 SS.2.1 dX12_piece_63 hl (by decide) rfl (fun ls hl => ?_)
              refine lv_iload_n SS.1 SS.2.1 dX12_piece_65 rfl (lv_at hl 4 rfl) ?_
              refine j_if_ge SS (tgt := 81) (x := i) dX12_piece_66 (by decide) (by omega) (fun c_66 => ?_) (fun c_66 => ?_)
              · skip
                refine lv_iload SS.1 SS.2.1 dX12_piece_81 (lv_at hl 0 rfl) ?_
                refine j_bipush SS dX12_piece_83 (by decide +kernel) ?_
                refine j_icmp_ne SS (tgt := 92) (x := (-9)) (y := (-9)) dX12_piece_85 (by decide) (by decide) (by decide) (fun c_85 => ?_) (fun c_85 => ?_)
                · skip
                  refine lv_iload SS.1 SS.2.1 dX12_piece_92 (lv_at hl 0 rfl) ?_
                  exact W.iret SS.1 SS.2.1 hr (fun t ht hW => ⟨⟨_, (uV (uL (uV (uI (uI u 10 X_31) 11 Y_31) 12 n_31) 29 C_31) 30 m_31), rfl, ⟨(-9), rfl, (⟨X_31, Y_31, n_31, C_31, m_31, rfl, hI⟩)⟩, by show va_P D.1 j_cl (mW D o q (uV (uL (uV (uI (uI u 10 X_31) 11 Y_31) 12 n_31) 29 C_31) 30 m_31)) t.heap; rw [ht]; exact hP⟩, hS.F ht⟩) hS.2.2 dX12_piece_94 hlk
                · skip
                  refine j_iconst SS dX12_piece_88 ?_
                  refine lv_goto (tgt := 94) SS.1 SS.2.1 dX12_piece_89 (by decide) ?_
                  exact W.iret SS.1 SS.2.1 hr (fun t ht hW => ⟨⟨_, (uV (uL (uV (uI (uI u 10 X_31) 11 Y_31) 12 n_31) 29 C_31) 30 m_31), rfl, ⟨(-1), rfl, (⟨X_31, Y_31, n_31, C_31, m_31, rfl, hI⟩)⟩, by show va_P D.1 j_cl (mW D o q (uV (uL (uV (uI (uI u 10 X_31) 11 Y_31) 12 n_31) 29 C_31) 30 m_31)) t.heap; rw [ht]; exact hP⟩, hS.F ht⟩) hS.2.2 dX12_piece_94 hlk
              · skip
                refine lv_aload_n SS.1 SS.2.1 dX12_piece_69 rfl (lv_at hl 1 rfl) ?_
                refine j_get SS hG hP 0 (v := .ref (q 29)) (C := RX12) (T := TX12) (N := 31) rfl rfl inX12 29 (by decide) (ref := RX12) kw_1087 rfl rfl dX12_piece_70 ?_
                refine lv_iload_n SS.1 SS.2.1 dX12_piece_73 rfl (lv_at hl 3 rfl) ?_
                refine j_lald SS hG hP 23 (n := 100) (f := C_31) rfl (z := p) (by omega) (by omega) dX12_piece_74 ?_
                refine j_sRi SS (As := [.long (C_31 (p).toNat)]) (rest := []) (c_X12_bitsIn l D (C_31 (p).toNat) ) mf_X12_bitsIn kw_1490 hG trivial rfl hl.1 ⟨⟨Nat.le_of_ble_eq_true rfl, Nat.le_of_ble_eq_true rfl⟩, Nat.le_of_ble_eq_true rfl, Nat.le_refl _, Nat.le_refl _⟩ rfl dX12_piece_75 (fun z_75 h_75 => ?_)
                have h_75 : z_75 = smI (bvI (C_31 (p).toNat)) 40 ∧ 0 ≤ z_75 ∧ z_75 ≤ 40 := h_75
                refine lv_goto (tgt := 94) SS.1 SS.2.1 dX12_piece_78 (by decide) ?_
                exact W.iret SS.1 SS.2.1 hr (fun t ht hW => ⟨⟨_, (uV (uL (uV (uI (uI u 10 X_31) 11 Y_31) 12 n_31) 29 C_31) 30 m_31), rfl, ⟨z_75, rfl, (⟨X_31, Y_31, n_31, C_31, m_31, rfl, hI⟩)⟩, by show va_P D.1 j_cl (mW D o q (uV (uL (uV (uI (uI u 10 X_31) 11 Y_31) 12 n_31) 29 C_31) 30 m_31)) t.heap; rw [ht]; exact hP⟩, hS.F ht⟩) hS.2.2 dX12_piece_94 hlk
          · skip
            refine j_iconst SS dX12_piece_42 ?_
            exact W.iret SS.1 SS.2.1 hr (fun t ht hW => ⟨⟨_, (uV (uL (uV (uI (uI u 10 X_31) 11 Y_31) 12 n_31) 29 C_31) 30 m_31), rfl, ⟨(-1), rfl, (⟨X_31, Y_31, n_31, C_31, m_31, rfl, hI⟩)⟩, by show va_P D.1 j_cl (mW D o q (uV (uL (uV (uI (uI u 10 X_31) 11 Y_31) 12 n_31) 29 C_31) 30 m_31)) t.heap; rw [ht]; exact hP⟩, hS.F ht⟩) hS.2.2 dX12_piece_43 hlk
        · skip
          refine j_bipush SS dX12_piece_26 (by decide +kernel) ?_
          exact W.iret SS.1 SS.2.1 hr (fun t ht hW => ⟨⟨_, (uV (uL (uV (uI (uI u 10 (u.1 10)) 11 (u.1 11)) 12 (u.2.2 12)) 29 (u.2.1 29)) 30 (u.2.2 30)), rfl, ⟨(-2), rfl, (⟨(u.1 10), (u.1 11), (u.2.2 12), (u.2.1 29), (u.2.2 30), rfl, p0⟩)⟩, by show va_P D.1 j_cl (mW D o q (uV (uL (uV (uI (uI u 10 (u.1 10)) 11 (u.1 11)) 12 (u.2.2 12)) 29 (u.2.1 29)) 30 (u.2.2 30))) t.heap; rw [ht]; exact hP⟩, hS.F ht⟩) hS.2.2 dX12_piece_28 hlk
      · skip
        refine j_iconst SS dX12_piece_16 ?_
        exact W.iret SS.1 SS.2.1 hr (fun t ht hW => ⟨⟨_, (uV (uL (uV (uI (uI u 10 (u.1 10)) 11 (u.1 11)) 12 (u.2.2 12)) 29 (u.2.1 29)) 30 (u.2.2 30)), rfl, ⟨(-1), rfl, (⟨(u.1 10), (u.1 11), (u.2.2 12), (u.2.1 29), (u.2.2 30), rfl, p0⟩)⟩, by show va_P D.1 j_cl (mW D o q (uV (uL (uV (uI (uI u 10 (u.1 10)) 11 (u.1 11)) 12 (u.2.2 12)) 29 (u.2.1 29)) 30 (u.2.2 30))) t.heap; rw [ht]; exact hP⟩, hS.F ht⟩) hS.2.2 dX12_piece_17 hlk


theorem nx_sum {px py wx wy qx qy : Int} (h1 : cx px py wx wy = 1) (h2 : cx wx wy qx qy = 1) : px + qx = cx px py qx qy * wx ∧ py + qy = cx px py qx qy * wy := by
  have e1 : cx px py wx wy * qx + cx wx wy qx qy * px = cx px py qx qy * wx := by unfold cx; grind
  have e2 : cx px py wx wy * qy + cx wx wy qx qy * py = cx px py qx qy * wy := by unfold cx; grind
  rw [h1, h2] at e1 e2
  omega
def pl4 (a b c d : Int) : Prop := (-40 ≤ a ∧ a ≤ 40) ∧ (-40 ≤ b ∧ b ≤ 40) ∧ (-40 ≤ c ∧ c ≤ 40) ∧ -40 ≤ d ∧ d ≤ 40
/-- the answer of between -/
def btw_ (a b c d z : Int) : Prop := (¬ pl4 a b c d ∧ z = -1) ∨ (pl4 a b c d ∧ cx a b c d ≤ 0 ∧ z = -2) ∨ (pl4 a b c d ∧ 0 < cx a b c d ∧ ∃ X Y : Nat → Int, ry a b c d X Y z)
/-- the i-th of them -/
def ry_at (X Y : Nat → Int) (n i what z : Int) : Prop := (what = 0 ∧ z = X i.toNat) ∨ (what = 1 ∧ z = Y i.toNat) ∨ (what = 2 ∧ ((i = 0 ∨ i = n - 1) ∧ z = -1000000 ∨ (0 < i ∧ i < n - 1 ∧ z = cx (X (i - 1).toNat) (Y (i - 1).toNat) (X (i + 1).toNat) (Y (i + 1).toNat))))
/-- the answer of ray -/
def ray_ (a b c d i what z : Int) : Prop := (¬ (pl4 a b c d ∧ (0 ≤ what ∧ what ≤ 2) ∧ 0 < cx a b c d ∧ 0 ≤ i) ∧ z = -1000000) ∨ (pl4 a b c d ∧ (0 ≤ what ∧ what ≤ 2) ∧ 0 < cx a b c d ∧ 0 ≤ i ∧ ∃ (X Y : Nat → Int) (n : Int), ry a b c d X Y n ∧ ((n ≤ i ∧ z = -1000000) ∨ (i < n ∧ ry_at X Y n i what z)))
theorem ry_bend {a b c d : Int} {X Y : Nat → Int} {n i : Int} (h : ry a b c d X Y n) (h0 : 0 < i) (h1 : i < n - 1) : X (i - 1).toNat + X (i + 1).toNat = cx (X (i - 1).toNat) (Y (i - 1).toNat) (X (i + 1).toNat) (Y (i + 1).toNat) * X i.toNat ∧ Y (i - 1).toNat + Y (i + 1).toNat = cx (X (i - 1).toNat) (Y (i - 1).toNat) (X (i + 1).toNat) (Y (i + 1).toNat) * Y i.toNat ∧ (X i.toNat ≠ 0 ∨ Y i.toNat ≠ 0) := by
  have s1 := h.2.2.2.1 (i - 1).toNat (by omega)
  have s2 := h.2.2.2.1 i.toNat (by omega)
  rw [show (i - 1).toNat + 1 = i.toNat by omega] at s1
  rw [show i.toNat + 1 = (i + 1).toNat by omega] at s2
  have := nx_sum s1.1 s2.1
  refine ⟨this.1, this.2, ?_⟩
  apply Classical.byContradiction
  intro hn
  have e1 : X i.toNat = 0 := by omega
  have e2 : Y i.toNat = 0 := by omega
  have s := s1.1
  rw [e1, e2] at s
  unfold cx at s
  omega
theorem ry_dv {s m w : Int} (h : s = m * w) (hw : w ≠ 0) : s.tdiv w = m := by rw [h]; exact Int.mul_tdiv_cancel _ hw
theorem ry_b {a b c d : Int} {X Y : Nat → Int} {n i : Int} (h : ry a b c d X Y n) (h0 : 0 ≤ i) (h1 : i < n) : (-40 ≤ X i.toNat ∧ X i.toNat ≤ 40) ∧ -40 ≤ Y i.toNat ∧ Y i.toNat ≤ 40 := bd_at h.2.2.2.2.1 h0 h1

set_option maxHeartbeats 4000000 in
set_option maxRecDepth 100000 in
theorem c_X12_between (l : Launch) (D : JD) (o : Nat) (q : Nat → Nat) (u : MS) (A : Nat → Prop) (hD : va_D A (mW D o q u)) (a : Int) (b : Int) (c : Int) (d : Int) (p0 : IM u) (p1 : -2147483648 ≤ a ∧ a ≤ 2147483647) (p2 : -2147483648 ≤ b ∧ b ≤ 2147483647) (p3 : -2147483648 ≤ c ∧ c ≤ 2147483647) (p4 : -2147483648 ≤ d ∧ d ≤ 2147483647) : Met l yX12_between (jw yX12_between cX12_between 5 (some .int)) (jr 3 77) (jP [.ref o, .int (J a), .int (J b), .int (J c), .int (J d)] D (fun H => va_P D.1 j_cl (mW D o q u) H)) (jWi (fun z u' => ∃ X : Nat → Int, ∃ Y : Nat → Int, ∃ n : Int, u' = (uV (uI (uI u 17 X) 18 Y) 19 n) ∧ (btw_ a b c d z ∧ IM u')) (fun u' H => va_P D.1 j_cl (mW D o q u') H) A) 0 0 A := by
  refine Met.ofW (cc := cX12_between) (maxL := 5) (ret := (some .int)) (by decide) rfl ?_
  intro pr en st mi args below meth co s₁ B hml hv
  obtain ⟨rfl, hG, hP⟩ := hv
  have hr := B.returns
  have hlk := B.notSynchronized
  have SS : jS pr mi co cX12_between 5 st _ RX12 := ⟨B.exec, B.bytes, hml, findClass_of_methodNamed B.named, fun w hw => atoms_spec (ws := (jw yX12_between cX12_between 5 (some .int))) B.pre w (List.mem_cons_of_mem _ hw)⟩
  have hl := lv_entry ([.ref o, .int (J a), .int (J b), .int (J c), .int (J d)]) (n := 5) (Nat.le_of_ble_eq_true rfl)
  rw [lg_entry_eq]
  generalize (lg_sl ([.ref o, .int (J a), .int (J b), .int (J c), .int (J d)]) ++ List.replicate (5 - (lg_sl ([.ref o, .int (J a), .int (J b), .int (J c), .int (J d)])).length) Slot.unset).toArray = ls at hl ⊢
  have hl : lv_has ls 5 [(0, .ref o), (1, .int (J a)), (2, .int (J b)), (3, .int (J c)), (4, .int (J d))] := hl
  have hS : va_S A st.heap st.heap [] := va_S.rf
  refine lv_iload_n SS.1 SS.2.1 dX12_between_0 rfl (lv_at hl 1 rfl) ?_
  refine lv_iload_n SS.1 SS.2.1 dX12_between_1 rfl (lv_at hl 2 rfl) ?_
  refine j_sRi SS (As := [.int (J a), .int (J b)]) (rest := []) (c_X12_isPlace l D a b (show -2147483648 ≤ a ∧ a ≤ 2147483647 from (by omega)) (show -2147483648 ≤ b ∧ b ≤ 2147483647 from (by omega))) mf_X12_isPlace kw_1166 hG trivial rfl hl.1 ⟨⟨Nat.le_of_ble_eq_true rfl, Nat.le_of_ble_eq_true rfl⟩, Nat.le_of_ble_eq_true rfl, Nat.le_refl _, Nat.le_refl _⟩ rfl dX12_between_2 (fun z_2 h_2 => ?_)
  have h_2 : (z_2 = 1 ∧ (-40 ≤ a ∧ a ≤ 40 ∧ -40 ≤ b ∧ b ≤ 40)) ∨ (z_2 = 0 ∧ ¬ (-40 ≤ a ∧ a ≤ 40 ∧ -40 ≤ b ∧ b ≤ 40)) := h_2
  refine j_if_eq SS (tgt := 17) (x := z_2) dX12_between_5 (by decide) (by omega) (fun c_5 => ?_) (fun c_5 => ?_)
  · skip
    refine j_iconst SS dX12_between_17 ?_
    exact W.iret SS.1 SS.2.1 hr (fun t ht hW => ⟨⟨_, (uV (uI (uI u 17 (u.1 17)) 18 (u.1 18)) 19 (u.2.2 19)), rfl, ⟨(-1), rfl, (⟨(u.1 17), (u.1 18), (u.2.2 19), rfl, ⟨Or.inl ⟨fun h => by unfold pl4 at h; omega, rfl⟩, p0⟩⟩)⟩, by show va_P D.1 j_cl (mW D o q (uV (uI (uI u 17 (u.1 17)) 18 (u.1 18)) 19 (u.2.2 19))) t.heap; rw [ht]; exact hP⟩, hS.F ht⟩) hS.2.2 dX12_between_18 hlk
  · skip
    refine lv_iload_n SS.1 SS.2.1 dX12_between_8 rfl (lv_at hl 3 rfl) ?_
    refine lv_iload SS.1 SS.2.1 dX12_between_9 (lv_at hl 4 rfl) ?_
    refine j_sRi SS (As := [.int (J c), .int (J d)]) (rest := []) (c_X12_isPlace l D c d (show -2147483648 ≤ c ∧ c ≤ 2147483647 from (by omega)) (show -2147483648 ≤ d ∧ d ≤ 2147483647 from (by omega))) mf_X12_isPlace kw_1166 hG trivial rfl hl.1 ⟨⟨Nat.le_of_ble_eq_true rfl, Nat.le_of_ble_eq_true rfl⟩, Nat.le_of_ble_eq_true rfl, Nat.le_refl _, Nat.le_refl _⟩ rfl dX12_between_11 (fun z_11 h_11 => ?_)
    have h_11 : (z_11 = 1 ∧ (-40 ≤ c ∧ c ≤ 40 ∧ -40 ≤ d ∧ d ≤ 40)) ∨ (z_11 = 0 ∧ ¬ (-40 ≤ c ∧ c ≤ 40 ∧ -40 ≤ d ∧ d ≤ 40)) := h_11
    refine j_if_ne SS (tgt := 19) (x := z_11) dX12_between_14 (by decide) (by omega) (fun c_14 => ?_) (fun c_14 => ?_)
    · skip
      refine lv_aload_n SS.1 SS.2.1 dX12_between_19 rfl (lv_at hl 0 rfl) ?_
      refine lv_iload_n SS.1 SS.2.1 dX12_between_20 rfl (lv_at hl 1 rfl) ?_
      refine lv_iload_n SS.1 SS.2.1 dX12_between_21 rfl (lv_at hl 2 rfl) ?_
      refine lv_iload_n SS.1 SS.2.1 dX12_between_22 rfl (lv_at hl 3 rfl) ?_
      refine lv_iload SS.1 SS.2.1 dX12_between_23 (lv_at hl 4 rfl) ?_
      refine j_vWi SS (As := [.int (J a), .int (J b), .int (J c), .int (J d)]) (rest := []) (c_X12_findRays l D o q u A (mW_D hD) a b c d (show -40 ≤ a ∧ a ≤ 40 from (by omega)) (show -40 ≤ b ∧ b ≤ 40 from (by omega)) (show -40 ≤ c ∧ c ≤ 40 from (by omega)) (show -40 ≤ d ∧ d ≤ 40 from (by omega))) mf_X12_findRays kw_1392 hG hP hP (ci := 8) (q0 := 0) rfl rfl rfl hS (fun _ h => h) rfl hl.1 ⟨⟨Nat.le_of_ble_eq_true rfl, Nat.le_of_ble_eq_true rfl⟩, Nat.le_of_ble_eq_true rfl, Nat.le_refl _, Nat.le_refl _⟩ rfl dX12_between_25 (fun z_25 u25 H locs h_25 hP _ hS => ?_)
      obtain ⟨X_25, Y_25, n_25, rfl, h_25⟩ := h_25
      have hP : va_P D.1 j_cl (mW D o q (uV (uI (uI u 17 X_25) 18 Y_25) 19 n_25)) H := hP
      have h_25 : (z_25 = 0 ∧ cx a b c d ≤ 0) ∨ (z_25 = 1 ∧ 0 < cx a b c d ∧ ry a b c d X_25 Y_25 n_25) := h_25
      refine j_if_eq SS (tgt := 38) (x := z_25) dX12_between_28 (by decide) (by omega) (fun c_28 => ?_) (fun c_28 => ?_)
      · skip
        refine j_bipush SS dX12_between_38 (by decide +kernel) ?_
        exact W.iret SS.1 SS.2.1 hr (fun t ht hW => ⟨⟨_, (uV (uI (uI u 17 X_25) 18 Y_25) 19 n_25), rfl, ⟨(-2), rfl, (⟨X_25, Y_25, n_25, rfl, by have hp : pl4 a b c d := (by unfold pl4; omega); first | (refine ⟨Or.inr (Or.inr ⟨hp, ?_, X_25, Y_25, ?_⟩), p0⟩; (rcases h_25 with q | q; omega; exact q.2.1); (rcases h_25 with q | q; omega; exact q.2.2)) | exact ⟨Or.inr (Or.inl ⟨hp, by rcases h_25 with q | q; exact q.2; omega, rfl⟩), p0⟩⟩)⟩, by show va_P D.1 j_cl (mW D o q (uV (uI (uI u 17 X_25) 18 Y_25) 19 n_25)) t.heap; rw [ht]; exact hP⟩, hS.F ht⟩) hS.2.2 dX12_between_40 hlk
      · skip
        refine lv_aload_n SS.1 SS.2.1 dX12_between_31 rfl (lv_at hl 0 rfl) ?_
        refine j_get SS hG hP 0 (v := .int (J n_25)) (C := RX12) (T := TX12) (N := 31) rfl rfl inX12 19 (by decide) (ref := RX12) kw_1077 rfl rfl dX12_between_32 ?_
        refine lv_goto (tgt := 40) SS.1 SS.2.1 dX12_between_35 (by decide) ?_
        exact W.iret SS.1 SS.2.1 hr (fun t ht hW => ⟨⟨_, (uV (uI (uI u 17 X_25) 18 Y_25) 19 n_25), rfl, ⟨n_25, rfl, (⟨X_25, Y_25, n_25, rfl, by have hp : pl4 a b c d := (by unfold pl4; omega); first | (refine ⟨Or.inr (Or.inr ⟨hp, ?_, X_25, Y_25, ?_⟩), p0⟩; (rcases h_25 with q | q; omega; exact q.2.1); (rcases h_25 with q | q; omega; exact q.2.2)) | exact ⟨Or.inr (Or.inl ⟨hp, by rcases h_25 with q | q; exact q.2; omega, rfl⟩), p0⟩⟩)⟩, by show va_P D.1 j_cl (mW D o q (uV (uI (uI u 17 X_25) 18 Y_25) 19 n_25)) t.heap; rw [ht]; exact hP⟩, hS.F ht⟩) hS.2.2 dX12_between_40 hlk
    · skip
      refine j_iconst SS dX12_between_17 ?_
      exact W.iret SS.1 SS.2.1 hr (fun t ht hW => ⟨⟨_, (uV (uI (uI u 17 (u.1 17)) 18 (u.1 18)) 19 (u.2.2 19)), rfl, ⟨(-1), rfl, (⟨(u.1 17), (u.1 18), (u.2.2 19), rfl, ⟨Or.inl ⟨fun h => by unfold pl4 at h; omega, rfl⟩, p0⟩⟩)⟩, by show va_P D.1 j_cl (mW D o q (uV (uI (uI u 17 (u.1 17)) 18 (u.1 18)) 19 (u.2.2 19))) t.heap; rw [ht]; exact hP⟩, hS.F ht⟩) hS.2.2 dX12_between_18 hlk

set_option maxHeartbeats 4000000 in
set_option maxRecDepth 100000 in
theorem c_X12_ray (l : Launch) (D : JD) (o : Nat) (q : Nat → Nat) (u : MS) (A : Nat → Prop) (hD : va_D A (mW D o q u)) (a : Int) (b : Int) (c : Int) (d : Int) (i : Int) (what : Int) (p0 : IM u) (p1 : -2147483648 ≤ a ∧ a ≤ 2147483647) (p2 : -2147483648 ≤ b ∧ b ≤ 2147483647) (p3 : -2147483648 ≤ c ∧ c ≤ 2147483647) (p4 : -2147483648 ≤ d ∧ d ≤ 2147483647) (p5 : -2147483648 ≤ i ∧ i ≤ 2147483647) (p6 : -2147483648 ≤ what ∧ what ≤ 2147483647) : Met l yX12_ray (jw yX12_ray cX12_ray 7 (some .int)) (jr 3 77) (jP [.ref o, .int (J a), .int (J b), .int (J c), .int (J d), .int (J i), .int (J what)] D (fun H => va_P D.1 j_cl (mW D o q u) H)) (jWi (fun z u' => ∃ X : Nat → Int, ∃ Y : Nat → Int, ∃ n : Int, u' = (uV (uI (uI u 17 X) 18 Y) 19 n) ∧ (ray_ a b c d i what z ∧ IM u')) (fun u' H => va_P D.1 j_cl (mW D o q u') H) A) 0 0 A := by
  refine Met.ofW (cc := cX12_ray) (maxL := 7) (ret := (some .int)) (by decide) rfl ?_
  intro pr en st mi args below meth co s₁ B hml hv
  obtain ⟨rfl, hG, hP⟩ := hv
  have hr := B.returns
  have hlk := B.notSynchronized
  have SS : jS pr mi co cX12_ray 7 st _ RX12 := ⟨B.exec, B.bytes, hml, findClass_of_methodNamed B.named, fun w hw => atoms_spec (ws := (jw yX12_ray cX12_ray 7 (some .int))) B.pre w (List.mem_cons_of_mem _ hw)⟩
  have hl := lv_entry ([.ref o, .int (J a), .int (J b), .int (J c), .int (J d), .int (J i), .int (J what)]) (n := 7) (Nat.le_of_ble_eq_true rfl)
  rw [lg_entry_eq]
  generalize (lg_sl ([.ref o, .int (J a), .int (J b), .int (J c), .int (J d), .int (J i), .int (J what)]) ++ List.replicate (7 - (lg_sl ([.ref o, .int (J a), .int (J b), .int (J c), .int (J d), .int (J i), .int (J what)])).length) Slot.unset).toArray = ls at hl ⊢
  have hl : lv_has ls 7 [(0, .ref o), (1, .int (J a)), (2, .int (J b)), (3, .int (J c)), (4, .int (J d)), (5, .int (J i)), (6, .int (J what))] := hl
  have hS : va_S A st.heap st.heap [] := va_S.rf
  refine lv_iload_n SS.1 SS.2.1 dX12_ray_0 rfl (lv_at hl 1 rfl) ?_
  refine lv_iload_n SS.1 SS.2.1 dX12_ray_1 rfl (lv_at hl 2 rfl) ?_
  refine j_sRi SS (As := [.int (J a), .int (J b)]) (rest := []) (c_X12_isPlace l D a b (show -2147483648 ≤ a ∧ a ≤ 2147483647 from (by omega)) (show -2147483648 ≤ b ∧ b ≤ 2147483647 from (by omega))) mf_X12_isPlace kw_1166 hG trivial rfl hl.1 ⟨⟨Nat.le_of_ble_eq_true rfl, Nat.le_of_ble_eq_true rfl⟩, Nat.le_of_ble_eq_true rfl, Nat.le_refl _, Nat.le_refl _⟩ rfl dX12_ray_2 (fun z_2 h_2 => ?_)
  have h_2 : (z_2 = 1 ∧ (-40 ≤ a ∧ a ≤ 40 ∧ -40 ≤ b ∧ b ≤ 40)) ∨ (z_2 = 0 ∧ ¬ (-40 ≤ a ∧ a ≤ 40 ∧ -40 ≤ b ∧ b ≤ 40)) := h_2
  refine j_if_eq SS (tgt := 54) (x := z_2) dX12_ray_5 (by decide) (by omega) (fun c_5 => ?_) (fun c_5 => ?_)
  · skip
    refine j_ldc SS (-1000000) kw_1213 dX12_ray_54 ?_
    exact W.iret SS.1 SS.2.1 hr (fun t ht hW => ⟨⟨_, (uV (uI (uI u 17 (u.1 17)) 18 (u.1 18)) 19 (u.2.2 19)), rfl, ⟨(-1000000), rfl, (⟨(u.1 17), (u.1 18), (u.2.2 19), rfl, by first | exact ⟨Or.inl ⟨fun h => by unfold pl4 at h; omega, rfl⟩, p0⟩ | exact ⟨Or.inl ⟨fun h => by (rcases h_33 with q | q; have q2 := h.2.2.1; omega; omega), rfl⟩, p0⟩ | (by_cases hi : 0 ≤ i; exact ⟨Or.inr ⟨hp, by omega, hc, hi, X_33, Y_33, n_33, hry, Or.inl ⟨by omega, rfl⟩⟩, p0⟩; exact ⟨Or.inl ⟨fun h => by have := h.2.2.2; omega, rfl⟩, p0⟩)⟩)⟩, by show va_P D.1 j_cl (mW D o q (uV (uI (uI u 17 (u.1 17)) 18 (u.1 18)) 19 (u.2.2 19))) t.heap; rw [ht]; exact hP⟩, hS.F ht⟩) hS.2.2 dX12_ray_56 hlk
  · skip
    refine lv_iload_n SS.1 SS.2.1 dX12_ray_8 rfl (lv_at hl 3 rfl) ?_
    refine lv_iload SS.1 SS.2.1 dX12_ray_9 (lv_at hl 4 rfl) ?_
    refine j_sRi SS (As := [.int (J c), .int (J d)]) (rest := []) (c_X12_isPlace l D c d (show -2147483648 ≤ c ∧ c ≤ 2147483647 from (by omega)) (show -2147483648 ≤ d ∧ d ≤ 2147483647 from (by omega))) mf_X12_isPlace kw_1166 hG trivial rfl hl.1 ⟨⟨Nat.le_of_ble_eq_true rfl, Nat.le_of_ble_eq_true rfl⟩, Nat.le_of_ble_eq_true rfl, Nat.le_refl _, Nat.le_refl _⟩ rfl dX12_ray_11 (fun z_11 h_11 => ?_)
    have h_11 : (z_11 = 1 ∧ (-40 ≤ c ∧ c ≤ 40 ∧ -40 ≤ d ∧ d ≤ 40)) ∨ (z_11 = 0 ∧ ¬ (-40 ≤ c ∧ c ≤ 40 ∧ -40 ≤ d ∧ d ≤ 40)) := h_11
    refine j_if_eq SS (tgt := 54) (x := z_11) dX12_ray_14 (by decide) (by omega) (fun c_14 => ?_) (fun c_14 => ?_)
    · skip
      refine j_ldc SS (-1000000) kw_1213 dX12_ray_54 ?_
      exact W.iret SS.1 SS.2.1 hr (fun t ht hW => ⟨⟨_, (uV (uI (uI u 17 (u.1 17)) 18 (u.1 18)) 19 (u.2.2 19)), rfl, ⟨(-1000000), rfl, (⟨(u.1 17), (u.1 18), (u.2.2 19), rfl, by first | exact ⟨Or.inl ⟨fun h => by unfold pl4 at h; omega, rfl⟩, p0⟩ | exact ⟨Or.inl ⟨fun h => by (rcases h_33 with q | q; have q2 := h.2.2.1; omega; omega), rfl⟩, p0⟩ | (by_cases hi : 0 ≤ i; exact ⟨Or.inr ⟨hp, by omega, hc, hi, X_33, Y_33, n_33, hry, Or.inl ⟨by omega, rfl⟩⟩, p0⟩; exact ⟨Or.inl ⟨fun h => by have := h.2.2.2; omega, rfl⟩, p0⟩)⟩)⟩, by show va_P D.1 j_cl (mW D o q (uV (uI (uI u 17 (u.1 17)) 18 (u.1 18)) 19 (u.2.2 19))) t.heap; rw [ht]; exact hP⟩, hS.F ht⟩) hS.2.2 dX12_ray_56 hlk
    · skip
      refine lv_iload SS.1 SS.2.1 dX12_ray_17 (lv_at hl 6 rfl) ?_
      refine j_iconst SS dX12_ray_19 ?_
      refine j_iconst SS dX12_ray_20 ?_
      refine j_sRi SS (As := [.int (J what), .int (J 0), .int (J 2)]) (rest := []) (c_X12_in l D what 0 2 (show -2147483648 ≤ what ∧ what ≤ 2147483647 from (by omega)) (show -2147483648 ≤ (0 : Int) ∧ (0 : Int) ≤ 2147483647 from (by omega)) (show -2147483648 ≤ (2 : Int) ∧ (2 : Int) ≤ 2147483647 from (by omega))) mf_X12_in kw_1159 hG trivial rfl hl.1 ⟨⟨Nat.le_of_ble_eq_true rfl, Nat.le_of_ble_eq_true rfl⟩, Nat.le_of_ble_eq_true rfl, Nat.le_refl _, Nat.le_refl _⟩ rfl dX12_ray_21 (fun z_21 h_21 => ?_)
      have h_21 : (z_21 = 1 ∧ ((0 : Int) ≤ what ∧ what ≤ (2 : Int))) ∨ (z_21 = 0 ∧ ¬ ((0 : Int) ≤ what ∧ what ≤ (2 : Int))) := h_21
      refine j_if_eq SS (tgt := 54) (x := z_21) dX12_ray_24 (by decide) (by omega) (fun c_24 => ?_) (fun c_24 => ?_)
      · skip
        refine j_ldc SS (-1000000) kw_1213 dX12_ray_54 ?_
        exact W.iret SS.1 SS.2.1 hr (fun t ht hW => ⟨⟨_, (uV (uI (uI u 17 (u.1 17)) 18 (u.1 18)) 19 (u.2.2 19)), rfl, ⟨(-1000000), rfl, (⟨(u.1 17), (u.1 18), (u.2.2 19), rfl, by first | exact ⟨Or.inl ⟨fun h => by unfold pl4 at h; omega, rfl⟩, p0⟩ | exact ⟨Or.inl ⟨fun h => by (rcases h_33 with q | q; have q2 := h.2.2.1; omega; omega), rfl⟩, p0⟩ | (by_cases hi : 0 ≤ i; exact ⟨Or.inr ⟨hp, by omega, hc, hi, X_33, Y_33, n_33, hry, Or.inl ⟨by omega, rfl⟩⟩, p0⟩; exact ⟨Or.inl ⟨fun h => by have := h.2.2.2; omega, rfl⟩, p0⟩)⟩)⟩, by show va_P D.1 j_cl (mW D o q (uV (uI (uI u 17 (u.1 17)) 18 (u.1 18)) 19 (u.2.2 19))) t.heap; rw [ht]; exact hP⟩, hS.F ht⟩) hS.2.2 dX12_ray_56 hlk
      · skip
        refine lv_aload_n SS.1 SS.2.1 dX12_ray_27 rfl (lv_at hl 0 rfl) ?_
        refine lv_iload_n SS.1 SS.2.1 dX12_ray_28 rfl (lv_at hl 1 rfl) ?_
        refine lv_iload_n SS.1 SS.2.1 dX12_ray_29 rfl (lv_at hl 2 rfl) ?_
        refine lv_iload_n SS.1 SS.2.1 dX12_ray_30 rfl (lv_at hl 3 rfl) ?_
        refine lv_iload SS.1 SS.2.1 dX12_ray_31 (lv_at hl 4 rfl) ?_
        refine j_vWi SS (As := [.int (J a), .int (J b), .int (J c), .int (J d)]) (rest := []) (c_X12_findRays l D o q u A (mW_D hD) a b c d (show -40 ≤ a ∧ a ≤ 40 from (by omega)) (show -40 ≤ b ∧ b ≤ 40 from (by omega)) (show -40 ≤ c ∧ c ≤ 40 from (by omega)) (show -40 ≤ d ∧ d ≤ 40 from (by omega))) mf_X12_findRays kw_1392 hG hP hP (ci := 8) (q0 := 0) rfl rfl rfl hS (fun _ h => h) rfl hl.1 ⟨⟨Nat.le_of_ble_eq_true rfl, Nat.le_of_ble_eq_true rfl⟩, Nat.le_of_ble_eq_true rfl, Nat.le_refl _, Nat.le_refl _⟩ rfl dX12_ray_33 (fun z_33 u33 H locs h_33 hP _ hS => ?_)
        obtain ⟨X_33, Y_33, n_33, rfl, h_33⟩ := h_33
        have hP : va_P D.1 j_cl (mW D o q (uV (uI (uI u 17 X_33) 18 Y_33) 19 n_33)) H := hP
        have h_33 : (z_33 = 0 ∧ cx a b c d ≤ 0) ∨ (z_33 = 1 ∧ 0 < cx a b c d ∧ ry a b c d X_33 Y_33 n_33) := h_33
        refine j_if_eq SS (tgt := 54) (x := z_33) dX12_ray_36 (by decide) (by omega) (fun c_36 => ?_) (fun c_36 => ?_)
        · skip
          refine j_ldc SS (-1000000) kw_1213 dX12_ray_54 ?_
          exact W.iret SS.1 SS.2.1 hr (fun t ht hW => ⟨⟨_, (uV (uI (uI u 17 X_33) 18 Y_33) 19 n_33), rfl, ⟨(-1000000), rfl, (⟨X_33, Y_33, n_33, rfl, by first | exact ⟨Or.inl ⟨fun h => by unfold pl4 at h; omega, rfl⟩, p0⟩ | exact ⟨Or.inl ⟨fun h => by (rcases h_33 with q | q; have q2 := h.2.2.1; omega; omega), rfl⟩, p0⟩ | (by_cases hi : 0 ≤ i; exact ⟨Or.inr ⟨hp, by omega, hc, hi, X_33, Y_33, n_33, hry, Or.inl ⟨by omega, rfl⟩⟩, p0⟩; exact ⟨Or.inl ⟨fun h => by have := h.2.2.2; omega, rfl⟩, p0⟩)⟩)⟩, by show va_P D.1 j_cl (mW D o q (uV (uI (uI u 17 X_33) 18 Y_33) 19 n_33)) t.heap; rw [ht]; exact hP⟩, hS.F ht⟩) hS.2.2 dX12_ray_56 hlk
        · skip
          have hp : pl4 a b c d := by unfold pl4; omega
          have hry : ry a b c d X_33 Y_33 n_33 := by rcases h_33 with q | q; omega; exact q.2.2
          have hc : 0 < cx a b c d := by rcases h_33 with q | q; omega; exact q.2.1
          have hn := hry.1
          refine lv_iload SS.1 SS.2.1 dX12_ray_39 (lv_at hl 5 rfl) ?_
          refine j_iconst SS dX12_ray_41 ?_
          refine lv_aload_n SS.1 SS.2.1 dX12_ray_42 rfl (lv_at hl 0 rfl) ?_
          refine j_get SS hG hP 0 (v := .int (J n_33)) (C := RX12) (T := TX12) (N := 31) rfl rfl inX12 19 (by decide) (ref := RX12) kw_1077 rfl rfl dX12_ray_43 ?_
          refine j_iconst SS dX12_ray_46 ?_
          refine j_isub SS (x := n_33) (y := 1) dX12_ray_47 ?_
          refine j_sRi SS (As := [.int (J i), .int (J 0), .int (J (n_33 - 1))]) (rest := []) (c_X12_in l D i 0 (n_33 - 1) (show -2147483648 ≤ i ∧ i ≤ 2147483647 from (by omega)) (show -2147483648 ≤ (0 : Int) ∧ (0 : Int) ≤ 2147483647 from (by omega)) (show -2147483648 ≤ (n_33 - 1) ∧ (n_33 - 1) ≤ 2147483647 from (by omega))) mf_X12_in kw_1159 hG trivial rfl hl.1 ⟨⟨Nat.le_of_ble_eq_true rfl, Nat.le_of_ble_eq_true rfl⟩, Nat.le_of_ble_eq_true rfl, Nat.le_refl _, Nat.le_refl _⟩ rfl dX12_ray_48 (fun z_48 h_48 => ?_)
          have h_48 : (z_48 = 1 ∧ ((0 : Int) ≤ i ∧ i ≤ (n_33 - 1))) ∨ (z_48 = 0 ∧ ¬ ((0 : Int) ≤ i ∧ i ≤ (n_33 - 1))) := h_48
          refine j_if_ne SS (tgt := 57) (x := z_48) dX12_ray_51 (by decide) (by omega) (fun c_51 => ?_) (fun c_51 => ?_)
          · skip
            have hbi := ry_b hry (i := i) (by omega) (by omega)
            refine lv_iload SS.1 SS.2.1 dX12_ray_57 (lv_at hl 6 rfl) ?_
            refine j_iconst SS dX12_ray_59 ?_
            refine j_icmp_ge SS (tgt := 86) (x := what) (y := 2) dX12_ray_60 (by decide) (by omega) (by decide) (fun c_60 => ?_) (fun c_60 => ?_)
            · skip
              refine lv_iload SS.1 SS.2.1 dX12_ray_86 (lv_at hl 5 rfl) ?_
              refine j_if_eq SS (tgt := 102) (x := i) dX12_ray_88 (by decide) (by omega) (fun c_88 => ?_) (fun c_88 => ?_)
              · skip
                refine j_ldc SS (-1000000) kw_1213 dX12_ray_102 ?_
                exact W.iret SS.1 SS.2.1 hr (fun t ht hW => ⟨⟨_, (uV (uI (uI u 17 X_33) 18 Y_33) 19 n_33), rfl, ⟨(-1000000), rfl, (⟨X_33, Y_33, n_33, rfl, ⟨Or.inr ⟨hp, by omega, hc, by omega, X_33, Y_33, n_33, hry, Or.inr ⟨by omega, Or.inr (Or.inr ⟨by omega, Or.inl ⟨by omega, rfl⟩⟩)⟩⟩, p0⟩⟩)⟩, by show va_P D.1 j_cl (mW D o q (uV (uI (uI u 17 X_33) 18 Y_33) 19 n_33)) t.heap; rw [ht]; exact hP⟩, hS.F ht⟩) hS.2.2 dX12_ray_104 hlk
              · skip
                refine lv_iload SS.1 SS.2.1 dX12_ray_91 (lv_at hl 5 rfl) ?_
                refine lv_aload_n SS.1 SS.2.1 dX12_ray_93 rfl (lv_at hl 0 rfl) ?_
                refine j_get SS hG hP 0 (v := .int (J n_33)) (C := RX12) (T := TX12) (N := 31) rfl rfl inX12 19 (by decide) (ref := RX12) kw_1077 rfl rfl dX12_ray_94 ?_
                refine j_iconst SS dX12_ray_97 ?_
                refine j_isub SS (x := n_33) (y := 1) dX12_ray_98 ?_
                refine j_icmp_ne SS (tgt := 105) (x := i) (y := (n_33 - 1)) dX12_ray_99 (by decide) (by omega) (by omega) (fun c_99 => ?_) (fun c_99 => ?_)
                · skip
                  have hbp := ry_b hry (i := i - 1) (by omega) (by omega)
                  have hbn := ry_b hry (i := i + 1) (by omega) (by omega)
                  have hbe := ry_bend hry (i := i) (by omega) (by omega)
                  refine lv_aload_n SS.1 SS.2.1 dX12_ray_105 rfl (lv_at hl 0 rfl) ?_
                  refine j_get SS hG hP 0 (v := .ref (q 17)) (C := RX12) (T := TX12) (N := 31) rfl rfl inX12 17 (by decide) (ref := RX12) kw_1075 rfl rfl dX12_ray_106 ?_
                  refine lv_iload SS.1 SS.2.1 dX12_ray_109 (lv_at hl 5 rfl) ?_
                  refine j_iald SS hG hP 15 (n := 4000) (f := X_33) rfl (z := i) (by omega) (by omega) dX12_ray_111 ?_
                  refine j_if_eq SS (tgt := 145) (x := (X_33 (i).toNat)) dX12_ray_112 (by decide) (by omega) (fun c_112 => ?_) (fun c_112 => ?_)
                  · skip
                    refine lv_aload_n SS.1 SS.2.1 dX12_ray_145 rfl (lv_at hl 0 rfl) ?_
                    refine j_get SS hG hP 0 (v := .ref (q 18)) (C := RX12) (T := TX12) (N := 31) rfl rfl inX12 18 (by decide) (ref := RX12) kw_1076 rfl rfl dX12_ray_146 ?_
                    refine lv_iload SS.1 SS.2.1 dX12_ray_149 (lv_at hl 5 rfl) ?_
                    refine j_iconst SS dX12_ray_151 ?_
                    refine j_isub SS (x := i) (y := 1) dX12_ray_152 ?_
                    refine j_iald SS hG hP 16 (n := 4000) (f := Y_33) rfl (z := (i - 1)) (by omega) (by omega) dX12_ray_153 ?_
                    refine lv_aload_n SS.1 SS.2.1 dX12_ray_154 rfl (lv_at hl 0 rfl) ?_
                    refine j_get SS hG hP 0 (v := .ref (q 18)) (C := RX12) (T := TX12) (N := 31) rfl rfl inX12 18 (by decide) (ref := RX12) kw_1076 rfl rfl dX12_ray_155 ?_
                    refine lv_iload SS.1 SS.2.1 dX12_ray_158 (lv_at hl 5 rfl) ?_
                    refine j_iconst SS dX12_ray_160 ?_
                    refine j_iadd SS (x := i) (y := 1) dX12_ray_161 ?_
                    refine j_iald SS hG hP 16 (n := 4000) (f := Y_33) rfl (z := (i + 1)) (by omega) (by omega) dX12_ray_162 ?_
                    refine j_iadd SS (x := (Y_33 ((i - 1)).toNat)) (y := (Y_33 ((i + 1)).toNat)) dX12_ray_163 ?_
                    refine lv_aload_n SS.1 SS.2.1 dX12_ray_164 rfl (lv_at hl 0 rfl) ?_
                    refine j_get SS hG hP 0 (v := .ref (q 18)) (C := RX12) (T := TX12) (N := 31) rfl rfl inX12 18 (by decide) (ref := RX12) kw_1076 rfl rfl dX12_ray_165 ?_
                    refine lv_iload SS.1 SS.2.1 dX12_ray_168 (lv_at hl 5 rfl) ?_
                    refine j_iald SS hG hP 16 (n := 4000) (f := Y_33) rfl (z := i) (by omega) (by omega) dX12_ray_170 ?_
                    refine j_idiv SS (x := ((Y_33 ((i - 1)).toNat) + (Y_33 ((i + 1)).toNat))) (y := (Y_33 (i).toNat)) dX12_ray_171 (by omega) (by omega) (by omega) ?_
                    exact W.iret SS.1 SS.2.1 hr (fun t ht hW => ⟨⟨_, (uV (uI (uI u 17 X_33) 18 Y_33) 19 n_33), rfl, ⟨(Int.tdiv ((Y_33 ((i - 1)).toNat) + (Y_33 ((i + 1)).toNat)) (Y_33 (i).toNat)), rfl, (⟨X_33, Y_33, n_33, rfl, ⟨Or.inr ⟨hp, by omega, hc, by omega, X_33, Y_33, n_33, hry, Or.inr ⟨by omega, Or.inr (Or.inr ⟨by omega, Or.inr ⟨by omega, by omega, by first | exact ry_dv hbe.1 (by omega) | exact ry_dv hbe.2.1 (by omega)⟩⟩)⟩⟩, p0⟩⟩)⟩, by show va_P D.1 j_cl (mW D o q (uV (uI (uI u 17 X_33) 18 Y_33) 19 n_33)) t.heap; rw [ht]; exact hP⟩, hS.F ht⟩) hS.2.2 dX12_ray_172 hlk
                  · skip
                    refine lv_aload_n SS.1 SS.2.1 dX12_ray_115 rfl (lv_at hl 0 rfl) ?_
                    refine j_get SS hG hP 0 (v := .ref (q 17)) (C := RX12) (T := TX12) (N := 31) rfl rfl inX12 17 (by decide) (ref := RX12) kw_1075 rfl rfl dX12_ray_116 ?_
                    refine lv_iload SS.1 SS.2.1 dX12_ray_119 (lv_at hl 5 rfl) ?_
                    refine j_iconst SS dX12_ray_121 ?_
                    refine j_isub SS (x := i) (y := 1) dX12_ray_122 ?_
                    refine j_iald SS hG hP 15 (n := 4000) (f := X_33) rfl (z := (i - 1)) (by omega) (by omega) dX12_ray_123 ?_
                    refine lv_aload_n SS.1 SS.2.1 dX12_ray_124 rfl (lv_at hl 0 rfl) ?_
                    refine j_get SS hG hP 0 (v := .ref (q 17)) (C := RX12) (T := TX12) (N := 31) rfl rfl inX12 17 (by decide) (ref := RX12) kw_1075 rfl rfl dX12_ray_125 ?_
                    refine lv_iload SS.1 SS.2.1 dX12_ray_128 (lv_at hl 5 rfl) ?_
                    refine j_iconst SS dX12_ray_130 ?_
                    refine j_iadd SS (x := i) (y := 1) dX12_ray_131 ?_
                    refine j_iald SS hG hP 15 (n := 4000) (f := X_33) rfl (z := (i + 1)) (by omega) (by omega) dX12_ray_132 ?_
                    refine j_iadd SS (x := (X_33 ((i - 1)).toNat)) (y := (X_33 ((i + 1)).toNat)) dX12_ray_133 ?_
                    refine lv_aload_n SS.1 SS.2.1 dX12_ray_134 rfl (lv_at hl 0 rfl) ?_
                    refine j_get SS hG hP 0 (v := .ref (q 17)) (C := RX12) (T := TX12) (N := 31) rfl rfl inX12 17 (by decide) (ref := RX12) kw_1075 rfl rfl dX12_ray_135 ?_
                    refine lv_iload SS.1 SS.2.1 dX12_ray_138 (lv_at hl 5 rfl) ?_
                    refine j_iald SS hG hP 15 (n := 4000) (f := X_33) rfl (z := i) (by omega) (by omega) dX12_ray_140 ?_
                    refine j_idiv SS (x := ((X_33 ((i - 1)).toNat) + (X_33 ((i + 1)).toNat))) (y := (X_33 (i).toNat)) dX12_ray_141 (by omega) (by omega) (by omega) ?_
                    refine lv_goto (tgt := 172) SS.1 SS.2.1 dX12_ray_142 (by decide) ?_
                    exact W.iret SS.1 SS.2.1 hr (fun t ht hW => ⟨⟨_, (uV (uI (uI u 17 X_33) 18 Y_33) 19 n_33), rfl, ⟨(Int.tdiv ((X_33 ((i - 1)).toNat) + (X_33 ((i + 1)).toNat)) (X_33 (i).toNat)), rfl, (⟨X_33, Y_33, n_33, rfl, ⟨Or.inr ⟨hp, by omega, hc, by omega, X_33, Y_33, n_33, hry, Or.inr ⟨by omega, Or.inr (Or.inr ⟨by omega, Or.inr ⟨by omega, by omega, by first | exact ry_dv hbe.1 (by omega) | exact ry_dv hbe.2.1 (by omega)⟩⟩)⟩⟩, p0⟩⟩)⟩, by show va_P D.1 j_cl (mW D o q (uV (uI (uI u 17 X_33) 18 Y_33) 19 n_33)) t.heap; rw [ht]; exact hP⟩, hS.F ht⟩) hS.2.2 dX12_ray_172 hlk
                · skip
                  refine j_ldc SS (-1000000) kw_1213 dX12_ray_102 ?_
                  exact W.iret SS.1 SS.2.1 hr (fun t ht hW => ⟨⟨_, (uV (uI (uI u 17 X_33) 18 Y_33) 19 n_33), rfl, ⟨(-1000000), rfl, (⟨X_33, Y_33, n_33, rfl, ⟨Or.inr ⟨hp, by omega, hc, by omega, X_33, Y_33, n_33, hry, Or.inr ⟨by omega, Or.inr (Or.inr ⟨by omega, Or.inl ⟨by omega, rfl⟩⟩)⟩⟩, p0⟩⟩)⟩, by show va_P D.1 j_cl (mW D o q (uV (uI (uI u 17 X_33) 18 Y_33) 19 n_33)) t.heap; rw [ht]; exact hP⟩, hS.F ht⟩) hS.2.2 dX12_ray_104 hlk
            · skip
              refine lv_iload SS.1 SS.2.1 dX12_ray_63 (lv_at hl 6 rfl) ?_
              refine j_if_ne SS (tgt := 78) (x := what) dX12_ray_65 (by decide) (by omega) (fun c_65 => ?_) (fun c_65 => ?_)
              · skip
                refine lv_aload_n SS.1 SS.2.1 dX12_ray_78 rfl (lv_at hl 0 rfl) ?_
                refine j_get SS hG hP 0 (v := .ref (q 18)) (C := RX12) (T := TX12) (N := 31) rfl rfl inX12 18 (by decide) (ref := RX12) kw_1076 rfl rfl dX12_ray_79 ?_
                refine lv_iload SS.1 SS.2.1 dX12_ray_82 (lv_at hl 5 rfl) ?_
                refine j_iald SS hG hP 16 (n := 4000) (f := Y_33) rfl (z := i) (by omega) (by omega) dX12_ray_84 ?_
                exact W.iret SS.1 SS.2.1 hr (fun t ht hW => ⟨⟨_, (uV (uI (uI u 17 X_33) 18 Y_33) 19 n_33), rfl, ⟨(Y_33 (i).toNat), rfl, (⟨X_33, Y_33, n_33, rfl, ⟨Or.inr ⟨hp, by omega, hc, by omega, X_33, Y_33, n_33, hry, Or.inr ⟨by omega, by first | exact Or.inl ⟨by omega, rfl⟩ | exact Or.inr (Or.inl ⟨by omega, rfl⟩)⟩⟩, p0⟩⟩)⟩, by show va_P D.1 j_cl (mW D o q (uV (uI (uI u 17 X_33) 18 Y_33) 19 n_33)) t.heap; rw [ht]; exact hP⟩, hS.F ht⟩) hS.2.2 dX12_ray_85 hlk
              · skip
                refine lv_aload_n SS.1 SS.2.1 dX12_ray_68 rfl (lv_at hl 0 rfl) ?_
                refine j_get SS hG hP 0 (v := .ref (q 17)) (C := RX12) (T := TX12) (N := 31) rfl rfl inX12 17 (by decide) (ref := RX12) kw_1075 rfl rfl dX12_ray_69 ?_
                refine lv_iload SS.1 SS.2.1 dX12_ray_72 (lv_at hl 5 rfl) ?_
                refine j_iald SS hG hP 15 (n := 4000) (f := X_33) rfl (z := i) (by omega) (by omega) dX12_ray_74 ?_
                refine lv_goto (tgt := 85) SS.1 SS.2.1 dX12_ray_75 (by decide) ?_
                exact W.iret SS.1 SS.2.1 hr (fun t ht hW => ⟨⟨_, (uV (uI (uI u 17 X_33) 18 Y_33) 19 n_33), rfl, ⟨(X_33 (i).toNat), rfl, (⟨X_33, Y_33, n_33, rfl, ⟨Or.inr ⟨hp, by omega, hc, by omega, X_33, Y_33, n_33, hry, Or.inr ⟨by omega, by first | exact Or.inl ⟨by omega, rfl⟩ | exact Or.inr (Or.inl ⟨by omega, rfl⟩)⟩⟩, p0⟩⟩)⟩, by show va_P D.1 j_cl (mW D o q (uV (uI (uI u 17 X_33) 18 Y_33) 19 n_33)) t.heap; rw [ht]; exact hP⟩, hS.F ht⟩) hS.2.2 dX12_ray_85 hlk
          · skip
            refine j_ldc SS (-1000000) kw_1213 dX12_ray_54 ?_
            exact W.iret SS.1 SS.2.1 hr (fun t ht hW => ⟨⟨_, (uV (uI (uI u 17 X_33) 18 Y_33) 19 n_33), rfl, ⟨(-1000000), rfl, (⟨X_33, Y_33, n_33, rfl, by first | exact ⟨Or.inl ⟨fun h => by unfold pl4 at h; omega, rfl⟩, p0⟩ | exact ⟨Or.inl ⟨fun h => by (rcases h_33 with q | q; have q2 := h.2.2.1; omega; omega), rfl⟩, p0⟩ | (by_cases hi : 0 ≤ i; exact ⟨Or.inr ⟨hp, by omega, hc, hi, X_33, Y_33, n_33, hry, Or.inl ⟨by omega, rfl⟩⟩, p0⟩; exact ⟨Or.inl ⟨fun h => by have := h.2.2.2; omega, rfl⟩, p0⟩)⟩)⟩, by show va_P D.1 j_cl (mW D o q (uV (uI (uI u 17 X_33) 18 Y_33) 19 n_33)) t.heap; rw [ht]; exact hP⟩, hS.F ht⟩) hS.2.2 dX12_ray_56 hlk

