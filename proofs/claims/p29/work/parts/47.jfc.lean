
set_option maxHeartbeats 4000000 in
set_option maxRecDepth 100000 in
theorem c_X12_isAhead3 (l : Launch) (D : JD) (x : Int64) (y : Int64) : Met l yX12_isAhead (jw yX12_isAhead cX12_isAhead 6 (some .boolean)) (jr 0 0) (jP [.long x, .long y] D (fun _ => True)) (jRi (fun z => (z = 1 ∧ RO9 x y ≠ 0) ∨ (z = 0 ∧ RO9 x y = 0))) 0 0 (fun _ => False) := by
  refine Met.ofW (cc := cX12_isAhead) (maxL := 6) (ret := (some .boolean)) (by decide) rfl ?_
  intro pr en st mi args below meth co s₁ B hml hv
  obtain ⟨rfl, hG, hP⟩ := hv
  have hr := B.returns
  have hlk := B.notSynchronized
  have SS : jS pr mi co cX12_isAhead 6 st _ RX12 := ⟨B.exec, B.bytes, hml, findClass_of_methodNamed B.named, fun w hw => atoms_spec (ws := (jw yX12_isAhead cX12_isAhead 6 (some .boolean))) B.pre w (List.mem_cons_of_mem _ hw)⟩
  have hl := lv_entry ([.long x, .long y]) (n := 6) (Nat.le_of_ble_eq_true rfl)
  rw [lg_entry_eq]
  generalize (lg_sl ([.long x, .long y]) ++ List.replicate (6 - (lg_sl ([.long x, .long y])).length) Slot.unset).toArray = ls at hl ⊢
  have hl : lv_has ls 6 [(0, .long x), (2, .long y)] := hl
  refine lv_lload_n SS.1 SS.2.1 dX12_isAhead_0 rfl (lv_at hl 0 rfl) ?_
  refine lv_lload_n SS.1 SS.2.1 dX12_isAhead_1 rfl (lv_at hl 1 rfl) ?_
  refine lv_lxor SS.1 SS.2.1 dX12_isAhead_2 ?_
  refine lv_lstore (lv' := [(4, .long (x ^^^ y)), (0, .long x), (2, .long y)]) SS.1 SS.2.1 dX12_isAhead_3 hl (by decide) rfl (fun ls hl => ?_)
  refine lv_lload SS.1 SS.2.1 dX12_isAhead_5 (lv_at hl 0 rfl) ?_
  refine lv_lload SS.1 SS.2.1 dX12_isAhead_7 (lv_at hl 0 rfl) ?_
  refine lv_lneg SS.1 SS.2.1 dX12_isAhead_9 ?_
  refine lv_land SS.1 SS.2.1 dX12_isAhead_10 ?_
  refine lv_lload_n SS.1 SS.2.1 dX12_isAhead_11 rfl (lv_at hl 1 rfl) ?_
  refine lv_land SS.1 SS.2.1 dX12_isAhead_12 ?_
  refine lv_lconst (v := 0) SS.1 SS.2.1 dX12_isAhead_13 (by decide +kernel) ?_
  refine j_lcmp SS dX12_isAhead_14 (fun z_14 hz_14 => ?_)
  refine j_if_eq SS (tgt := 22) (x := z_14) dX12_isAhead_15 (by decide) (by omega) (fun c_15 => ?_) (fun c_15 => ?_)
  · skip
    refine j_iconst SS dX12_isAhead_22 ?_
    exact W.zret SS.1 SS.2.1 hr (j_nz (by decide)) (fun t ht hW => ⟨_, rfl, ⟨0, rfl, (by first | exact Or.inl ⟨rfl, fun w => c_15 (hz_14.2.2.2.mpr w)⟩ | exact Or.inr ⟨rfl, hz_14.2.2.2.mp c_15⟩)⟩, ht⟩) (fun _ h => nomatch h) dX12_isAhead_23 hlk
  · skip
    refine j_iconst SS dX12_isAhead_18 ?_
    refine lv_goto (tgt := 23) SS.1 SS.2.1 dX12_isAhead_19 (by decide) ?_
    exact W.zret SS.1 SS.2.1 hr (j_nz (by decide)) (fun t ht hW => ⟨_, rfl, ⟨1, rfl, (by first | exact Or.inl ⟨rfl, fun w => c_15 (hz_14.2.2.2.mpr w)⟩ | exact Or.inr ⟨rfl, hz_14.2.2.2.mp c_15⟩)⟩, ht⟩) (fun _ h => nomatch h) dX12_isAhead_23 hlk

set_option maxHeartbeats 4000000 in
set_option maxRecDepth 100000 in
theorem c_X12_bitAt3 (l : Launch) (D : JD) (x : Int64) (i : Int) (p0 : -2147483648 ≤ i ∧ i ≤ 2147483647) : Met l yX12_bitAt (jw yX12_bitAt cX12_bitAt 5 (some .int)) (jr 0 0) (jP [.long x, .int (J i)] D (fun _ => True)) (jRi (fun z => (z = -9 ∧ (0 ≤ i → ct9 (gb x) 40 ≤ i)) ∨ ((0 ≤ z ∧ z < 40) ∧ gb x z.toNat = true ∧ ct9 (gb x) z.toNat = i))) 0 0 (fun _ => False) := by
  refine Met.ofW (cc := cX12_bitAt) (maxL := 5) (ret := (some .int)) (by decide) rfl ?_
  intro pr en st mi args below meth co s₁ B hml hv
  obtain ⟨rfl, hG, hP⟩ := hv
  have hr := B.returns
  have hlk := B.notSynchronized
  have SS : jS pr mi co cX12_bitAt 5 st _ RX12 := ⟨B.exec, B.bytes, hml, findClass_of_methodNamed B.named, fun w hw => atoms_spec (ws := (jw yX12_bitAt cX12_bitAt 5 (some .int))) B.pre w (List.mem_cons_of_mem _ hw)⟩
  have hl := lv_entry ([.long x, .int (J i)]) (n := 5) (Nat.le_of_ble_eq_true rfl)
  rw [lg_entry_eq]
  generalize (lg_sl ([.long x, .int (J i)]) ++ List.replicate (5 - (lg_sl ([.long x, .int (J i)])).length) Slot.unset).toArray = ls at hl ⊢
  have hl : lv_has ls 5 [(0, .long x), (2, .int (J i))] := hl
  refine j_iconst SS dX12_bitAt_0 ?_
  refine lv_istore_n (lv' := [(3, .int (J 0)), (0, .long x), (2, .int (J i))]) SS.1 SS.2.1 dX12_bitAt_1 rfl hl (by decide) rfl (fun ls hl => ?_)
  refine j_iconst SS dX12_bitAt_2 ?_
  refine lv_istore (lv' := [(4, .int (J 0)), (3, .int (J 0)), (0, .long x), (2, .int (J i))]) SS.1 SS.2.1 dX12_bitAt_3 hl (by decide) rfl (fun ls hl => ?_)
  have L_5 : ∀ (nn : Nat) (n : Int) (k : Int) (ls : Array Slot) (hl : lv_has ls 5 [(0, .long x), (2, .int (J i)), (3, .int (J n)), (4, .int (J k))]) (i5_0 : 0 ≤ k ∧ k ≤ 40) (i5_1 : n = smI (bvI x) k) (i5_2 : 0 ≤ n ∧ n ≤ k) (i5_3 : 0 ≤ i → n ≤ i), ((40 : Int) - k).toNat < nn → W pr l en (headSpec (jw yX12_bitAt cX12_bitAt 5 (some .int)) (jr 0 0)).room st mi (([.long x, .int (J i)] : List Value).toArray) below meth co st.heap [] 0 0 (MQ below (jRi (fun z => (z = -9 ∧ (0 ≤ i → ct9 (gb x) 40 ≤ i)) ∨ ((0 ≤ z ∧ z < 40) ∧ gb x z.toNat = true ∧ ct9 (gb x) z.toNat = i))) (([.long x, .int (J i)] : List Value).toArray) st 0 0 (fun _ => False)) (F0 mi 5 ls []) := by
    intro nn
    induction nn with
    | zero => intros; omega
    | succ nn ih_5 =>
      intro n k ls hl i5_0 i5_1 i5_2 i5_3 hm
      refine lv_iload SS.1 SS.2.1 dX12_bitAt_5 (lv_at hl 3 rfl) ?_
      refine j_bipush SS dX12_bitAt_7 (by decide +kernel) ?_
      refine j_icmp_ge SS (tgt := 40) (x := k) (y := 40) dX12_bitAt_9 (by decide) (by omega) (by decide) (fun c_9 => ?_) (fun c_9 => ?_)
      · skip
        refine j_bipush SS dX12_bitAt_40 (by decide +kernel) ?_
        exact W.iret SS.1 SS.2.1 hr (fun t ht hW => ⟨_, rfl, ⟨(-9), rfl, (Or.inl ⟨rfl, fun h => by rw [show k = 40 by omega] at i5_1; rw [← bI_40, ← i5_1]; exact i5_3 h⟩)⟩, ht⟩) (fun _ h => nomatch h) dX12_bitAt_42 hlk
      · skip
        refine lv_lload_n SS.1 SS.2.1 dX12_bitAt_12 rfl (lv_at hl 0 rfl) ?_
        refine lv_iload SS.1 SS.2.1 dX12_bitAt_13 (lv_at hl 3 rfl) ?_
        refine lv_lshr SS.1 SS.2.1 dX12_bitAt_15 rfl (lv_topl (fun x_15 ex_15 => ?_))
        refine lv_lconst (v := 1) SS.1 SS.2.1 dX12_bitAt_16 (by decide +kernel) ?_
        refine lv_land SS.1 SS.2.1 dX12_bitAt_17 ?_
        refine lv_lconst (v := 1) SS.1 SS.2.1 dX12_bitAt_18 (by decide +kernel) ?_
        refine j_lcmp SS dX12_bitAt_19 (fun z_19 hz_19 => ?_)
        have hv : bvI x k = if z_19 = 0 then 1 else 0 := by unfold bvI; rw [← ex_15]; by_cases e : x_15 &&& 1 = 1; rw [if_pos e, if_pos (hz_19.2.2.2.mpr e)]; rw [if_neg e, if_neg (fun q => e (hz_19.2.2.2.mp q))]
        refine j_if_ne SS (tgt := 34) (x := z_19) dX12_bitAt_20 (by decide) (by omega) (fun c_20 => ?_) (fun c_20 => ?_)
        · skip
          refine lv_iinc (v := J (k + 1)) (lv' := [(4, .int (J (k + 1))), (0, .long x), (2, .int (J i)), (3, .int (J n))]) SS.1 SS.2.1 dX12_bitAt_34 hl (k := 3) rfl (J_add _ _) (by decide) rfl (fun ls hl => ?_)
          refine lv_goto (tgt := 5) SS.1 SS.2.1 dX12_bitAt_37 (by decide) ?_
          exact ih_5 n (k + 1) ls (lv_sub hl [1, 2, 3, 0] rfl) (by omega) (by rw [smI_s i5_0.1, ← i5_1, hv]; first | (rw [if_pos (by omega)]) | (rw [if_neg (by omega)]; omega)) (by omega) (by omega) (by omega)
        · skip
          refine lv_iload_n SS.1 SS.2.1 dX12_bitAt_23 rfl (lv_at hl 2 rfl) ?_
          refine lv_iload_n SS.1 SS.2.1 dX12_bitAt_24 rfl (lv_at hl 1 rfl) ?_
          refine j_icmp_ne SS (tgt := 31) (x := n) (y := i) dX12_bitAt_25 (by decide) (by omega) (by omega) (fun c_25 => ?_) (fun c_25 => ?_)
          · skip
            refine lv_iinc (v := J (n + 1)) (lv' := [(3, .int (J (n + 1))), (0, .long x), (2, .int (J i)), (4, .int (J k))]) SS.1 SS.2.1 dX12_bitAt_31 hl (k := 2) rfl (J_add _ _) (by decide) rfl (fun ls hl => ?_)
            refine lv_iinc (v := J (k + 1)) (lv' := [(4, .int (J (k + 1))), (3, .int (J (n + 1))), (0, .long x), (2, .int (J i))]) SS.1 SS.2.1 dX12_bitAt_34 hl (k := 3) rfl (J_add _ _) (by decide) rfl (fun ls hl => ?_)
            refine lv_goto (tgt := 5) SS.1 SS.2.1 dX12_bitAt_37 (by decide) ?_
            exact ih_5 (n + 1) (k + 1) ls (lv_sub hl [2, 3, 1, 0] rfl) (by omega) (by rw [smI_s i5_0.1, ← i5_1, hv]; first | (rw [if_pos (by omega)]) | (rw [if_neg (by omega)]; omega)) (by omega) (by omega) (by omega)
          · skip
            refine lv_iload SS.1 SS.2.1 dX12_bitAt_28 (lv_at hl 3 rfl) ?_
            exact W.iret SS.1 SS.2.1 hr (fun t ht hW => ⟨_, rfl, ⟨k, rfl, (Or.inr ⟨by omega, (bvI_1 (by omega)).mp (by rw [hv, if_pos (by omega)]), by have e := smI_gi (x := x) (k := k) (by omega); omega⟩)⟩, ht⟩) (fun _ h => nomatch h) dX12_bitAt_30 hlk
  exact L_5 (((40 : Int) - (0 : Int)).toNat + 1) 0 0 ls (lv_sub hl [2, 3, 1, 0] rfl) (by omega) (smI_0.symm) (by omega) (by omega) (Nat.lt_succ_self _)

set_option maxHeartbeats 4000000 in
set_option maxRecDepth 100000 in
theorem c_X12_planeOf3 (l : Launch) (D : JD) (o : Nat) (q : Nat → Nat) (u : MS) (s : Int) (i : Int) (j : Int) (k : Int) (p0 : 0 ≤ s ∧ s ≤ 7) (p1 : 0 ≤ u.2.2 12 ∧ u.2.2 12 ≤ 40) (p2 : bd 40 (u.1 10) (u.1 11) 6561) (p3 : HB (u.1 3)) (p4 : 0 ≤ i ∧ i < u.2.2 12) (p5 : 0 ≤ j ∧ j < u.2.2 12) (p6 : 0 ≤ k ∧ k < u.2.2 12) : Met l yX12_planeOf (jw yX12_planeOf cX12_planeOf 24 (some .long)) (jr 2 46) (jP [.ref o, .int (J s), .int (J i), .int (J j), .int (J k)] D (fun H => va_P D.1 j_cl (mW D o q u) H)) (vp_Sl (fun r => (r = 0 ∧ ∃ p : Int, 0 ≤ p ∧ p < u.2.2 12 ∧ pS (u.1 10) (u.1 11) (u.1 3) s i j k p < 0) ∨ ((∀ p : Int, 0 ≤ p → p < u.2.2 12 → 0 ≤ pS (u.1 10) (u.1 11) (u.1 3) s i j k p) ∧ r = PB (fun p => decide (pS (u.1 10) (u.1 11) (u.1 3) s i j k p = 0)) (u.2.2 12).toNat))) 0 0 (fun _ => False) := by
  refine Met.ofW (cc := cX12_planeOf) (maxL := 24) (ret := (some .long)) (by decide) rfl ?_
  intro pr en st mi args below meth co s₁ B hml hv
  obtain ⟨rfl, hG, hP⟩ := hv
  have hr := B.returns
  have hlk := B.notSynchronized
  have SS : jS pr mi co cX12_planeOf 24 st _ RX12 := ⟨B.exec, B.bytes, hml, findClass_of_methodNamed B.named, fun w hw => atoms_spec (ws := (jw yX12_planeOf cX12_planeOf 24 (some .long))) B.pre w (List.mem_cons_of_mem _ hw)⟩
  have hl := lv_entry ([.ref o, .int (J s), .int (J i), .int (J j), .int (J k)]) (n := 24) (Nat.le_of_ble_eq_true rfl)
  rw [lg_entry_eq]
  generalize (lg_sl ([.ref o, .int (J s), .int (J i), .int (J j), .int (J k)]) ++ List.replicate (24 - (lg_sl ([.ref o, .int (J s), .int (J i), .int (J j), .int (J k)])).length) Slot.unset).toArray = ls at hl ⊢
  have hl : lv_has ls 24 [(0, .ref o), (1, .int (J s)), (2, .int (J i)), (3, .int (J j)), (4, .int (J k))] := hl
  have hH : ∀ z : Int, -1000 ≤ (u.1 3) ((40 * s) + z).toNat ∧ (u.1 3) ((40 * s) + z).toNat ≤ 1000 := fun z => p3 _
  have hi := hH i
  have hj := hH j
  have hk := hH k
  refine lv_aload_n SS.1 SS.2.1 dX12_planeOf_0 rfl (lv_at hl 0 rfl) ?_
  refine lv_iload_n SS.1 SS.2.1 dX12_planeOf_1 rfl (lv_at hl 2 rfl) ?_
  refine lv_iload_n SS.1 SS.2.1 dX12_planeOf_2 rfl (lv_at hl 3 rfl) ?_
  refine lv_iload SS.1 SS.2.1 dX12_planeOf_3 (lv_at hl 4 rfl) ?_
  refine j_vRi SS (As := [.int (J i), .int (J j), .int (J k)]) (rest := []) (c_X12_turn l D o q u i j k (show 0 ≤ i ∧ i < 6561 from (by omega)) (show 0 ≤ j ∧ j < 6561 from (by omega)) (show 0 ≤ k ∧ k < 6561 from (by omega)) (show bd 40 ((u.1 10)) ((u.1 11)) 6561 from (p2))) mf_X12_turn kw_1427 hG hP hP (ci := 8) (q0 := 0) rfl rfl rfl rfl hl.1 ⟨⟨Nat.le_of_ble_eq_true rfl, Nat.le_of_ble_eq_true rfl⟩, Nat.le_of_ble_eq_true rfl, Nat.le_refl _, Nat.le_refl _⟩ rfl dX12_planeOf_5 (fun z_5 h_5 => ?_)
  have h_5 : z_5 = tn ((u.1 10)) ((u.1 11)) i.toNat j.toNat k.toNat ∧ -12800 ≤ z_5 ∧ z_5 ≤ 12800 := h_5
  refine lv_i2l SS.1 SS.2.1 dX12_planeOf_8 rfl ?_
  refine lv_lstore (lv' := [(5, .long ((J z_5).toInt64)), (0, .ref o), (1, .int (J s)), (2, .int (J i)), (3, .int (J j)), (4, .int (J k))]) SS.1 SS.2.1 dX12_planeOf_9 hl (by decide) rfl (fun ls hl => ?_)
  refine lv_aload_n SS.1 SS.2.1 dX12_planeOf_11 rfl (lv_at hl 1 rfl) ?_
  refine j_get SS hG hP 0 (v := .ref (q 3)) (C := RX12) (T := TX12) (N := 31) rfl rfl inX12 3 (by decide) (ref := RX12) kw_1061 rfl rfl dX12_planeOf_12 ?_
  refine j_bipush SS dX12_planeOf_15 (by decide +kernel) ?_
  refine lv_iload_n SS.1 SS.2.1 dX12_planeOf_17 rfl (lv_at hl 2 rfl) ?_
  refine j_imul SS (x := 40) (y := s) dX12_planeOf_18 ?_
  refine lv_iload_n SS.1 SS.2.1 dX12_planeOf_19 rfl (lv_at hl 4 rfl) ?_
  refine j_iadd SS (x := (40 * s)) (y := j) dX12_planeOf_20 ?_
  refine j_iald SS hG hP 4 (n := 320) (f := (u.1 3)) rfl (z := ((40 * s) + j)) (by omega) (by omega) dX12_planeOf_21 ?_
  refine lv_aload_n SS.1 SS.2.1 dX12_planeOf_22 rfl (lv_at hl 1 rfl) ?_
  refine j_get SS hG hP 0 (v := .ref (q 3)) (C := RX12) (T := TX12) (N := 31) rfl rfl inX12 3 (by decide) (ref := RX12) kw_1061 rfl rfl dX12_planeOf_23 ?_
  refine j_bipush SS dX12_planeOf_26 (by decide +kernel) ?_
  refine lv_iload_n SS.1 SS.2.1 dX12_planeOf_28 rfl (lv_at hl 2 rfl) ?_
  refine j_imul SS (x := 40) (y := s) dX12_planeOf_29 ?_
  refine lv_iload_n SS.1 SS.2.1 dX12_planeOf_30 rfl (lv_at hl 3 rfl) ?_
  refine j_iadd SS (x := (40 * s)) (y := i) dX12_planeOf_31 ?_
  refine j_iald SS hG hP 4 (n := 320) (f := (u.1 3)) rfl (z := ((40 * s) + i)) (by omega) (by omega) dX12_planeOf_32 ?_
  refine j_isub SS (x := ((u.1 3) (((40 * s) + j)).toNat)) (y := ((u.1 3) (((40 * s) + i)).toNat)) dX12_planeOf_33 ?_
  obtain ⟨up, eup⟩ : ∃ z : Int, z = (((u.1 3) (((40 * s) + j)).toNat) - ((u.1 3) (((40 * s) + i)).toNat)) := ⟨_, rfl⟩
  rw [← eup]
  refine lv_i2l SS.1 SS.2.1 dX12_planeOf_34 rfl ?_
  refine lv_lstore (lv' := [(7, .long ((J up).toInt64)), (5, .long ((J z_5).toInt64)), (0, .ref o), (1, .int (J s)), (2, .int (J i)), (3, .int (J j)), (4, .int (J k))]) SS.1 SS.2.1 dX12_planeOf_35 hl (by decide) rfl (fun ls hl => ?_)
  refine lv_aload_n SS.1 SS.2.1 dX12_planeOf_37 rfl (lv_at hl 2 rfl) ?_
  refine j_get SS hG hP 0 (v := .ref (q 3)) (C := RX12) (T := TX12) (N := 31) rfl rfl inX12 3 (by decide) (ref := RX12) kw_1061 rfl rfl dX12_planeOf_38 ?_
  refine j_bipush SS dX12_planeOf_41 (by decide +kernel) ?_
  refine lv_iload_n SS.1 SS.2.1 dX12_planeOf_43 rfl (lv_at hl 3 rfl) ?_
  refine j_imul SS (x := 40) (y := s) dX12_planeOf_44 ?_
  refine lv_iload SS.1 SS.2.1 dX12_planeOf_45 (lv_at hl 6 rfl) ?_
  refine j_iadd SS (x := (40 * s)) (y := k) dX12_planeOf_47 ?_
  refine j_iald SS hG hP 4 (n := 320) (f := (u.1 3)) rfl (z := ((40 * s) + k)) (by omega) (by omega) dX12_planeOf_48 ?_
  refine lv_aload_n SS.1 SS.2.1 dX12_planeOf_49 rfl (lv_at hl 2 rfl) ?_
  refine j_get SS hG hP 0 (v := .ref (q 3)) (C := RX12) (T := TX12) (N := 31) rfl rfl inX12 3 (by decide) (ref := RX12) kw_1061 rfl rfl dX12_planeOf_50 ?_
  refine j_bipush SS dX12_planeOf_53 (by decide +kernel) ?_
  refine lv_iload_n SS.1 SS.2.1 dX12_planeOf_55 rfl (lv_at hl 3 rfl) ?_
  refine j_imul SS (x := 40) (y := s) dX12_planeOf_56 ?_
  refine lv_iload_n SS.1 SS.2.1 dX12_planeOf_57 rfl (lv_at hl 4 rfl) ?_
  refine j_iadd SS (x := (40 * s)) (y := i) dX12_planeOf_58 ?_
  refine j_iald SS hG hP 4 (n := 320) (f := (u.1 3)) rfl (z := ((40 * s) + i)) (by omega) (by omega) dX12_planeOf_59 ?_
  refine j_isub SS (x := ((u.1 3) (((40 * s) + k)).toNat)) (y := ((u.1 3) (((40 * s) + i)).toNat)) dX12_planeOf_60 ?_
  obtain ⟨ot, eot⟩ : ∃ z : Int, z = (((u.1 3) (((40 * s) + k)).toNat) - ((u.1 3) (((40 * s) + i)).toNat)) := ⟨_, rfl⟩
  rw [← eot]
  refine lv_i2l SS.1 SS.2.1 dX12_planeOf_61 rfl ?_
  refine lv_lstore (lv' := [(9, .long ((J ot).toInt64)), (7, .long ((J up).toInt64)), (5, .long ((J z_5).toInt64)), (0, .ref o), (1, .int (J s)), (2, .int (J i)), (3, .int (J j)), (4, .int (J k))]) SS.1 SS.2.1 dX12_planeOf_62 hl (by decide) rfl (fun ls hl => ?_)
  refine lv_lconst (v := 0) SS.1 SS.2.1 dX12_planeOf_64 (by decide +kernel) ?_
  refine lv_lstore (lv' := [(11, .long 0), (9, .long ((J ot).toInt64)), (7, .long ((J up).toInt64)), (5, .long ((J z_5).toInt64)), (0, .ref o), (1, .int (J s)), (2, .int (J i)), (3, .int (J j)), (4, .int (J k))]) SS.1 SS.2.1 dX12_planeOf_65 hl (by decide) rfl (fun ls hl => ?_)
  refine j_iconst SS dX12_planeOf_67 ?_
  refine lv_istore (lv' := [(13, .int (J 0)), (11, .long 0), (9, .long ((J ot).toInt64)), (7, .long ((J up).toInt64)), (5, .long ((J z_5).toInt64)), (0, .ref o), (1, .int (J s)), (2, .int (J i)), (3, .int (J j)), (4, .int (J k))]) SS.1 SS.2.1 dX12_planeOf_68 hl (by decide) rfl (fun ls hl => ?_)
  have L_70 : ∀ (nn : Nat) (x : Int64) (p : Int) (ls : Array Slot) (hl : lv_has ls 24 [(0, .ref o), (1, .int (J s)), (2, .int (J i)), (3, .int (J j)), (4, .int (J k)), (5, .long ((J z_5).toInt64)), (7, .long ((J up).toInt64)), (9, .long ((J ot).toInt64)), (11, .long x), (13, .int (J p))]) (i70_0 : 0 ≤ p ∧ p ≤ u.2.2 12) (i70_1 : ∀ q : Int, 0 ≤ q → q < p → 0 ≤ pS (u.1 10) (u.1 11) (u.1 3) s i j k q) (i70_2 : x = PB (fun q => decide (pS (u.1 10) (u.1 11) (u.1 3) s i j k q = 0)) p.toNat), (u.2.2 12 - p).toNat < nn → W pr l en (headSpec (jw yX12_planeOf cX12_planeOf 24 (some .long)) (jr 2 46)).room st mi (([.ref o, .int (J s), .int (J i), .int (J j), .int (J k)] : List Value).toArray) below meth co st.heap [] 0 0 (MQ below (vp_Sl (fun r => (r = 0 ∧ ∃ p : Int, 0 ≤ p ∧ p < u.2.2 12 ∧ pS (u.1 10) (u.1 11) (u.1 3) s i j k p < 0) ∨ ((∀ p : Int, 0 ≤ p → p < u.2.2 12 → 0 ≤ pS (u.1 10) (u.1 11) (u.1 3) s i j k p) ∧ r = PB (fun p => decide (pS (u.1 10) (u.1 11) (u.1 3) s i j k p = 0)) (u.2.2 12).toNat))) (([.ref o, .int (J s), .int (J i), .int (J j), .int (J k)] : List Value).toArray) st 0 0 (fun _ => False)) (F0 mi 70 ls []) := by
    intro nn
    induction nn with
    | zero => intros; omega
    | succ nn ih_70 =>
      intro x p ls hl i70_0 i70_1 i70_2 hm
      refine lv_iload SS.1 SS.2.1 dX12_planeOf_70 (lv_at hl 9 rfl) ?_
      refine lv_aload_n SS.1 SS.2.1 dX12_planeOf_72 rfl (lv_at hl 0 rfl) ?_
      refine j_get SS hG hP 0 (v := .int (J (u.2.2 12))) (C := RX12) (T := TX12) (N := 31) rfl rfl inX12 12 (by decide) (ref := RX12) kw_1070 rfl rfl dX12_planeOf_73 ?_
      refine j_icmp_ge SS (tgt := 202) (x := p) (y := (u.2.2 12)) dX12_planeOf_76 (by decide) (by omega) (by omega) (fun c_76 => ?_) (fun c_76 => ?_)
      · skip
        refine lv_lload SS.1 SS.2.1 dX12_planeOf_202 (lv_at hl 8 rfl) ?_
        exact W.lret SS.1 SS.2.1 hr (fun t ht hW => ⟨_, rfl, (Or.inr ⟨fun q h1 h2 => i70_1 q h1 (by omega), by rw [i70_2, show p = u.2.2 12 by omega]⟩), ht⟩) (fun _ h => nomatch h) dX12_planeOf_204 hlk
      · skip
        refine lv_aload_n SS.1 SS.2.1 dX12_planeOf_79 rfl (lv_at hl 0 rfl) ?_
        refine lv_iload_n SS.1 SS.2.1 dX12_planeOf_80 rfl (lv_at hl 2 rfl) ?_
        refine lv_iload SS.1 SS.2.1 dX12_planeOf_81 (lv_at hl 9 rfl) ?_
        refine lv_iload SS.1 SS.2.1 dX12_planeOf_83 (lv_at hl 4 rfl) ?_
        refine j_vRi SS (As := [.int (J i), .int (J p), .int (J k)]) (rest := []) (c_X12_turn l D o q u i p k (show 0 ≤ i ∧ i < 6561 from (by omega)) (show 0 ≤ p ∧ p < 6561 from (by omega)) (show 0 ≤ k ∧ k < 6561 from (by omega)) (show bd 40 ((u.1 10)) ((u.1 11)) 6561 from (p2))) mf_X12_turn kw_1427 hG hP hP (ci := 8) (q0 := 0) rfl rfl rfl rfl hl.1 ⟨⟨Nat.le_of_ble_eq_true rfl, Nat.le_of_ble_eq_true rfl⟩, Nat.le_of_ble_eq_true rfl, Nat.le_refl _, Nat.le_refl _⟩ rfl dX12_planeOf_85 (fun z_85 h_85 => ?_)
        have h_85 : z_85 = tn ((u.1 10)) ((u.1 11)) i.toNat p.toNat k.toNat ∧ -12800 ≤ z_85 ∧ z_85 ≤ 12800 := h_85
        refine lv_i2l SS.1 SS.2.1 dX12_planeOf_88 rfl ?_
        refine lv_lstore (lv' := [(14, .long ((J z_85).toInt64)), (0, .ref o), (1, .int (J s)), (2, .int (J i)), (3, .int (J j)), (4, .int (J k)), (5, .long ((J z_5).toInt64)), (7, .long ((J up).toInt64)), (9, .long ((J ot).toInt64)), (11, .long x), (13, .int (J p))]) SS.1 SS.2.1 dX12_planeOf_89 hl (by decide) rfl (fun ls hl => ?_)
        refine lv_aload_n SS.1 SS.2.1 dX12_planeOf_91 rfl (lv_at hl 1 rfl) ?_
        refine lv_iload_n SS.1 SS.2.1 dX12_planeOf_92 rfl (lv_at hl 3 rfl) ?_
        refine lv_iload_n SS.1 SS.2.1 dX12_planeOf_93 rfl (lv_at hl 4 rfl) ?_
        refine lv_iload SS.1 SS.2.1 dX12_planeOf_94 (lv_at hl 10 rfl) ?_
        refine j_vRi SS (As := [.int (J i), .int (J j), .int (J p)]) (rest := []) (c_X12_turn l D o q u i j p (show 0 ≤ i ∧ i < 6561 from (by omega)) (show 0 ≤ j ∧ j < 6561 from (by omega)) (show 0 ≤ p ∧ p < 6561 from (by omega)) (show bd 40 ((u.1 10)) ((u.1 11)) 6561 from (p2))) mf_X12_turn kw_1427 hG hP hP (ci := 8) (q0 := 0) rfl rfl rfl rfl hl.1 ⟨⟨Nat.le_of_ble_eq_true rfl, Nat.le_of_ble_eq_true rfl⟩, Nat.le_of_ble_eq_true rfl, Nat.le_refl _, Nat.le_refl _⟩ rfl dX12_planeOf_96 (fun z_96 h_96 => ?_)
        have h_96 : z_96 = tn ((u.1 10)) ((u.1 11)) i.toNat j.toNat p.toNat ∧ -12800 ≤ z_96 ∧ z_96 ≤ 12800 := h_96
        refine lv_i2l SS.1 SS.2.1 dX12_planeOf_99 rfl ?_
        refine lv_lstore (lv' := [(16, .long ((J z_96).toInt64)), (14, .long ((J z_85).toInt64)), (0, .ref o), (1, .int (J s)), (2, .int (J i)), (3, .int (J j)), (4, .int (J k)), (5, .long ((J z_5).toInt64)), (7, .long ((J up).toInt64)), (9, .long ((J ot).toInt64)), (11, .long x), (13, .int (J p))]) SS.1 SS.2.1 dX12_planeOf_100 hl (by decide) rfl (fun ls hl => ?_)
        refine lv_lload SS.1 SS.2.1 dX12_planeOf_102 (lv_at hl 1 rfl) ?_
        refine lv_lload SS.1 SS.2.1 dX12_planeOf_104 (lv_at hl 8 rfl) ?_
        refine lv_lmul SS.1 SS.2.1 dX12_planeOf_106 ?_
        refine lv_lload SS.1 SS.2.1 dX12_planeOf_107 (lv_at hl 0 rfl) ?_
        refine lv_lload SS.1 SS.2.1 dX12_planeOf_109 (lv_at hl 9 rfl) ?_
        refine lv_lmul SS.1 SS.2.1 dX12_planeOf_111 ?_
        refine lv_ladd SS.1 SS.2.1 dX12_planeOf_112 ?_
        refine lv_lstore (lv' := [(18, .long ((((J z_85).toInt64) * ((J up).toInt64)) + (((J z_96).toInt64) * ((J ot).toInt64)))), (16, .long ((J z_96).toInt64)), (14, .long ((J z_85).toInt64)), (0, .ref o), (1, .int (J s)), (2, .int (J i)), (3, .int (J j)), (4, .int (J k)), (5, .long ((J z_5).toInt64)), (7, .long ((J up).toInt64)), (9, .long ((J ot).toInt64)), (11, .long x), (13, .int (J p))]) SS.1 SS.2.1 dX12_planeOf_113 hl (by decide) rfl (fun ls hl => ?_)
        have hq := hH p
        refine lv_aload_n SS.1 SS.2.1 dX12_planeOf_115 rfl (lv_at hl 3 rfl) ?_
        refine j_get SS hG hP 0 (v := .ref (q 3)) (C := RX12) (T := TX12) (N := 31) rfl rfl inX12 3 (by decide) (ref := RX12) kw_1061 rfl rfl dX12_planeOf_116 ?_
        refine j_bipush SS dX12_planeOf_119 (by decide +kernel) ?_
        refine lv_iload_n SS.1 SS.2.1 dX12_planeOf_121 rfl (lv_at hl 4 rfl) ?_
        refine j_imul SS (x := 40) (y := s) dX12_planeOf_122 ?_
        refine lv_iload SS.1 SS.2.1 dX12_planeOf_123 (lv_at hl 12 rfl) ?_
        refine j_iadd SS (x := (40 * s)) (y := p) dX12_planeOf_125 ?_
        refine j_iald SS hG hP 4 (n := 320) (f := (u.1 3)) rfl (z := ((40 * s) + p)) (by omega) (by omega) dX12_planeOf_126 ?_
        refine lv_aload_n SS.1 SS.2.1 dX12_planeOf_127 rfl (lv_at hl 3 rfl) ?_
        refine j_get SS hG hP 0 (v := .ref (q 3)) (C := RX12) (T := TX12) (N := 31) rfl rfl inX12 3 (by decide) (ref := RX12) kw_1061 rfl rfl dX12_planeOf_128 ?_
        refine j_bipush SS dX12_planeOf_131 (by decide +kernel) ?_
        refine lv_iload_n SS.1 SS.2.1 dX12_planeOf_133 rfl (lv_at hl 4 rfl) ?_
        refine j_imul SS (x := 40) (y := s) dX12_planeOf_134 ?_
        refine lv_iload_n SS.1 SS.2.1 dX12_planeOf_135 rfl (lv_at hl 5 rfl) ?_
        refine j_iadd SS (x := (40 * s)) (y := i) dX12_planeOf_136 ?_
        refine j_iald SS hG hP 4 (n := 320) (f := (u.1 3)) rfl (z := ((40 * s) + i)) (by omega) (by omega) dX12_planeOf_137 ?_
        refine j_isub SS (x := ((u.1 3) (((40 * s) + p)).toNat)) (y := ((u.1 3) (((40 * s) + i)).toNat)) dX12_planeOf_138 ?_
        obtain ⟨hp, ehp⟩ : ∃ z : Int, z = (((u.1 3) (((40 * s) + p)).toNat) - ((u.1 3) (((40 * s) + i)).toNat)) := ⟨_, rfl⟩
        rw [← ehp]
        refine lv_i2l SS.1 SS.2.1 dX12_planeOf_139 rfl ?_
        refine lv_lload SS.1 SS.2.1 dX12_planeOf_140 (lv_at hl 8 rfl) ?_
        refine lv_lmul SS.1 SS.2.1 dX12_planeOf_142 ?_
        refine lv_lstore (lv' := [(20, .long (((J hp).toInt64) * ((J z_5).toInt64))), (18, .long ((((J z_85).toInt64) * ((J up).toInt64)) + (((J z_96).toInt64) * ((J ot).toInt64)))), (16, .long ((J z_96).toInt64)), (14, .long ((J z_85).toInt64)), (0, .ref o), (1, .int (J s)), (2, .int (J i)), (3, .int (J j)), (4, .int (J k)), (5, .long ((J z_5).toInt64)), (7, .long ((J up).toInt64)), (9, .long ((J ot).toInt64)), (11, .long x), (13, .int (J p))]) SS.1 SS.2.1 dX12_planeOf_143 hl (by decide) rfl (fun ls hl => ?_)
        have ho := off_L (d := z_5) (up := up) (ot := ot) (one := z_85) (two := z_96) (hp := hp) (by omega) (by omega) (by omega) (by omega) (by omega) (by omega)
        have o1 := mulb (A := 2000) (B := 12800) (a := hp) (b := z_5) (by omega) (by omega)
        have o2 := mulb (A := 12800) (B := 2000) (a := z_85) (b := up) (by omega) (by omega)
        have o3 := mulb (A := 12800) (B := 2000) (a := z_96) (b := ot) (by omega) (by omega)
        have hpA : pA (u.1 10) (u.1 11) (u.1 3) s i j k p = hp * z_5 - (z_85 * up + z_96 * ot) := by rw [ehp, eup, eot, h_5.1, h_85.1, h_96.1]; rfl
        refine lv_lload SS.1 SS.2.1 dX12_planeOf_145 (lv_at hl 9 rfl) ?_
        refine lv_lconst (v := 0) SS.1 SS.2.1 dX12_planeOf_147 (by decide +kernel) ?_
        refine j_lcmp SS dX12_planeOf_148 (fun z_148 hz_148 => ?_)
        rw [show (J z_5).toInt64 = L z_5 from J_L (by omega)] at hz_148
        have hz_148 := L_cmp (by omega) hz_148
        refine j_if_le SS (tgt := 160) (x := z_148) dX12_planeOf_149 (by decide) (by omega) (fun c_149 => ?_) (fun c_149 => ?_)
        · skip
          refine lv_lload SS.1 SS.2.1 dX12_planeOf_160 (lv_at hl 1 rfl) ?_
          refine lv_lload SS.1 SS.2.1 dX12_planeOf_162 (lv_at hl 0 rfl) ?_
          refine lv_lsub SS.1 SS.2.1 dX12_planeOf_164 ?_
          refine lv_lstore (lv' := [(22, .long (((((J z_85).toInt64) * ((J up).toInt64)) + (((J z_96).toInt64) * ((J ot).toInt64))) - (((J hp).toInt64) * ((J z_5).toInt64)))), (20, .long (((J hp).toInt64) * ((J z_5).toInt64))), (18, .long ((((J z_85).toInt64) * ((J up).toInt64)) + (((J z_96).toInt64) * ((J ot).toInt64)))), (16, .long ((J z_96).toInt64)), (14, .long ((J z_85).toInt64)), (0, .ref o), (1, .int (J s)), (2, .int (J i)), (3, .int (J j)), (4, .int (J k)), (5, .long ((J z_5).toInt64)), (7, .long ((J up).toInt64)), (9, .long ((J ot).toInt64)), (11, .long x), (13, .int (J p))]) SS.1 SS.2.1 dX12_planeOf_165 hl (by decide) rfl (fun ls hl => ?_)
          refine lv_lload SS.1 SS.2.1 dX12_planeOf_167 (lv_at hl 0 rfl) ?_
          refine lv_lconst (v := 0) SS.1 SS.2.1 dX12_planeOf_169 (by decide +kernel) ?_
          first | rw [ho.1] | rw [ho.2]
          refine j_lcmp SS dX12_planeOf_170 (fun z_170 hz_170 => ?_)
          have hz_170 := L_cmp (by omega) hz_170
          have hpS : pS (u.1 10) (u.1 11) (u.1 3) s i j k p = if 0 < z_5 then (hp * z_5 - (z_85 * up + z_96 * ot)) else -(hp * z_5 - (z_85 * up + z_96 * ot)) := by unfold pS; rw [hpA, h_5.1]; rfl
          first | rw [if_pos (by omega)] at hpS | rw [if_neg (by omega)] at hpS
          refine j_if_ge SS (tgt := 176) (x := z_170) dX12_planeOf_171 (by decide) (by omega) (fun c_171 => ?_) (fun c_171 => ?_)
          · skip
            refine lv_lload SS.1 SS.2.1 dX12_planeOf_176 (lv_at hl 13 rfl) ?_
            refine lv_lload SS.1 SS.2.1 dX12_planeOf_178 (lv_at hl 0 rfl) ?_
            refine lv_lconst (v := 0) SS.1 SS.2.1 dX12_planeOf_180 (by decide +kernel) ?_
            first | rw [ho.1] | rw [ho.2]
            refine j_lcmp SS dX12_planeOf_181 (fun z_181 hz_181 => ?_)
            have hz_181 := L_cmp (by omega) hz_181
            refine j_if_ne SS (tgt := 192) (x := z_181) dX12_planeOf_182 (by decide) (by omega) (fun c_182 => ?_) (fun c_182 => ?_)
            · skip
              refine lv_lconst (v := 0) SS.1 SS.2.1 dX12_planeOf_192 (by decide +kernel) ?_
              refine lv_lor SS.1 SS.2.1 dX12_planeOf_193 ?_
              refine lv_lstore (lv' := [(11, .long (x ||| 0)), (22, .long (((((J z_85).toInt64) * ((J up).toInt64)) + (((J z_96).toInt64) * ((J ot).toInt64))) - (((J hp).toInt64) * ((J z_5).toInt64)))), (20, .long (((J hp).toInt64) * ((J z_5).toInt64))), (18, .long ((((J z_85).toInt64) * ((J up).toInt64)) + (((J z_96).toInt64) * ((J ot).toInt64)))), (16, .long ((J z_96).toInt64)), (14, .long ((J z_85).toInt64)), (0, .ref o), (1, .int (J s)), (2, .int (J i)), (3, .int (J j)), (4, .int (J k)), (5, .long ((J z_5).toInt64)), (7, .long ((J up).toInt64)), (9, .long ((J ot).toInt64)), (13, .int (J p))]) SS.1 SS.2.1 dX12_planeOf_194 hl (by decide) rfl (fun ls hl => ?_)
              refine lv_iinc (v := J (p + 1)) (lv' := [(13, .int (J (p + 1))), (11, .long (x ||| 0)), (22, .long (((((J z_85).toInt64) * ((J up).toInt64)) + (((J z_96).toInt64) * ((J ot).toInt64))) - (((J hp).toInt64) * ((J z_5).toInt64)))), (20, .long (((J hp).toInt64) * ((J z_5).toInt64))), (18, .long ((((J z_85).toInt64) * ((J up).toInt64)) + (((J z_96).toInt64) * ((J ot).toInt64)))), (16, .long ((J z_96).toInt64)), (14, .long ((J z_85).toInt64)), (0, .ref o), (1, .int (J s)), (2, .int (J i)), (3, .int (J j)), (4, .int (J k)), (5, .long ((J z_5).toInt64)), (7, .long ((J up).toInt64)), (9, .long ((J ot).toInt64))]) SS.1 SS.2.1 dX12_planeOf_196 hl (k := 14) rfl (J_add _ _) (by decide) rfl (fun ls hl => ?_)
              refine lv_goto (tgt := 70) SS.1 SS.2.1 dX12_planeOf_199 (by decide) ?_
              exact ih_70 (x ||| 0) (p + 1) ls (lv_sub hl [7, 8, 9, 10, 11, 12, 13, 14, 1, 0] rfl) (by omega) (fun q h1 h2 => by by_cases e : q = p; (rw [e]; omega); exact i70_1 q h1 (by omega)) (by first | exact (PBp (F := pS (u.1 10) (u.1 11) (u.1 3) s i j k) i70_0.1 i70_2).2 (by omega) | (rw [ex_188]; exact (PBp (F := pS (u.1 10) (u.1 11) (u.1 3) s i j k) i70_0.1 i70_2).1 (by omega))) (by omega)
            · skip
              refine lv_lconst (v := 1) SS.1 SS.2.1 dX12_planeOf_185 (by decide +kernel) ?_
              refine lv_iload SS.1 SS.2.1 dX12_planeOf_186 (lv_at hl 14 rfl) ?_
              refine lv_lshl SS.1 SS.2.1 dX12_planeOf_188 rfl (lv_topl (fun x_188 ex_188 => ?_))
              refine lv_goto (tgt := 193) SS.1 SS.2.1 dX12_planeOf_189 (by decide) ?_
              refine lv_lor SS.1 SS.2.1 dX12_planeOf_193 ?_
              refine lv_lstore (lv' := [(11, .long (x ||| x_188)), (22, .long (((((J z_85).toInt64) * ((J up).toInt64)) + (((J z_96).toInt64) * ((J ot).toInt64))) - (((J hp).toInt64) * ((J z_5).toInt64)))), (20, .long (((J hp).toInt64) * ((J z_5).toInt64))), (18, .long ((((J z_85).toInt64) * ((J up).toInt64)) + (((J z_96).toInt64) * ((J ot).toInt64)))), (16, .long ((J z_96).toInt64)), (14, .long ((J z_85).toInt64)), (0, .ref o), (1, .int (J s)), (2, .int (J i)), (3, .int (J j)), (4, .int (J k)), (5, .long ((J z_5).toInt64)), (7, .long ((J up).toInt64)), (9, .long ((J ot).toInt64)), (13, .int (J p))]) SS.1 SS.2.1 dX12_planeOf_194 hl (by decide) rfl (fun ls hl => ?_)
              refine lv_iinc (v := J (p + 1)) (lv' := [(13, .int (J (p + 1))), (11, .long (x ||| x_188)), (22, .long (((((J z_85).toInt64) * ((J up).toInt64)) + (((J z_96).toInt64) * ((J ot).toInt64))) - (((J hp).toInt64) * ((J z_5).toInt64)))), (20, .long (((J hp).toInt64) * ((J z_5).toInt64))), (18, .long ((((J z_85).toInt64) * ((J up).toInt64)) + (((J z_96).toInt64) * ((J ot).toInt64)))), (16, .long ((J z_96).toInt64)), (14, .long ((J z_85).toInt64)), (0, .ref o), (1, .int (J s)), (2, .int (J i)), (3, .int (J j)), (4, .int (J k)), (5, .long ((J z_5).toInt64)), (7, .long ((J up).toInt64)), (9, .long ((J ot).toInt64))]) SS.1 SS.2.1 dX12_planeOf_196 hl (k := 14) rfl (J_add _ _) (by decide) rfl (fun ls hl => ?_)
              refine lv_goto (tgt := 70) SS.1 SS.2.1 dX12_planeOf_199 (by decide) ?_
              exact ih_70 (x ||| x_188) (p + 1) ls (lv_sub hl [7, 8, 9, 10, 11, 12, 13, 14, 1, 0] rfl) (by omega) (fun q h1 h2 => by by_cases e : q = p; (rw [e]; omega); exact i70_1 q h1 (by omega)) (by first | exact (PBp (F := pS (u.1 10) (u.1 11) (u.1 3) s i j k) i70_0.1 i70_2).2 (by omega) | (rw [ex_188]; exact (PBp (F := pS (u.1 10) (u.1 11) (u.1 3) s i j k) i70_0.1 i70_2).1 (by omega))) (by omega)
          · skip
            refine lv_lconst (v := 0) SS.1 SS.2.1 dX12_planeOf_174 (by decide +kernel) ?_
            exact W.lret SS.1 SS.2.1 hr (fun t ht hW => ⟨_, rfl, (Or.inl ⟨rfl, p, by omega, by omega, by omega⟩), ht⟩) (fun _ h => nomatch h) dX12_planeOf_175 hlk
        · skip
          refine lv_lload SS.1 SS.2.1 dX12_planeOf_152 (lv_at hl 0 rfl) ?_
          refine lv_lload SS.1 SS.2.1 dX12_planeOf_154 (lv_at hl 1 rfl) ?_
          refine lv_lsub SS.1 SS.2.1 dX12_planeOf_156 ?_
          refine lv_goto (tgt := 165) SS.1 SS.2.1 dX12_planeOf_157 (by decide) ?_
          refine lv_lstore (lv' := [(22, .long ((((J hp).toInt64) * ((J z_5).toInt64)) - ((((J z_85).toInt64) * ((J up).toInt64)) + (((J z_96).toInt64) * ((J ot).toInt64))))), (20, .long (((J hp).toInt64) * ((J z_5).toInt64))), (18, .long ((((J z_85).toInt64) * ((J up).toInt64)) + (((J z_96).toInt64) * ((J ot).toInt64)))), (16, .long ((J z_96).toInt64)), (14, .long ((J z_85).toInt64)), (0, .ref o), (1, .int (J s)), (2, .int (J i)), (3, .int (J j)), (4, .int (J k)), (5, .long ((J z_5).toInt64)), (7, .long ((J up).toInt64)), (9, .long ((J ot).toInt64)), (11, .long x), (13, .int (J p))]) SS.1 SS.2.1 dX12_planeOf_165 hl (by decide) rfl (fun ls hl => ?_)
          refine lv_lload SS.1 SS.2.1 dX12_planeOf_167 (lv_at hl 0 rfl) ?_
          refine lv_lconst (v := 0) SS.1 SS.2.1 dX12_planeOf_169 (by decide +kernel) ?_
          first | rw [ho.1] | rw [ho.2]
          refine j_lcmp SS dX12_planeOf_170 (fun z_170 hz_170 => ?_)
          have hz_170 := L_cmp (by omega) hz_170
          have hpS : pS (u.1 10) (u.1 11) (u.1 3) s i j k p = if 0 < z_5 then (hp * z_5 - (z_85 * up + z_96 * ot)) else -(hp * z_5 - (z_85 * up + z_96 * ot)) := by unfold pS; rw [hpA, h_5.1]; rfl
          first | rw [if_pos (by omega)] at hpS | rw [if_neg (by omega)] at hpS
          refine j_if_ge SS (tgt := 176) (x := z_170) dX12_planeOf_171 (by decide) (by omega) (fun c_171 => ?_) (fun c_171 => ?_)
          · skip
            refine lv_lload SS.1 SS.2.1 dX12_planeOf_176 (lv_at hl 13 rfl) ?_
            refine lv_lload SS.1 SS.2.1 dX12_planeOf_178 (lv_at hl 0 rfl) ?_
            refine lv_lconst (v := 0) SS.1 SS.2.1 dX12_planeOf_180 (by decide +kernel) ?_
            first | rw [ho.1] | rw [ho.2]
            refine j_lcmp SS dX12_planeOf_181 (fun z_181 hz_181 => ?_)
            have hz_181 := L_cmp (by omega) hz_181
            refine j_if_ne SS (tgt := 192) (x := z_181) dX12_planeOf_182 (by decide) (by omega) (fun c_182 => ?_) (fun c_182 => ?_)
            · skip
              refine lv_lconst (v := 0) SS.1 SS.2.1 dX12_planeOf_192 (by decide +kernel) ?_
              refine lv_lor SS.1 SS.2.1 dX12_planeOf_193 ?_
              refine lv_lstore (lv' := [(11, .long (x ||| 0)), (22, .long ((((J hp).toInt64) * ((J z_5).toInt64)) - ((((J z_85).toInt64) * ((J up).toInt64)) + (((J z_96).toInt64) * ((J ot).toInt64))))), (20, .long (((J hp).toInt64) * ((J z_5).toInt64))), (18, .long ((((J z_85).toInt64) * ((J up).toInt64)) + (((J z_96).toInt64) * ((J ot).toInt64)))), (16, .long ((J z_96).toInt64)), (14, .long ((J z_85).toInt64)), (0, .ref o), (1, .int (J s)), (2, .int (J i)), (3, .int (J j)), (4, .int (J k)), (5, .long ((J z_5).toInt64)), (7, .long ((J up).toInt64)), (9, .long ((J ot).toInt64)), (13, .int (J p))]) SS.1 SS.2.1 dX12_planeOf_194 hl (by decide) rfl (fun ls hl => ?_)
              refine lv_iinc (v := J (p + 1)) (lv' := [(13, .int (J (p + 1))), (11, .long (x ||| 0)), (22, .long ((((J hp).toInt64) * ((J z_5).toInt64)) - ((((J z_85).toInt64) * ((J up).toInt64)) + (((J z_96).toInt64) * ((J ot).toInt64))))), (20, .long (((J hp).toInt64) * ((J z_5).toInt64))), (18, .long ((((J z_85).toInt64) * ((J up).toInt64)) + (((J z_96).toInt64) * ((J ot).toInt64)))), (16, .long ((J z_96).toInt64)), (14, .long ((J z_85).toInt64)), (0, .ref o), (1, .int (J s)), (2, .int (J i)), (3, .int (J j)), (4, .int (J k)), (5, .long ((J z_5).toInt64)), (7, .long ((J up).toInt64)), (9, .long ((J ot).toInt64))]) SS.1 SS.2.1 dX12_planeOf_196 hl (k := 14) rfl (J_add _ _) (by decide) rfl (fun ls hl => ?_)
              refine lv_goto (tgt := 70) SS.1 SS.2.1 dX12_planeOf_199 (by decide) ?_
              exact ih_70 (x ||| 0) (p + 1) ls (lv_sub hl [7, 8, 9, 10, 11, 12, 13, 14, 1, 0] rfl) (by omega) (fun q h1 h2 => by by_cases e : q = p; (rw [e]; omega); exact i70_1 q h1 (by omega)) (by first | exact (PBp (F := pS (u.1 10) (u.1 11) (u.1 3) s i j k) i70_0.1 i70_2).2 (by omega) | (rw [ex_188]; exact (PBp (F := pS (u.1 10) (u.1 11) (u.1 3) s i j k) i70_0.1 i70_2).1 (by omega))) (by omega)
            · skip
              refine lv_lconst (v := 1) SS.1 SS.2.1 dX12_planeOf_185 (by decide +kernel) ?_
              refine lv_iload SS.1 SS.2.1 dX12_planeOf_186 (lv_at hl 14 rfl) ?_
              refine lv_lshl SS.1 SS.2.1 dX12_planeOf_188 rfl (lv_topl (fun x_188 ex_188 => ?_))
              refine lv_goto (tgt := 193) SS.1 SS.2.1 dX12_planeOf_189 (by decide) ?_
              refine lv_lor SS.1 SS.2.1 dX12_planeOf_193 ?_
              refine lv_lstore (lv' := [(11, .long (x ||| x_188)), (22, .long ((((J hp).toInt64) * ((J z_5).toInt64)) - ((((J z_85).toInt64) * ((J up).toInt64)) + (((J z_96).toInt64) * ((J ot).toInt64))))), (20, .long (((J hp).toInt64) * ((J z_5).toInt64))), (18, .long ((((J z_85).toInt64) * ((J up).toInt64)) + (((J z_96).toInt64) * ((J ot).toInt64)))), (16, .long ((J z_96).toInt64)), (14, .long ((J z_85).toInt64)), (0, .ref o), (1, .int (J s)), (2, .int (J i)), (3, .int (J j)), (4, .int (J k)), (5, .long ((J z_5).toInt64)), (7, .long ((J up).toInt64)), (9, .long ((J ot).toInt64)), (13, .int (J p))]) SS.1 SS.2.1 dX12_planeOf_194 hl (by decide) rfl (fun ls hl => ?_)
              refine lv_iinc (v := J (p + 1)) (lv' := [(13, .int (J (p + 1))), (11, .long (x ||| x_188)), (22, .long ((((J hp).toInt64) * ((J z_5).toInt64)) - ((((J z_85).toInt64) * ((J up).toInt64)) + (((J z_96).toInt64) * ((J ot).toInt64))))), (20, .long (((J hp).toInt64) * ((J z_5).toInt64))), (18, .long ((((J z_85).toInt64) * ((J up).toInt64)) + (((J z_96).toInt64) * ((J ot).toInt64)))), (16, .long ((J z_96).toInt64)), (14, .long ((J z_85).toInt64)), (0, .ref o), (1, .int (J s)), (2, .int (J i)), (3, .int (J j)), (4, .int (J k)), (5, .long ((J z_5).toInt64)), (7, .long ((J up).toInt64)), (9, .long ((J ot).toInt64))]) SS.1 SS.2.1 dX12_planeOf_196 hl (k := 14) rfl (J_add _ _) (by decide) rfl (fun ls hl => ?_)
              refine lv_goto (tgt := 70) SS.1 SS.2.1 dX12_planeOf_199 (by decide) ?_
              exact ih_70 (x ||| x_188) (p + 1) ls (lv_sub hl [7, 8, 9, 10, 11, 12, 13, 14, 1, 0] rfl) (by omega) (fun q h1 h2 => by by_cases e : q = p; (rw [e]; omega); exact i70_1 q h1 (by omega)) (by first | exact (PBp (F := pS (u.1 10) (u.1 11) (u.1 3) s i j k) i70_0.1 i70_2).2 (by omega) | (rw [ex_188]; exact (PBp (F := pS (u.1 10) (u.1 11) (u.1 3) s i j k) i70_0.1 i70_2).1 (by omega))) (by omega)
          · skip
            refine lv_lconst (v := 0) SS.1 SS.2.1 dX12_planeOf_174 (by decide +kernel) ?_
            exact W.lret SS.1 SS.2.1 hr (fun t ht hW => ⟨_, rfl, (Or.inl ⟨rfl, p, by omega, by omega, by omega⟩), ht⟩) (fun _ h => nomatch h) dX12_planeOf_175 hlk
  exact L_70 ((u.2.2 12 - (0 : Int)).toNat + 1) 0 0 ls (lv_sub hl [5, 6, 7, 8, 9, 4, 3, 2, 1, 0] rfl) (by omega) (fun q h1 h2 => by omega) (rfl) (Nat.lt_succ_self _)
