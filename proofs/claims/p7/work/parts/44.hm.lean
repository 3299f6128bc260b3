
set_option maxHeartbeats 4000000 in
set_option maxRecDepth 100000 in
theorem c_X1_setOf (l : Launch) (D : JD) (q : Nat → Nat) (u : CS) (i : Int) (p0 : -2147483648 ≤ i ∧ i ≤ 2147483647) : Met l yX1_setOf (jw yX1_setOf cX1_setOf 2 (some .long)) (jr 0 0) (jP [.ref (q 7), .int (J i)] D (fun H => va_P D.1 j_cl (cW D q u) H)) (vp_Sl (fun x9 => True)) 0 0 (fun _ => False) := by
  refine Met.ofW (cc := cX1_setOf) (maxL := 2) (ret := (some .long)) (by decide) rfl ?_
  intro pr en st mi args below meth co s₁ B hml hv
  obtain ⟨rfl, hG, hP⟩ := hv
  have hr := B.returns
  have hlk := B.notSynchronized
  have SS : jS pr mi co cX1_setOf 2 st _ RX1 := ⟨B.exec, B.bytes, hml, findClass_of_methodNamed B.named, fun w hw => atoms_spec (ws := (jw yX1_setOf cX1_setOf 2 (some .long))) B.pre w (List.mem_cons_of_mem _ hw)⟩
  have hl := lv_entry ([.ref (q 7), .int (J i)]) (n := 2) (Nat.le_of_ble_eq_true rfl)
  rw [lg_entry_eq]
  generalize (lg_sl ([.ref (q 7), .int (J i)]) ++ List.replicate (2 - (lg_sl ([.ref (q 7), .int (J i)])).length) Slot.unset).toArray = ls at hl ⊢
  have hl : lv_has ls 2 [(0, .ref (q 7)), (1, .int (J i))] := hl
  refine lv_iload_n SS.1 SS.2.1 dX1_setOf_0 rfl (lv_at hl 1 rfl) ?_
  refine j_if_lt SS (tgt := 22) (x := i) dX1_setOf_1 (by decide) (by omega) (fun c_1 => ?_) (fun c_1 => ?_)
  · skip
    refine lv_lconst (v := 0) SS.1 SS.2.1 dX1_setOf_22 (by decide +kernel) ?_
    exact W.lret SS.1 SS.2.1 hr (fun t0 ht hW => ⟨_, rfl, (trivial), ht⟩) (fun _ h => nomatch h) dX1_setOf_23 hlk
  · skip
    refine lv_iload_n SS.1 SS.2.1 dX1_setOf_4 rfl (lv_at hl 1 rfl) ?_
    refine lv_aload_n SS.1 SS.2.1 dX1_setOf_5 rfl (lv_at hl 0 rfl) ?_
    refine j_get SS hG hP 7 (v := .ref (q 73)) (C := RX1) (T := TX1) (N := 4) rfl rfl inX1 1 (by decide) (ref := "GridPolygons$Coarse") kw_372 rfl rfl dX1_setOf_6 ?_
    refine va_alen SS.1 SS.2.1 hG.1 hP 73 1 rfl rfl (v := J (80 : Int)) (by first | rfl | exact J_nat _) dX1_setOf_9 ?_
    refine j_icmp_ge SS (tgt := 22) (x := i) (y := 80) dX1_setOf_10 (by decide) (by omega) (by decide) (fun c_10 => ?_) (fun c_10 => ?_)
    · skip
      refine lv_lconst (v := 0) SS.1 SS.2.1 dX1_setOf_22 (by decide +kernel) ?_
      exact W.lret SS.1 SS.2.1 hr (fun t0 ht hW => ⟨_, rfl, (trivial), ht⟩) (fun _ h => nomatch h) dX1_setOf_23 hlk
    · skip
      refine lv_aload_n SS.1 SS.2.1 dX1_setOf_13 rfl (lv_at hl 0 rfl) ?_
      refine j_get SS hG hP 7 (v := .ref (q 73)) (C := RX1) (T := TX1) (N := 4) rfl rfl inX1 1 (by decide) (ref := "GridPolygons$Coarse") kw_372 rfl rfl dX1_setOf_14 ?_
      refine lv_iload_n SS.1 SS.2.1 dX1_setOf_17 rfl (lv_at hl 1 rfl) ?_
      refine j_lald SS hG hP 73 (n := 80) (f := (u.2.2.1 6)) rfl (z := i) (by omega) (by omega) dX1_setOf_18 ?_
      refine lv_goto (tgt := 23) SS.1 SS.2.1 dX1_setOf_19 (by decide) ?_
      exact W.lret SS.1 SS.2.1 hr (fun t0 ht hW => ⟨_, rfl, (trivial), ht⟩) (fun _ h => nomatch h) dX1_setOf_23 hlk

set_option maxHeartbeats 4000000 in
set_option maxRecDepth 100000 in
theorem c_X1_sizeOf (l : Launch) (D : JD) (q : Nat → Nat) (u : CS) (i : Int) (p0 : -2147483648 ≤ i ∧ i ≤ 2147483647) : Met l yX1_sizeOf (jw yX1_sizeOf cX1_sizeOf 2 (some .int)) (jr 1 21) (jP [.ref (q 7), .int (J i)] D (fun H => va_P D.1 j_cl (cW D q u) H)) (jRi (fun z => 0 ≤ z ∧ z ≤ 127)) 0 0 (fun _ => False) := by
  refine Met.ofW (cc := cX1_sizeOf) (maxL := 2) (ret := (some .int)) (by decide) rfl ?_
  intro pr en st mi args below meth co s₁ B hml hv
  obtain ⟨rfl, hG, hP⟩ := hv
  have hr := B.returns
  have hlk := B.notSynchronized
  have SS : jS pr mi co cX1_sizeOf 2 st _ RX1 := ⟨B.exec, B.bytes, hml, findClass_of_methodNamed B.named, fun w hw => atoms_spec (ws := (jw yX1_sizeOf cX1_sizeOf 2 (some .int))) B.pre w (List.mem_cons_of_mem _ hw)⟩
  have hl := lv_entry ([.ref (q 7), .int (J i)]) (n := 2) (Nat.le_of_ble_eq_true rfl)
  rw [lg_entry_eq]
  generalize (lg_sl ([.ref (q 7), .int (J i)]) ++ List.replicate (2 - (lg_sl ([.ref (q 7), .int (J i)])).length) Slot.unset).toArray = ls at hl ⊢
  have hl : lv_has ls 2 [(0, .ref (q 7)), (1, .int (J i))] := hl
  refine lv_aload_n SS.1 SS.2.1 dX1_sizeOf_0 rfl (lv_at hl 0 rfl) ?_
  refine lv_iload_n SS.1 SS.2.1 dX1_sizeOf_1 rfl (lv_at hl 1 rfl) ?_
  refine j_vRl SS (As := [.int (J i)]) (rest := []) (c_X1_setOf l D q u  i (show -2147483648 ≤ i ∧ i ≤ 2147483647 from (p0))) mf_X1_setOf kw_1018 hG hP hP (ci := 1) (q0 := 7) rfl rfl rfl rfl hl.1 ⟨⟨Nat.le_of_ble_eq_true rfl, Nat.le_of_ble_eq_true rfl⟩, Nat.le_of_ble_eq_true rfl, Nat.le_refl _, Nat.le_refl _⟩ rfl dX1_sizeOf_2 (fun x_2 h_2 => ?_)
  refine j_sRi SS (As := [.long x_2]) (rest := []) (c_J13_bitCount_95d88 l D  x_2 ) mf_J13_bitCount_95d88 kw_1026 hG trivial rfl hl.1 ⟨⟨Nat.le_of_ble_eq_true rfl, Nat.le_of_ble_eq_true rfl⟩, Nat.le_of_ble_eq_true rfl, Nat.le_refl _, Nat.le_refl _⟩ rfl dX1_sizeOf_5 (fun z_5 h_5 => ?_)
  have h_5 : 0 ≤ z_5 ∧ z_5 ≤ 127 := h_5
  exact W.iret SS.1 SS.2.1 hr (fun t0 ht hW => ⟨_, rfl, ⟨z_5, rfl, (by omega)⟩, ht⟩) (fun _ h => nomatch h) dX1_sizeOf_8 hlk

set_option maxHeartbeats 4000000 in
set_option maxRecDepth 100000 in
theorem c_X1_isKnown (l : Launch) (D : JD) (q : Nat → Nat) (u : CS) (set : Int64) (p0 : 0 ≤ u.2.2.2 25 ∧ u.2.2.2 25 ≤ 80) : Met l yX1_isKnown (jw yX1_isKnown cX1_isKnown 4 (some .boolean)) (jr 1 21) (jP [.ref (q 7), .long set] D (fun H => va_P D.1 j_cl (cW D q u) H)) (jRi (fun z => z = 0 ∨ z = 1)) 0 0 (fun _ => False) := by
  refine Met.ofW (cc := cX1_isKnown) (maxL := 4) (ret := (some .boolean)) (by decide) rfl ?_
  intro pr en st mi args below meth co s₁ B hml hv
  obtain ⟨rfl, hG, hP⟩ := hv
  have hr := B.returns
  have hlk := B.notSynchronized
  have SS : jS pr mi co cX1_isKnown 4 st _ RX1 := ⟨B.exec, B.bytes, hml, findClass_of_methodNamed B.named, fun w hw => atoms_spec (ws := (jw yX1_isKnown cX1_isKnown 4 (some .boolean))) B.pre w (List.mem_cons_of_mem _ hw)⟩
  have hl := lv_entry ([.ref (q 7), .long set]) (n := 4) (Nat.le_of_ble_eq_true rfl)
  rw [lg_entry_eq]
  generalize (lg_sl ([.ref (q 7), .long set]) ++ List.replicate (4 - (lg_sl ([.ref (q 7), .long set])).length) Slot.unset).toArray = ls at hl ⊢
  have hl : lv_has ls 4 [(0, .ref (q 7)), (1, .long set)] := hl
  refine j_iconst SS dX1_isKnown_0 ?_
  refine lv_istore_n (lv' := [(3, .int (J 0)), (0, .ref (q 7)), (1, .long set)]) SS.1 SS.2.1 dX1_isKnown_1 rfl hl (by decide) rfl (fun ls hl => ?_)
  have L_2 : ∀ (nn : Nat) (i : Int) (ls : Array Slot) (hl : lv_has ls 4 [(0, .ref (q 7)), (1, .long set), (3, .int (J i))]) (i2_0 : 0 ≤ i ∧ i ≤ 80), ((80 : Int) - i).toNat < nn → W pr l en (headSpec (jw yX1_isKnown cX1_isKnown 4 (some .boolean)) (jr 1 21)).room st mi (([.ref (q 7), .long set] : List Value).toArray) below meth co st.heap [] 0 0 (MQ below (jRi (fun z => z = 0 ∨ z = 1)) (([.ref (q 7), .long set] : List Value).toArray) st 0 0 (fun _ => False)) (F0 mi 2 ls []) := by
    intro nn
    induction nn with
    | zero => intros; omega
    | succ nn ih_2 =>
      intro i ls hl i2_0 hm
      refine lv_iload_n SS.1 SS.2.1 dX1_isKnown_2 rfl (lv_at hl 2 rfl) ?_
      refine lv_aload_n SS.1 SS.2.1 dX1_isKnown_3 rfl (lv_at hl 0 rfl) ?_
      refine j_get SS hG hP 7 (v := .int (J (u.2.2.2 25))) (C := RX1) (T := TX1) (N := 4) rfl rfl inX1 2 (by decide) (ref := "GridPolygons$Coarse") kw_373 rfl rfl dX1_isKnown_4 ?_
      refine j_icmp_ge SS (tgt := 28) (x := i) (y := (u.2.2.2 25)) dX1_isKnown_7 (by decide) (by omega) (by omega) (fun c_7 => ?_) (fun c_7 => ?_)
      · skip
        refine j_iconst SS dX1_isKnown_28 ?_
        exact W.zret SS.1 SS.2.1 hr (j_nz (by decide)) (fun t0 ht hW => ⟨_, rfl, ⟨0, rfl, (by omega)⟩, ht⟩) (fun _ h => nomatch h) dX1_isKnown_29 hlk
      · skip
        refine lv_aload_n SS.1 SS.2.1 dX1_isKnown_10 rfl (lv_at hl 0 rfl) ?_
        refine lv_iload_n SS.1 SS.2.1 dX1_isKnown_11 rfl (lv_at hl 2 rfl) ?_
        refine j_vRl SS (As := [.int (J i)]) (rest := []) (c_X1_setOf l D q u  i (show -2147483648 ≤ i ∧ i ≤ 2147483647 from (by omega))) mf_X1_setOf kw_1018 hG hP hP (ci := 1) (q0 := 7) rfl rfl rfl rfl hl.1 ⟨⟨Nat.le_of_ble_eq_true rfl, Nat.le_of_ble_eq_true rfl⟩, Nat.le_of_ble_eq_true rfl, Nat.le_refl _, Nat.le_refl _⟩ rfl dX1_isKnown_12 (fun x_12 h_12 => ?_)
        refine lv_lload_n SS.1 SS.2.1 dX1_isKnown_15 rfl (lv_at hl 1 rfl) ?_
        refine j_lcmp SS dX1_isKnown_16 (fun z_16 hz_16 => ?_)
        refine j_if_ne SS (tgt := 22) (x := z_16) dX1_isKnown_17 (by decide) (by omega) (fun c_17 => ?_) (fun c_17 => ?_)
        · skip
          refine lv_iinc (v := J (i + 1)) (lv' := [(3, .int (J (i + 1))), (0, .ref (q 7)), (1, .long set)]) SS.1 SS.2.1 dX1_isKnown_22 hl (k := 2) rfl (J_add _ _) (by decide) rfl (fun ls hl => ?_)
          refine lv_goto (tgt := 2) SS.1 SS.2.1 dX1_isKnown_25 (by decide) ?_
          exact ih_2 (i + 1) ls (lv_sub hl [1, 2, 0] rfl) (by omega) (by omega)
        · skip
          refine j_iconst SS dX1_isKnown_20 ?_
          exact W.zret SS.1 SS.2.1 hr (j_nz (by decide)) (fun t0 ht hW => ⟨_, rfl, ⟨1, rfl, (by omega)⟩, ht⟩) (fun _ h => nomatch h) dX1_isKnown_21 hlk
  exact L_2 (((80 : Int) - (0 : Int)).toNat + 1) 0 ls (lv_sub hl [1, 2, 0] rfl) (by omega) (Nat.lt_succ_self _)
