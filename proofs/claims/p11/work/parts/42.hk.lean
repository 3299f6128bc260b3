
set_option maxHeartbeats 4000000 in
set_option maxRecDepth 100000 in
theorem c_X2_farOf (l : Launch) (D : JD) (q : Nat → Nat) (u : CS) (i : Int) (p0 : -2147483648 ≤ i ∧ i ≤ 2147483647) : Met l yX2_farOf (jw yX2_farOf cX2_farOf 2 (some .int)) (jr 0 0) (jP [.ref (q 6), .int (J i)] D (fun H => va_P D.1 j_cl (cW D q u) H)) (jRi (fun z => True)) 0 0 (fun _ => False) := by
  refine Met.ofW (cc := cX2_farOf) (maxL := 2) (ret := (some .int)) (by decide) rfl ?_
  intro pr en st mi args below meth co s₁ B hml hv
  obtain ⟨rfl, hG, hP⟩ := hv
  have hr := B.returns
  have hlk := B.notSynchronized
  have SS : jS pr mi co cX2_farOf 2 st _ RX2 := ⟨B.exec, B.bytes, hml, findClass_of_methodNamed B.named, fun w hw => atoms_spec (ws := (jw yX2_farOf cX2_farOf 2 (some .int))) B.pre w (List.mem_cons_of_mem _ hw)⟩
  have hl := lv_entry ([.ref (q 6), .int (J i)]) (n := 2) (Nat.le_of_ble_eq_true rfl)
  rw [lg_entry_eq]
  generalize (lg_sl ([.ref (q 6), .int (J i)]) ++ List.replicate (2 - (lg_sl ([.ref (q 6), .int (J i)])).length) Slot.unset).toArray = ls at hl ⊢
  have hl : lv_has ls 2 [(0, .ref (q 6)), (1, .int (J i))] := hl
  refine lv_iload_n SS.1 SS.2.1 dX2_farOf_0 rfl (lv_at hl 1 rfl) ?_
  refine j_if_lt SS (tgt := 22) (x := i) dX2_farOf_1 (by decide) (by omega) (fun c_1 => ?_) (fun c_1 => ?_)
  · skip
    refine j_iconst SS dX2_farOf_22 ?_
    exact W.iret SS.1 SS.2.1 hr (fun t0 ht hW => ⟨_, rfl, ⟨0, rfl, (trivial)⟩, ht⟩) (fun _ h => nomatch h) dX2_farOf_23 hlk
  · skip
    refine lv_iload_n SS.1 SS.2.1 dX2_farOf_4 rfl (lv_at hl 1 rfl) ?_
    refine lv_aload_n SS.1 SS.2.1 dX2_farOf_5 rfl (lv_at hl 0 rfl) ?_
    refine j_get SS hG hP 6 (v := .ref (q 64)) (C := RX2) (T := TX2) (N := 7) rfl rfl inX2 2 (by decide) (ref := "GridPolygons$Cuts") kw_342 rfl rfl dX2_farOf_6 ?_
    refine va_alen SS.1 SS.2.1 hG.1 hP 64 0 rfl rfl (v := J (1500 : Int)) (by first | rfl | exact J_nat _) dX2_farOf_9 ?_
    refine j_icmp_ge SS (tgt := 22) (x := i) (y := 1500) dX2_farOf_10 (by decide) (by omega) (by decide) (fun c_10 => ?_) (fun c_10 => ?_)
    · skip
      refine j_iconst SS dX2_farOf_22 ?_
      exact W.iret SS.1 SS.2.1 hr (fun t0 ht hW => ⟨_, rfl, ⟨0, rfl, (trivial)⟩, ht⟩) (fun _ h => nomatch h) dX2_farOf_23 hlk
    · skip
      refine lv_aload_n SS.1 SS.2.1 dX2_farOf_13 rfl (lv_at hl 0 rfl) ?_
      refine j_get SS hG hP 6 (v := .ref (q 64)) (C := RX2) (T := TX2) (N := 7) rfl rfl inX2 2 (by decide) (ref := "GridPolygons$Cuts") kw_342 rfl rfl dX2_farOf_14 ?_
      refine lv_iload_n SS.1 SS.2.1 dX2_farOf_17 rfl (lv_at hl 1 rfl) ?_
      refine j_iald SS hG hP 64 (n := 1500) (f := (u.2.1 7)) rfl (z := i) (by omega) (by omega) dX2_farOf_18 ?_
      refine lv_goto (tgt := 23) SS.1 SS.2.1 dX2_farOf_19 (by decide) ?_
      exact W.iret SS.1 SS.2.1 hr (fun t0 ht hW => ⟨_, rfl, ⟨((u.2.1 7) (i).toNat), rfl, (trivial)⟩, ht⟩) (fun _ h => nomatch h) dX2_farOf_23 hlk

set_option maxHeartbeats 4000000 in
set_option maxRecDepth 100000 in
theorem c_X2_farthest (l : Launch) (D : JD) (q : Nat → Nat) (u : CS) (p0 : 0 ≤ u.2.2.2 22 ∧ u.2.2.2 22 ≤ 1500) : Met l yX2_farthest (jw yX2_farthest cX2_farthest 1 (some .int)) (jr 1 21) (jP [.ref (q 6)] D (fun H => va_P D.1 j_cl (cW D q u) H)) (jRi (fun z => True)) 0 0 (fun _ => False) := by
  refine Met.ofW (cc := cX2_farthest) (maxL := 1) (ret := (some .int)) (by decide) rfl ?_
  intro pr en st mi args below meth co s₁ B hml hv
  obtain ⟨rfl, hG, hP⟩ := hv
  have hr := B.returns
  have hlk := B.notSynchronized
  have SS : jS pr mi co cX2_farthest 1 st _ RX2 := ⟨B.exec, B.bytes, hml, findClass_of_methodNamed B.named, fun w hw => atoms_spec (ws := (jw yX2_farthest cX2_farthest 1 (some .int))) B.pre w (List.mem_cons_of_mem _ hw)⟩
  have hl := lv_entry ([.ref (q 6)]) (n := 1) (Nat.le_of_ble_eq_true rfl)
  rw [lg_entry_eq]
  generalize (lg_sl ([.ref (q 6)]) ++ List.replicate (1 - (lg_sl ([.ref (q 6)])).length) Slot.unset).toArray = ls at hl ⊢
  have hl : lv_has ls 1 [(0, .ref (q 6))] := hl
  refine lv_aload_n SS.1 SS.2.1 dX2_farthest_0 rfl (lv_at hl 0 rfl) ?_
  refine lv_aload_n SS.1 SS.2.1 dX2_farthest_1 rfl (lv_at hl 0 rfl) ?_
  refine j_get SS hG hP 6 (v := .int (J (u.2.2.2 22))) (C := RX2) (T := TX2) (N := 7) rfl rfl inX2 4 (by decide) (ref := "GridPolygons$Cuts") kw_344 rfl rfl dX2_farthest_2 ?_
  refine j_iconst SS dX2_farthest_5 ?_
  refine j_isub SS (x := (u.2.2.2 22)) (y := 1) dX2_farthest_6 ?_
  refine j_vRi SS (As := [.int (J ((u.2.2.2 22) - 1))]) (rest := []) (c_X2_farOf l D q u  ((u.2.2.2 22) - 1) (show -2147483648 ≤ ((u.2.2.2 22) - 1) ∧ ((u.2.2.2 22) - 1) ≤ 2147483647 from (by omega))) mf_X2_farOf kw_950 hG hP hP (ci := 2) (q0 := 6) rfl rfl rfl rfl hl.1 ⟨⟨Nat.le_of_ble_eq_true rfl, Nat.le_of_ble_eq_true rfl⟩, Nat.le_of_ble_eq_true rfl, Nat.le_refl _, Nat.le_refl _⟩ rfl dX2_farthest_7 (fun z_7 h_7 => ?_)
  have h_7 : True := h_7
  exact W.iret SS.1 SS.2.1 hr (fun t0 ht hW => ⟨_, rfl, ⟨z_7, rfl, (trivial)⟩, ht⟩) (fun _ h => nomatch h) dX2_farthest_10 hlk

set_option maxHeartbeats 4000000 in
set_option maxRecDepth 100000 in
theorem c_X2_setOf (l : Launch) (D : JD) (q : Nat → Nat) (u : CS) (i : Int) (p0 : -2147483648 ≤ i ∧ i ≤ 2147483647) : Met l yX2_setOf (jw yX2_setOf cX2_setOf 2 (some .long)) (jr 0 0) (jP [.ref (q 6), .int (J i)] D (fun H => va_P D.1 j_cl (cW D q u) H)) (vp_Sl (fun x9 => True)) 0 0 (fun _ => False) := by
  refine Met.ofW (cc := cX2_setOf) (maxL := 2) (ret := (some .long)) (by decide) rfl ?_
  intro pr en st mi args below meth co s₁ B hml hv
  obtain ⟨rfl, hG, hP⟩ := hv
  have hr := B.returns
  have hlk := B.notSynchronized
  have SS : jS pr mi co cX2_setOf 2 st _ RX2 := ⟨B.exec, B.bytes, hml, findClass_of_methodNamed B.named, fun w hw => atoms_spec (ws := (jw yX2_setOf cX2_setOf 2 (some .long))) B.pre w (List.mem_cons_of_mem _ hw)⟩
  have hl := lv_entry ([.ref (q 6), .int (J i)]) (n := 2) (Nat.le_of_ble_eq_true rfl)
  rw [lg_entry_eq]
  generalize (lg_sl ([.ref (q 6), .int (J i)]) ++ List.replicate (2 - (lg_sl ([.ref (q 6), .int (J i)])).length) Slot.unset).toArray = ls at hl ⊢
  have hl : lv_has ls 2 [(0, .ref (q 6)), (1, .int (J i))] := hl
  refine lv_iload_n SS.1 SS.2.1 dX2_setOf_0 rfl (lv_at hl 1 rfl) ?_
  refine j_if_lt SS (tgt := 22) (x := i) dX2_setOf_1 (by decide) (by omega) (fun c_1 => ?_) (fun c_1 => ?_)
  · skip
    refine lv_lconst (v := 0) SS.1 SS.2.1 dX2_setOf_22 (by decide +kernel) ?_
    exact W.lret SS.1 SS.2.1 hr (fun t0 ht hW => ⟨_, rfl, (trivial), ht⟩) (fun _ h => nomatch h) dX2_setOf_23 hlk
  · skip
    refine lv_iload_n SS.1 SS.2.1 dX2_setOf_4 rfl (lv_at hl 1 rfl) ?_
    refine lv_aload_n SS.1 SS.2.1 dX2_setOf_5 rfl (lv_at hl 0 rfl) ?_
    refine j_get SS hG hP 6 (v := .ref (q 69)) (C := RX2) (T := TX2) (N := 7) rfl rfl inX2 1 (by decide) (ref := "GridPolygons$Cuts") kw_341 rfl rfl dX2_setOf_6 ?_
    refine va_alen SS.1 SS.2.1 hG.1 hP 69 1 rfl rfl (v := J (1500 : Int)) (by first | rfl | exact J_nat _) dX2_setOf_9 ?_
    refine j_icmp_ge SS (tgt := 22) (x := i) (y := 1500) dX2_setOf_10 (by decide) (by omega) (by decide) (fun c_10 => ?_) (fun c_10 => ?_)
    · skip
      refine lv_lconst (v := 0) SS.1 SS.2.1 dX2_setOf_22 (by decide +kernel) ?_
      exact W.lret SS.1 SS.2.1 hr (fun t0 ht hW => ⟨_, rfl, (trivial), ht⟩) (fun _ h => nomatch h) dX2_setOf_23 hlk
    · skip
      refine lv_aload_n SS.1 SS.2.1 dX2_setOf_13 rfl (lv_at hl 0 rfl) ?_
      refine j_get SS hG hP 6 (v := .ref (q 69)) (C := RX2) (T := TX2) (N := 7) rfl rfl inX2 1 (by decide) (ref := "GridPolygons$Cuts") kw_341 rfl rfl dX2_setOf_14 ?_
      refine lv_iload_n SS.1 SS.2.1 dX2_setOf_17 rfl (lv_at hl 1 rfl) ?_
      refine j_lald SS hG hP 69 (n := 1500) (f := (u.2.2.1 2)) rfl (z := i) (by omega) (by omega) dX2_setOf_18 ?_
      refine lv_goto (tgt := 23) SS.1 SS.2.1 dX2_setOf_19 (by decide) ?_
      exact W.lret SS.1 SS.2.1 hr (fun t0 ht hW => ⟨_, rfl, (trivial), ht⟩) (fun _ h => nomatch h) dX2_setOf_23 hlk

set_option maxHeartbeats 4000000 in
set_option maxRecDepth 100000 in
theorem c_X2_flipsOf (l : Launch) (D : JD) (q : Nat → Nat) (u : CS) (i : Int) (p0 : -2147483648 ≤ i ∧ i ≤ 2147483647) (p1 : 0 ≤ u.2.2.2 21 ∧ u.2.2.2 21 ≤ 756) : Met l yX2_flipsOf (jw yX2_flipsOf cX2_flipsOf 4 (some .int)) (jr 1 23) (jP [.ref (q 6), .int (J i)] D (fun H => va_P D.1 j_cl (cW D q u) H)) (jRi (fun z => 0 ≤ z ∧ z ≤ 756)) 0 0 (fun _ => False) := by
  refine Met.ofW (cc := cX2_flipsOf) (maxL := 4) (ret := (some .int)) (by decide) rfl ?_
  intro pr en st mi args below meth co s₁ B hml hv
  obtain ⟨rfl, hG, hP⟩ := hv
  have hr := B.returns
  have hlk := B.notSynchronized
  have SS : jS pr mi co cX2_flipsOf 4 st _ RX2 := ⟨B.exec, B.bytes, hml, findClass_of_methodNamed B.named, fun w hw => atoms_spec (ws := (jw yX2_flipsOf cX2_flipsOf 4 (some .int))) B.pre w (List.mem_cons_of_mem _ hw)⟩
  have hl := lv_entry ([.ref (q 6), .int (J i)]) (n := 4) (Nat.le_of_ble_eq_true rfl)
  rw [lg_entry_eq]
  generalize (lg_sl ([.ref (q 6), .int (J i)]) ++ List.replicate (4 - (lg_sl ([.ref (q 6), .int (J i)])).length) Slot.unset).toArray = ls at hl ⊢
  have hl : lv_has ls 4 [(0, .ref (q 6)), (1, .int (J i))] := hl
  refine j_iconst SS dX2_flipsOf_0 ?_
  refine lv_istore_n (lv' := [(2, .int (J 0)), (0, .ref (q 6)), (1, .int (J i))]) SS.1 SS.2.1 dX2_flipsOf_1 rfl hl (by decide) rfl (fun ls hl => ?_)
  refine j_iconst SS dX2_flipsOf_2 ?_
  refine lv_istore_n (lv' := [(3, .int (J 0)), (2, .int (J 0)), (0, .ref (q 6)), (1, .int (J i))]) SS.1 SS.2.1 dX2_flipsOf_3 rfl hl (by decide) rfl (fun ls hl => ?_)
  have L_4 : ∀ (nn : Nat) (fd : Int) (s : Int) (ls : Array Slot) (hl : lv_has ls 4 [(0, .ref (q 6)), (1, .int (J i)), (2, .int (J fd)), (3, .int (J s))]) (i4_0 : 0 ≤ s ∧ s ≤ u.2.2.2 21) (i4_1 : 0 ≤ fd ∧ fd ≤ s), ((756 : Int) - s).toNat < nn → W pr l en (headSpec (jw yX2_flipsOf cX2_flipsOf 4 (some .int)) (jr 1 23)).room st mi (([.ref (q 6), .int (J i)] : List Value).toArray) below meth co st.heap [] 0 0 (MQ below (jRi (fun z => 0 ≤ z ∧ z ≤ 756)) (([.ref (q 6), .int (J i)] : List Value).toArray) st 0 0 (fun _ => False)) (F0 mi 4 ls []) := by
    intro nn
    induction nn with
    | zero => intros; omega
    | succ nn ih_4 =>
      intro fd s ls hl i4_0 i4_1 hm
      refine lv_iload_n SS.1 SS.2.1 dX2_flipsOf_4 rfl (lv_at hl 3 rfl) ?_
      refine lv_aload_n SS.1 SS.2.1 dX2_flipsOf_5 rfl (lv_at hl 0 rfl) ?_
      refine j_get SS hG hP 6 (v := .ref (q 66)) (C := RX2) (T := TX2) (N := 7) rfl rfl inX2 0 (by decide) (ref := "GridPolygons$Cuts") kw_340 rfl rfl dX2_flipsOf_6 ?_
      refine j_get SS hG hP 66 (v := .int (J (u.2.2.2 21))) (C := RX5) (T := TX5) (N := 9) rfl rfl inX5 8 (by decide) (ref := "GridPolygons$Mesh") kw_320 rfl rfl dX2_flipsOf_9 ?_
      refine j_icmp_ge SS (tgt := 42) (x := s) (y := (u.2.2.2 21)) dX2_flipsOf_12 (by decide) (by omega) (by omega) (fun c_12 => ?_) (fun c_12 => ?_)
      · skip
        refine lv_iload_n SS.1 SS.2.1 dX2_flipsOf_42 rfl (lv_at hl 2 rfl) ?_
        exact W.iret SS.1 SS.2.1 hr (fun t0 ht hW => ⟨_, rfl, ⟨fd, rfl, (by omega)⟩, ht⟩) (fun _ h => nomatch h) dX2_flipsOf_43 hlk
      · skip
        refine lv_aload_n SS.1 SS.2.1 dX2_flipsOf_15 rfl (lv_at hl 0 rfl) ?_
        refine j_get SS hG hP 6 (v := .ref (q 66)) (C := RX2) (T := TX2) (N := 7) rfl rfl inX2 0 (by decide) (ref := "GridPolygons$Cuts") kw_340 rfl rfl dX2_flipsOf_16 ?_
        refine lv_aload_n SS.1 SS.2.1 dX2_flipsOf_19 rfl (lv_at hl 0 rfl) ?_
        refine lv_iload_n SS.1 SS.2.1 dX2_flipsOf_20 rfl (lv_at hl 1 rfl) ?_
        refine j_vRl SS (As := [.int (J i)]) (rest := [.ref (q 66)]) (c_X2_setOf l D q u  i (show -2147483648 ≤ i ∧ i ≤ 2147483647 from (p0))) mf_X2_setOf kw_942 hG hP hP (ci := 2) (q0 := 6) rfl rfl rfl rfl hl.1 ⟨⟨Nat.le_of_ble_eq_true rfl, Nat.le_of_ble_eq_true rfl⟩, Nat.le_of_ble_eq_true rfl, Nat.le_refl _, Nat.le_refl _⟩ rfl dX2_flipsOf_21 (fun x_21 h_21 => ?_)
        refine lv_iload_n SS.1 SS.2.1 dX2_flipsOf_24 rfl (lv_at hl 3 rfl) ?_
        refine j_vRl SS (As := [.long x_21, .int (J s)]) (rest := []) (c_X5_flipped l D q u  x_21 s (show -2147483648 ≤ s ∧ s ≤ 2147483647 from (by omega))) mf_X5_flipped kw_946 hG hP hP (ci := 5) (q0 := 66) rfl rfl rfl rfl hl.1 ⟨⟨Nat.le_of_ble_eq_true rfl, Nat.le_of_ble_eq_true rfl⟩, Nat.le_of_ble_eq_true rfl, Nat.le_refl _, Nat.le_refl _⟩ rfl dX2_flipsOf_25 (fun x_25 h_25 => ?_)
        refine lv_lconst (v := 0) SS.1 SS.2.1 dX2_flipsOf_28 (by decide +kernel) ?_
        refine j_lcmp SS dX2_flipsOf_29 (fun z_29 hz_29 => ?_)
        refine j_if_eq SS (tgt := 36) (x := z_29) dX2_flipsOf_30 (by decide) (by omega) (fun c_30 => ?_) (fun c_30 => ?_)
        · skip
          refine lv_iinc (v := J (s + 1)) (lv' := [(3, .int (J (s + 1))), (0, .ref (q 6)), (1, .int (J i)), (2, .int (J fd))]) SS.1 SS.2.1 dX2_flipsOf_36 hl (k := 3) rfl (J_add _ _) (by decide) rfl (fun ls hl => ?_)
          refine lv_goto (tgt := 4) SS.1 SS.2.1 dX2_flipsOf_39 (by decide) ?_
          exact ih_4 fd (s + 1) ls (lv_sub hl [1, 2, 3, 0] rfl) (by omega) (by omega) (by omega)
        · skip
          refine lv_iinc (v := J (fd + 1)) (lv' := [(2, .int (J (fd + 1))), (0, .ref (q 6)), (1, .int (J i)), (3, .int (J s))]) SS.1 SS.2.1 dX2_flipsOf_33 hl (k := 2) rfl (J_add _ _) (by decide) rfl (fun ls hl => ?_)
          refine lv_iinc (v := J (s + 1)) (lv' := [(3, .int (J (s + 1))), (2, .int (J (fd + 1))), (0, .ref (q 6)), (1, .int (J i))]) SS.1 SS.2.1 dX2_flipsOf_36 hl (k := 3) rfl (J_add _ _) (by decide) rfl (fun ls hl => ?_)
          refine lv_goto (tgt := 4) SS.1 SS.2.1 dX2_flipsOf_39 (by decide) ?_
          exact ih_4 (fd + 1) (s + 1) ls (lv_sub hl [2, 3, 1, 0] rfl) (by omega) (by omega) (by omega)
  exact L_4 (((756 : Int) - (0 : Int)).toNat + 1) 0 0 ls (lv_sub hl [2, 3, 1, 0] rfl) (by omega) (by omega) (Nat.lt_succ_self _)

set_option maxHeartbeats 4000000 in
set_option maxRecDepth 100000 in
theorem c_X2_segmentAt (l : Launch) (D : JD) (q : Nat → Nat) (u : CS) (i : Int) (w : Int) (p0 : -2147483648 ≤ i ∧ i ≤ 2147483647) (p1 : 0 ≤ w ∧ w ≤ 2147483647) (p2 : 0 ≤ u.2.2.2 20 ∧ u.2.2.2 20 ≤ 63) : Met l yX2_segmentAt (jw yX2_segmentAt cX2_segmentAt 5 (some .int)) (jr 1 21) (jP [.ref (q 6), .int (J i), .int (J w)] D (fun H => va_P D.1 j_cl (cW D q u) H)) (jRi (fun z => True)) 0 0 (fun _ => False) := by
  refine Met.ofW (cc := cX2_segmentAt) (maxL := 5) (ret := (some .int)) (by decide) rfl ?_
  intro pr en st mi args below meth co s₁ B hml hv
  obtain ⟨rfl, hG, hP⟩ := hv
  have hr := B.returns
  have hlk := B.notSynchronized
  have SS : jS pr mi co cX2_segmentAt 5 st _ RX2 := ⟨B.exec, B.bytes, hml, findClass_of_methodNamed B.named, fun w hw => atoms_spec (ws := (jw yX2_segmentAt cX2_segmentAt 5 (some .int))) B.pre w (List.mem_cons_of_mem _ hw)⟩
  have hl := lv_entry ([.ref (q 6), .int (J i), .int (J w)]) (n := 5) (Nat.le_of_ble_eq_true rfl)
  rw [lg_entry_eq]
  generalize (lg_sl ([.ref (q 6), .int (J i), .int (J w)]) ++ List.replicate (5 - (lg_sl ([.ref (q 6), .int (J i), .int (J w)])).length) Slot.unset).toArray = ls at hl ⊢
  have hl : lv_has ls 5 [(0, .ref (q 6)), (1, .int (J i)), (2, .int (J w))] := hl
  refine lv_iload_n SS.1 SS.2.1 dX2_segmentAt_0 rfl (lv_at hl 2 rfl) ?_
  refine lv_istore_n (lv' := [(3, .int (J w)), (0, .ref (q 6)), (1, .int (J i)), (2, .int (J w))]) SS.1 SS.2.1 dX2_segmentAt_1 rfl hl (by decide) rfl (fun ls hl => ?_)
  refine j_iconst SS dX2_segmentAt_2 ?_
  refine lv_istore (lv' := [(4, .int (J 0)), (3, .int (J w)), (0, .ref (q 6)), (1, .int (J i)), (2, .int (J w))]) SS.1 SS.2.1 dX2_segmentAt_3 hl (by decide) rfl (fun ls hl => ?_)
  have L_5 : ∀ (nn : Nat) (lf : Int) (s : Int) (ls : Array Slot) (hl : lv_has ls 5 [(0, .ref (q 6)), (1, .int (J i)), (2, .int (J w)), (3, .int (J lf)), (4, .int (J s))]) (i5_0 : 0 ≤ s ∧ s ≤ 63) (i5_1 : 0 ≤ lf ∧ lf ≤ 2147483647), ((63 : Int) - s).toNat < nn → W pr l en (headSpec (jw yX2_segmentAt cX2_segmentAt 5 (some .int)) (jr 1 21)).room st mi (([.ref (q 6), .int (J i), .int (J w)] : List Value).toArray) below meth co st.heap [] 0 0 (MQ below (jRi (fun z => True)) (([.ref (q 6), .int (J i), .int (J w)] : List Value).toArray) st 0 0 (fun _ => False)) (F0 mi 5 ls []) := by
    intro nn
    induction nn with
    | zero => intros; omega
    | succ nn ih_5 =>
      intro lf s ls hl i5_0 i5_1 hm
      refine lv_iload SS.1 SS.2.1 dX2_segmentAt_5 (lv_at hl 4 rfl) ?_
      refine lv_aload_n SS.1 SS.2.1 dX2_segmentAt_7 rfl (lv_at hl 0 rfl) ?_
      refine j_get SS hG hP 6 (v := .ref (q 66)) (C := RX2) (T := TX2) (N := 7) rfl rfl inX2 0 (by decide) (ref := "GridPolygons$Cuts") kw_340 rfl rfl dX2_segmentAt_8 ?_
      refine j_get SS hG hP 66 (v := .int (J (u.2.2.2 20))) (C := RX5) (T := TX5) (N := 9) rfl rfl inX5 5 (by decide) (ref := "GridPolygons$Mesh") kw_316 rfl rfl dX2_segmentAt_11 ?_
      refine j_icmp_ge SS (tgt := 55) (x := s) (y := (u.2.2.2 20)) dX2_segmentAt_14 (by decide) (by omega) (by omega) (fun c_14 => ?_) (fun c_14 => ?_)
      · skip
        refine j_iconst SS dX2_segmentAt_55 ?_
        exact W.iret SS.1 SS.2.1 hr (fun t0 ht hW => ⟨_, rfl, ⟨(-1), rfl, (trivial)⟩, ht⟩) (fun _ h => nomatch h) dX2_segmentAt_56 hlk
      · skip
        refine lv_aload_n SS.1 SS.2.1 dX2_segmentAt_17 rfl (lv_at hl 0 rfl) ?_
        refine lv_iload_n SS.1 SS.2.1 dX2_segmentAt_18 rfl (lv_at hl 1 rfl) ?_
        refine j_vRl SS (As := [.int (J i)]) (rest := []) (c_X2_setOf l D q u  i (show -2147483648 ≤ i ∧ i ≤ 2147483647 from (p0))) mf_X2_setOf kw_942 hG hP hP (ci := 2) (q0 := 6) rfl rfl rfl rfl hl.1 ⟨⟨Nat.le_of_ble_eq_true rfl, Nat.le_of_ble_eq_true rfl⟩, Nat.le_of_ble_eq_true rfl, Nat.le_refl _, Nat.le_refl _⟩ rfl dX2_segmentAt_19 (fun x_19 h_19 => ?_)
        refine lv_iload SS.1 SS.2.1 dX2_segmentAt_22 (lv_at hl 4 rfl) ?_
        refine lv_lushr SS.1 SS.2.1 dX2_segmentAt_24 rfl (lv_topl (fun x_24 ex_24 => ?_))
        refine lv_lconst (v := 1) SS.1 SS.2.1 dX2_segmentAt_25 (by decide +kernel) ?_
        refine lv_land SS.1 SS.2.1 dX2_segmentAt_26 ?_
        refine lv_lconst (v := 1) SS.1 SS.2.1 dX2_segmentAt_27 (by decide +kernel) ?_
        refine j_lcmp SS dX2_segmentAt_28 (fun z_28 hz_28 => ?_)
        refine j_if_ne SS (tgt := 49) (x := z_28) dX2_segmentAt_29 (by decide) (by omega) (fun c_29 => ?_) (fun c_29 => ?_)
        · skip
          refine lv_iinc (v := J (s + 1)) (lv' := [(4, .int (J (s + 1))), (0, .ref (q 6)), (1, .int (J i)), (2, .int (J w)), (3, .int (J lf))]) SS.1 SS.2.1 dX2_segmentAt_49 hl (k := 4) rfl (J_add _ _) (by decide) rfl (fun ls hl => ?_)
          refine lv_goto (tgt := 5) SS.1 SS.2.1 dX2_segmentAt_52 (by decide) ?_
          exact ih_5 lf (s + 1) ls (lv_sub hl [1, 2, 3, 4, 0] rfl) (by omega) (by omega) (by omega)
        · skip
          refine lv_iload_n SS.1 SS.2.1 dX2_segmentAt_32 rfl (lv_at hl 3 rfl) ?_
          refine j_if_ne SS (tgt := 46) (x := lf) dX2_segmentAt_33 (by decide) (by omega) (fun c_33 => ?_) (fun c_33 => ?_)
          · skip
            refine lv_iinc (v := J (lf + (-1))) (lv' := [(3, .int (J (lf + (-1)))), (0, .ref (q 6)), (1, .int (J i)), (2, .int (J w)), (4, .int (J s))]) SS.1 SS.2.1 dX2_segmentAt_46 hl (k := 3) rfl (J_add _ _) (by decide) rfl (fun ls hl => ?_)
            refine lv_iinc (v := J (s + 1)) (lv' := [(4, .int (J (s + 1))), (3, .int (J (lf + (-1)))), (0, .ref (q 6)), (1, .int (J i)), (2, .int (J w))]) SS.1 SS.2.1 dX2_segmentAt_49 hl (k := 4) rfl (J_add _ _) (by decide) rfl (fun ls hl => ?_)
            refine lv_goto (tgt := 5) SS.1 SS.2.1 dX2_segmentAt_52 (by decide) ?_
            exact ih_5 (lf + (-1)) (s + 1) ls (lv_sub hl [2, 3, 4, 1, 0] rfl) (by omega) (by omega) (by omega)
          · skip
            refine lv_aload_n SS.1 SS.2.1 dX2_segmentAt_36 rfl (lv_at hl 0 rfl) ?_
            refine j_get SS hG hP 6 (v := .ref (q 66)) (C := RX2) (T := TX2) (N := 7) rfl rfl inX2 0 (by decide) (ref := "GridPolygons$Cuts") kw_340 rfl rfl dX2_segmentAt_37 ?_
            refine lv_iload SS.1 SS.2.1 dX2_segmentAt_40 (lv_at hl 4 rfl) ?_
            refine j_vRi SS (As := [.int (J s)]) (rest := []) (c_X5_told l D q u  s (show -2147483648 ≤ s ∧ s ≤ 2147483647 from (by omega))) mf_X5_told kw_967 hG hP hP (ci := 5) (q0 := 66) rfl rfl rfl rfl hl.1 ⟨⟨Nat.le_of_ble_eq_true rfl, Nat.le_of_ble_eq_true rfl⟩, Nat.le_of_ble_eq_true rfl, Nat.le_refl _, Nat.le_refl _⟩ rfl dX2_segmentAt_42 (fun z_42 h_42 => ?_)
            have h_42 : True := h_42
            exact W.iret SS.1 SS.2.1 hr (fun t0 ht hW => ⟨_, rfl, ⟨z_42, rfl, (trivial)⟩, ht⟩) (fun _ h => nomatch h) dX2_segmentAt_45 hlk
  exact L_5 (((63 : Int) - (0 : Int)).toNat + 1) w 0 ls (lv_sub hl [2, 3, 4, 1, 0] rfl) (by omega) (by omega) (Nat.lt_succ_self _)


theorem J_a4095 (x : Int32) : 0 ≤ (x &&& J 4095).toInt ∧ (x &&& J 4095).toInt ≤ 4095 := by
  have h1 : (x &&& J 4095).toBitVec.toNat ≤ 4095 := by
    rw [Ja_nat, J_bn (by omega)]
    exact Nat.and_le_right
  have h2 : (x &&& J 4095) = J (((x &&& J 4095).toBitVec.toNat : Nat) : Int) := by
    rw [← J_nat]
    apply Int32.toBitVec_inj.mp
    show _ = BitVec.ofNat 32 _
    rw [BitVec.ofNat_toNat, BitVec.setWidth_eq]
  rw [h2, J_toInt (by omega)]
  omega

set_option maxHeartbeats 4000000 in
set_option maxRecDepth 100000 in
theorem c_X2_enter (l : Launch) (D : JD) (q : Nat → Nat) (u : CS) (A : Nat → Prop) (hD : va_D A (cW D q u)) (set : Int64) (st9 : Int) (p0 : 0 ≤ u.2.2.2 22 ∧ u.2.2.2 22 ≤ 1500) (p1 : ∀ k : Nat, 0 ≤ u.2.1 8 k ∧ u.2.1 8 k ≤ 1500) (p2 : u.2.2.2 23 = 0 ∨ u.2.2.2 23 = 1) : Met l yX2_enter (jw yX2_enter cX2_enter 6 none) (jr 1 21) (jP [.ref (q 6), .long set, .int (J st9)] D (fun H => va_P D.1 j_cl (cW D q u) H)) (jWv (fun u' => ∃ st2 : Nat → Int64, ∃ fa : Nat → Int, ∃ pc9 : Nat → Int, ∃ n : Int, ∃ sp : Int, u' = (sV (sV (sL (sI (sI u 7 fa) 8 pc9) 2 st2) 22 n) 23 sp) ∧ ((0 ≤ n ∧ n ≤ 1500) ∧ (∀ k : Nat, 0 ≤ pc9 k ∧ pc9 k ≤ 1500) ∧ (sp = 0 ∨ sp = 1))) (fun u' H => va_P D.1 j_cl (cW D q u') H) A) 0 0 A := by
  refine Met.ofW (cc := cX2_enter) (maxL := 6) (ret := none) (by decide) rfl ?_
  intro pr en st mi args below meth co s₁ B hml hv
  obtain ⟨rfl, hG, hP⟩ := hv
  have hr := B.returns
  have hlk := B.notSynchronized
  have SS : jS pr mi co cX2_enter 6 st _ RX2 := ⟨B.exec, B.bytes, hml, findClass_of_methodNamed B.named, fun w hw => atoms_spec (ws := (jw yX2_enter cX2_enter 6 none)) B.pre w (List.mem_cons_of_mem _ hw)⟩
  have hl := lv_entry ([.ref (q 6), .long set, .int (J st9)]) (n := 6) (Nat.le_of_ble_eq_true rfl)
  rw [lg_entry_eq]
  generalize (lg_sl ([.ref (q 6), .long set, .int (J st9)]) ++ List.replicate (6 - (lg_sl ([.ref (q 6), .long set, .int (J st9)])).length) Slot.unset).toArray = ls at hl ⊢
  have hl : lv_has ls 6 [(0, .ref (q 6)), (1, .long set), (3, .int (J st9))] := hl
  have hS : va_S A st.heap st.heap [] := va_S.rf
  refine lv_lload_n SS.1 SS.2.1 dX2_enter_0 rfl (lv_at hl 1 rfl) ?_
  refine lv_ldc2 SS.1 SS.2.1 SS.2.2.2.1 (SS.2.2.2.2 _ kw_941) dX2_enter_1 ?_
  refine lv_lmul SS.1 SS.2.1 dX2_enter_4 ?_
  refine j_bipush SS dX2_enter_5 (by decide +kernel) ?_
  refine lv_lushr SS.1 SS.2.1 dX2_enter_7 rfl (lv_topl (fun x_7 ex_7 => ?_))
  refine lv_l2i SS.1 SS.2.1 dX2_enter_8 rfl ?_
  rw [J_of (Int64.toInt32 _)]
  have r_8 := J_rng (Int64.toInt32 x_7)
  refine j_sipush SS dX2_enter_9 (by decide +kernel) ?_
  refine lv_iand SS.1 SS.2.1 dX2_enter_12 ?_
  rw [J_of (J ((Int64.toInt32 x_7).toInt) &&& J 4095)]
  have x_12 := J_a4095 (J ((Int64.toInt32 x_7).toInt))
  refine lv_istore (lv' := [(4, .int (J ((J ((Int64.toInt32 x_7).toInt) &&& J 4095).toInt))), (0, .ref (q 6)), (1, .long set), (3, .int (J st9))]) SS.1 SS.2.1 dX2_enter_13 hl (by decide) rfl (fun ls hl => ?_)
  refine j_iconst SS dX2_enter_15 ?_
  refine lv_istore (lv' := [(5, .int (J 0)), (4, .int (J ((J ((Int64.toInt32 x_7).toInt) &&& J 4095).toInt))), (0, .ref (q 6)), (1, .long set), (3, .int (J st9))]) SS.1 SS.2.1 dX2_enter_16 hl (by decide) rfl (fun ls hl => ?_)
  have L_18 : ∀ (nn : Nat) (pl : Int) (i : Int) (H : Heap) (locs : List Loc) (hP : va_P D.1 j_cl (cW D q u) H) (hS : va_S A st.heap H locs) (ls : Array Slot) (hl : lv_has ls 6 [(0, .ref (q 6)), (1, .long set), (3, .int (J st9)), (4, .int (J pl)), (5, .int (J i))]) (i18_0 : 0 ≤ pl ∧ pl ≤ 4095) (i18_1 : 0 ≤ i ∧ i ≤ 4096), ((4096 : Int) - i).toNat < nn → W pr l en (headSpec (jw yX2_enter cX2_enter 6 none) (jr 1 21)).room st mi (([.ref (q 6), .long set, .int (J st9)] : List Value).toArray) below meth co H locs 0 0 (MQ below (jWv (fun u' => ∃ st2 : Nat → Int64, ∃ fa : Nat → Int, ∃ pc9 : Nat → Int, ∃ n : Int, ∃ sp : Int, u' = (sV (sV (sL (sI (sI u 7 fa) 8 pc9) 2 st2) 22 n) 23 sp) ∧ ((0 ≤ n ∧ n ≤ 1500) ∧ (∀ k : Nat, 0 ≤ pc9 k ∧ pc9 k ≤ 1500) ∧ (sp = 0 ∨ sp = 1))) (fun u' H => va_P D.1 j_cl (cW D q u') H) A) (([.ref (q 6), .long set, .int (J st9)] : List Value).toArray) st 0 0 A) (F0 mi 18 ls []) := by
    intro nn
    induction nn with
    | zero => intros; omega
    | succ nn ih_18 =>
      intro pl i  H locs hP hS ls hl i18_0 i18_1 hm
      refine lv_iload SS.1 SS.2.1 dX2_enter_18 (lv_at hl 4 rfl) ?_
      refine j_sipush SS dX2_enter_20 (by decide +kernel) ?_
      refine j_icmp_ge SS (tgt := 71) (x := i) (y := 4096) dX2_enter_23 (by decide) (by omega) (by decide) (fun c_23 => ?_) (fun c_23 => ?_)
      · skip
        refine lv_aload_n SS.1 SS.2.1 dX2_enter_71 rfl (lv_at hl 0 rfl) ?_
        refine j_get SS hG hP 6 (v := .int (J (u.2.2.2 22))) (C := RX2) (T := TX2) (N := 7) rfl rfl inX2 4 (by decide) (ref := "GridPolygons$Cuts") kw_344 rfl rfl dX2_enter_72 ?_
        refine j_sipush SS dX2_enter_75 (by decide +kernel) ?_
        refine j_icmp_lt SS (tgt := 87) (x := (u.2.2.2 22)) (y := 1500) dX2_enter_78 (by decide) (by omega) (by decide) (fun c_78 => ?_) (fun c_78 => ?_)
        · skip
          refine lv_aload_n SS.1 SS.2.1 dX2_enter_87 rfl (lv_at hl 0 rfl) ?_
          refine j_get SS hG hP 6 (v := .ref (q 69)) (C := RX2) (T := TX2) (N := 7) rfl rfl inX2 1 (by decide) (ref := "GridPolygons$Cuts") kw_341 rfl rfl dX2_enter_88 ?_
          refine lv_aload_n SS.1 SS.2.1 dX2_enter_91 rfl (lv_at hl 0 rfl) ?_
          refine j_get SS hG hP 6 (v := .int (J (u.2.2.2 22))) (C := RX2) (T := TX2) (N := 7) rfl rfl inX2 4 (by decide) (ref := "GridPolygons$Cuts") kw_344 rfl rfl dX2_enter_92 ?_
          refine lv_lload_n SS.1 SS.2.1 dX2_enter_95 rfl (lv_at hl 1 rfl) ?_
          refine j_last SS hG hP (cW_D hD) hS 69 (n := 1500) (f := (u.2.2.1 2)) rfl (z := (u.2.2.2 22)) (v := set) (by omega) (by omega) dX2_enter_96 (ws' := (cW D q (sL u 2 (vp_updL (u.2.2.1 2) ((u.2.2.2 22)).toNat set)))) rfl (fun H locs hP hS => ?_)
          refine lv_aload_n SS.1 SS.2.1 dX2_enter_97 rfl (lv_at hl 0 rfl) ?_
          refine j_get SS hG hP 6 (v := .ref (q 64)) (C := RX2) (T := TX2) (N := 7) rfl rfl inX2 2 (by decide) (ref := "GridPolygons$Cuts") kw_342 rfl rfl dX2_enter_98 ?_
          refine lv_aload_n SS.1 SS.2.1 dX2_enter_101 rfl (lv_at hl 0 rfl) ?_
          refine j_get SS hG hP 6 (v := .int (J (u.2.2.2 22))) (C := RX2) (T := TX2) (N := 7) rfl rfl inX2 4 (by decide) (ref := "GridPolygons$Cuts") kw_344 rfl rfl dX2_enter_102 ?_
          refine lv_iload_n SS.1 SS.2.1 dX2_enter_105 rfl (lv_at hl 2 rfl) ?_
          refine j_iast SS hG hP (cW_D hD) hS 64 (n := 1500) (f := (u.2.1 7)) rfl (z := (u.2.2.2 22)) (v := st9) (by omega) (by omega) dX2_enter_106 (ws' := (cW D q (sL (sI u 7 (upI (u.2.1 7) ((u.2.2.2 22)).toNat st9)) 2 (vp_updL (u.2.2.1 2) ((u.2.2.2 22)).toNat set)))) rfl (fun H locs hP hS => ?_)
          refine lv_aload_n SS.1 SS.2.1 dX2_enter_107 rfl (lv_at hl 0 rfl) ?_
          refine lv_dup SS.1 SS.2.1 dX2_enter_108 rfl ?_
          refine j_get SS hG hP 6 (v := .int (J (u.2.2.2 22))) (C := RX2) (T := TX2) (N := 7) rfl rfl inX2 4 (by decide) (ref := "GridPolygons$Cuts") kw_344 rfl rfl dX2_enter_109 ?_
          refine j_iconst SS dX2_enter_112 ?_
          refine j_iadd SS (x := (u.2.2.2 22)) (y := 1) dX2_enter_113 ?_
          refine j_put SS hG hP (cW_D hD) hS 6 (v := .int (J ((u.2.2.2 22) + 1))) (ty := .int) (C := RX2) (T := TX2) (N := 7) rfl rfl inX2 tyX2 tyX2_ok nmX2 4 (by decide) (ref := "GridPolygons$Cuts") kw_344 rfl rfl (by decide +kernel) rfl rfl (Nat.le_of_ble_eq_true rfl) dX2_enter_114 (ws' := (cW D q (sV (sL (sI u 7 (upI (u.2.1 7) ((u.2.2.2 22)).toNat st9)) 2 (vp_updL (u.2.2.1 2) ((u.2.2.2 22)).toNat set)) 22 ((u.2.2.2 22) + 1)))) rfl (fun H locs hP hS => ?_)
          refine lv_aload_n SS.1 SS.2.1 dX2_enter_117 rfl (lv_at hl 0 rfl) ?_
          refine j_get SS hG hP 6 (v := .ref (q 65)) (C := RX2) (T := TX2) (N := 7) rfl rfl inX2 3 (by decide) (ref := "GridPolygons$Cuts") kw_343 rfl rfl dX2_enter_118 ?_
          refine lv_iload SS.1 SS.2.1 dX2_enter_121 (lv_at hl 3 rfl) ?_
          refine lv_aload_n SS.1 SS.2.1 dX2_enter_123 rfl (lv_at hl 0 rfl) ?_
          refine j_get SS hG hP 6 (v := .int (J ((u.2.2.2 22) + 1))) (C := RX2) (T := TX2) (N := 7) rfl rfl inX2 4 (by decide) (ref := "GridPolygons$Cuts") kw_344 rfl rfl dX2_enter_124 ?_
          refine j_iast SS hG hP (cW_D hD) hS 65 (n := 4096) (f := (u.2.1 8)) rfl (z := pl) (v := ((u.2.2.2 22) + 1)) (by omega) (by omega) dX2_enter_127 (ws' := (cW D q (sV (sL (sI (sI u 7 (upI (u.2.1 7) ((u.2.2.2 22)).toNat st9)) 8 (upI (u.2.1 8) (pl).toNat ((u.2.2.2 22) + 1))) 2 (vp_updL (u.2.2.1 2) ((u.2.2.2 22)).toNat set)) 22 ((u.2.2.2 22) + 1)))) rfl (fun H locs hP hS => ?_)
          have hP : va_P D.1 j_cl (cW D q (sV (sV (sL (sI (sI u 7 (upI (u.2.1 7) ((u.2.2.2 22)).toNat st9)) 8 (upI (u.2.1 8) (pl).toNat ((u.2.2.2 22) + 1))) 2 (vp_updL (u.2.2.1 2) ((u.2.2.2 22)).toNat set)) 22 ((u.2.2.2 22) + 1)) 23 (u.2.2.2 23))) H := Eq.mpr (congrArg (fun s => va_P D.1 j_cl (cW D q s) H) (sV_at (u := (sV (sL (sI (sI u 7 (upI (u.2.1 7) ((u.2.2.2 22)).toNat st9)) 8 (upI (u.2.1 8) (pl).toNat ((u.2.2.2 22) + 1))) 2 (vp_updL (u.2.2.1 2) ((u.2.2.2 22)).toNat set)) 22 ((u.2.2.2 22) + 1))) (r := 23) (x := (u.2.2.2 23)) rfl)) hP
          exact W.vret SS.1 SS.2.1 hr (fun t0 ht hW => ⟨⟨(sV (sV (sL (sI (sI u 7 (upI (u.2.1 7) ((u.2.2.2 22)).toNat st9)) 8 (upI (u.2.1 8) (pl).toNat ((u.2.2.2 22) + 1))) 2 (vp_updL (u.2.2.1 2) ((u.2.2.2 22)).toNat set)) 22 ((u.2.2.2 22) + 1)) 23 (u.2.2.2 23)), rfl, (⟨(vp_updL (u.2.2.1 2) ((u.2.2.2 22)).toNat set), (upI (u.2.1 7) ((u.2.2.2 22)).toNat st9), (upI (u.2.1 8) (pl).toNat ((u.2.2.2 22) + 1)), ((u.2.2.2 22) + 1), (u.2.2.2 23), rfl, ⟨by omega, UP_b p1 (by omega), p2⟩⟩), by show va_P D.1 j_cl (cW D q (sV (sV (sL (sI (sI u 7 (upI (u.2.1 7) ((u.2.2.2 22)).toNat st9)) 8 (upI (u.2.1 8) (pl).toNat ((u.2.2.2 22) + 1))) 2 (vp_updL (u.2.2.1 2) ((u.2.2.2 22)).toNat set)) 22 ((u.2.2.2 22) + 1)) 23 (u.2.2.2 23))) t0.heap; rw [ht]; first | exact hP | (simp only [sI_id, sL_id, sC_id, sX_id, sY_id, sH_id, sT_id, sV_id]; exact hP)⟩, hS.F ht⟩) hS.2.2 dX2_enter_128 hlk
        · skip
          refine lv_aload_n SS.1 SS.2.1 dX2_enter_81 rfl (lv_at hl 0 rfl) ?_
          refine j_iconst SS dX2_enter_82 ?_
          refine j_put SS hG hP (cW_D hD) hS 6 (v := .int (J 1)) (ty := .boolean) (C := RX2) (T := TX2) (N := 7) rfl rfl inX2 tyX2 tyX2_ok nmX2 5 (by decide) (ref := "GridPolygons$Cuts") kw_346 rfl rfl (by decide +kernel) (j_nz (by omega)) rfl (Nat.le_of_ble_eq_true rfl) dX2_enter_83 (ws' := (cW D q (sV u 23 1))) rfl (fun H locs hP hS => ?_)
          have hP : va_P D.1 j_cl (cW D q (sV (sI u 7 (u.2.1 7)) 23 1)) H := Eq.mpr (congrArg (fun s => va_P D.1 j_cl (cW D q (sV s 23 1)) H) (sI_at (u := u) (r := 7) (x := (u.2.1 7)) rfl)) hP
          have hP : va_P D.1 j_cl (cW D q (sV (sI (sI u 7 (u.2.1 7)) 8 (u.2.1 8)) 23 1)) H := Eq.mpr (congrArg (fun s => va_P D.1 j_cl (cW D q (sV s 23 1)) H) (sI_at (u := (sI u 7 (u.2.1 7))) (r := 8) (x := (u.2.1 8)) rfl)) hP
          have hP : va_P D.1 j_cl (cW D q (sV (sL (sI (sI u 7 (u.2.1 7)) 8 (u.2.1 8)) 2 (u.2.2.1 2)) 23 1)) H := Eq.mpr (congrArg (fun s => va_P D.1 j_cl (cW D q (sV s 23 1)) H) (sL_at (u := (sI (sI u 7 (u.2.1 7)) 8 (u.2.1 8))) (r := 2) (x := (u.2.2.1 2)) rfl)) hP
          have hP : va_P D.1 j_cl (cW D q (sV (sV (sL (sI (sI u 7 (u.2.1 7)) 8 (u.2.1 8)) 2 (u.2.2.1 2)) 22 (u.2.2.2 22)) 23 1)) H := Eq.mpr (congrArg (fun s => va_P D.1 j_cl (cW D q (sV s 23 1)) H) (sV_at (u := (sL (sI (sI u 7 (u.2.1 7)) 8 (u.2.1 8)) 2 (u.2.2.1 2))) (r := 22) (x := (u.2.2.2 22)) rfl)) hP
          exact W.vret SS.1 SS.2.1 hr (fun t0 ht hW => ⟨⟨(sV (sV (sL (sI (sI u 7 (u.2.1 7)) 8 (u.2.1 8)) 2 (u.2.2.1 2)) 22 (u.2.2.2 22)) 23 1), rfl, (⟨(u.2.2.1 2), (u.2.1 7), (u.2.1 8), (u.2.2.2 22), 1, rfl, ⟨p0, p1, Or.inr rfl⟩⟩), by show va_P D.1 j_cl (cW D q (sV (sV (sL (sI (sI u 7 (u.2.1 7)) 8 (u.2.1 8)) 2 (u.2.2.1 2)) 22 (u.2.2.2 22)) 23 1)) t0.heap; rw [ht]; first | exact hP | (simp only [sI_id, sL_id, sC_id, sX_id, sY_id, sH_id, sT_id, sV_id]; exact hP)⟩, hS.F ht⟩) hS.2.2 dX2_enter_86 hlk
      · skip
        refine lv_aload_n SS.1 SS.2.1 dX2_enter_26 rfl (lv_at hl 0 rfl) ?_
        refine j_get SS hG hP 6 (v := .ref (q 65)) (C := RX2) (T := TX2) (N := 7) rfl rfl inX2 3 (by decide) (ref := "GridPolygons$Cuts") kw_343 rfl rfl dX2_enter_27 ?_
        refine lv_iload SS.1 SS.2.1 dX2_enter_30 (lv_at hl 3 rfl) ?_
        refine j_iald SS hG hP 65 (n := 4096) (f := (u.2.1 8)) rfl (z := pl) (by omega) (by omega) dX2_enter_32 ?_
        have lp := p1 pl.toNat
        refine j_if_eq SS (tgt := 71) (x := ((u.2.1 8) (pl).toNat)) dX2_enter_33 (by decide) (by omega) (fun c_33 => ?_) (fun c_33 => ?_)
        · skip
          refine lv_aload_n SS.1 SS.2.1 dX2_enter_71 rfl (lv_at hl 0 rfl) ?_
          refine j_get SS hG hP 6 (v := .int (J (u.2.2.2 22))) (C := RX2) (T := TX2) (N := 7) rfl rfl inX2 4 (by decide) (ref := "GridPolygons$Cuts") kw_344 rfl rfl dX2_enter_72 ?_
          refine j_sipush SS dX2_enter_75 (by decide +kernel) ?_
          refine j_icmp_lt SS (tgt := 87) (x := (u.2.2.2 22)) (y := 1500) dX2_enter_78 (by decide) (by omega) (by decide) (fun c_78 => ?_) (fun c_78 => ?_)
          · skip
            refine lv_aload_n SS.1 SS.2.1 dX2_enter_87 rfl (lv_at hl 0 rfl) ?_
            refine j_get SS hG hP 6 (v := .ref (q 69)) (C := RX2) (T := TX2) (N := 7) rfl rfl inX2 1 (by decide) (ref := "GridPolygons$Cuts") kw_341 rfl rfl dX2_enter_88 ?_
            refine lv_aload_n SS.1 SS.2.1 dX2_enter_91 rfl (lv_at hl 0 rfl) ?_
            refine j_get SS hG hP 6 (v := .int (J (u.2.2.2 22))) (C := RX2) (T := TX2) (N := 7) rfl rfl inX2 4 (by decide) (ref := "GridPolygons$Cuts") kw_344 rfl rfl dX2_enter_92 ?_
            refine lv_lload_n SS.1 SS.2.1 dX2_enter_95 rfl (lv_at hl 1 rfl) ?_
            refine j_last SS hG hP (cW_D hD) hS 69 (n := 1500) (f := (u.2.2.1 2)) rfl (z := (u.2.2.2 22)) (v := set) (by omega) (by omega) dX2_enter_96 (ws' := (cW D q (sL u 2 (vp_updL (u.2.2.1 2) ((u.2.2.2 22)).toNat set)))) rfl (fun H locs hP hS => ?_)
            refine lv_aload_n SS.1 SS.2.1 dX2_enter_97 rfl (lv_at hl 0 rfl) ?_
            refine j_get SS hG hP 6 (v := .ref (q 64)) (C := RX2) (T := TX2) (N := 7) rfl rfl inX2 2 (by decide) (ref := "GridPolygons$Cuts") kw_342 rfl rfl dX2_enter_98 ?_
            refine lv_aload_n SS.1 SS.2.1 dX2_enter_101 rfl (lv_at hl 0 rfl) ?_
            refine j_get SS hG hP 6 (v := .int (J (u.2.2.2 22))) (C := RX2) (T := TX2) (N := 7) rfl rfl inX2 4 (by decide) (ref := "GridPolygons$Cuts") kw_344 rfl rfl dX2_enter_102 ?_
            refine lv_iload_n SS.1 SS.2.1 dX2_enter_105 rfl (lv_at hl 2 rfl) ?_
            refine j_iast SS hG hP (cW_D hD) hS 64 (n := 1500) (f := (u.2.1 7)) rfl (z := (u.2.2.2 22)) (v := st9) (by omega) (by omega) dX2_enter_106 (ws' := (cW D q (sL (sI u 7 (upI (u.2.1 7) ((u.2.2.2 22)).toNat st9)) 2 (vp_updL (u.2.2.1 2) ((u.2.2.2 22)).toNat set)))) rfl (fun H locs hP hS => ?_)
            refine lv_aload_n SS.1 SS.2.1 dX2_enter_107 rfl (lv_at hl 0 rfl) ?_
            refine lv_dup SS.1 SS.2.1 dX2_enter_108 rfl ?_
            refine j_get SS hG hP 6 (v := .int (J (u.2.2.2 22))) (C := RX2) (T := TX2) (N := 7) rfl rfl inX2 4 (by decide) (ref := "GridPolygons$Cuts") kw_344 rfl rfl dX2_enter_109 ?_
            refine j_iconst SS dX2_enter_112 ?_
            refine j_iadd SS (x := (u.2.2.2 22)) (y := 1) dX2_enter_113 ?_
            refine j_put SS hG hP (cW_D hD) hS 6 (v := .int (J ((u.2.2.2 22) + 1))) (ty := .int) (C := RX2) (T := TX2) (N := 7) rfl rfl inX2 tyX2 tyX2_ok nmX2 4 (by decide) (ref := "GridPolygons$Cuts") kw_344 rfl rfl (by decide +kernel) rfl rfl (Nat.le_of_ble_eq_true rfl) dX2_enter_114 (ws' := (cW D q (sV (sL (sI u 7 (upI (u.2.1 7) ((u.2.2.2 22)).toNat st9)) 2 (vp_updL (u.2.2.1 2) ((u.2.2.2 22)).toNat set)) 22 ((u.2.2.2 22) + 1)))) rfl (fun H locs hP hS => ?_)
            refine lv_aload_n SS.1 SS.2.1 dX2_enter_117 rfl (lv_at hl 0 rfl) ?_
            refine j_get SS hG hP 6 (v := .ref (q 65)) (C := RX2) (T := TX2) (N := 7) rfl rfl inX2 3 (by decide) (ref := "GridPolygons$Cuts") kw_343 rfl rfl dX2_enter_118 ?_
            refine lv_iload SS.1 SS.2.1 dX2_enter_121 (lv_at hl 3 rfl) ?_
            refine lv_aload_n SS.1 SS.2.1 dX2_enter_123 rfl (lv_at hl 0 rfl) ?_
            refine j_get SS hG hP 6 (v := .int (J ((u.2.2.2 22) + 1))) (C := RX2) (T := TX2) (N := 7) rfl rfl inX2 4 (by decide) (ref := "GridPolygons$Cuts") kw_344 rfl rfl dX2_enter_124 ?_
            refine j_iast SS hG hP (cW_D hD) hS 65 (n := 4096) (f := (u.2.1 8)) rfl (z := pl) (v := ((u.2.2.2 22) + 1)) (by omega) (by omega) dX2_enter_127 (ws' := (cW D q (sV (sL (sI (sI u 7 (upI (u.2.1 7) ((u.2.2.2 22)).toNat st9)) 8 (upI (u.2.1 8) (pl).toNat ((u.2.2.2 22) + 1))) 2 (vp_updL (u.2.2.1 2) ((u.2.2.2 22)).toNat set)) 22 ((u.2.2.2 22) + 1)))) rfl (fun H locs hP hS => ?_)
            have hP : va_P D.1 j_cl (cW D q (sV (sV (sL (sI (sI u 7 (upI (u.2.1 7) ((u.2.2.2 22)).toNat st9)) 8 (upI (u.2.1 8) (pl).toNat ((u.2.2.2 22) + 1))) 2 (vp_updL (u.2.2.1 2) ((u.2.2.2 22)).toNat set)) 22 ((u.2.2.2 22) + 1)) 23 (u.2.2.2 23))) H := Eq.mpr (congrArg (fun s => va_P D.1 j_cl (cW D q s) H) (sV_at (u := (sV (sL (sI (sI u 7 (upI (u.2.1 7) ((u.2.2.2 22)).toNat st9)) 8 (upI (u.2.1 8) (pl).toNat ((u.2.2.2 22) + 1))) 2 (vp_updL (u.2.2.1 2) ((u.2.2.2 22)).toNat set)) 22 ((u.2.2.2 22) + 1))) (r := 23) (x := (u.2.2.2 23)) rfl)) hP
            exact W.vret SS.1 SS.2.1 hr (fun t0 ht hW => ⟨⟨(sV (sV (sL (sI (sI u 7 (upI (u.2.1 7) ((u.2.2.2 22)).toNat st9)) 8 (upI (u.2.1 8) (pl).toNat ((u.2.2.2 22) + 1))) 2 (vp_updL (u.2.2.1 2) ((u.2.2.2 22)).toNat set)) 22 ((u.2.2.2 22) + 1)) 23 (u.2.2.2 23)), rfl, (⟨(vp_updL (u.2.2.1 2) ((u.2.2.2 22)).toNat set), (upI (u.2.1 7) ((u.2.2.2 22)).toNat st9), (upI (u.2.1 8) (pl).toNat ((u.2.2.2 22) + 1)), ((u.2.2.2 22) + 1), (u.2.2.2 23), rfl, ⟨by omega, UP_b p1 (by omega), p2⟩⟩), by show va_P D.1 j_cl (cW D q (sV (sV (sL (sI (sI u 7 (upI (u.2.1 7) ((u.2.2.2 22)).toNat st9)) 8 (upI (u.2.1 8) (pl).toNat ((u.2.2.2 22) + 1))) 2 (vp_updL (u.2.2.1 2) ((u.2.2.2 22)).toNat set)) 22 ((u.2.2.2 22) + 1)) 23 (u.2.2.2 23))) t0.heap; rw [ht]; first | exact hP | (simp only [sI_id, sL_id, sC_id, sX_id, sY_id, sH_id, sT_id, sV_id]; exact hP)⟩, hS.F ht⟩) hS.2.2 dX2_enter_128 hlk
          · skip
            refine lv_aload_n SS.1 SS.2.1 dX2_enter_81 rfl (lv_at hl 0 rfl) ?_
            refine j_iconst SS dX2_enter_82 ?_
            refine j_put SS hG hP (cW_D hD) hS 6 (v := .int (J 1)) (ty := .boolean) (C := RX2) (T := TX2) (N := 7) rfl rfl inX2 tyX2 tyX2_ok nmX2 5 (by decide) (ref := "GridPolygons$Cuts") kw_346 rfl rfl (by decide +kernel) (j_nz (by omega)) rfl (Nat.le_of_ble_eq_true rfl) dX2_enter_83 (ws' := (cW D q (sV u 23 1))) rfl (fun H locs hP hS => ?_)
            have hP : va_P D.1 j_cl (cW D q (sV (sI u 7 (u.2.1 7)) 23 1)) H := Eq.mpr (congrArg (fun s => va_P D.1 j_cl (cW D q (sV s 23 1)) H) (sI_at (u := u) (r := 7) (x := (u.2.1 7)) rfl)) hP
            have hP : va_P D.1 j_cl (cW D q (sV (sI (sI u 7 (u.2.1 7)) 8 (u.2.1 8)) 23 1)) H := Eq.mpr (congrArg (fun s => va_P D.1 j_cl (cW D q (sV s 23 1)) H) (sI_at (u := (sI u 7 (u.2.1 7))) (r := 8) (x := (u.2.1 8)) rfl)) hP
            have hP : va_P D.1 j_cl (cW D q (sV (sL (sI (sI u 7 (u.2.1 7)) 8 (u.2.1 8)) 2 (u.2.2.1 2)) 23 1)) H := Eq.mpr (congrArg (fun s => va_P D.1 j_cl (cW D q (sV s 23 1)) H) (sL_at (u := (sI (sI u 7 (u.2.1 7)) 8 (u.2.1 8))) (r := 2) (x := (u.2.2.1 2)) rfl)) hP
            have hP : va_P D.1 j_cl (cW D q (sV (sV (sL (sI (sI u 7 (u.2.1 7)) 8 (u.2.1 8)) 2 (u.2.2.1 2)) 22 (u.2.2.2 22)) 23 1)) H := Eq.mpr (congrArg (fun s => va_P D.1 j_cl (cW D q (sV s 23 1)) H) (sV_at (u := (sL (sI (sI u 7 (u.2.1 7)) 8 (u.2.1 8)) 2 (u.2.2.1 2))) (r := 22) (x := (u.2.2.2 22)) rfl)) hP
            exact W.vret SS.1 SS.2.1 hr (fun t0 ht hW => ⟨⟨(sV (sV (sL (sI (sI u 7 (u.2.1 7)) 8 (u.2.1 8)) 2 (u.2.2.1 2)) 22 (u.2.2.2 22)) 23 1), rfl, (⟨(u.2.2.1 2), (u.2.1 7), (u.2.1 8), (u.2.2.2 22), 1, rfl, ⟨p0, p1, Or.inr rfl⟩⟩), by show va_P D.1 j_cl (cW D q (sV (sV (sL (sI (sI u 7 (u.2.1 7)) 8 (u.2.1 8)) 2 (u.2.2.1 2)) 22 (u.2.2.2 22)) 23 1)) t0.heap; rw [ht]; first | exact hP | (simp only [sI_id, sL_id, sC_id, sX_id, sY_id, sH_id, sT_id, sV_id]; exact hP)⟩, hS.F ht⟩) hS.2.2 dX2_enter_86 hlk
        · skip
          refine lv_aload_n SS.1 SS.2.1 dX2_enter_36 rfl (lv_at hl 0 rfl) ?_
          refine lv_aload_n SS.1 SS.2.1 dX2_enter_37 rfl (lv_at hl 0 rfl) ?_
          refine j_get SS hG hP 6 (v := .ref (q 65)) (C := RX2) (T := TX2) (N := 7) rfl rfl inX2 3 (by decide) (ref := "GridPolygons$Cuts") kw_343 rfl rfl dX2_enter_38 ?_
          refine lv_iload SS.1 SS.2.1 dX2_enter_41 (lv_at hl 3 rfl) ?_
          refine j_iald SS hG hP 65 (n := 4096) (f := (u.2.1 8)) rfl (z := pl) (by omega) (by omega) dX2_enter_43 ?_
          refine j_iconst SS dX2_enter_44 ?_
          refine j_isub SS (x := ((u.2.1 8) (pl).toNat)) (y := 1) dX2_enter_45 ?_
          refine j_vRl SS (As := [.int (J (((u.2.1 8) (pl).toNat) - 1))]) (rest := []) (c_X2_setOf l D q u  (((u.2.1 8) (pl).toNat) - 1) (show -2147483648 ≤ (((u.2.1 8) (pl).toNat) - 1) ∧ (((u.2.1 8) (pl).toNat) - 1) ≤ 2147483647 from (by omega))) mf_X2_setOf kw_942 hG hP hP (ci := 2) (q0 := 6) rfl rfl rfl rfl hl.1 ⟨⟨Nat.le_of_ble_eq_true rfl, Nat.le_of_ble_eq_true rfl⟩, Nat.le_of_ble_eq_true rfl, Nat.le_refl _, Nat.le_refl _⟩ rfl dX2_enter_46 (fun x_46 h_46 => ?_)
          refine lv_lload_n SS.1 SS.2.1 dX2_enter_49 rfl (lv_at hl 1 rfl) ?_
          refine j_lcmp SS dX2_enter_50 (fun z_50 hz_50 => ?_)
          refine j_if_ne SS (tgt := 55) (x := z_50) dX2_enter_51 (by decide) (by omega) (fun c_51 => ?_) (fun c_51 => ?_)
          · skip
            refine lv_iload SS.1 SS.2.1 dX2_enter_55 (lv_at hl 3 rfl) ?_
            refine j_iconst SS dX2_enter_57 ?_
            refine j_iadd SS (x := pl) (y := 1) dX2_enter_58 ?_
            refine j_sipush SS dX2_enter_59 (by decide +kernel) ?_
            refine lv_iand SS.1 SS.2.1 dX2_enter_62 ?_
            rw [J_of (J (pl + 1) &&& J 4095)]
            have x_62 := J_a4095 (J (pl + 1))
            refine lv_istore (lv' := [(4, .int (J ((J (pl + 1) &&& J 4095).toInt))), (0, .ref (q 6)), (1, .long set), (3, .int (J st9)), (5, .int (J i))]) SS.1 SS.2.1 dX2_enter_63 hl (by decide) rfl (fun ls hl => ?_)
            refine lv_iinc (v := J (i + 1)) (lv' := [(5, .int (J (i + 1))), (4, .int (J ((J (pl + 1) &&& J 4095).toInt))), (0, .ref (q 6)), (1, .long set), (3, .int (J st9))]) SS.1 SS.2.1 dX2_enter_65 hl (k := 4) rfl (J_add _ _) (by decide) rfl (fun ls hl => ?_)
            refine lv_goto (tgt := 18) SS.1 SS.2.1 dX2_enter_68 (by decide) ?_
            exact ih_18 ((J (pl + 1) &&& J 4095).toInt) (i + 1) _ _ hP hS ls (lv_sub hl [2, 3, 4, 1, 0] rfl) (by omega) (by omega) (by omega)
          · skip
            exact W.vret SS.1 SS.2.1 hr (fun t0 ht hW => ⟨⟨(sV (sV (sL (sI (sI u 7 (u.2.1 7)) 8 (u.2.1 8)) 2 (u.2.2.1 2)) 22 (u.2.2.2 22)) 23 (u.2.2.2 23)), rfl, (⟨(u.2.2.1 2), (u.2.1 7), (u.2.1 8), (u.2.2.2 22), (u.2.2.2 23), rfl, ⟨p0, p1, p2⟩⟩), by show va_P D.1 j_cl (cW D q (sV (sV (sL (sI (sI u 7 (u.2.1 7)) 8 (u.2.1 8)) 2 (u.2.2.1 2)) 22 (u.2.2.2 22)) 23 (u.2.2.2 23))) t0.heap; rw [ht]; first | exact hP | (simp only [sI_id, sL_id, sC_id, sX_id, sY_id, sH_id, sT_id, sV_id]; exact hP)⟩, hS.F ht⟩) hS.2.2 dX2_enter_54 hlk
  exact L_18 (((4096 : Int) - (0 : Int)).toNat + 1) ((J ((Int64.toInt32 x_7).toInt) &&& J 4095).toInt) 0 _ _ hP hS ls (lv_sub hl [2, 3, 4, 1, 0] rfl) (by omega) (by omega) (Nat.lt_succ_self _)


set_option maxHeartbeats 4000000 in
set_option maxRecDepth 100000 in
theorem c_X1_setOf (l : Launch) (D : JD) (q : Nat → Nat) (u : CS) (i : Int) (p0 : -2147483648 ≤ i ∧ i ≤ 2147483647) : Met l yX1_setOf (jw yX1_setOf cX1_setOf 2 (some .long)) (jr 0 0) (jP [.ref (q 7), .int (J i)] D (fun H => va_P D.1 j_cl (cW D q u) H)) (vp_Sl (fun x9 => True)) 0 0 (fun _ => False) := by
  refine Met.ofW (cc := cX1_setOf) (maxL := 2) (ret := (some .long)) (by decide) rfl ?_
  intro pr en st mi args below meth co s₁ B hml hv
  obtain ⟨rfl, hG, hP⟩ := hv
  have hr := B.returns
  have hlk := B.notSynchronized
  have SS : jS pr mi co cX1_setOf 2 st _ RX1 := ⟨B.exec, B.bytes, hml, findClass_of_methodNamed B.named, fun w hw => atoms_spec (ws := (jw yX1_setOf cX1_setOf 2 (some .long))) B.pre w (List.mem_cons_of_mem _ hw)⟩
  have hl := lv_entry ([.ref (q 7), .int (J i)]) (n := 2) (Nat.le_of_ble_eq_true rfl)
  rw [lg_entry_eq]
  generalize (lg_sl ([.ref (q 7), .int (J i)]) ++ List.replicate (2 - (lg_sl ([.ref (q 7), .int (J i)])).length) Slot.unset).toArray = ls at hl ⊢
  have hl : lv_has ls 2 [(0, .ref (q 7)), (1, .int (J i))] := hl
  refine lv_iload_n SS.1 SS.2.1 dX1_setOf_0 rfl (lv_at hl 1 rfl) ?_
  refine j_if_lt SS (tgt := 22) (x := i) dX1_setOf_1 (by decide) (by omega) (fun c_1 => ?_) (fun c_1 => ?_)
  · skip
    refine lv_lconst (v := 0) SS.1 SS.2.1 dX1_setOf_22 (by decide +kernel) ?_
    exact W.lret SS.1 SS.2.1 hr (fun t0 ht hW => ⟨_, rfl, (trivial), ht⟩) (fun _ h => nomatch h) dX1_setOf_23 hlk
  · skip
    refine lv_iload_n SS.1 SS.2.1 dX1_setOf_4 rfl (lv_at hl 1 rfl) ?_
    refine lv_aload_n SS.1 SS.2.1 dX1_setOf_5 rfl (lv_at hl 0 rfl) ?_
    refine j_get SS hG hP 7 (v := .ref (q 73)) (C := RX1) (T := TX1) (N := 4) rfl rfl inX1 1 (by decide) (ref := "GridPolygons$Coarse") kw_372 rfl rfl dX1_setOf_6 ?_
    refine va_alen SS.1 SS.2.1 hG.1 hP 73 1 rfl rfl (v := J (80 : Int)) (by first | rfl | exact J_nat _) dX1_setOf_9 ?_
    refine j_icmp_ge SS (tgt := 22) (x := i) (y := 80) dX1_setOf_10 (by decide) (by omega) (by decide) (fun c_10 => ?_) (fun c_10 => ?_)
    · skip
      refine lv_lconst (v := 0) SS.1 SS.2.1 dX1_setOf_22 (by decide +kernel) ?_
      exact W.lret SS.1 SS.2.1 hr (fun t0 ht hW => ⟨_, rfl, (trivial), ht⟩) (fun _ h => nomatch h) dX1_setOf_23 hlk
    · skip
      refine lv_aload_n SS.1 SS.2.1 dX1_setOf_13 rfl (lv_at hl 0 rfl) ?_
      refine j_get SS hG hP 7 (v := .ref (q 73)) (C := RX1) (T := TX1) (N := 4) rfl rfl inX1 1 (by decide) (ref := "GridPolygons$Coarse") kw_372 rfl rfl dX1_setOf_14 ?_
      refine lv_iload_n SS.1 SS.2.1 dX1_setOf_17 rfl (lv_at hl 1 rfl) ?_
      refine j_lald SS hG hP 73 (n := 80) (f := (u.2.2.1 6)) rfl (z := i) (by omega) (by omega) dX1_setOf_18 ?_
      refine lv_goto (tgt := 23) SS.1 SS.2.1 dX1_setOf_19 (by decide) ?_
      exact W.lret SS.1 SS.2.1 hr (fun t0 ht hW => ⟨_, rfl, (trivial), ht⟩) (fun _ h => nomatch h) dX1_setOf_23 hlk

set_option maxHeartbeats 4000000 in
set_option maxRecDepth 100000 in
theorem c_X1_sizeOf (l : Launch) (D : JD) (q : Nat → Nat) (u : CS) (i : Int) (p0 : -2147483648 ≤ i ∧ i ≤ 2147483647) : Met l yX1_sizeOf (jw yX1_sizeOf cX1_sizeOf 2 (some .int)) (jr 1 21) (jP [.ref (q 7), .int (J i)] D (fun H => va_P D.1 j_cl (cW D q u) H)) (jRi (fun z => 0 ≤ z ∧ z ≤ 127)) 0 0 (fun _ => False) := by
  refine Met.ofW (cc := cX1_sizeOf) (maxL := 2) (ret := (some .int)) (by decide) rfl ?_
  intro pr en st mi args below meth co s₁ B hml hv
  obtain ⟨rfl, hG, hP⟩ := hv
  have hr := B.returns
  have hlk := B.notSynchronized
  have SS : jS pr mi co cX1_sizeOf 2 st _ RX1 := ⟨B.exec, B.bytes, hml, findClass_of_methodNamed B.named, fun w hw => atoms_spec (ws := (jw yX1_sizeOf cX1_sizeOf 2 (some .int))) B.pre w (List.mem_cons_of_mem _ hw)⟩
  have hl := lv_entry ([.ref (q 7), .int (J i)]) (n := 2) (Nat.le_of_ble_eq_true rfl)
  rw [lg_entry_eq]
  generalize (lg_sl ([.ref (q 7), .int (J i)]) ++ List.replicate (2 - (lg_sl ([.ref (q 7), .int (J i)])).length) Slot.unset).toArray = ls at hl ⊢
  have hl : lv_has ls 2 [(0, .ref (q 7)), (1, .int (J i))] := hl
  refine lv_aload_n SS.1 SS.2.1 dX1_sizeOf_0 rfl (lv_at hl 0 rfl) ?_
  refine lv_iload_n SS.1 SS.2.1 dX1_sizeOf_1 rfl (lv_at hl 1 rfl) ?_
  refine j_vRl SS (As := [.int (J i)]) (rest := []) (c_X1_setOf l D q u  i (show -2147483648 ≤ i ∧ i ≤ 2147483647 from (p0))) mf_X1_setOf kw_1018 hG hP hP (ci := 1) (q0 := 7) rfl rfl rfl rfl hl.1 ⟨⟨Nat.le_of_ble_eq_true rfl, Nat.le_of_ble_eq_true rfl⟩, Nat.le_of_ble_eq_true rfl, Nat.le_refl _, Nat.le_refl _⟩ rfl dX1_sizeOf_2 (fun x_2 h_2 => ?_)
  refine j_sRi SS (As := [.long x_2]) (rest := []) (c_J13_bitCount_95d88 l D  x_2 ) mf_J13_bitCount_95d88 kw_1026 hG trivial rfl hl.1 ⟨⟨Nat.le_of_ble_eq_true rfl, Nat.le_of_ble_eq_true rfl⟩, Nat.le_of_ble_eq_true rfl, Nat.le_refl _, Nat.le_refl _⟩ rfl dX1_sizeOf_5 (fun z_5 h_5 => ?_)
  have h_5 : 0 ≤ z_5 ∧ z_5 ≤ 127 := h_5
  exact W.iret SS.1 SS.2.1 hr (fun t0 ht hW => ⟨_, rfl, ⟨z_5, rfl, (by omega)⟩, ht⟩) (fun _ h => nomatch h) dX1_sizeOf_8 hlk

set_option maxHeartbeats 4000000 in
set_option maxRecDepth 100000 in
theorem c_X1_isKnown (l : Launch) (D : JD) (q : Nat → Nat) (u : CS) (set : Int64) (p0 : 0 ≤ u.2.2.2 25 ∧ u.2.2.2 25 ≤ 80) : Met l yX1_isKnown (jw yX1_isKnown cX1_isKnown 4 (some .boolean)) (jr 1 21) (jP [.ref (q 7), .long set] D (fun H => va_P D.1 j_cl (cW D q u) H)) (jRi (fun z => z = 0 ∨ z = 1)) 0 0 (fun _ => False) := by
  refine Met.ofW (cc := cX1_isKnown) (maxL := 4) (ret := (some .boolean)) (by decide) rfl ?_
  intro pr en st mi args below meth co s₁ B hml hv
  obtain ⟨rfl, hG, hP⟩ := hv
  have hr := B.returns
  have hlk := B.notSynchronized
  have SS : jS pr mi co cX1_isKnown 4 st _ RX1 := ⟨B.exec, B.bytes, hml, findClass_of_methodNamed B.named, fun w hw => atoms_spec (ws := (jw yX1_isKnown cX1_isKnown 4 (some .boolean))) B.pre w (List.mem_cons_of_mem _ hw)⟩
  have hl := lv_entry ([.ref (q 7), .long set]) (n := 4) (Nat.le_of_ble_eq_true rfl)
  rw [lg_entry_eq]
  generalize (lg_sl ([.ref (q 7), .long set]) ++ List.replicate (4 - (lg_sl ([.ref (q 7), .long set])).length) Slot.unset).toArray = ls at hl ⊢
  have hl : lv_has ls 4 [(0, .ref (q 7)), (1, .long set)] := hl
  refine j_iconst SS dX1_isKnown_0 ?_
  refine lv_istore_n (lv' := [(3, .int (J 0)), (0, .ref (q 7)), (1, .long set)]) SS.1 SS.2.1 dX1_isKnown_1 rfl hl (by decide) rfl (fun ls hl => ?_)
  have L_2 : ∀ (nn : Nat) (i : Int) (ls : Array Slot) (hl : lv_has ls 4 [(0, .ref (q 7)), (1, .long set), (3, .int (J i))]) (i2_0 : 0 ≤ i ∧ i ≤ 80), ((80 : Int) - i).toNat < nn → W pr l en (headSpec (jw yX1_isKnown cX1_isKnown 4 (some .boolean)) (jr 1 21)).room st mi (([.ref (q 7), .long set] : List Value).toArray) below meth co st.heap [] 0 0 (MQ below (jRi (fun z => z = 0 ∨ z = 1)) (([.ref (q 7), .long set] : List Value).toArray) st 0 0 (fun _ => False)) (F0 mi 2 ls []) := by
    intro nn
    induction nn with
    | zero => intros; omega
    | succ nn ih_2 =>
      intro i ls hl i2_0 hm
      refine lv_iload_n SS.1 SS.2.1 dX1_isKnown_2 rfl (lv_at hl 2 rfl) ?_
      refine lv_aload_n SS.1 SS.2.1 dX1_isKnown_3 rfl (lv_at hl 0 rfl) ?_
      refine j_get SS hG hP 7 (v := .int (J (u.2.2.2 25))) (C := RX1) (T := TX1) (N := 4) rfl rfl inX1 2 (by decide) (ref := "GridPolygons$Coarse") kw_373 rfl rfl dX1_isKnown_4 ?_
      refine j_icmp_ge SS (tgt := 28) (x := i) (y := (u.2.2.2 25)) dX1_isKnown_7 (by decide) (by omega) (by omega) (fun c_7 => ?_) (fun c_7 => ?_)
      · skip
        refine j_iconst SS dX1_isKnown_28 ?_
        exact W.zret SS.1 SS.2.1 hr (j_nz (by decide)) (fun t0 ht hW => ⟨_, rfl, ⟨0, rfl, (by omega)⟩, ht⟩) (fun _ h => nomatch h) dX1_isKnown_29 hlk
      · skip
        refine lv_aload_n SS.1 SS.2.1 dX1_isKnown_10 rfl (lv_at hl 0 rfl) ?_
        refine lv_iload_n SS.1 SS.2.1 dX1_isKnown_11 rfl (lv_at hl 2 rfl) ?_
        refine j_vRl SS (As := [.int (J i)]) (rest := []) (c_X1_setOf l D q u  i (show -2147483648 ≤ i ∧ i ≤ 2147483647 from (by omega))) mf_X1_setOf kw_1018 hG hP hP (ci := 1) (q0 := 7) rfl rfl rfl rfl hl.1 ⟨⟨Nat.le_of_ble_eq_true rfl, Nat.le_of_ble_eq_true rfl⟩, Nat.le_of_ble_eq_true rfl, Nat.le_refl _, Nat.le_refl _⟩ rfl dX1_isKnown_12 (fun x_12 h_12 => ?_)
        refine lv_lload_n SS.1 SS.2.1 dX1_isKnown_15 rfl (lv_at hl 1 rfl) ?_
        refine j_lcmp SS dX1_isKnown_16 (fun z_16 hz_16 => ?_)
        refine j_if_ne SS (tgt := 22) (x := z_16) dX1_isKnown_17 (by decide) (by omega) (fun c_17 => ?_) (fun c_17 => ?_)
        · skip
          refine lv_iinc (v := J (i + 1)) (lv' := [(3, .int (J (i + 1))), (0, .ref (q 7)), (1, .long set)]) SS.1 SS.2.1 dX1_isKnown_22 hl (k := 2) rfl (J_add _ _) (by decide) rfl (fun ls hl => ?_)
          refine lv_goto (tgt := 2) SS.1 SS.2.1 dX1_isKnown_25 (by decide) ?_
          exact ih_2 (i + 1) ls (lv_sub hl [1, 2, 0] rfl) (by omega) (by omega)
        · skip
          refine j_iconst SS dX1_isKnown_20 ?_
          exact W.zret SS.1 SS.2.1 hr (j_nz (by decide)) (fun t0 ht hW => ⟨_, rfl, ⟨1, rfl, (by omega)⟩, ht⟩) (fun _ h => nomatch h) dX1_isKnown_21 hlk
  exact L_2 (((80 : Int) - (0 : Int)).toNat + 1) 0 ls (lv_sub hl [1, 2, 0] rfl) (by omega) (Nat.lt_succ_self _)


set_option maxHeartbeats 4000000 in
set_option maxRecDepth 100000 in
theorem c_X2_search (l : Launch) (D : JD) (q : Nat → Nat) (u : CS) (A : Nat → Prop) (hD : va_D A (cW D q u)) (p0 : 0 ≤ u.2.2.2 20 ∧ u.2.2.2 20 ≤ 63) (p1 : 0 ≤ u.2.2.2 21 ∧ u.2.2.2 21 ≤ 756) (p2 : ∀ k : Nat, 0 ≤ u.2.1 8 k ∧ u.2.1 8 k ≤ 1500) : Met l yX2_search (jw yX2_search cX2_search 5 none) (jr 2 46) (jP [.ref (q 6)] D (fun H => va_P D.1 j_cl (cW D q u) H)) (jWv (fun u' => ∃ st2 : Nat → Int64, ∃ fa : Nat → Int, ∃ pc9 : Nat → Int, ∃ n : Int, ∃ sp : Int, u' = (sV (sV (sL (sI (sI u 7 fa) 8 pc9) 2 st2) 22 n) 23 sp) ∧ ((0 ≤ n ∧ n ≤ 1500) ∧ (∀ k : Nat, 0 ≤ pc9 k ∧ pc9 k ≤ 1500) ∧ (sp = 0 ∨ sp = 1))) (fun u' H => va_P D.1 j_cl (cW D q u') H) A) 0 0 A := by
  refine Met.ofW (cc := cX2_search) (maxL := 5) (ret := none) (by decide) rfl ?_
  intro pr en st mi args below meth co s₁ B hml hv
  obtain ⟨rfl, hG, hP⟩ := hv
  have hr := B.returns
  have hlk := B.notSynchronized
  have SS : jS pr mi co cX2_search 5 st _ RX2 := ⟨B.exec, B.bytes, hml, findClass_of_methodNamed B.named, fun w hw => atoms_spec (ws := (jw yX2_search cX2_search 5 none)) B.pre w (List.mem_cons_of_mem _ hw)⟩
  have hl := lv_entry ([.ref (q 6)]) (n := 5) (Nat.le_of_ble_eq_true rfl)
  rw [lg_entry_eq]
  generalize (lg_sl ([.ref (q 6)]) ++ List.replicate (5 - (lg_sl ([.ref (q 6)])).length) Slot.unset).toArray = ls at hl ⊢
  have hl : lv_has ls 5 [(0, .ref (q 6))] := hl
  have hS : va_S A st.heap st.heap [] := va_S.rf
  refine lv_aload_n SS.1 SS.2.1 dX2_search_0 rfl (lv_at hl 0 rfl) ?_
  refine j_get SS hG hP 6 (v := .ref (q 65)) (C := RX2) (T := TX2) (N := 7) rfl rfl inX2 3 (by decide) (ref := "GridPolygons$Cuts") kw_343 rfl rfl dX2_search_1 ?_
  refine j_iconst SS dX2_search_4 ?_
  refine j_sWv SS (As := [.ref (q 65), .int (J 0)]) (rest := []) (c_J7_fill_53178 l D (ws := (cW D q u)) (A := A) (cW_D hD) 65 (0 : Int) rfl (by first | decide | omega)) mf_J7_fill_53178 kw_932 hG hP hS (fun _ h => h) rfl hl.1 ⟨⟨Nat.le_of_ble_eq_true rfl, Nat.le_of_ble_eq_true rfl⟩, Nat.le_of_ble_eq_true rfl, Nat.le_refl _, Nat.le_refl _⟩ rfl dX2_search_5 (fun _ H locs _ hP _ hS => ?_)
  have hP : va_P D.1 j_cl (cW D q (sI u 8 (jf (u.2.1 8) (0 : Int) 4096))) H := hP
  have hJ5 := JF_b (n := 4096) (v := 0) p2 (by omega)
  refine lv_aload_n SS.1 SS.2.1 dX2_search_8 rfl (lv_at hl 0 rfl) ?_
  refine j_iconst SS dX2_search_9 ?_
  refine j_put SS hG hP (cW_D hD) hS 6 (v := .int (J 0)) (ty := .int) (C := RX2) (T := TX2) (N := 7) rfl rfl inX2 tyX2 tyX2_ok nmX2 4 (by decide) (ref := "GridPolygons$Cuts") kw_344 rfl rfl (by decide +kernel) rfl rfl (Nat.le_of_ble_eq_true rfl) dX2_search_10 (ws' := (cW D q (sV (sI u 8 (jf (u.2.1 8) (0 : Int) 4096)) 22 0))) rfl (fun H locs hP hS => ?_)
  refine lv_aload_n SS.1 SS.2.1 dX2_search_13 rfl (lv_at hl 0 rfl) ?_
  refine j_iconst SS dX2_search_14 ?_
  refine j_put SS hG hP (cW_D hD) hS 6 (v := .int (J 0)) (ty := .boolean) (C := RX2) (T := TX2) (N := 7) rfl rfl inX2 tyX2 tyX2_ok nmX2 5 (by decide) (ref := "GridPolygons$Cuts") kw_346 rfl rfl (by decide +kernel) (j_nz (by omega)) rfl (Nat.le_of_ble_eq_true rfl) dX2_search_15 (ws' := (cW D q (sV (sV (sI u 8 (jf (u.2.1 8) (0 : Int) 4096)) 22 0) 23 0))) rfl (fun H locs hP hS => ?_)
  refine lv_aload_n SS.1 SS.2.1 dX2_search_18 rfl (lv_at hl 0 rfl) ?_
  refine lv_aload_n SS.1 SS.2.1 dX2_search_19 rfl (lv_at hl 0 rfl) ?_
  refine j_get SS hG hP 6 (v := .ref (q 66)) (C := RX2) (T := TX2) (N := 7) rfl rfl inX2 0 (by decide) (ref := "GridPolygons$Cuts") kw_340 rfl rfl dX2_search_20 ?_
  refine j_vRl SS (As := []) (rest := [.ref (q 6)]) (c_X5_firstCut l D q (sV (sV (sI u 8 (jf (u.2.1 8) (0 : Int) 4096)) 22 0) 23 0)   (show 0 ≤ (u.2.2.2 20) ∧ (u.2.2.2 20) ≤ 63 from (by omega))) mf_X5_firstCut kw_933 hG hP hP (ci := 5) (q0 := 66) rfl rfl rfl rfl hl.1 ⟨⟨Nat.le_of_ble_eq_true rfl, Nat.le_of_ble_eq_true rfl⟩, Nat.le_of_ble_eq_true rfl, Nat.le_refl _, Nat.le_refl _⟩ rfl dX2_search_23 (fun x_23 h_23 => ?_)
  refine j_iconst SS dX2_search_26 ?_
  refine j_vWv SS (As := [.long x_23, .int (J 0)]) (rest := []) (c_X2_enter l D q (sV (sV (sI u 8 (jf (u.2.1 8) (0 : Int) 4096)) 22 0) 23 0) A (cW_D hD)  x_23 0 (show 0 ≤ 0 ∧ 0 ≤ 1500 from (by omega)) (show ∀ k : Nat, 0 ≤ (jf (u.2.1 8) (0 : Int) 4096) k ∧ (jf (u.2.1 8) (0 : Int) 4096) k ≤ 1500 from (hJ5)) (show 0 = 0 ∨ 0 = 1 from (by omega))) mf_X2_enter kw_937 hG hP hP (ci := 2) (q0 := 6) rfl rfl rfl hS (fun _ h => h) rfl hl.1 ⟨⟨Nat.le_of_ble_eq_true rfl, Nat.le_of_ble_eq_true rfl⟩, Nat.le_of_ble_eq_true rfl, Nat.le_refl _, Nat.le_refl _⟩ rfl dX2_search_27 (fun u27 H locs h_27 hP _ hS => ?_)
  obtain ⟨st2_27, fa_27, pc9_27, n_27, sp_27, rfl, h_27⟩ := h_27
  have hP : va_P D.1 j_cl (cW D q (sV (sV (sL (sI (sI u 7 fa_27) 8 pc9_27) 2 st2_27) 22 n_27) 23 sp_27)) H := hP
  have h_27 : (0 ≤ n_27 ∧ n_27 ≤ 1500) ∧ (∀ k : Nat, 0 ≤ pc9_27 k ∧ pc9_27 k ≤ 1500) ∧ (sp_27 = 0 ∨ sp_27 = 1) := h_27
  refine j_iconst SS dX2_search_30 ?_
  refine lv_istore_n (lv' := [(1, .int (J 0)), (0, .ref (q 6))]) SS.1 SS.2.1 dX2_search_31 rfl hl (by decide) rfl (fun ls hl => ?_)
  have L_32 : ∀ (nn : Nat) (i : Int) (se1 : Nat → Int64) (fa1 : Nat → Int) (pc1 : Nat → Int) (n1 : Int) (sp1 : Int) (H : Heap) (locs : List Loc) (hP : va_P D.1 j_cl (cW D q (sV (sV (sL (sI (sI u 7 fa1) 8 pc1) 2 se1) 22 n1) 23 sp1)) H) (hS : va_S A st.heap H locs) (ls : Array Slot) (hl : lv_has ls 5 [(0, .ref (q 6)), (1, .int (J i))]) (i32_0 : 0 ≤ i ∧ i ≤ 1500) (i32_1 : 0 ≤ n1 ∧ n1 ≤ 1500) (i32_2 : ∀ k : Nat, 0 ≤ pc1 k ∧ pc1 k ≤ 1500) (i32_3 : sp1 = 0 ∨ sp1 = 1), ((1500 : Int) - i).toNat < nn → W pr l en (headSpec (jw yX2_search cX2_search 5 none) (jr 2 46)).room st mi (([.ref (q 6)] : List Value).toArray) below meth co H locs 0 0 (MQ below (jWv (fun u' => ∃ st2 : Nat → Int64, ∃ fa : Nat → Int, ∃ pc9 : Nat → Int, ∃ n : Int, ∃ sp : Int, u' = (sV (sV (sL (sI (sI u 7 fa) 8 pc9) 2 st2) 22 n) 23 sp) ∧ ((0 ≤ n ∧ n ≤ 1500) ∧ (∀ k : Nat, 0 ≤ pc9 k ∧ pc9 k ≤ 1500) ∧ (sp = 0 ∨ sp = 1))) (fun u' H => va_P D.1 j_cl (cW D q u') H) A) (([.ref (q 6)] : List Value).toArray) st 0 0 A) (F0 mi 32 ls []) := by
    intro nn
    induction nn with
    | zero => intros; omega
    | succ nn ih_32 =>
      intro i se1 fa1 pc1 n1 sp1 H locs hP hS ls hl i32_0 i32_1 i32_2 i32_3 hm
      refine lv_iload_n SS.1 SS.2.1 dX2_search_32 rfl (lv_at hl 1 rfl) ?_
      refine lv_aload_n SS.1 SS.2.1 dX2_search_33 rfl (lv_at hl 0 rfl) ?_
      refine j_get SS hG hP 6 (v := .int (J n1)) (C := RX2) (T := TX2) (N := 7) rfl rfl inX2 4 (by decide) (ref := "GridPolygons$Cuts") kw_344 rfl rfl dX2_search_34 ?_
      refine j_icmp_ge SS (tgt := 111) (x := i) (y := n1) dX2_search_37 (by decide) (by omega) (by omega) (fun c_37 => ?_) (fun c_37 => ?_)
      · skip
        exact W.vret SS.1 SS.2.1 hr (fun t0 ht hW => ⟨⟨(sV (sV (sL (sI (sI u 7 fa1) 8 pc1) 2 se1) 22 n1) 23 sp1), rfl, (⟨se1, fa1, pc1, n1, sp1, rfl, ⟨by omega, i32_2, by omega⟩⟩), by show va_P D.1 j_cl (cW D q (sV (sV (sL (sI (sI u 7 fa1) 8 pc1) 2 se1) 22 n1) 23 sp1)) t0.heap; rw [ht]; first | exact hP | (simp only [sI_id, sL_id, sC_id, sX_id, sY_id, sH_id, sT_id, sV_id]; exact hP)⟩, hS.F ht⟩) hS.2.2 dX2_search_111 hlk
      · skip
        refine lv_aload_n SS.1 SS.2.1 dX2_search_40 rfl (lv_at hl 0 rfl) ?_
        refine j_get SS hG hP 6 (v := .int (J sp1)) (C := RX2) (T := TX2) (N := 7) rfl rfl inX2 5 (by decide) (ref := "GridPolygons$Cuts") kw_346 rfl rfl dX2_search_41 ?_
        refine j_if_ne SS (tgt := 111) (x := sp1) dX2_search_44 (by decide) (by omega) (fun c_44 => ?_) (fun c_44 => ?_)
        · skip
          exact W.vret SS.1 SS.2.1 hr (fun t0 ht hW => ⟨⟨(sV (sV (sL (sI (sI u 7 fa1) 8 pc1) 2 se1) 22 n1) 23 sp1), rfl, (⟨se1, fa1, pc1, n1, sp1, rfl, ⟨by omega, i32_2, by omega⟩⟩), by show va_P D.1 j_cl (cW D q (sV (sV (sL (sI (sI u 7 fa1) 8 pc1) 2 se1) 22 n1) 23 sp1)) t0.heap; rw [ht]; first | exact hP | (simp only [sI_id, sL_id, sC_id, sX_id, sY_id, sH_id, sT_id, sV_id]; exact hP)⟩, hS.F ht⟩) hS.2.2 dX2_search_111 hlk
        · skip
          refine j_iconst SS dX2_search_47 ?_
          refine lv_istore_n (lv' := [(2, .int (J 0)), (0, .ref (q 6)), (1, .int (J i))]) SS.1 SS.2.1 dX2_search_48 rfl hl (by decide) rfl (fun ls hl => ?_)
          have L_49 : ∀ (nn : Nat) (fl : Int) (se2 : Nat → Int64) (fa2 : Nat → Int) (pc2 : Nat → Int) (n2 : Int) (sp2 : Int) (H : Heap) (locs : List Loc) (hP : va_P D.1 j_cl (cW D q (sV (sV (sL (sI (sI u 7 fa2) 8 pc2) 2 se2) 22 n2) 23 sp2)) H) (hS : va_S A st.heap H locs) (ls : Array Slot) (hl : lv_has ls 5 [(0, .ref (q 6)), (1, .int (J i)), (2, .int (J fl))]) (i49_0 : 0 ≤ fl ∧ fl ≤ 756) (i49_1 : 0 ≤ n2 ∧ n2 ≤ 1500) (i49_2 : ∀ k : Nat, 0 ≤ pc2 k ∧ pc2 k ≤ 1500) (i49_3 : sp2 = 0 ∨ sp2 = 1), ((756 : Int) - fl).toNat < nn → W pr l en (headSpec (jw yX2_search cX2_search 5 none) (jr 2 46)).room st mi (([.ref (q 6)] : List Value).toArray) below meth co H locs 0 0 (MQ below (jWv (fun u' => ∃ st2 : Nat → Int64, ∃ fa : Nat → Int, ∃ pc9 : Nat → Int, ∃ n : Int, ∃ sp : Int, u' = (sV (sV (sL (sI (sI u 7 fa) 8 pc9) 2 st2) 22 n) 23 sp) ∧ ((0 ≤ n ∧ n ≤ 1500) ∧ (∀ k : Nat, 0 ≤ pc9 k ∧ pc9 k ≤ 1500) ∧ (sp = 0 ∨ sp = 1))) (fun u' H => va_P D.1 j_cl (cW D q u') H) A) (([.ref (q 6)] : List Value).toArray) st 0 0 A) (F0 mi 49 ls []) := by
            intro nn
            induction nn with
            | zero => intros; omega
            | succ nn ih_49 =>
              intro fl se2 fa2 pc2 n2 sp2 H locs hP hS ls hl i49_0 i49_1 i49_2 i49_3 hm
              refine lv_iload_n SS.1 SS.2.1 dX2_search_49 rfl (lv_at hl 2 rfl) ?_
              refine lv_aload_n SS.1 SS.2.1 dX2_search_50 rfl (lv_at hl 0 rfl) ?_
              refine j_get SS hG hP 6 (v := .ref (q 66)) (C := RX2) (T := TX2) (N := 7) rfl rfl inX2 0 (by decide) (ref := "GridPolygons$Cuts") kw_340 rfl rfl dX2_search_51 ?_
              refine j_get SS hG hP 66 (v := .int (J (u.2.2.2 21))) (C := RX5) (T := TX5) (N := 9) rfl rfl inX5 8 (by decide) (ref := "GridPolygons$Mesh") kw_320 rfl rfl dX2_search_54 ?_
              refine j_icmp_ge SS (tgt := 105) (x := fl) (y := (u.2.2.2 21)) dX2_search_57 (by decide) (by omega) (by omega) (fun c_57 => ?_) (fun c_57 => ?_)
              · skip
                refine lv_iinc (v := J (i + 1)) (lv' := [(1, .int (J (i + 1))), (0, .ref (q 6)), (2, .int (J fl))]) SS.1 SS.2.1 dX2_search_105 hl (k := 1) rfl (J_add _ _) (by decide) rfl (fun ls hl => ?_)
                refine lv_goto (tgt := 32) SS.1 SS.2.1 dX2_search_108 (by decide) ?_
                exact ih_32 (i + 1) se2 fa2 pc2 n2 sp2 _ _ hP hS ls (lv_sub hl [1, 0] rfl) (by omega) (by omega) (i49_2) (by omega) (by omega)
              · skip
                refine lv_aload_n SS.1 SS.2.1 dX2_search_60 rfl (lv_at hl 0 rfl) ?_
                refine j_get SS hG hP 6 (v := .int (J sp2)) (C := RX2) (T := TX2) (N := 7) rfl rfl inX2 5 (by decide) (ref := "GridPolygons$Cuts") kw_346 rfl rfl dX2_search_61 ?_
                refine j_if_ne SS (tgt := 105) (x := sp2) dX2_search_64 (by decide) (by omega) (fun c_64 => ?_) (fun c_64 => ?_)
                · skip
                  refine lv_iinc (v := J (i + 1)) (lv' := [(1, .int (J (i + 1))), (0, .ref (q 6)), (2, .int (J fl))]) SS.1 SS.2.1 dX2_search_105 hl (k := 1) rfl (J_add _ _) (by decide) rfl (fun ls hl => ?_)
                  refine lv_goto (tgt := 32) SS.1 SS.2.1 dX2_search_108 (by decide) ?_
                  exact ih_32 (i + 1) se2 fa2 pc2 n2 sp2 _ _ hP hS ls (lv_sub hl [1, 0] rfl) (by omega) (by omega) (i49_2) (by omega) (by omega)
                · skip
                  refine lv_aload_n SS.1 SS.2.1 dX2_search_67 rfl (lv_at hl 0 rfl) ?_
                  refine j_get SS hG hP 6 (v := .ref (q 66)) (C := RX2) (T := TX2) (N := 7) rfl rfl inX2 0 (by decide) (ref := "GridPolygons$Cuts") kw_340 rfl rfl dX2_search_68 ?_
                  refine lv_aload_n SS.1 SS.2.1 dX2_search_71 rfl (lv_at hl 0 rfl) ?_
                  refine lv_iload_n SS.1 SS.2.1 dX2_search_72 rfl (lv_at hl 1 rfl) ?_
                  refine j_vRl SS (As := [.int (J i)]) (rest := [.ref (q 66)]) (c_X2_setOf l D q (sV (sV (sL (sI (sI u 7 fa2) 8 pc2) 2 se2) 22 n2) 23 sp2)  i (show -2147483648 ≤ i ∧ i ≤ 2147483647 from (by omega))) mf_X2_setOf kw_942 hG hP hP (ci := 2) (q0 := 6) rfl rfl rfl rfl hl.1 ⟨⟨Nat.le_of_ble_eq_true rfl, Nat.le_of_ble_eq_true rfl⟩, Nat.le_of_ble_eq_true rfl, Nat.le_refl _, Nat.le_refl _⟩ rfl dX2_search_73 (fun x_73 h_73 => ?_)
                  refine lv_iload_n SS.1 SS.2.1 dX2_search_76 rfl (lv_at hl 2 rfl) ?_
                  refine j_vRl SS (As := [.long x_73, .int (J fl)]) (rest := []) (c_X5_flipped l D q (sV (sV (sL (sI (sI u 7 fa2) 8 pc2) 2 se2) 22 n2) 23 sp2)  x_73 fl (show -2147483648 ≤ fl ∧ fl ≤ 2147483647 from (by omega))) mf_X5_flipped kw_946 hG hP hP (ci := 5) (q0 := 66) rfl rfl rfl rfl hl.1 ⟨⟨Nat.le_of_ble_eq_true rfl, Nat.le_of_ble_eq_true rfl⟩, Nat.le_of_ble_eq_true rfl, Nat.le_refl _, Nat.le_refl _⟩ rfl dX2_search_77 (fun x_77 h_77 => ?_)
                  refine lv_lstore_n (lv' := [(3, .long x_77), (0, .ref (q 6)), (1, .int (J i)), (2, .int (J fl))]) SS.1 SS.2.1 dX2_search_80 rfl hl (by decide) rfl (fun ls hl => ?_)
                  refine lv_lload_n SS.1 SS.2.1 dX2_search_81 rfl (lv_at hl 0 rfl) ?_
                  refine lv_lconst (v := 0) SS.1 SS.2.1 dX2_search_82 (by decide +kernel) ?_
                  refine j_lcmp SS dX2_search_83 (fun z_83 hz_83 => ?_)
                  refine j_if_eq SS (tgt := 99) (x := z_83) dX2_search_84 (by decide) (by omega) (fun c_84 => ?_) (fun c_84 => ?_)
                  · skip
                    refine lv_iinc (v := J (fl + 1)) (lv' := [(2, .int (J (fl + 1))), (3, .long x_77), (0, .ref (q 6)), (1, .int (J i))]) SS.1 SS.2.1 dX2_search_99 hl (k := 3) rfl (J_add _ _) (by decide) rfl (fun ls hl => ?_)
                    refine lv_goto (tgt := 49) SS.1 SS.2.1 dX2_search_102 (by decide) ?_
                    exact ih_49 (fl + 1) se2 fa2 pc2 n2 sp2 _ _ hP hS ls (lv_sub hl [2, 3, 0] rfl) (by omega) (by omega) (by first | exact i49_2 | exact h_96.2.1) (by omega) (by omega)
                  · skip
                    refine lv_aload_n SS.1 SS.2.1 dX2_search_87 rfl (lv_at hl 1 rfl) ?_
                    refine lv_lload_n SS.1 SS.2.1 dX2_search_88 rfl (lv_at hl 0 rfl) ?_
                    refine lv_aload_n SS.1 SS.2.1 dX2_search_89 rfl (lv_at hl 1 rfl) ?_
                    refine lv_iload_n SS.1 SS.2.1 dX2_search_90 rfl (lv_at hl 2 rfl) ?_
                    refine j_vRi SS (As := [.int (J i)]) (rest := [.long x_77, .ref (q 6)]) (c_X2_farOf l D q (sV (sV (sL (sI (sI u 7 fa2) 8 pc2) 2 se2) 22 n2) 23 sp2)  i (show -2147483648 ≤ i ∧ i ≤ 2147483647 from (by omega))) mf_X2_farOf kw_950 hG hP hP (ci := 2) (q0 := 6) rfl rfl rfl rfl hl.1 ⟨⟨Nat.le_of_ble_eq_true rfl, Nat.le_of_ble_eq_true rfl⟩, Nat.le_of_ble_eq_true rfl, Nat.le_refl _, Nat.le_refl _⟩ rfl dX2_search_91 (fun z_91 h_91 => ?_)
                    have h_91 : True := h_91
                    refine j_iconst SS dX2_search_94 ?_
                    refine j_iadd SS (x := z_91) (y := 1) dX2_search_95 ?_
                    refine j_vWv SS (As := [.long x_77, .int (J (z_91 + 1))]) (rest := []) (c_X2_enter l D q (sV (sV (sL (sI (sI u 7 fa2) 8 pc2) 2 se2) 22 n2) 23 sp2) A (cW_D hD)  x_77 (z_91 + 1) (show 0 ≤ n2 ∧ n2 ≤ 1500 from (by omega)) (show ∀ k : Nat, 0 ≤ pc2 k ∧ pc2 k ≤ 1500 from (i49_2)) (show sp2 = 0 ∨ sp2 = 1 from (by omega))) mf_X2_enter kw_937 hG hP hP (ci := 2) (q0 := 6) rfl rfl rfl hS (fun _ h => h) rfl hl.1 ⟨⟨Nat.le_of_ble_eq_true rfl, Nat.le_of_ble_eq_true rfl⟩, Nat.le_of_ble_eq_true rfl, Nat.le_refl _, Nat.le_refl _⟩ rfl dX2_search_96 (fun u96 H locs h_96 hP _ hS => ?_)
                    obtain ⟨st2_96, fa_96, pc9_96, n_96, sp_96, rfl, h_96⟩ := h_96
                    have hP : va_P D.1 j_cl (cW D q (sV (sV (sL (sI (sI u 7 fa_96) 8 pc9_96) 2 st2_96) 22 n_96) 23 sp_96)) H := hP
                    have h_96 : (0 ≤ n_96 ∧ n_96 ≤ 1500) ∧ (∀ k : Nat, 0 ≤ pc9_96 k ∧ pc9_96 k ≤ 1500) ∧ (sp_96 = 0 ∨ sp_96 = 1) := h_96
                    refine lv_iinc (v := J (fl + 1)) (lv' := [(2, .int (J (fl + 1))), (3, .long x_77), (0, .ref (q 6)), (1, .int (J i))]) SS.1 SS.2.1 dX2_search_99 hl (k := 3) rfl (J_add _ _) (by decide) rfl (fun ls hl => ?_)
                    refine lv_goto (tgt := 49) SS.1 SS.2.1 dX2_search_102 (by decide) ?_
                    exact ih_49 (fl + 1) st2_96 fa_96 pc9_96 n_96 sp_96 _ _ hP hS ls (lv_sub hl [2, 3, 0] rfl) (by omega) (by omega) (by first | exact i49_2 | exact h_96.2.1) (by omega) (by omega)
          exact L_49 (((756 : Int) - (0 : Int)).toNat + 1) 0 se1 fa1 pc1 n1 sp1 _ _ hP hS ls (lv_sub hl [1, 2, 0] rfl) (by omega) (by omega) (i32_2) (by omega) (Nat.lt_succ_self _)
  exact L_32 (((1500 : Int) - (0 : Int)).toNat + 1) 0 st2_27 fa_27 pc9_27 n_27 sp_27 _ _ hP hS ls (lv_sub hl [1, 0] rfl) (by omega) (by omega) (h_27.2.1) (by omega) (Nat.lt_succ_self _)

set_option maxHeartbeats 4000000 in
set_option maxRecDepth 100000 in
theorem c_X2_build (l : Launch) (D : JD) (q : Nat → Nat) (u : CS) (A : Nat → Prop) (hD : va_D A (cW D q u)) (i : Nat) (hi : i < 8) (p0 : RB 40 u i) (p1 : RB 40 u 9) (p2 : ∀ k : Nat, 0 ≤ u.2.1 2 k ∧ u.2.1 2 k ≤ 12) (p3 : ∀ k : Nat, 0 ≤ u.2.1 3 k ∧ u.2.1 3 k ≤ 12) (p4 : ∀ k : Nat, -1 ≤ u.2.1 4 k ∧ u.2.1 4 k ≤ 63) (p5 : 0 ≤ u.2.2.2 20 ∧ u.2.2.2 20 ≤ 63) (p6 : 0 ≤ u.2.2.2 21 ∧ u.2.2.2 21 ≤ 756) (p7 : 0 ≤ u.2.2.2 22 ∧ u.2.2.2 22 ≤ 1500) (p8 : ∀ k : Nat, 0 ≤ u.2.1 8 k ∧ u.2.1 8 k ≤ 1500) (p9 : u.2.2.2 23 = 0 ∨ u.2.2.2 23 = 1) (p10 : -2147483648 ≤ u.2.2.2 24 ∧ u.2.2.2 24 ≤ 2147483647) (p11 : -2147483648 ≤ u.1.2.2.2.2 i ∧ u.1.2.2.2.2 i ≤ 2147483647) : Met l yX2_build (jw yX2_build cX2_build 2 (some .boolean)) (jr 5 122) (jP [.ref (q 6), .ref (q (8 + 5 * i))] D (fun H => va_P D.1 j_cl (cW D q u) H)) (jWi (fun z u' => ∃ n : Int, ∃ f : Nat → Int, ∃ g : Nat → Int, ∃ ls9 : Nat → Int, ∃ gr9 : Nat → Int, ∃ nu9 : Nat → Int, ∃ w3 : Nat → Int64, ∃ w4 : Nat → Int64, ∃ w5 : Nat → Int64, ∃ v20 : Int, ∃ v21 : Int, ∃ st2 : Nat → Int64, ∃ fa : Nat → Int, ∃ pc9 : Nat → Int, ∃ v22 : Int, ∃ sp : Int, ∃ v24 : Int, u' = (sY (sX (sV (sV (sV (sV (sV (sL (sL (sL (sL (sI (sI (sI (sI (sI (sC u 9 n) 2 ls9) 3 gr9) 4 nu9) 7 fa) 8 pc9) 2 st2) 3 w3) 4 w4) 5 w5) 20 v20) 21 v21) 22 v22) 23 sp) 24 v24) 9 f) 9 g) ∧ ((z = 0 ∨ z = 1) ∧ ((0 ≤ n ∧ n ≤ 12) ∧ RV 40 f g) ∧ (∀ k : Nat, 0 ≤ ls9 k ∧ ls9 k ≤ 12) ∧ (∀ k : Nat, 0 ≤ gr9 k ∧ gr9 k ≤ 12) ∧ (∀ k : Nat, -1 ≤ nu9 k ∧ nu9 k ≤ 63) ∧ ((0 ≤ v20 ∧ v20 ≤ 63) ∧ 0 ≤ v21 ∧ v21 ≤ 756) ∧ ((0 ≤ v22 ∧ v22 ≤ 1500) ∧ (∀ k : Nat, 0 ≤ pc9 k ∧ pc9 k ≤ 1500) ∧ (sp = 0 ∨ sp = 1)) ∧ -2147483648 ≤ v24 ∧ v24 ≤ 2147483647)) (fun u' H => va_P D.1 j_cl (cW D q u') H) A) 0 0 A := by
  refine Met.ofW (cc := cX2_build) (maxL := 2) (ret := (some .boolean)) (by decide) rfl ?_
  intro pr en st mi args below meth co s₁ B hml hv
  obtain ⟨rfl, hG, hP⟩ := hv
  have hr := B.returns
  have hlk := B.notSynchronized
  have SS : jS pr mi co cX2_build 2 st _ RX2 := ⟨B.exec, B.bytes, hml, findClass_of_methodNamed B.named, fun w hw => atoms_spec (ws := (jw yX2_build cX2_build 2 (some .boolean))) B.pre w (List.mem_cons_of_mem _ hw)⟩
  have hl := lv_entry ([.ref (q 6), .ref (q (8 + 5 * i))]) (n := 2) (Nat.le_of_ble_eq_true rfl)
  rw [lg_entry_eq]
  generalize (lg_sl ([.ref (q 6), .ref (q (8 + 5 * i))]) ++ List.replicate (2 - (lg_sl ([.ref (q 6), .ref (q (8 + 5 * i))])).length) Slot.unset).toArray = ls at hl ⊢
  have hl : lv_has ls 2 [(0, .ref (q 6)), (1, .ref (q (8 + 5 * i)))] := hl
  have hS : va_S A st.heap st.heap [] := va_S.rf
  refine lv_aload_n SS.1 SS.2.1 dX2_build_0 rfl (lv_at hl 0 rfl) ?_
  refine j_get SS hG hP 6 (v := .int (J (u.2.2.2 24))) (C := RX2) (T := TX2) (N := 7) rfl rfl inX2 6 (by decide) (ref := "GridPolygons$Cuts") kw_347 rfl rfl dX2_build_1 ?_
  refine lv_aload_n SS.1 SS.2.1 dX2_build_4 rfl (lv_at hl 1 rfl) ?_
  refine j_get SS hG hP (8 + 5 * i) (v := .int (J (u.1.2.2.2.2 i))) (C := RX10) (T := TX10) (N := 3) (cw_shape (by omega)) rfl inX10 2 (by decide) (ref := "GridPolygons$Shape") kw_158 rfl rfl dX2_build_5 ?_
  refine j_icmp_eq SS (tgt := 34) (x := (u.2.2.2 24)) (y := (u.1.2.2.2.2 i)) dX2_build_8 (by decide) (by omega) (by omega) (fun c_8 => ?_) (fun c_8 => ?_)
  · skip
    refine lv_aload_n SS.1 SS.2.1 dX2_build_34 rfl (lv_at hl 0 rfl) ?_
    refine j_get SS hG hP 6 (v := .int (J (u.2.2.2 23))) (C := RX2) (T := TX2) (N := 7) rfl rfl inX2 5 (by decide) (ref := "GridPolygons$Cuts") kw_346 rfl rfl dX2_build_35 ?_
    refine j_if_ne SS (tgt := 45) (x := (u.2.2.2 23)) dX2_build_38 (by decide) (by omega) (fun c_38 => ?_) (fun c_38 => ?_)
    · skip
      refine j_iconst SS dX2_build_45 ?_
      exact W.zret SS.1 SS.2.1 hr (j_nz (by decide)) (fun t0 ht hW => ⟨⟨_, (sY (sX (sV (sV (sV (sV (sV (sL (sL (sL (sL (sI (sI (sI (sI (sI (sC u 9 (u.1.2.2.1 9)) 2 (u.2.1 2)) 3 (u.2.1 3)) 4 (u.2.1 4)) 7 (u.2.1 7)) 8 (u.2.1 8)) 2 (u.2.2.1 2)) 3 (u.2.2.1 3)) 4 (u.2.2.1 4)) 5 (u.2.2.1 5)) 20 (u.2.2.2 20)) 21 (u.2.2.2 21)) 22 (u.2.2.2 22)) 23 (u.2.2.2 23)) 24 (u.2.2.2 24)) 9 (u.1.1 9)) 9 (u.1.2.1 9)), rfl, ⟨0, rfl, (⟨(u.1.2.2.1 9), (u.1.1 9), (u.1.2.1 9), (u.2.1 2), (u.2.1 3), (u.2.1 4), (u.2.2.1 3), (u.2.2.1 4), (u.2.2.1 5), (u.2.2.2 20), (u.2.2.2 21), (u.2.2.1 2), (u.2.1 7), (u.2.1 8), (u.2.2.2 22), (u.2.2.2 23), (u.2.2.2 24), rfl, by first | exact ⟨by omega, p1, p2, p3, p4, ⟨by omega, by omega⟩, ⟨by omega, p8, p9⟩, by omega⟩ | exact ⟨by omega, h_27.1, h_27.2.1, h_27.2.2.1, h_27.2.2.2.1, ⟨by omega, by omega⟩, ⟨by omega, h_31.2.1, h_31.2.2⟩, by omega⟩⟩)⟩, by show va_P D.1 j_cl (cW D q (sY (sX (sV (sV (sV (sV (sV (sL (sL (sL (sL (sI (sI (sI (sI (sI (sC u 9 (u.1.2.2.1 9)) 2 (u.2.1 2)) 3 (u.2.1 3)) 4 (u.2.1 4)) 7 (u.2.1 7)) 8 (u.2.1 8)) 2 (u.2.2.1 2)) 3 (u.2.2.1 3)) 4 (u.2.2.1 4)) 5 (u.2.2.1 5)) 20 (u.2.2.2 20)) 21 (u.2.2.2 21)) 22 (u.2.2.2 22)) 23 (u.2.2.2 23)) 24 (u.2.2.2 24)) 9 (u.1.1 9)) 9 (u.1.2.1 9))) t0.heap; rw [ht]; first | exact hP | (simp only [sI_id, sL_id, sC_id, sX_id, sY_id, sH_id, sT_id, sV_id]; exact hP)⟩, hS.F ht⟩) hS.2.2 dX2_build_46 hlk
    · skip
      refine j_iconst SS dX2_build_41 ?_
      refine lv_goto (tgt := 46) SS.1 SS.2.1 dX2_build_42 (by decide) ?_
      exact W.zret SS.1 SS.2.1 hr (j_nz (by decide)) (fun t0 ht hW => ⟨⟨_, (sY (sX (sV (sV (sV (sV (sV (sL (sL (sL (sL (sI (sI (sI (sI (sI (sC u 9 (u.1.2.2.1 9)) 2 (u.2.1 2)) 3 (u.2.1 3)) 4 (u.2.1 4)) 7 (u.2.1 7)) 8 (u.2.1 8)) 2 (u.2.2.1 2)) 3 (u.2.2.1 3)) 4 (u.2.2.1 4)) 5 (u.2.2.1 5)) 20 (u.2.2.2 20)) 21 (u.2.2.2 21)) 22 (u.2.2.2 22)) 23 (u.2.2.2 23)) 24 (u.2.2.2 24)) 9 (u.1.1 9)) 9 (u.1.2.1 9)), rfl, ⟨1, rfl, (⟨(u.1.2.2.1 9), (u.1.1 9), (u.1.2.1 9), (u.2.1 2), (u.2.1 3), (u.2.1 4), (u.2.2.1 3), (u.2.2.1 4), (u.2.2.1 5), (u.2.2.2 20), (u.2.2.2 21), (u.2.2.1 2), (u.2.1 7), (u.2.1 8), (u.2.2.2 22), (u.2.2.2 23), (u.2.2.2 24), rfl, by first | exact ⟨by omega, p1, p2, p3, p4, ⟨by omega, by omega⟩, ⟨by omega, p8, p9⟩, by omega⟩ | exact ⟨by omega, h_27.1, h_27.2.1, h_27.2.2.1, h_27.2.2.2.1, ⟨by omega, by omega⟩, ⟨by omega, h_31.2.1, h_31.2.2⟩, by omega⟩⟩)⟩, by show va_P D.1 j_cl (cW D q (sY (sX (sV (sV (sV (sV (sV (sL (sL (sL (sL (sI (sI (sI (sI (sI (sC u 9 (u.1.2.2.1 9)) 2 (u.2.1 2)) 3 (u.2.1 3)) 4 (u.2.1 4)) 7 (u.2.1 7)) 8 (u.2.1 8)) 2 (u.2.2.1 2)) 3 (u.2.2.1 3)) 4 (u.2.2.1 4)) 5 (u.2.2.1 5)) 20 (u.2.2.2 20)) 21 (u.2.2.2 21)) 22 (u.2.2.2 22)) 23 (u.2.2.2 23)) 24 (u.2.2.2 24)) 9 (u.1.1 9)) 9 (u.1.2.1 9))) t0.heap; rw [ht]; first | exact hP | (simp only [sI_id, sL_id, sC_id, sX_id, sY_id, sH_id, sT_id, sV_id]; exact hP)⟩, hS.F ht⟩) hS.2.2 dX2_build_46 hlk
  · skip
    refine lv_aload_n SS.1 SS.2.1 dX2_build_11 rfl (lv_at hl 0 rfl) ?_
    refine lv_aload_n SS.1 SS.2.1 dX2_build_12 rfl (lv_at hl 1 rfl) ?_
    refine j_get SS hG hP (8 + 5 * i) (v := .int (J (u.1.2.2.2.2 i))) (C := RX10) (T := TX10) (N := 3) (cw_shape (by omega)) rfl inX10 2 (by decide) (ref := "GridPolygons$Shape") kw_158 rfl rfl dX2_build_13 ?_
    refine j_put SS hG hP (cW_D hD) hS 6 (v := .int (J (u.1.2.2.2.2 i))) (ty := .int) (C := RX2) (T := TX2) (N := 7) rfl rfl inX2 tyX2 tyX2_ok nmX2 6 (by decide) (ref := "GridPolygons$Cuts") kw_347 rfl rfl (by decide +kernel) rfl rfl (Nat.le_of_ble_eq_true rfl) dX2_build_16 (ws' := (cW D q (sV u 24 (u.1.2.2.2.2 i)))) rfl (fun H locs hP hS => ?_)
    refine lv_aload_n SS.1 SS.2.1 dX2_build_19 rfl (lv_at hl 0 rfl) ?_
    refine j_get SS hG hP 6 (v := .ref (q 66)) (C := RX2) (T := TX2) (N := 7) rfl rfl inX2 0 (by decide) (ref := "GridPolygons$Cuts") kw_340 rfl rfl dX2_build_20 ?_
    refine lv_aload_n SS.1 SS.2.1 dX2_build_23 rfl (lv_at hl 1 rfl) ?_
    refine j_get SS hG hP (8 + 5 * i) (v := .ref (q (9 + 5 * i))) (C := RX10) (T := TX10) (N := 3) (cw_shape (by omega)) rfl inX10 0 (by decide) (ref := "GridPolygons$Shape") kw_152 rfl rfl dX2_build_24 ?_
    refine j_vWv SS (As := [.ref (q (9 + 5 * i))]) (rest := []) (c_X5_build l D q (sV u 24 (u.1.2.2.2.2 i)) A (cW_D hD) i (by omega)  (show RB 40 (sV u 24 (u.1.2.2.2.2 i)) i from (p0)) (show RB 40 (sV u 24 (u.1.2.2.2.2 i)) 9 from (p1)) (show ∀ k : Nat, 0 ≤ (u.2.1 2) k ∧ (u.2.1 2) k ≤ 12 from (p2)) (show ∀ k : Nat, 0 ≤ (u.2.1 3) k ∧ (u.2.1 3) k ≤ 12 from (p3)) (show ∀ k : Nat, -1 ≤ (u.2.1 4) k ∧ (u.2.1 4) k ≤ 63 from (p4))) mf_X5_build kw_869 hG hP hP (ci := 5) (q0 := 66) rfl rfl rfl hS (fun _ h => h) rfl hl.1 ⟨⟨Nat.le_of_ble_eq_true rfl, Nat.le_of_ble_eq_true rfl⟩, Nat.le_of_ble_eq_true rfl, Nat.le_refl _, Nat.le_refl _⟩ rfl dX2_build_27 (fun u27 H locs h_27 hP _ hS => ?_)
    obtain ⟨n_27, f_27, g_27, ls9_27, gr9_27, nu9_27, w3_27, w4_27, w5_27, v20_27, v21_27, rfl, h_27⟩ := h_27
    have hP : va_P D.1 j_cl (cW D q (sY (sX (sV (sV (sV (sL (sL (sL (sI (sI (sI (sC u 9 n_27) 2 ls9_27) 3 gr9_27) 4 nu9_27) 3 w3_27) 4 w4_27) 5 w5_27) 20 v20_27) 21 v21_27) 24 (u.1.2.2.2.2 i)) 9 f_27) 9 g_27)) H := hP
    have h_27 : ((0 ≤ n_27 ∧ n_27 ≤ 12) ∧ RV 40 f_27 g_27) ∧ (∀ k : Nat, 0 ≤ ls9_27 k ∧ ls9_27 k ≤ 12) ∧ (∀ k : Nat, 0 ≤ gr9_27 k ∧ gr9_27 k ≤ 12) ∧ (∀ k : Nat, -1 ≤ nu9_27 k ∧ nu9_27 k ≤ 63) ∧ (0 ≤ v20_27 ∧ v20_27 ≤ 63) ∧ 0 ≤ v21_27 ∧ v21_27 ≤ 756 := h_27
    refine lv_aload_n SS.1 SS.2.1 dX2_build_30 rfl (lv_at hl 0 rfl) ?_
    refine j_vWv SS (As := []) (rest := []) (c_X2_search l D q (sY (sX (sV (sV (sV (sL (sL (sL (sI (sI (sI (sC u 9 n_27) 2 ls9_27) 3 gr9_27) 4 nu9_27) 3 w3_27) 4 w4_27) 5 w5_27) 20 v20_27) 21 v21_27) 24 (u.1.2.2.2.2 i)) 9 f_27) 9 g_27) A (cW_D hD)   (show 0 ≤ v20_27 ∧ v20_27 ≤ 63 from (by omega)) (show 0 ≤ v21_27 ∧ v21_27 ≤ 756 from (by omega)) (show ∀ k : Nat, 0 ≤ (u.2.1 8) k ∧ (u.2.1 8) k ≤ 1500 from (p8))) mf_X2_search kw_928 hG hP hP (ci := 2) (q0 := 6) rfl rfl rfl hS (fun _ h => h) rfl hl.1 ⟨⟨Nat.le_of_ble_eq_true rfl, Nat.le_of_ble_eq_true rfl⟩, Nat.le_of_ble_eq_true rfl, Nat.le_refl _, Nat.le_refl _⟩ rfl dX2_build_31 (fun u31 H locs h_31 hP _ hS => ?_)
    obtain ⟨st2_31, fa_31, pc9_31, n_31, sp_31, rfl, h_31⟩ := h_31
    have hP : va_P D.1 j_cl (cW D q (sY (sX (sV (sV (sV (sV (sV (sL (sL (sL (sL (sI (sI (sI (sI (sI (sC u 9 n_27) 2 ls9_27) 3 gr9_27) 4 nu9_27) 7 fa_31) 8 pc9_31) 2 st2_31) 3 w3_27) 4 w4_27) 5 w5_27) 20 v20_27) 21 v21_27) 22 n_31) 23 sp_31) 24 (u.1.2.2.2.2 i)) 9 f_27) 9 g_27)) H := hP
    have h_31 : (0 ≤ n_31 ∧ n_31 ≤ 1500) ∧ (∀ k : Nat, 0 ≤ pc9_31 k ∧ pc9_31 k ≤ 1500) ∧ (sp_31 = 0 ∨ sp_31 = 1) := h_31
    refine lv_aload_n SS.1 SS.2.1 dX2_build_34 rfl (lv_at hl 0 rfl) ?_
    refine j_get SS hG hP 6 (v := .int (J sp_31)) (C := RX2) (T := TX2) (N := 7) rfl rfl inX2 5 (by decide) (ref := "GridPolygons$Cuts") kw_346 rfl rfl dX2_build_35 ?_
    refine j_if_ne SS (tgt := 45) (x := sp_31) dX2_build_38 (by decide) (by omega) (fun c_38 => ?_) (fun c_38 => ?_)
    · skip
      refine j_iconst SS dX2_build_45 ?_
      exact W.zret SS.1 SS.2.1 hr (j_nz (by decide)) (fun t0 ht hW => ⟨⟨_, (sY (sX (sV (sV (sV (sV (sV (sL (sL (sL (sL (sI (sI (sI (sI (sI (sC u 9 n_27) 2 ls9_27) 3 gr9_27) 4 nu9_27) 7 fa_31) 8 pc9_31) 2 st2_31) 3 w3_27) 4 w4_27) 5 w5_27) 20 v20_27) 21 v21_27) 22 n_31) 23 sp_31) 24 (u.1.2.2.2.2 i)) 9 f_27) 9 g_27), rfl, ⟨0, rfl, (⟨n_27, f_27, g_27, ls9_27, gr9_27, nu9_27, w3_27, w4_27, w5_27, v20_27, v21_27, st2_31, fa_31, pc9_31, n_31, sp_31, (u.1.2.2.2.2 i), rfl, by first | exact ⟨by omega, p1, p2, p3, p4, ⟨by omega, by omega⟩, ⟨by omega, p8, p9⟩, by omega⟩ | exact ⟨by omega, h_27.1, h_27.2.1, h_27.2.2.1, h_27.2.2.2.1, ⟨by omega, by omega⟩, ⟨by omega, h_31.2.1, h_31.2.2⟩, by omega⟩⟩)⟩, by show va_P D.1 j_cl (cW D q (sY (sX (sV (sV (sV (sV (sV (sL (sL (sL (sL (sI (sI (sI (sI (sI (sC u 9 n_27) 2 ls9_27) 3 gr9_27) 4 nu9_27) 7 fa_31) 8 pc9_31) 2 st2_31) 3 w3_27) 4 w4_27) 5 w5_27) 20 v20_27) 21 v21_27) 22 n_31) 23 sp_31) 24 (u.1.2.2.2.2 i)) 9 f_27) 9 g_27)) t0.heap; rw [ht]; first | exact hP | (simp only [sI_id, sL_id, sC_id, sX_id, sY_id, sH_id, sT_id, sV_id]; exact hP)⟩, hS.F ht⟩) hS.2.2 dX2_build_46 hlk
    · skip
      refine j_iconst SS dX2_build_41 ?_
      refine lv_goto (tgt := 46) SS.1 SS.2.1 dX2_build_42 (by decide) ?_
      exact W.zret SS.1 SS.2.1 hr (j_nz (by decide)) (fun t0 ht hW => ⟨⟨_, (sY (sX (sV (sV (sV (sV (sV (sL (sL (sL (sL (sI (sI (sI (sI (sI (sC u 9 n_27) 2 ls9_27) 3 gr9_27) 4 nu9_27) 7 fa_31) 8 pc9_31) 2 st2_31) 3 w3_27) 4 w4_27) 5 w5_27) 20 v20_27) 21 v21_27) 22 n_31) 23 sp_31) 24 (u.1.2.2.2.2 i)) 9 f_27) 9 g_27), rfl, ⟨1, rfl, (⟨n_27, f_27, g_27, ls9_27, gr9_27, nu9_27, w3_27, w4_27, w5_27, v20_27, v21_27, st2_31, fa_31, pc9_31, n_31, sp_31, (u.1.2.2.2.2 i), rfl, by first | exact ⟨by omega, p1, p2, p3, p4, ⟨by omega, by omega⟩, ⟨by omega, p8, p9⟩, by omega⟩ | exact ⟨by omega, h_27.1, h_27.2.1, h_27.2.2.1, h_27.2.2.2.1, ⟨by omega, by omega⟩, ⟨by omega, h_31.2.1, h_31.2.2⟩, by omega⟩⟩)⟩, by show va_P D.1 j_cl (cW D q (sY (sX (sV (sV (sV (sV (sV (sL (sL (sL (sL (sI (sI (sI (sI (sI (sC u 9 n_27) 2 ls9_27) 3 gr9_27) 4 nu9_27) 7 fa_31) 8 pc9_31) 2 st2_31) 3 w3_27) 4 w4_27) 5 w5_27) 20 v20_27) 21 v21_27) 22 n_31) 23 sp_31) 24 (u.1.2.2.2.2 i)) 9 f_27) 9 g_27)) t0.heap; rw [ht]; first | exact hP | (simp only [sI_id, sL_id, sC_id, sX_id, sY_id, sH_id, sT_id, sV_id]; exact hP)⟩, hS.F ht⟩) hS.2.2 dX2_build_46 hlk

theorem CI_cu {u : CS} {n : Int} {f : Nat → Int} {g : Nat → Int} {ls9 : Nat → Int} {gr9 : Nat → Int} {nu9 : Nat → Int} {w3 : Nat → Int64} {w4 : Nat → Int64} {w5 : Nat → Int64} {v20 : Int} {v21 : Int} {st2 : Nat → Int64} {fa : Nat → Int} {pc9 : Nat → Int} {v22 : Int} {sp : Int} {v24 : Int} (h : CI u) (q : ((0 ≤ n ∧ n ≤ 12) ∧ RV 40 f g) ∧ (∀ k : Nat, 0 ≤ ls9 k ∧ ls9 k ≤ 12) ∧ (∀ k : Nat, 0 ≤ gr9 k ∧ gr9 k ≤ 12) ∧ (∀ k : Nat, -1 ≤ nu9 k ∧ nu9 k ≤ 63) ∧ ((0 ≤ v20 ∧ v20 ≤ 63) ∧ 0 ≤ v21 ∧ v21 ≤ 756) ∧ ((0 ≤ v22 ∧ v22 ≤ 1500) ∧ (∀ k : Nat, 0 ≤ pc9 k ∧ pc9 k ≤ 1500) ∧ (sp = 0 ∨ sp = 1)) ∧ -2147483648 ≤ v24 ∧ v24 ≤ 2147483647) : CI (sY (sX (sV (sV (sV (sV (sV (sL (sL (sL (sL (sI (sI (sI (sI (sI (sC u 9 n) 2 ls9) 3 gr9) 4 nu9) 7 fa) 8 pc9) 2 st2) 3 w3) 4 w4) 5 w5) 20 v20) 21 v21) 22 v22) 23 sp) 24 v24) 9 f) 9 g) := by
  obtain ⟨h1, h2, h3, h4, h5, h6, h7, h8⟩ := h
  obtain ⟨q1, q2, q3, q4, q5, q6, q7⟩ := q
  have w : ∀ r : Nat, r ≠ 9 → ∀ K, RB K u r → RB K (sY (sX (sV (sV (sV (sV (sV (sL (sL (sL (sL (sI (sI (sI (sI (sI (sC u 9 n) 2 ls9) 3 gr9) 4 nu9) 7 fa) 8 pc9) 2 st2) 3 w3) 4 w4) 5 w5) 20 v20) 21 v21) 22 v22) 23 sp) 24 v24) 9 f) 9 g) r := fun r hr K q => RB_ne (n := n) (f := f) (g := g) hr q
  refine ⟨fun i hi => ⟨w i (by omega) 40 (h1 i hi).1, (h1 i hi).2⟩, ⟨w 8 (by decide) 80 h2.1, q1, w 10 (by decide) 40 h2.2.2⟩, h3, h4, h5, ⟨q5.1, q5.2, fun k => ⟨q2 k, q3 k⟩, q4⟩, ⟨q6.1, q6.2.2, q7, q6.2.1⟩, h8⟩

