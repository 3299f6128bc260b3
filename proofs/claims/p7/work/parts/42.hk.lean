
set_option maxHeartbeats 4000000 in
set_option maxRecDepth 100000 in
theorem c_X2_farOf (l : Launch) (D : JD) (q : Nat → Nat) (u : CS) (i : Int) (p0 : -2147483648 ≤ i ∧ i ≤ 2147483647) : Met l yX2_farOf (jw yX2_farOf cX2_farOf 2 (some .int)) (jr 0 0) (jP [.ref (q 6), .int (J i)] D (fun H => va_P D.1 j_cl (cW D q u) H)) (jRi (fun z => True)) 0 0 (fun _ => False) := by
  refine Met.ofW (cc := cX2_farOf) (maxL := 2) (ret := (some .int)) (by decide) rfl ?_
  intro pr en st mi args below meth co s₁ B hml hv
  obtain ⟨rfl, hG, hP⟩ := hv
  have hr := B.returns
  have hlk := B.notSynchronized
  have SS : jS pr mi co cX2_farOf 2 st _ RX2 := ⟨B.exec, B.bytes, hml, findClass_of_methodNamed B.named, fun w hw => atoms_spec (ws := (jw yX2_farOf cX2_farOf 2 (some .int))) B.pre w (List.mem_cons_of_mem _ hw)⟩
  have hl := lv_entry ([.ref (q 6), .int (J i)]) (n := 2) (Nat.le_of_ble_eq_true rfl)
  rw [lg_entry_eq]
  generalize (lg_sl ([.ref (q 6), .int (J i)]) ++ List.replicate (2 - (lg_sl ([.ref (q 6), .int (J i)])).length) Slot.unset).toArray = ls at hl ⊢
  have hl : lv_has ls 2 [(0, .ref (q 6)), (1, .int (J i))] := hl
  refine lv_iload_n SS.1 SS.2.1 dX2_farOf_0 rfl (lv_at hl 1 rfl) ?_
  refine j_if_lt SS (tgt := 22) (x := i) dX2_farOf_1 (by decide) (by omega) (fun c_1 => ?_) (fun c_1 => ?_)
  · skip
    refine j_iconst SS dX2_farOf_22 ?_
    exact W.iret SS.1 SS.2.1 hr (fun t0 ht hW => ⟨_, rfl, ⟨0, rfl, (trivial)⟩, ht⟩) (fun _ h => nomatch h) dX2_farOf_23 hlk
  · skip
    refine lv_iload_n SS.1 SS.2.1 dX2_farOf_4 rfl (lv_at hl 1 rfl) ?_
    refine lv_aload_n SS.1 SS.2.1 dX2_farOf_5 rfl (lv_at hl 0 rfl) ?_
    refine j_get SS hG hP 6 (v := .ref (q 64)) (C := RX2) (T := TX2) (N := 7) rfl rfl inX2 2 (by decide) (ref := "GridPolygons$Cuts") kw_342 rfl rfl dX2_farOf_6 ?_
    refine va_alen SS.1 SS.2.1 hG.1 hP 64 0 rfl rfl (v := J (1500 : Int)) (by first | rfl | exact J_nat _) dX2_farOf_9 ?_
    refine j_icmp_ge SS (tgt := 22) (x := i) (y := 1500) dX2_farOf_10 (by decide) (by omega) (by decide) (fun c_10 => ?_) (fun c_10 => ?_)
    · skip
      refine j_iconst SS dX2_farOf_22 ?_
      exact W.iret SS.1 SS.2.1 hr (fun t0 ht hW => ⟨_, rfl, ⟨0, rfl, (trivial)⟩, ht⟩) (fun _ h => nomatch h) dX2_farOf_23 hlk
    · skip
      refine lv_aload_n SS.1 SS.2.1 dX2_farOf_13 rfl (lv_at hl 0 rfl) ?_
      refine j_get SS hG hP 6 (v := .ref (q 64)) (C := RX2) (T := TX2) (N := 7) rfl rfl inX2 2 (by decide) (ref := "GridPolygons$Cuts") kw_342 rfl rfl dX2_farOf_14 ?_
      refine lv_iload_n SS.1 SS.2.1 dX2_farOf_17 rfl (lv_at hl 1 rfl) ?_
      refine j_iald SS hG hP 64 (n := 1500) (f := (u.2.1 7)) rfl (z := i) (by omega) (by omega) dX2_farOf_18 ?_
      refine lv_goto (tgt := 23) SS.1 SS.2.1 dX2_farOf_19 (by decide) ?_
      exact W.iret SS.1 SS.2.1 hr (fun t0 ht hW => ⟨_, rfl, ⟨((u.2.1 7) (i).toNat), rfl, (trivial)⟩, ht⟩) (fun _ h => nomatch h) dX2_farOf_23 hlk

set_option maxHeartbeats 4000000 in
set_option maxRecDepth 100000 in
theorem c_X2_farthest (l : Launch) (D : JD) (q : Nat → Nat) (u : CS) (p0 : 0 ≤ u.2.2.2 22 ∧ u.2.2.2 22 ≤ 1500) : Met l yX2_farthest (jw yX2_farthest cX2_farthest 1 (some .int)) (jr 1 21) (jP [.ref (q 6)] D (fun H => va_P D.1 j_cl (cW D q u) H)) (jRi (fun z => True)) 0 0 (fun _ => False) := by
  refine Met.ofW (cc := cX2_farthest) (maxL := 1) (ret := (some .int)) (by decide) rfl ?_
  intro pr en st mi args below meth co s₁ B hml hv
  obtain ⟨rfl, hG, hP⟩ := hv
  have hr := B.returns
  have hlk := B.notSynchronized
  have SS : jS pr mi co cX2_farthest 1 st _ RX2 := ⟨B.exec, B.bytes, hml, findClass_of_methodNamed B.named, fun w hw => atoms_spec (ws := (jw yX2_farthest cX2_farthest 1 (some .int))) B.pre w (List.mem_cons_of_mem _ hw)⟩
  have hl := lv_entry ([.ref (q 6)]) (n := 1) (Nat.le_of_ble_eq_true rfl)
  rw [lg_entry_eq]
  generalize (lg_sl ([.ref (q 6)]) ++ List.replicate (1 - (lg_sl ([.ref (q 6)])).length) Slot.unset).toArray = ls at hl ⊢
  have hl : lv_has ls 1 [(0, .ref (q 6))] := hl
  refine lv_aload_n SS.1 SS.2.1 dX2_farthest_0 rfl (lv_at hl 0 rfl) ?_
  refine lv_aload_n SS.1 SS.2.1 dX2_farthest_1 rfl (lv_at hl 0 rfl) ?_
  refine j_get SS hG hP 6 (v := .int (J (u.2.2.2 22))) (C := RX2) (T := TX2) (N := 7) rfl rfl inX2 4 (by decide) (ref := "GridPolygons$Cuts") kw_344 rfl rfl dX2_farthest_2 ?_
  refine j_iconst SS dX2_farthest_5 ?_
  refine j_isub SS (x := (u.2.2.2 22)) (y := 1) dX2_farthest_6 ?_
  refine j_vRi SS (As := [.int (J ((u.2.2.2 22) - 1))]) (rest := []) (c_X2_farOf l D q u  ((u.2.2.2 22) - 1) (show -2147483648 ≤ ((u.2.2.2 22) - 1) ∧ ((u.2.2.2 22) - 1) ≤ 2147483647 from (by omega))) mf_X2_farOf kw_950 hG hP hP (ci := 2) (q0 := 6) rfl rfl rfl rfl hl.1 ⟨⟨Nat.le_of_ble_eq_true rfl, Nat.le_of_ble_eq_true rfl⟩, Nat.le_of_ble_eq_true rfl, Nat.le_refl _, Nat.le_refl _⟩ rfl dX2_farthest_7 (fun z_7 h_7 => ?_)
  have h_7 : True := h_7
  exact W.iret SS.1 SS.2.1 hr (fun t0 ht hW => ⟨_, rfl, ⟨z_7, rfl, (trivial)⟩, ht⟩) (fun _ h => nomatch h) dX2_farthest_10 hlk

set_option maxHeartbeats 4000000 in
set_option maxRecDepth 100000 in
theorem c_X2_setOf (l : Launch) (D : JD) (q : Nat → Nat) (u : CS) (i : Int) (p0 : -2147483648 ≤ i ∧ i ≤ 2147483647) : Met l yX2_setOf (jw yX2_setOf cX2_setOf 2 (some .long)) (jr 0 0) (jP [.ref (q 6), .int (J i)] D (fun H => va_P D.1 j_cl (cW D q u) H)) (vp_Sl (fun x9 => True)) 0 0 (fun _ => False) := by
  refine Met.ofW (cc := cX2_setOf) (maxL := 2) (ret := (some .long)) (by decide) rfl ?_
  intro pr en st mi args below meth co s₁ B hml hv
  obtain ⟨rfl, hG, hP⟩ := hv
  have hr := B.returns
  have hlk := B.notSynchronized
  have SS : jS pr mi co cX2_setOf 2 st _ RX2 := ⟨B.exec, B.bytes, hml, findClass_of_methodNamed B.named, fun w hw => atoms_spec (ws := (jw yX2_setOf cX2_setOf 2 (some .long))) B.pre w (List.mem_cons_of_mem _ hw)⟩
  have hl := lv_entry ([.ref (q 6), .int (J i)]) (n := 2) (Nat.le_of_ble_eq_true rfl)
  rw [lg_entry_eq]
  generalize (lg_sl ([.ref (q 6), .int (J i)]) ++ List.replicate (2 - (lg_sl ([.ref (q 6), .int (J i)])).length) Slot.unset).toArray = ls at hl ⊢
  have hl : lv_has ls 2 [(0, .ref (q 6)), (1, .int (J i))] := hl
  refine lv_iload_n SS.1 SS.2.1 dX2_setOf_0 rfl (lv_at hl 1 rfl) ?_
  refine j_if_lt SS (tgt := 22) (x := i) dX2_setOf_1 (by decide) (by omega) (fun c_1 => ?_) (fun c_1 => ?_)
  · skip
    refine lv_lconst (v := 0) SS.1 SS.2.1 dX2_setOf_22 (by decide +kernel) ?_
    exact W.lret SS.1 SS.2.1 hr (fun t0 ht hW => ⟨_, rfl, (trivial), ht⟩) (fun _ h => nomatch h) dX2_setOf_23 hlk
  · skip
    refine lv_iload_n SS.1 SS.2.1 dX2_setOf_4 rfl (lv_at hl 1 rfl) ?_
    refine lv_aload_n SS.1 SS.2.1 dX2_setOf_5 rfl (lv_at hl 0 rfl) ?_
    refine j_get SS hG hP 6 (v := .ref (q 69)) (C := RX2) (T := TX2) (N := 7) rfl rfl inX2 1 (by decide) (ref := "GridPolygons$Cuts") kw_341 rfl rfl dX2_setOf_6 ?_
    refine va_alen SS.1 SS.2.1 hG.1 hP 69 1 rfl rfl (v := J (1500 : Int)) (by first | rfl | exact J_nat _) dX2_setOf_9 ?_
    refine j_icmp_ge SS (tgt := 22) (x := i) (y := 1500) dX2_setOf_10 (by decide) (by omega) (by decide) (fun c_10 => ?_) (fun c_10 => ?_)
    · skip
      refine lv_lconst (v := 0) SS.1 SS.2.1 dX2_setOf_22 (by decide +kernel) ?_
      exact W.lret SS.1 SS.2.1 hr (fun t0 ht hW => ⟨_, rfl, (trivial), ht⟩) (fun _ h => nomatch h) dX2_setOf_23 hlk
    · skip
      refine lv_aload_n SS.1 SS.2.1 dX2_setOf_13 rfl (lv_at hl 0 rfl) ?_
      refine j_get SS hG hP 6 (v := .ref (q 69)) (C := RX2) (T := TX2) (N := 7) rfl rfl inX2 1 (by decide) (ref := "GridPolygons$Cuts") kw_341 rfl rfl dX2_setOf_14 ?_
      refine lv_iload_n SS.1 SS.2.1 dX2_setOf_17 rfl (lv_at hl 1 rfl) ?_
      refine j_lald SS hG hP 69 (n := 1500) (f := (u.2.2.1 2)) rfl (z := i) (by omega) (by omega) dX2_setOf_18 ?_
      refine lv_goto (tgt := 23) SS.1 SS.2.1 dX2_setOf_19 (by decide) ?_
      exact W.lret SS.1 SS.2.1 hr (fun t0 ht hW => ⟨_, rfl, (trivial), ht⟩) (fun _ h => nomatch h) dX2_setOf_23 hlk

set_option maxHeartbeats 4000000 in
set_option maxRecDepth 100000 in
theorem c_X2_flipsOf (l : Launch) (D : JD) (q : Nat → Nat) (u : CS) (i : Int) (p0 : -2147483648 ≤ i ∧ i ≤ 2147483647) (p1 : 0 ≤ u.2.2.2 21 ∧ u.2.2.2 21 ≤ 756) : Met l yX2_flipsOf (jw yX2_flipsOf cX2_flipsOf 4 (some .int)) (jr 1 23) (jP [.ref (q 6), .int (J i)] D (fun H => va_P D.1 j_cl (cW D q u) H)) (jRi (fun z => 0 ≤ z ∧ z ≤ 756)) 0 0 (fun _ => False) := by
  refine Met.ofW (cc := cX2_flipsOf) (maxL := 4) (ret := (some .int)) (by decide) rfl ?_
  intro pr en st mi args below meth co s₁ B hml hv
  obtain ⟨rfl, hG, hP⟩ := hv
  have hr := B.returns
  have hlk := B.notSynchronized
  have SS : jS pr mi co cX2_flipsOf 4 st _ RX2 := ⟨B.exec, B.bytes, hml, findClass_of_methodNamed B.named, fun w hw => atoms_spec (ws := (jw yX2_flipsOf cX2_flipsOf 4 (some .int))) B.pre w (List.mem_cons_of_mem _ hw)⟩
  have hl := lv_entry ([.ref (q 6), .int (J i)]) (n := 4) (Nat.le_of_ble_eq_true rfl)
  rw [lg_entry_eq]
  generalize (lg_sl ([.ref (q 6), .int (J i)]) ++ List.replicate (4 - (lg_sl ([.ref (q 6), .int (J i)])).length) Slot.unset).toArray = ls at hl ⊢
  have hl : lv_has ls 4 [(0, .ref (q 6)), (1, .int (J i))] := hl
  refine j_iconst SS dX2_flipsOf_0 ?_
  refine lv_istore_n (lv' := [(2, .int (J 0)), (0, .ref (q 6)), (1, .int (J i))]) SS.1 SS.2.1 dX2_flipsOf_1 rfl hl (by decide) rfl (fun ls hl => ?_)
  refine j_iconst SS dX2_flipsOf_2 ?_
  refine lv_istore_n (lv' := [(3, .int (J 0)), (2, .int (J 0)), (0, .ref (q 6)), (1, .int (J i))]) SS.1 SS.2.1 dX2_flipsOf_3 rfl hl (by decide) rfl (fun ls hl => ?_)
  have L_4 : ∀ (nn : Nat) (fd : Int) (s : Int) (ls : Array Slot) (hl : lv_has ls 4 [(0, .ref (q 6)), (1, .int (J i)), (2, .int (J fd)), (3, .int (J s))]) (i4_0 : 0 ≤ s ∧ s ≤ u.2.2.2 21) (i4_1 : 0 ≤ fd ∧ fd ≤ s), ((756 : Int) - s).toNat < nn → W pr l en (headSpec (jw yX2_flipsOf cX2_flipsOf 4 (some .int)) (jr 1 23)).room st mi (([.ref (q 6), .int (J i)] : List Value).toArray) below meth co st.heap [] 0 0 (MQ below (jRi (fun z => 0 ≤ z ∧ z ≤ 756)) (([.ref (q 6), .int (J i)] : List Value).toArray) st 0 0 (fun _ => False)) (F0 mi 4 ls []) := by
    intro nn
    induction nn with
    | zero => intros; omega
    | succ nn ih_4 =>
      intro fd s ls hl i4_0 i4_1 hm
      refine lv_iload_n SS.1 SS.2.1 dX2_flipsOf_4 rfl (lv_at hl 3 rfl) ?_
      refine lv_aload_n SS.1 SS.2.1 dX2_flipsOf_5 rfl (lv_at hl 0 rfl) ?_
      refine j_get SS hG hP 6 (v := .ref (q 66)) (C := RX2) (T := TX2) (N := 7) rfl rfl inX2 0 (by decide) (ref := "GridPolygons$Cuts") kw_340 rfl rfl dX2_flipsOf_6 ?_
      refine j_get SS hG hP 66 (v := .int (J (u.2.2.2 21))) (C := RX5) (T := TX5) (N := 9) rfl rfl inX5 8 (by decide) (ref := "GridPolygons$Mesh") kw_320 rfl rfl dX2_flipsOf_9 ?_
      refine j_icmp_ge SS (tgt := 42) (x := s) (y := (u.2.2.2 21)) dX2_flipsOf_12 (by decide) (by omega) (by omega) (fun c_12 => ?_) (fun c_12 => ?_)
      · skip
        refine lv_iload_n SS.1 SS.2.1 dX2_flipsOf_42 rfl (lv_at hl 2 rfl) ?_
        exact W.iret SS.1 SS.2.1 hr (fun t0 ht hW => ⟨_, rfl, ⟨fd, rfl, (by omega)⟩, ht⟩) (fun _ h => nomatch h) dX2_flipsOf_43 hlk
      · skip
        refine lv_aload_n SS.1 SS.2.1 dX2_flipsOf_15 rfl (lv_at hl 0 rfl) ?_
        refine j_get SS hG hP 6 (v := .ref (q 66)) (C := RX2) (T := TX2) (N := 7) rfl rfl inX2 0 (by decide) (ref := "GridPolygons$Cuts") kw_340 rfl rfl dX2_flipsOf_16 ?_
        refine lv_aload_n SS.1 SS.2.1 dX2_flipsOf_19 rfl (lv_at hl 0 rfl) ?_
        refine lv_iload_n SS.1 SS.2.1 dX2_flipsOf_20 rfl (lv_at hl 1 rfl) ?_
        refine j_vRl SS (As := [.int (J i)]) (rest := [.ref (q 66)]) (c_X2_setOf l D q u  i (show -2147483648 ≤ i ∧ i ≤ 2147483647 from (p0))) mf_X2_setOf kw_942 hG hP hP (ci := 2) (q0 := 6) rfl rfl rfl rfl hl.1 ⟨⟨Nat.le_of_ble_eq_true rfl, Nat.le_of_ble_eq_true rfl⟩, Nat.le_of_ble_eq_true rfl, Nat.le_refl _, Nat.le_refl _⟩ rfl dX2_flipsOf_21 (fun x_21 h_21 => ?_)
        refine lv_iload_n SS.1 SS.2.1 dX2_flipsOf_24 rfl (lv_at hl 3 rfl) ?_
        refine j_vRl SS (As := [.long x_21, .int (J s)]) (rest := []) (c_X5_flipped l D q u  x_21 s (show -2147483648 ≤ s ∧ s ≤ 2147483647 from (by omega))) mf_X5_flipped kw_946 hG hP hP (ci := 5) (q0 := 66) rfl rfl rfl rfl hl.1 ⟨⟨Nat.le_of_ble_eq_true rfl, Nat.le_of_ble_eq_true rfl⟩, Nat.le_of_ble_eq_true rfl, Nat.le_refl _, Nat.le_refl _⟩ rfl dX2_flipsOf_25 (fun x_25 h_25 => ?_)
        refine lv_lconst (v := 0) SS.1 SS.2.1 dX2_flipsOf_28 (by decide +kernel) ?_
        refine j_lcmp SS dX2_flipsOf_29 (fun z_29 hz_29 => ?_)
        refine j_if_eq SS (tgt := 36) (x := z_29) dX2_flipsOf_30 (by decide) (by omega) (fun c_30 => ?_) (fun c_30 => ?_)
        · skip
          refine lv_iinc (v := J (s + 1)) (lv' := [(3, .int (J (s + 1))), (0, .ref (q 6)), (1, .int (J i)), (2, .int (J fd))]) SS.1 SS.2.1 dX2_flipsOf_36 hl (k := 3) rfl (J_add _ _) (by decide) rfl (fun ls hl => ?_)
          refine lv_goto (tgt := 4) SS.1 SS.2.1 dX2_flipsOf_39 (by decide) ?_
          exact ih_4 fd (s + 1) ls (lv_sub hl [1, 2, 3, 0] rfl) (by omega) (by omega) (by omega)
        · skip
          refine lv_iinc (v := J (fd + 1)) (lv' := [(2, .int (J (fd + 1))), (0, .ref (q 6)), (1, .int (J i)), (3, .int (J s))]) SS.1 SS.2.1 dX2_flipsOf_33 hl (k := 2) rfl (J_add _ _) (by decide) rfl (fun ls hl => ?_)
          refine lv_iinc (v := J (s + 1)) (lv' := [(3, .int (J (s + 1))), (2, .int (J (fd + 1))), (0, .ref (q 6)), (1, .int (J i))]) SS.1 SS.2.1 dX2_flipsOf_36 hl (k := 3) rfl (J_add _ _) (by decide) rfl (fun ls hl => ?_)
          refine lv_goto (tgt := 4) SS.1 SS.2.1 dX2_flipsOf_39 (by decide) ?_
          exact ih_4 (fd + 1) (s + 1) ls (lv_sub hl [2, 3, 1, 0] rfl) (by omega) (by omega) (by omega)
  exact L_4 (((756 : Int) - (0 : Int)).toNat + 1) 0 0 ls (lv_sub hl [2, 3, 1, 0] rfl) (by omega) (by omega) (Nat.lt_succ_self _)

set_option maxHeartbeats 4000000 in
set_option maxRecDepth 100000 in
theorem c_X2_segmentAt (l : Launch) (D : JD) (q : Nat → Nat) (u : CS) (i : Int) (w : Int) (p0 : -2147483648 ≤ i ∧ i ≤ 2147483647) (p1 : 0 ≤ w ∧ w ≤ 2147483647) (p2 : 0 ≤ u.2.2.2 20 ∧ u.2.2.2 20 ≤ 63) : Met l yX2_segmentAt (jw yX2_segmentAt cX2_segmentAt 5 (some .int)) (jr 1 21) (jP [.ref (q 6), .int (J i), .int (J w)] D (fun H => va_P D.1 j_cl (cW D q u) H)) (jRi (fun z => True)) 0 0 (fun _ => False) := by
  refine Met.ofW (cc := cX2_segmentAt) (maxL := 5) (ret := (some .int)) (by decide) rfl ?_
  intro pr en st mi args below meth co s₁ B hml hv
  obtain ⟨rfl, hG, hP⟩ := hv
  have hr := B.returns
  have hlk := B.notSynchronized
  have SS : jS pr mi co cX2_segmentAt 5 st _ RX2 := ⟨B.exec, B.bytes, hml, findClass_of_methodNamed B.named, fun w hw => atoms_spec (ws := (jw yX2_segmentAt cX2_segmentAt 5 (some .int))) B.pre w (List.mem_cons_of_mem _ hw)⟩
  have hl := lv_entry ([.ref (q 6), .int (J i), .int (J w)]) (n := 5) (Nat.le_of_ble_eq_true rfl)
  rw [lg_entry_eq]
  generalize (lg_sl ([.ref (q 6), .int (J i), .int (J w)]) ++ List.replicate (5 - (lg_sl ([.ref (q 6), .int (J i), .int (J w)])).length) Slot.unset).toArray = ls at hl ⊢
  have hl : lv_has ls 5 [(0, .ref (q 6)), (1, .int (J i)), (2, .int (J w))] := hl
  refine lv_iload_n SS.1 SS.2.1 dX2_segmentAt_0 rfl (lv_at hl 2 rfl) ?_
  refine lv_istore_n (lv' := [(3, .int (J w)), (0, .ref (q 6)), (1, .int (J i)), (2, .int (J w))]) SS.1 SS.2.1 dX2_segmentAt_1 rfl hl (by decide) rfl (fun ls hl => ?_)
  refine j_iconst SS dX2_segmentAt_2 ?_
  refine lv_istore (lv' := [(4, .int (J 0)), (3, .int (J w)), (0, .ref (q 6)), (1, .int (J i)), (2, .int (J w))]) SS.1 SS.2.1 dX2_segmentAt_3 hl (by decide) rfl (fun ls hl => ?_)
  have L_5 : ∀ (nn : Nat) (lf : Int) (s : Int) (ls : Array Slot) (hl : lv_has ls 5 [(0, .ref (q 6)), (1, .int (J i)), (2, .int (J w)), (3, .int (J lf)), (4, .int (J s))]) (i5_0 : 0 ≤ s ∧ s ≤ 63) (i5_1 : 0 ≤ lf ∧ lf ≤ 2147483647), ((63 : Int) - s).toNat < nn → W pr l en (headSpec (jw yX2_segmentAt cX2_segmentAt 5 (some .int)) (jr 1 21)).room st mi (([.ref (q 6), .int (J i), .int (J w)] : List Value).toArray) below meth co st.heap [] 0 0 (MQ below (jRi (fun z => True)) (([.ref (q 6), .int (J i), .int (J w)] : List Value).toArray) st 0 0 (fun _ => False)) (F0 mi 5 ls []) := by
    intro nn
    induction nn with
    | zero => intros; omega
    | succ nn ih_5 =>
      intro lf s ls hl i5_0 i5_1 hm
      refine lv_iload SS.1 SS.2.1 dX2_segmentAt_5 (lv_at hl 4 rfl) ?_
      refine lv_aload_n SS.1 SS.2.1 dX2_segmentAt_7 rfl (lv_at hl 0 rfl) ?_
      refine j_get SS hG hP 6 (v := .ref (q 66)) (C := RX2) (T := TX2) (N := 7) rfl rfl inX2 0 (by decide) (ref := "GridPolygons$Cuts") kw_340 rfl rfl dX2_segmentAt_8 ?_
      refine j_get SS hG hP 66 (v := .int (J (u.2.2.2 20))) (C := RX5) (T := TX5) (N := 9) rfl rfl inX5 5 (by decide) (ref := "GridPolygons$Mesh") kw_316 rfl rfl dX2_segmentAt_11 ?_
      refine j_icmp_ge SS (tgt := 55) (x := s) (y := (u.2.2.2 20)) dX2_segmentAt_14 (by decide) (by omega) (by omega) (fun c_14 => ?_) (fun c_14 => ?_)
      · skip
        refine j_iconst SS dX2_segmentAt_55 ?_
        exact W.iret SS.1 SS.2.1 hr (fun t0 ht hW => ⟨_, rfl, ⟨(-1), rfl, (trivial)⟩, ht⟩) (fun _ h => nomatch h) dX2_segmentAt_56 hlk
      · skip
        refine lv_aload_n SS.1 SS.2.1 dX2_segmentAt_17 rfl (lv_at hl 0 rfl) ?_
        refine lv_iload_n SS.1 SS.2.1 dX2_segmentAt_18 rfl (lv_at hl 1 rfl) ?_
        refine j_vRl SS (As := [.int (J i)]) (rest := []) (c_X2_setOf l D q u  i (show -2147483648 ≤ i ∧ i ≤ 2147483647 from (p0))) mf_X2_setOf kw_942 hG hP hP (ci := 2) (q0 := 6) rfl rfl rfl rfl hl.1 ⟨⟨Nat.le_of_ble_eq_true rfl, Nat.le_of_ble_eq_true rfl⟩, Nat.le_of_ble_eq_true rfl, Nat.le_refl _, Nat.le_refl _⟩ rfl dX2_segmentAt_19 (fun x_19 h_19 => ?_)
        refine lv_iload SS.1 SS.2.1 dX2_segmentAt_22 (lv_at hl 4 rfl) ?_
        refine lv_lushr SS.1 SS.2.1 dX2_segmentAt_24 rfl (lv_topl (fun x_24 ex_24 => ?_))
        refine lv_lconst (v := 1) SS.1 SS.2.1 dX2_segmentAt_25 (by decide +kernel) ?_
        refine lv_land SS.1 SS.2.1 dX2_segmentAt_26 ?_
        refine lv_lconst (v := 1) SS.1 SS.2.1 dX2_segmentAt_27 (by decide +kernel) ?_
        refine j_lcmp SS dX2_segmentAt_28 (fun z_28 hz_28 => ?_)
        refine j_if_ne SS (tgt := 49) (x := z_28) dX2_segmentAt_29 (by decide) (by omega) (fun c_29 => ?_) (fun c_29 => ?_)
        · skip
          refine lv_iinc (v := J (s + 1)) (lv' := [(4, .int (J (s + 1))), (0, .ref (q 6)), (1, .int (J i)), (2, .int (J w)), (3, .int (J lf))]) SS.1 SS.2.1 dX2_segmentAt_49 hl (k := 4) rfl (J_add _ _) (by decide) rfl (fun ls hl => ?_)
          refine lv_goto (tgt := 5) SS.1 SS.2.1 dX2_segmentAt_52 (by decide) ?_
          exact ih_5 lf (s + 1) ls (lv_sub hl [1, 2, 3, 4, 0] rfl) (by omega) (by omega) (by omega)
        · skip
          refine lv_iload_n SS.1 SS.2.1 dX2_segmentAt_32 rfl (lv_at hl 3 rfl) ?_
          refine j_if_ne SS (tgt := 46) (x := lf) dX2_segmentAt_33 (by decide) (by omega) (fun c_33 => ?_) (fun c_33 => ?_)
          · skip
            refine lv_iinc (v := J (lf + (-1))) (lv' := [(3, .int (J (lf + (-1)))), (0, .ref (q 6)), (1, .int (J i)), (2, .int (J w)), (4, .int (J s))]) SS.1 SS.2.1 dX2_segmentAt_46 hl (k := 3) rfl (J_add _ _) (by decide) rfl (fun ls hl => ?_)
            refine lv_iinc (v := J (s + 1)) (lv' := [(4, .int (J (s + 1))), (3, .int (J (lf + (-1)))), (0, .ref (q 6)), (1, .int (J i)), (2, .int (J w))]) SS.1 SS.2.1 dX2_segmentAt_49 hl (k := 4) rfl (J_add _ _) (by decide) rfl (fun ls hl => ?_)
            refine lv_goto (tgt := 5) SS.1 SS.2.1 dX2_segmentAt_52 (by decide) ?_
            exact ih_5 (lf + (-1)) (s + 1) ls (lv_sub hl [2, 3, 4, 1, 0] rfl) (by omega) (by omega) (by omega)
          · skip
            refine lv_aload_n SS.1 SS.2.1 dX2_segmentAt_36 rfl (lv_at hl 0 rfl) ?_
            refine j_get SS hG hP 6 (v := .ref (q 66)) (C := RX2) (T := TX2) (N := 7) rfl rfl inX2 0 (by decide) (ref := "GridPolygons$Cuts") kw_340 rfl rfl dX2_segmentAt_37 ?_
            refine lv_iload SS.1 SS.2.1 dX2_segmentAt_40 (lv_at hl 4 rfl) ?_
            refine j_vRi SS (As := [.int (J s)]) (rest := []) (c_X5_told l D q u  s (show -2147483648 ≤ s ∧ s ≤ 2147483647 from (by omega))) mf_X5_told kw_967 hG hP hP (ci := 5) (q0 := 66) rfl rfl rfl rfl hl.1 ⟨⟨Nat.le_of_ble_eq_true rfl, Nat.le_of_ble_eq_true rfl⟩, Nat.le_of_ble_eq_true rfl, Nat.le_refl _, Nat.le_refl _⟩ rfl dX2_segmentAt_42 (fun z_42 h_42 => ?_)
            have h_42 : True := h_42
            exact W.iret SS.1 SS.2.1 hr (fun t0 ht hW => ⟨_, rfl, ⟨z_42, rfl, (trivial)⟩, ht⟩) (fun _ h => nomatch h) dX2_segmentAt_45 hlk
  exact L_5 (((63 : Int) - (0 : Int)).toNat + 1) w 0 ls (lv_sub hl [2, 3, 4, 1, 0] rfl) (by omega) (by omega) (Nat.lt_succ_self _)
