
set_option maxHeartbeats 4000000 in
set_option maxRecDepth 100000 in
theorem c_X1_memberOf3 (l : Launch) (D : JD) (q : Nat → Nat) (u : CS) (pc9 : Int) (w9 : Int) (p0 : RB 40 u 10) (p1 : 0 ≤ pc9 ∧ pc9 < 80) (p2 : 0 ≤ w9 ∧ w9 ≤ 2147483647) : Met l yX1_memberOf (jw yX1_memberOf cX1_memberOf 5 (some .int)) (jr 1 21) (jP [.ref (q 7), .int (J pc9), .int (J w9)] D (fun H => va_P D.1 j_cl (cW D q u) H)) (jRi (fun z => (-1 ≤ z ∧ z ≤ 39) ∧ MB9 (u.2.2.1 6 pc9.toNat) (u.1.2.2.1 10) w9 z)) 0 0 (fun _ => False) := by
  refine Met.ofW (cc := cX1_memberOf) (maxL := 5) (ret := (some .int)) (by decide) rfl ?_
  intro pr en st mi args below meth co s₁ B hml hv
  obtain ⟨rfl, hG, hP⟩ := hv
  have hr := B.returns
  have hlk := B.notSynchronized
  have SS : jS pr mi co cX1_memberOf 5 st _ RX1 := ⟨B.exec, B.bytes, hml, findClass_of_methodNamed B.named, fun w hw => atoms_spec (ws := (jw yX1_memberOf cX1_memberOf 5 (some .int))) B.pre w (List.mem_cons_of_mem _ hw)⟩
  have hl := lv_entry ([.ref (q 7), .int (J pc9), .int (J w9)]) (n := 5) (Nat.le_of_ble_eq_true rfl)
  rw [lg_entry_eq]
  generalize (lg_sl ([.ref (q 7), .int (J pc9), .int (J w9)]) ++ List.replicate (5 - (lg_sl ([.ref (q 7), .int (J pc9), .int (J w9)])).length) Slot.unset).toArray = ls at hl ⊢
  have hl : lv_has ls 5 [(0, .ref (q 7)), (1, .int (J pc9)), (2, .int (J w9))] := hl
  have hc := p0.1
  have hrk : (rl 10 : Int) = 40 := rfl
  refine lv_iload_n SS.1 SS.2.1 dX1_memberOf_0 rfl (lv_at hl 2 rfl) ?_
  refine lv_istore_n (lv' := [(3, .int (J w9)), (0, .ref (q 7)), (1, .int (J pc9)), (2, .int (J w9))]) SS.1 SS.2.1 dX1_memberOf_1 rfl hl (by decide) rfl (fun ls hl => ?_)
  refine j_iconst SS dX1_memberOf_2 ?_
  refine lv_istore (lv' := [(4, .int (J 0)), (3, .int (J w9)), (0, .ref (q 7)), (1, .int (J pc9)), (2, .int (J w9))]) SS.1 SS.2.1 dX1_memberOf_3 hl (by decide) rfl (fun ls hl => ?_)
  have L_5 : ∀ (nn : Nat) (lf : Int) (k : Int) (ls : Array Slot) (hl : lv_has ls 5 [(0, .ref (q 7)), (1, .int (J pc9)), (2, .int (J w9)), (3, .int (J lf)), (4, .int (J k))]) (i5_0 : 0 ≤ lf ∧ lf ≤ 2147483647) (i5_1 : 0 ≤ k ∧ k ≤ u.1.2.2.1 10) (i5_2 : lf = w9 - ct9 (cs9 (u.2.2.1 6 pc9.toNat)) k.toNat), ((40 : Int) - k).toNat < nn → W pr l en (headSpec (jw yX1_memberOf cX1_memberOf 5 (some .int)) (jr 1 21)).room st mi (([.ref (q 7), .int (J pc9), .int (J w9)] : List Value).toArray) below meth co st.heap [] 0 0 (MQ below (jRi (fun z => (-1 ≤ z ∧ z ≤ 39) ∧ MB9 (u.2.2.1 6 pc9.toNat) (u.1.2.2.1 10) w9 z)) (([.ref (q 7), .int (J pc9), .int (J w9)] : List Value).toArray) st 0 0 (fun _ => False)) (F0 mi 5 ls []) := by
    intro nn
    induction nn with
    | zero => intros; omega
    | succ nn ih_5 =>
      intro lf k ls hl i5_0 i5_1 i5_2 hm
      refine lv_iload SS.1 SS.2.1 dX1_memberOf_5 (lv_at hl 4 rfl) ?_
      refine lv_aload_n SS.1 SS.2.1 dX1_memberOf_7 rfl (lv_at hl 0 rfl) ?_
      refine j_get SS hG hP 7 (v := .ref (q (9 + 5 * 10))) (C := RX1) (T := TX1) (N := 4) rfl rfl inX1 0 (by decide) (ref := "GridPolygons$Coarse") kw_371 rfl rfl dX1_memberOf_8 ?_
      refine j_getS SS hG hP (9 + 5 * 10) (v := .int (J (u.1.2.2.1 10))) (C := RX6) (T := TX6) (N := 3) (cw_pts (by omega)) rfl inX6 2 (by decide) (ref := "GridPolygons$Points") kw_138 kw_134 rfl dX1_memberOf_11 ?_
      refine j_icmp_ge SS (tgt := 49) (x := k) (y := (u.1.2.2.1 10)) dX1_memberOf_14 (by decide) (by omega) (by omega) (fun c_14 => ?_) (fun c_14 => ?_)
      · skip
        refine j_iconst SS dX1_memberOf_49 ?_
        exact W.iret SS.1 SS.2.1 hr (fun t0 ht hW => ⟨_, rfl, ⟨(-1), rfl, (⟨by omega, Or.inl ⟨rfl, by rw [show u.1.2.2.1 10 = k by omega]; omega⟩⟩)⟩, ht⟩) (fun _ h => nomatch h) dX1_memberOf_50 hlk
      · skip
        refine lv_aload_n SS.1 SS.2.1 dX1_memberOf_17 rfl (lv_at hl 0 rfl) ?_
        refine lv_iload_n SS.1 SS.2.1 dX1_memberOf_18 rfl (lv_at hl 1 rfl) ?_
        refine j_vRl SS (As := [.int (J pc9)]) (rest := []) (c_X1_setOf3 l D q u  pc9 (show -2147483648 ≤ pc9 ∧ pc9 ≤ 2147483647 from (by omega))) mf_X1_setOf kw_1018 hG hP hP (ci := 1) (q0 := 7) rfl rfl rfl rfl hl.1 ⟨⟨Nat.le_of_ble_eq_true rfl, Nat.le_of_ble_eq_true rfl⟩, Nat.le_of_ble_eq_true rfl, Nat.le_refl _, Nat.le_refl _⟩ rfl dX1_memberOf_19 (fun x_19 h_19 => ?_)
        have e19 := h_19 (by omega) (by omega)
        refine lv_iload SS.1 SS.2.1 dX1_memberOf_22 (lv_at hl 4 rfl) ?_
        refine j_sRl SS (As := [.int (J k)]) (rest := [.long x_19]) (c_X1_bit3 l D  k ) mf_X1_bit kw_1007 hG trivial rfl hl.1 ⟨⟨Nat.le_of_ble_eq_true rfl, Nat.le_of_ble_eq_true rfl⟩, Nat.le_of_ble_eq_true rfl, Nat.le_refl _, Nat.le_refl _⟩ rfl dX1_memberOf_24 (fun x_24 h_24 => ?_)
        have h_24 : x_24 = (1 : Int64) <<< ((J (62 - k)).toInt64 &&& 63) := h_24
        refine lv_land SS.1 SS.2.1 dX1_memberOf_27 ?_
        refine lv_lconst (v := 0) SS.1 SS.2.1 dX1_memberOf_28 (by decide +kernel) ?_
        refine j_lcmp SS dX1_memberOf_29 (fun z_29 hz_29 => ?_)
        have hb : z_29 = 0 ↔ ¬ cs9 (u.2.2.1 6 pc9.toNat) k.toNat = true := by rw [hz_29.2.2.2, e19, h_24]; exact and_cs (by omega)
        refine j_if_eq SS (tgt := 43) (x := z_29) dX1_memberOf_30 (by decide) (by omega) (fun c_30 => ?_) (fun c_30 => ?_)
        · skip
          refine lv_iinc (v := J (k + 1)) (lv' := [(4, .int (J (k + 1))), (0, .ref (q 7)), (1, .int (J pc9)), (2, .int (J w9)), (3, .int (J lf))]) SS.1 SS.2.1 dX1_memberOf_43 hl (k := 4) rfl (J_add _ _) (by decide) rfl (fun ls hl => ?_)
          refine lv_goto (tgt := 5) SS.1 SS.2.1 dX1_memberOf_46 (by decide) ?_
          exact ih_5 lf (k + 1) ls (lv_sub hl [1, 2, 3, 4, 0] rfl) (by omega) (by omega) (by rw [ct9_p (by omega)]; first | (rw [if_neg (hb.mp (by omega))]; omega) | (rw [if_pos (Classical.byContradiction (fun q => by have := hb.mpr q; omega))]; omega)) (by omega)
        · skip
          refine lv_iload_n SS.1 SS.2.1 dX1_memberOf_33 rfl (lv_at hl 3 rfl) ?_
          refine j_if_ne SS (tgt := 40) (x := lf) dX1_memberOf_34 (by decide) (by omega) (fun c_34 => ?_) (fun c_34 => ?_)
          · skip
            refine lv_iinc (v := J (lf + (-1))) (lv' := [(3, .int (J (lf + (-1)))), (0, .ref (q 7)), (1, .int (J pc9)), (2, .int (J w9)), (4, .int (J k))]) SS.1 SS.2.1 dX1_memberOf_40 hl (k := 3) rfl (J_add _ _) (by decide) rfl (fun ls hl => ?_)
            refine lv_iinc (v := J (k + 1)) (lv' := [(4, .int (J (k + 1))), (3, .int (J (lf + (-1)))), (0, .ref (q 7)), (1, .int (J pc9)), (2, .int (J w9))]) SS.1 SS.2.1 dX1_memberOf_43 hl (k := 4) rfl (J_add _ _) (by decide) rfl (fun ls hl => ?_)
            refine lv_goto (tgt := 5) SS.1 SS.2.1 dX1_memberOf_46 (by decide) ?_
            exact ih_5 (lf + (-1)) (k + 1) ls (lv_sub hl [2, 3, 4, 1, 0] rfl) (by omega) (by omega) (by rw [ct9_p (by omega)]; first | (rw [if_neg (hb.mp (by omega))]; omega) | (rw [if_pos (Classical.byContradiction (fun q => by have := hb.mpr q; omega))]; omega)) (by omega)
          · skip
            refine lv_iload SS.1 SS.2.1 dX1_memberOf_37 (lv_at hl 4 rfl) ?_
            exact W.iret SS.1 SS.2.1 hr (fun t0 ht hW => ⟨_, rfl, ⟨k, rfl, (⟨by omega, Or.inr ⟨by omega, Classical.byContradiction (fun q => by have := hb.mpr q; omega), by omega⟩⟩)⟩, ht⟩) (fun _ h => nomatch h) dX1_memberOf_39 hlk
  exact L_5 (((40 : Int) - (0 : Int)).toNat + 1) w9 0 ls (lv_sub hl [2, 3, 4, 1, 0] rfl) (by omega) (by omega) (by have e : ct9 (cs9 (u.2.2.1 6 pc9.toNat)) (Int.toNat 0) = 0 := rfl; omega) (Nat.lt_succ_self _)

set_option maxHeartbeats 4000000 in
set_option maxRecDepth 100000 in
theorem c_X1_seen3 (l : Launch) (D : JD) (q : Nat → Nat) (u : CS) (p0 : 0 ≤ u.2.2.2 25 ∧ u.2.2.2 25 ≤ 80) : Met l yX1_seen (jw yX1_seen cX1_seen 4 (some .int)) (jr 1 21) (jP [.ref (q 7)] D (fun H => va_P D.1 j_cl (cW D q u) H)) (jRi (fun z => (0 ≤ z ∧ z ≤ 64) ∧ z = ((pc9 (nx9 (or9 (u.2.2.1 6) (u.2.2.2 25).toNat)) : Nat) : Int))) 0 0 (fun _ => False) := by
  refine Met.ofW (cc := cX1_seen) (maxL := 4) (ret := (some .int)) (by decide) rfl ?_
  intro pr en st mi args below meth co s₁ B hml hv
  obtain ⟨rfl, hG, hP⟩ := hv
  have hr := B.returns
  have hlk := B.notSynchronized
  have SS : jS pr mi co cX1_seen 4 st _ RX1 := ⟨B.exec, B.bytes, hml, findClass_of_methodNamed B.named, fun w hw => atoms_spec (ws := (jw yX1_seen cX1_seen 4 (some .int))) B.pre w (List.mem_cons_of_mem _ hw)⟩
  have hl := lv_entry ([.ref (q 7)]) (n := 4) (Nat.le_of_ble_eq_true rfl)
  rw [lg_entry_eq]
  generalize (lg_sl ([.ref (q 7)]) ++ List.replicate (4 - (lg_sl ([.ref (q 7)])).length) Slot.unset).toArray = ls at hl ⊢
  have hl : lv_has ls 4 [(0, .ref (q 7))] := hl
  refine lv_lconst (v := 0) SS.1 SS.2.1 dX1_seen_0 (by decide +kernel) ?_
  refine lv_lstore_n (lv' := [(1, .long 0), (0, .ref (q 7))]) SS.1 SS.2.1 dX1_seen_1 rfl hl (by decide) rfl (fun ls hl => ?_)
  refine j_iconst SS dX1_seen_2 ?_
  refine lv_istore_n (lv' := [(3, .int (J 0)), (1, .long 0), (0, .ref (q 7))]) SS.1 SS.2.1 dX1_seen_3 rfl hl (by decide) rfl (fun ls hl => ?_)
  have L_4 : ∀ (nn : Nat) (al : Int64) (k : Int) (ls : Array Slot) (hl : lv_has ls 4 [(0, .ref (q 7)), (1, .long al), (3, .int (J k))]) (i4_0 : 0 ≤ k ∧ k ≤ u.2.2.2 25) (i4_1 : al = or9 (u.2.2.1 6) k.toNat), ((80 : Int) - k).toNat < nn → W pr l en (headSpec (jw yX1_seen cX1_seen 4 (some .int)) (jr 1 21)).room st mi (([.ref (q 7)] : List Value).toArray) below meth co st.heap [] 0 0 (MQ below (jRi (fun z => (0 ≤ z ∧ z ≤ 64) ∧ z = ((pc9 (nx9 (or9 (u.2.2.1 6) (u.2.2.2 25).toNat)) : Nat) : Int))) (([.ref (q 7)] : List Value).toArray) st 0 0 (fun _ => False)) (F0 mi 4 ls []) := by
    intro nn
    induction nn with
    | zero => intros; omega
    | succ nn ih_4 =>
      intro al k ls hl i4_0 i4_1 hm
      refine lv_iload_n SS.1 SS.2.1 dX1_seen_4 rfl (lv_at hl 2 rfl) ?_
      refine lv_aload_n SS.1 SS.2.1 dX1_seen_5 rfl (lv_at hl 0 rfl) ?_
      refine j_get SS hG hP 7 (v := .int (J (u.2.2.2 25))) (C := RX1) (T := TX1) (N := 4) rfl rfl inX1 2 (by decide) (ref := "GridPolygons$Coarse") kw_373 rfl rfl dX1_seen_6 ?_
      refine j_icmp_ge SS (tgt := 26) (x := k) (y := (u.2.2.2 25)) dX1_seen_9 (by decide) (by omega) (by omega) (fun c_9 => ?_) (fun c_9 => ?_)
      · skip
        refine lv_lload_n SS.1 SS.2.1 dX1_seen_26 rfl (lv_at hl 1 rfl) ?_
        refine j_sRi SS (As := [.long al]) (rest := []) (c_J13_bitCount3 l D  al ) mf_J13_bitCount_95d88 kw_1026 hG trivial rfl hl.1 ⟨⟨Nat.le_of_ble_eq_true rfl, Nat.le_of_ble_eq_true rfl⟩, Nat.le_of_ble_eq_true rfl, Nat.le_refl _, Nat.le_refl _⟩ rfl dX1_seen_27 (fun z_27 h_27 => ?_)
        have h_27 : z_27 = ((pc9 (nx9 al) : Nat) : Int) ∧ 0 ≤ z_27 ∧ z_27 ≤ 64 := h_27
        exact W.iret SS.1 SS.2.1 hr (fun t0 ht hW => ⟨_, rfl, ⟨z_27, rfl, (⟨h_27.2, by rw [show u.2.2.2 25 = k by omega, ← i4_1]; exact h_27.1⟩)⟩, ht⟩) (fun _ h => nomatch h) dX1_seen_30 hlk
      · skip
        refine lv_lload_n SS.1 SS.2.1 dX1_seen_12 rfl (lv_at hl 1 rfl) ?_
        refine lv_aload_n SS.1 SS.2.1 dX1_seen_13 rfl (lv_at hl 0 rfl) ?_
        refine lv_iload_n SS.1 SS.2.1 dX1_seen_14 rfl (lv_at hl 2 rfl) ?_
        refine j_vRl SS (As := [.int (J k)]) (rest := [.long al]) (c_X1_setOf3 l D q u  k (show -2147483648 ≤ k ∧ k ≤ 2147483647 from (by omega))) mf_X1_setOf kw_1018 hG hP hP (ci := 1) (q0 := 7) rfl rfl rfl rfl hl.1 ⟨⟨Nat.le_of_ble_eq_true rfl, Nat.le_of_ble_eq_true rfl⟩, Nat.le_of_ble_eq_true rfl, Nat.le_refl _, Nat.le_refl _⟩ rfl dX1_seen_15 (fun x_15 h_15 => ?_)
        refine lv_lor SS.1 SS.2.1 dX1_seen_18 ?_
        refine lv_lstore_n (lv' := [(1, .long (al ||| x_15)), (0, .ref (q 7)), (3, .int (J k))]) SS.1 SS.2.1 dX1_seen_19 rfl hl (by decide) rfl (fun ls hl => ?_)
        refine lv_iinc (v := J (k + 1)) (lv' := [(3, .int (J (k + 1))), (1, .long (al ||| x_15)), (0, .ref (q 7))]) SS.1 SS.2.1 dX1_seen_20 hl (k := 2) rfl (J_add _ _) (by decide) rfl (fun ls hl => ?_)
        refine lv_goto (tgt := 4) SS.1 SS.2.1 dX1_seen_23 (by decide) ?_
        exact ih_4 (al ||| x_15) (k + 1) ls (lv_sub hl [2, 1, 0] rfl) (by omega) (by rw [h_15 (by omega) (by omega)]; exact or9_p (by omega) i4_1) (by omega)
  exact L_4 (((80 : Int) - (0 : Int)).toNat + 1) 0 0 ls (lv_sub hl [2, 1, 0] rfl) (by omega) (rfl) (Nat.lt_succ_self _)

set_option maxHeartbeats 4000000 in
set_option maxRecDepth 100000 in
theorem c_X1_unitTriangles3 (l : Launch) (D : JD) (q : Nat → Nat) (u : CS) (p0 : RB 40 u 10) (p1 : 0 ≤ u.2.2.2 25 ∧ u.2.2.2 25 ≤ 80) : Met l yX1_unitTriangles (jw yX1_unitTriangles cX1_unitTriangles 3 (some .int)) (jr 2 45) (jP [.ref (q 7)] D (fun H => va_P D.1 j_cl (cW D q u) H)) (jRi (fun z => (0 ≤ z ∧ z ≤ 80) ∧ (∀ F : Nat → Nat → Bool, (∀ q : Nat, (q : Int) < u.2.2.2 25 → u.2.2.1 6 q = PR9 (F q) (u.1.2.2.1 10).toNat) → cu9 (u.1.1 10) (u.1.2.1 10) (u.1.2.2.1 10).toNat F (u.2.2.2 25).toNat z))) 0 0 (fun _ => False) := by
  refine Met.ofW (cc := cX1_unitTriangles) (maxL := 3) (ret := (some .int)) (by decide) rfl ?_
  intro pr en st mi args below meth co s₁ B hml hv
  obtain ⟨rfl, hG, hP⟩ := hv
  have hr := B.returns
  have hlk := B.notSynchronized
  have SS : jS pr mi co cX1_unitTriangles 3 st _ RX1 := ⟨B.exec, B.bytes, hml, findClass_of_methodNamed B.named, fun w hw => atoms_spec (ws := (jw yX1_unitTriangles cX1_unitTriangles 3 (some .int))) B.pre w (List.mem_cons_of_mem _ hw)⟩
  have hl := lv_entry ([.ref (q 7)]) (n := 3) (Nat.le_of_ble_eq_true rfl)
  rw [lg_entry_eq]
  generalize (lg_sl ([.ref (q 7)]) ++ List.replicate (3 - (lg_sl ([.ref (q 7)])).length) Slot.unset).toArray = ls at hl ⊢
  have hl : lv_has ls 3 [(0, .ref (q 7))] := hl
  have hc := p0.1
  have hrk : (rl 10 : Int) = 40 := rfl
  refine j_iconst SS dX1_unitTriangles_0 ?_
  refine lv_istore_n (lv' := [(1, .int (J 0)), (0, .ref (q 7))]) SS.1 SS.2.1 dX1_unitTriangles_1 rfl hl (by decide) rfl (fun ls hl => ?_)
  refine j_iconst SS dX1_unitTriangles_2 ?_
  refine lv_istore_n (lv' := [(2, .int (J 0)), (1, .int (J 0)), (0, .ref (q 7))]) SS.1 SS.2.1 dX1_unitTriangles_3 rfl hl (by decide) rfl (fun ls hl => ?_)
  have L_4 : ∀ (nn : Nat) (fd : Int) (k : Int) (ls : Array Slot) (hl : lv_has ls 3 [(0, .ref (q 7)), (1, .int (J fd)), (2, .int (J k))]) (i4_0 : 0 ≤ k ∧ k ≤ u.2.2.2 25) (i4_1 : 0 ≤ fd ∧ fd ≤ k) (i4_2 : ∀ F : Nat → Nat → Bool, (∀ q : Nat, (q : Int) < u.2.2.2 25 → u.2.2.1 6 q = PR9 (F q) (u.1.2.2.1 10).toNat) → cu9 (u.1.1 10) (u.1.2.1 10) (u.1.2.2.1 10).toNat F k.toNat fd), ((80 : Int) - k).toNat < nn → W pr l en (headSpec (jw yX1_unitTriangles cX1_unitTriangles 3 (some .int)) (jr 2 45)).room st mi (([.ref (q 7)] : List Value).toArray) below meth co st.heap [] 0 0 (MQ below (jRi (fun z => (0 ≤ z ∧ z ≤ 80) ∧ (∀ F : Nat → Nat → Bool, (∀ q : Nat, (q : Int) < u.2.2.2 25 → u.2.2.1 6 q = PR9 (F q) (u.1.2.2.1 10).toNat) → cu9 (u.1.1 10) (u.1.2.1 10) (u.1.2.2.1 10).toNat F (u.2.2.2 25).toNat z))) (([.ref (q 7)] : List Value).toArray) st 0 0 (fun _ => False)) (F0 mi 4 ls []) := by
    intro nn
    induction nn with
    | zero => intros; omega
    | succ nn ih_4 =>
      intro fd k ls hl i4_0 i4_1 i4_2 hm
      refine lv_iload_n SS.1 SS.2.1 dX1_unitTriangles_4 rfl (lv_at hl 2 rfl) ?_
      refine lv_aload_n SS.1 SS.2.1 dX1_unitTriangles_5 rfl (lv_at hl 0 rfl) ?_
      refine j_get SS hG hP 7 (v := .int (J (u.2.2.2 25))) (C := RX1) (T := TX1) (N := 4) rfl rfl inX1 2 (by decide) (ref := "GridPolygons$Coarse") kw_373 rfl rfl dX1_unitTriangles_6 ?_
      refine j_icmp_ge SS (tgt := 62) (x := k) (y := (u.2.2.2 25)) dX1_unitTriangles_9 (by decide) (by omega) (by omega) (fun c_9 => ?_) (fun c_9 => ?_)
      · skip
        refine lv_iload_n SS.1 SS.2.1 dX1_unitTriangles_62 rfl (lv_at hl 1 rfl) ?_
        exact W.iret SS.1 SS.2.1 hr (fun t0 ht hW => ⟨_, rfl, ⟨fd, rfl, (⟨by omega, fun F9 hF9 => by rw [show u.2.2.2 25 = k by omega]; exact i4_2 F9 (fun q hq => hF9 q (by omega))⟩)⟩, ht⟩) (fun _ h => nomatch h) dX1_unitTriangles_63 hlk
      · skip
        refine lv_aload_n SS.1 SS.2.1 dX1_unitTriangles_12 rfl (lv_at hl 0 rfl) ?_
        refine lv_iload_n SS.1 SS.2.1 dX1_unitTriangles_13 rfl (lv_at hl 2 rfl) ?_
        refine j_vRi SS (As := [.int (J k)]) (rest := []) (c_X1_sizeOf3 l D q u  k (show -2147483648 ≤ k ∧ k ≤ 2147483647 from (by omega))) mf_X1_sizeOf kw_1036 hG hP hP (ci := 1) (q0 := 7) rfl rfl rfl rfl hl.1 ⟨⟨Nat.le_of_ble_eq_true rfl, Nat.le_of_ble_eq_true rfl⟩, Nat.le_of_ble_eq_true rfl, Nat.le_refl _, Nat.le_refl _⟩ rfl dX1_unitTriangles_14 (fun z_14 h_14 => ?_)
        have h_14 : (0 ≤ z_14 ∧ z_14 ≤ 64) ∧ (0 ≤ k → k < 80 → z_14 = ((pc9 (nx9 ((u.2.2.1 6) k.toNat)) : Nat) : Int)) := h_14
        have e14 := h_14.2 (by omega) (by omega)
        refine j_iconst SS dX1_unitTriangles_17 ?_
        refine j_icmp_ne SS (tgt := 56) (x := z_14) (y := 3) dX1_unitTriangles_18 (by decide) (by omega) (by decide) (fun c_18 => ?_) (fun c_18 => ?_)
        · skip
          refine lv_iinc (v := J (k + 1)) (lv' := [(2, .int (J (k + 1))), (0, .ref (q 7)), (1, .int (J fd))]) SS.1 SS.2.1 dX1_unitTriangles_56 hl (k := 2) rfl (J_add _ _) (by decide) rfl (fun ls hl => ?_)
          refine lv_goto (tgt := 4) SS.1 SS.2.1 dX1_unitTriangles_59 (by decide) ?_
          exact ih_4 fd (k + 1) ls (lv_sub hl [1, 2, 0] rfl) (by omega) (by omega) (fun F9 hF9 => by have hc3 := pc_PR (f := F9 k.toNat) (u.1.2.2.1 10).toNat (by omega); rw [← hF9 k.toNat (by omega), ← e14] at hc3; first | exact cu9_p (by omega) (i4_2 F9 hF9) (Or.inr ⟨ut_n (by omega), rfl⟩) | (have g0 := at_PR (by omega) (hF9 k.toNat (by omega)) e_28; have g1 := at_PR (by omega) (hF9 k.toNat (by omega)) e_34; have g2 := at_PR (by omega) (hF9 k.toNat (by omega)) e_40; have f0 := fm_in (f := F9 k.toNat) (n := (u.1.2.2.1 10).toNat) (i := 0) (by omega) (by omega); have f1 := fm_in (f := F9 k.toNat) (n := (u.1.2.2.1 10).toNat) (i := 1) (by omega) (by omega); have f2 := fm_in (f := F9 k.toNat) (n := (u.1.2.2.1 10).toNat) (i := 2) (by omega) (by omega); have ht := e_43 (by omega) (by omega) (by omega); rw [g0, g1, g2] at ht; have hu := ut_a (by omega) ht h_46; first | exact cu9_p (by omega) (i4_2 F9 hF9) (Or.inl ⟨hu.mpr (by omega), rfl⟩) | exact cu9_p (by omega) (i4_2 F9 hF9) (Or.inr ⟨fun q => by have := hu.mp q; omega, rfl⟩))) (by omega)
        · skip
          refine lv_aload_n SS.1 SS.2.1 dX1_unitTriangles_21 rfl (lv_at hl 0 rfl) ?_
          refine j_get SS hG hP 7 (v := .ref (q (9 + 5 * 10))) (C := RX1) (T := TX1) (N := 4) rfl rfl inX1 0 (by decide) (ref := "GridPolygons$Coarse") kw_371 rfl rfl dX1_unitTriangles_22 ?_
          refine lv_aload_n SS.1 SS.2.1 dX1_unitTriangles_25 rfl (lv_at hl 0 rfl) ?_
          refine lv_iload_n SS.1 SS.2.1 dX1_unitTriangles_26 rfl (lv_at hl 2 rfl) ?_
          refine j_iconst SS dX1_unitTriangles_27 ?_
          refine j_vRi SS (As := [.int (J k), .int (J 0)]) (rest := [.ref (q (9 + 5 * 10))]) (c_X1_memberOf3 l D q u  k 0 (show RB 40 u 10 from (p0)) (show 0 ≤ k ∧ k < 80 from (by omega)) (show 0 ≤ (0 : Int) ∧ (0 : Int) ≤ 2147483647 from (by omega))) mf_X1_memberOf kw_1040 hG hP hP (ci := 1) (q0 := 7) rfl rfl rfl rfl hl.1 ⟨⟨Nat.le_of_ble_eq_true rfl, Nat.le_of_ble_eq_true rfl⟩, Nat.le_of_ble_eq_true rfl, Nat.le_refl _, Nat.le_refl _⟩ rfl dX1_unitTriangles_28 (fun z_28 h_28 => ?_)
          have h_28 : (-1 ≤ z_28 ∧ z_28 ≤ 39) ∧ MB9 ((u.2.2.1 6) k.toNat) ((u.1.2.2.1 10)) (0 : Int) z_28 := h_28
          obtain ⟨t_28, e_28⟩ := h_28
          refine lv_aload_n SS.1 SS.2.1 dX1_unitTriangles_31 rfl (lv_at hl 0 rfl) ?_
          refine lv_iload_n SS.1 SS.2.1 dX1_unitTriangles_32 rfl (lv_at hl 2 rfl) ?_
          refine j_iconst SS dX1_unitTriangles_33 ?_
          refine j_vRi SS (As := [.int (J k), .int (J 1)]) (rest := [.int (J z_28), .ref (q (9 + 5 * 10))]) (c_X1_memberOf3 l D q u  k 1 (show RB 40 u 10 from (p0)) (show 0 ≤ k ∧ k < 80 from (by omega)) (show 0 ≤ (1 : Int) ∧ (1 : Int) ≤ 2147483647 from (by omega))) mf_X1_memberOf kw_1040 hG hP hP (ci := 1) (q0 := 7) rfl rfl rfl rfl hl.1 ⟨⟨Nat.le_of_ble_eq_true rfl, Nat.le_of_ble_eq_true rfl⟩, Nat.le_of_ble_eq_true rfl, Nat.le_refl _, Nat.le_refl _⟩ rfl dX1_unitTriangles_34 (fun z_34 h_34 => ?_)
          have h_34 : (-1 ≤ z_34 ∧ z_34 ≤ 39) ∧ MB9 ((u.2.2.1 6) k.toNat) ((u.1.2.2.1 10)) (1 : Int) z_34 := h_34
          obtain ⟨t_34, e_34⟩ := h_34
          refine lv_aload_n SS.1 SS.2.1 dX1_unitTriangles_37 rfl (lv_at hl 0 rfl) ?_
          refine lv_iload_n SS.1 SS.2.1 dX1_unitTriangles_38 rfl (lv_at hl 2 rfl) ?_
          refine j_iconst SS dX1_unitTriangles_39 ?_
          refine j_vRi SS (As := [.int (J k), .int (J 2)]) (rest := [.int (J z_34), .int (J z_28), .ref (q (9 + 5 * 10))]) (c_X1_memberOf3 l D q u  k 2 (show RB 40 u 10 from (p0)) (show 0 ≤ k ∧ k < 80 from (by omega)) (show 0 ≤ (2 : Int) ∧ (2 : Int) ≤ 2147483647 from (by omega))) mf_X1_memberOf kw_1040 hG hP hP (ci := 1) (q0 := 7) rfl rfl rfl rfl hl.1 ⟨⟨Nat.le_of_ble_eq_true rfl, Nat.le_of_ble_eq_true rfl⟩, Nat.le_of_ble_eq_true rfl, Nat.le_refl _, Nat.le_refl _⟩ rfl dX1_unitTriangles_40 (fun z_40 h_40 => ?_)
          have h_40 : (-1 ≤ z_40 ∧ z_40 ≤ 39) ∧ MB9 ((u.2.2.1 6) k.toNat) ((u.1.2.2.1 10)) (2 : Int) z_40 := h_40
          obtain ⟨t_40, e_40⟩ := h_40
          refine j_vRi SS (As := [.int (J z_28), .int (J z_34), .int (J z_40)]) (rest := []) (c_X6_turn_10t l D q u  z_28 z_34 z_40 (show RB 40 u 10 from (p0)) (show -2147483648 ≤ z_28 ∧ z_28 ≤ 2147483647 from (by omega)) (show -2147483648 ≤ z_34 ∧ z_34 ≤ 2147483647 from (by omega)) (show -2147483648 ≤ z_40 ∧ z_40 ≤ 2147483647 from (by omega))) mf_X6_turn kw_996 hG hP hP (ci := 6) (q0 := (9 + 5 * 10)) rfl (cw_pts (by omega)) rfl rfl hl.1 ⟨⟨Nat.le_of_ble_eq_true rfl, Nat.le_of_ble_eq_true rfl⟩, Nat.le_of_ble_eq_true rfl, Nat.le_refl _, Nat.le_refl _⟩ rfl dX1_unitTriangles_43 (fun z_43 h_43 => ?_)
          have h_43 : (-12800 ≤ z_43 ∧ z_43 ≤ 12800) ∧ ((0 ≤ z_28 ∧ z_28 < 40) → (0 ≤ z_34 ∧ z_34 < 40) → (0 ≤ z_40 ∧ z_40 < 40) → z_43 = tn ((u.1.1 10)) ((u.1.2.1 10)) z_28.toNat z_34.toNat z_40.toNat) := h_43
          obtain ⟨t_43, e_43⟩ := h_43
          refine j_sRi SS (As := [.int (J z_43)]) (rest := []) (c_J9_abs_0f7a4 l D  z_43 (show -2147483648 < z_43 ∧ z_43 ≤ 2147483647 from (by omega))) mf_J9_abs_0f7a4 kw_1044 hG trivial rfl hl.1 ⟨⟨Nat.le_of_ble_eq_true rfl, Nat.le_of_ble_eq_true rfl⟩, Nat.le_of_ble_eq_true rfl, Nat.le_refl _, Nat.le_refl _⟩ rfl dX1_unitTriangles_46 (fun z_46 h_46 => ?_)
          have h_46 : 0 ≤ z_46 ∧ (z_46 = z_43 ∨ z_46 = -z_43) := h_46
          refine j_iconst SS dX1_unitTriangles_49 ?_
          refine j_icmp_ne SS (tgt := 56) (x := z_46) (y := 1) dX1_unitTriangles_50 (by decide) (by omega) (by decide) (fun c_50 => ?_) (fun c_50 => ?_)
          · skip
            refine lv_iinc (v := J (k + 1)) (lv' := [(2, .int (J (k + 1))), (0, .ref (q 7)), (1, .int (J fd))]) SS.1 SS.2.1 dX1_unitTriangles_56 hl (k := 2) rfl (J_add _ _) (by decide) rfl (fun ls hl => ?_)
            refine lv_goto (tgt := 4) SS.1 SS.2.1 dX1_unitTriangles_59 (by decide) ?_
            exact ih_4 fd (k + 1) ls (lv_sub hl [1, 2, 0] rfl) (by omega) (by omega) (fun F9 hF9 => by have hc3 := pc_PR (f := F9 k.toNat) (u.1.2.2.1 10).toNat (by omega); rw [← hF9 k.toNat (by omega), ← e14] at hc3; first | exact cu9_p (by omega) (i4_2 F9 hF9) (Or.inr ⟨ut_n (by omega), rfl⟩) | (have g0 := at_PR (by omega) (hF9 k.toNat (by omega)) e_28; have g1 := at_PR (by omega) (hF9 k.toNat (by omega)) e_34; have g2 := at_PR (by omega) (hF9 k.toNat (by omega)) e_40; have f0 := fm_in (f := F9 k.toNat) (n := (u.1.2.2.1 10).toNat) (i := 0) (by omega) (by omega); have f1 := fm_in (f := F9 k.toNat) (n := (u.1.2.2.1 10).toNat) (i := 1) (by omega) (by omega); have f2 := fm_in (f := F9 k.toNat) (n := (u.1.2.2.1 10).toNat) (i := 2) (by omega) (by omega); have ht := e_43 (by omega) (by omega) (by omega); rw [g0, g1, g2] at ht; have hu := ut_a (by omega) ht h_46; first | exact cu9_p (by omega) (i4_2 F9 hF9) (Or.inl ⟨hu.mpr (by omega), rfl⟩) | exact cu9_p (by omega) (i4_2 F9 hF9) (Or.inr ⟨fun q => by have := hu.mp q; omega, rfl⟩))) (by omega)
          · skip
            refine lv_iinc (v := J (fd + 1)) (lv' := [(1, .int (J (fd + 1))), (0, .ref (q 7)), (2, .int (J k))]) SS.1 SS.2.1 dX1_unitTriangles_53 hl (k := 1) rfl (J_add _ _) (by decide) rfl (fun ls hl => ?_)
            refine lv_iinc (v := J (k + 1)) (lv' := [(2, .int (J (k + 1))), (1, .int (J (fd + 1))), (0, .ref (q 7))]) SS.1 SS.2.1 dX1_unitTriangles_56 hl (k := 2) rfl (J_add _ _) (by decide) rfl (fun ls hl => ?_)
            refine lv_goto (tgt := 4) SS.1 SS.2.1 dX1_unitTriangles_59 (by decide) ?_
            exact ih_4 (fd + 1) (k + 1) ls (lv_sub hl [2, 1, 0] rfl) (by omega) (by omega) (fun F9 hF9 => by have hc3 := pc_PR (f := F9 k.toNat) (u.1.2.2.1 10).toNat (by omega); rw [← hF9 k.toNat (by omega), ← e14] at hc3; first | exact cu9_p (by omega) (i4_2 F9 hF9) (Or.inr ⟨ut_n (by omega), rfl⟩) | (have g0 := at_PR (by omega) (hF9 k.toNat (by omega)) e_28; have g1 := at_PR (by omega) (hF9 k.toNat (by omega)) e_34; have g2 := at_PR (by omega) (hF9 k.toNat (by omega)) e_40; have f0 := fm_in (f := F9 k.toNat) (n := (u.1.2.2.1 10).toNat) (i := 0) (by omega) (by omega); have f1 := fm_in (f := F9 k.toNat) (n := (u.1.2.2.1 10).toNat) (i := 1) (by omega) (by omega); have f2 := fm_in (f := F9 k.toNat) (n := (u.1.2.2.1 10).toNat) (i := 2) (by omega) (by omega); have ht := e_43 (by omega) (by omega) (by omega); rw [g0, g1, g2] at ht; have hu := ut_a (by omega) ht h_46; first | exact cu9_p (by omega) (i4_2 F9 hF9) (Or.inl ⟨hu.mpr (by omega), rfl⟩) | exact cu9_p (by omega) (i4_2 F9 hF9) (Or.inr ⟨fun q => by have := hu.mp q; omega, rfl⟩))) (by omega)
  exact L_4 (((80 : Int) - (0 : Int)).toNat + 1) 0 0 ls (lv_sub hl [2, 1, 0] rfl) (by omega) (by omega) (fun _ _ => cu9_0) (Nat.lt_succ_self _)
