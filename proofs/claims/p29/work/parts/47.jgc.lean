
set_option maxHeartbeats 4000000 in
set_option maxRecDepth 100000 in
theorem c_X1_planeOf3 (l : Launch) (D : JD) (q : Nat → Nat) (u : CS) (i : Nat) (hi : i < 8) (a : Int) (b : Int) (c : Int) (p0 : RB 40 u 10) (p1 : HB (u.1.2.2.2.1 i)) (p2 : 0 ≤ a ∧ a < 40) (p3 : 0 ≤ b ∧ b < 40) (p4 : -1 ≤ c ∧ c < 40) : Met l yX1_planeOf (jw yX1_planeOf cX1_planeOf 9 (some .long)) (jr 3 71) (jP [.ref (q 7), .ref (q (12 + 5 * i)), .int (J a), .int (J b), .int (J c)] D (fun H => va_P D.1 j_cl (cW D q u) H)) (vp_Sl (fun x9 => (c < 0 → x9 = 0) ∧ (0 ≤ c → (x9 = 0 ∧ ∃ p : Nat, (p : Int) < u.1.2.2.1 10 ∧ ab9 (u.1.1 10) (u.1.2.1 10) (u.1.2.2.2.1 i) a.toNat b.toNat c.toNat p < 0) ∨ ((∀ p : Nat, (p : Int) < u.1.2.2.1 10 → 0 ≤ ab9 (u.1.1 10) (u.1.2.1 10) (u.1.2.2.2.1 i) a.toNat b.toNat c.toNat p) ∧ x9 = PR9 (fun p => decide (ab9 (u.1.1 10) (u.1.2.1 10) (u.1.2.2.2.1 i) a.toNat b.toNat c.toNat p = 0)) (u.1.2.2.1 10).toNat)))) 0 0 (fun _ => False) := by
  refine Met.ofW (cc := cX1_planeOf) (maxL := 9) (ret := (some .long)) (by decide) rfl ?_
  intro pr en st mi args below meth co s₁ B hml hv
  obtain ⟨rfl, hG, hP⟩ := hv
  have hr := B.returns
  have hlk := B.notSynchronized
  have SS : jS pr mi co cX1_planeOf 9 st _ RX1 := ⟨B.exec, B.bytes, hml, findClass_of_methodNamed B.named, fun w hw => atoms_spec (ws := (jw yX1_planeOf cX1_planeOf 9 (some .long))) B.pre w (List.mem_cons_of_mem _ hw)⟩
  have hl := lv_entry ([.ref (q 7), .ref (q (12 + 5 * i)), .int (J a), .int (J b), .int (J c)]) (n := 9) (Nat.le_of_ble_eq_true rfl)
  rw [lg_entry_eq]
  generalize (lg_sl ([.ref (q 7), .ref (q (12 + 5 * i)), .int (J a), .int (J b), .int (J c)]) ++ List.replicate (9 - (lg_sl ([.ref (q 7), .ref (q (12 + 5 * i)), .int (J a), .int (J b), .int (J c)])).length) Slot.unset).toArray = ls at hl ⊢
  have hl : lv_has ls 9 [(0, .ref (q 7)), (1, .ref (q (12 + 5 * i))), (2, .int (J a)), (3, .int (J b)), (4, .int (J c))] := hl
  have hc := p0.1
  have hrk : (rl 10 : Int) = 40 := rfl
  refine lv_iload SS.1 SS.2.1 dX1_planeOf_0 (lv_at hl 4 rfl) ?_
  refine j_if_ge SS (tgt := 7) (x := c) dX1_planeOf_2 (by decide) (by omega) (fun c_2 => ?_) (fun c_2 => ?_)
  · skip
    refine lv_lconst (v := 0) SS.1 SS.2.1 dX1_planeOf_7 (by decide +kernel) ?_
    refine lv_lstore (lv' := [(5, .long 0), (0, .ref (q 7)), (1, .ref (q (12 + 5 * i))), (2, .int (J a)), (3, .int (J b)), (4, .int (J c))]) SS.1 SS.2.1 dX1_planeOf_8 hl (by decide) rfl (fun ls hl => ?_)
    refine j_iconst SS dX1_planeOf_10 ?_
    refine lv_istore (lv' := [(7, .int (J 0)), (5, .long 0), (0, .ref (q 7)), (1, .ref (q (12 + 5 * i))), (2, .int (J a)), (3, .int (J b)), (4, .int (J c))]) SS.1 SS.2.1 dX1_planeOf_11 hl (by decide) rfl (fun ls hl => ?_)
    have L_13 : ∀ (nn : Nat) (se : Int64) (m : Int) (ls : Array Slot) (hl : lv_has ls 9 [(0, .ref (q 7)), (1, .ref (q (12 + 5 * i))), (2, .int (J a)), (3, .int (J b)), (4, .int (J c)), (5, .long se), (7, .int (J m))]) (i13_0 : 0 ≤ m ∧ m ≤ u.1.2.2.1 10) (i13_1 : ∀ p : Nat, (p : Int) < m → 0 ≤ ab9 (u.1.1 10) (u.1.2.1 10) (u.1.2.2.2.1 i) a.toNat b.toNat c.toNat p) (i13_2 : se = PR9 (fun p => decide (ab9 (u.1.1 10) (u.1.2.1 10) (u.1.2.2.2.1 i) a.toNat b.toNat c.toNat p = 0)) m.toNat), ((40 : Int) - m).toNat < nn → W pr l en (headSpec (jw yX1_planeOf cX1_planeOf 9 (some .long)) (jr 3 71)).room st mi (([.ref (q 7), .ref (q (12 + 5 * i)), .int (J a), .int (J b), .int (J c)] : List Value).toArray) below meth co st.heap [] 0 0 (MQ below (vp_Sl (fun x9 => (c < 0 → x9 = 0) ∧ (0 ≤ c → (x9 = 0 ∧ ∃ p : Nat, (p : Int) < u.1.2.2.1 10 ∧ ab9 (u.1.1 10) (u.1.2.1 10) (u.1.2.2.2.1 i) a.toNat b.toNat c.toNat p < 0) ∨ ((∀ p : Nat, (p : Int) < u.1.2.2.1 10 → 0 ≤ ab9 (u.1.1 10) (u.1.2.1 10) (u.1.2.2.2.1 i) a.toNat b.toNat c.toNat p) ∧ x9 = PR9 (fun p => decide (ab9 (u.1.1 10) (u.1.2.1 10) (u.1.2.2.2.1 i) a.toNat b.toNat c.toNat p = 0)) (u.1.2.2.1 10).toNat)))) (([.ref (q 7), .ref (q (12 + 5 * i)), .int (J a), .int (J b), .int (J c)] : List Value).toArray) st 0 0 (fun _ => False)) (F0 mi 13 ls []) := by
      intro nn
      induction nn with
      | zero => intros; omega
      | succ nn ih_13 =>
        intro se m ls hl i13_0 i13_1 i13_2 hm
        refine lv_iload SS.1 SS.2.1 dX1_planeOf_13 (lv_at hl 6 rfl) ?_
        refine lv_aload_n SS.1 SS.2.1 dX1_planeOf_15 rfl (lv_at hl 0 rfl) ?_
        refine j_get SS hG hP 7 (v := .ref (q (9 + 5 * 10))) (C := RX1) (T := TX1) (N := 4) rfl rfl inX1 0 (by decide) (ref := "GridPolygons$Coarse") kw_371 rfl rfl dX1_planeOf_16 ?_
        refine j_getS SS hG hP (9 + 5 * 10) (v := .int (J (u.1.2.2.1 10))) (C := RX6) (T := TX6) (N := 3) (cw_pts (by omega)) rfl inX6 2 (by decide) (ref := "GridPolygons$Points") kw_138 kw_134 rfl dX1_planeOf_19 ?_
        refine j_icmp_ge SS (tgt := 66) (x := m) (y := (u.1.2.2.1 10)) dX1_planeOf_22 (by decide) (by omega) (by omega) (fun c_22 => ?_) (fun c_22 => ?_)
        · skip
          refine lv_lload SS.1 SS.2.1 dX1_planeOf_66 (lv_at hl 5 rfl) ?_
          exact W.lret SS.1 SS.2.1 hr (fun t0 ht hW => ⟨_, rfl, (⟨fun q => by omega, fun _ => Or.inr ⟨fun p hp => i13_1 p (by omega), by rw [i13_2, show m = u.1.2.2.1 10 by omega]⟩⟩), ht⟩) (fun _ h => nomatch h) dX1_planeOf_68 hlk
        · skip
          refine lv_aload_n SS.1 SS.2.1 dX1_planeOf_25 rfl (lv_at hl 0 rfl) ?_
          refine lv_aload_n SS.1 SS.2.1 dX1_planeOf_26 rfl (lv_at hl 1 rfl) ?_
          refine lv_iload_n SS.1 SS.2.1 dX1_planeOf_27 rfl (lv_at hl 2 rfl) ?_
          refine lv_iload_n SS.1 SS.2.1 dX1_planeOf_28 rfl (lv_at hl 3 rfl) ?_
          refine lv_iload SS.1 SS.2.1 dX1_planeOf_29 (lv_at hl 4 rfl) ?_
          refine lv_iload SS.1 SS.2.1 dX1_planeOf_31 (lv_at hl 6 rfl) ?_
          refine j_vRi SS (As := [.ref (q (12 + 5 * i)), .int (J a), .int (J b), .int (J c), .int (J m)]) (rest := []) (c_X1_above3 l D q u i (by omega) a b c m (show RB 40 u 10 from (p0)) (show HB ((u.1.2.2.2.1 i)) from (p1)) (show -2147483648 ≤ a ∧ a ≤ 2147483647 from (by omega)) (show -2147483648 ≤ b ∧ b ≤ 2147483647 from (by omega)) (show -2147483648 ≤ c ∧ c ≤ 2147483647 from (by omega)) (show -2147483648 ≤ m ∧ m ≤ 2147483647 from (by omega))) mf_X1_above kw_997 hG hP hP (ci := 1) (q0 := 7) rfl rfl rfl rfl hl.1 ⟨⟨Nat.le_of_ble_eq_true rfl, Nat.le_of_ble_eq_true rfl⟩, Nat.le_of_ble_eq_true rfl, Nat.le_refl _, Nat.le_refl _⟩ rfl dX1_planeOf_33 (fun z_33 h_33 => ?_)
          have h_33 : (-100000000 ≤ z_33 ∧ z_33 ≤ 100000000) ∧ ((0 ≤ a ∧ a < 40) → (0 ≤ b ∧ b < 40) → (0 ≤ c ∧ c < 40) → (0 ≤ m ∧ m < 40) → z_33 = ab9 ((u.1.1 10)) ((u.1.2.1 10)) ((u.1.2.2.2.1 i)) a.toNat b.toNat c.toNat m.toNat) := h_33
          obtain ⟨t_33, e33⟩ := h_33
          have e33 := e33 p2 p3 (by omega) (by omega)
          refine lv_istore (lv' := [(8, .int (J z_33)), (0, .ref (q 7)), (1, .ref (q (12 + 5 * i))), (2, .int (J a)), (3, .int (J b)), (4, .int (J c)), (5, .long se), (7, .int (J m))]) SS.1 SS.2.1 dX1_planeOf_36 hl (by decide) rfl (fun ls hl => ?_)
          refine lv_iload SS.1 SS.2.1 dX1_planeOf_38 (lv_at hl 0 rfl) ?_
          refine j_if_ge SS (tgt := 45) (x := z_33) dX1_planeOf_40 (by decide) (by omega) (fun c_40 => ?_) (fun c_40 => ?_)
          · skip
            refine lv_iload SS.1 SS.2.1 dX1_planeOf_45 (lv_at hl 0 rfl) ?_
            refine j_if_ne SS (tgt := 60) (x := z_33) dX1_planeOf_47 (by decide) (by omega) (fun c_47 => ?_) (fun c_47 => ?_)
            · skip
              refine lv_iinc (v := J (m + 1)) (lv' := [(7, .int (J (m + 1))), (8, .int (J z_33)), (0, .ref (q 7)), (1, .ref (q (12 + 5 * i))), (2, .int (J a)), (3, .int (J b)), (4, .int (J c)), (5, .long se)]) SS.1 SS.2.1 dX1_planeOf_60 hl (k := 7) rfl (J_add _ _) (by decide) rfl (fun ls hl => ?_)
              refine lv_goto (tgt := 13) SS.1 SS.2.1 dX1_planeOf_63 (by decide) ?_
              exact ih_13 se (m + 1) ls (lv_sub hl [2, 3, 4, 5, 6, 7, 0] rfl) (by omega) (fun p hp => by by_cases e : (p : Int) = m; (rw [show p = m.toNat by omega, ← e33]; omega); exact i13_1 p (by omega)) (by first | exact (PRp i13_0.1 i13_2).2 (by rw [← e33]; omega) | (rw [h_54]; exact (PRp i13_0.1 i13_2).1 (by rw [← e33]; omega))) (by omega)
            · skip
              refine lv_lload SS.1 SS.2.1 dX1_planeOf_50 (lv_at hl 6 rfl) ?_
              refine lv_iload SS.1 SS.2.1 dX1_planeOf_52 (lv_at hl 7 rfl) ?_
              refine j_sRl SS (As := [.int (J m)]) (rest := [.long se]) (c_X1_bit3 l D  m ) mf_X1_bit kw_1007 hG trivial rfl hl.1 ⟨⟨Nat.le_of_ble_eq_true rfl, Nat.le_of_ble_eq_true rfl⟩, Nat.le_of_ble_eq_true rfl, Nat.le_refl _, Nat.le_refl _⟩ rfl dX1_planeOf_54 (fun x_54 h_54 => ?_)
              have h_54 : x_54 = (1 : Int64) <<< ((J (62 - m)).toInt64 &&& 63) := h_54
              refine lv_lor SS.1 SS.2.1 dX1_planeOf_57 ?_
              refine lv_lstore (lv' := [(5, .long (se ||| x_54)), (8, .int (J z_33)), (0, .ref (q 7)), (1, .ref (q (12 + 5 * i))), (2, .int (J a)), (3, .int (J b)), (4, .int (J c)), (7, .int (J m))]) SS.1 SS.2.1 dX1_planeOf_58 hl (by decide) rfl (fun ls hl => ?_)
              refine lv_iinc (v := J (m + 1)) (lv' := [(7, .int (J (m + 1))), (5, .long (se ||| x_54)), (8, .int (J z_33)), (0, .ref (q 7)), (1, .ref (q (12 + 5 * i))), (2, .int (J a)), (3, .int (J b)), (4, .int (J c))]) SS.1 SS.2.1 dX1_planeOf_60 hl (k := 7) rfl (J_add _ _) (by decide) rfl (fun ls hl => ?_)
              refine lv_goto (tgt := 13) SS.1 SS.2.1 dX1_planeOf_63 (by decide) ?_
              exact ih_13 (se ||| x_54) (m + 1) ls (lv_sub hl [3, 4, 5, 6, 7, 1, 0] rfl) (by omega) (fun p hp => by by_cases e : (p : Int) = m; (rw [show p = m.toNat by omega, ← e33]; omega); exact i13_1 p (by omega)) (by first | exact (PRp i13_0.1 i13_2).2 (by rw [← e33]; omega) | (rw [h_54]; exact (PRp i13_0.1 i13_2).1 (by rw [← e33]; omega))) (by omega)
          · skip
            refine lv_lconst (v := 0) SS.1 SS.2.1 dX1_planeOf_43 (by decide +kernel) ?_
            exact W.lret SS.1 SS.2.1 hr (fun t0 ht hW => ⟨_, rfl, (⟨fun q => by omega, fun _ => Or.inl ⟨rfl, m.toNat, by omega, by rw [← e33]; omega⟩⟩), ht⟩) (fun _ h => nomatch h) dX1_planeOf_44 hlk
    exact L_13 (((40 : Int) - (0 : Int)).toNat + 1) 0 0 ls (lv_sub hl [2, 3, 4, 5, 6, 1, 0] rfl) (by omega) (fun p hp => by omega) (rfl) (Nat.lt_succ_self _)
  · skip
    refine lv_lconst (v := 0) SS.1 SS.2.1 dX1_planeOf_5 (by decide +kernel) ?_
    exact W.lret SS.1 SS.2.1 hr (fun t0 ht hW => ⟨_, rfl, (⟨fun _ => rfl, fun q => by omega⟩), ht⟩) (fun _ h => nomatch h) dX1_planeOf_6 hlk

set_option maxHeartbeats 4000000 in
set_option maxRecDepth 100000 in
theorem c_X1_isKnown3 (l : Launch) (D : JD) (q : Nat → Nat) (u : CS) (set : Int64) (p0 : 0 ≤ u.2.2.2 25 ∧ u.2.2.2 25 ≤ 80) : Met l yX1_isKnown (jw yX1_isKnown cX1_isKnown 4 (some .boolean)) (jr 1 21) (jP [.ref (q 7), .long set] D (fun H => va_P D.1 j_cl (cW D q u) H)) (jRi (fun z => (z = 1 ∧ ∃ q : Nat, (q : Int) < u.2.2.2 25 ∧ u.2.2.1 6 q = set) ∨ (z = 0 ∧ ∀ q : Nat, (q : Int) < u.2.2.2 25 → u.2.2.1 6 q ≠ set))) 0 0 (fun _ => False) := by
  refine Met.ofW (cc := cX1_isKnown) (maxL := 4) (ret := (some .boolean)) (by decide) rfl ?_
  intro pr en st mi args below meth co s₁ B hml hv
  obtain ⟨rfl, hG, hP⟩ := hv
  have hr := B.returns
  have hlk := B.notSynchronized
  have SS : jS pr mi co cX1_isKnown 4 st _ RX1 := ⟨B.exec, B.bytes, hml, findClass_of_methodNamed B.named, fun w hw => atoms_spec (ws := (jw yX1_isKnown cX1_isKnown 4 (some .boolean))) B.pre w (List.mem_cons_of_mem _ hw)⟩
  have hl := lv_entry ([.ref (q 7), .long set]) (n := 4) (Nat.le_of_ble_eq_true rfl)
  rw [lg_entry_eq]
  generalize (lg_sl ([.ref (q 7), .long set]) ++ List.replicate (4 - (lg_sl ([.ref (q 7), .long set])).length) Slot.unset).toArray = ls at hl ⊢
  have hl : lv_has ls 4 [(0, .ref (q 7)), (1, .long set)] := hl
  refine j_iconst SS dX1_isKnown_0 ?_
  refine lv_istore_n (lv' := [(3, .int (J 0)), (0, .ref (q 7)), (1, .long set)]) SS.1 SS.2.1 dX1_isKnown_1 rfl hl (by decide) rfl (fun ls hl => ?_)
  have L_2 : ∀ (nn : Nat) (i : Int) (ls : Array Slot) (hl : lv_has ls 4 [(0, .ref (q 7)), (1, .long set), (3, .int (J i))]) (i2_0 : 0 ≤ i ∧ i ≤ u.2.2.2 25) (i2_1 : ∀ q : Nat, (q : Int) < i → u.2.2.1 6 q ≠ set), ((80 : Int) - i).toNat < nn → W pr l en (headSpec (jw yX1_isKnown cX1_isKnown 4 (some .boolean)) (jr 1 21)).room st mi (([.ref (q 7), .long set] : List Value).toArray) below meth co st.heap [] 0 0 (MQ below (jRi (fun z => (z = 1 ∧ ∃ q : Nat, (q : Int) < u.2.2.2 25 ∧ u.2.2.1 6 q = set) ∨ (z = 0 ∧ ∀ q : Nat, (q : Int) < u.2.2.2 25 → u.2.2.1 6 q ≠ set))) (([.ref (q 7), .long set] : List Value).toArray) st 0 0 (fun _ => False)) (F0 mi 2 ls []) := by
    intro nn
    induction nn with
    | zero => intros; omega
    | succ nn ih_2 =>
      intro i ls hl i2_0 i2_1 hm
      refine lv_iload_n SS.1 SS.2.1 dX1_isKnown_2 rfl (lv_at hl 2 rfl) ?_
      refine lv_aload_n SS.1 SS.2.1 dX1_isKnown_3 rfl (lv_at hl 0 rfl) ?_
      refine j_get SS hG hP 7 (v := .int (J (u.2.2.2 25))) (C := RX1) (T := TX1) (N := 4) rfl rfl inX1 2 (by decide) (ref := "GridPolygons$Coarse") kw_373 rfl rfl dX1_isKnown_4 ?_
      refine j_icmp_ge SS (tgt := 28) (x := i) (y := (u.2.2.2 25)) dX1_isKnown_7 (by decide) (by omega) (by omega) (fun c_7 => ?_) (fun c_7 => ?_)
      · skip
        refine j_iconst SS dX1_isKnown_28 ?_
        exact W.zret SS.1 SS.2.1 hr (j_nz (by decide)) (fun t0 ht hW => ⟨_, rfl, ⟨0, rfl, (Or.inr ⟨rfl, fun q hq => i2_1 q (by omega)⟩)⟩, ht⟩) (fun _ h => nomatch h) dX1_isKnown_29 hlk
      · skip
        refine lv_aload_n SS.1 SS.2.1 dX1_isKnown_10 rfl (lv_at hl 0 rfl) ?_
        refine lv_iload_n SS.1 SS.2.1 dX1_isKnown_11 rfl (lv_at hl 2 rfl) ?_
        refine j_vRl SS (As := [.int (J i)]) (rest := []) (c_X1_setOf3 l D q u  i (show -2147483648 ≤ i ∧ i ≤ 2147483647 from (by omega))) mf_X1_setOf kw_1018 hG hP hP (ci := 1) (q0 := 7) rfl rfl rfl rfl hl.1 ⟨⟨Nat.le_of_ble_eq_true rfl, Nat.le_of_ble_eq_true rfl⟩, Nat.le_of_ble_eq_true rfl, Nat.le_refl _, Nat.le_refl _⟩ rfl dX1_isKnown_12 (fun x_12 h_12 => ?_)
        refine lv_lload_n SS.1 SS.2.1 dX1_isKnown_15 rfl (lv_at hl 1 rfl) ?_
        refine j_lcmp SS dX1_isKnown_16 (fun z_16 hz_16 => ?_)
        refine j_if_ne SS (tgt := 22) (x := z_16) dX1_isKnown_17 (by decide) (by omega) (fun c_17 => ?_) (fun c_17 => ?_)
        · skip
          refine lv_iinc (v := J (i + 1)) (lv' := [(3, .int (J (i + 1))), (0, .ref (q 7)), (1, .long set)]) SS.1 SS.2.1 dX1_isKnown_22 hl (k := 2) rfl (J_add _ _) (by decide) rfl (fun ls hl => ?_)
          refine lv_goto (tgt := 2) SS.1 SS.2.1 dX1_isKnown_25 (by decide) ?_
          exact ih_2 (i + 1) ls (lv_sub hl [1, 2, 0] rfl) (by omega) (fun q hq => by by_cases e : (q : Int) = i; (rw [show q = i.toNat by omega, ← h_12 (by omega) (by omega)]; exact fun e2 => c_17 (hz_16.2.2.2.mpr e2)); exact i2_1 q (by omega)) (by omega)
        · skip
          refine j_iconst SS dX1_isKnown_20 ?_
          exact W.zret SS.1 SS.2.1 hr (j_nz (by decide)) (fun t0 ht hW => ⟨_, rfl, ⟨1, rfl, (Or.inl ⟨rfl, i.toNat, by omega, by rw [← h_12 (by omega) (by omega)]; exact hz_16.2.2.2.mp (by omega)⟩)⟩, ht⟩) (fun _ h => nomatch h) dX1_isKnown_21 hlk
  exact L_2 (((80 : Int) - (0 : Int)).toNat + 1) 0 ls (lv_sub hl [1, 2, 0] rfl) (by omega) (fun q hq => by omega) (Nat.lt_succ_self _)

set_option maxHeartbeats 4000000 in
set_option maxRecDepth 100000 in
theorem c_X1_enter3 (l : Launch) (D : JD) (q : Nat → Nat) (u : CS) (A : Nat → Prop) (hD : va_D A (cW D q u)) (set : Int64) (p0 : 0 ≤ u.2.2.2 25 ∧ u.2.2.2 25 ≤ 80) : Met l yX1_enter (jw yX1_enter cX1_enter 4 none) (jr 2 44) (jP [.ref (q 7), .long set] D (fun H => va_P D.1 j_cl (cW D q u) H)) (jWv (fun u' => ∃ s6 : Nat → Int64, ∃ n : Int, u' = (sV (sL u 6 s6) 25 n) ∧ ((0 ≤ n ∧ n ≤ 80) ∧ EN_9 (u.2.2.1 6) s6 (u.2.2.2 25) n set)) (fun u' H => va_P D.1 j_cl (cW D q u') H) A) 0 0 A := by
  refine Met.ofW (cc := cX1_enter) (maxL := 4) (ret := none) (by decide) rfl ?_
  intro pr en st mi args below meth co s₁ B hml hv
  obtain ⟨rfl, hG, hP⟩ := hv
  have hr := B.returns
  have hlk := B.notSynchronized
  have SS : jS pr mi co cX1_enter 4 st _ RX1 := ⟨B.exec, B.bytes, hml, findClass_of_methodNamed B.named, fun w hw => atoms_spec (ws := (jw yX1_enter cX1_enter 4 none)) B.pre w (List.mem_cons_of_mem _ hw)⟩
  have hl := lv_entry ([.ref (q 7), .long set]) (n := 4) (Nat.le_of_ble_eq_true rfl)
  rw [lg_entry_eq]
  generalize (lg_sl ([.ref (q 7), .long set]) ++ List.replicate (4 - (lg_sl ([.ref (q 7), .long set])).length) Slot.unset).toArray = ls at hl ⊢
  have hl : lv_has ls 4 [(0, .ref (q 7)), (1, .long set)] := hl
  have hS : va_S A st.heap st.heap [] := va_S.rf
  refine lv_lload_n SS.1 SS.2.1 dX1_enter_0 rfl (lv_at hl 1 rfl) ?_
  refine lv_lconst (v := 0) SS.1 SS.2.1 dX1_enter_1 (by decide +kernel) ?_
  refine j_lcmp SS dX1_enter_2 (fun z_2 hz_2 => ?_)
  refine j_if_eq SS (tgt := 23) (x := z_2) dX1_enter_3 (by decide) (by omega) (fun c_3 => ?_) (fun c_3 => ?_)
  · skip
    exact W.vret SS.1 SS.2.1 hr (fun t0 ht hW => ⟨⟨(sV (sL u 6 (u.2.2.1 6)) 25 (u.2.2.2 25)), rfl, (⟨(u.2.2.1 6), (u.2.2.2 25), rfl, ⟨by omega, Or.inl ⟨by first | exact Or.inl (hz_2.2.2.2.mp (by omega)) | exact Or.inr (Or.inl (by omega)) | exact Or.inr (Or.inr (by rcases h_17 with q | q; exact q.2; omega)), rfl, rfl⟩⟩⟩), by show va_P D.1 j_cl (cW D q (sV (sL u 6 (u.2.2.1 6)) 25 (u.2.2.2 25))) t0.heap; rw [ht]; first | exact hP | (simp only [sI_id, sL_id, sC_id, sX_id, sY_id, sH_id, sT_id, sV_id]; exact hP)⟩, hS.F ht⟩) hS.2.2 dX1_enter_23 hlk
  · skip
    refine lv_aload_n SS.1 SS.2.1 dX1_enter_6 rfl (lv_at hl 0 rfl) ?_
    refine j_get SS hG hP 7 (v := .int (J (u.2.2.2 25))) (C := RX1) (T := TX1) (N := 4) rfl rfl inX1 2 (by decide) (ref := "GridPolygons$Coarse") kw_373 rfl rfl dX1_enter_7 ?_
    refine j_bipush SS dX1_enter_10 (by decide +kernel) ?_
    refine j_icmp_ge SS (tgt := 23) (x := (u.2.2.2 25)) (y := 80) dX1_enter_12 (by decide) (by omega) (by decide) (fun c_12 => ?_) (fun c_12 => ?_)
    · skip
      exact W.vret SS.1 SS.2.1 hr (fun t0 ht hW => ⟨⟨(sV (sL u 6 (u.2.2.1 6)) 25 (u.2.2.2 25)), rfl, (⟨(u.2.2.1 6), (u.2.2.2 25), rfl, ⟨by omega, Or.inl ⟨by first | exact Or.inl (hz_2.2.2.2.mp (by omega)) | exact Or.inr (Or.inl (by omega)) | exact Or.inr (Or.inr (by rcases h_17 with q | q; exact q.2; omega)), rfl, rfl⟩⟩⟩), by show va_P D.1 j_cl (cW D q (sV (sL u 6 (u.2.2.1 6)) 25 (u.2.2.2 25))) t0.heap; rw [ht]; first | exact hP | (simp only [sI_id, sL_id, sC_id, sX_id, sY_id, sH_id, sT_id, sV_id]; exact hP)⟩, hS.F ht⟩) hS.2.2 dX1_enter_23 hlk
    · skip
      refine lv_aload_n SS.1 SS.2.1 dX1_enter_15 rfl (lv_at hl 0 rfl) ?_
      refine lv_lload_n SS.1 SS.2.1 dX1_enter_16 rfl (lv_at hl 1 rfl) ?_
      refine j_vRi SS (As := [.long set]) (rest := []) (c_X1_isKnown3 l D q u  set (show 0 ≤ (u.2.2.2 25) ∧ (u.2.2.2 25) ≤ 80 from (p0))) mf_X1_isKnown kw_1014 hG hP hP (ci := 1) (q0 := 7) rfl rfl rfl rfl hl.1 ⟨⟨Nat.le_of_ble_eq_true rfl, Nat.le_of_ble_eq_true rfl⟩, Nat.le_of_ble_eq_true rfl, Nat.le_refl _, Nat.le_refl _⟩ rfl dX1_enter_17 (fun z_17 h_17 => ?_)
      have h_17 : (z_17 = 1 ∧ ∃ q : Nat, (q : Int) < (u.2.2.2 25) ∧ (u.2.2.1 6) q = set) ∨ (z_17 = 0 ∧ ∀ q : Nat, (q : Int) < (u.2.2.2 25) → (u.2.2.1 6) q ≠ set) := h_17
      refine j_if_eq SS (tgt := 24) (x := z_17) dX1_enter_20 (by decide) (by omega) (fun c_20 => ?_) (fun c_20 => ?_)
      · skip
        refine lv_aload_n SS.1 SS.2.1 dX1_enter_24 rfl (lv_at hl 0 rfl) ?_
        refine j_get SS hG hP 7 (v := .int (J (u.2.2.2 25))) (C := RX1) (T := TX1) (N := 4) rfl rfl inX1 2 (by decide) (ref := "GridPolygons$Coarse") kw_373 rfl rfl dX1_enter_25 ?_
        refine lv_istore_n (lv' := [(3, .int (J (u.2.2.2 25))), (0, .ref (q 7)), (1, .long set)]) SS.1 SS.2.1 dX1_enter_28 rfl hl (by decide) rfl (fun ls hl => ?_)
        have L_29 : ∀ (nn : Nat) (at9 : Int) (w1 : Nat → Int64) (H : Heap) (locs : List Loc) (hP : va_P D.1 j_cl (cW D q (sL u 6 w1)) H) (hS : va_S A st.heap H locs) (ls : Array Slot) (hl : lv_has ls 4 [(0, .ref (q 7)), (1, .long set), (3, .int (J at9))]) (i29_0 : 0 ≤ at9 ∧ at9 ≤ u.2.2.2 25) (i29_1 : sh_ (u.2.2.1 6) w1 (u.2.2.2 25) at9) (i29_2 : ∀ q : Nat, at9 ≤ q → (q : Int) < u.2.2.2 25 → u.2.2.1 6 q < set), at9.toNat < nn → W pr l en (headSpec (jw yX1_enter cX1_enter 4 none) (jr 2 44)).room st mi (([.ref (q 7), .long set] : List Value).toArray) below meth co H locs 0 0 (MQ below (jWv (fun u' => ∃ s6 : Nat → Int64, ∃ n : Int, u' = (sV (sL u 6 s6) 25 n) ∧ ((0 ≤ n ∧ n ≤ 80) ∧ EN_9 (u.2.2.1 6) s6 (u.2.2.2 25) n set)) (fun u' H => va_P D.1 j_cl (cW D q u') H) A) (([.ref (q 7), .long set] : List Value).toArray) st 0 0 A) (F0 mi 29 ls []) := by
          intro nn
          induction nn with
          | zero => intros; omega
          | succ nn ih_29 =>
            intro at9 w1 H locs hP hS ls hl i29_0 i29_1 i29_2 hm
            refine lv_iload_n SS.1 SS.2.1 dX1_enter_29 rfl (lv_at hl 2 rfl) ?_
            refine j_if_le SS (tgt := 66) (x := at9) dX1_enter_30 (by decide) (by omega) (fun c_30 => ?_) (fun c_30 => ?_)
            · skip
              refine lv_aload_n SS.1 SS.2.1 dX1_enter_66 rfl (lv_at hl 0 rfl) ?_
              refine j_get SS hG hP 7 (v := .ref (q 73)) (C := RX1) (T := TX1) (N := 4) rfl rfl inX1 1 (by decide) (ref := "GridPolygons$Coarse") kw_372 rfl rfl dX1_enter_67 ?_
              refine lv_iload_n SS.1 SS.2.1 dX1_enter_70 rfl (lv_at hl 2 rfl) ?_
              refine lv_lload_n SS.1 SS.2.1 dX1_enter_71 rfl (lv_at hl 1 rfl) ?_
              refine j_last SS hG hP (cW_D hD) hS 73 (n := 80) (f := w1) rfl (z := at9) (v := set) (by omega) (by omega) dX1_enter_72 (ws' := (cW D q (sL u 6 (vp_updL w1 (at9).toNat set)))) rfl (fun H locs hP hS => ?_)
              refine lv_aload_n SS.1 SS.2.1 dX1_enter_73 rfl (lv_at hl 0 rfl) ?_
              refine lv_dup SS.1 SS.2.1 dX1_enter_74 rfl ?_
              refine j_get SS hG hP 7 (v := .int (J (u.2.2.2 25))) (C := RX1) (T := TX1) (N := 4) rfl rfl inX1 2 (by decide) (ref := "GridPolygons$Coarse") kw_373 rfl rfl dX1_enter_75 ?_
              refine j_iconst SS dX1_enter_78 ?_
              refine j_iadd SS (x := (u.2.2.2 25)) (y := 1) dX1_enter_79 ?_
              refine j_put SS hG hP (cW_D hD) hS 7 (v := .int (J ((u.2.2.2 25) + 1))) (ty := .int) (C := RX1) (T := TX1) (N := 4) rfl rfl inX1 tyX1 tyX1_ok nmX1 2 (by decide) (ref := "GridPolygons$Coarse") kw_373 rfl rfl (by decide +kernel) rfl rfl (Nat.le_of_ble_eq_true rfl) dX1_enter_80 (ws' := (cW D q (sV (sL u 6 (vp_updL w1 (at9).toNat set)) 25 ((u.2.2.2 25) + 1)))) rfl (fun H locs hP hS => ?_)
              exact W.vret SS.1 SS.2.1 hr (fun t0 ht hW => ⟨⟨(sV (sL u 6 (vp_updL w1 (at9).toNat set)) 25 ((u.2.2.2 25) + 1)), rfl, (⟨(vp_updL w1 (at9).toNat set), ((u.2.2.2 25) + 1), rfl, ⟨by omega, Or.inr ⟨⟨fun e => by have := hz_2.2.2.2.mpr e; omega, by omega, by rcases h_17 with q | q; omega; exact q.2⟩, rfl, at9, w1, i29_0, i29_1, i29_2, by first | exact Or.inl (by omega) | exact Or.inr (fun q => by have q2 := hz_42.2.2.1.mpr q; omega), rfl⟩⟩⟩), by show va_P D.1 j_cl (cW D q (sV (sL u 6 (vp_updL w1 (at9).toNat set)) 25 ((u.2.2.2 25) + 1))) t0.heap; rw [ht]; first | exact hP | (simp only [sI_id, sL_id, sC_id, sX_id, sY_id, sH_id, sT_id, sV_id]; exact hP)⟩, hS.F ht⟩) hS.2.2 dX1_enter_83 hlk
            · skip
              refine lv_aload_n SS.1 SS.2.1 dX1_enter_33 rfl (lv_at hl 0 rfl) ?_
              refine j_get SS hG hP 7 (v := .ref (q 73)) (C := RX1) (T := TX1) (N := 4) rfl rfl inX1 1 (by decide) (ref := "GridPolygons$Coarse") kw_372 rfl rfl dX1_enter_34 ?_
              refine lv_iload_n SS.1 SS.2.1 dX1_enter_37 rfl (lv_at hl 2 rfl) ?_
              refine j_iconst SS dX1_enter_38 ?_
              refine j_isub SS (x := at9) (y := 1) dX1_enter_39 ?_
              refine j_lald SS hG hP 73 (n := 80) (f := w1) rfl (z := (at9 - 1)) (by omega) (by omega) dX1_enter_40 ?_
              refine lv_lload_n SS.1 SS.2.1 dX1_enter_41 rfl (lv_at hl 1 rfl) ?_
              refine j_lcmp SS dX1_enter_42 (fun z_42 hz_42 => ?_)
              refine j_if_ge SS (tgt := 66) (x := z_42) dX1_enter_43 (by decide) (by omega) (fun c_43 => ?_) (fun c_43 => ?_)
              · skip
                refine lv_aload_n SS.1 SS.2.1 dX1_enter_66 rfl (lv_at hl 0 rfl) ?_
                refine j_get SS hG hP 7 (v := .ref (q 73)) (C := RX1) (T := TX1) (N := 4) rfl rfl inX1 1 (by decide) (ref := "GridPolygons$Coarse") kw_372 rfl rfl dX1_enter_67 ?_
                refine lv_iload_n SS.1 SS.2.1 dX1_enter_70 rfl (lv_at hl 2 rfl) ?_
                refine lv_lload_n SS.1 SS.2.1 dX1_enter_71 rfl (lv_at hl 1 rfl) ?_
                refine j_last SS hG hP (cW_D hD) hS 73 (n := 80) (f := w1) rfl (z := at9) (v := set) (by omega) (by omega) dX1_enter_72 (ws' := (cW D q (sL u 6 (vp_updL w1 (at9).toNat set)))) rfl (fun H locs hP hS => ?_)
                refine lv_aload_n SS.1 SS.2.1 dX1_enter_73 rfl (lv_at hl 0 rfl) ?_
                refine lv_dup SS.1 SS.2.1 dX1_enter_74 rfl ?_
                refine j_get SS hG hP 7 (v := .int (J (u.2.2.2 25))) (C := RX1) (T := TX1) (N := 4) rfl rfl inX1 2 (by decide) (ref := "GridPolygons$Coarse") kw_373 rfl rfl dX1_enter_75 ?_
                refine j_iconst SS dX1_enter_78 ?_
                refine j_iadd SS (x := (u.2.2.2 25)) (y := 1) dX1_enter_79 ?_
                refine j_put SS hG hP (cW_D hD) hS 7 (v := .int (J ((u.2.2.2 25) + 1))) (ty := .int) (C := RX1) (T := TX1) (N := 4) rfl rfl inX1 tyX1 tyX1_ok nmX1 2 (by decide) (ref := "GridPolygons$Coarse") kw_373 rfl rfl (by decide +kernel) rfl rfl (Nat.le_of_ble_eq_true rfl) dX1_enter_80 (ws' := (cW D q (sV (sL u 6 (vp_updL w1 (at9).toNat set)) 25 ((u.2.2.2 25) + 1)))) rfl (fun H locs hP hS => ?_)
                exact W.vret SS.1 SS.2.1 hr (fun t0 ht hW => ⟨⟨(sV (sL u 6 (vp_updL w1 (at9).toNat set)) 25 ((u.2.2.2 25) + 1)), rfl, (⟨(vp_updL w1 (at9).toNat set), ((u.2.2.2 25) + 1), rfl, ⟨by omega, Or.inr ⟨⟨fun e => by have := hz_2.2.2.2.mpr e; omega, by omega, by rcases h_17 with q | q; omega; exact q.2⟩, rfl, at9, w1, i29_0, i29_1, i29_2, by first | exact Or.inl (by omega) | exact Or.inr (fun q => by have q2 := hz_42.2.2.1.mpr q; omega), rfl⟩⟩⟩), by show va_P D.1 j_cl (cW D q (sV (sL u 6 (vp_updL w1 (at9).toNat set)) 25 ((u.2.2.2 25) + 1))) t0.heap; rw [ht]; first | exact hP | (simp only [sI_id, sL_id, sC_id, sX_id, sY_id, sH_id, sT_id, sV_id]; exact hP)⟩, hS.F ht⟩) hS.2.2 dX1_enter_83 hlk
              · skip
                refine lv_aload_n SS.1 SS.2.1 dX1_enter_46 rfl (lv_at hl 0 rfl) ?_
                refine j_get SS hG hP 7 (v := .ref (q 73)) (C := RX1) (T := TX1) (N := 4) rfl rfl inX1 1 (by decide) (ref := "GridPolygons$Coarse") kw_372 rfl rfl dX1_enter_47 ?_
                refine lv_iload_n SS.1 SS.2.1 dX1_enter_50 rfl (lv_at hl 2 rfl) ?_
                refine lv_aload_n SS.1 SS.2.1 dX1_enter_51 rfl (lv_at hl 0 rfl) ?_
                refine j_get SS hG hP 7 (v := .ref (q 73)) (C := RX1) (T := TX1) (N := 4) rfl rfl inX1 1 (by decide) (ref := "GridPolygons$Coarse") kw_372 rfl rfl dX1_enter_52 ?_
                refine lv_iload_n SS.1 SS.2.1 dX1_enter_55 rfl (lv_at hl 2 rfl) ?_
                refine j_iconst SS dX1_enter_56 ?_
                refine j_isub SS (x := at9) (y := 1) dX1_enter_57 ?_
                refine j_lald SS hG hP 73 (n := 80) (f := w1) rfl (z := (at9 - 1)) (by omega) (by omega) dX1_enter_58 ?_
                refine j_last SS hG hP (cW_D hD) hS 73 (n := 80) (f := w1) rfl (z := at9) (v := (w1 ((at9 - 1)).toNat)) (by omega) (by omega) dX1_enter_59 (ws' := (cW D q (sL u 6 (vp_updL w1 (at9).toNat (w1 ((at9 - 1)).toNat))))) rfl (fun H locs hP hS => ?_)
                refine lv_iinc (v := J (at9 + (-1))) (lv' := [(3, .int (J (at9 + (-1)))), (0, .ref (q 7)), (1, .long set)]) SS.1 SS.2.1 dX1_enter_60 hl (k := 2) rfl (J_add _ _) (by decide) rfl (fun ls hl => ?_)
                refine lv_goto (tgt := 29) SS.1 SS.2.1 dX1_enter_63 (by decide) ?_
                exact ih_29 (at9 + (-1)) (vp_updL w1 (at9).toNat (w1 ((at9 - 1)).toNat)) _ _ hP hS ls (lv_sub hl [1, 2, 0] rfl) (by omega) (sh_s (by omega) (by omega) i29_1) (fun q h1 h2 => by by_cases e : (q : Int) = at9 - 1; (have w9 : q = (at9 - 1).toNat := (by omega); subst w9; rw [← i29_1.1 (at9 - 1).toNat (by omega)]; exact hz_42.2.2.1.mp (by omega)); exact i29_2 q (by omega) h2) (by omega)
        exact L_29 ((u.2.2.2 25).toNat + 1) (u.2.2.2 25) (u.2.2.1 6) _ _ hP hS ls (lv_sub hl [1, 2, 0] rfl) (by omega) (sh_0) (fun q h1 h2 => by omega) (Nat.lt_succ_self _)
      · skip
        exact W.vret SS.1 SS.2.1 hr (fun t0 ht hW => ⟨⟨(sV (sL u 6 (u.2.2.1 6)) 25 (u.2.2.2 25)), rfl, (⟨(u.2.2.1 6), (u.2.2.2 25), rfl, ⟨by omega, Or.inl ⟨by first | exact Or.inl (hz_2.2.2.2.mp (by omega)) | exact Or.inr (Or.inl (by omega)) | exact Or.inr (Or.inr (by rcases h_17 with q | q; exact q.2; omega)), rfl, rfl⟩⟩⟩), by show va_P D.1 j_cl (cW D q (sV (sL u 6 (u.2.2.1 6)) 25 (u.2.2.2 25))) t0.heap; rw [ht]; first | exact hP | (simp only [sI_id, sL_id, sC_id, sX_id, sY_id, sH_id, sT_id, sV_id]; exact hP)⟩, hS.F ht⟩) hS.2.2 dX1_enter_23 hlk
