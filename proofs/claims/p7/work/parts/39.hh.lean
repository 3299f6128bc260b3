
set_option maxHeartbeats 4000000 in
set_option maxRecDepth 100000 in
theorem c_X5_told (l : Launch) (D : JD) (q : Nat → Nat) (u : CS) (s : Int) (p0 : -2147483648 ≤ s ∧ s ≤ 2147483647) : Met l yX5_told (jw yX5_told cX5_told 2 (some .int)) (jr 0 0) (jP [.ref (q 66), .int (J s)] D (fun H => va_P D.1 j_cl (cW D q u) H)) (jRi (fun z => True)) 0 0 (fun _ => False) := by
  refine Met.ofW (cc := cX5_told) (maxL := 2) (ret := (some .int)) (by decide) rfl ?_
  intro pr en st mi args below meth co s₁ B hml hv
  obtain ⟨rfl, hG, hP⟩ := hv
  have hr := B.returns
  have hlk := B.notSynchronized
  have SS : jS pr mi co cX5_told 2 st _ RX5 := ⟨B.exec, B.bytes, hml, findClass_of_methodNamed B.named, fun w hw => atoms_spec (ws := (jw yX5_told cX5_told 2 (some .int))) B.pre w (List.mem_cons_of_mem _ hw)⟩
  have hl := lv_entry ([.ref (q 66), .int (J s)]) (n := 2) (Nat.le_of_ble_eq_true rfl)
  rw [lg_entry_eq]
  generalize (lg_sl ([.ref (q 66), .int (J s)]) ++ List.replicate (2 - (lg_sl ([.ref (q 66), .int (J s)])).length) Slot.unset).toArray = ls at hl ⊢
  have hl : lv_has ls 2 [(0, .ref (q 66)), (1, .int (J s))] := hl
  refine lv_iload_n SS.1 SS.2.1 dX5_told_0 rfl (lv_at hl 1 rfl) ?_
  refine j_if_lt SS (tgt := 10) (x := s) dX5_told_1 (by decide) (by omega) (fun c_1 => ?_) (fun c_1 => ?_)
  · skip
    refine j_iconst SS dX5_told_10 ?_
    refine lv_goto (tgt := 30) SS.1 SS.2.1 dX5_told_11 (by decide) ?_
    exact W.iret SS.1 SS.2.1 hr (fun t0 ht hW => ⟨_, rfl, ⟨(-1), rfl, (trivial)⟩, ht⟩) (fun _ h => nomatch h) dX5_told_30 hlk
  · skip
    refine lv_iload_n SS.1 SS.2.1 dX5_told_4 rfl (lv_at hl 1 rfl) ?_
    refine j_bipush SS dX5_told_5 (by decide +kernel) ?_
    refine j_icmp_lt SS (tgt := 14) (x := s) (y := 63) dX5_told_7 (by decide) (by omega) (by decide) (fun c_7 => ?_) (fun c_7 => ?_)
    · skip
      refine j_bipush SS dX5_told_14 (by decide +kernel) ?_
      refine lv_aload_n SS.1 SS.2.1 dX5_told_16 rfl (lv_at hl 0 rfl) ?_
      refine j_get SS hG hP 66 (v := .ref (q 53)) (C := RX5) (T := TX5) (N := 9) rfl rfl inX5 1 (by decide) (ref := "GridPolygons$Mesh") kw_311 rfl rfl dX5_told_17 ?_
      refine lv_iload_n SS.1 SS.2.1 dX5_told_20 rfl (lv_at hl 1 rfl) ?_
      refine j_iald SS hG hP 53 (n := 63) (f := (u.2.1 2)) rfl (z := s) (by omega) (by omega) dX5_told_21 ?_
      refine j_imul SS (x := 16) (y := ((u.2.1 2) (s).toNat)) dX5_told_22 ?_
      refine lv_aload_n SS.1 SS.2.1 dX5_told_23 rfl (lv_at hl 0 rfl) ?_
      refine j_get SS hG hP 66 (v := .ref (q 57)) (C := RX5) (T := TX5) (N := 9) rfl rfl inX5 2 (by decide) (ref := "GridPolygons$Mesh") kw_312 rfl rfl dX5_told_24 ?_
      refine lv_iload_n SS.1 SS.2.1 dX5_told_27 rfl (lv_at hl 1 rfl) ?_
      refine j_iald SS hG hP 57 (n := 63) (f := (u.2.1 3)) rfl (z := s) (by omega) (by omega) dX5_told_28 ?_
      refine j_iadd SS (x := (16 * ((u.2.1 2) (s).toNat))) (y := ((u.2.1 3) (s).toNat)) dX5_told_29 ?_
      exact W.iret SS.1 SS.2.1 hr (fun t0 ht hW => ⟨_, rfl, ⟨((16 * ((u.2.1 2) (s).toNat)) + ((u.2.1 3) (s).toNat)), rfl, (trivial)⟩, ht⟩) (fun _ h => nomatch h) dX5_told_30 hlk
    · skip
      refine j_iconst SS dX5_told_10 ?_
      refine lv_goto (tgt := 30) SS.1 SS.2.1 dX5_told_11 (by decide) ?_
      exact W.iret SS.1 SS.2.1 hr (fun t0 ht hW => ⟨_, rfl, ⟨(-1), rfl, (trivial)⟩, ht⟩) (fun _ h => nomatch h) dX5_told_30 hlk

set_option maxHeartbeats 4000000 in
set_option maxRecDepth 100000 in
theorem c_X5_number (l : Launch) (D : JD) (q : Nat → Nat) (u : CS) (a : Int) (b : Int) (p0 : 0 ≤ a ∧ a ≤ 12) (p1 : 0 ≤ b ∧ b ≤ 12) (p2 : ∀ k : Nat, -1 ≤ u.2.1 4 k ∧ u.2.1 4 k ≤ 63) : Met l yX5_number (jw yX5_number cX5_number 4 (some .int)) (jr 1 21) (jP [.ref (q 66), .int (J a), .int (J b)] D (fun H => va_P D.1 j_cl (cW D q u) H)) (jRi (fun z => -1 ≤ z ∧ z ≤ 63)) 0 0 (fun _ => False) := by
  refine Met.ofW (cc := cX5_number) (maxL := 4) (ret := (some .int)) (by decide) rfl ?_
  intro pr en st mi args below meth co s₁ B hml hv
  obtain ⟨rfl, hG, hP⟩ := hv
  have hr := B.returns
  have hlk := B.notSynchronized
  have SS : jS pr mi co cX5_number 4 st _ RX5 := ⟨B.exec, B.bytes, hml, findClass_of_methodNamed B.named, fun w hw => atoms_spec (ws := (jw yX5_number cX5_number 4 (some .int))) B.pre w (List.mem_cons_of_mem _ hw)⟩
  have hl := lv_entry ([.ref (q 66), .int (J a), .int (J b)]) (n := 4) (Nat.le_of_ble_eq_true rfl)
  rw [lg_entry_eq]
  generalize (lg_sl ([.ref (q 66), .int (J a), .int (J b)]) ++ List.replicate (4 - (lg_sl ([.ref (q 66), .int (J a), .int (J b)])).length) Slot.unset).toArray = ls at hl ⊢
  have hl : lv_has ls 4 [(0, .ref (q 66)), (1, .int (J a)), (2, .int (J b))] := hl
  refine lv_iload_n SS.1 SS.2.1 dX5_number_0 rfl (lv_at hl 1 rfl) ?_
  refine lv_iload_n SS.1 SS.2.1 dX5_number_1 rfl (lv_at hl 2 rfl) ?_
  refine j_sRi SS (As := [.int (J a), .int (J b)]) (rest := []) (c_J9_min_7cf53 l D  a b (show -2147483648 ≤ a ∧ a ≤ 2147483647 from (by omega)) (show -2147483648 ≤ b ∧ b ≤ 2147483647 from (by omega))) mf_J9_min_7cf53 kw_926 hG trivial rfl hl.1 ⟨⟨Nat.le_of_ble_eq_true rfl, Nat.le_of_ble_eq_true rfl⟩, Nat.le_of_ble_eq_true rfl, Nat.le_refl _, Nat.le_refl _⟩ rfl dX5_number_2 (fun z_2 h_2 => ?_)
  have h_2 : (z_2 = a ∨ z_2 = b) ∧ z_2 ≤ a ∧ z_2 ≤ b := h_2
  refine j_bipush SS dX5_number_5 (by decide +kernel) ?_
  refine j_imul SS (x := z_2) (y := 12) dX5_number_7 ?_
  refine lv_iload_n SS.1 SS.2.1 dX5_number_8 rfl (lv_at hl 1 rfl) ?_
  refine lv_iload_n SS.1 SS.2.1 dX5_number_9 rfl (lv_at hl 2 rfl) ?_
  refine j_sRi SS (As := [.int (J a), .int (J b)]) (rest := [.int (J (z_2 * 12))]) (c_J9_max_7cf53 l D  a b (show -2147483648 ≤ a ∧ a ≤ 2147483647 from (by omega)) (show -2147483648 ≤ b ∧ b ≤ 2147483647 from (by omega))) mf_J9_max_7cf53 kw_927 hG trivial rfl hl.1 ⟨⟨Nat.le_of_ble_eq_true rfl, Nat.le_of_ble_eq_true rfl⟩, Nat.le_of_ble_eq_true rfl, Nat.le_refl _, Nat.le_refl _⟩ rfl dX5_number_10 (fun z_10 h_10 => ?_)
  have h_10 : (z_10 = a ∨ z_10 = b) ∧ a ≤ z_10 ∧ b ≤ z_10 := h_10
  refine j_iadd SS (x := (z_2 * 12)) (y := z_10) dX5_number_13 ?_
  refine lv_istore_n (lv' := [(3, .int (J ((z_2 * 12) + z_10))), (0, .ref (q 66)), (1, .int (J a)), (2, .int (J b))]) SS.1 SS.2.1 dX5_number_14 rfl hl (by decide) rfl (fun ls hl => ?_)
  refine lv_iload_n SS.1 SS.2.1 dX5_number_15 rfl (lv_at hl 0 rfl) ?_
  refine j_if_lt SS (tgt := 28) (x := ((z_2 * 12) + z_10)) dX5_number_16 (by decide) (by omega) (fun c_16 => ?_) (fun c_16 => ?_)
  · skip
    refine j_iconst SS dX5_number_28 ?_
    refine lv_goto (tgt := 38) SS.1 SS.2.1 dX5_number_29 (by decide) ?_
    exact W.iret SS.1 SS.2.1 hr (fun t0 ht hW => ⟨_, rfl, ⟨(-1), rfl, (by first | exact p2 _ | omega)⟩, ht⟩) (fun _ h => nomatch h) dX5_number_38 hlk
  · skip
    refine lv_iload_n SS.1 SS.2.1 dX5_number_19 rfl (lv_at hl 0 rfl) ?_
    refine lv_aload_n SS.1 SS.2.1 dX5_number_20 rfl (lv_at hl 1 rfl) ?_
    refine j_get SS hG hP 66 (v := .ref (q 58)) (C := RX5) (T := TX5) (N := 9) rfl rfl inX5 4 (by decide) (ref := "GridPolygons$Mesh") kw_314 rfl rfl dX5_number_21 ?_
    refine va_alen SS.1 SS.2.1 hG.1 hP 58 0 rfl rfl (v := J (144 : Int)) (by first | rfl | exact J_nat _) dX5_number_24 ?_
    refine j_icmp_lt SS (tgt := 32) (x := ((z_2 * 12) + z_10)) (y := 144) dX5_number_25 (by decide) (by omega) (by decide) (fun c_25 => ?_) (fun c_25 => ?_)
    · skip
      refine lv_aload_n SS.1 SS.2.1 dX5_number_32 rfl (lv_at hl 1 rfl) ?_
      refine j_get SS hG hP 66 (v := .ref (q 58)) (C := RX5) (T := TX5) (N := 9) rfl rfl inX5 4 (by decide) (ref := "GridPolygons$Mesh") kw_314 rfl rfl dX5_number_33 ?_
      refine lv_iload_n SS.1 SS.2.1 dX5_number_36 rfl (lv_at hl 0 rfl) ?_
      refine j_iald SS hG hP 58 (n := 144) (f := (u.2.1 4)) rfl (z := ((z_2 * 12) + z_10)) (by omega) (by omega) dX5_number_37 ?_
      exact W.iret SS.1 SS.2.1 hr (fun t0 ht hW => ⟨_, rfl, ⟨((u.2.1 4) (((z_2 * 12) + z_10)).toNat), rfl, (by first | exact p2 _ | omega)⟩, ht⟩) (fun _ h => nomatch h) dX5_number_38 hlk
    · skip
      refine j_iconst SS dX5_number_28 ?_
      refine lv_goto (tgt := 38) SS.1 SS.2.1 dX5_number_29 (by decide) ?_
      exact W.iret SS.1 SS.2.1 hr (fun t0 ht hW => ⟨_, rfl, ⟨(-1), rfl, (by first | exact p2 _ | omega)⟩, ht⟩) (fun _ h => nomatch h) dX5_number_38 hlk

set_option maxHeartbeats 4000000 in
set_option maxRecDepth 100000 in
theorem c_X5_cross (l : Launch) (D : JD) (q : Nat → Nat) (u : CS) (a : Int) (b : Int) (c : Int) (d : Int) (p0 : RB 40 u 9) (p1 : -2147483648 ≤ a ∧ a ≤ 2147483647) (p2 : -2147483648 ≤ b ∧ b ≤ 2147483647) (p3 : -2147483648 ≤ c ∧ c ≤ 2147483647) (p4 : -2147483648 ≤ d ∧ d ≤ 2147483647) : Met l yX5_cross (jw yX5_cross cX5_cross 5 (some .boolean)) (jr 2 44) (jP [.ref (q 66), .int (J a), .int (J b), .int (J c), .int (J d)] D (fun H => va_P D.1 j_cl (cW D q u) H)) (jRi (fun z => z = 0 ∨ z = 1)) 0 0 (fun _ => False) := by
  refine Met.ofW (cc := cX5_cross) (maxL := 5) (ret := (some .boolean)) (by decide) rfl ?_
  intro pr en st mi args below meth co s₁ B hml hv
  obtain ⟨rfl, hG, hP⟩ := hv
  have hr := B.returns
  have hlk := B.notSynchronized
  have SS : jS pr mi co cX5_cross 5 st _ RX5 := ⟨B.exec, B.bytes, hml, findClass_of_methodNamed B.named, fun w hw => atoms_spec (ws := (jw yX5_cross cX5_cross 5 (some .boolean))) B.pre w (List.mem_cons_of_mem _ hw)⟩
  have hl := lv_entry ([.ref (q 66), .int (J a), .int (J b), .int (J c), .int (J d)]) (n := 5) (Nat.le_of_ble_eq_true rfl)
  rw [lg_entry_eq]
  generalize (lg_sl ([.ref (q 66), .int (J a), .int (J b), .int (J c), .int (J d)]) ++ List.replicate (5 - (lg_sl ([.ref (q 66), .int (J a), .int (J b), .int (J c), .int (J d)])).length) Slot.unset).toArray = ls at hl ⊢
  have hl : lv_has ls 5 [(0, .ref (q 66)), (1, .int (J a)), (2, .int (J b)), (3, .int (J c)), (4, .int (J d))] := hl
  refine lv_aload_n SS.1 SS.2.1 dX5_cross_0 rfl (lv_at hl 0 rfl) ?_
  refine j_get SS hG hP 66 (v := .ref (q (9 + 5 * 9))) (C := RX5) (T := TX5) (N := 9) rfl rfl inX5 0 (by decide) (ref := "GridPolygons$Mesh") kw_310 rfl rfl dX5_cross_1 ?_
  refine lv_iload_n SS.1 SS.2.1 dX5_cross_4 rfl (lv_at hl 1 rfl) ?_
  refine lv_iload_n SS.1 SS.2.1 dX5_cross_5 rfl (lv_at hl 2 rfl) ?_
  refine lv_iload_n SS.1 SS.2.1 dX5_cross_6 rfl (lv_at hl 3 rfl) ?_
  refine j_vRi SS (As := [.int (J a), .int (J b), .int (J c)]) (rest := []) (c_X6_turn l D q u  a b c (show RB 40 u 9 from (p0)) (show -2147483648 ≤ a ∧ a ≤ 2147483647 from (by omega)) (show -2147483648 ≤ b ∧ b ≤ 2147483647 from (by omega)) (show -2147483648 ≤ c ∧ c ≤ 2147483647 from (by omega))) mf_X6_turn kw_904 hG hP hP (ci := 6) (q0 := (9 + 5 * 9)) rfl (cw_pts (by omega)) rfl rfl hl.1 ⟨⟨Nat.le_of_ble_eq_true rfl, Nat.le_of_ble_eq_true rfl⟩, Nat.le_of_ble_eq_true rfl, Nat.le_refl _, Nat.le_refl _⟩ rfl dX5_cross_7 (fun z_7 h_7 => ?_)
  have h_7 : -12800 ≤ z_7 ∧ z_7 ≤ 12800 := h_7
  refine lv_aload_n SS.1 SS.2.1 dX5_cross_10 rfl (lv_at hl 0 rfl) ?_
  refine j_get SS hG hP 66 (v := .ref (q (9 + 5 * 9))) (C := RX5) (T := TX5) (N := 9) rfl rfl inX5 0 (by decide) (ref := "GridPolygons$Mesh") kw_310 rfl rfl dX5_cross_11 ?_
  refine lv_iload_n SS.1 SS.2.1 dX5_cross_14 rfl (lv_at hl 1 rfl) ?_
  refine lv_iload_n SS.1 SS.2.1 dX5_cross_15 rfl (lv_at hl 2 rfl) ?_
  refine lv_iload SS.1 SS.2.1 dX5_cross_16 (lv_at hl 4 rfl) ?_
  refine j_vRi SS (As := [.int (J a), .int (J b), .int (J d)]) (rest := [.int (J z_7)]) (c_X6_turn l D q u  a b d (show RB 40 u 9 from (p0)) (show -2147483648 ≤ a ∧ a ≤ 2147483647 from (by omega)) (show -2147483648 ≤ b ∧ b ≤ 2147483647 from (by omega)) (show -2147483648 ≤ d ∧ d ≤ 2147483647 from (by omega))) mf_X6_turn kw_904 hG hP hP (ci := 6) (q0 := (9 + 5 * 9)) rfl (cw_pts (by omega)) rfl rfl hl.1 ⟨⟨Nat.le_of_ble_eq_true rfl, Nat.le_of_ble_eq_true rfl⟩, Nat.le_of_ble_eq_true rfl, Nat.le_refl _, Nat.le_refl _⟩ rfl dX5_cross_18 (fun z_18 h_18 => ?_)
  have h_18 : -12800 ≤ z_18 ∧ z_18 ≤ 12800 := h_18
  refine j_imul SS (x := z_7) (y := z_18) dX5_cross_21 ?_
  have m1 := mulb (A := 12800) (B := 12800) (a := z_7) (b := z_18) (by omega) (by omega)
  refine j_if_ge SS (tgt := 55) (x := (z_7 * z_18)) dX5_cross_22 (by decide) (by omega) (fun c_22 => ?_) (fun c_22 => ?_)
  · skip
    refine j_iconst SS dX5_cross_55 ?_
    exact W.zret SS.1 SS.2.1 hr (j_nz (by decide)) (fun t0 ht hW => ⟨_, rfl, ⟨0, rfl, (by omega)⟩, ht⟩) (fun _ h => nomatch h) dX5_cross_56 hlk
  · skip
    refine lv_aload_n SS.1 SS.2.1 dX5_cross_25 rfl (lv_at hl 0 rfl) ?_
    refine j_get SS hG hP 66 (v := .ref (q (9 + 5 * 9))) (C := RX5) (T := TX5) (N := 9) rfl rfl inX5 0 (by decide) (ref := "GridPolygons$Mesh") kw_310 rfl rfl dX5_cross_26 ?_
    refine lv_iload_n SS.1 SS.2.1 dX5_cross_29 rfl (lv_at hl 3 rfl) ?_
    refine lv_iload SS.1 SS.2.1 dX5_cross_30 (lv_at hl 4 rfl) ?_
    refine lv_iload_n SS.1 SS.2.1 dX5_cross_32 rfl (lv_at hl 1 rfl) ?_
    refine j_vRi SS (As := [.int (J c), .int (J d), .int (J a)]) (rest := []) (c_X6_turn l D q u  c d a (show RB 40 u 9 from (p0)) (show -2147483648 ≤ c ∧ c ≤ 2147483647 from (by omega)) (show -2147483648 ≤ d ∧ d ≤ 2147483647 from (by omega)) (show -2147483648 ≤ a ∧ a ≤ 2147483647 from (by omega))) mf_X6_turn kw_904 hG hP hP (ci := 6) (q0 := (9 + 5 * 9)) rfl (cw_pts (by omega)) rfl rfl hl.1 ⟨⟨Nat.le_of_ble_eq_true rfl, Nat.le_of_ble_eq_true rfl⟩, Nat.le_of_ble_eq_true rfl, Nat.le_refl _, Nat.le_refl _⟩ rfl dX5_cross_33 (fun z_33 h_33 => ?_)
    have h_33 : -12800 ≤ z_33 ∧ z_33 ≤ 12800 := h_33
    refine lv_aload_n SS.1 SS.2.1 dX5_cross_36 rfl (lv_at hl 0 rfl) ?_
    refine j_get SS hG hP 66 (v := .ref (q (9 + 5 * 9))) (C := RX5) (T := TX5) (N := 9) rfl rfl inX5 0 (by decide) (ref := "GridPolygons$Mesh") kw_310 rfl rfl dX5_cross_37 ?_
    refine lv_iload_n SS.1 SS.2.1 dX5_cross_40 rfl (lv_at hl 3 rfl) ?_
    refine lv_iload SS.1 SS.2.1 dX5_cross_41 (lv_at hl 4 rfl) ?_
    refine lv_iload_n SS.1 SS.2.1 dX5_cross_43 rfl (lv_at hl 2 rfl) ?_
    refine j_vRi SS (As := [.int (J c), .int (J d), .int (J b)]) (rest := [.int (J z_33)]) (c_X6_turn l D q u  c d b (show RB 40 u 9 from (p0)) (show -2147483648 ≤ c ∧ c ≤ 2147483647 from (by omega)) (show -2147483648 ≤ d ∧ d ≤ 2147483647 from (by omega)) (show -2147483648 ≤ b ∧ b ≤ 2147483647 from (by omega))) mf_X6_turn kw_904 hG hP hP (ci := 6) (q0 := (9 + 5 * 9)) rfl (cw_pts (by omega)) rfl rfl hl.1 ⟨⟨Nat.le_of_ble_eq_true rfl, Nat.le_of_ble_eq_true rfl⟩, Nat.le_of_ble_eq_true rfl, Nat.le_refl _, Nat.le_refl _⟩ rfl dX5_cross_44 (fun z_44 h_44 => ?_)
    have h_44 : -12800 ≤ z_44 ∧ z_44 ≤ 12800 := h_44
    refine j_imul SS (x := z_33) (y := z_44) dX5_cross_47 ?_
    have m2 := mulb (A := 12800) (B := 12800) (a := z_33) (b := z_44) (by omega) (by omega)
    refine j_if_ge SS (tgt := 55) (x := (z_33 * z_44)) dX5_cross_48 (by decide) (by omega) (fun c_48 => ?_) (fun c_48 => ?_)
    · skip
      refine j_iconst SS dX5_cross_55 ?_
      exact W.zret SS.1 SS.2.1 hr (j_nz (by decide)) (fun t0 ht hW => ⟨_, rfl, ⟨0, rfl, (by omega)⟩, ht⟩) (fun _ h => nomatch h) dX5_cross_56 hlk
    · skip
      refine j_iconst SS dX5_cross_51 ?_
      refine lv_goto (tgt := 56) SS.1 SS.2.1 dX5_cross_52 (by decide) ?_
      exact W.zret SS.1 SS.2.1 hr (j_nz (by decide)) (fun t0 ht hW => ⟨_, rfl, ⟨1, rfl, (by omega)⟩, ht⟩) (fun _ h => nomatch h) dX5_cross_56 hlk

set_option maxHeartbeats 4000000 in
set_option maxRecDepth 100000 in
theorem c_X5_appendSegment (l : Launch) (D : JD) (q : Nat → Nat) (u : CS) (A : Nat → Prop) (hD : va_D A (cW D q u)) (a : Int) (b : Int) (p0 : 0 ≤ a ∧ a ≤ 12) (p1 : 0 ≤ b ∧ b ≤ 12) (p2 : 0 ≤ u.2.2.2 20 ∧ u.2.2.2 20 ≤ 63) (p3 : ∀ k : Nat, 0 ≤ u.2.1 2 k ∧ u.2.1 2 k ≤ 12) (p4 : ∀ k : Nat, 0 ≤ u.2.1 3 k ∧ u.2.1 3 k ≤ 12) (p5 : ∀ k : Nat, -1 ≤ u.2.1 4 k ∧ u.2.1 4 k ≤ 63) : Met l yX5_appendSegment (jw yX5_appendSegment cX5_appendSegment 4 none) (jr 0 0) (jP [.ref (q 66), .int (J a), .int (J b)] D (fun H => va_P D.1 j_cl (cW D q u) H)) (jWv (fun u' => ∃ n : Int, ∃ f : Nat → Int, ∃ g : Nat → Int, ∃ nb : Nat → Int, u' = (sV (sI (sI (sI u 2 f) 3 g) 4 nb) 20 n) ∧ ((0 ≤ n ∧ n ≤ 63) ∧ (∀ k : Nat, 0 ≤ f k ∧ f k ≤ 12) ∧ (∀ k : Nat, 0 ≤ g k ∧ g k ≤ 12) ∧ (∀ k : Nat, -1 ≤ nb k ∧ nb k ≤ 63))) (fun u' H => va_P D.1 j_cl (cW D q u') H) A) 0 0 A := by
  refine Met.ofW (cc := cX5_appendSegment) (maxL := 4) (ret := none) (by decide) rfl ?_
  intro pr en st mi args below meth co s₁ B hml hv
  obtain ⟨rfl, hG, hP⟩ := hv
  have hr := B.returns
  have hlk := B.notSynchronized
  have SS : jS pr mi co cX5_appendSegment 4 st _ RX5 := ⟨B.exec, B.bytes, hml, findClass_of_methodNamed B.named, fun w hw => atoms_spec (ws := (jw yX5_appendSegment cX5_appendSegment 4 none)) B.pre w (List.mem_cons_of_mem _ hw)⟩
  have hl := lv_entry ([.ref (q 66), .int (J a), .int (J b)]) (n := 4) (Nat.le_of_ble_eq_true rfl)
  rw [lg_entry_eq]
  generalize (lg_sl ([.ref (q 66), .int (J a), .int (J b)]) ++ List.replicate (4 - (lg_sl ([.ref (q 66), .int (J a), .int (J b)])).length) Slot.unset).toArray = ls at hl ⊢
  have hl : lv_has ls 4 [(0, .ref (q 66)), (1, .int (J a)), (2, .int (J b))] := hl
  have hS : va_S A st.heap st.heap [] := va_S.rf
  refine lv_iload_n SS.1 SS.2.1 dX5_appendSegment_0 rfl (lv_at hl 1 rfl) ?_
  refine j_bipush SS dX5_appendSegment_1 (by decide +kernel) ?_
  refine j_imul SS (x := a) (y := 12) dX5_appendSegment_3 ?_
  refine lv_iload_n SS.1 SS.2.1 dX5_appendSegment_4 rfl (lv_at hl 2 rfl) ?_
  refine j_iadd SS (x := (a * 12)) (y := b) dX5_appendSegment_5 ?_
  refine lv_istore_n (lv' := [(3, .int (J ((a * 12) + b))), (0, .ref (q 66)), (1, .int (J a)), (2, .int (J b))]) SS.1 SS.2.1 dX5_appendSegment_6 rfl hl (by decide) rfl (fun ls hl => ?_)
  refine lv_aload_n SS.1 SS.2.1 dX5_appendSegment_7 rfl (lv_at hl 1 rfl) ?_
  refine j_get SS hG hP 66 (v := .int (J (u.2.2.2 20))) (C := RX5) (T := TX5) (N := 9) rfl rfl inX5 5 (by decide) (ref := "GridPolygons$Mesh") kw_315 rfl rfl dX5_appendSegment_8 ?_
  refine j_bipush SS dX5_appendSegment_11 (by decide +kernel) ?_
  refine j_icmp_ge SS (tgt := 69) (x := (u.2.2.2 20)) (y := 63) dX5_appendSegment_13 (by decide) (by omega) (by decide) (fun c_13 => ?_) (fun c_13 => ?_)
  · skip
    exact W.vret SS.1 SS.2.1 hr (fun t0 ht hW => ⟨⟨(sV (sI (sI (sI u 2 (u.2.1 2)) 3 (u.2.1 3)) 4 (u.2.1 4)) 20 (u.2.2.2 20)), rfl, (⟨(u.2.2.2 20), (u.2.1 2), (u.2.1 3), (u.2.1 4), rfl, by first | exact ⟨by omega, p3, p4, p5⟩ | exact ⟨by omega, UP_b p3 (by omega), UP_b p4 (by omega), UP_b p5 (by omega)⟩⟩), by show va_P D.1 j_cl (cW D q (sV (sI (sI (sI u 2 (u.2.1 2)) 3 (u.2.1 3)) 4 (u.2.1 4)) 20 (u.2.2.2 20))) t0.heap; rw [ht]; first | exact hP | (simp only [sI_id, sL_id, sC_id, sX_id, sY_id, sH_id, sT_id, sV_id]; exact hP)⟩, hS.F ht⟩) hS.2.2 dX5_appendSegment_69 hlk
  · skip
    refine lv_iload_n SS.1 SS.2.1 dX5_appendSegment_16 rfl (lv_at hl 0 rfl) ?_
    refine j_if_lt SS (tgt := 69) (x := ((a * 12) + b)) dX5_appendSegment_17 (by decide) (by omega) (fun c_17 => ?_) (fun c_17 => ?_)
    · skip
      exact W.vret SS.1 SS.2.1 hr (fun t0 ht hW => ⟨⟨(sV (sI (sI (sI u 2 (u.2.1 2)) 3 (u.2.1 3)) 4 (u.2.1 4)) 20 (u.2.2.2 20)), rfl, (⟨(u.2.2.2 20), (u.2.1 2), (u.2.1 3), (u.2.1 4), rfl, by first | exact ⟨by omega, p3, p4, p5⟩ | exact ⟨by omega, UP_b p3 (by omega), UP_b p4 (by omega), UP_b p5 (by omega)⟩⟩), by show va_P D.1 j_cl (cW D q (sV (sI (sI (sI u 2 (u.2.1 2)) 3 (u.2.1 3)) 4 (u.2.1 4)) 20 (u.2.2.2 20))) t0.heap; rw [ht]; first | exact hP | (simp only [sI_id, sL_id, sC_id, sX_id, sY_id, sH_id, sT_id, sV_id]; exact hP)⟩, hS.F ht⟩) hS.2.2 dX5_appendSegment_69 hlk
    · skip
      refine lv_iload_n SS.1 SS.2.1 dX5_appendSegment_20 rfl (lv_at hl 0 rfl) ?_
      refine lv_aload_n SS.1 SS.2.1 dX5_appendSegment_21 rfl (lv_at hl 1 rfl) ?_
      refine j_get SS hG hP 66 (v := .ref (q 58)) (C := RX5) (T := TX5) (N := 9) rfl rfl inX5 4 (by decide) (ref := "GridPolygons$Mesh") kw_314 rfl rfl dX5_appendSegment_22 ?_
      refine va_alen SS.1 SS.2.1 hG.1 hP 58 0 rfl rfl (v := J (144 : Int)) (by first | rfl | exact J_nat _) dX5_appendSegment_25 ?_
      refine j_icmp_ge SS (tgt := 69) (x := ((a * 12) + b)) (y := 144) dX5_appendSegment_26 (by decide) (by omega) (by decide) (fun c_26 => ?_) (fun c_26 => ?_)
      · skip
        exact W.vret SS.1 SS.2.1 hr (fun t0 ht hW => ⟨⟨(sV (sI (sI (sI u 2 (u.2.1 2)) 3 (u.2.1 3)) 4 (u.2.1 4)) 20 (u.2.2.2 20)), rfl, (⟨(u.2.2.2 20), (u.2.1 2), (u.2.1 3), (u.2.1 4), rfl, by first | exact ⟨by omega, p3, p4, p5⟩ | exact ⟨by omega, UP_b p3 (by omega), UP_b p4 (by omega), UP_b p5 (by omega)⟩⟩), by show va_P D.1 j_cl (cW D q (sV (sI (sI (sI u 2 (u.2.1 2)) 3 (u.2.1 3)) 4 (u.2.1 4)) 20 (u.2.2.2 20))) t0.heap; rw [ht]; first | exact hP | (simp only [sI_id, sL_id, sC_id, sX_id, sY_id, sH_id, sT_id, sV_id]; exact hP)⟩, hS.F ht⟩) hS.2.2 dX5_appendSegment_69 hlk
      · skip
        refine lv_aload_n SS.1 SS.2.1 dX5_appendSegment_29 rfl (lv_at hl 1 rfl) ?_
        refine j_get SS hG hP 66 (v := .ref (q 53)) (C := RX5) (T := TX5) (N := 9) rfl rfl inX5 1 (by decide) (ref := "GridPolygons$Mesh") kw_311 rfl rfl dX5_appendSegment_30 ?_
        refine lv_aload_n SS.1 SS.2.1 dX5_appendSegment_33 rfl (lv_at hl 1 rfl) ?_
        refine j_get SS hG hP 66 (v := .int (J (u.2.2.2 20))) (C := RX5) (T := TX5) (N := 9) rfl rfl inX5 5 (by decide) (ref := "GridPolygons$Mesh") kw_315 rfl rfl dX5_appendSegment_34 ?_
        refine lv_iload_n SS.1 SS.2.1 dX5_appendSegment_37 rfl (lv_at hl 2 rfl) ?_
        refine j_iast SS hG hP (cW_D hD) hS 53 (n := 63) (f := (u.2.1 2)) rfl (z := (u.2.2.2 20)) (v := a) (by omega) (by omega) dX5_appendSegment_38 (ws' := (cW D q (sI u 2 (upI (u.2.1 2) ((u.2.2.2 20)).toNat a)))) rfl (fun H locs hP hS => ?_)
        refine lv_aload_n SS.1 SS.2.1 dX5_appendSegment_39 rfl (lv_at hl 1 rfl) ?_
        refine j_get SS hG hP 66 (v := .ref (q 57)) (C := RX5) (T := TX5) (N := 9) rfl rfl inX5 2 (by decide) (ref := "GridPolygons$Mesh") kw_312 rfl rfl dX5_appendSegment_40 ?_
        refine lv_aload_n SS.1 SS.2.1 dX5_appendSegment_43 rfl (lv_at hl 1 rfl) ?_
        refine j_get SS hG hP 66 (v := .int (J (u.2.2.2 20))) (C := RX5) (T := TX5) (N := 9) rfl rfl inX5 5 (by decide) (ref := "GridPolygons$Mesh") kw_315 rfl rfl dX5_appendSegment_44 ?_
        refine lv_iload_n SS.1 SS.2.1 dX5_appendSegment_47 rfl (lv_at hl 3 rfl) ?_
        refine j_iast SS hG hP (cW_D hD) hS 57 (n := 63) (f := (u.2.1 3)) rfl (z := (u.2.2.2 20)) (v := b) (by omega) (by omega) dX5_appendSegment_48 (ws' := (cW D q (sI (sI u 2 (upI (u.2.1 2) ((u.2.2.2 20)).toNat a)) 3 (upI (u.2.1 3) ((u.2.2.2 20)).toNat b)))) rfl (fun H locs hP hS => ?_)
        refine lv_aload_n SS.1 SS.2.1 dX5_appendSegment_49 rfl (lv_at hl 1 rfl) ?_
        refine j_get SS hG hP 66 (v := .ref (q 58)) (C := RX5) (T := TX5) (N := 9) rfl rfl inX5 4 (by decide) (ref := "GridPolygons$Mesh") kw_314 rfl rfl dX5_appendSegment_50 ?_
        refine lv_iload_n SS.1 SS.2.1 dX5_appendSegment_53 rfl (lv_at hl 0 rfl) ?_
        refine lv_aload_n SS.1 SS.2.1 dX5_appendSegment_54 rfl (lv_at hl 1 rfl) ?_
        refine j_get SS hG hP 66 (v := .int (J (u.2.2.2 20))) (C := RX5) (T := TX5) (N := 9) rfl rfl inX5 5 (by decide) (ref := "GridPolygons$Mesh") kw_315 rfl rfl dX5_appendSegment_55 ?_
        refine j_iast SS hG hP (cW_D hD) hS 58 (n := 144) (f := (u.2.1 4)) rfl (z := ((a * 12) + b)) (v := (u.2.2.2 20)) (by omega) (by omega) dX5_appendSegment_58 (ws' := (cW D q (sI (sI (sI u 2 (upI (u.2.1 2) ((u.2.2.2 20)).toNat a)) 3 (upI (u.2.1 3) ((u.2.2.2 20)).toNat b)) 4 (upI (u.2.1 4) (((a * 12) + b)).toNat (u.2.2.2 20))))) rfl (fun H locs hP hS => ?_)
        refine lv_aload_n SS.1 SS.2.1 dX5_appendSegment_59 rfl (lv_at hl 1 rfl) ?_
        refine lv_dup SS.1 SS.2.1 dX5_appendSegment_60 rfl ?_
        refine j_get SS hG hP 66 (v := .int (J (u.2.2.2 20))) (C := RX5) (T := TX5) (N := 9) rfl rfl inX5 5 (by decide) (ref := "GridPolygons$Mesh") kw_315 rfl rfl dX5_appendSegment_61 ?_
        refine j_iconst SS dX5_appendSegment_64 ?_
        refine j_iadd SS (x := (u.2.2.2 20)) (y := 1) dX5_appendSegment_65 ?_
        refine j_put SS hG hP (cW_D hD) hS 66 (v := .int (J ((u.2.2.2 20) + 1))) (ty := .int) (C := RX5) (T := TX5) (N := 9) rfl rfl inX5 tyX5 tyX5_ok nmX5 5 (by decide) (ref := "GridPolygons$Mesh") kw_315 rfl rfl (by decide +kernel) rfl rfl (Nat.le_of_ble_eq_true rfl) dX5_appendSegment_66 (ws' := (cW D q (sV (sI (sI (sI u 2 (upI (u.2.1 2) ((u.2.2.2 20)).toNat a)) 3 (upI (u.2.1 3) ((u.2.2.2 20)).toNat b)) 4 (upI (u.2.1 4) (((a * 12) + b)).toNat (u.2.2.2 20))) 20 ((u.2.2.2 20) + 1)))) rfl (fun H locs hP hS => ?_)
        exact W.vret SS.1 SS.2.1 hr (fun t0 ht hW => ⟨⟨(sV (sI (sI (sI u 2 (upI (u.2.1 2) ((u.2.2.2 20)).toNat a)) 3 (upI (u.2.1 3) ((u.2.2.2 20)).toNat b)) 4 (upI (u.2.1 4) (((a * 12) + b)).toNat (u.2.2.2 20))) 20 ((u.2.2.2 20) + 1)), rfl, (⟨((u.2.2.2 20) + 1), (upI (u.2.1 2) ((u.2.2.2 20)).toNat a), (upI (u.2.1 3) ((u.2.2.2 20)).toNat b), (upI (u.2.1 4) (((a * 12) + b)).toNat (u.2.2.2 20)), rfl, by first | exact ⟨by omega, p3, p4, p5⟩ | exact ⟨by omega, UP_b p3 (by omega), UP_b p4 (by omega), UP_b p5 (by omega)⟩⟩), by show va_P D.1 j_cl (cW D q (sV (sI (sI (sI u 2 (upI (u.2.1 2) ((u.2.2.2 20)).toNat a)) 3 (upI (u.2.1 3) ((u.2.2.2 20)).toNat b)) 4 (upI (u.2.1 4) (((a * 12) + b)).toNat (u.2.2.2 20))) 20 ((u.2.2.2 20) + 1))) t0.heap; rw [ht]; first | exact hP | (simp only [sI_id, sL_id, sC_id, sX_id, sY_id, sH_id, sT_id, sV_id]; exact hP)⟩, hS.F ht⟩) hS.2.2 dX5_appendSegment_69 hlk

set_option maxHeartbeats 4000000 in
set_option maxRecDepth 100000 in
theorem c_X5_flipped (l : Launch) (D : JD) (q : Nat → Nat) (u : CS) (set : Int64) (flip : Int) (p0 : -2147483648 ≤ flip ∧ flip ≤ 2147483647) : Met l yX5_flipped (jw yX5_flipped cX5_flipped 4 (some .long)) (jr 0 0) (jP [.ref (q 66), .long set, .int (J flip)] D (fun H => va_P D.1 j_cl (cW D q u) H)) (vp_Sl (fun x9 => True)) 0 0 (fun _ => False) := by
  refine Met.ofW (cc := cX5_flipped) (maxL := 4) (ret := (some .long)) (by decide) rfl ?_
  intro pr en st mi args below meth co s₁ B hml hv
  obtain ⟨rfl, hG, hP⟩ := hv
  have hr := B.returns
  have hlk := B.notSynchronized
  have SS : jS pr mi co cX5_flipped 4 st _ RX5 := ⟨B.exec, B.bytes, hml, findClass_of_methodNamed B.named, fun w hw => atoms_spec (ws := (jw yX5_flipped cX5_flipped 4 (some .long))) B.pre w (List.mem_cons_of_mem _ hw)⟩
  have hl := lv_entry ([.ref (q 66), .long set, .int (J flip)]) (n := 4) (Nat.le_of_ble_eq_true rfl)
  rw [lg_entry_eq]
  generalize (lg_sl ([.ref (q 66), .long set, .int (J flip)]) ++ List.replicate (4 - (lg_sl ([.ref (q 66), .long set, .int (J flip)])).length) Slot.unset).toArray = ls at hl ⊢
  have hl : lv_has ls 4 [(0, .ref (q 66)), (1, .long set), (3, .int (J flip))] := hl
  refine lv_iload_n SS.1 SS.2.1 dX5_flipped_0 rfl (lv_at hl 2 rfl) ?_
  refine j_if_lt SS (tgt := 29) (x := flip) dX5_flipped_1 (by decide) (by omega) (fun c_1 => ?_) (fun c_1 => ?_)
  · skip
    refine lv_lconst (v := 0) SS.1 SS.2.1 dX5_flipped_29 (by decide +kernel) ?_
    exact W.lret SS.1 SS.2.1 hr (fun t0 ht hW => ⟨_, rfl, (trivial), ht⟩) (fun _ h => nomatch h) dX5_flipped_30 hlk
  · skip
    refine lv_iload_n SS.1 SS.2.1 dX5_flipped_4 rfl (lv_at hl 2 rfl) ?_
    refine j_sipush SS dX5_flipped_5 (by decide +kernel) ?_
    refine j_icmp_ge SS (tgt := 29) (x := flip) (y := 756) dX5_flipped_8 (by decide) (by omega) (by decide) (fun c_8 => ?_) (fun c_8 => ?_)
    · skip
      refine lv_lconst (v := 0) SS.1 SS.2.1 dX5_flipped_29 (by decide +kernel) ?_
      exact W.lret SS.1 SS.2.1 hr (fun t0 ht hW => ⟨_, rfl, (trivial), ht⟩) (fun _ h => nomatch h) dX5_flipped_30 hlk
    · skip
      refine lv_lload_n SS.1 SS.2.1 dX5_flipped_11 rfl (lv_at hl 1 rfl) ?_
      refine lv_aload_n SS.1 SS.2.1 dX5_flipped_12 rfl (lv_at hl 0 rfl) ?_
      refine j_get SS hG hP 66 (v := .ref (q 71)) (C := RX5) (T := TX5) (N := 9) rfl rfl inX5 6 (by decide) (ref := "GridPolygons$Mesh") kw_317 rfl rfl dX5_flipped_13 ?_
      refine lv_iload_n SS.1 SS.2.1 dX5_flipped_16 rfl (lv_at hl 2 rfl) ?_
      refine j_lald SS hG hP 71 (n := 756) (f := (u.2.2.1 4)) rfl (z := flip) (by omega) (by omega) dX5_flipped_17 ?_
      refine lv_land SS.1 SS.2.1 dX5_flipped_18 ?_
      refine lv_aload_n SS.1 SS.2.1 dX5_flipped_19 rfl (lv_at hl 0 rfl) ?_
      refine j_get SS hG hP 66 (v := .ref (q 71)) (C := RX5) (T := TX5) (N := 9) rfl rfl inX5 6 (by decide) (ref := "GridPolygons$Mesh") kw_317 rfl rfl dX5_flipped_20 ?_
      refine lv_iload_n SS.1 SS.2.1 dX5_flipped_23 rfl (lv_at hl 2 rfl) ?_
      refine j_lald SS hG hP 71 (n := 756) (f := (u.2.2.1 4)) rfl (z := flip) (by omega) (by omega) dX5_flipped_24 ?_
      refine j_lcmp SS dX5_flipped_25 (fun z_25 hz_25 => ?_)
      refine j_if_eq SS (tgt := 31) (x := z_25) dX5_flipped_26 (by decide) (by omega) (fun c_26 => ?_) (fun c_26 => ?_)
      · skip
        refine lv_lload_n SS.1 SS.2.1 dX5_flipped_31 rfl (lv_at hl 1 rfl) ?_
        refine lv_aload_n SS.1 SS.2.1 dX5_flipped_32 rfl (lv_at hl 0 rfl) ?_
        refine j_get SS hG hP 66 (v := .ref (q 72)) (C := RX5) (T := TX5) (N := 9) rfl rfl inX5 7 (by decide) (ref := "GridPolygons$Mesh") kw_318 rfl rfl dX5_flipped_33 ?_
        refine lv_iload_n SS.1 SS.2.1 dX5_flipped_36 rfl (lv_at hl 2 rfl) ?_
        refine j_lald SS hG hP 72 (n := 756) (f := (u.2.2.1 5)) rfl (z := flip) (by omega) (by omega) dX5_flipped_37 ?_
        refine lv_lxor SS.1 SS.2.1 dX5_flipped_38 ?_
        exact W.lret SS.1 SS.2.1 hr (fun t0 ht hW => ⟨_, rfl, (trivial), ht⟩) (fun _ h => nomatch h) dX5_flipped_39 hlk
      · skip
        refine lv_lconst (v := 0) SS.1 SS.2.1 dX5_flipped_29 (by decide +kernel) ?_
        exact W.lret SS.1 SS.2.1 hr (fun t0 ht hW => ⟨_, rfl, (trivial), ht⟩) (fun _ h => nomatch h) dX5_flipped_30 hlk
