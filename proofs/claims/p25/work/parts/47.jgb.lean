
set_option maxHeartbeats 4000000 in
set_option maxRecDepth 100000 in
theorem c_X6_turn_10t (l : Launch) (D : JD) (q : Nat → Nat) (u : CS) (i : Int) (j : Int) (k : Int) (p0 : RB 40 u 10) (p1 : -2147483648 ≤ i ∧ i ≤ 2147483647) (p2 : -2147483648 ≤ j ∧ j ≤ 2147483647) (p3 : -2147483648 ≤ k ∧ k ≤ 2147483647) : Met l yX6_turn (jw yX6_turn cX6_turn 4 (some .int)) (jr 1 21) (jP [.ref (q (9 + 5 * 10)), .int (J i), .int (J j), .int (J k)] D (fun H => va_P D.1 j_cl (cW D q u) H)) (jRi (fun z => (-12800 ≤ z ∧ z ≤ 12800) ∧ ((0 ≤ i ∧ i < 40) → (0 ≤ j ∧ j < 40) → (0 ≤ k ∧ k < 40) → z = tn (u.1.1 10) (u.1.2.1 10) i.toNat j.toNat k.toNat))) 0 0 (fun _ => False) := by
  refine Met.ofW (cc := cX6_turn) (maxL := 4) (ret := (some .int)) (by decide) rfl ?_
  intro pr en st mi args below meth co s₁ B hml hv
  obtain ⟨rfl, hG, hP⟩ := hv
  have hr := B.returns
  have hlk := B.notSynchronized
  have SS : jS pr mi co cX6_turn 4 st _ RX6 := ⟨B.exec, B.bytes, hml, findClass_of_methodNamed B.named, fun w hw => atoms_spec (ws := (jw yX6_turn cX6_turn 4 (some .int))) B.pre w (List.mem_cons_of_mem _ hw)⟩
  have hl := lv_entry ([.ref (q (9 + 5 * 10)), .int (J i), .int (J j), .int (J k)]) (n := 4) (Nat.le_of_ble_eq_true rfl)
  rw [lg_entry_eq]
  generalize (lg_sl ([.ref (q (9 + 5 * 10)), .int (J i), .int (J j), .int (J k)]) ++ List.replicate (4 - (lg_sl ([.ref (q (9 + 5 * 10)), .int (J i), .int (J j), .int (J k)])).length) Slot.unset).toArray = ls at hl ⊢
  have hl : lv_has ls 4 [(0, .ref (q (9 + 5 * 10))), (1, .int (J i)), (2, .int (J j)), (3, .int (J k))] := hl
  refine lv_aload_n SS.1 SS.2.1 dX6_turn_0 rfl (lv_at hl 0 rfl) ?_
  refine lv_iload_n SS.1 SS.2.1 dX6_turn_1 rfl (lv_at hl 2 rfl) ?_
  refine j_uRi SS (As := [.int (J j)]) (rest := []) (c_X8_xP l D q u 10 (by omega) j (show -2147483648 ≤ j ∧ j ≤ 2147483647 from (p2))) mu_6_x kw_908 hG hP hP (ci := 6) (q0 := (9 + 5 * 10)) rfl (cw_pts (by omega)) rfl rfl hl.1 ⟨⟨Nat.le_of_ble_eq_true rfl, Nat.le_of_ble_eq_true rfl⟩, Nat.le_of_ble_eq_true rfl, Nat.le_refl _, Nat.le_refl _⟩ rfl dX6_turn_2 (fun z_2 h_2 => ?_)
  have h_2 : z_2 = rx u 10 j ∧ ∀ K : Int, 0 ≤ K → RB K u 10 → -K ≤ z_2 ∧ z_2 ≤ K := h_2
  have hb_2 := h_2.2 40 (by omega) (p0)
  refine lv_aload_n SS.1 SS.2.1 dX6_turn_5 rfl (lv_at hl 0 rfl) ?_
  refine lv_iload_n SS.1 SS.2.1 dX6_turn_6 rfl (lv_at hl 1 rfl) ?_
  refine j_uRi SS (As := [.int (J i)]) (rest := [.int (J z_2)]) (c_X8_xP l D q u 10 (by omega) i (show -2147483648 ≤ i ∧ i ≤ 2147483647 from (p1))) mu_6_x kw_908 hG hP hP (ci := 6) (q0 := (9 + 5 * 10)) rfl (cw_pts (by omega)) rfl rfl hl.1 ⟨⟨Nat.le_of_ble_eq_true rfl, Nat.le_of_ble_eq_true rfl⟩, Nat.le_of_ble_eq_true rfl, Nat.le_refl _, Nat.le_refl _⟩ rfl dX6_turn_7 (fun z_7 h_7 => ?_)
  have h_7 : z_7 = rx u 10 i ∧ ∀ K : Int, 0 ≤ K → RB K u 10 → -K ≤ z_7 ∧ z_7 ≤ K := h_7
  have hb_7 := h_7.2 40 (by omega) (p0)
  refine j_isub SS (x := z_2) (y := z_7) dX6_turn_10 ?_
  refine lv_aload_n SS.1 SS.2.1 dX6_turn_11 rfl (lv_at hl 0 rfl) ?_
  refine lv_iload_n SS.1 SS.2.1 dX6_turn_12 rfl (lv_at hl 3 rfl) ?_
  refine j_uRi SS (As := [.int (J k)]) (rest := [.int (J (z_2 - z_7))]) (c_X8_yP l D q u 10 (by omega) k (show -2147483648 ≤ k ∧ k ≤ 2147483647 from (p3))) mu_6_y kw_909 hG hP hP (ci := 6) (q0 := (9 + 5 * 10)) rfl (cw_pts (by omega)) rfl rfl hl.1 ⟨⟨Nat.le_of_ble_eq_true rfl, Nat.le_of_ble_eq_true rfl⟩, Nat.le_of_ble_eq_true rfl, Nat.le_refl _, Nat.le_refl _⟩ rfl dX6_turn_13 (fun z_13 h_13 => ?_)
  have h_13 : z_13 = ry9 u 10 k ∧ ∀ K : Int, 0 ≤ K → RB K u 10 → -K ≤ z_13 ∧ z_13 ≤ K := h_13
  have hb_13 := h_13.2 40 (by omega) (p0)
  refine lv_aload_n SS.1 SS.2.1 dX6_turn_16 rfl (lv_at hl 0 rfl) ?_
  refine lv_iload_n SS.1 SS.2.1 dX6_turn_17 rfl (lv_at hl 1 rfl) ?_
  refine j_uRi SS (As := [.int (J i)]) (rest := [.int (J z_13), .int (J (z_2 - z_7))]) (c_X8_yP l D q u 10 (by omega) i (show -2147483648 ≤ i ∧ i ≤ 2147483647 from (p1))) mu_6_y kw_909 hG hP hP (ci := 6) (q0 := (9 + 5 * 10)) rfl (cw_pts (by omega)) rfl rfl hl.1 ⟨⟨Nat.le_of_ble_eq_true rfl, Nat.le_of_ble_eq_true rfl⟩, Nat.le_of_ble_eq_true rfl, Nat.le_refl _, Nat.le_refl _⟩ rfl dX6_turn_18 (fun z_18 h_18 => ?_)
  have h_18 : z_18 = ry9 u 10 i ∧ ∀ K : Int, 0 ≤ K → RB K u 10 → -K ≤ z_18 ∧ z_18 ≤ K := h_18
  have hb_18 := h_18.2 40 (by omega) (p0)
  refine j_isub SS (x := z_13) (y := z_18) dX6_turn_21 ?_
  refine j_imul SS (x := (z_2 - z_7)) (y := (z_13 - z_18)) dX6_turn_22 ?_
  refine lv_aload_n SS.1 SS.2.1 dX6_turn_23 rfl (lv_at hl 0 rfl) ?_
  refine lv_iload_n SS.1 SS.2.1 dX6_turn_24 rfl (lv_at hl 2 rfl) ?_
  refine j_uRi SS (As := [.int (J j)]) (rest := [.int (J ((z_2 - z_7) * (z_13 - z_18)))]) (c_X8_yP l D q u 10 (by omega) j (show -2147483648 ≤ j ∧ j ≤ 2147483647 from (p2))) mu_6_y kw_909 hG hP hP (ci := 6) (q0 := (9 + 5 * 10)) rfl (cw_pts (by omega)) rfl rfl hl.1 ⟨⟨Nat.le_of_ble_eq_true rfl, Nat.le_of_ble_eq_true rfl⟩, Nat.le_of_ble_eq_true rfl, Nat.le_refl _, Nat.le_refl _⟩ rfl dX6_turn_25 (fun z_25 h_25 => ?_)
  have h_25 : z_25 = ry9 u 10 j ∧ ∀ K : Int, 0 ≤ K → RB K u 10 → -K ≤ z_25 ∧ z_25 ≤ K := h_25
  have hb_25 := h_25.2 40 (by omega) (p0)
  refine lv_aload_n SS.1 SS.2.1 dX6_turn_28 rfl (lv_at hl 0 rfl) ?_
  refine lv_iload_n SS.1 SS.2.1 dX6_turn_29 rfl (lv_at hl 1 rfl) ?_
  refine j_uRi SS (As := [.int (J i)]) (rest := [.int (J z_25), .int (J ((z_2 - z_7) * (z_13 - z_18)))]) (c_X8_yP l D q u 10 (by omega) i (show -2147483648 ≤ i ∧ i ≤ 2147483647 from (p1))) mu_6_y kw_909 hG hP hP (ci := 6) (q0 := (9 + 5 * 10)) rfl (cw_pts (by omega)) rfl rfl hl.1 ⟨⟨Nat.le_of_ble_eq_true rfl, Nat.le_of_ble_eq_true rfl⟩, Nat.le_of_ble_eq_true rfl, Nat.le_refl _, Nat.le_refl _⟩ rfl dX6_turn_30 (fun z_30 h_30 => ?_)
  have h_30 : z_30 = ry9 u 10 i ∧ ∀ K : Int, 0 ≤ K → RB K u 10 → -K ≤ z_30 ∧ z_30 ≤ K := h_30
  have hb_30 := h_30.2 40 (by omega) (p0)
  refine j_isub SS (x := z_25) (y := z_30) dX6_turn_33 ?_
  refine lv_aload_n SS.1 SS.2.1 dX6_turn_34 rfl (lv_at hl 0 rfl) ?_
  refine lv_iload_n SS.1 SS.2.1 dX6_turn_35 rfl (lv_at hl 3 rfl) ?_
  refine j_uRi SS (As := [.int (J k)]) (rest := [.int (J (z_25 - z_30)), .int (J ((z_2 - z_7) * (z_13 - z_18)))]) (c_X8_xP l D q u 10 (by omega) k (show -2147483648 ≤ k ∧ k ≤ 2147483647 from (p3))) mu_6_x kw_908 hG hP hP (ci := 6) (q0 := (9 + 5 * 10)) rfl (cw_pts (by omega)) rfl rfl hl.1 ⟨⟨Nat.le_of_ble_eq_true rfl, Nat.le_of_ble_eq_true rfl⟩, Nat.le_of_ble_eq_true rfl, Nat.le_refl _, Nat.le_refl _⟩ rfl dX6_turn_36 (fun z_36 h_36 => ?_)
  have h_36 : z_36 = rx u 10 k ∧ ∀ K : Int, 0 ≤ K → RB K u 10 → -K ≤ z_36 ∧ z_36 ≤ K := h_36
  have hb_36 := h_36.2 40 (by omega) (p0)
  refine lv_aload_n SS.1 SS.2.1 dX6_turn_39 rfl (lv_at hl 0 rfl) ?_
  refine lv_iload_n SS.1 SS.2.1 dX6_turn_40 rfl (lv_at hl 1 rfl) ?_
  refine j_uRi SS (As := [.int (J i)]) (rest := [.int (J z_36), .int (J (z_25 - z_30)), .int (J ((z_2 - z_7) * (z_13 - z_18)))]) (c_X8_xP l D q u 10 (by omega) i (show -2147483648 ≤ i ∧ i ≤ 2147483647 from (p1))) mu_6_x kw_908 hG hP hP (ci := 6) (q0 := (9 + 5 * 10)) rfl (cw_pts (by omega)) rfl rfl hl.1 ⟨⟨Nat.le_of_ble_eq_true rfl, Nat.le_of_ble_eq_true rfl⟩, Nat.le_of_ble_eq_true rfl, Nat.le_refl _, Nat.le_refl _⟩ rfl dX6_turn_41 (fun z_41 h_41 => ?_)
  have h_41 : z_41 = rx u 10 i ∧ ∀ K : Int, 0 ≤ K → RB K u 10 → -K ≤ z_41 ∧ z_41 ≤ K := h_41
  have hb_41 := h_41.2 40 (by omega) (p0)
  refine j_isub SS (x := z_36) (y := z_41) dX6_turn_44 ?_
  refine j_imul SS (x := (z_25 - z_30)) (y := (z_36 - z_41)) dX6_turn_45 ?_
  refine j_isub SS (x := ((z_2 - z_7) * (z_13 - z_18))) (y := ((z_25 - z_30) * (z_36 - z_41))) dX6_turn_46 ?_
  have m1 := mulb (A := 80) (B := 80) (a := z_2 - z_7) (b := z_13 - z_18) (by omega) (by omega)
  have m2 := mulb (A := 80) (B := 80) (a := z_25 - z_30) (b := z_36 - z_41) (by omega) (by omega)
  exact W.iret SS.1 SS.2.1 hr (fun t0 ht hW => ⟨_, rfl, ⟨(((z_2 - z_7) * (z_13 - z_18)) - ((z_25 - z_30) * (z_36 - z_41))), rfl, (⟨by omega, fun q1 q2 q3 => by rw [h_2.1.trans (rx_10 q2), h_7.1.trans (rx_10 q1), h_13.1.trans (ry_10 q3), h_18.1.trans (ry_10 q1), h_25.1.trans (ry_10 q2), h_30.1.trans (ry_10 q1), h_36.1.trans (rx_10 q3), h_41.1.trans (rx_10 q1)]; rfl⟩)⟩, ht⟩) (fun _ h => nomatch h) dX6_turn_47 hlk

set_option maxHeartbeats 4000000 in
set_option maxRecDepth 100000 in
theorem c_X1_above3 (l : Launch) (D : JD) (q : Nat → Nat) (u : CS) (i : Nat) (hi : i < 8) (a : Int) (b : Int) (c : Int) (d : Int) (p0 : RB 40 u 10) (p1 : HB (u.1.2.2.2.1 i)) (p2 : -2147483648 ≤ a ∧ a ≤ 2147483647) (p3 : -2147483648 ≤ b ∧ b ≤ 2147483647) (p4 : -2147483648 ≤ c ∧ c ≤ 2147483647) (p5 : -2147483648 ≤ d ∧ d ≤ 2147483647) : Met l yX1_above (jw yX1_above cX1_above 8 (some .int)) (jr 2 44) (jP [.ref (q 7), .ref (q (12 + 5 * i)), .int (J a), .int (J b), .int (J c), .int (J d)] D (fun H => va_P D.1 j_cl (cW D q u) H)) (jRi (fun z => (-100000000 ≤ z ∧ z ≤ 100000000) ∧ ((0 ≤ a ∧ a < 40) → (0 ≤ b ∧ b < 40) → (0 ≤ c ∧ c < 40) → (0 ≤ d ∧ d < 40) → z = ab9 (u.1.1 10) (u.1.2.1 10) (u.1.2.2.2.1 i) a.toNat b.toNat c.toNat d.toNat))) 0 0 (fun _ => False) := by
  refine Met.ofW (cc := cX1_above) (maxL := 8) (ret := (some .int)) (by decide) rfl ?_
  intro pr en st mi args below meth co s₁ B hml hv
  obtain ⟨rfl, hG, hP⟩ := hv
  have hr := B.returns
  have hlk := B.notSynchronized
  have SS : jS pr mi co cX1_above 8 st _ RX1 := ⟨B.exec, B.bytes, hml, findClass_of_methodNamed B.named, fun w hw => atoms_spec (ws := (jw yX1_above cX1_above 8 (some .int))) B.pre w (List.mem_cons_of_mem _ hw)⟩
  have hl := lv_entry ([.ref (q 7), .ref (q (12 + 5 * i)), .int (J a), .int (J b), .int (J c), .int (J d)]) (n := 8) (Nat.le_of_ble_eq_true rfl)
  rw [lg_entry_eq]
  generalize (lg_sl ([.ref (q 7), .ref (q (12 + 5 * i)), .int (J a), .int (J b), .int (J c), .int (J d)]) ++ List.replicate (8 - (lg_sl ([.ref (q 7), .ref (q (12 + 5 * i)), .int (J a), .int (J b), .int (J c), .int (J d)])).length) Slot.unset).toArray = ls at hl ⊢
  have hl : lv_has ls 8 [(0, .ref (q 7)), (1, .ref (q (12 + 5 * i))), (2, .int (J a)), (3, .int (J b)), (4, .int (J c)), (5, .int (J d))] := hl
  have hc := p0.1
  have hrk : (rl 10 : Int) = 40 := rfl
  refine lv_iload_n SS.1 SS.2.1 dX1_above_0 rfl (lv_at hl 2 rfl) ?_
  refine lv_iload_n SS.1 SS.2.1 dX1_above_1 rfl (lv_at hl 3 rfl) ?_
  refine j_sRi SS (As := [.int (J a), .int (J b)]) (rest := []) (c_J9_max_7cf53 l D  a b (show -2147483648 ≤ a ∧ a ≤ 2147483647 from (p2)) (show -2147483648 ≤ b ∧ b ≤ 2147483647 from (p3))) mf_J9_max_7cf53 kw_1001 hG trivial rfl hl.1 ⟨⟨Nat.le_of_ble_eq_true rfl, Nat.le_of_ble_eq_true rfl⟩, Nat.le_of_ble_eq_true rfl, Nat.le_refl _, Nat.le_refl _⟩ rfl dX1_above_2 (fun z_2 h_2 => ?_)
  have h_2 : (z_2 = a ∨ z_2 = b) ∧ a ≤ z_2 ∧ b ≤ z_2 := h_2
  refine lv_iload SS.1 SS.2.1 dX1_above_5 (lv_at hl 4 rfl) ?_
  refine lv_iload SS.1 SS.2.1 dX1_above_7 (lv_at hl 5 rfl) ?_
  refine j_sRi SS (As := [.int (J c), .int (J d)]) (rest := [.int (J z_2)]) (c_J9_max_7cf53 l D  c d (show -2147483648 ≤ c ∧ c ≤ 2147483647 from (p4)) (show -2147483648 ≤ d ∧ d ≤ 2147483647 from (p5))) mf_J9_max_7cf53 kw_1001 hG trivial rfl hl.1 ⟨⟨Nat.le_of_ble_eq_true rfl, Nat.le_of_ble_eq_true rfl⟩, Nat.le_of_ble_eq_true rfl, Nat.le_refl _, Nat.le_refl _⟩ rfl dX1_above_9 (fun z_9 h_9 => ?_)
  have h_9 : (z_9 = c ∨ z_9 = d) ∧ c ≤ z_9 ∧ d ≤ z_9 := h_9
  refine j_sRi SS (As := [.int (J z_2), .int (J z_9)]) (rest := []) (c_J9_max_7cf53 l D  z_2 z_9 (show -2147483648 ≤ z_2 ∧ z_2 ≤ 2147483647 from (by omega)) (show -2147483648 ≤ z_9 ∧ z_9 ≤ 2147483647 from (by omega))) mf_J9_max_7cf53 kw_1001 hG trivial rfl hl.1 ⟨⟨Nat.le_of_ble_eq_true rfl, Nat.le_of_ble_eq_true rfl⟩, Nat.le_of_ble_eq_true rfl, Nat.le_refl _, Nat.le_refl _⟩ rfl dX1_above_12 (fun z_12 h_12 => ?_)
  have h_12 : (z_12 = z_2 ∨ z_12 = z_9) ∧ z_2 ≤ z_12 ∧ z_9 ≤ z_12 := h_12
  refine lv_istore (lv' := [(6, .int (J z_12)), (0, .ref (q 7)), (1, .ref (q (12 + 5 * i))), (2, .int (J a)), (3, .int (J b)), (4, .int (J c)), (5, .int (J d))]) SS.1 SS.2.1 dX1_above_15 hl (by decide) rfl (fun ls hl => ?_)
  refine lv_iload_n SS.1 SS.2.1 dX1_above_17 rfl (lv_at hl 3 rfl) ?_
  refine lv_iload_n SS.1 SS.2.1 dX1_above_18 rfl (lv_at hl 4 rfl) ?_
  refine j_sRi SS (As := [.int (J a), .int (J b)]) (rest := []) (c_J9_min_7cf53 l D  a b (show -2147483648 ≤ a ∧ a ≤ 2147483647 from (p2)) (show -2147483648 ≤ b ∧ b ≤ 2147483647 from (p3))) mf_J9_min_7cf53 kw_1002 hG trivial rfl hl.1 ⟨⟨Nat.le_of_ble_eq_true rfl, Nat.le_of_ble_eq_true rfl⟩, Nat.le_of_ble_eq_true rfl, Nat.le_refl _, Nat.le_refl _⟩ rfl dX1_above_19 (fun z_19 h_19 => ?_)
  have h_19 : (z_19 = a ∨ z_19 = b) ∧ z_19 ≤ a ∧ z_19 ≤ b := h_19
  refine lv_iload SS.1 SS.2.1 dX1_above_22 (lv_at hl 5 rfl) ?_
  refine lv_iload SS.1 SS.2.1 dX1_above_24 (lv_at hl 6 rfl) ?_
  refine j_sRi SS (As := [.int (J c), .int (J d)]) (rest := [.int (J z_19)]) (c_J9_min_7cf53 l D  c d (show -2147483648 ≤ c ∧ c ≤ 2147483647 from (p4)) (show -2147483648 ≤ d ∧ d ≤ 2147483647 from (p5))) mf_J9_min_7cf53 kw_1002 hG trivial rfl hl.1 ⟨⟨Nat.le_of_ble_eq_true rfl, Nat.le_of_ble_eq_true rfl⟩, Nat.le_of_ble_eq_true rfl, Nat.le_refl _, Nat.le_refl _⟩ rfl dX1_above_26 (fun z_26 h_26 => ?_)
  have h_26 : (z_26 = c ∨ z_26 = d) ∧ z_26 ≤ c ∧ z_26 ≤ d := h_26
  refine j_sRi SS (As := [.int (J z_19), .int (J z_26)]) (rest := []) (c_J9_min_7cf53 l D  z_19 z_26 (show -2147483648 ≤ z_19 ∧ z_19 ≤ 2147483647 from (by omega)) (show -2147483648 ≤ z_26 ∧ z_26 ≤ 2147483647 from (by omega))) mf_J9_min_7cf53 kw_1002 hG trivial rfl hl.1 ⟨⟨Nat.le_of_ble_eq_true rfl, Nat.le_of_ble_eq_true rfl⟩, Nat.le_of_ble_eq_true rfl, Nat.le_refl _, Nat.le_refl _⟩ rfl dX1_above_29 (fun z_29 h_29 => ?_)
  have h_29 : (z_29 = z_19 ∨ z_29 = z_26) ∧ z_29 ≤ z_19 ∧ z_29 ≤ z_26 := h_29
  refine lv_istore (lv' := [(7, .int (J z_29)), (6, .int (J z_12)), (0, .ref (q 7)), (1, .ref (q (12 + 5 * i))), (2, .int (J a)), (3, .int (J b)), (4, .int (J c)), (5, .int (J d))]) SS.1 SS.2.1 dX1_above_32 hl (by decide) rfl (fun ls hl => ?_)
  refine lv_iload SS.1 SS.2.1 dX1_above_34 (lv_at hl 0 rfl) ?_
  refine j_if_lt SS (tgt := 46) (x := z_29) dX1_above_36 (by decide) (by omega) (fun c_36 => ?_) (fun c_36 => ?_)
  · skip
    refine j_iconst SS dX1_above_46 ?_
    exact W.iret SS.1 SS.2.1 hr (fun t0 ht hW => ⟨_, rfl, ⟨0, rfl, (⟨by omega, fun q1 q2 q3 q4 => by exfalso; omega⟩)⟩, ht⟩) (fun _ h => nomatch h) dX1_above_47 hlk
  · skip
    refine lv_iload SS.1 SS.2.1 dX1_above_39 (lv_at hl 1 rfl) ?_
    refine lv_aload_n SS.1 SS.2.1 dX1_above_41 rfl (lv_at hl 3 rfl) ?_
    refine va_alen SS.1 SS.2.1 hG.1 hP (12 + 5 * i) 0 (cw_hts (by omega)) rfl (v := J (40 : Int)) (by first | rfl | exact J_nat _) dX1_above_42 ?_
    refine j_icmp_lt SS (tgt := 48) (x := z_12) (y := 40) dX1_above_43 (by decide) (by omega) (by decide) (fun c_43 => ?_) (fun c_43 => ?_)
    · skip
      refine lv_aload_n SS.1 SS.2.1 dX1_above_48 rfl (lv_at hl 2 rfl) ?_
      refine j_get SS hG hP 7 (v := .ref (q (9 + 5 * 10))) (C := RX1) (T := TX1) (N := 4) rfl rfl inX1 0 (by decide) (ref := "GridPolygons$Coarse") kw_371 rfl rfl dX1_above_49 ?_
      refine lv_iload_n SS.1 SS.2.1 dX1_above_52 rfl (lv_at hl 4 rfl) ?_
      refine lv_iload_n SS.1 SS.2.1 dX1_above_53 rfl (lv_at hl 5 rfl) ?_
      refine lv_iload SS.1 SS.2.1 dX1_above_54 (lv_at hl 6 rfl) ?_
      refine j_vRi SS (As := [.int (J a), .int (J b), .int (J c)]) (rest := []) (c_X6_turn_10t l D q u  a b c (show RB 40 u 10 from (p0)) (show -2147483648 ≤ a ∧ a ≤ 2147483647 from (p2)) (show -2147483648 ≤ b ∧ b ≤ 2147483647 from (p3)) (show -2147483648 ≤ c ∧ c ≤ 2147483647 from (p4))) mf_X6_turn kw_996 hG hP hP (ci := 6) (q0 := (9 + 5 * 10)) rfl (cw_pts (by omega)) rfl rfl hl.1 ⟨⟨Nat.le_of_ble_eq_true rfl, Nat.le_of_ble_eq_true rfl⟩, Nat.le_of_ble_eq_true rfl, Nat.le_refl _, Nat.le_refl _⟩ rfl dX1_above_56 (fun z_56 h_56 => ?_)
      have h_56 : (-12800 ≤ z_56 ∧ z_56 ≤ 12800) ∧ ((0 ≤ a ∧ a < 40) → (0 ≤ b ∧ b < 40) → (0 ≤ c ∧ c < 40) → z_56 = tn ((u.1.1 10)) ((u.1.2.1 10)) a.toNat b.toNat c.toNat) := h_56
      obtain ⟨t_56, e_56⟩ := h_56
      refine lv_aload_n SS.1 SS.2.1 dX1_above_59 rfl (lv_at hl 3 rfl) ?_
      refine lv_iload SS.1 SS.2.1 dX1_above_60 (lv_at hl 7 rfl) ?_
      refine j_iald SS hG hP (12 + 5 * i) (n := 40) (f := (u.1.2.2.2.1 i)) (cw_hts (by omega)) (z := d) (by omega) (by omega) dX1_above_62 ?_
      refine lv_aload_n SS.1 SS.2.1 dX1_above_63 rfl (lv_at hl 3 rfl) ?_
      refine lv_iload_n SS.1 SS.2.1 dX1_above_64 rfl (lv_at hl 4 rfl) ?_
      refine j_iald SS hG hP (12 + 5 * i) (n := 40) (f := (u.1.2.2.2.1 i)) (cw_hts (by omega)) (z := a) (by omega) (by omega) dX1_above_65 ?_
      refine j_isub SS (x := ((u.1.2.2.2.1 i) (d).toNat)) (y := ((u.1.2.2.2.1 i) (a).toNat)) dX1_above_66 ?_
      refine j_imul SS (x := z_56) (y := (((u.1.2.2.2.1 i) (d).toNat) - ((u.1.2.2.2.1 i) (a).toNat))) dX1_above_67 ?_
      refine lv_aload_n SS.1 SS.2.1 dX1_above_68 rfl (lv_at hl 2 rfl) ?_
      refine j_get SS hG hP 7 (v := .ref (q (9 + 5 * 10))) (C := RX1) (T := TX1) (N := 4) rfl rfl inX1 0 (by decide) (ref := "GridPolygons$Coarse") kw_371 rfl rfl dX1_above_69 ?_
      refine lv_iload_n SS.1 SS.2.1 dX1_above_72 rfl (lv_at hl 4 rfl) ?_
      refine lv_iload SS.1 SS.2.1 dX1_above_73 (lv_at hl 7 rfl) ?_
      refine lv_iload SS.1 SS.2.1 dX1_above_75 (lv_at hl 6 rfl) ?_
      refine j_vRi SS (As := [.int (J a), .int (J d), .int (J c)]) (rest := [.int (J (z_56 * (((u.1.2.2.2.1 i) (d).toNat) - ((u.1.2.2.2.1 i) (a).toNat))))]) (c_X6_turn_10t l D q u  a d c (show RB 40 u 10 from (p0)) (show -2147483648 ≤ a ∧ a ≤ 2147483647 from (p2)) (show -2147483648 ≤ d ∧ d ≤ 2147483647 from (p5)) (show -2147483648 ≤ c ∧ c ≤ 2147483647 from (p4))) mf_X6_turn kw_996 hG hP hP (ci := 6) (q0 := (9 + 5 * 10)) rfl (cw_pts (by omega)) rfl rfl hl.1 ⟨⟨Nat.le_of_ble_eq_true rfl, Nat.le_of_ble_eq_true rfl⟩, Nat.le_of_ble_eq_true rfl, Nat.le_refl _, Nat.le_refl _⟩ rfl dX1_above_77 (fun z_77 h_77 => ?_)
      have h_77 : (-12800 ≤ z_77 ∧ z_77 ≤ 12800) ∧ ((0 ≤ a ∧ a < 40) → (0 ≤ d ∧ d < 40) → (0 ≤ c ∧ c < 40) → z_77 = tn ((u.1.1 10)) ((u.1.2.1 10)) a.toNat d.toNat c.toNat) := h_77
      obtain ⟨t_77, e_77⟩ := h_77
      refine lv_aload_n SS.1 SS.2.1 dX1_above_80 rfl (lv_at hl 3 rfl) ?_
      refine lv_iload_n SS.1 SS.2.1 dX1_above_81 rfl (lv_at hl 5 rfl) ?_
      refine j_iald SS hG hP (12 + 5 * i) (n := 40) (f := (u.1.2.2.2.1 i)) (cw_hts (by omega)) (z := b) (by omega) (by omega) dX1_above_82 ?_
      refine lv_aload_n SS.1 SS.2.1 dX1_above_83 rfl (lv_at hl 3 rfl) ?_
      refine lv_iload_n SS.1 SS.2.1 dX1_above_84 rfl (lv_at hl 4 rfl) ?_
      refine j_iald SS hG hP (12 + 5 * i) (n := 40) (f := (u.1.2.2.2.1 i)) (cw_hts (by omega)) (z := a) (by omega) (by omega) dX1_above_85 ?_
      refine j_isub SS (x := ((u.1.2.2.2.1 i) (b).toNat)) (y := ((u.1.2.2.2.1 i) (a).toNat)) dX1_above_86 ?_
      refine j_imul SS (x := z_77) (y := (((u.1.2.2.2.1 i) (b).toNat) - ((u.1.2.2.2.1 i) (a).toNat))) dX1_above_87 ?_
      refine j_isub SS (x := (z_56 * (((u.1.2.2.2.1 i) (d).toNat) - ((u.1.2.2.2.1 i) (a).toNat)))) (y := (z_77 * (((u.1.2.2.2.1 i) (b).toNat) - ((u.1.2.2.2.1 i) (a).toNat)))) dX1_above_88 ?_
      refine lv_aload_n SS.1 SS.2.1 dX1_above_89 rfl (lv_at hl 2 rfl) ?_
      refine j_get SS hG hP 7 (v := .ref (q (9 + 5 * 10))) (C := RX1) (T := TX1) (N := 4) rfl rfl inX1 0 (by decide) (ref := "GridPolygons$Coarse") kw_371 rfl rfl dX1_above_90 ?_
      refine lv_iload_n SS.1 SS.2.1 dX1_above_93 rfl (lv_at hl 4 rfl) ?_
      refine lv_iload_n SS.1 SS.2.1 dX1_above_94 rfl (lv_at hl 5 rfl) ?_
      refine lv_iload SS.1 SS.2.1 dX1_above_95 (lv_at hl 7 rfl) ?_
      refine j_vRi SS (As := [.int (J a), .int (J b), .int (J d)]) (rest := [.int (J ((z_56 * (((u.1.2.2.2.1 i) (d).toNat) - ((u.1.2.2.2.1 i) (a).toNat))) - (z_77 * (((u.1.2.2.2.1 i) (b).toNat) - ((u.1.2.2.2.1 i) (a).toNat)))))]) (c_X6_turn_10t l D q u  a b d (show RB 40 u 10 from (p0)) (show -2147483648 ≤ a ∧ a ≤ 2147483647 from (p2)) (show -2147483648 ≤ b ∧ b ≤ 2147483647 from (p3)) (show -2147483648 ≤ d ∧ d ≤ 2147483647 from (p5))) mf_X6_turn kw_996 hG hP hP (ci := 6) (q0 := (9 + 5 * 10)) rfl (cw_pts (by omega)) rfl rfl hl.1 ⟨⟨Nat.le_of_ble_eq_true rfl, Nat.le_of_ble_eq_true rfl⟩, Nat.le_of_ble_eq_true rfl, Nat.le_refl _, Nat.le_refl _⟩ rfl dX1_above_97 (fun z_97 h_97 => ?_)
      have h_97 : (-12800 ≤ z_97 ∧ z_97 ≤ 12800) ∧ ((0 ≤ a ∧ a < 40) → (0 ≤ b ∧ b < 40) → (0 ≤ d ∧ d < 40) → z_97 = tn ((u.1.1 10)) ((u.1.2.1 10)) a.toNat b.toNat d.toNat) := h_97
      obtain ⟨t_97, e_97⟩ := h_97
      refine lv_aload_n SS.1 SS.2.1 dX1_above_100 rfl (lv_at hl 3 rfl) ?_
      refine lv_iload SS.1 SS.2.1 dX1_above_101 (lv_at hl 6 rfl) ?_
      refine j_iald SS hG hP (12 + 5 * i) (n := 40) (f := (u.1.2.2.2.1 i)) (cw_hts (by omega)) (z := c) (by omega) (by omega) dX1_above_103 ?_
      refine lv_aload_n SS.1 SS.2.1 dX1_above_104 rfl (lv_at hl 3 rfl) ?_
      refine lv_iload_n SS.1 SS.2.1 dX1_above_105 rfl (lv_at hl 4 rfl) ?_
      refine j_iald SS hG hP (12 + 5 * i) (n := 40) (f := (u.1.2.2.2.1 i)) (cw_hts (by omega)) (z := a) (by omega) (by omega) dX1_above_106 ?_
      refine j_isub SS (x := ((u.1.2.2.2.1 i) (c).toNat)) (y := ((u.1.2.2.2.1 i) (a).toNat)) dX1_above_107 ?_
      refine j_imul SS (x := z_97) (y := (((u.1.2.2.2.1 i) (c).toNat) - ((u.1.2.2.2.1 i) (a).toNat))) dX1_above_108 ?_
      refine j_isub SS (x := ((z_56 * (((u.1.2.2.2.1 i) (d).toNat) - ((u.1.2.2.2.1 i) (a).toNat))) - (z_77 * (((u.1.2.2.2.1 i) (b).toNat) - ((u.1.2.2.2.1 i) (a).toNat))))) (y := (z_97 * (((u.1.2.2.2.1 i) (c).toNat) - ((u.1.2.2.2.1 i) (a).toNat)))) dX1_above_109 ?_
      have hxa := p1 (a).toNat
      have hxb := p1 (b).toNat
      have hxc := p1 (c).toNat
      have hxd := p1 (d).toNat
      have m1 := mulb (A := 12800) (B := 2000) (a := z_56) (b := u.1.2.2.2.1 i d.toNat - u.1.2.2.2.1 i a.toNat) (by omega) (by omega)
      have m2 := mulb (A := 12800) (B := 2000) (a := z_77) (b := u.1.2.2.2.1 i b.toNat - u.1.2.2.2.1 i a.toNat) (by omega) (by omega)
      have m3 := mulb (A := 12800) (B := 2000) (a := z_97) (b := u.1.2.2.2.1 i c.toNat - u.1.2.2.2.1 i a.toNat) (by omega) (by omega)
      exact W.iret SS.1 SS.2.1 hr (fun t0 ht hW => ⟨_, rfl, ⟨(((z_56 * (((u.1.2.2.2.1 i) (d).toNat) - ((u.1.2.2.2.1 i) (a).toNat))) - (z_77 * (((u.1.2.2.2.1 i) (b).toNat) - ((u.1.2.2.2.1 i) (a).toNat)))) - (z_97 * (((u.1.2.2.2.1 i) (c).toNat) - ((u.1.2.2.2.1 i) (a).toNat)))), rfl, (⟨by clear e_56 e_77 e_97; omega, fun q1 q2 q3 q4 => by rw [e_56 q1 q2 q3, e_77 q1 q4 q3, e_97 q1 q2 q4]; rfl⟩)⟩, ht⟩) (fun _ h => nomatch h) dX1_above_110 hlk
    · skip
      refine j_iconst SS dX1_above_46 ?_
      exact W.iret SS.1 SS.2.1 hr (fun t0 ht hW => ⟨_, rfl, ⟨0, rfl, (⟨by omega, fun q1 q2 q3 q4 => by exfalso; omega⟩)⟩, ht⟩) (fun _ h => nomatch h) dX1_above_47 hlk

set_option maxHeartbeats 4000000 in
set_option maxRecDepth 100000 in
theorem c_X1_lowestLeft3 (l : Launch) (D : JD) (q : Nat → Nat) (u : CS) (i : Nat) (hi : i < 8) (a : Int) (b : Int) (p0 : RB 40 u 10) (p1 : HB (u.1.2.2.2.1 i)) (p2 : 0 ≤ a ∧ a < 40) (p3 : 0 ≤ b ∧ b < 40) : Met l yX1_lowestLeft (jw yX1_lowestLeft cX1_lowestLeft 6 (some .int)) (jr 3 71) (jP [.ref (q 7), .ref (q (12 + 5 * i)), .int (J a), .int (J b)] D (fun H => va_P D.1 j_cl (cW D q u) H)) (jRi (fun z => (-1 ≤ z ∧ z ≤ 39) ∧ LO9 (u.1.1 10) (u.1.2.1 10) (u.1.2.2.2.1 i) a.toNat b.toNat (u.1.2.2.1 10) z)) 0 0 (fun _ => False) := by
  refine Met.ofW (cc := cX1_lowestLeft) (maxL := 6) (ret := (some .int)) (by decide) rfl ?_
  intro pr en st mi args below meth co s₁ B hml hv
  obtain ⟨rfl, hG, hP⟩ := hv
  have hr := B.returns
  have hlk := B.notSynchronized
  have SS : jS pr mi co cX1_lowestLeft 6 st _ RX1 := ⟨B.exec, B.bytes, hml, findClass_of_methodNamed B.named, fun w hw => atoms_spec (ws := (jw yX1_lowestLeft cX1_lowestLeft 6 (some .int))) B.pre w (List.mem_cons_of_mem _ hw)⟩
  have hl := lv_entry ([.ref (q 7), .ref (q (12 + 5 * i)), .int (J a), .int (J b)]) (n := 6) (Nat.le_of_ble_eq_true rfl)
  rw [lg_entry_eq]
  generalize (lg_sl ([.ref (q 7), .ref (q (12 + 5 * i)), .int (J a), .int (J b)]) ++ List.replicate (6 - (lg_sl ([.ref (q 7), .ref (q (12 + 5 * i)), .int (J a), .int (J b)])).length) Slot.unset).toArray = ls at hl ⊢
  have hl : lv_has ls 6 [(0, .ref (q 7)), (1, .ref (q (12 + 5 * i))), (2, .int (J a)), (3, .int (J b))] := hl
  have hc := p0.1
  have hrk : (rl 10 : Int) = 40 := rfl
  refine j_iconst SS dX1_lowestLeft_0 ?_
  refine lv_istore (lv' := [(4, .int (J (-1))), (0, .ref (q 7)), (1, .ref (q (12 + 5 * i))), (2, .int (J a)), (3, .int (J b))]) SS.1 SS.2.1 dX1_lowestLeft_1 hl (by decide) rfl (fun ls hl => ?_)
  refine j_iconst SS dX1_lowestLeft_3 ?_
  refine lv_istore (lv' := [(5, .int (J 0)), (4, .int (J (-1))), (0, .ref (q 7)), (1, .ref (q (12 + 5 * i))), (2, .int (J a)), (3, .int (J b))]) SS.1 SS.2.1 dX1_lowestLeft_4 hl (by decide) rfl (fun ls hl => ?_)
  have L_6 : ∀ (nn : Nat) (lo : Int) (k : Int) (ls : Array Slot) (hl : lv_has ls 6 [(0, .ref (q 7)), (1, .ref (q (12 + 5 * i))), (2, .int (J a)), (3, .int (J b)), (4, .int (J lo)), (5, .int (J k))]) (i6_0 : -1 ≤ lo ∧ lo ≤ 39) (i6_1 : 0 ≤ k ∧ k ≤ u.1.2.2.1 10) (i6_2 : LO9 (u.1.1 10) (u.1.2.1 10) (u.1.2.2.2.1 i) a.toNat b.toNat k lo), ((40 : Int) - k).toNat < nn → W pr l en (headSpec (jw yX1_lowestLeft cX1_lowestLeft 6 (some .int)) (jr 3 71)).room st mi (([.ref (q 7), .ref (q (12 + 5 * i)), .int (J a), .int (J b)] : List Value).toArray) below meth co st.heap [] 0 0 (MQ below (jRi (fun z => (-1 ≤ z ∧ z ≤ 39) ∧ LO9 (u.1.1 10) (u.1.2.1 10) (u.1.2.2.2.1 i) a.toNat b.toNat (u.1.2.2.1 10) z)) (([.ref (q 7), .ref (q (12 + 5 * i)), .int (J a), .int (J b)] : List Value).toArray) st 0 0 (fun _ => False)) (F0 mi 6 ls []) := by
    intro nn
    induction nn with
    | zero => intros; omega
    | succ nn ih_6 =>
      intro lo k ls hl i6_0 i6_1 i6_2 hm
      refine lv_iload SS.1 SS.2.1 dX1_lowestLeft_6 (lv_at hl 5 rfl) ?_
      refine lv_aload_n SS.1 SS.2.1 dX1_lowestLeft_8 rfl (lv_at hl 0 rfl) ?_
      refine j_get SS hG hP 7 (v := .ref (q (9 + 5 * 10))) (C := RX1) (T := TX1) (N := 4) rfl rfl inX1 0 (by decide) (ref := "GridPolygons$Coarse") kw_371 rfl rfl dX1_lowestLeft_9 ?_
      refine j_getS SS hG hP (9 + 5 * 10) (v := .int (J (u.1.2.2.1 10))) (C := RX6) (T := TX6) (N := 3) (cw_pts (by omega)) rfl inX6 2 (by decide) (ref := "GridPolygons$Points") kw_138 kw_134 rfl dX1_lowestLeft_12 ?_
      refine j_icmp_ge SS (tgt := 61) (x := k) (y := (u.1.2.2.1 10)) dX1_lowestLeft_15 (by decide) (by omega) (by omega) (fun c_15 => ?_) (fun c_15 => ?_)
      · skip
        refine lv_iload SS.1 SS.2.1 dX1_lowestLeft_61 (lv_at hl 4 rfl) ?_
        exact W.iret SS.1 SS.2.1 hr (fun t0 ht hW => ⟨_, rfl, ⟨lo, rfl, (⟨by omega, by rw [show u.1.2.2.1 10 = k by omega]; exact i6_2⟩)⟩, ht⟩) (fun _ h => nomatch h) dX1_lowestLeft_63 hlk
      · skip
        refine lv_aload_n SS.1 SS.2.1 dX1_lowestLeft_18 rfl (lv_at hl 0 rfl) ?_
        refine j_get SS hG hP 7 (v := .ref (q (9 + 5 * 10))) (C := RX1) (T := TX1) (N := 4) rfl rfl inX1 0 (by decide) (ref := "GridPolygons$Coarse") kw_371 rfl rfl dX1_lowestLeft_19 ?_
        refine lv_iload_n SS.1 SS.2.1 dX1_lowestLeft_22 rfl (lv_at hl 2 rfl) ?_
        refine lv_iload_n SS.1 SS.2.1 dX1_lowestLeft_23 rfl (lv_at hl 3 rfl) ?_
        refine lv_iload SS.1 SS.2.1 dX1_lowestLeft_24 (lv_at hl 5 rfl) ?_
        refine j_vRi SS (As := [.int (J a), .int (J b), .int (J k)]) (rest := []) (c_X6_turn_10t l D q u  a b k (show RB 40 u 10 from (p0)) (show -2147483648 ≤ a ∧ a ≤ 2147483647 from (by omega)) (show -2147483648 ≤ b ∧ b ≤ 2147483647 from (by omega)) (show -2147483648 ≤ k ∧ k ≤ 2147483647 from (by omega))) mf_X6_turn kw_996 hG hP hP (ci := 6) (q0 := (9 + 5 * 10)) rfl (cw_pts (by omega)) rfl rfl hl.1 ⟨⟨Nat.le_of_ble_eq_true rfl, Nat.le_of_ble_eq_true rfl⟩, Nat.le_of_ble_eq_true rfl, Nat.le_refl _, Nat.le_refl _⟩ rfl dX1_lowestLeft_26 (fun z_26 h_26 => ?_)
        have h_26 : (-12800 ≤ z_26 ∧ z_26 ≤ 12800) ∧ ((0 ≤ a ∧ a < 40) → (0 ≤ b ∧ b < 40) → (0 ≤ k ∧ k < 40) → z_26 = tn ((u.1.1 10)) ((u.1.2.1 10)) a.toNat b.toNat k.toNat) := h_26
        obtain ⟨t_26, e26⟩ := h_26
        have e26 := e26 p2 p3 (by omega)
        refine j_if_le SS (tgt := 55) (x := z_26) dX1_lowestLeft_29 (by decide) (by omega) (fun c_29 => ?_) (fun c_29 => ?_)
        · skip
          refine lv_iinc (v := J (k + 1)) (lv' := [(5, .int (J (k + 1))), (0, .ref (q 7)), (1, .ref (q (12 + 5 * i))), (2, .int (J a)), (3, .int (J b)), (4, .int (J lo))]) SS.1 SS.2.1 dX1_lowestLeft_55 hl (k := 5) rfl (J_add _ _) (by decide) rfl (fun ls hl => ?_)
          refine lv_goto (tgt := 6) SS.1 SS.2.1 dX1_lowestLeft_58 (by decide) ?_
          exact ih_6 lo (k + 1) ls (lv_sub hl [1, 2, 3, 4, 5, 0] rfl) (by omega) (by omega) (by first | exact LO_n (by omega) i6_2 (by rw [← e26]; omega) | exact LO_w (by omega) i6_2 (by rw [← e26]; omega) (Or.inl (by omega)) | exact LO_k (by omega) i6_2 (by omega) (by rw [← e45]; omega) | exact LO_w (by omega) i6_2 (by rw [← e26]; omega) (Or.inr (by rw [← e45]; omega))) (by omega)
        · skip
          refine lv_iload SS.1 SS.2.1 dX1_lowestLeft_32 (lv_at hl 4 rfl) ?_
          refine j_if_lt SS (tgt := 51) (x := lo) dX1_lowestLeft_34 (by decide) (by omega) (fun c_34 => ?_) (fun c_34 => ?_)
          · skip
            refine lv_iload SS.1 SS.2.1 dX1_lowestLeft_51 (lv_at hl 5 rfl) ?_
            refine lv_istore (lv' := [(4, .int (J k)), (0, .ref (q 7)), (1, .ref (q (12 + 5 * i))), (2, .int (J a)), (3, .int (J b)), (5, .int (J k))]) SS.1 SS.2.1 dX1_lowestLeft_53 hl (by decide) rfl (fun ls hl => ?_)
            refine lv_iinc (v := J (k + 1)) (lv' := [(5, .int (J (k + 1))), (4, .int (J k)), (0, .ref (q 7)), (1, .ref (q (12 + 5 * i))), (2, .int (J a)), (3, .int (J b))]) SS.1 SS.2.1 dX1_lowestLeft_55 hl (k := 5) rfl (J_add _ _) (by decide) rfl (fun ls hl => ?_)
            refine lv_goto (tgt := 6) SS.1 SS.2.1 dX1_lowestLeft_58 (by decide) ?_
            exact ih_6 k (k + 1) ls (lv_sub hl [2, 3, 4, 5, 1, 0] rfl) (by omega) (by omega) (by first | exact LO_n (by omega) i6_2 (by rw [← e26]; omega) | exact LO_w (by omega) i6_2 (by rw [← e26]; omega) (Or.inl (by omega)) | exact LO_k (by omega) i6_2 (by omega) (by rw [← e45]; omega) | exact LO_w (by omega) i6_2 (by rw [← e26]; omega) (Or.inr (by rw [← e45]; omega))) (by omega)
          · skip
            refine lv_aload_n SS.1 SS.2.1 dX1_lowestLeft_37 rfl (lv_at hl 0 rfl) ?_
            refine lv_aload_n SS.1 SS.2.1 dX1_lowestLeft_38 rfl (lv_at hl 1 rfl) ?_
            refine lv_iload_n SS.1 SS.2.1 dX1_lowestLeft_39 rfl (lv_at hl 2 rfl) ?_
            refine lv_iload_n SS.1 SS.2.1 dX1_lowestLeft_40 rfl (lv_at hl 3 rfl) ?_
            refine lv_iload SS.1 SS.2.1 dX1_lowestLeft_41 (lv_at hl 4 rfl) ?_
            refine lv_iload SS.1 SS.2.1 dX1_lowestLeft_43 (lv_at hl 5 rfl) ?_
            refine j_vRi SS (As := [.ref (q (12 + 5 * i)), .int (J a), .int (J b), .int (J lo), .int (J k)]) (rest := []) (c_X1_above3 l D q u i (by omega) a b lo k (show RB 40 u 10 from (p0)) (show HB ((u.1.2.2.2.1 i)) from (p1)) (show -2147483648 ≤ a ∧ a ≤ 2147483647 from (by omega)) (show -2147483648 ≤ b ∧ b ≤ 2147483647 from (by omega)) (show -2147483648 ≤ lo ∧ lo ≤ 2147483647 from (by omega)) (show -2147483648 ≤ k ∧ k ≤ 2147483647 from (by omega))) mf_X1_above kw_997 hG hP hP (ci := 1) (q0 := 7) rfl rfl rfl rfl hl.1 ⟨⟨Nat.le_of_ble_eq_true rfl, Nat.le_of_ble_eq_true rfl⟩, Nat.le_of_ble_eq_true rfl, Nat.le_refl _, Nat.le_refl _⟩ rfl dX1_lowestLeft_45 (fun z_45 h_45 => ?_)
            have h_45 : (-100000000 ≤ z_45 ∧ z_45 ≤ 100000000) ∧ ((0 ≤ a ∧ a < 40) → (0 ≤ b ∧ b < 40) → (0 ≤ lo ∧ lo < 40) → (0 ≤ k ∧ k < 40) → z_45 = ab9 ((u.1.1 10)) ((u.1.2.1 10)) ((u.1.2.2.2.1 i)) a.toNat b.toNat lo.toNat k.toNat) := h_45
            obtain ⟨t_45, e45⟩ := h_45
            have e45 := e45 p2 p3 (by omega) (by omega)
            refine j_if_ge SS (tgt := 55) (x := z_45) dX1_lowestLeft_48 (by decide) (by omega) (fun c_48 => ?_) (fun c_48 => ?_)
            · skip
              refine lv_iinc (v := J (k + 1)) (lv' := [(5, .int (J (k + 1))), (0, .ref (q 7)), (1, .ref (q (12 + 5 * i))), (2, .int (J a)), (3, .int (J b)), (4, .int (J lo))]) SS.1 SS.2.1 dX1_lowestLeft_55 hl (k := 5) rfl (J_add _ _) (by decide) rfl (fun ls hl => ?_)
              refine lv_goto (tgt := 6) SS.1 SS.2.1 dX1_lowestLeft_58 (by decide) ?_
              exact ih_6 lo (k + 1) ls (lv_sub hl [1, 2, 3, 4, 5, 0] rfl) (by omega) (by omega) (by first | exact LO_n (by omega) i6_2 (by rw [← e26]; omega) | exact LO_w (by omega) i6_2 (by rw [← e26]; omega) (Or.inl (by omega)) | exact LO_k (by omega) i6_2 (by omega) (by rw [← e45]; omega) | exact LO_w (by omega) i6_2 (by rw [← e26]; omega) (Or.inr (by rw [← e45]; omega))) (by omega)
            · skip
              refine lv_iload SS.1 SS.2.1 dX1_lowestLeft_51 (lv_at hl 5 rfl) ?_
              refine lv_istore (lv' := [(4, .int (J k)), (0, .ref (q 7)), (1, .ref (q (12 + 5 * i))), (2, .int (J a)), (3, .int (J b)), (5, .int (J k))]) SS.1 SS.2.1 dX1_lowestLeft_53 hl (by decide) rfl (fun ls hl => ?_)
              refine lv_iinc (v := J (k + 1)) (lv' := [(5, .int (J (k + 1))), (4, .int (J k)), (0, .ref (q 7)), (1, .ref (q (12 + 5 * i))), (2, .int (J a)), (3, .int (J b))]) SS.1 SS.2.1 dX1_lowestLeft_55 hl (k := 5) rfl (J_add _ _) (by decide) rfl (fun ls hl => ?_)
              refine lv_goto (tgt := 6) SS.1 SS.2.1 dX1_lowestLeft_58 (by decide) ?_
              exact ih_6 k (k + 1) ls (lv_sub hl [2, 3, 4, 5, 1, 0] rfl) (by omega) (by omega) (by first | exact LO_n (by omega) i6_2 (by rw [← e26]; omega) | exact LO_w (by omega) i6_2 (by rw [← e26]; omega) (Or.inl (by omega)) | exact LO_k (by omega) i6_2 (by omega) (by rw [← e45]; omega) | exact LO_w (by omega) i6_2 (by rw [← e26]; omega) (Or.inr (by rw [← e45]; omega))) (by omega)
  exact L_6 (((40 : Int) - (0 : Int)).toNat + 1) (-1) 0 ls (lv_sub hl [2, 3, 4, 5, 1, 0] rfl) (by omega) (by omega) (Or.inl ⟨rfl, fun p hp => by omega⟩) (Nat.lt_succ_self _)


set_option maxHeartbeats 4000000 in
set_option maxRecDepth 100000 in
theorem c_X1_planeOf3 (l : Launch) (D : JD) (q : Nat → Nat) (u : CS) (i : Nat) (hi : i < 8) (a : Int) (b : Int) (c : Int) (p0 : RB 40 u 10) (p1 : HB (u.1.2.2.2.1 i)) (p2 : 0 ≤ a ∧ a < 40) (p3 : 0 ≤ b ∧ b < 40) (p4 : -1 ≤ c ∧ c < 40) : Met l yX1_planeOf (jw yX1_planeOf cX1_planeOf 9 (some .long)) (jr 3 71) (jP [.ref (q 7), .ref (q (12 + 5 * i)), .int (J a), .int (J b), .int (J c)] D (fun H => va_P D.1 j_cl (cW D q u) H)) (vp_Sl (fun x9 => (c < 0 → x9 = 0) ∧ (0 ≤ c → (x9 = 0 ∧ ∃ p : Nat, (p : Int) < u.1.2.2.1 10 ∧ ab9 (u.1.1 10) (u.1.2.1 10) (u.1.2.2.2.1 i) a.toNat b.toNat c.toNat p < 0) ∨ ((∀ p : Nat, (p : Int) < u.1.2.2.1 10 → 0 ≤ ab9 (u.1.1 10) (u.1.2.1 10) (u.1.2.2.2.1 i) a.toNat b.toNat c.toNat p) ∧ x9 = PR9 (fun p => decide (ab9 (u.1.1 10) (u.1.2.1 10) (u.1.2.2.2.1 i) a.toNat b.toNat c.toNat p = 0)) (u.1.2.2.1 10).toNat)))) 0 0 (fun _ => False) := by
  refine Met.ofW (cc := cX1_planeOf) (maxL := 9) (ret := (some .long)) (by decide) rfl ?_
  intro pr en st mi args below meth co s₁ B hml hv
  obtain ⟨rfl, hG, hP⟩ := hv
  have hr := B.returns
  have hlk := B.notSynchronized
  have SS : jS pr mi co cX1_planeOf 9 st _ RX1 := ⟨B.exec, B.bytes, hml, findClass_of_methodNamed B.named, fun w hw => atoms_spec (ws := (jw yX1_planeOf cX1_planeOf 9 (some .long))) B.pre w (List.mem_cons_of_mem _ hw)⟩
  have hl := lv_entry ([.ref (q 7), .ref (q (12 + 5 * i)), .int (J a), .int (J b), .int (J c)]) (n := 9) (Nat.le_of_ble_eq_true rfl)
  rw [lg_entry_eq]
  generalize (lg_sl ([.ref (q 7), .ref (q (12 + 5 * i)), .int (J a), .int (J b), .int (J c)]) ++ List.replicate (9 - (lg_sl ([.ref (q 7), .ref (q (12 + 5 * i)), .int (J a), .int (J b), .int (J c)])).length) Slot.unset).toArray = ls at hl ⊢
  have hl : lv_has ls 9 [(0, .ref (q 7)), (1, .ref (q (12 + 5 * i))), (2, .int (J a)), (3, .int (J b)), (4, .int (J c))] := hl
  have hc := p0.1
  have hrk : (rl 10 : Int) = 40 := rfl
  refine lv_iload SS.1 SS.2.1 dX1_planeOf_0 (lv_at hl 4 rfl) ?_
  refine j_if_ge SS (tgt := 7) (x := c) dX1_planeOf_2 (by decide) (by omega) (fun c_2 => ?_) (fun c_2 => ?_)
  · skip
    refine lv_lconst (v := 0) SS.1 SS.2.1 dX1_planeOf_7 (by decide +kernel) ?_
    refine lv_lstore (lv' := [(5, .long 0), (0, .ref (q 7)), (1, .ref (q (12 + 5 * i))), (2, .int (J a)), (3, .int (J b)), (4, .int (J c))]) SS.1 SS.2.1 dX1_planeOf_8 hl (by decide) rfl (fun ls hl => ?_)
    refine j_iconst SS dX1_planeOf_10 ?_
    refine lv_istore (lv' := [(7, .int (J 0)), (5, .long 0), (0, .ref (q 7)), (1, .ref (q (12 + 5 * i))), (2, .int (J a)), (3, .int (J b)), (4, .int (J c))]) SS.1 SS.2.1 dX1_planeOf_11 hl (by decide) rfl (fun ls hl => ?_)
    have L_13 : ∀ (nn : Nat) (se : Int64) (m : Int) (ls : Array Slot) (hl : lv_has ls 9 [(0, .ref (q 7)), (1, .ref (q (12 + 5 * i))), (2, .int (J a)), (3, .int (J b)), (4, .int (J c)), (5, .long se), (7, .int (J m))]) (i13_0 : 0 ≤ m ∧ m ≤ u.1.2.2.1 10) (i13_1 : ∀ p : Nat, (p : Int) < m → 0 ≤ ab9 (u.1.1 10) (u.1.2.1 10) (u.1.2.2.2.1 i) a.toNat b.toNat c.toNat p) (i13_2 : se = PR9 (fun p => decide (ab9 (u.1.1 10) (u.1.2.1 10) (u.1.2.2.2.1 i) a.toNat b.toNat c.toNat p = 0)) m.toNat), ((40 : Int) - m).toNat < nn → W pr l en (headSpec (jw yX1_planeOf cX1_planeOf 9 (some .long)) (jr 3 71)).room st mi (([.ref (q 7), .ref (q (12 + 5 * i)), .int (J a), .int (J b), .int (J c)] : List Value).toArray) below meth co st.heap [] 0 0 (MQ below (vp_Sl (fun x9 => (c < 0 → x9 = 0) ∧ (0 ≤ c → (x9 = 0 ∧ ∃ p : Nat, (p : Int) < u.1.2.2.1 10 ∧ ab9 (u.1.1 10) (u.1.2.1 10) (u.1.2.2.2.1 i) a.toNat b.toNat c.toNat p < 0) ∨ ((∀ p : Nat, (p : Int) < u.1.2.2.1 10 → 0 ≤ ab9 (u.1.1 10) (u.1.2.1 10) (u.1.2.2.2.1 i) a.toNat b.toNat c.toNat p) ∧ x9 = PR9 (fun p => decide (ab9 (u.1.1 10) (u.1.2.1 10) (u.1.2.2.2.1 i) a.toNat b.toNat c.toNat p = 0)) (u.1.2.2.1 10).toNat)))) (([.ref (q 7), .ref (q (12 + 5 * i)), .int (J a), .int (J b), .int (J c)] : List Value).toArray) st 0 0 (fun _ => False)) (F0 mi 13 ls []) := by
      intro nn
      induction nn with
      | zero => intros; omega
      | succ nn ih_13 =>
        intro se m ls hl i13_0 i13_1 i13_2 hm
        refine lv_iload SS.1 SS.2.1 dX1_planeOf_13 (lv_at hl 6 rfl) ?_
        refine lv_aload_n SS.1 SS.2.1 dX1_planeOf_15 rfl (lv_at hl 0 rfl) ?_
        refine j_get SS hG hP 7 (v := .ref (q (9 + 5 * 10))) (C := RX1) (T := TX1) (N := 4) rfl rfl inX1 0 (by decide) (ref := "GridPolygons$Coarse") kw_371 rfl rfl dX1_planeOf_16 ?_
        refine j_getS SS hG hP (9 + 5 * 10) (v := .int (J (u.1.2.2.1 10))) (C := RX6) (T := TX6) (N := 3) (cw_pts (by omega)) rfl inX6 2 (by decide) (ref := "GridPolygons$Points") kw_138 kw_134 rfl dX1_planeOf_19 ?_
        refine j_icmp_ge SS (tgt := 66) (x := m) (y := (u.1.2.2.1 10)) dX1_planeOf_22 (by decide) (by omega) (by omega) (fun c_22 => ?_) (fun c_22 => ?_)
        · skip
          refine lv_lload SS.1 SS.2.1 dX1_planeOf_66 (lv_at hl 5 rfl) ?_
          exact W.lret SS.1 SS.2.1 hr (fun t0 ht hW => ⟨_, rfl, (⟨fun q => by omega, fun _ => Or.inr ⟨fun p hp => i13_1 p (by omega), by rw [i13_2, show m = u.1.2.2.1 10 by omega]⟩⟩), ht⟩) (fun _ h => nomatch h) dX1_planeOf_68 hlk
        · skip
          refine lv_aload_n SS.1 SS.2.1 dX1_planeOf_25 rfl (lv_at hl 0 rfl) ?_
          refine lv_aload_n SS.1 SS.2.1 dX1_planeOf_26 rfl (lv_at hl 1 rfl) ?_
          refine lv_iload_n SS.1 SS.2.1 dX1_planeOf_27 rfl (lv_at hl 2 rfl) ?_
          refine lv_iload_n SS.1 SS.2.1 dX1_planeOf_28 rfl (lv_at hl 3 rfl) ?_
          refine lv_iload SS.1 SS.2.1 dX1_planeOf_29 (lv_at hl 4 rfl) ?_
          refine lv_iload SS.1 SS.2.1 dX1_planeOf_31 (lv_at hl 6 rfl) ?_
          refine j_vRi SS (As := [.ref (q (12 + 5 * i)), .int (J a), .int (J b), .int (J c), .int (J m)]) (rest := []) (c_X1_above3 l D q u i (by omega) a b c m (show RB 40 u 10 from (p0)) (show HB ((u.1.2.2.2.1 i)) from (p1)) (show -2147483648 ≤ a ∧ a ≤ 2147483647 from (by omega)) (show -2147483648 ≤ b ∧ b ≤ 2147483647 from (by omega)) (show -2147483648 ≤ c ∧ c ≤ 2147483647 from (by omega)) (show -2147483648 ≤ m ∧ m ≤ 2147483647 from (by omega))) mf_X1_above kw_997 hG hP hP (ci := 1) (q0 := 7) rfl rfl rfl rfl hl.1 ⟨⟨Nat.le_of_ble_eq_true rfl, Nat.le_of_ble_eq_true rfl⟩, Nat.le_of_ble_eq_true rfl, Nat.le_refl _, Nat.le_refl _⟩ rfl dX1_planeOf_33 (fun z_33 h_33 => ?_)
          have h_33 : (-100000000 ≤ z_33 ∧ z_33 ≤ 100000000) ∧ ((0 ≤ a ∧ a < 40) → (0 ≤ b ∧ b < 40) → (0 ≤ c ∧ c < 40) → (0 ≤ m ∧ m < 40) → z_33 = ab9 ((u.1.1 10)) ((u.1.2.1 10)) ((u.1.2.2.2.1 i)) a.toNat b.toNat c.toNat m.toNat) := h_33
          obtain ⟨t_33, e33⟩ := h_33
          have e33 := e33 p2 p3 (by omega) (by omega)
          refine lv_istore (lv' := [(8, .int (J z_33)), (0, .ref (q 7)), (1, .ref (q (12 + 5 * i))), (2, .int (J a)), (3, .int (J b)), (4, .int (J c)), (5, .long se), (7, .int (J m))]) SS.1 SS.2.1 dX1_planeOf_36 hl (by decide) rfl (fun ls hl => ?_)
          refine lv_iload SS.1 SS.2.1 dX1_planeOf_38 (lv_at hl 0 rfl) ?_
          refine j_if_ge SS (tgt := 45) (x := z_33) dX1_planeOf_40 (by decide) (by omega) (fun c_40 => ?_) (fun c_40 => ?_)
          · skip
            refine lv_iload SS.1 SS.2.1 dX1_planeOf_45 (lv_at hl 0 rfl) ?_
            refine j_if_ne SS (tgt := 60) (x := z_33) dX1_planeOf_47 (by decide) (by omega) (fun c_47 => ?_) (fun c_47 => ?_)
            · skip
              refine lv_iinc (v := J (m + 1)) (lv' := [(7, .int (J (m + 1))), (8, .int (J z_33)), (0, .ref (q 7)), (1, .ref (q (12 + 5 * i))), (2, .int (J a)), (3, .int (J b)), (4, .int (J c)), (5, .long se)]) SS.1 SS.2.1 dX1_planeOf_60 hl (k := 7) rfl (J_add _ _) (by decide) rfl (fun ls hl => ?_)
              refine lv_goto (tgt := 13) SS.1 SS.2.1 dX1_planeOf_63 (by decide) ?_
              exact ih_13 se (m + 1) ls (lv_sub hl [2, 3, 4, 5, 6, 7, 0] rfl) (by omega) (fun p hp => by by_cases e : (p : Int) = m; (rw [show p = m.toNat by omega, ← e33]; omega); exact i13_1 p (by omega)) (by first | exact (PRp i13_0.1 i13_2).2 (by rw [← e33]; omega) | (rw [h_54]; exact (PRp i13_0.1 i13_2).1 (by rw [← e33]; omega))) (by omega)
            · skip
              refine lv_lload SS.1 SS.2.1 dX1_planeOf_50 (lv_at hl 6 rfl) ?_
              refine lv_iload SS.1 SS.2.1 dX1_planeOf_52 (lv_at hl 7 rfl) ?_
              refine j_sRl SS (As := [.int (J m)]) (rest := [.long se]) (c_X1_bit3 l D  m ) mf_X1_bit kw_1007 hG trivial rfl hl.1 ⟨⟨Nat.le_of_ble_eq_true rfl, Nat.le_of_ble_eq_true rfl⟩, Nat.le_of_ble_eq_true rfl, Nat.le_refl _, Nat.le_refl _⟩ rfl dX1_planeOf_54 (fun x_54 h_54 => ?_)
              have h_54 : x_54 = (1 : Int64) <<< ((J (62 - m)).toInt64 &&& 63) := h_54
              refine lv_lor SS.1 SS.2.1 dX1_planeOf_57 ?_
              refine lv_lstore (lv' := [(5, .long (se ||| x_54)), (8, .int (J z_33)), (0, .ref (q 7)), (1, .ref (q (12 + 5 * i))), (2, .int (J a)), (3, .int (J b)), (4, .int (J c)), (7, .int (J m))]) SS.1 SS.2.1 dX1_planeOf_58 hl (by decide) rfl (fun ls hl => ?_)
              refine lv_iinc (v := J (m + 1)) (lv' := [(7, .int (J (m + 1))), (5, .long (se ||| x_54)), (8, .int (J z_33)), (0, .ref (q 7)), (1, .ref (q (12 + 5 * i))), (2, .int (J a)), (3, .int (J b)), (4, .int (J c))]) SS.1 SS.2.1 dX1_planeOf_60 hl (k := 7) rfl (J_add _ _) (by decide) rfl (fun ls hl => ?_)
              refine lv_goto (tgt := 13) SS.1 SS.2.1 dX1_planeOf_63 (by decide) ?_
              exact ih_13 (se ||| x_54) (m + 1) ls (lv_sub hl [3, 4, 5, 6, 7, 1, 0] rfl) (by omega) (fun p hp => by by_cases e : (p : Int) = m; (rw [show p = m.toNat by omega, ← e33]; omega); exact i13_1 p (by omega)) (by first | exact (PRp i13_0.1 i13_2).2 (by rw [← e33]; omega) | (rw [h_54]; exact (PRp i13_0.1 i13_2).1 (by rw [← e33]; omega))) (by omega)
          · skip
            refine lv_lconst (v := 0) SS.1 SS.2.1 dX1_planeOf_43 (by decide +kernel) ?_
            exact W.lret SS.1 SS.2.1 hr (fun t0 ht hW => ⟨_, rfl, (⟨fun q => by omega, fun _ => Or.inl ⟨rfl, m.toNat, by omega, by rw [← e33]; omega⟩⟩), ht⟩) (fun _ h => nomatch h) dX1_planeOf_44 hlk
    exact L_13 (((40 : Int) - (0 : Int)).toNat + 1) 0 0 ls (lv_sub hl [2, 3, 4, 5, 6, 1, 0] rfl) (by omega) (fun p hp => by omega) (rfl) (Nat.lt_succ_self _)
  · skip
    refine lv_lconst (v := 0) SS.1 SS.2.1 dX1_planeOf_5 (by decide +kernel) ?_
    exact W.lret SS.1 SS.2.1 hr (fun t0 ht hW => ⟨_, rfl, (⟨fun _ => rfl, fun q => by omega⟩), ht⟩) (fun _ h => nomatch h) dX1_planeOf_6 hlk

set_option maxHeartbeats 4000000 in
set_option maxRecDepth 100000 in
theorem c_X1_isKnown3 (l : Launch) (D : JD) (q : Nat → Nat) (u : CS) (set : Int64) (p0 : 0 ≤ u.2.2.2 25 ∧ u.2.2.2 25 ≤ 80) : Met l yX1_isKnown (jw yX1_isKnown cX1_isKnown 4 (some .boolean)) (jr 1 21) (jP [.ref (q 7), .long set] D (fun H => va_P D.1 j_cl (cW D q u) H)) (jRi (fun z => (z = 1 ∧ ∃ q : Nat, (q : Int) < u.2.2.2 25 ∧ u.2.2.1 6 q = set) ∨ (z = 0 ∧ ∀ q : Nat, (q : Int) < u.2.2.2 25 → u.2.2.1 6 q ≠ set))) 0 0 (fun _ => False) := by
  refine Met.ofW (cc := cX1_isKnown) (maxL := 4) (ret := (some .boolean)) (by decide) rfl ?_
  intro pr en st mi args below meth co s₁ B hml hv
  obtain ⟨rfl, hG, hP⟩ := hv
  have hr := B.returns
  have hlk := B.notSynchronized
  have SS : jS pr mi co cX1_isKnown 4 st _ RX1 := ⟨B.exec, B.bytes, hml, findClass_of_methodNamed B.named, fun w hw => atoms_spec (ws := (jw yX1_isKnown cX1_isKnown 4 (some .boolean))) B.pre w (List.mem_cons_of_mem _ hw)⟩
  have hl := lv_entry ([.ref (q 7), .long set]) (n := 4) (Nat.le_of_ble_eq_true rfl)
  rw [lg_entry_eq]
  generalize (lg_sl ([.ref (q 7), .long set]) ++ List.replicate (4 - (lg_sl ([.ref (q 7), .long set])).length) Slot.unset).toArray = ls at hl ⊢
  have hl : lv_has ls 4 [(0, .ref (q 7)), (1, .long set)] := hl
  refine j_iconst SS dX1_isKnown_0 ?_
  refine lv_istore_n (lv' := [(3, .int (J 0)), (0, .ref (q 7)), (1, .long set)]) SS.1 SS.2.1 dX1_isKnown_1 rfl hl (by decide) rfl (fun ls hl => ?_)
  have L_2 : ∀ (nn : Nat) (i : Int) (ls : Array Slot) (hl : lv_has ls 4 [(0, .ref (q 7)), (1, .long set), (3, .int (J i))]) (i2_0 : 0 ≤ i ∧ i ≤ u.2.2.2 25) (i2_1 : ∀ q : Nat, (q : Int) < i → u.2.2.1 6 q ≠ set), ((80 : Int) - i).toNat < nn → W pr l en (headSpec (jw yX1_isKnown cX1_isKnown 4 (some .boolean)) (jr 1 21)).room st mi (([.ref (q 7), .long set] : List Value).toArray) below meth co st.heap [] 0 0 (MQ below (jRi (fun z => (z = 1 ∧ ∃ q : Nat, (q : Int) < u.2.2.2 25 ∧ u.2.2.1 6 q = set) ∨ (z = 0 ∧ ∀ q : Nat, (q : Int) < u.2.2.2 25 → u.2.2.1 6 q ≠ set))) (([.ref (q 7), .long set] : List Value).toArray) st 0 0 (fun _ => False)) (F0 mi 2 ls []) := by
    intro nn
    induction nn with
    | zero => intros; omega
    | succ nn ih_2 =>
      intro i ls hl i2_0 i2_1 hm
      refine lv_iload_n SS.1 SS.2.1 dX1_isKnown_2 rfl (lv_at hl 2 rfl) ?_
      refine lv_aload_n SS.1 SS.2.1 dX1_isKnown_3 rfl (lv_at hl 0 rfl) ?_
      refine j_get SS hG hP 7 (v := .int (J (u.2.2.2 25))) (C := RX1) (T := TX1) (N := 4) rfl rfl inX1 2 (by decide) (ref := "GridPolygons$Coarse") kw_373 rfl rfl dX1_isKnown_4 ?_
      refine j_icmp_ge SS (tgt := 28) (x := i) (y := (u.2.2.2 25)) dX1_isKnown_7 (by decide) (by omega) (by omega) (fun c_7 => ?_) (fun c_7 => ?_)
      · skip
        refine j_iconst SS dX1_isKnown_28 ?_
        exact W.zret SS.1 SS.2.1 hr (j_nz (by decide)) (fun t0 ht hW => ⟨_, rfl, ⟨0, rfl, (Or.inr ⟨rfl, fun q hq => i2_1 q (by omega)⟩)⟩, ht⟩) (fun _ h => nomatch h) dX1_isKnown_29 hlk
      · skip
        refine lv_aload_n SS.1 SS.2.1 dX1_isKnown_10 rfl (lv_at hl 0 rfl) ?_
        refine lv_iload_n SS.1 SS.2.1 dX1_isKnown_11 rfl (lv_at hl 2 rfl) ?_
        refine j_vRl SS (As := [.int (J i)]) (rest := []) (c_X1_setOf3 l D q u  i (show -2147483648 ≤ i ∧ i ≤ 2147483647 from (by omega))) mf_X1_setOf kw_1018 hG hP hP (ci := 1) (q0 := 7) rfl rfl rfl rfl hl.1 ⟨⟨Nat.le_of_ble_eq_true rfl, Nat.le_of_ble_eq_true rfl⟩, Nat.le_of_ble_eq_true rfl, Nat.le_refl _, Nat.le_refl _⟩ rfl dX1_isKnown_12 (fun x_12 h_12 => ?_)
        refine lv_lload_n SS.1 SS.2.1 dX1_isKnown_15 rfl (lv_at hl 1 rfl) ?_
        refine j_lcmp SS dX1_isKnown_16 (fun z_16 hz_16 => ?_)
        refine j_if_ne SS (tgt := 22) (x := z_16) dX1_isKnown_17 (by decide) (by omega) (fun c_17 => ?_) (fun c_17 => ?_)
        · skip
          refine lv_iinc (v := J (i + 1)) (lv' := [(3, .int (J (i + 1))), (0, .ref (q 7)), (1, .long set)]) SS.1 SS.2.1 dX1_isKnown_22 hl (k := 2) rfl (J_add _ _) (by decide) rfl (fun ls hl => ?_)
          refine lv_goto (tgt := 2) SS.1 SS.2.1 dX1_isKnown_25 (by decide) ?_
          exact ih_2 (i + 1) ls (lv_sub hl [1, 2, 0] rfl) (by omega) (fun q hq => by by_cases e : (q : Int) = i; (rw [show q = i.toNat by omega, ← h_12 (by omega) (by omega)]; exact fun e2 => c_17 (hz_16.2.2.2.mpr e2)); exact i2_1 q (by omega)) (by omega)
        · skip
          refine j_iconst SS dX1_isKnown_20 ?_
          exact W.zret SS.1 SS.2.1 hr (j_nz (by decide)) (fun t0 ht hW => ⟨_, rfl, ⟨1, rfl, (Or.inl ⟨rfl, i.toNat, by omega, by rw [← h_12 (by omega) (by omega)]; exact hz_16.2.2.2.mp (by omega)⟩)⟩, ht⟩) (fun _ h => nomatch h) dX1_isKnown_21 hlk
  exact L_2 (((80 : Int) - (0 : Int)).toNat + 1) 0 ls (lv_sub hl [1, 2, 0] rfl) (by omega) (fun q hq => by omega) (Nat.lt_succ_self _)

set_option maxHeartbeats 4000000 in
set_option maxRecDepth 100000 in
theorem c_X1_enter3 (l : Launch) (D : JD) (q : Nat → Nat) (u : CS) (A : Nat → Prop) (hD : va_D A (cW D q u)) (set : Int64) (p0 : 0 ≤ u.2.2.2 25 ∧ u.2.2.2 25 ≤ 80) : Met l yX1_enter (jw yX1_enter cX1_enter 4 none) (jr 2 44) (jP [.ref (q 7), .long set] D (fun H => va_P D.1 j_cl (cW D q u) H)) (jWv (fun u' => ∃ s6 : Nat → Int64, ∃ n : Int, u' = (sV (sL u 6 s6) 25 n) ∧ ((0 ≤ n ∧ n ≤ 80) ∧ EN_9 (u.2.2.1 6) s6 (u.2.2.2 25) n set)) (fun u' H => va_P D.1 j_cl (cW D q u') H) A) 0 0 A := by
  refine Met.ofW (cc := cX1_enter) (maxL := 4) (ret := none) (by decide) rfl ?_
  intro pr en st mi args below meth co s₁ B hml hv
  obtain ⟨rfl, hG, hP⟩ := hv
  have hr := B.returns
  have hlk := B.notSynchronized
  have SS : jS pr mi co cX1_enter 4 st _ RX1 := ⟨B.exec, B.bytes, hml, findClass_of_methodNamed B.named, fun w hw => atoms_spec (ws := (jw yX1_enter cX1_enter 4 none)) B.pre w (List.mem_cons_of_mem _ hw)⟩
  have hl := lv_entry ([.ref (q 7), .long set]) (n := 4) (Nat.le_of_ble_eq_true rfl)
  rw [lg_entry_eq]
  generalize (lg_sl ([.ref (q 7), .long set]) ++ List.replicate (4 - (lg_sl ([.ref (q 7), .long set])).length) Slot.unset).toArray = ls at hl ⊢
  have hl : lv_has ls 4 [(0, .ref (q 7)), (1, .long set)] := hl
  have hS : va_S A st.heap st.heap [] := va_S.rf
  refine lv_lload_n SS.1 SS.2.1 dX1_enter_0 rfl (lv_at hl 1 rfl) ?_
  refine lv_lconst (v := 0) SS.1 SS.2.1 dX1_enter_1 (by decide +kernel) ?_
  refine j_lcmp SS dX1_enter_2 (fun z_2 hz_2 => ?_)
  refine j_if_eq SS (tgt := 23) (x := z_2) dX1_enter_3 (by decide) (by omega) (fun c_3 => ?_) (fun c_3 => ?_)
  · skip
    exact W.vret SS.1 SS.2.1 hr (fun t0 ht hW => ⟨⟨(sV (sL u 6 (u.2.2.1 6)) 25 (u.2.2.2 25)), rfl, (⟨(u.2.2.1 6), (u.2.2.2 25), rfl, ⟨by omega, Or.inl ⟨by first | exact Or.inl (hz_2.2.2.2.mp (by omega)) | exact Or.inr (Or.inl (by omega)) | exact Or.inr (Or.inr (by rcases h_17 with q | q; exact q.2; omega)), rfl, rfl⟩⟩⟩), by show va_P D.1 j_cl (cW D q (sV (sL u 6 (u.2.2.1 6)) 25 (u.2.2.2 25))) t0.heap; rw [ht]; first | exact hP | (simp only [sI_id, sL_id, sC_id, sX_id, sY_id, sH_id, sT_id, sV_id]; exact hP)⟩, hS.F ht⟩) hS.2.2 dX1_enter_23 hlk
  · skip
    refine lv_aload_n SS.1 SS.2.1 dX1_enter_6 rfl (lv_at hl 0 rfl) ?_
    refine j_get SS hG hP 7 (v := .int (J (u.2.2.2 25))) (C := RX1) (T := TX1) (N := 4) rfl rfl inX1 2 (by decide) (ref := "GridPolygons$Coarse") kw_373 rfl rfl dX1_enter_7 ?_
    refine j_bipush SS dX1_enter_10 (by decide +kernel) ?_
    refine j_icmp_ge SS (tgt := 23) (x := (u.2.2.2 25)) (y := 80) dX1_enter_12 (by decide) (by omega) (by decide) (fun c_12 => ?_) (fun c_12 => ?_)
    · skip
      exact W.vret SS.1 SS.2.1 hr (fun t0 ht hW => ⟨⟨(sV (sL u 6 (u.2.2.1 6)) 25 (u.2.2.2 25)), rfl, (⟨(u.2.2.1 6), (u.2.2.2 25), rfl, ⟨by omega, Or.inl ⟨by first | exact Or.inl (hz_2.2.2.2.mp (by omega)) | exact Or.inr (Or.inl (by omega)) | exact Or.inr (Or.inr (by rcases h_17 with q | q; exact q.2; omega)), rfl, rfl⟩⟩⟩), by show va_P D.1 j_cl (cW D q (sV (sL u 6 (u.2.2.1 6)) 25 (u.2.2.2 25))) t0.heap; rw [ht]; first | exact hP | (simp only [sI_id, sL_id, sC_id, sX_id, sY_id, sH_id, sT_id, sV_id]; exact hP)⟩, hS.F ht⟩) hS.2.2 dX1_enter_23 hlk
    · skip
      refine lv_aload_n SS.1 SS.2.1 dX1_enter_15 rfl (lv_at hl 0 rfl) ?_
      refine lv_lload_n SS.1 SS.2.1 dX1_enter_16 rfl (lv_at hl 1 rfl) ?_
      refine j_vRi SS (As := [.long set]) (rest := []) (c_X1_isKnown3 l D q u  set (show 0 ≤ (u.2.2.2 25) ∧ (u.2.2.2 25) ≤ 80 from (p0))) mf_X1_isKnown kw_1014 hG hP hP (ci := 1) (q0 := 7) rfl rfl rfl rfl hl.1 ⟨⟨Nat.le_of_ble_eq_true rfl, Nat.le_of_ble_eq_true rfl⟩, Nat.le_of_ble_eq_true rfl, Nat.le_refl _, Nat.le_refl _⟩ rfl dX1_enter_17 (fun z_17 h_17 => ?_)
      have h_17 : (z_17 = 1 ∧ ∃ q : Nat, (q : Int) < (u.2.2.2 25) ∧ (u.2.2.1 6) q = set) ∨ (z_17 = 0 ∧ ∀ q : Nat, (q : Int) < (u.2.2.2 25) → (u.2.2.1 6) q ≠ set) := h_17
      refine j_if_eq SS (tgt := 24) (x := z_17) dX1_enter_20 (by decide) (by omega) (fun c_20 => ?_) (fun c_20 => ?_)
      · skip
        refine lv_aload_n SS.1 SS.2.1 dX1_enter_24 rfl (lv_at hl 0 rfl) ?_
        refine j_get SS hG hP 7 (v := .int (J (u.2.2.2 25))) (C := RX1) (T := TX1) (N := 4) rfl rfl inX1 2 (by decide) (ref := "GridPolygons$Coarse") kw_373 rfl rfl dX1_enter_25 ?_
        refine lv_istore_n (lv' := [(3, .int (J (u.2.2.2 25))), (0, .ref (q 7)), (1, .long set)]) SS.1 SS.2.1 dX1_enter_28 rfl hl (by decide) rfl (fun ls hl => ?_)
        have L_29 : ∀ (nn : Nat) (at9 : Int) (w1 : Nat → Int64) (H : Heap) (locs : List Loc) (hP : va_P D.1 j_cl (cW D q (sL u 6 w1)) H) (hS : va_S A st.heap H locs) (ls : Array Slot) (hl : lv_has ls 4 [(0, .ref (q 7)), (1, .long set), (3, .int (J at9))]) (i29_0 : 0 ≤ at9 ∧ at9 ≤ u.2.2.2 25) (i29_1 : sh_ (u.2.2.1 6) w1 (u.2.2.2 25) at9) (i29_2 : ∀ q : Nat, at9 ≤ q → (q : Int) < u.2.2.2 25 → u.2.2.1 6 q < set), at9.toNat < nn → W pr l en (headSpec (jw yX1_enter cX1_enter 4 none) (jr 2 44)).room st mi (([.ref (q 7), .long set] : List Value).toArray) below meth co H locs 0 0 (MQ below (jWv (fun u' => ∃ s6 : Nat → Int64, ∃ n : Int, u' = (sV (sL u 6 s6) 25 n) ∧ ((0 ≤ n ∧ n ≤ 80) ∧ EN_9 (u.2.2.1 6) s6 (u.2.2.2 25) n set)) (fun u' H => va_P D.1 j_cl (cW D q u') H) A) (([.ref (q 7), .long set] : List Value).toArray) st 0 0 A) (F0 mi 29 ls []) := by
          intro nn
          induction nn with
          | zero => intros; omega
          | succ nn ih_29 =>
            intro at9 w1 H locs hP hS ls hl i29_0 i29_1 i29_2 hm
            refine lv_iload_n SS.1 SS.2.1 dX1_enter_29 rfl (lv_at hl 2 rfl) ?_
            refine j_if_le SS (tgt := 66) (x := at9) dX1_enter_30 (by decide) (by omega) (fun c_30 => ?_) (fun c_30 => ?_)
            · skip
              refine lv_aload_n SS.1 SS.2.1 dX1_enter_66 rfl (lv_at hl 0 rfl) ?_
              refine j_get SS hG hP 7 (v := .ref (q 73)) (C := RX1) (T := TX1) (N := 4) rfl rfl inX1 1 (by decide) (ref := "GridPolygons$Coarse") kw_372 rfl rfl dX1_enter_67 ?_
              refine lv_iload_n SS.1 SS.2.1 dX1_enter_70 rfl (lv_at hl 2 rfl) ?_
              refine lv_lload_n SS.1 SS.2.1 dX1_enter_71 rfl (lv_at hl 1 rfl) ?_
              refine j_last SS hG hP (cW_D hD) hS 73 (n := 80) (f := w1) rfl (z := at9) (v := set) (by omega) (by omega) dX1_enter_72 (ws' := (cW D q (sL u 6 (vp_updL w1 (at9).toNat set)))) rfl (fun H locs hP hS => ?_)
              refine lv_aload_n SS.1 SS.2.1 dX1_enter_73 rfl (lv_at hl 0 rfl) ?_
              refine lv_dup SS.1 SS.2.1 dX1_enter_74 rfl ?_
              refine j_get SS hG hP 7 (v := .int (J (u.2.2.2 25))) (C := RX1) (T := TX1) (N := 4) rfl rfl inX1 2 (by decide) (ref := "GridPolygons$Coarse") kw_373 rfl rfl dX1_enter_75 ?_
              refine j_iconst SS dX1_enter_78 ?_
              refine j_iadd SS (x := (u.2.2.2 25)) (y := 1) dX1_enter_79 ?_
              refine j_put SS hG hP (cW_D hD) hS 7 (v := .int (J ((u.2.2.2 25) + 1))) (ty := .int) (C := RX1) (T := TX1) (N := 4) rfl rfl inX1 tyX1 tyX1_ok nmX1 2 (by decide) (ref := "GridPolygons$Coarse") kw_373 rfl rfl (by decide +kernel) rfl rfl (Nat.le_of_ble_eq_true rfl) dX1_enter_80 (ws' := (cW D q (sV (sL u 6 (vp_updL w1 (at9).toNat set)) 25 ((u.2.2.2 25) + 1)))) rfl (fun H locs hP hS => ?_)
              exact W.vret SS.1 SS.2.1 hr (fun t0 ht hW => ⟨⟨(sV (sL u 6 (vp_updL w1 (at9).toNat set)) 25 ((u.2.2.2 25) + 1)), rfl, (⟨(vp_updL w1 (at9).toNat set), ((u.2.2.2 25) + 1), rfl, ⟨by omega, Or.inr ⟨⟨fun e => by have := hz_2.2.2.2.mpr e; omega, by omega, by rcases h_17 with q | q; omega; exact q.2⟩, rfl, at9, w1, i29_0, i29_1, i29_2, by first | exact Or.inl (by omega) | exact Or.inr (fun q => by have q2 := hz_42.2.2.1.mpr q; omega), rfl⟩⟩⟩), by show va_P D.1 j_cl (cW D q (sV (sL u 6 (vp_updL w1 (at9).toNat set)) 25 ((u.2.2.2 25) + 1))) t0.heap; rw [ht]; first | exact hP | (simp only [sI_id, sL_id, sC_id, sX_id, sY_id, sH_id, sT_id, sV_id]; exact hP)⟩, hS.F ht⟩) hS.2.2 dX1_enter_83 hlk
            · skip
              refine lv_aload_n SS.1 SS.2.1 dX1_enter_33 rfl (lv_at hl 0 rfl) ?_
              refine j_get SS hG hP 7 (v := .ref (q 73)) (C := RX1) (T := TX1) (N := 4) rfl rfl inX1 1 (by decide) (ref := "GridPolygons$Coarse") kw_372 rfl rfl dX1_enter_34 ?_
              refine lv_iload_n SS.1 SS.2.1 dX1_enter_37 rfl (lv_at hl 2 rfl) ?_
              refine j_iconst SS dX1_enter_38 ?_
              refine j_isub SS (x := at9) (y := 1) dX1_enter_39 ?_
              refine j_lald SS hG hP 73 (n := 80) (f := w1) rfl (z := (at9 - 1)) (by omega) (by omega) dX1_enter_40 ?_
              refine lv_lload_n SS.1 SS.2.1 dX1_enter_41 rfl (lv_at hl 1 rfl) ?_
              refine j_lcmp SS dX1_enter_42 (fun z_42 hz_42 => ?_)
              refine j_if_ge SS (tgt := 66) (x := z_42) dX1_enter_43 (by decide) (by omega) (fun c_43 => ?_) (fun c_43 => ?_)
              · skip
                refine lv_aload_n SS.1 SS.2.1 dX1_enter_66 rfl (lv_at hl 0 rfl) ?_
                refine j_get SS hG hP 7 (v := .ref (q 73)) (C := RX1) (T := TX1) (N := 4) rfl rfl inX1 1 (by decide) (ref := "GridPolygons$Coarse") kw_372 rfl rfl dX1_enter_67 ?_
                refine lv_iload_n SS.1 SS.2.1 dX1_enter_70 rfl (lv_at hl 2 rfl) ?_
                refine lv_lload_n SS.1 SS.2.1 dX1_enter_71 rfl (lv_at hl 1 rfl) ?_
                refine j_last SS hG hP (cW_D hD) hS 73 (n := 80) (f := w1) rfl (z := at9) (v := set) (by omega) (by omega) dX1_enter_72 (ws' := (cW D q (sL u 6 (vp_updL w1 (at9).toNat set)))) rfl (fun H locs hP hS => ?_)
                refine lv_aload_n SS.1 SS.2.1 dX1_enter_73 rfl (lv_at hl 0 rfl) ?_
                refine lv_dup SS.1 SS.2.1 dX1_enter_74 rfl ?_
                refine j_get SS hG hP 7 (v := .int (J (u.2.2.2 25))) (C := RX1) (T := TX1) (N := 4) rfl rfl inX1 2 (by decide) (ref := "GridPolygons$Coarse") kw_373 rfl rfl dX1_enter_75 ?_
                refine j_iconst SS dX1_enter_78 ?_
                refine j_iadd SS (x := (u.2.2.2 25)) (y := 1) dX1_enter_79 ?_
                refine j_put SS hG hP (cW_D hD) hS 7 (v := .int (J ((u.2.2.2 25) + 1))) (ty := .int) (C := RX1) (T := TX1) (N := 4) rfl rfl inX1 tyX1 tyX1_ok nmX1 2 (by decide) (ref := "GridPolygons$Coarse") kw_373 rfl rfl (by decide +kernel) rfl rfl (Nat.le_of_ble_eq_true rfl) dX1_enter_80 (ws' := (cW D q (sV (sL u 6 (vp_updL w1 (at9).toNat set)) 25 ((u.2.2.2 25) + 1)))) rfl (fun H locs hP hS => ?_)
                exact W.vret SS.1 SS.2.1 hr (fun t0 ht hW => ⟨⟨(sV (sL u 6 (vp_updL w1 (at9).toNat set)) 25 ((u.2.2.2 25) + 1)), rfl, (⟨(vp_updL w1 (at9).toNat set), ((u.2.2.2 25) + 1), rfl, ⟨by omega, Or.inr ⟨⟨fun e => by have := hz_2.2.2.2.mpr e; omega, by omega, by rcases h_17 with q | q; omega; exact q.2⟩, rfl, at9, w1, i29_0, i29_1, i29_2, by first | exact Or.inl (by omega) | exact Or.inr (fun q => by have q2 := hz_42.2.2.1.mpr q; omega), rfl⟩⟩⟩), by show va_P D.1 j_cl (cW D q (sV (sL u 6 (vp_updL w1 (at9).toNat set)) 25 ((u.2.2.2 25) + 1))) t0.heap; rw [ht]; first | exact hP | (simp only [sI_id, sL_id, sC_id, sX_id, sY_id, sH_id, sT_id, sV_id]; exact hP)⟩, hS.F ht⟩) hS.2.2 dX1_enter_83 hlk
              · skip
                refine lv_aload_n SS.1 SS.2.1 dX1_enter_46 rfl (lv_at hl 0 rfl) ?_
                refine j_get SS hG hP 7 (v := .ref (q 73)) (C := RX1) (T := TX1) (N := 4) rfl rfl inX1 1 (by decide) (ref := "GridPolygons$Coarse") kw_372 rfl rfl dX1_enter_47 ?_
                refine lv_iload_n SS.1 SS.2.1 dX1_enter_50 rfl (lv_at hl 2 rfl) ?_
                refine lv_aload_n SS.1 SS.2.1 dX1_enter_51 rfl (lv_at hl 0 rfl) ?_
                refine j_get SS hG hP 7 (v := .ref (q 73)) (C := RX1) (T := TX1) (N := 4) rfl rfl inX1 1 (by decide) (ref := "GridPolygons$Coarse") kw_372 rfl rfl dX1_enter_52 ?_
                refine lv_iload_n SS.1 SS.2.1 dX1_enter_55 rfl (lv_at hl 2 rfl) ?_
                refine j_iconst SS dX1_enter_56 ?_
                refine j_isub SS (x := at9) (y := 1) dX1_enter_57 ?_
                refine j_lald SS hG hP 73 (n := 80) (f := w1) rfl (z := (at9 - 1)) (by omega) (by omega) dX1_enter_58 ?_
                refine j_last SS hG hP (cW_D hD) hS 73 (n := 80) (f := w1) rfl (z := at9) (v := (w1 ((at9 - 1)).toNat)) (by omega) (by omega) dX1_enter_59 (ws' := (cW D q (sL u 6 (vp_updL w1 (at9).toNat (w1 ((at9 - 1)).toNat))))) rfl (fun H locs hP hS => ?_)
                refine lv_iinc (v := J (at9 + (-1))) (lv' := [(3, .int (J (at9 + (-1)))), (0, .ref (q 7)), (1, .long set)]) SS.1 SS.2.1 dX1_enter_60 hl (k := 2) rfl (J_add _ _) (by decide) rfl (fun ls hl => ?_)
                refine lv_goto (tgt := 29) SS.1 SS.2.1 dX1_enter_63 (by decide) ?_
                exact ih_29 (at9 + (-1)) (vp_updL w1 (at9).toNat (w1 ((at9 - 1)).toNat)) _ _ hP hS ls (lv_sub hl [1, 2, 0] rfl) (by omega) (sh_s (by omega) (by omega) i29_1) (fun q h1 h2 => by by_cases e : (q : Int) = at9 - 1; (have w9 : q = (at9 - 1).toNat := (by omega); subst w9; rw [← i29_1.1 (at9 - 1).toNat (by omega)]; exact hz_42.2.2.1.mp (by omega)); exact i29_2 q (by omega) h2) (by omega)
        exact L_29 ((u.2.2.2 25).toNat + 1) (u.2.2.2 25) (u.2.2.1 6) _ _ hP hS ls (lv_sub hl [1, 2, 0] rfl) (by omega) (sh_0) (fun q h1 h2 => by omega) (Nat.lt_succ_self _)
      · skip
        exact W.vret SS.1 SS.2.1 hr (fun t0 ht hW => ⟨⟨(sV (sL u 6 (u.2.2.1 6)) 25 (u.2.2.2 25)), rfl, (⟨(u.2.2.1 6), (u.2.2.2 25), rfl, ⟨by omega, Or.inl ⟨by first | exact Or.inl (hz_2.2.2.2.mp (by omega)) | exact Or.inr (Or.inl (by omega)) | exact Or.inr (Or.inr (by rcases h_17 with q | q; exact q.2; omega)), rfl, rfl⟩⟩⟩), by show va_P D.1 j_cl (cW D q (sV (sL u 6 (u.2.2.1 6)) 25 (u.2.2.2 25))) t0.heap; rw [ht]; first | exact hP | (simp only [sI_id, sL_id, sC_id, sX_id, sY_id, sH_id, sT_id, sV_id]; exact hP)⟩, hS.F ht⟩) hS.2.2 dX1_enter_23 hlk


set_option maxHeartbeats 4000000 in
set_option maxRecDepth 100000 in
theorem c_X1_build3 (l : Launch) (D : JD) (q : Nat → Nat) (u : CS) (A : Nat → Prop) (hD : va_D A (cW D q u)) (i : Nat) (hi : i < 8) (p0 : RB 40 u i) (p1 : RB 40 u 10) (p2 : HB (u.1.2.2.2.1 i)) (p3 : 0 ≤ u.2.2.2 25 ∧ u.2.2.2 25 ≤ 80) (p4 : -2147483648 ≤ u.2.2.2 26 ∧ u.2.2.2 26 ≤ 2147483647) (p5 : -2147483648 ≤ u.1.2.2.2.2 i ∧ u.1.2.2.2.2 i ≤ 2147483647) (p6 : 1 ≤ u.1.2.2.1 i) : Met l yX1_build (jw yX1_build cX1_build 4 none) (jr 4 99) (jP [.ref (q 7), .ref (q (8 + 5 * i))] D (fun H => va_P D.1 j_cl (cW D q u) H)) (jWv (fun u' => ∃ n : Int, ∃ f : Nat → Int, ∃ g : Nat → Int, ∃ se : Nat → Int64, ∃ v25 : Int, ∃ v26 : Int, u' = (sY (sX (sV (sV (sL (sC u 10 n) 6 se) 25 v25) 26 v26) 10 f) 10 g) ∧ ((((0 ≤ n ∧ n ≤ 40) ∧ RV 40 f g) ∧ (0 ≤ v25 ∧ v25 ≤ 80) ∧ -2147483648 ≤ v26 ∧ v26 ≤ 2147483647) ∧ ((u.2.2.2 26 = u.1.2.2.2.2 i ∧ n = u.1.2.2.1 10 ∧ f = u.1.1 10 ∧ g = u.1.2.1 10 ∧ se = u.2.2.1 6 ∧ v25 = u.2.2.2 25 ∧ v26 = u.2.2.2 26) ∨ (v26 = u.1.2.2.2.2 i ∧ (FT9 u i 40 → LC9 (inC u i) (u.1.2.2.2.1 i) n f g v25 se))))) (fun u' H => va_P D.1 j_cl (cW D q u') H) A) 0 0 A := by
  refine Met.ofW (cc := cX1_build) (maxL := 4) (ret := none) (by decide) rfl ?_
  intro pr en st mi args below meth co s₁ B hml hv
  obtain ⟨rfl, hG, hP⟩ := hv
  have hr := B.returns
  have hlk := B.notSynchronized
  have SS : jS pr mi co cX1_build 4 st _ RX1 := ⟨B.exec, B.bytes, hml, findClass_of_methodNamed B.named, fun w hw => atoms_spec (ws := (jw yX1_build cX1_build 4 none)) B.pre w (List.mem_cons_of_mem _ hw)⟩
  have hl := lv_entry ([.ref (q 7), .ref (q (8 + 5 * i))]) (n := 4) (Nat.le_of_ble_eq_true rfl)
  rw [lg_entry_eq]
  generalize (lg_sl ([.ref (q 7), .ref (q (8 + 5 * i))]) ++ List.replicate (4 - (lg_sl ([.ref (q 7), .ref (q (8 + 5 * i))])).length) Slot.unset).toArray = ls at hl ⊢
  have hl : lv_has ls 4 [(0, .ref (q 7)), (1, .ref (q (8 + 5 * i)))] := hl
  have hS : va_S A st.heap st.heap [] := va_S.rf
  refine lv_aload_n SS.1 SS.2.1 dX1_build_0 rfl (lv_at hl 0 rfl) ?_
  refine j_get SS hG hP 7 (v := .int (J (u.2.2.2 26))) (C := RX1) (T := TX1) (N := 4) rfl rfl inX1 3 (by decide) (ref := "GridPolygons$Coarse") kw_375 rfl rfl dX1_build_1 ?_
  refine lv_aload_n SS.1 SS.2.1 dX1_build_4 rfl (lv_at hl 1 rfl) ?_
  refine j_get SS hG hP (8 + 5 * i) (v := .int (J (u.1.2.2.2.2 i))) (C := RX10) (T := TX10) (N := 3) (cw_shape (by omega)) rfl inX10 2 (by decide) (ref := "GridPolygons$Shape") kw_159 rfl rfl dX1_build_5 ?_
  refine j_icmp_ne SS (tgt := 12) (x := (u.2.2.2 26)) (y := (u.1.2.2.2.2 i)) dX1_build_8 (by decide) (by omega) (by omega) (fun c_8 => ?_) (fun c_8 => ?_)
  · skip
    refine lv_aload_n SS.1 SS.2.1 dX1_build_12 rfl (lv_at hl 0 rfl) ?_
    refine lv_aload_n SS.1 SS.2.1 dX1_build_13 rfl (lv_at hl 1 rfl) ?_
    refine j_get SS hG hP (8 + 5 * i) (v := .int (J (u.1.2.2.2.2 i))) (C := RX10) (T := TX10) (N := 3) (cw_shape (by omega)) rfl inX10 2 (by decide) (ref := "GridPolygons$Shape") kw_159 rfl rfl dX1_build_14 ?_
    refine j_put SS hG hP (cW_D hD) hS 7 (v := .int (J (u.1.2.2.2.2 i))) (ty := .int) (C := RX1) (T := TX1) (N := 4) rfl rfl inX1 tyX1 tyX1_ok nmX1 3 (by decide) (ref := "GridPolygons$Coarse") kw_375 rfl rfl (by decide +kernel) rfl rfl (Nat.le_of_ble_eq_true rfl) dX1_build_17 (ws' := (cW D q (sV u 26 (u.1.2.2.2.2 i)))) rfl (fun H locs hP hS => ?_)
    refine lv_aload_n SS.1 SS.2.1 dX1_build_20 rfl (lv_at hl 0 rfl) ?_
    refine j_get SS hG hP 7 (v := .ref (q (9 + 5 * 10))) (C := RX1) (T := TX1) (N := 4) rfl rfl inX1 0 (by decide) (ref := "GridPolygons$Coarse") kw_371 rfl rfl dX1_build_21 ?_
    refine lv_aload_n SS.1 SS.2.1 dX1_build_24 rfl (lv_at hl 1 rfl) ?_
    refine j_get SS hG hP (8 + 5 * i) (v := .ref (q (9 + 5 * i))) (C := RX10) (T := TX10) (N := 3) (cw_shape (by omega)) rfl inX10 0 (by decide) (ref := "GridPolygons$Shape") kw_153 rfl rfl dX1_build_25 ?_
    refine j_vWv SS (As := [.ref (q (9 + 5 * i))]) (rest := []) (c_X6_fill3_10 l D q (sV u 26 (u.1.2.2.2.2 i)) A (cW_D hD) i (by omega)  (show RB 40 (sV u 26 (u.1.2.2.2.2 i)) i from (p0)) (show RB 40 (sV u 26 (u.1.2.2.2.2 i)) 10 from (p1)) (show 1 ≤ (u.1.2.2.1 i) from (p6))) mf_X6_fill kw_991 hG hP hP (ci := 6) (q0 := (9 + 5 * 10)) rfl (cw_pts (by omega)) rfl hS (fun _ h => h) rfl hl.1 ⟨⟨Nat.le_of_ble_eq_true rfl, Nat.le_of_ble_eq_true rfl⟩, Nat.le_of_ble_eq_true rfl, Nat.le_refl _, Nat.le_refl _⟩ rfl dX1_build_28 (fun u28 H locs h_28 hP _ hS => ?_)
    obtain ⟨n_28, f_28, g_28, rfl, h_28⟩ := h_28
    have hP : va_P D.1 j_cl (cW D q (sY (sX (sV (sC u 10 n_28) 26 (u.1.2.2.2.2 i)) 10 f_28) 10 g_28)) H := hP
    have h_28 : ((0 ≤ n_28 ∧ n_28 ≤ 40) ∧ RV 40 f_28 g_28) ∧ (FT9 (sV u 26 (u.1.2.2.2.2 i)) i 40 → OL (inC (sV u 26 (u.1.2.2.2.2 i)) i) n_28 f_28 g_28) := h_28
    have hR10 : (0 ≤ n_28 ∧ n_28 ≤ (rl 10 : Int)) ∧ RV 40 f_28 g_28 := h_28.1
    have hn28 := h_28.1.1
    have hOL : FT9 u i 40 → OL (inC u i) n_28 f_28 g_28 := h_28.2
    refine lv_aload_n SS.1 SS.2.1 dX1_build_31 rfl (lv_at hl 0 rfl) ?_
    refine j_iconst SS dX1_build_32 ?_
    refine j_put SS hG hP (cW_D hD) hS 7 (v := .int (J 0)) (ty := .int) (C := RX1) (T := TX1) (N := 4) rfl rfl inX1 tyX1 tyX1_ok nmX1 2 (by decide) (ref := "GridPolygons$Coarse") kw_373 rfl rfl (by decide +kernel) rfl rfl (Nat.le_of_ble_eq_true rfl) dX1_build_33 (ws' := (cW D q (sY (sX (sV (sV (sC u 10 n_28) 25 0) 26 (u.1.2.2.2.2 i)) 10 f_28) 10 g_28))) rfl (fun H locs hP hS => ?_)
    refine j_iconst SS dX1_build_36 ?_
    refine lv_istore_n (lv' := [(2, .int (J 0)), (0, .ref (q 7)), (1, .ref (q (8 + 5 * i)))]) SS.1 SS.2.1 dX1_build_37 rfl hl (by decide) rfl (fun ls hl => ?_)
    have L_38 : ∀ (nn : Nat) (a : Int) (w1 : Nat → Int64) (n1 : Int) (H : Heap) (locs : List Loc) (hP : va_P D.1 j_cl (cW D q (sY (sX (sV (sV (sL (sC u 10 n_28) 6 w1) 25 n1) 26 (u.1.2.2.2.2 i)) 10 f_28) 10 g_28)) H) (hS : va_S A st.heap H locs) (ls : Array Slot) (hl : lv_has ls 4 [(0, .ref (q 7)), (1, .ref (q (8 + 5 * i))), (2, .int (J a))]) (i38_0 : 0 ≤ a ∧ a ≤ n_28) (i38_1 : 0 ≤ n1 ∧ n1 ≤ 80) (i38_2 : FT9 u i 40 → BL9 f_28 g_28 (u.1.2.2.2.1 i) n_28 n1 w1 (fun x9 y9 => (x9 : Int) < a)), ((40 : Int) - a).toNat < nn → W pr l en (headSpec (jw yX1_build cX1_build 4 none) (jr 4 99)).room st mi (([.ref (q 7), .ref (q (8 + 5 * i))] : List Value).toArray) below meth co H locs 0 0 (MQ below (jWv (fun u' => ∃ n : Int, ∃ f : Nat → Int, ∃ g : Nat → Int, ∃ se : Nat → Int64, ∃ v25 : Int, ∃ v26 : Int, u' = (sY (sX (sV (sV (sL (sC u 10 n) 6 se) 25 v25) 26 v26) 10 f) 10 g) ∧ ((((0 ≤ n ∧ n ≤ 40) ∧ RV 40 f g) ∧ (0 ≤ v25 ∧ v25 ≤ 80) ∧ -2147483648 ≤ v26 ∧ v26 ≤ 2147483647) ∧ ((u.2.2.2 26 = u.1.2.2.2.2 i ∧ n = u.1.2.2.1 10 ∧ f = u.1.1 10 ∧ g = u.1.2.1 10 ∧ se = u.2.2.1 6 ∧ v25 = u.2.2.2 25 ∧ v26 = u.2.2.2 26) ∨ (v26 = u.1.2.2.2.2 i ∧ (FT9 u i 40 → LC9 (inC u i) (u.1.2.2.2.1 i) n f g v25 se))))) (fun u' H => va_P D.1 j_cl (cW D q u') H) A) (([.ref (q 7), .ref (q (8 + 5 * i))] : List Value).toArray) st 0 0 A) (F0 mi 38 ls []) := by
      intro nn
      induction nn with
      | zero => intros; omega
      | succ nn ih_38 =>
        intro a w1 n1 H locs hP hS ls hl i38_0 i38_1 i38_2 hm
        refine lv_iload_n SS.1 SS.2.1 dX1_build_38 rfl (lv_at hl 2 rfl) ?_
        refine lv_aload_n SS.1 SS.2.1 dX1_build_39 rfl (lv_at hl 0 rfl) ?_
        refine j_get SS hG hP 7 (v := .ref (q (9 + 5 * 10))) (C := RX1) (T := TX1) (N := 4) rfl rfl inX1 0 (by decide) (ref := "GridPolygons$Coarse") kw_371 rfl rfl dX1_build_40 ?_
        refine j_getS SS hG hP (9 + 5 * 10) (v := .int (J n_28)) (C := RX6) (T := TX6) (N := 3) (cw_pts (by omega)) rfl inX6 2 (by decide) (ref := "GridPolygons$Points") kw_138 kw_134 rfl dX1_build_43 ?_
        refine j_icmp_ge SS (tgt := 100) (x := a) (y := n_28) dX1_build_46 (by decide) (by omega) (by omega) (fun c_46 => ?_) (fun c_46 => ?_)
        · skip
          exact W.vret SS.1 SS.2.1 hr (fun t0 ht hW => ⟨⟨(sY (sX (sV (sV (sL (sC u 10 n_28) 6 w1) 25 n1) 26 (u.1.2.2.2.2 i)) 10 f_28) 10 g_28), rfl, (⟨n_28, f_28, g_28, w1, n1, (u.1.2.2.2.2 i), rfl, ⟨⟨h_28.1, by omega, by omega⟩, Or.inr ⟨rfl, fun F9 => BL_f (by omega) (hOL F9) (i38_2 F9) (fun x9 y9 h1 h2 => by show (x9 : Int) < a; omega)⟩⟩⟩), by show va_P D.1 j_cl (cW D q (sY (sX (sV (sV (sL (sC u 10 n_28) 6 w1) 25 n1) 26 (u.1.2.2.2.2 i)) 10 f_28) 10 g_28)) t0.heap; rw [ht]; first | exact hP | (simp only [sI_id, sL_id, sC_id, sX_id, sY_id, sH_id, sT_id, sV_id]; exact hP)⟩, hS.F ht⟩) hS.2.2 dX1_build_100 hlk
        · skip
          refine lv_iload_n SS.1 SS.2.1 dX1_build_49 rfl (lv_at hl 2 rfl) ?_
          refine j_iconst SS dX1_build_50 ?_
          refine j_iadd SS (x := a) (y := 1) dX1_build_51 ?_
          refine lv_istore_n (lv' := [(3, .int (J (a + 1))), (0, .ref (q 7)), (1, .ref (q (8 + 5 * i))), (2, .int (J a))]) SS.1 SS.2.1 dX1_build_52 rfl hl (by decide) rfl (fun ls hl => ?_)
          have L_53 : ∀ (nn : Nat) (b : Int) (w2 : Nat → Int64) (n2 : Int) (H : Heap) (locs : List Loc) (hP : va_P D.1 j_cl (cW D q (sY (sX (sV (sV (sL (sC u 10 n_28) 6 w2) 25 n2) 26 (u.1.2.2.2.2 i)) 10 f_28) 10 g_28)) H) (hS : va_S A st.heap H locs) (ls : Array Slot) (hl : lv_has ls 4 [(0, .ref (q 7)), (1, .ref (q (8 + 5 * i))), (2, .int (J a)), (3, .int (J b))]) (i53_0 : a + 1 ≤ b ∧ b ≤ n_28) (i53_1 : 0 ≤ n2 ∧ n2 ≤ 80) (i53_2 : FT9 u i 40 → BL9 f_28 g_28 (u.1.2.2.2.1 i) n_28 n2 w2 (fun x9 y9 => (x9 : Int) < a ∨ ((x9 : Int) = a ∧ (y9 : Int) < b))), ((41 : Int) - b).toNat < nn → W pr l en (headSpec (jw yX1_build cX1_build 4 none) (jr 4 99)).room st mi (([.ref (q 7), .ref (q (8 + 5 * i))] : List Value).toArray) below meth co H locs 0 0 (MQ below (jWv (fun u' => ∃ n : Int, ∃ f : Nat → Int, ∃ g : Nat → Int, ∃ se : Nat → Int64, ∃ v25 : Int, ∃ v26 : Int, u' = (sY (sX (sV (sV (sL (sC u 10 n) 6 se) 25 v25) 26 v26) 10 f) 10 g) ∧ ((((0 ≤ n ∧ n ≤ 40) ∧ RV 40 f g) ∧ (0 ≤ v25 ∧ v25 ≤ 80) ∧ -2147483648 ≤ v26 ∧ v26 ≤ 2147483647) ∧ ((u.2.2.2 26 = u.1.2.2.2.2 i ∧ n = u.1.2.2.1 10 ∧ f = u.1.1 10 ∧ g = u.1.2.1 10 ∧ se = u.2.2.1 6 ∧ v25 = u.2.2.2 25 ∧ v26 = u.2.2.2 26) ∨ (v26 = u.1.2.2.2.2 i ∧ (FT9 u i 40 → LC9 (inC u i) (u.1.2.2.2.1 i) n f g v25 se))))) (fun u' H => va_P D.1 j_cl (cW D q u') H) A) (([.ref (q 7), .ref (q (8 + 5 * i))] : List Value).toArray) st 0 0 A) (F0 mi 53 ls []) := by
            intro nn
            induction nn with
            | zero => intros; omega
            | succ nn ih_53 =>
              intro b w2 n2 H locs hP hS ls hl i53_0 i53_1 i53_2 hm
              refine lv_iload_n SS.1 SS.2.1 dX1_build_53 rfl (lv_at hl 3 rfl) ?_
              refine lv_aload_n SS.1 SS.2.1 dX1_build_54 rfl (lv_at hl 0 rfl) ?_
              refine j_get SS hG hP 7 (v := .ref (q (9 + 5 * 10))) (C := RX1) (T := TX1) (N := 4) rfl rfl inX1 0 (by decide) (ref := "GridPolygons$Coarse") kw_371 rfl rfl dX1_build_55 ?_
              refine j_getS SS hG hP (9 + 5 * 10) (v := .int (J n_28)) (C := RX6) (T := TX6) (N := 3) (cw_pts (by omega)) rfl inX6 2 (by decide) (ref := "GridPolygons$Points") kw_138 kw_134 rfl dX1_build_58 ?_
              refine j_icmp_ge SS (tgt := 94) (x := b) (y := n_28) dX1_build_61 (by decide) (by omega) (by omega) (fun c_61 => ?_) (fun c_61 => ?_)
              · skip
                refine lv_iinc (v := J (a + 1)) (lv' := [(2, .int (J (a + 1))), (0, .ref (q 7)), (1, .ref (q (8 + 5 * i))), (3, .int (J b))]) SS.1 SS.2.1 dX1_build_94 hl (k := 2) rfl (J_add _ _) (by decide) rfl (fun ls hl => ?_)
                refine lv_goto (tgt := 38) SS.1 SS.2.1 dX1_build_97 (by decide) ?_
                exact ih_38 (a + 1) w2 n2 _ _ hP hS ls (lv_sub hl [1, 2, 0] rfl) (by omega) (by omega) (fun F9 => BL_c (i53_2 F9) (fun x9 y9 h1 h2 h3 => by have h4 : (x9 : Int) < a + 1 := h3; show (x9 : Int) < a ∨ ((x9 : Int) = a ∧ (y9 : Int) < b); omega)) (by omega)
              · skip
                refine lv_aload_n SS.1 SS.2.1 dX1_build_64 rfl (lv_at hl 0 rfl) ?_
                refine lv_aload_n SS.1 SS.2.1 dX1_build_65 rfl (lv_at hl 0 rfl) ?_
                refine lv_aload_n SS.1 SS.2.1 dX1_build_66 rfl (lv_at hl 1 rfl) ?_
                refine j_get SS hG hP (8 + 5 * i) (v := .ref (q (12 + 5 * i))) (C := RX10) (T := TX10) (N := 3) (cw_shape (by omega)) rfl inX10 1 (by decide) (ref := "GridPolygons$Shape") kw_156 rfl rfl dX1_build_67 ?_
                refine lv_iload_n SS.1 SS.2.1 dX1_build_70 rfl (lv_at hl 2 rfl) ?_
                refine lv_iload_n SS.1 SS.2.1 dX1_build_71 rfl (lv_at hl 3 rfl) ?_
                refine lv_aload_n SS.1 SS.2.1 dX1_build_72 rfl (lv_at hl 0 rfl) ?_
                refine lv_aload_n SS.1 SS.2.1 dX1_build_73 rfl (lv_at hl 1 rfl) ?_
                refine j_get SS hG hP (8 + 5 * i) (v := .ref (q (12 + 5 * i))) (C := RX10) (T := TX10) (N := 3) (cw_shape (by omega)) rfl inX10 1 (by decide) (ref := "GridPolygons$Shape") kw_156 rfl rfl dX1_build_74 ?_
                refine lv_iload_n SS.1 SS.2.1 dX1_build_77 rfl (lv_at hl 2 rfl) ?_
                refine lv_iload_n SS.1 SS.2.1 dX1_build_78 rfl (lv_at hl 3 rfl) ?_
                refine j_vRi SS (As := [.ref (q (12 + 5 * i)), .int (J a), .int (J b)]) (rest := [.int (J b), .int (J a), .ref (q (12 + 5 * i)), .ref (q 7), .ref (q 7)]) (c_X1_lowestLeft3 l D q (sY (sX (sV (sV (sL (sC u 10 n_28) 6 w2) 25 n2) 26 (u.1.2.2.2.2 i)) 10 f_28) 10 g_28) i (by omega) a b (show RB 40 (sY (sX (sV (sV (sL (sC u 10 n_28) 6 w2) 25 n2) 26 (u.1.2.2.2.2 i)) 10 f_28) 10 g_28) 10 from (hR10)) (show HB ((u.1.2.2.2.1 i)) from (p2)) (show 0 ≤ a ∧ a < 40 from (by omega)) (show 0 ≤ b ∧ b < 40 from (by omega))) mf_X1_lowestLeft kw_992 hG hP hP (ci := 1) (q0 := 7) rfl rfl rfl rfl hl.1 ⟨⟨Nat.le_of_ble_eq_true rfl, Nat.le_of_ble_eq_true rfl⟩, Nat.le_of_ble_eq_true rfl, Nat.le_refl _, Nat.le_refl _⟩ rfl dX1_build_79 (fun z_79 h_79 => ?_)
                have h_79 : (-1 ≤ z_79 ∧ z_79 ≤ 39) ∧ LO9 (f_28) (g_28) ((u.1.2.2.2.1 i)) a.toNat b.toNat (n_28) z_79 := h_79
                obtain ⟨t_79, e_79⟩ := h_79
                refine j_vRl SS (As := [.ref (q (12 + 5 * i)), .int (J a), .int (J b), .int (J z_79)]) (rest := [.ref (q 7)]) (c_X1_planeOf3 l D q (sY (sX (sV (sV (sL (sC u 10 n_28) 6 w2) 25 n2) 26 (u.1.2.2.2.2 i)) 10 f_28) 10 g_28) i (by omega) a b z_79 (show RB 40 (sY (sX (sV (sV (sL (sC u 10 n_28) 6 w2) 25 n2) 26 (u.1.2.2.2.2 i)) 10 f_28) 10 g_28) 10 from (hR10)) (show HB ((u.1.2.2.2.1 i)) from (p2)) (show 0 ≤ a ∧ a < 40 from (by omega)) (show 0 ≤ b ∧ b < 40 from (by omega)) (show -1 ≤ z_79 ∧ z_79 < 40 from (by omega))) mf_X1_planeOf kw_1003 hG hP hP (ci := 1) (q0 := 7) rfl rfl rfl rfl hl.1 ⟨⟨Nat.le_of_ble_eq_true rfl, Nat.le_of_ble_eq_true rfl⟩, Nat.le_of_ble_eq_true rfl, Nat.le_refl _, Nat.le_refl _⟩ rfl dX1_build_82 (fun x_82 h_82 => ?_)
                refine j_vWv SS (As := [.long x_82]) (rest := []) (c_X1_enter3 l D q (sY (sX (sV (sV (sL (sC u 10 n_28) 6 w2) 25 n2) 26 (u.1.2.2.2.2 i)) 10 f_28) 10 g_28) A (cW_D hD)  x_82 (show 0 ≤ n2 ∧ n2 ≤ 80 from (by omega))) mf_X1_enter kw_1010 hG hP hP (ci := 1) (q0 := 7) rfl rfl rfl hS (fun _ h => h) rfl hl.1 ⟨⟨Nat.le_of_ble_eq_true rfl, Nat.le_of_ble_eq_true rfl⟩, Nat.le_of_ble_eq_true rfl, Nat.le_refl _, Nat.le_refl _⟩ rfl dX1_build_85 (fun u85 H locs h_85 hP _ hS => ?_)
                obtain ⟨s6_85, n_85, rfl, h_85⟩ := h_85
                have hP : va_P D.1 j_cl (cW D q (sY (sX (sV (sV (sL (sC u 10 n_28) 6 s6_85) 25 n_85) 26 (u.1.2.2.2.2 i)) 10 f_28) 10 g_28)) H := hP
                have h_85 : (0 ≤ n_85 ∧ n_85 ≤ 80) ∧ EN_9 (w2) s6_85 (n2) n_85 x_82 := h_85
                obtain ⟨t_85, e_85⟩ := h_85
                refine lv_iinc (v := J (b + 1)) (lv' := [(3, .int (J (b + 1))), (0, .ref (q 7)), (1, .ref (q (8 + 5 * i))), (2, .int (J a))]) SS.1 SS.2.1 dX1_build_88 hl (k := 3) rfl (J_add _ _) (by decide) rfl (fun ls hl => ?_)
                refine lv_goto (tgt := 53) SS.1 SS.2.1 dX1_build_91 (by decide) ?_
                exact ih_53 (b + 1) s6_85 n_85 _ _ hP hS ls (lv_sub hl [1, 2, 3, 0] rfl) (by omega) (by omega) (fun F9 => BL_c (BL_s (a := a.toNat) (b := b.toNat) (by omega) (hOL F9).2.1 (i53_2 F9) (by omega) (by omega) e_79 h_82 e_85) (fun x9 y9 h1 h2 h3 => by have h4 : (x9 : Int) < a ∨ ((x9 : Int) = a ∧ (y9 : Int) < b + 1) := h3; show ((x9 : Int) < a ∨ ((x9 : Int) = a ∧ (y9 : Int) < b)) ∨ (x9 = a.toNat ∧ y9 = b.toNat); omega)) (by omega)
          exact L_53 (((41 : Int) - (a + 1)).toNat + 1) (a + 1) w1 n1 _ _ hP hS ls (lv_sub hl [1, 2, 3, 0] rfl) (by omega) (by omega) (fun F9 => BL_c (i38_2 F9) (fun x9 y9 h1 h2 h3 => by have h4 : (x9 : Int) < a ∨ ((x9 : Int) = a ∧ (y9 : Int) < a + 1) := h3; show (x9 : Int) < a; omega)) (Nat.lt_succ_self _)
    have hP : va_P D.1 j_cl (cW D q (sY (sX (sV (sV (sL (sC u 10 n_28) 6 (u.2.2.1 6)) 25 0) 26 (u.1.2.2.2.2 i)) 10 f_28) 10 g_28)) H := Eq.mpr (congrArg (fun s => va_P D.1 j_cl (cW D q (sY (sX (sV (sV s 25 0) 26 (u.1.2.2.2.2 i)) 10 f_28) 10 g_28)) H) (sL_at (u := (sC u 10 n_28)) (r := 6) (x := (u.2.2.1 6)) rfl)) hP
    exact L_38 (((40 : Int) - (0 : Int)).toNat + 1) 0 (u.2.2.1 6) 0 _ _ hP hS ls (lv_sub hl [1, 2, 0] rfl) (by omega) (by omega) (fun F9 => ⟨⟨by omega, fun q hq => by omega, fun q r h1 h2 => by omega⟩, fun x9 y9 h1 h2 h3 => by have h4 : (x9 : Int) < 0 := h3; omega⟩) (Nat.lt_succ_self _)
  · skip
    exact W.vret SS.1 SS.2.1 hr (fun t0 ht hW => ⟨⟨(sY (sX (sV (sV (sL (sC u 10 (u.1.2.2.1 10)) 6 (u.2.2.1 6)) 25 (u.2.2.2 25)) 26 (u.2.2.2 26)) 10 (u.1.1 10)) 10 (u.1.2.1 10)), rfl, (⟨(u.1.2.2.1 10), (u.1.1 10), (u.1.2.1 10), (u.2.2.1 6), (u.2.2.2 25), (u.2.2.2 26), rfl, ⟨⟨p1, by omega, by omega⟩, Or.inl ⟨by omega, rfl, rfl, rfl, rfl, rfl, rfl⟩⟩⟩), by show va_P D.1 j_cl (cW D q (sY (sX (sV (sV (sL (sC u 10 (u.1.2.2.1 10)) 6 (u.2.2.1 6)) 25 (u.2.2.2 25)) 26 (u.2.2.2 26)) 10 (u.1.1 10)) 10 (u.1.2.1 10))) t0.heap; rw [ht]; first | exact hP | (simp only [sI_id, sL_id, sC_id, sX_id, sY_id, sH_id, sT_id, sV_id]; exact hP)⟩, hS.F ht⟩) hS.2.2 dX1_build_11 hlk


set_option maxHeartbeats 4000000 in
set_option maxRecDepth 100000 in
theorem c_X1_memberOf3 (l : Launch) (D : JD) (q : Nat → Nat) (u : CS) (pc9 : Int) (w9 : Int) (p0 : RB 40 u 10) (p1 : 0 ≤ pc9 ∧ pc9 < 80) (p2 : 0 ≤ w9 ∧ w9 ≤ 2147483647) : Met l yX1_memberOf (jw yX1_memberOf cX1_memberOf 5 (some .int)) (jr 1 21) (jP [.ref (q 7), .int (J pc9), .int (J w9)] D (fun H => va_P D.1 j_cl (cW D q u) H)) (jRi (fun z => (-1 ≤ z ∧ z ≤ 39) ∧ MB9 (u.2.2.1 6 pc9.toNat) (u.1.2.2.1 10) w9 z)) 0 0 (fun _ => False) := by
  refine Met.ofW (cc := cX1_memberOf) (maxL := 5) (ret := (some .int)) (by decide) rfl ?_
  intro pr en st mi args below meth co s₁ B hml hv
  obtain ⟨rfl, hG, hP⟩ := hv
  have hr := B.returns
  have hlk := B.notSynchronized
  have SS : jS pr mi co cX1_memberOf 5 st _ RX1 := ⟨B.exec, B.bytes, hml, findClass_of_methodNamed B.named, fun w hw => atoms_spec (ws := (jw yX1_memberOf cX1_memberOf 5 (some .int))) B.pre w (List.mem_cons_of_mem _ hw)⟩
  have hl := lv_entry ([.ref (q 7), .int (J pc9), .int (J w9)]) (n := 5) (Nat.le_of_ble_eq_true rfl)
  rw [lg_entry_eq]
  generalize (lg_sl ([.ref (q 7), .int (J pc9), .int (J w9)]) ++ List.replicate (5 - (lg_sl ([.ref (q 7), .int (J pc9), .int (J w9)])).length) Slot.unset).toArray = ls at hl ⊢
  have hl : lv_has ls 5 [(0, .ref (q 7)), (1, .int (J pc9)), (2, .int (J w9))] := hl
  have hc := p0.1
  have hrk : (rl 10 : Int) = 40 := rfl
  refine lv_iload_n SS.1 SS.2.1 dX1_memberOf_0 rfl (lv_at hl 2 rfl) ?_
  refine lv_istore_n (lv' := [(3, .int (J w9)), (0, .ref (q 7)), (1, .int (J pc9)), (2, .int (J w9))]) SS.1 SS.2.1 dX1_memberOf_1 rfl hl (by decide) rfl (fun ls hl => ?_)
  refine j_iconst SS dX1_memberOf_2 ?_
  refine lv_istore (lv' := [(4, .int (J 0)), (3, .int (J w9)), (0, .ref (q 7)), (1, .int (J pc9)), (2, .int (J w9))]) SS.1 SS.2.1 dX1_memberOf_3 hl (by decide) rfl (fun ls hl => ?_)
  have L_5 : ∀ (nn : Nat) (lf : Int) (k : Int) (ls : Array Slot) (hl : lv_has ls 5 [(0, .ref (q 7)), (1, .int (J pc9)), (2, .int (J w9)), (3, .int (J lf)), (4, .int (J k))]) (i5_0 : 0 ≤ lf ∧ lf ≤ 2147483647) (i5_1 : 0 ≤ k ∧ k ≤ u.1.2.2.1 10) (i5_2 : lf = w9 - ct9 (cs9 (u.2.2.1 6 pc9.toNat)) k.toNat), ((40 : Int) - k).toNat < nn → W pr l en (headSpec (jw yX1_memberOf cX1_memberOf 5 (some .int)) (jr 1 21)).room st mi (([.ref (q 7), .int (J pc9), .int (J w9)] : List Value).toArray) below meth co st.heap [] 0 0 (MQ below (jRi (fun z => (-1 ≤ z ∧ z ≤ 39) ∧ MB9 (u.2.2.1 6 pc9.toNat) (u.1.2.2.1 10) w9 z)) (([.ref (q 7), .int (J pc9), .int (J w9)] : List Value).toArray) st 0 0 (fun _ => False)) (F0 mi 5 ls []) := by
    intro nn
    induction nn with
    | zero => intros; omega
    | succ nn ih_5 =>
      intro lf k ls hl i5_0 i5_1 i5_2 hm
      refine lv_iload SS.1 SS.2.1 dX1_memberOf_5 (lv_at hl 4 rfl) ?_
      refine lv_aload_n SS.1 SS.2.1 dX1_memberOf_7 rfl (lv_at hl 0 rfl) ?_
      refine j_get SS hG hP 7 (v := .ref (q (9 + 5 * 10))) (C := RX1) (T := TX1) (N := 4) rfl rfl inX1 0 (by decide) (ref := "GridPolygons$Coarse") kw_371 rfl rfl dX1_memberOf_8 ?_
      refine j_getS SS hG hP (9 + 5 * 10) (v := .int (J (u.1.2.2.1 10))) (C := RX6) (T := TX6) (N := 3) (cw_pts (by omega)) rfl inX6 2 (by decide) (ref := "GridPolygons$Points") kw_138 kw_134 rfl dX1_memberOf_11 ?_
      refine j_icmp_ge SS (tgt := 49) (x := k) (y := (u.1.2.2.1 10)) dX1_memberOf_14 (by decide) (by omega) (by omega) (fun c_14 => ?_) (fun c_14 => ?_)
      · skip
        refine j_iconst SS dX1_memberOf_49 ?_
        exact W.iret SS.1 SS.2.1 hr (fun t0 ht hW => ⟨_, rfl, ⟨(-1), rfl, (⟨by omega, Or.inl ⟨rfl, by rw [show u.1.2.2.1 10 = k by omega]; omega⟩⟩)⟩, ht⟩) (fun _ h => nomatch h) dX1_memberOf_50 hlk
      · skip
        refine lv_aload_n SS.1 SS.2.1 dX1_memberOf_17 rfl (lv_at hl 0 rfl) ?_
        refine lv_iload_n SS.1 SS.2.1 dX1_memberOf_18 rfl (lv_at hl 1 rfl) ?_
        refine j_vRl SS (As := [.int (J pc9)]) (rest := []) (c_X1_setOf3 l D q u  pc9 (show -2147483648 ≤ pc9 ∧ pc9 ≤ 2147483647 from (by omega))) mf_X1_setOf kw_1018 hG hP hP (ci := 1) (q0 := 7) rfl rfl rfl rfl hl.1 ⟨⟨Nat.le_of_ble_eq_true rfl, Nat.le_of_ble_eq_true rfl⟩, Nat.le_of_ble_eq_true rfl, Nat.le_refl _, Nat.le_refl _⟩ rfl dX1_memberOf_19 (fun x_19 h_19 => ?_)
        have e19 := h_19 (by omega) (by omega)
        refine lv_iload SS.1 SS.2.1 dX1_memberOf_22 (lv_at hl 4 rfl) ?_
        refine j_sRl SS (As := [.int (J k)]) (rest := [.long x_19]) (c_X1_bit3 l D  k ) mf_X1_bit kw_1007 hG trivial rfl hl.1 ⟨⟨Nat.le_of_ble_eq_true rfl, Nat.le_of_ble_eq_true rfl⟩, Nat.le_of_ble_eq_true rfl, Nat.le_refl _, Nat.le_refl _⟩ rfl dX1_memberOf_24 (fun x_24 h_24 => ?_)
        have h_24 : x_24 = (1 : Int64) <<< ((J (62 - k)).toInt64 &&& 63) := h_24
        refine lv_land SS.1 SS.2.1 dX1_memberOf_27 ?_
        refine lv_lconst (v := 0) SS.1 SS.2.1 dX1_memberOf_28 (by decide +kernel) ?_
        refine j_lcmp SS dX1_memberOf_29 (fun z_29 hz_29 => ?_)
        have hb : z_29 = 0 ↔ ¬ cs9 (u.2.2.1 6 pc9.toNat) k.toNat = true := by rw [hz_29.2.2.2, e19, h_24]; exact and_cs (by omega)
        refine j_if_eq SS (tgt := 43) (x := z_29) dX1_memberOf_30 (by decide) (by omega) (fun c_30 => ?_) (fun c_30 => ?_)
        · skip
          refine lv_iinc (v := J (k + 1)) (lv' := [(4, .int (J (k + 1))), (0, .ref (q 7)), (1, .int (J pc9)), (2, .int (J w9)), (3, .int (J lf))]) SS.1 SS.2.1 dX1_memberOf_43 hl (k := 4) rfl (J_add _ _) (by decide) rfl (fun ls hl => ?_)
          refine lv_goto (tgt := 5) SS.1 SS.2.1 dX1_memberOf_46 (by decide) ?_
          exact ih_5 lf (k + 1) ls (lv_sub hl [1, 2, 3, 4, 0] rfl) (by omega) (by omega) (by rw [ct9_p (by omega)]; first | (rw [if_neg (hb.mp (by omega))]; omega) | (rw [if_pos (Classical.byContradiction (fun q => by have := hb.mpr q; omega))]; omega)) (by omega)
        · skip
          refine lv_iload_n SS.1 SS.2.1 dX1_memberOf_33 rfl (lv_at hl 3 rfl) ?_
          refine j_if_ne SS (tgt := 40) (x := lf) dX1_memberOf_34 (by decide) (by omega) (fun c_34 => ?_) (fun c_34 => ?_)
          · skip
            refine lv_iinc (v := J (lf + (-1))) (lv' := [(3, .int (J (lf + (-1)))), (0, .ref (q 7)), (1, .int (J pc9)), (2, .int (J w9)), (4, .int (J k))]) SS.1 SS.2.1 dX1_memberOf_40 hl (k := 3) rfl (J_add _ _) (by decide) rfl (fun ls hl => ?_)
            refine lv_iinc (v := J (k + 1)) (lv' := [(4, .int (J (k + 1))), (3, .int (J (lf + (-1)))), (0, .ref (q 7)), (1, .int (J pc9)), (2, .int (J w9))]) SS.1 SS.2.1 dX1_memberOf_43 hl (k := 4) rfl (J_add _ _) (by decide) rfl (fun ls hl => ?_)
            refine lv_goto (tgt := 5) SS.1 SS.2.1 dX1_memberOf_46 (by decide) ?_
            exact ih_5 (lf + (-1)) (k + 1) ls (lv_sub hl [2, 3, 4, 1, 0] rfl) (by omega) (by omega) (by rw [ct9_p (by omega)]; first | (rw [if_neg (hb.mp (by omega))]; omega) | (rw [if_pos (Classical.byContradiction (fun q => by have := hb.mpr q; omega))]; omega)) (by omega)
          · skip
            refine lv_iload SS.1 SS.2.1 dX1_memberOf_37 (lv_at hl 4 rfl) ?_
            exact W.iret SS.1 SS.2.1 hr (fun t0 ht hW => ⟨_, rfl, ⟨k, rfl, (⟨by omega, Or.inr ⟨by omega, Classical.byContradiction (fun q => by have := hb.mpr q; omega), by omega⟩⟩)⟩, ht⟩) (fun _ h => nomatch h) dX1_memberOf_39 hlk
  exact L_5 (((40 : Int) - (0 : Int)).toNat + 1) w9 0 ls (lv_sub hl [2, 3, 4, 1, 0] rfl) (by omega) (by omega) (by have e : ct9 (cs9 (u.2.2.1 6 pc9.toNat)) (Int.toNat 0) = 0 := rfl; omega) (Nat.lt_succ_self _)

set_option maxHeartbeats 4000000 in
set_option maxRecDepth 100000 in
theorem c_X1_seen3 (l : Launch) (D : JD) (q : Nat → Nat) (u : CS) (p0 : 0 ≤ u.2.2.2 25 ∧ u.2.2.2 25 ≤ 80) : Met l yX1_seen (jw yX1_seen cX1_seen 4 (some .int)) (jr 1 21) (jP [.ref (q 7)] D (fun H => va_P D.1 j_cl (cW D q u) H)) (jRi (fun z => (0 ≤ z ∧ z ≤ 64) ∧ z = ((pc9 (nx9 (or9 (u.2.2.1 6) (u.2.2.2 25).toNat)) : Nat) : Int))) 0 0 (fun _ => False) := by
  refine Met.ofW (cc := cX1_seen) (maxL := 4) (ret := (some .int)) (by decide) rfl ?_
  intro pr en st mi args below meth co s₁ B hml hv
  obtain ⟨rfl, hG, hP⟩ := hv
  have hr := B.returns
  have hlk := B.notSynchronized
  have SS : jS pr mi co cX1_seen 4 st _ RX1 := ⟨B.exec, B.bytes, hml, findClass_of_methodNamed B.named, fun w hw => atoms_spec (ws := (jw yX1_seen cX1_seen 4 (some .int))) B.pre w (List.mem_cons_of_mem _ hw)⟩
  have hl := lv_entry ([.ref (q 7)]) (n := 4) (Nat.le_of_ble_eq_true rfl)
  rw [lg_entry_eq]
  generalize (lg_sl ([.ref (q 7)]) ++ List.replicate (4 - (lg_sl ([.ref (q 7)])).length) Slot.unset).toArray = ls at hl ⊢
  have hl : lv_has ls 4 [(0, .ref (q 7))] := hl
  refine lv_lconst (v := 0) SS.1 SS.2.1 dX1_seen_0 (by decide +kernel) ?_
  refine lv_lstore_n (lv' := [(1, .long 0), (0, .ref (q 7))]) SS.1 SS.2.1 dX1_seen_1 rfl hl (by decide) rfl (fun ls hl => ?_)
  refine j_iconst SS dX1_seen_2 ?_
  refine lv_istore_n (lv' := [(3, .int (J 0)), (1, .long 0), (0, .ref (q 7))]) SS.1 SS.2.1 dX1_seen_3 rfl hl (by decide) rfl (fun ls hl => ?_)
  have L_4 : ∀ (nn : Nat) (al : Int64) (k : Int) (ls : Array Slot) (hl : lv_has ls 4 [(0, .ref (q 7)), (1, .long al), (3, .int (J k))]) (i4_0 : 0 ≤ k ∧ k ≤ u.2.2.2 25) (i4_1 : al = or9 (u.2.2.1 6) k.toNat), ((80 : Int) - k).toNat < nn → W pr l en (headSpec (jw yX1_seen cX1_seen 4 (some .int)) (jr 1 21)).room st mi (([.ref (q 7)] : List Value).toArray) below meth co st.heap [] 0 0 (MQ below (jRi (fun z => (0 ≤ z ∧ z ≤ 64) ∧ z = ((pc9 (nx9 (or9 (u.2.2.1 6) (u.2.2.2 25).toNat)) : Nat) : Int))) (([.ref (q 7)] : List Value).toArray) st 0 0 (fun _ => False)) (F0 mi 4 ls []) := by
    intro nn
    induction nn with
    | zero => intros; omega
    | succ nn ih_4 =>
      intro al k ls hl i4_0 i4_1 hm
      refine lv_iload_n SS.1 SS.2.1 dX1_seen_4 rfl (lv_at hl 2 rfl) ?_
      refine lv_aload_n SS.1 SS.2.1 dX1_seen_5 rfl (lv_at hl 0 rfl) ?_
      refine j_get SS hG hP 7 (v := .int (J (u.2.2.2 25))) (C := RX1) (T := TX1) (N := 4) rfl rfl inX1 2 (by decide) (ref := "GridPolygons$Coarse") kw_373 rfl rfl dX1_seen_6 ?_
      refine j_icmp_ge SS (tgt := 26) (x := k) (y := (u.2.2.2 25)) dX1_seen_9 (by decide) (by omega) (by omega) (fun c_9 => ?_) (fun c_9 => ?_)
      · skip
        refine lv_lload_n SS.1 SS.2.1 dX1_seen_26 rfl (lv_at hl 1 rfl) ?_
        refine j_sRi SS (As := [.long al]) (rest := []) (c_J13_bitCount3 l D  al ) mf_J13_bitCount_95d88 kw_1026 hG trivial rfl hl.1 ⟨⟨Nat.le_of_ble_eq_true rfl, Nat.le_of_ble_eq_true rfl⟩, Nat.le_of_ble_eq_true rfl, Nat.le_refl _, Nat.le_refl _⟩ rfl dX1_seen_27 (fun z_27 h_27 => ?_)
        have h_27 : z_27 = ((pc9 (nx9 al) : Nat) : Int) ∧ 0 ≤ z_27 ∧ z_27 ≤ 64 := h_27
        exact W.iret SS.1 SS.2.1 hr (fun t0 ht hW => ⟨_, rfl, ⟨z_27, rfl, (⟨h_27.2, by rw [show u.2.2.2 25 = k by omega, ← i4_1]; exact h_27.1⟩)⟩, ht⟩) (fun _ h => nomatch h) dX1_seen_30 hlk
      · skip
        refine lv_lload_n SS.1 SS.2.1 dX1_seen_12 rfl (lv_at hl 1 rfl) ?_
        refine lv_aload_n SS.1 SS.2.1 dX1_seen_13 rfl (lv_at hl 0 rfl) ?_
        refine lv_iload_n SS.1 SS.2.1 dX1_seen_14 rfl (lv_at hl 2 rfl) ?_
        refine j_vRl SS (As := [.int (J k)]) (rest := [.long al]) (c_X1_setOf3 l D q u  k (show -2147483648 ≤ k ∧ k ≤ 2147483647 from (by omega))) mf_X1_setOf kw_1018 hG hP hP (ci := 1) (q0 := 7) rfl rfl rfl rfl hl.1 ⟨⟨Nat.le_of_ble_eq_true rfl, Nat.le_of_ble_eq_true rfl⟩, Nat.le_of_ble_eq_true rfl, Nat.le_refl _, Nat.le_refl _⟩ rfl dX1_seen_15 (fun x_15 h_15 => ?_)
        refine lv_lor SS.1 SS.2.1 dX1_seen_18 ?_
        refine lv_lstore_n (lv' := [(1, .long (al ||| x_15)), (0, .ref (q 7)), (3, .int (J k))]) SS.1 SS.2.1 dX1_seen_19 rfl hl (by decide) rfl (fun ls hl => ?_)
        refine lv_iinc (v := J (k + 1)) (lv' := [(3, .int (J (k + 1))), (1, .long (al ||| x_15)), (0, .ref (q 7))]) SS.1 SS.2.1 dX1_seen_20 hl (k := 2) rfl (J_add _ _) (by decide) rfl (fun ls hl => ?_)
        refine lv_goto (tgt := 4) SS.1 SS.2.1 dX1_seen_23 (by decide) ?_
        exact ih_4 (al ||| x_15) (k + 1) ls (lv_sub hl [2, 1, 0] rfl) (by omega) (by rw [h_15 (by omega) (by omega)]; exact or9_p (by omega) i4_1) (by omega)
  exact L_4 (((80 : Int) - (0 : Int)).toNat + 1) 0 0 ls (lv_sub hl [2, 1, 0] rfl) (by omega) (rfl) (Nat.lt_succ_self _)

set_option maxHeartbeats 4000000 in
set_option maxRecDepth 100000 in
theorem c_X1_unitTriangles3 (l : Launch) (D : JD) (q : Nat → Nat) (u : CS) (p0 : RB 40 u 10) (p1 : 0 ≤ u.2.2.2 25 ∧ u.2.2.2 25 ≤ 80) : Met l yX1_unitTriangles (jw yX1_unitTriangles cX1_unitTriangles 3 (some .int)) (jr 2 45) (jP [.ref (q 7)] D (fun H => va_P D.1 j_cl (cW D q u) H)) (jRi (fun z => (0 ≤ z ∧ z ≤ 80) ∧ (∀ F : Nat → Nat → Bool, (∀ q : Nat, (q : Int) < u.2.2.2 25 → u.2.2.1 6 q = PR9 (F q) (u.1.2.2.1 10).toNat) → cu9 (u.1.1 10) (u.1.2.1 10) (u.1.2.2.1 10).toNat F (u.2.2.2 25).toNat z))) 0 0 (fun _ => False) := by
  refine Met.ofW (cc := cX1_unitTriangles) (maxL := 3) (ret := (some .int)) (by decide) rfl ?_
  intro pr en st mi args below meth co s₁ B hml hv
  obtain ⟨rfl, hG, hP⟩ := hv
  have hr := B.returns
  have hlk := B.notSynchronized
  have SS : jS pr mi co cX1_unitTriangles 3 st _ RX1 := ⟨B.exec, B.bytes, hml, findClass_of_methodNamed B.named, fun w hw => atoms_spec (ws := (jw yX1_unitTriangles cX1_unitTriangles 3 (some .int))) B.pre w (List.mem_cons_of_mem _ hw)⟩
  have hl := lv_entry ([.ref (q 7)]) (n := 3) (Nat.le_of_ble_eq_true rfl)
  rw [lg_entry_eq]
  generalize (lg_sl ([.ref (q 7)]) ++ List.replicate (3 - (lg_sl ([.ref (q 7)])).length) Slot.unset).toArray = ls at hl ⊢
  have hl : lv_has ls 3 [(0, .ref (q 7))] := hl
  have hc := p0.1
  have hrk : (rl 10 : Int) = 40 := rfl
  refine j_iconst SS dX1_unitTriangles_0 ?_
  refine lv_istore_n (lv' := [(1, .int (J 0)), (0, .ref (q 7))]) SS.1 SS.2.1 dX1_unitTriangles_1 rfl hl (by decide) rfl (fun ls hl => ?_)
  refine j_iconst SS dX1_unitTriangles_2 ?_
  refine lv_istore_n (lv' := [(2, .int (J 0)), (1, .int (J 0)), (0, .ref (q 7))]) SS.1 SS.2.1 dX1_unitTriangles_3 rfl hl (by decide) rfl (fun ls hl => ?_)
  have L_4 : ∀ (nn : Nat) (fd : Int) (k : Int) (ls : Array Slot) (hl : lv_has ls 3 [(0, .ref (q 7)), (1, .int (J fd)), (2, .int (J k))]) (i4_0 : 0 ≤ k ∧ k ≤ u.2.2.2 25) (i4_1 : 0 ≤ fd ∧ fd ≤ k) (i4_2 : ∀ F : Nat → Nat → Bool, (∀ q : Nat, (q : Int) < u.2.2.2 25 → u.2.2.1 6 q = PR9 (F q) (u.1.2.2.1 10).toNat) → cu9 (u.1.1 10) (u.1.2.1 10) (u.1.2.2.1 10).toNat F k.toNat fd), ((80 : Int) - k).toNat < nn → W pr l en (headSpec (jw yX1_unitTriangles cX1_unitTriangles 3 (some .int)) (jr 2 45)).room st mi (([.ref (q 7)] : List Value).toArray) below meth co st.heap [] 0 0 (MQ below (jRi (fun z => (0 ≤ z ∧ z ≤ 80) ∧ (∀ F : Nat → Nat → Bool, (∀ q : Nat, (q : Int) < u.2.2.2 25 → u.2.2.1 6 q = PR9 (F q) (u.1.2.2.1 10).toNat) → cu9 (u.1.1 10) (u.1.2.1 10) (u.1.2.2.1 10).toNat F (u.2.2.2 25).toNat z))) (([.ref (q 7)] : List Value).toArray) st 0 0 (fun _ => False)) (F0 mi 4 ls []) := by
    intro nn
    induction nn with
    | zero => intros; omega
    | succ nn ih_4 =>
      intro fd k ls hl i4_0 i4_1 i4_2 hm
      refine lv_iload_n SS.1 SS.2.1 dX1_unitTriangles_4 rfl (lv_at hl 2 rfl) ?_
      refine lv_aload_n SS.1 SS.2.1 dX1_unitTriangles_5 rfl (lv_at hl 0 rfl) ?_
      refine j_get SS hG hP 7 (v := .int (J (u.2.2.2 25))) (C := RX1) (T := TX1) (N := 4) rfl rfl inX1 2 (by decide) (ref := "GridPolygons$Coarse") kw_373 rfl rfl dX1_unitTriangles_6 ?_
      refine j_icmp_ge SS (tgt := 62) (x := k) (y := (u.2.2.2 25)) dX1_unitTriangles_9 (by decide) (by omega) (by omega) (fun c_9 => ?_) (fun c_9 => ?_)
      · skip
        refine lv_iload_n SS.1 SS.2.1 dX1_unitTriangles_62 rfl (lv_at hl 1 rfl) ?_
        exact W.iret SS.1 SS.2.1 hr (fun t0 ht hW => ⟨_, rfl, ⟨fd, rfl, (⟨by omega, fun F9 hF9 => by rw [show u.2.2.2 25 = k by omega]; exact i4_2 F9 (fun q hq => hF9 q (by omega))⟩)⟩, ht⟩) (fun _ h => nomatch h) dX1_unitTriangles_63 hlk
      · skip
        refine lv_aload_n SS.1 SS.2.1 dX1_unitTriangles_12 rfl (lv_at hl 0 rfl) ?_
        refine lv_iload_n SS.1 SS.2.1 dX1_unitTriangles_13 rfl (lv_at hl 2 rfl) ?_
        refine j_vRi SS (As := [.int (J k)]) (rest := []) (c_X1_sizeOf3 l D q u  k (show -2147483648 ≤ k ∧ k ≤ 2147483647 from (by omega))) mf_X1_sizeOf kw_1036 hG hP hP (ci := 1) (q0 := 7) rfl rfl rfl rfl hl.1 ⟨⟨Nat.le_of_ble_eq_true rfl, Nat.le_of_ble_eq_true rfl⟩, Nat.le_of_ble_eq_true rfl, Nat.le_refl _, Nat.le_refl _⟩ rfl dX1_unitTriangles_14 (fun z_14 h_14 => ?_)
        have h_14 : (0 ≤ z_14 ∧ z_14 ≤ 64) ∧ (0 ≤ k → k < 80 → z_14 = ((pc9 (nx9 ((u.2.2.1 6) k.toNat)) : Nat) : Int)) := h_14
        have e14 := h_14.2 (by omega) (by omega)
        refine j_iconst SS dX1_unitTriangles_17 ?_
        refine j_icmp_ne SS (tgt := 56) (x := z_14) (y := 3) dX1_unitTriangles_18 (by decide) (by omega) (by decide) (fun c_18 => ?_) (fun c_18 => ?_)
        · skip
          refine lv_iinc (v := J (k + 1)) (lv' := [(2, .int (J (k + 1))), (0, .ref (q 7)), (1, .int (J fd))]) SS.1 SS.2.1 dX1_unitTriangles_56 hl (k := 2) rfl (J_add _ _) (by decide) rfl (fun ls hl => ?_)
          refine lv_goto (tgt := 4) SS.1 SS.2.1 dX1_unitTriangles_59 (by decide) ?_
          exact ih_4 fd (k + 1) ls (lv_sub hl [1, 2, 0] rfl) (by omega) (by omega) (fun F9 hF9 => by have hc3 := pc_PR (f := F9 k.toNat) (u.1.2.2.1 10).toNat (by omega); rw [← hF9 k.toNat (by omega), ← e14] at hc3; first | exact cu9_p (by omega) (i4_2 F9 hF9) (Or.inr ⟨ut_n (by omega), rfl⟩) | (have g0 := at_PR (by omega) (hF9 k.toNat (by omega)) e_28; have g1 := at_PR (by omega) (hF9 k.toNat (by omega)) e_34; have g2 := at_PR (by omega) (hF9 k.toNat (by omega)) e_40; have f0 := fm_in (f := F9 k.toNat) (n := (u.1.2.2.1 10).toNat) (i := 0) (by omega) (by omega); have f1 := fm_in (f := F9 k.toNat) (n := (u.1.2.2.1 10).toNat) (i := 1) (by omega) (by omega); have f2 := fm_in (f := F9 k.toNat) (n := (u.1.2.2.1 10).toNat) (i := 2) (by omega) (by omega); have ht := e_43 (by omega) (by omega) (by omega); rw [g0, g1, g2] at ht; have hu := ut_a (by omega) ht h_46; first | exact cu9_p (by omega) (i4_2 F9 hF9) (Or.inl ⟨hu.mpr (by omega), rfl⟩) | exact cu9_p (by omega) (i4_2 F9 hF9) (Or.inr ⟨fun q => by have := hu.mp q; omega, rfl⟩))) (by omega)
        · skip
          refine lv_aload_n SS.1 SS.2.1 dX1_unitTriangles_21 rfl (lv_at hl 0 rfl) ?_
          refine j_get SS hG hP 7 (v := .ref (q (9 + 5 * 10))) (C := RX1) (T := TX1) (N := 4) rfl rfl inX1 0 (by decide) (ref := "GridPolygons$Coarse") kw_371 rfl rfl dX1_unitTriangles_22 ?_
          refine lv_aload_n SS.1 SS.2.1 dX1_unitTriangles_25 rfl (lv_at hl 0 rfl) ?_
          refine lv_iload_n SS.1 SS.2.1 dX1_unitTriangles_26 rfl (lv_at hl 2 rfl) ?_
          refine j_iconst SS dX1_unitTriangles_27 ?_
          refine j_vRi SS (As := [.int (J k), .int (J 0)]) (rest := [.ref (q (9 + 5 * 10))]) (c_X1_memberOf3 l D q u  k 0 (show RB 40 u 10 from (p0)) (show 0 ≤ k ∧ k < 80 from (by omega)) (show 0 ≤ (0 : Int) ∧ (0 : Int) ≤ 2147483647 from (by omega))) mf_X1_memberOf kw_1040 hG hP hP (ci := 1) (q0 := 7) rfl rfl rfl rfl hl.1 ⟨⟨Nat.le_of_ble_eq_true rfl, Nat.le_of_ble_eq_true rfl⟩, Nat.le_of_ble_eq_true rfl, Nat.le_refl _, Nat.le_refl _⟩ rfl dX1_unitTriangles_28 (fun z_28 h_28 => ?_)
          have h_28 : (-1 ≤ z_28 ∧ z_28 ≤ 39) ∧ MB9 ((u.2.2.1 6) k.toNat) ((u.1.2.2.1 10)) (0 : Int) z_28 := h_28
          obtain ⟨t_28, e_28⟩ := h_28
          refine lv_aload_n SS.1 SS.2.1 dX1_unitTriangles_31 rfl (lv_at hl 0 rfl) ?_
          refine lv_iload_n SS.1 SS.2.1 dX1_unitTriangles_32 rfl (lv_at hl 2 rfl) ?_
          refine j_iconst SS dX1_unitTriangles_33 ?_
          refine j_vRi SS (As := [.int (J k), .int (J 1)]) (rest := [.int (J z_28), .ref (q (9 + 5 * 10))]) (c_X1_memberOf3 l D q u  k 1 (show RB 40 u 10 from (p0)) (show 0 ≤ k ∧ k < 80 from (by omega)) (show 0 ≤ (1 : Int) ∧ (1 : Int) ≤ 2147483647 from (by omega))) mf_X1_memberOf kw_1040 hG hP hP (ci := 1) (q0 := 7) rfl rfl rfl rfl hl.1 ⟨⟨Nat.le_of_ble_eq_true rfl, Nat.le_of_ble_eq_true rfl⟩, Nat.le_of_ble_eq_true rfl, Nat.le_refl _, Nat.le_refl _⟩ rfl dX1_unitTriangles_34 (fun z_34 h_34 => ?_)
          have h_34 : (-1 ≤ z_34 ∧ z_34 ≤ 39) ∧ MB9 ((u.2.2.1 6) k.toNat) ((u.1.2.2.1 10)) (1 : Int) z_34 := h_34
          obtain ⟨t_34, e_34⟩ := h_34
          refine lv_aload_n SS.1 SS.2.1 dX1_unitTriangles_37 rfl (lv_at hl 0 rfl) ?_
          refine lv_iload_n SS.1 SS.2.1 dX1_unitTriangles_38 rfl (lv_at hl 2 rfl) ?_
          refine j_iconst SS dX1_unitTriangles_39 ?_
          refine j_vRi SS (As := [.int (J k), .int (J 2)]) (rest := [.int (J z_34), .int (J z_28), .ref (q (9 + 5 * 10))]) (c_X1_memberOf3 l D q u  k 2 (show RB 40 u 10 from (p0)) (show 0 ≤ k ∧ k < 80 from (by omega)) (show 0 ≤ (2 : Int) ∧ (2 : Int) ≤ 2147483647 from (by omega))) mf_X1_memberOf kw_1040 hG hP hP (ci := 1) (q0 := 7) rfl rfl rfl rfl hl.1 ⟨⟨Nat.le_of_ble_eq_true rfl, Nat.le_of_ble_eq_true rfl⟩, Nat.le_of_ble_eq_true rfl, Nat.le_refl _, Nat.le_refl _⟩ rfl dX1_unitTriangles_40 (fun z_40 h_40 => ?_)
          have h_40 : (-1 ≤ z_40 ∧ z_40 ≤ 39) ∧ MB9 ((u.2.2.1 6) k.toNat) ((u.1.2.2.1 10)) (2 : Int) z_40 := h_40
          obtain ⟨t_40, e_40⟩ := h_40
          refine j_vRi SS (As := [.int (J z_28), .int (J z_34), .int (J z_40)]) (rest := []) (c_X6_turn_10t l D q u  z_28 z_34 z_40 (show RB 40 u 10 from (p0)) (show -2147483648 ≤ z_28 ∧ z_28 ≤ 2147483647 from (by omega)) (show -2147483648 ≤ z_34 ∧ z_34 ≤ 2147483647 from (by omega)) (show -2147483648 ≤ z_40 ∧ z_40 ≤ 2147483647 from (by omega))) mf_X6_turn kw_996 hG hP hP (ci := 6) (q0 := (9 + 5 * 10)) rfl (cw_pts (by omega)) rfl rfl hl.1 ⟨⟨Nat.le_of_ble_eq_true rfl, Nat.le_of_ble_eq_true rfl⟩, Nat.le_of_ble_eq_true rfl, Nat.le_refl _, Nat.le_refl _⟩ rfl dX1_unitTriangles_43 (fun z_43 h_43 => ?_)
          have h_43 : (-12800 ≤ z_43 ∧ z_43 ≤ 12800) ∧ ((0 ≤ z_28 ∧ z_28 < 40) → (0 ≤ z_34 ∧ z_34 < 40) → (0 ≤ z_40 ∧ z_40 < 40) → z_43 = tn ((u.1.1 10)) ((u.1.2.1 10)) z_28.toNat z_34.toNat z_40.toNat) := h_43
          obtain ⟨t_43, e_43⟩ := h_43
          refine j_sRi SS (As := [.int (J z_43)]) (rest := []) (c_J9_abs_0f7a4 l D  z_43 (show -2147483648 < z_43 ∧ z_43 ≤ 2147483647 from (by omega))) mf_J9_abs_0f7a4 kw_1044 hG trivial rfl hl.1 ⟨⟨Nat.le_of_ble_eq_true rfl, Nat.le_of_ble_eq_true rfl⟩, Nat.le_of_ble_eq_true rfl, Nat.le_refl _, Nat.le_refl _⟩ rfl dX1_unitTriangles_46 (fun z_46 h_46 => ?_)
          have h_46 : 0 ≤ z_46 ∧ (z_46 = z_43 ∨ z_46 = -z_43) := h_46
          refine j_iconst SS dX1_unitTriangles_49 ?_
          refine j_icmp_ne SS (tgt := 56) (x := z_46) (y := 1) dX1_unitTriangles_50 (by decide) (by omega) (by decide) (fun c_50 => ?_) (fun c_50 => ?_)
          · skip
            refine lv_iinc (v := J (k + 1)) (lv' := [(2, .int (J (k + 1))), (0, .ref (q 7)), (1, .int (J fd))]) SS.1 SS.2.1 dX1_unitTriangles_56 hl (k := 2) rfl (J_add _ _) (by decide) rfl (fun ls hl => ?_)
            refine lv_goto (tgt := 4) SS.1 SS.2.1 dX1_unitTriangles_59 (by decide) ?_
            exact ih_4 fd (k + 1) ls (lv_sub hl [1, 2, 0] rfl) (by omega) (by omega) (fun F9 hF9 => by have hc3 := pc_PR (f := F9 k.toNat) (u.1.2.2.1 10).toNat (by omega); rw [← hF9 k.toNat (by omega), ← e14] at hc3; first | exact cu9_p (by omega) (i4_2 F9 hF9) (Or.inr ⟨ut_n (by omega), rfl⟩) | (have g0 := at_PR (by omega) (hF9 k.toNat (by omega)) e_28; have g1 := at_PR (by omega) (hF9 k.toNat (by omega)) e_34; have g2 := at_PR (by omega) (hF9 k.toNat (by omega)) e_40; have f0 := fm_in (f := F9 k.toNat) (n := (u.1.2.2.1 10).toNat) (i := 0) (by omega) (by omega); have f1 := fm_in (f := F9 k.toNat) (n := (u.1.2.2.1 10).toNat) (i := 1) (by omega) (by omega); have f2 := fm_in (f := F9 k.toNat) (n := (u.1.2.2.1 10).toNat) (i := 2) (by omega) (by omega); have ht := e_43 (by omega) (by omega) (by omega); rw [g0, g1, g2] at ht; have hu := ut_a (by omega) ht h_46; first | exact cu9_p (by omega) (i4_2 F9 hF9) (Or.inl ⟨hu.mpr (by omega), rfl⟩) | exact cu9_p (by omega) (i4_2 F9 hF9) (Or.inr ⟨fun q => by have := hu.mp q; omega, rfl⟩))) (by omega)
          · skip
            refine lv_iinc (v := J (fd + 1)) (lv' := [(1, .int (J (fd + 1))), (0, .ref (q 7)), (2, .int (J k))]) SS.1 SS.2.1 dX1_unitTriangles_53 hl (k := 1) rfl (J_add _ _) (by decide) rfl (fun ls hl => ?_)
            refine lv_iinc (v := J (k + 1)) (lv' := [(2, .int (J (k + 1))), (1, .int (J (fd + 1))), (0, .ref (q 7))]) SS.1 SS.2.1 dX1_unitTriangles_56 hl (k := 2) rfl (J_add _ _) (by decide) rfl (fun ls hl => ?_)
            refine lv_goto (tgt := 4) SS.1 SS.2.1 dX1_unitTriangles_59 (by decide) ?_
            exact ih_4 (fd + 1) (k + 1) ls (lv_sub hl [2, 1, 0] rfl) (by omega) (by omega) (fun F9 hF9 => by have hc3 := pc_PR (f := F9 k.toNat) (u.1.2.2.1 10).toNat (by omega); rw [← hF9 k.toNat (by omega), ← e14] at hc3; first | exact cu9_p (by omega) (i4_2 F9 hF9) (Or.inr ⟨ut_n (by omega), rfl⟩) | (have g0 := at_PR (by omega) (hF9 k.toNat (by omega)) e_28; have g1 := at_PR (by omega) (hF9 k.toNat (by omega)) e_34; have g2 := at_PR (by omega) (hF9 k.toNat (by omega)) e_40; have f0 := fm_in (f := F9 k.toNat) (n := (u.1.2.2.1 10).toNat) (i := 0) (by omega) (by omega); have f1 := fm_in (f := F9 k.toNat) (n := (u.1.2.2.1 10).toNat) (i := 1) (by omega) (by omega); have f2 := fm_in (f := F9 k.toNat) (n := (u.1.2.2.1 10).toNat) (i := 2) (by omega) (by omega); have ht := e_43 (by omega) (by omega) (by omega); rw [g0, g1, g2] at ht; have hu := ut_a (by omega) ht h_46; first | exact cu9_p (by omega) (i4_2 F9 hF9) (Or.inl ⟨hu.mpr (by omega), rfl⟩) | exact cu9_p (by omega) (i4_2 F9 hF9) (Or.inr ⟨fun q => by have := hu.mp q; omega, rfl⟩))) (by omega)
  exact L_4 (((80 : Int) - (0 : Int)).toNat + 1) 0 0 ls (lv_sub hl [2, 1, 0] rfl) (by omega) (by omega) (fun _ _ => cu9_0) (Nat.lt_succ_self _)


/-! ===== what each call keeps ===== -/
def kCo (u u' : CS) : Prop := (u'.1.2.2.1 10 = u.1.2.2.1 10 ∧ u'.1.1 10 = u.1.1 10 ∧ u'.1.2.1 10 = u.1.2.1 10) ∧ u'.2.2.1 6 = u.2.2.1 6 ∧ u'.2.2.2 25 = u.2.2.2 25 ∧ u'.2.2.2 26 = u.2.2.2 26
def kCu (u u' : CS) : Prop := (u'.1.2.2.1 9 = u.1.2.2.1 9 ∧ u'.1.1 9 = u.1.1 9 ∧ u'.1.2.1 9 = u.1.2.1 9) ∧ (u'.2.1 2 = u.2.1 2 ∧ u'.2.1 3 = u.2.1 3 ∧ u'.2.1 4 = u.2.1 4 ∧ u'.2.1 7 = u.2.1 7 ∧ u'.2.1 8 = u.2.1 8) ∧ (u'.2.2.1 2 = u.2.2.1 2 ∧ u'.2.2.1 3 = u.2.2.1 3 ∧ u'.2.2.1 4 = u.2.2.1 4 ∧ u'.2.2.1 5 = u.2.2.1 5) ∧ (u'.2.2.2 20 = u.2.2.2 20 ∧ u'.2.2.2 21 = u.2.2.2 21 ∧ u'.2.2.2 22 = u.2.2.2 22 ∧ u'.2.2.2 23 = u.2.2.2 23 ∧ u'.2.2.2 24 = u.2.2.2 24)
theorem kCo_r {u : CS} : kCo u u := ⟨⟨rfl, rfl, rfl⟩, rfl, rfl, rfl⟩
theorem kCu_r {u : CS} : kCu u u := ⟨⟨rfl, rfl, rfl⟩, ⟨rfl, rfl, rfl, rfl, rfl⟩, ⟨rfl, rfl, rfl, rfl⟩, rfl, rfl, rfl, rfl, rfl⟩
def kSam (u u' : CS) : Prop := hSam u u' ∧ sSam u u' ∧ kCo u u' ∧ kCu u u'
def kMut (u u' : CS) (t : Nat) (z : Int) : Prop := cHr u u' t z ∧ sRel u u' t z ∧ kCo u u' ∧ kCu u u'
theorem kMut_n {u : CS} {t : Nat} {z : Int} (hz : z < 0) : kMut u u t z := ⟨cHr_n hs_refl hz, sRel_n ss_refl hz, kCo_r, kCu_r⟩
theorem inC_s {u s : CS} {r : Nat} (e : s.1.2.2.1 r = u.1.2.2.1 r ∧ s.1.1 r = u.1.1 r ∧ s.1.2.1 r = u.1.2.1 r) (x y : Int) : inC s r x y ↔ inC u r x y := by
  obtain ⟨a, b, c⟩ := inC_e e.1 e.2.1 e.2.2
  unfold inC
  rw [e.1, c 0]
  constructor
  · rintro ⟨p1, p2, ⟨q, q0, q1, q2⟩, p4, p5⟩
    exact ⟨p1, p2, ⟨q, q0, q1, by rw [← c]; exact q2⟩, (a _ _ _).mp p4, (b _ _ _).mp p5⟩
  · rintro ⟨p1, p2, ⟨q, q0, q1, q2⟩, p4, p5⟩
    exact ⟨p1, p2, ⟨q, q0, q1, by rw [c]; exact q2⟩, (a _ _ _).mpr p4, (b _ _ _).mpr p5⟩
theorem FT_s {u s : CS} {r : Nat} {M : Int} (e : s.1.2.2.1 r = u.1.2.2.1 r ∧ s.1.1 r = u.1.1 r ∧ s.1.2.1 r = u.1.2.1 r) (h : FT9 s r M) : FT9 u r M := by
  obtain ⟨m, X, Y, h1, h2⟩ := h
  exact ⟨m, X, Y, OL_c h1 (inC_s e), h2⟩
theorem LC_c {P Q : Int → Int → Prop} {t X Y : Nat → Int} {n m : Int} {S : Nat → Int64} (h : LC9 P t n X Y m S) (e : ∀ x y : Int, P x y ↔ Q x y) : LC9 Q t n X Y m S := ⟨h.1, OL_c h.2.1 e, h.2.2⟩
/-- the pieces that the class holds are those of shape r -/
def LCu (u : CS) (r : Nat) : Prop := LC9 (inC u r) (u.1.2.2.2.1 r) (u.1.2.2.1 10) (u.1.1 10) (u.1.2.1 10) (u.2.2.2 25) (u.2.2.1 6)
theorem LCu_s {u s : CS} {r : Nat} (e : s.1.2.2.1 r = u.1.2.2.1 r ∧ s.1.1 r = u.1.1 r ∧ s.1.2.1 r = u.1.2.1 r) (eh : s.1.2.2.2.1 r = u.1.2.2.2.1 r) (k : kCo u s) (h : LCu u r) : LCu s r := by
  unfold LCu at *
  rw [eh, k.1.1, k.1.2.1, k.1.2.2, k.2.1, k.2.2.1]
  exact LC_c h (fun x y => (inC_s e x y).symm)
/-- what holds of heights, stamps and what is held, after k calls -/
def FI (u : CS) (k : Int) : Prop := STP9 u k ∧ (∀ r : Nat, r < 8 → u.1.2.2.2.2 r = 0 → u.1.2.2.1 r < 3) ∧ u.2.2.2 26 ≤ u.2.2.2 0 ∧ ∀ r : Nat, r < 8 → u.1.2.2.2.2 r = u.2.2.2 26 → 3 ≤ u.1.2.2.1 r → FT9 u r 40 → LCu u r
theorem FI_w {u : CS} {k k' : Int} (h : FI u k) (hk : k ≤ k') : FI u k' := ⟨STP9_s h.1 hk ss_refl, h.2⟩
theorem FI_s {u u' : CS} {k k' : Int} (h : FI u k) (hk : k ≤ k') (hc : cSame u u') (hh : hSam u u') (hs : sSam u u') (ko : kCo u u') : FI u' k' := by
  obtain ⟨h1, h2, h3, h4⟩ := h
  refine ⟨STP9_s h1 hk hs, fun r hr e => ?_, by rw [ko.2.2.2, hs.1]; exact h3, fun r hr e1 e2 e3 => ?_⟩
  · rw [hs.2 r hr] at e; rw [(hc r hr).1]; exact h2 r hr e
  · rw [hs.2 r hr, ko.2.2.2] at e1
    rw [(hc r hr).1] at e2
    exact LCu_s (hc r hr) (hh r hr) ko (h4 r hr e1 e2 (FT_s (hc r hr) e3))
theorem FI_n {u u' : CS} {k k' : Int} {t : Nat} (h : FI u k) (hk : k + 1 ≤ k') (hs : sNew u u' t) (ho : ∀ r : Nat, r < 8 → r ≠ t → u'.1.2.2.1 r = u.1.2.2.1 r ∧ u'.1.1 r = u.1.1 r ∧ u'.1.2.1 r = u.1.2.1 r) (hh : ∀ r : Nat, r < 8 → r ≠ t → u'.1.2.2.2.1 r = u.1.2.2.2.1 r) (ko : kCo u u') : FI u' k' := by
  obtain ⟨h1, h2, h3, h4⟩ := h
  have b0 := h1.1
  refine ⟨STP9_n h1 hk hs, fun r hr e => ?_, by rw [ko.2.2.2, hs.1]; omega, fun r hr e1 e2 e3 => ?_⟩
  · by_cases w : r = t
    · rw [w, hs.2.1] at e; omega
    · rw [hs.2.2 r hr w] at e; rw [(ho r hr w).1]; exact h2 r hr e
  · by_cases w : r = t
    · rw [w, hs.2.1, ko.2.2.2] at e1; omega
    · rw [hs.2.2 r hr w, ko.2.2.2] at e1
      rw [(ho r hr w).1] at e2
      exact LCu_s (ho r hr w) (hh r hr w) ko (h4 r hr e1 e2 (FT_s (ho r hr w) e3))
theorem FI_m {u u' : CS} {k k' : Int} {t : Nat} {z : Int} (h : FI u k) (hk : k + 1 ≤ k') (hk2 : k < 2147483647) (ho : (z < 0 → cSame u u') ∧ (0 ≤ z → ∀ r : Nat, r < 8 → r ≠ t → u'.1.2.2.1 r = u.1.2.2.1 r ∧ u'.1.1 r = u.1.1 r ∧ u'.1.2.1 r = u.1.2.1 r)) (hm : kMut u u' t z) : FI u' k' := by
  obtain ⟨m1, m2, ko, _⟩ := hm
  obtain ⟨s1, s2⟩ := m2 (by have := h.1.1; omega)
  by_cases g : z < 0
  · exact FI_s h (by omega) (ho.1 g) (m1.1 g) (s1 g) ko
  · have g2 : 0 ≤ z := by omega
    exact FI_n h hk (s2 g2) (ho.2 g2) (m1.2 g2).2 ko
/-- the class' pieces were made for shape i, or they were held -/
def bR9 (u u' : CS) (i : Nat) : Prop := (u.2.2.2 26 = u.1.2.2.2.2 i ∧ kCo u u') ∨ (u'.2.2.2 26 = u.1.2.2.2.2 i ∧ (FT9 u i 40 → LC9 (inC u i) (u.1.2.2.2.1 i) (u'.1.2.2.1 10) (u'.1.1 10) (u'.1.2.1 10) (u'.2.2.2 25) (u'.2.2.1 6)))
theorem FI_b {u u' : CS} {k k' : Int} {i : Nat} (hi : i < 8) (h : FI u k) (hk : k ≤ k') (hc : cSame u u') (hh : hSam u u') (hs : sSam u u') (hb : bR9 u u' i) : FI u' k' := by
  rcases hb with ⟨b1, b2⟩ | ⟨b1, b2⟩
  · exact FI_s h hk hc hh hs b2
  · obtain ⟨h1, h2, h3, h4⟩ := h
    refine ⟨STP9_s h1 hk hs, fun r hr e => ?_, by rw [b1, hs.1]; exact (h1.2.1 i hi).2, fun r hr e1 e2 e3 => ?_⟩
    · rw [hs.2 r hr] at e; rw [(hc r hr).1]; exact h2 r hr e
    · rw [hs.2 r hr, b1] at e1
      by_cases w : r = i
      · subst w
        have l := b2 (FT_s (hc r hr) e3)
        unfold LCu
        rw [hh r hr]
        exact LC_c l (fun x y => (inC_s (hc r hr) x y).symm)
      · have z0 := h1.2.2 r i hr hi w e1
        have q := h2 r hr z0
        rw [(hc r hr).1] at e2
        omega
def cOt (u u' : CS) (t : Nat) (z : Int) : Prop := (z < 0 → cSame u u') ∧ (0 ≤ z → ∀ r : Nat, r < 8 → r ≠ t → u'.1.2.2.1 r = u.1.2.2.1 r ∧ u'.1.1 r = u.1.1 r ∧ u'.1.2.1 r = u.1.2.1 r)
theorem cOt_s {u u' : CS} {t : Nat} {z : Int} (hz : z < 0) (h : cSame u u') : cOt u u' t z := ⟨fun _ => h, fun q => by omega⟩
theorem HS_n9 {S : Int → Int → Prop} {n : Int} {X Y : Nat → Int} (h : HS S n X Y) : 0 ≤ n := by
  rcases h with h | h
  · have := h.1; omega
  · have := h.1; omega
theorem cOt_k {u u' : CS} {t : Nat} {z : Int} {S : Int → Int → Prop} (h : mkC u u' t z S) : cOt u u' t z := by
  obtain ⟨n, X, Y, h0, ⟨h1, _, h2⟩ | ⟨h1, _, h2⟩⟩ := h
  · have n0 := HS_n9 h0
    exact ⟨fun q => by omega, fun _ => h2.2⟩
  · exact cOt_s (by omega) h2
theorem cOt_cl {u u' : CS} {s z : Int} (hC : CI u) (h : clC u u' s z) : cOt u u' s.toNat z := by
  rcases h with ⟨_, h1, h2⟩ | ⟨h0, h1, h2⟩
  · exact cOt_s (by omega) h2
  · have n0 := (CI_n hC h0).1
    exact ⟨fun q => by omega, fun _ => h2.2⟩
theorem cOt_ad {u u' : CS} {s x y z : Int} (h : adC u u' s x y z) : cOt u u' s.toNat z := by
  rcases h with ⟨_, h1, h2⟩ | ⟨_, _, h2⟩
  · exact cOt_s (by omega) h2
  · exact cOt_k h2
theorem cOt_sm {u u' : CS} {s s2 t z : Int} (h : smC u u' s s2 t z) : cOt u u' t.toNat z := by
  rcases h with ⟨_, h1, h2⟩ | ⟨_, _, _, h2⟩
  · exact cOt_s (by omega) h2
  · exact cOt_k h2
theorem cOt_mp {u u' : CS} {s t a b c d e f z : Int} (h : mpC u u' s t a b c d e f z) : cOt u u' t.toNat z := by
  rcases h with ⟨_, h1, h2⟩ | ⟨_, _, _, ⟨_, h1, h2⟩ | ⟨_, ⟨h1, h2, _⟩ | h2⟩⟩
  · exact cOt_s (by omega) h2
  · exact cOt_s (by omega) h2
  · exact cOt_s (by omega) h2
  · exact cOt_k h2
theorem cOt_dl {u u' : CS} {s t z : Int} (h : dlC u u' s t z) : cOt u u' t.toNat z := by
  rcases h with ⟨_, h1, h2⟩ | ⟨_, _, ⟨_, h1, h2⟩ | ⟨_, h2⟩⟩
  · exact cOt_s (by omega) h2
  · exact cOt_s (by omega) h2
  · exact cOt_k h2
/-- a height is changed -/
def kHt (u u' : CS) (s i v : Int) : Prop := (u.2.2.2 0 < 2147483647 → (¬ htP (u.1.2.2.1 s.toNat) (rE u s.toNat + rI u s.toNat) s i v → sSam u u') ∧ (htP (u.1.2.2.1 s.toNat) (rE u s.toNat + rI u s.toNat) s i v → sNew u u' s.toNat)) ∧ kCo u u' ∧ kCu u u'
theorem FI_ht {u u' : CS} {k k' s i v z : Int} (h : FI u k) (hk : k + 1 ≤ k') (hk2 : k < 2147483647) (hc : cSame u u') (hh : htC u u' s i v z) (hm : kHt u u' s i v) : FI u' k' := by
  obtain ⟨m1, ko, _⟩ := hm
  obtain ⟨s1, s2⟩ := m1 (by have := h.1.1; omega)
  rcases hh with ⟨a1, _, a2⟩ | ⟨a1, _, a2⟩
  · exact FI_s h (by omega) hc a2 (s1 a1) ko
  · exact FI_n h hk (s2 a1) (fun r hr _ => hc r hr) (fun r hr hne => by rw [a2 r hr, if_neg hne]) ko

