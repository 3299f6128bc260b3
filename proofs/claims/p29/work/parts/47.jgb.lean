
set_option maxHeartbeats 4000000 in
set_option maxRecDepth 100000 in
theorem c_X6_turn_10t (l : Launch) (D : JD) (q : Nat → Nat) (u : CS) (i : Int) (j : Int) (k : Int) (p0 : RB 40 u 10) (p1 : -2147483648 ≤ i ∧ i ≤ 2147483647) (p2 : -2147483648 ≤ j ∧ j ≤ 2147483647) (p3 : -2147483648 ≤ k ∧ k ≤ 2147483647) : Met l yX6_turn (jw yX6_turn cX6_turn 4 (some .int)) (jr 1 21) (jP [.ref (q (9 + 5 * 10)), .int (J i), .int (J j), .int (J k)] D (fun H => va_P D.1 j_cl (cW D q u) H)) (jRi (fun z => (-12800 ≤ z ∧ z ≤ 12800) ∧ ((0 ≤ i ∧ i < 40) → (0 ≤ j ∧ j < 40) → (0 ≤ k ∧ k < 40) → z = tn (u.1.1 10) (u.1.2.1 10) i.toNat j.toNat k.toNat))) 0 0 (fun _ => False) := by
  refine Met.ofW (cc := cX6_turn) (maxL := 4) (ret := (some .int)) (by decide) rfl ?_
  intro pr en st mi args below meth co s₁ B hml hv
  obtain ⟨rfl, hG, hP⟩ := hv
  have hr := B.returns
  have hlk := B.notSynchronized
  have SS : jS pr mi co cX6_turn 4 st _ RX6 := ⟨B.exec, B.bytes, hml, findClass_of_methodNamed B.named, fun w hw => atoms_spec (ws := (jw yX6_turn cX6_turn 4 (some .int))) B.pre w (List.mem_cons_of_mem _ hw)⟩
  have hl := lv_entry ([.ref (q (9 + 5 * 10)), .int (J i), .int (J j), .int (J k)]) (n := 4) (Nat.le_of_ble_eq_true rfl)
  rw [lg_entry_eq]
  generalize (lg_sl ([.ref (q (9 + 5 * 10)), .int (J i), .int (J j), .int (J k)]) ++ List.replicate (4 - (lg_sl ([.ref (q (9 + 5 * 10)), .int (J i), .int (J j), .int (J k)])).length) Slot.unset).toArray = ls at hl ⊢
  have hl : lv_has ls 4 [(0, .ref (q (9 + 5 * 10))), (1, .int (J i)), (2, .int (J j)), (3, .int (J k))] := hl
  refine lv_aload_n SS.1 SS.2.1 dX6_turn_0 rfl (lv_at hl 0 rfl) ?_
  refine lv_iload_n SS.1 SS.2.1 dX6_turn_1 rfl (lv_at hl 2 rfl) ?_
  refine j_uRi SS (As := [.int (J j)]) (rest := []) (c_X8_xP l D q u 10 (by omega) j (show -2147483648 ≤ j ∧ j ≤ 2147483647 from (p2))) mu_6_x kw_908 hG hP hP (ci := 6) (q0 := (9 + 5 * 10)) rfl (cw_pts (by omega)) rfl rfl hl.1 ⟨⟨Nat.le_of_ble_eq_true rfl, Nat.le_of_ble_eq_true rfl⟩, Nat.le_of_ble_eq_true rfl, Nat.le_refl _, Nat.le_refl _⟩ rfl dX6_turn_2 (fun z_2 h_2 => ?_)
  have h_2 : z_2 = rx u 10 j ∧ ∀ K : Int, 0 ≤ K → RB K u 10 → -K ≤ z_2 ∧ z_2 ≤ K := h_2
  have hb_2 := h_2.2 40 (by omega) (p0)
  refine lv_aload_n SS.1 SS.2.1 dX6_turn_5 rfl (lv_at hl 0 rfl) ?_
  refine lv_iload_n SS.1 SS.2.1 dX6_turn_6 rfl (lv_at hl 1 rfl) ?_
  refine j_uRi SS (As := [.int (J i)]) (rest := [.int (J z_2)]) (c_X8_xP l D q u 10 (by omega) i (show -2147483648 ≤ i ∧ i ≤ 2147483647 from (p1))) mu_6_x kw_908 hG hP hP (ci := 6) (q0 := (9 + 5 * 10)) rfl (cw_pts (by omega)) rfl rfl hl.1 ⟨⟨Nat.le_of_ble_eq_true rfl, Nat.le_of_ble_eq_true rfl⟩, Nat.le_of_ble_eq_true rfl, Nat.le_refl _, Nat.le_refl _⟩ rfl dX6_turn_7 (fun z_7 h_7 => ?_)
  have h_7 : z_7 = rx u 10 i ∧ ∀ K : Int, 0 ≤ K → RB K u 10 → -K ≤ z_7 ∧ z_7 ≤ K := h_7
  have hb_7 := h_7.2 40 (by omega) (p0)
  refine j_isub SS (x := z_2) (y := z_7) dX6_turn_10 ?_
  refine lv_aload_n SS.1 SS.2.1 dX6_turn_11 rfl (lv_at hl 0 rfl) ?_
  refine lv_iload_n SS.1 SS.2.1 dX6_turn_12 rfl (lv_at hl 3 rfl) ?_
  refine j_uRi SS (As := [.int (J k)]) (rest := [.int (J (z_2 - z_7))]) (c_X8_yP l D q u 10 (by omega) k (show -2147483648 ≤ k ∧ k ≤ 2147483647 from (p3))) mu_6_y kw_909 hG hP hP (ci := 6) (q0 := (9 + 5 * 10)) rfl (cw_pts (by omega)) rfl rfl hl.1 ⟨⟨Nat.le_of_ble_eq_true rfl, Nat.le_of_ble_eq_true rfl⟩, Nat.le_of_ble_eq_true rfl, Nat.le_refl _, Nat.le_refl _⟩ rfl dX6_turn_13 (fun z_13 h_13 => ?_)
  have h_13 : z_13 = ry9 u 10 k ∧ ∀ K : Int, 0 ≤ K → RB K u 10 → -K ≤ z_13 ∧ z_13 ≤ K := h_13
  have hb_13 := h_13.2 40 (by omega) (p0)
  refine lv_aload_n SS.1 SS.2.1 dX6_turn_16 rfl (lv_at hl 0 rfl) ?_
  refine lv_iload_n SS.1 SS.2.1 dX6_turn_17 rfl (lv_at hl 1 rfl) ?_
  refine j_uRi SS (As := [.int (J i)]) (rest := [.int (J z_13), .int (J (z_2 - z_7))]) (c_X8_yP l D q u 10 (by omega) i (show -2147483648 ≤ i ∧ i ≤ 2147483647 from (p1))) mu_6_y kw_909 hG hP hP (ci := 6) (q0 := (9 + 5 * 10)) rfl (cw_pts (by omega)) rfl rfl hl.1 ⟨⟨Nat.le_of_ble_eq_true rfl, Nat.le_of_ble_eq_true rfl⟩, Nat.le_of_ble_eq_true rfl, Nat.le_refl _, Nat.le_refl _⟩ rfl dX6_turn_18 (fun z_18 h_18 => ?_)
  have h_18 : z_18 = ry9 u 10 i ∧ ∀ K : Int, 0 ≤ K → RB K u 10 → -K ≤ z_18 ∧ z_18 ≤ K := h_18
  have hb_18 := h_18.2 40 (by omega) (p0)
  refine j_isub SS (x := z_13) (y := z_18) dX6_turn_21 ?_
  refine j_imul SS (x := (z_2 - z_7)) (y := (z_13 - z_18)) dX6_turn_22 ?_
  refine lv_aload_n SS.1 SS.2.1 dX6_turn_23 rfl (lv_at hl 0 rfl) ?_
  refine lv_iload_n SS.1 SS.2.1 dX6_turn_24 rfl (lv_at hl 2 rfl) ?_
  refine j_uRi SS (As := [.int (J j)]) (rest := [.int (J ((z_2 - z_7) * (z_13 - z_18)))]) (c_X8_yP l D q u 10 (by omega) j (show -2147483648 ≤ j ∧ j ≤ 2147483647 from (p2))) mu_6_y kw_909 hG hP hP (ci := 6) (q0 := (9 + 5 * 10)) rfl (cw_pts (by omega)) rfl rfl hl.1 ⟨⟨Nat.le_of_ble_eq_true rfl, Nat.le_of_ble_eq_true rfl⟩, Nat.le_of_ble_eq_true rfl, Nat.le_refl _, Nat.le_refl _⟩ rfl dX6_turn_25 (fun z_25 h_25 => ?_)
  have h_25 : z_25 = ry9 u 10 j ∧ ∀ K : Int, 0 ≤ K → RB K u 10 → -K ≤ z_25 ∧ z_25 ≤ K := h_25
  have hb_25 := h_25.2 40 (by omega) (p0)
  refine lv_aload_n SS.1 SS.2.1 dX6_turn_28 rfl (lv_at hl 0 rfl) ?_
  refine lv_iload_n SS.1 SS.2.1 dX6_turn_29 rfl (lv_at hl 1 rfl) ?_
  refine j_uRi SS (As := [.int (J i)]) (rest := [.int (J z_25), .int (J ((z_2 - z_7) * (z_13 - z_18)))]) (c_X8_yP l D q u 10 (by omega) i (show -2147483648 ≤ i ∧ i ≤ 2147483647 from (p1))) mu_6_y kw_909 hG hP hP (ci := 6) (q0 := (9 + 5 * 10)) rfl (cw_pts (by omega)) rfl rfl hl.1 ⟨⟨Nat.le_of_ble_eq_true rfl, Nat.le_of_ble_eq_true rfl⟩, Nat.le_of_ble_eq_true rfl, Nat.le_refl _, Nat.le_refl _⟩ rfl dX6_turn_30 (fun z_30 h_30 => ?_)
  have h_30 : z_30 = ry9 u 10 i ∧ ∀ K : Int, 0 ≤ K → RB K u 10 → -K ≤ z_30 ∧ z_30 ≤ K := h_30
  have hb_30 := h_30.2 40 (by omega) (p0)
  refine j_isub SS (x := z_25) (y := z_30) dX6_turn_33 ?_
  refine lv_aload_n SS.1 SS.2.1 dX6_turn_34 rfl (lv_at hl 0 rfl) ?_
  refine lv_iload_n SS.1 SS.2.1 dX6_turn_35 rfl (lv_at hl 3 rfl) ?_
  refine j_uRi SS (As := [.int (J k)]) (rest := [.int (J (z_25 - z_30)), .int (J ((z_2 - z_7) * (z_13 - z_18)))]) (c_X8_xP l D q u 10 (by omega) k (show -2147483648 ≤ k ∧ k ≤ 2147483647 from (p3))) mu_6_x kw_908 hG hP hP (ci := 6) (q0 := (9 + 5 * 10)) rfl (cw_pts (by omega)) rfl rfl hl.1 ⟨⟨Nat.le_of_ble_eq_true rfl, Nat.le_of_ble_eq_true rfl⟩, Nat.le_of_ble_eq_true rfl, Nat.le_refl _, Nat.le_refl _⟩ rfl dX6_turn_36 (fun z_36 h_36 => ?_)
  have h_36 : z_36 = rx u 10 k ∧ ∀ K : Int, 0 ≤ K → RB K u 10 → -K ≤ z_36 ∧ z_36 ≤ K := h_36
  have hb_36 := h_36.2 40 (by omega) (p0)
  refine lv_aload_n SS.1 SS.2.1 dX6_turn_39 rfl (lv_at hl 0 rfl) ?_
  refine lv_iload_n SS.1 SS.2.1 dX6_turn_40 rfl (lv_at hl 1 rfl) ?_
  refine j_uRi SS (As := [.int (J i)]) (rest := [.int (J z_36), .int (J (z_25 - z_30)), .int (J ((z_2 - z_7) * (z_13 - z_18)))]) (c_X8_xP l D q u 10 (by omega) i (show -2147483648 ≤ i ∧ i ≤ 2147483647 from (p1))) mu_6_x kw_908 hG hP hP (ci := 6) (q0 := (9 + 5 * 10)) rfl (cw_pts (by omega)) rfl rfl hl.1 ⟨⟨Nat.le_of_ble_eq_true rfl, Nat.le_of_ble_eq_true rfl⟩, Nat.le_of_ble_eq_true rfl, Nat.le_refl _, Nat.le_refl _⟩ rfl dX6_turn_41 (fun z_41 h_41 => ?_)
  have h_41 : z_41 = rx u 10 i ∧ ∀ K : Int, 0 ≤ K → RB K u 10 → -K ≤ z_41 ∧ z_41 ≤ K := h_41
  have hb_41 := h_41.2 40 (by omega) (p0)
  refine j_isub SS (x := z_36) (y := z_41) dX6_turn_44 ?_
  refine j_imul SS (x := (z_25 - z_30)) (y := (z_36 - z_41)) dX6_turn_45 ?_
  refine j_isub SS (x := ((z_2 - z_7) * (z_13 - z_18))) (y := ((z_25 - z_30) * (z_36 - z_41))) dX6_turn_46 ?_
  have m1 := mulb (A := 80) (B := 80) (a := z_2 - z_7) (b := z_13 - z_18) (by omega) (by omega)
  have m2 := mulb (A := 80) (B := 80) (a := z_25 - z_30) (b := z_36 - z_41) (by omega) (by omega)
  exact W.iret SS.1 SS.2.1 hr (fun t0 ht hW => ⟨_, rfl, ⟨(((z_2 - z_7) * (z_13 - z_18)) - ((z_25 - z_30) * (z_36 - z_41))), rfl, (⟨by omega, fun q1 q2 q3 => by rw [h_2.1.trans (rx_10 q2), h_7.1.trans (rx_10 q1), h_13.1.trans (ry_10 q3), h_18.1.trans (ry_10 q1), h_25.1.trans (ry_10 q2), h_30.1.trans (ry_10 q1), h_36.1.trans (rx_10 q3), h_41.1.trans (rx_10 q1)]; rfl⟩)⟩, ht⟩) (fun _ h => nomatch h) dX6_turn_47 hlk

set_option maxHeartbeats 4000000 in
set_option maxRecDepth 100000 in
theorem c_X1_above3 (l : Launch) (D : JD) (q : Nat → Nat) (u : CS) (i : Nat) (hi : i < 8) (a : Int) (b : Int) (c : Int) (d : Int) (p0 : RB 40 u 10) (p1 : HB (u.1.2.2.2.1 i)) (p2 : -2147483648 ≤ a ∧ a ≤ 2147483647) (p3 : -2147483648 ≤ b ∧ b ≤ 2147483647) (p4 : -2147483648 ≤ c ∧ c ≤ 2147483647) (p5 : -2147483648 ≤ d ∧ d ≤ 2147483647) : Met l yX1_above (jw yX1_above cX1_above 8 (some .int)) (jr 2 44) (jP [.ref (q 7), .ref (q (12 + 5 * i)), .int (J a), .int (J b), .int (J c), .int (J d)] D (fun H => va_P D.1 j_cl (cW D q u) H)) (jRi (fun z => (-100000000 ≤ z ∧ z ≤ 100000000) ∧ ((0 ≤ a ∧ a < 40) → (0 ≤ b ∧ b < 40) → (0 ≤ c ∧ c < 40) → (0 ≤ d ∧ d < 40) → z = ab9 (u.1.1 10) (u.1.2.1 10) (u.1.2.2.2.1 i) a.toNat b.toNat c.toNat d.toNat))) 0 0 (fun _ => False) := by
  refine Met.ofW (cc := cX1_above) (maxL := 8) (ret := (some .int)) (by decide) rfl ?_
  intro pr en st mi args below meth co s₁ B hml hv
  obtain ⟨rfl, hG, hP⟩ := hv
  have hr := B.returns
  have hlk := B.notSynchronized
  have SS : jS pr mi co cX1_above 8 st _ RX1 := ⟨B.exec, B.bytes, hml, findClass_of_methodNamed B.named, fun w hw => atoms_spec (ws := (jw yX1_above cX1_above 8 (some .int))) B.pre w (List.mem_cons_of_mem _ hw)⟩
  have hl := lv_entry ([.ref (q 7), .ref (q (12 + 5 * i)), .int (J a), .int (J b), .int (J c), .int (J d)]) (n := 8) (Nat.le_of_ble_eq_true rfl)
  rw [lg_entry_eq]
  generalize (lg_sl ([.ref (q 7), .ref (q (12 + 5 * i)), .int (J a), .int (J b), .int (J c), .int (J d)]) ++ List.replicate (8 - (lg_sl ([.ref (q 7), .ref (q (12 + 5 * i)), .int (J a), .int (J b), .int (J c), .int (J d)])).length) Slot.unset).toArray = ls at hl ⊢
  have hl : lv_has ls 8 [(0, .ref (q 7)), (1, .ref (q (12 + 5 * i))), (2, .int (J a)), (3, .int (J b)), (4, .int (J c)), (5, .int (J d))] := hl
  have hc := p0.1
  have hrk : (rl 10 : Int) = 40 := rfl
  refine lv_iload_n SS.1 SS.2.1 dX1_above_0 rfl (lv_at hl 2 rfl) ?_
  refine lv_iload_n SS.1 SS.2.1 dX1_above_1 rfl (lv_at hl 3 rfl) ?_
  refine j_sRi SS (As := [.int (J a), .int (J b)]) (rest := []) (c_J9_max_7cf53 l D  a b (show -2147483648 ≤ a ∧ a ≤ 2147483647 from (p2)) (show -2147483648 ≤ b ∧ b ≤ 2147483647 from (p3))) mf_J9_max_7cf53 kw_1001 hG trivial rfl hl.1 ⟨⟨Nat.le_of_ble_eq_true rfl, Nat.le_of_ble_eq_true rfl⟩, Nat.le_of_ble_eq_true rfl, Nat.le_refl _, Nat.le_refl _⟩ rfl dX1_above_2 (fun z_2 h_2 => ?_)
  have h_2 : (z_2 = a ∨ z_2 = b) ∧ a ≤ z_2 ∧ b ≤ z_2 := h_2
  refine lv_iload SS.1 SS.2.1 dX1_above_5 (lv_at hl 4 rfl) ?_
  refine lv_iload SS.1 SS.2.1 dX1_above_7 (lv_at hl 5 rfl) ?_
  refine j_sRi SS (As := [.int (J c), .int (J d)]) (rest := [.int (J z_2)]) (c_J9_max_7cf53 l D  c d (show -2147483648 ≤ c ∧ c ≤ 2147483647 from (p4)) (show -2147483648 ≤ d ∧ d ≤ 2147483647 from (p5))) mf_J9_max_7cf53 kw_1001 hG trivial rfl hl.1 ⟨⟨Nat.le_of_ble_eq_true rfl, Nat.le_of_ble_eq_true rfl⟩, Nat.le_of_ble_eq_true rfl, Nat.le_refl _, Nat.le_refl _⟩ rfl dX1_above_9 (fun z_9 h_9 => ?_)
  have h_9 : (z_9 = c ∨ z_9 = d) ∧ c ≤ z_9 ∧ d ≤ z_9 := h_9
  refine j_sRi SS (As := [.int (J z_2), .int (J z_9)]) (rest := []) (c_J9_max_7cf53 l D  z_2 z_9 (show -2147483648 ≤ z_2 ∧ z_2 ≤ 2147483647 from (by omega)) (show -2147483648 ≤ z_9 ∧ z_9 ≤ 2147483647 from (by omega))) mf_J9_max_7cf53 kw_1001 hG trivial rfl hl.1 ⟨⟨Nat.le_of_ble_eq_true rfl, Nat.le_of_ble_eq_true rfl⟩, Nat.le_of_ble_eq_true rfl, Nat.le_refl _, Nat.le_refl _⟩ rfl dX1_above_12 (fun z_12 h_12 => ?_)
  have h_12 : (z_12 = z_2 ∨ z_12 = z_9) ∧ z_2 ≤ z_12 ∧ z_9 ≤ z_12 := h_12
  refine lv_istore (lv' := [(6, .int (J z_12)), (0, .ref (q 7)), (1, .ref (q (12 + 5 * i))), (2, .int (J a)), (3, .int (J b)), (4, .int (J c)), (5, .int (J d))]) SS.1 SS.2.1 dX1_above_15 hl (by decide) rfl (fun ls hl => ?_)
  refine lv_iload_n SS.1 SS.2.1 dX1_above_17 rfl (lv_at hl 3 rfl) ?_
  refine lv_iload_n SS.1 SS.2.1 dX1_above_18 rfl (lv_at hl 4 rfl) ?_
  refine j_sRi SS (As := [.int (J a), .int (J b)]) (rest := []) (c_J9_min_7cf53 l D  a b (show -2147483648 ≤ a ∧ a ≤ 2147483647 from (p2)) (show -2147483648 ≤ b ∧ b ≤ 2147483647 from (p3))) mf_J9_min_7cf53 kw_1002 hG trivial rfl hl.1 ⟨⟨Nat.le_of_ble_eq_true rfl, Nat.le_of_ble_eq_true rfl⟩, Nat.le_of_ble_eq_true rfl, Nat.le_refl _, Nat.le_refl _⟩ rfl dX1_above_19 (fun z_19 h_19 => ?_)
  have h_19 : (z_19 = a ∨ z_19 = b) ∧ z_19 ≤ a ∧ z_19 ≤ b := h_19
  refine lv_iload SS.1 SS.2.1 dX1_above_22 (lv_at hl 5 rfl) ?_
  refine lv_iload SS.1 SS.2.1 dX1_above_24 (lv_at hl 6 rfl) ?_
  refine j_sRi SS (As := [.int (J c), .int (J d)]) (rest := [.int (J z_19)]) (c_J9_min_7cf53 l D  c d (show -2147483648 ≤ c ∧ c ≤ 2147483647 from (p4)) (show -2147483648 ≤ d ∧ d ≤ 2147483647 from (p5))) mf_J9_min_7cf53 kw_1002 hG trivial rfl hl.1 ⟨⟨Nat.le_of_ble_eq_true rfl, Nat.le_of_ble_eq_true rfl⟩, Nat.le_of_ble_eq_true rfl, Nat.le_refl _, Nat.le_refl _⟩ rfl dX1_above_26 (fun z_26 h_26 => ?_)
  have h_26 : (z_26 = c ∨ z_26 = d) ∧ z_26 ≤ c ∧ z_26 ≤ d := h_26
  refine j_sRi SS (As := [.int (J z_19), .int (J z_26)]) (rest := []) (c_J9_min_7cf53 l D  z_19 z_26 (show -2147483648 ≤ z_19 ∧ z_19 ≤ 2147483647 from (by omega)) (show -2147483648 ≤ z_26 ∧ z_26 ≤ 2147483647 from (by omega))) mf_J9_min_7cf53 kw_1002 hG trivial rfl hl.1 ⟨⟨Nat.le_of_ble_eq_true rfl, Nat.le_of_ble_eq_true rfl⟩, Nat.le_of_ble_eq_true rfl, Nat.le_refl _, Nat.le_refl _⟩ rfl dX1_above_29 (fun z_29 h_29 => ?_)
  have h_29 : (z_29 = z_19 ∨ z_29 = z_26) ∧ z_29 ≤ z_19 ∧ z_29 ≤ z_26 := h_29
  refine lv_istore (lv' := [(7, .int (J z_29)), (6, .int (J z_12)), (0, .ref (q 7)), (1, .ref (q (12 + 5 * i))), (2, .int (J a)), (3, .int (J b)), (4, .int (J c)), (5, .int (J d))]) SS.1 SS.2.1 dX1_above_32 hl (by decide) rfl (fun ls hl => ?_)
  refine lv_iload SS.1 SS.2.1 dX1_above_34 (lv_at hl 0 rfl) ?_
  refine j_if_lt SS (tgt := 46) (x := z_29) dX1_above_36 (by decide) (by omega) (fun c_36 => ?_) (fun c_36 => ?_)
  · skip
    refine j_iconst SS dX1_above_46 ?_
    exact W.iret SS.1 SS.2.1 hr (fun t0 ht hW => ⟨_, rfl, ⟨0, rfl, (⟨by omega, fun q1 q2 q3 q4 => by exfalso; omega⟩)⟩, ht⟩) (fun _ h => nomatch h) dX1_above_47 hlk
  · skip
    refine lv_iload SS.1 SS.2.1 dX1_above_39 (lv_at hl 1 rfl) ?_
    refine lv_aload_n SS.1 SS.2.1 dX1_above_41 rfl (lv_at hl 3 rfl) ?_
    refine va_alen SS.1 SS.2.1 hG.1 hP (12 + 5 * i) 0 (cw_hts (by omega)) rfl (v := J (40 : Int)) (by first | rfl | exact J_nat _) dX1_above_42 ?_
    refine j_icmp_lt SS (tgt := 48) (x := z_12) (y := 40) dX1_above_43 (by decide) (by omega) (by decide) (fun c_43 => ?_) (fun c_43 => ?_)
    · skip
      refine lv_aload_n SS.1 SS.2.1 dX1_above_48 rfl (lv_at hl 2 rfl) ?_
      refine j_get SS hG hP 7 (v := .ref (q (9 + 5 * 10))) (C := RX1) (T := TX1) (N := 4) rfl rfl inX1 0 (by decide) (ref := "GridPolygons$Coarse") kw_371 rfl rfl dX1_above_49 ?_
      refine lv_iload_n SS.1 SS.2.1 dX1_above_52 rfl (lv_at hl 4 rfl) ?_
      refine lv_iload_n SS.1 SS.2.1 dX1_above_53 rfl (lv_at hl 5 rfl) ?_
      refine lv_iload SS.1 SS.2.1 dX1_above_54 (lv_at hl 6 rfl) ?_
      refine j_vRi SS (As := [.int (J a), .int (J b), .int (J c)]) (rest := []) (c_X6_turn_10t l D q u  a b c (show RB 40 u 10 from (p0)) (show -2147483648 ≤ a ∧ a ≤ 2147483647 from (p2)) (show -2147483648 ≤ b ∧ b ≤ 2147483647 from (p3)) (show -2147483648 ≤ c ∧ c ≤ 2147483647 from (p4))) mf_X6_turn kw_996 hG hP hP (ci := 6) (q0 := (9 + 5 * 10)) rfl (cw_pts (by omega)) rfl rfl hl.1 ⟨⟨Nat.le_of_ble_eq_true rfl, Nat.le_of_ble_eq_true rfl⟩, Nat.le_of_ble_eq_true rfl, Nat.le_refl _, Nat.le_refl _⟩ rfl dX1_above_56 (fun z_56 h_56 => ?_)
      have h_56 : (-12800 ≤ z_56 ∧ z_56 ≤ 12800) ∧ ((0 ≤ a ∧ a < 40) → (0 ≤ b ∧ b < 40) → (0 ≤ c ∧ c < 40) → z_56 = tn ((u.1.1 10)) ((u.1.2.1 10)) a.toNat b.toNat c.toNat) := h_56
      obtain ⟨t_56, e_56⟩ := h_56
      refine lv_aload_n SS.1 SS.2.1 dX1_above_59 rfl (lv_at hl 3 rfl) ?_
      refine lv_iload SS.1 SS.2.1 dX1_above_60 (lv_at hl 7 rfl) ?_
      refine j_iald SS hG hP (12 + 5 * i) (n := 40) (f := (u.1.2.2.2.1 i)) (cw_hts (by omega)) (z := d) (by omega) (by omega) dX1_above_62 ?_
      refine lv_aload_n SS.1 SS.2.1 dX1_above_63 rfl (lv_at hl 3 rfl) ?_
      refine lv_iload_n SS.1 SS.2.1 dX1_above_64 rfl (lv_at hl 4 rfl) ?_
      refine j_iald SS hG hP (12 + 5 * i) (n := 40) (f := (u.1.2.2.2.1 i)) (cw_hts (by omega)) (z := a) (by omega) (by omega) dX1_above_65 ?_
      refine j_isub SS (x := ((u.1.2.2.2.1 i) (d).toNat)) (y := ((u.1.2.2.2.1 i) (a).toNat)) dX1_above_66 ?_
      refine j_imul SS (x := z_56) (y := (((u.1.2.2.2.1 i) (d).toNat) - ((u.1.2.2.2.1 i) (a).toNat))) dX1_above_67 ?_
      refine lv_aload_n SS.1 SS.2.1 dX1_above_68 rfl (lv_at hl 2 rfl) ?_
      refine j_get SS hG hP 7 (v := .ref (q (9 + 5 * 10))) (C := RX1) (T := TX1) (N := 4) rfl rfl inX1 0 (by decide) (ref := "GridPolygons$Coarse") kw_371 rfl rfl dX1_above_69 ?_
      refine lv_iload_n SS.1 SS.2.1 dX1_above_72 rfl (lv_at hl 4 rfl) ?_
      refine lv_iload SS.1 SS.2.1 dX1_above_73 (lv_at hl 7 rfl) ?_
      refine lv_iload SS.1 SS.2.1 dX1_above_75 (lv_at hl 6 rfl) ?_
      refine j_vRi SS (As := [.int (J a), .int (J d), .int (J c)]) (rest := [.int (J (z_56 * (((u.1.2.2.2.1 i) (d).toNat) - ((u.1.2.2.2.1 i) (a).toNat))))]) (c_X6_turn_10t l D q u  a d c (show RB 40 u 10 from (p0)) (show -2147483648 ≤ a ∧ a ≤ 2147483647 from (p2)) (show -2147483648 ≤ d ∧ d ≤ 2147483647 from (p5)) (show -2147483648 ≤ c ∧ c ≤ 2147483647 from (p4))) mf_X6_turn kw_996 hG hP hP (ci := 6) (q0 := (9 + 5 * 10)) rfl (cw_pts (by omega)) rfl rfl hl.1 ⟨⟨Nat.le_of_ble_eq_true rfl, Nat.le_of_ble_eq_true rfl⟩, Nat.le_of_ble_eq_true rfl, Nat.le_refl _, Nat.le_refl _⟩ rfl dX1_above_77 (fun z_77 h_77 => ?_)
      have h_77 : (-12800 ≤ z_77 ∧ z_77 ≤ 12800) ∧ ((0 ≤ a ∧ a < 40) → (0 ≤ d ∧ d < 40) → (0 ≤ c ∧ c < 40) → z_77 = tn ((u.1.1 10)) ((u.1.2.1 10)) a.toNat d.toNat c.toNat) := h_77
      obtain ⟨t_77, e_77⟩ := h_77
      refine lv_aload_n SS.1 SS.2.1 dX1_above_80 rfl (lv_at hl 3 rfl) ?_
      refine lv_iload_n SS.1 SS.2.1 dX1_above_81 rfl (lv_at hl 5 rfl) ?_
      refine j_iald SS hG hP (12 + 5 * i) (n := 40) (f := (u.1.2.2.2.1 i)) (cw_hts (by omega)) (z := b) (by omega) (by omega) dX1_above_82 ?_
      refine lv_aload_n SS.1 SS.2.1 dX1_above_83 rfl (lv_at hl 3 rfl) ?_
      refine lv_iload_n SS.1 SS.2.1 dX1_above_84 rfl (lv_at hl 4 rfl) ?_
      refine j_iald SS hG hP (12 + 5 * i) (n := 40) (f := (u.1.2.2.2.1 i)) (cw_hts (by omega)) (z := a) (by omega) (by omega) dX1_above_85 ?_
      refine j_isub SS (x := ((u.1.2.2.2.1 i) (b).toNat)) (y := ((u.1.2.2.2.1 i) (a).toNat)) dX1_above_86 ?_
      refine j_imul SS (x := z_77) (y := (((u.1.2.2.2.1 i) (b).toNat) - ((u.1.2.2.2.1 i) (a).toNat))) dX1_above_87 ?_
      refine j_isub SS (x := (z_56 * (((u.1.2.2.2.1 i) (d).toNat) - ((u.1.2.2.2.1 i) (a).toNat)))) (y := (z_77 * (((u.1.2.2.2.1 i) (b).toNat) - ((u.1.2.2.2.1 i) (a).toNat)))) dX1_above_88 ?_
      refine lv_aload_n SS.1 SS.2.1 dX1_above_89 rfl (lv_at hl 2 rfl) ?_
      refine j_get SS hG hP 7 (v := .ref (q (9 + 5 * 10))) (C := RX1) (T := TX1) (N := 4) rfl rfl inX1 0 (by decide) (ref := "GridPolygons$Coarse") kw_371 rfl rfl dX1_above_90 ?_
      refine lv_iload_n SS.1 SS.2.1 dX1_above_93 rfl (lv_at hl 4 rfl) ?_
      refine lv_iload_n SS.1 SS.2.1 dX1_above_94 rfl (lv_at hl 5 rfl) ?_
      refine lv_iload SS.1 SS.2.1 dX1_above_95 (lv_at hl 7 rfl) ?_
      refine j_vRi SS (As := [.int (J a), .int (J b), .int (J d)]) (rest := [.int (J ((z_56 * (((u.1.2.2.2.1 i) (d).toNat) - ((u.1.2.2.2.1 i) (a).toNat))) - (z_77 * (((u.1.2.2.2.1 i) (b).toNat) - ((u.1.2.2.2.1 i) (a).toNat)))))]) (c_X6_turn_10t l D q u  a b d (show RB 40 u 10 from (p0)) (show -2147483648 ≤ a ∧ a ≤ 2147483647 from (p2)) (show -2147483648 ≤ b ∧ b ≤ 2147483647 from (p3)) (show -2147483648 ≤ d ∧ d ≤ 2147483647 from (p5))) mf_X6_turn kw_996 hG hP hP (ci := 6) (q0 := (9 + 5 * 10)) rfl (cw_pts (by omega)) rfl rfl hl.1 ⟨⟨Nat.le_of_ble_eq_true rfl, Nat.le_of_ble_eq_true rfl⟩, Nat.le_of_ble_eq_true rfl, Nat.le_refl _, Nat.le_refl _⟩ rfl dX1_above_97 (fun z_97 h_97 => ?_)
      have h_97 : (-12800 ≤ z_97 ∧ z_97 ≤ 12800) ∧ ((0 ≤ a ∧ a < 40) → (0 ≤ b ∧ b < 40) → (0 ≤ d ∧ d < 40) → z_97 = tn ((u.1.1 10)) ((u.1.2.1 10)) a.toNat b.toNat d.toNat) := h_97
      obtain ⟨t_97, e_97⟩ := h_97
      refine lv_aload_n SS.1 SS.2.1 dX1_above_100 rfl (lv_at hl 3 rfl) ?_
      refine lv_iload SS.1 SS.2.1 dX1_above_101 (lv_at hl 6 rfl) ?_
      refine j_iald SS hG hP (12 + 5 * i) (n := 40) (f := (u.1.2.2.2.1 i)) (cw_hts (by omega)) (z := c) (by omega) (by omega) dX1_above_103 ?_
      refine lv_aload_n SS.1 SS.2.1 dX1_above_104 rfl (lv_at hl 3 rfl) ?_
      refine lv_iload_n SS.1 SS.2.1 dX1_above_105 rfl (lv_at hl 4 rfl) ?_
      refine j_iald SS hG hP (12 + 5 * i) (n := 40) (f := (u.1.2.2.2.1 i)) (cw_hts (by omega)) (z := a) (by omega) (by omega) dX1_above_106 ?_
      refine j_isub SS (x := ((u.1.2.2.2.1 i) (c).toNat)) (y := ((u.1.2.2.2.1 i) (a).toNat)) dX1_above_107 ?_
      refine j_imul SS (x := z_97) (y := (((u.1.2.2.2.1 i) (c).toNat) - ((u.1.2.2.2.1 i) (a).toNat))) dX1_above_108 ?_
      refine j_isub SS (x := ((z_56 * (((u.1.2.2.2.1 i) (d).toNat) - ((u.1.2.2.2.1 i) (a).toNat))) - (z_77 * (((u.1.2.2.2.1 i) (b).toNat) - ((u.1.2.2.2.1 i) (a).toNat))))) (y := (z_97 * (((u.1.2.2.2.1 i) (c).toNat) - ((u.1.2.2.2.1 i) (a).toNat)))) dX1_above_109 ?_
      have hxa := p1 (a).toNat
      have hxb := p1 (b).toNat
      have hxc := p1 (c).toNat
      have hxd := p1 (d).toNat
      have m1 := mulb (A := 12800) (B := 2000) (a := z_56) (b := u.1.2.2.2.1 i d.toNat - u.1.2.2.2.1 i a.toNat) (by omega) (by omega)
      have m2 := mulb (A := 12800) (B := 2000) (a := z_77) (b := u.1.2.2.2.1 i b.toNat - u.1.2.2.2.1 i a.toNat) (by omega) (by omega)
      have m3 := mulb (A := 12800) (B := 2000) (a := z_97) (b := u.1.2.2.2.1 i c.toNat - u.1.2.2.2.1 i a.toNat) (by omega) (by omega)
      exact W.iret SS.1 SS.2.1 hr (fun t0 ht hW => ⟨_, rfl, ⟨(((z_56 * (((u.1.2.2.2.1 i) (d).toNat) - ((u.1.2.2.2.1 i) (a).toNat))) - (z_77 * (((u.1.2.2.2.1 i) (b).toNat) - ((u.1.2.2.2.1 i) (a).toNat)))) - (z_97 * (((u.1.2.2.2.1 i) (c).toNat) - ((u.1.2.2.2.1 i) (a).toNat)))), rfl, (⟨by clear e_56 e_77 e_97; omega, fun q1 q2 q3 q4 => by rw [e_56 q1 q2 q3, e_77 q1 q4 q3, e_97 q1 q2 q4]; rfl⟩)⟩, ht⟩) (fun _ h => nomatch h) dX1_above_110 hlk
    · skip
      refine j_iconst SS dX1_above_46 ?_
      exact W.iret SS.1 SS.2.1 hr (fun t0 ht hW => ⟨_, rfl, ⟨0, rfl, (⟨by omega, fun q1 q2 q3 q4 => by exfalso; omega⟩)⟩, ht⟩) (fun _ h => nomatch h) dX1_above_47 hlk

set_option maxHeartbeats 4000000 in
set_option maxRecDepth 100000 in
theorem c_X1_lowestLeft3 (l : Launch) (D : JD) (q : Nat → Nat) (u : CS) (i : Nat) (hi : i < 8) (a : Int) (b : Int) (p0 : RB 40 u 10) (p1 : HB (u.1.2.2.2.1 i)) (p2 : 0 ≤ a ∧ a < 40) (p3 : 0 ≤ b ∧ b < 40) : Met l yX1_lowestLeft (jw yX1_lowestLeft cX1_lowestLeft 6 (some .int)) (jr 3 71) (jP [.ref (q 7), .ref (q (12 + 5 * i)), .int (J a), .int (J b)] D (fun H => va_P D.1 j_cl (cW D q u) H)) (jRi (fun z => (-1 ≤ z ∧ z ≤ 39) ∧ LO9 (u.1.1 10) (u.1.2.1 10) (u.1.2.2.2.1 i) a.toNat b.toNat (u.1.2.2.1 10) z)) 0 0 (fun _ => False) := by
  refine Met.ofW (cc := cX1_lowestLeft) (maxL := 6) (ret := (some .int)) (by decide) rfl ?_
  intro pr en st mi args below meth co s₁ B hml hv
  obtain ⟨rfl, hG, hP⟩ := hv
  have hr := B.returns
  have hlk := B.notSynchronized
  have SS : jS pr mi co cX1_lowestLeft 6 st _ RX1 := ⟨B.exec, B.bytes, hml, findClass_of_methodNamed B.named, fun w hw => atoms_spec (ws := (jw yX1_lowestLeft cX1_lowestLeft 6 (some .int))) B.pre w (List.mem_cons_of_mem _ hw)⟩
  have hl := lv_entry ([.ref (q 7), .ref (q (12 + 5 * i)), .int (J a), .int (J b)]) (n := 6) (Nat.le_of_ble_eq_true rfl)
  rw [lg_entry_eq]
  generalize (lg_sl ([.ref (q 7), .ref (q (12 + 5 * i)), .int (J a), .int (J b)]) ++ List.replicate (6 - (lg_sl ([.ref (q 7), .ref (q (12 + 5 * i)), .int (J a), .int (J b)])).length) Slot.unset).toArray = ls at hl ⊢
  have hl : lv_has ls 6 [(0, .ref (q 7)), (1, .ref (q (12 + 5 * i))), (2, .int (J a)), (3, .int (J b))] := hl
  have hc := p0.1
  have hrk : (rl 10 : Int) = 40 := rfl
  refine j_iconst SS dX1_lowestLeft_0 ?_
  refine lv_istore (lv' := [(4, .int (J (-1))), (0, .ref (q 7)), (1, .ref (q (12 + 5 * i))), (2, .int (J a)), (3, .int (J b))]) SS.1 SS.2.1 dX1_lowestLeft_1 hl (by decide) rfl (fun ls hl => ?_)
  refine j_iconst SS dX1_lowestLeft_3 ?_
  refine lv_istore (lv' := [(5, .int (J 0)), (4, .int (J (-1))), (0, .ref (q 7)), (1, .ref (q (12 + 5 * i))), (2, .int (J a)), (3, .int (J b))]) SS.1 SS.2.1 dX1_lowestLeft_4 hl (by decide) rfl (fun ls hl => ?_)
  have L_6 : ∀ (nn : Nat) (lo : Int) (k : Int) (ls : Array Slot) (hl : lv_has ls 6 [(0, .ref (q 7)), (1, .ref (q (12 + 5 * i))), (2, .int (J a)), (3, .int (J b)), (4, .int (J lo)), (5, .int (J k))]) (i6_0 : -1 ≤ lo ∧ lo ≤ 39) (i6_1 : 0 ≤ k ∧ k ≤ u.1.2.2.1 10) (i6_2 : LO9 (u.1.1 10) (u.1.2.1 10) (u.1.2.2.2.1 i) a.toNat b.toNat k lo), ((40 : Int) - k).toNat < nn → W pr l en (headSpec (jw yX1_lowestLeft cX1_lowestLeft 6 (some .int)) (jr 3 71)).room st mi (([.ref (q 7), .ref (q (12 + 5 * i)), .int (J a), .int (J b)] : List Value).toArray) below meth co st.heap [] 0 0 (MQ below (jRi (fun z => (-1 ≤ z ∧ z ≤ 39) ∧ LO9 (u.1.1 10) (u.1.2.1 10) (u.1.2.2.2.1 i) a.toNat b.toNat (u.1.2.2.1 10) z)) (([.ref (q 7), .ref (q (12 + 5 * i)), .int (J a), .int (J b)] : List Value).toArray) st 0 0 (fun _ => False)) (F0 mi 6 ls []) := by
    intro nn
    induction nn with
    | zero => intros; omega
    | succ nn ih_6 =>
      intro lo k ls hl i6_0 i6_1 i6_2 hm
      refine lv_iload SS.1 SS.2.1 dX1_lowestLeft_6 (lv_at hl 5 rfl) ?_
      refine lv_aload_n SS.1 SS.2.1 dX1_lowestLeft_8 rfl (lv_at hl 0 rfl) ?_
      refine j_get SS hG hP 7 (v := .ref (q (9 + 5 * 10))) (C := RX1) (T := TX1) (N := 4) rfl rfl inX1 0 (by decide) (ref := "GridPolygons$Coarse") kw_371 rfl rfl dX1_lowestLeft_9 ?_
      refine j_getS SS hG hP (9 + 5 * 10) (v := .int (J (u.1.2.2.1 10))) (C := RX6) (T := TX6) (N := 3) (cw_pts (by omega)) rfl inX6 2 (by decide) (ref := "GridPolygons$Points") kw_138 kw_134 rfl dX1_lowestLeft_12 ?_
      refine j_icmp_ge SS (tgt := 61) (x := k) (y := (u.1.2.2.1 10)) dX1_lowestLeft_15 (by decide) (by omega) (by omega) (fun c_15 => ?_) (fun c_15 => ?_)
      · skip
        refine lv_iload SS.1 SS.2.1 dX1_lowestLeft_61 (lv_at hl 4 rfl) ?_
        exact W.iret SS.1 SS.2.1 hr (fun t0 ht hW => ⟨_, rfl, ⟨lo, rfl, (⟨by omega, by rw [show u.1.2.2.1 10 = k by omega]; exact i6_2⟩)⟩, ht⟩) (fun _ h => nomatch h) dX1_lowestLeft_63 hlk
      · skip
        refine lv_aload_n SS.1 SS.2.1 dX1_lowestLeft_18 rfl (lv_at hl 0 rfl) ?_
        refine j_get SS hG hP 7 (v := .ref (q (9 + 5 * 10))) (C := RX1) (T := TX1) (N := 4) rfl rfl inX1 0 (by decide) (ref := "GridPolygons$Coarse") kw_371 rfl rfl dX1_lowestLeft_19 ?_
        refine lv_iload_n SS.1 SS.2.1 dX1_lowestLeft_22 rfl (lv_at hl 2 rfl) ?_
        refine lv_iload_n SS.1 SS.2.1 dX1_lowestLeft_23 rfl (lv_at hl 3 rfl) ?_
        refine lv_iload SS.1 SS.2.1 dX1_lowestLeft_24 (lv_at hl 5 rfl) ?_
        refine j_vRi SS (As := [.int (J a), .int (J b), .int (J k)]) (rest := []) (c_X6_turn_10t l D q u  a b k (show RB 40 u 10 from (p0)) (show -2147483648 ≤ a ∧ a ≤ 2147483647 from (by omega)) (show -2147483648 ≤ b ∧ b ≤ 2147483647 from (by omega)) (show -2147483648 ≤ k ∧ k ≤ 2147483647 from (by omega))) mf_X6_turn kw_996 hG hP hP (ci := 6) (q0 := (9 + 5 * 10)) rfl (cw_pts (by omega)) rfl rfl hl.1 ⟨⟨Nat.le_of_ble_eq_true rfl, Nat.le_of_ble_eq_true rfl⟩, Nat.le_of_ble_eq_true rfl, Nat.le_refl _, Nat.le_refl _⟩ rfl dX1_lowestLeft_26 (fun z_26 h_26 => ?_)
        have h_26 : (-12800 ≤ z_26 ∧ z_26 ≤ 12800) ∧ ((0 ≤ a ∧ a < 40) → (0 ≤ b ∧ b < 40) → (0 ≤ k ∧ k < 40) → z_26 = tn ((u.1.1 10)) ((u.1.2.1 10)) a.toNat b.toNat k.toNat) := h_26
        obtain ⟨t_26, e26⟩ := h_26
        have e26 := e26 p2 p3 (by omega)
        refine j_if_le SS (tgt := 55) (x := z_26) dX1_lowestLeft_29 (by decide) (by omega) (fun c_29 => ?_) (fun c_29 => ?_)
        · skip
          refine lv_iinc (v := J (k + 1)) (lv' := [(5, .int (J (k + 1))), (0, .ref (q 7)), (1, .ref (q (12 + 5 * i))), (2, .int (J a)), (3, .int (J b)), (4, .int (J lo))]) SS.1 SS.2.1 dX1_lowestLeft_55 hl (k := 5) rfl (J_add _ _) (by decide) rfl (fun ls hl => ?_)
          refine lv_goto (tgt := 6) SS.1 SS.2.1 dX1_lowestLeft_58 (by decide) ?_
          exact ih_6 lo (k + 1) ls (lv_sub hl [1, 2, 3, 4, 5, 0] rfl) (by omega) (by omega) (by first | exact LO_n (by omega) i6_2 (by rw [← e26]; omega) | exact LO_w (by omega) i6_2 (by rw [← e26]; omega) (Or.inl (by omega)) | exact LO_k (by omega) i6_2 (by omega) (by rw [← e45]; omega) | exact LO_w (by omega) i6_2 (by rw [← e26]; omega) (Or.inr (by rw [← e45]; omega))) (by omega)
        · skip
          refine lv_iload SS.1 SS.2.1 dX1_lowestLeft_32 (lv_at hl 4 rfl) ?_
          refine j_if_lt SS (tgt := 51) (x := lo) dX1_lowestLeft_34 (by decide) (by omega) (fun c_34 => ?_) (fun c_34 => ?_)
          · skip
            refine lv_iload SS.1 SS.2.1 dX1_lowestLeft_51 (lv_at hl 5 rfl) ?_
            refine lv_istore (lv' := [(4, .int (J k)), (0, .ref (q 7)), (1, .ref (q (12 + 5 * i))), (2, .int (J a)), (3, .int (J b)), (5, .int (J k))]) SS.1 SS.2.1 dX1_lowestLeft_53 hl (by decide) rfl (fun ls hl => ?_)
            refine lv_iinc (v := J (k + 1)) (lv' := [(5, .int (J (k + 1))), (4, .int (J k)), (0, .ref (q 7)), (1, .ref (q (12 + 5 * i))), (2, .int (J a)), (3, .int (J b))]) SS.1 SS.2.1 dX1_lowestLeft_55 hl (k := 5) rfl (J_add _ _) (by decide) rfl (fun ls hl => ?_)
            refine lv_goto (tgt := 6) SS.1 SS.2.1 dX1_lowestLeft_58 (by decide) ?_
            exact ih_6 k (k + 1) ls (lv_sub hl [2, 3, 4, 5, 1, 0] rfl) (by omega) (by omega) (by first | exact LO_n (by omega) i6_2 (by rw [← e26]; omega) | exact LO_w (by omega) i6_2 (by rw [← e26]; omega) (Or.inl (by omega)) | exact LO_k (by omega) i6_2 (by omega) (by rw [← e45]; omega) | exact LO_w (by omega) i6_2 (by rw [← e26]; omega) (Or.inr (by rw [← e45]; omega))) (by omega)
          · skip
            refine lv_aload_n SS.1 SS.2.1 dX1_lowestLeft_37 rfl (lv_at hl 0 rfl) ?_
            refine lv_aload_n SS.1 SS.2.1 dX1_lowestLeft_38 rfl (lv_at hl 1 rfl) ?_
            refine lv_iload_n SS.1 SS.2.1 dX1_lowestLeft_39 rfl (lv_at hl 2 rfl) ?_
            refine lv_iload_n SS.1 SS.2.1 dX1_lowestLeft_40 rfl (lv_at hl 3 rfl) ?_
            refine lv_iload SS.1 SS.2.1 dX1_lowestLeft_41 (lv_at hl 4 rfl) ?_
            refine lv_iload SS.1 SS.2.1 dX1_lowestLeft_43 (lv_at hl 5 rfl) ?_
            refine j_vRi SS (As := [.ref (q (12 + 5 * i)), .int (J a), .int (J b), .int (J lo), .int (J k)]) (rest := []) (c_X1_above3 l D q u i (by omega) a b lo k (show RB 40 u 10 from (p0)) (show HB ((u.1.2.2.2.1 i)) from (p1)) (show -2147483648 ≤ a ∧ a ≤ 2147483647 from (by omega)) (show -2147483648 ≤ b ∧ b ≤ 2147483647 from (by omega)) (show -2147483648 ≤ lo ∧ lo ≤ 2147483647 from (by omega)) (show -2147483648 ≤ k ∧ k ≤ 2147483647 from (by omega))) mf_X1_above kw_997 hG hP hP (ci := 1) (q0 := 7) rfl rfl rfl rfl hl.1 ⟨⟨Nat.le_of_ble_eq_true rfl, Nat.le_of_ble_eq_true rfl⟩, Nat.le_of_ble_eq_true rfl, Nat.le_refl _, Nat.le_refl _⟩ rfl dX1_lowestLeft_45 (fun z_45 h_45 => ?_)
            have h_45 : (-100000000 ≤ z_45 ∧ z_45 ≤ 100000000) ∧ ((0 ≤ a ∧ a < 40) → (0 ≤ b ∧ b < 40) → (0 ≤ lo ∧ lo < 40) → (0 ≤ k ∧ k < 40) → z_45 = ab9 ((u.1.1 10)) ((u.1.2.1 10)) ((u.1.2.2.2.1 i)) a.toNat b.toNat lo.toNat k.toNat) := h_45
            obtain ⟨t_45, e45⟩ := h_45
            have e45 := e45 p2 p3 (by omega) (by omega)
            refine j_if_ge SS (tgt := 55) (x := z_45) dX1_lowestLeft_48 (by decide) (by omega) (fun c_48 => ?_) (fun c_48 => ?_)
            · skip
              refine lv_iinc (v := J (k + 1)) (lv' := [(5, .int (J (k + 1))), (0, .ref (q 7)), (1, .ref (q (12 + 5 * i))), (2, .int (J a)), (3, .int (J b)), (4, .int (J lo))]) SS.1 SS.2.1 dX1_lowestLeft_55 hl (k := 5) rfl (J_add _ _) (by decide) rfl (fun ls hl => ?_)
              refine lv_goto (tgt := 6) SS.1 SS.2.1 dX1_lowestLeft_58 (by decide) ?_
              exact ih_6 lo (k + 1) ls (lv_sub hl [1, 2, 3, 4, 5, 0] rfl) (by omega) (by omega) (by first | exact LO_n (by omega) i6_2 (by rw [← e26]; omega) | exact LO_w (by omega) i6_2 (by rw [← e26]; omega) (Or.inl (by omega)) | exact LO_k (by omega) i6_2 (by omega) (by rw [← e45]; omega) | exact LO_w (by omega) i6_2 (by rw [← e26]; omega) (Or.inr (by rw [← e45]; omega))) (by omega)
            · skip
              refine lv_iload SS.1 SS.2.1 dX1_lowestLeft_51 (lv_at hl 5 rfl) ?_
              refine lv_istore (lv' := [(4, .int (J k)), (0, .ref (q 7)), (1, .ref (q (12 + 5 * i))), (2, .int (J a)), (3, .int (J b)), (5, .int (J k))]) SS.1 SS.2.1 dX1_lowestLeft_53 hl (by decide) rfl (fun ls hl => ?_)
              refine lv_iinc (v := J (k + 1)) (lv' := [(5, .int (J (k + 1))), (4, .int (J k)), (0, .ref (q 7)), (1, .ref (q (12 + 5 * i))), (2, .int (J a)), (3, .int (J b))]) SS.1 SS.2.1 dX1_lowestLeft_55 hl (k := 5) rfl (J_add _ _) (by decide) rfl (fun ls hl => ?_)
              refine lv_goto (tgt := 6) SS.1 SS.2.1 dX1_lowestLeft_58 (by decide) ?_
              exact ih_6 k (k + 1) ls (lv_sub hl [2, 3, 4, 5, 1, 0] rfl) (by omega) (by omega) (by first | exact LO_n (by omega) i6_2 (by rw [← e26]; omega) | exact LO_w (by omega) i6_2 (by rw [← e26]; omega) (Or.inl (by omega)) | exact LO_k (by omega) i6_2 (by omega) (by rw [← e45]; omega) | exact LO_w (by omega) i6_2 (by rw [← e26]; omega) (Or.inr (by rw [← e45]; omega))) (by omega)
  exact L_6 (((40 : Int) - (0 : Int)).toNat + 1) (-1) 0 ls (lv_sub hl [2, 3, 4, 5, 1, 0] rfl) (by omega) (by omega) (Or.inl ⟨rfl, fun p hp => by omega⟩) (Nat.lt_succ_self _)
