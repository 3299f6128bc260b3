
section JQ
variable {p : Program} {l : Launch} {e : Env} {R : Room} {s : State} {m : MethodId} {args : Array Value} {below : List Frame} {meth : Method} {c : Code} {H : Heap} {locs : List Loc} {cells slots : Nat} {Q : State → Prop}
variable {cc : ByteArray} {nL : Nat} {own : String} {pc : Nat} {ls : Array Slot} {rest : List Value}
/-- a static method that writes nothing: a long -/
theorem j_sRl (S : jS p m c cc nL s args own) {D : JD} {P : Heap → Prop} {As : List Value} {post : Int64 → Prop} {y : MethodName} {bytes : ByteArray} {maxL n index f nl : Nat} {ret : Option FieldType} (hM : Met l y (jw y bytes maxL ret) (jr f nl) (jP As D P) (vp_Sl post) 0 0 (fun _ => False)) (hy : jmS y bytes maxL ret n) (hl : Cond.methodLink own index y ∈ lw_g) (hG : j_K D s) (hP : P H) (hn : As.length = n) (hls : ls.size = nL) (hR : (f + 1 ≤ R.frames ∧ 8 + (maxL + 11) + nl ≤ R.locals) ∧ (rest.map fun v => v.category).sum ≤ 8 ∧ cells ≤ R.cells ∧ slots ≤ R.slots) {st0 : List Value} (hst : st0 = As.reverse ++ rest) (hdg : decode cc pc = .ok (.invokestatic index, 3))
    (k : ∀ x : Int64, post x → W p l e R s m args below meth c H locs cells slots Q (F0 m (pc + 3) ls (.long x :: rest))) : W p l e R s m args below meth c H locs cells slots Q (F0 m pc ls st0) :=
  vp_callSl (W.runS S hM ⟨j_cB S hy.1 hy.2.1 hl hy.2.2.2 hR.1, S.2.2.2.2 _ hy.2.2.1⟩ ⟨jP.blind, jP.at hG hP⟩ rfl hn hls hst (lv_room hR.2.1) hdg hR.2.2) k
end JQ

set_option maxHeartbeats 4000000 in
set_option maxRecDepth 100000 in
theorem c_X6_turn_10 (l : Launch) (D : JD) (q : Nat → Nat) (u : CS) (i : Int) (j : Int) (k : Int) (p0 : RB 40 u 10) (p1 : -2147483648 ≤ i ∧ i ≤ 2147483647) (p2 : -2147483648 ≤ j ∧ j ≤ 2147483647) (p3 : -2147483648 ≤ k ∧ k ≤ 2147483647) : Met l yX6_turn (jw yX6_turn cX6_turn 4 (some .int)) (jr 1 21) (jP [.ref (q (9 + 5 * 10)), .int (J i), .int (J j), .int (J k)] D (fun H => va_P D.1 j_cl (cW D q u) H)) (jRi (fun z => -12800 ≤ z ∧ z ≤ 12800)) 0 0 (fun _ => False) := by
  refine Met.ofW (cc := cX6_turn) (maxL := 4) (ret := (some .int)) (by decide) rfl ?_
  intro pr en st mi args below meth co s₁ B hml hv
  obtain ⟨rfl, hG, hP⟩ := hv
  have hr := B.returns
  have hlk := B.notSynchronized
  have SS : jS pr mi co cX6_turn 4 st _ RX6 := ⟨B.exec, B.bytes, hml, findClass_of_methodNamed B.named, fun w hw => atoms_spec (ws := (jw yX6_turn cX6_turn 4 (some .int))) B.pre w (List.mem_cons_of_mem _ hw)⟩
  have hl := lv_entry ([.ref (q (9 + 5 * 10)), .int (J i), .int (J j), .int (J k)]) (n := 4) (Nat.le_of_ble_eq_true rfl)
  rw [lg_entry_eq]
  generalize (lg_sl ([.ref (q (9 + 5 * 10)), .int (J i), .int (J j), .int (J k)]) ++ List.replicate (4 - (lg_sl ([.ref (q (9 + 5 * 10)), .int (J i), .int (J j), .int (J k)])).length) Slot.unset).toArray = ls at hl ⊢
  have hl : lv_has ls 4 [(0, .ref (q (9 + 5 * 10))), (1, .int (J i)), (2, .int (J j)), (3, .int (J k))] := hl
  refine lv_aload_n SS.1 SS.2.1 dX6_turn_0 rfl (lv_at hl 0 rfl) ?_
  refine lv_iload_n SS.1 SS.2.1 dX6_turn_1 rfl (lv_at hl 2 rfl) ?_
  refine j_uRi SS (As := [.int (J j)]) (rest := []) (c_X8_xP l D q u 10 (by omega) j (show -2147483648 ≤ j ∧ j ≤ 2147483647 from (p2))) mu_6_x kw_908 hG hP hP (ci := 6) (q0 := (9 + 5 * 10)) rfl (cw_pts (by omega)) rfl rfl hl.1 ⟨⟨Nat.le_of_ble_eq_true rfl, Nat.le_of_ble_eq_true rfl⟩, Nat.le_of_ble_eq_true rfl, Nat.le_refl _, Nat.le_refl _⟩ rfl dX6_turn_2 (fun z_2 h_2 => ?_)
  have h_2 : z_2 = rx u 10 j ∧ ∀ K : Int, 0 ≤ K → RB K u 10 → -K ≤ z_2 ∧ z_2 ≤ K := h_2
  have hb_2 := h_2.2 40 (by omega) (p0)
  refine lv_aload_n SS.1 SS.2.1 dX6_turn_5 rfl (lv_at hl 0 rfl) ?_
  refine lv_iload_n SS.1 SS.2.1 dX6_turn_6 rfl (lv_at hl 1 rfl) ?_
  refine j_uRi SS (As := [.int (J i)]) (rest := [.int (J z_2)]) (c_X8_xP l D q u 10 (by omega) i (show -2147483648 ≤ i ∧ i ≤ 2147483647 from (p1))) mu_6_x kw_908 hG hP hP (ci := 6) (q0 := (9 + 5 * 10)) rfl (cw_pts (by omega)) rfl rfl hl.1 ⟨⟨Nat.le_of_ble_eq_true rfl, Nat.le_of_ble_eq_true rfl⟩, Nat.le_of_ble_eq_true rfl, Nat.le_refl _, Nat.le_refl _⟩ rfl dX6_turn_7 (fun z_7 h_7 => ?_)
  have h_7 : z_7 = rx u 10 i ∧ ∀ K : Int, 0 ≤ K → RB K u 10 → -K ≤ z_7 ∧ z_7 ≤ K := h_7
  have hb_7 := h_7.2 40 (by omega) (p0)
  refine j_isub SS (x := z_2) (y := z_7) dX6_turn_10 ?_
  refine lv_aload_n SS.1 SS.2.1 dX6_turn_11 rfl (lv_at hl 0 rfl) ?_
  refine lv_iload_n SS.1 SS.2.1 dX6_turn_12 rfl (lv_at hl 3 rfl) ?_
  refine j_uRi SS (As := [.int (J k)]) (rest := [.int (J (z_2 - z_7))]) (c_X8_yP l D q u 10 (by omega) k (show -2147483648 ≤ k ∧ k ≤ 2147483647 from (p3))) mu_6_y kw_909 hG hP hP (ci := 6) (q0 := (9 + 5 * 10)) rfl (cw_pts (by omega)) rfl rfl hl.1 ⟨⟨Nat.le_of_ble_eq_true rfl, Nat.le_of_ble_eq_true rfl⟩, Nat.le_of_ble_eq_true rfl, Nat.le_refl _, Nat.le_refl _⟩ rfl dX6_turn_13 (fun z_13 h_13 => ?_)
  have h_13 : z_13 = ry9 u 10 k ∧ ∀ K : Int, 0 ≤ K → RB K u 10 → -K ≤ z_13 ∧ z_13 ≤ K := h_13
  have hb_13 := h_13.2 40 (by omega) (p0)
  refine lv_aload_n SS.1 SS.2.1 dX6_turn_16 rfl (lv_at hl 0 rfl) ?_
  refine lv_iload_n SS.1 SS.2.1 dX6_turn_17 rfl (lv_at hl 1 rfl) ?_
  refine j_uRi SS (As := [.int (J i)]) (rest := [.int (J z_13), .int (J (z_2 - z_7))]) (c_X8_yP l D q u 10 (by omega) i (show -2147483648 ≤ i ∧ i ≤ 2147483647 from (p1))) mu_6_y kw_909 hG hP hP (ci := 6) (q0 := (9 + 5 * 10)) rfl (cw_pts (by omega)) rfl rfl hl.1 ⟨⟨Nat.le_of_ble_eq_true rfl, Nat.le_of_ble_eq_true rfl⟩, Nat.le_of_ble_eq_true rfl, Nat.le_refl _, Nat.le_refl _⟩ rfl dX6_turn_18 (fun z_18 h_18 => ?_)
  have h_18 : z_18 = ry9 u 10 i ∧ ∀ K : Int, 0 ≤ K → RB K u 10 → -K ≤ z_18 ∧ z_18 ≤ K := h_18
  have hb_18 := h_18.2 40 (by omega) (p0)
  refine j_isub SS (x := z_13) (y := z_18) dX6_turn_21 ?_
  refine j_imul SS (x := (z_2 - z_7)) (y := (z_13 - z_18)) dX6_turn_22 ?_
  refine lv_aload_n SS.1 SS.2.1 dX6_turn_23 rfl (lv_at hl 0 rfl) ?_
  refine lv_iload_n SS.1 SS.2.1 dX6_turn_24 rfl (lv_at hl 2 rfl) ?_
  refine j_uRi SS (As := [.int (J j)]) (rest := [.int (J ((z_2 - z_7) * (z_13 - z_18)))]) (c_X8_yP l D q u 10 (by omega) j (show -2147483648 ≤ j ∧ j ≤ 2147483647 from (p2))) mu_6_y kw_909 hG hP hP (ci := 6) (q0 := (9 + 5 * 10)) rfl (cw_pts (by omega)) rfl rfl hl.1 ⟨⟨Nat.le_of_ble_eq_true rfl, Nat.le_of_ble_eq_true rfl⟩, Nat.le_of_ble_eq_true rfl, Nat.le_refl _, Nat.le_refl _⟩ rfl dX6_turn_25 (fun z_25 h_25 => ?_)
  have h_25 : z_25 = ry9 u 10 j ∧ ∀ K : Int, 0 ≤ K → RB K u 10 → -K ≤ z_25 ∧ z_25 ≤ K := h_25
  have hb_25 := h_25.2 40 (by omega) (p0)
  refine lv_aload_n SS.1 SS.2.1 dX6_turn_28 rfl (lv_at hl 0 rfl) ?_
  refine lv_iload_n SS.1 SS.2.1 dX6_turn_29 rfl (lv_at hl 1 rfl) ?_
  refine j_uRi SS (As := [.int (J i)]) (rest := [.int (J z_25), .int (J ((z_2 - z_7) * (z_13 - z_18)))]) (c_X8_yP l D q u 10 (by omega) i (show -2147483648 ≤ i ∧ i ≤ 2147483647 from (p1))) mu_6_y kw_909 hG hP hP (ci := 6) (q0 := (9 + 5 * 10)) rfl (cw_pts (by omega)) rfl rfl hl.1 ⟨⟨Nat.le_of_ble_eq_true rfl, Nat.le_of_ble_eq_true rfl⟩, Nat.le_of_ble_eq_true rfl, Nat.le_refl _, Nat.le_refl _⟩ rfl dX6_turn_30 (fun z_30 h_30 => ?_)
  have h_30 : z_30 = ry9 u 10 i ∧ ∀ K : Int, 0 ≤ K → RB K u 10 → -K ≤ z_30 ∧ z_30 ≤ K := h_30
  have hb_30 := h_30.2 40 (by omega) (p0)
  refine j_isub SS (x := z_25) (y := z_30) dX6_turn_33 ?_
  refine lv_aload_n SS.1 SS.2.1 dX6_turn_34 rfl (lv_at hl 0 rfl) ?_
  refine lv_iload_n SS.1 SS.2.1 dX6_turn_35 rfl (lv_at hl 3 rfl) ?_
  refine j_uRi SS (As := [.int (J k)]) (rest := [.int (J (z_25 - z_30)), .int (J ((z_2 - z_7) * (z_13 - z_18)))]) (c_X8_xP l D q u 10 (by omega) k (show -2147483648 ≤ k ∧ k ≤ 2147483647 from (p3))) mu_6_x kw_908 hG hP hP (ci := 6) (q0 := (9 + 5 * 10)) rfl (cw_pts (by omega)) rfl rfl hl.1 ⟨⟨Nat.le_of_ble_eq_true rfl, Nat.le_of_ble_eq_true rfl⟩, Nat.le_of_ble_eq_true rfl, Nat.le_refl _, Nat.le_refl _⟩ rfl dX6_turn_36 (fun z_36 h_36 => ?_)
  have h_36 : z_36 = rx u 10 k ∧ ∀ K : Int, 0 ≤ K → RB K u 10 → -K ≤ z_36 ∧ z_36 ≤ K := h_36
  have hb_36 := h_36.2 40 (by omega) (p0)
  refine lv_aload_n SS.1 SS.2.1 dX6_turn_39 rfl (lv_at hl 0 rfl) ?_
  refine lv_iload_n SS.1 SS.2.1 dX6_turn_40 rfl (lv_at hl 1 rfl) ?_
  refine j_uRi SS (As := [.int (J i)]) (rest := [.int (J z_36), .int (J (z_25 - z_30)), .int (J ((z_2 - z_7) * (z_13 - z_18)))]) (c_X8_xP l D q u 10 (by omega) i (show -2147483648 ≤ i ∧ i ≤ 2147483647 from (p1))) mu_6_x kw_908 hG hP hP (ci := 6) (q0 := (9 + 5 * 10)) rfl (cw_pts (by omega)) rfl rfl hl.1 ⟨⟨Nat.le_of_ble_eq_true rfl, Nat.le_of_ble_eq_true rfl⟩, Nat.le_of_ble_eq_true rfl, Nat.le_refl _, Nat.le_refl _⟩ rfl dX6_turn_41 (fun z_41 h_41 => ?_)
  have h_41 : z_41 = rx u 10 i ∧ ∀ K : Int, 0 ≤ K → RB K u 10 → -K ≤ z_41 ∧ z_41 ≤ K := h_41
  have hb_41 := h_41.2 40 (by omega) (p0)
  refine j_isub SS (x := z_36) (y := z_41) dX6_turn_44 ?_
  refine j_imul SS (x := (z_25 - z_30)) (y := (z_36 - z_41)) dX6_turn_45 ?_
  refine j_isub SS (x := ((z_2 - z_7) * (z_13 - z_18))) (y := ((z_25 - z_30) * (z_36 - z_41))) dX6_turn_46 ?_
  have m1 := mulb (A := 80) (B := 80) (a := z_2 - z_7) (b := z_13 - z_18) (by omega) (by omega)
  have m2 := mulb (A := 80) (B := 80) (a := z_25 - z_30) (b := z_36 - z_41) (by omega) (by omega)
  exact W.iret SS.1 SS.2.1 hr (fun t0 ht hW => ⟨_, rfl, ⟨(((z_2 - z_7) * (z_13 - z_18)) - ((z_25 - z_30) * (z_36 - z_41))), rfl, (by omega)⟩, ht⟩) (fun _ h => nomatch h) dX6_turn_47 hlk

set_option maxHeartbeats 4000000 in
set_option maxRecDepth 100000 in
theorem c_X1_bit (l : Launch) (D : JD) (i : Int) : Met l yX1_bit (jw yX1_bit cX1_bit 1 (some .long)) (jr 0 0) (jP [.int (J i)] D (fun _ => True)) (vp_Sl (fun x9 => True)) 0 0 (fun _ => False) := by
  refine Met.ofW (cc := cX1_bit) (maxL := 1) (ret := (some .long)) (by decide) rfl ?_
  intro pr en st mi args below meth co s₁ B hml hv
  obtain ⟨rfl, hG, hP⟩ := hv
  have hr := B.returns
  have hlk := B.notSynchronized
  have SS : jS pr mi co cX1_bit 1 st _ RX1 := ⟨B.exec, B.bytes, hml, findClass_of_methodNamed B.named, fun w hw => atoms_spec (ws := (jw yX1_bit cX1_bit 1 (some .long))) B.pre w (List.mem_cons_of_mem _ hw)⟩
  have hl := lv_entry ([.int (J i)]) (n := 1) (Nat.le_of_ble_eq_true rfl)
  rw [lg_entry_eq]
  generalize (lg_sl ([.int (J i)]) ++ List.replicate (1 - (lg_sl ([.int (J i)])).length) Slot.unset).toArray = ls at hl ⊢
  have hl : lv_has ls 1 [(0, .int (J i))] := hl
  refine lv_lconst (v := 1) SS.1 SS.2.1 dX1_bit_0 (by decide +kernel) ?_
  refine j_bipush SS dX1_bit_1 (by decide +kernel) ?_
  refine lv_iload_n SS.1 SS.2.1 dX1_bit_3 rfl (lv_at hl 0 rfl) ?_
  refine j_isub SS (x := 62) (y := i) dX1_bit_4 ?_
  refine lv_lshl SS.1 SS.2.1 dX1_bit_5 rfl (lv_topl (fun x_5 ex_5 => ?_))
  exact W.lret SS.1 SS.2.1 hr (fun t0 ht hW => ⟨_, rfl, (trivial), ht⟩) (fun _ h => nomatch h) dX1_bit_6 hlk

set_option maxHeartbeats 4000000 in
set_option maxRecDepth 100000 in
theorem c_X1_above (l : Launch) (D : JD) (q : Nat → Nat) (u : CS) (i : Nat) (hi : i < 8) (a : Int) (b : Int) (c : Int) (d : Int) (p0 : RB 40 u 10) (p1 : HB (u.1.2.2.2.1 i)) (p2 : -2147483648 ≤ a ∧ a ≤ 2147483647) (p3 : -2147483648 ≤ b ∧ b ≤ 2147483647) (p4 : -2147483648 ≤ c ∧ c ≤ 2147483647) (p5 : -2147483648 ≤ d ∧ d ≤ 2147483647) : Met l yX1_above (jw yX1_above cX1_above 8 (some .int)) (jr 2 44) (jP [.ref (q 7), .ref (q (12 + 5 * i)), .int (J a), .int (J b), .int (J c), .int (J d)] D (fun H => va_P D.1 j_cl (cW D q u) H)) (jRi (fun z => -100000000 ≤ z ∧ z ≤ 100000000)) 0 0 (fun _ => False) := by
  refine Met.ofW (cc := cX1_above) (maxL := 8) (ret := (some .int)) (by decide) rfl ?_
  intro pr en st mi args below meth co s₁ B hml hv
  obtain ⟨rfl, hG, hP⟩ := hv
  have hr := B.returns
  have hlk := B.notSynchronized
  have SS : jS pr mi co cX1_above 8 st _ RX1 := ⟨B.exec, B.bytes, hml, findClass_of_methodNamed B.named, fun w hw => atoms_spec (ws := (jw yX1_above cX1_above 8 (some .int))) B.pre w (List.mem_cons_of_mem _ hw)⟩
  have hl := lv_entry ([.ref (q 7), .ref (q (12 + 5 * i)), .int (J a), .int (J b), .int (J c), .int (J d)]) (n := 8) (Nat.le_of_ble_eq_true rfl)
  rw [lg_entry_eq]
  generalize (lg_sl ([.ref (q 7), .ref (q (12 + 5 * i)), .int (J a), .int (J b), .int (J c), .int (J d)]) ++ List.replicate (8 - (lg_sl ([.ref (q 7), .ref (q (12 + 5 * i)), .int (J a), .int (J b), .int (J c), .int (J d)])).length) Slot.unset).toArray = ls at hl ⊢
  have hl : lv_has ls 8 [(0, .ref (q 7)), (1, .ref (q (12 + 5 * i))), (2, .int (J a)), (3, .int (J b)), (4, .int (J c)), (5, .int (J d))] := hl
  have hc := p0.1
  have hrk : (rl 10 : Int) = 40 := rfl
  refine lv_iload_n SS.1 SS.2.1 dX1_above_0 rfl (lv_at hl 2 rfl) ?_
  refine lv_iload_n SS.1 SS.2.1 dX1_above_1 rfl (lv_at hl 3 rfl) ?_
  refine j_sRi SS (As := [.int (J a), .int (J b)]) (rest := []) (c_J9_max_7cf53 l D  a b (show -2147483648 ≤ a ∧ a ≤ 2147483647 from (p2)) (show -2147483648 ≤ b ∧ b ≤ 2147483647 from (p3))) mf_J9_max_7cf53 kw_1001 hG trivial rfl hl.1 ⟨⟨Nat.le_of_ble_eq_true rfl, Nat.le_of_ble_eq_true rfl⟩, Nat.le_of_ble_eq_true rfl, Nat.le_refl _, Nat.le_refl _⟩ rfl dX1_above_2 (fun z_2 h_2 => ?_)
  have h_2 : (z_2 = a ∨ z_2 = b) ∧ a ≤ z_2 ∧ b ≤ z_2 := h_2
  refine lv_iload SS.1 SS.2.1 dX1_above_5 (lv_at hl 4 rfl) ?_
  refine lv_iload SS.1 SS.2.1 dX1_above_7 (lv_at hl 5 rfl) ?_
  refine j_sRi SS (As := [.int (J c), .int (J d)]) (rest := [.int (J z_2)]) (c_J9_max_7cf53 l D  c d (show -2147483648 ≤ c ∧ c ≤ 2147483647 from (p4)) (show -2147483648 ≤ d ∧ d ≤ 2147483647 from (p5))) mf_J9_max_7cf53 kw_1001 hG trivial rfl hl.1 ⟨⟨Nat.le_of_ble_eq_true rfl, Nat.le_of_ble_eq_true rfl⟩, Nat.le_of_ble_eq_true rfl, Nat.le_refl _, Nat.le_refl _⟩ rfl dX1_above_9 (fun z_9 h_9 => ?_)
  have h_9 : (z_9 = c ∨ z_9 = d) ∧ c ≤ z_9 ∧ d ≤ z_9 := h_9
  refine j_sRi SS (As := [.int (J z_2), .int (J z_9)]) (rest := []) (c_J9_max_7cf53 l D  z_2 z_9 (show -2147483648 ≤ z_2 ∧ z_2 ≤ 2147483647 from (by omega)) (show -2147483648 ≤ z_9 ∧ z_9 ≤ 2147483647 from (by omega))) mf_J9_max_7cf53 kw_1001 hG trivial rfl hl.1 ⟨⟨Nat.le_of_ble_eq_true rfl, Nat.le_of_ble_eq_true rfl⟩, Nat.le_of_ble_eq_true rfl, Nat.le_refl _, Nat.le_refl _⟩ rfl dX1_above_12 (fun z_12 h_12 => ?_)
  have h_12 : (z_12 = z_2 ∨ z_12 = z_9) ∧ z_2 ≤ z_12 ∧ z_9 ≤ z_12 := h_12
  refine lv_istore (lv' := [(6, .int (J z_12)), (0, .ref (q 7)), (1, .ref (q (12 + 5 * i))), (2, .int (J a)), (3, .int (J b)), (4, .int (J c)), (5, .int (J d))]) SS.1 SS.2.1 dX1_above_15 hl (by decide) rfl (fun ls hl => ?_)
  refine lv_iload_n SS.1 SS.2.1 dX1_above_17 rfl (lv_at hl 3 rfl) ?_
  refine lv_iload_n SS.1 SS.2.1 dX1_above_18 rfl (lv_at hl 4 rfl) ?_
  refine j_sRi SS (As := [.int (J a), .int (J b)]) (rest := []) (c_J9_min_7cf53 l D  a b (show -2147483648 ≤ a ∧ a ≤ 2147483647 from (p2)) (show -2147483648 ≤ b ∧ b ≤ 2147483647 from (p3))) mf_J9_min_7cf53 kw_1002 hG trivial rfl hl.1 ⟨⟨Nat.le_of_ble_eq_true rfl, Nat.le_of_ble_eq_true rfl⟩, Nat.le_of_ble_eq_true rfl, Nat.le_refl _, Nat.le_refl _⟩ rfl dX1_above_19 (fun z_19 h_19 => ?_)
  have h_19 : (z_19 = a ∨ z_19 = b) ∧ z_19 ≤ a ∧ z_19 ≤ b := h_19
  refine lv_iload SS.1 SS.2.1 dX1_above_22 (lv_at hl 5 rfl) ?_
  refine lv_iload SS.1 SS.2.1 dX1_above_24 (lv_at hl 6 rfl) ?_
  refine j_sRi SS (As := [.int (J c), .int (J d)]) (rest := [.int (J z_19)]) (c_J9_min_7cf53 l D  c d (show -2147483648 ≤ c ∧ c ≤ 2147483647 from (p4)) (show -2147483648 ≤ d ∧ d ≤ 2147483647 from (p5))) mf_J9_min_7cf53 kw_1002 hG trivial rfl hl.1 ⟨⟨Nat.le_of_ble_eq_true rfl, Nat.le_of_ble_eq_true rfl⟩, Nat.le_of_ble_eq_true rfl, Nat.le_refl _, Nat.le_refl _⟩ rfl dX1_above_26 (fun z_26 h_26 => ?_)
  have h_26 : (z_26 = c ∨ z_26 = d) ∧ z_26 ≤ c ∧ z_26 ≤ d := h_26
  refine j_sRi SS (As := [.int (J z_19), .int (J z_26)]) (rest := []) (c_J9_min_7cf53 l D  z_19 z_26 (show -2147483648 ≤ z_19 ∧ z_19 ≤ 2147483647 from (by omega)) (show -2147483648 ≤ z_26 ∧ z_26 ≤ 2147483647 from (by omega))) mf_J9_min_7cf53 kw_1002 hG trivial rfl hl.1 ⟨⟨Nat.le_of_ble_eq_true rfl, Nat.le_of_ble_eq_true rfl⟩, Nat.le_of_ble_eq_true rfl, Nat.le_refl _, Nat.le_refl _⟩ rfl dX1_above_29 (fun z_29 h_29 => ?_)
  have h_29 : (z_29 = z_19 ∨ z_29 = z_26) ∧ z_29 ≤ z_19 ∧ z_29 ≤ z_26 := h_29
  refine lv_istore (lv' := [(7, .int (J z_29)), (6, .int (J z_12)), (0, .ref (q 7)), (1, .ref (q (12 + 5 * i))), (2, .int (J a)), (3, .int (J b)), (4, .int (J c)), (5, .int (J d))]) SS.1 SS.2.1 dX1_above_32 hl (by decide) rfl (fun ls hl => ?_)
  refine lv_iload SS.1 SS.2.1 dX1_above_34 (lv_at hl 0 rfl) ?_
  refine j_if_lt SS (tgt := 46) (x := z_29) dX1_above_36 (by decide) (by omega) (fun c_36 => ?_) (fun c_36 => ?_)
  · skip
    refine j_iconst SS dX1_above_46 ?_
    exact W.iret SS.1 SS.2.1 hr (fun t0 ht hW => ⟨_, rfl, ⟨0, rfl, (by omega)⟩, ht⟩) (fun _ h => nomatch h) dX1_above_47 hlk
  · skip
    refine lv_iload SS.1 SS.2.1 dX1_above_39 (lv_at hl 1 rfl) ?_
    refine lv_aload_n SS.1 SS.2.1 dX1_above_41 rfl (lv_at hl 3 rfl) ?_
    refine va_alen SS.1 SS.2.1 hG.1 hP (12 + 5 * i) 0 (cw_hts (by omega)) rfl (v := J (40 : Int)) (by first | rfl | exact J_nat _) dX1_above_42 ?_
    refine j_icmp_lt SS (tgt := 48) (x := z_12) (y := 40) dX1_above_43 (by decide) (by omega) (by decide) (fun c_43 => ?_) (fun c_43 => ?_)
    · skip
      refine lv_aload_n SS.1 SS.2.1 dX1_above_48 rfl (lv_at hl 2 rfl) ?_
      refine j_get SS hG hP 7 (v := .ref (q (9 + 5 * 10))) (C := RX1) (T := TX1) (N := 4) rfl rfl inX1 0 (by decide) (ref := "GridPolygons$Coarse") kw_371 rfl rfl dX1_above_49 ?_
      refine lv_iload_n SS.1 SS.2.1 dX1_above_52 rfl (lv_at hl 4 rfl) ?_
      refine lv_iload_n SS.1 SS.2.1 dX1_above_53 rfl (lv_at hl 5 rfl) ?_
      refine lv_iload SS.1 SS.2.1 dX1_above_54 (lv_at hl 6 rfl) ?_
      refine j_vRi SS (As := [.int (J a), .int (J b), .int (J c)]) (rest := []) (c_X6_turn_10 l D q u  a b c (show RB 40 u 10 from (p0)) (show -2147483648 ≤ a ∧ a ≤ 2147483647 from (p2)) (show -2147483648 ≤ b ∧ b ≤ 2147483647 from (p3)) (show -2147483648 ≤ c ∧ c ≤ 2147483647 from (p4))) mf_X6_turn kw_996 hG hP hP (ci := 6) (q0 := (9 + 5 * 10)) rfl (cw_pts (by omega)) rfl rfl hl.1 ⟨⟨Nat.le_of_ble_eq_true rfl, Nat.le_of_ble_eq_true rfl⟩, Nat.le_of_ble_eq_true rfl, Nat.le_refl _, Nat.le_refl _⟩ rfl dX1_above_56 (fun z_56 h_56 => ?_)
      have h_56 : -12800 ≤ z_56 ∧ z_56 ≤ 12800 := h_56
      refine lv_aload_n SS.1 SS.2.1 dX1_above_59 rfl (lv_at hl 3 rfl) ?_
      refine lv_iload SS.1 SS.2.1 dX1_above_60 (lv_at hl 7 rfl) ?_
      refine j_iald SS hG hP (12 + 5 * i) (n := 40) (f := (u.1.2.2.2.1 i)) (cw_hts (by omega)) (z := d) (by omega) (by omega) dX1_above_62 ?_
      refine lv_aload_n SS.1 SS.2.1 dX1_above_63 rfl (lv_at hl 3 rfl) ?_
      refine lv_iload_n SS.1 SS.2.1 dX1_above_64 rfl (lv_at hl 4 rfl) ?_
      refine j_iald SS hG hP (12 + 5 * i) (n := 40) (f := (u.1.2.2.2.1 i)) (cw_hts (by omega)) (z := a) (by omega) (by omega) dX1_above_65 ?_
      refine j_isub SS (x := ((u.1.2.2.2.1 i) (d).toNat)) (y := ((u.1.2.2.2.1 i) (a).toNat)) dX1_above_66 ?_
      refine j_imul SS (x := z_56) (y := (((u.1.2.2.2.1 i) (d).toNat) - ((u.1.2.2.2.1 i) (a).toNat))) dX1_above_67 ?_
      refine lv_aload_n SS.1 SS.2.1 dX1_above_68 rfl (lv_at hl 2 rfl) ?_
      refine j_get SS hG hP 7 (v := .ref (q (9 + 5 * 10))) (C := RX1) (T := TX1) (N := 4) rfl rfl inX1 0 (by decide) (ref := "GridPolygons$Coarse") kw_371 rfl rfl dX1_above_69 ?_
      refine lv_iload_n SS.1 SS.2.1 dX1_above_72 rfl (lv_at hl 4 rfl) ?_
      refine lv_iload SS.1 SS.2.1 dX1_above_73 (lv_at hl 7 rfl) ?_
      refine lv_iload SS.1 SS.2.1 dX1_above_75 (lv_at hl 6 rfl) ?_
      refine j_vRi SS (As := [.int (J a), .int (J d), .int (J c)]) (rest := [.int (J (z_56 * (((u.1.2.2.2.1 i) (d).toNat) - ((u.1.2.2.2.1 i) (a).toNat))))]) (c_X6_turn_10 l D q u  a d c (show RB 40 u 10 from (p0)) (show -2147483648 ≤ a ∧ a ≤ 2147483647 from (p2)) (show -2147483648 ≤ d ∧ d ≤ 2147483647 from (p5)) (show -2147483648 ≤ c ∧ c ≤ 2147483647 from (p4))) mf_X6_turn kw_996 hG hP hP (ci := 6) (q0 := (9 + 5 * 10)) rfl (cw_pts (by omega)) rfl rfl hl.1 ⟨⟨Nat.le_of_ble_eq_true rfl, Nat.le_of_ble_eq_true rfl⟩, Nat.le_of_ble_eq_true rfl, Nat.le_refl _, Nat.le_refl _⟩ rfl dX1_above_77 (fun z_77 h_77 => ?_)
      have h_77 : -12800 ≤ z_77 ∧ z_77 ≤ 12800 := h_77
      refine lv_aload_n SS.1 SS.2.1 dX1_above_80 rfl (lv_at hl 3 rfl) ?_
      refine lv_iload_n SS.1 SS.2.1 dX1_above_81 rfl (lv_at hl 5 rfl) ?_
      refine j_iald SS hG hP (12 + 5 * i) (n := 40) (f := (u.1.2.2.2.1 i)) (cw_hts (by omega)) (z := b) (by omega) (by omega) dX1_above_82 ?_
      refine lv_aload_n SS.1 SS.2.1 dX1_above_83 rfl (lv_at hl 3 rfl) ?_
      refine lv_iload_n SS.1 SS.2.1 dX1_above_84 rfl (lv_at hl 4 rfl) ?_
      refine j_iald SS hG hP (12 + 5 * i) (n := 40) (f := (u.1.2.2.2.1 i)) (cw_hts (by omega)) (z := a) (by omega) (by omega) dX1_above_85 ?_
      refine j_isub SS (x := ((u.1.2.2.2.1 i) (b).toNat)) (y := ((u.1.2.2.2.1 i) (a).toNat)) dX1_above_86 ?_
      refine j_imul SS (x := z_77) (y := (((u.1.2.2.2.1 i) (b).toNat) - ((u.1.2.2.2.1 i) (a).toNat))) dX1_above_87 ?_
      refine j_isub SS (x := (z_56 * (((u.1.2.2.2.1 i) (d).toNat) - ((u.1.2.2.2.1 i) (a).toNat)))) (y := (z_77 * (((u.1.2.2.2.1 i) (b).toNat) - ((u.1.2.2.2.1 i) (a).toNat)))) dX1_above_88 ?_
      refine lv_aload_n SS.1 SS.2.1 dX1_above_89 rfl (lv_at hl 2 rfl) ?_
      refine j_get SS hG hP 7 (v := .ref (q (9 + 5 * 10))) (C := RX1) (T := TX1) (N := 4) rfl rfl inX1 0 (by decide) (ref := "GridPolygons$Coarse") kw_371 rfl rfl dX1_above_90 ?_
      refine lv_iload_n SS.1 SS.2.1 dX1_above_93 rfl (lv_at hl 4 rfl) ?_
      refine lv_iload_n SS.1 SS.2.1 dX1_above_94 rfl (lv_at hl 5 rfl) ?_
      refine lv_iload SS.1 SS.2.1 dX1_above_95 (lv_at hl 7 rfl) ?_
      refine j_vRi SS (As := [.int (J a), .int (J b), .int (J d)]) (rest := [.int (J ((z_56 * (((u.1.2.2.2.1 i) (d).toNat) - ((u.1.2.2.2.1 i) (a).toNat))) - (z_77 * (((u.1.2.2.2.1 i) (b).toNat) - ((u.1.2.2.2.1 i) (a).toNat)))))]) (c_X6_turn_10 l D q u  a b d (show RB 40 u 10 from (p0)) (show -2147483648 ≤ a ∧ a ≤ 2147483647 from (p2)) (show -2147483648 ≤ b ∧ b ≤ 2147483647 from (p3)) (show -2147483648 ≤ d ∧ d ≤ 2147483647 from (p5))) mf_X6_turn kw_996 hG hP hP (ci := 6) (q0 := (9 + 5 * 10)) rfl (cw_pts (by omega)) rfl rfl hl.1 ⟨⟨Nat.le_of_ble_eq_true rfl, Nat.le_of_ble_eq_true rfl⟩, Nat.le_of_ble_eq_true rfl, Nat.le_refl _, Nat.le_refl _⟩ rfl dX1_above_97 (fun z_97 h_97 => ?_)
      have h_97 : -12800 ≤ z_97 ∧ z_97 ≤ 12800 := h_97
      refine lv_aload_n SS.1 SS.2.1 dX1_above_100 rfl (lv_at hl 3 rfl) ?_
      refine lv_iload SS.1 SS.2.1 dX1_above_101 (lv_at hl 6 rfl) ?_
      refine j_iald SS hG hP (12 + 5 * i) (n := 40) (f := (u.1.2.2.2.1 i)) (cw_hts (by omega)) (z := c) (by omega) (by omega) dX1_above_103 ?_
      refine lv_aload_n SS.1 SS.2.1 dX1_above_104 rfl (lv_at hl 3 rfl) ?_
      refine lv_iload_n SS.1 SS.2.1 dX1_above_105 rfl (lv_at hl 4 rfl) ?_
      refine j_iald SS hG hP (12 + 5 * i) (n := 40) (f := (u.1.2.2.2.1 i)) (cw_hts (by omega)) (z := a) (by omega) (by omega) dX1_above_106 ?_
      refine j_isub SS (x := ((u.1.2.2.2.1 i) (c).toNat)) (y := ((u.1.2.2.2.1 i) (a).toNat)) dX1_above_107 ?_
      refine j_imul SS (x := z_97) (y := (((u.1.2.2.2.1 i) (c).toNat) - ((u.1.2.2.2.1 i) (a).toNat))) dX1_above_108 ?_
      refine j_isub SS (x := ((z_56 * (((u.1.2.2.2.1 i) (d).toNat) - ((u.1.2.2.2.1 i) (a).toNat))) - (z_77 * (((u.1.2.2.2.1 i) (b).toNat) - ((u.1.2.2.2.1 i) (a).toNat))))) (y := (z_97 * (((u.1.2.2.2.1 i) (c).toNat) - ((u.1.2.2.2.1 i) (a).toNat)))) dX1_above_109 ?_
      have hxa := p1 (a).toNat
      have hxb := p1 (b).toNat
      have hxc := p1 (c).toNat
      have hxd := p1 (d).toNat
      have m1 := mulb (A := 12800) (B := 2000) (a := z_56) (b := u.1.2.2.2.1 i d.toNat - u.1.2.2.2.1 i a.toNat) (by omega) (by omega)
      have m2 := mulb (A := 12800) (B := 2000) (a := z_77) (b := u.1.2.2.2.1 i b.toNat - u.1.2.2.2.1 i a.toNat) (by omega) (by omega)
      have m3 := mulb (A := 12800) (B := 2000) (a := z_97) (b := u.1.2.2.2.1 i c.toNat - u.1.2.2.2.1 i a.toNat) (by omega) (by omega)
      exact W.iret SS.1 SS.2.1 hr (fun t0 ht hW => ⟨_, rfl, ⟨(((z_56 * (((u.1.2.2.2.1 i) (d).toNat) - ((u.1.2.2.2.1 i) (a).toNat))) - (z_77 * (((u.1.2.2.2.1 i) (b).toNat) - ((u.1.2.2.2.1 i) (a).toNat)))) - (z_97 * (((u.1.2.2.2.1 i) (c).toNat) - ((u.1.2.2.2.1 i) (a).toNat)))), rfl, (by omega)⟩, ht⟩) (fun _ h => nomatch h) dX1_above_110 hlk
    · skip
      refine j_iconst SS dX1_above_46 ?_
      exact W.iret SS.1 SS.2.1 hr (fun t0 ht hW => ⟨_, rfl, ⟨0, rfl, (by omega)⟩, ht⟩) (fun _ h => nomatch h) dX1_above_47 hlk

set_option maxHeartbeats 4000000 in
set_option maxRecDepth 100000 in
theorem c_X1_lowestLeft (l : Launch) (D : JD) (q : Nat → Nat) (u : CS) (i : Nat) (hi : i < 8) (a : Int) (b : Int) (p0 : RB 40 u 10) (p1 : HB (u.1.2.2.2.1 i)) (p2 : -2147483648 ≤ a ∧ a ≤ 2147483647) (p3 : -2147483648 ≤ b ∧ b ≤ 2147483647) : Met l yX1_lowestLeft (jw yX1_lowestLeft cX1_lowestLeft 6 (some .int)) (jr 3 71) (jP [.ref (q 7), .ref (q (12 + 5 * i)), .int (J a), .int (J b)] D (fun H => va_P D.1 j_cl (cW D q u) H)) (jRi (fun z => -1 ≤ z ∧ z ≤ 39)) 0 0 (fun _ => False) := by
  refine Met.ofW (cc := cX1_lowestLeft) (maxL := 6) (ret := (some .int)) (by decide) rfl ?_
  intro pr en st mi args below meth co s₁ B hml hv
  obtain ⟨rfl, hG, hP⟩ := hv
  have hr := B.returns
  have hlk := B.notSynchronized
  have SS : jS pr mi co cX1_lowestLeft 6 st _ RX1 := ⟨B.exec, B.bytes, hml, findClass_of_methodNamed B.named, fun w hw => atoms_spec (ws := (jw yX1_lowestLeft cX1_lowestLeft 6 (some .int))) B.pre w (List.mem_cons_of_mem _ hw)⟩
  have hl := lv_entry ([.ref (q 7), .ref (q (12 + 5 * i)), .int (J a), .int (J b)]) (n := 6) (Nat.le_of_ble_eq_true rfl)
  rw [lg_entry_eq]
  generalize (lg_sl ([.ref (q 7), .ref (q (12 + 5 * i)), .int (J a), .int (J b)]) ++ List.replicate (6 - (lg_sl ([.ref (q 7), .ref (q (12 + 5 * i)), .int (J a), .int (J b)])).length) Slot.unset).toArray = ls at hl ⊢
  have hl : lv_has ls 6 [(0, .ref (q 7)), (1, .ref (q (12 + 5 * i))), (2, .int (J a)), (3, .int (J b))] := hl
  have hc := p0.1
  have hrk : (rl 10 : Int) = 40 := rfl
  refine j_iconst SS dX1_lowestLeft_0 ?_
  refine lv_istore (lv' := [(4, .int (J (-1))), (0, .ref (q 7)), (1, .ref (q (12 + 5 * i))), (2, .int (J a)), (3, .int (J b))]) SS.1 SS.2.1 dX1_lowestLeft_1 hl (by decide) rfl (fun ls hl => ?_)
  refine j_iconst SS dX1_lowestLeft_3 ?_
  refine lv_istore (lv' := [(5, .int (J 0)), (4, .int (J (-1))), (0, .ref (q 7)), (1, .ref (q (12 + 5 * i))), (2, .int (J a)), (3, .int (J b))]) SS.1 SS.2.1 dX1_lowestLeft_4 hl (by decide) rfl (fun ls hl => ?_)
  have L_6 : ∀ (nn : Nat) (lo : Int) (k : Int) (ls : Array Slot) (hl : lv_has ls 6 [(0, .ref (q 7)), (1, .ref (q (12 + 5 * i))), (2, .int (J a)), (3, .int (J b)), (4, .int (J lo)), (5, .int (J k))]) (i6_0 : -1 ≤ lo ∧ lo ≤ 39) (i6_1 : 0 ≤ k ∧ k ≤ 40), ((40 : Int) - k).toNat < nn → W pr l en (headSpec (jw yX1_lowestLeft cX1_lowestLeft 6 (some .int)) (jr 3 71)).room st mi (([.ref (q 7), .ref (q (12 + 5 * i)), .int (J a), .int (J b)] : List Value).toArray) below meth co st.heap [] 0 0 (MQ below (jRi (fun z => -1 ≤ z ∧ z ≤ 39)) (([.ref (q 7), .ref (q (12 + 5 * i)), .int (J a), .int (J b)] : List Value).toArray) st 0 0 (fun _ => False)) (F0 mi 6 ls []) := by
    intro nn
    induction nn with
    | zero => intros; omega
    | succ nn ih_6 =>
      intro lo k ls hl i6_0 i6_1 hm
      refine lv_iload SS.1 SS.2.1 dX1_lowestLeft_6 (lv_at hl 5 rfl) ?_
      refine lv_aload_n SS.1 SS.2.1 dX1_lowestLeft_8 rfl (lv_at hl 0 rfl) ?_
      refine j_get SS hG hP 7 (v := .ref (q (9 + 5 * 10))) (C := RX1) (T := TX1) (N := 4) rfl rfl inX1 0 (by decide) (ref := "GridPolygons$Coarse") kw_371 rfl rfl dX1_lowestLeft_9 ?_
      refine j_getS SS hG hP (9 + 5 * 10) (v := .int (J (u.1.2.2.1 10))) (C := RX6) (T := TX6) (N := 3) (cw_pts (by omega)) rfl inX6 2 (by decide) (ref := "GridPolygons$Points") kw_138 kw_134 rfl dX1_lowestLeft_12 ?_
      refine j_icmp_ge SS (tgt := 61) (x := k) (y := (u.1.2.2.1 10)) dX1_lowestLeft_15 (by decide) (by omega) (by omega) (fun c_15 => ?_) (fun c_15 => ?_)
      · skip
        refine lv_iload SS.1 SS.2.1 dX1_lowestLeft_61 (lv_at hl 4 rfl) ?_
        exact W.iret SS.1 SS.2.1 hr (fun t0 ht hW => ⟨_, rfl, ⟨lo, rfl, (by omega)⟩, ht⟩) (fun _ h => nomatch h) dX1_lowestLeft_63 hlk
      · skip
        refine lv_aload_n SS.1 SS.2.1 dX1_lowestLeft_18 rfl (lv_at hl 0 rfl) ?_
        refine j_get SS hG hP 7 (v := .ref (q (9 + 5 * 10))) (C := RX1) (T := TX1) (N := 4) rfl rfl inX1 0 (by decide) (ref := "GridPolygons$Coarse") kw_371 rfl rfl dX1_lowestLeft_19 ?_
        refine lv_iload_n SS.1 SS.2.1 dX1_lowestLeft_22 rfl (lv_at hl 2 rfl) ?_
        refine lv_iload_n SS.1 SS.2.1 dX1_lowestLeft_23 rfl (lv_at hl 3 rfl) ?_
        refine lv_iload SS.1 SS.2.1 dX1_lowestLeft_24 (lv_at hl 5 rfl) ?_
        refine j_vRi SS (As := [.int (J a), .int (J b), .int (J k)]) (rest := []) (c_X6_turn_10 l D q u  a b k (show RB 40 u 10 from (p0)) (show -2147483648 ≤ a ∧ a ≤ 2147483647 from (p2)) (show -2147483648 ≤ b ∧ b ≤ 2147483647 from (p3)) (show -2147483648 ≤ k ∧ k ≤ 2147483647 from (by omega))) mf_X6_turn kw_996 hG hP hP (ci := 6) (q0 := (9 + 5 * 10)) rfl (cw_pts (by omega)) rfl rfl hl.1 ⟨⟨Nat.le_of_ble_eq_true rfl, Nat.le_of_ble_eq_true rfl⟩, Nat.le_of_ble_eq_true rfl, Nat.le_refl _, Nat.le_refl _⟩ rfl dX1_lowestLeft_26 (fun z_26 h_26 => ?_)
        have h_26 : -12800 ≤ z_26 ∧ z_26 ≤ 12800 := h_26
        refine j_if_le SS (tgt := 55) (x := z_26) dX1_lowestLeft_29 (by decide) (by omega) (fun c_29 => ?_) (fun c_29 => ?_)
        · skip
          refine lv_iinc (v := J (k + 1)) (lv' := [(5, .int (J (k + 1))), (0, .ref (q 7)), (1, .ref (q (12 + 5 * i))), (2, .int (J a)), (3, .int (J b)), (4, .int (J lo))]) SS.1 SS.2.1 dX1_lowestLeft_55 hl (k := 5) rfl (J_add _ _) (by decide) rfl (fun ls hl => ?_)
          refine lv_goto (tgt := 6) SS.1 SS.2.1 dX1_lowestLeft_58 (by decide) ?_
          exact ih_6 lo (k + 1) ls (lv_sub hl [1, 2, 3, 4, 5, 0] rfl) (by omega) (by omega) (by omega)
        · skip
          refine lv_iload SS.1 SS.2.1 dX1_lowestLeft_32 (lv_at hl 4 rfl) ?_
          refine j_if_lt SS (tgt := 51) (x := lo) dX1_lowestLeft_34 (by decide) (by omega) (fun c_34 => ?_) (fun c_34 => ?_)
          · skip
            refine lv_iload SS.1 SS.2.1 dX1_lowestLeft_51 (lv_at hl 5 rfl) ?_
            refine lv_istore (lv' := [(4, .int (J k)), (0, .ref (q 7)), (1, .ref (q (12 + 5 * i))), (2, .int (J a)), (3, .int (J b)), (5, .int (J k))]) SS.1 SS.2.1 dX1_lowestLeft_53 hl (by decide) rfl (fun ls hl => ?_)
            refine lv_iinc (v := J (k + 1)) (lv' := [(5, .int (J (k + 1))), (4, .int (J k)), (0, .ref (q 7)), (1, .ref (q (12 + 5 * i))), (2, .int (J a)), (3, .int (J b))]) SS.1 SS.2.1 dX1_lowestLeft_55 hl (k := 5) rfl (J_add _ _) (by decide) rfl (fun ls hl => ?_)
            refine lv_goto (tgt := 6) SS.1 SS.2.1 dX1_lowestLeft_58 (by decide) ?_
            exact ih_6 k (k + 1) ls (lv_sub hl [2, 3, 4, 5, 1, 0] rfl) (by omega) (by omega) (by omega)
          · skip
            refine lv_aload_n SS.1 SS.2.1 dX1_lowestLeft_37 rfl (lv_at hl 0 rfl) ?_
            refine lv_aload_n SS.1 SS.2.1 dX1_lowestLeft_38 rfl (lv_at hl 1 rfl) ?_
            refine lv_iload_n SS.1 SS.2.1 dX1_lowestLeft_39 rfl (lv_at hl 2 rfl) ?_
            refine lv_iload_n SS.1 SS.2.1 dX1_lowestLeft_40 rfl (lv_at hl 3 rfl) ?_
            refine lv_iload SS.1 SS.2.1 dX1_lowestLeft_41 (lv_at hl 4 rfl) ?_
            refine lv_iload SS.1 SS.2.1 dX1_lowestLeft_43 (lv_at hl 5 rfl) ?_
            refine j_vRi SS (As := [.ref (q (12 + 5 * i)), .int (J a), .int (J b), .int (J lo), .int (J k)]) (rest := []) (c_X1_above l D q u i (by omega) a b lo k (show RB 40 u 10 from (p0)) (show HB ((u.1.2.2.2.1 i)) from (p1)) (show -2147483648 ≤ a ∧ a ≤ 2147483647 from (p2)) (show -2147483648 ≤ b ∧ b ≤ 2147483647 from (p3)) (show -2147483648 ≤ lo ∧ lo ≤ 2147483647 from (by omega)) (show -2147483648 ≤ k ∧ k ≤ 2147483647 from (by omega))) mf_X1_above kw_997 hG hP hP (ci := 1) (q0 := 7) rfl rfl rfl rfl hl.1 ⟨⟨Nat.le_of_ble_eq_true rfl, Nat.le_of_ble_eq_true rfl⟩, Nat.le_of_ble_eq_true rfl, Nat.le_refl _, Nat.le_refl _⟩ rfl dX1_lowestLeft_45 (fun z_45 h_45 => ?_)
            have h_45 : -100000000 ≤ z_45 ∧ z_45 ≤ 100000000 := h_45
            refine j_if_ge SS (tgt := 55) (x := z_45) dX1_lowestLeft_48 (by decide) (by omega) (fun c_48 => ?_) (fun c_48 => ?_)
            · skip
              refine lv_iinc (v := J (k + 1)) (lv' := [(5, .int (J (k + 1))), (0, .ref (q 7)), (1, .ref (q (12 + 5 * i))), (2, .int (J a)), (3, .int (J b)), (4, .int (J lo))]) SS.1 SS.2.1 dX1_lowestLeft_55 hl (k := 5) rfl (J_add _ _) (by decide) rfl (fun ls hl => ?_)
              refine lv_goto (tgt := 6) SS.1 SS.2.1 dX1_lowestLeft_58 (by decide) ?_
              exact ih_6 lo (k + 1) ls (lv_sub hl [1, 2, 3, 4, 5, 0] rfl) (by omega) (by omega) (by omega)
            · skip
              refine lv_iload SS.1 SS.2.1 dX1_lowestLeft_51 (lv_at hl 5 rfl) ?_
              refine lv_istore (lv' := [(4, .int (J k)), (0, .ref (q 7)), (1, .ref (q (12 + 5 * i))), (2, .int (J a)), (3, .int (J b)), (5, .int (J k))]) SS.1 SS.2.1 dX1_lowestLeft_53 hl (by decide) rfl (fun ls hl => ?_)
              refine lv_iinc (v := J (k + 1)) (lv' := [(5, .int (J (k + 1))), (4, .int (J k)), (0, .ref (q 7)), (1, .ref (q (12 + 5 * i))), (2, .int (J a)), (3, .int (J b))]) SS.1 SS.2.1 dX1_lowestLeft_55 hl (k := 5) rfl (J_add _ _) (by decide) rfl (fun ls hl => ?_)
              refine lv_goto (tgt := 6) SS.1 SS.2.1 dX1_lowestLeft_58 (by decide) ?_
              exact ih_6 k (k + 1) ls (lv_sub hl [2, 3, 4, 5, 1, 0] rfl) (by omega) (by omega) (by omega)
  exact L_6 (((40 : Int) - (0 : Int)).toNat + 1) (-1) 0 ls (lv_sub hl [2, 3, 4, 5, 1, 0] rfl) (by omega) (by omega) (Nat.lt_succ_self _)

set_option maxHeartbeats 4000000 in
set_option maxRecDepth 100000 in
theorem c_X1_planeOf (l : Launch) (D : JD) (q : Nat → Nat) (u : CS) (i : Nat) (hi : i < 8) (a : Int) (b : Int) (c : Int) (p0 : RB 40 u 10) (p1 : HB (u.1.2.2.2.1 i)) (p2 : -2147483648 ≤ a ∧ a ≤ 2147483647) (p3 : -2147483648 ≤ b ∧ b ≤ 2147483647) (p4 : -2147483648 ≤ c ∧ c ≤ 2147483647) : Met l yX1_planeOf (jw yX1_planeOf cX1_planeOf 9 (some .long)) (jr 3 71) (jP [.ref (q 7), .ref (q (12 + 5 * i)), .int (J a), .int (J b), .int (J c)] D (fun H => va_P D.1 j_cl (cW D q u) H)) (vp_Sl (fun x9 => True)) 0 0 (fun _ => False) := by
  refine Met.ofW (cc := cX1_planeOf) (maxL := 9) (ret := (some .long)) (by decide) rfl ?_
  intro pr en st mi args below meth co s₁ B hml hv
  obtain ⟨rfl, hG, hP⟩ := hv
  have hr := B.returns
  have hlk := B.notSynchronized
  have SS : jS pr mi co cX1_planeOf 9 st _ RX1 := ⟨B.exec, B.bytes, hml, findClass_of_methodNamed B.named, fun w hw => atoms_spec (ws := (jw yX1_planeOf cX1_planeOf 9 (some .long))) B.pre w (List.mem_cons_of_mem _ hw)⟩
  have hl := lv_entry ([.ref (q 7), .ref (q (12 + 5 * i)), .int (J a), .int (J b), .int (J c)]) (n := 9) (Nat.le_of_ble_eq_true rfl)
  rw [lg_entry_eq]
  generalize (lg_sl ([.ref (q 7), .ref (q (12 + 5 * i)), .int (J a), .int (J b), .int (J c)]) ++ List.replicate (9 - (lg_sl ([.ref (q 7), .ref (q (12 + 5 * i)), .int (J a), .int (J b), .int (J c)])).length) Slot.unset).toArray = ls at hl ⊢
  have hl : lv_has ls 9 [(0, .ref (q 7)), (1, .ref (q (12 + 5 * i))), (2, .int (J a)), (3, .int (J b)), (4, .int (J c))] := hl
  have hc := p0.1
  have hrk : (rl 10 : Int) = 40 := rfl
  refine lv_iload SS.1 SS.2.1 dX1_planeOf_0 (lv_at hl 4 rfl) ?_
  refine j_if_ge SS (tgt := 7) (x := c) dX1_planeOf_2 (by decide) (by omega) (fun c_2 => ?_) (fun c_2 => ?_)
  · skip
    refine lv_lconst (v := 0) SS.1 SS.2.1 dX1_planeOf_7 (by decide +kernel) ?_
    refine lv_lstore (lv' := [(5, .long 0), (0, .ref (q 7)), (1, .ref (q (12 + 5 * i))), (2, .int (J a)), (3, .int (J b)), (4, .int (J c))]) SS.1 SS.2.1 dX1_planeOf_8 hl (by decide) rfl (fun ls hl => ?_)
    refine j_iconst SS dX1_planeOf_10 ?_
    refine lv_istore (lv' := [(7, .int (J 0)), (5, .long 0), (0, .ref (q 7)), (1, .ref (q (12 + 5 * i))), (2, .int (J a)), (3, .int (J b)), (4, .int (J c))]) SS.1 SS.2.1 dX1_planeOf_11 hl (by decide) rfl (fun ls hl => ?_)
    have L_13 : ∀ (nn : Nat) (se : Int64) (m : Int) (ls : Array Slot) (hl : lv_has ls 9 [(0, .ref (q 7)), (1, .ref (q (12 + 5 * i))), (2, .int (J a)), (3, .int (J b)), (4, .int (J c)), (5, .long se), (7, .int (J m))]) (i13_0 : 0 ≤ m ∧ m ≤ 40), ((40 : Int) - m).toNat < nn → W pr l en (headSpec (jw yX1_planeOf cX1_planeOf 9 (some .long)) (jr 3 71)).room st mi (([.ref (q 7), .ref (q (12 + 5 * i)), .int (J a), .int (J b), .int (J c)] : List Value).toArray) below meth co st.heap [] 0 0 (MQ below (vp_Sl (fun x9 => True)) (([.ref (q 7), .ref (q (12 + 5 * i)), .int (J a), .int (J b), .int (J c)] : List Value).toArray) st 0 0 (fun _ => False)) (F0 mi 13 ls []) := by
      intro nn
      induction nn with
      | zero => intros; omega
      | succ nn ih_13 =>
        intro se m ls hl i13_0 hm
        refine lv_iload SS.1 SS.2.1 dX1_planeOf_13 (lv_at hl 6 rfl) ?_
        refine lv_aload_n SS.1 SS.2.1 dX1_planeOf_15 rfl (lv_at hl 0 rfl) ?_
        refine j_get SS hG hP 7 (v := .ref (q (9 + 5 * 10))) (C := RX1) (T := TX1) (N := 4) rfl rfl inX1 0 (by decide) (ref := "GridPolygons$Coarse") kw_371 rfl rfl dX1_planeOf_16 ?_
        refine j_getS SS hG hP (9 + 5 * 10) (v := .int (J (u.1.2.2.1 10))) (C := RX6) (T := TX6) (N := 3) (cw_pts (by omega)) rfl inX6 2 (by decide) (ref := "GridPolygons$Points") kw_138 kw_134 rfl dX1_planeOf_19 ?_
        refine j_icmp_ge SS (tgt := 66) (x := m) (y := (u.1.2.2.1 10)) dX1_planeOf_22 (by decide) (by omega) (by omega) (fun c_22 => ?_) (fun c_22 => ?_)
        · skip
          refine lv_lload SS.1 SS.2.1 dX1_planeOf_66 (lv_at hl 5 rfl) ?_
          exact W.lret SS.1 SS.2.1 hr (fun t0 ht hW => ⟨_, rfl, (trivial), ht⟩) (fun _ h => nomatch h) dX1_planeOf_68 hlk
        · skip
          refine lv_aload_n SS.1 SS.2.1 dX1_planeOf_25 rfl (lv_at hl 0 rfl) ?_
          refine lv_aload_n SS.1 SS.2.1 dX1_planeOf_26 rfl (lv_at hl 1 rfl) ?_
          refine lv_iload_n SS.1 SS.2.1 dX1_planeOf_27 rfl (lv_at hl 2 rfl) ?_
          refine lv_iload_n SS.1 SS.2.1 dX1_planeOf_28 rfl (lv_at hl 3 rfl) ?_
          refine lv_iload SS.1 SS.2.1 dX1_planeOf_29 (lv_at hl 4 rfl) ?_
          refine lv_iload SS.1 SS.2.1 dX1_planeOf_31 (lv_at hl 6 rfl) ?_
          refine j_vRi SS (As := [.ref (q (12 + 5 * i)), .int (J a), .int (J b), .int (J c), .int (J m)]) (rest := []) (c_X1_above l D q u i (by omega) a b c m (show RB 40 u 10 from (p0)) (show HB ((u.1.2.2.2.1 i)) from (p1)) (show -2147483648 ≤ a ∧ a ≤ 2147483647 from (p2)) (show -2147483648 ≤ b ∧ b ≤ 2147483647 from (p3)) (show -2147483648 ≤ c ∧ c ≤ 2147483647 from (p4)) (show -2147483648 ≤ m ∧ m ≤ 2147483647 from (by omega))) mf_X1_above kw_997 hG hP hP (ci := 1) (q0 := 7) rfl rfl rfl rfl hl.1 ⟨⟨Nat.le_of_ble_eq_true rfl, Nat.le_of_ble_eq_true rfl⟩, Nat.le_of_ble_eq_true rfl, Nat.le_refl _, Nat.le_refl _⟩ rfl dX1_planeOf_33 (fun z_33 h_33 => ?_)
          have h_33 : -100000000 ≤ z_33 ∧ z_33 ≤ 100000000 := h_33
          refine lv_istore (lv' := [(8, .int (J z_33)), (0, .ref (q 7)), (1, .ref (q (12 + 5 * i))), (2, .int (J a)), (3, .int (J b)), (4, .int (J c)), (5, .long se), (7, .int (J m))]) SS.1 SS.2.1 dX1_planeOf_36 hl (by decide) rfl (fun ls hl => ?_)
          refine lv_iload SS.1 SS.2.1 dX1_planeOf_38 (lv_at hl 0 rfl) ?_
          refine j_if_ge SS (tgt := 45) (x := z_33) dX1_planeOf_40 (by decide) (by omega) (fun c_40 => ?_) (fun c_40 => ?_)
          · skip
            refine lv_iload SS.1 SS.2.1 dX1_planeOf_45 (lv_at hl 0 rfl) ?_
            refine j_if_ne SS (tgt := 60) (x := z_33) dX1_planeOf_47 (by decide) (by omega) (fun c_47 => ?_) (fun c_47 => ?_)
            · skip
              refine lv_iinc (v := J (m + 1)) (lv' := [(7, .int (J (m + 1))), (8, .int (J z_33)), (0, .ref (q 7)), (1, .ref (q (12 + 5 * i))), (2, .int (J a)), (3, .int (J b)), (4, .int (J c)), (5, .long se)]) SS.1 SS.2.1 dX1_planeOf_60 hl (k := 7) rfl (J_add _ _) (by decide) rfl (fun ls hl => ?_)
              refine lv_goto (tgt := 13) SS.1 SS.2.1 dX1_planeOf_63 (by decide) ?_
              exact ih_13 se (m + 1) ls (lv_sub hl [2, 3, 4, 5, 6, 7, 0] rfl) (by omega) (by omega)
            · skip
              refine lv_lload SS.1 SS.2.1 dX1_planeOf_50 (lv_at hl 6 rfl) ?_
              refine lv_iload SS.1 SS.2.1 dX1_planeOf_52 (lv_at hl 7 rfl) ?_
              refine j_sRl SS (As := [.int (J m)]) (rest := [.long se]) (c_X1_bit l D  m ) mf_X1_bit kw_1007 hG trivial rfl hl.1 ⟨⟨Nat.le_of_ble_eq_true rfl, Nat.le_of_ble_eq_true rfl⟩, Nat.le_of_ble_eq_true rfl, Nat.le_refl _, Nat.le_refl _⟩ rfl dX1_planeOf_54 (fun x_54 h_54 => ?_)
              have h_54 : True := h_54
              refine lv_lor SS.1 SS.2.1 dX1_planeOf_57 ?_
              refine lv_lstore (lv' := [(5, .long (se ||| x_54)), (8, .int (J z_33)), (0, .ref (q 7)), (1, .ref (q (12 + 5 * i))), (2, .int (J a)), (3, .int (J b)), (4, .int (J c)), (7, .int (J m))]) SS.1 SS.2.1 dX1_planeOf_58 hl (by decide) rfl (fun ls hl => ?_)
              refine lv_iinc (v := J (m + 1)) (lv' := [(7, .int (J (m + 1))), (5, .long (se ||| x_54)), (8, .int (J z_33)), (0, .ref (q 7)), (1, .ref (q (12 + 5 * i))), (2, .int (J a)), (3, .int (J b)), (4, .int (J c))]) SS.1 SS.2.1 dX1_planeOf_60 hl (k := 7) rfl (J_add _ _) (by decide) rfl (fun ls hl => ?_)
              refine lv_goto (tgt := 13) SS.1 SS.2.1 dX1_planeOf_63 (by decide) ?_
              exact ih_13 (se ||| x_54) (m + 1) ls (lv_sub hl [3, 4, 5, 6, 7, 1, 0] rfl) (by omega) (by omega)
          · skip
            refine lv_lconst (v := 0) SS.1 SS.2.1 dX1_planeOf_43 (by decide +kernel) ?_
            exact W.lret SS.1 SS.2.1 hr (fun t0 ht hW => ⟨_, rfl, (trivial), ht⟩) (fun _ h => nomatch h) dX1_planeOf_44 hlk
    exact L_13 (((40 : Int) - (0 : Int)).toNat + 1) 0 0 ls (lv_sub hl [2, 3, 4, 5, 6, 1, 0] rfl) (by omega) (Nat.lt_succ_self _)
  · skip
    refine lv_lconst (v := 0) SS.1 SS.2.1 dX1_planeOf_5 (by decide +kernel) ?_
    exact W.lret SS.1 SS.2.1 hr (fun t0 ht hW => ⟨_, rfl, (trivial), ht⟩) (fun _ h => nomatch h) dX1_planeOf_6 hlk

set_option maxHeartbeats 4000000 in
set_option maxRecDepth 100000 in
theorem c_X1_enter (l : Launch) (D : JD) (q : Nat → Nat) (u : CS) (A : Nat → Prop) (hD : va_D A (cW D q u)) (set : Int64) (p0 : 0 ≤ u.2.2.2 25 ∧ u.2.2.2 25 ≤ 80) : Met l yX1_enter (jw yX1_enter cX1_enter 4 none) (jr 2 44) (jP [.ref (q 7), .long set] D (fun H => va_P D.1 j_cl (cW D q u) H)) (jWv (fun u' => ∃ s6 : Nat → Int64, ∃ n : Int, u' = (sV (sL u 6 s6) 25 n) ∧ (0 ≤ n ∧ n ≤ 80)) (fun u' H => va_P D.1 j_cl (cW D q u') H) A) 0 0 A := by
  refine Met.ofW (cc := cX1_enter) (maxL := 4) (ret := none) (by decide) rfl ?_
  intro pr en st mi args below meth co s₁ B hml hv
  obtain ⟨rfl, hG, hP⟩ := hv
  have hr := B.returns
  have hlk := B.notSynchronized
  have SS : jS pr mi co cX1_enter 4 st _ RX1 := ⟨B.exec, B.bytes, hml, findClass_of_methodNamed B.named, fun w hw => atoms_spec (ws := (jw yX1_enter cX1_enter 4 none)) B.pre w (List.mem_cons_of_mem _ hw)⟩
  have hl := lv_entry ([.ref (q 7), .long set]) (n := 4) (Nat.le_of_ble_eq_true rfl)
  rw [lg_entry_eq]
  generalize (lg_sl ([.ref (q 7), .long set]) ++ List.replicate (4 - (lg_sl ([.ref (q 7), .long set])).length) Slot.unset).toArray = ls at hl ⊢
  have hl : lv_has ls 4 [(0, .ref (q 7)), (1, .long set)] := hl
  have hS : va_S A st.heap st.heap [] := va_S.rf
  refine lv_lload_n SS.1 SS.2.1 dX1_enter_0 rfl (lv_at hl 1 rfl) ?_
  refine lv_lconst (v := 0) SS.1 SS.2.1 dX1_enter_1 (by decide +kernel) ?_
  refine j_lcmp SS dX1_enter_2 (fun z_2 hz_2 => ?_)
  refine j_if_eq SS (tgt := 23) (x := z_2) dX1_enter_3 (by decide) (by omega) (fun c_3 => ?_) (fun c_3 => ?_)
  · skip
    exact W.vret SS.1 SS.2.1 hr (fun t0 ht hW => ⟨⟨(sV (sL u 6 (u.2.2.1 6)) 25 (u.2.2.2 25)), rfl, (⟨(u.2.2.1 6), (u.2.2.2 25), rfl, by omega⟩), by show va_P D.1 j_cl (cW D q (sV (sL u 6 (u.2.2.1 6)) 25 (u.2.2.2 25))) t0.heap; rw [ht]; first | exact hP | (simp only [sI_id, sL_id, sC_id, sX_id, sY_id, sH_id, sT_id, sV_id]; exact hP)⟩, hS.F ht⟩) hS.2.2 dX1_enter_23 hlk
  · skip
    refine lv_aload_n SS.1 SS.2.1 dX1_enter_6 rfl (lv_at hl 0 rfl) ?_
    refine j_get SS hG hP 7 (v := .int (J (u.2.2.2 25))) (C := RX1) (T := TX1) (N := 4) rfl rfl inX1 2 (by decide) (ref := "GridPolygons$Coarse") kw_373 rfl rfl dX1_enter_7 ?_
    refine j_bipush SS dX1_enter_10 (by decide +kernel) ?_
    refine j_icmp_ge SS (tgt := 23) (x := (u.2.2.2 25)) (y := 80) dX1_enter_12 (by decide) (by omega) (by decide) (fun c_12 => ?_) (fun c_12 => ?_)
    · skip
      exact W.vret SS.1 SS.2.1 hr (fun t0 ht hW => ⟨⟨(sV (sL u 6 (u.2.2.1 6)) 25 (u.2.2.2 25)), rfl, (⟨(u.2.2.1 6), (u.2.2.2 25), rfl, by omega⟩), by show va_P D.1 j_cl (cW D q (sV (sL u 6 (u.2.2.1 6)) 25 (u.2.2.2 25))) t0.heap; rw [ht]; first | exact hP | (simp only [sI_id, sL_id, sC_id, sX_id, sY_id, sH_id, sT_id, sV_id]; exact hP)⟩, hS.F ht⟩) hS.2.2 dX1_enter_23 hlk
    · skip
      refine lv_aload_n SS.1 SS.2.1 dX1_enter_15 rfl (lv_at hl 0 rfl) ?_
      refine lv_lload_n SS.1 SS.2.1 dX1_enter_16 rfl (lv_at hl 1 rfl) ?_
      refine j_vRi SS (As := [.long set]) (rest := []) (c_X1_isKnown l D q u  set (show 0 ≤ (u.2.2.2 25) ∧ (u.2.2.2 25) ≤ 80 from (p0))) mf_X1_isKnown kw_1014 hG hP hP (ci := 1) (q0 := 7) rfl rfl rfl rfl hl.1 ⟨⟨Nat.le_of_ble_eq_true rfl, Nat.le_of_ble_eq_true rfl⟩, Nat.le_of_ble_eq_true rfl, Nat.le_refl _, Nat.le_refl _⟩ rfl dX1_enter_17 (fun z_17 h_17 => ?_)
      have h_17 : z_17 = 0 ∨ z_17 = 1 := h_17
      refine j_if_eq SS (tgt := 24) (x := z_17) dX1_enter_20 (by decide) (by omega) (fun c_20 => ?_) (fun c_20 => ?_)
      · skip
        refine lv_aload_n SS.1 SS.2.1 dX1_enter_24 rfl (lv_at hl 0 rfl) ?_
        refine j_get SS hG hP 7 (v := .int (J (u.2.2.2 25))) (C := RX1) (T := TX1) (N := 4) rfl rfl inX1 2 (by decide) (ref := "GridPolygons$Coarse") kw_373 rfl rfl dX1_enter_25 ?_
        refine lv_istore_n (lv' := [(3, .int (J (u.2.2.2 25))), (0, .ref (q 7)), (1, .long set)]) SS.1 SS.2.1 dX1_enter_28 rfl hl (by decide) rfl (fun ls hl => ?_)
        have L_29 : ∀ (nn : Nat) (at9 : Int) (w1 : Nat → Int64) (H : Heap) (locs : List Loc) (hP : va_P D.1 j_cl (cW D q (sL u 6 w1)) H) (hS : va_S A st.heap H locs) (ls : Array Slot) (hl : lv_has ls 4 [(0, .ref (q 7)), (1, .long set), (3, .int (J at9))]) (i29_0 : 0 ≤ at9 ∧ at9 ≤ 79), at9.toNat < nn → W pr l en (headSpec (jw yX1_enter cX1_enter 4 none) (jr 2 44)).room st mi (([.ref (q 7), .long set] : List Value).toArray) below meth co H locs 0 0 (MQ below (jWv (fun u' => ∃ s6 : Nat → Int64, ∃ n : Int, u' = (sV (sL u 6 s6) 25 n) ∧ (0 ≤ n ∧ n ≤ 80)) (fun u' H => va_P D.1 j_cl (cW D q u') H) A) (([.ref (q 7), .long set] : List Value).toArray) st 0 0 A) (F0 mi 29 ls []) := by
          intro nn
          induction nn with
          | zero => intros; omega
          | succ nn ih_29 =>
            intro at9 w1 H locs hP hS ls hl i29_0 hm
            refine lv_iload_n SS.1 SS.2.1 dX1_enter_29 rfl (lv_at hl 2 rfl) ?_
            refine j_if_le SS (tgt := 66) (x := at9) dX1_enter_30 (by decide) (by omega) (fun c_30 => ?_) (fun c_30 => ?_)
            · skip
              refine lv_aload_n SS.1 SS.2.1 dX1_enter_66 rfl (lv_at hl 0 rfl) ?_
              refine j_get SS hG hP 7 (v := .ref (q 73)) (C := RX1) (T := TX1) (N := 4) rfl rfl inX1 1 (by decide) (ref := "GridPolygons$Coarse") kw_372 rfl rfl dX1_enter_67 ?_
              refine lv_iload_n SS.1 SS.2.1 dX1_enter_70 rfl (lv_at hl 2 rfl) ?_
              refine lv_lload_n SS.1 SS.2.1 dX1_enter_71 rfl (lv_at hl 1 rfl) ?_
              refine j_last SS hG hP (cW_D hD) hS 73 (n := 80) (f := w1) rfl (z := at9) (v := set) (by omega) (by omega) dX1_enter_72 (ws' := (cW D q (sL u 6 (vp_updL w1 (at9).toNat set)))) rfl (fun H locs hP hS => ?_)
              refine lv_aload_n SS.1 SS.2.1 dX1_enter_73 rfl (lv_at hl 0 rfl) ?_
              refine lv_dup SS.1 SS.2.1 dX1_enter_74 rfl ?_
              refine j_get SS hG hP 7 (v := .int (J (u.2.2.2 25))) (C := RX1) (T := TX1) (N := 4) rfl rfl inX1 2 (by decide) (ref := "GridPolygons$Coarse") kw_373 rfl rfl dX1_enter_75 ?_
              refine j_iconst SS dX1_enter_78 ?_
              refine j_iadd SS (x := (u.2.2.2 25)) (y := 1) dX1_enter_79 ?_
              refine j_put SS hG hP (cW_D hD) hS 7 (v := .int (J ((u.2.2.2 25) + 1))) (ty := .int) (C := RX1) (T := TX1) (N := 4) rfl rfl inX1 tyX1 tyX1_ok nmX1 2 (by decide) (ref := "GridPolygons$Coarse") kw_373 rfl rfl (by decide +kernel) rfl rfl (Nat.le_of_ble_eq_true rfl) dX1_enter_80 (ws' := (cW D q (sV (sL u 6 (vp_updL w1 (at9).toNat set)) 25 ((u.2.2.2 25) + 1)))) rfl (fun H locs hP hS => ?_)
              exact W.vret SS.1 SS.2.1 hr (fun t0 ht hW => ⟨⟨(sV (sL u 6 (vp_updL w1 (at9).toNat set)) 25 ((u.2.2.2 25) + 1)), rfl, (⟨(vp_updL w1 (at9).toNat set), ((u.2.2.2 25) + 1), rfl, by omega⟩), by show va_P D.1 j_cl (cW D q (sV (sL u 6 (vp_updL w1 (at9).toNat set)) 25 ((u.2.2.2 25) + 1))) t0.heap; rw [ht]; first | exact hP | (simp only [sI_id, sL_id, sC_id, sX_id, sY_id, sH_id, sT_id, sV_id]; exact hP)⟩, hS.F ht⟩) hS.2.2 dX1_enter_83 hlk
            · skip
              refine lv_aload_n SS.1 SS.2.1 dX1_enter_33 rfl (lv_at hl 0 rfl) ?_
              refine j_get SS hG hP 7 (v := .ref (q 73)) (C := RX1) (T := TX1) (N := 4) rfl rfl inX1 1 (by decide) (ref := "GridPolygons$Coarse") kw_372 rfl rfl dX1_enter_34 ?_
              refine lv_iload_n SS.1 SS.2.1 dX1_enter_37 rfl (lv_at hl 2 rfl) ?_
              refine j_iconst SS dX1_enter_38 ?_
              refine j_isub SS (x := at9) (y := 1) dX1_enter_39 ?_
              refine j_lald SS hG hP 73 (n := 80) (f := w1) rfl (z := (at9 - 1)) (by omega) (by omega) dX1_enter_40 ?_
              refine lv_lload_n SS.1 SS.2.1 dX1_enter_41 rfl (lv_at hl 1 rfl) ?_
              refine j_lcmp SS dX1_enter_42 (fun z_42 hz_42 => ?_)
              refine j_if_ge SS (tgt := 66) (x := z_42) dX1_enter_43 (by decide) (by omega) (fun c_43 => ?_) (fun c_43 => ?_)
              · skip
                refine lv_aload_n SS.1 SS.2.1 dX1_enter_66 rfl (lv_at hl 0 rfl) ?_
                refine j_get SS hG hP 7 (v := .ref (q 73)) (C := RX1) (T := TX1) (N := 4) rfl rfl inX1 1 (by decide) (ref := "GridPolygons$Coarse") kw_372 rfl rfl dX1_enter_67 ?_
                refine lv_iload_n SS.1 SS.2.1 dX1_enter_70 rfl (lv_at hl 2 rfl) ?_
                refine lv_lload_n SS.1 SS.2.1 dX1_enter_71 rfl (lv_at hl 1 rfl) ?_
                refine j_last SS hG hP (cW_D hD) hS 73 (n := 80) (f := w1) rfl (z := at9) (v := set) (by omega) (by omega) dX1_enter_72 (ws' := (cW D q (sL u 6 (vp_updL w1 (at9).toNat set)))) rfl (fun H locs hP hS => ?_)
                refine lv_aload_n SS.1 SS.2.1 dX1_enter_73 rfl (lv_at hl 0 rfl) ?_
                refine lv_dup SS.1 SS.2.1 dX1_enter_74 rfl ?_
                refine j_get SS hG hP 7 (v := .int (J (u.2.2.2 25))) (C := RX1) (T := TX1) (N := 4) rfl rfl inX1 2 (by decide) (ref := "GridPolygons$Coarse") kw_373 rfl rfl dX1_enter_75 ?_
                refine j_iconst SS dX1_enter_78 ?_
                refine j_iadd SS (x := (u.2.2.2 25)) (y := 1) dX1_enter_79 ?_
                refine j_put SS hG hP (cW_D hD) hS 7 (v := .int (J ((u.2.2.2 25) + 1))) (ty := .int) (C := RX1) (T := TX1) (N := 4) rfl rfl inX1 tyX1 tyX1_ok nmX1 2 (by decide) (ref := "GridPolygons$Coarse") kw_373 rfl rfl (by decide +kernel) rfl rfl (Nat.le_of_ble_eq_true rfl) dX1_enter_80 (ws' := (cW D q (sV (sL u 6 (vp_updL w1 (at9).toNat set)) 25 ((u.2.2.2 25) + 1)))) rfl (fun H locs hP hS => ?_)
                exact W.vret SS.1 SS.2.1 hr (fun t0 ht hW => ⟨⟨(sV (sL u 6 (vp_updL w1 (at9).toNat set)) 25 ((u.2.2.2 25) + 1)), rfl, (⟨(vp_updL w1 (at9).toNat set), ((u.2.2.2 25) + 1), rfl, by omega⟩), by show va_P D.1 j_cl (cW D q (sV (sL u 6 (vp_updL w1 (at9).toNat set)) 25 ((u.2.2.2 25) + 1))) t0.heap; rw [ht]; first | exact hP | (simp only [sI_id, sL_id, sC_id, sX_id, sY_id, sH_id, sT_id, sV_id]; exact hP)⟩, hS.F ht⟩) hS.2.2 dX1_enter_83 hlk
              · skip
                refine lv_aload_n SS.1 SS.2.1 dX1_enter_46 rfl (lv_at hl 0 rfl) ?_
                refine j_get SS hG hP 7 (v := .ref (q 73)) (C := RX1) (T := TX1) (N := 4) rfl rfl inX1 1 (by decide) (ref := "GridPolygons$Coarse") kw_372 rfl rfl dX1_enter_47 ?_
                refine lv_iload_n SS.1 SS.2.1 dX1_enter_50 rfl (lv_at hl 2 rfl) ?_
                refine lv_aload_n SS.1 SS.2.1 dX1_enter_51 rfl (lv_at hl 0 rfl) ?_
                refine j_get SS hG hP 7 (v := .ref (q 73)) (C := RX1) (T := TX1) (N := 4) rfl rfl inX1 1 (by decide) (ref := "GridPolygons$Coarse") kw_372 rfl rfl dX1_enter_52 ?_
                refine lv_iload_n SS.1 SS.2.1 dX1_enter_55 rfl (lv_at hl 2 rfl) ?_
                refine j_iconst SS dX1_enter_56 ?_
                refine j_isub SS (x := at9) (y := 1) dX1_enter_57 ?_
                refine j_lald SS hG hP 73 (n := 80) (f := w1) rfl (z := (at9 - 1)) (by omega) (by omega) dX1_enter_58 ?_
                refine j_last SS hG hP (cW_D hD) hS 73 (n := 80) (f := w1) rfl (z := at9) (v := (w1 ((at9 - 1)).toNat)) (by omega) (by omega) dX1_enter_59 (ws' := (cW D q (sL u 6 (vp_updL w1 (at9).toNat (w1 ((at9 - 1)).toNat))))) rfl (fun H locs hP hS => ?_)
                refine lv_iinc (v := J (at9 + (-1))) (lv' := [(3, .int (J (at9 + (-1)))), (0, .ref (q 7)), (1, .long set)]) SS.1 SS.2.1 dX1_enter_60 hl (k := 2) rfl (J_add _ _) (by decide) rfl (fun ls hl => ?_)
                refine lv_goto (tgt := 29) SS.1 SS.2.1 dX1_enter_63 (by decide) ?_
                exact ih_29 (at9 + (-1)) (vp_updL w1 (at9).toNat (w1 ((at9 - 1)).toNat)) _ _ hP hS ls (lv_sub hl [1, 2, 0] rfl) (by omega) (by omega)
        exact L_29 ((u.2.2.2 25).toNat + 1) (u.2.2.2 25) (u.2.2.1 6) _ _ hP hS ls (lv_sub hl [1, 2, 0] rfl) (by omega) (Nat.lt_succ_self _)
      · skip
        exact W.vret SS.1 SS.2.1 hr (fun t0 ht hW => ⟨⟨(sV (sL u 6 (u.2.2.1 6)) 25 (u.2.2.2 25)), rfl, (⟨(u.2.2.1 6), (u.2.2.2 25), rfl, by omega⟩), by show va_P D.1 j_cl (cW D q (sV (sL u 6 (u.2.2.1 6)) 25 (u.2.2.2 25))) t0.heap; rw [ht]; first | exact hP | (simp only [sI_id, sL_id, sC_id, sX_id, sY_id, sH_id, sT_id, sV_id]; exact hP)⟩, hS.F ht⟩) hS.2.2 dX1_enter_23 hlk

set_option maxHeartbeats 4000000 in
set_option maxRecDepth 100000 in
theorem c_X1_memberOf (l : Launch) (D : JD) (q : Nat → Nat) (u : CS) (pc9 : Int) (w9 : Int) (p0 : RB 40 u 10) (p1 : -2147483648 ≤ pc9 ∧ pc9 ≤ 2147483647) (p2 : 0 ≤ w9 ∧ w9 ≤ 2147483647) : Met l yX1_memberOf (jw yX1_memberOf cX1_memberOf 5 (some .int)) (jr 1 21) (jP [.ref (q 7), .int (J pc9), .int (J w9)] D (fun H => va_P D.1 j_cl (cW D q u) H)) (jRi (fun z => -1 ≤ z ∧ z ≤ 39)) 0 0 (fun _ => False) := by
  refine Met.ofW (cc := cX1_memberOf) (maxL := 5) (ret := (some .int)) (by decide) rfl ?_
  intro pr en st mi args below meth co s₁ B hml hv
  obtain ⟨rfl, hG, hP⟩ := hv
  have hr := B.returns
  have hlk := B.notSynchronized
  have SS : jS pr mi co cX1_memberOf 5 st _ RX1 := ⟨B.exec, B.bytes, hml, findClass_of_methodNamed B.named, fun w hw => atoms_spec (ws := (jw yX1_memberOf cX1_memberOf 5 (some .int))) B.pre w (List.mem_cons_of_mem _ hw)⟩
  have hl := lv_entry ([.ref (q 7), .int (J pc9), .int (J w9)]) (n := 5) (Nat.le_of_ble_eq_true rfl)
  rw [lg_entry_eq]
  generalize (lg_sl ([.ref (q 7), .int (J pc9), .int (J w9)]) ++ List.replicate (5 - (lg_sl ([.ref (q 7), .int (J pc9), .int (J w9)])).length) Slot.unset).toArray = ls at hl ⊢
  have hl : lv_has ls 5 [(0, .ref (q 7)), (1, .int (J pc9)), (2, .int (J w9))] := hl
  have hc := p0.1
  have hrk : (rl 10 : Int) = 40 := rfl
  refine lv_iload_n SS.1 SS.2.1 dX1_memberOf_0 rfl (lv_at hl 2 rfl) ?_
  refine lv_istore_n (lv' := [(3, .int (J w9)), (0, .ref (q 7)), (1, .int (J pc9)), (2, .int (J w9))]) SS.1 SS.2.1 dX1_memberOf_1 rfl hl (by decide) rfl (fun ls hl => ?_)
  refine j_iconst SS dX1_memberOf_2 ?_
  refine lv_istore (lv' := [(4, .int (J 0)), (3, .int (J w9)), (0, .ref (q 7)), (1, .int (J pc9)), (2, .int (J w9))]) SS.1 SS.2.1 dX1_memberOf_3 hl (by decide) rfl (fun ls hl => ?_)
  have L_5 : ∀ (nn : Nat) (lf : Int) (k : Int) (ls : Array Slot) (hl : lv_has ls 5 [(0, .ref (q 7)), (1, .int (J pc9)), (2, .int (J w9)), (3, .int (J lf)), (4, .int (J k))]) (i5_0 : 0 ≤ lf ∧ lf ≤ 2147483647) (i5_1 : 0 ≤ k ∧ k ≤ 40), ((40 : Int) - k).toNat < nn → W pr l en (headSpec (jw yX1_memberOf cX1_memberOf 5 (some .int)) (jr 1 21)).room st mi (([.ref (q 7), .int (J pc9), .int (J w9)] : List Value).toArray) below meth co st.heap [] 0 0 (MQ below (jRi (fun z => -1 ≤ z ∧ z ≤ 39)) (([.ref (q 7), .int (J pc9), .int (J w9)] : List Value).toArray) st 0 0 (fun _ => False)) (F0 mi 5 ls []) := by
    intro nn
    induction nn with
    | zero => intros; omega
    | succ nn ih_5 =>
      intro lf k ls hl i5_0 i5_1 hm
      refine lv_iload SS.1 SS.2.1 dX1_memberOf_5 (lv_at hl 4 rfl) ?_
      refine lv_aload_n SS.1 SS.2.1 dX1_memberOf_7 rfl (lv_at hl 0 rfl) ?_
      refine j_get SS hG hP 7 (v := .ref (q (9 + 5 * 10))) (C := RX1) (T := TX1) (N := 4) rfl rfl inX1 0 (by decide) (ref := "GridPolygons$Coarse") kw_371 rfl rfl dX1_memberOf_8 ?_
      refine j_getS SS hG hP (9 + 5 * 10) (v := .int (J (u.1.2.2.1 10))) (C := RX6) (T := TX6) (N := 3) (cw_pts (by omega)) rfl inX6 2 (by decide) (ref := "GridPolygons$Points") kw_138 kw_134 rfl dX1_memberOf_11 ?_
      refine j_icmp_ge SS (tgt := 49) (x := k) (y := (u.1.2.2.1 10)) dX1_memberOf_14 (by decide) (by omega) (by omega) (fun c_14 => ?_) (fun c_14 => ?_)
      · skip
        refine j_iconst SS dX1_memberOf_49 ?_
        exact W.iret SS.1 SS.2.1 hr (fun t0 ht hW => ⟨_, rfl, ⟨(-1), rfl, (by omega)⟩, ht⟩) (fun _ h => nomatch h) dX1_memberOf_50 hlk
      · skip
        refine lv_aload_n SS.1 SS.2.1 dX1_memberOf_17 rfl (lv_at hl 0 rfl) ?_
        refine lv_iload_n SS.1 SS.2.1 dX1_memberOf_18 rfl (lv_at hl 1 rfl) ?_
        refine j_vRl SS (As := [.int (J pc9)]) (rest := []) (c_X1_setOf l D q u  pc9 (show -2147483648 ≤ pc9 ∧ pc9 ≤ 2147483647 from (p1))) mf_X1_setOf kw_1018 hG hP hP (ci := 1) (q0 := 7) rfl rfl rfl rfl hl.1 ⟨⟨Nat.le_of_ble_eq_true rfl, Nat.le_of_ble_eq_true rfl⟩, Nat.le_of_ble_eq_true rfl, Nat.le_refl _, Nat.le_refl _⟩ rfl dX1_memberOf_19 (fun x_19 h_19 => ?_)
        refine lv_iload SS.1 SS.2.1 dX1_memberOf_22 (lv_at hl 4 rfl) ?_
        refine j_sRl SS (As := [.int (J k)]) (rest := [.long x_19]) (c_X1_bit l D  k ) mf_X1_bit kw_1007 hG trivial rfl hl.1 ⟨⟨Nat.le_of_ble_eq_true rfl, Nat.le_of_ble_eq_true rfl⟩, Nat.le_of_ble_eq_true rfl, Nat.le_refl _, Nat.le_refl _⟩ rfl dX1_memberOf_24 (fun x_24 h_24 => ?_)
        have h_24 : True := h_24
        refine lv_land SS.1 SS.2.1 dX1_memberOf_27 ?_
        refine lv_lconst (v := 0) SS.1 SS.2.1 dX1_memberOf_28 (by decide +kernel) ?_
        refine j_lcmp SS dX1_memberOf_29 (fun z_29 hz_29 => ?_)
        refine j_if_eq SS (tgt := 43) (x := z_29) dX1_memberOf_30 (by decide) (by omega) (fun c_30 => ?_) (fun c_30 => ?_)
        · skip
          refine lv_iinc (v := J (k + 1)) (lv' := [(4, .int (J (k + 1))), (0, .ref (q 7)), (1, .int (J pc9)), (2, .int (J w9)), (3, .int (J lf))]) SS.1 SS.2.1 dX1_memberOf_43 hl (k := 4) rfl (J_add _ _) (by decide) rfl (fun ls hl => ?_)
          refine lv_goto (tgt := 5) SS.1 SS.2.1 dX1_memberOf_46 (by decide) ?_
          exact ih_5 lf (k + 1) ls (lv_sub hl [1, 2, 3, 4, 0] rfl) (by omega) (by omega) (by omega)
        · skip
          refine lv_iload_n SS.1 SS.2.1 dX1_memberOf_33 rfl (lv_at hl 3 rfl) ?_
          refine j_if_ne SS (tgt := 40) (x := lf) dX1_memberOf_34 (by decide) (by omega) (fun c_34 => ?_) (fun c_34 => ?_)
          · skip
            refine lv_iinc (v := J (lf + (-1))) (lv' := [(3, .int (J (lf + (-1)))), (0, .ref (q 7)), (1, .int (J pc9)), (2, .int (J w9)), (4, .int (J k))]) SS.1 SS.2.1 dX1_memberOf_40 hl (k := 3) rfl (J_add _ _) (by decide) rfl (fun ls hl => ?_)
            refine lv_iinc (v := J (k + 1)) (lv' := [(4, .int (J (k + 1))), (3, .int (J (lf + (-1)))), (0, .ref (q 7)), (1, .int (J pc9)), (2, .int (J w9))]) SS.1 SS.2.1 dX1_memberOf_43 hl (k := 4) rfl (J_add _ _) (by decide) rfl (fun ls hl => ?_)
            refine lv_goto (tgt := 5) SS.1 SS.2.1 dX1_memberOf_46 (by decide) ?_
            exact ih_5 (lf + (-1)) (k + 1) ls (lv_sub hl [2, 3, 4, 1, 0] rfl) (by omega) (by omega) (by omega)
          · skip
            refine lv_iload SS.1 SS.2.1 dX1_memberOf_37 (lv_at hl 4 rfl) ?_
            exact W.iret SS.1 SS.2.1 hr (fun t0 ht hW => ⟨_, rfl, ⟨k, rfl, (by omega)⟩, ht⟩) (fun _ h => nomatch h) dX1_memberOf_39 hlk
  exact L_5 (((40 : Int) - (0 : Int)).toNat + 1) w9 0 ls (lv_sub hl [2, 3, 4, 1, 0] rfl) (by omega) (by omega) (Nat.lt_succ_self _)

set_option maxHeartbeats 4000000 in
set_option maxRecDepth 100000 in
theorem c_X1_seen (l : Launch) (D : JD) (q : Nat → Nat) (u : CS) (p0 : 0 ≤ u.2.2.2 25 ∧ u.2.2.2 25 ≤ 80) : Met l yX1_seen (jw yX1_seen cX1_seen 4 (some .int)) (jr 1 21) (jP [.ref (q 7)] D (fun H => va_P D.1 j_cl (cW D q u) H)) (jRi (fun z => True)) 0 0 (fun _ => False) := by
  refine Met.ofW (cc := cX1_seen) (maxL := 4) (ret := (some .int)) (by decide) rfl ?_
  intro pr en st mi args below meth co s₁ B hml hv
  obtain ⟨rfl, hG, hP⟩ := hv
  have hr := B.returns
  have hlk := B.notSynchronized
  have SS : jS pr mi co cX1_seen 4 st _ RX1 := ⟨B.exec, B.bytes, hml, findClass_of_methodNamed B.named, fun w hw => atoms_spec (ws := (jw yX1_seen cX1_seen 4 (some .int))) B.pre w (List.mem_cons_of_mem _ hw)⟩
  have hl := lv_entry ([.ref (q 7)]) (n := 4) (Nat.le_of_ble_eq_true rfl)
  rw [lg_entry_eq]
  generalize (lg_sl ([.ref (q 7)]) ++ List.replicate (4 - (lg_sl ([.ref (q 7)])).length) Slot.unset).toArray = ls at hl ⊢
  have hl : lv_has ls 4 [(0, .ref (q 7))] := hl
  refine lv_lconst (v := 0) SS.1 SS.2.1 dX1_seen_0 (by decide +kernel) ?_
  refine lv_lstore_n (lv' := [(1, .long 0), (0, .ref (q 7))]) SS.1 SS.2.1 dX1_seen_1 rfl hl (by decide) rfl (fun ls hl => ?_)
  refine j_iconst SS dX1_seen_2 ?_
  refine lv_istore_n (lv' := [(3, .int (J 0)), (1, .long 0), (0, .ref (q 7))]) SS.1 SS.2.1 dX1_seen_3 rfl hl (by decide) rfl (fun ls hl => ?_)
  have L_4 : ∀ (nn : Nat) (al : Int64) (k : Int) (ls : Array Slot) (hl : lv_has ls 4 [(0, .ref (q 7)), (1, .long al), (3, .int (J k))]) (i4_0 : 0 ≤ k ∧ k ≤ 80), ((80 : Int) - k).toNat < nn → W pr l en (headSpec (jw yX1_seen cX1_seen 4 (some .int)) (jr 1 21)).room st mi (([.ref (q 7)] : List Value).toArray) below meth co st.heap [] 0 0 (MQ below (jRi (fun z => True)) (([.ref (q 7)] : List Value).toArray) st 0 0 (fun _ => False)) (F0 mi 4 ls []) := by
    intro nn
    induction nn with
    | zero => intros; omega
    | succ nn ih_4 =>
      intro al k ls hl i4_0 hm
      refine lv_iload_n SS.1 SS.2.1 dX1_seen_4 rfl (lv_at hl 2 rfl) ?_
      refine lv_aload_n SS.1 SS.2.1 dX1_seen_5 rfl (lv_at hl 0 rfl) ?_
      refine j_get SS hG hP 7 (v := .int (J (u.2.2.2 25))) (C := RX1) (T := TX1) (N := 4) rfl rfl inX1 2 (by decide) (ref := "GridPolygons$Coarse") kw_373 rfl rfl dX1_seen_6 ?_
      refine j_icmp_ge SS (tgt := 26) (x := k) (y := (u.2.2.2 25)) dX1_seen_9 (by decide) (by omega) (by omega) (fun c_9 => ?_) (fun c_9 => ?_)
      · skip
        refine lv_lload_n SS.1 SS.2.1 dX1_seen_26 rfl (lv_at hl 1 rfl) ?_
        refine j_sRi SS (As := [.long al]) (rest := []) (c_J13_bitCount_95d88 l D  al ) mf_J13_bitCount_95d88 kw_1026 hG trivial rfl hl.1 ⟨⟨Nat.le_of_ble_eq_true rfl, Nat.le_of_ble_eq_true rfl⟩, Nat.le_of_ble_eq_true rfl, Nat.le_refl _, Nat.le_refl _⟩ rfl dX1_seen_27 (fun z_27 h_27 => ?_)
        have h_27 : 0 ≤ z_27 ∧ z_27 ≤ 127 := h_27
        exact W.iret SS.1 SS.2.1 hr (fun t0 ht hW => ⟨_, rfl, ⟨z_27, rfl, (trivial)⟩, ht⟩) (fun _ h => nomatch h) dX1_seen_30 hlk
      · skip
        refine lv_lload_n SS.1 SS.2.1 dX1_seen_12 rfl (lv_at hl 1 rfl) ?_
        refine lv_aload_n SS.1 SS.2.1 dX1_seen_13 rfl (lv_at hl 0 rfl) ?_
        refine lv_iload_n SS.1 SS.2.1 dX1_seen_14 rfl (lv_at hl 2 rfl) ?_
        refine j_vRl SS (As := [.int (J k)]) (rest := [.long al]) (c_X1_setOf l D q u  k (show -2147483648 ≤ k ∧ k ≤ 2147483647 from (by omega))) mf_X1_setOf kw_1018 hG hP hP (ci := 1) (q0 := 7) rfl rfl rfl rfl hl.1 ⟨⟨Nat.le_of_ble_eq_true rfl, Nat.le_of_ble_eq_true rfl⟩, Nat.le_of_ble_eq_true rfl, Nat.le_refl _, Nat.le_refl _⟩ rfl dX1_seen_15 (fun x_15 h_15 => ?_)
        refine lv_lor SS.1 SS.2.1 dX1_seen_18 ?_
        refine lv_lstore_n (lv' := [(1, .long (al ||| x_15)), (0, .ref (q 7)), (3, .int (J k))]) SS.1 SS.2.1 dX1_seen_19 rfl hl (by decide) rfl (fun ls hl => ?_)
        refine lv_iinc (v := J (k + 1)) (lv' := [(3, .int (J (k + 1))), (1, .long (al ||| x_15)), (0, .ref (q 7))]) SS.1 SS.2.1 dX1_seen_20 hl (k := 2) rfl (J_add _ _) (by decide) rfl (fun ls hl => ?_)
        refine lv_goto (tgt := 4) SS.1 SS.2.1 dX1_seen_23 (by decide) ?_
        exact ih_4 (al ||| x_15) (k + 1) ls (lv_sub hl [2, 1, 0] rfl) (by omega) (by omega)
  exact L_4 (((80 : Int) - (0 : Int)).toNat + 1) 0 0 ls (lv_sub hl [2, 1, 0] rfl) (by omega) (Nat.lt_succ_self _)

set_option maxHeartbeats 4000000 in
set_option maxRecDepth 100000 in
theorem c_X1_unitTriangles (l : Launch) (D : JD) (q : Nat → Nat) (u : CS) (p0 : RB 40 u 10) (p1 : 0 ≤ u.2.2.2 25 ∧ u.2.2.2 25 ≤ 80) : Met l yX1_unitTriangles (jw yX1_unitTriangles cX1_unitTriangles 3 (some .int)) (jr 2 45) (jP [.ref (q 7)] D (fun H => va_P D.1 j_cl (cW D q u) H)) (jRi (fun z => True)) 0 0 (fun _ => False) := by
  refine Met.ofW (cc := cX1_unitTriangles) (maxL := 3) (ret := (some .int)) (by decide) rfl ?_
  intro pr en st mi args below meth co s₁ B hml hv
  obtain ⟨rfl, hG, hP⟩ := hv
  have hr := B.returns
  have hlk := B.notSynchronized
  have SS : jS pr mi co cX1_unitTriangles 3 st _ RX1 := ⟨B.exec, B.bytes, hml, findClass_of_methodNamed B.named, fun w hw => atoms_spec (ws := (jw yX1_unitTriangles cX1_unitTriangles 3 (some .int))) B.pre w (List.mem_cons_of_mem _ hw)⟩
  have hl := lv_entry ([.ref (q 7)]) (n := 3) (Nat.le_of_ble_eq_true rfl)
  rw [lg_entry_eq]
  generalize (lg_sl ([.ref (q 7)]) ++ List.replicate (3 - (lg_sl ([.ref (q 7)])).length) Slot.unset).toArray = ls at hl ⊢
  have hl : lv_has ls 3 [(0, .ref (q 7))] := hl
  refine j_iconst SS dX1_unitTriangles_0 ?_
  refine lv_istore_n (lv' := [(1, .int (J 0)), (0, .ref (q 7))]) SS.1 SS.2.1 dX1_unitTriangles_1 rfl hl (by decide) rfl (fun ls hl => ?_)
  refine j_iconst SS dX1_unitTriangles_2 ?_
  refine lv_istore_n (lv' := [(2, .int (J 0)), (1, .int (J 0)), (0, .ref (q 7))]) SS.1 SS.2.1 dX1_unitTriangles_3 rfl hl (by decide) rfl (fun ls hl => ?_)
  have L_4 : ∀ (nn : Nat) (fd : Int) (k : Int) (ls : Array Slot) (hl : lv_has ls 3 [(0, .ref (q 7)), (1, .int (J fd)), (2, .int (J k))]) (i4_0 : 0 ≤ k ∧ k ≤ 80), ((80 : Int) - k).toNat < nn → W pr l en (headSpec (jw yX1_unitTriangles cX1_unitTriangles 3 (some .int)) (jr 2 45)).room st mi (([.ref (q 7)] : List Value).toArray) below meth co st.heap [] 0 0 (MQ below (jRi (fun z => True)) (([.ref (q 7)] : List Value).toArray) st 0 0 (fun _ => False)) (F0 mi 4 ls []) := by
    intro nn
    induction nn with
    | zero => intros; omega
    | succ nn ih_4 =>
      intro fd k ls hl i4_0 hm
      refine lv_iload_n SS.1 SS.2.1 dX1_unitTriangles_4 rfl (lv_at hl 2 rfl) ?_
      refine lv_aload_n SS.1 SS.2.1 dX1_unitTriangles_5 rfl (lv_at hl 0 rfl) ?_
      refine j_get SS hG hP 7 (v := .int (J (u.2.2.2 25))) (C := RX1) (T := TX1) (N := 4) rfl rfl inX1 2 (by decide) (ref := "GridPolygons$Coarse") kw_373 rfl rfl dX1_unitTriangles_6 ?_
      refine j_icmp_ge SS (tgt := 62) (x := k) (y := (u.2.2.2 25)) dX1_unitTriangles_9 (by decide) (by omega) (by omega) (fun c_9 => ?_) (fun c_9 => ?_)
      · skip
        refine lv_iload_n SS.1 SS.2.1 dX1_unitTriangles_62 rfl (lv_at hl 1 rfl) ?_
        exact W.iret SS.1 SS.2.1 hr (fun t0 ht hW => ⟨_, rfl, ⟨fd, rfl, (trivial)⟩, ht⟩) (fun _ h => nomatch h) dX1_unitTriangles_63 hlk
      · skip
        refine lv_aload_n SS.1 SS.2.1 dX1_unitTriangles_12 rfl (lv_at hl 0 rfl) ?_
        refine lv_iload_n SS.1 SS.2.1 dX1_unitTriangles_13 rfl (lv_at hl 2 rfl) ?_
        refine j_vRi SS (As := [.int (J k)]) (rest := []) (c_X1_sizeOf l D q u  k (show -2147483648 ≤ k ∧ k ≤ 2147483647 from (by omega))) mf_X1_sizeOf kw_1036 hG hP hP (ci := 1) (q0 := 7) rfl rfl rfl rfl hl.1 ⟨⟨Nat.le_of_ble_eq_true rfl, Nat.le_of_ble_eq_true rfl⟩, Nat.le_of_ble_eq_true rfl, Nat.le_refl _, Nat.le_refl _⟩ rfl dX1_unitTriangles_14 (fun z_14 h_14 => ?_)
        have h_14 : 0 ≤ z_14 ∧ z_14 ≤ 127 := h_14
        refine j_iconst SS dX1_unitTriangles_17 ?_
        refine j_icmp_ne SS (tgt := 56) (x := z_14) (y := 3) dX1_unitTriangles_18 (by decide) (by omega) (by decide) (fun c_18 => ?_) (fun c_18 => ?_)
        · skip
          refine lv_iinc (v := J (k + 1)) (lv' := [(2, .int (J (k + 1))), (0, .ref (q 7)), (1, .int (J fd))]) SS.1 SS.2.1 dX1_unitTriangles_56 hl (k := 2) rfl (J_add _ _) (by decide) rfl (fun ls hl => ?_)
          refine lv_goto (tgt := 4) SS.1 SS.2.1 dX1_unitTriangles_59 (by decide) ?_
          exact ih_4 fd (k + 1) ls (lv_sub hl [1, 2, 0] rfl) (by omega) (by omega)
        · skip
          refine lv_aload_n SS.1 SS.2.1 dX1_unitTriangles_21 rfl (lv_at hl 0 rfl) ?_
          refine j_get SS hG hP 7 (v := .ref (q (9 + 5 * 10))) (C := RX1) (T := TX1) (N := 4) rfl rfl inX1 0 (by decide) (ref := "GridPolygons$Coarse") kw_371 rfl rfl dX1_unitTriangles_22 ?_
          refine lv_aload_n SS.1 SS.2.1 dX1_unitTriangles_25 rfl (lv_at hl 0 rfl) ?_
          refine lv_iload_n SS.1 SS.2.1 dX1_unitTriangles_26 rfl (lv_at hl 2 rfl) ?_
          refine j_iconst SS dX1_unitTriangles_27 ?_
          refine j_vRi SS (As := [.int (J k), .int (J 0)]) (rest := [.ref (q (9 + 5 * 10))]) (c_X1_memberOf l D q u  k 0 (show RB 40 u 10 from (p0)) (show -2147483648 ≤ k ∧ k ≤ 2147483647 from (by omega)) (show 0 ≤ (0 : Int) ∧ (0 : Int) ≤ 2147483647 from (by omega))) mf_X1_memberOf kw_1040 hG hP hP (ci := 1) (q0 := 7) rfl rfl rfl rfl hl.1 ⟨⟨Nat.le_of_ble_eq_true rfl, Nat.le_of_ble_eq_true rfl⟩, Nat.le_of_ble_eq_true rfl, Nat.le_refl _, Nat.le_refl _⟩ rfl dX1_unitTriangles_28 (fun z_28 h_28 => ?_)
          have h_28 : -1 ≤ z_28 ∧ z_28 ≤ 39 := h_28
          refine lv_aload_n SS.1 SS.2.1 dX1_unitTriangles_31 rfl (lv_at hl 0 rfl) ?_
          refine lv_iload_n SS.1 SS.2.1 dX1_unitTriangles_32 rfl (lv_at hl 2 rfl) ?_
          refine j_iconst SS dX1_unitTriangles_33 ?_
          refine j_vRi SS (As := [.int (J k), .int (J 1)]) (rest := [.int (J z_28), .ref (q (9 + 5 * 10))]) (c_X1_memberOf l D q u  k 1 (show RB 40 u 10 from (p0)) (show -2147483648 ≤ k ∧ k ≤ 2147483647 from (by omega)) (show 0 ≤ (1 : Int) ∧ (1 : Int) ≤ 2147483647 from (by omega))) mf_X1_memberOf kw_1040 hG hP hP (ci := 1) (q0 := 7) rfl rfl rfl rfl hl.1 ⟨⟨Nat.le_of_ble_eq_true rfl, Nat.le_of_ble_eq_true rfl⟩, Nat.le_of_ble_eq_true rfl, Nat.le_refl _, Nat.le_refl _⟩ rfl dX1_unitTriangles_34 (fun z_34 h_34 => ?_)
          have h_34 : -1 ≤ z_34 ∧ z_34 ≤ 39 := h_34
          refine lv_aload_n SS.1 SS.2.1 dX1_unitTriangles_37 rfl (lv_at hl 0 rfl) ?_
          refine lv_iload_n SS.1 SS.2.1 dX1_unitTriangles_38 rfl (lv_at hl 2 rfl) ?_
          refine j_iconst SS dX1_unitTriangles_39 ?_
          refine j_vRi SS (As := [.int (J k), .int (J 2)]) (rest := [.int (J z_34), .int (J z_28), .ref (q (9 + 5 * 10))]) (c_X1_memberOf l D q u  k 2 (show RB 40 u 10 from (p0)) (show -2147483648 ≤ k ∧ k ≤ 2147483647 from (by omega)) (show 0 ≤ (2 : Int) ∧ (2 : Int) ≤ 2147483647 from (by omega))) mf_X1_memberOf kw_1040 hG hP hP (ci := 1) (q0 := 7) rfl rfl rfl rfl hl.1 ⟨⟨Nat.le_of_ble_eq_true rfl, Nat.le_of_ble_eq_true rfl⟩, Nat.le_of_ble_eq_true rfl, Nat.le_refl _, Nat.le_refl _⟩ rfl dX1_unitTriangles_40 (fun z_40 h_40 => ?_)
          have h_40 : -1 ≤ z_40 ∧ z_40 ≤ 39 := h_40
          refine j_vRi SS (As := [.int (J z_28), .int (J z_34), .int (J z_40)]) (rest := []) (c_X6_turn_10 l D q u  z_28 z_34 z_40 (show RB 40 u 10 from (p0)) (show -2147483648 ≤ z_28 ∧ z_28 ≤ 2147483647 from (by omega)) (show -2147483648 ≤ z_34 ∧ z_34 ≤ 2147483647 from (by omega)) (show -2147483648 ≤ z_40 ∧ z_40 ≤ 2147483647 from (by omega))) mf_X6_turn kw_996 hG hP hP (ci := 6) (q0 := (9 + 5 * 10)) rfl (cw_pts (by omega)) rfl rfl hl.1 ⟨⟨Nat.le_of_ble_eq_true rfl, Nat.le_of_ble_eq_true rfl⟩, Nat.le_of_ble_eq_true rfl, Nat.le_refl _, Nat.le_refl _⟩ rfl dX1_unitTriangles_43 (fun z_43 h_43 => ?_)
          have h_43 : -12800 ≤ z_43 ∧ z_43 ≤ 12800 := h_43
          refine j_sRi SS (As := [.int (J z_43)]) (rest := []) (c_J9_abs_0f7a4 l D  z_43 (show -2147483648 < z_43 ∧ z_43 ≤ 2147483647 from (by omega))) mf_J9_abs_0f7a4 kw_1044 hG trivial rfl hl.1 ⟨⟨Nat.le_of_ble_eq_true rfl, Nat.le_of_ble_eq_true rfl⟩, Nat.le_of_ble_eq_true rfl, Nat.le_refl _, Nat.le_refl _⟩ rfl dX1_unitTriangles_46 (fun z_46 h_46 => ?_)
          have h_46 : 0 ≤ z_46 ∧ (z_46 = z_43 ∨ z_46 = -z_43) := h_46
          refine j_iconst SS dX1_unitTriangles_49 ?_
          refine j_icmp_ne SS (tgt := 56) (x := z_46) (y := 1) dX1_unitTriangles_50 (by decide) (by omega) (by decide) (fun c_50 => ?_) (fun c_50 => ?_)
          · skip
            refine lv_iinc (v := J (k + 1)) (lv' := [(2, .int (J (k + 1))), (0, .ref (q 7)), (1, .int (J fd))]) SS.1 SS.2.1 dX1_unitTriangles_56 hl (k := 2) rfl (J_add _ _) (by decide) rfl (fun ls hl => ?_)
            refine lv_goto (tgt := 4) SS.1 SS.2.1 dX1_unitTriangles_59 (by decide) ?_
            exact ih_4 fd (k + 1) ls (lv_sub hl [1, 2, 0] rfl) (by omega) (by omega)
          · skip
            refine lv_iinc (v := J (fd + 1)) (lv' := [(1, .int (J (fd + 1))), (0, .ref (q 7)), (2, .int (J k))]) SS.1 SS.2.1 dX1_unitTriangles_53 hl (k := 1) rfl (J_add _ _) (by decide) rfl (fun ls hl => ?_)
            refine lv_iinc (v := J (k + 1)) (lv' := [(2, .int (J (k + 1))), (1, .int (J (fd + 1))), (0, .ref (q 7))]) SS.1 SS.2.1 dX1_unitTriangles_56 hl (k := 2) rfl (J_add _ _) (by decide) rfl (fun ls hl => ?_)
            refine lv_goto (tgt := 4) SS.1 SS.2.1 dX1_unitTriangles_59 (by decide) ?_
            exact ih_4 (fd + 1) (k + 1) ls (lv_sub hl [2, 1, 0] rfl) (by omega) (by omega)
  exact L_4 (((80 : Int) - (0 : Int)).toNat + 1) 0 0 ls (lv_sub hl [2, 1, 0] rfl) (by omega) (Nat.lt_succ_self _)

set_option maxHeartbeats 4000000 in
set_option maxRecDepth 100000 in
theorem c_X1_build (l : Launch) (D : JD) (q : Nat → Nat) (u : CS) (A : Nat → Prop) (hD : va_D A (cW D q u)) (i : Nat) (hi : i < 8) (p0 : RB 40 u i) (p1 : RB 40 u 10) (p2 : HB (u.1.2.2.2.1 i)) (p3 : 0 ≤ u.2.2.2 25 ∧ u.2.2.2 25 ≤ 80) (p4 : -2147483648 ≤ u.2.2.2 26 ∧ u.2.2.2 26 ≤ 2147483647) (p5 : -2147483648 ≤ u.1.2.2.2.2 i ∧ u.1.2.2.2.2 i ≤ 2147483647) : Met l yX1_build (jw yX1_build cX1_build 4 none) (jr 4 99) (jP [.ref (q 7), .ref (q (8 + 5 * i))] D (fun H => va_P D.1 j_cl (cW D q u) H)) (jWv (fun u' => ∃ n : Int, ∃ f : Nat → Int, ∃ g : Nat → Int, ∃ se : Nat → Int64, ∃ v25 : Int, ∃ v26 : Int, u' = (sY (sX (sV (sV (sL (sC u 10 n) 6 se) 25 v25) 26 v26) 10 f) 10 g) ∧ (((0 ≤ n ∧ n ≤ 40) ∧ RV 40 f g) ∧ (0 ≤ v25 ∧ v25 ≤ 80) ∧ -2147483648 ≤ v26 ∧ v26 ≤ 2147483647)) (fun u' H => va_P D.1 j_cl (cW D q u') H) A) 0 0 A := by
  refine Met.ofW (cc := cX1_build) (maxL := 4) (ret := none) (by decide) rfl ?_
  intro pr en st mi args below meth co s₁ B hml hv
  obtain ⟨rfl, hG, hP⟩ := hv
  have hr := B.returns
  have hlk := B.notSynchronized
  have SS : jS pr mi co cX1_build 4 st _ RX1 := ⟨B.exec, B.bytes, hml, findClass_of_methodNamed B.named, fun w hw => atoms_spec (ws := (jw yX1_build cX1_build 4 none)) B.pre w (List.mem_cons_of_mem _ hw)⟩
  have hl := lv_entry ([.ref (q 7), .ref (q (8 + 5 * i))]) (n := 4) (Nat.le_of_ble_eq_true rfl)
  rw [lg_entry_eq]
  generalize (lg_sl ([.ref (q 7), .ref (q (8 + 5 * i))]) ++ List.replicate (4 - (lg_sl ([.ref (q 7), .ref (q (8 + 5 * i))])).length) Slot.unset).toArray = ls at hl ⊢
  have hl : lv_has ls 4 [(0, .ref (q 7)), (1, .ref (q (8 + 5 * i)))] := hl
  have hS : va_S A st.heap st.heap [] := va_S.rf
  refine lv_aload_n SS.1 SS.2.1 dX1_build_0 rfl (lv_at hl 0 rfl) ?_
  refine j_get SS hG hP 7 (v := .int (J (u.2.2.2 26))) (C := RX1) (T := TX1) (N := 4) rfl rfl inX1 3 (by decide) (ref := "GridPolygons$Coarse") kw_375 rfl rfl dX1_build_1 ?_
  refine lv_aload_n SS.1 SS.2.1 dX1_build_4 rfl (lv_at hl 1 rfl) ?_
  refine j_get SS hG hP (8 + 5 * i) (v := .int (J (u.1.2.2.2.2 i))) (C := RX10) (T := TX10) (N := 3) (cw_shape (by omega)) rfl inX10 2 (by decide) (ref := "GridPolygons$Shape") kw_159 rfl rfl dX1_build_5 ?_
  refine j_icmp_ne SS (tgt := 12) (x := (u.2.2.2 26)) (y := (u.1.2.2.2.2 i)) dX1_build_8 (by decide) (by omega) (by omega) (fun c_8 => ?_) (fun c_8 => ?_)
  · skip
    refine lv_aload_n SS.1 SS.2.1 dX1_build_12 rfl (lv_at hl 0 rfl) ?_
    refine lv_aload_n SS.1 SS.2.1 dX1_build_13 rfl (lv_at hl 1 rfl) ?_
    refine j_get SS hG hP (8 + 5 * i) (v := .int (J (u.1.2.2.2.2 i))) (C := RX10) (T := TX10) (N := 3) (cw_shape (by omega)) rfl inX10 2 (by decide) (ref := "GridPolygons$Shape") kw_159 rfl rfl dX1_build_14 ?_
    refine j_put SS hG hP (cW_D hD) hS 7 (v := .int (J (u.1.2.2.2.2 i))) (ty := .int) (C := RX1) (T := TX1) (N := 4) rfl rfl inX1 tyX1 tyX1_ok nmX1 3 (by decide) (ref := "GridPolygons$Coarse") kw_375 rfl rfl (by decide +kernel) rfl rfl (Nat.le_of_ble_eq_true rfl) dX1_build_17 (ws' := (cW D q (sV u 26 (u.1.2.2.2.2 i)))) rfl (fun H locs hP hS => ?_)
    refine lv_aload_n SS.1 SS.2.1 dX1_build_20 rfl (lv_at hl 0 rfl) ?_
    refine j_get SS hG hP 7 (v := .ref (q (9 + 5 * 10))) (C := RX1) (T := TX1) (N := 4) rfl rfl inX1 0 (by decide) (ref := "GridPolygons$Coarse") kw_371 rfl rfl dX1_build_21 ?_
    refine lv_aload_n SS.1 SS.2.1 dX1_build_24 rfl (lv_at hl 1 rfl) ?_
    refine j_get SS hG hP (8 + 5 * i) (v := .ref (q (9 + 5 * i))) (C := RX10) (T := TX10) (N := 3) (cw_shape (by omega)) rfl inX10 0 (by decide) (ref := "GridPolygons$Shape") kw_153 rfl rfl dX1_build_25 ?_
    refine j_vWv SS (As := [.ref (q (9 + 5 * i))]) (rest := []) (c_X6_fill_10 l D q (sV u 26 (u.1.2.2.2.2 i)) A (cW_D hD) i (by omega)  (show RB 40 (sV u 26 (u.1.2.2.2.2 i)) i from (p0)) (show RB 40 (sV u 26 (u.1.2.2.2.2 i)) 10 from (p1))) mf_X6_fill kw_991 hG hP hP (ci := 6) (q0 := (9 + 5 * 10)) rfl (cw_pts (by omega)) rfl hS (fun _ h => h) rfl hl.1 ⟨⟨Nat.le_of_ble_eq_true rfl, Nat.le_of_ble_eq_true rfl⟩, Nat.le_of_ble_eq_true rfl, Nat.le_refl _, Nat.le_refl _⟩ rfl dX1_build_28 (fun u28 H locs h_28 hP _ hS => ?_)
    obtain ⟨n_28, f_28, g_28, rfl, h_28⟩ := h_28
    have hP : va_P D.1 j_cl (cW D q (sY (sX (sV (sC u 10 n_28) 26 (u.1.2.2.2.2 i)) 10 f_28) 10 g_28)) H := hP
    have h_28 : (0 ≤ n_28 ∧ n_28 ≤ 40) ∧ RV 40 f_28 g_28 := h_28
    have hR10 : (0 ≤ n_28 ∧ n_28 ≤ (rl 10 : Int)) ∧ RV 40 f_28 g_28 := h_28
    refine lv_aload_n SS.1 SS.2.1 dX1_build_31 rfl (lv_at hl 0 rfl) ?_
    refine j_iconst SS dX1_build_32 ?_
    refine j_put SS hG hP (cW_D hD) hS 7 (v := .int (J 0)) (ty := .int) (C := RX1) (T := TX1) (N := 4) rfl rfl inX1 tyX1 tyX1_ok nmX1 2 (by decide) (ref := "GridPolygons$Coarse") kw_373 rfl rfl (by decide +kernel) rfl rfl (Nat.le_of_ble_eq_true rfl) dX1_build_33 (ws' := (cW D q (sY (sX (sV (sV (sC u 10 n_28) 25 0) 26 (u.1.2.2.2.2 i)) 10 f_28) 10 g_28))) rfl (fun H locs hP hS => ?_)
    refine j_iconst SS dX1_build_36 ?_
    refine lv_istore_n (lv' := [(2, .int (J 0)), (0, .ref (q 7)), (1, .ref (q (8 + 5 * i)))]) SS.1 SS.2.1 dX1_build_37 rfl hl (by decide) rfl (fun ls hl => ?_)
    have L_38 : ∀ (nn : Nat) (a : Int) (w1 : Nat → Int64) (n1 : Int) (H : Heap) (locs : List Loc) (hP : va_P D.1 j_cl (cW D q (sY (sX (sV (sV (sL (sC u 10 n_28) 6 w1) 25 n1) 26 (u.1.2.2.2.2 i)) 10 f_28) 10 g_28)) H) (hS : va_S A st.heap H locs) (ls : Array Slot) (hl : lv_has ls 4 [(0, .ref (q 7)), (1, .ref (q (8 + 5 * i))), (2, .int (J a))]) (i38_0 : 0 ≤ a ∧ a ≤ 40) (i38_1 : 0 ≤ n1 ∧ n1 ≤ 80), ((40 : Int) - a).toNat < nn → W pr l en (headSpec (jw yX1_build cX1_build 4 none) (jr 4 99)).room st mi (([.ref (q 7), .ref (q (8 + 5 * i))] : List Value).toArray) below meth co H locs 0 0 (MQ below (jWv (fun u' => ∃ n : Int, ∃ f : Nat → Int, ∃ g : Nat → Int, ∃ se : Nat → Int64, ∃ v25 : Int, ∃ v26 : Int, u' = (sY (sX (sV (sV (sL (sC u 10 n) 6 se) 25 v25) 26 v26) 10 f) 10 g) ∧ (((0 ≤ n ∧ n ≤ 40) ∧ RV 40 f g) ∧ (0 ≤ v25 ∧ v25 ≤ 80) ∧ -2147483648 ≤ v26 ∧ v26 ≤ 2147483647)) (fun u' H => va_P D.1 j_cl (cW D q u') H) A) (([.ref (q 7), .ref (q (8 + 5 * i))] : List Value).toArray) st 0 0 A) (F0 mi 38 ls []) := by
      intro nn
      induction nn with
      | zero => intros; omega
      | succ nn ih_38 =>
        intro a w1 n1 H locs hP hS ls hl i38_0 i38_1 hm
        refine lv_iload_n SS.1 SS.2.1 dX1_build_38 rfl (lv_at hl 2 rfl) ?_
        refine lv_aload_n SS.1 SS.2.1 dX1_build_39 rfl (lv_at hl 0 rfl) ?_
        refine j_get SS hG hP 7 (v := .ref (q (9 + 5 * 10))) (C := RX1) (T := TX1) (N := 4) rfl rfl inX1 0 (by decide) (ref := "GridPolygons$Coarse") kw_371 rfl rfl dX1_build_40 ?_
        refine j_getS SS hG hP (9 + 5 * 10) (v := .int (J n_28)) (C := RX6) (T := TX6) (N := 3) (cw_pts (by omega)) rfl inX6 2 (by decide) (ref := "GridPolygons$Points") kw_138 kw_134 rfl dX1_build_43 ?_
        refine j_icmp_ge SS (tgt := 100) (x := a) (y := n_28) dX1_build_46 (by decide) (by omega) (by omega) (fun c_46 => ?_) (fun c_46 => ?_)
        · skip
          exact W.vret SS.1 SS.2.1 hr (fun t0 ht hW => ⟨⟨(sY (sX (sV (sV (sL (sC u 10 n_28) 6 w1) 25 n1) 26 (u.1.2.2.2.2 i)) 10 f_28) 10 g_28), rfl, (⟨n_28, f_28, g_28, w1, n1, (u.1.2.2.2.2 i), rfl, ⟨h_28, by omega, by omega⟩⟩), by show va_P D.1 j_cl (cW D q (sY (sX (sV (sV (sL (sC u 10 n_28) 6 w1) 25 n1) 26 (u.1.2.2.2.2 i)) 10 f_28) 10 g_28)) t0.heap; rw [ht]; first | exact hP | (simp only [sI_id, sL_id, sC_id, sX_id, sY_id, sH_id, sT_id, sV_id]; exact hP)⟩, hS.F ht⟩) hS.2.2 dX1_build_100 hlk
        · skip
          refine lv_iload_n SS.1 SS.2.1 dX1_build_49 rfl (lv_at hl 2 rfl) ?_
          refine j_iconst SS dX1_build_50 ?_
          refine j_iadd SS (x := a) (y := 1) dX1_build_51 ?_
          refine lv_istore_n (lv' := [(3, .int (J (a + 1))), (0, .ref (q 7)), (1, .ref (q (8 + 5 * i))), (2, .int (J a))]) SS.1 SS.2.1 dX1_build_52 rfl hl (by decide) rfl (fun ls hl => ?_)
          have L_53 : ∀ (nn : Nat) (b : Int) (w2 : Nat → Int64) (n2 : Int) (H : Heap) (locs : List Loc) (hP : va_P D.1 j_cl (cW D q (sY (sX (sV (sV (sL (sC u 10 n_28) 6 w2) 25 n2) 26 (u.1.2.2.2.2 i)) 10 f_28) 10 g_28)) H) (hS : va_S A st.heap H locs) (ls : Array Slot) (hl : lv_has ls 4 [(0, .ref (q 7)), (1, .ref (q (8 + 5 * i))), (2, .int (J a)), (3, .int (J b))]) (i53_0 : 1 ≤ b ∧ b ≤ 41) (i53_1 : 0 ≤ n2 ∧ n2 ≤ 80), ((41 : Int) - b).toNat < nn → W pr l en (headSpec (jw yX1_build cX1_build 4 none) (jr 4 99)).room st mi (([.ref (q 7), .ref (q (8 + 5 * i))] : List Value).toArray) below meth co H locs 0 0 (MQ below (jWv (fun u' => ∃ n : Int, ∃ f : Nat → Int, ∃ g : Nat → Int, ∃ se : Nat → Int64, ∃ v25 : Int, ∃ v26 : Int, u' = (sY (sX (sV (sV (sL (sC u 10 n) 6 se) 25 v25) 26 v26) 10 f) 10 g) ∧ (((0 ≤ n ∧ n ≤ 40) ∧ RV 40 f g) ∧ (0 ≤ v25 ∧ v25 ≤ 80) ∧ -2147483648 ≤ v26 ∧ v26 ≤ 2147483647)) (fun u' H => va_P D.1 j_cl (cW D q u') H) A) (([.ref (q 7), .ref (q (8 + 5 * i))] : List Value).toArray) st 0 0 A) (F0 mi 53 ls []) := by
            intro nn
            induction nn with
            | zero => intros; omega
            | succ nn ih_53 =>
              intro b w2 n2 H locs hP hS ls hl i53_0 i53_1 hm
              refine lv_iload_n SS.1 SS.2.1 dX1_build_53 rfl (lv_at hl 3 rfl) ?_
              refine lv_aload_n SS.1 SS.2.1 dX1_build_54 rfl (lv_at hl 0 rfl) ?_
              refine j_get SS hG hP 7 (v := .ref (q (9 + 5 * 10))) (C := RX1) (T := TX1) (N := 4) rfl rfl inX1 0 (by decide) (ref := "GridPolygons$Coarse") kw_371 rfl rfl dX1_build_55 ?_
              refine j_getS SS hG hP (9 + 5 * 10) (v := .int (J n_28)) (C := RX6) (T := TX6) (N := 3) (cw_pts (by omega)) rfl inX6 2 (by decide) (ref := "GridPolygons$Points") kw_138 kw_134 rfl dX1_build_58 ?_
              refine j_icmp_ge SS (tgt := 94) (x := b) (y := n_28) dX1_build_61 (by decide) (by omega) (by omega) (fun c_61 => ?_) (fun c_61 => ?_)
              · skip
                refine lv_iinc (v := J (a + 1)) (lv' := [(2, .int (J (a + 1))), (0, .ref (q 7)), (1, .ref (q (8 + 5 * i))), (3, .int (J b))]) SS.1 SS.2.1 dX1_build_94 hl (k := 2) rfl (J_add _ _) (by decide) rfl (fun ls hl => ?_)
                refine lv_goto (tgt := 38) SS.1 SS.2.1 dX1_build_97 (by decide) ?_
                exact ih_38 (a + 1) w2 n2 _ _ hP hS ls (lv_sub hl [1, 2, 0] rfl) (by omega) (by omega) (by omega)
              · skip
                refine lv_aload_n SS.1 SS.2.1 dX1_build_64 rfl (lv_at hl 0 rfl) ?_
                refine lv_aload_n SS.1 SS.2.1 dX1_build_65 rfl (lv_at hl 0 rfl) ?_
                refine lv_aload_n SS.1 SS.2.1 dX1_build_66 rfl (lv_at hl 1 rfl) ?_
                refine j_get SS hG hP (8 + 5 * i) (v := .ref (q (12 + 5 * i))) (C := RX10) (T := TX10) (N := 3) (cw_shape (by omega)) rfl inX10 1 (by decide) (ref := "GridPolygons$Shape") kw_156 rfl rfl dX1_build_67 ?_
                refine lv_iload_n SS.1 SS.2.1 dX1_build_70 rfl (lv_at hl 2 rfl) ?_
                refine lv_iload_n SS.1 SS.2.1 dX1_build_71 rfl (lv_at hl 3 rfl) ?_
                refine lv_aload_n SS.1 SS.2.1 dX1_build_72 rfl (lv_at hl 0 rfl) ?_
                refine lv_aload_n SS.1 SS.2.1 dX1_build_73 rfl (lv_at hl 1 rfl) ?_
                refine j_get SS hG hP (8 + 5 * i) (v := .ref (q (12 + 5 * i))) (C := RX10) (T := TX10) (N := 3) (cw_shape (by omega)) rfl inX10 1 (by decide) (ref := "GridPolygons$Shape") kw_156 rfl rfl dX1_build_74 ?_
                refine lv_iload_n SS.1 SS.2.1 dX1_build_77 rfl (lv_at hl 2 rfl) ?_
                refine lv_iload_n SS.1 SS.2.1 dX1_build_78 rfl (lv_at hl 3 rfl) ?_
                refine j_vRi SS (As := [.ref (q (12 + 5 * i)), .int (J a), .int (J b)]) (rest := [.int (J b), .int (J a), .ref (q (12 + 5 * i)), .ref (q 7), .ref (q 7)]) (c_X1_lowestLeft l D q (sY (sX (sV (sV (sL (sC u 10 n_28) 6 w2) 25 n2) 26 (u.1.2.2.2.2 i)) 10 f_28) 10 g_28) i (by omega) a b (show RB 40 (sY (sX (sV (sV (sL (sC u 10 n_28) 6 w2) 25 n2) 26 (u.1.2.2.2.2 i)) 10 f_28) 10 g_28) 10 from (hR10)) (show HB ((u.1.2.2.2.1 i)) from (p2)) (show -2147483648 ≤ a ∧ a ≤ 2147483647 from (by omega)) (show -2147483648 ≤ b ∧ b ≤ 2147483647 from (by omega))) mf_X1_lowestLeft kw_992 hG hP hP (ci := 1) (q0 := 7) rfl rfl rfl rfl hl.1 ⟨⟨Nat.le_of_ble_eq_true rfl, Nat.le_of_ble_eq_true rfl⟩, Nat.le_of_ble_eq_true rfl, Nat.le_refl _, Nat.le_refl _⟩ rfl dX1_build_79 (fun z_79 h_79 => ?_)
                have h_79 : -1 ≤ z_79 ∧ z_79 ≤ 39 := h_79
                refine j_vRl SS (As := [.ref (q (12 + 5 * i)), .int (J a), .int (J b), .int (J z_79)]) (rest := [.ref (q 7)]) (c_X1_planeOf l D q (sY (sX (sV (sV (sL (sC u 10 n_28) 6 w2) 25 n2) 26 (u.1.2.2.2.2 i)) 10 f_28) 10 g_28) i (by omega) a b z_79 (show RB 40 (sY (sX (sV (sV (sL (sC u 10 n_28) 6 w2) 25 n2) 26 (u.1.2.2.2.2 i)) 10 f_28) 10 g_28) 10 from (hR10)) (show HB ((u.1.2.2.2.1 i)) from (p2)) (show -2147483648 ≤ a ∧ a ≤ 2147483647 from (by omega)) (show -2147483648 ≤ b ∧ b ≤ 2147483647 from (by omega)) (show -2147483648 ≤ z_79 ∧ z_79 ≤ 2147483647 from (by omega))) mf_X1_planeOf kw_1003 hG hP hP (ci := 1) (q0 := 7) rfl rfl rfl rfl hl.1 ⟨⟨Nat.le_of_ble_eq_true rfl, Nat.le_of_ble_eq_true rfl⟩, Nat.le_of_ble_eq_true rfl, Nat.le_refl _, Nat.le_refl _⟩ rfl dX1_build_82 (fun x_82 h_82 => ?_)
                refine j_vWv SS (As := [.long x_82]) (rest := []) (c_X1_enter l D q (sY (sX (sV (sV (sL (sC u 10 n_28) 6 w2) 25 n2) 26 (u.1.2.2.2.2 i)) 10 f_28) 10 g_28) A (cW_D hD)  x_82 (show 0 ≤ n2 ∧ n2 ≤ 80 from (by omega))) mf_X1_enter kw_1010 hG hP hP (ci := 1) (q0 := 7) rfl rfl rfl hS (fun _ h => h) rfl hl.1 ⟨⟨Nat.le_of_ble_eq_true rfl, Nat.le_of_ble_eq_true rfl⟩, Nat.le_of_ble_eq_true rfl, Nat.le_refl _, Nat.le_refl _⟩ rfl dX1_build_85 (fun u85 H locs h_85 hP _ hS => ?_)
                obtain ⟨s6_85, n_85, rfl, h_85⟩ := h_85
                have hP : va_P D.1 j_cl (cW D q (sY (sX (sV (sV (sL (sC u 10 n_28) 6 s6_85) 25 n_85) 26 (u.1.2.2.2.2 i)) 10 f_28) 10 g_28)) H := hP
                have h_85 : 0 ≤ n_85 ∧ n_85 ≤ 80 := h_85
                refine lv_iinc (v := J (b + 1)) (lv' := [(3, .int (J (b + 1))), (0, .ref (q 7)), (1, .ref (q (8 + 5 * i))), (2, .int (J a))]) SS.1 SS.2.1 dX1_build_88 hl (k := 3) rfl (J_add _ _) (by decide) rfl (fun ls hl => ?_)
                refine lv_goto (tgt := 53) SS.1 SS.2.1 dX1_build_91 (by decide) ?_
                exact ih_53 (b + 1) s6_85 n_85 _ _ hP hS ls (lv_sub hl [1, 2, 3, 0] rfl) (by omega) (by omega) (by omega)
          exact L_53 (((41 : Int) - (a + 1)).toNat + 1) (a + 1) w1 n1 _ _ hP hS ls (lv_sub hl [1, 2, 3, 0] rfl) (by omega) (by omega) (Nat.lt_succ_self _)
    have hP : va_P D.1 j_cl (cW D q (sY (sX (sV (sV (sL (sC u 10 n_28) 6 (u.2.2.1 6)) 25 0) 26 (u.1.2.2.2.2 i)) 10 f_28) 10 g_28)) H := Eq.mpr (congrArg (fun s => va_P D.1 j_cl (cW D q (sY (sX (sV (sV s 25 0) 26 (u.1.2.2.2.2 i)) 10 f_28) 10 g_28)) H) (sL_at (u := (sC u 10 n_28)) (r := 6) (x := (u.2.2.1 6)) rfl)) hP
    exact L_38 (((40 : Int) - (0 : Int)).toNat + 1) 0 (u.2.2.1 6) 0 _ _ hP hS ls (lv_sub hl [1, 2, 0] rfl) (by omega) (by omega) (Nat.lt_succ_self _)
  · skip
    exact W.vret SS.1 SS.2.1 hr (fun t0 ht hW => ⟨⟨(sY (sX (sV (sV (sL (sC u 10 (u.1.2.2.1 10)) 6 (u.2.2.1 6)) 25 (u.2.2.2 25)) 26 (u.2.2.2 26)) 10 (u.1.1 10)) 10 (u.1.2.1 10)), rfl, (⟨(u.1.2.2.1 10), (u.1.1 10), (u.1.2.1 10), (u.2.2.1 6), (u.2.2.2 25), (u.2.2.2 26), rfl, ⟨p1, by omega, by omega⟩⟩), by show va_P D.1 j_cl (cW D q (sY (sX (sV (sV (sL (sC u 10 (u.1.2.2.1 10)) 6 (u.2.2.1 6)) 25 (u.2.2.2 25)) 26 (u.2.2.2 26)) 10 (u.1.1 10)) 10 (u.1.2.1 10))) t0.heap; rw [ht]; first | exact hP | (simp only [sI_id, sL_id, sC_id, sX_id, sY_id, sH_id, sT_id, sV_id]; exact hP)⟩, hS.F ht⟩) hS.2.2 dX1_build_11 hlk

theorem CI_co {u : CS} {n : Int} {f : Nat → Int} {g : Nat → Int} {se : Nat → Int64} {v25 : Int} {v26 : Int} (h : CI u) (q : ((0 ≤ n ∧ n ≤ 40) ∧ RV 40 f g) ∧ (0 ≤ v25 ∧ v25 ≤ 80) ∧ -2147483648 ≤ v26 ∧ v26 ≤ 2147483647) : CI (sY (sX (sV (sV (sL (sC u 10 n) 6 se) 25 v25) 26 v26) 10 f) 10 g) := by
  obtain ⟨h1, h2, h3, h4, h5, h6, h7, h8⟩ := h
  have w : ∀ r : Nat, r ≠ 10 → ∀ K, RB K u r → RB K (sY (sX (sV (sV (sL (sC u 10 n) 6 se) 25 v25) 26 v26) 10 f) 10 g) r := fun r hr K q => RB_ne (n := n) (f := f) (g := g) hr q
  exact ⟨fun i hi => ⟨w i (by omega) 40 (h1 i hi).1, (h1 i hi).2⟩, ⟨w 8 (by decide) 80 h2.1, w 9 (by decide) 40 h2.2.1, q.1⟩, h3, h4, h5, h6, h7, q.2⟩


theorem CI_ht {u : CS} {i : Nat} {t s : Int} {k : Nat → Int} (h : CI u) (hi : i < 8) (hk : HB k) (ht : -2147483648 ≤ t ∧ t ≤ 2147483647) (hs : -2147483648 ≤ s ∧ s ≤ 2147483647) : CI (sV (sT (sH u i k) i t) 0 s) := by
  have q := h.1 i hi
  have e := CI_sh (i := i) (n := u.1.2.2.1 i) (f := u.1.1 i) (g := u.1.2.1 i) h hi (by have := q.1.1; rw [rl_s hi] at this; exact this) q.1.2 hk ht hs
  simp only [sC_id, sX_id, sY_id] at e
  exact e
theorem HB_up {f : Nat → Int} {k : Nat} {v : Int} (h : HB f) (hv : -1000 ≤ v ∧ v ≤ 1000) : HB (upI f k v) := UP_b h hv


/-! ===== hulls ===== -/
/-- of two numbers: the first above 0, or 0 and the second above 0; lxn: or both 0 -/
def lxp (a b : Int) : Prop := 0 < a ∨ (a = 0 ∧ 0 < b)
def lxn (a b : Int) : Prop := 0 < a ∨ (a = 0 ∧ 0 ≤ b)
theorem lp_ln {a b : Int} (h : lxp a b) : lxn a b := by unfold lxp at h; unfold lxn; omega
theorem lpT {a b c d e f : Int} (h1 : lxp a b) (h2 : lxp c d) (h3 : lxn e f) (g1 : 0 ≤ cx a b c d) (g2 : 0 ≤ cx c d e f) : 0 ≤ cx a b e f := by
  have ha : 0 ≤ a := by unfold lxp at h1; omega
  have he : 0 ≤ e := by unfold lxn at h3; omega
  rcases h2 with hc | ⟨hc, hd⟩
  · have i1 : cx a b e f * c = cx a b c d * e + cx c d e f * a := by unfold cx; grind
    have m1 := Int.mul_nonneg g1 he
    have m2 := Int.mul_nonneg g2 ha
    exact Int.le_of_mul_le_mul_right (show 0 * c ≤ cx a b e f * c from by rw [Int.zero_mul, i1]; omega) hc
  · subst hc
    have he0 : e = 0 := by
      by_cases q : e = 0
      · exact q
      · have m := Int.mul_pos hd (show 0 < e by omega)
        unfold cx at g2
        omega
    subst he0
    have m := Int.mul_nonneg ha (show 0 ≤ f by unfold lxn at h3; omega)
    unfold cx
    omega
theorem lpS {a b c d e f : Int} (h1 : lxp a b) (h2 : lxp c d) (h3 : lxp e f) (g1 : 0 ≤ cx a b c d) (g2 : 0 < cx c d e f) : 0 < cx a b e f := by
  have ha : 0 ≤ a := by unfold lxp at h1; omega
  have he : 0 ≤ e := by unfold lxp at h3; omega
  rcases h2 with hc | ⟨hc, hd⟩
  · have i1 : cx a b e f * c = cx a b c d * e + cx c d e f * a := by unfold cx; grind
    have m1 := Int.mul_nonneg g1 he
    have ha2 : 0 < a := by
      by_cases q : a = 0
      · subst q
        have m := Int.mul_pos (show 0 < b by unfold lxp at h1; omega) hc
        unfold cx at g1
        omega
      · omega
    have m2 := Int.mul_pos g2 ha2
    exact Int.lt_of_mul_lt_mul_right (show 0 * c < cx a b e f * c from by rw [Int.zero_mul, i1]; omega) (by omega)
  · subst hc
    exfalso
    have m := Int.mul_nonneg (show 0 ≤ d by omega) he
    unfold cx at g2
    omega
/-- on the left of an edge or on it, then between its ends -/
def edg (px py ex ey x y : Int) : Prop := 0 ≤ cx (ex - px) (ey - py) (x - px) (y - py) ∧ (cx (ex - px) (ey - py) (x - px) (y - py) = 0 → lxn (x - px) (y - py) ∧ lxn (ex - x) (ey - y))
/-- a chain over the points S, from the place b to the place before h -/
def chx (S : Int → Int → Prop) (X Y : Nat → Int) (b h : Nat) : Prop := b < h ∧ (∀ a : Nat, b ≤ a → a < h → S (X a) (Y a)) ∧ (∀ a : Nat, b ≤ a → a + 1 < h → lxp (X (a + 1) - X a) (Y (a + 1) - Y a)) ∧ (∀ x y : Int, S x y → lxn (x - X b) (y - Y b) ∧ lxn (X (h - 1) - x) (Y (h - 1) - y)) ∧ (∀ a : Nat, b ≤ a → a + 1 < h → ∀ x y : Int, S x y → edg (X a) (Y a) (X (a + 1)) (Y (a + 1)) x y) ∧ ∀ a : Nat, b ≤ a → a + 2 < h → 0 < tn X Y a (a + 1) (a + 2)
theorem chx_up {S : Int → Int → Prop} {X Y : Nat → Int} {b h : Nat} (H : ∀ a : Nat, b ≤ a → a + 1 < h → lxp (X (a + 1) - X a) (Y (a + 1) - Y a)) : ∀ (k a : Nat), b ≤ a → a + k < h → lxn (X (a + k) - X a) (Y (a + k) - Y a) := by
  intro k
  induction k with
  | zero => intro a _ _; show lxn (X a - X a) (Y a - Y a); unfold lxn; omega
  | succ k ih =>
    intro a ha hk
    have q := ih a ha (by omega)
    have r := H (a + k) (by omega) (by omega)
    show lxn (X (a + k + 1) - X a) (Y (a + k + 1) - Y a)
    unfold lxn lxp at *
    omega
theorem cx_sw {a b c d : Int} : cx c d a b = - cx a b c d := by unfold cx; grind
theorem cx_sh {a b c d e f : Int} : cx (c - a) (d - b) (e - a) (f - b) = cx (c - a) (d - b) (e - c) (f - d) := by unfold cx; grind
theorem cx_c1 {gx gy hx hy qx qy wx wy : Int} : cx (wx - gx) (wy - gy) (qx - gx) (qy - gy) = cx (wx - qx) (wy - qy) (hx - gx) (hy - gy) + cx (wx - hx) (wy - hy) (qx - hx) (qy - hy) := by unfold cx; grind
theorem cx_c2 {hx hy qx qy wx wy : Int} : cx (wx - qx) (wy - qy) (wx - hx) (wy - hy) = cx (wx - hx) (wy - hy) (qx - hx) (qy - hy) := by unfold cx; grind
theorem cx_c3 {gx gy hx hy qx qy : Int} : cx (hx - qx) (hy - qy) (hx - gx) (hy - gy) = cx (hx - gx) (hy - gy) (qx - gx) (qy - gy) := by unfold cx; grind
theorem cx_c4 {hx hy qx qy wx wy : Int} : cx (wx - hx) (wy - hy) (qx - hx) (qy - hy) = cx (hx - qx) (hy - qy) (wx - hx) (wy - hy) := by unfold cx; grind
theorem cx_00 {a b : Int} : cx a b a b = 0 := by unfold cx; grind
theorem cx_z {a b : Int} : cx a b 0 0 = 0 := by unfold cx; grind
/-- the points behind the place that stays are left of the way to the new one -/
theorem chx_k1 {S : Int → Int → Prop} {X Y : Nat → Int} {b h v : Nat} {wx wy : Int} (C : chx S X Y b h) (hw : lxp (wx - X (h - 1)) (wy - Y (h - 1))) (hv : b < v) (hvh : v ≤ h) (hpop : ∀ j : Nat, v ≤ j → j < h → cx (X j - X (j - 1)) (Y j - Y (j - 1)) (wx - X (j - 1)) (wy - Y (j - 1)) ≤ 0) :
    ∀ (k m : Nat), m + k + 1 = h → v ≤ m + 1 → ∀ x y : Int, S x y → lxn (x - X m) (y - Y m) → 0 ≤ cx (wx - X m) (wy - Y m) (x - X m) (y - Y m) := by
  obtain ⟨_, _, c3, c4, c5, _⟩ := C
  intro k
  induction k with
  | zero =>
    intro m hm _ x y hs hl
    have q := (c4 x y hs).2
    rw [show h - 1 = m by omega] at q
    rw [show x - X m = 0 by unfold lxn at *; omega, show y - Y m = 0 by unfold lxn at *; omega, cx_z]
    omega
  | succ k ih =>
    intro m hm hvm x y hs hl
    have P := ih (m + 1) (by omega) (by omega) x y hs
    have hp := hpop (m + 1) (by omega) (by omega)
    rw [show m + 1 - 1 = m by omega] at hp
    have hd := c3 m (by omega) (by omega)
    have up := chx_up (S := S) c3 (h - 1 - (m + 1)) (m + 1) (by omega) (by omega)
    rw [show m + 1 + (h - 1 - (m + 1)) = h - 1 by omega] at up
    have hwH : lxp (wx - X (m + 1)) (wy - Y (m + 1)) := by unfold lxp lxn at *; omega
    have hwg : lxp (wx - X m) (wy - Y m) := by unfold lxp lxn at *; omega
    by_cases e : lxn (x - X (m + 1)) (y - Y (m + 1))
    · have q := P e
      have hwq : lxp (wx - x) (wy - y) := by
        have z := (c4 x y hs).2
        unfold lxp lxn at *; omega
      rw [cx_c1 (hx := X (m + 1)) (hy := Y (m + 1))]
      have z := lpT hwq hwH (lp_ln hd) (by rw [cx_c2]; exact q) (by rw [cx_sw, ← cx_sh]; omega)
      omega
    · have q := (c5 m (by omega) (by omega) x y hs).1
      exact lpT hwg hd hl (by rw [cx_sw]; omega) q
/-- the points before it too -/
theorem chx_k2 {S : Int → Int → Prop} {X Y : Nat → Int} {b h v : Nat} {wx wy : Int} (C : chx S X Y b h) (hw : lxp (wx - X (h - 1)) (wy - Y (h - 1))) (hv : b < v) (hvh : v ≤ h) (hkeep : v ≤ b + 1 ∨ 0 < cx (X (v - 1) - X (v - 2)) (Y (v - 1) - Y (v - 2)) (wx - X (v - 2)) (wy - Y (v - 2))) {x y : Int} (hs : S x y) (hl : ¬ lxn (x - X (v - 1)) (y - Y (v - 1))) : 0 < cx (wx - X (v - 1)) (wy - Y (v - 1)) (x - X (v - 1)) (y - Y (v - 1)) := by
  obtain ⟨_, _, c3, c4, c5, _⟩ := C
  have hb := (c4 x y hs).1
  have hvb : b + 1 < v := by
    apply Nat.lt_of_not_le; intro q
    rw [show v - 1 = b by omega] at hl
    exact hl hb
  have hk : 0 < cx (X (v - 1) - X (v - 2)) (Y (v - 1) - Y (v - 2)) (wx - X (v - 2)) (wy - Y (v - 2)) := by
    rcases hkeep with q | q
    · omega
    · exact q
  have hd := c3 (v - 2) (by omega) (by omega)
  have he := (c5 (v - 2) (by omega) (by omega) x y hs).1
  rw [show v - 2 + 1 = v - 1 by omega] at hd he
  have up := chx_up (S := S) c3 (h - 1 - (v - 1)) (v - 1) (by omega) (by omega)
  rw [show v - 1 + (h - 1 - (v - 1)) = h - 1 by omega] at up
  have ha : lxp (wx - X (v - 1)) (wy - Y (v - 1)) := by unfold lxp lxn at *; omega
  have hq : lxp (X (v - 1) - x) (Y (v - 1) - y) := by unfold lxp; unfold lxn at hl; omega
  rw [cx_c4]
  exact lpS hq hd ha (by rw [cx_c3]; exact he) (by rw [← cx_sh]; exact hk)
/-- the new point is left of the edges that stay -/
theorem chx_k3 {S : Int → Int → Prop} {X Y : Nat → Int} {b h v : Nat} {wx wy : Int} (C : chx S X Y b h) (hw : lxp (wx - X (h - 1)) (wy - Y (h - 1))) (hv : b < v) (hvh : v ≤ h) (hkeep : v ≤ b + 1 ∨ 0 < cx (X (v - 1) - X (v - 2)) (Y (v - 1) - Y (v - 2)) (wx - X (v - 2)) (wy - Y (v - 2))) : ∀ (k a : Nat), a + k + 2 = v → b ≤ a → 0 < cx (X (a + 1) - X a) (Y (a + 1) - Y a) (wx - X a) (wy - Y a) := by
  obtain ⟨_, _, c3, c4, c5, c6⟩ := C
  intro k
  induction k with
  | zero =>
    intro a ha hb
    rcases hkeep with q | q
    · omega
    · rw [show v - 1 = a + 1 by omega, show v - 2 = a by omega] at q; exact q
  | succ k ih =>
    intro a ha hb
    have q := ih (a + 1) (by omega) (by omega)
    have t := c6 a hb (by omega)
    have d0 := c3 a hb (by omega)
    have d1 := c3 (a + 1) (by omega) (by omega)
    have up := chx_up (S := S) c3 (h - 1 - (a + 1)) (a + 1) (by omega) (by omega)
    rw [show a + 1 + (h - 1 - (a + 1)) = h - 1 by omega] at up
    have hwa : lxp (wx - X (a + 1)) (wy - Y (a + 1)) := by unfold lxp lxn at *; omega
    have t2 : 0 < cx (X (a + 1) - X a) (Y (a + 1) - Y a) (X (a + 2) - X (a + 1)) (Y (a + 2) - Y (a + 1)) := by
      rw [← cx_sh]; exact t
    rw [cx_sh]
    exact lpS d0 d1 hwa (by show 0 ≤ cx _ _ (X (a + 2) - X (a + 1)) (Y (a + 2) - Y (a + 1)); omega) q
/-- a chain goes on -/
theorem chx_s {S : Int → Int → Prop} {X Y X' Y' : Nat → Int} {b h v : Nat} {wx wy : Int} (C : chx S X Y b h) (hw : lxp (wx - X (h - 1)) (wy - Y (h - 1))) (hv : b < v) (hvh : v ≤ h) (hpop : ∀ j : Nat, v ≤ j → j < h → cx (X j - X (j - 1)) (Y j - Y (j - 1)) (wx - X (j - 1)) (wy - Y (j - 1)) ≤ 0) (hkeep : v ≤ b + 1 ∨ 0 < cx (X (v - 1) - X (v - 2)) (Y (v - 1) - Y (v - 2)) (wx - X (v - 2)) (wy - Y (v - 2))) (hX : ∀ a : Nat, a < v → X' a = X a ∧ Y' a = Y a) (hx : X' v = wx) (hy : Y' v = wy) {S' : Int → Int → Prop} (hS : ∀ x y : Int, S' x y ↔ S x y ∨ (x = wx ∧ y = wy)) : chx S' X' Y' b (v + 1) := by
  have K1 := chx_k1 C hw hv hvh hpop (h - v) (v - 1) (by omega) (by omega)
  have K3 := chx_k3 C hw hv hvh hkeep
  have K2 := fun x y hs hl => chx_k2 C hw hv hvh hkeep (x := x) (y := y) hs hl
  obtain ⟨c1, c2, c3, c4, c5, c6⟩ := C
  have eX : ∀ a : Nat, a < v → X' a = X a := fun a ha => (hX a ha).1
  have eY : ∀ a : Nat, a < v → Y' a = Y a := fun a ha => (hX a ha).2
  have up := chx_up (S := S) c3 (h - 1 - (v - 1)) (v - 1) (by omega) (by omega)
  rw [show v - 1 + (h - 1 - (v - 1)) = h - 1 by omega] at up
  have ub := chx_up (S := S) c3 (v - 1 - b) b (by omega) (by omega)
  rw [show b + (v - 1 - b) = v - 1 by omega] at ub
  have hwv : lxp (wx - X (v - 1)) (wy - Y (v - 1)) := by unfold lxp lxn at *; omega
  have hwq : ∀ x y : Int, S x y → lxp (wx - x) (wy - y) := fun x y hs => by
    have z := (c4 x y hs).2
    unfold lxp lxn at *; omega
  refine ⟨by omega, fun a ha hh => ?_, fun a ha hh => ?_, fun x y hs => ?_, fun a ha hh x y hs => ?_, fun a ha hh => ?_⟩
  · by_cases e : a = v
    · subst e; exact (hS _ _).mpr (Or.inr ⟨hx, hy⟩)
    · rw [eX a (by omega), eY a (by omega)]; exact (hS _ _).mpr (Or.inl (c2 a ha (by omega)))
  · by_cases e : a + 1 = v
    · rw [e, hx, hy, eX a (by omega), eY a (by omega), show a = v - 1 by omega]; exact hwv
    · rw [eX a (by omega), eY a (by omega), eX (a + 1) (by omega), eY (a + 1) (by omega)]; exact c3 a ha (by omega)
  · rw [show v + 1 - 1 = v by omega, hx, hy, eX b hv, eY b hv]
    rcases (hS x y).mp hs with q | ⟨q1, q2⟩
    · exact ⟨(c4 x y q).1, lp_ln (hwq x y q)⟩
    · subst q1; subst q2
      exact ⟨by unfold lxp lxn at *; omega, by unfold lxn; omega⟩
  · by_cases e : a + 1 = v
    · rw [e, hx, hy, eX a (by omega), eY a (by omega), show a = v - 1 by omega]
      rcases (hS x y).mp hs with q | ⟨q1, q2⟩
      · by_cases l : lxn (x - X (v - 1)) (y - Y (v - 1))
        · exact ⟨K1 x y q l, fun _ => ⟨l, lp_ln (hwq x y q)⟩⟩
        · have z := K2 x y q l
          exact ⟨by omega, fun z2 => by omega⟩
      · subst q1; subst q2
        exact ⟨by rw [cx_00]; omega, fun _ => ⟨lp_ln hwv, by unfold lxn; omega⟩⟩
    · rw [eX a (by omega), eY a (by omega), eX (a + 1) (by omega), eY (a + 1) (by omega)]
      rcases (hS x y).mp hs with q | ⟨q1, q2⟩
      · exact c5 a ha (by omega) x y q
      · subst q1; subst q2
        have z := K3 (v - 2 - a) a (by omega) ha
        exact ⟨by omega, fun z2 => by omega⟩
  · by_cases e : a + 2 = v
    · unfold tn
      rw [e, hx, hy, eX a (by omega), eY a (by omega), eX (a + 1) (by omega), eY (a + 1) (by omega)]
      rcases hkeep with q | q
      · omega
      · rw [show v - 1 = a + 1 by omega, show v - 2 = a by omega] at q
        unfold cx at q
        exact q
    · rw [tn_cong (eX a (by omega)) (eX (a + 1) (by omega)) (eX (a + 2) (by omega)) (eY a (by omega)) (eY (a + 1) (by omega)) (eY (a + 2) (by omega))]
      exact c6 a ha (by omega)
/-- a chain of one point -/
theorem chx_1 {S : Int → Int → Prop} {X Y : Nat → Int} {b : Nat} (h : ∀ x y : Int, S x y ↔ x = X b ∧ y = Y b) : chx S X Y b (b + 1) := by
  refine ⟨by omega, fun a ha hh => ?_, fun a ha hh => by omega, fun x y hs => ?_, fun a ha hh => by omega, fun a ha hh => by omega⟩
  · rw [show a = b by omega]; exact (h _ _).mpr ⟨rfl, rfl⟩
  · obtain ⟨e1, e2⟩ := (h x y).mp hs
    rw [show b + 1 - 1 = b by omega, e1, e2]
    exact ⟨by unfold lxn; omega, by unfold lxn; omega⟩
theorem chx_cong {S S' : Int → Int → Prop} {X Y X' Y' : Nat → Int} {b h : Nat} (C : chx S X Y b h) (e : ∀ a : Nat, b ≤ a → a < h → X' a = X a ∧ Y' a = Y a) (hS : ∀ x y : Int, S' x y ↔ S x y) : chx S' X' Y' b h := by
  obtain ⟨c1, c2, c3, c4, c5, c6⟩ := C
  refine ⟨c1, fun a ha hh => ?_, fun a ha hh => ?_, fun x y hs => ?_, fun a ha hh x y hs => ?_, fun a ha hh => ?_⟩
  · rw [(e a ha hh).1, (e a ha hh).2]; exact (hS _ _).mpr (c2 a ha hh)
  · rw [(e a ha (by omega)).1, (e a ha (by omega)).2, (e (a + 1) (by omega) hh).1, (e (a + 1) (by omega) hh).2]; exact c3 a ha hh
  · rw [(e b (by omega) c1).1, (e b (by omega) c1).2, (e (h - 1) (by omega) (by omega)).1, (e (h - 1) (by omega) (by omega)).2]; exact c4 x y ((hS _ _).mp hs)
  · rw [(e a ha (by omega)).1, (e a ha (by omega)).2, (e (a + 1) (by omega) hh).1, (e (a + 1) (by omega) hh).2]; exact c5 a ha hh x y ((hS _ _).mp hs)
  · rw [tn_cong (e a ha (by omega)).1 (e (a + 1) (by omega) (by omega)).1 (e (a + 2) (by omega) (by omega)).1 (e a ha (by omega)).2 (e (a + 1) (by omega) (by omega)).2 (e (a + 2) (by omega) (by omega)).2]; exact c6 a ha hh
/-! what a hull is -/
def nxt (X : Nat → Int) (n : Int) (a : Nat) : Int := if (a : Int) + 1 < n then X (a + 1) else X 0
/-- an edge of S, told either way -/
def edS (S : Int → Int → Prop) (px py ex ey : Int) : Prop := (px ≠ ex ∨ py ≠ ey) ∧ ∀ x y : Int, S x y → 0 ≤ cx (ex - px) (ey - py) (x - px) (y - py) ∧ (cx (ex - px) (ey - py) (x - px) (y - py) = 0 → (lxn (x - px) (y - py) ∧ lxn (ex - x) (ey - y)) ∨ (lxn (px - x) (py - y) ∧ lxn (x - ex) (y - ey)))
def HS (S : Int → Int → Prop) (n : Int) (X Y : Nat → Int) : Prop := (n = 0 ∧ ∀ x y : Int, ¬ S x y) ∨ (0 < n ∧ S (X 0) (Y 0) ∧ (∀ x y : Int, S x y → lxn (x - X 0) (y - Y 0)) ∧ ((n = 1 ∧ ∀ x y : Int, S x y → x = X 0 ∧ y = Y 0) ∨ (2 ≤ n ∧ (∀ a : Nat, 0 < a → (a : Int) < n → S (X a) (Y a) ∧ (X a ≠ X 0 ∨ Y a ≠ Y 0)) ∧ ∀ a : Nat, (a : Int) < n → edS S (X a) (Y a) (nxt X n a) (nxt Y n a))))
theorem edS_u {S : Int → Int → Prop} {px py ex ey fx fy : Int} (h : edS S px py ex ey) (h' : edS S px py fx fy) (se : S ex ey) (sf : S fx fy) : ex = fx ∧ ey = fy := by
  obtain ⟨n1, g1⟩ := h
  obtain ⟨n2, g2⟩ := h'
  obtain ⟨a1, b1⟩ := g1 fx fy sf
  obtain ⟨a2, b2⟩ := g2 ex ey se
  rw [cx_sw] at a2 b2
  have z : cx (ex - px) (ey - py) (fx - px) (fy - py) = 0 := by omega
  have r1 := b1 z
  have r2 := b2 (by omega)
  unfold lxn at r1 r2
  omega
theorem HS_S {S : Int → Int → Prop} {n : Int} {X Y : Nat → Int} (h : HS S n X Y) (a : Nat) (ha : (a : Int) < n) : S (X a) (Y a) := by
  rcases h with ⟨h, _⟩ | ⟨h1, h2, h3, ⟨h4, _⟩ | ⟨h4, h5, _⟩⟩
  · omega
  · rw [show a = 0 by omega]; exact h2
  · by_cases e : a = 0
    · rw [e]; exact h2
    · exact (h5 a (by omega) ha).1
theorem HS_p {S : Int → Int → Prop} {n n' : Int} {X Y X' Y' : Nat → Int} (h : HS S n X Y) (h' : HS S n' X' Y') : ∀ a : Nat, (a : Int) < n → (a : Int) < n' → X a = X' a ∧ Y a = Y' a := by
  intro a
  induction a with
  | zero =>
    intro h1 h2
    have s1 := HS_S h 0 h1
    have s2 := HS_S h' 0 h2
    rcases h with ⟨h, _⟩ | ⟨_, _, h3, _⟩
    · omega
    · rcases h' with ⟨h', _⟩ | ⟨_, _, h3', _⟩
      · omega
      · have q1 := h3 _ _ s2
        have q2 := h3' _ _ s1
        unfold lxn at q1 q2
        omega
  | succ a ih =>
    intro h1 h2
    obtain ⟨e1, e2⟩ := ih (by omega) (by omega)
    have s1 := HS_S h (a + 1) h1
    have s2 := HS_S h' (a + 1) h2
    rcases h with ⟨h, _⟩ | ⟨_, _, _, ⟨h4, _⟩ | ⟨_, _, h6⟩⟩
    · omega
    · omega
    · rcases h' with ⟨h', _⟩ | ⟨_, _, _, ⟨h4', _⟩ | ⟨_, _, h6'⟩⟩
      · omega
      · omega
      · have g1 := h6 a (by omega)
        have g2 := h6' a (by omega)
        unfold nxt at g1 g2
        rw [if_pos (by omega), if_pos (by omega)] at g1 g2
        rw [e1, e2] at g1
        exact edS_u g1 g2 s1 s2
theorem HS_n {S : Int → Int → Prop} {n n' : Int} {X Y X' Y' : Nat → Int} (h : HS S n X Y) (h' : HS S n' X' Y') : n' ≤ n := by
  apply Int.not_lt.mp
  intro hl
  have P := HS_p h h'
  have T := fun a ha => HS_S h' a ha
  rcases h with ⟨h, hn⟩ | ⟨h1, h2, h3, h4⟩
  · exact hn _ _ (T 0 (by omega))
  · have e0 := P 0 (by omega) (by omega)
    rcases h' with ⟨h', _⟩ | ⟨_, _, _, ⟨h4', _⟩ | ⟨h4', h5', h6'⟩⟩
    · omega
    · omega
    · rcases h4 with ⟨h4, h5⟩ | ⟨h4, h5, h6⟩
      · have q := h5' 1 (by omega) (by omega)
        have r := h5 _ _ q.1
        omega
      · have e1 := P (n - 1).toNat (by omega) (by omega)
        have g1 := h6 (n - 1).toNat (by omega)
        have g2 := h6' (n - 1).toNat (by omega)
        unfold nxt at g1 g2
        rw [if_neg (by omega), if_neg (by omega)] at g1
        rw [if_pos (by omega), if_pos (by omega)] at g2
        rw [e1.1, e1.2] at g1
        have q := h5' ((n - 1).toNat + 1) (by omega) (by omega)
        have r := edS_u g1 g2 h2 q.1
        omega
theorem HS_u {S : Int → Int → Prop} {n n' : Int} {X Y X' Y' : Nat → Int} (h : HS S n X Y) (h' : HS S n' X' Y') : n = n' ∧ ∀ a : Nat, (a : Int) < n → X a = X' a ∧ Y a = Y' a := by
  have h1 := HS_n h h'
  have h2 := HS_n h' h
  exact ⟨by omega, fun a ha => HS_p h h' a ha (by omega)⟩
theorem HS_c {S S' : Int → Int → Prop} {n : Int} {X Y X' Y' : Nat → Int} (h : HS S n X Y) (hS : ∀ x y : Int, S x y ↔ S' x y) (e : ∀ a : Nat, (a : Int) < n → X' a = X a ∧ Y' a = Y a) : HS S' n X' Y' := by
  rcases h with ⟨h, h2⟩ | ⟨h1, h2, h3, h4⟩
  · exact Or.inl ⟨h, fun x y q => h2 x y ((hS x y).mpr q)⟩
  · have e0 := e 0 (by omega)
    refine Or.inr ⟨h1, by rw [e0.1, e0.2]; exact (hS _ _).mp h2, fun x y q => by rw [e0.1, e0.2]; exact h3 x y ((hS x y).mpr q), ?_⟩
    rcases h4 with ⟨h4, h5⟩ | ⟨h4, h5, h6⟩
    · exact Or.inl ⟨h4, fun x y q => by rw [e0.1, e0.2]; exact h5 x y ((hS x y).mpr q)⟩
    · refine Or.inr ⟨h4, fun a ha hh => ?_, fun a ha => ?_⟩
      · have q := h5 a ha hh
        rw [(e a hh).1, (e a hh).2, e0.1, e0.2]
        exact ⟨(hS _ _).mp q.1, q.2⟩
      · have q := h6 a ha
        have n1 : nxt X' n a = nxt X n a := by
          unfold nxt; split
          · exact (e (a + 1) (by omega)).1
          · exact e0.1
        have n2 : nxt Y' n a = nxt Y n a := by
          unfold nxt; split
          · exact (e (a + 1) (by omega)).2
          · exact e0.2
        rw [(e a ha).1, (e a ha).2, n1, n2]
        exact ⟨q.1, fun x y s => q.2 x y ((hS x y).mpr s)⟩


theorem cx_nn {a b c d e f g h : Int} : cx (-a - -b) (-c - -d) (-e - -b) (-f - -d) = cx (a - b) (c - d) (e - b) (f - d) := by unfold cx; grind
/-- the points of S turned by a half turn -/
def ngS (S : Int → Int → Prop) : Int → Int → Prop := fun x y => S (-x) (-y)
def ng (X : Nat → Int) : Nat → Int := fun a => - X a
theorem ngS_n {S : Int → Int → Prop} {x y : Int} : ngS S (-x) (-y) ↔ S x y := by unfold ngS; rw [Int.neg_neg, Int.neg_neg]
/-- an edge of a chain is one of S -/
theorem chx_e1 {S : Int → Int → Prop} {X Y : Nat → Int} {b h a : Nat} (C : chx S X Y b h) (ha : b ≤ a) (hh : a + 1 < h) : edS S (X a) (Y a) (X (a + 1)) (Y (a + 1)) := by
  have d := C.2.2.1 a ha hh
  refine ⟨by unfold lxp at d; omega, fun x y s => ?_⟩
  have q := C.2.2.2.2.1 a ha hh x y s
  exact ⟨q.1, fun z => Or.inl (q.2 z)⟩
theorem chx_e2 {S : Int → Int → Prop} {X Y : Nat → Int} {b h a : Nat} (C : chx (ngS S) (ng X) (ng Y) b h) (ha : b ≤ a) (hh : a + 1 < h) : edS S (X a) (Y a) (X (a + 1)) (Y (a + 1)) := by
  have d := C.2.2.1 a ha hh
  unfold ng at d
  refine ⟨by unfold lxp at d; omega, fun x y s => ?_⟩
  have q := C.2.2.2.2.1 a ha hh (-x) (-y) (ngS_n.mpr s)
  unfold edg ng at q
  rw [cx_nn (g := 0) (h := 0)] at q
  refine ⟨q.1, fun z => Or.inr ?_⟩
  have r := q.2 z
  unfold lxn at r ⊢
  omega
theorem chx_lt {S : Int → Int → Prop} {X Y : Nat → Int} {b h : Nat} (C : chx S X Y b h) {a c : Nat} (ha : b ≤ a) (hac : a < c) (hc : c < h) : lxp (X c - X a) (Y c - Y a) := by
  have d := C.2.2.1 a ha (by omega)
  have up := chx_up (S := S) C.2.2.1 (c - (a + 1)) (a + 1) (by omega) (by omega)
  rw [show a + 1 + (c - (a + 1)) = c by omega] at up
  unfold lxp lxn at *
  omega
/-- the reference's way: lower chain to t, upper chain from t on; the place n holds the first one again -/
theorem HS_m {S : Int → Int → Prop} {X Y : Nat → Int} {t n : Nat} (C1 : chx S X Y 0 (t + 1)) (C2 : chx (ngS S) (ng X) (ng Y) t (n + 1)) (ht : 1 ≤ t) (hn : t < n) (eX : X n = X 0) (eY : Y n = Y 0) : HS S n X Y := by
  have s0 := C1.2.1 0 (by omega) (by omega)
  refine Or.inr ⟨by omega, s0, fun x y s => (C1.2.2.2.1 x y s).1, Or.inr ⟨by omega, fun a ha hh => ⟨?_, ?_⟩, fun a ha => ?_⟩⟩
  · by_cases e : a ≤ t
    · exact C1.2.1 a (by omega) (by omega)
    · have q := C2.2.1 a (by omega) (by omega)
      unfold ng at q
      exact ngS_n.mp q
  · by_cases e : a ≤ t
    · have q := chx_lt C1 (a := 0) (c := a) (by omega) ha (by omega)
      unfold lxp at q; omega
    · have q := chx_lt C2 (a := a) (c := n) (by omega) (by omega) (by omega)
      unfold lxp ng at q; omega
  · have n1 : nxt X n a = X (a + 1) := by
      unfold nxt; split
      · rfl
      · rw [show a + 1 = n by omega, eX]
    have n2 : nxt Y n a = Y (a + 1) := by
      unfold nxt; split
      · rfl
      · rw [show a + 1 = n by omega, eY]
    rw [n1, n2]
    by_cases e : a < t
    · exact chx_e1 C1 (by omega) (by omega)
    · exact chx_e2 C2 (by omega) (by omega)
theorem HS_1 {S : Int → Int → Prop} {X Y : Nat → Int} (h : S (X 0) (Y 0)) (h2 : ∀ x y : Int, S x y → x = X 0 ∧ y = Y 0) : HS S 1 X Y :=
  Or.inr ⟨by omega, h, fun x y s => by obtain ⟨e1, e2⟩ := h2 x y s; rw [e1, e2]; unfold lxn; omega, Or.inl ⟨rfl, h2⟩⟩
/-! the class's way: columns -/
/-- of each column (x from -80 on) the least and the greatest -/
def HUL (S : Int → Int → Prop) (f g : Nat → Int) : Prop := (∀ x y : Int, S x y → (-80 ≤ x ∧ x ≤ 80) ∧ f (x + 80).toNat ≤ y ∧ y ≤ g (x + 80).toNat) ∧ (∀ c : Nat, c < 161 → f c ≤ g c → S ((c : Int) - 80) (f c) ∧ S ((c : Int) - 80) (g c)) ∧ ∀ c : Nat, c < 161 → f c ≤ g c ∨ (81 ≤ f c ∧ g c ≤ -81)
/-- the lowest points of the columns before k -/
def SL (f g : Nat → Int) (k : Nat) : Int → Int → Prop := fun x y => ∃ c : Nat, c < k ∧ f c ≤ g c ∧ x = (c : Int) - 80 ∧ y = f c
/-- the highest points of the columns from k on -/
def SH (f g : Nat → Int) (k : Nat) : Int → Int → Prop := fun x y => ∃ c : Nat, k ≤ c ∧ c < 161 ∧ f c ≤ g c ∧ x = (c : Int) - 80 ∧ y = g c
theorem HUL_l {S : Int → Int → Prop} {f g : Nat → Int} (h : HUL S f g) {x y : Int} (s : S x y) : SL f g 161 x (f (x + 80).toNat) ∧ SH f g 0 x (g (x + 80).toNat) := by
  have q := h.1 x y s
  exact ⟨⟨(x + 80).toNat, by omega, by omega, by omega, rfl⟩, ⟨(x + 80).toNat, by omega, by omega, by omega, by omega, rfl⟩⟩
theorem SL_S {S : Int → Int → Prop} {f g : Nat → Int} (h : HUL S f g) {x y : Int} (s : SL f g 161 x y) : S x y := by
  obtain ⟨c, h1, h2, rfl, rfl⟩ := s
  exact (h.2.1 c h1 h2).1
theorem SH_S {S : Int → Int → Prop} {f g : Nat → Int} (h : HUL S f g) {x y : Int} (s : SH f g 0 x y) : S x y := by
  obtain ⟨c, _, h1, h2, rfl, rfl⟩ := s
  exact (h.2.1 c h1 h2).2
theorem cx_up {a b c d e : Int} : cx a b c d = cx a b c e + a * (d - e) := by unfold cx; grind
/-- an edge over the lowest points is one of S -/
theorem edS_l {S : Int → Int → Prop} {f g : Nat → Int} (h : HUL S f g) {X Y : Nat → Int} {b m a : Nat} (C : chx (SL f g 161) X Y b m) (ha : b ≤ a) (hh : a + 1 < m) : edS S (X a) (Y a) (X (a + 1)) (Y (a + 1)) := by
  have d := C.2.2.1 a ha hh
  have hx : 0 < X (a + 1) - X a := by
    obtain ⟨c1, _, _, e1, e2⟩ := C.2.1 a ha (by omega)
    obtain ⟨c2, _, _, e3, e4⟩ := C.2.1 (a + 1) (by omega) hh
    rcases d with d | ⟨d1, d2⟩
    · exact d
    · have : c1 = c2 := by omega
      subst this
      omega
  refine ⟨by omega, fun x y s => ?_⟩
  have q := C.2.2.2.2.1 a ha hh _ _ (HUL_l h s).1
  have r := (h.1 x y s).2.1
  have m0 := Int.mul_nonneg (show 0 ≤ X (a + 1) - X a by omega) (show 0 ≤ (y - Y a) - (f (x + 80).toNat - Y a) by omega)
  have e := cx_up (a := X (a + 1) - X a) (b := Y (a + 1) - Y a) (c := x - X a) (d := y - Y a) (e := f (x + 80).toNat - Y a)
  have q1 := q.1
  refine ⟨by omega, fun z => Or.inl ?_⟩
  have ey : y = f (x + 80).toNat := by
    by_cases w : y = f (x + 80).toNat
    · exact w
    · have m1 := Int.mul_pos hx (show 0 < (y - Y a) - (f (x + 80).toNat - Y a) by omega)
      omega
  have q2 := q.2 (by rw [← ey]; exact z)
  rw [← ey] at q2
  exact q2
theorem edS_h {S : Int → Int → Prop} {f g : Nat → Int} (h : HUL S f g) {X Y : Nat → Int} {b m a : Nat} (C : chx (ngS (SH f g 0)) (ng X) (ng Y) b m) (ha : b ≤ a) (hh : a + 1 < m) : edS S (X a) (Y a) (X (a + 1)) (Y (a + 1)) := by
  have d := C.2.2.1 a ha hh
  unfold ng at d
  have hx : X (a + 1) - X a < 0 := by
    obtain ⟨c1, _, _, _, e1, e2⟩ := ngS_n.mp (C.2.1 a ha (by omega))
    obtain ⟨c2, _, _, _, e3, e4⟩ := ngS_n.mp (C.2.1 (a + 1) (by omega) hh)
    rcases d with d | ⟨d1, d2⟩
    · omega
    · have : c1 = c2 := by omega
      subst this
      omega
  refine ⟨by omega, fun x y s => ?_⟩
  have q := C.2.2.2.2.1 a ha hh (-x) (-(g (x + 80).toNat)) (ngS_n.mpr (HUL_l h s).2)
  unfold edg ng at q
  rw [cx_nn (g := 0) (h := 0)] at q
  have r := (h.1 x y s).2.2
  have m0 := Int.mul_nonneg (show 0 ≤ X a - X (a + 1) by omega) (show 0 ≤ (g (x + 80).toNat - Y a) - (y - Y a) by omega)
  have e := cx_up (a := X (a + 1) - X a) (b := Y (a + 1) - Y a) (c := x - X a) (d := y - Y a) (e := g (x + 80).toNat - Y a)
  have e2 : (X (a + 1) - X a) * (y - Y a - (g (x + 80).toNat - Y a)) = (X a - X (a + 1)) * ((g (x + 80).toNat - Y a) - (y - Y a)) := by grind
  have q1 := q.1
  refine ⟨by omega, fun z => Or.inr ?_⟩
  have ey : y = g (x + 80).toNat := by
    by_cases w : y = g (x + 80).toNat
    · exact w
    · have m1 := Int.mul_pos (show 0 < X a - X (a + 1) by omega) (show 0 < (g (x + 80).toNat - Y a) - (y - Y a) by omega)
      omega
  have q2 := q.2 (by rw [← ey]; exact z)
  rw [← ey] at q2
  unfold lxn at q2 ⊢
  omega
/-- upright edges -/
theorem edS_u1 {S : Int → Int → Prop} {px py ey : Int} (hp : py < ey) (h : ∀ x y : Int, S x y → x < px ∨ (x = px ∧ py ≤ y ∧ y ≤ ey)) : edS S px py px ey := by
  refine ⟨by omega, fun x y s => ?_⟩
  have e : cx (px - px) (ey - py) (x - px) (y - py) = (ey - py) * (px - x) := by unfold cx; grind
  rw [e]
  rcases h x y s with q | ⟨q, q1, q2⟩
  · have m := Int.mul_pos (show 0 < ey - py by omega) (show 0 < px - x by omega)
    exact ⟨by omega, fun z => by omega⟩
  · subst q
    rw [show x - x = 0 by omega, Int.mul_zero]
    exact ⟨by omega, fun _ => Or.inl (by unfold lxn; omega)⟩
theorem edS_u2 {S : Int → Int → Prop} {px py ey : Int} (hp : ey < py) (h : ∀ x y : Int, S x y → px < x ∨ (x = px ∧ ey ≤ y ∧ y ≤ py)) : edS S px py px ey := by
  refine ⟨by omega, fun x y s => ?_⟩
  have e : cx (px - px) (ey - py) (x - px) (y - py) = (py - ey) * (x - px) := by unfold cx; grind
  rw [e]
  rcases h x y s with q | ⟨q, q1, q2⟩
  · have m := Int.mul_pos (show 0 < py - ey by omega) (show 0 < x - px by omega)
    exact ⟨by omega, fun z => by omega⟩
  · subst q
    rw [show x - x = 0 by omega, Int.mul_zero]
    exact ⟨by omega, fun _ => Or.inr (by unfold lxn; omega)⟩
/-- the class's hull: lower chain to m, an upright edge or none, upper chain from b on to k - 1; n of them are told -/
theorem HS_k {S : Int → Int → Prop} {f g : Nat → Int} (h : HUL S f g) {X Y : Nat → Int} {m b k n : Nat} (C1 : chx (SL f g 161) X Y 0 (m + 1)) (C2 : chx (ngS (SH f g 0)) (ng X) (ng Y) b k) (hb : (b = m ∧ Y b = Y m) ∨ (b = m + 1 ∧ X b = X m ∧ Y m < Y b)) (hn : (n = k ∧ (k ≤ 1 ∨ X 0 ≠ X (k - 1) ∨ Y 0 ≠ Y (k - 1))) ∨ (n + 1 = k ∧ 1 < k ∧ X 0 = X (k - 1) ∧ Y 0 = Y (k - 1))) : HS S n X Y := by
  have hbk := C2.1
  have s0 : S (X 0) (Y 0) := SL_S h (C1.2.1 0 (by omega) (by omega))
  -- the ends
  have L0 : ∀ x y : Int, S x y → X 0 < x ∨ (x = X 0 ∧ Y 0 ≤ y) := fun x y s => by
    have q := (C1.2.2.2.1 _ _ (HUL_l h s).1).1
    have r := (h.1 x y s).2
    obtain ⟨c, _, _, e1, e2⟩ := C1.2.1 0 (by omega) (by omega)
    unfold lxn at q
    omega
  have Lm : ∀ x y : Int, S x y → x ≤ X m := fun x y s => by
    have q := (C1.2.2.2.1 _ _ (HUL_l h s).1).2
    rw [show m + 1 - 1 = m by omega] at q
    unfold lxn at q
    omega
  have Xb : X b = X m := by
    rcases hb with q | q
    · rw [q.1]
    · exact q.2.1
  have Hb : ∀ x y : Int, S x y → x = X m → y ≤ Y b := fun x y s e => by
    have q := (C2.2.2.2.1 _ _ (ngS_n.mpr (HUL_l h s).2)).1
    have r := (h.1 x y s).2
    unfold lxn ng at q
    omega
  have He : ∀ x y : Int, S x y → X (k - 1) < x ∨ (x = X (k - 1) ∧ y ≤ Y (k - 1)) := fun x y s => by
    have q := (C2.2.2.2.1 _ _ (ngS_n.mpr (HUL_l h s).2)).2
    have r := (h.1 x y s).2
    obtain ⟨c, _, _, _, e1, e2⟩ := ngS_n.mp (C2.2.1 (k - 1) (by omega) (by omega))
    unfold lxn ng at q
    by_cases z : x = X (k - 1)
    · rw [show (x + 80).toNat = c by omega] at r
      omega
    · omega
  have Se : S (X (k - 1)) (Y (k - 1)) := SH_S h (ngS_n.mp (C2.2.1 (k - 1) (by omega) (by omega)))
  have Sm : S (X m) (Y m) := SL_S h (C1.2.1 m (by omega) (by omega))
  have Lmy : ∀ x y : Int, S x y → x = X m → Y m ≤ y := fun x y s e => by
    have r := (h.1 x y s).2
    obtain ⟨c, _, _, e1, e2⟩ := C1.2.1 m (by omega) (by omega)
    rw [show (x + 80).toNat = c by omega] at r
    omega
  have X0e : X (k - 1) = X 0 := by
    have q1 := L0 _ _ Se
    have q2 := He _ _ s0
    omega
  have Y0e : Y 0 ≤ Y (k - 1) := by
    have q1 := L0 _ _ Se
    omega
  by_cases one : k = 1
  · -- one point
    have b0 : b = 0 := by omega
    have m0 : m = 0 := by omega
    subst m0
    have n1 : n = 1 := by omega
    subst n1
    refine HS_1 s0 (fun x y s => ?_)
    have q1 := L0 x y s
    have q2 := He x y s
    rw [one] at q2
    have q3 := Lm x y s
    rw [show 1 - 1 = 0 from rfl] at q2
    omega
  have hn2 : 2 ≤ n := by
    rcases hn with ⟨q, _⟩ | ⟨q, q2, q3, q4⟩
    · omega
    · apply Nat.le_of_not_lt
      intro w
      have k2 : k = 2 := by omega
      subst k2
      rw [show 2 - 1 = 1 from rfl] at q3 q4
      rcases hb with ⟨b1, b2⟩ | ⟨b1, b2, b3⟩
      · by_cases e : b = 0
        · have d := chx_lt C2 (a := 0) (c := 1) (by omega) (by omega) (by omega)
          unfold lxp ng at d
          omega
        · have d := chx_lt C1 (a := 0) (c := 1) (by omega) (by omega) (by omega)
          unfold lxp at d
          omega
      · have : m = 0 := by omega
        subst this
        rw [b1, show 0 + 1 = 1 from rfl] at b3
        omega
  refine Or.inr ⟨by omega, s0, fun x y s => by have q := L0 x y s; unfold lxn; omega, Or.inr ⟨by omega, fun a ha hh => ⟨?_, ?_⟩, fun a ha => ?_⟩⟩
  · by_cases e : a ≤ m
    · exact SL_S h (C1.2.1 a (by omega) (by omega))
    · exact SH_S h (ngS_n.mp (C2.2.1 a (by omega) (by omega)))
  · by_cases e : a ≤ m
    · have d := chx_lt C1 (a := 0) (c := a) (by omega) ha (by omega)
      unfold lxp at d; omega
    · by_cases w : a < k - 1
      · have d := chx_lt C2 (a := a) (c := k - 1) (by omega) w (by omega)
        unfold lxp ng at d; omega
      · have ea : a = k - 1 := by omega
        subst ea
        rcases hn with ⟨_, q⟩ | ⟨q, _⟩
        · omega
        · omega
  · have n1 : a + 1 < k → nxt X n a = X (a + 1) ∧ nxt Y n a = Y (a + 1) := fun w => by
      unfold nxt
      split
      · exact ⟨rfl, rfl⟩
      · rcases hn with ⟨q, _⟩ | ⟨q, _, q3, q4⟩
        · omega
        · rw [show a + 1 = k - 1 by omega]; exact ⟨q3, q4⟩
    by_cases w : a + 1 < k
    · rw [(n1 w).1, (n1 w).2]
      by_cases e : a < m
      · exact edS_l h C1 (by omega) (by omega)
      · by_cases e2 : b ≤ a
        · exact edS_h h C2 e2 w
        · rcases hb with ⟨b1, _⟩ | ⟨b1, b2, b3⟩
          · omega
          · have ea : a = m := by omega
            subst ea
            rw [← b1, b2]
            refine edS_u1 b3 (fun x y s => ?_)
            have q1 := Lm x y s
            by_cases z : x = X a
            · exact Or.inr ⟨z, Lmy x y s z, Hb x y s z⟩
            · omega
    · -- the upright edge at the left end
      have ea : a = k - 1 := by omega
      have en : n = k := by omega
      subst ea
      have n2 : nxt X n (k - 1) = X 0 ∧ nxt Y n (k - 1) = Y 0 := by
        unfold nxt
        rw [if_neg (by omega), if_neg (by omega)]
        exact ⟨rfl, rfl⟩
      rw [n2.1, n2.2]
      have hy : Y 0 < Y (k - 1) := by
        rcases hn with ⟨_, q⟩ | ⟨q, _⟩
        · omega
        · omega
      rw [← X0e]
      refine edS_u2 hy (fun x y s => ?_)
      have q1 := L0 x y s
      have q2 := He x y s
      omega

