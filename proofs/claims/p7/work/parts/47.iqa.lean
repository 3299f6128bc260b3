
set_option maxHeartbeats 4000000 in
set_option maxRecDepth 100000 in
theorem c_X7_allTimes2 (l : Launch) (D : JD) (q : Nat → Nat) (u : CS) (r : Nat) (hr : r ≤ 8) (K : Int) (n : Int) (p0 : 0 ≤ K ∧ K ≤ 80) (p1 : RB K u r) (p2 : 0 ≤ n ∧ n ≤ 1000) : Met l yX7_allTimes (jw yX7_allTimes cX7_allTimes 2 (some .long)) (jr 4 88) (jP [.ref (q (9 + 5 * r)), .int (J n)] D (fun H => va_P D.1 j_cl (cW D q u) H)) (vp_Sl (fun x9 => x9 = Int64.ofInt (atI n (rA u r) (rE u r) (u.1.2.2.1 r)))) 0 0 (fun _ => False) := by
  refine Met.ofW (cc := cX7_allTimes) (maxL := 2) (ret := (some .long)) (by decide) rfl ?_
  intro pr en st mi args below meth co s₁ B hml hv
  obtain ⟨rfl, hG, hP⟩ := hv
  have hr := B.returns
  have hlk := B.notSynchronized
  have SS : jS pr mi co cX7_allTimes 2 st _ RX7 := ⟨B.exec, B.bytes, hml, findClass_of_methodNamed B.named, fun w hw => atoms_spec (ws := (jw yX7_allTimes cX7_allTimes 2 (some .long))) B.pre w (List.mem_cons_of_mem _ hw)⟩
  have hl := lv_entry ([.ref (q (9 + 5 * r)), .int (J n)]) (n := 2) (Nat.le_of_ble_eq_true rfl)
  rw [lg_entry_eq]
  generalize (lg_sl ([.ref (q (9 + 5 * r)), .int (J n)]) ++ List.replicate (2 - (lg_sl ([.ref (q (9 + 5 * r)), .int (J n)])).length) Slot.unset).toArray = ls at hl ⊢
  have hl : lv_has ls 2 [(0, .ref (q (9 + 5 * r))), (1, .int (J n))] := hl
  have hc := p1.1
  have hrl := rl_b r
  refine lv_aload_n SS.1 SS.2.1 dX7_allTimes_0 rfl (lv_at hl 0 rfl) ?_
  refine j_getS SS hG hP (9 + 5 * r) (v := .int (J (u.1.2.2.1 r))) (C := RX7) (T := TX7) (N := 3) (cw_ring (by omega)) rfl inX7 2 (by decide) (ref := "GridPolygons$Ring") kw_131 kw_132 rfl dX7_allTimes_1 ?_
  refine j_if_ne SS (tgt := 9) (x := (u.1.2.2.1 r)) dX7_allTimes_4 (by decide) (by omega) (fun c_4 => ?_) (fun c_4 => ?_)
  · skip
    refine lv_aload_n SS.1 SS.2.1 dX7_allTimes_9 rfl (lv_at hl 0 rfl) ?_
    refine j_getS SS hG hP (9 + 5 * r) (v := .int (J (u.1.2.2.1 r))) (C := RX7) (T := TX7) (N := 3) (cw_ring (by omega)) rfl inX7 2 (by decide) (ref := "GridPolygons$Ring") kw_131 kw_132 rfl dX7_allTimes_10 ?_
    refine j_iconst SS dX7_allTimes_13 ?_
    refine j_icmp_ge SS (tgt := 30) (x := (u.1.2.2.1 r)) (y := 3) dX7_allTimes_14 (by decide) (by omega) (by decide) (fun c_14 => ?_) (fun c_14 => ?_)
    · skip
      refine lv_iload_n SS.1 SS.2.1 dX7_allTimes_30 rfl (lv_at hl 1 rfl) ?_
      refine lv_i2l SS.1 SS.2.1 dX7_allTimes_31 rfl ?_
      refine lv_iload_n SS.1 SS.2.1 dX7_allTimes_32 rfl (lv_at hl 1 rfl) ?_
      refine lv_i2l SS.1 SS.2.1 dX7_allTimes_33 rfl ?_
      refine lv_lmul SS.1 SS.2.1 dX7_allTimes_34 ?_
      refine lv_aload_n SS.1 SS.2.1 dX7_allTimes_35 rfl (lv_at hl 0 rfl) ?_
      refine j_vRi SS (As := []) (rest := [.long (((J n).toInt64) * ((J n).toInt64))]) (c_X7_area l D q u r (by omega) K  (show 0 ≤ K ∧ K ≤ 80 from (p0)) (show RB K u r from (p1))) mf_X7_area kw_551 hG hP hP (ci := 7) (q0 := (9 + 5 * r)) rfl (cw_ring (by omega)) rfl rfl hl.1 ⟨⟨Nat.le_of_ble_eq_true rfl, Nat.le_of_ble_eq_true rfl⟩, Nat.le_of_ble_eq_true rfl, Nat.le_refl _, Nat.le_refl _⟩ rfl dX7_allTimes_36 (fun z_36 h_36 => ?_)
      have h_36 : z_36 = rA u r ∧ -10000000 ≤ z_36 ∧ z_36 ≤ 10000000 := h_36
      refine lv_i2l SS.1 SS.2.1 dX7_allTimes_39 rfl ?_
      refine lv_lmul SS.1 SS.2.1 dX7_allTimes_40 ?_
      refine lv_iload_n SS.1 SS.2.1 dX7_allTimes_41 rfl (lv_at hl 1 rfl) ?_
      refine lv_i2l SS.1 SS.2.1 dX7_allTimes_42 rfl ?_
      refine lv_aload_n SS.1 SS.2.1 dX7_allTimes_43 rfl (lv_at hl 0 rfl) ?_
      refine j_vRi SS (As := []) (rest := [.long ((J n).toInt64), .long ((((J n).toInt64) * ((J n).toInt64)) * ((J z_36).toInt64))]) (c_X7_onEdge l D q u r (by omega) K  (show 0 ≤ K ∧ K ≤ 80 from (p0)) (show RB K u r from (p1))) mf_X7_onEdge kw_552 hG hP hP (ci := 7) (q0 := (9 + 5 * r)) rfl (cw_ring (by omega)) rfl rfl hl.1 ⟨⟨Nat.le_of_ble_eq_true rfl, Nat.le_of_ble_eq_true rfl⟩, Nat.le_of_ble_eq_true rfl, Nat.le_refl _, Nat.le_refl _⟩ rfl dX7_allTimes_44 (fun z_44 h_44 => ?_)
      have h_44 : z_44 = rE u r ∧ 0 ≤ z_44 ∧ z_44 ≤ 60000 := h_44
      refine lv_i2l SS.1 SS.2.1 dX7_allTimes_47 rfl ?_
      refine lv_lmul SS.1 SS.2.1 dX7_allTimes_48 ?_
      refine lv_ladd SS.1 SS.2.1 dX7_allTimes_49 ?_
      refine lv_ldc2 SS.1 SS.2.1 SS.2.2.2.1 (SS.2.2.2.2 _ kw_567) dX7_allTimes_50 ?_
      refine lv_ldiv SS.1 SS.2.1 dX7_allTimes_53 (by decide +kernel) (lv_topl (fun x_53 ex_53 => ?_))
      refine lv_lconst (v := 1) SS.1 SS.2.1 dX7_allTimes_54 (by decide +kernel) ?_
      refine lv_ladd SS.1 SS.2.1 dX7_allTimes_55 ?_
      exact W.lret SS.1 SS.2.1 hr (fun t0 ht hW => ⟨_, rfl, (by unfold atI; rw [if_neg (by omega), if_neg (by omega), ← h_36.1, ← h_44.1]; exact at_3 p2 (by omega) (by omega) ex_53), ht⟩) (fun _ h => nomatch h) dX7_allTimes_56 hlk
    · skip
      refine lv_iload_n SS.1 SS.2.1 dX7_allTimes_17 rfl (lv_at hl 1 rfl) ?_
      refine lv_i2l SS.1 SS.2.1 dX7_allTimes_18 rfl ?_
      refine lv_aload_n SS.1 SS.2.1 dX7_allTimes_19 rfl (lv_at hl 0 rfl) ?_
      refine j_vRi SS (As := []) (rest := [.long ((J n).toInt64)]) (c_X7_onEdge l D q u r (by omega) K  (show 0 ≤ K ∧ K ≤ 80 from (p0)) (show RB K u r from (p1))) mf_X7_onEdge kw_552 hG hP hP (ci := 7) (q0 := (9 + 5 * r)) rfl (cw_ring (by omega)) rfl rfl hl.1 ⟨⟨Nat.le_of_ble_eq_true rfl, Nat.le_of_ble_eq_true rfl⟩, Nat.le_of_ble_eq_true rfl, Nat.le_refl _, Nat.le_refl _⟩ rfl dX7_allTimes_20 (fun z_20 h_20 => ?_)
      have h_20 : z_20 = rE u r ∧ 0 ≤ z_20 ∧ z_20 ≤ 60000 := h_20
      refine j_iconst SS dX7_allTimes_23 ?_
      refine j_isub SS (x := z_20) (y := 1) dX7_allTimes_24 ?_
      refine lv_i2l SS.1 SS.2.1 dX7_allTimes_25 rfl ?_
      refine lv_lmul SS.1 SS.2.1 dX7_allTimes_26 ?_
      refine lv_lconst (v := 1) SS.1 SS.2.1 dX7_allTimes_27 (by decide +kernel) ?_
      refine lv_ladd SS.1 SS.2.1 dX7_allTimes_28 ?_
      exact W.lret SS.1 SS.2.1 hr (fun t0 ht hW => ⟨_, rfl, (by unfold atI; rw [if_neg (by omega), if_pos (by omega), ← h_20.1]; exact at_1 p2 (by omega)), ht⟩) (fun _ h => nomatch h) dX7_allTimes_29 hlk
  · skip
    refine lv_lconst (v := 0) SS.1 SS.2.1 dX7_allTimes_7 (by decide +kernel) ?_
    exact W.lret SS.1 SS.2.1 hr (fun t0 ht hW => ⟨_, rfl, (by unfold atI; rw [if_pos (by omega)]; rfl), ht⟩) (fun _ h => nomatch h) dX7_allTimes_8 hlk

set_option maxHeartbeats 4000000 in
set_option maxRecDepth 100000 in
theorem c_X7_insideTimes2 (l : Launch) (D : JD) (q : Nat → Nat) (u : CS) (r : Nat) (hr : r ≤ 8) (K : Int) (n : Int) (p0 : 0 ≤ K ∧ K ≤ 80) (p1 : RB K u r) (p2 : 0 ≤ n ∧ n ≤ 1000) : Met l yX7_insideTimes (jw yX7_insideTimes cX7_insideTimes 2 (some .long)) (jr 4 88) (jP [.ref (q (9 + 5 * r)), .int (J n)] D (fun H => va_P D.1 j_cl (cW D q u) H)) (vp_Sl (fun x9 => x9 = Int64.ofInt (itI n (rA u r) (rE u r)))) 0 0 (fun _ => False) := by
  refine Met.ofW (cc := cX7_insideTimes) (maxL := 2) (ret := (some .long)) (by decide) rfl ?_
  intro pr en st mi args below meth co s₁ B hml hv
  obtain ⟨rfl, hG, hP⟩ := hv
  have hr := B.returns
  have hlk := B.notSynchronized
  have SS : jS pr mi co cX7_insideTimes 2 st _ RX7 := ⟨B.exec, B.bytes, hml, findClass_of_methodNamed B.named, fun w hw => atoms_spec (ws := (jw yX7_insideTimes cX7_insideTimes 2 (some .long))) B.pre w (List.mem_cons_of_mem _ hw)⟩
  have hl := lv_entry ([.ref (q (9 + 5 * r)), .int (J n)]) (n := 2) (Nat.le_of_ble_eq_true rfl)
  rw [lg_entry_eq]
  generalize (lg_sl ([.ref (q (9 + 5 * r)), .int (J n)]) ++ List.replicate (2 - (lg_sl ([.ref (q (9 + 5 * r)), .int (J n)])).length) Slot.unset).toArray = ls at hl ⊢
  have hl : lv_has ls 2 [(0, .ref (q (9 + 5 * r))), (1, .int (J n))] := hl
  have hc := p1.1
  have hrl := rl_b r
  refine lv_iload_n SS.1 SS.2.1 dX7_insideTimes_0 rfl (lv_at hl 1 rfl) ?_
  refine j_if_ne SS (tgt := 8) (x := n) dX7_insideTimes_1 (by decide) (by omega) (fun c_1 => ?_) (fun c_1 => ?_)
  · skip
    refine lv_iload_n SS.1 SS.2.1 dX7_insideTimes_8 rfl (lv_at hl 1 rfl) ?_
    refine lv_i2l SS.1 SS.2.1 dX7_insideTimes_9 rfl ?_
    refine lv_iload_n SS.1 SS.2.1 dX7_insideTimes_10 rfl (lv_at hl 1 rfl) ?_
    refine lv_i2l SS.1 SS.2.1 dX7_insideTimes_11 rfl ?_
    refine lv_lmul SS.1 SS.2.1 dX7_insideTimes_12 ?_
    refine lv_aload_n SS.1 SS.2.1 dX7_insideTimes_13 rfl (lv_at hl 0 rfl) ?_
    refine j_vRi SS (As := []) (rest := [.long (((J n).toInt64) * ((J n).toInt64))]) (c_X7_area l D q u r (by omega) K  (show 0 ≤ K ∧ K ≤ 80 from (p0)) (show RB K u r from (p1))) mf_X7_area kw_551 hG hP hP (ci := 7) (q0 := (9 + 5 * r)) rfl (cw_ring (by omega)) rfl rfl hl.1 ⟨⟨Nat.le_of_ble_eq_true rfl, Nat.le_of_ble_eq_true rfl⟩, Nat.le_of_ble_eq_true rfl, Nat.le_refl _, Nat.le_refl _⟩ rfl dX7_insideTimes_14 (fun z_14 h_14 => ?_)
    have h_14 : z_14 = rA u r ∧ -10000000 ≤ z_14 ∧ z_14 ≤ 10000000 := h_14
    refine lv_i2l SS.1 SS.2.1 dX7_insideTimes_17 rfl ?_
    refine lv_lmul SS.1 SS.2.1 dX7_insideTimes_18 ?_
    refine lv_iload_n SS.1 SS.2.1 dX7_insideTimes_19 rfl (lv_at hl 1 rfl) ?_
    refine lv_i2l SS.1 SS.2.1 dX7_insideTimes_20 rfl ?_
    refine lv_aload_n SS.1 SS.2.1 dX7_insideTimes_21 rfl (lv_at hl 0 rfl) ?_
    refine j_vRi SS (As := []) (rest := [.long ((J n).toInt64), .long ((((J n).toInt64) * ((J n).toInt64)) * ((J z_14).toInt64))]) (c_X7_onEdge l D q u r (by omega) K  (show 0 ≤ K ∧ K ≤ 80 from (p0)) (show RB K u r from (p1))) mf_X7_onEdge kw_552 hG hP hP (ci := 7) (q0 := (9 + 5 * r)) rfl (cw_ring (by omega)) rfl rfl hl.1 ⟨⟨Nat.le_of_ble_eq_true rfl, Nat.le_of_ble_eq_true rfl⟩, Nat.le_of_ble_eq_true rfl, Nat.le_refl _, Nat.le_refl _⟩ rfl dX7_insideTimes_22 (fun z_22 h_22 => ?_)
    have h_22 : z_22 = rE u r ∧ 0 ≤ z_22 ∧ z_22 ≤ 60000 := h_22
    refine lv_i2l SS.1 SS.2.1 dX7_insideTimes_25 rfl ?_
    refine lv_lmul SS.1 SS.2.1 dX7_insideTimes_26 ?_
    refine lv_lsub SS.1 SS.2.1 dX7_insideTimes_27 ?_
    refine lv_ldc2 SS.1 SS.2.1 SS.2.2.2.1 (SS.2.2.2.2 _ kw_567) dX7_insideTimes_28 ?_
    refine lv_ldiv SS.1 SS.2.1 dX7_insideTimes_31 (by decide +kernel) (lv_topl (fun x_31 ex_31 => ?_))
    refine lv_lconst (v := 1) SS.1 SS.2.1 dX7_insideTimes_32 (by decide +kernel) ?_
    refine lv_ladd SS.1 SS.2.1 dX7_insideTimes_33 ?_
    exact W.lret SS.1 SS.2.1 hr (fun t0 ht hW => ⟨_, rfl, (by first | (unfold itI; rw [if_pos (by omega)]; rfl) | (unfold itI; rw [if_neg (by omega), ← h_14.1, ← h_22.1]; exact it_3 p2 (by omega) (by omega) ex_31)), ht⟩) (fun _ h => nomatch h) dX7_insideTimes_34 hlk
  · skip
    refine lv_lconst (v := 0) SS.1 SS.2.1 dX7_insideTimes_4 (by decide +kernel) ?_
    refine lv_goto (tgt := 34) SS.1 SS.2.1 dX7_insideTimes_5 (by decide) ?_
    exact W.lret SS.1 SS.2.1 hr (fun t0 ht hW => ⟨_, rfl, (by first | (unfold itI; rw [if_pos (by omega)]; rfl) | (unfold itI; rw [if_neg (by omega), ← h_14.1, ← h_22.1]; exact it_3 p2 (by omega) (by omega) ex_31)), ht⟩) (fun _ h => nomatch h) dX7_insideTimes_34 hlk

set_option maxHeartbeats 4000000 in
set_option maxRecDepth 100000 in
theorem c_X11_timesN (l : Launch) (D : JD) (q : Nat → Nat) (u : CS) (s : Int) (n : Int) (what : Int) (p0 : CI u) (p1 : -2147483648 ≤ s ∧ s ≤ 2147483647) (p2 : -2147483648 ≤ n ∧ n ≤ 2147483647) (p3 : -2147483648 ≤ what ∧ what ≤ 2147483647) : Met l yX11_times (jw yX11_times cX11_times 5 (some .long)) (jr 5 109) (jP [.ref (q 0), .int (J s), .int (J n), .int (J what)] D (fun H => va_P D.1 j_cl (cW D q u) H)) (vp_Sl (fun x9 => tiC u s n what x9)) 0 0 (fun _ => False) := by
  refine Met.ofW (cc := cX11_times) (maxL := 5) (ret := (some .long)) (by decide) rfl ?_
  intro pr en st mi args below meth co s₁ B hml hv
  obtain ⟨rfl, hG, hP⟩ := hv
  have hr := B.returns
  have hlk := B.notSynchronized
  have SS : jS pr mi co cX11_times 5 st _ RX11 := ⟨B.exec, B.bytes, hml, findClass_of_methodNamed B.named, fun w hw => atoms_spec (ws := (jw yX11_times cX11_times 5 (some .long))) B.pre w (List.mem_cons_of_mem _ hw)⟩
  have hl := lv_entry ([.ref (q 0), .int (J s), .int (J n), .int (J what)]) (n := 5) (Nat.le_of_ble_eq_true rfl)
  rw [lg_entry_eq]
  generalize (lg_sl ([.ref (q 0), .int (J s), .int (J n), .int (J what)]) ++ List.replicate (5 - (lg_sl ([.ref (q 0), .int (J s), .int (J n), .int (J what)])).length) Slot.unset).toArray = ls at hl ⊢
  have hl : lv_has ls 5 [(0, .ref (q 0)), (1, .int (J s)), (2, .int (J n)), (3, .int (J what))] := hl
  refine lv_aload_n SS.1 SS.2.1 dX11_times_0 rfl (lv_at hl 0 rfl) ?_
  refine lv_iload_n SS.1 SS.2.1 dX11_times_1 rfl (lv_at hl 1 rfl) ?_
  refine j_vSh SS (As := [.int (J s)]) (rest := []) (c_X11_shapeAt l D q u  s (show -2147483648 ≤ s ∧ s ≤ 2147483647 from (p1))) mf_X11_shapeAt kw_414 hG hP hP (ci := 11) (q0 := 0) rfl rfl rfl rfl hl.1 ⟨⟨Nat.le_of_ble_eq_true rfl, Nat.le_of_ble_eq_true rfl⟩, Nat.le_of_ble_eq_true rfl, Nat.le_refl _, Nat.le_refl _⟩ rfl dX11_times_2 (fun i_2 hi_2 hz_2 => ?_) (fun hn_2 => ?_)
  · skip
    have hI2 := CI_s p0 (show i_2 < 8 by omega)
    have hI2c := hI2.1
    have hrl2 := rl_s (show i_2 < 8 by omega)
    refine lv_astore (lv' := [(4, .ref (q (8 + 5 * i_2))), (0, .ref (q 0)), (1, .int (J s)), (2, .int (J n)), (3, .int (J what))]) SS.1 SS.2.1 dX11_times_5 hl (by decide) rfl (fun ls hl => ?_)
    refine lv_aload SS.1 SS.2.1 dX11_times_7 (lv_at hl 0 rfl) ?_
    refine lv_ifnull SS.1 SS.2.1 dX11_times_9 ?_
    refine lv_iload_n SS.1 SS.2.1 dX11_times_12 rfl (lv_at hl 3 rfl) ?_
    refine j_if_lt SS (tgt := 32) (x := n) dX11_times_13 (by decide) (by omega) (fun c_13 => ?_) (fun c_13 => ?_)
    · skip
      refine lv_ldc2 SS.1 SS.2.1 SS.2.2.2.1 (SS.2.2.2.2 _ kw_562) dX11_times_32 ?_
      exact W.lret SS.1 SS.2.1 hr (fun t0 ht hW => ⟨_, rfl, (by first | exact Or.inl ⟨fun q => by unfold tiP at q; omega, rfl⟩ | exact Or.inr ⟨by unfold tiP; omega, by unfold tiV; rw [if_pos (by omega), show s.toNat = i_2 by omega]; exact h_46⟩ | exact Or.inr ⟨by unfold tiP; omega, by unfold tiV; rw [if_neg (by omega), show s.toNat = i_2 by omega, if_pos (by omega)]; exact h_67⟩ | exact Or.inr ⟨by unfold tiP; omega, by unfold tiV; rw [if_neg (by omega), show s.toNat = i_2 by omega, if_neg (by omega)]; rfl⟩), ht⟩) (fun _ h => nomatch h) dX11_times_35 hlk
    · skip
      refine lv_iload_n SS.1 SS.2.1 dX11_times_16 rfl (lv_at hl 3 rfl) ?_
      refine j_sipush SS dX11_times_17 (by decide +kernel) ?_
      refine j_icmp_gt SS (tgt := 32) (x := n) (y := 1000) dX11_times_20 (by decide) (by omega) (by decide) (fun c_20 => ?_) (fun c_20 => ?_)
      · skip
        refine lv_ldc2 SS.1 SS.2.1 SS.2.2.2.1 (SS.2.2.2.2 _ kw_562) dX11_times_32 ?_
        exact W.lret SS.1 SS.2.1 hr (fun t0 ht hW => ⟨_, rfl, (by first | exact Or.inl ⟨fun q => by unfold tiP at q; omega, rfl⟩ | exact Or.inr ⟨by unfold tiP; omega, by unfold tiV; rw [if_pos (by omega), show s.toNat = i_2 by omega]; exact h_46⟩ | exact Or.inr ⟨by unfold tiP; omega, by unfold tiV; rw [if_neg (by omega), show s.toNat = i_2 by omega, if_pos (by omega)]; exact h_67⟩ | exact Or.inr ⟨by unfold tiP; omega, by unfold tiV; rw [if_neg (by omega), show s.toNat = i_2 by omega, if_neg (by omega)]; rfl⟩), ht⟩) (fun _ h => nomatch h) dX11_times_35 hlk
      · skip
        refine lv_iload_n SS.1 SS.2.1 dX11_times_23 rfl (lv_at hl 4 rfl) ?_
        refine j_if_lt SS (tgt := 32) (x := what) dX11_times_24 (by decide) (by omega) (fun c_24 => ?_) (fun c_24 => ?_)
        · skip
          refine lv_ldc2 SS.1 SS.2.1 SS.2.2.2.1 (SS.2.2.2.2 _ kw_562) dX11_times_32 ?_
          exact W.lret SS.1 SS.2.1 hr (fun t0 ht hW => ⟨_, rfl, (by first | exact Or.inl ⟨fun q => by unfold tiP at q; omega, rfl⟩ | exact Or.inr ⟨by unfold tiP; omega, by unfold tiV; rw [if_pos (by omega), show s.toNat = i_2 by omega]; exact h_46⟩ | exact Or.inr ⟨by unfold tiP; omega, by unfold tiV; rw [if_neg (by omega), show s.toNat = i_2 by omega, if_pos (by omega)]; exact h_67⟩ | exact Or.inr ⟨by unfold tiP; omega, by unfold tiV; rw [if_neg (by omega), show s.toNat = i_2 by omega, if_neg (by omega)]; rfl⟩), ht⟩) (fun _ h => nomatch h) dX11_times_35 hlk
        · skip
          refine lv_iload_n SS.1 SS.2.1 dX11_times_27 rfl (lv_at hl 4 rfl) ?_
          refine j_iconst SS dX11_times_28 ?_
          refine j_icmp_le SS (tgt := 36) (x := what) (y := 1) dX11_times_29 (by decide) (by omega) (by decide) (fun c_29 => ?_) (fun c_29 => ?_)
          · skip
            refine lv_iload_n SS.1 SS.2.1 dX11_times_36 rfl (lv_at hl 4 rfl) ?_
            refine j_if_ne SS (tgt := 50) (x := what) dX11_times_37 (by decide) (by omega) (fun c_37 => ?_) (fun c_37 => ?_)
            · skip
              refine lv_aload SS.1 SS.2.1 dX11_times_50 (lv_at hl 0 rfl) ?_
              refine j_get SS hG hP (8 + 5 * i_2) (v := .ref (q (9 + 5 * i_2))) (C := RX10) (T := TX10) (N := 3) (cw_shape (by omega)) rfl inX10 0 (by decide) (ref := "GridPolygons$Shape") kw_151 rfl rfl dX11_times_52 ?_
              refine j_vRi SS (As := []) (rest := []) (c_X7_isPolygon l D q u i_2 (by omega) (80 : Int)  (show 0 ≤ (80 : Int) ∧ (80 : Int) ≤ 80 from (by omega)) (show RB (80 : Int) u i_2 from (show RB 80 u i_2 from CI_s p0 (by omega)))) mf_X7_isPolygon kw_568 hG hP hP (ci := 7) (q0 := (9 + 5 * i_2)) rfl (cw_ring (by omega)) rfl rfl hl.1 ⟨⟨Nat.le_of_ble_eq_true rfl, Nat.le_of_ble_eq_true rfl⟩, Nat.le_of_ble_eq_true rfl, Nat.le_refl _, Nat.le_refl _⟩ rfl dX11_times_55 (fun z_55 h_55 => ?_)
              have h_55 : (z_55 = 1 ∧ 3 ≤ (u.1.2.2.1 i_2)) ∨ (z_55 = 0 ∧ (u.1.2.2.1 i_2) < 3) := h_55
              refine j_if_eq SS (tgt := 73) (x := z_55) dX11_times_58 (by decide) (by omega) (fun c_58 => ?_) (fun c_58 => ?_)
              · skip
                refine lv_ldc2 SS.1 SS.2.1 SS.2.2.2.1 (SS.2.2.2.2 _ kw_576) dX11_times_73 ?_
                exact W.lret SS.1 SS.2.1 hr (fun t0 ht hW => ⟨_, rfl, (by first | exact Or.inl ⟨fun q => by unfold tiP at q; omega, rfl⟩ | exact Or.inr ⟨by unfold tiP; omega, by unfold tiV; rw [if_pos (by omega), show s.toNat = i_2 by omega]; exact h_46⟩ | exact Or.inr ⟨by unfold tiP; omega, by unfold tiV; rw [if_neg (by omega), show s.toNat = i_2 by omega, if_pos (by omega)]; exact h_67⟩ | exact Or.inr ⟨by unfold tiP; omega, by unfold tiV; rw [if_neg (by omega), show s.toNat = i_2 by omega, if_neg (by omega)]; rfl⟩), ht⟩) (fun _ h => nomatch h) dX11_times_76 hlk
              · skip
                refine lv_aload SS.1 SS.2.1 dX11_times_61 (lv_at hl 0 rfl) ?_
                refine j_get SS hG hP (8 + 5 * i_2) (v := .ref (q (9 + 5 * i_2))) (C := RX10) (T := TX10) (N := 3) (cw_shape (by omega)) rfl inX10 0 (by decide) (ref := "GridPolygons$Shape") kw_151 rfl rfl dX11_times_63 ?_
                refine lv_iload_n SS.1 SS.2.1 dX11_times_66 rfl (lv_at hl 3 rfl) ?_
                refine j_vRl SS (As := [.int (J n)]) (rest := []) (c_X7_insideTimes2 l D q u i_2 (by omega) (80 : Int) n (show 0 ≤ (80 : Int) ∧ (80 : Int) ≤ 80 from (by omega)) (show RB (80 : Int) u i_2 from (show RB 80 u i_2 from CI_s p0 (by omega))) (show 0 ≤ n ∧ n ≤ 1000 from (by omega))) mf_X7_insideTimes kw_572 hG hP hP (ci := 7) (q0 := (9 + 5 * i_2)) rfl (cw_ring (by omega)) rfl rfl hl.1 ⟨⟨Nat.le_of_ble_eq_true rfl, Nat.le_of_ble_eq_true rfl⟩, Nat.le_of_ble_eq_true rfl, Nat.le_refl _, Nat.le_refl _⟩ rfl dX11_times_67 (fun x_67 h_67 => ?_)
                refine lv_goto (tgt := 76) SS.1 SS.2.1 dX11_times_70 (by decide) ?_
                exact W.lret SS.1 SS.2.1 hr (fun t0 ht hW => ⟨_, rfl, (by first | exact Or.inl ⟨fun q => by unfold tiP at q; omega, rfl⟩ | exact Or.inr ⟨by unfold tiP; omega, by unfold tiV; rw [if_pos (by omega), show s.toNat = i_2 by omega]; exact h_46⟩ | exact Or.inr ⟨by unfold tiP; omega, by unfold tiV; rw [if_neg (by omega), show s.toNat = i_2 by omega, if_pos (by omega)]; exact h_67⟩ | exact Or.inr ⟨by unfold tiP; omega, by unfold tiV; rw [if_neg (by omega), show s.toNat = i_2 by omega, if_neg (by omega)]; rfl⟩), ht⟩) (fun _ h => nomatch h) dX11_times_76 hlk
            · skip
              refine lv_aload SS.1 SS.2.1 dX11_times_40 (lv_at hl 0 rfl) ?_
              refine j_get SS hG hP (8 + 5 * i_2) (v := .ref (q (9 + 5 * i_2))) (C := RX10) (T := TX10) (N := 3) (cw_shape (by omega)) rfl inX10 0 (by decide) (ref := "GridPolygons$Shape") kw_151 rfl rfl dX11_times_42 ?_
              refine lv_iload_n SS.1 SS.2.1 dX11_times_45 rfl (lv_at hl 3 rfl) ?_
              refine j_vRl SS (As := [.int (J n)]) (rest := []) (c_X7_allTimes2 l D q u i_2 (by omega) (80 : Int) n (show 0 ≤ (80 : Int) ∧ (80 : Int) ≤ 80 from (by omega)) (show RB (80 : Int) u i_2 from (show RB 80 u i_2 from CI_s p0 (by omega))) (show 0 ≤ n ∧ n ≤ 1000 from (by omega))) mf_X7_allTimes kw_563 hG hP hP (ci := 7) (q0 := (9 + 5 * i_2)) rfl (cw_ring (by omega)) rfl rfl hl.1 ⟨⟨Nat.le_of_ble_eq_true rfl, Nat.le_of_ble_eq_true rfl⟩, Nat.le_of_ble_eq_true rfl, Nat.le_refl _, Nat.le_refl _⟩ rfl dX11_times_46 (fun x_46 h_46 => ?_)
              exact W.lret SS.1 SS.2.1 hr (fun t0 ht hW => ⟨_, rfl, (by first | exact Or.inl ⟨fun q => by unfold tiP at q; omega, rfl⟩ | exact Or.inr ⟨by unfold tiP; omega, by unfold tiV; rw [if_pos (by omega), show s.toNat = i_2 by omega]; exact h_46⟩ | exact Or.inr ⟨by unfold tiP; omega, by unfold tiV; rw [if_neg (by omega), show s.toNat = i_2 by omega, if_pos (by omega)]; exact h_67⟩ | exact Or.inr ⟨by unfold tiP; omega, by unfold tiV; rw [if_neg (by omega), show s.toNat = i_2 by omega, if_neg (by omega)]; rfl⟩), ht⟩) (fun _ h => nomatch h) dX11_times_49 hlk
          · skip
            refine lv_ldc2 SS.1 SS.2.1 SS.2.2.2.1 (SS.2.2.2.2 _ kw_562) dX11_times_32 ?_
            exact W.lret SS.1 SS.2.1 hr (fun t0 ht hW => ⟨_, rfl, (by first | exact Or.inl ⟨fun q => by unfold tiP at q; omega, rfl⟩ | exact Or.inr ⟨by unfold tiP; omega, by unfold tiV; rw [if_pos (by omega), show s.toNat = i_2 by omega]; exact h_46⟩ | exact Or.inr ⟨by unfold tiP; omega, by unfold tiV; rw [if_neg (by omega), show s.toNat = i_2 by omega, if_pos (by omega)]; exact h_67⟩ | exact Or.inr ⟨by unfold tiP; omega, by unfold tiV; rw [if_neg (by omega), show s.toNat = i_2 by omega, if_neg (by omega)]; rfl⟩), ht⟩) (fun _ h => nomatch h) dX11_times_35 hlk
  · skip
    refine lv_astoreN (lv' := [(4, .null), (0, .ref (q 0)), (1, .int (J s)), (2, .int (J n)), (3, .int (J what))]) SS.1 SS.2.1 dX11_times_5 hl (by decide) rfl (fun ls hl => ?_)
    refine lv_aloadN SS.1 SS.2.1 dX11_times_7 (lv_at hl 0 rfl) ?_
    refine lv_ifnullN SS.1 SS.2.1 (tgt := 32) dX11_times_9 (by decide) ?_
    refine lv_ldc2 SS.1 SS.2.1 SS.2.2.2.1 (SS.2.2.2.2 _ kw_562) dX11_times_32 ?_
    exact W.lret SS.1 SS.2.1 hr (fun t0 ht hW => ⟨_, rfl, (by first | exact Or.inl ⟨fun q => by unfold tiP at q; omega, rfl⟩ | exact Or.inr ⟨by unfold tiP; omega, by unfold tiV; rw [if_pos (by omega), show s.toNat = i_2 by omega]; exact h_46⟩ | exact Or.inr ⟨by unfold tiP; omega, by unfold tiV; rw [if_neg (by omega), show s.toNat = i_2 by omega, if_pos (by omega)]; exact h_67⟩ | exact Or.inr ⟨by unfold tiP; omega, by unfold tiV; rw [if_neg (by omega), show s.toNat = i_2 by omega, if_neg (by omega)]; rfl⟩), ht⟩) (fun _ h => nomatch h) dX11_times_35 hlk
