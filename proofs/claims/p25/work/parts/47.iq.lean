
theorem L_J {z : Int} (h : -2147483648 ≤ z ∧ z ≤ 2147483647) : (J z).toInt64 = Int64.ofInt z := Int64.toInt_inj.mp (by rw [Int32.toInt_toInt64, J_toInt h, Int64.toInt_ofInt_of_le (by omega) (by omega)])
theorem L_d2 {a : Int} (h : -4000000000000000000 ≤ a ∧ a ≤ 4000000000000000000) : Int64.ofInt a / 2 = Int64.ofInt (a.tdiv 2) := by
  rw [show (2 : Int64) = Int64.ofInt 2 from rfl]
  exact (Int64.ofInt_tdiv (by show (-9223372036854775808 : Int) ≤ a; omega) (by show a ≤ (9223372036854775807 : Int); omega) (by decide) (by decide)).symm
def atI (n A E N : Int) : Int := if N = 0 then 0 else if N < 3 then n * (E - 1) + 1 else (n * n * A + n * E).tdiv 2 + 1
def itI (n A E : Int) : Int := if n = 0 then 0 else (n * n * A - n * E).tdiv 2 + 1
def tiP (s n w : Int) : Prop := (0 ≤ s ∧ s ≤ 7) ∧ (0 ≤ n ∧ n ≤ 1000) ∧ 0 ≤ w ∧ w ≤ 1
def tiV (n w A E N : Int) : Int := if w = 0 then atI n A E N else if 3 ≤ N then itI n A E else -2
def tiC (u : CS) (s n w : Int) (x : Int64) : Prop := (¬ tiP s n w ∧ x = Int64.ofInt (-1)) ∨ (tiP s n w ∧ x = Int64.ofInt (tiV n w (rA u s.toNat) (rE u s.toNat) (u.1.2.2.1 s.toNat)))
theorem at_3 {n A E : Int} {x : Int64} (hn : 0 ≤ n ∧ n ≤ 1000) (hA : -10000000 ≤ A ∧ A ≤ 10000000) (hE : 0 ≤ E ∧ E ≤ 60000) (h : x = ((J n).toInt64 * (J n).toInt64 * (J A).toInt64 + (J n).toInt64 * (J E).toInt64) / 2) : x + 1 = Int64.ofInt ((n * n * A + n * E).tdiv 2 + 1) := by
  have m1 := mulb (A := 1000) (B := 1000) (a := n) (b := n) (by omega) (by omega)
  have m2 := mulb (A := 1000000) (B := 10000000) (a := n * n) (b := A) (by omega) (by omega)
  have m3 := mulb (A := 1000) (B := 60000) (a := n) (b := E) (by omega) (by omega)
  rw [h, L_J (by omega), L_J (by omega), L_J (by omega), ← Int64.ofInt_mul, ← Int64.ofInt_mul, ← Int64.ofInt_mul, ← Int64.ofInt_add, L_d2 (by omega), Int64.ofInt_add]
  rfl
theorem it_3 {n A E : Int} {x : Int64} (hn : 0 ≤ n ∧ n ≤ 1000) (hA : -10000000 ≤ A ∧ A ≤ 10000000) (hE : 0 ≤ E ∧ E ≤ 60000) (h : x = ((J n).toInt64 * (J n).toInt64 * (J A).toInt64 - (J n).toInt64 * (J E).toInt64) / 2) : x + 1 = Int64.ofInt ((n * n * A - n * E).tdiv 2 + 1) := by
  have m1 := mulb (A := 1000) (B := 1000) (a := n) (b := n) (by omega) (by omega)
  have m2 := mulb (A := 1000000) (B := 10000000) (a := n * n) (b := A) (by omega) (by omega)
  have m3 := mulb (A := 1000) (B := 60000) (a := n) (b := E) (by omega) (by omega)
  rw [h, L_J (by omega), L_J (by omega), L_J (by omega), ← Int64.ofInt_mul, ← Int64.ofInt_mul, ← Int64.ofInt_mul, ← Int64.ofInt_sub, L_d2 (by omega), Int64.ofInt_add]
  rfl
theorem at_1 {n E : Int} (hn : 0 ≤ n ∧ n ≤ 1000) (hE : 0 ≤ E ∧ E ≤ 60000) : (J n).toInt64 * (J (E - 1)).toInt64 + 1 = Int64.ofInt (n * (E - 1) + 1) := by
  rw [L_J (by omega), L_J (by omega), ← Int64.ofInt_mul, Int64.ofInt_add]
  rfl


set_option maxHeartbeats 4000000 in
set_option maxRecDepth 100000 in
theorem c_X7_allTimes2 (l : Launch) (D : JD) (q : Nat → Nat) (u : CS) (r : Nat) (hr : r ≤ 8) (K : Int) (n : Int) (p0 : 0 ≤ K ∧ K ≤ 80) (p1 : RB K u r) (p2 : 0 ≤ n ∧ n ≤ 1000) : Met l yX7_allTimes (jw yX7_allTimes cX7_allTimes 2 (some .long)) (jr 4 88) (jP [.ref (q (9 + 5 * r)), .int (J n)] D (fun H => va_P D.1 j_cl (cW D q u) H)) (vp_Sl (fun x9 => x9 = Int64.ofInt (atI n (rA u r) (rE u r) (u.1.2.2.1 r)))) 0 0 (fun _ => False) := by
  refine Met.ofW (cc := cX7_allTimes) (maxL := 2) (ret := (some .long)) (by decide) rfl ?_
  intro pr en st mi args below meth co s₁ B hml hv
  obtain ⟨rfl, hG, hP⟩ := hv
  have hr := B.returns
  have hlk := B.notSynchronized
  have SS : jS pr mi co cX7_allTimes 2 st _ RX7 := ⟨B.exec, B.bytes, hml, findClass_of_methodNamed B.named, fun w hw => atoms_spec (ws := (jw yX7_allTimes cX7_allTimes 2 (some .long))) B.pre w (List.mem_cons_of_mem _ hw)⟩
  have hl := lv_entry ([.ref (q (9 + 5 * r)), .int (J n)]) (n := 2) (Nat.le_of_ble_eq_true rfl)
  rw [lg_entry_eq]
  generalize (lg_sl ([.ref (q (9 + 5 * r)), .int (J n)]) ++ List.replicate (2 - (lg_sl ([.ref (q (9 + 5 * r)), .int (J n)])).length) Slot.unset).toArray = ls at hl ⊢
  have hl : lv_has ls 2 [(0, .ref (q (9 + 5 * r))), (1, .int (J n))] := hl
  have hc := p1.1
  have hrl := rl_b r
  refine lv_aload_n SS.1 SS.2.1 dX7_allTimes_0 rfl (lv_at hl 0 rfl) ?_
  refine j_getS SS hG hP (9 + 5 * r) (v := .int (J (u.1.2.2.1 r))) (C := RX7) (T := TX7) (N := 3) (cw_ring (by omega)) rfl inX7 2 (by decide) (ref := "GridPolygons$Ring") kw_131 kw_132 rfl dX7_allTimes_1 ?_
  refine j_if_ne SS (tgt := 9) (x := (u.1.2.2.1 r)) dX7_allTimes_4 (by decide) (by omega) (fun c_4 => ?_) (fun c_4 => ?_)
  · skip
    refine lv_aload_n SS.1 SS.2.1 dX7_allTimes_9 rfl (lv_at hl 0 rfl) ?_
    refine j_getS SS hG hP (9 + 5 * r) (v := .int (J (u.1.2.2.1 r))) (C := RX7) (T := TX7) (N := 3) (cw_ring (by omega)) rfl inX7 2 (by decide) (ref := "GridPolygons$Ring") kw_131 kw_132 rfl dX7_allTimes_10 ?_
    refine j_iconst SS dX7_allTimes_13 ?_
    refine j_icmp_ge SS (tgt := 30) (x := (u.1.2.2.1 r)) (y := 3) dX7_allTimes_14 (by decide) (by omega) (by decide) (fun c_14 => ?_) (fun c_14 => ?_)
    · skip
      refine lv_iload_n SS.1 SS.2.1 dX7_allTimes_30 rfl (lv_at hl 1 rfl) ?_
      refine lv_i2l SS.1 SS.2.1 dX7_allTimes_31 rfl ?_
      refine lv_iload_n SS.1 SS.2.1 dX7_allTimes_32 rfl (lv_at hl 1 rfl) ?_
      refine lv_i2l SS.1 SS.2.1 dX7_allTimes_33 rfl ?_
      refine lv_lmul SS.1 SS.2.1 dX7_allTimes_34 ?_
      refine lv_aload_n SS.1 SS.2.1 dX7_allTimes_35 rfl (lv_at hl 0 rfl) ?_
      refine j_vRi SS (As := []) (rest := [.long (((J n).toInt64) * ((J n).toInt64))]) (c_X7_area l D q u r (by omega) K  (show 0 ≤ K ∧ K ≤ 80 from (p0)) (show RB K u r from (p1))) mf_X7_area kw_551 hG hP hP (ci := 7) (q0 := (9 + 5 * r)) rfl (cw_ring (by omega)) rfl rfl hl.1 ⟨⟨Nat.le_of_ble_eq_true rfl, Nat.le_of_ble_eq_true rfl⟩, Nat.le_of_ble_eq_true rfl, Nat.le_refl _, Nat.le_refl _⟩ rfl dX7_allTimes_36 (fun z_36 h_36 => ?_)
      have h_36 : z_36 = rA u r ∧ -10000000 ≤ z_36 ∧ z_36 ≤ 10000000 := h_36
      refine lv_i2l SS.1 SS.2.1 dX7_allTimes_39 rfl ?_
      refine lv_lmul SS.1 SS.2.1 dX7_allTimes_40 ?_
      refine lv_iload_n SS.1 SS.2.1 dX7_allTimes_41 rfl (lv_at hl 1 rfl) ?_
      refine lv_i2l SS.1 SS.2.1 dX7_allTimes_42 rfl ?_
      refine lv_aload_n SS.1 SS.2.1 dX7_allTimes_43 rfl (lv_at hl 0 rfl) ?_
      refine j_vRi SS (As := []) (rest := [.long ((J n).toInt64), .long ((((J n).toInt64) * ((J n).toInt64)) * ((J z_36).toInt64))]) (c_X7_onEdge l D q u r (by omega) K  (show 0 ≤ K ∧ K ≤ 80 from (p0)) (show RB K u r from (p1))) mf_X7_onEdge kw_552 hG hP hP (ci := 7) (q0 := (9 + 5 * r)) rfl (cw_ring (by omega)) rfl rfl hl.1 ⟨⟨Nat.le_of_ble_eq_true rfl, Nat.le_of_ble_eq_true rfl⟩, Nat.le_of_ble_eq_true rfl, Nat.le_refl _, Nat.le_refl _⟩ rfl dX7_allTimes_44 (fun z_44 h_44 => ?_)
      have h_44 : z_44 = rE u r ∧ 0 ≤ z_44 ∧ z_44 ≤ 60000 := h_44
      refine lv_i2l SS.1 SS.2.1 dX7_allTimes_47 rfl ?_
      refine lv_lmul SS.1 SS.2.1 dX7_allTimes_48 ?_
      refine lv_ladd SS.1 SS.2.1 dX7_allTimes_49 ?_
      refine lv_ldc2 SS.1 SS.2.1 SS.2.2.2.1 (SS.2.2.2.2 _ kw_567) dX7_allTimes_50 ?_
      refine lv_ldiv SS.1 SS.2.1 dX7_allTimes_53 (by decide +kernel) (lv_topl (fun x_53 ex_53 => ?_))
      refine lv_lconst (v := 1) SS.1 SS.2.1 dX7_allTimes_54 (by decide +kernel) ?_
      refine lv_ladd SS.1 SS.2.1 dX7_allTimes_55 ?_
      exact W.lret SS.1 SS.2.1 hr (fun t0 ht hW => ⟨_, rfl, (by unfold atI; rw [if_neg (by omega), if_neg (by omega), ← h_36.1, ← h_44.1]; exact at_3 p2 (by omega) (by omega) ex_53), ht⟩) (fun _ h => nomatch h) dX7_allTimes_56 hlk
    · skip
      refine lv_iload_n SS.1 SS.2.1 dX7_allTimes_17 rfl (lv_at hl 1 rfl) ?_
      refine lv_i2l SS.1 SS.2.1 dX7_allTimes_18 rfl ?_
      refine lv_aload_n SS.1 SS.2.1 dX7_allTimes_19 rfl (lv_at hl 0 rfl) ?_
      refine j_vRi SS (As := []) (rest := [.long ((J n).toInt64)]) (c_X7_onEdge l D q u r (by omega) K  (show 0 ≤ K ∧ K ≤ 80 from (p0)) (show RB K u r from (p1))) mf_X7_onEdge kw_552 hG hP hP (ci := 7) (q0 := (9 + 5 * r)) rfl (cw_ring (by omega)) rfl rfl hl.1 ⟨⟨Nat.le_of_ble_eq_true rfl, Nat.le_of_ble_eq_true rfl⟩, Nat.le_of_ble_eq_true rfl, Nat.le_refl _, Nat.le_refl _⟩ rfl dX7_allTimes_20 (fun z_20 h_20 => ?_)
      have h_20 : z_20 = rE u r ∧ 0 ≤ z_20 ∧ z_20 ≤ 60000 := h_20
      refine j_iconst SS dX7_allTimes_23 ?_
      refine j_isub SS (x := z_20) (y := 1) dX7_allTimes_24 ?_
      refine lv_i2l SS.1 SS.2.1 dX7_allTimes_25 rfl ?_
      refine lv_lmul SS.1 SS.2.1 dX7_allTimes_26 ?_
      refine lv_lconst (v := 1) SS.1 SS.2.1 dX7_allTimes_27 (by decide +kernel) ?_
      refine lv_ladd SS.1 SS.2.1 dX7_allTimes_28 ?_
      exact W.lret SS.1 SS.2.1 hr (fun t0 ht hW => ⟨_, rfl, (by unfold atI; rw [if_neg (by omega), if_pos (by omega), ← h_20.1]; exact at_1 p2 (by omega)), ht⟩) (fun _ h => nomatch h) dX7_allTimes_29 hlk
  · skip
    refine lv_lconst (v := 0) SS.1 SS.2.1 dX7_allTimes_7 (by decide +kernel) ?_
    exact W.lret SS.1 SS.2.1 hr (fun t0 ht hW => ⟨_, rfl, (by unfold atI; rw [if_pos (by omega)]; rfl), ht⟩) (fun _ h => nomatch h) dX7_allTimes_8 hlk

set_option maxHeartbeats 4000000 in
set_option maxRecDepth 100000 in
theorem c_X7_insideTimes2 (l : Launch) (D : JD) (q : Nat → Nat) (u : CS) (r : Nat) (hr : r ≤ 8) (K : Int) (n : Int) (p0 : 0 ≤ K ∧ K ≤ 80) (p1 : RB K u r) (p2 : 0 ≤ n ∧ n ≤ 1000) : Met l yX7_insideTimes (jw yX7_insideTimes cX7_insideTimes 2 (some .long)) (jr 4 88) (jP [.ref (q (9 + 5 * r)), .int (J n)] D (fun H => va_P D.1 j_cl (cW D q u) H)) (vp_Sl (fun x9 => x9 = Int64.ofInt (itI n (rA u r) (rE u r)))) 0 0 (fun _ => False) := by
  refine Met.ofW (cc := cX7_insideTimes) (maxL := 2) (ret := (some .long)) (by decide) rfl ?_
  intro pr en st mi args below meth co s₁ B hml hv
  obtain ⟨rfl, hG, hP⟩ := hv
  have hr := B.returns
  have hlk := B.notSynchronized
  have SS : jS pr mi co cX7_insideTimes 2 st _ RX7 := ⟨B.exec, B.bytes, hml, findClass_of_methodNamed B.named, fun w hw => atoms_spec (ws := (jw yX7_insideTimes cX7_insideTimes 2 (some .long))) B.pre w (List.mem_cons_of_mem _ hw)⟩
  have hl := lv_entry ([.ref (q (9 + 5 * r)), .int (J n)]) (n := 2) (Nat.le_of_ble_eq_true rfl)
  rw [lg_entry_eq]
  generalize (lg_sl ([.ref (q (9 + 5 * r)), .int (J n)]) ++ List.replicate (2 - (lg_sl ([.ref (q (9 + 5 * r)), .int (J n)])).length) Slot.unset).toArray = ls at hl ⊢
  have hl : lv_has ls 2 [(0, .ref (q (9 + 5 * r))), (1, .int (J n))] := hl
  have hc := p1.1
  have hrl := rl_b r
  refine lv_iload_n SS.1 SS.2.1 dX7_insideTimes_0 rfl (lv_at hl 1 rfl) ?_
  refine j_if_ne SS (tgt := 8) (x := n) dX7_insideTimes_1 (by decide) (by omega) (fun c_1 => ?_) (fun c_1 => ?_)
  · skip
    refine lv_iload_n SS.1 SS.2.1 dX7_insideTimes_8 rfl (lv_at hl 1 rfl) ?_
    refine lv_i2l SS.1 SS.2.1 dX7_insideTimes_9 rfl ?_
    refine lv_iload_n SS.1 SS.2.1 dX7_insideTimes_10 rfl (lv_at hl 1 rfl) ?_
    refine lv_i2l SS.1 SS.2.1 dX7_insideTimes_11 rfl ?_
    refine lv_lmul SS.1 SS.2.1 dX7_insideTimes_12 ?_
    refine lv_aload_n SS.1 SS.2.1 dX7_insideTimes_13 rfl (lv_at hl 0 rfl) ?_
    refine j_vRi SS (As := []) (rest := [.long (((J n).toInt64) * ((J n).toInt64))]) (c_X7_area l D q u r (by omega) K  (show 0 ≤ K ∧ K ≤ 80 from (p0)) (show RB K u r from (p1))) mf_X7_area kw_551 hG hP hP (ci := 7) (q0 := (9 + 5 * r)) rfl (cw_ring (by omega)) rfl rfl hl.1 ⟨⟨Nat.le_of_ble_eq_true rfl, Nat.le_of_ble_eq_true rfl⟩, Nat.le_of_ble_eq_true rfl, Nat.le_refl _, Nat.le_refl _⟩ rfl dX7_insideTimes_14 (fun z_14 h_14 => ?_)
    have h_14 : z_14 = rA u r ∧ -10000000 ≤ z_14 ∧ z_14 ≤ 10000000 := h_14
    refine lv_i2l SS.1 SS.2.1 dX7_insideTimes_17 rfl ?_
    refine lv_lmul SS.1 SS.2.1 dX7_insideTimes_18 ?_
    refine lv_iload_n SS.1 SS.2.1 dX7_insideTimes_19 rfl (lv_at hl 1 rfl) ?_
    refine lv_i2l SS.1 SS.2.1 dX7_insideTimes_20 rfl ?_
    refine lv_aload_n SS.1 SS.2.1 dX7_insideTimes_21 rfl (lv_at hl 0 rfl) ?_
    refine j_vRi SS (As := []) (rest := [.long ((J n).toInt64), .long ((((J n).toInt64) * ((J n).toInt64)) * ((J z_14).toInt64))]) (c_X7_onEdge l D q u r (by omega) K  (show 0 ≤ K ∧ K ≤ 80 from (p0)) (show RB K u r from (p1))) mf_X7_onEdge kw_552 hG hP hP (ci := 7) (q0 := (9 + 5 * r)) rfl (cw_ring (by omega)) rfl rfl hl.1 ⟨⟨Nat.le_of_ble_eq_true rfl, Nat.le_of_ble_eq_true rfl⟩, Nat.le_of_ble_eq_true rfl, Nat.le_refl _, Nat.le_refl _⟩ rfl dX7_insideTimes_22 (fun z_22 h_22 => ?_)
    have h_22 : z_22 = rE u r ∧ 0 ≤ z_22 ∧ z_22 ≤ 60000 := h_22
    refine lv_i2l SS.1 SS.2.1 dX7_insideTimes_25 rfl ?_
    refine lv_lmul SS.1 SS.2.1 dX7_insideTimes_26 ?_
    refine lv_lsub SS.1 SS.2.1 dX7_insideTimes_27 ?_
    refine lv_ldc2 SS.1 SS.2.1 SS.2.2.2.1 (SS.2.2.2.2 _ kw_567) dX7_insideTimes_28 ?_
    refine lv_ldiv SS.1 SS.2.1 dX7_insideTimes_31 (by decide +kernel) (lv_topl (fun x_31 ex_31 => ?_))
    refine lv_lconst (v := 1) SS.1 SS.2.1 dX7_insideTimes_32 (by decide +kernel) ?_
    refine lv_ladd SS.1 SS.2.1 dX7_insideTimes_33 ?_
    exact W.lret SS.1 SS.2.1 hr (fun t0 ht hW => ⟨_, rfl, (by first | (unfold itI; rw [if_pos (by omega)]; rfl) | (unfold itI; rw [if_neg (by omega), ← h_14.1, ← h_22.1]; exact it_3 p2 (by omega) (by omega) ex_31)), ht⟩) (fun _ h => nomatch h) dX7_insideTimes_34 hlk
  · skip
    refine lv_lconst (v := 0) SS.1 SS.2.1 dX7_insideTimes_4 (by decide +kernel) ?_
    refine lv_goto (tgt := 34) SS.1 SS.2.1 dX7_insideTimes_5 (by decide) ?_
    exact W.lret SS.1 SS.2.1 hr (fun t0 ht hW => ⟨_, rfl, (by first | (unfold itI; rw [if_pos (by omega)]; rfl) | (unfold itI; rw [if_neg (by omega), ← h_14.1, ← h_22.1]; exact it_3 p2 (by omega) (by omega) ex_31)), ht⟩) (fun _ h => nomatch h) dX7_insideTimes_34 hlk

set_option maxHeartbeats 4000000 in
set_option maxRecDepth 100000 in
theorem c_X11_timesN (l : Launch) (D : JD) (q : Nat → Nat) (u : CS) (s : Int) (n : Int) (what : Int) (p0 : CI u) (p1 : -2147483648 ≤ s ∧ s ≤ 2147483647) (p2 : -2147483648 ≤ n ∧ n ≤ 2147483647) (p3 : -2147483648 ≤ what ∧ what ≤ 2147483647) : Met l yX11_times (jw yX11_times cX11_times 5 (some .long)) (jr 5 109) (jP [.ref (q 0), .int (J s), .int (J n), .int (J what)] D (fun H => va_P D.1 j_cl (cW D q u) H)) (vp_Sl (fun x9 => tiC u s n what x9)) 0 0 (fun _ => False) := by
  refine Met.ofW (cc := cX11_times) (maxL := 5) (ret := (some .long)) (by decide) rfl ?_
  intro pr en st mi args below meth co s₁ B hml hv
  obtain ⟨rfl, hG, hP⟩ := hv
  have hr := B.returns
  have hlk := B.notSynchronized
  have SS : jS pr mi co cX11_times 5 st _ RX11 := ⟨B.exec, B.bytes, hml, findClass_of_methodNamed B.named, fun w hw => atoms_spec (ws := (jw yX11_times cX11_times 5 (some .long))) B.pre w (List.mem_cons_of_mem _ hw)⟩
  have hl := lv_entry ([.ref (q 0), .int (J s), .int (J n), .int (J what)]) (n := 5) (Nat.le_of_ble_eq_true rfl)
  rw [lg_entry_eq]
  generalize (lg_sl ([.ref (q 0), .int (J s), .int (J n), .int (J what)]) ++ List.replicate (5 - (lg_sl ([.ref (q 0), .int (J s), .int (J n), .int (J what)])).length) Slot.unset).toArray = ls at hl ⊢
  have hl : lv_has ls 5 [(0, .ref (q 0)), (1, .int (J s)), (2, .int (J n)), (3, .int (J what))] := hl
  refine lv_aload_n SS.1 SS.2.1 dX11_times_0 rfl (lv_at hl 0 rfl) ?_
  refine lv_iload_n SS.1 SS.2.1 dX11_times_1 rfl (lv_at hl 1 rfl) ?_
  refine j_vSh SS (As := [.int (J s)]) (rest := []) (c_X11_shapeAt l D q u  s (show -2147483648 ≤ s ∧ s ≤ 2147483647 from (p1))) mf_X11_shapeAt kw_414 hG hP hP (ci := 11) (q0 := 0) rfl rfl rfl rfl hl.1 ⟨⟨Nat.le_of_ble_eq_true rfl, Nat.le_of_ble_eq_true rfl⟩, Nat.le_of_ble_eq_true rfl, Nat.le_refl _, Nat.le_refl _⟩ rfl dX11_times_2 (fun i_2 hi_2 hz_2 => ?_) (fun hn_2 => ?_)
  · skip
    have hI2 := CI_s p0 (show i_2 < 8 by omega)
    have hI2c := hI2.1
    have hrl2 := rl_s (show i_2 < 8 by omega)
    refine lv_astore (lv' := [(4, .ref (q (8 + 5 * i_2))), (0, .ref (q 0)), (1, .int (J s)), (2, .int (J n)), (3, .int (J what))]) SS.1 SS.2.1 dX11_times_5 hl (by decide) rfl (fun ls hl => ?_)
    refine lv_aload SS.1 SS.2.1 dX11_times_7 (lv_at hl 0 rfl) ?_
    refine lv_ifnull SS.1 SS.2.1 dX11_times_9 ?_
    refine lv_iload_n SS.1 SS.2.1 dX11_times_12 rfl (lv_at hl 3 rfl) ?_
    refine j_if_lt SS (tgt := 32) (x := n) dX11_times_13 (by decide) (by omega) (fun c_13 => ?_) (fun c_13 => ?_)
    · skip
      refine lv_ldc2 SS.1 SS.2.1 SS.2.2.2.1 (SS.2.2.2.2 _ kw_562) dX11_times_32 ?_
      exact W.lret SS.1 SS.2.1 hr (fun t0 ht hW => ⟨_, rfl, (by first | exact Or.inl ⟨fun q => by unfold tiP at q; omega, rfl⟩ | exact Or.inr ⟨by unfold tiP; omega, by unfold tiV; rw [if_pos (by omega), show s.toNat = i_2 by omega]; exact h_46⟩ | exact Or.inr ⟨by unfold tiP; omega, by unfold tiV; rw [if_neg (by omega), show s.toNat = i_2 by omega, if_pos (by omega)]; exact h_67⟩ | exact Or.inr ⟨by unfold tiP; omega, by unfold tiV; rw [if_neg (by omega), show s.toNat = i_2 by omega, if_neg (by omega)]; rfl⟩), ht⟩) (fun _ h => nomatch h) dX11_times_35 hlk
    · skip
      refine lv_iload_n SS.1 SS.2.1 dX11_times_16 rfl (lv_at hl 3 rfl) ?_
      refine j_sipush SS dX11_times_17 (by decide +kernel) ?_
      refine j_icmp_gt SS (tgt := 32) (x := n) (y := 1000) dX11_times_20 (by decide) (by omega) (by decide) (fun c_20 => ?_) (fun c_20 => ?_)
      · skip
        refine lv_ldc2 SS.1 SS.2.1 SS.2.2.2.1 (SS.2.2.2.2 _ kw_562) dX11_times_32 ?_
        exact W.lret SS.1 SS.2.1 hr (fun t0 ht hW => ⟨_, rfl, (by first | exact Or.inl ⟨fun q => by unfold tiP at q; omega, rfl⟩ | exact Or.inr ⟨by unfold tiP; omega, by unfold tiV; rw [if_pos (by omega), show s.toNat = i_2 by omega]; exact h_46⟩ | exact Or.inr ⟨by unfold tiP; omega, by unfold tiV; rw [if_neg (by omega), show s.toNat = i_2 by omega, if_pos (by omega)]; exact h_67⟩ | exact Or.inr ⟨by unfold tiP; omega, by unfold tiV; rw [if_neg (by omega), show s.toNat = i_2 by omega, if_neg (by omega)]; rfl⟩), ht⟩) (fun _ h => nomatch h) dX11_times_35 hlk
      · skip
        refine lv_iload_n SS.1 SS.2.1 dX11_times_23 rfl (lv_at hl 4 rfl) ?_
        refine j_if_lt SS (tgt := 32) (x := what) dX11_times_24 (by decide) (by omega) (fun c_24 => ?_) (fun c_24 => ?_)
        · skip
          refine lv_ldc2 SS.1 SS.2.1 SS.2.2.2.1 (SS.2.2.2.2 _ kw_562) dX11_times_32 ?_
          exact W.lret SS.1 SS.2.1 hr (fun t0 ht hW => ⟨_, rfl, (by first | exact Or.inl ⟨fun q => by unfold tiP at q; omega, rfl⟩ | exact Or.inr ⟨by unfold tiP; omega, by unfold tiV; rw [if_pos (by omega), show s.toNat = i_2 by omega]; exact h_46⟩ | exact Or.inr ⟨by unfold tiP; omega, by unfold tiV; rw [if_neg (by omega), show s.toNat = i_2 by omega, if_pos (by omega)]; exact h_67⟩ | exact Or.inr ⟨by unfold tiP; omega, by unfold tiV; rw [if_neg (by omega), show s.toNat = i_2 by omega, if_neg (by omega)]; rfl⟩), ht⟩) (fun _ h => nomatch h) dX11_times_35 hlk
        · skip
          refine lv_iload_n SS.1 SS.2.1 dX11_times_27 rfl (lv_at hl 4 rfl) ?_
          refine j_iconst SS dX11_times_28 ?_
          refine j_icmp_le SS (tgt := 36) (x := what) (y := 1) dX11_times_29 (by decide) (by omega) (by decide) (fun c_29 => ?_) (fun c_29 => ?_)
          · skip
            refine lv_iload_n SS.1 SS.2.1 dX11_times_36 rfl (lv_at hl 4 rfl) ?_
            refine j_if_ne SS (tgt := 50) (x := what) dX11_times_37 (by decide) (by omega) (fun c_37 => ?_) (fun c_37 => ?_)
            · skip
              refine lv_aload SS.1 SS.2.1 dX11_times_50 (lv_at hl 0 rfl) ?_
              refine j_get SS hG hP (8 + 5 * i_2) (v := .ref (q (9 + 5 * i_2))) (C := RX10) (T := TX10) (N := 3) (cw_shape (by omega)) rfl inX10 0 (by decide) (ref := "GridPolygons$Shape") kw_151 rfl rfl dX11_times_52 ?_
              refine j_vRi SS (As := []) (rest := []) (c_X7_isPolygon l D q u i_2 (by omega) (80 : Int)  (show 0 ≤ (80 : Int) ∧ (80 : Int) ≤ 80 from (by omega)) (show RB (80 : Int) u i_2 from (show RB 80 u i_2 from CI_s p0 (by omega)))) mf_X7_isPolygon kw_568 hG hP hP (ci := 7) (q0 := (9 + 5 * i_2)) rfl (cw_ring (by omega)) rfl rfl hl.1 ⟨⟨Nat.le_of_ble_eq_true rfl, Nat.le_of_ble_eq_true rfl⟩, Nat.le_of_ble_eq_true rfl, Nat.le_refl _, Nat.le_refl _⟩ rfl dX11_times_55 (fun z_55 h_55 => ?_)
              have h_55 : (z_55 = 1 ∧ 3 ≤ (u.1.2.2.1 i_2)) ∨ (z_55 = 0 ∧ (u.1.2.2.1 i_2) < 3) := h_55
              refine j_if_eq SS (tgt := 73) (x := z_55) dX11_times_58 (by decide) (by omega) (fun c_58 => ?_) (fun c_58 => ?_)
              · skip
                refine lv_ldc2 SS.1 SS.2.1 SS.2.2.2.1 (SS.2.2.2.2 _ kw_576) dX11_times_73 ?_
                exact W.lret SS.1 SS.2.1 hr (fun t0 ht hW => ⟨_, rfl, (by first | exact Or.inl ⟨fun q => by unfold tiP at q; omega, rfl⟩ | exact Or.inr ⟨by unfold tiP; omega, by unfold tiV; rw [if_pos (by omega), show s.toNat = i_2 by omega]; exact h_46⟩ | exact Or.inr ⟨by unfold tiP; omega, by unfold tiV; rw [if_neg (by omega), show s.toNat = i_2 by omega, if_pos (by omega)]; exact h_67⟩ | exact Or.inr ⟨by unfold tiP; omega, by unfold tiV; rw [if_neg (by omega), show s.toNat = i_2 by omega, if_neg (by omega)]; rfl⟩), ht⟩) (fun _ h => nomatch h) dX11_times_76 hlk
              · skip
                refine lv_aload SS.1 SS.2.1 dX11_times_61 (lv_at hl 0 rfl) ?_
                refine j_get SS hG hP (8 + 5 * i_2) (v := .ref (q (9 + 5 * i_2))) (C := RX10) (T := TX10) (N := 3) (cw_shape (by omega)) rfl inX10 0 (by decide) (ref := "GridPolygons$Shape") kw_151 rfl rfl dX11_times_63 ?_
                refine lv_iload_n SS.1 SS.2.1 dX11_times_66 rfl (lv_at hl 3 rfl) ?_
                refine j_vRl SS (As := [.int (J n)]) (rest := []) (c_X7_insideTimes2 l D q u i_2 (by omega) (80 : Int) n (show 0 ≤ (80 : Int) ∧ (80 : Int) ≤ 80 from (by omega)) (show RB (80 : Int) u i_2 from (show RB 80 u i_2 from CI_s p0 (by omega))) (show 0 ≤ n ∧ n ≤ 1000 from (by omega))) mf_X7_insideTimes kw_572 hG hP hP (ci := 7) (q0 := (9 + 5 * i_2)) rfl (cw_ring (by omega)) rfl rfl hl.1 ⟨⟨Nat.le_of_ble_eq_true rfl, Nat.le_of_ble_eq_true rfl⟩, Nat.le_of_ble_eq_true rfl, Nat.le_refl _, Nat.le_refl _⟩ rfl dX11_times_67 (fun x_67 h_67 => ?_)
                refine lv_goto (tgt := 76) SS.1 SS.2.1 dX11_times_70 (by decide) ?_
                exact W.lret SS.1 SS.2.1 hr (fun t0 ht hW => ⟨_, rfl, (by first | exact Or.inl ⟨fun q => by unfold tiP at q; omega, rfl⟩ | exact Or.inr ⟨by unfold tiP; omega, by unfold tiV; rw [if_pos (by omega), show s.toNat = i_2 by omega]; exact h_46⟩ | exact Or.inr ⟨by unfold tiP; omega, by unfold tiV; rw [if_neg (by omega), show s.toNat = i_2 by omega, if_pos (by omega)]; exact h_67⟩ | exact Or.inr ⟨by unfold tiP; omega, by unfold tiV; rw [if_neg (by omega), show s.toNat = i_2 by omega, if_neg (by omega)]; rfl⟩), ht⟩) (fun _ h => nomatch h) dX11_times_76 hlk
            · skip
              refine lv_aload SS.1 SS.2.1 dX11_times_40 (lv_at hl 0 rfl) ?_
              refine j_get SS hG hP (8 + 5 * i_2) (v := .ref (q (9 + 5 * i_2))) (C := RX10) (T := TX10) (N := 3) (cw_shape (by omega)) rfl inX10 0 (by decide) (ref := "GridPolygons$Shape") kw_151 rfl rfl dX11_times_42 ?_
              refine lv_iload_n SS.1 SS.2.1 dX11_times_45 rfl (lv_at hl 3 rfl) ?_
              refine j_vRl SS (As := [.int (J n)]) (rest := []) (c_X7_allTimes2 l D q u i_2 (by omega) (80 : Int) n (show 0 ≤ (80 : Int) ∧ (80 : Int) ≤ 80 from (by omega)) (show RB (80 : Int) u i_2 from (show RB 80 u i_2 from CI_s p0 (by omega))) (show 0 ≤ n ∧ n ≤ 1000 from (by omega))) mf_X7_allTimes kw_563 hG hP hP (ci := 7) (q0 := (9 + 5 * i_2)) rfl (cw_ring (by omega)) rfl rfl hl.1 ⟨⟨Nat.le_of_ble_eq_true rfl, Nat.le_of_ble_eq_true rfl⟩, Nat.le_of_ble_eq_true rfl, Nat.le_refl _, Nat.le_refl _⟩ rfl dX11_times_46 (fun x_46 h_46 => ?_)
              exact W.lret SS.1 SS.2.1 hr (fun t0 ht hW => ⟨_, rfl, (by first | exact Or.inl ⟨fun q => by unfold tiP at q; omega, rfl⟩ | exact Or.inr ⟨by unfold tiP; omega, by unfold tiV; rw [if_pos (by omega), show s.toNat = i_2 by omega]; exact h_46⟩ | exact Or.inr ⟨by unfold tiP; omega, by unfold tiV; rw [if_neg (by omega), show s.toNat = i_2 by omega, if_pos (by omega)]; exact h_67⟩ | exact Or.inr ⟨by unfold tiP; omega, by unfold tiV; rw [if_neg (by omega), show s.toNat = i_2 by omega, if_neg (by omega)]; rfl⟩), ht⟩) (fun _ h => nomatch h) dX11_times_49 hlk
          · skip
            refine lv_ldc2 SS.1 SS.2.1 SS.2.2.2.1 (SS.2.2.2.2 _ kw_562) dX11_times_32 ?_
            exact W.lret SS.1 SS.2.1 hr (fun t0 ht hW => ⟨_, rfl, (by first | exact Or.inl ⟨fun q => by unfold tiP at q; omega, rfl⟩ | exact Or.inr ⟨by unfold tiP; omega, by unfold tiV; rw [if_pos (by omega), show s.toNat = i_2 by omega]; exact h_46⟩ | exact Or.inr ⟨by unfold tiP; omega, by unfold tiV; rw [if_neg (by omega), show s.toNat = i_2 by omega, if_pos (by omega)]; exact h_67⟩ | exact Or.inr ⟨by unfold tiP; omega, by unfold tiV; rw [if_neg (by omega), show s.toNat = i_2 by omega, if_neg (by omega)]; rfl⟩), ht⟩) (fun _ h => nomatch h) dX11_times_35 hlk
  · skip
    refine lv_astoreN (lv' := [(4, .null), (0, .ref (q 0)), (1, .int (J s)), (2, .int (J n)), (3, .int (J what))]) SS.1 SS.2.1 dX11_times_5 hl (by decide) rfl (fun ls hl => ?_)
    refine lv_aloadN SS.1 SS.2.1 dX11_times_7 (lv_at hl 0 rfl) ?_
    refine lv_ifnullN SS.1 SS.2.1 (tgt := 32) dX11_times_9 (by decide) ?_
    refine lv_ldc2 SS.1 SS.2.1 SS.2.2.2.1 (SS.2.2.2.2 _ kw_562) dX11_times_32 ?_
    exact W.lret SS.1 SS.2.1 hr (fun t0 ht hW => ⟨_, rfl, (by first | exact Or.inl ⟨fun q => by unfold tiP at q; omega, rfl⟩ | exact Or.inr ⟨by unfold tiP; omega, by unfold tiV; rw [if_pos (by omega), show s.toNat = i_2 by omega]; exact h_46⟩ | exact Or.inr ⟨by unfold tiP; omega, by unfold tiV; rw [if_neg (by omega), show s.toNat = i_2 by omega, if_pos (by omega)]; exact h_67⟩ | exact Or.inr ⟨by unfold tiP; omega, by unfold tiV; rw [if_neg (by omega), show s.toNat = i_2 by omega, if_neg (by omega)]; rfl⟩), ht⟩) (fun _ h => nomatch h) dX11_times_35 hlk


def tmV (n w A E N : Int) : Int := if w = 1 ∧ N ≤ 2 then -2 else if N = 0 then 0 else if n = 0 then (if w = 0 then 1 else 0) else if N ≤ 2 then (E - 1) * n + 1 else if w = 0 then (A * n * n - E * n + 2).tdiv 2 + E * n else (A * n * n - E * n + 2).tdiv 2
def tiM (u : MS) (s n w : Int) (x : Int64) : Prop := (¬ tiP s n w ∧ x = Int64.ofInt (-1)) ∨ (tiP s n w ∧ x = Int64.ofInt (tmV n w (mAr u s) (mEd u s) (mN u s)))
theorem tm_3 {n A E : Int} {x : Int64} (hn : 0 ≤ n ∧ n ≤ 1000) (hA : -10000000 ≤ A ∧ A ≤ 10000000) (hE : 0 ≤ E ∧ E ≤ 60000) (h : x = ((J A).toInt64 * (J n).toInt64 * (J n).toInt64 - (J E).toInt64 * (J n).toInt64 + 2) / 2) : x = Int64.ofInt ((A * n * n - E * n + 2).tdiv 2) := by
  have m2 := mulb (A := 10000000) (B := 1000) (a := A) (b := n) (by omega) (by omega)
  have m1 := mulb (A := 10000000000) (B := 1000) (a := A * n) (b := n) (by omega) (by omega)
  have m3 := mulb (A := 60000) (B := 1000) (a := E) (b := n) (by omega) (by omega)
  rw [h, L_J (by omega), L_J (by omega), L_J (by omega), ← Int64.ofInt_mul, ← Int64.ofInt_mul, ← Int64.ofInt_mul, ← Int64.ofInt_sub, show (2 : Int64) = Int64.ofInt 2 from rfl, ← Int64.ofInt_add]
  exact L_d2 (by omega)
theorem tm_4 {n A E : Int} {x : Int64} (hn : 0 ≤ n ∧ n ≤ 1000) (hA : -10000000 ≤ A ∧ A ≤ 10000000) (hE : 0 ≤ E ∧ E ≤ 60000) (h : x = ((J A).toInt64 * (J n).toInt64 * (J n).toInt64 - (J E).toInt64 * (J n).toInt64 + 2) / 2) : x + (J E).toInt64 * (J n).toInt64 = Int64.ofInt ((A * n * n - E * n + 2).tdiv 2 + E * n) := by
  rw [tm_3 hn hA hE h, Int64.ofInt_add, Int64.ofInt_mul E n, L_J (by omega), L_J (by omega)]
theorem tm_1 {n E : Int} (hn : 0 ≤ n ∧ n ≤ 1000) (hE : 0 ≤ E ∧ E ≤ 60000) : (J (E - 1)).toInt64 * (J n).toInt64 + 1 = Int64.ofInt ((E - 1) * n + 1) := by
  rw [L_J (by omega), L_J (by omega), ← Int64.ofInt_mul, Int64.ofInt_add]
  rfl


set_option maxHeartbeats 4000000 in
set_option maxRecDepth 100000 in
theorem c_X12_times2 (l : Launch) (D : JD) (o : Nat) (q : Nat → Nat) (u : MS) (s : Int) (n : Int) (what : Int) (p0 : IM u) (p1 : -2147483648 ≤ s ∧ s ≤ 2147483647) (p2 : -2147483648 ≤ n ∧ n ≤ 2147483647) (p3 : -2147483648 ≤ what ∧ what ≤ 2147483647) : Met l yX12_times (jw yX12_times cX12_times 8 (some .long)) (jr 4 89) (jP [.ref o, .int (J s), .int (J n), .int (J what)] D (fun H => va_P D.1 j_cl (mW D o q u) H)) (vp_Sl (fun r => tiM u s n what r)) 0 0 (fun _ => False) := by
  refine Met.ofW (cc := cX12_times) (maxL := 8) (ret := (some .long)) (by decide) rfl ?_
  intro pr en st mi args below meth co s₁ B hml hv
  obtain ⟨rfl, hG, hP⟩ := hv
  have hr := B.returns
  have hlk := B.notSynchronized
  have SS : jS pr mi co cX12_times 8 st _ RX12 := ⟨B.exec, B.bytes, hml, findClass_of_methodNamed B.named, fun w hw => atoms_spec (ws := (jw yX12_times cX12_times 8 (some .long))) B.pre w (List.mem_cons_of_mem _ hw)⟩
  have hl := lv_entry ([.ref o, .int (J s), .int (J n), .int (J what)]) (n := 8) (Nat.le_of_ble_eq_true rfl)
  rw [lg_entry_eq]
  generalize (lg_sl ([.ref o, .int (J s), .int (J n), .int (J what)]) ++ List.replicate (8 - (lg_sl ([.ref o, .int (J s), .int (J n), .int (J what)])).length) Slot.unset).toArray = ls at hl ⊢
  have hl : lv_has ls 8 [(0, .ref o), (1, .int (J s)), (2, .int (J n)), (3, .int (J what))] := hl
  refine lv_iload_n SS.1 SS.2.1 dX12_times_0 rfl (lv_at hl 1 rfl) ?_
  refine j_sRi SS (As := [.int (J s)]) (rest := []) (c_X12_isShape l D s (show -2147483648 ≤ s ∧ s ≤ 2147483647 from (by omega))) mf_X12_isShape kw_1156 hG trivial rfl hl.1 ⟨⟨Nat.le_of_ble_eq_true rfl, Nat.le_of_ble_eq_true rfl⟩, Nat.le_of_ble_eq_true rfl, Nat.le_refl _, Nat.le_refl _⟩ rfl dX12_times_1 (fun z_1 h_1 => ?_)
  have h_1 : (z_1 = 1 ∧ (0 ≤ s ∧ s ≤ 7)) ∨ (z_1 = 0 ∧ ¬ (0 ≤ s ∧ s ≤ 7)) := h_1
  refine j_if_eq SS (tgt := 27) (x := z_1) dX12_times_4 (by decide) (by omega) (fun c_4 => ?_) (fun c_4 => ?_)
  · skip
    refine lv_ldc2 SS.1 SS.2.1 SS.2.2.2.1 (SS.2.2.2.2 _ kw_1248) dX12_times_27 ?_
    exact W.lret SS.1 SS.2.1 hr (fun t ht hW => ⟨_, rfl, (by first | exact Or.inl ⟨fun q => by unfold tiP at q; omega, rfl⟩ | exact Or.inr ⟨by unfold tiP; omega, by unfold tmV; rw [if_pos ⟨by omega, by omega⟩]; rfl⟩ | exact Or.inr ⟨by unfold tiP; omega, by unfold tmV; rw [if_neg (by omega), if_pos (by omega)]; rfl⟩ | exact Or.inr ⟨by unfold tiP; omega, by unfold tmV; rw [if_neg (by omega), if_neg (by omega), if_pos (by omega), if_pos (by omega)]; rfl⟩ | exact Or.inr ⟨by unfold tiP; omega, by unfold tmV; rw [if_neg (by omega), if_neg (by omega), if_pos (by omega), if_neg (by omega)]; rfl⟩ | exact Or.inr ⟨by unfold tiP; omega, by unfold tmV; rw [if_neg (by omega), if_neg (by omega), if_neg (by omega), if_pos (by omega), ← h_83.1]; exact tm_1 (by omega) (by omega)⟩ | exact Or.inr ⟨by unfold tiP; omega, by unfold tmV; rw [if_neg (by omega), if_neg (by omega), if_neg (by omega), if_neg (by omega), if_pos (by omega), ← h_97.1, ← h_108.1]; exact tm_4 (by omega) (by omega) (by omega) ex_128⟩ | exact Or.inr ⟨by unfold tiP; omega, by unfold tmV; rw [if_neg (by omega), if_neg (by omega), if_neg (by omega), if_neg (by omega), if_neg (by omega), ← h_97.1, ← h_108.1]; exact tm_3 (by omega) (by omega) (by omega) ex_128⟩), ht⟩) (fun _ h => nomatch h) dX12_times_30 hlk
  · skip
    refine lv_iload_n SS.1 SS.2.1 dX12_times_7 rfl (lv_at hl 2 rfl) ?_
    refine j_iconst SS dX12_times_8 ?_
    refine j_sipush SS dX12_times_9 (by decide +kernel) ?_
    refine j_sRi SS (As := [.int (J n), .int (J 0), .int (J 1000)]) (rest := []) (c_X12_in l D n 0 1000 (show -2147483648 ≤ n ∧ n ≤ 2147483647 from (by omega)) (show -2147483648 ≤ (0 : Int) ∧ (0 : Int) ≤ 2147483647 from (by omega)) (show -2147483648 ≤ (1000 : Int) ∧ (1000 : Int) ≤ 2147483647 from (by omega))) mf_X12_in kw_1159 hG trivial rfl hl.1 ⟨⟨Nat.le_of_ble_eq_true rfl, Nat.le_of_ble_eq_true rfl⟩, Nat.le_of_ble_eq_true rfl, Nat.le_refl _, Nat.le_refl _⟩ rfl dX12_times_12 (fun z_12 h_12 => ?_)
    have h_12 : (z_12 = 1 ∧ ((0 : Int) ≤ n ∧ n ≤ (1000 : Int))) ∨ (z_12 = 0 ∧ ¬ ((0 : Int) ≤ n ∧ n ≤ (1000 : Int))) := h_12
    refine j_if_eq SS (tgt := 27) (x := z_12) dX12_times_15 (by decide) (by omega) (fun c_15 => ?_) (fun c_15 => ?_)
    · skip
      refine lv_ldc2 SS.1 SS.2.1 SS.2.2.2.1 (SS.2.2.2.2 _ kw_1248) dX12_times_27 ?_
      exact W.lret SS.1 SS.2.1 hr (fun t ht hW => ⟨_, rfl, (by first | exact Or.inl ⟨fun q => by unfold tiP at q; omega, rfl⟩ | exact Or.inr ⟨by unfold tiP; omega, by unfold tmV; rw [if_pos ⟨by omega, by omega⟩]; rfl⟩ | exact Or.inr ⟨by unfold tiP; omega, by unfold tmV; rw [if_neg (by omega), if_pos (by omega)]; rfl⟩ | exact Or.inr ⟨by unfold tiP; omega, by unfold tmV; rw [if_neg (by omega), if_neg (by omega), if_pos (by omega), if_pos (by omega)]; rfl⟩ | exact Or.inr ⟨by unfold tiP; omega, by unfold tmV; rw [if_neg (by omega), if_neg (by omega), if_pos (by omega), if_neg (by omega)]; rfl⟩ | exact Or.inr ⟨by unfold tiP; omega, by unfold tmV; rw [if_neg (by omega), if_neg (by omega), if_neg (by omega), if_pos (by omega), ← h_83.1]; exact tm_1 (by omega) (by omega)⟩ | exact Or.inr ⟨by unfold tiP; omega, by unfold tmV; rw [if_neg (by omega), if_neg (by omega), if_neg (by omega), if_neg (by omega), if_pos (by omega), ← h_97.1, ← h_108.1]; exact tm_4 (by omega) (by omega) (by omega) ex_128⟩ | exact Or.inr ⟨by unfold tiP; omega, by unfold tmV; rw [if_neg (by omega), if_neg (by omega), if_neg (by omega), if_neg (by omega), if_neg (by omega), ← h_97.1, ← h_108.1]; exact tm_3 (by omega) (by omega) (by omega) ex_128⟩), ht⟩) (fun _ h => nomatch h) dX12_times_30 hlk
    · skip
      refine lv_iload_n SS.1 SS.2.1 dX12_times_18 rfl (lv_at hl 3 rfl) ?_
      refine j_iconst SS dX12_times_19 ?_
      refine j_iconst SS dX12_times_20 ?_
      refine j_sRi SS (As := [.int (J what), .int (J 0), .int (J 1)]) (rest := []) (c_X12_in l D what 0 1 (show -2147483648 ≤ what ∧ what ≤ 2147483647 from (by omega)) (show -2147483648 ≤ (0 : Int) ∧ (0 : Int) ≤ 2147483647 from (by omega)) (show -2147483648 ≤ (1 : Int) ∧ (1 : Int) ≤ 2147483647 from (by omega))) mf_X12_in kw_1159 hG trivial rfl hl.1 ⟨⟨Nat.le_of_ble_eq_true rfl, Nat.le_of_ble_eq_true rfl⟩, Nat.le_of_ble_eq_true rfl, Nat.le_refl _, Nat.le_refl _⟩ rfl dX12_times_21 (fun z_21 h_21 => ?_)
      have h_21 : (z_21 = 1 ∧ ((0 : Int) ≤ what ∧ what ≤ (1 : Int))) ∨ (z_21 = 0 ∧ ¬ ((0 : Int) ≤ what ∧ what ≤ (1 : Int))) := h_21
      refine j_if_ne SS (tgt := 31) (x := z_21) dX12_times_24 (by decide) (by omega) (fun c_24 => ?_) (fun c_24 => ?_)
      · skip
        refine lv_iload_n SS.1 SS.2.1 dX12_times_31 rfl (lv_at hl 3 rfl) ?_
        refine j_iconst SS dX12_times_32 ?_
        refine j_icmp_ne SS (tgt := 48) (x := what) (y := 1) dX12_times_33 (by decide) (by omega) (by decide) (fun c_33 => ?_) (fun c_33 => ?_)
        · skip
          refine lv_aload_n SS.1 SS.2.1 dX12_times_48 rfl (lv_at hl 0 rfl) ?_
          refine j_get SS hG hP 0 (v := .ref (q 0)) (C := RX12) (T := TX12) (N := 31) rfl rfl inX12 0 (by decide) (ref := RX12) kw_1058 rfl rfl dX12_times_49 ?_
          refine lv_iload_n SS.1 SS.2.1 dX12_times_52 rfl (lv_at hl 1 rfl) ?_
          refine j_iald SS hG hP 1 (n := 8) (f := (u.1 0)) rfl (z := s) (by omega) (by omega) dX12_times_53 ?_
          have hN_53 := (show Sh u s from p0.1 _ (by omega) (by omega)).1
          refine j_if_ne SS (tgt := 59) (x := (mN u s)) dX12_times_54 (by decide) (by omega) (fun c_54 => ?_) (fun c_54 => ?_)
          · skip
            refine lv_iload_n SS.1 SS.2.1 dX12_times_59 rfl (lv_at hl 2 rfl) ?_
            refine j_if_ne SS (tgt := 73) (x := n) dX12_times_60 (by decide) (by omega) (fun c_60 => ?_) (fun c_60 => ?_)
            · skip
              refine lv_aload_n SS.1 SS.2.1 dX12_times_73 rfl (lv_at hl 0 rfl) ?_
              refine lv_iload_n SS.1 SS.2.1 dX12_times_74 rfl (lv_at hl 1 rfl) ?_
              refine j_vRi SS (As := [.int (J s)]) (rest := []) (c_X12_isPolygon l D o q u s (show 0 ≤ s ∧ s ≤ 7 from (by omega)) (show Sh u s from (p0.1 _ (by omega) (by omega)))) mf_X12_isPolygon kw_1240 hG hP hP (ci := 8) (q0 := 0) rfl rfl rfl rfl hl.1 ⟨⟨Nat.le_of_ble_eq_true rfl, Nat.le_of_ble_eq_true rfl⟩, Nat.le_of_ble_eq_true rfl, Nat.le_refl _, Nat.le_refl _⟩ rfl dX12_times_75 (fun z_75 h_75 => ?_)
              have h_75 : (z_75 = 1 ∧ 2 < mN u s) ∨ (z_75 = 0 ∧ mN u s ≤ 2) := h_75
              refine j_if_ne SS (tgt := 95) (x := z_75) dX12_times_78 (by decide) (by omega) (fun c_78 => ?_) (fun c_78 => ?_)
              · skip
                refine lv_aload_n SS.1 SS.2.1 dX12_times_95 rfl (lv_at hl 0 rfl) ?_
                refine lv_iload_n SS.1 SS.2.1 dX12_times_96 rfl (lv_at hl 1 rfl) ?_
                refine j_vRi SS (As := [.int (J s)]) (rest := []) (c_X12_edgeOf l D o q u s (show 0 ≤ s ∧ s ≤ 7 from (by omega)) (show Sh u s from (p0.1 _ (by omega) (by omega)))) mf_X12_edgeOf kw_1222 hG hP hP (ci := 8) (q0 := 0) rfl rfl rfl rfl hl.1 ⟨⟨Nat.le_of_ble_eq_true rfl, Nat.le_of_ble_eq_true rfl⟩, Nat.le_of_ble_eq_true rfl, Nat.le_refl _, Nat.le_refl _⟩ rfl dX12_times_97 (fun z_97 h_97 => ?_)
                have h_97 : z_97 = mEd u s ∧ 0 ≤ z_97 ∧ z_97 ≤ 2000 := h_97
                refine lv_i2l SS.1 SS.2.1 dX12_times_100 rfl ?_
                refine lv_iload_n SS.1 SS.2.1 dX12_times_101 rfl (lv_at hl 2 rfl) ?_
                refine lv_i2l SS.1 SS.2.1 dX12_times_102 rfl ?_
                refine lv_lmul SS.1 SS.2.1 dX12_times_103 ?_
                refine lv_lstore (lv' := [(4, .long (((J z_97).toInt64) * ((J n).toInt64))), (0, .ref o), (1, .int (J s)), (2, .int (J n)), (3, .int (J what))]) SS.1 SS.2.1 dX12_times_104 hl (by decide) rfl (fun ls hl => ?_)
                refine lv_aload_n SS.1 SS.2.1 dX12_times_106 rfl (lv_at hl 1 rfl) ?_
                refine lv_iload_n SS.1 SS.2.1 dX12_times_107 rfl (lv_at hl 2 rfl) ?_
                refine j_vRi SS (As := [.int (J s)]) (rest := []) (c_X12_areaOf l D o q u s (show 0 ≤ s ∧ s ≤ 7 from (by omega)) (show Sh u s from (p0.1 _ (by omega) (by omega)))) mf_X12_areaOf kw_1218 hG hP hP (ci := 8) (q0 := 0) rfl rfl rfl rfl hl.1 ⟨⟨Nat.le_of_ble_eq_true rfl, Nat.le_of_ble_eq_true rfl⟩, Nat.le_of_ble_eq_true rfl, Nat.le_refl _, Nat.le_refl _⟩ rfl dX12_times_108 (fun z_108 h_108 => ?_)
                have h_108 : z_108 = mAr u s ∧ -80000 ≤ z_108 ∧ z_108 ≤ 80000 := h_108
                refine lv_i2l SS.1 SS.2.1 dX12_times_111 rfl ?_
                refine lv_iload_n SS.1 SS.2.1 dX12_times_112 rfl (lv_at hl 3 rfl) ?_
                refine lv_i2l SS.1 SS.2.1 dX12_times_113 rfl ?_
                refine lv_lmul SS.1 SS.2.1 dX12_times_114 ?_
                refine lv_iload_n SS.1 SS.2.1 dX12_times_115 rfl (lv_at hl 3 rfl) ?_
                refine lv_i2l SS.1 SS.2.1 dX12_times_116 rfl ?_
                refine lv_lmul SS.1 SS.2.1 dX12_times_117 ?_
                refine lv_lload SS.1 SS.2.1 dX12_times_118 (lv_at hl 0 rfl) ?_
                refine lv_lsub SS.1 SS.2.1 dX12_times_120 ?_
                refine lv_ldc2 SS.1 SS.2.1 SS.2.2.2.1 (SS.2.2.2.2 _ kw_1250) dX12_times_121 ?_
                refine lv_ladd SS.1 SS.2.1 dX12_times_124 ?_
                refine lv_ldc2 SS.1 SS.2.1 SS.2.2.2.1 (SS.2.2.2.2 _ kw_1250) dX12_times_125 ?_
                refine lv_ldiv SS.1 SS.2.1 dX12_times_128 (by decide +kernel) (lv_topl (fun x_128 ex_128 => ?_))
                refine lv_lstore (lv' := [(6, .long x_128), (4, .long (((J z_97).toInt64) * ((J n).toInt64))), (0, .ref o), (1, .int (J s)), (2, .int (J n)), (3, .int (J what))]) SS.1 SS.2.1 dX12_times_129 hl (by decide) rfl (fun ls hl => ?_)
                refine lv_iload_n SS.1 SS.2.1 dX12_times_131 rfl (lv_at hl 5 rfl) ?_
                refine j_if_ne SS (tgt := 143) (x := what) dX12_times_132 (by decide) (by omega) (fun c_132 => ?_) (fun c_132 => ?_)
                · skip
                  refine lv_lload SS.1 SS.2.1 dX12_times_143 (lv_at hl 0 rfl) ?_
                  exact W.lret SS.1 SS.2.1 hr (fun t ht hW => ⟨_, rfl, (by first | exact Or.inl ⟨fun q => by unfold tiP at q; omega, rfl⟩ | exact Or.inr ⟨by unfold tiP; omega, by unfold tmV; rw [if_pos ⟨by omega, by omega⟩]; rfl⟩ | exact Or.inr ⟨by unfold tiP; omega, by unfold tmV; rw [if_neg (by omega), if_pos (by omega)]; rfl⟩ | exact Or.inr ⟨by unfold tiP; omega, by unfold tmV; rw [if_neg (by omega), if_neg (by omega), if_pos (by omega), if_pos (by omega)]; rfl⟩ | exact Or.inr ⟨by unfold tiP; omega, by unfold tmV; rw [if_neg (by omega), if_neg (by omega), if_pos (by omega), if_neg (by omega)]; rfl⟩ | exact Or.inr ⟨by unfold tiP; omega, by unfold tmV; rw [if_neg (by omega), if_neg (by omega), if_neg (by omega), if_pos (by omega), ← h_83.1]; exact tm_1 (by omega) (by omega)⟩ | exact Or.inr ⟨by unfold tiP; omega, by unfold tmV; rw [if_neg (by omega), if_neg (by omega), if_neg (by omega), if_neg (by omega), if_pos (by omega), ← h_97.1, ← h_108.1]; exact tm_4 (by omega) (by omega) (by omega) ex_128⟩ | exact Or.inr ⟨by unfold tiP; omega, by unfold tmV; rw [if_neg (by omega), if_neg (by omega), if_neg (by omega), if_neg (by omega), if_neg (by omega), ← h_97.1, ← h_108.1]; exact tm_3 (by omega) (by omega) (by omega) ex_128⟩), ht⟩) (fun _ h => nomatch h) dX12_times_145 hlk
                · skip
                  refine lv_lload SS.1 SS.2.1 dX12_times_135 (lv_at hl 0 rfl) ?_
                  refine lv_lload SS.1 SS.2.1 dX12_times_137 (lv_at hl 1 rfl) ?_
                  refine lv_ladd SS.1 SS.2.1 dX12_times_139 ?_
                  refine lv_goto (tgt := 145) SS.1 SS.2.1 dX12_times_140 (by decide) ?_
                  exact W.lret SS.1 SS.2.1 hr (fun t ht hW => ⟨_, rfl, (by first | exact Or.inl ⟨fun q => by unfold tiP at q; omega, rfl⟩ | exact Or.inr ⟨by unfold tiP; omega, by unfold tmV; rw [if_pos ⟨by omega, by omega⟩]; rfl⟩ | exact Or.inr ⟨by unfold tiP; omega, by unfold tmV; rw [if_neg (by omega), if_pos (by omega)]; rfl⟩ | exact Or.inr ⟨by unfold tiP; omega, by unfold tmV; rw [if_neg (by omega), if_neg (by omega), if_pos (by omega), if_pos (by omega)]; rfl⟩ | exact Or.inr ⟨by unfold tiP; omega, by unfold tmV; rw [if_neg (by omega), if_neg (by omega), if_pos (by omega), if_neg (by omega)]; rfl⟩ | exact Or.inr ⟨by unfold tiP; omega, by unfold tmV; rw [if_neg (by omega), if_neg (by omega), if_neg (by omega), if_pos (by omega), ← h_83.1]; exact tm_1 (by omega) (by omega)⟩ | exact Or.inr ⟨by unfold tiP; omega, by unfold tmV; rw [if_neg (by omega), if_neg (by omega), if_neg (by omega), if_neg (by omega), if_pos (by omega), ← h_97.1, ← h_108.1]; exact tm_4 (by omega) (by omega) (by omega) ex_128⟩ | exact Or.inr ⟨by unfold tiP; omega, by unfold tmV; rw [if_neg (by omega), if_neg (by omega), if_neg (by omega), if_neg (by omega), if_neg (by omega), ← h_97.1, ← h_108.1]; exact tm_3 (by omega) (by omega) (by omega) ex_128⟩), ht⟩) (fun _ h => nomatch h) dX12_times_145 hlk
              · skip
                refine lv_aload_n SS.1 SS.2.1 dX12_times_81 rfl (lv_at hl 0 rfl) ?_
                refine lv_iload_n SS.1 SS.2.1 dX12_times_82 rfl (lv_at hl 1 rfl) ?_
                refine j_vRi SS (As := [.int (J s)]) (rest := []) (c_X12_edgeOf l D o q u s (show 0 ≤ s ∧ s ≤ 7 from (by omega)) (show Sh u s from (p0.1 _ (by omega) (by omega)))) mf_X12_edgeOf kw_1222 hG hP hP (ci := 8) (q0 := 0) rfl rfl rfl rfl hl.1 ⟨⟨Nat.le_of_ble_eq_true rfl, Nat.le_of_ble_eq_true rfl⟩, Nat.le_of_ble_eq_true rfl, Nat.le_refl _, Nat.le_refl _⟩ rfl dX12_times_83 (fun z_83 h_83 => ?_)
                have h_83 : z_83 = mEd u s ∧ 0 ≤ z_83 ∧ z_83 ≤ 2000 := h_83
                refine j_iconst SS dX12_times_86 ?_
                refine j_isub SS (x := z_83) (y := 1) dX12_times_87 ?_
                refine lv_i2l SS.1 SS.2.1 dX12_times_88 rfl ?_
                refine lv_iload_n SS.1 SS.2.1 dX12_times_89 rfl (lv_at hl 2 rfl) ?_
                refine lv_i2l SS.1 SS.2.1 dX12_times_90 rfl ?_
                refine lv_lmul SS.1 SS.2.1 dX12_times_91 ?_
                refine lv_lconst (v := 1) SS.1 SS.2.1 dX12_times_92 (by decide +kernel) ?_
                refine lv_ladd SS.1 SS.2.1 dX12_times_93 ?_
                exact W.lret SS.1 SS.2.1 hr (fun t ht hW => ⟨_, rfl, (by first | exact Or.inl ⟨fun q => by unfold tiP at q; omega, rfl⟩ | exact Or.inr ⟨by unfold tiP; omega, by unfold tmV; rw [if_pos ⟨by omega, by omega⟩]; rfl⟩ | exact Or.inr ⟨by unfold tiP; omega, by unfold tmV; rw [if_neg (by omega), if_pos (by omega)]; rfl⟩ | exact Or.inr ⟨by unfold tiP; omega, by unfold tmV; rw [if_neg (by omega), if_neg (by omega), if_pos (by omega), if_pos (by omega)]; rfl⟩ | exact Or.inr ⟨by unfold tiP; omega, by unfold tmV; rw [if_neg (by omega), if_neg (by omega), if_pos (by omega), if_neg (by omega)]; rfl⟩ | exact Or.inr ⟨by unfold tiP; omega, by unfold tmV; rw [if_neg (by omega), if_neg (by omega), if_neg (by omega), if_pos (by omega), ← h_83.1]; exact tm_1 (by omega) (by omega)⟩ | exact Or.inr ⟨by unfold tiP; omega, by unfold tmV; rw [if_neg (by omega), if_neg (by omega), if_neg (by omega), if_neg (by omega), if_pos (by omega), ← h_97.1, ← h_108.1]; exact tm_4 (by omega) (by omega) (by omega) ex_128⟩ | exact Or.inr ⟨by unfold tiP; omega, by unfold tmV; rw [if_neg (by omega), if_neg (by omega), if_neg (by omega), if_neg (by omega), if_neg (by omega), ← h_97.1, ← h_108.1]; exact tm_3 (by omega) (by omega) (by omega) ex_128⟩), ht⟩) (fun _ h => nomatch h) dX12_times_94 hlk
            · skip
              refine lv_iload_n SS.1 SS.2.1 dX12_times_63 rfl (lv_at hl 3 rfl) ?_
              refine j_if_ne SS (tgt := 71) (x := what) dX12_times_64 (by decide) (by omega) (fun c_64 => ?_) (fun c_64 => ?_)
              · skip
                refine lv_lconst (v := 0) SS.1 SS.2.1 dX12_times_71 (by decide +kernel) ?_
                exact W.lret SS.1 SS.2.1 hr (fun t ht hW => ⟨_, rfl, (by first | exact Or.inl ⟨fun q => by unfold tiP at q; omega, rfl⟩ | exact Or.inr ⟨by unfold tiP; omega, by unfold tmV; rw [if_pos ⟨by omega, by omega⟩]; rfl⟩ | exact Or.inr ⟨by unfold tiP; omega, by unfold tmV; rw [if_neg (by omega), if_pos (by omega)]; rfl⟩ | exact Or.inr ⟨by unfold tiP; omega, by unfold tmV; rw [if_neg (by omega), if_neg (by omega), if_pos (by omega), if_pos (by omega)]; rfl⟩ | exact Or.inr ⟨by unfold tiP; omega, by unfold tmV; rw [if_neg (by omega), if_neg (by omega), if_pos (by omega), if_neg (by omega)]; rfl⟩ | exact Or.inr ⟨by unfold tiP; omega, by unfold tmV; rw [if_neg (by omega), if_neg (by omega), if_neg (by omega), if_pos (by omega), ← h_83.1]; exact tm_1 (by omega) (by omega)⟩ | exact Or.inr ⟨by unfold tiP; omega, by unfold tmV; rw [if_neg (by omega), if_neg (by omega), if_neg (by omega), if_neg (by omega), if_pos (by omega), ← h_97.1, ← h_108.1]; exact tm_4 (by omega) (by omega) (by omega) ex_128⟩ | exact Or.inr ⟨by unfold tiP; omega, by unfold tmV; rw [if_neg (by omega), if_neg (by omega), if_neg (by omega), if_neg (by omega), if_neg (by omega), ← h_97.1, ← h_108.1]; exact tm_3 (by omega) (by omega) (by omega) ex_128⟩), ht⟩) (fun _ h => nomatch h) dX12_times_72 hlk
              · skip
                refine lv_lconst (v := 1) SS.1 SS.2.1 dX12_times_67 (by decide +kernel) ?_
                refine lv_goto (tgt := 72) SS.1 SS.2.1 dX12_times_68 (by decide) ?_
                exact W.lret SS.1 SS.2.1 hr (fun t ht hW => ⟨_, rfl, (by first | exact Or.inl ⟨fun q => by unfold tiP at q; omega, rfl⟩ | exact Or.inr ⟨by unfold tiP; omega, by unfold tmV; rw [if_pos ⟨by omega, by omega⟩]; rfl⟩ | exact Or.inr ⟨by unfold tiP; omega, by unfold tmV; rw [if_neg (by omega), if_pos (by omega)]; rfl⟩ | exact Or.inr ⟨by unfold tiP; omega, by unfold tmV; rw [if_neg (by omega), if_neg (by omega), if_pos (by omega), if_pos (by omega)]; rfl⟩ | exact Or.inr ⟨by unfold tiP; omega, by unfold tmV; rw [if_neg (by omega), if_neg (by omega), if_pos (by omega), if_neg (by omega)]; rfl⟩ | exact Or.inr ⟨by unfold tiP; omega, by unfold tmV; rw [if_neg (by omega), if_neg (by omega), if_neg (by omega), if_pos (by omega), ← h_83.1]; exact tm_1 (by omega) (by omega)⟩ | exact Or.inr ⟨by unfold tiP; omega, by unfold tmV; rw [if_neg (by omega), if_neg (by omega), if_neg (by omega), if_neg (by omega), if_pos (by omega), ← h_97.1, ← h_108.1]; exact tm_4 (by omega) (by omega) (by omega) ex_128⟩ | exact Or.inr ⟨by unfold tiP; omega, by unfold tmV; rw [if_neg (by omega), if_neg (by omega), if_neg (by omega), if_neg (by omega), if_neg (by omega), ← h_97.1, ← h_108.1]; exact tm_3 (by omega) (by omega) (by omega) ex_128⟩), ht⟩) (fun _ h => nomatch h) dX12_times_72 hlk
          · skip
            refine lv_lconst (v := 0) SS.1 SS.2.1 dX12_times_57 (by decide +kernel) ?_
            exact W.lret SS.1 SS.2.1 hr (fun t ht hW => ⟨_, rfl, (by first | exact Or.inl ⟨fun q => by unfold tiP at q; omega, rfl⟩ | exact Or.inr ⟨by unfold tiP; omega, by unfold tmV; rw [if_pos ⟨by omega, by omega⟩]; rfl⟩ | exact Or.inr ⟨by unfold tiP; omega, by unfold tmV; rw [if_neg (by omega), if_pos (by omega)]; rfl⟩ | exact Or.inr ⟨by unfold tiP; omega, by unfold tmV; rw [if_neg (by omega), if_neg (by omega), if_pos (by omega), if_pos (by omega)]; rfl⟩ | exact Or.inr ⟨by unfold tiP; omega, by unfold tmV; rw [if_neg (by omega), if_neg (by omega), if_pos (by omega), if_neg (by omega)]; rfl⟩ | exact Or.inr ⟨by unfold tiP; omega, by unfold tmV; rw [if_neg (by omega), if_neg (by omega), if_neg (by omega), if_pos (by omega), ← h_83.1]; exact tm_1 (by omega) (by omega)⟩ | exact Or.inr ⟨by unfold tiP; omega, by unfold tmV; rw [if_neg (by omega), if_neg (by omega), if_neg (by omega), if_neg (by omega), if_pos (by omega), ← h_97.1, ← h_108.1]; exact tm_4 (by omega) (by omega) (by omega) ex_128⟩ | exact Or.inr ⟨by unfold tiP; omega, by unfold tmV; rw [if_neg (by omega), if_neg (by omega), if_neg (by omega), if_neg (by omega), if_neg (by omega), ← h_97.1, ← h_108.1]; exact tm_3 (by omega) (by omega) (by omega) ex_128⟩), ht⟩) (fun _ h => nomatch h) dX12_times_58 hlk
        · skip
          refine lv_aload_n SS.1 SS.2.1 dX12_times_36 rfl (lv_at hl 0 rfl) ?_
          refine lv_iload_n SS.1 SS.2.1 dX12_times_37 rfl (lv_at hl 1 rfl) ?_
          refine j_vRi SS (As := [.int (J s)]) (rest := []) (c_X12_isPolygon l D o q u s (show 0 ≤ s ∧ s ≤ 7 from (by omega)) (show Sh u s from (p0.1 _ (by omega) (by omega)))) mf_X12_isPolygon kw_1240 hG hP hP (ci := 8) (q0 := 0) rfl rfl rfl rfl hl.1 ⟨⟨Nat.le_of_ble_eq_true rfl, Nat.le_of_ble_eq_true rfl⟩, Nat.le_of_ble_eq_true rfl, Nat.le_refl _, Nat.le_refl _⟩ rfl dX12_times_38 (fun z_38 h_38 => ?_)
          have h_38 : (z_38 = 1 ∧ 2 < mN u s) ∨ (z_38 = 0 ∧ mN u s ≤ 2) := h_38
          refine j_if_ne SS (tgt := 48) (x := z_38) dX12_times_41 (by decide) (by omega) (fun c_41 => ?_) (fun c_41 => ?_)
          · skip
            refine lv_aload_n SS.1 SS.2.1 dX12_times_48 rfl (lv_at hl 0 rfl) ?_
            refine j_get SS hG hP 0 (v := .ref (q 0)) (C := RX12) (T := TX12) (N := 31) rfl rfl inX12 0 (by decide) (ref := RX12) kw_1058 rfl rfl dX12_times_49 ?_
            refine lv_iload_n SS.1 SS.2.1 dX12_times_52 rfl (lv_at hl 1 rfl) ?_
            refine j_iald SS hG hP 1 (n := 8) (f := (u.1 0)) rfl (z := s) (by omega) (by omega) dX12_times_53 ?_
            have hN_53 := (show Sh u s from p0.1 _ (by omega) (by omega)).1
            refine j_if_ne SS (tgt := 59) (x := (mN u s)) dX12_times_54 (by decide) (by omega) (fun c_54 => ?_) (fun c_54 => ?_)
            · skip
              refine lv_iload_n SS.1 SS.2.1 dX12_times_59 rfl (lv_at hl 2 rfl) ?_
              refine j_if_ne SS (tgt := 73) (x := n) dX12_times_60 (by decide) (by omega) (fun c_60 => ?_) (fun c_60 => ?_)
              · skip
                refine lv_aload_n SS.1 SS.2.1 dX12_times_73 rfl (lv_at hl 0 rfl) ?_
                refine lv_iload_n SS.1 SS.2.1 dX12_times_74 rfl (lv_at hl 1 rfl) ?_
                refine j_vRi SS (As := [.int (J s)]) (rest := []) (c_X12_isPolygon l D o q u s (show 0 ≤ s ∧ s ≤ 7 from (by omega)) (show Sh u s from (p0.1 _ (by omega) (by omega)))) mf_X12_isPolygon kw_1240 hG hP hP (ci := 8) (q0 := 0) rfl rfl rfl rfl hl.1 ⟨⟨Nat.le_of_ble_eq_true rfl, Nat.le_of_ble_eq_true rfl⟩, Nat.le_of_ble_eq_true rfl, Nat.le_refl _, Nat.le_refl _⟩ rfl dX12_times_75 (fun z_75 h_75 => ?_)
                have h_75 : (z_75 = 1 ∧ 2 < mN u s) ∨ (z_75 = 0 ∧ mN u s ≤ 2) := h_75
                refine j_if_ne SS (tgt := 95) (x := z_75) dX12_times_78 (by decide) (by omega) (fun c_78 => ?_) (fun c_78 => ?_)
                · skip
                  refine lv_aload_n SS.1 SS.2.1 dX12_times_95 rfl (lv_at hl 0 rfl) ?_
                  refine lv_iload_n SS.1 SS.2.1 dX12_times_96 rfl (lv_at hl 1 rfl) ?_
                  refine j_vRi SS (As := [.int (J s)]) (rest := []) (c_X12_edgeOf l D o q u s (show 0 ≤ s ∧ s ≤ 7 from (by omega)) (show Sh u s from (p0.1 _ (by omega) (by omega)))) mf_X12_edgeOf kw_1222 hG hP hP (ci := 8) (q0 := 0) rfl rfl rfl rfl hl.1 ⟨⟨Nat.le_of_ble_eq_true rfl, Nat.le_of_ble_eq_true rfl⟩, Nat.le_of_ble_eq_true rfl, Nat.le_refl _, Nat.le_refl _⟩ rfl dX12_times_97 (fun z_97 h_97 => ?_)
                  have h_97 : z_97 = mEd u s ∧ 0 ≤ z_97 ∧ z_97 ≤ 2000 := h_97
                  refine lv_i2l SS.1 SS.2.1 dX12_times_100 rfl ?_
                  refine lv_iload_n SS.1 SS.2.1 dX12_times_101 rfl (lv_at hl 2 rfl) ?_
                  refine lv_i2l SS.1 SS.2.1 dX12_times_102 rfl ?_
                  refine lv_lmul SS.1 SS.2.1 dX12_times_103 ?_
                  refine lv_lstore (lv' := [(4, .long (((J z_97).toInt64) * ((J n).toInt64))), (0, .ref o), (1, .int (J s)), (2, .int (J n)), (3, .int (J what))]) SS.1 SS.2.1 dX12_times_104 hl (by decide) rfl (fun ls hl => ?_)
                  refine lv_aload_n SS.1 SS.2.1 dX12_times_106 rfl (lv_at hl 1 rfl) ?_
                  refine lv_iload_n SS.1 SS.2.1 dX12_times_107 rfl (lv_at hl 2 rfl) ?_
                  refine j_vRi SS (As := [.int (J s)]) (rest := []) (c_X12_areaOf l D o q u s (show 0 ≤ s ∧ s ≤ 7 from (by omega)) (show Sh u s from (p0.1 _ (by omega) (by omega)))) mf_X12_areaOf kw_1218 hG hP hP (ci := 8) (q0 := 0) rfl rfl rfl rfl hl.1 ⟨⟨Nat.le_of_ble_eq_true rfl, Nat.le_of_ble_eq_true rfl⟩, Nat.le_of_ble_eq_true rfl, Nat.le_refl _, Nat.le_refl _⟩ rfl dX12_times_108 (fun z_108 h_108 => ?_)
                  have h_108 : z_108 = mAr u s ∧ -80000 ≤ z_108 ∧ z_108 ≤ 80000 := h_108
                  refine lv_i2l SS.1 SS.2.1 dX12_times_111 rfl ?_
                  refine lv_iload_n SS.1 SS.2.1 dX12_times_112 rfl (lv_at hl 3 rfl) ?_
                  refine lv_i2l SS.1 SS.2.1 dX12_times_113 rfl ?_
                  refine lv_lmul SS.1 SS.2.1 dX12_times_114 ?_
                  refine lv_iload_n SS.1 SS.2.1 dX12_times_115 rfl (lv_at hl 3 rfl) ?_
                  refine lv_i2l SS.1 SS.2.1 dX12_times_116 rfl ?_
                  refine lv_lmul SS.1 SS.2.1 dX12_times_117 ?_
                  refine lv_lload SS.1 SS.2.1 dX12_times_118 (lv_at hl 0 rfl) ?_
                  refine lv_lsub SS.1 SS.2.1 dX12_times_120 ?_
                  refine lv_ldc2 SS.1 SS.2.1 SS.2.2.2.1 (SS.2.2.2.2 _ kw_1250) dX12_times_121 ?_
                  refine lv_ladd SS.1 SS.2.1 dX12_times_124 ?_
                  refine lv_ldc2 SS.1 SS.2.1 SS.2.2.2.1 (SS.2.2.2.2 _ kw_1250) dX12_times_125 ?_
                  refine lv_ldiv SS.1 SS.2.1 dX12_times_128 (by decide +kernel) (lv_topl (fun x_128 ex_128 => ?_))
                  refine lv_lstore (lv' := [(6, .long x_128), (4, .long (((J z_97).toInt64) * ((J n).toInt64))), (0, .ref o), (1, .int (J s)), (2, .int (J n)), (3, .int (J what))]) SS.1 SS.2.1 dX12_times_129 hl (by decide) rfl (fun ls hl => ?_)
                  refine lv_iload_n SS.1 SS.2.1 dX12_times_131 rfl (lv_at hl 5 rfl) ?_
                  refine j_if_ne SS (tgt := 143) (x := what) dX12_times_132 (by decide) (by omega) (fun c_132 => ?_) (fun c_132 => ?_)
                  · skip
                    refine lv_lload SS.1 SS.2.1 dX12_times_143 (lv_at hl 0 rfl) ?_
                    exact W.lret SS.1 SS.2.1 hr (fun t ht hW => ⟨_, rfl, (by first | exact Or.inl ⟨fun q => by unfold tiP at q; omega, rfl⟩ | exact Or.inr ⟨by unfold tiP; omega, by unfold tmV; rw [if_pos ⟨by omega, by omega⟩]; rfl⟩ | exact Or.inr ⟨by unfold tiP; omega, by unfold tmV; rw [if_neg (by omega), if_pos (by omega)]; rfl⟩ | exact Or.inr ⟨by unfold tiP; omega, by unfold tmV; rw [if_neg (by omega), if_neg (by omega), if_pos (by omega), if_pos (by omega)]; rfl⟩ | exact Or.inr ⟨by unfold tiP; omega, by unfold tmV; rw [if_neg (by omega), if_neg (by omega), if_pos (by omega), if_neg (by omega)]; rfl⟩ | exact Or.inr ⟨by unfold tiP; omega, by unfold tmV; rw [if_neg (by omega), if_neg (by omega), if_neg (by omega), if_pos (by omega), ← h_83.1]; exact tm_1 (by omega) (by omega)⟩ | exact Or.inr ⟨by unfold tiP; omega, by unfold tmV; rw [if_neg (by omega), if_neg (by omega), if_neg (by omega), if_neg (by omega), if_pos (by omega), ← h_97.1, ← h_108.1]; exact tm_4 (by omega) (by omega) (by omega) ex_128⟩ | exact Or.inr ⟨by unfold tiP; omega, by unfold tmV; rw [if_neg (by omega), if_neg (by omega), if_neg (by omega), if_neg (by omega), if_neg (by omega), ← h_97.1, ← h_108.1]; exact tm_3 (by omega) (by omega) (by omega) ex_128⟩), ht⟩) (fun _ h => nomatch h) dX12_times_145 hlk
                  · skip
                    refine lv_lload SS.1 SS.2.1 dX12_times_135 (lv_at hl 0 rfl) ?_
                    refine lv_lload SS.1 SS.2.1 dX12_times_137 (lv_at hl 1 rfl) ?_
                    refine lv_ladd SS.1 SS.2.1 dX12_times_139 ?_
                    refine lv_goto (tgt := 145) SS.1 SS.2.1 dX12_times_140 (by decide) ?_
                    exact W.lret SS.1 SS.2.1 hr (fun t ht hW => ⟨_, rfl, (by first | exact Or.inl ⟨fun q => by unfold tiP at q; omega, rfl⟩ | exact Or.inr ⟨by unfold tiP; omega, by unfold tmV; rw [if_pos ⟨by omega, by omega⟩]; rfl⟩ | exact Or.inr ⟨by unfold tiP; omega, by unfold tmV; rw [if_neg (by omega), if_pos (by omega)]; rfl⟩ | exact Or.inr ⟨by unfold tiP; omega, by unfold tmV; rw [if_neg (by omega), if_neg (by omega), if_pos (by omega), if_pos (by omega)]; rfl⟩ | exact Or.inr ⟨by unfold tiP; omega, by unfold tmV; rw [if_neg (by omega), if_neg (by omega), if_pos (by omega), if_neg (by omega)]; rfl⟩ | exact Or.inr ⟨by unfold tiP; omega, by unfold tmV; rw [if_neg (by omega), if_neg (by omega), if_neg (by omega), if_pos (by omega), ← h_83.1]; exact tm_1 (by omega) (by omega)⟩ | exact Or.inr ⟨by unfold tiP; omega, by unfold tmV; rw [if_neg (by omega), if_neg (by omega), if_neg (by omega), if_neg (by omega), if_pos (by omega), ← h_97.1, ← h_108.1]; exact tm_4 (by omega) (by omega) (by omega) ex_128⟩ | exact Or.inr ⟨by unfold tiP; omega, by unfold tmV; rw [if_neg (by omega), if_neg (by omega), if_neg (by omega), if_neg (by omega), if_neg (by omega), ← h_97.1, ← h_108.1]; exact tm_3 (by omega) (by omega) (by omega) ex_128⟩), ht⟩) (fun _ h => nomatch h) dX12_times_145 hlk
                · skip
                  refine lv_aload_n SS.1 SS.2.1 dX12_times_81 rfl (lv_at hl 0 rfl) ?_
                  refine lv_iload_n SS.1 SS.2.1 dX12_times_82 rfl (lv_at hl 1 rfl) ?_
                  refine j_vRi SS (As := [.int (J s)]) (rest := []) (c_X12_edgeOf l D o q u s (show 0 ≤ s ∧ s ≤ 7 from (by omega)) (show Sh u s from (p0.1 _ (by omega) (by omega)))) mf_X12_edgeOf kw_1222 hG hP hP (ci := 8) (q0 := 0) rfl rfl rfl rfl hl.1 ⟨⟨Nat.le_of_ble_eq_true rfl, Nat.le_of_ble_eq_true rfl⟩, Nat.le_of_ble_eq_true rfl, Nat.le_refl _, Nat.le_refl _⟩ rfl dX12_times_83 (fun z_83 h_83 => ?_)
                  have h_83 : z_83 = mEd u s ∧ 0 ≤ z_83 ∧ z_83 ≤ 2000 := h_83
                  refine j_iconst SS dX12_times_86 ?_
                  refine j_isub SS (x := z_83) (y := 1) dX12_times_87 ?_
                  refine lv_i2l SS.1 SS.2.1 dX12_times_88 rfl ?_
                  refine lv_iload_n SS.1 SS.2.1 dX12_times_89 rfl (lv_at hl 2 rfl) ?_
                  refine lv_i2l SS.1 SS.2.1 dX12_times_90 rfl ?_
                  refine lv_lmul SS.1 SS.2.1 dX12_times_91 ?_
                  refine lv_lconst (v := 1) SS.1 SS.2.1 dX12_times_92 (by decide +kernel) ?_
                  refine lv_ladd SS.1 SS.2.1 dX12_times_93 ?_
                  exact W.lret SS.1 SS.2.1 hr (fun t ht hW => ⟨_, rfl, (by first | exact Or.inl ⟨fun q => by unfold tiP at q; omega, rfl⟩ | exact Or.inr ⟨by unfold tiP; omega, by unfold tmV; rw [if_pos ⟨by omega, by omega⟩]; rfl⟩ | exact Or.inr ⟨by unfold tiP; omega, by unfold tmV; rw [if_neg (by omega), if_pos (by omega)]; rfl⟩ | exact Or.inr ⟨by unfold tiP; omega, by unfold tmV; rw [if_neg (by omega), if_neg (by omega), if_pos (by omega), if_pos (by omega)]; rfl⟩ | exact Or.inr ⟨by unfold tiP; omega, by unfold tmV; rw [if_neg (by omega), if_neg (by omega), if_pos (by omega), if_neg (by omega)]; rfl⟩ | exact Or.inr ⟨by unfold tiP; omega, by unfold tmV; rw [if_neg (by omega), if_neg (by omega), if_neg (by omega), if_pos (by omega), ← h_83.1]; exact tm_1 (by omega) (by omega)⟩ | exact Or.inr ⟨by unfold tiP; omega, by unfold tmV; rw [if_neg (by omega), if_neg (by omega), if_neg (by omega), if_neg (by omega), if_pos (by omega), ← h_97.1, ← h_108.1]; exact tm_4 (by omega) (by omega) (by omega) ex_128⟩ | exact Or.inr ⟨by unfold tiP; omega, by unfold tmV; rw [if_neg (by omega), if_neg (by omega), if_neg (by omega), if_neg (by omega), if_neg (by omega), ← h_97.1, ← h_108.1]; exact tm_3 (by omega) (by omega) (by omega) ex_128⟩), ht⟩) (fun _ h => nomatch h) dX12_times_94 hlk
              · skip
                refine lv_iload_n SS.1 SS.2.1 dX12_times_63 rfl (lv_at hl 3 rfl) ?_
                refine j_if_ne SS (tgt := 71) (x := what) dX12_times_64 (by decide) (by omega) (fun c_64 => ?_) (fun c_64 => ?_)
                · skip
                  refine lv_lconst (v := 0) SS.1 SS.2.1 dX12_times_71 (by decide +kernel) ?_
                  exact W.lret SS.1 SS.2.1 hr (fun t ht hW => ⟨_, rfl, (by first | exact Or.inl ⟨fun q => by unfold tiP at q; omega, rfl⟩ | exact Or.inr ⟨by unfold tiP; omega, by unfold tmV; rw [if_pos ⟨by omega, by omega⟩]; rfl⟩ | exact Or.inr ⟨by unfold tiP; omega, by unfold tmV; rw [if_neg (by omega), if_pos (by omega)]; rfl⟩ | exact Or.inr ⟨by unfold tiP; omega, by unfold tmV; rw [if_neg (by omega), if_neg (by omega), if_pos (by omega), if_pos (by omega)]; rfl⟩ | exact Or.inr ⟨by unfold tiP; omega, by unfold tmV; rw [if_neg (by omega), if_neg (by omega), if_pos (by omega), if_neg (by omega)]; rfl⟩ | exact Or.inr ⟨by unfold tiP; omega, by unfold tmV; rw [if_neg (by omega), if_neg (by omega), if_neg (by omega), if_pos (by omega), ← h_83.1]; exact tm_1 (by omega) (by omega)⟩ | exact Or.inr ⟨by unfold tiP; omega, by unfold tmV; rw [if_neg (by omega), if_neg (by omega), if_neg (by omega), if_neg (by omega), if_pos (by omega), ← h_97.1, ← h_108.1]; exact tm_4 (by omega) (by omega) (by omega) ex_128⟩ | exact Or.inr ⟨by unfold tiP; omega, by unfold tmV; rw [if_neg (by omega), if_neg (by omega), if_neg (by omega), if_neg (by omega), if_neg (by omega), ← h_97.1, ← h_108.1]; exact tm_3 (by omega) (by omega) (by omega) ex_128⟩), ht⟩) (fun _ h => nomatch h) dX12_times_72 hlk
                · skip
                  refine lv_lconst (v := 1) SS.1 SS.2.1 dX12_times_67 (by decide +kernel) ?_
                  refine lv_goto (tgt := 72) SS.1 SS.2.1 dX12_times_68 (by decide) ?_
                  exact W.lret SS.1 SS.2.1 hr (fun t ht hW => ⟨_, rfl, (by first | exact Or.inl ⟨fun q => by unfold tiP at q; omega, rfl⟩ | exact Or.inr ⟨by unfold tiP; omega, by unfold tmV; rw [if_pos ⟨by omega, by omega⟩]; rfl⟩ | exact Or.inr ⟨by unfold tiP; omega, by unfold tmV; rw [if_neg (by omega), if_pos (by omega)]; rfl⟩ | exact Or.inr ⟨by unfold tiP; omega, by unfold tmV; rw [if_neg (by omega), if_neg (by omega), if_pos (by omega), if_pos (by omega)]; rfl⟩ | exact Or.inr ⟨by unfold tiP; omega, by unfold tmV; rw [if_neg (by omega), if_neg (by omega), if_pos (by omega), if_neg (by omega)]; rfl⟩ | exact Or.inr ⟨by unfold tiP; omega, by unfold tmV; rw [if_neg (by omega), if_neg (by omega), if_neg (by omega), if_pos (by omega), ← h_83.1]; exact tm_1 (by omega) (by omega)⟩ | exact Or.inr ⟨by unfold tiP; omega, by unfold tmV; rw [if_neg (by omega), if_neg (by omega), if_neg (by omega), if_neg (by omega), if_pos (by omega), ← h_97.1, ← h_108.1]; exact tm_4 (by omega) (by omega) (by omega) ex_128⟩ | exact Or.inr ⟨by unfold tiP; omega, by unfold tmV; rw [if_neg (by omega), if_neg (by omega), if_neg (by omega), if_neg (by omega), if_neg (by omega), ← h_97.1, ← h_108.1]; exact tm_3 (by omega) (by omega) (by omega) ex_128⟩), ht⟩) (fun _ h => nomatch h) dX12_times_72 hlk
            · skip
              refine lv_lconst (v := 0) SS.1 SS.2.1 dX12_times_57 (by decide +kernel) ?_
              exact W.lret SS.1 SS.2.1 hr (fun t ht hW => ⟨_, rfl, (by first | exact Or.inl ⟨fun q => by unfold tiP at q; omega, rfl⟩ | exact Or.inr ⟨by unfold tiP; omega, by unfold tmV; rw [if_pos ⟨by omega, by omega⟩]; rfl⟩ | exact Or.inr ⟨by unfold tiP; omega, by unfold tmV; rw [if_neg (by omega), if_pos (by omega)]; rfl⟩ | exact Or.inr ⟨by unfold tiP; omega, by unfold tmV; rw [if_neg (by omega), if_neg (by omega), if_pos (by omega), if_pos (by omega)]; rfl⟩ | exact Or.inr ⟨by unfold tiP; omega, by unfold tmV; rw [if_neg (by omega), if_neg (by omega), if_pos (by omega), if_neg (by omega)]; rfl⟩ | exact Or.inr ⟨by unfold tiP; omega, by unfold tmV; rw [if_neg (by omega), if_neg (by omega), if_neg (by omega), if_pos (by omega), ← h_83.1]; exact tm_1 (by omega) (by omega)⟩ | exact Or.inr ⟨by unfold tiP; omega, by unfold tmV; rw [if_neg (by omega), if_neg (by omega), if_neg (by omega), if_neg (by omega), if_pos (by omega), ← h_97.1, ← h_108.1]; exact tm_4 (by omega) (by omega) (by omega) ex_128⟩ | exact Or.inr ⟨by unfold tiP; omega, by unfold tmV; rw [if_neg (by omega), if_neg (by omega), if_neg (by omega), if_neg (by omega), if_neg (by omega), ← h_97.1, ← h_108.1]; exact tm_3 (by omega) (by omega) (by omega) ex_128⟩), ht⟩) (fun _ h => nomatch h) dX12_times_58 hlk
          · skip
            refine lv_ldc2 SS.1 SS.2.1 SS.2.2.2.1 (SS.2.2.2.2 _ kw_1249) dX12_times_44 ?_
            exact W.lret SS.1 SS.2.1 hr (fun t ht hW => ⟨_, rfl, (by first | exact Or.inl ⟨fun q => by unfold tiP at q; omega, rfl⟩ | exact Or.inr ⟨by unfold tiP; omega, by unfold tmV; rw [if_pos ⟨by omega, by omega⟩]; rfl⟩ | exact Or.inr ⟨by unfold tiP; omega, by unfold tmV; rw [if_neg (by omega), if_pos (by omega)]; rfl⟩ | exact Or.inr ⟨by unfold tiP; omega, by unfold tmV; rw [if_neg (by omega), if_neg (by omega), if_pos (by omega), if_pos (by omega)]; rfl⟩ | exact Or.inr ⟨by unfold tiP; omega, by unfold tmV; rw [if_neg (by omega), if_neg (by omega), if_pos (by omega), if_neg (by omega)]; rfl⟩ | exact Or.inr ⟨by unfold tiP; omega, by unfold tmV; rw [if_neg (by omega), if_neg (by omega), if_neg (by omega), if_pos (by omega), ← h_83.1]; exact tm_1 (by omega) (by omega)⟩ | exact Or.inr ⟨by unfold tiP; omega, by unfold tmV; rw [if_neg (by omega), if_neg (by omega), if_neg (by omega), if_neg (by omega), if_pos (by omega), ← h_97.1, ← h_108.1]; exact tm_4 (by omega) (by omega) (by omega) ex_128⟩ | exact Or.inr ⟨by unfold tiP; omega, by unfold tmV; rw [if_neg (by omega), if_neg (by omega), if_neg (by omega), if_neg (by omega), if_neg (by omega), ← h_97.1, ← h_108.1]; exact tm_3 (by omega) (by omega) (by omega) ex_128⟩), ht⟩) (fun _ h => nomatch h) dX12_times_47 hlk
      · skip
        refine lv_ldc2 SS.1 SS.2.1 SS.2.2.2.1 (SS.2.2.2.2 _ kw_1248) dX12_times_27 ?_
        exact W.lret SS.1 SS.2.1 hr (fun t ht hW => ⟨_, rfl, (by first | exact Or.inl ⟨fun q => by unfold tiP at q; omega, rfl⟩ | exact Or.inr ⟨by unfold tiP; omega, by unfold tmV; rw [if_pos ⟨by omega, by omega⟩]; rfl⟩ | exact Or.inr ⟨by unfold tiP; omega, by unfold tmV; rw [if_neg (by omega), if_pos (by omega)]; rfl⟩ | exact Or.inr ⟨by unfold tiP; omega, by unfold tmV; rw [if_neg (by omega), if_neg (by omega), if_pos (by omega), if_pos (by omega)]; rfl⟩ | exact Or.inr ⟨by unfold tiP; omega, by unfold tmV; rw [if_neg (by omega), if_neg (by omega), if_pos (by omega), if_neg (by omega)]; rfl⟩ | exact Or.inr ⟨by unfold tiP; omega, by unfold tmV; rw [if_neg (by omega), if_neg (by omega), if_neg (by omega), if_pos (by omega), ← h_83.1]; exact tm_1 (by omega) (by omega)⟩ | exact Or.inr ⟨by unfold tiP; omega, by unfold tmV; rw [if_neg (by omega), if_neg (by omega), if_neg (by omega), if_neg (by omega), if_pos (by omega), ← h_97.1, ← h_108.1]; exact tm_4 (by omega) (by omega) (by omega) ex_128⟩ | exact Or.inr ⟨by unfold tiP; omega, by unfold tmV; rw [if_neg (by omega), if_neg (by omega), if_neg (by omega), if_neg (by omega), if_neg (by omega), ← h_97.1, ← h_108.1]; exact tm_3 (by omega) (by omega) (by omega) ex_128⟩), ht⟩) (fun _ h => nomatch h) dX12_times_30 hlk


/-- the area of a closed way -/
def hAr (n : Int) (X Y : Nat → Int) : Int := smI (fun i => X i.toNat * nxt Y n i.toNat - nxt X n i.toNat * Y i.toNat) n
theorem rA_h {K : Int} {u : CS} {r : Nat} (h : RB K u r) : rA u r = hAr (u.1.2.2.1 r) (u.1.1 r) (u.1.2.1 r) := by
  unfold rA hAr
  refine smI_c (fun i h0 h1 => ?_)
  have k1 := rx_n h (a := i.toNat) (by omega)
  have k2 := rx_ar h (a := i.toNat) (by omega)
  rw [show ((i.toNat : Nat) : Int) = i by omega] at k1 k2
  unfold dX dY
  rw [k1.1, k1.2, k2.1, k2.2, Int.mul_sub, Int.mul_sub, Int.mul_comm (u.1.2.1 r i.toNat) (nxt (u.1.1 r) (u.1.2.2.1 r) i.toNat), Int.mul_comm (u.1.2.1 r i.toNat) (u.1.1 r i.toNat)]
  omega
theorem rA_s {u u' : CS} {r : Nat} (e : u'.1.2.2.1 r = u.1.2.2.1 r ∧ u'.1.1 r = u.1.1 r ∧ u'.1.2.1 r = u.1.2.1 r) : rA u' r = rA u r := by
  obtain ⟨e1, e2, e3⟩ := e
  unfold rA dX dY ar rx ry9
  rw [e1, e2, e3]
theorem hAr_c {n n' : Int} {X Y X' Y' : Nat → Int} (en : n = n') (e : ∀ a : Nat, (a : Int) < n → X a = X' a ∧ Y a = Y' a) : hAr n X Y = hAr n' X' Y' := by
  subst en
  unfold hAr
  refine smI_c (fun i h0 h1 => ?_)
  have k := e i.toNat (by omega)
  have k2 : nxt X n i.toNat = nxt X' n i.toNat ∧ nxt Y n i.toNat = nxt Y' n i.toNat := by
    unfold nxt
    by_cases w : ((i.toNat : Nat) : Int) + 1 < n
    · rw [if_pos w, if_pos w, if_pos w, if_pos w]; exact e _ (by omega)
    · rw [if_neg w, if_neg w, if_neg w, if_neg w]; exact e 0 (by omega)
  rw [k.1, k.2, k2.1, k2.2]
theorem nxt_tm {X : Nat → Int} {n i : Int} (h : 0 ≤ i ∧ i < n) : X ((i + 1).tmod n).toNat = nxt X n i.toNat := by
  unfold nxt
  by_cases w : i + 1 < n
  · rw [if_pos (by omega), Int.tmod_eq_of_lt (by omega) w]; exact congrArg X (by omega)
  · rw [if_neg (by omega), show i + 1 = n by omega, Int.tmod_self]; rfl
def mxC (u : CS) (s s2 z : Int) : Prop := (¬ ((0 ≤ s ∧ s ≤ 7) ∧ 0 ≤ s2 ∧ s2 ≤ 7) ∧ z = -1) ∨ (((0 ≤ s ∧ s ≤ 7) ∧ 0 ≤ s2 ∧ s2 ≤ 7) ∧ (((u.1.2.2.1 s.toNat = 0 ∨ u.1.2.2.1 s2.toNat = 0) ∧ z = 0) ∨ (¬ (u.1.2.2.1 s.toNat = 0 ∨ u.1.2.2.1 s2.toNat = 0) ∧ ∃ (n : Int) (X Y : Nat → Int), HS (SM (RP u s.toNat) (RP u s2.toNat)) n X Y ∧ z = hAr n X Y - rA u s.toNat - rA u s2.toNat)))
def mxM (u : MS) (s s2 z : Int) : Prop := (¬ ((0 ≤ s ∧ s ≤ 7) ∧ 0 ≤ s2 ∧ s2 ≤ 7) ∧ z = -1) ∨ (((0 ≤ s ∧ s ≤ 7) ∧ 0 ≤ s2 ∧ s2 ≤ 7) ∧ (((mN u s = 0 ∨ mN u s2 = 0) ∧ z = 0) ∨ (¬ (mN u s = 0 ∨ mN u s2 = 0) ∧ ∃ (n : Int) (X Y : Nat → Int), HS (SM (SP u s) (SP u s2)) n X Y ∧ z = hAr n X Y - mAr u s - mAr u s2)))


set_option maxHeartbeats 4000000 in
set_option maxRecDepth 100000 in
theorem c_X12_mixed2 (l : Launch) (D : JD) (o : Nat) (q : Nat → Nat) (u : MS) (A : Nat → Prop) (hD : va_D A (mW D o q u)) (s : Int) (s2 : Int) (p0 : IM u) (p1 : -2147483648 ≤ s ∧ s ≤ 2147483647) (p2 : -2147483648 ≤ s2 ∧ s2 ≤ 2147483647) : Met l yX12_mixed (jw yX12_mixed cX12_mixed 6 (some .int)) (jr 4 92) (jP [.ref o, .int (J s), .int (J s2)] D (fun H => va_P D.1 j_cl (mW D o q u) H)) (jWi (fun z u' => ∃ f4 : Nat → Int, ∃ f5 : Nat → Int, ∃ w : Int, ∃ X : Nat → Int, ∃ Y : Nat → Int, ∃ nh : Int, u' = (uV (uI (uI (uV (uI (uI u 4 f4) 5 f5) 6 w) 7 X) 8 Y) 9 nh) ∧ (IM u' ∧ mxM u s s2 z)) (fun u' H => va_P D.1 j_cl (mW D o q u') H) A) 0 0 A := by
  refine Met.ofW (cc := cX12_mixed) (maxL := 6) (ret := (some .int)) (by decide) rfl ?_
  intro pr en st mi args below meth co s₁ B hml hv
  obtain ⟨rfl, hG, hP⟩ := hv
  have hr := B.returns
  have hlk := B.notSynchronized
  have SS : jS pr mi co cX12_mixed 6 st _ RX12 := ⟨B.exec, B.bytes, hml, findClass_of_methodNamed B.named, fun w hw => atoms_spec (ws := (jw yX12_mixed cX12_mixed 6 (some .int))) B.pre w (List.mem_cons_of_mem _ hw)⟩
  have hl := lv_entry ([.ref o, .int (J s), .int (J s2)]) (n := 6) (Nat.le_of_ble_eq_true rfl)
  rw [lg_entry_eq]
  generalize (lg_sl ([.ref o, .int (J s), .int (J s2)]) ++ List.replicate (6 - (lg_sl ([.ref o, .int (J s), .int (J s2)])).length) Slot.unset).toArray = ls at hl ⊢
  have hl : lv_has ls 6 [(0, .ref o), (1, .int (J s)), (2, .int (J s2))] := hl
  have hS : va_S A st.heap st.heap [] := va_S.rf
  refine lv_iload_n SS.1 SS.2.1 dX12_mixed_0 rfl (lv_at hl 1 rfl) ?_
  refine j_sRi SS (As := [.int (J s)]) (rest := []) (c_X12_isShape l D s (show -2147483648 ≤ s ∧ s ≤ 2147483647 from (by omega))) mf_X12_isShape kw_1156 hG trivial rfl hl.1 ⟨⟨Nat.le_of_ble_eq_true rfl, Nat.le_of_ble_eq_true rfl⟩, Nat.le_of_ble_eq_true rfl, Nat.le_refl _, Nat.le_refl _⟩ rfl dX12_mixed_1 (fun z_1 h_1 => ?_)
  have h_1 : (z_1 = 1 ∧ (0 ≤ s ∧ s ≤ 7)) ∨ (z_1 = 0 ∧ ¬ (0 ≤ s ∧ s ≤ 7)) := h_1
  refine j_if_eq SS (tgt := 14) (x := z_1) dX12_mixed_4 (by decide) (by omega) (fun c_4 => ?_) (fun c_4 => ?_)
  · skip
    refine j_iconst SS dX12_mixed_14 ?_
    exact W.iret SS.1 SS.2.1 hr (fun t ht hW => ⟨⟨_, (uV (uI (uI (uV (uI (uI u 4 (u.1 4)) 5 (u.1 5)) 6 (u.2.2 6)) 7 (u.1 7)) 8 (u.1 8)) 9 (u.2.2 9)), rfl, ⟨(-1), rfl, (⟨(u.1 4), (u.1 5), (u.2.2 6), (u.1 7), (u.1 8), (u.2.2 9), rfl, by first | exact ⟨p0, Or.inl ⟨by omega, rfl⟩⟩ | exact ⟨p0, Or.inr ⟨by omega, Or.inl ⟨by omega, rfl⟩⟩⟩ | exact ⟨p0, Or.inr ⟨by omega, Or.inr ⟨by omega, nh_39, X_39, Y_39, a7, by rw [h_110.1, h_116.1, i47_1, show i = nh_39 by omega]; rfl⟩⟩⟩⟩)⟩, by show va_P D.1 j_cl (mW D o q (uV (uI (uI (uV (uI (uI u 4 (u.1 4)) 5 (u.1 5)) 6 (u.2.2 6)) 7 (u.1 7)) 8 (u.1 8)) 9 (u.2.2 9))) t.heap; rw [ht]; exact hP⟩, hS.F ht⟩) hS.2.2 dX12_mixed_15 hlk
  · skip
    refine lv_iload_n SS.1 SS.2.1 dX12_mixed_7 rfl (lv_at hl 2 rfl) ?_
    refine j_sRi SS (As := [.int (J s2)]) (rest := []) (c_X12_isShape l D s2 (show -2147483648 ≤ s2 ∧ s2 ≤ 2147483647 from (by omega))) mf_X12_isShape kw_1156 hG trivial rfl hl.1 ⟨⟨Nat.le_of_ble_eq_true rfl, Nat.le_of_ble_eq_true rfl⟩, Nat.le_of_ble_eq_true rfl, Nat.le_refl _, Nat.le_refl _⟩ rfl dX12_mixed_8 (fun z_8 h_8 => ?_)
    have h_8 : (z_8 = 1 ∧ (0 ≤ s2 ∧ s2 ≤ 7)) ∨ (z_8 = 0 ∧ ¬ (0 ≤ s2 ∧ s2 ≤ 7)) := h_8
    refine j_if_ne SS (tgt := 16) (x := z_8) dX12_mixed_11 (by decide) (by omega) (fun c_11 => ?_) (fun c_11 => ?_)
    · skip
      refine lv_aload_n SS.1 SS.2.1 dX12_mixed_16 rfl (lv_at hl 0 rfl) ?_
      refine j_get SS hG hP 0 (v := .ref (q 0)) (C := RX12) (T := TX12) (N := 31) rfl rfl inX12 0 (by decide) (ref := RX12) kw_1058 rfl rfl dX12_mixed_17 ?_
      refine lv_iload_n SS.1 SS.2.1 dX12_mixed_20 rfl (lv_at hl 1 rfl) ?_
      refine j_iald SS hG hP 1 (n := 8) (f := (u.1 0)) rfl (z := s) (by omega) (by omega) dX12_mixed_21 ?_
      have hN_21 := (show Sh u s from p0.1 _ (by omega) (by omega)).1
      refine j_if_eq SS (tgt := 34) (x := (mN u s)) dX12_mixed_22 (by decide) (by omega) (fun c_22 => ?_) (fun c_22 => ?_)
      · skip
        refine j_iconst SS dX12_mixed_34 ?_
        exact W.iret SS.1 SS.2.1 hr (fun t ht hW => ⟨⟨_, (uV (uI (uI (uV (uI (uI u 4 (u.1 4)) 5 (u.1 5)) 6 (u.2.2 6)) 7 (u.1 7)) 8 (u.1 8)) 9 (u.2.2 9)), rfl, ⟨0, rfl, (⟨(u.1 4), (u.1 5), (u.2.2 6), (u.1 7), (u.1 8), (u.2.2 9), rfl, by first | exact ⟨p0, Or.inl ⟨by omega, rfl⟩⟩ | exact ⟨p0, Or.inr ⟨by omega, Or.inl ⟨by omega, rfl⟩⟩⟩ | exact ⟨p0, Or.inr ⟨by omega, Or.inr ⟨by omega, nh_39, X_39, Y_39, a7, by rw [h_110.1, h_116.1, i47_1, show i = nh_39 by omega]; rfl⟩⟩⟩⟩)⟩, by show va_P D.1 j_cl (mW D o q (uV (uI (uI (uV (uI (uI u 4 (u.1 4)) 5 (u.1 5)) 6 (u.2.2 6)) 7 (u.1 7)) 8 (u.1 8)) 9 (u.2.2 9))) t.heap; rw [ht]; exact hP⟩, hS.F ht⟩) hS.2.2 dX12_mixed_35 hlk
      · skip
        refine lv_aload_n SS.1 SS.2.1 dX12_mixed_25 rfl (lv_at hl 0 rfl) ?_
        refine j_get SS hG hP 0 (v := .ref (q 0)) (C := RX12) (T := TX12) (N := 31) rfl rfl inX12 0 (by decide) (ref := RX12) kw_1058 rfl rfl dX12_mixed_26 ?_
        refine lv_iload_n SS.1 SS.2.1 dX12_mixed_29 rfl (lv_at hl 2 rfl) ?_
        refine j_iald SS hG hP 1 (n := 8) (f := (u.1 0)) rfl (z := s2) (by omega) (by omega) dX12_mixed_30 ?_
        have hN_30 := (show Sh u s2 from p0.1 _ (by omega) (by omega)).1
        refine j_if_ne SS (tgt := 36) (x := (mN u s2)) dX12_mixed_31 (by decide) (by omega) (fun c_31 => ?_) (fun c_31 => ?_)
        · skip
          refine lv_aload_n SS.1 SS.2.1 dX12_mixed_36 rfl (lv_at hl 0 rfl) ?_
          refine lv_iload_n SS.1 SS.2.1 dX12_mixed_37 rfl (lv_at hl 1 rfl) ?_
          refine lv_iload_n SS.1 SS.2.1 dX12_mixed_38 rfl (lv_at hl 2 rfl) ?_
          refine j_vWv SS (As := [.int (J s), .int (J s2)]) (rest := []) (c_X12_findSum2 l D o q u A (mW_D hD) s s2 (show 0 ≤ s ∧ s ≤ 7 from (by omega)) (show Sh u s from (p0.1 _ (by omega) (by omega))) (show 0 ≤ s2 ∧ s2 ≤ 7 from (by omega)) (show Sh u s2 from (p0.1 _ (by omega) (by omega)))) mf_X12_findSum kw_1317 hG hP hP (ci := 8) (q0 := 0) rfl rfl rfl hS (fun _ h => h) rfl hl.1 ⟨⟨Nat.le_of_ble_eq_true rfl, Nat.le_of_ble_eq_true rfl⟩, Nat.le_of_ble_eq_true rfl, Nat.le_refl _, Nat.le_refl _⟩ rfl dX12_mixed_39 (fun u39 H locs h_39 hP _ hS => ?_)
          obtain ⟨f_39, g_39, w_39, X_39, Y_39, nh_39, rfl, h_39⟩ := h_39
          have hP : va_P D.1 j_cl (mW D o q (uV (uI (uI (uV (uI (uI u 4 f_39) 5 g_39) 6 w_39) 7 X_39) 8 Y_39) 9 nh_39)) H := hP
          have h_39 : 0 ≤ nh_39 ∧ nh_39 ≤ 1290 ∧ Ch nh_39 X_39 Y_39 ∧ bd 10000 X_39 Y_39 nh_39 ∧ bd 80 X_39 Y_39 nh_39 ∧ HS (SM (SP u s) (SP u s2)) nh_39 X_39 Y_39 := h_39
          obtain ⟨a1, a2, a3, a4, a5, a7⟩ := h_39
          refine j_iconst SS dX12_mixed_42 ?_
          refine lv_istore_n (lv' := [(3, .int (J 0)), (0, .ref o), (1, .int (J s)), (2, .int (J s2))]) SS.1 SS.2.1 dX12_mixed_43 rfl hl (by decide) rfl (fun ls hl => ?_)
          refine j_iconst SS dX12_mixed_44 ?_
          refine lv_istore (lv' := [(4, .int (J 0)), (3, .int (J 0)), (0, .ref o), (1, .int (J s)), (2, .int (J s2))]) SS.1 SS.2.1 dX12_mixed_45 hl (by decide) rfl (fun ls hl => ?_)
          have L_47 : ∀ (nn : Nat) (t3 : Int) (i : Int) (H : Heap) (locs : List Loc) (hP : va_P D.1 j_cl (mW D o q (uV (uI (uI (uV (uI (uI u 4 f_39) 5 g_39) 6 w_39) 7 X_39) 8 Y_39) 9 nh_39)) H) (hS : va_S A st.heap H locs) (ls : Array Slot) (hl : lv_has ls 6 [(0, .ref o), (1, .int (J s)), (2, .int (J s2)), (3, .int (J t3)), (4, .int (J i))]) (i47_0 : 0 ≤ i ∧ i ≤ nh_39) (i47_1 : t3 = smI (fun i => X_39 i.toNat * nxt Y_39 nh_39 i.toNat - nxt X_39 nh_39 i.toNat * Y_39 i.toNat) i), (nh_39 - i).toNat < nn → W pr l en (headSpec (jw yX12_mixed cX12_mixed 6 (some .int)) (jr 4 92)).room st mi (([.ref o, .int (J s), .int (J s2)] : List Value).toArray) below meth co H locs 0 0 (MQ below (jWi (fun z u' => ∃ f4 : Nat → Int, ∃ f5 : Nat → Int, ∃ w : Int, ∃ X : Nat → Int, ∃ Y : Nat → Int, ∃ nh : Int, u' = (uV (uI (uI (uV (uI (uI u 4 f4) 5 f5) 6 w) 7 X) 8 Y) 9 nh) ∧ (IM u' ∧ mxM u s s2 z)) (fun u' H => va_P D.1 j_cl (mW D o q u') H) A) (([.ref o, .int (J s), .int (J s2)] : List Value).toArray) st 0 0 A) (F0 mi 47 ls []) := by
            intro nn
            induction nn with
            | zero => intros; omega
            | succ nn ih_47 =>
              intro t3 i  H locs hP hS ls hl i47_0 i47_1 hm
              refine lv_iload SS.1 SS.2.1 dX12_mixed_47 (lv_at hl 4 rfl) ?_
              refine lv_aload_n SS.1 SS.2.1 dX12_mixed_49 rfl (lv_at hl 0 rfl) ?_
              refine j_get SS hG hP 0 (v := .int (J nh_39)) (C := RX12) (T := TX12) (N := 31) rfl rfl inX12 9 (by decide) (ref := RX12) kw_1067 rfl rfl dX12_mixed_50 ?_
              refine j_icmp_ge SS (tgt := 107) (x := i) (y := nh_39) dX12_mixed_53 (by decide) (by omega) (by omega) (fun c_53 => ?_) (fun c_53 => ?_)
              · skip
                refine lv_iload_n SS.1 SS.2.1 dX12_mixed_107 rfl (lv_at hl 3 rfl) ?_
                refine lv_aload_n SS.1 SS.2.1 dX12_mixed_108 rfl (lv_at hl 0 rfl) ?_
                refine lv_iload_n SS.1 SS.2.1 dX12_mixed_109 rfl (lv_at hl 1 rfl) ?_
                refine j_vRi SS (As := [.int (J s)]) (rest := [.int (J t3)]) (c_X12_areaOf l D o q (uV (uI (uI (uV (uI (uI u 4 f_39) 5 g_39) 6 w_39) 7 X_39) 8 Y_39) 9 nh_39) s (show 0 ≤ s ∧ s ≤ 7 from (by omega)) (show Sh u s from (p0.1 _ (by omega) (by omega)))) mf_X12_areaOf kw_1218 hG hP hP (ci := 8) (q0 := 0) rfl rfl rfl rfl hl.1 ⟨⟨Nat.le_of_ble_eq_true rfl, Nat.le_of_ble_eq_true rfl⟩, Nat.le_of_ble_eq_true rfl, Nat.le_refl _, Nat.le_refl _⟩ rfl dX12_mixed_110 (fun z_110 h_110 => ?_)
                have h_110 : z_110 = mAr u s ∧ -80000 ≤ z_110 ∧ z_110 ≤ 80000 := h_110
                refine j_isub SS (x := t3) (y := z_110) dX12_mixed_113 ?_
                refine lv_aload_n SS.1 SS.2.1 dX12_mixed_114 rfl (lv_at hl 0 rfl) ?_
                refine lv_iload_n SS.1 SS.2.1 dX12_mixed_115 rfl (lv_at hl 2 rfl) ?_
                refine j_vRi SS (As := [.int (J s2)]) (rest := [.int (J (t3 - z_110))]) (c_X12_areaOf l D o q (uV (uI (uI (uV (uI (uI u 4 f_39) 5 g_39) 6 w_39) 7 X_39) 8 Y_39) 9 nh_39) s2 (show 0 ≤ s2 ∧ s2 ≤ 7 from (by omega)) (show Sh u s2 from (p0.1 _ (by omega) (by omega)))) mf_X12_areaOf kw_1218 hG hP hP (ci := 8) (q0 := 0) rfl rfl rfl rfl hl.1 ⟨⟨Nat.le_of_ble_eq_true rfl, Nat.le_of_ble_eq_true rfl⟩, Nat.le_of_ble_eq_true rfl, Nat.le_refl _, Nat.le_refl _⟩ rfl dX12_mixed_116 (fun z_116 h_116 => ?_)
                have h_116 : z_116 = mAr u s2 ∧ -80000 ≤ z_116 ∧ z_116 ≤ 80000 := h_116
                refine j_isub SS (x := (t3 - z_110)) (y := z_116) dX12_mixed_119 ?_
                exact W.iret SS.1 SS.2.1 hr (fun t ht hW => ⟨⟨_, (uV (uI (uI (uV (uI (uI u 4 f_39) 5 g_39) 6 w_39) 7 X_39) 8 Y_39) 9 nh_39), rfl, ⟨((t3 - z_110) - z_116), rfl, (⟨f_39, g_39, w_39, X_39, Y_39, nh_39, rfl, by first | exact ⟨p0, Or.inl ⟨by omega, rfl⟩⟩ | exact ⟨p0, Or.inr ⟨by omega, Or.inl ⟨by omega, rfl⟩⟩⟩ | exact ⟨p0, Or.inr ⟨by omega, Or.inr ⟨by omega, nh_39, X_39, Y_39, a7, by rw [h_110.1, h_116.1, i47_1, show i = nh_39 by omega]; rfl⟩⟩⟩⟩)⟩, by show va_P D.1 j_cl (mW D o q (uV (uI (uI (uV (uI (uI u 4 f_39) 5 g_39) 6 w_39) 7 X_39) 8 Y_39) 9 nh_39)) t.heap; rw [ht]; exact hP⟩, hS.F ht⟩) hS.2.2 dX12_mixed_120 hlk
              · skip
                refine lv_iload SS.1 SS.2.1 dX12_mixed_56 (lv_at hl 4 rfl) ?_
                refine j_iconst SS dX12_mixed_58 ?_
                refine j_iadd SS (x := i) (y := 1) dX12_mixed_59 ?_
                refine lv_aload_n SS.1 SS.2.1 dX12_mixed_60 rfl (lv_at hl 0 rfl) ?_
                have tb := tm_b (i := i + 1) (n := nh_39) (by omega) (by omega)
                refine j_get SS hG hP 0 (v := .int (J nh_39)) (C := RX12) (T := TX12) (N := 31) rfl rfl inX12 9 (by decide) (ref := RX12) kw_1067 rfl rfl dX12_mixed_61 ?_
                refine j_irem SS (x := (i + 1)) (y := nh_39) dX12_mixed_64 (by omega) (by omega) (by omega) ?_
                refine lv_istore (lv' := [(5, .int (J (Int.tmod (i + 1) nh_39))), (0, .ref o), (1, .int (J s)), (2, .int (J s2)), (3, .int (J t3)), (4, .int (J i))]) SS.1 SS.2.1 dX12_mixed_65 hl (by decide) rfl (fun ls hl => ?_)
                refine lv_iload_n SS.1 SS.2.1 dX12_mixed_67 rfl (lv_at hl 4 rfl) ?_
                refine lv_aload_n SS.1 SS.2.1 dX12_mixed_68 rfl (lv_at hl 1 rfl) ?_
                refine j_get SS hG hP 0 (v := .ref (q 7)) (C := RX12) (T := TX12) (N := 31) rfl rfl inX12 7 (by decide) (ref := RX12) kw_1065 rfl rfl dX12_mixed_69 ?_
                refine lv_iload SS.1 SS.2.1 dX12_mixed_72 (lv_at hl 5 rfl) ?_
                refine j_iald SS hG hP 7 (n := 1300) (f := X_39) rfl (z := i) (by omega) (by omega) dX12_mixed_74 ?_
                refine lv_aload_n SS.1 SS.2.1 dX12_mixed_75 rfl (lv_at hl 1 rfl) ?_
                refine j_get SS hG hP 0 (v := .ref (q 8)) (C := RX12) (T := TX12) (N := 31) rfl rfl inX12 8 (by decide) (ref := RX12) kw_1066 rfl rfl dX12_mixed_76 ?_
                refine lv_iload SS.1 SS.2.1 dX12_mixed_79 (lv_at hl 0 rfl) ?_
                refine j_iald SS hG hP 8 (n := 1300) (f := Y_39) rfl (z := (Int.tmod (i + 1) nh_39)) (by omega) (by omega) dX12_mixed_81 ?_
                refine j_imul SS (x := (X_39 (i).toNat)) (y := (Y_39 ((Int.tmod (i + 1) nh_39)).toNat)) dX12_mixed_82 ?_
                refine lv_aload_n SS.1 SS.2.1 dX12_mixed_83 rfl (lv_at hl 1 rfl) ?_
                refine j_get SS hG hP 0 (v := .ref (q 7)) (C := RX12) (T := TX12) (N := 31) rfl rfl inX12 7 (by decide) (ref := RX12) kw_1065 rfl rfl dX12_mixed_84 ?_
                refine lv_iload SS.1 SS.2.1 dX12_mixed_87 (lv_at hl 0 rfl) ?_
                refine j_iald SS hG hP 7 (n := 1300) (f := X_39) rfl (z := (Int.tmod (i + 1) nh_39)) (by omega) (by omega) dX12_mixed_89 ?_
                refine lv_aload_n SS.1 SS.2.1 dX12_mixed_90 rfl (lv_at hl 1 rfl) ?_
                refine j_get SS hG hP 0 (v := .ref (q 8)) (C := RX12) (T := TX12) (N := 31) rfl rfl inX12 8 (by decide) (ref := RX12) kw_1066 rfl rfl dX12_mixed_91 ?_
                refine lv_iload SS.1 SS.2.1 dX12_mixed_94 (lv_at hl 5 rfl) ?_
                refine j_iald SS hG hP 8 (n := 1300) (f := Y_39) rfl (z := i) (by omega) (by omega) dX12_mixed_96 ?_
                refine j_imul SS (x := (X_39 ((Int.tmod (i + 1) nh_39)).toNat)) (y := (Y_39 (i).toNat)) dX12_mixed_97 ?_
                refine j_isub SS (x := ((X_39 (i).toNat) * (Y_39 ((Int.tmod (i + 1) nh_39)).toNat))) (y := ((X_39 ((Int.tmod (i + 1) nh_39)).toNat) * (Y_39 (i).toNat))) dX12_mixed_98 ?_
                refine j_iadd SS (x := t3) (y := (((X_39 (i).toNat) * (Y_39 ((Int.tmod (i + 1) nh_39)).toNat)) - ((X_39 ((Int.tmod (i + 1) nh_39)).toNat) * (Y_39 (i).toNat)))) dX12_mixed_99 ?_
                refine lv_istore_n (lv' := [(3, .int (J (t3 + (((X_39 (i).toNat) * (Y_39 ((Int.tmod (i + 1) nh_39)).toNat)) - ((X_39 ((Int.tmod (i + 1) nh_39)).toNat) * (Y_39 (i).toNat)))))), (5, .int (J (Int.tmod (i + 1) nh_39))), (0, .ref o), (1, .int (J s)), (2, .int (J s2)), (4, .int (J i))]) SS.1 SS.2.1 dX12_mixed_100 rfl hl (by decide) rfl (fun ls hl => ?_)
                refine lv_iinc (v := J (i + 1)) (lv' := [(4, .int (J (i + 1))), (3, .int (J (t3 + (((X_39 (i).toNat) * (Y_39 ((Int.tmod (i + 1) nh_39)).toNat)) - ((X_39 ((Int.tmod (i + 1) nh_39)).toNat) * (Y_39 (i).toNat)))))), (5, .int (J (Int.tmod (i + 1) nh_39))), (0, .ref o), (1, .int (J s)), (2, .int (J s2))]) SS.1 SS.2.1 dX12_mixed_101 hl (k := 5) rfl (J_add _ _) (by decide) rfl (fun ls hl => ?_)
                refine lv_goto (tgt := 47) SS.1 SS.2.1 dX12_mixed_104 (by decide) ?_
                exact ih_47 (t3 + (((X_39 (i).toNat) * (Y_39 ((Int.tmod (i + 1) nh_39)).toNat)) - ((X_39 ((Int.tmod (i + 1) nh_39)).toNat) * (Y_39 (i).toNat)))) (i + 1) _ _ hP hS ls (lv_sub hl [3, 4, 5, 1, 0] rfl) (by omega) (by rw [smI_s i47_0.1, ← i47_1, ← nxt_tm (X := X_39) (n := nh_39) (i := i) (by omega), ← nxt_tm (X := Y_39) (n := nh_39) (i := i) (by omega)]) (by omega)
          exact L_47 ((nh_39 - (0 : Int)).toNat + 1) 0 0 _ _ hP hS ls (lv_sub hl [2, 3, 4, 1, 0] rfl) (by omega) (by first | exact smI_0.symm | skip) (Nat.lt_succ_self _)
        · skip
          refine j_iconst SS dX12_mixed_34 ?_
          exact W.iret SS.1 SS.2.1 hr (fun t ht hW => ⟨⟨_, (uV (uI (uI (uV (uI (uI u 4 (u.1 4)) 5 (u.1 5)) 6 (u.2.2 6)) 7 (u.1 7)) 8 (u.1 8)) 9 (u.2.2 9)), rfl, ⟨0, rfl, (⟨(u.1 4), (u.1 5), (u.2.2 6), (u.1 7), (u.1 8), (u.2.2 9), rfl, by first | exact ⟨p0, Or.inl ⟨by omega, rfl⟩⟩ | exact ⟨p0, Or.inr ⟨by omega, Or.inl ⟨by omega, rfl⟩⟩⟩ | exact ⟨p0, Or.inr ⟨by omega, Or.inr ⟨by omega, nh_39, X_39, Y_39, a7, by rw [h_110.1, h_116.1, i47_1, show i = nh_39 by omega]; rfl⟩⟩⟩⟩)⟩, by show va_P D.1 j_cl (mW D o q (uV (uI (uI (uV (uI (uI u 4 (u.1 4)) 5 (u.1 5)) 6 (u.2.2 6)) 7 (u.1 7)) 8 (u.1 8)) 9 (u.2.2 9))) t.heap; rw [ht]; exact hP⟩, hS.F ht⟩) hS.2.2 dX12_mixed_35 hlk
    · skip
      refine j_iconst SS dX12_mixed_14 ?_
      exact W.iret SS.1 SS.2.1 hr (fun t ht hW => ⟨⟨_, (uV (uI (uI (uV (uI (uI u 4 (u.1 4)) 5 (u.1 5)) 6 (u.2.2 6)) 7 (u.1 7)) 8 (u.1 8)) 9 (u.2.2 9)), rfl, ⟨(-1), rfl, (⟨(u.1 4), (u.1 5), (u.2.2 6), (u.1 7), (u.1 8), (u.2.2 9), rfl, by first | exact ⟨p0, Or.inl ⟨by omega, rfl⟩⟩ | exact ⟨p0, Or.inr ⟨by omega, Or.inl ⟨by omega, rfl⟩⟩⟩ | exact ⟨p0, Or.inr ⟨by omega, Or.inr ⟨by omega, nh_39, X_39, Y_39, a7, by rw [h_110.1, h_116.1, i47_1, show i = nh_39 by omega]; rfl⟩⟩⟩⟩)⟩, by show va_P D.1 j_cl (mW D o q (uV (uI (uI (uV (uI (uI u 4 (u.1 4)) 5 (u.1 5)) 6 (u.2.2 6)) 7 (u.1 7)) 8 (u.1 8)) 9 (u.2.2 9))) t.heap; rw [ht]; exact hP⟩, hS.F ht⟩) hS.2.2 dX12_mixed_15 hlk


/-- all points of P in order -/
def OL (P : Int → Int → Prop) (n : Int) (X Y : Nat → Int) : Prop := 0 ≤ n ∧ os_s X Y n ∧ ∀ x y : Int, SWW X Y n x y ↔ P x y
theorem lt2_n {a b : Int} : ¬ lt2 a b a b := by unfold lt2; omega
theorem lt2_tr {a b c d e f : Int} (h : lt2 a b c d) (k : lt2 c d e f) : lt2 a b e f := by unfold lt2 at *; omega
theorem os_l2 {X Y : Nat → Int} {n : Int} (h : os_s X Y n) {a b : Nat} (hab : a < b) (hb : (b : Int) < n) : lt2 (X a) (Y a) (X b) (Y b) := by
  have q := os_lt h (b - a - 1) a (by omega)
  rw [show a + (b - a - 1) + 1 = b by omega] at q
  exact q
theorem OL_in {P : Int → Int → Prop} {n : Int} {X Y : Nat → Int} (h : OL P n X Y) {a : Nat} (ha : (a : Int) < n) : P (X a) (Y a) := (h.2.2 _ _).mp ⟨a, ha, rfl, rfl⟩
theorem OL_e {P : Int → Int → Prop} {n n' : Int} {X Y X' Y' : Nat → Int} (h : OL P n X Y) (h' : OL P n' X' Y') : ∀ a : Nat, (a : Int) < n → (a : Int) < n' → X a = X' a ∧ Y a = Y' a := by
  intro a
  induction a using Nat.strongRecOn with
  | _ a ih =>
    intro h1 h2
    obtain ⟨c, c1, c2, c3⟩ := (h'.2.2 _ _).mpr (OL_in h h1)
    obtain ⟨d, d1, d2, d3⟩ := (h.2.2 _ _).mpr (OL_in h' h2)
    have hc : a ≤ c := by
      apply Nat.not_lt.mp
      intro w
      obtain ⟨e1, e2⟩ := ih c w (by omega) c1
      have q := os_l2 h.2.1 w h1
      rw [e1, e2, ← c2, ← c3] at q
      exact lt2_n q
    have hd : a ≤ d := by
      apply Nat.not_lt.mp
      intro w
      obtain ⟨e1, e2⟩ := ih d w d1 (by omega)
      have q := os_l2 h'.2.1 w h2
      rw [← e1, ← e2, ← d2, ← d3] at q
      exact lt2_n q
    by_cases e : a = c
    · rw [← e] at c2 c3; exact ⟨c2, c3⟩
    · by_cases e' : a = d
      · rw [← e'] at d2 d3; exact ⟨d2.symm, d3.symm⟩
      · have q := os_l2 h'.2.1 (show a < c by omega) c1
        have q' := os_l2 h.2.1 (show a < d by omega) d1
        rw [← c2, ← c3] at q
        rw [← d2, ← d3] at q'
        exact absurd (lt2_tr q q') lt2_n
theorem OL_n {P : Int → Int → Prop} {n n' : Int} {X Y X' Y' : Nat → Int} (h : OL P n X Y) (h' : OL P n' X' Y') : n ≤ n' := by
  apply Int.not_lt.mp
  intro w
  have h0 := h'.1
  obtain ⟨c, c1, c2, c3⟩ := (h'.2.2 _ _).mpr (OL_in h (a := n'.toNat) (by omega))
  obtain ⟨e1, e2⟩ := OL_e h h' c (by omega) c1
  have q := os_l2 h.2.1 (show c < n'.toNat by omega) (by omega)
  rw [e1, e2, ← c2, ← c3] at q
  exact lt2_n q
theorem OL_u {P : Int → Int → Prop} {n n' : Int} {X Y X' Y' : Nat → Int} (h : OL P n X Y) (h' : OL P n' X' Y') : n = n' ∧ ∀ a : Nat, (a : Int) < n → X a = X' a ∧ Y a = Y' a := by
  have h1 := OL_n h h'
  have h2 := OL_n h' h
  exact ⟨by omega, fun a ha => OL_e h h' a ha (by omega)⟩
theorem OL_c {P Q : Int → Int → Prop} {n : Int} {X Y : Nat → Int} (h : OL P n X Y) (e : ∀ x y : Int, P x y ↔ Q x y) : OL Q n X Y := ⟨h.1, h.2.1, fun x y => (h.2.2 x y).trans (e x y)⟩
theorem OL_0 {P : Int → Int → Prop} (h : ∀ x y : Int, ¬ P x y) {X Y : Nat → Int} : OL P 0 X Y := ⟨by omega, fun a ha => by omega, fun x y => ⟨fun q => absurd q (SWW_0 (by omega)), fun q => absurd q (h x y)⟩⟩
/-- a point behind all others -/
theorem OL_p {P Q : Int → Int → Prop} {n p q : Int} {X Y : Nat → Int} (h : OL P n X Y) (hl : ∀ x y : Int, P x y → lt2 x y p q) (e : ∀ x y : Int, Q x y ↔ P x y ∨ (x = p ∧ y = q)) : OL Q (n + 1) (upI X n.toNat p) (upI Y n.toNat q) := by
  have h0 := h.1
  refine ⟨by omega, fun a ha => ?_, fun x y => ?_⟩
  · by_cases w : (a : Int) + 1 = n
    · rw [show a + 1 = n.toNat by omega, upI_s, upI_s, upI_n (by omega), upI_n (by omega)]
      exact hl _ _ (OL_in h (by omega))
    · rw [upI_n (by omega), upI_n (by omega), upI_n (by omega), upI_n (by omega)]
      exact h.2.1 a (by omega)
  · rw [SWW_put h0, h.2.2, e]
/-- the points of a column join -/
theorem OL_col {P : Int → Int → Prop} {m x lo hi : Int} {X Y : Nat → Int} (h : OL (fun a b => P a b ∧ a < x) m X Y) (hP : ∀ y : Int, P x y ↔ lo ≤ y ∧ y ≤ hi) : ∀ k : Nat, lo + k ≤ hi + 1 ∨ k = 0 → ∃ X' Y' : Nat → Int, OL (fun a b => P a b ∧ (a < x ∨ (a = x ∧ b < lo + k))) (m + k) X' Y' := by
  intro k
  induction k with
  | zero =>
    intro _
    refine ⟨X, Y, ?_⟩
    rw [show m + ((0 : Nat) : Int) = m by omega]
    refine OL_c h (fun a b => ⟨fun q => ⟨q.1, Or.inl q.2⟩, fun q => ⟨q.1, ?_⟩⟩)
    rcases q.2 with w | ⟨w, w2⟩
    · exact w
    · have q1 := q.1
      rw [w, hP] at q1
      omega
  | succ k ih =>
    intro hk
    obtain ⟨X', Y', h'⟩ := ih (by omega)
    refine ⟨upI X' (m + k).toNat x, upI Y' (m + k).toNat (lo + k), ?_⟩
    rw [show m + ((k + 1 : Nat) : Int) = m + k + 1 by omega]
    refine OL_p (p := x) (q := lo + k) h' (fun a b q => ?_) (fun a b => ?_)
    · unfold lt2; rcases q.2 with w | w
      · exact Or.inl w
      · exact Or.inr w
    · constructor
      · rintro ⟨q1, q2⟩
        by_cases w : a = x ∧ b = lo + k
        · exact Or.inr w
        · exact Or.inl ⟨q1, by omega⟩
      · rintro (⟨q1, q2⟩ | ⟨q1, q2⟩)
        · exact ⟨q1, by omega⟩
        · rw [q1, q2]
          exact ⟨(hP _).mpr (by omega), by omega⟩
theorem wR_u {v : MS} {s x y z z' : Int} (h : wR v s x y z) (h' : wR v s x y z') : z = z' := by
  rcases h with ⟨a, h⟩ | ⟨a, h⟩ <;> rcases h' with ⟨b, h'⟩ | ⟨b, h'⟩
  · rcases h with ⟨h1, h2⟩ | ⟨h1, h2⟩ <;> rcases h' with ⟨k1, k2⟩ | ⟨k1, k2⟩
    · omega
    · exact absurd h2 k2
    · exact absurd k2 h2
    · omega
  · omega
  · omega
  · rcases h with ⟨h1, h2⟩ | ⟨h1, h2, h3⟩ | ⟨h1, h2, h3⟩ <;> rcases h' with ⟨k1, k2⟩ | ⟨k1, k2, k3⟩ | ⟨k1, k2, k3⟩
    · omega
    · exact absurd h2 k2
    · exact absurd h2 k2
    · exact absurd k2 h2
    · omega
    · exact absurd h3 k3
    · exact absurd k2 h2
    · exact absurd k3 h3
    · omega
def PBx (u : MS) (s x y : Int) : Prop := (∃ z : Int, 0 < z ∧ wR u s x y z) ∧ ((∃ a : Int, 0 ≤ a ∧ a < mN u s ∧ mX u s a ≤ x) ∧ ∃ a : Int, 0 ≤ a ∧ a < mN u s ∧ x ≤ mX u s a) ∧ (∃ a : Int, 0 ≤ a ∧ a < mN u s ∧ mY u s a ≤ y) ∧ ∃ a : Int, 0 ≤ a ∧ a < mN u s ∧ y ≤ mY u s a
def fy_in (u : MS) (s i ly hy : Int) : Prop := (i = 0 → ly = 1000 ∧ hy = -1000) ∧ (∀ k : Int, 0 ≤ k → k < i → ly ≤ mY u s k ∧ mY u s k ≤ hy) ∧ (0 < i → (∃ k : Int, 0 ≤ k ∧ k < i ∧ mY u s k = ly) ∧ ∃ k : Int, 0 ≤ k ∧ k < i ∧ mY u s k = hy)
theorem fy_s {u : MS} {s i ly hy c d : Int} (hb : -40 ≤ mY u s i ∧ mY u s i ≤ 40) (hi : 0 ≤ i) (h : fy_in u s i ly hy) (hc : (c = ly ∨ c = mY u s i) ∧ c ≤ ly ∧ c ≤ mY u s i) (hd : (d = hy ∨ d = mY u s i) ∧ hy ≤ d ∧ mY u s i ≤ d) : fy_in u s (i + 1) c d := by
  obtain ⟨h1, h2, h3⟩ := h
  refine ⟨fun w => by omega, fun k k1 k2 => ?_, fun _ => ⟨?_, ?_⟩⟩
  · by_cases e : k = i
    · subst e; clear h1 h2 h3; omega
    · have := h2 k k1 (by omega); clear h1 h2 h3; omega
  · rcases hc.1 with e | e
    · by_cases hp : 0 < i
      · obtain ⟨⟨k, k1, k2, k3⟩, _⟩ := h3 hp; exact ⟨k, k1, by omega, by omega⟩
      · have := h1 (by omega); omega
    · exact ⟨i, hi, by omega, e.symm⟩
  · rcases hd.1 with e | e
    · by_cases hp : 0 < i
      · obtain ⟨_, ⟨k, k1, k2, k3⟩⟩ := h3 hp; exact ⟨k, k1, by omega, by omega⟩
      · have := h1 (by omega); omega
    · exact ⟨i, hi, by omega, e.symm⟩
/-- the frame of the reference, and what it holds -/
theorem PBx_b {u : MS} {s lx hx ly hy x y : Int} (h1 : fa_in u s (mN u s) lx hx ly hy) (h2 : fy_in u s (mN u s) ly hy) (h : PBx u s x y) : (lx ≤ x ∧ x ≤ hx) ∧ ly ≤ y ∧ y ≤ hy := by
  obtain ⟨_, ⟨⟨a, a0, a1, a2⟩, ⟨b, b0, b1, b2⟩⟩, ⟨c, c0, c1, c2⟩, ⟨d, d0, d1, d2⟩⟩ := h
  have w1 := h1.2.1 a a0 a1
  have w2 := h1.2.1 b b0 b1
  have w3 := h2.2.1 c c0 c1
  have w4 := h2.2.1 d d0 d1
  clear h1 h2
  omega
theorem PBx_i {u : MS} {s lx hx ly hy x y z : Int} (h1 : fa_in u s (mN u s) lx hx ly hy) (h2 : fy_in u s (mN u s) ly hy) (hn : 0 < mN u s) (hx0 : lx ≤ x ∧ x ≤ hx) (hy0 : ly ≤ y ∧ y ≤ hy) (hz : 0 < z) (hw : wR u s x y z) : PBx u s x y := by
  obtain ⟨⟨a, a0, a1, a2⟩, ⟨b, b0, b1, b2⟩⟩ := h1.2.2 hn
  obtain ⟨⟨c, c0, c1, c2⟩, ⟨d, d0, d1, d2⟩⟩ := h2.2.2 hn
  exact ⟨⟨z, hz, hw⟩, ⟨⟨a, a0, a1, by omega⟩, ⟨b, b0, b1, by omega⟩⟩, ⟨c, c0, c1, by omega⟩, ⟨d, d0, d1, by omega⟩⟩
theorem PBx_n {u : MS} {s x y z : Int} (hz : z ≤ 0) (hw : wR u s x y z) : ¬ PBx u s x y := fun ⟨⟨z', h1, h2⟩, _⟩ => by
  have := wR_u hw h2
  omega
/-- one more place is looked at -/
theorem fp_y {P : Int → Int → Prop} {n px py : Int} {X Y : Nat → Int} (h0 : 0 ≤ n) (h : ∀ x y : Int, SWW X Y n x y ↔ P x y ∧ (x < px ∨ (x = px ∧ y < py))) (hp : P px py) (x y : Int) : SWW (upI X n.toNat px) (upI Y n.toNat py) (n + 1) x y ↔ P x y ∧ (x < px ∨ (x = px ∧ y < py + 1)) := by
  rw [SWW_put h0, h]
  constructor
  · rintro (⟨q1, q2⟩ | ⟨q1, q2⟩)
    · exact ⟨q1, by omega⟩
    · rw [q1, q2]; exact ⟨hp, by omega⟩
  · rintro ⟨q1, q2⟩
    by_cases w : x = px ∧ y = py
    · exact Or.inr w
    · exact Or.inl ⟨q1, by omega⟩
theorem fp_n {P : Int → Int → Prop} {n px py : Int} {X Y : Nat → Int} (h : ∀ x y : Int, SWW X Y n x y ↔ P x y ∧ (x < px ∨ (x = px ∧ y < py))) (hp : ¬ P px py) (x y : Int) : SWW X Y n x y ↔ P x y ∧ (x < px ∨ (x = px ∧ y < py + 1)) := by
  rw [h]
  constructor
  · rintro ⟨q1, q2⟩; exact ⟨q1, by omega⟩
  · rintro ⟨q1, q2⟩
    by_cases w : x = px ∧ y = py
    · rw [w.1, w.2] at q1; exact absurd q1 hp
    · exact ⟨q1, by omega⟩
def ptP (s i w : Int) : Prop := (0 ≤ s ∧ s ≤ 7) ∧ 0 ≤ i ∧ 0 ≤ w ∧ w ≤ 1
def ptM (u : MS) (s i w z : Int) : Prop := (¬ ptP s i w ∧ z = -1000000) ∨ (ptP s i w ∧ ∃ (n : Int) (X Y : Nat → Int), OL (PBx u s) n X Y ∧ ((n ≤ i ∧ z = -1000000) ∨ (i < n ∧ ((w = 0 ∧ z = X i.toNat) ∨ (w = 1 ∧ z = Y i.toNat)))))
/-! the class -/
def crd (u : CS) (r : Nat) (i w z : Int) : Prop := (∃ (m : Int) (X Y : Nat → Int), OL (inC u r) m X Y ∧ m ≤ i ∧ z = -1000000) ∨ ∃ (x y : Int) (X Y : Nat → Int), inC u r x y ∧ OL (fun a b => inC u r a b ∧ lt2 a b x y) i X Y ∧ ((w = 0 ∧ z = x) ∨ (w ≠ 0 ∧ z = y))
def ptC (u : CS) (s i w z : Int) : Prop := (¬ ptP s i w ∧ z = -1000000) ∨ (ptP s i w ∧ crd u s.toNat i w z)
theorem crd_col {u : CS} {r : Nat} {x lo hi : Int} (hn : u.1.2.2.1 r ≠ 0) (h0 : rx u r 0 ≤ x) (h1 : ∃ a : Int, 0 ≤ a ∧ a < u.1.2.2.1 r ∧ x ≤ rx u r a) (hl : ∀ y : Int, lo ≤ y ↔ loC u r x y (u.1.2.2.1 r)) (hh : ∀ y : Int, y ≤ hi ↔ hiC u r x y (u.1.2.2.1 r)) (y : Int) : inC u r x y ↔ lo ≤ y ∧ y ≤ hi := by
  unfold inC
  rw [hl, hh]
  exact ⟨fun q => q.2.2.2, fun q => ⟨hn, h0, h1, q⟩⟩
/-! both -/
theorem EQS_pb {u : CS} {v : MS} (hC : CI u) (h : EQS u v) {s : Int} (hs : 0 ≤ s ∧ s ≤ 7) (x y : Int) : PBx v s x y ↔ inC u s.toNat x y := by
  have key : ∀ z : Int, wR v s x y z → (0 < z ↔ inC u s.toNat x y) := fun z hz => by
    by_cases a : inC u s.toNat x y
    · by_cases b : ∃ i : Int, 0 ≤ i ∧ i < u.1.2.2.1 s.toNat ∧ cvv u s.toNat i x y = 0
      · have e := EQ_st hC h hs (z := 1) (Or.inr (Or.inl ⟨rfl, a, b⟩)) hz
        exact ⟨fun _ => a, fun _ => by omega⟩
      · have e := EQ_st hC h hs (z := 2) (Or.inr (Or.inr ⟨rfl, a, fun i i0 i1 q => b ⟨i, i0, i1, q⟩⟩)) hz
        exact ⟨fun _ => a, fun _ => by omega⟩
    · have e := EQ_st hC h hs (z := 0) (Or.inl ⟨rfl, a⟩) hz
      exact ⟨fun q => by omega, fun q => absurd q a⟩
  constructor
  · rintro ⟨⟨z, z0, z1⟩, _⟩
    exact (key z z1).mp z0
  · intro q
    have qM := (EQS_in hC h hs).mp q
    obtain ⟨q1, q2, ⟨a, a1, a2⟩, ⟨⟨b, b1, b2⟩, ⟨c, c1, c2⟩⟩, _⟩ := qM
    have ex : ∃ z : Int, wR v s x y z := by
      by_cases g : mN v s < 2
      · by_cases e : mN v s = 1 ∧ mX v s 0 = x ∧ mY v s 0 = y
        · exact ⟨1, Or.inl ⟨g, Or.inl ⟨rfl, e⟩⟩⟩
        · exact ⟨0, Or.inl ⟨g, Or.inr ⟨rfl, e⟩⟩⟩
      · by_cases e : wOn v s x y (mN v s)
        · exact ⟨1, Or.inr ⟨by omega, Or.inl ⟨rfl, e⟩⟩⟩
        · by_cases f : wIn v s x y (mN v s) ∧ 2 < mN v s
          · exact ⟨2, Or.inr ⟨by omega, Or.inr (Or.inl ⟨rfl, e, f⟩)⟩⟩
          · exact ⟨0, Or.inr ⟨by omega, Or.inr (Or.inr ⟨rfl, e, f⟩)⟩⟩
    obtain ⟨z, hz⟩ := ex
    have n0 : 0 ≤ mN v s := by have := (CI_n hC hs).1; have := (EQS_x hC h hs).1; omega
    exact ⟨⟨z, (key z hz).mpr q, hz⟩, ⟨⟨0, by omega, by omega, q2⟩, ⟨a, by omega, a1, a2⟩⟩, ⟨b, by omega, b1, b2⟩, ⟨c, by omega, c1, c2⟩⟩


set_option maxHeartbeats 4000000 in
set_option maxRecDepth 100000 in
theorem c_X12_findAll2 (l : Launch) (D : JD) (o : Nat) (q : Nat → Nat) (u : MS) (A : Nat → Prop) (hD : va_D A (mW D o q u)) (s : Int) (p0 : 0 ≤ s ∧ s ≤ 7) (p1 : Sh u s) : Met l yX12_findAll (jw yX12_findAll cX12_findAll 8 none) (jr 2 51) (jP [.ref o, .int (J s)] D (fun H => va_P D.1 j_cl (mW D o q u) H)) (jWv (fun u' => ∃ X : Nat → Int, ∃ Y : Nat → Int, ∃ n : Int, u' = (uV (uI (uI u 10 X) 11 Y) 12 n) ∧ (0 ≤ n ∧ n ≤ 6561 ∧ bd 40 X Y n ∧ OL (PBx u s) n X Y ∧ (bd 40 (u.1 10) (u.1 11) 6561 → bd 40 X Y 6561))) (fun u' H => va_P D.1 j_cl (mW D o q u') H) A) 0 0 A := by
  refine Met.ofW (cc := cX12_findAll) (maxL := 8) (ret := none) (by decide) rfl ?_
  intro pr en st mi args below meth co s₁ B hml hv
  obtain ⟨rfl, hG, hP⟩ := hv
  have hr := B.returns
  have hlk := B.notSynchronized
  have SS : jS pr mi co cX12_findAll 8 st _ RX12 := ⟨B.exec, B.bytes, hml, findClass_of_methodNamed B.named, fun w hw => atoms_spec (ws := (jw yX12_findAll cX12_findAll 8 none)) B.pre w (List.mem_cons_of_mem _ hw)⟩
  have hl := lv_entry ([.ref o, .int (J s)]) (n := 8) (Nat.le_of_ble_eq_true rfl)
  rw [lg_entry_eq]
  generalize (lg_sl ([.ref o, .int (J s)]) ++ List.replicate (8 - (lg_sl ([.ref o, .int (J s)])).length) Slot.unset).toArray = ls at hl ⊢
  have hl : lv_has ls 8 [(0, .ref o), (1, .int (J s))] := hl
  have hS : va_S A st.heap st.heap [] := va_S.rf
  have hN := p1.1
  have hC := p1.2.2
  refine lv_aload_n SS.1 SS.2.1 dX12_findAll_0 rfl (lv_at hl 0 rfl) ?_
  refine j_iconst SS dX12_findAll_1 ?_
  refine j_put SS hG hP (mW_D hD) hS 0 (v := .int (J 0)) (ty := .int) (C := RX12) (T := TX12) (N := 31) rfl rfl inX12 tyX12 tyX12_ok nmX12 12 (by decide) (ref := RX12) kw_1070 rfl rfl (by decide +kernel) rfl rfl (Nat.le_of_ble_eq_true rfl) dX12_findAll_2 (ws' := (mW D o q (uV u 12 0))) rfl (fun H locs hP hS => ?_)
  refine j_sipush SS dX12_findAll_5 (by decide +kernel) ?_
  refine lv_istore_n (lv' := [(2, .int (J 1000)), (0, .ref o), (1, .int (J s))]) SS.1 SS.2.1 dX12_findAll_8 rfl hl (by decide) rfl (fun ls hl => ?_)
  refine j_sipush SS dX12_findAll_9 (by decide +kernel) ?_
  refine lv_istore_n (lv' := [(3, .int (J (-1000))), (2, .int (J 1000)), (0, .ref o), (1, .int (J s))]) SS.1 SS.2.1 dX12_findAll_12 rfl hl (by decide) rfl (fun ls hl => ?_)
  refine j_sipush SS dX12_findAll_13 (by decide +kernel) ?_
  refine lv_istore (lv' := [(4, .int (J 1000)), (3, .int (J (-1000))), (2, .int (J 1000)), (0, .ref o), (1, .int (J s))]) SS.1 SS.2.1 dX12_findAll_16 hl (by decide) rfl (fun ls hl => ?_)
  refine j_sipush SS dX12_findAll_18 (by decide +kernel) ?_
  refine lv_istore (lv' := [(5, .int (J (-1000))), (4, .int (J 1000)), (3, .int (J (-1000))), (2, .int (J 1000)), (0, .ref o), (1, .int (J s))]) SS.1 SS.2.1 dX12_findAll_21 hl (by decide) rfl (fun ls hl => ?_)
  refine j_iconst SS dX12_findAll_23 ?_
  refine lv_istore (lv' := [(6, .int (J 0)), (5, .int (J (-1000))), (4, .int (J 1000)), (3, .int (J (-1000))), (2, .int (J 1000)), (0, .ref o), (1, .int (J s))]) SS.1 SS.2.1 dX12_findAll_24 hl (by decide) rfl (fun ls hl => ?_)
  have L_26 : ∀ (nn : Nat) (lx : Int) (hx : Int) (ly : Int) (hy : Int) (i : Int) (H : Heap) (locs : List Loc) (hP : va_P D.1 j_cl (mW D o q (uV u 12 0)) H) (hS : va_S A st.heap H locs) (ls : Array Slot) (hl : lv_has ls 8 [(0, .ref o), (1, .int (J s)), (2, .int (J lx)), (3, .int (J hx)), (4, .int (J ly)), (5, .int (J hy)), (6, .int (J i))]) (i26_0 : 0 ≤ i ∧ i ≤ mN u s) (i26_1 : fa_in u s i lx hx ly hy) (i26_2 : fy_in u s i ly hy), (mN u s - i).toNat < nn → W pr l en (headSpec (jw yX12_findAll cX12_findAll 8 none) (jr 2 51)).room st mi (([.ref o, .int (J s)] : List Value).toArray) below meth co H locs 0 0 (MQ below (jWv (fun u' => ∃ X : Nat → Int, ∃ Y : Nat → Int, ∃ n : Int, u' = (uV (uI (uI u 10 X) 11 Y) 12 n) ∧ (0 ≤ n ∧ n ≤ 6561 ∧ bd 40 X Y n ∧ OL (PBx u s) n X Y ∧ (bd 40 (u.1 10) (u.1 11) 6561 → bd 40 X Y 6561))) (fun u' H => va_P D.1 j_cl (mW D o q u') H) A) (([.ref o, .int (J s)] : List Value).toArray) st 0 0 A) (F0 mi 26 ls []) := by
    intro nn
    induction nn with
    | zero => intros; omega
    | succ nn ih_26 =>
      intro lx hx ly hy i  H locs hP hS ls hl i26_0 i26_1 i26_2 hm
      have qa := i26_1.1
      refine lv_iload SS.1 SS.2.1 dX12_findAll_26 (lv_at hl 6 rfl) ?_
      refine lv_aload_n SS.1 SS.2.1 dX12_findAll_28 rfl (lv_at hl 0 rfl) ?_
      refine j_get SS hG hP 0 (v := .ref (q 0)) (C := RX12) (T := TX12) (N := 31) rfl rfl inX12 0 (by decide) (ref := RX12) kw_1058 rfl rfl dX12_findAll_29 ?_
      refine lv_iload_n SS.1 SS.2.1 dX12_findAll_32 rfl (lv_at hl 1 rfl) ?_
      refine j_iald SS hG hP 1 (n := 8) (f := (u.1 0)) rfl (z := s) (by omega) (by omega) dX12_findAll_33 ?_
      refine j_icmp_ge SS (tgt := 141) (x := i) (y := (mN u s)) dX12_findAll_34 (by decide) (by omega) (by omega) (fun c_34 => ?_) (fun c_34 => ?_)
      · skip
        have hfa : fa_in u s (mN u s) lx hx ly hy := by rw [show i = mN u s by omega] at i26_1; exact i26_1
        have hfy : fy_in u s (mN u s) ly hy := by rw [show i = mN u s by omega] at i26_2; exact i26_2
        refine lv_iload_n SS.1 SS.2.1 dX12_findAll_141 rfl (lv_at hl 2 rfl) ?_
        refine lv_istore (lv' := [(6, .int (J lx)), (0, .ref o), (1, .int (J s)), (2, .int (J lx)), (3, .int (J hx)), (4, .int (J ly)), (5, .int (J hy))]) SS.1 SS.2.1 dX12_findAll_142 hl (by decide) rfl (fun ls hl => ?_)
        have L_144 : ∀ (nn : Nat) (px : Int) (X : Nat → Int) (Y : Nat → Int) (n : Int) (H : Heap) (locs : List Loc) (hP : va_P D.1 j_cl (mW D o q (uV (uI (uI u 10 X) 11 Y) 12 n)) H) (hS : va_S A st.heap H locs) (ls : Array Slot) (hl : lv_has ls 8 [(0, .ref o), (1, .int (J s)), (2, .int (J lx)), (3, .int (J hx)), (4, .int (J ly)), (5, .int (J hy)), (6, .int (J px))]) (i144_0 : lx ≤ px ∧ (px ≤ hx + 1 ∨ px = lx)) (i144_1 : 0 ≤ n ∧ n ≤ 6561) (i144_2 : bd 40 X Y n) (i144_3 : 0 < mN u s → n ≤ 81 * (px + 40)) (i144_4 : bd 40 (u.1 10) (u.1 11) 6561 → bd 40 X Y 6561) (i144_5 : os_s X Y n ∧ ∀ a : Nat, (a : Int) < n → X a < px) (i144_6 : ∀ x y : Int, SWW X Y n x y ↔ PBx u s x y ∧ x < px), (hx + 1 - px).toNat < nn → W pr l en (headSpec (jw yX12_findAll cX12_findAll 8 none) (jr 2 51)).room st mi (([.ref o, .int (J s)] : List Value).toArray) below meth co H locs 0 0 (MQ below (jWv (fun u' => ∃ X : Nat → Int, ∃ Y : Nat → Int, ∃ n : Int, u' = (uV (uI (uI u 10 X) 11 Y) 12 n) ∧ (0 ≤ n ∧ n ≤ 6561 ∧ bd 40 X Y n ∧ OL (PBx u s) n X Y ∧ (bd 40 (u.1 10) (u.1 11) 6561 → bd 40 X Y 6561))) (fun u' H => va_P D.1 j_cl (mW D o q u') H) A) (([.ref o, .int (J s)] : List Value).toArray) st 0 0 A) (F0 mi 144 ls []) := by
          intro nn
          induction nn with
          | zero => intros; omega
          | succ nn ih_144 =>
            intro px X Y n H locs hP hS ls hl i144_0 i144_1 i144_2 i144_3 i144_4 i144_5 i144_6 hm
            refine lv_iload SS.1 SS.2.1 dX12_findAll_144 (lv_at hl 6 rfl) ?_
            refine lv_iload_n SS.1 SS.2.1 dX12_findAll_146 rfl (lv_at hl 3 rfl) ?_
            refine j_icmp_gt SS (tgt := 227) (x := px) (y := hx) dX12_findAll_147 (by decide) (by omega) (by omega) (fun c_147 => ?_) (fun c_147 => ?_)
            · skip
              exact W.vret SS.1 SS.2.1 hr (fun t ht hW => ⟨⟨(uV (uI (uI u 10 X) 11 Y) 12 n), rfl, (⟨X, Y, n, rfl, ⟨by omega, by omega, i144_2, ⟨by omega, i144_5.1, fun x y => (i144_6 x y).trans ⟨fun q => q.1, fun q => ⟨q, by have q2 := PBx_b hfa hfy q; omega⟩⟩⟩, i144_4⟩⟩), by show va_P D.1 j_cl (mW D o q (uV (uI (uI u 10 X) 11 Y) 12 n)) t.heap; rw [ht]; exact hP⟩, hS.F ht⟩) hS.2.2 dX12_findAll_227 hlk
            · skip
              have qb := i26_1.1
              refine lv_iload SS.1 SS.2.1 dX12_findAll_150 (lv_at hl 4 rfl) ?_
              refine lv_istore (lv' := [(7, .int (J ly)), (0, .ref o), (1, .int (J s)), (2, .int (J lx)), (3, .int (J hx)), (4, .int (J ly)), (5, .int (J hy)), (6, .int (J px))]) SS.1 SS.2.1 dX12_findAll_152 hl (by decide) rfl (fun ls hl => ?_)
              have L_154 : ∀ (nn : Nat) (py : Int) (X2 : Nat → Int) (Y2 : Nat → Int) (n2 : Int) (H : Heap) (locs : List Loc) (hP : va_P D.1 j_cl (mW D o q (uV (uI (uI u 10 X2) 11 Y2) 12 n2)) H) (hS : va_S A st.heap H locs) (ls : Array Slot) (hl : lv_has ls 8 [(0, .ref o), (1, .int (J s)), (2, .int (J lx)), (3, .int (J hx)), (4, .int (J ly)), (5, .int (J hy)), (6, .int (J px)), (7, .int (J py))]) (i154_0 : ly ≤ py ∧ (py ≤ hy + 1 ∨ py = ly)) (i154_1 : 0 ≤ n2 ∧ n2 ≤ 6561) (i154_2 : bd 40 X2 Y2 n2) (i154_3 : n2 ≤ 81 * (px + 40) + (py + 40)) (i154_4 : bd 40 (u.1 10) (u.1 11) 6561 → bd 40 X2 Y2 6561) (i154_5 : os_s X2 Y2 n2 ∧ ∀ a : Nat, (a : Int) < n2 → lt2 (X2 a) (Y2 a) px py) (i154_6 : ∀ x y : Int, SWW X2 Y2 n2 x y ↔ PBx u s x y ∧ (x < px ∨ (x = px ∧ y < py))), (hy + 1 - py).toNat < nn → W pr l en (headSpec (jw yX12_findAll cX12_findAll 8 none) (jr 2 51)).room st mi (([.ref o, .int (J s)] : List Value).toArray) below meth co H locs 0 0 (MQ below (jWv (fun u' => ∃ X : Nat → Int, ∃ Y : Nat → Int, ∃ n : Int, u' = (uV (uI (uI u 10 X) 11 Y) 12 n) ∧ (0 ≤ n ∧ n ≤ 6561 ∧ bd 40 X Y n ∧ OL (PBx u s) n X Y ∧ (bd 40 (u.1 10) (u.1 11) 6561 → bd 40 X Y 6561))) (fun u' H => va_P D.1 j_cl (mW D o q u') H) A) (([.ref o, .int (J s)] : List Value).toArray) st 0 0 A) (F0 mi 154 ls []) := by
                intro nn
                induction nn with
                | zero => intros; omega
                | succ nn ih_154 =>
                  intro py X2 Y2 n2 H locs hP hS ls hl i154_0 i154_1 i154_2 i154_3 i154_4 i154_5 i154_6 hm
                  refine lv_iload SS.1 SS.2.1 dX12_findAll_154 (lv_at hl 7 rfl) ?_
                  refine lv_iload SS.1 SS.2.1 dX12_findAll_156 (lv_at hl 5 rfl) ?_
                  refine j_icmp_gt SS (tgt := 221) (x := py) (y := hy) dX12_findAll_158 (by decide) (by omega) (by omega) (fun c_158 => ?_) (fun c_158 => ?_)
                  · skip
                    refine lv_iinc (v := J (px + 1)) (lv' := [(6, .int (J (px + 1))), (0, .ref o), (1, .int (J s)), (2, .int (J lx)), (3, .int (J hx)), (4, .int (J ly)), (5, .int (J hy)), (7, .int (J py))]) SS.1 SS.2.1 dX12_findAll_221 hl (k := 6) rfl (J_add _ _) (by decide) rfl (fun ls hl => ?_)
                    refine lv_goto (tgt := 144) SS.1 SS.2.1 dX12_findAll_224 (by decide) ?_
                    exact ih_144 (px + 1) X2 Y2 n2 _ _ hP hS ls (lv_sub hl [1, 2, 3, 4, 5, 6, 0] rfl) (by omega) (by omega) (i154_2) (fun _ => by omega) (i154_4) (⟨i154_5.1, fun a ha => by have q9 := i154_5.2 a ha; unfold lt2 at q9; omega⟩) (fun x y => (i154_6 x y).trans ⟨fun q => ⟨q.1, by omega⟩, fun q => ⟨q.1, by have q2 := PBx_b hfa hfy q.1; omega⟩⟩) (by omega)
                  · skip
                    refine lv_aload_n SS.1 SS.2.1 dX12_findAll_161 rfl (lv_at hl 0 rfl) ?_
                    refine j_get SS hG hP 0 (v := .int (J n2)) (C := RX12) (T := TX12) (N := 31) rfl rfl inX12 12 (by decide) (ref := RX12) kw_1070 rfl rfl dX12_findAll_162 ?_
                    refine j_sipush SS dX12_findAll_165 (by decide +kernel) ?_
                    refine j_icmp_ge SS (tgt := 215) (x := n2) (y := 6561) dX12_findAll_168 (by decide) (by omega) (by decide) (fun c_168 => ?_) (fun c_168 => ?_)
                    · skip
                      refine lv_iinc (v := J (py + 1)) (lv' := [(7, .int (J (py + 1))), (0, .ref o), (1, .int (J s)), (2, .int (J lx)), (3, .int (J hx)), (4, .int (J ly)), (5, .int (J hy)), (6, .int (J px))]) SS.1 SS.2.1 dX12_findAll_215 hl (k := 7) rfl (J_add _ _) (by decide) rfl (fun ls hl => ?_)
                      refine lv_goto (tgt := 154) SS.1 SS.2.1 dX12_findAll_218 (by decide) ?_
                      exact ih_154 (py + 1) X2 Y2 n2 _ _ hP hS ls (lv_sub hl [1, 2, 3, 4, 5, 6, 7, 0] rfl) (by omega) (by omega) (by first | exact i154_2 | exact bd_put (by omega) i154_2 (by omega) (by omega)) (by omega) (fun h => by first | exact i154_4 h | exact bd_up (i154_4 h) (by omega) (by omega)) (by first | exact os_no i154_5.1 i154_5.2 | exact os_put (by omega) i154_5.1 i154_5.2) (by first | (exfalso; omega) | exact fp_y (by omega) i154_6 (PBx_i hfa hfy (by omega) (by omega) (by omega) (by omega) h_177) | exact fp_n i154_6 (PBx_n (by omega) h_177)) (by omega)
                    · skip
                      refine lv_aload_n SS.1 SS.2.1 dX12_findAll_171 rfl (lv_at hl 0 rfl) ?_
                      refine lv_iload_n SS.1 SS.2.1 dX12_findAll_172 rfl (lv_at hl 1 rfl) ?_
                      refine lv_iload SS.1 SS.2.1 dX12_findAll_173 (lv_at hl 6 rfl) ?_
                      refine lv_iload SS.1 SS.2.1 dX12_findAll_175 (lv_at hl 7 rfl) ?_
                      refine j_vRi SS (As := [.int (J s), .int (J px), .int (J py)]) (rest := []) (c_X12_whereOf l D o q (uV (uI (uI u 10 X2) 11 Y2) 12 n2) s px py (show 0 ≤ s ∧ s ≤ 7 from (p0)) (show Sh u s from (p1)) (show -100 ≤ px ∧ px ≤ 100 from (by omega)) (show -100 ≤ py ∧ py ≤ 100 from (by omega))) mf_X12_whereOf kw_1255 hG hP hP (ci := 8) (q0 := 0) rfl rfl rfl rfl hl.1 ⟨⟨Nat.le_of_ble_eq_true rfl, Nat.le_of_ble_eq_true rfl⟩, Nat.le_of_ble_eq_true rfl, Nat.le_refl _, Nat.le_refl _⟩ rfl dX12_findAll_177 (fun z_177 h_177 => ?_)
                      have h_177 : wR u s px py z_177 := h_177
                      have zb := wR_b h_177
                      refine j_if_le SS (tgt := 215) (x := z_177) dX12_findAll_180 (by decide) (by omega) (fun c_180 => ?_) (fun c_180 => ?_)
                      · skip
                        refine lv_iinc (v := J (py + 1)) (lv' := [(7, .int (J (py + 1))), (0, .ref o), (1, .int (J s)), (2, .int (J lx)), (3, .int (J hx)), (4, .int (J ly)), (5, .int (J hy)), (6, .int (J px))]) SS.1 SS.2.1 dX12_findAll_215 hl (k := 7) rfl (J_add _ _) (by decide) rfl (fun ls hl => ?_)
                        refine lv_goto (tgt := 154) SS.1 SS.2.1 dX12_findAll_218 (by decide) ?_
                        exact ih_154 (py + 1) X2 Y2 n2 _ _ hP hS ls (lv_sub hl [1, 2, 3, 4, 5, 6, 7, 0] rfl) (by omega) (by omega) (by first | exact i154_2 | exact bd_put (by omega) i154_2 (by omega) (by omega)) (by omega) (fun h => by first | exact i154_4 h | exact bd_up (i154_4 h) (by omega) (by omega)) (by first | exact os_no i154_5.1 i154_5.2 | exact os_put (by omega) i154_5.1 i154_5.2) (by first | (exfalso; omega) | exact fp_y (by omega) i154_6 (PBx_i hfa hfy (by omega) (by omega) (by omega) (by omega) h_177) | exact fp_n i154_6 (PBx_n (by omega) h_177)) (by omega)
                      · skip
                        refine lv_aload_n SS.1 SS.2.1 dX12_findAll_183 rfl (lv_at hl 0 rfl) ?_
                        refine j_get SS hG hP 0 (v := .ref (q 10)) (C := RX12) (T := TX12) (N := 31) rfl rfl inX12 10 (by decide) (ref := RX12) kw_1068 rfl rfl dX12_findAll_184 ?_
                        refine lv_aload_n SS.1 SS.2.1 dX12_findAll_187 rfl (lv_at hl 0 rfl) ?_
                        refine j_get SS hG hP 0 (v := .int (J n2)) (C := RX12) (T := TX12) (N := 31) rfl rfl inX12 12 (by decide) (ref := RX12) kw_1070 rfl rfl dX12_findAll_188 ?_
                        refine lv_iload SS.1 SS.2.1 dX12_findAll_191 (lv_at hl 6 rfl) ?_
                        refine j_iast SS hG hP (mW_D hD) hS 9 (n := 6561) (f := X2) rfl (z := n2) (v := px) (by omega) (by omega) dX12_findAll_193 (ws' := (mW D o q (uV (uI (uI u 10 (upI X2 (n2).toNat px)) 11 Y2) 12 n2))) rfl (fun H locs hP hS => ?_)
                        refine lv_aload_n SS.1 SS.2.1 dX12_findAll_194 rfl (lv_at hl 0 rfl) ?_
                        refine j_get SS hG hP 0 (v := .ref (q 11)) (C := RX12) (T := TX12) (N := 31) rfl rfl inX12 11 (by decide) (ref := RX12) kw_1069 rfl rfl dX12_findAll_195 ?_
                        refine lv_aload_n SS.1 SS.2.1 dX12_findAll_198 rfl (lv_at hl 0 rfl) ?_
                        refine j_get SS hG hP 0 (v := .int (J n2)) (C := RX12) (T := TX12) (N := 31) rfl rfl inX12 12 (by decide) (ref := RX12) kw_1070 rfl rfl dX12_findAll_199 ?_
                        refine lv_iload SS.1 SS.2.1 dX12_findAll_202 (lv_at hl 7 rfl) ?_
                        refine j_iast SS hG hP (mW_D hD) hS 10 (n := 6561) (f := Y2) rfl (z := n2) (v := py) (by omega) (by omega) dX12_findAll_204 (ws' := (mW D o q (uV (uI (uI u 10 (upI X2 (n2).toNat px)) 11 (upI Y2 (n2).toNat py)) 12 n2))) rfl (fun H locs hP hS => ?_)
                        refine lv_aload_n SS.1 SS.2.1 dX12_findAll_205 rfl (lv_at hl 0 rfl) ?_
                        refine lv_dup SS.1 SS.2.1 dX12_findAll_206 rfl ?_
                        refine j_get SS hG hP 0 (v := .int (J n2)) (C := RX12) (T := TX12) (N := 31) rfl rfl inX12 12 (by decide) (ref := RX12) kw_1070 rfl rfl dX12_findAll_207 ?_
                        refine j_iconst SS dX12_findAll_210 ?_
                        refine j_iadd SS (x := n2) (y := 1) dX12_findAll_211 ?_
                        refine j_put SS hG hP (mW_D hD) hS 0 (v := .int (J (n2 + 1))) (ty := .int) (C := RX12) (T := TX12) (N := 31) rfl rfl inX12 tyX12 tyX12_ok nmX12 12 (by decide) (ref := RX12) kw_1070 rfl rfl (by decide +kernel) rfl rfl (Nat.le_of_ble_eq_true rfl) dX12_findAll_212 (ws' := (mW D o q (uV (uI (uI u 10 (upI X2 (n2).toNat px)) 11 (upI Y2 (n2).toNat py)) 12 (n2 + 1)))) rfl (fun H locs hP hS => ?_)
                        refine lv_iinc (v := J (py + 1)) (lv' := [(7, .int (J (py + 1))), (0, .ref o), (1, .int (J s)), (2, .int (J lx)), (3, .int (J hx)), (4, .int (J ly)), (5, .int (J hy)), (6, .int (J px))]) SS.1 SS.2.1 dX12_findAll_215 hl (k := 7) rfl (J_add _ _) (by decide) rfl (fun ls hl => ?_)
                        refine lv_goto (tgt := 154) SS.1 SS.2.1 dX12_findAll_218 (by decide) ?_
                        exact ih_154 (py + 1) (upI X2 (n2).toNat px) (upI Y2 (n2).toNat py) (n2 + 1) _ _ hP hS ls (lv_sub hl [1, 2, 3, 4, 5, 6, 7, 0] rfl) (by omega) (by omega) (by first | exact i154_2 | exact bd_put (by omega) i154_2 (by omega) (by omega)) (by omega) (fun h => by first | exact i154_4 h | exact bd_up (i154_4 h) (by omega) (by omega)) (by first | exact os_no i154_5.1 i154_5.2 | exact os_put (by omega) i154_5.1 i154_5.2) (by first | (exfalso; omega) | exact fp_y (by omega) i154_6 (PBx_i hfa hfy (by omega) (by omega) (by omega) (by omega) h_177) | exact fp_n i154_6 (PBx_n (by omega) h_177)) (by omega)
              exact L_154 ((hy + 1 - ly).toNat + 1) ly X Y n _ _ hP hS ls (lv_sub hl [1, 2, 3, 4, 5, 6, 7, 0] rfl) (by omega) (by omega) (i144_2) (by have q9 := i144_3 (by omega); omega) (i144_4) (⟨i144_5.1, fun a ha => Or.inl (i144_5.2 a ha)⟩) (fun x y => (i144_6 x y).trans ⟨fun q => ⟨q.1, Or.inl q.2⟩, fun q => ⟨q.1, by have q2 := PBx_b hfa hfy q.1; omega⟩⟩) (Nat.lt_succ_self _)
        exact L_144 ((hx + 1 - lx).toNat + 1) lx (u.1 10) (u.1 11) 0 _ _ hP hS ls (lv_sub hl [1, 2, 3, 4, 5, 6, 0] rfl) (by omega) (by omega) (fun a ha => by omega) (fun _ => by omega) (fun h => h) (⟨fun a ha => by omega, fun a ha => by omega⟩) (fun x y => ⟨fun q => absurd q (SWW_0 (by omega)), fun q => by have q2 := PBx_b hfa hfy q.1; omega⟩) (Nat.lt_succ_self _)
      · skip
        have b1 := p1.2.1 (by omega) i (by omega)
        refine lv_aload_n SS.1 SS.2.1 dX12_findAll_37 rfl (lv_at hl 0 rfl) ?_
        refine lv_iload_n SS.1 SS.2.1 dX12_findAll_38 rfl (lv_at hl 1 rfl) ?_
        refine lv_iload SS.1 SS.2.1 dX12_findAll_39 (lv_at hl 6 rfl) ?_
        refine j_vRi SS (As := [.int (J s), .int (J i)]) (rest := []) (c_X12_x l D o q (uV u 12 0) s i (show 0 ≤ s ∧ s ≤ 7 from (by omega)) (show 0 ≤ i ∧ i ≤ 1000000 from (by omega)) (show 0 < mN u s ∧ mN u s ≤ 24 from (by omega))) mf_X12_x kw_1177 hG hP hP (ci := 8) (q0 := 0) rfl rfl rfl rfl hl.1 ⟨⟨Nat.le_of_ble_eq_true rfl, Nat.le_of_ble_eq_true rfl⟩, Nat.le_of_ble_eq_true rfl, Nat.le_refl _, Nat.le_refl _⟩ rfl dX12_findAll_41 (fun z_41 h_41 => ?_)
        have h_41 : z_41 = mX u s i := h_41
        refine lv_iload_n SS.1 SS.2.1 dX12_findAll_44 rfl (lv_at hl 2 rfl) ?_
        have L_59 : ∀ (a59 : Int) (H : Heap) (locs : List Loc) (hP : va_P D.1 j_cl (mW D o q (uV u 12 0)) H) (hS : va_S A st.heap H locs) (ls : Array Slot) (hl : lv_has ls 8 [(0, .ref o), (1, .int (J s)), (2, .int (J lx)), (3, .int (J hx)), (4, .int (J ly)), (5, .int (J hy)), (6, .int (J i))]) (i59_0 : (a59 = lx ∨ a59 = mX u s i) ∧ a59 ≤ lx ∧ a59 ≤ mX u s i), W pr l en (headSpec (jw yX12_findAll cX12_findAll 8 none) (jr 2 51)).room st mi (([.ref o, .int (J s)] : List Value).toArray) below meth co H locs 0 0 (MQ below (jWv (fun u' => ∃ X : Nat → Int, ∃ Y : Nat → Int, ∃ n : Int, u' = (uV (uI (uI u 10 X) 11 Y) 12 n) ∧ (0 ≤ n ∧ n ≤ 6561 ∧ bd 40 X Y n ∧ OL (PBx u s) n X Y ∧ (bd 40 (u.1 10) (u.1 11) 6561 → bd 40 X Y 6561))) (fun u' H => va_P D.1 j_cl (mW D o q u') H) A) (([.ref o, .int (J s)] : List Value).toArray) st 0 0 A) (F0 mi 59 ls [.int (J a59)]) := by
          intro a59  H locs hP hS ls hl i59_0
          refine lv_istore_n (lv' := [(2, .int (J a59)), (0, .ref o), (1, .int (J s)), (3, .int (J hx)), (4, .int (J ly)), (5, .int (J hy)), (6, .int (J i))]) SS.1 SS.2.1 dX12_findAll_59 rfl hl (by decide) rfl (fun ls hl => ?_)
          refine lv_aload_n SS.1 SS.2.1 dX12_findAll_60 rfl (lv_at hl 1 rfl) ?_
          refine lv_iload_n SS.1 SS.2.1 dX12_findAll_61 rfl (lv_at hl 2 rfl) ?_
          refine lv_iload SS.1 SS.2.1 dX12_findAll_62 (lv_at hl 6 rfl) ?_
          refine j_vRi SS (As := [.int (J s), .int (J i)]) (rest := []) (c_X12_x l D o q (uV u 12 0) s i (show 0 ≤ s ∧ s ≤ 7 from (by omega)) (show 0 ≤ i ∧ i ≤ 1000000 from (by omega)) (show 0 < mN u s ∧ mN u s ≤ 24 from (by omega))) mf_X12_x kw_1177 hG hP hP (ci := 8) (q0 := 0) rfl rfl rfl rfl hl.1 ⟨⟨Nat.le_of_ble_eq_true rfl, Nat.le_of_ble_eq_true rfl⟩, Nat.le_of_ble_eq_true rfl, Nat.le_refl _, Nat.le_refl _⟩ rfl dX12_findAll_64 (fun z_64 h_64 => ?_)
          have h_64 : z_64 = mX u s i := h_64
          refine lv_iload_n SS.1 SS.2.1 dX12_findAll_67 rfl (lv_at hl 3 rfl) ?_
          have L_82 : ∀ (a82 : Int) (H : Heap) (locs : List Loc) (hP : va_P D.1 j_cl (mW D o q (uV u 12 0)) H) (hS : va_S A st.heap H locs) (ls : Array Slot) (hl : lv_has ls 8 [(0, .ref o), (1, .int (J s)), (2, .int (J a59)), (3, .int (J hx)), (4, .int (J ly)), (5, .int (J hy)), (6, .int (J i))]) (i82_0 : (a82 = hx ∨ a82 = mX u s i) ∧ hx ≤ a82 ∧ mX u s i ≤ a82), W pr l en (headSpec (jw yX12_findAll cX12_findAll 8 none) (jr 2 51)).room st mi (([.ref o, .int (J s)] : List Value).toArray) below meth co H locs 0 0 (MQ below (jWv (fun u' => ∃ X : Nat → Int, ∃ Y : Nat → Int, ∃ n : Int, u' = (uV (uI (uI u 10 X) 11 Y) 12 n) ∧ (0 ≤ n ∧ n ≤ 6561 ∧ bd 40 X Y n ∧ OL (PBx u s) n X Y ∧ (bd 40 (u.1 10) (u.1 11) 6561 → bd 40 X Y 6561))) (fun u' H => va_P D.1 j_cl (mW D o q u') H) A) (([.ref o, .int (J s)] : List Value).toArray) st 0 0 A) (F0 mi 82 ls [.int (J a82)]) := by
            intro a82  H locs hP hS ls hl i82_0
            refine lv_istore_n (lv' := [(3, .int (J a82)), (0, .ref o), (1, .int (J s)), (2, .int (J a59)), (4, .int (J ly)), (5, .int (J hy)), (6, .int (J i))]) SS.1 SS.2.1 dX12_findAll_82 rfl hl (by decide) rfl (fun ls hl => ?_)
            refine lv_aload_n SS.1 SS.2.1 dX12_findAll_83 rfl (lv_at hl 1 rfl) ?_
            refine lv_iload_n SS.1 SS.2.1 dX12_findAll_84 rfl (lv_at hl 2 rfl) ?_
            refine lv_iload SS.1 SS.2.1 dX12_findAll_85 (lv_at hl 6 rfl) ?_
            refine j_vRi SS (As := [.int (J s), .int (J i)]) (rest := []) (c_X12_y l D o q (uV u 12 0) s i (show 0 ≤ s ∧ s ≤ 7 from (by omega)) (show 0 ≤ i ∧ i ≤ 1000000 from (by omega)) (show 0 < mN u s ∧ mN u s ≤ 24 from (by omega))) mf_X12_y kw_1181 hG hP hP (ci := 8) (q0 := 0) rfl rfl rfl rfl hl.1 ⟨⟨Nat.le_of_ble_eq_true rfl, Nat.le_of_ble_eq_true rfl⟩, Nat.le_of_ble_eq_true rfl, Nat.le_refl _, Nat.le_refl _⟩ rfl dX12_findAll_87 (fun z_87 h_87 => ?_)
            have h_87 : z_87 = mY u s i := h_87
            refine lv_iload SS.1 SS.2.1 dX12_findAll_90 (lv_at hl 4 rfl) ?_
            have L_107 : ∀ (a107 : Int) (H : Heap) (locs : List Loc) (hP : va_P D.1 j_cl (mW D o q (uV u 12 0)) H) (hS : va_S A st.heap H locs) (ls : Array Slot) (hl : lv_has ls 8 [(0, .ref o), (1, .int (J s)), (2, .int (J a59)), (3, .int (J a82)), (4, .int (J ly)), (5, .int (J hy)), (6, .int (J i))]) (i107_0 : (a107 = ly ∨ a107 = mY u s i) ∧ a107 ≤ ly ∧ a107 ≤ mY u s i), W pr l en (headSpec (jw yX12_findAll cX12_findAll 8 none) (jr 2 51)).room st mi (([.ref o, .int (J s)] : List Value).toArray) below meth co H locs 0 0 (MQ below (jWv (fun u' => ∃ X : Nat → Int, ∃ Y : Nat → Int, ∃ n : Int, u' = (uV (uI (uI u 10 X) 11 Y) 12 n) ∧ (0 ≤ n ∧ n ≤ 6561 ∧ bd 40 X Y n ∧ OL (PBx u s) n X Y ∧ (bd 40 (u.1 10) (u.1 11) 6561 → bd 40 X Y 6561))) (fun u' H => va_P D.1 j_cl (mW D o q u') H) A) (([.ref o, .int (J s)] : List Value).toArray) st 0 0 A) (F0 mi 107 ls [.int (J a107)]) := by
              intro a107  H locs hP hS ls hl i107_0
              refine lv_istore (lv' := [(4, .int (J a107)), (0, .ref o), (1, .int (J s)), (2, .int (J a59)), (3, .int (J a82)), (5, .int (J hy)), (6, .int (J i))]) SS.1 SS.2.1 dX12_findAll_107 hl (by decide) rfl (fun ls hl => ?_)
              refine lv_aload_n SS.1 SS.2.1 dX12_findAll_109 rfl (lv_at hl 1 rfl) ?_
              refine lv_iload_n SS.1 SS.2.1 dX12_findAll_110 rfl (lv_at hl 2 rfl) ?_
              refine lv_iload SS.1 SS.2.1 dX12_findAll_111 (lv_at hl 6 rfl) ?_
              refine j_vRi SS (As := [.int (J s), .int (J i)]) (rest := []) (c_X12_y l D o q (uV u 12 0) s i (show 0 ≤ s ∧ s ≤ 7 from (by omega)) (show 0 ≤ i ∧ i ≤ 1000000 from (by omega)) (show 0 < mN u s ∧ mN u s ≤ 24 from (by omega))) mf_X12_y kw_1181 hG hP hP (ci := 8) (q0 := 0) rfl rfl rfl rfl hl.1 ⟨⟨Nat.le_of_ble_eq_true rfl, Nat.le_of_ble_eq_true rfl⟩, Nat.le_of_ble_eq_true rfl, Nat.le_refl _, Nat.le_refl _⟩ rfl dX12_findAll_113 (fun z_113 h_113 => ?_)
              have h_113 : z_113 = mY u s i := h_113
              refine lv_iload SS.1 SS.2.1 dX12_findAll_116 (lv_at hl 5 rfl) ?_
              have L_133 : ∀ (a133 : Int) (H : Heap) (locs : List Loc) (hP : va_P D.1 j_cl (mW D o q (uV u 12 0)) H) (hS : va_S A st.heap H locs) (ls : Array Slot) (hl : lv_has ls 8 [(0, .ref o), (1, .int (J s)), (2, .int (J a59)), (3, .int (J a82)), (4, .int (J a107)), (5, .int (J hy)), (6, .int (J i))]) (i133_0 : (a133 = hy ∨ a133 = mY u s i) ∧ hy ≤ a133 ∧ mY u s i ≤ a133), W pr l en (headSpec (jw yX12_findAll cX12_findAll 8 none) (jr 2 51)).room st mi (([.ref o, .int (J s)] : List Value).toArray) below meth co H locs 0 0 (MQ below (jWv (fun u' => ∃ X : Nat → Int, ∃ Y : Nat → Int, ∃ n : Int, u' = (uV (uI (uI u 10 X) 11 Y) 12 n) ∧ (0 ≤ n ∧ n ≤ 6561 ∧ bd 40 X Y n ∧ OL (PBx u s) n X Y ∧ (bd 40 (u.1 10) (u.1 11) 6561 → bd 40 X Y 6561))) (fun u' H => va_P D.1 j_cl (mW D o q u') H) A) (([.ref o, .int (J s)] : List Value).toArray) st 0 0 A) (F0 mi 133 ls [.int (J a133)]) := by
                intro a133  H locs hP hS ls hl i133_0
                refine lv_istore (lv' := [(5, .int (J a133)), (0, .ref o), (1, .int (J s)), (2, .int (J a59)), (3, .int (J a82)), (4, .int (J a107)), (6, .int (J i))]) SS.1 SS.2.1 dX12_findAll_133 hl (by decide) rfl (fun ls hl => ?_)
                refine lv_iinc (v := J (i + 1)) (lv' := [(6, .int (J (i + 1))), (5, .int (J a133)), (0, .ref o), (1, .int (J s)), (2, .int (J a59)), (3, .int (J a82)), (4, .int (J a107))]) SS.1 SS.2.1 dX12_findAll_135 hl (k := 6) rfl (J_add _ _) (by decide) rfl (fun ls hl => ?_)
                refine lv_goto (tgt := 26) SS.1 SS.2.1 dX12_findAll_138 (by decide) ?_
                exact ih_26 a59 a82 a107 a133 (i + 1) _ _ hP hS ls (lv_sub hl [2, 3, 4, 5, 6, 1, 0] rfl) (by omega) (fa_s b1 (by omega) i26_1 i59_0 i82_0 i107_0 i133_0) (fy_s b1.2 (by omega) i26_2 i107_0 i133_0) (by omega)
              refine j_icmp_le SS (tgt := 131) (x := z_113) (y := hy) dX12_findAll_118 (by decide) (by omega) (by omega) (fun c_118 => ?_) (fun c_118 => ?_)
              · skip
                refine lv_iload SS.1 SS.2.1 dX12_findAll_131 (lv_at hl 5 rfl) ?_
                exact L_133 hy _ _ hP hS ls (lv_sub hl [1, 2, 3, 4, 0, 5, 6] rfl) (by omega)
              · skip
                refine lv_aload_n SS.1 SS.2.1 dX12_findAll_121 rfl (lv_at hl 1 rfl) ?_
                refine lv_iload_n SS.1 SS.2.1 dX12_findAll_122 rfl (lv_at hl 2 rfl) ?_
                refine lv_iload SS.1 SS.2.1 dX12_findAll_123 (lv_at hl 6 rfl) ?_
                refine j_vRi SS (As := [.int (J s), .int (J i)]) (rest := []) (c_X12_y l D o q (uV u 12 0) s i (show 0 ≤ s ∧ s ≤ 7 from (by omega)) (show 0 ≤ i ∧ i ≤ 1000000 from (by omega)) (show 0 < mN u s ∧ mN u s ≤ 24 from (by omega))) mf_X12_y kw_1181 hG hP hP (ci := 8) (q0 := 0) rfl rfl rfl rfl hl.1 ⟨⟨Nat.le_of_ble_eq_true rfl, Nat.le_of_ble_eq_true rfl⟩, Nat.le_of_ble_eq_true rfl, Nat.le_refl _, Nat.le_refl _⟩ rfl dX12_findAll_125 (fun z_125 h_125 => ?_)
                have h_125 : z_125 = mY u s i := h_125
                refine lv_goto (tgt := 133) SS.1 SS.2.1 dX12_findAll_128 (by decide) ?_
                exact L_133 z_125 _ _ hP hS ls (lv_sub hl [1, 2, 3, 4, 0, 5, 6] rfl) (by omega)
            refine j_icmp_ge SS (tgt := 105) (x := z_87) (y := ly) dX12_findAll_92 (by decide) (by omega) (by omega) (fun c_92 => ?_) (fun c_92 => ?_)
            · skip
              refine lv_iload SS.1 SS.2.1 dX12_findAll_105 (lv_at hl 4 rfl) ?_
              exact L_107 ly _ _ hP hS ls (lv_sub hl [1, 2, 3, 0, 4, 5, 6] rfl) (by omega)
            · skip
              refine lv_aload_n SS.1 SS.2.1 dX12_findAll_95 rfl (lv_at hl 1 rfl) ?_
              refine lv_iload_n SS.1 SS.2.1 dX12_findAll_96 rfl (lv_at hl 2 rfl) ?_
              refine lv_iload SS.1 SS.2.1 dX12_findAll_97 (lv_at hl 6 rfl) ?_
              refine j_vRi SS (As := [.int (J s), .int (J i)]) (rest := []) (c_X12_y l D o q (uV u 12 0) s i (show 0 ≤ s ∧ s ≤ 7 from (by omega)) (show 0 ≤ i ∧ i ≤ 1000000 from (by omega)) (show 0 < mN u s ∧ mN u s ≤ 24 from (by omega))) mf_X12_y kw_1181 hG hP hP (ci := 8) (q0 := 0) rfl rfl rfl rfl hl.1 ⟨⟨Nat.le_of_ble_eq_true rfl, Nat.le_of_ble_eq_true rfl⟩, Nat.le_of_ble_eq_true rfl, Nat.le_refl _, Nat.le_refl _⟩ rfl dX12_findAll_99 (fun z_99 h_99 => ?_)
              have h_99 : z_99 = mY u s i := h_99
              refine lv_goto (tgt := 107) SS.1 SS.2.1 dX12_findAll_102 (by decide) ?_
              exact L_107 z_99 _ _ hP hS ls (lv_sub hl [1, 2, 3, 0, 4, 5, 6] rfl) (by omega)
          refine j_icmp_le SS (tgt := 81) (x := z_64) (y := hx) dX12_findAll_68 (by decide) (by omega) (by omega) (fun c_68 => ?_) (fun c_68 => ?_)
          · skip
            refine lv_iload_n SS.1 SS.2.1 dX12_findAll_81 rfl (lv_at hl 3 rfl) ?_
            exact L_82 hx _ _ hP hS ls (lv_sub hl [1, 2, 0, 3, 4, 5, 6] rfl) (by omega)
          · skip
            refine lv_aload_n SS.1 SS.2.1 dX12_findAll_71 rfl (lv_at hl 1 rfl) ?_
            refine lv_iload_n SS.1 SS.2.1 dX12_findAll_72 rfl (lv_at hl 2 rfl) ?_
            refine lv_iload SS.1 SS.2.1 dX12_findAll_73 (lv_at hl 6 rfl) ?_
            refine j_vRi SS (As := [.int (J s), .int (J i)]) (rest := []) (c_X12_x l D o q (uV u 12 0) s i (show 0 ≤ s ∧ s ≤ 7 from (by omega)) (show 0 ≤ i ∧ i ≤ 1000000 from (by omega)) (show 0 < mN u s ∧ mN u s ≤ 24 from (by omega))) mf_X12_x kw_1177 hG hP hP (ci := 8) (q0 := 0) rfl rfl rfl rfl hl.1 ⟨⟨Nat.le_of_ble_eq_true rfl, Nat.le_of_ble_eq_true rfl⟩, Nat.le_of_ble_eq_true rfl, Nat.le_refl _, Nat.le_refl _⟩ rfl dX12_findAll_75 (fun z_75 h_75 => ?_)
            have h_75 : z_75 = mX u s i := h_75
            refine lv_goto (tgt := 82) SS.1 SS.2.1 dX12_findAll_78 (by decide) ?_
            exact L_82 z_75 _ _ hP hS ls (lv_sub hl [1, 2, 0, 3, 4, 5, 6] rfl) (by omega)
        refine j_icmp_ge SS (tgt := 58) (x := z_41) (y := lx) dX12_findAll_45 (by decide) (by omega) (by omega) (fun c_45 => ?_) (fun c_45 => ?_)
        · skip
          refine lv_iload_n SS.1 SS.2.1 dX12_findAll_58 rfl (lv_at hl 2 rfl) ?_
          exact L_59 lx _ _ hP hS ls (lv_sub hl [0, 1, 2, 3, 4, 5, 6] rfl) (by omega)
        · skip
          refine lv_aload_n SS.1 SS.2.1 dX12_findAll_48 rfl (lv_at hl 0 rfl) ?_
          refine lv_iload_n SS.1 SS.2.1 dX12_findAll_49 rfl (lv_at hl 1 rfl) ?_
          refine lv_iload SS.1 SS.2.1 dX12_findAll_50 (lv_at hl 6 rfl) ?_
          refine j_vRi SS (As := [.int (J s), .int (J i)]) (rest := []) (c_X12_x l D o q (uV u 12 0) s i (show 0 ≤ s ∧ s ≤ 7 from (by omega)) (show 0 ≤ i ∧ i ≤ 1000000 from (by omega)) (show 0 < mN u s ∧ mN u s ≤ 24 from (by omega))) mf_X12_x kw_1177 hG hP hP (ci := 8) (q0 := 0) rfl rfl rfl rfl hl.1 ⟨⟨Nat.le_of_ble_eq_true rfl, Nat.le_of_ble_eq_true rfl⟩, Nat.le_of_ble_eq_true rfl, Nat.le_refl _, Nat.le_refl _⟩ rfl dX12_findAll_52 (fun z_52 h_52 => ?_)
          have h_52 : z_52 = mX u s i := h_52
          refine lv_goto (tgt := 59) SS.1 SS.2.1 dX12_findAll_55 (by decide) ?_
          exact L_59 z_52 _ _ hP hS ls (lv_sub hl [0, 1, 2, 3, 4, 5, 6] rfl) (by omega)
  exact L_26 ((mN u s - (0 : Int)).toNat + 1) 1000 (-1000) 1000 (-1000) 0 _ _ hP hS ls (lv_sub hl [5, 6, 4, 3, 2, 1, 0] rfl) (by omega) (⟨Or.inl ⟨rfl, rfl, rfl, rfl, rfl⟩, fun k h1 h2 => by omega, fun h => by omega⟩) (⟨fun _ => ⟨rfl, rfl⟩, fun k h1 h2 => by omega, fun h => by omega⟩) (Nat.lt_succ_self _)

set_option maxHeartbeats 4000000 in
set_option maxRecDepth 100000 in
theorem c_X12_point2 (l : Launch) (D : JD) (o : Nat) (q : Nat → Nat) (u : MS) (A : Nat → Prop) (hD : va_D A (mW D o q u)) (s : Int) (i : Int) (what : Int) (p0 : IM u) (p1 : -2147483648 ≤ s ∧ s ≤ 2147483647) (p2 : -2147483648 ≤ i ∧ i ≤ 2147483647) (p3 : -2147483648 ≤ what ∧ what ≤ 2147483647) : Met l yX12_point (jw yX12_point cX12_point 4 (some .int)) (jr 3 78) (jP [.ref o, .int (J s), .int (J i), .int (J what)] D (fun H => va_P D.1 j_cl (mW D o q u) H)) (jWi (fun z u' => ∃ X : Nat → Int, ∃ Y : Nat → Int, ∃ n : Int, u' = (uV (uI (uI u 10 X) 11 Y) 12 n) ∧ (IM u' ∧ ptM u s i what z)) (fun u' H => va_P D.1 j_cl (mW D o q u') H) A) 0 0 A := by
  refine Met.ofW (cc := cX12_point) (maxL := 4) (ret := (some .int)) (by decide) rfl ?_
  intro pr en st mi args below meth co s₁ B hml hv
  obtain ⟨rfl, hG, hP⟩ := hv
  have hr := B.returns
  have hlk := B.notSynchronized
  have SS : jS pr mi co cX12_point 4 st _ RX12 := ⟨B.exec, B.bytes, hml, findClass_of_methodNamed B.named, fun w hw => atoms_spec (ws := (jw yX12_point cX12_point 4 (some .int))) B.pre w (List.mem_cons_of_mem _ hw)⟩
  have hl := lv_entry ([.ref o, .int (J s), .int (J i), .int (J what)]) (n := 4) (Nat.le_of_ble_eq_true rfl)
  rw [lg_entry_eq]
  generalize (lg_sl ([.ref o, .int (J s), .int (J i), .int (J what)]) ++ List.replicate (4 - (lg_sl ([.ref o, .int (J s), .int (J i), .int (J what)])).length) Slot.unset).toArray = ls at hl ⊢
  have hl : lv_has ls 4 [(0, .ref o), (1, .int (J s)), (2, .int (J i)), (3, .int (J what))] := hl
  have hS : va_S A st.heap st.heap [] := va_S.rf
  refine lv_iload_n SS.1 SS.2.1 dX12_point_0 rfl (lv_at hl 1 rfl) ?_
  refine j_sRi SS (As := [.int (J s)]) (rest := []) (c_X12_isShape l D s (show -2147483648 ≤ s ∧ s ≤ 2147483647 from (by omega))) mf_X12_isShape kw_1156 hG trivial rfl hl.1 ⟨⟨Nat.le_of_ble_eq_true rfl, Nat.le_of_ble_eq_true rfl⟩, Nat.le_of_ble_eq_true rfl, Nat.le_refl _, Nat.le_refl _⟩ rfl dX12_point_1 (fun z_1 h_1 => ?_)
  have h_1 : (z_1 = 1 ∧ (0 ≤ s ∧ s ≤ 7)) ∨ (z_1 = 0 ∧ ¬ (0 ≤ s ∧ s ≤ 7)) := h_1
  refine j_if_eq SS (tgt := 20) (x := z_1) dX12_point_4 (by decide) (by omega) (fun c_4 => ?_) (fun c_4 => ?_)
  · skip
    refine j_ldc SS (-1000000) kw_1213 dX12_point_20 ?_
    exact W.iret SS.1 SS.2.1 hr (fun t ht hW => ⟨⟨_, (uV (uI (uI u 10 (u.1 10)) 11 (u.1 11)) 12 (u.2.2 12)), rfl, ⟨(-1000000), rfl, (⟨(u.1 10), (u.1 11), (u.2.2 12), rfl, by first | exact ⟨p0, Or.inl ⟨fun q => by unfold ptP at q; omega, rfl⟩⟩ | exact ⟨⟨p0.1, p0.2.1, h_25.2.2.2.2 p0.2.2⟩, Or.inr ⟨by unfold ptP; omega, n_25, X_25, Y_25, h_25.2.2.2.1, by first | exact Or.inl ⟨by omega, rfl⟩ | exact Or.inr ⟨by omega, Or.inl ⟨by omega, rfl⟩⟩ | exact Or.inr ⟨by omega, Or.inr ⟨by omega, rfl⟩⟩⟩⟩⟩)⟩, by show va_P D.1 j_cl (mW D o q (uV (uI (uI u 10 (u.1 10)) 11 (u.1 11)) 12 (u.2.2 12))) t.heap; rw [ht]; exact hP⟩, hS.F ht⟩) hS.2.2 dX12_point_22 hlk
  · skip
    refine lv_iload_n SS.1 SS.2.1 dX12_point_7 rfl (lv_at hl 3 rfl) ?_
    refine j_iconst SS dX12_point_8 ?_
    refine j_iconst SS dX12_point_9 ?_
    refine j_sRi SS (As := [.int (J what), .int (J 0), .int (J 1)]) (rest := []) (c_X12_in l D what 0 1 (show -2147483648 ≤ what ∧ what ≤ 2147483647 from (by omega)) (show -2147483648 ≤ (0 : Int) ∧ (0 : Int) ≤ 2147483647 from (by omega)) (show -2147483648 ≤ (1 : Int) ∧ (1 : Int) ≤ 2147483647 from (by omega))) mf_X12_in kw_1159 hG trivial rfl hl.1 ⟨⟨Nat.le_of_ble_eq_true rfl, Nat.le_of_ble_eq_true rfl⟩, Nat.le_of_ble_eq_true rfl, Nat.le_refl _, Nat.le_refl _⟩ rfl dX12_point_10 (fun z_10 h_10 => ?_)
    have h_10 : (z_10 = 1 ∧ ((0 : Int) ≤ what ∧ what ≤ (1 : Int))) ∨ (z_10 = 0 ∧ ¬ ((0 : Int) ≤ what ∧ what ≤ (1 : Int))) := h_10
    refine j_if_eq SS (tgt := 20) (x := z_10) dX12_point_13 (by decide) (by omega) (fun c_13 => ?_) (fun c_13 => ?_)
    · skip
      refine j_ldc SS (-1000000) kw_1213 dX12_point_20 ?_
      exact W.iret SS.1 SS.2.1 hr (fun t ht hW => ⟨⟨_, (uV (uI (uI u 10 (u.1 10)) 11 (u.1 11)) 12 (u.2.2 12)), rfl, ⟨(-1000000), rfl, (⟨(u.1 10), (u.1 11), (u.2.2 12), rfl, by first | exact ⟨p0, Or.inl ⟨fun q => by unfold ptP at q; omega, rfl⟩⟩ | exact ⟨⟨p0.1, p0.2.1, h_25.2.2.2.2 p0.2.2⟩, Or.inr ⟨by unfold ptP; omega, n_25, X_25, Y_25, h_25.2.2.2.1, by first | exact Or.inl ⟨by omega, rfl⟩ | exact Or.inr ⟨by omega, Or.inl ⟨by omega, rfl⟩⟩ | exact Or.inr ⟨by omega, Or.inr ⟨by omega, rfl⟩⟩⟩⟩⟩)⟩, by show va_P D.1 j_cl (mW D o q (uV (uI (uI u 10 (u.1 10)) 11 (u.1 11)) 12 (u.2.2 12))) t.heap; rw [ht]; exact hP⟩, hS.F ht⟩) hS.2.2 dX12_point_22 hlk
    · skip
      refine lv_iload_n SS.1 SS.2.1 dX12_point_16 rfl (lv_at hl 2 rfl) ?_
      refine j_if_ge SS (tgt := 23) (x := i) dX12_point_17 (by decide) (by omega) (fun c_17 => ?_) (fun c_17 => ?_)
      · skip
        refine lv_aload_n SS.1 SS.2.1 dX12_point_23 rfl (lv_at hl 0 rfl) ?_
        refine lv_iload_n SS.1 SS.2.1 dX12_point_24 rfl (lv_at hl 1 rfl) ?_
        refine j_vWv SS (As := [.int (J s)]) (rest := []) (c_X12_findAll2 l D o q u A (mW_D hD) s (show 0 ≤ s ∧ s ≤ 7 from (by omega)) (show Sh u s from (p0.1 _ (by omega) (by omega)))) mf_X12_findAll kw_1266 hG hP hP (ci := 8) (q0 := 0) rfl rfl rfl hS (fun _ h => h) rfl hl.1 ⟨⟨Nat.le_of_ble_eq_true rfl, Nat.le_of_ble_eq_true rfl⟩, Nat.le_of_ble_eq_true rfl, Nat.le_refl _, Nat.le_refl _⟩ rfl dX12_point_25 (fun u25 H locs h_25 hP _ hS => ?_)
        obtain ⟨X_25, Y_25, n_25, rfl, h_25⟩ := h_25
        have hP : va_P D.1 j_cl (mW D o q (uV (uI (uI u 10 X_25) 11 Y_25) 12 n_25)) H := hP
        have h_25 : 0 ≤ n_25 ∧ n_25 ≤ 6561 ∧ bd 40 X_25 Y_25 n_25 ∧ OL (PBx u s) n_25 X_25 Y_25 ∧ (bd 40 ((u.1 10)) ((u.1 11)) 6561 → bd 40 X_25 Y_25 6561) := h_25
        have hn1 := h_25.1
        have hn2 := h_25.2.1
        refine lv_iload_n SS.1 SS.2.1 dX12_point_28 rfl (lv_at hl 2 rfl) ?_
        refine lv_aload_n SS.1 SS.2.1 dX12_point_29 rfl (lv_at hl 0 rfl) ?_
        refine j_get SS hG hP 0 (v := .int (J n_25)) (C := RX12) (T := TX12) (N := 31) rfl rfl inX12 12 (by decide) (ref := RX12) kw_1070 rfl rfl dX12_point_30 ?_
        refine j_icmp_lt SS (tgt := 41) (x := i) (y := n_25) dX12_point_33 (by decide) (by omega) (by omega) (fun c_33 => ?_) (fun c_33 => ?_)
        · skip
          refine lv_iload_n SS.1 SS.2.1 dX12_point_41 rfl (lv_at hl 3 rfl) ?_
          refine j_if_ne SS (tgt := 54) (x := what) dX12_point_42 (by decide) (by omega) (fun c_42 => ?_) (fun c_42 => ?_)
          · skip
            refine lv_aload_n SS.1 SS.2.1 dX12_point_54 rfl (lv_at hl 0 rfl) ?_
            refine j_get SS hG hP 0 (v := .ref (q 11)) (C := RX12) (T := TX12) (N := 31) rfl rfl inX12 11 (by decide) (ref := RX12) kw_1069 rfl rfl dX12_point_55 ?_
            refine lv_iload_n SS.1 SS.2.1 dX12_point_58 rfl (lv_at hl 2 rfl) ?_
            refine j_iald SS hG hP 10 (n := 6561) (f := Y_25) rfl (z := i) (by omega) (by omega) dX12_point_59 ?_
            exact W.iret SS.1 SS.2.1 hr (fun t ht hW => ⟨⟨_, (uV (uI (uI u 10 X_25) 11 Y_25) 12 n_25), rfl, ⟨(Y_25 (i).toNat), rfl, (⟨X_25, Y_25, n_25, rfl, by first | exact ⟨p0, Or.inl ⟨fun q => by unfold ptP at q; omega, rfl⟩⟩ | exact ⟨⟨p0.1, p0.2.1, h_25.2.2.2.2 p0.2.2⟩, Or.inr ⟨by unfold ptP; omega, n_25, X_25, Y_25, h_25.2.2.2.1, by first | exact Or.inl ⟨by omega, rfl⟩ | exact Or.inr ⟨by omega, Or.inl ⟨by omega, rfl⟩⟩ | exact Or.inr ⟨by omega, Or.inr ⟨by omega, rfl⟩⟩⟩⟩⟩)⟩, by show va_P D.1 j_cl (mW D o q (uV (uI (uI u 10 X_25) 11 Y_25) 12 n_25)) t.heap; rw [ht]; exact hP⟩, hS.F ht⟩) hS.2.2 dX12_point_60 hlk
          · skip
            refine lv_aload_n SS.1 SS.2.1 dX12_point_45 rfl (lv_at hl 0 rfl) ?_
            refine j_get SS hG hP 0 (v := .ref (q 10)) (C := RX12) (T := TX12) (N := 31) rfl rfl inX12 10 (by decide) (ref := RX12) kw_1068 rfl rfl dX12_point_46 ?_
            refine lv_iload_n SS.1 SS.2.1 dX12_point_49 rfl (lv_at hl 2 rfl) ?_
            refine j_iald SS hG hP 9 (n := 6561) (f := X_25) rfl (z := i) (by omega) (by omega) dX12_point_50 ?_
            refine lv_goto (tgt := 60) SS.1 SS.2.1 dX12_point_51 (by decide) ?_
            exact W.iret SS.1 SS.2.1 hr (fun t ht hW => ⟨⟨_, (uV (uI (uI u 10 X_25) 11 Y_25) 12 n_25), rfl, ⟨(X_25 (i).toNat), rfl, (⟨X_25, Y_25, n_25, rfl, by first | exact ⟨p0, Or.inl ⟨fun q => by unfold ptP at q; omega, rfl⟩⟩ | exact ⟨⟨p0.1, p0.2.1, h_25.2.2.2.2 p0.2.2⟩, Or.inr ⟨by unfold ptP; omega, n_25, X_25, Y_25, h_25.2.2.2.1, by first | exact Or.inl ⟨by omega, rfl⟩ | exact Or.inr ⟨by omega, Or.inl ⟨by omega, rfl⟩⟩ | exact Or.inr ⟨by omega, Or.inr ⟨by omega, rfl⟩⟩⟩⟩⟩)⟩, by show va_P D.1 j_cl (mW D o q (uV (uI (uI u 10 X_25) 11 Y_25) 12 n_25)) t.heap; rw [ht]; exact hP⟩, hS.F ht⟩) hS.2.2 dX12_point_60 hlk
        · skip
          refine j_ldc SS (-1000000) kw_1213 dX12_point_36 ?_
          refine lv_goto (tgt := 60) SS.1 SS.2.1 dX12_point_38 (by decide) ?_
          exact W.iret SS.1 SS.2.1 hr (fun t ht hW => ⟨⟨_, (uV (uI (uI u 10 X_25) 11 Y_25) 12 n_25), rfl, ⟨(-1000000), rfl, (⟨X_25, Y_25, n_25, rfl, by first | exact ⟨p0, Or.inl ⟨fun q => by unfold ptP at q; omega, rfl⟩⟩ | exact ⟨⟨p0.1, p0.2.1, h_25.2.2.2.2 p0.2.2⟩, Or.inr ⟨by unfold ptP; omega, n_25, X_25, Y_25, h_25.2.2.2.1, by first | exact Or.inl ⟨by omega, rfl⟩ | exact Or.inr ⟨by omega, Or.inl ⟨by omega, rfl⟩⟩ | exact Or.inr ⟨by omega, Or.inr ⟨by omega, rfl⟩⟩⟩⟩⟩)⟩, by show va_P D.1 j_cl (mW D o q (uV (uI (uI u 10 X_25) 11 Y_25) 12 n_25)) t.heap; rw [ht]; exact hP⟩, hS.F ht⟩) hS.2.2 dX12_point_60 hlk
      · skip
        refine j_ldc SS (-1000000) kw_1213 dX12_point_20 ?_
        exact W.iret SS.1 SS.2.1 hr (fun t ht hW => ⟨⟨_, (uV (uI (uI u 10 (u.1 10)) 11 (u.1 11)) 12 (u.2.2 12)), rfl, ⟨(-1000000), rfl, (⟨(u.1 10), (u.1 11), (u.2.2 12), rfl, by first | exact ⟨p0, Or.inl ⟨fun q => by unfold ptP at q; omega, rfl⟩⟩ | exact ⟨⟨p0.1, p0.2.1, h_25.2.2.2.2 p0.2.2⟩, Or.inr ⟨by unfold ptP; omega, n_25, X_25, Y_25, h_25.2.2.2.1, by first | exact Or.inl ⟨by omega, rfl⟩ | exact Or.inr ⟨by omega, Or.inl ⟨by omega, rfl⟩⟩ | exact Or.inr ⟨by omega, Or.inr ⟨by omega, rfl⟩⟩⟩⟩⟩)⟩, by show va_P D.1 j_cl (mW D o q (uV (uI (uI u 10 (u.1 10)) 11 (u.1 11)) 12 (u.2.2 12))) t.heap; rw [ht]; exact hP⟩, hS.F ht⟩) hS.2.2 dX12_point_22 hlk

