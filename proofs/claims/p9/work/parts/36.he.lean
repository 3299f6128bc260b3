
theorem tm_a {a b K : Int} (h : -K ≤ a ∧ a ≤ K) : -K ≤ a.tmod b ∧ a.tmod b ≤ K := by
  have e : (a.tmod b).natAbs = a.natAbs % b.natAbs := Int.natAbs_tmod a b
  have q : a.natAbs % b.natAbs ≤ a.natAbs := Nat.mod_le _ _
  omega
theorem ar_b {u : CS} {r : Nat} {i t : Int} (h : 0 ≤ u.1.2.2.1 r ∧ u.1.2.2.1 r ≤ 400) (ht : t = 1 ∨ t = -1) (hi : -1000 ≤ i) : -1 ≤ ar u r i t ∧ ar u r i t ≤ 400 := by
  unfold ar; split
  · omega
  · split <;> omega

set_option maxHeartbeats 4000000 in
set_option maxRecDepth 100000 in
theorem c_X11_hasAtMost (l : Launch) (D : JD) (q : Nat → Nat) (u : CS) (r : Nat) (hr : r ≤ 8) (m : Int) (p0 : RB 40 u r) (p1 : -2147483648 ≤ m ∧ m ≤ 2147483647) : Met l yX11_hasAtMost (jw yX11_hasAtMost cX11_hasAtMost 2 (some .boolean)) (jr 6 128) (jP [.ref (q (9 + 5 * r)), .int (J m)] D (fun H => va_P D.1 j_cl (cW D q u) H)) (jRi (fun z => (z = 1 ∧ 3 ≤ u.1.2.2.1 r ∧ rE u r + rI u r ≤ m) ∨ z = 0)) 0 0 (fun _ => False) := by
  refine Met.ofW (cc := cX11_hasAtMost) (maxL := 2) (ret := (some .boolean)) (by decide) rfl ?_
  intro pr en st mi args below meth co s₁ B hml hv
  obtain ⟨rfl, hG, hP⟩ := hv
  have hr := B.returns
  have hlk := B.notSynchronized
  have SS : jS pr mi co cX11_hasAtMost 2 st _ RX11 := ⟨B.exec, B.bytes, hml, findClass_of_methodNamed B.named, fun w hw => atoms_spec (ws := (jw yX11_hasAtMost cX11_hasAtMost 2 (some .boolean))) B.pre w (List.mem_cons_of_mem _ hw)⟩
  have hl := lv_entry ([.ref (q (9 + 5 * r)), .int (J m)]) (n := 2) (Nat.le_of_ble_eq_true rfl)
  rw [lg_entry_eq]
  generalize (lg_sl ([.ref (q (9 + 5 * r)), .int (J m)]) ++ List.replicate (2 - (lg_sl ([.ref (q (9 + 5 * r)), .int (J m)])).length) Slot.unset).toArray = ls at hl ⊢
  have hl : lv_has ls 2 [(0, .ref (q (9 + 5 * r))), (1, .int (J m))] := hl
  have hc := p0.1
  have hrl := rl_b r
  refine lv_aload_n SS.1 SS.2.1 dX11_hasAtMost_0 rfl (lv_at hl 0 rfl) ?_
  refine j_vRi SS (As := []) (rest := []) (c_X7_isPolygon l D q u r (by omega) (40 : Int)  (show 0 ≤ (40 : Int) ∧ (40 : Int) ≤ 80 from (by omega)) (show RB (40 : Int) u r from (p0))) mf_X7_isPolygon kw_568 hG hP hP (ci := 7) (q0 := (9 + 5 * r)) rfl (cw_ring (by omega)) rfl rfl hl.1 ⟨⟨Nat.le_of_ble_eq_true rfl, Nat.le_of_ble_eq_true rfl⟩, Nat.le_of_ble_eq_true rfl, Nat.le_refl _, Nat.le_refl _⟩ rfl dX11_hasAtMost_1 (fun z_1 h_1 => ?_)
  have h_1 : (z_1 = 1 ∧ 3 ≤ (u.1.2.2.1 r)) ∨ (z_1 = 0 ∧ (u.1.2.2.1 r) < 3) := h_1
  refine j_if_eq SS (tgt := 19) (x := z_1) dX11_hasAtMost_4 (by decide) (by omega) (fun c_4 => ?_) (fun c_4 => ?_)
  · skip
    refine j_iconst SS dX11_hasAtMost_19 ?_
    exact W.zret SS.1 SS.2.1 hr (j_nz (by decide)) (fun t0 ht hW => ⟨_, rfl, ⟨0, rfl, (by omega)⟩, ht⟩) (fun _ h => nomatch h) dX11_hasAtMost_20 hlk
  · skip
    refine lv_aload_n SS.1 SS.2.1 dX11_hasAtMost_7 rfl (lv_at hl 0 rfl) ?_
    refine j_vRi SS (As := []) (rest := []) (c_X7_all l D q u r (by omega) (40 : Int)  (show 0 ≤ (40 : Int) ∧ (40 : Int) ≤ 80 from (by omega)) (show RB (40 : Int) u r from (p0))) mf_X7_all kw_553 hG hP hP (ci := 7) (q0 := (9 + 5 * r)) rfl (cw_ring (by omega)) rfl rfl hl.1 ⟨⟨Nat.le_of_ble_eq_true rfl, Nat.le_of_ble_eq_true rfl⟩, Nat.le_of_ble_eq_true rfl, Nat.le_refl _, Nat.le_refl _⟩ rfl dX11_hasAtMost_8 (fun z_8 h_8 => ?_)
    have h_8 : z_8 = rE u r + rI u r ∧ -7000000 ≤ z_8 ∧ z_8 ≤ 7000000 := h_8
    refine lv_iload_n SS.1 SS.2.1 dX11_hasAtMost_11 rfl (lv_at hl 1 rfl) ?_
    refine j_icmp_gt SS (tgt := 19) (x := z_8) (y := m) dX11_hasAtMost_12 (by decide) (by omega) (by omega) (fun c_12 => ?_) (fun c_12 => ?_)
    · skip
      refine j_iconst SS dX11_hasAtMost_19 ?_
      exact W.zret SS.1 SS.2.1 hr (j_nz (by decide)) (fun t0 ht hW => ⟨_, rfl, ⟨0, rfl, (by omega)⟩, ht⟩) (fun _ h => nomatch h) dX11_hasAtMost_20 hlk
    · skip
      refine j_iconst SS dX11_hasAtMost_15 ?_
      refine lv_goto (tgt := 20) SS.1 SS.2.1 dX11_hasAtMost_16 (by decide) ?_
      exact W.zret SS.1 SS.2.1 hr (j_nz (by decide)) (fun t0 ht hW => ⟨_, rfl, ⟨1, rfl, (by omega)⟩, ht⟩) (fun _ h => nomatch h) dX11_hasAtMost_20 hlk

set_option maxHeartbeats 4000000 in
set_option maxRecDepth 100000 in
theorem c_X11_segmentsOf (l : Launch) (D : JD) (q : Nat → Nat) (u : CS) (r : Nat) (hr : r ≤ 8) (p0 : RB 40 u r) : Met l yX11_segmentsOf (jw yX11_segmentsOf cX11_segmentsOf 1 (some .int)) (jr 4 88) (jP [.ref (q (9 + 5 * r))] D (fun H => va_P D.1 j_cl (cW D q u) H)) (jRi (fun z => z = (3 * rA u r + rE u r).tdiv 2 ∧ -50000000 ≤ z ∧ z ≤ 50000000)) 0 0 (fun _ => False) := by
  refine Met.ofW (cc := cX11_segmentsOf) (maxL := 1) (ret := (some .int)) (by decide) rfl ?_
  intro pr en st mi args below meth co s₁ B hml hv
  obtain ⟨rfl, hG, hP⟩ := hv
  have hr := B.returns
  have hlk := B.notSynchronized
  have SS : jS pr mi co cX11_segmentsOf 1 st _ RX11 := ⟨B.exec, B.bytes, hml, findClass_of_methodNamed B.named, fun w hw => atoms_spec (ws := (jw yX11_segmentsOf cX11_segmentsOf 1 (some .int))) B.pre w (List.mem_cons_of_mem _ hw)⟩
  have hl := lv_entry ([.ref (q (9 + 5 * r))]) (n := 1) (Nat.le_of_ble_eq_true rfl)
  rw [lg_entry_eq]
  generalize (lg_sl ([.ref (q (9 + 5 * r))]) ++ List.replicate (1 - (lg_sl ([.ref (q (9 + 5 * r))])).length) Slot.unset).toArray = ls at hl ⊢
  have hl : lv_has ls 1 [(0, .ref (q (9 + 5 * r)))] := hl
  have hc := p0.1
  have hrl := rl_b r
  refine j_iconst SS dX11_segmentsOf_0 ?_
  refine lv_aload_n SS.1 SS.2.1 dX11_segmentsOf_1 rfl (lv_at hl 0 rfl) ?_
  refine j_vRi SS (As := []) (rest := [.int (J 3)]) (c_X7_area l D q u r (by omega) (40 : Int)  (show 0 ≤ (40 : Int) ∧ (40 : Int) ≤ 80 from (by omega)) (show RB (40 : Int) u r from (p0))) mf_X7_area kw_517 hG hP hP (ci := 7) (q0 := (9 + 5 * r)) rfl (cw_ring (by omega)) rfl rfl hl.1 ⟨⟨Nat.le_of_ble_eq_true rfl, Nat.le_of_ble_eq_true rfl⟩, Nat.le_of_ble_eq_true rfl, Nat.le_refl _, Nat.le_refl _⟩ rfl dX11_segmentsOf_2 (fun z_2 h_2 => ?_)
  have h_2 : z_2 = rA u r ∧ -10000000 ≤ z_2 ∧ z_2 ≤ 10000000 := h_2
  refine j_imul SS (x := 3) (y := z_2) dX11_segmentsOf_5 ?_
  refine lv_aload_n SS.1 SS.2.1 dX11_segmentsOf_6 rfl (lv_at hl 0 rfl) ?_
  refine j_vRi SS (As := []) (rest := [.int (J (3 * z_2))]) (c_X7_onEdge l D q u r (by omega) (40 : Int)  (show 0 ≤ (40 : Int) ∧ (40 : Int) ≤ 80 from (by omega)) (show RB (40 : Int) u r from (p0))) mf_X7_onEdge kw_533 hG hP hP (ci := 7) (q0 := (9 + 5 * r)) rfl (cw_ring (by omega)) rfl rfl hl.1 ⟨⟨Nat.le_of_ble_eq_true rfl, Nat.le_of_ble_eq_true rfl⟩, Nat.le_of_ble_eq_true rfl, Nat.le_refl _, Nat.le_refl _⟩ rfl dX11_segmentsOf_7 (fun z_7 h_7 => ?_)
  have h_7 : z_7 = rE u r ∧ 0 ≤ z_7 ∧ z_7 ≤ 60000 := h_7
  refine j_iadd SS (x := (3 * z_2)) (y := z_7) dX11_segmentsOf_10 ?_
  refine j_iconst SS dX11_segmentsOf_11 ?_
  have td := td_half (a := 3 * z_2 + z_7) (K := 40000000) (by omega)
  refine j_idiv SS (x := ((3 * z_2) + z_7)) (y := 2) dX11_segmentsOf_12 (by omega) (by decide) (by decide) ?_
  exact W.iret SS.1 SS.2.1 hr (fun t0 ht hW => ⟨_, rfl, ⟨(Int.tdiv ((3 * z_2) + z_7) 2), rfl, (⟨by rw [h_2.1, h_7.1], by omega, by omega⟩)⟩, ht⟩) (fun _ h => nomatch h) dX11_segmentsOf_13 hlk

set_option maxHeartbeats 4000000 in
set_option maxRecDepth 100000 in
theorem c_X11_mapFits (l : Launch) (D : JD) (q : Nat → Nat) (u : CS) (r : Nat) (hr : r ≤ 8) (r2 : Nat) (hr2 : r2 ≤ 8) (s : Int) (t : Int) (p0 : RB 40 u r) (p1 : RB 40 u r2) (p2 : -1000 ≤ s ∧ s ≤ 999) (p3 : t = 1 ∨ t = -1) : Met l yX11_mapFits (jw yX11_mapFits cX11_mapFits 24 (some .boolean)) (jr 1 23) (jP [.ref (q (9 + 5 * r)), .ref (q (9 + 5 * r2)), .int (J s), .int (J t)] D (fun H => va_P D.1 j_cl (cW D q u) H)) (jRi (fun z => z = 0 ∨ z = 1)) 0 0 (fun _ => False) := by
  refine Met.ofW (cc := cX11_mapFits) (maxL := 24) (ret := (some .boolean)) (by decide) rfl ?_
  intro pr en st mi args below meth co s₁ B hml hv
  obtain ⟨rfl, hG, hP⟩ := hv
  have hr := B.returns
  have hlk := B.notSynchronized
  have SS : jS pr mi co cX11_mapFits 24 st _ RX11 := ⟨B.exec, B.bytes, hml, findClass_of_methodNamed B.named, fun w hw => atoms_spec (ws := (jw yX11_mapFits cX11_mapFits 24 (some .boolean))) B.pre w (List.mem_cons_of_mem _ hw)⟩
  have hl := lv_entry ([.ref (q (9 + 5 * r)), .ref (q (9 + 5 * r2)), .int (J s), .int (J t)]) (n := 24) (Nat.le_of_ble_eq_true rfl)
  rw [lg_entry_eq]
  generalize (lg_sl ([.ref (q (9 + 5 * r)), .ref (q (9 + 5 * r2)), .int (J s), .int (J t)]) ++ List.replicate (24 - (lg_sl ([.ref (q (9 + 5 * r)), .ref (q (9 + 5 * r2)), .int (J s), .int (J t)])).length) Slot.unset).toArray = ls at hl ⊢
  have hl : lv_has ls 24 [(0, .ref (q (9 + 5 * r))), (1, .ref (q (9 + 5 * r2))), (2, .int (J s)), (3, .int (J t))] := hl
  have hc := p0.1
  have hc2 := p1.1
  have hrl := rl_b r
  have hrl2 := rl_b r2
  refine lv_aload_n SS.1 SS.2.1 dX11_mapFits_0 rfl (lv_at hl 1 rfl) ?_
  refine lv_iload_n SS.1 SS.2.1 dX11_mapFits_1 rfl (lv_at hl 2 rfl) ?_
  refine lv_iload_n SS.1 SS.2.1 dX11_mapFits_2 rfl (lv_at hl 3 rfl) ?_
  refine j_vRi SS (As := [.int (J s), .int (J t)]) (rest := []) (c_X7_around l D q u r2 (by omega) (40 : Int) s t (show 0 ≤ (40 : Int) ∧ (40 : Int) ≤ 80 from (by omega)) (show RB (40 : Int) u r2 from (p1)) (show -1000 ≤ s ∧ s ≤ 1000 from (by omega)) (show t = 1 ∨ t = -1 from (p3))) mf_X7_around kw_666 hG hP hP (ci := 7) (q0 := (9 + 5 * r2)) rfl (cw_ring (by omega)) rfl rfl hl.1 ⟨⟨Nat.le_of_ble_eq_true rfl, Nat.le_of_ble_eq_true rfl⟩, Nat.le_of_ble_eq_true rfl, Nat.le_refl _, Nat.le_refl _⟩ rfl dX11_mapFits_3 (fun z_3 h_3 => ?_)
  have h_3 : z_3 = ar u r2 s t ∧ -1000 ≤ z_3 ∧ z_3 ≤ 1001 := h_3
  have hn3 := ar_b (u := u) (r := r2) (i := s) (t := t) (by omega) p3 (by omega)
  refine lv_istore (lv' := [(4, .int (J z_3)), (0, .ref (q (9 + 5 * r))), (1, .ref (q (9 + 5 * r2))), (2, .int (J s)), (3, .int (J t))]) SS.1 SS.2.1 dX11_mapFits_6 hl (by decide) rfl (fun ls hl => ?_)
  refine lv_aload_n SS.1 SS.2.1 dX11_mapFits_8 rfl (lv_at hl 2 rfl) ?_
  refine lv_iload_n SS.1 SS.2.1 dX11_mapFits_9 rfl (lv_at hl 3 rfl) ?_
  refine lv_iload_n SS.1 SS.2.1 dX11_mapFits_10 rfl (lv_at hl 4 rfl) ?_
  refine j_ineg SS dX11_mapFits_11 ?_
  refine j_vRi SS (As := [.int (J s), .int (J (-t))]) (rest := []) (c_X7_around l D q u r2 (by omega) (40 : Int) s (-t) (show 0 ≤ (40 : Int) ∧ (40 : Int) ≤ 80 from (by omega)) (show RB (40 : Int) u r2 from (p1)) (show -1000 ≤ s ∧ s ≤ 1000 from (by omega)) (show (-t) = 1 ∨ (-t) = -1 from (by omega))) mf_X7_around kw_666 hG hP hP (ci := 7) (q0 := (9 + 5 * r2)) rfl (cw_ring (by omega)) rfl rfl hl.1 ⟨⟨Nat.le_of_ble_eq_true rfl, Nat.le_of_ble_eq_true rfl⟩, Nat.le_of_ble_eq_true rfl, Nat.le_refl _, Nat.le_refl _⟩ rfl dX11_mapFits_12 (fun z_12 h_12 => ?_)
  have h_12 : z_12 = ar u r2 s (-t) ∧ -1000 ≤ z_12 ∧ z_12 ≤ 1001 := h_12
  have hn12 := ar_b (u := u) (r := r2) (i := s) (t := -t) (by omega) (by omega) (by omega)
  refine lv_istore (lv' := [(5, .int (J z_12)), (4, .int (J z_3)), (0, .ref (q (9 + 5 * r))), (1, .ref (q (9 + 5 * r2))), (2, .int (J s)), (3, .int (J t))]) SS.1 SS.2.1 dX11_mapFits_15 hl (by decide) rfl (fun ls hl => ?_)
  refine lv_aload_n SS.1 SS.2.1 dX11_mapFits_17 rfl (lv_at hl 2 rfl) ?_
  refine j_iconst SS dX11_mapFits_18 ?_
  refine j_uRi SS (As := [.int (J 1)]) (rest := []) (c_X8_x l D q u r (by omega) 1 (show -2147483648 ≤ (1 : Int) ∧ (1 : Int) ≤ 2147483647 from (by omega))) mu_7_x kw_463 hG hP hP (ci := 7) (q0 := (9 + 5 * r)) rfl (cw_ring (by omega)) rfl rfl hl.1 ⟨⟨Nat.le_of_ble_eq_true rfl, Nat.le_of_ble_eq_true rfl⟩, Nat.le_of_ble_eq_true rfl, Nat.le_refl _, Nat.le_refl _⟩ rfl dX11_mapFits_19 (fun z_19 h_19 => ?_)
  have h_19 : z_19 = rx u r (1 : Int) ∧ ∀ K : Int, 0 ≤ K → RB K u r → -K ≤ z_19 ∧ z_19 ≤ K := h_19
  have hb_19 := h_19.2 40 (by omega) (p0)
  refine lv_aload_n SS.1 SS.2.1 dX11_mapFits_22 rfl (lv_at hl 2 rfl) ?_
  refine j_iconst SS dX11_mapFits_23 ?_
  refine j_uRi SS (As := [.int (J 0)]) (rest := [.int (J z_19)]) (c_X8_x l D q u r (by omega) 0 (show -2147483648 ≤ (0 : Int) ∧ (0 : Int) ≤ 2147483647 from (by omega))) mu_7_x kw_463 hG hP hP (ci := 7) (q0 := (9 + 5 * r)) rfl (cw_ring (by omega)) rfl rfl hl.1 ⟨⟨Nat.le_of_ble_eq_true rfl, Nat.le_of_ble_eq_true rfl⟩, Nat.le_of_ble_eq_true rfl, Nat.le_refl _, Nat.le_refl _⟩ rfl dX11_mapFits_24 (fun z_24 h_24 => ?_)
  have h_24 : z_24 = rx u r (0 : Int) ∧ ∀ K : Int, 0 ≤ K → RB K u r → -K ≤ z_24 ∧ z_24 ≤ K := h_24
  have hb_24 := h_24.2 40 (by omega) (p0)
  refine j_isub SS (x := z_19) (y := z_24) dX11_mapFits_27 ?_
  obtain ⟨px1, epx1⟩ : ∃ z : Int, z = (z_19 - z_24) := ⟨_, rfl⟩
  rw [← epx1]
  refine lv_istore (lv' := [(6, .int (J px1)), (5, .int (J z_12)), (4, .int (J z_3)), (0, .ref (q (9 + 5 * r))), (1, .ref (q (9 + 5 * r2))), (2, .int (J s)), (3, .int (J t))]) SS.1 SS.2.1 dX11_mapFits_28 hl (by decide) rfl (fun ls hl => ?_)
  refine lv_aload_n SS.1 SS.2.1 dX11_mapFits_30 rfl (lv_at hl 3 rfl) ?_
  refine j_iconst SS dX11_mapFits_31 ?_
  refine j_uRi SS (As := [.int (J 1)]) (rest := []) (c_X8_y l D q u r (by omega) 1 (show -2147483648 ≤ (1 : Int) ∧ (1 : Int) ≤ 2147483647 from (by omega))) mu_7_y kw_464 hG hP hP (ci := 7) (q0 := (9 + 5 * r)) rfl (cw_ring (by omega)) rfl rfl hl.1 ⟨⟨Nat.le_of_ble_eq_true rfl, Nat.le_of_ble_eq_true rfl⟩, Nat.le_of_ble_eq_true rfl, Nat.le_refl _, Nat.le_refl _⟩ rfl dX11_mapFits_32 (fun z_32 h_32 => ?_)
  have h_32 : z_32 = ry9 u r (1 : Int) ∧ ∀ K : Int, 0 ≤ K → RB K u r → -K ≤ z_32 ∧ z_32 ≤ K := h_32
  have hb_32 := h_32.2 40 (by omega) (p0)
  refine lv_aload_n SS.1 SS.2.1 dX11_mapFits_35 rfl (lv_at hl 3 rfl) ?_
  refine j_iconst SS dX11_mapFits_36 ?_
  refine j_uRi SS (As := [.int (J 0)]) (rest := [.int (J z_32)]) (c_X8_y l D q u r (by omega) 0 (show -2147483648 ≤ (0 : Int) ∧ (0 : Int) ≤ 2147483647 from (by omega))) mu_7_y kw_464 hG hP hP (ci := 7) (q0 := (9 + 5 * r)) rfl (cw_ring (by omega)) rfl rfl hl.1 ⟨⟨Nat.le_of_ble_eq_true rfl, Nat.le_of_ble_eq_true rfl⟩, Nat.le_of_ble_eq_true rfl, Nat.le_refl _, Nat.le_refl _⟩ rfl dX11_mapFits_37 (fun z_37 h_37 => ?_)
  have h_37 : z_37 = ry9 u r (0 : Int) ∧ ∀ K : Int, 0 ≤ K → RB K u r → -K ≤ z_37 ∧ z_37 ≤ K := h_37
  have hb_37 := h_37.2 40 (by omega) (p0)
  refine j_isub SS (x := z_32) (y := z_37) dX11_mapFits_40 ?_
  obtain ⟨py1, epy1⟩ : ∃ z : Int, z = (z_32 - z_37) := ⟨_, rfl⟩
  rw [← epy1]
  refine lv_istore (lv' := [(7, .int (J py1)), (6, .int (J px1)), (5, .int (J z_12)), (4, .int (J z_3)), (0, .ref (q (9 + 5 * r))), (1, .ref (q (9 + 5 * r2))), (2, .int (J s)), (3, .int (J t))]) SS.1 SS.2.1 dX11_mapFits_41 hl (by decide) rfl (fun ls hl => ?_)
  refine lv_aload_n SS.1 SS.2.1 dX11_mapFits_43 rfl (lv_at hl 4 rfl) ?_
  refine lv_aload_n SS.1 SS.2.1 dX11_mapFits_44 rfl (lv_at hl 4 rfl) ?_
  refine j_getS SS hG hP (9 + 5 * r) (v := .int (J (u.1.2.2.1 r))) (C := RX7) (T := TX7) (N := 3) (cw_ring (by omega)) rfl inX7 2 (by decide) (ref := "GridPolygons$Ring") kw_135 kw_132 rfl dX11_mapFits_45 ?_
  refine j_iconst SS dX11_mapFits_48 ?_
  refine j_isub SS (x := (u.1.2.2.1 r)) (y := 1) dX11_mapFits_49 ?_
  refine j_uRi SS (As := [.int (J ((u.1.2.2.1 r) - 1))]) (rest := []) (c_X8_x l D q u r (by omega) ((u.1.2.2.1 r) - 1) (show -2147483648 ≤ ((u.1.2.2.1 r) - 1) ∧ ((u.1.2.2.1 r) - 1) ≤ 2147483647 from (by omega))) mu_7_x kw_463 hG hP hP (ci := 7) (q0 := (9 + 5 * r)) rfl (cw_ring (by omega)) rfl rfl hl.1 ⟨⟨Nat.le_of_ble_eq_true rfl, Nat.le_of_ble_eq_true rfl⟩, Nat.le_of_ble_eq_true rfl, Nat.le_refl _, Nat.le_refl _⟩ rfl dX11_mapFits_50 (fun z_50 h_50 => ?_)
  have h_50 : z_50 = rx u r ((u.1.2.2.1 r) - 1) ∧ ∀ K : Int, 0 ≤ K → RB K u r → -K ≤ z_50 ∧ z_50 ≤ K := h_50
  have hb_50 := h_50.2 40 (by omega) (p0)
  refine lv_aload_n SS.1 SS.2.1 dX11_mapFits_53 rfl (lv_at hl 4 rfl) ?_
  refine j_iconst SS dX11_mapFits_54 ?_
  refine j_uRi SS (As := [.int (J 0)]) (rest := [.int (J z_50)]) (c_X8_x l D q u r (by omega) 0 (show -2147483648 ≤ (0 : Int) ∧ (0 : Int) ≤ 2147483647 from (by omega))) mu_7_x kw_463 hG hP hP (ci := 7) (q0 := (9 + 5 * r)) rfl (cw_ring (by omega)) rfl rfl hl.1 ⟨⟨Nat.le_of_ble_eq_true rfl, Nat.le_of_ble_eq_true rfl⟩, Nat.le_of_ble_eq_true rfl, Nat.le_refl _, Nat.le_refl _⟩ rfl dX11_mapFits_55 (fun z_55 h_55 => ?_)
  have h_55 : z_55 = rx u r (0 : Int) ∧ ∀ K : Int, 0 ≤ K → RB K u r → -K ≤ z_55 ∧ z_55 ≤ K := h_55
  have hb_55 := h_55.2 40 (by omega) (p0)
  refine j_isub SS (x := z_50) (y := z_55) dX11_mapFits_58 ?_
  obtain ⟨qx1, eqx1⟩ : ∃ z : Int, z = (z_50 - z_55) := ⟨_, rfl⟩
  rw [← eqx1]
  refine lv_istore (lv' := [(8, .int (J qx1)), (7, .int (J py1)), (6, .int (J px1)), (5, .int (J z_12)), (4, .int (J z_3)), (0, .ref (q (9 + 5 * r))), (1, .ref (q (9 + 5 * r2))), (2, .int (J s)), (3, .int (J t))]) SS.1 SS.2.1 dX11_mapFits_59 hl (by decide) rfl (fun ls hl => ?_)
  refine lv_aload_n SS.1 SS.2.1 dX11_mapFits_61 rfl (lv_at hl 5 rfl) ?_
  refine lv_aload_n SS.1 SS.2.1 dX11_mapFits_62 rfl (lv_at hl 5 rfl) ?_
  refine j_getS SS hG hP (9 + 5 * r) (v := .int (J (u.1.2.2.1 r))) (C := RX7) (T := TX7) (N := 3) (cw_ring (by omega)) rfl inX7 2 (by decide) (ref := "GridPolygons$Ring") kw_135 kw_132 rfl dX11_mapFits_63 ?_
  refine j_iconst SS dX11_mapFits_66 ?_
  refine j_isub SS (x := (u.1.2.2.1 r)) (y := 1) dX11_mapFits_67 ?_
  refine j_uRi SS (As := [.int (J ((u.1.2.2.1 r) - 1))]) (rest := []) (c_X8_y l D q u r (by omega) ((u.1.2.2.1 r) - 1) (show -2147483648 ≤ ((u.1.2.2.1 r) - 1) ∧ ((u.1.2.2.1 r) - 1) ≤ 2147483647 from (by omega))) mu_7_y kw_464 hG hP hP (ci := 7) (q0 := (9 + 5 * r)) rfl (cw_ring (by omega)) rfl rfl hl.1 ⟨⟨Nat.le_of_ble_eq_true rfl, Nat.le_of_ble_eq_true rfl⟩, Nat.le_of_ble_eq_true rfl, Nat.le_refl _, Nat.le_refl _⟩ rfl dX11_mapFits_68 (fun z_68 h_68 => ?_)
  have h_68 : z_68 = ry9 u r ((u.1.2.2.1 r) - 1) ∧ ∀ K : Int, 0 ≤ K → RB K u r → -K ≤ z_68 ∧ z_68 ≤ K := h_68
  have hb_68 := h_68.2 40 (by omega) (p0)
  refine lv_aload_n SS.1 SS.2.1 dX11_mapFits_71 rfl (lv_at hl 5 rfl) ?_
  refine j_iconst SS dX11_mapFits_72 ?_
  refine j_uRi SS (As := [.int (J 0)]) (rest := [.int (J z_68)]) (c_X8_y l D q u r (by omega) 0 (show -2147483648 ≤ (0 : Int) ∧ (0 : Int) ≤ 2147483647 from (by omega))) mu_7_y kw_464 hG hP hP (ci := 7) (q0 := (9 + 5 * r)) rfl (cw_ring (by omega)) rfl rfl hl.1 ⟨⟨Nat.le_of_ble_eq_true rfl, Nat.le_of_ble_eq_true rfl⟩, Nat.le_of_ble_eq_true rfl, Nat.le_refl _, Nat.le_refl _⟩ rfl dX11_mapFits_73 (fun z_73 h_73 => ?_)
  have h_73 : z_73 = ry9 u r (0 : Int) ∧ ∀ K : Int, 0 ≤ K → RB K u r → -K ≤ z_73 ∧ z_73 ≤ K := h_73
  have hb_73 := h_73.2 40 (by omega) (p0)
  refine j_isub SS (x := z_68) (y := z_73) dX11_mapFits_76 ?_
  obtain ⟨qy1, eqy1⟩ : ∃ z : Int, z = (z_68 - z_73) := ⟨_, rfl⟩
  rw [← eqy1]
  refine lv_istore (lv' := [(9, .int (J qy1)), (8, .int (J qx1)), (7, .int (J py1)), (6, .int (J px1)), (5, .int (J z_12)), (4, .int (J z_3)), (0, .ref (q (9 + 5 * r))), (1, .ref (q (9 + 5 * r2))), (2, .int (J s)), (3, .int (J t))]) SS.1 SS.2.1 dX11_mapFits_77 hl (by decide) rfl (fun ls hl => ?_)
  refine lv_aload_n SS.1 SS.2.1 dX11_mapFits_79 rfl (lv_at hl 7 rfl) ?_
  refine lv_iload SS.1 SS.2.1 dX11_mapFits_80 (lv_at hl 5 rfl) ?_
  refine j_uRi SS (As := [.int (J z_3)]) (rest := []) (c_X8_x l D q u r2 (by omega) z_3 (show -2147483648 ≤ z_3 ∧ z_3 ≤ 2147483647 from (by omega))) mu_7_x kw_463 hG hP hP (ci := 7) (q0 := (9 + 5 * r2)) rfl (cw_ring (by omega)) rfl rfl hl.1 ⟨⟨Nat.le_of_ble_eq_true rfl, Nat.le_of_ble_eq_true rfl⟩, Nat.le_of_ble_eq_true rfl, Nat.le_refl _, Nat.le_refl _⟩ rfl dX11_mapFits_82 (fun z_82 h_82 => ?_)
  have h_82 : z_82 = rx u r2 z_3 ∧ ∀ K : Int, 0 ≤ K → RB K u r2 → -K ≤ z_82 ∧ z_82 ≤ K := h_82
  have hb_82 := h_82.2 40 (by omega) (p1)
  refine lv_aload_n SS.1 SS.2.1 dX11_mapFits_85 rfl (lv_at hl 7 rfl) ?_
  refine lv_iload_n SS.1 SS.2.1 dX11_mapFits_86 rfl (lv_at hl 8 rfl) ?_
  refine j_uRi SS (As := [.int (J s)]) (rest := [.int (J z_82)]) (c_X8_x l D q u r2 (by omega) s (show -2147483648 ≤ s ∧ s ≤ 2147483647 from (by omega))) mu_7_x kw_463 hG hP hP (ci := 7) (q0 := (9 + 5 * r2)) rfl (cw_ring (by omega)) rfl rfl hl.1 ⟨⟨Nat.le_of_ble_eq_true rfl, Nat.le_of_ble_eq_true rfl⟩, Nat.le_of_ble_eq_true rfl, Nat.le_refl _, Nat.le_refl _⟩ rfl dX11_mapFits_87 (fun z_87 h_87 => ?_)
  have h_87 : z_87 = rx u r2 s ∧ ∀ K : Int, 0 ≤ K → RB K u r2 → -K ≤ z_87 ∧ z_87 ≤ K := h_87
  have hb_87 := h_87.2 40 (by omega) (p1)
  refine j_isub SS (x := z_82) (y := z_87) dX11_mapFits_90 ?_
  obtain ⟨nx1, enx1⟩ : ∃ z : Int, z = (z_82 - z_87) := ⟨_, rfl⟩
  rw [← enx1]
  refine lv_istore (lv' := [(10, .int (J nx1)), (9, .int (J qy1)), (8, .int (J qx1)), (7, .int (J py1)), (6, .int (J px1)), (5, .int (J z_12)), (4, .int (J z_3)), (0, .ref (q (9 + 5 * r))), (1, .ref (q (9 + 5 * r2))), (2, .int (J s)), (3, .int (J t))]) SS.1 SS.2.1 dX11_mapFits_91 hl (by decide) rfl (fun ls hl => ?_)
  refine lv_aload_n SS.1 SS.2.1 dX11_mapFits_93 rfl (lv_at hl 8 rfl) ?_
  refine lv_iload SS.1 SS.2.1 dX11_mapFits_94 (lv_at hl 6 rfl) ?_
  refine j_uRi SS (As := [.int (J z_3)]) (rest := []) (c_X8_y l D q u r2 (by omega) z_3 (show -2147483648 ≤ z_3 ∧ z_3 ≤ 2147483647 from (by omega))) mu_7_y kw_464 hG hP hP (ci := 7) (q0 := (9 + 5 * r2)) rfl (cw_ring (by omega)) rfl rfl hl.1 ⟨⟨Nat.le_of_ble_eq_true rfl, Nat.le_of_ble_eq_true rfl⟩, Nat.le_of_ble_eq_true rfl, Nat.le_refl _, Nat.le_refl _⟩ rfl dX11_mapFits_96 (fun z_96 h_96 => ?_)
  have h_96 : z_96 = ry9 u r2 z_3 ∧ ∀ K : Int, 0 ≤ K → RB K u r2 → -K ≤ z_96 ∧ z_96 ≤ K := h_96
  have hb_96 := h_96.2 40 (by omega) (p1)
  refine lv_aload_n SS.1 SS.2.1 dX11_mapFits_99 rfl (lv_at hl 8 rfl) ?_
  refine lv_iload_n SS.1 SS.2.1 dX11_mapFits_100 rfl (lv_at hl 9 rfl) ?_
  refine j_uRi SS (As := [.int (J s)]) (rest := [.int (J z_96)]) (c_X8_y l D q u r2 (by omega) s (show -2147483648 ≤ s ∧ s ≤ 2147483647 from (by omega))) mu_7_y kw_464 hG hP hP (ci := 7) (q0 := (9 + 5 * r2)) rfl (cw_ring (by omega)) rfl rfl hl.1 ⟨⟨Nat.le_of_ble_eq_true rfl, Nat.le_of_ble_eq_true rfl⟩, Nat.le_of_ble_eq_true rfl, Nat.le_refl _, Nat.le_refl _⟩ rfl dX11_mapFits_101 (fun z_101 h_101 => ?_)
  have h_101 : z_101 = ry9 u r2 s ∧ ∀ K : Int, 0 ≤ K → RB K u r2 → -K ≤ z_101 ∧ z_101 ≤ K := h_101
  have hb_101 := h_101.2 40 (by omega) (p1)
  refine j_isub SS (x := z_96) (y := z_101) dX11_mapFits_104 ?_
  obtain ⟨ny1, eny1⟩ : ∃ z : Int, z = (z_96 - z_101) := ⟨_, rfl⟩
  rw [← eny1]
  refine lv_istore (lv' := [(11, .int (J ny1)), (10, .int (J nx1)), (9, .int (J qy1)), (8, .int (J qx1)), (7, .int (J py1)), (6, .int (J px1)), (5, .int (J z_12)), (4, .int (J z_3)), (0, .ref (q (9 + 5 * r))), (1, .ref (q (9 + 5 * r2))), (2, .int (J s)), (3, .int (J t))]) SS.1 SS.2.1 dX11_mapFits_105 hl (by decide) rfl (fun ls hl => ?_)
  refine lv_aload_n SS.1 SS.2.1 dX11_mapFits_107 rfl (lv_at hl 9 rfl) ?_
  refine lv_iload SS.1 SS.2.1 dX11_mapFits_108 (lv_at hl 6 rfl) ?_
  refine j_uRi SS (As := [.int (J z_12)]) (rest := []) (c_X8_x l D q u r2 (by omega) z_12 (show -2147483648 ≤ z_12 ∧ z_12 ≤ 2147483647 from (by omega))) mu_7_x kw_463 hG hP hP (ci := 7) (q0 := (9 + 5 * r2)) rfl (cw_ring (by omega)) rfl rfl hl.1 ⟨⟨Nat.le_of_ble_eq_true rfl, Nat.le_of_ble_eq_true rfl⟩, Nat.le_of_ble_eq_true rfl, Nat.le_refl _, Nat.le_refl _⟩ rfl dX11_mapFits_110 (fun z_110 h_110 => ?_)
  have h_110 : z_110 = rx u r2 z_12 ∧ ∀ K : Int, 0 ≤ K → RB K u r2 → -K ≤ z_110 ∧ z_110 ≤ K := h_110
  have hb_110 := h_110.2 40 (by omega) (p1)
  refine lv_aload_n SS.1 SS.2.1 dX11_mapFits_113 rfl (lv_at hl 9 rfl) ?_
  refine lv_iload_n SS.1 SS.2.1 dX11_mapFits_114 rfl (lv_at hl 10 rfl) ?_
  refine j_uRi SS (As := [.int (J s)]) (rest := [.int (J z_110)]) (c_X8_x l D q u r2 (by omega) s (show -2147483648 ≤ s ∧ s ≤ 2147483647 from (by omega))) mu_7_x kw_463 hG hP hP (ci := 7) (q0 := (9 + 5 * r2)) rfl (cw_ring (by omega)) rfl rfl hl.1 ⟨⟨Nat.le_of_ble_eq_true rfl, Nat.le_of_ble_eq_true rfl⟩, Nat.le_of_ble_eq_true rfl, Nat.le_refl _, Nat.le_refl _⟩ rfl dX11_mapFits_115 (fun z_115 h_115 => ?_)
  have h_115 : z_115 = rx u r2 s ∧ ∀ K : Int, 0 ≤ K → RB K u r2 → -K ≤ z_115 ∧ z_115 ≤ K := h_115
  have hb_115 := h_115.2 40 (by omega) (p1)
  refine j_isub SS (x := z_110) (y := z_115) dX11_mapFits_118 ?_
  obtain ⟨lx1, elx1⟩ : ∃ z : Int, z = (z_110 - z_115) := ⟨_, rfl⟩
  rw [← elx1]
  refine lv_istore (lv' := [(12, .int (J lx1)), (11, .int (J ny1)), (10, .int (J nx1)), (9, .int (J qy1)), (8, .int (J qx1)), (7, .int (J py1)), (6, .int (J px1)), (5, .int (J z_12)), (4, .int (J z_3)), (0, .ref (q (9 + 5 * r))), (1, .ref (q (9 + 5 * r2))), (2, .int (J s)), (3, .int (J t))]) SS.1 SS.2.1 dX11_mapFits_119 hl (by decide) rfl (fun ls hl => ?_)
  refine lv_aload_n SS.1 SS.2.1 dX11_mapFits_121 rfl (lv_at hl 10 rfl) ?_
  refine lv_iload SS.1 SS.2.1 dX11_mapFits_122 (lv_at hl 7 rfl) ?_
  refine j_uRi SS (As := [.int (J z_12)]) (rest := []) (c_X8_y l D q u r2 (by omega) z_12 (show -2147483648 ≤ z_12 ∧ z_12 ≤ 2147483647 from (by omega))) mu_7_y kw_464 hG hP hP (ci := 7) (q0 := (9 + 5 * r2)) rfl (cw_ring (by omega)) rfl rfl hl.1 ⟨⟨Nat.le_of_ble_eq_true rfl, Nat.le_of_ble_eq_true rfl⟩, Nat.le_of_ble_eq_true rfl, Nat.le_refl _, Nat.le_refl _⟩ rfl dX11_mapFits_124 (fun z_124 h_124 => ?_)
  have h_124 : z_124 = ry9 u r2 z_12 ∧ ∀ K : Int, 0 ≤ K → RB K u r2 → -K ≤ z_124 ∧ z_124 ≤ K := h_124
  have hb_124 := h_124.2 40 (by omega) (p1)
  refine lv_aload_n SS.1 SS.2.1 dX11_mapFits_127 rfl (lv_at hl 10 rfl) ?_
  refine lv_iload_n SS.1 SS.2.1 dX11_mapFits_128 rfl (lv_at hl 11 rfl) ?_
  refine j_uRi SS (As := [.int (J s)]) (rest := [.int (J z_124)]) (c_X8_y l D q u r2 (by omega) s (show -2147483648 ≤ s ∧ s ≤ 2147483647 from (by omega))) mu_7_y kw_464 hG hP hP (ci := 7) (q0 := (9 + 5 * r2)) rfl (cw_ring (by omega)) rfl rfl hl.1 ⟨⟨Nat.le_of_ble_eq_true rfl, Nat.le_of_ble_eq_true rfl⟩, Nat.le_of_ble_eq_true rfl, Nat.le_refl _, Nat.le_refl _⟩ rfl dX11_mapFits_129 (fun z_129 h_129 => ?_)
  have h_129 : z_129 = ry9 u r2 s ∧ ∀ K : Int, 0 ≤ K → RB K u r2 → -K ≤ z_129 ∧ z_129 ≤ K := h_129
  have hb_129 := h_129.2 40 (by omega) (p1)
  refine j_isub SS (x := z_124) (y := z_129) dX11_mapFits_132 ?_
  obtain ⟨ly1, ely1⟩ : ∃ z : Int, z = (z_124 - z_129) := ⟨_, rfl⟩
  rw [← ely1]
  refine lv_istore (lv' := [(13, .int (J ly1)), (12, .int (J lx1)), (11, .int (J ny1)), (10, .int (J nx1)), (9, .int (J qy1)), (8, .int (J qx1)), (7, .int (J py1)), (6, .int (J px1)), (5, .int (J z_12)), (4, .int (J z_3)), (0, .ref (q (9 + 5 * r))), (1, .ref (q (9 + 5 * r2))), (2, .int (J s)), (3, .int (J t))]) SS.1 SS.2.1 dX11_mapFits_133 hl (by decide) rfl (fun ls hl => ?_)
  refine lv_iload SS.1 SS.2.1 dX11_mapFits_135 (lv_at hl 7 rfl) ?_
  refine lv_iload SS.1 SS.2.1 dX11_mapFits_137 (lv_at hl 4 rfl) ?_
  refine j_imul SS (x := px1) (y := qy1) dX11_mapFits_139 ?_
  refine lv_iload SS.1 SS.2.1 dX11_mapFits_140 (lv_at hl 6 rfl) ?_
  refine lv_iload SS.1 SS.2.1 dX11_mapFits_142 (lv_at hl 5 rfl) ?_
  refine j_imul SS (x := py1) (y := qx1) dX11_mapFits_144 ?_
  refine j_isub SS (x := (px1 * qy1)) (y := (py1 * qx1)) dX11_mapFits_145 ?_
  obtain ⟨wh, ewh⟩ : ∃ z : Int, z = ((px1 * qy1) - (py1 * qx1)) := ⟨_, rfl⟩
  rw [← ewh]
  refine lv_istore (lv' := [(14, .int (J wh)), (13, .int (J ly1)), (12, .int (J lx1)), (11, .int (J ny1)), (10, .int (J nx1)), (9, .int (J qy1)), (8, .int (J qx1)), (7, .int (J py1)), (6, .int (J px1)), (5, .int (J z_12)), (4, .int (J z_3)), (0, .ref (q (9 + 5 * r))), (1, .ref (q (9 + 5 * r2))), (2, .int (J s)), (3, .int (J t))]) SS.1 SS.2.1 dX11_mapFits_146 hl (by decide) rfl (fun ls hl => ?_)
  have w1 := mulb (A := 80) (B := 80) (a := px1) (b := qy1) (by omega) (by omega)
  have w2 := mulb (A := 80) (B := 80) (a := py1) (b := qx1) (by omega) (by omega)
  refine lv_iload SS.1 SS.2.1 dX11_mapFits_148 (lv_at hl 0 rfl) ?_
  refine j_if_eq SS (tgt := 171) (x := wh) dX11_mapFits_150 (by decide) (by omega) (fun c_150 => ?_) (fun c_150 => ?_)
  · skip
    refine j_iconst SS dX11_mapFits_171 ?_
    exact W.zret SS.1 SS.2.1 hr (j_nz (by decide)) (fun t0 ht hW => ⟨_, rfl, ⟨0, rfl, (by omega)⟩, ht⟩) (fun _ h => nomatch h) dX11_mapFits_172 hlk
  · skip
    have w3 := mulb (A := 80) (B := 80) (a := nx1) (b := ly1) (by omega) (by omega)
    have w4 := mulb (A := 80) (B := 80) (a := ny1) (b := lx1) (by omega) (by omega)
    have w5 : -20000 ≤ t * wh ∧ t * wh ≤ 20000 := by rcases p3 with e | e; (rw [e]; omega); (rw [e]; omega)
    refine lv_iload SS.1 SS.2.1 dX11_mapFits_153 (lv_at hl 4 rfl) ?_
    refine lv_iload SS.1 SS.2.1 dX11_mapFits_155 (lv_at hl 1 rfl) ?_
    refine j_imul SS (x := nx1) (y := ly1) dX11_mapFits_157 ?_
    refine lv_iload SS.1 SS.2.1 dX11_mapFits_158 (lv_at hl 3 rfl) ?_
    refine lv_iload SS.1 SS.2.1 dX11_mapFits_160 (lv_at hl 2 rfl) ?_
    refine j_imul SS (x := ny1) (y := lx1) dX11_mapFits_162 ?_
    refine j_isub SS (x := (nx1 * ly1)) (y := (ny1 * lx1)) dX11_mapFits_163 ?_
    refine lv_iload_n SS.1 SS.2.1 dX11_mapFits_164 rfl (lv_at hl 14 rfl) ?_
    refine lv_iload SS.1 SS.2.1 dX11_mapFits_165 (lv_at hl 0 rfl) ?_
    refine j_imul SS (x := t) (y := wh) dX11_mapFits_167 ?_
    refine j_icmp_eq SS (tgt := 173) (x := ((nx1 * ly1) - (ny1 * lx1))) (y := (t * wh)) dX11_mapFits_168 (by decide) (by omega) (by omega) (fun c_168 => ?_) (fun c_168 => ?_)
    · skip
      refine lv_iload SS.1 SS.2.1 dX11_mapFits_173 (lv_at hl 4 rfl) ?_
      refine lv_iload SS.1 SS.2.1 dX11_mapFits_175 (lv_at hl 5 rfl) ?_
      refine j_imul SS (x := nx1) (y := qy1) dX11_mapFits_177 ?_
      refine lv_iload SS.1 SS.2.1 dX11_mapFits_178 (lv_at hl 2 rfl) ?_
      refine lv_iload SS.1 SS.2.1 dX11_mapFits_180 (lv_at hl 7 rfl) ?_
      refine j_imul SS (x := lx1) (y := py1) dX11_mapFits_182 ?_
      refine j_isub SS (x := (nx1 * qy1)) (y := (lx1 * py1)) dX11_mapFits_183 ?_
      obtain ⟨ma, ema⟩ : ∃ z : Int, z = ((nx1 * qy1) - (lx1 * py1)) := ⟨_, rfl⟩
      rw [← ema]
      refine lv_istore (lv' := [(15, .int (J ma)), (14, .int (J wh)), (13, .int (J ly1)), (12, .int (J lx1)), (11, .int (J ny1)), (10, .int (J nx1)), (9, .int (J qy1)), (8, .int (J qx1)), (7, .int (J py1)), (6, .int (J px1)), (5, .int (J z_12)), (4, .int (J z_3)), (0, .ref (q (9 + 5 * r))), (1, .ref (q (9 + 5 * r2))), (2, .int (J s)), (3, .int (J t))]) SS.1 SS.2.1 dX11_mapFits_184 hl (by decide) rfl (fun ls hl => ?_)
      refine lv_iload SS.1 SS.2.1 dX11_mapFits_186 (lv_at hl 3 rfl) ?_
      refine lv_iload SS.1 SS.2.1 dX11_mapFits_188 (lv_at hl 9 rfl) ?_
      refine j_imul SS (x := lx1) (y := px1) dX11_mapFits_190 ?_
      refine lv_iload SS.1 SS.2.1 dX11_mapFits_191 (lv_at hl 5 rfl) ?_
      refine lv_iload SS.1 SS.2.1 dX11_mapFits_193 (lv_at hl 7 rfl) ?_
      refine j_imul SS (x := nx1) (y := qx1) dX11_mapFits_195 ?_
      refine j_isub SS (x := (lx1 * px1)) (y := (nx1 * qx1)) dX11_mapFits_196 ?_
      obtain ⟨mb9, emb9⟩ : ∃ z : Int, z = ((lx1 * px1) - (nx1 * qx1)) := ⟨_, rfl⟩
      rw [← emb9]
      refine lv_istore (lv' := [(16, .int (J mb9)), (15, .int (J ma)), (14, .int (J wh)), (13, .int (J ly1)), (12, .int (J lx1)), (11, .int (J ny1)), (10, .int (J nx1)), (9, .int (J qy1)), (8, .int (J qx1)), (7, .int (J py1)), (6, .int (J px1)), (5, .int (J z_12)), (4, .int (J z_3)), (0, .ref (q (9 + 5 * r))), (1, .ref (q (9 + 5 * r2))), (2, .int (J s)), (3, .int (J t))]) SS.1 SS.2.1 dX11_mapFits_197 hl (by decide) rfl (fun ls hl => ?_)
      refine lv_iload SS.1 SS.2.1 dX11_mapFits_199 (lv_at hl 5 rfl) ?_
      refine lv_iload SS.1 SS.2.1 dX11_mapFits_201 (lv_at hl 7 rfl) ?_
      refine j_imul SS (x := ny1) (y := qy1) dX11_mapFits_203 ?_
      refine lv_iload SS.1 SS.2.1 dX11_mapFits_204 (lv_at hl 3 rfl) ?_
      refine lv_iload SS.1 SS.2.1 dX11_mapFits_206 (lv_at hl 9 rfl) ?_
      refine j_imul SS (x := ly1) (y := py1) dX11_mapFits_208 ?_
      refine j_isub SS (x := (ny1 * qy1)) (y := (ly1 * py1)) dX11_mapFits_209 ?_
      obtain ⟨mc9, emc9⟩ : ∃ z : Int, z = ((ny1 * qy1) - (ly1 * py1)) := ⟨_, rfl⟩
      rw [← emc9]
      refine lv_istore (lv' := [(17, .int (J mc9)), (16, .int (J mb9)), (15, .int (J ma)), (14, .int (J wh)), (13, .int (J ly1)), (12, .int (J lx1)), (11, .int (J ny1)), (10, .int (J nx1)), (9, .int (J qy1)), (8, .int (J qx1)), (7, .int (J py1)), (6, .int (J px1)), (5, .int (J z_12)), (4, .int (J z_3)), (0, .ref (q (9 + 5 * r))), (1, .ref (q (9 + 5 * r2))), (2, .int (J s)), (3, .int (J t))]) SS.1 SS.2.1 dX11_mapFits_210 hl (by decide) rfl (fun ls hl => ?_)
      refine lv_iload SS.1 SS.2.1 dX11_mapFits_212 (lv_at hl 4 rfl) ?_
      refine lv_iload SS.1 SS.2.1 dX11_mapFits_214 (lv_at hl 11 rfl) ?_
      refine j_imul SS (x := ly1) (y := px1) dX11_mapFits_216 ?_
      refine lv_iload SS.1 SS.2.1 dX11_mapFits_217 (lv_at hl 6 rfl) ?_
      refine lv_iload SS.1 SS.2.1 dX11_mapFits_219 (lv_at hl 9 rfl) ?_
      refine j_imul SS (x := ny1) (y := qx1) dX11_mapFits_221 ?_
      refine j_isub SS (x := (ly1 * px1)) (y := (ny1 * qx1)) dX11_mapFits_222 ?_
      obtain ⟨md9, emd9⟩ : ∃ z : Int, z = ((ly1 * px1) - (ny1 * qx1)) := ⟨_, rfl⟩
      rw [← emd9]
      refine lv_istore (lv' := [(18, .int (J md9)), (17, .int (J mc9)), (16, .int (J mb9)), (15, .int (J ma)), (14, .int (J wh)), (13, .int (J ly1)), (12, .int (J lx1)), (11, .int (J ny1)), (10, .int (J nx1)), (9, .int (J qy1)), (8, .int (J qx1)), (7, .int (J py1)), (6, .int (J px1)), (5, .int (J z_12)), (4, .int (J z_3)), (0, .ref (q (9 + 5 * r))), (1, .ref (q (9 + 5 * r2))), (2, .int (J s)), (3, .int (J t))]) SS.1 SS.2.1 dX11_mapFits_223 hl (by decide) rfl (fun ls hl => ?_)
      have v1 := mulb (A := 80) (B := 80) (a := nx1) (b := qy1) (by omega) (by omega)
      have v2 := mulb (A := 80) (B := 80) (a := lx1) (b := py1) (by omega) (by omega)
      have v3 := mulb (A := 80) (B := 80) (a := lx1) (b := px1) (by omega) (by omega)
      have v4 := mulb (A := 80) (B := 80) (a := nx1) (b := qx1) (by omega) (by omega)
      have v5 := mulb (A := 80) (B := 80) (a := ny1) (b := qy1) (by omega) (by omega)
      have v6 := mulb (A := 80) (B := 80) (a := ly1) (b := py1) (by omega) (by omega)
      have v7 := mulb (A := 80) (B := 80) (a := ly1) (b := px1) (by omega) (by omega)
      have v8 := mulb (A := 80) (B := 80) (a := ny1) (b := qx1) (by omega) (by omega)
      refine lv_iload SS.1 SS.2.1 dX11_mapFits_225 (lv_at hl 3 rfl) ?_
      refine lv_iload SS.1 SS.2.1 dX11_mapFits_227 (lv_at hl 4 rfl) ?_
      refine j_irem SS (x := ma) (y := wh) dX11_mapFits_229 (by omega) (by omega) (by omega) ?_
      have tm0 := tm_a (a := ma) (b := wh) (K := 20000) (by omega)
      refine j_if_ne SS (tgt := 257) (x := (Int.tmod ma wh)) dX11_mapFits_230 (by decide) (by omega) (fun c_230 => ?_) (fun c_230 => ?_)
      · skip
        refine j_iconst SS dX11_mapFits_257 ?_
        exact W.zret SS.1 SS.2.1 hr (j_nz (by decide)) (fun t0 ht hW => ⟨_, rfl, ⟨0, rfl, (by omega)⟩, ht⟩) (fun _ h => nomatch h) dX11_mapFits_258 hlk
      · skip
        refine lv_iload SS.1 SS.2.1 dX11_mapFits_233 (lv_at hl 2 rfl) ?_
        refine lv_iload SS.1 SS.2.1 dX11_mapFits_235 (lv_at hl 4 rfl) ?_
        refine j_irem SS (x := mb9) (y := wh) dX11_mapFits_237 (by omega) (by omega) (by omega) ?_
        have tm1 := tm_a (a := mb9) (b := wh) (K := 20000) (by omega)
        refine j_if_ne SS (tgt := 257) (x := (Int.tmod mb9 wh)) dX11_mapFits_238 (by decide) (by omega) (fun c_238 => ?_) (fun c_238 => ?_)
        · skip
          refine j_iconst SS dX11_mapFits_257 ?_
          exact W.zret SS.1 SS.2.1 hr (j_nz (by decide)) (fun t0 ht hW => ⟨_, rfl, ⟨0, rfl, (by omega)⟩, ht⟩) (fun _ h => nomatch h) dX11_mapFits_258 hlk
        · skip
          refine lv_iload SS.1 SS.2.1 dX11_mapFits_241 (lv_at hl 1 rfl) ?_
          refine lv_iload SS.1 SS.2.1 dX11_mapFits_243 (lv_at hl 4 rfl) ?_
          refine j_irem SS (x := mc9) (y := wh) dX11_mapFits_245 (by omega) (by omega) (by omega) ?_
          have tm2 := tm_a (a := mc9) (b := wh) (K := 20000) (by omega)
          refine j_if_ne SS (tgt := 257) (x := (Int.tmod mc9 wh)) dX11_mapFits_246 (by decide) (by omega) (fun c_246 => ?_) (fun c_246 => ?_)
          · skip
            refine j_iconst SS dX11_mapFits_257 ?_
            exact W.zret SS.1 SS.2.1 hr (j_nz (by decide)) (fun t0 ht hW => ⟨_, rfl, ⟨0, rfl, (by omega)⟩, ht⟩) (fun _ h => nomatch h) dX11_mapFits_258 hlk
          · skip
            refine lv_iload SS.1 SS.2.1 dX11_mapFits_249 (lv_at hl 0 rfl) ?_
            refine lv_iload SS.1 SS.2.1 dX11_mapFits_251 (lv_at hl 4 rfl) ?_
            refine j_irem SS (x := md9) (y := wh) dX11_mapFits_253 (by omega) (by omega) (by omega) ?_
            have tm3 := tm_a (a := md9) (b := wh) (K := 20000) (by omega)
            refine j_if_eq SS (tgt := 259) (x := (Int.tmod md9 wh)) dX11_mapFits_254 (by decide) (by omega) (fun c_254 => ?_) (fun c_254 => ?_)
            · skip
              refine lv_iload_n SS.1 SS.2.1 dX11_mapFits_259 rfl (lv_at hl 17 rfl) ?_
              refine lv_istore (lv' := [(19, .int (J s)), (18, .int (J md9)), (17, .int (J mc9)), (16, .int (J mb9)), (15, .int (J ma)), (14, .int (J wh)), (13, .int (J ly1)), (12, .int (J lx1)), (11, .int (J ny1)), (10, .int (J nx1)), (9, .int (J qy1)), (8, .int (J qx1)), (7, .int (J py1)), (6, .int (J px1)), (5, .int (J z_12)), (4, .int (J z_3)), (0, .ref (q (9 + 5 * r))), (1, .ref (q (9 + 5 * r2))), (2, .int (J s)), (3, .int (J t))]) SS.1 SS.2.1 dX11_mapFits_260 hl (by decide) rfl (fun ls hl => ?_)
              refine j_iconst SS dX11_mapFits_262 ?_
              refine lv_istore (lv' := [(20, .int (J 0)), (19, .int (J s)), (18, .int (J md9)), (17, .int (J mc9)), (16, .int (J mb9)), (15, .int (J ma)), (14, .int (J wh)), (13, .int (J ly1)), (12, .int (J lx1)), (11, .int (J ny1)), (10, .int (J nx1)), (9, .int (J qy1)), (8, .int (J qx1)), (7, .int (J py1)), (6, .int (J px1)), (5, .int (J z_12)), (4, .int (J z_3)), (0, .ref (q (9 + 5 * r))), (1, .ref (q (9 + 5 * r2))), (2, .int (J s)), (3, .int (J t))]) SS.1 SS.2.1 dX11_mapFits_263 hl (by decide) rfl (fun ls hl => ?_)
              have L_265 : ∀ (nn : Nat) (tq : Int) (i : Int) (ls : Array Slot) (hl : lv_has ls 24 [(0, .ref (q (9 + 5 * r))), (1, .ref (q (9 + 5 * r2))), (2, .int (J s)), (3, .int (J t)), (14, .int (J wh)), (15, .int (J ma)), (16, .int (J mb9)), (17, .int (J mc9)), (18, .int (J md9)), (19, .int (J tq)), (20, .int (J i))]) (i265_0 : 0 ≤ i ∧ i ≤ u.1.2.2.1 r) (i265_1 : -1000 ≤ tq ∧ tq ≤ 1000), (u.1.2.2.1 r - i).toNat < nn → W pr l en (headSpec (jw yX11_mapFits cX11_mapFits 24 (some .boolean)) (jr 1 23)).room st mi (([.ref (q (9 + 5 * r)), .ref (q (9 + 5 * r2)), .int (J s), .int (J t)] : List Value).toArray) below meth co st.heap [] 0 0 (MQ below (jRi (fun z => z = 0 ∨ z = 1)) (([.ref (q (9 + 5 * r)), .ref (q (9 + 5 * r2)), .int (J s), .int (J t)] : List Value).toArray) st 0 0 (fun _ => False)) (F0 mi 265 ls []) := by
                intro nn
                induction nn with
                | zero => intros; omega
                | succ nn ih_265 =>
                  intro tq i ls hl i265_0 i265_1 hm
                  refine lv_iload SS.1 SS.2.1 dX11_mapFits_265 (lv_at hl 10 rfl) ?_
                  refine lv_aload_n SS.1 SS.2.1 dX11_mapFits_267 rfl (lv_at hl 0 rfl) ?_
                  refine j_getS SS hG hP (9 + 5 * r) (v := .int (J (u.1.2.2.1 r))) (C := RX7) (T := TX7) (N := 3) (cw_ring (by omega)) rfl inX7 2 (by decide) (ref := "GridPolygons$Ring") kw_135 kw_132 rfl dX11_mapFits_268 ?_
                  refine j_icmp_ge SS (tgt := 389) (x := i) (y := (u.1.2.2.1 r)) dX11_mapFits_271 (by decide) (by omega) (by omega) (fun c_271 => ?_) (fun c_271 => ?_)
                  · skip
                    refine j_iconst SS dX11_mapFits_389 ?_
                    exact W.zret SS.1 SS.2.1 hr (j_nz (by decide)) (fun t0 ht hW => ⟨_, rfl, ⟨1, rfl, (by omega)⟩, ht⟩) (fun _ h => nomatch h) dX11_mapFits_390 hlk
                  · skip
                    refine lv_aload_n SS.1 SS.2.1 dX11_mapFits_274 rfl (lv_at hl 0 rfl) ?_
                    refine lv_iload SS.1 SS.2.1 dX11_mapFits_275 (lv_at hl 10 rfl) ?_
                    refine j_uRi SS (As := [.int (J i)]) (rest := []) (c_X8_x l D q u r (by omega) i (show -2147483648 ≤ i ∧ i ≤ 2147483647 from (by omega))) mu_7_x kw_463 hG hP hP (ci := 7) (q0 := (9 + 5 * r)) rfl (cw_ring (by omega)) rfl rfl hl.1 ⟨⟨Nat.le_of_ble_eq_true rfl, Nat.le_of_ble_eq_true rfl⟩, Nat.le_of_ble_eq_true rfl, Nat.le_refl _, Nat.le_refl _⟩ rfl dX11_mapFits_277 (fun z_277 h_277 => ?_)
                    have h_277 : z_277 = rx u r i ∧ ∀ K : Int, 0 ≤ K → RB K u r → -K ≤ z_277 ∧ z_277 ≤ K := h_277
                    have hb_277 := h_277.2 40 (by omega) (p0)
                    refine lv_aload_n SS.1 SS.2.1 dX11_mapFits_280 rfl (lv_at hl 0 rfl) ?_
                    refine j_iconst SS dX11_mapFits_281 ?_
                    refine j_uRi SS (As := [.int (J 0)]) (rest := [.int (J z_277)]) (c_X8_x l D q u r (by omega) 0 (show -2147483648 ≤ (0 : Int) ∧ (0 : Int) ≤ 2147483647 from (by omega))) mu_7_x kw_463 hG hP hP (ci := 7) (q0 := (9 + 5 * r)) rfl (cw_ring (by omega)) rfl rfl hl.1 ⟨⟨Nat.le_of_ble_eq_true rfl, Nat.le_of_ble_eq_true rfl⟩, Nat.le_of_ble_eq_true rfl, Nat.le_refl _, Nat.le_refl _⟩ rfl dX11_mapFits_282 (fun z_282 h_282 => ?_)
                    have h_282 : z_282 = rx u r (0 : Int) ∧ ∀ K : Int, 0 ≤ K → RB K u r → -K ≤ z_282 ∧ z_282 ≤ K := h_282
                    have hb_282 := h_282.2 40 (by omega) (p0)
                    refine j_isub SS (x := z_277) (y := z_282) dX11_mapFits_285 ?_
                    refine lv_istore (lv' := [(21, .int (J (z_277 - z_282))), (0, .ref (q (9 + 5 * r))), (1, .ref (q (9 + 5 * r2))), (2, .int (J s)), (3, .int (J t)), (14, .int (J wh)), (15, .int (J ma)), (16, .int (J mb9)), (17, .int (J mc9)), (18, .int (J md9)), (19, .int (J tq)), (20, .int (J i))]) SS.1 SS.2.1 dX11_mapFits_286 hl (by decide) rfl (fun ls hl => ?_)
                    refine lv_aload_n SS.1 SS.2.1 dX11_mapFits_288 rfl (lv_at hl 1 rfl) ?_
                    refine lv_iload SS.1 SS.2.1 dX11_mapFits_289 (lv_at hl 11 rfl) ?_
                    refine j_uRi SS (As := [.int (J i)]) (rest := []) (c_X8_y l D q u r (by omega) i (show -2147483648 ≤ i ∧ i ≤ 2147483647 from (by omega))) mu_7_y kw_464 hG hP hP (ci := 7) (q0 := (9 + 5 * r)) rfl (cw_ring (by omega)) rfl rfl hl.1 ⟨⟨Nat.le_of_ble_eq_true rfl, Nat.le_of_ble_eq_true rfl⟩, Nat.le_of_ble_eq_true rfl, Nat.le_refl _, Nat.le_refl _⟩ rfl dX11_mapFits_291 (fun z_291 h_291 => ?_)
                    have h_291 : z_291 = ry9 u r i ∧ ∀ K : Int, 0 ≤ K → RB K u r → -K ≤ z_291 ∧ z_291 ≤ K := h_291
                    have hb_291 := h_291.2 40 (by omega) (p0)
                    refine lv_aload_n SS.1 SS.2.1 dX11_mapFits_294 rfl (lv_at hl 1 rfl) ?_
                    refine j_iconst SS dX11_mapFits_295 ?_
                    refine j_uRi SS (As := [.int (J 0)]) (rest := [.int (J z_291)]) (c_X8_y l D q u r (by omega) 0 (show -2147483648 ≤ (0 : Int) ∧ (0 : Int) ≤ 2147483647 from (by omega))) mu_7_y kw_464 hG hP hP (ci := 7) (q0 := (9 + 5 * r)) rfl (cw_ring (by omega)) rfl rfl hl.1 ⟨⟨Nat.le_of_ble_eq_true rfl, Nat.le_of_ble_eq_true rfl⟩, Nat.le_of_ble_eq_true rfl, Nat.le_refl _, Nat.le_refl _⟩ rfl dX11_mapFits_296 (fun z_296 h_296 => ?_)
                    have h_296 : z_296 = ry9 u r (0 : Int) ∧ ∀ K : Int, 0 ≤ K → RB K u r → -K ≤ z_296 ∧ z_296 ≤ K := h_296
                    have hb_296 := h_296.2 40 (by omega) (p0)
                    refine j_isub SS (x := z_291) (y := z_296) dX11_mapFits_299 ?_
                    refine lv_istore (lv' := [(22, .int (J (z_291 - z_296))), (21, .int (J (z_277 - z_282))), (0, .ref (q (9 + 5 * r))), (1, .ref (q (9 + 5 * r2))), (2, .int (J s)), (3, .int (J t)), (14, .int (J wh)), (15, .int (J ma)), (16, .int (J mb9)), (17, .int (J mc9)), (18, .int (J md9)), (19, .int (J tq)), (20, .int (J i))]) SS.1 SS.2.1 dX11_mapFits_300 hl (by decide) rfl (fun ls hl => ?_)
                    refine lv_iload SS.1 SS.2.1 dX11_mapFits_302 (lv_at hl 7 rfl) ?_
                    refine lv_iload SS.1 SS.2.1 dX11_mapFits_304 (lv_at hl 1 rfl) ?_
                    refine j_imul SS (x := ma) (y := (z_277 - z_282)) dX11_mapFits_306 ?_
                    refine lv_iload SS.1 SS.2.1 dX11_mapFits_307 (lv_at hl 8 rfl) ?_
                    refine lv_iload SS.1 SS.2.1 dX11_mapFits_309 (lv_at hl 0 rfl) ?_
                    refine j_imul SS (x := mb9) (y := (z_291 - z_296)) dX11_mapFits_311 ?_
                    refine j_iadd SS (x := (ma * (z_277 - z_282))) (y := (mb9 * (z_291 - z_296))) dX11_mapFits_312 ?_
                    refine lv_iload SS.1 SS.2.1 dX11_mapFits_313 (lv_at hl 6 rfl) ?_
                    refine lv_aload_n SS.1 SS.2.1 dX11_mapFits_315 rfl (lv_at hl 3 rfl) ?_
                    refine lv_iload SS.1 SS.2.1 dX11_mapFits_316 (lv_at hl 11 rfl) ?_
                    refine j_uRi SS (As := [.int (J tq)]) (rest := [.int (J wh), .int (J ((ma * (z_277 - z_282)) + (mb9 * (z_291 - z_296))))]) (c_X8_x l D q u r2 (by omega) tq (show -2147483648 ≤ tq ∧ tq ≤ 2147483647 from (by omega))) mu_7_x kw_463 hG hP hP (ci := 7) (q0 := (9 + 5 * r2)) rfl (cw_ring (by omega)) rfl rfl hl.1 ⟨⟨Nat.le_of_ble_eq_true rfl, Nat.le_of_ble_eq_true rfl⟩, Nat.le_of_ble_eq_true rfl, Nat.le_refl _, Nat.le_refl _⟩ rfl dX11_mapFits_318 (fun z_318 h_318 => ?_)
                    have h_318 : z_318 = rx u r2 tq ∧ ∀ K : Int, 0 ≤ K → RB K u r2 → -K ≤ z_318 ∧ z_318 ≤ K := h_318
                    have hb_318 := h_318.2 40 (by omega) (p1)
                    refine lv_aload_n SS.1 SS.2.1 dX11_mapFits_321 rfl (lv_at hl 3 rfl) ?_
                    refine lv_iload_n SS.1 SS.2.1 dX11_mapFits_322 rfl (lv_at hl 4 rfl) ?_
                    refine j_uRi SS (As := [.int (J s)]) (rest := [.int (J z_318), .int (J wh), .int (J ((ma * (z_277 - z_282)) + (mb9 * (z_291 - z_296))))]) (c_X8_x l D q u r2 (by omega) s (show -2147483648 ≤ s ∧ s ≤ 2147483647 from (by omega))) mu_7_x kw_463 hG hP hP (ci := 7) (q0 := (9 + 5 * r2)) rfl (cw_ring (by omega)) rfl rfl hl.1 ⟨⟨Nat.le_of_ble_eq_true rfl, Nat.le_of_ble_eq_true rfl⟩, Nat.le_of_ble_eq_true rfl, Nat.le_refl _, Nat.le_refl _⟩ rfl dX11_mapFits_323 (fun z_323 h_323 => ?_)
                    have h_323 : z_323 = rx u r2 s ∧ ∀ K : Int, 0 ≤ K → RB K u r2 → -K ≤ z_323 ∧ z_323 ≤ K := h_323
                    have hb_323 := h_323.2 40 (by omega) (p1)
                    refine j_isub SS (x := z_318) (y := z_323) dX11_mapFits_326 ?_
                    refine j_imul SS (x := wh) (y := (z_318 - z_323)) dX11_mapFits_327 ?_
                    have x1 := mulb (A := 12800) (B := 80) (a := ma) (b := z_277 - z_282) (by omega) (by omega)
                    have x2 := mulb (A := 12800) (B := 80) (a := mb9) (b := z_291 - z_296) (by omega) (by omega)
                    have x3 := mulb (A := 12800) (B := 80) (a := wh) (b := z_318 - z_323) (by omega) (by omega)
                    refine j_icmp_ne SS (tgt := 364) (x := ((ma * (z_277 - z_282)) + (mb9 * (z_291 - z_296)))) (y := (wh * (z_318 - z_323))) dX11_mapFits_328 (by decide) (by omega) (by omega) (fun c_328 => ?_) (fun c_328 => ?_)
                    · skip
                      refine j_iconst SS dX11_mapFits_364 ?_
                      refine lv_istore (lv' := [(23, .int (J 0)), (22, .int (J (z_291 - z_296))), (21, .int (J (z_277 - z_282))), (0, .ref (q (9 + 5 * r))), (1, .ref (q (9 + 5 * r2))), (2, .int (J s)), (3, .int (J t)), (14, .int (J wh)), (15, .int (J ma)), (16, .int (J mb9)), (17, .int (J mc9)), (18, .int (J md9)), (19, .int (J tq)), (20, .int (J i))]) SS.1 SS.2.1 dX11_mapFits_365 hl (by decide) rfl (fun ls hl => ?_)
                      refine lv_iload SS.1 SS.2.1 dX11_mapFits_367 (lv_at hl 0 rfl) ?_
                      refine j_if_ne SS (tgt := 374) dX11_mapFits_369 (by decide) (by decide) (fun c_369 => absurd c_369 (by decide)) (fun c_369 => ?_)
                      refine j_iconst SS dX11_mapFits_372 ?_
                      exact W.zret SS.1 SS.2.1 hr (j_nz (by decide)) (fun t0 ht hW => ⟨_, rfl, ⟨0, rfl, (by omega)⟩, ht⟩) (fun _ h => nomatch h) dX11_mapFits_373 hlk
                    · skip
                      refine lv_iload SS.1 SS.2.1 dX11_mapFits_331 (lv_at hl 9 rfl) ?_
                      refine lv_iload SS.1 SS.2.1 dX11_mapFits_333 (lv_at hl 1 rfl) ?_
                      refine j_imul SS (x := mc9) (y := (z_277 - z_282)) dX11_mapFits_335 ?_
                      refine lv_iload SS.1 SS.2.1 dX11_mapFits_336 (lv_at hl 10 rfl) ?_
                      refine lv_iload SS.1 SS.2.1 dX11_mapFits_338 (lv_at hl 0 rfl) ?_
                      refine j_imul SS (x := md9) (y := (z_291 - z_296)) dX11_mapFits_340 ?_
                      refine j_iadd SS (x := (mc9 * (z_277 - z_282))) (y := (md9 * (z_291 - z_296))) dX11_mapFits_341 ?_
                      refine lv_iload SS.1 SS.2.1 dX11_mapFits_342 (lv_at hl 6 rfl) ?_
                      refine lv_aload_n SS.1 SS.2.1 dX11_mapFits_344 rfl (lv_at hl 3 rfl) ?_
                      refine lv_iload SS.1 SS.2.1 dX11_mapFits_345 (lv_at hl 11 rfl) ?_
                      refine j_uRi SS (As := [.int (J tq)]) (rest := [.int (J wh), .int (J ((mc9 * (z_277 - z_282)) + (md9 * (z_291 - z_296))))]) (c_X8_y l D q u r2 (by omega) tq (show -2147483648 ≤ tq ∧ tq ≤ 2147483647 from (by omega))) mu_7_y kw_464 hG hP hP (ci := 7) (q0 := (9 + 5 * r2)) rfl (cw_ring (by omega)) rfl rfl hl.1 ⟨⟨Nat.le_of_ble_eq_true rfl, Nat.le_of_ble_eq_true rfl⟩, Nat.le_of_ble_eq_true rfl, Nat.le_refl _, Nat.le_refl _⟩ rfl dX11_mapFits_347 (fun z_347 h_347 => ?_)
                      have h_347 : z_347 = ry9 u r2 tq ∧ ∀ K : Int, 0 ≤ K → RB K u r2 → -K ≤ z_347 ∧ z_347 ≤ K := h_347
                      have hb_347 := h_347.2 40 (by omega) (p1)
                      refine lv_aload_n SS.1 SS.2.1 dX11_mapFits_350 rfl (lv_at hl 3 rfl) ?_
                      refine lv_iload_n SS.1 SS.2.1 dX11_mapFits_351 rfl (lv_at hl 4 rfl) ?_
                      refine j_uRi SS (As := [.int (J s)]) (rest := [.int (J z_347), .int (J wh), .int (J ((mc9 * (z_277 - z_282)) + (md9 * (z_291 - z_296))))]) (c_X8_y l D q u r2 (by omega) s (show -2147483648 ≤ s ∧ s ≤ 2147483647 from (by omega))) mu_7_y kw_464 hG hP hP (ci := 7) (q0 := (9 + 5 * r2)) rfl (cw_ring (by omega)) rfl rfl hl.1 ⟨⟨Nat.le_of_ble_eq_true rfl, Nat.le_of_ble_eq_true rfl⟩, Nat.le_of_ble_eq_true rfl, Nat.le_refl _, Nat.le_refl _⟩ rfl dX11_mapFits_352 (fun z_352 h_352 => ?_)
                      have h_352 : z_352 = ry9 u r2 s ∧ ∀ K : Int, 0 ≤ K → RB K u r2 → -K ≤ z_352 ∧ z_352 ≤ K := h_352
                      have hb_352 := h_352.2 40 (by omega) (p1)
                      refine j_isub SS (x := z_347) (y := z_352) dX11_mapFits_355 ?_
                      refine j_imul SS (x := wh) (y := (z_347 - z_352)) dX11_mapFits_356 ?_
                      have x4 := mulb (A := 12800) (B := 80) (a := mc9) (b := z_277 - z_282) (by omega) (by omega)
                      have x5 := mulb (A := 12800) (B := 80) (a := md9) (b := z_291 - z_296) (by omega) (by omega)
                      have x6 := mulb (A := 12800) (B := 80) (a := wh) (b := z_347 - z_352) (by omega) (by omega)
                      refine j_icmp_ne SS (tgt := 364) (x := ((mc9 * (z_277 - z_282)) + (md9 * (z_291 - z_296)))) (y := (wh * (z_347 - z_352))) dX11_mapFits_357 (by decide) (by omega) (by omega) (fun c_357 => ?_) (fun c_357 => ?_)
                      · skip
                        refine j_iconst SS dX11_mapFits_364 ?_
                        refine lv_istore (lv' := [(23, .int (J 0)), (22, .int (J (z_291 - z_296))), (21, .int (J (z_277 - z_282))), (0, .ref (q (9 + 5 * r))), (1, .ref (q (9 + 5 * r2))), (2, .int (J s)), (3, .int (J t)), (14, .int (J wh)), (15, .int (J ma)), (16, .int (J mb9)), (17, .int (J mc9)), (18, .int (J md9)), (19, .int (J tq)), (20, .int (J i))]) SS.1 SS.2.1 dX11_mapFits_365 hl (by decide) rfl (fun ls hl => ?_)
                        refine lv_iload SS.1 SS.2.1 dX11_mapFits_367 (lv_at hl 0 rfl) ?_
                        refine j_if_ne SS (tgt := 374) dX11_mapFits_369 (by decide) (by decide) (fun c_369 => absurd c_369 (by decide)) (fun c_369 => ?_)
                        refine j_iconst SS dX11_mapFits_372 ?_
                        exact W.zret SS.1 SS.2.1 hr (j_nz (by decide)) (fun t0 ht hW => ⟨_, rfl, ⟨0, rfl, (by omega)⟩, ht⟩) (fun _ h => nomatch h) dX11_mapFits_373 hlk
                      · skip
                        refine j_iconst SS dX11_mapFits_360 ?_
                        refine lv_goto (tgt := 365) SS.1 SS.2.1 dX11_mapFits_361 (by decide) ?_
                        refine lv_istore (lv' := [(23, .int (J 1)), (22, .int (J (z_291 - z_296))), (21, .int (J (z_277 - z_282))), (0, .ref (q (9 + 5 * r))), (1, .ref (q (9 + 5 * r2))), (2, .int (J s)), (3, .int (J t)), (14, .int (J wh)), (15, .int (J ma)), (16, .int (J mb9)), (17, .int (J mc9)), (18, .int (J md9)), (19, .int (J tq)), (20, .int (J i))]) SS.1 SS.2.1 dX11_mapFits_365 hl (by decide) rfl (fun ls hl => ?_)
                        refine lv_iload SS.1 SS.2.1 dX11_mapFits_367 (lv_at hl 0 rfl) ?_
                        refine j_if_ne SS (tgt := 374) dX11_mapFits_369 (by decide) (by decide) (fun c_369 => ?_) (fun c_369 => absurd c_369 (by decide))
                        refine lv_aload_n SS.1 SS.2.1 dX11_mapFits_374 rfl (lv_at hl 4 rfl) ?_
                        refine lv_iload SS.1 SS.2.1 dX11_mapFits_375 (lv_at hl 12 rfl) ?_
                        refine lv_iload_n SS.1 SS.2.1 dX11_mapFits_377 rfl (lv_at hl 6 rfl) ?_
                        refine j_vRi SS (As := [.int (J tq), .int (J t)]) (rest := []) (c_X7_around l D q u r2 (by omega) (40 : Int) tq t (show 0 ≤ (40 : Int) ∧ (40 : Int) ≤ 80 from (by omega)) (show RB (40 : Int) u r2 from (p1)) (show -1000 ≤ tq ∧ tq ≤ 1000 from (by omega)) (show t = 1 ∨ t = -1 from (p3))) mf_X7_around kw_666 hG hP hP (ci := 7) (q0 := (9 + 5 * r2)) rfl (cw_ring (by omega)) rfl rfl hl.1 ⟨⟨Nat.le_of_ble_eq_true rfl, Nat.le_of_ble_eq_true rfl⟩, Nat.le_of_ble_eq_true rfl, Nat.le_refl _, Nat.le_refl _⟩ rfl dX11_mapFits_378 (fun z_378 h_378 => ?_)
                        have h_378 : z_378 = ar u r2 tq t ∧ -1000 ≤ z_378 ∧ z_378 ≤ 1001 := h_378
                        have hn378 := ar_b (u := u) (r := r2) (i := tq) (t := t) (by omega) p3 (by omega)
                        refine lv_istore (lv' := [(19, .int (J z_378)), (23, .int (J 1)), (22, .int (J (z_291 - z_296))), (21, .int (J (z_277 - z_282))), (0, .ref (q (9 + 5 * r))), (1, .ref (q (9 + 5 * r2))), (2, .int (J s)), (3, .int (J t)), (14, .int (J wh)), (15, .int (J ma)), (16, .int (J mb9)), (17, .int (J mc9)), (18, .int (J md9)), (20, .int (J i))]) SS.1 SS.2.1 dX11_mapFits_381 hl (by decide) rfl (fun ls hl => ?_)
                        refine lv_iinc (v := J (i + 1)) (lv' := [(20, .int (J (i + 1))), (19, .int (J z_378)), (23, .int (J 1)), (22, .int (J (z_291 - z_296))), (21, .int (J (z_277 - z_282))), (0, .ref (q (9 + 5 * r))), (1, .ref (q (9 + 5 * r2))), (2, .int (J s)), (3, .int (J t)), (14, .int (J wh)), (15, .int (J ma)), (16, .int (J mb9)), (17, .int (J mc9)), (18, .int (J md9))]) SS.1 SS.2.1 dX11_mapFits_383 hl (k := 13) rfl (J_add _ _) (by decide) rfl (fun ls hl => ?_)
                        refine lv_goto (tgt := 265) SS.1 SS.2.1 dX11_mapFits_386 (by decide) ?_
                        exact ih_265 z_378 (i + 1) ls (lv_sub hl [5, 6, 7, 8, 9, 10, 11, 12, 13, 1, 0] rfl) (by omega) (by omega) (by omega)
              exact L_265 ((u.1.2.2.1 r - (0 : Int)).toNat + 1) s 0 ls (lv_sub hl [17, 18, 19, 20, 6, 5, 4, 3, 2, 1, 0] rfl) (by omega) (by omega) (Nat.lt_succ_self _)
            · skip
              refine j_iconst SS dX11_mapFits_257 ?_
              exact W.zret SS.1 SS.2.1 hr (j_nz (by decide)) (fun t0 ht hW => ⟨_, rfl, ⟨0, rfl, (by omega)⟩, ht⟩) (fun _ h => nomatch h) dX11_mapFits_258 hlk
    · skip
      refine j_iconst SS dX11_mapFits_171 ?_
      exact W.zret SS.1 SS.2.1 hr (j_nz (by decide)) (fun t0 ht hW => ⟨_, rfl, ⟨0, rfl, (by omega)⟩, ht⟩) (fun _ h => nomatch h) dX11_mapFits_172 hlk

set_option maxHeartbeats 4000000 in
set_option maxRecDepth 100000 in
theorem c_X11_mapsBetween (l : Launch) (D : JD) (q : Nat → Nat) (u : CS) (r : Nat) (hr : r ≤ 8) (r2 : Nat) (hr2 : r2 ≤ 8) (p0 : RB 40 u r) (p1 : RB 40 u r2) : Met l yX11_mapsBetween (jw yX11_mapsBetween cX11_mapsBetween 4 (some .int)) (jr 3 66) (jP [.ref (q (9 + 5 * r)), .ref (q (9 + 5 * r2))] D (fun H => va_P D.1 j_cl (cW D q u) H)) (jRi (fun z => 0 ≤ z ∧ z ≤ 800)) 0 0 (fun _ => False) := by
  refine Met.ofW (cc := cX11_mapsBetween) (maxL := 4) (ret := (some .int)) (by decide) rfl ?_
  intro pr en st mi args below meth co s₁ B hml hv
  obtain ⟨rfl, hG, hP⟩ := hv
  have hr := B.returns
  have hlk := B.notSynchronized
  have SS : jS pr mi co cX11_mapsBetween 4 st _ RX11 := ⟨B.exec, B.bytes, hml, findClass_of_methodNamed B.named, fun w hw => atoms_spec (ws := (jw yX11_mapsBetween cX11_mapsBetween 4 (some .int))) B.pre w (List.mem_cons_of_mem _ hw)⟩
  have hl := lv_entry ([.ref (q (9 + 5 * r)), .ref (q (9 + 5 * r2))]) (n := 4) (Nat.le_of_ble_eq_true rfl)
  rw [lg_entry_eq]
  generalize (lg_sl ([.ref (q (9 + 5 * r)), .ref (q (9 + 5 * r2))]) ++ List.replicate (4 - (lg_sl ([.ref (q (9 + 5 * r)), .ref (q (9 + 5 * r2))])).length) Slot.unset).toArray = ls at hl ⊢
  have hl : lv_has ls 4 [(0, .ref (q (9 + 5 * r))), (1, .ref (q (9 + 5 * r2)))] := hl
  have hc := p0.1
  have hc2 := p1.1
  have hrl := rl_b r
  have hrl2 := rl_b r2
  refine lv_aload_n SS.1 SS.2.1 dX11_mapsBetween_0 rfl (lv_at hl 0 rfl) ?_
  refine j_getS SS hG hP (9 + 5 * r) (v := .int (J (u.1.2.2.1 r))) (C := RX7) (T := TX7) (N := 3) (cw_ring (by omega)) rfl inX7 2 (by decide) (ref := "GridPolygons$Ring") kw_135 kw_132 rfl dX11_mapsBetween_1 ?_
  refine lv_aload_n SS.1 SS.2.1 dX11_mapsBetween_4 rfl (lv_at hl 1 rfl) ?_
  refine j_getS SS hG hP (9 + 5 * r2) (v := .int (J (u.1.2.2.1 r2))) (C := RX7) (T := TX7) (N := 3) (cw_ring (by omega)) rfl inX7 2 (by decide) (ref := "GridPolygons$Ring") kw_135 kw_132 rfl dX11_mapsBetween_5 ?_
  refine j_icmp_ne SS (tgt := 22) (x := (u.1.2.2.1 r)) (y := (u.1.2.2.1 r2)) dX11_mapsBetween_8 (by decide) (by omega) (by omega) (fun c_8 => ?_) (fun c_8 => ?_)
  · skip
    refine j_iconst SS dX11_mapsBetween_22 ?_
    exact W.iret SS.1 SS.2.1 hr (fun t0 ht hW => ⟨_, rfl, ⟨0, rfl, (by omega)⟩, ht⟩) (fun _ h => nomatch h) dX11_mapsBetween_23 hlk
  · skip
    refine lv_aload_n SS.1 SS.2.1 dX11_mapsBetween_11 rfl (lv_at hl 0 rfl) ?_
    refine j_vRi SS (As := []) (rest := []) (c_X7_area l D q u r (by omega) (40 : Int)  (show 0 ≤ (40 : Int) ∧ (40 : Int) ≤ 80 from (by omega)) (show RB (40 : Int) u r from (p0))) mf_X7_area kw_517 hG hP hP (ci := 7) (q0 := (9 + 5 * r)) rfl (cw_ring (by omega)) rfl rfl hl.1 ⟨⟨Nat.le_of_ble_eq_true rfl, Nat.le_of_ble_eq_true rfl⟩, Nat.le_of_ble_eq_true rfl, Nat.le_refl _, Nat.le_refl _⟩ rfl dX11_mapsBetween_12 (fun z_12 h_12 => ?_)
    have h_12 : z_12 = rA u r ∧ -10000000 ≤ z_12 ∧ z_12 ≤ 10000000 := h_12
    refine lv_aload_n SS.1 SS.2.1 dX11_mapsBetween_15 rfl (lv_at hl 1 rfl) ?_
    refine j_vRi SS (As := []) (rest := [.int (J z_12)]) (c_X7_area l D q u r2 (by omega) (40 : Int)  (show 0 ≤ (40 : Int) ∧ (40 : Int) ≤ 80 from (by omega)) (show RB (40 : Int) u r2 from (p1))) mf_X7_area kw_517 hG hP hP (ci := 7) (q0 := (9 + 5 * r2)) rfl (cw_ring (by omega)) rfl rfl hl.1 ⟨⟨Nat.le_of_ble_eq_true rfl, Nat.le_of_ble_eq_true rfl⟩, Nat.le_of_ble_eq_true rfl, Nat.le_refl _, Nat.le_refl _⟩ rfl dX11_mapsBetween_16 (fun z_16 h_16 => ?_)
    have h_16 : z_16 = rA u r2 ∧ -10000000 ≤ z_16 ∧ z_16 ≤ 10000000 := h_16
    refine j_icmp_eq SS (tgt := 24) (x := z_12) (y := z_16) dX11_mapsBetween_19 (by decide) (by omega) (by omega) (fun c_19 => ?_) (fun c_19 => ?_)
    · skip
      refine j_iconst SS dX11_mapsBetween_24 ?_
      refine lv_istore_n (lv' := [(2, .int (J 0)), (0, .ref (q (9 + 5 * r))), (1, .ref (q (9 + 5 * r2)))]) SS.1 SS.2.1 dX11_mapsBetween_25 rfl hl (by decide) rfl (fun ls hl => ?_)
      refine j_iconst SS dX11_mapsBetween_26 ?_
      refine lv_istore_n (lv' := [(3, .int (J 0)), (2, .int (J 0)), (0, .ref (q (9 + 5 * r))), (1, .ref (q (9 + 5 * r2)))]) SS.1 SS.2.1 dX11_mapsBetween_27 rfl hl (by decide) rfl (fun ls hl => ?_)
      have L_28 : ∀ (nn : Nat) (fd : Int) (i : Int) (ls : Array Slot) (hl : lv_has ls 4 [(0, .ref (q (9 + 5 * r))), (1, .ref (q (9 + 5 * r2))), (2, .int (J fd)), (3, .int (J i))]) (i28_0 : 0 ≤ i ∧ i ≤ u.1.2.2.1 r2) (i28_1 : 0 ≤ fd ∧ fd ≤ 2 * i), (u.1.2.2.1 r2 - i).toNat < nn → W pr l en (headSpec (jw yX11_mapsBetween cX11_mapsBetween 4 (some .int)) (jr 3 66)).room st mi (([.ref (q (9 + 5 * r)), .ref (q (9 + 5 * r2))] : List Value).toArray) below meth co st.heap [] 0 0 (MQ below (jRi (fun z => 0 ≤ z ∧ z ≤ 800)) (([.ref (q (9 + 5 * r)), .ref (q (9 + 5 * r2))] : List Value).toArray) st 0 0 (fun _ => False)) (F0 mi 28 ls []) := by
        intro nn
        induction nn with
        | zero => intros; omega
        | succ nn ih_28 =>
          intro fd i ls hl i28_0 i28_1 hm
          refine lv_iload_n SS.1 SS.2.1 dX11_mapsBetween_28 rfl (lv_at hl 3 rfl) ?_
          refine lv_aload_n SS.1 SS.2.1 dX11_mapsBetween_29 rfl (lv_at hl 1 rfl) ?_
          refine j_getS SS hG hP (9 + 5 * r2) (v := .int (J (u.1.2.2.1 r2))) (C := RX7) (T := TX7) (N := 3) (cw_ring (by omega)) rfl inX7 2 (by decide) (ref := "GridPolygons$Ring") kw_135 kw_132 rfl dX11_mapsBetween_30 ?_
          refine j_icmp_ge SS (tgt := 68) (x := i) (y := (u.1.2.2.1 r2)) dX11_mapsBetween_33 (by decide) (by omega) (by omega) (fun c_33 => ?_) (fun c_33 => ?_)
          · skip
            refine lv_iload_n SS.1 SS.2.1 dX11_mapsBetween_68 rfl (lv_at hl 2 rfl) ?_
            exact W.iret SS.1 SS.2.1 hr (fun t0 ht hW => ⟨_, rfl, ⟨fd, rfl, (by omega)⟩, ht⟩) (fun _ h => nomatch h) dX11_mapsBetween_69 hlk
          · skip
            refine lv_aload_n SS.1 SS.2.1 dX11_mapsBetween_36 rfl (lv_at hl 0 rfl) ?_
            refine lv_aload_n SS.1 SS.2.1 dX11_mapsBetween_37 rfl (lv_at hl 1 rfl) ?_
            refine lv_iload_n SS.1 SS.2.1 dX11_mapsBetween_38 rfl (lv_at hl 3 rfl) ?_
            refine j_iconst SS dX11_mapsBetween_39 ?_
            refine j_sRi SS (As := [.ref (q (9 + 5 * r)), .ref (q (9 + 5 * r2)), .int (J i), .int (J 1)]) (rest := []) (c_X11_mapFits l D q u r (by omega) r2 (by omega) i 1 (show RB 40 u r from (p0)) (show RB 40 u r2 from (p1)) (show -1000 ≤ i ∧ i ≤ 999 from (by omega)) (show (1 : Int) = 1 ∨ (1 : Int) = -1 from (by omega))) mf_X11_mapFits kw_663 hG hP rfl hl.1 ⟨⟨Nat.le_of_ble_eq_true rfl, Nat.le_of_ble_eq_true rfl⟩, Nat.le_of_ble_eq_true rfl, Nat.le_refl _, Nat.le_refl _⟩ rfl dX11_mapsBetween_40 (fun z_40 h_40 => ?_)
            have h_40 : z_40 = 0 ∨ z_40 = 1 := h_40
            refine j_if_eq SS (tgt := 49) (x := z_40) dX11_mapsBetween_43 (by decide) (by omega) (fun c_43 => ?_) (fun c_43 => ?_)
            · skip
              refine lv_aload_n SS.1 SS.2.1 dX11_mapsBetween_49 rfl (lv_at hl 0 rfl) ?_
              refine lv_aload_n SS.1 SS.2.1 dX11_mapsBetween_50 rfl (lv_at hl 1 rfl) ?_
              refine lv_iload_n SS.1 SS.2.1 dX11_mapsBetween_51 rfl (lv_at hl 3 rfl) ?_
              refine j_iconst SS dX11_mapsBetween_52 ?_
              refine j_sRi SS (As := [.ref (q (9 + 5 * r)), .ref (q (9 + 5 * r2)), .int (J i), .int (J (-1))]) (rest := []) (c_X11_mapFits l D q u r (by omega) r2 (by omega) i (-1) (show RB 40 u r from (p0)) (show RB 40 u r2 from (p1)) (show -1000 ≤ i ∧ i ≤ 999 from (by omega)) (show (-1 : Int) = 1 ∨ (-1 : Int) = -1 from (by omega))) mf_X11_mapFits kw_663 hG hP rfl hl.1 ⟨⟨Nat.le_of_ble_eq_true rfl, Nat.le_of_ble_eq_true rfl⟩, Nat.le_of_ble_eq_true rfl, Nat.le_refl _, Nat.le_refl _⟩ rfl dX11_mapsBetween_53 (fun z_53 h_53 => ?_)
              have h_53 : z_53 = 0 ∨ z_53 = 1 := h_53
              refine j_if_eq SS (tgt := 62) (x := z_53) dX11_mapsBetween_56 (by decide) (by omega) (fun c_56 => ?_) (fun c_56 => ?_)
              · skip
                refine lv_iinc (v := J (i + 1)) (lv' := [(3, .int (J (i + 1))), (0, .ref (q (9 + 5 * r))), (1, .ref (q (9 + 5 * r2))), (2, .int (J fd))]) SS.1 SS.2.1 dX11_mapsBetween_62 hl (k := 3) rfl (J_add _ _) (by decide) rfl (fun ls hl => ?_)
                refine lv_goto (tgt := 28) SS.1 SS.2.1 dX11_mapsBetween_65 (by decide) ?_
                exact ih_28 fd (i + 1) ls (lv_sub hl [1, 2, 3, 0] rfl) (by omega) (by omega) (by omega)
              · skip
                refine lv_iinc (v := J (fd + 1)) (lv' := [(2, .int (J (fd + 1))), (0, .ref (q (9 + 5 * r))), (1, .ref (q (9 + 5 * r2))), (3, .int (J i))]) SS.1 SS.2.1 dX11_mapsBetween_59 hl (k := 2) rfl (J_add _ _) (by decide) rfl (fun ls hl => ?_)
                refine lv_iinc (v := J (i + 1)) (lv' := [(3, .int (J (i + 1))), (2, .int (J (fd + 1))), (0, .ref (q (9 + 5 * r))), (1, .ref (q (9 + 5 * r2)))]) SS.1 SS.2.1 dX11_mapsBetween_62 hl (k := 3) rfl (J_add _ _) (by decide) rfl (fun ls hl => ?_)
                refine lv_goto (tgt := 28) SS.1 SS.2.1 dX11_mapsBetween_65 (by decide) ?_
                exact ih_28 (fd + 1) (i + 1) ls (lv_sub hl [2, 3, 1, 0] rfl) (by omega) (by omega) (by omega)
            · skip
              refine lv_iinc (v := J (fd + 1)) (lv' := [(2, .int (J (fd + 1))), (0, .ref (q (9 + 5 * r))), (1, .ref (q (9 + 5 * r2))), (3, .int (J i))]) SS.1 SS.2.1 dX11_mapsBetween_46 hl (k := 2) rfl (J_add _ _) (by decide) rfl (fun ls hl => ?_)
              refine lv_aload_n SS.1 SS.2.1 dX11_mapsBetween_49 rfl (lv_at hl 1 rfl) ?_
              refine lv_aload_n SS.1 SS.2.1 dX11_mapsBetween_50 rfl (lv_at hl 2 rfl) ?_
              refine lv_iload_n SS.1 SS.2.1 dX11_mapsBetween_51 rfl (lv_at hl 3 rfl) ?_
              refine j_iconst SS dX11_mapsBetween_52 ?_
              refine j_sRi SS (As := [.ref (q (9 + 5 * r)), .ref (q (9 + 5 * r2)), .int (J i), .int (J (-1))]) (rest := []) (c_X11_mapFits l D q u r (by omega) r2 (by omega) i (-1) (show RB 40 u r from (p0)) (show RB 40 u r2 from (p1)) (show -1000 ≤ i ∧ i ≤ 999 from (by omega)) (show (-1 : Int) = 1 ∨ (-1 : Int) = -1 from (by omega))) mf_X11_mapFits kw_663 hG hP rfl hl.1 ⟨⟨Nat.le_of_ble_eq_true rfl, Nat.le_of_ble_eq_true rfl⟩, Nat.le_of_ble_eq_true rfl, Nat.le_refl _, Nat.le_refl _⟩ rfl dX11_mapsBetween_53 (fun z_53 h_53 => ?_)
              have h_53 : z_53 = 0 ∨ z_53 = 1 := h_53
              refine j_if_eq SS (tgt := 62) (x := z_53) dX11_mapsBetween_56 (by decide) (by omega) (fun c_56 => ?_) (fun c_56 => ?_)
              · skip
                refine lv_iinc (v := J (i + 1)) (lv' := [(3, .int (J (i + 1))), (2, .int (J (fd + 1))), (0, .ref (q (9 + 5 * r))), (1, .ref (q (9 + 5 * r2)))]) SS.1 SS.2.1 dX11_mapsBetween_62 hl (k := 3) rfl (J_add _ _) (by decide) rfl (fun ls hl => ?_)
                refine lv_goto (tgt := 28) SS.1 SS.2.1 dX11_mapsBetween_65 (by decide) ?_
                exact ih_28 (fd + 1) (i + 1) ls (lv_sub hl [2, 3, 1, 0] rfl) (by omega) (by omega) (by omega)
              · skip
                refine lv_iinc (v := J (fd + 1 + 1)) (lv' := [(2, .int (J (fd + 1 + 1))), (0, .ref (q (9 + 5 * r))), (1, .ref (q (9 + 5 * r2))), (3, .int (J i))]) SS.1 SS.2.1 dX11_mapsBetween_59 hl (k := 0) rfl (J_add _ _) (by decide) rfl (fun ls hl => ?_)
                refine lv_iinc (v := J (i + 1)) (lv' := [(3, .int (J (i + 1))), (2, .int (J (fd + 1 + 1))), (0, .ref (q (9 + 5 * r))), (1, .ref (q (9 + 5 * r2)))]) SS.1 SS.2.1 dX11_mapsBetween_62 hl (k := 3) rfl (J_add _ _) (by decide) rfl (fun ls hl => ?_)
                refine lv_goto (tgt := 28) SS.1 SS.2.1 dX11_mapsBetween_65 (by decide) ?_
                exact ih_28 (fd + 1 + 1) (i + 1) ls (lv_sub hl [2, 3, 1, 0] rfl) (by omega) (by omega) (by omega)
      exact L_28 ((u.1.2.2.1 r2 - (0 : Int)).toNat + 1) 0 0 ls (lv_sub hl [2, 3, 1, 0] rfl) (by omega) (by omega) (Nat.lt_succ_self _)
    · skip
      refine j_iconst SS dX11_mapsBetween_22 ?_
      exact W.iret SS.1 SS.2.1 hr (fun t0 ht hW => ⟨_, rfl, ⟨0, rfl, (by omega)⟩, ht⟩) (fun _ h => nomatch h) dX11_mapsBetween_23 hlk

set_option maxHeartbeats 4000000 in
set_option maxRecDepth 100000 in
theorem c_X11_areAlike (l : Launch) (D : JD) (q : Nat → Nat) (u : CS) (r : Nat) (hr : r ≤ 8) (r2 : Nat) (hr2 : r2 ≤ 8) (p0 : RB 40 u r) (p1 : RB 40 u r2) : Met l yX11_areAlike (jw yX11_areAlike cX11_areAlike 2 (some .boolean)) (jr 4 89) (jP [.ref (q (9 + 5 * r)), .ref (q (9 + 5 * r2))] D (fun H => va_P D.1 j_cl (cW D q u) H)) (jRi (fun z => z = 0 ∨ z = 1)) 0 0 (fun _ => False) := by
  refine Met.ofW (cc := cX11_areAlike) (maxL := 2) (ret := (some .boolean)) (by decide) rfl ?_
  intro pr en st mi args below meth co s₁ B hml hv
  obtain ⟨rfl, hG, hP⟩ := hv
  have hr := B.returns
  have hlk := B.notSynchronized
  have SS : jS pr mi co cX11_areAlike 2 st _ RX11 := ⟨B.exec, B.bytes, hml, findClass_of_methodNamed B.named, fun w hw => atoms_spec (ws := (jw yX11_areAlike cX11_areAlike 2 (some .boolean))) B.pre w (List.mem_cons_of_mem _ hw)⟩
  have hl := lv_entry ([.ref (q (9 + 5 * r)), .ref (q (9 + 5 * r2))]) (n := 2) (Nat.le_of_ble_eq_true rfl)
  rw [lg_entry_eq]
  generalize (lg_sl ([.ref (q (9 + 5 * r)), .ref (q (9 + 5 * r2))]) ++ List.replicate (2 - (lg_sl ([.ref (q (9 + 5 * r)), .ref (q (9 + 5 * r2))])).length) Slot.unset).toArray = ls at hl ⊢
  have hl : lv_has ls 2 [(0, .ref (q (9 + 5 * r))), (1, .ref (q (9 + 5 * r2)))] := hl
  have hc := p0.1
  have hc2 := p1.1
  have hrl := rl_b r
  have hrl2 := rl_b r2
  refine lv_aload_n SS.1 SS.2.1 dX11_areAlike_0 rfl (lv_at hl 0 rfl) ?_
  refine j_getS SS hG hP (9 + 5 * r) (v := .int (J (u.1.2.2.1 r))) (C := RX7) (T := TX7) (N := 3) (cw_ring (by omega)) rfl inX7 2 (by decide) (ref := "GridPolygons$Ring") kw_135 kw_132 rfl dX11_areAlike_1 ?_
  refine j_iconst SS dX11_areAlike_4 ?_
  refine j_icmp_lt SS (tgt := 16) (x := (u.1.2.2.1 r)) (y := 3) dX11_areAlike_5 (by decide) (by omega) (by decide) (fun c_5 => ?_) (fun c_5 => ?_)
  · skip
    refine lv_aload_n SS.1 SS.2.1 dX11_areAlike_16 rfl (lv_at hl 0 rfl) ?_
    refine j_getS SS hG hP (9 + 5 * r) (v := .int (J (u.1.2.2.1 r))) (C := RX7) (T := TX7) (N := 3) (cw_ring (by omega)) rfl inX7 2 (by decide) (ref := "GridPolygons$Ring") kw_135 kw_132 rfl dX11_areAlike_17 ?_
    refine lv_aload_n SS.1 SS.2.1 dX11_areAlike_20 rfl (lv_at hl 1 rfl) ?_
    refine j_getS SS hG hP (9 + 5 * r2) (v := .int (J (u.1.2.2.1 r2))) (C := RX7) (T := TX7) (N := 3) (cw_ring (by omega)) rfl inX7 2 (by decide) (ref := "GridPolygons$Ring") kw_135 kw_132 rfl dX11_areAlike_21 ?_
    refine j_icmp_ne SS (tgt := 42) (x := (u.1.2.2.1 r)) (y := (u.1.2.2.1 r2)) dX11_areAlike_24 (by decide) (by omega) (by omega) (fun c_24 => ?_) (fun c_24 => ?_)
    · skip
      refine j_iconst SS dX11_areAlike_42 ?_
      exact W.zret SS.1 SS.2.1 hr (j_nz (by decide)) (fun t0 ht hW => ⟨_, rfl, ⟨0, rfl, (by omega)⟩, ht⟩) (fun _ h => nomatch h) dX11_areAlike_43 hlk
    · skip
      refine lv_aload_n SS.1 SS.2.1 dX11_areAlike_27 rfl (lv_at hl 0 rfl) ?_
      refine j_vRi SS (As := []) (rest := []) (c_X7_onEdge l D q u r (by omega) (40 : Int)  (show 0 ≤ (40 : Int) ∧ (40 : Int) ≤ 80 from (by omega)) (show RB (40 : Int) u r from (p0))) mf_X7_onEdge kw_533 hG hP hP (ci := 7) (q0 := (9 + 5 * r)) rfl (cw_ring (by omega)) rfl rfl hl.1 ⟨⟨Nat.le_of_ble_eq_true rfl, Nat.le_of_ble_eq_true rfl⟩, Nat.le_of_ble_eq_true rfl, Nat.le_refl _, Nat.le_refl _⟩ rfl dX11_areAlike_28 (fun z_28 h_28 => ?_)
      have h_28 : z_28 = rE u r ∧ 0 ≤ z_28 ∧ z_28 ≤ 60000 := h_28
      refine lv_aload_n SS.1 SS.2.1 dX11_areAlike_31 rfl (lv_at hl 1 rfl) ?_
      refine j_vRi SS (As := []) (rest := [.int (J z_28)]) (c_X7_onEdge l D q u r2 (by omega) (40 : Int)  (show 0 ≤ (40 : Int) ∧ (40 : Int) ≤ 80 from (by omega)) (show RB (40 : Int) u r2 from (p1))) mf_X7_onEdge kw_533 hG hP hP (ci := 7) (q0 := (9 + 5 * r2)) rfl (cw_ring (by omega)) rfl rfl hl.1 ⟨⟨Nat.le_of_ble_eq_true rfl, Nat.le_of_ble_eq_true rfl⟩, Nat.le_of_ble_eq_true rfl, Nat.le_refl _, Nat.le_refl _⟩ rfl dX11_areAlike_32 (fun z_32 h_32 => ?_)
      have h_32 : z_32 = rE u r2 ∧ 0 ≤ z_32 ∧ z_32 ≤ 60000 := h_32
      refine j_icmp_ne SS (tgt := 42) (x := z_28) (y := z_32) dX11_areAlike_35 (by decide) (by omega) (by omega) (fun c_35 => ?_) (fun c_35 => ?_)
      · skip
        refine j_iconst SS dX11_areAlike_42 ?_
        exact W.zret SS.1 SS.2.1 hr (j_nz (by decide)) (fun t0 ht hW => ⟨_, rfl, ⟨0, rfl, (by omega)⟩, ht⟩) (fun _ h => nomatch h) dX11_areAlike_43 hlk
      · skip
        refine j_iconst SS dX11_areAlike_38 ?_
        refine lv_goto (tgt := 43) SS.1 SS.2.1 dX11_areAlike_39 (by decide) ?_
        exact W.zret SS.1 SS.2.1 hr (j_nz (by decide)) (fun t0 ht hW => ⟨_, rfl, ⟨1, rfl, (by omega)⟩, ht⟩) (fun _ h => nomatch h) dX11_areAlike_43 hlk
  · skip
    refine lv_aload_n SS.1 SS.2.1 dX11_areAlike_8 rfl (lv_at hl 1 rfl) ?_
    refine j_getS SS hG hP (9 + 5 * r2) (v := .int (J (u.1.2.2.1 r2))) (C := RX7) (T := TX7) (N := 3) (cw_ring (by omega)) rfl inX7 2 (by decide) (ref := "GridPolygons$Ring") kw_135 kw_132 rfl dX11_areAlike_9 ?_
    refine j_iconst SS dX11_areAlike_12 ?_
    refine j_icmp_ge SS (tgt := 44) (x := (u.1.2.2.1 r2)) (y := 3) dX11_areAlike_13 (by decide) (by omega) (by decide) (fun c_13 => ?_) (fun c_13 => ?_)
    · skip
      refine lv_aload_n SS.1 SS.2.1 dX11_areAlike_44 rfl (lv_at hl 0 rfl) ?_
      refine lv_aload_n SS.1 SS.2.1 dX11_areAlike_45 rfl (lv_at hl 1 rfl) ?_
      refine j_sRi SS (As := [.ref (q (9 + 5 * r)), .ref (q (9 + 5 * r2))]) (rest := []) (c_X11_mapsBetween l D q u r (by omega) r2 (by omega)  (show RB 40 u r from (p0)) (show RB 40 u r2 from (p1))) mf_X11_mapsBetween kw_660 hG hP rfl hl.1 ⟨⟨Nat.le_of_ble_eq_true rfl, Nat.le_of_ble_eq_true rfl⟩, Nat.le_of_ble_eq_true rfl, Nat.le_refl _, Nat.le_refl _⟩ rfl dX11_areAlike_46 (fun z_46 h_46 => ?_)
      have h_46 : 0 ≤ z_46 ∧ z_46 ≤ 800 := h_46
      refine j_if_le SS (tgt := 56) (x := z_46) dX11_areAlike_49 (by decide) (by omega) (fun c_49 => ?_) (fun c_49 => ?_)
      · skip
        refine j_iconst SS dX11_areAlike_56 ?_
        exact W.zret SS.1 SS.2.1 hr (j_nz (by decide)) (fun t0 ht hW => ⟨_, rfl, ⟨0, rfl, (by omega)⟩, ht⟩) (fun _ h => nomatch h) dX11_areAlike_57 hlk
      · skip
        refine j_iconst SS dX11_areAlike_52 ?_
        refine lv_goto (tgt := 57) SS.1 SS.2.1 dX11_areAlike_53 (by decide) ?_
        exact W.zret SS.1 SS.2.1 hr (j_nz (by decide)) (fun t0 ht hW => ⟨_, rfl, ⟨1, rfl, (by omega)⟩, ht⟩) (fun _ h => nomatch h) dX11_areAlike_57 hlk
    · skip
      refine lv_aload_n SS.1 SS.2.1 dX11_areAlike_16 rfl (lv_at hl 0 rfl) ?_
      refine j_getS SS hG hP (9 + 5 * r) (v := .int (J (u.1.2.2.1 r))) (C := RX7) (T := TX7) (N := 3) (cw_ring (by omega)) rfl inX7 2 (by decide) (ref := "GridPolygons$Ring") kw_135 kw_132 rfl dX11_areAlike_17 ?_
      refine lv_aload_n SS.1 SS.2.1 dX11_areAlike_20 rfl (lv_at hl 1 rfl) ?_
      refine j_getS SS hG hP (9 + 5 * r2) (v := .int (J (u.1.2.2.1 r2))) (C := RX7) (T := TX7) (N := 3) (cw_ring (by omega)) rfl inX7 2 (by decide) (ref := "GridPolygons$Ring") kw_135 kw_132 rfl dX11_areAlike_21 ?_
      refine j_icmp_ne SS (tgt := 42) (x := (u.1.2.2.1 r)) (y := (u.1.2.2.1 r2)) dX11_areAlike_24 (by decide) (by omega) (by omega) (fun c_24 => ?_) (fun c_24 => ?_)
      · skip
        refine j_iconst SS dX11_areAlike_42 ?_
        exact W.zret SS.1 SS.2.1 hr (j_nz (by decide)) (fun t0 ht hW => ⟨_, rfl, ⟨0, rfl, (by omega)⟩, ht⟩) (fun _ h => nomatch h) dX11_areAlike_43 hlk
      · skip
        refine lv_aload_n SS.1 SS.2.1 dX11_areAlike_27 rfl (lv_at hl 0 rfl) ?_
        refine j_vRi SS (As := []) (rest := []) (c_X7_onEdge l D q u r (by omega) (40 : Int)  (show 0 ≤ (40 : Int) ∧ (40 : Int) ≤ 80 from (by omega)) (show RB (40 : Int) u r from (p0))) mf_X7_onEdge kw_533 hG hP hP (ci := 7) (q0 := (9 + 5 * r)) rfl (cw_ring (by omega)) rfl rfl hl.1 ⟨⟨Nat.le_of_ble_eq_true rfl, Nat.le_of_ble_eq_true rfl⟩, Nat.le_of_ble_eq_true rfl, Nat.le_refl _, Nat.le_refl _⟩ rfl dX11_areAlike_28 (fun z_28 h_28 => ?_)
        have h_28 : z_28 = rE u r ∧ 0 ≤ z_28 ∧ z_28 ≤ 60000 := h_28
        refine lv_aload_n SS.1 SS.2.1 dX11_areAlike_31 rfl (lv_at hl 1 rfl) ?_
        refine j_vRi SS (As := []) (rest := [.int (J z_28)]) (c_X7_onEdge l D q u r2 (by omega) (40 : Int)  (show 0 ≤ (40 : Int) ∧ (40 : Int) ≤ 80 from (by omega)) (show RB (40 : Int) u r2 from (p1))) mf_X7_onEdge kw_533 hG hP hP (ci := 7) (q0 := (9 + 5 * r2)) rfl (cw_ring (by omega)) rfl rfl hl.1 ⟨⟨Nat.le_of_ble_eq_true rfl, Nat.le_of_ble_eq_true rfl⟩, Nat.le_of_ble_eq_true rfl, Nat.le_refl _, Nat.le_refl _⟩ rfl dX11_areAlike_32 (fun z_32 h_32 => ?_)
        have h_32 : z_32 = rE u r2 ∧ 0 ≤ z_32 ∧ z_32 ≤ 60000 := h_32
        refine j_icmp_ne SS (tgt := 42) (x := z_28) (y := z_32) dX11_areAlike_35 (by decide) (by omega) (by omega) (fun c_35 => ?_) (fun c_35 => ?_)
        · skip
          refine j_iconst SS dX11_areAlike_42 ?_
          exact W.zret SS.1 SS.2.1 hr (j_nz (by decide)) (fun t0 ht hW => ⟨_, rfl, ⟨0, rfl, (by omega)⟩, ht⟩) (fun _ h => nomatch h) dX11_areAlike_43 hlk
        · skip
          refine j_iconst SS dX11_areAlike_38 ?_
          refine lv_goto (tgt := 43) SS.1 SS.2.1 dX11_areAlike_39 (by decide) ?_
          exact W.zret SS.1 SS.2.1 hr (j_nz (by decide)) (fun t0 ht hW => ⟨_, rfl, ⟨1, rfl, (by omega)⟩, ht⟩) (fun _ h => nomatch h) dX11_areAlike_43 hlk

set_option maxHeartbeats 4000000 in
set_option maxRecDepth 100000 in
theorem c_X11_isNewHeap (l : Launch) (D : JD) (q : Nat → Nat) (u : CS) (i : Int) (p0 : CI u) (p1 : 0 ≤ i ∧ i ≤ 7) : Met l yX11_isNewHeap (jw yX11_isNewHeap cX11_isNewHeap 5 (some .boolean)) (jr 5 110) (jP [.ref (q 0), .int (J i)] D (fun H => va_P D.1 j_cl (cW D q u) H)) (jRi (fun z => z = 0 ∨ z = 1)) 0 0 (fun _ => False) := by
  refine Met.ofW (cc := cX11_isNewHeap) (maxL := 5) (ret := (some .boolean)) (by decide) rfl ?_
  intro pr en st mi args below meth co s₁ B hml hv
  obtain ⟨rfl, hG, hP⟩ := hv
  have hr := B.returns
  have hlk := B.notSynchronized
  have SS : jS pr mi co cX11_isNewHeap 5 st _ RX11 := ⟨B.exec, B.bytes, hml, findClass_of_methodNamed B.named, fun w hw => atoms_spec (ws := (jw yX11_isNewHeap cX11_isNewHeap 5 (some .boolean))) B.pre w (List.mem_cons_of_mem _ hw)⟩
  have hl := lv_entry ([.ref (q 0), .int (J i)]) (n := 5) (Nat.le_of_ble_eq_true rfl)
  rw [lg_entry_eq]
  generalize (lg_sl ([.ref (q 0), .int (J i)]) ++ List.replicate (5 - (lg_sl ([.ref (q 0), .int (J i)])).length) Slot.unset).toArray = ls at hl ⊢
  have hl : lv_has ls 5 [(0, .ref (q 0)), (1, .int (J i))] := hl
  refine lv_aload_n SS.1 SS.2.1 dX11_isNewHeap_0 rfl (lv_at hl 0 rfl) ?_
  refine lv_iload_n SS.1 SS.2.1 dX11_isNewHeap_1 rfl (lv_at hl 1 rfl) ?_
  refine j_vSh SS (As := [.int (J i)]) (rest := []) (c_X11_shapeAt l D q u  i (show -2147483648 ≤ i ∧ i ≤ 2147483647 from (by omega))) mf_X11_shapeAt kw_414 hG hP hP (ci := 11) (q0 := 0) rfl rfl rfl rfl hl.1 ⟨⟨Nat.le_of_ble_eq_true rfl, Nat.le_of_ble_eq_true rfl⟩, Nat.le_of_ble_eq_true rfl, Nat.le_refl _, Nat.le_refl _⟩ rfl dX11_isNewHeap_2 (fun i_2 hi_2 hz_2 => ?_) (fun hn_2 => ?_)
  · skip
    refine lv_astore_n (lv' := [(2, .ref (q (8 + 5 * i_2))), (0, .ref (q 0)), (1, .int (J i))]) SS.1 SS.2.1 dX11_isNewHeap_5 rfl hl (by decide) rfl (fun ls hl => ?_)
    refine lv_aload_n SS.1 SS.2.1 dX11_isNewHeap_6 rfl (lv_at hl 0 rfl) ?_
    refine lv_ifnull SS.1 SS.2.1 dX11_isNewHeap_7 ?_
    refine lv_aload_n SS.1 SS.2.1 dX11_isNewHeap_10 rfl (lv_at hl 0 rfl) ?_
    refine j_get SS hG hP (8 + 5 * i_2) (v := .ref (q (9 + 5 * i_2))) (C := RX10) (T := TX10) (N := 3) (cw_shape (by omega)) rfl inX10 0 (by decide) (ref := "GridPolygons$Shape") kw_151 rfl rfl dX11_isNewHeap_11 ?_
    refine j_vRi SS (As := []) (rest := []) (c_X7_isPolygon l D q u i_2 (by omega) (40 : Int)  (show 0 ≤ (40 : Int) ∧ (40 : Int) ≤ 80 from (by omega)) (show RB (40 : Int) u i_2 from (CI_40 p0 (by omega)))) mf_X7_isPolygon kw_568 hG hP hP (ci := 7) (q0 := (9 + 5 * i_2)) rfl (cw_ring (by omega)) rfl rfl hl.1 ⟨⟨Nat.le_of_ble_eq_true rfl, Nat.le_of_ble_eq_true rfl⟩, Nat.le_of_ble_eq_true rfl, Nat.le_refl _, Nat.le_refl _⟩ rfl dX11_isNewHeap_14 (fun z_14 h_14 => ?_)
    have h_14 : (z_14 = 1 ∧ 3 ≤ (u.1.2.2.1 i_2)) ∨ (z_14 = 0 ∧ (u.1.2.2.1 i_2) < 3) := h_14
    refine j_if_ne SS (tgt := 22) (x := z_14) dX11_isNewHeap_17 (by decide) (by omega) (fun c_17 => ?_) (fun c_17 => ?_)
    · skip
      refine j_iconst SS dX11_isNewHeap_22 ?_
      refine lv_istore_n (lv' := [(3, .int (J 0)), (2, .ref (q (8 + 5 * i_2))), (0, .ref (q 0)), (1, .int (J i))]) SS.1 SS.2.1 dX11_isNewHeap_23 rfl hl (by decide) rfl (fun ls hl => ?_)
      have L_24 : ∀ (nn : Nat) (j : Int) (ls : Array Slot) (hl : lv_has ls 5 [(0, .ref (q 0)), (1, .int (J i)), (2, .ref (q (8 + 5 * i_2))), (3, .int (J j))]) (i24_0 : 0 ≤ j ∧ j ≤ i), (i - j).toNat < nn → W pr l en (headSpec (jw yX11_isNewHeap cX11_isNewHeap 5 (some .boolean)) (jr 5 110)).room st mi (([.ref (q 0), .int (J i)] : List Value).toArray) below meth co st.heap [] 0 0 (MQ below (jRi (fun z => z = 0 ∨ z = 1)) (([.ref (q 0), .int (J i)] : List Value).toArray) st 0 0 (fun _ => False)) (F0 mi 24 ls []) := by
        intro nn
        induction nn with
        | zero => intros; omega
        | succ nn ih_24 =>
          intro j ls hl i24_0 hm
          refine lv_iload_n SS.1 SS.2.1 dX11_isNewHeap_24 rfl (lv_at hl 3 rfl) ?_
          refine lv_iload_n SS.1 SS.2.1 dX11_isNewHeap_25 rfl (lv_at hl 1 rfl) ?_
          refine j_icmp_ge SS (tgt := 64) (x := j) (y := i) dX11_isNewHeap_26 (by decide) (by omega) (by omega) (fun c_26 => ?_) (fun c_26 => ?_)
          · skip
            refine j_iconst SS dX11_isNewHeap_64 ?_
            exact W.zret SS.1 SS.2.1 hr (j_nz (by decide)) (fun t0 ht hW => ⟨_, rfl, ⟨1, rfl, (by omega)⟩, ht⟩) (fun _ h => nomatch h) dX11_isNewHeap_65 hlk
          · skip
            refine lv_aload_n SS.1 SS.2.1 dX11_isNewHeap_29 rfl (lv_at hl 0 rfl) ?_
            refine lv_iload_n SS.1 SS.2.1 dX11_isNewHeap_30 rfl (lv_at hl 3 rfl) ?_
            refine j_vSh SS (As := [.int (J j)]) (rest := []) (c_X11_shapeAt l D q u  j (show -2147483648 ≤ j ∧ j ≤ 2147483647 from (by omega))) mf_X11_shapeAt kw_414 hG hP hP (ci := 11) (q0 := 0) rfl rfl rfl rfl hl.1 ⟨⟨Nat.le_of_ble_eq_true rfl, Nat.le_of_ble_eq_true rfl⟩, Nat.le_of_ble_eq_true rfl, Nat.le_refl _, Nat.le_refl _⟩ rfl dX11_isNewHeap_31 (fun i_31 hi_31 hz_31 => ?_) (fun hn_31 => ?_)
            · skip
              refine lv_astore (lv' := [(4, .ref (q (8 + 5 * i_31))), (0, .ref (q 0)), (1, .int (J i)), (2, .ref (q (8 + 5 * i_2))), (3, .int (J j))]) SS.1 SS.2.1 dX11_isNewHeap_34 hl (by decide) rfl (fun ls hl => ?_)
              refine lv_aload SS.1 SS.2.1 dX11_isNewHeap_36 (lv_at hl 0 rfl) ?_
              refine lv_ifnull SS.1 SS.2.1 dX11_isNewHeap_38 ?_
              refine lv_aload_n SS.1 SS.2.1 dX11_isNewHeap_41 rfl (lv_at hl 3 rfl) ?_
              refine j_get SS hG hP (8 + 5 * i_2) (v := .ref (q (9 + 5 * i_2))) (C := RX10) (T := TX10) (N := 3) (cw_shape (by omega)) rfl inX10 0 (by decide) (ref := "GridPolygons$Shape") kw_151 rfl rfl dX11_isNewHeap_42 ?_
              refine lv_aload SS.1 SS.2.1 dX11_isNewHeap_45 (lv_at hl 0 rfl) ?_
              refine j_get SS hG hP (8 + 5 * i_31) (v := .ref (q (9 + 5 * i_31))) (C := RX10) (T := TX10) (N := 3) (cw_shape (by omega)) rfl inX10 0 (by decide) (ref := "GridPolygons$Shape") kw_151 rfl rfl dX11_isNewHeap_47 ?_
              refine j_sRi SS (As := [.ref (q (9 + 5 * i_2)), .ref (q (9 + 5 * i_31))]) (rest := []) (c_X11_areAlike l D q u i_2 (by omega) i_31 (by omega)  (show RB 40 u i_2 from (CI_40 p0 (by omega))) (show RB 40 u i_31 from (CI_40 p0 (by omega)))) mf_X11_areAlike kw_671 hG hP rfl hl.1 ⟨⟨Nat.le_of_ble_eq_true rfl, Nat.le_of_ble_eq_true rfl⟩, Nat.le_of_ble_eq_true rfl, Nat.le_refl _, Nat.le_refl _⟩ rfl dX11_isNewHeap_50 (fun z_50 h_50 => ?_)
              have h_50 : z_50 = 0 ∨ z_50 = 1 := h_50
              refine j_if_eq SS (tgt := 58) (x := z_50) dX11_isNewHeap_53 (by decide) (by omega) (fun c_53 => ?_) (fun c_53 => ?_)
              · skip
                refine lv_iinc (v := J (j + 1)) (lv' := [(3, .int (J (j + 1))), (4, .ref (q (8 + 5 * i_31))), (0, .ref (q 0)), (1, .int (J i)), (2, .ref (q (8 + 5 * i_2)))]) SS.1 SS.2.1 dX11_isNewHeap_58 hl (k := 4) rfl (J_add _ _) (by decide) rfl (fun ls hl => ?_)
                refine lv_goto (tgt := 24) SS.1 SS.2.1 dX11_isNewHeap_61 (by decide) ?_
                exact ih_24 (j + 1) ls (lv_sub hl [2, 3, 4, 0] rfl) (by omega) (by omega)
              · skip
                refine j_iconst SS dX11_isNewHeap_56 ?_
                exact W.zret SS.1 SS.2.1 hr (j_nz (by decide)) (fun t0 ht hW => ⟨_, rfl, ⟨0, rfl, (by omega)⟩, ht⟩) (fun _ h => nomatch h) dX11_isNewHeap_57 hlk
            · skip
              refine lv_astoreN (lv' := [(4, .null), (0, .ref (q 0)), (1, .int (J i)), (2, .ref (q (8 + 5 * i_2))), (3, .int (J j))]) SS.1 SS.2.1 dX11_isNewHeap_34 hl (by decide) rfl (fun ls hl => ?_)
              refine lv_aloadN SS.1 SS.2.1 dX11_isNewHeap_36 (lv_at hl 0 rfl) ?_
              refine lv_ifnullN SS.1 SS.2.1 (tgt := 58) dX11_isNewHeap_38 (by decide) ?_
              refine lv_iinc (v := J (j + 1)) (lv' := [(3, .int (J (j + 1))), (4, .null), (0, .ref (q 0)), (1, .int (J i)), (2, .ref (q (8 + 5 * i_2)))]) SS.1 SS.2.1 dX11_isNewHeap_58 hl (k := 4) rfl (J_add _ _) (by decide) rfl (fun ls hl => ?_)
              refine lv_goto (tgt := 24) SS.1 SS.2.1 dX11_isNewHeap_61 (by decide) ?_
              exact ih_24 (j + 1) ls (lv_sub hl [2, 3, 4, 0] rfl) (by omega) (by omega)
      exact L_24 ((i - (0 : Int)).toNat + 1) 0 ls (lv_sub hl [2, 3, 1, 0] rfl) (by omega) (Nat.lt_succ_self _)
    · skip
      refine j_iconst SS dX11_isNewHeap_20 ?_
      exact W.zret SS.1 SS.2.1 hr (j_nz (by decide)) (fun t0 ht hW => ⟨_, rfl, ⟨0, rfl, (by omega)⟩, ht⟩) (fun _ h => nomatch h) dX11_isNewHeap_21 hlk
  · skip
    refine lv_astore_nN (lv' := [(2, .null), (0, .ref (q 0)), (1, .int (J i))]) SS.1 SS.2.1 dX11_isNewHeap_5 rfl hl (by decide) rfl (fun ls hl => ?_)
    refine lv_aload_nN SS.1 SS.2.1 dX11_isNewHeap_6 rfl (lv_at hl 0 rfl) ?_
    refine lv_ifnullN SS.1 SS.2.1 (tgt := 20) dX11_isNewHeap_7 (by decide) ?_
    refine j_iconst SS dX11_isNewHeap_20 ?_
    exact W.zret SS.1 SS.2.1 hr (j_nz (by decide)) (fun t0 ht hW => ⟨_, rfl, ⟨0, rfl, (by omega)⟩, ht⟩) (fun _ h => nomatch h) dX11_isNewHeap_21 hlk

set_option maxHeartbeats 4000000 in
set_option maxRecDepth 100000 in
theorem c_X11_heaps (l : Launch) (D : JD) (q : Nat → Nat) (u : CS) (p0 : CI u) : Met l yX11_heaps (jw yX11_heaps cX11_heaps 3 (some .int)) (jr 6 134) (jP [.ref (q 0)] D (fun H => va_P D.1 j_cl (cW D q u) H)) (jRi (fun z => True)) 0 0 (fun _ => False) := by
  refine Met.ofW (cc := cX11_heaps) (maxL := 3) (ret := (some .int)) (by decide) rfl ?_
  intro pr en st mi args below meth co s₁ B hml hv
  obtain ⟨rfl, hG, hP⟩ := hv
  have hr := B.returns
  have hlk := B.notSynchronized
  have SS : jS pr mi co cX11_heaps 3 st _ RX11 := ⟨B.exec, B.bytes, hml, findClass_of_methodNamed B.named, fun w hw => atoms_spec (ws := (jw yX11_heaps cX11_heaps 3 (some .int))) B.pre w (List.mem_cons_of_mem _ hw)⟩
  have hl := lv_entry ([.ref (q 0)]) (n := 3) (Nat.le_of_ble_eq_true rfl)
  rw [lg_entry_eq]
  generalize (lg_sl ([.ref (q 0)]) ++ List.replicate (3 - (lg_sl ([.ref (q 0)])).length) Slot.unset).toArray = ls at hl ⊢
  have hl : lv_has ls 3 [(0, .ref (q 0))] := hl
  refine j_iconst SS dX11_heaps_0 ?_
  refine lv_istore_n (lv' := [(1, .int (J 0)), (0, .ref (q 0))]) SS.1 SS.2.1 dX11_heaps_1 rfl hl (by decide) rfl (fun ls hl => ?_)
  refine j_iconst SS dX11_heaps_2 ?_
  refine lv_istore_n (lv' := [(2, .int (J 0)), (1, .int (J 0)), (0, .ref (q 0))]) SS.1 SS.2.1 dX11_heaps_3 rfl hl (by decide) rfl (fun ls hl => ?_)
  have L_4 : ∀ (nn : Nat) (fd : Int) (i : Int) (ls : Array Slot) (hl : lv_has ls 3 [(0, .ref (q 0)), (1, .int (J fd)), (2, .int (J i))]) (i4_0 : 0 ≤ i ∧ i ≤ 8) (i4_1 : 0 ≤ fd ∧ fd ≤ i), ((8 : Int) - i).toNat < nn → W pr l en (headSpec (jw yX11_heaps cX11_heaps 3 (some .int)) (jr 6 134)).room st mi (([.ref (q 0)] : List Value).toArray) below meth co st.heap [] 0 0 (MQ below (jRi (fun z => True)) (([.ref (q 0)] : List Value).toArray) st 0 0 (fun _ => False)) (F0 mi 4 ls []) := by
    intro nn
    induction nn with
    | zero => intros; omega
    | succ nn ih_4 =>
      intro fd i ls hl i4_0 i4_1 hm
      refine lv_iload_n SS.1 SS.2.1 dX11_heaps_4 rfl (lv_at hl 2 rfl) ?_
      refine j_bipush SS dX11_heaps_5 (by decide +kernel) ?_
      refine j_icmp_ge SS (tgt := 27) (x := i) (y := 8) dX11_heaps_7 (by decide) (by omega) (by decide) (fun c_7 => ?_) (fun c_7 => ?_)
      · skip
        refine lv_iload_n SS.1 SS.2.1 dX11_heaps_27 rfl (lv_at hl 1 rfl) ?_
        exact W.iret SS.1 SS.2.1 hr (fun t0 ht hW => ⟨_, rfl, ⟨fd, rfl, (trivial)⟩, ht⟩) (fun _ h => nomatch h) dX11_heaps_28 hlk
      · skip
        refine lv_aload_n SS.1 SS.2.1 dX11_heaps_10 rfl (lv_at hl 0 rfl) ?_
        refine lv_iload_n SS.1 SS.2.1 dX11_heaps_11 rfl (lv_at hl 2 rfl) ?_
        refine j_vRi SS (As := [.int (J i)]) (rest := []) (c_X11_isNewHeap l D q u  i (show CI u from (p0)) (show 0 ≤ i ∧ i ≤ 7 from (by omega))) mf_X11_isNewHeap kw_678 hG hP hP (ci := 11) (q0 := 0) rfl rfl rfl rfl hl.1 ⟨⟨Nat.le_of_ble_eq_true rfl, Nat.le_of_ble_eq_true rfl⟩, Nat.le_of_ble_eq_true rfl, Nat.le_refl _, Nat.le_refl _⟩ rfl dX11_heaps_12 (fun z_12 h_12 => ?_)
        have h_12 : z_12 = 0 ∨ z_12 = 1 := h_12
        refine j_if_eq SS (tgt := 21) (x := z_12) dX11_heaps_15 (by decide) (by omega) (fun c_15 => ?_) (fun c_15 => ?_)
        · skip
          refine lv_iinc (v := J (i + 1)) (lv' := [(2, .int (J (i + 1))), (0, .ref (q 0)), (1, .int (J fd))]) SS.1 SS.2.1 dX11_heaps_21 hl (k := 2) rfl (J_add _ _) (by decide) rfl (fun ls hl => ?_)
          refine lv_goto (tgt := 4) SS.1 SS.2.1 dX11_heaps_24 (by decide) ?_
          exact ih_4 fd (i + 1) ls (lv_sub hl [1, 2, 0] rfl) (by omega) (by omega) (by omega)
        · skip
          refine lv_iinc (v := J (fd + 1)) (lv' := [(1, .int (J (fd + 1))), (0, .ref (q 0)), (2, .int (J i))]) SS.1 SS.2.1 dX11_heaps_18 hl (k := 1) rfl (J_add _ _) (by decide) rfl (fun ls hl => ?_)
          refine lv_iinc (v := J (i + 1)) (lv' := [(2, .int (J (i + 1))), (1, .int (J (fd + 1))), (0, .ref (q 0))]) SS.1 SS.2.1 dX11_heaps_21 hl (k := 2) rfl (J_add _ _) (by decide) rfl (fun ls hl => ?_)
          refine lv_goto (tgt := 4) SS.1 SS.2.1 dX11_heaps_24 (by decide) ?_
          exact ih_4 (fd + 1) (i + 1) ls (lv_sub hl [2, 1, 0] rfl) (by omega) (by omega) (by omega)
  exact L_4 (((8 : Int) - (0 : Int)).toNat + 1) 0 0 ls (lv_sub hl [2, 1, 0] rfl) (by omega) (by omega) (Nat.lt_succ_self _)

set_option maxHeartbeats 4000000 in
set_option maxRecDepth 100000 in
theorem c_X11_maps (l : Launch) (D : JD) (q : Nat → Nat) (u : CS) (s : Int) (s2 : Int) (p0 : CI u) (p1 : -2147483648 ≤ s ∧ s ≤ 2147483647) (p2 : -2147483648 ≤ s2 ∧ s2 ≤ 2147483647) : Met l yX11_maps (jw yX11_maps cX11_maps 5 (some .int)) (jr 4 89) (jP [.ref (q 0), .int (J s), .int (J s2)] D (fun H => va_P D.1 j_cl (cW D q u) H)) (jRi (fun z => True)) 0 0 (fun _ => False) := by
  refine Met.ofW (cc := cX11_maps) (maxL := 5) (ret := (some .int)) (by decide) rfl ?_
  intro pr en st mi args below meth co s₁ B hml hv
  obtain ⟨rfl, hG, hP⟩ := hv
  have hr := B.returns
  have hlk := B.notSynchronized
  have SS : jS pr mi co cX11_maps 5 st _ RX11 := ⟨B.exec, B.bytes, hml, findClass_of_methodNamed B.named, fun w hw => atoms_spec (ws := (jw yX11_maps cX11_maps 5 (some .int))) B.pre w (List.mem_cons_of_mem _ hw)⟩
  have hl := lv_entry ([.ref (q 0), .int (J s), .int (J s2)]) (n := 5) (Nat.le_of_ble_eq_true rfl)
  rw [lg_entry_eq]
  generalize (lg_sl ([.ref (q 0), .int (J s), .int (J s2)]) ++ List.replicate (5 - (lg_sl ([.ref (q 0), .int (J s), .int (J s2)])).length) Slot.unset).toArray = ls at hl ⊢
  have hl : lv_has ls 5 [(0, .ref (q 0)), (1, .int (J s)), (2, .int (J s2))] := hl
  refine lv_aload_n SS.1 SS.2.1 dX11_maps_0 rfl (lv_at hl 0 rfl) ?_
  refine lv_iload_n SS.1 SS.2.1 dX11_maps_1 rfl (lv_at hl 1 rfl) ?_
  refine j_vSh SS (As := [.int (J s)]) (rest := []) (c_X11_shapeAt l D q u  s (show -2147483648 ≤ s ∧ s ≤ 2147483647 from (p1))) mf_X11_shapeAt kw_414 hG hP hP (ci := 11) (q0 := 0) rfl rfl rfl rfl hl.1 ⟨⟨Nat.le_of_ble_eq_true rfl, Nat.le_of_ble_eq_true rfl⟩, Nat.le_of_ble_eq_true rfl, Nat.le_refl _, Nat.le_refl _⟩ rfl dX11_maps_2 (fun i_2 hi_2 hz_2 => ?_) (fun hn_2 => ?_)
  · skip
    have hI2 := CI_s p0 (show i_2 < 8 by omega)
    have hI2c := hI2.1
    have hrl2 := rl_s (show i_2 < 8 by omega)
    refine lv_astore_n (lv' := [(3, .ref (q (8 + 5 * i_2))), (0, .ref (q 0)), (1, .int (J s)), (2, .int (J s2))]) SS.1 SS.2.1 dX11_maps_5 rfl hl (by decide) rfl (fun ls hl => ?_)
    refine lv_aload_n SS.1 SS.2.1 dX11_maps_6 rfl (lv_at hl 1 rfl) ?_
    refine lv_iload_n SS.1 SS.2.1 dX11_maps_7 rfl (lv_at hl 3 rfl) ?_
    refine j_vSh SS (As := [.int (J s2)]) (rest := []) (c_X11_shapeAt l D q u  s2 (show -2147483648 ≤ s2 ∧ s2 ≤ 2147483647 from (p2))) mf_X11_shapeAt kw_414 hG hP hP (ci := 11) (q0 := 0) rfl rfl rfl rfl hl.1 ⟨⟨Nat.le_of_ble_eq_true rfl, Nat.le_of_ble_eq_true rfl⟩, Nat.le_of_ble_eq_true rfl, Nat.le_refl _, Nat.le_refl _⟩ rfl dX11_maps_8 (fun i_8 hi_8 hz_8 => ?_) (fun hn_8 => ?_)
    · skip
      refine lv_astore (lv' := [(4, .ref (q (8 + 5 * i_8))), (3, .ref (q (8 + 5 * i_2))), (0, .ref (q 0)), (1, .int (J s)), (2, .int (J s2))]) SS.1 SS.2.1 dX11_maps_11 hl (by decide) rfl (fun ls hl => ?_)
      refine lv_aload_n SS.1 SS.2.1 dX11_maps_13 rfl (lv_at hl 1 rfl) ?_
      refine lv_ifnull SS.1 SS.2.1 dX11_maps_14 ?_
      refine lv_aload SS.1 SS.2.1 dX11_maps_17 (lv_at hl 0 rfl) ?_
      refine lv_ifnonnull SS.1 SS.2.1 (tgt := 24) dX11_maps_19 (by decide) ?_
      refine lv_aload_n SS.1 SS.2.1 dX11_maps_24 rfl (lv_at hl 1 rfl) ?_
      refine j_get SS hG hP (8 + 5 * i_2) (v := .ref (q (9 + 5 * i_2))) (C := RX10) (T := TX10) (N := 3) (cw_shape (by omega)) rfl inX10 0 (by decide) (ref := "GridPolygons$Shape") kw_151 rfl rfl dX11_maps_25 ?_
      refine j_vRi SS (As := []) (rest := []) (c_X7_isPolygon l D q u i_2 (by omega) (40 : Int)  (show 0 ≤ (40 : Int) ∧ (40 : Int) ≤ 80 from (by omega)) (show RB (40 : Int) u i_2 from (CI_40 p0 (by omega)))) mf_X7_isPolygon kw_568 hG hP hP (ci := 7) (q0 := (9 + 5 * i_2)) rfl (cw_ring (by omega)) rfl rfl hl.1 ⟨⟨Nat.le_of_ble_eq_true rfl, Nat.le_of_ble_eq_true rfl⟩, Nat.le_of_ble_eq_true rfl, Nat.le_refl _, Nat.le_refl _⟩ rfl dX11_maps_28 (fun z_28 h_28 => ?_)
      have h_28 : (z_28 = 1 ∧ 3 ≤ (u.1.2.2.1 i_2)) ∨ (z_28 = 0 ∧ (u.1.2.2.1 i_2) < 3) := h_28
      refine j_if_eq SS (tgt := 45) (x := z_28) dX11_maps_31 (by decide) (by omega) (fun c_31 => ?_) (fun c_31 => ?_)
      · skip
        refine j_bipush SS dX11_maps_45 (by decide +kernel) ?_
        exact W.iret SS.1 SS.2.1 hr (fun t0 ht hW => ⟨_, rfl, ⟨(-2), rfl, (trivial)⟩, ht⟩) (fun _ h => nomatch h) dX11_maps_47 hlk
      · skip
        refine lv_aload SS.1 SS.2.1 dX11_maps_34 (lv_at hl 0 rfl) ?_
        refine j_get SS hG hP (8 + 5 * i_8) (v := .ref (q (9 + 5 * i_8))) (C := RX10) (T := TX10) (N := 3) (cw_shape (by omega)) rfl inX10 0 (by decide) (ref := "GridPolygons$Shape") kw_151 rfl rfl dX11_maps_36 ?_
        refine j_vRi SS (As := []) (rest := []) (c_X7_isPolygon l D q u i_8 (by omega) (40 : Int)  (show 0 ≤ (40 : Int) ∧ (40 : Int) ≤ 80 from (by omega)) (show RB (40 : Int) u i_8 from (CI_40 p0 (by omega)))) mf_X7_isPolygon kw_568 hG hP hP (ci := 7) (q0 := (9 + 5 * i_8)) rfl (cw_ring (by omega)) rfl rfl hl.1 ⟨⟨Nat.le_of_ble_eq_true rfl, Nat.le_of_ble_eq_true rfl⟩, Nat.le_of_ble_eq_true rfl, Nat.le_refl _, Nat.le_refl _⟩ rfl dX11_maps_39 (fun z_39 h_39 => ?_)
        have h_39 : (z_39 = 1 ∧ 3 ≤ (u.1.2.2.1 i_8)) ∨ (z_39 = 0 ∧ (u.1.2.2.1 i_8) < 3) := h_39
        refine j_if_ne SS (tgt := 48) (x := z_39) dX11_maps_42 (by decide) (by omega) (fun c_42 => ?_) (fun c_42 => ?_)
        · skip
          refine lv_aload_n SS.1 SS.2.1 dX11_maps_48 rfl (lv_at hl 1 rfl) ?_
          refine j_get SS hG hP (8 + 5 * i_2) (v := .ref (q (9 + 5 * i_2))) (C := RX10) (T := TX10) (N := 3) (cw_shape (by omega)) rfl inX10 0 (by decide) (ref := "GridPolygons$Shape") kw_151 rfl rfl dX11_maps_49 ?_
          refine lv_aload SS.1 SS.2.1 dX11_maps_52 (lv_at hl 0 rfl) ?_
          refine j_get SS hG hP (8 + 5 * i_8) (v := .ref (q (9 + 5 * i_8))) (C := RX10) (T := TX10) (N := 3) (cw_shape (by omega)) rfl inX10 0 (by decide) (ref := "GridPolygons$Shape") kw_151 rfl rfl dX11_maps_54 ?_
          refine j_sRi SS (As := [.ref (q (9 + 5 * i_2)), .ref (q (9 + 5 * i_8))]) (rest := []) (c_X11_mapsBetween l D q u i_2 (by omega) i_8 (by omega)  (show RB 40 u i_2 from (CI_40 p0 (by omega))) (show RB 40 u i_8 from (CI_40 p0 (by omega)))) mf_X11_mapsBetween kw_660 hG hP rfl hl.1 ⟨⟨Nat.le_of_ble_eq_true rfl, Nat.le_of_ble_eq_true rfl⟩, Nat.le_of_ble_eq_true rfl, Nat.le_refl _, Nat.le_refl _⟩ rfl dX11_maps_57 (fun z_57 h_57 => ?_)
          have h_57 : 0 ≤ z_57 ∧ z_57 ≤ 800 := h_57
          exact W.iret SS.1 SS.2.1 hr (fun t0 ht hW => ⟨_, rfl, ⟨z_57, rfl, (trivial)⟩, ht⟩) (fun _ h => nomatch h) dX11_maps_60 hlk
        · skip
          refine j_bipush SS dX11_maps_45 (by decide +kernel) ?_
          exact W.iret SS.1 SS.2.1 hr (fun t0 ht hW => ⟨_, rfl, ⟨(-2), rfl, (trivial)⟩, ht⟩) (fun _ h => nomatch h) dX11_maps_47 hlk
    · skip
      refine lv_astoreN (lv' := [(4, .null), (3, .ref (q (8 + 5 * i_2))), (0, .ref (q 0)), (1, .int (J s)), (2, .int (J s2))]) SS.1 SS.2.1 dX11_maps_11 hl (by decide) rfl (fun ls hl => ?_)
      refine lv_aload_n SS.1 SS.2.1 dX11_maps_13 rfl (lv_at hl 1 rfl) ?_
      refine lv_ifnull SS.1 SS.2.1 dX11_maps_14 ?_
      refine lv_aloadN SS.1 SS.2.1 dX11_maps_17 (lv_at hl 0 rfl) ?_
      refine lv_ifnonnullN SS.1 SS.2.1 dX11_maps_19 ?_
      refine j_iconst SS dX11_maps_22 ?_
      exact W.iret SS.1 SS.2.1 hr (fun t0 ht hW => ⟨_, rfl, ⟨(-1), rfl, (trivial)⟩, ht⟩) (fun _ h => nomatch h) dX11_maps_23 hlk
  · skip
    refine lv_astore_nN (lv' := [(3, .null), (0, .ref (q 0)), (1, .int (J s)), (2, .int (J s2))]) SS.1 SS.2.1 dX11_maps_5 rfl hl (by decide) rfl (fun ls hl => ?_)
    refine lv_aload_n SS.1 SS.2.1 dX11_maps_6 rfl (lv_at hl 1 rfl) ?_
    refine lv_iload_n SS.1 SS.2.1 dX11_maps_7 rfl (lv_at hl 3 rfl) ?_
    refine j_vSh SS (As := [.int (J s2)]) (rest := []) (c_X11_shapeAt l D q u  s2 (show -2147483648 ≤ s2 ∧ s2 ≤ 2147483647 from (p2))) mf_X11_shapeAt kw_414 hG hP hP (ci := 11) (q0 := 0) rfl rfl rfl rfl hl.1 ⟨⟨Nat.le_of_ble_eq_true rfl, Nat.le_of_ble_eq_true rfl⟩, Nat.le_of_ble_eq_true rfl, Nat.le_refl _, Nat.le_refl _⟩ rfl dX11_maps_8 (fun i_8 hi_8 hz_8 => ?_) (fun hn_8 => ?_)
    · skip
      refine lv_astore (lv' := [(4, .ref (q (8 + 5 * i_8))), (3, .null), (0, .ref (q 0)), (1, .int (J s)), (2, .int (J s2))]) SS.1 SS.2.1 dX11_maps_11 hl (by decide) rfl (fun ls hl => ?_)
      refine lv_aload_nN SS.1 SS.2.1 dX11_maps_13 rfl (lv_at hl 1 rfl) ?_
      refine lv_ifnullN SS.1 SS.2.1 (tgt := 22) dX11_maps_14 (by decide) ?_
      refine j_iconst SS dX11_maps_22 ?_
      exact W.iret SS.1 SS.2.1 hr (fun t0 ht hW => ⟨_, rfl, ⟨(-1), rfl, (trivial)⟩, ht⟩) (fun _ h => nomatch h) dX11_maps_23 hlk
    · skip
      refine lv_astoreN (lv' := [(4, .null), (3, .null), (0, .ref (q 0)), (1, .int (J s)), (2, .int (J s2))]) SS.1 SS.2.1 dX11_maps_11 hl (by decide) rfl (fun ls hl => ?_)
      refine lv_aload_nN SS.1 SS.2.1 dX11_maps_13 rfl (lv_at hl 1 rfl) ?_
      refine lv_ifnullN SS.1 SS.2.1 (tgt := 22) dX11_maps_14 (by decide) ?_
      refine j_iconst SS dX11_maps_22 ?_
      exact W.iret SS.1 SS.2.1 hr (fun t0 ht hW => ⟨_, rfl, ⟨(-1), rfl, (trivial)⟩, ht⟩) (fun _ h => nomatch h) dX11_maps_23 hlk

set_option maxHeartbeats 4000000 in
set_option maxRecDepth 100000 in
theorem c_X11_alike (l : Launch) (D : JD) (q : Nat → Nat) (u : CS) (s : Int) (s2 : Int) (p0 : CI u) (p1 : -2147483648 ≤ s ∧ s ≤ 2147483647) (p2 : -2147483648 ≤ s2 ∧ s2 ≤ 2147483647) : Met l yX11_alike (jw yX11_alike cX11_alike 5 (some .int)) (jr 5 110) (jP [.ref (q 0), .int (J s), .int (J s2)] D (fun H => va_P D.1 j_cl (cW D q u) H)) (jRi (fun z => True)) 0 0 (fun _ => False) := by
  refine Met.ofW (cc := cX11_alike) (maxL := 5) (ret := (some .int)) (by decide) rfl ?_
  intro pr en st mi args below meth co s₁ B hml hv
  obtain ⟨rfl, hG, hP⟩ := hv
  have hr := B.returns
  have hlk := B.notSynchronized
  have SS : jS pr mi co cX11_alike 5 st _ RX11 := ⟨B.exec, B.bytes, hml, findClass_of_methodNamed B.named, fun w hw => atoms_spec (ws := (jw yX11_alike cX11_alike 5 (some .int))) B.pre w (List.mem_cons_of_mem _ hw)⟩
  have hl := lv_entry ([.ref (q 0), .int (J s), .int (J s2)]) (n := 5) (Nat.le_of_ble_eq_true rfl)
  rw [lg_entry_eq]
  generalize (lg_sl ([.ref (q 0), .int (J s), .int (J s2)]) ++ List.replicate (5 - (lg_sl ([.ref (q 0), .int (J s), .int (J s2)])).length) Slot.unset).toArray = ls at hl ⊢
  have hl : lv_has ls 5 [(0, .ref (q 0)), (1, .int (J s)), (2, .int (J s2))] := hl
  refine lv_aload_n SS.1 SS.2.1 dX11_alike_0 rfl (lv_at hl 0 rfl) ?_
  refine lv_iload_n SS.1 SS.2.1 dX11_alike_1 rfl (lv_at hl 1 rfl) ?_
  refine j_vSh SS (As := [.int (J s)]) (rest := []) (c_X11_shapeAt l D q u  s (show -2147483648 ≤ s ∧ s ≤ 2147483647 from (p1))) mf_X11_shapeAt kw_414 hG hP hP (ci := 11) (q0 := 0) rfl rfl rfl rfl hl.1 ⟨⟨Nat.le_of_ble_eq_true rfl, Nat.le_of_ble_eq_true rfl⟩, Nat.le_of_ble_eq_true rfl, Nat.le_refl _, Nat.le_refl _⟩ rfl dX11_alike_2 (fun i_2 hi_2 hz_2 => ?_) (fun hn_2 => ?_)
  · skip
    have hI2 := CI_s p0 (show i_2 < 8 by omega)
    have hI2c := hI2.1
    have hrl2 := rl_s (show i_2 < 8 by omega)
    refine lv_astore_n (lv' := [(3, .ref (q (8 + 5 * i_2))), (0, .ref (q 0)), (1, .int (J s)), (2, .int (J s2))]) SS.1 SS.2.1 dX11_alike_5 rfl hl (by decide) rfl (fun ls hl => ?_)
    refine lv_aload_n SS.1 SS.2.1 dX11_alike_6 rfl (lv_at hl 1 rfl) ?_
    refine lv_iload_n SS.1 SS.2.1 dX11_alike_7 rfl (lv_at hl 3 rfl) ?_
    refine j_vSh SS (As := [.int (J s2)]) (rest := []) (c_X11_shapeAt l D q u  s2 (show -2147483648 ≤ s2 ∧ s2 ≤ 2147483647 from (p2))) mf_X11_shapeAt kw_414 hG hP hP (ci := 11) (q0 := 0) rfl rfl rfl rfl hl.1 ⟨⟨Nat.le_of_ble_eq_true rfl, Nat.le_of_ble_eq_true rfl⟩, Nat.le_of_ble_eq_true rfl, Nat.le_refl _, Nat.le_refl _⟩ rfl dX11_alike_8 (fun i_8 hi_8 hz_8 => ?_) (fun hn_8 => ?_)
    · skip
      refine lv_astore (lv' := [(4, .ref (q (8 + 5 * i_8))), (3, .ref (q (8 + 5 * i_2))), (0, .ref (q 0)), (1, .int (J s)), (2, .int (J s2))]) SS.1 SS.2.1 dX11_alike_11 hl (by decide) rfl (fun ls hl => ?_)
      refine lv_aload_n SS.1 SS.2.1 dX11_alike_13 rfl (lv_at hl 1 rfl) ?_
      refine lv_ifnull SS.1 SS.2.1 dX11_alike_14 ?_
      refine lv_aload SS.1 SS.2.1 dX11_alike_17 (lv_at hl 0 rfl) ?_
      refine lv_ifnonnull SS.1 SS.2.1 (tgt := 24) dX11_alike_19 (by decide) ?_
      refine lv_aload_n SS.1 SS.2.1 dX11_alike_24 rfl (lv_at hl 1 rfl) ?_
      refine j_get SS hG hP (8 + 5 * i_2) (v := .ref (q (9 + 5 * i_2))) (C := RX10) (T := TX10) (N := 3) (cw_shape (by omega)) rfl inX10 0 (by decide) (ref := "GridPolygons$Shape") kw_151 rfl rfl dX11_alike_25 ?_
      refine lv_aload SS.1 SS.2.1 dX11_alike_28 (lv_at hl 0 rfl) ?_
      refine j_get SS hG hP (8 + 5 * i_8) (v := .ref (q (9 + 5 * i_8))) (C := RX10) (T := TX10) (N := 3) (cw_shape (by omega)) rfl inX10 0 (by decide) (ref := "GridPolygons$Shape") kw_151 rfl rfl dX11_alike_30 ?_
      refine j_sRi SS (As := [.ref (q (9 + 5 * i_2)), .ref (q (9 + 5 * i_8))]) (rest := []) (c_X11_areAlike l D q u i_2 (by omega) i_8 (by omega)  (show RB 40 u i_2 from (CI_40 p0 (by omega))) (show RB 40 u i_8 from (CI_40 p0 (by omega)))) mf_X11_areAlike kw_671 hG hP rfl hl.1 ⟨⟨Nat.le_of_ble_eq_true rfl, Nat.le_of_ble_eq_true rfl⟩, Nat.le_of_ble_eq_true rfl, Nat.le_refl _, Nat.le_refl _⟩ rfl dX11_alike_33 (fun z_33 h_33 => ?_)
      have h_33 : z_33 = 0 ∨ z_33 = 1 := h_33
      refine j_if_eq SS (tgt := 43) (x := z_33) dX11_alike_36 (by decide) (by omega) (fun c_36 => ?_) (fun c_36 => ?_)
      · skip
        refine j_iconst SS dX11_alike_43 ?_
        exact W.iret SS.1 SS.2.1 hr (fun t0 ht hW => ⟨_, rfl, ⟨0, rfl, (trivial)⟩, ht⟩) (fun _ h => nomatch h) dX11_alike_44 hlk
      · skip
        refine j_iconst SS dX11_alike_39 ?_
        refine lv_goto (tgt := 44) SS.1 SS.2.1 dX11_alike_40 (by decide) ?_
        exact W.iret SS.1 SS.2.1 hr (fun t0 ht hW => ⟨_, rfl, ⟨1, rfl, (trivial)⟩, ht⟩) (fun _ h => nomatch h) dX11_alike_44 hlk
    · skip
      refine lv_astoreN (lv' := [(4, .null), (3, .ref (q (8 + 5 * i_2))), (0, .ref (q 0)), (1, .int (J s)), (2, .int (J s2))]) SS.1 SS.2.1 dX11_alike_11 hl (by decide) rfl (fun ls hl => ?_)
      refine lv_aload_n SS.1 SS.2.1 dX11_alike_13 rfl (lv_at hl 1 rfl) ?_
      refine lv_ifnull SS.1 SS.2.1 dX11_alike_14 ?_
      refine lv_aloadN SS.1 SS.2.1 dX11_alike_17 (lv_at hl 0 rfl) ?_
      refine lv_ifnonnullN SS.1 SS.2.1 dX11_alike_19 ?_
      refine j_iconst SS dX11_alike_22 ?_
      exact W.iret SS.1 SS.2.1 hr (fun t0 ht hW => ⟨_, rfl, ⟨(-1), rfl, (trivial)⟩, ht⟩) (fun _ h => nomatch h) dX11_alike_23 hlk
  · skip
    refine lv_astore_nN (lv' := [(3, .null), (0, .ref (q 0)), (1, .int (J s)), (2, .int (J s2))]) SS.1 SS.2.1 dX11_alike_5 rfl hl (by decide) rfl (fun ls hl => ?_)
    refine lv_aload_n SS.1 SS.2.1 dX11_alike_6 rfl (lv_at hl 1 rfl) ?_
    refine lv_iload_n SS.1 SS.2.1 dX11_alike_7 rfl (lv_at hl 3 rfl) ?_
    refine j_vSh SS (As := [.int (J s2)]) (rest := []) (c_X11_shapeAt l D q u  s2 (show -2147483648 ≤ s2 ∧ s2 ≤ 2147483647 from (p2))) mf_X11_shapeAt kw_414 hG hP hP (ci := 11) (q0 := 0) rfl rfl rfl rfl hl.1 ⟨⟨Nat.le_of_ble_eq_true rfl, Nat.le_of_ble_eq_true rfl⟩, Nat.le_of_ble_eq_true rfl, Nat.le_refl _, Nat.le_refl _⟩ rfl dX11_alike_8 (fun i_8 hi_8 hz_8 => ?_) (fun hn_8 => ?_)
    · skip
      refine lv_astore (lv' := [(4, .ref (q (8 + 5 * i_8))), (3, .null), (0, .ref (q 0)), (1, .int (J s)), (2, .int (J s2))]) SS.1 SS.2.1 dX11_alike_11 hl (by decide) rfl (fun ls hl => ?_)
      refine lv_aload_nN SS.1 SS.2.1 dX11_alike_13 rfl (lv_at hl 1 rfl) ?_
      refine lv_ifnullN SS.1 SS.2.1 (tgt := 22) dX11_alike_14 (by decide) ?_
      refine j_iconst SS dX11_alike_22 ?_
      exact W.iret SS.1 SS.2.1 hr (fun t0 ht hW => ⟨_, rfl, ⟨(-1), rfl, (trivial)⟩, ht⟩) (fun _ h => nomatch h) dX11_alike_23 hlk
    · skip
      refine lv_astoreN (lv' := [(4, .null), (3, .null), (0, .ref (q 0)), (1, .int (J s)), (2, .int (J s2))]) SS.1 SS.2.1 dX11_alike_11 hl (by decide) rfl (fun ls hl => ?_)
      refine lv_aload_nN SS.1 SS.2.1 dX11_alike_13 rfl (lv_at hl 1 rfl) ?_
      refine lv_ifnullN SS.1 SS.2.1 (tgt := 22) dX11_alike_14 (by decide) ?_
      refine j_iconst SS dX11_alike_22 ?_
      exact W.iret SS.1 SS.2.1 hr (fun t0 ht hW => ⟨_, rfl, ⟨(-1), rfl, (trivial)⟩, ht⟩) (fun _ h => nomatch h) dX11_alike_23 hlk

set_option maxHeartbeats 4000000 in
set_option maxRecDepth 100000 in
theorem c_X4_weigh (l : Launch) (D : JD) (q : Nat → Nat) (u : CS) (A : Nat → Prop) (hD : va_D A (cW D q u)) (r : Nat) (hr : r ≤ 8) (a : Int) (b : Int) (p0 : RB 40 u r) (p1 : -20000 ≤ a ∧ a ≤ 20000) (p2 : -20000 ≤ b ∧ b ≤ 20000) (p3 : (0 ≤ u.2.2.2 1 ∧ u.2.2.2 1 ≤ 6400000) ∧ (-20000 ≤ u.2.2.2 2 ∧ u.2.2.2 2 ≤ 20000) ∧ -20000 ≤ u.2.2.2 3 ∧ u.2.2.2 3 ≤ 20000) : Met l yX4_weigh (jw yX4_weigh cX4_weigh 8 none) (jr 2 47) (jP [.ref (q 3), .ref (q (9 + 5 * r)), .int (J a), .int (J b)] D (fun H => va_P D.1 j_cl (cW D q u) H)) (jWv (fun u' => ∃ c1 : Int, ∃ a1 : Int, ∃ b1 : Int, u' = (sV (sV (sV u 1 c1) 2 a1) 3 b1) ∧ ((0 ≤ c1 ∧ c1 ≤ u.2.2.2 1) ∧ (-20000 ≤ a1 ∧ a1 ≤ 20000) ∧ -20000 ≤ b1 ∧ b1 ≤ 20000)) (fun u' H => va_P D.1 j_cl (cW D q u') H) A) 0 0 A := by
  refine Met.ofW (cc := cX4_weigh) (maxL := 8) (ret := none) (by decide) rfl ?_
  intro pr en st mi args below meth co s₁ B hml hv
  obtain ⟨rfl, hG, hP⟩ := hv
  have hr := B.returns
  have hlk := B.notSynchronized
  have SS : jS pr mi co cX4_weigh 8 st _ RX4 := ⟨B.exec, B.bytes, hml, findClass_of_methodNamed B.named, fun w hw => atoms_spec (ws := (jw yX4_weigh cX4_weigh 8 none)) B.pre w (List.mem_cons_of_mem _ hw)⟩
  have hl := lv_entry ([.ref (q 3), .ref (q (9 + 5 * r)), .int (J a), .int (J b)]) (n := 8) (Nat.le_of_ble_eq_true rfl)
  rw [lg_entry_eq]
  generalize (lg_sl ([.ref (q 3), .ref (q (9 + 5 * r)), .int (J a), .int (J b)]) ++ List.replicate (8 - (lg_sl ([.ref (q 3), .ref (q (9 + 5 * r)), .int (J a), .int (J b)])).length) Slot.unset).toArray = ls at hl ⊢
  have hl : lv_has ls 8 [(0, .ref (q 3)), (1, .ref (q (9 + 5 * r))), (2, .int (J a)), (3, .int (J b))] := hl
  have hS : va_S A st.heap st.heap [] := va_S.rf
  have hc := p0.1
  have hrl := rl_b r
  refine lv_iload_n SS.1 SS.2.1 dX4_weigh_0 rfl (lv_at hl 2 rfl) ?_
  refine j_if_ne SS (tgt := 9) (x := a) dX4_weigh_1 (by decide) (by omega) (fun c_1 => ?_) (fun c_1 => ?_)
  · skip
    refine lv_iload_n SS.1 SS.2.1 dX4_weigh_9 rfl (lv_at hl 2 rfl) ?_
    refine j_if_gt SS (tgt := 21) (x := a) dX4_weigh_10 (by decide) (by omega) (fun c_10 => ?_) (fun c_10 => ?_)
    · skip
      refine j_iconst SS dX4_weigh_21 ?_
      refine lv_goto (tgt := 26) SS.1 SS.2.1 dX4_weigh_22 (by decide) ?_
      refine lv_istore (lv' := [(4, .int (J 1)), (0, .ref (q 3)), (1, .ref (q (9 + 5 * r))), (2, .int (J a)), (3, .int (J b))]) SS.1 SS.2.1 dX4_weigh_26 hl (by decide) rfl (fun ls hl => ?_)
      refine lv_iload SS.1 SS.2.1 dX4_weigh_28 (lv_at hl 0 rfl) ?_
      refine j_if_eq SS (tgt := 37) dX4_weigh_30 (by decide) (by decide) (fun c_30 => absurd c_30 (by decide)) (fun c_30 => ?_)
      refine lv_iload_n SS.1 SS.2.1 dX4_weigh_33 rfl (lv_at hl 3 rfl) ?_
      refine lv_goto (tgt := 39) SS.1 SS.2.1 dX4_weigh_34 (by decide) ?_
      refine lv_istore (lv' := [(5, .int (J a)), (4, .int (J 1)), (0, .ref (q 3)), (1, .ref (q (9 + 5 * r))), (2, .int (J a)), (3, .int (J b))]) SS.1 SS.2.1 dX4_weigh_39 hl (by decide) rfl (fun ls hl => ?_)
      refine lv_iload SS.1 SS.2.1 dX4_weigh_41 (lv_at hl 1 rfl) ?_
      refine j_if_eq SS (tgt := 50) dX4_weigh_43 (by decide) (by decide) (fun c_43 => absurd c_43 (by decide)) (fun c_43 => ?_)
      refine lv_iload_n SS.1 SS.2.1 dX4_weigh_46 rfl (lv_at hl 5 rfl) ?_
      refine lv_goto (tgt := 52) SS.1 SS.2.1 dX4_weigh_47 (by decide) ?_
      refine lv_istore (lv' := [(6, .int (J b)), (5, .int (J a)), (4, .int (J 1)), (0, .ref (q 3)), (1, .ref (q (9 + 5 * r))), (2, .int (J a)), (3, .int (J b))]) SS.1 SS.2.1 dX4_weigh_52 hl (by decide) rfl (fun ls hl => ?_)
      refine lv_aload_n SS.1 SS.2.1 dX4_weigh_54 rfl (lv_at hl 4 rfl) ?_
      refine lv_iload SS.1 SS.2.1 dX4_weigh_55 (lv_at hl 1 rfl) ?_
      refine lv_iload SS.1 SS.2.1 dX4_weigh_57 (lv_at hl 0 rfl) ?_
      refine j_vRi SS (As := [.int (J a), .int (J b)]) (rest := []) (c_X7_across l D q u r (by omega) (40 : Int) a b (show 0 ≤ (40 : Int) ∧ (40 : Int) ≤ 80 from (by omega)) (show RB (40 : Int) u r from (p0)) (show -20000 ≤ a ∧ a ≤ 20000 from (p1)) (show -20000 ≤ b ∧ b ≤ 20000 from (p2))) mf_X7_across kw_643 hG hP hP (ci := 7) (q0 := (9 + 5 * r)) rfl (cw_ring (by omega)) rfl rfl hl.1 ⟨⟨Nat.le_of_ble_eq_true rfl, Nat.le_of_ble_eq_true rfl⟩, Nat.le_of_ble_eq_true rfl, Nat.le_refl _, Nat.le_refl _⟩ rfl dX4_weigh_59 (fun z_59 h_59 => ?_)
      have h_59 : 0 ≤ z_59 ∧ z_59 ≤ 6400000 ∧ (a = 0 → b = 1 → z_59 ≤ 2 * (40 : Int)) := h_59
      refine lv_istore (lv' := [(7, .int (J z_59)), (6, .int (J b)), (5, .int (J a)), (4, .int (J 1)), (0, .ref (q 3)), (1, .ref (q (9 + 5 * r))), (2, .int (J a)), (3, .int (J b))]) SS.1 SS.2.1 dX4_weigh_62 hl (by decide) rfl (fun ls hl => ?_)
      refine lv_iload SS.1 SS.2.1 dX4_weigh_64 (lv_at hl 0 rfl) ?_
      refine lv_aload_n SS.1 SS.2.1 dX4_weigh_66 rfl (lv_at hl 4 rfl) ?_
      refine j_get SS hG hP 3 (v := .int (J (u.2.2.2 1))) (C := RX4) (T := TX4) (N := 3) rfl rfl inX4 0 (by decide) (ref := "GridPolygons$LeastWidth") kw_194 rfl rfl dX4_weigh_67 ?_
      refine j_icmp_lt SS (tgt := 109) (x := z_59) (y := (u.2.2.2 1)) dX4_weigh_70 (by decide) (by omega) (by omega) (fun c_70 => ?_) (fun c_70 => ?_)
      · skip
        refine lv_aload_n SS.1 SS.2.1 dX4_weigh_109 rfl (lv_at hl 4 rfl) ?_
        refine lv_iload SS.1 SS.2.1 dX4_weigh_110 (lv_at hl 0 rfl) ?_
        refine j_put SS hG hP (cW_D hD) hS 3 (v := .int (J z_59)) (ty := .int) (C := RX4) (T := TX4) (N := 3) rfl rfl inX4 tyX4 tyX4_ok nmX4 0 (by decide) (ref := "GridPolygons$LeastWidth") kw_194 rfl rfl (by decide +kernel) rfl rfl (Nat.le_of_ble_eq_true rfl) dX4_weigh_112 (ws' := (cW D q (sV u 1 z_59))) rfl (fun H locs hP hS => ?_)
        refine lv_aload_n SS.1 SS.2.1 dX4_weigh_115 rfl (lv_at hl 4 rfl) ?_
        refine lv_iload SS.1 SS.2.1 dX4_weigh_116 (lv_at hl 2 rfl) ?_
        refine j_put SS hG hP (cW_D hD) hS 3 (v := .int (J a)) (ty := .int) (C := RX4) (T := TX4) (N := 3) rfl rfl inX4 tyX4 tyX4_ok nmX4 1 (by decide) (ref := "GridPolygons$LeastWidth") kw_196 rfl rfl (by decide +kernel) rfl rfl (Nat.le_of_ble_eq_true rfl) dX4_weigh_118 (ws' := (cW D q (sV (sV u 1 z_59) 2 a))) rfl (fun H locs hP hS => ?_)
        refine lv_aload_n SS.1 SS.2.1 dX4_weigh_121 rfl (lv_at hl 4 rfl) ?_
        refine lv_iload SS.1 SS.2.1 dX4_weigh_122 (lv_at hl 1 rfl) ?_
        refine j_put SS hG hP (cW_D hD) hS 3 (v := .int (J b)) (ty := .int) (C := RX4) (T := TX4) (N := 3) rfl rfl inX4 tyX4 tyX4_ok nmX4 2 (by decide) (ref := "GridPolygons$LeastWidth") kw_198 rfl rfl (by decide +kernel) rfl rfl (Nat.le_of_ble_eq_true rfl) dX4_weigh_124 (ws' := (cW D q (sV (sV (sV u 1 z_59) 2 a) 3 b))) rfl (fun H locs hP hS => ?_)
        exact W.vret SS.1 SS.2.1 hr (fun t0 ht hW => ⟨⟨(sV (sV (sV u 1 z_59) 2 a) 3 b), rfl, (⟨z_59, a, b, rfl, by omega⟩), by show va_P D.1 j_cl (cW D q (sV (sV (sV u 1 z_59) 2 a) 3 b)) t0.heap; rw [ht]; first | exact hP | (simp only [sC_id, sX_id, sY_id, sH_id, sT_id, sV_id]; exact hP)⟩, hS.F ht⟩) hS.2.2 dX4_weigh_127 hlk
      · skip
        refine lv_iload SS.1 SS.2.1 dX4_weigh_73 (lv_at hl 0 rfl) ?_
        refine lv_aload_n SS.1 SS.2.1 dX4_weigh_75 rfl (lv_at hl 4 rfl) ?_
        refine j_get SS hG hP 3 (v := .int (J (u.2.2.2 1))) (C := RX4) (T := TX4) (N := 3) rfl rfl inX4 0 (by decide) (ref := "GridPolygons$LeastWidth") kw_194 rfl rfl dX4_weigh_76 ?_
        refine j_icmp_ne SS (tgt := 127) (x := z_59) (y := (u.2.2.2 1)) dX4_weigh_79 (by decide) (by omega) (by omega) (fun c_79 => ?_) (fun c_79 => ?_)
        · skip
          exact W.vret SS.1 SS.2.1 hr (fun t0 ht hW => ⟨⟨(sV (sV (sV u 1 (u.2.2.2 1)) 2 (u.2.2.2 2)) 3 (u.2.2.2 3)), rfl, (⟨(u.2.2.2 1), (u.2.2.2 2), (u.2.2.2 3), rfl, by omega⟩), by show va_P D.1 j_cl (cW D q (sV (sV (sV u 1 (u.2.2.2 1)) 2 (u.2.2.2 2)) 3 (u.2.2.2 3))) t0.heap; rw [ht]; first | exact hP | (simp only [sC_id, sX_id, sY_id, sH_id, sT_id, sV_id]; exact hP)⟩, hS.F ht⟩) hS.2.2 dX4_weigh_127 hlk
        · skip
          refine lv_iload SS.1 SS.2.1 dX4_weigh_82 (lv_at hl 2 rfl) ?_
          refine lv_aload_n SS.1 SS.2.1 dX4_weigh_84 rfl (lv_at hl 4 rfl) ?_
          refine j_get SS hG hP 3 (v := .int (J (u.2.2.2 2))) (C := RX4) (T := TX4) (N := 3) rfl rfl inX4 1 (by decide) (ref := "GridPolygons$LeastWidth") kw_196 rfl rfl dX4_weigh_85 ?_
          refine j_icmp_lt SS (tgt := 109) (x := a) (y := (u.2.2.2 2)) dX4_weigh_88 (by decide) (by omega) (by omega) (fun c_88 => ?_) (fun c_88 => ?_)
          · skip
            refine lv_aload_n SS.1 SS.2.1 dX4_weigh_109 rfl (lv_at hl 4 rfl) ?_
            refine lv_iload SS.1 SS.2.1 dX4_weigh_110 (lv_at hl 0 rfl) ?_
            refine j_put SS hG hP (cW_D hD) hS 3 (v := .int (J z_59)) (ty := .int) (C := RX4) (T := TX4) (N := 3) rfl rfl inX4 tyX4 tyX4_ok nmX4 0 (by decide) (ref := "GridPolygons$LeastWidth") kw_194 rfl rfl (by decide +kernel) rfl rfl (Nat.le_of_ble_eq_true rfl) dX4_weigh_112 (ws' := (cW D q (sV u 1 z_59))) rfl (fun H locs hP hS => ?_)
            refine lv_aload_n SS.1 SS.2.1 dX4_weigh_115 rfl (lv_at hl 4 rfl) ?_
            refine lv_iload SS.1 SS.2.1 dX4_weigh_116 (lv_at hl 2 rfl) ?_
            refine j_put SS hG hP (cW_D hD) hS 3 (v := .int (J a)) (ty := .int) (C := RX4) (T := TX4) (N := 3) rfl rfl inX4 tyX4 tyX4_ok nmX4 1 (by decide) (ref := "GridPolygons$LeastWidth") kw_196 rfl rfl (by decide +kernel) rfl rfl (Nat.le_of_ble_eq_true rfl) dX4_weigh_118 (ws' := (cW D q (sV (sV u 1 z_59) 2 a))) rfl (fun H locs hP hS => ?_)
            refine lv_aload_n SS.1 SS.2.1 dX4_weigh_121 rfl (lv_at hl 4 rfl) ?_
            refine lv_iload SS.1 SS.2.1 dX4_weigh_122 (lv_at hl 1 rfl) ?_
            refine j_put SS hG hP (cW_D hD) hS 3 (v := .int (J b)) (ty := .int) (C := RX4) (T := TX4) (N := 3) rfl rfl inX4 tyX4 tyX4_ok nmX4 2 (by decide) (ref := "GridPolygons$LeastWidth") kw_198 rfl rfl (by decide +kernel) rfl rfl (Nat.le_of_ble_eq_true rfl) dX4_weigh_124 (ws' := (cW D q (sV (sV (sV u 1 z_59) 2 a) 3 b))) rfl (fun H locs hP hS => ?_)
            exact W.vret SS.1 SS.2.1 hr (fun t0 ht hW => ⟨⟨(sV (sV (sV u 1 z_59) 2 a) 3 b), rfl, (⟨z_59, a, b, rfl, by omega⟩), by show va_P D.1 j_cl (cW D q (sV (sV (sV u 1 z_59) 2 a) 3 b)) t0.heap; rw [ht]; first | exact hP | (simp only [sC_id, sX_id, sY_id, sH_id, sT_id, sV_id]; exact hP)⟩, hS.F ht⟩) hS.2.2 dX4_weigh_127 hlk
          · skip
            refine lv_iload SS.1 SS.2.1 dX4_weigh_91 (lv_at hl 2 rfl) ?_
            refine lv_aload_n SS.1 SS.2.1 dX4_weigh_93 rfl (lv_at hl 4 rfl) ?_
            refine j_get SS hG hP 3 (v := .int (J (u.2.2.2 2))) (C := RX4) (T := TX4) (N := 3) rfl rfl inX4 1 (by decide) (ref := "GridPolygons$LeastWidth") kw_196 rfl rfl dX4_weigh_94 ?_
            refine j_icmp_ne SS (tgt := 127) (x := a) (y := (u.2.2.2 2)) dX4_weigh_97 (by decide) (by omega) (by omega) (fun c_97 => ?_) (fun c_97 => ?_)
            · skip
              exact W.vret SS.1 SS.2.1 hr (fun t0 ht hW => ⟨⟨(sV (sV (sV u 1 (u.2.2.2 1)) 2 (u.2.2.2 2)) 3 (u.2.2.2 3)), rfl, (⟨(u.2.2.2 1), (u.2.2.2 2), (u.2.2.2 3), rfl, by omega⟩), by show va_P D.1 j_cl (cW D q (sV (sV (sV u 1 (u.2.2.2 1)) 2 (u.2.2.2 2)) 3 (u.2.2.2 3))) t0.heap; rw [ht]; first | exact hP | (simp only [sC_id, sX_id, sY_id, sH_id, sT_id, sV_id]; exact hP)⟩, hS.F ht⟩) hS.2.2 dX4_weigh_127 hlk
            · skip
              refine lv_iload SS.1 SS.2.1 dX4_weigh_100 (lv_at hl 1 rfl) ?_
              refine lv_aload_n SS.1 SS.2.1 dX4_weigh_102 rfl (lv_at hl 4 rfl) ?_
              refine j_get SS hG hP 3 (v := .int (J (u.2.2.2 3))) (C := RX4) (T := TX4) (N := 3) rfl rfl inX4 2 (by decide) (ref := "GridPolygons$LeastWidth") kw_198 rfl rfl dX4_weigh_103 ?_
              refine j_icmp_ge SS (tgt := 127) (x := b) (y := (u.2.2.2 3)) dX4_weigh_106 (by decide) (by omega) (by omega) (fun c_106 => ?_) (fun c_106 => ?_)
              · skip
                exact W.vret SS.1 SS.2.1 hr (fun t0 ht hW => ⟨⟨(sV (sV (sV u 1 (u.2.2.2 1)) 2 (u.2.2.2 2)) 3 (u.2.2.2 3)), rfl, (⟨(u.2.2.2 1), (u.2.2.2 2), (u.2.2.2 3), rfl, by omega⟩), by show va_P D.1 j_cl (cW D q (sV (sV (sV u 1 (u.2.2.2 1)) 2 (u.2.2.2 2)) 3 (u.2.2.2 3))) t0.heap; rw [ht]; first | exact hP | (simp only [sC_id, sX_id, sY_id, sH_id, sT_id, sV_id]; exact hP)⟩, hS.F ht⟩) hS.2.2 dX4_weigh_127 hlk
              · skip
                refine lv_aload_n SS.1 SS.2.1 dX4_weigh_109 rfl (lv_at hl 4 rfl) ?_
                refine lv_iload SS.1 SS.2.1 dX4_weigh_110 (lv_at hl 0 rfl) ?_
                refine j_put SS hG hP (cW_D hD) hS 3 (v := .int (J z_59)) (ty := .int) (C := RX4) (T := TX4) (N := 3) rfl rfl inX4 tyX4 tyX4_ok nmX4 0 (by decide) (ref := "GridPolygons$LeastWidth") kw_194 rfl rfl (by decide +kernel) rfl rfl (Nat.le_of_ble_eq_true rfl) dX4_weigh_112 (ws' := (cW D q (sV u 1 z_59))) rfl (fun H locs hP hS => ?_)
                refine lv_aload_n SS.1 SS.2.1 dX4_weigh_115 rfl (lv_at hl 4 rfl) ?_
                refine lv_iload SS.1 SS.2.1 dX4_weigh_116 (lv_at hl 2 rfl) ?_
                refine j_put SS hG hP (cW_D hD) hS 3 (v := .int (J a)) (ty := .int) (C := RX4) (T := TX4) (N := 3) rfl rfl inX4 tyX4 tyX4_ok nmX4 1 (by decide) (ref := "GridPolygons$LeastWidth") kw_196 rfl rfl (by decide +kernel) rfl rfl (Nat.le_of_ble_eq_true rfl) dX4_weigh_118 (ws' := (cW D q (sV (sV u 1 z_59) 2 a))) rfl (fun H locs hP hS => ?_)
                refine lv_aload_n SS.1 SS.2.1 dX4_weigh_121 rfl (lv_at hl 4 rfl) ?_
                refine lv_iload SS.1 SS.2.1 dX4_weigh_122 (lv_at hl 1 rfl) ?_
                refine j_put SS hG hP (cW_D hD) hS 3 (v := .int (J b)) (ty := .int) (C := RX4) (T := TX4) (N := 3) rfl rfl inX4 tyX4 tyX4_ok nmX4 2 (by decide) (ref := "GridPolygons$LeastWidth") kw_198 rfl rfl (by decide +kernel) rfl rfl (Nat.le_of_ble_eq_true rfl) dX4_weigh_124 (ws' := (cW D q (sV (sV (sV u 1 z_59) 2 a) 3 b))) rfl (fun H locs hP hS => ?_)
                exact W.vret SS.1 SS.2.1 hr (fun t0 ht hW => ⟨⟨(sV (sV (sV u 1 z_59) 2 a) 3 b), rfl, (⟨z_59, a, b, rfl, by omega⟩), by show va_P D.1 j_cl (cW D q (sV (sV (sV u 1 z_59) 2 a) 3 b)) t0.heap; rw [ht]; first | exact hP | (simp only [sC_id, sX_id, sY_id, sH_id, sT_id, sV_id]; exact hP)⟩, hS.F ht⟩) hS.2.2 dX4_weigh_127 hlk
    · skip
      refine lv_iload_n SS.1 SS.2.1 dX4_weigh_13 rfl (lv_at hl 2 rfl) ?_
      refine j_if_ne SS (tgt := 25) (x := a) dX4_weigh_14 (by decide) (by omega) (fun c_14 => ?_) (fun c_14 => ?_)
      · skip
        refine j_iconst SS dX4_weigh_25 ?_
        refine lv_istore (lv' := [(4, .int (J 0)), (0, .ref (q 3)), (1, .ref (q (9 + 5 * r))), (2, .int (J a)), (3, .int (J b))]) SS.1 SS.2.1 dX4_weigh_26 hl (by decide) rfl (fun ls hl => ?_)
        refine lv_iload SS.1 SS.2.1 dX4_weigh_28 (lv_at hl 0 rfl) ?_
        refine j_if_eq SS (tgt := 37) dX4_weigh_30 (by decide) (by decide) (fun c_30 => ?_) (fun c_30 => absurd c_30 (by decide))
        refine lv_iload_n SS.1 SS.2.1 dX4_weigh_37 rfl (lv_at hl 3 rfl) ?_
        refine j_ineg SS dX4_weigh_38 ?_
        refine lv_istore (lv' := [(5, .int (J (-a))), (4, .int (J 0)), (0, .ref (q 3)), (1, .ref (q (9 + 5 * r))), (2, .int (J a)), (3, .int (J b))]) SS.1 SS.2.1 dX4_weigh_39 hl (by decide) rfl (fun ls hl => ?_)
        refine lv_iload SS.1 SS.2.1 dX4_weigh_41 (lv_at hl 1 rfl) ?_
        refine j_if_eq SS (tgt := 50) dX4_weigh_43 (by decide) (by decide) (fun c_43 => ?_) (fun c_43 => absurd c_43 (by decide))
        refine lv_iload_n SS.1 SS.2.1 dX4_weigh_50 rfl (lv_at hl 5 rfl) ?_
        refine j_ineg SS dX4_weigh_51 ?_
        refine lv_istore (lv' := [(6, .int (J (-b))), (5, .int (J (-a))), (4, .int (J 0)), (0, .ref (q 3)), (1, .ref (q (9 + 5 * r))), (2, .int (J a)), (3, .int (J b))]) SS.1 SS.2.1 dX4_weigh_52 hl (by decide) rfl (fun ls hl => ?_)
        refine lv_aload_n SS.1 SS.2.1 dX4_weigh_54 rfl (lv_at hl 4 rfl) ?_
        refine lv_iload SS.1 SS.2.1 dX4_weigh_55 (lv_at hl 1 rfl) ?_
        refine lv_iload SS.1 SS.2.1 dX4_weigh_57 (lv_at hl 0 rfl) ?_
        refine j_vRi SS (As := [.int (J (-a)), .int (J (-b))]) (rest := []) (c_X7_across l D q u r (by omega) (40 : Int) (-a) (-b) (show 0 ≤ (40 : Int) ∧ (40 : Int) ≤ 80 from (by omega)) (show RB (40 : Int) u r from (p0)) (show -20000 ≤ (-a) ∧ (-a) ≤ 20000 from (by omega)) (show -20000 ≤ (-b) ∧ (-b) ≤ 20000 from (by omega))) mf_X7_across kw_643 hG hP hP (ci := 7) (q0 := (9 + 5 * r)) rfl (cw_ring (by omega)) rfl rfl hl.1 ⟨⟨Nat.le_of_ble_eq_true rfl, Nat.le_of_ble_eq_true rfl⟩, Nat.le_of_ble_eq_true rfl, Nat.le_refl _, Nat.le_refl _⟩ rfl dX4_weigh_59 (fun z_59 h_59 => ?_)
        have h_59 : 0 ≤ z_59 ∧ z_59 ≤ 6400000 ∧ ((-a) = 0 → (-b) = 1 → z_59 ≤ 2 * (40 : Int)) := h_59
        refine lv_istore (lv' := [(7, .int (J z_59)), (6, .int (J (-b))), (5, .int (J (-a))), (4, .int (J 0)), (0, .ref (q 3)), (1, .ref (q (9 + 5 * r))), (2, .int (J a)), (3, .int (J b))]) SS.1 SS.2.1 dX4_weigh_62 hl (by decide) rfl (fun ls hl => ?_)
        refine lv_iload SS.1 SS.2.1 dX4_weigh_64 (lv_at hl 0 rfl) ?_
        refine lv_aload_n SS.1 SS.2.1 dX4_weigh_66 rfl (lv_at hl 4 rfl) ?_
        refine j_get SS hG hP 3 (v := .int (J (u.2.2.2 1))) (C := RX4) (T := TX4) (N := 3) rfl rfl inX4 0 (by decide) (ref := "GridPolygons$LeastWidth") kw_194 rfl rfl dX4_weigh_67 ?_
        refine j_icmp_lt SS (tgt := 109) (x := z_59) (y := (u.2.2.2 1)) dX4_weigh_70 (by decide) (by omega) (by omega) (fun c_70 => ?_) (fun c_70 => ?_)
        · skip
          refine lv_aload_n SS.1 SS.2.1 dX4_weigh_109 rfl (lv_at hl 4 rfl) ?_
          refine lv_iload SS.1 SS.2.1 dX4_weigh_110 (lv_at hl 0 rfl) ?_
          refine j_put SS hG hP (cW_D hD) hS 3 (v := .int (J z_59)) (ty := .int) (C := RX4) (T := TX4) (N := 3) rfl rfl inX4 tyX4 tyX4_ok nmX4 0 (by decide) (ref := "GridPolygons$LeastWidth") kw_194 rfl rfl (by decide +kernel) rfl rfl (Nat.le_of_ble_eq_true rfl) dX4_weigh_112 (ws' := (cW D q (sV u 1 z_59))) rfl (fun H locs hP hS => ?_)
          refine lv_aload_n SS.1 SS.2.1 dX4_weigh_115 rfl (lv_at hl 4 rfl) ?_
          refine lv_iload SS.1 SS.2.1 dX4_weigh_116 (lv_at hl 2 rfl) ?_
          refine j_put SS hG hP (cW_D hD) hS 3 (v := .int (J (-a))) (ty := .int) (C := RX4) (T := TX4) (N := 3) rfl rfl inX4 tyX4 tyX4_ok nmX4 1 (by decide) (ref := "GridPolygons$LeastWidth") kw_196 rfl rfl (by decide +kernel) rfl rfl (Nat.le_of_ble_eq_true rfl) dX4_weigh_118 (ws' := (cW D q (sV (sV u 1 z_59) 2 (-a)))) rfl (fun H locs hP hS => ?_)
          refine lv_aload_n SS.1 SS.2.1 dX4_weigh_121 rfl (lv_at hl 4 rfl) ?_
          refine lv_iload SS.1 SS.2.1 dX4_weigh_122 (lv_at hl 1 rfl) ?_
          refine j_put SS hG hP (cW_D hD) hS 3 (v := .int (J (-b))) (ty := .int) (C := RX4) (T := TX4) (N := 3) rfl rfl inX4 tyX4 tyX4_ok nmX4 2 (by decide) (ref := "GridPolygons$LeastWidth") kw_198 rfl rfl (by decide +kernel) rfl rfl (Nat.le_of_ble_eq_true rfl) dX4_weigh_124 (ws' := (cW D q (sV (sV (sV u 1 z_59) 2 (-a)) 3 (-b)))) rfl (fun H locs hP hS => ?_)
          exact W.vret SS.1 SS.2.1 hr (fun t0 ht hW => ⟨⟨(sV (sV (sV u 1 z_59) 2 (-a)) 3 (-b)), rfl, (⟨z_59, (-a), (-b), rfl, by omega⟩), by show va_P D.1 j_cl (cW D q (sV (sV (sV u 1 z_59) 2 (-a)) 3 (-b))) t0.heap; rw [ht]; first | exact hP | (simp only [sC_id, sX_id, sY_id, sH_id, sT_id, sV_id]; exact hP)⟩, hS.F ht⟩) hS.2.2 dX4_weigh_127 hlk
        · skip
          refine lv_iload SS.1 SS.2.1 dX4_weigh_73 (lv_at hl 0 rfl) ?_
          refine lv_aload_n SS.1 SS.2.1 dX4_weigh_75 rfl (lv_at hl 4 rfl) ?_
          refine j_get SS hG hP 3 (v := .int (J (u.2.2.2 1))) (C := RX4) (T := TX4) (N := 3) rfl rfl inX4 0 (by decide) (ref := "GridPolygons$LeastWidth") kw_194 rfl rfl dX4_weigh_76 ?_
          refine j_icmp_ne SS (tgt := 127) (x := z_59) (y := (u.2.2.2 1)) dX4_weigh_79 (by decide) (by omega) (by omega) (fun c_79 => ?_) (fun c_79 => ?_)
          · skip
            exact W.vret SS.1 SS.2.1 hr (fun t0 ht hW => ⟨⟨(sV (sV (sV u 1 (u.2.2.2 1)) 2 (u.2.2.2 2)) 3 (u.2.2.2 3)), rfl, (⟨(u.2.2.2 1), (u.2.2.2 2), (u.2.2.2 3), rfl, by omega⟩), by show va_P D.1 j_cl (cW D q (sV (sV (sV u 1 (u.2.2.2 1)) 2 (u.2.2.2 2)) 3 (u.2.2.2 3))) t0.heap; rw [ht]; first | exact hP | (simp only [sC_id, sX_id, sY_id, sH_id, sT_id, sV_id]; exact hP)⟩, hS.F ht⟩) hS.2.2 dX4_weigh_127 hlk
          · skip
            refine lv_iload SS.1 SS.2.1 dX4_weigh_82 (lv_at hl 2 rfl) ?_
            refine lv_aload_n SS.1 SS.2.1 dX4_weigh_84 rfl (lv_at hl 4 rfl) ?_
            refine j_get SS hG hP 3 (v := .int (J (u.2.2.2 2))) (C := RX4) (T := TX4) (N := 3) rfl rfl inX4 1 (by decide) (ref := "GridPolygons$LeastWidth") kw_196 rfl rfl dX4_weigh_85 ?_
            refine j_icmp_lt SS (tgt := 109) (x := (-a)) (y := (u.2.2.2 2)) dX4_weigh_88 (by decide) (by omega) (by omega) (fun c_88 => ?_) (fun c_88 => ?_)
            · skip
              refine lv_aload_n SS.1 SS.2.1 dX4_weigh_109 rfl (lv_at hl 4 rfl) ?_
              refine lv_iload SS.1 SS.2.1 dX4_weigh_110 (lv_at hl 0 rfl) ?_
              refine j_put SS hG hP (cW_D hD) hS 3 (v := .int (J z_59)) (ty := .int) (C := RX4) (T := TX4) (N := 3) rfl rfl inX4 tyX4 tyX4_ok nmX4 0 (by decide) (ref := "GridPolygons$LeastWidth") kw_194 rfl rfl (by decide +kernel) rfl rfl (Nat.le_of_ble_eq_true rfl) dX4_weigh_112 (ws' := (cW D q (sV u 1 z_59))) rfl (fun H locs hP hS => ?_)
              refine lv_aload_n SS.1 SS.2.1 dX4_weigh_115 rfl (lv_at hl 4 rfl) ?_
              refine lv_iload SS.1 SS.2.1 dX4_weigh_116 (lv_at hl 2 rfl) ?_
              refine j_put SS hG hP (cW_D hD) hS 3 (v := .int (J (-a))) (ty := .int) (C := RX4) (T := TX4) (N := 3) rfl rfl inX4 tyX4 tyX4_ok nmX4 1 (by decide) (ref := "GridPolygons$LeastWidth") kw_196 rfl rfl (by decide +kernel) rfl rfl (Nat.le_of_ble_eq_true rfl) dX4_weigh_118 (ws' := (cW D q (sV (sV u 1 z_59) 2 (-a)))) rfl (fun H locs hP hS => ?_)
              refine lv_aload_n SS.1 SS.2.1 dX4_weigh_121 rfl (lv_at hl 4 rfl) ?_
              refine lv_iload SS.1 SS.2.1 dX4_weigh_122 (lv_at hl 1 rfl) ?_
              refine j_put SS hG hP (cW_D hD) hS 3 (v := .int (J (-b))) (ty := .int) (C := RX4) (T := TX4) (N := 3) rfl rfl inX4 tyX4 tyX4_ok nmX4 2 (by decide) (ref := "GridPolygons$LeastWidth") kw_198 rfl rfl (by decide +kernel) rfl rfl (Nat.le_of_ble_eq_true rfl) dX4_weigh_124 (ws' := (cW D q (sV (sV (sV u 1 z_59) 2 (-a)) 3 (-b)))) rfl (fun H locs hP hS => ?_)
              exact W.vret SS.1 SS.2.1 hr (fun t0 ht hW => ⟨⟨(sV (sV (sV u 1 z_59) 2 (-a)) 3 (-b)), rfl, (⟨z_59, (-a), (-b), rfl, by omega⟩), by show va_P D.1 j_cl (cW D q (sV (sV (sV u 1 z_59) 2 (-a)) 3 (-b))) t0.heap; rw [ht]; first | exact hP | (simp only [sC_id, sX_id, sY_id, sH_id, sT_id, sV_id]; exact hP)⟩, hS.F ht⟩) hS.2.2 dX4_weigh_127 hlk
            · skip
              refine lv_iload SS.1 SS.2.1 dX4_weigh_91 (lv_at hl 2 rfl) ?_
              refine lv_aload_n SS.1 SS.2.1 dX4_weigh_93 rfl (lv_at hl 4 rfl) ?_
              refine j_get SS hG hP 3 (v := .int (J (u.2.2.2 2))) (C := RX4) (T := TX4) (N := 3) rfl rfl inX4 1 (by decide) (ref := "GridPolygons$LeastWidth") kw_196 rfl rfl dX4_weigh_94 ?_
              refine j_icmp_ne SS (tgt := 127) (x := (-a)) (y := (u.2.2.2 2)) dX4_weigh_97 (by decide) (by omega) (by omega) (fun c_97 => ?_) (fun c_97 => ?_)
              · skip
                exact W.vret SS.1 SS.2.1 hr (fun t0 ht hW => ⟨⟨(sV (sV (sV u 1 (u.2.2.2 1)) 2 (u.2.2.2 2)) 3 (u.2.2.2 3)), rfl, (⟨(u.2.2.2 1), (u.2.2.2 2), (u.2.2.2 3), rfl, by omega⟩), by show va_P D.1 j_cl (cW D q (sV (sV (sV u 1 (u.2.2.2 1)) 2 (u.2.2.2 2)) 3 (u.2.2.2 3))) t0.heap; rw [ht]; first | exact hP | (simp only [sC_id, sX_id, sY_id, sH_id, sT_id, sV_id]; exact hP)⟩, hS.F ht⟩) hS.2.2 dX4_weigh_127 hlk
              · skip
                refine lv_iload SS.1 SS.2.1 dX4_weigh_100 (lv_at hl 1 rfl) ?_
                refine lv_aload_n SS.1 SS.2.1 dX4_weigh_102 rfl (lv_at hl 4 rfl) ?_
                refine j_get SS hG hP 3 (v := .int (J (u.2.2.2 3))) (C := RX4) (T := TX4) (N := 3) rfl rfl inX4 2 (by decide) (ref := "GridPolygons$LeastWidth") kw_198 rfl rfl dX4_weigh_103 ?_
                refine j_icmp_ge SS (tgt := 127) (x := (-b)) (y := (u.2.2.2 3)) dX4_weigh_106 (by decide) (by omega) (by omega) (fun c_106 => ?_) (fun c_106 => ?_)
                · skip
                  exact W.vret SS.1 SS.2.1 hr (fun t0 ht hW => ⟨⟨(sV (sV (sV u 1 (u.2.2.2 1)) 2 (u.2.2.2 2)) 3 (u.2.2.2 3)), rfl, (⟨(u.2.2.2 1), (u.2.2.2 2), (u.2.2.2 3), rfl, by omega⟩), by show va_P D.1 j_cl (cW D q (sV (sV (sV u 1 (u.2.2.2 1)) 2 (u.2.2.2 2)) 3 (u.2.2.2 3))) t0.heap; rw [ht]; first | exact hP | (simp only [sC_id, sX_id, sY_id, sH_id, sT_id, sV_id]; exact hP)⟩, hS.F ht⟩) hS.2.2 dX4_weigh_127 hlk
                · skip
                  refine lv_aload_n SS.1 SS.2.1 dX4_weigh_109 rfl (lv_at hl 4 rfl) ?_
                  refine lv_iload SS.1 SS.2.1 dX4_weigh_110 (lv_at hl 0 rfl) ?_
                  refine j_put SS hG hP (cW_D hD) hS 3 (v := .int (J z_59)) (ty := .int) (C := RX4) (T := TX4) (N := 3) rfl rfl inX4 tyX4 tyX4_ok nmX4 0 (by decide) (ref := "GridPolygons$LeastWidth") kw_194 rfl rfl (by decide +kernel) rfl rfl (Nat.le_of_ble_eq_true rfl) dX4_weigh_112 (ws' := (cW D q (sV u 1 z_59))) rfl (fun H locs hP hS => ?_)
                  refine lv_aload_n SS.1 SS.2.1 dX4_weigh_115 rfl (lv_at hl 4 rfl) ?_
                  refine lv_iload SS.1 SS.2.1 dX4_weigh_116 (lv_at hl 2 rfl) ?_
                  refine j_put SS hG hP (cW_D hD) hS 3 (v := .int (J (-a))) (ty := .int) (C := RX4) (T := TX4) (N := 3) rfl rfl inX4 tyX4 tyX4_ok nmX4 1 (by decide) (ref := "GridPolygons$LeastWidth") kw_196 rfl rfl (by decide +kernel) rfl rfl (Nat.le_of_ble_eq_true rfl) dX4_weigh_118 (ws' := (cW D q (sV (sV u 1 z_59) 2 (-a)))) rfl (fun H locs hP hS => ?_)
                  refine lv_aload_n SS.1 SS.2.1 dX4_weigh_121 rfl (lv_at hl 4 rfl) ?_
                  refine lv_iload SS.1 SS.2.1 dX4_weigh_122 (lv_at hl 1 rfl) ?_
                  refine j_put SS hG hP (cW_D hD) hS 3 (v := .int (J (-b))) (ty := .int) (C := RX4) (T := TX4) (N := 3) rfl rfl inX4 tyX4 tyX4_ok nmX4 2 (by decide) (ref := "GridPolygons$LeastWidth") kw_198 rfl rfl (by decide +kernel) rfl rfl (Nat.le_of_ble_eq_true rfl) dX4_weigh_124 (ws' := (cW D q (sV (sV (sV u 1 z_59) 2 (-a)) 3 (-b)))) rfl (fun H locs hP hS => ?_)
                  exact W.vret SS.1 SS.2.1 hr (fun t0 ht hW => ⟨⟨(sV (sV (sV u 1 z_59) 2 (-a)) 3 (-b)), rfl, (⟨z_59, (-a), (-b), rfl, by omega⟩), by show va_P D.1 j_cl (cW D q (sV (sV (sV u 1 z_59) 2 (-a)) 3 (-b))) t0.heap; rw [ht]; first | exact hP | (simp only [sC_id, sX_id, sY_id, sH_id, sT_id, sV_id]; exact hP)⟩, hS.F ht⟩) hS.2.2 dX4_weigh_127 hlk
      · skip
        refine lv_iload_n SS.1 SS.2.1 dX4_weigh_17 rfl (lv_at hl 3 rfl) ?_
        refine j_if_le SS (tgt := 25) (x := b) dX4_weigh_18 (by decide) (by omega) (fun c_18 => ?_) (fun c_18 => ?_)
        · skip
          refine j_iconst SS dX4_weigh_25 ?_
          refine lv_istore (lv' := [(4, .int (J 0)), (0, .ref (q 3)), (1, .ref (q (9 + 5 * r))), (2, .int (J a)), (3, .int (J b))]) SS.1 SS.2.1 dX4_weigh_26 hl (by decide) rfl (fun ls hl => ?_)
          refine lv_iload SS.1 SS.2.1 dX4_weigh_28 (lv_at hl 0 rfl) ?_
          refine j_if_eq SS (tgt := 37) dX4_weigh_30 (by decide) (by decide) (fun c_30 => ?_) (fun c_30 => absurd c_30 (by decide))
          refine lv_iload_n SS.1 SS.2.1 dX4_weigh_37 rfl (lv_at hl 3 rfl) ?_
          refine j_ineg SS dX4_weigh_38 ?_
          refine lv_istore (lv' := [(5, .int (J (-a))), (4, .int (J 0)), (0, .ref (q 3)), (1, .ref (q (9 + 5 * r))), (2, .int (J a)), (3, .int (J b))]) SS.1 SS.2.1 dX4_weigh_39 hl (by decide) rfl (fun ls hl => ?_)
          refine lv_iload SS.1 SS.2.1 dX4_weigh_41 (lv_at hl 1 rfl) ?_
          refine j_if_eq SS (tgt := 50) dX4_weigh_43 (by decide) (by decide) (fun c_43 => ?_) (fun c_43 => absurd c_43 (by decide))
          refine lv_iload_n SS.1 SS.2.1 dX4_weigh_50 rfl (lv_at hl 5 rfl) ?_
          refine j_ineg SS dX4_weigh_51 ?_
          refine lv_istore (lv' := [(6, .int (J (-b))), (5, .int (J (-a))), (4, .int (J 0)), (0, .ref (q 3)), (1, .ref (q (9 + 5 * r))), (2, .int (J a)), (3, .int (J b))]) SS.1 SS.2.1 dX4_weigh_52 hl (by decide) rfl (fun ls hl => ?_)
          refine lv_aload_n SS.1 SS.2.1 dX4_weigh_54 rfl (lv_at hl 4 rfl) ?_
          refine lv_iload SS.1 SS.2.1 dX4_weigh_55 (lv_at hl 1 rfl) ?_
          refine lv_iload SS.1 SS.2.1 dX4_weigh_57 (lv_at hl 0 rfl) ?_
          refine j_vRi SS (As := [.int (J (-a)), .int (J (-b))]) (rest := []) (c_X7_across l D q u r (by omega) (40 : Int) (-a) (-b) (show 0 ≤ (40 : Int) ∧ (40 : Int) ≤ 80 from (by omega)) (show RB (40 : Int) u r from (p0)) (show -20000 ≤ (-a) ∧ (-a) ≤ 20000 from (by omega)) (show -20000 ≤ (-b) ∧ (-b) ≤ 20000 from (by omega))) mf_X7_across kw_643 hG hP hP (ci := 7) (q0 := (9 + 5 * r)) rfl (cw_ring (by omega)) rfl rfl hl.1 ⟨⟨Nat.le_of_ble_eq_true rfl, Nat.le_of_ble_eq_true rfl⟩, Nat.le_of_ble_eq_true rfl, Nat.le_refl _, Nat.le_refl _⟩ rfl dX4_weigh_59 (fun z_59 h_59 => ?_)
          have h_59 : 0 ≤ z_59 ∧ z_59 ≤ 6400000 ∧ ((-a) = 0 → (-b) = 1 → z_59 ≤ 2 * (40 : Int)) := h_59
          refine lv_istore (lv' := [(7, .int (J z_59)), (6, .int (J (-b))), (5, .int (J (-a))), (4, .int (J 0)), (0, .ref (q 3)), (1, .ref (q (9 + 5 * r))), (2, .int (J a)), (3, .int (J b))]) SS.1 SS.2.1 dX4_weigh_62 hl (by decide) rfl (fun ls hl => ?_)
          refine lv_iload SS.1 SS.2.1 dX4_weigh_64 (lv_at hl 0 rfl) ?_
          refine lv_aload_n SS.1 SS.2.1 dX4_weigh_66 rfl (lv_at hl 4 rfl) ?_
          refine j_get SS hG hP 3 (v := .int (J (u.2.2.2 1))) (C := RX4) (T := TX4) (N := 3) rfl rfl inX4 0 (by decide) (ref := "GridPolygons$LeastWidth") kw_194 rfl rfl dX4_weigh_67 ?_
          refine j_icmp_lt SS (tgt := 109) (x := z_59) (y := (u.2.2.2 1)) dX4_weigh_70 (by decide) (by omega) (by omega) (fun c_70 => ?_) (fun c_70 => ?_)
          · skip
            refine lv_aload_n SS.1 SS.2.1 dX4_weigh_109 rfl (lv_at hl 4 rfl) ?_
            refine lv_iload SS.1 SS.2.1 dX4_weigh_110 (lv_at hl 0 rfl) ?_
            refine j_put SS hG hP (cW_D hD) hS 3 (v := .int (J z_59)) (ty := .int) (C := RX4) (T := TX4) (N := 3) rfl rfl inX4 tyX4 tyX4_ok nmX4 0 (by decide) (ref := "GridPolygons$LeastWidth") kw_194 rfl rfl (by decide +kernel) rfl rfl (Nat.le_of_ble_eq_true rfl) dX4_weigh_112 (ws' := (cW D q (sV u 1 z_59))) rfl (fun H locs hP hS => ?_)
            refine lv_aload_n SS.1 SS.2.1 dX4_weigh_115 rfl (lv_at hl 4 rfl) ?_
            refine lv_iload SS.1 SS.2.1 dX4_weigh_116 (lv_at hl 2 rfl) ?_
            refine j_put SS hG hP (cW_D hD) hS 3 (v := .int (J (-a))) (ty := .int) (C := RX4) (T := TX4) (N := 3) rfl rfl inX4 tyX4 tyX4_ok nmX4 1 (by decide) (ref := "GridPolygons$LeastWidth") kw_196 rfl rfl (by decide +kernel) rfl rfl (Nat.le_of_ble_eq_true rfl) dX4_weigh_118 (ws' := (cW D q (sV (sV u 1 z_59) 2 (-a)))) rfl (fun H locs hP hS => ?_)
            refine lv_aload_n SS.1 SS.2.1 dX4_weigh_121 rfl (lv_at hl 4 rfl) ?_
            refine lv_iload SS.1 SS.2.1 dX4_weigh_122 (lv_at hl 1 rfl) ?_
            refine j_put SS hG hP (cW_D hD) hS 3 (v := .int (J (-b))) (ty := .int) (C := RX4) (T := TX4) (N := 3) rfl rfl inX4 tyX4 tyX4_ok nmX4 2 (by decide) (ref := "GridPolygons$LeastWidth") kw_198 rfl rfl (by decide +kernel) rfl rfl (Nat.le_of_ble_eq_true rfl) dX4_weigh_124 (ws' := (cW D q (sV (sV (sV u 1 z_59) 2 (-a)) 3 (-b)))) rfl (fun H locs hP hS => ?_)
            exact W.vret SS.1 SS.2.1 hr (fun t0 ht hW => ⟨⟨(sV (sV (sV u 1 z_59) 2 (-a)) 3 (-b)), rfl, (⟨z_59, (-a), (-b), rfl, by omega⟩), by show va_P D.1 j_cl (cW D q (sV (sV (sV u 1 z_59) 2 (-a)) 3 (-b))) t0.heap; rw [ht]; first | exact hP | (simp only [sC_id, sX_id, sY_id, sH_id, sT_id, sV_id]; exact hP)⟩, hS.F ht⟩) hS.2.2 dX4_weigh_127 hlk
          · skip
            refine lv_iload SS.1 SS.2.1 dX4_weigh_73 (lv_at hl 0 rfl) ?_
            refine lv_aload_n SS.1 SS.2.1 dX4_weigh_75 rfl (lv_at hl 4 rfl) ?_
            refine j_get SS hG hP 3 (v := .int (J (u.2.2.2 1))) (C := RX4) (T := TX4) (N := 3) rfl rfl inX4 0 (by decide) (ref := "GridPolygons$LeastWidth") kw_194 rfl rfl dX4_weigh_76 ?_
            refine j_icmp_ne SS (tgt := 127) (x := z_59) (y := (u.2.2.2 1)) dX4_weigh_79 (by decide) (by omega) (by omega) (fun c_79 => ?_) (fun c_79 => ?_)
            · skip
              exact W.vret SS.1 SS.2.1 hr (fun t0 ht hW => ⟨⟨(sV (sV (sV u 1 (u.2.2.2 1)) 2 (u.2.2.2 2)) 3 (u.2.2.2 3)), rfl, (⟨(u.2.2.2 1), (u.2.2.2 2), (u.2.2.2 3), rfl, by omega⟩), by show va_P D.1 j_cl (cW D q (sV (sV (sV u 1 (u.2.2.2 1)) 2 (u.2.2.2 2)) 3 (u.2.2.2 3))) t0.heap; rw [ht]; first | exact hP | (simp only [sC_id, sX_id, sY_id, sH_id, sT_id, sV_id]; exact hP)⟩, hS.F ht⟩) hS.2.2 dX4_weigh_127 hlk
            · skip
              refine lv_iload SS.1 SS.2.1 dX4_weigh_82 (lv_at hl 2 rfl) ?_
              refine lv_aload_n SS.1 SS.2.1 dX4_weigh_84 rfl (lv_at hl 4 rfl) ?_
              refine j_get SS hG hP 3 (v := .int (J (u.2.2.2 2))) (C := RX4) (T := TX4) (N := 3) rfl rfl inX4 1 (by decide) (ref := "GridPolygons$LeastWidth") kw_196 rfl rfl dX4_weigh_85 ?_
              refine j_icmp_lt SS (tgt := 109) (x := (-a)) (y := (u.2.2.2 2)) dX4_weigh_88 (by decide) (by omega) (by omega) (fun c_88 => ?_) (fun c_88 => ?_)
              · skip
                refine lv_aload_n SS.1 SS.2.1 dX4_weigh_109 rfl (lv_at hl 4 rfl) ?_
                refine lv_iload SS.1 SS.2.1 dX4_weigh_110 (lv_at hl 0 rfl) ?_
                refine j_put SS hG hP (cW_D hD) hS 3 (v := .int (J z_59)) (ty := .int) (C := RX4) (T := TX4) (N := 3) rfl rfl inX4 tyX4 tyX4_ok nmX4 0 (by decide) (ref := "GridPolygons$LeastWidth") kw_194 rfl rfl (by decide +kernel) rfl rfl (Nat.le_of_ble_eq_true rfl) dX4_weigh_112 (ws' := (cW D q (sV u 1 z_59))) rfl (fun H locs hP hS => ?_)
                refine lv_aload_n SS.1 SS.2.1 dX4_weigh_115 rfl (lv_at hl 4 rfl) ?_
                refine lv_iload SS.1 SS.2.1 dX4_weigh_116 (lv_at hl 2 rfl) ?_
                refine j_put SS hG hP (cW_D hD) hS 3 (v := .int (J (-a))) (ty := .int) (C := RX4) (T := TX4) (N := 3) rfl rfl inX4 tyX4 tyX4_ok nmX4 1 (by decide) (ref := "GridPolygons$LeastWidth") kw_196 rfl rfl (by decide +kernel) rfl rfl (Nat.le_of_ble_eq_true rfl) dX4_weigh_118 (ws' := (cW D q (sV (sV u 1 z_59) 2 (-a)))) rfl (fun H locs hP hS => ?_)
                refine lv_aload_n SS.1 SS.2.1 dX4_weigh_121 rfl (lv_at hl 4 rfl) ?_
                refine lv_iload SS.1 SS.2.1 dX4_weigh_122 (lv_at hl 1 rfl) ?_
                refine j_put SS hG hP (cW_D hD) hS 3 (v := .int (J (-b))) (ty := .int) (C := RX4) (T := TX4) (N := 3) rfl rfl inX4 tyX4 tyX4_ok nmX4 2 (by decide) (ref := "GridPolygons$LeastWidth") kw_198 rfl rfl (by decide +kernel) rfl rfl (Nat.le_of_ble_eq_true rfl) dX4_weigh_124 (ws' := (cW D q (sV (sV (sV u 1 z_59) 2 (-a)) 3 (-b)))) rfl (fun H locs hP hS => ?_)
                exact W.vret SS.1 SS.2.1 hr (fun t0 ht hW => ⟨⟨(sV (sV (sV u 1 z_59) 2 (-a)) 3 (-b)), rfl, (⟨z_59, (-a), (-b), rfl, by omega⟩), by show va_P D.1 j_cl (cW D q (sV (sV (sV u 1 z_59) 2 (-a)) 3 (-b))) t0.heap; rw [ht]; first | exact hP | (simp only [sC_id, sX_id, sY_id, sH_id, sT_id, sV_id]; exact hP)⟩, hS.F ht⟩) hS.2.2 dX4_weigh_127 hlk
              · skip
                refine lv_iload SS.1 SS.2.1 dX4_weigh_91 (lv_at hl 2 rfl) ?_
                refine lv_aload_n SS.1 SS.2.1 dX4_weigh_93 rfl (lv_at hl 4 rfl) ?_
                refine j_get SS hG hP 3 (v := .int (J (u.2.2.2 2))) (C := RX4) (T := TX4) (N := 3) rfl rfl inX4 1 (by decide) (ref := "GridPolygons$LeastWidth") kw_196 rfl rfl dX4_weigh_94 ?_
                refine j_icmp_ne SS (tgt := 127) (x := (-a)) (y := (u.2.2.2 2)) dX4_weigh_97 (by decide) (by omega) (by omega) (fun c_97 => ?_) (fun c_97 => ?_)
                · skip
                  exact W.vret SS.1 SS.2.1 hr (fun t0 ht hW => ⟨⟨(sV (sV (sV u 1 (u.2.2.2 1)) 2 (u.2.2.2 2)) 3 (u.2.2.2 3)), rfl, (⟨(u.2.2.2 1), (u.2.2.2 2), (u.2.2.2 3), rfl, by omega⟩), by show va_P D.1 j_cl (cW D q (sV (sV (sV u 1 (u.2.2.2 1)) 2 (u.2.2.2 2)) 3 (u.2.2.2 3))) t0.heap; rw [ht]; first | exact hP | (simp only [sC_id, sX_id, sY_id, sH_id, sT_id, sV_id]; exact hP)⟩, hS.F ht⟩) hS.2.2 dX4_weigh_127 hlk
                · skip
                  refine lv_iload SS.1 SS.2.1 dX4_weigh_100 (lv_at hl 1 rfl) ?_
                  refine lv_aload_n SS.1 SS.2.1 dX4_weigh_102 rfl (lv_at hl 4 rfl) ?_
                  refine j_get SS hG hP 3 (v := .int (J (u.2.2.2 3))) (C := RX4) (T := TX4) (N := 3) rfl rfl inX4 2 (by decide) (ref := "GridPolygons$LeastWidth") kw_198 rfl rfl dX4_weigh_103 ?_
                  refine j_icmp_ge SS (tgt := 127) (x := (-b)) (y := (u.2.2.2 3)) dX4_weigh_106 (by decide) (by omega) (by omega) (fun c_106 => ?_) (fun c_106 => ?_)
                  · skip
                    exact W.vret SS.1 SS.2.1 hr (fun t0 ht hW => ⟨⟨(sV (sV (sV u 1 (u.2.2.2 1)) 2 (u.2.2.2 2)) 3 (u.2.2.2 3)), rfl, (⟨(u.2.2.2 1), (u.2.2.2 2), (u.2.2.2 3), rfl, by omega⟩), by show va_P D.1 j_cl (cW D q (sV (sV (sV u 1 (u.2.2.2 1)) 2 (u.2.2.2 2)) 3 (u.2.2.2 3))) t0.heap; rw [ht]; first | exact hP | (simp only [sC_id, sX_id, sY_id, sH_id, sT_id, sV_id]; exact hP)⟩, hS.F ht⟩) hS.2.2 dX4_weigh_127 hlk
                  · skip
                    refine lv_aload_n SS.1 SS.2.1 dX4_weigh_109 rfl (lv_at hl 4 rfl) ?_
                    refine lv_iload SS.1 SS.2.1 dX4_weigh_110 (lv_at hl 0 rfl) ?_
                    refine j_put SS hG hP (cW_D hD) hS 3 (v := .int (J z_59)) (ty := .int) (C := RX4) (T := TX4) (N := 3) rfl rfl inX4 tyX4 tyX4_ok nmX4 0 (by decide) (ref := "GridPolygons$LeastWidth") kw_194 rfl rfl (by decide +kernel) rfl rfl (Nat.le_of_ble_eq_true rfl) dX4_weigh_112 (ws' := (cW D q (sV u 1 z_59))) rfl (fun H locs hP hS => ?_)
                    refine lv_aload_n SS.1 SS.2.1 dX4_weigh_115 rfl (lv_at hl 4 rfl) ?_
                    refine lv_iload SS.1 SS.2.1 dX4_weigh_116 (lv_at hl 2 rfl) ?_
                    refine j_put SS hG hP (cW_D hD) hS 3 (v := .int (J (-a))) (ty := .int) (C := RX4) (T := TX4) (N := 3) rfl rfl inX4 tyX4 tyX4_ok nmX4 1 (by decide) (ref := "GridPolygons$LeastWidth") kw_196 rfl rfl (by decide +kernel) rfl rfl (Nat.le_of_ble_eq_true rfl) dX4_weigh_118 (ws' := (cW D q (sV (sV u 1 z_59) 2 (-a)))) rfl (fun H locs hP hS => ?_)
                    refine lv_aload_n SS.1 SS.2.1 dX4_weigh_121 rfl (lv_at hl 4 rfl) ?_
                    refine lv_iload SS.1 SS.2.1 dX4_weigh_122 (lv_at hl 1 rfl) ?_
                    refine j_put SS hG hP (cW_D hD) hS 3 (v := .int (J (-b))) (ty := .int) (C := RX4) (T := TX4) (N := 3) rfl rfl inX4 tyX4 tyX4_ok nmX4 2 (by decide) (ref := "GridPolygons$LeastWidth") kw_198 rfl rfl (by decide +kernel) rfl rfl (Nat.le_of_ble_eq_true rfl) dX4_weigh_124 (ws' := (cW D q (sV (sV (sV u 1 z_59) 2 (-a)) 3 (-b)))) rfl (fun H locs hP hS => ?_)
                    exact W.vret SS.1 SS.2.1 hr (fun t0 ht hW => ⟨⟨(sV (sV (sV u 1 z_59) 2 (-a)) 3 (-b)), rfl, (⟨z_59, (-a), (-b), rfl, by omega⟩), by show va_P D.1 j_cl (cW D q (sV (sV (sV u 1 z_59) 2 (-a)) 3 (-b))) t0.heap; rw [ht]; first | exact hP | (simp only [sC_id, sX_id, sY_id, sH_id, sT_id, sV_id]; exact hP)⟩, hS.F ht⟩) hS.2.2 dX4_weigh_127 hlk
        · skip
          refine j_iconst SS dX4_weigh_21 ?_
          refine lv_goto (tgt := 26) SS.1 SS.2.1 dX4_weigh_22 (by decide) ?_
          refine lv_istore (lv' := [(4, .int (J 1)), (0, .ref (q 3)), (1, .ref (q (9 + 5 * r))), (2, .int (J a)), (3, .int (J b))]) SS.1 SS.2.1 dX4_weigh_26 hl (by decide) rfl (fun ls hl => ?_)
          refine lv_iload SS.1 SS.2.1 dX4_weigh_28 (lv_at hl 0 rfl) ?_
          refine j_if_eq SS (tgt := 37) dX4_weigh_30 (by decide) (by decide) (fun c_30 => absurd c_30 (by decide)) (fun c_30 => ?_)
          refine lv_iload_n SS.1 SS.2.1 dX4_weigh_33 rfl (lv_at hl 3 rfl) ?_
          refine lv_goto (tgt := 39) SS.1 SS.2.1 dX4_weigh_34 (by decide) ?_
          refine lv_istore (lv' := [(5, .int (J a)), (4, .int (J 1)), (0, .ref (q 3)), (1, .ref (q (9 + 5 * r))), (2, .int (J a)), (3, .int (J b))]) SS.1 SS.2.1 dX4_weigh_39 hl (by decide) rfl (fun ls hl => ?_)
          refine lv_iload SS.1 SS.2.1 dX4_weigh_41 (lv_at hl 1 rfl) ?_
          refine j_if_eq SS (tgt := 50) dX4_weigh_43 (by decide) (by decide) (fun c_43 => absurd c_43 (by decide)) (fun c_43 => ?_)
          refine lv_iload_n SS.1 SS.2.1 dX4_weigh_46 rfl (lv_at hl 5 rfl) ?_
          refine lv_goto (tgt := 52) SS.1 SS.2.1 dX4_weigh_47 (by decide) ?_
          refine lv_istore (lv' := [(6, .int (J b)), (5, .int (J a)), (4, .int (J 1)), (0, .ref (q 3)), (1, .ref (q (9 + 5 * r))), (2, .int (J a)), (3, .int (J b))]) SS.1 SS.2.1 dX4_weigh_52 hl (by decide) rfl (fun ls hl => ?_)
          refine lv_aload_n SS.1 SS.2.1 dX4_weigh_54 rfl (lv_at hl 4 rfl) ?_
          refine lv_iload SS.1 SS.2.1 dX4_weigh_55 (lv_at hl 1 rfl) ?_
          refine lv_iload SS.1 SS.2.1 dX4_weigh_57 (lv_at hl 0 rfl) ?_
          refine j_vRi SS (As := [.int (J a), .int (J b)]) (rest := []) (c_X7_across l D q u r (by omega) (40 : Int) a b (show 0 ≤ (40 : Int) ∧ (40 : Int) ≤ 80 from (by omega)) (show RB (40 : Int) u r from (p0)) (show -20000 ≤ a ∧ a ≤ 20000 from (p1)) (show -20000 ≤ b ∧ b ≤ 20000 from (p2))) mf_X7_across kw_643 hG hP hP (ci := 7) (q0 := (9 + 5 * r)) rfl (cw_ring (by omega)) rfl rfl hl.1 ⟨⟨Nat.le_of_ble_eq_true rfl, Nat.le_of_ble_eq_true rfl⟩, Nat.le_of_ble_eq_true rfl, Nat.le_refl _, Nat.le_refl _⟩ rfl dX4_weigh_59 (fun z_59 h_59 => ?_)
          have h_59 : 0 ≤ z_59 ∧ z_59 ≤ 6400000 ∧ (a = 0 → b = 1 → z_59 ≤ 2 * (40 : Int)) := h_59
          refine lv_istore (lv' := [(7, .int (J z_59)), (6, .int (J b)), (5, .int (J a)), (4, .int (J 1)), (0, .ref (q 3)), (1, .ref (q (9 + 5 * r))), (2, .int (J a)), (3, .int (J b))]) SS.1 SS.2.1 dX4_weigh_62 hl (by decide) rfl (fun ls hl => ?_)
          refine lv_iload SS.1 SS.2.1 dX4_weigh_64 (lv_at hl 0 rfl) ?_
          refine lv_aload_n SS.1 SS.2.1 dX4_weigh_66 rfl (lv_at hl 4 rfl) ?_
          refine j_get SS hG hP 3 (v := .int (J (u.2.2.2 1))) (C := RX4) (T := TX4) (N := 3) rfl rfl inX4 0 (by decide) (ref := "GridPolygons$LeastWidth") kw_194 rfl rfl dX4_weigh_67 ?_
          refine j_icmp_lt SS (tgt := 109) (x := z_59) (y := (u.2.2.2 1)) dX4_weigh_70 (by decide) (by omega) (by omega) (fun c_70 => ?_) (fun c_70 => ?_)
          · skip
            refine lv_aload_n SS.1 SS.2.1 dX4_weigh_109 rfl (lv_at hl 4 rfl) ?_
            refine lv_iload SS.1 SS.2.1 dX4_weigh_110 (lv_at hl 0 rfl) ?_
            refine j_put SS hG hP (cW_D hD) hS 3 (v := .int (J z_59)) (ty := .int) (C := RX4) (T := TX4) (N := 3) rfl rfl inX4 tyX4 tyX4_ok nmX4 0 (by decide) (ref := "GridPolygons$LeastWidth") kw_194 rfl rfl (by decide +kernel) rfl rfl (Nat.le_of_ble_eq_true rfl) dX4_weigh_112 (ws' := (cW D q (sV u 1 z_59))) rfl (fun H locs hP hS => ?_)
            refine lv_aload_n SS.1 SS.2.1 dX4_weigh_115 rfl (lv_at hl 4 rfl) ?_
            refine lv_iload SS.1 SS.2.1 dX4_weigh_116 (lv_at hl 2 rfl) ?_
            refine j_put SS hG hP (cW_D hD) hS 3 (v := .int (J a)) (ty := .int) (C := RX4) (T := TX4) (N := 3) rfl rfl inX4 tyX4 tyX4_ok nmX4 1 (by decide) (ref := "GridPolygons$LeastWidth") kw_196 rfl rfl (by decide +kernel) rfl rfl (Nat.le_of_ble_eq_true rfl) dX4_weigh_118 (ws' := (cW D q (sV (sV u 1 z_59) 2 a))) rfl (fun H locs hP hS => ?_)
            refine lv_aload_n SS.1 SS.2.1 dX4_weigh_121 rfl (lv_at hl 4 rfl) ?_
            refine lv_iload SS.1 SS.2.1 dX4_weigh_122 (lv_at hl 1 rfl) ?_
            refine j_put SS hG hP (cW_D hD) hS 3 (v := .int (J b)) (ty := .int) (C := RX4) (T := TX4) (N := 3) rfl rfl inX4 tyX4 tyX4_ok nmX4 2 (by decide) (ref := "GridPolygons$LeastWidth") kw_198 rfl rfl (by decide +kernel) rfl rfl (Nat.le_of_ble_eq_true rfl) dX4_weigh_124 (ws' := (cW D q (sV (sV (sV u 1 z_59) 2 a) 3 b))) rfl (fun H locs hP hS => ?_)
            exact W.vret SS.1 SS.2.1 hr (fun t0 ht hW => ⟨⟨(sV (sV (sV u 1 z_59) 2 a) 3 b), rfl, (⟨z_59, a, b, rfl, by omega⟩), by show va_P D.1 j_cl (cW D q (sV (sV (sV u 1 z_59) 2 a) 3 b)) t0.heap; rw [ht]; first | exact hP | (simp only [sC_id, sX_id, sY_id, sH_id, sT_id, sV_id]; exact hP)⟩, hS.F ht⟩) hS.2.2 dX4_weigh_127 hlk
          · skip
            refine lv_iload SS.1 SS.2.1 dX4_weigh_73 (lv_at hl 0 rfl) ?_
            refine lv_aload_n SS.1 SS.2.1 dX4_weigh_75 rfl (lv_at hl 4 rfl) ?_
            refine j_get SS hG hP 3 (v := .int (J (u.2.2.2 1))) (C := RX4) (T := TX4) (N := 3) rfl rfl inX4 0 (by decide) (ref := "GridPolygons$LeastWidth") kw_194 rfl rfl dX4_weigh_76 ?_
            refine j_icmp_ne SS (tgt := 127) (x := z_59) (y := (u.2.2.2 1)) dX4_weigh_79 (by decide) (by omega) (by omega) (fun c_79 => ?_) (fun c_79 => ?_)
            · skip
              exact W.vret SS.1 SS.2.1 hr (fun t0 ht hW => ⟨⟨(sV (sV (sV u 1 (u.2.2.2 1)) 2 (u.2.2.2 2)) 3 (u.2.2.2 3)), rfl, (⟨(u.2.2.2 1), (u.2.2.2 2), (u.2.2.2 3), rfl, by omega⟩), by show va_P D.1 j_cl (cW D q (sV (sV (sV u 1 (u.2.2.2 1)) 2 (u.2.2.2 2)) 3 (u.2.2.2 3))) t0.heap; rw [ht]; first | exact hP | (simp only [sC_id, sX_id, sY_id, sH_id, sT_id, sV_id]; exact hP)⟩, hS.F ht⟩) hS.2.2 dX4_weigh_127 hlk
            · skip
              refine lv_iload SS.1 SS.2.1 dX4_weigh_82 (lv_at hl 2 rfl) ?_
              refine lv_aload_n SS.1 SS.2.1 dX4_weigh_84 rfl (lv_at hl 4 rfl) ?_
              refine j_get SS hG hP 3 (v := .int (J (u.2.2.2 2))) (C := RX4) (T := TX4) (N := 3) rfl rfl inX4 1 (by decide) (ref := "GridPolygons$LeastWidth") kw_196 rfl rfl dX4_weigh_85 ?_
              refine j_icmp_lt SS (tgt := 109) (x := a) (y := (u.2.2.2 2)) dX4_weigh_88 (by decide) (by omega) (by omega) (fun c_88 => ?_) (fun c_88 => ?_)
              · skip
                refine lv_aload_n SS.1 SS.2.1 dX4_weigh_109 rfl (lv_at hl 4 rfl) ?_
                refine lv_iload SS.1 SS.2.1 dX4_weigh_110 (lv_at hl 0 rfl) ?_
                refine j_put SS hG hP (cW_D hD) hS 3 (v := .int (J z_59)) (ty := .int) (C := RX4) (T := TX4) (N := 3) rfl rfl inX4 tyX4 tyX4_ok nmX4 0 (by decide) (ref := "GridPolygons$LeastWidth") kw_194 rfl rfl (by decide +kernel) rfl rfl (Nat.le_of_ble_eq_true rfl) dX4_weigh_112 (ws' := (cW D q (sV u 1 z_59))) rfl (fun H locs hP hS => ?_)
                refine lv_aload_n SS.1 SS.2.1 dX4_weigh_115 rfl (lv_at hl 4 rfl) ?_
                refine lv_iload SS.1 SS.2.1 dX4_weigh_116 (lv_at hl 2 rfl) ?_
                refine j_put SS hG hP (cW_D hD) hS 3 (v := .int (J a)) (ty := .int) (C := RX4) (T := TX4) (N := 3) rfl rfl inX4 tyX4 tyX4_ok nmX4 1 (by decide) (ref := "GridPolygons$LeastWidth") kw_196 rfl rfl (by decide +kernel) rfl rfl (Nat.le_of_ble_eq_true rfl) dX4_weigh_118 (ws' := (cW D q (sV (sV u 1 z_59) 2 a))) rfl (fun H locs hP hS => ?_)
                refine lv_aload_n SS.1 SS.2.1 dX4_weigh_121 rfl (lv_at hl 4 rfl) ?_
                refine lv_iload SS.1 SS.2.1 dX4_weigh_122 (lv_at hl 1 rfl) ?_
                refine j_put SS hG hP (cW_D hD) hS 3 (v := .int (J b)) (ty := .int) (C := RX4) (T := TX4) (N := 3) rfl rfl inX4 tyX4 tyX4_ok nmX4 2 (by decide) (ref := "GridPolygons$LeastWidth") kw_198 rfl rfl (by decide +kernel) rfl rfl (Nat.le_of_ble_eq_true rfl) dX4_weigh_124 (ws' := (cW D q (sV (sV (sV u 1 z_59) 2 a) 3 b))) rfl (fun H locs hP hS => ?_)
                exact W.vret SS.1 SS.2.1 hr (fun t0 ht hW => ⟨⟨(sV (sV (sV u 1 z_59) 2 a) 3 b), rfl, (⟨z_59, a, b, rfl, by omega⟩), by show va_P D.1 j_cl (cW D q (sV (sV (sV u 1 z_59) 2 a) 3 b)) t0.heap; rw [ht]; first | exact hP | (simp only [sC_id, sX_id, sY_id, sH_id, sT_id, sV_id]; exact hP)⟩, hS.F ht⟩) hS.2.2 dX4_weigh_127 hlk
              · skip
                refine lv_iload SS.1 SS.2.1 dX4_weigh_91 (lv_at hl 2 rfl) ?_
                refine lv_aload_n SS.1 SS.2.1 dX4_weigh_93 rfl (lv_at hl 4 rfl) ?_
                refine j_get SS hG hP 3 (v := .int (J (u.2.2.2 2))) (C := RX4) (T := TX4) (N := 3) rfl rfl inX4 1 (by decide) (ref := "GridPolygons$LeastWidth") kw_196 rfl rfl dX4_weigh_94 ?_
                refine j_icmp_ne SS (tgt := 127) (x := a) (y := (u.2.2.2 2)) dX4_weigh_97 (by decide) (by omega) (by omega) (fun c_97 => ?_) (fun c_97 => ?_)
                · skip
                  exact W.vret SS.1 SS.2.1 hr (fun t0 ht hW => ⟨⟨(sV (sV (sV u 1 (u.2.2.2 1)) 2 (u.2.2.2 2)) 3 (u.2.2.2 3)), rfl, (⟨(u.2.2.2 1), (u.2.2.2 2), (u.2.2.2 3), rfl, by omega⟩), by show va_P D.1 j_cl (cW D q (sV (sV (sV u 1 (u.2.2.2 1)) 2 (u.2.2.2 2)) 3 (u.2.2.2 3))) t0.heap; rw [ht]; first | exact hP | (simp only [sC_id, sX_id, sY_id, sH_id, sT_id, sV_id]; exact hP)⟩, hS.F ht⟩) hS.2.2 dX4_weigh_127 hlk
                · skip
                  refine lv_iload SS.1 SS.2.1 dX4_weigh_100 (lv_at hl 1 rfl) ?_
                  refine lv_aload_n SS.1 SS.2.1 dX4_weigh_102 rfl (lv_at hl 4 rfl) ?_
                  refine j_get SS hG hP 3 (v := .int (J (u.2.2.2 3))) (C := RX4) (T := TX4) (N := 3) rfl rfl inX4 2 (by decide) (ref := "GridPolygons$LeastWidth") kw_198 rfl rfl dX4_weigh_103 ?_
                  refine j_icmp_ge SS (tgt := 127) (x := b) (y := (u.2.2.2 3)) dX4_weigh_106 (by decide) (by omega) (by omega) (fun c_106 => ?_) (fun c_106 => ?_)
                  · skip
                    exact W.vret SS.1 SS.2.1 hr (fun t0 ht hW => ⟨⟨(sV (sV (sV u 1 (u.2.2.2 1)) 2 (u.2.2.2 2)) 3 (u.2.2.2 3)), rfl, (⟨(u.2.2.2 1), (u.2.2.2 2), (u.2.2.2 3), rfl, by omega⟩), by show va_P D.1 j_cl (cW D q (sV (sV (sV u 1 (u.2.2.2 1)) 2 (u.2.2.2 2)) 3 (u.2.2.2 3))) t0.heap; rw [ht]; first | exact hP | (simp only [sC_id, sX_id, sY_id, sH_id, sT_id, sV_id]; exact hP)⟩, hS.F ht⟩) hS.2.2 dX4_weigh_127 hlk
                  · skip
                    refine lv_aload_n SS.1 SS.2.1 dX4_weigh_109 rfl (lv_at hl 4 rfl) ?_
                    refine lv_iload SS.1 SS.2.1 dX4_weigh_110 (lv_at hl 0 rfl) ?_
                    refine j_put SS hG hP (cW_D hD) hS 3 (v := .int (J z_59)) (ty := .int) (C := RX4) (T := TX4) (N := 3) rfl rfl inX4 tyX4 tyX4_ok nmX4 0 (by decide) (ref := "GridPolygons$LeastWidth") kw_194 rfl rfl (by decide +kernel) rfl rfl (Nat.le_of_ble_eq_true rfl) dX4_weigh_112 (ws' := (cW D q (sV u 1 z_59))) rfl (fun H locs hP hS => ?_)
                    refine lv_aload_n SS.1 SS.2.1 dX4_weigh_115 rfl (lv_at hl 4 rfl) ?_
                    refine lv_iload SS.1 SS.2.1 dX4_weigh_116 (lv_at hl 2 rfl) ?_
                    refine j_put SS hG hP (cW_D hD) hS 3 (v := .int (J a)) (ty := .int) (C := RX4) (T := TX4) (N := 3) rfl rfl inX4 tyX4 tyX4_ok nmX4 1 (by decide) (ref := "GridPolygons$LeastWidth") kw_196 rfl rfl (by decide +kernel) rfl rfl (Nat.le_of_ble_eq_true rfl) dX4_weigh_118 (ws' := (cW D q (sV (sV u 1 z_59) 2 a))) rfl (fun H locs hP hS => ?_)
                    refine lv_aload_n SS.1 SS.2.1 dX4_weigh_121 rfl (lv_at hl 4 rfl) ?_
                    refine lv_iload SS.1 SS.2.1 dX4_weigh_122 (lv_at hl 1 rfl) ?_
                    refine j_put SS hG hP (cW_D hD) hS 3 (v := .int (J b)) (ty := .int) (C := RX4) (T := TX4) (N := 3) rfl rfl inX4 tyX4 tyX4_ok nmX4 2 (by decide) (ref := "GridPolygons$LeastWidth") kw_198 rfl rfl (by decide +kernel) rfl rfl (Nat.le_of_ble_eq_true rfl) dX4_weigh_124 (ws' := (cW D q (sV (sV (sV u 1 z_59) 2 a) 3 b))) rfl (fun H locs hP hS => ?_)
                    exact W.vret SS.1 SS.2.1 hr (fun t0 ht hW => ⟨⟨(sV (sV (sV u 1 z_59) 2 a) 3 b), rfl, (⟨z_59, a, b, rfl, by omega⟩), by show va_P D.1 j_cl (cW D q (sV (sV (sV u 1 z_59) 2 a) 3 b)) t0.heap; rw [ht]; first | exact hP | (simp only [sC_id, sX_id, sY_id, sH_id, sT_id, sV_id]; exact hP)⟩, hS.F ht⟩) hS.2.2 dX4_weigh_127 hlk
  · skip
    refine lv_iload_n SS.1 SS.2.1 dX4_weigh_4 rfl (lv_at hl 3 rfl) ?_
    refine j_if_ne SS (tgt := 9) (x := b) dX4_weigh_5 (by decide) (by omega) (fun c_5 => ?_) (fun c_5 => ?_)
    · skip
      refine lv_iload_n SS.1 SS.2.1 dX4_weigh_9 rfl (lv_at hl 2 rfl) ?_
      refine j_if_gt SS (tgt := 21) (x := a) dX4_weigh_10 (by decide) (by omega) (fun c_10 => ?_) (fun c_10 => ?_)
      · skip
        refine j_iconst SS dX4_weigh_21 ?_
        refine lv_goto (tgt := 26) SS.1 SS.2.1 dX4_weigh_22 (by decide) ?_
        refine lv_istore (lv' := [(4, .int (J 1)), (0, .ref (q 3)), (1, .ref (q (9 + 5 * r))), (2, .int (J a)), (3, .int (J b))]) SS.1 SS.2.1 dX4_weigh_26 hl (by decide) rfl (fun ls hl => ?_)
        refine lv_iload SS.1 SS.2.1 dX4_weigh_28 (lv_at hl 0 rfl) ?_
        refine j_if_eq SS (tgt := 37) dX4_weigh_30 (by decide) (by decide) (fun c_30 => absurd c_30 (by decide)) (fun c_30 => ?_)
        refine lv_iload_n SS.1 SS.2.1 dX4_weigh_33 rfl (lv_at hl 3 rfl) ?_
        refine lv_goto (tgt := 39) SS.1 SS.2.1 dX4_weigh_34 (by decide) ?_
        refine lv_istore (lv' := [(5, .int (J a)), (4, .int (J 1)), (0, .ref (q 3)), (1, .ref (q (9 + 5 * r))), (2, .int (J a)), (3, .int (J b))]) SS.1 SS.2.1 dX4_weigh_39 hl (by decide) rfl (fun ls hl => ?_)
        refine lv_iload SS.1 SS.2.1 dX4_weigh_41 (lv_at hl 1 rfl) ?_
        refine j_if_eq SS (tgt := 50) dX4_weigh_43 (by decide) (by decide) (fun c_43 => absurd c_43 (by decide)) (fun c_43 => ?_)
        refine lv_iload_n SS.1 SS.2.1 dX4_weigh_46 rfl (lv_at hl 5 rfl) ?_
        refine lv_goto (tgt := 52) SS.1 SS.2.1 dX4_weigh_47 (by decide) ?_
        refine lv_istore (lv' := [(6, .int (J b)), (5, .int (J a)), (4, .int (J 1)), (0, .ref (q 3)), (1, .ref (q (9 + 5 * r))), (2, .int (J a)), (3, .int (J b))]) SS.1 SS.2.1 dX4_weigh_52 hl (by decide) rfl (fun ls hl => ?_)
        refine lv_aload_n SS.1 SS.2.1 dX4_weigh_54 rfl (lv_at hl 4 rfl) ?_
        refine lv_iload SS.1 SS.2.1 dX4_weigh_55 (lv_at hl 1 rfl) ?_
        refine lv_iload SS.1 SS.2.1 dX4_weigh_57 (lv_at hl 0 rfl) ?_
        refine j_vRi SS (As := [.int (J a), .int (J b)]) (rest := []) (c_X7_across l D q u r (by omega) (40 : Int) a b (show 0 ≤ (40 : Int) ∧ (40 : Int) ≤ 80 from (by omega)) (show RB (40 : Int) u r from (p0)) (show -20000 ≤ a ∧ a ≤ 20000 from (p1)) (show -20000 ≤ b ∧ b ≤ 20000 from (p2))) mf_X7_across kw_643 hG hP hP (ci := 7) (q0 := (9 + 5 * r)) rfl (cw_ring (by omega)) rfl rfl hl.1 ⟨⟨Nat.le_of_ble_eq_true rfl, Nat.le_of_ble_eq_true rfl⟩, Nat.le_of_ble_eq_true rfl, Nat.le_refl _, Nat.le_refl _⟩ rfl dX4_weigh_59 (fun z_59 h_59 => ?_)
        have h_59 : 0 ≤ z_59 ∧ z_59 ≤ 6400000 ∧ (a = 0 → b = 1 → z_59 ≤ 2 * (40 : Int)) := h_59
        refine lv_istore (lv' := [(7, .int (J z_59)), (6, .int (J b)), (5, .int (J a)), (4, .int (J 1)), (0, .ref (q 3)), (1, .ref (q (9 + 5 * r))), (2, .int (J a)), (3, .int (J b))]) SS.1 SS.2.1 dX4_weigh_62 hl (by decide) rfl (fun ls hl => ?_)
        refine lv_iload SS.1 SS.2.1 dX4_weigh_64 (lv_at hl 0 rfl) ?_
        refine lv_aload_n SS.1 SS.2.1 dX4_weigh_66 rfl (lv_at hl 4 rfl) ?_
        refine j_get SS hG hP 3 (v := .int (J (u.2.2.2 1))) (C := RX4) (T := TX4) (N := 3) rfl rfl inX4 0 (by decide) (ref := "GridPolygons$LeastWidth") kw_194 rfl rfl dX4_weigh_67 ?_
        refine j_icmp_lt SS (tgt := 109) (x := z_59) (y := (u.2.2.2 1)) dX4_weigh_70 (by decide) (by omega) (by omega) (fun c_70 => ?_) (fun c_70 => ?_)
        · skip
          refine lv_aload_n SS.1 SS.2.1 dX4_weigh_109 rfl (lv_at hl 4 rfl) ?_
          refine lv_iload SS.1 SS.2.1 dX4_weigh_110 (lv_at hl 0 rfl) ?_
          refine j_put SS hG hP (cW_D hD) hS 3 (v := .int (J z_59)) (ty := .int) (C := RX4) (T := TX4) (N := 3) rfl rfl inX4 tyX4 tyX4_ok nmX4 0 (by decide) (ref := "GridPolygons$LeastWidth") kw_194 rfl rfl (by decide +kernel) rfl rfl (Nat.le_of_ble_eq_true rfl) dX4_weigh_112 (ws' := (cW D q (sV u 1 z_59))) rfl (fun H locs hP hS => ?_)
          refine lv_aload_n SS.1 SS.2.1 dX4_weigh_115 rfl (lv_at hl 4 rfl) ?_
          refine lv_iload SS.1 SS.2.1 dX4_weigh_116 (lv_at hl 2 rfl) ?_
          refine j_put SS hG hP (cW_D hD) hS 3 (v := .int (J a)) (ty := .int) (C := RX4) (T := TX4) (N := 3) rfl rfl inX4 tyX4 tyX4_ok nmX4 1 (by decide) (ref := "GridPolygons$LeastWidth") kw_196 rfl rfl (by decide +kernel) rfl rfl (Nat.le_of_ble_eq_true rfl) dX4_weigh_118 (ws' := (cW D q (sV (sV u 1 z_59) 2 a))) rfl (fun H locs hP hS => ?_)
          refine lv_aload_n SS.1 SS.2.1 dX4_weigh_121 rfl (lv_at hl 4 rfl) ?_
          refine lv_iload SS.1 SS.2.1 dX4_weigh_122 (lv_at hl 1 rfl) ?_
          refine j_put SS hG hP (cW_D hD) hS 3 (v := .int (J b)) (ty := .int) (C := RX4) (T := TX4) (N := 3) rfl rfl inX4 tyX4 tyX4_ok nmX4 2 (by decide) (ref := "GridPolygons$LeastWidth") kw_198 rfl rfl (by decide +kernel) rfl rfl (Nat.le_of_ble_eq_true rfl) dX4_weigh_124 (ws' := (cW D q (sV (sV (sV u 1 z_59) 2 a) 3 b))) rfl (fun H locs hP hS => ?_)
          exact W.vret SS.1 SS.2.1 hr (fun t0 ht hW => ⟨⟨(sV (sV (sV u 1 z_59) 2 a) 3 b), rfl, (⟨z_59, a, b, rfl, by omega⟩), by show va_P D.1 j_cl (cW D q (sV (sV (sV u 1 z_59) 2 a) 3 b)) t0.heap; rw [ht]; first | exact hP | (simp only [sC_id, sX_id, sY_id, sH_id, sT_id, sV_id]; exact hP)⟩, hS.F ht⟩) hS.2.2 dX4_weigh_127 hlk
        · skip
          refine lv_iload SS.1 SS.2.1 dX4_weigh_73 (lv_at hl 0 rfl) ?_
          refine lv_aload_n SS.1 SS.2.1 dX4_weigh_75 rfl (lv_at hl 4 rfl) ?_
          refine j_get SS hG hP 3 (v := .int (J (u.2.2.2 1))) (C := RX4) (T := TX4) (N := 3) rfl rfl inX4 0 (by decide) (ref := "GridPolygons$LeastWidth") kw_194 rfl rfl dX4_weigh_76 ?_
          refine j_icmp_ne SS (tgt := 127) (x := z_59) (y := (u.2.2.2 1)) dX4_weigh_79 (by decide) (by omega) (by omega) (fun c_79 => ?_) (fun c_79 => ?_)
          · skip
            exact W.vret SS.1 SS.2.1 hr (fun t0 ht hW => ⟨⟨(sV (sV (sV u 1 (u.2.2.2 1)) 2 (u.2.2.2 2)) 3 (u.2.2.2 3)), rfl, (⟨(u.2.2.2 1), (u.2.2.2 2), (u.2.2.2 3), rfl, by omega⟩), by show va_P D.1 j_cl (cW D q (sV (sV (sV u 1 (u.2.2.2 1)) 2 (u.2.2.2 2)) 3 (u.2.2.2 3))) t0.heap; rw [ht]; first | exact hP | (simp only [sC_id, sX_id, sY_id, sH_id, sT_id, sV_id]; exact hP)⟩, hS.F ht⟩) hS.2.2 dX4_weigh_127 hlk
          · skip
            refine lv_iload SS.1 SS.2.1 dX4_weigh_82 (lv_at hl 2 rfl) ?_
            refine lv_aload_n SS.1 SS.2.1 dX4_weigh_84 rfl (lv_at hl 4 rfl) ?_
            refine j_get SS hG hP 3 (v := .int (J (u.2.2.2 2))) (C := RX4) (T := TX4) (N := 3) rfl rfl inX4 1 (by decide) (ref := "GridPolygons$LeastWidth") kw_196 rfl rfl dX4_weigh_85 ?_
            refine j_icmp_lt SS (tgt := 109) (x := a) (y := (u.2.2.2 2)) dX4_weigh_88 (by decide) (by omega) (by omega) (fun c_88 => ?_) (fun c_88 => ?_)
            · skip
              refine lv_aload_n SS.1 SS.2.1 dX4_weigh_109 rfl (lv_at hl 4 rfl) ?_
              refine lv_iload SS.1 SS.2.1 dX4_weigh_110 (lv_at hl 0 rfl) ?_
              refine j_put SS hG hP (cW_D hD) hS 3 (v := .int (J z_59)) (ty := .int) (C := RX4) (T := TX4) (N := 3) rfl rfl inX4 tyX4 tyX4_ok nmX4 0 (by decide) (ref := "GridPolygons$LeastWidth") kw_194 rfl rfl (by decide +kernel) rfl rfl (Nat.le_of_ble_eq_true rfl) dX4_weigh_112 (ws' := (cW D q (sV u 1 z_59))) rfl (fun H locs hP hS => ?_)
              refine lv_aload_n SS.1 SS.2.1 dX4_weigh_115 rfl (lv_at hl 4 rfl) ?_
              refine lv_iload SS.1 SS.2.1 dX4_weigh_116 (lv_at hl 2 rfl) ?_
              refine j_put SS hG hP (cW_D hD) hS 3 (v := .int (J a)) (ty := .int) (C := RX4) (T := TX4) (N := 3) rfl rfl inX4 tyX4 tyX4_ok nmX4 1 (by decide) (ref := "GridPolygons$LeastWidth") kw_196 rfl rfl (by decide +kernel) rfl rfl (Nat.le_of_ble_eq_true rfl) dX4_weigh_118 (ws' := (cW D q (sV (sV u 1 z_59) 2 a))) rfl (fun H locs hP hS => ?_)
              refine lv_aload_n SS.1 SS.2.1 dX4_weigh_121 rfl (lv_at hl 4 rfl) ?_
              refine lv_iload SS.1 SS.2.1 dX4_weigh_122 (lv_at hl 1 rfl) ?_
              refine j_put SS hG hP (cW_D hD) hS 3 (v := .int (J b)) (ty := .int) (C := RX4) (T := TX4) (N := 3) rfl rfl inX4 tyX4 tyX4_ok nmX4 2 (by decide) (ref := "GridPolygons$LeastWidth") kw_198 rfl rfl (by decide +kernel) rfl rfl (Nat.le_of_ble_eq_true rfl) dX4_weigh_124 (ws' := (cW D q (sV (sV (sV u 1 z_59) 2 a) 3 b))) rfl (fun H locs hP hS => ?_)
              exact W.vret SS.1 SS.2.1 hr (fun t0 ht hW => ⟨⟨(sV (sV (sV u 1 z_59) 2 a) 3 b), rfl, (⟨z_59, a, b, rfl, by omega⟩), by show va_P D.1 j_cl (cW D q (sV (sV (sV u 1 z_59) 2 a) 3 b)) t0.heap; rw [ht]; first | exact hP | (simp only [sC_id, sX_id, sY_id, sH_id, sT_id, sV_id]; exact hP)⟩, hS.F ht⟩) hS.2.2 dX4_weigh_127 hlk
            · skip
              refine lv_iload SS.1 SS.2.1 dX4_weigh_91 (lv_at hl 2 rfl) ?_
              refine lv_aload_n SS.1 SS.2.1 dX4_weigh_93 rfl (lv_at hl 4 rfl) ?_
              refine j_get SS hG hP 3 (v := .int (J (u.2.2.2 2))) (C := RX4) (T := TX4) (N := 3) rfl rfl inX4 1 (by decide) (ref := "GridPolygons$LeastWidth") kw_196 rfl rfl dX4_weigh_94 ?_
              refine j_icmp_ne SS (tgt := 127) (x := a) (y := (u.2.2.2 2)) dX4_weigh_97 (by decide) (by omega) (by omega) (fun c_97 => ?_) (fun c_97 => ?_)
              · skip
                exact W.vret SS.1 SS.2.1 hr (fun t0 ht hW => ⟨⟨(sV (sV (sV u 1 (u.2.2.2 1)) 2 (u.2.2.2 2)) 3 (u.2.2.2 3)), rfl, (⟨(u.2.2.2 1), (u.2.2.2 2), (u.2.2.2 3), rfl, by omega⟩), by show va_P D.1 j_cl (cW D q (sV (sV (sV u 1 (u.2.2.2 1)) 2 (u.2.2.2 2)) 3 (u.2.2.2 3))) t0.heap; rw [ht]; first | exact hP | (simp only [sC_id, sX_id, sY_id, sH_id, sT_id, sV_id]; exact hP)⟩, hS.F ht⟩) hS.2.2 dX4_weigh_127 hlk
              · skip
                refine lv_iload SS.1 SS.2.1 dX4_weigh_100 (lv_at hl 1 rfl) ?_
                refine lv_aload_n SS.1 SS.2.1 dX4_weigh_102 rfl (lv_at hl 4 rfl) ?_
                refine j_get SS hG hP 3 (v := .int (J (u.2.2.2 3))) (C := RX4) (T := TX4) (N := 3) rfl rfl inX4 2 (by decide) (ref := "GridPolygons$LeastWidth") kw_198 rfl rfl dX4_weigh_103 ?_
                refine j_icmp_ge SS (tgt := 127) (x := b) (y := (u.2.2.2 3)) dX4_weigh_106 (by decide) (by omega) (by omega) (fun c_106 => ?_) (fun c_106 => ?_)
                · skip
                  exact W.vret SS.1 SS.2.1 hr (fun t0 ht hW => ⟨⟨(sV (sV (sV u 1 (u.2.2.2 1)) 2 (u.2.2.2 2)) 3 (u.2.2.2 3)), rfl, (⟨(u.2.2.2 1), (u.2.2.2 2), (u.2.2.2 3), rfl, by omega⟩), by show va_P D.1 j_cl (cW D q (sV (sV (sV u 1 (u.2.2.2 1)) 2 (u.2.2.2 2)) 3 (u.2.2.2 3))) t0.heap; rw [ht]; first | exact hP | (simp only [sC_id, sX_id, sY_id, sH_id, sT_id, sV_id]; exact hP)⟩, hS.F ht⟩) hS.2.2 dX4_weigh_127 hlk
                · skip
                  refine lv_aload_n SS.1 SS.2.1 dX4_weigh_109 rfl (lv_at hl 4 rfl) ?_
                  refine lv_iload SS.1 SS.2.1 dX4_weigh_110 (lv_at hl 0 rfl) ?_
                  refine j_put SS hG hP (cW_D hD) hS 3 (v := .int (J z_59)) (ty := .int) (C := RX4) (T := TX4) (N := 3) rfl rfl inX4 tyX4 tyX4_ok nmX4 0 (by decide) (ref := "GridPolygons$LeastWidth") kw_194 rfl rfl (by decide +kernel) rfl rfl (Nat.le_of_ble_eq_true rfl) dX4_weigh_112 (ws' := (cW D q (sV u 1 z_59))) rfl (fun H locs hP hS => ?_)
                  refine lv_aload_n SS.1 SS.2.1 dX4_weigh_115 rfl (lv_at hl 4 rfl) ?_
                  refine lv_iload SS.1 SS.2.1 dX4_weigh_116 (lv_at hl 2 rfl) ?_
                  refine j_put SS hG hP (cW_D hD) hS 3 (v := .int (J a)) (ty := .int) (C := RX4) (T := TX4) (N := 3) rfl rfl inX4 tyX4 tyX4_ok nmX4 1 (by decide) (ref := "GridPolygons$LeastWidth") kw_196 rfl rfl (by decide +kernel) rfl rfl (Nat.le_of_ble_eq_true rfl) dX4_weigh_118 (ws' := (cW D q (sV (sV u 1 z_59) 2 a))) rfl (fun H locs hP hS => ?_)
                  refine lv_aload_n SS.1 SS.2.1 dX4_weigh_121 rfl (lv_at hl 4 rfl) ?_
                  refine lv_iload SS.1 SS.2.1 dX4_weigh_122 (lv_at hl 1 rfl) ?_
                  refine j_put SS hG hP (cW_D hD) hS 3 (v := .int (J b)) (ty := .int) (C := RX4) (T := TX4) (N := 3) rfl rfl inX4 tyX4 tyX4_ok nmX4 2 (by decide) (ref := "GridPolygons$LeastWidth") kw_198 rfl rfl (by decide +kernel) rfl rfl (Nat.le_of_ble_eq_true rfl) dX4_weigh_124 (ws' := (cW D q (sV (sV (sV u 1 z_59) 2 a) 3 b))) rfl (fun H locs hP hS => ?_)
                  exact W.vret SS.1 SS.2.1 hr (fun t0 ht hW => ⟨⟨(sV (sV (sV u 1 z_59) 2 a) 3 b), rfl, (⟨z_59, a, b, rfl, by omega⟩), by show va_P D.1 j_cl (cW D q (sV (sV (sV u 1 z_59) 2 a) 3 b)) t0.heap; rw [ht]; first | exact hP | (simp only [sC_id, sX_id, sY_id, sH_id, sT_id, sV_id]; exact hP)⟩, hS.F ht⟩) hS.2.2 dX4_weigh_127 hlk
      · skip
        refine lv_iload_n SS.1 SS.2.1 dX4_weigh_13 rfl (lv_at hl 2 rfl) ?_
        refine j_if_ne SS (tgt := 25) (x := a) dX4_weigh_14 (by decide) (by omega) (fun c_14 => ?_) (fun c_14 => ?_)
        · skip
          refine j_iconst SS dX4_weigh_25 ?_
          refine lv_istore (lv' := [(4, .int (J 0)), (0, .ref (q 3)), (1, .ref (q (9 + 5 * r))), (2, .int (J a)), (3, .int (J b))]) SS.1 SS.2.1 dX4_weigh_26 hl (by decide) rfl (fun ls hl => ?_)
          refine lv_iload SS.1 SS.2.1 dX4_weigh_28 (lv_at hl 0 rfl) ?_
          refine j_if_eq SS (tgt := 37) dX4_weigh_30 (by decide) (by decide) (fun c_30 => ?_) (fun c_30 => absurd c_30 (by decide))
          refine lv_iload_n SS.1 SS.2.1 dX4_weigh_37 rfl (lv_at hl 3 rfl) ?_
          refine j_ineg SS dX4_weigh_38 ?_
          refine lv_istore (lv' := [(5, .int (J (-a))), (4, .int (J 0)), (0, .ref (q 3)), (1, .ref (q (9 + 5 * r))), (2, .int (J a)), (3, .int (J b))]) SS.1 SS.2.1 dX4_weigh_39 hl (by decide) rfl (fun ls hl => ?_)
          refine lv_iload SS.1 SS.2.1 dX4_weigh_41 (lv_at hl 1 rfl) ?_
          refine j_if_eq SS (tgt := 50) dX4_weigh_43 (by decide) (by decide) (fun c_43 => ?_) (fun c_43 => absurd c_43 (by decide))
          refine lv_iload_n SS.1 SS.2.1 dX4_weigh_50 rfl (lv_at hl 5 rfl) ?_
          refine j_ineg SS dX4_weigh_51 ?_
          refine lv_istore (lv' := [(6, .int (J (-b))), (5, .int (J (-a))), (4, .int (J 0)), (0, .ref (q 3)), (1, .ref (q (9 + 5 * r))), (2, .int (J a)), (3, .int (J b))]) SS.1 SS.2.1 dX4_weigh_52 hl (by decide) rfl (fun ls hl => ?_)
          refine lv_aload_n SS.1 SS.2.1 dX4_weigh_54 rfl (lv_at hl 4 rfl) ?_
          refine lv_iload SS.1 SS.2.1 dX4_weigh_55 (lv_at hl 1 rfl) ?_
          refine lv_iload SS.1 SS.2.1 dX4_weigh_57 (lv_at hl 0 rfl) ?_
          refine j_vRi SS (As := [.int (J (-a)), .int (J (-b))]) (rest := []) (c_X7_across l D q u r (by omega) (40 : Int) (-a) (-b) (show 0 ≤ (40 : Int) ∧ (40 : Int) ≤ 80 from (by omega)) (show RB (40 : Int) u r from (p0)) (show -20000 ≤ (-a) ∧ (-a) ≤ 20000 from (by omega)) (show -20000 ≤ (-b) ∧ (-b) ≤ 20000 from (by omega))) mf_X7_across kw_643 hG hP hP (ci := 7) (q0 := (9 + 5 * r)) rfl (cw_ring (by omega)) rfl rfl hl.1 ⟨⟨Nat.le_of_ble_eq_true rfl, Nat.le_of_ble_eq_true rfl⟩, Nat.le_of_ble_eq_true rfl, Nat.le_refl _, Nat.le_refl _⟩ rfl dX4_weigh_59 (fun z_59 h_59 => ?_)
          have h_59 : 0 ≤ z_59 ∧ z_59 ≤ 6400000 ∧ ((-a) = 0 → (-b) = 1 → z_59 ≤ 2 * (40 : Int)) := h_59
          refine lv_istore (lv' := [(7, .int (J z_59)), (6, .int (J (-b))), (5, .int (J (-a))), (4, .int (J 0)), (0, .ref (q 3)), (1, .ref (q (9 + 5 * r))), (2, .int (J a)), (3, .int (J b))]) SS.1 SS.2.1 dX4_weigh_62 hl (by decide) rfl (fun ls hl => ?_)
          refine lv_iload SS.1 SS.2.1 dX4_weigh_64 (lv_at hl 0 rfl) ?_
          refine lv_aload_n SS.1 SS.2.1 dX4_weigh_66 rfl (lv_at hl 4 rfl) ?_
          refine j_get SS hG hP 3 (v := .int (J (u.2.2.2 1))) (C := RX4) (T := TX4) (N := 3) rfl rfl inX4 0 (by decide) (ref := "GridPolygons$LeastWidth") kw_194 rfl rfl dX4_weigh_67 ?_
          refine j_icmp_lt SS (tgt := 109) (x := z_59) (y := (u.2.2.2 1)) dX4_weigh_70 (by decide) (by omega) (by omega) (fun c_70 => ?_) (fun c_70 => ?_)
          · skip
            refine lv_aload_n SS.1 SS.2.1 dX4_weigh_109 rfl (lv_at hl 4 rfl) ?_
            refine lv_iload SS.1 SS.2.1 dX4_weigh_110 (lv_at hl 0 rfl) ?_
            refine j_put SS hG hP (cW_D hD) hS 3 (v := .int (J z_59)) (ty := .int) (C := RX4) (T := TX4) (N := 3) rfl rfl inX4 tyX4 tyX4_ok nmX4 0 (by decide) (ref := "GridPolygons$LeastWidth") kw_194 rfl rfl (by decide +kernel) rfl rfl (Nat.le_of_ble_eq_true rfl) dX4_weigh_112 (ws' := (cW D q (sV u 1 z_59))) rfl (fun H locs hP hS => ?_)
            refine lv_aload_n SS.1 SS.2.1 dX4_weigh_115 rfl (lv_at hl 4 rfl) ?_
            refine lv_iload SS.1 SS.2.1 dX4_weigh_116 (lv_at hl 2 rfl) ?_
            refine j_put SS hG hP (cW_D hD) hS 3 (v := .int (J (-a))) (ty := .int) (C := RX4) (T := TX4) (N := 3) rfl rfl inX4 tyX4 tyX4_ok nmX4 1 (by decide) (ref := "GridPolygons$LeastWidth") kw_196 rfl rfl (by decide +kernel) rfl rfl (Nat.le_of_ble_eq_true rfl) dX4_weigh_118 (ws' := (cW D q (sV (sV u 1 z_59) 2 (-a)))) rfl (fun H locs hP hS => ?_)
            refine lv_aload_n SS.1 SS.2.1 dX4_weigh_121 rfl (lv_at hl 4 rfl) ?_
            refine lv_iload SS.1 SS.2.1 dX4_weigh_122 (lv_at hl 1 rfl) ?_
            refine j_put SS hG hP (cW_D hD) hS 3 (v := .int (J (-b))) (ty := .int) (C := RX4) (T := TX4) (N := 3) rfl rfl inX4 tyX4 tyX4_ok nmX4 2 (by decide) (ref := "GridPolygons$LeastWidth") kw_198 rfl rfl (by decide +kernel) rfl rfl (Nat.le_of_ble_eq_true rfl) dX4_weigh_124 (ws' := (cW D q (sV (sV (sV u 1 z_59) 2 (-a)) 3 (-b)))) rfl (fun H locs hP hS => ?_)
            exact W.vret SS.1 SS.2.1 hr (fun t0 ht hW => ⟨⟨(sV (sV (sV u 1 z_59) 2 (-a)) 3 (-b)), rfl, (⟨z_59, (-a), (-b), rfl, by omega⟩), by show va_P D.1 j_cl (cW D q (sV (sV (sV u 1 z_59) 2 (-a)) 3 (-b))) t0.heap; rw [ht]; first | exact hP | (simp only [sC_id, sX_id, sY_id, sH_id, sT_id, sV_id]; exact hP)⟩, hS.F ht⟩) hS.2.2 dX4_weigh_127 hlk
          · skip
            refine lv_iload SS.1 SS.2.1 dX4_weigh_73 (lv_at hl 0 rfl) ?_
            refine lv_aload_n SS.1 SS.2.1 dX4_weigh_75 rfl (lv_at hl 4 rfl) ?_
            refine j_get SS hG hP 3 (v := .int (J (u.2.2.2 1))) (C := RX4) (T := TX4) (N := 3) rfl rfl inX4 0 (by decide) (ref := "GridPolygons$LeastWidth") kw_194 rfl rfl dX4_weigh_76 ?_
            refine j_icmp_ne SS (tgt := 127) (x := z_59) (y := (u.2.2.2 1)) dX4_weigh_79 (by decide) (by omega) (by omega) (fun c_79 => ?_) (fun c_79 => ?_)
            · skip
              exact W.vret SS.1 SS.2.1 hr (fun t0 ht hW => ⟨⟨(sV (sV (sV u 1 (u.2.2.2 1)) 2 (u.2.2.2 2)) 3 (u.2.2.2 3)), rfl, (⟨(u.2.2.2 1), (u.2.2.2 2), (u.2.2.2 3), rfl, by omega⟩), by show va_P D.1 j_cl (cW D q (sV (sV (sV u 1 (u.2.2.2 1)) 2 (u.2.2.2 2)) 3 (u.2.2.2 3))) t0.heap; rw [ht]; first | exact hP | (simp only [sC_id, sX_id, sY_id, sH_id, sT_id, sV_id]; exact hP)⟩, hS.F ht⟩) hS.2.2 dX4_weigh_127 hlk
            · skip
              refine lv_iload SS.1 SS.2.1 dX4_weigh_82 (lv_at hl 2 rfl) ?_
              refine lv_aload_n SS.1 SS.2.1 dX4_weigh_84 rfl (lv_at hl 4 rfl) ?_
              refine j_get SS hG hP 3 (v := .int (J (u.2.2.2 2))) (C := RX4) (T := TX4) (N := 3) rfl rfl inX4 1 (by decide) (ref := "GridPolygons$LeastWidth") kw_196 rfl rfl dX4_weigh_85 ?_
              refine j_icmp_lt SS (tgt := 109) (x := (-a)) (y := (u.2.2.2 2)) dX4_weigh_88 (by decide) (by omega) (by omega) (fun c_88 => ?_) (fun c_88 => ?_)
              · skip
                refine lv_aload_n SS.1 SS.2.1 dX4_weigh_109 rfl (lv_at hl 4 rfl) ?_
                refine lv_iload SS.1 SS.2.1 dX4_weigh_110 (lv_at hl 0 rfl) ?_
                refine j_put SS hG hP (cW_D hD) hS 3 (v := .int (J z_59)) (ty := .int) (C := RX4) (T := TX4) (N := 3) rfl rfl inX4 tyX4 tyX4_ok nmX4 0 (by decide) (ref := "GridPolygons$LeastWidth") kw_194 rfl rfl (by decide +kernel) rfl rfl (Nat.le_of_ble_eq_true rfl) dX4_weigh_112 (ws' := (cW D q (sV u 1 z_59))) rfl (fun H locs hP hS => ?_)
                refine lv_aload_n SS.1 SS.2.1 dX4_weigh_115 rfl (lv_at hl 4 rfl) ?_
                refine lv_iload SS.1 SS.2.1 dX4_weigh_116 (lv_at hl 2 rfl) ?_
                refine j_put SS hG hP (cW_D hD) hS 3 (v := .int (J (-a))) (ty := .int) (C := RX4) (T := TX4) (N := 3) rfl rfl inX4 tyX4 tyX4_ok nmX4 1 (by decide) (ref := "GridPolygons$LeastWidth") kw_196 rfl rfl (by decide +kernel) rfl rfl (Nat.le_of_ble_eq_true rfl) dX4_weigh_118 (ws' := (cW D q (sV (sV u 1 z_59) 2 (-a)))) rfl (fun H locs hP hS => ?_)
                refine lv_aload_n SS.1 SS.2.1 dX4_weigh_121 rfl (lv_at hl 4 rfl) ?_
                refine lv_iload SS.1 SS.2.1 dX4_weigh_122 (lv_at hl 1 rfl) ?_
                refine j_put SS hG hP (cW_D hD) hS 3 (v := .int (J (-b))) (ty := .int) (C := RX4) (T := TX4) (N := 3) rfl rfl inX4 tyX4 tyX4_ok nmX4 2 (by decide) (ref := "GridPolygons$LeastWidth") kw_198 rfl rfl (by decide +kernel) rfl rfl (Nat.le_of_ble_eq_true rfl) dX4_weigh_124 (ws' := (cW D q (sV (sV (sV u 1 z_59) 2 (-a)) 3 (-b)))) rfl (fun H locs hP hS => ?_)
                exact W.vret SS.1 SS.2.1 hr (fun t0 ht hW => ⟨⟨(sV (sV (sV u 1 z_59) 2 (-a)) 3 (-b)), rfl, (⟨z_59, (-a), (-b), rfl, by omega⟩), by show va_P D.1 j_cl (cW D q (sV (sV (sV u 1 z_59) 2 (-a)) 3 (-b))) t0.heap; rw [ht]; first | exact hP | (simp only [sC_id, sX_id, sY_id, sH_id, sT_id, sV_id]; exact hP)⟩, hS.F ht⟩) hS.2.2 dX4_weigh_127 hlk
              · skip
                refine lv_iload SS.1 SS.2.1 dX4_weigh_91 (lv_at hl 2 rfl) ?_
                refine lv_aload_n SS.1 SS.2.1 dX4_weigh_93 rfl (lv_at hl 4 rfl) ?_
                refine j_get SS hG hP 3 (v := .int (J (u.2.2.2 2))) (C := RX4) (T := TX4) (N := 3) rfl rfl inX4 1 (by decide) (ref := "GridPolygons$LeastWidth") kw_196 rfl rfl dX4_weigh_94 ?_
                refine j_icmp_ne SS (tgt := 127) (x := (-a)) (y := (u.2.2.2 2)) dX4_weigh_97 (by decide) (by omega) (by omega) (fun c_97 => ?_) (fun c_97 => ?_)
                · skip
                  exact W.vret SS.1 SS.2.1 hr (fun t0 ht hW => ⟨⟨(sV (sV (sV u 1 (u.2.2.2 1)) 2 (u.2.2.2 2)) 3 (u.2.2.2 3)), rfl, (⟨(u.2.2.2 1), (u.2.2.2 2), (u.2.2.2 3), rfl, by omega⟩), by show va_P D.1 j_cl (cW D q (sV (sV (sV u 1 (u.2.2.2 1)) 2 (u.2.2.2 2)) 3 (u.2.2.2 3))) t0.heap; rw [ht]; first | exact hP | (simp only [sC_id, sX_id, sY_id, sH_id, sT_id, sV_id]; exact hP)⟩, hS.F ht⟩) hS.2.2 dX4_weigh_127 hlk
                · skip
                  refine lv_iload SS.1 SS.2.1 dX4_weigh_100 (lv_at hl 1 rfl) ?_
                  refine lv_aload_n SS.1 SS.2.1 dX4_weigh_102 rfl (lv_at hl 4 rfl) ?_
                  refine j_get SS hG hP 3 (v := .int (J (u.2.2.2 3))) (C := RX4) (T := TX4) (N := 3) rfl rfl inX4 2 (by decide) (ref := "GridPolygons$LeastWidth") kw_198 rfl rfl dX4_weigh_103 ?_
                  refine j_icmp_ge SS (tgt := 127) (x := (-b)) (y := (u.2.2.2 3)) dX4_weigh_106 (by decide) (by omega) (by omega) (fun c_106 => ?_) (fun c_106 => ?_)
                  · skip
                    exact W.vret SS.1 SS.2.1 hr (fun t0 ht hW => ⟨⟨(sV (sV (sV u 1 (u.2.2.2 1)) 2 (u.2.2.2 2)) 3 (u.2.2.2 3)), rfl, (⟨(u.2.2.2 1), (u.2.2.2 2), (u.2.2.2 3), rfl, by omega⟩), by show va_P D.1 j_cl (cW D q (sV (sV (sV u 1 (u.2.2.2 1)) 2 (u.2.2.2 2)) 3 (u.2.2.2 3))) t0.heap; rw [ht]; first | exact hP | (simp only [sC_id, sX_id, sY_id, sH_id, sT_id, sV_id]; exact hP)⟩, hS.F ht⟩) hS.2.2 dX4_weigh_127 hlk
                  · skip
                    refine lv_aload_n SS.1 SS.2.1 dX4_weigh_109 rfl (lv_at hl 4 rfl) ?_
                    refine lv_iload SS.1 SS.2.1 dX4_weigh_110 (lv_at hl 0 rfl) ?_
                    refine j_put SS hG hP (cW_D hD) hS 3 (v := .int (J z_59)) (ty := .int) (C := RX4) (T := TX4) (N := 3) rfl rfl inX4 tyX4 tyX4_ok nmX4 0 (by decide) (ref := "GridPolygons$LeastWidth") kw_194 rfl rfl (by decide +kernel) rfl rfl (Nat.le_of_ble_eq_true rfl) dX4_weigh_112 (ws' := (cW D q (sV u 1 z_59))) rfl (fun H locs hP hS => ?_)
                    refine lv_aload_n SS.1 SS.2.1 dX4_weigh_115 rfl (lv_at hl 4 rfl) ?_
                    refine lv_iload SS.1 SS.2.1 dX4_weigh_116 (lv_at hl 2 rfl) ?_
                    refine j_put SS hG hP (cW_D hD) hS 3 (v := .int (J (-a))) (ty := .int) (C := RX4) (T := TX4) (N := 3) rfl rfl inX4 tyX4 tyX4_ok nmX4 1 (by decide) (ref := "GridPolygons$LeastWidth") kw_196 rfl rfl (by decide +kernel) rfl rfl (Nat.le_of_ble_eq_true rfl) dX4_weigh_118 (ws' := (cW D q (sV (sV u 1 z_59) 2 (-a)))) rfl (fun H locs hP hS => ?_)
                    refine lv_aload_n SS.1 SS.2.1 dX4_weigh_121 rfl (lv_at hl 4 rfl) ?_
                    refine lv_iload SS.1 SS.2.1 dX4_weigh_122 (lv_at hl 1 rfl) ?_
                    refine j_put SS hG hP (cW_D hD) hS 3 (v := .int (J (-b))) (ty := .int) (C := RX4) (T := TX4) (N := 3) rfl rfl inX4 tyX4 tyX4_ok nmX4 2 (by decide) (ref := "GridPolygons$LeastWidth") kw_198 rfl rfl (by decide +kernel) rfl rfl (Nat.le_of_ble_eq_true rfl) dX4_weigh_124 (ws' := (cW D q (sV (sV (sV u 1 z_59) 2 (-a)) 3 (-b)))) rfl (fun H locs hP hS => ?_)
                    exact W.vret SS.1 SS.2.1 hr (fun t0 ht hW => ⟨⟨(sV (sV (sV u 1 z_59) 2 (-a)) 3 (-b)), rfl, (⟨z_59, (-a), (-b), rfl, by omega⟩), by show va_P D.1 j_cl (cW D q (sV (sV (sV u 1 z_59) 2 (-a)) 3 (-b))) t0.heap; rw [ht]; first | exact hP | (simp only [sC_id, sX_id, sY_id, sH_id, sT_id, sV_id]; exact hP)⟩, hS.F ht⟩) hS.2.2 dX4_weigh_127 hlk
        · skip
          refine lv_iload_n SS.1 SS.2.1 dX4_weigh_17 rfl (lv_at hl 3 rfl) ?_
          refine j_if_le SS (tgt := 25) (x := b) dX4_weigh_18 (by decide) (by omega) (fun c_18 => ?_) (fun c_18 => ?_)
          · skip
            refine j_iconst SS dX4_weigh_25 ?_
            refine lv_istore (lv' := [(4, .int (J 0)), (0, .ref (q 3)), (1, .ref (q (9 + 5 * r))), (2, .int (J a)), (3, .int (J b))]) SS.1 SS.2.1 dX4_weigh_26 hl (by decide) rfl (fun ls hl => ?_)
            refine lv_iload SS.1 SS.2.1 dX4_weigh_28 (lv_at hl 0 rfl) ?_
            refine j_if_eq SS (tgt := 37) dX4_weigh_30 (by decide) (by decide) (fun c_30 => ?_) (fun c_30 => absurd c_30 (by decide))
            refine lv_iload_n SS.1 SS.2.1 dX4_weigh_37 rfl (lv_at hl 3 rfl) ?_
            refine j_ineg SS dX4_weigh_38 ?_
            refine lv_istore (lv' := [(5, .int (J (-a))), (4, .int (J 0)), (0, .ref (q 3)), (1, .ref (q (9 + 5 * r))), (2, .int (J a)), (3, .int (J b))]) SS.1 SS.2.1 dX4_weigh_39 hl (by decide) rfl (fun ls hl => ?_)
            refine lv_iload SS.1 SS.2.1 dX4_weigh_41 (lv_at hl 1 rfl) ?_
            refine j_if_eq SS (tgt := 50) dX4_weigh_43 (by decide) (by decide) (fun c_43 => ?_) (fun c_43 => absurd c_43 (by decide))
            refine lv_iload_n SS.1 SS.2.1 dX4_weigh_50 rfl (lv_at hl 5 rfl) ?_
            refine j_ineg SS dX4_weigh_51 ?_
            refine lv_istore (lv' := [(6, .int (J (-b))), (5, .int (J (-a))), (4, .int (J 0)), (0, .ref (q 3)), (1, .ref (q (9 + 5 * r))), (2, .int (J a)), (3, .int (J b))]) SS.1 SS.2.1 dX4_weigh_52 hl (by decide) rfl (fun ls hl => ?_)
            refine lv_aload_n SS.1 SS.2.1 dX4_weigh_54 rfl (lv_at hl 4 rfl) ?_
            refine lv_iload SS.1 SS.2.1 dX4_weigh_55 (lv_at hl 1 rfl) ?_
            refine lv_iload SS.1 SS.2.1 dX4_weigh_57 (lv_at hl 0 rfl) ?_
            refine j_vRi SS (As := [.int (J (-a)), .int (J (-b))]) (rest := []) (c_X7_across l D q u r (by omega) (40 : Int) (-a) (-b) (show 0 ≤ (40 : Int) ∧ (40 : Int) ≤ 80 from (by omega)) (show RB (40 : Int) u r from (p0)) (show -20000 ≤ (-a) ∧ (-a) ≤ 20000 from (by omega)) (show -20000 ≤ (-b) ∧ (-b) ≤ 20000 from (by omega))) mf_X7_across kw_643 hG hP hP (ci := 7) (q0 := (9 + 5 * r)) rfl (cw_ring (by omega)) rfl rfl hl.1 ⟨⟨Nat.le_of_ble_eq_true rfl, Nat.le_of_ble_eq_true rfl⟩, Nat.le_of_ble_eq_true rfl, Nat.le_refl _, Nat.le_refl _⟩ rfl dX4_weigh_59 (fun z_59 h_59 => ?_)
            have h_59 : 0 ≤ z_59 ∧ z_59 ≤ 6400000 ∧ ((-a) = 0 → (-b) = 1 → z_59 ≤ 2 * (40 : Int)) := h_59
            refine lv_istore (lv' := [(7, .int (J z_59)), (6, .int (J (-b))), (5, .int (J (-a))), (4, .int (J 0)), (0, .ref (q 3)), (1, .ref (q (9 + 5 * r))), (2, .int (J a)), (3, .int (J b))]) SS.1 SS.2.1 dX4_weigh_62 hl (by decide) rfl (fun ls hl => ?_)
            refine lv_iload SS.1 SS.2.1 dX4_weigh_64 (lv_at hl 0 rfl) ?_
            refine lv_aload_n SS.1 SS.2.1 dX4_weigh_66 rfl (lv_at hl 4 rfl) ?_
            refine j_get SS hG hP 3 (v := .int (J (u.2.2.2 1))) (C := RX4) (T := TX4) (N := 3) rfl rfl inX4 0 (by decide) (ref := "GridPolygons$LeastWidth") kw_194 rfl rfl dX4_weigh_67 ?_
            refine j_icmp_lt SS (tgt := 109) (x := z_59) (y := (u.2.2.2 1)) dX4_weigh_70 (by decide) (by omega) (by omega) (fun c_70 => ?_) (fun c_70 => ?_)
            · skip
              refine lv_aload_n SS.1 SS.2.1 dX4_weigh_109 rfl (lv_at hl 4 rfl) ?_
              refine lv_iload SS.1 SS.2.1 dX4_weigh_110 (lv_at hl 0 rfl) ?_
              refine j_put SS hG hP (cW_D hD) hS 3 (v := .int (J z_59)) (ty := .int) (C := RX4) (T := TX4) (N := 3) rfl rfl inX4 tyX4 tyX4_ok nmX4 0 (by decide) (ref := "GridPolygons$LeastWidth") kw_194 rfl rfl (by decide +kernel) rfl rfl (Nat.le_of_ble_eq_true rfl) dX4_weigh_112 (ws' := (cW D q (sV u 1 z_59))) rfl (fun H locs hP hS => ?_)
              refine lv_aload_n SS.1 SS.2.1 dX4_weigh_115 rfl (lv_at hl 4 rfl) ?_
              refine lv_iload SS.1 SS.2.1 dX4_weigh_116 (lv_at hl 2 rfl) ?_
              refine j_put SS hG hP (cW_D hD) hS 3 (v := .int (J (-a))) (ty := .int) (C := RX4) (T := TX4) (N := 3) rfl rfl inX4 tyX4 tyX4_ok nmX4 1 (by decide) (ref := "GridPolygons$LeastWidth") kw_196 rfl rfl (by decide +kernel) rfl rfl (Nat.le_of_ble_eq_true rfl) dX4_weigh_118 (ws' := (cW D q (sV (sV u 1 z_59) 2 (-a)))) rfl (fun H locs hP hS => ?_)
              refine lv_aload_n SS.1 SS.2.1 dX4_weigh_121 rfl (lv_at hl 4 rfl) ?_
              refine lv_iload SS.1 SS.2.1 dX4_weigh_122 (lv_at hl 1 rfl) ?_
              refine j_put SS hG hP (cW_D hD) hS 3 (v := .int (J (-b))) (ty := .int) (C := RX4) (T := TX4) (N := 3) rfl rfl inX4 tyX4 tyX4_ok nmX4 2 (by decide) (ref := "GridPolygons$LeastWidth") kw_198 rfl rfl (by decide +kernel) rfl rfl (Nat.le_of_ble_eq_true rfl) dX4_weigh_124 (ws' := (cW D q (sV (sV (sV u 1 z_59) 2 (-a)) 3 (-b)))) rfl (fun H locs hP hS => ?_)
              exact W.vret SS.1 SS.2.1 hr (fun t0 ht hW => ⟨⟨(sV (sV (sV u 1 z_59) 2 (-a)) 3 (-b)), rfl, (⟨z_59, (-a), (-b), rfl, by omega⟩), by show va_P D.1 j_cl (cW D q (sV (sV (sV u 1 z_59) 2 (-a)) 3 (-b))) t0.heap; rw [ht]; first | exact hP | (simp only [sC_id, sX_id, sY_id, sH_id, sT_id, sV_id]; exact hP)⟩, hS.F ht⟩) hS.2.2 dX4_weigh_127 hlk
            · skip
              refine lv_iload SS.1 SS.2.1 dX4_weigh_73 (lv_at hl 0 rfl) ?_
              refine lv_aload_n SS.1 SS.2.1 dX4_weigh_75 rfl (lv_at hl 4 rfl) ?_
              refine j_get SS hG hP 3 (v := .int (J (u.2.2.2 1))) (C := RX4) (T := TX4) (N := 3) rfl rfl inX4 0 (by decide) (ref := "GridPolygons$LeastWidth") kw_194 rfl rfl dX4_weigh_76 ?_
              refine j_icmp_ne SS (tgt := 127) (x := z_59) (y := (u.2.2.2 1)) dX4_weigh_79 (by decide) (by omega) (by omega) (fun c_79 => ?_) (fun c_79 => ?_)
              · skip
                exact W.vret SS.1 SS.2.1 hr (fun t0 ht hW => ⟨⟨(sV (sV (sV u 1 (u.2.2.2 1)) 2 (u.2.2.2 2)) 3 (u.2.2.2 3)), rfl, (⟨(u.2.2.2 1), (u.2.2.2 2), (u.2.2.2 3), rfl, by omega⟩), by show va_P D.1 j_cl (cW D q (sV (sV (sV u 1 (u.2.2.2 1)) 2 (u.2.2.2 2)) 3 (u.2.2.2 3))) t0.heap; rw [ht]; first | exact hP | (simp only [sC_id, sX_id, sY_id, sH_id, sT_id, sV_id]; exact hP)⟩, hS.F ht⟩) hS.2.2 dX4_weigh_127 hlk
              · skip
                refine lv_iload SS.1 SS.2.1 dX4_weigh_82 (lv_at hl 2 rfl) ?_
                refine lv_aload_n SS.1 SS.2.1 dX4_weigh_84 rfl (lv_at hl 4 rfl) ?_
                refine j_get SS hG hP 3 (v := .int (J (u.2.2.2 2))) (C := RX4) (T := TX4) (N := 3) rfl rfl inX4 1 (by decide) (ref := "GridPolygons$LeastWidth") kw_196 rfl rfl dX4_weigh_85 ?_
                refine j_icmp_lt SS (tgt := 109) (x := (-a)) (y := (u.2.2.2 2)) dX4_weigh_88 (by decide) (by omega) (by omega) (fun c_88 => ?_) (fun c_88 => ?_)
                · skip
                  refine lv_aload_n SS.1 SS.2.1 dX4_weigh_109 rfl (lv_at hl 4 rfl) ?_
                  refine lv_iload SS.1 SS.2.1 dX4_weigh_110 (lv_at hl 0 rfl) ?_
                  refine j_put SS hG hP (cW_D hD) hS 3 (v := .int (J z_59)) (ty := .int) (C := RX4) (T := TX4) (N := 3) rfl rfl inX4 tyX4 tyX4_ok nmX4 0 (by decide) (ref := "GridPolygons$LeastWidth") kw_194 rfl rfl (by decide +kernel) rfl rfl (Nat.le_of_ble_eq_true rfl) dX4_weigh_112 (ws' := (cW D q (sV u 1 z_59))) rfl (fun H locs hP hS => ?_)
                  refine lv_aload_n SS.1 SS.2.1 dX4_weigh_115 rfl (lv_at hl 4 rfl) ?_
                  refine lv_iload SS.1 SS.2.1 dX4_weigh_116 (lv_at hl 2 rfl) ?_
                  refine j_put SS hG hP (cW_D hD) hS 3 (v := .int (J (-a))) (ty := .int) (C := RX4) (T := TX4) (N := 3) rfl rfl inX4 tyX4 tyX4_ok nmX4 1 (by decide) (ref := "GridPolygons$LeastWidth") kw_196 rfl rfl (by decide +kernel) rfl rfl (Nat.le_of_ble_eq_true rfl) dX4_weigh_118 (ws' := (cW D q (sV (sV u 1 z_59) 2 (-a)))) rfl (fun H locs hP hS => ?_)
                  refine lv_aload_n SS.1 SS.2.1 dX4_weigh_121 rfl (lv_at hl 4 rfl) ?_
                  refine lv_iload SS.1 SS.2.1 dX4_weigh_122 (lv_at hl 1 rfl) ?_
                  refine j_put SS hG hP (cW_D hD) hS 3 (v := .int (J (-b))) (ty := .int) (C := RX4) (T := TX4) (N := 3) rfl rfl inX4 tyX4 tyX4_ok nmX4 2 (by decide) (ref := "GridPolygons$LeastWidth") kw_198 rfl rfl (by decide +kernel) rfl rfl (Nat.le_of_ble_eq_true rfl) dX4_weigh_124 (ws' := (cW D q (sV (sV (sV u 1 z_59) 2 (-a)) 3 (-b)))) rfl (fun H locs hP hS => ?_)
                  exact W.vret SS.1 SS.2.1 hr (fun t0 ht hW => ⟨⟨(sV (sV (sV u 1 z_59) 2 (-a)) 3 (-b)), rfl, (⟨z_59, (-a), (-b), rfl, by omega⟩), by show va_P D.1 j_cl (cW D q (sV (sV (sV u 1 z_59) 2 (-a)) 3 (-b))) t0.heap; rw [ht]; first | exact hP | (simp only [sC_id, sX_id, sY_id, sH_id, sT_id, sV_id]; exact hP)⟩, hS.F ht⟩) hS.2.2 dX4_weigh_127 hlk
                · skip
                  refine lv_iload SS.1 SS.2.1 dX4_weigh_91 (lv_at hl 2 rfl) ?_
                  refine lv_aload_n SS.1 SS.2.1 dX4_weigh_93 rfl (lv_at hl 4 rfl) ?_
                  refine j_get SS hG hP 3 (v := .int (J (u.2.2.2 2))) (C := RX4) (T := TX4) (N := 3) rfl rfl inX4 1 (by decide) (ref := "GridPolygons$LeastWidth") kw_196 rfl rfl dX4_weigh_94 ?_
                  refine j_icmp_ne SS (tgt := 127) (x := (-a)) (y := (u.2.2.2 2)) dX4_weigh_97 (by decide) (by omega) (by omega) (fun c_97 => ?_) (fun c_97 => ?_)
                  · skip
                    exact W.vret SS.1 SS.2.1 hr (fun t0 ht hW => ⟨⟨(sV (sV (sV u 1 (u.2.2.2 1)) 2 (u.2.2.2 2)) 3 (u.2.2.2 3)), rfl, (⟨(u.2.2.2 1), (u.2.2.2 2), (u.2.2.2 3), rfl, by omega⟩), by show va_P D.1 j_cl (cW D q (sV (sV (sV u 1 (u.2.2.2 1)) 2 (u.2.2.2 2)) 3 (u.2.2.2 3))) t0.heap; rw [ht]; first | exact hP | (simp only [sC_id, sX_id, sY_id, sH_id, sT_id, sV_id]; exact hP)⟩, hS.F ht⟩) hS.2.2 dX4_weigh_127 hlk
                  · skip
                    refine lv_iload SS.1 SS.2.1 dX4_weigh_100 (lv_at hl 1 rfl) ?_
                    refine lv_aload_n SS.1 SS.2.1 dX4_weigh_102 rfl (lv_at hl 4 rfl) ?_
                    refine j_get SS hG hP 3 (v := .int (J (u.2.2.2 3))) (C := RX4) (T := TX4) (N := 3) rfl rfl inX4 2 (by decide) (ref := "GridPolygons$LeastWidth") kw_198 rfl rfl dX4_weigh_103 ?_
                    refine j_icmp_ge SS (tgt := 127) (x := (-b)) (y := (u.2.2.2 3)) dX4_weigh_106 (by decide) (by omega) (by omega) (fun c_106 => ?_) (fun c_106 => ?_)
                    · skip
                      exact W.vret SS.1 SS.2.1 hr (fun t0 ht hW => ⟨⟨(sV (sV (sV u 1 (u.2.2.2 1)) 2 (u.2.2.2 2)) 3 (u.2.2.2 3)), rfl, (⟨(u.2.2.2 1), (u.2.2.2 2), (u.2.2.2 3), rfl, by omega⟩), by show va_P D.1 j_cl (cW D q (sV (sV (sV u 1 (u.2.2.2 1)) 2 (u.2.2.2 2)) 3 (u.2.2.2 3))) t0.heap; rw [ht]; first | exact hP | (simp only [sC_id, sX_id, sY_id, sH_id, sT_id, sV_id]; exact hP)⟩, hS.F ht⟩) hS.2.2 dX4_weigh_127 hlk
                    · skip
                      refine lv_aload_n SS.1 SS.2.1 dX4_weigh_109 rfl (lv_at hl 4 rfl) ?_
                      refine lv_iload SS.1 SS.2.1 dX4_weigh_110 (lv_at hl 0 rfl) ?_
                      refine j_put SS hG hP (cW_D hD) hS 3 (v := .int (J z_59)) (ty := .int) (C := RX4) (T := TX4) (N := 3) rfl rfl inX4 tyX4 tyX4_ok nmX4 0 (by decide) (ref := "GridPolygons$LeastWidth") kw_194 rfl rfl (by decide +kernel) rfl rfl (Nat.le_of_ble_eq_true rfl) dX4_weigh_112 (ws' := (cW D q (sV u 1 z_59))) rfl (fun H locs hP hS => ?_)
                      refine lv_aload_n SS.1 SS.2.1 dX4_weigh_115 rfl (lv_at hl 4 rfl) ?_
                      refine lv_iload SS.1 SS.2.1 dX4_weigh_116 (lv_at hl 2 rfl) ?_
                      refine j_put SS hG hP (cW_D hD) hS 3 (v := .int (J (-a))) (ty := .int) (C := RX4) (T := TX4) (N := 3) rfl rfl inX4 tyX4 tyX4_ok nmX4 1 (by decide) (ref := "GridPolygons$LeastWidth") kw_196 rfl rfl (by decide +kernel) rfl rfl (Nat.le_of_ble_eq_true rfl) dX4_weigh_118 (ws' := (cW D q (sV (sV u 1 z_59) 2 (-a)))) rfl (fun H locs hP hS => ?_)
                      refine lv_aload_n SS.1 SS.2.1 dX4_weigh_121 rfl (lv_at hl 4 rfl) ?_
                      refine lv_iload SS.1 SS.2.1 dX4_weigh_122 (lv_at hl 1 rfl) ?_
                      refine j_put SS hG hP (cW_D hD) hS 3 (v := .int (J (-b))) (ty := .int) (C := RX4) (T := TX4) (N := 3) rfl rfl inX4 tyX4 tyX4_ok nmX4 2 (by decide) (ref := "GridPolygons$LeastWidth") kw_198 rfl rfl (by decide +kernel) rfl rfl (Nat.le_of_ble_eq_true rfl) dX4_weigh_124 (ws' := (cW D q (sV (sV (sV u 1 z_59) 2 (-a)) 3 (-b)))) rfl (fun H locs hP hS => ?_)
                      exact W.vret SS.1 SS.2.1 hr (fun t0 ht hW => ⟨⟨(sV (sV (sV u 1 z_59) 2 (-a)) 3 (-b)), rfl, (⟨z_59, (-a), (-b), rfl, by omega⟩), by show va_P D.1 j_cl (cW D q (sV (sV (sV u 1 z_59) 2 (-a)) 3 (-b))) t0.heap; rw [ht]; first | exact hP | (simp only [sC_id, sX_id, sY_id, sH_id, sT_id, sV_id]; exact hP)⟩, hS.F ht⟩) hS.2.2 dX4_weigh_127 hlk
          · skip
            refine j_iconst SS dX4_weigh_21 ?_
            refine lv_goto (tgt := 26) SS.1 SS.2.1 dX4_weigh_22 (by decide) ?_
            refine lv_istore (lv' := [(4, .int (J 1)), (0, .ref (q 3)), (1, .ref (q (9 + 5 * r))), (2, .int (J a)), (3, .int (J b))]) SS.1 SS.2.1 dX4_weigh_26 hl (by decide) rfl (fun ls hl => ?_)
            refine lv_iload SS.1 SS.2.1 dX4_weigh_28 (lv_at hl 0 rfl) ?_
            refine j_if_eq SS (tgt := 37) dX4_weigh_30 (by decide) (by decide) (fun c_30 => absurd c_30 (by decide)) (fun c_30 => ?_)
            refine lv_iload_n SS.1 SS.2.1 dX4_weigh_33 rfl (lv_at hl 3 rfl) ?_
            refine lv_goto (tgt := 39) SS.1 SS.2.1 dX4_weigh_34 (by decide) ?_
            refine lv_istore (lv' := [(5, .int (J a)), (4, .int (J 1)), (0, .ref (q 3)), (1, .ref (q (9 + 5 * r))), (2, .int (J a)), (3, .int (J b))]) SS.1 SS.2.1 dX4_weigh_39 hl (by decide) rfl (fun ls hl => ?_)
            refine lv_iload SS.1 SS.2.1 dX4_weigh_41 (lv_at hl 1 rfl) ?_
            refine j_if_eq SS (tgt := 50) dX4_weigh_43 (by decide) (by decide) (fun c_43 => absurd c_43 (by decide)) (fun c_43 => ?_)
            refine lv_iload_n SS.1 SS.2.1 dX4_weigh_46 rfl (lv_at hl 5 rfl) ?_
            refine lv_goto (tgt := 52) SS.1 SS.2.1 dX4_weigh_47 (by decide) ?_
            refine lv_istore (lv' := [(6, .int (J b)), (5, .int (J a)), (4, .int (J 1)), (0, .ref (q 3)), (1, .ref (q (9 + 5 * r))), (2, .int (J a)), (3, .int (J b))]) SS.1 SS.2.1 dX4_weigh_52 hl (by decide) rfl (fun ls hl => ?_)
            refine lv_aload_n SS.1 SS.2.1 dX4_weigh_54 rfl (lv_at hl 4 rfl) ?_
            refine lv_iload SS.1 SS.2.1 dX4_weigh_55 (lv_at hl 1 rfl) ?_
            refine lv_iload SS.1 SS.2.1 dX4_weigh_57 (lv_at hl 0 rfl) ?_
            refine j_vRi SS (As := [.int (J a), .int (J b)]) (rest := []) (c_X7_across l D q u r (by omega) (40 : Int) a b (show 0 ≤ (40 : Int) ∧ (40 : Int) ≤ 80 from (by omega)) (show RB (40 : Int) u r from (p0)) (show -20000 ≤ a ∧ a ≤ 20000 from (p1)) (show -20000 ≤ b ∧ b ≤ 20000 from (p2))) mf_X7_across kw_643 hG hP hP (ci := 7) (q0 := (9 + 5 * r)) rfl (cw_ring (by omega)) rfl rfl hl.1 ⟨⟨Nat.le_of_ble_eq_true rfl, Nat.le_of_ble_eq_true rfl⟩, Nat.le_of_ble_eq_true rfl, Nat.le_refl _, Nat.le_refl _⟩ rfl dX4_weigh_59 (fun z_59 h_59 => ?_)
            have h_59 : 0 ≤ z_59 ∧ z_59 ≤ 6400000 ∧ (a = 0 → b = 1 → z_59 ≤ 2 * (40 : Int)) := h_59
            refine lv_istore (lv' := [(7, .int (J z_59)), (6, .int (J b)), (5, .int (J a)), (4, .int (J 1)), (0, .ref (q 3)), (1, .ref (q (9 + 5 * r))), (2, .int (J a)), (3, .int (J b))]) SS.1 SS.2.1 dX4_weigh_62 hl (by decide) rfl (fun ls hl => ?_)
            refine lv_iload SS.1 SS.2.1 dX4_weigh_64 (lv_at hl 0 rfl) ?_
            refine lv_aload_n SS.1 SS.2.1 dX4_weigh_66 rfl (lv_at hl 4 rfl) ?_
            refine j_get SS hG hP 3 (v := .int (J (u.2.2.2 1))) (C := RX4) (T := TX4) (N := 3) rfl rfl inX4 0 (by decide) (ref := "GridPolygons$LeastWidth") kw_194 rfl rfl dX4_weigh_67 ?_
            refine j_icmp_lt SS (tgt := 109) (x := z_59) (y := (u.2.2.2 1)) dX4_weigh_70 (by decide) (by omega) (by omega) (fun c_70 => ?_) (fun c_70 => ?_)
            · skip
              refine lv_aload_n SS.1 SS.2.1 dX4_weigh_109 rfl (lv_at hl 4 rfl) ?_
              refine lv_iload SS.1 SS.2.1 dX4_weigh_110 (lv_at hl 0 rfl) ?_
              refine j_put SS hG hP (cW_D hD) hS 3 (v := .int (J z_59)) (ty := .int) (C := RX4) (T := TX4) (N := 3) rfl rfl inX4 tyX4 tyX4_ok nmX4 0 (by decide) (ref := "GridPolygons$LeastWidth") kw_194 rfl rfl (by decide +kernel) rfl rfl (Nat.le_of_ble_eq_true rfl) dX4_weigh_112 (ws' := (cW D q (sV u 1 z_59))) rfl (fun H locs hP hS => ?_)
              refine lv_aload_n SS.1 SS.2.1 dX4_weigh_115 rfl (lv_at hl 4 rfl) ?_
              refine lv_iload SS.1 SS.2.1 dX4_weigh_116 (lv_at hl 2 rfl) ?_
              refine j_put SS hG hP (cW_D hD) hS 3 (v := .int (J a)) (ty := .int) (C := RX4) (T := TX4) (N := 3) rfl rfl inX4 tyX4 tyX4_ok nmX4 1 (by decide) (ref := "GridPolygons$LeastWidth") kw_196 rfl rfl (by decide +kernel) rfl rfl (Nat.le_of_ble_eq_true rfl) dX4_weigh_118 (ws' := (cW D q (sV (sV u 1 z_59) 2 a))) rfl (fun H locs hP hS => ?_)
              refine lv_aload_n SS.1 SS.2.1 dX4_weigh_121 rfl (lv_at hl 4 rfl) ?_
              refine lv_iload SS.1 SS.2.1 dX4_weigh_122 (lv_at hl 1 rfl) ?_
              refine j_put SS hG hP (cW_D hD) hS 3 (v := .int (J b)) (ty := .int) (C := RX4) (T := TX4) (N := 3) rfl rfl inX4 tyX4 tyX4_ok nmX4 2 (by decide) (ref := "GridPolygons$LeastWidth") kw_198 rfl rfl (by decide +kernel) rfl rfl (Nat.le_of_ble_eq_true rfl) dX4_weigh_124 (ws' := (cW D q (sV (sV (sV u 1 z_59) 2 a) 3 b))) rfl (fun H locs hP hS => ?_)
              exact W.vret SS.1 SS.2.1 hr (fun t0 ht hW => ⟨⟨(sV (sV (sV u 1 z_59) 2 a) 3 b), rfl, (⟨z_59, a, b, rfl, by omega⟩), by show va_P D.1 j_cl (cW D q (sV (sV (sV u 1 z_59) 2 a) 3 b)) t0.heap; rw [ht]; first | exact hP | (simp only [sC_id, sX_id, sY_id, sH_id, sT_id, sV_id]; exact hP)⟩, hS.F ht⟩) hS.2.2 dX4_weigh_127 hlk
            · skip
              refine lv_iload SS.1 SS.2.1 dX4_weigh_73 (lv_at hl 0 rfl) ?_
              refine lv_aload_n SS.1 SS.2.1 dX4_weigh_75 rfl (lv_at hl 4 rfl) ?_
              refine j_get SS hG hP 3 (v := .int (J (u.2.2.2 1))) (C := RX4) (T := TX4) (N := 3) rfl rfl inX4 0 (by decide) (ref := "GridPolygons$LeastWidth") kw_194 rfl rfl dX4_weigh_76 ?_
              refine j_icmp_ne SS (tgt := 127) (x := z_59) (y := (u.2.2.2 1)) dX4_weigh_79 (by decide) (by omega) (by omega) (fun c_79 => ?_) (fun c_79 => ?_)
              · skip
                exact W.vret SS.1 SS.2.1 hr (fun t0 ht hW => ⟨⟨(sV (sV (sV u 1 (u.2.2.2 1)) 2 (u.2.2.2 2)) 3 (u.2.2.2 3)), rfl, (⟨(u.2.2.2 1), (u.2.2.2 2), (u.2.2.2 3), rfl, by omega⟩), by show va_P D.1 j_cl (cW D q (sV (sV (sV u 1 (u.2.2.2 1)) 2 (u.2.2.2 2)) 3 (u.2.2.2 3))) t0.heap; rw [ht]; first | exact hP | (simp only [sC_id, sX_id, sY_id, sH_id, sT_id, sV_id]; exact hP)⟩, hS.F ht⟩) hS.2.2 dX4_weigh_127 hlk
              · skip
                refine lv_iload SS.1 SS.2.1 dX4_weigh_82 (lv_at hl 2 rfl) ?_
                refine lv_aload_n SS.1 SS.2.1 dX4_weigh_84 rfl (lv_at hl 4 rfl) ?_
                refine j_get SS hG hP 3 (v := .int (J (u.2.2.2 2))) (C := RX4) (T := TX4) (N := 3) rfl rfl inX4 1 (by decide) (ref := "GridPolygons$LeastWidth") kw_196 rfl rfl dX4_weigh_85 ?_
                refine j_icmp_lt SS (tgt := 109) (x := a) (y := (u.2.2.2 2)) dX4_weigh_88 (by decide) (by omega) (by omega) (fun c_88 => ?_) (fun c_88 => ?_)
                · skip
                  refine lv_aload_n SS.1 SS.2.1 dX4_weigh_109 rfl (lv_at hl 4 rfl) ?_
                  refine lv_iload SS.1 SS.2.1 dX4_weigh_110 (lv_at hl 0 rfl) ?_
                  refine j_put SS hG hP (cW_D hD) hS 3 (v := .int (J z_59)) (ty := .int) (C := RX4) (T := TX4) (N := 3) rfl rfl inX4 tyX4 tyX4_ok nmX4 0 (by decide) (ref := "GridPolygons$LeastWidth") kw_194 rfl rfl (by decide +kernel) rfl rfl (Nat.le_of_ble_eq_true rfl) dX4_weigh_112 (ws' := (cW D q (sV u 1 z_59))) rfl (fun H locs hP hS => ?_)
                  refine lv_aload_n SS.1 SS.2.1 dX4_weigh_115 rfl (lv_at hl 4 rfl) ?_
                  refine lv_iload SS.1 SS.2.1 dX4_weigh_116 (lv_at hl 2 rfl) ?_
                  refine j_put SS hG hP (cW_D hD) hS 3 (v := .int (J a)) (ty := .int) (C := RX4) (T := TX4) (N := 3) rfl rfl inX4 tyX4 tyX4_ok nmX4 1 (by decide) (ref := "GridPolygons$LeastWidth") kw_196 rfl rfl (by decide +kernel) rfl rfl (Nat.le_of_ble_eq_true rfl) dX4_weigh_118 (ws' := (cW D q (sV (sV u 1 z_59) 2 a))) rfl (fun H locs hP hS => ?_)
                  refine lv_aload_n SS.1 SS.2.1 dX4_weigh_121 rfl (lv_at hl 4 rfl) ?_
                  refine lv_iload SS.1 SS.2.1 dX4_weigh_122 (lv_at hl 1 rfl) ?_
                  refine j_put SS hG hP (cW_D hD) hS 3 (v := .int (J b)) (ty := .int) (C := RX4) (T := TX4) (N := 3) rfl rfl inX4 tyX4 tyX4_ok nmX4 2 (by decide) (ref := "GridPolygons$LeastWidth") kw_198 rfl rfl (by decide +kernel) rfl rfl (Nat.le_of_ble_eq_true rfl) dX4_weigh_124 (ws' := (cW D q (sV (sV (sV u 1 z_59) 2 a) 3 b))) rfl (fun H locs hP hS => ?_)
                  exact W.vret SS.1 SS.2.1 hr (fun t0 ht hW => ⟨⟨(sV (sV (sV u 1 z_59) 2 a) 3 b), rfl, (⟨z_59, a, b, rfl, by omega⟩), by show va_P D.1 j_cl (cW D q (sV (sV (sV u 1 z_59) 2 a) 3 b)) t0.heap; rw [ht]; first | exact hP | (simp only [sC_id, sX_id, sY_id, sH_id, sT_id, sV_id]; exact hP)⟩, hS.F ht⟩) hS.2.2 dX4_weigh_127 hlk
                · skip
                  refine lv_iload SS.1 SS.2.1 dX4_weigh_91 (lv_at hl 2 rfl) ?_
                  refine lv_aload_n SS.1 SS.2.1 dX4_weigh_93 rfl (lv_at hl 4 rfl) ?_
                  refine j_get SS hG hP 3 (v := .int (J (u.2.2.2 2))) (C := RX4) (T := TX4) (N := 3) rfl rfl inX4 1 (by decide) (ref := "GridPolygons$LeastWidth") kw_196 rfl rfl dX4_weigh_94 ?_
                  refine j_icmp_ne SS (tgt := 127) (x := a) (y := (u.2.2.2 2)) dX4_weigh_97 (by decide) (by omega) (by omega) (fun c_97 => ?_) (fun c_97 => ?_)
                  · skip
                    exact W.vret SS.1 SS.2.1 hr (fun t0 ht hW => ⟨⟨(sV (sV (sV u 1 (u.2.2.2 1)) 2 (u.2.2.2 2)) 3 (u.2.2.2 3)), rfl, (⟨(u.2.2.2 1), (u.2.2.2 2), (u.2.2.2 3), rfl, by omega⟩), by show va_P D.1 j_cl (cW D q (sV (sV (sV u 1 (u.2.2.2 1)) 2 (u.2.2.2 2)) 3 (u.2.2.2 3))) t0.heap; rw [ht]; first | exact hP | (simp only [sC_id, sX_id, sY_id, sH_id, sT_id, sV_id]; exact hP)⟩, hS.F ht⟩) hS.2.2 dX4_weigh_127 hlk
                  · skip
                    refine lv_iload SS.1 SS.2.1 dX4_weigh_100 (lv_at hl 1 rfl) ?_
                    refine lv_aload_n SS.1 SS.2.1 dX4_weigh_102 rfl (lv_at hl 4 rfl) ?_
                    refine j_get SS hG hP 3 (v := .int (J (u.2.2.2 3))) (C := RX4) (T := TX4) (N := 3) rfl rfl inX4 2 (by decide) (ref := "GridPolygons$LeastWidth") kw_198 rfl rfl dX4_weigh_103 ?_
                    refine j_icmp_ge SS (tgt := 127) (x := b) (y := (u.2.2.2 3)) dX4_weigh_106 (by decide) (by omega) (by omega) (fun c_106 => ?_) (fun c_106 => ?_)
                    · skip
                      exact W.vret SS.1 SS.2.1 hr (fun t0 ht hW => ⟨⟨(sV (sV (sV u 1 (u.2.2.2 1)) 2 (u.2.2.2 2)) 3 (u.2.2.2 3)), rfl, (⟨(u.2.2.2 1), (u.2.2.2 2), (u.2.2.2 3), rfl, by omega⟩), by show va_P D.1 j_cl (cW D q (sV (sV (sV u 1 (u.2.2.2 1)) 2 (u.2.2.2 2)) 3 (u.2.2.2 3))) t0.heap; rw [ht]; first | exact hP | (simp only [sC_id, sX_id, sY_id, sH_id, sT_id, sV_id]; exact hP)⟩, hS.F ht⟩) hS.2.2 dX4_weigh_127 hlk
                    · skip
                      refine lv_aload_n SS.1 SS.2.1 dX4_weigh_109 rfl (lv_at hl 4 rfl) ?_
                      refine lv_iload SS.1 SS.2.1 dX4_weigh_110 (lv_at hl 0 rfl) ?_
                      refine j_put SS hG hP (cW_D hD) hS 3 (v := .int (J z_59)) (ty := .int) (C := RX4) (T := TX4) (N := 3) rfl rfl inX4 tyX4 tyX4_ok nmX4 0 (by decide) (ref := "GridPolygons$LeastWidth") kw_194 rfl rfl (by decide +kernel) rfl rfl (Nat.le_of_ble_eq_true rfl) dX4_weigh_112 (ws' := (cW D q (sV u 1 z_59))) rfl (fun H locs hP hS => ?_)
                      refine lv_aload_n SS.1 SS.2.1 dX4_weigh_115 rfl (lv_at hl 4 rfl) ?_
                      refine lv_iload SS.1 SS.2.1 dX4_weigh_116 (lv_at hl 2 rfl) ?_
                      refine j_put SS hG hP (cW_D hD) hS 3 (v := .int (J a)) (ty := .int) (C := RX4) (T := TX4) (N := 3) rfl rfl inX4 tyX4 tyX4_ok nmX4 1 (by decide) (ref := "GridPolygons$LeastWidth") kw_196 rfl rfl (by decide +kernel) rfl rfl (Nat.le_of_ble_eq_true rfl) dX4_weigh_118 (ws' := (cW D q (sV (sV u 1 z_59) 2 a))) rfl (fun H locs hP hS => ?_)
                      refine lv_aload_n SS.1 SS.2.1 dX4_weigh_121 rfl (lv_at hl 4 rfl) ?_
                      refine lv_iload SS.1 SS.2.1 dX4_weigh_122 (lv_at hl 1 rfl) ?_
                      refine j_put SS hG hP (cW_D hD) hS 3 (v := .int (J b)) (ty := .int) (C := RX4) (T := TX4) (N := 3) rfl rfl inX4 tyX4 tyX4_ok nmX4 2 (by decide) (ref := "GridPolygons$LeastWidth") kw_198 rfl rfl (by decide +kernel) rfl rfl (Nat.le_of_ble_eq_true rfl) dX4_weigh_124 (ws' := (cW D q (sV (sV (sV u 1 z_59) 2 a) 3 b))) rfl (fun H locs hP hS => ?_)
                      exact W.vret SS.1 SS.2.1 hr (fun t0 ht hW => ⟨⟨(sV (sV (sV u 1 z_59) 2 a) 3 b), rfl, (⟨z_59, a, b, rfl, by omega⟩), by show va_P D.1 j_cl (cW D q (sV (sV (sV u 1 z_59) 2 a) 3 b)) t0.heap; rw [ht]; first | exact hP | (simp only [sC_id, sX_id, sY_id, sH_id, sT_id, sV_id]; exact hP)⟩, hS.F ht⟩) hS.2.2 dX4_weigh_127 hlk
    · skip
      exact W.vret SS.1 SS.2.1 hr (fun t0 ht hW => ⟨⟨(sV (sV (sV u 1 (u.2.2.2 1)) 2 (u.2.2.2 2)) 3 (u.2.2.2 3)), rfl, (⟨(u.2.2.2 1), (u.2.2.2 2), (u.2.2.2 3), rfl, by omega⟩), by show va_P D.1 j_cl (cW D q (sV (sV (sV u 1 (u.2.2.2 1)) 2 (u.2.2.2 2)) 3 (u.2.2.2 3))) t0.heap; rw [ht]; first | exact hP | (simp only [sC_id, sX_id, sY_id, sH_id, sT_id, sV_id]; exact hP)⟩, hS.F ht⟩) hS.2.2 dX4_weigh_8 hlk

set_option maxHeartbeats 4000000 in
set_option maxRecDepth 100000 in
theorem c_X4_find (l : Launch) (D : JD) (q : Nat → Nat) (u : CS) (A : Nat → Prop) (hD : va_D A (cW D q u)) (r : Nat) (hr : r ≤ 8) (p0 : RB 40 u r) : Met l yX4_find (jw yX4_find cX4_find 11 none) (jr 3 74) (jP [.ref (q 3), .ref (q (9 + 5 * r))] D (fun H => va_P D.1 j_cl (cW D q u) H)) (jWv (fun u' => ∃ c1 : Int, ∃ a1 : Int, ∃ b1 : Int, u' = (sV (sV (sV u 1 c1) 2 a1) 3 b1) ∧ (True)) (fun u' H => va_P D.1 j_cl (cW D q u') H) A) 0 0 A := by
  refine Met.ofW (cc := cX4_find) (maxL := 11) (ret := none) (by decide) rfl ?_
  intro pr en st mi args below meth co s₁ B hml hv
  obtain ⟨rfl, hG, hP⟩ := hv
  have hr := B.returns
  have hlk := B.notSynchronized
  have SS : jS pr mi co cX4_find 11 st _ RX4 := ⟨B.exec, B.bytes, hml, findClass_of_methodNamed B.named, fun w hw => atoms_spec (ws := (jw yX4_find cX4_find 11 none)) B.pre w (List.mem_cons_of_mem _ hw)⟩
  have hl := lv_entry ([.ref (q 3), .ref (q (9 + 5 * r))]) (n := 11) (Nat.le_of_ble_eq_true rfl)
  rw [lg_entry_eq]
  generalize (lg_sl ([.ref (q 3), .ref (q (9 + 5 * r))]) ++ List.replicate (11 - (lg_sl ([.ref (q 3), .ref (q (9 + 5 * r))])).length) Slot.unset).toArray = ls at hl ⊢
  have hl : lv_has ls 11 [(0, .ref (q 3)), (1, .ref (q (9 + 5 * r)))] := hl
  have hS : va_S A st.heap st.heap [] := va_S.rf
  have hc := p0.1
  have hrl := rl_b r
  refine lv_aload_n SS.1 SS.2.1 dX4_find_0 rfl (lv_at hl 0 rfl) ?_
  refine j_iconst SS dX4_find_1 ?_
  refine j_put SS hG hP (cW_D hD) hS 3 (v := .int (J 0)) (ty := .int) (C := RX4) (T := TX4) (N := 3) rfl rfl inX4 tyX4 tyX4_ok nmX4 1 (by decide) (ref := "GridPolygons$LeastWidth") kw_196 rfl rfl (by decide +kernel) rfl rfl (Nat.le_of_ble_eq_true rfl) dX4_find_2 (ws' := (cW D q (sV u 2 0))) rfl (fun H locs hP hS => ?_)
  refine lv_aload_n SS.1 SS.2.1 dX4_find_5 rfl (lv_at hl 0 rfl) ?_
  refine j_iconst SS dX4_find_6 ?_
  refine j_put SS hG hP (cW_D hD) hS 3 (v := .int (J 1)) (ty := .int) (C := RX4) (T := TX4) (N := 3) rfl rfl inX4 tyX4 tyX4_ok nmX4 2 (by decide) (ref := "GridPolygons$LeastWidth") kw_198 rfl rfl (by decide +kernel) rfl rfl (Nat.le_of_ble_eq_true rfl) dX4_find_7 (ws' := (cW D q (sV (sV u 2 0) 3 1))) rfl (fun H locs hP hS => ?_)
  refine lv_aload_n SS.1 SS.2.1 dX4_find_10 rfl (lv_at hl 0 rfl) ?_
  refine lv_aload_n SS.1 SS.2.1 dX4_find_11 rfl (lv_at hl 1 rfl) ?_
  refine j_iconst SS dX4_find_12 ?_
  refine j_iconst SS dX4_find_13 ?_
  refine j_vRi SS (As := [.int (J 0), .int (J 1)]) (rest := [.ref (q 3)]) (c_X7_across l D q (sV (sV u 2 0) 3 1) r (by omega) (40 : Int) 0 1 (show 0 ≤ (40 : Int) ∧ (40 : Int) ≤ 80 from (by omega)) (show RB (40 : Int) (sV (sV u 2 0) 3 1) r from (p0)) (show -20000 ≤ (0 : Int) ∧ (0 : Int) ≤ 20000 from (by omega)) (show -20000 ≤ (1 : Int) ∧ (1 : Int) ≤ 20000 from (by omega))) mf_X7_across kw_643 hG hP hP (ci := 7) (q0 := (9 + 5 * r)) rfl (cw_ring (by omega)) rfl rfl hl.1 ⟨⟨Nat.le_of_ble_eq_true rfl, Nat.le_of_ble_eq_true rfl⟩, Nat.le_of_ble_eq_true rfl, Nat.le_refl _, Nat.le_refl _⟩ rfl dX4_find_14 (fun z_14 h_14 => ?_)
  have h_14 : 0 ≤ z_14 ∧ z_14 ≤ 6400000 ∧ ((0 : Int) = 0 → (1 : Int) = 1 → z_14 ≤ 2 * (40 : Int)) := h_14
  refine j_put SS hG hP (cW_D hD) hS 3 (v := .int (J z_14)) (ty := .int) (C := RX4) (T := TX4) (N := 3) rfl rfl inX4 tyX4 tyX4_ok nmX4 0 (by decide) (ref := "GridPolygons$LeastWidth") kw_194 rfl rfl (by decide +kernel) rfl rfl (Nat.le_of_ble_eq_true rfl) dX4_find_17 (ws' := (cW D q (sV (sV (sV u 1 z_14) 2 0) 3 1))) rfl (fun H locs hP hS => ?_)
  refine lv_aload_n SS.1 SS.2.1 dX4_find_20 rfl (lv_at hl 0 rfl) ?_
  refine lv_aload_n SS.1 SS.2.1 dX4_find_21 rfl (lv_at hl 1 rfl) ?_
  refine j_iconst SS dX4_find_22 ?_
  refine j_iconst SS dX4_find_23 ?_
  refine j_vWv SS (As := [.ref (q (9 + 5 * r)), .int (J 1), .int (J 0)]) (rest := []) (c_X4_weigh l D q (sV (sV (sV u 1 z_14) 2 0) 3 1) A (cW_D hD) r (by omega) 1 0 (show RB 40 (sV (sV (sV u 1 z_14) 2 0) 3 1) r from (p0)) (show -20000 ≤ (1 : Int) ∧ (1 : Int) ≤ 20000 from (by omega)) (show -20000 ≤ (0 : Int) ∧ (0 : Int) ≤ 20000 from (by omega)) (show (0 ≤ z_14 ∧ z_14 ≤ 6400000) ∧ (-20000 ≤ 0 ∧ 0 ≤ 20000) ∧ -20000 ≤ 1 ∧ 1 ≤ 20000 from (by omega))) mf_X4_weigh kw_644 hG hP hP (ci := 4) (q0 := 3) rfl rfl rfl hS (fun _ h => h) rfl hl.1 ⟨⟨Nat.le_of_ble_eq_true rfl, Nat.le_of_ble_eq_true rfl⟩, Nat.le_of_ble_eq_true rfl, Nat.le_refl _, Nat.le_refl _⟩ rfl dX4_find_24 (fun u24 H locs h_24 hP _ hS => ?_)
  obtain ⟨c1_24, a1_24, b1_24, rfl, h_24⟩ := h_24
  have hP : va_P D.1 j_cl (cW D q (sV (sV (sV u 1 c1_24) 2 a1_24) 3 b1_24)) H := hP
  have h_24 : (0 ≤ c1_24 ∧ c1_24 ≤ z_14) ∧ (-20000 ≤ a1_24 ∧ a1_24 ≤ 20000) ∧ -20000 ≤ b1_24 ∧ b1_24 ≤ 20000 := h_24
  refine lv_aload_n SS.1 SS.2.1 dX4_find_27 rfl (lv_at hl 1 rfl) ?_
  refine j_iconst SS dX4_find_28 ?_
  refine j_vRi SS (As := [.int (J 0)]) (rest := []) (c_X7_sideX l D q (sV (sV (sV u 1 c1_24) 2 a1_24) 3 b1_24) r (by omega) (40 : Int) 0 (show 0 ≤ (40 : Int) ∧ (40 : Int) ≤ 80 from (by omega)) (show RB (40 : Int) (sV (sV (sV u 1 c1_24) 2 a1_24) 3 b1_24) r from (p0)) (show -1000 ≤ (0 : Int) ∧ (0 : Int) ≤ 1000 from (by omega))) mf_X7_sideX kw_648 hG hP hP (ci := 7) (q0 := (9 + 5 * r)) rfl (cw_ring (by omega)) rfl rfl hl.1 ⟨⟨Nat.le_of_ble_eq_true rfl, Nat.le_of_ble_eq_true rfl⟩, Nat.le_of_ble_eq_true rfl, Nat.le_refl _, Nat.le_refl _⟩ rfl dX4_find_29 (fun z_29 h_29 => ?_)
  have h_29 : z_29 = dX (sV (sV (sV u 1 c1_24) 2 a1_24) 3 b1_24) r (0 : Int) ∧ -2 * (40 : Int) ≤ z_29 ∧ z_29 ≤ 2 * (40 : Int) := h_29
  obtain ⟨px1, epx1⟩ : ∃ z : Int, z = z_29 := ⟨_, rfl⟩
  rw [← epx1]
  refine lv_istore_n (lv' := [(2, .int (J px1)), (0, .ref (q 3)), (1, .ref (q (9 + 5 * r)))]) SS.1 SS.2.1 dX4_find_32 rfl hl (by decide) rfl (fun ls hl => ?_)
  refine lv_aload_n SS.1 SS.2.1 dX4_find_33 rfl (lv_at hl 2 rfl) ?_
  refine j_iconst SS dX4_find_34 ?_
  refine j_vRi SS (As := [.int (J 0)]) (rest := []) (c_X7_sideY l D q (sV (sV (sV u 1 c1_24) 2 a1_24) 3 b1_24) r (by omega) (40 : Int) 0 (show 0 ≤ (40 : Int) ∧ (40 : Int) ≤ 80 from (by omega)) (show RB (40 : Int) (sV (sV (sV u 1 c1_24) 2 a1_24) 3 b1_24) r from (p0)) (show -1000 ≤ (0 : Int) ∧ (0 : Int) ≤ 1000 from (by omega))) mf_X7_sideY kw_649 hG hP hP (ci := 7) (q0 := (9 + 5 * r)) rfl (cw_ring (by omega)) rfl rfl hl.1 ⟨⟨Nat.le_of_ble_eq_true rfl, Nat.le_of_ble_eq_true rfl⟩, Nat.le_of_ble_eq_true rfl, Nat.le_refl _, Nat.le_refl _⟩ rfl dX4_find_35 (fun z_35 h_35 => ?_)
  have h_35 : z_35 = dY (sV (sV (sV u 1 c1_24) 2 a1_24) 3 b1_24) r (0 : Int) ∧ -2 * (40 : Int) ≤ z_35 ∧ z_35 ≤ 2 * (40 : Int) := h_35
  obtain ⟨py1, epy1⟩ : ∃ z : Int, z = z_35 := ⟨_, rfl⟩
  rw [← epy1]
  refine lv_istore_n (lv' := [(3, .int (J py1)), (2, .int (J px1)), (0, .ref (q 3)), (1, .ref (q (9 + 5 * r)))]) SS.1 SS.2.1 dX4_find_38 rfl hl (by decide) rfl (fun ls hl => ?_)
  refine lv_aload_n SS.1 SS.2.1 dX4_find_39 rfl (lv_at hl 3 rfl) ?_
  refine lv_aload_n SS.1 SS.2.1 dX4_find_40 rfl (lv_at hl 3 rfl) ?_
  refine j_getS SS hG hP (9 + 5 * r) (v := .int (J (u.1.2.2.1 r))) (C := RX7) (T := TX7) (N := 3) (cw_ring (by omega)) rfl inX7 2 (by decide) (ref := "GridPolygons$Ring") kw_137 kw_132 rfl dX4_find_41 ?_
  refine j_iconst SS dX4_find_44 ?_
  refine j_isub SS (x := (u.1.2.2.1 r)) (y := 1) dX4_find_45 ?_
  refine j_uRi SS (As := [.int (J ((u.1.2.2.1 r) - 1))]) (rest := []) (c_X8_x l D q (sV (sV (sV u 1 c1_24) 2 a1_24) 3 b1_24) r (by omega) ((u.1.2.2.1 r) - 1) (show -2147483648 ≤ ((u.1.2.2.1 r) - 1) ∧ ((u.1.2.2.1 r) - 1) ≤ 2147483647 from (by omega))) mu_7_x kw_650 hG hP hP (ci := 7) (q0 := (9 + 5 * r)) rfl (cw_ring (by omega)) rfl rfl hl.1 ⟨⟨Nat.le_of_ble_eq_true rfl, Nat.le_of_ble_eq_true rfl⟩, Nat.le_of_ble_eq_true rfl, Nat.le_refl _, Nat.le_refl _⟩ rfl dX4_find_46 (fun z_46 h_46 => ?_)
  have h_46 : z_46 = rx (sV (sV (sV u 1 c1_24) 2 a1_24) 3 b1_24) r ((u.1.2.2.1 r) - 1) ∧ ∀ K : Int, 0 ≤ K → RB K (sV (sV (sV u 1 c1_24) 2 a1_24) 3 b1_24) r → -K ≤ z_46 ∧ z_46 ≤ K := h_46
  have hb_46 := h_46.2 40 (by omega) (p0)
  refine lv_aload_n SS.1 SS.2.1 dX4_find_49 rfl (lv_at hl 3 rfl) ?_
  refine j_iconst SS dX4_find_50 ?_
  refine j_uRi SS (As := [.int (J 0)]) (rest := [.int (J z_46)]) (c_X8_x l D q (sV (sV (sV u 1 c1_24) 2 a1_24) 3 b1_24) r (by omega) 0 (show -2147483648 ≤ (0 : Int) ∧ (0 : Int) ≤ 2147483647 from (by omega))) mu_7_x kw_650 hG hP hP (ci := 7) (q0 := (9 + 5 * r)) rfl (cw_ring (by omega)) rfl rfl hl.1 ⟨⟨Nat.le_of_ble_eq_true rfl, Nat.le_of_ble_eq_true rfl⟩, Nat.le_of_ble_eq_true rfl, Nat.le_refl _, Nat.le_refl _⟩ rfl dX4_find_51 (fun z_51 h_51 => ?_)
  have h_51 : z_51 = rx (sV (sV (sV u 1 c1_24) 2 a1_24) 3 b1_24) r (0 : Int) ∧ ∀ K : Int, 0 ≤ K → RB K (sV (sV (sV u 1 c1_24) 2 a1_24) 3 b1_24) r → -K ≤ z_51 ∧ z_51 ≤ K := h_51
  have hb_51 := h_51.2 40 (by omega) (p0)
  refine j_isub SS (x := z_46) (y := z_51) dX4_find_54 ?_
  obtain ⟨qx1, eqx1⟩ : ∃ z : Int, z = (z_46 - z_51) := ⟨_, rfl⟩
  rw [← eqx1]
  refine lv_istore (lv' := [(4, .int (J qx1)), (3, .int (J py1)), (2, .int (J px1)), (0, .ref (q 3)), (1, .ref (q (9 + 5 * r)))]) SS.1 SS.2.1 dX4_find_55 hl (by decide) rfl (fun ls hl => ?_)
  refine lv_aload_n SS.1 SS.2.1 dX4_find_57 rfl (lv_at hl 4 rfl) ?_
  refine lv_aload_n SS.1 SS.2.1 dX4_find_58 rfl (lv_at hl 4 rfl) ?_
  refine j_getS SS hG hP (9 + 5 * r) (v := .int (J (u.1.2.2.1 r))) (C := RX7) (T := TX7) (N := 3) (cw_ring (by omega)) rfl inX7 2 (by decide) (ref := "GridPolygons$Ring") kw_137 kw_132 rfl dX4_find_59 ?_
  refine j_iconst SS dX4_find_62 ?_
  refine j_isub SS (x := (u.1.2.2.1 r)) (y := 1) dX4_find_63 ?_
  refine j_uRi SS (As := [.int (J ((u.1.2.2.1 r) - 1))]) (rest := []) (c_X8_y l D q (sV (sV (sV u 1 c1_24) 2 a1_24) 3 b1_24) r (by omega) ((u.1.2.2.1 r) - 1) (show -2147483648 ≤ ((u.1.2.2.1 r) - 1) ∧ ((u.1.2.2.1 r) - 1) ≤ 2147483647 from (by omega))) mu_7_y kw_651 hG hP hP (ci := 7) (q0 := (9 + 5 * r)) rfl (cw_ring (by omega)) rfl rfl hl.1 ⟨⟨Nat.le_of_ble_eq_true rfl, Nat.le_of_ble_eq_true rfl⟩, Nat.le_of_ble_eq_true rfl, Nat.le_refl _, Nat.le_refl _⟩ rfl dX4_find_64 (fun z_64 h_64 => ?_)
  have h_64 : z_64 = ry9 (sV (sV (sV u 1 c1_24) 2 a1_24) 3 b1_24) r ((u.1.2.2.1 r) - 1) ∧ ∀ K : Int, 0 ≤ K → RB K (sV (sV (sV u 1 c1_24) 2 a1_24) 3 b1_24) r → -K ≤ z_64 ∧ z_64 ≤ K := h_64
  have hb_64 := h_64.2 40 (by omega) (p0)
  refine lv_aload_n SS.1 SS.2.1 dX4_find_67 rfl (lv_at hl 4 rfl) ?_
  refine j_iconst SS dX4_find_68 ?_
  refine j_uRi SS (As := [.int (J 0)]) (rest := [.int (J z_64)]) (c_X8_y l D q (sV (sV (sV u 1 c1_24) 2 a1_24) 3 b1_24) r (by omega) 0 (show -2147483648 ≤ (0 : Int) ∧ (0 : Int) ≤ 2147483647 from (by omega))) mu_7_y kw_651 hG hP hP (ci := 7) (q0 := (9 + 5 * r)) rfl (cw_ring (by omega)) rfl rfl hl.1 ⟨⟨Nat.le_of_ble_eq_true rfl, Nat.le_of_ble_eq_true rfl⟩, Nat.le_of_ble_eq_true rfl, Nat.le_refl _, Nat.le_refl _⟩ rfl dX4_find_69 (fun z_69 h_69 => ?_)
  have h_69 : z_69 = ry9 (sV (sV (sV u 1 c1_24) 2 a1_24) 3 b1_24) r (0 : Int) ∧ ∀ K : Int, 0 ≤ K → RB K (sV (sV (sV u 1 c1_24) 2 a1_24) 3 b1_24) r → -K ≤ z_69 ∧ z_69 ≤ K := h_69
  have hb_69 := h_69.2 40 (by omega) (p0)
  refine j_isub SS (x := z_64) (y := z_69) dX4_find_72 ?_
  obtain ⟨qy1, eqy1⟩ : ∃ z : Int, z = (z_64 - z_69) := ⟨_, rfl⟩
  rw [← eqy1]
  refine lv_istore (lv' := [(5, .int (J qy1)), (4, .int (J qx1)), (3, .int (J py1)), (2, .int (J px1)), (0, .ref (q 3)), (1, .ref (q (9 + 5 * r)))]) SS.1 SS.2.1 dX4_find_73 hl (by decide) rfl (fun ls hl => ?_)
  refine lv_iload_n SS.1 SS.2.1 dX4_find_75 rfl (lv_at hl 3 rfl) ?_
  refine lv_iload SS.1 SS.2.1 dX4_find_76 (lv_at hl 0 rfl) ?_
  refine j_imul SS (x := px1) (y := qy1) dX4_find_78 ?_
  refine lv_iload_n SS.1 SS.2.1 dX4_find_79 rfl (lv_at hl 2 rfl) ?_
  refine lv_iload SS.1 SS.2.1 dX4_find_80 (lv_at hl 1 rfl) ?_
  refine j_imul SS (x := py1) (y := qx1) dX4_find_82 ?_
  refine j_isub SS (x := (px1 * qy1)) (y := (py1 * qx1)) dX4_find_83 ?_
  obtain ⟨wh, ewh⟩ : ∃ z : Int, z = ((px1 * qy1) - (py1 * qx1)) := ⟨_, rfl⟩
  rw [← ewh]
  refine lv_istore (lv' := [(6, .int (J wh)), (5, .int (J qy1)), (4, .int (J qx1)), (3, .int (J py1)), (2, .int (J px1)), (0, .ref (q 3)), (1, .ref (q (9 + 5 * r)))]) SS.1 SS.2.1 dX4_find_84 hl (by decide) rfl (fun ls hl => ?_)
  have w1 := mulb (A := 80) (B := 80) (a := px1) (b := qy1) (by omega) (by omega)
  have w2 := mulb (A := 80) (B := 80) (a := py1) (b := qx1) (by omega) (by omega)
  refine lv_iload SS.1 SS.2.1 dX4_find_86 (lv_at hl 0 rfl) ?_
  refine j_if_ne SS (tgt := 92) (x := wh) dX4_find_88 (by decide) (by omega) (fun c_88 => ?_) (fun c_88 => ?_)
  · skip
    refine j_iconst SS dX4_find_92 ?_
    refine lv_istore (lv' := [(7, .int (J 0)), (6, .int (J wh)), (5, .int (J qy1)), (4, .int (J qx1)), (3, .int (J py1)), (2, .int (J px1)), (0, .ref (q 3)), (1, .ref (q (9 + 5 * r)))]) SS.1 SS.2.1 dX4_find_93 hl (by decide) rfl (fun ls hl => ?_)
    have L_95 : ∀ (nn : Nat) (m : Int) (c2 : Int) (a2 : Int) (b2 : Int) (H : Heap) (locs : List Loc) (hP : va_P D.1 j_cl (cW D q (sV (sV (sV u 1 c2) 2 a2) 3 b2)) H) (hS : va_S A st.heap H locs) (ls : Array Slot) (hl : lv_has ls 11 [(0, .ref (q 3)), (1, .ref (q (9 + 5 * r))), (2, .int (J px1)), (3, .int (J py1)), (4, .int (J qx1)), (5, .int (J qy1)), (6, .int (J wh)), (7, .int (J m))]) (i95_0 : 0 ≤ m ∧ m ≤ 81) (i95_1 : 0 ≤ c2 ∧ c2 ≤ 80) (i95_2 : -20000 ≤ a2 ∧ a2 ≤ 20000) (i95_3 : -20000 ≤ b2 ∧ b2 ≤ 20000), ((81 : Int) - m).toNat < nn → W pr l en (headSpec (jw yX4_find cX4_find 11 none) (jr 3 74)).room st mi (([.ref (q 3), .ref (q (9 + 5 * r))] : List Value).toArray) below meth co H locs 0 0 (MQ below (jWv (fun u' => ∃ c1 : Int, ∃ a1 : Int, ∃ b1 : Int, u' = (sV (sV (sV u 1 c1) 2 a1) 3 b1) ∧ (True)) (fun u' H => va_P D.1 j_cl (cW D q u') H) A) (([.ref (q 3), .ref (q (9 + 5 * r))] : List Value).toArray) st 0 0 A) (F0 mi 95 ls []) := by
      intro nn
      induction nn with
      | zero => intros; omega
      | succ nn ih_95 =>
        intro m c2 a2 b2 H locs hP hS ls hl i95_0 i95_1 i95_2 i95_3 hm
        refine lv_iload SS.1 SS.2.1 dX4_find_95 (lv_at hl 7 rfl) ?_
        refine lv_aload_n SS.1 SS.2.1 dX4_find_97 rfl (lv_at hl 0 rfl) ?_
        refine j_get SS hG hP 3 (v := .int (J c2)) (C := RX4) (T := TX4) (N := 3) rfl rfl inX4 0 (by decide) (ref := "GridPolygons$LeastWidth") kw_194 rfl rfl dX4_find_98 ?_
        refine j_icmp_gt SS (tgt := 187) (x := m) (y := c2) dX4_find_101 (by decide) (by omega) (by omega) (fun c_101 => ?_) (fun c_101 => ?_)
        · skip
          exact W.vret SS.1 SS.2.1 hr (fun t0 ht hW => ⟨⟨(sV (sV (sV u 1 c2) 2 a2) 3 b2), rfl, (⟨c2, a2, b2, rfl, trivial⟩), by show va_P D.1 j_cl (cW D q (sV (sV (sV u 1 c2) 2 a2) 3 b2)) t0.heap; rw [ht]; first | exact hP | (simp only [sC_id, sX_id, sY_id, sH_id, sT_id, sV_id]; exact hP)⟩, hS.F ht⟩) hS.2.2 dX4_find_187 hlk
        · skip
          refine lv_aload_n SS.1 SS.2.1 dX4_find_104 rfl (lv_at hl 0 rfl) ?_
          refine j_get SS hG hP 3 (v := .int (J c2)) (C := RX4) (T := TX4) (N := 3) rfl rfl inX4 0 (by decide) (ref := "GridPolygons$LeastWidth") kw_194 rfl rfl dX4_find_105 ?_
          refine j_ineg SS dX4_find_108 ?_
          refine lv_istore (lv' := [(8, .int (J (-c2))), (0, .ref (q 3)), (1, .ref (q (9 + 5 * r))), (2, .int (J px1)), (3, .int (J py1)), (4, .int (J qx1)), (5, .int (J qy1)), (6, .int (J wh)), (7, .int (J m))]) SS.1 SS.2.1 dX4_find_109 hl (by decide) rfl (fun ls hl => ?_)
          have L_111 : ∀ (nn : Nat) (n : Int) (c3 : Int) (a3 : Int) (b3 : Int) (H : Heap) (locs : List Loc) (hP : va_P D.1 j_cl (cW D q (sV (sV (sV u 1 c3) 2 a3) 3 b3)) H) (hS : va_S A st.heap H locs) (ls : Array Slot) (hl : lv_has ls 11 [(0, .ref (q 3)), (1, .ref (q (9 + 5 * r))), (2, .int (J px1)), (3, .int (J py1)), (4, .int (J qx1)), (5, .int (J qy1)), (6, .int (J wh)), (7, .int (J m)), (8, .int (J n))]) (i111_0 : -80 ≤ n ∧ n ≤ 81) (i111_1 : 0 ≤ c3 ∧ c3 ≤ 80) (i111_2 : -20000 ≤ a3 ∧ a3 ≤ 20000) (i111_3 : -20000 ≤ b3 ∧ b3 ≤ 20000), ((81 : Int) - n).toNat < nn → W pr l en (headSpec (jw yX4_find cX4_find 11 none) (jr 3 74)).room st mi (([.ref (q 3), .ref (q (9 + 5 * r))] : List Value).toArray) below meth co H locs 0 0 (MQ below (jWv (fun u' => ∃ c1 : Int, ∃ a1 : Int, ∃ b1 : Int, u' = (sV (sV (sV u 1 c1) 2 a1) 3 b1) ∧ (True)) (fun u' H => va_P D.1 j_cl (cW D q u') H) A) (([.ref (q 3), .ref (q (9 + 5 * r))] : List Value).toArray) st 0 0 A) (F0 mi 111 ls []) := by
            intro nn
            induction nn with
            | zero => intros; omega
            | succ nn ih_111 =>
              intro n c3 a3 b3 H locs hP hS ls hl i111_0 i111_1 i111_2 i111_3 hm
              refine lv_iload SS.1 SS.2.1 dX4_find_111 (lv_at hl 8 rfl) ?_
              refine lv_aload_n SS.1 SS.2.1 dX4_find_113 rfl (lv_at hl 0 rfl) ?_
              refine j_get SS hG hP 3 (v := .int (J c3)) (C := RX4) (T := TX4) (N := 3) rfl rfl inX4 0 (by decide) (ref := "GridPolygons$LeastWidth") kw_194 rfl rfl dX4_find_114 ?_
              refine j_icmp_gt SS (tgt := 181) (x := n) (y := c3) dX4_find_117 (by decide) (by omega) (by omega) (fun c_117 => ?_) (fun c_117 => ?_)
              · skip
                refine lv_iinc (v := J (m + 1)) (lv' := [(7, .int (J (m + 1))), (0, .ref (q 3)), (1, .ref (q (9 + 5 * r))), (2, .int (J px1)), (3, .int (J py1)), (4, .int (J qx1)), (5, .int (J qy1)), (6, .int (J wh)), (8, .int (J n))]) SS.1 SS.2.1 dX4_find_181 hl (k := 7) rfl (J_add _ _) (by decide) rfl (fun ls hl => ?_)
                refine lv_goto (tgt := 95) SS.1 SS.2.1 dX4_find_184 (by decide) ?_
                exact ih_95 (m + 1) c3 a3 b3 _ _ hP hS ls (lv_sub hl [1, 2, 3, 4, 5, 6, 7, 0] rfl) (by omega) (by omega) (by omega) (by omega) (by omega)
              · skip
                refine lv_iload SS.1 SS.2.1 dX4_find_120 (lv_at hl 7 rfl) ?_
                refine lv_iload SS.1 SS.2.1 dX4_find_122 (lv_at hl 5 rfl) ?_
                refine j_imul SS (x := m) (y := qy1) dX4_find_124 ?_
                refine lv_iload SS.1 SS.2.1 dX4_find_125 (lv_at hl 8 rfl) ?_
                refine lv_iload_n SS.1 SS.2.1 dX4_find_127 rfl (lv_at hl 3 rfl) ?_
                refine j_imul SS (x := n) (y := py1) dX4_find_128 ?_
                refine j_isub SS (x := (m * qy1)) (y := (n * py1)) dX4_find_129 ?_
                obtain ⟨uu1, euu1⟩ : ∃ z : Int, z = ((m * qy1) - (n * py1)) := ⟨_, rfl⟩
                rw [← euu1]
                refine lv_istore (lv' := [(9, .int (J uu1)), (0, .ref (q 3)), (1, .ref (q (9 + 5 * r))), (2, .int (J px1)), (3, .int (J py1)), (4, .int (J qx1)), (5, .int (J qy1)), (6, .int (J wh)), (7, .int (J m)), (8, .int (J n))]) SS.1 SS.2.1 dX4_find_130 hl (by decide) rfl (fun ls hl => ?_)
                refine lv_iload SS.1 SS.2.1 dX4_find_132 (lv_at hl 9 rfl) ?_
                refine lv_iload_n SS.1 SS.2.1 dX4_find_134 rfl (lv_at hl 3 rfl) ?_
                refine j_imul SS (x := n) (y := px1) dX4_find_135 ?_
                refine lv_iload SS.1 SS.2.1 dX4_find_136 (lv_at hl 8 rfl) ?_
                refine lv_iload SS.1 SS.2.1 dX4_find_138 (lv_at hl 5 rfl) ?_
                refine j_imul SS (x := m) (y := qx1) dX4_find_140 ?_
                refine j_isub SS (x := (n * px1)) (y := (m * qx1)) dX4_find_141 ?_
                obtain ⟨vv1, evv1⟩ : ∃ z : Int, z = ((n * px1) - (m * qx1)) := ⟨_, rfl⟩
                rw [← evv1]
                refine lv_istore (lv' := [(10, .int (J vv1)), (9, .int (J uu1)), (0, .ref (q 3)), (1, .ref (q (9 + 5 * r))), (2, .int (J px1)), (3, .int (J py1)), (4, .int (J qx1)), (5, .int (J qy1)), (6, .int (J wh)), (7, .int (J m)), (8, .int (J n))]) SS.1 SS.2.1 dX4_find_142 hl (by decide) rfl (fun ls hl => ?_)
                have v1 := mulb (A := 80) (B := 80) (a := m) (b := qy1) (by omega) (by omega)
                have v2 := mulb (A := 80) (B := 80) (a := n) (b := py1) (by omega) (by omega)
                have v3 := mulb (A := 80) (B := 80) (a := n) (b := px1) (by omega) (by omega)
                have v4 := mulb (A := 80) (B := 80) (a := m) (b := qx1) (by omega) (by omega)
                refine lv_iload SS.1 SS.2.1 dX4_find_144 (lv_at hl 1 rfl) ?_
                refine lv_iload SS.1 SS.2.1 dX4_find_146 (lv_at hl 8 rfl) ?_
                refine j_irem SS (x := uu1) (y := wh) dX4_find_148 (by omega) (by omega) (by omega) ?_
                have tm0 := tm_a (a := uu1) (b := wh) (K := 20000) (by omega)
                refine j_if_ne SS (tgt := 175) (x := (Int.tmod uu1 wh)) dX4_find_149 (by decide) (by omega) (fun c_149 => ?_) (fun c_149 => ?_)
                · skip
                  refine lv_iinc (v := J (n + 1)) (lv' := [(8, .int (J (n + 1))), (10, .int (J vv1)), (9, .int (J uu1)), (0, .ref (q 3)), (1, .ref (q (9 + 5 * r))), (2, .int (J px1)), (3, .int (J py1)), (4, .int (J qx1)), (5, .int (J qy1)), (6, .int (J wh)), (7, .int (J m))]) SS.1 SS.2.1 dX4_find_175 hl (k := 10) rfl (J_add _ _) (by decide) rfl (fun ls hl => ?_)
                  refine lv_goto (tgt := 111) SS.1 SS.2.1 dX4_find_178 (by decide) ?_
                  exact ih_111 (n + 1) c3 a3 b3 _ _ hP hS ls (lv_sub hl [3, 4, 5, 6, 7, 8, 9, 10, 0] rfl) (by omega) (by omega) (by omega) (by omega) (by omega)
                · skip
                  refine lv_iload SS.1 SS.2.1 dX4_find_152 (lv_at hl 0 rfl) ?_
                  refine lv_iload SS.1 SS.2.1 dX4_find_154 (lv_at hl 8 rfl) ?_
                  refine j_irem SS (x := vv1) (y := wh) dX4_find_156 (by omega) (by omega) (by omega) ?_
                  have tm1 := tm_a (a := vv1) (b := wh) (K := 20000) (by omega)
                  refine j_if_ne SS (tgt := 175) (x := (Int.tmod vv1 wh)) dX4_find_157 (by decide) (by omega) (fun c_157 => ?_) (fun c_157 => ?_)
                  · skip
                    refine lv_iinc (v := J (n + 1)) (lv' := [(8, .int (J (n + 1))), (10, .int (J vv1)), (9, .int (J uu1)), (0, .ref (q 3)), (1, .ref (q (9 + 5 * r))), (2, .int (J px1)), (3, .int (J py1)), (4, .int (J qx1)), (5, .int (J qy1)), (6, .int (J wh)), (7, .int (J m))]) SS.1 SS.2.1 dX4_find_175 hl (k := 10) rfl (J_add _ _) (by decide) rfl (fun ls hl => ?_)
                    refine lv_goto (tgt := 111) SS.1 SS.2.1 dX4_find_178 (by decide) ?_
                    exact ih_111 (n + 1) c3 a3 b3 _ _ hP hS ls (lv_sub hl [3, 4, 5, 6, 7, 8, 9, 10, 0] rfl) (by omega) (by omega) (by omega) (by omega) (by omega)
                  · skip
                    refine lv_aload_n SS.1 SS.2.1 dX4_find_160 rfl (lv_at hl 2 rfl) ?_
                    refine lv_aload_n SS.1 SS.2.1 dX4_find_161 rfl (lv_at hl 3 rfl) ?_
                    refine lv_iload SS.1 SS.2.1 dX4_find_162 (lv_at hl 1 rfl) ?_
                    refine lv_iload SS.1 SS.2.1 dX4_find_164 (lv_at hl 8 rfl) ?_
                    refine j_idiv SS (x := uu1) (y := wh) dX4_find_166 (by omega) (by omega) (by omega) ?_
                    refine lv_iload SS.1 SS.2.1 dX4_find_167 (lv_at hl 0 rfl) ?_
                    refine lv_iload SS.1 SS.2.1 dX4_find_169 (lv_at hl 8 rfl) ?_
                    refine j_idiv SS (x := vv1) (y := wh) dX4_find_171 (by omega) (by omega) (by omega) ?_
                    have t1 := td_b (a := uu1) (b := wh) (K := 12800) (by omega)
                    have t2 := td_b (a := vv1) (b := wh) (K := 12800) (by omega)
                    refine j_vWv SS (As := [.ref (q (9 + 5 * r)), .int (J (Int.tdiv uu1 wh)), .int (J (Int.tdiv vv1 wh))]) (rest := []) (c_X4_weigh l D q (sV (sV (sV u 1 c3) 2 a3) 3 b3) A (cW_D hD) r (by omega) (Int.tdiv uu1 wh) (Int.tdiv vv1 wh) (show RB 40 (sV (sV (sV u 1 c3) 2 a3) 3 b3) r from (p0)) (show -20000 ≤ (Int.tdiv uu1 wh) ∧ (Int.tdiv uu1 wh) ≤ 20000 from (by omega)) (show -20000 ≤ (Int.tdiv vv1 wh) ∧ (Int.tdiv vv1 wh) ≤ 20000 from (by omega)) (show (0 ≤ c3 ∧ c3 ≤ 6400000) ∧ (-20000 ≤ a3 ∧ a3 ≤ 20000) ∧ -20000 ≤ b3 ∧ b3 ≤ 20000 from (by omega))) mf_X4_weigh kw_644 hG hP hP (ci := 4) (q0 := 3) rfl rfl rfl hS (fun _ h => h) rfl hl.1 ⟨⟨Nat.le_of_ble_eq_true rfl, Nat.le_of_ble_eq_true rfl⟩, Nat.le_of_ble_eq_true rfl, Nat.le_refl _, Nat.le_refl _⟩ rfl dX4_find_172 (fun u172 H locs h_172 hP _ hS => ?_)
                    obtain ⟨c1_172, a1_172, b1_172, rfl, h_172⟩ := h_172
                    have hP : va_P D.1 j_cl (cW D q (sV (sV (sV u 1 c1_172) 2 a1_172) 3 b1_172)) H := hP
                    have h_172 : (0 ≤ c1_172 ∧ c1_172 ≤ c3) ∧ (-20000 ≤ a1_172 ∧ a1_172 ≤ 20000) ∧ -20000 ≤ b1_172 ∧ b1_172 ≤ 20000 := h_172
                    refine lv_iinc (v := J (n + 1)) (lv' := [(8, .int (J (n + 1))), (10, .int (J vv1)), (9, .int (J uu1)), (0, .ref (q 3)), (1, .ref (q (9 + 5 * r))), (2, .int (J px1)), (3, .int (J py1)), (4, .int (J qx1)), (5, .int (J qy1)), (6, .int (J wh)), (7, .int (J m))]) SS.1 SS.2.1 dX4_find_175 hl (k := 10) rfl (J_add _ _) (by decide) rfl (fun ls hl => ?_)
                    refine lv_goto (tgt := 111) SS.1 SS.2.1 dX4_find_178 (by decide) ?_
                    exact ih_111 (n + 1) c1_172 a1_172 b1_172 _ _ hP hS ls (lv_sub hl [3, 4, 5, 6, 7, 8, 9, 10, 0] rfl) (by omega) (by omega) (by omega) (by omega) (by omega)
          exact L_111 (((81 : Int) - (-c2)).toNat + 1) (-c2) c2 a2 b2 _ _ hP hS ls (lv_sub hl [1, 2, 3, 4, 5, 6, 7, 8, 0] rfl) (by omega) (by omega) (by omega) (by omega) (Nat.lt_succ_self _)
    exact L_95 (((81 : Int) - (0 : Int)).toNat + 1) 0 c1_24 a1_24 b1_24 _ _ hP hS ls (lv_sub hl [6, 7, 5, 4, 3, 2, 1, 0] rfl) (by omega) (by omega) (by omega) (by omega) (Nat.lt_succ_self _)
  · skip
    exact W.vret SS.1 SS.2.1 hr (fun t0 ht hW => ⟨⟨(sV (sV (sV u 1 c1_24) 2 a1_24) 3 b1_24), rfl, (⟨c1_24, a1_24, b1_24, rfl, trivial⟩), by show va_P D.1 j_cl (cW D q (sV (sV (sV u 1 c1_24) 2 a1_24) 3 b1_24)) t0.heap; rw [ht]; first | exact hP | (simp only [sC_id, sX_id, sY_id, sH_id, sT_id, sV_id]; exact hP)⟩, hS.F ht⟩) hS.2.2 dX4_find_91 hlk

theorem CI_lw {u : CS} {a b c : Int} (h : CI u) : CI (sV (sV (sV u 1 a) 2 b) 3 c) := h

set_option maxHeartbeats 4000000 in
set_option maxRecDepth 100000 in
theorem c_X11_least (l : Launch) (D : JD) (q : Nat → Nat) (u : CS) (A : Nat → Prop) (hD : va_D A (cW D q u)) (s : Int) (what : Int) (p0 : CI u) (p1 : -2147483648 ≤ s ∧ s ≤ 2147483647) (p2 : -2147483648 ≤ what ∧ what ≤ 2147483647) : Met l yX11_least (jw yX11_least cX11_least 4 (some .int)) (jr 4 104) (jP [.ref (q 0), .int (J s), .int (J what)] D (fun H => va_P D.1 j_cl (cW D q u) H)) (jWi (fun z u' => CI u') (fun u' H => va_P D.1 j_cl (cW D q u') H) A) 0 0 A := by
  refine Met.ofW (cc := cX11_least) (maxL := 4) (ret := (some .int)) (by decide) rfl ?_
  intro pr en st mi args below meth co s₁ B hml hv
  obtain ⟨rfl, hG, hP⟩ := hv
  have hr := B.returns
  have hlk := B.notSynchronized
  have SS : jS pr mi co cX11_least 4 st _ RX11 := ⟨B.exec, B.bytes, hml, findClass_of_methodNamed B.named, fun w hw => atoms_spec (ws := (jw yX11_least cX11_least 4 (some .int))) B.pre w (List.mem_cons_of_mem _ hw)⟩
  have hl := lv_entry ([.ref (q 0), .int (J s), .int (J what)]) (n := 4) (Nat.le_of_ble_eq_true rfl)
  rw [lg_entry_eq]
  generalize (lg_sl ([.ref (q 0), .int (J s), .int (J what)]) ++ List.replicate (4 - (lg_sl ([.ref (q 0), .int (J s), .int (J what)])).length) Slot.unset).toArray = ls at hl ⊢
  have hl : lv_has ls 4 [(0, .ref (q 0)), (1, .int (J s)), (2, .int (J what))] := hl
  have hS : va_S A st.heap st.heap [] := va_S.rf
  refine lv_aload_n SS.1 SS.2.1 dX11_least_0 rfl (lv_at hl 0 rfl) ?_
  refine lv_iload_n SS.1 SS.2.1 dX11_least_1 rfl (lv_at hl 1 rfl) ?_
  refine j_vSh SS (As := [.int (J s)]) (rest := []) (c_X11_shapeAt l D q u  s (show -2147483648 ≤ s ∧ s ≤ 2147483647 from (p1))) mf_X11_shapeAt kw_414 hG hP hP (ci := 11) (q0 := 0) rfl rfl rfl rfl hl.1 ⟨⟨Nat.le_of_ble_eq_true rfl, Nat.le_of_ble_eq_true rfl⟩, Nat.le_of_ble_eq_true rfl, Nat.le_refl _, Nat.le_refl _⟩ rfl dX11_least_2 (fun i_2 hi_2 hz_2 => ?_) (fun hn_2 => ?_)
  · skip
    have hI2 := CI_s p0 (show i_2 < 8 by omega)
    have hI2c := hI2.1
    have hrl2 := rl_s (show i_2 < 8 by omega)
    refine lv_astore_n (lv' := [(3, .ref (q (8 + 5 * i_2))), (0, .ref (q 0)), (1, .int (J s)), (2, .int (J what))]) SS.1 SS.2.1 dX11_least_5 rfl hl (by decide) rfl (fun ls hl => ?_)
    refine lv_aload_n SS.1 SS.2.1 dX11_least_6 rfl (lv_at hl 0 rfl) ?_
    refine lv_ifnull SS.1 SS.2.1 dX11_least_7 ?_
    refine lv_iload_n SS.1 SS.2.1 dX11_least_10 rfl (lv_at hl 3 rfl) ?_
    refine j_if_lt SS (tgt := 29) (x := what) dX11_least_11 (by decide) (by omega) (fun c_11 => ?_) (fun c_11 => ?_)
    · skip
      refine j_ldc SS (-1000000) kw_512 dX11_least_29 ?_
      exact W.iret SS.1 SS.2.1 hr (fun t0 ht hW => ⟨⟨_, u, rfl, ⟨(-1000000), rfl, (p0)⟩, by show va_P D.1 j_cl (cW D q u) t0.heap; rw [ht]; first | exact hP | (simp only [sC_id, sX_id, sY_id, sH_id, sT_id, sV_id]; exact hP)⟩, hS.F ht⟩) hS.2.2 dX11_least_31 hlk
    · skip
      refine lv_iload_n SS.1 SS.2.1 dX11_least_14 rfl (lv_at hl 3 rfl) ?_
      refine j_iconst SS dX11_least_15 ?_
      refine j_icmp_gt SS (tgt := 29) (x := what) (y := 2) dX11_least_16 (by decide) (by omega) (by decide) (fun c_16 => ?_) (fun c_16 => ?_)
      · skip
        refine j_ldc SS (-1000000) kw_512 dX11_least_29 ?_
        exact W.iret SS.1 SS.2.1 hr (fun t0 ht hW => ⟨⟨_, u, rfl, ⟨(-1000000), rfl, (p0)⟩, by show va_P D.1 j_cl (cW D q u) t0.heap; rw [ht]; first | exact hP | (simp only [sC_id, sX_id, sY_id, sH_id, sT_id, sV_id]; exact hP)⟩, hS.F ht⟩) hS.2.2 dX11_least_31 hlk
      · skip
        refine lv_aload_n SS.1 SS.2.1 dX11_least_19 rfl (lv_at hl 0 rfl) ?_
        refine j_get SS hG hP (8 + 5 * i_2) (v := .ref (q (9 + 5 * i_2))) (C := RX10) (T := TX10) (N := 3) (cw_shape (by omega)) rfl inX10 0 (by decide) (ref := "GridPolygons$Shape") kw_151 rfl rfl dX11_least_20 ?_
        refine j_vRi SS (As := []) (rest := []) (c_X7_isPolygon l D q u i_2 (by omega) (40 : Int)  (show 0 ≤ (40 : Int) ∧ (40 : Int) ≤ 80 from (by omega)) (show RB (40 : Int) u i_2 from (CI_40 p0 (by omega)))) mf_X7_isPolygon kw_568 hG hP hP (ci := 7) (q0 := (9 + 5 * i_2)) rfl (cw_ring (by omega)) rfl rfl hl.1 ⟨⟨Nat.le_of_ble_eq_true rfl, Nat.le_of_ble_eq_true rfl⟩, Nat.le_of_ble_eq_true rfl, Nat.le_refl _, Nat.le_refl _⟩ rfl dX11_least_23 (fun z_23 h_23 => ?_)
        have h_23 : (z_23 = 1 ∧ 3 ≤ (u.1.2.2.1 i_2)) ∨ (z_23 = 0 ∧ (u.1.2.2.1 i_2) < 3) := h_23
        refine j_if_ne SS (tgt := 32) (x := z_23) dX11_least_26 (by decide) (by omega) (fun c_26 => ?_) (fun c_26 => ?_)
        · skip
          refine lv_aload_n SS.1 SS.2.1 dX11_least_32 rfl (lv_at hl 1 rfl) ?_
          refine j_get SS hG hP 0 (v := .ref (q 3)) (C := RX11) (T := TX11) (N := 8) rfl rfl inX11 2 (by decide) (ref := "GridPolygons") kw_387 rfl rfl dX11_least_33 ?_
          refine lv_aload_n SS.1 SS.2.1 dX11_least_36 rfl (lv_at hl 0 rfl) ?_
          refine j_get SS hG hP (8 + 5 * i_2) (v := .ref (q (9 + 5 * i_2))) (C := RX10) (T := TX10) (N := 3) (cw_shape (by omega)) rfl inX10 0 (by decide) (ref := "GridPolygons$Shape") kw_151 rfl rfl dX11_least_37 ?_
          refine j_vWv SS (As := [.ref (q (9 + 5 * i_2))]) (rest := []) (c_X4_find l D q u A (cW_D hD) i_2 (by omega)  (show RB 40 u i_2 from (CI_40 p0 (by omega)))) mf_X4_find kw_639 hG hP hP (ci := 4) (q0 := 3) rfl rfl rfl hS (fun _ h => h) rfl hl.1 ⟨⟨Nat.le_of_ble_eq_true rfl, Nat.le_of_ble_eq_true rfl⟩, Nat.le_of_ble_eq_true rfl, Nat.le_refl _, Nat.le_refl _⟩ rfl dX11_least_40 (fun u40 H locs h_40 hP _ hS => ?_)
          obtain ⟨c1_40, a1_40, b1_40, rfl, h_40⟩ := h_40
          have hP : va_P D.1 j_cl (cW D q (sV (sV (sV u 1 c1_40) 2 a1_40) 3 b1_40)) H := hP
          have h_40 : True := h_40
          refine lv_iload_n SS.1 SS.2.1 dX11_least_43 rfl (lv_at hl 3 rfl) ?_
          refine j_if_ne SS (tgt := 55) (x := what) dX11_least_44 (by decide) (by omega) (fun c_44 => ?_) (fun c_44 => ?_)
          · skip
            refine lv_iload_n SS.1 SS.2.1 dX11_least_55 rfl (lv_at hl 3 rfl) ?_
            refine j_iconst SS dX11_least_56 ?_
            refine j_icmp_ne SS (tgt := 70) (x := what) (y := 1) dX11_least_57 (by decide) (by omega) (by decide) (fun c_57 => ?_) (fun c_57 => ?_)
            · skip
              refine lv_aload_n SS.1 SS.2.1 dX11_least_70 rfl (lv_at hl 1 rfl) ?_
              refine j_get SS hG hP 0 (v := .ref (q 3)) (C := RX11) (T := TX11) (N := 8) rfl rfl inX11 2 (by decide) (ref := "GridPolygons") kw_387 rfl rfl dX11_least_71 ?_
              refine j_get SS hG hP 3 (v := .int (J b1_40)) (C := RX4) (T := TX4) (N := 3) rfl rfl inX4 2 (by decide) (ref := "GridPolygons$LeastWidth") kw_199 rfl rfl dX11_least_74 ?_
              exact W.iret SS.1 SS.2.1 hr (fun t0 ht hW => ⟨⟨_, (sV (sV (sV u 1 c1_40) 2 a1_40) 3 b1_40), rfl, ⟨b1_40, rfl, (CI_lw p0)⟩, by show va_P D.1 j_cl (cW D q (sV (sV (sV u 1 c1_40) 2 a1_40) 3 b1_40)) t0.heap; rw [ht]; first | exact hP | (simp only [sC_id, sX_id, sY_id, sH_id, sT_id, sV_id]; exact hP)⟩, hS.F ht⟩) hS.2.2 dX11_least_77 hlk
            · skip
              refine lv_aload_n SS.1 SS.2.1 dX11_least_60 rfl (lv_at hl 1 rfl) ?_
              refine j_get SS hG hP 0 (v := .ref (q 3)) (C := RX11) (T := TX11) (N := 8) rfl rfl inX11 2 (by decide) (ref := "GridPolygons") kw_387 rfl rfl dX11_least_61 ?_
              refine j_get SS hG hP 3 (v := .int (J a1_40)) (C := RX4) (T := TX4) (N := 3) rfl rfl inX4 1 (by decide) (ref := "GridPolygons$LeastWidth") kw_197 rfl rfl dX11_least_64 ?_
              refine lv_goto (tgt := 77) SS.1 SS.2.1 dX11_least_67 (by decide) ?_
              exact W.iret SS.1 SS.2.1 hr (fun t0 ht hW => ⟨⟨_, (sV (sV (sV u 1 c1_40) 2 a1_40) 3 b1_40), rfl, ⟨a1_40, rfl, (CI_lw p0)⟩, by show va_P D.1 j_cl (cW D q (sV (sV (sV u 1 c1_40) 2 a1_40) 3 b1_40)) t0.heap; rw [ht]; first | exact hP | (simp only [sC_id, sX_id, sY_id, sH_id, sT_id, sV_id]; exact hP)⟩, hS.F ht⟩) hS.2.2 dX11_least_77 hlk
          · skip
            refine lv_aload_n SS.1 SS.2.1 dX11_least_47 rfl (lv_at hl 1 rfl) ?_
            refine j_get SS hG hP 0 (v := .ref (q 3)) (C := RX11) (T := TX11) (N := 8) rfl rfl inX11 2 (by decide) (ref := "GridPolygons") kw_387 rfl rfl dX11_least_48 ?_
            refine j_get SS hG hP 3 (v := .int (J c1_40)) (C := RX4) (T := TX4) (N := 3) rfl rfl inX4 0 (by decide) (ref := "GridPolygons$LeastWidth") kw_195 rfl rfl dX11_least_51 ?_
            exact W.iret SS.1 SS.2.1 hr (fun t0 ht hW => ⟨⟨_, (sV (sV (sV u 1 c1_40) 2 a1_40) 3 b1_40), rfl, ⟨c1_40, rfl, (CI_lw p0)⟩, by show va_P D.1 j_cl (cW D q (sV (sV (sV u 1 c1_40) 2 a1_40) 3 b1_40)) t0.heap; rw [ht]; first | exact hP | (simp only [sC_id, sX_id, sY_id, sH_id, sT_id, sV_id]; exact hP)⟩, hS.F ht⟩) hS.2.2 dX11_least_54 hlk
        · skip
          refine j_ldc SS (-1000000) kw_512 dX11_least_29 ?_
          exact W.iret SS.1 SS.2.1 hr (fun t0 ht hW => ⟨⟨_, u, rfl, ⟨(-1000000), rfl, (p0)⟩, by show va_P D.1 j_cl (cW D q u) t0.heap; rw [ht]; first | exact hP | (simp only [sC_id, sX_id, sY_id, sH_id, sT_id, sV_id]; exact hP)⟩, hS.F ht⟩) hS.2.2 dX11_least_31 hlk
  · skip
    refine lv_astore_nN (lv' := [(3, .null), (0, .ref (q 0)), (1, .int (J s)), (2, .int (J what))]) SS.1 SS.2.1 dX11_least_5 rfl hl (by decide) rfl (fun ls hl => ?_)
    refine lv_aload_nN SS.1 SS.2.1 dX11_least_6 rfl (lv_at hl 0 rfl) ?_
    refine lv_ifnullN SS.1 SS.2.1 (tgt := 29) dX11_least_7 (by decide) ?_
    refine j_ldc SS (-1000000) kw_512 dX11_least_29 ?_
    exact W.iret SS.1 SS.2.1 hr (fun t0 ht hW => ⟨⟨_, u, rfl, ⟨(-1000000), rfl, (p0)⟩, by show va_P D.1 j_cl (cW D q u) t0.heap; rw [ht]; first | exact hP | (simp only [sC_id, sX_id, sY_id, sH_id, sT_id, sV_id]; exact hP)⟩, hS.F ht⟩) hS.2.2 dX11_least_31 hlk

set_option maxHeartbeats 4000000 in
set_option maxRecDepth 100000 in
theorem c_X11_map (l : Launch) (D : JD) (q : Nat → Nat) (u : CS) (A : Nat → Prop) (hD : va_D A (cW D q u)) (s : Int) (to : Int) (a : Int) (b : Int) (c : Int) (d : Int) (e : Int) (f : Int) (p0 : CI u) (p1 : -2147483648 ≤ s ∧ s ≤ 2147483647) (p2 : -2147483648 ≤ to ∧ to ≤ 2147483647) (p3 : -2147483648 ≤ a ∧ a ≤ 2147483647) (p4 : -2147483648 ≤ b ∧ b ≤ 2147483647) (p5 : -2147483648 ≤ c ∧ c ≤ 2147483647) (p6 : -2147483648 ≤ d ∧ d ≤ 2147483647) (p7 : -2147483648 ≤ e ∧ e ≤ 2147483647) (p8 : -2147483648 ≤ f ∧ f ≤ 2147483647) : Met l yX11_map (jw yX11_map cX11_map 16 (some .int)) (jr 4 91) (jP [.ref (q 0), .int (J s), .int (J to), .int (J a), .int (J b), .int (J c), .int (J d), .int (J e), .int (J f)] D (fun H => va_P D.1 j_cl (cW D q u) H)) (jWi (fun z u' => CI u') (fun u' H => va_P D.1 j_cl (cW D q u') H) A) 0 0 A := by
  refine Met.ofW (cc := cX11_map) (maxL := 16) (ret := (some .int)) (by decide) rfl ?_
  intro pr en st mi args below meth co s₁ B hml hv
  obtain ⟨rfl, hG, hP⟩ := hv
  have hr := B.returns
  have hlk := B.notSynchronized
  have SS : jS pr mi co cX11_map 16 st _ RX11 := ⟨B.exec, B.bytes, hml, findClass_of_methodNamed B.named, fun w hw => atoms_spec (ws := (jw yX11_map cX11_map 16 (some .int))) B.pre w (List.mem_cons_of_mem _ hw)⟩
  have hl := lv_entry ([.ref (q 0), .int (J s), .int (J to), .int (J a), .int (J b), .int (J c), .int (J d), .int (J e), .int (J f)]) (n := 16) (Nat.le_of_ble_eq_true rfl)
  rw [lg_entry_eq]
  generalize (lg_sl ([.ref (q 0), .int (J s), .int (J to), .int (J a), .int (J b), .int (J c), .int (J d), .int (J e), .int (J f)]) ++ List.replicate (16 - (lg_sl ([.ref (q 0), .int (J s), .int (J to), .int (J a), .int (J b), .int (J c), .int (J d), .int (J e), .int (J f)])).length) Slot.unset).toArray = ls at hl ⊢
  have hl : lv_has ls 16 [(0, .ref (q 0)), (1, .int (J s)), (2, .int (J to)), (3, .int (J a)), (4, .int (J b)), (5, .int (J c)), (6, .int (J d)), (7, .int (J e)), (8, .int (J f))] := hl
  have hS : va_S A st.heap st.heap [] := va_S.rf
  refine lv_aload_n SS.1 SS.2.1 dX11_map_0 rfl (lv_at hl 0 rfl) ?_
  refine lv_iload_n SS.1 SS.2.1 dX11_map_1 rfl (lv_at hl 1 rfl) ?_
  refine j_vSh SS (As := [.int (J s)]) (rest := []) (c_X11_shapeAt l D q u  s (show -2147483648 ≤ s ∧ s ≤ 2147483647 from (p1))) mf_X11_shapeAt kw_414 hG hP hP (ci := 11) (q0 := 0) rfl rfl rfl rfl hl.1 ⟨⟨Nat.le_of_ble_eq_true rfl, Nat.le_of_ble_eq_true rfl⟩, Nat.le_of_ble_eq_true rfl, Nat.le_refl _, Nat.le_refl _⟩ rfl dX11_map_2 (fun i_2 hi_2 hz_2 => ?_) (fun hn_2 => ?_)
  · skip
    have hI2 := CI_s p0 (show i_2 < 8 by omega)
    have hI2c := hI2.1
    have hrl2 := rl_s (show i_2 < 8 by omega)
    refine lv_astore (lv' := [(9, .ref (q (8 + 5 * i_2))), (0, .ref (q 0)), (1, .int (J s)), (2, .int (J to)), (3, .int (J a)), (4, .int (J b)), (5, .int (J c)), (6, .int (J d)), (7, .int (J e)), (8, .int (J f))]) SS.1 SS.2.1 dX11_map_5 hl (by decide) rfl (fun ls hl => ?_)
    refine lv_aload_n SS.1 SS.2.1 dX11_map_7 rfl (lv_at hl 1 rfl) ?_
    refine lv_iload_n SS.1 SS.2.1 dX11_map_8 rfl (lv_at hl 3 rfl) ?_
    refine j_vSh SS (As := [.int (J to)]) (rest := []) (c_X11_shapeAt l D q u  to (show -2147483648 ≤ to ∧ to ≤ 2147483647 from (p2))) mf_X11_shapeAt kw_414 hG hP hP (ci := 11) (q0 := 0) rfl rfl rfl rfl hl.1 ⟨⟨Nat.le_of_ble_eq_true rfl, Nat.le_of_ble_eq_true rfl⟩, Nat.le_of_ble_eq_true rfl, Nat.le_refl _, Nat.le_refl _⟩ rfl dX11_map_9 (fun i_9 hi_9 hz_9 => ?_) (fun hn_9 => ?_)
    · skip
      refine lv_astore (lv' := [(10, .ref (q (8 + 5 * i_9))), (9, .ref (q (8 + 5 * i_2))), (0, .ref (q 0)), (1, .int (J s)), (2, .int (J to)), (3, .int (J a)), (4, .int (J b)), (5, .int (J c)), (6, .int (J d)), (7, .int (J e)), (8, .int (J f))]) SS.1 SS.2.1 dX11_map_12 hl (by decide) rfl (fun ls hl => ?_)
      refine lv_iload_n SS.1 SS.2.1 dX11_map_14 rfl (lv_at hl 5 rfl) ?_
      refine j_sRi SS (As := [.int (J a)]) (rest := []) (c_X11_onGrid l D  a (show -2147483648 ≤ a ∧ a ≤ 2147483647 from (p3))) mf_X11_onGrid kw_475 hG trivial rfl hl.1 ⟨⟨Nat.le_of_ble_eq_true rfl, Nat.le_of_ble_eq_true rfl⟩, Nat.le_of_ble_eq_true rfl, Nat.le_refl _, Nat.le_refl _⟩ rfl dX11_map_15 (fun z_15 h_15 => ?_)
      have h_15 : (z_15 = 1 ∧ (-40 ≤ a ∧ a ≤ 40)) ∨ (z_15 = 0 ∧ ¬ (-40 ≤ a ∧ a ≤ 40)) := h_15
      refine j_if_eq SS (tgt := 65) (x := z_15) dX11_map_18 (by decide) (by omega) (fun c_18 => ?_) (fun c_18 => ?_)
      · skip
        refine j_iconst SS dX11_map_65 ?_
        refine lv_istore (lv' := [(11, .int (J 0)), (10, .ref (q (8 + 5 * i_9))), (9, .ref (q (8 + 5 * i_2))), (0, .ref (q 0)), (1, .int (J s)), (2, .int (J to)), (3, .int (J a)), (4, .int (J b)), (5, .int (J c)), (6, .int (J d)), (7, .int (J e)), (8, .int (J f))]) SS.1 SS.2.1 dX11_map_66 hl (by decide) rfl (fun ls hl => ?_)
        refine lv_aload SS.1 SS.2.1 dX11_map_68 (lv_at hl 2 rfl) ?_
        refine lv_ifnull SS.1 SS.2.1 dX11_map_70 ?_
        refine lv_aload SS.1 SS.2.1 dX11_map_73 (lv_at hl 1 rfl) ?_
        refine lv_ifnull SS.1 SS.2.1 dX11_map_75 ?_
        refine lv_iload SS.1 SS.2.1 dX11_map_78 (lv_at hl 0 rfl) ?_
        refine j_if_ne SS (tgt := 85) dX11_map_80 (by decide) (by decide) (fun c_80 => absurd c_80 (by decide)) (fun c_80 => ?_)
        refine j_iconst SS dX11_map_83 ?_
        exact W.iret SS.1 SS.2.1 hr (fun t0 ht hW => ⟨⟨_, u, rfl, ⟨(-1), rfl, (p0)⟩, by show va_P D.1 j_cl (cW D q u) t0.heap; rw [ht]; first | exact hP | (simp only [sC_id, sX_id, sY_id, sH_id, sT_id, sV_id]; exact hP)⟩, hS.F ht⟩) hS.2.2 dX11_map_84 hlk
      · skip
        refine lv_iload SS.1 SS.2.1 dX11_map_21 (lv_at hl 6 rfl) ?_
        refine j_sRi SS (As := [.int (J b)]) (rest := []) (c_X11_onGrid l D  b (show -2147483648 ≤ b ∧ b ≤ 2147483647 from (p4))) mf_X11_onGrid kw_475 hG trivial rfl hl.1 ⟨⟨Nat.le_of_ble_eq_true rfl, Nat.le_of_ble_eq_true rfl⟩, Nat.le_of_ble_eq_true rfl, Nat.le_refl _, Nat.le_refl _⟩ rfl dX11_map_23 (fun z_23 h_23 => ?_)
        have h_23 : (z_23 = 1 ∧ (-40 ≤ b ∧ b ≤ 40)) ∨ (z_23 = 0 ∧ ¬ (-40 ≤ b ∧ b ≤ 40)) := h_23
        refine j_if_eq SS (tgt := 65) (x := z_23) dX11_map_26 (by decide) (by omega) (fun c_26 => ?_) (fun c_26 => ?_)
        · skip
          refine j_iconst SS dX11_map_65 ?_
          refine lv_istore (lv' := [(11, .int (J 0)), (10, .ref (q (8 + 5 * i_9))), (9, .ref (q (8 + 5 * i_2))), (0, .ref (q 0)), (1, .int (J s)), (2, .int (J to)), (3, .int (J a)), (4, .int (J b)), (5, .int (J c)), (6, .int (J d)), (7, .int (J e)), (8, .int (J f))]) SS.1 SS.2.1 dX11_map_66 hl (by decide) rfl (fun ls hl => ?_)
          refine lv_aload SS.1 SS.2.1 dX11_map_68 (lv_at hl 2 rfl) ?_
          refine lv_ifnull SS.1 SS.2.1 dX11_map_70 ?_
          refine lv_aload SS.1 SS.2.1 dX11_map_73 (lv_at hl 1 rfl) ?_
          refine lv_ifnull SS.1 SS.2.1 dX11_map_75 ?_
          refine lv_iload SS.1 SS.2.1 dX11_map_78 (lv_at hl 0 rfl) ?_
          refine j_if_ne SS (tgt := 85) dX11_map_80 (by decide) (by decide) (fun c_80 => absurd c_80 (by decide)) (fun c_80 => ?_)
          refine j_iconst SS dX11_map_83 ?_
          exact W.iret SS.1 SS.2.1 hr (fun t0 ht hW => ⟨⟨_, u, rfl, ⟨(-1), rfl, (p0)⟩, by show va_P D.1 j_cl (cW D q u) t0.heap; rw [ht]; first | exact hP | (simp only [sC_id, sX_id, sY_id, sH_id, sT_id, sV_id]; exact hP)⟩, hS.F ht⟩) hS.2.2 dX11_map_84 hlk
        · skip
          refine lv_iload SS.1 SS.2.1 dX11_map_29 (lv_at hl 7 rfl) ?_
          refine j_sRi SS (As := [.int (J c)]) (rest := []) (c_X11_onGrid l D  c (show -2147483648 ≤ c ∧ c ≤ 2147483647 from (p5))) mf_X11_onGrid kw_475 hG trivial rfl hl.1 ⟨⟨Nat.le_of_ble_eq_true rfl, Nat.le_of_ble_eq_true rfl⟩, Nat.le_of_ble_eq_true rfl, Nat.le_refl _, Nat.le_refl _⟩ rfl dX11_map_31 (fun z_31 h_31 => ?_)
          have h_31 : (z_31 = 1 ∧ (-40 ≤ c ∧ c ≤ 40)) ∨ (z_31 = 0 ∧ ¬ (-40 ≤ c ∧ c ≤ 40)) := h_31
          refine j_if_eq SS (tgt := 65) (x := z_31) dX11_map_34 (by decide) (by omega) (fun c_34 => ?_) (fun c_34 => ?_)
          · skip
            refine j_iconst SS dX11_map_65 ?_
            refine lv_istore (lv' := [(11, .int (J 0)), (10, .ref (q (8 + 5 * i_9))), (9, .ref (q (8 + 5 * i_2))), (0, .ref (q 0)), (1, .int (J s)), (2, .int (J to)), (3, .int (J a)), (4, .int (J b)), (5, .int (J c)), (6, .int (J d)), (7, .int (J e)), (8, .int (J f))]) SS.1 SS.2.1 dX11_map_66 hl (by decide) rfl (fun ls hl => ?_)
            refine lv_aload SS.1 SS.2.1 dX11_map_68 (lv_at hl 2 rfl) ?_
            refine lv_ifnull SS.1 SS.2.1 dX11_map_70 ?_
            refine lv_aload SS.1 SS.2.1 dX11_map_73 (lv_at hl 1 rfl) ?_
            refine lv_ifnull SS.1 SS.2.1 dX11_map_75 ?_
            refine lv_iload SS.1 SS.2.1 dX11_map_78 (lv_at hl 0 rfl) ?_
            refine j_if_ne SS (tgt := 85) dX11_map_80 (by decide) (by decide) (fun c_80 => absurd c_80 (by decide)) (fun c_80 => ?_)
            refine j_iconst SS dX11_map_83 ?_
            exact W.iret SS.1 SS.2.1 hr (fun t0 ht hW => ⟨⟨_, u, rfl, ⟨(-1), rfl, (p0)⟩, by show va_P D.1 j_cl (cW D q u) t0.heap; rw [ht]; first | exact hP | (simp only [sC_id, sX_id, sY_id, sH_id, sT_id, sV_id]; exact hP)⟩, hS.F ht⟩) hS.2.2 dX11_map_84 hlk
          · skip
            refine lv_iload SS.1 SS.2.1 dX11_map_37 (lv_at hl 8 rfl) ?_
            refine j_sRi SS (As := [.int (J d)]) (rest := []) (c_X11_onGrid l D  d (show -2147483648 ≤ d ∧ d ≤ 2147483647 from (p6))) mf_X11_onGrid kw_475 hG trivial rfl hl.1 ⟨⟨Nat.le_of_ble_eq_true rfl, Nat.le_of_ble_eq_true rfl⟩, Nat.le_of_ble_eq_true rfl, Nat.le_refl _, Nat.le_refl _⟩ rfl dX11_map_39 (fun z_39 h_39 => ?_)
            have h_39 : (z_39 = 1 ∧ (-40 ≤ d ∧ d ≤ 40)) ∨ (z_39 = 0 ∧ ¬ (-40 ≤ d ∧ d ≤ 40)) := h_39
            refine j_if_eq SS (tgt := 65) (x := z_39) dX11_map_42 (by decide) (by omega) (fun c_42 => ?_) (fun c_42 => ?_)
            · skip
              refine j_iconst SS dX11_map_65 ?_
              refine lv_istore (lv' := [(11, .int (J 0)), (10, .ref (q (8 + 5 * i_9))), (9, .ref (q (8 + 5 * i_2))), (0, .ref (q 0)), (1, .int (J s)), (2, .int (J to)), (3, .int (J a)), (4, .int (J b)), (5, .int (J c)), (6, .int (J d)), (7, .int (J e)), (8, .int (J f))]) SS.1 SS.2.1 dX11_map_66 hl (by decide) rfl (fun ls hl => ?_)
              refine lv_aload SS.1 SS.2.1 dX11_map_68 (lv_at hl 2 rfl) ?_
              refine lv_ifnull SS.1 SS.2.1 dX11_map_70 ?_
              refine lv_aload SS.1 SS.2.1 dX11_map_73 (lv_at hl 1 rfl) ?_
              refine lv_ifnull SS.1 SS.2.1 dX11_map_75 ?_
              refine lv_iload SS.1 SS.2.1 dX11_map_78 (lv_at hl 0 rfl) ?_
              refine j_if_ne SS (tgt := 85) dX11_map_80 (by decide) (by decide) (fun c_80 => absurd c_80 (by decide)) (fun c_80 => ?_)
              refine j_iconst SS dX11_map_83 ?_
              exact W.iret SS.1 SS.2.1 hr (fun t0 ht hW => ⟨⟨_, u, rfl, ⟨(-1), rfl, (p0)⟩, by show va_P D.1 j_cl (cW D q u) t0.heap; rw [ht]; first | exact hP | (simp only [sC_id, sX_id, sY_id, sH_id, sT_id, sV_id]; exact hP)⟩, hS.F ht⟩) hS.2.2 dX11_map_84 hlk
            · skip
              refine lv_iload SS.1 SS.2.1 dX11_map_45 (lv_at hl 9 rfl) ?_
              refine j_sRi SS (As := [.int (J e)]) (rest := []) (c_X11_onGrid l D  e (show -2147483648 ≤ e ∧ e ≤ 2147483647 from (p7))) mf_X11_onGrid kw_475 hG trivial rfl hl.1 ⟨⟨Nat.le_of_ble_eq_true rfl, Nat.le_of_ble_eq_true rfl⟩, Nat.le_of_ble_eq_true rfl, Nat.le_refl _, Nat.le_refl _⟩ rfl dX11_map_47 (fun z_47 h_47 => ?_)
              have h_47 : (z_47 = 1 ∧ (-40 ≤ e ∧ e ≤ 40)) ∨ (z_47 = 0 ∧ ¬ (-40 ≤ e ∧ e ≤ 40)) := h_47
              refine j_if_eq SS (tgt := 65) (x := z_47) dX11_map_50 (by decide) (by omega) (fun c_50 => ?_) (fun c_50 => ?_)
              · skip
                refine j_iconst SS dX11_map_65 ?_
                refine lv_istore (lv' := [(11, .int (J 0)), (10, .ref (q (8 + 5 * i_9))), (9, .ref (q (8 + 5 * i_2))), (0, .ref (q 0)), (1, .int (J s)), (2, .int (J to)), (3, .int (J a)), (4, .int (J b)), (5, .int (J c)), (6, .int (J d)), (7, .int (J e)), (8, .int (J f))]) SS.1 SS.2.1 dX11_map_66 hl (by decide) rfl (fun ls hl => ?_)
                refine lv_aload SS.1 SS.2.1 dX11_map_68 (lv_at hl 2 rfl) ?_
                refine lv_ifnull SS.1 SS.2.1 dX11_map_70 ?_
                refine lv_aload SS.1 SS.2.1 dX11_map_73 (lv_at hl 1 rfl) ?_
                refine lv_ifnull SS.1 SS.2.1 dX11_map_75 ?_
                refine lv_iload SS.1 SS.2.1 dX11_map_78 (lv_at hl 0 rfl) ?_
                refine j_if_ne SS (tgt := 85) dX11_map_80 (by decide) (by decide) (fun c_80 => absurd c_80 (by decide)) (fun c_80 => ?_)
                refine j_iconst SS dX11_map_83 ?_
                exact W.iret SS.1 SS.2.1 hr (fun t0 ht hW => ⟨⟨_, u, rfl, ⟨(-1), rfl, (p0)⟩, by show va_P D.1 j_cl (cW D q u) t0.heap; rw [ht]; first | exact hP | (simp only [sC_id, sX_id, sY_id, sH_id, sT_id, sV_id]; exact hP)⟩, hS.F ht⟩) hS.2.2 dX11_map_84 hlk
              · skip
                refine lv_iload SS.1 SS.2.1 dX11_map_53 (lv_at hl 10 rfl) ?_
                refine j_sRi SS (As := [.int (J f)]) (rest := []) (c_X11_onGrid l D  f (show -2147483648 ≤ f ∧ f ≤ 2147483647 from (p8))) mf_X11_onGrid kw_475 hG trivial rfl hl.1 ⟨⟨Nat.le_of_ble_eq_true rfl, Nat.le_of_ble_eq_true rfl⟩, Nat.le_of_ble_eq_true rfl, Nat.le_refl _, Nat.le_refl _⟩ rfl dX11_map_55 (fun z_55 h_55 => ?_)
                have h_55 : (z_55 = 1 ∧ (-40 ≤ f ∧ f ≤ 40)) ∨ (z_55 = 0 ∧ ¬ (-40 ≤ f ∧ f ≤ 40)) := h_55
                refine j_if_eq SS (tgt := 65) (x := z_55) dX11_map_58 (by decide) (by omega) (fun c_58 => ?_) (fun c_58 => ?_)
                · skip
                  refine j_iconst SS dX11_map_65 ?_
                  refine lv_istore (lv' := [(11, .int (J 0)), (10, .ref (q (8 + 5 * i_9))), (9, .ref (q (8 + 5 * i_2))), (0, .ref (q 0)), (1, .int (J s)), (2, .int (J to)), (3, .int (J a)), (4, .int (J b)), (5, .int (J c)), (6, .int (J d)), (7, .int (J e)), (8, .int (J f))]) SS.1 SS.2.1 dX11_map_66 hl (by decide) rfl (fun ls hl => ?_)
                  refine lv_aload SS.1 SS.2.1 dX11_map_68 (lv_at hl 2 rfl) ?_
                  refine lv_ifnull SS.1 SS.2.1 dX11_map_70 ?_
                  refine lv_aload SS.1 SS.2.1 dX11_map_73 (lv_at hl 1 rfl) ?_
                  refine lv_ifnull SS.1 SS.2.1 dX11_map_75 ?_
                  refine lv_iload SS.1 SS.2.1 dX11_map_78 (lv_at hl 0 rfl) ?_
                  refine j_if_ne SS (tgt := 85) dX11_map_80 (by decide) (by decide) (fun c_80 => absurd c_80 (by decide)) (fun c_80 => ?_)
                  refine j_iconst SS dX11_map_83 ?_
                  exact W.iret SS.1 SS.2.1 hr (fun t0 ht hW => ⟨⟨_, u, rfl, ⟨(-1), rfl, (p0)⟩, by show va_P D.1 j_cl (cW D q u) t0.heap; rw [ht]; first | exact hP | (simp only [sC_id, sX_id, sY_id, sH_id, sT_id, sV_id]; exact hP)⟩, hS.F ht⟩) hS.2.2 dX11_map_84 hlk
                · skip
                  refine j_iconst SS dX11_map_61 ?_
                  refine lv_goto (tgt := 66) SS.1 SS.2.1 dX11_map_62 (by decide) ?_
                  refine lv_istore (lv' := [(11, .int (J 1)), (10, .ref (q (8 + 5 * i_9))), (9, .ref (q (8 + 5 * i_2))), (0, .ref (q 0)), (1, .int (J s)), (2, .int (J to)), (3, .int (J a)), (4, .int (J b)), (5, .int (J c)), (6, .int (J d)), (7, .int (J e)), (8, .int (J f))]) SS.1 SS.2.1 dX11_map_66 hl (by decide) rfl (fun ls hl => ?_)
                  refine lv_aload SS.1 SS.2.1 dX11_map_68 (lv_at hl 2 rfl) ?_
                  refine lv_ifnull SS.1 SS.2.1 dX11_map_70 ?_
                  refine lv_aload SS.1 SS.2.1 dX11_map_73 (lv_at hl 1 rfl) ?_
                  refine lv_ifnull SS.1 SS.2.1 dX11_map_75 ?_
                  refine lv_iload SS.1 SS.2.1 dX11_map_78 (lv_at hl 0 rfl) ?_
                  refine j_if_ne SS (tgt := 85) dX11_map_80 (by decide) (by decide) (fun c_80 => ?_) (fun c_80 => absurd c_80 (by decide))
                  refine lv_iload_n SS.1 SS.2.1 dX11_map_85 rfl (lv_at hl 6 rfl) ?_
                  refine lv_iload SS.1 SS.2.1 dX11_map_86 (lv_at hl 9 rfl) ?_
                  refine j_imul SS (x := a) (y := d) dX11_map_88 ?_
                  refine lv_iload SS.1 SS.2.1 dX11_map_89 (lv_at hl 7 rfl) ?_
                  refine lv_iload SS.1 SS.2.1 dX11_map_91 (lv_at hl 8 rfl) ?_
                  refine j_imul SS (x := b) (y := c) dX11_map_93 ?_
                  refine j_isub SS (x := (a * d)) (y := (b * c)) dX11_map_94 ?_
                  refine lv_istore (lv' := [(12, .int (J ((a * d) - (b * c)))), (11, .int (J 1)), (10, .ref (q (8 + 5 * i_9))), (9, .ref (q (8 + 5 * i_2))), (0, .ref (q 0)), (1, .int (J s)), (2, .int (J to)), (3, .int (J a)), (4, .int (J b)), (5, .int (J c)), (6, .int (J d)), (7, .int (J e)), (8, .int (J f))]) SS.1 SS.2.1 dX11_map_95 hl (by decide) rfl (fun ls hl => ?_)
                  have w1 := mulb (A := 40) (B := 40) (a := a) (b := d) (by omega) (by omega)
                  have w2 := mulb (A := 40) (B := 40) (a := b) (b := c) (by omega) (by omega)
                  refine lv_iload SS.1 SS.2.1 dX11_map_97 (lv_at hl 0 rfl) ?_
                  refine j_iconst SS dX11_map_99 ?_
                  refine j_icmp_eq SS (tgt := 112) (x := ((a * d) - (b * c))) (y := 1) dX11_map_100 (by decide) (by omega) (by decide) (fun c_100 => ?_) (fun c_100 => ?_)
                  · skip
                    refine lv_aload_n SS.1 SS.2.1 dX11_map_112 rfl (lv_at hl 4 rfl) ?_
                    refine j_get SS hG hP 0 (v := .ref (q 2)) (C := RX11) (T := TX11) (N := 8) rfl rfl inX11 1 (by decide) (ref := "GridPolygons") kw_386 rfl rfl dX11_map_113 ?_
                    refine j_vWv SS (As := []) (rest := []) (c_X3_begin l D q u A (cW_D hD)   (show HU_ ((u.2.1 0)) ((u.2.1 1)) from (p0.2.2.1))) mf_X3_begin kw_418 hG hP hP (ci := 3) (q0 := 2) rfl rfl rfl hS (fun _ h => h) rfl hl.1 ⟨⟨Nat.le_of_ble_eq_true rfl, Nat.le_of_ble_eq_true rfl⟩, Nat.le_of_ble_eq_true rfl, Nat.le_refl _, Nat.le_refl _⟩ rfl dX11_map_116 (fun u116 H locs h_116 hP _ hS => ?_)
                    obtain ⟨f_116, g_116, rfl, h_116⟩ := h_116
                    have hP : va_P D.1 j_cl (cW D q (sI (sI u 0 f_116) 1 g_116)) H := hP
                    have h_116 : f_116 = jf ((u.2.1 0)) 81 161 ∧ g_116 = jf ((u.2.1 1)) (-81) 161 ∧ HU_ f_116 g_116 := h_116
                    refine j_iconst SS dX11_map_119 ?_
                    refine lv_istore (lv' := [(13, .int (J 0)), (12, .int (J ((a * d) - (b * c)))), (11, .int (J 1)), (10, .ref (q (8 + 5 * i_9))), (9, .ref (q (8 + 5 * i_2))), (0, .ref (q 0)), (1, .int (J s)), (2, .int (J to)), (3, .int (J a)), (4, .int (J b)), (5, .int (J c)), (6, .int (J d)), (7, .int (J e)), (8, .int (J f))]) SS.1 SS.2.1 dX11_map_120 hl (by decide) rfl (fun ls hl => ?_)
                    have L_122 : ∀ (nn : Nat) (i : Int) (f1 : Nat → Int) (g1 : Nat → Int) (H : Heap) (locs : List Loc) (hP : va_P D.1 j_cl (cW D q (sI (sI u 0 f1) 1 g1)) H) (hS : va_S A st.heap H locs) (ls : Array Slot) (hl : lv_has ls 16 [(0, .ref (q 0)), (1, .int (J s)), (2, .int (J to)), (3, .int (J a)), (4, .int (J b)), (5, .int (J c)), (6, .int (J d)), (7, .int (J e)), (8, .int (J f)), (9, .ref (q (8 + 5 * i_2))), (10, .ref (q (8 + 5 * i_9))), (11, .int (J 1)), (12, .int (J ((a * d) - (b * c)))), (13, .int (J i))]) (i122_0 : 0 ≤ i ∧ i ≤ u.1.2.2.1 i_2) (i122_1 : HU_ f1 g1), (u.1.2.2.1 i_2 - i).toNat < nn → W pr l en (headSpec (jw yX11_map cX11_map 16 (some .int)) (jr 4 91)).room st mi (([.ref (q 0), .int (J s), .int (J to), .int (J a), .int (J b), .int (J c), .int (J d), .int (J e), .int (J f)] : List Value).toArray) below meth co H locs 0 0 (MQ below (jWi (fun z u' => CI u') (fun u' H => va_P D.1 j_cl (cW D q u') H) A) (([.ref (q 0), .int (J s), .int (J to), .int (J a), .int (J b), .int (J c), .int (J d), .int (J e), .int (J f)] : List Value).toArray) st 0 0 A) (F0 mi 122 ls []) := by
                      intro nn
                      induction nn with
                      | zero => intros; omega
                      | succ nn ih_122 =>
                        intro i f1 g1 H locs hP hS ls hl i122_0 i122_1 hm
                        refine lv_iload SS.1 SS.2.1 dX11_map_122 (lv_at hl 13 rfl) ?_
                        refine lv_aload SS.1 SS.2.1 dX11_map_124 (lv_at hl 9 rfl) ?_
                        refine j_get SS hG hP (8 + 5 * i_2) (v := .ref (q (9 + 5 * i_2))) (C := RX10) (T := TX10) (N := 3) (cw_shape (by omega)) rfl inX10 0 (by decide) (ref := "GridPolygons$Shape") kw_151 rfl rfl dX11_map_126 ?_
                        refine j_getS SS hG hP (9 + 5 * i_2) (v := .int (J (u.1.2.2.1 i_2))) (C := RX7) (T := TX7) (N := 3) (cw_ring (by omega)) rfl inX7 2 (by decide) (ref := "GridPolygons$Ring") kw_135 kw_132 rfl dX11_map_129 ?_
                        refine j_icmp_ge SS (tgt := 234) (x := i) (y := (u.1.2.2.1 i_2)) dX11_map_132 (by decide) (by omega) (by omega) (fun c_132 => ?_) (fun c_132 => ?_)
                        · skip
                          refine lv_aload_n SS.1 SS.2.1 dX11_map_234 rfl (lv_at hl 0 rfl) ?_
                          refine j_get SS hG hP 0 (v := .ref (q 2)) (C := RX11) (T := TX11) (N := 8) rfl rfl inX11 1 (by decide) (ref := "GridPolygons") kw_386 rfl rfl dX11_map_235 ?_
                          refine j_vWv SS (As := []) (rest := []) (c_X3_close l D q (sI (sI u 0 f1) 1 g1) A (cW_D hD)   (show RB 80 (sI (sI u 0 f1) 1 g1) 8 from (p0.2.1.1)) (show HU_ (f1) (g1) from (i122_1))) mf_X3_close kw_425 hG hP hP (ci := 3) (q0 := 2) rfl rfl rfl hS (fun _ h => h) rfl hl.1 ⟨⟨Nat.le_of_ble_eq_true rfl, Nat.le_of_ble_eq_true rfl⟩, Nat.le_of_ble_eq_true rfl, Nat.le_refl _, Nat.le_refl _⟩ rfl dX11_map_238 (fun u238 H locs h_238 hP _ hS => ?_)
                          obtain ⟨f_238, g_238, n_238, rfl, h_238⟩ := h_238
                          have hP : va_P D.1 j_cl (cW D q (sY (sX (sI (sI (sC u 8 n_238) 0 f1) 1 g1) 8 f_238) 8 g_238)) H := hP
                          have h_238 : (0 ≤ n_238 ∧ n_238 ≤ 323) ∧ RV 80 f_238 g_238 ∧ ((∀ k : Nat, k < 161 → g1 k < f1 k) → n_238 = 0) := h_238
                          refine lv_aload_n SS.1 SS.2.1 dX11_map_241 rfl (lv_at hl 0 rfl) ?_
                          refine lv_aload SS.1 SS.2.1 dX11_map_242 (lv_at hl 10 rfl) ?_
                          refine j_vWi SS (As := [.ref (q (8 + 5 * i_9))]) (rest := []) (c_X11_remakeIfFits l D q (sY (sX (sI (sI (sC u 8 n_238) 0 f1) 1 g1) 8 f_238) 8 g_238) A (cW_D hD) i_9 (by omega)  (show CI (sY (sX (sI (sI (sC u 8 n_238) 0 f1) 1 g1) 8 f_238) 8 g_238) from (CI_8 (CI_h p0 i122_1) h_238.1 h_238.2.1))) mf_X11_remakeIfFits kw_493 hG hP hP (ci := 11) (q0 := 0) rfl rfl rfl hS (fun _ h => h) rfl hl.1 ⟨⟨Nat.le_of_ble_eq_true rfl, Nat.le_of_ble_eq_true rfl⟩, Nat.le_of_ble_eq_true rfl, Nat.le_refl _, Nat.le_refl _⟩ rfl dX11_map_244 (fun z_244 u244 H locs h_244 hP _ hS => ?_)
                          obtain ⟨n_244, f_244, g_244, hh_244, tt_244, st0_244, rfl, h_244⟩ := h_244
                          have hP : va_P D.1 j_cl (cW D q (sY (sY (sX (sX (sV (sT (sI (sI (sH (sC (sC u 8 n_238) i_9 n_244) i_9 hh_244) 0 f1) 1 g1) i_9 tt_244) 0 st0_244) 8 f_238) i_9 f_244) 8 g_238) i_9 g_244)) H := hP
                          have h_244 : CI (sY (sY (sX (sX (sV (sT (sI (sI (sH (sC (sC u 8 n_238) i_9 n_244) i_9 hh_244) 0 f1) 1 g1) i_9 tt_244) 0 st0_244) 8 f_238) i_9 f_244) 8 g_238) i_9 g_244) ∧ ((z_244 = -3 ∧ ¬ (n_238 ≤ 24 ∧ bd 40 (f_238) (g_238) (n_238)) ∧ n_244 = ((sY (sX (sI (sI (sC u 8 n_238) 0 f1) 1 g1) 8 f_238) 8 g_238).1.2.2.1 i_9) ∧ f_244 = ((sY (sX (sI (sI (sC u 8 n_238) 0 f1) 1 g1) 8 f_238) 8 g_238).1.1 i_9) ∧ g_244 = ((sY (sX (sI (sI (sC u 8 n_238) 0 f1) 1 g1) 8 f_238) 8 g_238).1.2.1 i_9)) ∨ (z_244 = n_238 ∧ n_238 ≤ 24 ∧ bd 40 (f_238) (g_238) (n_238) ∧ n_244 = n_238 ∧ ∀ j : Nat, (j : Int) < n_244 → f_244 j = f_238 j ∧ g_244 j = g_238 j)) := h_244
                          exact W.iret SS.1 SS.2.1 hr (fun t0 ht hW => ⟨⟨_, (sY (sY (sX (sX (sV (sT (sI (sI (sH (sC (sC u 8 n_238) i_9 n_244) i_9 hh_244) 0 f1) 1 g1) i_9 tt_244) 0 st0_244) 8 f_238) i_9 f_244) 8 g_238) i_9 g_244), rfl, ⟨z_244, rfl, (h_244.1)⟩, by show va_P D.1 j_cl (cW D q (sY (sY (sX (sX (sV (sT (sI (sI (sH (sC (sC u 8 n_238) i_9 n_244) i_9 hh_244) 0 f1) 1 g1) i_9 tt_244) 0 st0_244) 8 f_238) i_9 f_244) 8 g_238) i_9 g_244)) t0.heap; rw [ht]; first | exact hP | (simp only [sC_id, sX_id, sY_id, sH_id, sT_id, sV_id]; exact hP)⟩, hS.F ht⟩) hS.2.2 dX11_map_247 hlk
                        · skip
                          refine lv_iload_n SS.1 SS.2.1 dX11_map_135 rfl (lv_at hl 3 rfl) ?_
                          refine lv_aload SS.1 SS.2.1 dX11_map_136 (lv_at hl 9 rfl) ?_
                          refine j_get SS hG hP (8 + 5 * i_2) (v := .ref (q (9 + 5 * i_2))) (C := RX10) (T := TX10) (N := 3) (cw_shape (by omega)) rfl inX10 0 (by decide) (ref := "GridPolygons$Shape") kw_151 rfl rfl dX11_map_138 ?_
                          refine lv_iload SS.1 SS.2.1 dX11_map_141 (lv_at hl 13 rfl) ?_
                          refine j_uRi SS (As := [.int (J i)]) (rest := [.int (J a)]) (c_X8_x l D q (sI (sI u 0 f1) 1 g1) i_2 (by omega) i (show -2147483648 ≤ i ∧ i ≤ 2147483647 from (by omega))) mu_7_x kw_463 hG hP hP (ci := 7) (q0 := (9 + 5 * i_2)) rfl (cw_ring (by omega)) rfl rfl hl.1 ⟨⟨Nat.le_of_ble_eq_true rfl, Nat.le_of_ble_eq_true rfl⟩, Nat.le_of_ble_eq_true rfl, Nat.le_refl _, Nat.le_refl _⟩ rfl dX11_map_143 (fun z_143 h_143 => ?_)
                          have h_143 : z_143 = rx (sI (sI u 0 f1) 1 g1) i_2 i ∧ ∀ K : Int, 0 ≤ K → RB K (sI (sI u 0 f1) 1 g1) i_2 → -K ≤ z_143 ∧ z_143 ≤ K := h_143
                          have hb_143 := h_143.2 80 (by omega) (show RB 80 u i_2 from CI_s p0 (by omega))
                          refine j_imul SS (x := a) (y := z_143) dX11_map_146 ?_
                          refine lv_iload SS.1 SS.2.1 dX11_map_147 (lv_at hl 4 rfl) ?_
                          refine lv_aload SS.1 SS.2.1 dX11_map_149 (lv_at hl 9 rfl) ?_
                          refine j_get SS hG hP (8 + 5 * i_2) (v := .ref (q (9 + 5 * i_2))) (C := RX10) (T := TX10) (N := 3) (cw_shape (by omega)) rfl inX10 0 (by decide) (ref := "GridPolygons$Shape") kw_151 rfl rfl dX11_map_151 ?_
                          refine lv_iload SS.1 SS.2.1 dX11_map_154 (lv_at hl 13 rfl) ?_
                          refine j_uRi SS (As := [.int (J i)]) (rest := [.int (J b), .int (J (a * z_143))]) (c_X8_y l D q (sI (sI u 0 f1) 1 g1) i_2 (by omega) i (show -2147483648 ≤ i ∧ i ≤ 2147483647 from (by omega))) mu_7_y kw_464 hG hP hP (ci := 7) (q0 := (9 + 5 * i_2)) rfl (cw_ring (by omega)) rfl rfl hl.1 ⟨⟨Nat.le_of_ble_eq_true rfl, Nat.le_of_ble_eq_true rfl⟩, Nat.le_of_ble_eq_true rfl, Nat.le_refl _, Nat.le_refl _⟩ rfl dX11_map_156 (fun z_156 h_156 => ?_)
                          have h_156 : z_156 = ry9 (sI (sI u 0 f1) 1 g1) i_2 i ∧ ∀ K : Int, 0 ≤ K → RB K (sI (sI u 0 f1) 1 g1) i_2 → -K ≤ z_156 ∧ z_156 ≤ K := h_156
                          have hb_156 := h_156.2 80 (by omega) (show RB 80 u i_2 from CI_s p0 (by omega))
                          refine j_imul SS (x := b) (y := z_156) dX11_map_159 ?_
                          refine j_iadd SS (x := (a * z_143)) (y := (b * z_156)) dX11_map_160 ?_
                          refine lv_iload SS.1 SS.2.1 dX11_map_161 (lv_at hl 7 rfl) ?_
                          refine j_iadd SS (x := ((a * z_143) + (b * z_156))) (y := e) dX11_map_163 ?_
                          refine lv_istore (lv' := [(14, .int (J (((a * z_143) + (b * z_156)) + e))), (0, .ref (q 0)), (1, .int (J s)), (2, .int (J to)), (3, .int (J a)), (4, .int (J b)), (5, .int (J c)), (6, .int (J d)), (7, .int (J e)), (8, .int (J f)), (9, .ref (q (8 + 5 * i_2))), (10, .ref (q (8 + 5 * i_9))), (11, .int (J 1)), (12, .int (J ((a * d) - (b * c)))), (13, .int (J i))]) SS.1 SS.2.1 dX11_map_164 hl (by decide) rfl (fun ls hl => ?_)
                          refine lv_iload SS.1 SS.2.1 dX11_map_166 (lv_at hl 6 rfl) ?_
                          refine lv_aload SS.1 SS.2.1 dX11_map_168 (lv_at hl 10 rfl) ?_
                          refine j_get SS hG hP (8 + 5 * i_2) (v := .ref (q (9 + 5 * i_2))) (C := RX10) (T := TX10) (N := 3) (cw_shape (by omega)) rfl inX10 0 (by decide) (ref := "GridPolygons$Shape") kw_151 rfl rfl dX11_map_170 ?_
                          refine lv_iload SS.1 SS.2.1 dX11_map_173 (lv_at hl 14 rfl) ?_
                          refine j_uRi SS (As := [.int (J i)]) (rest := [.int (J c)]) (c_X8_x l D q (sI (sI u 0 f1) 1 g1) i_2 (by omega) i (show -2147483648 ≤ i ∧ i ≤ 2147483647 from (by omega))) mu_7_x kw_463 hG hP hP (ci := 7) (q0 := (9 + 5 * i_2)) rfl (cw_ring (by omega)) rfl rfl hl.1 ⟨⟨Nat.le_of_ble_eq_true rfl, Nat.le_of_ble_eq_true rfl⟩, Nat.le_of_ble_eq_true rfl, Nat.le_refl _, Nat.le_refl _⟩ rfl dX11_map_175 (fun z_175 h_175 => ?_)
                          have h_175 : z_175 = rx (sI (sI u 0 f1) 1 g1) i_2 i ∧ ∀ K : Int, 0 ≤ K → RB K (sI (sI u 0 f1) 1 g1) i_2 → -K ≤ z_175 ∧ z_175 ≤ K := h_175
                          have hb_175 := h_175.2 80 (by omega) (show RB 80 u i_2 from CI_s p0 (by omega))
                          refine j_imul SS (x := c) (y := z_175) dX11_map_178 ?_
                          refine lv_iload SS.1 SS.2.1 dX11_map_179 (lv_at hl 7 rfl) ?_
                          refine lv_aload SS.1 SS.2.1 dX11_map_181 (lv_at hl 10 rfl) ?_
                          refine j_get SS hG hP (8 + 5 * i_2) (v := .ref (q (9 + 5 * i_2))) (C := RX10) (T := TX10) (N := 3) (cw_shape (by omega)) rfl inX10 0 (by decide) (ref := "GridPolygons$Shape") kw_151 rfl rfl dX11_map_183 ?_
                          refine lv_iload SS.1 SS.2.1 dX11_map_186 (lv_at hl 14 rfl) ?_
                          refine j_uRi SS (As := [.int (J i)]) (rest := [.int (J d), .int (J (c * z_175))]) (c_X8_y l D q (sI (sI u 0 f1) 1 g1) i_2 (by omega) i (show -2147483648 ≤ i ∧ i ≤ 2147483647 from (by omega))) mu_7_y kw_464 hG hP hP (ci := 7) (q0 := (9 + 5 * i_2)) rfl (cw_ring (by omega)) rfl rfl hl.1 ⟨⟨Nat.le_of_ble_eq_true rfl, Nat.le_of_ble_eq_true rfl⟩, Nat.le_of_ble_eq_true rfl, Nat.le_refl _, Nat.le_refl _⟩ rfl dX11_map_188 (fun z_188 h_188 => ?_)
                          have h_188 : z_188 = ry9 (sI (sI u 0 f1) 1 g1) i_2 i ∧ ∀ K : Int, 0 ≤ K → RB K (sI (sI u 0 f1) 1 g1) i_2 → -K ≤ z_188 ∧ z_188 ≤ K := h_188
                          have hb_188 := h_188.2 80 (by omega) (show RB 80 u i_2 from CI_s p0 (by omega))
                          refine j_imul SS (x := d) (y := z_188) dX11_map_191 ?_
                          refine j_iadd SS (x := (c * z_175)) (y := (d * z_188)) dX11_map_192 ?_
                          refine lv_iload SS.1 SS.2.1 dX11_map_193 (lv_at hl 9 rfl) ?_
                          refine j_iadd SS (x := ((c * z_175) + (d * z_188))) (y := f) dX11_map_195 ?_
                          refine lv_istore (lv' := [(15, .int (J (((c * z_175) + (d * z_188)) + f))), (14, .int (J (((a * z_143) + (b * z_156)) + e))), (0, .ref (q 0)), (1, .int (J s)), (2, .int (J to)), (3, .int (J a)), (4, .int (J b)), (5, .int (J c)), (6, .int (J d)), (7, .int (J e)), (8, .int (J f)), (9, .ref (q (8 + 5 * i_2))), (10, .ref (q (8 + 5 * i_9))), (11, .int (J 1)), (12, .int (J ((a * d) - (b * c)))), (13, .int (J i))]) SS.1 SS.2.1 dX11_map_196 hl (by decide) rfl (fun ls hl => ?_)
                          have x1 := mulb (A := 40) (B := 80) (a := a) (b := z_143) (by omega) (by omega)
                          have x2 := mulb (A := 40) (B := 80) (a := b) (b := z_156) (by omega) (by omega)
                          have x3 := mulb (A := 40) (B := 80) (a := c) (b := z_175) (by omega) (by omega)
                          have x4 := mulb (A := 40) (B := 80) (a := d) (b := z_188) (by omega) (by omega)
                          refine lv_iload SS.1 SS.2.1 dX11_map_198 (lv_at hl 1 rfl) ?_
                          refine j_sRi SS (As := [.int (J (((a * z_143) + (b * z_156)) + e))]) (rest := []) (c_X11_onGrid l D  (((a * z_143) + (b * z_156)) + e) (show -2147483648 ≤ (((a * z_143) + (b * z_156)) + e) ∧ (((a * z_143) + (b * z_156)) + e) ≤ 2147483647 from (by omega))) mf_X11_onGrid kw_475 hG trivial rfl hl.1 ⟨⟨Nat.le_of_ble_eq_true rfl, Nat.le_of_ble_eq_true rfl⟩, Nat.le_of_ble_eq_true rfl, Nat.le_refl _, Nat.le_refl _⟩ rfl dX11_map_200 (fun z_200 h_200 => ?_)
                          have h_200 : (z_200 = 1 ∧ (-40 ≤ (((a * z_143) + (b * z_156)) + e) ∧ (((a * z_143) + (b * z_156)) + e) ≤ 40)) ∨ (z_200 = 0 ∧ ¬ (-40 ≤ (((a * z_143) + (b * z_156)) + e) ∧ (((a * z_143) + (b * z_156)) + e) ≤ 40)) := h_200
                          refine j_if_eq SS (tgt := 214) (x := z_200) dX11_map_203 (by decide) (by omega) (fun c_203 => ?_) (fun c_203 => ?_)
                          · skip
                            refine j_bipush SS dX11_map_214 (by decide +kernel) ?_
                            exact W.iret SS.1 SS.2.1 hr (fun t0 ht hW => ⟨⟨_, (sI (sI u 0 f1) 1 g1), rfl, ⟨(-3), rfl, (CI_h p0 i122_1)⟩, by show va_P D.1 j_cl (cW D q (sI (sI u 0 f1) 1 g1)) t0.heap; rw [ht]; first | exact hP | (simp only [sC_id, sX_id, sY_id, sH_id, sT_id, sV_id]; exact hP)⟩, hS.F ht⟩) hS.2.2 dX11_map_216 hlk
                          · skip
                            refine lv_iload SS.1 SS.2.1 dX11_map_206 (lv_at hl 0 rfl) ?_
                            refine j_sRi SS (As := [.int (J (((c * z_175) + (d * z_188)) + f))]) (rest := []) (c_X11_onGrid l D  (((c * z_175) + (d * z_188)) + f) (show -2147483648 ≤ (((c * z_175) + (d * z_188)) + f) ∧ (((c * z_175) + (d * z_188)) + f) ≤ 2147483647 from (by omega))) mf_X11_onGrid kw_475 hG trivial rfl hl.1 ⟨⟨Nat.le_of_ble_eq_true rfl, Nat.le_of_ble_eq_true rfl⟩, Nat.le_of_ble_eq_true rfl, Nat.le_refl _, Nat.le_refl _⟩ rfl dX11_map_208 (fun z_208 h_208 => ?_)
                            have h_208 : (z_208 = 1 ∧ (-40 ≤ (((c * z_175) + (d * z_188)) + f) ∧ (((c * z_175) + (d * z_188)) + f) ≤ 40)) ∨ (z_208 = 0 ∧ ¬ (-40 ≤ (((c * z_175) + (d * z_188)) + f) ∧ (((c * z_175) + (d * z_188)) + f) ≤ 40)) := h_208
                            refine j_if_ne SS (tgt := 217) (x := z_208) dX11_map_211 (by decide) (by omega) (fun c_211 => ?_) (fun c_211 => ?_)
                            · skip
                              refine lv_aload_n SS.1 SS.2.1 dX11_map_217 rfl (lv_at hl 2 rfl) ?_
                              refine j_get SS hG hP 0 (v := .ref (q 2)) (C := RX11) (T := TX11) (N := 8) rfl rfl inX11 1 (by decide) (ref := "GridPolygons") kw_386 rfl rfl dX11_map_218 ?_
                              refine lv_iload SS.1 SS.2.1 dX11_map_221 (lv_at hl 1 rfl) ?_
                              refine lv_iload SS.1 SS.2.1 dX11_map_223 (lv_at hl 0 rfl) ?_
                              refine j_vWv SS (As := [.int (J (((a * z_143) + (b * z_156)) + e)), .int (J (((c * z_175) + (d * z_188)) + f))]) (rest := []) (c_X3_take l D q (sI (sI u 0 f1) 1 g1) A (cW_D hD)  (((a * z_143) + (b * z_156)) + e) (((c * z_175) + (d * z_188)) + f) (show HU_ (f1) (g1) from (i122_1)) (show -1000 ≤ (((a * z_143) + (b * z_156)) + e) ∧ (((a * z_143) + (b * z_156)) + e) ≤ 1000 from (by omega)) (show -2147483648 ≤ (((c * z_175) + (d * z_188)) + f) ∧ (((c * z_175) + (d * z_188)) + f) ≤ 2147483647 from (by omega))) mf_X3_take kw_492 hG hP hP (ci := 3) (q0 := 2) rfl rfl rfl hS (fun _ h => h) rfl hl.1 ⟨⟨Nat.le_of_ble_eq_true rfl, Nat.le_of_ble_eq_true rfl⟩, Nat.le_of_ble_eq_true rfl, Nat.le_refl _, Nat.le_refl _⟩ rfl dX11_map_225 (fun u225 H locs h_225 hP _ hS => ?_)
                              obtain ⟨f_225, g_225, rfl, h_225⟩ := h_225
                              have hP : va_P D.1 j_cl (cW D q (sI (sI u 0 f_225) 1 g_225)) H := hP
                              have h_225 : ((-80 ≤ (((a * z_143) + (b * z_156)) + e) ∧ (((a * z_143) + (b * z_156)) + e) ≤ 80 ∧ -80 ≤ (((c * z_175) + (d * z_188)) + f) ∧ (((c * z_175) + (d * z_188)) + f) ≤ 80) ∧ f_225 = upI (f1) ((((a * z_143) + (b * z_156)) + e) + 80).toNat (min (f1 ((((a * z_143) + (b * z_156)) + e) + 80).toNat) (((c * z_175) + (d * z_188)) + f)) ∧ g_225 = upI (g1) ((((a * z_143) + (b * z_156)) + e) + 80).toNat (max (g1 ((((a * z_143) + (b * z_156)) + e) + 80).toNat) (((c * z_175) + (d * z_188)) + f)) ∨ ¬ (-80 ≤ (((a * z_143) + (b * z_156)) + e) ∧ (((a * z_143) + (b * z_156)) + e) ≤ 80 ∧ -80 ≤ (((c * z_175) + (d * z_188)) + f) ∧ (((c * z_175) + (d * z_188)) + f) ≤ 80) ∧ f_225 = f1 ∧ g_225 = g1) ∧ HU_ f_225 g_225 := h_225
                              refine lv_iinc (v := J (i + 1)) (lv' := [(13, .int (J (i + 1))), (15, .int (J (((c * z_175) + (d * z_188)) + f))), (14, .int (J (((a * z_143) + (b * z_156)) + e))), (0, .ref (q 0)), (1, .int (J s)), (2, .int (J to)), (3, .int (J a)), (4, .int (J b)), (5, .int (J c)), (6, .int (J d)), (7, .int (J e)), (8, .int (J f)), (9, .ref (q (8 + 5 * i_2))), (10, .ref (q (8 + 5 * i_9))), (11, .int (J 1)), (12, .int (J ((a * d) - (b * c))))]) SS.1 SS.2.1 dX11_map_228 hl (k := 15) rfl (J_add _ _) (by decide) rfl (fun ls hl => ?_)
                              refine lv_goto (tgt := 122) SS.1 SS.2.1 dX11_map_231 (by decide) ?_
                              exact ih_122 (i + 1) f_225 g_225 _ _ hP hS ls (lv_sub hl [3, 4, 5, 6, 7, 8, 9, 10, 11, 12, 13, 14, 15, 0] rfl) (by omega) (h_225.2) (by omega)
                            · skip
                              refine j_bipush SS dX11_map_214 (by decide +kernel) ?_
                              exact W.iret SS.1 SS.2.1 hr (fun t0 ht hW => ⟨⟨_, (sI (sI u 0 f1) 1 g1), rfl, ⟨(-3), rfl, (CI_h p0 i122_1)⟩, by show va_P D.1 j_cl (cW D q (sI (sI u 0 f1) 1 g1)) t0.heap; rw [ht]; first | exact hP | (simp only [sC_id, sX_id, sY_id, sH_id, sT_id, sV_id]; exact hP)⟩, hS.F ht⟩) hS.2.2 dX11_map_216 hlk
                    exact L_122 ((u.1.2.2.1 i_2 - (0 : Int)).toNat + 1) 0 f_116 g_116 _ _ hP hS ls (lv_sub hl [5, 6, 7, 8, 9, 10, 11, 12, 13, 4, 3, 2, 1, 0] rfl) (by omega) (h_116.2.2) (Nat.lt_succ_self _)
                  · skip
                    refine lv_iload SS.1 SS.2.1 dX11_map_103 (lv_at hl 0 rfl) ?_
                    refine j_iconst SS dX11_map_105 ?_
                    refine j_icmp_eq SS (tgt := 112) (x := ((a * d) - (b * c))) (y := (-1)) dX11_map_106 (by decide) (by omega) (by decide) (fun c_106 => ?_) (fun c_106 => ?_)
                    · skip
                      refine lv_aload_n SS.1 SS.2.1 dX11_map_112 rfl (lv_at hl 4 rfl) ?_
                      refine j_get SS hG hP 0 (v := .ref (q 2)) (C := RX11) (T := TX11) (N := 8) rfl rfl inX11 1 (by decide) (ref := "GridPolygons") kw_386 rfl rfl dX11_map_113 ?_
                      refine j_vWv SS (As := []) (rest := []) (c_X3_begin l D q u A (cW_D hD)   (show HU_ ((u.2.1 0)) ((u.2.1 1)) from (p0.2.2.1))) mf_X3_begin kw_418 hG hP hP (ci := 3) (q0 := 2) rfl rfl rfl hS (fun _ h => h) rfl hl.1 ⟨⟨Nat.le_of_ble_eq_true rfl, Nat.le_of_ble_eq_true rfl⟩, Nat.le_of_ble_eq_true rfl, Nat.le_refl _, Nat.le_refl _⟩ rfl dX11_map_116 (fun u116 H locs h_116 hP _ hS => ?_)
                      obtain ⟨f_116, g_116, rfl, h_116⟩ := h_116
                      have hP : va_P D.1 j_cl (cW D q (sI (sI u 0 f_116) 1 g_116)) H := hP
                      have h_116 : f_116 = jf ((u.2.1 0)) 81 161 ∧ g_116 = jf ((u.2.1 1)) (-81) 161 ∧ HU_ f_116 g_116 := h_116
                      refine j_iconst SS dX11_map_119 ?_
                      refine lv_istore (lv' := [(13, .int (J 0)), (12, .int (J ((a * d) - (b * c)))), (11, .int (J 1)), (10, .ref (q (8 + 5 * i_9))), (9, .ref (q (8 + 5 * i_2))), (0, .ref (q 0)), (1, .int (J s)), (2, .int (J to)), (3, .int (J a)), (4, .int (J b)), (5, .int (J c)), (6, .int (J d)), (7, .int (J e)), (8, .int (J f))]) SS.1 SS.2.1 dX11_map_120 hl (by decide) rfl (fun ls hl => ?_)
                      have L_122 : ∀ (nn : Nat) (i : Int) (f1 : Nat → Int) (g1 : Nat → Int) (H : Heap) (locs : List Loc) (hP : va_P D.1 j_cl (cW D q (sI (sI u 0 f1) 1 g1)) H) (hS : va_S A st.heap H locs) (ls : Array Slot) (hl : lv_has ls 16 [(0, .ref (q 0)), (1, .int (J s)), (2, .int (J to)), (3, .int (J a)), (4, .int (J b)), (5, .int (J c)), (6, .int (J d)), (7, .int (J e)), (8, .int (J f)), (9, .ref (q (8 + 5 * i_2))), (10, .ref (q (8 + 5 * i_9))), (11, .int (J 1)), (12, .int (J ((a * d) - (b * c)))), (13, .int (J i))]) (i122_0 : 0 ≤ i ∧ i ≤ u.1.2.2.1 i_2) (i122_1 : HU_ f1 g1), (u.1.2.2.1 i_2 - i).toNat < nn → W pr l en (headSpec (jw yX11_map cX11_map 16 (some .int)) (jr 4 91)).room st mi (([.ref (q 0), .int (J s), .int (J to), .int (J a), .int (J b), .int (J c), .int (J d), .int (J e), .int (J f)] : List Value).toArray) below meth co H locs 0 0 (MQ below (jWi (fun z u' => CI u') (fun u' H => va_P D.1 j_cl (cW D q u') H) A) (([.ref (q 0), .int (J s), .int (J to), .int (J a), .int (J b), .int (J c), .int (J d), .int (J e), .int (J f)] : List Value).toArray) st 0 0 A) (F0 mi 122 ls []) := by
                        intro nn
                        induction nn with
                        | zero => intros; omega
                        | succ nn ih_122 =>
                          intro i f1 g1 H locs hP hS ls hl i122_0 i122_1 hm
                          refine lv_iload SS.1 SS.2.1 dX11_map_122 (lv_at hl 13 rfl) ?_
                          refine lv_aload SS.1 SS.2.1 dX11_map_124 (lv_at hl 9 rfl) ?_
                          refine j_get SS hG hP (8 + 5 * i_2) (v := .ref (q (9 + 5 * i_2))) (C := RX10) (T := TX10) (N := 3) (cw_shape (by omega)) rfl inX10 0 (by decide) (ref := "GridPolygons$Shape") kw_151 rfl rfl dX11_map_126 ?_
                          refine j_getS SS hG hP (9 + 5 * i_2) (v := .int (J (u.1.2.2.1 i_2))) (C := RX7) (T := TX7) (N := 3) (cw_ring (by omega)) rfl inX7 2 (by decide) (ref := "GridPolygons$Ring") kw_135 kw_132 rfl dX11_map_129 ?_
                          refine j_icmp_ge SS (tgt := 234) (x := i) (y := (u.1.2.2.1 i_2)) dX11_map_132 (by decide) (by omega) (by omega) (fun c_132 => ?_) (fun c_132 => ?_)
                          · skip
                            refine lv_aload_n SS.1 SS.2.1 dX11_map_234 rfl (lv_at hl 0 rfl) ?_
                            refine j_get SS hG hP 0 (v := .ref (q 2)) (C := RX11) (T := TX11) (N := 8) rfl rfl inX11 1 (by decide) (ref := "GridPolygons") kw_386 rfl rfl dX11_map_235 ?_
                            refine j_vWv SS (As := []) (rest := []) (c_X3_close l D q (sI (sI u 0 f1) 1 g1) A (cW_D hD)   (show RB 80 (sI (sI u 0 f1) 1 g1) 8 from (p0.2.1.1)) (show HU_ (f1) (g1) from (i122_1))) mf_X3_close kw_425 hG hP hP (ci := 3) (q0 := 2) rfl rfl rfl hS (fun _ h => h) rfl hl.1 ⟨⟨Nat.le_of_ble_eq_true rfl, Nat.le_of_ble_eq_true rfl⟩, Nat.le_of_ble_eq_true rfl, Nat.le_refl _, Nat.le_refl _⟩ rfl dX11_map_238 (fun u238 H locs h_238 hP _ hS => ?_)
                            obtain ⟨f_238, g_238, n_238, rfl, h_238⟩ := h_238
                            have hP : va_P D.1 j_cl (cW D q (sY (sX (sI (sI (sC u 8 n_238) 0 f1) 1 g1) 8 f_238) 8 g_238)) H := hP
                            have h_238 : (0 ≤ n_238 ∧ n_238 ≤ 323) ∧ RV 80 f_238 g_238 ∧ ((∀ k : Nat, k < 161 → g1 k < f1 k) → n_238 = 0) := h_238
                            refine lv_aload_n SS.1 SS.2.1 dX11_map_241 rfl (lv_at hl 0 rfl) ?_
                            refine lv_aload SS.1 SS.2.1 dX11_map_242 (lv_at hl 10 rfl) ?_
                            refine j_vWi SS (As := [.ref (q (8 + 5 * i_9))]) (rest := []) (c_X11_remakeIfFits l D q (sY (sX (sI (sI (sC u 8 n_238) 0 f1) 1 g1) 8 f_238) 8 g_238) A (cW_D hD) i_9 (by omega)  (show CI (sY (sX (sI (sI (sC u 8 n_238) 0 f1) 1 g1) 8 f_238) 8 g_238) from (CI_8 (CI_h p0 i122_1) h_238.1 h_238.2.1))) mf_X11_remakeIfFits kw_493 hG hP hP (ci := 11) (q0 := 0) rfl rfl rfl hS (fun _ h => h) rfl hl.1 ⟨⟨Nat.le_of_ble_eq_true rfl, Nat.le_of_ble_eq_true rfl⟩, Nat.le_of_ble_eq_true rfl, Nat.le_refl _, Nat.le_refl _⟩ rfl dX11_map_244 (fun z_244 u244 H locs h_244 hP _ hS => ?_)
                            obtain ⟨n_244, f_244, g_244, hh_244, tt_244, st0_244, rfl, h_244⟩ := h_244
                            have hP : va_P D.1 j_cl (cW D q (sY (sY (sX (sX (sV (sT (sI (sI (sH (sC (sC u 8 n_238) i_9 n_244) i_9 hh_244) 0 f1) 1 g1) i_9 tt_244) 0 st0_244) 8 f_238) i_9 f_244) 8 g_238) i_9 g_244)) H := hP
                            have h_244 : CI (sY (sY (sX (sX (sV (sT (sI (sI (sH (sC (sC u 8 n_238) i_9 n_244) i_9 hh_244) 0 f1) 1 g1) i_9 tt_244) 0 st0_244) 8 f_238) i_9 f_244) 8 g_238) i_9 g_244) ∧ ((z_244 = -3 ∧ ¬ (n_238 ≤ 24 ∧ bd 40 (f_238) (g_238) (n_238)) ∧ n_244 = ((sY (sX (sI (sI (sC u 8 n_238) 0 f1) 1 g1) 8 f_238) 8 g_238).1.2.2.1 i_9) ∧ f_244 = ((sY (sX (sI (sI (sC u 8 n_238) 0 f1) 1 g1) 8 f_238) 8 g_238).1.1 i_9) ∧ g_244 = ((sY (sX (sI (sI (sC u 8 n_238) 0 f1) 1 g1) 8 f_238) 8 g_238).1.2.1 i_9)) ∨ (z_244 = n_238 ∧ n_238 ≤ 24 ∧ bd 40 (f_238) (g_238) (n_238) ∧ n_244 = n_238 ∧ ∀ j : Nat, (j : Int) < n_244 → f_244 j = f_238 j ∧ g_244 j = g_238 j)) := h_244
                            exact W.iret SS.1 SS.2.1 hr (fun t0 ht hW => ⟨⟨_, (sY (sY (sX (sX (sV (sT (sI (sI (sH (sC (sC u 8 n_238) i_9 n_244) i_9 hh_244) 0 f1) 1 g1) i_9 tt_244) 0 st0_244) 8 f_238) i_9 f_244) 8 g_238) i_9 g_244), rfl, ⟨z_244, rfl, (h_244.1)⟩, by show va_P D.1 j_cl (cW D q (sY (sY (sX (sX (sV (sT (sI (sI (sH (sC (sC u 8 n_238) i_9 n_244) i_9 hh_244) 0 f1) 1 g1) i_9 tt_244) 0 st0_244) 8 f_238) i_9 f_244) 8 g_238) i_9 g_244)) t0.heap; rw [ht]; first | exact hP | (simp only [sC_id, sX_id, sY_id, sH_id, sT_id, sV_id]; exact hP)⟩, hS.F ht⟩) hS.2.2 dX11_map_247 hlk
                          · skip
                            refine lv_iload_n SS.1 SS.2.1 dX11_map_135 rfl (lv_at hl 3 rfl) ?_
                            refine lv_aload SS.1 SS.2.1 dX11_map_136 (lv_at hl 9 rfl) ?_
                            refine j_get SS hG hP (8 + 5 * i_2) (v := .ref (q (9 + 5 * i_2))) (C := RX10) (T := TX10) (N := 3) (cw_shape (by omega)) rfl inX10 0 (by decide) (ref := "GridPolygons$Shape") kw_151 rfl rfl dX11_map_138 ?_
                            refine lv_iload SS.1 SS.2.1 dX11_map_141 (lv_at hl 13 rfl) ?_
                            refine j_uRi SS (As := [.int (J i)]) (rest := [.int (J a)]) (c_X8_x l D q (sI (sI u 0 f1) 1 g1) i_2 (by omega) i (show -2147483648 ≤ i ∧ i ≤ 2147483647 from (by omega))) mu_7_x kw_463 hG hP hP (ci := 7) (q0 := (9 + 5 * i_2)) rfl (cw_ring (by omega)) rfl rfl hl.1 ⟨⟨Nat.le_of_ble_eq_true rfl, Nat.le_of_ble_eq_true rfl⟩, Nat.le_of_ble_eq_true rfl, Nat.le_refl _, Nat.le_refl _⟩ rfl dX11_map_143 (fun z_143 h_143 => ?_)
                            have h_143 : z_143 = rx (sI (sI u 0 f1) 1 g1) i_2 i ∧ ∀ K : Int, 0 ≤ K → RB K (sI (sI u 0 f1) 1 g1) i_2 → -K ≤ z_143 ∧ z_143 ≤ K := h_143
                            have hb_143 := h_143.2 80 (by omega) (show RB 80 u i_2 from CI_s p0 (by omega))
                            refine j_imul SS (x := a) (y := z_143) dX11_map_146 ?_
                            refine lv_iload SS.1 SS.2.1 dX11_map_147 (lv_at hl 4 rfl) ?_
                            refine lv_aload SS.1 SS.2.1 dX11_map_149 (lv_at hl 9 rfl) ?_
                            refine j_get SS hG hP (8 + 5 * i_2) (v := .ref (q (9 + 5 * i_2))) (C := RX10) (T := TX10) (N := 3) (cw_shape (by omega)) rfl inX10 0 (by decide) (ref := "GridPolygons$Shape") kw_151 rfl rfl dX11_map_151 ?_
                            refine lv_iload SS.1 SS.2.1 dX11_map_154 (lv_at hl 13 rfl) ?_
                            refine j_uRi SS (As := [.int (J i)]) (rest := [.int (J b), .int (J (a * z_143))]) (c_X8_y l D q (sI (sI u 0 f1) 1 g1) i_2 (by omega) i (show -2147483648 ≤ i ∧ i ≤ 2147483647 from (by omega))) mu_7_y kw_464 hG hP hP (ci := 7) (q0 := (9 + 5 * i_2)) rfl (cw_ring (by omega)) rfl rfl hl.1 ⟨⟨Nat.le_of_ble_eq_true rfl, Nat.le_of_ble_eq_true rfl⟩, Nat.le_of_ble_eq_true rfl, Nat.le_refl _, Nat.le_refl _⟩ rfl dX11_map_156 (fun z_156 h_156 => ?_)
                            have h_156 : z_156 = ry9 (sI (sI u 0 f1) 1 g1) i_2 i ∧ ∀ K : Int, 0 ≤ K → RB K (sI (sI u 0 f1) 1 g1) i_2 → -K ≤ z_156 ∧ z_156 ≤ K := h_156
                            have hb_156 := h_156.2 80 (by omega) (show RB 80 u i_2 from CI_s p0 (by omega))
                            refine j_imul SS (x := b) (y := z_156) dX11_map_159 ?_
                            refine j_iadd SS (x := (a * z_143)) (y := (b * z_156)) dX11_map_160 ?_
                            refine lv_iload SS.1 SS.2.1 dX11_map_161 (lv_at hl 7 rfl) ?_
                            refine j_iadd SS (x := ((a * z_143) + (b * z_156))) (y := e) dX11_map_163 ?_
                            refine lv_istore (lv' := [(14, .int (J (((a * z_143) + (b * z_156)) + e))), (0, .ref (q 0)), (1, .int (J s)), (2, .int (J to)), (3, .int (J a)), (4, .int (J b)), (5, .int (J c)), (6, .int (J d)), (7, .int (J e)), (8, .int (J f)), (9, .ref (q (8 + 5 * i_2))), (10, .ref (q (8 + 5 * i_9))), (11, .int (J 1)), (12, .int (J ((a * d) - (b * c)))), (13, .int (J i))]) SS.1 SS.2.1 dX11_map_164 hl (by decide) rfl (fun ls hl => ?_)
                            refine lv_iload SS.1 SS.2.1 dX11_map_166 (lv_at hl 6 rfl) ?_
                            refine lv_aload SS.1 SS.2.1 dX11_map_168 (lv_at hl 10 rfl) ?_
                            refine j_get SS hG hP (8 + 5 * i_2) (v := .ref (q (9 + 5 * i_2))) (C := RX10) (T := TX10) (N := 3) (cw_shape (by omega)) rfl inX10 0 (by decide) (ref := "GridPolygons$Shape") kw_151 rfl rfl dX11_map_170 ?_
                            refine lv_iload SS.1 SS.2.1 dX11_map_173 (lv_at hl 14 rfl) ?_
                            refine j_uRi SS (As := [.int (J i)]) (rest := [.int (J c)]) (c_X8_x l D q (sI (sI u 0 f1) 1 g1) i_2 (by omega) i (show -2147483648 ≤ i ∧ i ≤ 2147483647 from (by omega))) mu_7_x kw_463 hG hP hP (ci := 7) (q0 := (9 + 5 * i_2)) rfl (cw_ring (by omega)) rfl rfl hl.1 ⟨⟨Nat.le_of_ble_eq_true rfl, Nat.le_of_ble_eq_true rfl⟩, Nat.le_of_ble_eq_true rfl, Nat.le_refl _, Nat.le_refl _⟩ rfl dX11_map_175 (fun z_175 h_175 => ?_)
                            have h_175 : z_175 = rx (sI (sI u 0 f1) 1 g1) i_2 i ∧ ∀ K : Int, 0 ≤ K → RB K (sI (sI u 0 f1) 1 g1) i_2 → -K ≤ z_175 ∧ z_175 ≤ K := h_175
                            have hb_175 := h_175.2 80 (by omega) (show RB 80 u i_2 from CI_s p0 (by omega))
                            refine j_imul SS (x := c) (y := z_175) dX11_map_178 ?_
                            refine lv_iload SS.1 SS.2.1 dX11_map_179 (lv_at hl 7 rfl) ?_
                            refine lv_aload SS.1 SS.2.1 dX11_map_181 (lv_at hl 10 rfl) ?_
                            refine j_get SS hG hP (8 + 5 * i_2) (v := .ref (q (9 + 5 * i_2))) (C := RX10) (T := TX10) (N := 3) (cw_shape (by omega)) rfl inX10 0 (by decide) (ref := "GridPolygons$Shape") kw_151 rfl rfl dX11_map_183 ?_
                            refine lv_iload SS.1 SS.2.1 dX11_map_186 (lv_at hl 14 rfl) ?_
                            refine j_uRi SS (As := [.int (J i)]) (rest := [.int (J d), .int (J (c * z_175))]) (c_X8_y l D q (sI (sI u 0 f1) 1 g1) i_2 (by omega) i (show -2147483648 ≤ i ∧ i ≤ 2147483647 from (by omega))) mu_7_y kw_464 hG hP hP (ci := 7) (q0 := (9 + 5 * i_2)) rfl (cw_ring (by omega)) rfl rfl hl.1 ⟨⟨Nat.le_of_ble_eq_true rfl, Nat.le_of_ble_eq_true rfl⟩, Nat.le_of_ble_eq_true rfl, Nat.le_refl _, Nat.le_refl _⟩ rfl dX11_map_188 (fun z_188 h_188 => ?_)
                            have h_188 : z_188 = ry9 (sI (sI u 0 f1) 1 g1) i_2 i ∧ ∀ K : Int, 0 ≤ K → RB K (sI (sI u 0 f1) 1 g1) i_2 → -K ≤ z_188 ∧ z_188 ≤ K := h_188
                            have hb_188 := h_188.2 80 (by omega) (show RB 80 u i_2 from CI_s p0 (by omega))
                            refine j_imul SS (x := d) (y := z_188) dX11_map_191 ?_
                            refine j_iadd SS (x := (c * z_175)) (y := (d * z_188)) dX11_map_192 ?_
                            refine lv_iload SS.1 SS.2.1 dX11_map_193 (lv_at hl 9 rfl) ?_
                            refine j_iadd SS (x := ((c * z_175) + (d * z_188))) (y := f) dX11_map_195 ?_
                            refine lv_istore (lv' := [(15, .int (J (((c * z_175) + (d * z_188)) + f))), (14, .int (J (((a * z_143) + (b * z_156)) + e))), (0, .ref (q 0)), (1, .int (J s)), (2, .int (J to)), (3, .int (J a)), (4, .int (J b)), (5, .int (J c)), (6, .int (J d)), (7, .int (J e)), (8, .int (J f)), (9, .ref (q (8 + 5 * i_2))), (10, .ref (q (8 + 5 * i_9))), (11, .int (J 1)), (12, .int (J ((a * d) - (b * c)))), (13, .int (J i))]) SS.1 SS.2.1 dX11_map_196 hl (by decide) rfl (fun ls hl => ?_)
                            have x1 := mulb (A := 40) (B := 80) (a := a) (b := z_143) (by omega) (by omega)
                            have x2 := mulb (A := 40) (B := 80) (a := b) (b := z_156) (by omega) (by omega)
                            have x3 := mulb (A := 40) (B := 80) (a := c) (b := z_175) (by omega) (by omega)
                            have x4 := mulb (A := 40) (B := 80) (a := d) (b := z_188) (by omega) (by omega)
                            refine lv_iload SS.1 SS.2.1 dX11_map_198 (lv_at hl 1 rfl) ?_
                            refine j_sRi SS (As := [.int (J (((a * z_143) + (b * z_156)) + e))]) (rest := []) (c_X11_onGrid l D  (((a * z_143) + (b * z_156)) + e) (show -2147483648 ≤ (((a * z_143) + (b * z_156)) + e) ∧ (((a * z_143) + (b * z_156)) + e) ≤ 2147483647 from (by omega))) mf_X11_onGrid kw_475 hG trivial rfl hl.1 ⟨⟨Nat.le_of_ble_eq_true rfl, Nat.le_of_ble_eq_true rfl⟩, Nat.le_of_ble_eq_true rfl, Nat.le_refl _, Nat.le_refl _⟩ rfl dX11_map_200 (fun z_200 h_200 => ?_)
                            have h_200 : (z_200 = 1 ∧ (-40 ≤ (((a * z_143) + (b * z_156)) + e) ∧ (((a * z_143) + (b * z_156)) + e) ≤ 40)) ∨ (z_200 = 0 ∧ ¬ (-40 ≤ (((a * z_143) + (b * z_156)) + e) ∧ (((a * z_143) + (b * z_156)) + e) ≤ 40)) := h_200
                            refine j_if_eq SS (tgt := 214) (x := z_200) dX11_map_203 (by decide) (by omega) (fun c_203 => ?_) (fun c_203 => ?_)
                            · skip
                              refine j_bipush SS dX11_map_214 (by decide +kernel) ?_
                              exact W.iret SS.1 SS.2.1 hr (fun t0 ht hW => ⟨⟨_, (sI (sI u 0 f1) 1 g1), rfl, ⟨(-3), rfl, (CI_h p0 i122_1)⟩, by show va_P D.1 j_cl (cW D q (sI (sI u 0 f1) 1 g1)) t0.heap; rw [ht]; first | exact hP | (simp only [sC_id, sX_id, sY_id, sH_id, sT_id, sV_id]; exact hP)⟩, hS.F ht⟩) hS.2.2 dX11_map_216 hlk
                            · skip
                              refine lv_iload SS.1 SS.2.1 dX11_map_206 (lv_at hl 0 rfl) ?_
                              refine j_sRi SS (As := [.int (J (((c * z_175) + (d * z_188)) + f))]) (rest := []) (c_X11_onGrid l D  (((c * z_175) + (d * z_188)) + f) (show -2147483648 ≤ (((c * z_175) + (d * z_188)) + f) ∧ (((c * z_175) + (d * z_188)) + f) ≤ 2147483647 from (by omega))) mf_X11_onGrid kw_475 hG trivial rfl hl.1 ⟨⟨Nat.le_of_ble_eq_true rfl, Nat.le_of_ble_eq_true rfl⟩, Nat.le_of_ble_eq_true rfl, Nat.le_refl _, Nat.le_refl _⟩ rfl dX11_map_208 (fun z_208 h_208 => ?_)
                              have h_208 : (z_208 = 1 ∧ (-40 ≤ (((c * z_175) + (d * z_188)) + f) ∧ (((c * z_175) + (d * z_188)) + f) ≤ 40)) ∨ (z_208 = 0 ∧ ¬ (-40 ≤ (((c * z_175) + (d * z_188)) + f) ∧ (((c * z_175) + (d * z_188)) + f) ≤ 40)) := h_208
                              refine j_if_ne SS (tgt := 217) (x := z_208) dX11_map_211 (by decide) (by omega) (fun c_211 => ?_) (fun c_211 => ?_)
                              · skip
                                refine lv_aload_n SS.1 SS.2.1 dX11_map_217 rfl (lv_at hl 2 rfl) ?_
                                refine j_get SS hG hP 0 (v := .ref (q 2)) (C := RX11) (T := TX11) (N := 8) rfl rfl inX11 1 (by decide) (ref := "GridPolygons") kw_386 rfl rfl dX11_map_218 ?_
                                refine lv_iload SS.1 SS.2.1 dX11_map_221 (lv_at hl 1 rfl) ?_
                                refine lv_iload SS.1 SS.2.1 dX11_map_223 (lv_at hl 0 rfl) ?_
                                refine j_vWv SS (As := [.int (J (((a * z_143) + (b * z_156)) + e)), .int (J (((c * z_175) + (d * z_188)) + f))]) (rest := []) (c_X3_take l D q (sI (sI u 0 f1) 1 g1) A (cW_D hD)  (((a * z_143) + (b * z_156)) + e) (((c * z_175) + (d * z_188)) + f) (show HU_ (f1) (g1) from (i122_1)) (show -1000 ≤ (((a * z_143) + (b * z_156)) + e) ∧ (((a * z_143) + (b * z_156)) + e) ≤ 1000 from (by omega)) (show -2147483648 ≤ (((c * z_175) + (d * z_188)) + f) ∧ (((c * z_175) + (d * z_188)) + f) ≤ 2147483647 from (by omega))) mf_X3_take kw_492 hG hP hP (ci := 3) (q0 := 2) rfl rfl rfl hS (fun _ h => h) rfl hl.1 ⟨⟨Nat.le_of_ble_eq_true rfl, Nat.le_of_ble_eq_true rfl⟩, Nat.le_of_ble_eq_true rfl, Nat.le_refl _, Nat.le_refl _⟩ rfl dX11_map_225 (fun u225 H locs h_225 hP _ hS => ?_)
                                obtain ⟨f_225, g_225, rfl, h_225⟩ := h_225
                                have hP : va_P D.1 j_cl (cW D q (sI (sI u 0 f_225) 1 g_225)) H := hP
                                have h_225 : ((-80 ≤ (((a * z_143) + (b * z_156)) + e) ∧ (((a * z_143) + (b * z_156)) + e) ≤ 80 ∧ -80 ≤ (((c * z_175) + (d * z_188)) + f) ∧ (((c * z_175) + (d * z_188)) + f) ≤ 80) ∧ f_225 = upI (f1) ((((a * z_143) + (b * z_156)) + e) + 80).toNat (min (f1 ((((a * z_143) + (b * z_156)) + e) + 80).toNat) (((c * z_175) + (d * z_188)) + f)) ∧ g_225 = upI (g1) ((((a * z_143) + (b * z_156)) + e) + 80).toNat (max (g1 ((((a * z_143) + (b * z_156)) + e) + 80).toNat) (((c * z_175) + (d * z_188)) + f)) ∨ ¬ (-80 ≤ (((a * z_143) + (b * z_156)) + e) ∧ (((a * z_143) + (b * z_156)) + e) ≤ 80 ∧ -80 ≤ (((c * z_175) + (d * z_188)) + f) ∧ (((c * z_175) + (d * z_188)) + f) ≤ 80) ∧ f_225 = f1 ∧ g_225 = g1) ∧ HU_ f_225 g_225 := h_225
                                refine lv_iinc (v := J (i + 1)) (lv' := [(13, .int (J (i + 1))), (15, .int (J (((c * z_175) + (d * z_188)) + f))), (14, .int (J (((a * z_143) + (b * z_156)) + e))), (0, .ref (q 0)), (1, .int (J s)), (2, .int (J to)), (3, .int (J a)), (4, .int (J b)), (5, .int (J c)), (6, .int (J d)), (7, .int (J e)), (8, .int (J f)), (9, .ref (q (8 + 5 * i_2))), (10, .ref (q (8 + 5 * i_9))), (11, .int (J 1)), (12, .int (J ((a * d) - (b * c))))]) SS.1 SS.2.1 dX11_map_228 hl (k := 15) rfl (J_add _ _) (by decide) rfl (fun ls hl => ?_)
                                refine lv_goto (tgt := 122) SS.1 SS.2.1 dX11_map_231 (by decide) ?_
                                exact ih_122 (i + 1) f_225 g_225 _ _ hP hS ls (lv_sub hl [3, 4, 5, 6, 7, 8, 9, 10, 11, 12, 13, 14, 15, 0] rfl) (by omega) (h_225.2) (by omega)
                              · skip
                                refine j_bipush SS dX11_map_214 (by decide +kernel) ?_
                                exact W.iret SS.1 SS.2.1 hr (fun t0 ht hW => ⟨⟨_, (sI (sI u 0 f1) 1 g1), rfl, ⟨(-3), rfl, (CI_h p0 i122_1)⟩, by show va_P D.1 j_cl (cW D q (sI (sI u 0 f1) 1 g1)) t0.heap; rw [ht]; first | exact hP | (simp only [sC_id, sX_id, sY_id, sH_id, sT_id, sV_id]; exact hP)⟩, hS.F ht⟩) hS.2.2 dX11_map_216 hlk
                      exact L_122 ((u.1.2.2.1 i_2 - (0 : Int)).toNat + 1) 0 f_116 g_116 _ _ hP hS ls (lv_sub hl [5, 6, 7, 8, 9, 10, 11, 12, 13, 4, 3, 2, 1, 0] rfl) (by omega) (h_116.2.2) (Nat.lt_succ_self _)
                    · skip
                      refine j_bipush SS dX11_map_109 (by decide +kernel) ?_
                      exact W.iret SS.1 SS.2.1 hr (fun t0 ht hW => ⟨⟨_, u, rfl, ⟨(-2), rfl, (p0)⟩, by show va_P D.1 j_cl (cW D q u) t0.heap; rw [ht]; first | exact hP | (simp only [sC_id, sX_id, sY_id, sH_id, sT_id, sV_id]; exact hP)⟩, hS.F ht⟩) hS.2.2 dX11_map_111 hlk
    · skip
      refine lv_astoreN (lv' := [(10, .null), (9, .ref (q (8 + 5 * i_2))), (0, .ref (q 0)), (1, .int (J s)), (2, .int (J to)), (3, .int (J a)), (4, .int (J b)), (5, .int (J c)), (6, .int (J d)), (7, .int (J e)), (8, .int (J f))]) SS.1 SS.2.1 dX11_map_12 hl (by decide) rfl (fun ls hl => ?_)
      refine lv_iload_n SS.1 SS.2.1 dX11_map_14 rfl (lv_at hl 5 rfl) ?_
      refine j_sRi SS (As := [.int (J a)]) (rest := []) (c_X11_onGrid l D  a (show -2147483648 ≤ a ∧ a ≤ 2147483647 from (p3))) mf_X11_onGrid kw_475 hG trivial rfl hl.1 ⟨⟨Nat.le_of_ble_eq_true rfl, Nat.le_of_ble_eq_true rfl⟩, Nat.le_of_ble_eq_true rfl, Nat.le_refl _, Nat.le_refl _⟩ rfl dX11_map_15 (fun z_15 h_15 => ?_)
      have h_15 : (z_15 = 1 ∧ (-40 ≤ a ∧ a ≤ 40)) ∨ (z_15 = 0 ∧ ¬ (-40 ≤ a ∧ a ≤ 40)) := h_15
      refine j_if_eq SS (tgt := 65) (x := z_15) dX11_map_18 (by decide) (by omega) (fun c_18 => ?_) (fun c_18 => ?_)
      · skip
        refine j_iconst SS dX11_map_65 ?_
        refine lv_istore (lv' := [(11, .int (J 0)), (10, .null), (9, .ref (q (8 + 5 * i_2))), (0, .ref (q 0)), (1, .int (J s)), (2, .int (J to)), (3, .int (J a)), (4, .int (J b)), (5, .int (J c)), (6, .int (J d)), (7, .int (J e)), (8, .int (J f))]) SS.1 SS.2.1 dX11_map_66 hl (by decide) rfl (fun ls hl => ?_)
        refine lv_aload SS.1 SS.2.1 dX11_map_68 (lv_at hl 2 rfl) ?_
        refine lv_ifnull SS.1 SS.2.1 dX11_map_70 ?_
        refine lv_aloadN SS.1 SS.2.1 dX11_map_73 (lv_at hl 1 rfl) ?_
        refine lv_ifnullN SS.1 SS.2.1 (tgt := 83) dX11_map_75 (by decide) ?_
        refine j_iconst SS dX11_map_83 ?_
        exact W.iret SS.1 SS.2.1 hr (fun t0 ht hW => ⟨⟨_, u, rfl, ⟨(-1), rfl, (p0)⟩, by show va_P D.1 j_cl (cW D q u) t0.heap; rw [ht]; first | exact hP | (simp only [sC_id, sX_id, sY_id, sH_id, sT_id, sV_id]; exact hP)⟩, hS.F ht⟩) hS.2.2 dX11_map_84 hlk
      · skip
        refine lv_iload SS.1 SS.2.1 dX11_map_21 (lv_at hl 6 rfl) ?_
        refine j_sRi SS (As := [.int (J b)]) (rest := []) (c_X11_onGrid l D  b (show -2147483648 ≤ b ∧ b ≤ 2147483647 from (p4))) mf_X11_onGrid kw_475 hG trivial rfl hl.1 ⟨⟨Nat.le_of_ble_eq_true rfl, Nat.le_of_ble_eq_true rfl⟩, Nat.le_of_ble_eq_true rfl, Nat.le_refl _, Nat.le_refl _⟩ rfl dX11_map_23 (fun z_23 h_23 => ?_)
        have h_23 : (z_23 = 1 ∧ (-40 ≤ b ∧ b ≤ 40)) ∨ (z_23 = 0 ∧ ¬ (-40 ≤ b ∧ b ≤ 40)) := h_23
        refine j_if_eq SS (tgt := 65) (x := z_23) dX11_map_26 (by decide) (by omega) (fun c_26 => ?_) (fun c_26 => ?_)
        · skip
          refine j_iconst SS dX11_map_65 ?_
          refine lv_istore (lv' := [(11, .int (J 0)), (10, .null), (9, .ref (q (8 + 5 * i_2))), (0, .ref (q 0)), (1, .int (J s)), (2, .int (J to)), (3, .int (J a)), (4, .int (J b)), (5, .int (J c)), (6, .int (J d)), (7, .int (J e)), (8, .int (J f))]) SS.1 SS.2.1 dX11_map_66 hl (by decide) rfl (fun ls hl => ?_)
          refine lv_aload SS.1 SS.2.1 dX11_map_68 (lv_at hl 2 rfl) ?_
          refine lv_ifnull SS.1 SS.2.1 dX11_map_70 ?_
          refine lv_aloadN SS.1 SS.2.1 dX11_map_73 (lv_at hl 1 rfl) ?_
          refine lv_ifnullN SS.1 SS.2.1 (tgt := 83) dX11_map_75 (by decide) ?_
          refine j_iconst SS dX11_map_83 ?_
          exact W.iret SS.1 SS.2.1 hr (fun t0 ht hW => ⟨⟨_, u, rfl, ⟨(-1), rfl, (p0)⟩, by show va_P D.1 j_cl (cW D q u) t0.heap; rw [ht]; first | exact hP | (simp only [sC_id, sX_id, sY_id, sH_id, sT_id, sV_id]; exact hP)⟩, hS.F ht⟩) hS.2.2 dX11_map_84 hlk
        · skip
          refine lv_iload SS.1 SS.2.1 dX11_map_29 (lv_at hl 7 rfl) ?_
          refine j_sRi SS (As := [.int (J c)]) (rest := []) (c_X11_onGrid l D  c (show -2147483648 ≤ c ∧ c ≤ 2147483647 from (p5))) mf_X11_onGrid kw_475 hG trivial rfl hl.1 ⟨⟨Nat.le_of_ble_eq_true rfl, Nat.le_of_ble_eq_true rfl⟩, Nat.le_of_ble_eq_true rfl, Nat.le_refl _, Nat.le_refl _⟩ rfl dX11_map_31 (fun z_31 h_31 => ?_)
          have h_31 : (z_31 = 1 ∧ (-40 ≤ c ∧ c ≤ 40)) ∨ (z_31 = 0 ∧ ¬ (-40 ≤ c ∧ c ≤ 40)) := h_31
          refine j_if_eq SS (tgt := 65) (x := z_31) dX11_map_34 (by decide) (by omega) (fun c_34 => ?_) (fun c_34 => ?_)
          · skip
            refine j_iconst SS dX11_map_65 ?_
            refine lv_istore (lv' := [(11, .int (J 0)), (10, .null), (9, .ref (q (8 + 5 * i_2))), (0, .ref (q 0)), (1, .int (J s)), (2, .int (J to)), (3, .int (J a)), (4, .int (J b)), (5, .int (J c)), (6, .int (J d)), (7, .int (J e)), (8, .int (J f))]) SS.1 SS.2.1 dX11_map_66 hl (by decide) rfl (fun ls hl => ?_)
            refine lv_aload SS.1 SS.2.1 dX11_map_68 (lv_at hl 2 rfl) ?_
            refine lv_ifnull SS.1 SS.2.1 dX11_map_70 ?_
            refine lv_aloadN SS.1 SS.2.1 dX11_map_73 (lv_at hl 1 rfl) ?_
            refine lv_ifnullN SS.1 SS.2.1 (tgt := 83) dX11_map_75 (by decide) ?_
            refine j_iconst SS dX11_map_83 ?_
            exact W.iret SS.1 SS.2.1 hr (fun t0 ht hW => ⟨⟨_, u, rfl, ⟨(-1), rfl, (p0)⟩, by show va_P D.1 j_cl (cW D q u) t0.heap; rw [ht]; first | exact hP | (simp only [sC_id, sX_id, sY_id, sH_id, sT_id, sV_id]; exact hP)⟩, hS.F ht⟩) hS.2.2 dX11_map_84 hlk
          · skip
            refine lv_iload SS.1 SS.2.1 dX11_map_37 (lv_at hl 8 rfl) ?_
            refine j_sRi SS (As := [.int (J d)]) (rest := []) (c_X11_onGrid l D  d (show -2147483648 ≤ d ∧ d ≤ 2147483647 from (p6))) mf_X11_onGrid kw_475 hG trivial rfl hl.1 ⟨⟨Nat.le_of_ble_eq_true rfl, Nat.le_of_ble_eq_true rfl⟩, Nat.le_of_ble_eq_true rfl, Nat.le_refl _, Nat.le_refl _⟩ rfl dX11_map_39 (fun z_39 h_39 => ?_)
            have h_39 : (z_39 = 1 ∧ (-40 ≤ d ∧ d ≤ 40)) ∨ (z_39 = 0 ∧ ¬ (-40 ≤ d ∧ d ≤ 40)) := h_39
            refine j_if_eq SS (tgt := 65) (x := z_39) dX11_map_42 (by decide) (by omega) (fun c_42 => ?_) (fun c_42 => ?_)
            · skip
              refine j_iconst SS dX11_map_65 ?_
              refine lv_istore (lv' := [(11, .int (J 0)), (10, .null), (9, .ref (q (8 + 5 * i_2))), (0, .ref (q 0)), (1, .int (J s)), (2, .int (J to)), (3, .int (J a)), (4, .int (J b)), (5, .int (J c)), (6, .int (J d)), (7, .int (J e)), (8, .int (J f))]) SS.1 SS.2.1 dX11_map_66 hl (by decide) rfl (fun ls hl => ?_)
              refine lv_aload SS.1 SS.2.1 dX11_map_68 (lv_at hl 2 rfl) ?_
              refine lv_ifnull SS.1 SS.2.1 dX11_map_70 ?_
              refine lv_aloadN SS.1 SS.2.1 dX11_map_73 (lv_at hl 1 rfl) ?_
              refine lv_ifnullN SS.1 SS.2.1 (tgt := 83) dX11_map_75 (by decide) ?_
              refine j_iconst SS dX11_map_83 ?_
              exact W.iret SS.1 SS.2.1 hr (fun t0 ht hW => ⟨⟨_, u, rfl, ⟨(-1), rfl, (p0)⟩, by show va_P D.1 j_cl (cW D q u) t0.heap; rw [ht]; first | exact hP | (simp only [sC_id, sX_id, sY_id, sH_id, sT_id, sV_id]; exact hP)⟩, hS.F ht⟩) hS.2.2 dX11_map_84 hlk
            · skip
              refine lv_iload SS.1 SS.2.1 dX11_map_45 (lv_at hl 9 rfl) ?_
              refine j_sRi SS (As := [.int (J e)]) (rest := []) (c_X11_onGrid l D  e (show -2147483648 ≤ e ∧ e ≤ 2147483647 from (p7))) mf_X11_onGrid kw_475 hG trivial rfl hl.1 ⟨⟨Nat.le_of_ble_eq_true rfl, Nat.le_of_ble_eq_true rfl⟩, Nat.le_of_ble_eq_true rfl, Nat.le_refl _, Nat.le_refl _⟩ rfl dX11_map_47 (fun z_47 h_47 => ?_)
              have h_47 : (z_47 = 1 ∧ (-40 ≤ e ∧ e ≤ 40)) ∨ (z_47 = 0 ∧ ¬ (-40 ≤ e ∧ e ≤ 40)) := h_47
              refine j_if_eq SS (tgt := 65) (x := z_47) dX11_map_50 (by decide) (by omega) (fun c_50 => ?_) (fun c_50 => ?_)
              · skip
                refine j_iconst SS dX11_map_65 ?_
                refine lv_istore (lv' := [(11, .int (J 0)), (10, .null), (9, .ref (q (8 + 5 * i_2))), (0, .ref (q 0)), (1, .int (J s)), (2, .int (J to)), (3, .int (J a)), (4, .int (J b)), (5, .int (J c)), (6, .int (J d)), (7, .int (J e)), (8, .int (J f))]) SS.1 SS.2.1 dX11_map_66 hl (by decide) rfl (fun ls hl => ?_)
                refine lv_aload SS.1 SS.2.1 dX11_map_68 (lv_at hl 2 rfl) ?_
                refine lv_ifnull SS.1 SS.2.1 dX11_map_70 ?_
                refine lv_aloadN SS.1 SS.2.1 dX11_map_73 (lv_at hl 1 rfl) ?_
                refine lv_ifnullN SS.1 SS.2.1 (tgt := 83) dX11_map_75 (by decide) ?_
                refine j_iconst SS dX11_map_83 ?_
                exact W.iret SS.1 SS.2.1 hr (fun t0 ht hW => ⟨⟨_, u, rfl, ⟨(-1), rfl, (p0)⟩, by show va_P D.1 j_cl (cW D q u) t0.heap; rw [ht]; first | exact hP | (simp only [sC_id, sX_id, sY_id, sH_id, sT_id, sV_id]; exact hP)⟩, hS.F ht⟩) hS.2.2 dX11_map_84 hlk
              · skip
                refine lv_iload SS.1 SS.2.1 dX11_map_53 (lv_at hl 10 rfl) ?_
                refine j_sRi SS (As := [.int (J f)]) (rest := []) (c_X11_onGrid l D  f (show -2147483648 ≤ f ∧ f ≤ 2147483647 from (p8))) mf_X11_onGrid kw_475 hG trivial rfl hl.1 ⟨⟨Nat.le_of_ble_eq_true rfl, Nat.le_of_ble_eq_true rfl⟩, Nat.le_of_ble_eq_true rfl, Nat.le_refl _, Nat.le_refl _⟩ rfl dX11_map_55 (fun z_55 h_55 => ?_)
                have h_55 : (z_55 = 1 ∧ (-40 ≤ f ∧ f ≤ 40)) ∨ (z_55 = 0 ∧ ¬ (-40 ≤ f ∧ f ≤ 40)) := h_55
                refine j_if_eq SS (tgt := 65) (x := z_55) dX11_map_58 (by decide) (by omega) (fun c_58 => ?_) (fun c_58 => ?_)
                · skip
                  refine j_iconst SS dX11_map_65 ?_
                  refine lv_istore (lv' := [(11, .int (J 0)), (10, .null), (9, .ref (q (8 + 5 * i_2))), (0, .ref (q 0)), (1, .int (J s)), (2, .int (J to)), (3, .int (J a)), (4, .int (J b)), (5, .int (J c)), (6, .int (J d)), (7, .int (J e)), (8, .int (J f))]) SS.1 SS.2.1 dX11_map_66 hl (by decide) rfl (fun ls hl => ?_)
                  refine lv_aload SS.1 SS.2.1 dX11_map_68 (lv_at hl 2 rfl) ?_
                  refine lv_ifnull SS.1 SS.2.1 dX11_map_70 ?_
                  refine lv_aloadN SS.1 SS.2.1 dX11_map_73 (lv_at hl 1 rfl) ?_
                  refine lv_ifnullN SS.1 SS.2.1 (tgt := 83) dX11_map_75 (by decide) ?_
                  refine j_iconst SS dX11_map_83 ?_
                  exact W.iret SS.1 SS.2.1 hr (fun t0 ht hW => ⟨⟨_, u, rfl, ⟨(-1), rfl, (p0)⟩, by show va_P D.1 j_cl (cW D q u) t0.heap; rw [ht]; first | exact hP | (simp only [sC_id, sX_id, sY_id, sH_id, sT_id, sV_id]; exact hP)⟩, hS.F ht⟩) hS.2.2 dX11_map_84 hlk
                · skip
                  refine j_iconst SS dX11_map_61 ?_
                  refine lv_goto (tgt := 66) SS.1 SS.2.1 dX11_map_62 (by decide) ?_
                  refine lv_istore (lv' := [(11, .int (J 1)), (10, .null), (9, .ref (q (8 + 5 * i_2))), (0, .ref (q 0)), (1, .int (J s)), (2, .int (J to)), (3, .int (J a)), (4, .int (J b)), (5, .int (J c)), (6, .int (J d)), (7, .int (J e)), (8, .int (J f))]) SS.1 SS.2.1 dX11_map_66 hl (by decide) rfl (fun ls hl => ?_)
                  refine lv_aload SS.1 SS.2.1 dX11_map_68 (lv_at hl 2 rfl) ?_
                  refine lv_ifnull SS.1 SS.2.1 dX11_map_70 ?_
                  refine lv_aloadN SS.1 SS.2.1 dX11_map_73 (lv_at hl 1 rfl) ?_
                  refine lv_ifnullN SS.1 SS.2.1 (tgt := 83) dX11_map_75 (by decide) ?_
                  refine j_iconst SS dX11_map_83 ?_
                  exact W.iret SS.1 SS.2.1 hr (fun t0 ht hW => ⟨⟨_, u, rfl, ⟨(-1), rfl, (p0)⟩, by show va_P D.1 j_cl (cW D q u) t0.heap; rw [ht]; first | exact hP | (simp only [sC_id, sX_id, sY_id, sH_id, sT_id, sV_id]; exact hP)⟩, hS.F ht⟩) hS.2.2 dX11_map_84 hlk
  · skip
    refine lv_astoreN (lv' := [(9, .null), (0, .ref (q 0)), (1, .int (J s)), (2, .int (J to)), (3, .int (J a)), (4, .int (J b)), (5, .int (J c)), (6, .int (J d)), (7, .int (J e)), (8, .int (J f))]) SS.1 SS.2.1 dX11_map_5 hl (by decide) rfl (fun ls hl => ?_)
    refine lv_aload_n SS.1 SS.2.1 dX11_map_7 rfl (lv_at hl 1 rfl) ?_
    refine lv_iload_n SS.1 SS.2.1 dX11_map_8 rfl (lv_at hl 3 rfl) ?_
    refine j_vSh SS (As := [.int (J to)]) (rest := []) (c_X11_shapeAt l D q u  to (show -2147483648 ≤ to ∧ to ≤ 2147483647 from (p2))) mf_X11_shapeAt kw_414 hG hP hP (ci := 11) (q0 := 0) rfl rfl rfl rfl hl.1 ⟨⟨Nat.le_of_ble_eq_true rfl, Nat.le_of_ble_eq_true rfl⟩, Nat.le_of_ble_eq_true rfl, Nat.le_refl _, Nat.le_refl _⟩ rfl dX11_map_9 (fun i_9 hi_9 hz_9 => ?_) (fun hn_9 => ?_)
    · skip
      refine lv_astore (lv' := [(10, .ref (q (8 + 5 * i_9))), (9, .null), (0, .ref (q 0)), (1, .int (J s)), (2, .int (J to)), (3, .int (J a)), (4, .int (J b)), (5, .int (J c)), (6, .int (J d)), (7, .int (J e)), (8, .int (J f))]) SS.1 SS.2.1 dX11_map_12 hl (by decide) rfl (fun ls hl => ?_)
      refine lv_iload_n SS.1 SS.2.1 dX11_map_14 rfl (lv_at hl 5 rfl) ?_
      refine j_sRi SS (As := [.int (J a)]) (rest := []) (c_X11_onGrid l D  a (show -2147483648 ≤ a ∧ a ≤ 2147483647 from (p3))) mf_X11_onGrid kw_475 hG trivial rfl hl.1 ⟨⟨Nat.le_of_ble_eq_true rfl, Nat.le_of_ble_eq_true rfl⟩, Nat.le_of_ble_eq_true rfl, Nat.le_refl _, Nat.le_refl _⟩ rfl dX11_map_15 (fun z_15 h_15 => ?_)
      have h_15 : (z_15 = 1 ∧ (-40 ≤ a ∧ a ≤ 40)) ∨ (z_15 = 0 ∧ ¬ (-40 ≤ a ∧ a ≤ 40)) := h_15
      refine j_if_eq SS (tgt := 65) (x := z_15) dX11_map_18 (by decide) (by omega) (fun c_18 => ?_) (fun c_18 => ?_)
      · skip
        refine j_iconst SS dX11_map_65 ?_
        refine lv_istore (lv' := [(11, .int (J 0)), (10, .ref (q (8 + 5 * i_9))), (9, .null), (0, .ref (q 0)), (1, .int (J s)), (2, .int (J to)), (3, .int (J a)), (4, .int (J b)), (5, .int (J c)), (6, .int (J d)), (7, .int (J e)), (8, .int (J f))]) SS.1 SS.2.1 dX11_map_66 hl (by decide) rfl (fun ls hl => ?_)
        refine lv_aloadN SS.1 SS.2.1 dX11_map_68 (lv_at hl 2 rfl) ?_
        refine lv_ifnullN SS.1 SS.2.1 (tgt := 83) dX11_map_70 (by decide) ?_
        refine j_iconst SS dX11_map_83 ?_
        exact W.iret SS.1 SS.2.1 hr (fun t0 ht hW => ⟨⟨_, u, rfl, ⟨(-1), rfl, (p0)⟩, by show va_P D.1 j_cl (cW D q u) t0.heap; rw [ht]; first | exact hP | (simp only [sC_id, sX_id, sY_id, sH_id, sT_id, sV_id]; exact hP)⟩, hS.F ht⟩) hS.2.2 dX11_map_84 hlk
      · skip
        refine lv_iload SS.1 SS.2.1 dX11_map_21 (lv_at hl 6 rfl) ?_
        refine j_sRi SS (As := [.int (J b)]) (rest := []) (c_X11_onGrid l D  b (show -2147483648 ≤ b ∧ b ≤ 2147483647 from (p4))) mf_X11_onGrid kw_475 hG trivial rfl hl.1 ⟨⟨Nat.le_of_ble_eq_true rfl, Nat.le_of_ble_eq_true rfl⟩, Nat.le_of_ble_eq_true rfl, Nat.le_refl _, Nat.le_refl _⟩ rfl dX11_map_23 (fun z_23 h_23 => ?_)
        have h_23 : (z_23 = 1 ∧ (-40 ≤ b ∧ b ≤ 40)) ∨ (z_23 = 0 ∧ ¬ (-40 ≤ b ∧ b ≤ 40)) := h_23
        refine j_if_eq SS (tgt := 65) (x := z_23) dX11_map_26 (by decide) (by omega) (fun c_26 => ?_) (fun c_26 => ?_)
        · skip
          refine j_iconst SS dX11_map_65 ?_
          refine lv_istore (lv' := [(11, .int (J 0)), (10, .ref (q (8 + 5 * i_9))), (9, .null), (0, .ref (q 0)), (1, .int (J s)), (2, .int (J to)), (3, .int (J a)), (4, .int (J b)), (5, .int (J c)), (6, .int (J d)), (7, .int (J e)), (8, .int (J f))]) SS.1 SS.2.1 dX11_map_66 hl (by decide) rfl (fun ls hl => ?_)
          refine lv_aloadN SS.1 SS.2.1 dX11_map_68 (lv_at hl 2 rfl) ?_
          refine lv_ifnullN SS.1 SS.2.1 (tgt := 83) dX11_map_70 (by decide) ?_
          refine j_iconst SS dX11_map_83 ?_
          exact W.iret SS.1 SS.2.1 hr (fun t0 ht hW => ⟨⟨_, u, rfl, ⟨(-1), rfl, (p0)⟩, by show va_P D.1 j_cl (cW D q u) t0.heap; rw [ht]; first | exact hP | (simp only [sC_id, sX_id, sY_id, sH_id, sT_id, sV_id]; exact hP)⟩, hS.F ht⟩) hS.2.2 dX11_map_84 hlk
        · skip
          refine lv_iload SS.1 SS.2.1 dX11_map_29 (lv_at hl 7 rfl) ?_
          refine j_sRi SS (As := [.int (J c)]) (rest := []) (c_X11_onGrid l D  c (show -2147483648 ≤ c ∧ c ≤ 2147483647 from (p5))) mf_X11_onGrid kw_475 hG trivial rfl hl.1 ⟨⟨Nat.le_of_ble_eq_true rfl, Nat.le_of_ble_eq_true rfl⟩, Nat.le_of_ble_eq_true rfl, Nat.le_refl _, Nat.le_refl _⟩ rfl dX11_map_31 (fun z_31 h_31 => ?_)
          have h_31 : (z_31 = 1 ∧ (-40 ≤ c ∧ c ≤ 40)) ∨ (z_31 = 0 ∧ ¬ (-40 ≤ c ∧ c ≤ 40)) := h_31
          refine j_if_eq SS (tgt := 65) (x := z_31) dX11_map_34 (by decide) (by omega) (fun c_34 => ?_) (fun c_34 => ?_)
          · skip
            refine j_iconst SS dX11_map_65 ?_
            refine lv_istore (lv' := [(11, .int (J 0)), (10, .ref (q (8 + 5 * i_9))), (9, .null), (0, .ref (q 0)), (1, .int (J s)), (2, .int (J to)), (3, .int (J a)), (4, .int (J b)), (5, .int (J c)), (6, .int (J d)), (7, .int (J e)), (8, .int (J f))]) SS.1 SS.2.1 dX11_map_66 hl (by decide) rfl (fun ls hl => ?_)
            refine lv_aloadN SS.1 SS.2.1 dX11_map_68 (lv_at hl 2 rfl) ?_
            refine lv_ifnullN SS.1 SS.2.1 (tgt := 83) dX11_map_70 (by decide) ?_
            refine j_iconst SS dX11_map_83 ?_
            exact W.iret SS.1 SS.2.1 hr (fun t0 ht hW => ⟨⟨_, u, rfl, ⟨(-1), rfl, (p0)⟩, by show va_P D.1 j_cl (cW D q u) t0.heap; rw [ht]; first | exact hP | (simp only [sC_id, sX_id, sY_id, sH_id, sT_id, sV_id]; exact hP)⟩, hS.F ht⟩) hS.2.2 dX11_map_84 hlk
          · skip
            refine lv_iload SS.1 SS.2.1 dX11_map_37 (lv_at hl 8 rfl) ?_
            refine j_sRi SS (As := [.int (J d)]) (rest := []) (c_X11_onGrid l D  d (show -2147483648 ≤ d ∧ d ≤ 2147483647 from (p6))) mf_X11_onGrid kw_475 hG trivial rfl hl.1 ⟨⟨Nat.le_of_ble_eq_true rfl, Nat.le_of_ble_eq_true rfl⟩, Nat.le_of_ble_eq_true rfl, Nat.le_refl _, Nat.le_refl _⟩ rfl dX11_map_39 (fun z_39 h_39 => ?_)
            have h_39 : (z_39 = 1 ∧ (-40 ≤ d ∧ d ≤ 40)) ∨ (z_39 = 0 ∧ ¬ (-40 ≤ d ∧ d ≤ 40)) := h_39
            refine j_if_eq SS (tgt := 65) (x := z_39) dX11_map_42 (by decide) (by omega) (fun c_42 => ?_) (fun c_42 => ?_)
            · skip
              refine j_iconst SS dX11_map_65 ?_
              refine lv_istore (lv' := [(11, .int (J 0)), (10, .ref (q (8 + 5 * i_9))), (9, .null), (0, .ref (q 0)), (1, .int (J s)), (2, .int (J to)), (3, .int (J a)), (4, .int (J b)), (5, .int (J c)), (6, .int (J d)), (7, .int (J e)), (8, .int (J f))]) SS.1 SS.2.1 dX11_map_66 hl (by decide) rfl (fun ls hl => ?_)
              refine lv_aloadN SS.1 SS.2.1 dX11_map_68 (lv_at hl 2 rfl) ?_
              refine lv_ifnullN SS.1 SS.2.1 (tgt := 83) dX11_map_70 (by decide) ?_
              refine j_iconst SS dX11_map_83 ?_
              exact W.iret SS.1 SS.2.1 hr (fun t0 ht hW => ⟨⟨_, u, rfl, ⟨(-1), rfl, (p0)⟩, by show va_P D.1 j_cl (cW D q u) t0.heap; rw [ht]; first | exact hP | (simp only [sC_id, sX_id, sY_id, sH_id, sT_id, sV_id]; exact hP)⟩, hS.F ht⟩) hS.2.2 dX11_map_84 hlk
            · skip
              refine lv_iload SS.1 SS.2.1 dX11_map_45 (lv_at hl 9 rfl) ?_
              refine j_sRi SS (As := [.int (J e)]) (rest := []) (c_X11_onGrid l D  e (show -2147483648 ≤ e ∧ e ≤ 2147483647 from (p7))) mf_X11_onGrid kw_475 hG trivial rfl hl.1 ⟨⟨Nat.le_of_ble_eq_true rfl, Nat.le_of_ble_eq_true rfl⟩, Nat.le_of_ble_eq_true rfl, Nat.le_refl _, Nat.le_refl _⟩ rfl dX11_map_47 (fun z_47 h_47 => ?_)
              have h_47 : (z_47 = 1 ∧ (-40 ≤ e ∧ e ≤ 40)) ∨ (z_47 = 0 ∧ ¬ (-40 ≤ e ∧ e ≤ 40)) := h_47
              refine j_if_eq SS (tgt := 65) (x := z_47) dX11_map_50 (by decide) (by omega) (fun c_50 => ?_) (fun c_50 => ?_)
              · skip
                refine j_iconst SS dX11_map_65 ?_
                refine lv_istore (lv' := [(11, .int (J 0)), (10, .ref (q (8 + 5 * i_9))), (9, .null), (0, .ref (q 0)), (1, .int (J s)), (2, .int (J to)), (3, .int (J a)), (4, .int (J b)), (5, .int (J c)), (6, .int (J d)), (7, .int (J e)), (8, .int (J f))]) SS.1 SS.2.1 dX11_map_66 hl (by decide) rfl (fun ls hl => ?_)
                refine lv_aloadN SS.1 SS.2.1 dX11_map_68 (lv_at hl 2 rfl) ?_
                refine lv_ifnullN SS.1 SS.2.1 (tgt := 83) dX11_map_70 (by decide) ?_
                refine j_iconst SS dX11_map_83 ?_
                exact W.iret SS.1 SS.2.1 hr (fun t0 ht hW => ⟨⟨_, u, rfl, ⟨(-1), rfl, (p0)⟩, by show va_P D.1 j_cl (cW D q u) t0.heap; rw [ht]; first | exact hP | (simp only [sC_id, sX_id, sY_id, sH_id, sT_id, sV_id]; exact hP)⟩, hS.F ht⟩) hS.2.2 dX11_map_84 hlk
              · skip
                refine lv_iload SS.1 SS.2.1 dX11_map_53 (lv_at hl 10 rfl) ?_
                refine j_sRi SS (As := [.int (J f)]) (rest := []) (c_X11_onGrid l D  f (show -2147483648 ≤ f ∧ f ≤ 2147483647 from (p8))) mf_X11_onGrid kw_475 hG trivial rfl hl.1 ⟨⟨Nat.le_of_ble_eq_true rfl, Nat.le_of_ble_eq_true rfl⟩, Nat.le_of_ble_eq_true rfl, Nat.le_refl _, Nat.le_refl _⟩ rfl dX11_map_55 (fun z_55 h_55 => ?_)
                have h_55 : (z_55 = 1 ∧ (-40 ≤ f ∧ f ≤ 40)) ∨ (z_55 = 0 ∧ ¬ (-40 ≤ f ∧ f ≤ 40)) := h_55
                refine j_if_eq SS (tgt := 65) (x := z_55) dX11_map_58 (by decide) (by omega) (fun c_58 => ?_) (fun c_58 => ?_)
                · skip
                  refine j_iconst SS dX11_map_65 ?_
                  refine lv_istore (lv' := [(11, .int (J 0)), (10, .ref (q (8 + 5 * i_9))), (9, .null), (0, .ref (q 0)), (1, .int (J s)), (2, .int (J to)), (3, .int (J a)), (4, .int (J b)), (5, .int (J c)), (6, .int (J d)), (7, .int (J e)), (8, .int (J f))]) SS.1 SS.2.1 dX11_map_66 hl (by decide) rfl (fun ls hl => ?_)
                  refine lv_aloadN SS.1 SS.2.1 dX11_map_68 (lv_at hl 2 rfl) ?_
                  refine lv_ifnullN SS.1 SS.2.1 (tgt := 83) dX11_map_70 (by decide) ?_
                  refine j_iconst SS dX11_map_83 ?_
                  exact W.iret SS.1 SS.2.1 hr (fun t0 ht hW => ⟨⟨_, u, rfl, ⟨(-1), rfl, (p0)⟩, by show va_P D.1 j_cl (cW D q u) t0.heap; rw [ht]; first | exact hP | (simp only [sC_id, sX_id, sY_id, sH_id, sT_id, sV_id]; exact hP)⟩, hS.F ht⟩) hS.2.2 dX11_map_84 hlk
                · skip
                  refine j_iconst SS dX11_map_61 ?_
                  refine lv_goto (tgt := 66) SS.1 SS.2.1 dX11_map_62 (by decide) ?_
                  refine lv_istore (lv' := [(11, .int (J 1)), (10, .ref (q (8 + 5 * i_9))), (9, .null), (0, .ref (q 0)), (1, .int (J s)), (2, .int (J to)), (3, .int (J a)), (4, .int (J b)), (5, .int (J c)), (6, .int (J d)), (7, .int (J e)), (8, .int (J f))]) SS.1 SS.2.1 dX11_map_66 hl (by decide) rfl (fun ls hl => ?_)
                  refine lv_aloadN SS.1 SS.2.1 dX11_map_68 (lv_at hl 2 rfl) ?_
                  refine lv_ifnullN SS.1 SS.2.1 (tgt := 83) dX11_map_70 (by decide) ?_
                  refine j_iconst SS dX11_map_83 ?_
                  exact W.iret SS.1 SS.2.1 hr (fun t0 ht hW => ⟨⟨_, u, rfl, ⟨(-1), rfl, (p0)⟩, by show va_P D.1 j_cl (cW D q u) t0.heap; rw [ht]; first | exact hP | (simp only [sC_id, sX_id, sY_id, sH_id, sT_id, sV_id]; exact hP)⟩, hS.F ht⟩) hS.2.2 dX11_map_84 hlk
    · skip
      refine lv_astoreN (lv' := [(10, .null), (9, .null), (0, .ref (q 0)), (1, .int (J s)), (2, .int (J to)), (3, .int (J a)), (4, .int (J b)), (5, .int (J c)), (6, .int (J d)), (7, .int (J e)), (8, .int (J f))]) SS.1 SS.2.1 dX11_map_12 hl (by decide) rfl (fun ls hl => ?_)
      refine lv_iload_n SS.1 SS.2.1 dX11_map_14 rfl (lv_at hl 5 rfl) ?_
      refine j_sRi SS (As := [.int (J a)]) (rest := []) (c_X11_onGrid l D  a (show -2147483648 ≤ a ∧ a ≤ 2147483647 from (p3))) mf_X11_onGrid kw_475 hG trivial rfl hl.1 ⟨⟨Nat.le_of_ble_eq_true rfl, Nat.le_of_ble_eq_true rfl⟩, Nat.le_of_ble_eq_true rfl, Nat.le_refl _, Nat.le_refl _⟩ rfl dX11_map_15 (fun z_15 h_15 => ?_)
      have h_15 : (z_15 = 1 ∧ (-40 ≤ a ∧ a ≤ 40)) ∨ (z_15 = 0 ∧ ¬ (-40 ≤ a ∧ a ≤ 40)) := h_15
      refine j_if_eq SS (tgt := 65) (x := z_15) dX11_map_18 (by decide) (by omega) (fun c_18 => ?_) (fun c_18 => ?_)
      · skip
        refine j_iconst SS dX11_map_65 ?_
        refine lv_istore (lv' := [(11, .int (J 0)), (10, .null), (9, .null), (0, .ref (q 0)), (1, .int (J s)), (2, .int (J to)), (3, .int (J a)), (4, .int (J b)), (5, .int (J c)), (6, .int (J d)), (7, .int (J e)), (8, .int (J f))]) SS.1 SS.2.1 dX11_map_66 hl (by decide) rfl (fun ls hl => ?_)
        refine lv_aloadN SS.1 SS.2.1 dX11_map_68 (lv_at hl 2 rfl) ?_
        refine lv_ifnullN SS.1 SS.2.1 (tgt := 83) dX11_map_70 (by decide) ?_
        refine j_iconst SS dX11_map_83 ?_
        exact W.iret SS.1 SS.2.1 hr (fun t0 ht hW => ⟨⟨_, u, rfl, ⟨(-1), rfl, (p0)⟩, by show va_P D.1 j_cl (cW D q u) t0.heap; rw [ht]; first | exact hP | (simp only [sC_id, sX_id, sY_id, sH_id, sT_id, sV_id]; exact hP)⟩, hS.F ht⟩) hS.2.2 dX11_map_84 hlk
      · skip
        refine lv_iload SS.1 SS.2.1 dX11_map_21 (lv_at hl 6 rfl) ?_
        refine j_sRi SS (As := [.int (J b)]) (rest := []) (c_X11_onGrid l D  b (show -2147483648 ≤ b ∧ b ≤ 2147483647 from (p4))) mf_X11_onGrid kw_475 hG trivial rfl hl.1 ⟨⟨Nat.le_of_ble_eq_true rfl, Nat.le_of_ble_eq_true rfl⟩, Nat.le_of_ble_eq_true rfl, Nat.le_refl _, Nat.le_refl _⟩ rfl dX11_map_23 (fun z_23 h_23 => ?_)
        have h_23 : (z_23 = 1 ∧ (-40 ≤ b ∧ b ≤ 40)) ∨ (z_23 = 0 ∧ ¬ (-40 ≤ b ∧ b ≤ 40)) := h_23
        refine j_if_eq SS (tgt := 65) (x := z_23) dX11_map_26 (by decide) (by omega) (fun c_26 => ?_) (fun c_26 => ?_)
        · skip
          refine j_iconst SS dX11_map_65 ?_
          refine lv_istore (lv' := [(11, .int (J 0)), (10, .null), (9, .null), (0, .ref (q 0)), (1, .int (J s)), (2, .int (J to)), (3, .int (J a)), (4, .int (J b)), (5, .int (J c)), (6, .int (J d)), (7, .int (J e)), (8, .int (J f))]) SS.1 SS.2.1 dX11_map_66 hl (by decide) rfl (fun ls hl => ?_)
          refine lv_aloadN SS.1 SS.2.1 dX11_map_68 (lv_at hl 2 rfl) ?_
          refine lv_ifnullN SS.1 SS.2.1 (tgt := 83) dX11_map_70 (by decide) ?_
          refine j_iconst SS dX11_map_83 ?_
          exact W.iret SS.1 SS.2.1 hr (fun t0 ht hW => ⟨⟨_, u, rfl, ⟨(-1), rfl, (p0)⟩, by show va_P D.1 j_cl (cW D q u) t0.heap; rw [ht]; first | exact hP | (simp only [sC_id, sX_id, sY_id, sH_id, sT_id, sV_id]; exact hP)⟩, hS.F ht⟩) hS.2.2 dX11_map_84 hlk
        · skip
          refine lv_iload SS.1 SS.2.1 dX11_map_29 (lv_at hl 7 rfl) ?_
          refine j_sRi SS (As := [.int (J c)]) (rest := []) (c_X11_onGrid l D  c (show -2147483648 ≤ c ∧ c ≤ 2147483647 from (p5))) mf_X11_onGrid kw_475 hG trivial rfl hl.1 ⟨⟨Nat.le_of_ble_eq_true rfl, Nat.le_of_ble_eq_true rfl⟩, Nat.le_of_ble_eq_true rfl, Nat.le_refl _, Nat.le_refl _⟩ rfl dX11_map_31 (fun z_31 h_31 => ?_)
          have h_31 : (z_31 = 1 ∧ (-40 ≤ c ∧ c ≤ 40)) ∨ (z_31 = 0 ∧ ¬ (-40 ≤ c ∧ c ≤ 40)) := h_31
          refine j_if_eq SS (tgt := 65) (x := z_31) dX11_map_34 (by decide) (by omega) (fun c_34 => ?_) (fun c_34 => ?_)
          · skip
            refine j_iconst SS dX11_map_65 ?_
            refine lv_istore (lv' := [(11, .int (J 0)), (10, .null), (9, .null), (0, .ref (q 0)), (1, .int (J s)), (2, .int (J to)), (3, .int (J a)), (4, .int (J b)), (5, .int (J c)), (6, .int (J d)), (7, .int (J e)), (8, .int (J f))]) SS.1 SS.2.1 dX11_map_66 hl (by decide) rfl (fun ls hl => ?_)
            refine lv_aloadN SS.1 SS.2.1 dX11_map_68 (lv_at hl 2 rfl) ?_
            refine lv_ifnullN SS.1 SS.2.1 (tgt := 83) dX11_map_70 (by decide) ?_
            refine j_iconst SS dX11_map_83 ?_
            exact W.iret SS.1 SS.2.1 hr (fun t0 ht hW => ⟨⟨_, u, rfl, ⟨(-1), rfl, (p0)⟩, by show va_P D.1 j_cl (cW D q u) t0.heap; rw [ht]; first | exact hP | (simp only [sC_id, sX_id, sY_id, sH_id, sT_id, sV_id]; exact hP)⟩, hS.F ht⟩) hS.2.2 dX11_map_84 hlk
          · skip
            refine lv_iload SS.1 SS.2.1 dX11_map_37 (lv_at hl 8 rfl) ?_
            refine j_sRi SS (As := [.int (J d)]) (rest := []) (c_X11_onGrid l D  d (show -2147483648 ≤ d ∧ d ≤ 2147483647 from (p6))) mf_X11_onGrid kw_475 hG trivial rfl hl.1 ⟨⟨Nat.le_of_ble_eq_true rfl, Nat.le_of_ble_eq_true rfl⟩, Nat.le_of_ble_eq_true rfl, Nat.le_refl _, Nat.le_refl _⟩ rfl dX11_map_39 (fun z_39 h_39 => ?_)
            have h_39 : (z_39 = 1 ∧ (-40 ≤ d ∧ d ≤ 40)) ∨ (z_39 = 0 ∧ ¬ (-40 ≤ d ∧ d ≤ 40)) := h_39
            refine j_if_eq SS (tgt := 65) (x := z_39) dX11_map_42 (by decide) (by omega) (fun c_42 => ?_) (fun c_42 => ?_)
            · skip
              refine j_iconst SS dX11_map_65 ?_
              refine lv_istore (lv' := [(11, .int (J 0)), (10, .null), (9, .null), (0, .ref (q 0)), (1, .int (J s)), (2, .int (J to)), (3, .int (J a)), (4, .int (J b)), (5, .int (J c)), (6, .int (J d)), (7, .int (J e)), (8, .int (J f))]) SS.1 SS.2.1 dX11_map_66 hl (by decide) rfl (fun ls hl => ?_)
              refine lv_aloadN SS.1 SS.2.1 dX11_map_68 (lv_at hl 2 rfl) ?_
              refine lv_ifnullN SS.1 SS.2.1 (tgt := 83) dX11_map_70 (by decide) ?_
              refine j_iconst SS dX11_map_83 ?_
              exact W.iret SS.1 SS.2.1 hr (fun t0 ht hW => ⟨⟨_, u, rfl, ⟨(-1), rfl, (p0)⟩, by show va_P D.1 j_cl (cW D q u) t0.heap; rw [ht]; first | exact hP | (simp only [sC_id, sX_id, sY_id, sH_id, sT_id, sV_id]; exact hP)⟩, hS.F ht⟩) hS.2.2 dX11_map_84 hlk
            · skip
              refine lv_iload SS.1 SS.2.1 dX11_map_45 (lv_at hl 9 rfl) ?_
              refine j_sRi SS (As := [.int (J e)]) (rest := []) (c_X11_onGrid l D  e (show -2147483648 ≤ e ∧ e ≤ 2147483647 from (p7))) mf_X11_onGrid kw_475 hG trivial rfl hl.1 ⟨⟨Nat.le_of_ble_eq_true rfl, Nat.le_of_ble_eq_true rfl⟩, Nat.le_of_ble_eq_true rfl, Nat.le_refl _, Nat.le_refl _⟩ rfl dX11_map_47 (fun z_47 h_47 => ?_)
              have h_47 : (z_47 = 1 ∧ (-40 ≤ e ∧ e ≤ 40)) ∨ (z_47 = 0 ∧ ¬ (-40 ≤ e ∧ e ≤ 40)) := h_47
              refine j_if_eq SS (tgt := 65) (x := z_47) dX11_map_50 (by decide) (by omega) (fun c_50 => ?_) (fun c_50 => ?_)
              · skip
                refine j_iconst SS dX11_map_65 ?_
                refine lv_istore (lv' := [(11, .int (J 0)), (10, .null), (9, .null), (0, .ref (q 0)), (1, .int (J s)), (2, .int (J to)), (3, .int (J a)), (4, .int (J b)), (5, .int (J c)), (6, .int (J d)), (7, .int (J e)), (8, .int (J f))]) SS.1 SS.2.1 dX11_map_66 hl (by decide) rfl (fun ls hl => ?_)
                refine lv_aloadN SS.1 SS.2.1 dX11_map_68 (lv_at hl 2 rfl) ?_
                refine lv_ifnullN SS.1 SS.2.1 (tgt := 83) dX11_map_70 (by decide) ?_
                refine j_iconst SS dX11_map_83 ?_
                exact W.iret SS.1 SS.2.1 hr (fun t0 ht hW => ⟨⟨_, u, rfl, ⟨(-1), rfl, (p0)⟩, by show va_P D.1 j_cl (cW D q u) t0.heap; rw [ht]; first | exact hP | (simp only [sC_id, sX_id, sY_id, sH_id, sT_id, sV_id]; exact hP)⟩, hS.F ht⟩) hS.2.2 dX11_map_84 hlk
              · skip
                refine lv_iload SS.1 SS.2.1 dX11_map_53 (lv_at hl 10 rfl) ?_
                refine j_sRi SS (As := [.int (J f)]) (rest := []) (c_X11_onGrid l D  f (show -2147483648 ≤ f ∧ f ≤ 2147483647 from (p8))) mf_X11_onGrid kw_475 hG trivial rfl hl.1 ⟨⟨Nat.le_of_ble_eq_true rfl, Nat.le_of_ble_eq_true rfl⟩, Nat.le_of_ble_eq_true rfl, Nat.le_refl _, Nat.le_refl _⟩ rfl dX11_map_55 (fun z_55 h_55 => ?_)
                have h_55 : (z_55 = 1 ∧ (-40 ≤ f ∧ f ≤ 40)) ∨ (z_55 = 0 ∧ ¬ (-40 ≤ f ∧ f ≤ 40)) := h_55
                refine j_if_eq SS (tgt := 65) (x := z_55) dX11_map_58 (by decide) (by omega) (fun c_58 => ?_) (fun c_58 => ?_)
                · skip
                  refine j_iconst SS dX11_map_65 ?_
                  refine lv_istore (lv' := [(11, .int (J 0)), (10, .null), (9, .null), (0, .ref (q 0)), (1, .int (J s)), (2, .int (J to)), (3, .int (J a)), (4, .int (J b)), (5, .int (J c)), (6, .int (J d)), (7, .int (J e)), (8, .int (J f))]) SS.1 SS.2.1 dX11_map_66 hl (by decide) rfl (fun ls hl => ?_)
                  refine lv_aloadN SS.1 SS.2.1 dX11_map_68 (lv_at hl 2 rfl) ?_
                  refine lv_ifnullN SS.1 SS.2.1 (tgt := 83) dX11_map_70 (by decide) ?_
                  refine j_iconst SS dX11_map_83 ?_
                  exact W.iret SS.1 SS.2.1 hr (fun t0 ht hW => ⟨⟨_, u, rfl, ⟨(-1), rfl, (p0)⟩, by show va_P D.1 j_cl (cW D q u) t0.heap; rw [ht]; first | exact hP | (simp only [sC_id, sX_id, sY_id, sH_id, sT_id, sV_id]; exact hP)⟩, hS.F ht⟩) hS.2.2 dX11_map_84 hlk
                · skip
                  refine j_iconst SS dX11_map_61 ?_
                  refine lv_goto (tgt := 66) SS.1 SS.2.1 dX11_map_62 (by decide) ?_
                  refine lv_istore (lv' := [(11, .int (J 1)), (10, .null), (9, .null), (0, .ref (q 0)), (1, .int (J s)), (2, .int (J to)), (3, .int (J a)), (4, .int (J b)), (5, .int (J c)), (6, .int (J d)), (7, .int (J e)), (8, .int (J f))]) SS.1 SS.2.1 dX11_map_66 hl (by decide) rfl (fun ls hl => ?_)
                  refine lv_aloadN SS.1 SS.2.1 dX11_map_68 (lv_at hl 2 rfl) ?_
                  refine lv_ifnullN SS.1 SS.2.1 (tgt := 83) dX11_map_70 (by decide) ?_
                  refine j_iconst SS dX11_map_83 ?_
                  exact W.iret SS.1 SS.2.1 hr (fun t0 ht hW => ⟨⟨_, u, rfl, ⟨(-1), rfl, (p0)⟩, by show va_P D.1 j_cl (cW D q u) t0.heap; rw [ht]; first | exact hP | (simp only [sC_id, sX_id, sY_id, sH_id, sT_id, sV_id]; exact hP)⟩, hS.F ht⟩) hS.2.2 dX11_map_84 hlk

set_option maxHeartbeats 4000000 in
set_option maxRecDepth 100000 in
theorem c_X11_mixed (l : Launch) (D : JD) (q : Nat → Nat) (u : CS) (A : Nat → Prop) (hD : va_D A (cW D q u)) (s : Int) (s2 : Int) (p0 : CI u) (p1 : -2147483648 ≤ s ∧ s ≤ 2147483647) (p2 : -2147483648 ≤ s2 ∧ s2 ≤ 2147483647) : Met l yX11_mixed (jw yX11_mixed cX11_mixed 5 (some .int)) (jr 5 115) (jP [.ref (q 0), .int (J s), .int (J s2)] D (fun H => va_P D.1 j_cl (cW D q u) H)) (jWi (fun z u' => CI u') (fun u' H => va_P D.1 j_cl (cW D q u') H) A) 0 0 A := by
  refine Met.ofW (cc := cX11_mixed) (maxL := 5) (ret := (some .int)) (by decide) rfl ?_
  intro pr en st mi args below meth co s₁ B hml hv
  obtain ⟨rfl, hG, hP⟩ := hv
  have hr := B.returns
  have hlk := B.notSynchronized
  have SS : jS pr mi co cX11_mixed 5 st _ RX11 := ⟨B.exec, B.bytes, hml, findClass_of_methodNamed B.named, fun w hw => atoms_spec (ws := (jw yX11_mixed cX11_mixed 5 (some .int))) B.pre w (List.mem_cons_of_mem _ hw)⟩
  have hl := lv_entry ([.ref (q 0), .int (J s), .int (J s2)]) (n := 5) (Nat.le_of_ble_eq_true rfl)
  rw [lg_entry_eq]
  generalize (lg_sl ([.ref (q 0), .int (J s), .int (J s2)]) ++ List.replicate (5 - (lg_sl ([.ref (q 0), .int (J s), .int (J s2)])).length) Slot.unset).toArray = ls at hl ⊢
  have hl : lv_has ls 5 [(0, .ref (q 0)), (1, .int (J s)), (2, .int (J s2))] := hl
  have hS : va_S A st.heap st.heap [] := va_S.rf
  refine lv_aload_n SS.1 SS.2.1 dX11_mixed_0 rfl (lv_at hl 0 rfl) ?_
  refine lv_iload_n SS.1 SS.2.1 dX11_mixed_1 rfl (lv_at hl 1 rfl) ?_
  refine j_vSh SS (As := [.int (J s)]) (rest := []) (c_X11_shapeAt l D q u  s (show -2147483648 ≤ s ∧ s ≤ 2147483647 from (p1))) mf_X11_shapeAt kw_414 hG hP hP (ci := 11) (q0 := 0) rfl rfl rfl rfl hl.1 ⟨⟨Nat.le_of_ble_eq_true rfl, Nat.le_of_ble_eq_true rfl⟩, Nat.le_of_ble_eq_true rfl, Nat.le_refl _, Nat.le_refl _⟩ rfl dX11_mixed_2 (fun i_2 hi_2 hz_2 => ?_) (fun hn_2 => ?_)
  · skip
    have hI2 := CI_s p0 (show i_2 < 8 by omega)
    have hI2c := hI2.1
    have hrl2 := rl_s (show i_2 < 8 by omega)
    refine lv_astore_n (lv' := [(3, .ref (q (8 + 5 * i_2))), (0, .ref (q 0)), (1, .int (J s)), (2, .int (J s2))]) SS.1 SS.2.1 dX11_mixed_5 rfl hl (by decide) rfl (fun ls hl => ?_)
    refine lv_aload_n SS.1 SS.2.1 dX11_mixed_6 rfl (lv_at hl 1 rfl) ?_
    refine lv_iload_n SS.1 SS.2.1 dX11_mixed_7 rfl (lv_at hl 3 rfl) ?_
    refine j_vSh SS (As := [.int (J s2)]) (rest := []) (c_X11_shapeAt l D q u  s2 (show -2147483648 ≤ s2 ∧ s2 ≤ 2147483647 from (p2))) mf_X11_shapeAt kw_414 hG hP hP (ci := 11) (q0 := 0) rfl rfl rfl rfl hl.1 ⟨⟨Nat.le_of_ble_eq_true rfl, Nat.le_of_ble_eq_true rfl⟩, Nat.le_of_ble_eq_true rfl, Nat.le_refl _, Nat.le_refl _⟩ rfl dX11_mixed_8 (fun i_8 hi_8 hz_8 => ?_) (fun hn_8 => ?_)
    · skip
      have hI8c := (CI_s p0 (show i_8 < 8 by omega)).1
      have hrl8 := rl_s (show i_8 < 8 by omega)
      refine lv_astore (lv' := [(4, .ref (q (8 + 5 * i_8))), (3, .ref (q (8 + 5 * i_2))), (0, .ref (q 0)), (1, .int (J s)), (2, .int (J s2))]) SS.1 SS.2.1 dX11_mixed_11 hl (by decide) rfl (fun ls hl => ?_)
      refine lv_aload_n SS.1 SS.2.1 dX11_mixed_13 rfl (lv_at hl 1 rfl) ?_
      refine lv_ifnull SS.1 SS.2.1 dX11_mixed_14 ?_
      refine lv_aload SS.1 SS.2.1 dX11_mixed_17 (lv_at hl 0 rfl) ?_
      refine lv_ifnonnull SS.1 SS.2.1 (tgt := 24) dX11_mixed_19 (by decide) ?_
      refine lv_aload_n SS.1 SS.2.1 dX11_mixed_24 rfl (lv_at hl 1 rfl) ?_
      refine j_get SS hG hP (8 + 5 * i_2) (v := .ref (q (9 + 5 * i_2))) (C := RX10) (T := TX10) (N := 3) (cw_shape (by omega)) rfl inX10 0 (by decide) (ref := "GridPolygons$Shape") kw_151 rfl rfl dX11_mixed_25 ?_
      refine j_getS SS hG hP (9 + 5 * i_2) (v := .int (J (u.1.2.2.1 i_2))) (C := RX7) (T := TX7) (N := 3) (cw_ring (by omega)) rfl inX7 2 (by decide) (ref := "GridPolygons$Ring") kw_135 kw_132 rfl dX11_mixed_28 ?_
      refine j_if_eq SS (tgt := 45) (x := (u.1.2.2.1 i_2)) dX11_mixed_31 (by decide) (by omega) (fun c_31 => ?_) (fun c_31 => ?_)
      · skip
        refine j_iconst SS dX11_mixed_45 ?_
        exact W.iret SS.1 SS.2.1 hr (fun t0 ht hW => ⟨⟨_, u, rfl, ⟨0, rfl, (p0)⟩, by show va_P D.1 j_cl (cW D q u) t0.heap; rw [ht]; first | exact hP | (simp only [sC_id, sX_id, sY_id, sH_id, sT_id, sV_id]; exact hP)⟩, hS.F ht⟩) hS.2.2 dX11_mixed_46 hlk
      · skip
        refine lv_aload SS.1 SS.2.1 dX11_mixed_34 (lv_at hl 0 rfl) ?_
        refine j_get SS hG hP (8 + 5 * i_8) (v := .ref (q (9 + 5 * i_8))) (C := RX10) (T := TX10) (N := 3) (cw_shape (by omega)) rfl inX10 0 (by decide) (ref := "GridPolygons$Shape") kw_151 rfl rfl dX11_mixed_36 ?_
        refine j_getS SS hG hP (9 + 5 * i_8) (v := .int (J (u.1.2.2.1 i_8))) (C := RX7) (T := TX7) (N := 3) (cw_ring (by omega)) rfl inX7 2 (by decide) (ref := "GridPolygons$Ring") kw_135 kw_132 rfl dX11_mixed_39 ?_
        refine j_if_ne SS (tgt := 47) (x := (u.1.2.2.1 i_8)) dX11_mixed_42 (by decide) (by omega) (fun c_42 => ?_) (fun c_42 => ?_)
        · skip
          refine lv_aload_n SS.1 SS.2.1 dX11_mixed_47 rfl (lv_at hl 2 rfl) ?_
          refine j_get SS hG hP 0 (v := .ref (q 2)) (C := RX11) (T := TX11) (N := 8) rfl rfl inX11 1 (by decide) (ref := "GridPolygons") kw_386 rfl rfl dX11_mixed_48 ?_
          refine lv_aload_n SS.1 SS.2.1 dX11_mixed_51 rfl (lv_at hl 1 rfl) ?_
          refine j_get SS hG hP (8 + 5 * i_2) (v := .ref (q (9 + 5 * i_2))) (C := RX10) (T := TX10) (N := 3) (cw_shape (by omega)) rfl inX10 0 (by decide) (ref := "GridPolygons$Shape") kw_151 rfl rfl dX11_mixed_52 ?_
          refine lv_aload SS.1 SS.2.1 dX11_mixed_55 (lv_at hl 0 rfl) ?_
          refine j_get SS hG hP (8 + 5 * i_8) (v := .ref (q (9 + 5 * i_8))) (C := RX10) (T := TX10) (N := 3) (cw_shape (by omega)) rfl inX10 0 (by decide) (ref := "GridPolygons$Shape") kw_151 rfl rfl dX11_mixed_57 ?_
          refine j_vWv SS (As := [.ref (q (9 + 5 * i_2)), .ref (q (9 + 5 * i_8))]) (rest := []) (c_X3_closeSum l D q u A (cW_D hD) i_2 (by omega) i_8 (by omega)  (show HU_ ((u.2.1 0)) ((u.2.1 1)) from (p0.2.2.1)) (show RB 80 u i_2 from (CI_s p0 (by omega))) (show RB 80 u i_8 from (CI_s p0 (by omega))) (show RB 80 u 8 from (p0.2.1.1))) mf_X3_closeSum kw_686 hG hP hP (ci := 3) (q0 := 2) rfl rfl rfl hS (fun _ h => h) rfl hl.1 ⟨⟨Nat.le_of_ble_eq_true rfl, Nat.le_of_ble_eq_true rfl⟩, Nat.le_of_ble_eq_true rfl, Nat.le_refl _, Nat.le_refl _⟩ rfl dX11_mixed_60 (fun u60 H locs h_60 hP _ hS => ?_)
          obtain ⟨f_60, g_60, f8_60, g8_60, n8_60, rfl, h_60⟩ := h_60
          have hP : va_P D.1 j_cl (cW D q (sY (sX (sI (sI (sC u 8 n8_60) 0 f_60) 1 g_60) 8 f8_60) 8 g8_60)) H := hP
          have h_60 : HU_ f_60 g_60 ∧ (0 ≤ n8_60 ∧ n8_60 ≤ 323) ∧ RV 80 f8_60 g8_60 := h_60
          have hCI := CI_8 (CI_h p0 h_60.1) h_60.2.1 h_60.2.2
          refine lv_aload_n SS.1 SS.2.1 dX11_mixed_63 rfl (lv_at hl 2 rfl) ?_
          refine j_get SS hG hP 0 (v := .ref (q 2)) (C := RX11) (T := TX11) (N := 8) rfl rfl inX11 1 (by decide) (ref := "GridPolygons") kw_386 rfl rfl dX11_mixed_64 ?_
          refine j_get SS hG hP 2 (v := .ref (q (9 + 5 * 8))) (C := RX3) (T := TX3) (N := 3) rfl rfl inX3 2 (by decide) (ref := "GridPolygons$Hull") kw_180 rfl rfl dX11_mixed_67 ?_
          refine j_vRi SS (As := []) (rest := []) (c_X7_area l D q (sY (sX (sI (sI (sC u 8 n8_60) 0 f_60) 1 g_60) 8 f8_60) 8 g8_60) 8 (by omega) (80 : Int)  (show 0 ≤ (80 : Int) ∧ (80 : Int) ≤ 80 from (by omega)) (show RB (80 : Int) (sY (sX (sI (sI (sC u 8 n8_60) 0 f_60) 1 g_60) 8 f8_60) 8 g8_60) 8 from (hCI.2.1.1))) mf_X7_area kw_517 hG hP hP (ci := 7) (q0 := (9 + 5 * 8)) rfl (cw_ring (by omega)) rfl rfl hl.1 ⟨⟨Nat.le_of_ble_eq_true rfl, Nat.le_of_ble_eq_true rfl⟩, Nat.le_of_ble_eq_true rfl, Nat.le_refl _, Nat.le_refl _⟩ rfl dX11_mixed_70 (fun z_70 h_70 => ?_)
          have h_70 : z_70 = rA (sY (sX (sI (sI (sC u 8 n8_60) 0 f_60) 1 g_60) 8 f8_60) 8 g8_60) 8 ∧ -10000000 ≤ z_70 ∧ z_70 ≤ 10000000 := h_70
          refine lv_aload_n SS.1 SS.2.1 dX11_mixed_73 rfl (lv_at hl 1 rfl) ?_
          refine j_get SS hG hP (8 + 5 * i_2) (v := .ref (q (9 + 5 * i_2))) (C := RX10) (T := TX10) (N := 3) (cw_shape (by omega)) rfl inX10 0 (by decide) (ref := "GridPolygons$Shape") kw_151 rfl rfl dX11_mixed_74 ?_
          refine j_vRi SS (As := []) (rest := [.int (J z_70)]) (c_X7_area l D q (sY (sX (sI (sI (sC u 8 n8_60) 0 f_60) 1 g_60) 8 f8_60) 8 g8_60) i_2 (by omega) (80 : Int)  (show 0 ≤ (80 : Int) ∧ (80 : Int) ≤ 80 from (by omega)) (show RB (80 : Int) (sY (sX (sI (sI (sC u 8 n8_60) 0 f_60) 1 g_60) 8 f8_60) 8 g8_60) i_2 from (by first | exact CI_s p0 (by omega) | exact CI_s hCI (by omega)))) mf_X7_area kw_517 hG hP hP (ci := 7) (q0 := (9 + 5 * i_2)) rfl (cw_ring (by omega)) rfl rfl hl.1 ⟨⟨Nat.le_of_ble_eq_true rfl, Nat.le_of_ble_eq_true rfl⟩, Nat.le_of_ble_eq_true rfl, Nat.le_refl _, Nat.le_refl _⟩ rfl dX11_mixed_77 (fun z_77 h_77 => ?_)
          have h_77 : z_77 = rA (sY (sX (sI (sI (sC u 8 n8_60) 0 f_60) 1 g_60) 8 f8_60) 8 g8_60) i_2 ∧ -10000000 ≤ z_77 ∧ z_77 ≤ 10000000 := h_77
          refine j_isub SS (x := z_70) (y := z_77) dX11_mixed_80 ?_
          refine lv_aload SS.1 SS.2.1 dX11_mixed_81 (lv_at hl 0 rfl) ?_
          refine j_get SS hG hP (8 + 5 * i_8) (v := .ref (q (9 + 5 * i_8))) (C := RX10) (T := TX10) (N := 3) (cw_shape (by omega)) rfl inX10 0 (by decide) (ref := "GridPolygons$Shape") kw_151 rfl rfl dX11_mixed_83 ?_
          refine j_vRi SS (As := []) (rest := [.int (J (z_70 - z_77))]) (c_X7_area l D q (sY (sX (sI (sI (sC u 8 n8_60) 0 f_60) 1 g_60) 8 f8_60) 8 g8_60) i_8 (by omega) (80 : Int)  (show 0 ≤ (80 : Int) ∧ (80 : Int) ≤ 80 from (by omega)) (show RB (80 : Int) (sY (sX (sI (sI (sC u 8 n8_60) 0 f_60) 1 g_60) 8 f8_60) 8 g8_60) i_8 from (by first | exact CI_s p0 (by omega) | exact CI_s hCI (by omega)))) mf_X7_area kw_517 hG hP hP (ci := 7) (q0 := (9 + 5 * i_8)) rfl (cw_ring (by omega)) rfl rfl hl.1 ⟨⟨Nat.le_of_ble_eq_true rfl, Nat.le_of_ble_eq_true rfl⟩, Nat.le_of_ble_eq_true rfl, Nat.le_refl _, Nat.le_refl _⟩ rfl dX11_mixed_86 (fun z_86 h_86 => ?_)
          have h_86 : z_86 = rA (sY (sX (sI (sI (sC u 8 n8_60) 0 f_60) 1 g_60) 8 f8_60) 8 g8_60) i_8 ∧ -10000000 ≤ z_86 ∧ z_86 ≤ 10000000 := h_86
          refine j_isub SS (x := (z_70 - z_77)) (y := z_86) dX11_mixed_89 ?_
          exact W.iret SS.1 SS.2.1 hr (fun t0 ht hW => ⟨⟨_, (sY (sX (sI (sI (sC u 8 n8_60) 0 f_60) 1 g_60) 8 f8_60) 8 g8_60), rfl, ⟨((z_70 - z_77) - z_86), rfl, (hCI)⟩, by show va_P D.1 j_cl (cW D q (sY (sX (sI (sI (sC u 8 n8_60) 0 f_60) 1 g_60) 8 f8_60) 8 g8_60)) t0.heap; rw [ht]; first | exact hP | (simp only [sC_id, sX_id, sY_id, sH_id, sT_id, sV_id]; exact hP)⟩, hS.F ht⟩) hS.2.2 dX11_mixed_90 hlk
        · skip
          refine j_iconst SS dX11_mixed_45 ?_
          exact W.iret SS.1 SS.2.1 hr (fun t0 ht hW => ⟨⟨_, u, rfl, ⟨0, rfl, (p0)⟩, by show va_P D.1 j_cl (cW D q u) t0.heap; rw [ht]; first | exact hP | (simp only [sC_id, sX_id, sY_id, sH_id, sT_id, sV_id]; exact hP)⟩, hS.F ht⟩) hS.2.2 dX11_mixed_46 hlk
    · skip
      refine lv_astoreN (lv' := [(4, .null), (3, .ref (q (8 + 5 * i_2))), (0, .ref (q 0)), (1, .int (J s)), (2, .int (J s2))]) SS.1 SS.2.1 dX11_mixed_11 hl (by decide) rfl (fun ls hl => ?_)
      refine lv_aload_n SS.1 SS.2.1 dX11_mixed_13 rfl (lv_at hl 1 rfl) ?_
      refine lv_ifnull SS.1 SS.2.1 dX11_mixed_14 ?_
      refine lv_aloadN SS.1 SS.2.1 dX11_mixed_17 (lv_at hl 0 rfl) ?_
      refine lv_ifnonnullN SS.1 SS.2.1 dX11_mixed_19 ?_
      refine j_iconst SS dX11_mixed_22 ?_
      exact W.iret SS.1 SS.2.1 hr (fun t0 ht hW => ⟨⟨_, u, rfl, ⟨(-1), rfl, (p0)⟩, by show va_P D.1 j_cl (cW D q u) t0.heap; rw [ht]; first | exact hP | (simp only [sC_id, sX_id, sY_id, sH_id, sT_id, sV_id]; exact hP)⟩, hS.F ht⟩) hS.2.2 dX11_mixed_23 hlk
  · skip
    refine lv_astore_nN (lv' := [(3, .null), (0, .ref (q 0)), (1, .int (J s)), (2, .int (J s2))]) SS.1 SS.2.1 dX11_mixed_5 rfl hl (by decide) rfl (fun ls hl => ?_)
    refine lv_aload_n SS.1 SS.2.1 dX11_mixed_6 rfl (lv_at hl 1 rfl) ?_
    refine lv_iload_n SS.1 SS.2.1 dX11_mixed_7 rfl (lv_at hl 3 rfl) ?_
    refine j_vSh SS (As := [.int (J s2)]) (rest := []) (c_X11_shapeAt l D q u  s2 (show -2147483648 ≤ s2 ∧ s2 ≤ 2147483647 from (p2))) mf_X11_shapeAt kw_414 hG hP hP (ci := 11) (q0 := 0) rfl rfl rfl rfl hl.1 ⟨⟨Nat.le_of_ble_eq_true rfl, Nat.le_of_ble_eq_true rfl⟩, Nat.le_of_ble_eq_true rfl, Nat.le_refl _, Nat.le_refl _⟩ rfl dX11_mixed_8 (fun i_8 hi_8 hz_8 => ?_) (fun hn_8 => ?_)
    · skip
      have hI8c := (CI_s p0 (show i_8 < 8 by omega)).1
      have hrl8 := rl_s (show i_8 < 8 by omega)
      refine lv_astore (lv' := [(4, .ref (q (8 + 5 * i_8))), (3, .null), (0, .ref (q 0)), (1, .int (J s)), (2, .int (J s2))]) SS.1 SS.2.1 dX11_mixed_11 hl (by decide) rfl (fun ls hl => ?_)
      refine lv_aload_nN SS.1 SS.2.1 dX11_mixed_13 rfl (lv_at hl 1 rfl) ?_
      refine lv_ifnullN SS.1 SS.2.1 (tgt := 22) dX11_mixed_14 (by decide) ?_
      refine j_iconst SS dX11_mixed_22 ?_
      exact W.iret SS.1 SS.2.1 hr (fun t0 ht hW => ⟨⟨_, u, rfl, ⟨(-1), rfl, (p0)⟩, by show va_P D.1 j_cl (cW D q u) t0.heap; rw [ht]; first | exact hP | (simp only [sC_id, sX_id, sY_id, sH_id, sT_id, sV_id]; exact hP)⟩, hS.F ht⟩) hS.2.2 dX11_mixed_23 hlk
    · skip
      refine lv_astoreN (lv' := [(4, .null), (3, .null), (0, .ref (q 0)), (1, .int (J s)), (2, .int (J s2))]) SS.1 SS.2.1 dX11_mixed_11 hl (by decide) rfl (fun ls hl => ?_)
      refine lv_aload_nN SS.1 SS.2.1 dX11_mixed_13 rfl (lv_at hl 1 rfl) ?_
      refine lv_ifnullN SS.1 SS.2.1 (tgt := 22) dX11_mixed_14 (by decide) ?_
      refine j_iconst SS dX11_mixed_22 ?_
      exact W.iret SS.1 SS.2.1 hr (fun t0 ht hW => ⟨⟨_, u, rfl, ⟨(-1), rfl, (p0)⟩, by show va_P D.1 j_cl (cW D q u) t0.heap; rw [ht]; first | exact hP | (simp only [sC_id, sX_id, sY_id, sH_id, sT_id, sV_id]; exact hP)⟩, hS.F ht⟩) hS.2.2 dX11_mixed_23 hlk

