
theorem td_b {a b K : Int} (h : -K ≤ a ∧ a ≤ K) : -K ≤ a.tdiv b ∧ a.tdiv b ≤ K := by
  have := Int.natAbs_tdiv_le_natAbs a b; omega
theorem tm_c {a n : Int} (hn : 0 < n) : -n < a.tmod n ∧ a.tmod n < n := by
  have h : (a.tmod n).natAbs < n.natAbs := by rw [Int.natAbs_tmod]; exact Nat.mod_lt _ (by omega)
  omega

set_option maxHeartbeats 4000000 in
set_option maxRecDepth 100000 in
theorem c_X12_normalX (l : Launch) (D : JD) (o : Nat) (q : Nat → Nat) (u : MS) (s : Int) (i : Int) (p0 : 0 ≤ s ∧ s ≤ 7) (p1 : Sh u s) (p2 : 0 ≤ i ∧ i < mN u s) (p3 : 2 ≤ mN u s) : Met l yX12_normalX (jw yX12_normalX cX12_normalX 3 (some .int)) (jr 3 66) (jP [.ref o, .int (J s), .int (J i)] D (fun H => va_P D.1 j_cl (mW D o q u) H)) (jRi (fun z => -80 ≤ z ∧ z ≤ 80)) 0 0 (fun _ => False) := by
  refine Met.ofW (cc := cX12_normalX) (maxL := 3) (ret := (some .int)) (by decide) rfl ?_
  intro pr en st mi args below meth co s₁ B hml hv
  obtain ⟨rfl, hG, hP⟩ := hv
  have hr := B.returns
  have hlk := B.notSynchronized
  have SS : jS pr mi co cX12_normalX 3 st _ RX12 := ⟨B.exec, B.bytes, hml, findClass_of_methodNamed B.named, fun w hw => atoms_spec (ws := (jw yX12_normalX cX12_normalX 3 (some .int))) B.pre w (List.mem_cons_of_mem _ hw)⟩
  have hl := lv_entry ([.ref o, .int (J s), .int (J i)]) (n := 3) (Nat.le_of_ble_eq_true rfl)
  rw [lg_entry_eq]
  generalize (lg_sl ([.ref o, .int (J s), .int (J i)]) ++ List.replicate (3 - (lg_sl ([.ref o, .int (J s), .int (J i)])).length) Slot.unset).toArray = ls at hl ⊢
  have hl : lv_has ls 3 [(0, .ref o), (1, .int (J s)), (2, .int (J i))] := hl
  have hN := p1.1
  have hC := p1.2.2
  have hp := mS_p hC p3 p2.1 p2.2
  refine lv_aload_n SS.1 SS.2.1 dX12_normalX_0 rfl (lv_at hl 0 rfl) ?_
  refine lv_iload_n SS.1 SS.2.1 dX12_normalX_1 rfl (lv_at hl 1 rfl) ?_
  refine lv_iload_n SS.1 SS.2.1 dX12_normalX_2 rfl (lv_at hl 2 rfl) ?_
  refine j_iconst SS dX12_normalX_3 ?_
  refine j_iadd SS (x := i) (y := 1) dX12_normalX_4 ?_
  refine j_vRi SS (As := [.int (J s), .int (J (i + 1))]) (rest := []) (c_X12_y l D o q u s (i + 1) (show 0 ≤ s ∧ s ≤ 7 from (by omega)) (show 0 ≤ (i + 1) ∧ (i + 1) ≤ 1000000 from (by omega)) (show 0 < mN u s ∧ mN u s ≤ 24 from (by first | omega | (have hq := (show Sh u s from p1).1; omega)))) mf_X12_y kw_1181 hG hP hP (ci := 8) (q0 := 0) rfl rfl rfl rfl hl.1 ⟨⟨Nat.le_of_ble_eq_true rfl, Nat.le_of_ble_eq_true rfl⟩, Nat.le_of_ble_eq_true rfl, Nat.le_refl _, Nat.le_refl _⟩ rfl dX12_normalX_5 (fun z_5 h_5 => ?_)
  have h_5 : z_5 = mY u s (i + 1) := h_5
  have hb_5 := (show Sh u s from p1).2.1 (by omega) (i + 1) (by omega)
  refine lv_aload_n SS.1 SS.2.1 dX12_normalX_8 rfl (lv_at hl 0 rfl) ?_
  refine lv_iload_n SS.1 SS.2.1 dX12_normalX_9 rfl (lv_at hl 1 rfl) ?_
  refine lv_iload_n SS.1 SS.2.1 dX12_normalX_10 rfl (lv_at hl 2 rfl) ?_
  refine j_vRi SS (As := [.int (J s), .int (J i)]) (rest := [.int (J z_5)]) (c_X12_y l D o q u s i (show 0 ≤ s ∧ s ≤ 7 from (by omega)) (show 0 ≤ i ∧ i ≤ 1000000 from (by omega)) (show 0 < mN u s ∧ mN u s ≤ 24 from (by first | omega | (have hq := (show Sh u s from p1).1; omega)))) mf_X12_y kw_1181 hG hP hP (ci := 8) (q0 := 0) rfl rfl rfl rfl hl.1 ⟨⟨Nat.le_of_ble_eq_true rfl, Nat.le_of_ble_eq_true rfl⟩, Nat.le_of_ble_eq_true rfl, Nat.le_refl _, Nat.le_refl _⟩ rfl dX12_normalX_11 (fun z_11 h_11 => ?_)
  have h_11 : z_11 = mY u s i := h_11
  have hb_11 := (show Sh u s from p1).2.1 (by omega) i (by omega)
  refine j_isub SS (x := z_5) (y := z_11) dX12_normalX_14 ?_
  refine lv_aload_n SS.1 SS.2.1 dX12_normalX_15 rfl (lv_at hl 0 rfl) ?_
  refine lv_iload_n SS.1 SS.2.1 dX12_normalX_16 rfl (lv_at hl 1 rfl) ?_
  refine lv_iload_n SS.1 SS.2.1 dX12_normalX_17 rfl (lv_at hl 2 rfl) ?_
  refine j_vRi SS (As := [.int (J s), .int (J i)]) (rest := [.int (J (z_5 - z_11))]) (c_X12_stepsOf l D o q u s i (show 0 ≤ s ∧ s ≤ 7 from (by omega)) (show Sh u s from (p1)) (show 0 ≤ i ∧ i ≤ 100 from (by omega)) (show 0 < mN u s from (by first | omega | (have hq := (show Sh u s from p1).1; omega)))) mf_X12_stepsOf kw_1226 hG hP hP (ci := 8) (q0 := 0) rfl rfl rfl rfl hl.1 ⟨⟨Nat.le_of_ble_eq_true rfl, Nat.le_of_ble_eq_true rfl⟩, Nat.le_of_ble_eq_true rfl, Nat.le_refl _, Nat.le_refl _⟩ rfl dX12_normalX_18 (fun z_18 h_18 => ?_)
  have h_18 : z_18 = mS u s i ∧ 0 ≤ z_18 ∧ z_18 ≤ 80 := h_18
  rw [← h_18.1] at hp
  have htd := td_b (b := z_18) (show -80 ≤ z_5 - z_11 ∧ z_5 - z_11 ≤ 80 by omega)
  refine j_idiv SS (x := (z_5 - z_11)) (y := z_18) dX12_normalX_21 (by omega) (by omega) (by omega) ?_
  exact W.iret SS.1 SS.2.1 hr (fun t ht hW => ⟨_, rfl, ⟨(Int.tdiv (z_5 - z_11) z_18), rfl, (htd)⟩, ht⟩) (fun _ h => nomatch h) dX12_normalX_22 hlk

set_option maxHeartbeats 4000000 in
set_option maxRecDepth 100000 in
theorem c_X12_normalY (l : Launch) (D : JD) (o : Nat) (q : Nat → Nat) (u : MS) (s : Int) (i : Int) (p0 : 0 ≤ s ∧ s ≤ 7) (p1 : Sh u s) (p2 : 0 ≤ i ∧ i < mN u s) (p3 : 2 ≤ mN u s) : Met l yX12_normalY (jw yX12_normalY cX12_normalY 3 (some .int)) (jr 3 66) (jP [.ref o, .int (J s), .int (J i)] D (fun H => va_P D.1 j_cl (mW D o q u) H)) (jRi (fun z => -80 ≤ z ∧ z ≤ 80)) 0 0 (fun _ => False) := by
  refine Met.ofW (cc := cX12_normalY) (maxL := 3) (ret := (some .int)) (by decide) rfl ?_
  intro pr en st mi args below meth co s₁ B hml hv
  obtain ⟨rfl, hG, hP⟩ := hv
  have hr := B.returns
  have hlk := B.notSynchronized
  have SS : jS pr mi co cX12_normalY 3 st _ RX12 := ⟨B.exec, B.bytes, hml, findClass_of_methodNamed B.named, fun w hw => atoms_spec (ws := (jw yX12_normalY cX12_normalY 3 (some .int))) B.pre w (List.mem_cons_of_mem _ hw)⟩
  have hl := lv_entry ([.ref o, .int (J s), .int (J i)]) (n := 3) (Nat.le_of_ble_eq_true rfl)
  rw [lg_entry_eq]
  generalize (lg_sl ([.ref o, .int (J s), .int (J i)]) ++ List.replicate (3 - (lg_sl ([.ref o, .int (J s), .int (J i)])).length) Slot.unset).toArray = ls at hl ⊢
  have hl : lv_has ls 3 [(0, .ref o), (1, .int (J s)), (2, .int (J i))] := hl
  have hN := p1.1
  have hC := p1.2.2
  have hp := mS_p hC p3 p2.1 p2.2
  refine lv_aload_n SS.1 SS.2.1 dX12_normalY_0 rfl (lv_at hl 0 rfl) ?_
  refine lv_iload_n SS.1 SS.2.1 dX12_normalY_1 rfl (lv_at hl 1 rfl) ?_
  refine lv_iload_n SS.1 SS.2.1 dX12_normalY_2 rfl (lv_at hl 2 rfl) ?_
  refine j_vRi SS (As := [.int (J s), .int (J i)]) (rest := []) (c_X12_x l D o q u s i (show 0 ≤ s ∧ s ≤ 7 from (by omega)) (show 0 ≤ i ∧ i ≤ 1000000 from (by omega)) (show 0 < mN u s ∧ mN u s ≤ 24 from (by first | omega | (have hq := (show Sh u s from p1).1; omega)))) mf_X12_x kw_1177 hG hP hP (ci := 8) (q0 := 0) rfl rfl rfl rfl hl.1 ⟨⟨Nat.le_of_ble_eq_true rfl, Nat.le_of_ble_eq_true rfl⟩, Nat.le_of_ble_eq_true rfl, Nat.le_refl _, Nat.le_refl _⟩ rfl dX12_normalY_3 (fun z_3 h_3 => ?_)
  have h_3 : z_3 = mX u s i := h_3
  have hb_3 := (show Sh u s from p1).2.1 (by omega) i (by omega)
  refine lv_aload_n SS.1 SS.2.1 dX12_normalY_6 rfl (lv_at hl 0 rfl) ?_
  refine lv_iload_n SS.1 SS.2.1 dX12_normalY_7 rfl (lv_at hl 1 rfl) ?_
  refine lv_iload_n SS.1 SS.2.1 dX12_normalY_8 rfl (lv_at hl 2 rfl) ?_
  refine j_iconst SS dX12_normalY_9 ?_
  refine j_iadd SS (x := i) (y := 1) dX12_normalY_10 ?_
  refine j_vRi SS (As := [.int (J s), .int (J (i + 1))]) (rest := [.int (J z_3)]) (c_X12_x l D o q u s (i + 1) (show 0 ≤ s ∧ s ≤ 7 from (by omega)) (show 0 ≤ (i + 1) ∧ (i + 1) ≤ 1000000 from (by omega)) (show 0 < mN u s ∧ mN u s ≤ 24 from (by first | omega | (have hq := (show Sh u s from p1).1; omega)))) mf_X12_x kw_1177 hG hP hP (ci := 8) (q0 := 0) rfl rfl rfl rfl hl.1 ⟨⟨Nat.le_of_ble_eq_true rfl, Nat.le_of_ble_eq_true rfl⟩, Nat.le_of_ble_eq_true rfl, Nat.le_refl _, Nat.le_refl _⟩ rfl dX12_normalY_11 (fun z_11 h_11 => ?_)
  have h_11 : z_11 = mX u s (i + 1) := h_11
  have hb_11 := (show Sh u s from p1).2.1 (by omega) (i + 1) (by omega)
  refine j_isub SS (x := z_3) (y := z_11) dX12_normalY_14 ?_
  refine lv_aload_n SS.1 SS.2.1 dX12_normalY_15 rfl (lv_at hl 0 rfl) ?_
  refine lv_iload_n SS.1 SS.2.1 dX12_normalY_16 rfl (lv_at hl 1 rfl) ?_
  refine lv_iload_n SS.1 SS.2.1 dX12_normalY_17 rfl (lv_at hl 2 rfl) ?_
  refine j_vRi SS (As := [.int (J s), .int (J i)]) (rest := [.int (J (z_3 - z_11))]) (c_X12_stepsOf l D o q u s i (show 0 ≤ s ∧ s ≤ 7 from (by omega)) (show Sh u s from (p1)) (show 0 ≤ i ∧ i ≤ 100 from (by omega)) (show 0 < mN u s from (by first | omega | (have hq := (show Sh u s from p1).1; omega)))) mf_X12_stepsOf kw_1226 hG hP hP (ci := 8) (q0 := 0) rfl rfl rfl rfl hl.1 ⟨⟨Nat.le_of_ble_eq_true rfl, Nat.le_of_ble_eq_true rfl⟩, Nat.le_of_ble_eq_true rfl, Nat.le_refl _, Nat.le_refl _⟩ rfl dX12_normalY_18 (fun z_18 h_18 => ?_)
  have h_18 : z_18 = mS u s i ∧ 0 ≤ z_18 ∧ z_18 ≤ 80 := h_18
  rw [← h_18.1] at hp
  have htd := td_b (b := z_18) (show -80 ≤ z_3 - z_11 ∧ z_3 - z_11 ≤ 80 by omega)
  refine j_idiv SS (x := (z_3 - z_11)) (y := z_18) dX12_normalY_21 (by omega) (by omega) (by omega) ?_
  exact W.iret SS.1 SS.2.1 hr (fun t ht hW => ⟨_, rfl, ⟨(Int.tdiv (z_3 - z_11) z_18), rfl, (htd)⟩, ht⟩) (fun _ h => nomatch h) dX12_normalY_22 hlk

set_option maxHeartbeats 4000000 in
set_option maxRecDepth 100000 in
theorem c_X12_farOf (l : Launch) (D : JD) (o : Nat) (q : Nat → Nat) (u : MS) (s : Int) (i : Int) (p0 : 0 ≤ s ∧ s ≤ 7) (p1 : Sh u s) (p2 : 0 ≤ i ∧ i < mN u s) (p3 : 2 ≤ mN u s) : Met l yX12_farOf (jw yX12_farOf cX12_farOf 3 (some .int)) (jr 4 88) (jP [.ref o, .int (J s), .int (J i)] D (fun H => va_P D.1 j_cl (mW D o q u) H)) (jRi (fun z => -6400 ≤ z ∧ z ≤ 6400)) 0 0 (fun _ => False) := by
  refine Met.ofW (cc := cX12_farOf) (maxL := 3) (ret := (some .int)) (by decide) rfl ?_
  intro pr en st mi args below meth co s₁ B hml hv
  obtain ⟨rfl, hG, hP⟩ := hv
  have hr := B.returns
  have hlk := B.notSynchronized
  have SS : jS pr mi co cX12_farOf 3 st _ RX12 := ⟨B.exec, B.bytes, hml, findClass_of_methodNamed B.named, fun w hw => atoms_spec (ws := (jw yX12_farOf cX12_farOf 3 (some .int))) B.pre w (List.mem_cons_of_mem _ hw)⟩
  have hl := lv_entry ([.ref o, .int (J s), .int (J i)]) (n := 3) (Nat.le_of_ble_eq_true rfl)
  rw [lg_entry_eq]
  generalize (lg_sl ([.ref o, .int (J s), .int (J i)]) ++ List.replicate (3 - (lg_sl ([.ref o, .int (J s), .int (J i)])).length) Slot.unset).toArray = ls at hl ⊢
  have hl : lv_has ls 3 [(0, .ref o), (1, .int (J s)), (2, .int (J i))] := hl
  have hN := p1.1
  have hC := p1.2.2
  refine lv_aload_n SS.1 SS.2.1 dX12_farOf_0 rfl (lv_at hl 0 rfl) ?_
  refine lv_iload_n SS.1 SS.2.1 dX12_farOf_1 rfl (lv_at hl 1 rfl) ?_
  refine lv_iload_n SS.1 SS.2.1 dX12_farOf_2 rfl (lv_at hl 2 rfl) ?_
  refine j_vRi SS (As := [.int (J s), .int (J i)]) (rest := []) (c_X12_normalX l D o q u s i (show 0 ≤ s ∧ s ≤ 7 from (by omega)) (show Sh u s from (p1)) (show 0 ≤ i ∧ i < mN u s from (by first | omega | (have hq := (show Sh u s from p1).1; omega))) (show 2 ≤ mN u s from (by first | omega | (have hq := (show Sh u s from p1).1; omega)))) mf_X12_normalX kw_1364 hG hP hP (ci := 8) (q0 := 0) rfl rfl rfl rfl hl.1 ⟨⟨Nat.le_of_ble_eq_true rfl, Nat.le_of_ble_eq_true rfl⟩, Nat.le_of_ble_eq_true rfl, Nat.le_refl _, Nat.le_refl _⟩ rfl dX12_farOf_3 (fun z_3 h_3 => ?_)
  have h_3 : -80 ≤ z_3 ∧ z_3 ≤ 80 := h_3
  refine lv_aload_n SS.1 SS.2.1 dX12_farOf_6 rfl (lv_at hl 0 rfl) ?_
  refine lv_iload_n SS.1 SS.2.1 dX12_farOf_7 rfl (lv_at hl 1 rfl) ?_
  refine lv_iload_n SS.1 SS.2.1 dX12_farOf_8 rfl (lv_at hl 2 rfl) ?_
  refine j_vRi SS (As := [.int (J s), .int (J i)]) (rest := [.int (J z_3)]) (c_X12_x l D o q u s i (show 0 ≤ s ∧ s ≤ 7 from (by omega)) (show 0 ≤ i ∧ i ≤ 1000000 from (by omega)) (show 0 < mN u s ∧ mN u s ≤ 24 from (by first | omega | (have hq := (show Sh u s from p1).1; omega)))) mf_X12_x kw_1177 hG hP hP (ci := 8) (q0 := 0) rfl rfl rfl rfl hl.1 ⟨⟨Nat.le_of_ble_eq_true rfl, Nat.le_of_ble_eq_true rfl⟩, Nat.le_of_ble_eq_true rfl, Nat.le_refl _, Nat.le_refl _⟩ rfl dX12_farOf_9 (fun z_9 h_9 => ?_)
  have h_9 : z_9 = mX u s i := h_9
  have hb_9 := (show Sh u s from p1).2.1 (by omega) i (by omega)
  have m1 := mulb (A := 80) (B := 40) (a := z_3) (b := z_9) (by omega) (by omega)
  refine j_imul SS (x := z_3) (y := z_9) dX12_farOf_12 ?_
  refine lv_aload_n SS.1 SS.2.1 dX12_farOf_13 rfl (lv_at hl 0 rfl) ?_
  refine lv_iload_n SS.1 SS.2.1 dX12_farOf_14 rfl (lv_at hl 1 rfl) ?_
  refine lv_iload_n SS.1 SS.2.1 dX12_farOf_15 rfl (lv_at hl 2 rfl) ?_
  refine j_vRi SS (As := [.int (J s), .int (J i)]) (rest := [.int (J (z_3 * z_9))]) (c_X12_normalY l D o q u s i (show 0 ≤ s ∧ s ≤ 7 from (by omega)) (show Sh u s from (p1)) (show 0 ≤ i ∧ i < mN u s from (by first | omega | (have hq := (show Sh u s from p1).1; omega))) (show 2 ≤ mN u s from (by first | omega | (have hq := (show Sh u s from p1).1; omega)))) mf_X12_normalY kw_1368 hG hP hP (ci := 8) (q0 := 0) rfl rfl rfl rfl hl.1 ⟨⟨Nat.le_of_ble_eq_true rfl, Nat.le_of_ble_eq_true rfl⟩, Nat.le_of_ble_eq_true rfl, Nat.le_refl _, Nat.le_refl _⟩ rfl dX12_farOf_16 (fun z_16 h_16 => ?_)
  have h_16 : -80 ≤ z_16 ∧ z_16 ≤ 80 := h_16
  refine lv_aload_n SS.1 SS.2.1 dX12_farOf_19 rfl (lv_at hl 0 rfl) ?_
  refine lv_iload_n SS.1 SS.2.1 dX12_farOf_20 rfl (lv_at hl 1 rfl) ?_
  refine lv_iload_n SS.1 SS.2.1 dX12_farOf_21 rfl (lv_at hl 2 rfl) ?_
  refine j_vRi SS (As := [.int (J s), .int (J i)]) (rest := [.int (J z_16), .int (J (z_3 * z_9))]) (c_X12_y l D o q u s i (show 0 ≤ s ∧ s ≤ 7 from (by omega)) (show 0 ≤ i ∧ i ≤ 1000000 from (by omega)) (show 0 < mN u s ∧ mN u s ≤ 24 from (by first | omega | (have hq := (show Sh u s from p1).1; omega)))) mf_X12_y kw_1181 hG hP hP (ci := 8) (q0 := 0) rfl rfl rfl rfl hl.1 ⟨⟨Nat.le_of_ble_eq_true rfl, Nat.le_of_ble_eq_true rfl⟩, Nat.le_of_ble_eq_true rfl, Nat.le_refl _, Nat.le_refl _⟩ rfl dX12_farOf_22 (fun z_22 h_22 => ?_)
  have h_22 : z_22 = mY u s i := h_22
  have hb_22 := (show Sh u s from p1).2.1 (by omega) i (by omega)
  have m2 := mulb (A := 80) (B := 40) (a := z_16) (b := z_22) (by omega) (by omega)
  refine j_imul SS (x := z_16) (y := z_22) dX12_farOf_25 ?_
  refine j_iadd SS (x := (z_3 * z_9)) (y := (z_16 * z_22)) dX12_farOf_26 ?_
  exact W.iret SS.1 SS.2.1 hr (fun t ht hW => ⟨_, rfl, ⟨((z_3 * z_9) + (z_16 * z_22)), rfl, (by omega)⟩, ht⟩) (fun _ h => nomatch h) dX12_farOf_27 hlk

set_option maxHeartbeats 4000000 in
set_option maxRecDepth 100000 in
theorem c_X12_isRound (l : Launch) (D : JD) (o : Nat) (q : Nat → Nat) (u : MS) (s : Int) (p0 : 0 ≤ s ∧ s ≤ 7) (p1 : Sh u s) : Met l yX12_isRound (jw yX12_isRound cX12_isRound 2 (some .boolean)) (jr 2 51) (jP [.ref o, .int (J s)] D (fun H => va_P D.1 j_cl (mW D o q u) H)) (jRi (fun z => (z = 1 ∧ 2 < mN u s) ∨ z = 0)) 0 0 (fun _ => False) := by
  refine Met.ofW (cc := cX12_isRound) (maxL := 2) (ret := (some .boolean)) (by decide) rfl ?_
  intro pr en st mi args below meth co s₁ B hml hv
  obtain ⟨rfl, hG, hP⟩ := hv
  have hr := B.returns
  have hlk := B.notSynchronized
  have SS : jS pr mi co cX12_isRound 2 st _ RX12 := ⟨B.exec, B.bytes, hml, findClass_of_methodNamed B.named, fun w hw => atoms_spec (ws := (jw yX12_isRound cX12_isRound 2 (some .boolean))) B.pre w (List.mem_cons_of_mem _ hw)⟩
  have hl := lv_entry ([.ref o, .int (J s)]) (n := 2) (Nat.le_of_ble_eq_true rfl)
  rw [lg_entry_eq]
  generalize (lg_sl ([.ref o, .int (J s)]) ++ List.replicate (2 - (lg_sl ([.ref o, .int (J s)])).length) Slot.unset).toArray = ls at hl ⊢
  have hl : lv_has ls 2 [(0, .ref o), (1, .int (J s))] := hl
  have hN := p1.1
  have hC := p1.2.2
  refine lv_aload_n SS.1 SS.2.1 dX12_isRound_0 rfl (lv_at hl 0 rfl) ?_
  refine lv_iload_n SS.1 SS.2.1 dX12_isRound_1 rfl (lv_at hl 1 rfl) ?_
  refine j_vRi SS (As := [.int (J s)]) (rest := []) (c_X12_isPolygon l D o q u s (show 0 ≤ s ∧ s ≤ 7 from (by omega)) (show Sh u s from (p1))) mf_X12_isPolygon kw_1240 hG hP hP (ci := 8) (q0 := 0) rfl rfl rfl rfl hl.1 ⟨⟨Nat.le_of_ble_eq_true rfl, Nat.le_of_ble_eq_true rfl⟩, Nat.le_of_ble_eq_true rfl, Nat.le_refl _, Nat.le_refl _⟩ rfl dX12_isRound_2 (fun z_2 h_2 => ?_)
  have h_2 : (z_2 = 1 ∧ 2 < mN u s) ∨ (z_2 = 0 ∧ mN u s ≤ 2) := h_2
  refine j_if_eq SS (tgt := 23) (x := z_2) dX12_isRound_5 (by decide) (by omega) (fun c_5 => ?_) (fun c_5 => ?_)
  · skip
    refine j_iconst SS dX12_isRound_23 ?_
    exact W.zret SS.1 SS.2.1 hr (j_nz (by decide)) (fun t ht hW => ⟨_, rfl, ⟨0, rfl, (by omega)⟩, ht⟩) (fun _ h => nomatch h) dX12_isRound_24 hlk
  · skip
    refine lv_aload_n SS.1 SS.2.1 dX12_isRound_8 rfl (lv_at hl 0 rfl) ?_
    refine lv_iload_n SS.1 SS.2.1 dX12_isRound_9 rfl (lv_at hl 1 rfl) ?_
    refine j_iconst SS dX12_isRound_10 ?_
    refine j_iconst SS dX12_isRound_11 ?_
    refine j_vRi SS (As := [.int (J s), .int (J 0), .int (J 0)]) (rest := []) (c_X12_whereOf l D o q u s 0 0 (show 0 ≤ s ∧ s ≤ 7 from (by omega)) (show Sh u s from (p1)) (show -100 ≤ (0 : Int) ∧ (0 : Int) ≤ 100 from (by omega)) (show -100 ≤ (0 : Int) ∧ (0 : Int) ≤ 100 from (by omega))) mf_X12_whereOf kw_1255 hG hP hP (ci := 8) (q0 := 0) rfl rfl rfl rfl hl.1 ⟨⟨Nat.le_of_ble_eq_true rfl, Nat.le_of_ble_eq_true rfl⟩, Nat.le_of_ble_eq_true rfl, Nat.le_refl _, Nat.le_refl _⟩ rfl dX12_isRound_12 (fun z_12 h_12 => ?_)
    have h_12 : wR u s (0 : Int) (0 : Int) z_12 := h_12
    have zb := wR_b h_12
    refine j_iconst SS dX12_isRound_15 ?_
    refine j_icmp_ne SS (tgt := 23) (x := z_12) (y := 2) dX12_isRound_16 (by decide) (by omega) (by decide) (fun c_16 => ?_) (fun c_16 => ?_)
    · skip
      refine j_iconst SS dX12_isRound_23 ?_
      exact W.zret SS.1 SS.2.1 hr (j_nz (by decide)) (fun t ht hW => ⟨_, rfl, ⟨0, rfl, (by omega)⟩, ht⟩) (fun _ h => nomatch h) dX12_isRound_24 hlk
    · skip
      refine j_iconst SS dX12_isRound_19 ?_
      refine lv_goto (tgt := 24) SS.1 SS.2.1 dX12_isRound_20 (by decide) ?_
      exact W.zret SS.1 SS.2.1 hr (j_nz (by decide)) (fun t ht hW => ⟨_, rfl, ⟨1, rfl, (by omega)⟩, ht⟩) (fun _ h => nomatch h) dX12_isRound_24 hlk

set_option maxHeartbeats 4000000 in
set_option maxRecDepth 100000 in
theorem c_X12_normal (l : Launch) (D : JD) (o : Nat) (q : Nat → Nat) (u : MS) (s : Int) (i : Int) (what : Int) (p0 : IM u) (p1 : -2147483648 ≤ s ∧ s ≤ 2147483647) (p2 : -2147483648 ≤ i ∧ i ≤ 2147483647) (p3 : -2147483648 ≤ what ∧ what ≤ 2147483647) : Met l yX12_normal (jw yX12_normal cX12_normal 4 (some .int)) (jr 5 110) (jP [.ref o, .int (J s), .int (J i), .int (J what)] D (fun H => va_P D.1 j_cl (mW D o q u) H)) (jRi (fun z => True)) 0 0 (fun _ => False) := by
  refine Met.ofW (cc := cX12_normal) (maxL := 4) (ret := (some .int)) (by decide) rfl ?_
  intro pr en st mi args below meth co s₁ B hml hv
  obtain ⟨rfl, hG, hP⟩ := hv
  have hr := B.returns
  have hlk := B.notSynchronized
  have SS : jS pr mi co cX12_normal 4 st _ RX12 := ⟨B.exec, B.bytes, hml, findClass_of_methodNamed B.named, fun w hw => atoms_spec (ws := (jw yX12_normal cX12_normal 4 (some .int))) B.pre w (List.mem_cons_of_mem _ hw)⟩
  have hl := lv_entry ([.ref o, .int (J s), .int (J i), .int (J what)]) (n := 4) (Nat.le_of_ble_eq_true rfl)
  rw [lg_entry_eq]
  generalize (lg_sl ([.ref o, .int (J s), .int (J i), .int (J what)]) ++ List.replicate (4 - (lg_sl ([.ref o, .int (J s), .int (J i), .int (J what)])).length) Slot.unset).toArray = ls at hl ⊢
  have hl : lv_has ls 4 [(0, .ref o), (1, .int (J s)), (2, .int (J i)), (3, .int (J what))] := hl
  refine lv_iload_n SS.1 SS.2.1 dX12_normal_0 rfl (lv_at hl 1 rfl) ?_
  refine j_sRi SS (As := [.int (J s)]) (rest := []) (c_X12_isShape l D s (show -2147483648 ≤ s ∧ s ≤ 2147483647 from (by omega))) mf_X12_isShape kw_1156 hG trivial rfl hl.1 ⟨⟨Nat.le_of_ble_eq_true rfl, Nat.le_of_ble_eq_true rfl⟩, Nat.le_of_ble_eq_true rfl, Nat.le_refl _, Nat.le_refl _⟩ rfl dX12_normal_1 (fun z_1 h_1 => ?_)
  have h_1 : (z_1 = 1 ∧ (0 ≤ s ∧ s ≤ 7)) ∨ (z_1 = 0 ∧ ¬ (0 ≤ s ∧ s ≤ 7)) := h_1
  refine j_if_eq SS (tgt := 40) (x := z_1) dX12_normal_4 (by decide) (by omega) (fun c_4 => ?_) (fun c_4 => ?_)
  · skip
    refine j_ldc SS (-1000000) kw_1213 dX12_normal_40 ?_
    exact W.iret SS.1 SS.2.1 hr (fun t ht hW => ⟨_, rfl, ⟨(-1000000), rfl, (trivial)⟩, ht⟩) (fun _ h => nomatch h) dX12_normal_42 hlk
  · skip
    refine lv_iload_n SS.1 SS.2.1 dX12_normal_7 rfl (lv_at hl 2 rfl) ?_
    refine j_iconst SS dX12_normal_8 ?_
    refine lv_aload_n SS.1 SS.2.1 dX12_normal_9 rfl (lv_at hl 0 rfl) ?_
    refine j_get SS hG hP 0 (v := .ref (q 0)) (C := RX12) (T := TX12) (N := 31) rfl rfl inX12 0 (by decide) (ref := RX12) kw_1058 rfl rfl dX12_normal_10 ?_
    refine lv_iload_n SS.1 SS.2.1 dX12_normal_13 rfl (lv_at hl 1 rfl) ?_
    refine j_iald SS hG hP 1 (n := 8) (f := (u.1 0)) rfl (z := s) (by omega) (by omega) dX12_normal_14 ?_
    have hN_14 := (show Sh u s from p0.1 _ (by omega) (by omega)).1
    refine j_iconst SS dX12_normal_15 ?_
    refine j_isub SS (x := (mN u s)) (y := 1) dX12_normal_16 ?_
    refine j_sRi SS (As := [.int (J i), .int (J 0), .int (J ((mN u s) - 1))]) (rest := []) (c_X12_in l D i 0 ((mN u s) - 1) (show -2147483648 ≤ i ∧ i ≤ 2147483647 from (by omega)) (show -2147483648 ≤ (0 : Int) ∧ (0 : Int) ≤ 2147483647 from (by omega)) (show -2147483648 ≤ ((mN u s) - 1) ∧ ((mN u s) - 1) ≤ 2147483647 from (by omega))) mf_X12_in kw_1159 hG trivial rfl hl.1 ⟨⟨Nat.le_of_ble_eq_true rfl, Nat.le_of_ble_eq_true rfl⟩, Nat.le_of_ble_eq_true rfl, Nat.le_refl _, Nat.le_refl _⟩ rfl dX12_normal_17 (fun z_17 h_17 => ?_)
    have h_17 : (z_17 = 1 ∧ ((0 : Int) ≤ i ∧ i ≤ ((mN u s) - 1))) ∨ (z_17 = 0 ∧ ¬ ((0 : Int) ≤ i ∧ i ≤ ((mN u s) - 1))) := h_17
    refine j_if_eq SS (tgt := 40) (x := z_17) dX12_normal_20 (by decide) (by omega) (fun c_20 => ?_) (fun c_20 => ?_)
    · skip
      refine j_ldc SS (-1000000) kw_1213 dX12_normal_40 ?_
      exact W.iret SS.1 SS.2.1 hr (fun t ht hW => ⟨_, rfl, ⟨(-1000000), rfl, (trivial)⟩, ht⟩) (fun _ h => nomatch h) dX12_normal_42 hlk
    · skip
      refine lv_iload_n SS.1 SS.2.1 dX12_normal_23 rfl (lv_at hl 3 rfl) ?_
      refine j_iconst SS dX12_normal_24 ?_
      refine j_iconst SS dX12_normal_25 ?_
      refine j_sRi SS (As := [.int (J what), .int (J 0), .int (J 2)]) (rest := []) (c_X12_in l D what 0 2 (show -2147483648 ≤ what ∧ what ≤ 2147483647 from (by omega)) (show -2147483648 ≤ (0 : Int) ∧ (0 : Int) ≤ 2147483647 from (by omega)) (show -2147483648 ≤ (2 : Int) ∧ (2 : Int) ≤ 2147483647 from (by omega))) mf_X12_in kw_1159 hG trivial rfl hl.1 ⟨⟨Nat.le_of_ble_eq_true rfl, Nat.le_of_ble_eq_true rfl⟩, Nat.le_of_ble_eq_true rfl, Nat.le_refl _, Nat.le_refl _⟩ rfl dX12_normal_26 (fun z_26 h_26 => ?_)
      have h_26 : (z_26 = 1 ∧ ((0 : Int) ≤ what ∧ what ≤ (2 : Int))) ∨ (z_26 = 0 ∧ ¬ ((0 : Int) ≤ what ∧ what ≤ (2 : Int))) := h_26
      refine j_if_eq SS (tgt := 40) (x := z_26) dX12_normal_29 (by decide) (by omega) (fun c_29 => ?_) (fun c_29 => ?_)
      · skip
        refine j_ldc SS (-1000000) kw_1213 dX12_normal_40 ?_
        exact W.iret SS.1 SS.2.1 hr (fun t ht hW => ⟨_, rfl, ⟨(-1000000), rfl, (trivial)⟩, ht⟩) (fun _ h => nomatch h) dX12_normal_42 hlk
      · skip
        refine lv_aload_n SS.1 SS.2.1 dX12_normal_32 rfl (lv_at hl 0 rfl) ?_
        refine lv_iload_n SS.1 SS.2.1 dX12_normal_33 rfl (lv_at hl 1 rfl) ?_
        refine j_vRi SS (As := [.int (J s)]) (rest := []) (c_X12_isRound l D o q u s (show 0 ≤ s ∧ s ≤ 7 from (by omega)) (show Sh u s from (p0.1 _ (by omega) (by omega)))) mf_X12_isRound kw_1360 hG hP hP (ci := 8) (q0 := 0) rfl rfl rfl rfl hl.1 ⟨⟨Nat.le_of_ble_eq_true rfl, Nat.le_of_ble_eq_true rfl⟩, Nat.le_of_ble_eq_true rfl, Nat.le_refl _, Nat.le_refl _⟩ rfl dX12_normal_34 (fun z_34 h_34 => ?_)
        have h_34 : (z_34 = 1 ∧ 2 < mN u s) ∨ z_34 = 0 := h_34
        refine j_if_ne SS (tgt := 43) (x := z_34) dX12_normal_37 (by decide) (by omega) (fun c_37 => ?_) (fun c_37 => ?_)
        · skip
          refine lv_iload_n SS.1 SS.2.1 dX12_normal_43 rfl (lv_at hl 3 rfl) ?_
          refine j_if_ne SS (tgt := 56) (x := what) dX12_normal_44 (by decide) (by omega) (fun c_44 => ?_) (fun c_44 => ?_)
          · skip
            refine lv_iload_n SS.1 SS.2.1 dX12_normal_56 rfl (lv_at hl 3 rfl) ?_
            refine j_iconst SS dX12_normal_57 ?_
            refine j_icmp_ne SS (tgt := 70) (x := what) (y := 1) dX12_normal_58 (by decide) (by omega) (by decide) (fun c_58 => ?_) (fun c_58 => ?_)
            · skip
              refine lv_aload_n SS.1 SS.2.1 dX12_normal_70 rfl (lv_at hl 0 rfl) ?_
              refine lv_iload_n SS.1 SS.2.1 dX12_normal_71 rfl (lv_at hl 1 rfl) ?_
              refine lv_iload_n SS.1 SS.2.1 dX12_normal_72 rfl (lv_at hl 2 rfl) ?_
              refine j_vRi SS (As := [.int (J s), .int (J i)]) (rest := []) (c_X12_farOf l D o q u s i (show 0 ≤ s ∧ s ≤ 7 from (by omega)) (show Sh u s from (p0.1 _ (by omega) (by omega))) (show 0 ≤ i ∧ i < mN u s from (by first | omega | (have hq := (show Sh u s from p0.1 _ (by omega) (by omega)).1; omega))) (show 2 ≤ mN u s from (by first | omega | (have hq := (show Sh u s from p0.1 _ (by omega) (by omega)).1; omega)))) mf_X12_farOf kw_1372 hG hP hP (ci := 8) (q0 := 0) rfl rfl rfl rfl hl.1 ⟨⟨Nat.le_of_ble_eq_true rfl, Nat.le_of_ble_eq_true rfl⟩, Nat.le_of_ble_eq_true rfl, Nat.le_refl _, Nat.le_refl _⟩ rfl dX12_normal_73 (fun z_73 h_73 => ?_)
              have h_73 : -6400 ≤ z_73 ∧ z_73 ≤ 6400 := h_73
              exact W.iret SS.1 SS.2.1 hr (fun t ht hW => ⟨_, rfl, ⟨z_73, rfl, (trivial)⟩, ht⟩) (fun _ h => nomatch h) dX12_normal_76 hlk
            · skip
              refine lv_aload_n SS.1 SS.2.1 dX12_normal_61 rfl (lv_at hl 0 rfl) ?_
              refine lv_iload_n SS.1 SS.2.1 dX12_normal_62 rfl (lv_at hl 1 rfl) ?_
              refine lv_iload_n SS.1 SS.2.1 dX12_normal_63 rfl (lv_at hl 2 rfl) ?_
              refine j_vRi SS (As := [.int (J s), .int (J i)]) (rest := []) (c_X12_normalY l D o q u s i (show 0 ≤ s ∧ s ≤ 7 from (by omega)) (show Sh u s from (p0.1 _ (by omega) (by omega))) (show 0 ≤ i ∧ i < mN u s from (by first | omega | (have hq := (show Sh u s from p0.1 _ (by omega) (by omega)).1; omega))) (show 2 ≤ mN u s from (by first | omega | (have hq := (show Sh u s from p0.1 _ (by omega) (by omega)).1; omega)))) mf_X12_normalY kw_1368 hG hP hP (ci := 8) (q0 := 0) rfl rfl rfl rfl hl.1 ⟨⟨Nat.le_of_ble_eq_true rfl, Nat.le_of_ble_eq_true rfl⟩, Nat.le_of_ble_eq_true rfl, Nat.le_refl _, Nat.le_refl _⟩ rfl dX12_normal_64 (fun z_64 h_64 => ?_)
              have h_64 : -80 ≤ z_64 ∧ z_64 ≤ 80 := h_64
              refine lv_goto (tgt := 76) SS.1 SS.2.1 dX12_normal_67 (by decide) ?_
              exact W.iret SS.1 SS.2.1 hr (fun t ht hW => ⟨_, rfl, ⟨z_64, rfl, (trivial)⟩, ht⟩) (fun _ h => nomatch h) dX12_normal_76 hlk
          · skip
            refine lv_aload_n SS.1 SS.2.1 dX12_normal_47 rfl (lv_at hl 0 rfl) ?_
            refine lv_iload_n SS.1 SS.2.1 dX12_normal_48 rfl (lv_at hl 1 rfl) ?_
            refine lv_iload_n SS.1 SS.2.1 dX12_normal_49 rfl (lv_at hl 2 rfl) ?_
            refine j_vRi SS (As := [.int (J s), .int (J i)]) (rest := []) (c_X12_normalX l D o q u s i (show 0 ≤ s ∧ s ≤ 7 from (by omega)) (show Sh u s from (p0.1 _ (by omega) (by omega))) (show 0 ≤ i ∧ i < mN u s from (by first | omega | (have hq := (show Sh u s from p0.1 _ (by omega) (by omega)).1; omega))) (show 2 ≤ mN u s from (by first | omega | (have hq := (show Sh u s from p0.1 _ (by omega) (by omega)).1; omega)))) mf_X12_normalX kw_1364 hG hP hP (ci := 8) (q0 := 0) rfl rfl rfl rfl hl.1 ⟨⟨Nat.le_of_ble_eq_true rfl, Nat.le_of_ble_eq_true rfl⟩, Nat.le_of_ble_eq_true rfl, Nat.le_refl _, Nat.le_refl _⟩ rfl dX12_normal_50 (fun z_50 h_50 => ?_)
            have h_50 : -80 ≤ z_50 ∧ z_50 ≤ 80 := h_50
            refine lv_goto (tgt := 76) SS.1 SS.2.1 dX12_normal_53 (by decide) ?_
            exact W.iret SS.1 SS.2.1 hr (fun t ht hW => ⟨_, rfl, ⟨z_50, rfl, (trivial)⟩, ht⟩) (fun _ h => nomatch h) dX12_normal_76 hlk
        · skip
          refine j_ldc SS (-1000000) kw_1213 dX12_normal_40 ?_
          exact W.iret SS.1 SS.2.1 hr (fun t ht hW => ⟨_, rfl, ⟨(-1000000), rfl, (trivial)⟩, ht⟩) (fun _ h => nomatch h) dX12_normal_42 hlk

set_option maxHeartbeats 4000000 in
set_option maxRecDepth 100000 in
theorem c_X12_isReflexive (l : Launch) (D : JD) (o : Nat) (q : Nat → Nat) (u : MS) (s : Int) (p0 : 0 ≤ s ∧ s ≤ 7) (p1 : Sh u s) : Met l yX12_isReflexive (jw yX12_isReflexive cX12_isReflexive 4 (some .boolean)) (jr 5 110) (jP [.ref o, .int (J s)] D (fun H => va_P D.1 j_cl (mW D o q u) H)) (jRi (fun z => (z = 1 ∧ 2 < mN u s) ∨ z = 0)) 0 0 (fun _ => False) := by
  refine Met.ofW (cc := cX12_isReflexive) (maxL := 4) (ret := (some .boolean)) (by decide) rfl ?_
  intro pr en st mi args below meth co s₁ B hml hv
  obtain ⟨rfl, hG, hP⟩ := hv
  have hr := B.returns
  have hlk := B.notSynchronized
  have SS : jS pr mi co cX12_isReflexive 4 st _ RX12 := ⟨B.exec, B.bytes, hml, findClass_of_methodNamed B.named, fun w hw => atoms_spec (ws := (jw yX12_isReflexive cX12_isReflexive 4 (some .boolean))) B.pre w (List.mem_cons_of_mem _ hw)⟩
  have hl := lv_entry ([.ref o, .int (J s)]) (n := 4) (Nat.le_of_ble_eq_true rfl)
  rw [lg_entry_eq]
  generalize (lg_sl ([.ref o, .int (J s)]) ++ List.replicate (4 - (lg_sl ([.ref o, .int (J s)])).length) Slot.unset).toArray = ls at hl ⊢
  have hl : lv_has ls 4 [(0, .ref o), (1, .int (J s))] := hl
  have hN := p1.1
  have hC := p1.2.2
  refine lv_aload_n SS.1 SS.2.1 dX12_isReflexive_0 rfl (lv_at hl 0 rfl) ?_
  refine lv_iload_n SS.1 SS.2.1 dX12_isReflexive_1 rfl (lv_at hl 1 rfl) ?_
  refine j_vRi SS (As := [.int (J s)]) (rest := []) (c_X12_isRound l D o q u s (show 0 ≤ s ∧ s ≤ 7 from (by omega)) (show Sh u s from (p1))) mf_X12_isRound kw_1360 hG hP hP (ci := 8) (q0 := 0) rfl rfl rfl rfl hl.1 ⟨⟨Nat.le_of_ble_eq_true rfl, Nat.le_of_ble_eq_true rfl⟩, Nat.le_of_ble_eq_true rfl, Nat.le_refl _, Nat.le_refl _⟩ rfl dX12_isReflexive_2 (fun z_2 h_2 => ?_)
  have h_2 : (z_2 = 1 ∧ 2 < mN u s) ∨ z_2 = 0 := h_2
  refine lv_istore_n (lv' := [(2, .int (J z_2)), (0, .ref o), (1, .int (J s))]) SS.1 SS.2.1 dX12_isReflexive_5 rfl hl (by decide) rfl (fun ls hl => ?_)
  refine j_iconst SS dX12_isReflexive_6 ?_
  refine lv_istore_n (lv' := [(3, .int (J 0)), (2, .int (J z_2)), (0, .ref o), (1, .int (J s))]) SS.1 SS.2.1 dX12_isReflexive_7 rfl hl (by decide) rfl (fun ls hl => ?_)
  have L_8 : ∀ (nn : Nat) (t2 : Int) (i : Int) (ls : Array Slot) (hl : lv_has ls 4 [(0, .ref o), (1, .int (J s)), (2, .int (J t2)), (3, .int (J i))]) (i8_0 : 0 ≤ i ∧ i ≤ 24) (i8_1 : (t2 = 1 ∧ 2 < mN u s) ∨ t2 = 0), ((24 : Int) - i).toNat < nn → W pr l en (headSpec (jw yX12_isReflexive cX12_isReflexive 4 (some .boolean)) (jr 5 110)).room st mi (([.ref o, .int (J s)] : List Value).toArray) below meth co st.heap [] 0 0 (MQ below (jRi (fun z => (z = 1 ∧ 2 < mN u s) ∨ z = 0)) (([.ref o, .int (J s)] : List Value).toArray) st 0 0 (fun _ => False)) (F0 mi 8 ls []) := by
    intro nn
    induction nn with
    | zero => intros; omega
    | succ nn ih_8 =>
      intro t2 i ls hl i8_0 i8_1 hm
      refine lv_iload_n SS.1 SS.2.1 dX12_isReflexive_8 rfl (lv_at hl 2 rfl) ?_
      refine j_if_eq SS (tgt := 44) (x := t2) dX12_isReflexive_9 (by decide) (by omega) (fun c_9 => ?_) (fun c_9 => ?_)
      · skip
        refine lv_iload_n SS.1 SS.2.1 dX12_isReflexive_44 rfl (lv_at hl 2 rfl) ?_
        exact W.zret SS.1 SS.2.1 hr (j_nz (by omega)) (fun t ht hW => ⟨_, rfl, ⟨t2, rfl, (by omega)⟩, ht⟩) (fun _ h => nomatch h) dX12_isReflexive_45 hlk
      · skip
        refine lv_iload_n SS.1 SS.2.1 dX12_isReflexive_12 rfl (lv_at hl 3 rfl) ?_
        refine lv_aload_n SS.1 SS.2.1 dX12_isReflexive_13 rfl (lv_at hl 0 rfl) ?_
        refine j_get SS hG hP 0 (v := .ref (q 0)) (C := RX12) (T := TX12) (N := 31) rfl rfl inX12 0 (by decide) (ref := RX12) kw_1058 rfl rfl dX12_isReflexive_14 ?_
        refine lv_iload_n SS.1 SS.2.1 dX12_isReflexive_17 rfl (lv_at hl 1 rfl) ?_
        refine j_iald SS hG hP 1 (n := 8) (f := (u.1 0)) rfl (z := s) (by omega) (by omega) dX12_isReflexive_18 ?_
        have hN_18 := (show Sh u s from p1).1
        refine j_icmp_ge SS (tgt := 44) (x := i) (y := (mN u s)) dX12_isReflexive_19 (by decide) (by omega) (by omega) (fun c_19 => ?_) (fun c_19 => ?_)
        · skip
          refine lv_iload_n SS.1 SS.2.1 dX12_isReflexive_44 rfl (lv_at hl 2 rfl) ?_
          exact W.zret SS.1 SS.2.1 hr (j_nz (by omega)) (fun t ht hW => ⟨_, rfl, ⟨t2, rfl, (by omega)⟩, ht⟩) (fun _ h => nomatch h) dX12_isReflexive_45 hlk
        · skip
          refine lv_aload_n SS.1 SS.2.1 dX12_isReflexive_22 rfl (lv_at hl 0 rfl) ?_
          refine lv_iload_n SS.1 SS.2.1 dX12_isReflexive_23 rfl (lv_at hl 1 rfl) ?_
          refine lv_iload_n SS.1 SS.2.1 dX12_isReflexive_24 rfl (lv_at hl 3 rfl) ?_
          refine j_vRi SS (As := [.int (J s), .int (J i)]) (rest := []) (c_X12_farOf l D o q u s i (show 0 ≤ s ∧ s ≤ 7 from (by omega)) (show Sh u s from (p1)) (show 0 ≤ i ∧ i < mN u s from (by first | omega | (have hq := (show Sh u s from p1).1; omega))) (show 2 ≤ mN u s from (by first | omega | (have hq := (show Sh u s from p1).1; omega)))) mf_X12_farOf kw_1372 hG hP hP (ci := 8) (q0 := 0) rfl rfl rfl rfl hl.1 ⟨⟨Nat.le_of_ble_eq_true rfl, Nat.le_of_ble_eq_true rfl⟩, Nat.le_of_ble_eq_true rfl, Nat.le_refl _, Nat.le_refl _⟩ rfl dX12_isReflexive_25 (fun z_25 h_25 => ?_)
          have h_25 : -6400 ≤ z_25 ∧ z_25 ≤ 6400 := h_25
          refine j_iconst SS dX12_isReflexive_28 ?_
          refine j_icmp_ne SS (tgt := 36) (x := z_25) (y := 1) dX12_isReflexive_29 (by decide) (by omega) (by decide) (fun c_29 => ?_) (fun c_29 => ?_)
          · skip
            refine j_iconst SS dX12_isReflexive_36 ?_
            refine lv_istore_n (lv' := [(2, .int (J 0)), (0, .ref o), (1, .int (J s)), (3, .int (J i))]) SS.1 SS.2.1 dX12_isReflexive_37 rfl hl (by decide) rfl (fun ls hl => ?_)
            refine lv_iinc (v := J (i + 1)) (lv' := [(3, .int (J (i + 1))), (2, .int (J 0)), (0, .ref o), (1, .int (J s))]) SS.1 SS.2.1 dX12_isReflexive_38 hl (k := 3) rfl (J_add _ _) (by decide) rfl (fun ls hl => ?_)
            refine lv_goto (tgt := 8) SS.1 SS.2.1 dX12_isReflexive_41 (by decide) ?_
            exact ih_8 0 (i + 1) ls (lv_sub hl [2, 3, 1, 0] rfl) (by omega) (by omega) (by omega)
          · skip
            refine j_iconst SS dX12_isReflexive_32 ?_
            refine lv_goto (tgt := 37) SS.1 SS.2.1 dX12_isReflexive_33 (by decide) ?_
            refine lv_istore_n (lv' := [(2, .int (J 1)), (0, .ref o), (1, .int (J s)), (3, .int (J i))]) SS.1 SS.2.1 dX12_isReflexive_37 rfl hl (by decide) rfl (fun ls hl => ?_)
            refine lv_iinc (v := J (i + 1)) (lv' := [(3, .int (J (i + 1))), (2, .int (J 1)), (0, .ref o), (1, .int (J s))]) SS.1 SS.2.1 dX12_isReflexive_38 hl (k := 3) rfl (J_add _ _) (by decide) rfl (fun ls hl => ?_)
            refine lv_goto (tgt := 8) SS.1 SS.2.1 dX12_isReflexive_41 (by decide) ?_
            exact ih_8 1 (i + 1) ls (lv_sub hl [2, 3, 1, 0] rfl) (by omega) (by omega) (by omega)
  exact L_8 (((24 : Int) - (0 : Int)).toNat + 1) z_2 0 ls (lv_sub hl [2, 3, 1, 0] rfl) (by omega) (by omega) (Nat.lt_succ_self _)

set_option maxHeartbeats 4000000 in
set_option maxRecDepth 100000 in
theorem c_X12_reflexive (l : Launch) (D : JD) (o : Nat) (q : Nat → Nat) (u : MS) (s : Int) (p0 : IM u) (p1 : -2147483648 ≤ s ∧ s ≤ 2147483647) : Met l yX12_reflexive (jw yX12_reflexive cX12_reflexive 2 (some .int)) (jr 6 133) (jP [.ref o, .int (J s)] D (fun H => va_P D.1 j_cl (mW D o q u) H)) (jRi (fun z => True)) 0 0 (fun _ => False) := by
  refine Met.ofW (cc := cX12_reflexive) (maxL := 2) (ret := (some .int)) (by decide) rfl ?_
  intro pr en st mi args below meth co s₁ B hml hv
  obtain ⟨rfl, hG, hP⟩ := hv
  have hr := B.returns
  have hlk := B.notSynchronized
  have SS : jS pr mi co cX12_reflexive 2 st _ RX12 := ⟨B.exec, B.bytes, hml, findClass_of_methodNamed B.named, fun w hw => atoms_spec (ws := (jw yX12_reflexive cX12_reflexive 2 (some .int))) B.pre w (List.mem_cons_of_mem _ hw)⟩
  have hl := lv_entry ([.ref o, .int (J s)]) (n := 2) (Nat.le_of_ble_eq_true rfl)
  rw [lg_entry_eq]
  generalize (lg_sl ([.ref o, .int (J s)]) ++ List.replicate (2 - (lg_sl ([.ref o, .int (J s)])).length) Slot.unset).toArray = ls at hl ⊢
  have hl : lv_has ls 2 [(0, .ref o), (1, .int (J s))] := hl
  refine lv_iload_n SS.1 SS.2.1 dX12_reflexive_0 rfl (lv_at hl 1 rfl) ?_
  refine j_sRi SS (As := [.int (J s)]) (rest := []) (c_X12_isShape l D s (show -2147483648 ≤ s ∧ s ≤ 2147483647 from (by omega))) mf_X12_isShape kw_1156 hG trivial rfl hl.1 ⟨⟨Nat.le_of_ble_eq_true rfl, Nat.le_of_ble_eq_true rfl⟩, Nat.le_of_ble_eq_true rfl, Nat.le_refl _, Nat.le_refl _⟩ rfl dX12_reflexive_1 (fun z_1 h_1 => ?_)
  have h_1 : (z_1 = 1 ∧ (0 ≤ s ∧ s ≤ 7)) ∨ (z_1 = 0 ∧ ¬ (0 ≤ s ∧ s ≤ 7)) := h_1
  refine j_if_ne SS (tgt := 11) (x := z_1) dX12_reflexive_4 (by decide) (by omega) (fun c_4 => ?_) (fun c_4 => ?_)
  · skip
    refine lv_aload_n SS.1 SS.2.1 dX12_reflexive_11 rfl (lv_at hl 0 rfl) ?_
    refine lv_iload_n SS.1 SS.2.1 dX12_reflexive_12 rfl (lv_at hl 1 rfl) ?_
    refine j_vRi SS (As := [.int (J s)]) (rest := []) (c_X12_isReflexive l D o q u s (show 0 ≤ s ∧ s ≤ 7 from (by omega)) (show Sh u s from (p0.1 _ (by omega) (by omega)))) mf_X12_isReflexive kw_1380 hG hP hP (ci := 8) (q0 := 0) rfl rfl rfl rfl hl.1 ⟨⟨Nat.le_of_ble_eq_true rfl, Nat.le_of_ble_eq_true rfl⟩, Nat.le_of_ble_eq_true rfl, Nat.le_refl _, Nat.le_refl _⟩ rfl dX12_reflexive_13 (fun z_13 h_13 => ?_)
    have h_13 : (z_13 = 1 ∧ 2 < mN u s) ∨ z_13 = 0 := h_13
    refine j_if_eq SS (tgt := 23) (x := z_13) dX12_reflexive_16 (by decide) (by omega) (fun c_16 => ?_) (fun c_16 => ?_)
    · skip
      refine j_iconst SS dX12_reflexive_23 ?_
      exact W.iret SS.1 SS.2.1 hr (fun t ht hW => ⟨_, rfl, ⟨0, rfl, (trivial)⟩, ht⟩) (fun _ h => nomatch h) dX12_reflexive_24 hlk
    · skip
      refine j_iconst SS dX12_reflexive_19 ?_
      refine lv_goto (tgt := 24) SS.1 SS.2.1 dX12_reflexive_20 (by decide) ?_
      exact W.iret SS.1 SS.2.1 hr (fun t ht hW => ⟨_, rfl, ⟨1, rfl, (trivial)⟩, ht⟩) (fun _ h => nomatch h) dX12_reflexive_24 hlk
  · skip
    refine j_iconst SS dX12_reflexive_7 ?_
    refine lv_goto (tgt := 24) SS.1 SS.2.1 dX12_reflexive_8 (by decide) ?_
    exact W.iret SS.1 SS.2.1 hr (fun t ht hW => ⟨_, rfl, ⟨(-1), rfl, (trivial)⟩, ht⟩) (fun _ h => nomatch h) dX12_reflexive_24 hlk

set_option maxHeartbeats 4000000 in
set_option maxRecDepth 100000 in
theorem c_X12_dual (l : Launch) (D : JD) (o : Nat) (q : Nat → Nat) (u : MS) (A : Nat → Prop) (hD : va_D A (mW D o q u)) (s : Int) (t2 : Int) (p0 : IM u) (p1 : -2147483648 ≤ s ∧ s ≤ 2147483647) (p2 : -2147483648 ≤ t2 ∧ t2 ≤ 2147483647) : Met l yX12_dual (jw yX12_dual cX12_dual 4 (some .int)) (jr 6 133) (jP [.ref o, .int (J s), .int (J t2)] D (fun H => va_P D.1 j_cl (mW D o q u) H)) (jWi (fun z u' => ∃ f0 : Nat → Int, ∃ f1 : Nat → Int, ∃ f2 : Nat → Int, ∃ f3 : Nat → Int, ∃ f4 : Nat → Int, ∃ f5 : Nat → Int, ∃ w : Int, ∃ X : Nat → Int, ∃ Y : Nat → Int, ∃ nh : Int, u' = (uV (uI (uI (uV (uI (uI (uI (uI (uI (uI u 0 f0) 1 f1) 2 f2) 3 f3) 4 f4) 5 f5) 6 w) 7 X) 8 Y) 9 nh) ∧ (IM u')) (fun u' H => va_P D.1 j_cl (mW D o q u') H) A) 0 0 A := by
  refine Met.ofW (cc := cX12_dual) (maxL := 4) (ret := (some .int)) (by decide) rfl ?_
  intro pr en st mi args below meth co s₁ B hml hv
  obtain ⟨rfl, hG, hP⟩ := hv
  have hr := B.returns
  have hlk := B.notSynchronized
  have SS : jS pr mi co cX12_dual 4 st _ RX12 := ⟨B.exec, B.bytes, hml, findClass_of_methodNamed B.named, fun w hw => atoms_spec (ws := (jw yX12_dual cX12_dual 4 (some .int))) B.pre w (List.mem_cons_of_mem _ hw)⟩
  have hl := lv_entry ([.ref o, .int (J s), .int (J t2)]) (n := 4) (Nat.le_of_ble_eq_true rfl)
  rw [lg_entry_eq]
  generalize (lg_sl ([.ref o, .int (J s), .int (J t2)]) ++ List.replicate (4 - (lg_sl ([.ref o, .int (J s), .int (J t2)])).length) Slot.unset).toArray = ls at hl ⊢
  have hl : lv_has ls 4 [(0, .ref o), (1, .int (J s)), (2, .int (J t2))] := hl
  have hS : va_S A st.heap st.heap [] := va_S.rf
  refine lv_iload_n SS.1 SS.2.1 dX12_dual_0 rfl (lv_at hl 1 rfl) ?_
  refine j_sRi SS (As := [.int (J s)]) (rest := []) (c_X12_isShape l D s (show -2147483648 ≤ s ∧ s ≤ 2147483647 from (by omega))) mf_X12_isShape kw_1156 hG trivial rfl hl.1 ⟨⟨Nat.le_of_ble_eq_true rfl, Nat.le_of_ble_eq_true rfl⟩, Nat.le_of_ble_eq_true rfl, Nat.le_refl _, Nat.le_refl _⟩ rfl dX12_dual_1 (fun z_1 h_1 => ?_)
  have h_1 : (z_1 = 1 ∧ (0 ≤ s ∧ s ≤ 7)) ∨ (z_1 = 0 ∧ ¬ (0 ≤ s ∧ s ≤ 7)) := h_1
  refine j_if_eq SS (tgt := 14) (x := z_1) dX12_dual_4 (by decide) (by omega) (fun c_4 => ?_) (fun c_4 => ?_)
  · skip
    refine j_iconst SS dX12_dual_14 ?_
    exact W.iret SS.1 SS.2.1 hr (fun t ht hW => ⟨⟨_, (uV (uI (uI (uV (uI (uI (uI (uI (uI (uI u 0 (u.1 0)) 1 (u.1 1)) 2 (u.1 2)) 3 (u.1 3)) 4 (u.1 4)) 5 (u.1 5)) 6 (u.2.2 6)) 7 (u.1 7)) 8 (u.1 8)) 9 (u.2.2 9)), rfl, ⟨(-1), rfl, (⟨(u.1 0), (u.1 1), (u.1 2), (u.1 3), (u.1 4), (u.1 5), (u.2.2 6), (u.1 7), (u.1 8), (u.2.2 9), rfl, p0⟩)⟩, by show va_P D.1 j_cl (mW D o q (uV (uI (uI (uV (uI (uI (uI (uI (uI (uI u 0 (u.1 0)) 1 (u.1 1)) 2 (u.1 2)) 3 (u.1 3)) 4 (u.1 4)) 5 (u.1 5)) 6 (u.2.2 6)) 7 (u.1 7)) 8 (u.1 8)) 9 (u.2.2 9))) t.heap; rw [ht]; exact hP⟩, hS.F ht⟩) hS.2.2 dX12_dual_15 hlk
  · skip
    refine lv_iload_n SS.1 SS.2.1 dX12_dual_7 rfl (lv_at hl 2 rfl) ?_
    refine j_sRi SS (As := [.int (J t2)]) (rest := []) (c_X12_isShape l D t2 (show -2147483648 ≤ t2 ∧ t2 ≤ 2147483647 from (by omega))) mf_X12_isShape kw_1156 hG trivial rfl hl.1 ⟨⟨Nat.le_of_ble_eq_true rfl, Nat.le_of_ble_eq_true rfl⟩, Nat.le_of_ble_eq_true rfl, Nat.le_refl _, Nat.le_refl _⟩ rfl dX12_dual_8 (fun z_8 h_8 => ?_)
    have h_8 : (z_8 = 1 ∧ (0 ≤ t2 ∧ t2 ≤ 7)) ∨ (z_8 = 0 ∧ ¬ (0 ≤ t2 ∧ t2 ≤ 7)) := h_8
    refine j_if_ne SS (tgt := 16) (x := z_8) dX12_dual_11 (by decide) (by omega) (fun c_11 => ?_) (fun c_11 => ?_)
    · skip
      refine lv_aload_n SS.1 SS.2.1 dX12_dual_16 rfl (lv_at hl 0 rfl) ?_
      refine lv_iload_n SS.1 SS.2.1 dX12_dual_17 rfl (lv_at hl 1 rfl) ?_
      refine j_vRi SS (As := [.int (J s)]) (rest := []) (c_X12_isReflexive l D o q u s (show 0 ≤ s ∧ s ≤ 7 from (by omega)) (show Sh u s from (p0.1 _ (by omega) (by omega)))) mf_X12_isReflexive kw_1380 hG hP hP (ci := 8) (q0 := 0) rfl rfl rfl rfl hl.1 ⟨⟨Nat.le_of_ble_eq_true rfl, Nat.le_of_ble_eq_true rfl⟩, Nat.le_of_ble_eq_true rfl, Nat.le_refl _, Nat.le_refl _⟩ rfl dX12_dual_18 (fun z_18 h_18 => ?_)
      have h_18 : (z_18 = 1 ∧ 2 < mN u s) ∨ z_18 = 0 := h_18
      refine j_if_ne SS (tgt := 27) (x := z_18) dX12_dual_21 (by decide) (by omega) (fun c_21 => ?_) (fun c_21 => ?_)
      · skip
        have hSh := p0.1 s (by omega) (by omega)
        have hN := hSh.1
        refine lv_aload_n SS.1 SS.2.1 dX12_dual_27 rfl (lv_at hl 0 rfl) ?_
        refine j_iconst SS dX12_dual_28 ?_
        refine j_put SS hG hP (mW_D hD) hS 0 (v := .int (J 0)) (ty := .int) (C := RX12) (T := TX12) (N := 31) rfl rfl inX12 tyX12 tyX12_ok nmX12 6 (by decide) (ref := RX12) kw_1064 rfl rfl (by decide +kernel) rfl rfl (Nat.le_of_ble_eq_true rfl) dX12_dual_29 (ws' := (mW D o q (uV u 6 0))) rfl (fun H locs hP hS => ?_)
        refine j_iconst SS dX12_dual_32 ?_
        refine lv_istore_n (lv' := [(3, .int (J 0)), (0, .ref o), (1, .int (J s)), (2, .int (J t2))]) SS.1 SS.2.1 dX12_dual_33 rfl hl (by decide) rfl (fun ls hl => ?_)
        have L_34 : ∀ (nn : Nat) (i : Int) (f : Nat → Int) (g : Nat → Int) (w : Int) (H : Heap) (locs : List Loc) (hP : va_P D.1 j_cl (mW D o q (uV (uI (uI u 4 f) 5 g) 6 w)) H) (hS : va_S A st.heap H locs) (ls : Array Slot) (hl : lv_has ls 4 [(0, .ref o), (1, .int (J s)), (2, .int (J t2)), (3, .int (J i))]) (i34_0 : 0 ≤ i ∧ i ≤ mN u s) (i34_1 : w = i) (i34_2 : bd 80 f g w), (mN u s - i).toNat < nn → W pr l en (headSpec (jw yX12_dual cX12_dual 4 (some .int)) (jr 6 133)).room st mi (([.ref o, .int (J s), .int (J t2)] : List Value).toArray) below meth co H locs 0 0 (MQ below (jWi (fun z u' => ∃ f0 : Nat → Int, ∃ f1 : Nat → Int, ∃ f2 : Nat → Int, ∃ f3 : Nat → Int, ∃ f4 : Nat → Int, ∃ f5 : Nat → Int, ∃ w : Int, ∃ X : Nat → Int, ∃ Y : Nat → Int, ∃ nh : Int, u' = (uV (uI (uI (uV (uI (uI (uI (uI (uI (uI u 0 f0) 1 f1) 2 f2) 3 f3) 4 f4) 5 f5) 6 w) 7 X) 8 Y) 9 nh) ∧ (IM u')) (fun u' H => va_P D.1 j_cl (mW D o q u') H) A) (([.ref o, .int (J s), .int (J t2)] : List Value).toArray) st 0 0 A) (F0 mi 34 ls []) := by
          intro nn
          induction nn with
          | zero => intros; omega
          | succ nn ih_34 =>
            intro i f g w H locs hP hS ls hl i34_0 i34_1 i34_2 hm
            refine lv_iload_n SS.1 SS.2.1 dX12_dual_34 rfl (lv_at hl 3 rfl) ?_
            refine lv_aload_n SS.1 SS.2.1 dX12_dual_35 rfl (lv_at hl 0 rfl) ?_
            refine j_get SS hG hP 0 (v := .ref (q 0)) (C := RX12) (T := TX12) (N := 31) rfl rfl inX12 0 (by decide) (ref := RX12) kw_1058 rfl rfl dX12_dual_36 ?_
            refine lv_iload_n SS.1 SS.2.1 dX12_dual_39 rfl (lv_at hl 1 rfl) ?_
            refine j_iald SS hG hP 1 (n := 8) (f := (u.1 0)) rfl (z := s) (by omega) (by omega) dX12_dual_40 ?_
            have hN_40 := (show Sh u s from p0.1 _ (by omega) (by omega)).1
            refine j_icmp_ge SS (tgt := 66) (x := i) (y := (mN u s)) dX12_dual_41 (by decide) (by omega) (by omega) (fun c_41 => ?_) (fun c_41 => ?_)
            · skip
              refine lv_aload_n SS.1 SS.2.1 dX12_dual_66 rfl (lv_at hl 0 rfl) ?_
              refine j_vWv SS (As := []) (rest := []) (c_X12_findHull l D o q (uV (uI (uI u 4 f) 5 g) 6 w) A (mW_D hD)  (show 0 ≤ w ∧ w ≤ 640 from (by omega)) (show bd 10000 (f) (g) (w) from (bd_K i34_2 (by omega)))) mf_X12_findHull kw_1189 hG hP hP (ci := 8) (q0 := 0) rfl rfl rfl hS (fun _ h => h) rfl hl.1 ⟨⟨Nat.le_of_ble_eq_true rfl, Nat.le_of_ble_eq_true rfl⟩, Nat.le_of_ble_eq_true rfl, Nat.le_refl _, Nat.le_refl _⟩ rfl dX12_dual_67 (fun u67 H locs h_67 hP _ hS => ?_)
              obtain ⟨f_67, g_67, w_67, X_67, Y_67, nh_67, rfl, h_67⟩ := h_67
              have hP : va_P D.1 j_cl (mW D o q (uV (uI (uI (uV (uI (uI u 4 f_67) 5 g_67) 6 w_67) 7 X_67) 8 Y_67) 9 nh_67)) H := hP
              have h_67 : 0 ≤ nh_67 ∧ nh_67 ≤ 1290 ∧ Ch nh_67 X_67 Y_67 ∧ (0 < w → 0 < nh_67) ∧ bd 10000 X_67 Y_67 nh_67 ∧ ∀ K : Int, bd K (f) (g) (w) → bd K X_67 Y_67 nh_67 := h_67
              obtain ⟨a1, a2, a3, a4, a5, a6⟩ := h_67
              refine lv_aload_n SS.1 SS.2.1 dX12_dual_70 rfl (lv_at hl 0 rfl) ?_
              refine lv_iload_n SS.1 SS.2.1 dX12_dual_71 rfl (lv_at hl 2 rfl) ?_
              refine j_iconst SS dX12_dual_72 ?_
              refine j_vWi SS (As := [.int (J t2), .int (J 1)]) (rest := []) (c_X12_take l D o q (uV (uI (uI (uV (uI (uI u 4 f_67) 5 g_67) 6 w_67) 7 X_67) 8 Y_67) 9 nh_67) A (mW_D hD) t2 1 (show 0 ≤ t2 ∧ t2 ≤ 7 from (by omega)) (show (1 : Int) = 0 ∨ (1 : Int) = 1 from (by omega)) (show 0 ≤ nh_67 ∧ nh_67 ≤ 1290 from (by omega)) (show bd 10000 (X_67) (Y_67) (nh_67) from (a5))) mf_X12_take kw_1162 hG hP hP (ci := 8) (q0 := 0) rfl rfl rfl hS (fun _ h => h) rfl hl.1 ⟨⟨Nat.le_of_ble_eq_true rfl, Nat.le_of_ble_eq_true rfl⟩, Nat.le_of_ble_eq_true rfl, Nat.le_refl _, Nat.le_refl _⟩ rfl dX12_dual_73 (fun z_73 u73 H locs h_73 hP _ hS => ?_)
              obtain ⟨f0_73, f1_73, f2_73, f3_73, rfl, h_73⟩ := h_73
              have hP : va_P D.1 j_cl (mW D o q (uV (uI (uI (uV (uI (uI (uI (uI (uI (uI u 0 f0_73) 1 f1_73) 2 f2_73) 3 f3_73) 4 f_67) 5 g_67) 6 w_67) 7 X_67) 8 Y_67) 9 nh_67)) H := hP
              have h_73 : (z_73 = -3 ∧ ¬ tk_ok (1 : Int) 40 (X_67) (Y_67) (nh_67) (nh_67) ∧ f0_73 = (u.1 0) ∧ f1_73 = (u.1 1) ∧ f2_73 = (u.1 2) ∧ f3_73 = (u.1 3)) ∨ (z_73 = nh_67 ∧ tk_ok (1 : Int) 40 (X_67) (Y_67) (nh_67) (nh_67) ∧ tk_new (uV (uI (uI (uV (uI (uI u 4 f_67) 5 g_67) 6 w_67) 7 X_67) 8 Y_67) 9 nh_67) f0_73 f1_73 f2_73 f3_73 t2) := h_73
              exact W.iret SS.1 SS.2.1 hr (fun t ht hW => ⟨⟨_, (uV (uI (uI (uV (uI (uI (uI (uI (uI (uI u 0 f0_73) 1 f1_73) 2 f2_73) 3 f3_73) 4 f_67) 5 g_67) 6 w_67) 7 X_67) 8 Y_67) 9 nh_67), rfl, ⟨z_73, rfl, (⟨f0_73, f1_73, f2_73, f3_73, f_67, g_67, w_67, X_67, Y_67, nh_67, rfl, (show IM (uI (uI (uI (uI (uV (uI (uI (uV (uI (uI u 4 f_67) 5 g_67) 6 w_67) 7 X_67) 8 Y_67) 9 nh_67) 0 f0_73) 1 f1_73) 2 f2_73) 3 f3_73) from IM_tk (u := (uV (uI (uI (uV (uI (uI u 4 f_67) 5 g_67) 6 w_67) 7 X_67) 8 Y_67) 9 nh_67)) p0 ⟨by omega, by omega⟩ (Or.inr rfl) a1 (fun q => by omega) a3 h_73)⟩)⟩, by show va_P D.1 j_cl (mW D o q (uV (uI (uI (uV (uI (uI (uI (uI (uI (uI u 0 f0_73) 1 f1_73) 2 f2_73) 3 f3_73) 4 f_67) 5 g_67) 6 w_67) 7 X_67) 8 Y_67) 9 nh_67)) t.heap; rw [ht]; exact hP⟩, hS.F ht⟩) hS.2.2 dX12_dual_76 hlk
            · skip
              refine lv_aload_n SS.1 SS.2.1 dX12_dual_44 rfl (lv_at hl 0 rfl) ?_
              refine lv_aload_n SS.1 SS.2.1 dX12_dual_45 rfl (lv_at hl 0 rfl) ?_
              refine lv_iload_n SS.1 SS.2.1 dX12_dual_46 rfl (lv_at hl 1 rfl) ?_
              refine lv_iload_n SS.1 SS.2.1 dX12_dual_47 rfl (lv_at hl 3 rfl) ?_
              refine j_vRi SS (As := [.int (J s), .int (J i)]) (rest := [.ref o]) (c_X12_normalX l D o q (uV (uI (uI u 4 f) 5 g) 6 w) s i (show 0 ≤ s ∧ s ≤ 7 from (by omega)) (show Sh u s from (hSh)) (show 0 ≤ i ∧ i < mN u s from (by omega)) (show 2 ≤ mN u s from (by omega))) mf_X12_normalX kw_1364 hG hP hP (ci := 8) (q0 := 0) rfl rfl rfl rfl hl.1 ⟨⟨Nat.le_of_ble_eq_true rfl, Nat.le_of_ble_eq_true rfl⟩, Nat.le_of_ble_eq_true rfl, Nat.le_refl _, Nat.le_refl _⟩ rfl dX12_dual_48 (fun z_48 h_48 => ?_)
              have h_48 : -80 ≤ z_48 ∧ z_48 ≤ 80 := h_48
              refine lv_aload_n SS.1 SS.2.1 dX12_dual_51 rfl (lv_at hl 0 rfl) ?_
              refine lv_iload_n SS.1 SS.2.1 dX12_dual_52 rfl (lv_at hl 1 rfl) ?_
              refine lv_iload_n SS.1 SS.2.1 dX12_dual_53 rfl (lv_at hl 3 rfl) ?_
              refine j_vRi SS (As := [.int (J s), .int (J i)]) (rest := [.int (J z_48), .ref o]) (c_X12_normalY l D o q (uV (uI (uI u 4 f) 5 g) 6 w) s i (show 0 ≤ s ∧ s ≤ 7 from (by omega)) (show Sh u s from (hSh)) (show 0 ≤ i ∧ i < mN u s from (by omega)) (show 2 ≤ mN u s from (by omega))) mf_X12_normalY kw_1368 hG hP hP (ci := 8) (q0 := 0) rfl rfl rfl rfl hl.1 ⟨⟨Nat.le_of_ble_eq_true rfl, Nat.le_of_ble_eq_true rfl⟩, Nat.le_of_ble_eq_true rfl, Nat.le_refl _, Nat.le_refl _⟩ rfl dX12_dual_54 (fun z_54 h_54 => ?_)
              have h_54 : -80 ≤ z_54 ∧ z_54 ≤ 80 := h_54
              refine j_vWv SS (As := [.int (J z_48), .int (J z_54)]) (rest := []) (c_X12_put l D o q (uV (uI (uI u 4 f) 5 g) 6 w) A (mW_D hD) z_48 z_54 (show 0 ≤ w ∧ w < 640 from (by omega))) mf_X12_put kw_1185 hG hP hP (ci := 8) (q0 := 0) rfl rfl rfl hS (fun _ h => h) rfl hl.1 ⟨⟨Nat.le_of_ble_eq_true rfl, Nat.le_of_ble_eq_true rfl⟩, Nat.le_of_ble_eq_true rfl, Nat.le_refl _, Nat.le_refl _⟩ rfl dX12_dual_57 (fun u57 H locs h_57 hP _ hS => ?_)
              obtain ⟨f_57, g_57, w_57, rfl, h_57⟩ := h_57
              have hP : va_P D.1 j_cl (mW D o q (uV (uI (uI u 4 f_57) 5 g_57) 6 w_57)) H := hP
              have h_57 : f_57 = upI (f) (w).toNat z_48 ∧ g_57 = upI (g) (w).toNat z_54 ∧ w_57 = w + 1 := h_57
              have k1 := h_57.2.2
              refine lv_iinc (v := J (i + 1)) (lv' := [(3, .int (J (i + 1))), (0, .ref o), (1, .int (J s)), (2, .int (J t2))]) SS.1 SS.2.1 dX12_dual_60 hl (k := 3) rfl (J_add _ _) (by decide) rfl (fun ls hl => ?_)
              refine lv_goto (tgt := 34) SS.1 SS.2.1 dX12_dual_63 (by decide) ?_
              exact ih_34 (i + 1) f_57 g_57 w_57 _ _ hP hS ls (lv_sub hl [1, 2, 3, 0] rfl) (by omega) (by omega) (by obtain ⟨k1, k2, k3⟩ := h_57; rw [k1, k2, k3]; exact bd_put (by omega) i34_2 (by omega) (by omega)) (by omega)
        exact L_34 ((mN u s - (0 : Int)).toNat + 1) 0 (u.1 4) (u.1 5) 0 _ _ hP hS ls (lv_sub hl [1, 2, 3, 0] rfl) (by omega) (by omega) (fun a ha => by omega) (Nat.lt_succ_self _)
      · skip
        refine j_bipush SS dX12_dual_24 (by decide +kernel) ?_
        exact W.iret SS.1 SS.2.1 hr (fun t ht hW => ⟨⟨_, (uV (uI (uI (uV (uI (uI (uI (uI (uI (uI u 0 (u.1 0)) 1 (u.1 1)) 2 (u.1 2)) 3 (u.1 3)) 4 (u.1 4)) 5 (u.1 5)) 6 (u.2.2 6)) 7 (u.1 7)) 8 (u.1 8)) 9 (u.2.2 9)), rfl, ⟨(-2), rfl, (⟨(u.1 0), (u.1 1), (u.1 2), (u.1 3), (u.1 4), (u.1 5), (u.2.2 6), (u.1 7), (u.1 8), (u.2.2 9), rfl, p0⟩)⟩, by show va_P D.1 j_cl (mW D o q (uV (uI (uI (uV (uI (uI (uI (uI (uI (uI u 0 (u.1 0)) 1 (u.1 1)) 2 (u.1 2)) 3 (u.1 3)) 4 (u.1 4)) 5 (u.1 5)) 6 (u.2.2 6)) 7 (u.1 7)) 8 (u.1 8)) 9 (u.2.2 9))) t.heap; rw [ht]; exact hP⟩, hS.F ht⟩) hS.2.2 dX12_dual_26 hlk
    · skip
      refine j_iconst SS dX12_dual_14 ?_
      exact W.iret SS.1 SS.2.1 hr (fun t ht hW => ⟨⟨_, (uV (uI (uI (uV (uI (uI (uI (uI (uI (uI u 0 (u.1 0)) 1 (u.1 1)) 2 (u.1 2)) 3 (u.1 3)) 4 (u.1 4)) 5 (u.1 5)) 6 (u.2.2 6)) 7 (u.1 7)) 8 (u.1 8)) 9 (u.2.2 9)), rfl, ⟨(-1), rfl, (⟨(u.1 0), (u.1 1), (u.1 2), (u.1 3), (u.1 4), (u.1 5), (u.2.2 6), (u.1 7), (u.1 8), (u.2.2 9), rfl, p0⟩)⟩, by show va_P D.1 j_cl (mW D o q (uV (uI (uI (uV (uI (uI (uI (uI (uI (uI u 0 (u.1 0)) 1 (u.1 1)) 2 (u.1 2)) 3 (u.1 3)) 4 (u.1 4)) 5 (u.1 5)) 6 (u.2.2 6)) 7 (u.1 7)) 8 (u.1 8)) 9 (u.2.2 9))) t.heap; rw [ht]; exact hP⟩, hS.F ht⟩) hS.2.2 dX12_dual_15 hlk

set_option maxHeartbeats 4000000 in
set_option maxRecDepth 100000 in
theorem c_X12_map (l : Launch) (D : JD) (o : Nat) (q : Nat → Nat) (u : MS) (A : Nat → Prop) (hD : va_D A (mW D o q u)) (s : Int) (t2 : Int) (a : Int) (b : Int) (c : Int) (d : Int) (e : Int) (f : Int) (p0 : IM u) (p1 : -2147483648 ≤ s ∧ s ≤ 2147483647) (p2 : -2147483648 ≤ t2 ∧ t2 ≤ 2147483647) (p3 : -2147483648 ≤ a ∧ a ≤ 2147483647) (p4 : -2147483648 ≤ b ∧ b ≤ 2147483647) (p5 : -2147483648 ≤ c ∧ c ≤ 2147483647) (p6 : -2147483648 ≤ d ∧ d ≤ 2147483647) (p7 : -2147483648 ≤ e ∧ e ≤ 2147483647) (p8 : -2147483648 ≤ f ∧ f ≤ 2147483647) : Met l yX12_map (jw yX12_map cX12_map 10 (some .int)) (jr 3 68) (jP [.ref o, .int (J s), .int (J t2), .int (J a), .int (J b), .int (J c), .int (J d), .int (J e), .int (J f)] D (fun H => va_P D.1 j_cl (mW D o q u) H)) (jWi (fun z u' => ∃ f0 : Nat → Int, ∃ f1 : Nat → Int, ∃ f2 : Nat → Int, ∃ f3 : Nat → Int, ∃ f4 : Nat → Int, ∃ f5 : Nat → Int, ∃ w : Int, ∃ X : Nat → Int, ∃ Y : Nat → Int, ∃ nh : Int, u' = (uV (uI (uI (uV (uI (uI (uI (uI (uI (uI u 0 f0) 1 f1) 2 f2) 3 f3) 4 f4) 5 f5) 6 w) 7 X) 8 Y) 9 nh) ∧ (IM u')) (fun u' H => va_P D.1 j_cl (mW D o q u') H) A) 0 0 A := by
  refine Met.ofW (cc := cX12_map) (maxL := 10) (ret := (some .int)) (by decide) rfl ?_
  intro pr en st mi args below meth co s₁ B hml hv
  obtain ⟨rfl, hG, hP⟩ := hv
  have hr := B.returns
  have hlk := B.notSynchronized
  have SS : jS pr mi co cX12_map 10 st _ RX12 := ⟨B.exec, B.bytes, hml, findClass_of_methodNamed B.named, fun w hw => atoms_spec (ws := (jw yX12_map cX12_map 10 (some .int))) B.pre w (List.mem_cons_of_mem _ hw)⟩
  have hl := lv_entry ([.ref o, .int (J s), .int (J t2), .int (J a), .int (J b), .int (J c), .int (J d), .int (J e), .int (J f)]) (n := 10) (Nat.le_of_ble_eq_true rfl)
  rw [lg_entry_eq]
  generalize (lg_sl ([.ref o, .int (J s), .int (J t2), .int (J a), .int (J b), .int (J c), .int (J d), .int (J e), .int (J f)]) ++ List.replicate (10 - (lg_sl ([.ref o, .int (J s), .int (J t2), .int (J a), .int (J b), .int (J c), .int (J d), .int (J e), .int (J f)])).length) Slot.unset).toArray = ls at hl ⊢
  have hl : lv_has ls 10 [(0, .ref o), (1, .int (J s)), (2, .int (J t2)), (3, .int (J a)), (4, .int (J b)), (5, .int (J c)), (6, .int (J d)), (7, .int (J e)), (8, .int (J f))] := hl
  have hS : va_S A st.heap st.heap [] := va_S.rf
  refine lv_iload_n SS.1 SS.2.1 dX12_map_0 rfl (lv_at hl 1 rfl) ?_
  refine j_sRi SS (As := [.int (J s)]) (rest := []) (c_X12_isShape l D s (show -2147483648 ≤ s ∧ s ≤ 2147483647 from (by omega))) mf_X12_isShape kw_1156 hG trivial rfl hl.1 ⟨⟨Nat.le_of_ble_eq_true rfl, Nat.le_of_ble_eq_true rfl⟩, Nat.le_of_ble_eq_true rfl, Nat.le_refl _, Nat.le_refl _⟩ rfl dX12_map_1 (fun z_1 h_1 => ?_)
  have h_1 : (z_1 = 1 ∧ (0 ≤ s ∧ s ≤ 7)) ∨ (z_1 = 0 ∧ ¬ (0 ≤ s ∧ s ≤ 7)) := h_1
  refine j_if_eq SS (tgt := 43) (x := z_1) dX12_map_4 (by decide) (by omega) (fun c_4 => ?_) (fun c_4 => ?_)
  · skip
    refine j_iconst SS dX12_map_43 ?_
    exact W.iret SS.1 SS.2.1 hr (fun t ht hW => ⟨⟨_, (uV (uI (uI (uV (uI (uI (uI (uI (uI (uI u 0 (u.1 0)) 1 (u.1 1)) 2 (u.1 2)) 3 (u.1 3)) 4 (u.1 4)) 5 (u.1 5)) 6 (u.2.2 6)) 7 (u.1 7)) 8 (u.1 8)) 9 (u.2.2 9)), rfl, ⟨(-1), rfl, (⟨(u.1 0), (u.1 1), (u.1 2), (u.1 3), (u.1 4), (u.1 5), (u.2.2 6), (u.1 7), (u.1 8), (u.2.2 9), rfl, p0⟩)⟩, by show va_P D.1 j_cl (mW D o q (uV (uI (uI (uV (uI (uI (uI (uI (uI (uI u 0 (u.1 0)) 1 (u.1 1)) 2 (u.1 2)) 3 (u.1 3)) 4 (u.1 4)) 5 (u.1 5)) 6 (u.2.2 6)) 7 (u.1 7)) 8 (u.1 8)) 9 (u.2.2 9))) t.heap; rw [ht]; exact hP⟩, hS.F ht⟩) hS.2.2 dX12_map_44 hlk
  · skip
    refine lv_iload_n SS.1 SS.2.1 dX12_map_7 rfl (lv_at hl 2 rfl) ?_
    refine j_sRi SS (As := [.int (J t2)]) (rest := []) (c_X12_isShape l D t2 (show -2147483648 ≤ t2 ∧ t2 ≤ 2147483647 from (by omega))) mf_X12_isShape kw_1156 hG trivial rfl hl.1 ⟨⟨Nat.le_of_ble_eq_true rfl, Nat.le_of_ble_eq_true rfl⟩, Nat.le_of_ble_eq_true rfl, Nat.le_refl _, Nat.le_refl _⟩ rfl dX12_map_8 (fun z_8 h_8 => ?_)
    have h_8 : (z_8 = 1 ∧ (0 ≤ t2 ∧ t2 ≤ 7)) ∨ (z_8 = 0 ∧ ¬ (0 ≤ t2 ∧ t2 ≤ 7)) := h_8
    refine j_if_eq SS (tgt := 43) (x := z_8) dX12_map_11 (by decide) (by omega) (fun c_11 => ?_) (fun c_11 => ?_)
    · skip
      refine j_iconst SS dX12_map_43 ?_
      exact W.iret SS.1 SS.2.1 hr (fun t ht hW => ⟨⟨_, (uV (uI (uI (uV (uI (uI (uI (uI (uI (uI u 0 (u.1 0)) 1 (u.1 1)) 2 (u.1 2)) 3 (u.1 3)) 4 (u.1 4)) 5 (u.1 5)) 6 (u.2.2 6)) 7 (u.1 7)) 8 (u.1 8)) 9 (u.2.2 9)), rfl, ⟨(-1), rfl, (⟨(u.1 0), (u.1 1), (u.1 2), (u.1 3), (u.1 4), (u.1 5), (u.2.2 6), (u.1 7), (u.1 8), (u.2.2 9), rfl, p0⟩)⟩, by show va_P D.1 j_cl (mW D o q (uV (uI (uI (uV (uI (uI (uI (uI (uI (uI u 0 (u.1 0)) 1 (u.1 1)) 2 (u.1 2)) 3 (u.1 3)) 4 (u.1 4)) 5 (u.1 5)) 6 (u.2.2 6)) 7 (u.1 7)) 8 (u.1 8)) 9 (u.2.2 9))) t.heap; rw [ht]; exact hP⟩, hS.F ht⟩) hS.2.2 dX12_map_44 hlk
    · skip
      refine lv_iload_n SS.1 SS.2.1 dX12_map_14 rfl (lv_at hl 3 rfl) ?_
      refine lv_iload SS.1 SS.2.1 dX12_map_15 (lv_at hl 4 rfl) ?_
      refine j_sRi SS (As := [.int (J a), .int (J b)]) (rest := []) (c_X12_isPlace l D a b (show -2147483648 ≤ a ∧ a ≤ 2147483647 from (by omega)) (show -2147483648 ≤ b ∧ b ≤ 2147483647 from (by omega))) mf_X12_isPlace kw_1166 hG trivial rfl hl.1 ⟨⟨Nat.le_of_ble_eq_true rfl, Nat.le_of_ble_eq_true rfl⟩, Nat.le_of_ble_eq_true rfl, Nat.le_refl _, Nat.le_refl _⟩ rfl dX12_map_17 (fun z_17 h_17 => ?_)
      have h_17 : (z_17 = 1 ∧ (-40 ≤ a ∧ a ≤ 40 ∧ -40 ≤ b ∧ b ≤ 40)) ∨ (z_17 = 0 ∧ ¬ (-40 ≤ a ∧ a ≤ 40 ∧ -40 ≤ b ∧ b ≤ 40)) := h_17
      refine j_if_eq SS (tgt := 43) (x := z_17) dX12_map_20 (by decide) (by omega) (fun c_20 => ?_) (fun c_20 => ?_)
      · skip
        refine j_iconst SS dX12_map_43 ?_
        exact W.iret SS.1 SS.2.1 hr (fun t ht hW => ⟨⟨_, (uV (uI (uI (uV (uI (uI (uI (uI (uI (uI u 0 (u.1 0)) 1 (u.1 1)) 2 (u.1 2)) 3 (u.1 3)) 4 (u.1 4)) 5 (u.1 5)) 6 (u.2.2 6)) 7 (u.1 7)) 8 (u.1 8)) 9 (u.2.2 9)), rfl, ⟨(-1), rfl, (⟨(u.1 0), (u.1 1), (u.1 2), (u.1 3), (u.1 4), (u.1 5), (u.2.2 6), (u.1 7), (u.1 8), (u.2.2 9), rfl, p0⟩)⟩, by show va_P D.1 j_cl (mW D o q (uV (uI (uI (uV (uI (uI (uI (uI (uI (uI u 0 (u.1 0)) 1 (u.1 1)) 2 (u.1 2)) 3 (u.1 3)) 4 (u.1 4)) 5 (u.1 5)) 6 (u.2.2 6)) 7 (u.1 7)) 8 (u.1 8)) 9 (u.2.2 9))) t.heap; rw [ht]; exact hP⟩, hS.F ht⟩) hS.2.2 dX12_map_44 hlk
      · skip
        refine lv_iload SS.1 SS.2.1 dX12_map_23 (lv_at hl 5 rfl) ?_
        refine lv_iload SS.1 SS.2.1 dX12_map_25 (lv_at hl 6 rfl) ?_
        refine j_sRi SS (As := [.int (J c), .int (J d)]) (rest := []) (c_X12_isPlace l D c d (show -2147483648 ≤ c ∧ c ≤ 2147483647 from (by omega)) (show -2147483648 ≤ d ∧ d ≤ 2147483647 from (by omega))) mf_X12_isPlace kw_1166 hG trivial rfl hl.1 ⟨⟨Nat.le_of_ble_eq_true rfl, Nat.le_of_ble_eq_true rfl⟩, Nat.le_of_ble_eq_true rfl, Nat.le_refl _, Nat.le_refl _⟩ rfl dX12_map_27 (fun z_27 h_27 => ?_)
        have h_27 : (z_27 = 1 ∧ (-40 ≤ c ∧ c ≤ 40 ∧ -40 ≤ d ∧ d ≤ 40)) ∨ (z_27 = 0 ∧ ¬ (-40 ≤ c ∧ c ≤ 40 ∧ -40 ≤ d ∧ d ≤ 40)) := h_27
        refine j_if_eq SS (tgt := 43) (x := z_27) dX12_map_30 (by decide) (by omega) (fun c_30 => ?_) (fun c_30 => ?_)
        · skip
          refine j_iconst SS dX12_map_43 ?_
          exact W.iret SS.1 SS.2.1 hr (fun t ht hW => ⟨⟨_, (uV (uI (uI (uV (uI (uI (uI (uI (uI (uI u 0 (u.1 0)) 1 (u.1 1)) 2 (u.1 2)) 3 (u.1 3)) 4 (u.1 4)) 5 (u.1 5)) 6 (u.2.2 6)) 7 (u.1 7)) 8 (u.1 8)) 9 (u.2.2 9)), rfl, ⟨(-1), rfl, (⟨(u.1 0), (u.1 1), (u.1 2), (u.1 3), (u.1 4), (u.1 5), (u.2.2 6), (u.1 7), (u.1 8), (u.2.2 9), rfl, p0⟩)⟩, by show va_P D.1 j_cl (mW D o q (uV (uI (uI (uV (uI (uI (uI (uI (uI (uI u 0 (u.1 0)) 1 (u.1 1)) 2 (u.1 2)) 3 (u.1 3)) 4 (u.1 4)) 5 (u.1 5)) 6 (u.2.2 6)) 7 (u.1 7)) 8 (u.1 8)) 9 (u.2.2 9))) t.heap; rw [ht]; exact hP⟩, hS.F ht⟩) hS.2.2 dX12_map_44 hlk
        · skip
          refine lv_iload SS.1 SS.2.1 dX12_map_33 (lv_at hl 7 rfl) ?_
          refine lv_iload SS.1 SS.2.1 dX12_map_35 (lv_at hl 8 rfl) ?_
          refine j_sRi SS (As := [.int (J e), .int (J f)]) (rest := []) (c_X12_isPlace l D e f (show -2147483648 ≤ e ∧ e ≤ 2147483647 from (by omega)) (show -2147483648 ≤ f ∧ f ≤ 2147483647 from (by omega))) mf_X12_isPlace kw_1166 hG trivial rfl hl.1 ⟨⟨Nat.le_of_ble_eq_true rfl, Nat.le_of_ble_eq_true rfl⟩, Nat.le_of_ble_eq_true rfl, Nat.le_refl _, Nat.le_refl _⟩ rfl dX12_map_37 (fun z_37 h_37 => ?_)
          have h_37 : (z_37 = 1 ∧ (-40 ≤ e ∧ e ≤ 40 ∧ -40 ≤ f ∧ f ≤ 40)) ∨ (z_37 = 0 ∧ ¬ (-40 ≤ e ∧ e ≤ 40 ∧ -40 ≤ f ∧ f ≤ 40)) := h_37
          refine j_if_ne SS (tgt := 45) (x := z_37) dX12_map_40 (by decide) (by omega) (fun c_40 => ?_) (fun c_40 => ?_)
          · skip
            refine lv_iload_n SS.1 SS.2.1 dX12_map_45 rfl (lv_at hl 3 rfl) ?_
            refine lv_iload SS.1 SS.2.1 dX12_map_46 (lv_at hl 6 rfl) ?_
            refine j_imul SS (x := a) (y := d) dX12_map_48 ?_
            refine lv_iload SS.1 SS.2.1 dX12_map_49 (lv_at hl 4 rfl) ?_
            refine lv_iload SS.1 SS.2.1 dX12_map_51 (lv_at hl 5 rfl) ?_
            refine j_imul SS (x := b) (y := c) dX12_map_53 ?_
            refine j_isub SS (x := (a * d)) (y := (b * c)) dX12_map_54 ?_
            have m1 := mulb (A := 40) (B := 40) (a := a) (b := d) (by omega) (by omega)
            have m2 := mulb (A := 40) (B := 40) (a := b) (b := c) (by omega) (by omega)
            refine j_sRi SS (As := [.int (J ((a * d) - (b * c)))]) (rest := []) (c_X12_size l D ((a * d) - (b * c)) (show -2147483648 < ((a * d) - (b * c)) ∧ ((a * d) - (b * c)) ≤ 2147483647 from (by omega))) mf_X12_size kw_1233 hG trivial rfl hl.1 ⟨⟨Nat.le_of_ble_eq_true rfl, Nat.le_of_ble_eq_true rfl⟩, Nat.le_of_ble_eq_true rfl, Nat.le_refl _, Nat.le_refl _⟩ rfl dX12_map_55 (fun z_55 h_55 => ?_)
            have h_55 : (0 ≤ ((a * d) - (b * c)) → z_55 = ((a * d) - (b * c))) ∧ (((a * d) - (b * c)) < 0 → z_55 = -((a * d) - (b * c))) := h_55
            refine j_iconst SS dX12_map_58 ?_
            refine j_icmp_eq SS (tgt := 65) (x := z_55) (y := 1) dX12_map_59 (by decide) (by omega) (by decide) (fun c_59 => ?_) (fun c_59 => ?_)
            · skip
              have hSh := p0.1 s (by omega) (by omega)
              have hN := hSh.1
              refine lv_aload_n SS.1 SS.2.1 dX12_map_65 rfl (lv_at hl 0 rfl) ?_
              refine j_iconst SS dX12_map_66 ?_
              refine j_put SS hG hP (mW_D hD) hS 0 (v := .int (J 0)) (ty := .int) (C := RX12) (T := TX12) (N := 31) rfl rfl inX12 tyX12 tyX12_ok nmX12 6 (by decide) (ref := RX12) kw_1064 rfl rfl (by decide +kernel) rfl rfl (Nat.le_of_ble_eq_true rfl) dX12_map_67 (ws' := (mW D o q (uV u 6 0))) rfl (fun H locs hP hS => ?_)
              refine j_iconst SS dX12_map_70 ?_
              refine lv_istore (lv' := [(9, .int (J 0)), (0, .ref o), (1, .int (J s)), (2, .int (J t2)), (3, .int (J a)), (4, .int (J b)), (5, .int (J c)), (6, .int (J d)), (7, .int (J e)), (8, .int (J f))]) SS.1 SS.2.1 dX12_map_71 hl (by decide) rfl (fun ls hl => ?_)
              have L_73 : ∀ (nn : Nat) (i : Int) (ff : Nat → Int) (g : Nat → Int) (w : Int) (H : Heap) (locs : List Loc) (hP : va_P D.1 j_cl (mW D o q (uV (uI (uI u 4 ff) 5 g) 6 w)) H) (hS : va_S A st.heap H locs) (ls : Array Slot) (hl : lv_has ls 10 [(0, .ref o), (1, .int (J s)), (2, .int (J t2)), (3, .int (J a)), (4, .int (J b)), (5, .int (J c)), (6, .int (J d)), (7, .int (J e)), (8, .int (J f)), (9, .int (J i))]) (i73_0 : 0 ≤ i ∧ i ≤ mN u s) (i73_1 : w = i) (i73_2 : bd 10000 ff g w), (mN u s - i).toNat < nn → W pr l en (headSpec (jw yX12_map cX12_map 10 (some .int)) (jr 3 68)).room st mi (([.ref o, .int (J s), .int (J t2), .int (J a), .int (J b), .int (J c), .int (J d), .int (J e), .int (J f)] : List Value).toArray) below meth co H locs 0 0 (MQ below (jWi (fun z u' => ∃ f0 : Nat → Int, ∃ f1 : Nat → Int, ∃ f2 : Nat → Int, ∃ f3 : Nat → Int, ∃ f4 : Nat → Int, ∃ f5 : Nat → Int, ∃ w : Int, ∃ X : Nat → Int, ∃ Y : Nat → Int, ∃ nh : Int, u' = (uV (uI (uI (uV (uI (uI (uI (uI (uI (uI u 0 f0) 1 f1) 2 f2) 3 f3) 4 f4) 5 f5) 6 w) 7 X) 8 Y) 9 nh) ∧ (IM u')) (fun u' H => va_P D.1 j_cl (mW D o q u') H) A) (([.ref o, .int (J s), .int (J t2), .int (J a), .int (J b), .int (J c), .int (J d), .int (J e), .int (J f)] : List Value).toArray) st 0 0 A) (F0 mi 73 ls []) := by
                intro nn
                induction nn with
                | zero => intros; omega
                | succ nn ih_73 =>
                  intro i ff g w H locs hP hS ls hl i73_0 i73_1 i73_2 hm
                  refine lv_iload SS.1 SS.2.1 dX12_map_73 (lv_at hl 9 rfl) ?_
                  refine lv_aload_n SS.1 SS.2.1 dX12_map_75 rfl (lv_at hl 0 rfl) ?_
                  refine j_get SS hG hP 0 (v := .ref (q 0)) (C := RX12) (T := TX12) (N := 31) rfl rfl inX12 0 (by decide) (ref := RX12) kw_1058 rfl rfl dX12_map_76 ?_
                  refine lv_iload_n SS.1 SS.2.1 dX12_map_79 rfl (lv_at hl 1 rfl) ?_
                  refine j_iald SS hG hP 1 (n := 8) (f := (u.1 0)) rfl (z := s) (by omega) (by omega) dX12_map_80 ?_
                  have hN_80 := (show Sh u s from p0.1 _ (by omega) (by omega)).1
                  refine j_icmp_ge SS (tgt := 141) (x := i) (y := (mN u s)) dX12_map_81 (by decide) (by omega) (by omega) (fun c_81 => ?_) (fun c_81 => ?_)
                  · skip
                    refine lv_aload_n SS.1 SS.2.1 dX12_map_141 rfl (lv_at hl 0 rfl) ?_
                    refine j_vWv SS (As := []) (rest := []) (c_X12_findHull l D o q (uV (uI (uI u 4 ff) 5 g) 6 w) A (mW_D hD)  (show 0 ≤ w ∧ w ≤ 640 from (by omega)) (show bd 10000 (ff) (g) (w) from (i73_2))) mf_X12_findHull kw_1189 hG hP hP (ci := 8) (q0 := 0) rfl rfl rfl hS (fun _ h => h) rfl hl.1 ⟨⟨Nat.le_of_ble_eq_true rfl, Nat.le_of_ble_eq_true rfl⟩, Nat.le_of_ble_eq_true rfl, Nat.le_refl _, Nat.le_refl _⟩ rfl dX12_map_142 (fun u142 H locs h_142 hP _ hS => ?_)
                    obtain ⟨f_142, g_142, w_142, X_142, Y_142, nh_142, rfl, h_142⟩ := h_142
                    have hP : va_P D.1 j_cl (mW D o q (uV (uI (uI (uV (uI (uI u 4 f_142) 5 g_142) 6 w_142) 7 X_142) 8 Y_142) 9 nh_142)) H := hP
                    have h_142 : 0 ≤ nh_142 ∧ nh_142 ≤ 1290 ∧ Ch nh_142 X_142 Y_142 ∧ (0 < w → 0 < nh_142) ∧ bd 10000 X_142 Y_142 nh_142 ∧ ∀ K : Int, bd K (ff) (g) (w) → bd K X_142 Y_142 nh_142 := h_142
                    obtain ⟨a1, a2, a3, a4, a5, a6⟩ := h_142
                    refine lv_aload_n SS.1 SS.2.1 dX12_map_145 rfl (lv_at hl 0 rfl) ?_
                    refine lv_iload_n SS.1 SS.2.1 dX12_map_146 rfl (lv_at hl 2 rfl) ?_
                    refine j_iconst SS dX12_map_147 ?_
                    refine j_vWi SS (As := [.int (J t2), .int (J 1)]) (rest := []) (c_X12_take l D o q (uV (uI (uI (uV (uI (uI u 4 f_142) 5 g_142) 6 w_142) 7 X_142) 8 Y_142) 9 nh_142) A (mW_D hD) t2 1 (show 0 ≤ t2 ∧ t2 ≤ 7 from (by omega)) (show (1 : Int) = 0 ∨ (1 : Int) = 1 from (by omega)) (show 0 ≤ nh_142 ∧ nh_142 ≤ 1290 from (by omega)) (show bd 10000 (X_142) (Y_142) (nh_142) from (a5))) mf_X12_take kw_1162 hG hP hP (ci := 8) (q0 := 0) rfl rfl rfl hS (fun _ h => h) rfl hl.1 ⟨⟨Nat.le_of_ble_eq_true rfl, Nat.le_of_ble_eq_true rfl⟩, Nat.le_of_ble_eq_true rfl, Nat.le_refl _, Nat.le_refl _⟩ rfl dX12_map_148 (fun z_148 u148 H locs h_148 hP _ hS => ?_)
                    obtain ⟨f0_148, f1_148, f2_148, f3_148, rfl, h_148⟩ := h_148
                    have hP : va_P D.1 j_cl (mW D o q (uV (uI (uI (uV (uI (uI (uI (uI (uI (uI u 0 f0_148) 1 f1_148) 2 f2_148) 3 f3_148) 4 f_142) 5 g_142) 6 w_142) 7 X_142) 8 Y_142) 9 nh_142)) H := hP
                    have h_148 : (z_148 = -3 ∧ ¬ tk_ok (1 : Int) 40 (X_142) (Y_142) (nh_142) (nh_142) ∧ f0_148 = (u.1 0) ∧ f1_148 = (u.1 1) ∧ f2_148 = (u.1 2) ∧ f3_148 = (u.1 3)) ∨ (z_148 = nh_142 ∧ tk_ok (1 : Int) 40 (X_142) (Y_142) (nh_142) (nh_142) ∧ tk_new (uV (uI (uI (uV (uI (uI u 4 f_142) 5 g_142) 6 w_142) 7 X_142) 8 Y_142) 9 nh_142) f0_148 f1_148 f2_148 f3_148 t2) := h_148
                    exact W.iret SS.1 SS.2.1 hr (fun t ht hW => ⟨⟨_, (uV (uI (uI (uV (uI (uI (uI (uI (uI (uI u 0 f0_148) 1 f1_148) 2 f2_148) 3 f3_148) 4 f_142) 5 g_142) 6 w_142) 7 X_142) 8 Y_142) 9 nh_142), rfl, ⟨z_148, rfl, (⟨f0_148, f1_148, f2_148, f3_148, f_142, g_142, w_142, X_142, Y_142, nh_142, rfl, (show IM (uI (uI (uI (uI (uV (uI (uI (uV (uI (uI u 4 f_142) 5 g_142) 6 w_142) 7 X_142) 8 Y_142) 9 nh_142) 0 f0_148) 1 f1_148) 2 f2_148) 3 f3_148) from IM_tk (u := (uV (uI (uI (uV (uI (uI u 4 f_142) 5 g_142) 6 w_142) 7 X_142) 8 Y_142) 9 nh_142)) p0 ⟨by omega, by omega⟩ (Or.inr rfl) a1 (fun q => by omega) a3 h_148)⟩)⟩, by show va_P D.1 j_cl (mW D o q (uV (uI (uI (uV (uI (uI (uI (uI (uI (uI u 0 f0_148) 1 f1_148) 2 f2_148) 3 f3_148) 4 f_142) 5 g_142) 6 w_142) 7 X_142) 8 Y_142) 9 nh_142)) t.heap; rw [ht]; exact hP⟩, hS.F ht⟩) hS.2.2 dX12_map_151 hlk
                  · skip
                    refine lv_aload_n SS.1 SS.2.1 dX12_map_84 rfl (lv_at hl 0 rfl) ?_
                    refine lv_iload_n SS.1 SS.2.1 dX12_map_85 rfl (lv_at hl 3 rfl) ?_
                    refine lv_aload_n SS.1 SS.2.1 dX12_map_86 rfl (lv_at hl 0 rfl) ?_
                    refine lv_iload_n SS.1 SS.2.1 dX12_map_87 rfl (lv_at hl 1 rfl) ?_
                    refine lv_iload SS.1 SS.2.1 dX12_map_88 (lv_at hl 9 rfl) ?_
                    refine j_vRi SS (As := [.int (J s), .int (J i)]) (rest := [.int (J a), .ref o]) (c_X12_x l D o q (uV (uI (uI u 4 ff) 5 g) 6 w) s i (show 0 ≤ s ∧ s ≤ 7 from (by omega)) (show 0 ≤ i ∧ i ≤ 1000000 from (by omega)) (show 0 < mN u s ∧ mN u s ≤ 24 from (by first | omega | (have hq := (show Sh u s from p0.1 _ (by omega) (by omega)).1; omega)))) mf_X12_x kw_1177 hG hP hP (ci := 8) (q0 := 0) rfl rfl rfl rfl hl.1 ⟨⟨Nat.le_of_ble_eq_true rfl, Nat.le_of_ble_eq_true rfl⟩, Nat.le_of_ble_eq_true rfl, Nat.le_refl _, Nat.le_refl _⟩ rfl dX12_map_90 (fun z_90 h_90 => ?_)
                    have h_90 : z_90 = mX u s i := h_90
                    have hb_90 := (show Sh u s from p0.1 _ (by omega) (by omega)).2.1 (by omega) i (by omega)
                    refine j_imul SS (x := a) (y := z_90) dX12_map_93 ?_
                    refine lv_iload SS.1 SS.2.1 dX12_map_94 (lv_at hl 4 rfl) ?_
                    refine lv_aload_n SS.1 SS.2.1 dX12_map_96 rfl (lv_at hl 0 rfl) ?_
                    refine lv_iload_n SS.1 SS.2.1 dX12_map_97 rfl (lv_at hl 1 rfl) ?_
                    refine lv_iload SS.1 SS.2.1 dX12_map_98 (lv_at hl 9 rfl) ?_
                    refine j_vRi SS (As := [.int (J s), .int (J i)]) (rest := [.int (J b), .int (J (a * z_90)), .ref o]) (c_X12_y l D o q (uV (uI (uI u 4 ff) 5 g) 6 w) s i (show 0 ≤ s ∧ s ≤ 7 from (by omega)) (show 0 ≤ i ∧ i ≤ 1000000 from (by omega)) (show 0 < mN u s ∧ mN u s ≤ 24 from (by first | omega | (have hq := (show Sh u s from p0.1 _ (by omega) (by omega)).1; omega)))) mf_X12_y kw_1181 hG hP hP (ci := 8) (q0 := 0) rfl rfl rfl rfl hl.1 ⟨⟨Nat.le_of_ble_eq_true rfl, Nat.le_of_ble_eq_true rfl⟩, Nat.le_of_ble_eq_true rfl, Nat.le_refl _, Nat.le_refl _⟩ rfl dX12_map_100 (fun z_100 h_100 => ?_)
                    have h_100 : z_100 = mY u s i := h_100
                    have hb_100 := (show Sh u s from p0.1 _ (by omega) (by omega)).2.1 (by omega) i (by omega)
                    refine j_imul SS (x := b) (y := z_100) dX12_map_103 ?_
                    refine j_iadd SS (x := (a * z_90)) (y := (b * z_100)) dX12_map_104 ?_
                    refine lv_iload SS.1 SS.2.1 dX12_map_105 (lv_at hl 7 rfl) ?_
                    refine j_iadd SS (x := ((a * z_90) + (b * z_100))) (y := e) dX12_map_107 ?_
                    refine lv_iload SS.1 SS.2.1 dX12_map_108 (lv_at hl 5 rfl) ?_
                    refine lv_aload_n SS.1 SS.2.1 dX12_map_110 rfl (lv_at hl 0 rfl) ?_
                    refine lv_iload_n SS.1 SS.2.1 dX12_map_111 rfl (lv_at hl 1 rfl) ?_
                    refine lv_iload SS.1 SS.2.1 dX12_map_112 (lv_at hl 9 rfl) ?_
                    refine j_vRi SS (As := [.int (J s), .int (J i)]) (rest := [.int (J c), .int (J (((a * z_90) + (b * z_100)) + e)), .ref o]) (c_X12_x l D o q (uV (uI (uI u 4 ff) 5 g) 6 w) s i (show 0 ≤ s ∧ s ≤ 7 from (by omega)) (show 0 ≤ i ∧ i ≤ 1000000 from (by omega)) (show 0 < mN u s ∧ mN u s ≤ 24 from (by first | omega | (have hq := (show Sh u s from p0.1 _ (by omega) (by omega)).1; omega)))) mf_X12_x kw_1177 hG hP hP (ci := 8) (q0 := 0) rfl rfl rfl rfl hl.1 ⟨⟨Nat.le_of_ble_eq_true rfl, Nat.le_of_ble_eq_true rfl⟩, Nat.le_of_ble_eq_true rfl, Nat.le_refl _, Nat.le_refl _⟩ rfl dX12_map_114 (fun z_114 h_114 => ?_)
                    have h_114 : z_114 = mX u s i := h_114
                    have hb_114 := (show Sh u s from p0.1 _ (by omega) (by omega)).2.1 (by omega) i (by omega)
                    refine j_imul SS (x := c) (y := z_114) dX12_map_117 ?_
                    refine lv_iload SS.1 SS.2.1 dX12_map_118 (lv_at hl 6 rfl) ?_
                    refine lv_aload_n SS.1 SS.2.1 dX12_map_120 rfl (lv_at hl 0 rfl) ?_
                    refine lv_iload_n SS.1 SS.2.1 dX12_map_121 rfl (lv_at hl 1 rfl) ?_
                    refine lv_iload SS.1 SS.2.1 dX12_map_122 (lv_at hl 9 rfl) ?_
                    refine j_vRi SS (As := [.int (J s), .int (J i)]) (rest := [.int (J d), .int (J (c * z_114)), .int (J (((a * z_90) + (b * z_100)) + e)), .ref o]) (c_X12_y l D o q (uV (uI (uI u 4 ff) 5 g) 6 w) s i (show 0 ≤ s ∧ s ≤ 7 from (by omega)) (show 0 ≤ i ∧ i ≤ 1000000 from (by omega)) (show 0 < mN u s ∧ mN u s ≤ 24 from (by first | omega | (have hq := (show Sh u s from p0.1 _ (by omega) (by omega)).1; omega)))) mf_X12_y kw_1181 hG hP hP (ci := 8) (q0 := 0) rfl rfl rfl rfl hl.1 ⟨⟨Nat.le_of_ble_eq_true rfl, Nat.le_of_ble_eq_true rfl⟩, Nat.le_of_ble_eq_true rfl, Nat.le_refl _, Nat.le_refl _⟩ rfl dX12_map_124 (fun z_124 h_124 => ?_)
                    have h_124 : z_124 = mY u s i := h_124
                    have hb_124 := (show Sh u s from p0.1 _ (by omega) (by omega)).2.1 (by omega) i (by omega)
                    refine j_imul SS (x := d) (y := z_124) dX12_map_127 ?_
                    refine j_iadd SS (x := (c * z_114)) (y := (d * z_124)) dX12_map_128 ?_
                    refine lv_iload SS.1 SS.2.1 dX12_map_129 (lv_at hl 8 rfl) ?_
                    refine j_iadd SS (x := ((c * z_114) + (d * z_124))) (y := f) dX12_map_131 ?_
                    have n1 := mulb (A := 40) (B := 40) (a := a) (b := z_90) (by omega) (by omega)
                    have n2 := mulb (A := 40) (B := 40) (a := b) (b := z_100) (by omega) (by omega)
                    have n3 := mulb (A := 40) (B := 40) (a := c) (b := z_114) (by omega) (by omega)
                    have n4 := mulb (A := 40) (B := 40) (a := d) (b := z_124) (by omega) (by omega)
                    refine j_vWv SS (As := [.int (J (((a * z_90) + (b * z_100)) + e)), .int (J (((c * z_114) + (d * z_124)) + f))]) (rest := []) (c_X12_put l D o q (uV (uI (uI u 4 ff) 5 g) 6 w) A (mW_D hD) (((a * z_90) + (b * z_100)) + e) (((c * z_114) + (d * z_124)) + f) (show 0 ≤ w ∧ w < 640 from (by omega))) mf_X12_put kw_1185 hG hP hP (ci := 8) (q0 := 0) rfl rfl rfl hS (fun _ h => h) rfl hl.1 ⟨⟨Nat.le_of_ble_eq_true rfl, Nat.le_of_ble_eq_true rfl⟩, Nat.le_of_ble_eq_true rfl, Nat.le_refl _, Nat.le_refl _⟩ rfl dX12_map_132 (fun u132 H locs h_132 hP _ hS => ?_)
                    obtain ⟨f_132, g_132, w_132, rfl, h_132⟩ := h_132
                    have hP : va_P D.1 j_cl (mW D o q (uV (uI (uI u 4 f_132) 5 g_132) 6 w_132)) H := hP
                    have h_132 : f_132 = upI (ff) (w).toNat (((a * z_90) + (b * z_100)) + e) ∧ g_132 = upI (g) (w).toNat (((c * z_114) + (d * z_124)) + f) ∧ w_132 = w + 1 := h_132
                    have k1 := h_132.2.2
                    refine lv_iinc (v := J (i + 1)) (lv' := [(9, .int (J (i + 1))), (0, .ref o), (1, .int (J s)), (2, .int (J t2)), (3, .int (J a)), (4, .int (J b)), (5, .int (J c)), (6, .int (J d)), (7, .int (J e)), (8, .int (J f))]) SS.1 SS.2.1 dX12_map_135 hl (k := 9) rfl (J_add _ _) (by decide) rfl (fun ls hl => ?_)
                    refine lv_goto (tgt := 73) SS.1 SS.2.1 dX12_map_138 (by decide) ?_
                    exact ih_73 (i + 1) f_132 g_132 w_132 _ _ hP hS ls (lv_sub hl [1, 2, 3, 4, 5, 6, 7, 8, 9, 0] rfl) (by omega) (by omega) (by obtain ⟨k1, k2, k3⟩ := h_132; rw [k1, k2, k3]; exact bd_put (by omega) i73_2 (by omega) (by omega)) (by omega)
              exact L_73 ((mN u s - (0 : Int)).toNat + 1) 0 (u.1 4) (u.1 5) 0 _ _ hP hS ls (lv_sub hl [1, 2, 3, 4, 5, 6, 7, 8, 9, 0] rfl) (by omega) (by omega) (fun a ha => by omega) (Nat.lt_succ_self _)
            · skip
              refine j_bipush SS dX12_map_62 (by decide +kernel) ?_
              exact W.iret SS.1 SS.2.1 hr (fun t ht hW => ⟨⟨_, (uV (uI (uI (uV (uI (uI (uI (uI (uI (uI u 0 (u.1 0)) 1 (u.1 1)) 2 (u.1 2)) 3 (u.1 3)) 4 (u.1 4)) 5 (u.1 5)) 6 (u.2.2 6)) 7 (u.1 7)) 8 (u.1 8)) 9 (u.2.2 9)), rfl, ⟨(-2), rfl, (⟨(u.1 0), (u.1 1), (u.1 2), (u.1 3), (u.1 4), (u.1 5), (u.2.2 6), (u.1 7), (u.1 8), (u.2.2 9), rfl, p0⟩)⟩, by show va_P D.1 j_cl (mW D o q (uV (uI (uI (uV (uI (uI (uI (uI (uI (uI u 0 (u.1 0)) 1 (u.1 1)) 2 (u.1 2)) 3 (u.1 3)) 4 (u.1 4)) 5 (u.1 5)) 6 (u.2.2 6)) 7 (u.1 7)) 8 (u.1 8)) 9 (u.2.2 9))) t.heap; rw [ht]; exact hP⟩, hS.F ht⟩) hS.2.2 dX12_map_64 hlk
          · skip
            refine j_iconst SS dX12_map_43 ?_
            exact W.iret SS.1 SS.2.1 hr (fun t ht hW => ⟨⟨_, (uV (uI (uI (uV (uI (uI (uI (uI (uI (uI u 0 (u.1 0)) 1 (u.1 1)) 2 (u.1 2)) 3 (u.1 3)) 4 (u.1 4)) 5 (u.1 5)) 6 (u.2.2 6)) 7 (u.1 7)) 8 (u.1 8)) 9 (u.2.2 9)), rfl, ⟨(-1), rfl, (⟨(u.1 0), (u.1 1), (u.1 2), (u.1 3), (u.1 4), (u.1 5), (u.2.2 6), (u.1 7), (u.1 8), (u.2.2 9), rfl, p0⟩)⟩, by show va_P D.1 j_cl (mW D o q (uV (uI (uI (uV (uI (uI (uI (uI (uI (uI u 0 (u.1 0)) 1 (u.1 1)) 2 (u.1 2)) 3 (u.1 3)) 4 (u.1 4)) 5 (u.1 5)) 6 (u.2.2 6)) 7 (u.1 7)) 8 (u.1 8)) 9 (u.2.2 9))) t.heap; rw [ht]; exact hP⟩, hS.F ht⟩) hS.2.2 dX12_map_44 hlk

set_option maxHeartbeats 4000000 in
set_option maxRecDepth 100000 in
theorem c_X12_findSum (l : Launch) (D : JD) (o : Nat) (q : Nat → Nat) (u : MS) (A : Nat → Prop) (hD : va_D A (mW D o q u)) (s : Int) (s2 : Int) (p0 : 0 ≤ s ∧ s ≤ 7) (p1 : Sh u s) (p2 : 0 ≤ s2 ∧ s2 ≤ 7) (p3 : Sh u s2) : Met l yX12_findSum (jw yX12_findSum cX12_findSum 5 none) (jr 3 68) (jP [.ref o, .int (J s), .int (J s2)] D (fun H => va_P D.1 j_cl (mW D o q u) H)) (jWv (fun u' => ∃ f : Nat → Int, ∃ g : Nat → Int, ∃ w : Int, ∃ X : Nat → Int, ∃ Y : Nat → Int, ∃ nh : Int, u' = (uV (uI (uI (uV (uI (uI u 4 f) 5 g) 6 w) 7 X) 8 Y) 9 nh) ∧ (0 ≤ nh ∧ nh ≤ 1290 ∧ Ch nh X Y ∧ bd 10000 X Y nh ∧ bd 80 X Y nh)) (fun u' H => va_P D.1 j_cl (mW D o q u') H) A) 0 0 A := by
  refine Met.ofW (cc := cX12_findSum) (maxL := 5) (ret := none) (by decide) rfl ?_
  intro pr en st mi args below meth co s₁ B hml hv
  obtain ⟨rfl, hG, hP⟩ := hv
  have hr := B.returns
  have hlk := B.notSynchronized
  have SS : jS pr mi co cX12_findSum 5 st _ RX12 := ⟨B.exec, B.bytes, hml, findClass_of_methodNamed B.named, fun w hw => atoms_spec (ws := (jw yX12_findSum cX12_findSum 5 none)) B.pre w (List.mem_cons_of_mem _ hw)⟩
  have hl := lv_entry ([.ref o, .int (J s), .int (J s2)]) (n := 5) (Nat.le_of_ble_eq_true rfl)
  rw [lg_entry_eq]
  generalize (lg_sl ([.ref o, .int (J s), .int (J s2)]) ++ List.replicate (5 - (lg_sl ([.ref o, .int (J s), .int (J s2)])).length) Slot.unset).toArray = ls at hl ⊢
  have hl : lv_has ls 5 [(0, .ref o), (1, .int (J s)), (2, .int (J s2))] := hl
  have hS : va_S A st.heap st.heap [] := va_S.rf
  have hN := p1.1
  have hN2 := p3.1
  refine lv_aload_n SS.1 SS.2.1 dX12_findSum_0 rfl (lv_at hl 0 rfl) ?_
  refine j_iconst SS dX12_findSum_1 ?_
  refine j_put SS hG hP (mW_D hD) hS 0 (v := .int (J 0)) (ty := .int) (C := RX12) (T := TX12) (N := 31) rfl rfl inX12 tyX12 tyX12_ok nmX12 6 (by decide) (ref := RX12) kw_1064 rfl rfl (by decide +kernel) rfl rfl (Nat.le_of_ble_eq_true rfl) dX12_findSum_2 (ws' := (mW D o q (uV u 6 0))) rfl (fun H locs hP hS => ?_)
  refine j_iconst SS dX12_findSum_5 ?_
  refine lv_istore_n (lv' := [(3, .int (J 0)), (0, .ref o), (1, .int (J s)), (2, .int (J s2))]) SS.1 SS.2.1 dX12_findSum_6 rfl hl (by decide) rfl (fun ls hl => ?_)
  have L_7 : ∀ (nn : Nat) (i : Int) (f : Nat → Int) (g : Nat → Int) (w : Int) (H : Heap) (locs : List Loc) (hP : va_P D.1 j_cl (mW D o q (uV (uI (uI u 4 f) 5 g) 6 w)) H) (hS : va_S A st.heap H locs) (ls : Array Slot) (hl : lv_has ls 5 [(0, .ref o), (1, .int (J s)), (2, .int (J s2)), (3, .int (J i))]) (i7_0 : 0 ≤ i ∧ i ≤ mN u s) (i7_1 : 0 ≤ w ∧ w ≤ 24 * i) (i7_2 : bd 80 f g w), (mN u s - i).toNat < nn → W pr l en (headSpec (jw yX12_findSum cX12_findSum 5 none) (jr 3 68)).room st mi (([.ref o, .int (J s), .int (J s2)] : List Value).toArray) below meth co H locs 0 0 (MQ below (jWv (fun u' => ∃ f : Nat → Int, ∃ g : Nat → Int, ∃ w : Int, ∃ X : Nat → Int, ∃ Y : Nat → Int, ∃ nh : Int, u' = (uV (uI (uI (uV (uI (uI u 4 f) 5 g) 6 w) 7 X) 8 Y) 9 nh) ∧ (0 ≤ nh ∧ nh ≤ 1290 ∧ Ch nh X Y ∧ bd 10000 X Y nh ∧ bd 80 X Y nh)) (fun u' H => va_P D.1 j_cl (mW D o q u') H) A) (([.ref o, .int (J s), .int (J s2)] : List Value).toArray) st 0 0 A) (F0 mi 7 ls []) := by
    intro nn
    induction nn with
    | zero => intros; omega
    | succ nn ih_7 =>
      intro i f g w H locs hP hS ls hl i7_0 i7_1 i7_2 hm
      refine lv_iload_n SS.1 SS.2.1 dX12_findSum_7 rfl (lv_at hl 3 rfl) ?_
      refine lv_aload_n SS.1 SS.2.1 dX12_findSum_8 rfl (lv_at hl 0 rfl) ?_
      refine j_get SS hG hP 0 (v := .ref (q 0)) (C := RX12) (T := TX12) (N := 31) rfl rfl inX12 0 (by decide) (ref := RX12) kw_1058 rfl rfl dX12_findSum_9 ?_
      refine lv_iload_n SS.1 SS.2.1 dX12_findSum_12 rfl (lv_at hl 1 rfl) ?_
      refine j_iald SS hG hP 1 (n := 8) (f := (u.1 0)) rfl (z := s) (by omega) (by omega) dX12_findSum_13 ?_
      have hN_13 := (show Sh u s from (by first | exact p1 | exact p3)).1
      refine j_icmp_ge SS (tgt := 75) (x := i) (y := (mN u s)) dX12_findSum_14 (by decide) (by omega) (by omega) (fun c_14 => ?_) (fun c_14 => ?_)
      · skip
        refine lv_aload_n SS.1 SS.2.1 dX12_findSum_75 rfl (lv_at hl 0 rfl) ?_
        refine j_vWv SS (As := []) (rest := []) (c_X12_findHull l D o q (uV (uI (uI u 4 f) 5 g) 6 w) A (mW_D hD)  (show 0 ≤ w ∧ w ≤ 640 from (by omega)) (show bd 10000 (f) (g) (w) from (bd_K i7_2 (by omega)))) mf_X12_findHull kw_1189 hG hP hP (ci := 8) (q0 := 0) rfl rfl rfl hS (fun _ h => h) rfl hl.1 ⟨⟨Nat.le_of_ble_eq_true rfl, Nat.le_of_ble_eq_true rfl⟩, Nat.le_of_ble_eq_true rfl, Nat.le_refl _, Nat.le_refl _⟩ rfl dX12_findSum_76 (fun u76 H locs h_76 hP _ hS => ?_)
        obtain ⟨f_76, g_76, w_76, X_76, Y_76, nh_76, rfl, h_76⟩ := h_76
        have hP : va_P D.1 j_cl (mW D o q (uV (uI (uI (uV (uI (uI u 4 f_76) 5 g_76) 6 w_76) 7 X_76) 8 Y_76) 9 nh_76)) H := hP
        have h_76 : 0 ≤ nh_76 ∧ nh_76 ≤ 1290 ∧ Ch nh_76 X_76 Y_76 ∧ (0 < w → 0 < nh_76) ∧ bd 10000 X_76 Y_76 nh_76 ∧ ∀ K : Int, bd K (f) (g) (w) → bd K X_76 Y_76 nh_76 := h_76
        obtain ⟨a1, a2, a3, a4, a5, a6⟩ := h_76
        exact W.vret SS.1 SS.2.1 hr (fun t ht hW => ⟨⟨(uV (uI (uI (uV (uI (uI u 4 f_76) 5 g_76) 6 w_76) 7 X_76) 8 Y_76) 9 nh_76), rfl, (⟨f_76, g_76, w_76, X_76, Y_76, nh_76, rfl, ⟨a1, a2, a3, a5, a6 80 i7_2⟩⟩), by show va_P D.1 j_cl (mW D o q (uV (uI (uI (uV (uI (uI u 4 f_76) 5 g_76) 6 w_76) 7 X_76) 8 Y_76) 9 nh_76)) t.heap; rw [ht]; exact hP⟩, hS.F ht⟩) hS.2.2 dX12_findSum_79 hlk
      · skip
        refine j_iconst SS dX12_findSum_17 ?_
        refine lv_istore (lv' := [(4, .int (J 0)), (0, .ref o), (1, .int (J s)), (2, .int (J s2)), (3, .int (J i))]) SS.1 SS.2.1 dX12_findSum_18 hl (by decide) rfl (fun ls hl => ?_)
        have L_20 : ∀ (nn : Nat) (j : Int) (f_ : Nat → Int) (g_ : Nat → Int) (w_ : Int) (H : Heap) (locs : List Loc) (hP : va_P D.1 j_cl (mW D o q (uV (uI (uI u 4 f_) 5 g_) 6 w_)) H) (hS : va_S A st.heap H locs) (ls : Array Slot) (hl : lv_has ls 5 [(0, .ref o), (1, .int (J s)), (2, .int (J s2)), (3, .int (J i)), (4, .int (J j))]) (i20_0 : 0 ≤ j ∧ j ≤ mN u s2) (i20_1 : 0 ≤ w_ ∧ w_ ≤ 24 * i + j) (i20_2 : bd 80 f_ g_ w_), (mN u s2 - j).toNat < nn → W pr l en (headSpec (jw yX12_findSum cX12_findSum 5 none) (jr 3 68)).room st mi (([.ref o, .int (J s), .int (J s2)] : List Value).toArray) below meth co H locs 0 0 (MQ below (jWv (fun u' => ∃ f : Nat → Int, ∃ g : Nat → Int, ∃ w : Int, ∃ X : Nat → Int, ∃ Y : Nat → Int, ∃ nh : Int, u' = (uV (uI (uI (uV (uI (uI u 4 f) 5 g) 6 w) 7 X) 8 Y) 9 nh) ∧ (0 ≤ nh ∧ nh ≤ 1290 ∧ Ch nh X Y ∧ bd 10000 X Y nh ∧ bd 80 X Y nh)) (fun u' H => va_P D.1 j_cl (mW D o q u') H) A) (([.ref o, .int (J s), .int (J s2)] : List Value).toArray) st 0 0 A) (F0 mi 20 ls []) := by
          intro nn
          induction nn with
          | zero => intros; omega
          | succ nn ih_20 =>
            intro j f_ g_ w_ H locs hP hS ls hl i20_0 i20_1 i20_2 hm
            refine lv_iload SS.1 SS.2.1 dX12_findSum_20 (lv_at hl 4 rfl) ?_
            refine lv_aload_n SS.1 SS.2.1 dX12_findSum_22 rfl (lv_at hl 0 rfl) ?_
            refine j_get SS hG hP 0 (v := .ref (q 0)) (C := RX12) (T := TX12) (N := 31) rfl rfl inX12 0 (by decide) (ref := RX12) kw_1058 rfl rfl dX12_findSum_23 ?_
            refine lv_iload_n SS.1 SS.2.1 dX12_findSum_26 rfl (lv_at hl 2 rfl) ?_
            refine j_iald SS hG hP 1 (n := 8) (f := (u.1 0)) rfl (z := s2) (by omega) (by omega) dX12_findSum_27 ?_
            have hN_27 := (show Sh u s2 from (by first | exact p1 | exact p3)).1
            refine j_icmp_ge SS (tgt := 69) (x := j) (y := (mN u s2)) dX12_findSum_28 (by decide) (by omega) (by omega) (fun c_28 => ?_) (fun c_28 => ?_)
            · skip
              refine lv_iinc (v := J (i + 1)) (lv' := [(3, .int (J (i + 1))), (0, .ref o), (1, .int (J s)), (2, .int (J s2)), (4, .int (J j))]) SS.1 SS.2.1 dX12_findSum_69 hl (k := 3) rfl (J_add _ _) (by decide) rfl (fun ls hl => ?_)
              refine lv_goto (tgt := 7) SS.1 SS.2.1 dX12_findSum_72 (by decide) ?_
              exact ih_7 (i + 1) f_ g_ w_ _ _ hP hS ls (lv_sub hl [1, 2, 3, 0] rfl) (by omega) (by omega) (i20_2) (by omega)
            · skip
              refine lv_aload_n SS.1 SS.2.1 dX12_findSum_31 rfl (lv_at hl 0 rfl) ?_
              refine lv_aload_n SS.1 SS.2.1 dX12_findSum_32 rfl (lv_at hl 0 rfl) ?_
              refine lv_iload_n SS.1 SS.2.1 dX12_findSum_33 rfl (lv_at hl 1 rfl) ?_
              refine lv_iload_n SS.1 SS.2.1 dX12_findSum_34 rfl (lv_at hl 3 rfl) ?_
              refine j_vRi SS (As := [.int (J s), .int (J i)]) (rest := [.ref o]) (c_X12_x l D o q (uV (uI (uI u 4 f_) 5 g_) 6 w_) s i (show 0 ≤ s ∧ s ≤ 7 from (by omega)) (show 0 ≤ i ∧ i ≤ 1000000 from (by omega)) (show 0 < mN u s ∧ mN u s ≤ 24 from (by first | omega | (have hq := (show Sh u s from (by first | exact p1 | exact p3)).1; omega)))) mf_X12_x kw_1177 hG hP hP (ci := 8) (q0 := 0) rfl rfl rfl rfl hl.1 ⟨⟨Nat.le_of_ble_eq_true rfl, Nat.le_of_ble_eq_true rfl⟩, Nat.le_of_ble_eq_true rfl, Nat.le_refl _, Nat.le_refl _⟩ rfl dX12_findSum_35 (fun z_35 h_35 => ?_)
              have h_35 : z_35 = mX u s i := h_35
              have hb_35 := (show Sh u s from (by first | exact p1 | exact p3)).2.1 (by omega) i (by omega)
              refine lv_aload_n SS.1 SS.2.1 dX12_findSum_38 rfl (lv_at hl 0 rfl) ?_
              refine lv_iload_n SS.1 SS.2.1 dX12_findSum_39 rfl (lv_at hl 2 rfl) ?_
              refine lv_iload SS.1 SS.2.1 dX12_findSum_40 (lv_at hl 4 rfl) ?_
              refine j_vRi SS (As := [.int (J s2), .int (J j)]) (rest := [.int (J z_35), .ref o]) (c_X12_x l D o q (uV (uI (uI u 4 f_) 5 g_) 6 w_) s2 j (show 0 ≤ s2 ∧ s2 ≤ 7 from (by omega)) (show 0 ≤ j ∧ j ≤ 1000000 from (by omega)) (show 0 < mN u s2 ∧ mN u s2 ≤ 24 from (by first | omega | (have hq := (show Sh u s2 from (by first | exact p1 | exact p3)).1; omega)))) mf_X12_x kw_1177 hG hP hP (ci := 8) (q0 := 0) rfl rfl rfl rfl hl.1 ⟨⟨Nat.le_of_ble_eq_true rfl, Nat.le_of_ble_eq_true rfl⟩, Nat.le_of_ble_eq_true rfl, Nat.le_refl _, Nat.le_refl _⟩ rfl dX12_findSum_42 (fun z_42 h_42 => ?_)
              have h_42 : z_42 = mX u s2 j := h_42
              have hb_42 := (show Sh u s2 from (by first | exact p1 | exact p3)).2.1 (by omega) j (by omega)
              refine j_iadd SS (x := z_35) (y := z_42) dX12_findSum_45 ?_
              refine lv_aload_n SS.1 SS.2.1 dX12_findSum_46 rfl (lv_at hl 0 rfl) ?_
              refine lv_iload_n SS.1 SS.2.1 dX12_findSum_47 rfl (lv_at hl 1 rfl) ?_
              refine lv_iload_n SS.1 SS.2.1 dX12_findSum_48 rfl (lv_at hl 3 rfl) ?_
              refine j_vRi SS (As := [.int (J s), .int (J i)]) (rest := [.int (J (z_35 + z_42)), .ref o]) (c_X12_y l D o q (uV (uI (uI u 4 f_) 5 g_) 6 w_) s i (show 0 ≤ s ∧ s ≤ 7 from (by omega)) (show 0 ≤ i ∧ i ≤ 1000000 from (by omega)) (show 0 < mN u s ∧ mN u s ≤ 24 from (by first | omega | (have hq := (show Sh u s from (by first | exact p1 | exact p3)).1; omega)))) mf_X12_y kw_1181 hG hP hP (ci := 8) (q0 := 0) rfl rfl rfl rfl hl.1 ⟨⟨Nat.le_of_ble_eq_true rfl, Nat.le_of_ble_eq_true rfl⟩, Nat.le_of_ble_eq_true rfl, Nat.le_refl _, Nat.le_refl _⟩ rfl dX12_findSum_49 (fun z_49 h_49 => ?_)
              have h_49 : z_49 = mY u s i := h_49
              have hb_49 := (show Sh u s from (by first | exact p1 | exact p3)).2.1 (by omega) i (by omega)
              refine lv_aload_n SS.1 SS.2.1 dX12_findSum_52 rfl (lv_at hl 0 rfl) ?_
              refine lv_iload_n SS.1 SS.2.1 dX12_findSum_53 rfl (lv_at hl 2 rfl) ?_
              refine lv_iload SS.1 SS.2.1 dX12_findSum_54 (lv_at hl 4 rfl) ?_
              refine j_vRi SS (As := [.int (J s2), .int (J j)]) (rest := [.int (J z_49), .int (J (z_35 + z_42)), .ref o]) (c_X12_y l D o q (uV (uI (uI u 4 f_) 5 g_) 6 w_) s2 j (show 0 ≤ s2 ∧ s2 ≤ 7 from (by omega)) (show 0 ≤ j ∧ j ≤ 1000000 from (by omega)) (show 0 < mN u s2 ∧ mN u s2 ≤ 24 from (by first | omega | (have hq := (show Sh u s2 from (by first | exact p1 | exact p3)).1; omega)))) mf_X12_y kw_1181 hG hP hP (ci := 8) (q0 := 0) rfl rfl rfl rfl hl.1 ⟨⟨Nat.le_of_ble_eq_true rfl, Nat.le_of_ble_eq_true rfl⟩, Nat.le_of_ble_eq_true rfl, Nat.le_refl _, Nat.le_refl _⟩ rfl dX12_findSum_56 (fun z_56 h_56 => ?_)
              have h_56 : z_56 = mY u s2 j := h_56
              have hb_56 := (show Sh u s2 from (by first | exact p1 | exact p3)).2.1 (by omega) j (by omega)
              refine j_iadd SS (x := z_49) (y := z_56) dX12_findSum_59 ?_
              refine j_vWv SS (As := [.int (J (z_35 + z_42)), .int (J (z_49 + z_56))]) (rest := []) (c_X12_put l D o q (uV (uI (uI u 4 f_) 5 g_) 6 w_) A (mW_D hD) (z_35 + z_42) (z_49 + z_56) (show 0 ≤ w_ ∧ w_ < 640 from (by omega))) mf_X12_put kw_1185 hG hP hP (ci := 8) (q0 := 0) rfl rfl rfl hS (fun _ h => h) rfl hl.1 ⟨⟨Nat.le_of_ble_eq_true rfl, Nat.le_of_ble_eq_true rfl⟩, Nat.le_of_ble_eq_true rfl, Nat.le_refl _, Nat.le_refl _⟩ rfl dX12_findSum_60 (fun u60 H locs h_60 hP _ hS => ?_)
              obtain ⟨f_60, g_60, w_60, rfl, h_60⟩ := h_60
              have hP : va_P D.1 j_cl (mW D o q (uV (uI (uI u 4 f_60) 5 g_60) 6 w_60)) H := hP
              have h_60 : f_60 = upI (f_) (w_).toNat (z_35 + z_42) ∧ g_60 = upI (g_) (w_).toNat (z_49 + z_56) ∧ w_60 = w_ + 1 := h_60
              have k1 := h_60.2.2
              refine lv_iinc (v := J (j + 1)) (lv' := [(4, .int (J (j + 1))), (0, .ref o), (1, .int (J s)), (2, .int (J s2)), (3, .int (J i))]) SS.1 SS.2.1 dX12_findSum_63 hl (k := 4) rfl (J_add _ _) (by decide) rfl (fun ls hl => ?_)
              refine lv_goto (tgt := 20) SS.1 SS.2.1 dX12_findSum_66 (by decide) ?_
              exact ih_20 (j + 1) f_60 g_60 w_60 _ _ hP hS ls (lv_sub hl [1, 2, 3, 4, 0] rfl) (by omega) (by omega) (by obtain ⟨k1, k2, k3⟩ := h_60; rw [k1, k2, k3]; exact bd_put (by omega) i20_2 (by omega) (by omega)) (by omega)
        exact L_20 ((mN u s2 - (0 : Int)).toNat + 1) 0 f g w _ _ hP hS ls (lv_sub hl [1, 2, 3, 4, 0] rfl) (by omega) (by omega) (i7_2) (Nat.lt_succ_self _)
  exact L_7 ((mN u s - (0 : Int)).toNat + 1) 0 (u.1 4) (u.1 5) 0 _ _ hP hS ls (lv_sub hl [1, 2, 3, 0] rfl) (by omega) (by omega) (fun a ha => by omega) (Nat.lt_succ_self _)

set_option maxHeartbeats 4000000 in
set_option maxRecDepth 100000 in
theorem c_X12_sum (l : Launch) (D : JD) (o : Nat) (q : Nat → Nat) (u : MS) (A : Nat → Prop) (hD : va_D A (mW D o q u)) (s : Int) (s2 : Int) (t2 : Int) (p0 : IM u) (p1 : -2147483648 ≤ s ∧ s ≤ 2147483647) (p2 : -2147483648 ≤ s2 ∧ s2 ≤ 2147483647) (p3 : -2147483648 ≤ t2 ∧ t2 ≤ 2147483647) : Met l yX12_sum (jw yX12_sum cX12_sum 4 (some .int)) (jr 4 92) (jP [.ref o, .int (J s), .int (J s2), .int (J t2)] D (fun H => va_P D.1 j_cl (mW D o q u) H)) (jWi (fun z u' => ∃ f0 : Nat → Int, ∃ f1 : Nat → Int, ∃ f2 : Nat → Int, ∃ f3 : Nat → Int, ∃ f4 : Nat → Int, ∃ f5 : Nat → Int, ∃ w : Int, ∃ X : Nat → Int, ∃ Y : Nat → Int, ∃ nh : Int, u' = (uV (uI (uI (uV (uI (uI (uI (uI (uI (uI u 0 f0) 1 f1) 2 f2) 3 f3) 4 f4) 5 f5) 6 w) 7 X) 8 Y) 9 nh) ∧ (IM u')) (fun u' H => va_P D.1 j_cl (mW D o q u') H) A) 0 0 A := by
  refine Met.ofW (cc := cX12_sum) (maxL := 4) (ret := (some .int)) (by decide) rfl ?_
  intro pr en st mi args below meth co s₁ B hml hv
  obtain ⟨rfl, hG, hP⟩ := hv
  have hr := B.returns
  have hlk := B.notSynchronized
  have SS : jS pr mi co cX12_sum 4 st _ RX12 := ⟨B.exec, B.bytes, hml, findClass_of_methodNamed B.named, fun w hw => atoms_spec (ws := (jw yX12_sum cX12_sum 4 (some .int))) B.pre w (List.mem_cons_of_mem _ hw)⟩
  have hl := lv_entry ([.ref o, .int (J s), .int (J s2), .int (J t2)]) (n := 4) (Nat.le_of_ble_eq_true rfl)
  rw [lg_entry_eq]
  generalize (lg_sl ([.ref o, .int (J s), .int (J s2), .int (J t2)]) ++ List.replicate (4 - (lg_sl ([.ref o, .int (J s), .int (J s2), .int (J t2)])).length) Slot.unset).toArray = ls at hl ⊢
  have hl : lv_has ls 4 [(0, .ref o), (1, .int (J s)), (2, .int (J s2)), (3, .int (J t2))] := hl
  have hS : va_S A st.heap st.heap [] := va_S.rf
  refine lv_iload_n SS.1 SS.2.1 dX12_sum_0 rfl (lv_at hl 1 rfl) ?_
  refine j_sRi SS (As := [.int (J s)]) (rest := []) (c_X12_isShape l D s (show -2147483648 ≤ s ∧ s ≤ 2147483647 from (by omega))) mf_X12_isShape kw_1156 hG trivial rfl hl.1 ⟨⟨Nat.le_of_ble_eq_true rfl, Nat.le_of_ble_eq_true rfl⟩, Nat.le_of_ble_eq_true rfl, Nat.le_refl _, Nat.le_refl _⟩ rfl dX12_sum_1 (fun z_1 h_1 => ?_)
  have h_1 : (z_1 = 1 ∧ (0 ≤ s ∧ s ≤ 7)) ∨ (z_1 = 0 ∧ ¬ (0 ≤ s ∧ s ≤ 7)) := h_1
  refine j_if_eq SS (tgt := 21) (x := z_1) dX12_sum_4 (by decide) (by omega) (fun c_4 => ?_) (fun c_4 => ?_)
  · skip
    refine j_iconst SS dX12_sum_21 ?_
    exact W.iret SS.1 SS.2.1 hr (fun t ht hW => ⟨⟨_, (uV (uI (uI (uV (uI (uI (uI (uI (uI (uI u 0 (u.1 0)) 1 (u.1 1)) 2 (u.1 2)) 3 (u.1 3)) 4 (u.1 4)) 5 (u.1 5)) 6 (u.2.2 6)) 7 (u.1 7)) 8 (u.1 8)) 9 (u.2.2 9)), rfl, ⟨(-1), rfl, (⟨(u.1 0), (u.1 1), (u.1 2), (u.1 3), (u.1 4), (u.1 5), (u.2.2 6), (u.1 7), (u.1 8), (u.2.2 9), rfl, p0⟩)⟩, by show va_P D.1 j_cl (mW D o q (uV (uI (uI (uV (uI (uI (uI (uI (uI (uI u 0 (u.1 0)) 1 (u.1 1)) 2 (u.1 2)) 3 (u.1 3)) 4 (u.1 4)) 5 (u.1 5)) 6 (u.2.2 6)) 7 (u.1 7)) 8 (u.1 8)) 9 (u.2.2 9))) t.heap; rw [ht]; exact hP⟩, hS.F ht⟩) hS.2.2 dX12_sum_22 hlk
  · skip
    refine lv_iload_n SS.1 SS.2.1 dX12_sum_7 rfl (lv_at hl 2 rfl) ?_
    refine j_sRi SS (As := [.int (J s2)]) (rest := []) (c_X12_isShape l D s2 (show -2147483648 ≤ s2 ∧ s2 ≤ 2147483647 from (by omega))) mf_X12_isShape kw_1156 hG trivial rfl hl.1 ⟨⟨Nat.le_of_ble_eq_true rfl, Nat.le_of_ble_eq_true rfl⟩, Nat.le_of_ble_eq_true rfl, Nat.le_refl _, Nat.le_refl _⟩ rfl dX12_sum_8 (fun z_8 h_8 => ?_)
    have h_8 : (z_8 = 1 ∧ (0 ≤ s2 ∧ s2 ≤ 7)) ∨ (z_8 = 0 ∧ ¬ (0 ≤ s2 ∧ s2 ≤ 7)) := h_8
    refine j_if_eq SS (tgt := 21) (x := z_8) dX12_sum_11 (by decide) (by omega) (fun c_11 => ?_) (fun c_11 => ?_)
    · skip
      refine j_iconst SS dX12_sum_21 ?_
      exact W.iret SS.1 SS.2.1 hr (fun t ht hW => ⟨⟨_, (uV (uI (uI (uV (uI (uI (uI (uI (uI (uI u 0 (u.1 0)) 1 (u.1 1)) 2 (u.1 2)) 3 (u.1 3)) 4 (u.1 4)) 5 (u.1 5)) 6 (u.2.2 6)) 7 (u.1 7)) 8 (u.1 8)) 9 (u.2.2 9)), rfl, ⟨(-1), rfl, (⟨(u.1 0), (u.1 1), (u.1 2), (u.1 3), (u.1 4), (u.1 5), (u.2.2 6), (u.1 7), (u.1 8), (u.2.2 9), rfl, p0⟩)⟩, by show va_P D.1 j_cl (mW D o q (uV (uI (uI (uV (uI (uI (uI (uI (uI (uI u 0 (u.1 0)) 1 (u.1 1)) 2 (u.1 2)) 3 (u.1 3)) 4 (u.1 4)) 5 (u.1 5)) 6 (u.2.2 6)) 7 (u.1 7)) 8 (u.1 8)) 9 (u.2.2 9))) t.heap; rw [ht]; exact hP⟩, hS.F ht⟩) hS.2.2 dX12_sum_22 hlk
    · skip
      refine lv_iload_n SS.1 SS.2.1 dX12_sum_14 rfl (lv_at hl 3 rfl) ?_
      refine j_sRi SS (As := [.int (J t2)]) (rest := []) (c_X12_isShape l D t2 (show -2147483648 ≤ t2 ∧ t2 ≤ 2147483647 from (by omega))) mf_X12_isShape kw_1156 hG trivial rfl hl.1 ⟨⟨Nat.le_of_ble_eq_true rfl, Nat.le_of_ble_eq_true rfl⟩, Nat.le_of_ble_eq_true rfl, Nat.le_refl _, Nat.le_refl _⟩ rfl dX12_sum_15 (fun z_15 h_15 => ?_)
      have h_15 : (z_15 = 1 ∧ (0 ≤ t2 ∧ t2 ≤ 7)) ∨ (z_15 = 0 ∧ ¬ (0 ≤ t2 ∧ t2 ≤ 7)) := h_15
      refine j_if_ne SS (tgt := 23) (x := z_15) dX12_sum_18 (by decide) (by omega) (fun c_18 => ?_) (fun c_18 => ?_)
      · skip
        refine lv_aload_n SS.1 SS.2.1 dX12_sum_23 rfl (lv_at hl 0 rfl) ?_
        refine lv_iload_n SS.1 SS.2.1 dX12_sum_24 rfl (lv_at hl 1 rfl) ?_
        refine lv_iload_n SS.1 SS.2.1 dX12_sum_25 rfl (lv_at hl 2 rfl) ?_
        refine j_vWv SS (As := [.int (J s), .int (J s2)]) (rest := []) (c_X12_findSum l D o q u A (mW_D hD) s s2 (show 0 ≤ s ∧ s ≤ 7 from (by omega)) (show Sh u s from (p0.1 _ (by omega) (by omega))) (show 0 ≤ s2 ∧ s2 ≤ 7 from (by omega)) (show Sh u s2 from (p0.1 _ (by omega) (by omega)))) mf_X12_findSum kw_1317 hG hP hP (ci := 8) (q0 := 0) rfl rfl rfl hS (fun _ h => h) rfl hl.1 ⟨⟨Nat.le_of_ble_eq_true rfl, Nat.le_of_ble_eq_true rfl⟩, Nat.le_of_ble_eq_true rfl, Nat.le_refl _, Nat.le_refl _⟩ rfl dX12_sum_26 (fun u26 H locs h_26 hP _ hS => ?_)
        obtain ⟨f_26, g_26, w_26, X_26, Y_26, nh_26, rfl, h_26⟩ := h_26
        have hP : va_P D.1 j_cl (mW D o q (uV (uI (uI (uV (uI (uI u 4 f_26) 5 g_26) 6 w_26) 7 X_26) 8 Y_26) 9 nh_26)) H := hP
        have h_26 : 0 ≤ nh_26 ∧ nh_26 ≤ 1290 ∧ Ch nh_26 X_26 Y_26 ∧ bd 10000 X_26 Y_26 nh_26 ∧ bd 80 X_26 Y_26 nh_26 := h_26
        obtain ⟨a1, a2, a3, a4, a5⟩ := h_26
        refine lv_aload_n SS.1 SS.2.1 dX12_sum_29 rfl (lv_at hl 0 rfl) ?_
        refine lv_iload_n SS.1 SS.2.1 dX12_sum_30 rfl (lv_at hl 3 rfl) ?_
        refine j_iconst SS dX12_sum_31 ?_
        refine j_vWi SS (As := [.int (J t2), .int (J 1)]) (rest := []) (c_X12_take l D o q (uV (uI (uI (uV (uI (uI u 4 f_26) 5 g_26) 6 w_26) 7 X_26) 8 Y_26) 9 nh_26) A (mW_D hD) t2 1 (show 0 ≤ t2 ∧ t2 ≤ 7 from (by omega)) (show (1 : Int) = 0 ∨ (1 : Int) = 1 from (by omega)) (show 0 ≤ nh_26 ∧ nh_26 ≤ 1290 from (by omega)) (show bd 10000 (X_26) (Y_26) (nh_26) from (a4))) mf_X12_take kw_1162 hG hP hP (ci := 8) (q0 := 0) rfl rfl rfl hS (fun _ h => h) rfl hl.1 ⟨⟨Nat.le_of_ble_eq_true rfl, Nat.le_of_ble_eq_true rfl⟩, Nat.le_of_ble_eq_true rfl, Nat.le_refl _, Nat.le_refl _⟩ rfl dX12_sum_32 (fun z_32 u32 H locs h_32 hP _ hS => ?_)
        obtain ⟨f0_32, f1_32, f2_32, f3_32, rfl, h_32⟩ := h_32
        have hP : va_P D.1 j_cl (mW D o q (uV (uI (uI (uV (uI (uI (uI (uI (uI (uI u 0 f0_32) 1 f1_32) 2 f2_32) 3 f3_32) 4 f_26) 5 g_26) 6 w_26) 7 X_26) 8 Y_26) 9 nh_26)) H := hP
        have h_32 : (z_32 = -3 ∧ ¬ tk_ok (1 : Int) 40 (X_26) (Y_26) (nh_26) (nh_26) ∧ f0_32 = (u.1 0) ∧ f1_32 = (u.1 1) ∧ f2_32 = (u.1 2) ∧ f3_32 = (u.1 3)) ∨ (z_32 = nh_26 ∧ tk_ok (1 : Int) 40 (X_26) (Y_26) (nh_26) (nh_26) ∧ tk_new (uV (uI (uI (uV (uI (uI u 4 f_26) 5 g_26) 6 w_26) 7 X_26) 8 Y_26) 9 nh_26) f0_32 f1_32 f2_32 f3_32 t2) := h_32
        exact W.iret SS.1 SS.2.1 hr (fun t ht hW => ⟨⟨_, (uV (uI (uI (uV (uI (uI (uI (uI (uI (uI u 0 f0_32) 1 f1_32) 2 f2_32) 3 f3_32) 4 f_26) 5 g_26) 6 w_26) 7 X_26) 8 Y_26) 9 nh_26), rfl, ⟨z_32, rfl, (⟨f0_32, f1_32, f2_32, f3_32, f_26, g_26, w_26, X_26, Y_26, nh_26, rfl, (show IM (uI (uI (uI (uI (uV (uI (uI (uV (uI (uI u 4 f_26) 5 g_26) 6 w_26) 7 X_26) 8 Y_26) 9 nh_26) 0 f0_32) 1 f1_32) 2 f2_32) 3 f3_32) from IM_tk (u := (uV (uI (uI (uV (uI (uI u 4 f_26) 5 g_26) 6 w_26) 7 X_26) 8 Y_26) 9 nh_26)) p0 ⟨by omega, by omega⟩ (Or.inr rfl) a1 (fun q => by omega) a3 h_32)⟩)⟩, by show va_P D.1 j_cl (mW D o q (uV (uI (uI (uV (uI (uI (uI (uI (uI (uI u 0 f0_32) 1 f1_32) 2 f2_32) 3 f3_32) 4 f_26) 5 g_26) 6 w_26) 7 X_26) 8 Y_26) 9 nh_26)) t.heap; rw [ht]; exact hP⟩, hS.F ht⟩) hS.2.2 dX12_sum_35 hlk
      · skip
        refine j_iconst SS dX12_sum_21 ?_
        exact W.iret SS.1 SS.2.1 hr (fun t ht hW => ⟨⟨_, (uV (uI (uI (uV (uI (uI (uI (uI (uI (uI u 0 (u.1 0)) 1 (u.1 1)) 2 (u.1 2)) 3 (u.1 3)) 4 (u.1 4)) 5 (u.1 5)) 6 (u.2.2 6)) 7 (u.1 7)) 8 (u.1 8)) 9 (u.2.2 9)), rfl, ⟨(-1), rfl, (⟨(u.1 0), (u.1 1), (u.1 2), (u.1 3), (u.1 4), (u.1 5), (u.2.2 6), (u.1 7), (u.1 8), (u.2.2 9), rfl, p0⟩)⟩, by show va_P D.1 j_cl (mW D o q (uV (uI (uI (uV (uI (uI (uI (uI (uI (uI u 0 (u.1 0)) 1 (u.1 1)) 2 (u.1 2)) 3 (u.1 3)) 4 (u.1 4)) 5 (u.1 5)) 6 (u.2.2 6)) 7 (u.1 7)) 8 (u.1 8)) 9 (u.2.2 9))) t.heap; rw [ht]; exact hP⟩, hS.F ht⟩) hS.2.2 dX12_sum_22 hlk

set_option maxHeartbeats 4000000 in
set_option maxRecDepth 100000 in
theorem c_X12_mixed (l : Launch) (D : JD) (o : Nat) (q : Nat → Nat) (u : MS) (A : Nat → Prop) (hD : va_D A (mW D o q u)) (s : Int) (s2 : Int) (p0 : IM u) (p1 : -2147483648 ≤ s ∧ s ≤ 2147483647) (p2 : -2147483648 ≤ s2 ∧ s2 ≤ 2147483647) : Met l yX12_mixed (jw yX12_mixed cX12_mixed 6 (some .int)) (jr 4 92) (jP [.ref o, .int (J s), .int (J s2)] D (fun H => va_P D.1 j_cl (mW D o q u) H)) (jWi (fun z u' => ∃ f4 : Nat → Int, ∃ f5 : Nat → Int, ∃ w : Int, ∃ X : Nat → Int, ∃ Y : Nat → Int, ∃ nh : Int, u' = (uV (uI (uI (uV (uI (uI u 4 f4) 5 f5) 6 w) 7 X) 8 Y) 9 nh) ∧ (IM u')) (fun u' H => va_P D.1 j_cl (mW D o q u') H) A) 0 0 A := by
  refine Met.ofW (cc := cX12_mixed) (maxL := 6) (ret := (some .int)) (by decide) rfl ?_
  intro pr en st mi args below meth co s₁ B hml hv
  obtain ⟨rfl, hG, hP⟩ := hv
  have hr := B.returns
  have hlk := B.notSynchronized
  have SS : jS pr mi co cX12_mixed 6 st _ RX12 := ⟨B.exec, B.bytes, hml, findClass_of_methodNamed B.named, fun w hw => atoms_spec (ws := (jw yX12_mixed cX12_mixed 6 (some .int))) B.pre w (List.mem_cons_of_mem _ hw)⟩
  have hl := lv_entry ([.ref o, .int (J s), .int (J s2)]) (n := 6) (Nat.le_of_ble_eq_true rfl)
  rw [lg_entry_eq]
  generalize (lg_sl ([.ref o, .int (J s), .int (J s2)]) ++ List.replicate (6 - (lg_sl ([.ref o, .int (J s), .int (J s2)])).length) Slot.unset).toArray = ls at hl ⊢
  have hl : lv_has ls 6 [(0, .ref o), (1, .int (J s)), (2, .int (J s2))] := hl
  have hS : va_S A st.heap st.heap [] := va_S.rf
  refine lv_iload_n SS.1 SS.2.1 dX12_mixed_0 rfl (lv_at hl 1 rfl) ?_
  refine j_sRi SS (As := [.int (J s)]) (rest := []) (c_X12_isShape l D s (show -2147483648 ≤ s ∧ s ≤ 2147483647 from (by omega))) mf_X12_isShape kw_1156 hG trivial rfl hl.1 ⟨⟨Nat.le_of_ble_eq_true rfl, Nat.le_of_ble_eq_true rfl⟩, Nat.le_of_ble_eq_true rfl, Nat.le_refl _, Nat.le_refl _⟩ rfl dX12_mixed_1 (fun z_1 h_1 => ?_)
  have h_1 : (z_1 = 1 ∧ (0 ≤ s ∧ s ≤ 7)) ∨ (z_1 = 0 ∧ ¬ (0 ≤ s ∧ s ≤ 7)) := h_1
  refine j_if_eq SS (tgt := 14) (x := z_1) dX12_mixed_4 (by decide) (by omega) (fun c_4 => ?_) (fun c_4 => ?_)
  · skip
    refine j_iconst SS dX12_mixed_14 ?_
    exact W.iret SS.1 SS.2.1 hr (fun t ht hW => ⟨⟨_, (uV (uI (uI (uV (uI (uI u 4 (u.1 4)) 5 (u.1 5)) 6 (u.2.2 6)) 7 (u.1 7)) 8 (u.1 8)) 9 (u.2.2 9)), rfl, ⟨(-1), rfl, (⟨(u.1 4), (u.1 5), (u.2.2 6), (u.1 7), (u.1 8), (u.2.2 9), rfl, p0⟩)⟩, by show va_P D.1 j_cl (mW D o q (uV (uI (uI (uV (uI (uI u 4 (u.1 4)) 5 (u.1 5)) 6 (u.2.2 6)) 7 (u.1 7)) 8 (u.1 8)) 9 (u.2.2 9))) t.heap; rw [ht]; exact hP⟩, hS.F ht⟩) hS.2.2 dX12_mixed_15 hlk
  · skip
    refine lv_iload_n SS.1 SS.2.1 dX12_mixed_7 rfl (lv_at hl 2 rfl) ?_
    refine j_sRi SS (As := [.int (J s2)]) (rest := []) (c_X12_isShape l D s2 (show -2147483648 ≤ s2 ∧ s2 ≤ 2147483647 from (by omega))) mf_X12_isShape kw_1156 hG trivial rfl hl.1 ⟨⟨Nat.le_of_ble_eq_true rfl, Nat.le_of_ble_eq_true rfl⟩, Nat.le_of_ble_eq_true rfl, Nat.le_refl _, Nat.le_refl _⟩ rfl dX12_mixed_8 (fun z_8 h_8 => ?_)
    have h_8 : (z_8 = 1 ∧ (0 ≤ s2 ∧ s2 ≤ 7)) ∨ (z_8 = 0 ∧ ¬ (0 ≤ s2 ∧ s2 ≤ 7)) := h_8
    refine j_if_ne SS (tgt := 16) (x := z_8) dX12_mixed_11 (by decide) (by omega) (fun c_11 => ?_) (fun c_11 => ?_)
    · skip
      refine lv_aload_n SS.1 SS.2.1 dX12_mixed_16 rfl (lv_at hl 0 rfl) ?_
      refine j_get SS hG hP 0 (v := .ref (q 0)) (C := RX12) (T := TX12) (N := 31) rfl rfl inX12 0 (by decide) (ref := RX12) kw_1058 rfl rfl dX12_mixed_17 ?_
      refine lv_iload_n SS.1 SS.2.1 dX12_mixed_20 rfl (lv_at hl 1 rfl) ?_
      refine j_iald SS hG hP 1 (n := 8) (f := (u.1 0)) rfl (z := s) (by omega) (by omega) dX12_mixed_21 ?_
      have hN_21 := (show Sh u s from p0.1 _ (by omega) (by omega)).1
      refine j_if_eq SS (tgt := 34) (x := (mN u s)) dX12_mixed_22 (by decide) (by omega) (fun c_22 => ?_) (fun c_22 => ?_)
      · skip
        refine j_iconst SS dX12_mixed_34 ?_
        exact W.iret SS.1 SS.2.1 hr (fun t ht hW => ⟨⟨_, (uV (uI (uI (uV (uI (uI u 4 (u.1 4)) 5 (u.1 5)) 6 (u.2.2 6)) 7 (u.1 7)) 8 (u.1 8)) 9 (u.2.2 9)), rfl, ⟨0, rfl, (⟨(u.1 4), (u.1 5), (u.2.2 6), (u.1 7), (u.1 8), (u.2.2 9), rfl, p0⟩)⟩, by show va_P D.1 j_cl (mW D o q (uV (uI (uI (uV (uI (uI u 4 (u.1 4)) 5 (u.1 5)) 6 (u.2.2 6)) 7 (u.1 7)) 8 (u.1 8)) 9 (u.2.2 9))) t.heap; rw [ht]; exact hP⟩, hS.F ht⟩) hS.2.2 dX12_mixed_35 hlk
      · skip
        refine lv_aload_n SS.1 SS.2.1 dX12_mixed_25 rfl (lv_at hl 0 rfl) ?_
        refine j_get SS hG hP 0 (v := .ref (q 0)) (C := RX12) (T := TX12) (N := 31) rfl rfl inX12 0 (by decide) (ref := RX12) kw_1058 rfl rfl dX12_mixed_26 ?_
        refine lv_iload_n SS.1 SS.2.1 dX12_mixed_29 rfl (lv_at hl 2 rfl) ?_
        refine j_iald SS hG hP 1 (n := 8) (f := (u.1 0)) rfl (z := s2) (by omega) (by omega) dX12_mixed_30 ?_
        have hN_30 := (show Sh u s2 from p0.1 _ (by omega) (by omega)).1
        refine j_if_ne SS (tgt := 36) (x := (mN u s2)) dX12_mixed_31 (by decide) (by omega) (fun c_31 => ?_) (fun c_31 => ?_)
        · skip
          refine lv_aload_n SS.1 SS.2.1 dX12_mixed_36 rfl (lv_at hl 0 rfl) ?_
          refine lv_iload_n SS.1 SS.2.1 dX12_mixed_37 rfl (lv_at hl 1 rfl) ?_
          refine lv_iload_n SS.1 SS.2.1 dX12_mixed_38 rfl (lv_at hl 2 rfl) ?_
          refine j_vWv SS (As := [.int (J s), .int (J s2)]) (rest := []) (c_X12_findSum l D o q u A (mW_D hD) s s2 (show 0 ≤ s ∧ s ≤ 7 from (by omega)) (show Sh u s from (p0.1 _ (by omega) (by omega))) (show 0 ≤ s2 ∧ s2 ≤ 7 from (by omega)) (show Sh u s2 from (p0.1 _ (by omega) (by omega)))) mf_X12_findSum kw_1317 hG hP hP (ci := 8) (q0 := 0) rfl rfl rfl hS (fun _ h => h) rfl hl.1 ⟨⟨Nat.le_of_ble_eq_true rfl, Nat.le_of_ble_eq_true rfl⟩, Nat.le_of_ble_eq_true rfl, Nat.le_refl _, Nat.le_refl _⟩ rfl dX12_mixed_39 (fun u39 H locs h_39 hP _ hS => ?_)
          obtain ⟨f_39, g_39, w_39, X_39, Y_39, nh_39, rfl, h_39⟩ := h_39
          have hP : va_P D.1 j_cl (mW D o q (uV (uI (uI (uV (uI (uI u 4 f_39) 5 g_39) 6 w_39) 7 X_39) 8 Y_39) 9 nh_39)) H := hP
          have h_39 : 0 ≤ nh_39 ∧ nh_39 ≤ 1290 ∧ Ch nh_39 X_39 Y_39 ∧ bd 10000 X_39 Y_39 nh_39 ∧ bd 80 X_39 Y_39 nh_39 := h_39
          obtain ⟨a1, a2, a3, a4, a5⟩ := h_39
          refine j_iconst SS dX12_mixed_42 ?_
          refine lv_istore_n (lv' := [(3, .int (J 0)), (0, .ref o), (1, .int (J s)), (2, .int (J s2))]) SS.1 SS.2.1 dX12_mixed_43 rfl hl (by decide) rfl (fun ls hl => ?_)
          refine j_iconst SS dX12_mixed_44 ?_
          refine lv_istore (lv' := [(4, .int (J 0)), (3, .int (J 0)), (0, .ref o), (1, .int (J s)), (2, .int (J s2))]) SS.1 SS.2.1 dX12_mixed_45 hl (by decide) rfl (fun ls hl => ?_)
          have L_47 : ∀ (nn : Nat) (t3 : Int) (i : Int) (H : Heap) (locs : List Loc) (hP : va_P D.1 j_cl (mW D o q (uV (uI (uI (uV (uI (uI u 4 f_39) 5 g_39) 6 w_39) 7 X_39) 8 Y_39) 9 nh_39)) H) (hS : va_S A st.heap H locs) (ls : Array Slot) (hl : lv_has ls 6 [(0, .ref o), (1, .int (J s)), (2, .int (J s2)), (3, .int (J t3)), (4, .int (J i))]) (i47_0 : 0 ≤ i ∧ i ≤ nh_39), (nh_39 - i).toNat < nn → W pr l en (headSpec (jw yX12_mixed cX12_mixed 6 (some .int)) (jr 4 92)).room st mi (([.ref o, .int (J s), .int (J s2)] : List Value).toArray) below meth co H locs 0 0 (MQ below (jWi (fun z u' => ∃ f4 : Nat → Int, ∃ f5 : Nat → Int, ∃ w : Int, ∃ X : Nat → Int, ∃ Y : Nat → Int, ∃ nh : Int, u' = (uV (uI (uI (uV (uI (uI u 4 f4) 5 f5) 6 w) 7 X) 8 Y) 9 nh) ∧ (IM u')) (fun u' H => va_P D.1 j_cl (mW D o q u') H) A) (([.ref o, .int (J s), .int (J s2)] : List Value).toArray) st 0 0 A) (F0 mi 47 ls []) := by
            intro nn
            induction nn with
            | zero => intros; omega
            | succ nn ih_47 =>
              intro t3 i  H locs hP hS ls hl i47_0 hm
              refine lv_iload SS.1 SS.2.1 dX12_mixed_47 (lv_at hl 4 rfl) ?_
              refine lv_aload_n SS.1 SS.2.1 dX12_mixed_49 rfl (lv_at hl 0 rfl) ?_
              refine j_get SS hG hP 0 (v := .int (J nh_39)) (C := RX12) (T := TX12) (N := 31) rfl rfl inX12 9 (by decide) (ref := RX12) kw_1067 rfl rfl dX12_mixed_50 ?_
              refine j_icmp_ge SS (tgt := 107) (x := i) (y := nh_39) dX12_mixed_53 (by decide) (by omega) (by omega) (fun c_53 => ?_) (fun c_53 => ?_)
              · skip
                refine lv_iload_n SS.1 SS.2.1 dX12_mixed_107 rfl (lv_at hl 3 rfl) ?_
                refine lv_aload_n SS.1 SS.2.1 dX12_mixed_108 rfl (lv_at hl 0 rfl) ?_
                refine lv_iload_n SS.1 SS.2.1 dX12_mixed_109 rfl (lv_at hl 1 rfl) ?_
                refine j_vRi SS (As := [.int (J s)]) (rest := [.int (J t3)]) (c_X12_areaOf l D o q (uV (uI (uI (uV (uI (uI u 4 f_39) 5 g_39) 6 w_39) 7 X_39) 8 Y_39) 9 nh_39) s (show 0 ≤ s ∧ s ≤ 7 from (by omega)) (show Sh u s from (p0.1 _ (by omega) (by omega)))) mf_X12_areaOf kw_1218 hG hP hP (ci := 8) (q0 := 0) rfl rfl rfl rfl hl.1 ⟨⟨Nat.le_of_ble_eq_true rfl, Nat.le_of_ble_eq_true rfl⟩, Nat.le_of_ble_eq_true rfl, Nat.le_refl _, Nat.le_refl _⟩ rfl dX12_mixed_110 (fun z_110 h_110 => ?_)
                have h_110 : z_110 = mAr u s ∧ -80000 ≤ z_110 ∧ z_110 ≤ 80000 := h_110
                refine j_isub SS (x := t3) (y := z_110) dX12_mixed_113 ?_
                refine lv_aload_n SS.1 SS.2.1 dX12_mixed_114 rfl (lv_at hl 0 rfl) ?_
                refine lv_iload_n SS.1 SS.2.1 dX12_mixed_115 rfl (lv_at hl 2 rfl) ?_
                refine j_vRi SS (As := [.int (J s2)]) (rest := [.int (J (t3 - z_110))]) (c_X12_areaOf l D o q (uV (uI (uI (uV (uI (uI u 4 f_39) 5 g_39) 6 w_39) 7 X_39) 8 Y_39) 9 nh_39) s2 (show 0 ≤ s2 ∧ s2 ≤ 7 from (by omega)) (show Sh u s2 from (p0.1 _ (by omega) (by omega)))) mf_X12_areaOf kw_1218 hG hP hP (ci := 8) (q0 := 0) rfl rfl rfl rfl hl.1 ⟨⟨Nat.le_of_ble_eq_true rfl, Nat.le_of_ble_eq_true rfl⟩, Nat.le_of_ble_eq_true rfl, Nat.le_refl _, Nat.le_refl _⟩ rfl dX12_mixed_116 (fun z_116 h_116 => ?_)
                have h_116 : z_116 = mAr u s2 ∧ -80000 ≤ z_116 ∧ z_116 ≤ 80000 := h_116
                refine j_isub SS (x := (t3 - z_110)) (y := z_116) dX12_mixed_119 ?_
                exact W.iret SS.1 SS.2.1 hr (fun t ht hW => ⟨⟨_, (uV (uI (uI (uV (uI (uI u 4 f_39) 5 g_39) 6 w_39) 7 X_39) 8 Y_39) 9 nh_39), rfl, ⟨((t3 - z_110) - z_116), rfl, (⟨f_39, g_39, w_39, X_39, Y_39, nh_39, rfl, p0⟩)⟩, by show va_P D.1 j_cl (mW D o q (uV (uI (uI (uV (uI (uI u 4 f_39) 5 g_39) 6 w_39) 7 X_39) 8 Y_39) 9 nh_39)) t.heap; rw [ht]; exact hP⟩, hS.F ht⟩) hS.2.2 dX12_mixed_120 hlk
              · skip
                refine lv_iload SS.1 SS.2.1 dX12_mixed_56 (lv_at hl 4 rfl) ?_
                refine j_iconst SS dX12_mixed_58 ?_
                refine j_iadd SS (x := i) (y := 1) dX12_mixed_59 ?_
                refine lv_aload_n SS.1 SS.2.1 dX12_mixed_60 rfl (lv_at hl 0 rfl) ?_
                have tb := tm_b (i := i + 1) (n := nh_39) (by omega) (by omega)
                refine j_get SS hG hP 0 (v := .int (J nh_39)) (C := RX12) (T := TX12) (N := 31) rfl rfl inX12 9 (by decide) (ref := RX12) kw_1067 rfl rfl dX12_mixed_61 ?_
                refine j_irem SS (x := (i + 1)) (y := nh_39) dX12_mixed_64 (by omega) (by omega) (by omega) ?_
                refine lv_istore (lv' := [(5, .int (J (Int.tmod (i + 1) nh_39))), (0, .ref o), (1, .int (J s)), (2, .int (J s2)), (3, .int (J t3)), (4, .int (J i))]) SS.1 SS.2.1 dX12_mixed_65 hl (by decide) rfl (fun ls hl => ?_)
                refine lv_iload_n SS.1 SS.2.1 dX12_mixed_67 rfl (lv_at hl 4 rfl) ?_
                refine lv_aload_n SS.1 SS.2.1 dX12_mixed_68 rfl (lv_at hl 1 rfl) ?_
                refine j_get SS hG hP 0 (v := .ref (q 7)) (C := RX12) (T := TX12) (N := 31) rfl rfl inX12 7 (by decide) (ref := RX12) kw_1065 rfl rfl dX12_mixed_69 ?_
                refine lv_iload SS.1 SS.2.1 dX12_mixed_72 (lv_at hl 5 rfl) ?_
                refine j_iald SS hG hP 7 (n := 1300) (f := X_39) rfl (z := i) (by omega) (by omega) dX12_mixed_74 ?_
                refine lv_aload_n SS.1 SS.2.1 dX12_mixed_75 rfl (lv_at hl 1 rfl) ?_
                refine j_get SS hG hP 0 (v := .ref (q 8)) (C := RX12) (T := TX12) (N := 31) rfl rfl inX12 8 (by decide) (ref := RX12) kw_1066 rfl rfl dX12_mixed_76 ?_
                refine lv_iload SS.1 SS.2.1 dX12_mixed_79 (lv_at hl 0 rfl) ?_
                refine j_iald SS hG hP 8 (n := 1300) (f := Y_39) rfl (z := (Int.tmod (i + 1) nh_39)) (by omega) (by omega) dX12_mixed_81 ?_
                refine j_imul SS (x := (X_39 (i).toNat)) (y := (Y_39 ((Int.tmod (i + 1) nh_39)).toNat)) dX12_mixed_82 ?_
                refine lv_aload_n SS.1 SS.2.1 dX12_mixed_83 rfl (lv_at hl 1 rfl) ?_
                refine j_get SS hG hP 0 (v := .ref (q 7)) (C := RX12) (T := TX12) (N := 31) rfl rfl inX12 7 (by decide) (ref := RX12) kw_1065 rfl rfl dX12_mixed_84 ?_
                refine lv_iload SS.1 SS.2.1 dX12_mixed_87 (lv_at hl 0 rfl) ?_
                refine j_iald SS hG hP 7 (n := 1300) (f := X_39) rfl (z := (Int.tmod (i + 1) nh_39)) (by omega) (by omega) dX12_mixed_89 ?_
                refine lv_aload_n SS.1 SS.2.1 dX12_mixed_90 rfl (lv_at hl 1 rfl) ?_
                refine j_get SS hG hP 0 (v := .ref (q 8)) (C := RX12) (T := TX12) (N := 31) rfl rfl inX12 8 (by decide) (ref := RX12) kw_1066 rfl rfl dX12_mixed_91 ?_
                refine lv_iload SS.1 SS.2.1 dX12_mixed_94 (lv_at hl 5 rfl) ?_
                refine j_iald SS hG hP 8 (n := 1300) (f := Y_39) rfl (z := i) (by omega) (by omega) dX12_mixed_96 ?_
                refine j_imul SS (x := (X_39 ((Int.tmod (i + 1) nh_39)).toNat)) (y := (Y_39 (i).toNat)) dX12_mixed_97 ?_
                refine j_isub SS (x := ((X_39 (i).toNat) * (Y_39 ((Int.tmod (i + 1) nh_39)).toNat))) (y := ((X_39 ((Int.tmod (i + 1) nh_39)).toNat) * (Y_39 (i).toNat))) dX12_mixed_98 ?_
                refine j_iadd SS (x := t3) (y := (((X_39 (i).toNat) * (Y_39 ((Int.tmod (i + 1) nh_39)).toNat)) - ((X_39 ((Int.tmod (i + 1) nh_39)).toNat) * (Y_39 (i).toNat)))) dX12_mixed_99 ?_
                refine lv_istore_n (lv' := [(3, .int (J (t3 + (((X_39 (i).toNat) * (Y_39 ((Int.tmod (i + 1) nh_39)).toNat)) - ((X_39 ((Int.tmod (i + 1) nh_39)).toNat) * (Y_39 (i).toNat)))))), (5, .int (J (Int.tmod (i + 1) nh_39))), (0, .ref o), (1, .int (J s)), (2, .int (J s2)), (4, .int (J i))]) SS.1 SS.2.1 dX12_mixed_100 rfl hl (by decide) rfl (fun ls hl => ?_)
                refine lv_iinc (v := J (i + 1)) (lv' := [(4, .int (J (i + 1))), (3, .int (J (t3 + (((X_39 (i).toNat) * (Y_39 ((Int.tmod (i + 1) nh_39)).toNat)) - ((X_39 ((Int.tmod (i + 1) nh_39)).toNat) * (Y_39 (i).toNat)))))), (5, .int (J (Int.tmod (i + 1) nh_39))), (0, .ref o), (1, .int (J s)), (2, .int (J s2))]) SS.1 SS.2.1 dX12_mixed_101 hl (k := 5) rfl (J_add _ _) (by decide) rfl (fun ls hl => ?_)
                refine lv_goto (tgt := 47) SS.1 SS.2.1 dX12_mixed_104 (by decide) ?_
                exact ih_47 (t3 + (((X_39 (i).toNat) * (Y_39 ((Int.tmod (i + 1) nh_39)).toNat)) - ((X_39 ((Int.tmod (i + 1) nh_39)).toNat) * (Y_39 (i).toNat)))) (i + 1) _ _ hP hS ls (lv_sub hl [3, 4, 5, 1, 0] rfl) (by omega) (by omega)
          exact L_47 ((nh_39 - (0 : Int)).toNat + 1) 0 0 _ _ hP hS ls (lv_sub hl [2, 3, 4, 1, 0] rfl) (by omega) (Nat.lt_succ_self _)
        · skip
          refine j_iconst SS dX12_mixed_34 ?_
          exact W.iret SS.1 SS.2.1 hr (fun t ht hW => ⟨⟨_, (uV (uI (uI (uV (uI (uI u 4 (u.1 4)) 5 (u.1 5)) 6 (u.2.2 6)) 7 (u.1 7)) 8 (u.1 8)) 9 (u.2.2 9)), rfl, ⟨0, rfl, (⟨(u.1 4), (u.1 5), (u.2.2 6), (u.1 7), (u.1 8), (u.2.2 9), rfl, p0⟩)⟩, by show va_P D.1 j_cl (mW D o q (uV (uI (uI (uV (uI (uI u 4 (u.1 4)) 5 (u.1 5)) 6 (u.2.2 6)) 7 (u.1 7)) 8 (u.1 8)) 9 (u.2.2 9))) t.heap; rw [ht]; exact hP⟩, hS.F ht⟩) hS.2.2 dX12_mixed_35 hlk
    · skip
      refine j_iconst SS dX12_mixed_14 ?_
      exact W.iret SS.1 SS.2.1 hr (fun t ht hW => ⟨⟨_, (uV (uI (uI (uV (uI (uI u 4 (u.1 4)) 5 (u.1 5)) 6 (u.2.2 6)) 7 (u.1 7)) 8 (u.1 8)) 9 (u.2.2 9)), rfl, ⟨(-1), rfl, (⟨(u.1 4), (u.1 5), (u.2.2 6), (u.1 7), (u.1 8), (u.2.2 9), rfl, p0⟩)⟩, by show va_P D.1 j_cl (mW D o q (uV (uI (uI (uV (uI (uI u 4 (u.1 4)) 5 (u.1 5)) 6 (u.2.2 6)) 7 (u.1 7)) 8 (u.1 8)) 9 (u.2.2 9))) t.heap; rw [ht]; exact hP⟩, hS.F ht⟩) hS.2.2 dX12_mixed_15 hlk

