
set_option maxHeartbeats 4000000 in
set_option maxRecDepth 100000 in
theorem c_X12_normalX2 (l : Launch) (D : JD) (o : Nat) (q : Nat → Nat) (u : MS) (s : Int) (i : Int) (p0 : 0 ≤ s ∧ s ≤ 7) (p1 : Sh u s) (p2 : 0 ≤ i ∧ i < mN u s) (p3 : 2 ≤ mN u s) : Met l yX12_normalX (jw yX12_normalX cX12_normalX 3 (some .int)) (jr 3 66) (jP [.ref o, .int (J s), .int (J i)] D (fun H => va_P D.1 j_cl (mW D o q u) H)) (jRi (fun z => z = mNX u s i ∧ -80 ≤ z ∧ z ≤ 80)) 0 0 (fun _ => False) := by
  refine Met.ofW (cc := cX12_normalX) (maxL := 3) (ret := (some .int)) (by decide) rfl ?_
  intro pr en st mi args below meth co s₁ B hml hv
  obtain ⟨rfl, hG, hP⟩ := hv
  have hr := B.returns
  have hlk := B.notSynchronized
  have SS : jS pr mi co cX12_normalX 3 st _ RX12 := ⟨B.exec, B.bytes, hml, findClass_of_methodNamed B.named, fun w hw => atoms_spec (ws := (jw yX12_normalX cX12_normalX 3 (some .int))) B.pre w (List.mem_cons_of_mem _ hw)⟩
  have hl := lv_entry ([.ref o, .int (J s), .int (J i)]) (n := 3) (Nat.le_of_ble_eq_true rfl)
  rw [lg_entry_eq]
  generalize (lg_sl ([.ref o, .int (J s), .int (J i)]) ++ List.replicate (3 - (lg_sl ([.ref o, .int (J s), .int (J i)])).length) Slot.unset).toArray = ls at hl ⊢
  have hl : lv_has ls 3 [(0, .ref o), (1, .int (J s)), (2, .int (J i))] := hl
  have hN := p1.1
  have hC := p1.2.2
  have hp := mS_p hC p3 p2.1 p2.2
  refine lv_aload_n SS.1 SS.2.1 dX12_normalX_0 rfl (lv_at hl 0 rfl) ?_
  refine lv_iload_n SS.1 SS.2.1 dX12_normalX_1 rfl (lv_at hl 1 rfl) ?_
  refine lv_iload_n SS.1 SS.2.1 dX12_normalX_2 rfl (lv_at hl 2 rfl) ?_
  refine j_iconst SS dX12_normalX_3 ?_
  refine j_iadd SS (x := i) (y := 1) dX12_normalX_4 ?_
  refine j_vRi SS (As := [.int (J s), .int (J (i + 1))]) (rest := []) (c_X12_y l D o q u s (i + 1) (show 0 ≤ s ∧ s ≤ 7 from (by omega)) (show 0 ≤ (i + 1) ∧ (i + 1) ≤ 1000000 from (by omega)) (show 0 < mN u s ∧ mN u s ≤ 24 from (by first | omega | (have hq := (show Sh u s from p1).1; omega)))) mf_X12_y kw_1181 hG hP hP (ci := 8) (q0 := 0) rfl rfl rfl rfl hl.1 ⟨⟨Nat.le_of_ble_eq_true rfl, Nat.le_of_ble_eq_true rfl⟩, Nat.le_of_ble_eq_true rfl, Nat.le_refl _, Nat.le_refl _⟩ rfl dX12_normalX_5 (fun z_5 h_5 => ?_)
  have h_5 : z_5 = mY u s (i + 1) := h_5
  have hb_5 := (show Sh u s from p1).2.1 (by omega) (i + 1) (by omega)
  refine lv_aload_n SS.1 SS.2.1 dX12_normalX_8 rfl (lv_at hl 0 rfl) ?_
  refine lv_iload_n SS.1 SS.2.1 dX12_normalX_9 rfl (lv_at hl 1 rfl) ?_
  refine lv_iload_n SS.1 SS.2.1 dX12_normalX_10 rfl (lv_at hl 2 rfl) ?_
  refine j_vRi SS (As := [.int (J s), .int (J i)]) (rest := [.int (J z_5)]) (c_X12_y l D o q u s i (show 0 ≤ s ∧ s ≤ 7 from (by omega)) (show 0 ≤ i ∧ i ≤ 1000000 from (by omega)) (show 0 < mN u s ∧ mN u s ≤ 24 from (by first | omega | (have hq := (show Sh u s from p1).1; omega)))) mf_X12_y kw_1181 hG hP hP (ci := 8) (q0 := 0) rfl rfl rfl rfl hl.1 ⟨⟨Nat.le_of_ble_eq_true rfl, Nat.le_of_ble_eq_true rfl⟩, Nat.le_of_ble_eq_true rfl, Nat.le_refl _, Nat.le_refl _⟩ rfl dX12_normalX_11 (fun z_11 h_11 => ?_)
  have h_11 : z_11 = mY u s i := h_11
  have hb_11 := (show Sh u s from p1).2.1 (by omega) i (by omega)
  refine j_isub SS (x := z_5) (y := z_11) dX12_normalX_14 ?_
  refine lv_aload_n SS.1 SS.2.1 dX12_normalX_15 rfl (lv_at hl 0 rfl) ?_
  refine lv_iload_n SS.1 SS.2.1 dX12_normalX_16 rfl (lv_at hl 1 rfl) ?_
  refine lv_iload_n SS.1 SS.2.1 dX12_normalX_17 rfl (lv_at hl 2 rfl) ?_
  refine j_vRi SS (As := [.int (J s), .int (J i)]) (rest := [.int (J (z_5 - z_11))]) (c_X12_stepsOf l D o q u s i (show 0 ≤ s ∧ s ≤ 7 from (by omega)) (show Sh u s from (p1)) (show 0 ≤ i ∧ i ≤ 100 from (by omega)) (show 0 < mN u s from (by first | omega | (have hq := (show Sh u s from p1).1; omega)))) mf_X12_stepsOf kw_1226 hG hP hP (ci := 8) (q0 := 0) rfl rfl rfl rfl hl.1 ⟨⟨Nat.le_of_ble_eq_true rfl, Nat.le_of_ble_eq_true rfl⟩, Nat.le_of_ble_eq_true rfl, Nat.le_refl _, Nat.le_refl _⟩ rfl dX12_normalX_18 (fun z_18 h_18 => ?_)
  have h_18 : z_18 = mS u s i ∧ 0 ≤ z_18 ∧ z_18 ≤ 80 := h_18
  have hp9 := hp
  rw [← h_18.1] at hp9
  have htd := td_b (b := z_18) (show -80 ≤ z_5 - z_11 ∧ z_5 - z_11 ≤ 80 by omega)
  refine j_idiv SS (x := (z_5 - z_11)) (y := z_18) dX12_normalX_21 (by omega) (by omega) (by omega) ?_
  exact W.iret SS.1 SS.2.1 hr (fun t ht hW => ⟨_, rfl, ⟨(Int.tdiv (z_5 - z_11) z_18), rfl, (⟨by rw [h_5, h_11, h_18.1]; rfl, htd⟩)⟩, ht⟩) (fun _ h => nomatch h) dX12_normalX_22 hlk

set_option maxHeartbeats 4000000 in
set_option maxRecDepth 100000 in
theorem c_X12_normalY2 (l : Launch) (D : JD) (o : Nat) (q : Nat → Nat) (u : MS) (s : Int) (i : Int) (p0 : 0 ≤ s ∧ s ≤ 7) (p1 : Sh u s) (p2 : 0 ≤ i ∧ i < mN u s) (p3 : 2 ≤ mN u s) : Met l yX12_normalY (jw yX12_normalY cX12_normalY 3 (some .int)) (jr 3 66) (jP [.ref o, .int (J s), .int (J i)] D (fun H => va_P D.1 j_cl (mW D o q u) H)) (jRi (fun z => z = mNY u s i ∧ -80 ≤ z ∧ z ≤ 80)) 0 0 (fun _ => False) := by
  refine Met.ofW (cc := cX12_normalY) (maxL := 3) (ret := (some .int)) (by decide) rfl ?_
  intro pr en st mi args below meth co s₁ B hml hv
  obtain ⟨rfl, hG, hP⟩ := hv
  have hr := B.returns
  have hlk := B.notSynchronized
  have SS : jS pr mi co cX12_normalY 3 st _ RX12 := ⟨B.exec, B.bytes, hml, findClass_of_methodNamed B.named, fun w hw => atoms_spec (ws := (jw yX12_normalY cX12_normalY 3 (some .int))) B.pre w (List.mem_cons_of_mem _ hw)⟩
  have hl := lv_entry ([.ref o, .int (J s), .int (J i)]) (n := 3) (Nat.le_of_ble_eq_true rfl)
  rw [lg_entry_eq]
  generalize (lg_sl ([.ref o, .int (J s), .int (J i)]) ++ List.replicate (3 - (lg_sl ([.ref o, .int (J s), .int (J i)])).length) Slot.unset).toArray = ls at hl ⊢
  have hl : lv_has ls 3 [(0, .ref o), (1, .int (J s)), (2, .int (J i))] := hl
  have hN := p1.1
  have hC := p1.2.2
  have hp := mS_p hC p3 p2.1 p2.2
  refine lv_aload_n SS.1 SS.2.1 dX12_normalY_0 rfl (lv_at hl 0 rfl) ?_
  refine lv_iload_n SS.1 SS.2.1 dX12_normalY_1 rfl (lv_at hl 1 rfl) ?_
  refine lv_iload_n SS.1 SS.2.1 dX12_normalY_2 rfl (lv_at hl 2 rfl) ?_
  refine j_vRi SS (As := [.int (J s), .int (J i)]) (rest := []) (c_X12_x l D o q u s i (show 0 ≤ s ∧ s ≤ 7 from (by omega)) (show 0 ≤ i ∧ i ≤ 1000000 from (by omega)) (show 0 < mN u s ∧ mN u s ≤ 24 from (by first | omega | (have hq := (show Sh u s from p1).1; omega)))) mf_X12_x kw_1177 hG hP hP (ci := 8) (q0 := 0) rfl rfl rfl rfl hl.1 ⟨⟨Nat.le_of_ble_eq_true rfl, Nat.le_of_ble_eq_true rfl⟩, Nat.le_of_ble_eq_true rfl, Nat.le_refl _, Nat.le_refl _⟩ rfl dX12_normalY_3 (fun z_3 h_3 => ?_)
  have h_3 : z_3 = mX u s i := h_3
  have hb_3 := (show Sh u s from p1).2.1 (by omega) i (by omega)
  refine lv_aload_n SS.1 SS.2.1 dX12_normalY_6 rfl (lv_at hl 0 rfl) ?_
  refine lv_iload_n SS.1 SS.2.1 dX12_normalY_7 rfl (lv_at hl 1 rfl) ?_
  refine lv_iload_n SS.1 SS.2.1 dX12_normalY_8 rfl (lv_at hl 2 rfl) ?_
  refine j_iconst SS dX12_normalY_9 ?_
  refine j_iadd SS (x := i) (y := 1) dX12_normalY_10 ?_
  refine j_vRi SS (As := [.int (J s), .int (J (i + 1))]) (rest := [.int (J z_3)]) (c_X12_x l D o q u s (i + 1) (show 0 ≤ s ∧ s ≤ 7 from (by omega)) (show 0 ≤ (i + 1) ∧ (i + 1) ≤ 1000000 from (by omega)) (show 0 < mN u s ∧ mN u s ≤ 24 from (by first | omega | (have hq := (show Sh u s from p1).1; omega)))) mf_X12_x kw_1177 hG hP hP (ci := 8) (q0 := 0) rfl rfl rfl rfl hl.1 ⟨⟨Nat.le_of_ble_eq_true rfl, Nat.le_of_ble_eq_true rfl⟩, Nat.le_of_ble_eq_true rfl, Nat.le_refl _, Nat.le_refl _⟩ rfl dX12_normalY_11 (fun z_11 h_11 => ?_)
  have h_11 : z_11 = mX u s (i + 1) := h_11
  have hb_11 := (show Sh u s from p1).2.1 (by omega) (i + 1) (by omega)
  refine j_isub SS (x := z_3) (y := z_11) dX12_normalY_14 ?_
  refine lv_aload_n SS.1 SS.2.1 dX12_normalY_15 rfl (lv_at hl 0 rfl) ?_
  refine lv_iload_n SS.1 SS.2.1 dX12_normalY_16 rfl (lv_at hl 1 rfl) ?_
  refine lv_iload_n SS.1 SS.2.1 dX12_normalY_17 rfl (lv_at hl 2 rfl) ?_
  refine j_vRi SS (As := [.int (J s), .int (J i)]) (rest := [.int (J (z_3 - z_11))]) (c_X12_stepsOf l D o q u s i (show 0 ≤ s ∧ s ≤ 7 from (by omega)) (show Sh u s from (p1)) (show 0 ≤ i ∧ i ≤ 100 from (by omega)) (show 0 < mN u s from (by first | omega | (have hq := (show Sh u s from p1).1; omega)))) mf_X12_stepsOf kw_1226 hG hP hP (ci := 8) (q0 := 0) rfl rfl rfl rfl hl.1 ⟨⟨Nat.le_of_ble_eq_true rfl, Nat.le_of_ble_eq_true rfl⟩, Nat.le_of_ble_eq_true rfl, Nat.le_refl _, Nat.le_refl _⟩ rfl dX12_normalY_18 (fun z_18 h_18 => ?_)
  have h_18 : z_18 = mS u s i ∧ 0 ≤ z_18 ∧ z_18 ≤ 80 := h_18
  have hp9 := hp
  rw [← h_18.1] at hp9
  have htd := td_b (b := z_18) (show -80 ≤ z_3 - z_11 ∧ z_3 - z_11 ≤ 80 by omega)
  refine j_idiv SS (x := (z_3 - z_11)) (y := z_18) dX12_normalY_21 (by omega) (by omega) (by omega) ?_
  exact W.iret SS.1 SS.2.1 hr (fun t ht hW => ⟨_, rfl, ⟨(Int.tdiv (z_3 - z_11) z_18), rfl, (⟨by rw [h_3, h_11, h_18.1]; rfl, htd⟩)⟩, ht⟩) (fun _ h => nomatch h) dX12_normalY_22 hlk

set_option maxHeartbeats 4000000 in
set_option maxRecDepth 100000 in
theorem c_X12_farOf2 (l : Launch) (D : JD) (o : Nat) (q : Nat → Nat) (u : MS) (s : Int) (i : Int) (p0 : 0 ≤ s ∧ s ≤ 7) (p1 : Sh u s) (p2 : 0 ≤ i ∧ i < mN u s) (p3 : 2 ≤ mN u s) : Met l yX12_farOf (jw yX12_farOf cX12_farOf 3 (some .int)) (jr 4 88) (jP [.ref o, .int (J s), .int (J i)] D (fun H => va_P D.1 j_cl (mW D o q u) H)) (jRi (fun z => z = mFar u s i ∧ -6400 ≤ z ∧ z ≤ 6400)) 0 0 (fun _ => False) := by
  refine Met.ofW (cc := cX12_farOf) (maxL := 3) (ret := (some .int)) (by decide) rfl ?_
  intro pr en st mi args below meth co s₁ B hml hv
  obtain ⟨rfl, hG, hP⟩ := hv
  have hr := B.returns
  have hlk := B.notSynchronized
  have SS : jS pr mi co cX12_farOf 3 st _ RX12 := ⟨B.exec, B.bytes, hml, findClass_of_methodNamed B.named, fun w hw => atoms_spec (ws := (jw yX12_farOf cX12_farOf 3 (some .int))) B.pre w (List.mem_cons_of_mem _ hw)⟩
  have hl := lv_entry ([.ref o, .int (J s), .int (J i)]) (n := 3) (Nat.le_of_ble_eq_true rfl)
  rw [lg_entry_eq]
  generalize (lg_sl ([.ref o, .int (J s), .int (J i)]) ++ List.replicate (3 - (lg_sl ([.ref o, .int (J s), .int (J i)])).length) Slot.unset).toArray = ls at hl ⊢
  have hl : lv_has ls 3 [(0, .ref o), (1, .int (J s)), (2, .int (J i))] := hl
  have hN := p1.1
  have hC := p1.2.2
  refine lv_aload_n SS.1 SS.2.1 dX12_farOf_0 rfl (lv_at hl 0 rfl) ?_
  refine lv_iload_n SS.1 SS.2.1 dX12_farOf_1 rfl (lv_at hl 1 rfl) ?_
  refine lv_iload_n SS.1 SS.2.1 dX12_farOf_2 rfl (lv_at hl 2 rfl) ?_
  refine j_vRi SS (As := [.int (J s), .int (J i)]) (rest := []) (c_X12_normalX2 l D o q u s i (show 0 ≤ s ∧ s ≤ 7 from (by omega)) (show Sh u s from (p1)) (show 0 ≤ i ∧ i < mN u s from (by first | omega | (have hq := (show Sh u s from p1).1; omega))) (show 2 ≤ mN u s from (by first | omega | (have hq := (show Sh u s from p1).1; omega)))) mf_X12_normalX kw_1364 hG hP hP (ci := 8) (q0 := 0) rfl rfl rfl rfl hl.1 ⟨⟨Nat.le_of_ble_eq_true rfl, Nat.le_of_ble_eq_true rfl⟩, Nat.le_of_ble_eq_true rfl, Nat.le_refl _, Nat.le_refl _⟩ rfl dX12_farOf_3 (fun z_3 h_3 => ?_)
  have h_3 : z_3 = mNX u s i ∧ -80 ≤ z_3 ∧ z_3 ≤ 80 := h_3
  refine lv_aload_n SS.1 SS.2.1 dX12_farOf_6 rfl (lv_at hl 0 rfl) ?_
  refine lv_iload_n SS.1 SS.2.1 dX12_farOf_7 rfl (lv_at hl 1 rfl) ?_
  refine lv_iload_n SS.1 SS.2.1 dX12_farOf_8 rfl (lv_at hl 2 rfl) ?_
  refine j_vRi SS (As := [.int (J s), .int (J i)]) (rest := [.int (J z_3)]) (c_X12_x l D o q u s i (show 0 ≤ s ∧ s ≤ 7 from (by omega)) (show 0 ≤ i ∧ i ≤ 1000000 from (by omega)) (show 0 < mN u s ∧ mN u s ≤ 24 from (by first | omega | (have hq := (show Sh u s from p1).1; omega)))) mf_X12_x kw_1177 hG hP hP (ci := 8) (q0 := 0) rfl rfl rfl rfl hl.1 ⟨⟨Nat.le_of_ble_eq_true rfl, Nat.le_of_ble_eq_true rfl⟩, Nat.le_of_ble_eq_true rfl, Nat.le_refl _, Nat.le_refl _⟩ rfl dX12_farOf_9 (fun z_9 h_9 => ?_)
  have h_9 : z_9 = mX u s i := h_9
  have hb_9 := (show Sh u s from p1).2.1 (by omega) i (by omega)
  have m1 := mulb (A := 80) (B := 40) (a := z_3) (b := z_9) (by omega) (by omega)
  refine j_imul SS (x := z_3) (y := z_9) dX12_farOf_12 ?_
  refine lv_aload_n SS.1 SS.2.1 dX12_farOf_13 rfl (lv_at hl 0 rfl) ?_
  refine lv_iload_n SS.1 SS.2.1 dX12_farOf_14 rfl (lv_at hl 1 rfl) ?_
  refine lv_iload_n SS.1 SS.2.1 dX12_farOf_15 rfl (lv_at hl 2 rfl) ?_
  refine j_vRi SS (As := [.int (J s), .int (J i)]) (rest := [.int (J (z_3 * z_9))]) (c_X12_normalY2 l D o q u s i (show 0 ≤ s ∧ s ≤ 7 from (by omega)) (show Sh u s from (p1)) (show 0 ≤ i ∧ i < mN u s from (by first | omega | (have hq := (show Sh u s from p1).1; omega))) (show 2 ≤ mN u s from (by first | omega | (have hq := (show Sh u s from p1).1; omega)))) mf_X12_normalY kw_1368 hG hP hP (ci := 8) (q0 := 0) rfl rfl rfl rfl hl.1 ⟨⟨Nat.le_of_ble_eq_true rfl, Nat.le_of_ble_eq_true rfl⟩, Nat.le_of_ble_eq_true rfl, Nat.le_refl _, Nat.le_refl _⟩ rfl dX12_farOf_16 (fun z_16 h_16 => ?_)
  have h_16 : z_16 = mNY u s i ∧ -80 ≤ z_16 ∧ z_16 ≤ 80 := h_16
  refine lv_aload_n SS.1 SS.2.1 dX12_farOf_19 rfl (lv_at hl 0 rfl) ?_
  refine lv_iload_n SS.1 SS.2.1 dX12_farOf_20 rfl (lv_at hl 1 rfl) ?_
  refine lv_iload_n SS.1 SS.2.1 dX12_farOf_21 rfl (lv_at hl 2 rfl) ?_
  refine j_vRi SS (As := [.int (J s), .int (J i)]) (rest := [.int (J z_16), .int (J (z_3 * z_9))]) (c_X12_y l D o q u s i (show 0 ≤ s ∧ s ≤ 7 from (by omega)) (show 0 ≤ i ∧ i ≤ 1000000 from (by omega)) (show 0 < mN u s ∧ mN u s ≤ 24 from (by first | omega | (have hq := (show Sh u s from p1).1; omega)))) mf_X12_y kw_1181 hG hP hP (ci := 8) (q0 := 0) rfl rfl rfl rfl hl.1 ⟨⟨Nat.le_of_ble_eq_true rfl, Nat.le_of_ble_eq_true rfl⟩, Nat.le_of_ble_eq_true rfl, Nat.le_refl _, Nat.le_refl _⟩ rfl dX12_farOf_22 (fun z_22 h_22 => ?_)
  have h_22 : z_22 = mY u s i := h_22
  have hb_22 := (show Sh u s from p1).2.1 (by omega) i (by omega)
  have m2 := mulb (A := 80) (B := 40) (a := z_16) (b := z_22) (by omega) (by omega)
  refine j_imul SS (x := z_16) (y := z_22) dX12_farOf_25 ?_
  refine j_iadd SS (x := (z_3 * z_9)) (y := (z_16 * z_22)) dX12_farOf_26 ?_
  exact W.iret SS.1 SS.2.1 hr (fun t ht hW => ⟨_, rfl, ⟨((z_3 * z_9) + (z_16 * z_22)), rfl, (⟨by rw [h_3.1, h_9, h_16.1, h_22]; rfl, by omega, by omega⟩)⟩, ht⟩) (fun _ h => nomatch h) dX12_farOf_27 hlk

set_option maxHeartbeats 4000000 in
set_option maxRecDepth 100000 in
theorem c_X12_isRound2 (l : Launch) (D : JD) (o : Nat) (q : Nat → Nat) (u : MS) (s : Int) (p0 : 0 ≤ s ∧ s ≤ 7) (p1 : Sh u s) : Met l yX12_isRound (jw yX12_isRound cX12_isRound 2 (some .boolean)) (jr 2 51) (jP [.ref o, .int (J s)] D (fun H => va_P D.1 j_cl (mW D o q u) H)) (jRi (fun z => ((z = 1 ∧ 2 < mN u s) ∨ z = 0) ∧ (mLO u s → z = 1))) 0 0 (fun _ => False) := by
  refine Met.ofW (cc := cX12_isRound) (maxL := 2) (ret := (some .boolean)) (by decide) rfl ?_
  intro pr en st mi args below meth co s₁ B hml hv
  obtain ⟨rfl, hG, hP⟩ := hv
  have hr := B.returns
  have hlk := B.notSynchronized
  have SS : jS pr mi co cX12_isRound 2 st _ RX12 := ⟨B.exec, B.bytes, hml, findClass_of_methodNamed B.named, fun w hw => atoms_spec (ws := (jw yX12_isRound cX12_isRound 2 (some .boolean))) B.pre w (List.mem_cons_of_mem _ hw)⟩
  have hl := lv_entry ([.ref o, .int (J s)]) (n := 2) (Nat.le_of_ble_eq_true rfl)
  rw [lg_entry_eq]
  generalize (lg_sl ([.ref o, .int (J s)]) ++ List.replicate (2 - (lg_sl ([.ref o, .int (J s)])).length) Slot.unset).toArray = ls at hl ⊢
  have hl : lv_has ls 2 [(0, .ref o), (1, .int (J s))] := hl
  have hN := p1.1
  have hC := p1.2.2
  refine lv_aload_n SS.1 SS.2.1 dX12_isRound_0 rfl (lv_at hl 0 rfl) ?_
  refine lv_iload_n SS.1 SS.2.1 dX12_isRound_1 rfl (lv_at hl 1 rfl) ?_
  refine j_vRi SS (As := [.int (J s)]) (rest := []) (c_X12_isPolygon l D o q u s (show 0 ≤ s ∧ s ≤ 7 from (by omega)) (show Sh u s from (p1))) mf_X12_isPolygon kw_1240 hG hP hP (ci := 8) (q0 := 0) rfl rfl rfl rfl hl.1 ⟨⟨Nat.le_of_ble_eq_true rfl, Nat.le_of_ble_eq_true rfl⟩, Nat.le_of_ble_eq_true rfl, Nat.le_refl _, Nat.le_refl _⟩ rfl dX12_isRound_2 (fun z_2 h_2 => ?_)
  have h_2 : (z_2 = 1 ∧ 2 < mN u s) ∨ (z_2 = 0 ∧ mN u s ≤ 2) := h_2
  refine j_if_eq SS (tgt := 23) (x := z_2) dX12_isRound_5 (by decide) (by omega) (fun c_5 => ?_) (fun c_5 => ?_)
  · skip
    refine j_iconst SS dX12_isRound_23 ?_
    exact W.zret SS.1 SS.2.1 hr (j_nz (by decide)) (fun t ht hW => ⟨_, rfl, ⟨0, rfl, (by first | exact ⟨Or.inl ⟨rfl, by omega⟩, fun _ => rfl⟩ | exact ⟨Or.inr rfl, fun q => by have := q.1; omega⟩ | exact ⟨Or.inr rfl, fun q => by have w := wLO h_12 q; omega⟩)⟩, ht⟩) (fun _ h => nomatch h) dX12_isRound_24 hlk
  · skip
    refine lv_aload_n SS.1 SS.2.1 dX12_isRound_8 rfl (lv_at hl 0 rfl) ?_
    refine lv_iload_n SS.1 SS.2.1 dX12_isRound_9 rfl (lv_at hl 1 rfl) ?_
    refine j_iconst SS dX12_isRound_10 ?_
    refine j_iconst SS dX12_isRound_11 ?_
    refine j_vRi SS (As := [.int (J s), .int (J 0), .int (J 0)]) (rest := []) (c_X12_whereOf l D o q u s 0 0 (show 0 ≤ s ∧ s ≤ 7 from (by omega)) (show Sh u s from (p1)) (show -100 ≤ (0 : Int) ∧ (0 : Int) ≤ 100 from (by omega)) (show -100 ≤ (0 : Int) ∧ (0 : Int) ≤ 100 from (by omega))) mf_X12_whereOf kw_1255 hG hP hP (ci := 8) (q0 := 0) rfl rfl rfl rfl hl.1 ⟨⟨Nat.le_of_ble_eq_true rfl, Nat.le_of_ble_eq_true rfl⟩, Nat.le_of_ble_eq_true rfl, Nat.le_refl _, Nat.le_refl _⟩ rfl dX12_isRound_12 (fun z_12 h_12 => ?_)
    have h_12 : wR u s (0 : Int) (0 : Int) z_12 := h_12
    have zb := wR_b h_12
    refine j_iconst SS dX12_isRound_15 ?_
    refine j_icmp_ne SS (tgt := 23) (x := z_12) (y := 2) dX12_isRound_16 (by decide) (by omega) (by decide) (fun c_16 => ?_) (fun c_16 => ?_)
    · skip
      refine j_iconst SS dX12_isRound_23 ?_
      exact W.zret SS.1 SS.2.1 hr (j_nz (by decide)) (fun t ht hW => ⟨_, rfl, ⟨0, rfl, (by first | exact ⟨Or.inl ⟨rfl, by omega⟩, fun _ => rfl⟩ | exact ⟨Or.inr rfl, fun q => by have := q.1; omega⟩ | exact ⟨Or.inr rfl, fun q => by have w := wLO h_12 q; omega⟩)⟩, ht⟩) (fun _ h => nomatch h) dX12_isRound_24 hlk
    · skip
      refine j_iconst SS dX12_isRound_19 ?_
      refine lv_goto (tgt := 24) SS.1 SS.2.1 dX12_isRound_20 (by decide) ?_
      exact W.zret SS.1 SS.2.1 hr (j_nz (by decide)) (fun t ht hW => ⟨_, rfl, ⟨1, rfl, (by first | exact ⟨Or.inl ⟨rfl, by omega⟩, fun _ => rfl⟩ | exact ⟨Or.inr rfl, fun q => by have := q.1; omega⟩ | exact ⟨Or.inr rfl, fun q => by have w := wLO h_12 q; omega⟩)⟩, ht⟩) (fun _ h => nomatch h) dX12_isRound_24 hlk

set_option maxHeartbeats 4000000 in
set_option maxRecDepth 100000 in
theorem c_X12_isReflexive2 (l : Launch) (D : JD) (o : Nat) (q : Nat → Nat) (u : MS) (s : Int) (p0 : 0 ≤ s ∧ s ≤ 7) (p1 : Sh u s) : Met l yX12_isReflexive (jw yX12_isReflexive cX12_isReflexive 4 (some .boolean)) (jr 5 110) (jP [.ref o, .int (J s)] D (fun H => va_P D.1 j_cl (mW D o q u) H)) (jRi (fun z => (z = 1 ∧ mRef u s) ∨ (z = 0 ∧ ¬ mRef u s))) 0 0 (fun _ => False) := by
  refine Met.ofW (cc := cX12_isReflexive) (maxL := 4) (ret := (some .boolean)) (by decide) rfl ?_
  intro pr en st mi args below meth co s₁ B hml hv
  obtain ⟨rfl, hG, hP⟩ := hv
  have hr := B.returns
  have hlk := B.notSynchronized
  have SS : jS pr mi co cX12_isReflexive 4 st _ RX12 := ⟨B.exec, B.bytes, hml, findClass_of_methodNamed B.named, fun w hw => atoms_spec (ws := (jw yX12_isReflexive cX12_isReflexive 4 (some .boolean))) B.pre w (List.mem_cons_of_mem _ hw)⟩
  have hl := lv_entry ([.ref o, .int (J s)]) (n := 4) (Nat.le_of_ble_eq_true rfl)
  rw [lg_entry_eq]
  generalize (lg_sl ([.ref o, .int (J s)]) ++ List.replicate (4 - (lg_sl ([.ref o, .int (J s)])).length) Slot.unset).toArray = ls at hl ⊢
  have hl : lv_has ls 4 [(0, .ref o), (1, .int (J s))] := hl
  have hN := p1.1
  have hC := p1.2.2
  refine lv_aload_n SS.1 SS.2.1 dX12_isReflexive_0 rfl (lv_at hl 0 rfl) ?_
  refine lv_iload_n SS.1 SS.2.1 dX12_isReflexive_1 rfl (lv_at hl 1 rfl) ?_
  refine j_vRi SS (As := [.int (J s)]) (rest := []) (c_X12_isRound2 l D o q u s (show 0 ≤ s ∧ s ≤ 7 from (by omega)) (show Sh u s from (p1))) mf_X12_isRound kw_1360 hG hP hP (ci := 8) (q0 := 0) rfl rfl rfl rfl hl.1 ⟨⟨Nat.le_of_ble_eq_true rfl, Nat.le_of_ble_eq_true rfl⟩, Nat.le_of_ble_eq_true rfl, Nat.le_refl _, Nat.le_refl _⟩ rfl dX12_isReflexive_2 (fun z_2 h_2 => ?_)
  have h_2 : ((z_2 = 1 ∧ 2 < mN u s) ∨ z_2 = 0) ∧ (mLO u s → z_2 = 1) := h_2
  refine lv_istore_n (lv' := [(2, .int (J z_2)), (0, .ref o), (1, .int (J s))]) SS.1 SS.2.1 dX12_isReflexive_5 rfl hl (by decide) rfl (fun ls hl => ?_)
  refine j_iconst SS dX12_isReflexive_6 ?_
  refine lv_istore_n (lv' := [(3, .int (J 0)), (2, .int (J z_2)), (0, .ref o), (1, .int (J s))]) SS.1 SS.2.1 dX12_isReflexive_7 rfl hl (by decide) rfl (fun ls hl => ?_)
  have L_8 : ∀ (nn : Nat) (t2 : Int) (i : Int) (ls : Array Slot) (hl : lv_has ls 4 [(0, .ref o), (1, .int (J s)), (2, .int (J t2)), (3, .int (J i))]) (i8_0 : 0 ≤ i ∧ i ≤ 24) (i8_1 : (t2 = 1 ∧ 2 < mN u s ∧ ∀ j : Int, 0 ≤ j → j < i → mFar u s j = 1) ∨ (t2 = 0 ∧ ¬ mRef u s)), ((24 : Int) - i).toNat < nn → W pr l en (headSpec (jw yX12_isReflexive cX12_isReflexive 4 (some .boolean)) (jr 5 110)).room st mi (([.ref o, .int (J s)] : List Value).toArray) below meth co st.heap [] 0 0 (MQ below (jRi (fun z => (z = 1 ∧ mRef u s) ∨ (z = 0 ∧ ¬ mRef u s))) (([.ref o, .int (J s)] : List Value).toArray) st 0 0 (fun _ => False)) (F0 mi 8 ls []) := by
    intro nn
    induction nn with
    | zero => intros; omega
    | succ nn ih_8 =>
      intro t2 i ls hl i8_0 i8_1 hm
      refine lv_iload_n SS.1 SS.2.1 dX12_isReflexive_8 rfl (lv_at hl 2 rfl) ?_
      refine j_if_eq SS (tgt := 44) (x := t2) dX12_isReflexive_9 (by decide) (by omega) (fun c_9 => ?_) (fun c_9 => ?_)
      · skip
        refine lv_iload_n SS.1 SS.2.1 dX12_isReflexive_44 rfl (lv_at hl 2 rfl) ?_
        exact W.zret SS.1 SS.2.1 hr (j_nz (by omega)) (fun t ht hW => ⟨_, rfl, ⟨t2, rfl, (by rcases i8_1 with q | q; exact Or.inl ⟨q.1, q.2.1, fun j h1 h2 => q.2.2 j h1 (by omega)⟩; exact Or.inr q)⟩, ht⟩) (fun _ h => nomatch h) dX12_isReflexive_45 hlk
      · skip
        refine lv_iload_n SS.1 SS.2.1 dX12_isReflexive_12 rfl (lv_at hl 3 rfl) ?_
        refine lv_aload_n SS.1 SS.2.1 dX12_isReflexive_13 rfl (lv_at hl 0 rfl) ?_
        refine j_get SS hG hP 0 (v := .ref (q 0)) (C := RX12) (T := TX12) (N := 31) rfl rfl inX12 0 (by decide) (ref := RX12) kw_1058 rfl rfl dX12_isReflexive_14 ?_
        refine lv_iload_n SS.1 SS.2.1 dX12_isReflexive_17 rfl (lv_at hl 1 rfl) ?_
        refine j_iald SS hG hP 1 (n := 8) (f := (u.1 0)) rfl (z := s) (by omega) (by omega) dX12_isReflexive_18 ?_
        have hN_18 := (show Sh u s from p1).1
        refine j_icmp_ge SS (tgt := 44) (x := i) (y := (mN u s)) dX12_isReflexive_19 (by decide) (by omega) (by omega) (fun c_19 => ?_) (fun c_19 => ?_)
        · skip
          refine lv_iload_n SS.1 SS.2.1 dX12_isReflexive_44 rfl (lv_at hl 2 rfl) ?_
          exact W.zret SS.1 SS.2.1 hr (j_nz (by omega)) (fun t ht hW => ⟨_, rfl, ⟨t2, rfl, (by rcases i8_1 with q | q; exact Or.inl ⟨q.1, q.2.1, fun j h1 h2 => q.2.2 j h1 (by omega)⟩; exact Or.inr q)⟩, ht⟩) (fun _ h => nomatch h) dX12_isReflexive_45 hlk
        · skip
          refine lv_aload_n SS.1 SS.2.1 dX12_isReflexive_22 rfl (lv_at hl 0 rfl) ?_
          refine lv_iload_n SS.1 SS.2.1 dX12_isReflexive_23 rfl (lv_at hl 1 rfl) ?_
          refine lv_iload_n SS.1 SS.2.1 dX12_isReflexive_24 rfl (lv_at hl 3 rfl) ?_
          refine j_vRi SS (As := [.int (J s), .int (J i)]) (rest := []) (c_X12_farOf2 l D o q u s i (show 0 ≤ s ∧ s ≤ 7 from (by omega)) (show Sh u s from (p1)) (show 0 ≤ i ∧ i < mN u s from (by first | omega | (have hq := (show Sh u s from p1).1; omega))) (show 2 ≤ mN u s from (by first | omega | (have hq := (show Sh u s from p1).1; omega)))) mf_X12_farOf kw_1372 hG hP hP (ci := 8) (q0 := 0) rfl rfl rfl rfl hl.1 ⟨⟨Nat.le_of_ble_eq_true rfl, Nat.le_of_ble_eq_true rfl⟩, Nat.le_of_ble_eq_true rfl, Nat.le_refl _, Nat.le_refl _⟩ rfl dX12_isReflexive_25 (fun z_25 h_25 => ?_)
          have h_25 : z_25 = mFar u s i ∧ -6400 ≤ z_25 ∧ z_25 ≤ 6400 := h_25
          refine j_iconst SS dX12_isReflexive_28 ?_
          refine j_icmp_ne SS (tgt := 36) (x := z_25) (y := 1) dX12_isReflexive_29 (by decide) (by omega) (by decide) (fun c_29 => ?_) (fun c_29 => ?_)
          · skip
            refine j_iconst SS dX12_isReflexive_36 ?_
            refine lv_istore_n (lv' := [(2, .int (J 0)), (0, .ref o), (1, .int (J s)), (3, .int (J i))]) SS.1 SS.2.1 dX12_isReflexive_37 rfl hl (by decide) rfl (fun ls hl => ?_)
            refine lv_iinc (v := J (i + 1)) (lv' := [(3, .int (J (i + 1))), (2, .int (J 0)), (0, .ref o), (1, .int (J s))]) SS.1 SS.2.1 dX12_isReflexive_38 hl (k := 3) rfl (J_add _ _) (by decide) rfl (fun ls hl => ?_)
            refine lv_goto (tgt := 8) SS.1 SS.2.1 dX12_isReflexive_41 (by decide) ?_
            exact ih_8 0 (i + 1) ls (lv_sub hl [2, 3, 1, 0] rfl) (by omega) (by first | (refine Or.inl ⟨rfl, by omega, fun j h1 h2 => ?_⟩; by_cases e : j = i; (rw [e, ← h_25.1]; omega); rcases i8_1 with q | q; exact q.2.2 j h1 (by omega); omega) | (refine Or.inr ⟨rfl, fun w => ?_⟩; have w2 := w.2 i (by omega) (by omega); rw [← h_25.1] at w2; omega)) (by omega)
          · skip
            refine j_iconst SS dX12_isReflexive_32 ?_
            refine lv_goto (tgt := 37) SS.1 SS.2.1 dX12_isReflexive_33 (by decide) ?_
            refine lv_istore_n (lv' := [(2, .int (J 1)), (0, .ref o), (1, .int (J s)), (3, .int (J i))]) SS.1 SS.2.1 dX12_isReflexive_37 rfl hl (by decide) rfl (fun ls hl => ?_)
            refine lv_iinc (v := J (i + 1)) (lv' := [(3, .int (J (i + 1))), (2, .int (J 1)), (0, .ref o), (1, .int (J s))]) SS.1 SS.2.1 dX12_isReflexive_38 hl (k := 3) rfl (J_add _ _) (by decide) rfl (fun ls hl => ?_)
            refine lv_goto (tgt := 8) SS.1 SS.2.1 dX12_isReflexive_41 (by decide) ?_
            exact ih_8 1 (i + 1) ls (lv_sub hl [2, 3, 1, 0] rfl) (by omega) (by first | (refine Or.inl ⟨rfl, by omega, fun j h1 h2 => ?_⟩; by_cases e : j = i; (rw [e, ← h_25.1]; omega); rcases i8_1 with q | q; exact q.2.2 j h1 (by omega); omega) | (refine Or.inr ⟨rfl, fun w => ?_⟩; have w2 := w.2 i (by omega) (by omega); rw [← h_25.1] at w2; omega)) (by omega)
  exact L_8 (((24 : Int) - (0 : Int)).toNat + 1) z_2 0 ls (lv_sub hl [2, 3, 1, 0] rfl) (by omega) (by rcases h_2.1 with q | q; exact Or.inl ⟨q.1, q.2, fun j h1 h2 => by omega⟩; exact Or.inr ⟨q, fun w => by have := h_2.2 (mRef_LO w); omega⟩) (Nat.lt_succ_self _)

set_option maxHeartbeats 4000000 in
set_option maxRecDepth 100000 in
theorem c_X12_dual2 (l : Launch) (D : JD) (o : Nat) (q : Nat → Nat) (u : MS) (A : Nat → Prop) (hD : va_D A (mW D o q u)) (s : Int) (t2 : Int) (p0 : IM u) (p1 : -2147483648 ≤ s ∧ s ≤ 2147483647) (p2 : -2147483648 ≤ t2 ∧ t2 ≤ 2147483647) : Met l yX12_dual (jw yX12_dual cX12_dual 4 (some .int)) (jr 6 133) (jP [.ref o, .int (J s), .int (J t2)] D (fun H => va_P D.1 j_cl (mW D o q u) H)) (jWi (fun z u' => ∃ f0 : Nat → Int, ∃ f1 : Nat → Int, ∃ f2 : Nat → Int, ∃ f3 : Nat → Int, ∃ f4 : Nat → Int, ∃ f5 : Nat → Int, ∃ w : Int, ∃ X : Nat → Int, ∃ Y : Nat → Int, ∃ nh : Int, u' = (uV (uI (uI (uV (uI (uI (uI (uI (uI (uI u 0 f0) 1 f1) 2 f2) 3 f3) 4 f4) 5 f5) 6 w) 7 X) 8 Y) 9 nh) ∧ (IM u' ∧ dlM u u' s t2 z)) (fun u' H => va_P D.1 j_cl (mW D o q u') H) A) 0 0 A := by
  refine Met.ofW (cc := cX12_dual) (maxL := 4) (ret := (some .int)) (by decide) rfl ?_
  intro pr en st mi args below meth co s₁ B hml hv
  obtain ⟨rfl, hG, hP⟩ := hv
  have hr := B.returns
  have hlk := B.notSynchronized
  have SS : jS pr mi co cX12_dual 4 st _ RX12 := ⟨B.exec, B.bytes, hml, findClass_of_methodNamed B.named, fun w hw => atoms_spec (ws := (jw yX12_dual cX12_dual 4 (some .int))) B.pre w (List.mem_cons_of_mem _ hw)⟩
  have hl := lv_entry ([.ref o, .int (J s), .int (J t2)]) (n := 4) (Nat.le_of_ble_eq_true rfl)
  rw [lg_entry_eq]
  generalize (lg_sl ([.ref o, .int (J s), .int (J t2)]) ++ List.replicate (4 - (lg_sl ([.ref o, .int (J s), .int (J t2)])).length) Slot.unset).toArray = ls at hl ⊢
  have hl : lv_has ls 4 [(0, .ref o), (1, .int (J s)), (2, .int (J t2))] := hl
  have hS : va_S A st.heap st.heap [] := va_S.rf
  refine lv_iload_n SS.1 SS.2.1 dX12_dual_0 rfl (lv_at hl 1 rfl) ?_
  refine j_sRi SS (As := [.int (J s)]) (rest := []) (c_X12_isShape l D s (show -2147483648 ≤ s ∧ s ≤ 2147483647 from (by omega))) mf_X12_isShape kw_1156 hG trivial rfl hl.1 ⟨⟨Nat.le_of_ble_eq_true rfl, Nat.le_of_ble_eq_true rfl⟩, Nat.le_of_ble_eq_true rfl, Nat.le_refl _, Nat.le_refl _⟩ rfl dX12_dual_1 (fun z_1 h_1 => ?_)
  have h_1 : (z_1 = 1 ∧ (0 ≤ s ∧ s ≤ 7)) ∨ (z_1 = 0 ∧ ¬ (0 ≤ s ∧ s ≤ 7)) := h_1
  refine j_if_eq SS (tgt := 14) (x := z_1) dX12_dual_4 (by decide) (by omega) (fun c_4 => ?_) (fun c_4 => ?_)
  · skip
    refine j_iconst SS dX12_dual_14 ?_
    exact W.iret SS.1 SS.2.1 hr (fun t ht hW => ⟨⟨_, (uV (uI (uI (uV (uI (uI (uI (uI (uI (uI u 0 (u.1 0)) 1 (u.1 1)) 2 (u.1 2)) 3 (u.1 3)) 4 (u.1 4)) 5 (u.1 5)) 6 (u.2.2 6)) 7 (u.1 7)) 8 (u.1 8)) 9 (u.2.2 9)), rfl, ⟨(-1), rfl, (⟨(u.1 0), (u.1 1), (u.1 2), (u.1 3), (u.1 4), (u.1 5), (u.2.2 6), (u.1 7), (u.1 8), (u.2.2 9), rfl, ⟨p0, Or.inl ⟨by omega, rfl, rfl, rfl, rfl⟩⟩⟩)⟩, by show va_P D.1 j_cl (mW D o q (uV (uI (uI (uV (uI (uI (uI (uI (uI (uI u 0 (u.1 0)) 1 (u.1 1)) 2 (u.1 2)) 3 (u.1 3)) 4 (u.1 4)) 5 (u.1 5)) 6 (u.2.2 6)) 7 (u.1 7)) 8 (u.1 8)) 9 (u.2.2 9))) t.heap; rw [ht]; exact hP⟩, hS.F ht⟩) hS.2.2 dX12_dual_15 hlk
  · skip
    refine lv_iload_n SS.1 SS.2.1 dX12_dual_7 rfl (lv_at hl 2 rfl) ?_
    refine j_sRi SS (As := [.int (J t2)]) (rest := []) (c_X12_isShape l D t2 (show -2147483648 ≤ t2 ∧ t2 ≤ 2147483647 from (by omega))) mf_X12_isShape kw_1156 hG trivial rfl hl.1 ⟨⟨Nat.le_of_ble_eq_true rfl, Nat.le_of_ble_eq_true rfl⟩, Nat.le_of_ble_eq_true rfl, Nat.le_refl _, Nat.le_refl _⟩ rfl dX12_dual_8 (fun z_8 h_8 => ?_)
    have h_8 : (z_8 = 1 ∧ (0 ≤ t2 ∧ t2 ≤ 7)) ∨ (z_8 = 0 ∧ ¬ (0 ≤ t2 ∧ t2 ≤ 7)) := h_8
    refine j_if_ne SS (tgt := 16) (x := z_8) dX12_dual_11 (by decide) (by omega) (fun c_11 => ?_) (fun c_11 => ?_)
    · skip
      refine lv_aload_n SS.1 SS.2.1 dX12_dual_16 rfl (lv_at hl 0 rfl) ?_
      refine lv_iload_n SS.1 SS.2.1 dX12_dual_17 rfl (lv_at hl 1 rfl) ?_
      refine j_vRi SS (As := [.int (J s)]) (rest := []) (c_X12_isReflexive2 l D o q u s (show 0 ≤ s ∧ s ≤ 7 from (by omega)) (show Sh u s from (p0.1 _ (by omega) (by omega)))) mf_X12_isReflexive kw_1380 hG hP hP (ci := 8) (q0 := 0) rfl rfl rfl rfl hl.1 ⟨⟨Nat.le_of_ble_eq_true rfl, Nat.le_of_ble_eq_true rfl⟩, Nat.le_of_ble_eq_true rfl, Nat.le_refl _, Nat.le_refl _⟩ rfl dX12_dual_18 (fun z_18 h_18 => ?_)
      have h_18 : (z_18 = 1 ∧ mRef u s) ∨ (z_18 = 0 ∧ ¬ mRef u s) := h_18
      refine j_if_ne SS (tgt := 27) (x := z_18) dX12_dual_21 (by decide) (by omega) (fun c_21 => ?_) (fun c_21 => ?_)
      · skip
        have hSh := p0.1 s (by omega) (by omega)
        have hN := hSh.1
        have href : mRef u s := by rcases h_18 with q | q; exact q.2; omega
        have hn3 := href.1
        refine lv_aload_n SS.1 SS.2.1 dX12_dual_27 rfl (lv_at hl 0 rfl) ?_
        refine j_iconst SS dX12_dual_28 ?_
        refine j_put SS hG hP (mW_D hD) hS 0 (v := .int (J 0)) (ty := .int) (C := RX12) (T := TX12) (N := 31) rfl rfl inX12 tyX12 tyX12_ok nmX12 6 (by decide) (ref := RX12) kw_1064 rfl rfl (by decide +kernel) rfl rfl (Nat.le_of_ble_eq_true rfl) dX12_dual_29 (ws' := (mW D o q (uV u 6 0))) rfl (fun H locs hP hS => ?_)
        refine j_iconst SS dX12_dual_32 ?_
        refine lv_istore_n (lv' := [(3, .int (J 0)), (0, .ref o), (1, .int (J s)), (2, .int (J t2))]) SS.1 SS.2.1 dX12_dual_33 rfl hl (by decide) rfl (fun ls hl => ?_)
        have L_34 : ∀ (nn : Nat) (i : Int) (f : Nat → Int) (g : Nat → Int) (w : Int) (H : Heap) (locs : List Loc) (hP : va_P D.1 j_cl (mW D o q (uV (uI (uI u 4 f) 5 g) 6 w)) H) (hS : va_S A st.heap H locs) (ls : Array Slot) (hl : lv_has ls 4 [(0, .ref o), (1, .int (J s)), (2, .int (J t2)), (3, .int (J i))]) (i34_0 : 0 ≤ i ∧ i ≤ mN u s) (i34_1 : w = i) (i34_2 : bd 80 f g w) (i34_3 : ∀ x y : Int, SWW f g w x y ↔ NMi u s i x y), (mN u s - i).toNat < nn → W pr l en (headSpec (jw yX12_dual cX12_dual 4 (some .int)) (jr 6 133)).room st mi (([.ref o, .int (J s), .int (J t2)] : List Value).toArray) below meth co H locs 0 0 (MQ below (jWi (fun z u' => ∃ f0 : Nat → Int, ∃ f1 : Nat → Int, ∃ f2 : Nat → Int, ∃ f3 : Nat → Int, ∃ f4 : Nat → Int, ∃ f5 : Nat → Int, ∃ w : Int, ∃ X : Nat → Int, ∃ Y : Nat → Int, ∃ nh : Int, u' = (uV (uI (uI (uV (uI (uI (uI (uI (uI (uI u 0 f0) 1 f1) 2 f2) 3 f3) 4 f4) 5 f5) 6 w) 7 X) 8 Y) 9 nh) ∧ (IM u' ∧ dlM u u' s t2 z)) (fun u' H => va_P D.1 j_cl (mW D o q u') H) A) (([.ref o, .int (J s), .int (J t2)] : List Value).toArray) st 0 0 A) (F0 mi 34 ls []) := by
          intro nn
          induction nn with
          | zero => intros; omega
          | succ nn ih_34 =>
            intro i f g w H locs hP hS ls hl i34_0 i34_1 i34_2 i34_3 hm
            refine lv_iload_n SS.1 SS.2.1 dX12_dual_34 rfl (lv_at hl 3 rfl) ?_
            refine lv_aload_n SS.1 SS.2.1 dX12_dual_35 rfl (lv_at hl 0 rfl) ?_
            refine j_get SS hG hP 0 (v := .ref (q 0)) (C := RX12) (T := TX12) (N := 31) rfl rfl inX12 0 (by decide) (ref := RX12) kw_1058 rfl rfl dX12_dual_36 ?_
            refine lv_iload_n SS.1 SS.2.1 dX12_dual_39 rfl (lv_at hl 1 rfl) ?_
            refine j_iald SS hG hP 1 (n := 8) (f := (u.1 0)) rfl (z := s) (by omega) (by omega) dX12_dual_40 ?_
            have hN_40 := (show Sh u s from p0.1 _ (by omega) (by omega)).1
            refine j_icmp_ge SS (tgt := 66) (x := i) (y := (mN u s)) dX12_dual_41 (by decide) (by omega) (by omega) (fun c_41 => ?_) (fun c_41 => ?_)
            · skip
              refine lv_aload_n SS.1 SS.2.1 dX12_dual_66 rfl (lv_at hl 0 rfl) ?_
              refine j_vWv SS (As := []) (rest := []) (c_X12_findHull2 l D o q (uV (uI (uI u 4 f) 5 g) 6 w) A (mW_D hD)  (show 0 ≤ w ∧ w ≤ 640 from (by omega)) (show bd 10000 (f) (g) (w) from (bd_K i34_2 (by omega)))) mf_X12_findHull kw_1189 hG hP hP (ci := 8) (q0 := 0) rfl rfl rfl hS (fun _ h => h) rfl hl.1 ⟨⟨Nat.le_of_ble_eq_true rfl, Nat.le_of_ble_eq_true rfl⟩, Nat.le_of_ble_eq_true rfl, Nat.le_refl _, Nat.le_refl _⟩ rfl dX12_dual_67 (fun u67 H locs h_67 hP _ hS => ?_)
              obtain ⟨f_67, g_67, w_67, X_67, Y_67, nh_67, rfl, h_67⟩ := h_67
              have hP : va_P D.1 j_cl (mW D o q (uV (uI (uI (uV (uI (uI u 4 f_67) 5 g_67) 6 w_67) 7 X_67) 8 Y_67) 9 nh_67)) H := hP
              have h_67 : 0 ≤ nh_67 ∧ nh_67 ≤ 1290 ∧ Ch nh_67 X_67 Y_67 ∧ (0 < w → 0 < nh_67) ∧ bd 10000 X_67 Y_67 nh_67 ∧ (∀ K : Int, bd K (f) (g) (w) → bd K X_67 Y_67 nh_67) ∧ HS (SWW (f) (g) (w)) nh_67 X_67 Y_67 := h_67
              obtain ⟨a1, a2, a3, a4, a5, a6, a7⟩ := h_67
              refine lv_aload_n SS.1 SS.2.1 dX12_dual_70 rfl (lv_at hl 0 rfl) ?_
              refine lv_iload_n SS.1 SS.2.1 dX12_dual_71 rfl (lv_at hl 2 rfl) ?_
              refine j_iconst SS dX12_dual_72 ?_
              refine j_vWi SS (As := [.int (J t2), .int (J 1)]) (rest := []) (c_X12_take l D o q (uV (uI (uI (uV (uI (uI u 4 f_67) 5 g_67) 6 w_67) 7 X_67) 8 Y_67) 9 nh_67) A (mW_D hD) t2 1 (show 0 ≤ t2 ∧ t2 ≤ 7 from (by omega)) (show (1 : Int) = 0 ∨ (1 : Int) = 1 from (by omega)) (show 0 ≤ nh_67 ∧ nh_67 ≤ 1290 from (by omega)) (show bd 10000 (X_67) (Y_67) (nh_67) from (a5))) mf_X12_take kw_1162 hG hP hP (ci := 8) (q0 := 0) rfl rfl rfl hS (fun _ h => h) rfl hl.1 ⟨⟨Nat.le_of_ble_eq_true rfl, Nat.le_of_ble_eq_true rfl⟩, Nat.le_of_ble_eq_true rfl, Nat.le_refl _, Nat.le_refl _⟩ rfl dX12_dual_73 (fun z_73 u73 H locs h_73 hP _ hS => ?_)
              obtain ⟨f0_73, f1_73, f2_73, f3_73, rfl, h_73⟩ := h_73
              have hP : va_P D.1 j_cl (mW D o q (uV (uI (uI (uV (uI (uI (uI (uI (uI (uI u 0 f0_73) 1 f1_73) 2 f2_73) 3 f3_73) 4 f_67) 5 g_67) 6 w_67) 7 X_67) 8 Y_67) 9 nh_67)) H := hP
              have h_73 : (z_73 = -3 ∧ ¬ tk_ok (1 : Int) 40 (X_67) (Y_67) (nh_67) (nh_67) ∧ f0_73 = (u.1 0) ∧ f1_73 = (u.1 1) ∧ f2_73 = (u.1 2) ∧ f3_73 = (u.1 3)) ∨ (z_73 = nh_67 ∧ tk_ok (1 : Int) 40 (X_67) (Y_67) (nh_67) (nh_67) ∧ tk_new (uV (uI (uI (uV (uI (uI u 4 f_67) 5 g_67) 6 w_67) 7 X_67) 8 Y_67) 9 nh_67) f0_73 f1_73 f2_73 f3_73 t2) := h_73
              exact W.iret SS.1 SS.2.1 hr (fun t ht hW => ⟨⟨_, (uV (uI (uI (uV (uI (uI (uI (uI (uI (uI u 0 f0_73) 1 f1_73) 2 f2_73) 3 f3_73) 4 f_67) 5 g_67) 6 w_67) 7 X_67) 8 Y_67) 9 nh_67), rfl, ⟨z_73, rfl, (⟨f0_73, f1_73, f2_73, f3_73, f_67, g_67, w_67, X_67, Y_67, nh_67, rfl, ⟨(show IM (uI (uI (uI (uI (uV (uI (uI (uV (uI (uI u 4 f_67) 5 g_67) 6 w_67) 7 X_67) 8 Y_67) 9 nh_67) 0 f0_73) 1 f1_73) 2 f2_73) 3 f3_73) from IM_tk (u := (uV (uI (uI (uV (uI (uI u 4 f_67) 5 g_67) 6 w_67) 7 X_67) 8 Y_67) 9 nh_67)) p0 ⟨by omega, by omega⟩ (Or.inr rfl) a1 (fun q => by omega) a3 h_73), Or.inr ⟨by omega, by omega, Or.inr ⟨href, mkM_tk (v0 := u) (v := (uV (uI (uI (uV (uI (uI u 4 f_67) 5 g_67) 6 w_67) 7 X_67) 8 Y_67) 9 nh_67)) p0.1 rfl rfl rfl ⟨by omega, by omega⟩ a1 (Or.inr rfl) (fun q => by omega) a7 (by rw [show i = mN u s by omega] at i34_3; exact i34_3) h_73⟩⟩⟩⟩)⟩, by show va_P D.1 j_cl (mW D o q (uV (uI (uI (uV (uI (uI (uI (uI (uI (uI u 0 f0_73) 1 f1_73) 2 f2_73) 3 f3_73) 4 f_67) 5 g_67) 6 w_67) 7 X_67) 8 Y_67) 9 nh_67)) t.heap; rw [ht]; exact hP⟩, hS.F ht⟩) hS.2.2 dX12_dual_76 hlk
            · skip
              refine lv_aload_n SS.1 SS.2.1 dX12_dual_44 rfl (lv_at hl 0 rfl) ?_
              refine lv_aload_n SS.1 SS.2.1 dX12_dual_45 rfl (lv_at hl 0 rfl) ?_
              refine lv_iload_n SS.1 SS.2.1 dX12_dual_46 rfl (lv_at hl 1 rfl) ?_
              refine lv_iload_n SS.1 SS.2.1 dX12_dual_47 rfl (lv_at hl 3 rfl) ?_
              refine j_vRi SS (As := [.int (J s), .int (J i)]) (rest := [.ref o]) (c_X12_normalX2 l D o q (uV (uI (uI u 4 f) 5 g) 6 w) s i (show 0 ≤ s ∧ s ≤ 7 from (by omega)) (show Sh u s from (hSh)) (show 0 ≤ i ∧ i < mN u s from (by omega)) (show 2 ≤ mN u s from (by omega))) mf_X12_normalX kw_1364 hG hP hP (ci := 8) (q0 := 0) rfl rfl rfl rfl hl.1 ⟨⟨Nat.le_of_ble_eq_true rfl, Nat.le_of_ble_eq_true rfl⟩, Nat.le_of_ble_eq_true rfl, Nat.le_refl _, Nat.le_refl _⟩ rfl dX12_dual_48 (fun z_48 h_48 => ?_)
              have h_48 : z_48 = mNX u s i ∧ -80 ≤ z_48 ∧ z_48 ≤ 80 := h_48
              refine lv_aload_n SS.1 SS.2.1 dX12_dual_51 rfl (lv_at hl 0 rfl) ?_
              refine lv_iload_n SS.1 SS.2.1 dX12_dual_52 rfl (lv_at hl 1 rfl) ?_
              refine lv_iload_n SS.1 SS.2.1 dX12_dual_53 rfl (lv_at hl 3 rfl) ?_
              refine j_vRi SS (As := [.int (J s), .int (J i)]) (rest := [.int (J z_48), .ref o]) (c_X12_normalY2 l D o q (uV (uI (uI u 4 f) 5 g) 6 w) s i (show 0 ≤ s ∧ s ≤ 7 from (by omega)) (show Sh u s from (hSh)) (show 0 ≤ i ∧ i < mN u s from (by omega)) (show 2 ≤ mN u s from (by omega))) mf_X12_normalY kw_1368 hG hP hP (ci := 8) (q0 := 0) rfl rfl rfl rfl hl.1 ⟨⟨Nat.le_of_ble_eq_true rfl, Nat.le_of_ble_eq_true rfl⟩, Nat.le_of_ble_eq_true rfl, Nat.le_refl _, Nat.le_refl _⟩ rfl dX12_dual_54 (fun z_54 h_54 => ?_)
              have h_54 : z_54 = mNY u s i ∧ -80 ≤ z_54 ∧ z_54 ≤ 80 := h_54
              refine j_vWv SS (As := [.int (J z_48), .int (J z_54)]) (rest := []) (c_X12_put l D o q (uV (uI (uI u 4 f) 5 g) 6 w) A (mW_D hD) z_48 z_54 (show 0 ≤ w ∧ w < 640 from (by omega))) mf_X12_put kw_1185 hG hP hP (ci := 8) (q0 := 0) rfl rfl rfl hS (fun _ h => h) rfl hl.1 ⟨⟨Nat.le_of_ble_eq_true rfl, Nat.le_of_ble_eq_true rfl⟩, Nat.le_of_ble_eq_true rfl, Nat.le_refl _, Nat.le_refl _⟩ rfl dX12_dual_57 (fun u57 H locs h_57 hP _ hS => ?_)
              obtain ⟨f_57, g_57, w_57, rfl, h_57⟩ := h_57
              have hP : va_P D.1 j_cl (mW D o q (uV (uI (uI u 4 f_57) 5 g_57) 6 w_57)) H := hP
              have h_57 : f_57 = upI (f) (w).toNat z_48 ∧ g_57 = upI (g) (w).toNat z_54 ∧ w_57 = w + 1 := h_57
              have k1 := h_57.2.2
              refine lv_iinc (v := J (i + 1)) (lv' := [(3, .int (J (i + 1))), (0, .ref o), (1, .int (J s)), (2, .int (J t2))]) SS.1 SS.2.1 dX12_dual_60 hl (k := 3) rfl (J_add _ _) (by decide) rfl (fun ls hl => ?_)
              refine lv_goto (tgt := 34) SS.1 SS.2.1 dX12_dual_63 (by decide) ?_
              exact ih_34 (i + 1) f_57 g_57 w_57 _ _ hP hS ls (lv_sub hl [1, 2, 3, 0] rfl) (by omega) (by omega) (by obtain ⟨k1, k2, k3⟩ := h_57; rw [k1, k2, k3]; exact bd_put (by omega) i34_2 (by omega) (by omega)) (fun x y => by obtain ⟨k1, k2, k3⟩ := h_57; rw [k1, k2, k3, SWW_put (by omega), i34_3]; exact nm_s i34_0.1 h_48.1 h_54.1 x y) (by omega)
        exact L_34 ((mN u s - (0 : Int)).toNat + 1) 0 (u.1 4) (u.1 5) 0 _ _ hP hS ls (lv_sub hl [1, 2, 3, 0] rfl) (by omega) (by omega) (fun a ha => by omega) (fun x y => ⟨fun q => absurd q (SWW_0 (by omega)), fun ⟨a, q1, _⟩ => by omega⟩) (Nat.lt_succ_self _)
      · skip
        refine j_bipush SS dX12_dual_24 (by decide +kernel) ?_
        exact W.iret SS.1 SS.2.1 hr (fun t ht hW => ⟨⟨_, (uV (uI (uI (uV (uI (uI (uI (uI (uI (uI u 0 (u.1 0)) 1 (u.1 1)) 2 (u.1 2)) 3 (u.1 3)) 4 (u.1 4)) 5 (u.1 5)) 6 (u.2.2 6)) 7 (u.1 7)) 8 (u.1 8)) 9 (u.2.2 9)), rfl, ⟨(-2), rfl, (⟨(u.1 0), (u.1 1), (u.1 2), (u.1 3), (u.1 4), (u.1 5), (u.2.2 6), (u.1 7), (u.1 8), (u.2.2 9), rfl, ⟨p0, Or.inr ⟨by omega, by omega, Or.inl ⟨by rcases h_18 with q | q; omega; exact q.2, rfl, rfl, rfl, rfl⟩⟩⟩⟩)⟩, by show va_P D.1 j_cl (mW D o q (uV (uI (uI (uV (uI (uI (uI (uI (uI (uI u 0 (u.1 0)) 1 (u.1 1)) 2 (u.1 2)) 3 (u.1 3)) 4 (u.1 4)) 5 (u.1 5)) 6 (u.2.2 6)) 7 (u.1 7)) 8 (u.1 8)) 9 (u.2.2 9))) t.heap; rw [ht]; exact hP⟩, hS.F ht⟩) hS.2.2 dX12_dual_26 hlk
    · skip
      refine j_iconst SS dX12_dual_14 ?_
      exact W.iret SS.1 SS.2.1 hr (fun t ht hW => ⟨⟨_, (uV (uI (uI (uV (uI (uI (uI (uI (uI (uI u 0 (u.1 0)) 1 (u.1 1)) 2 (u.1 2)) 3 (u.1 3)) 4 (u.1 4)) 5 (u.1 5)) 6 (u.2.2 6)) 7 (u.1 7)) 8 (u.1 8)) 9 (u.2.2 9)), rfl, ⟨(-1), rfl, (⟨(u.1 0), (u.1 1), (u.1 2), (u.1 3), (u.1 4), (u.1 5), (u.2.2 6), (u.1 7), (u.1 8), (u.2.2 9), rfl, ⟨p0, Or.inl ⟨by omega, rfl, rfl, rfl, rfl⟩⟩⟩)⟩, by show va_P D.1 j_cl (mW D o q (uV (uI (uI (uV (uI (uI (uI (uI (uI (uI u 0 (u.1 0)) 1 (u.1 1)) 2 (u.1 2)) 3 (u.1 3)) 4 (u.1 4)) 5 (u.1 5)) 6 (u.2.2 6)) 7 (u.1 7)) 8 (u.1 8)) 9 (u.2.2 9))) t.heap; rw [ht]; exact hP⟩, hS.F ht⟩) hS.2.2 dX12_dual_15 hlk
