
theorem IM_tk {u : MS} {f0 f1 f2 f3 : Nat → Int} {s b z : Int} (hI : IM u) (h0 : 0 ≤ s ∧ s ≤ 7) (hb : b = 0 ∨ b = 1) (hn : 0 ≤ u.2.2 9) (hb0 : b = 0 → bd 40 (u.1 7) (u.1 8) (u.2.2 9)) (hc : Ch (u.2.2 9) (u.1 7) (u.1 8)) (h : (z = -3 ∧ ¬ tk_ok b 40 (u.1 7) (u.1 8) (u.2.2 9) (u.2.2 9) ∧ f0 = u.1 0 ∧ f1 = u.1 1 ∧ f2 = u.1 2 ∧ f3 = u.1 3) ∨ (z = u.2.2 9 ∧ tk_ok b 40 (u.1 7) (u.1 8) (u.2.2 9) (u.2.2 9) ∧ tk_new u f0 f1 f2 f3 s)) : IM (uI (uI (uI (uI u 0 f0) 1 f1) 2 f2) 3 f3) := by
  rcases h with ⟨_, _, e0, e1, e2, e3⟩ | ⟨k1, k2, k3⟩
  · rw [e0, e1, e2, e3]; exact hI
  · refine IM_new hI h0.1 h0.2 ⟨hn, k2.1⟩ ?_ hc k3
    rcases hb with e | e
    · exact hb0 e
    · exact k2.2 e

set_option maxHeartbeats 4000000 in
set_option maxRecDepth 100000 in
theorem c_X12_corners (l : Launch) (D : JD) (o : Nat) (q : Nat → Nat) (u : MS) (s : Int) (p0 : IM u) (p1 : -2147483648 ≤ s ∧ s ≤ 2147483647) : Met l yX12_corners (jw yX12_corners cX12_corners 2 (some .int)) (jr 2 42) (jP [.ref o, .int (J s)] D (fun H => va_P D.1 j_cl (mW D o q u) H)) (jRi (fun z => (0 ≤ s ∧ s ≤ 7 ∧ z = mN u s) ∨ (¬ (0 ≤ s ∧ s ≤ 7) ∧ z = -1))) 0 0 (fun _ => False) := by
  refine Met.ofW (cc := cX12_corners) (maxL := 2) (ret := (some .int)) (by decide) rfl ?_
  intro pr en st mi args below meth co s₁ B hml hv
  obtain ⟨rfl, hG, hP⟩ := hv
  have hr := B.returns
  have hlk := B.notSynchronized
  have SS : jS pr mi co cX12_corners 2 st _ RX12 := ⟨B.exec, B.bytes, hml, findClass_of_methodNamed B.named, fun w hw => atoms_spec (ws := (jw yX12_corners cX12_corners 2 (some .int))) B.pre w (List.mem_cons_of_mem _ hw)⟩
  have hl := lv_entry ([.ref o, .int (J s)]) (n := 2) (Nat.le_of_ble_eq_true rfl)
  rw [lg_entry_eq]
  generalize (lg_sl ([.ref o, .int (J s)]) ++ List.replicate (2 - (lg_sl ([.ref o, .int (J s)])).length) Slot.unset).toArray = ls at hl ⊢
  have hl : lv_has ls 2 [(0, .ref o), (1, .int (J s))] := hl
  refine lv_iload_n SS.1 SS.2.1 dX12_corners_0 rfl (lv_at hl 1 rfl) ?_
  refine j_sRi SS (As := [.int (J s)]) (rest := []) (c_X12_isShape l D s (show -2147483648 ≤ s ∧ s ≤ 2147483647 from (by omega))) mf_X12_isShape kw_1156 hG trivial rfl hl.1 ⟨⟨Nat.le_of_ble_eq_true rfl, Nat.le_of_ble_eq_true rfl⟩, Nat.le_of_ble_eq_true rfl, Nat.le_refl _, Nat.le_refl _⟩ rfl dX12_corners_1 (fun z_1 h_1 => ?_)
  have h_1 : (z_1 = 1 ∧ (0 ≤ s ∧ s ≤ 7)) ∨ (z_1 = 0 ∧ ¬ (0 ≤ s ∧ s ≤ 7)) := h_1
  refine j_if_eq SS (tgt := 16) (x := z_1) dX12_corners_4 (by decide) (by omega) (fun c_4 => ?_) (fun c_4 => ?_)
  · skip
    refine j_iconst SS dX12_corners_16 ?_
    exact W.iret SS.1 SS.2.1 hr (fun t ht hW => ⟨_, rfl, ⟨(-1), rfl, (by omega)⟩, ht⟩) (fun _ h => nomatch h) dX12_corners_17 hlk
  · skip
    refine lv_aload_n SS.1 SS.2.1 dX12_corners_7 rfl (lv_at hl 0 rfl) ?_
    refine j_get SS hG hP 0 (v := .ref (q 0)) (C := RX12) (T := TX12) (N := 31) rfl rfl inX12 0 (by decide) (ref := RX12) kw_1058 rfl rfl dX12_corners_8 ?_
    refine lv_iload_n SS.1 SS.2.1 dX12_corners_11 rfl (lv_at hl 1 rfl) ?_
    refine j_iald SS hG hP 1 (n := 8) (f := (u.1 0)) rfl (z := s) (by omega) (by omega) dX12_corners_12 ?_
    have hN_12 := (show Sh u s from p0.1 _ (by omega) (by omega)).1
    refine lv_goto (tgt := 17) SS.1 SS.2.1 dX12_corners_13 (by decide) ?_
    exact W.iret SS.1 SS.2.1 hr (fun t ht hW => ⟨_, rfl, ⟨(mN u s), rfl, (by omega)⟩, ht⟩) (fun _ h => nomatch h) dX12_corners_17 hlk

set_option maxHeartbeats 4000000 in
set_option maxRecDepth 100000 in
theorem c_X12_corner (l : Launch) (D : JD) (o : Nat) (q : Nat → Nat) (u : MS) (s : Int) (i : Int) (what : Int) (p0 : IM u) (p1 : -2147483648 ≤ s ∧ s ≤ 2147483647) (p2 : -2147483648 ≤ i ∧ i ≤ 2147483647) (p3 : -2147483648 ≤ what ∧ what ≤ 2147483647) : Met l yX12_corner (jw yX12_corner cX12_corner 4 (some .int)) (jr 2 42) (jP [.ref o, .int (J s), .int (J i), .int (J what)] D (fun H => va_P D.1 j_cl (mW D o q u) H)) (jRi (fun z => True)) 0 0 (fun _ => False) := by
  refine Met.ofW (cc := cX12_corner) (maxL := 4) (ret := (some .int)) (by decide) rfl ?_
  intro pr en st mi args below meth co s₁ B hml hv
  obtain ⟨rfl, hG, hP⟩ := hv
  have hr := B.returns
  have hlk := B.notSynchronized
  have SS : jS pr mi co cX12_corner 4 st _ RX12 := ⟨B.exec, B.bytes, hml, findClass_of_methodNamed B.named, fun w hw => atoms_spec (ws := (jw yX12_corner cX12_corner 4 (some .int))) B.pre w (List.mem_cons_of_mem _ hw)⟩
  have hl := lv_entry ([.ref o, .int (J s), .int (J i), .int (J what)]) (n := 4) (Nat.le_of_ble_eq_true rfl)
  rw [lg_entry_eq]
  generalize (lg_sl ([.ref o, .int (J s), .int (J i), .int (J what)]) ++ List.replicate (4 - (lg_sl ([.ref o, .int (J s), .int (J i), .int (J what)])).length) Slot.unset).toArray = ls at hl ⊢
  have hl : lv_has ls 4 [(0, .ref o), (1, .int (J s)), (2, .int (J i)), (3, .int (J what))] := hl
  refine lv_iload_n SS.1 SS.2.1 dX12_corner_0 rfl (lv_at hl 1 rfl) ?_
  refine j_sRi SS (As := [.int (J s)]) (rest := []) (c_X12_isShape l D s (show -2147483648 ≤ s ∧ s ≤ 2147483647 from (by omega))) mf_X12_isShape kw_1156 hG trivial rfl hl.1 ⟨⟨Nat.le_of_ble_eq_true rfl, Nat.le_of_ble_eq_true rfl⟩, Nat.le_of_ble_eq_true rfl, Nat.le_refl _, Nat.le_refl _⟩ rfl dX12_corner_1 (fun z_1 h_1 => ?_)
  have h_1 : (z_1 = 1 ∧ (0 ≤ s ∧ s ≤ 7)) ∨ (z_1 = 0 ∧ ¬ (0 ≤ s ∧ s ≤ 7)) := h_1
  refine j_if_eq SS (tgt := 32) (x := z_1) dX12_corner_4 (by decide) (by omega) (fun c_4 => ?_) (fun c_4 => ?_)
  · skip
    refine j_ldc SS (-1000000) kw_1213 dX12_corner_32 ?_
    refine lv_goto (tgt := 56) SS.1 SS.2.1 dX12_corner_34 (by decide) ?_
    exact W.iret SS.1 SS.2.1 hr (fun t ht hW => ⟨_, rfl, ⟨(-1000000), rfl, (trivial)⟩, ht⟩) (fun _ h => nomatch h) dX12_corner_56 hlk
  · skip
    refine lv_iload_n SS.1 SS.2.1 dX12_corner_7 rfl (lv_at hl 2 rfl) ?_
    refine j_iconst SS dX12_corner_8 ?_
    refine lv_aload_n SS.1 SS.2.1 dX12_corner_9 rfl (lv_at hl 0 rfl) ?_
    refine j_get SS hG hP 0 (v := .ref (q 0)) (C := RX12) (T := TX12) (N := 31) rfl rfl inX12 0 (by decide) (ref := RX12) kw_1058 rfl rfl dX12_corner_10 ?_
    refine lv_iload_n SS.1 SS.2.1 dX12_corner_13 rfl (lv_at hl 1 rfl) ?_
    refine j_iald SS hG hP 1 (n := 8) (f := (u.1 0)) rfl (z := s) (by omega) (by omega) dX12_corner_14 ?_
    have hN_14 := (show Sh u s from p0.1 _ (by omega) (by omega)).1
    refine j_iconst SS dX12_corner_15 ?_
    refine j_isub SS (x := (mN u s)) (y := 1) dX12_corner_16 ?_
    refine j_sRi SS (As := [.int (J i), .int (J 0), .int (J ((mN u s) - 1))]) (rest := []) (c_X12_in l D i 0 ((mN u s) - 1) (show -2147483648 ≤ i ∧ i ≤ 2147483647 from (by omega)) (show -2147483648 ≤ (0 : Int) ∧ (0 : Int) ≤ 2147483647 from (by omega)) (show -2147483648 ≤ ((mN u s) - 1) ∧ ((mN u s) - 1) ≤ 2147483647 from (by omega))) mf_X12_in kw_1159 hG trivial rfl hl.1 ⟨⟨Nat.le_of_ble_eq_true rfl, Nat.le_of_ble_eq_true rfl⟩, Nat.le_of_ble_eq_true rfl, Nat.le_refl _, Nat.le_refl _⟩ rfl dX12_corner_17 (fun z_17 h_17 => ?_)
    have h_17 : (z_17 = 1 ∧ ((0 : Int) ≤ i ∧ i ≤ ((mN u s) - 1))) ∨ (z_17 = 0 ∧ ¬ ((0 : Int) ≤ i ∧ i ≤ ((mN u s) - 1))) := h_17
    refine j_if_eq SS (tgt := 32) (x := z_17) dX12_corner_20 (by decide) (by omega) (fun c_20 => ?_) (fun c_20 => ?_)
    · skip
      refine j_ldc SS (-1000000) kw_1213 dX12_corner_32 ?_
      refine lv_goto (tgt := 56) SS.1 SS.2.1 dX12_corner_34 (by decide) ?_
      exact W.iret SS.1 SS.2.1 hr (fun t ht hW => ⟨_, rfl, ⟨(-1000000), rfl, (trivial)⟩, ht⟩) (fun _ h => nomatch h) dX12_corner_56 hlk
    · skip
      refine lv_iload_n SS.1 SS.2.1 dX12_corner_23 rfl (lv_at hl 3 rfl) ?_
      refine j_iconst SS dX12_corner_24 ?_
      refine j_iconst SS dX12_corner_25 ?_
      refine j_sRi SS (As := [.int (J what), .int (J 0), .int (J 1)]) (rest := []) (c_X12_in l D what 0 1 (show -2147483648 ≤ what ∧ what ≤ 2147483647 from (by omega)) (show -2147483648 ≤ (0 : Int) ∧ (0 : Int) ≤ 2147483647 from (by omega)) (show -2147483648 ≤ (1 : Int) ∧ (1 : Int) ≤ 2147483647 from (by omega))) mf_X12_in kw_1159 hG trivial rfl hl.1 ⟨⟨Nat.le_of_ble_eq_true rfl, Nat.le_of_ble_eq_true rfl⟩, Nat.le_of_ble_eq_true rfl, Nat.le_refl _, Nat.le_refl _⟩ rfl dX12_corner_26 (fun z_26 h_26 => ?_)
      have h_26 : (z_26 = 1 ∧ ((0 : Int) ≤ what ∧ what ≤ (1 : Int))) ∨ (z_26 = 0 ∧ ¬ ((0 : Int) ≤ what ∧ what ≤ (1 : Int))) := h_26
      refine j_if_ne SS (tgt := 37) (x := z_26) dX12_corner_29 (by decide) (by omega) (fun c_29 => ?_) (fun c_29 => ?_)
      · skip
        refine lv_iload_n SS.1 SS.2.1 dX12_corner_37 rfl (lv_at hl 3 rfl) ?_
        refine j_if_ne SS (tgt := 50) (x := what) dX12_corner_38 (by decide) (by omega) (fun c_38 => ?_) (fun c_38 => ?_)
        · skip
          refine lv_aload_n SS.1 SS.2.1 dX12_corner_50 rfl (lv_at hl 0 rfl) ?_
          refine lv_iload_n SS.1 SS.2.1 dX12_corner_51 rfl (lv_at hl 1 rfl) ?_
          refine lv_iload_n SS.1 SS.2.1 dX12_corner_52 rfl (lv_at hl 2 rfl) ?_
          refine j_vRi SS (As := [.int (J s), .int (J i)]) (rest := []) (c_X12_y l D o q u s i (show 0 ≤ s ∧ s ≤ 7 from (by omega)) (show 0 ≤ i ∧ i ≤ 1000000 from (by omega)) (show 0 < mN u s ∧ mN u s ≤ 24 from (by first | omega | (have hq := (show Sh u s from p0.1 _ (by omega) (by omega)).1; omega)))) mf_X12_y kw_1181 hG hP hP (ci := 8) (q0 := 0) rfl rfl rfl rfl hl.1 ⟨⟨Nat.le_of_ble_eq_true rfl, Nat.le_of_ble_eq_true rfl⟩, Nat.le_of_ble_eq_true rfl, Nat.le_refl _, Nat.le_refl _⟩ rfl dX12_corner_53 (fun z_53 h_53 => ?_)
          have h_53 : z_53 = mY u s i := h_53
          have hb_53 := (show Sh u s from p0.1 _ (by omega) (by omega)).2.1 (by omega) i (by omega)
          exact W.iret SS.1 SS.2.1 hr (fun t ht hW => ⟨_, rfl, ⟨z_53, rfl, (trivial)⟩, ht⟩) (fun _ h => nomatch h) dX12_corner_56 hlk
        · skip
          refine lv_aload_n SS.1 SS.2.1 dX12_corner_41 rfl (lv_at hl 0 rfl) ?_
          refine lv_iload_n SS.1 SS.2.1 dX12_corner_42 rfl (lv_at hl 1 rfl) ?_
          refine lv_iload_n SS.1 SS.2.1 dX12_corner_43 rfl (lv_at hl 2 rfl) ?_
          refine j_vRi SS (As := [.int (J s), .int (J i)]) (rest := []) (c_X12_x l D o q u s i (show 0 ≤ s ∧ s ≤ 7 from (by omega)) (show 0 ≤ i ∧ i ≤ 1000000 from (by omega)) (show 0 < mN u s ∧ mN u s ≤ 24 from (by first | omega | (have hq := (show Sh u s from p0.1 _ (by omega) (by omega)).1; omega)))) mf_X12_x kw_1177 hG hP hP (ci := 8) (q0 := 0) rfl rfl rfl rfl hl.1 ⟨⟨Nat.le_of_ble_eq_true rfl, Nat.le_of_ble_eq_true rfl⟩, Nat.le_of_ble_eq_true rfl, Nat.le_refl _, Nat.le_refl _⟩ rfl dX12_corner_44 (fun z_44 h_44 => ?_)
          have h_44 : z_44 = mX u s i := h_44
          have hb_44 := (show Sh u s from p0.1 _ (by omega) (by omega)).2.1 (by omega) i (by omega)
          refine lv_goto (tgt := 56) SS.1 SS.2.1 dX12_corner_47 (by decide) ?_
          exact W.iret SS.1 SS.2.1 hr (fun t ht hW => ⟨_, rfl, ⟨z_44, rfl, (trivial)⟩, ht⟩) (fun _ h => nomatch h) dX12_corner_56 hlk
      · skip
        refine j_ldc SS (-1000000) kw_1213 dX12_corner_32 ?_
        refine lv_goto (tgt := 56) SS.1 SS.2.1 dX12_corner_34 (by decide) ?_
        exact W.iret SS.1 SS.2.1 hr (fun t ht hW => ⟨_, rfl, ⟨(-1000000), rfl, (trivial)⟩, ht⟩) (fun _ h => nomatch h) dX12_corner_56 hlk

set_option maxHeartbeats 4000000 in
set_option maxRecDepth 100000 in
theorem c_X12_points (l : Launch) (D : JD) (o : Nat) (q : Nat → Nat) (u : MS) (s : Int) (what : Int) (p0 : IM u) (p1 : -2147483648 ≤ s ∧ s ≤ 2147483647) (p2 : -2147483648 ≤ what ∧ what ≤ 2147483647) : Met l yX12_points (jw yX12_points cX12_points 3 (some .int)) (jr 5 110) (jP [.ref o, .int (J s), .int (J what)] D (fun H => va_P D.1 j_cl (mW D o q u) H)) (jRi (fun z => True)) 0 0 (fun _ => False) := by
  refine Met.ofW (cc := cX12_points) (maxL := 3) (ret := (some .int)) (by decide) rfl ?_
  intro pr en st mi args below meth co s₁ B hml hv
  obtain ⟨rfl, hG, hP⟩ := hv
  have hr := B.returns
  have hlk := B.notSynchronized
  have SS : jS pr mi co cX12_points 3 st _ RX12 := ⟨B.exec, B.bytes, hml, findClass_of_methodNamed B.named, fun w hw => atoms_spec (ws := (jw yX12_points cX12_points 3 (some .int))) B.pre w (List.mem_cons_of_mem _ hw)⟩
  have hl := lv_entry ([.ref o, .int (J s), .int (J what)]) (n := 3) (Nat.le_of_ble_eq_true rfl)
  rw [lg_entry_eq]
  generalize (lg_sl ([.ref o, .int (J s), .int (J what)]) ++ List.replicate (3 - (lg_sl ([.ref o, .int (J s), .int (J what)])).length) Slot.unset).toArray = ls at hl ⊢
  have hl : lv_has ls 3 [(0, .ref o), (1, .int (J s)), (2, .int (J what))] := hl
  refine lv_iload_n SS.1 SS.2.1 dX12_points_0 rfl (lv_at hl 1 rfl) ?_
  refine j_sRi SS (As := [.int (J s)]) (rest := []) (c_X12_isShape l D s (show -2147483648 ≤ s ∧ s ≤ 2147483647 from (by omega))) mf_X12_isShape kw_1156 hG trivial rfl hl.1 ⟨⟨Nat.le_of_ble_eq_true rfl, Nat.le_of_ble_eq_true rfl⟩, Nat.le_of_ble_eq_true rfl, Nat.le_refl _, Nat.le_refl _⟩ rfl dX12_points_1 (fun z_1 h_1 => ?_)
  have h_1 : (z_1 = 1 ∧ (0 ≤ s ∧ s ≤ 7)) ∨ (z_1 = 0 ∧ ¬ (0 ≤ s ∧ s ≤ 7)) := h_1
  refine j_if_eq SS (tgt := 16) (x := z_1) dX12_points_4 (by decide) (by omega) (fun c_4 => ?_) (fun c_4 => ?_)
  · skip
    refine j_iconst SS dX12_points_16 ?_
    exact W.iret SS.1 SS.2.1 hr (fun t ht hW => ⟨_, rfl, ⟨(-1), rfl, (trivial)⟩, ht⟩) (fun _ h => nomatch h) dX12_points_17 hlk
  · skip
    refine lv_iload_n SS.1 SS.2.1 dX12_points_7 rfl (lv_at hl 2 rfl) ?_
    refine j_iconst SS dX12_points_8 ?_
    refine j_iconst SS dX12_points_9 ?_
    refine j_sRi SS (As := [.int (J what), .int (J 0), .int (J 3)]) (rest := []) (c_X12_in l D what 0 3 (show -2147483648 ≤ what ∧ what ≤ 2147483647 from (by omega)) (show -2147483648 ≤ (0 : Int) ∧ (0 : Int) ≤ 2147483647 from (by omega)) (show -2147483648 ≤ (3 : Int) ∧ (3 : Int) ≤ 2147483647 from (by omega))) mf_X12_in kw_1159 hG trivial rfl hl.1 ⟨⟨Nat.le_of_ble_eq_true rfl, Nat.le_of_ble_eq_true rfl⟩, Nat.le_of_ble_eq_true rfl, Nat.le_refl _, Nat.le_refl _⟩ rfl dX12_points_10 (fun z_10 h_10 => ?_)
    have h_10 : (z_10 = 1 ∧ ((0 : Int) ≤ what ∧ what ≤ (3 : Int))) ∨ (z_10 = 0 ∧ ¬ ((0 : Int) ≤ what ∧ what ≤ (3 : Int))) := h_10
    refine j_if_ne SS (tgt := 18) (x := z_10) dX12_points_13 (by decide) (by omega) (fun c_13 => ?_) (fun c_13 => ?_)
    · skip
      refine lv_iload_n SS.1 SS.2.1 dX12_points_18 rfl (lv_at hl 2 rfl) ?_
      refine j_if_ne SS (tgt := 30) (x := what) dX12_points_19 (by decide) (by omega) (fun c_19 => ?_) (fun c_19 => ?_)
      · skip
        refine lv_iload_n SS.1 SS.2.1 dX12_points_30 rfl (lv_at hl 2 rfl) ?_
        refine j_iconst SS dX12_points_31 ?_
        refine j_icmp_ne SS (tgt := 43) (x := what) (y := 1) dX12_points_32 (by decide) (by omega) (by decide) (fun c_32 => ?_) (fun c_32 => ?_)
        · skip
          refine lv_iload_n SS.1 SS.2.1 dX12_points_43 rfl (lv_at hl 2 rfl) ?_
          refine j_iconst SS dX12_points_44 ?_
          refine j_icmp_ne SS (tgt := 56) (x := what) (y := 2) dX12_points_45 (by decide) (by omega) (by decide) (fun c_45 => ?_) (fun c_45 => ?_)
          · skip
            refine lv_aload_n SS.1 SS.2.1 dX12_points_56 rfl (lv_at hl 0 rfl) ?_
            refine lv_iload_n SS.1 SS.2.1 dX12_points_57 rfl (lv_at hl 1 rfl) ?_
            refine j_vRi SS (As := [.int (J s)]) (rest := []) (c_X12_edgeOf l D o q u s (show 0 ≤ s ∧ s ≤ 7 from (by omega)) (show Sh u s from (p0.1 _ (by omega) (by omega)))) mf_X12_edgeOf kw_1222 hG hP hP (ci := 8) (q0 := 0) rfl rfl rfl rfl hl.1 ⟨⟨Nat.le_of_ble_eq_true rfl, Nat.le_of_ble_eq_true rfl⟩, Nat.le_of_ble_eq_true rfl, Nat.le_refl _, Nat.le_refl _⟩ rfl dX12_points_58 (fun z_58 h_58 => ?_)
            have h_58 : z_58 = mEd u s ∧ 0 ≤ z_58 ∧ z_58 ≤ 2000 := h_58
            refine lv_aload_n SS.1 SS.2.1 dX12_points_61 rfl (lv_at hl 0 rfl) ?_
            refine lv_iload_n SS.1 SS.2.1 dX12_points_62 rfl (lv_at hl 1 rfl) ?_
            refine j_vRi SS (As := [.int (J s)]) (rest := [.int (J z_58)]) (c_X12_insideOf l D o q u s (show 0 ≤ s ∧ s ≤ 7 from (by omega)) (show Sh u s from (p0.1 _ (by omega) (by omega)))) mf_X12_insideOf kw_1236 hG hP hP (ci := 8) (q0 := 0) rfl rfl rfl rfl hl.1 ⟨⟨Nat.le_of_ble_eq_true rfl, Nat.le_of_ble_eq_true rfl⟩, Nat.le_of_ble_eq_true rfl, Nat.le_refl _, Nat.le_refl _⟩ rfl dX12_points_63 (fun z_63 h_63 => ?_)
            have h_63 : z_63 = mIn u s ∧ -100000 ≤ z_63 ∧ z_63 ≤ 100000 := h_63
            refine j_iadd SS (x := z_58) (y := z_63) dX12_points_66 ?_
            exact W.iret SS.1 SS.2.1 hr (fun t ht hW => ⟨_, rfl, ⟨(z_58 + z_63), rfl, (trivial)⟩, ht⟩) (fun _ h => nomatch h) dX12_points_67 hlk
          · skip
            refine lv_aload_n SS.1 SS.2.1 dX12_points_48 rfl (lv_at hl 0 rfl) ?_
            refine lv_iload_n SS.1 SS.2.1 dX12_points_49 rfl (lv_at hl 1 rfl) ?_
            refine j_vRi SS (As := [.int (J s)]) (rest := []) (c_X12_insideOf l D o q u s (show 0 ≤ s ∧ s ≤ 7 from (by omega)) (show Sh u s from (p0.1 _ (by omega) (by omega)))) mf_X12_insideOf kw_1236 hG hP hP (ci := 8) (q0 := 0) rfl rfl rfl rfl hl.1 ⟨⟨Nat.le_of_ble_eq_true rfl, Nat.le_of_ble_eq_true rfl⟩, Nat.le_of_ble_eq_true rfl, Nat.le_refl _, Nat.le_refl _⟩ rfl dX12_points_50 (fun z_50 h_50 => ?_)
            have h_50 : z_50 = mIn u s ∧ -100000 ≤ z_50 ∧ z_50 ≤ 100000 := h_50
            refine lv_goto (tgt := 67) SS.1 SS.2.1 dX12_points_53 (by decide) ?_
            exact W.iret SS.1 SS.2.1 hr (fun t ht hW => ⟨_, rfl, ⟨z_50, rfl, (trivial)⟩, ht⟩) (fun _ h => nomatch h) dX12_points_67 hlk
        · skip
          refine lv_aload_n SS.1 SS.2.1 dX12_points_35 rfl (lv_at hl 0 rfl) ?_
          refine lv_iload_n SS.1 SS.2.1 dX12_points_36 rfl (lv_at hl 1 rfl) ?_
          refine j_vRi SS (As := [.int (J s)]) (rest := []) (c_X12_edgeOf l D o q u s (show 0 ≤ s ∧ s ≤ 7 from (by omega)) (show Sh u s from (p0.1 _ (by omega) (by omega)))) mf_X12_edgeOf kw_1222 hG hP hP (ci := 8) (q0 := 0) rfl rfl rfl rfl hl.1 ⟨⟨Nat.le_of_ble_eq_true rfl, Nat.le_of_ble_eq_true rfl⟩, Nat.le_of_ble_eq_true rfl, Nat.le_refl _, Nat.le_refl _⟩ rfl dX12_points_37 (fun z_37 h_37 => ?_)
          have h_37 : z_37 = mEd u s ∧ 0 ≤ z_37 ∧ z_37 ≤ 2000 := h_37
          refine lv_goto (tgt := 67) SS.1 SS.2.1 dX12_points_40 (by decide) ?_
          exact W.iret SS.1 SS.2.1 hr (fun t ht hW => ⟨_, rfl, ⟨z_37, rfl, (trivial)⟩, ht⟩) (fun _ h => nomatch h) dX12_points_67 hlk
      · skip
        refine lv_aload_n SS.1 SS.2.1 dX12_points_22 rfl (lv_at hl 0 rfl) ?_
        refine lv_iload_n SS.1 SS.2.1 dX12_points_23 rfl (lv_at hl 1 rfl) ?_
        refine j_vRi SS (As := [.int (J s)]) (rest := []) (c_X12_areaOf l D o q u s (show 0 ≤ s ∧ s ≤ 7 from (by omega)) (show Sh u s from (p0.1 _ (by omega) (by omega)))) mf_X12_areaOf kw_1218 hG hP hP (ci := 8) (q0 := 0) rfl rfl rfl rfl hl.1 ⟨⟨Nat.le_of_ble_eq_true rfl, Nat.le_of_ble_eq_true rfl⟩, Nat.le_of_ble_eq_true rfl, Nat.le_refl _, Nat.le_refl _⟩ rfl dX12_points_24 (fun z_24 h_24 => ?_)
        have h_24 : z_24 = mAr u s ∧ -80000 ≤ z_24 ∧ z_24 ≤ 80000 := h_24
        refine lv_goto (tgt := 67) SS.1 SS.2.1 dX12_points_27 (by decide) ?_
        exact W.iret SS.1 SS.2.1 hr (fun t ht hW => ⟨_, rfl, ⟨z_24, rfl, (trivial)⟩, ht⟩) (fun _ h => nomatch h) dX12_points_67 hlk
    · skip
      refine j_iconst SS dX12_points_16 ?_
      exact W.iret SS.1 SS.2.1 hr (fun t ht hW => ⟨_, rfl, ⟨(-1), rfl, (trivial)⟩, ht⟩) (fun _ h => nomatch h) dX12_points_17 hlk

set_option maxHeartbeats 4000000 in
set_option maxRecDepth 100000 in
theorem c_X12_add (l : Launch) (D : JD) (o : Nat) (q : Nat → Nat) (u : MS) (A : Nat → Prop) (hD : va_D A (mW D o q u)) (s : Int) (x : Int) (y : Int) (p0 : IM u) (p1 : -2147483648 ≤ s ∧ s ≤ 2147483647) (p2 : -2147483648 ≤ x ∧ x ≤ 2147483647) (p3 : -2147483648 ≤ y ∧ y ≤ 2147483647) : Met l yX12_add (jw yX12_add cX12_add 4 (some .int)) (jr 3 68) (jP [.ref o, .int (J s), .int (J x), .int (J y)] D (fun H => va_P D.1 j_cl (mW D o q u) H)) (jWi (fun z u' => ∃ f0 : Nat → Int, ∃ f1 : Nat → Int, ∃ f2 : Nat → Int, ∃ f3 : Nat → Int, ∃ f4 : Nat → Int, ∃ f5 : Nat → Int, ∃ w : Int, ∃ X : Nat → Int, ∃ Y : Nat → Int, ∃ nh : Int, u' = (uV (uI (uI (uV (uI (uI (uI (uI (uI (uI u 0 f0) 1 f1) 2 f2) 3 f3) 4 f4) 5 f5) 6 w) 7 X) 8 Y) 9 nh) ∧ (IM u')) (fun u' H => va_P D.1 j_cl (mW D o q u') H) A) 0 0 A := by
  refine Met.ofW (cc := cX12_add) (maxL := 4) (ret := (some .int)) (by decide) rfl ?_
  intro pr en st mi args below meth co s₁ B hml hv
  obtain ⟨rfl, hG, hP⟩ := hv
  have hr := B.returns
  have hlk := B.notSynchronized
  have SS : jS pr mi co cX12_add 4 st _ RX12 := ⟨B.exec, B.bytes, hml, findClass_of_methodNamed B.named, fun w hw => atoms_spec (ws := (jw yX12_add cX12_add 4 (some .int))) B.pre w (List.mem_cons_of_mem _ hw)⟩
  have hl := lv_entry ([.ref o, .int (J s), .int (J x), .int (J y)]) (n := 4) (Nat.le_of_ble_eq_true rfl)
  rw [lg_entry_eq]
  generalize (lg_sl ([.ref o, .int (J s), .int (J x), .int (J y)]) ++ List.replicate (4 - (lg_sl ([.ref o, .int (J s), .int (J x), .int (J y)])).length) Slot.unset).toArray = ls at hl ⊢
  have hl : lv_has ls 4 [(0, .ref o), (1, .int (J s)), (2, .int (J x)), (3, .int (J y))] := hl
  have hS : va_S A st.heap st.heap [] := va_S.rf
  refine lv_iload_n SS.1 SS.2.1 dX12_add_0 rfl (lv_at hl 1 rfl) ?_
  refine j_sRi SS (As := [.int (J s)]) (rest := []) (c_X12_isShape l D s (show -2147483648 ≤ s ∧ s ≤ 2147483647 from (by omega))) mf_X12_isShape kw_1156 hG trivial rfl hl.1 ⟨⟨Nat.le_of_ble_eq_true rfl, Nat.le_of_ble_eq_true rfl⟩, Nat.le_of_ble_eq_true rfl, Nat.le_refl _, Nat.le_refl _⟩ rfl dX12_add_1 (fun z_1 h_1 => ?_)
  have h_1 : (z_1 = 1 ∧ (0 ≤ s ∧ s ≤ 7)) ∨ (z_1 = 0 ∧ ¬ (0 ≤ s ∧ s ≤ 7)) := h_1
  refine j_if_eq SS (tgt := 15) (x := z_1) dX12_add_4 (by decide) (by omega) (fun c_4 => ?_) (fun c_4 => ?_)
  · skip
    refine j_iconst SS dX12_add_15 ?_
    exact W.iret SS.1 SS.2.1 hr (fun t ht hW => ⟨⟨_, (uV (uI (uI (uV (uI (uI (uI (uI (uI (uI u 0 (u.1 0)) 1 (u.1 1)) 2 (u.1 2)) 3 (u.1 3)) 4 (u.1 4)) 5 (u.1 5)) 6 (u.2.2 6)) 7 (u.1 7)) 8 (u.1 8)) 9 (u.2.2 9)), rfl, ⟨(-1), rfl, (⟨(u.1 0), (u.1 1), (u.1 2), (u.1 3), (u.1 4), (u.1 5), (u.2.2 6), (u.1 7), (u.1 8), (u.2.2 9), rfl, p0⟩)⟩, by show va_P D.1 j_cl (mW D o q (uV (uI (uI (uV (uI (uI (uI (uI (uI (uI u 0 (u.1 0)) 1 (u.1 1)) 2 (u.1 2)) 3 (u.1 3)) 4 (u.1 4)) 5 (u.1 5)) 6 (u.2.2 6)) 7 (u.1 7)) 8 (u.1 8)) 9 (u.2.2 9))) t.heap; rw [ht]; exact hP⟩, hS.F ht⟩) hS.2.2 dX12_add_16 hlk
  · skip
    refine lv_iload_n SS.1 SS.2.1 dX12_add_7 rfl (lv_at hl 2 rfl) ?_
    refine lv_iload_n SS.1 SS.2.1 dX12_add_8 rfl (lv_at hl 3 rfl) ?_
    refine j_sRi SS (As := [.int (J x), .int (J y)]) (rest := []) (c_X12_isPlace l D x y (show -2147483648 ≤ x ∧ x ≤ 2147483647 from (by omega)) (show -2147483648 ≤ y ∧ y ≤ 2147483647 from (by omega))) mf_X12_isPlace kw_1166 hG trivial rfl hl.1 ⟨⟨Nat.le_of_ble_eq_true rfl, Nat.le_of_ble_eq_true rfl⟩, Nat.le_of_ble_eq_true rfl, Nat.le_refl _, Nat.le_refl _⟩ rfl dX12_add_9 (fun z_9 h_9 => ?_)
    have h_9 : (z_9 = 1 ∧ (-40 ≤ x ∧ x ≤ 40 ∧ -40 ≤ y ∧ y ≤ 40)) ∨ (z_9 = 0 ∧ ¬ (-40 ≤ x ∧ x ≤ 40 ∧ -40 ≤ y ∧ y ≤ 40)) := h_9
    refine j_if_ne SS (tgt := 17) (x := z_9) dX12_add_12 (by decide) (by omega) (fun c_12 => ?_) (fun c_12 => ?_)
    · skip
      refine lv_aload_n SS.1 SS.2.1 dX12_add_17 rfl (lv_at hl 0 rfl) ?_
      refine j_iconst SS dX12_add_18 ?_
      refine j_put SS hG hP (mW_D hD) hS 0 (v := .int (J 0)) (ty := .int) (C := RX12) (T := TX12) (N := 31) rfl rfl inX12 tyX12 tyX12_ok nmX12 6 (by decide) (ref := RX12) kw_1064 rfl rfl (by decide +kernel) rfl rfl (Nat.le_of_ble_eq_true rfl) dX12_add_19 (ws' := (mW D o q (uV u 6 0))) rfl (fun H locs hP hS => ?_)
      refine lv_aload_n SS.1 SS.2.1 dX12_add_22 rfl (lv_at hl 0 rfl) ?_
      refine lv_iload_n SS.1 SS.2.1 dX12_add_23 rfl (lv_at hl 1 rfl) ?_
      refine j_vWv SS (As := [.int (J s)]) (rest := []) (c_X12_putShape l D o q (uV u 6 0) A (mW_D hD) s (show 0 ≤ s ∧ s ≤ 7 from (by omega)) (show Sh u s from (p0.1 _ (by omega) (by omega))) (show 0 ≤ 0 ∧ 0 ≤ 600 from (by omega))) mf_X12_putShape kw_1173 hG hP hP (ci := 8) (q0 := 0) rfl rfl rfl hS (fun _ h => h) rfl hl.1 ⟨⟨Nat.le_of_ble_eq_true rfl, Nat.le_of_ble_eq_true rfl⟩, Nat.le_of_ble_eq_true rfl, Nat.le_refl _, Nat.le_refl _⟩ rfl dX12_add_24 (fun u24 H locs h_24 hP _ hS => ?_)
      obtain ⟨f_24, g_24, w_24, rfl, h_24⟩ := h_24
      have hP : va_P D.1 j_cl (mW D o q (uV (uI (uI u 4 f_24) 5 g_24) 6 w_24)) H := hP
      have h_24 : w_24 = 0 + mN u s ∧ (bd 40 ((u.1 4)) ((u.1 5)) (0) → bd 40 f_24 g_24 w_24) := h_24
      have hb := h_24.2 (fun a ha => by omega)
      have hN := (p0.1 s (by omega) (by omega)).1
      refine lv_aload_n SS.1 SS.2.1 dX12_add_27 rfl (lv_at hl 0 rfl) ?_
      refine lv_iload_n SS.1 SS.2.1 dX12_add_28 rfl (lv_at hl 2 rfl) ?_
      refine lv_iload_n SS.1 SS.2.1 dX12_add_29 rfl (lv_at hl 3 rfl) ?_
      refine j_vWv SS (As := [.int (J x), .int (J y)]) (rest := []) (c_X12_put l D o q (uV (uI (uI u 4 f_24) 5 g_24) 6 w_24) A (mW_D hD) x y (show 0 ≤ w_24 ∧ w_24 < 640 from (by omega))) mf_X12_put kw_1185 hG hP hP (ci := 8) (q0 := 0) rfl rfl rfl hS (fun _ h => h) rfl hl.1 ⟨⟨Nat.le_of_ble_eq_true rfl, Nat.le_of_ble_eq_true rfl⟩, Nat.le_of_ble_eq_true rfl, Nat.le_refl _, Nat.le_refl _⟩ rfl dX12_add_30 (fun u30 H locs h_30 hP _ hS => ?_)
      obtain ⟨f_30, g_30, w_30, rfl, h_30⟩ := h_30
      have hP : va_P D.1 j_cl (mW D o q (uV (uI (uI u 4 f_30) 5 g_30) 6 w_30)) H := hP
      have h_30 : f_30 = upI (f_24) (w_24).toNat x ∧ g_30 = upI (g_24) (w_24).toNat y ∧ w_30 = w_24 + 1 := h_30
      have hb3 : bd 40 f_30 g_30 w_30 := by obtain ⟨k1, k2, k3⟩ := h_30; rw [k1, k2, k3]; exact bd_put (by omega) hb (by omega) (by omega)
      have hw3 : w_30 = mN u s + 1 := by have := h_30.2.2; omega
      refine lv_aload_n SS.1 SS.2.1 dX12_add_33 rfl (lv_at hl 0 rfl) ?_
      refine j_vWv SS (As := []) (rest := []) (c_X12_findHull l D o q (uV (uI (uI u 4 f_30) 5 g_30) 6 w_30) A (mW_D hD)  (show 0 ≤ w_30 ∧ w_30 ≤ 640 from (by omega)) (show bd 10000 (f_30) (g_30) (w_30) from (bd_K hb3 (by omega)))) mf_X12_findHull kw_1189 hG hP hP (ci := 8) (q0 := 0) rfl rfl rfl hS (fun _ h => h) rfl hl.1 ⟨⟨Nat.le_of_ble_eq_true rfl, Nat.le_of_ble_eq_true rfl⟩, Nat.le_of_ble_eq_true rfl, Nat.le_refl _, Nat.le_refl _⟩ rfl dX12_add_34 (fun u34 H locs h_34 hP _ hS => ?_)
      obtain ⟨f_34, g_34, w_34, X_34, Y_34, nh_34, rfl, h_34⟩ := h_34
      have hP : va_P D.1 j_cl (mW D o q (uV (uI (uI (uV (uI (uI u 4 f_34) 5 g_34) 6 w_34) 7 X_34) 8 Y_34) 9 nh_34)) H := hP
      have h_34 : 0 ≤ nh_34 ∧ nh_34 ≤ 1290 ∧ Ch nh_34 X_34 Y_34 ∧ (0 < w_30 → 0 < nh_34) ∧ bd 10000 X_34 Y_34 nh_34 ∧ ∀ K : Int, bd K (f_30) (g_30) (w_30) → bd K X_34 Y_34 nh_34 := h_34
      obtain ⟨a1, a2, a3, a4, a5, a6⟩ := h_34
      have hb4 := a6 40 hb3
      refine lv_aload_n SS.1 SS.2.1 dX12_add_37 rfl (lv_at hl 0 rfl) ?_
      refine lv_iload_n SS.1 SS.2.1 dX12_add_38 rfl (lv_at hl 1 rfl) ?_
      refine j_iconst SS dX12_add_39 ?_
      refine j_vWi SS (As := [.int (J s), .int (J 0)]) (rest := []) (c_X12_take l D o q (uV (uI (uI (uV (uI (uI u 4 f_34) 5 g_34) 6 w_34) 7 X_34) 8 Y_34) 9 nh_34) A (mW_D hD) s 0 (show 0 ≤ s ∧ s ≤ 7 from (by omega)) (show (0 : Int) = 0 ∨ (0 : Int) = 1 from (by omega)) (show 0 ≤ nh_34 ∧ nh_34 ≤ 1290 from (by omega)) (show bd 10000 (X_34) (Y_34) (nh_34) from (a5))) mf_X12_take kw_1162 hG hP hP (ci := 8) (q0 := 0) rfl rfl rfl hS (fun _ h => h) rfl hl.1 ⟨⟨Nat.le_of_ble_eq_true rfl, Nat.le_of_ble_eq_true rfl⟩, Nat.le_of_ble_eq_true rfl, Nat.le_refl _, Nat.le_refl _⟩ rfl dX12_add_40 (fun z_40 u40 H locs h_40 hP _ hS => ?_)
      obtain ⟨f0_40, f1_40, f2_40, f3_40, rfl, h_40⟩ := h_40
      have hP : va_P D.1 j_cl (mW D o q (uV (uI (uI (uV (uI (uI (uI (uI (uI (uI u 0 f0_40) 1 f1_40) 2 f2_40) 3 f3_40) 4 f_34) 5 g_34) 6 w_34) 7 X_34) 8 Y_34) 9 nh_34)) H := hP
      have h_40 : (z_40 = -3 ∧ ¬ tk_ok (0 : Int) 40 (X_34) (Y_34) (nh_34) (nh_34) ∧ f0_40 = (u.1 0) ∧ f1_40 = (u.1 1) ∧ f2_40 = (u.1 2) ∧ f3_40 = (u.1 3)) ∨ (z_40 = nh_34 ∧ tk_ok (0 : Int) 40 (X_34) (Y_34) (nh_34) (nh_34) ∧ tk_new (uV (uI (uI (uV (uI (uI u 4 f_34) 5 g_34) 6 w_34) 7 X_34) 8 Y_34) 9 nh_34) f0_40 f1_40 f2_40 f3_40 s) := h_40
      exact W.iret SS.1 SS.2.1 hr (fun t ht hW => ⟨⟨_, (uV (uI (uI (uV (uI (uI (uI (uI (uI (uI u 0 f0_40) 1 f1_40) 2 f2_40) 3 f3_40) 4 f_34) 5 g_34) 6 w_34) 7 X_34) 8 Y_34) 9 nh_34), rfl, ⟨z_40, rfl, (⟨f0_40, f1_40, f2_40, f3_40, f_34, g_34, w_34, X_34, Y_34, nh_34, rfl, (show IM (uI (uI (uI (uI (uV (uI (uI (uV (uI (uI u 4 f_34) 5 g_34) 6 w_34) 7 X_34) 8 Y_34) 9 nh_34) 0 f0_40) 1 f1_40) 2 f2_40) 3 f3_40) from IM_tk (u := (uV (uI (uI (uV (uI (uI u 4 f_34) 5 g_34) 6 w_34) 7 X_34) 8 Y_34) 9 nh_34)) p0 ⟨by omega, by omega⟩ (Or.inl rfl) a1 (fun _ => hb4) a3 h_40)⟩)⟩, by show va_P D.1 j_cl (mW D o q (uV (uI (uI (uV (uI (uI (uI (uI (uI (uI u 0 f0_40) 1 f1_40) 2 f2_40) 3 f3_40) 4 f_34) 5 g_34) 6 w_34) 7 X_34) 8 Y_34) 9 nh_34)) t.heap; rw [ht]; exact hP⟩, hS.F ht⟩) hS.2.2 dX12_add_43 hlk
    · skip
      refine j_iconst SS dX12_add_15 ?_
      exact W.iret SS.1 SS.2.1 hr (fun t ht hW => ⟨⟨_, (uV (uI (uI (uV (uI (uI (uI (uI (uI (uI u 0 (u.1 0)) 1 (u.1 1)) 2 (u.1 2)) 3 (u.1 3)) 4 (u.1 4)) 5 (u.1 5)) 6 (u.2.2 6)) 7 (u.1 7)) 8 (u.1 8)) 9 (u.2.2 9)), rfl, ⟨(-1), rfl, (⟨(u.1 0), (u.1 1), (u.1 2), (u.1 3), (u.1 4), (u.1 5), (u.2.2 6), (u.1 7), (u.1 8), (u.2.2 9), rfl, p0⟩)⟩, by show va_P D.1 j_cl (mW D o q (uV (uI (uI (uV (uI (uI (uI (uI (uI (uI u 0 (u.1 0)) 1 (u.1 1)) 2 (u.1 2)) 3 (u.1 3)) 4 (u.1 4)) 5 (u.1 5)) 6 (u.2.2 6)) 7 (u.1 7)) 8 (u.1 8)) 9 (u.2.2 9))) t.heap; rw [ht]; exact hP⟩, hS.F ht⟩) hS.2.2 dX12_add_16 hlk

set_option maxHeartbeats 4000000 in
set_option maxRecDepth 100000 in
theorem c_X12_where (l : Launch) (D : JD) (o : Nat) (q : Nat → Nat) (u : MS) (s : Int) (x : Int) (y : Int) (p0 : IM u) (p1 : -2147483648 ≤ s ∧ s ≤ 2147483647) (p2 : -2147483648 ≤ x ∧ x ≤ 2147483647) (p3 : -2147483648 ≤ y ∧ y ≤ 2147483647) : Met l yX12_where (jw yX12_where cX12_where 4 (some .int)) (jr 2 51) (jP [.ref o, .int (J s), .int (J x), .int (J y)] D (fun H => va_P D.1 j_cl (mW D o q u) H)) (jRi (fun z => True)) 0 0 (fun _ => False) := by
  refine Met.ofW (cc := cX12_where) (maxL := 4) (ret := (some .int)) (by decide) rfl ?_
  intro pr en st mi args below meth co s₁ B hml hv
  obtain ⟨rfl, hG, hP⟩ := hv
  have hr := B.returns
  have hlk := B.notSynchronized
  have SS : jS pr mi co cX12_where 4 st _ RX12 := ⟨B.exec, B.bytes, hml, findClass_of_methodNamed B.named, fun w hw => atoms_spec (ws := (jw yX12_where cX12_where 4 (some .int))) B.pre w (List.mem_cons_of_mem _ hw)⟩
  have hl := lv_entry ([.ref o, .int (J s), .int (J x), .int (J y)]) (n := 4) (Nat.le_of_ble_eq_true rfl)
  rw [lg_entry_eq]
  generalize (lg_sl ([.ref o, .int (J s), .int (J x), .int (J y)]) ++ List.replicate (4 - (lg_sl ([.ref o, .int (J s), .int (J x), .int (J y)])).length) Slot.unset).toArray = ls at hl ⊢
  have hl : lv_has ls 4 [(0, .ref o), (1, .int (J s)), (2, .int (J x)), (3, .int (J y))] := hl
  refine lv_iload_n SS.1 SS.2.1 dX12_where_0 rfl (lv_at hl 1 rfl) ?_
  refine j_sRi SS (As := [.int (J s)]) (rest := []) (c_X12_isShape l D s (show -2147483648 ≤ s ∧ s ≤ 2147483647 from (by omega))) mf_X12_isShape kw_1156 hG trivial rfl hl.1 ⟨⟨Nat.le_of_ble_eq_true rfl, Nat.le_of_ble_eq_true rfl⟩, Nat.le_of_ble_eq_true rfl, Nat.le_refl _, Nat.le_refl _⟩ rfl dX12_where_1 (fun z_1 h_1 => ?_)
  have h_1 : (z_1 = 1 ∧ (0 ≤ s ∧ s ≤ 7)) ∨ (z_1 = 0 ∧ ¬ (0 ≤ s ∧ s ≤ 7)) := h_1
  refine j_if_eq SS (tgt := 25) (x := z_1) dX12_where_4 (by decide) (by omega) (fun c_4 => ?_) (fun c_4 => ?_)
  · skip
    refine j_iconst SS dX12_where_25 ?_
    exact W.iret SS.1 SS.2.1 hr (fun t ht hW => ⟨_, rfl, ⟨(-1), rfl, (trivial)⟩, ht⟩) (fun _ h => nomatch h) dX12_where_26 hlk
  · skip
    refine lv_iload_n SS.1 SS.2.1 dX12_where_7 rfl (lv_at hl 2 rfl) ?_
    refine lv_iload_n SS.1 SS.2.1 dX12_where_8 rfl (lv_at hl 3 rfl) ?_
    refine j_sRi SS (As := [.int (J x), .int (J y)]) (rest := []) (c_X12_isPlace l D x y (show -2147483648 ≤ x ∧ x ≤ 2147483647 from (by omega)) (show -2147483648 ≤ y ∧ y ≤ 2147483647 from (by omega))) mf_X12_isPlace kw_1166 hG trivial rfl hl.1 ⟨⟨Nat.le_of_ble_eq_true rfl, Nat.le_of_ble_eq_true rfl⟩, Nat.le_of_ble_eq_true rfl, Nat.le_refl _, Nat.le_refl _⟩ rfl dX12_where_9 (fun z_9 h_9 => ?_)
    have h_9 : (z_9 = 1 ∧ (-40 ≤ x ∧ x ≤ 40 ∧ -40 ≤ y ∧ y ≤ 40)) ∨ (z_9 = 0 ∧ ¬ (-40 ≤ x ∧ x ≤ 40 ∧ -40 ≤ y ∧ y ≤ 40)) := h_9
    refine j_if_eq SS (tgt := 25) (x := z_9) dX12_where_12 (by decide) (by omega) (fun c_12 => ?_) (fun c_12 => ?_)
    · skip
      refine j_iconst SS dX12_where_25 ?_
      exact W.iret SS.1 SS.2.1 hr (fun t ht hW => ⟨_, rfl, ⟨(-1), rfl, (trivial)⟩, ht⟩) (fun _ h => nomatch h) dX12_where_26 hlk
    · skip
      refine lv_aload_n SS.1 SS.2.1 dX12_where_15 rfl (lv_at hl 0 rfl) ?_
      refine lv_iload_n SS.1 SS.2.1 dX12_where_16 rfl (lv_at hl 1 rfl) ?_
      refine lv_iload_n SS.1 SS.2.1 dX12_where_17 rfl (lv_at hl 2 rfl) ?_
      refine lv_iload_n SS.1 SS.2.1 dX12_where_18 rfl (lv_at hl 3 rfl) ?_
      refine j_vRi SS (As := [.int (J s), .int (J x), .int (J y)]) (rest := []) (c_X12_whereOf l D o q u s x y (show 0 ≤ s ∧ s ≤ 7 from (by omega)) (show Sh u s from (p0.1 _ (by omega) (by omega))) (show -100 ≤ x ∧ x ≤ 100 from (by omega)) (show -100 ≤ y ∧ y ≤ 100 from (by omega))) mf_X12_whereOf kw_1255 hG hP hP (ci := 8) (q0 := 0) rfl rfl rfl rfl hl.1 ⟨⟨Nat.le_of_ble_eq_true rfl, Nat.le_of_ble_eq_true rfl⟩, Nat.le_of_ble_eq_true rfl, Nat.le_refl _, Nat.le_refl _⟩ rfl dX12_where_19 (fun z_19 h_19 => ?_)
      have h_19 : wR u s x y z_19 := h_19
      refine lv_goto (tgt := 26) SS.1 SS.2.1 dX12_where_22 (by decide) ?_
      exact W.iret SS.1 SS.2.1 hr (fun t ht hW => ⟨_, rfl, ⟨z_19, rfl, (trivial)⟩, ht⟩) (fun _ h => nomatch h) dX12_where_26 hlk

set_option maxHeartbeats 4000000 in
set_option maxRecDepth 100000 in
theorem c_X12_isWay (l : Launch) (D : JD) (a : Int) (b : Int) (p0 : -2147483648 < a ∧ a ≤ 2147483647) (p1 : -2147483648 < b ∧ b ≤ 2147483647) : Met l yX12_isWay (jw yX12_isWay cX12_isWay 2 (some .boolean)) (jr 2 44) (jP [.int (J a), .int (J b)] D (fun _ => True)) (jRi (fun z => (z = 1 ∧ ((Int.gcd a b : Int) = 1 ∧ (0 < a ∨ (a = 0 ∧ b = 1)))) ∨ (z = 0 ∧ ¬ ((Int.gcd a b : Int) = 1 ∧ (0 < a ∨ (a = 0 ∧ b = 1)))))) 0 0 (fun _ => False) := by
  refine Met.ofW (cc := cX12_isWay) (maxL := 2) (ret := (some .boolean)) (by decide) rfl ?_
  intro pr en st mi args below meth co s₁ B hml hv
  obtain ⟨rfl, hG, hP⟩ := hv
  have hr := B.returns
  have hlk := B.notSynchronized
  have SS : jS pr mi co cX12_isWay 2 st _ RX12 := ⟨B.exec, B.bytes, hml, findClass_of_methodNamed B.named, fun w hw => atoms_spec (ws := (jw yX12_isWay cX12_isWay 2 (some .boolean))) B.pre w (List.mem_cons_of_mem _ hw)⟩
  have hl := lv_entry ([.int (J a), .int (J b)]) (n := 2) (Nat.le_of_ble_eq_true rfl)
  rw [lg_entry_eq]
  generalize (lg_sl ([.int (J a), .int (J b)]) ++ List.replicate (2 - (lg_sl ([.int (J a), .int (J b)])).length) Slot.unset).toArray = ls at hl ⊢
  have hl : lv_has ls 2 [(0, .int (J a)), (1, .int (J b))] := hl
  refine lv_iload_n SS.1 SS.2.1 dX12_isWay_0 rfl (lv_at hl 0 rfl) ?_
  refine lv_iload_n SS.1 SS.2.1 dX12_isWay_1 rfl (lv_at hl 1 rfl) ?_
  refine j_sRi SS (As := [.int (J a), .int (J b)]) (rest := []) (c_X12_common l D a b (show -2147483648 < a ∧ a ≤ 2147483647 from (by omega)) (show -2147483648 < b ∧ b ≤ 2147483647 from (by omega))) mf_X12_common kw_1230 hG trivial rfl hl.1 ⟨⟨Nat.le_of_ble_eq_true rfl, Nat.le_of_ble_eq_true rfl⟩, Nat.le_of_ble_eq_true rfl, Nat.le_refl _, Nat.le_refl _⟩ rfl dX12_isWay_2 (fun z_2 h_2 => ?_)
  have h_2 : z_2 = (Int.gcd a b : Int) := h_2
  have hg := gcd_b (a := a) (b := b) (K := 2147483647) (by omega) (by omega)
  refine j_iconst SS dX12_isWay_5 ?_
  refine j_icmp_ne SS (tgt := 26) (x := z_2) (y := 1) dX12_isWay_6 (by decide) (by omega) (by decide) (fun c_6 => ?_) (fun c_6 => ?_)
  · skip
    refine j_iconst SS dX12_isWay_26 ?_
    exact W.zret SS.1 SS.2.1 hr (j_nz (by decide)) (fun t ht hW => ⟨_, rfl, ⟨0, rfl, (by omega)⟩, ht⟩) (fun _ h => nomatch h) dX12_isWay_27 hlk
  · skip
    refine lv_iload_n SS.1 SS.2.1 dX12_isWay_9 rfl (lv_at hl 0 rfl) ?_
    refine j_if_gt SS (tgt := 22) (x := a) dX12_isWay_10 (by decide) (by omega) (fun c_10 => ?_) (fun c_10 => ?_)
    · skip
      refine j_iconst SS dX12_isWay_22 ?_
      refine lv_goto (tgt := 27) SS.1 SS.2.1 dX12_isWay_23 (by decide) ?_
      exact W.zret SS.1 SS.2.1 hr (j_nz (by decide)) (fun t ht hW => ⟨_, rfl, ⟨1, rfl, (by omega)⟩, ht⟩) (fun _ h => nomatch h) dX12_isWay_27 hlk
    · skip
      refine lv_iload_n SS.1 SS.2.1 dX12_isWay_13 rfl (lv_at hl 0 rfl) ?_
      refine j_if_ne SS (tgt := 26) (x := a) dX12_isWay_14 (by decide) (by omega) (fun c_14 => ?_) (fun c_14 => ?_)
      · skip
        refine j_iconst SS dX12_isWay_26 ?_
        exact W.zret SS.1 SS.2.1 hr (j_nz (by decide)) (fun t ht hW => ⟨_, rfl, ⟨0, rfl, (by omega)⟩, ht⟩) (fun _ h => nomatch h) dX12_isWay_27 hlk
      · skip
        refine lv_iload_n SS.1 SS.2.1 dX12_isWay_17 rfl (lv_at hl 1 rfl) ?_
        refine j_iconst SS dX12_isWay_18 ?_
        refine j_icmp_ne SS (tgt := 26) (x := b) (y := 1) dX12_isWay_19 (by decide) (by omega) (by decide) (fun c_19 => ?_) (fun c_19 => ?_)
        · skip
          refine j_iconst SS dX12_isWay_26 ?_
          exact W.zret SS.1 SS.2.1 hr (j_nz (by decide)) (fun t ht hW => ⟨_, rfl, ⟨0, rfl, (by omega)⟩, ht⟩) (fun _ h => nomatch h) dX12_isWay_27 hlk
        · skip
          refine j_iconst SS dX12_isWay_22 ?_
          refine lv_goto (tgt := 27) SS.1 SS.2.1 dX12_isWay_23 (by decide) ?_
          exact W.zret SS.1 SS.2.1 hr (j_nz (by decide)) (fun t ht hW => ⟨_, rfl, ⟨1, rfl, (by omega)⟩, ht⟩) (fun _ h => nomatch h) dX12_isWay_27 hlk

set_option maxHeartbeats 4000000 in
set_option maxRecDepth 100000 in
theorem c_X12_widthOf (l : Launch) (D : JD) (o : Nat) (q : Nat → Nat) (u : MS) (s : Int) (a : Int) (b : Int) (p0 : 0 ≤ s ∧ s ≤ 7) (p1 : Sh u s) (p2 : 0 < mN u s) (p3 : -1000000 ≤ a ∧ a ≤ 1000000) (p4 : -1000000 ≤ b ∧ b ≤ 1000000) : Met l yX12_widthOf (jw yX12_widthOf cX12_widthOf 8 (some .int)) (jr 1 22) (jP [.ref o, .int (J s), .int (J a), .int (J b)] D (fun H => va_P D.1 j_cl (mW D o q u) H)) (jRi (fun z => 0 ≤ z ∧ z ≤ 400000000 ∧ (-1 ≤ a ∧ a ≤ 1 → -1 ≤ b ∧ b ≤ 1 → z ≤ 320))) 0 0 (fun _ => False) := by
  refine Met.ofW (cc := cX12_widthOf) (maxL := 8) (ret := (some .int)) (by decide) rfl ?_
  intro pr en st mi args below meth co s₁ B hml hv
  obtain ⟨rfl, hG, hP⟩ := hv
  have hr := B.returns
  have hlk := B.notSynchronized
  have SS : jS pr mi co cX12_widthOf 8 st _ RX12 := ⟨B.exec, B.bytes, hml, findClass_of_methodNamed B.named, fun w hw => atoms_spec (ws := (jw yX12_widthOf cX12_widthOf 8 (some .int))) B.pre w (List.mem_cons_of_mem _ hw)⟩
  have hl := lv_entry ([.ref o, .int (J s), .int (J a), .int (J b)]) (n := 8) (Nat.le_of_ble_eq_true rfl)
  rw [lg_entry_eq]
  generalize (lg_sl ([.ref o, .int (J s), .int (J a), .int (J b)]) ++ List.replicate (8 - (lg_sl ([.ref o, .int (J s), .int (J a), .int (J b)])).length) Slot.unset).toArray = ls at hl ⊢
  have hl : lv_has ls 8 [(0, .ref o), (1, .int (J s)), (2, .int (J a)), (3, .int (J b))] := hl
  have hN := p1.1
  have hC := p1.2.2
  have hb0 := p1.2.1 (by omega) 0 (by omega)
  have m1 := mulb (A := 1000000) (B := 40) p3 hb0.1
  have m2 := mulb (A := 1000000) (B := 40) p4 hb0.2
  refine lv_iload_n SS.1 SS.2.1 dX12_widthOf_0 rfl (lv_at hl 2 rfl) ?_
  refine lv_aload_n SS.1 SS.2.1 dX12_widthOf_1 rfl (lv_at hl 0 rfl) ?_
  refine lv_iload_n SS.1 SS.2.1 dX12_widthOf_2 rfl (lv_at hl 1 rfl) ?_
  refine j_iconst SS dX12_widthOf_3 ?_
  refine j_vRi SS (As := [.int (J s), .int (J 0)]) (rest := [.int (J a)]) (c_X12_x l D o q u s 0 (show 0 ≤ s ∧ s ≤ 7 from (by omega)) (show 0 ≤ (0 : Int) ∧ (0 : Int) ≤ 1000000 from (by omega)) (show 0 < mN u s ∧ mN u s ≤ 24 from (by first | omega | (have hq := (show Sh u s from p1).1; omega)))) mf_X12_x kw_1177 hG hP hP (ci := 8) (q0 := 0) rfl rfl rfl rfl hl.1 ⟨⟨Nat.le_of_ble_eq_true rfl, Nat.le_of_ble_eq_true rfl⟩, Nat.le_of_ble_eq_true rfl, Nat.le_refl _, Nat.le_refl _⟩ rfl dX12_widthOf_4 (fun z_4 h_4 => ?_)
  have h_4 : z_4 = mX u s (0 : Int) := h_4
  have hb_4 := (show Sh u s from p1).2.1 (by omega) (0 : Int) (by omega)
  refine j_imul SS (x := a) (y := z_4) dX12_widthOf_7 ?_
  obtain ⟨v5a, ev5a⟩ : ∃ z : Int, z = (a * z_4) := ⟨_, rfl⟩
  rw [← ev5a]
  refine lv_iload_n SS.1 SS.2.1 dX12_widthOf_8 rfl (lv_at hl 3 rfl) ?_
  refine lv_aload_n SS.1 SS.2.1 dX12_widthOf_9 rfl (lv_at hl 0 rfl) ?_
  refine lv_iload_n SS.1 SS.2.1 dX12_widthOf_10 rfl (lv_at hl 1 rfl) ?_
  refine j_iconst SS dX12_widthOf_11 ?_
  refine j_vRi SS (As := [.int (J s), .int (J 0)]) (rest := [.int (J b), .int (J v5a)]) (c_X12_y l D o q u s 0 (show 0 ≤ s ∧ s ≤ 7 from (by omega)) (show 0 ≤ (0 : Int) ∧ (0 : Int) ≤ 1000000 from (by omega)) (show 0 < mN u s ∧ mN u s ≤ 24 from (by first | omega | (have hq := (show Sh u s from p1).1; omega)))) mf_X12_y kw_1181 hG hP hP (ci := 8) (q0 := 0) rfl rfl rfl rfl hl.1 ⟨⟨Nat.le_of_ble_eq_true rfl, Nat.le_of_ble_eq_true rfl⟩, Nat.le_of_ble_eq_true rfl, Nat.le_refl _, Nat.le_refl _⟩ rfl dX12_widthOf_12 (fun z_12 h_12 => ?_)
  have h_12 : z_12 = mY u s (0 : Int) := h_12
  have hb_12 := (show Sh u s from p1).2.1 (by omega) (0 : Int) (by omega)
  refine j_imul SS (x := b) (y := z_12) dX12_widthOf_15 ?_
  obtain ⟨v5b, ev5b⟩ : ∃ z : Int, z = (b * z_12) := ⟨_, rfl⟩
  rw [← ev5b]
  refine j_iadd SS (x := v5a) (y := v5b) dX12_widthOf_16 ?_
  obtain ⟨v4, ev4⟩ : ∃ z : Int, z = (v5a + v5b) := ⟨_, rfl⟩
  rw [← ev4]
  rw [h_4] at ev5a
  rw [h_12] at ev5b
  refine lv_istore (lv' := [(4, .int (J v4)), (0, .ref o), (1, .int (J s)), (2, .int (J a)), (3, .int (J b))]) SS.1 SS.2.1 dX12_widthOf_17 hl (by decide) rfl (fun ls hl => ?_)
  refine lv_iload SS.1 SS.2.1 dX12_widthOf_19 (lv_at hl 0 rfl) ?_
  refine lv_istore (lv' := [(5, .int (J v4)), (4, .int (J v4)), (0, .ref o), (1, .int (J s)), (2, .int (J a)), (3, .int (J b))]) SS.1 SS.2.1 dX12_widthOf_21 hl (by decide) rfl (fun ls hl => ?_)
  refine j_iconst SS dX12_widthOf_23 ?_
  refine lv_istore (lv' := [(6, .int (J 1)), (5, .int (J v4)), (4, .int (J v4)), (0, .ref o), (1, .int (J s)), (2, .int (J a)), (3, .int (J b))]) SS.1 SS.2.1 dX12_widthOf_24 hl (by decide) rfl (fun ls hl => ?_)
  have L_26 : ∀ (nn : Nat) (lo : Int) (hi : Int) (i : Int) (ls : Array Slot) (hl : lv_has ls 8 [(0, .ref o), (1, .int (J s)), (2, .int (J a)), (3, .int (J b)), (4, .int (J lo)), (5, .int (J hi)), (6, .int (J i))]) (i26_0 : 1 ≤ i ∧ i ≤ 100) (i26_1 : -200000000 ≤ lo ∧ lo ≤ 200000000) (i26_2 : -200000000 ≤ hi ∧ hi ≤ 200000000) (i26_3 : lo ≤ hi) (i26_4 : -1 ≤ a ∧ a ≤ 1 → -1 ≤ b ∧ b ≤ 1 → -160 ≤ lo ∧ hi ≤ 160), ((100 : Int) - i).toNat < nn → W pr l en (headSpec (jw yX12_widthOf cX12_widthOf 8 (some .int)) (jr 1 22)).room st mi (([.ref o, .int (J s), .int (J a), .int (J b)] : List Value).toArray) below meth co st.heap [] 0 0 (MQ below (jRi (fun z => 0 ≤ z ∧ z ≤ 400000000 ∧ (-1 ≤ a ∧ a ≤ 1 → -1 ≤ b ∧ b ≤ 1 → z ≤ 320))) (([.ref o, .int (J s), .int (J a), .int (J b)] : List Value).toArray) st 0 0 (fun _ => False)) (F0 mi 26 ls []) := by
    intro nn
    induction nn with
    | zero => intros; omega
    | succ nn ih_26 =>
      intro lo hi i ls hl i26_0 i26_1 i26_2 i26_3 i26_4 hm
      refine lv_iload SS.1 SS.2.1 dX12_widthOf_26 (lv_at hl 6 rfl) ?_
      refine lv_aload_n SS.1 SS.2.1 dX12_widthOf_28 rfl (lv_at hl 0 rfl) ?_
      refine j_get SS hG hP 0 (v := .ref (q 0)) (C := RX12) (T := TX12) (N := 31) rfl rfl inX12 0 (by decide) (ref := RX12) kw_1058 rfl rfl dX12_widthOf_29 ?_
      refine lv_iload_n SS.1 SS.2.1 dX12_widthOf_32 rfl (lv_at hl 1 rfl) ?_
      refine j_iald SS hG hP 1 (n := 8) (f := (u.1 0)) rfl (z := s) (by omega) (by omega) dX12_widthOf_33 ?_
      have hN_33 := (show Sh u s from p1).1
      refine j_icmp_ge SS (tgt := 96) (x := i) (y := (mN u s)) dX12_widthOf_34 (by decide) (by omega) (by omega) (fun c_34 => ?_) (fun c_34 => ?_)
      · skip
        refine lv_iload SS.1 SS.2.1 dX12_widthOf_96 (lv_at hl 5 rfl) ?_
        refine lv_iload SS.1 SS.2.1 dX12_widthOf_98 (lv_at hl 4 rfl) ?_
        refine j_isub SS (x := hi) (y := lo) dX12_widthOf_100 ?_
        exact W.iret SS.1 SS.2.1 hr (fun t ht hW => ⟨_, rfl, ⟨(hi - lo), rfl, (⟨by omega, by omega, fun qa qb => by have k := i26_4 qa qb; omega⟩)⟩, ht⟩) (fun _ h => nomatch h) dX12_widthOf_101 hlk
      · skip
        have hbi := p1.2.1 (by omega) i (by omega)
        have m3 := mulb (A := 1000000) (B := 40) p3 hbi.1
        have m4 := mulb (A := 1000000) (B := 40) p4 hbi.2
        refine lv_iload_n SS.1 SS.2.1 dX12_widthOf_37 rfl (lv_at hl 2 rfl) ?_
        refine lv_aload_n SS.1 SS.2.1 dX12_widthOf_38 rfl (lv_at hl 0 rfl) ?_
        refine lv_iload_n SS.1 SS.2.1 dX12_widthOf_39 rfl (lv_at hl 1 rfl) ?_
        refine lv_iload SS.1 SS.2.1 dX12_widthOf_40 (lv_at hl 6 rfl) ?_
        refine j_vRi SS (As := [.int (J s), .int (J i)]) (rest := [.int (J a)]) (c_X12_x l D o q u s i (show 0 ≤ s ∧ s ≤ 7 from (by omega)) (show 0 ≤ i ∧ i ≤ 1000000 from (by omega)) (show 0 < mN u s ∧ mN u s ≤ 24 from (by first | omega | (have hq := (show Sh u s from p1).1; omega)))) mf_X12_x kw_1177 hG hP hP (ci := 8) (q0 := 0) rfl rfl rfl rfl hl.1 ⟨⟨Nat.le_of_ble_eq_true rfl, Nat.le_of_ble_eq_true rfl⟩, Nat.le_of_ble_eq_true rfl, Nat.le_refl _, Nat.le_refl _⟩ rfl dX12_widthOf_42 (fun z_42 h_42 => ?_)
        have h_42 : z_42 = mX u s i := h_42
        have hb_42 := (show Sh u s from p1).2.1 (by omega) i (by omega)
        refine j_imul SS (x := a) (y := z_42) dX12_widthOf_45 ?_
        obtain ⟨v6a, ev6a⟩ : ∃ z : Int, z = (a * z_42) := ⟨_, rfl⟩
        rw [← ev6a]
        refine lv_iload_n SS.1 SS.2.1 dX12_widthOf_46 rfl (lv_at hl 3 rfl) ?_
        refine lv_aload_n SS.1 SS.2.1 dX12_widthOf_47 rfl (lv_at hl 0 rfl) ?_
        refine lv_iload_n SS.1 SS.2.1 dX12_widthOf_48 rfl (lv_at hl 1 rfl) ?_
        refine lv_iload SS.1 SS.2.1 dX12_widthOf_49 (lv_at hl 6 rfl) ?_
        refine j_vRi SS (As := [.int (J s), .int (J i)]) (rest := [.int (J b), .int (J v6a)]) (c_X12_y l D o q u s i (show 0 ≤ s ∧ s ≤ 7 from (by omega)) (show 0 ≤ i ∧ i ≤ 1000000 from (by omega)) (show 0 < mN u s ∧ mN u s ≤ 24 from (by first | omega | (have hq := (show Sh u s from p1).1; omega)))) mf_X12_y kw_1181 hG hP hP (ci := 8) (q0 := 0) rfl rfl rfl rfl hl.1 ⟨⟨Nat.le_of_ble_eq_true rfl, Nat.le_of_ble_eq_true rfl⟩, Nat.le_of_ble_eq_true rfl, Nat.le_refl _, Nat.le_refl _⟩ rfl dX12_widthOf_51 (fun z_51 h_51 => ?_)
        have h_51 : z_51 = mY u s i := h_51
        have hb_51 := (show Sh u s from p1).2.1 (by omega) i (by omega)
        refine j_imul SS (x := b) (y := z_51) dX12_widthOf_54 ?_
        obtain ⟨v6b, ev6b⟩ : ∃ z : Int, z = (b * z_51) := ⟨_, rfl⟩
        rw [← ev6b]
        refine j_iadd SS (x := v6a) (y := v6b) dX12_widthOf_55 ?_
        obtain ⟨v7, ev7⟩ : ∃ z : Int, z = (v6a + v6b) := ⟨_, rfl⟩
        rw [← ev7]
        rw [h_42] at ev6a
        rw [h_51] at ev6b
        refine lv_istore (lv' := [(7, .int (J v7)), (0, .ref o), (1, .int (J s)), (2, .int (J a)), (3, .int (J b)), (4, .int (J lo)), (5, .int (J hi)), (6, .int (J i))]) SS.1 SS.2.1 dX12_widthOf_56 hl (by decide) rfl (fun ls hl => ?_)
        refine lv_iload SS.1 SS.2.1 dX12_widthOf_58 (lv_at hl 0 rfl) ?_
        refine lv_iload SS.1 SS.2.1 dX12_widthOf_60 (lv_at hl 5 rfl) ?_
        have L_72 : ∀ (c1 : Int) (ls : Array Slot) (hl : lv_has ls 8 [(0, .ref o), (1, .int (J s)), (2, .int (J a)), (3, .int (J b)), (4, .int (J lo)), (5, .int (J hi)), (6, .int (J i)), (7, .int (J v7))]) (i72_0 : c1 ≤ lo ∧ (c1 = lo ∨ c1 = v7)) (i72_1 : c1 ≤ v7), W pr l en (headSpec (jw yX12_widthOf cX12_widthOf 8 (some .int)) (jr 1 22)).room st mi (([.ref o, .int (J s), .int (J a), .int (J b)] : List Value).toArray) below meth co st.heap [] 0 0 (MQ below (jRi (fun z => 0 ≤ z ∧ z ≤ 400000000 ∧ (-1 ≤ a ∧ a ≤ 1 → -1 ≤ b ∧ b ≤ 1 → z ≤ 320))) (([.ref o, .int (J s), .int (J a), .int (J b)] : List Value).toArray) st 0 0 (fun _ => False)) (F0 mi 72 ls [.int (J c1)]) := by
          intro c1 ls hl i72_0 i72_1
          refine lv_istore (lv' := [(4, .int (J c1)), (0, .ref o), (1, .int (J s)), (2, .int (J a)), (3, .int (J b)), (5, .int (J hi)), (6, .int (J i)), (7, .int (J v7))]) SS.1 SS.2.1 dX12_widthOf_72 hl (by decide) rfl (fun ls hl => ?_)
          refine lv_iload SS.1 SS.2.1 dX12_widthOf_74 (lv_at hl 7 rfl) ?_
          refine lv_iload SS.1 SS.2.1 dX12_widthOf_76 (lv_at hl 5 rfl) ?_
          have L_88 : ∀ (c2 : Int) (ls : Array Slot) (hl : lv_has ls 8 [(0, .ref o), (1, .int (J s)), (2, .int (J a)), (3, .int (J b)), (4, .int (J c1)), (5, .int (J hi)), (6, .int (J i)), (7, .int (J v7))]) (i88_0 : hi ≤ c2 ∧ (c2 = hi ∨ c2 = v7)) (i88_1 : v7 ≤ c2), W pr l en (headSpec (jw yX12_widthOf cX12_widthOf 8 (some .int)) (jr 1 22)).room st mi (([.ref o, .int (J s), .int (J a), .int (J b)] : List Value).toArray) below meth co st.heap [] 0 0 (MQ below (jRi (fun z => 0 ≤ z ∧ z ≤ 400000000 ∧ (-1 ≤ a ∧ a ≤ 1 → -1 ≤ b ∧ b ≤ 1 → z ≤ 320))) (([.ref o, .int (J s), .int (J a), .int (J b)] : List Value).toArray) st 0 0 (fun _ => False)) (F0 mi 88 ls [.int (J c2)]) := by
            intro c2 ls hl i88_0 i88_1
            refine lv_istore (lv' := [(5, .int (J c2)), (0, .ref o), (1, .int (J s)), (2, .int (J a)), (3, .int (J b)), (4, .int (J c1)), (6, .int (J i)), (7, .int (J v7))]) SS.1 SS.2.1 dX12_widthOf_88 hl (by decide) rfl (fun ls hl => ?_)
            refine lv_iinc (v := J (i + 1)) (lv' := [(6, .int (J (i + 1))), (5, .int (J c2)), (0, .ref o), (1, .int (J s)), (2, .int (J a)), (3, .int (J b)), (4, .int (J c1)), (7, .int (J v7))]) SS.1 SS.2.1 dX12_widthOf_90 hl (k := 6) rfl (J_add _ _) (by decide) rfl (fun ls hl => ?_)
            refine lv_goto (tgt := 26) SS.1 SS.2.1 dX12_widthOf_93 (by decide) ?_
            exact ih_26 c1 c2 (i + 1) ls (lv_sub hl [2, 3, 4, 5, 6, 1, 0] rfl) (by omega) (by omega) (by omega) (by omega) (fun qa qb => by first | (have k := i26_4 qa qb; have m3 := mulb (A := 1) (B := 40) qa hbi.1; have m4 := mulb (A := 1) (B := 40) qb hbi.2; omega) | (have m3 := mulb (A := 1) (B := 40) qa hb0.1; have m4 := mulb (A := 1) (B := 40) qb hb0.2; omega)) (by omega)
          refine j_icmp_le SS (tgt := 86) (x := v7) (y := hi) dX12_widthOf_78 (by decide) (by omega) (by omega) (fun c_78 => ?_) (fun c_78 => ?_)
          · skip
            refine lv_iload SS.1 SS.2.1 dX12_widthOf_86 (lv_at hl 5 rfl) ?_
            exact L_88 hi ls (lv_sub hl [1, 2, 3, 4, 0, 5, 6, 7] rfl) (by omega) (by omega)
          · skip
            refine lv_iload SS.1 SS.2.1 dX12_widthOf_81 (lv_at hl 7 rfl) ?_
            refine lv_goto (tgt := 88) SS.1 SS.2.1 dX12_widthOf_83 (by decide) ?_
            exact L_88 v7 ls (lv_sub hl [1, 2, 3, 4, 0, 5, 6, 7] rfl) (by omega) (by omega)
        refine j_icmp_ge SS (tgt := 70) (x := v7) (y := lo) dX12_widthOf_62 (by decide) (by omega) (by omega) (fun c_62 => ?_) (fun c_62 => ?_)
        · skip
          refine lv_iload SS.1 SS.2.1 dX12_widthOf_70 (lv_at hl 5 rfl) ?_
          exact L_72 lo ls (lv_sub hl [1, 2, 3, 4, 5, 6, 7, 0] rfl) (by omega) (by omega)
        · skip
          refine lv_iload SS.1 SS.2.1 dX12_widthOf_65 (lv_at hl 0 rfl) ?_
          refine lv_goto (tgt := 72) SS.1 SS.2.1 dX12_widthOf_67 (by decide) ?_
          exact L_72 v7 ls (lv_sub hl [1, 2, 3, 4, 5, 6, 7, 0] rfl) (by omega) (by omega)
  exact L_26 (((100 : Int) - (1 : Int)).toNat + 1) v4 v4 1 ls (lv_sub hl [3, 4, 5, 6, 2, 1, 0] rfl) (by omega) (by omega) (by omega) (by omega) (fun qa qb => by first | (have k := i26_4 qa qb; have m3 := mulb (A := 1) (B := 40) qa hbi.1; have m4 := mulb (A := 1) (B := 40) qb hbi.2; omega) | (have m3 := mulb (A := 1) (B := 40) qa hb0.1; have m4 := mulb (A := 1) (B := 40) qb hb0.2; omega)) (Nat.lt_succ_self _)

set_option maxHeartbeats 4000000 in
set_option maxRecDepth 100000 in
theorem c_X12_width (l : Launch) (D : JD) (o : Nat) (q : Nat → Nat) (u : MS) (s : Int) (a : Int) (b : Int) (p0 : IM u) (p1 : -2147483648 ≤ s ∧ s ≤ 2147483647) (p2 : -2147483648 ≤ a ∧ a ≤ 2147483647) (p3 : -2147483648 ≤ b ∧ b ≤ 2147483647) : Met l yX12_width (jw yX12_width cX12_width 4 (some .int)) (jr 3 65) (jP [.ref o, .int (J s), .int (J a), .int (J b)] D (fun H => va_P D.1 j_cl (mW D o q u) H)) (jRi (fun z => True)) 0 0 (fun _ => False) := by
  refine Met.ofW (cc := cX12_width) (maxL := 4) (ret := (some .int)) (by decide) rfl ?_
  intro pr en st mi args below meth co s₁ B hml hv
  obtain ⟨rfl, hG, hP⟩ := hv
  have hr := B.returns
  have hlk := B.notSynchronized
  have SS : jS pr mi co cX12_width 4 st _ RX12 := ⟨B.exec, B.bytes, hml, findClass_of_methodNamed B.named, fun w hw => atoms_spec (ws := (jw yX12_width cX12_width 4 (some .int))) B.pre w (List.mem_cons_of_mem _ hw)⟩
  have hl := lv_entry ([.ref o, .int (J s), .int (J a), .int (J b)]) (n := 4) (Nat.le_of_ble_eq_true rfl)
  rw [lg_entry_eq]
  generalize (lg_sl ([.ref o, .int (J s), .int (J a), .int (J b)]) ++ List.replicate (4 - (lg_sl ([.ref o, .int (J s), .int (J a), .int (J b)])).length) Slot.unset).toArray = ls at hl ⊢
  have hl : lv_has ls 4 [(0, .ref o), (1, .int (J s)), (2, .int (J a)), (3, .int (J b))] := hl
  refine lv_iload_n SS.1 SS.2.1 dX12_width_0 rfl (lv_at hl 1 rfl) ?_
  refine j_sRi SS (As := [.int (J s)]) (rest := []) (c_X12_isShape l D s (show -2147483648 ≤ s ∧ s ≤ 2147483647 from (by omega))) mf_X12_isShape kw_1156 hG trivial rfl hl.1 ⟨⟨Nat.le_of_ble_eq_true rfl, Nat.le_of_ble_eq_true rfl⟩, Nat.le_of_ble_eq_true rfl, Nat.le_refl _, Nat.le_refl _⟩ rfl dX12_width_1 (fun z_1 h_1 => ?_)
  have h_1 : (z_1 = 1 ∧ (0 ≤ s ∧ s ≤ 7)) ∨ (z_1 = 0 ∧ ¬ (0 ≤ s ∧ s ≤ 7)) := h_1
  refine j_if_eq SS (tgt := 37) (x := z_1) dX12_width_4 (by decide) (by omega) (fun c_4 => ?_) (fun c_4 => ?_)
  · skip
    refine j_iconst SS dX12_width_37 ?_
    exact W.iret SS.1 SS.2.1 hr (fun t ht hW => ⟨_, rfl, ⟨(-1), rfl, (trivial)⟩, ht⟩) (fun _ h => nomatch h) dX12_width_38 hlk
  · skip
    refine lv_iload_n SS.1 SS.2.1 dX12_width_7 rfl (lv_at hl 2 rfl) ?_
    refine j_bipush SS dX12_width_8 (by decide +kernel) ?_
    refine j_bipush SS dX12_width_10 (by decide +kernel) ?_
    refine j_sRi SS (As := [.int (J a), .int (J (-100)), .int (J 100)]) (rest := []) (c_X12_in l D a (-100) 100 (show -2147483648 ≤ a ∧ a ≤ 2147483647 from (by omega)) (show -2147483648 ≤ (-100 : Int) ∧ (-100 : Int) ≤ 2147483647 from (by omega)) (show -2147483648 ≤ (100 : Int) ∧ (100 : Int) ≤ 2147483647 from (by omega))) mf_X12_in kw_1159 hG trivial rfl hl.1 ⟨⟨Nat.le_of_ble_eq_true rfl, Nat.le_of_ble_eq_true rfl⟩, Nat.le_of_ble_eq_true rfl, Nat.le_refl _, Nat.le_refl _⟩ rfl dX12_width_12 (fun z_12 h_12 => ?_)
    have h_12 : (z_12 = 1 ∧ ((-100 : Int) ≤ a ∧ a ≤ (100 : Int))) ∨ (z_12 = 0 ∧ ¬ ((-100 : Int) ≤ a ∧ a ≤ (100 : Int))) := h_12
    refine j_if_eq SS (tgt := 37) (x := z_12) dX12_width_15 (by decide) (by omega) (fun c_15 => ?_) (fun c_15 => ?_)
    · skip
      refine j_iconst SS dX12_width_37 ?_
      exact W.iret SS.1 SS.2.1 hr (fun t ht hW => ⟨_, rfl, ⟨(-1), rfl, (trivial)⟩, ht⟩) (fun _ h => nomatch h) dX12_width_38 hlk
    · skip
      refine lv_iload_n SS.1 SS.2.1 dX12_width_18 rfl (lv_at hl 3 rfl) ?_
      refine j_bipush SS dX12_width_19 (by decide +kernel) ?_
      refine j_bipush SS dX12_width_21 (by decide +kernel) ?_
      refine j_sRi SS (As := [.int (J b), .int (J (-100)), .int (J 100)]) (rest := []) (c_X12_in l D b (-100) 100 (show -2147483648 ≤ b ∧ b ≤ 2147483647 from (by omega)) (show -2147483648 ≤ (-100 : Int) ∧ (-100 : Int) ≤ 2147483647 from (by omega)) (show -2147483648 ≤ (100 : Int) ∧ (100 : Int) ≤ 2147483647 from (by omega))) mf_X12_in kw_1159 hG trivial rfl hl.1 ⟨⟨Nat.le_of_ble_eq_true rfl, Nat.le_of_ble_eq_true rfl⟩, Nat.le_of_ble_eq_true rfl, Nat.le_refl _, Nat.le_refl _⟩ rfl dX12_width_23 (fun z_23 h_23 => ?_)
      have h_23 : (z_23 = 1 ∧ ((-100 : Int) ≤ b ∧ b ≤ (100 : Int))) ∨ (z_23 = 0 ∧ ¬ ((-100 : Int) ≤ b ∧ b ≤ (100 : Int))) := h_23
      refine j_if_eq SS (tgt := 37) (x := z_23) dX12_width_26 (by decide) (by omega) (fun c_26 => ?_) (fun c_26 => ?_)
      · skip
        refine j_iconst SS dX12_width_37 ?_
        exact W.iret SS.1 SS.2.1 hr (fun t ht hW => ⟨_, rfl, ⟨(-1), rfl, (trivial)⟩, ht⟩) (fun _ h => nomatch h) dX12_width_38 hlk
      · skip
        refine lv_iload_n SS.1 SS.2.1 dX12_width_29 rfl (lv_at hl 2 rfl) ?_
        refine lv_iload_n SS.1 SS.2.1 dX12_width_30 rfl (lv_at hl 3 rfl) ?_
        refine j_sRi SS (As := [.int (J a), .int (J b)]) (rest := []) (c_X12_isWay l D a b (show -2147483648 < a ∧ a ≤ 2147483647 from (by omega)) (show -2147483648 < b ∧ b ≤ 2147483647 from (by omega))) mf_X12_isWay kw_1274 hG trivial rfl hl.1 ⟨⟨Nat.le_of_ble_eq_true rfl, Nat.le_of_ble_eq_true rfl⟩, Nat.le_of_ble_eq_true rfl, Nat.le_refl _, Nat.le_refl _⟩ rfl dX12_width_31 (fun z_31 h_31 => ?_)
        have h_31 : (z_31 = 1 ∧ ((Int.gcd a b : Int) = 1 ∧ (0 < a ∨ (a = 0 ∧ b = 1)))) ∨ (z_31 = 0 ∧ ¬ ((Int.gcd a b : Int) = 1 ∧ (0 < a ∨ (a = 0 ∧ b = 1)))) := h_31
        refine j_if_ne SS (tgt := 39) (x := z_31) dX12_width_34 (by decide) (by omega) (fun c_34 => ?_) (fun c_34 => ?_)
        · skip
          refine lv_aload_n SS.1 SS.2.1 dX12_width_39 rfl (lv_at hl 0 rfl) ?_
          refine j_get SS hG hP 0 (v := .ref (q 0)) (C := RX12) (T := TX12) (N := 31) rfl rfl inX12 0 (by decide) (ref := RX12) kw_1058 rfl rfl dX12_width_40 ?_
          refine lv_iload_n SS.1 SS.2.1 dX12_width_43 rfl (lv_at hl 1 rfl) ?_
          refine j_iald SS hG hP 1 (n := 8) (f := (u.1 0)) rfl (z := s) (by omega) (by omega) dX12_width_44 ?_
          have hN_44 := (show Sh u s from p0.1 _ (by omega) (by omega)).1
          refine j_if_ne SS (tgt := 53) (x := (mN u s)) dX12_width_45 (by decide) (by omega) (fun c_45 => ?_) (fun c_45 => ?_)
          · skip
            refine lv_aload_n SS.1 SS.2.1 dX12_width_53 rfl (lv_at hl 0 rfl) ?_
            refine lv_iload_n SS.1 SS.2.1 dX12_width_54 rfl (lv_at hl 1 rfl) ?_
            refine lv_iload_n SS.1 SS.2.1 dX12_width_55 rfl (lv_at hl 2 rfl) ?_
            refine lv_iload_n SS.1 SS.2.1 dX12_width_56 rfl (lv_at hl 3 rfl) ?_
            refine j_vRi SS (As := [.int (J s), .int (J a), .int (J b)]) (rest := []) (c_X12_widthOf l D o q u s a b (show 0 ≤ s ∧ s ≤ 7 from (by omega)) (show Sh u s from (p0.1 _ (by omega) (by omega))) (show 0 < mN u s from (by first | omega | (have hq := (show Sh u s from p0.1 _ (by omega) (by omega)).1; omega))) (show -1000000 ≤ a ∧ a ≤ 1000000 from (by omega)) (show -1000000 ≤ b ∧ b ≤ 1000000 from (by omega))) mf_X12_widthOf kw_1277 hG hP hP (ci := 8) (q0 := 0) rfl rfl rfl rfl hl.1 ⟨⟨Nat.le_of_ble_eq_true rfl, Nat.le_of_ble_eq_true rfl⟩, Nat.le_of_ble_eq_true rfl, Nat.le_refl _, Nat.le_refl _⟩ rfl dX12_width_57 (fun z_57 h_57 => ?_)
            have h_57 : 0 ≤ z_57 ∧ z_57 ≤ 400000000 ∧ (-1 ≤ a ∧ a ≤ 1 → -1 ≤ b ∧ b ≤ 1 → z_57 ≤ 320) := h_57
            exact W.iret SS.1 SS.2.1 hr (fun t ht hW => ⟨_, rfl, ⟨z_57, rfl, (trivial)⟩, ht⟩) (fun _ h => nomatch h) dX12_width_60 hlk
          · skip
            refine j_bipush SS dX12_width_48 (by decide +kernel) ?_
            refine lv_goto (tgt := 60) SS.1 SS.2.1 dX12_width_50 (by decide) ?_
            exact W.iret SS.1 SS.2.1 hr (fun t ht hW => ⟨_, rfl, ⟨(-2), rfl, (trivial)⟩, ht⟩) (fun _ h => nomatch h) dX12_width_60 hlk
        · skip
          refine j_iconst SS dX12_width_37 ?_
          exact W.iret SS.1 SS.2.1 hr (fun t ht hW => ⟨_, rfl, ⟨(-1), rfl, (trivial)⟩, ht⟩) (fun _ h => nomatch h) dX12_width_38 hlk
