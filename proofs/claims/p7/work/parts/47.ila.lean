
set_option maxHeartbeats 4000000 in
set_option maxRecDepth 100000 in
theorem c_X11_pointsN (l : Launch) (D : JD) (q : Nat → Nat) (u : CS) (s : Int) (what : Int) (p0 : CI u) (p1 : -2147483648 ≤ s ∧ s ≤ 2147483647) (p2 : -2147483648 ≤ what ∧ what ≤ 2147483647) : Met l yX11_points (jw yX11_points cX11_points 4 (some .int)) (jr 6 128) (jP [.ref (q 0), .int (J s), .int (J what)] D (fun H => va_P D.1 j_cl (cW D q u) H)) (jRi (fun z => poC u s what z ∧ wRg z)) 0 0 (fun _ => False) := by
  refine Met.ofW (cc := cX11_points) (maxL := 4) (ret := (some .int)) (by decide) rfl ?_
  intro pr en st mi args below meth co s₁ B hml hv
  obtain ⟨rfl, hG, hP⟩ := hv
  have hr := B.returns
  have hlk := B.notSynchronized
  have SS : jS pr mi co cX11_points 4 st _ RX11 := ⟨B.exec, B.bytes, hml, findClass_of_methodNamed B.named, fun w hw => atoms_spec (ws := (jw yX11_points cX11_points 4 (some .int))) B.pre w (List.mem_cons_of_mem _ hw)⟩
  have hl := lv_entry ([.ref (q 0), .int (J s), .int (J what)]) (n := 4) (Nat.le_of_ble_eq_true rfl)
  rw [lg_entry_eq]
  generalize (lg_sl ([.ref (q 0), .int (J s), .int (J what)]) ++ List.replicate (4 - (lg_sl ([.ref (q 0), .int (J s), .int (J what)])).length) Slot.unset).toArray = ls at hl ⊢
  have hl : lv_has ls 4 [(0, .ref (q 0)), (1, .int (J s)), (2, .int (J what))] := hl
  refine lv_aload_n SS.1 SS.2.1 dX11_points_0 rfl (lv_at hl 0 rfl) ?_
  refine lv_iload_n SS.1 SS.2.1 dX11_points_1 rfl (lv_at hl 1 rfl) ?_
  refine j_vSh SS (As := [.int (J s)]) (rest := []) (c_X11_shapeAt l D q u  s (show -2147483648 ≤ s ∧ s ≤ 2147483647 from (p1))) mf_X11_shapeAt kw_414 hG hP hP (ci := 11) (q0 := 0) rfl rfl rfl rfl hl.1 ⟨⟨Nat.le_of_ble_eq_true rfl, Nat.le_of_ble_eq_true rfl⟩, Nat.le_of_ble_eq_true rfl, Nat.le_refl _, Nat.le_refl _⟩ rfl dX11_points_2 (fun i_2 hi_2 hz_2 => ?_) (fun hn_2 => ?_)
  · skip
    have hI2 := CI_s p0 (show i_2 < 8 by omega)
    have hI2c := hI2.1
    have hrl2 := rl_s (show i_2 < 8 by omega)
    refine lv_astore_n (lv' := [(3, .ref (q (8 + 5 * i_2))), (0, .ref (q 0)), (1, .int (J s)), (2, .int (J what))]) SS.1 SS.2.1 dX11_points_5 rfl hl (by decide) rfl (fun ls hl => ?_)
    refine lv_aload_n SS.1 SS.2.1 dX11_points_6 rfl (lv_at hl 0 rfl) ?_
    refine lv_ifnonnull SS.1 SS.2.1 (tgt := 12) dX11_points_7 (by decide) ?_
    refine lv_iload_n SS.1 SS.2.1 dX11_points_12 rfl (lv_at hl 3 rfl) ?_
    rcases (show what = 0 ∨ what = 1 ∨ what = 2 ∨ what = 3 ∨ (what < 0 ∨ 3 < what) by omega) with c_13 | c_13 | c_13 | c_13 | c_13
    · skip
      refine lv_tableIn SS.1 SS.2.1 (off := 31) (tgt := 44) dX11_points_13 (by rw [J_toInt (by omega)]; omega) (by rw [J_toInt (by omega)]; omega) (by rw [J_toInt (by omega), c_13]; rfl) (by decide) ?_
      refine lv_aload_n SS.1 SS.2.1 dX11_points_44 rfl (lv_at hl 0 rfl) ?_
      refine j_get SS hG hP (8 + 5 * i_2) (v := .ref (q (9 + 5 * i_2))) (C := RX10) (T := TX10) (N := 3) (cw_shape (by omega)) rfl inX10 0 (by decide) (ref := "GridPolygons$Shape") kw_151 rfl rfl dX11_points_45 ?_
      refine j_vRi SS (As := []) (rest := []) (c_X7_area l D q u i_2 (by omega) (80 : Int)  (show 0 ≤ (80 : Int) ∧ (80 : Int) ≤ 80 from (by omega)) (show RB (80 : Int) u i_2 from (show RB 80 u i_2 from CI_s p0 (by omega)))) mf_X7_area kw_517 hG hP hP (ci := 7) (q0 := (9 + 5 * i_2)) rfl (cw_ring (by omega)) rfl rfl hl.1 ⟨⟨Nat.le_of_ble_eq_true rfl, Nat.le_of_ble_eq_true rfl⟩, Nat.le_of_ble_eq_true rfl, Nat.le_refl _, Nat.le_refl _⟩ rfl dX11_points_48 (fun z_48 h_48 => ?_)
      have h_48 : z_48 = rA u i_2 ∧ -10000000 ≤ z_48 ∧ z_48 ≤ 10000000 := h_48
      exact W.iret SS.1 SS.2.1 hr (fun t0 ht hW => ⟨_, rfl, ⟨z_48, rfl, (by first | exact ⟨Or.inl ⟨by omega, rfl⟩, by unfold wRg; omega⟩ | exact ⟨Or.inr ⟨by omega, by rw [show s.toNat = i_2 by omega]; omega⟩, by unfold wRg; omega⟩)⟩, ht⟩) (fun _ h => nomatch h) dX11_points_51 hlk
    · skip
      refine lv_tableIn SS.1 SS.2.1 (off := 39) (tgt := 52) dX11_points_13 (by rw [J_toInt (by omega)]; omega) (by rw [J_toInt (by omega)]; omega) (by rw [J_toInt (by omega), c_13]; rfl) (by decide) ?_
      refine lv_aload_n SS.1 SS.2.1 dX11_points_52 rfl (lv_at hl 0 rfl) ?_
      refine j_get SS hG hP (8 + 5 * i_2) (v := .ref (q (9 + 5 * i_2))) (C := RX10) (T := TX10) (N := 3) (cw_shape (by omega)) rfl inX10 0 (by decide) (ref := "GridPolygons$Shape") kw_151 rfl rfl dX11_points_53 ?_
      refine j_vRi SS (As := []) (rest := []) (c_X7_onEdge l D q u i_2 (by omega) (80 : Int)  (show 0 ≤ (80 : Int) ∧ (80 : Int) ≤ 80 from (by omega)) (show RB (80 : Int) u i_2 from (show RB 80 u i_2 from CI_s p0 (by omega)))) mf_X7_onEdge kw_533 hG hP hP (ci := 7) (q0 := (9 + 5 * i_2)) rfl (cw_ring (by omega)) rfl rfl hl.1 ⟨⟨Nat.le_of_ble_eq_true rfl, Nat.le_of_ble_eq_true rfl⟩, Nat.le_of_ble_eq_true rfl, Nat.le_refl _, Nat.le_refl _⟩ rfl dX11_points_56 (fun z_56 h_56 => ?_)
      have h_56 : z_56 = rE u i_2 ∧ 0 ≤ z_56 ∧ z_56 ≤ 60000 := h_56
      exact W.iret SS.1 SS.2.1 hr (fun t0 ht hW => ⟨_, rfl, ⟨z_56, rfl, (by first | exact ⟨Or.inl ⟨by omega, rfl⟩, by unfold wRg; omega⟩ | exact ⟨Or.inr ⟨by omega, by rw [show s.toNat = i_2 by omega]; omega⟩, by unfold wRg; omega⟩)⟩, ht⟩) (fun _ h => nomatch h) dX11_points_59 hlk
    · skip
      refine lv_tableIn SS.1 SS.2.1 (off := 47) (tgt := 60) dX11_points_13 (by rw [J_toInt (by omega)]; omega) (by rw [J_toInt (by omega)]; omega) (by rw [J_toInt (by omega), c_13]; rfl) (by decide) ?_
      refine lv_aload_n SS.1 SS.2.1 dX11_points_60 rfl (lv_at hl 0 rfl) ?_
      refine j_get SS hG hP (8 + 5 * i_2) (v := .ref (q (9 + 5 * i_2))) (C := RX10) (T := TX10) (N := 3) (cw_shape (by omega)) rfl inX10 0 (by decide) (ref := "GridPolygons$Shape") kw_151 rfl rfl dX11_points_61 ?_
      refine j_vRi SS (As := []) (rest := []) (c_X7_inside l D q u i_2 (by omega) (80 : Int)  (show 0 ≤ (80 : Int) ∧ (80 : Int) ≤ 80 from (by omega)) (show RB (80 : Int) u i_2 from (show RB 80 u i_2 from CI_s p0 (by omega)))) mf_X7_inside kw_547 hG hP hP (ci := 7) (q0 := (9 + 5 * i_2)) rfl (cw_ring (by omega)) rfl rfl hl.1 ⟨⟨Nat.le_of_ble_eq_true rfl, Nat.le_of_ble_eq_true rfl⟩, Nat.le_of_ble_eq_true rfl, Nat.le_refl _, Nat.le_refl _⟩ rfl dX11_points_64 (fun z_64 h_64 => ?_)
      have h_64 : z_64 = rI u i_2 ∧ -6000000 ≤ z_64 ∧ z_64 ≤ 6000000 := h_64
      exact W.iret SS.1 SS.2.1 hr (fun t0 ht hW => ⟨_, rfl, ⟨z_64, rfl, (by first | exact ⟨Or.inl ⟨by omega, rfl⟩, by unfold wRg; omega⟩ | exact ⟨Or.inr ⟨by omega, by rw [show s.toNat = i_2 by omega]; omega⟩, by unfold wRg; omega⟩)⟩, ht⟩) (fun _ h => nomatch h) dX11_points_67 hlk
    · skip
      refine lv_tableIn SS.1 SS.2.1 (off := 55) (tgt := 68) dX11_points_13 (by rw [J_toInt (by omega)]; omega) (by rw [J_toInt (by omega)]; omega) (by rw [J_toInt (by omega), c_13]; rfl) (by decide) ?_
      refine lv_aload_n SS.1 SS.2.1 dX11_points_68 rfl (lv_at hl 0 rfl) ?_
      refine j_get SS hG hP (8 + 5 * i_2) (v := .ref (q (9 + 5 * i_2))) (C := RX10) (T := TX10) (N := 3) (cw_shape (by omega)) rfl inX10 0 (by decide) (ref := "GridPolygons$Shape") kw_151 rfl rfl dX11_points_69 ?_
      refine j_vRi SS (As := []) (rest := []) (c_X7_all l D q u i_2 (by omega) (80 : Int)  (show 0 ≤ (80 : Int) ∧ (80 : Int) ≤ 80 from (by omega)) (show RB (80 : Int) u i_2 from (show RB 80 u i_2 from CI_s p0 (by omega)))) mf_X7_all kw_553 hG hP hP (ci := 7) (q0 := (9 + 5 * i_2)) rfl (cw_ring (by omega)) rfl rfl hl.1 ⟨⟨Nat.le_of_ble_eq_true rfl, Nat.le_of_ble_eq_true rfl⟩, Nat.le_of_ble_eq_true rfl, Nat.le_refl _, Nat.le_refl _⟩ rfl dX11_points_72 (fun z_72 h_72 => ?_)
      have h_72 : z_72 = rE u i_2 + rI u i_2 ∧ -7000000 ≤ z_72 ∧ z_72 ≤ 7000000 := h_72
      exact W.iret SS.1 SS.2.1 hr (fun t0 ht hW => ⟨_, rfl, ⟨z_72, rfl, (by first | exact ⟨Or.inl ⟨by omega, rfl⟩, by unfold wRg; omega⟩ | exact ⟨Or.inr ⟨by omega, by rw [show s.toNat = i_2 by omega]; omega⟩, by unfold wRg; omega⟩)⟩, ht⟩) (fun _ h => nomatch h) dX11_points_75 hlk
    · skip
      refine lv_tableOut SS.1 SS.2.1 (tgt := 76) dX11_points_13 (by rw [J_toInt (by omega)]; omega) (by decide) ?_
      refine j_iconst SS dX11_points_76 ?_
      exact W.iret SS.1 SS.2.1 hr (fun t0 ht hW => ⟨_, rfl, ⟨(-1), rfl, (by first | exact ⟨Or.inl ⟨by omega, rfl⟩, by unfold wRg; omega⟩ | exact ⟨Or.inr ⟨by omega, by rw [show s.toNat = i_2 by omega]; omega⟩, by unfold wRg; omega⟩)⟩, ht⟩) (fun _ h => nomatch h) dX11_points_77 hlk
  · skip
    refine lv_astore_nN (lv' := [(3, .null), (0, .ref (q 0)), (1, .int (J s)), (2, .int (J what))]) SS.1 SS.2.1 dX11_points_5 rfl hl (by decide) rfl (fun ls hl => ?_)
    refine lv_aload_nN SS.1 SS.2.1 dX11_points_6 rfl (lv_at hl 0 rfl) ?_
    refine lv_ifnonnullN SS.1 SS.2.1 dX11_points_7 ?_
    refine j_iconst SS dX11_points_10 ?_
    exact W.iret SS.1 SS.2.1 hr (fun t0 ht hW => ⟨_, rfl, ⟨(-1), rfl, (by first | exact ⟨Or.inl ⟨by omega, rfl⟩, by unfold wRg; omega⟩ | exact ⟨Or.inr ⟨by omega, by rw [show s.toNat = i_2 by omega]; omega⟩, by unfold wRg; omega⟩)⟩, ht⟩) (fun _ h => nomatch h) dX11_points_11 hlk

set_option maxHeartbeats 4000000 in
set_option maxRecDepth 100000 in
theorem c_X12_points2 (l : Launch) (D : JD) (o : Nat) (q : Nat → Nat) (u : MS) (s : Int) (what : Int) (p0 : IM u) (p1 : -2147483648 ≤ s ∧ s ≤ 2147483647) (p2 : -2147483648 ≤ what ∧ what ≤ 2147483647) : Met l yX12_points (jw yX12_points cX12_points 3 (some .int)) (jr 5 110) (jP [.ref o, .int (J s), .int (J what)] D (fun H => va_P D.1 j_cl (mW D o q u) H)) (jRi (fun z => poM u s what z)) 0 0 (fun _ => False) := by
  refine Met.ofW (cc := cX12_points) (maxL := 3) (ret := (some .int)) (by decide) rfl ?_
  intro pr en st mi args below meth co s₁ B hml hv
  obtain ⟨rfl, hG, hP⟩ := hv
  have hr := B.returns
  have hlk := B.notSynchronized
  have SS : jS pr mi co cX12_points 3 st _ RX12 := ⟨B.exec, B.bytes, hml, findClass_of_methodNamed B.named, fun w hw => atoms_spec (ws := (jw yX12_points cX12_points 3 (some .int))) B.pre w (List.mem_cons_of_mem _ hw)⟩
  have hl := lv_entry ([.ref o, .int (J s), .int (J what)]) (n := 3) (Nat.le_of_ble_eq_true rfl)
  rw [lg_entry_eq]
  generalize (lg_sl ([.ref o, .int (J s), .int (J what)]) ++ List.replicate (3 - (lg_sl ([.ref o, .int (J s), .int (J what)])).length) Slot.unset).toArray = ls at hl ⊢
  have hl : lv_has ls 3 [(0, .ref o), (1, .int (J s)), (2, .int (J what))] := hl
  refine lv_iload_n SS.1 SS.2.1 dX12_points_0 rfl (lv_at hl 1 rfl) ?_
  refine j_sRi SS (As := [.int (J s)]) (rest := []) (c_X12_isShape l D s (show -2147483648 ≤ s ∧ s ≤ 2147483647 from (by omega))) mf_X12_isShape kw_1156 hG trivial rfl hl.1 ⟨⟨Nat.le_of_ble_eq_true rfl, Nat.le_of_ble_eq_true rfl⟩, Nat.le_of_ble_eq_true rfl, Nat.le_refl _, Nat.le_refl _⟩ rfl dX12_points_1 (fun z_1 h_1 => ?_)
  have h_1 : (z_1 = 1 ∧ (0 ≤ s ∧ s ≤ 7)) ∨ (z_1 = 0 ∧ ¬ (0 ≤ s ∧ s ≤ 7)) := h_1
  refine j_if_eq SS (tgt := 16) (x := z_1) dX12_points_4 (by decide) (by omega) (fun c_4 => ?_) (fun c_4 => ?_)
  · skip
    refine j_iconst SS dX12_points_16 ?_
    exact W.iret SS.1 SS.2.1 hr (fun t ht hW => ⟨_, rfl, ⟨(-1), rfl, (by first | exact Or.inl ⟨by omega, rfl⟩ | exact Or.inr ⟨by omega, by omega⟩)⟩, ht⟩) (fun _ h => nomatch h) dX12_points_17 hlk
  · skip
    refine lv_iload_n SS.1 SS.2.1 dX12_points_7 rfl (lv_at hl 2 rfl) ?_
    refine j_iconst SS dX12_points_8 ?_
    refine j_iconst SS dX12_points_9 ?_
    refine j_sRi SS (As := [.int (J what), .int (J 0), .int (J 3)]) (rest := []) (c_X12_in l D what 0 3 (show -2147483648 ≤ what ∧ what ≤ 2147483647 from (by omega)) (show -2147483648 ≤ (0 : Int) ∧ (0 : Int) ≤ 2147483647 from (by omega)) (show -2147483648 ≤ (3 : Int) ∧ (3 : Int) ≤ 2147483647 from (by omega))) mf_X12_in kw_1159 hG trivial rfl hl.1 ⟨⟨Nat.le_of_ble_eq_true rfl, Nat.le_of_ble_eq_true rfl⟩, Nat.le_of_ble_eq_true rfl, Nat.le_refl _, Nat.le_refl _⟩ rfl dX12_points_10 (fun z_10 h_10 => ?_)
    have h_10 : (z_10 = 1 ∧ ((0 : Int) ≤ what ∧ what ≤ (3 : Int))) ∨ (z_10 = 0 ∧ ¬ ((0 : Int) ≤ what ∧ what ≤ (3 : Int))) := h_10
    refine j_if_ne SS (tgt := 18) (x := z_10) dX12_points_13 (by decide) (by omega) (fun c_13 => ?_) (fun c_13 => ?_)
    · skip
      refine lv_iload_n SS.1 SS.2.1 dX12_points_18 rfl (lv_at hl 2 rfl) ?_
      refine j_if_ne SS (tgt := 30) (x := what) dX12_points_19 (by decide) (by omega) (fun c_19 => ?_) (fun c_19 => ?_)
      · skip
        refine lv_iload_n SS.1 SS.2.1 dX12_points_30 rfl (lv_at hl 2 rfl) ?_
        refine j_iconst SS dX12_points_31 ?_
        refine j_icmp_ne SS (tgt := 43) (x := what) (y := 1) dX12_points_32 (by decide) (by omega) (by decide) (fun c_32 => ?_) (fun c_32 => ?_)
        · skip
          refine lv_iload_n SS.1 SS.2.1 dX12_points_43 rfl (lv_at hl 2 rfl) ?_
          refine j_iconst SS dX12_points_44 ?_
          refine j_icmp_ne SS (tgt := 56) (x := what) (y := 2) dX12_points_45 (by decide) (by omega) (by decide) (fun c_45 => ?_) (fun c_45 => ?_)
          · skip
            refine lv_aload_n SS.1 SS.2.1 dX12_points_56 rfl (lv_at hl 0 rfl) ?_
            refine lv_iload_n SS.1 SS.2.1 dX12_points_57 rfl (lv_at hl 1 rfl) ?_
            refine j_vRi SS (As := [.int (J s)]) (rest := []) (c_X12_edgeOf l D o q u s (show 0 ≤ s ∧ s ≤ 7 from (by omega)) (show Sh u s from (p0.1 _ (by omega) (by omega)))) mf_X12_edgeOf kw_1222 hG hP hP (ci := 8) (q0 := 0) rfl rfl rfl rfl hl.1 ⟨⟨Nat.le_of_ble_eq_true rfl, Nat.le_of_ble_eq_true rfl⟩, Nat.le_of_ble_eq_true rfl, Nat.le_refl _, Nat.le_refl _⟩ rfl dX12_points_58 (fun z_58 h_58 => ?_)
            have h_58 : z_58 = mEd u s ∧ 0 ≤ z_58 ∧ z_58 ≤ 2000 := h_58
            refine lv_aload_n SS.1 SS.2.1 dX12_points_61 rfl (lv_at hl 0 rfl) ?_
            refine lv_iload_n SS.1 SS.2.1 dX12_points_62 rfl (lv_at hl 1 rfl) ?_
            refine j_vRi SS (As := [.int (J s)]) (rest := [.int (J z_58)]) (c_X12_insideOf l D o q u s (show 0 ≤ s ∧ s ≤ 7 from (by omega)) (show Sh u s from (p0.1 _ (by omega) (by omega)))) mf_X12_insideOf kw_1236 hG hP hP (ci := 8) (q0 := 0) rfl rfl rfl rfl hl.1 ⟨⟨Nat.le_of_ble_eq_true rfl, Nat.le_of_ble_eq_true rfl⟩, Nat.le_of_ble_eq_true rfl, Nat.le_refl _, Nat.le_refl _⟩ rfl dX12_points_63 (fun z_63 h_63 => ?_)
            have h_63 : z_63 = mIn u s ∧ -100000 ≤ z_63 ∧ z_63 ≤ 100000 := h_63
            refine j_iadd SS (x := z_58) (y := z_63) dX12_points_66 ?_
            exact W.iret SS.1 SS.2.1 hr (fun t ht hW => ⟨_, rfl, ⟨(z_58 + z_63), rfl, (by first | exact Or.inl ⟨by omega, rfl⟩ | exact Or.inr ⟨by omega, by omega⟩)⟩, ht⟩) (fun _ h => nomatch h) dX12_points_67 hlk
          · skip
            refine lv_aload_n SS.1 SS.2.1 dX12_points_48 rfl (lv_at hl 0 rfl) ?_
            refine lv_iload_n SS.1 SS.2.1 dX12_points_49 rfl (lv_at hl 1 rfl) ?_
            refine j_vRi SS (As := [.int (J s)]) (rest := []) (c_X12_insideOf l D o q u s (show 0 ≤ s ∧ s ≤ 7 from (by omega)) (show Sh u s from (p0.1 _ (by omega) (by omega)))) mf_X12_insideOf kw_1236 hG hP hP (ci := 8) (q0 := 0) rfl rfl rfl rfl hl.1 ⟨⟨Nat.le_of_ble_eq_true rfl, Nat.le_of_ble_eq_true rfl⟩, Nat.le_of_ble_eq_true rfl, Nat.le_refl _, Nat.le_refl _⟩ rfl dX12_points_50 (fun z_50 h_50 => ?_)
            have h_50 : z_50 = mIn u s ∧ -100000 ≤ z_50 ∧ z_50 ≤ 100000 := h_50
            refine lv_goto (tgt := 67) SS.1 SS.2.1 dX12_points_53 (by decide) ?_
            exact W.iret SS.1 SS.2.1 hr (fun t ht hW => ⟨_, rfl, ⟨z_50, rfl, (by first | exact Or.inl ⟨by omega, rfl⟩ | exact Or.inr ⟨by omega, by omega⟩)⟩, ht⟩) (fun _ h => nomatch h) dX12_points_67 hlk
        · skip
          refine lv_aload_n SS.1 SS.2.1 dX12_points_35 rfl (lv_at hl 0 rfl) ?_
          refine lv_iload_n SS.1 SS.2.1 dX12_points_36 rfl (lv_at hl 1 rfl) ?_
          refine j_vRi SS (As := [.int (J s)]) (rest := []) (c_X12_edgeOf l D o q u s (show 0 ≤ s ∧ s ≤ 7 from (by omega)) (show Sh u s from (p0.1 _ (by omega) (by omega)))) mf_X12_edgeOf kw_1222 hG hP hP (ci := 8) (q0 := 0) rfl rfl rfl rfl hl.1 ⟨⟨Nat.le_of_ble_eq_true rfl, Nat.le_of_ble_eq_true rfl⟩, Nat.le_of_ble_eq_true rfl, Nat.le_refl _, Nat.le_refl _⟩ rfl dX12_points_37 (fun z_37 h_37 => ?_)
          have h_37 : z_37 = mEd u s ∧ 0 ≤ z_37 ∧ z_37 ≤ 2000 := h_37
          refine lv_goto (tgt := 67) SS.1 SS.2.1 dX12_points_40 (by decide) ?_
          exact W.iret SS.1 SS.2.1 hr (fun t ht hW => ⟨_, rfl, ⟨z_37, rfl, (by first | exact Or.inl ⟨by omega, rfl⟩ | exact Or.inr ⟨by omega, by omega⟩)⟩, ht⟩) (fun _ h => nomatch h) dX12_points_67 hlk
      · skip
        refine lv_aload_n SS.1 SS.2.1 dX12_points_22 rfl (lv_at hl 0 rfl) ?_
        refine lv_iload_n SS.1 SS.2.1 dX12_points_23 rfl (lv_at hl 1 rfl) ?_
        refine j_vRi SS (As := [.int (J s)]) (rest := []) (c_X12_areaOf l D o q u s (show 0 ≤ s ∧ s ≤ 7 from (by omega)) (show Sh u s from (p0.1 _ (by omega) (by omega)))) mf_X12_areaOf kw_1218 hG hP hP (ci := 8) (q0 := 0) rfl rfl rfl rfl hl.1 ⟨⟨Nat.le_of_ble_eq_true rfl, Nat.le_of_ble_eq_true rfl⟩, Nat.le_of_ble_eq_true rfl, Nat.le_refl _, Nat.le_refl _⟩ rfl dX12_points_24 (fun z_24 h_24 => ?_)
        have h_24 : z_24 = mAr u s ∧ -80000 ≤ z_24 ∧ z_24 ≤ 80000 := h_24
        refine lv_goto (tgt := 67) SS.1 SS.2.1 dX12_points_27 (by decide) ?_
        exact W.iret SS.1 SS.2.1 hr (fun t ht hW => ⟨_, rfl, ⟨z_24, rfl, (by first | exact Or.inl ⟨by omega, rfl⟩ | exact Or.inr ⟨by omega, by omega⟩)⟩, ht⟩) (fun _ h => nomatch h) dX12_points_67 hlk
    · skip
      refine j_iconst SS dX12_points_16 ?_
      exact W.iret SS.1 SS.2.1 hr (fun t ht hW => ⟨_, rfl, ⟨(-1), rfl, (by first | exact Or.inl ⟨by omega, rfl⟩ | exact Or.inr ⟨by omega, by omega⟩)⟩, ht⟩) (fun _ h => nomatch h) dX12_points_17 hlk
