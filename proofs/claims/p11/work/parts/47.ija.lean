
set_option maxHeartbeats 4000000 in
set_option maxRecDepth 100000 in
theorem c_X11_cornersN (l : Launch) (D : JD) (q : Nat → Nat) (u : CS) (s : Int) (p0 : CI u) (p1 : -2147483648 ≤ s ∧ s ≤ 2147483647) : Met l yX11_corners (jw yX11_corners cX11_corners 3 (some .int)) (jr 1 21) (jP [.ref (q 0), .int (J s)] D (fun H => va_P D.1 j_cl (cW D q u) H)) (jRi (fun z => crC u s z)) 0 0 (fun _ => False) := by
  refine Met.ofW (cc := cX11_corners) (maxL := 3) (ret := (some .int)) (by decide) rfl ?_
  intro pr en st mi args below meth co s₁ B hml hv
  obtain ⟨rfl, hG, hP⟩ := hv
  have hr := B.returns
  have hlk := B.notSynchronized
  have SS : jS pr mi co cX11_corners 3 st _ RX11 := ⟨B.exec, B.bytes, hml, findClass_of_methodNamed B.named, fun w hw => atoms_spec (ws := (jw yX11_corners cX11_corners 3 (some .int))) B.pre w (List.mem_cons_of_mem _ hw)⟩
  have hl := lv_entry ([.ref (q 0), .int (J s)]) (n := 3) (Nat.le_of_ble_eq_true rfl)
  rw [lg_entry_eq]
  generalize (lg_sl ([.ref (q 0), .int (J s)]) ++ List.replicate (3 - (lg_sl ([.ref (q 0), .int (J s)])).length) Slot.unset).toArray = ls at hl ⊢
  have hl : lv_has ls 3 [(0, .ref (q 0)), (1, .int (J s))] := hl
  refine lv_aload_n SS.1 SS.2.1 dX11_corners_0 rfl (lv_at hl 0 rfl) ?_
  refine lv_iload_n SS.1 SS.2.1 dX11_corners_1 rfl (lv_at hl 1 rfl) ?_
  refine j_vSh SS (As := [.int (J s)]) (rest := []) (c_X11_shapeAt l D q u  s (show -2147483648 ≤ s ∧ s ≤ 2147483647 from (p1))) mf_X11_shapeAt kw_414 hG hP hP (ci := 11) (q0 := 0) rfl rfl rfl rfl hl.1 ⟨⟨Nat.le_of_ble_eq_true rfl, Nat.le_of_ble_eq_true rfl⟩, Nat.le_of_ble_eq_true rfl, Nat.le_refl _, Nat.le_refl _⟩ rfl dX11_corners_2 (fun i_2 hi_2 hz_2 => ?_) (fun hn_2 => ?_)
  · skip
    have hI2 := CI_s p0 (show i_2 < 8 by omega)
    have hI2c := hI2.1
    have hrl2 := rl_s (show i_2 < 8 by omega)
    refine lv_astore_n (lv' := [(2, .ref (q (8 + 5 * i_2))), (0, .ref (q 0)), (1, .int (J s))]) SS.1 SS.2.1 dX11_corners_5 rfl hl (by decide) rfl (fun ls hl => ?_)
    refine lv_aload_n SS.1 SS.2.1 dX11_corners_6 rfl (lv_at hl 0 rfl) ?_
    refine lv_ifnonnull SS.1 SS.2.1 (tgt := 14) dX11_corners_7 (by decide) ?_
    refine lv_aload_n SS.1 SS.2.1 dX11_corners_14 rfl (lv_at hl 0 rfl) ?_
    refine j_get SS hG hP (8 + 5 * i_2) (v := .ref (q (9 + 5 * i_2))) (C := RX10) (T := TX10) (N := 3) (cw_shape (by omega)) rfl inX10 0 (by decide) (ref := "GridPolygons$Shape") kw_151 rfl rfl dX11_corners_15 ?_
    refine j_getS SS hG hP (9 + 5 * i_2) (v := .int (J (u.1.2.2.1 i_2))) (C := RX7) (T := TX7) (N := 3) (cw_ring (by omega)) rfl inX7 2 (by decide) (ref := "GridPolygons$Ring") kw_135 kw_132 rfl dX11_corners_18 ?_
    exact W.iret SS.1 SS.2.1 hr (fun t0 ht hW => ⟨_, rfl, ⟨(u.1.2.2.1 i_2), rfl, (by first | exact Or.inl ⟨by omega, rfl⟩ | exact Or.inr ⟨by omega, by rw [show s.toNat = i_2 by omega]⟩)⟩, ht⟩) (fun _ h => nomatch h) dX11_corners_21 hlk
  · skip
    refine lv_astore_nN (lv' := [(2, .null), (0, .ref (q 0)), (1, .int (J s))]) SS.1 SS.2.1 dX11_corners_5 rfl hl (by decide) rfl (fun ls hl => ?_)
    refine lv_aload_nN SS.1 SS.2.1 dX11_corners_6 rfl (lv_at hl 0 rfl) ?_
    refine lv_ifnonnullN SS.1 SS.2.1 dX11_corners_7 ?_
    refine j_iconst SS dX11_corners_10 ?_
    refine lv_goto (tgt := 21) SS.1 SS.2.1 dX11_corners_11 (by decide) ?_
    exact W.iret SS.1 SS.2.1 hr (fun t0 ht hW => ⟨_, rfl, ⟨(-1), rfl, (by first | exact Or.inl ⟨by omega, rfl⟩ | exact Or.inr ⟨by omega, by rw [show s.toNat = i_2 by omega]⟩)⟩, ht⟩) (fun _ h => nomatch h) dX11_corners_21 hlk

set_option maxHeartbeats 4000000 in
set_option maxRecDepth 100000 in
theorem c_X11_cornerN (l : Launch) (D : JD) (q : Nat → Nat) (u : CS) (s : Int) (i : Int) (what : Int) (p0 : CI u) (p1 : -2147483648 ≤ s ∧ s ≤ 2147483647) (p2 : -2147483648 ≤ i ∧ i ≤ 2147483647) (p3 : -2147483648 ≤ what ∧ what ≤ 2147483647) : Met l yX11_corner (jw yX11_corner cX11_corner 5 (some .int)) (jr 1 21) (jP [.ref (q 0), .int (J s), .int (J i), .int (J what)] D (fun H => va_P D.1 j_cl (cW D q u) H)) (jRi (fun z => coC u s i what z)) 0 0 (fun _ => False) := by
  refine Met.ofW (cc := cX11_corner) (maxL := 5) (ret := (some .int)) (by decide) rfl ?_
  intro pr en st mi args below meth co s₁ B hml hv
  obtain ⟨rfl, hG, hP⟩ := hv
  have hr := B.returns
  have hlk := B.notSynchronized
  have SS : jS pr mi co cX11_corner 5 st _ RX11 := ⟨B.exec, B.bytes, hml, findClass_of_methodNamed B.named, fun w hw => atoms_spec (ws := (jw yX11_corner cX11_corner 5 (some .int))) B.pre w (List.mem_cons_of_mem _ hw)⟩
  have hl := lv_entry ([.ref (q 0), .int (J s), .int (J i), .int (J what)]) (n := 5) (Nat.le_of_ble_eq_true rfl)
  rw [lg_entry_eq]
  generalize (lg_sl ([.ref (q 0), .int (J s), .int (J i), .int (J what)]) ++ List.replicate (5 - (lg_sl ([.ref (q 0), .int (J s), .int (J i), .int (J what)])).length) Slot.unset).toArray = ls at hl ⊢
  have hl : lv_has ls 5 [(0, .ref (q 0)), (1, .int (J s)), (2, .int (J i)), (3, .int (J what))] := hl
  refine lv_aload_n SS.1 SS.2.1 dX11_corner_0 rfl (lv_at hl 0 rfl) ?_
  refine lv_iload_n SS.1 SS.2.1 dX11_corner_1 rfl (lv_at hl 1 rfl) ?_
  refine j_vSh SS (As := [.int (J s)]) (rest := []) (c_X11_shapeAt l D q u  s (show -2147483648 ≤ s ∧ s ≤ 2147483647 from (p1))) mf_X11_shapeAt kw_414 hG hP hP (ci := 11) (q0 := 0) rfl rfl rfl rfl hl.1 ⟨⟨Nat.le_of_ble_eq_true rfl, Nat.le_of_ble_eq_true rfl⟩, Nat.le_of_ble_eq_true rfl, Nat.le_refl _, Nat.le_refl _⟩ rfl dX11_corner_2 (fun i_2 hi_2 hz_2 => ?_) (fun hn_2 => ?_)
  · skip
    have hI2 := CI_s p0 (show i_2 < 8 by omega)
    have hI2c := hI2.1
    have hrl2 := rl_s (show i_2 < 8 by omega)
    refine lv_astore (lv' := [(4, .ref (q (8 + 5 * i_2))), (0, .ref (q 0)), (1, .int (J s)), (2, .int (J i)), (3, .int (J what))]) SS.1 SS.2.1 dX11_corner_5 hl (by decide) rfl (fun ls hl => ?_)
    refine lv_aload SS.1 SS.2.1 dX11_corner_7 (lv_at hl 0 rfl) ?_
    refine lv_ifnull SS.1 SS.2.1 dX11_corner_9 ?_
    refine lv_iload_n SS.1 SS.2.1 dX11_corner_12 rfl (lv_at hl 3 rfl) ?_
    refine j_if_lt SS (tgt := 37) (x := i) dX11_corner_13 (by decide) (by omega) (fun c_13 => ?_) (fun c_13 => ?_)
    · skip
      refine j_ldc SS (-1000000) kw_512 dX11_corner_37 ?_
      exact W.iret SS.1 SS.2.1 hr (fun t0 ht hW => ⟨_, rfl, ⟨(-1000000), rfl, (by first | exact Or.inl ⟨fun q => by have := q.1; omega, rfl⟩ | exact Or.inl ⟨fun q => by have q2 := q.2; rw [show s.toNat = i_2 by omega] at q2; omega, rfl⟩ | exact Or.inr ⟨by rw [show s.toNat = i_2 by omega]; omega, by rw [show s.toNat = i_2 by omega]; first | exact Or.inl ⟨by omega, h_50.1⟩ | exact Or.inr ⟨by omega, h_62.1⟩⟩)⟩, ht⟩) (fun _ h => nomatch h) dX11_corner_39 hlk
    · skip
      refine lv_iload_n SS.1 SS.2.1 dX11_corner_16 rfl (lv_at hl 3 rfl) ?_
      refine lv_aload SS.1 SS.2.1 dX11_corner_17 (lv_at hl 0 rfl) ?_
      refine j_get SS hG hP (8 + 5 * i_2) (v := .ref (q (9 + 5 * i_2))) (C := RX10) (T := TX10) (N := 3) (cw_shape (by omega)) rfl inX10 0 (by decide) (ref := "GridPolygons$Shape") kw_151 rfl rfl dX11_corner_19 ?_
      refine j_getS SS hG hP (9 + 5 * i_2) (v := .int (J (u.1.2.2.1 i_2))) (C := RX7) (T := TX7) (N := 3) (cw_ring (by omega)) rfl inX7 2 (by decide) (ref := "GridPolygons$Ring") kw_135 kw_132 rfl dX11_corner_22 ?_
      refine j_icmp_ge SS (tgt := 37) (x := i) (y := (u.1.2.2.1 i_2)) dX11_corner_25 (by decide) (by omega) (by omega) (fun c_25 => ?_) (fun c_25 => ?_)
      · skip
        refine j_ldc SS (-1000000) kw_512 dX11_corner_37 ?_
        exact W.iret SS.1 SS.2.1 hr (fun t0 ht hW => ⟨_, rfl, ⟨(-1000000), rfl, (by first | exact Or.inl ⟨fun q => by have := q.1; omega, rfl⟩ | exact Or.inl ⟨fun q => by have q2 := q.2; rw [show s.toNat = i_2 by omega] at q2; omega, rfl⟩ | exact Or.inr ⟨by rw [show s.toNat = i_2 by omega]; omega, by rw [show s.toNat = i_2 by omega]; first | exact Or.inl ⟨by omega, h_50.1⟩ | exact Or.inr ⟨by omega, h_62.1⟩⟩)⟩, ht⟩) (fun _ h => nomatch h) dX11_corner_39 hlk
      · skip
        refine lv_iload_n SS.1 SS.2.1 dX11_corner_28 rfl (lv_at hl 4 rfl) ?_
        refine j_if_lt SS (tgt := 37) (x := what) dX11_corner_29 (by decide) (by omega) (fun c_29 => ?_) (fun c_29 => ?_)
        · skip
          refine j_ldc SS (-1000000) kw_512 dX11_corner_37 ?_
          exact W.iret SS.1 SS.2.1 hr (fun t0 ht hW => ⟨_, rfl, ⟨(-1000000), rfl, (by first | exact Or.inl ⟨fun q => by have := q.1; omega, rfl⟩ | exact Or.inl ⟨fun q => by have q2 := q.2; rw [show s.toNat = i_2 by omega] at q2; omega, rfl⟩ | exact Or.inr ⟨by rw [show s.toNat = i_2 by omega]; omega, by rw [show s.toNat = i_2 by omega]; first | exact Or.inl ⟨by omega, h_50.1⟩ | exact Or.inr ⟨by omega, h_62.1⟩⟩)⟩, ht⟩) (fun _ h => nomatch h) dX11_corner_39 hlk
        · skip
          refine lv_iload_n SS.1 SS.2.1 dX11_corner_32 rfl (lv_at hl 4 rfl) ?_
          refine j_iconst SS dX11_corner_33 ?_
          refine j_icmp_le SS (tgt := 40) (x := what) (y := 1) dX11_corner_34 (by decide) (by omega) (by decide) (fun c_34 => ?_) (fun c_34 => ?_)
          · skip
            refine lv_iload_n SS.1 SS.2.1 dX11_corner_40 rfl (lv_at hl 4 rfl) ?_
            refine j_if_ne SS (tgt := 56) (x := what) dX11_corner_41 (by decide) (by omega) (fun c_41 => ?_) (fun c_41 => ?_)
            · skip
              refine lv_aload SS.1 SS.2.1 dX11_corner_56 (lv_at hl 0 rfl) ?_
              refine j_get SS hG hP (8 + 5 * i_2) (v := .ref (q (9 + 5 * i_2))) (C := RX10) (T := TX10) (N := 3) (cw_shape (by omega)) rfl inX10 0 (by decide) (ref := "GridPolygons$Shape") kw_151 rfl rfl dX11_corner_58 ?_
              refine lv_iload_n SS.1 SS.2.1 dX11_corner_61 rfl (lv_at hl 3 rfl) ?_
              refine j_uRi SS (As := [.int (J i)]) (rest := []) (c_X8_y l D q u i_2 (by omega) i (show -2147483648 ≤ i ∧ i ≤ 2147483647 from (p2))) mu_7_y kw_464 hG hP hP (ci := 7) (q0 := (9 + 5 * i_2)) rfl (cw_ring (by omega)) rfl rfl hl.1 ⟨⟨Nat.le_of_ble_eq_true rfl, Nat.le_of_ble_eq_true rfl⟩, Nat.le_of_ble_eq_true rfl, Nat.le_refl _, Nat.le_refl _⟩ rfl dX11_corner_62 (fun z_62 h_62 => ?_)
              have h_62 : z_62 = ry9 u i_2 i ∧ ∀ K : Int, 0 ≤ K → RB K u i_2 → -K ≤ z_62 ∧ z_62 ≤ K := h_62
              have hb_62 := h_62.2 80 (by omega) (show RB 80 u i_2 from CI_s p0 (by omega))
              exact W.iret SS.1 SS.2.1 hr (fun t0 ht hW => ⟨_, rfl, ⟨z_62, rfl, (by first | exact Or.inl ⟨fun q => by have := q.1; omega, rfl⟩ | exact Or.inl ⟨fun q => by have q2 := q.2; rw [show s.toNat = i_2 by omega] at q2; omega, rfl⟩ | exact Or.inr ⟨by rw [show s.toNat = i_2 by omega]; omega, by rw [show s.toNat = i_2 by omega]; first | exact Or.inl ⟨by omega, h_50.1⟩ | exact Or.inr ⟨by omega, h_62.1⟩⟩)⟩, ht⟩) (fun _ h => nomatch h) dX11_corner_65 hlk
            · skip
              refine lv_aload SS.1 SS.2.1 dX11_corner_44 (lv_at hl 0 rfl) ?_
              refine j_get SS hG hP (8 + 5 * i_2) (v := .ref (q (9 + 5 * i_2))) (C := RX10) (T := TX10) (N := 3) (cw_shape (by omega)) rfl inX10 0 (by decide) (ref := "GridPolygons$Shape") kw_151 rfl rfl dX11_corner_46 ?_
              refine lv_iload_n SS.1 SS.2.1 dX11_corner_49 rfl (lv_at hl 3 rfl) ?_
              refine j_uRi SS (As := [.int (J i)]) (rest := []) (c_X8_x l D q u i_2 (by omega) i (show -2147483648 ≤ i ∧ i ≤ 2147483647 from (p2))) mu_7_x kw_463 hG hP hP (ci := 7) (q0 := (9 + 5 * i_2)) rfl (cw_ring (by omega)) rfl rfl hl.1 ⟨⟨Nat.le_of_ble_eq_true rfl, Nat.le_of_ble_eq_true rfl⟩, Nat.le_of_ble_eq_true rfl, Nat.le_refl _, Nat.le_refl _⟩ rfl dX11_corner_50 (fun z_50 h_50 => ?_)
              have h_50 : z_50 = rx u i_2 i ∧ ∀ K : Int, 0 ≤ K → RB K u i_2 → -K ≤ z_50 ∧ z_50 ≤ K := h_50
              have hb_50 := h_50.2 80 (by omega) (show RB 80 u i_2 from CI_s p0 (by omega))
              refine lv_goto (tgt := 65) SS.1 SS.2.1 dX11_corner_53 (by decide) ?_
              exact W.iret SS.1 SS.2.1 hr (fun t0 ht hW => ⟨_, rfl, ⟨z_50, rfl, (by first | exact Or.inl ⟨fun q => by have := q.1; omega, rfl⟩ | exact Or.inl ⟨fun q => by have q2 := q.2; rw [show s.toNat = i_2 by omega] at q2; omega, rfl⟩ | exact Or.inr ⟨by rw [show s.toNat = i_2 by omega]; omega, by rw [show s.toNat = i_2 by omega]; first | exact Or.inl ⟨by omega, h_50.1⟩ | exact Or.inr ⟨by omega, h_62.1⟩⟩)⟩, ht⟩) (fun _ h => nomatch h) dX11_corner_65 hlk
          · skip
            refine j_ldc SS (-1000000) kw_512 dX11_corner_37 ?_
            exact W.iret SS.1 SS.2.1 hr (fun t0 ht hW => ⟨_, rfl, ⟨(-1000000), rfl, (by first | exact Or.inl ⟨fun q => by have := q.1; omega, rfl⟩ | exact Or.inl ⟨fun q => by have q2 := q.2; rw [show s.toNat = i_2 by omega] at q2; omega, rfl⟩ | exact Or.inr ⟨by rw [show s.toNat = i_2 by omega]; omega, by rw [show s.toNat = i_2 by omega]; first | exact Or.inl ⟨by omega, h_50.1⟩ | exact Or.inr ⟨by omega, h_62.1⟩⟩)⟩, ht⟩) (fun _ h => nomatch h) dX11_corner_39 hlk
  · skip
    refine lv_astoreN (lv' := [(4, .null), (0, .ref (q 0)), (1, .int (J s)), (2, .int (J i)), (3, .int (J what))]) SS.1 SS.2.1 dX11_corner_5 hl (by decide) rfl (fun ls hl => ?_)
    refine lv_aloadN SS.1 SS.2.1 dX11_corner_7 (lv_at hl 0 rfl) ?_
    refine lv_ifnullN SS.1 SS.2.1 (tgt := 37) dX11_corner_9 (by decide) ?_
    refine j_ldc SS (-1000000) kw_512 dX11_corner_37 ?_
    exact W.iret SS.1 SS.2.1 hr (fun t0 ht hW => ⟨_, rfl, ⟨(-1000000), rfl, (by first | exact Or.inl ⟨fun q => by have := q.1; omega, rfl⟩ | exact Or.inl ⟨fun q => by have q2 := q.2; rw [show s.toNat = i_2 by omega] at q2; omega, rfl⟩ | exact Or.inr ⟨by rw [show s.toNat = i_2 by omega]; omega, by rw [show s.toNat = i_2 by omega]; first | exact Or.inl ⟨by omega, h_50.1⟩ | exact Or.inr ⟨by omega, h_62.1⟩⟩)⟩, ht⟩) (fun _ h => nomatch h) dX11_corner_39 hlk

set_option maxHeartbeats 4000000 in
set_option maxRecDepth 100000 in
theorem c_X12_corner2 (l : Launch) (D : JD) (o : Nat) (q : Nat → Nat) (u : MS) (s : Int) (i : Int) (what : Int) (p0 : IM u) (p1 : -2147483648 ≤ s ∧ s ≤ 2147483647) (p2 : -2147483648 ≤ i ∧ i ≤ 2147483647) (p3 : -2147483648 ≤ what ∧ what ≤ 2147483647) : Met l yX12_corner (jw yX12_corner cX12_corner 4 (some .int)) (jr 2 42) (jP [.ref o, .int (J s), .int (J i), .int (J what)] D (fun H => va_P D.1 j_cl (mW D o q u) H)) (jRi (fun z => coM u s i what z)) 0 0 (fun _ => False) := by
  refine Met.ofW (cc := cX12_corner) (maxL := 4) (ret := (some .int)) (by decide) rfl ?_
  intro pr en st mi args below meth co s₁ B hml hv
  obtain ⟨rfl, hG, hP⟩ := hv
  have hr := B.returns
  have hlk := B.notSynchronized
  have SS : jS pr mi co cX12_corner 4 st _ RX12 := ⟨B.exec, B.bytes, hml, findClass_of_methodNamed B.named, fun w hw => atoms_spec (ws := (jw yX12_corner cX12_corner 4 (some .int))) B.pre w (List.mem_cons_of_mem _ hw)⟩
  have hl := lv_entry ([.ref o, .int (J s), .int (J i), .int (J what)]) (n := 4) (Nat.le_of_ble_eq_true rfl)
  rw [lg_entry_eq]
  generalize (lg_sl ([.ref o, .int (J s), .int (J i), .int (J what)]) ++ List.replicate (4 - (lg_sl ([.ref o, .int (J s), .int (J i), .int (J what)])).length) Slot.unset).toArray = ls at hl ⊢
  have hl : lv_has ls 4 [(0, .ref o), (1, .int (J s)), (2, .int (J i)), (3, .int (J what))] := hl
  refine lv_iload_n SS.1 SS.2.1 dX12_corner_0 rfl (lv_at hl 1 rfl) ?_
  refine j_sRi SS (As := [.int (J s)]) (rest := []) (c_X12_isShape l D s (show -2147483648 ≤ s ∧ s ≤ 2147483647 from (by omega))) mf_X12_isShape kw_1156 hG trivial rfl hl.1 ⟨⟨Nat.le_of_ble_eq_true rfl, Nat.le_of_ble_eq_true rfl⟩, Nat.le_of_ble_eq_true rfl, Nat.le_refl _, Nat.le_refl _⟩ rfl dX12_corner_1 (fun z_1 h_1 => ?_)
  have h_1 : (z_1 = 1 ∧ (0 ≤ s ∧ s ≤ 7)) ∨ (z_1 = 0 ∧ ¬ (0 ≤ s ∧ s ≤ 7)) := h_1
  refine j_if_eq SS (tgt := 32) (x := z_1) dX12_corner_4 (by decide) (by omega) (fun c_4 => ?_) (fun c_4 => ?_)
  · skip
    refine j_ldc SS (-1000000) kw_1213 dX12_corner_32 ?_
    refine lv_goto (tgt := 56) SS.1 SS.2.1 dX12_corner_34 (by decide) ?_
    exact W.iret SS.1 SS.2.1 hr (fun t ht hW => ⟨_, rfl, ⟨(-1000000), rfl, (by first | exact Or.inl ⟨fun q => by omega, rfl⟩ | exact Or.inr ⟨by omega, Or.inl ⟨by omega, h_44⟩⟩ | exact Or.inr ⟨by omega, Or.inr ⟨by omega, h_53⟩⟩)⟩, ht⟩) (fun _ h => nomatch h) dX12_corner_56 hlk
  · skip
    refine lv_iload_n SS.1 SS.2.1 dX12_corner_7 rfl (lv_at hl 2 rfl) ?_
    refine j_iconst SS dX12_corner_8 ?_
    refine lv_aload_n SS.1 SS.2.1 dX12_corner_9 rfl (lv_at hl 0 rfl) ?_
    refine j_get SS hG hP 0 (v := .ref (q 0)) (C := RX12) (T := TX12) (N := 31) rfl rfl inX12 0 (by decide) (ref := RX12) kw_1058 rfl rfl dX12_corner_10 ?_
    refine lv_iload_n SS.1 SS.2.1 dX12_corner_13 rfl (lv_at hl 1 rfl) ?_
    refine j_iald SS hG hP 1 (n := 8) (f := (u.1 0)) rfl (z := s) (by omega) (by omega) dX12_corner_14 ?_
    have hN_14 := (show Sh u s from p0.1 _ (by omega) (by omega)).1
    refine j_iconst SS dX12_corner_15 ?_
    refine j_isub SS (x := (mN u s)) (y := 1) dX12_corner_16 ?_
    refine j_sRi SS (As := [.int (J i), .int (J 0), .int (J ((mN u s) - 1))]) (rest := []) (c_X12_in l D i 0 ((mN u s) - 1) (show -2147483648 ≤ i ∧ i ≤ 2147483647 from (by omega)) (show -2147483648 ≤ (0 : Int) ∧ (0 : Int) ≤ 2147483647 from (by omega)) (show -2147483648 ≤ ((mN u s) - 1) ∧ ((mN u s) - 1) ≤ 2147483647 from (by omega))) mf_X12_in kw_1159 hG trivial rfl hl.1 ⟨⟨Nat.le_of_ble_eq_true rfl, Nat.le_of_ble_eq_true rfl⟩, Nat.le_of_ble_eq_true rfl, Nat.le_refl _, Nat.le_refl _⟩ rfl dX12_corner_17 (fun z_17 h_17 => ?_)
    have h_17 : (z_17 = 1 ∧ ((0 : Int) ≤ i ∧ i ≤ ((mN u s) - 1))) ∨ (z_17 = 0 ∧ ¬ ((0 : Int) ≤ i ∧ i ≤ ((mN u s) - 1))) := h_17
    refine j_if_eq SS (tgt := 32) (x := z_17) dX12_corner_20 (by decide) (by omega) (fun c_20 => ?_) (fun c_20 => ?_)
    · skip
      refine j_ldc SS (-1000000) kw_1213 dX12_corner_32 ?_
      refine lv_goto (tgt := 56) SS.1 SS.2.1 dX12_corner_34 (by decide) ?_
      exact W.iret SS.1 SS.2.1 hr (fun t ht hW => ⟨_, rfl, ⟨(-1000000), rfl, (by first | exact Or.inl ⟨fun q => by omega, rfl⟩ | exact Or.inr ⟨by omega, Or.inl ⟨by omega, h_44⟩⟩ | exact Or.inr ⟨by omega, Or.inr ⟨by omega, h_53⟩⟩)⟩, ht⟩) (fun _ h => nomatch h) dX12_corner_56 hlk
    · skip
      refine lv_iload_n SS.1 SS.2.1 dX12_corner_23 rfl (lv_at hl 3 rfl) ?_
      refine j_iconst SS dX12_corner_24 ?_
      refine j_iconst SS dX12_corner_25 ?_
      refine j_sRi SS (As := [.int (J what), .int (J 0), .int (J 1)]) (rest := []) (c_X12_in l D what 0 1 (show -2147483648 ≤ what ∧ what ≤ 2147483647 from (by omega)) (show -2147483648 ≤ (0 : Int) ∧ (0 : Int) ≤ 2147483647 from (by omega)) (show -2147483648 ≤ (1 : Int) ∧ (1 : Int) ≤ 2147483647 from (by omega))) mf_X12_in kw_1159 hG trivial rfl hl.1 ⟨⟨Nat.le_of_ble_eq_true rfl, Nat.le_of_ble_eq_true rfl⟩, Nat.le_of_ble_eq_true rfl, Nat.le_refl _, Nat.le_refl _⟩ rfl dX12_corner_26 (fun z_26 h_26 => ?_)
      have h_26 : (z_26 = 1 ∧ ((0 : Int) ≤ what ∧ what ≤ (1 : Int))) ∨ (z_26 = 0 ∧ ¬ ((0 : Int) ≤ what ∧ what ≤ (1 : Int))) := h_26
      refine j_if_ne SS (tgt := 37) (x := z_26) dX12_corner_29 (by decide) (by omega) (fun c_29 => ?_) (fun c_29 => ?_)
      · skip
        refine lv_iload_n SS.1 SS.2.1 dX12_corner_37 rfl (lv_at hl 3 rfl) ?_
        refine j_if_ne SS (tgt := 50) (x := what) dX12_corner_38 (by decide) (by omega) (fun c_38 => ?_) (fun c_38 => ?_)
        · skip
          refine lv_aload_n SS.1 SS.2.1 dX12_corner_50 rfl (lv_at hl 0 rfl) ?_
          refine lv_iload_n SS.1 SS.2.1 dX12_corner_51 rfl (lv_at hl 1 rfl) ?_
          refine lv_iload_n SS.1 SS.2.1 dX12_corner_52 rfl (lv_at hl 2 rfl) ?_
          refine j_vRi SS (As := [.int (J s), .int (J i)]) (rest := []) (c_X12_y l D o q u s i (show 0 ≤ s ∧ s ≤ 7 from (by omega)) (show 0 ≤ i ∧ i ≤ 1000000 from (by omega)) (show 0 < mN u s ∧ mN u s ≤ 24 from (by first | omega | (have hq := (show Sh u s from p0.1 _ (by omega) (by omega)).1; omega)))) mf_X12_y kw_1181 hG hP hP (ci := 8) (q0 := 0) rfl rfl rfl rfl hl.1 ⟨⟨Nat.le_of_ble_eq_true rfl, Nat.le_of_ble_eq_true rfl⟩, Nat.le_of_ble_eq_true rfl, Nat.le_refl _, Nat.le_refl _⟩ rfl dX12_corner_53 (fun z_53 h_53 => ?_)
          have h_53 : z_53 = mY u s i := h_53
          have hb_53 := (show Sh u s from p0.1 _ (by omega) (by omega)).2.1 (by omega) i (by omega)
          exact W.iret SS.1 SS.2.1 hr (fun t ht hW => ⟨_, rfl, ⟨z_53, rfl, (by first | exact Or.inl ⟨fun q => by omega, rfl⟩ | exact Or.inr ⟨by omega, Or.inl ⟨by omega, h_44⟩⟩ | exact Or.inr ⟨by omega, Or.inr ⟨by omega, h_53⟩⟩)⟩, ht⟩) (fun _ h => nomatch h) dX12_corner_56 hlk
        · skip
          refine lv_aload_n SS.1 SS.2.1 dX12_corner_41 rfl (lv_at hl 0 rfl) ?_
          refine lv_iload_n SS.1 SS.2.1 dX12_corner_42 rfl (lv_at hl 1 rfl) ?_
          refine lv_iload_n SS.1 SS.2.1 dX12_corner_43 rfl (lv_at hl 2 rfl) ?_
          refine j_vRi SS (As := [.int (J s), .int (J i)]) (rest := []) (c_X12_x l D o q u s i (show 0 ≤ s ∧ s ≤ 7 from (by omega)) (show 0 ≤ i ∧ i ≤ 1000000 from (by omega)) (show 0 < mN u s ∧ mN u s ≤ 24 from (by first | omega | (have hq := (show Sh u s from p0.1 _ (by omega) (by omega)).1; omega)))) mf_X12_x kw_1177 hG hP hP (ci := 8) (q0 := 0) rfl rfl rfl rfl hl.1 ⟨⟨Nat.le_of_ble_eq_true rfl, Nat.le_of_ble_eq_true rfl⟩, Nat.le_of_ble_eq_true rfl, Nat.le_refl _, Nat.le_refl _⟩ rfl dX12_corner_44 (fun z_44 h_44 => ?_)
          have h_44 : z_44 = mX u s i := h_44
          have hb_44 := (show Sh u s from p0.1 _ (by omega) (by omega)).2.1 (by omega) i (by omega)
          refine lv_goto (tgt := 56) SS.1 SS.2.1 dX12_corner_47 (by decide) ?_
          exact W.iret SS.1 SS.2.1 hr (fun t ht hW => ⟨_, rfl, ⟨z_44, rfl, (by first | exact Or.inl ⟨fun q => by omega, rfl⟩ | exact Or.inr ⟨by omega, Or.inl ⟨by omega, h_44⟩⟩ | exact Or.inr ⟨by omega, Or.inr ⟨by omega, h_53⟩⟩)⟩, ht⟩) (fun _ h => nomatch h) dX12_corner_56 hlk
      · skip
        refine j_ldc SS (-1000000) kw_1213 dX12_corner_32 ?_
        refine lv_goto (tgt := 56) SS.1 SS.2.1 dX12_corner_34 (by decide) ?_
        exact W.iret SS.1 SS.2.1 hr (fun t ht hW => ⟨_, rfl, ⟨(-1000000), rfl, (by first | exact Or.inl ⟨fun q => by omega, rfl⟩ | exact Or.inr ⟨by omega, Or.inl ⟨by omega, h_44⟩⟩ | exact Or.inr ⟨by omega, Or.inr ⟨by omega, h_53⟩⟩)⟩, ht⟩) (fun _ h => nomatch h) dX12_corner_56 hlk


def rfC (u : CS) (s z : Int) : Prop := (¬ (0 ≤ s ∧ s ≤ 7) ∧ z = -1) ∨ ((0 ≤ s ∧ s ≤ 7) ∧ ((z = 1 ∧ cRef u s.toNat) ∨ (z = 0 ∧ ¬ (cRef u s.toNat ∧ cHS u s.toNat))))
def rfM (u : MS) (s z : Int) : Prop := (¬ (0 ≤ s ∧ s ≤ 7) ∧ z = -1) ∨ ((0 ≤ s ∧ s ≤ 7) ∧ ((z = 1 ∧ mRef u s) ∨ (z = 0 ∧ ¬ mRef u s)))
def wayP (a b : Int) : Prop := (0 ≤ a ∧ a ≤ 100 ∧ -100 ≤ b ∧ b ≤ 100) ∧ ((a = 0 ∧ b = 1) ∨ (a ≠ 0 ∧ (Int.gcd a b : Int) = 1))
theorem way_g (a b : Int) (h1 : a = 0) (h2 : b = 1) : (Int.gcd a b : Int) = 1 := by rw [h1, h2]; rfl
def spR (u : CS) (r : Nat) (a b z : Int) : Prop := ∃ lo hi : Int, (∀ k : Int, 0 ≤ k → k < u.1.2.2.1 r → lo ≤ a * rx u r k + b * ry9 u r k ∧ a * rx u r k + b * ry9 u r k ≤ hi) ∧ (∃ k : Int, 0 ≤ k ∧ k < u.1.2.2.1 r ∧ a * rx u r k + b * ry9 u r k = lo) ∧ (∃ k : Int, 0 ≤ k ∧ k < u.1.2.2.1 r ∧ a * rx u r k + b * ry9 u r k = hi) ∧ z = hi - lo
def wdM (u : MS) (s a b z : Int) : Prop := ∃ lo hi : Int, (∀ k : Int, 0 ≤ k → k < mN u s → lo ≤ a * mX u s k + b * mY u s k ∧ a * mX u s k + b * mY u s k ≤ hi) ∧ (∃ k : Int, 0 ≤ k ∧ k < mN u s ∧ a * mX u s k + b * mY u s k = lo) ∧ (∃ k : Int, 0 ≤ k ∧ k < mN u s ∧ a * mX u s k + b * mY u s k = hi) ∧ z = hi - lo
def wiC (u : CS) (s a b z : Int) : Prop := (¬ ((0 ≤ s ∧ s ≤ 7) ∧ wayP a b) ∧ z = -1) ∨ (((0 ≤ s ∧ s ≤ 7) ∧ wayP a b) ∧ ((u.1.2.2.1 s.toNat = 0 ∧ z = -2) ∨ (u.1.2.2.1 s.toNat ≠ 0 ∧ spR u s.toNat a b z)))
def wiM (u : MS) (s a b z : Int) : Prop := (¬ ((0 ≤ s ∧ s ≤ 7) ∧ wayP a b) ∧ z = -1) ∨ (((0 ≤ s ∧ s ≤ 7) ∧ wayP a b) ∧ ((mN u s = 0 ∧ z = -2) ∨ (mN u s ≠ 0 ∧ wdM u s a b z)))
theorem EQS_x {u : CS} {v : MS} (hC : CI u) (h : EQS u v) {s : Int} (hs : 0 ≤ s ∧ s ≤ 7) : u.1.2.2.1 s.toNat = mN v s ∧ ∀ k : Int, 0 ≤ k → k < mN v s → rx u s.toNat k = mX v s k ∧ ry9 u s.toNat k = mY v s k := by
  obtain ⟨q1, q2, _⟩ := h s.toNat (by omega)
  rw [show ((s.toNat : Nat) : Int) = s by omega] at q1 q2
  refine ⟨q1, fun k h0 h1 => ?_⟩
  have hR := CI_40 hC (i := s.toNat) (by omega)
  have k1 := rx_n hR (a := k.toNat) (by omega)
  have k2 := q2 k.toNat (by omega)
  rw [show ((k.toNat : Nat) : Int) = k by omega] at k1 k2
  exact ⟨k1.1.trans k2.1, k1.2.trans k2.2⟩


set_option maxHeartbeats 4000000 in
set_option maxRecDepth 100000 in
theorem c_X11_reflexiveN (l : Launch) (D : JD) (q : Nat → Nat) (u : CS) (s : Int) (p0 : CI u) (p1 : -2147483648 ≤ s ∧ s ≤ 2147483647) : Met l yX11_reflexive (jw yX11_reflexive cX11_reflexive 3 (some .int)) (jr 6 132) (jP [.ref (q 0), .int (J s)] D (fun H => va_P D.1 j_cl (cW D q u) H)) (jRi (fun z => rfC u s z)) 0 0 (fun _ => False) := by
  refine Met.ofW (cc := cX11_reflexive) (maxL := 3) (ret := (some .int)) (by decide) rfl ?_
  intro pr en st mi args below meth co s₁ B hml hv
  obtain ⟨rfl, hG, hP⟩ := hv
  have hr := B.returns
  have hlk := B.notSynchronized
  have SS : jS pr mi co cX11_reflexive 3 st _ RX11 := ⟨B.exec, B.bytes, hml, findClass_of_methodNamed B.named, fun w hw => atoms_spec (ws := (jw yX11_reflexive cX11_reflexive 3 (some .int))) B.pre w (List.mem_cons_of_mem _ hw)⟩
  have hl := lv_entry ([.ref (q 0), .int (J s)]) (n := 3) (Nat.le_of_ble_eq_true rfl)
  rw [lg_entry_eq]
  generalize (lg_sl ([.ref (q 0), .int (J s)]) ++ List.replicate (3 - (lg_sl ([.ref (q 0), .int (J s)])).length) Slot.unset).toArray = ls at hl ⊢
  have hl : lv_has ls 3 [(0, .ref (q 0)), (1, .int (J s))] := hl
  refine lv_aload_n SS.1 SS.2.1 dX11_reflexive_0 rfl (lv_at hl 0 rfl) ?_
  refine lv_iload_n SS.1 SS.2.1 dX11_reflexive_1 rfl (lv_at hl 1 rfl) ?_
  refine j_vSh SS (As := [.int (J s)]) (rest := []) (c_X11_shapeAt l D q u  s (show -2147483648 ≤ s ∧ s ≤ 2147483647 from (p1))) mf_X11_shapeAt kw_414 hG hP hP (ci := 11) (q0 := 0) rfl rfl rfl rfl hl.1 ⟨⟨Nat.le_of_ble_eq_true rfl, Nat.le_of_ble_eq_true rfl⟩, Nat.le_of_ble_eq_true rfl, Nat.le_refl _, Nat.le_refl _⟩ rfl dX11_reflexive_2 (fun i_2 hi_2 hz_2 => ?_) (fun hn_2 => ?_)
  · skip
    have hI2 := CI_s p0 (show i_2 < 8 by omega)
    have hI2c := hI2.1
    have hrl2 := rl_s (show i_2 < 8 by omega)
    refine lv_astore_n (lv' := [(2, .ref (q (8 + 5 * i_2))), (0, .ref (q 0)), (1, .int (J s))]) SS.1 SS.2.1 dX11_reflexive_5 rfl hl (by decide) rfl (fun ls hl => ?_)
    refine lv_aload_n SS.1 SS.2.1 dX11_reflexive_6 rfl (lv_at hl 0 rfl) ?_
    refine lv_ifnonnull SS.1 SS.2.1 (tgt := 12) dX11_reflexive_7 (by decide) ?_
    refine lv_aload_n SS.1 SS.2.1 dX11_reflexive_12 rfl (lv_at hl 0 rfl) ?_
    refine j_get SS hG hP (8 + 5 * i_2) (v := .ref (q (9 + 5 * i_2))) (C := RX10) (T := TX10) (N := 3) (cw_shape (by omega)) rfl inX10 0 (by decide) (ref := "GridPolygons$Shape") kw_151 rfl rfl dX11_reflexive_13 ?_
    refine j_vRi SS (As := []) (rest := []) (c_X7_isReflexive2 l D q u i_2 (by omega) (80 : Int)  (show 0 ≤ (80 : Int) ∧ (80 : Int) ≤ 80 from (by omega)) (show RB (80 : Int) u i_2 from (show RB 80 u i_2 from CI_s p0 (by omega)))) mf_X7_isReflexive kw_818 hG hP hP (ci := 7) (q0 := (9 + 5 * i_2)) rfl (cw_ring (by omega)) rfl rfl hl.1 ⟨⟨Nat.le_of_ble_eq_true rfl, Nat.le_of_ble_eq_true rfl⟩, Nat.le_of_ble_eq_true rfl, Nat.le_refl _, Nat.le_refl _⟩ rfl dX11_reflexive_16 (fun z_16 h_16 => ?_)
    have h_16 : (z_16 = 1 ∧ cRef u i_2) ∨ (z_16 = 0 ∧ ¬ (cRef u i_2 ∧ cHS u i_2)) := h_16
    refine j_if_eq SS (tgt := 26) (x := z_16) dX11_reflexive_19 (by decide) (by omega) (fun c_19 => ?_) (fun c_19 => ?_)
    · skip
      refine j_iconst SS dX11_reflexive_26 ?_
      exact W.iret SS.1 SS.2.1 hr (fun t0 ht hW => ⟨_, rfl, ⟨0, rfl, (by first | exact Or.inl ⟨by omega, rfl⟩ | exact Or.inr ⟨by omega, by rw [show s.toNat = i_2 by omega]; rcases h_16 with q | q <;> first | exact Or.inl ⟨rfl, q.2⟩ | exact Or.inr ⟨rfl, q.2⟩ | (exfalso; omega)⟩)⟩, ht⟩) (fun _ h => nomatch h) dX11_reflexive_27 hlk
    · skip
      refine j_iconst SS dX11_reflexive_22 ?_
      refine lv_goto (tgt := 27) SS.1 SS.2.1 dX11_reflexive_23 (by decide) ?_
      exact W.iret SS.1 SS.2.1 hr (fun t0 ht hW => ⟨_, rfl, ⟨1, rfl, (by first | exact Or.inl ⟨by omega, rfl⟩ | exact Or.inr ⟨by omega, by rw [show s.toNat = i_2 by omega]; rcases h_16 with q | q <;> first | exact Or.inl ⟨rfl, q.2⟩ | exact Or.inr ⟨rfl, q.2⟩ | (exfalso; omega)⟩)⟩, ht⟩) (fun _ h => nomatch h) dX11_reflexive_27 hlk
  · skip
    refine lv_astore_nN (lv' := [(2, .null), (0, .ref (q 0)), (1, .int (J s))]) SS.1 SS.2.1 dX11_reflexive_5 rfl hl (by decide) rfl (fun ls hl => ?_)
    refine lv_aload_nN SS.1 SS.2.1 dX11_reflexive_6 rfl (lv_at hl 0 rfl) ?_
    refine lv_ifnonnullN SS.1 SS.2.1 dX11_reflexive_7 ?_
    refine j_iconst SS dX11_reflexive_10 ?_
    exact W.iret SS.1 SS.2.1 hr (fun t0 ht hW => ⟨_, rfl, ⟨(-1), rfl, (by first | exact Or.inl ⟨by omega, rfl⟩ | exact Or.inr ⟨by omega, by rw [show s.toNat = i_2 by omega]; rcases h_16 with q | q <;> first | exact Or.inl ⟨rfl, q.2⟩ | exact Or.inr ⟨rfl, q.2⟩ | (exfalso; omega)⟩)⟩, ht⟩) (fun _ h => nomatch h) dX11_reflexive_11 hlk

set_option maxHeartbeats 4000000 in
set_option maxRecDepth 100000 in
theorem c_X12_reflexive2 (l : Launch) (D : JD) (o : Nat) (q : Nat → Nat) (u : MS) (s : Int) (p0 : IM u) (p1 : -2147483648 ≤ s ∧ s ≤ 2147483647) : Met l yX12_reflexive (jw yX12_reflexive cX12_reflexive 2 (some .int)) (jr 6 133) (jP [.ref o, .int (J s)] D (fun H => va_P D.1 j_cl (mW D o q u) H)) (jRi (fun z => rfM u s z)) 0 0 (fun _ => False) := by
  refine Met.ofW (cc := cX12_reflexive) (maxL := 2) (ret := (some .int)) (by decide) rfl ?_
  intro pr en st mi args below meth co s₁ B hml hv
  obtain ⟨rfl, hG, hP⟩ := hv
  have hr := B.returns
  have hlk := B.notSynchronized
  have SS : jS pr mi co cX12_reflexive 2 st _ RX12 := ⟨B.exec, B.bytes, hml, findClass_of_methodNamed B.named, fun w hw => atoms_spec (ws := (jw yX12_reflexive cX12_reflexive 2 (some .int))) B.pre w (List.mem_cons_of_mem _ hw)⟩
  have hl := lv_entry ([.ref o, .int (J s)]) (n := 2) (Nat.le_of_ble_eq_true rfl)
  rw [lg_entry_eq]
  generalize (lg_sl ([.ref o, .int (J s)]) ++ List.replicate (2 - (lg_sl ([.ref o, .int (J s)])).length) Slot.unset).toArray = ls at hl ⊢
  have hl : lv_has ls 2 [(0, .ref o), (1, .int (J s))] := hl
  refine lv_iload_n SS.1 SS.2.1 dX12_reflexive_0 rfl (lv_at hl 1 rfl) ?_
  refine j_sRi SS (As := [.int (J s)]) (rest := []) (c_X12_isShape l D s (show -2147483648 ≤ s ∧ s ≤ 2147483647 from (by omega))) mf_X12_isShape kw_1156 hG trivial rfl hl.1 ⟨⟨Nat.le_of_ble_eq_true rfl, Nat.le_of_ble_eq_true rfl⟩, Nat.le_of_ble_eq_true rfl, Nat.le_refl _, Nat.le_refl _⟩ rfl dX12_reflexive_1 (fun z_1 h_1 => ?_)
  have h_1 : (z_1 = 1 ∧ (0 ≤ s ∧ s ≤ 7)) ∨ (z_1 = 0 ∧ ¬ (0 ≤ s ∧ s ≤ 7)) := h_1
  refine j_if_ne SS (tgt := 11) (x := z_1) dX12_reflexive_4 (by decide) (by omega) (fun c_4 => ?_) (fun c_4 => ?_)
  · skip
    refine lv_aload_n SS.1 SS.2.1 dX12_reflexive_11 rfl (lv_at hl 0 rfl) ?_
    refine lv_iload_n SS.1 SS.2.1 dX12_reflexive_12 rfl (lv_at hl 1 rfl) ?_
    refine j_vRi SS (As := [.int (J s)]) (rest := []) (c_X12_isReflexive2 l D o q u s (show 0 ≤ s ∧ s ≤ 7 from (by omega)) (show Sh u s from (p0.1 _ (by omega) (by omega)))) mf_X12_isReflexive kw_1380 hG hP hP (ci := 8) (q0 := 0) rfl rfl rfl rfl hl.1 ⟨⟨Nat.le_of_ble_eq_true rfl, Nat.le_of_ble_eq_true rfl⟩, Nat.le_of_ble_eq_true rfl, Nat.le_refl _, Nat.le_refl _⟩ rfl dX12_reflexive_13 (fun z_13 h_13 => ?_)
    have h_13 : (z_13 = 1 ∧ mRef u s) ∨ (z_13 = 0 ∧ ¬ mRef u s) := h_13
    refine j_if_eq SS (tgt := 23) (x := z_13) dX12_reflexive_16 (by decide) (by omega) (fun c_16 => ?_) (fun c_16 => ?_)
    · skip
      refine j_iconst SS dX12_reflexive_23 ?_
      exact W.iret SS.1 SS.2.1 hr (fun t ht hW => ⟨_, rfl, ⟨0, rfl, (by first | exact Or.inl ⟨by omega, rfl⟩ | exact Or.inr ⟨by omega, by rcases h_13 with q | q <;> first | exact Or.inl ⟨rfl, q.2⟩ | exact Or.inr ⟨rfl, q.2⟩ | (exfalso; omega)⟩)⟩, ht⟩) (fun _ h => nomatch h) dX12_reflexive_24 hlk
    · skip
      refine j_iconst SS dX12_reflexive_19 ?_
      refine lv_goto (tgt := 24) SS.1 SS.2.1 dX12_reflexive_20 (by decide) ?_
      exact W.iret SS.1 SS.2.1 hr (fun t ht hW => ⟨_, rfl, ⟨1, rfl, (by first | exact Or.inl ⟨by omega, rfl⟩ | exact Or.inr ⟨by omega, by rcases h_13 with q | q <;> first | exact Or.inl ⟨rfl, q.2⟩ | exact Or.inr ⟨rfl, q.2⟩ | (exfalso; omega)⟩)⟩, ht⟩) (fun _ h => nomatch h) dX12_reflexive_24 hlk
  · skip
    refine j_iconst SS dX12_reflexive_7 ?_
    refine lv_goto (tgt := 24) SS.1 SS.2.1 dX12_reflexive_8 (by decide) ?_
    exact W.iret SS.1 SS.2.1 hr (fun t ht hW => ⟨_, rfl, ⟨(-1), rfl, (by first | exact Or.inl ⟨by omega, rfl⟩ | exact Or.inr ⟨by omega, by rcases h_13 with q | q <;> first | exact Or.inl ⟨rfl, q.2⟩ | exact Or.inr ⟨rfl, q.2⟩ | (exfalso; omega)⟩)⟩, ht⟩) (fun _ h => nomatch h) dX12_reflexive_24 hlk

set_option maxHeartbeats 4000000 in
set_option maxRecDepth 100000 in
theorem c_X7_across2 (l : Launch) (D : JD) (q : Nat → Nat) (u : CS) (r : Nat) (hr : r ≤ 8) (K : Int) (a : Int) (b : Int) (p0 : 0 ≤ K ∧ K ≤ 80) (p1 : RB K u r) (p2 : -20000 ≤ a ∧ a ≤ 20000) (p3 : -20000 ≤ b ∧ b ≤ 20000) (p4 : 1 ≤ u.1.2.2.1 r) : Met l yX7_across (jw yX7_across cX7_across 7 (some .int)) (jr 1 21) (jP [.ref (q (9 + 5 * r)), .int (J a), .int (J b)] D (fun H => va_P D.1 j_cl (cW D q u) H)) (jRi (fun z => spR u r a b z ∧ -6400000 ≤ z ∧ z ≤ 6400000)) 0 0 (fun _ => False) := by
  refine Met.ofW (cc := cX7_across) (maxL := 7) (ret := (some .int)) (by decide) rfl ?_
  intro pr en st mi args below meth co s₁ B hml hv
  obtain ⟨rfl, hG, hP⟩ := hv
  have hr := B.returns
  have hlk := B.notSynchronized
  have SS : jS pr mi co cX7_across 7 st _ RX7 := ⟨B.exec, B.bytes, hml, findClass_of_methodNamed B.named, fun w hw => atoms_spec (ws := (jw yX7_across cX7_across 7 (some .int))) B.pre w (List.mem_cons_of_mem _ hw)⟩
  have hl := lv_entry ([.ref (q (9 + 5 * r)), .int (J a), .int (J b)]) (n := 7) (Nat.le_of_ble_eq_true rfl)
  rw [lg_entry_eq]
  generalize (lg_sl ([.ref (q (9 + 5 * r)), .int (J a), .int (J b)]) ++ List.replicate (7 - (lg_sl ([.ref (q (9 + 5 * r)), .int (J a), .int (J b)])).length) Slot.unset).toArray = ls at hl ⊢
  have hl : lv_has ls 7 [(0, .ref (q (9 + 5 * r))), (1, .int (J a)), (2, .int (J b))] := hl
  have hc := p1.1
  have hrl := rl_b r
  refine lv_iload_n SS.1 SS.2.1 dX7_across_0 rfl (lv_at hl 1 rfl) ?_
  refine lv_aload_n SS.1 SS.2.1 dX7_across_1 rfl (lv_at hl 0 rfl) ?_
  refine j_iconst SS dX7_across_2 ?_
  refine j_uRi SS (As := [.int (J 0)]) (rest := [.int (J a)]) (c_X8_x l D q u r (by omega) 0 (show -2147483648 ≤ (0 : Int) ∧ (0 : Int) ≤ 2147483647 from (by omega))) mu_7_x kw_501 hG hP hP (ci := 7) (q0 := (9 + 5 * r)) rfl (cw_ring (by omega)) rfl rfl hl.1 ⟨⟨Nat.le_of_ble_eq_true rfl, Nat.le_of_ble_eq_true rfl⟩, Nat.le_of_ble_eq_true rfl, Nat.le_refl _, Nat.le_refl _⟩ rfl dX7_across_3 (fun z_3 h_3 => ?_)
  have h_3 : z_3 = rx u r (0 : Int) ∧ ∀ K : Int, 0 ≤ K → RB K u r → -K ≤ z_3 ∧ z_3 ≤ K := h_3
  have hb_3 := h_3.2 K (by omega) (p1)
  refine j_imul SS (x := a) (y := z_3) dX7_across_6 ?_
  obtain ⟨ax, eax⟩ : ∃ z : Int, z = (a * z_3) := ⟨_, rfl⟩
  rw [← eax]
  refine lv_iload_n SS.1 SS.2.1 dX7_across_7 rfl (lv_at hl 2 rfl) ?_
  refine lv_aload_n SS.1 SS.2.1 dX7_across_8 rfl (lv_at hl 0 rfl) ?_
  refine j_iconst SS dX7_across_9 ?_
  refine j_uRi SS (As := [.int (J 0)]) (rest := [.int (J b), .int (J ax)]) (c_X8_y l D q u r (by omega) 0 (show -2147483648 ≤ (0 : Int) ∧ (0 : Int) ≤ 2147483647 from (by omega))) mu_7_y kw_503 hG hP hP (ci := 7) (q0 := (9 + 5 * r)) rfl (cw_ring (by omega)) rfl rfl hl.1 ⟨⟨Nat.le_of_ble_eq_true rfl, Nat.le_of_ble_eq_true rfl⟩, Nat.le_of_ble_eq_true rfl, Nat.le_refl _, Nat.le_refl _⟩ rfl dX7_across_10 (fun z_10 h_10 => ?_)
  have h_10 : z_10 = ry9 u r (0 : Int) ∧ ∀ K : Int, 0 ≤ K → RB K u r → -K ≤ z_10 ∧ z_10 ≤ K := h_10
  have hb_10 := h_10.2 K (by omega) (p1)
  refine j_imul SS (x := b) (y := z_10) dX7_across_13 ?_
  obtain ⟨ay, eay⟩ : ∃ z : Int, z = (b * z_10) := ⟨_, rfl⟩
  rw [← eay]
  refine j_iadd SS (x := ax) (y := ay) dX7_across_14 ?_
  have m1 := mulb (A := 20000) (B := 80) (a := a) (b := z_3) (by omega) (by omega)
  have m2 := mulb (A := 20000) (B := 80) (a := b) (b := z_10) (by omega) (by omega)
  rw [← eax] at m1
  rw [← eay] at m2
  have e0 : a * rx u r 0 + b * ry9 u r 0 = ax + ay := by rw [eax, eay, h_3.1, h_10.1]
  refine lv_istore_n (lv' := [(3, .int (J (ax + ay))), (0, .ref (q (9 + 5 * r))), (1, .int (J a)), (2, .int (J b))]) SS.1 SS.2.1 dX7_across_15 rfl hl (by decide) rfl (fun ls hl => ?_)
  refine lv_iload_n SS.1 SS.2.1 dX7_across_16 rfl (lv_at hl 0 rfl) ?_
  refine lv_istore (lv' := [(4, .int (J (ax + ay))), (3, .int (J (ax + ay))), (0, .ref (q (9 + 5 * r))), (1, .int (J a)), (2, .int (J b))]) SS.1 SS.2.1 dX7_across_17 hl (by decide) rfl (fun ls hl => ?_)
  refine j_iconst SS dX7_across_19 ?_
  refine lv_istore (lv' := [(5, .int (J 1)), (4, .int (J (ax + ay))), (3, .int (J (ax + ay))), (0, .ref (q (9 + 5 * r))), (1, .int (J a)), (2, .int (J b))]) SS.1 SS.2.1 dX7_across_20 hl (by decide) rfl (fun ls hl => ?_)
  have L_22 : ∀ (nn : Nat) (lo : Int) (hi : Int) (i : Int) (ls : Array Slot) (hl : lv_has ls 7 [(0, .ref (q (9 + 5 * r))), (1, .int (J a)), (2, .int (J b)), (3, .int (J lo)), (4, .int (J hi)), (5, .int (J i))]) (i22_0 : 1 ≤ i ∧ (i ≤ u.1.2.2.1 r ∨ i = 1)) (i22_1 : -3200000 ≤ lo ∧ lo ≤ hi ∧ hi ≤ 3200000) (i22_2 : ∀ k : Int, 0 ≤ k → k < i → lo ≤ (a * rx u r k + b * ry9 u r k) ∧ (a * rx u r k + b * ry9 u r k) ≤ hi) (i22_3 : ∃ k : Int, 0 ≤ k ∧ k < u.1.2.2.1 r ∧ (a * rx u r k + b * ry9 u r k) = lo) (i22_4 : ∃ k : Int, 0 ≤ k ∧ k < u.1.2.2.1 r ∧ (a * rx u r k + b * ry9 u r k) = hi), (u.1.2.2.1 r - i).toNat < nn → W pr l en (headSpec (jw yX7_across cX7_across 7 (some .int)) (jr 1 21)).room st mi (([.ref (q (9 + 5 * r)), .int (J a), .int (J b)] : List Value).toArray) below meth co st.heap [] 0 0 (MQ below (jRi (fun z => spR u r a b z ∧ -6400000 ≤ z ∧ z ≤ 6400000)) (([.ref (q (9 + 5 * r)), .int (J a), .int (J b)] : List Value).toArray) st 0 0 (fun _ => False)) (F0 mi 22 ls []) := by
    intro nn
    induction nn with
    | zero => intros; omega
    | succ nn ih_22 =>
      intro lo hi i ls hl i22_0 i22_1 i22_2 i22_3 i22_4 hm
      refine lv_iload SS.1 SS.2.1 dX7_across_22 (lv_at hl 5 rfl) ?_
      refine lv_aload_n SS.1 SS.2.1 dX7_across_24 rfl (lv_at hl 0 rfl) ?_
      refine j_getS SS hG hP (9 + 5 * r) (v := .int (J (u.1.2.2.1 r))) (C := RX7) (T := TX7) (N := 3) (cw_ring (by omega)) rfl inX7 2 (by decide) (ref := "GridPolygons$Ring") kw_131 kw_132 rfl dX7_across_25 ?_
      refine j_icmp_ge SS (tgt := 72) (x := i) (y := (u.1.2.2.1 r)) dX7_across_28 (by decide) (by omega) (by omega) (fun c_28 => ?_) (fun c_28 => ?_)
      · skip
        refine lv_iload SS.1 SS.2.1 dX7_across_72 (lv_at hl 4 rfl) ?_
        refine lv_iload_n SS.1 SS.2.1 dX7_across_74 rfl (lv_at hl 3 rfl) ?_
        refine j_isub SS (x := hi) (y := lo) dX7_across_75 ?_
        exact W.iret SS.1 SS.2.1 hr (fun t0 ht hW => ⟨_, rfl, ⟨(hi - lo), rfl, (⟨⟨lo, hi, fun k h1 h2 => i22_2 k h1 (by omega), i22_3, i22_4, rfl⟩, by omega, by omega⟩)⟩, ht⟩) (fun _ h => nomatch h) dX7_across_76 hlk
      · skip
        refine lv_iload_n SS.1 SS.2.1 dX7_across_31 rfl (lv_at hl 1 rfl) ?_
        refine lv_aload_n SS.1 SS.2.1 dX7_across_32 rfl (lv_at hl 0 rfl) ?_
        refine lv_iload SS.1 SS.2.1 dX7_across_33 (lv_at hl 5 rfl) ?_
        refine j_uRi SS (As := [.int (J i)]) (rest := [.int (J a)]) (c_X8_x l D q u r (by omega) i (show -2147483648 ≤ i ∧ i ≤ 2147483647 from (by omega))) mu_7_x kw_501 hG hP hP (ci := 7) (q0 := (9 + 5 * r)) rfl (cw_ring (by omega)) rfl rfl hl.1 ⟨⟨Nat.le_of_ble_eq_true rfl, Nat.le_of_ble_eq_true rfl⟩, Nat.le_of_ble_eq_true rfl, Nat.le_refl _, Nat.le_refl _⟩ rfl dX7_across_35 (fun z_35 h_35 => ?_)
        have h_35 : z_35 = rx u r i ∧ ∀ K : Int, 0 ≤ K → RB K u r → -K ≤ z_35 ∧ z_35 ≤ K := h_35
        have hb_35 := h_35.2 K (by omega) (p1)
        refine j_imul SS (x := a) (y := z_35) dX7_across_38 ?_
        obtain ⟨bx, ebx⟩ : ∃ z : Int, z = (a * z_35) := ⟨_, rfl⟩
        rw [← ebx]
        refine lv_iload_n SS.1 SS.2.1 dX7_across_39 rfl (lv_at hl 2 rfl) ?_
        refine lv_aload_n SS.1 SS.2.1 dX7_across_40 rfl (lv_at hl 0 rfl) ?_
        refine lv_iload SS.1 SS.2.1 dX7_across_41 (lv_at hl 5 rfl) ?_
        refine j_uRi SS (As := [.int (J i)]) (rest := [.int (J b), .int (J bx)]) (c_X8_y l D q u r (by omega) i (show -2147483648 ≤ i ∧ i ≤ 2147483647 from (by omega))) mu_7_y kw_503 hG hP hP (ci := 7) (q0 := (9 + 5 * r)) rfl (cw_ring (by omega)) rfl rfl hl.1 ⟨⟨Nat.le_of_ble_eq_true rfl, Nat.le_of_ble_eq_true rfl⟩, Nat.le_of_ble_eq_true rfl, Nat.le_refl _, Nat.le_refl _⟩ rfl dX7_across_43 (fun z_43 h_43 => ?_)
        have h_43 : z_43 = ry9 u r i ∧ ∀ K : Int, 0 ≤ K → RB K u r → -K ≤ z_43 ∧ z_43 ≤ K := h_43
        have hb_43 := h_43.2 K (by omega) (p1)
        refine j_imul SS (x := b) (y := z_43) dX7_across_46 ?_
        obtain ⟨by9, eby9⟩ : ∃ z : Int, z = (b * z_43) := ⟨_, rfl⟩
        rw [← eby9]
        refine j_iadd SS (x := bx) (y := by9) dX7_across_47 ?_
        have m3 := mulb (A := 20000) (B := 80) (a := a) (b := z_35) (by omega) (by omega)
        have m4 := mulb (A := 20000) (B := 80) (a := b) (b := z_43) (by omega) (by omega)
        rw [← ebx] at m3
        rw [← eby9] at m4
        have ei : a * rx u r i + b * ry9 u r i = bx + by9 := by rw [ebx, eby9, h_35.1, h_43.1]
        refine lv_istore (lv' := [(6, .int (J (bx + by9))), (0, .ref (q (9 + 5 * r))), (1, .int (J a)), (2, .int (J b)), (3, .int (J lo)), (4, .int (J hi)), (5, .int (J i))]) SS.1 SS.2.1 dX7_across_48 hl (by decide) rfl (fun ls hl => ?_)
        refine lv_iload_n SS.1 SS.2.1 dX7_across_50 rfl (lv_at hl 4 rfl) ?_
        refine lv_iload SS.1 SS.2.1 dX7_across_51 (lv_at hl 0 rfl) ?_
        refine j_sRi SS (As := [.int (J lo), .int (J (bx + by9))]) (rest := []) (c_J9_min_7cf53 l D  lo (bx + by9) (show -2147483648 ≤ lo ∧ lo ≤ 2147483647 from (by omega)) (show -2147483648 ≤ (bx + by9) ∧ (bx + by9) ≤ 2147483647 from (by omega))) mf_J9_min_7cf53 kw_602 hG trivial rfl hl.1 ⟨⟨Nat.le_of_ble_eq_true rfl, Nat.le_of_ble_eq_true rfl⟩, Nat.le_of_ble_eq_true rfl, Nat.le_refl _, Nat.le_refl _⟩ rfl dX7_across_53 (fun z_53 h_53 => ?_)
        have h_53 : (z_53 = lo ∨ z_53 = (bx + by9)) ∧ z_53 ≤ lo ∧ z_53 ≤ (bx + by9) := h_53
        refine lv_istore_n (lv' := [(3, .int (J z_53)), (6, .int (J (bx + by9))), (0, .ref (q (9 + 5 * r))), (1, .int (J a)), (2, .int (J b)), (4, .int (J hi)), (5, .int (J i))]) SS.1 SS.2.1 dX7_across_56 rfl hl (by decide) rfl (fun ls hl => ?_)
        refine lv_iload SS.1 SS.2.1 dX7_across_57 (lv_at hl 5 rfl) ?_
        refine lv_iload SS.1 SS.2.1 dX7_across_59 (lv_at hl 1 rfl) ?_
        refine j_sRi SS (As := [.int (J hi), .int (J (bx + by9))]) (rest := []) (c_J9_max_7cf53 l D  hi (bx + by9) (show -2147483648 ≤ hi ∧ hi ≤ 2147483647 from (by omega)) (show -2147483648 ≤ (bx + by9) ∧ (bx + by9) ≤ 2147483647 from (by omega))) mf_J9_max_7cf53 kw_593 hG trivial rfl hl.1 ⟨⟨Nat.le_of_ble_eq_true rfl, Nat.le_of_ble_eq_true rfl⟩, Nat.le_of_ble_eq_true rfl, Nat.le_refl _, Nat.le_refl _⟩ rfl dX7_across_61 (fun z_61 h_61 => ?_)
        have h_61 : (z_61 = hi ∨ z_61 = (bx + by9)) ∧ hi ≤ z_61 ∧ (bx + by9) ≤ z_61 := h_61
        refine lv_istore (lv' := [(4, .int (J z_61)), (3, .int (J z_53)), (6, .int (J (bx + by9))), (0, .ref (q (9 + 5 * r))), (1, .int (J a)), (2, .int (J b)), (5, .int (J i))]) SS.1 SS.2.1 dX7_across_64 hl (by decide) rfl (fun ls hl => ?_)
        refine lv_iinc (v := J (i + 1)) (lv' := [(5, .int (J (i + 1))), (4, .int (J z_61)), (3, .int (J z_53)), (6, .int (J (bx + by9))), (0, .ref (q (9 + 5 * r))), (1, .int (J a)), (2, .int (J b))]) SS.1 SS.2.1 dX7_across_66 hl (k := 6) rfl (J_add _ _) (by decide) rfl (fun ls hl => ?_)
        refine lv_goto (tgt := 22) SS.1 SS.2.1 dX7_across_69 (by decide) ?_
        exact ih_22 z_53 z_61 (i + 1) ls (lv_sub hl [4, 5, 6, 2, 1, 0] rfl) (by omega) (by omega) (fun k h1 h2 => by by_cases e : k = i; (rw [e, ei]; omega); have := i22_2 k h1 (by omega); omega) (by rcases h_53.1 with q | q; (obtain ⟨k, k1, k2, k3⟩ := i22_3; exact ⟨k, k1, k2, k3.trans q.symm⟩); exact ⟨i, by omega, by omega, ei.trans q.symm⟩) (by rcases h_61.1 with q | q; (obtain ⟨k, k1, k2, k3⟩ := i22_4; exact ⟨k, k1, k2, k3.trans q.symm⟩); exact ⟨i, by omega, by omega, ei.trans q.symm⟩) (by omega)
  exact L_22 ((u.1.2.2.1 r - (1 : Int)).toNat + 1) (ax + ay) (ax + ay) 1 ls (lv_sub hl [3, 4, 5, 2, 1, 0] rfl) (by omega) (by omega) (fun k h1 h2 => by rw [show k = 0 by omega, e0]; omega) (⟨0, by omega, by omega, e0⟩) (⟨0, by omega, by omega, e0⟩) (Nat.lt_succ_self _)

set_option maxHeartbeats 4000000 in
set_option maxRecDepth 100000 in
theorem c_X11_widthN (l : Launch) (D : JD) (q : Nat → Nat) (u : CS) (s : Int) (a : Int) (b : Int) (p0 : CI u) (p1 : -2147483648 ≤ s ∧ s ≤ 2147483647) (p2 : -2147483648 ≤ a ∧ a ≤ 2147483647) (p3 : -2147483648 ≤ b ∧ b ≤ 2147483647) : Met l yX11_width (jw yX11_width cX11_width 5 (some .int)) (jr 3 66) (jP [.ref (q 0), .int (J s), .int (J a), .int (J b)] D (fun H => va_P D.1 j_cl (cW D q u) H)) (jRi (fun z => wiC u s a b z ∧ wRg z)) 0 0 (fun _ => False) := by
  refine Met.ofW (cc := cX11_width) (maxL := 5) (ret := (some .int)) (by decide) rfl ?_
  intro pr en st mi args below meth co s₁ B hml hv
  obtain ⟨rfl, hG, hP⟩ := hv
  have hr := B.returns
  have hlk := B.notSynchronized
  have SS : jS pr mi co cX11_width 5 st _ RX11 := ⟨B.exec, B.bytes, hml, findClass_of_methodNamed B.named, fun w hw => atoms_spec (ws := (jw yX11_width cX11_width 5 (some .int))) B.pre w (List.mem_cons_of_mem _ hw)⟩
  have hl := lv_entry ([.ref (q 0), .int (J s), .int (J a), .int (J b)]) (n := 5) (Nat.le_of_ble_eq_true rfl)
  rw [lg_entry_eq]
  generalize (lg_sl ([.ref (q 0), .int (J s), .int (J a), .int (J b)]) ++ List.replicate (5 - (lg_sl ([.ref (q 0), .int (J s), .int (J a), .int (J b)])).length) Slot.unset).toArray = ls at hl ⊢
  have hl : lv_has ls 5 [(0, .ref (q 0)), (1, .int (J s)), (2, .int (J a)), (3, .int (J b))] := hl
  refine lv_aload_n SS.1 SS.2.1 dX11_width_0 rfl (lv_at hl 0 rfl) ?_
  refine lv_iload_n SS.1 SS.2.1 dX11_width_1 rfl (lv_at hl 1 rfl) ?_
  refine j_vSh SS (As := [.int (J s)]) (rest := []) (c_X11_shapeAt l D q u  s (show -2147483648 ≤ s ∧ s ≤ 2147483647 from (p1))) mf_X11_shapeAt kw_414 hG hP hP (ci := 11) (q0 := 0) rfl rfl rfl rfl hl.1 ⟨⟨Nat.le_of_ble_eq_true rfl, Nat.le_of_ble_eq_true rfl⟩, Nat.le_of_ble_eq_true rfl, Nat.le_refl _, Nat.le_refl _⟩ rfl dX11_width_2 (fun i_2 hi_2 hz_2 => ?_) (fun hn_2 => ?_)
  · skip
    have hI2 := CI_s p0 (show i_2 < 8 by omega)
    have hI2c := hI2.1
    have hrl2 := rl_s (show i_2 < 8 by omega)
    refine lv_astore (lv' := [(4, .ref (q (8 + 5 * i_2))), (0, .ref (q 0)), (1, .int (J s)), (2, .int (J a)), (3, .int (J b))]) SS.1 SS.2.1 dX11_width_5 hl (by decide) rfl (fun ls hl => ?_)
    refine lv_aload SS.1 SS.2.1 dX11_width_7 (lv_at hl 0 rfl) ?_
    refine lv_ifnull SS.1 SS.2.1 dX11_width_9 ?_
    refine lv_iload_n SS.1 SS.2.1 dX11_width_12 rfl (lv_at hl 3 rfl) ?_
    refine lv_iload_n SS.1 SS.2.1 dX11_width_13 rfl (lv_at hl 4 rfl) ?_
    refine j_sRi SS (As := [.int (J a), .int (J b)]) (rest := []) (c_X11_isWay l D  a b (show -2147483648 ≤ a ∧ a ≤ 2147483647 from (p2)) (show -2147483648 ≤ b ∧ b ≤ 2147483647 from (p3))) mf_X11_isWay kw_627 hG trivial rfl hl.1 ⟨⟨Nat.le_of_ble_eq_true rfl, Nat.le_of_ble_eq_true rfl⟩, Nat.le_of_ble_eq_true rfl, Nat.le_refl _, Nat.le_refl _⟩ rfl dX11_width_14 (fun z_14 h_14 => ?_)
    have h_14 : (z_14 = 1 ∧ (0 ≤ a ∧ a ≤ 100 ∧ -100 ≤ b ∧ b ≤ 100) ∧ ((a = 0 ∧ b = 1) ∨ (a ≠ 0 ∧ (Int.gcd a b : Int) = 1))) ∨ (z_14 = 0 ∧ ¬ ((0 ≤ a ∧ a ≤ 100 ∧ -100 ≤ b ∧ b ≤ 100) ∧ ((a = 0 ∧ b = 1) ∨ (a ≠ 0 ∧ (Int.gcd a b : Int) = 1)))) := h_14
    refine j_if_ne SS (tgt := 22) (x := z_14) dX11_width_17 (by decide) (by omega) (fun c_17 => ?_) (fun c_17 => ?_)
    · skip
      refine lv_aload SS.1 SS.2.1 dX11_width_22 (lv_at hl 0 rfl) ?_
      refine j_get SS hG hP (8 + 5 * i_2) (v := .ref (q (9 + 5 * i_2))) (C := RX10) (T := TX10) (N := 3) (cw_shape (by omega)) rfl inX10 0 (by decide) (ref := "GridPolygons$Shape") kw_151 rfl rfl dX11_width_24 ?_
      refine j_getS SS hG hP (9 + 5 * i_2) (v := .int (J (u.1.2.2.1 i_2))) (C := RX7) (T := TX7) (N := 3) (cw_ring (by omega)) rfl inX7 2 (by decide) (ref := "GridPolygons$Ring") kw_135 kw_132 rfl dX11_width_27 ?_
      refine j_if_ne SS (tgt := 38) (x := (u.1.2.2.1 i_2)) dX11_width_30 (by decide) (by omega) (fun c_30 => ?_) (fun c_30 => ?_)
      · skip
        refine lv_aload SS.1 SS.2.1 dX11_width_38 (lv_at hl 0 rfl) ?_
        refine j_get SS hG hP (8 + 5 * i_2) (v := .ref (q (9 + 5 * i_2))) (C := RX10) (T := TX10) (N := 3) (cw_shape (by omega)) rfl inX10 0 (by decide) (ref := "GridPolygons$Shape") kw_151 rfl rfl dX11_width_40 ?_
        refine lv_iload_n SS.1 SS.2.1 dX11_width_43 rfl (lv_at hl 3 rfl) ?_
        refine lv_iload_n SS.1 SS.2.1 dX11_width_44 rfl (lv_at hl 4 rfl) ?_
        refine j_vRi SS (As := [.int (J a), .int (J b)]) (rest := []) (c_X7_across2 l D q u i_2 (by omega) (80 : Int) a b (show 0 ≤ (80 : Int) ∧ (80 : Int) ≤ 80 from (by omega)) (show RB (80 : Int) u i_2 from (show RB 80 u i_2 from CI_s p0 (by omega))) (show -20000 ≤ a ∧ a ≤ 20000 from (by omega)) (show -20000 ≤ b ∧ b ≤ 20000 from (by omega)) (show 1 ≤ (u.1.2.2.1 i_2) from (by omega))) mf_X7_across kw_631 hG hP hP (ci := 7) (q0 := (9 + 5 * i_2)) rfl (cw_ring (by omega)) rfl rfl hl.1 ⟨⟨Nat.le_of_ble_eq_true rfl, Nat.le_of_ble_eq_true rfl⟩, Nat.le_of_ble_eq_true rfl, Nat.le_refl _, Nat.le_refl _⟩ rfl dX11_width_45 (fun z_45 h_45 => ?_)
        have h_45 : spR u i_2 a b z_45 ∧ -6400000 ≤ z_45 ∧ z_45 ≤ 6400000 := h_45
        exact W.iret SS.1 SS.2.1 hr (fun t0 ht hW => ⟨_, rfl, ⟨z_45, rfl, (by first | exact ⟨Or.inl ⟨fun q => by have q1 := q.1; omega, rfl⟩, by unfold wRg; omega⟩ | exact ⟨Or.inl ⟨fun q => by have q2 := q.2; unfold wayP at q2; omega, rfl⟩, by unfold wRg; omega⟩ | exact ⟨Or.inr ⟨⟨by omega, by unfold wayP; omega⟩, by rw [show s.toNat = i_2 by omega]; first | exact Or.inl ⟨by omega, rfl⟩ | exact Or.inr ⟨by omega, h_45.1⟩⟩, by unfold wRg; omega⟩)⟩, ht⟩) (fun _ h => nomatch h) dX11_width_48 hlk
      · skip
        refine j_bipush SS dX11_width_33 (by decide +kernel) ?_
        refine lv_goto (tgt := 48) SS.1 SS.2.1 dX11_width_35 (by decide) ?_
        exact W.iret SS.1 SS.2.1 hr (fun t0 ht hW => ⟨_, rfl, ⟨(-2), rfl, (by first | exact ⟨Or.inl ⟨fun q => by have q1 := q.1; omega, rfl⟩, by unfold wRg; omega⟩ | exact ⟨Or.inl ⟨fun q => by have q2 := q.2; unfold wayP at q2; omega, rfl⟩, by unfold wRg; omega⟩ | exact ⟨Or.inr ⟨⟨by omega, by unfold wayP; omega⟩, by rw [show s.toNat = i_2 by omega]; first | exact Or.inl ⟨by omega, rfl⟩ | exact Or.inr ⟨by omega, h_45.1⟩⟩, by unfold wRg; omega⟩)⟩, ht⟩) (fun _ h => nomatch h) dX11_width_48 hlk
    · skip
      refine j_iconst SS dX11_width_20 ?_
      exact W.iret SS.1 SS.2.1 hr (fun t0 ht hW => ⟨_, rfl, ⟨(-1), rfl, (by first | exact ⟨Or.inl ⟨fun q => by have q1 := q.1; omega, rfl⟩, by unfold wRg; omega⟩ | exact ⟨Or.inl ⟨fun q => by have q2 := q.2; unfold wayP at q2; omega, rfl⟩, by unfold wRg; omega⟩ | exact ⟨Or.inr ⟨⟨by omega, by unfold wayP; omega⟩, by rw [show s.toNat = i_2 by omega]; first | exact Or.inl ⟨by omega, rfl⟩ | exact Or.inr ⟨by omega, h_45.1⟩⟩, by unfold wRg; omega⟩)⟩, ht⟩) (fun _ h => nomatch h) dX11_width_21 hlk
  · skip
    refine lv_astoreN (lv' := [(4, .null), (0, .ref (q 0)), (1, .int (J s)), (2, .int (J a)), (3, .int (J b))]) SS.1 SS.2.1 dX11_width_5 hl (by decide) rfl (fun ls hl => ?_)
    refine lv_aloadN SS.1 SS.2.1 dX11_width_7 (lv_at hl 0 rfl) ?_
    refine lv_ifnullN SS.1 SS.2.1 (tgt := 20) dX11_width_9 (by decide) ?_
    refine j_iconst SS dX11_width_20 ?_
    exact W.iret SS.1 SS.2.1 hr (fun t0 ht hW => ⟨_, rfl, ⟨(-1), rfl, (by first | exact ⟨Or.inl ⟨fun q => by have q1 := q.1; omega, rfl⟩, by unfold wRg; omega⟩ | exact ⟨Or.inl ⟨fun q => by have q2 := q.2; unfold wayP at q2; omega, rfl⟩, by unfold wRg; omega⟩ | exact ⟨Or.inr ⟨⟨by omega, by unfold wayP; omega⟩, by rw [show s.toNat = i_2 by omega]; first | exact Or.inl ⟨by omega, rfl⟩ | exact Or.inr ⟨by omega, h_45.1⟩⟩, by unfold wRg; omega⟩)⟩, ht⟩) (fun _ h => nomatch h) dX11_width_21 hlk

set_option maxHeartbeats 4000000 in
set_option maxRecDepth 100000 in
theorem c_X12_widthOf2 (l : Launch) (D : JD) (o : Nat) (q : Nat → Nat) (u : MS) (s : Int) (a : Int) (b : Int) (p0 : 0 ≤ s ∧ s ≤ 7) (p1 : Sh u s) (p2 : 0 < mN u s) (p3 : -1000000 ≤ a ∧ a ≤ 1000000) (p4 : -1000000 ≤ b ∧ b ≤ 1000000) : Met l yX12_widthOf (jw yX12_widthOf cX12_widthOf 8 (some .int)) (jr 1 22) (jP [.ref o, .int (J s), .int (J a), .int (J b)] D (fun H => va_P D.1 j_cl (mW D o q u) H)) (jRi (fun z => wdM u s a b z ∧ 0 ≤ z ∧ z ≤ 400000000)) 0 0 (fun _ => False) := by
  refine Met.ofW (cc := cX12_widthOf) (maxL := 8) (ret := (some .int)) (by decide) rfl ?_
  intro pr en st mi args below meth co s₁ B hml hv
  obtain ⟨rfl, hG, hP⟩ := hv
  have hr := B.returns
  have hlk := B.notSynchronized
  have SS : jS pr mi co cX12_widthOf 8 st _ RX12 := ⟨B.exec, B.bytes, hml, findClass_of_methodNamed B.named, fun w hw => atoms_spec (ws := (jw yX12_widthOf cX12_widthOf 8 (some .int))) B.pre w (List.mem_cons_of_mem _ hw)⟩
  have hl := lv_entry ([.ref o, .int (J s), .int (J a), .int (J b)]) (n := 8) (Nat.le_of_ble_eq_true rfl)
  rw [lg_entry_eq]
  generalize (lg_sl ([.ref o, .int (J s), .int (J a), .int (J b)]) ++ List.replicate (8 - (lg_sl ([.ref o, .int (J s), .int (J a), .int (J b)])).length) Slot.unset).toArray = ls at hl ⊢
  have hl : lv_has ls 8 [(0, .ref o), (1, .int (J s)), (2, .int (J a)), (3, .int (J b))] := hl
  have hN := p1.1
  have hC := p1.2.2
  have hb0 := p1.2.1 (by omega) 0 (by omega)
  have m1 := mulb (A := 1000000) (B := 40) p3 hb0.1
  have m2 := mulb (A := 1000000) (B := 40) p4 hb0.2
  refine lv_iload_n SS.1 SS.2.1 dX12_widthOf_0 rfl (lv_at hl 2 rfl) ?_
  refine lv_aload_n SS.1 SS.2.1 dX12_widthOf_1 rfl (lv_at hl 0 rfl) ?_
  refine lv_iload_n SS.1 SS.2.1 dX12_widthOf_2 rfl (lv_at hl 1 rfl) ?_
  refine j_iconst SS dX12_widthOf_3 ?_
  refine j_vRi SS (As := [.int (J s), .int (J 0)]) (rest := [.int (J a)]) (c_X12_x l D o q u s 0 (show 0 ≤ s ∧ s ≤ 7 from (by omega)) (show 0 ≤ (0 : Int) ∧ (0 : Int) ≤ 1000000 from (by omega)) (show 0 < mN u s ∧ mN u s ≤ 24 from (by first | omega | (have hq := (show Sh u s from p1).1; omega)))) mf_X12_x kw_1177 hG hP hP (ci := 8) (q0 := 0) rfl rfl rfl rfl hl.1 ⟨⟨Nat.le_of_ble_eq_true rfl, Nat.le_of_ble_eq_true rfl⟩, Nat.le_of_ble_eq_true rfl, Nat.le_refl _, Nat.le_refl _⟩ rfl dX12_widthOf_4 (fun z_4 h_4 => ?_)
  have h_4 : z_4 = mX u s (0 : Int) := h_4
  have hb_4 := (show Sh u s from p1).2.1 (by omega) (0 : Int) (by omega)
  refine j_imul SS (x := a) (y := z_4) dX12_widthOf_7 ?_
  obtain ⟨v5a, ev5a⟩ : ∃ z : Int, z = (a * z_4) := ⟨_, rfl⟩
  rw [← ev5a]
  refine lv_iload_n SS.1 SS.2.1 dX12_widthOf_8 rfl (lv_at hl 3 rfl) ?_
  refine lv_aload_n SS.1 SS.2.1 dX12_widthOf_9 rfl (lv_at hl 0 rfl) ?_
  refine lv_iload_n SS.1 SS.2.1 dX12_widthOf_10 rfl (lv_at hl 1 rfl) ?_
  refine j_iconst SS dX12_widthOf_11 ?_
  refine j_vRi SS (As := [.int (J s), .int (J 0)]) (rest := [.int (J b), .int (J v5a)]) (c_X12_y l D o q u s 0 (show 0 ≤ s ∧ s ≤ 7 from (by omega)) (show 0 ≤ (0 : Int) ∧ (0 : Int) ≤ 1000000 from (by omega)) (show 0 < mN u s ∧ mN u s ≤ 24 from (by first | omega | (have hq := (show Sh u s from p1).1; omega)))) mf_X12_y kw_1181 hG hP hP (ci := 8) (q0 := 0) rfl rfl rfl rfl hl.1 ⟨⟨Nat.le_of_ble_eq_true rfl, Nat.le_of_ble_eq_true rfl⟩, Nat.le_of_ble_eq_true rfl, Nat.le_refl _, Nat.le_refl _⟩ rfl dX12_widthOf_12 (fun z_12 h_12 => ?_)
  have h_12 : z_12 = mY u s (0 : Int) := h_12
  have hb_12 := (show Sh u s from p1).2.1 (by omega) (0 : Int) (by omega)
  refine j_imul SS (x := b) (y := z_12) dX12_widthOf_15 ?_
  obtain ⟨v5b, ev5b⟩ : ∃ z : Int, z = (b * z_12) := ⟨_, rfl⟩
  rw [← ev5b]
  refine j_iadd SS (x := v5a) (y := v5b) dX12_widthOf_16 ?_
  obtain ⟨v4, ev4⟩ : ∃ z : Int, z = (v5a + v5b) := ⟨_, rfl⟩
  rw [← ev4]
  rw [h_4] at ev5a
  rw [h_12] at ev5b
  refine lv_istore (lv' := [(4, .int (J v4)), (0, .ref o), (1, .int (J s)), (2, .int (J a)), (3, .int (J b))]) SS.1 SS.2.1 dX12_widthOf_17 hl (by decide) rfl (fun ls hl => ?_)
  refine lv_iload SS.1 SS.2.1 dX12_widthOf_19 (lv_at hl 0 rfl) ?_
  refine lv_istore (lv' := [(5, .int (J v4)), (4, .int (J v4)), (0, .ref o), (1, .int (J s)), (2, .int (J a)), (3, .int (J b))]) SS.1 SS.2.1 dX12_widthOf_21 hl (by decide) rfl (fun ls hl => ?_)
  refine j_iconst SS dX12_widthOf_23 ?_
  refine lv_istore (lv' := [(6, .int (J 1)), (5, .int (J v4)), (4, .int (J v4)), (0, .ref o), (1, .int (J s)), (2, .int (J a)), (3, .int (J b))]) SS.1 SS.2.1 dX12_widthOf_24 hl (by decide) rfl (fun ls hl => ?_)
  have L_26 : ∀ (nn : Nat) (lo : Int) (hi : Int) (i : Int) (ls : Array Slot) (hl : lv_has ls 8 [(0, .ref o), (1, .int (J s)), (2, .int (J a)), (3, .int (J b)), (4, .int (J lo)), (5, .int (J hi)), (6, .int (J i))]) (i26_0 : 1 ≤ i ∧ i ≤ 100) (i26_1 : -200000000 ≤ lo ∧ lo ≤ 200000000) (i26_2 : -200000000 ≤ hi ∧ hi ≤ 200000000) (i26_3 : lo ≤ hi) (i26_4 : ∀ k : Int, 0 ≤ k → k < i → lo ≤ (a * mX u s k + b * mY u s k) ∧ (a * mX u s k + b * mY u s k) ≤ hi) (i26_5 : ∃ k : Int, 0 ≤ k ∧ k < mN u s ∧ (a * mX u s k + b * mY u s k) = lo) (i26_6 : ∃ k : Int, 0 ≤ k ∧ k < mN u s ∧ (a * mX u s k + b * mY u s k) = hi), ((100 : Int) - i).toNat < nn → W pr l en (headSpec (jw yX12_widthOf cX12_widthOf 8 (some .int)) (jr 1 22)).room st mi (([.ref o, .int (J s), .int (J a), .int (J b)] : List Value).toArray) below meth co st.heap [] 0 0 (MQ below (jRi (fun z => wdM u s a b z ∧ 0 ≤ z ∧ z ≤ 400000000)) (([.ref o, .int (J s), .int (J a), .int (J b)] : List Value).toArray) st 0 0 (fun _ => False)) (F0 mi 26 ls []) := by
    intro nn
    induction nn with
    | zero => intros; omega
    | succ nn ih_26 =>
      intro lo hi i ls hl i26_0 i26_1 i26_2 i26_3 i26_4 i26_5 i26_6 hm
      refine lv_iload SS.1 SS.2.1 dX12_widthOf_26 (lv_at hl 6 rfl) ?_
      refine lv_aload_n SS.1 SS.2.1 dX12_widthOf_28 rfl (lv_at hl 0 rfl) ?_
      refine j_get SS hG hP 0 (v := .ref (q 0)) (C := RX12) (T := TX12) (N := 31) rfl rfl inX12 0 (by decide) (ref := RX12) kw_1058 rfl rfl dX12_widthOf_29 ?_
      refine lv_iload_n SS.1 SS.2.1 dX12_widthOf_32 rfl (lv_at hl 1 rfl) ?_
      refine j_iald SS hG hP 1 (n := 8) (f := (u.1 0)) rfl (z := s) (by omega) (by omega) dX12_widthOf_33 ?_
      have hN_33 := (show Sh u s from p1).1
      refine j_icmp_ge SS (tgt := 96) (x := i) (y := (mN u s)) dX12_widthOf_34 (by decide) (by omega) (by omega) (fun c_34 => ?_) (fun c_34 => ?_)
      · skip
        refine lv_iload SS.1 SS.2.1 dX12_widthOf_96 (lv_at hl 5 rfl) ?_
        refine lv_iload SS.1 SS.2.1 dX12_widthOf_98 (lv_at hl 4 rfl) ?_
        refine j_isub SS (x := hi) (y := lo) dX12_widthOf_100 ?_
        exact W.iret SS.1 SS.2.1 hr (fun t ht hW => ⟨_, rfl, ⟨(hi - lo), rfl, (⟨⟨lo, hi, fun k h1 h2 => i26_4 k h1 (by omega), i26_5, i26_6, rfl⟩, by omega, by omega⟩)⟩, ht⟩) (fun _ h => nomatch h) dX12_widthOf_101 hlk
      · skip
        have hbi := p1.2.1 (by omega) i (by omega)
        have m3 := mulb (A := 1000000) (B := 40) p3 hbi.1
        have m4 := mulb (A := 1000000) (B := 40) p4 hbi.2
        refine lv_iload_n SS.1 SS.2.1 dX12_widthOf_37 rfl (lv_at hl 2 rfl) ?_
        refine lv_aload_n SS.1 SS.2.1 dX12_widthOf_38 rfl (lv_at hl 0 rfl) ?_
        refine lv_iload_n SS.1 SS.2.1 dX12_widthOf_39 rfl (lv_at hl 1 rfl) ?_
        refine lv_iload SS.1 SS.2.1 dX12_widthOf_40 (lv_at hl 6 rfl) ?_
        refine j_vRi SS (As := [.int (J s), .int (J i)]) (rest := [.int (J a)]) (c_X12_x l D o q u s i (show 0 ≤ s ∧ s ≤ 7 from (by omega)) (show 0 ≤ i ∧ i ≤ 1000000 from (by omega)) (show 0 < mN u s ∧ mN u s ≤ 24 from (by first | omega | (have hq := (show Sh u s from p1).1; omega)))) mf_X12_x kw_1177 hG hP hP (ci := 8) (q0 := 0) rfl rfl rfl rfl hl.1 ⟨⟨Nat.le_of_ble_eq_true rfl, Nat.le_of_ble_eq_true rfl⟩, Nat.le_of_ble_eq_true rfl, Nat.le_refl _, Nat.le_refl _⟩ rfl dX12_widthOf_42 (fun z_42 h_42 => ?_)
        have h_42 : z_42 = mX u s i := h_42
        have hb_42 := (show Sh u s from p1).2.1 (by omega) i (by omega)
        refine j_imul SS (x := a) (y := z_42) dX12_widthOf_45 ?_
        obtain ⟨v6a, ev6a⟩ : ∃ z : Int, z = (a * z_42) := ⟨_, rfl⟩
        rw [← ev6a]
        refine lv_iload_n SS.1 SS.2.1 dX12_widthOf_46 rfl (lv_at hl 3 rfl) ?_
        refine lv_aload_n SS.1 SS.2.1 dX12_widthOf_47 rfl (lv_at hl 0 rfl) ?_
        refine lv_iload_n SS.1 SS.2.1 dX12_widthOf_48 rfl (lv_at hl 1 rfl) ?_
        refine lv_iload SS.1 SS.2.1 dX12_widthOf_49 (lv_at hl 6 rfl) ?_
        refine j_vRi SS (As := [.int (J s), .int (J i)]) (rest := [.int (J b), .int (J v6a)]) (c_X12_y l D o q u s i (show 0 ≤ s ∧ s ≤ 7 from (by omega)) (show 0 ≤ i ∧ i ≤ 1000000 from (by omega)) (show 0 < mN u s ∧ mN u s ≤ 24 from (by first | omega | (have hq := (show Sh u s from p1).1; omega)))) mf_X12_y kw_1181 hG hP hP (ci := 8) (q0 := 0) rfl rfl rfl rfl hl.1 ⟨⟨Nat.le_of_ble_eq_true rfl, Nat.le_of_ble_eq_true rfl⟩, Nat.le_of_ble_eq_true rfl, Nat.le_refl _, Nat.le_refl _⟩ rfl dX12_widthOf_51 (fun z_51 h_51 => ?_)
        have h_51 : z_51 = mY u s i := h_51
        have hb_51 := (show Sh u s from p1).2.1 (by omega) i (by omega)
        refine j_imul SS (x := b) (y := z_51) dX12_widthOf_54 ?_
        obtain ⟨v6b, ev6b⟩ : ∃ z : Int, z = (b * z_51) := ⟨_, rfl⟩
        rw [← ev6b]
        refine j_iadd SS (x := v6a) (y := v6b) dX12_widthOf_55 ?_
        obtain ⟨v7, ev7⟩ : ∃ z : Int, z = (v6a + v6b) := ⟨_, rfl⟩
        rw [← ev7]
        rw [h_42] at ev6a
        rw [h_51] at ev6b
        refine lv_istore (lv' := [(7, .int (J v7)), (0, .ref o), (1, .int (J s)), (2, .int (J a)), (3, .int (J b)), (4, .int (J lo)), (5, .int (J hi)), (6, .int (J i))]) SS.1 SS.2.1 dX12_widthOf_56 hl (by decide) rfl (fun ls hl => ?_)
        refine lv_iload SS.1 SS.2.1 dX12_widthOf_58 (lv_at hl 0 rfl) ?_
        refine lv_iload SS.1 SS.2.1 dX12_widthOf_60 (lv_at hl 5 rfl) ?_
        have L_72 : ∀ (c1 : Int) (ls : Array Slot) (hl : lv_has ls 8 [(0, .ref o), (1, .int (J s)), (2, .int (J a)), (3, .int (J b)), (4, .int (J lo)), (5, .int (J hi)), (6, .int (J i)), (7, .int (J v7))]) (i72_0 : c1 ≤ lo ∧ (c1 = lo ∨ c1 = v7)) (i72_1 : c1 ≤ v7), W pr l en (headSpec (jw yX12_widthOf cX12_widthOf 8 (some .int)) (jr 1 22)).room st mi (([.ref o, .int (J s), .int (J a), .int (J b)] : List Value).toArray) below meth co st.heap [] 0 0 (MQ below (jRi (fun z => wdM u s a b z ∧ 0 ≤ z ∧ z ≤ 400000000)) (([.ref o, .int (J s), .int (J a), .int (J b)] : List Value).toArray) st 0 0 (fun _ => False)) (F0 mi 72 ls [.int (J c1)]) := by
          intro c1 ls hl i72_0 i72_1
          refine lv_istore (lv' := [(4, .int (J c1)), (0, .ref o), (1, .int (J s)), (2, .int (J a)), (3, .int (J b)), (5, .int (J hi)), (6, .int (J i)), (7, .int (J v7))]) SS.1 SS.2.1 dX12_widthOf_72 hl (by decide) rfl (fun ls hl => ?_)
          refine lv_iload SS.1 SS.2.1 dX12_widthOf_74 (lv_at hl 7 rfl) ?_
          refine lv_iload SS.1 SS.2.1 dX12_widthOf_76 (lv_at hl 5 rfl) ?_
          have L_88 : ∀ (c2 : Int) (ls : Array Slot) (hl : lv_has ls 8 [(0, .ref o), (1, .int (J s)), (2, .int (J a)), (3, .int (J b)), (4, .int (J c1)), (5, .int (J hi)), (6, .int (J i)), (7, .int (J v7))]) (i88_0 : hi ≤ c2 ∧ (c2 = hi ∨ c2 = v7)) (i88_1 : v7 ≤ c2), W pr l en (headSpec (jw yX12_widthOf cX12_widthOf 8 (some .int)) (jr 1 22)).room st mi (([.ref o, .int (J s), .int (J a), .int (J b)] : List Value).toArray) below meth co st.heap [] 0 0 (MQ below (jRi (fun z => wdM u s a b z ∧ 0 ≤ z ∧ z ≤ 400000000)) (([.ref o, .int (J s), .int (J a), .int (J b)] : List Value).toArray) st 0 0 (fun _ => False)) (F0 mi 88 ls [.int (J c2)]) := by
            intro c2 ls hl i88_0 i88_1
            refine lv_istore (lv' := [(5, .int (J c2)), (0, .ref o), (1, .int (J s)), (2, .int (J a)), (3, .int (J b)), (4, .int (J c1)), (6, .int (J i)), (7, .int (J v7))]) SS.1 SS.2.1 dX12_widthOf_88 hl (by decide) rfl (fun ls hl => ?_)
            refine lv_iinc (v := J (i + 1)) (lv' := [(6, .int (J (i + 1))), (5, .int (J c2)), (0, .ref o), (1, .int (J s)), (2, .int (J a)), (3, .int (J b)), (4, .int (J c1)), (7, .int (J v7))]) SS.1 SS.2.1 dX12_widthOf_90 hl (k := 6) rfl (J_add _ _) (by decide) rfl (fun ls hl => ?_)
            refine lv_goto (tgt := 26) SS.1 SS.2.1 dX12_widthOf_93 (by decide) ?_
            exact ih_26 c1 c2 (i + 1) ls (lv_sub hl [2, 3, 4, 5, 6, 1, 0] rfl) (by omega) (by omega) (by omega) (by omega) (fun k h1 h2 => by first | (rw [show k = 0 by omega, ← ev5a, ← ev5b]; omega) | (by_cases e : k = i; (rw [e, ← ev6a, ← ev6b]; omega); have := i26_4 k h1 (by omega); omega)) (by first | exact ⟨0, by omega, by omega, by rw [← ev5a, ← ev5b]; omega⟩ | (rcases i72_0.2 with q | q; (obtain ⟨k, k1, k2, k3⟩ := i26_5; exact ⟨k, k1, k2, k3.trans q.symm⟩); exact ⟨i, by omega, by omega, by rw [← ev6a, ← ev6b]; omega⟩)) (by first | exact ⟨0, by omega, by omega, by rw [← ev5a, ← ev5b]; omega⟩ | (rcases i88_0.2 with q | q; (obtain ⟨k, k1, k2, k3⟩ := i26_6; exact ⟨k, k1, k2, k3.trans q.symm⟩); exact ⟨i, by omega, by omega, by rw [← ev6a, ← ev6b]; omega⟩)) (by omega)
          refine j_icmp_le SS (tgt := 86) (x := v7) (y := hi) dX12_widthOf_78 (by decide) (by omega) (by omega) (fun c_78 => ?_) (fun c_78 => ?_)
          · skip
            refine lv_iload SS.1 SS.2.1 dX12_widthOf_86 (lv_at hl 5 rfl) ?_
            exact L_88 hi ls (lv_sub hl [1, 2, 3, 4, 0, 5, 6, 7] rfl) (by omega) (by omega)
          · skip
            refine lv_iload SS.1 SS.2.1 dX12_widthOf_81 (lv_at hl 7 rfl) ?_
            refine lv_goto (tgt := 88) SS.1 SS.2.1 dX12_widthOf_83 (by decide) ?_
            exact L_88 v7 ls (lv_sub hl [1, 2, 3, 4, 0, 5, 6, 7] rfl) (by omega) (by omega)
        refine j_icmp_ge SS (tgt := 70) (x := v7) (y := lo) dX12_widthOf_62 (by decide) (by omega) (by omega) (fun c_62 => ?_) (fun c_62 => ?_)
        · skip
          refine lv_iload SS.1 SS.2.1 dX12_widthOf_70 (lv_at hl 5 rfl) ?_
          exact L_72 lo ls (lv_sub hl [1, 2, 3, 4, 5, 6, 7, 0] rfl) (by omega) (by omega)
        · skip
          refine lv_iload SS.1 SS.2.1 dX12_widthOf_65 (lv_at hl 0 rfl) ?_
          refine lv_goto (tgt := 72) SS.1 SS.2.1 dX12_widthOf_67 (by decide) ?_
          exact L_72 v7 ls (lv_sub hl [1, 2, 3, 4, 5, 6, 7, 0] rfl) (by omega) (by omega)
  exact L_26 (((100 : Int) - (1 : Int)).toNat + 1) v4 v4 1 ls (lv_sub hl [3, 4, 5, 6, 2, 1, 0] rfl) (by omega) (by omega) (by omega) (by omega) (fun k h1 h2 => by first | (rw [show k = 0 by omega, ← ev5a, ← ev5b]; omega) | (by_cases e : k = i; (rw [e, ← ev6a, ← ev6b]; omega); have := i26_4 k h1 (by omega); omega)) (by first | exact ⟨0, by omega, by omega, by rw [← ev5a, ← ev5b]; omega⟩ | (rcases i72_0.2 with q | q; (obtain ⟨k, k1, k2, k3⟩ := i26_5; exact ⟨k, k1, k2, k3.trans q.symm⟩); exact ⟨i, by omega, by omega, by rw [← ev6a, ← ev6b]; omega⟩)) (by first | exact ⟨0, by omega, by omega, by rw [← ev5a, ← ev5b]; omega⟩ | (rcases i88_0.2 with q | q; (obtain ⟨k, k1, k2, k3⟩ := i26_6; exact ⟨k, k1, k2, k3.trans q.symm⟩); exact ⟨i, by omega, by omega, by rw [← ev6a, ← ev6b]; omega⟩)) (Nat.lt_succ_self _)

set_option maxHeartbeats 4000000 in
set_option maxRecDepth 100000 in
theorem c_X12_width2 (l : Launch) (D : JD) (o : Nat) (q : Nat → Nat) (u : MS) (s : Int) (a : Int) (b : Int) (p0 : IM u) (p1 : -2147483648 ≤ s ∧ s ≤ 2147483647) (p2 : -2147483648 ≤ a ∧ a ≤ 2147483647) (p3 : -2147483648 ≤ b ∧ b ≤ 2147483647) : Met l yX12_width (jw yX12_width cX12_width 4 (some .int)) (jr 3 65) (jP [.ref o, .int (J s), .int (J a), .int (J b)] D (fun H => va_P D.1 j_cl (mW D o q u) H)) (jRi (fun z => wiM u s a b z)) 0 0 (fun _ => False) := by
  refine Met.ofW (cc := cX12_width) (maxL := 4) (ret := (some .int)) (by decide) rfl ?_
  intro pr en st mi args below meth co s₁ B hml hv
  obtain ⟨rfl, hG, hP⟩ := hv
  have hr := B.returns
  have hlk := B.notSynchronized
  have SS : jS pr mi co cX12_width 4 st _ RX12 := ⟨B.exec, B.bytes, hml, findClass_of_methodNamed B.named, fun w hw => atoms_spec (ws := (jw yX12_width cX12_width 4 (some .int))) B.pre w (List.mem_cons_of_mem _ hw)⟩
  have hl := lv_entry ([.ref o, .int (J s), .int (J a), .int (J b)]) (n := 4) (Nat.le_of_ble_eq_true rfl)
  rw [lg_entry_eq]
  generalize (lg_sl ([.ref o, .int (J s), .int (J a), .int (J b)]) ++ List.replicate (4 - (lg_sl ([.ref o, .int (J s), .int (J a), .int (J b)])).length) Slot.unset).toArray = ls at hl ⊢
  have hl : lv_has ls 4 [(0, .ref o), (1, .int (J s)), (2, .int (J a)), (3, .int (J b))] := hl
  have hg1 := way_g a b
  refine lv_iload_n SS.1 SS.2.1 dX12_width_0 rfl (lv_at hl 1 rfl) ?_
  refine j_sRi SS (As := [.int (J s)]) (rest := []) (c_X12_isShape l D s (show -2147483648 ≤ s ∧ s ≤ 2147483647 from (by omega))) mf_X12_isShape kw_1156 hG trivial rfl hl.1 ⟨⟨Nat.le_of_ble_eq_true rfl, Nat.le_of_ble_eq_true rfl⟩, Nat.le_of_ble_eq_true rfl, Nat.le_refl _, Nat.le_refl _⟩ rfl dX12_width_1 (fun z_1 h_1 => ?_)
  have h_1 : (z_1 = 1 ∧ (0 ≤ s ∧ s ≤ 7)) ∨ (z_1 = 0 ∧ ¬ (0 ≤ s ∧ s ≤ 7)) := h_1
  refine j_if_eq SS (tgt := 37) (x := z_1) dX12_width_4 (by decide) (by omega) (fun c_4 => ?_) (fun c_4 => ?_)
  · skip
    refine j_iconst SS dX12_width_37 ?_
    exact W.iret SS.1 SS.2.1 hr (fun t ht hW => ⟨_, rfl, ⟨(-1), rfl, (by first | exact Or.inl ⟨fun q => by have q1 := q.1; have q2 := q.2; unfold wayP at q2; omega, rfl⟩ | exact Or.inr ⟨⟨by omega, by unfold wayP; omega⟩, Or.inl ⟨by omega, rfl⟩⟩ | exact Or.inr ⟨⟨by omega, by unfold wayP; omega⟩, Or.inr ⟨by omega, h_57.1⟩⟩)⟩, ht⟩) (fun _ h => nomatch h) dX12_width_38 hlk
  · skip
    refine lv_iload_n SS.1 SS.2.1 dX12_width_7 rfl (lv_at hl 2 rfl) ?_
    refine j_bipush SS dX12_width_8 (by decide +kernel) ?_
    refine j_bipush SS dX12_width_10 (by decide +kernel) ?_
    refine j_sRi SS (As := [.int (J a), .int (J (-100)), .int (J 100)]) (rest := []) (c_X12_in l D a (-100) 100 (show -2147483648 ≤ a ∧ a ≤ 2147483647 from (by omega)) (show -2147483648 ≤ (-100 : Int) ∧ (-100 : Int) ≤ 2147483647 from (by omega)) (show -2147483648 ≤ (100 : Int) ∧ (100 : Int) ≤ 2147483647 from (by omega))) mf_X12_in kw_1159 hG trivial rfl hl.1 ⟨⟨Nat.le_of_ble_eq_true rfl, Nat.le_of_ble_eq_true rfl⟩, Nat.le_of_ble_eq_true rfl, Nat.le_refl _, Nat.le_refl _⟩ rfl dX12_width_12 (fun z_12 h_12 => ?_)
    have h_12 : (z_12 = 1 ∧ ((-100 : Int) ≤ a ∧ a ≤ (100 : Int))) ∨ (z_12 = 0 ∧ ¬ ((-100 : Int) ≤ a ∧ a ≤ (100 : Int))) := h_12
    refine j_if_eq SS (tgt := 37) (x := z_12) dX12_width_15 (by decide) (by omega) (fun c_15 => ?_) (fun c_15 => ?_)
    · skip
      refine j_iconst SS dX12_width_37 ?_
      exact W.iret SS.1 SS.2.1 hr (fun t ht hW => ⟨_, rfl, ⟨(-1), rfl, (by first | exact Or.inl ⟨fun q => by have q1 := q.1; have q2 := q.2; unfold wayP at q2; omega, rfl⟩ | exact Or.inr ⟨⟨by omega, by unfold wayP; omega⟩, Or.inl ⟨by omega, rfl⟩⟩ | exact Or.inr ⟨⟨by omega, by unfold wayP; omega⟩, Or.inr ⟨by omega, h_57.1⟩⟩)⟩, ht⟩) (fun _ h => nomatch h) dX12_width_38 hlk
    · skip
      refine lv_iload_n SS.1 SS.2.1 dX12_width_18 rfl (lv_at hl 3 rfl) ?_
      refine j_bipush SS dX12_width_19 (by decide +kernel) ?_
      refine j_bipush SS dX12_width_21 (by decide +kernel) ?_
      refine j_sRi SS (As := [.int (J b), .int (J (-100)), .int (J 100)]) (rest := []) (c_X12_in l D b (-100) 100 (show -2147483648 ≤ b ∧ b ≤ 2147483647 from (by omega)) (show -2147483648 ≤ (-100 : Int) ∧ (-100 : Int) ≤ 2147483647 from (by omega)) (show -2147483648 ≤ (100 : Int) ∧ (100 : Int) ≤ 2147483647 from (by omega))) mf_X12_in kw_1159 hG trivial rfl hl.1 ⟨⟨Nat.le_of_ble_eq_true rfl, Nat.le_of_ble_eq_true rfl⟩, Nat.le_of_ble_eq_true rfl, Nat.le_refl _, Nat.le_refl _⟩ rfl dX12_width_23 (fun z_23 h_23 => ?_)
      have h_23 : (z_23 = 1 ∧ ((-100 : Int) ≤ b ∧ b ≤ (100 : Int))) ∨ (z_23 = 0 ∧ ¬ ((-100 : Int) ≤ b ∧ b ≤ (100 : Int))) := h_23
      refine j_if_eq SS (tgt := 37) (x := z_23) dX12_width_26 (by decide) (by omega) (fun c_26 => ?_) (fun c_26 => ?_)
      · skip
        refine j_iconst SS dX12_width_37 ?_
        exact W.iret SS.1 SS.2.1 hr (fun t ht hW => ⟨_, rfl, ⟨(-1), rfl, (by first | exact Or.inl ⟨fun q => by have q1 := q.1; have q2 := q.2; unfold wayP at q2; omega, rfl⟩ | exact Or.inr ⟨⟨by omega, by unfold wayP; omega⟩, Or.inl ⟨by omega, rfl⟩⟩ | exact Or.inr ⟨⟨by omega, by unfold wayP; omega⟩, Or.inr ⟨by omega, h_57.1⟩⟩)⟩, ht⟩) (fun _ h => nomatch h) dX12_width_38 hlk
      · skip
        refine lv_iload_n SS.1 SS.2.1 dX12_width_29 rfl (lv_at hl 2 rfl) ?_
        refine lv_iload_n SS.1 SS.2.1 dX12_width_30 rfl (lv_at hl 3 rfl) ?_
        refine j_sRi SS (As := [.int (J a), .int (J b)]) (rest := []) (c_X12_isWay l D a b (show -2147483648 < a ∧ a ≤ 2147483647 from (by omega)) (show -2147483648 < b ∧ b ≤ 2147483647 from (by omega))) mf_X12_isWay kw_1274 hG trivial rfl hl.1 ⟨⟨Nat.le_of_ble_eq_true rfl, Nat.le_of_ble_eq_true rfl⟩, Nat.le_of_ble_eq_true rfl, Nat.le_refl _, Nat.le_refl _⟩ rfl dX12_width_31 (fun z_31 h_31 => ?_)
        have h_31 : (z_31 = 1 ∧ ((Int.gcd a b : Int) = 1 ∧ (0 < a ∨ (a = 0 ∧ b = 1)))) ∨ (z_31 = 0 ∧ ¬ ((Int.gcd a b : Int) = 1 ∧ (0 < a ∨ (a = 0 ∧ b = 1)))) := h_31
        refine j_if_ne SS (tgt := 39) (x := z_31) dX12_width_34 (by decide) (by omega) (fun c_34 => ?_) (fun c_34 => ?_)
        · skip
          refine lv_aload_n SS.1 SS.2.1 dX12_width_39 rfl (lv_at hl 0 rfl) ?_
          refine j_get SS hG hP 0 (v := .ref (q 0)) (C := RX12) (T := TX12) (N := 31) rfl rfl inX12 0 (by decide) (ref := RX12) kw_1058 rfl rfl dX12_width_40 ?_
          refine lv_iload_n SS.1 SS.2.1 dX12_width_43 rfl (lv_at hl 1 rfl) ?_
          refine j_iald SS hG hP 1 (n := 8) (f := (u.1 0)) rfl (z := s) (by omega) (by omega) dX12_width_44 ?_
          have hN_44 := (show Sh u s from p0.1 _ (by omega) (by omega)).1
          refine j_if_ne SS (tgt := 53) (x := (mN u s)) dX12_width_45 (by decide) (by omega) (fun c_45 => ?_) (fun c_45 => ?_)
          · skip
            refine lv_aload_n SS.1 SS.2.1 dX12_width_53 rfl (lv_at hl 0 rfl) ?_
            refine lv_iload_n SS.1 SS.2.1 dX12_width_54 rfl (lv_at hl 1 rfl) ?_
            refine lv_iload_n SS.1 SS.2.1 dX12_width_55 rfl (lv_at hl 2 rfl) ?_
            refine lv_iload_n SS.1 SS.2.1 dX12_width_56 rfl (lv_at hl 3 rfl) ?_
            refine j_vRi SS (As := [.int (J s), .int (J a), .int (J b)]) (rest := []) (c_X12_widthOf2 l D o q u s a b (show 0 ≤ s ∧ s ≤ 7 from (by omega)) (show Sh u s from (p0.1 _ (by omega) (by omega))) (show 0 < mN u s from (by first | omega | (have hq := (show Sh u s from p0.1 _ (by omega) (by omega)).1; omega))) (show -1000000 ≤ a ∧ a ≤ 1000000 from (by omega)) (show -1000000 ≤ b ∧ b ≤ 1000000 from (by omega))) mf_X12_widthOf kw_1277 hG hP hP (ci := 8) (q0 := 0) rfl rfl rfl rfl hl.1 ⟨⟨Nat.le_of_ble_eq_true rfl, Nat.le_of_ble_eq_true rfl⟩, Nat.le_of_ble_eq_true rfl, Nat.le_refl _, Nat.le_refl _⟩ rfl dX12_width_57 (fun z_57 h_57 => ?_)
            have h_57 : wdM u s a b z_57 ∧ 0 ≤ z_57 ∧ z_57 ≤ 400000000 := h_57
            exact W.iret SS.1 SS.2.1 hr (fun t ht hW => ⟨_, rfl, ⟨z_57, rfl, (by first | exact Or.inl ⟨fun q => by have q1 := q.1; have q2 := q.2; unfold wayP at q2; omega, rfl⟩ | exact Or.inr ⟨⟨by omega, by unfold wayP; omega⟩, Or.inl ⟨by omega, rfl⟩⟩ | exact Or.inr ⟨⟨by omega, by unfold wayP; omega⟩, Or.inr ⟨by omega, h_57.1⟩⟩)⟩, ht⟩) (fun _ h => nomatch h) dX12_width_60 hlk
          · skip
            refine j_bipush SS dX12_width_48 (by decide +kernel) ?_
            refine lv_goto (tgt := 60) SS.1 SS.2.1 dX12_width_50 (by decide) ?_
            exact W.iret SS.1 SS.2.1 hr (fun t ht hW => ⟨_, rfl, ⟨(-2), rfl, (by first | exact Or.inl ⟨fun q => by have q1 := q.1; have q2 := q.2; unfold wayP at q2; omega, rfl⟩ | exact Or.inr ⟨⟨by omega, by unfold wayP; omega⟩, Or.inl ⟨by omega, rfl⟩⟩ | exact Or.inr ⟨⟨by omega, by unfold wayP; omega⟩, Or.inr ⟨by omega, h_57.1⟩⟩)⟩, ht⟩) (fun _ h => nomatch h) dX12_width_60 hlk
        · skip
          refine j_iconst SS dX12_width_37 ?_
          exact W.iret SS.1 SS.2.1 hr (fun t ht hW => ⟨_, rfl, ⟨(-1), rfl, (by first | exact Or.inl ⟨fun q => by have q1 := q.1; have q2 := q.2; unfold wayP at q2; omega, rfl⟩ | exact Or.inr ⟨⟨by omega, by unfold wayP; omega⟩, Or.inl ⟨by omega, rfl⟩⟩ | exact Or.inr ⟨⟨by omega, by unfold wayP; omega⟩, Or.inr ⟨by omega, h_57.1⟩⟩)⟩, ht⟩) (fun _ h => nomatch h) dX12_width_38 hlk


def poC (u : CS) (s w z : Int) : Prop := (¬ ((0 ≤ s ∧ s ≤ 7) ∧ 0 ≤ w ∧ w ≤ 3) ∧ z = -1) ∨ (((0 ≤ s ∧ s ≤ 7) ∧ 0 ≤ w ∧ w ≤ 3) ∧ ((w = 0 ∧ z = rA u s.toNat) ∨ (w = 1 ∧ z = rE u s.toNat) ∨ (w = 2 ∧ z = rI u s.toNat) ∨ (w = 3 ∧ z = rE u s.toNat + rI u s.toNat)))
def poM (u : MS) (s w z : Int) : Prop := (¬ ((0 ≤ s ∧ s ≤ 7) ∧ 0 ≤ w ∧ w ≤ 3) ∧ z = -1) ∨ (((0 ≤ s ∧ s ≤ 7) ∧ 0 ≤ w ∧ w ≤ 3) ∧ ((w = 0 ∧ z = mAr u s) ∨ (w = 1 ∧ z = mEd u s) ∨ (w = 2 ∧ z = mIn u s) ∨ (w = 3 ∧ z = mEd u s + mIn u s)))


set_option maxHeartbeats 4000000 in
set_option maxRecDepth 100000 in
theorem c_X11_pointsN (l : Launch) (D : JD) (q : Nat → Nat) (u : CS) (s : Int) (what : Int) (p0 : CI u) (p1 : -2147483648 ≤ s ∧ s ≤ 2147483647) (p2 : -2147483648 ≤ what ∧ what ≤ 2147483647) : Met l yX11_points (jw yX11_points cX11_points 4 (some .int)) (jr 6 128) (jP [.ref (q 0), .int (J s), .int (J what)] D (fun H => va_P D.1 j_cl (cW D q u) H)) (jRi (fun z => poC u s what z ∧ wRg z)) 0 0 (fun _ => False) := by
  refine Met.ofW (cc := cX11_points) (maxL := 4) (ret := (some .int)) (by decide) rfl ?_
  intro pr en st mi args below meth co s₁ B hml hv
  obtain ⟨rfl, hG, hP⟩ := hv
  have hr := B.returns
  have hlk := B.notSynchronized
  have SS : jS pr mi co cX11_points 4 st _ RX11 := ⟨B.exec, B.bytes, hml, findClass_of_methodNamed B.named, fun w hw => atoms_spec (ws := (jw yX11_points cX11_points 4 (some .int))) B.pre w (List.mem_cons_of_mem _ hw)⟩
  have hl := lv_entry ([.ref (q 0), .int (J s), .int (J what)]) (n := 4) (Nat.le_of_ble_eq_true rfl)
  rw [lg_entry_eq]
  generalize (lg_sl ([.ref (q 0), .int (J s), .int (J what)]) ++ List.replicate (4 - (lg_sl ([.ref (q 0), .int (J s), .int (J what)])).length) Slot.unset).toArray = ls at hl ⊢
  have hl : lv_has ls 4 [(0, .ref (q 0)), (1, .int (J s)), (2, .int (J what))] := hl
  refine lv_aload_n SS.1 SS.2.1 dX11_points_0 rfl (lv_at hl 0 rfl) ?_
  refine lv_iload_n SS.1 SS.2.1 dX11_points_1 rfl (lv_at hl 1 rfl) ?_
  refine j_vSh SS (As := [.int (J s)]) (rest := []) (c_X11_shapeAt l D q u  s (show -2147483648 ≤ s ∧ s ≤ 2147483647 from (p1))) mf_X11_shapeAt kw_414 hG hP hP (ci := 11) (q0 := 0) rfl rfl rfl rfl hl.1 ⟨⟨Nat.le_of_ble_eq_true rfl, Nat.le_of_ble_eq_true rfl⟩, Nat.le_of_ble_eq_true rfl, Nat.le_refl _, Nat.le_refl _⟩ rfl dX11_points_2 (fun i_2 hi_2 hz_2 => ?_) (fun hn_2 => ?_)
  · skip
    have hI2 := CI_s p0 (show i_2 < 8 by omega)
    have hI2c := hI2.1
    have hrl2 := rl_s (show i_2 < 8 by omega)
    refine lv_astore_n (lv' := [(3, .ref (q (8 + 5 * i_2))), (0, .ref (q 0)), (1, .int (J s)), (2, .int (J what))]) SS.1 SS.2.1 dX11_points_5 rfl hl (by decide) rfl (fun ls hl => ?_)
    refine lv_aload_n SS.1 SS.2.1 dX11_points_6 rfl (lv_at hl 0 rfl) ?_
    refine lv_ifnonnull SS.1 SS.2.1 (tgt := 12) dX11_points_7 (by decide) ?_
    refine lv_iload_n SS.1 SS.2.1 dX11_points_12 rfl (lv_at hl 3 rfl) ?_
    rcases (show what = 0 ∨ what = 1 ∨ what = 2 ∨ what = 3 ∨ (what < 0 ∨ 3 < what) by omega) with c_13 | c_13 | c_13 | c_13 | c_13
    · skip
      refine lv_tableIn SS.1 SS.2.1 (off := 31) (tgt := 44) dX11_points_13 (by rw [J_toInt (by omega)]; omega) (by rw [J_toInt (by omega)]; omega) (by rw [J_toInt (by omega), c_13]; rfl) (by decide) ?_
      refine lv_aload_n SS.1 SS.2.1 dX11_points_44 rfl (lv_at hl 0 rfl) ?_
      refine j_get SS hG hP (8 + 5 * i_2) (v := .ref (q (9 + 5 * i_2))) (C := RX10) (T := TX10) (N := 3) (cw_shape (by omega)) rfl inX10 0 (by decide) (ref := "GridPolygons$Shape") kw_151 rfl rfl dX11_points_45 ?_
      refine j_vRi SS (As := []) (rest := []) (c_X7_area l D q u i_2 (by omega) (80 : Int)  (show 0 ≤ (80 : Int) ∧ (80 : Int) ≤ 80 from (by omega)) (show RB (80 : Int) u i_2 from (show RB 80 u i_2 from CI_s p0 (by omega)))) mf_X7_area kw_517 hG hP hP (ci := 7) (q0 := (9 + 5 * i_2)) rfl (cw_ring (by omega)) rfl rfl hl.1 ⟨⟨Nat.le_of_ble_eq_true rfl, Nat.le_of_ble_eq_true rfl⟩, Nat.le_of_ble_eq_true rfl, Nat.le_refl _, Nat.le_refl _⟩ rfl dX11_points_48 (fun z_48 h_48 => ?_)
      have h_48 : z_48 = rA u i_2 ∧ -10000000 ≤ z_48 ∧ z_48 ≤ 10000000 := h_48
      exact W.iret SS.1 SS.2.1 hr (fun t0 ht hW => ⟨_, rfl, ⟨z_48, rfl, (by first | exact ⟨Or.inl ⟨by omega, rfl⟩, by unfold wRg; omega⟩ | exact ⟨Or.inr ⟨by omega, by rw [show s.toNat = i_2 by omega]; omega⟩, by unfold wRg; omega⟩)⟩, ht⟩) (fun _ h => nomatch h) dX11_points_51 hlk
    · skip
      refine lv_tableIn SS.1 SS.2.1 (off := 39) (tgt := 52) dX11_points_13 (by rw [J_toInt (by omega)]; omega) (by rw [J_toInt (by omega)]; omega) (by rw [J_toInt (by omega), c_13]; rfl) (by decide) ?_
      refine lv_aload_n SS.1 SS.2.1 dX11_points_52 rfl (lv_at hl 0 rfl) ?_
      refine j_get SS hG hP (8 + 5 * i_2) (v := .ref (q (9 + 5 * i_2))) (C := RX10) (T := TX10) (N := 3) (cw_shape (by omega)) rfl inX10 0 (by decide) (ref := "GridPolygons$Shape") kw_151 rfl rfl dX11_points_53 ?_
      refine j_vRi SS (As := []) (rest := []) (c_X7_onEdge l D q u i_2 (by omega) (80 : Int)  (show 0 ≤ (80 : Int) ∧ (80 : Int) ≤ 80 from (by omega)) (show RB (80 : Int) u i_2 from (show RB 80 u i_2 from CI_s p0 (by omega)))) mf_X7_onEdge kw_533 hG hP hP (ci := 7) (q0 := (9 + 5 * i_2)) rfl (cw_ring (by omega)) rfl rfl hl.1 ⟨⟨Nat.le_of_ble_eq_true rfl, Nat.le_of_ble_eq_true rfl⟩, Nat.le_of_ble_eq_true rfl, Nat.le_refl _, Nat.le_refl _⟩ rfl dX11_points_56 (fun z_56 h_56 => ?_)
      have h_56 : z_56 = rE u i_2 ∧ 0 ≤ z_56 ∧ z_56 ≤ 60000 := h_56
      exact W.iret SS.1 SS.2.1 hr (fun t0 ht hW => ⟨_, rfl, ⟨z_56, rfl, (by first | exact ⟨Or.inl ⟨by omega, rfl⟩, by unfold wRg; omega⟩ | exact ⟨Or.inr ⟨by omega, by rw [show s.toNat = i_2 by omega]; omega⟩, by unfold wRg; omega⟩)⟩, ht⟩) (fun _ h => nomatch h) dX11_points_59 hlk
    · skip
      refine lv_tableIn SS.1 SS.2.1 (off := 47) (tgt := 60) dX11_points_13 (by rw [J_toInt (by omega)]; omega) (by rw [J_toInt (by omega)]; omega) (by rw [J_toInt (by omega), c_13]; rfl) (by decide) ?_
      refine lv_aload_n SS.1 SS.2.1 dX11_points_60 rfl (lv_at hl 0 rfl) ?_
      refine j_get SS hG hP (8 + 5 * i_2) (v := .ref (q (9 + 5 * i_2))) (C := RX10) (T := TX10) (N := 3) (cw_shape (by omega)) rfl inX10 0 (by decide) (ref := "GridPolygons$Shape") kw_151 rfl rfl dX11_points_61 ?_
      refine j_vRi SS (As := []) (rest := []) (c_X7_inside l D q u i_2 (by omega) (80 : Int)  (show 0 ≤ (80 : Int) ∧ (80 : Int) ≤ 80 from (by omega)) (show RB (80 : Int) u i_2 from (show RB 80 u i_2 from CI_s p0 (by omega)))) mf_X7_inside kw_547 hG hP hP (ci := 7) (q0 := (9 + 5 * i_2)) rfl (cw_ring (by omega)) rfl rfl hl.1 ⟨⟨Nat.le_of_ble_eq_true rfl, Nat.le_of_ble_eq_true rfl⟩, Nat.le_of_ble_eq_true rfl, Nat.le_refl _, Nat.le_refl _⟩ rfl dX11_points_64 (fun z_64 h_64 => ?_)
      have h_64 : z_64 = rI u i_2 ∧ -6000000 ≤ z_64 ∧ z_64 ≤ 6000000 := h_64
      exact W.iret SS.1 SS.2.1 hr (fun t0 ht hW => ⟨_, rfl, ⟨z_64, rfl, (by first | exact ⟨Or.inl ⟨by omega, rfl⟩, by unfold wRg; omega⟩ | exact ⟨Or.inr ⟨by omega, by rw [show s.toNat = i_2 by omega]; omega⟩, by unfold wRg; omega⟩)⟩, ht⟩) (fun _ h => nomatch h) dX11_points_67 hlk
    · skip
      refine lv_tableIn SS.1 SS.2.1 (off := 55) (tgt := 68) dX11_points_13 (by rw [J_toInt (by omega)]; omega) (by rw [J_toInt (by omega)]; omega) (by rw [J_toInt (by omega), c_13]; rfl) (by decide) ?_
      refine lv_aload_n SS.1 SS.2.1 dX11_points_68 rfl (lv_at hl 0 rfl) ?_
      refine j_get SS hG hP (8 + 5 * i_2) (v := .ref (q (9 + 5 * i_2))) (C := RX10) (T := TX10) (N := 3) (cw_shape (by omega)) rfl inX10 0 (by decide) (ref := "GridPolygons$Shape") kw_151 rfl rfl dX11_points_69 ?_
      refine j_vRi SS (As := []) (rest := []) (c_X7_all l D q u i_2 (by omega) (80 : Int)  (show 0 ≤ (80 : Int) ∧ (80 : Int) ≤ 80 from (by omega)) (show RB (80 : Int) u i_2 from (show RB 80 u i_2 from CI_s p0 (by omega)))) mf_X7_all kw_553 hG hP hP (ci := 7) (q0 := (9 + 5 * i_2)) rfl (cw_ring (by omega)) rfl rfl hl.1 ⟨⟨Nat.le_of_ble_eq_true rfl, Nat.le_of_ble_eq_true rfl⟩, Nat.le_of_ble_eq_true rfl, Nat.le_refl _, Nat.le_refl _⟩ rfl dX11_points_72 (fun z_72 h_72 => ?_)
      have h_72 : z_72 = rE u i_2 + rI u i_2 ∧ -7000000 ≤ z_72 ∧ z_72 ≤ 7000000 := h_72
      exact W.iret SS.1 SS.2.1 hr (fun t0 ht hW => ⟨_, rfl, ⟨z_72, rfl, (by first | exact ⟨Or.inl ⟨by omega, rfl⟩, by unfold wRg; omega⟩ | exact ⟨Or.inr ⟨by omega, by rw [show s.toNat = i_2 by omega]; omega⟩, by unfold wRg; omega⟩)⟩, ht⟩) (fun _ h => nomatch h) dX11_points_75 hlk
    · skip
      refine lv_tableOut SS.1 SS.2.1 (tgt := 76) dX11_points_13 (by rw [J_toInt (by omega)]; omega) (by decide) ?_
      refine j_iconst SS dX11_points_76 ?_
      exact W.iret SS.1 SS.2.1 hr (fun t0 ht hW => ⟨_, rfl, ⟨(-1), rfl, (by first | exact ⟨Or.inl ⟨by omega, rfl⟩, by unfold wRg; omega⟩ | exact ⟨Or.inr ⟨by omega, by rw [show s.toNat = i_2 by omega]; omega⟩, by unfold wRg; omega⟩)⟩, ht⟩) (fun _ h => nomatch h) dX11_points_77 hlk
  · skip
    refine lv_astore_nN (lv' := [(3, .null), (0, .ref (q 0)), (1, .int (J s)), (2, .int (J what))]) SS.1 SS.2.1 dX11_points_5 rfl hl (by decide) rfl (fun ls hl => ?_)
    refine lv_aload_nN SS.1 SS.2.1 dX11_points_6 rfl (lv_at hl 0 rfl) ?_
    refine lv_ifnonnullN SS.1 SS.2.1 dX11_points_7 ?_
    refine j_iconst SS dX11_points_10 ?_
    exact W.iret SS.1 SS.2.1 hr (fun t0 ht hW => ⟨_, rfl, ⟨(-1), rfl, (by first | exact ⟨Or.inl ⟨by omega, rfl⟩, by unfold wRg; omega⟩ | exact ⟨Or.inr ⟨by omega, by rw [show s.toNat = i_2 by omega]; omega⟩, by unfold wRg; omega⟩)⟩, ht⟩) (fun _ h => nomatch h) dX11_points_11 hlk

set_option maxHeartbeats 4000000 in
set_option maxRecDepth 100000 in
theorem c_X12_points2 (l : Launch) (D : JD) (o : Nat) (q : Nat → Nat) (u : MS) (s : Int) (what : Int) (p0 : IM u) (p1 : -2147483648 ≤ s ∧ s ≤ 2147483647) (p2 : -2147483648 ≤ what ∧ what ≤ 2147483647) : Met l yX12_points (jw yX12_points cX12_points 3 (some .int)) (jr 5 110) (jP [.ref o, .int (J s), .int (J what)] D (fun H => va_P D.1 j_cl (mW D o q u) H)) (jRi (fun z => poM u s what z)) 0 0 (fun _ => False) := by
  refine Met.ofW (cc := cX12_points) (maxL := 3) (ret := (some .int)) (by decide) rfl ?_
  intro pr en st mi args below meth co s₁ B hml hv
  obtain ⟨rfl, hG, hP⟩ := hv
  have hr := B.returns
  have hlk := B.notSynchronized
  have SS : jS pr mi co cX12_points 3 st _ RX12 := ⟨B.exec, B.bytes, hml, findClass_of_methodNamed B.named, fun w hw => atoms_spec (ws := (jw yX12_points cX12_points 3 (some .int))) B.pre w (List.mem_cons_of_mem _ hw)⟩
  have hl := lv_entry ([.ref o, .int (J s), .int (J what)]) (n := 3) (Nat.le_of_ble_eq_true rfl)
  rw [lg_entry_eq]
  generalize (lg_sl ([.ref o, .int (J s), .int (J what)]) ++ List.replicate (3 - (lg_sl ([.ref o, .int (J s), .int (J what)])).length) Slot.unset).toArray = ls at hl ⊢
  have hl : lv_has ls 3 [(0, .ref o), (1, .int (J s)), (2, .int (J what))] := hl
  refine lv_iload_n SS.1 SS.2.1 dX12_points_0 rfl (lv_at hl 1 rfl) ?_
  refine j_sRi SS (As := [.int (J s)]) (rest := []) (c_X12_isShape l D s (show -2147483648 ≤ s ∧ s ≤ 2147483647 from (by omega))) mf_X12_isShape kw_1156 hG trivial rfl hl.1 ⟨⟨Nat.le_of_ble_eq_true rfl, Nat.le_of_ble_eq_true rfl⟩, Nat.le_of_ble_eq_true rfl, Nat.le_refl _, Nat.le_refl _⟩ rfl dX12_points_1 (fun z_1 h_1 => ?_)
  have h_1 : (z_1 = 1 ∧ (0 ≤ s ∧ s ≤ 7)) ∨ (z_1 = 0 ∧ ¬ (0 ≤ s ∧ s ≤ 7)) := h_1
  refine j_if_eq SS (tgt := 16) (x := z_1) dX12_points_4 (by decide) (by omega) (fun c_4 => ?_) (fun c_4 => ?_)
  · skip
    refine j_iconst SS dX12_points_16 ?_
    exact W.iret SS.1 SS.2.1 hr (fun t ht hW => ⟨_, rfl, ⟨(-1), rfl, (by first | exact Or.inl ⟨by omega, rfl⟩ | exact Or.inr ⟨by omega, by omega⟩)⟩, ht⟩) (fun _ h => nomatch h) dX12_points_17 hlk
  · skip
    refine lv_iload_n SS.1 SS.2.1 dX12_points_7 rfl (lv_at hl 2 rfl) ?_
    refine j_iconst SS dX12_points_8 ?_
    refine j_iconst SS dX12_points_9 ?_
    refine j_sRi SS (As := [.int (J what), .int (J 0), .int (J 3)]) (rest := []) (c_X12_in l D what 0 3 (show -2147483648 ≤ what ∧ what ≤ 2147483647 from (by omega)) (show -2147483648 ≤ (0 : Int) ∧ (0 : Int) ≤ 2147483647 from (by omega)) (show -2147483648 ≤ (3 : Int) ∧ (3 : Int) ≤ 2147483647 from (by omega))) mf_X12_in kw_1159 hG trivial rfl hl.1 ⟨⟨Nat.le_of_ble_eq_true rfl, Nat.le_of_ble_eq_true rfl⟩, Nat.le_of_ble_eq_true rfl, Nat.le_refl _, Nat.le_refl _⟩ rfl dX12_points_10 (fun z_10 h_10 => ?_)
    have h_10 : (z_10 = 1 ∧ ((0 : Int) ≤ what ∧ what ≤ (3 : Int))) ∨ (z_10 = 0 ∧ ¬ ((0 : Int) ≤ what ∧ what ≤ (3 : Int))) := h_10
    refine j_if_ne SS (tgt := 18) (x := z_10) dX12_points_13 (by decide) (by omega) (fun c_13 => ?_) (fun c_13 => ?_)
    · skip
      refine lv_iload_n SS.1 SS.2.1 dX12_points_18 rfl (lv_at hl 2 rfl) ?_
      refine j_if_ne SS (tgt := 30) (x := what) dX12_points_19 (by decide) (by omega) (fun c_19 => ?_) (fun c_19 => ?_)
      · skip
        refine lv_iload_n SS.1 SS.2.1 dX12_points_30 rfl (lv_at hl 2 rfl) ?_
        refine j_iconst SS dX12_points_31 ?_
        refine j_icmp_ne SS (tgt := 43) (x := what) (y := 1) dX12_points_32 (by decide) (by omega) (by decide) (fun c_32 => ?_) (fun c_32 => ?_)
        · skip
          refine lv_iload_n SS.1 SS.2.1 dX12_points_43 rfl (lv_at hl 2 rfl) ?_
          refine j_iconst SS dX12_points_44 ?_
          refine j_icmp_ne SS (tgt := 56) (x := what) (y := 2) dX12_points_45 (by decide) (by omega) (by decide) (fun c_45 => ?_) (fun c_45 => ?_)
          · skip
            refine lv_aload_n SS.1 SS.2.1 dX12_points_56 rfl (lv_at hl 0 rfl) ?_
            refine lv_iload_n SS.1 SS.2.1 dX12_points_57 rfl (lv_at hl 1 rfl) ?_
            refine j_vRi SS (As := [.int (J s)]) (rest := []) (c_X12_edgeOf l D o q u s (show 0 ≤ s ∧ s ≤ 7 from (by omega)) (show Sh u s from (p0.1 _ (by omega) (by omega)))) mf_X12_edgeOf kw_1222 hG hP hP (ci := 8) (q0 := 0) rfl rfl rfl rfl hl.1 ⟨⟨Nat.le_of_ble_eq_true rfl, Nat.le_of_ble_eq_true rfl⟩, Nat.le_of_ble_eq_true rfl, Nat.le_refl _, Nat.le_refl _⟩ rfl dX12_points_58 (fun z_58 h_58 => ?_)
            have h_58 : z_58 = mEd u s ∧ 0 ≤ z_58 ∧ z_58 ≤ 2000 := h_58
            refine lv_aload_n SS.1 SS.2.1 dX12_points_61 rfl (lv_at hl 0 rfl) ?_
            refine lv_iload_n SS.1 SS.2.1 dX12_points_62 rfl (lv_at hl 1 rfl) ?_
            refine j_vRi SS (As := [.int (J s)]) (rest := [.int (J z_58)]) (c_X12_insideOf l D o q u s (show 0 ≤ s ∧ s ≤ 7 from (by omega)) (show Sh u s from (p0.1 _ (by omega) (by omega)))) mf_X12_insideOf kw_1236 hG hP hP (ci := 8) (q0 := 0) rfl rfl rfl rfl hl.1 ⟨⟨Nat.le_of_ble_eq_true rfl, Nat.le_of_ble_eq_true rfl⟩, Nat.le_of_ble_eq_true rfl, Nat.le_refl _, Nat.le_refl _⟩ rfl dX12_points_63 (fun z_63 h_63 => ?_)
            have h_63 : z_63 = mIn u s ∧ -100000 ≤ z_63 ∧ z_63 ≤ 100000 := h_63
            refine j_iadd SS (x := z_58) (y := z_63) dX12_points_66 ?_
            exact W.iret SS.1 SS.2.1 hr (fun t ht hW => ⟨_, rfl, ⟨(z_58 + z_63), rfl, (by first | exact Or.inl ⟨by omega, rfl⟩ | exact Or.inr ⟨by omega, by omega⟩)⟩, ht⟩) (fun _ h => nomatch h) dX12_points_67 hlk
          · skip
            refine lv_aload_n SS.1 SS.2.1 dX12_points_48 rfl (lv_at hl 0 rfl) ?_
            refine lv_iload_n SS.1 SS.2.1 dX12_points_49 rfl (lv_at hl 1 rfl) ?_
            refine j_vRi SS (As := [.int (J s)]) (rest := []) (c_X12_insideOf l D o q u s (show 0 ≤ s ∧ s ≤ 7 from (by omega)) (show Sh u s from (p0.1 _ (by omega) (by omega)))) mf_X12_insideOf kw_1236 hG hP hP (ci := 8) (q0 := 0) rfl rfl rfl rfl hl.1 ⟨⟨Nat.le_of_ble_eq_true rfl, Nat.le_of_ble_eq_true rfl⟩, Nat.le_of_ble_eq_true rfl, Nat.le_refl _, Nat.le_refl _⟩ rfl dX12_points_50 (fun z_50 h_50 => ?_)
            have h_50 : z_50 = mIn u s ∧ -100000 ≤ z_50 ∧ z_50 ≤ 100000 := h_50
            refine lv_goto (tgt := 67) SS.1 SS.2.1 dX12_points_53 (by decide) ?_
            exact W.iret SS.1 SS.2.1 hr (fun t ht hW => ⟨_, rfl, ⟨z_50, rfl, (by first | exact Or.inl ⟨by omega, rfl⟩ | exact Or.inr ⟨by omega, by omega⟩)⟩, ht⟩) (fun _ h => nomatch h) dX12_points_67 hlk
        · skip
          refine lv_aload_n SS.1 SS.2.1 dX12_points_35 rfl (lv_at hl 0 rfl) ?_
          refine lv_iload_n SS.1 SS.2.1 dX12_points_36 rfl (lv_at hl 1 rfl) ?_
          refine j_vRi SS (As := [.int (J s)]) (rest := []) (c_X12_edgeOf l D o q u s (show 0 ≤ s ∧ s ≤ 7 from (by omega)) (show Sh u s from (p0.1 _ (by omega) (by omega)))) mf_X12_edgeOf kw_1222 hG hP hP (ci := 8) (q0 := 0) rfl rfl rfl rfl hl.1 ⟨⟨Nat.le_of_ble_eq_true rfl, Nat.le_of_ble_eq_true rfl⟩, Nat.le_of_ble_eq_true rfl, Nat.le_refl _, Nat.le_refl _⟩ rfl dX12_points_37 (fun z_37 h_37 => ?_)
          have h_37 : z_37 = mEd u s ∧ 0 ≤ z_37 ∧ z_37 ≤ 2000 := h_37
          refine lv_goto (tgt := 67) SS.1 SS.2.1 dX12_points_40 (by decide) ?_
          exact W.iret SS.1 SS.2.1 hr (fun t ht hW => ⟨_, rfl, ⟨z_37, rfl, (by first | exact Or.inl ⟨by omega, rfl⟩ | exact Or.inr ⟨by omega, by omega⟩)⟩, ht⟩) (fun _ h => nomatch h) dX12_points_67 hlk
      · skip
        refine lv_aload_n SS.1 SS.2.1 dX12_points_22 rfl (lv_at hl 0 rfl) ?_
        refine lv_iload_n SS.1 SS.2.1 dX12_points_23 rfl (lv_at hl 1 rfl) ?_
        refine j_vRi SS (As := [.int (J s)]) (rest := []) (c_X12_areaOf l D o q u s (show 0 ≤ s ∧ s ≤ 7 from (by omega)) (show Sh u s from (p0.1 _ (by omega) (by omega)))) mf_X12_areaOf kw_1218 hG hP hP (ci := 8) (q0 := 0) rfl rfl rfl rfl hl.1 ⟨⟨Nat.le_of_ble_eq_true rfl, Nat.le_of_ble_eq_true rfl⟩, Nat.le_of_ble_eq_true rfl, Nat.le_refl _, Nat.le_refl _⟩ rfl dX12_points_24 (fun z_24 h_24 => ?_)
        have h_24 : z_24 = mAr u s ∧ -80000 ≤ z_24 ∧ z_24 ≤ 80000 := h_24
        refine lv_goto (tgt := 67) SS.1 SS.2.1 dX12_points_27 (by decide) ?_
        exact W.iret SS.1 SS.2.1 hr (fun t ht hW => ⟨_, rfl, ⟨z_24, rfl, (by first | exact Or.inl ⟨by omega, rfl⟩ | exact Or.inr ⟨by omega, by omega⟩)⟩, ht⟩) (fun _ h => nomatch h) dX12_points_67 hlk
    · skip
      refine j_iconst SS dX12_points_16 ?_
      exact W.iret SS.1 SS.2.1 hr (fun t ht hW => ⟨_, rfl, ⟨(-1), rfl, (by first | exact Or.inl ⟨by omega, rfl⟩ | exact Or.inr ⟨by omega, by omega⟩)⟩, ht⟩) (fun _ h => nomatch h) dX12_points_17 hlk


theorem b_sgn {p e x : Int} (h : (p ≤ x ∧ x ≤ e) ∨ (e ≤ x ∧ x ≤ p)) : (x - p) * (x - e) ≤ 0 := by
  rcases h with ⟨a, b⟩ | ⟨a, b⟩
  · have := Int.mul_nonneg (show 0 ≤ x - p by omega) (show 0 ≤ e - x by omega)
    have e1 : (x - p) * (x - e) = - ((x - p) * (e - x)) := by grind
    omega
  · have := Int.mul_nonneg (show 0 ≤ p - x by omega) (show 0 ≤ x - e by omega)
    have e1 : (x - p) * (x - e) = - ((p - x) * (x - e)) := by grind
    omega
theorem le_m {k a b : Int} (hk : 0 < k) (h : 0 ≤ (b - a) * k) : a ≤ b := by
  by_cases e : a ≤ b
  · exact e
  · have := Int.mul_pos (show 0 < a - b by omega) hk
    have e1 : (b - a) * k = - ((a - b) * k) := by grind
    omega
/-- the next corner's number -/
def nj (n : Int) (a : Nat) : Nat := if (a : Int) + 1 < n then a + 1 else 0
theorem nj_n {X : Nat → Int} {n : Int} {a : Nat} : nxt X n a = X (nj n a) := by unfold nxt nj; split <;> rfl
theorem nj_l {n : Int} {a : Nat} (h : 0 < n) : (nj n a : Int) < n := by unfold nj; split <;> omega
theorem w1 {S : Int → Int → Prop} {n x y : Int} {X Y : Nat → Int} (h : HS S n X Y) (hn : 2 ≤ n) (h0 : X 0 ≤ x) (h1 : ∃ a : Nat, (a : Int) < n ∧ x ≤ X a) (hg : ∀ a : Nat, (a : Int) < n → nxt X n a - X a ≠ 0 → 0 ≤ cx (nxt X n a - X a) (nxt Y n a - Y a) (x - X a) (y - Y a)) : ∀ a : Nat, (a : Int) < n → 0 ≤ cx (nxt X n a - X a) (nxt Y n a - Y a) (x - X a) (y - Y a) := by
  have hc := HS_S h
  rcases h with ⟨h, _⟩ | ⟨p1, p2, p3, ⟨p4, p5⟩ | ⟨p4, p5, p6⟩⟩
  · omega
  · omega
  · intro a ha
    by_cases e : nxt X n a - X a = 0
    · have E := p6 a ha
      have n1 := E.1
      obtain ⟨b, b1, b2⟩ := h1
      have qb := (E.2 _ _ (hc b b1)).1
      have q0 := (E.2 _ _ (hc 0 (by omega))).1
      unfold cx at qb q0 ⊢
      rw [e, Int.zero_mul] at qb q0 ⊢
      rcases (show 0 < nxt Y n a - Y a ∨ 0 < -(nxt Y n a - Y a) by omega) with s | s
      · have t : X b ≤ X a := le_m s (by
          have e1 : (X a - X b) * (nxt Y n a - Y a) = 0 - (nxt Y n a - Y a) * (X b - X a) := by grind
          omega)
        have m := Int.mul_nonneg (show 0 ≤ nxt Y n a - Y a by omega) (show 0 ≤ X a - x by omega)
        have e1 : 0 - (nxt Y n a - Y a) * (x - X a) = (nxt Y n a - Y a) * (X a - x) := by grind
        omega
      · have t : X a ≤ X 0 := le_m s (by
          have e1 : (X 0 - X a) * -(nxt Y n a - Y a) = 0 - (nxt Y n a - Y a) * (X 0 - X a) := by grind
          omega)
        have m := Int.mul_nonneg (show 0 ≤ -(nxt Y n a - Y a) by omega) (show 0 ≤ x - X a by omega)
        have e1 : 0 - (nxt Y n a - Y a) * (x - X a) = -(nxt Y n a - Y a) * (x - X a) := by grind
        omega
    · exact hg a ha e
/-- with three corners or more each corner turns left -/
theorem w3 {S : Int → Int → Prop} {n : Int} {X Y : Nat → Int} (h : HS S n X Y) (hn : 3 ≤ n) {a b : Nat} (ha : (a : Int) < n) (hb : b = nj n a) : 0 < cx (X b - X a) (Y b - Y a) (X (nj n b) - X b) (Y (nj n b) - Y b) := by
  have hc := HS_S h
  rcases h with ⟨h, _⟩ | ⟨p1, p2, p3, ⟨p4, p5⟩ | ⟨p4, p5, p6⟩⟩
  · omega
  · omega
  · obtain ⟨c, ec⟩ : ∃ c, c = nj n b := ⟨_, rfl⟩
    rw [← ec]
    have hbn : (b : Int) < n := by rw [hb]; exact nj_l (by omega)
    have hcn : (c : Int) < n := by rw [ec]; exact nj_l (by omega)
    have Ea := p6 a ha
    have Eb := p6 b hbn
    rw [nj_n, nj_n, ← hb] at Ea
    rw [nj_n, nj_n, ← ec] at Eb
    have q1 := Ea.2 _ _ (hc c hcn)
    rw [cx_sh] at q1
    by_cases z : cx (X b - X a) (Y b - Y a) (X c - X b) (Y c - Y b) = 0
    · exfalso
      have b3 := q1.2 z
      have q4 := Eb.2 _ _ (hc a ha)
      have f4 : cx (X c - X b) (Y c - Y b) (X a - X b) (Y a - Y b) = cx (X b - X a) (Y b - Y a) (X c - X b) (Y c - Y b) := by unfold cx; grind
      rw [f4] at q4
      have b4 := q4.2 z
      have n1 := Ea.1
      have eg : X c = X a ∧ Y c = Y a := by unfold lxn at b3 b4; omega
      -- all lie between the two
      have all : ∀ p q : Int, S p q → cx (X b - X a) (Y b - Y a) (p - X a) (q - Y a) = 0 := fun p q s => by
        have r1 := (Ea.2 p q s).1
        have r2 := (Eb.2 p q s).1
        rw [eg.1, eg.2] at r2
        have f2 : cx (X a - X b) (Y a - Y b) (p - X b) (q - Y b) = - cx (X b - X a) (Y b - Y a) (p - X a) (q - Y a) := by unfold cx; grind
        omega
      have btw : ∀ p q : Int, S p q → (lxn (p - X a) (q - Y a) ∧ lxn (X b - p) (Y b - q)) ∨ (lxn (X a - p) (Y a - q) ∧ lxn (p - X b) (q - Y b)) := fun p q s => (Ea.2 p q s).2 (all p q s)
      have oA := p3 _ _ (hc a ha)
      have oB := p3 _ _ (hc b hbn)
      have o0 := btw _ _ p2
      have hor : (X 0 = X a ∧ Y 0 = Y a) ∨ (X 0 = X b ∧ Y 0 = Y b) := by unfold lxn at oA oB o0; omega
      rcases hor with w | w
      · have a0 : a = 0 := by
          by_cases e : a = 0
          · exact e
          · have := (p5 a (by omega) ha).2; omega
        have c0 : c = 0 := by
          by_cases e : c = 0
          · exact e
          · have := (p5 c (by omega) hcn).2; omega
        unfold nj at hb ec
        rw [if_pos (by omega)] at hb
        rw [if_pos (by omega)] at ec
        omega
      · have b0 : b = 0 := by
          by_cases e : b = 0
          · exact e
          · have := (p5 b (by omega) hbn).2; omega
        subst b0
        have c1 : c = 1 := by unfold nj at ec; rw [if_pos (by omega)] at ec; omega
        subst c1
        have E1 := p6 1 (by omega)
        have x2 : nxt X n 1 = X 2 ∧ nxt Y n 1 = Y 2 := by unfold nxt; rw [if_pos (by omega), if_pos (by omega)]; exact ⟨rfl, rfl⟩
        rw [x2.1, x2.2] at E1
        have d2 := (p5 2 (by omega) (by omega)).2
        have t0 := E1.2 _ _ p2
        have a2 := all _ _ (hc 2 (by omega))
        have f5 : cx (X 2 - X 1) (Y 2 - Y 1) (X 0 - X 1) (Y 0 - Y 1) = - cx (X 0 - X a) (Y 0 - Y a) (X 2 - X a) (Y 2 - Y a) := by rw [eg.1, eg.2]; unfold cx; grind
        have b5 := t0.2 (by omega)
        have o2 := p3 _ _ (hc 2 (by omega))
        have o1 := p3 _ _ (hc 1 (by omega))
        have d1 := (p5 1 (by omega) (by omega)).2
        unfold lxn at b5 o2 o1
        omega
    · omega
theorem par_x {a1 a2 dx dy wx wy : Int} (h : cx dx dy wx wy = 0) : cx a1 a2 wx wy * dx = cx a1 a2 dx dy * wx ∧ cx a1 a2 wx wy * dy = cx a1 a2 dx dy * wy := by
  have e1 : cx a1 a2 wx wy * dx = cx a1 a2 dx dy * wx + a1 * cx dx dy wx wy := by unfold cx; grind
  have e2 : cx a1 a2 wx wy * dy = cx a1 a2 dx dy * wy + a2 * cx dx dy wx wy := by unfold cx; grind
  rw [h, Int.mul_zero, Int.add_zero] at e1 e2
  exact ⟨e1, e2⟩
/-- k c = m w with c above 0 and k at least 0: w has the sign of m -/
theorem sg_x {k c m w : Int} (hk : 0 ≤ k) (hc : 0 < c) (h : k * m = c * w) : (0 < m → 0 ≤ w) ∧ (m < 0 → w ≤ 0) ∧ (m = 0 → w = 0) := by
  refine ⟨fun hm => ?_, fun hm => ?_, fun hm => ?_⟩
  · have := Int.mul_nonneg hk (show 0 ≤ m by omega)
    exact le_m hc (by rw [Int.sub_zero, Int.mul_comm]; omega)
  · have := Int.mul_nonneg hk (show 0 ≤ -m by omega)
    rw [Int.mul_neg] at this
    exact le_m hc (by rw [Int.sub_mul, Int.zero_mul, Int.mul_comm w c]; omega)
  · rw [hm, Int.mul_zero] at h
    by_cases e : w = 0
    · exact e
    · have := Int.mul_ne_zero (show c ≠ 0 by omega) e
      omega
/-- left of all sides and in line with one: on it -/
theorem w4 {S : Int → Int → Prop} {n x y : Int} {X Y : Nat → Int} (h : HS S n X Y) (hn : 3 ≤ n) (hg : ∀ a : Nat, (a : Int) < n → 0 ≤ cx (nxt X n a - X a) (nxt Y n a - Y a) (x - X a) (y - Y a)) {a : Nat} (ha : (a : Int) < n) (h0 : cx (nxt X n a - X a) (nxt Y n a - Y a) (x - X a) (y - Y a) = 0) : ((x - X a) * (x - nxt X n a) ≤ 0 ∧ (y - Y a) * (y - nxt Y n a) ≤ 0) ∧ ((lxn (x - X a) (y - Y a) ∧ lxn (nxt X n a - x) (nxt Y n a - y)) ∨ (lxn (X a - x) (Y a - y) ∧ lxn (x - nxt X n a) (y - nxt Y n a))) := by
  obtain ⟨z, hz, ez⟩ : ∃ z : Nat, (z : Int) < n ∧ nj n z = a := by
    by_cases e : a = 0
    · exact ⟨(n - 1).toNat, by omega, by unfold nj; rw [if_neg (by omega), e]⟩
    · exact ⟨a - 1, by omega, by unfold nj; rw [if_pos (by omega)]; omega⟩
  have hbn : (nj n a : Int) < n := nj_l (by omega)
  have T1 := w3 h hn ha rfl
  have T2 := w3 h hn hz rfl
  rw [ez] at T2
  have gb := hg _ hbn
  have gz := hg _ hz
  rw [nj_n, nj_n] at gb gz h0 ⊢
  rw [ez, cx_sh] at gz
  obtain ⟨b, eb⟩ : ∃ b, b = nj n a := ⟨_, rfl⟩
  rw [← eb] at T1 T2 gb h0 ⊢
  have P1 := par_x (a1 := X a - X z) (a2 := Y a - Y z) h0
  have h02 : cx (X b - X a) (Y b - Y a) (x - X b) (y - Y b) = 0 := by rw [← cx_sh]; exact h0
  have P2 := par_x (a1 := X (nj n b) - X b) (a2 := Y (nj n b) - Y b) h02
  have f1 : cx (X (nj n b) - X b) (Y (nj n b) - Y b) (X b - X a) (Y b - Y a) = - cx (X b - X a) (Y b - Y a) (X (nj n b) - X b) (Y (nj n b) - Y b) := by unfold cx; grind
  rw [f1, Int.neg_mul, Int.neg_mul] at P2
  have A1 := sg_x gz T2 P1.1
  have A2 := sg_x gz T2 P1.2
  have B1 := sg_x (w := X b - x) gb T1 (by rw [P2.1]; grind)
  have B2 := sg_x (w := Y b - y) gb T1 (by rw [P2.2]; grind)
  refine ⟨⟨b_sgn (by omega), b_sgn (by omega)⟩, ?_⟩
  have ly : X b - X a ≠ 0 → x = X a → y = Y a := fun q1 q2 => by
    unfold cx at h0
    rw [q2, Int.sub_self, Int.mul_zero] at h0
    by_cases e : y = Y a
    · exact e
    · have := Int.mul_ne_zero q1 (show y - Y a ≠ 0 by omega)
      omega
  have lz : X b - X a ≠ 0 → x = X b → y = Y b := fun q1 q2 => by
    unfold cx at h02
    rw [q2, Int.sub_self, Int.mul_zero] at h02
    by_cases e : y = Y b
    · exact e
    · have := Int.mul_ne_zero q1 (show y - Y b ≠ 0 by omega)
      omega
  unfold lxn
  rcases (show 0 < X b - X a ∨ X b - X a < 0 ∨ X b - X a = 0 by omega) with q | q | q
  · have l1 := ly (by omega); have l2 := lz (by omega); omega
  · have l1 := ly (by omega); have l2 := lz (by omega); omega
  · omega
/-- left of all sides: in the box -/
theorem w5 {S : Int → Int → Prop} {n x y : Int} {X Y : Nat → Int} (h : HS S n X Y) (hn : 3 ≤ n) (hg : ∀ a : Nat, (a : Int) < n → 0 ≤ cx (nxt X n a - X a) (nxt Y n a - Y a) (x - X a) (y - Y a)) : X 0 ≤ x ∧ (∃ a : Nat, (a : Int) < n ∧ x ≤ X a) ∧ (∃ a : Nat, (a : Int) < n ∧ Y a ≤ y) ∧ ∃ a : Nat, (a : Int) < n ∧ y ≤ Y a := by
  have k4 : ∀ a : Nat, (a : Int) < n → _ → _ := fun a ha h0 => (w4 h hn hg ha h0).2
  have hc := HS_S h
  rcases h with ⟨h, _⟩ | ⟨h1, h2, h3, ⟨h4, h5⟩ | ⟨h4, h5, h6⟩⟩
  · omega
  · omega
  · have E : ∀ a : Nat, (a : Int) < n → edS (fun p q => S p q ∨ (p = x ∧ q = y)) (X a) (Y a) (nxt X n a) (nxt Y n a) := fun a ha => by
      refine ⟨(h6 a ha).1, fun p q s => ?_⟩
      rcases s with s | ⟨rfl, rfl⟩
      · exact (h6 a ha).2 p q s
      · exact ⟨hg a ha, k4 a ha⟩
    have C : ∀ a : Nat, (a : Int) < n → S (X a) (Y a) ∨ (X a = x ∧ Y a = y) := fun a ha => Or.inl (hc a ha)
    have O : (fun p q => S p q ∨ (p = x ∧ q = y)) x y := Or.inr ⟨rfl, rfl⟩
    refine ⟨?_, ?_, ?_, ?_⟩
    · have q := EDG_max (α := -1) (β := 0) (M := - X 0) h1 E C (fun a ha => by have := h3 _ _ (hc a ha); unfold lxn at this; omega) O
      omega
    · apply Classical.byContradiction
      intro w
      have q := EDG_max (α := 1) (β := 0) (M := x - 1) h1 E C (fun a ha => by
        have : ¬ x ≤ X a := fun z => w ⟨a, ha, z⟩
        omega) O
      omega
    · apply Classical.byContradiction
      intro w
      have q := EDG_max (α := 0) (β := -1) (M := - y - 1) h1 E C (fun a ha => by
        have : ¬ Y a ≤ y := fun z => w ⟨a, ha, z⟩
        omega) O
      omega
    · apply Classical.byContradiction
      intro w
      have q := EDG_max (α := 0) (β := 1) (M := y - 1) h1 E C (fun a ha => by
        have : ¬ y ≤ Y a := fun z => w ⟨a, ha, z⟩
        omega) O
      omega


/-- the area of a closed way -/
def hAr (n : Int) (X Y : Nat → Int) : Int := smI (fun i => X i.toNat * nxt Y n i.toNat - nxt X n i.toNat * Y i.toNat) n
theorem rA_h {K : Int} {u : CS} {r : Nat} (h : RB K u r) : rA u r = hAr (u.1.2.2.1 r) (u.1.1 r) (u.1.2.1 r) := by
  unfold rA hAr
  refine smI_c (fun i h0 h1 => ?_)
  have k1 := rx_n h (a := i.toNat) (by omega)
  have k2 := rx_ar h (a := i.toNat) (by omega)
  rw [show ((i.toNat : Nat) : Int) = i by omega] at k1 k2
  unfold dX dY
  rw [k1.1, k1.2, k2.1, k2.2, Int.mul_sub, Int.mul_sub, Int.mul_comm (u.1.2.1 r i.toNat) (nxt (u.1.1 r) (u.1.2.2.1 r) i.toNat), Int.mul_comm (u.1.2.1 r i.toNat) (u.1.1 r i.toNat)]
  omega
theorem rA_s {u u' : CS} {r : Nat} (e : u'.1.2.2.1 r = u.1.2.2.1 r ∧ u'.1.1 r = u.1.1 r ∧ u'.1.2.1 r = u.1.2.1 r) : rA u' r = rA u r := by
  obtain ⟨e1, e2, e3⟩ := e
  unfold rA dX dY ar rx ry9
  rw [e1, e2, e3]
theorem hAr_c {n n' : Int} {X Y X' Y' : Nat → Int} (en : n = n') (e : ∀ a : Nat, (a : Int) < n → X a = X' a ∧ Y a = Y' a) : hAr n X Y = hAr n' X' Y' := by
  subst en
  unfold hAr
  refine smI_c (fun i h0 h1 => ?_)
  have k := e i.toNat (by omega)
  have k2 : nxt X n i.toNat = nxt X' n i.toNat ∧ nxt Y n i.toNat = nxt Y' n i.toNat := by
    unfold nxt
    by_cases w : ((i.toNat : Nat) : Int) + 1 < n
    · rw [if_pos w, if_pos w, if_pos w, if_pos w]; exact e _ (by omega)
    · rw [if_neg w, if_neg w, if_neg w, if_neg w]; exact e 0 (by omega)
  rw [k.1, k.2, k2.1, k2.2]
theorem nxt_tm {X : Nat → Int} {n i : Int} (h : 0 ≤ i ∧ i < n) : X ((i + 1).tmod n).toNat = nxt X n i.toNat := by
  unfold nxt
  by_cases w : i + 1 < n
  · rw [if_pos (by omega), Int.tmod_eq_of_lt (by omega) w]; exact congrArg X (by omega)
  · rw [if_neg (by omega), show i + 1 = n by omega, Int.tmod_self]; rfl
def mxC (u : CS) (s s2 z : Int) : Prop := (¬ ((0 ≤ s ∧ s ≤ 7) ∧ 0 ≤ s2 ∧ s2 ≤ 7) ∧ z = -1) ∨ (((0 ≤ s ∧ s ≤ 7) ∧ 0 ≤ s2 ∧ s2 ≤ 7) ∧ (((u.1.2.2.1 s.toNat = 0 ∨ u.1.2.2.1 s2.toNat = 0) ∧ z = 0) ∨ (¬ (u.1.2.2.1 s.toNat = 0 ∨ u.1.2.2.1 s2.toNat = 0) ∧ ∃ (n : Int) (X Y : Nat → Int), HS (SM (RP u s.toNat) (RP u s2.toNat)) n X Y ∧ z = hAr n X Y - rA u s.toNat - rA u s2.toNat)))
def mxM (u : MS) (s s2 z : Int) : Prop := (¬ ((0 ≤ s ∧ s ≤ 7) ∧ 0 ≤ s2 ∧ s2 ≤ 7) ∧ z = -1) ∨ (((0 ≤ s ∧ s ≤ 7) ∧ 0 ≤ s2 ∧ s2 ≤ 7) ∧ (((mN u s = 0 ∨ mN u s2 = 0) ∧ z = 0) ∨ (¬ (mN u s = 0 ∨ mN u s2 = 0) ∧ ∃ (n : Int) (X Y : Nat → Int), HS (SM (SP u s) (SP u s2)) n X Y ∧ z = hAr n X Y - mAr u s - mAr u s2)))


set_option maxHeartbeats 4000000 in
set_option maxRecDepth 100000 in
theorem c_X11_mixedM (l : Launch) (D : JD) (q : Nat → Nat) (u : CS) (A : Nat → Prop) (hD : va_D A (cW D q u)) (s : Int) (s2 : Int) (p0 : CI u) (p1 : -2147483648 ≤ s ∧ s ≤ 2147483647) (p2 : -2147483648 ≤ s2 ∧ s2 ≤ 2147483647) : Met l yX11_mixed (jw yX11_mixed cX11_mixed 5 (some .int)) (jr 5 115) (jP [.ref (q 0), .int (J s), .int (J s2)] D (fun H => va_P D.1 j_cl (cW D q u) H)) (jWi (fun z u' => CI u' ∧ (mxC u s s2 z ∧ wRg z) ∧ cSame u u') (fun u' H => va_P D.1 j_cl (cW D q u') H) A) 0 0 A := by
  refine Met.ofW (cc := cX11_mixed) (maxL := 5) (ret := (some .int)) (by decide) rfl ?_
  intro pr en st mi args below meth co s₁ B hml hv
  obtain ⟨rfl, hG, hP⟩ := hv
  have hr := B.returns
  have hlk := B.notSynchronized
  have SS : jS pr mi co cX11_mixed 5 st _ RX11 := ⟨B.exec, B.bytes, hml, findClass_of_methodNamed B.named, fun w hw => atoms_spec (ws := (jw yX11_mixed cX11_mixed 5 (some .int))) B.pre w (List.mem_cons_of_mem _ hw)⟩
  have hl := lv_entry ([.ref (q 0), .int (J s), .int (J s2)]) (n := 5) (Nat.le_of_ble_eq_true rfl)
  rw [lg_entry_eq]
  generalize (lg_sl ([.ref (q 0), .int (J s), .int (J s2)]) ++ List.replicate (5 - (lg_sl ([.ref (q 0), .int (J s), .int (J s2)])).length) Slot.unset).toArray = ls at hl ⊢
  have hl : lv_has ls 5 [(0, .ref (q 0)), (1, .int (J s)), (2, .int (J s2))] := hl
  have hS : va_S A st.heap st.heap [] := va_S.rf
  refine lv_aload_n SS.1 SS.2.1 dX11_mixed_0 rfl (lv_at hl 0 rfl) ?_
  refine lv_iload_n SS.1 SS.2.1 dX11_mixed_1 rfl (lv_at hl 1 rfl) ?_
  refine j_vSh SS (As := [.int (J s)]) (rest := []) (c_X11_shapeAt l D q u  s (show -2147483648 ≤ s ∧ s ≤ 2147483647 from (p1))) mf_X11_shapeAt kw_414 hG hP hP (ci := 11) (q0 := 0) rfl rfl rfl rfl hl.1 ⟨⟨Nat.le_of_ble_eq_true rfl, Nat.le_of_ble_eq_true rfl⟩, Nat.le_of_ble_eq_true rfl, Nat.le_refl _, Nat.le_refl _⟩ rfl dX11_mixed_2 (fun i_2 hi_2 hz_2 => ?_) (fun hn_2 => ?_)
  · skip
    have hI2 := CI_s p0 (show i_2 < 8 by omega)
    have hI2c := hI2.1
    have hrl2 := rl_s (show i_2 < 8 by omega)
    refine lv_astore_n (lv' := [(3, .ref (q (8 + 5 * i_2))), (0, .ref (q 0)), (1, .int (J s)), (2, .int (J s2))]) SS.1 SS.2.1 dX11_mixed_5 rfl hl (by decide) rfl (fun ls hl => ?_)
    refine lv_aload_n SS.1 SS.2.1 dX11_mixed_6 rfl (lv_at hl 1 rfl) ?_
    refine lv_iload_n SS.1 SS.2.1 dX11_mixed_7 rfl (lv_at hl 3 rfl) ?_
    refine j_vSh SS (As := [.int (J s2)]) (rest := []) (c_X11_shapeAt l D q u  s2 (show -2147483648 ≤ s2 ∧ s2 ≤ 2147483647 from (p2))) mf_X11_shapeAt kw_414 hG hP hP (ci := 11) (q0 := 0) rfl rfl rfl rfl hl.1 ⟨⟨Nat.le_of_ble_eq_true rfl, Nat.le_of_ble_eq_true rfl⟩, Nat.le_of_ble_eq_true rfl, Nat.le_refl _, Nat.le_refl _⟩ rfl dX11_mixed_8 (fun i_8 hi_8 hz_8 => ?_) (fun hn_8 => ?_)
    · skip
      have hI8c := (CI_s p0 (show i_8 < 8 by omega)).1
      have hrl8 := rl_s (show i_8 < 8 by omega)
      refine lv_astore (lv' := [(4, .ref (q (8 + 5 * i_8))), (3, .ref (q (8 + 5 * i_2))), (0, .ref (q 0)), (1, .int (J s)), (2, .int (J s2))]) SS.1 SS.2.1 dX11_mixed_11 hl (by decide) rfl (fun ls hl => ?_)
      refine lv_aload_n SS.1 SS.2.1 dX11_mixed_13 rfl (lv_at hl 1 rfl) ?_
      refine lv_ifnull SS.1 SS.2.1 dX11_mixed_14 ?_
      refine lv_aload SS.1 SS.2.1 dX11_mixed_17 (lv_at hl 0 rfl) ?_
      refine lv_ifnonnull SS.1 SS.2.1 (tgt := 24) dX11_mixed_19 (by decide) ?_
      refine lv_aload_n SS.1 SS.2.1 dX11_mixed_24 rfl (lv_at hl 1 rfl) ?_
      refine j_get SS hG hP (8 + 5 * i_2) (v := .ref (q (9 + 5 * i_2))) (C := RX10) (T := TX10) (N := 3) (cw_shape (by omega)) rfl inX10 0 (by decide) (ref := "GridPolygons$Shape") kw_151 rfl rfl dX11_mixed_25 ?_
      refine j_getS SS hG hP (9 + 5 * i_2) (v := .int (J (u.1.2.2.1 i_2))) (C := RX7) (T := TX7) (N := 3) (cw_ring (by omega)) rfl inX7 2 (by decide) (ref := "GridPolygons$Ring") kw_135 kw_132 rfl dX11_mixed_28 ?_
      refine j_if_eq SS (tgt := 45) (x := (u.1.2.2.1 i_2)) dX11_mixed_31 (by decide) (by omega) (fun c_31 => ?_) (fun c_31 => ?_)
      · skip
        refine j_iconst SS dX11_mixed_45 ?_
        exact W.iret SS.1 SS.2.1 hr (fun t0 ht hW => ⟨⟨_, u, rfl, ⟨0, rfl, (⟨p0, ⟨Or.inr ⟨by omega, Or.inl ⟨by first | exact Or.inl (by rw [show s.toNat = i_2 by omega]; omega) | exact Or.inr (by rw [show s2.toNat = i_8 by omega]; omega), rfl⟩⟩, by unfold wRg; omega⟩, cs_refl⟩)⟩, by show va_P D.1 j_cl (cW D q u) t0.heap; rw [ht]; first | exact hP | (simp only [sC_id, sX_id, sY_id, sH_id, sT_id, sV_id]; exact hP)⟩, hS.F ht⟩) hS.2.2 dX11_mixed_46 hlk
      · skip
        refine lv_aload SS.1 SS.2.1 dX11_mixed_34 (lv_at hl 0 rfl) ?_
        refine j_get SS hG hP (8 + 5 * i_8) (v := .ref (q (9 + 5 * i_8))) (C := RX10) (T := TX10) (N := 3) (cw_shape (by omega)) rfl inX10 0 (by decide) (ref := "GridPolygons$Shape") kw_151 rfl rfl dX11_mixed_36 ?_
        refine j_getS SS hG hP (9 + 5 * i_8) (v := .int (J (u.1.2.2.1 i_8))) (C := RX7) (T := TX7) (N := 3) (cw_ring (by omega)) rfl inX7 2 (by decide) (ref := "GridPolygons$Ring") kw_135 kw_132 rfl dX11_mixed_39 ?_
        refine j_if_ne SS (tgt := 47) (x := (u.1.2.2.1 i_8)) dX11_mixed_42 (by decide) (by omega) (fun c_42 => ?_) (fun c_42 => ?_)
        · skip
          refine lv_aload_n SS.1 SS.2.1 dX11_mixed_47 rfl (lv_at hl 2 rfl) ?_
          refine j_get SS hG hP 0 (v := .ref (q 2)) (C := RX11) (T := TX11) (N := 8) rfl rfl inX11 1 (by decide) (ref := "GridPolygons") kw_386 rfl rfl dX11_mixed_48 ?_
          refine lv_aload_n SS.1 SS.2.1 dX11_mixed_51 rfl (lv_at hl 1 rfl) ?_
          refine j_get SS hG hP (8 + 5 * i_2) (v := .ref (q (9 + 5 * i_2))) (C := RX10) (T := TX10) (N := 3) (cw_shape (by omega)) rfl inX10 0 (by decide) (ref := "GridPolygons$Shape") kw_151 rfl rfl dX11_mixed_52 ?_
          refine lv_aload SS.1 SS.2.1 dX11_mixed_55 (lv_at hl 0 rfl) ?_
          refine j_get SS hG hP (8 + 5 * i_8) (v := .ref (q (9 + 5 * i_8))) (C := RX10) (T := TX10) (N := 3) (cw_shape (by omega)) rfl inX10 0 (by decide) (ref := "GridPolygons$Shape") kw_151 rfl rfl dX11_mixed_57 ?_
          refine j_vWv SS (As := [.ref (q (9 + 5 * i_2)), .ref (q (9 + 5 * i_8))]) (rest := []) (c_X3_closeSum2 l D q u A (cW_D hD) i_2 (by omega) i_8 (by omega)  (show HU_ ((u.2.1 0)) ((u.2.1 1)) from (p0.2.2.1)) (show RB 40 u i_2 from (CI_40 p0 (by omega))) (show RB 40 u i_8 from (CI_40 p0 (by omega))) (show RB 80 u 8 from (p0.2.1.1))) mf_X3_closeSum kw_686 hG hP hP (ci := 3) (q0 := 2) rfl rfl rfl hS (fun _ h => h) rfl hl.1 ⟨⟨Nat.le_of_ble_eq_true rfl, Nat.le_of_ble_eq_true rfl⟩, Nat.le_of_ble_eq_true rfl, Nat.le_refl _, Nat.le_refl _⟩ rfl dX11_mixed_60 (fun u60 H locs h_60 hP _ hS => ?_)
          obtain ⟨f_60, g_60, f8_60, g8_60, n8_60, rfl, h_60⟩ := h_60
          have hP : va_P D.1 j_cl (cW D q (sY (sX (sI (sI (sC u 8 n8_60) 0 f_60) 1 g_60) 8 f8_60) 8 g8_60)) H := hP
          have h_60 : HU_ f_60 g_60 ∧ (0 ≤ n8_60 ∧ n8_60 ≤ 323) ∧ RV 80 f8_60 g8_60 ∧ HS (SM (RP u i_2) (RP u i_8)) n8_60 f8_60 g8_60 := h_60
          have hCI := CI_8 (CI_h p0 h_60.1) h_60.2.1 h_60.2.2.1
          refine lv_aload_n SS.1 SS.2.1 dX11_mixed_63 rfl (lv_at hl 2 rfl) ?_
          refine j_get SS hG hP 0 (v := .ref (q 2)) (C := RX11) (T := TX11) (N := 8) rfl rfl inX11 1 (by decide) (ref := "GridPolygons") kw_386 rfl rfl dX11_mixed_64 ?_
          refine j_get SS hG hP 2 (v := .ref (q (9 + 5 * 8))) (C := RX3) (T := TX3) (N := 3) rfl rfl inX3 2 (by decide) (ref := "GridPolygons$Hull") kw_180 rfl rfl dX11_mixed_67 ?_
          refine j_vRi SS (As := []) (rest := []) (c_X7_area l D q (sY (sX (sI (sI (sC u 8 n8_60) 0 f_60) 1 g_60) 8 f8_60) 8 g8_60) 8 (by omega) (80 : Int)  (show 0 ≤ (80 : Int) ∧ (80 : Int) ≤ 80 from (by omega)) (show RB (80 : Int) (sY (sX (sI (sI (sC u 8 n8_60) 0 f_60) 1 g_60) 8 f8_60) 8 g8_60) 8 from (hCI.2.1.1))) mf_X7_area kw_517 hG hP hP (ci := 7) (q0 := (9 + 5 * 8)) rfl (cw_ring (by omega)) rfl rfl hl.1 ⟨⟨Nat.le_of_ble_eq_true rfl, Nat.le_of_ble_eq_true rfl⟩, Nat.le_of_ble_eq_true rfl, Nat.le_refl _, Nat.le_refl _⟩ rfl dX11_mixed_70 (fun z_70 h_70 => ?_)
          have h_70 : z_70 = rA (sY (sX (sI (sI (sC u 8 n8_60) 0 f_60) 1 g_60) 8 f8_60) 8 g8_60) 8 ∧ -10000000 ≤ z_70 ∧ z_70 ≤ 10000000 := h_70
          refine lv_aload_n SS.1 SS.2.1 dX11_mixed_73 rfl (lv_at hl 1 rfl) ?_
          refine j_get SS hG hP (8 + 5 * i_2) (v := .ref (q (9 + 5 * i_2))) (C := RX10) (T := TX10) (N := 3) (cw_shape (by omega)) rfl inX10 0 (by decide) (ref := "GridPolygons$Shape") kw_151 rfl rfl dX11_mixed_74 ?_
          refine j_vRi SS (As := []) (rest := [.int (J z_70)]) (c_X7_area l D q (sY (sX (sI (sI (sC u 8 n8_60) 0 f_60) 1 g_60) 8 f8_60) 8 g8_60) i_2 (by omega) (80 : Int)  (show 0 ≤ (80 : Int) ∧ (80 : Int) ≤ 80 from (by omega)) (show RB (80 : Int) (sY (sX (sI (sI (sC u 8 n8_60) 0 f_60) 1 g_60) 8 f8_60) 8 g8_60) i_2 from (by first | exact CI_s p0 (by omega) | exact CI_s hCI (by omega)))) mf_X7_area kw_517 hG hP hP (ci := 7) (q0 := (9 + 5 * i_2)) rfl (cw_ring (by omega)) rfl rfl hl.1 ⟨⟨Nat.le_of_ble_eq_true rfl, Nat.le_of_ble_eq_true rfl⟩, Nat.le_of_ble_eq_true rfl, Nat.le_refl _, Nat.le_refl _⟩ rfl dX11_mixed_77 (fun z_77 h_77 => ?_)
          have h_77 : z_77 = rA (sY (sX (sI (sI (sC u 8 n8_60) 0 f_60) 1 g_60) 8 f8_60) 8 g8_60) i_2 ∧ -10000000 ≤ z_77 ∧ z_77 ≤ 10000000 := h_77
          refine j_isub SS (x := z_70) (y := z_77) dX11_mixed_80 ?_
          refine lv_aload SS.1 SS.2.1 dX11_mixed_81 (lv_at hl 0 rfl) ?_
          refine j_get SS hG hP (8 + 5 * i_8) (v := .ref (q (9 + 5 * i_8))) (C := RX10) (T := TX10) (N := 3) (cw_shape (by omega)) rfl inX10 0 (by decide) (ref := "GridPolygons$Shape") kw_151 rfl rfl dX11_mixed_83 ?_
          refine j_vRi SS (As := []) (rest := [.int (J (z_70 - z_77))]) (c_X7_area l D q (sY (sX (sI (sI (sC u 8 n8_60) 0 f_60) 1 g_60) 8 f8_60) 8 g8_60) i_8 (by omega) (80 : Int)  (show 0 ≤ (80 : Int) ∧ (80 : Int) ≤ 80 from (by omega)) (show RB (80 : Int) (sY (sX (sI (sI (sC u 8 n8_60) 0 f_60) 1 g_60) 8 f8_60) 8 g8_60) i_8 from (by first | exact CI_s p0 (by omega) | exact CI_s hCI (by omega)))) mf_X7_area kw_517 hG hP hP (ci := 7) (q0 := (9 + 5 * i_8)) rfl (cw_ring (by omega)) rfl rfl hl.1 ⟨⟨Nat.le_of_ble_eq_true rfl, Nat.le_of_ble_eq_true rfl⟩, Nat.le_of_ble_eq_true rfl, Nat.le_refl _, Nat.le_refl _⟩ rfl dX11_mixed_86 (fun z_86 h_86 => ?_)
          have h_86 : z_86 = rA (sY (sX (sI (sI (sC u 8 n8_60) 0 f_60) 1 g_60) 8 f8_60) 8 g8_60) i_8 ∧ -10000000 ≤ z_86 ∧ z_86 ≤ 10000000 := h_86
          refine j_isub SS (x := (z_70 - z_77)) (y := z_86) dX11_mixed_89 ?_
          exact W.iret SS.1 SS.2.1 hr (fun t0 ht hW => ⟨⟨_, (sY (sX (sI (sI (sC u 8 n8_60) 0 f_60) 1 g_60) 8 f8_60) 8 g8_60), rfl, ⟨((z_70 - z_77) - z_86), rfl, (⟨hCI, ⟨Or.inr ⟨by omega, Or.inr ⟨by rw [show s.toNat = i_2 by omega, show s2.toNat = i_8 by omega]; omega, by rw [show s.toNat = i_2 by omega, show s2.toNat = i_8 by omega]; have e1 : z_70 = hAr n8_60 f8_60 g8_60 := h_70.1.trans ((rA_h hCI.2.1.1).trans (hAr_c rfl (fun a _ => ⟨rfl, rfl⟩))); have e2 : z_77 = rA u i_2 := h_77.1.trans (rA_s (u := u) (by exact ⟨if_neg (by omega), if_neg (by omega), if_neg (by omega)⟩)); have e3 : z_86 = rA u i_8 := h_86.1.trans (rA_s (u := u) (by exact ⟨if_neg (by omega), if_neg (by omega), if_neg (by omega)⟩)); exact ⟨_, _, _, h_60.2.2.2, by rw [e1, e2, e3]⟩⟩⟩, by unfold wRg; omega⟩, (by first | exact cs_refl | exact (fun r hr => ⟨if_neg (by omega), if_neg (by omega), if_neg (by omega)⟩))⟩)⟩, by show va_P D.1 j_cl (cW D q (sY (sX (sI (sI (sC u 8 n8_60) 0 f_60) 1 g_60) 8 f8_60) 8 g8_60)) t0.heap; rw [ht]; first | exact hP | (simp only [sC_id, sX_id, sY_id, sH_id, sT_id, sV_id]; exact hP)⟩, hS.F ht⟩) hS.2.2 dX11_mixed_90 hlk
        · skip
          refine j_iconst SS dX11_mixed_45 ?_
          exact W.iret SS.1 SS.2.1 hr (fun t0 ht hW => ⟨⟨_, u, rfl, ⟨0, rfl, (⟨p0, ⟨Or.inr ⟨by omega, Or.inl ⟨by first | exact Or.inl (by rw [show s.toNat = i_2 by omega]; omega) | exact Or.inr (by rw [show s2.toNat = i_8 by omega]; omega), rfl⟩⟩, by unfold wRg; omega⟩, cs_refl⟩)⟩, by show va_P D.1 j_cl (cW D q u) t0.heap; rw [ht]; first | exact hP | (simp only [sC_id, sX_id, sY_id, sH_id, sT_id, sV_id]; exact hP)⟩, hS.F ht⟩) hS.2.2 dX11_mixed_46 hlk
    · skip
      refine lv_astoreN (lv' := [(4, .null), (3, .ref (q (8 + 5 * i_2))), (0, .ref (q 0)), (1, .int (J s)), (2, .int (J s2))]) SS.1 SS.2.1 dX11_mixed_11 hl (by decide) rfl (fun ls hl => ?_)
      refine lv_aload_n SS.1 SS.2.1 dX11_mixed_13 rfl (lv_at hl 1 rfl) ?_
      refine lv_ifnull SS.1 SS.2.1 dX11_mixed_14 ?_
      refine lv_aloadN SS.1 SS.2.1 dX11_mixed_17 (lv_at hl 0 rfl) ?_
      refine lv_ifnonnullN SS.1 SS.2.1 dX11_mixed_19 ?_
      refine j_iconst SS dX11_mixed_22 ?_
      exact W.iret SS.1 SS.2.1 hr (fun t0 ht hW => ⟨⟨_, u, rfl, ⟨(-1), rfl, (⟨p0, ⟨Or.inl ⟨by omega, rfl⟩, by unfold wRg; omega⟩, cs_refl⟩)⟩, by show va_P D.1 j_cl (cW D q u) t0.heap; rw [ht]; first | exact hP | (simp only [sC_id, sX_id, sY_id, sH_id, sT_id, sV_id]; exact hP)⟩, hS.F ht⟩) hS.2.2 dX11_mixed_23 hlk
  · skip
    refine lv_astore_nN (lv' := [(3, .null), (0, .ref (q 0)), (1, .int (J s)), (2, .int (J s2))]) SS.1 SS.2.1 dX11_mixed_5 rfl hl (by decide) rfl (fun ls hl => ?_)
    refine lv_aload_n SS.1 SS.2.1 dX11_mixed_6 rfl (lv_at hl 1 rfl) ?_
    refine lv_iload_n SS.1 SS.2.1 dX11_mixed_7 rfl (lv_at hl 3 rfl) ?_
    refine j_vSh SS (As := [.int (J s2)]) (rest := []) (c_X11_shapeAt l D q u  s2 (show -2147483648 ≤ s2 ∧ s2 ≤ 2147483647 from (p2))) mf_X11_shapeAt kw_414 hG hP hP (ci := 11) (q0 := 0) rfl rfl rfl rfl hl.1 ⟨⟨Nat.le_of_ble_eq_true rfl, Nat.le_of_ble_eq_true rfl⟩, Nat.le_of_ble_eq_true rfl, Nat.le_refl _, Nat.le_refl _⟩ rfl dX11_mixed_8 (fun i_8 hi_8 hz_8 => ?_) (fun hn_8 => ?_)
    · skip
      have hI8c := (CI_s p0 (show i_8 < 8 by omega)).1
      have hrl8 := rl_s (show i_8 < 8 by omega)
      refine lv_astore (lv' := [(4, .ref (q (8 + 5 * i_8))), (3, .null), (0, .ref (q 0)), (1, .int (J s)), (2, .int (J s2))]) SS.1 SS.2.1 dX11_mixed_11 hl (by decide) rfl (fun ls hl => ?_)
      refine lv_aload_nN SS.1 SS.2.1 dX11_mixed_13 rfl (lv_at hl 1 rfl) ?_
      refine lv_ifnullN SS.1 SS.2.1 (tgt := 22) dX11_mixed_14 (by decide) ?_
      refine j_iconst SS dX11_mixed_22 ?_
      exact W.iret SS.1 SS.2.1 hr (fun t0 ht hW => ⟨⟨_, u, rfl, ⟨(-1), rfl, (⟨p0, ⟨Or.inl ⟨by omega, rfl⟩, by unfold wRg; omega⟩, cs_refl⟩)⟩, by show va_P D.1 j_cl (cW D q u) t0.heap; rw [ht]; first | exact hP | (simp only [sC_id, sX_id, sY_id, sH_id, sT_id, sV_id]; exact hP)⟩, hS.F ht⟩) hS.2.2 dX11_mixed_23 hlk
    · skip
      refine lv_astoreN (lv' := [(4, .null), (3, .null), (0, .ref (q 0)), (1, .int (J s)), (2, .int (J s2))]) SS.1 SS.2.1 dX11_mixed_11 hl (by decide) rfl (fun ls hl => ?_)
      refine lv_aload_nN SS.1 SS.2.1 dX11_mixed_13 rfl (lv_at hl 1 rfl) ?_
      refine lv_ifnullN SS.1 SS.2.1 (tgt := 22) dX11_mixed_14 (by decide) ?_
      refine j_iconst SS dX11_mixed_22 ?_
      exact W.iret SS.1 SS.2.1 hr (fun t0 ht hW => ⟨⟨_, u, rfl, ⟨(-1), rfl, (⟨p0, ⟨Or.inl ⟨by omega, rfl⟩, by unfold wRg; omega⟩, cs_refl⟩)⟩, by show va_P D.1 j_cl (cW D q u) t0.heap; rw [ht]; first | exact hP | (simp only [sC_id, sX_id, sY_id, sH_id, sT_id, sV_id]; exact hP)⟩, hS.F ht⟩) hS.2.2 dX11_mixed_23 hlk

set_option maxHeartbeats 4000000 in
set_option maxRecDepth 100000 in
theorem c_X12_mixed2 (l : Launch) (D : JD) (o : Nat) (q : Nat → Nat) (u : MS) (A : Nat → Prop) (hD : va_D A (mW D o q u)) (s : Int) (s2 : Int) (p0 : IM u) (p1 : -2147483648 ≤ s ∧ s ≤ 2147483647) (p2 : -2147483648 ≤ s2 ∧ s2 ≤ 2147483647) : Met l yX12_mixed (jw yX12_mixed cX12_mixed 6 (some .int)) (jr 4 92) (jP [.ref o, .int (J s), .int (J s2)] D (fun H => va_P D.1 j_cl (mW D o q u) H)) (jWi (fun z u' => ∃ f4 : Nat → Int, ∃ f5 : Nat → Int, ∃ w : Int, ∃ X : Nat → Int, ∃ Y : Nat → Int, ∃ nh : Int, u' = (uV (uI (uI (uV (uI (uI u 4 f4) 5 f5) 6 w) 7 X) 8 Y) 9 nh) ∧ (IM u' ∧ mxM u s s2 z)) (fun u' H => va_P D.1 j_cl (mW D o q u') H) A) 0 0 A := by
  refine Met.ofW (cc := cX12_mixed) (maxL := 6) (ret := (some .int)) (by decide) rfl ?_
  intro pr en st mi args below meth co s₁ B hml hv
  obtain ⟨rfl, hG, hP⟩ := hv
  have hr := B.returns
  have hlk := B.notSynchronized
  have SS : jS pr mi co cX12_mixed 6 st _ RX12 := ⟨B.exec, B.bytes, hml, findClass_of_methodNamed B.named, fun w hw => atoms_spec (ws := (jw yX12_mixed cX12_mixed 6 (some .int))) B.pre w (List.mem_cons_of_mem _ hw)⟩
  have hl := lv_entry ([.ref o, .int (J s), .int (J s2)]) (n := 6) (Nat.le_of_ble_eq_true rfl)
  rw [lg_entry_eq]
  generalize (lg_sl ([.ref o, .int (J s), .int (J s2)]) ++ List.replicate (6 - (lg_sl ([.ref o, .int (J s), .int (J s2)])).length) Slot.unset).toArray = ls at hl ⊢
  have hl : lv_has ls 6 [(0, .ref o), (1, .int (J s)), (2, .int (J s2))] := hl
  have hS : va_S A st.heap st.heap [] := va_S.rf
  refine lv_iload_n SS.1 SS.2.1 dX12_mixed_0 rfl (lv_at hl 1 rfl) ?_
  refine j_sRi SS (As := [.int (J s)]) (rest := []) (c_X12_isShape l D s (show -2147483648 ≤ s ∧ s ≤ 2147483647 from (by omega))) mf_X12_isShape kw_1156 hG trivial rfl hl.1 ⟨⟨Nat.le_of_ble_eq_true rfl, Nat.le_of_ble_eq_true rfl⟩, Nat.le_of_ble_eq_true rfl, Nat.le_refl _, Nat.le_refl _⟩ rfl dX12_mixed_1 (fun z_1 h_1 => ?_)
  have h_1 : (z_1 = 1 ∧ (0 ≤ s ∧ s ≤ 7)) ∨ (z_1 = 0 ∧ ¬ (0 ≤ s ∧ s ≤ 7)) := h_1
  refine j_if_eq SS (tgt := 14) (x := z_1) dX12_mixed_4 (by decide) (by omega) (fun c_4 => ?_) (fun c_4 => ?_)
  · skip
    refine j_iconst SS dX12_mixed_14 ?_
    exact W.iret SS.1 SS.2.1 hr (fun t ht hW => ⟨⟨_, (uV (uI (uI (uV (uI (uI u 4 (u.1 4)) 5 (u.1 5)) 6 (u.2.2 6)) 7 (u.1 7)) 8 (u.1 8)) 9 (u.2.2 9)), rfl, ⟨(-1), rfl, (⟨(u.1 4), (u.1 5), (u.2.2 6), (u.1 7), (u.1 8), (u.2.2 9), rfl, by first | exact ⟨p0, Or.inl ⟨by omega, rfl⟩⟩ | exact ⟨p0, Or.inr ⟨by omega, Or.inl ⟨by omega, rfl⟩⟩⟩ | exact ⟨p0, Or.inr ⟨by omega, Or.inr ⟨by omega, nh_39, X_39, Y_39, a7, by rw [h_110.1, h_116.1, i47_1, show i = nh_39 by omega]; rfl⟩⟩⟩⟩)⟩, by show va_P D.1 j_cl (mW D o q (uV (uI (uI (uV (uI (uI u 4 (u.1 4)) 5 (u.1 5)) 6 (u.2.2 6)) 7 (u.1 7)) 8 (u.1 8)) 9 (u.2.2 9))) t.heap; rw [ht]; exact hP⟩, hS.F ht⟩) hS.2.2 dX12_mixed_15 hlk
  · skip
    refine lv_iload_n SS.1 SS.2.1 dX12_mixed_7 rfl (lv_at hl 2 rfl) ?_
    refine j_sRi SS (As := [.int (J s2)]) (rest := []) (c_X12_isShape l D s2 (show -2147483648 ≤ s2 ∧ s2 ≤ 2147483647 from (by omega))) mf_X12_isShape kw_1156 hG trivial rfl hl.1 ⟨⟨Nat.le_of_ble_eq_true rfl, Nat.le_of_ble_eq_true rfl⟩, Nat.le_of_ble_eq_true rfl, Nat.le_refl _, Nat.le_refl _⟩ rfl dX12_mixed_8 (fun z_8 h_8 => ?_)
    have h_8 : (z_8 = 1 ∧ (0 ≤ s2 ∧ s2 ≤ 7)) ∨ (z_8 = 0 ∧ ¬ (0 ≤ s2 ∧ s2 ≤ 7)) := h_8
    refine j_if_ne SS (tgt := 16) (x := z_8) dX12_mixed_11 (by decide) (by omega) (fun c_11 => ?_) (fun c_11 => ?_)
    · skip
      refine lv_aload_n SS.1 SS.2.1 dX12_mixed_16 rfl (lv_at hl 0 rfl) ?_
      refine j_get SS hG hP 0 (v := .ref (q 0)) (C := RX12) (T := TX12) (N := 31) rfl rfl inX12 0 (by decide) (ref := RX12) kw_1058 rfl rfl dX12_mixed_17 ?_
      refine lv_iload_n SS.1 SS.2.1 dX12_mixed_20 rfl (lv_at hl 1 rfl) ?_
      refine j_iald SS hG hP 1 (n := 8) (f := (u.1 0)) rfl (z := s) (by omega) (by omega) dX12_mixed_21 ?_
      have hN_21 := (show Sh u s from p0.1 _ (by omega) (by omega)).1
      refine j_if_eq SS (tgt := 34) (x := (mN u s)) dX12_mixed_22 (by decide) (by omega) (fun c_22 => ?_) (fun c_22 => ?_)
      · skip
        refine j_iconst SS dX12_mixed_34 ?_
        exact W.iret SS.1 SS.2.1 hr (fun t ht hW => ⟨⟨_, (uV (uI (uI (uV (uI (uI u 4 (u.1 4)) 5 (u.1 5)) 6 (u.2.2 6)) 7 (u.1 7)) 8 (u.1 8)) 9 (u.2.2 9)), rfl, ⟨0, rfl, (⟨(u.1 4), (u.1 5), (u.2.2 6), (u.1 7), (u.1 8), (u.2.2 9), rfl, by first | exact ⟨p0, Or.inl ⟨by omega, rfl⟩⟩ | exact ⟨p0, Or.inr ⟨by omega, Or.inl ⟨by omega, rfl⟩⟩⟩ | exact ⟨p0, Or.inr ⟨by omega, Or.inr ⟨by omega, nh_39, X_39, Y_39, a7, by rw [h_110.1, h_116.1, i47_1, show i = nh_39 by omega]; rfl⟩⟩⟩⟩)⟩, by show va_P D.1 j_cl (mW D o q (uV (uI (uI (uV (uI (uI u 4 (u.1 4)) 5 (u.1 5)) 6 (u.2.2 6)) 7 (u.1 7)) 8 (u.1 8)) 9 (u.2.2 9))) t.heap; rw [ht]; exact hP⟩, hS.F ht⟩) hS.2.2 dX12_mixed_35 hlk
      · skip
        refine lv_aload_n SS.1 SS.2.1 dX12_mixed_25 rfl (lv_at hl 0 rfl) ?_
        refine j_get SS hG hP 0 (v := .ref (q 0)) (C := RX12) (T := TX12) (N := 31) rfl rfl inX12 0 (by decide) (ref := RX12) kw_1058 rfl rfl dX12_mixed_26 ?_
        refine lv_iload_n SS.1 SS.2.1 dX12_mixed_29 rfl (lv_at hl 2 rfl) ?_
        refine j_iald SS hG hP 1 (n := 8) (f := (u.1 0)) rfl (z := s2) (by omega) (by omega) dX12_mixed_30 ?_
        have hN_30 := (show Sh u s2 from p0.1 _ (by omega) (by omega)).1
        refine j_if_ne SS (tgt := 36) (x := (mN u s2)) dX12_mixed_31 (by decide) (by omega) (fun c_31 => ?_) (fun c_31 => ?_)
        · skip
          refine lv_aload_n SS.1 SS.2.1 dX12_mixed_36 rfl (lv_at hl 0 rfl) ?_
          refine lv_iload_n SS.1 SS.2.1 dX12_mixed_37 rfl (lv_at hl 1 rfl) ?_
          refine lv_iload_n SS.1 SS.2.1 dX12_mixed_38 rfl (lv_at hl 2 rfl) ?_
          refine j_vWv SS (As := [.int (J s), .int (J s2)]) (rest := []) (c_X12_findSum2 l D o q u A (mW_D hD) s s2 (show 0 ≤ s ∧ s ≤ 7 from (by omega)) (show Sh u s from (p0.1 _ (by omega) (by omega))) (show 0 ≤ s2 ∧ s2 ≤ 7 from (by omega)) (show Sh u s2 from (p0.1 _ (by omega) (by omega)))) mf_X12_findSum kw_1317 hG hP hP (ci := 8) (q0 := 0) rfl rfl rfl hS (fun _ h => h) rfl hl.1 ⟨⟨Nat.le_of_ble_eq_true rfl, Nat.le_of_ble_eq_true rfl⟩, Nat.le_of_ble_eq_true rfl, Nat.le_refl _, Nat.le_refl _⟩ rfl dX12_mixed_39 (fun u39 H locs h_39 hP _ hS => ?_)
          obtain ⟨f_39, g_39, w_39, X_39, Y_39, nh_39, rfl, h_39⟩ := h_39
          have hP : va_P D.1 j_cl (mW D o q (uV (uI (uI (uV (uI (uI u 4 f_39) 5 g_39) 6 w_39) 7 X_39) 8 Y_39) 9 nh_39)) H := hP
          have h_39 : 0 ≤ nh_39 ∧ nh_39 ≤ 1290 ∧ Ch nh_39 X_39 Y_39 ∧ bd 10000 X_39 Y_39 nh_39 ∧ bd 80 X_39 Y_39 nh_39 ∧ HS (SM (SP u s) (SP u s2)) nh_39 X_39 Y_39 := h_39
          obtain ⟨a1, a2, a3, a4, a5, a7⟩ := h_39
          refine j_iconst SS dX12_mixed_42 ?_
          refine lv_istore_n (lv' := [(3, .int (J 0)), (0, .ref o), (1, .int (J s)), (2, .int (J s2))]) SS.1 SS.2.1 dX12_mixed_43 rfl hl (by decide) rfl (fun ls hl => ?_)
          refine j_iconst SS dX12_mixed_44 ?_
          refine lv_istore (lv' := [(4, .int (J 0)), (3, .int (J 0)), (0, .ref o), (1, .int (J s)), (2, .int (J s2))]) SS.1 SS.2.1 dX12_mixed_45 hl (by decide) rfl (fun ls hl => ?_)
          have L_47 : ∀ (nn : Nat) (t3 : Int) (i : Int) (H : Heap) (locs : List Loc) (hP : va_P D.1 j_cl (mW D o q (uV (uI (uI (uV (uI (uI u 4 f_39) 5 g_39) 6 w_39) 7 X_39) 8 Y_39) 9 nh_39)) H) (hS : va_S A st.heap H locs) (ls : Array Slot) (hl : lv_has ls 6 [(0, .ref o), (1, .int (J s)), (2, .int (J s2)), (3, .int (J t3)), (4, .int (J i))]) (i47_0 : 0 ≤ i ∧ i ≤ nh_39) (i47_1 : t3 = smI (fun i => X_39 i.toNat * nxt Y_39 nh_39 i.toNat - nxt X_39 nh_39 i.toNat * Y_39 i.toNat) i), (nh_39 - i).toNat < nn → W pr l en (headSpec (jw yX12_mixed cX12_mixed 6 (some .int)) (jr 4 92)).room st mi (([.ref o, .int (J s), .int (J s2)] : List Value).toArray) below meth co H locs 0 0 (MQ below (jWi (fun z u' => ∃ f4 : Nat → Int, ∃ f5 : Nat → Int, ∃ w : Int, ∃ X : Nat → Int, ∃ Y : Nat → Int, ∃ nh : Int, u' = (uV (uI (uI (uV (uI (uI u 4 f4) 5 f5) 6 w) 7 X) 8 Y) 9 nh) ∧ (IM u' ∧ mxM u s s2 z)) (fun u' H => va_P D.1 j_cl (mW D o q u') H) A) (([.ref o, .int (J s), .int (J s2)] : List Value).toArray) st 0 0 A) (F0 mi 47 ls []) := by
            intro nn
            induction nn with
            | zero => intros; omega
            | succ nn ih_47 =>
              intro t3 i  H locs hP hS ls hl i47_0 i47_1 hm
              refine lv_iload SS.1 SS.2.1 dX12_mixed_47 (lv_at hl 4 rfl) ?_
              refine lv_aload_n SS.1 SS.2.1 dX12_mixed_49 rfl (lv_at hl 0 rfl) ?_
              refine j_get SS hG hP 0 (v := .int (J nh_39)) (C := RX12) (T := TX12) (N := 31) rfl rfl inX12 9 (by decide) (ref := RX12) kw_1067 rfl rfl dX12_mixed_50 ?_
              refine j_icmp_ge SS (tgt := 107) (x := i) (y := nh_39) dX12_mixed_53 (by decide) (by omega) (by omega) (fun c_53 => ?_) (fun c_53 => ?_)
              · skip
                refine lv_iload_n SS.1 SS.2.1 dX12_mixed_107 rfl (lv_at hl 3 rfl) ?_
                refine lv_aload_n SS.1 SS.2.1 dX12_mixed_108 rfl (lv_at hl 0 rfl) ?_
                refine lv_iload_n SS.1 SS.2.1 dX12_mixed_109 rfl (lv_at hl 1 rfl) ?_
                refine j_vRi SS (As := [.int (J s)]) (rest := [.int (J t3)]) (c_X12_areaOf l D o q (uV (uI (uI (uV (uI (uI u 4 f_39) 5 g_39) 6 w_39) 7 X_39) 8 Y_39) 9 nh_39) s (show 0 ≤ s ∧ s ≤ 7 from (by omega)) (show Sh u s from (p0.1 _ (by omega) (by omega)))) mf_X12_areaOf kw_1218 hG hP hP (ci := 8) (q0 := 0) rfl rfl rfl rfl hl.1 ⟨⟨Nat.le_of_ble_eq_true rfl, Nat.le_of_ble_eq_true rfl⟩, Nat.le_of_ble_eq_true rfl, Nat.le_refl _, Nat.le_refl _⟩ rfl dX12_mixed_110 (fun z_110 h_110 => ?_)
                have h_110 : z_110 = mAr u s ∧ -80000 ≤ z_110 ∧ z_110 ≤ 80000 := h_110
                refine j_isub SS (x := t3) (y := z_110) dX12_mixed_113 ?_
                refine lv_aload_n SS.1 SS.2.1 dX12_mixed_114 rfl (lv_at hl 0 rfl) ?_
                refine lv_iload_n SS.1 SS.2.1 dX12_mixed_115 rfl (lv_at hl 2 rfl) ?_
                refine j_vRi SS (As := [.int (J s2)]) (rest := [.int (J (t3 - z_110))]) (c_X12_areaOf l D o q (uV (uI (uI (uV (uI (uI u 4 f_39) 5 g_39) 6 w_39) 7 X_39) 8 Y_39) 9 nh_39) s2 (show 0 ≤ s2 ∧ s2 ≤ 7 from (by omega)) (show Sh u s2 from (p0.1 _ (by omega) (by omega)))) mf_X12_areaOf kw_1218 hG hP hP (ci := 8) (q0 := 0) rfl rfl rfl rfl hl.1 ⟨⟨Nat.le_of_ble_eq_true rfl, Nat.le_of_ble_eq_true rfl⟩, Nat.le_of_ble_eq_true rfl, Nat.le_refl _, Nat.le_refl _⟩ rfl dX12_mixed_116 (fun z_116 h_116 => ?_)
                have h_116 : z_116 = mAr u s2 ∧ -80000 ≤ z_116 ∧ z_116 ≤ 80000 := h_116
                refine j_isub SS (x := (t3 - z_110)) (y := z_116) dX12_mixed_119 ?_
                exact W.iret SS.1 SS.2.1 hr (fun t ht hW => ⟨⟨_, (uV (uI (uI (uV (uI (uI u 4 f_39) 5 g_39) 6 w_39) 7 X_39) 8 Y_39) 9 nh_39), rfl, ⟨((t3 - z_110) - z_116), rfl, (⟨f_39, g_39, w_39, X_39, Y_39, nh_39, rfl, by first | exact ⟨p0, Or.inl ⟨by omega, rfl⟩⟩ | exact ⟨p0, Or.inr ⟨by omega, Or.inl ⟨by omega, rfl⟩⟩⟩ | exact ⟨p0, Or.inr ⟨by omega, Or.inr ⟨by omega, nh_39, X_39, Y_39, a7, by rw [h_110.1, h_116.1, i47_1, show i = nh_39 by omega]; rfl⟩⟩⟩⟩)⟩, by show va_P D.1 j_cl (mW D o q (uV (uI (uI (uV (uI (uI u 4 f_39) 5 g_39) 6 w_39) 7 X_39) 8 Y_39) 9 nh_39)) t.heap; rw [ht]; exact hP⟩, hS.F ht⟩) hS.2.2 dX12_mixed_120 hlk
              · skip
                refine lv_iload SS.1 SS.2.1 dX12_mixed_56 (lv_at hl 4 rfl) ?_
                refine j_iconst SS dX12_mixed_58 ?_
                refine j_iadd SS (x := i) (y := 1) dX12_mixed_59 ?_
                refine lv_aload_n SS.1 SS.2.1 dX12_mixed_60 rfl (lv_at hl 0 rfl) ?_
                have tb := tm_b (i := i + 1) (n := nh_39) (by omega) (by omega)
                refine j_get SS hG hP 0 (v := .int (J nh_39)) (C := RX12) (T := TX12) (N := 31) rfl rfl inX12 9 (by decide) (ref := RX12) kw_1067 rfl rfl dX12_mixed_61 ?_
                refine j_irem SS (x := (i + 1)) (y := nh_39) dX12_mixed_64 (by omega) (by omega) (by omega) ?_
                refine lv_istore (lv' := [(5, .int (J (Int.tmod (i + 1) nh_39))), (0, .ref o), (1, .int (J s)), (2, .int (J s2)), (3, .int (J t3)), (4, .int (J i))]) SS.1 SS.2.1 dX12_mixed_65 hl (by decide) rfl (fun ls hl => ?_)
                refine lv_iload_n SS.1 SS.2.1 dX12_mixed_67 rfl (lv_at hl 4 rfl) ?_
                refine lv_aload_n SS.1 SS.2.1 dX12_mixed_68 rfl (lv_at hl 1 rfl) ?_
                refine j_get SS hG hP 0 (v := .ref (q 7)) (C := RX12) (T := TX12) (N := 31) rfl rfl inX12 7 (by decide) (ref := RX12) kw_1065 rfl rfl dX12_mixed_69 ?_
                refine lv_iload SS.1 SS.2.1 dX12_mixed_72 (lv_at hl 5 rfl) ?_
                refine j_iald SS hG hP 7 (n := 1300) (f := X_39) rfl (z := i) (by omega) (by omega) dX12_mixed_74 ?_
                refine lv_aload_n SS.1 SS.2.1 dX12_mixed_75 rfl (lv_at hl 1 rfl) ?_
                refine j_get SS hG hP 0 (v := .ref (q 8)) (C := RX12) (T := TX12) (N := 31) rfl rfl inX12 8 (by decide) (ref := RX12) kw_1066 rfl rfl dX12_mixed_76 ?_
                refine lv_iload SS.1 SS.2.1 dX12_mixed_79 (lv_at hl 0 rfl) ?_
                refine j_iald SS hG hP 8 (n := 1300) (f := Y_39) rfl (z := (Int.tmod (i + 1) nh_39)) (by omega) (by omega) dX12_mixed_81 ?_
                refine j_imul SS (x := (X_39 (i).toNat)) (y := (Y_39 ((Int.tmod (i + 1) nh_39)).toNat)) dX12_mixed_82 ?_
                refine lv_aload_n SS.1 SS.2.1 dX12_mixed_83 rfl (lv_at hl 1 rfl) ?_
                refine j_get SS hG hP 0 (v := .ref (q 7)) (C := RX12) (T := TX12) (N := 31) rfl rfl inX12 7 (by decide) (ref := RX12) kw_1065 rfl rfl dX12_mixed_84 ?_
                refine lv_iload SS.1 SS.2.1 dX12_mixed_87 (lv_at hl 0 rfl) ?_
                refine j_iald SS hG hP 7 (n := 1300) (f := X_39) rfl (z := (Int.tmod (i + 1) nh_39)) (by omega) (by omega) dX12_mixed_89 ?_
                refine lv_aload_n SS.1 SS.2.1 dX12_mixed_90 rfl (lv_at hl 1 rfl) ?_
                refine j_get SS hG hP 0 (v := .ref (q 8)) (C := RX12) (T := TX12) (N := 31) rfl rfl inX12 8 (by decide) (ref := RX12) kw_1066 rfl rfl dX12_mixed_91 ?_
                refine lv_iload SS.1 SS.2.1 dX12_mixed_94 (lv_at hl 5 rfl) ?_
                refine j_iald SS hG hP 8 (n := 1300) (f := Y_39) rfl (z := i) (by omega) (by omega) dX12_mixed_96 ?_
                refine j_imul SS (x := (X_39 ((Int.tmod (i + 1) nh_39)).toNat)) (y := (Y_39 (i).toNat)) dX12_mixed_97 ?_
                refine j_isub SS (x := ((X_39 (i).toNat) * (Y_39 ((Int.tmod (i + 1) nh_39)).toNat))) (y := ((X_39 ((Int.tmod (i + 1) nh_39)).toNat) * (Y_39 (i).toNat))) dX12_mixed_98 ?_
                refine j_iadd SS (x := t3) (y := (((X_39 (i).toNat) * (Y_39 ((Int.tmod (i + 1) nh_39)).toNat)) - ((X_39 ((Int.tmod (i + 1) nh_39)).toNat) * (Y_39 (i).toNat)))) dX12_mixed_99 ?_
                refine lv_istore_n (lv' := [(3, .int (J (t3 + (((X_39 (i).toNat) * (Y_39 ((Int.tmod (i + 1) nh_39)).toNat)) - ((X_39 ((Int.tmod (i + 1) nh_39)).toNat) * (Y_39 (i).toNat)))))), (5, .int (J (Int.tmod (i + 1) nh_39))), (0, .ref o), (1, .int (J s)), (2, .int (J s2)), (4, .int (J i))]) SS.1 SS.2.1 dX12_mixed_100 rfl hl (by decide) rfl (fun ls hl => ?_)
                refine lv_iinc (v := J (i + 1)) (lv' := [(4, .int (J (i + 1))), (3, .int (J (t3 + (((X_39 (i).toNat) * (Y_39 ((Int.tmod (i + 1) nh_39)).toNat)) - ((X_39 ((Int.tmod (i + 1) nh_39)).toNat) * (Y_39 (i).toNat)))))), (5, .int (J (Int.tmod (i + 1) nh_39))), (0, .ref o), (1, .int (J s)), (2, .int (J s2))]) SS.1 SS.2.1 dX12_mixed_101 hl (k := 5) rfl (J_add _ _) (by decide) rfl (fun ls hl => ?_)
                refine lv_goto (tgt := 47) SS.1 SS.2.1 dX12_mixed_104 (by decide) ?_
                exact ih_47 (t3 + (((X_39 (i).toNat) * (Y_39 ((Int.tmod (i + 1) nh_39)).toNat)) - ((X_39 ((Int.tmod (i + 1) nh_39)).toNat) * (Y_39 (i).toNat)))) (i + 1) _ _ hP hS ls (lv_sub hl [3, 4, 5, 1, 0] rfl) (by omega) (by rw [smI_s i47_0.1, ← i47_1, ← nxt_tm (X := X_39) (n := nh_39) (i := i) (by omega), ← nxt_tm (X := Y_39) (n := nh_39) (i := i) (by omega)]) (by omega)
          exact L_47 ((nh_39 - (0 : Int)).toNat + 1) 0 0 _ _ hP hS ls (lv_sub hl [2, 3, 4, 1, 0] rfl) (by omega) (by first | exact smI_0.symm | skip) (Nat.lt_succ_self _)
        · skip
          refine j_iconst SS dX12_mixed_34 ?_
          exact W.iret SS.1 SS.2.1 hr (fun t ht hW => ⟨⟨_, (uV (uI (uI (uV (uI (uI u 4 (u.1 4)) 5 (u.1 5)) 6 (u.2.2 6)) 7 (u.1 7)) 8 (u.1 8)) 9 (u.2.2 9)), rfl, ⟨0, rfl, (⟨(u.1 4), (u.1 5), (u.2.2 6), (u.1 7), (u.1 8), (u.2.2 9), rfl, by first | exact ⟨p0, Or.inl ⟨by omega, rfl⟩⟩ | exact ⟨p0, Or.inr ⟨by omega, Or.inl ⟨by omega, rfl⟩⟩⟩ | exact ⟨p0, Or.inr ⟨by omega, Or.inr ⟨by omega, nh_39, X_39, Y_39, a7, by rw [h_110.1, h_116.1, i47_1, show i = nh_39 by omega]; rfl⟩⟩⟩⟩)⟩, by show va_P D.1 j_cl (mW D o q (uV (uI (uI (uV (uI (uI u 4 (u.1 4)) 5 (u.1 5)) 6 (u.2.2 6)) 7 (u.1 7)) 8 (u.1 8)) 9 (u.2.2 9))) t.heap; rw [ht]; exact hP⟩, hS.F ht⟩) hS.2.2 dX12_mixed_35 hlk
    · skip
      refine j_iconst SS dX12_mixed_14 ?_
      exact W.iret SS.1 SS.2.1 hr (fun t ht hW => ⟨⟨_, (uV (uI (uI (uV (uI (uI u 4 (u.1 4)) 5 (u.1 5)) 6 (u.2.2 6)) 7 (u.1 7)) 8 (u.1 8)) 9 (u.2.2 9)), rfl, ⟨(-1), rfl, (⟨(u.1 4), (u.1 5), (u.2.2 6), (u.1 7), (u.1 8), (u.2.2 9), rfl, by first | exact ⟨p0, Or.inl ⟨by omega, rfl⟩⟩ | exact ⟨p0, Or.inr ⟨by omega, Or.inl ⟨by omega, rfl⟩⟩⟩ | exact ⟨p0, Or.inr ⟨by omega, Or.inr ⟨by omega, nh_39, X_39, Y_39, a7, by rw [h_110.1, h_116.1, i47_1, show i = nh_39 by omega]; rfl⟩⟩⟩⟩)⟩, by show va_P D.1 j_cl (mW D o q (uV (uI (uI (uV (uI (uI u 4 (u.1 4)) 5 (u.1 5)) 6 (u.2.2 6)) 7 (u.1 7)) 8 (u.1 8)) 9 (u.2.2 9))) t.heap; rw [ht]; exact hP⟩, hS.F ht⟩) hS.2.2 dX12_mixed_15 hlk


/-! sums round about -/
/-- the area by the numbers of the corners, taken round about -/
def ar0 (X Y : Int → Int) (n : Int) : Int := smI (fun i => X (i % n) * Y ((i + 1) % n) - X ((i + 1) % n) * Y (i % n)) n
/-- a linear map takes the corners of one, from its first one on, to those of the other, from j on or back -/
def AF (PX PY QX QY : Int → Int) (n j t a b c e : Int) : Prop := ∀ i : Int, 0 ≤ i → i < n → a * (PX i - PX 0) + b * (PY i - PY 0) = QX ((j + t * i) % n) - QX j ∧ c * (PX i - PX 0) + e * (PY i - PY 0) = QY ((j + t * i) % n) - QY j
def AFF (PX PY QX QY : Int → Int) (n j t : Int) : Prop := ∃ a b c e : Int, (a * e - b * c = 1 ∨ a * e - b * c = -1) ∧ AF PX PY QX QY n j t a b c e
def AFC (PX PY QX QY : Int → Int) (n j t : Int) : Prop := ∃ a b c e : Int, a * e - b * c = t ∧ AF PX PY QX QY n j t a b c e
theorem tmn {x n : Int} (hn : 0 < n) (h : 0 ≤ x + n) : (x + n).tmod n = x % n := by
  rw [Int.tmod_eq_emod_of_nonneg h, Int.add_emod_right]
theorem tmn2 {x n : Int} (hn : 0 < n) (h : 0 ≤ x + 2 * n) : (x + 2 * n).tmod n = x % n := by
  rw [Int.tmod_eq_emod_of_nonneg h, Int.add_mul_emod_self_right]
theorem tmn3 {x n : Int} (hn : 0 < n) : (x.tmod n + n).tmod n = x % n := by
  have t := tm_c (a := x) hn
  rw [tmn hn (by omega)]
  have e := Int.mul_tdiv_add_tmod x n
  have : x % n = (n * x.tdiv n + x.tmod n) % n := by rw [e]
  rw [this, Int.mul_add_emod_self_left]
theorem ar_m {u : CS} {r : Nat} {i t : Int} (h : 0 ≤ i ∧ i < u.1.2.2.1 r) (ht : t = 1 ∨ t = -1) : ar u r i t = (i + t) % u.1.2.2.1 r := by
  unfold ar
  by_cases a : u.1.2.2.1 r ≤ i + t
  · rw [if_pos a, show i + t = u.1.2.2.1 r by omega, Int.emod_self]
  · rw [if_neg a]
    by_cases b : i + t < 0
    · rw [if_pos b, ← Int.add_emod_right, Int.emod_eq_of_lt (by omega) (by omega)]
      omega
    · rw [if_neg b, Int.emod_eq_of_lt (by omega) (by omega)]
theorem ar_m2 {u : CS} {r : Nat} {s i t : Int} (hn : 0 < u.1.2.2.1 r) (ht : t = 1 ∨ t = -1) : ar u r ((s + t * i) % u.1.2.2.1 r) t = (s + t * (i + 1)) % u.1.2.2.1 r := by
  rw [ar_m ⟨Int.emod_nonneg _ (by omega), Int.emod_lt_of_pos _ hn⟩ ht, Int.emod_add_emod, Int.mul_add, Int.mul_one, Int.add_assoc]
/-- a matrix is told by two places -/
theorem mat_q {ux uy vx vy px qx a b d : Int} (hd : d = ux * vy - uy * vx) (h1 : a * ux + b * uy = px) (h2 : a * vx + b * vy = qx) : px * vy - qx * uy = a * d ∧ qx * ux - px * vx = b * d := by
  subst hd; subst h1; subst h2
  exact ⟨by grind, by grind⟩
theorem mat_t {a d v : Int} (hd : d ≠ 0) (h : v = a * d) : v.tmod d = 0 ∧ v.tdiv d = a := by
  rw [h]
  exact ⟨Int.mul_tmod_left a d, Int.mul_tdiv_cancel a hd⟩
/-! counting -/
def CN2 (F G : Nat → Prop) : Nat → Int → Prop
  | 0, z => z = 0
  | n + 1, z => ∃ w a b : Int, CN2 F G n w ∧ ((a = 1 ∧ F n) ∨ (a = 0 ∧ ¬ F n)) ∧ ((b = 1 ∧ G n) ∨ (b = 0 ∧ ¬ G n)) ∧ z = w + a + b
def CN1 (F G : Nat → Prop) : Nat → Int → Prop
  | 0, z => z = 0
  | n + 1, z => ∃ w a : Int, CN1 F G n w ∧ ((a = 1 ∧ F n) ∨ (a = 0 ∧ G n)) ∧ z = w + a
def cAF (u : CS) (r r2 : Nat) (j t : Int) : Prop := AFC (rx u r) (ry9 u r) (rx u r2) (ry9 u r2) (u.1.2.2.1 r) j t
/-- the corners beside a corner span with it -/
def cWh (u : CS) (r : Nat) : Int := (rx u r 1 - rx u r 0) * (ry9 u r (u.1.2.2.1 r - 1) - ry9 u r 0) - (ry9 u r 1 - ry9 u r 0) * (rx u r (u.1.2.2.1 r - 1) - rx u r 0)
def mbC (u : CS) (r r2 : Nat) (z : Int) : Prop := (¬ (u.1.2.2.1 r = u.1.2.2.1 r2 ∧ rA u r = rA u r2) ∧ z = 0) ∨ ((u.1.2.2.1 r = u.1.2.2.1 r2 ∧ rA u r = rA u r2) ∧ CN2 (fun k => cWh u r ≠ 0 ∧ cAF u r r2 k 1) (fun k => cWh u r ≠ 0 ∧ cAF u r r2 k (-1)) (u.1.2.2.1 r2).toNat z)
def alC (u : CS) (r r2 : Nat) (z : Int) : Prop := (¬ (3 ≤ u.1.2.2.1 r ∧ 3 ≤ u.1.2.2.1 r2) ∧ ((z = 1 ∧ u.1.2.2.1 r = u.1.2.2.1 r2 ∧ rE u r = rE u r2) ∨ (z = 0 ∧ ¬ (u.1.2.2.1 r = u.1.2.2.1 r2 ∧ rE u r = rE u r2)))) ∨ ((3 ≤ u.1.2.2.1 r ∧ 3 ≤ u.1.2.2.1 r2) ∧ ∃ w : Int, mbC u r r2 w ∧ ((z = 1 ∧ 0 < w) ∨ (z = 0 ∧ w ≤ 0)))
def maC (u : CS) (s t z : Int) : Prop := (¬ ((0 ≤ s ∧ s ≤ 7) ∧ 0 ≤ t ∧ t ≤ 7) ∧ z = -1) ∨ (((0 ≤ s ∧ s ≤ 7) ∧ 0 ≤ t ∧ t ≤ 7) ∧ ((¬ (3 ≤ u.1.2.2.1 s.toNat ∧ 3 ≤ u.1.2.2.1 t.toNat) ∧ z = -2) ∨ ((3 ≤ u.1.2.2.1 s.toNat ∧ 3 ≤ u.1.2.2.1 t.toNat) ∧ mbC u s.toNat t.toNat z)))
def akC (u : CS) (s t z : Int) : Prop := (¬ ((0 ≤ s ∧ s ≤ 7) ∧ 0 ≤ t ∧ t ≤ 7) ∧ z = -1) ∨ (((0 ≤ s ∧ s ≤ 7) ∧ 0 ≤ t ∧ t ≤ 7) ∧ alC u s.toNat t.toNat z)
def nhC (u : CS) (i : Nat) : Prop := 3 ≤ u.1.2.2.1 i ∧ ∀ j : Nat, j < i → alC u i j 0
def ohC (u : CS) (i : Nat) : Prop := u.1.2.2.1 i < 3 ∨ ∃ j : Nat, j < i ∧ alC u i j 1
def heC (u : CS) (z : Int) : Prop := CN1 (nhC u) (ohC u) 8 z
/-! the reference -/
def mAF (v : MS) (s o j t : Int) : Prop := AFF (mX v s) (mY v s) (mX v o) (mY v o) (mN v s) j t
def mbM (v : MS) (s o z : Int) : Prop := (mN v s ≠ mN v o ∧ z = 0) ∨ (mN v s = mN v o ∧ CN2 (fun k => mAF v s o k 1) (fun k => mAF v s o k (-1)) (mN v s).toNat z)
def alM (v : MS) (s o z : Int) : Prop := (¬ (2 < mN v s ∧ 2 < mN v o) ∧ ((z = 1 ∧ mN v s = mN v o ∧ (mN v s ≠ 2 ∨ mEd v s = mEd v o)) ∨ (z = 0 ∧ ¬ (mN v s = mN v o ∧ (mN v s ≠ 2 ∨ mEd v s = mEd v o))))) ∨ ((2 < mN v s ∧ 2 < mN v o) ∧ ∃ w : Int, mbM v s o w ∧ ((z = 1 ∧ 0 < w) ∨ (z = 0 ∧ w ≤ 0)))
def maM (v : MS) (s t z : Int) : Prop := (¬ ((0 ≤ s ∧ s ≤ 7) ∧ 0 ≤ t ∧ t ≤ 7) ∧ z = -1) ∨ (((0 ≤ s ∧ s ≤ 7) ∧ 0 ≤ t ∧ t ≤ 7) ∧ ((¬ (2 < mN v s ∧ 2 < mN v t) ∧ z = -2) ∨ ((2 < mN v s ∧ 2 < mN v t) ∧ mbM v s t z)))
def akM (v : MS) (s t z : Int) : Prop := (¬ ((0 ≤ s ∧ s ≤ 7) ∧ 0 ≤ t ∧ t ≤ 7) ∧ z = -1) ∨ (((0 ≤ s ∧ s ≤ 7) ∧ 0 ≤ t ∧ t ≤ 7) ∧ alM v s t z)
def nhM (v : MS) (i : Nat) : Prop := 2 < mN v i ∧ ∀ j : Nat, j < i → alM v i j 0
def ohM (v : MS) (i : Nat) : Prop := mN v i ≤ 2 ∨ ∃ j : Nat, j < i ∧ alM v i j 1
def heM (v : MS) (z : Int) : Prop := CN1 (nhM v) (ohM v) 8 z
/-! both -/
theorem w6 {S : Int → Int → Prop} {n : Int} {X Y : Nat → Int} (h : HS S n X Y) (hn : 3 ≤ n) {a b c : Nat} (ha : (a : Int) < n) (hb : b = nj n a) (hc : c = nj n b) : 0 < cx (X c - X b) (Y c - Y b) (X a - X b) (Y a - Y b) := by
  have q := w3 h hn ha hb
  rw [← hc] at q
  have e : cx (X c - X b) (Y c - Y b) (X a - X b) (Y a - Y b) = cx (X b - X a) (Y b - Y a) (X c - X b) (Y c - Y b) := by unfold cx; grind
  rw [e]; exact q

theorem nx_m {n j : Int} (h : 0 ≤ j ∧ j < n) : (j + 1) % n = (nj n j.toNat : Int) := by
  unfold nj
  by_cases e : j + 1 < n
  · rw [if_pos (by omega), Int.emod_eq_of_lt (by omega) e]; omega
  · rw [if_neg (by omega), show j + 1 = n by omega, Int.emod_self]; rfl
theorem pv_m {n j : Int} (h : 0 ≤ j ∧ j < n) : nj n ((j + -1) % n).toNat = j.toNat ∧ 0 ≤ (j + -1) % n ∧ (j + -1) % n < n := by
  refine ⟨?_, Int.emod_nonneg _ (by omega), Int.emod_lt_of_pos _ (by omega)⟩
  by_cases e : j = 0
  · rw [e, show (0 + -1 : Int) % n = n - 1 from by rw [← Int.add_emod_right, Int.emod_eq_of_lt (by omega) (by omega)]; omega]
    unfold nj; rw [if_neg (by omega)]; rfl
  · rw [Int.emod_eq_of_lt (by omega) (by omega)]
    unfold nj; rw [if_pos (by omega)]; omega
/-- the turn at a corner -/
theorem m_tn {v : MS} {s j : Int} (h : HS (SP v s) (mN v s) (fun a => mX v s a) (fun a => mY v s a)) (hn : 3 ≤ mN v s) (hj : 0 ≤ j ∧ j < mN v s) : 0 < cx (mX v s ((j + 1) % mN v s) - mX v s j) (mY v s ((j + 1) % mN v s) - mY v s j) (mX v s ((j + -1) % mN v s) - mX v s j) (mY v s ((j + -1) % mN v s) - mY v s j) := by
  obtain ⟨p1, p2, p3⟩ := pv_m hj
  have q := w6 (a := ((j + -1) % mN v s).toNat) (b := j.toNat) (c := nj (mN v s) j.toNat) h hn (by omega) p1.symm rfl
  have e1 : ((((j + -1) % mN v s).toNat : Nat) : Int) = (j + -1) % mN v s := by omega
  have e2 : ((j.toNat : Nat) : Int) = j := by omega
  simp only [e1, e2, ← nx_m hj] at q
  exact q
theorem ln_1 {n j t : Int} (ht : t = 1 ∨ t = -1) : (j + t * (n - 1)) % n = (j + -t) % n := by
  rcases ht with e | e
  · rw [e, show j + 1 * (n - 1) = j + -1 + n by omega, Int.add_emod_right]
  · rw [e, show j + -1 * (n - 1) = j + - -1 + (-1) * n by omega, Int.add_mul_emod_self_right]
theorem EQS_h {u : CS} {v : MS} (h : EQS u v) {s : Int} (hs : 0 ≤ s ∧ s ≤ 7) : HS (SP v s) (mN v s) (fun a => mX v s a) (fun a => mY v s a) := by
  have q := (h s.toNat (by omega)).2.2
  rw [show ((s.toNat : Nat) : Int) = s by omega] at q
  exact q
theorem alC_b {u : CS} {r r2 : Nat} {z : Int} (h : alC u r r2 z) : z = 0 ∨ z = 1 := by
  rcases h with ⟨_, h⟩ | ⟨_, w, _, h⟩ <;> omega
def FT (u : CS) (r r2 : Nat) (s t px py qx qy nx ny lx ly : Int) : Prop := (px = rx u r 1 - rx u r 0 ∧ py = ry9 u r 1 - ry9 u r 0) ∧ (qx = rx u r (u.1.2.2.1 r - 1) - rx u r 0 ∧ qy = ry9 u r (u.1.2.2.1 r - 1) - ry9 u r 0) ∧ (nx = rx u r2 (ar u r2 s t) - rx u r2 s ∧ ny = ry9 u r2 (ar u r2 s t) - ry9 u r2 s) ∧ (lx = rx u r2 (ar u r2 s (-t)) - rx u r2 s ∧ ly = ry9 u r2 (ar u r2 s (-t)) - ry9 u r2 s)
theorem FT_w {u : CS} {r r2 : Nat} {s t px py qx qy nx ny lx ly : Int} (h : FT u r r2 s t px py qx qy nx ny lx ly) : px * qy - py * qx = cWh u r := by
  obtain ⟨⟨rfl, rfl⟩, ⟨rfl, rfl⟩, _⟩ := h
  rfl
theorem FT_d {u : CS} {r r2 : Nat} {s t px py qx qy nx ny lx ly : Int} (h : FT u r r2 s t px py qx qy nx ny lx ly) (he : u.1.2.2.1 r2 = u.1.2.2.1 r) (hn : 3 ≤ u.1.2.2.1 r) (hs : 0 ≤ s ∧ s < u.1.2.2.1 r) (ht : t = 1 ∨ t = -1) (w : cAF u r r2 s t) : nx * ly - ny * lx = t * cWh u r ∧ ∃ a b c e : Int, AF (rx u r) (ry9 u r) (rx u r2) (ry9 u r2) (u.1.2.2.1 r) s t a b c e ∧ (nx * qy - lx * py = a * cWh u r ∧ lx * px - nx * qx = b * cWh u r) ∧ ny * qy - ly * py = c * cWh u r ∧ ly * px - ny * qx = e * cWh u r := by
  have hw := FT_w h
  obtain ⟨⟨rfl, rfl⟩, ⟨rfl, rfl⟩, ⟨hnx, hny⟩, ⟨hlx, hly⟩⟩ := h
  obtain ⟨a, b, c, e, hd, hA⟩ := w
  obtain ⟨q1, q2⟩ := hA 1 (by omega) (by omega)
  obtain ⟨q3, q4⟩ := hA (u.1.2.2.1 r - 1) (by omega) (by omega)
  rw [ln_1 ht] at q3 q4
  rw [Int.mul_one] at q1 q2
  rw [ar_m (by omega) ht, he] at hnx hny
  rw [ar_m (by omega) (by omega), he] at hlx hly
  rw [← hnx] at q1
  rw [← hny] at q2
  rw [← hlx] at q3
  rw [← hly] at q4
  have k1 := mat_q hw.symm q1 q3
  have k2 := mat_q hw.symm q2 q4
  refine ⟨?_, a, b, c, e, hA, k1, k2⟩
  rw [← hd, ← hw, ← q1, ← q2, ← q3, ← q4]
  grind
theorem FT_y {u : CS} {r r2 : Nat} {s t px py qx qy nx ny lx ly ma mb mc md wh : Int} (h : FT u r r2 s t px py qx qy nx ny lx ly) (hw : wh = cWh u r) (h0 : wh ≠ 0) (hc : nx * ly - ny * lx = t * wh) (ea : ma = nx * qy - lx * py) (eb : mb = lx * px - nx * qx) (ec : mc = ny * qy - ly * py) (ed : md = ly * px - ny * qx) (ta : ma.tmod wh = 0) (tb : mb.tmod wh = 0) (tc : mc.tmod wh = 0) (td : md.tmod wh = 0) (hA : ∀ k : Int, 0 ≤ k → k < u.1.2.2.1 r → ma * (rx u r k - rx u r 0) + mb * (ry9 u r k - ry9 u r 0) = wh * (rx u r2 ((s + t * k) % u.1.2.2.1 r) - rx u r2 s) ∧ mc * (rx u r k - rx u r 0) + md * (ry9 u r k - ry9 u r 0) = wh * (ry9 u r2 ((s + t * k) % u.1.2.2.1 r) - ry9 u r2 s)) : cWh u r ≠ 0 ∧ cAF u r r2 s t := by
  have hww := FT_w h
  rw [← hw] at hww
  have da := tm_dv ta
  have db := tm_dv tb
  have dc := tm_dv tc
  have dd := tm_dv td
  refine ⟨by omega, ma.tdiv wh, mb.tdiv wh, mc.tdiv wh, md.tdiv wh, ?_, fun k k0 k1 => ?_⟩
  · generalize ma.tdiv wh = A at da
    generalize mb.tdiv wh = Bq at db
    generalize mc.tdiv wh = Cq at dc
    generalize md.tdiv wh = Dq at dd
    have i1 : ma * md - mb * mc = wh * (nx * ly - ny * lx) := by rw [ea, eb, ec, ed, ← hww]; grind
    rw [hc, ← da, ← db, ← dc, ← dd] at i1
    have i2 : wh * (wh * (A * Dq - Bq * Cq)) = wh * (wh * t) := by
      rw [Int.mul_comm wh t, ← i1]; grind
    exact Int.eq_of_mul_eq_mul_left h0 (Int.eq_of_mul_eq_mul_left h0 i2)
  · obtain ⟨q1, q2⟩ := hA k k0 k1
    generalize ma.tdiv wh = A at da
    generalize mb.tdiv wh = Bq at db
    generalize mc.tdiv wh = Cq at dc
    generalize md.tdiv wh = Dq at dd
    rw [← da, ← db, Int.mul_assoc, Int.mul_assoc, ← Int.mul_add] at q1
    rw [← dc, ← dd, Int.mul_assoc, Int.mul_assoc, ← Int.mul_add] at q2
    exact ⟨Int.eq_of_mul_eq_mul_left h0 q1, Int.eq_of_mul_eq_mul_left h0 q2⟩
theorem ar_m3 {u : CS} {r r2 : Nat} {s i t z tq : Int} (hz : z = ar u r2 tq t) (htq : tq = (s + t * i) % u.1.2.2.1 r) (he : u.1.2.2.1 r2 = u.1.2.2.1 r) (hn : 3 ≤ u.1.2.2.1 r) (ht : t = 1 ∨ t = -1) : (0 ≤ z ∧ z < u.1.2.2.1 r) ∧ z = (s + t * (i + 1)) % u.1.2.2.1 r := by
  have e9 : z = (s + t * (i + 1)) % u.1.2.2.1 r := by
    rw [hz, htq, ← he]
    exact ar_m2 (by omega) ht
  exact ⟨by rw [e9]; exact ⟨Int.emod_nonneg _ (by omega), Int.emod_lt_of_pos _ (by omega)⟩, e9⟩
theorem CN2_s {F G : Int → Prop} {i z w a b : Int} (h0 : 0 ≤ i) (h : CN2 (fun k => F k) (fun k => G k) i.toNat w) (ha : (a = 1 ∧ F i) ∨ (a = 0 ∧ ¬ F i)) (hb : (b = 1 ∧ G i) ∨ (b = 0 ∧ ¬ G i)) (e : z = w + a + b) : CN2 (fun k => F k) (fun k => G k) (i + 1).toNat z := by
  rw [show (i + 1).toNat = i.toNat + 1 by omega]
  refine ⟨w, a, b, h, ?_, ?_, e⟩
  · show (a = 1 ∧ F (i.toNat : Int)) ∨ (a = 0 ∧ ¬ F (i.toNat : Int))
    rw [show ((i.toNat : Nat) : Int) = i by omega]; exact ha
  · show (b = 1 ∧ G (i.toNat : Int)) ∨ (b = 0 ∧ ¬ G (i.toNat : Int))
    rw [show ((i.toNat : Nat) : Int) = i by omega]; exact hb
theorem CN1_s {F G : Nat → Prop} {i z w a : Int} (h0 : 0 ≤ i) (h : CN1 F G i.toNat w) (ha : (a = 1 ∧ F i.toNat) ∨ (a = 0 ∧ G i.toNat)) (e : z = w + a) : CN1 F G (i + 1).toNat z := by
  rw [show (i + 1).toNat = i.toNat + 1 by omega]
  exact ⟨w, a, h, ha, e⟩
/-! the reference -/
def FM (v : MS) (s o j t ux uy vx vy px py qx qy : Int) : Prop := (ux = mX v s 1 - mX v s 0 ∧ uy = mY v s 1 - mY v s 0) ∧ (vx = mX v s 2 - mX v s 0 ∧ vy = mY v s 2 - mY v s 0) ∧ (px = mX v o ((j + t) % mN v s) - mX v o j ∧ py = mY v o ((j + t) % mN v s) - mY v o j) ∧ (qx = mX v o ((j + 2 * t) % mN v s) - mX v o j ∧ qy = mY v o ((j + 2 * t) % mN v s) - mY v o j)
theorem FM_d {v : MS} {s o j t ux uy vx vy px py qx qy a b c e d : Int} (h : FM v s o j t ux uy vx vy px py qx qy) (hn : 2 < mN v s) (hd : d = ux * vy - uy * vx) (hA : AF (mX v s) (mY v s) (mX v o) (mY v o) (mN v s) j t a b c e) : (px * vy - qx * uy = a * d ∧ qx * ux - px * vx = b * d) ∧ py * vy - qy * uy = c * d ∧ qy * ux - py * vx = e * d := by
  obtain ⟨⟨rfl, rfl⟩, ⟨rfl, rfl⟩, ⟨rfl, rfl⟩, ⟨rfl, rfl⟩⟩ := h
  obtain ⟨q1, q2⟩ := hA 1 (by omega) (by omega)
  obtain ⟨q3, q4⟩ := hA 2 (by omega) (by omega)
  rw [Int.mul_one] at q1 q2
  rw [Int.mul_comm t 2] at q3 q4
  exact ⟨mat_q hd q1 q3, mat_q hd q2 q4⟩

