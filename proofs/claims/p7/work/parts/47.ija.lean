
set_option maxHeartbeats 4000000 in
set_option maxRecDepth 100000 in
theorem c_X11_cornersN (l : Launch) (D : JD) (q : Nat → Nat) (u : CS) (s : Int) (p0 : CI u) (p1 : -2147483648 ≤ s ∧ s ≤ 2147483647) : Met l yX11_corners (jw yX11_corners cX11_corners 3 (some .int)) (jr 1 21) (jP [.ref (q 0), .int (J s)] D (fun H => va_P D.1 j_cl (cW D q u) H)) (jRi (fun z => crC u s z)) 0 0 (fun _ => False) := by
  refine Met.ofW (cc := cX11_corners) (maxL := 3) (ret := (some .int)) (by decide) rfl ?_
  intro pr en st mi args below meth co s₁ B hml hv
  obtain ⟨rfl, hG, hP⟩ := hv
  have hr := B.returns
  have hlk := B.notSynchronized
  have SS : jS pr mi co cX11_corners 3 st _ RX11 := ⟨B.exec, B.bytes, hml, findClass_of_methodNamed B.named, fun w hw => atoms_spec (ws := (jw yX11_corners cX11_corners 3 (some .int))) B.pre w (List.mem_cons_of_mem _ hw)⟩
  have hl := lv_entry ([.ref (q 0), .int (J s)]) (n := 3) (Nat.le_of_ble_eq_true rfl)
  rw [lg_entry_eq]
  generalize (lg_sl ([.ref (q 0), .int (J s)]) ++ List.replicate (3 - (lg_sl ([.ref (q 0), .int (J s)])).length) Slot.unset).toArray = ls at hl ⊢
  have hl : lv_has ls 3 [(0, .ref (q 0)), (1, .int (J s))] := hl
  refine lv_aload_n SS.1 SS.2.1 dX11_corners_0 rfl (lv_at hl 0 rfl) ?_
  refine lv_iload_n SS.1 SS.2.1 dX11_corners_1 rfl (lv_at hl 1 rfl) ?_
  refine j_vSh SS (As := [.int (J s)]) (rest := []) (c_X11_shapeAt l D q u  s (show -2147483648 ≤ s ∧ s ≤ 2147483647 from (p1))) mf_X11_shapeAt kw_414 hG hP hP (ci := 11) (q0 := 0) rfl rfl rfl rfl hl.1 ⟨⟨Nat.le_of_ble_eq_true rfl, Nat.le_of_ble_eq_true rfl⟩, Nat.le_of_ble_eq_true rfl, Nat.le_refl _, Nat.le_refl _⟩ rfl dX11_corners_2 (fun i_2 hi_2 hz_2 => ?_) (fun hn_2 => ?_)
  · skip
    have hI2 := CI_s p0 (show i_2 < 8 by omega)
    have hI2c := hI2.1
    have hrl2 := rl_s (show i_2 < 8 by omega)
    refine lv_astore_n (lv' := [(2, .ref (q (8 + 5 * i_2))), (0, .ref (q 0)), (1, .int (J s))]) SS.1 SS.2.1 dX11_corners_5 rfl hl (by decide) rfl (fun ls hl => ?_)
    refine lv_aload_n SS.1 SS.2.1 dX11_corners_6 rfl (lv_at hl 0 rfl) ?_
    refine lv_ifnonnull SS.1 SS.2.1 (tgt := 14) dX11_corners_7 (by decide) ?_
    refine lv_aload_n SS.1 SS.2.1 dX11_corners_14 rfl (lv_at hl 0 rfl) ?_
    refine j_get SS hG hP (8 + 5 * i_2) (v := .ref (q (9 + 5 * i_2))) (C := RX10) (T := TX10) (N := 3) (cw_shape (by omega)) rfl inX10 0 (by decide) (ref := "GridPolygons$Shape") kw_151 rfl rfl dX11_corners_15 ?_
    refine j_getS SS hG hP (9 + 5 * i_2) (v := .int (J (u.1.2.2.1 i_2))) (C := RX7) (T := TX7) (N := 3) (cw_ring (by omega)) rfl inX7 2 (by decide) (ref := "GridPolygons$Ring") kw_135 kw_132 rfl dX11_corners_18 ?_
    exact W.iret SS.1 SS.2.1 hr (fun t0 ht hW => ⟨_, rfl, ⟨(u.1.2.2.1 i_2), rfl, (by first | exact Or.inl ⟨by omega, rfl⟩ | exact Or.inr ⟨by omega, by rw [show s.toNat = i_2 by omega]⟩)⟩, ht⟩) (fun _ h => nomatch h) dX11_corners_21 hlk
  · skip
    refine lv_astore_nN (lv' := [(2, .null), (0, .ref (q 0)), (1, .int (J s))]) SS.1 SS.2.1 dX11_corners_5 rfl hl (by decide) rfl (fun ls hl => ?_)
    refine lv_aload_nN SS.1 SS.2.1 dX11_corners_6 rfl (lv_at hl 0 rfl) ?_
    refine lv_ifnonnullN SS.1 SS.2.1 dX11_corners_7 ?_
    refine j_iconst SS dX11_corners_10 ?_
    refine lv_goto (tgt := 21) SS.1 SS.2.1 dX11_corners_11 (by decide) ?_
    exact W.iret SS.1 SS.2.1 hr (fun t0 ht hW => ⟨_, rfl, ⟨(-1), rfl, (by first | exact Or.inl ⟨by omega, rfl⟩ | exact Or.inr ⟨by omega, by rw [show s.toNat = i_2 by omega]⟩)⟩, ht⟩) (fun _ h => nomatch h) dX11_corners_21 hlk

set_option maxHeartbeats 4000000 in
set_option maxRecDepth 100000 in
theorem c_X11_cornerN (l : Launch) (D : JD) (q : Nat → Nat) (u : CS) (s : Int) (i : Int) (what : Int) (p0 : CI u) (p1 : -2147483648 ≤ s ∧ s ≤ 2147483647) (p2 : -2147483648 ≤ i ∧ i ≤ 2147483647) (p3 : -2147483648 ≤ what ∧ what ≤ 2147483647) : Met l yX11_corner (jw yX11_corner cX11_corner 5 (some .int)) (jr 1 21) (jP [.ref (q 0), .int (J s), .int (J i), .int (J what)] D (fun H => va_P D.1 j_cl (cW D q u) H)) (jRi (fun z => coC u s i what z)) 0 0 (fun _ => False) := by
  refine Met.ofW (cc := cX11_corner) (maxL := 5) (ret := (some .int)) (by decide) rfl ?_
  intro pr en st mi args below meth co s₁ B hml hv
  obtain ⟨rfl, hG, hP⟩ := hv
  have hr := B.returns
  have hlk := B.notSynchronized
  have SS : jS pr mi co cX11_corner 5 st _ RX11 := ⟨B.exec, B.bytes, hml, findClass_of_methodNamed B.named, fun w hw => atoms_spec (ws := (jw yX11_corner cX11_corner 5 (some .int))) B.pre w (List.mem_cons_of_mem _ hw)⟩
  have hl := lv_entry ([.ref (q 0), .int (J s), .int (J i), .int (J what)]) (n := 5) (Nat.le_of_ble_eq_true rfl)
  rw [lg_entry_eq]
  generalize (lg_sl ([.ref (q 0), .int (J s), .int (J i), .int (J what)]) ++ List.replicate (5 - (lg_sl ([.ref (q 0), .int (J s), .int (J i), .int (J what)])).length) Slot.unset).toArray = ls at hl ⊢
  have hl : lv_has ls 5 [(0, .ref (q 0)), (1, .int (J s)), (2, .int (J i)), (3, .int (J what))] := hl
  refine lv_aload_n SS.1 SS.2.1 dX11_corner_0 rfl (lv_at hl 0 rfl) ?_
  refine lv_iload_n SS.1 SS.2.1 dX11_corner_1 rfl (lv_at hl 1 rfl) ?_
  refine j_vSh SS (As := [.int (J s)]) (rest := []) (c_X11_shapeAt l D q u  s (show -2147483648 ≤ s ∧ s ≤ 2147483647 from (p1))) mf_X11_shapeAt kw_414 hG hP hP (ci := 11) (q0 := 0) rfl rfl rfl rfl hl.1 ⟨⟨Nat.le_of_ble_eq_true rfl, Nat.le_of_ble_eq_true rfl⟩, Nat.le_of_ble_eq_true rfl, Nat.le_refl _, Nat.le_refl _⟩ rfl dX11_corner_2 (fun i_2 hi_2 hz_2 => ?_) (fun hn_2 => ?_)
  · skip
    have hI2 := CI_s p0 (show i_2 < 8 by omega)
    have hI2c := hI2.1
    have hrl2 := rl_s (show i_2 < 8 by omega)
    refine lv_astore (lv' := [(4, .ref (q (8 + 5 * i_2))), (0, .ref (q 0)), (1, .int (J s)), (2, .int (J i)), (3, .int (J what))]) SS.1 SS.2.1 dX11_corner_5 hl (by decide) rfl (fun ls hl => ?_)
    refine lv_aload SS.1 SS.2.1 dX11_corner_7 (lv_at hl 0 rfl) ?_
    refine lv_ifnull SS.1 SS.2.1 dX11_corner_9 ?_
    refine lv_iload_n SS.1 SS.2.1 dX11_corner_12 rfl (lv_at hl 3 rfl) ?_
    refine j_if_lt SS (tgt := 37) (x := i) dX11_corner_13 (by decide) (by omega) (fun c_13 => ?_) (fun c_13 => ?_)
    · skip
      refine j_ldc SS (-1000000) kw_512 dX11_corner_37 ?_
      exact W.iret SS.1 SS.2.1 hr (fun t0 ht hW => ⟨_, rfl, ⟨(-1000000), rfl, (by first | exact Or.inl ⟨fun q => by have := q.1; omega, rfl⟩ | exact Or.inl ⟨fun q => by have q2 := q.2; rw [show s.toNat = i_2 by omega] at q2; omega, rfl⟩ | exact Or.inr ⟨by rw [show s.toNat = i_2 by omega]; omega, by rw [show s.toNat = i_2 by omega]; first | exact Or.inl ⟨by omega, h_50.1⟩ | exact Or.inr ⟨by omega, h_62.1⟩⟩)⟩, ht⟩) (fun _ h => nomatch h) dX11_corner_39 hlk
    · skip
      refine lv_iload_n SS.1 SS.2.1 dX11_corner_16 rfl (lv_at hl 3 rfl) ?_
      refine lv_aload SS.1 SS.2.1 dX11_corner_17 (lv_at hl 0 rfl) ?_
      refine j_get SS hG hP (8 + 5 * i_2) (v := .ref (q (9 + 5 * i_2))) (C := RX10) (T := TX10) (N := 3) (cw_shape (by omega)) rfl inX10 0 (by decide) (ref := "GridPolygons$Shape") kw_151 rfl rfl dX11_corner_19 ?_
      refine j_getS SS hG hP (9 + 5 * i_2) (v := .int (J (u.1.2.2.1 i_2))) (C := RX7) (T := TX7) (N := 3) (cw_ring (by omega)) rfl inX7 2 (by decide) (ref := "GridPolygons$Ring") kw_135 kw_132 rfl dX11_corner_22 ?_
      refine j_icmp_ge SS (tgt := 37) (x := i) (y := (u.1.2.2.1 i_2)) dX11_corner_25 (by decide) (by omega) (by omega) (fun c_25 => ?_) (fun c_25 => ?_)
      · skip
        refine j_ldc SS (-1000000) kw_512 dX11_corner_37 ?_
        exact W.iret SS.1 SS.2.1 hr (fun t0 ht hW => ⟨_, rfl, ⟨(-1000000), rfl, (by first | exact Or.inl ⟨fun q => by have := q.1; omega, rfl⟩ | exact Or.inl ⟨fun q => by have q2 := q.2; rw [show s.toNat = i_2 by omega] at q2; omega, rfl⟩ | exact Or.inr ⟨by rw [show s.toNat = i_2 by omega]; omega, by rw [show s.toNat = i_2 by omega]; first | exact Or.inl ⟨by omega, h_50.1⟩ | exact Or.inr ⟨by omega, h_62.1⟩⟩)⟩, ht⟩) (fun _ h => nomatch h) dX11_corner_39 hlk
      · skip
        refine lv_iload_n SS.1 SS.2.1 dX11_corner_28 rfl (lv_at hl 4 rfl) ?_
        refine j_if_lt SS (tgt := 37) (x := what) dX11_corner_29 (by decide) (by omega) (fun c_29 => ?_) (fun c_29 => ?_)
        · skip
          refine j_ldc SS (-1000000) kw_512 dX11_corner_37 ?_
          exact W.iret SS.1 SS.2.1 hr (fun t0 ht hW => ⟨_, rfl, ⟨(-1000000), rfl, (by first | exact Or.inl ⟨fun q => by have := q.1; omega, rfl⟩ | exact Or.inl ⟨fun q => by have q2 := q.2; rw [show s.toNat = i_2 by omega] at q2; omega, rfl⟩ | exact Or.inr ⟨by rw [show s.toNat = i_2 by omega]; omega, by rw [show s.toNat = i_2 by omega]; first | exact Or.inl ⟨by omega, h_50.1⟩ | exact Or.inr ⟨by omega, h_62.1⟩⟩)⟩, ht⟩) (fun _ h => nomatch h) dX11_corner_39 hlk
        · skip
          refine lv_iload_n SS.1 SS.2.1 dX11_corner_32 rfl (lv_at hl 4 rfl) ?_
          refine j_iconst SS dX11_corner_33 ?_
          refine j_icmp_le SS (tgt := 40) (x := what) (y := 1) dX11_corner_34 (by decide) (by omega) (by decide) (fun c_34 => ?_) (fun c_34 => ?_)
          · skip
            refine lv_iload_n SS.1 SS.2.1 dX11_corner_40 rfl (lv_at hl 4 rfl) ?_
            refine j_if_ne SS (tgt := 56) (x := what) dX11_corner_41 (by decide) (by omega) (fun c_41 => ?_) (fun c_41 => ?_)
            · skip
              refine lv_aload SS.1 SS.2.1 dX11_corner_56 (lv_at hl 0 rfl) ?_
              refine j_get SS hG hP (8 + 5 * i_2) (v := .ref (q (9 + 5 * i_2))) (C := RX10) (T := TX10) (N := 3) (cw_shape (by omega)) rfl inX10 0 (by decide) (ref := "GridPolygons$Shape") kw_151 rfl rfl dX11_corner_58 ?_
              refine lv_iload_n SS.1 SS.2.1 dX11_corner_61 rfl (lv_at hl 3 rfl) ?_
              refine j_uRi SS (As := [.int (J i)]) (rest := []) (c_X8_y l D q u i_2 (by omega) i (show -2147483648 ≤ i ∧ i ≤ 2147483647 from (p2))) mu_7_y kw_464 hG hP hP (ci := 7) (q0 := (9 + 5 * i_2)) rfl (cw_ring (by omega)) rfl rfl hl.1 ⟨⟨Nat.le_of_ble_eq_true rfl, Nat.le_of_ble_eq_true rfl⟩, Nat.le_of_ble_eq_true rfl, Nat.le_refl _, Nat.le_refl _⟩ rfl dX11_corner_62 (fun z_62 h_62 => ?_)
              have h_62 : z_62 = ry9 u i_2 i ∧ ∀ K : Int, 0 ≤ K → RB K u i_2 → -K ≤ z_62 ∧ z_62 ≤ K := h_62
              have hb_62 := h_62.2 80 (by omega) (show RB 80 u i_2 from CI_s p0 (by omega))
              exact W.iret SS.1 SS.2.1 hr (fun t0 ht hW => ⟨_, rfl, ⟨z_62, rfl, (by first | exact Or.inl ⟨fun q => by have := q.1; omega, rfl⟩ | exact Or.inl ⟨fun q => by have q2 := q.2; rw [show s.toNat = i_2 by omega] at q2; omega, rfl⟩ | exact Or.inr ⟨by rw [show s.toNat = i_2 by omega]; omega, by rw [show s.toNat = i_2 by omega]; first | exact Or.inl ⟨by omega, h_50.1⟩ | exact Or.inr ⟨by omega, h_62.1⟩⟩)⟩, ht⟩) (fun _ h => nomatch h) dX11_corner_65 hlk
            · skip
              refine lv_aload SS.1 SS.2.1 dX11_corner_44 (lv_at hl 0 rfl) ?_
              refine j_get SS hG hP (8 + 5 * i_2) (v := .ref (q (9 + 5 * i_2))) (C := RX10) (T := TX10) (N := 3) (cw_shape (by omega)) rfl inX10 0 (by decide) (ref := "GridPolygons$Shape") kw_151 rfl rfl dX11_corner_46 ?_
              refine lv_iload_n SS.1 SS.2.1 dX11_corner_49 rfl (lv_at hl 3 rfl) ?_
              refine j_uRi SS (As := [.int (J i)]) (rest := []) (c_X8_x l D q u i_2 (by omega) i (show -2147483648 ≤ i ∧ i ≤ 2147483647 from (p2))) mu_7_x kw_463 hG hP hP (ci := 7) (q0 := (9 + 5 * i_2)) rfl (cw_ring (by omega)) rfl rfl hl.1 ⟨⟨Nat.le_of_ble_eq_true rfl, Nat.le_of_ble_eq_true rfl⟩, Nat.le_of_ble_eq_true rfl, Nat.le_refl _, Nat.le_refl _⟩ rfl dX11_corner_50 (fun z_50 h_50 => ?_)
              have h_50 : z_50 = rx u i_2 i ∧ ∀ K : Int, 0 ≤ K → RB K u i_2 → -K ≤ z_50 ∧ z_50 ≤ K := h_50
              have hb_50 := h_50.2 80 (by omega) (show RB 80 u i_2 from CI_s p0 (by omega))
              refine lv_goto (tgt := 65) SS.1 SS.2.1 dX11_corner_53 (by decide) ?_
              exact W.iret SS.1 SS.2.1 hr (fun t0 ht hW => ⟨_, rfl, ⟨z_50, rfl, (by first | exact Or.inl ⟨fun q => by have := q.1; omega, rfl⟩ | exact Or.inl ⟨fun q => by have q2 := q.2; rw [show s.toNat = i_2 by omega] at q2; omega, rfl⟩ | exact Or.inr ⟨by rw [show s.toNat = i_2 by omega]; omega, by rw [show s.toNat = i_2 by omega]; first | exact Or.inl ⟨by omega, h_50.1⟩ | exact Or.inr ⟨by omega, h_62.1⟩⟩)⟩, ht⟩) (fun _ h => nomatch h) dX11_corner_65 hlk
          · skip
            refine j_ldc SS (-1000000) kw_512 dX11_corner_37 ?_
            exact W.iret SS.1 SS.2.1 hr (fun t0 ht hW => ⟨_, rfl, ⟨(-1000000), rfl, (by first | exact Or.inl ⟨fun q => by have := q.1; omega, rfl⟩ | exact Or.inl ⟨fun q => by have q2 := q.2; rw [show s.toNat = i_2 by omega] at q2; omega, rfl⟩ | exact Or.inr ⟨by rw [show s.toNat = i_2 by omega]; omega, by rw [show s.toNat = i_2 by omega]; first | exact Or.inl ⟨by omega, h_50.1⟩ | exact Or.inr ⟨by omega, h_62.1⟩⟩)⟩, ht⟩) (fun _ h => nomatch h) dX11_corner_39 hlk
  · skip
    refine lv_astoreN (lv' := [(4, .null), (0, .ref (q 0)), (1, .int (J s)), (2, .int (J i)), (3, .int (J what))]) SS.1 SS.2.1 dX11_corner_5 hl (by decide) rfl (fun ls hl => ?_)
    refine lv_aloadN SS.1 SS.2.1 dX11_corner_7 (lv_at hl 0 rfl) ?_
    refine lv_ifnullN SS.1 SS.2.1 (tgt := 37) dX11_corner_9 (by decide) ?_
    refine j_ldc SS (-1000000) kw_512 dX11_corner_37 ?_
    exact W.iret SS.1 SS.2.1 hr (fun t0 ht hW => ⟨_, rfl, ⟨(-1000000), rfl, (by first | exact Or.inl ⟨fun q => by have := q.1; omega, rfl⟩ | exact Or.inl ⟨fun q => by have q2 := q.2; rw [show s.toNat = i_2 by omega] at q2; omega, rfl⟩ | exact Or.inr ⟨by rw [show s.toNat = i_2 by omega]; omega, by rw [show s.toNat = i_2 by omega]; first | exact Or.inl ⟨by omega, h_50.1⟩ | exact Or.inr ⟨by omega, h_62.1⟩⟩)⟩, ht⟩) (fun _ h => nomatch h) dX11_corner_39 hlk

set_option maxHeartbeats 4000000 in
set_option maxRecDepth 100000 in
theorem c_X12_corner2 (l : Launch) (D : JD) (o : Nat) (q : Nat → Nat) (u : MS) (s : Int) (i : Int) (what : Int) (p0 : IM u) (p1 : -2147483648 ≤ s ∧ s ≤ 2147483647) (p2 : -2147483648 ≤ i ∧ i ≤ 2147483647) (p3 : -2147483648 ≤ what ∧ what ≤ 2147483647) : Met l yX12_corner (jw yX12_corner cX12_corner 4 (some .int)) (jr 2 42) (jP [.ref o, .int (J s), .int (J i), .int (J what)] D (fun H => va_P D.1 j_cl (mW D o q u) H)) (jRi (fun z => coM u s i what z)) 0 0 (fun _ => False) := by
  refine Met.ofW (cc := cX12_corner) (maxL := 4) (ret := (some .int)) (by decide) rfl ?_
  intro pr en st mi args below meth co s₁ B hml hv
  obtain ⟨rfl, hG, hP⟩ := hv
  have hr := B.returns
  have hlk := B.notSynchronized
  have SS : jS pr mi co cX12_corner 4 st _ RX12 := ⟨B.exec, B.bytes, hml, findClass_of_methodNamed B.named, fun w hw => atoms_spec (ws := (jw yX12_corner cX12_corner 4 (some .int))) B.pre w (List.mem_cons_of_mem _ hw)⟩
  have hl := lv_entry ([.ref o, .int (J s), .int (J i), .int (J what)]) (n := 4) (Nat.le_of_ble_eq_true rfl)
  rw [lg_entry_eq]
  generalize (lg_sl ([.ref o, .int (J s), .int (J i), .int (J what)]) ++ List.replicate (4 - (lg_sl ([.ref o, .int (J s), .int (J i), .int (J what)])).length) Slot.unset).toArray = ls at hl ⊢
  have hl : lv_has ls 4 [(0, .ref o), (1, .int (J s)), (2, .int (J i)), (3, .int (J what))] := hl
  refine lv_iload_n SS.1 SS.2.1 dX12_corner_0 rfl (lv_at hl 1 rfl) ?_
  refine j_sRi SS (As := [.int (J s)]) (rest := []) (c_X12_isShape l D s (show -2147483648 ≤ s ∧ s ≤ 2147483647 from (by omega))) mf_X12_isShape kw_1156 hG trivial rfl hl.1 ⟨⟨Nat.le_of_ble_eq_true rfl, Nat.le_of_ble_eq_true rfl⟩, Nat.le_of_ble_eq_true rfl, Nat.le_refl _, Nat.le_refl _⟩ rfl dX12_corner_1 (fun z_1 h_1 => ?_)
  have h_1 : (z_1 = 1 ∧ (0 ≤ s ∧ s ≤ 7)) ∨ (z_1 = 0 ∧ ¬ (0 ≤ s ∧ s ≤ 7)) := h_1
  refine j_if_eq SS (tgt := 32) (x := z_1) dX12_corner_4 (by decide) (by omega) (fun c_4 => ?_) (fun c_4 => ?_)
  · skip
    refine j_ldc SS (-1000000) kw_1213 dX12_corner_32 ?_
    refine lv_goto (tgt := 56) SS.1 SS.2.1 dX12_corner_34 (by decide) ?_
    exact W.iret SS.1 SS.2.1 hr (fun t ht hW => ⟨_, rfl, ⟨(-1000000), rfl, (by first | exact Or.inl ⟨fun q => by omega, rfl⟩ | exact Or.inr ⟨by omega, Or.inl ⟨by omega, h_44⟩⟩ | exact Or.inr ⟨by omega, Or.inr ⟨by omega, h_53⟩⟩)⟩, ht⟩) (fun _ h => nomatch h) dX12_corner_56 hlk
  · skip
    refine lv_iload_n SS.1 SS.2.1 dX12_corner_7 rfl (lv_at hl 2 rfl) ?_
    refine j_iconst SS dX12_corner_8 ?_
    refine lv_aload_n SS.1 SS.2.1 dX12_corner_9 rfl (lv_at hl 0 rfl) ?_
    refine j_get SS hG hP 0 (v := .ref (q 0)) (C := RX12) (T := TX12) (N := 31) rfl rfl inX12 0 (by decide) (ref := RX12) kw_1058 rfl rfl dX12_corner_10 ?_
    refine lv_iload_n SS.1 SS.2.1 dX12_corner_13 rfl (lv_at hl 1 rfl) ?_
    refine j_iald SS hG hP 1 (n := 8) (f := (u.1 0)) rfl (z := s) (by omega) (by omega) dX12_corner_14 ?_
    have hN_14 := (show Sh u s from p0.1 _ (by omega) (by omega)).1
    refine j_iconst SS dX12_corner_15 ?_
    refine j_isub SS (x := (mN u s)) (y := 1) dX12_corner_16 ?_
    refine j_sRi SS (As := [.int (J i), .int (J 0), .int (J ((mN u s) - 1))]) (rest := []) (c_X12_in l D i 0 ((mN u s) - 1) (show -2147483648 ≤ i ∧ i ≤ 2147483647 from (by omega)) (show -2147483648 ≤ (0 : Int) ∧ (0 : Int) ≤ 2147483647 from (by omega)) (show -2147483648 ≤ ((mN u s) - 1) ∧ ((mN u s) - 1) ≤ 2147483647 from (by omega))) mf_X12_in kw_1159 hG trivial rfl hl.1 ⟨⟨Nat.le_of_ble_eq_true rfl, Nat.le_of_ble_eq_true rfl⟩, Nat.le_of_ble_eq_true rfl, Nat.le_refl _, Nat.le_refl _⟩ rfl dX12_corner_17 (fun z_17 h_17 => ?_)
    have h_17 : (z_17 = 1 ∧ ((0 : Int) ≤ i ∧ i ≤ ((mN u s) - 1))) ∨ (z_17 = 0 ∧ ¬ ((0 : Int) ≤ i ∧ i ≤ ((mN u s) - 1))) := h_17
    refine j_if_eq SS (tgt := 32) (x := z_17) dX12_corner_20 (by decide) (by omega) (fun c_20 => ?_) (fun c_20 => ?_)
    · skip
      refine j_ldc SS (-1000000) kw_1213 dX12_corner_32 ?_
      refine lv_goto (tgt := 56) SS.1 SS.2.1 dX12_corner_34 (by decide) ?_
      exact W.iret SS.1 SS.2.1 hr (fun t ht hW => ⟨_, rfl, ⟨(-1000000), rfl, (by first | exact Or.inl ⟨fun q => by omega, rfl⟩ | exact Or.inr ⟨by omega, Or.inl ⟨by omega, h_44⟩⟩ | exact Or.inr ⟨by omega, Or.inr ⟨by omega, h_53⟩⟩)⟩, ht⟩) (fun _ h => nomatch h) dX12_corner_56 hlk
    · skip
      refine lv_iload_n SS.1 SS.2.1 dX12_corner_23 rfl (lv_at hl 3 rfl) ?_
      refine j_iconst SS dX12_corner_24 ?_
      refine j_iconst SS dX12_corner_25 ?_
      refine j_sRi SS (As := [.int (J what), .int (J 0), .int (J 1)]) (rest := []) (c_X12_in l D what 0 1 (show -2147483648 ≤ what ∧ what ≤ 2147483647 from (by omega)) (show -2147483648 ≤ (0 : Int) ∧ (0 : Int) ≤ 2147483647 from (by omega)) (show -2147483648 ≤ (1 : Int) ∧ (1 : Int) ≤ 2147483647 from (by omega))) mf_X12_in kw_1159 hG trivial rfl hl.1 ⟨⟨Nat.le_of_ble_eq_true rfl, Nat.le_of_ble_eq_true rfl⟩, Nat.le_of_ble_eq_true rfl, Nat.le_refl _, Nat.le_refl _⟩ rfl dX12_corner_26 (fun z_26 h_26 => ?_)
      have h_26 : (z_26 = 1 ∧ ((0 : Int) ≤ what ∧ what ≤ (1 : Int))) ∨ (z_26 = 0 ∧ ¬ ((0 : Int) ≤ what ∧ what ≤ (1 : Int))) := h_26
      refine j_if_ne SS (tgt := 37) (x := z_26) dX12_corner_29 (by decide) (by omega) (fun c_29 => ?_) (fun c_29 => ?_)
      · skip
        refine lv_iload_n SS.1 SS.2.1 dX12_corner_37 rfl (lv_at hl 3 rfl) ?_
        refine j_if_ne SS (tgt := 50) (x := what) dX12_corner_38 (by decide) (by omega) (fun c_38 => ?_) (fun c_38 => ?_)
        · skip
          refine lv_aload_n SS.1 SS.2.1 dX12_corner_50 rfl (lv_at hl 0 rfl) ?_
          refine lv_iload_n SS.1 SS.2.1 dX12_corner_51 rfl (lv_at hl 1 rfl) ?_
          refine lv_iload_n SS.1 SS.2.1 dX12_corner_52 rfl (lv_at hl 2 rfl) ?_
          refine j_vRi SS (As := [.int (J s), .int (J i)]) (rest := []) (c_X12_y l D o q u s i (show 0 ≤ s ∧ s ≤ 7 from (by omega)) (show 0 ≤ i ∧ i ≤ 1000000 from (by omega)) (show 0 < mN u s ∧ mN u s ≤ 24 from (by first | omega | (have hq := (show Sh u s from p0.1 _ (by omega) (by omega)).1; omega)))) mf_X12_y kw_1181 hG hP hP (ci := 8) (q0 := 0) rfl rfl rfl rfl hl.1 ⟨⟨Nat.le_of_ble_eq_true rfl, Nat.le_of_ble_eq_true rfl⟩, Nat.le_of_ble_eq_true rfl, Nat.le_refl _, Nat.le_refl _⟩ rfl dX12_corner_53 (fun z_53 h_53 => ?_)
          have h_53 : z_53 = mY u s i := h_53
          have hb_53 := (show Sh u s from p0.1 _ (by omega) (by omega)).2.1 (by omega) i (by omega)
          exact W.iret SS.1 SS.2.1 hr (fun t ht hW => ⟨_, rfl, ⟨z_53, rfl, (by first | exact Or.inl ⟨fun q => by omega, rfl⟩ | exact Or.inr ⟨by omega, Or.inl ⟨by omega, h_44⟩⟩ | exact Or.inr ⟨by omega, Or.inr ⟨by omega, h_53⟩⟩)⟩, ht⟩) (fun _ h => nomatch h) dX12_corner_56 hlk
        · skip
          refine lv_aload_n SS.1 SS.2.1 dX12_corner_41 rfl (lv_at hl 0 rfl) ?_
          refine lv_iload_n SS.1 SS.2.1 dX12_corner_42 rfl (lv_at hl 1 rfl) ?_
          refine lv_iload_n SS.1 SS.2.1 dX12_corner_43 rfl (lv_at hl 2 rfl) ?_
          refine j_vRi SS (As := [.int (J s), .int (J i)]) (rest := []) (c_X12_x l D o q u s i (show 0 ≤ s ∧ s ≤ 7 from (by omega)) (show 0 ≤ i ∧ i ≤ 1000000 from (by omega)) (show 0 < mN u s ∧ mN u s ≤ 24 from (by first | omega | (have hq := (show Sh u s from p0.1 _ (by omega) (by omega)).1; omega)))) mf_X12_x kw_1177 hG hP hP (ci := 8) (q0 := 0) rfl rfl rfl rfl hl.1 ⟨⟨Nat.le_of_ble_eq_true rfl, Nat.le_of_ble_eq_true rfl⟩, Nat.le_of_ble_eq_true rfl, Nat.le_refl _, Nat.le_refl _⟩ rfl dX12_corner_44 (fun z_44 h_44 => ?_)
          have h_44 : z_44 = mX u s i := h_44
          have hb_44 := (show Sh u s from p0.1 _ (by omega) (by omega)).2.1 (by omega) i (by omega)
          refine lv_goto (tgt := 56) SS.1 SS.2.1 dX12_corner_47 (by decide) ?_
          exact W.iret SS.1 SS.2.1 hr (fun t ht hW => ⟨_, rfl, ⟨z_44, rfl, (by first | exact Or.inl ⟨fun q => by omega, rfl⟩ | exact Or.inr ⟨by omega, Or.inl ⟨by omega, h_44⟩⟩ | exact Or.inr ⟨by omega, Or.inr ⟨by omega, h_53⟩⟩)⟩, ht⟩) (fun _ h => nomatch h) dX12_corner_56 hlk
      · skip
        refine j_ldc SS (-1000000) kw_1213 dX12_corner_32 ?_
        refine lv_goto (tgt := 56) SS.1 SS.2.1 dX12_corner_34 (by decide) ?_
        exact W.iret SS.1 SS.2.1 hr (fun t ht hW => ⟨_, rfl, ⟨(-1000000), rfl, (by first | exact Or.inl ⟨fun q => by omega, rfl⟩ | exact Or.inr ⟨by omega, Or.inl ⟨by omega, h_44⟩⟩ | exact Or.inr ⟨by omega, Or.inr ⟨by omega, h_53⟩⟩)⟩, ht⟩) (fun _ h => nomatch h) dX12_corner_56 hlk
