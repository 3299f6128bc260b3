

set_option maxHeartbeats 4000000 in
set_option maxRecDepth 100000 in
theorem c_X11_isWay (l : Launch) (D : JD) (a : Int) (b : Int) (p0 : -2147483648 ≤ a ∧ a ≤ 2147483647) (p1 : -2147483648 ≤ b ∧ b ≤ 2147483647) : Met l yX11_isWay (jw yX11_isWay cX11_isWay 2 (some .boolean)) (jr 2 45) (jP [.int (J a), .int (J b)] D (fun _ => True)) (jRi (fun z => (z = 1 ∧ (0 ≤ a ∧ a ≤ 100 ∧ -100 ≤ b ∧ b ≤ 100) ∧ ((a = 0 ∧ b = 1) ∨ (a ≠ 0 ∧ (Int.gcd a b : Int) = 1))) ∨ (z = 0 ∧ ¬ ((0 ≤ a ∧ a ≤ 100 ∧ -100 ≤ b ∧ b ≤ 100) ∧ ((a = 0 ∧ b = 1) ∨ (a ≠ 0 ∧ (Int.gcd a b : Int) = 1)))))) 0 0 (fun _ => False) := by
  refine Met.ofW (cc := cX11_isWay) (maxL := 2) (ret := (some .boolean)) (by decide) rfl ?_
  intro pr en st mi args below meth co s₁ B hml hv
  obtain ⟨rfl, hG, hP⟩ := hv
  have hr := B.returns
  have hlk := B.notSynchronized
  have SS : jS pr mi co cX11_isWay 2 st _ RX11 := ⟨B.exec, B.bytes, hml, findClass_of_methodNamed B.named, fun w hw => atoms_spec (ws := (jw yX11_isWay cX11_isWay 2 (some .boolean))) B.pre w (List.mem_cons_of_mem _ hw)⟩
  have hl := lv_entry ([.int (J a), .int (J b)]) (n := 2) (Nat.le_of_ble_eq_true rfl)
  rw [lg_entry_eq]
  generalize (lg_sl ([.int (J a), .int (J b)]) ++ List.replicate (2 - (lg_sl ([.int (J a), .int (J b)])).length) Slot.unset).toArray = ls at hl ⊢
  have hl : lv_has ls 2 [(0, .int (J a)), (1, .int (J b))] := hl
  refine lv_iload_n SS.1 SS.2.1 dX11_isWay_0 rfl (lv_at hl 0 rfl) ?_
  refine j_if_lt SS (tgt := 22) (x := a) dX11_isWay_1 (by decide) (by omega) (fun c_1 => ?_) (fun c_1 => ?_)
  · skip
    refine j_iconst SS dX11_isWay_22 ?_
    exact W.zret SS.1 SS.2.1 hr (j_nz (by decide)) (fun t0 ht hW => ⟨_, rfl, ⟨0, rfl, (by omega)⟩, ht⟩) (fun _ h => nomatch h) dX11_isWay_23 hlk
  · skip
    refine lv_iload_n SS.1 SS.2.1 dX11_isWay_4 rfl (lv_at hl 0 rfl) ?_
    refine j_bipush SS dX11_isWay_5 (by decide +kernel) ?_
    refine j_icmp_gt SS (tgt := 22) (x := a) (y := 100) dX11_isWay_7 (by decide) (by omega) (by decide) (fun c_7 => ?_) (fun c_7 => ?_)
    · skip
      refine j_iconst SS dX11_isWay_22 ?_
      exact W.zret SS.1 SS.2.1 hr (j_nz (by decide)) (fun t0 ht hW => ⟨_, rfl, ⟨0, rfl, (by omega)⟩, ht⟩) (fun _ h => nomatch h) dX11_isWay_23 hlk
    · skip
      refine lv_iload_n SS.1 SS.2.1 dX11_isWay_10 rfl (lv_at hl 1 rfl) ?_
      refine j_bipush SS dX11_isWay_11 (by decide +kernel) ?_
      refine j_icmp_lt SS (tgt := 22) (x := b) (y := (-100)) dX11_isWay_13 (by decide) (by omega) (by decide) (fun c_13 => ?_) (fun c_13 => ?_)
      · skip
        refine j_iconst SS dX11_isWay_22 ?_
        exact W.zret SS.1 SS.2.1 hr (j_nz (by decide)) (fun t0 ht hW => ⟨_, rfl, ⟨0, rfl, (by omega)⟩, ht⟩) (fun _ h => nomatch h) dX11_isWay_23 hlk
      · skip
        refine lv_iload_n SS.1 SS.2.1 dX11_isWay_16 rfl (lv_at hl 1 rfl) ?_
        refine j_bipush SS dX11_isWay_17 (by decide +kernel) ?_
        refine j_icmp_le SS (tgt := 24) (x := b) (y := 100) dX11_isWay_19 (by decide) (by omega) (by decide) (fun c_19 => ?_) (fun c_19 => ?_)
        · skip
          refine lv_iload_n SS.1 SS.2.1 dX11_isWay_24 rfl (lv_at hl 0 rfl) ?_
          refine j_if_ne SS (tgt := 41) (x := a) dX11_isWay_25 (by decide) (by omega) (fun c_25 => ?_) (fun c_25 => ?_)
          · skip
            refine lv_iload_n SS.1 SS.2.1 dX11_isWay_41 rfl (lv_at hl 0 rfl) ?_
            refine lv_iload_n SS.1 SS.2.1 dX11_isWay_42 rfl (lv_at hl 1 rfl) ?_
            refine j_sRi SS (As := [.int (J a), .int (J b)]) (rest := []) (c_X11_gcd l D  a b (show -100000 ≤ a ∧ a ≤ 100000 from (by omega)) (show -100000 ≤ b ∧ b ≤ 100000 from (by omega))) mf_X11_gcd kw_630 hG trivial rfl hl.1 ⟨⟨Nat.le_of_ble_eq_true rfl, Nat.le_of_ble_eq_true rfl⟩, Nat.le_of_ble_eq_true rfl, Nat.le_refl _, Nat.le_refl _⟩ rfl dX11_isWay_43 (fun z_43 h_43 => ?_)
            have h_43 : z_43 = (Int.gcd a b : Int) := h_43
            have hg := gcd_b (a := a) (b := b) (K := 100) (by omega) (by omega)
            rw [← h_43] at hg
            refine j_iconst SS dX11_isWay_46 ?_
            refine j_icmp_ne SS (tgt := 54) (x := z_43) (y := 1) dX11_isWay_47 (by decide) (by omega) (by decide) (fun c_47 => ?_) (fun c_47 => ?_)
            · skip
              refine j_iconst SS dX11_isWay_54 ?_
              exact W.zret SS.1 SS.2.1 hr (j_nz (by decide)) (fun t0 ht hW => ⟨_, rfl, ⟨0, rfl, (by omega)⟩, ht⟩) (fun _ h => nomatch h) dX11_isWay_55 hlk
            · skip
              refine j_iconst SS dX11_isWay_50 ?_
              refine lv_goto (tgt := 55) SS.1 SS.2.1 dX11_isWay_51 (by decide) ?_
              exact W.zret SS.1 SS.2.1 hr (j_nz (by decide)) (fun t0 ht hW => ⟨_, rfl, ⟨1, rfl, (by omega)⟩, ht⟩) (fun _ h => nomatch h) dX11_isWay_55 hlk
          · skip
            refine lv_iload_n SS.1 SS.2.1 dX11_isWay_28 rfl (lv_at hl 1 rfl) ?_
            refine j_iconst SS dX11_isWay_29 ?_
            refine j_icmp_ne SS (tgt := 37) (x := b) (y := 1) dX11_isWay_30 (by decide) (by omega) (by decide) (fun c_30 => ?_) (fun c_30 => ?_)
            · skip
              refine j_iconst SS dX11_isWay_37 ?_
              refine lv_goto (tgt := 55) SS.1 SS.2.1 dX11_isWay_38 (by decide) ?_
              exact W.zret SS.1 SS.2.1 hr (j_nz (by decide)) (fun t0 ht hW => ⟨_, rfl, ⟨0, rfl, (by omega)⟩, ht⟩) (fun _ h => nomatch h) dX11_isWay_55 hlk
            · skip
              refine j_iconst SS dX11_isWay_33 ?_
              refine lv_goto (tgt := 55) SS.1 SS.2.1 dX11_isWay_34 (by decide) ?_
              exact W.zret SS.1 SS.2.1 hr (j_nz (by decide)) (fun t0 ht hW => ⟨_, rfl, ⟨1, rfl, (by omega)⟩, ht⟩) (fun _ h => nomatch h) dX11_isWay_55 hlk
        · skip
          refine j_iconst SS dX11_isWay_22 ?_
          exact W.zret SS.1 SS.2.1 hr (j_nz (by decide)) (fun t0 ht hW => ⟨_, rfl, ⟨0, rfl, (by omega)⟩, ht⟩) (fun _ h => nomatch h) dX11_isWay_23 hlk

set_option maxHeartbeats 4000000 in
set_option maxRecDepth 100000 in
theorem c_X11_corners (l : Launch) (D : JD) (q : Nat → Nat) (u : CS) (s : Int) (p0 : CI u) (p1 : -2147483648 ≤ s ∧ s ≤ 2147483647) : Met l yX11_corners (jw yX11_corners cX11_corners 3 (some .int)) (jr 1 21) (jP [.ref (q 0), .int (J s)] D (fun H => va_P D.1 j_cl (cW D q u) H)) (jRi (fun z => True)) 0 0 (fun _ => False) := by
  refine Met.ofW (cc := cX11_corners) (maxL := 3) (ret := (some .int)) (by decide) rfl ?_
  intro pr en st mi args below meth co s₁ B hml hv
  obtain ⟨rfl, hG, hP⟩ := hv
  have hr := B.returns
  have hlk := B.notSynchronized
  have SS : jS pr mi co cX11_corners 3 st _ RX11 := ⟨B.exec, B.bytes, hml, findClass_of_methodNamed B.named, fun w hw => atoms_spec (ws := (jw yX11_corners cX11_corners 3 (some .int))) B.pre w (List.mem_cons_of_mem _ hw)⟩
  have hl := lv_entry ([.ref (q 0), .int (J s)]) (n := 3) (Nat.le_of_ble_eq_true rfl)
  rw [lg_entry_eq]
  generalize (lg_sl ([.ref (q 0), .int (J s)]) ++ List.replicate (3 - (lg_sl ([.ref (q 0), .int (J s)])).length) Slot.unset).toArray = ls at hl ⊢
  have hl : lv_has ls 3 [(0, .ref (q 0)), (1, .int (J s))] := hl
  refine lv_aload_n SS.1 SS.2.1 dX11_corners_0 rfl (lv_at hl 0 rfl) ?_
  refine lv_iload_n SS.1 SS.2.1 dX11_corners_1 rfl (lv_at hl 1 rfl) ?_
  refine j_vSh SS (As := [.int (J s)]) (rest := []) (c_X11_shapeAt l D q u  s (show -2147483648 ≤ s ∧ s ≤ 2147483647 from (p1))) mf_X11_shapeAt kw_414 hG hP hP (ci := 11) (q0 := 0) rfl rfl rfl rfl hl.1 ⟨⟨Nat.le_of_ble_eq_true rfl, Nat.le_of_ble_eq_true rfl⟩, Nat.le_of_ble_eq_true rfl, Nat.le_refl _, Nat.le_refl _⟩ rfl dX11_corners_2 (fun i_2 hi_2 hz_2 => ?_) (fun hn_2 => ?_)
  · skip
    have hI2 := CI_s p0 (show i_2 < 8 by omega)
    have hI2c := hI2.1
    have hrl2 := rl_s (show i_2 < 8 by omega)
    refine lv_astore_n (lv' := [(2, .ref (q (8 + 5 * i_2))), (0, .ref (q 0)), (1, .int (J s))]) SS.1 SS.2.1 dX11_corners_5 rfl hl (by decide) rfl (fun ls hl => ?_)
    refine lv_aload_n SS.1 SS.2.1 dX11_corners_6 rfl (lv_at hl 0 rfl) ?_
    refine lv_ifnonnull SS.1 SS.2.1 (tgt := 14) dX11_corners_7 (by decide) ?_
    refine lv_aload_n SS.1 SS.2.1 dX11_corners_14 rfl (lv_at hl 0 rfl) ?_
    refine j_get SS hG hP (8 + 5 * i_2) (v := .ref (q (9 + 5 * i_2))) (C := RX10) (T := TX10) (N := 3) (cw_shape (by omega)) rfl inX10 0 (by decide) (ref := "GridPolygons$Shape") kw_151 rfl rfl dX11_corners_15 ?_
    refine j_getS SS hG hP (9 + 5 * i_2) (v := .int (J (u.1.2.2.1 i_2))) (C := RX7) (T := TX7) (N := 3) (cw_ring (by omega)) rfl inX7 2 (by decide) (ref := "GridPolygons$Ring") kw_135 kw_132 rfl dX11_corners_18 ?_
    exact W.iret SS.1 SS.2.1 hr (fun t0 ht hW => ⟨_, rfl, ⟨(u.1.2.2.1 i_2), rfl, (trivial)⟩, ht⟩) (fun _ h => nomatch h) dX11_corners_21 hlk
  · skip
    refine lv_astore_nN (lv' := [(2, .null), (0, .ref (q 0)), (1, .int (J s))]) SS.1 SS.2.1 dX11_corners_5 rfl hl (by decide) rfl (fun ls hl => ?_)
    refine lv_aload_nN SS.1 SS.2.1 dX11_corners_6 rfl (lv_at hl 0 rfl) ?_
    refine lv_ifnonnullN SS.1 SS.2.1 dX11_corners_7 ?_
    refine j_iconst SS dX11_corners_10 ?_
    refine lv_goto (tgt := 21) SS.1 SS.2.1 dX11_corners_11 (by decide) ?_
    exact W.iret SS.1 SS.2.1 hr (fun t0 ht hW => ⟨_, rfl, ⟨(-1), rfl, (trivial)⟩, ht⟩) (fun _ h => nomatch h) dX11_corners_21 hlk

set_option maxHeartbeats 4000000 in
set_option maxRecDepth 100000 in
theorem c_X11_corner (l : Launch) (D : JD) (q : Nat → Nat) (u : CS) (s : Int) (i : Int) (what : Int) (p0 : CI u) (p1 : -2147483648 ≤ s ∧ s ≤ 2147483647) (p2 : -2147483648 ≤ i ∧ i ≤ 2147483647) (p3 : -2147483648 ≤ what ∧ what ≤ 2147483647) : Met l yX11_corner (jw yX11_corner cX11_corner 5 (some .int)) (jr 1 21) (jP [.ref (q 0), .int (J s), .int (J i), .int (J what)] D (fun H => va_P D.1 j_cl (cW D q u) H)) (jRi (fun z => True)) 0 0 (fun _ => False) := by
  refine Met.ofW (cc := cX11_corner) (maxL := 5) (ret := (some .int)) (by decide) rfl ?_
  intro pr en st mi args below meth co s₁ B hml hv
  obtain ⟨rfl, hG, hP⟩ := hv
  have hr := B.returns
  have hlk := B.notSynchronized
  have SS : jS pr mi co cX11_corner 5 st _ RX11 := ⟨B.exec, B.bytes, hml, findClass_of_methodNamed B.named, fun w hw => atoms_spec (ws := (jw yX11_corner cX11_corner 5 (some .int))) B.pre w (List.mem_cons_of_mem _ hw)⟩
  have hl := lv_entry ([.ref (q 0), .int (J s), .int (J i), .int (J what)]) (n := 5) (Nat.le_of_ble_eq_true rfl)
  rw [lg_entry_eq]
  generalize (lg_sl ([.ref (q 0), .int (J s), .int (J i), .int (J what)]) ++ List.replicate (5 - (lg_sl ([.ref (q 0), .int (J s), .int (J i), .int (J what)])).length) Slot.unset).toArray = ls at hl ⊢
  have hl : lv_has ls 5 [(0, .ref (q 0)), (1, .int (J s)), (2, .int (J i)), (3, .int (J what))] := hl
  refine lv_aload_n SS.1 SS.2.1 dX11_corner_0 rfl (lv_at hl 0 rfl) ?_
  refine lv_iload_n SS.1 SS.2.1 dX11_corner_1 rfl (lv_at hl 1 rfl) ?_
  refine j_vSh SS (As := [.int (J s)]) (rest := []) (c_X11_shapeAt l D q u  s (show -2147483648 ≤ s ∧ s ≤ 2147483647 from (p1))) mf_X11_shapeAt kw_414 hG hP hP (ci := 11) (q0 := 0) rfl rfl rfl rfl hl.1 ⟨⟨Nat.le_of_ble_eq_true rfl, Nat.le_of_ble_eq_true rfl⟩, Nat.le_of_ble_eq_true rfl, Nat.le_refl _, Nat.le_refl _⟩ rfl dX11_corner_2 (fun i_2 hi_2 hz_2 => ?_) (fun hn_2 => ?_)
  · skip
    have hI2 := CI_s p0 (show i_2 < 8 by omega)
    have hI2c := hI2.1
    have hrl2 := rl_s (show i_2 < 8 by omega)
    refine lv_astore (lv' := [(4, .ref (q (8 + 5 * i_2))), (0, .ref (q 0)), (1, .int (J s)), (2, .int (J i)), (3, .int (J what))]) SS.1 SS.2.1 dX11_corner_5 hl (by decide) rfl (fun ls hl => ?_)
    refine lv_aload SS.1 SS.2.1 dX11_corner_7 (lv_at hl 0 rfl) ?_
    refine lv_ifnull SS.1 SS.2.1 dX11_corner_9 ?_
    refine lv_iload_n SS.1 SS.2.1 dX11_corner_12 rfl (lv_at hl 3 rfl) ?_
    refine j_if_lt SS (tgt := 37) (x := i) dX11_corner_13 (by decide) (by omega) (fun c_13 => ?_) (fun c_13 => ?_)
    · skip
      refine j_ldc SS (-1000000) kw_512 dX11_corner_37 ?_
      exact W.iret SS.1 SS.2.1 hr (fun t0 ht hW => ⟨_, rfl, ⟨(-1000000), rfl, (trivial)⟩, ht⟩) (fun _ h => nomatch h) dX11_corner_39 hlk
    · skip
      refine lv_iload_n SS.1 SS.2.1 dX11_corner_16 rfl (lv_at hl 3 rfl) ?_
      refine lv_aload SS.1 SS.2.1 dX11_corner_17 (lv_at hl 0 rfl) ?_
      refine j_get SS hG hP (8 + 5 * i_2) (v := .ref (q (9 + 5 * i_2))) (C := RX10) (T := TX10) (N := 3) (cw_shape (by omega)) rfl inX10 0 (by decide) (ref := "GridPolygons$Shape") kw_151 rfl rfl dX11_corner_19 ?_
      refine j_getS SS hG hP (9 + 5 * i_2) (v := .int (J (u.1.2.2.1 i_2))) (C := RX7) (T := TX7) (N := 3) (cw_ring (by omega)) rfl inX7 2 (by decide) (ref := "GridPolygons$Ring") kw_135 kw_132 rfl dX11_corner_22 ?_
      refine j_icmp_ge SS (tgt := 37) (x := i) (y := (u.1.2.2.1 i_2)) dX11_corner_25 (by decide) (by omega) (by omega) (fun c_25 => ?_) (fun c_25 => ?_)
      · skip
        refine j_ldc SS (-1000000) kw_512 dX11_corner_37 ?_
        exact W.iret SS.1 SS.2.1 hr (fun t0 ht hW => ⟨_, rfl, ⟨(-1000000), rfl, (trivial)⟩, ht⟩) (fun _ h => nomatch h) dX11_corner_39 hlk
      · skip
        refine lv_iload_n SS.1 SS.2.1 dX11_corner_28 rfl (lv_at hl 4 rfl) ?_
        refine j_if_lt SS (tgt := 37) (x := what) dX11_corner_29 (by decide) (by omega) (fun c_29 => ?_) (fun c_29 => ?_)
        · skip
          refine j_ldc SS (-1000000) kw_512 dX11_corner_37 ?_
          exact W.iret SS.1 SS.2.1 hr (fun t0 ht hW => ⟨_, rfl, ⟨(-1000000), rfl, (trivial)⟩, ht⟩) (fun _ h => nomatch h) dX11_corner_39 hlk
        · skip
          refine lv_iload_n SS.1 SS.2.1 dX11_corner_32 rfl (lv_at hl 4 rfl) ?_
          refine j_iconst SS dX11_corner_33 ?_
          refine j_icmp_le SS (tgt := 40) (x := what) (y := 1) dX11_corner_34 (by decide) (by omega) (by decide) (fun c_34 => ?_) (fun c_34 => ?_)
          · skip
            refine lv_iload_n SS.1 SS.2.1 dX11_corner_40 rfl (lv_at hl 4 rfl) ?_
            refine j_if_ne SS (tgt := 56) (x := what) dX11_corner_41 (by decide) (by omega) (fun c_41 => ?_) (fun c_41 => ?_)
            · skip
              refine lv_aload SS.1 SS.2.1 dX11_corner_56 (lv_at hl 0 rfl) ?_
              refine j_get SS hG hP (8 + 5 * i_2) (v := .ref (q (9 + 5 * i_2))) (C := RX10) (T := TX10) (N := 3) (cw_shape (by omega)) rfl inX10 0 (by decide) (ref := "GridPolygons$Shape") kw_151 rfl rfl dX11_corner_58 ?_
              refine lv_iload_n SS.1 SS.2.1 dX11_corner_61 rfl (lv_at hl 3 rfl) ?_
              refine j_uRi SS (As := [.int (J i)]) (rest := []) (c_X8_y l D q u i_2 (by omega) i (show -2147483648 ≤ i ∧ i ≤ 2147483647 from (p2))) mu_7_y kw_464 hG hP hP (ci := 7) (q0 := (9 + 5 * i_2)) rfl (cw_ring (by omega)) rfl rfl hl.1 ⟨⟨Nat.le_of_ble_eq_true rfl, Nat.le_of_ble_eq_true rfl⟩, Nat.le_of_ble_eq_true rfl, Nat.le_refl _, Nat.le_refl _⟩ rfl dX11_corner_62 (fun z_62 h_62 => ?_)
              have h_62 : z_62 = ry9 u i_2 i ∧ ∀ K : Int, 0 ≤ K → RB K u i_2 → -K ≤ z_62 ∧ z_62 ≤ K := h_62
              have hb_62 := h_62.2 80 (by omega) (show RB 80 u i_2 from CI_s p0 (by omega))
              exact W.iret SS.1 SS.2.1 hr (fun t0 ht hW => ⟨_, rfl, ⟨z_62, rfl, (trivial)⟩, ht⟩) (fun _ h => nomatch h) dX11_corner_65 hlk
            · skip
              refine lv_aload SS.1 SS.2.1 dX11_corner_44 (lv_at hl 0 rfl) ?_
              refine j_get SS hG hP (8 + 5 * i_2) (v := .ref (q (9 + 5 * i_2))) (C := RX10) (T := TX10) (N := 3) (cw_shape (by omega)) rfl inX10 0 (by decide) (ref := "GridPolygons$Shape") kw_151 rfl rfl dX11_corner_46 ?_
              refine lv_iload_n SS.1 SS.2.1 dX11_corner_49 rfl (lv_at hl 3 rfl) ?_
              refine j_uRi SS (As := [.int (J i)]) (rest := []) (c_X8_x l D q u i_2 (by omega) i (show -2147483648 ≤ i ∧ i ≤ 2147483647 from (p2))) mu_7_x kw_463 hG hP hP (ci := 7) (q0 := (9 + 5 * i_2)) rfl (cw_ring (by omega)) rfl rfl hl.1 ⟨⟨Nat.le_of_ble_eq_true rfl, Nat.le_of_ble_eq_true rfl⟩, Nat.le_of_ble_eq_true rfl, Nat.le_refl _, Nat.le_refl _⟩ rfl dX11_corner_50 (fun z_50 h_50 => ?_)
              have h_50 : z_50 = rx u i_2 i ∧ ∀ K : Int, 0 ≤ K → RB K u i_2 → -K ≤ z_50 ∧ z_50 ≤ K := h_50
              have hb_50 := h_50.2 80 (by omega) (show RB 80 u i_2 from CI_s p0 (by omega))
              refine lv_goto (tgt := 65) SS.1 SS.2.1 dX11_corner_53 (by decide) ?_
              exact W.iret SS.1 SS.2.1 hr (fun t0 ht hW => ⟨_, rfl, ⟨z_50, rfl, (trivial)⟩, ht⟩) (fun _ h => nomatch h) dX11_corner_65 hlk
          · skip
            refine j_ldc SS (-1000000) kw_512 dX11_corner_37 ?_
            exact W.iret SS.1 SS.2.1 hr (fun t0 ht hW => ⟨_, rfl, ⟨(-1000000), rfl, (trivial)⟩, ht⟩) (fun _ h => nomatch h) dX11_corner_39 hlk
  · skip
    refine lv_astoreN (lv' := [(4, .null), (0, .ref (q 0)), (1, .int (J s)), (2, .int (J i)), (3, .int (J what))]) SS.1 SS.2.1 dX11_corner_5 hl (by decide) rfl (fun ls hl => ?_)
    refine lv_aloadN SS.1 SS.2.1 dX11_corner_7 (lv_at hl 0 rfl) ?_
    refine lv_ifnullN SS.1 SS.2.1 (tgt := 37) dX11_corner_9 (by decide) ?_
    refine j_ldc SS (-1000000) kw_512 dX11_corner_37 ?_
    exact W.iret SS.1 SS.2.1 hr (fun t0 ht hW => ⟨_, rfl, ⟨(-1000000), rfl, (trivial)⟩, ht⟩) (fun _ h => nomatch h) dX11_corner_39 hlk

set_option maxHeartbeats 4000000 in
set_option maxRecDepth 100000 in
theorem c_X11_points (l : Launch) (D : JD) (q : Nat → Nat) (u : CS) (s : Int) (what : Int) (p0 : CI u) (p1 : -2147483648 ≤ s ∧ s ≤ 2147483647) (p2 : -2147483648 ≤ what ∧ what ≤ 2147483647) : Met l yX11_points (jw yX11_points cX11_points 4 (some .int)) (jr 6 128) (jP [.ref (q 0), .int (J s), .int (J what)] D (fun H => va_P D.1 j_cl (cW D q u) H)) (jRi (fun z => True)) 0 0 (fun _ => False) := by
  refine Met.ofW (cc := cX11_points) (maxL := 4) (ret := (some .int)) (by decide) rfl ?_
  intro pr en st mi args below meth co s₁ B hml hv
  obtain ⟨rfl, hG, hP⟩ := hv
  have hr := B.returns
  have hlk := B.notSynchronized
  have SS : jS pr mi co cX11_points 4 st _ RX11 := ⟨B.exec, B.bytes, hml, findClass_of_methodNamed B.named, fun w hw => atoms_spec (ws := (jw yX11_points cX11_points 4 (some .int))) B.pre w (List.mem_cons_of_mem _ hw)⟩
  have hl := lv_entry ([.ref (q 0), .int (J s), .int (J what)]) (n := 4) (Nat.le_of_ble_eq_true rfl)
  rw [lg_entry_eq]
  generalize (lg_sl ([.ref (q 0), .int (J s), .int (J what)]) ++ List.replicate (4 - (lg_sl ([.ref (q 0), .int (J s), .int (J what)])).length) Slot.unset).toArray = ls at hl ⊢
  have hl : lv_has ls 4 [(0, .ref (q 0)), (1, .int (J s)), (2, .int (J what))] := hl
  refine lv_aload_n SS.1 SS.2.1 dX11_points_0 rfl (lv_at hl 0 rfl) ?_
  refine lv_iload_n SS.1 SS.2.1 dX11_points_1 rfl (lv_at hl 1 rfl) ?_
  refine j_vSh SS (As := [.int (J s)]) (rest := []) (c_X11_shapeAt l D q u  s (show -2147483648 ≤ s ∧ s ≤ 2147483647 from (p1))) mf_X11_shapeAt kw_414 hG hP hP (ci := 11) (q0 := 0) rfl rfl rfl rfl hl.1 ⟨⟨Nat.le_of_ble_eq_true rfl, Nat.le_of_ble_eq_true rfl⟩, Nat.le_of_ble_eq_true rfl, Nat.le_refl _, Nat.le_refl _⟩ rfl dX11_points_2 (fun i_2 hi_2 hz_2 => ?_) (fun hn_2 => ?_)
  · skip
    have hI2 := CI_s p0 (show i_2 < 8 by omega)
    have hI2c := hI2.1
    have hrl2 := rl_s (show i_2 < 8 by omega)
    refine lv_astore_n (lv' := [(3, .ref (q (8 + 5 * i_2))), (0, .ref (q 0)), (1, .int (J s)), (2, .int (J what))]) SS.1 SS.2.1 dX11_points_5 rfl hl (by decide) rfl (fun ls hl => ?_)
    refine lv_aload_n SS.1 SS.2.1 dX11_points_6 rfl (lv_at hl 0 rfl) ?_
    refine lv_ifnonnull SS.1 SS.2.1 (tgt := 12) dX11_points_7 (by decide) ?_
    refine lv_iload_n SS.1 SS.2.1 dX11_points_12 rfl (lv_at hl 3 rfl) ?_
    rcases (show what = 0 ∨ what = 1 ∨ what = 2 ∨ what = 3 ∨ (what < 0 ∨ 3 < what) by omega) with c_13 | c_13 | c_13 | c_13 | c_13
    · skip
      refine lv_tableIn SS.1 SS.2.1 (off := 31) (tgt := 44) dX11_points_13 (by rw [J_toInt (by omega)]; omega) (by rw [J_toInt (by omega)]; omega) (by rw [J_toInt (by omega), c_13]; rfl) (by decide) ?_
      refine lv_aload_n SS.1 SS.2.1 dX11_points_44 rfl (lv_at hl 0 rfl) ?_
      refine j_get SS hG hP (8 + 5 * i_2) (v := .ref (q (9 + 5 * i_2))) (C := RX10) (T := TX10) (N := 3) (cw_shape (by omega)) rfl inX10 0 (by decide) (ref := "GridPolygons$Shape") kw_151 rfl rfl dX11_points_45 ?_
      refine j_vRi SS (As := []) (rest := []) (c_X7_area l D q u i_2 (by omega) (80 : Int)  (show 0 ≤ (80 : Int) ∧ (80 : Int) ≤ 80 from (by omega)) (show RB (80 : Int) u i_2 from (show RB 80 u i_2 from CI_s p0 (by omega)))) mf_X7_area kw_517 hG hP hP (ci := 7) (q0 := (9 + 5 * i_2)) rfl (cw_ring (by omega)) rfl rfl hl.1 ⟨⟨Nat.le_of_ble_eq_true rfl, Nat.le_of_ble_eq_true rfl⟩, Nat.le_of_ble_eq_true rfl, Nat.le_refl _, Nat.le_refl _⟩ rfl dX11_points_48 (fun z_48 h_48 => ?_)
      have h_48 : z_48 = rA u i_2 ∧ -10000000 ≤ z_48 ∧ z_48 ≤ 10000000 := h_48
      exact W.iret SS.1 SS.2.1 hr (fun t0 ht hW => ⟨_, rfl, ⟨z_48, rfl, (trivial)⟩, ht⟩) (fun _ h => nomatch h) dX11_points_51 hlk
    · skip
      refine lv_tableIn SS.1 SS.2.1 (off := 39) (tgt := 52) dX11_points_13 (by rw [J_toInt (by omega)]; omega) (by rw [J_toInt (by omega)]; omega) (by rw [J_toInt (by omega), c_13]; rfl) (by decide) ?_
      refine lv_aload_n SS.1 SS.2.1 dX11_points_52 rfl (lv_at hl 0 rfl) ?_
      refine j_get SS hG hP (8 + 5 * i_2) (v := .ref (q (9 + 5 * i_2))) (C := RX10) (T := TX10) (N := 3) (cw_shape (by omega)) rfl inX10 0 (by decide) (ref := "GridPolygons$Shape") kw_151 rfl rfl dX11_points_53 ?_
      refine j_vRi SS (As := []) (rest := []) (c_X7_onEdge l D q u i_2 (by omega) (80 : Int)  (show 0 ≤ (80 : Int) ∧ (80 : Int) ≤ 80 from (by omega)) (show RB (80 : Int) u i_2 from (show RB 80 u i_2 from CI_s p0 (by omega)))) mf_X7_onEdge kw_533 hG hP hP (ci := 7) (q0 := (9 + 5 * i_2)) rfl (cw_ring (by omega)) rfl rfl hl.1 ⟨⟨Nat.le_of_ble_eq_true rfl, Nat.le_of_ble_eq_true rfl⟩, Nat.le_of_ble_eq_true rfl, Nat.le_refl _, Nat.le_refl _⟩ rfl dX11_points_56 (fun z_56 h_56 => ?_)
      have h_56 : z_56 = rE u i_2 ∧ 0 ≤ z_56 ∧ z_56 ≤ 60000 := h_56
      exact W.iret SS.1 SS.2.1 hr (fun t0 ht hW => ⟨_, rfl, ⟨z_56, rfl, (trivial)⟩, ht⟩) (fun _ h => nomatch h) dX11_points_59 hlk
    · skip
      refine lv_tableIn SS.1 SS.2.1 (off := 47) (tgt := 60) dX11_points_13 (by rw [J_toInt (by omega)]; omega) (by rw [J_toInt (by omega)]; omega) (by rw [J_toInt (by omega), c_13]; rfl) (by decide) ?_
      refine lv_aload_n SS.1 SS.2.1 dX11_points_60 rfl (lv_at hl 0 rfl) ?_
      refine j_get SS hG hP (8 + 5 * i_2) (v := .ref (q (9 + 5 * i_2))) (C := RX10) (T := TX10) (N := 3) (cw_shape (by omega)) rfl inX10 0 (by decide) (ref := "GridPolygons$Shape") kw_151 rfl rfl dX11_points_61 ?_
      refine j_vRi SS (As := []) (rest := []) (c_X7_inside l D q u i_2 (by omega) (80 : Int)  (show 0 ≤ (80 : Int) ∧ (80 : Int) ≤ 80 from (by omega)) (show RB (80 : Int) u i_2 from (show RB 80 u i_2 from CI_s p0 (by omega)))) mf_X7_inside kw_547 hG hP hP (ci := 7) (q0 := (9 + 5 * i_2)) rfl (cw_ring (by omega)) rfl rfl hl.1 ⟨⟨Nat.le_of_ble_eq_true rfl, Nat.le_of_ble_eq_true rfl⟩, Nat.le_of_ble_eq_true rfl, Nat.le_refl _, Nat.le_refl _⟩ rfl dX11_points_64 (fun z_64 h_64 => ?_)
      have h_64 : z_64 = rI u i_2 ∧ -6000000 ≤ z_64 ∧ z_64 ≤ 6000000 := h_64
      exact W.iret SS.1 SS.2.1 hr (fun t0 ht hW => ⟨_, rfl, ⟨z_64, rfl, (trivial)⟩, ht⟩) (fun _ h => nomatch h) dX11_points_67 hlk
    · skip
      refine lv_tableIn SS.1 SS.2.1 (off := 55) (tgt := 68) dX11_points_13 (by rw [J_toInt (by omega)]; omega) (by rw [J_toInt (by omega)]; omega) (by rw [J_toInt (by omega), c_13]; rfl) (by decide) ?_
      refine lv_aload_n SS.1 SS.2.1 dX11_points_68 rfl (lv_at hl 0 rfl) ?_
      refine j_get SS hG hP (8 + 5 * i_2) (v := .ref (q (9 + 5 * i_2))) (C := RX10) (T := TX10) (N := 3) (cw_shape (by omega)) rfl inX10 0 (by decide) (ref := "GridPolygons$Shape") kw_151 rfl rfl dX11_points_69 ?_
      refine j_vRi SS (As := []) (rest := []) (c_X7_all l D q u i_2 (by omega) (80 : Int)  (show 0 ≤ (80 : Int) ∧ (80 : Int) ≤ 80 from (by omega)) (show RB (80 : Int) u i_2 from (show RB 80 u i_2 from CI_s p0 (by omega)))) mf_X7_all kw_553 hG hP hP (ci := 7) (q0 := (9 + 5 * i_2)) rfl (cw_ring (by omega)) rfl rfl hl.1 ⟨⟨Nat.le_of_ble_eq_true rfl, Nat.le_of_ble_eq_true rfl⟩, Nat.le_of_ble_eq_true rfl, Nat.le_refl _, Nat.le_refl _⟩ rfl dX11_points_72 (fun z_72 h_72 => ?_)
      have h_72 : z_72 = rE u i_2 + rI u i_2 ∧ -7000000 ≤ z_72 ∧ z_72 ≤ 7000000 := h_72
      exact W.iret SS.1 SS.2.1 hr (fun t0 ht hW => ⟨_, rfl, ⟨z_72, rfl, (trivial)⟩, ht⟩) (fun _ h => nomatch h) dX11_points_75 hlk
    · skip
      refine lv_tableOut SS.1 SS.2.1 (tgt := 76) dX11_points_13 (by rw [J_toInt (by omega)]; omega) (by decide) ?_
      refine j_iconst SS dX11_points_76 ?_
      exact W.iret SS.1 SS.2.1 hr (fun t0 ht hW => ⟨_, rfl, ⟨(-1), rfl, (trivial)⟩, ht⟩) (fun _ h => nomatch h) dX11_points_77 hlk
  · skip
    refine lv_astore_nN (lv' := [(3, .null), (0, .ref (q 0)), (1, .int (J s)), (2, .int (J what))]) SS.1 SS.2.1 dX11_points_5 rfl hl (by decide) rfl (fun ls hl => ?_)
    refine lv_aload_nN SS.1 SS.2.1 dX11_points_6 rfl (lv_at hl 0 rfl) ?_
    refine lv_ifnonnullN SS.1 SS.2.1 dX11_points_7 ?_
    refine j_iconst SS dX11_points_10 ?_
    exact W.iret SS.1 SS.2.1 hr (fun t0 ht hW => ⟨_, rfl, ⟨(-1), rfl, (trivial)⟩, ht⟩) (fun _ h => nomatch h) dX11_points_11 hlk

set_option maxHeartbeats 4000000 in
set_option maxRecDepth 100000 in
theorem c_X11_times (l : Launch) (D : JD) (q : Nat → Nat) (u : CS) (s : Int) (n : Int) (what : Int) (p0 : CI u) (p1 : -2147483648 ≤ s ∧ s ≤ 2147483647) (p2 : -2147483648 ≤ n ∧ n ≤ 2147483647) (p3 : -2147483648 ≤ what ∧ what ≤ 2147483647) : Met l yX11_times (jw yX11_times cX11_times 5 (some .long)) (jr 5 109) (jP [.ref (q 0), .int (J s), .int (J n), .int (J what)] D (fun H => va_P D.1 j_cl (cW D q u) H)) (vp_Sl (fun x9 => True)) 0 0 (fun _ => False) := by
  refine Met.ofW (cc := cX11_times) (maxL := 5) (ret := (some .long)) (by decide) rfl ?_
  intro pr en st mi args below meth co s₁ B hml hv
  obtain ⟨rfl, hG, hP⟩ := hv
  have hr := B.returns
  have hlk := B.notSynchronized
  have SS : jS pr mi co cX11_times 5 st _ RX11 := ⟨B.exec, B.bytes, hml, findClass_of_methodNamed B.named, fun w hw => atoms_spec (ws := (jw yX11_times cX11_times 5 (some .long))) B.pre w (List.mem_cons_of_mem _ hw)⟩
  have hl := lv_entry ([.ref (q 0), .int (J s), .int (J n), .int (J what)]) (n := 5) (Nat.le_of_ble_eq_true rfl)
  rw [lg_entry_eq]
  generalize (lg_sl ([.ref (q 0), .int (J s), .int (J n), .int (J what)]) ++ List.replicate (5 - (lg_sl ([.ref (q 0), .int (J s), .int (J n), .int (J what)])).length) Slot.unset).toArray = ls at hl ⊢
  have hl : lv_has ls 5 [(0, .ref (q 0)), (1, .int (J s)), (2, .int (J n)), (3, .int (J what))] := hl
  refine lv_aload_n SS.1 SS.2.1 dX11_times_0 rfl (lv_at hl 0 rfl) ?_
  refine lv_iload_n SS.1 SS.2.1 dX11_times_1 rfl (lv_at hl 1 rfl) ?_
  refine j_vSh SS (As := [.int (J s)]) (rest := []) (c_X11_shapeAt l D q u  s (show -2147483648 ≤ s ∧ s ≤ 2147483647 from (p1))) mf_X11_shapeAt kw_414 hG hP hP (ci := 11) (q0 := 0) rfl rfl rfl rfl hl.1 ⟨⟨Nat.le_of_ble_eq_true rfl, Nat.le_of_ble_eq_true rfl⟩, Nat.le_of_ble_eq_true rfl, Nat.le_refl _, Nat.le_refl _⟩ rfl dX11_times_2 (fun i_2 hi_2 hz_2 => ?_) (fun hn_2 => ?_)
  · skip
    have hI2 := CI_s p0 (show i_2 < 8 by omega)
    have hI2c := hI2.1
    have hrl2 := rl_s (show i_2 < 8 by omega)
    refine lv_astore (lv' := [(4, .ref (q (8 + 5 * i_2))), (0, .ref (q 0)), (1, .int (J s)), (2, .int (J n)), (3, .int (J what))]) SS.1 SS.2.1 dX11_times_5 hl (by decide) rfl (fun ls hl => ?_)
    refine lv_aload SS.1 SS.2.1 dX11_times_7 (lv_at hl 0 rfl) ?_
    refine lv_ifnull SS.1 SS.2.1 dX11_times_9 ?_
    refine lv_iload_n SS.1 SS.2.1 dX11_times_12 rfl (lv_at hl 3 rfl) ?_
    refine j_if_lt SS (tgt := 32) (x := n) dX11_times_13 (by decide) (by omega) (fun c_13 => ?_) (fun c_13 => ?_)
    · skip
      refine lv_ldc2 SS.1 SS.2.1 SS.2.2.2.1 (SS.2.2.2.2 _ kw_562) dX11_times_32 ?_
      exact W.lret SS.1 SS.2.1 hr (fun t0 ht hW => ⟨_, rfl, (trivial), ht⟩) (fun _ h => nomatch h) dX11_times_35 hlk
    · skip
      refine lv_iload_n SS.1 SS.2.1 dX11_times_16 rfl (lv_at hl 3 rfl) ?_
      refine j_sipush SS dX11_times_17 (by decide +kernel) ?_
      refine j_icmp_gt SS (tgt := 32) (x := n) (y := 1000) dX11_times_20 (by decide) (by omega) (by decide) (fun c_20 => ?_) (fun c_20 => ?_)
      · skip
        refine lv_ldc2 SS.1 SS.2.1 SS.2.2.2.1 (SS.2.2.2.2 _ kw_562) dX11_times_32 ?_
        exact W.lret SS.1 SS.2.1 hr (fun t0 ht hW => ⟨_, rfl, (trivial), ht⟩) (fun _ h => nomatch h) dX11_times_35 hlk
      · skip
        refine lv_iload_n SS.1 SS.2.1 dX11_times_23 rfl (lv_at hl 4 rfl) ?_
        refine j_if_lt SS (tgt := 32) (x := what) dX11_times_24 (by decide) (by omega) (fun c_24 => ?_) (fun c_24 => ?_)
        · skip
          refine lv_ldc2 SS.1 SS.2.1 SS.2.2.2.1 (SS.2.2.2.2 _ kw_562) dX11_times_32 ?_
          exact W.lret SS.1 SS.2.1 hr (fun t0 ht hW => ⟨_, rfl, (trivial), ht⟩) (fun _ h => nomatch h) dX11_times_35 hlk
        · skip
          refine lv_iload_n SS.1 SS.2.1 dX11_times_27 rfl (lv_at hl 4 rfl) ?_
          refine j_iconst SS dX11_times_28 ?_
          refine j_icmp_le SS (tgt := 36) (x := what) (y := 1) dX11_times_29 (by decide) (by omega) (by decide) (fun c_29 => ?_) (fun c_29 => ?_)
          · skip
            refine lv_iload_n SS.1 SS.2.1 dX11_times_36 rfl (lv_at hl 4 rfl) ?_
            refine j_if_ne SS (tgt := 50) (x := what) dX11_times_37 (by decide) (by omega) (fun c_37 => ?_) (fun c_37 => ?_)
            · skip
              refine lv_aload SS.1 SS.2.1 dX11_times_50 (lv_at hl 0 rfl) ?_
              refine j_get SS hG hP (8 + 5 * i_2) (v := .ref (q (9 + 5 * i_2))) (C := RX10) (T := TX10) (N := 3) (cw_shape (by omega)) rfl inX10 0 (by decide) (ref := "GridPolygons$Shape") kw_151 rfl rfl dX11_times_52 ?_
              refine j_vRi SS (As := []) (rest := []) (c_X7_isPolygon l D q u i_2 (by omega) (80 : Int)  (show 0 ≤ (80 : Int) ∧ (80 : Int) ≤ 80 from (by omega)) (show RB (80 : Int) u i_2 from (show RB 80 u i_2 from CI_s p0 (by omega)))) mf_X7_isPolygon kw_568 hG hP hP (ci := 7) (q0 := (9 + 5 * i_2)) rfl (cw_ring (by omega)) rfl rfl hl.1 ⟨⟨Nat.le_of_ble_eq_true rfl, Nat.le_of_ble_eq_true rfl⟩, Nat.le_of_ble_eq_true rfl, Nat.le_refl _, Nat.le_refl _⟩ rfl dX11_times_55 (fun z_55 h_55 => ?_)
              have h_55 : (z_55 = 1 ∧ 3 ≤ (u.1.2.2.1 i_2)) ∨ (z_55 = 0 ∧ (u.1.2.2.1 i_2) < 3) := h_55
              refine j_if_eq SS (tgt := 73) (x := z_55) dX11_times_58 (by decide) (by omega) (fun c_58 => ?_) (fun c_58 => ?_)
              · skip
                refine lv_ldc2 SS.1 SS.2.1 SS.2.2.2.1 (SS.2.2.2.2 _ kw_576) dX11_times_73 ?_
                exact W.lret SS.1 SS.2.1 hr (fun t0 ht hW => ⟨_, rfl, (trivial), ht⟩) (fun _ h => nomatch h) dX11_times_76 hlk
              · skip
                refine lv_aload SS.1 SS.2.1 dX11_times_61 (lv_at hl 0 rfl) ?_
                refine j_get SS hG hP (8 + 5 * i_2) (v := .ref (q (9 + 5 * i_2))) (C := RX10) (T := TX10) (N := 3) (cw_shape (by omega)) rfl inX10 0 (by decide) (ref := "GridPolygons$Shape") kw_151 rfl rfl dX11_times_63 ?_
                refine lv_iload_n SS.1 SS.2.1 dX11_times_66 rfl (lv_at hl 3 rfl) ?_
                refine j_vRl SS (As := [.int (J n)]) (rest := []) (c_X7_insideTimes l D q u i_2 (by omega) (80 : Int) n (show 0 ≤ (80 : Int) ∧ (80 : Int) ≤ 80 from (by omega)) (show RB (80 : Int) u i_2 from (show RB 80 u i_2 from CI_s p0 (by omega))) (show -2147483648 ≤ n ∧ n ≤ 2147483647 from (p2))) mf_X7_insideTimes kw_572 hG hP hP (ci := 7) (q0 := (9 + 5 * i_2)) rfl (cw_ring (by omega)) rfl rfl hl.1 ⟨⟨Nat.le_of_ble_eq_true rfl, Nat.le_of_ble_eq_true rfl⟩, Nat.le_of_ble_eq_true rfl, Nat.le_refl _, Nat.le_refl _⟩ rfl dX11_times_67 (fun x_67 h_67 => ?_)
                refine lv_goto (tgt := 76) SS.1 SS.2.1 dX11_times_70 (by decide) ?_
                exact W.lret SS.1 SS.2.1 hr (fun t0 ht hW => ⟨_, rfl, (trivial), ht⟩) (fun _ h => nomatch h) dX11_times_76 hlk
            · skip
              refine lv_aload SS.1 SS.2.1 dX11_times_40 (lv_at hl 0 rfl) ?_
              refine j_get SS hG hP (8 + 5 * i_2) (v := .ref (q (9 + 5 * i_2))) (C := RX10) (T := TX10) (N := 3) (cw_shape (by omega)) rfl inX10 0 (by decide) (ref := "GridPolygons$Shape") kw_151 rfl rfl dX11_times_42 ?_
              refine lv_iload_n SS.1 SS.2.1 dX11_times_45 rfl (lv_at hl 3 rfl) ?_
              refine j_vRl SS (As := [.int (J n)]) (rest := []) (c_X7_allTimes l D q u i_2 (by omega) (80 : Int) n (show 0 ≤ (80 : Int) ∧ (80 : Int) ≤ 80 from (by omega)) (show RB (80 : Int) u i_2 from (show RB 80 u i_2 from CI_s p0 (by omega)))) mf_X7_allTimes kw_563 hG hP hP (ci := 7) (q0 := (9 + 5 * i_2)) rfl (cw_ring (by omega)) rfl rfl hl.1 ⟨⟨Nat.le_of_ble_eq_true rfl, Nat.le_of_ble_eq_true rfl⟩, Nat.le_of_ble_eq_true rfl, Nat.le_refl _, Nat.le_refl _⟩ rfl dX11_times_46 (fun x_46 h_46 => ?_)
              exact W.lret SS.1 SS.2.1 hr (fun t0 ht hW => ⟨_, rfl, (trivial), ht⟩) (fun _ h => nomatch h) dX11_times_49 hlk
          · skip
            refine lv_ldc2 SS.1 SS.2.1 SS.2.2.2.1 (SS.2.2.2.2 _ kw_562) dX11_times_32 ?_
            exact W.lret SS.1 SS.2.1 hr (fun t0 ht hW => ⟨_, rfl, (trivial), ht⟩) (fun _ h => nomatch h) dX11_times_35 hlk
  · skip
    refine lv_astoreN (lv' := [(4, .null), (0, .ref (q 0)), (1, .int (J s)), (2, .int (J n)), (3, .int (J what))]) SS.1 SS.2.1 dX11_times_5 hl (by decide) rfl (fun ls hl => ?_)
    refine lv_aloadN SS.1 SS.2.1 dX11_times_7 (lv_at hl 0 rfl) ?_
    refine lv_ifnullN SS.1 SS.2.1 (tgt := 32) dX11_times_9 (by decide) ?_
    refine lv_ldc2 SS.1 SS.2.1 SS.2.2.2.1 (SS.2.2.2.2 _ kw_562) dX11_times_32 ?_
    exact W.lret SS.1 SS.2.1 hr (fun t0 ht hW => ⟨_, rfl, (trivial), ht⟩) (fun _ h => nomatch h) dX11_times_35 hlk

set_option maxHeartbeats 4000000 in
set_option maxRecDepth 100000 in
theorem c_X11_where (l : Launch) (D : JD) (q : Nat → Nat) (u : CS) (s : Int) (x : Int) (y : Int) (p0 : CI u) (p1 : -2147483648 ≤ s ∧ s ≤ 2147483647) (p2 : -2147483648 ≤ x ∧ x ≤ 2147483647) (p3 : -2147483648 ≤ y ∧ y ≤ 2147483647) : Met l yX11_where (jw yX11_where cX11_where 5 (some .int)) (jr 4 91) (jP [.ref (q 0), .int (J s), .int (J x), .int (J y)] D (fun H => va_P D.1 j_cl (cW D q u) H)) (jRi (fun z => True)) 0 0 (fun _ => False) := by
  refine Met.ofW (cc := cX11_where) (maxL := 5) (ret := (some .int)) (by decide) rfl ?_
  intro pr en st mi args below meth co s₁ B hml hv
  obtain ⟨rfl, hG, hP⟩ := hv
  have hr := B.returns
  have hlk := B.notSynchronized
  have SS : jS pr mi co cX11_where 5 st _ RX11 := ⟨B.exec, B.bytes, hml, findClass_of_methodNamed B.named, fun w hw => atoms_spec (ws := (jw yX11_where cX11_where 5 (some .int))) B.pre w (List.mem_cons_of_mem _ hw)⟩
  have hl := lv_entry ([.ref (q 0), .int (J s), .int (J x), .int (J y)]) (n := 5) (Nat.le_of_ble_eq_true rfl)
  rw [lg_entry_eq]
  generalize (lg_sl ([.ref (q 0), .int (J s), .int (J x), .int (J y)]) ++ List.replicate (5 - (lg_sl ([.ref (q 0), .int (J s), .int (J x), .int (J y)])).length) Slot.unset).toArray = ls at hl ⊢
  have hl : lv_has ls 5 [(0, .ref (q 0)), (1, .int (J s)), (2, .int (J x)), (3, .int (J y))] := hl
  refine lv_aload_n SS.1 SS.2.1 dX11_where_0 rfl (lv_at hl 0 rfl) ?_
  refine lv_iload_n SS.1 SS.2.1 dX11_where_1 rfl (lv_at hl 1 rfl) ?_
  refine j_vSh SS (As := [.int (J s)]) (rest := []) (c_X11_shapeAt l D q u  s (show -2147483648 ≤ s ∧ s ≤ 2147483647 from (p1))) mf_X11_shapeAt kw_414 hG hP hP (ci := 11) (q0 := 0) rfl rfl rfl rfl hl.1 ⟨⟨Nat.le_of_ble_eq_true rfl, Nat.le_of_ble_eq_true rfl⟩, Nat.le_of_ble_eq_true rfl, Nat.le_refl _, Nat.le_refl _⟩ rfl dX11_where_2 (fun i_2 hi_2 hz_2 => ?_) (fun hn_2 => ?_)
  · skip
    have hI2 := CI_s p0 (show i_2 < 8 by omega)
    have hI2c := hI2.1
    have hrl2 := rl_s (show i_2 < 8 by omega)
    refine lv_astore (lv' := [(4, .ref (q (8 + 5 * i_2))), (0, .ref (q 0)), (1, .int (J s)), (2, .int (J x)), (3, .int (J y))]) SS.1 SS.2.1 dX11_where_5 hl (by decide) rfl (fun ls hl => ?_)
    refine lv_aload SS.1 SS.2.1 dX11_where_7 (lv_at hl 0 rfl) ?_
    refine lv_ifnull SS.1 SS.2.1 dX11_where_9 ?_
    refine lv_iload_n SS.1 SS.2.1 dX11_where_12 rfl (lv_at hl 3 rfl) ?_
    refine j_sRi SS (As := [.int (J x)]) (rest := []) (c_X11_onGrid l D  x (show -2147483648 ≤ x ∧ x ≤ 2147483647 from (p2))) mf_X11_onGrid kw_475 hG trivial rfl hl.1 ⟨⟨Nat.le_of_ble_eq_true rfl, Nat.le_of_ble_eq_true rfl⟩, Nat.le_of_ble_eq_true rfl, Nat.le_refl _, Nat.le_refl _⟩ rfl dX11_where_13 (fun z_13 h_13 => ?_)
    have h_13 : (z_13 = 1 ∧ (-40 ≤ x ∧ x ≤ 40)) ∨ (z_13 = 0 ∧ ¬ (-40 ≤ x ∧ x ≤ 40)) := h_13
    refine j_if_eq SS (tgt := 26) (x := z_13) dX11_where_16 (by decide) (by omega) (fun c_16 => ?_) (fun c_16 => ?_)
    · skip
      refine j_iconst SS dX11_where_26 ?_
      exact W.iret SS.1 SS.2.1 hr (fun t0 ht hW => ⟨_, rfl, ⟨(-1), rfl, (trivial)⟩, ht⟩) (fun _ h => nomatch h) dX11_where_27 hlk
    · skip
      refine lv_iload_n SS.1 SS.2.1 dX11_where_19 rfl (lv_at hl 4 rfl) ?_
      refine j_sRi SS (As := [.int (J y)]) (rest := []) (c_X11_onGrid l D  y (show -2147483648 ≤ y ∧ y ≤ 2147483647 from (p3))) mf_X11_onGrid kw_475 hG trivial rfl hl.1 ⟨⟨Nat.le_of_ble_eq_true rfl, Nat.le_of_ble_eq_true rfl⟩, Nat.le_of_ble_eq_true rfl, Nat.le_refl _, Nat.le_refl _⟩ rfl dX11_where_20 (fun z_20 h_20 => ?_)
      have h_20 : (z_20 = 1 ∧ (-40 ≤ y ∧ y ≤ 40)) ∨ (z_20 = 0 ∧ ¬ (-40 ≤ y ∧ y ≤ 40)) := h_20
      refine j_if_ne SS (tgt := 28) (x := z_20) dX11_where_23 (by decide) (by omega) (fun c_23 => ?_) (fun c_23 => ?_)
      · skip
        refine lv_aload SS.1 SS.2.1 dX11_where_28 (lv_at hl 0 rfl) ?_
        refine j_get SS hG hP (8 + 5 * i_2) (v := .ref (q (9 + 5 * i_2))) (C := RX10) (T := TX10) (N := 3) (cw_shape (by omega)) rfl inX10 0 (by decide) (ref := "GridPolygons$Shape") kw_151 rfl rfl dX11_where_30 ?_
        refine lv_iload_n SS.1 SS.2.1 dX11_where_33 rfl (lv_at hl 3 rfl) ?_
        refine lv_iload_n SS.1 SS.2.1 dX11_where_34 rfl (lv_at hl 4 rfl) ?_
        refine j_vRi SS (As := [.int (J x), .int (J y)]) (rest := []) (c_X7_standing l D q u i_2 (by omega) (80 : Int) x y (show 0 ≤ (80 : Int) ∧ (80 : Int) ≤ 80 from (by omega)) (show RB (80 : Int) u i_2 from (show RB 80 u i_2 from CI_s p0 (by omega))) (show -200 ≤ x ∧ x ≤ 200 from (by omega)) (show -200 ≤ y ∧ y ≤ 200 from (by omega))) mf_X7_standing kw_581 hG hP hP (ci := 7) (q0 := (9 + 5 * i_2)) rfl (cw_ring (by omega)) rfl rfl hl.1 ⟨⟨Nat.le_of_ble_eq_true rfl, Nat.le_of_ble_eq_true rfl⟩, Nat.le_of_ble_eq_true rfl, Nat.le_refl _, Nat.le_refl _⟩ rfl dX11_where_35 (fun z_35 h_35 => ?_)
        have h_35 : z_35 = 0 ∨ z_35 = 1 ∨ z_35 = 2 := h_35
        exact W.iret SS.1 SS.2.1 hr (fun t0 ht hW => ⟨_, rfl, ⟨z_35, rfl, (trivial)⟩, ht⟩) (fun _ h => nomatch h) dX11_where_38 hlk
      · skip
        refine j_iconst SS dX11_where_26 ?_
        exact W.iret SS.1 SS.2.1 hr (fun t0 ht hW => ⟨_, rfl, ⟨(-1), rfl, (trivial)⟩, ht⟩) (fun _ h => nomatch h) dX11_where_27 hlk
  · skip
    refine lv_astoreN (lv' := [(4, .null), (0, .ref (q 0)), (1, .int (J s)), (2, .int (J x)), (3, .int (J y))]) SS.1 SS.2.1 dX11_where_5 hl (by decide) rfl (fun ls hl => ?_)
    refine lv_aloadN SS.1 SS.2.1 dX11_where_7 (lv_at hl 0 rfl) ?_
    refine lv_ifnullN SS.1 SS.2.1 (tgt := 26) dX11_where_9 (by decide) ?_
    refine j_iconst SS dX11_where_26 ?_
    exact W.iret SS.1 SS.2.1 hr (fun t0 ht hW => ⟨_, rfl, ⟨(-1), rfl, (trivial)⟩, ht⟩) (fun _ h => nomatch h) dX11_where_27 hlk

set_option maxHeartbeats 4000000 in
set_option maxRecDepth 100000 in
theorem c_X11_point (l : Launch) (D : JD) (q : Nat → Nat) (u : CS) (s : Int) (i : Int) (what : Int) (p0 : CI u) (p1 : -2147483648 ≤ s ∧ s ≤ 2147483647) (p2 : -2147483648 ≤ i ∧ i ≤ 2147483647) (p3 : -2147483648 ≤ what ∧ what ≤ 2147483647) : Met l yX11_point (jw yX11_point cX11_point 5 (some .int)) (jr 4 94) (jP [.ref (q 0), .int (J s), .int (J i), .int (J what)] D (fun H => va_P D.1 j_cl (cW D q u) H)) (jRi (fun z => True)) 0 0 (fun _ => False) := by
  refine Met.ofW (cc := cX11_point) (maxL := 5) (ret := (some .int)) (by decide) rfl ?_
  intro pr en st mi args below meth co s₁ B hml hv
  obtain ⟨rfl, hG, hP⟩ := hv
  have hr := B.returns
  have hlk := B.notSynchronized
  have SS : jS pr mi co cX11_point 5 st _ RX11 := ⟨B.exec, B.bytes, hml, findClass_of_methodNamed B.named, fun w hw => atoms_spec (ws := (jw yX11_point cX11_point 5 (some .int))) B.pre w (List.mem_cons_of_mem _ hw)⟩
  have hl := lv_entry ([.ref (q 0), .int (J s), .int (J i), .int (J what)]) (n := 5) (Nat.le_of_ble_eq_true rfl)
  rw [lg_entry_eq]
  generalize (lg_sl ([.ref (q 0), .int (J s), .int (J i), .int (J what)]) ++ List.replicate (5 - (lg_sl ([.ref (q 0), .int (J s), .int (J i), .int (J what)])).length) Slot.unset).toArray = ls at hl ⊢
  have hl : lv_has ls 5 [(0, .ref (q 0)), (1, .int (J s)), (2, .int (J i)), (3, .int (J what))] := hl
  refine lv_aload_n SS.1 SS.2.1 dX11_point_0 rfl (lv_at hl 0 rfl) ?_
  refine lv_iload_n SS.1 SS.2.1 dX11_point_1 rfl (lv_at hl 1 rfl) ?_
  refine j_vSh SS (As := [.int (J s)]) (rest := []) (c_X11_shapeAt l D q u  s (show -2147483648 ≤ s ∧ s ≤ 2147483647 from (p1))) mf_X11_shapeAt kw_414 hG hP hP (ci := 11) (q0 := 0) rfl rfl rfl rfl hl.1 ⟨⟨Nat.le_of_ble_eq_true rfl, Nat.le_of_ble_eq_true rfl⟩, Nat.le_of_ble_eq_true rfl, Nat.le_refl _, Nat.le_refl _⟩ rfl dX11_point_2 (fun i_2 hi_2 hz_2 => ?_) (fun hn_2 => ?_)
  · skip
    have hI2 := CI_s p0 (show i_2 < 8 by omega)
    have hI2c := hI2.1
    have hrl2 := rl_s (show i_2 < 8 by omega)
    refine lv_astore (lv' := [(4, .ref (q (8 + 5 * i_2))), (0, .ref (q 0)), (1, .int (J s)), (2, .int (J i)), (3, .int (J what))]) SS.1 SS.2.1 dX11_point_5 hl (by decide) rfl (fun ls hl => ?_)
    refine lv_aload SS.1 SS.2.1 dX11_point_7 (lv_at hl 0 rfl) ?_
    refine lv_ifnull SS.1 SS.2.1 dX11_point_9 ?_
    refine lv_iload_n SS.1 SS.2.1 dX11_point_12 rfl (lv_at hl 3 rfl) ?_
    refine j_if_lt SS (tgt := 25) (x := i) dX11_point_13 (by decide) (by omega) (fun c_13 => ?_) (fun c_13 => ?_)
    · skip
      refine j_ldc SS (-1000000) kw_512 dX11_point_25 ?_
      exact W.iret SS.1 SS.2.1 hr (fun t0 ht hW => ⟨_, rfl, ⟨(-1000000), rfl, (trivial)⟩, ht⟩) (fun _ h => nomatch h) dX11_point_27 hlk
    · skip
      refine lv_iload_n SS.1 SS.2.1 dX11_point_16 rfl (lv_at hl 4 rfl) ?_
      refine j_if_lt SS (tgt := 25) (x := what) dX11_point_17 (by decide) (by omega) (fun c_17 => ?_) (fun c_17 => ?_)
      · skip
        refine j_ldc SS (-1000000) kw_512 dX11_point_25 ?_
        exact W.iret SS.1 SS.2.1 hr (fun t0 ht hW => ⟨_, rfl, ⟨(-1000000), rfl, (trivial)⟩, ht⟩) (fun _ h => nomatch h) dX11_point_27 hlk
      · skip
        refine lv_iload_n SS.1 SS.2.1 dX11_point_20 rfl (lv_at hl 4 rfl) ?_
        refine j_iconst SS dX11_point_21 ?_
        refine j_icmp_le SS (tgt := 28) (x := what) (y := 1) dX11_point_22 (by decide) (by omega) (by decide) (fun c_22 => ?_) (fun c_22 => ?_)
        · skip
          refine lv_aload SS.1 SS.2.1 dX11_point_28 (lv_at hl 0 rfl) ?_
          refine j_get SS hG hP (8 + 5 * i_2) (v := .ref (q (9 + 5 * i_2))) (C := RX10) (T := TX10) (N := 3) (cw_shape (by omega)) rfl inX10 0 (by decide) (ref := "GridPolygons$Shape") kw_151 rfl rfl dX11_point_30 ?_
          refine lv_iload_n SS.1 SS.2.1 dX11_point_33 rfl (lv_at hl 3 rfl) ?_
          refine lv_iload_n SS.1 SS.2.1 dX11_point_34 rfl (lv_at hl 4 rfl) ?_
          refine j_vRi SS (As := [.int (J i), .int (J what)]) (rest := []) (c_X7_coordinate l D q u i_2 (by omega) (80 : Int) i what (show 0 ≤ (80 : Int) ∧ (80 : Int) ≤ 80 from (by omega)) (show RB (80 : Int) u i_2 from (show RB 80 u i_2 from CI_s p0 (by omega))) (show 0 ≤ i ∧ i ≤ 2147483647 from (by omega)) (show -2147483648 ≤ what ∧ what ≤ 2147483647 from (p3))) mf_X7_coordinate kw_618 hG hP hP (ci := 7) (q0 := (9 + 5 * i_2)) rfl (cw_ring (by omega)) rfl rfl hl.1 ⟨⟨Nat.le_of_ble_eq_true rfl, Nat.le_of_ble_eq_true rfl⟩, Nat.le_of_ble_eq_true rfl, Nat.le_refl _, Nat.le_refl _⟩ rfl dX11_point_35 (fun z_35 h_35 => ?_)
          have h_35 : True := h_35
          exact W.iret SS.1 SS.2.1 hr (fun t0 ht hW => ⟨_, rfl, ⟨z_35, rfl, (trivial)⟩, ht⟩) (fun _ h => nomatch h) dX11_point_38 hlk
        · skip
          refine j_ldc SS (-1000000) kw_512 dX11_point_25 ?_
          exact W.iret SS.1 SS.2.1 hr (fun t0 ht hW => ⟨_, rfl, ⟨(-1000000), rfl, (trivial)⟩, ht⟩) (fun _ h => nomatch h) dX11_point_27 hlk
  · skip
    refine lv_astoreN (lv' := [(4, .null), (0, .ref (q 0)), (1, .int (J s)), (2, .int (J i)), (3, .int (J what))]) SS.1 SS.2.1 dX11_point_5 hl (by decide) rfl (fun ls hl => ?_)
    refine lv_aloadN SS.1 SS.2.1 dX11_point_7 (lv_at hl 0 rfl) ?_
    refine lv_ifnullN SS.1 SS.2.1 (tgt := 25) dX11_point_9 (by decide) ?_
    refine j_ldc SS (-1000000) kw_512 dX11_point_25 ?_
    exact W.iret SS.1 SS.2.1 hr (fun t0 ht hW => ⟨_, rfl, ⟨(-1000000), rfl, (trivial)⟩, ht⟩) (fun _ h => nomatch h) dX11_point_27 hlk

set_option maxHeartbeats 4000000 in
set_option maxRecDepth 100000 in
theorem c_X11_width (l : Launch) (D : JD) (q : Nat → Nat) (u : CS) (s : Int) (a : Int) (b : Int) (p0 : CI u) (p1 : -2147483648 ≤ s ∧ s ≤ 2147483647) (p2 : -2147483648 ≤ a ∧ a ≤ 2147483647) (p3 : -2147483648 ≤ b ∧ b ≤ 2147483647) : Met l yX11_width (jw yX11_width cX11_width 5 (some .int)) (jr 3 66) (jP [.ref (q 0), .int (J s), .int (J a), .int (J b)] D (fun H => va_P D.1 j_cl (cW D q u) H)) (jRi (fun z => True)) 0 0 (fun _ => False) := by
  refine Met.ofW (cc := cX11_width) (maxL := 5) (ret := (some .int)) (by decide) rfl ?_
  intro pr en st mi args below meth co s₁ B hml hv
  obtain ⟨rfl, hG, hP⟩ := hv
  have hr := B.returns
  have hlk := B.notSynchronized
  have SS : jS pr mi co cX11_width 5 st _ RX11 := ⟨B.exec, B.bytes, hml, findClass_of_methodNamed B.named, fun w hw => atoms_spec (ws := (jw yX11_width cX11_width 5 (some .int))) B.pre w (List.mem_cons_of_mem _ hw)⟩
  have hl := lv_entry ([.ref (q 0), .int (J s), .int (J a), .int (J b)]) (n := 5) (Nat.le_of_ble_eq_true rfl)
  rw [lg_entry_eq]
  generalize (lg_sl ([.ref (q 0), .int (J s), .int (J a), .int (J b)]) ++ List.replicate (5 - (lg_sl ([.ref (q 0), .int (J s), .int (J a), .int (J b)])).length) Slot.unset).toArray = ls at hl ⊢
  have hl : lv_has ls 5 [(0, .ref (q 0)), (1, .int (J s)), (2, .int (J a)), (3, .int (J b))] := hl
  refine lv_aload_n SS.1 SS.2.1 dX11_width_0 rfl (lv_at hl 0 rfl) ?_
  refine lv_iload_n SS.1 SS.2.1 dX11_width_1 rfl (lv_at hl 1 rfl) ?_
  refine j_vSh SS (As := [.int (J s)]) (rest := []) (c_X11_shapeAt l D q u  s (show -2147483648 ≤ s ∧ s ≤ 2147483647 from (p1))) mf_X11_shapeAt kw_414 hG hP hP (ci := 11) (q0 := 0) rfl rfl rfl rfl hl.1 ⟨⟨Nat.le_of_ble_eq_true rfl, Nat.le_of_ble_eq_true rfl⟩, Nat.le_of_ble_eq_true rfl, Nat.le_refl _, Nat.le_refl _⟩ rfl dX11_width_2 (fun i_2 hi_2 hz_2 => ?_) (fun hn_2 => ?_)
  · skip
    have hI2 := CI_s p0 (show i_2 < 8 by omega)
    have hI2c := hI2.1
    have hrl2 := rl_s (show i_2 < 8 by omega)
    refine lv_astore (lv' := [(4, .ref (q (8 + 5 * i_2))), (0, .ref (q 0)), (1, .int (J s)), (2, .int (J a)), (3, .int (J b))]) SS.1 SS.2.1 dX11_width_5 hl (by decide) rfl (fun ls hl => ?_)
    refine lv_aload SS.1 SS.2.1 dX11_width_7 (lv_at hl 0 rfl) ?_
    refine lv_ifnull SS.1 SS.2.1 dX11_width_9 ?_
    refine lv_iload_n SS.1 SS.2.1 dX11_width_12 rfl (lv_at hl 3 rfl) ?_
    refine lv_iload_n SS.1 SS.2.1 dX11_width_13 rfl (lv_at hl 4 rfl) ?_
    refine j_sRi SS (As := [.int (J a), .int (J b)]) (rest := []) (c_X11_isWay l D  a b (show -2147483648 ≤ a ∧ a ≤ 2147483647 from (p2)) (show -2147483648 ≤ b ∧ b ≤ 2147483647 from (p3))) mf_X11_isWay kw_627 hG trivial rfl hl.1 ⟨⟨Nat.le_of_ble_eq_true rfl, Nat.le_of_ble_eq_true rfl⟩, Nat.le_of_ble_eq_true rfl, Nat.le_refl _, Nat.le_refl _⟩ rfl dX11_width_14 (fun z_14 h_14 => ?_)
    have h_14 : (z_14 = 1 ∧ (0 ≤ a ∧ a ≤ 100 ∧ -100 ≤ b ∧ b ≤ 100) ∧ ((a = 0 ∧ b = 1) ∨ (a ≠ 0 ∧ (Int.gcd a b : Int) = 1))) ∨ (z_14 = 0 ∧ ¬ ((0 ≤ a ∧ a ≤ 100 ∧ -100 ≤ b ∧ b ≤ 100) ∧ ((a = 0 ∧ b = 1) ∨ (a ≠ 0 ∧ (Int.gcd a b : Int) = 1)))) := h_14
    refine j_if_ne SS (tgt := 22) (x := z_14) dX11_width_17 (by decide) (by omega) (fun c_17 => ?_) (fun c_17 => ?_)
    · skip
      refine lv_aload SS.1 SS.2.1 dX11_width_22 (lv_at hl 0 rfl) ?_
      refine j_get SS hG hP (8 + 5 * i_2) (v := .ref (q (9 + 5 * i_2))) (C := RX10) (T := TX10) (N := 3) (cw_shape (by omega)) rfl inX10 0 (by decide) (ref := "GridPolygons$Shape") kw_151 rfl rfl dX11_width_24 ?_
      refine j_getS SS hG hP (9 + 5 * i_2) (v := .int (J (u.1.2.2.1 i_2))) (C := RX7) (T := TX7) (N := 3) (cw_ring (by omega)) rfl inX7 2 (by decide) (ref := "GridPolygons$Ring") kw_135 kw_132 rfl dX11_width_27 ?_
      refine j_if_ne SS (tgt := 38) (x := (u.1.2.2.1 i_2)) dX11_width_30 (by decide) (by omega) (fun c_30 => ?_) (fun c_30 => ?_)
      · skip
        refine lv_aload SS.1 SS.2.1 dX11_width_38 (lv_at hl 0 rfl) ?_
        refine j_get SS hG hP (8 + 5 * i_2) (v := .ref (q (9 + 5 * i_2))) (C := RX10) (T := TX10) (N := 3) (cw_shape (by omega)) rfl inX10 0 (by decide) (ref := "GridPolygons$Shape") kw_151 rfl rfl dX11_width_40 ?_
        refine lv_iload_n SS.1 SS.2.1 dX11_width_43 rfl (lv_at hl 3 rfl) ?_
        refine lv_iload_n SS.1 SS.2.1 dX11_width_44 rfl (lv_at hl 4 rfl) ?_
        refine j_vRi SS (As := [.int (J a), .int (J b)]) (rest := []) (c_X7_across l D q u i_2 (by omega) (80 : Int) a b (show 0 ≤ (80 : Int) ∧ (80 : Int) ≤ 80 from (by omega)) (show RB (80 : Int) u i_2 from (show RB 80 u i_2 from CI_s p0 (by omega))) (show -20000 ≤ a ∧ a ≤ 20000 from (by omega)) (show -20000 ≤ b ∧ b ≤ 20000 from (by omega))) mf_X7_across kw_631 hG hP hP (ci := 7) (q0 := (9 + 5 * i_2)) rfl (cw_ring (by omega)) rfl rfl hl.1 ⟨⟨Nat.le_of_ble_eq_true rfl, Nat.le_of_ble_eq_true rfl⟩, Nat.le_of_ble_eq_true rfl, Nat.le_refl _, Nat.le_refl _⟩ rfl dX11_width_45 (fun z_45 h_45 => ?_)
        have h_45 : 0 ≤ z_45 ∧ z_45 ≤ 6400000 ∧ (a = 0 → b = 1 → z_45 ≤ 2 * (80 : Int)) := h_45
        exact W.iret SS.1 SS.2.1 hr (fun t0 ht hW => ⟨_, rfl, ⟨z_45, rfl, (trivial)⟩, ht⟩) (fun _ h => nomatch h) dX11_width_48 hlk
      · skip
        refine j_bipush SS dX11_width_33 (by decide +kernel) ?_
        refine lv_goto (tgt := 48) SS.1 SS.2.1 dX11_width_35 (by decide) ?_
        exact W.iret SS.1 SS.2.1 hr (fun t0 ht hW => ⟨_, rfl, ⟨(-2), rfl, (trivial)⟩, ht⟩) (fun _ h => nomatch h) dX11_width_48 hlk
    · skip
      refine j_iconst SS dX11_width_20 ?_
      exact W.iret SS.1 SS.2.1 hr (fun t0 ht hW => ⟨_, rfl, ⟨(-1), rfl, (trivial)⟩, ht⟩) (fun _ h => nomatch h) dX11_width_21 hlk
  · skip
    refine lv_astoreN (lv' := [(4, .null), (0, .ref (q 0)), (1, .int (J s)), (2, .int (J a)), (3, .int (J b))]) SS.1 SS.2.1 dX11_width_5 hl (by decide) rfl (fun ls hl => ?_)
    refine lv_aloadN SS.1 SS.2.1 dX11_width_7 (lv_at hl 0 rfl) ?_
    refine lv_ifnullN SS.1 SS.2.1 (tgt := 20) dX11_width_9 (by decide) ?_
    refine j_iconst SS dX11_width_20 ?_
    exact W.iret SS.1 SS.2.1 hr (fun t0 ht hW => ⟨_, rfl, ⟨(-1), rfl, (trivial)⟩, ht⟩) (fun _ h => nomatch h) dX11_width_21 hlk

set_option maxHeartbeats 4000000 in
set_option maxRecDepth 100000 in
theorem c_X11_normal (l : Launch) (D : JD) (q : Nat → Nat) (u : CS) (s : Int) (i : Int) (what : Int) (p0 : CI u) (p1 : -2147483648 ≤ s ∧ s ≤ 2147483647) (p2 : -2147483648 ≤ i ∧ i ≤ 2147483647) (p3 : -2147483648 ≤ what ∧ what ≤ 2147483647) : Met l yX11_normal (jw yX11_normal cX11_normal 5 (some .int)) (jr 5 111) (jP [.ref (q 0), .int (J s), .int (J i), .int (J what)] D (fun H => va_P D.1 j_cl (cW D q u) H)) (jRi (fun z => True)) 0 0 (fun _ => False) := by
  refine Met.ofW (cc := cX11_normal) (maxL := 5) (ret := (some .int)) (by decide) rfl ?_
  intro pr en st mi args below meth co s₁ B hml hv
  obtain ⟨rfl, hG, hP⟩ := hv
  have hr := B.returns
  have hlk := B.notSynchronized
  have SS : jS pr mi co cX11_normal 5 st _ RX11 := ⟨B.exec, B.bytes, hml, findClass_of_methodNamed B.named, fun w hw => atoms_spec (ws := (jw yX11_normal cX11_normal 5 (some .int))) B.pre w (List.mem_cons_of_mem _ hw)⟩
  have hl := lv_entry ([.ref (q 0), .int (J s), .int (J i), .int (J what)]) (n := 5) (Nat.le_of_ble_eq_true rfl)
  rw [lg_entry_eq]
  generalize (lg_sl ([.ref (q 0), .int (J s), .int (J i), .int (J what)]) ++ List.replicate (5 - (lg_sl ([.ref (q 0), .int (J s), .int (J i), .int (J what)])).length) Slot.unset).toArray = ls at hl ⊢
  have hl : lv_has ls 5 [(0, .ref (q 0)), (1, .int (J s)), (2, .int (J i)), (3, .int (J what))] := hl
  refine lv_aload_n SS.1 SS.2.1 dX11_normal_0 rfl (lv_at hl 0 rfl) ?_
  refine lv_iload_n SS.1 SS.2.1 dX11_normal_1 rfl (lv_at hl 1 rfl) ?_
  refine j_vSh SS (As := [.int (J s)]) (rest := []) (c_X11_shapeAt l D q u  s (show -2147483648 ≤ s ∧ s ≤ 2147483647 from (p1))) mf_X11_shapeAt kw_414 hG hP hP (ci := 11) (q0 := 0) rfl rfl rfl rfl hl.1 ⟨⟨Nat.le_of_ble_eq_true rfl, Nat.le_of_ble_eq_true rfl⟩, Nat.le_of_ble_eq_true rfl, Nat.le_refl _, Nat.le_refl _⟩ rfl dX11_normal_2 (fun i_2 hi_2 hz_2 => ?_) (fun hn_2 => ?_)
  · skip
    have hI2 := CI_s p0 (show i_2 < 8 by omega)
    have hI2c := hI2.1
    have hrl2 := rl_s (show i_2 < 8 by omega)
    refine lv_astore (lv' := [(4, .ref (q (8 + 5 * i_2))), (0, .ref (q 0)), (1, .int (J s)), (2, .int (J i)), (3, .int (J what))]) SS.1 SS.2.1 dX11_normal_5 hl (by decide) rfl (fun ls hl => ?_)
    refine lv_aload SS.1 SS.2.1 dX11_normal_7 (lv_at hl 0 rfl) ?_
    refine lv_ifnull SS.1 SS.2.1 dX11_normal_9 ?_
    refine lv_iload_n SS.1 SS.2.1 dX11_normal_12 rfl (lv_at hl 4 rfl) ?_
    refine j_if_lt SS (tgt := 48) (x := what) dX11_normal_13 (by decide) (by omega) (fun c_13 => ?_) (fun c_13 => ?_)
    · skip
      refine j_ldc SS (-1000000) kw_512 dX11_normal_48 ?_
      exact W.iret SS.1 SS.2.1 hr (fun t0 ht hW => ⟨_, rfl, ⟨(-1000000), rfl, (trivial)⟩, ht⟩) (fun _ h => nomatch h) dX11_normal_50 hlk
    · skip
      refine lv_iload_n SS.1 SS.2.1 dX11_normal_16 rfl (lv_at hl 4 rfl) ?_
      refine j_iconst SS dX11_normal_17 ?_
      refine j_icmp_gt SS (tgt := 48) (x := what) (y := 2) dX11_normal_18 (by decide) (by omega) (by decide) (fun c_18 => ?_) (fun c_18 => ?_)
      · skip
        refine j_ldc SS (-1000000) kw_512 dX11_normal_48 ?_
        exact W.iret SS.1 SS.2.1 hr (fun t0 ht hW => ⟨_, rfl, ⟨(-1000000), rfl, (trivial)⟩, ht⟩) (fun _ h => nomatch h) dX11_normal_50 hlk
      · skip
        refine lv_iload_n SS.1 SS.2.1 dX11_normal_21 rfl (lv_at hl 3 rfl) ?_
        refine j_if_lt SS (tgt := 48) (x := i) dX11_normal_22 (by decide) (by omega) (fun c_22 => ?_) (fun c_22 => ?_)
        · skip
          refine j_ldc SS (-1000000) kw_512 dX11_normal_48 ?_
          exact W.iret SS.1 SS.2.1 hr (fun t0 ht hW => ⟨_, rfl, ⟨(-1000000), rfl, (trivial)⟩, ht⟩) (fun _ h => nomatch h) dX11_normal_50 hlk
        · skip
          refine lv_iload_n SS.1 SS.2.1 dX11_normal_25 rfl (lv_at hl 3 rfl) ?_
          refine lv_aload SS.1 SS.2.1 dX11_normal_26 (lv_at hl 0 rfl) ?_
          refine j_get SS hG hP (8 + 5 * i_2) (v := .ref (q (9 + 5 * i_2))) (C := RX10) (T := TX10) (N := 3) (cw_shape (by omega)) rfl inX10 0 (by decide) (ref := "GridPolygons$Shape") kw_151 rfl rfl dX11_normal_28 ?_
          refine j_getS SS hG hP (9 + 5 * i_2) (v := .int (J (u.1.2.2.1 i_2))) (C := RX7) (T := TX7) (N := 3) (cw_ring (by omega)) rfl inX7 2 (by decide) (ref := "GridPolygons$Ring") kw_135 kw_132 rfl dX11_normal_31 ?_
          refine j_icmp_ge SS (tgt := 48) (x := i) (y := (u.1.2.2.1 i_2)) dX11_normal_34 (by decide) (by omega) (by omega) (fun c_34 => ?_) (fun c_34 => ?_)
          · skip
            refine j_ldc SS (-1000000) kw_512 dX11_normal_48 ?_
            exact W.iret SS.1 SS.2.1 hr (fun t0 ht hW => ⟨_, rfl, ⟨(-1000000), rfl, (trivial)⟩, ht⟩) (fun _ h => nomatch h) dX11_normal_50 hlk
          · skip
            refine lv_aload SS.1 SS.2.1 dX11_normal_37 (lv_at hl 0 rfl) ?_
            refine j_get SS hG hP (8 + 5 * i_2) (v := .ref (q (9 + 5 * i_2))) (C := RX10) (T := TX10) (N := 3) (cw_shape (by omega)) rfl inX10 0 (by decide) (ref := "GridPolygons$Shape") kw_151 rfl rfl dX11_normal_39 ?_
            refine j_vRi SS (As := []) (rest := []) (c_X7_isRound l D q u i_2 (by omega) (80 : Int)  (show 0 ≤ (80 : Int) ∧ (80 : Int) ≤ 80 from (by omega)) (show RB (80 : Int) u i_2 from (show RB 80 u i_2 from CI_s p0 (by omega)))) mf_X7_isRound kw_794 hG hP hP (ci := 7) (q0 := (9 + 5 * i_2)) rfl (cw_ring (by omega)) rfl rfl hl.1 ⟨⟨Nat.le_of_ble_eq_true rfl, Nat.le_of_ble_eq_true rfl⟩, Nat.le_of_ble_eq_true rfl, Nat.le_refl _, Nat.le_refl _⟩ rfl dX11_normal_42 (fun z_42 h_42 => ?_)
            have h_42 : (z_42 = 1 ∧ 3 ≤ (u.1.2.2.1 i_2)) ∨ z_42 = 0 := h_42
            refine j_if_ne SS (tgt := 51) (x := z_42) dX11_normal_45 (by decide) (by omega) (fun c_45 => ?_) (fun c_45 => ?_)
            · skip
              refine lv_iload_n SS.1 SS.2.1 dX11_normal_51 rfl (lv_at hl 4 rfl) ?_
              refine j_if_ne SS (tgt := 65) (x := what) dX11_normal_52 (by decide) (by omega) (fun c_52 => ?_) (fun c_52 => ?_)
              · skip
                refine lv_iload_n SS.1 SS.2.1 dX11_normal_65 rfl (lv_at hl 4 rfl) ?_
                refine j_iconst SS dX11_normal_66 ?_
                refine j_icmp_ne SS (tgt := 82) (x := what) (y := 1) dX11_normal_67 (by decide) (by omega) (by decide) (fun c_67 => ?_) (fun c_67 => ?_)
                · skip
                  refine lv_aload SS.1 SS.2.1 dX11_normal_82 (lv_at hl 0 rfl) ?_
                  refine j_get SS hG hP (8 + 5 * i_2) (v := .ref (q (9 + 5 * i_2))) (C := RX10) (T := TX10) (N := 3) (cw_shape (by omega)) rfl inX10 0 (by decide) (ref := "GridPolygons$Shape") kw_151 rfl rfl dX11_normal_84 ?_
                  refine lv_iload_n SS.1 SS.2.1 dX11_normal_87 rfl (lv_at hl 3 rfl) ?_
                  refine j_vRi SS (As := [.int (J i)]) (rest := []) (c_X7_far l D q u i_2 (by omega) (80 : Int) i (show 0 ≤ (80 : Int) ∧ (80 : Int) ≤ 80 from (by omega)) (show RB (80 : Int) u i_2 from (show RB 80 u i_2 from CI_s p0 (by omega))) (show -1000 ≤ i ∧ i ≤ 1000 from (by omega))) mf_X7_far kw_808 hG hP hP (ci := 7) (q0 := (9 + 5 * i_2)) rfl (cw_ring (by omega)) rfl rfl hl.1 ⟨⟨Nat.le_of_ble_eq_true rfl, Nat.le_of_ble_eq_true rfl⟩, Nat.le_of_ble_eq_true rfl, Nat.le_refl _, Nat.le_refl _⟩ rfl dX11_normal_88 (fun z_88 h_88 => ?_)
                  have h_88 : -30000 ≤ z_88 ∧ z_88 ≤ 30000 := h_88
                  exact W.iret SS.1 SS.2.1 hr (fun t0 ht hW => ⟨_, rfl, ⟨z_88, rfl, (trivial)⟩, ht⟩) (fun _ h => nomatch h) dX11_normal_91 hlk
                · skip
                  refine lv_aload SS.1 SS.2.1 dX11_normal_70 (lv_at hl 0 rfl) ?_
                  refine j_get SS hG hP (8 + 5 * i_2) (v := .ref (q (9 + 5 * i_2))) (C := RX10) (T := TX10) (N := 3) (cw_shape (by omega)) rfl inX10 0 (by decide) (ref := "GridPolygons$Shape") kw_151 rfl rfl dX11_normal_72 ?_
                  refine lv_iload_n SS.1 SS.2.1 dX11_normal_75 rfl (lv_at hl 3 rfl) ?_
                  refine j_vRi SS (As := [.int (J i)]) (rest := []) (c_X7_normalB l D q u i_2 (by omega) (80 : Int) i (show 0 ≤ (80 : Int) ∧ (80 : Int) ≤ 80 from (by omega)) (show RB (80 : Int) u i_2 from (show RB 80 u i_2 from CI_s p0 (by omega))) (show -1000 ≤ i ∧ i ≤ 1000 from (by omega))) mf_X7_normalB kw_804 hG hP hP (ci := 7) (q0 := (9 + 5 * i_2)) rfl (cw_ring (by omega)) rfl rfl hl.1 ⟨⟨Nat.le_of_ble_eq_true rfl, Nat.le_of_ble_eq_true rfl⟩, Nat.le_of_ble_eq_true rfl, Nat.le_refl _, Nat.le_refl _⟩ rfl dX11_normal_76 (fun z_76 h_76 => ?_)
                  have h_76 : -160 ≤ z_76 ∧ z_76 ≤ 160 := h_76
                  refine lv_goto (tgt := 91) SS.1 SS.2.1 dX11_normal_79 (by decide) ?_
                  exact W.iret SS.1 SS.2.1 hr (fun t0 ht hW => ⟨_, rfl, ⟨z_76, rfl, (trivial)⟩, ht⟩) (fun _ h => nomatch h) dX11_normal_91 hlk
              · skip
                refine lv_aload SS.1 SS.2.1 dX11_normal_55 (lv_at hl 0 rfl) ?_
                refine j_get SS hG hP (8 + 5 * i_2) (v := .ref (q (9 + 5 * i_2))) (C := RX10) (T := TX10) (N := 3) (cw_shape (by omega)) rfl inX10 0 (by decide) (ref := "GridPolygons$Shape") kw_151 rfl rfl dX11_normal_57 ?_
                refine lv_iload_n SS.1 SS.2.1 dX11_normal_60 rfl (lv_at hl 3 rfl) ?_
                refine j_vRi SS (As := [.int (J i)]) (rest := []) (c_X7_normalA l D q u i_2 (by omega) (80 : Int) i (show 0 ≤ (80 : Int) ∧ (80 : Int) ≤ 80 from (by omega)) (show RB (80 : Int) u i_2 from (show RB 80 u i_2 from CI_s p0 (by omega))) (show -1000 ≤ i ∧ i ≤ 1000 from (by omega))) mf_X7_normalA kw_800 hG hP hP (ci := 7) (q0 := (9 + 5 * i_2)) rfl (cw_ring (by omega)) rfl rfl hl.1 ⟨⟨Nat.le_of_ble_eq_true rfl, Nat.le_of_ble_eq_true rfl⟩, Nat.le_of_ble_eq_true rfl, Nat.le_refl _, Nat.le_refl _⟩ rfl dX11_normal_61 (fun z_61 h_61 => ?_)
                have h_61 : -160 ≤ z_61 ∧ z_61 ≤ 160 := h_61
                exact W.iret SS.1 SS.2.1 hr (fun t0 ht hW => ⟨_, rfl, ⟨z_61, rfl, (trivial)⟩, ht⟩) (fun _ h => nomatch h) dX11_normal_64 hlk
            · skip
              refine j_ldc SS (-1000000) kw_512 dX11_normal_48 ?_
              exact W.iret SS.1 SS.2.1 hr (fun t0 ht hW => ⟨_, rfl, ⟨(-1000000), rfl, (trivial)⟩, ht⟩) (fun _ h => nomatch h) dX11_normal_50 hlk
  · skip
    refine lv_astoreN (lv' := [(4, .null), (0, .ref (q 0)), (1, .int (J s)), (2, .int (J i)), (3, .int (J what))]) SS.1 SS.2.1 dX11_normal_5 hl (by decide) rfl (fun ls hl => ?_)
    refine lv_aloadN SS.1 SS.2.1 dX11_normal_7 (lv_at hl 0 rfl) ?_
    refine lv_ifnullN SS.1 SS.2.1 (tgt := 48) dX11_normal_9 (by decide) ?_
    refine j_ldc SS (-1000000) kw_512 dX11_normal_48 ?_
    exact W.iret SS.1 SS.2.1 hr (fun t0 ht hW => ⟨_, rfl, ⟨(-1000000), rfl, (trivial)⟩, ht⟩) (fun _ h => nomatch h) dX11_normal_50 hlk

set_option maxHeartbeats 4000000 in
set_option maxRecDepth 100000 in
theorem c_X11_reflexive (l : Launch) (D : JD) (q : Nat → Nat) (u : CS) (s : Int) (p0 : CI u) (p1 : -2147483648 ≤ s ∧ s ≤ 2147483647) : Met l yX11_reflexive (jw yX11_reflexive cX11_reflexive 3 (some .int)) (jr 6 132) (jP [.ref (q 0), .int (J s)] D (fun H => va_P D.1 j_cl (cW D q u) H)) (jRi (fun z => True)) 0 0 (fun _ => False) := by
  refine Met.ofW (cc := cX11_reflexive) (maxL := 3) (ret := (some .int)) (by decide) rfl ?_
  intro pr en st mi args below meth co s₁ B hml hv
  obtain ⟨rfl, hG, hP⟩ := hv
  have hr := B.returns
  have hlk := B.notSynchronized
  have SS : jS pr mi co cX11_reflexive 3 st _ RX11 := ⟨B.exec, B.bytes, hml, findClass_of_methodNamed B.named, fun w hw => atoms_spec (ws := (jw yX11_reflexive cX11_reflexive 3 (some .int))) B.pre w (List.mem_cons_of_mem _ hw)⟩
  have hl := lv_entry ([.ref (q 0), .int (J s)]) (n := 3) (Nat.le_of_ble_eq_true rfl)
  rw [lg_entry_eq]
  generalize (lg_sl ([.ref (q 0), .int (J s)]) ++ List.replicate (3 - (lg_sl ([.ref (q 0), .int (J s)])).length) Slot.unset).toArray = ls at hl ⊢
  have hl : lv_has ls 3 [(0, .ref (q 0)), (1, .int (J s))] := hl
  refine lv_aload_n SS.1 SS.2.1 dX11_reflexive_0 rfl (lv_at hl 0 rfl) ?_
  refine lv_iload_n SS.1 SS.2.1 dX11_reflexive_1 rfl (lv_at hl 1 rfl) ?_
  refine j_vSh SS (As := [.int (J s)]) (rest := []) (c_X11_shapeAt l D q u  s (show -2147483648 ≤ s ∧ s ≤ 2147483647 from (p1))) mf_X11_shapeAt kw_414 hG hP hP (ci := 11) (q0 := 0) rfl rfl rfl rfl hl.1 ⟨⟨Nat.le_of_ble_eq_true rfl, Nat.le_of_ble_eq_true rfl⟩, Nat.le_of_ble_eq_true rfl, Nat.le_refl _, Nat.le_refl _⟩ rfl dX11_reflexive_2 (fun i_2 hi_2 hz_2 => ?_) (fun hn_2 => ?_)
  · skip
    have hI2 := CI_s p0 (show i_2 < 8 by omega)
    have hI2c := hI2.1
    have hrl2 := rl_s (show i_2 < 8 by omega)
    refine lv_astore_n (lv' := [(2, .ref (q (8 + 5 * i_2))), (0, .ref (q 0)), (1, .int (J s))]) SS.1 SS.2.1 dX11_reflexive_5 rfl hl (by decide) rfl (fun ls hl => ?_)
    refine lv_aload_n SS.1 SS.2.1 dX11_reflexive_6 rfl (lv_at hl 0 rfl) ?_
    refine lv_ifnonnull SS.1 SS.2.1 (tgt := 12) dX11_reflexive_7 (by decide) ?_
    refine lv_aload_n SS.1 SS.2.1 dX11_reflexive_12 rfl (lv_at hl 0 rfl) ?_
    refine j_get SS hG hP (8 + 5 * i_2) (v := .ref (q (9 + 5 * i_2))) (C := RX10) (T := TX10) (N := 3) (cw_shape (by omega)) rfl inX10 0 (by decide) (ref := "GridPolygons$Shape") kw_151 rfl rfl dX11_reflexive_13 ?_
    refine j_vRi SS (As := []) (rest := []) (c_X7_isReflexive l D q u i_2 (by omega) (80 : Int)  (show 0 ≤ (80 : Int) ∧ (80 : Int) ≤ 80 from (by omega)) (show RB (80 : Int) u i_2 from (show RB 80 u i_2 from CI_s p0 (by omega)))) mf_X7_isReflexive kw_818 hG hP hP (ci := 7) (q0 := (9 + 5 * i_2)) rfl (cw_ring (by omega)) rfl rfl hl.1 ⟨⟨Nat.le_of_ble_eq_true rfl, Nat.le_of_ble_eq_true rfl⟩, Nat.le_of_ble_eq_true rfl, Nat.le_refl _, Nat.le_refl _⟩ rfl dX11_reflexive_16 (fun z_16 h_16 => ?_)
    have h_16 : (z_16 = 1 ∧ 3 ≤ (u.1.2.2.1 i_2)) ∨ z_16 = 0 := h_16
    refine j_if_eq SS (tgt := 26) (x := z_16) dX11_reflexive_19 (by decide) (by omega) (fun c_19 => ?_) (fun c_19 => ?_)
    · skip
      refine j_iconst SS dX11_reflexive_26 ?_
      exact W.iret SS.1 SS.2.1 hr (fun t0 ht hW => ⟨_, rfl, ⟨0, rfl, (trivial)⟩, ht⟩) (fun _ h => nomatch h) dX11_reflexive_27 hlk
    · skip
      refine j_iconst SS dX11_reflexive_22 ?_
      refine lv_goto (tgt := 27) SS.1 SS.2.1 dX11_reflexive_23 (by decide) ?_
      exact W.iret SS.1 SS.2.1 hr (fun t0 ht hW => ⟨_, rfl, ⟨1, rfl, (trivial)⟩, ht⟩) (fun _ h => nomatch h) dX11_reflexive_27 hlk
  · skip
    refine lv_astore_nN (lv' := [(2, .null), (0, .ref (q 0)), (1, .int (J s))]) SS.1 SS.2.1 dX11_reflexive_5 rfl hl (by decide) rfl (fun ls hl => ?_)
    refine lv_aload_nN SS.1 SS.2.1 dX11_reflexive_6 rfl (lv_at hl 0 rfl) ?_
    refine lv_ifnonnullN SS.1 SS.2.1 dX11_reflexive_7 ?_
    refine j_iconst SS dX11_reflexive_10 ?_
    exact W.iret SS.1 SS.2.1 hr (fun t0 ht hW => ⟨_, rfl, ⟨(-1), rfl, (trivial)⟩, ht⟩) (fun _ h => nomatch h) dX11_reflexive_11 hlk

theorem emp {f g : Nat → Int} : ∀ k : Nat, k < 161 → jf g (-81) 161 k < jf f 81 161 k := fun k hk => by unfold jf; rw [if_pos hk, if_pos hk]; decide

set_option maxHeartbeats 4000000 in
set_option maxRecDepth 100000 in
theorem c_X11_clear (l : Launch) (D : JD) (q : Nat → Nat) (u : CS) (A : Nat → Prop) (hD : va_D A (cW D q u)) (s : Int) (p0 : CI u) (p1 : -2147483648 ≤ s ∧ s ≤ 2147483647) : Met l yX11_clear (jw yX11_clear cX11_clear 4 (some .int)) (jr 4 91) (jP [.ref (q 0), .int (J s)] D (fun H => va_P D.1 j_cl (cW D q u) H)) (jWi (fun z u' => CI u') (fun u' H => va_P D.1 j_cl (cW D q u') H) A) 0 0 A := by
  refine Met.ofW (cc := cX11_clear) (maxL := 4) (ret := (some .int)) (by decide) rfl ?_
  intro pr en st mi args below meth co s₁ B hml hv
  obtain ⟨rfl, hG, hP⟩ := hv
  have hr := B.returns
  have hlk := B.notSynchronized
  have SS : jS pr mi co cX11_clear 4 st _ RX11 := ⟨B.exec, B.bytes, hml, findClass_of_methodNamed B.named, fun w hw => atoms_spec (ws := (jw yX11_clear cX11_clear 4 (some .int))) B.pre w (List.mem_cons_of_mem _ hw)⟩
  have hl := lv_entry ([.ref (q 0), .int (J s)]) (n := 4) (Nat.le_of_ble_eq_true rfl)
  rw [lg_entry_eq]
  generalize (lg_sl ([.ref (q 0), .int (J s)]) ++ List.replicate (4 - (lg_sl ([.ref (q 0), .int (J s)])).length) Slot.unset).toArray = ls at hl ⊢
  have hl : lv_has ls 4 [(0, .ref (q 0)), (1, .int (J s))] := hl
  have hS : va_S A st.heap st.heap [] := va_S.rf
  refine lv_aload_n SS.1 SS.2.1 dX11_clear_0 rfl (lv_at hl 0 rfl) ?_
  refine lv_iload_n SS.1 SS.2.1 dX11_clear_1 rfl (lv_at hl 1 rfl) ?_
  refine j_vSh SS (As := [.int (J s)]) (rest := []) (c_X11_shapeAt l D q u  s (show -2147483648 ≤ s ∧ s ≤ 2147483647 from (p1))) mf_X11_shapeAt kw_414 hG hP hP (ci := 11) (q0 := 0) rfl rfl rfl rfl hl.1 ⟨⟨Nat.le_of_ble_eq_true rfl, Nat.le_of_ble_eq_true rfl⟩, Nat.le_of_ble_eq_true rfl, Nat.le_refl _, Nat.le_refl _⟩ rfl dX11_clear_2 (fun i_2 hi_2 hz_2 => ?_) (fun hn_2 => ?_)
  · skip
    have hI2 := CI_s p0 (show i_2 < 8 by omega)
    have hI2c := hI2.1
    have hrl2 := rl_s (show i_2 < 8 by omega)
    refine lv_astore_n (lv' := [(2, .ref (q (8 + 5 * i_2))), (0, .ref (q 0)), (1, .int (J s))]) SS.1 SS.2.1 dX11_clear_5 rfl hl (by decide) rfl (fun ls hl => ?_)
    refine lv_aload_n SS.1 SS.2.1 dX11_clear_6 rfl (lv_at hl 0 rfl) ?_
    refine lv_ifnonnull SS.1 SS.2.1 (tgt := 12) dX11_clear_7 (by decide) ?_
    refine lv_aload_n SS.1 SS.2.1 dX11_clear_12 rfl (lv_at hl 0 rfl) ?_
    refine j_get SS hG hP (8 + 5 * i_2) (v := .ref (q (9 + 5 * i_2))) (C := RX10) (T := TX10) (N := 3) (cw_shape (by omega)) rfl inX10 0 (by decide) (ref := "GridPolygons$Shape") kw_151 rfl rfl dX11_clear_13 ?_
    refine j_getS SS hG hP (9 + 5 * i_2) (v := .int (J (u.1.2.2.1 i_2))) (C := RX7) (T := TX7) (N := 3) (cw_ring (by omega)) rfl inX7 2 (by decide) (ref := "GridPolygons$Ring") kw_135 kw_132 rfl dX11_clear_16 ?_
    refine lv_istore_n (lv' := [(3, .int (J (u.1.2.2.1 i_2))), (2, .ref (q (8 + 5 * i_2))), (0, .ref (q 0)), (1, .int (J s))]) SS.1 SS.2.1 dX11_clear_19 rfl hl (by decide) rfl (fun ls hl => ?_)
    refine lv_aload_n SS.1 SS.2.1 dX11_clear_20 rfl (lv_at hl 2 rfl) ?_
    refine j_get SS hG hP 0 (v := .ref (q 2)) (C := RX11) (T := TX11) (N := 8) rfl rfl inX11 1 (by decide) (ref := "GridPolygons") kw_386 rfl rfl dX11_clear_21 ?_
    refine j_vWv SS (As := []) (rest := []) (c_X3_begin l D q u A (cW_D hD)   (show HU_ ((u.2.1 0)) ((u.2.1 1)) from (p0.2.2.1))) mf_X3_begin kw_418 hG hP hP (ci := 3) (q0 := 2) rfl rfl rfl hS (fun _ h => h) rfl hl.1 ⟨⟨Nat.le_of_ble_eq_true rfl, Nat.le_of_ble_eq_true rfl⟩, Nat.le_of_ble_eq_true rfl, Nat.le_refl _, Nat.le_refl _⟩ rfl dX11_clear_24 (fun u24 H locs h_24 hP _ hS => ?_)
    obtain ⟨f_24, g_24, rfl, h_24⟩ := h_24
    have hP : va_P D.1 j_cl (cW D q (sI (sI u 0 f_24) 1 g_24)) H := hP
    have h_24 : f_24 = jf ((u.2.1 0)) 81 161 ∧ g_24 = jf ((u.2.1 1)) (-81) 161 ∧ HU_ f_24 g_24 := h_24
    refine lv_aload_n SS.1 SS.2.1 dX11_clear_27 rfl (lv_at hl 2 rfl) ?_
    refine j_get SS hG hP 0 (v := .ref (q 2)) (C := RX11) (T := TX11) (N := 8) rfl rfl inX11 1 (by decide) (ref := "GridPolygons") kw_386 rfl rfl dX11_clear_28 ?_
    refine j_vWv SS (As := []) (rest := []) (c_X3_close l D q (sI (sI u 0 f_24) 1 g_24) A (cW_D hD)   (show RB 80 (sI (sI u 0 f_24) 1 g_24) 8 from (p0.2.1.1)) (show HU_ (f_24) (g_24) from (h_24.2.2))) mf_X3_close kw_425 hG hP hP (ci := 3) (q0 := 2) rfl rfl rfl hS (fun _ h => h) rfl hl.1 ⟨⟨Nat.le_of_ble_eq_true rfl, Nat.le_of_ble_eq_true rfl⟩, Nat.le_of_ble_eq_true rfl, Nat.le_refl _, Nat.le_refl _⟩ rfl dX11_clear_31 (fun u31 H locs h_31 hP _ hS => ?_)
    obtain ⟨f_31, g_31, n_31, rfl, h_31⟩ := h_31
    have hP : va_P D.1 j_cl (cW D q (sY (sX (sI (sI (sC u 8 n_31) 0 f_24) 1 g_24) 8 f_31) 8 g_31)) H := hP
    have h_31 : (0 ≤ n_31 ∧ n_31 ≤ 323) ∧ RV 80 f_31 g_31 ∧ ((∀ k : Nat, k < 161 → g_24 k < f_24 k) → n_31 = 0) := h_31
    have hE : n_31 = 0 := h_31.2.2 (by rw [h_24.1, h_24.2.1]; exact emp)
    refine lv_aload_n SS.1 SS.2.1 dX11_clear_34 rfl (lv_at hl 2 rfl) ?_
    refine lv_aload_n SS.1 SS.2.1 dX11_clear_35 rfl (lv_at hl 1 rfl) ?_
    refine j_vWv SS (As := [.ref (q (8 + 5 * i_2))]) (rest := []) (c_X11_remake l D q (sY (sX (sI (sI (sC u 8 n_31) 0 f_24) 1 g_24) 8 f_31) 8 g_31) A (cW_D hD) i_2 (by omega)  (show CI (sY (sX (sI (sI (sC u 8 n_31) 0 f_24) 1 g_24) 8 f_31) 8 g_31) from (CI_8 (CI_h p0 h_24.2.2) h_31.1 h_31.2.1)) (show n_31 ≤ 24 from (by omega)) (show bd 40 (f_31) (g_31) (n_31) from (fun a ha => by omega))) mf_X11_remake kw_459 hG hP hP (ci := 11) (q0 := 0) rfl rfl rfl hS (fun _ h => h) rfl hl.1 ⟨⟨Nat.le_of_ble_eq_true rfl, Nat.le_of_ble_eq_true rfl⟩, Nat.le_of_ble_eq_true rfl, Nat.le_refl _, Nat.le_refl _⟩ rfl dX11_clear_36 (fun u36 H locs h_36 hP _ hS => ?_)
    obtain ⟨n_36, f_36, g_36, hh_36, tt_36, st0_36, rfl, h_36⟩ := h_36
    have hP : va_P D.1 j_cl (cW D q (sY (sY (sX (sX (sV (sT (sI (sI (sH (sC (sC u 8 n_31) i_2 n_36) i_2 hh_36) 0 f_24) 1 g_24) i_2 tt_36) 0 st0_36) 8 f_31) i_2 f_36) 8 g_31) i_2 g_36)) H := hP
    have h_36 : CI (sY (sY (sX (sX (sV (sT (sI (sI (sH (sC (sC u 8 n_31) i_2 n_36) i_2 hh_36) 0 f_24) 1 g_24) i_2 tt_36) 0 st0_36) 8 f_31) i_2 f_36) 8 g_31) i_2 g_36) ∧ n_36 = n_31 ∧ ∀ j : Nat, (j : Int) < n_36 → f_36 j = f_31 j ∧ g_36 j = g_31 j := h_36
    refine lv_iload_n SS.1 SS.2.1 dX11_clear_39 rfl (lv_at hl 0 rfl) ?_
    exact W.iret SS.1 SS.2.1 hr (fun t0 ht hW => ⟨⟨_, (sY (sY (sX (sX (sV (sT (sI (sI (sH (sC (sC u 8 n_31) i_2 n_36) i_2 hh_36) 0 f_24) 1 g_24) i_2 tt_36) 0 st0_36) 8 f_31) i_2 f_36) 8 g_31) i_2 g_36), rfl, ⟨(u.1.2.2.1 i_2), rfl, (h_36.1)⟩, by show va_P D.1 j_cl (cW D q (sY (sY (sX (sX (sV (sT (sI (sI (sH (sC (sC u 8 n_31) i_2 n_36) i_2 hh_36) 0 f_24) 1 g_24) i_2 tt_36) 0 st0_36) 8 f_31) i_2 f_36) 8 g_31) i_2 g_36)) t0.heap; rw [ht]; first | exact hP | (simp only [sC_id, sX_id, sY_id, sH_id, sT_id, sV_id]; exact hP)⟩, hS.F ht⟩) hS.2.2 dX11_clear_40 hlk
  · skip
    refine lv_astore_nN (lv' := [(2, .null), (0, .ref (q 0)), (1, .int (J s))]) SS.1 SS.2.1 dX11_clear_5 rfl hl (by decide) rfl (fun ls hl => ?_)
    refine lv_aload_nN SS.1 SS.2.1 dX11_clear_6 rfl (lv_at hl 0 rfl) ?_
    refine lv_ifnonnullN SS.1 SS.2.1 dX11_clear_7 ?_
    refine j_iconst SS dX11_clear_10 ?_
    exact W.iret SS.1 SS.2.1 hr (fun t0 ht hW => ⟨⟨_, u, rfl, ⟨(-1), rfl, (p0)⟩, by show va_P D.1 j_cl (cW D q u) t0.heap; rw [ht]; first | exact hP | (simp only [sC_id, sX_id, sY_id, sH_id, sT_id, sV_id]; exact hP)⟩, hS.F ht⟩) hS.2.2 dX11_clear_11 hlk

set_option maxHeartbeats 4000000 in
set_option maxRecDepth 100000 in
theorem c_X11_add (l : Launch) (D : JD) (q : Nat → Nat) (u : CS) (A : Nat → Prop) (hD : va_D A (cW D q u)) (s : Int) (x : Int) (y : Int) (p0 : CI u) (p1 : -2147483648 ≤ s ∧ s ≤ 2147483647) (p2 : -2147483648 ≤ x ∧ x ≤ 2147483647) (p3 : -2147483648 ≤ y ∧ y ≤ 2147483647) : Met l yX11_add (jw yX11_add cX11_add 5 (some .int)) (jr 4 91) (jP [.ref (q 0), .int (J s), .int (J x), .int (J y)] D (fun H => va_P D.1 j_cl (cW D q u) H)) (jWi (fun z u' => CI u') (fun u' H => va_P D.1 j_cl (cW D q u') H) A) 0 0 A := by
  refine Met.ofW (cc := cX11_add) (maxL := 5) (ret := (some .int)) (by decide) rfl ?_
  intro pr en st mi args below meth co s₁ B hml hv
  obtain ⟨rfl, hG, hP⟩ := hv
  have hr := B.returns
  have hlk := B.notSynchronized
  have SS : jS pr mi co cX11_add 5 st _ RX11 := ⟨B.exec, B.bytes, hml, findClass_of_methodNamed B.named, fun w hw => atoms_spec (ws := (jw yX11_add cX11_add 5 (some .int))) B.pre w (List.mem_cons_of_mem _ hw)⟩
  have hl := lv_entry ([.ref (q 0), .int (J s), .int (J x), .int (J y)]) (n := 5) (Nat.le_of_ble_eq_true rfl)
  rw [lg_entry_eq]
  generalize (lg_sl ([.ref (q 0), .int (J s), .int (J x), .int (J y)]) ++ List.replicate (5 - (lg_sl ([.ref (q 0), .int (J s), .int (J x), .int (J y)])).length) Slot.unset).toArray = ls at hl ⊢
  have hl : lv_has ls 5 [(0, .ref (q 0)), (1, .int (J s)), (2, .int (J x)), (3, .int (J y))] := hl
  have hS : va_S A st.heap st.heap [] := va_S.rf
  refine lv_aload_n SS.1 SS.2.1 dX11_add_0 rfl (lv_at hl 0 rfl) ?_
  refine lv_iload_n SS.1 SS.2.1 dX11_add_1 rfl (lv_at hl 1 rfl) ?_
  refine j_vSh SS (As := [.int (J s)]) (rest := []) (c_X11_shapeAt l D q u  s (show -2147483648 ≤ s ∧ s ≤ 2147483647 from (p1))) mf_X11_shapeAt kw_414 hG hP hP (ci := 11) (q0 := 0) rfl rfl rfl rfl hl.1 ⟨⟨Nat.le_of_ble_eq_true rfl, Nat.le_of_ble_eq_true rfl⟩, Nat.le_of_ble_eq_true rfl, Nat.le_refl _, Nat.le_refl _⟩ rfl dX11_add_2 (fun i_2 hi_2 hz_2 => ?_) (fun hn_2 => ?_)
  · skip
    have hI2 := CI_s p0 (show i_2 < 8 by omega)
    have hI2c := hI2.1
    have hrl2 := rl_s (show i_2 < 8 by omega)
    refine lv_astore (lv' := [(4, .ref (q (8 + 5 * i_2))), (0, .ref (q 0)), (1, .int (J s)), (2, .int (J x)), (3, .int (J y))]) SS.1 SS.2.1 dX11_add_5 hl (by decide) rfl (fun ls hl => ?_)
    refine lv_aload SS.1 SS.2.1 dX11_add_7 (lv_at hl 0 rfl) ?_
    refine lv_ifnull SS.1 SS.2.1 dX11_add_9 ?_
    refine lv_iload_n SS.1 SS.2.1 dX11_add_12 rfl (lv_at hl 3 rfl) ?_
    refine j_sRi SS (As := [.int (J x)]) (rest := []) (c_X11_onGrid l D  x (show -2147483648 ≤ x ∧ x ≤ 2147483647 from (p2))) mf_X11_onGrid kw_475 hG trivial rfl hl.1 ⟨⟨Nat.le_of_ble_eq_true rfl, Nat.le_of_ble_eq_true rfl⟩, Nat.le_of_ble_eq_true rfl, Nat.le_refl _, Nat.le_refl _⟩ rfl dX11_add_13 (fun z_13 h_13 => ?_)
    have h_13 : (z_13 = 1 ∧ (-40 ≤ x ∧ x ≤ 40)) ∨ (z_13 = 0 ∧ ¬ (-40 ≤ x ∧ x ≤ 40)) := h_13
    refine j_if_eq SS (tgt := 26) (x := z_13) dX11_add_16 (by decide) (by omega) (fun c_16 => ?_) (fun c_16 => ?_)
    · skip
      refine j_iconst SS dX11_add_26 ?_
      exact W.iret SS.1 SS.2.1 hr (fun t0 ht hW => ⟨⟨_, u, rfl, ⟨(-1), rfl, (p0)⟩, by show va_P D.1 j_cl (cW D q u) t0.heap; rw [ht]; first | exact hP | (simp only [sC_id, sX_id, sY_id, sH_id, sT_id, sV_id]; exact hP)⟩, hS.F ht⟩) hS.2.2 dX11_add_27 hlk
    · skip
      refine lv_iload_n SS.1 SS.2.1 dX11_add_19 rfl (lv_at hl 4 rfl) ?_
      refine j_sRi SS (As := [.int (J y)]) (rest := []) (c_X11_onGrid l D  y (show -2147483648 ≤ y ∧ y ≤ 2147483647 from (p3))) mf_X11_onGrid kw_475 hG trivial rfl hl.1 ⟨⟨Nat.le_of_ble_eq_true rfl, Nat.le_of_ble_eq_true rfl⟩, Nat.le_of_ble_eq_true rfl, Nat.le_refl _, Nat.le_refl _⟩ rfl dX11_add_20 (fun z_20 h_20 => ?_)
      have h_20 : (z_20 = 1 ∧ (-40 ≤ y ∧ y ≤ 40)) ∨ (z_20 = 0 ∧ ¬ (-40 ≤ y ∧ y ≤ 40)) := h_20
      refine j_if_ne SS (tgt := 28) (x := z_20) dX11_add_23 (by decide) (by omega) (fun c_23 => ?_) (fun c_23 => ?_)
      · skip
        refine lv_aload_n SS.1 SS.2.1 dX11_add_28 rfl (lv_at hl 1 rfl) ?_
        refine j_get SS hG hP 0 (v := .ref (q 2)) (C := RX11) (T := TX11) (N := 8) rfl rfl inX11 1 (by decide) (ref := "GridPolygons") kw_386 rfl rfl dX11_add_29 ?_
        refine j_vWv SS (As := []) (rest := []) (c_X3_begin l D q u A (cW_D hD)   (show HU_ ((u.2.1 0)) ((u.2.1 1)) from (p0.2.2.1))) mf_X3_begin kw_418 hG hP hP (ci := 3) (q0 := 2) rfl rfl rfl hS (fun _ h => h) rfl hl.1 ⟨⟨Nat.le_of_ble_eq_true rfl, Nat.le_of_ble_eq_true rfl⟩, Nat.le_of_ble_eq_true rfl, Nat.le_refl _, Nat.le_refl _⟩ rfl dX11_add_32 (fun u32 H locs h_32 hP _ hS => ?_)
        obtain ⟨f_32, g_32, rfl, h_32⟩ := h_32
        have hP : va_P D.1 j_cl (cW D q (sI (sI u 0 f_32) 1 g_32)) H := hP
        have h_32 : f_32 = jf ((u.2.1 0)) 81 161 ∧ g_32 = jf ((u.2.1 1)) (-81) 161 ∧ HU_ f_32 g_32 := h_32
        refine lv_aload_n SS.1 SS.2.1 dX11_add_35 rfl (lv_at hl 1 rfl) ?_
        refine j_get SS hG hP 0 (v := .ref (q 2)) (C := RX11) (T := TX11) (N := 8) rfl rfl inX11 1 (by decide) (ref := "GridPolygons") kw_386 rfl rfl dX11_add_36 ?_
        refine lv_aload SS.1 SS.2.1 dX11_add_39 (lv_at hl 0 rfl) ?_
        refine j_get SS hG hP (8 + 5 * i_2) (v := .ref (q (9 + 5 * i_2))) (C := RX10) (T := TX10) (N := 3) (cw_shape (by omega)) rfl inX10 0 (by decide) (ref := "GridPolygons$Shape") kw_151 rfl rfl dX11_add_41 ?_
        refine j_vWv SS (As := [.ref (q (9 + 5 * i_2))]) (rest := []) (c_X3_takeRing l D q (sI (sI u 0 f_32) 1 g_32) A (cW_D hD) i_2 (by omega)  (show HU_ (f_32) (g_32) from (h_32.2.2)) (show RB 80 (sI (sI u 0 f_32) 1 g_32) i_2 from (hI2))) mf_X3_takeRing kw_478 hG hP hP (ci := 3) (q0 := 2) rfl rfl rfl hS (fun _ h => h) rfl hl.1 ⟨⟨Nat.le_of_ble_eq_true rfl, Nat.le_of_ble_eq_true rfl⟩, Nat.le_of_ble_eq_true rfl, Nat.le_refl _, Nat.le_refl _⟩ rfl dX11_add_44 (fun u44 H locs h_44 hP _ hS => ?_)
        obtain ⟨f_44, g_44, rfl, h_44⟩ := h_44
        have hP : va_P D.1 j_cl (cW D q (sI (sI u 0 f_44) 1 g_44)) H := hP
        have h_44 : HU_ f_44 g_44 := h_44
        refine lv_aload_n SS.1 SS.2.1 dX11_add_47 rfl (lv_at hl 1 rfl) ?_
        refine j_get SS hG hP 0 (v := .ref (q 2)) (C := RX11) (T := TX11) (N := 8) rfl rfl inX11 1 (by decide) (ref := "GridPolygons") kw_386 rfl rfl dX11_add_48 ?_
        refine lv_iload_n SS.1 SS.2.1 dX11_add_51 rfl (lv_at hl 3 rfl) ?_
        refine lv_iload_n SS.1 SS.2.1 dX11_add_52 rfl (lv_at hl 4 rfl) ?_
        refine j_vWv SS (As := [.int (J x), .int (J y)]) (rest := []) (c_X3_take l D q (sI (sI u 0 f_44) 1 g_44) A (cW_D hD)  x y (show HU_ (f_44) (g_44) from (h_44)) (show -1000 ≤ x ∧ x ≤ 1000 from (by omega)) (show -2147483648 ≤ y ∧ y ≤ 2147483647 from (by omega))) mf_X3_take kw_492 hG hP hP (ci := 3) (q0 := 2) rfl rfl rfl hS (fun _ h => h) rfl hl.1 ⟨⟨Nat.le_of_ble_eq_true rfl, Nat.le_of_ble_eq_true rfl⟩, Nat.le_of_ble_eq_true rfl, Nat.le_refl _, Nat.le_refl _⟩ rfl dX11_add_53 (fun u53 H locs h_53 hP _ hS => ?_)
        obtain ⟨f_53, g_53, rfl, h_53⟩ := h_53
        have hP : va_P D.1 j_cl (cW D q (sI (sI u 0 f_53) 1 g_53)) H := hP
        have h_53 : ((-80 ≤ x ∧ x ≤ 80 ∧ -80 ≤ y ∧ y ≤ 80) ∧ f_53 = upI (f_44) (x + 80).toNat (min (f_44 (x + 80).toNat) y) ∧ g_53 = upI (g_44) (x + 80).toNat (max (g_44 (x + 80).toNat) y) ∨ ¬ (-80 ≤ x ∧ x ≤ 80 ∧ -80 ≤ y ∧ y ≤ 80) ∧ f_53 = f_44 ∧ g_53 = g_44) ∧ HU_ f_53 g_53 := h_53
        refine lv_aload_n SS.1 SS.2.1 dX11_add_56 rfl (lv_at hl 1 rfl) ?_
        refine j_get SS hG hP 0 (v := .ref (q 2)) (C := RX11) (T := TX11) (N := 8) rfl rfl inX11 1 (by decide) (ref := "GridPolygons") kw_386 rfl rfl dX11_add_57 ?_
        refine j_vWv SS (As := []) (rest := []) (c_X3_close l D q (sI (sI u 0 f_53) 1 g_53) A (cW_D hD)   (show RB 80 (sI (sI u 0 f_53) 1 g_53) 8 from (p0.2.1.1)) (show HU_ (f_53) (g_53) from (h_53.2))) mf_X3_close kw_425 hG hP hP (ci := 3) (q0 := 2) rfl rfl rfl hS (fun _ h => h) rfl hl.1 ⟨⟨Nat.le_of_ble_eq_true rfl, Nat.le_of_ble_eq_true rfl⟩, Nat.le_of_ble_eq_true rfl, Nat.le_refl _, Nat.le_refl _⟩ rfl dX11_add_60 (fun u60 H locs h_60 hP _ hS => ?_)
        obtain ⟨f_60, g_60, n_60, rfl, h_60⟩ := h_60
        have hP : va_P D.1 j_cl (cW D q (sY (sX (sI (sI (sC u 8 n_60) 0 f_53) 1 g_53) 8 f_60) 8 g_60)) H := hP
        have h_60 : (0 ≤ n_60 ∧ n_60 ≤ 323) ∧ RV 80 f_60 g_60 ∧ ((∀ k : Nat, k < 161 → g_53 k < f_53 k) → n_60 = 0) := h_60
        refine lv_aload_n SS.1 SS.2.1 dX11_add_63 rfl (lv_at hl 1 rfl) ?_
        refine lv_aload SS.1 SS.2.1 dX11_add_64 (lv_at hl 0 rfl) ?_
        refine j_vWi SS (As := [.ref (q (8 + 5 * i_2))]) (rest := []) (c_X11_remakeIfFits l D q (sY (sX (sI (sI (sC u 8 n_60) 0 f_53) 1 g_53) 8 f_60) 8 g_60) A (cW_D hD) i_2 (by omega)  (show CI (sY (sX (sI (sI (sC u 8 n_60) 0 f_53) 1 g_53) 8 f_60) 8 g_60) from (CI_8 (CI_h p0 h_53.2) h_60.1 h_60.2.1))) mf_X11_remakeIfFits kw_493 hG hP hP (ci := 11) (q0 := 0) rfl rfl rfl hS (fun _ h => h) rfl hl.1 ⟨⟨Nat.le_of_ble_eq_true rfl, Nat.le_of_ble_eq_true rfl⟩, Nat.le_of_ble_eq_true rfl, Nat.le_refl _, Nat.le_refl _⟩ rfl dX11_add_66 (fun z_66 u66 H locs h_66 hP _ hS => ?_)
        obtain ⟨n_66, f_66, g_66, hh_66, tt_66, st0_66, rfl, h_66⟩ := h_66
        have hP : va_P D.1 j_cl (cW D q (sY (sY (sX (sX (sV (sT (sI (sI (sH (sC (sC u 8 n_60) i_2 n_66) i_2 hh_66) 0 f_53) 1 g_53) i_2 tt_66) 0 st0_66) 8 f_60) i_2 f_66) 8 g_60) i_2 g_66)) H := hP
        have h_66 : CI (sY (sY (sX (sX (sV (sT (sI (sI (sH (sC (sC u 8 n_60) i_2 n_66) i_2 hh_66) 0 f_53) 1 g_53) i_2 tt_66) 0 st0_66) 8 f_60) i_2 f_66) 8 g_60) i_2 g_66) ∧ ((z_66 = -3 ∧ ¬ (n_60 ≤ 24 ∧ bd 40 (f_60) (g_60) (n_60)) ∧ n_66 = ((sY (sX (sI (sI (sC u 8 n_60) 0 f_53) 1 g_53) 8 f_60) 8 g_60).1.2.2.1 i_2) ∧ f_66 = ((sY (sX (sI (sI (sC u 8 n_60) 0 f_53) 1 g_53) 8 f_60) 8 g_60).1.1 i_2) ∧ g_66 = ((sY (sX (sI (sI (sC u 8 n_60) 0 f_53) 1 g_53) 8 f_60) 8 g_60).1.2.1 i_2)) ∨ (z_66 = n_60 ∧ n_60 ≤ 24 ∧ bd 40 (f_60) (g_60) (n_60) ∧ n_66 = n_60 ∧ ∀ j : Nat, (j : Int) < n_66 → f_66 j = f_60 j ∧ g_66 j = g_60 j)) := h_66
        exact W.iret SS.1 SS.2.1 hr (fun t0 ht hW => ⟨⟨_, (sY (sY (sX (sX (sV (sT (sI (sI (sH (sC (sC u 8 n_60) i_2 n_66) i_2 hh_66) 0 f_53) 1 g_53) i_2 tt_66) 0 st0_66) 8 f_60) i_2 f_66) 8 g_60) i_2 g_66), rfl, ⟨z_66, rfl, (h_66.1)⟩, by show va_P D.1 j_cl (cW D q (sY (sY (sX (sX (sV (sT (sI (sI (sH (sC (sC u 8 n_60) i_2 n_66) i_2 hh_66) 0 f_53) 1 g_53) i_2 tt_66) 0 st0_66) 8 f_60) i_2 f_66) 8 g_60) i_2 g_66)) t0.heap; rw [ht]; first | exact hP | (simp only [sC_id, sX_id, sY_id, sH_id, sT_id, sV_id]; exact hP)⟩, hS.F ht⟩) hS.2.2 dX11_add_69 hlk
      · skip
        refine j_iconst SS dX11_add_26 ?_
        exact W.iret SS.1 SS.2.1 hr (fun t0 ht hW => ⟨⟨_, u, rfl, ⟨(-1), rfl, (p0)⟩, by show va_P D.1 j_cl (cW D q u) t0.heap; rw [ht]; first | exact hP | (simp only [sC_id, sX_id, sY_id, sH_id, sT_id, sV_id]; exact hP)⟩, hS.F ht⟩) hS.2.2 dX11_add_27 hlk
  · skip
    refine lv_astoreN (lv' := [(4, .null), (0, .ref (q 0)), (1, .int (J s)), (2, .int (J x)), (3, .int (J y))]) SS.1 SS.2.1 dX11_add_5 hl (by decide) rfl (fun ls hl => ?_)
    refine lv_aloadN SS.1 SS.2.1 dX11_add_7 (lv_at hl 0 rfl) ?_
    refine lv_ifnullN SS.1 SS.2.1 (tgt := 26) dX11_add_9 (by decide) ?_
    refine j_iconst SS dX11_add_26 ?_
    exact W.iret SS.1 SS.2.1 hr (fun t0 ht hW => ⟨⟨_, u, rfl, ⟨(-1), rfl, (p0)⟩, by show va_P D.1 j_cl (cW D q u) t0.heap; rw [ht]; first | exact hP | (simp only [sC_id, sX_id, sY_id, sH_id, sT_id, sV_id]; exact hP)⟩, hS.F ht⟩) hS.2.2 dX11_add_27 hlk

set_option maxHeartbeats 4000000 in
set_option maxRecDepth 100000 in
theorem c_X11_sum (l : Launch) (D : JD) (q : Nat → Nat) (u : CS) (A : Nat → Prop) (hD : va_D A (cW D q u)) (s : Int) (s2 : Int) (to : Int) (p0 : CI u) (p1 : -2147483648 ≤ s ∧ s ≤ 2147483647) (p2 : -2147483648 ≤ s2 ∧ s2 ≤ 2147483647) (p3 : -2147483648 ≤ to ∧ to ≤ 2147483647) : Met l yX11_sum (jw yX11_sum cX11_sum 7 (some .int)) (jr 5 115) (jP [.ref (q 0), .int (J s), .int (J s2), .int (J to)] D (fun H => va_P D.1 j_cl (cW D q u) H)) (jWi (fun z u' => CI u') (fun u' H => va_P D.1 j_cl (cW D q u') H) A) 0 0 A := by
  refine Met.ofW (cc := cX11_sum) (maxL := 7) (ret := (some .int)) (by decide) rfl ?_
  intro pr en st mi args below meth co s₁ B hml hv
  obtain ⟨rfl, hG, hP⟩ := hv
  have hr := B.returns
  have hlk := B.notSynchronized
  have SS : jS pr mi co cX11_sum 7 st _ RX11 := ⟨B.exec, B.bytes, hml, findClass_of_methodNamed B.named, fun w hw => atoms_spec (ws := (jw yX11_sum cX11_sum 7 (some .int))) B.pre w (List.mem_cons_of_mem _ hw)⟩
  have hl := lv_entry ([.ref (q 0), .int (J s), .int (J s2), .int (J to)]) (n := 7) (Nat.le_of_ble_eq_true rfl)
  rw [lg_entry_eq]
  generalize (lg_sl ([.ref (q 0), .int (J s), .int (J s2), .int (J to)]) ++ List.replicate (7 - (lg_sl ([.ref (q 0), .int (J s), .int (J s2), .int (J to)])).length) Slot.unset).toArray = ls at hl ⊢
  have hl : lv_has ls 7 [(0, .ref (q 0)), (1, .int (J s)), (2, .int (J s2)), (3, .int (J to))] := hl
  have hS : va_S A st.heap st.heap [] := va_S.rf
  refine lv_aload_n SS.1 SS.2.1 dX11_sum_0 rfl (lv_at hl 0 rfl) ?_
  refine lv_iload_n SS.1 SS.2.1 dX11_sum_1 rfl (lv_at hl 1 rfl) ?_
  refine j_vSh SS (As := [.int (J s)]) (rest := []) (c_X11_shapeAt l D q u  s (show -2147483648 ≤ s ∧ s ≤ 2147483647 from (p1))) mf_X11_shapeAt kw_414 hG hP hP (ci := 11) (q0 := 0) rfl rfl rfl rfl hl.1 ⟨⟨Nat.le_of_ble_eq_true rfl, Nat.le_of_ble_eq_true rfl⟩, Nat.le_of_ble_eq_true rfl, Nat.le_refl _, Nat.le_refl _⟩ rfl dX11_sum_2 (fun i_2 hi_2 hz_2 => ?_) (fun hn_2 => ?_)
  · skip
    have hI2 := CI_s p0 (show i_2 < 8 by omega)
    have hI2c := hI2.1
    have hrl2 := rl_s (show i_2 < 8 by omega)
    refine lv_astore (lv' := [(4, .ref (q (8 + 5 * i_2))), (0, .ref (q 0)), (1, .int (J s)), (2, .int (J s2)), (3, .int (J to))]) SS.1 SS.2.1 dX11_sum_5 hl (by decide) rfl (fun ls hl => ?_)
    refine lv_aload_n SS.1 SS.2.1 dX11_sum_7 rfl (lv_at hl 1 rfl) ?_
    refine lv_iload_n SS.1 SS.2.1 dX11_sum_8 rfl (lv_at hl 3 rfl) ?_
    refine j_vSh SS (As := [.int (J s2)]) (rest := []) (c_X11_shapeAt l D q u  s2 (show -2147483648 ≤ s2 ∧ s2 ≤ 2147483647 from (p2))) mf_X11_shapeAt kw_414 hG hP hP (ci := 11) (q0 := 0) rfl rfl rfl rfl hl.1 ⟨⟨Nat.le_of_ble_eq_true rfl, Nat.le_of_ble_eq_true rfl⟩, Nat.le_of_ble_eq_true rfl, Nat.le_refl _, Nat.le_refl _⟩ rfl dX11_sum_9 (fun i_9 hi_9 hz_9 => ?_) (fun hn_9 => ?_)
    · skip
      refine lv_astore (lv' := [(5, .ref (q (8 + 5 * i_9))), (4, .ref (q (8 + 5 * i_2))), (0, .ref (q 0)), (1, .int (J s)), (2, .int (J s2)), (3, .int (J to))]) SS.1 SS.2.1 dX11_sum_12 hl (by decide) rfl (fun ls hl => ?_)
      refine lv_aload_n SS.1 SS.2.1 dX11_sum_14 rfl (lv_at hl 2 rfl) ?_
      refine lv_iload_n SS.1 SS.2.1 dX11_sum_15 rfl (lv_at hl 5 rfl) ?_
      refine j_vSh SS (As := [.int (J to)]) (rest := []) (c_X11_shapeAt l D q u  to (show -2147483648 ≤ to ∧ to ≤ 2147483647 from (p3))) mf_X11_shapeAt kw_414 hG hP hP (ci := 11) (q0 := 0) rfl rfl rfl rfl hl.1 ⟨⟨Nat.le_of_ble_eq_true rfl, Nat.le_of_ble_eq_true rfl⟩, Nat.le_of_ble_eq_true rfl, Nat.le_refl _, Nat.le_refl _⟩ rfl dX11_sum_16 (fun i_16 hi_16 hz_16 => ?_) (fun hn_16 => ?_)
      · skip
        refine lv_astore (lv' := [(6, .ref (q (8 + 5 * i_16))), (5, .ref (q (8 + 5 * i_9))), (4, .ref (q (8 + 5 * i_2))), (0, .ref (q 0)), (1, .int (J s)), (2, .int (J s2)), (3, .int (J to))]) SS.1 SS.2.1 dX11_sum_19 hl (by decide) rfl (fun ls hl => ?_)
        refine lv_aload SS.1 SS.2.1 dX11_sum_21 (lv_at hl 2 rfl) ?_
        refine lv_ifnull SS.1 SS.2.1 dX11_sum_23 ?_
        refine lv_aload SS.1 SS.2.1 dX11_sum_26 (lv_at hl 1 rfl) ?_
        refine lv_ifnull SS.1 SS.2.1 dX11_sum_28 ?_
        refine lv_aload SS.1 SS.2.1 dX11_sum_31 (lv_at hl 0 rfl) ?_
        refine lv_ifnonnull SS.1 SS.2.1 (tgt := 38) dX11_sum_33 (by decide) ?_
        refine lv_aload_n SS.1 SS.2.1 dX11_sum_38 rfl (lv_at hl 3 rfl) ?_
        refine j_get SS hG hP 0 (v := .ref (q 2)) (C := RX11) (T := TX11) (N := 8) rfl rfl inX11 1 (by decide) (ref := "GridPolygons") kw_386 rfl rfl dX11_sum_39 ?_
        refine lv_aload SS.1 SS.2.1 dX11_sum_42 (lv_at hl 2 rfl) ?_
        refine j_get SS hG hP (8 + 5 * i_2) (v := .ref (q (9 + 5 * i_2))) (C := RX10) (T := TX10) (N := 3) (cw_shape (by omega)) rfl inX10 0 (by decide) (ref := "GridPolygons$Shape") kw_151 rfl rfl dX11_sum_44 ?_
        refine lv_aload SS.1 SS.2.1 dX11_sum_47 (lv_at hl 1 rfl) ?_
        refine j_get SS hG hP (8 + 5 * i_9) (v := .ref (q (9 + 5 * i_9))) (C := RX10) (T := TX10) (N := 3) (cw_shape (by omega)) rfl inX10 0 (by decide) (ref := "GridPolygons$Shape") kw_151 rfl rfl dX11_sum_49 ?_
        refine j_vWv SS (As := [.ref (q (9 + 5 * i_2)), .ref (q (9 + 5 * i_9))]) (rest := []) (c_X3_closeSum l D q u A (cW_D hD) i_2 (by omega) i_9 (by omega)  (show HU_ ((u.2.1 0)) ((u.2.1 1)) from (p0.2.2.1)) (show RB 80 u i_2 from (CI_s p0 (by omega))) (show RB 80 u i_9 from (CI_s p0 (by omega))) (show RB 80 u 8 from (p0.2.1.1))) mf_X3_closeSum kw_686 hG hP hP (ci := 3) (q0 := 2) rfl rfl rfl hS (fun _ h => h) rfl hl.1 ⟨⟨Nat.le_of_ble_eq_true rfl, Nat.le_of_ble_eq_true rfl⟩, Nat.le_of_ble_eq_true rfl, Nat.le_refl _, Nat.le_refl _⟩ rfl dX11_sum_52 (fun u52 H locs h_52 hP _ hS => ?_)
        obtain ⟨f_52, g_52, f8_52, g8_52, n8_52, rfl, h_52⟩ := h_52
        have hP : va_P D.1 j_cl (cW D q (sY (sX (sI (sI (sC u 8 n8_52) 0 f_52) 1 g_52) 8 f8_52) 8 g8_52)) H := hP
        have h_52 : HU_ f_52 g_52 ∧ (0 ≤ n8_52 ∧ n8_52 ≤ 323) ∧ RV 80 f8_52 g8_52 := h_52
        refine lv_aload_n SS.1 SS.2.1 dX11_sum_55 rfl (lv_at hl 3 rfl) ?_
        refine lv_aload SS.1 SS.2.1 dX11_sum_56 (lv_at hl 0 rfl) ?_
        refine j_vWi SS (As := [.ref (q (8 + 5 * i_16))]) (rest := []) (c_X11_remakeIfFits l D q (sY (sX (sI (sI (sC u 8 n8_52) 0 f_52) 1 g_52) 8 f8_52) 8 g8_52) A (cW_D hD) i_16 (by omega)  (show CI (sY (sX (sI (sI (sC u 8 n8_52) 0 f_52) 1 g_52) 8 f8_52) 8 g8_52) from (CI_8 (CI_h p0 h_52.1) h_52.2.1 h_52.2.2))) mf_X11_remakeIfFits kw_493 hG hP hP (ci := 11) (q0 := 0) rfl rfl rfl hS (fun _ h => h) rfl hl.1 ⟨⟨Nat.le_of_ble_eq_true rfl, Nat.le_of_ble_eq_true rfl⟩, Nat.le_of_ble_eq_true rfl, Nat.le_refl _, Nat.le_refl _⟩ rfl dX11_sum_58 (fun z_58 u58 H locs h_58 hP _ hS => ?_)
        obtain ⟨n_58, f_58, g_58, hh_58, tt_58, st0_58, rfl, h_58⟩ := h_58
        have hP : va_P D.1 j_cl (cW D q (sY (sY (sX (sX (sV (sT (sI (sI (sH (sC (sC u 8 n8_52) i_16 n_58) i_16 hh_58) 0 f_52) 1 g_52) i_16 tt_58) 0 st0_58) 8 f8_52) i_16 f_58) 8 g8_52) i_16 g_58)) H := hP
        have h_58 : CI (sY (sY (sX (sX (sV (sT (sI (sI (sH (sC (sC u 8 n8_52) i_16 n_58) i_16 hh_58) 0 f_52) 1 g_52) i_16 tt_58) 0 st0_58) 8 f8_52) i_16 f_58) 8 g8_52) i_16 g_58) ∧ ((z_58 = -3 ∧ ¬ (n8_52 ≤ 24 ∧ bd 40 (f8_52) (g8_52) (n8_52)) ∧ n_58 = ((sY (sX (sI (sI (sC u 8 n8_52) 0 f_52) 1 g_52) 8 f8_52) 8 g8_52).1.2.2.1 i_16) ∧ f_58 = ((sY (sX (sI (sI (sC u 8 n8_52) 0 f_52) 1 g_52) 8 f8_52) 8 g8_52).1.1 i_16) ∧ g_58 = ((sY (sX (sI (sI (sC u 8 n8_52) 0 f_52) 1 g_52) 8 f8_52) 8 g8_52).1.2.1 i_16)) ∨ (z_58 = n8_52 ∧ n8_52 ≤ 24 ∧ bd 40 (f8_52) (g8_52) (n8_52) ∧ n_58 = n8_52 ∧ ∀ j : Nat, (j : Int) < n_58 → f_58 j = f8_52 j ∧ g_58 j = g8_52 j)) := h_58
        exact W.iret SS.1 SS.2.1 hr (fun t0 ht hW => ⟨⟨_, (sY (sY (sX (sX (sV (sT (sI (sI (sH (sC (sC u 8 n8_52) i_16 n_58) i_16 hh_58) 0 f_52) 1 g_52) i_16 tt_58) 0 st0_58) 8 f8_52) i_16 f_58) 8 g8_52) i_16 g_58), rfl, ⟨z_58, rfl, (h_58.1)⟩, by show va_P D.1 j_cl (cW D q (sY (sY (sX (sX (sV (sT (sI (sI (sH (sC (sC u 8 n8_52) i_16 n_58) i_16 hh_58) 0 f_52) 1 g_52) i_16 tt_58) 0 st0_58) 8 f8_52) i_16 f_58) 8 g8_52) i_16 g_58)) t0.heap; rw [ht]; first | exact hP | (simp only [sC_id, sX_id, sY_id, sH_id, sT_id, sV_id]; exact hP)⟩, hS.F ht⟩) hS.2.2 dX11_sum_61 hlk
      · skip
        refine lv_astoreN (lv' := [(6, .null), (5, .ref (q (8 + 5 * i_9))), (4, .ref (q (8 + 5 * i_2))), (0, .ref (q 0)), (1, .int (J s)), (2, .int (J s2)), (3, .int (J to))]) SS.1 SS.2.1 dX11_sum_19 hl (by decide) rfl (fun ls hl => ?_)
        refine lv_aload SS.1 SS.2.1 dX11_sum_21 (lv_at hl 2 rfl) ?_
        refine lv_ifnull SS.1 SS.2.1 dX11_sum_23 ?_
        refine lv_aload SS.1 SS.2.1 dX11_sum_26 (lv_at hl 1 rfl) ?_
        refine lv_ifnull SS.1 SS.2.1 dX11_sum_28 ?_
        refine lv_aloadN SS.1 SS.2.1 dX11_sum_31 (lv_at hl 0 rfl) ?_
        refine lv_ifnonnullN SS.1 SS.2.1 dX11_sum_33 ?_
        refine j_iconst SS dX11_sum_36 ?_
        exact W.iret SS.1 SS.2.1 hr (fun t0 ht hW => ⟨⟨_, u, rfl, ⟨(-1), rfl, (p0)⟩, by show va_P D.1 j_cl (cW D q u) t0.heap; rw [ht]; first | exact hP | (simp only [sC_id, sX_id, sY_id, sH_id, sT_id, sV_id]; exact hP)⟩, hS.F ht⟩) hS.2.2 dX11_sum_37 hlk
    · skip
      refine lv_astoreN (lv' := [(5, .null), (4, .ref (q (8 + 5 * i_2))), (0, .ref (q 0)), (1, .int (J s)), (2, .int (J s2)), (3, .int (J to))]) SS.1 SS.2.1 dX11_sum_12 hl (by decide) rfl (fun ls hl => ?_)
      refine lv_aload_n SS.1 SS.2.1 dX11_sum_14 rfl (lv_at hl 2 rfl) ?_
      refine lv_iload_n SS.1 SS.2.1 dX11_sum_15 rfl (lv_at hl 5 rfl) ?_
      refine j_vSh SS (As := [.int (J to)]) (rest := []) (c_X11_shapeAt l D q u  to (show -2147483648 ≤ to ∧ to ≤ 2147483647 from (p3))) mf_X11_shapeAt kw_414 hG hP hP (ci := 11) (q0 := 0) rfl rfl rfl rfl hl.1 ⟨⟨Nat.le_of_ble_eq_true rfl, Nat.le_of_ble_eq_true rfl⟩, Nat.le_of_ble_eq_true rfl, Nat.le_refl _, Nat.le_refl _⟩ rfl dX11_sum_16 (fun i_16 hi_16 hz_16 => ?_) (fun hn_16 => ?_)
      · skip
        refine lv_astore (lv' := [(6, .ref (q (8 + 5 * i_16))), (5, .null), (4, .ref (q (8 + 5 * i_2))), (0, .ref (q 0)), (1, .int (J s)), (2, .int (J s2)), (3, .int (J to))]) SS.1 SS.2.1 dX11_sum_19 hl (by decide) rfl (fun ls hl => ?_)
        refine lv_aload SS.1 SS.2.1 dX11_sum_21 (lv_at hl 2 rfl) ?_
        refine lv_ifnull SS.1 SS.2.1 dX11_sum_23 ?_
        refine lv_aloadN SS.1 SS.2.1 dX11_sum_26 (lv_at hl 1 rfl) ?_
        refine lv_ifnullN SS.1 SS.2.1 (tgt := 36) dX11_sum_28 (by decide) ?_
        refine j_iconst SS dX11_sum_36 ?_
        exact W.iret SS.1 SS.2.1 hr (fun t0 ht hW => ⟨⟨_, u, rfl, ⟨(-1), rfl, (p0)⟩, by show va_P D.1 j_cl (cW D q u) t0.heap; rw [ht]; first | exact hP | (simp only [sC_id, sX_id, sY_id, sH_id, sT_id, sV_id]; exact hP)⟩, hS.F ht⟩) hS.2.2 dX11_sum_37 hlk
      · skip
        refine lv_astoreN (lv' := [(6, .null), (5, .null), (4, .ref (q (8 + 5 * i_2))), (0, .ref (q 0)), (1, .int (J s)), (2, .int (J s2)), (3, .int (J to))]) SS.1 SS.2.1 dX11_sum_19 hl (by decide) rfl (fun ls hl => ?_)
        refine lv_aload SS.1 SS.2.1 dX11_sum_21 (lv_at hl 2 rfl) ?_
        refine lv_ifnull SS.1 SS.2.1 dX11_sum_23 ?_
        refine lv_aloadN SS.1 SS.2.1 dX11_sum_26 (lv_at hl 1 rfl) ?_
        refine lv_ifnullN SS.1 SS.2.1 (tgt := 36) dX11_sum_28 (by decide) ?_
        refine j_iconst SS dX11_sum_36 ?_
        exact W.iret SS.1 SS.2.1 hr (fun t0 ht hW => ⟨⟨_, u, rfl, ⟨(-1), rfl, (p0)⟩, by show va_P D.1 j_cl (cW D q u) t0.heap; rw [ht]; first | exact hP | (simp only [sC_id, sX_id, sY_id, sH_id, sT_id, sV_id]; exact hP)⟩, hS.F ht⟩) hS.2.2 dX11_sum_37 hlk
  · skip
    refine lv_astoreN (lv' := [(4, .null), (0, .ref (q 0)), (1, .int (J s)), (2, .int (J s2)), (3, .int (J to))]) SS.1 SS.2.1 dX11_sum_5 hl (by decide) rfl (fun ls hl => ?_)
    refine lv_aload_n SS.1 SS.2.1 dX11_sum_7 rfl (lv_at hl 1 rfl) ?_
    refine lv_iload_n SS.1 SS.2.1 dX11_sum_8 rfl (lv_at hl 3 rfl) ?_
    refine j_vSh SS (As := [.int (J s2)]) (rest := []) (c_X11_shapeAt l D q u  s2 (show -2147483648 ≤ s2 ∧ s2 ≤ 2147483647 from (p2))) mf_X11_shapeAt kw_414 hG hP hP (ci := 11) (q0 := 0) rfl rfl rfl rfl hl.1 ⟨⟨Nat.le_of_ble_eq_true rfl, Nat.le_of_ble_eq_true rfl⟩, Nat.le_of_ble_eq_true rfl, Nat.le_refl _, Nat.le_refl _⟩ rfl dX11_sum_9 (fun i_9 hi_9 hz_9 => ?_) (fun hn_9 => ?_)
    · skip
      refine lv_astore (lv' := [(5, .ref (q (8 + 5 * i_9))), (4, .null), (0, .ref (q 0)), (1, .int (J s)), (2, .int (J s2)), (3, .int (J to))]) SS.1 SS.2.1 dX11_sum_12 hl (by decide) rfl (fun ls hl => ?_)
      refine lv_aload_n SS.1 SS.2.1 dX11_sum_14 rfl (lv_at hl 2 rfl) ?_
      refine lv_iload_n SS.1 SS.2.1 dX11_sum_15 rfl (lv_at hl 5 rfl) ?_
      refine j_vSh SS (As := [.int (J to)]) (rest := []) (c_X11_shapeAt l D q u  to (show -2147483648 ≤ to ∧ to ≤ 2147483647 from (p3))) mf_X11_shapeAt kw_414 hG hP hP (ci := 11) (q0 := 0) rfl rfl rfl rfl hl.1 ⟨⟨Nat.le_of_ble_eq_true rfl, Nat.le_of_ble_eq_true rfl⟩, Nat.le_of_ble_eq_true rfl, Nat.le_refl _, Nat.le_refl _⟩ rfl dX11_sum_16 (fun i_16 hi_16 hz_16 => ?_) (fun hn_16 => ?_)
      · skip
        refine lv_astore (lv' := [(6, .ref (q (8 + 5 * i_16))), (5, .ref (q (8 + 5 * i_9))), (4, .null), (0, .ref (q 0)), (1, .int (J s)), (2, .int (J s2)), (3, .int (J to))]) SS.1 SS.2.1 dX11_sum_19 hl (by decide) rfl (fun ls hl => ?_)
        refine lv_aloadN SS.1 SS.2.1 dX11_sum_21 (lv_at hl 2 rfl) ?_
        refine lv_ifnullN SS.1 SS.2.1 (tgt := 36) dX11_sum_23 (by decide) ?_
        refine j_iconst SS dX11_sum_36 ?_
        exact W.iret SS.1 SS.2.1 hr (fun t0 ht hW => ⟨⟨_, u, rfl, ⟨(-1), rfl, (p0)⟩, by show va_P D.1 j_cl (cW D q u) t0.heap; rw [ht]; first | exact hP | (simp only [sC_id, sX_id, sY_id, sH_id, sT_id, sV_id]; exact hP)⟩, hS.F ht⟩) hS.2.2 dX11_sum_37 hlk
      · skip
        refine lv_astoreN (lv' := [(6, .null), (5, .ref (q (8 + 5 * i_9))), (4, .null), (0, .ref (q 0)), (1, .int (J s)), (2, .int (J s2)), (3, .int (J to))]) SS.1 SS.2.1 dX11_sum_19 hl (by decide) rfl (fun ls hl => ?_)
        refine lv_aloadN SS.1 SS.2.1 dX11_sum_21 (lv_at hl 2 rfl) ?_
        refine lv_ifnullN SS.1 SS.2.1 (tgt := 36) dX11_sum_23 (by decide) ?_
        refine j_iconst SS dX11_sum_36 ?_
        exact W.iret SS.1 SS.2.1 hr (fun t0 ht hW => ⟨⟨_, u, rfl, ⟨(-1), rfl, (p0)⟩, by show va_P D.1 j_cl (cW D q u) t0.heap; rw [ht]; first | exact hP | (simp only [sC_id, sX_id, sY_id, sH_id, sT_id, sV_id]; exact hP)⟩, hS.F ht⟩) hS.2.2 dX11_sum_37 hlk
    · skip
      refine lv_astoreN (lv' := [(5, .null), (4, .null), (0, .ref (q 0)), (1, .int (J s)), (2, .int (J s2)), (3, .int (J to))]) SS.1 SS.2.1 dX11_sum_12 hl (by decide) rfl (fun ls hl => ?_)
      refine lv_aload_n SS.1 SS.2.1 dX11_sum_14 rfl (lv_at hl 2 rfl) ?_
      refine lv_iload_n SS.1 SS.2.1 dX11_sum_15 rfl (lv_at hl 5 rfl) ?_
      refine j_vSh SS (As := [.int (J to)]) (rest := []) (c_X11_shapeAt l D q u  to (show -2147483648 ≤ to ∧ to ≤ 2147483647 from (p3))) mf_X11_shapeAt kw_414 hG hP hP (ci := 11) (q0 := 0) rfl rfl rfl rfl hl.1 ⟨⟨Nat.le_of_ble_eq_true rfl, Nat.le_of_ble_eq_true rfl⟩, Nat.le_of_ble_eq_true rfl, Nat.le_refl _, Nat.le_refl _⟩ rfl dX11_sum_16 (fun i_16 hi_16 hz_16 => ?_) (fun hn_16 => ?_)
      · skip
        refine lv_astore (lv' := [(6, .ref (q (8 + 5 * i_16))), (5, .null), (4, .null), (0, .ref (q 0)), (1, .int (J s)), (2, .int (J s2)), (3, .int (J to))]) SS.1 SS.2.1 dX11_sum_19 hl (by decide) rfl (fun ls hl => ?_)
        refine lv_aloadN SS.1 SS.2.1 dX11_sum_21 (lv_at hl 2 rfl) ?_
        refine lv_ifnullN SS.1 SS.2.1 (tgt := 36) dX11_sum_23 (by decide) ?_
        refine j_iconst SS dX11_sum_36 ?_
        exact W.iret SS.1 SS.2.1 hr (fun t0 ht hW => ⟨⟨_, u, rfl, ⟨(-1), rfl, (p0)⟩, by show va_P D.1 j_cl (cW D q u) t0.heap; rw [ht]; first | exact hP | (simp only [sC_id, sX_id, sY_id, sH_id, sT_id, sV_id]; exact hP)⟩, hS.F ht⟩) hS.2.2 dX11_sum_37 hlk
      · skip
        refine lv_astoreN (lv' := [(6, .null), (5, .null), (4, .null), (0, .ref (q 0)), (1, .int (J s)), (2, .int (J s2)), (3, .int (J to))]) SS.1 SS.2.1 dX11_sum_19 hl (by decide) rfl (fun ls hl => ?_)
        refine lv_aloadN SS.1 SS.2.1 dX11_sum_21 (lv_at hl 2 rfl) ?_
        refine lv_ifnullN SS.1 SS.2.1 (tgt := 36) dX11_sum_23 (by decide) ?_
        refine j_iconst SS dX11_sum_36 ?_
        exact W.iret SS.1 SS.2.1 hr (fun t0 ht hW => ⟨⟨_, u, rfl, ⟨(-1), rfl, (p0)⟩, by show va_P D.1 j_cl (cW D q u) t0.heap; rw [ht]; first | exact hP | (simp only [sC_id, sX_id, sY_id, sH_id, sT_id, sV_id]; exact hP)⟩, hS.F ht⟩) hS.2.2 dX11_sum_37 hlk

set_option maxHeartbeats 4000000 in
set_option maxRecDepth 100000 in
theorem c_X11_dual (l : Launch) (D : JD) (q : Nat → Nat) (u : CS) (A : Nat → Prop) (hD : va_D A (cW D q u)) (s : Int) (to : Int) (p0 : CI u) (p1 : -2147483648 ≤ s ∧ s ≤ 2147483647) (p2 : -2147483648 ≤ to ∧ to ≤ 2147483647) : Met l yX11_dual (jw yX11_dual cX11_dual 6 (some .int)) (jr 6 132) (jP [.ref (q 0), .int (J s), .int (J to)] D (fun H => va_P D.1 j_cl (cW D q u) H)) (jWi (fun z u' => CI u') (fun u' H => va_P D.1 j_cl (cW D q u') H) A) 0 0 A := by
  refine Met.ofW (cc := cX11_dual) (maxL := 6) (ret := (some .int)) (by decide) rfl ?_
  intro pr en st mi args below meth co s₁ B hml hv
  obtain ⟨rfl, hG, hP⟩ := hv
  have hr := B.returns
  have hlk := B.notSynchronized
  have SS : jS pr mi co cX11_dual 6 st _ RX11 := ⟨B.exec, B.bytes, hml, findClass_of_methodNamed B.named, fun w hw => atoms_spec (ws := (jw yX11_dual cX11_dual 6 (some .int))) B.pre w (List.mem_cons_of_mem _ hw)⟩
  have hl := lv_entry ([.ref (q 0), .int (J s), .int (J to)]) (n := 6) (Nat.le_of_ble_eq_true rfl)
  rw [lg_entry_eq]
  generalize (lg_sl ([.ref (q 0), .int (J s), .int (J to)]) ++ List.replicate (6 - (lg_sl ([.ref (q 0), .int (J s), .int (J to)])).length) Slot.unset).toArray = ls at hl ⊢
  have hl : lv_has ls 6 [(0, .ref (q 0)), (1, .int (J s)), (2, .int (J to))] := hl
  have hS : va_S A st.heap st.heap [] := va_S.rf
  refine lv_aload_n SS.1 SS.2.1 dX11_dual_0 rfl (lv_at hl 0 rfl) ?_
  refine lv_iload_n SS.1 SS.2.1 dX11_dual_1 rfl (lv_at hl 1 rfl) ?_
  refine j_vSh SS (As := [.int (J s)]) (rest := []) (c_X11_shapeAt l D q u  s (show -2147483648 ≤ s ∧ s ≤ 2147483647 from (p1))) mf_X11_shapeAt kw_414 hG hP hP (ci := 11) (q0 := 0) rfl rfl rfl rfl hl.1 ⟨⟨Nat.le_of_ble_eq_true rfl, Nat.le_of_ble_eq_true rfl⟩, Nat.le_of_ble_eq_true rfl, Nat.le_refl _, Nat.le_refl _⟩ rfl dX11_dual_2 (fun i_2 hi_2 hz_2 => ?_) (fun hn_2 => ?_)
  · skip
    have hI2 := CI_s p0 (show i_2 < 8 by omega)
    have hI2c := hI2.1
    have hrl2 := rl_s (show i_2 < 8 by omega)
    refine lv_astore_n (lv' := [(3, .ref (q (8 + 5 * i_2))), (0, .ref (q 0)), (1, .int (J s)), (2, .int (J to))]) SS.1 SS.2.1 dX11_dual_5 rfl hl (by decide) rfl (fun ls hl => ?_)
    refine lv_aload_n SS.1 SS.2.1 dX11_dual_6 rfl (lv_at hl 1 rfl) ?_
    refine lv_iload_n SS.1 SS.2.1 dX11_dual_7 rfl (lv_at hl 3 rfl) ?_
    refine j_vSh SS (As := [.int (J to)]) (rest := []) (c_X11_shapeAt l D q u  to (show -2147483648 ≤ to ∧ to ≤ 2147483647 from (p2))) mf_X11_shapeAt kw_414 hG hP hP (ci := 11) (q0 := 0) rfl rfl rfl rfl hl.1 ⟨⟨Nat.le_of_ble_eq_true rfl, Nat.le_of_ble_eq_true rfl⟩, Nat.le_of_ble_eq_true rfl, Nat.le_refl _, Nat.le_refl _⟩ rfl dX11_dual_8 (fun i_8 hi_8 hz_8 => ?_) (fun hn_8 => ?_)
    · skip
      refine lv_astore (lv' := [(4, .ref (q (8 + 5 * i_8))), (3, .ref (q (8 + 5 * i_2))), (0, .ref (q 0)), (1, .int (J s)), (2, .int (J to))]) SS.1 SS.2.1 dX11_dual_11 hl (by decide) rfl (fun ls hl => ?_)
      refine lv_aload_n SS.1 SS.2.1 dX11_dual_13 rfl (lv_at hl 1 rfl) ?_
      refine lv_ifnull SS.1 SS.2.1 dX11_dual_14 ?_
      refine lv_aload SS.1 SS.2.1 dX11_dual_17 (lv_at hl 0 rfl) ?_
      refine lv_ifnonnull SS.1 SS.2.1 (tgt := 24) dX11_dual_19 (by decide) ?_
      refine lv_aload_n SS.1 SS.2.1 dX11_dual_24 rfl (lv_at hl 1 rfl) ?_
      refine j_get SS hG hP (8 + 5 * i_2) (v := .ref (q (9 + 5 * i_2))) (C := RX10) (T := TX10) (N := 3) (cw_shape (by omega)) rfl inX10 0 (by decide) (ref := "GridPolygons$Shape") kw_151 rfl rfl dX11_dual_25 ?_
      refine j_vRi SS (As := []) (rest := []) (c_X7_isReflexive l D q u i_2 (by omega) (80 : Int)  (show 0 ≤ (80 : Int) ∧ (80 : Int) ≤ 80 from (by omega)) (show RB (80 : Int) u i_2 from (show RB 80 u i_2 from CI_s p0 (by omega)))) mf_X7_isReflexive kw_818 hG hP hP (ci := 7) (q0 := (9 + 5 * i_2)) rfl (cw_ring (by omega)) rfl rfl hl.1 ⟨⟨Nat.le_of_ble_eq_true rfl, Nat.le_of_ble_eq_true rfl⟩, Nat.le_of_ble_eq_true rfl, Nat.le_refl _, Nat.le_refl _⟩ rfl dX11_dual_28 (fun z_28 h_28 => ?_)
      have h_28 : (z_28 = 1 ∧ 3 ≤ (u.1.2.2.1 i_2)) ∨ z_28 = 0 := h_28
      refine j_if_ne SS (tgt := 37) (x := z_28) dX11_dual_31 (by decide) (by omega) (fun c_31 => ?_) (fun c_31 => ?_)
      · skip
        refine lv_aload_n SS.1 SS.2.1 dX11_dual_37 rfl (lv_at hl 2 rfl) ?_
        refine j_get SS hG hP 0 (v := .ref (q 2)) (C := RX11) (T := TX11) (N := 8) rfl rfl inX11 1 (by decide) (ref := "GridPolygons") kw_386 rfl rfl dX11_dual_38 ?_
        refine j_vWv SS (As := []) (rest := []) (c_X3_begin l D q u A (cW_D hD)   (show HU_ ((u.2.1 0)) ((u.2.1 1)) from (p0.2.2.1))) mf_X3_begin kw_418 hG hP hP (ci := 3) (q0 := 2) rfl rfl rfl hS (fun _ h => h) rfl hl.1 ⟨⟨Nat.le_of_ble_eq_true rfl, Nat.le_of_ble_eq_true rfl⟩, Nat.le_of_ble_eq_true rfl, Nat.le_refl _, Nat.le_refl _⟩ rfl dX11_dual_41 (fun u41 H locs h_41 hP _ hS => ?_)
        obtain ⟨f_41, g_41, rfl, h_41⟩ := h_41
        have hP : va_P D.1 j_cl (cW D q (sI (sI u 0 f_41) 1 g_41)) H := hP
        have h_41 : f_41 = jf ((u.2.1 0)) 81 161 ∧ g_41 = jf ((u.2.1 1)) (-81) 161 ∧ HU_ f_41 g_41 := h_41
        refine j_iconst SS dX11_dual_44 ?_
        refine lv_istore (lv' := [(5, .int (J 0)), (4, .ref (q (8 + 5 * i_8))), (3, .ref (q (8 + 5 * i_2))), (0, .ref (q 0)), (1, .int (J s)), (2, .int (J to))]) SS.1 SS.2.1 dX11_dual_45 hl (by decide) rfl (fun ls hl => ?_)
        have L_47 : ∀ (nn : Nat) (i : Int) (f1 : Nat → Int) (g1 : Nat → Int) (H : Heap) (locs : List Loc) (hP : va_P D.1 j_cl (cW D q (sI (sI u 0 f1) 1 g1)) H) (hS : va_S A st.heap H locs) (ls : Array Slot) (hl : lv_has ls 6 [(0, .ref (q 0)), (1, .int (J s)), (2, .int (J to)), (3, .ref (q (8 + 5 * i_2))), (4, .ref (q (8 + 5 * i_8))), (5, .int (J i))]) (i47_0 : 0 ≤ i ∧ i ≤ u.1.2.2.1 i_2) (i47_1 : HU_ f1 g1), (u.1.2.2.1 i_2 - i).toNat < nn → W pr l en (headSpec (jw yX11_dual cX11_dual 6 (some .int)) (jr 6 132)).room st mi (([.ref (q 0), .int (J s), .int (J to)] : List Value).toArray) below meth co H locs 0 0 (MQ below (jWi (fun z u' => CI u') (fun u' H => va_P D.1 j_cl (cW D q u') H) A) (([.ref (q 0), .int (J s), .int (J to)] : List Value).toArray) st 0 0 A) (F0 mi 47 ls []) := by
          intro nn
          induction nn with
          | zero => intros; omega
          | succ nn ih_47 =>
            intro i f1 g1 H locs hP hS ls hl i47_0 i47_1 hm
            refine lv_iload SS.1 SS.2.1 dX11_dual_47 (lv_at hl 5 rfl) ?_
            refine lv_aload_n SS.1 SS.2.1 dX11_dual_49 rfl (lv_at hl 3 rfl) ?_
            refine j_get SS hG hP (8 + 5 * i_2) (v := .ref (q (9 + 5 * i_2))) (C := RX10) (T := TX10) (N := 3) (cw_shape (by omega)) rfl inX10 0 (by decide) (ref := "GridPolygons$Shape") kw_151 rfl rfl dX11_dual_50 ?_
            refine j_getS SS hG hP (9 + 5 * i_2) (v := .int (J (u.1.2.2.1 i_2))) (C := RX7) (T := TX7) (N := 3) (cw_ring (by omega)) rfl inX7 2 (by decide) (ref := "GridPolygons$Ring") kw_135 kw_132 rfl dX11_dual_53 ?_
            refine j_icmp_ge SS (tgt := 90) (x := i) (y := (u.1.2.2.1 i_2)) dX11_dual_56 (by decide) (by omega) (by omega) (fun c_56 => ?_) (fun c_56 => ?_)
            · skip
              refine lv_aload_n SS.1 SS.2.1 dX11_dual_90 rfl (lv_at hl 0 rfl) ?_
              refine j_get SS hG hP 0 (v := .ref (q 2)) (C := RX11) (T := TX11) (N := 8) rfl rfl inX11 1 (by decide) (ref := "GridPolygons") kw_386 rfl rfl dX11_dual_91 ?_
              refine j_vWv SS (As := []) (rest := []) (c_X3_close l D q (sI (sI u 0 f1) 1 g1) A (cW_D hD)   (show RB 80 (sI (sI u 0 f1) 1 g1) 8 from (p0.2.1.1)) (show HU_ (f1) (g1) from (i47_1))) mf_X3_close kw_425 hG hP hP (ci := 3) (q0 := 2) rfl rfl rfl hS (fun _ h => h) rfl hl.1 ⟨⟨Nat.le_of_ble_eq_true rfl, Nat.le_of_ble_eq_true rfl⟩, Nat.le_of_ble_eq_true rfl, Nat.le_refl _, Nat.le_refl _⟩ rfl dX11_dual_94 (fun u94 H locs h_94 hP _ hS => ?_)
              obtain ⟨f_94, g_94, n_94, rfl, h_94⟩ := h_94
              have hP : va_P D.1 j_cl (cW D q (sY (sX (sI (sI (sC u 8 n_94) 0 f1) 1 g1) 8 f_94) 8 g_94)) H := hP
              have h_94 : (0 ≤ n_94 ∧ n_94 ≤ 323) ∧ RV 80 f_94 g_94 ∧ ((∀ k : Nat, k < 161 → g1 k < f1 k) → n_94 = 0) := h_94
              refine lv_aload_n SS.1 SS.2.1 dX11_dual_97 rfl (lv_at hl 0 rfl) ?_
              refine lv_aload SS.1 SS.2.1 dX11_dual_98 (lv_at hl 4 rfl) ?_
              refine j_vWi SS (As := [.ref (q (8 + 5 * i_8))]) (rest := []) (c_X11_remakeIfFits l D q (sY (sX (sI (sI (sC u 8 n_94) 0 f1) 1 g1) 8 f_94) 8 g_94) A (cW_D hD) i_8 (by omega)  (show CI (sY (sX (sI (sI (sC u 8 n_94) 0 f1) 1 g1) 8 f_94) 8 g_94) from (CI_8 (CI_h p0 i47_1) h_94.1 h_94.2.1))) mf_X11_remakeIfFits kw_493 hG hP hP (ci := 11) (q0 := 0) rfl rfl rfl hS (fun _ h => h) rfl hl.1 ⟨⟨Nat.le_of_ble_eq_true rfl, Nat.le_of_ble_eq_true rfl⟩, Nat.le_of_ble_eq_true rfl, Nat.le_refl _, Nat.le_refl _⟩ rfl dX11_dual_100 (fun z_100 u100 H locs h_100 hP _ hS => ?_)
              obtain ⟨n_100, f_100, g_100, hh_100, tt_100, st0_100, rfl, h_100⟩ := h_100
              have hP : va_P D.1 j_cl (cW D q (sY (sY (sX (sX (sV (sT (sI (sI (sH (sC (sC u 8 n_94) i_8 n_100) i_8 hh_100) 0 f1) 1 g1) i_8 tt_100) 0 st0_100) 8 f_94) i_8 f_100) 8 g_94) i_8 g_100)) H := hP
              have h_100 : CI (sY (sY (sX (sX (sV (sT (sI (sI (sH (sC (sC u 8 n_94) i_8 n_100) i_8 hh_100) 0 f1) 1 g1) i_8 tt_100) 0 st0_100) 8 f_94) i_8 f_100) 8 g_94) i_8 g_100) ∧ ((z_100 = -3 ∧ ¬ (n_94 ≤ 24 ∧ bd 40 (f_94) (g_94) (n_94)) ∧ n_100 = ((sY (sX (sI (sI (sC u 8 n_94) 0 f1) 1 g1) 8 f_94) 8 g_94).1.2.2.1 i_8) ∧ f_100 = ((sY (sX (sI (sI (sC u 8 n_94) 0 f1) 1 g1) 8 f_94) 8 g_94).1.1 i_8) ∧ g_100 = ((sY (sX (sI (sI (sC u 8 n_94) 0 f1) 1 g1) 8 f_94) 8 g_94).1.2.1 i_8)) ∨ (z_100 = n_94 ∧ n_94 ≤ 24 ∧ bd 40 (f_94) (g_94) (n_94) ∧ n_100 = n_94 ∧ ∀ j : Nat, (j : Int) < n_100 → f_100 j = f_94 j ∧ g_100 j = g_94 j)) := h_100
              exact W.iret SS.1 SS.2.1 hr (fun t0 ht hW => ⟨⟨_, (sY (sY (sX (sX (sV (sT (sI (sI (sH (sC (sC u 8 n_94) i_8 n_100) i_8 hh_100) 0 f1) 1 g1) i_8 tt_100) 0 st0_100) 8 f_94) i_8 f_100) 8 g_94) i_8 g_100), rfl, ⟨z_100, rfl, (h_100.1)⟩, by show va_P D.1 j_cl (cW D q (sY (sY (sX (sX (sV (sT (sI (sI (sH (sC (sC u 8 n_94) i_8 n_100) i_8 hh_100) 0 f1) 1 g1) i_8 tt_100) 0 st0_100) 8 f_94) i_8 f_100) 8 g_94) i_8 g_100)) t0.heap; rw [ht]; first | exact hP | (simp only [sC_id, sX_id, sY_id, sH_id, sT_id, sV_id]; exact hP)⟩, hS.F ht⟩) hS.2.2 dX11_dual_103 hlk
            · skip
              refine lv_aload_n SS.1 SS.2.1 dX11_dual_59 rfl (lv_at hl 0 rfl) ?_
              refine j_get SS hG hP 0 (v := .ref (q 2)) (C := RX11) (T := TX11) (N := 8) rfl rfl inX11 1 (by decide) (ref := "GridPolygons") kw_386 rfl rfl dX11_dual_60 ?_
              refine lv_aload_n SS.1 SS.2.1 dX11_dual_63 rfl (lv_at hl 3 rfl) ?_
              refine j_get SS hG hP (8 + 5 * i_2) (v := .ref (q (9 + 5 * i_2))) (C := RX10) (T := TX10) (N := 3) (cw_shape (by omega)) rfl inX10 0 (by decide) (ref := "GridPolygons$Shape") kw_151 rfl rfl dX11_dual_64 ?_
              refine lv_iload SS.1 SS.2.1 dX11_dual_67 (lv_at hl 5 rfl) ?_
              refine j_vRi SS (As := [.int (J i)]) (rest := [.ref (q 2)]) (c_X7_normalA l D q (sI (sI u 0 f1) 1 g1) i_2 (by omega) (80 : Int) i (show 0 ≤ (80 : Int) ∧ (80 : Int) ≤ 80 from (by omega)) (show RB (80 : Int) (sI (sI u 0 f1) 1 g1) i_2 from (show RB 80 u i_2 from CI_s p0 (by omega))) (show -1000 ≤ i ∧ i ≤ 1000 from (by omega))) mf_X7_normalA kw_800 hG hP hP (ci := 7) (q0 := (9 + 5 * i_2)) rfl (cw_ring (by omega)) rfl rfl hl.1 ⟨⟨Nat.le_of_ble_eq_true rfl, Nat.le_of_ble_eq_true rfl⟩, Nat.le_of_ble_eq_true rfl, Nat.le_refl _, Nat.le_refl _⟩ rfl dX11_dual_69 (fun z_69 h_69 => ?_)
              have h_69 : -160 ≤ z_69 ∧ z_69 ≤ 160 := h_69
              refine lv_aload_n SS.1 SS.2.1 dX11_dual_72 rfl (lv_at hl 3 rfl) ?_
              refine j_get SS hG hP (8 + 5 * i_2) (v := .ref (q (9 + 5 * i_2))) (C := RX10) (T := TX10) (N := 3) (cw_shape (by omega)) rfl inX10 0 (by decide) (ref := "GridPolygons$Shape") kw_151 rfl rfl dX11_dual_73 ?_
              refine lv_iload SS.1 SS.2.1 dX11_dual_76 (lv_at hl 5 rfl) ?_
              refine j_vRi SS (As := [.int (J i)]) (rest := [.int (J z_69), .ref (q 2)]) (c_X7_normalB l D q (sI (sI u 0 f1) 1 g1) i_2 (by omega) (80 : Int) i (show 0 ≤ (80 : Int) ∧ (80 : Int) ≤ 80 from (by omega)) (show RB (80 : Int) (sI (sI u 0 f1) 1 g1) i_2 from (show RB 80 u i_2 from CI_s p0 (by omega))) (show -1000 ≤ i ∧ i ≤ 1000 from (by omega))) mf_X7_normalB kw_804 hG hP hP (ci := 7) (q0 := (9 + 5 * i_2)) rfl (cw_ring (by omega)) rfl rfl hl.1 ⟨⟨Nat.le_of_ble_eq_true rfl, Nat.le_of_ble_eq_true rfl⟩, Nat.le_of_ble_eq_true rfl, Nat.le_refl _, Nat.le_refl _⟩ rfl dX11_dual_78 (fun z_78 h_78 => ?_)
              have h_78 : -160 ≤ z_78 ∧ z_78 ≤ 160 := h_78
              refine j_vWv SS (As := [.int (J z_69), .int (J z_78)]) (rest := []) (c_X3_take l D q (sI (sI u 0 f1) 1 g1) A (cW_D hD)  z_69 z_78 (show HU_ (f1) (g1) from (i47_1)) (show -1000 ≤ z_69 ∧ z_69 ≤ 1000 from (by omega)) (show -2147483648 ≤ z_78 ∧ z_78 ≤ 2147483647 from (by omega))) mf_X3_take kw_492 hG hP hP (ci := 3) (q0 := 2) rfl rfl rfl hS (fun _ h => h) rfl hl.1 ⟨⟨Nat.le_of_ble_eq_true rfl, Nat.le_of_ble_eq_true rfl⟩, Nat.le_of_ble_eq_true rfl, Nat.le_refl _, Nat.le_refl _⟩ rfl dX11_dual_81 (fun u81 H locs h_81 hP _ hS => ?_)
              obtain ⟨f_81, g_81, rfl, h_81⟩ := h_81
              have hP : va_P D.1 j_cl (cW D q (sI (sI u 0 f_81) 1 g_81)) H := hP
              have h_81 : ((-80 ≤ z_69 ∧ z_69 ≤ 80 ∧ -80 ≤ z_78 ∧ z_78 ≤ 80) ∧ f_81 = upI (f1) (z_69 + 80).toNat (min (f1 (z_69 + 80).toNat) z_78) ∧ g_81 = upI (g1) (z_69 + 80).toNat (max (g1 (z_69 + 80).toNat) z_78) ∨ ¬ (-80 ≤ z_69 ∧ z_69 ≤ 80 ∧ -80 ≤ z_78 ∧ z_78 ≤ 80) ∧ f_81 = f1 ∧ g_81 = g1) ∧ HU_ f_81 g_81 := h_81
              refine lv_iinc (v := J (i + 1)) (lv' := [(5, .int (J (i + 1))), (0, .ref (q 0)), (1, .int (J s)), (2, .int (J to)), (3, .ref (q (8 + 5 * i_2))), (4, .ref (q (8 + 5 * i_8)))]) SS.1 SS.2.1 dX11_dual_84 hl (k := 5) rfl (J_add _ _) (by decide) rfl (fun ls hl => ?_)
              refine lv_goto (tgt := 47) SS.1 SS.2.1 dX11_dual_87 (by decide) ?_
              exact ih_47 (i + 1) f_81 g_81 _ _ hP hS ls (lv_sub hl [1, 2, 3, 4, 5, 0] rfl) (by omega) (h_81.2) (by omega)
        exact L_47 ((u.1.2.2.1 i_2 - (0 : Int)).toNat + 1) 0 f_41 g_41 _ _ hP hS ls (lv_sub hl [3, 4, 5, 2, 1, 0] rfl) (by omega) (h_41.2.2) (Nat.lt_succ_self _)
      · skip
        refine j_bipush SS dX11_dual_34 (by decide +kernel) ?_
        exact W.iret SS.1 SS.2.1 hr (fun t0 ht hW => ⟨⟨_, u, rfl, ⟨(-2), rfl, (p0)⟩, by show va_P D.1 j_cl (cW D q u) t0.heap; rw [ht]; first | exact hP | (simp only [sC_id, sX_id, sY_id, sH_id, sT_id, sV_id]; exact hP)⟩, hS.F ht⟩) hS.2.2 dX11_dual_36 hlk
    · skip
      refine lv_astoreN (lv' := [(4, .null), (3, .ref (q (8 + 5 * i_2))), (0, .ref (q 0)), (1, .int (J s)), (2, .int (J to))]) SS.1 SS.2.1 dX11_dual_11 hl (by decide) rfl (fun ls hl => ?_)
      refine lv_aload_n SS.1 SS.2.1 dX11_dual_13 rfl (lv_at hl 1 rfl) ?_
      refine lv_ifnull SS.1 SS.2.1 dX11_dual_14 ?_
      refine lv_aloadN SS.1 SS.2.1 dX11_dual_17 (lv_at hl 0 rfl) ?_
      refine lv_ifnonnullN SS.1 SS.2.1 dX11_dual_19 ?_
      refine j_iconst SS dX11_dual_22 ?_
      exact W.iret SS.1 SS.2.1 hr (fun t0 ht hW => ⟨⟨_, u, rfl, ⟨(-1), rfl, (p0)⟩, by show va_P D.1 j_cl (cW D q u) t0.heap; rw [ht]; first | exact hP | (simp only [sC_id, sX_id, sY_id, sH_id, sT_id, sV_id]; exact hP)⟩, hS.F ht⟩) hS.2.2 dX11_dual_23 hlk
  · skip
    refine lv_astore_nN (lv' := [(3, .null), (0, .ref (q 0)), (1, .int (J s)), (2, .int (J to))]) SS.1 SS.2.1 dX11_dual_5 rfl hl (by decide) rfl (fun ls hl => ?_)
    refine lv_aload_n SS.1 SS.2.1 dX11_dual_6 rfl (lv_at hl 1 rfl) ?_
    refine lv_iload_n SS.1 SS.2.1 dX11_dual_7 rfl (lv_at hl 3 rfl) ?_
    refine j_vSh SS (As := [.int (J to)]) (rest := []) (c_X11_shapeAt l D q u  to (show -2147483648 ≤ to ∧ to ≤ 2147483647 from (p2))) mf_X11_shapeAt kw_414 hG hP hP (ci := 11) (q0 := 0) rfl rfl rfl rfl hl.1 ⟨⟨Nat.le_of_ble_eq_true rfl, Nat.le_of_ble_eq_true rfl⟩, Nat.le_of_ble_eq_true rfl, Nat.le_refl _, Nat.le_refl _⟩ rfl dX11_dual_8 (fun i_8 hi_8 hz_8 => ?_) (fun hn_8 => ?_)
    · skip
      refine lv_astore (lv' := [(4, .ref (q (8 + 5 * i_8))), (3, .null), (0, .ref (q 0)), (1, .int (J s)), (2, .int (J to))]) SS.1 SS.2.1 dX11_dual_11 hl (by decide) rfl (fun ls hl => ?_)
      refine lv_aload_nN SS.1 SS.2.1 dX11_dual_13 rfl (lv_at hl 1 rfl) ?_
      refine lv_ifnullN SS.1 SS.2.1 (tgt := 22) dX11_dual_14 (by decide) ?_
      refine j_iconst SS dX11_dual_22 ?_
      exact W.iret SS.1 SS.2.1 hr (fun t0 ht hW => ⟨⟨_, u, rfl, ⟨(-1), rfl, (p0)⟩, by show va_P D.1 j_cl (cW D q u) t0.heap; rw [ht]; first | exact hP | (simp only [sC_id, sX_id, sY_id, sH_id, sT_id, sV_id]; exact hP)⟩, hS.F ht⟩) hS.2.2 dX11_dual_23 hlk
    · skip
      refine lv_astoreN (lv' := [(4, .null), (3, .null), (0, .ref (q 0)), (1, .int (J s)), (2, .int (J to))]) SS.1 SS.2.1 dX11_dual_11 hl (by decide) rfl (fun ls hl => ?_)
      refine lv_aload_nN SS.1 SS.2.1 dX11_dual_13 rfl (lv_at hl 1 rfl) ?_
      refine lv_ifnullN SS.1 SS.2.1 (tgt := 22) dX11_dual_14 (by decide) ?_
      refine j_iconst SS dX11_dual_22 ?_
      exact W.iret SS.1 SS.2.1 hr (fun t0 ht hW => ⟨⟨_, u, rfl, ⟨(-1), rfl, (p0)⟩, by show va_P D.1 j_cl (cW D q u) t0.heap; rw [ht]; first | exact hP | (simp only [sC_id, sX_id, sY_id, sH_id, sT_id, sV_id]; exact hP)⟩, hS.F ht⟩) hS.2.2 dX11_dual_23 hlk


theorem CI_sl {u : CS} {a b c d e f : Int} (h : CI u) : CI (sV (sV (sV (sV (sV (sV u 4 a) 5 b) 6 c) 7 d) 8 e) 9 f) := h

set_option maxHeartbeats 4000000 in
set_option maxRecDepth 100000 in
theorem c_X11_between (l : Launch) (D : JD) (q : Nat → Nat) (u : CS) (A : Nat → Prop) (hD : va_D A (cW D q u)) (a : Int) (b : Int) (c : Int) (d : Int) (p0 : CI u) (p1 : -2147483648 ≤ a ∧ a ≤ 2147483647) (p2 : -2147483648 ≤ b ∧ b ≤ 2147483647) (p3 : -2147483648 ≤ c ∧ c ≤ 2147483647) (p4 : -2147483648 ≤ d ∧ d ≤ 2147483647) : Met l yX11_between (jw yX11_between cX11_between 5 (some .int)) (jr 3 89) (jP [.ref (q 0), .int (J a), .int (J b), .int (J c), .int (J d)] D (fun H => va_P D.1 j_cl (cW D q u) H)) (jWi (fun z u' => btw_ a b c d z ∧ CI u') (fun u' H => va_P D.1 j_cl (cW D q u') H) A) 0 0 A := by
  refine Met.ofW (cc := cX11_between) (maxL := 5) (ret := (some .int)) (by decide) rfl ?_
  intro pr en st mi args below meth co s₁ B hml hv
  obtain ⟨rfl, hG, hP⟩ := hv
  have hr := B.returns
  have hlk := B.notSynchronized
  have SS : jS pr mi co cX11_between 5 st _ RX11 := ⟨B.exec, B.bytes, hml, findClass_of_methodNamed B.named, fun w hw => atoms_spec (ws := (jw yX11_between cX11_between 5 (some .int))) B.pre w (List.mem_cons_of_mem _ hw)⟩
  have hl := lv_entry ([.ref (q 0), .int (J a), .int (J b), .int (J c), .int (J d)]) (n := 5) (Nat.le_of_ble_eq_true rfl)
  rw [lg_entry_eq]
  generalize (lg_sl ([.ref (q 0), .int (J a), .int (J b), .int (J c), .int (J d)]) ++ List.replicate (5 - (lg_sl ([.ref (q 0), .int (J a), .int (J b), .int (J c), .int (J d)])).length) Slot.unset).toArray = ls at hl ⊢
  have hl : lv_has ls 5 [(0, .ref (q 0)), (1, .int (J a)), (2, .int (J b)), (3, .int (J c)), (4, .int (J d))] := hl
  have hS : va_S A st.heap st.heap [] := va_S.rf
  refine lv_iload_n SS.1 SS.2.1 dX11_between_0 rfl (lv_at hl 1 rfl) ?_
  refine j_sRi SS (As := [.int (J a)]) (rest := []) (c_X11_onGrid l D  a (show -2147483648 ≤ a ∧ a ≤ 2147483647 from (p1))) mf_X11_onGrid kw_475 hG trivial rfl hl.1 ⟨⟨Nat.le_of_ble_eq_true rfl, Nat.le_of_ble_eq_true rfl⟩, Nat.le_of_ble_eq_true rfl, Nat.le_refl _, Nat.le_refl _⟩ rfl dX11_between_1 (fun z_1 h_1 => ?_)
  have h_1 : (z_1 = 1 ∧ (-40 ≤ a ∧ a ≤ 40)) ∨ (z_1 = 0 ∧ ¬ (-40 ≤ a ∧ a ≤ 40)) := h_1
  refine j_if_eq SS (tgt := 29) (x := z_1) dX11_between_4 (by decide) (by omega) (fun c_4 => ?_) (fun c_4 => ?_)
  · skip
    refine j_iconst SS dX11_between_29 ?_
    exact W.iret SS.1 SS.2.1 hr (fun t0 ht hW => ⟨⟨_, u, rfl, ⟨(-1), rfl, (⟨Or.inl ⟨fun h => by unfold pl4 at h; omega, rfl⟩, p0⟩)⟩, by show va_P D.1 j_cl (cW D q u) t0.heap; rw [ht]; first | exact hP | (simp only [sC_id, sX_id, sY_id, sH_id, sT_id, sV_id]; exact hP)⟩, hS.F ht⟩) hS.2.2 dX11_between_30 hlk
  · skip
    refine lv_iload_n SS.1 SS.2.1 dX11_between_7 rfl (lv_at hl 2 rfl) ?_
    refine j_sRi SS (As := [.int (J b)]) (rest := []) (c_X11_onGrid l D  b (show -2147483648 ≤ b ∧ b ≤ 2147483647 from (p2))) mf_X11_onGrid kw_475 hG trivial rfl hl.1 ⟨⟨Nat.le_of_ble_eq_true rfl, Nat.le_of_ble_eq_true rfl⟩, Nat.le_of_ble_eq_true rfl, Nat.le_refl _, Nat.le_refl _⟩ rfl dX11_between_8 (fun z_8 h_8 => ?_)
    have h_8 : (z_8 = 1 ∧ (-40 ≤ b ∧ b ≤ 40)) ∨ (z_8 = 0 ∧ ¬ (-40 ≤ b ∧ b ≤ 40)) := h_8
    refine j_if_eq SS (tgt := 29) (x := z_8) dX11_between_11 (by decide) (by omega) (fun c_11 => ?_) (fun c_11 => ?_)
    · skip
      refine j_iconst SS dX11_between_29 ?_
      exact W.iret SS.1 SS.2.1 hr (fun t0 ht hW => ⟨⟨_, u, rfl, ⟨(-1), rfl, (⟨Or.inl ⟨fun h => by unfold pl4 at h; omega, rfl⟩, p0⟩)⟩, by show va_P D.1 j_cl (cW D q u) t0.heap; rw [ht]; first | exact hP | (simp only [sC_id, sX_id, sY_id, sH_id, sT_id, sV_id]; exact hP)⟩, hS.F ht⟩) hS.2.2 dX11_between_30 hlk
    · skip
      refine lv_iload_n SS.1 SS.2.1 dX11_between_14 rfl (lv_at hl 3 rfl) ?_
      refine j_sRi SS (As := [.int (J c)]) (rest := []) (c_X11_onGrid l D  c (show -2147483648 ≤ c ∧ c ≤ 2147483647 from (p3))) mf_X11_onGrid kw_475 hG trivial rfl hl.1 ⟨⟨Nat.le_of_ble_eq_true rfl, Nat.le_of_ble_eq_true rfl⟩, Nat.le_of_ble_eq_true rfl, Nat.le_refl _, Nat.le_refl _⟩ rfl dX11_between_15 (fun z_15 h_15 => ?_)
      have h_15 : (z_15 = 1 ∧ (-40 ≤ c ∧ c ≤ 40)) ∨ (z_15 = 0 ∧ ¬ (-40 ≤ c ∧ c ≤ 40)) := h_15
      refine j_if_eq SS (tgt := 29) (x := z_15) dX11_between_18 (by decide) (by omega) (fun c_18 => ?_) (fun c_18 => ?_)
      · skip
        refine j_iconst SS dX11_between_29 ?_
        exact W.iret SS.1 SS.2.1 hr (fun t0 ht hW => ⟨⟨_, u, rfl, ⟨(-1), rfl, (⟨Or.inl ⟨fun h => by unfold pl4 at h; omega, rfl⟩, p0⟩)⟩, by show va_P D.1 j_cl (cW D q u) t0.heap; rw [ht]; first | exact hP | (simp only [sC_id, sX_id, sY_id, sH_id, sT_id, sV_id]; exact hP)⟩, hS.F ht⟩) hS.2.2 dX11_between_30 hlk
      · skip
        refine lv_iload SS.1 SS.2.1 dX11_between_21 (lv_at hl 4 rfl) ?_
        refine j_sRi SS (As := [.int (J d)]) (rest := []) (c_X11_onGrid l D  d (show -2147483648 ≤ d ∧ d ≤ 2147483647 from (p4))) mf_X11_onGrid kw_475 hG trivial rfl hl.1 ⟨⟨Nat.le_of_ble_eq_true rfl, Nat.le_of_ble_eq_true rfl⟩, Nat.le_of_ble_eq_true rfl, Nat.le_refl _, Nat.le_refl _⟩ rfl dX11_between_23 (fun z_23 h_23 => ?_)
        have h_23 : (z_23 = 1 ∧ (-40 ≤ d ∧ d ≤ 40)) ∨ (z_23 = 0 ∧ ¬ (-40 ≤ d ∧ d ≤ 40)) := h_23
        refine j_if_ne SS (tgt := 31) (x := z_23) dX11_between_26 (by decide) (by omega) (fun c_26 => ?_) (fun c_26 => ?_)
        · skip
          refine lv_iload_n SS.1 SS.2.1 dX11_between_31 rfl (lv_at hl 1 rfl) ?_
          refine lv_iload_n SS.1 SS.2.1 dX11_between_32 rfl (lv_at hl 2 rfl) ?_
          refine lv_iload_n SS.1 SS.2.1 dX11_between_33 rfl (lv_at hl 3 rfl) ?_
          refine lv_iload SS.1 SS.2.1 dX11_between_34 (lv_at hl 4 rfl) ?_
          refine j_sRi SS (As := [.int (J a), .int (J b), .int (J c), .int (J d)]) (rest := []) (c_X11_isAngle l D  a b c d (show -40 ≤ a ∧ a ≤ 40 from (by omega)) (show -40 ≤ b ∧ b ≤ 40 from (by omega)) (show -40 ≤ c ∧ c ≤ 40 from (by omega)) (show -40 ≤ d ∧ d ≤ 40 from (by omega))) mf_X11_isAngle kw_832 hG trivial rfl hl.1 ⟨⟨Nat.le_of_ble_eq_true rfl, Nat.le_of_ble_eq_true rfl⟩, Nat.le_of_ble_eq_true rfl, Nat.le_refl _, Nat.le_refl _⟩ rfl dX11_between_36 (fun z_36 h_36 => ?_)
          have h_36 : (z_36 = 1 ∧ 0 < cx a b c d) ∨ (z_36 = 0 ∧ cx a b c d ≤ 0) := h_36
          refine j_if_ne SS (tgt := 45) (x := z_36) dX11_between_39 (by decide) (by omega) (fun c_39 => ?_) (fun c_39 => ?_)
          · skip
            refine lv_aload_n SS.1 SS.2.1 dX11_between_45 rfl (lv_at hl 0 rfl) ?_
            refine j_get SS hG hP 0 (v := .ref (q 4)) (C := RX11) (T := TX11) (N := 8) rfl rfl inX11 3 (by decide) (ref := "GridPolygons") kw_388 rfl rfl dX11_between_46 ?_
            refine lv_iload_n SS.1 SS.2.1 dX11_between_49 rfl (lv_at hl 1 rfl) ?_
            refine lv_iload_n SS.1 SS.2.1 dX11_between_50 rfl (lv_at hl 2 rfl) ?_
            refine lv_iload_n SS.1 SS.2.1 dX11_between_51 rfl (lv_at hl 3 rfl) ?_
            refine lv_iload SS.1 SS.2.1 dX11_between_52 (lv_at hl 4 rfl) ?_
            refine j_iconst SS dX11_between_54 ?_
            refine j_vWv SS (As := [.int (J a), .int (J b), .int (J c), .int (J d), .int (J 0)]) (rest := []) (c_X9_walk l D q u A (cW_D hD)  a b c d 0 (show -40 ≤ a ∧ a ≤ 40 from (by omega)) (show -40 ≤ b ∧ b ≤ 40 from (by omega)) (show -40 ≤ c ∧ c ≤ 40 from (by omega)) (show -40 ≤ d ∧ d ≤ 40 from (by omega)) (show 0 < cx a b c d from (by omega)) (show -2147483648 ≤ (0 : Int) ∧ (0 : Int) ≤ 2147483647 from (by omega))) mf_X9_walk kw_835 hG hP hP (ci := 9) (q0 := 4) rfl rfl rfl hS (fun _ h => h) rfl hl.1 ⟨⟨Nat.le_of_ble_eq_true rfl, Nat.le_of_ble_eq_true rfl⟩, Nat.le_of_ble_eq_true rfl, Nat.le_refl _, Nat.le_refl _⟩ rfl dX11_between_55 (fun u55 H locs h_55 hP _ hS => ?_)
            obtain ⟨cn_55, x1_55, y1_55, b1_55, sx_55, sy_55, rfl, h_55⟩ := h_55
            have hP : va_P D.1 j_cl (cW D q (sV (sV (sV (sV (sV (sV u 4 cn_55) 5 x1_55) 6 y1_55) 7 b1_55) 8 sx_55) 9 sy_55)) H := hP
            have h_55 : wk a b c d (0 : Int) cn_55 x1_55 y1_55 b1_55 := h_55
            refine lv_aload_n SS.1 SS.2.1 dX11_between_58 rfl (lv_at hl 0 rfl) ?_
            refine j_get SS hG hP 0 (v := .ref (q 4)) (C := RX11) (T := TX11) (N := 8) rfl rfl inX11 3 (by decide) (ref := "GridPolygons") kw_388 rfl rfl dX11_between_59 ?_
            refine j_get SS hG hP 4 (v := .int (J cn_55)) (C := RX9) (T := TX9) (N := 6) rfl rfl inX9 0 (by decide) (ref := "GridPolygons$Sail") kw_214 rfl rfl dX11_between_62 ?_
            obtain ⟨cn62, ecn62⟩ : ∃ z : Int, z = cn_55 := ⟨_, rfl⟩
            rw [← ecn62]
            exact W.iret SS.1 SS.2.1 hr (fun t0 ht hW => ⟨⟨_, (sV (sV (sV (sV (sV (sV u 4 cn_55) 5 x1_55) 6 y1_55) 7 b1_55) 8 sx_55) 9 sy_55), rfl, ⟨cn62, rfl, (by obtain ⟨X, Y, hy, _⟩ := h_55; exact ⟨Or.inr (Or.inr ⟨by unfold pl4; omega, by omega, X, Y, by rw [ecn62]; exact hy⟩), CI_sl p0⟩)⟩, by show va_P D.1 j_cl (cW D q (sV (sV (sV (sV (sV (sV u 4 cn_55) 5 x1_55) 6 y1_55) 7 b1_55) 8 sx_55) 9 sy_55)) t0.heap; rw [ht]; first | exact hP | (simp only [sC_id, sX_id, sY_id, sH_id, sT_id, sV_id]; exact hP)⟩, hS.F ht⟩) hS.2.2 dX11_between_65 hlk
          · skip
            refine j_bipush SS dX11_between_42 (by decide +kernel) ?_
            exact W.iret SS.1 SS.2.1 hr (fun t0 ht hW => ⟨⟨_, u, rfl, ⟨(-2), rfl, (⟨Or.inr (Or.inl ⟨by unfold pl4; omega, by omega, rfl⟩), p0⟩)⟩, by show va_P D.1 j_cl (cW D q u) t0.heap; rw [ht]; first | exact hP | (simp only [sC_id, sX_id, sY_id, sH_id, sT_id, sV_id]; exact hP)⟩, hS.F ht⟩) hS.2.2 dX11_between_44 hlk
        · skip
          refine j_iconst SS dX11_between_29 ?_
          exact W.iret SS.1 SS.2.1 hr (fun t0 ht hW => ⟨⟨_, u, rfl, ⟨(-1), rfl, (⟨Or.inl ⟨fun h => by unfold pl4 at h; omega, rfl⟩, p0⟩)⟩, by show va_P D.1 j_cl (cW D q u) t0.heap; rw [ht]; first | exact hP | (simp only [sC_id, sX_id, sY_id, sH_id, sT_id, sV_id]; exact hP)⟩, hS.F ht⟩) hS.2.2 dX11_between_30 hlk

set_option maxHeartbeats 4000000 in
set_option maxRecDepth 100000 in
theorem c_X11_ray (l : Launch) (D : JD) (q : Nat → Nat) (u : CS) (A : Nat → Prop) (hD : va_D A (cW D q u)) (a : Int) (b : Int) (c : Int) (d : Int) (i : Int) (what : Int) (p0 : CI u) (p1 : -2147483648 ≤ a ∧ a ≤ 2147483647) (p2 : -2147483648 ≤ b ∧ b ≤ 2147483647) (p3 : -2147483648 ≤ c ∧ c ≤ 2147483647) (p4 : -2147483648 ≤ d ∧ d ≤ 2147483647) (p5 : -2147483648 ≤ i ∧ i ≤ 2147483647) (p6 : -2147483648 ≤ what ∧ what ≤ 2147483647) : Met l yX11_ray (jw yX11_ray cX11_ray 7 (some .int)) (jr 3 89) (jP [.ref (q 0), .int (J a), .int (J b), .int (J c), .int (J d), .int (J i), .int (J what)] D (fun H => va_P D.1 j_cl (cW D q u) H)) (jWi (fun z u' => ray_ a b c d i what z ∧ CI u') (fun u' H => va_P D.1 j_cl (cW D q u') H) A) 0 0 A := by
  refine Met.ofW (cc := cX11_ray) (maxL := 7) (ret := (some .int)) (by decide) rfl ?_
  intro pr en st mi args below meth co s₁ B hml hv
  obtain ⟨rfl, hG, hP⟩ := hv
  have hr := B.returns
  have hlk := B.notSynchronized
  have SS : jS pr mi co cX11_ray 7 st _ RX11 := ⟨B.exec, B.bytes, hml, findClass_of_methodNamed B.named, fun w hw => atoms_spec (ws := (jw yX11_ray cX11_ray 7 (some .int))) B.pre w (List.mem_cons_of_mem _ hw)⟩
  have hl := lv_entry ([.ref (q 0), .int (J a), .int (J b), .int (J c), .int (J d), .int (J i), .int (J what)]) (n := 7) (Nat.le_of_ble_eq_true rfl)
  rw [lg_entry_eq]
  generalize (lg_sl ([.ref (q 0), .int (J a), .int (J b), .int (J c), .int (J d), .int (J i), .int (J what)]) ++ List.replicate (7 - (lg_sl ([.ref (q 0), .int (J a), .int (J b), .int (J c), .int (J d), .int (J i), .int (J what)])).length) Slot.unset).toArray = ls at hl ⊢
  have hl : lv_has ls 7 [(0, .ref (q 0)), (1, .int (J a)), (2, .int (J b)), (3, .int (J c)), (4, .int (J d)), (5, .int (J i)), (6, .int (J what))] := hl
  have hS : va_S A st.heap st.heap [] := va_S.rf
  refine lv_iload_n SS.1 SS.2.1 dX11_ray_0 rfl (lv_at hl 1 rfl) ?_
  refine j_sRi SS (As := [.int (J a)]) (rest := []) (c_X11_onGrid l D  a (show -2147483648 ≤ a ∧ a ≤ 2147483647 from (p1))) mf_X11_onGrid kw_475 hG trivial rfl hl.1 ⟨⟨Nat.le_of_ble_eq_true rfl, Nat.le_of_ble_eq_true rfl⟩, Nat.le_of_ble_eq_true rfl, Nat.le_refl _, Nat.le_refl _⟩ rfl dX11_ray_1 (fun z_1 h_1 => ?_)
  have h_1 : (z_1 = 1 ∧ (-40 ≤ a ∧ a ≤ 40)) ∨ (z_1 = 0 ∧ ¬ (-40 ≤ a ∧ a ≤ 40)) := h_1
  refine j_if_eq SS (tgt := 45) (x := z_1) dX11_ray_4 (by decide) (by omega) (fun c_4 => ?_) (fun c_4 => ?_)
  · skip
    refine j_ldc SS (-1000000) kw_512 dX11_ray_45 ?_
    exact W.iret SS.1 SS.2.1 hr (fun t0 ht hW => ⟨⟨_, u, rfl, ⟨(-1000000), rfl, (⟨Or.inl ⟨fun h => by unfold pl4 at h; omega, rfl⟩, p0⟩)⟩, by show va_P D.1 j_cl (cW D q u) t0.heap; rw [ht]; first | exact hP | (simp only [sC_id, sX_id, sY_id, sH_id, sT_id, sV_id]; exact hP)⟩, hS.F ht⟩) hS.2.2 dX11_ray_47 hlk
  · skip
    refine lv_iload_n SS.1 SS.2.1 dX11_ray_7 rfl (lv_at hl 2 rfl) ?_
    refine j_sRi SS (As := [.int (J b)]) (rest := []) (c_X11_onGrid l D  b (show -2147483648 ≤ b ∧ b ≤ 2147483647 from (p2))) mf_X11_onGrid kw_475 hG trivial rfl hl.1 ⟨⟨Nat.le_of_ble_eq_true rfl, Nat.le_of_ble_eq_true rfl⟩, Nat.le_of_ble_eq_true rfl, Nat.le_refl _, Nat.le_refl _⟩ rfl dX11_ray_8 (fun z_8 h_8 => ?_)
    have h_8 : (z_8 = 1 ∧ (-40 ≤ b ∧ b ≤ 40)) ∨ (z_8 = 0 ∧ ¬ (-40 ≤ b ∧ b ≤ 40)) := h_8
    refine j_if_eq SS (tgt := 45) (x := z_8) dX11_ray_11 (by decide) (by omega) (fun c_11 => ?_) (fun c_11 => ?_)
    · skip
      refine j_ldc SS (-1000000) kw_512 dX11_ray_45 ?_
      exact W.iret SS.1 SS.2.1 hr (fun t0 ht hW => ⟨⟨_, u, rfl, ⟨(-1000000), rfl, (⟨Or.inl ⟨fun h => by unfold pl4 at h; omega, rfl⟩, p0⟩)⟩, by show va_P D.1 j_cl (cW D q u) t0.heap; rw [ht]; first | exact hP | (simp only [sC_id, sX_id, sY_id, sH_id, sT_id, sV_id]; exact hP)⟩, hS.F ht⟩) hS.2.2 dX11_ray_47 hlk
    · skip
      refine lv_iload_n SS.1 SS.2.1 dX11_ray_14 rfl (lv_at hl 3 rfl) ?_
      refine j_sRi SS (As := [.int (J c)]) (rest := []) (c_X11_onGrid l D  c (show -2147483648 ≤ c ∧ c ≤ 2147483647 from (p3))) mf_X11_onGrid kw_475 hG trivial rfl hl.1 ⟨⟨Nat.le_of_ble_eq_true rfl, Nat.le_of_ble_eq_true rfl⟩, Nat.le_of_ble_eq_true rfl, Nat.le_refl _, Nat.le_refl _⟩ rfl dX11_ray_15 (fun z_15 h_15 => ?_)
      have h_15 : (z_15 = 1 ∧ (-40 ≤ c ∧ c ≤ 40)) ∨ (z_15 = 0 ∧ ¬ (-40 ≤ c ∧ c ≤ 40)) := h_15
      refine j_if_eq SS (tgt := 45) (x := z_15) dX11_ray_18 (by decide) (by omega) (fun c_18 => ?_) (fun c_18 => ?_)
      · skip
        refine j_ldc SS (-1000000) kw_512 dX11_ray_45 ?_
        exact W.iret SS.1 SS.2.1 hr (fun t0 ht hW => ⟨⟨_, u, rfl, ⟨(-1000000), rfl, (⟨Or.inl ⟨fun h => by unfold pl4 at h; omega, rfl⟩, p0⟩)⟩, by show va_P D.1 j_cl (cW D q u) t0.heap; rw [ht]; first | exact hP | (simp only [sC_id, sX_id, sY_id, sH_id, sT_id, sV_id]; exact hP)⟩, hS.F ht⟩) hS.2.2 dX11_ray_47 hlk
      · skip
        refine lv_iload SS.1 SS.2.1 dX11_ray_21 (lv_at hl 4 rfl) ?_
        refine j_sRi SS (As := [.int (J d)]) (rest := []) (c_X11_onGrid l D  d (show -2147483648 ≤ d ∧ d ≤ 2147483647 from (p4))) mf_X11_onGrid kw_475 hG trivial rfl hl.1 ⟨⟨Nat.le_of_ble_eq_true rfl, Nat.le_of_ble_eq_true rfl⟩, Nat.le_of_ble_eq_true rfl, Nat.le_refl _, Nat.le_refl _⟩ rfl dX11_ray_23 (fun z_23 h_23 => ?_)
        have h_23 : (z_23 = 1 ∧ (-40 ≤ d ∧ d ≤ 40)) ∨ (z_23 = 0 ∧ ¬ (-40 ≤ d ∧ d ≤ 40)) := h_23
        refine j_if_eq SS (tgt := 45) (x := z_23) dX11_ray_26 (by decide) (by omega) (fun c_26 => ?_) (fun c_26 => ?_)
        · skip
          refine j_ldc SS (-1000000) kw_512 dX11_ray_45 ?_
          exact W.iret SS.1 SS.2.1 hr (fun t0 ht hW => ⟨⟨_, u, rfl, ⟨(-1000000), rfl, (⟨Or.inl ⟨fun h => by unfold pl4 at h; omega, rfl⟩, p0⟩)⟩, by show va_P D.1 j_cl (cW D q u) t0.heap; rw [ht]; first | exact hP | (simp only [sC_id, sX_id, sY_id, sH_id, sT_id, sV_id]; exact hP)⟩, hS.F ht⟩) hS.2.2 dX11_ray_47 hlk
        · skip
          refine lv_iload SS.1 SS.2.1 dX11_ray_29 (lv_at hl 5 rfl) ?_
          refine j_if_lt SS (tgt := 45) (x := i) dX11_ray_31 (by decide) (by omega) (fun c_31 => ?_) (fun c_31 => ?_)
          · skip
            refine j_ldc SS (-1000000) kw_512 dX11_ray_45 ?_
            exact W.iret SS.1 SS.2.1 hr (fun t0 ht hW => ⟨⟨_, u, rfl, ⟨(-1000000), rfl, (⟨Or.inl ⟨fun h => by unfold pl4 at h; omega, rfl⟩, p0⟩)⟩, by show va_P D.1 j_cl (cW D q u) t0.heap; rw [ht]; first | exact hP | (simp only [sC_id, sX_id, sY_id, sH_id, sT_id, sV_id]; exact hP)⟩, hS.F ht⟩) hS.2.2 dX11_ray_47 hlk
          · skip
            refine lv_iload SS.1 SS.2.1 dX11_ray_34 (lv_at hl 6 rfl) ?_
            refine j_if_lt SS (tgt := 45) (x := what) dX11_ray_36 (by decide) (by omega) (fun c_36 => ?_) (fun c_36 => ?_)
            · skip
              refine j_ldc SS (-1000000) kw_512 dX11_ray_45 ?_
              exact W.iret SS.1 SS.2.1 hr (fun t0 ht hW => ⟨⟨_, u, rfl, ⟨(-1000000), rfl, (⟨Or.inl ⟨fun h => by unfold pl4 at h; omega, rfl⟩, p0⟩)⟩, by show va_P D.1 j_cl (cW D q u) t0.heap; rw [ht]; first | exact hP | (simp only [sC_id, sX_id, sY_id, sH_id, sT_id, sV_id]; exact hP)⟩, hS.F ht⟩) hS.2.2 dX11_ray_47 hlk
            · skip
              refine lv_iload SS.1 SS.2.1 dX11_ray_39 (lv_at hl 6 rfl) ?_
              refine j_iconst SS dX11_ray_41 ?_
              refine j_icmp_le SS (tgt := 48) (x := what) (y := 2) dX11_ray_42 (by decide) (by omega) (by decide) (fun c_42 => ?_) (fun c_42 => ?_)
              · skip
                refine lv_iload_n SS.1 SS.2.1 dX11_ray_48 rfl (lv_at hl 1 rfl) ?_
                refine lv_iload_n SS.1 SS.2.1 dX11_ray_49 rfl (lv_at hl 2 rfl) ?_
                refine lv_iload_n SS.1 SS.2.1 dX11_ray_50 rfl (lv_at hl 3 rfl) ?_
                refine lv_iload SS.1 SS.2.1 dX11_ray_51 (lv_at hl 4 rfl) ?_
                refine j_sRi SS (As := [.int (J a), .int (J b), .int (J c), .int (J d)]) (rest := []) (c_X11_isAngle l D  a b c d (show -40 ≤ a ∧ a ≤ 40 from (by omega)) (show -40 ≤ b ∧ b ≤ 40 from (by omega)) (show -40 ≤ c ∧ c ≤ 40 from (by omega)) (show -40 ≤ d ∧ d ≤ 40 from (by omega))) mf_X11_isAngle kw_832 hG trivial rfl hl.1 ⟨⟨Nat.le_of_ble_eq_true rfl, Nat.le_of_ble_eq_true rfl⟩, Nat.le_of_ble_eq_true rfl, Nat.le_refl _, Nat.le_refl _⟩ rfl dX11_ray_53 (fun z_53 h_53 => ?_)
                have h_53 : (z_53 = 1 ∧ 0 < cx a b c d) ∨ (z_53 = 0 ∧ cx a b c d ≤ 0) := h_53
                refine j_if_ne SS (tgt := 62) (x := z_53) dX11_ray_56 (by decide) (by omega) (fun c_56 => ?_) (fun c_56 => ?_)
                · skip
                  refine lv_aload_n SS.1 SS.2.1 dX11_ray_62 rfl (lv_at hl 0 rfl) ?_
                  refine j_get SS hG hP 0 (v := .ref (q 4)) (C := RX11) (T := TX11) (N := 8) rfl rfl inX11 3 (by decide) (ref := "GridPolygons") kw_388 rfl rfl dX11_ray_63 ?_
                  refine lv_iload_n SS.1 SS.2.1 dX11_ray_66 rfl (lv_at hl 1 rfl) ?_
                  refine lv_iload_n SS.1 SS.2.1 dX11_ray_67 rfl (lv_at hl 2 rfl) ?_
                  refine lv_iload_n SS.1 SS.2.1 dX11_ray_68 rfl (lv_at hl 3 rfl) ?_
                  refine lv_iload SS.1 SS.2.1 dX11_ray_69 (lv_at hl 4 rfl) ?_
                  refine lv_iload SS.1 SS.2.1 dX11_ray_71 (lv_at hl 5 rfl) ?_
                  refine j_vWv SS (As := [.int (J a), .int (J b), .int (J c), .int (J d), .int (J i)]) (rest := []) (c_X9_walk l D q u A (cW_D hD)  a b c d i (show -40 ≤ a ∧ a ≤ 40 from (by omega)) (show -40 ≤ b ∧ b ≤ 40 from (by omega)) (show -40 ≤ c ∧ c ≤ 40 from (by omega)) (show -40 ≤ d ∧ d ≤ 40 from (by omega)) (show 0 < cx a b c d from (by omega)) (show -2147483648 ≤ i ∧ i ≤ 2147483647 from (p5))) mf_X9_walk kw_835 hG hP hP (ci := 9) (q0 := 4) rfl rfl rfl hS (fun _ h => h) rfl hl.1 ⟨⟨Nat.le_of_ble_eq_true rfl, Nat.le_of_ble_eq_true rfl⟩, Nat.le_of_ble_eq_true rfl, Nat.le_refl _, Nat.le_refl _⟩ rfl dX11_ray_73 (fun u73 H locs h_73 hP _ hS => ?_)
                  obtain ⟨cn_73, x1_73, y1_73, b1_73, sx_73, sy_73, rfl, h_73⟩ := h_73
                  have hP : va_P D.1 j_cl (cW D q (sV (sV (sV (sV (sV (sV u 4 cn_73) 5 x1_73) 6 y1_73) 7 b1_73) 8 sx_73) 9 sy_73)) H := hP
                  have h_73 : wk a b c d i cn_73 x1_73 y1_73 b1_73 := h_73
                  refine lv_iload SS.1 SS.2.1 dX11_ray_76 (lv_at hl 5 rfl) ?_
                  refine lv_aload_n SS.1 SS.2.1 dX11_ray_78 rfl (lv_at hl 0 rfl) ?_
                  refine j_get SS hG hP 0 (v := .ref (q 4)) (C := RX11) (T := TX11) (N := 8) rfl rfl inX11 3 (by decide) (ref := "GridPolygons") kw_388 rfl rfl dX11_ray_79 ?_
                  refine j_get SS hG hP 4 (v := .int (J cn_73)) (C := RX9) (T := TX9) (N := 6) rfl rfl inX9 0 (by decide) (ref := "GridPolygons$Sail") kw_214 rfl rfl dX11_ray_82 ?_
                  obtain ⟨cn82, ecn82⟩ : ∃ z : Int, z = cn_73 := ⟨_, rfl⟩
                  rw [← ecn82]
                  obtain ⟨X, Y, hry, hk⟩ := h_73
                  rw [← ecn82] at hry hk
                  have hn := hry.1
                  have hp : pl4 a b c d := by unfold pl4; omega
                  have hc : 0 < cx a b c d := by omega
                  refine j_icmp_lt SS (tgt := 91) (x := i) (y := cn82) dX11_ray_85 (by decide) (by omega) (by omega) (fun c_85 => ?_) (fun c_85 => ?_)
                  · skip
                    refine lv_iload SS.1 SS.2.1 dX11_ray_91 (lv_at hl 6 rfl) ?_
                    refine j_if_ne SS (tgt := 104) (x := what) dX11_ray_93 (by decide) (by omega) (fun c_93 => ?_) (fun c_93 => ?_)
                    · skip
                      refine lv_iload SS.1 SS.2.1 dX11_ray_104 (lv_at hl 6 rfl) ?_
                      refine j_iconst SS dX11_ray_106 ?_
                      refine j_icmp_ne SS (tgt := 120) (x := what) (y := 1) dX11_ray_107 (by decide) (by omega) (by decide) (fun c_107 => ?_) (fun c_107 => ?_)
                      · skip
                        refine lv_aload_n SS.1 SS.2.1 dX11_ray_120 rfl (lv_at hl 0 rfl) ?_
                        refine j_get SS hG hP 0 (v := .ref (q 4)) (C := RX11) (T := TX11) (N := 8) rfl rfl inX11 3 (by decide) (ref := "GridPolygons") kw_388 rfl rfl dX11_ray_121 ?_
                        refine j_get SS hG hP 4 (v := .int (J b1_73)) (C := RX9) (T := TX9) (N := 6) rfl rfl inX9 3 (by decide) (ref := "GridPolygons$Sail") kw_220 rfl rfl dX11_ray_124 ?_
                        obtain ⟨b124, eb124⟩ : ∃ z : Int, z = b1_73 := ⟨_, rfl⟩
                        rw [← eb124]
                        have hk2 := hk (by omega) (by omega)
                        exact W.iret SS.1 SS.2.1 hr (fun t0 ht hW => ⟨⟨_, (sV (sV (sV (sV (sV (sV u 4 cn_73) 5 x1_73) 6 y1_73) 7 b1_73) 8 sx_73) 9 sy_73), rfl, ⟨b124, rfl, (by first | exact ⟨Or.inr ⟨hp, by omega, hc, by omega, X, Y, cn82, hry, Or.inr ⟨by omega, Or.inr (Or.inl ⟨by omega, by rw [ey114]; exact hk2.2.1⟩)⟩⟩, CI_sl p0⟩ | exact ⟨Or.inr ⟨hp, by omega, hc, by omega, X, Y, cn82, hry, Or.inr ⟨by omega, Or.inr (Or.inr ⟨by omega, by rw [eb124]; by_cases e : i = 0 ∨ i = cn82 - 1; exact Or.inl ⟨e, hk2.2.2.1 e⟩; exact Or.inr ⟨by omega, by omega, hk2.2.2.2 (by omega) (by omega)⟩⟩)⟩⟩, CI_sl p0⟩)⟩, by show va_P D.1 j_cl (cW D q (sV (sV (sV (sV (sV (sV u 4 cn_73) 5 x1_73) 6 y1_73) 7 b1_73) 8 sx_73) 9 sy_73)) t0.heap; rw [ht]; first | exact hP | (simp only [sC_id, sX_id, sY_id, sH_id, sT_id, sV_id]; exact hP)⟩, hS.F ht⟩) hS.2.2 dX11_ray_127 hlk
                      · skip
                        refine lv_aload_n SS.1 SS.2.1 dX11_ray_110 rfl (lv_at hl 0 rfl) ?_
                        refine j_get SS hG hP 0 (v := .ref (q 4)) (C := RX11) (T := TX11) (N := 8) rfl rfl inX11 3 (by decide) (ref := "GridPolygons") kw_388 rfl rfl dX11_ray_111 ?_
                        refine j_get SS hG hP 4 (v := .int (J y1_73)) (C := RX9) (T := TX9) (N := 6) rfl rfl inX9 2 (by decide) (ref := "GridPolygons$Sail") kw_218 rfl rfl dX11_ray_114 ?_
                        obtain ⟨y114, ey114⟩ : ∃ z : Int, z = y1_73 := ⟨_, rfl⟩
                        rw [← ey114]
                        have hk2 := hk (by omega) (by omega)
                        refine lv_goto (tgt := 127) SS.1 SS.2.1 dX11_ray_117 (by decide) ?_
                        exact W.iret SS.1 SS.2.1 hr (fun t0 ht hW => ⟨⟨_, (sV (sV (sV (sV (sV (sV u 4 cn_73) 5 x1_73) 6 y1_73) 7 b1_73) 8 sx_73) 9 sy_73), rfl, ⟨y114, rfl, (by first | exact ⟨Or.inr ⟨hp, by omega, hc, by omega, X, Y, cn82, hry, Or.inr ⟨by omega, Or.inr (Or.inl ⟨by omega, by rw [ey114]; exact hk2.2.1⟩)⟩⟩, CI_sl p0⟩ | exact ⟨Or.inr ⟨hp, by omega, hc, by omega, X, Y, cn82, hry, Or.inr ⟨by omega, Or.inr (Or.inr ⟨by omega, by rw [eb124]; by_cases e : i = 0 ∨ i = cn82 - 1; exact Or.inl ⟨e, hk2.2.2.1 e⟩; exact Or.inr ⟨by omega, by omega, hk2.2.2.2 (by omega) (by omega)⟩⟩)⟩⟩, CI_sl p0⟩)⟩, by show va_P D.1 j_cl (cW D q (sV (sV (sV (sV (sV (sV u 4 cn_73) 5 x1_73) 6 y1_73) 7 b1_73) 8 sx_73) 9 sy_73)) t0.heap; rw [ht]; first | exact hP | (simp only [sC_id, sX_id, sY_id, sH_id, sT_id, sV_id]; exact hP)⟩, hS.F ht⟩) hS.2.2 dX11_ray_127 hlk
                    · skip
                      refine lv_aload_n SS.1 SS.2.1 dX11_ray_96 rfl (lv_at hl 0 rfl) ?_
                      refine j_get SS hG hP 0 (v := .ref (q 4)) (C := RX11) (T := TX11) (N := 8) rfl rfl inX11 3 (by decide) (ref := "GridPolygons") kw_388 rfl rfl dX11_ray_97 ?_
                      refine j_get SS hG hP 4 (v := .int (J x1_73)) (C := RX9) (T := TX9) (N := 6) rfl rfl inX9 1 (by decide) (ref := "GridPolygons$Sail") kw_216 rfl rfl dX11_ray_100 ?_
                      obtain ⟨x100, ex100⟩ : ∃ z : Int, z = x1_73 := ⟨_, rfl⟩
                      rw [← ex100]
                      have hk2 := hk (by omega) (by omega)
                      exact W.iret SS.1 SS.2.1 hr (fun t0 ht hW => ⟨⟨_, (sV (sV (sV (sV (sV (sV u 4 cn_73) 5 x1_73) 6 y1_73) 7 b1_73) 8 sx_73) 9 sy_73), rfl, ⟨x100, rfl, (⟨Or.inr ⟨hp, by omega, hc, by omega, X, Y, cn82, hry, Or.inr ⟨by omega, Or.inl ⟨by omega, by rw [ex100]; exact hk2.1⟩⟩⟩, CI_sl p0⟩)⟩, by show va_P D.1 j_cl (cW D q (sV (sV (sV (sV (sV (sV u 4 cn_73) 5 x1_73) 6 y1_73) 7 b1_73) 8 sx_73) 9 sy_73)) t0.heap; rw [ht]; first | exact hP | (simp only [sC_id, sX_id, sY_id, sH_id, sT_id, sV_id]; exact hP)⟩, hS.F ht⟩) hS.2.2 dX11_ray_103 hlk
                  · skip
                    refine j_ldc SS (-1000000) kw_512 dX11_ray_88 ?_
                    exact W.iret SS.1 SS.2.1 hr (fun t0 ht hW => ⟨⟨_, (sV (sV (sV (sV (sV (sV u 4 cn_73) 5 x1_73) 6 y1_73) 7 b1_73) 8 sx_73) 9 sy_73), rfl, ⟨(-1000000), rfl, (⟨Or.inr ⟨hp, by omega, hc, by omega, X, Y, cn82, hry, Or.inl ⟨by omega, rfl⟩⟩, CI_sl p0⟩)⟩, by show va_P D.1 j_cl (cW D q (sV (sV (sV (sV (sV (sV u 4 cn_73) 5 x1_73) 6 y1_73) 7 b1_73) 8 sx_73) 9 sy_73)) t0.heap; rw [ht]; first | exact hP | (simp only [sC_id, sX_id, sY_id, sH_id, sT_id, sV_id]; exact hP)⟩, hS.F ht⟩) hS.2.2 dX11_ray_90 hlk
                · skip
                  refine j_ldc SS (-1000000) kw_512 dX11_ray_59 ?_
                  exact W.iret SS.1 SS.2.1 hr (fun t0 ht hW => ⟨⟨_, u, rfl, ⟨(-1000000), rfl, (⟨Or.inl ⟨fun h => by have := h.2.2.1; omega, rfl⟩, p0⟩)⟩, by show va_P D.1 j_cl (cW D q u) t0.heap; rw [ht]; first | exact hP | (simp only [sC_id, sX_id, sY_id, sH_id, sT_id, sV_id]; exact hP)⟩, hS.F ht⟩) hS.2.2 dX11_ray_61 hlk
              · skip
                refine j_ldc SS (-1000000) kw_512 dX11_ray_45 ?_
                exact W.iret SS.1 SS.2.1 hr (fun t0 ht hW => ⟨⟨_, u, rfl, ⟨(-1000000), rfl, (⟨Or.inl ⟨fun h => by unfold pl4 at h; omega, rfl⟩, p0⟩)⟩, by show va_P D.1 j_cl (cW D q u) t0.heap; rw [ht]; first | exact hP | (simp only [sC_id, sX_id, sY_id, sH_id, sT_id, sV_id]; exact hP)⟩, hS.F ht⟩) hS.2.2 dX11_ray_47 hlk

