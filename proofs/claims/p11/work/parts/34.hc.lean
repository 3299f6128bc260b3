

set_option maxHeartbeats 4000000 in
set_option maxRecDepth 100000 in
theorem c_X11_isWay (l : Launch) (D : JD) (a : Int) (b : Int) (p0 : -2147483648 ≤ a ∧ a ≤ 2147483647) (p1 : -2147483648 ≤ b ∧ b ≤ 2147483647) : Met l yX11_isWay (jw yX11_isWay cX11_isWay 2 (some .boolean)) (jr 2 45) (jP [.int (J a), .int (J b)] D (fun _ => True)) (jRi (fun z => (z = 1 ∧ (0 ≤ a ∧ a ≤ 100 ∧ -100 ≤ b ∧ b ≤ 100) ∧ ((a = 0 ∧ b = 1) ∨ (a ≠ 0 ∧ (Int.gcd a b : Int) = 1))) ∨ (z = 0 ∧ ¬ ((0 ≤ a ∧ a ≤ 100 ∧ -100 ≤ b ∧ b ≤ 100) ∧ ((a = 0 ∧ b = 1) ∨ (a ≠ 0 ∧ (Int.gcd a b : Int) = 1)))))) 0 0 (fun _ => False) := by
  refine Met.ofW (cc := cX11_isWay) (maxL := 2) (ret := (some .boolean)) (by decide) rfl ?_
  intro pr en st mi args below meth co s₁ B hml hv
  obtain ⟨rfl, hG, hP⟩ := hv
  have hr := B.returns
  have hlk := B.notSynchronized
  have SS : jS pr mi co cX11_isWay 2 st _ RX11 := ⟨B.exec, B.bytes, hml, findClass_of_methodNamed B.named, fun w hw => atoms_spec (ws := (jw yX11_isWay cX11_isWay 2 (some .boolean))) B.pre w (List.mem_cons_of_mem _ hw)⟩
  have hl := lv_entry ([.int (J a), .int (J b)]) (n := 2) (Nat.le_of_ble_eq_true rfl)
  rw [lg_entry_eq]
  generalize (lg_sl ([.int (J a), .int (J b)]) ++ List.replicate (2 - (lg_sl ([.int (J a), .int (J b)])).length) Slot.unset).toArray = ls at hl ⊢
  have hl : lv_has ls 2 [(0, .int (J a)), (1, .int (J b))] := hl
  refine lv_iload_n SS.1 SS.2.1 dX11_isWay_0 rfl (lv_at hl 0 rfl) ?_
  refine j_if_lt SS (tgt := 22) (x := a) dX11_isWay_1 (by decide) (by omega) (fun c_1 => ?_) (fun c_1 => ?_)
  · skip
    refine j_iconst SS dX11_isWay_22 ?_
    exact W.zret SS.1 SS.2.1 hr (j_nz (by decide)) (fun t0 ht hW => ⟨_, rfl, ⟨0, rfl, (by omega)⟩, ht⟩) (fun _ h => nomatch h) dX11_isWay_23 hlk
  · skip
    refine lv_iload_n SS.1 SS.2.1 dX11_isWay_4 rfl (lv_at hl 0 rfl) ?_
    refine j_bipush SS dX11_isWay_5 (by decide +kernel) ?_
    refine j_icmp_gt SS (tgt := 22) (x := a) (y := 100) dX11_isWay_7 (by decide) (by omega) (by decide) (fun c_7 => ?_) (fun c_7 => ?_)
    · skip
      refine j_iconst SS dX11_isWay_22 ?_
      exact W.zret SS.1 SS.2.1 hr (j_nz (by decide)) (fun t0 ht hW => ⟨_, rfl, ⟨0, rfl, (by omega)⟩, ht⟩) (fun _ h => nomatch h) dX11_isWay_23 hlk
    · skip
      refine lv_iload_n SS.1 SS.2.1 dX11_isWay_10 rfl (lv_at hl 1 rfl) ?_
      refine j_bipush SS dX11_isWay_11 (by decide +kernel) ?_
      refine j_icmp_lt SS (tgt := 22) (x := b) (y := (-100)) dX11_isWay_13 (by decide) (by omega) (by decide) (fun c_13 => ?_) (fun c_13 => ?_)
      · skip
        refine j_iconst SS dX11_isWay_22 ?_
        exact W.zret SS.1 SS.2.1 hr (j_nz (by decide)) (fun t0 ht hW => ⟨_, rfl, ⟨0, rfl, (by omega)⟩, ht⟩) (fun _ h => nomatch h) dX11_isWay_23 hlk
      · skip
        refine lv_iload_n SS.1 SS.2.1 dX11_isWay_16 rfl (lv_at hl 1 rfl) ?_
        refine j_bipush SS dX11_isWay_17 (by decide +kernel) ?_
        refine j_icmp_le SS (tgt := 24) (x := b) (y := 100) dX11_isWay_19 (by decide) (by omega) (by decide) (fun c_19 => ?_) (fun c_19 => ?_)
        · skip
          refine lv_iload_n SS.1 SS.2.1 dX11_isWay_24 rfl (lv_at hl 0 rfl) ?_
          refine j_if_ne SS (tgt := 41) (x := a) dX11_isWay_25 (by decide) (by omega) (fun c_25 => ?_) (fun c_25 => ?_)
          · skip
            refine lv_iload_n SS.1 SS.2.1 dX11_isWay_41 rfl (lv_at hl 0 rfl) ?_
            refine lv_iload_n SS.1 SS.2.1 dX11_isWay_42 rfl (lv_at hl 1 rfl) ?_
            refine j_sRi SS (As := [.int (J a), .int (J b)]) (rest := []) (c_X11_gcd l D  a b (show -100000 ≤ a ∧ a ≤ 100000 from (by omega)) (show -100000 ≤ b ∧ b ≤ 100000 from (by omega))) mf_X11_gcd kw_630 hG trivial rfl hl.1 ⟨⟨Nat.le_of_ble_eq_true rfl, Nat.le_of_ble_eq_true rfl⟩, Nat.le_of_ble_eq_true rfl, Nat.le_refl _, Nat.le_refl _⟩ rfl dX11_isWay_43 (fun z_43 h_43 => ?_)
            have h_43 : z_43 = (Int.gcd a b : Int) := h_43
            have hg := gcd_b (a := a) (b := b) (K := 100) (by omega) (by omega)
            rw [← h_43] at hg
            refine j_iconst SS dX11_isWay_46 ?_
            refine j_icmp_ne SS (tgt := 54) (x := z_43) (y := 1) dX11_isWay_47 (by decide) (by omega) (by decide) (fun c_47 => ?_) (fun c_47 => ?_)
            · skip
              refine j_iconst SS dX11_isWay_54 ?_
              exact W.zret SS.1 SS.2.1 hr (j_nz (by decide)) (fun t0 ht hW => ⟨_, rfl, ⟨0, rfl, (by omega)⟩, ht⟩) (fun _ h => nomatch h) dX11_isWay_55 hlk
            · skip
              refine j_iconst SS dX11_isWay_50 ?_
              refine lv_goto (tgt := 55) SS.1 SS.2.1 dX11_isWay_51 (by decide) ?_
              exact W.zret SS.1 SS.2.1 hr (j_nz (by decide)) (fun t0 ht hW => ⟨_, rfl, ⟨1, rfl, (by omega)⟩, ht⟩) (fun _ h => nomatch h) dX11_isWay_55 hlk
          · skip
            refine lv_iload_n SS.1 SS.2.1 dX11_isWay_28 rfl (lv_at hl 1 rfl) ?_
            refine j_iconst SS dX11_isWay_29 ?_
            refine j_icmp_ne SS (tgt := 37) (x := b) (y := 1) dX11_isWay_30 (by decide) (by omega) (by decide) (fun c_30 => ?_) (fun c_30 => ?_)
            · skip
              refine j_iconst SS dX11_isWay_37 ?_
              refine lv_goto (tgt := 55) SS.1 SS.2.1 dX11_isWay_38 (by decide) ?_
              exact W.zret SS.1 SS.2.1 hr (j_nz (by decide)) (fun t0 ht hW => ⟨_, rfl, ⟨0, rfl, (by omega)⟩, ht⟩) (fun _ h => nomatch h) dX11_isWay_55 hlk
            · skip
              refine j_iconst SS dX11_isWay_33 ?_
              refine lv_goto (tgt := 55) SS.1 SS.2.1 dX11_isWay_34 (by decide) ?_
              exact W.zret SS.1 SS.2.1 hr (j_nz (by decide)) (fun t0 ht hW => ⟨_, rfl, ⟨1, rfl, (by omega)⟩, ht⟩) (fun _ h => nomatch h) dX11_isWay_55 hlk
        · skip
          refine j_iconst SS dX11_isWay_22 ?_
          exact W.zret SS.1 SS.2.1 hr (j_nz (by decide)) (fun t0 ht hW => ⟨_, rfl, ⟨0, rfl, (by omega)⟩, ht⟩) (fun _ h => nomatch h) dX11_isWay_23 hlk

set_option maxHeartbeats 4000000 in
set_option maxRecDepth 100000 in
theorem c_X11_times (l : Launch) (D : JD) (q : Nat → Nat) (u : CS) (s : Int) (n : Int) (what : Int) (p0 : CI u) (p1 : -2147483648 ≤ s ∧ s ≤ 2147483647) (p2 : -2147483648 ≤ n ∧ n ≤ 2147483647) (p3 : -2147483648 ≤ what ∧ what ≤ 2147483647) : Met l yX11_times (jw yX11_times cX11_times 5 (some .long)) (jr 5 109) (jP [.ref (q 0), .int (J s), .int (J n), .int (J what)] D (fun H => va_P D.1 j_cl (cW D q u) H)) (vp_Sl (fun x9 => True)) 0 0 (fun _ => False) := by
  refine Met.ofW (cc := cX11_times) (maxL := 5) (ret := (some .long)) (by decide) rfl ?_
  intro pr en st mi args below meth co s₁ B hml hv
  obtain ⟨rfl, hG, hP⟩ := hv
  have hr := B.returns
  have hlk := B.notSynchronized
  have SS : jS pr mi co cX11_times 5 st _ RX11 := ⟨B.exec, B.bytes, hml, findClass_of_methodNamed B.named, fun w hw => atoms_spec (ws := (jw yX11_times cX11_times 5 (some .long))) B.pre w (List.mem_cons_of_mem _ hw)⟩
  have hl := lv_entry ([.ref (q 0), .int (J s), .int (J n), .int (J what)]) (n := 5) (Nat.le_of_ble_eq_true rfl)
  rw [lg_entry_eq]
  generalize (lg_sl ([.ref (q 0), .int (J s), .int (J n), .int (J what)]) ++ List.replicate (5 - (lg_sl ([.ref (q 0), .int (J s), .int (J n), .int (J what)])).length) Slot.unset).toArray = ls at hl ⊢
  have hl : lv_has ls 5 [(0, .ref (q 0)), (1, .int (J s)), (2, .int (J n)), (3, .int (J what))] := hl
  refine lv_aload_n SS.1 SS.2.1 dX11_times_0 rfl (lv_at hl 0 rfl) ?_
  refine lv_iload_n SS.1 SS.2.1 dX11_times_1 rfl (lv_at hl 1 rfl) ?_
  refine j_vSh SS (As := [.int (J s)]) (rest := []) (c_X11_shapeAt l D q u  s (show -2147483648 ≤ s ∧ s ≤ 2147483647 from (p1))) mf_X11_shapeAt kw_414 hG hP hP (ci := 11) (q0 := 0) rfl rfl rfl rfl hl.1 ⟨⟨Nat.le_of_ble_eq_true rfl, Nat.le_of_ble_eq_true rfl⟩, Nat.le_of_ble_eq_true rfl, Nat.le_refl _, Nat.le_refl _⟩ rfl dX11_times_2 (fun i_2 hi_2 hz_2 => ?_) (fun hn_2 => ?_)
  · skip
    have hI2 := CI_s p0 (show i_2 < 8 by omega)
    have hI2c := hI2.1
    have hrl2 := rl_s (show i_2 < 8 by omega)
    refine lv_astore (lv' := [(4, .ref (q (8 + 5 * i_2))), (0, .ref (q 0)), (1, .int (J s)), (2, .int (J n)), (3, .int (J what))]) SS.1 SS.2.1 dX11_times_5 hl (by decide) rfl (fun ls hl => ?_)
    refine lv_aload SS.1 SS.2.1 dX11_times_7 (lv_at hl 0 rfl) ?_
    refine lv_ifnull SS.1 SS.2.1 dX11_times_9 ?_
    refine lv_iload_n SS.1 SS.2.1 dX11_times_12 rfl (lv_at hl 3 rfl) ?_
    refine j_if_lt SS (tgt := 32) (x := n) dX11_times_13 (by decide) (by omega) (fun c_13 => ?_) (fun c_13 => ?_)
    · skip
      refine lv_ldc2 SS.1 SS.2.1 SS.2.2.2.1 (SS.2.2.2.2 _ kw_562) dX11_times_32 ?_
      exact W.lret SS.1 SS.2.1 hr (fun t0 ht hW => ⟨_, rfl, (trivial), ht⟩) (fun _ h => nomatch h) dX11_times_35 hlk
    · skip
      refine lv_iload_n SS.1 SS.2.1 dX11_times_16 rfl (lv_at hl 3 rfl) ?_
      refine j_sipush SS dX11_times_17 (by decide +kernel) ?_
      refine j_icmp_gt SS (tgt := 32) (x := n) (y := 1000) dX11_times_20 (by decide) (by omega) (by decide) (fun c_20 => ?_) (fun c_20 => ?_)
      · skip
        refine lv_ldc2 SS.1 SS.2.1 SS.2.2.2.1 (SS.2.2.2.2 _ kw_562) dX11_times_32 ?_
        exact W.lret SS.1 SS.2.1 hr (fun t0 ht hW => ⟨_, rfl, (trivial), ht⟩) (fun _ h => nomatch h) dX11_times_35 hlk
      · skip
        refine lv_iload_n SS.1 SS.2.1 dX11_times_23 rfl (lv_at hl 4 rfl) ?_
        refine j_if_lt SS (tgt := 32) (x := what) dX11_times_24 (by decide) (by omega) (fun c_24 => ?_) (fun c_24 => ?_)
        · skip
          refine lv_ldc2 SS.1 SS.2.1 SS.2.2.2.1 (SS.2.2.2.2 _ kw_562) dX11_times_32 ?_
          exact W.lret SS.1 SS.2.1 hr (fun t0 ht hW => ⟨_, rfl, (trivial), ht⟩) (fun _ h => nomatch h) dX11_times_35 hlk
        · skip
          refine lv_iload_n SS.1 SS.2.1 dX11_times_27 rfl (lv_at hl 4 rfl) ?_
          refine j_iconst SS dX11_times_28 ?_
          refine j_icmp_le SS (tgt := 36) (x := what) (y := 1) dX11_times_29 (by decide) (by omega) (by decide) (fun c_29 => ?_) (fun c_29 => ?_)
          · skip
            refine lv_iload_n SS.1 SS.2.1 dX11_times_36 rfl (lv_at hl 4 rfl) ?_
            refine j_if_ne SS (tgt := 50) (x := what) dX11_times_37 (by decide) (by omega) (fun c_37 => ?_) (fun c_37 => ?_)
            · skip
              refine lv_aload SS.1 SS.2.1 dX11_times_50 (lv_at hl 0 rfl) ?_
              refine j_get SS hG hP (8 + 5 * i_2) (v := .ref (q (9 + 5 * i_2))) (C := RX10) (T := TX10) (N := 3) (cw_shape (by omega)) rfl inX10 0 (by decide) (ref := "GridPolygons$Shape") kw_151 rfl rfl dX11_times_52 ?_
              refine j_vRi SS (As := []) (rest := []) (c_X7_isPolygon l D q u i_2 (by omega) (80 : Int)  (show 0 ≤ (80 : Int) ∧ (80 : Int) ≤ 80 from (by omega)) (show RB (80 : Int) u i_2 from (show RB 80 u i_2 from CI_s p0 (by omega)))) mf_X7_isPolygon kw_568 hG hP hP (ci := 7) (q0 := (9 + 5 * i_2)) rfl (cw_ring (by omega)) rfl rfl hl.1 ⟨⟨Nat.le_of_ble_eq_true rfl, Nat.le_of_ble_eq_true rfl⟩, Nat.le_of_ble_eq_true rfl, Nat.le_refl _, Nat.le_refl _⟩ rfl dX11_times_55 (fun z_55 h_55 => ?_)
              have h_55 : (z_55 = 1 ∧ 3 ≤ (u.1.2.2.1 i_2)) ∨ (z_55 = 0 ∧ (u.1.2.2.1 i_2) < 3) := h_55
              refine j_if_eq SS (tgt := 73) (x := z_55) dX11_times_58 (by decide) (by omega) (fun c_58 => ?_) (fun c_58 => ?_)
              · skip
                refine lv_ldc2 SS.1 SS.2.1 SS.2.2.2.1 (SS.2.2.2.2 _ kw_576) dX11_times_73 ?_
                exact W.lret SS.1 SS.2.1 hr (fun t0 ht hW => ⟨_, rfl, (trivial), ht⟩) (fun _ h => nomatch h) dX11_times_76 hlk
              · skip
                refine lv_aload SS.1 SS.2.1 dX11_times_61 (lv_at hl 0 rfl) ?_
                refine j_get SS hG hP (8 + 5 * i_2) (v := .ref (q (9 + 5 * i_2))) (C := RX10) (T := TX10) (N := 3) (cw_shape (by omega)) rfl inX10 0 (by decide) (ref := "GridPolygons$Shape") kw_151 rfl rfl dX11_times_63 ?_
                refine lv_iload_n SS.1 SS.2.1 dX11_times_66 rfl (lv_at hl 3 rfl) ?_
                refine j_vRl SS (As := [.int (J n)]) (rest := []) (c_X7_insideTimes l D q u i_2 (by omega) (80 : Int) n (show 0 ≤ (80 : Int) ∧ (80 : Int) ≤ 80 from (by omega)) (show RB (80 : Int) u i_2 from (show RB 80 u i_2 from CI_s p0 (by omega))) (show -2147483648 ≤ n ∧ n ≤ 2147483647 from (p2))) mf_X7_insideTimes kw_572 hG hP hP (ci := 7) (q0 := (9 + 5 * i_2)) rfl (cw_ring (by omega)) rfl rfl hl.1 ⟨⟨Nat.le_of_ble_eq_true rfl, Nat.le_of_ble_eq_true rfl⟩, Nat.le_of_ble_eq_true rfl, Nat.le_refl _, Nat.le_refl _⟩ rfl dX11_times_67 (fun x_67 h_67 => ?_)
                refine lv_goto (tgt := 76) SS.1 SS.2.1 dX11_times_70 (by decide) ?_
                exact W.lret SS.1 SS.2.1 hr (fun t0 ht hW => ⟨_, rfl, (trivial), ht⟩) (fun _ h => nomatch h) dX11_times_76 hlk
            · skip
              refine lv_aload SS.1 SS.2.1 dX11_times_40 (lv_at hl 0 rfl) ?_
              refine j_get SS hG hP (8 + 5 * i_2) (v := .ref (q (9 + 5 * i_2))) (C := RX10) (T := TX10) (N := 3) (cw_shape (by omega)) rfl inX10 0 (by decide) (ref := "GridPolygons$Shape") kw_151 rfl rfl dX11_times_42 ?_
              refine lv_iload_n SS.1 SS.2.1 dX11_times_45 rfl (lv_at hl 3 rfl) ?_
              refine j_vRl SS (As := [.int (J n)]) (rest := []) (c_X7_allTimes l D q u i_2 (by omega) (80 : Int) n (show 0 ≤ (80 : Int) ∧ (80 : Int) ≤ 80 from (by omega)) (show RB (80 : Int) u i_2 from (show RB 80 u i_2 from CI_s p0 (by omega)))) mf_X7_allTimes kw_563 hG hP hP (ci := 7) (q0 := (9 + 5 * i_2)) rfl (cw_ring (by omega)) rfl rfl hl.1 ⟨⟨Nat.le_of_ble_eq_true rfl, Nat.le_of_ble_eq_true rfl⟩, Nat.le_of_ble_eq_true rfl, Nat.le_refl _, Nat.le_refl _⟩ rfl dX11_times_46 (fun x_46 h_46 => ?_)
              exact W.lret SS.1 SS.2.1 hr (fun t0 ht hW => ⟨_, rfl, (trivial), ht⟩) (fun _ h => nomatch h) dX11_times_49 hlk
          · skip
            refine lv_ldc2 SS.1 SS.2.1 SS.2.2.2.1 (SS.2.2.2.2 _ kw_562) dX11_times_32 ?_
            exact W.lret SS.1 SS.2.1 hr (fun t0 ht hW => ⟨_, rfl, (trivial), ht⟩) (fun _ h => nomatch h) dX11_times_35 hlk
  · skip
    refine lv_astoreN (lv' := [(4, .null), (0, .ref (q 0)), (1, .int (J s)), (2, .int (J n)), (3, .int (J what))]) SS.1 SS.2.1 dX11_times_5 hl (by decide) rfl (fun ls hl => ?_)
    refine lv_aloadN SS.1 SS.2.1 dX11_times_7 (lv_at hl 0 rfl) ?_
    refine lv_ifnullN SS.1 SS.2.1 (tgt := 32) dX11_times_9 (by decide) ?_
    refine lv_ldc2 SS.1 SS.2.1 SS.2.2.2.1 (SS.2.2.2.2 _ kw_562) dX11_times_32 ?_
    exact W.lret SS.1 SS.2.1 hr (fun t0 ht hW => ⟨_, rfl, (trivial), ht⟩) (fun _ h => nomatch h) dX11_times_35 hlk

set_option maxHeartbeats 4000000 in
set_option maxRecDepth 100000 in
theorem c_X11_where (l : Launch) (D : JD) (q : Nat → Nat) (u : CS) (s : Int) (x : Int) (y : Int) (p0 : CI u) (p1 : -2147483648 ≤ s ∧ s ≤ 2147483647) (p2 : -2147483648 ≤ x ∧ x ≤ 2147483647) (p3 : -2147483648 ≤ y ∧ y ≤ 2147483647) : Met l yX11_where (jw yX11_where cX11_where 5 (some .int)) (jr 4 91) (jP [.ref (q 0), .int (J s), .int (J x), .int (J y)] D (fun H => va_P D.1 j_cl (cW D q u) H)) (jRi (fun z => True)) 0 0 (fun _ => False) := by
  refine Met.ofW (cc := cX11_where) (maxL := 5) (ret := (some .int)) (by decide) rfl ?_
  intro pr en st mi args below meth co s₁ B hml hv
  obtain ⟨rfl, hG, hP⟩ := hv
  have hr := B.returns
  have hlk := B.notSynchronized
  have SS : jS pr mi co cX11_where 5 st _ RX11 := ⟨B.exec, B.bytes, hml, findClass_of_methodNamed B.named, fun w hw => atoms_spec (ws := (jw yX11_where cX11_where 5 (some .int))) B.pre w (List.mem_cons_of_mem _ hw)⟩
  have hl := lv_entry ([.ref (q 0), .int (J s), .int (J x), .int (J y)]) (n := 5) (Nat.le_of_ble_eq_true rfl)
  rw [lg_entry_eq]
  generalize (lg_sl ([.ref (q 0), .int (J s), .int (J x), .int (J y)]) ++ List.replicate (5 - (lg_sl ([.ref (q 0), .int (J s), .int (J x), .int (J y)])).length) Slot.unset).toArray = ls at hl ⊢
  have hl : lv_has ls 5 [(0, .ref (q 0)), (1, .int (J s)), (2, .int (J x)), (3, .int (J y))] := hl
  refine lv_aload_n SS.1 SS.2.1 dX11_where_0 rfl (lv_at hl 0 rfl) ?_
  refine lv_iload_n SS.1 SS.2.1 dX11_where_1 rfl (lv_at hl 1 rfl) ?_
  refine j_vSh SS (As := [.int (J s)]) (rest := []) (c_X11_shapeAt l D q u  s (show -2147483648 ≤ s ∧ s ≤ 2147483647 from (p1))) mf_X11_shapeAt kw_414 hG hP hP (ci := 11) (q0 := 0) rfl rfl rfl rfl hl.1 ⟨⟨Nat.le_of_ble_eq_true rfl, Nat.le_of_ble_eq_true rfl⟩, Nat.le_of_ble_eq_true rfl, Nat.le_refl _, Nat.le_refl _⟩ rfl dX11_where_2 (fun i_2 hi_2 hz_2 => ?_) (fun hn_2 => ?_)
  · skip
    have hI2 := CI_s p0 (show i_2 < 8 by omega)
    have hI2c := hI2.1
    have hrl2 := rl_s (show i_2 < 8 by omega)
    refine lv_astore (lv' := [(4, .ref (q (8 + 5 * i_2))), (0, .ref (q 0)), (1, .int (J s)), (2, .int (J x)), (3, .int (J y))]) SS.1 SS.2.1 dX11_where_5 hl (by decide) rfl (fun ls hl => ?_)
    refine lv_aload SS.1 SS.2.1 dX11_where_7 (lv_at hl 0 rfl) ?_
    refine lv_ifnull SS.1 SS.2.1 dX11_where_9 ?_
    refine lv_iload_n SS.1 SS.2.1 dX11_where_12 rfl (lv_at hl 3 rfl) ?_
    refine j_sRi SS (As := [.int (J x)]) (rest := []) (c_X11_onGrid l D  x (show -2147483648 ≤ x ∧ x ≤ 2147483647 from (p2))) mf_X11_onGrid kw_475 hG trivial rfl hl.1 ⟨⟨Nat.le_of_ble_eq_true rfl, Nat.le_of_ble_eq_true rfl⟩, Nat.le_of_ble_eq_true rfl, Nat.le_refl _, Nat.le_refl _⟩ rfl dX11_where_13 (fun z_13 h_13 => ?_)
    have h_13 : (z_13 = 1 ∧ (-40 ≤ x ∧ x ≤ 40)) ∨ (z_13 = 0 ∧ ¬ (-40 ≤ x ∧ x ≤ 40)) := h_13
    refine j_if_eq SS (tgt := 26) (x := z_13) dX11_where_16 (by decide) (by omega) (fun c_16 => ?_) (fun c_16 => ?_)
    · skip
      refine j_iconst SS dX11_where_26 ?_
      exact W.iret SS.1 SS.2.1 hr (fun t0 ht hW => ⟨_, rfl, ⟨(-1), rfl, (trivial)⟩, ht⟩) (fun _ h => nomatch h) dX11_where_27 hlk
    · skip
      refine lv_iload_n SS.1 SS.2.1 dX11_where_19 rfl (lv_at hl 4 rfl) ?_
      refine j_sRi SS (As := [.int (J y)]) (rest := []) (c_X11_onGrid l D  y (show -2147483648 ≤ y ∧ y ≤ 2147483647 from (p3))) mf_X11_onGrid kw_475 hG trivial rfl hl.1 ⟨⟨Nat.le_of_ble_eq_true rfl, Nat.le_of_ble_eq_true rfl⟩, Nat.le_of_ble_eq_true rfl, Nat.le_refl _, Nat.le_refl _⟩ rfl dX11_where_20 (fun z_20 h_20 => ?_)
      have h_20 : (z_20 = 1 ∧ (-40 ≤ y ∧ y ≤ 40)) ∨ (z_20 = 0 ∧ ¬ (-40 ≤ y ∧ y ≤ 40)) := h_20
      refine j_if_ne SS (tgt := 28) (x := z_20) dX11_where_23 (by decide) (by omega) (fun c_23 => ?_) (fun c_23 => ?_)
      · skip
        refine lv_aload SS.1 SS.2.1 dX11_where_28 (lv_at hl 0 rfl) ?_
        refine j_get SS hG hP (8 + 5 * i_2) (v := .ref (q (9 + 5 * i_2))) (C := RX10) (T := TX10) (N := 3) (cw_shape (by omega)) rfl inX10 0 (by decide) (ref := "GridPolygons$Shape") kw_151 rfl rfl dX11_where_30 ?_
        refine lv_iload_n SS.1 SS.2.1 dX11_where_33 rfl (lv_at hl 3 rfl) ?_
        refine lv_iload_n SS.1 SS.2.1 dX11_where_34 rfl (lv_at hl 4 rfl) ?_
        refine j_vRi SS (As := [.int (J x), .int (J y)]) (rest := []) (c_X7_standing l D q u i_2 (by omega) (80 : Int) x y (show 0 ≤ (80 : Int) ∧ (80 : Int) ≤ 80 from (by omega)) (show RB (80 : Int) u i_2 from (show RB 80 u i_2 from CI_s p0 (by omega))) (show -200 ≤ x ∧ x ≤ 200 from (by omega)) (show -200 ≤ y ∧ y ≤ 200 from (by omega))) mf_X7_standing kw_581 hG hP hP (ci := 7) (q0 := (9 + 5 * i_2)) rfl (cw_ring (by omega)) rfl rfl hl.1 ⟨⟨Nat.le_of_ble_eq_true rfl, Nat.le_of_ble_eq_true rfl⟩, Nat.le_of_ble_eq_true rfl, Nat.le_refl _, Nat.le_refl _⟩ rfl dX11_where_35 (fun z_35 h_35 => ?_)
        have h_35 : z_35 = 0 ∨ z_35 = 1 ∨ z_35 = 2 := h_35
        exact W.iret SS.1 SS.2.1 hr (fun t0 ht hW => ⟨_, rfl, ⟨z_35, rfl, (trivial)⟩, ht⟩) (fun _ h => nomatch h) dX11_where_38 hlk
      · skip
        refine j_iconst SS dX11_where_26 ?_
        exact W.iret SS.1 SS.2.1 hr (fun t0 ht hW => ⟨_, rfl, ⟨(-1), rfl, (trivial)⟩, ht⟩) (fun _ h => nomatch h) dX11_where_27 hlk
  · skip
    refine lv_astoreN (lv' := [(4, .null), (0, .ref (q 0)), (1, .int (J s)), (2, .int (J x)), (3, .int (J y))]) SS.1 SS.2.1 dX11_where_5 hl (by decide) rfl (fun ls hl => ?_)
    refine lv_aloadN SS.1 SS.2.1 dX11_where_7 (lv_at hl 0 rfl) ?_
    refine lv_ifnullN SS.1 SS.2.1 (tgt := 26) dX11_where_9 (by decide) ?_
    refine j_iconst SS dX11_where_26 ?_
    exact W.iret SS.1 SS.2.1 hr (fun t0 ht hW => ⟨_, rfl, ⟨(-1), rfl, (trivial)⟩, ht⟩) (fun _ h => nomatch h) dX11_where_27 hlk

set_option maxHeartbeats 4000000 in
set_option maxRecDepth 100000 in
theorem c_X11_point (l : Launch) (D : JD) (q : Nat → Nat) (u : CS) (s : Int) (i : Int) (what : Int) (p0 : CI u) (p1 : -2147483648 ≤ s ∧ s ≤ 2147483647) (p2 : -2147483648 ≤ i ∧ i ≤ 2147483647) (p3 : -2147483648 ≤ what ∧ what ≤ 2147483647) : Met l yX11_point (jw yX11_point cX11_point 5 (some .int)) (jr 4 94) (jP [.ref (q 0), .int (J s), .int (J i), .int (J what)] D (fun H => va_P D.1 j_cl (cW D q u) H)) (jRi (fun z => True)) 0 0 (fun _ => False) := by
  refine Met.ofW (cc := cX11_point) (maxL := 5) (ret := (some .int)) (by decide) rfl ?_
  intro pr en st mi args below meth co s₁ B hml hv
  obtain ⟨rfl, hG, hP⟩ := hv
  have hr := B.returns
  have hlk := B.notSynchronized
  have SS : jS pr mi co cX11_point 5 st _ RX11 := ⟨B.exec, B.bytes, hml, findClass_of_methodNamed B.named, fun w hw => atoms_spec (ws := (jw yX11_point cX11_point 5 (some .int))) B.pre w (List.mem_cons_of_mem _ hw)⟩
  have hl := lv_entry ([.ref (q 0), .int (J s), .int (J i), .int (J what)]) (n := 5) (Nat.le_of_ble_eq_true rfl)
  rw [lg_entry_eq]
  generalize (lg_sl ([.ref (q 0), .int (J s), .int (J i), .int (J what)]) ++ List.replicate (5 - (lg_sl ([.ref (q 0), .int (J s), .int (J i), .int (J what)])).length) Slot.unset).toArray = ls at hl ⊢
  have hl : lv_has ls 5 [(0, .ref (q 0)), (1, .int (J s)), (2, .int (J i)), (3, .int (J what))] := hl
  refine lv_aload_n SS.1 SS.2.1 dX11_point_0 rfl (lv_at hl 0 rfl) ?_
  refine lv_iload_n SS.1 SS.2.1 dX11_point_1 rfl (lv_at hl 1 rfl) ?_
  refine j_vSh SS (As := [.int (J s)]) (rest := []) (c_X11_shapeAt l D q u  s (show -2147483648 ≤ s ∧ s ≤ 2147483647 from (p1))) mf_X11_shapeAt kw_414 hG hP hP (ci := 11) (q0 := 0) rfl rfl rfl rfl hl.1 ⟨⟨Nat.le_of_ble_eq_true rfl, Nat.le_of_ble_eq_true rfl⟩, Nat.le_of_ble_eq_true rfl, Nat.le_refl _, Nat.le_refl _⟩ rfl dX11_point_2 (fun i_2 hi_2 hz_2 => ?_) (fun hn_2 => ?_)
  · skip
    have hI2 := CI_s p0 (show i_2 < 8 by omega)
    have hI2c := hI2.1
    have hrl2 := rl_s (show i_2 < 8 by omega)
    refine lv_astore (lv' := [(4, .ref (q (8 + 5 * i_2))), (0, .ref (q 0)), (1, .int (J s)), (2, .int (J i)), (3, .int (J what))]) SS.1 SS.2.1 dX11_point_5 hl (by decide) rfl (fun ls hl => ?_)
    refine lv_aload SS.1 SS.2.1 dX11_point_7 (lv_at hl 0 rfl) ?_
    refine lv_ifnull SS.1 SS.2.1 dX11_point_9 ?_
    refine lv_iload_n SS.1 SS.2.1 dX11_point_12 rfl (lv_at hl 3 rfl) ?_
    refine j_if_lt SS (tgt := 25) (x := i) dX11_point_13 (by decide) (by omega) (fun c_13 => ?_) (fun c_13 => ?_)
    · skip
      refine j_ldc SS (-1000000) kw_512 dX11_point_25 ?_
      exact W.iret SS.1 SS.2.1 hr (fun t0 ht hW => ⟨_, rfl, ⟨(-1000000), rfl, (trivial)⟩, ht⟩) (fun _ h => nomatch h) dX11_point_27 hlk
    · skip
      refine lv_iload_n SS.1 SS.2.1 dX11_point_16 rfl (lv_at hl 4 rfl) ?_
      refine j_if_lt SS (tgt := 25) (x := what) dX11_point_17 (by decide) (by omega) (fun c_17 => ?_) (fun c_17 => ?_)
      · skip
        refine j_ldc SS (-1000000) kw_512 dX11_point_25 ?_
        exact W.iret SS.1 SS.2.1 hr (fun t0 ht hW => ⟨_, rfl, ⟨(-1000000), rfl, (trivial)⟩, ht⟩) (fun _ h => nomatch h) dX11_point_27 hlk
      · skip
        refine lv_iload_n SS.1 SS.2.1 dX11_point_20 rfl (lv_at hl 4 rfl) ?_
        refine j_iconst SS dX11_point_21 ?_
        refine j_icmp_le SS (tgt := 28) (x := what) (y := 1) dX11_point_22 (by decide) (by omega) (by decide) (fun c_22 => ?_) (fun c_22 => ?_)
        · skip
          refine lv_aload SS.1 SS.2.1 dX11_point_28 (lv_at hl 0 rfl) ?_
          refine j_get SS hG hP (8 + 5 * i_2) (v := .ref (q (9 + 5 * i_2))) (C := RX10) (T := TX10) (N := 3) (cw_shape (by omega)) rfl inX10 0 (by decide) (ref := "GridPolygons$Shape") kw_151 rfl rfl dX11_point_30 ?_
          refine lv_iload_n SS.1 SS.2.1 dX11_point_33 rfl (lv_at hl 3 rfl) ?_
          refine lv_iload_n SS.1 SS.2.1 dX11_point_34 rfl (lv_at hl 4 rfl) ?_
          refine j_vRi SS (As := [.int (J i), .int (J what)]) (rest := []) (c_X7_coordinate l D q u i_2 (by omega) (80 : Int) i what (show 0 ≤ (80 : Int) ∧ (80 : Int) ≤ 80 from (by omega)) (show RB (80 : Int) u i_2 from (show RB 80 u i_2 from CI_s p0 (by omega))) (show 0 ≤ i ∧ i ≤ 2147483647 from (by omega)) (show -2147483648 ≤ what ∧ what ≤ 2147483647 from (p3))) mf_X7_coordinate kw_618 hG hP hP (ci := 7) (q0 := (9 + 5 * i_2)) rfl (cw_ring (by omega)) rfl rfl hl.1 ⟨⟨Nat.le_of_ble_eq_true rfl, Nat.le_of_ble_eq_true rfl⟩, Nat.le_of_ble_eq_true rfl, Nat.le_refl _, Nat.le_refl _⟩ rfl dX11_point_35 (fun z_35 h_35 => ?_)
          have h_35 : True := h_35
          exact W.iret SS.1 SS.2.1 hr (fun t0 ht hW => ⟨_, rfl, ⟨z_35, rfl, (trivial)⟩, ht⟩) (fun _ h => nomatch h) dX11_point_38 hlk
        · skip
          refine j_ldc SS (-1000000) kw_512 dX11_point_25 ?_
          exact W.iret SS.1 SS.2.1 hr (fun t0 ht hW => ⟨_, rfl, ⟨(-1000000), rfl, (trivial)⟩, ht⟩) (fun _ h => nomatch h) dX11_point_27 hlk
  · skip
    refine lv_astoreN (lv' := [(4, .null), (0, .ref (q 0)), (1, .int (J s)), (2, .int (J i)), (3, .int (J what))]) SS.1 SS.2.1 dX11_point_5 hl (by decide) rfl (fun ls hl => ?_)
    refine lv_aloadN SS.1 SS.2.1 dX11_point_7 (lv_at hl 0 rfl) ?_
    refine lv_ifnullN SS.1 SS.2.1 (tgt := 25) dX11_point_9 (by decide) ?_
    refine j_ldc SS (-1000000) kw_512 dX11_point_25 ?_
    exact W.iret SS.1 SS.2.1 hr (fun t0 ht hW => ⟨_, rfl, ⟨(-1000000), rfl, (trivial)⟩, ht⟩) (fun _ h => nomatch h) dX11_point_27 hlk

set_option maxHeartbeats 4000000 in
set_option maxRecDepth 100000 in
theorem c_X11_normal (l : Launch) (D : JD) (q : Nat → Nat) (u : CS) (s : Int) (i : Int) (what : Int) (p0 : CI u) (p1 : -2147483648 ≤ s ∧ s ≤ 2147483647) (p2 : -2147483648 ≤ i ∧ i ≤ 2147483647) (p3 : -2147483648 ≤ what ∧ what ≤ 2147483647) : Met l yX11_normal (jw yX11_normal cX11_normal 5 (some .int)) (jr 5 111) (jP [.ref (q 0), .int (J s), .int (J i), .int (J what)] D (fun H => va_P D.1 j_cl (cW D q u) H)) (jRi (fun z => True)) 0 0 (fun _ => False) := by
  refine Met.ofW (cc := cX11_normal) (maxL := 5) (ret := (some .int)) (by decide) rfl ?_
  intro pr en st mi args below meth co s₁ B hml hv
  obtain ⟨rfl, hG, hP⟩ := hv
  have hr := B.returns
  have hlk := B.notSynchronized
  have SS : jS pr mi co cX11_normal 5 st _ RX11 := ⟨B.exec, B.bytes, hml, findClass_of_methodNamed B.named, fun w hw => atoms_spec (ws := (jw yX11_normal cX11_normal 5 (some .int))) B.pre w (List.mem_cons_of_mem _ hw)⟩
  have hl := lv_entry ([.ref (q 0), .int (J s), .int (J i), .int (J what)]) (n := 5) (Nat.le_of_ble_eq_true rfl)
  rw [lg_entry_eq]
  generalize (lg_sl ([.ref (q 0), .int (J s), .int (J i), .int (J what)]) ++ List.replicate (5 - (lg_sl ([.ref (q 0), .int (J s), .int (J i), .int (J what)])).length) Slot.unset).toArray = ls at hl ⊢
  have hl : lv_has ls 5 [(0, .ref (q 0)), (1, .int (J s)), (2, .int (J i)), (3, .int (J what))] := hl
  refine lv_aload_n SS.1 SS.2.1 dX11_normal_0 rfl (lv_at hl 0 rfl) ?_
  refine lv_iload_n SS.1 SS.2.1 dX11_normal_1 rfl (lv_at hl 1 rfl) ?_
  refine j_vSh SS (As := [.int (J s)]) (rest := []) (c_X11_shapeAt l D q u  s (show -2147483648 ≤ s ∧ s ≤ 2147483647 from (p1))) mf_X11_shapeAt kw_414 hG hP hP (ci := 11) (q0 := 0) rfl rfl rfl rfl hl.1 ⟨⟨Nat.le_of_ble_eq_true rfl, Nat.le_of_ble_eq_true rfl⟩, Nat.le_of_ble_eq_true rfl, Nat.le_refl _, Nat.le_refl _⟩ rfl dX11_normal_2 (fun i_2 hi_2 hz_2 => ?_) (fun hn_2 => ?_)
  · skip
    have hI2 := CI_s p0 (show i_2 < 8 by omega)
    have hI2c := hI2.1
    have hrl2 := rl_s (show i_2 < 8 by omega)
    refine lv_astore (lv' := [(4, .ref (q (8 + 5 * i_2))), (0, .ref (q 0)), (1, .int (J s)), (2, .int (J i)), (3, .int (J what))]) SS.1 SS.2.1 dX11_normal_5 hl (by decide) rfl (fun ls hl => ?_)
    refine lv_aload SS.1 SS.2.1 dX11_normal_7 (lv_at hl 0 rfl) ?_
    refine lv_ifnull SS.1 SS.2.1 dX11_normal_9 ?_
    refine lv_iload_n SS.1 SS.2.1 dX11_normal_12 rfl (lv_at hl 4 rfl) ?_
    refine j_if_lt SS (tgt := 48) (x := what) dX11_normal_13 (by decide) (by omega) (fun c_13 => ?_) (fun c_13 => ?_)
    · skip
      refine j_ldc SS (-1000000) kw_512 dX11_normal_48 ?_
      exact W.iret SS.1 SS.2.1 hr (fun t0 ht hW => ⟨_, rfl, ⟨(-1000000), rfl, (trivial)⟩, ht⟩) (fun _ h => nomatch h) dX11_normal_50 hlk
    · skip
      refine lv_iload_n SS.1 SS.2.1 dX11_normal_16 rfl (lv_at hl 4 rfl) ?_
      refine j_iconst SS dX11_normal_17 ?_
      refine j_icmp_gt SS (tgt := 48) (x := what) (y := 2) dX11_normal_18 (by decide) (by omega) (by decide) (fun c_18 => ?_) (fun c_18 => ?_)
      · skip
        refine j_ldc SS (-1000000) kw_512 dX11_normal_48 ?_
        exact W.iret SS.1 SS.2.1 hr (fun t0 ht hW => ⟨_, rfl, ⟨(-1000000), rfl, (trivial)⟩, ht⟩) (fun _ h => nomatch h) dX11_normal_50 hlk
      · skip
        refine lv_iload_n SS.1 SS.2.1 dX11_normal_21 rfl (lv_at hl 3 rfl) ?_
        refine j_if_lt SS (tgt := 48) (x := i) dX11_normal_22 (by decide) (by omega) (fun c_22 => ?_) (fun c_22 => ?_)
        · skip
          refine j_ldc SS (-1000000) kw_512 dX11_normal_48 ?_
          exact W.iret SS.1 SS.2.1 hr (fun t0 ht hW => ⟨_, rfl, ⟨(-1000000), rfl, (trivial)⟩, ht⟩) (fun _ h => nomatch h) dX11_normal_50 hlk
        · skip
          refine lv_iload_n SS.1 SS.2.1 dX11_normal_25 rfl (lv_at hl 3 rfl) ?_
          refine lv_aload SS.1 SS.2.1 dX11_normal_26 (lv_at hl 0 rfl) ?_
          refine j_get SS hG hP (8 + 5 * i_2) (v := .ref (q (9 + 5 * i_2))) (C := RX10) (T := TX10) (N := 3) (cw_shape (by omega)) rfl inX10 0 (by decide) (ref := "GridPolygons$Shape") kw_151 rfl rfl dX11_normal_28 ?_
          refine j_getS SS hG hP (9 + 5 * i_2) (v := .int (J (u.1.2.2.1 i_2))) (C := RX7) (T := TX7) (N := 3) (cw_ring (by omega)) rfl inX7 2 (by decide) (ref := "GridPolygons$Ring") kw_135 kw_132 rfl dX11_normal_31 ?_
          refine j_icmp_ge SS (tgt := 48) (x := i) (y := (u.1.2.2.1 i_2)) dX11_normal_34 (by decide) (by omega) (by omega) (fun c_34 => ?_) (fun c_34 => ?_)
          · skip
            refine j_ldc SS (-1000000) kw_512 dX11_normal_48 ?_
            exact W.iret SS.1 SS.2.1 hr (fun t0 ht hW => ⟨_, rfl, ⟨(-1000000), rfl, (trivial)⟩, ht⟩) (fun _ h => nomatch h) dX11_normal_50 hlk
          · skip
            refine lv_aload SS.1 SS.2.1 dX11_normal_37 (lv_at hl 0 rfl) ?_
            refine j_get SS hG hP (8 + 5 * i_2) (v := .ref (q (9 + 5 * i_2))) (C := RX10) (T := TX10) (N := 3) (cw_shape (by omega)) rfl inX10 0 (by decide) (ref := "GridPolygons$Shape") kw_151 rfl rfl dX11_normal_39 ?_
            refine j_vRi SS (As := []) (rest := []) (c_X7_isRound l D q u i_2 (by omega) (80 : Int)  (show 0 ≤ (80 : Int) ∧ (80 : Int) ≤ 80 from (by omega)) (show RB (80 : Int) u i_2 from (show RB 80 u i_2 from CI_s p0 (by omega)))) mf_X7_isRound kw_794 hG hP hP (ci := 7) (q0 := (9 + 5 * i_2)) rfl (cw_ring (by omega)) rfl rfl hl.1 ⟨⟨Nat.le_of_ble_eq_true rfl, Nat.le_of_ble_eq_true rfl⟩, Nat.le_of_ble_eq_true rfl, Nat.le_refl _, Nat.le_refl _⟩ rfl dX11_normal_42 (fun z_42 h_42 => ?_)
            have h_42 : (z_42 = 1 ∧ 3 ≤ (u.1.2.2.1 i_2)) ∨ z_42 = 0 := h_42
            refine j_if_ne SS (tgt := 51) (x := z_42) dX11_normal_45 (by decide) (by omega) (fun c_45 => ?_) (fun c_45 => ?_)
            · skip
              refine lv_iload_n SS.1 SS.2.1 dX11_normal_51 rfl (lv_at hl 4 rfl) ?_
              refine j_if_ne SS (tgt := 65) (x := what) dX11_normal_52 (by decide) (by omega) (fun c_52 => ?_) (fun c_52 => ?_)
              · skip
                refine lv_iload_n SS.1 SS.2.1 dX11_normal_65 rfl (lv_at hl 4 rfl) ?_
                refine j_iconst SS dX11_normal_66 ?_
                refine j_icmp_ne SS (tgt := 82) (x := what) (y := 1) dX11_normal_67 (by decide) (by omega) (by decide) (fun c_67 => ?_) (fun c_67 => ?_)
                · skip
                  refine lv_aload SS.1 SS.2.1 dX11_normal_82 (lv_at hl 0 rfl) ?_
                  refine j_get SS hG hP (8 + 5 * i_2) (v := .ref (q (9 + 5 * i_2))) (C := RX10) (T := TX10) (N := 3) (cw_shape (by omega)) rfl inX10 0 (by decide) (ref := "GridPolygons$Shape") kw_151 rfl rfl dX11_normal_84 ?_
                  refine lv_iload_n SS.1 SS.2.1 dX11_normal_87 rfl (lv_at hl 3 rfl) ?_
                  refine j_vRi SS (As := [.int (J i)]) (rest := []) (c_X7_far l D q u i_2 (by omega) (80 : Int) i (show 0 ≤ (80 : Int) ∧ (80 : Int) ≤ 80 from (by omega)) (show RB (80 : Int) u i_2 from (show RB 80 u i_2 from CI_s p0 (by omega))) (show -1000 ≤ i ∧ i ≤ 1000 from (by omega))) mf_X7_far kw_808 hG hP hP (ci := 7) (q0 := (9 + 5 * i_2)) rfl (cw_ring (by omega)) rfl rfl hl.1 ⟨⟨Nat.le_of_ble_eq_true rfl, Nat.le_of_ble_eq_true rfl⟩, Nat.le_of_ble_eq_true rfl, Nat.le_refl _, Nat.le_refl _⟩ rfl dX11_normal_88 (fun z_88 h_88 => ?_)
                  have h_88 : -30000 ≤ z_88 ∧ z_88 ≤ 30000 := h_88
                  exact W.iret SS.1 SS.2.1 hr (fun t0 ht hW => ⟨_, rfl, ⟨z_88, rfl, (trivial)⟩, ht⟩) (fun _ h => nomatch h) dX11_normal_91 hlk
                · skip
                  refine lv_aload SS.1 SS.2.1 dX11_normal_70 (lv_at hl 0 rfl) ?_
                  refine j_get SS hG hP (8 + 5 * i_2) (v := .ref (q (9 + 5 * i_2))) (C := RX10) (T := TX10) (N := 3) (cw_shape (by omega)) rfl inX10 0 (by decide) (ref := "GridPolygons$Shape") kw_151 rfl rfl dX11_normal_72 ?_
                  refine lv_iload_n SS.1 SS.2.1 dX11_normal_75 rfl (lv_at hl 3 rfl) ?_
                  refine j_vRi SS (As := [.int (J i)]) (rest := []) (c_X7_normalB l D q u i_2 (by omega) (80 : Int) i (show 0 ≤ (80 : Int) ∧ (80 : Int) ≤ 80 from (by omega)) (show RB (80 : Int) u i_2 from (show RB 80 u i_2 from CI_s p0 (by omega))) (show -1000 ≤ i ∧ i ≤ 1000 from (by omega))) mf_X7_normalB kw_804 hG hP hP (ci := 7) (q0 := (9 + 5 * i_2)) rfl (cw_ring (by omega)) rfl rfl hl.1 ⟨⟨Nat.le_of_ble_eq_true rfl, Nat.le_of_ble_eq_true rfl⟩, Nat.le_of_ble_eq_true rfl, Nat.le_refl _, Nat.le_refl _⟩ rfl dX11_normal_76 (fun z_76 h_76 => ?_)
                  have h_76 : -160 ≤ z_76 ∧ z_76 ≤ 160 := h_76
                  refine lv_goto (tgt := 91) SS.1 SS.2.1 dX11_normal_79 (by decide) ?_
                  exact W.iret SS.1 SS.2.1 hr (fun t0 ht hW => ⟨_, rfl, ⟨z_76, rfl, (trivial)⟩, ht⟩) (fun _ h => nomatch h) dX11_normal_91 hlk
              · skip
                refine lv_aload SS.1 SS.2.1 dX11_normal_55 (lv_at hl 0 rfl) ?_
                refine j_get SS hG hP (8 + 5 * i_2) (v := .ref (q (9 + 5 * i_2))) (C := RX10) (T := TX10) (N := 3) (cw_shape (by omega)) rfl inX10 0 (by decide) (ref := "GridPolygons$Shape") kw_151 rfl rfl dX11_normal_57 ?_
                refine lv_iload_n SS.1 SS.2.1 dX11_normal_60 rfl (lv_at hl 3 rfl) ?_
                refine j_vRi SS (As := [.int (J i)]) (rest := []) (c_X7_normalA l D q u i_2 (by omega) (80 : Int) i (show 0 ≤ (80 : Int) ∧ (80 : Int) ≤ 80 from (by omega)) (show RB (80 : Int) u i_2 from (show RB 80 u i_2 from CI_s p0 (by omega))) (show -1000 ≤ i ∧ i ≤ 1000 from (by omega))) mf_X7_normalA kw_800 hG hP hP (ci := 7) (q0 := (9 + 5 * i_2)) rfl (cw_ring (by omega)) rfl rfl hl.1 ⟨⟨Nat.le_of_ble_eq_true rfl, Nat.le_of_ble_eq_true rfl⟩, Nat.le_of_ble_eq_true rfl, Nat.le_refl _, Nat.le_refl _⟩ rfl dX11_normal_61 (fun z_61 h_61 => ?_)
                have h_61 : -160 ≤ z_61 ∧ z_61 ≤ 160 := h_61
                exact W.iret SS.1 SS.2.1 hr (fun t0 ht hW => ⟨_, rfl, ⟨z_61, rfl, (trivial)⟩, ht⟩) (fun _ h => nomatch h) dX11_normal_64 hlk
            · skip
              refine j_ldc SS (-1000000) kw_512 dX11_normal_48 ?_
              exact W.iret SS.1 SS.2.1 hr (fun t0 ht hW => ⟨_, rfl, ⟨(-1000000), rfl, (trivial)⟩, ht⟩) (fun _ h => nomatch h) dX11_normal_50 hlk
  · skip
    refine lv_astoreN (lv' := [(4, .null), (0, .ref (q 0)), (1, .int (J s)), (2, .int (J i)), (3, .int (J what))]) SS.1 SS.2.1 dX11_normal_5 hl (by decide) rfl (fun ls hl => ?_)
    refine lv_aloadN SS.1 SS.2.1 dX11_normal_7 (lv_at hl 0 rfl) ?_
    refine lv_ifnullN SS.1 SS.2.1 (tgt := 48) dX11_normal_9 (by decide) ?_
    refine j_ldc SS (-1000000) kw_512 dX11_normal_48 ?_
    exact W.iret SS.1 SS.2.1 hr (fun t0 ht hW => ⟨_, rfl, ⟨(-1000000), rfl, (trivial)⟩, ht⟩) (fun _ h => nomatch h) dX11_normal_50 hlk


theorem CI_sl {u : CS} {a b c d e f : Int} (h : CI u) : CI (sV (sV (sV (sV (sV (sV u 4 a) 5 b) 6 c) 7 d) 8 e) 9 f) := h


theorem tm_a {a b K : Int} (h : -K ≤ a ∧ a ≤ K) : -K ≤ a.tmod b ∧ a.tmod b ≤ K := by
  have e : (a.tmod b).natAbs = a.natAbs % b.natAbs := Int.natAbs_tmod a b
  have q : a.natAbs % b.natAbs ≤ a.natAbs := Nat.mod_le _ _
  omega
theorem ar_b {u : CS} {r : Nat} {i t : Int} (h : 0 ≤ u.1.2.2.1 r ∧ u.1.2.2.1 r ≤ 400) (ht : t = 1 ∨ t = -1) (hi : -1000 ≤ i) : -1 ≤ ar u r i t ∧ ar u r i t ≤ 400 := by
  unfold ar; split
  · omega
  · split <;> omega

set_option maxHeartbeats 4000000 in
set_option maxRecDepth 100000 in
theorem c_X11_hasAtMost (l : Launch) (D : JD) (q : Nat → Nat) (u : CS) (r : Nat) (hr : r ≤ 8) (m : Int) (p0 : RB 40 u r) (p1 : -2147483648 ≤ m ∧ m ≤ 2147483647) : Met l yX11_hasAtMost (jw yX11_hasAtMost cX11_hasAtMost 2 (some .boolean)) (jr 6 128) (jP [.ref (q (9 + 5 * r)), .int (J m)] D (fun H => va_P D.1 j_cl (cW D q u) H)) (jRi (fun z => (z = 1 ∧ 3 ≤ u.1.2.2.1 r ∧ rE u r + rI u r ≤ m) ∨ z = 0)) 0 0 (fun _ => False) := by
  refine Met.ofW (cc := cX11_hasAtMost) (maxL := 2) (ret := (some .boolean)) (by decide) rfl ?_
  intro pr en st mi args below meth co s₁ B hml hv
  obtain ⟨rfl, hG, hP⟩ := hv
  have hr := B.returns
  have hlk := B.notSynchronized
  have SS : jS pr mi co cX11_hasAtMost 2 st _ RX11 := ⟨B.exec, B.bytes, hml, findClass_of_methodNamed B.named, fun w hw => atoms_spec (ws := (jw yX11_hasAtMost cX11_hasAtMost 2 (some .boolean))) B.pre w (List.mem_cons_of_mem _ hw)⟩
  have hl := lv_entry ([.ref (q (9 + 5 * r)), .int (J m)]) (n := 2) (Nat.le_of_ble_eq_true rfl)
  rw [lg_entry_eq]
  generalize (lg_sl ([.ref (q (9 + 5 * r)), .int (J m)]) ++ List.replicate (2 - (lg_sl ([.ref (q (9 + 5 * r)), .int (J m)])).length) Slot.unset).toArray = ls at hl ⊢
  have hl : lv_has ls 2 [(0, .ref (q (9 + 5 * r))), (1, .int (J m))] := hl
  have hc := p0.1
  have hrl := rl_b r
  refine lv_aload_n SS.1 SS.2.1 dX11_hasAtMost_0 rfl (lv_at hl 0 rfl) ?_
  refine j_vRi SS (As := []) (rest := []) (c_X7_isPolygon l D q u r (by omega) (40 : Int)  (show 0 ≤ (40 : Int) ∧ (40 : Int) ≤ 80 from (by omega)) (show RB (40 : Int) u r from (p0))) mf_X7_isPolygon kw_568 hG hP hP (ci := 7) (q0 := (9 + 5 * r)) rfl (cw_ring (by omega)) rfl rfl hl.1 ⟨⟨Nat.le_of_ble_eq_true rfl, Nat.le_of_ble_eq_true rfl⟩, Nat.le_of_ble_eq_true rfl, Nat.le_refl _, Nat.le_refl _⟩ rfl dX11_hasAtMost_1 (fun z_1 h_1 => ?_)
  have h_1 : (z_1 = 1 ∧ 3 ≤ (u.1.2.2.1 r)) ∨ (z_1 = 0 ∧ (u.1.2.2.1 r) < 3) := h_1
  refine j_if_eq SS (tgt := 19) (x := z_1) dX11_hasAtMost_4 (by decide) (by omega) (fun c_4 => ?_) (fun c_4 => ?_)
  · skip
    refine j_iconst SS dX11_hasAtMost_19 ?_
    exact W.zret SS.1 SS.2.1 hr (j_nz (by decide)) (fun t0 ht hW => ⟨_, rfl, ⟨0, rfl, (by omega)⟩, ht⟩) (fun _ h => nomatch h) dX11_hasAtMost_20 hlk
  · skip
    refine lv_aload_n SS.1 SS.2.1 dX11_hasAtMost_7 rfl (lv_at hl 0 rfl) ?_
    refine j_vRi SS (As := []) (rest := []) (c_X7_all l D q u r (by omega) (40 : Int)  (show 0 ≤ (40 : Int) ∧ (40 : Int) ≤ 80 from (by omega)) (show RB (40 : Int) u r from (p0))) mf_X7_all kw_553 hG hP hP (ci := 7) (q0 := (9 + 5 * r)) rfl (cw_ring (by omega)) rfl rfl hl.1 ⟨⟨Nat.le_of_ble_eq_true rfl, Nat.le_of_ble_eq_true rfl⟩, Nat.le_of_ble_eq_true rfl, Nat.le_refl _, Nat.le_refl _⟩ rfl dX11_hasAtMost_8 (fun z_8 h_8 => ?_)
    have h_8 : z_8 = rE u r + rI u r ∧ -7000000 ≤ z_8 ∧ z_8 ≤ 7000000 := h_8
    refine lv_iload_n SS.1 SS.2.1 dX11_hasAtMost_11 rfl (lv_at hl 1 rfl) ?_
    refine j_icmp_gt SS (tgt := 19) (x := z_8) (y := m) dX11_hasAtMost_12 (by decide) (by omega) (by omega) (fun c_12 => ?_) (fun c_12 => ?_)
    · skip
      refine j_iconst SS dX11_hasAtMost_19 ?_
      exact W.zret SS.1 SS.2.1 hr (j_nz (by decide)) (fun t0 ht hW => ⟨_, rfl, ⟨0, rfl, (by omega)⟩, ht⟩) (fun _ h => nomatch h) dX11_hasAtMost_20 hlk
    · skip
      refine j_iconst SS dX11_hasAtMost_15 ?_
      refine lv_goto (tgt := 20) SS.1 SS.2.1 dX11_hasAtMost_16 (by decide) ?_
      exact W.zret SS.1 SS.2.1 hr (j_nz (by decide)) (fun t0 ht hW => ⟨_, rfl, ⟨1, rfl, (by omega)⟩, ht⟩) (fun _ h => nomatch h) dX11_hasAtMost_20 hlk

set_option maxHeartbeats 4000000 in
set_option maxRecDepth 100000 in
theorem c_X11_segmentsOf (l : Launch) (D : JD) (q : Nat → Nat) (u : CS) (r : Nat) (hr : r ≤ 8) (p0 : RB 40 u r) : Met l yX11_segmentsOf (jw yX11_segmentsOf cX11_segmentsOf 1 (some .int)) (jr 4 88) (jP [.ref (q (9 + 5 * r))] D (fun H => va_P D.1 j_cl (cW D q u) H)) (jRi (fun z => z = (3 * rA u r + rE u r).tdiv 2 ∧ -50000000 ≤ z ∧ z ≤ 50000000)) 0 0 (fun _ => False) := by
  refine Met.ofW (cc := cX11_segmentsOf) (maxL := 1) (ret := (some .int)) (by decide) rfl ?_
  intro pr en st mi args below meth co s₁ B hml hv
  obtain ⟨rfl, hG, hP⟩ := hv
  have hr := B.returns
  have hlk := B.notSynchronized
  have SS : jS pr mi co cX11_segmentsOf 1 st _ RX11 := ⟨B.exec, B.bytes, hml, findClass_of_methodNamed B.named, fun w hw => atoms_spec (ws := (jw yX11_segmentsOf cX11_segmentsOf 1 (some .int))) B.pre w (List.mem_cons_of_mem _ hw)⟩
  have hl := lv_entry ([.ref (q (9 + 5 * r))]) (n := 1) (Nat.le_of_ble_eq_true rfl)
  rw [lg_entry_eq]
  generalize (lg_sl ([.ref (q (9 + 5 * r))]) ++ List.replicate (1 - (lg_sl ([.ref (q (9 + 5 * r))])).length) Slot.unset).toArray = ls at hl ⊢
  have hl : lv_has ls 1 [(0, .ref (q (9 + 5 * r)))] := hl
  have hc := p0.1
  have hrl := rl_b r
  refine j_iconst SS dX11_segmentsOf_0 ?_
  refine lv_aload_n SS.1 SS.2.1 dX11_segmentsOf_1 rfl (lv_at hl 0 rfl) ?_
  refine j_vRi SS (As := []) (rest := [.int (J 3)]) (c_X7_area l D q u r (by omega) (40 : Int)  (show 0 ≤ (40 : Int) ∧ (40 : Int) ≤ 80 from (by omega)) (show RB (40 : Int) u r from (p0))) mf_X7_area kw_517 hG hP hP (ci := 7) (q0 := (9 + 5 * r)) rfl (cw_ring (by omega)) rfl rfl hl.1 ⟨⟨Nat.le_of_ble_eq_true rfl, Nat.le_of_ble_eq_true rfl⟩, Nat.le_of_ble_eq_true rfl, Nat.le_refl _, Nat.le_refl _⟩ rfl dX11_segmentsOf_2 (fun z_2 h_2 => ?_)
  have h_2 : z_2 = rA u r ∧ -10000000 ≤ z_2 ∧ z_2 ≤ 10000000 := h_2
  refine j_imul SS (x := 3) (y := z_2) dX11_segmentsOf_5 ?_
  refine lv_aload_n SS.1 SS.2.1 dX11_segmentsOf_6 rfl (lv_at hl 0 rfl) ?_
  refine j_vRi SS (As := []) (rest := [.int (J (3 * z_2))]) (c_X7_onEdge l D q u r (by omega) (40 : Int)  (show 0 ≤ (40 : Int) ∧ (40 : Int) ≤ 80 from (by omega)) (show RB (40 : Int) u r from (p0))) mf_X7_onEdge kw_533 hG hP hP (ci := 7) (q0 := (9 + 5 * r)) rfl (cw_ring (by omega)) rfl rfl hl.1 ⟨⟨Nat.le_of_ble_eq_true rfl, Nat.le_of_ble_eq_true rfl⟩, Nat.le_of_ble_eq_true rfl, Nat.le_refl _, Nat.le_refl _⟩ rfl dX11_segmentsOf_7 (fun z_7 h_7 => ?_)
  have h_7 : z_7 = rE u r ∧ 0 ≤ z_7 ∧ z_7 ≤ 60000 := h_7
  refine j_iadd SS (x := (3 * z_2)) (y := z_7) dX11_segmentsOf_10 ?_
  refine j_iconst SS dX11_segmentsOf_11 ?_
  have td := td_half (a := 3 * z_2 + z_7) (K := 40000000) (by omega)
  refine j_idiv SS (x := ((3 * z_2) + z_7)) (y := 2) dX11_segmentsOf_12 (by omega) (by decide) (by decide) ?_
  exact W.iret SS.1 SS.2.1 hr (fun t0 ht hW => ⟨_, rfl, ⟨(Int.tdiv ((3 * z_2) + z_7) 2), rfl, (⟨by rw [h_2.1, h_7.1], by omega, by omega⟩)⟩, ht⟩) (fun _ h => nomatch h) dX11_segmentsOf_13 hlk

theorem CI_lw {u : CS} {a b c : Int} (h : CI u) : CI (sV (sV (sV u 1 a) 2 b) 3 c) := h

