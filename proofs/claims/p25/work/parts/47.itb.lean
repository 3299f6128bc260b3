
set_option maxHeartbeats 4000000 in
set_option maxRecDepth 100000 in
theorem c_X7_coordinate3 (l : Launch) (D : JD) (q : Nat → Nat) (u : CS) (r : Nat) (hr : r ≤ 8) (K : Int) (i : Int) (w : Int) (p0 : 0 ≤ K ∧ K ≤ 80) (p1 : RB K u r) (p2 : 0 ≤ i ∧ i ≤ 2147483647) (p3 : -2147483648 ≤ w ∧ w ≤ 2147483647) : Met l yX7_coordinate (jw yX7_coordinate cX7_coordinate 7 (some .int)) (jr 3 68) (jP [.ref (q (9 + 5 * r)), .int (J i), .int (J w)] D (fun H => va_P D.1 j_cl (cW D q u) H)) (jRi (fun z => crd u r i w z ∧ wRg z)) 0 0 (fun _ => False) := by
  refine Met.ofW (cc := cX7_coordinate) (maxL := 7) (ret := (some .int)) (by decide) rfl ?_
  intro pr en st mi args below meth co s₁ B hml hv
  obtain ⟨rfl, hG, hP⟩ := hv
  have hr := B.returns
  have hlk := B.notSynchronized
  have SS : jS pr mi co cX7_coordinate 7 st _ RX7 := ⟨B.exec, B.bytes, hml, findClass_of_methodNamed B.named, fun w hw => atoms_spec (ws := (jw yX7_coordinate cX7_coordinate 7 (some .int))) B.pre w (List.mem_cons_of_mem _ hw)⟩
  have hl := lv_entry ([.ref (q (9 + 5 * r)), .int (J i), .int (J w)]) (n := 7) (Nat.le_of_ble_eq_true rfl)
  rw [lg_entry_eq]
  generalize (lg_sl ([.ref (q (9 + 5 * r)), .int (J i), .int (J w)]) ++ List.replicate (7 - (lg_sl ([.ref (q (9 + 5 * r)), .int (J i), .int (J w)])).length) Slot.unset).toArray = ls at hl ⊢
  have hl : lv_has ls 7 [(0, .ref (q (9 + 5 * r))), (1, .int (J i)), (2, .int (J w))] := hl
  have hc := p1.1
  have hrl := rl_b r
  refine lv_aload_n SS.1 SS.2.1 dX7_coordinate_0 rfl (lv_at hl 0 rfl) ?_
  refine j_getS SS hG hP (9 + 5 * r) (v := .int (J (u.1.2.2.1 r))) (C := RX7) (T := TX7) (N := 3) (cw_ring (by omega)) rfl inX7 2 (by decide) (ref := "GridPolygons$Ring") kw_131 kw_132 rfl dX7_coordinate_1 ?_
  refine j_if_ne SS (tgt := 10) (x := (u.1.2.2.1 r)) dX7_coordinate_4 (by decide) (by omega) (fun c_4 => ?_) (fun c_4 => ?_)
  · skip
    refine lv_iload_n SS.1 SS.2.1 dX7_coordinate_10 rfl (lv_at hl 1 rfl) ?_
    refine lv_istore_n (lv' := [(3, .int (J i)), (0, .ref (q (9 + 5 * r))), (1, .int (J i)), (2, .int (J w))]) SS.1 SS.2.1 dX7_coordinate_11 rfl hl (by decide) rfl (fun ls hl => ?_)
    refine lv_aload_n SS.1 SS.2.1 dX7_coordinate_12 rfl (lv_at hl 1 rfl) ?_
    refine j_vRi SS (As := []) (rest := []) (c_X7_leftmost l D q u r (by omega) K  (show 0 ≤ K ∧ K ≤ 80 from (p0)) (show RB K u r from (p1))) mf_X7_leftmost kw_585 hG hP hP (ci := 7) (q0 := (9 + 5 * r)) rfl (cw_ring (by omega)) rfl rfl hl.1 ⟨⟨Nat.le_of_ble_eq_true rfl, Nat.le_of_ble_eq_true rfl⟩, Nat.le_of_ble_eq_true rfl, Nat.le_refl _, Nat.le_refl _⟩ rfl dX7_coordinate_13 (fun z_13 h_13 => ?_)
    have h_13 : z_13 = rx u r 0 ∧ -K ≤ z_13 ∧ z_13 ≤ K := h_13
    refine lv_istore (lv' := [(4, .int (J z_13)), (3, .int (J i)), (0, .ref (q (9 + 5 * r))), (1, .int (J i)), (2, .int (J w))]) SS.1 SS.2.1 dX7_coordinate_16 hl (by decide) rfl (fun ls hl => ?_)
    have L_18 : ∀ (nn : Nat) (lf : Int) (x : Int) (ls : Array Slot) (hl : lv_has ls 7 [(0, .ref (q (9 + 5 * r))), (1, .int (J i)), (2, .int (J w)), (3, .int (J lf)), (4, .int (J x))]) (i18_0 : 0 ≤ lf ∧ lf ≤ i) (i18_1 : -80 ≤ x ∧ x ≤ 81) (i18_2 : rx u r 0 ≤ x) (i18_3 : ∃ X Y : Nat → Int, OL (fun a b => inC u r a b ∧ a < x) (i - lf) X Y), ((82 : Int) - x).toNat < nn → W pr l en (headSpec (jw yX7_coordinate cX7_coordinate 7 (some .int)) (jr 3 68)).room st mi (([.ref (q (9 + 5 * r)), .int (J i), .int (J w)] : List Value).toArray) below meth co st.heap [] 0 0 (MQ below (jRi (fun z => crd u r i w z ∧ wRg z)) (([.ref (q (9 + 5 * r)), .int (J i), .int (J w)] : List Value).toArray) st 0 0 (fun _ => False)) (F0 mi 18 ls []) := by
      intro nn
      induction nn with
      | zero => intros; omega
      | succ nn ih_18 =>
        intro lf x ls hl i18_0 i18_1 i18_2 i18_3 hm
        refine lv_iload SS.1 SS.2.1 dX7_coordinate_18 (lv_at hl 4 rfl) ?_
        refine lv_aload_n SS.1 SS.2.1 dX7_coordinate_20 rfl (lv_at hl 0 rfl) ?_
        refine j_vRi SS (As := []) (rest := [.int (J x)]) (c_X7_rightmost3 l D q u r (by omega) K  (show 0 ≤ K ∧ K ≤ 80 from (p0)) (show RB K u r from (p1)) (show 1 ≤ (u.1.2.2.1 r) from (by omega))) mf_X7_rightmost kw_589 hG hP hP (ci := 7) (q0 := (9 + 5 * r)) rfl (cw_ring (by omega)) rfl rfl hl.1 ⟨⟨Nat.le_of_ble_eq_true rfl, Nat.le_of_ble_eq_true rfl⟩, Nat.le_of_ble_eq_true rfl, Nat.le_refl _, Nat.le_refl _⟩ rfl dX7_coordinate_21 (fun z_21 h_21 => ?_)
        have h_21 : (-K ≤ z_21 ∧ z_21 ≤ K) ∧ (∀ a : Int, 0 ≤ a → a < (u.1.2.2.1 r) → rx u r a ≤ z_21) ∧ ∃ a : Int, 0 ≤ a ∧ a < (u.1.2.2.1 r) ∧ rx u r a = z_21 := h_21
        refine j_icmp_gt SS (tgt := 83) (x := x) (y := z_21) dX7_coordinate_24 (by decide) (by omega) (by omega) (fun c_24 => ?_) (fun c_24 => ?_)
        · skip
          refine j_ldc SS (-1000000) kw_622 dX7_coordinate_83 ?_
          exact W.iret SS.1 SS.2.1 hr (fun t0 ht hW => ⟨_, rfl, ⟨(-1000000), rfl, (by obtain ⟨X, Y, hO⟩ := i18_3; exact ⟨Or.inl ⟨i - lf, X, Y, OL_c hO (fun a b => ⟨fun q => q.1, fun q => ⟨q, by obtain ⟨c, c0, c1, c2⟩ := q.2.2.1; have := h_21.2.1 c c0 c1; omega⟩⟩), by omega, rfl⟩, by unfold wRg; omega⟩)⟩, ht⟩) (fun _ h => nomatch h) dX7_coordinate_85 hlk
        · skip
          refine lv_aload_n SS.1 SS.2.1 dX7_coordinate_27 rfl (lv_at hl 0 rfl) ?_
          refine lv_iload SS.1 SS.2.1 dX7_coordinate_28 (lv_at hl 4 rfl) ?_
          refine j_vRi SS (As := [.int (J x)]) (rest := []) (c_X7_lowestAt3 l D q u r (by omega) K x (show 0 ≤ K ∧ K ≤ 80 from (p0)) (show RB K u r from (p1)) (show -200 ≤ x ∧ x ≤ 200 from (by omega)) (show 1 ≤ (u.1.2.2.1 r) from (by omega))) mf_X7_lowestAt kw_594 hG hP hP (ci := 7) (q0 := (9 + 5 * r)) rfl (cw_ring (by omega)) rfl rfl hl.1 ⟨⟨Nat.le_of_ble_eq_true rfl, Nat.le_of_ble_eq_true rfl⟩, Nat.le_of_ble_eq_true rfl, Nat.le_refl _, Nat.le_refl _⟩ rfl dX7_coordinate_30 (fun z_30 h_30 => ?_)
          have h_30 : (-K ≤ z_30 ∧ z_30 ≤ 60000) ∧ (∀ y : Int, z_30 ≤ y ↔ loC u r x y ((u.1.2.2.1 r))) := h_30
          refine lv_istore (lv' := [(5, .int (J z_30)), (0, .ref (q (9 + 5 * r))), (1, .int (J i)), (2, .int (J w)), (3, .int (J lf)), (4, .int (J x))]) SS.1 SS.2.1 dX7_coordinate_33 hl (by decide) rfl (fun ls hl => ?_)
          refine j_iconst SS dX7_coordinate_35 ?_
          refine lv_aload_n SS.1 SS.2.1 dX7_coordinate_36 rfl (lv_at hl 1 rfl) ?_
          refine lv_iload SS.1 SS.2.1 dX7_coordinate_37 (lv_at hl 5 rfl) ?_
          refine j_vRi SS (As := [.int (J x)]) (rest := [.int (J 0)]) (c_X7_highestAt3 l D q u r (by omega) K x (show 0 ≤ K ∧ K ≤ 80 from (p0)) (show RB K u r from (p1)) (show -200 ≤ x ∧ x ≤ 200 from (by omega)) (show 1 ≤ (u.1.2.2.1 r) from (by omega))) mf_X7_highestAt kw_606 hG hP hP (ci := 7) (q0 := (9 + 5 * r)) rfl (cw_ring (by omega)) rfl rfl hl.1 ⟨⟨Nat.le_of_ble_eq_true rfl, Nat.le_of_ble_eq_true rfl⟩, Nat.le_of_ble_eq_true rfl, Nat.le_refl _, Nat.le_refl _⟩ rfl dX7_coordinate_39 (fun z_39 h_39 => ?_)
          have h_39 : (-60000 ≤ z_39 ∧ z_39 ≤ K) ∧ (∀ y : Int, y ≤ z_39 ↔ hiC u r x y ((u.1.2.2.1 r))) := h_39
          refine lv_iload SS.1 SS.2.1 dX7_coordinate_42 (lv_at hl 0 rfl) ?_
          refine j_isub SS (x := z_39) (y := z_30) dX7_coordinate_44 ?_
          refine j_iconst SS dX7_coordinate_45 ?_
          refine j_iadd SS (x := (z_39 - z_30)) (y := 1) dX7_coordinate_46 ?_
          refine j_sRi SS (As := [.int (J 0), .int (J ((z_39 - z_30) + 1))]) (rest := []) (c_J9_max_7cf53 l D  0 ((z_39 - z_30) + 1) (show -2147483648 ≤ (0 : Int) ∧ (0 : Int) ≤ 2147483647 from (by omega)) (show -2147483648 ≤ ((z_39 - z_30) + 1) ∧ ((z_39 - z_30) + 1) ≤ 2147483647 from (by omega))) mf_J9_max_7cf53 kw_593 hG trivial rfl hl.1 ⟨⟨Nat.le_of_ble_eq_true rfl, Nat.le_of_ble_eq_true rfl⟩, Nat.le_of_ble_eq_true rfl, Nat.le_refl _, Nat.le_refl _⟩ rfl dX7_coordinate_47 (fun z_47 h_47 => ?_)
          have h_47 : (z_47 = (0 : Int) ∨ z_47 = ((z_39 - z_30) + 1)) ∧ (0 : Int) ≤ z_47 ∧ ((z_39 - z_30) + 1) ≤ z_47 := h_47
          refine lv_istore (lv' := [(6, .int (J z_47)), (5, .int (J z_30)), (0, .ref (q (9 + 5 * r))), (1, .int (J i)), (2, .int (J w)), (3, .int (J lf)), (4, .int (J x))]) SS.1 SS.2.1 dX7_coordinate_50 hl (by decide) rfl (fun ls hl => ?_)
          refine lv_iload_n SS.1 SS.2.1 dX7_coordinate_52 rfl (lv_at hl 5 rfl) ?_
          refine lv_iload SS.1 SS.2.1 dX7_coordinate_53 (lv_at hl 0 rfl) ?_
          refine j_icmp_ge SS (tgt := 72) (x := lf) (y := z_47) dX7_coordinate_55 (by decide) (by omega) (by omega) (fun c_55 => ?_) (fun c_55 => ?_)
          · skip
            refine lv_iload_n SS.1 SS.2.1 dX7_coordinate_72 rfl (lv_at hl 5 rfl) ?_
            refine lv_iload SS.1 SS.2.1 dX7_coordinate_73 (lv_at hl 0 rfl) ?_
            refine j_isub SS (x := lf) (y := z_47) dX7_coordinate_75 ?_
            refine lv_istore_n (lv' := [(3, .int (J (lf - z_47))), (6, .int (J z_47)), (5, .int (J z_30)), (0, .ref (q (9 + 5 * r))), (1, .int (J i)), (2, .int (J w)), (4, .int (J x))]) SS.1 SS.2.1 dX7_coordinate_76 rfl hl (by decide) rfl (fun ls hl => ?_)
            refine lv_iinc (v := J (x + 1)) (lv' := [(4, .int (J (x + 1))), (3, .int (J (lf - z_47))), (6, .int (J z_47)), (5, .int (J z_30)), (0, .ref (q (9 + 5 * r))), (1, .int (J i)), (2, .int (J w))]) SS.1 SS.2.1 dX7_coordinate_77 hl (k := 6) rfl (J_add _ _) (by decide) rfl (fun ls hl => ?_)
            refine lv_goto (tgt := 18) SS.1 SS.2.1 dX7_coordinate_80 (by decide) ?_
            exact ih_18 (lf - z_47) (x + 1) ls (lv_sub hl [4, 5, 6, 1, 0] rfl) (by omega) (by omega) (by omega) (by obtain ⟨X, Y, hO⟩ := i18_3; obtain ⟨X2, Y2, hO2⟩ := OL_col hO (fun a => crd_col (by omega) i18_2 (by obtain ⟨b, b0, b1, b2⟩ := h_21.2.2; exact ⟨b, b0, b1, by omega⟩) h_30.2 h_39.2 a) z_47.toNat (by omega); exact ⟨X2, Y2, by rw [show i - (lf - z_47) = i - lf + (z_47.toNat : Int) by omega]; exact OL_c hO2 (fun a b => ⟨fun q => ⟨q.1, by omega⟩, fun q => ⟨q.1, by by_cases e : a = x; (have q1 := q.1; rw [e] at q1; have q2 := (crd_col (by omega) i18_2 (by obtain ⟨c, c0, c1, c2⟩ := h_21.2.2; exact ⟨c, c0, c1, by omega⟩) h_30.2 h_39.2 b).mp q1; omega); have := q.2; omega⟩⟩)⟩) (by omega)
          · skip
            refine lv_iload_n SS.1 SS.2.1 dX7_coordinate_58 rfl (lv_at hl 4 rfl) ?_
            refine j_if_ne SS (tgt := 67) (x := w) dX7_coordinate_59 (by decide) (by omega) (fun c_59 => ?_) (fun c_59 => ?_)
            · skip
              refine lv_iload SS.1 SS.2.1 dX7_coordinate_67 (lv_at hl 1 rfl) ?_
              refine lv_iload_n SS.1 SS.2.1 dX7_coordinate_69 rfl (lv_at hl 5 rfl) ?_
              refine j_iadd SS (x := z_30) (y := lf) dX7_coordinate_70 ?_
              exact W.iret SS.1 SS.2.1 hr (fun t0 ht hW => ⟨_, rfl, ⟨(z_30 + lf), rfl, (by obtain ⟨X, Y, hO⟩ := i18_3; obtain ⟨X2, Y2, hO2⟩ := OL_col hO (fun a => crd_col (by omega) i18_2 (by obtain ⟨b, b0, b1, b2⟩ := h_21.2.2; exact ⟨b, b0, b1, by omega⟩) h_30.2 h_39.2 a) lf.toNat (by omega); exact ⟨Or.inr ⟨x, z_30 + lf, X2, Y2, (crd_col (by omega) i18_2 (by obtain ⟨b, b0, b1, b2⟩ := h_21.2.2; exact ⟨b, b0, b1, by omega⟩) h_30.2 h_39.2 _).mpr (by omega), by rw [show i = i - lf + (lf.toNat : Int) by omega]; refine OL_c hO2 (fun a b => ?_); rw [show ((lf.toNat : Nat) : Int) = lf by omega]; exact Iff.rfl, by first | exact Or.inl ⟨by omega, rfl⟩ | exact Or.inr ⟨by omega, rfl⟩⟩, by unfold wRg; omega⟩)⟩, ht⟩) (fun _ h => nomatch h) dX7_coordinate_71 hlk
            · skip
              refine lv_iload SS.1 SS.2.1 dX7_coordinate_62 (lv_at hl 6 rfl) ?_
              refine lv_goto (tgt := 71) SS.1 SS.2.1 dX7_coordinate_64 (by decide) ?_
              exact W.iret SS.1 SS.2.1 hr (fun t0 ht hW => ⟨_, rfl, ⟨x, rfl, (by obtain ⟨X, Y, hO⟩ := i18_3; obtain ⟨X2, Y2, hO2⟩ := OL_col hO (fun a => crd_col (by omega) i18_2 (by obtain ⟨b, b0, b1, b2⟩ := h_21.2.2; exact ⟨b, b0, b1, by omega⟩) h_30.2 h_39.2 a) lf.toNat (by omega); exact ⟨Or.inr ⟨x, z_30 + lf, X2, Y2, (crd_col (by omega) i18_2 (by obtain ⟨b, b0, b1, b2⟩ := h_21.2.2; exact ⟨b, b0, b1, by omega⟩) h_30.2 h_39.2 _).mpr (by omega), by rw [show i = i - lf + (lf.toNat : Int) by omega]; refine OL_c hO2 (fun a b => ?_); rw [show ((lf.toNat : Nat) : Int) = lf by omega]; exact Iff.rfl, by first | exact Or.inl ⟨by omega, rfl⟩ | exact Or.inr ⟨by omega, rfl⟩⟩, by unfold wRg; omega⟩)⟩, ht⟩) (fun _ h => nomatch h) dX7_coordinate_71 hlk
    exact L_18 (((82 : Int) - z_13).toNat + 1) i z_13 ls (lv_sub hl [2, 3, 4, 1, 0] rfl) (by omega) (by omega) (by rw [h_13.1]; omega) (⟨fun _ => 0, fun _ => 0, by rw [show i - i = 0 by omega]; exact OL_0 (fun a b q => by have q1 := q.1.2.1; have q2 := q.2; rw [h_13.1] at q2; omega)⟩) (Nat.lt_succ_self _)
  · skip
    refine j_ldc SS (-1000000) kw_622 dX7_coordinate_7 ?_
    exact W.iret SS.1 SS.2.1 hr (fun t0 ht hW => ⟨_, rfl, ⟨(-1000000), rfl, (⟨Or.inl ⟨0, fun _ => 0, fun _ => 0, OL_0 (fun a b q => q.1 (by omega)), by omega, rfl⟩, by unfold wRg; omega⟩)⟩, ht⟩) (fun _ h => nomatch h) dX7_coordinate_9 hlk

set_option maxHeartbeats 4000000 in
set_option maxRecDepth 100000 in
theorem c_X11_pointN (l : Launch) (D : JD) (q : Nat → Nat) (u : CS) (s : Int) (i : Int) (what : Int) (p0 : CI u) (p1 : -2147483648 ≤ s ∧ s ≤ 2147483647) (p2 : -2147483648 ≤ i ∧ i ≤ 2147483647) (p3 : -2147483648 ≤ what ∧ what ≤ 2147483647) : Met l yX11_point (jw yX11_point cX11_point 5 (some .int)) (jr 4 94) (jP [.ref (q 0), .int (J s), .int (J i), .int (J what)] D (fun H => va_P D.1 j_cl (cW D q u) H)) (jRi (fun z => ptC u s i what z ∧ wRg z)) 0 0 (fun _ => False) := by
  refine Met.ofW (cc := cX11_point) (maxL := 5) (ret := (some .int)) (by decide) rfl ?_
  intro pr en st mi args below meth co s₁ B hml hv
  obtain ⟨rfl, hG, hP⟩ := hv
  have hr := B.returns
  have hlk := B.notSynchronized
  have SS : jS pr mi co cX11_point 5 st _ RX11 := ⟨B.exec, B.bytes, hml, findClass_of_methodNamed B.named, fun w hw => atoms_spec (ws := (jw yX11_point cX11_point 5 (some .int))) B.pre w (List.mem_cons_of_mem _ hw)⟩
  have hl := lv_entry ([.ref (q 0), .int (J s), .int (J i), .int (J what)]) (n := 5) (Nat.le_of_ble_eq_true rfl)
  rw [lg_entry_eq]
  generalize (lg_sl ([.ref (q 0), .int (J s), .int (J i), .int (J what)]) ++ List.replicate (5 - (lg_sl ([.ref (q 0), .int (J s), .int (J i), .int (J what)])).length) Slot.unset).toArray = ls at hl ⊢
  have hl : lv_has ls 5 [(0, .ref (q 0)), (1, .int (J s)), (2, .int (J i)), (3, .int (J what))] := hl
  refine lv_aload_n SS.1 SS.2.1 dX11_point_0 rfl (lv_at hl 0 rfl) ?_
  refine lv_iload_n SS.1 SS.2.1 dX11_point_1 rfl (lv_at hl 1 rfl) ?_
  refine j_vSh SS (As := [.int (J s)]) (rest := []) (c_X11_shapeAt l D q u  s (show -2147483648 ≤ s ∧ s ≤ 2147483647 from (p1))) mf_X11_shapeAt kw_414 hG hP hP (ci := 11) (q0 := 0) rfl rfl rfl rfl hl.1 ⟨⟨Nat.le_of_ble_eq_true rfl, Nat.le_of_ble_eq_true rfl⟩, Nat.le_of_ble_eq_true rfl, Nat.le_refl _, Nat.le_refl _⟩ rfl dX11_point_2 (fun i_2 hi_2 hz_2 => ?_) (fun hn_2 => ?_)
  · skip
    have hI2 := CI_s p0 (show i_2 < 8 by omega)
    have hI2c := hI2.1
    have hrl2 := rl_s (show i_2 < 8 by omega)
    refine lv_astore (lv' := [(4, .ref (q (8 + 5 * i_2))), (0, .ref (q 0)), (1, .int (J s)), (2, .int (J i)), (3, .int (J what))]) SS.1 SS.2.1 dX11_point_5 hl (by decide) rfl (fun ls hl => ?_)
    refine lv_aload SS.1 SS.2.1 dX11_point_7 (lv_at hl 0 rfl) ?_
    refine lv_ifnull SS.1 SS.2.1 dX11_point_9 ?_
    refine lv_iload_n SS.1 SS.2.1 dX11_point_12 rfl (lv_at hl 3 rfl) ?_
    refine j_if_lt SS (tgt := 25) (x := i) dX11_point_13 (by decide) (by omega) (fun c_13 => ?_) (fun c_13 => ?_)
    · skip
      refine j_ldc SS (-1000000) kw_512 dX11_point_25 ?_
      exact W.iret SS.1 SS.2.1 hr (fun t0 ht hW => ⟨_, rfl, ⟨(-1000000), rfl, (by first | exact ⟨Or.inl ⟨fun q => by unfold ptP at q; omega, rfl⟩, by unfold wRg; omega⟩ | exact ⟨Or.inr ⟨by unfold ptP; omega, by rw [show s.toNat = i_2 by omega]; exact h_35.1⟩, h_35.2⟩)⟩, ht⟩) (fun _ h => nomatch h) dX11_point_27 hlk
    · skip
      refine lv_iload_n SS.1 SS.2.1 dX11_point_16 rfl (lv_at hl 4 rfl) ?_
      refine j_if_lt SS (tgt := 25) (x := what) dX11_point_17 (by decide) (by omega) (fun c_17 => ?_) (fun c_17 => ?_)
      · skip
        refine j_ldc SS (-1000000) kw_512 dX11_point_25 ?_
        exact W.iret SS.1 SS.2.1 hr (fun t0 ht hW => ⟨_, rfl, ⟨(-1000000), rfl, (by first | exact ⟨Or.inl ⟨fun q => by unfold ptP at q; omega, rfl⟩, by unfold wRg; omega⟩ | exact ⟨Or.inr ⟨by unfold ptP; omega, by rw [show s.toNat = i_2 by omega]; exact h_35.1⟩, h_35.2⟩)⟩, ht⟩) (fun _ h => nomatch h) dX11_point_27 hlk
      · skip
        refine lv_iload_n SS.1 SS.2.1 dX11_point_20 rfl (lv_at hl 4 rfl) ?_
        refine j_iconst SS dX11_point_21 ?_
        refine j_icmp_le SS (tgt := 28) (x := what) (y := 1) dX11_point_22 (by decide) (by omega) (by decide) (fun c_22 => ?_) (fun c_22 => ?_)
        · skip
          refine lv_aload SS.1 SS.2.1 dX11_point_28 (lv_at hl 0 rfl) ?_
          refine j_get SS hG hP (8 + 5 * i_2) (v := .ref (q (9 + 5 * i_2))) (C := RX10) (T := TX10) (N := 3) (cw_shape (by omega)) rfl inX10 0 (by decide) (ref := "GridPolygons$Shape") kw_151 rfl rfl dX11_point_30 ?_
          refine lv_iload_n SS.1 SS.2.1 dX11_point_33 rfl (lv_at hl 3 rfl) ?_
          refine lv_iload_n SS.1 SS.2.1 dX11_point_34 rfl (lv_at hl 4 rfl) ?_
          refine j_vRi SS (As := [.int (J i), .int (J what)]) (rest := []) (c_X7_coordinate3 l D q u i_2 (by omega) (80 : Int) i what (show 0 ≤ (80 : Int) ∧ (80 : Int) ≤ 80 from (by omega)) (show RB (80 : Int) u i_2 from (show RB 80 u i_2 from CI_s p0 (by omega))) (show 0 ≤ i ∧ i ≤ 2147483647 from (by omega)) (show -2147483648 ≤ what ∧ what ≤ 2147483647 from (p3))) mf_X7_coordinate kw_618 hG hP hP (ci := 7) (q0 := (9 + 5 * i_2)) rfl (cw_ring (by omega)) rfl rfl hl.1 ⟨⟨Nat.le_of_ble_eq_true rfl, Nat.le_of_ble_eq_true rfl⟩, Nat.le_of_ble_eq_true rfl, Nat.le_refl _, Nat.le_refl _⟩ rfl dX11_point_35 (fun z_35 h_35 => ?_)
          have h_35 : crd u i_2 i what z_35 ∧ wRg z_35 := h_35
          exact W.iret SS.1 SS.2.1 hr (fun t0 ht hW => ⟨_, rfl, ⟨z_35, rfl, (by first | exact ⟨Or.inl ⟨fun q => by unfold ptP at q; omega, rfl⟩, by unfold wRg; omega⟩ | exact ⟨Or.inr ⟨by unfold ptP; omega, by rw [show s.toNat = i_2 by omega]; exact h_35.1⟩, h_35.2⟩)⟩, ht⟩) (fun _ h => nomatch h) dX11_point_38 hlk
        · skip
          refine j_ldc SS (-1000000) kw_512 dX11_point_25 ?_
          exact W.iret SS.1 SS.2.1 hr (fun t0 ht hW => ⟨_, rfl, ⟨(-1000000), rfl, (by first | exact ⟨Or.inl ⟨fun q => by unfold ptP at q; omega, rfl⟩, by unfold wRg; omega⟩ | exact ⟨Or.inr ⟨by unfold ptP; omega, by rw [show s.toNat = i_2 by omega]; exact h_35.1⟩, h_35.2⟩)⟩, ht⟩) (fun _ h => nomatch h) dX11_point_27 hlk
  · skip
    refine lv_astoreN (lv' := [(4, .null), (0, .ref (q 0)), (1, .int (J s)), (2, .int (J i)), (3, .int (J what))]) SS.1 SS.2.1 dX11_point_5 hl (by decide) rfl (fun ls hl => ?_)
    refine lv_aloadN SS.1 SS.2.1 dX11_point_7 (lv_at hl 0 rfl) ?_
    refine lv_ifnullN SS.1 SS.2.1 (tgt := 25) dX11_point_9 (by decide) ?_
    refine j_ldc SS (-1000000) kw_512 dX11_point_25 ?_
    exact W.iret SS.1 SS.2.1 hr (fun t0 ht hW => ⟨_, rfl, ⟨(-1000000), rfl, (by first | exact ⟨Or.inl ⟨fun q => by unfold ptP at q; omega, rfl⟩, by unfold wRg; omega⟩ | exact ⟨Or.inr ⟨by unfold ptP; omega, by rw [show s.toNat = i_2 by omega]; exact h_35.1⟩, h_35.2⟩)⟩, ht⟩) (fun _ h => nomatch h) dX11_point_27 hlk


/-! sums round about -/
/-- the area by the numbers of the corners, taken round about -/
def ar0 (X Y : Int → Int) (n : Int) : Int := smI (fun i => X (i % n) * Y ((i + 1) % n) - X ((i + 1) % n) * Y (i % n)) n
/-- a linear map takes the corners of one, from its first one on, to those of the other, from j on or back -/
def AF (PX PY QX QY : Int → Int) (n j t a b c e : Int) : Prop := ∀ i : Int, 0 ≤ i → i < n → a * (PX i - PX 0) + b * (PY i - PY 0) = QX ((j + t * i) % n) - QX j ∧ c * (PX i - PX 0) + e * (PY i - PY 0) = QY ((j + t * i) % n) - QY j
def AFF (PX PY QX QY : Int → Int) (n j t : Int) : Prop := ∃ a b c e : Int, (a * e - b * c = 1 ∨ a * e - b * c = -1) ∧ AF PX PY QX QY n j t a b c e
def AFC (PX PY QX QY : Int → Int) (n j t : Int) : Prop := ∃ a b c e : Int, a * e - b * c = t ∧ AF PX PY QX QY n j t a b c e
theorem tmn {x n : Int} (hn : 0 < n) (h : 0 ≤ x + n) : (x + n).tmod n = x % n := by
  rw [Int.tmod_eq_emod_of_nonneg h, Int.add_emod_right]
theorem tmn2 {x n : Int} (hn : 0 < n) (h : 0 ≤ x + 2 * n) : (x + 2 * n).tmod n = x % n := by
  rw [Int.tmod_eq_emod_of_nonneg h, Int.add_mul_emod_self_right]
theorem tmn3 {x n : Int} (hn : 0 < n) : (x.tmod n + n).tmod n = x % n := by
  have t := tm_c (a := x) hn
  rw [tmn hn (by omega)]
  have e := Int.mul_tdiv_add_tmod x n
  have : x % n = (n * x.tdiv n + x.tmod n) % n := by rw [e]
  rw [this, Int.mul_add_emod_self_left]
theorem ar_m {u : CS} {r : Nat} {i t : Int} (h : 0 ≤ i ∧ i < u.1.2.2.1 r) (ht : t = 1 ∨ t = -1) : ar u r i t = (i + t) % u.1.2.2.1 r := by
  unfold ar
  by_cases a : u.1.2.2.1 r ≤ i + t
  · rw [if_pos a, show i + t = u.1.2.2.1 r by omega, Int.emod_self]
  · rw [if_neg a]
    by_cases b : i + t < 0
    · rw [if_pos b, ← Int.add_emod_right, Int.emod_eq_of_lt (by omega) (by omega)]
      omega
    · rw [if_neg b, Int.emod_eq_of_lt (by omega) (by omega)]
theorem ar_m2 {u : CS} {r : Nat} {s i t : Int} (hn : 0 < u.1.2.2.1 r) (ht : t = 1 ∨ t = -1) : ar u r ((s + t * i) % u.1.2.2.1 r) t = (s + t * (i + 1)) % u.1.2.2.1 r := by
  rw [ar_m ⟨Int.emod_nonneg _ (by omega), Int.emod_lt_of_pos _ hn⟩ ht, Int.emod_add_emod, Int.mul_add, Int.mul_one, Int.add_assoc]
/-- a matrix is told by two places -/
theorem mat_q {ux uy vx vy px qx a b d : Int} (hd : d = ux * vy - uy * vx) (h1 : a * ux + b * uy = px) (h2 : a * vx + b * vy = qx) : px * vy - qx * uy = a * d ∧ qx * ux - px * vx = b * d := by
  subst hd; subst h1; subst h2
  exact ⟨by grind, by grind⟩
theorem mat_t {a d v : Int} (hd : d ≠ 0) (h : v = a * d) : v.tmod d = 0 ∧ v.tdiv d = a := by
  rw [h]
  exact ⟨Int.mul_tmod_left a d, Int.mul_tdiv_cancel a hd⟩
/-! counting -/
def CN2 (F G : Nat → Prop) : Nat → Int → Prop
  | 0, z => z = 0
  | n + 1, z => ∃ w a b : Int, CN2 F G n w ∧ ((a = 1 ∧ F n) ∨ (a = 0 ∧ ¬ F n)) ∧ ((b = 1 ∧ G n) ∨ (b = 0 ∧ ¬ G n)) ∧ z = w + a + b
def CN1 (F G : Nat → Prop) : Nat → Int → Prop
  | 0, z => z = 0
  | n + 1, z => ∃ w a : Int, CN1 F G n w ∧ ((a = 1 ∧ F n) ∨ (a = 0 ∧ G n)) ∧ z = w + a
def cAF (u : CS) (r r2 : Nat) (j t : Int) : Prop := AFC (rx u r) (ry9 u r) (rx u r2) (ry9 u r2) (u.1.2.2.1 r) j t
/-- the corners beside a corner span with it -/
def cWh (u : CS) (r : Nat) : Int := (rx u r 1 - rx u r 0) * (ry9 u r (u.1.2.2.1 r - 1) - ry9 u r 0) - (ry9 u r 1 - ry9 u r 0) * (rx u r (u.1.2.2.1 r - 1) - rx u r 0)
def mbC (u : CS) (r r2 : Nat) (z : Int) : Prop := (¬ (u.1.2.2.1 r = u.1.2.2.1 r2 ∧ rA u r = rA u r2) ∧ z = 0) ∨ ((u.1.2.2.1 r = u.1.2.2.1 r2 ∧ rA u r = rA u r2) ∧ CN2 (fun k => cWh u r ≠ 0 ∧ cAF u r r2 k 1) (fun k => cWh u r ≠ 0 ∧ cAF u r r2 k (-1)) (u.1.2.2.1 r2).toNat z)
def alC (u : CS) (r r2 : Nat) (z : Int) : Prop := (¬ (3 ≤ u.1.2.2.1 r ∧ 3 ≤ u.1.2.2.1 r2) ∧ ((z = 1 ∧ u.1.2.2.1 r = u.1.2.2.1 r2 ∧ rE u r = rE u r2) ∨ (z = 0 ∧ ¬ (u.1.2.2.1 r = u.1.2.2.1 r2 ∧ rE u r = rE u r2)))) ∨ ((3 ≤ u.1.2.2.1 r ∧ 3 ≤ u.1.2.2.1 r2) ∧ ∃ w : Int, mbC u r r2 w ∧ ((z = 1 ∧ 0 < w) ∨ (z = 0 ∧ w ≤ 0)))
def maC (u : CS) (s t z : Int) : Prop := (¬ ((0 ≤ s ∧ s ≤ 7) ∧ 0 ≤ t ∧ t ≤ 7) ∧ z = -1) ∨ (((0 ≤ s ∧ s ≤ 7) ∧ 0 ≤ t ∧ t ≤ 7) ∧ ((¬ (3 ≤ u.1.2.2.1 s.toNat ∧ 3 ≤ u.1.2.2.1 t.toNat) ∧ z = -2) ∨ ((3 ≤ u.1.2.2.1 s.toNat ∧ 3 ≤ u.1.2.2.1 t.toNat) ∧ mbC u s.toNat t.toNat z)))
def akC (u : CS) (s t z : Int) : Prop := (¬ ((0 ≤ s ∧ s ≤ 7) ∧ 0 ≤ t ∧ t ≤ 7) ∧ z = -1) ∨ (((0 ≤ s ∧ s ≤ 7) ∧ 0 ≤ t ∧ t ≤ 7) ∧ alC u s.toNat t.toNat z)
def nhC (u : CS) (i : Nat) : Prop := 3 ≤ u.1.2.2.1 i ∧ ∀ j : Nat, j < i → alC u i j 0
def ohC (u : CS) (i : Nat) : Prop := u.1.2.2.1 i < 3 ∨ ∃ j : Nat, j < i ∧ alC u i j 1
def heC (u : CS) (z : Int) : Prop := CN1 (nhC u) (ohC u) 8 z
/-! the reference -/
def mAF (v : MS) (s o j t : Int) : Prop := AFF (mX v s) (mY v s) (mX v o) (mY v o) (mN v s) j t
def mbM (v : MS) (s o z : Int) : Prop := (mN v s ≠ mN v o ∧ z = 0) ∨ (mN v s = mN v o ∧ CN2 (fun k => mAF v s o k 1) (fun k => mAF v s o k (-1)) (mN v s).toNat z)
def alM (v : MS) (s o z : Int) : Prop := (¬ (2 < mN v s ∧ 2 < mN v o) ∧ ((z = 1 ∧ mN v s = mN v o ∧ (mN v s ≠ 2 ∨ mEd v s = mEd v o)) ∨ (z = 0 ∧ ¬ (mN v s = mN v o ∧ (mN v s ≠ 2 ∨ mEd v s = mEd v o))))) ∨ ((2 < mN v s ∧ 2 < mN v o) ∧ ∃ w : Int, mbM v s o w ∧ ((z = 1 ∧ 0 < w) ∨ (z = 0 ∧ w ≤ 0)))
def maM (v : MS) (s t z : Int) : Prop := (¬ ((0 ≤ s ∧ s ≤ 7) ∧ 0 ≤ t ∧ t ≤ 7) ∧ z = -1) ∨ (((0 ≤ s ∧ s ≤ 7) ∧ 0 ≤ t ∧ t ≤ 7) ∧ ((¬ (2 < mN v s ∧ 2 < mN v t) ∧ z = -2) ∨ ((2 < mN v s ∧ 2 < mN v t) ∧ mbM v s t z)))
def akM (v : MS) (s t z : Int) : Prop := (¬ ((0 ≤ s ∧ s ≤ 7) ∧ 0 ≤ t ∧ t ≤ 7) ∧ z = -1) ∨ (((0 ≤ s ∧ s ≤ 7) ∧ 0 ≤ t ∧ t ≤ 7) ∧ alM v s t z)
def nhM (v : MS) (i : Nat) : Prop := 2 < mN v i ∧ ∀ j : Nat, j < i → alM v i j 0
def ohM (v : MS) (i : Nat) : Prop := mN v i ≤ 2 ∨ ∃ j : Nat, j < i ∧ alM v i j 1
def heM (v : MS) (z : Int) : Prop := CN1 (nhM v) (ohM v) 8 z
/-! both -/
theorem w6 {S : Int → Int → Prop} {n : Int} {X Y : Nat → Int} (h : HS S n X Y) (hn : 3 ≤ n) {a b c : Nat} (ha : (a : Int) < n) (hb : b = nj n a) (hc : c = nj n b) : 0 < cx (X c - X b) (Y c - Y b) (X a - X b) (Y a - Y b) := by
  have q := w3 h hn ha hb
  rw [← hc] at q
  have e : cx (X c - X b) (Y c - Y b) (X a - X b) (Y a - Y b) = cx (X b - X a) (Y b - Y a) (X c - X b) (Y c - Y b) := by unfold cx; grind
  rw [e]; exact q

theorem ln_1 {n j t : Int} (ht : t = 1 ∨ t = -1) : (j + t * (n - 1)) % n = (j + -t) % n := by
  rcases ht with e | e
  · rw [e, show j + 1 * (n - 1) = j + -1 + n by omega, Int.add_emod_right]
  · rw [e, show j + -1 * (n - 1) = j + - -1 + (-1) * n by omega, Int.add_mul_emod_self_right]
theorem alC_b {u : CS} {r r2 : Nat} {z : Int} (h : alC u r r2 z) : z = 0 ∨ z = 1 := by
  rcases h with ⟨_, h⟩ | ⟨_, w, _, h⟩ <;> omega
def FT (u : CS) (r r2 : Nat) (s t px py qx qy nx ny lx ly : Int) : Prop := (px = rx u r 1 - rx u r 0 ∧ py = ry9 u r 1 - ry9 u r 0) ∧ (qx = rx u r (u.1.2.2.1 r - 1) - rx u r 0 ∧ qy = ry9 u r (u.1.2.2.1 r - 1) - ry9 u r 0) ∧ (nx = rx u r2 (ar u r2 s t) - rx u r2 s ∧ ny = ry9 u r2 (ar u r2 s t) - ry9 u r2 s) ∧ (lx = rx u r2 (ar u r2 s (-t)) - rx u r2 s ∧ ly = ry9 u r2 (ar u r2 s (-t)) - ry9 u r2 s)
theorem FT_w {u : CS} {r r2 : Nat} {s t px py qx qy nx ny lx ly : Int} (h : FT u r r2 s t px py qx qy nx ny lx ly) : px * qy - py * qx = cWh u r := by
  obtain ⟨⟨rfl, rfl⟩, ⟨rfl, rfl⟩, _⟩ := h
  rfl
theorem FT_d {u : CS} {r r2 : Nat} {s t px py qx qy nx ny lx ly : Int} (h : FT u r r2 s t px py qx qy nx ny lx ly) (he : u.1.2.2.1 r2 = u.1.2.2.1 r) (hn : 3 ≤ u.1.2.2.1 r) (hs : 0 ≤ s ∧ s < u.1.2.2.1 r) (ht : t = 1 ∨ t = -1) (w : cAF u r r2 s t) : nx * ly - ny * lx = t * cWh u r ∧ ∃ a b c e : Int, AF (rx u r) (ry9 u r) (rx u r2) (ry9 u r2) (u.1.2.2.1 r) s t a b c e ∧ (nx * qy - lx * py = a * cWh u r ∧ lx * px - nx * qx = b * cWh u r) ∧ ny * qy - ly * py = c * cWh u r ∧ ly * px - ny * qx = e * cWh u r := by
  have hw := FT_w h
  obtain ⟨⟨rfl, rfl⟩, ⟨rfl, rfl⟩, ⟨hnx, hny⟩, ⟨hlx, hly⟩⟩ := h
  obtain ⟨a, b, c, e, hd, hA⟩ := w
  obtain ⟨q1, q2⟩ := hA 1 (by omega) (by omega)
  obtain ⟨q3, q4⟩ := hA (u.1.2.2.1 r - 1) (by omega) (by omega)
  rw [ln_1 ht] at q3 q4
  rw [Int.mul_one] at q1 q2
  rw [ar_m (by omega) ht, he] at hnx hny
  rw [ar_m (by omega) (by omega), he] at hlx hly
  rw [← hnx] at q1
  rw [← hny] at q2
  rw [← hlx] at q3
  rw [← hly] at q4
  have k1 := mat_q hw.symm q1 q3
  have k2 := mat_q hw.symm q2 q4
  refine ⟨?_, a, b, c, e, hA, k1, k2⟩
  rw [← hd, ← hw, ← q1, ← q2, ← q3, ← q4]
  grind
theorem FT_y {u : CS} {r r2 : Nat} {s t px py qx qy nx ny lx ly ma mb mc md wh : Int} (h : FT u r r2 s t px py qx qy nx ny lx ly) (hw : wh = cWh u r) (h0 : wh ≠ 0) (hc : nx * ly - ny * lx = t * wh) (ea : ma = nx * qy - lx * py) (eb : mb = lx * px - nx * qx) (ec : mc = ny * qy - ly * py) (ed : md = ly * px - ny * qx) (ta : ma.tmod wh = 0) (tb : mb.tmod wh = 0) (tc : mc.tmod wh = 0) (td : md.tmod wh = 0) (hA : ∀ k : Int, 0 ≤ k → k < u.1.2.2.1 r → ma * (rx u r k - rx u r 0) + mb * (ry9 u r k - ry9 u r 0) = wh * (rx u r2 ((s + t * k) % u.1.2.2.1 r) - rx u r2 s) ∧ mc * (rx u r k - rx u r 0) + md * (ry9 u r k - ry9 u r 0) = wh * (ry9 u r2 ((s + t * k) % u.1.2.2.1 r) - ry9 u r2 s)) : cWh u r ≠ 0 ∧ cAF u r r2 s t := by
  have hww := FT_w h
  rw [← hw] at hww
  have da := tm_dv ta
  have db := tm_dv tb
  have dc := tm_dv tc
  have dd := tm_dv td
  refine ⟨by omega, ma.tdiv wh, mb.tdiv wh, mc.tdiv wh, md.tdiv wh, ?_, fun k k0 k1 => ?_⟩
  · generalize ma.tdiv wh = A at da
    generalize mb.tdiv wh = Bq at db
    generalize mc.tdiv wh = Cq at dc
    generalize md.tdiv wh = Dq at dd
    have i1 : ma * md - mb * mc = wh * (nx * ly - ny * lx) := by rw [ea, eb, ec, ed, ← hww]; grind
    rw [hc, ← da, ← db, ← dc, ← dd] at i1
    have i2 : wh * (wh * (A * Dq - Bq * Cq)) = wh * (wh * t) := by
      rw [Int.mul_comm wh t, ← i1]; grind
    exact Int.eq_of_mul_eq_mul_left h0 (Int.eq_of_mul_eq_mul_left h0 i2)
  · obtain ⟨q1, q2⟩ := hA k k0 k1
    generalize ma.tdiv wh = A at da
    generalize mb.tdiv wh = Bq at db
    generalize mc.tdiv wh = Cq at dc
    generalize md.tdiv wh = Dq at dd
    rw [← da, ← db, Int.mul_assoc, Int.mul_assoc, ← Int.mul_add] at q1
    rw [← dc, ← dd, Int.mul_assoc, Int.mul_assoc, ← Int.mul_add] at q2
    exact ⟨Int.eq_of_mul_eq_mul_left h0 q1, Int.eq_of_mul_eq_mul_left h0 q2⟩
theorem ar_m3 {u : CS} {r r2 : Nat} {s i t z tq : Int} (hz : z = ar u r2 tq t) (htq : tq = (s + t * i) % u.1.2.2.1 r) (he : u.1.2.2.1 r2 = u.1.2.2.1 r) (hn : 3 ≤ u.1.2.2.1 r) (ht : t = 1 ∨ t = -1) : (0 ≤ z ∧ z < u.1.2.2.1 r) ∧ z = (s + t * (i + 1)) % u.1.2.2.1 r := by
  have e9 : z = (s + t * (i + 1)) % u.1.2.2.1 r := by
    rw [hz, htq, ← he]
    exact ar_m2 (by omega) ht
  exact ⟨by rw [e9]; exact ⟨Int.emod_nonneg _ (by omega), Int.emod_lt_of_pos _ (by omega)⟩, e9⟩
theorem CN2_s {F G : Int → Prop} {i z w a b : Int} (h0 : 0 ≤ i) (h : CN2 (fun k => F k) (fun k => G k) i.toNat w) (ha : (a = 1 ∧ F i) ∨ (a = 0 ∧ ¬ F i)) (hb : (b = 1 ∧ G i) ∨ (b = 0 ∧ ¬ G i)) (e : z = w + a + b) : CN2 (fun k => F k) (fun k => G k) (i + 1).toNat z := by
  rw [show (i + 1).toNat = i.toNat + 1 by omega]
  refine ⟨w, a, b, h, ?_, ?_, e⟩
  · show (a = 1 ∧ F (i.toNat : Int)) ∨ (a = 0 ∧ ¬ F (i.toNat : Int))
    rw [show ((i.toNat : Nat) : Int) = i by omega]; exact ha
  · show (b = 1 ∧ G (i.toNat : Int)) ∨ (b = 0 ∧ ¬ G (i.toNat : Int))
    rw [show ((i.toNat : Nat) : Int) = i by omega]; exact hb
theorem CN1_s {F G : Nat → Prop} {i z w a : Int} (h0 : 0 ≤ i) (h : CN1 F G i.toNat w) (ha : (a = 1 ∧ F i.toNat) ∨ (a = 0 ∧ G i.toNat)) (e : z = w + a) : CN1 F G (i + 1).toNat z := by
  rw [show (i + 1).toNat = i.toNat + 1 by omega]
  exact ⟨w, a, h, ha, e⟩
/-! the reference -/
def FM (v : MS) (s o j t ux uy vx vy px py qx qy : Int) : Prop := (ux = mX v s 1 - mX v s 0 ∧ uy = mY v s 1 - mY v s 0) ∧ (vx = mX v s 2 - mX v s 0 ∧ vy = mY v s 2 - mY v s 0) ∧ (px = mX v o ((j + t) % mN v s) - mX v o j ∧ py = mY v o ((j + t) % mN v s) - mY v o j) ∧ (qx = mX v o ((j + 2 * t) % mN v s) - mX v o j ∧ qy = mY v o ((j + 2 * t) % mN v s) - mY v o j)
theorem FM_d {v : MS} {s o j t ux uy vx vy px py qx qy a b c e d : Int} (h : FM v s o j t ux uy vx vy px py qx qy) (hn : 2 < mN v s) (hd : d = ux * vy - uy * vx) (hA : AF (mX v s) (mY v s) (mX v o) (mY v o) (mN v s) j t a b c e) : (px * vy - qx * uy = a * d ∧ qx * ux - px * vx = b * d) ∧ py * vy - qy * uy = c * d ∧ qy * ux - py * vx = e * d := by
  obtain ⟨⟨rfl, rfl⟩, ⟨rfl, rfl⟩, ⟨rfl, rfl⟩, ⟨rfl, rfl⟩⟩ := h
  obtain ⟨q1, q2⟩ := hA 1 (by omega) (by omega)
  obtain ⟨q3, q4⟩ := hA 2 (by omega) (by omega)
  rw [Int.mul_one] at q1 q2
  rw [Int.mul_comm t 2] at q3 q4
  exact ⟨mat_q hd q1 q3, mat_q hd q2 q4⟩


set_option maxHeartbeats 4000000 in
set_option maxRecDepth 100000 in
theorem c_X11_mapFits3 (l : Launch) (D : JD) (q : Nat → Nat) (u : CS) (r : Nat) (hr : r ≤ 8) (r2 : Nat) (hr2 : r2 ≤ 8) (s : Int) (t : Int) (p0 : RB 40 u r) (p1 : RB 40 u r2) (p2 : 0 ≤ s ∧ s < u.1.2.2.1 r2) (p3 : t = 1 ∨ t = -1) (p4 : u.1.2.2.1 r2 = u.1.2.2.1 r) (p5 : 3 ≤ u.1.2.2.1 r) : Met l yX11_mapFits (jw yX11_mapFits cX11_mapFits 24 (some .boolean)) (jr 1 23) (jP [.ref (q (9 + 5 * r)), .ref (q (9 + 5 * r2)), .int (J s), .int (J t)] D (fun H => va_P D.1 j_cl (cW D q u) H)) (jRi (fun z => (z = 1 ∧ (cWh u r ≠ 0 ∧ cAF u r r2 s t)) ∨ (z = 0 ∧ ¬ (cWh u r ≠ 0 ∧ cAF u r r2 s t)))) 0 0 (fun _ => False) := by
  refine Met.ofW (cc := cX11_mapFits) (maxL := 24) (ret := (some .boolean)) (by decide) rfl ?_
  intro pr en st mi args below meth co s₁ B hml hv
  obtain ⟨rfl, hG, hP⟩ := hv
  have hr := B.returns
  have hlk := B.notSynchronized
  have SS : jS pr mi co cX11_mapFits 24 st _ RX11 := ⟨B.exec, B.bytes, hml, findClass_of_methodNamed B.named, fun w hw => atoms_spec (ws := (jw yX11_mapFits cX11_mapFits 24 (some .boolean))) B.pre w (List.mem_cons_of_mem _ hw)⟩
  have hl := lv_entry ([.ref (q (9 + 5 * r)), .ref (q (9 + 5 * r2)), .int (J s), .int (J t)]) (n := 24) (Nat.le_of_ble_eq_true rfl)
  rw [lg_entry_eq]
  generalize (lg_sl ([.ref (q (9 + 5 * r)), .ref (q (9 + 5 * r2)), .int (J s), .int (J t)]) ++ List.replicate (24 - (lg_sl ([.ref (q (9 + 5 * r)), .ref (q (9 + 5 * r2)), .int (J s), .int (J t)])).length) Slot.unset).toArray = ls at hl ⊢
  have hl : lv_has ls 24 [(0, .ref (q (9 + 5 * r))), (1, .ref (q (9 + 5 * r2))), (2, .int (J s)), (3, .int (J t))] := hl
  have hc := p0.1
  have hc2 := p1.1
  have hrl := rl_b r
  have hrl2 := rl_b r2
  refine lv_aload_n SS.1 SS.2.1 dX11_mapFits_0 rfl (lv_at hl 1 rfl) ?_
  refine lv_iload_n SS.1 SS.2.1 dX11_mapFits_1 rfl (lv_at hl 2 rfl) ?_
  refine lv_iload_n SS.1 SS.2.1 dX11_mapFits_2 rfl (lv_at hl 3 rfl) ?_
  refine j_vRi SS (As := [.int (J s), .int (J t)]) (rest := []) (c_X7_around l D q u r2 (by omega) (40 : Int) s t (show 0 ≤ (40 : Int) ∧ (40 : Int) ≤ 80 from (by omega)) (show RB (40 : Int) u r2 from (p1)) (show -1000 ≤ s ∧ s ≤ 1000 from (by omega)) (show t = 1 ∨ t = -1 from (p3))) mf_X7_around kw_666 hG hP hP (ci := 7) (q0 := (9 + 5 * r2)) rfl (cw_ring (by omega)) rfl rfl hl.1 ⟨⟨Nat.le_of_ble_eq_true rfl, Nat.le_of_ble_eq_true rfl⟩, Nat.le_of_ble_eq_true rfl, Nat.le_refl _, Nat.le_refl _⟩ rfl dX11_mapFits_3 (fun z_3 h_3 => ?_)
  have h_3 : z_3 = ar u r2 s t ∧ -1000 ≤ z_3 ∧ z_3 ≤ 1001 := h_3
  have hn3 := ar_b (u := u) (r := r2) (i := s) (t := t) (by omega) p3 (by omega)
  refine lv_istore (lv' := [(4, .int (J z_3)), (0, .ref (q (9 + 5 * r))), (1, .ref (q (9 + 5 * r2))), (2, .int (J s)), (3, .int (J t))]) SS.1 SS.2.1 dX11_mapFits_6 hl (by decide) rfl (fun ls hl => ?_)
  refine lv_aload_n SS.1 SS.2.1 dX11_mapFits_8 rfl (lv_at hl 2 rfl) ?_
  refine lv_iload_n SS.1 SS.2.1 dX11_mapFits_9 rfl (lv_at hl 3 rfl) ?_
  refine lv_iload_n SS.1 SS.2.1 dX11_mapFits_10 rfl (lv_at hl 4 rfl) ?_
  refine j_ineg SS dX11_mapFits_11 ?_
  refine j_vRi SS (As := [.int (J s), .int (J (-t))]) (rest := []) (c_X7_around l D q u r2 (by omega) (40 : Int) s (-t) (show 0 ≤ (40 : Int) ∧ (40 : Int) ≤ 80 from (by omega)) (show RB (40 : Int) u r2 from (p1)) (show -1000 ≤ s ∧ s ≤ 1000 from (by omega)) (show (-t) = 1 ∨ (-t) = -1 from (by omega))) mf_X7_around kw_666 hG hP hP (ci := 7) (q0 := (9 + 5 * r2)) rfl (cw_ring (by omega)) rfl rfl hl.1 ⟨⟨Nat.le_of_ble_eq_true rfl, Nat.le_of_ble_eq_true rfl⟩, Nat.le_of_ble_eq_true rfl, Nat.le_refl _, Nat.le_refl _⟩ rfl dX11_mapFits_12 (fun z_12 h_12 => ?_)
  have h_12 : z_12 = ar u r2 s (-t) ∧ -1000 ≤ z_12 ∧ z_12 ≤ 1001 := h_12
  have hn12 := ar_b (u := u) (r := r2) (i := s) (t := -t) (by omega) (by omega) (by omega)
  refine lv_istore (lv' := [(5, .int (J z_12)), (4, .int (J z_3)), (0, .ref (q (9 + 5 * r))), (1, .ref (q (9 + 5 * r2))), (2, .int (J s)), (3, .int (J t))]) SS.1 SS.2.1 dX11_mapFits_15 hl (by decide) rfl (fun ls hl => ?_)
  refine lv_aload_n SS.1 SS.2.1 dX11_mapFits_17 rfl (lv_at hl 2 rfl) ?_
  refine j_iconst SS dX11_mapFits_18 ?_
  refine j_uRi SS (As := [.int (J 1)]) (rest := []) (c_X8_x l D q u r (by omega) 1 (show -2147483648 ≤ (1 : Int) ∧ (1 : Int) ≤ 2147483647 from (by omega))) mu_7_x kw_463 hG hP hP (ci := 7) (q0 := (9 + 5 * r)) rfl (cw_ring (by omega)) rfl rfl hl.1 ⟨⟨Nat.le_of_ble_eq_true rfl, Nat.le_of_ble_eq_true rfl⟩, Nat.le_of_ble_eq_true rfl, Nat.le_refl _, Nat.le_refl _⟩ rfl dX11_mapFits_19 (fun z_19 h_19 => ?_)
  have h_19 : z_19 = rx u r (1 : Int) ∧ ∀ K : Int, 0 ≤ K → RB K u r → -K ≤ z_19 ∧ z_19 ≤ K := h_19
  have hb_19 := h_19.2 40 (by omega) (p0)
  refine lv_aload_n SS.1 SS.2.1 dX11_mapFits_22 rfl (lv_at hl 2 rfl) ?_
  refine j_iconst SS dX11_mapFits_23 ?_
  refine j_uRi SS (As := [.int (J 0)]) (rest := [.int (J z_19)]) (c_X8_x l D q u r (by omega) 0 (show -2147483648 ≤ (0 : Int) ∧ (0 : Int) ≤ 2147483647 from (by omega))) mu_7_x kw_463 hG hP hP (ci := 7) (q0 := (9 + 5 * r)) rfl (cw_ring (by omega)) rfl rfl hl.1 ⟨⟨Nat.le_of_ble_eq_true rfl, Nat.le_of_ble_eq_true rfl⟩, Nat.le_of_ble_eq_true rfl, Nat.le_refl _, Nat.le_refl _⟩ rfl dX11_mapFits_24 (fun z_24 h_24 => ?_)
  have h_24 : z_24 = rx u r (0 : Int) ∧ ∀ K : Int, 0 ≤ K → RB K u r → -K ≤ z_24 ∧ z_24 ≤ K := h_24
  have hb_24 := h_24.2 40 (by omega) (p0)
  refine j_isub SS (x := z_19) (y := z_24) dX11_mapFits_27 ?_
  obtain ⟨px1, epx1⟩ : ∃ z : Int, z = (z_19 - z_24) := ⟨_, rfl⟩
  rw [← epx1]
  refine lv_istore (lv' := [(6, .int (J px1)), (5, .int (J z_12)), (4, .int (J z_3)), (0, .ref (q (9 + 5 * r))), (1, .ref (q (9 + 5 * r2))), (2, .int (J s)), (3, .int (J t))]) SS.1 SS.2.1 dX11_mapFits_28 hl (by decide) rfl (fun ls hl => ?_)
  refine lv_aload_n SS.1 SS.2.1 dX11_mapFits_30 rfl (lv_at hl 3 rfl) ?_
  refine j_iconst SS dX11_mapFits_31 ?_
  refine j_uRi SS (As := [.int (J 1)]) (rest := []) (c_X8_y l D q u r (by omega) 1 (show -2147483648 ≤ (1 : Int) ∧ (1 : Int) ≤ 2147483647 from (by omega))) mu_7_y kw_464 hG hP hP (ci := 7) (q0 := (9 + 5 * r)) rfl (cw_ring (by omega)) rfl rfl hl.1 ⟨⟨Nat.le_of_ble_eq_true rfl, Nat.le_of_ble_eq_true rfl⟩, Nat.le_of_ble_eq_true rfl, Nat.le_refl _, Nat.le_refl _⟩ rfl dX11_mapFits_32 (fun z_32 h_32 => ?_)
  have h_32 : z_32 = ry9 u r (1 : Int) ∧ ∀ K : Int, 0 ≤ K → RB K u r → -K ≤ z_32 ∧ z_32 ≤ K := h_32
  have hb_32 := h_32.2 40 (by omega) (p0)
  refine lv_aload_n SS.1 SS.2.1 dX11_mapFits_35 rfl (lv_at hl 3 rfl) ?_
  refine j_iconst SS dX11_mapFits_36 ?_
  refine j_uRi SS (As := [.int (J 0)]) (rest := [.int (J z_32)]) (c_X8_y l D q u r (by omega) 0 (show -2147483648 ≤ (0 : Int) ∧ (0 : Int) ≤ 2147483647 from (by omega))) mu_7_y kw_464 hG hP hP (ci := 7) (q0 := (9 + 5 * r)) rfl (cw_ring (by omega)) rfl rfl hl.1 ⟨⟨Nat.le_of_ble_eq_true rfl, Nat.le_of_ble_eq_true rfl⟩, Nat.le_of_ble_eq_true rfl, Nat.le_refl _, Nat.le_refl _⟩ rfl dX11_mapFits_37 (fun z_37 h_37 => ?_)
  have h_37 : z_37 = ry9 u r (0 : Int) ∧ ∀ K : Int, 0 ≤ K → RB K u r → -K ≤ z_37 ∧ z_37 ≤ K := h_37
  have hb_37 := h_37.2 40 (by omega) (p0)
  refine j_isub SS (x := z_32) (y := z_37) dX11_mapFits_40 ?_
  obtain ⟨py1, epy1⟩ : ∃ z : Int, z = (z_32 - z_37) := ⟨_, rfl⟩
  rw [← epy1]
  refine lv_istore (lv' := [(7, .int (J py1)), (6, .int (J px1)), (5, .int (J z_12)), (4, .int (J z_3)), (0, .ref (q (9 + 5 * r))), (1, .ref (q (9 + 5 * r2))), (2, .int (J s)), (3, .int (J t))]) SS.1 SS.2.1 dX11_mapFits_41 hl (by decide) rfl (fun ls hl => ?_)
  refine lv_aload_n SS.1 SS.2.1 dX11_mapFits_43 rfl (lv_at hl 4 rfl) ?_
  refine lv_aload_n SS.1 SS.2.1 dX11_mapFits_44 rfl (lv_at hl 4 rfl) ?_
  refine j_getS SS hG hP (9 + 5 * r) (v := .int (J (u.1.2.2.1 r))) (C := RX7) (T := TX7) (N := 3) (cw_ring (by omega)) rfl inX7 2 (by decide) (ref := "GridPolygons$Ring") kw_135 kw_132 rfl dX11_mapFits_45 ?_
  refine j_iconst SS dX11_mapFits_48 ?_
  refine j_isub SS (x := (u.1.2.2.1 r)) (y := 1) dX11_mapFits_49 ?_
  refine j_uRi SS (As := [.int (J ((u.1.2.2.1 r) - 1))]) (rest := []) (c_X8_x l D q u r (by omega) ((u.1.2.2.1 r) - 1) (show -2147483648 ≤ ((u.1.2.2.1 r) - 1) ∧ ((u.1.2.2.1 r) - 1) ≤ 2147483647 from (by omega))) mu_7_x kw_463 hG hP hP (ci := 7) (q0 := (9 + 5 * r)) rfl (cw_ring (by omega)) rfl rfl hl.1 ⟨⟨Nat.le_of_ble_eq_true rfl, Nat.le_of_ble_eq_true rfl⟩, Nat.le_of_ble_eq_true rfl, Nat.le_refl _, Nat.le_refl _⟩ rfl dX11_mapFits_50 (fun z_50 h_50 => ?_)
  have h_50 : z_50 = rx u r ((u.1.2.2.1 r) - 1) ∧ ∀ K : Int, 0 ≤ K → RB K u r → -K ≤ z_50 ∧ z_50 ≤ K := h_50
  have hb_50 := h_50.2 40 (by omega) (p0)
  refine lv_aload_n SS.1 SS.2.1 dX11_mapFits_53 rfl (lv_at hl 4 rfl) ?_
  refine j_iconst SS dX11_mapFits_54 ?_
  refine j_uRi SS (As := [.int (J 0)]) (rest := [.int (J z_50)]) (c_X8_x l D q u r (by omega) 0 (show -2147483648 ≤ (0 : Int) ∧ (0 : Int) ≤ 2147483647 from (by omega))) mu_7_x kw_463 hG hP hP (ci := 7) (q0 := (9 + 5 * r)) rfl (cw_ring (by omega)) rfl rfl hl.1 ⟨⟨Nat.le_of_ble_eq_true rfl, Nat.le_of_ble_eq_true rfl⟩, Nat.le_of_ble_eq_true rfl, Nat.le_refl _, Nat.le_refl _⟩ rfl dX11_mapFits_55 (fun z_55 h_55 => ?_)
  have h_55 : z_55 = rx u r (0 : Int) ∧ ∀ K : Int, 0 ≤ K → RB K u r → -K ≤ z_55 ∧ z_55 ≤ K := h_55
  have hb_55 := h_55.2 40 (by omega) (p0)
  refine j_isub SS (x := z_50) (y := z_55) dX11_mapFits_58 ?_
  obtain ⟨qx1, eqx1⟩ : ∃ z : Int, z = (z_50 - z_55) := ⟨_, rfl⟩
  rw [← eqx1]
  refine lv_istore (lv' := [(8, .int (J qx1)), (7, .int (J py1)), (6, .int (J px1)), (5, .int (J z_12)), (4, .int (J z_3)), (0, .ref (q (9 + 5 * r))), (1, .ref (q (9 + 5 * r2))), (2, .int (J s)), (3, .int (J t))]) SS.1 SS.2.1 dX11_mapFits_59 hl (by decide) rfl (fun ls hl => ?_)
  refine lv_aload_n SS.1 SS.2.1 dX11_mapFits_61 rfl (lv_at hl 5 rfl) ?_
  refine lv_aload_n SS.1 SS.2.1 dX11_mapFits_62 rfl (lv_at hl 5 rfl) ?_
  refine j_getS SS hG hP (9 + 5 * r) (v := .int (J (u.1.2.2.1 r))) (C := RX7) (T := TX7) (N := 3) (cw_ring (by omega)) rfl inX7 2 (by decide) (ref := "GridPolygons$Ring") kw_135 kw_132 rfl dX11_mapFits_63 ?_
  refine j_iconst SS dX11_mapFits_66 ?_
  refine j_isub SS (x := (u.1.2.2.1 r)) (y := 1) dX11_mapFits_67 ?_
  refine j_uRi SS (As := [.int (J ((u.1.2.2.1 r) - 1))]) (rest := []) (c_X8_y l D q u r (by omega) ((u.1.2.2.1 r) - 1) (show -2147483648 ≤ ((u.1.2.2.1 r) - 1) ∧ ((u.1.2.2.1 r) - 1) ≤ 2147483647 from (by omega))) mu_7_y kw_464 hG hP hP (ci := 7) (q0 := (9 + 5 * r)) rfl (cw_ring (by omega)) rfl rfl hl.1 ⟨⟨Nat.le_of_ble_eq_true rfl, Nat.le_of_ble_eq_true rfl⟩, Nat.le_of_ble_eq_true rfl, Nat.le_refl _, Nat.le_refl _⟩ rfl dX11_mapFits_68 (fun z_68 h_68 => ?_)
  have h_68 : z_68 = ry9 u r ((u.1.2.2.1 r) - 1) ∧ ∀ K : Int, 0 ≤ K → RB K u r → -K ≤ z_68 ∧ z_68 ≤ K := h_68
  have hb_68 := h_68.2 40 (by omega) (p0)
  refine lv_aload_n SS.1 SS.2.1 dX11_mapFits_71 rfl (lv_at hl 5 rfl) ?_
  refine j_iconst SS dX11_mapFits_72 ?_
  refine j_uRi SS (As := [.int (J 0)]) (rest := [.int (J z_68)]) (c_X8_y l D q u r (by omega) 0 (show -2147483648 ≤ (0 : Int) ∧ (0 : Int) ≤ 2147483647 from (by omega))) mu_7_y kw_464 hG hP hP (ci := 7) (q0 := (9 + 5 * r)) rfl (cw_ring (by omega)) rfl rfl hl.1 ⟨⟨Nat.le_of_ble_eq_true rfl, Nat.le_of_ble_eq_true rfl⟩, Nat.le_of_ble_eq_true rfl, Nat.le_refl _, Nat.le_refl _⟩ rfl dX11_mapFits_73 (fun z_73 h_73 => ?_)
  have h_73 : z_73 = ry9 u r (0 : Int) ∧ ∀ K : Int, 0 ≤ K → RB K u r → -K ≤ z_73 ∧ z_73 ≤ K := h_73
  have hb_73 := h_73.2 40 (by omega) (p0)
  refine j_isub SS (x := z_68) (y := z_73) dX11_mapFits_76 ?_
  obtain ⟨qy1, eqy1⟩ : ∃ z : Int, z = (z_68 - z_73) := ⟨_, rfl⟩
  rw [← eqy1]
  refine lv_istore (lv' := [(9, .int (J qy1)), (8, .int (J qx1)), (7, .int (J py1)), (6, .int (J px1)), (5, .int (J z_12)), (4, .int (J z_3)), (0, .ref (q (9 + 5 * r))), (1, .ref (q (9 + 5 * r2))), (2, .int (J s)), (3, .int (J t))]) SS.1 SS.2.1 dX11_mapFits_77 hl (by decide) rfl (fun ls hl => ?_)
  refine lv_aload_n SS.1 SS.2.1 dX11_mapFits_79 rfl (lv_at hl 7 rfl) ?_
  refine lv_iload SS.1 SS.2.1 dX11_mapFits_80 (lv_at hl 5 rfl) ?_
  refine j_uRi SS (As := [.int (J z_3)]) (rest := []) (c_X8_x l D q u r2 (by omega) z_3 (show -2147483648 ≤ z_3 ∧ z_3 ≤ 2147483647 from (by omega))) mu_7_x kw_463 hG hP hP (ci := 7) (q0 := (9 + 5 * r2)) rfl (cw_ring (by omega)) rfl rfl hl.1 ⟨⟨Nat.le_of_ble_eq_true rfl, Nat.le_of_ble_eq_true rfl⟩, Nat.le_of_ble_eq_true rfl, Nat.le_refl _, Nat.le_refl _⟩ rfl dX11_mapFits_82 (fun z_82 h_82 => ?_)
  have h_82 : z_82 = rx u r2 z_3 ∧ ∀ K : Int, 0 ≤ K → RB K u r2 → -K ≤ z_82 ∧ z_82 ≤ K := h_82
  have hb_82 := h_82.2 40 (by omega) (p1)
  refine lv_aload_n SS.1 SS.2.1 dX11_mapFits_85 rfl (lv_at hl 7 rfl) ?_
  refine lv_iload_n SS.1 SS.2.1 dX11_mapFits_86 rfl (lv_at hl 8 rfl) ?_
  refine j_uRi SS (As := [.int (J s)]) (rest := [.int (J z_82)]) (c_X8_x l D q u r2 (by omega) s (show -2147483648 ≤ s ∧ s ≤ 2147483647 from (by omega))) mu_7_x kw_463 hG hP hP (ci := 7) (q0 := (9 + 5 * r2)) rfl (cw_ring (by omega)) rfl rfl hl.1 ⟨⟨Nat.le_of_ble_eq_true rfl, Nat.le_of_ble_eq_true rfl⟩, Nat.le_of_ble_eq_true rfl, Nat.le_refl _, Nat.le_refl _⟩ rfl dX11_mapFits_87 (fun z_87 h_87 => ?_)
  have h_87 : z_87 = rx u r2 s ∧ ∀ K : Int, 0 ≤ K → RB K u r2 → -K ≤ z_87 ∧ z_87 ≤ K := h_87
  have hb_87 := h_87.2 40 (by omega) (p1)
  refine j_isub SS (x := z_82) (y := z_87) dX11_mapFits_90 ?_
  obtain ⟨nx1, enx1⟩ : ∃ z : Int, z = (z_82 - z_87) := ⟨_, rfl⟩
  rw [← enx1]
  refine lv_istore (lv' := [(10, .int (J nx1)), (9, .int (J qy1)), (8, .int (J qx1)), (7, .int (J py1)), (6, .int (J px1)), (5, .int (J z_12)), (4, .int (J z_3)), (0, .ref (q (9 + 5 * r))), (1, .ref (q (9 + 5 * r2))), (2, .int (J s)), (3, .int (J t))]) SS.1 SS.2.1 dX11_mapFits_91 hl (by decide) rfl (fun ls hl => ?_)
  refine lv_aload_n SS.1 SS.2.1 dX11_mapFits_93 rfl (lv_at hl 8 rfl) ?_
  refine lv_iload SS.1 SS.2.1 dX11_mapFits_94 (lv_at hl 6 rfl) ?_
  refine j_uRi SS (As := [.int (J z_3)]) (rest := []) (c_X8_y l D q u r2 (by omega) z_3 (show -2147483648 ≤ z_3 ∧ z_3 ≤ 2147483647 from (by omega))) mu_7_y kw_464 hG hP hP (ci := 7) (q0 := (9 + 5 * r2)) rfl (cw_ring (by omega)) rfl rfl hl.1 ⟨⟨Nat.le_of_ble_eq_true rfl, Nat.le_of_ble_eq_true rfl⟩, Nat.le_of_ble_eq_true rfl, Nat.le_refl _, Nat.le_refl _⟩ rfl dX11_mapFits_96 (fun z_96 h_96 => ?_)
  have h_96 : z_96 = ry9 u r2 z_3 ∧ ∀ K : Int, 0 ≤ K → RB K u r2 → -K ≤ z_96 ∧ z_96 ≤ K := h_96
  have hb_96 := h_96.2 40 (by omega) (p1)
  refine lv_aload_n SS.1 SS.2.1 dX11_mapFits_99 rfl (lv_at hl 8 rfl) ?_
  refine lv_iload_n SS.1 SS.2.1 dX11_mapFits_100 rfl (lv_at hl 9 rfl) ?_
  refine j_uRi SS (As := [.int (J s)]) (rest := [.int (J z_96)]) (c_X8_y l D q u r2 (by omega) s (show -2147483648 ≤ s ∧ s ≤ 2147483647 from (by omega))) mu_7_y kw_464 hG hP hP (ci := 7) (q0 := (9 + 5 * r2)) rfl (cw_ring (by omega)) rfl rfl hl.1 ⟨⟨Nat.le_of_ble_eq_true rfl, Nat.le_of_ble_eq_true rfl⟩, Nat.le_of_ble_eq_true rfl, Nat.le_refl _, Nat.le_refl _⟩ rfl dX11_mapFits_101 (fun z_101 h_101 => ?_)
  have h_101 : z_101 = ry9 u r2 s ∧ ∀ K : Int, 0 ≤ K → RB K u r2 → -K ≤ z_101 ∧ z_101 ≤ K := h_101
  have hb_101 := h_101.2 40 (by omega) (p1)
  refine j_isub SS (x := z_96) (y := z_101) dX11_mapFits_104 ?_
  obtain ⟨ny1, eny1⟩ : ∃ z : Int, z = (z_96 - z_101) := ⟨_, rfl⟩
  rw [← eny1]
  refine lv_istore (lv' := [(11, .int (J ny1)), (10, .int (J nx1)), (9, .int (J qy1)), (8, .int (J qx1)), (7, .int (J py1)), (6, .int (J px1)), (5, .int (J z_12)), (4, .int (J z_3)), (0, .ref (q (9 + 5 * r))), (1, .ref (q (9 + 5 * r2))), (2, .int (J s)), (3, .int (J t))]) SS.1 SS.2.1 dX11_mapFits_105 hl (by decide) rfl (fun ls hl => ?_)
  refine lv_aload_n SS.1 SS.2.1 dX11_mapFits_107 rfl (lv_at hl 9 rfl) ?_
  refine lv_iload SS.1 SS.2.1 dX11_mapFits_108 (lv_at hl 6 rfl) ?_
  refine j_uRi SS (As := [.int (J z_12)]) (rest := []) (c_X8_x l D q u r2 (by omega) z_12 (show -2147483648 ≤ z_12 ∧ z_12 ≤ 2147483647 from (by omega))) mu_7_x kw_463 hG hP hP (ci := 7) (q0 := (9 + 5 * r2)) rfl (cw_ring (by omega)) rfl rfl hl.1 ⟨⟨Nat.le_of_ble_eq_true rfl, Nat.le_of_ble_eq_true rfl⟩, Nat.le_of_ble_eq_true rfl, Nat.le_refl _, Nat.le_refl _⟩ rfl dX11_mapFits_110 (fun z_110 h_110 => ?_)
  have h_110 : z_110 = rx u r2 z_12 ∧ ∀ K : Int, 0 ≤ K → RB K u r2 → -K ≤ z_110 ∧ z_110 ≤ K := h_110
  have hb_110 := h_110.2 40 (by omega) (p1)
  refine lv_aload_n SS.1 SS.2.1 dX11_mapFits_113 rfl (lv_at hl 9 rfl) ?_
  refine lv_iload_n SS.1 SS.2.1 dX11_mapFits_114 rfl (lv_at hl 10 rfl) ?_
  refine j_uRi SS (As := [.int (J s)]) (rest := [.int (J z_110)]) (c_X8_x l D q u r2 (by omega) s (show -2147483648 ≤ s ∧ s ≤ 2147483647 from (by omega))) mu_7_x kw_463 hG hP hP (ci := 7) (q0 := (9 + 5 * r2)) rfl (cw_ring (by omega)) rfl rfl hl.1 ⟨⟨Nat.le_of_ble_eq_true rfl, Nat.le_of_ble_eq_true rfl⟩, Nat.le_of_ble_eq_true rfl, Nat.le_refl _, Nat.le_refl _⟩ rfl dX11_mapFits_115 (fun z_115 h_115 => ?_)
  have h_115 : z_115 = rx u r2 s ∧ ∀ K : Int, 0 ≤ K → RB K u r2 → -K ≤ z_115 ∧ z_115 ≤ K := h_115
  have hb_115 := h_115.2 40 (by omega) (p1)
  refine j_isub SS (x := z_110) (y := z_115) dX11_mapFits_118 ?_
  obtain ⟨lx1, elx1⟩ : ∃ z : Int, z = (z_110 - z_115) := ⟨_, rfl⟩
  rw [← elx1]
  refine lv_istore (lv' := [(12, .int (J lx1)), (11, .int (J ny1)), (10, .int (J nx1)), (9, .int (J qy1)), (8, .int (J qx1)), (7, .int (J py1)), (6, .int (J px1)), (5, .int (J z_12)), (4, .int (J z_3)), (0, .ref (q (9 + 5 * r))), (1, .ref (q (9 + 5 * r2))), (2, .int (J s)), (3, .int (J t))]) SS.1 SS.2.1 dX11_mapFits_119 hl (by decide) rfl (fun ls hl => ?_)
  refine lv_aload_n SS.1 SS.2.1 dX11_mapFits_121 rfl (lv_at hl 10 rfl) ?_
  refine lv_iload SS.1 SS.2.1 dX11_mapFits_122 (lv_at hl 7 rfl) ?_
  refine j_uRi SS (As := [.int (J z_12)]) (rest := []) (c_X8_y l D q u r2 (by omega) z_12 (show -2147483648 ≤ z_12 ∧ z_12 ≤ 2147483647 from (by omega))) mu_7_y kw_464 hG hP hP (ci := 7) (q0 := (9 + 5 * r2)) rfl (cw_ring (by omega)) rfl rfl hl.1 ⟨⟨Nat.le_of_ble_eq_true rfl, Nat.le_of_ble_eq_true rfl⟩, Nat.le_of_ble_eq_true rfl, Nat.le_refl _, Nat.le_refl _⟩ rfl dX11_mapFits_124 (fun z_124 h_124 => ?_)
  have h_124 : z_124 = ry9 u r2 z_12 ∧ ∀ K : Int, 0 ≤ K → RB K u r2 → -K ≤ z_124 ∧ z_124 ≤ K := h_124
  have hb_124 := h_124.2 40 (by omega) (p1)
  refine lv_aload_n SS.1 SS.2.1 dX11_mapFits_127 rfl (lv_at hl 10 rfl) ?_
  refine lv_iload_n SS.1 SS.2.1 dX11_mapFits_128 rfl (lv_at hl 11 rfl) ?_
  refine j_uRi SS (As := [.int (J s)]) (rest := [.int (J z_124)]) (c_X8_y l D q u r2 (by omega) s (show -2147483648 ≤ s ∧ s ≤ 2147483647 from (by omega))) mu_7_y kw_464 hG hP hP (ci := 7) (q0 := (9 + 5 * r2)) rfl (cw_ring (by omega)) rfl rfl hl.1 ⟨⟨Nat.le_of_ble_eq_true rfl, Nat.le_of_ble_eq_true rfl⟩, Nat.le_of_ble_eq_true rfl, Nat.le_refl _, Nat.le_refl _⟩ rfl dX11_mapFits_129 (fun z_129 h_129 => ?_)
  have h_129 : z_129 = ry9 u r2 s ∧ ∀ K : Int, 0 ≤ K → RB K u r2 → -K ≤ z_129 ∧ z_129 ≤ K := h_129
  have hb_129 := h_129.2 40 (by omega) (p1)
  refine j_isub SS (x := z_124) (y := z_129) dX11_mapFits_132 ?_
  obtain ⟨ly1, ely1⟩ : ∃ z : Int, z = (z_124 - z_129) := ⟨_, rfl⟩
  rw [← ely1]
  refine lv_istore (lv' := [(13, .int (J ly1)), (12, .int (J lx1)), (11, .int (J ny1)), (10, .int (J nx1)), (9, .int (J qy1)), (8, .int (J qx1)), (7, .int (J py1)), (6, .int (J px1)), (5, .int (J z_12)), (4, .int (J z_3)), (0, .ref (q (9 + 5 * r))), (1, .ref (q (9 + 5 * r2))), (2, .int (J s)), (3, .int (J t))]) SS.1 SS.2.1 dX11_mapFits_133 hl (by decide) rfl (fun ls hl => ?_)
  refine lv_iload SS.1 SS.2.1 dX11_mapFits_135 (lv_at hl 7 rfl) ?_
  refine lv_iload SS.1 SS.2.1 dX11_mapFits_137 (lv_at hl 4 rfl) ?_
  refine j_imul SS (x := px1) (y := qy1) dX11_mapFits_139 ?_
  refine lv_iload SS.1 SS.2.1 dX11_mapFits_140 (lv_at hl 6 rfl) ?_
  refine lv_iload SS.1 SS.2.1 dX11_mapFits_142 (lv_at hl 5 rfl) ?_
  refine j_imul SS (x := py1) (y := qx1) dX11_mapFits_144 ?_
  refine j_isub SS (x := (px1 * qy1)) (y := (py1 * qx1)) dX11_mapFits_145 ?_
  obtain ⟨wh, ewh⟩ : ∃ z : Int, z = ((px1 * qy1) - (py1 * qx1)) := ⟨_, rfl⟩
  rw [← ewh]
  refine lv_istore (lv' := [(14, .int (J wh)), (13, .int (J ly1)), (12, .int (J lx1)), (11, .int (J ny1)), (10, .int (J nx1)), (9, .int (J qy1)), (8, .int (J qx1)), (7, .int (J py1)), (6, .int (J px1)), (5, .int (J z_12)), (4, .int (J z_3)), (0, .ref (q (9 + 5 * r))), (1, .ref (q (9 + 5 * r2))), (2, .int (J s)), (3, .int (J t))]) SS.1 SS.2.1 dX11_mapFits_146 hl (by decide) rfl (fun ls hl => ?_)
  have w1 := mulb (A := 80) (B := 80) (a := px1) (b := qy1) (by omega) (by omega)
  have w2 := mulb (A := 80) (B := 80) (a := py1) (b := qx1) (by omega) (by omega)
  have hFT : FT u r r2 s t px1 py1 qx1 qy1 nx1 ny1 lx1 ly1 := ⟨⟨by rw [epx1, h_19.1, h_24.1], by rw [epy1, h_32.1, h_37.1]⟩, ⟨by rw [eqx1, h_50.1, h_55.1], by rw [eqy1, h_68.1, h_73.1]⟩, ⟨by rw [enx1, h_82.1, h_87.1, h_3.1], by rw [eny1, h_96.1, h_101.1, h_3.1]⟩, ⟨by rw [elx1, h_110.1, h_115.1, h_12.1], by rw [ely1, h_124.1, h_129.1, h_12.1]⟩⟩
  have hWH : wh = cWh u r := by rw [ewh]; exact FT_w hFT
  refine lv_iload SS.1 SS.2.1 dX11_mapFits_148 (lv_at hl 0 rfl) ?_
  refine j_if_eq SS (tgt := 171) (x := wh) dX11_mapFits_150 (by decide) (by omega) (fun c_150 => ?_) (fun c_150 => ?_)
  · skip
    refine j_iconst SS dX11_mapFits_171 ?_
    exact W.zret SS.1 SS.2.1 hr (j_nz (by decide)) (fun t0 ht hW => ⟨_, rfl, ⟨0, rfl, (Or.inr ⟨rfl, fun q => by first | exact q.1 (by omega) | (have g1 := (FT_d hFT p4 p5 (by omega) p3 q.2).1; rw [← hWH] at g1; omega)⟩)⟩, ht⟩) (fun _ h => nomatch h) dX11_mapFits_172 hlk
  · skip
    have w3 := mulb (A := 80) (B := 80) (a := nx1) (b := ly1) (by omega) (by omega)
    have w4 := mulb (A := 80) (B := 80) (a := ny1) (b := lx1) (by omega) (by omega)
    have w5 : -20000 ≤ t * wh ∧ t * wh ≤ 20000 := by rcases p3 with e | e; (rw [e]; omega); (rw [e]; omega)
    refine lv_iload SS.1 SS.2.1 dX11_mapFits_153 (lv_at hl 4 rfl) ?_
    refine lv_iload SS.1 SS.2.1 dX11_mapFits_155 (lv_at hl 1 rfl) ?_
    refine j_imul SS (x := nx1) (y := ly1) dX11_mapFits_157 ?_
    refine lv_iload SS.1 SS.2.1 dX11_mapFits_158 (lv_at hl 3 rfl) ?_
    refine lv_iload SS.1 SS.2.1 dX11_mapFits_160 (lv_at hl 2 rfl) ?_
    refine j_imul SS (x := ny1) (y := lx1) dX11_mapFits_162 ?_
    refine j_isub SS (x := (nx1 * ly1)) (y := (ny1 * lx1)) dX11_mapFits_163 ?_
    refine lv_iload_n SS.1 SS.2.1 dX11_mapFits_164 rfl (lv_at hl 14 rfl) ?_
    refine lv_iload SS.1 SS.2.1 dX11_mapFits_165 (lv_at hl 0 rfl) ?_
    refine j_imul SS (x := t) (y := wh) dX11_mapFits_167 ?_
    refine j_icmp_eq SS (tgt := 173) (x := ((nx1 * ly1) - (ny1 * lx1))) (y := (t * wh)) dX11_mapFits_168 (by decide) (by omega) (by omega) (fun c_168 => ?_) (fun c_168 => ?_)
    · skip
      refine lv_iload SS.1 SS.2.1 dX11_mapFits_173 (lv_at hl 4 rfl) ?_
      refine lv_iload SS.1 SS.2.1 dX11_mapFits_175 (lv_at hl 5 rfl) ?_
      refine j_imul SS (x := nx1) (y := qy1) dX11_mapFits_177 ?_
      refine lv_iload SS.1 SS.2.1 dX11_mapFits_178 (lv_at hl 2 rfl) ?_
      refine lv_iload SS.1 SS.2.1 dX11_mapFits_180 (lv_at hl 7 rfl) ?_
      refine j_imul SS (x := lx1) (y := py1) dX11_mapFits_182 ?_
      refine j_isub SS (x := (nx1 * qy1)) (y := (lx1 * py1)) dX11_mapFits_183 ?_
      obtain ⟨ma, ema⟩ : ∃ z : Int, z = ((nx1 * qy1) - (lx1 * py1)) := ⟨_, rfl⟩
      rw [← ema]
      refine lv_istore (lv' := [(15, .int (J ma)), (14, .int (J wh)), (13, .int (J ly1)), (12, .int (J lx1)), (11, .int (J ny1)), (10, .int (J nx1)), (9, .int (J qy1)), (8, .int (J qx1)), (7, .int (J py1)), (6, .int (J px1)), (5, .int (J z_12)), (4, .int (J z_3)), (0, .ref (q (9 + 5 * r))), (1, .ref (q (9 + 5 * r2))), (2, .int (J s)), (3, .int (J t))]) SS.1 SS.2.1 dX11_mapFits_184 hl (by decide) rfl (fun ls hl => ?_)
      refine lv_iload SS.1 SS.2.1 dX11_mapFits_186 (lv_at hl 3 rfl) ?_
      refine lv_iload SS.1 SS.2.1 dX11_mapFits_188 (lv_at hl 9 rfl) ?_
      refine j_imul SS (x := lx1) (y := px1) dX11_mapFits_190 ?_
      refine lv_iload SS.1 SS.2.1 dX11_mapFits_191 (lv_at hl 5 rfl) ?_
      refine lv_iload SS.1 SS.2.1 dX11_mapFits_193 (lv_at hl 7 rfl) ?_
      refine j_imul SS (x := nx1) (y := qx1) dX11_mapFits_195 ?_
      refine j_isub SS (x := (lx1 * px1)) (y := (nx1 * qx1)) dX11_mapFits_196 ?_
      obtain ⟨mb9, emb9⟩ : ∃ z : Int, z = ((lx1 * px1) - (nx1 * qx1)) := ⟨_, rfl⟩
      rw [← emb9]
      refine lv_istore (lv' := [(16, .int (J mb9)), (15, .int (J ma)), (14, .int (J wh)), (13, .int (J ly1)), (12, .int (J lx1)), (11, .int (J ny1)), (10, .int (J nx1)), (9, .int (J qy1)), (8, .int (J qx1)), (7, .int (J py1)), (6, .int (J px1)), (5, .int (J z_12)), (4, .int (J z_3)), (0, .ref (q (9 + 5 * r))), (1, .ref (q (9 + 5 * r2))), (2, .int (J s)), (3, .int (J t))]) SS.1 SS.2.1 dX11_mapFits_197 hl (by decide) rfl (fun ls hl => ?_)
      refine lv_iload SS.1 SS.2.1 dX11_mapFits_199 (lv_at hl 5 rfl) ?_
      refine lv_iload SS.1 SS.2.1 dX11_mapFits_201 (lv_at hl 7 rfl) ?_
      refine j_imul SS (x := ny1) (y := qy1) dX11_mapFits_203 ?_
      refine lv_iload SS.1 SS.2.1 dX11_mapFits_204 (lv_at hl 3 rfl) ?_
      refine lv_iload SS.1 SS.2.1 dX11_mapFits_206 (lv_at hl 9 rfl) ?_
      refine j_imul SS (x := ly1) (y := py1) dX11_mapFits_208 ?_
      refine j_isub SS (x := (ny1 * qy1)) (y := (ly1 * py1)) dX11_mapFits_209 ?_
      obtain ⟨mc9, emc9⟩ : ∃ z : Int, z = ((ny1 * qy1) - (ly1 * py1)) := ⟨_, rfl⟩
      rw [← emc9]
      refine lv_istore (lv' := [(17, .int (J mc9)), (16, .int (J mb9)), (15, .int (J ma)), (14, .int (J wh)), (13, .int (J ly1)), (12, .int (J lx1)), (11, .int (J ny1)), (10, .int (J nx1)), (9, .int (J qy1)), (8, .int (J qx1)), (7, .int (J py1)), (6, .int (J px1)), (5, .int (J z_12)), (4, .int (J z_3)), (0, .ref (q (9 + 5 * r))), (1, .ref (q (9 + 5 * r2))), (2, .int (J s)), (3, .int (J t))]) SS.1 SS.2.1 dX11_mapFits_210 hl (by decide) rfl (fun ls hl => ?_)
      refine lv_iload SS.1 SS.2.1 dX11_mapFits_212 (lv_at hl 4 rfl) ?_
      refine lv_iload SS.1 SS.2.1 dX11_mapFits_214 (lv_at hl 11 rfl) ?_
      refine j_imul SS (x := ly1) (y := px1) dX11_mapFits_216 ?_
      refine lv_iload SS.1 SS.2.1 dX11_mapFits_217 (lv_at hl 6 rfl) ?_
      refine lv_iload SS.1 SS.2.1 dX11_mapFits_219 (lv_at hl 9 rfl) ?_
      refine j_imul SS (x := ny1) (y := qx1) dX11_mapFits_221 ?_
      refine j_isub SS (x := (ly1 * px1)) (y := (ny1 * qx1)) dX11_mapFits_222 ?_
      obtain ⟨md9, emd9⟩ : ∃ z : Int, z = ((ly1 * px1) - (ny1 * qx1)) := ⟨_, rfl⟩
      rw [← emd9]
      refine lv_istore (lv' := [(18, .int (J md9)), (17, .int (J mc9)), (16, .int (J mb9)), (15, .int (J ma)), (14, .int (J wh)), (13, .int (J ly1)), (12, .int (J lx1)), (11, .int (J ny1)), (10, .int (J nx1)), (9, .int (J qy1)), (8, .int (J qx1)), (7, .int (J py1)), (6, .int (J px1)), (5, .int (J z_12)), (4, .int (J z_3)), (0, .ref (q (9 + 5 * r))), (1, .ref (q (9 + 5 * r2))), (2, .int (J s)), (3, .int (J t))]) SS.1 SS.2.1 dX11_mapFits_223 hl (by decide) rfl (fun ls hl => ?_)
      have v1 := mulb (A := 80) (B := 80) (a := nx1) (b := qy1) (by omega) (by omega)
      have v2 := mulb (A := 80) (B := 80) (a := lx1) (b := py1) (by omega) (by omega)
      have v3 := mulb (A := 80) (B := 80) (a := lx1) (b := px1) (by omega) (by omega)
      have v4 := mulb (A := 80) (B := 80) (a := nx1) (b := qx1) (by omega) (by omega)
      have v5 := mulb (A := 80) (B := 80) (a := ny1) (b := qy1) (by omega) (by omega)
      have v6 := mulb (A := 80) (B := 80) (a := ly1) (b := py1) (by omega) (by omega)
      have v7 := mulb (A := 80) (B := 80) (a := ly1) (b := px1) (by omega) (by omega)
      have v8 := mulb (A := 80) (B := 80) (a := ny1) (b := qx1) (by omega) (by omega)
      refine lv_iload SS.1 SS.2.1 dX11_mapFits_225 (lv_at hl 3 rfl) ?_
      refine lv_iload SS.1 SS.2.1 dX11_mapFits_227 (lv_at hl 4 rfl) ?_
      refine j_irem SS (x := ma) (y := wh) dX11_mapFits_229 (by omega) (by omega) (by omega) ?_
      have tm0 := tm_a (a := ma) (b := wh) (K := 20000) (by omega)
      refine j_if_ne SS (tgt := 257) (x := (Int.tmod ma wh)) dX11_mapFits_230 (by decide) (by omega) (fun c_230 => ?_) (fun c_230 => ?_)
      · skip
        refine j_iconst SS dX11_mapFits_257 ?_
        exact W.zret SS.1 SS.2.1 hr (j_nz (by decide)) (fun t0 ht hW => ⟨_, rfl, ⟨0, rfl, (Or.inr ⟨rfl, (fun q => by obtain ⟨g1, a, b, c, e, g2, ⟨g3, g4⟩, g5, g6⟩ := FT_d hFT p4 p5 (by omega) p3 q.2; rw [← hWH] at g3 g4 g5 g6; have k1 := (mat_t (by omega) (ema.trans g3)).1; have k2 := (mat_t (by omega) (emb9.trans g4)).1; have k3 := (mat_t (by omega) (emc9.trans g5)).1; have k4 := (mat_t (by omega) (emd9.trans g6)).1; omega)⟩)⟩, ht⟩) (fun _ h => nomatch h) dX11_mapFits_258 hlk
      · skip
        refine lv_iload SS.1 SS.2.1 dX11_mapFits_233 (lv_at hl 2 rfl) ?_
        refine lv_iload SS.1 SS.2.1 dX11_mapFits_235 (lv_at hl 4 rfl) ?_
        refine j_irem SS (x := mb9) (y := wh) dX11_mapFits_237 (by omega) (by omega) (by omega) ?_
        have tm1 := tm_a (a := mb9) (b := wh) (K := 20000) (by omega)
        refine j_if_ne SS (tgt := 257) (x := (Int.tmod mb9 wh)) dX11_mapFits_238 (by decide) (by omega) (fun c_238 => ?_) (fun c_238 => ?_)
        · skip
          refine j_iconst SS dX11_mapFits_257 ?_
          exact W.zret SS.1 SS.2.1 hr (j_nz (by decide)) (fun t0 ht hW => ⟨_, rfl, ⟨0, rfl, (Or.inr ⟨rfl, (fun q => by obtain ⟨g1, a, b, c, e, g2, ⟨g3, g4⟩, g5, g6⟩ := FT_d hFT p4 p5 (by omega) p3 q.2; rw [← hWH] at g3 g4 g5 g6; have k1 := (mat_t (by omega) (ema.trans g3)).1; have k2 := (mat_t (by omega) (emb9.trans g4)).1; have k3 := (mat_t (by omega) (emc9.trans g5)).1; have k4 := (mat_t (by omega) (emd9.trans g6)).1; omega)⟩)⟩, ht⟩) (fun _ h => nomatch h) dX11_mapFits_258 hlk
        · skip
          refine lv_iload SS.1 SS.2.1 dX11_mapFits_241 (lv_at hl 1 rfl) ?_
          refine lv_iload SS.1 SS.2.1 dX11_mapFits_243 (lv_at hl 4 rfl) ?_
          refine j_irem SS (x := mc9) (y := wh) dX11_mapFits_245 (by omega) (by omega) (by omega) ?_
          have tm2 := tm_a (a := mc9) (b := wh) (K := 20000) (by omega)
          refine j_if_ne SS (tgt := 257) (x := (Int.tmod mc9 wh)) dX11_mapFits_246 (by decide) (by omega) (fun c_246 => ?_) (fun c_246 => ?_)
          · skip
            refine j_iconst SS dX11_mapFits_257 ?_
            exact W.zret SS.1 SS.2.1 hr (j_nz (by decide)) (fun t0 ht hW => ⟨_, rfl, ⟨0, rfl, (Or.inr ⟨rfl, (fun q => by obtain ⟨g1, a, b, c, e, g2, ⟨g3, g4⟩, g5, g6⟩ := FT_d hFT p4 p5 (by omega) p3 q.2; rw [← hWH] at g3 g4 g5 g6; have k1 := (mat_t (by omega) (ema.trans g3)).1; have k2 := (mat_t (by omega) (emb9.trans g4)).1; have k3 := (mat_t (by omega) (emc9.trans g5)).1; have k4 := (mat_t (by omega) (emd9.trans g6)).1; omega)⟩)⟩, ht⟩) (fun _ h => nomatch h) dX11_mapFits_258 hlk
          · skip
            refine lv_iload SS.1 SS.2.1 dX11_mapFits_249 (lv_at hl 0 rfl) ?_
            refine lv_iload SS.1 SS.2.1 dX11_mapFits_251 (lv_at hl 4 rfl) ?_
            refine j_irem SS (x := md9) (y := wh) dX11_mapFits_253 (by omega) (by omega) (by omega) ?_
            have tm3 := tm_a (a := md9) (b := wh) (K := 20000) (by omega)
            refine j_if_eq SS (tgt := 259) (x := (Int.tmod md9 wh)) dX11_mapFits_254 (by decide) (by omega) (fun c_254 => ?_) (fun c_254 => ?_)
            · skip
              refine lv_iload_n SS.1 SS.2.1 dX11_mapFits_259 rfl (lv_at hl 17 rfl) ?_
              refine lv_istore (lv' := [(19, .int (J s)), (18, .int (J md9)), (17, .int (J mc9)), (16, .int (J mb9)), (15, .int (J ma)), (14, .int (J wh)), (13, .int (J ly1)), (12, .int (J lx1)), (11, .int (J ny1)), (10, .int (J nx1)), (9, .int (J qy1)), (8, .int (J qx1)), (7, .int (J py1)), (6, .int (J px1)), (5, .int (J z_12)), (4, .int (J z_3)), (0, .ref (q (9 + 5 * r))), (1, .ref (q (9 + 5 * r2))), (2, .int (J s)), (3, .int (J t))]) SS.1 SS.2.1 dX11_mapFits_260 hl (by decide) rfl (fun ls hl => ?_)
              refine j_iconst SS dX11_mapFits_262 ?_
              refine lv_istore (lv' := [(20, .int (J 0)), (19, .int (J s)), (18, .int (J md9)), (17, .int (J mc9)), (16, .int (J mb9)), (15, .int (J ma)), (14, .int (J wh)), (13, .int (J ly1)), (12, .int (J lx1)), (11, .int (J ny1)), (10, .int (J nx1)), (9, .int (J qy1)), (8, .int (J qx1)), (7, .int (J py1)), (6, .int (J px1)), (5, .int (J z_12)), (4, .int (J z_3)), (0, .ref (q (9 + 5 * r))), (1, .ref (q (9 + 5 * r2))), (2, .int (J s)), (3, .int (J t))]) SS.1 SS.2.1 dX11_mapFits_263 hl (by decide) rfl (fun ls hl => ?_)
              have L_265 : ∀ (nn : Nat) (tq : Int) (i : Int) (ls : Array Slot) (hl : lv_has ls 24 [(0, .ref (q (9 + 5 * r))), (1, .ref (q (9 + 5 * r2))), (2, .int (J s)), (3, .int (J t)), (14, .int (J wh)), (15, .int (J ma)), (16, .int (J mb9)), (17, .int (J mc9)), (18, .int (J md9)), (19, .int (J tq)), (20, .int (J i))]) (i265_0 : 0 ≤ i ∧ i ≤ u.1.2.2.1 r) (i265_1 : (0 ≤ tq ∧ tq < u.1.2.2.1 r) ∧ tq = (s + t * i) % u.1.2.2.1 r) (i265_2 : ∀ k : Int, 0 ≤ k → k < i → ma * (rx u r k - rx u r 0) + mb9 * (ry9 u r k - ry9 u r 0) = wh * (rx u r2 ((s + t * k) % u.1.2.2.1 r) - rx u r2 s) ∧ mc9 * (rx u r k - rx u r 0) + md9 * (ry9 u r k - ry9 u r 0) = wh * (ry9 u r2 ((s + t * k) % u.1.2.2.1 r) - ry9 u r2 s)), (u.1.2.2.1 r - i).toNat < nn → W pr l en (headSpec (jw yX11_mapFits cX11_mapFits 24 (some .boolean)) (jr 1 23)).room st mi (([.ref (q (9 + 5 * r)), .ref (q (9 + 5 * r2)), .int (J s), .int (J t)] : List Value).toArray) below meth co st.heap [] 0 0 (MQ below (jRi (fun z => (z = 1 ∧ (cWh u r ≠ 0 ∧ cAF u r r2 s t)) ∨ (z = 0 ∧ ¬ (cWh u r ≠ 0 ∧ cAF u r r2 s t)))) (([.ref (q (9 + 5 * r)), .ref (q (9 + 5 * r2)), .int (J s), .int (J t)] : List Value).toArray) st 0 0 (fun _ => False)) (F0 mi 265 ls []) := by
                intro nn
                induction nn with
                | zero => intros; omega
                | succ nn ih_265 =>
                  intro tq i ls hl i265_0 i265_1 i265_2 hm
                  refine lv_iload SS.1 SS.2.1 dX11_mapFits_265 (lv_at hl 10 rfl) ?_
                  refine lv_aload_n SS.1 SS.2.1 dX11_mapFits_267 rfl (lv_at hl 0 rfl) ?_
                  refine j_getS SS hG hP (9 + 5 * r) (v := .int (J (u.1.2.2.1 r))) (C := RX7) (T := TX7) (N := 3) (cw_ring (by omega)) rfl inX7 2 (by decide) (ref := "GridPolygons$Ring") kw_135 kw_132 rfl dX11_mapFits_268 ?_
                  refine j_icmp_ge SS (tgt := 389) (x := i) (y := (u.1.2.2.1 r)) dX11_mapFits_271 (by decide) (by omega) (by omega) (fun c_271 => ?_) (fun c_271 => ?_)
                  · skip
                    refine j_iconst SS dX11_mapFits_389 ?_
                    exact W.zret SS.1 SS.2.1 hr (j_nz (by decide)) (fun t0 ht hW => ⟨_, rfl, ⟨1, rfl, (Or.inl ⟨rfl, FT_y hFT hWH (by omega) (by omega) ema emb9 emc9 emd9 (by omega) (by omega) (by omega) (by omega) (fun k h0 h1 => i265_2 k h0 (by omega))⟩)⟩, ht⟩) (fun _ h => nomatch h) dX11_mapFits_390 hlk
                  · skip
                    refine lv_aload_n SS.1 SS.2.1 dX11_mapFits_274 rfl (lv_at hl 0 rfl) ?_
                    refine lv_iload SS.1 SS.2.1 dX11_mapFits_275 (lv_at hl 10 rfl) ?_
                    refine j_uRi SS (As := [.int (J i)]) (rest := []) (c_X8_x l D q u r (by omega) i (show -2147483648 ≤ i ∧ i ≤ 2147483647 from (by omega))) mu_7_x kw_463 hG hP hP (ci := 7) (q0 := (9 + 5 * r)) rfl (cw_ring (by omega)) rfl rfl hl.1 ⟨⟨Nat.le_of_ble_eq_true rfl, Nat.le_of_ble_eq_true rfl⟩, Nat.le_of_ble_eq_true rfl, Nat.le_refl _, Nat.le_refl _⟩ rfl dX11_mapFits_277 (fun z_277 h_277 => ?_)
                    have h_277 : z_277 = rx u r i ∧ ∀ K : Int, 0 ≤ K → RB K u r → -K ≤ z_277 ∧ z_277 ≤ K := h_277
                    have hb_277 := h_277.2 40 (by omega) (p0)
                    refine lv_aload_n SS.1 SS.2.1 dX11_mapFits_280 rfl (lv_at hl 0 rfl) ?_
                    refine j_iconst SS dX11_mapFits_281 ?_
                    refine j_uRi SS (As := [.int (J 0)]) (rest := [.int (J z_277)]) (c_X8_x l D q u r (by omega) 0 (show -2147483648 ≤ (0 : Int) ∧ (0 : Int) ≤ 2147483647 from (by omega))) mu_7_x kw_463 hG hP hP (ci := 7) (q0 := (9 + 5 * r)) rfl (cw_ring (by omega)) rfl rfl hl.1 ⟨⟨Nat.le_of_ble_eq_true rfl, Nat.le_of_ble_eq_true rfl⟩, Nat.le_of_ble_eq_true rfl, Nat.le_refl _, Nat.le_refl _⟩ rfl dX11_mapFits_282 (fun z_282 h_282 => ?_)
                    have h_282 : z_282 = rx u r (0 : Int) ∧ ∀ K : Int, 0 ≤ K → RB K u r → -K ≤ z_282 ∧ z_282 ≤ K := h_282
                    have hb_282 := h_282.2 40 (by omega) (p0)
                    refine j_isub SS (x := z_277) (y := z_282) dX11_mapFits_285 ?_
                    refine lv_istore (lv' := [(21, .int (J (z_277 - z_282))), (0, .ref (q (9 + 5 * r))), (1, .ref (q (9 + 5 * r2))), (2, .int (J s)), (3, .int (J t)), (14, .int (J wh)), (15, .int (J ma)), (16, .int (J mb9)), (17, .int (J mc9)), (18, .int (J md9)), (19, .int (J tq)), (20, .int (J i))]) SS.1 SS.2.1 dX11_mapFits_286 hl (by decide) rfl (fun ls hl => ?_)
                    refine lv_aload_n SS.1 SS.2.1 dX11_mapFits_288 rfl (lv_at hl 1 rfl) ?_
                    refine lv_iload SS.1 SS.2.1 dX11_mapFits_289 (lv_at hl 11 rfl) ?_
                    refine j_uRi SS (As := [.int (J i)]) (rest := []) (c_X8_y l D q u r (by omega) i (show -2147483648 ≤ i ∧ i ≤ 2147483647 from (by omega))) mu_7_y kw_464 hG hP hP (ci := 7) (q0 := (9 + 5 * r)) rfl (cw_ring (by omega)) rfl rfl hl.1 ⟨⟨Nat.le_of_ble_eq_true rfl, Nat.le_of_ble_eq_true rfl⟩, Nat.le_of_ble_eq_true rfl, Nat.le_refl _, Nat.le_refl _⟩ rfl dX11_mapFits_291 (fun z_291 h_291 => ?_)
                    have h_291 : z_291 = ry9 u r i ∧ ∀ K : Int, 0 ≤ K → RB K u r → -K ≤ z_291 ∧ z_291 ≤ K := h_291
                    have hb_291 := h_291.2 40 (by omega) (p0)
                    refine lv_aload_n SS.1 SS.2.1 dX11_mapFits_294 rfl (lv_at hl 1 rfl) ?_
                    refine j_iconst SS dX11_mapFits_295 ?_
                    refine j_uRi SS (As := [.int (J 0)]) (rest := [.int (J z_291)]) (c_X8_y l D q u r (by omega) 0 (show -2147483648 ≤ (0 : Int) ∧ (0 : Int) ≤ 2147483647 from (by omega))) mu_7_y kw_464 hG hP hP (ci := 7) (q0 := (9 + 5 * r)) rfl (cw_ring (by omega)) rfl rfl hl.1 ⟨⟨Nat.le_of_ble_eq_true rfl, Nat.le_of_ble_eq_true rfl⟩, Nat.le_of_ble_eq_true rfl, Nat.le_refl _, Nat.le_refl _⟩ rfl dX11_mapFits_296 (fun z_296 h_296 => ?_)
                    have h_296 : z_296 = ry9 u r (0 : Int) ∧ ∀ K : Int, 0 ≤ K → RB K u r → -K ≤ z_296 ∧ z_296 ≤ K := h_296
                    have hb_296 := h_296.2 40 (by omega) (p0)
                    refine j_isub SS (x := z_291) (y := z_296) dX11_mapFits_299 ?_
                    refine lv_istore (lv' := [(22, .int (J (z_291 - z_296))), (21, .int (J (z_277 - z_282))), (0, .ref (q (9 + 5 * r))), (1, .ref (q (9 + 5 * r2))), (2, .int (J s)), (3, .int (J t)), (14, .int (J wh)), (15, .int (J ma)), (16, .int (J mb9)), (17, .int (J mc9)), (18, .int (J md9)), (19, .int (J tq)), (20, .int (J i))]) SS.1 SS.2.1 dX11_mapFits_300 hl (by decide) rfl (fun ls hl => ?_)
                    refine lv_iload SS.1 SS.2.1 dX11_mapFits_302 (lv_at hl 7 rfl) ?_
                    refine lv_iload SS.1 SS.2.1 dX11_mapFits_304 (lv_at hl 1 rfl) ?_
                    refine j_imul SS (x := ma) (y := (z_277 - z_282)) dX11_mapFits_306 ?_
                    refine lv_iload SS.1 SS.2.1 dX11_mapFits_307 (lv_at hl 8 rfl) ?_
                    refine lv_iload SS.1 SS.2.1 dX11_mapFits_309 (lv_at hl 0 rfl) ?_
                    refine j_imul SS (x := mb9) (y := (z_291 - z_296)) dX11_mapFits_311 ?_
                    refine j_iadd SS (x := (ma * (z_277 - z_282))) (y := (mb9 * (z_291 - z_296))) dX11_mapFits_312 ?_
                    refine lv_iload SS.1 SS.2.1 dX11_mapFits_313 (lv_at hl 6 rfl) ?_
                    refine lv_aload_n SS.1 SS.2.1 dX11_mapFits_315 rfl (lv_at hl 3 rfl) ?_
                    refine lv_iload SS.1 SS.2.1 dX11_mapFits_316 (lv_at hl 11 rfl) ?_
                    refine j_uRi SS (As := [.int (J tq)]) (rest := [.int (J wh), .int (J ((ma * (z_277 - z_282)) + (mb9 * (z_291 - z_296))))]) (c_X8_x l D q u r2 (by omega) tq (show -2147483648 ≤ tq ∧ tq ≤ 2147483647 from (by omega))) mu_7_x kw_463 hG hP hP (ci := 7) (q0 := (9 + 5 * r2)) rfl (cw_ring (by omega)) rfl rfl hl.1 ⟨⟨Nat.le_of_ble_eq_true rfl, Nat.le_of_ble_eq_true rfl⟩, Nat.le_of_ble_eq_true rfl, Nat.le_refl _, Nat.le_refl _⟩ rfl dX11_mapFits_318 (fun z_318 h_318 => ?_)
                    have h_318 : z_318 = rx u r2 tq ∧ ∀ K : Int, 0 ≤ K → RB K u r2 → -K ≤ z_318 ∧ z_318 ≤ K := h_318
                    have hb_318 := h_318.2 40 (by omega) (p1)
                    refine lv_aload_n SS.1 SS.2.1 dX11_mapFits_321 rfl (lv_at hl 3 rfl) ?_
                    refine lv_iload_n SS.1 SS.2.1 dX11_mapFits_322 rfl (lv_at hl 4 rfl) ?_
                    refine j_uRi SS (As := [.int (J s)]) (rest := [.int (J z_318), .int (J wh), .int (J ((ma * (z_277 - z_282)) + (mb9 * (z_291 - z_296))))]) (c_X8_x l D q u r2 (by omega) s (show -2147483648 ≤ s ∧ s ≤ 2147483647 from (by omega))) mu_7_x kw_463 hG hP hP (ci := 7) (q0 := (9 + 5 * r2)) rfl (cw_ring (by omega)) rfl rfl hl.1 ⟨⟨Nat.le_of_ble_eq_true rfl, Nat.le_of_ble_eq_true rfl⟩, Nat.le_of_ble_eq_true rfl, Nat.le_refl _, Nat.le_refl _⟩ rfl dX11_mapFits_323 (fun z_323 h_323 => ?_)
                    have h_323 : z_323 = rx u r2 s ∧ ∀ K : Int, 0 ≤ K → RB K u r2 → -K ≤ z_323 ∧ z_323 ≤ K := h_323
                    have hb_323 := h_323.2 40 (by omega) (p1)
                    refine j_isub SS (x := z_318) (y := z_323) dX11_mapFits_326 ?_
                    refine j_imul SS (x := wh) (y := (z_318 - z_323)) dX11_mapFits_327 ?_
                    have x1 := mulb (A := 12800) (B := 80) (a := ma) (b := z_277 - z_282) (by omega) (by omega)
                    have x2 := mulb (A := 12800) (B := 80) (a := mb9) (b := z_291 - z_296) (by omega) (by omega)
                    have x3 := mulb (A := 12800) (B := 80) (a := wh) (b := z_318 - z_323) (by omega) (by omega)
                    refine j_icmp_ne SS (tgt := 364) (x := ((ma * (z_277 - z_282)) + (mb9 * (z_291 - z_296)))) (y := (wh * (z_318 - z_323))) dX11_mapFits_328 (by decide) (by omega) (by omega) (fun c_328 => ?_) (fun c_328 => ?_)
                    · skip
                      refine j_iconst SS dX11_mapFits_364 ?_
                      refine lv_istore (lv' := [(23, .int (J 0)), (22, .int (J (z_291 - z_296))), (21, .int (J (z_277 - z_282))), (0, .ref (q (9 + 5 * r))), (1, .ref (q (9 + 5 * r2))), (2, .int (J s)), (3, .int (J t)), (14, .int (J wh)), (15, .int (J ma)), (16, .int (J mb9)), (17, .int (J mc9)), (18, .int (J md9)), (19, .int (J tq)), (20, .int (J i))]) SS.1 SS.2.1 dX11_mapFits_365 hl (by decide) rfl (fun ls hl => ?_)
                      refine lv_iload SS.1 SS.2.1 dX11_mapFits_367 (lv_at hl 0 rfl) ?_
                      refine j_if_ne SS (tgt := 374) dX11_mapFits_369 (by decide) (by decide) (fun c_369 => absurd c_369 (by decide)) (fun c_369 => ?_)
                      refine j_iconst SS dX11_mapFits_372 ?_
                      exact W.zret SS.1 SS.2.1 hr (j_nz (by decide)) (fun t0 ht hW => ⟨_, rfl, ⟨0, rfl, (Or.inr ⟨rfl, (fun q => by obtain ⟨g1, a, b, c, e, g2, ⟨g3, g4⟩, g5, g6⟩ := FT_d hFT p4 p5 (by omega) p3 q.2; rw [← hWH, ← ema] at g3; rw [← hWH, ← emb9] at g4; rw [← hWH, ← emc9] at g5; rw [← hWH, ← emd9] at g6; obtain ⟨k1, k2⟩ := g2 i (by omega) (by omega); rw [← i265_1.2] at k1 k2; first | (refine c_328 ?_; rw [h_277.1, h_282.1, h_291.1, h_296.1, h_318.1, h_323.1, ← k1, g3, g4]; grind) | (refine c_357 ?_; rw [h_277.1, h_282.1, h_291.1, h_296.1, h_347.1, h_352.1, ← k2, g5, g6]; grind))⟩)⟩, ht⟩) (fun _ h => nomatch h) dX11_mapFits_373 hlk
                    · skip
                      refine lv_iload SS.1 SS.2.1 dX11_mapFits_331 (lv_at hl 9 rfl) ?_
                      refine lv_iload SS.1 SS.2.1 dX11_mapFits_333 (lv_at hl 1 rfl) ?_
                      refine j_imul SS (x := mc9) (y := (z_277 - z_282)) dX11_mapFits_335 ?_
                      refine lv_iload SS.1 SS.2.1 dX11_mapFits_336 (lv_at hl 10 rfl) ?_
                      refine lv_iload SS.1 SS.2.1 dX11_mapFits_338 (lv_at hl 0 rfl) ?_
                      refine j_imul SS (x := md9) (y := (z_291 - z_296)) dX11_mapFits_340 ?_
                      refine j_iadd SS (x := (mc9 * (z_277 - z_282))) (y := (md9 * (z_291 - z_296))) dX11_mapFits_341 ?_
                      refine lv_iload SS.1 SS.2.1 dX11_mapFits_342 (lv_at hl 6 rfl) ?_
                      refine lv_aload_n SS.1 SS.2.1 dX11_mapFits_344 rfl (lv_at hl 3 rfl) ?_
                      refine lv_iload SS.1 SS.2.1 dX11_mapFits_345 (lv_at hl 11 rfl) ?_
                      refine j_uRi SS (As := [.int (J tq)]) (rest := [.int (J wh), .int (J ((mc9 * (z_277 - z_282)) + (md9 * (z_291 - z_296))))]) (c_X8_y l D q u r2 (by omega) tq (show -2147483648 ≤ tq ∧ tq ≤ 2147483647 from (by omega))) mu_7_y kw_464 hG hP hP (ci := 7) (q0 := (9 + 5 * r2)) rfl (cw_ring (by omega)) rfl rfl hl.1 ⟨⟨Nat.le_of_ble_eq_true rfl, Nat.le_of_ble_eq_true rfl⟩, Nat.le_of_ble_eq_true rfl, Nat.le_refl _, Nat.le_refl _⟩ rfl dX11_mapFits_347 (fun z_347 h_347 => ?_)
                      have h_347 : z_347 = ry9 u r2 tq ∧ ∀ K : Int, 0 ≤ K → RB K u r2 → -K ≤ z_347 ∧ z_347 ≤ K := h_347
                      have hb_347 := h_347.2 40 (by omega) (p1)
                      refine lv_aload_n SS.1 SS.2.1 dX11_mapFits_350 rfl (lv_at hl 3 rfl) ?_
                      refine lv_iload_n SS.1 SS.2.1 dX11_mapFits_351 rfl (lv_at hl 4 rfl) ?_
                      refine j_uRi SS (As := [.int (J s)]) (rest := [.int (J z_347), .int (J wh), .int (J ((mc9 * (z_277 - z_282)) + (md9 * (z_291 - z_296))))]) (c_X8_y l D q u r2 (by omega) s (show -2147483648 ≤ s ∧ s ≤ 2147483647 from (by omega))) mu_7_y kw_464 hG hP hP (ci := 7) (q0 := (9 + 5 * r2)) rfl (cw_ring (by omega)) rfl rfl hl.1 ⟨⟨Nat.le_of_ble_eq_true rfl, Nat.le_of_ble_eq_true rfl⟩, Nat.le_of_ble_eq_true rfl, Nat.le_refl _, Nat.le_refl _⟩ rfl dX11_mapFits_352 (fun z_352 h_352 => ?_)
                      have h_352 : z_352 = ry9 u r2 s ∧ ∀ K : Int, 0 ≤ K → RB K u r2 → -K ≤ z_352 ∧ z_352 ≤ K := h_352
                      have hb_352 := h_352.2 40 (by omega) (p1)
                      refine j_isub SS (x := z_347) (y := z_352) dX11_mapFits_355 ?_
                      refine j_imul SS (x := wh) (y := (z_347 - z_352)) dX11_mapFits_356 ?_
                      have x4 := mulb (A := 12800) (B := 80) (a := mc9) (b := z_277 - z_282) (by omega) (by omega)
                      have x5 := mulb (A := 12800) (B := 80) (a := md9) (b := z_291 - z_296) (by omega) (by omega)
                      have x6 := mulb (A := 12800) (B := 80) (a := wh) (b := z_347 - z_352) (by omega) (by omega)
                      refine j_icmp_ne SS (tgt := 364) (x := ((mc9 * (z_277 - z_282)) + (md9 * (z_291 - z_296)))) (y := (wh * (z_347 - z_352))) dX11_mapFits_357 (by decide) (by omega) (by omega) (fun c_357 => ?_) (fun c_357 => ?_)
                      · skip
                        refine j_iconst SS dX11_mapFits_364 ?_
                        refine lv_istore (lv' := [(23, .int (J 0)), (22, .int (J (z_291 - z_296))), (21, .int (J (z_277 - z_282))), (0, .ref (q (9 + 5 * r))), (1, .ref (q (9 + 5 * r2))), (2, .int (J s)), (3, .int (J t)), (14, .int (J wh)), (15, .int (J ma)), (16, .int (J mb9)), (17, .int (J mc9)), (18, .int (J md9)), (19, .int (J tq)), (20, .int (J i))]) SS.1 SS.2.1 dX11_mapFits_365 hl (by decide) rfl (fun ls hl => ?_)
                        refine lv_iload SS.1 SS.2.1 dX11_mapFits_367 (lv_at hl 0 rfl) ?_
                        refine j_if_ne SS (tgt := 374) dX11_mapFits_369 (by decide) (by decide) (fun c_369 => absurd c_369 (by decide)) (fun c_369 => ?_)
                        refine j_iconst SS dX11_mapFits_372 ?_
                        exact W.zret SS.1 SS.2.1 hr (j_nz (by decide)) (fun t0 ht hW => ⟨_, rfl, ⟨0, rfl, (Or.inr ⟨rfl, (fun q => by obtain ⟨g1, a, b, c, e, g2, ⟨g3, g4⟩, g5, g6⟩ := FT_d hFT p4 p5 (by omega) p3 q.2; rw [← hWH, ← ema] at g3; rw [← hWH, ← emb9] at g4; rw [← hWH, ← emc9] at g5; rw [← hWH, ← emd9] at g6; obtain ⟨k1, k2⟩ := g2 i (by omega) (by omega); rw [← i265_1.2] at k1 k2; first | (refine c_328 ?_; rw [h_277.1, h_282.1, h_291.1, h_296.1, h_318.1, h_323.1, ← k1, g3, g4]; grind) | (refine c_357 ?_; rw [h_277.1, h_282.1, h_291.1, h_296.1, h_347.1, h_352.1, ← k2, g5, g6]; grind))⟩)⟩, ht⟩) (fun _ h => nomatch h) dX11_mapFits_373 hlk
                      · skip
                        refine j_iconst SS dX11_mapFits_360 ?_
                        refine lv_goto (tgt := 365) SS.1 SS.2.1 dX11_mapFits_361 (by decide) ?_
                        refine lv_istore (lv' := [(23, .int (J 1)), (22, .int (J (z_291 - z_296))), (21, .int (J (z_277 - z_282))), (0, .ref (q (9 + 5 * r))), (1, .ref (q (9 + 5 * r2))), (2, .int (J s)), (3, .int (J t)), (14, .int (J wh)), (15, .int (J ma)), (16, .int (J mb9)), (17, .int (J mc9)), (18, .int (J md9)), (19, .int (J tq)), (20, .int (J i))]) SS.1 SS.2.1 dX11_mapFits_365 hl (by decide) rfl (fun ls hl => ?_)
                        refine lv_iload SS.1 SS.2.1 dX11_mapFits_367 (lv_at hl 0 rfl) ?_
                        refine j_if_ne SS (tgt := 374) dX11_mapFits_369 (by decide) (by decide) (fun c_369 => ?_) (fun c_369 => absurd c_369 (by decide))
                        refine lv_aload_n SS.1 SS.2.1 dX11_mapFits_374 rfl (lv_at hl 4 rfl) ?_
                        refine lv_iload SS.1 SS.2.1 dX11_mapFits_375 (lv_at hl 12 rfl) ?_
                        refine lv_iload_n SS.1 SS.2.1 dX11_mapFits_377 rfl (lv_at hl 6 rfl) ?_
                        refine j_vRi SS (As := [.int (J tq), .int (J t)]) (rest := []) (c_X7_around l D q u r2 (by omega) (40 : Int) tq t (show 0 ≤ (40 : Int) ∧ (40 : Int) ≤ 80 from (by omega)) (show RB (40 : Int) u r2 from (p1)) (show -1000 ≤ tq ∧ tq ≤ 1000 from (by omega)) (show t = 1 ∨ t = -1 from (p3))) mf_X7_around kw_666 hG hP hP (ci := 7) (q0 := (9 + 5 * r2)) rfl (cw_ring (by omega)) rfl rfl hl.1 ⟨⟨Nat.le_of_ble_eq_true rfl, Nat.le_of_ble_eq_true rfl⟩, Nat.le_of_ble_eq_true rfl, Nat.le_refl _, Nat.le_refl _⟩ rfl dX11_mapFits_378 (fun z_378 h_378 => ?_)
                        have h_378 : z_378 = ar u r2 tq t ∧ -1000 ≤ z_378 ∧ z_378 ≤ 1001 := h_378
                        refine lv_istore (lv' := [(19, .int (J z_378)), (23, .int (J 1)), (22, .int (J (z_291 - z_296))), (21, .int (J (z_277 - z_282))), (0, .ref (q (9 + 5 * r))), (1, .ref (q (9 + 5 * r2))), (2, .int (J s)), (3, .int (J t)), (14, .int (J wh)), (15, .int (J ma)), (16, .int (J mb9)), (17, .int (J mc9)), (18, .int (J md9)), (20, .int (J i))]) SS.1 SS.2.1 dX11_mapFits_381 hl (by decide) rfl (fun ls hl => ?_)
                        refine lv_iinc (v := J (i + 1)) (lv' := [(20, .int (J (i + 1))), (19, .int (J z_378)), (23, .int (J 1)), (22, .int (J (z_291 - z_296))), (21, .int (J (z_277 - z_282))), (0, .ref (q (9 + 5 * r))), (1, .ref (q (9 + 5 * r2))), (2, .int (J s)), (3, .int (J t)), (14, .int (J wh)), (15, .int (J ma)), (16, .int (J mb9)), (17, .int (J mc9)), (18, .int (J md9))]) SS.1 SS.2.1 dX11_mapFits_383 hl (k := 13) rfl (J_add _ _) (by decide) rfl (fun ls hl => ?_)
                        refine lv_goto (tgt := 265) SS.1 SS.2.1 dX11_mapFits_386 (by decide) ?_
                        exact ih_265 z_378 (i + 1) ls (lv_sub hl [5, 6, 7, 8, 9, 10, 11, 12, 13, 1, 0] rfl) (by omega) (ar_m3 h_378.1 i265_1.2 p4 p5 p3) (fun k h0 h1 => by by_cases e : k = i; (rw [e, ← i265_1.2, ← h_277.1, ← h_282.1, ← h_291.1, ← h_296.1, ← h_318.1, ← h_323.1, ← h_347.1, ← h_352.1]; exact ⟨by omega, by omega⟩); exact i265_2 k h0 (by omega)) (by omega)
              exact L_265 ((u.1.2.2.1 r - (0 : Int)).toNat + 1) s 0 ls (lv_sub hl [17, 18, 19, 20, 6, 5, 4, 3, 2, 1, 0] rfl) (by omega) (⟨by omega, by rw [Int.mul_zero, Int.add_zero]; exact (Int.emod_eq_of_lt (by omega) (by omega)).symm⟩) (fun k h0 h1 => by omega) (Nat.lt_succ_self _)
            · skip
              refine j_iconst SS dX11_mapFits_257 ?_
              exact W.zret SS.1 SS.2.1 hr (j_nz (by decide)) (fun t0 ht hW => ⟨_, rfl, ⟨0, rfl, (Or.inr ⟨rfl, (fun q => by obtain ⟨g1, a, b, c, e, g2, ⟨g3, g4⟩, g5, g6⟩ := FT_d hFT p4 p5 (by omega) p3 q.2; rw [← hWH] at g3 g4 g5 g6; have k1 := (mat_t (by omega) (ema.trans g3)).1; have k2 := (mat_t (by omega) (emb9.trans g4)).1; have k3 := (mat_t (by omega) (emc9.trans g5)).1; have k4 := (mat_t (by omega) (emd9.trans g6)).1; omega)⟩)⟩, ht⟩) (fun _ h => nomatch h) dX11_mapFits_258 hlk
    · skip
      refine j_iconst SS dX11_mapFits_171 ?_
      exact W.zret SS.1 SS.2.1 hr (j_nz (by decide)) (fun t0 ht hW => ⟨_, rfl, ⟨0, rfl, (Or.inr ⟨rfl, fun q => by first | exact q.1 (by omega) | (have g1 := (FT_d hFT p4 p5 (by omega) p3 q.2).1; rw [← hWH] at g1; omega)⟩)⟩, ht⟩) (fun _ h => nomatch h) dX11_mapFits_172 hlk

set_option maxHeartbeats 4000000 in
set_option maxRecDepth 100000 in
theorem c_X11_mapsBetween3 (l : Launch) (D : JD) (q : Nat → Nat) (u : CS) (r : Nat) (hr : r ≤ 8) (r2 : Nat) (hr2 : r2 ≤ 8) (p0 : RB 40 u r) (p1 : RB 40 u r2) (p2 : 3 ≤ u.1.2.2.1 r) (p3 : 3 ≤ u.1.2.2.1 r2) : Met l yX11_mapsBetween (jw yX11_mapsBetween cX11_mapsBetween 4 (some .int)) (jr 3 66) (jP [.ref (q (9 + 5 * r)), .ref (q (9 + 5 * r2))] D (fun H => va_P D.1 j_cl (cW D q u) H)) (jRi (fun z => mbC u r r2 z ∧ 0 ≤ z ∧ z ≤ 800)) 0 0 (fun _ => False) := by
  refine Met.ofW (cc := cX11_mapsBetween) (maxL := 4) (ret := (some .int)) (by decide) rfl ?_
  intro pr en st mi args below meth co s₁ B hml hv
  obtain ⟨rfl, hG, hP⟩ := hv
  have hr := B.returns
  have hlk := B.notSynchronized
  have SS : jS pr mi co cX11_mapsBetween 4 st _ RX11 := ⟨B.exec, B.bytes, hml, findClass_of_methodNamed B.named, fun w hw => atoms_spec (ws := (jw yX11_mapsBetween cX11_mapsBetween 4 (some .int))) B.pre w (List.mem_cons_of_mem _ hw)⟩
  have hl := lv_entry ([.ref (q (9 + 5 * r)), .ref (q (9 + 5 * r2))]) (n := 4) (Nat.le_of_ble_eq_true rfl)
  rw [lg_entry_eq]
  generalize (lg_sl ([.ref (q (9 + 5 * r)), .ref (q (9 + 5 * r2))]) ++ List.replicate (4 - (lg_sl ([.ref (q (9 + 5 * r)), .ref (q (9 + 5 * r2))])).length) Slot.unset).toArray = ls at hl ⊢
  have hl : lv_has ls 4 [(0, .ref (q (9 + 5 * r))), (1, .ref (q (9 + 5 * r2)))] := hl
  have hc := p0.1
  have hc2 := p1.1
  have hrl := rl_b r
  have hrl2 := rl_b r2
  refine lv_aload_n SS.1 SS.2.1 dX11_mapsBetween_0 rfl (lv_at hl 0 rfl) ?_
  refine j_getS SS hG hP (9 + 5 * r) (v := .int (J (u.1.2.2.1 r))) (C := RX7) (T := TX7) (N := 3) (cw_ring (by omega)) rfl inX7 2 (by decide) (ref := "GridPolygons$Ring") kw_135 kw_132 rfl dX11_mapsBetween_1 ?_
  refine lv_aload_n SS.1 SS.2.1 dX11_mapsBetween_4 rfl (lv_at hl 1 rfl) ?_
  refine j_getS SS hG hP (9 + 5 * r2) (v := .int (J (u.1.2.2.1 r2))) (C := RX7) (T := TX7) (N := 3) (cw_ring (by omega)) rfl inX7 2 (by decide) (ref := "GridPolygons$Ring") kw_135 kw_132 rfl dX11_mapsBetween_5 ?_
  refine j_icmp_ne SS (tgt := 22) (x := (u.1.2.2.1 r)) (y := (u.1.2.2.1 r2)) dX11_mapsBetween_8 (by decide) (by omega) (by omega) (fun c_8 => ?_) (fun c_8 => ?_)
  · skip
    refine j_iconst SS dX11_mapsBetween_22 ?_
    exact W.iret SS.1 SS.2.1 hr (fun t0 ht hW => ⟨_, rfl, ⟨0, rfl, (⟨Or.inl ⟨fun q => by first | omega | (have q2 := q.2; rw [← h_12.1, ← h_16.1] at q2; omega), rfl⟩, by omega, by omega⟩)⟩, ht⟩) (fun _ h => nomatch h) dX11_mapsBetween_23 hlk
  · skip
    refine lv_aload_n SS.1 SS.2.1 dX11_mapsBetween_11 rfl (lv_at hl 0 rfl) ?_
    refine j_vRi SS (As := []) (rest := []) (c_X7_area l D q u r (by omega) (40 : Int)  (show 0 ≤ (40 : Int) ∧ (40 : Int) ≤ 80 from (by omega)) (show RB (40 : Int) u r from (p0))) mf_X7_area kw_517 hG hP hP (ci := 7) (q0 := (9 + 5 * r)) rfl (cw_ring (by omega)) rfl rfl hl.1 ⟨⟨Nat.le_of_ble_eq_true rfl, Nat.le_of_ble_eq_true rfl⟩, Nat.le_of_ble_eq_true rfl, Nat.le_refl _, Nat.le_refl _⟩ rfl dX11_mapsBetween_12 (fun z_12 h_12 => ?_)
    have h_12 : z_12 = rA u r ∧ -10000000 ≤ z_12 ∧ z_12 ≤ 10000000 := h_12
    refine lv_aload_n SS.1 SS.2.1 dX11_mapsBetween_15 rfl (lv_at hl 1 rfl) ?_
    refine j_vRi SS (As := []) (rest := [.int (J z_12)]) (c_X7_area l D q u r2 (by omega) (40 : Int)  (show 0 ≤ (40 : Int) ∧ (40 : Int) ≤ 80 from (by omega)) (show RB (40 : Int) u r2 from (p1))) mf_X7_area kw_517 hG hP hP (ci := 7) (q0 := (9 + 5 * r2)) rfl (cw_ring (by omega)) rfl rfl hl.1 ⟨⟨Nat.le_of_ble_eq_true rfl, Nat.le_of_ble_eq_true rfl⟩, Nat.le_of_ble_eq_true rfl, Nat.le_refl _, Nat.le_refl _⟩ rfl dX11_mapsBetween_16 (fun z_16 h_16 => ?_)
    have h_16 : z_16 = rA u r2 ∧ -10000000 ≤ z_16 ∧ z_16 ≤ 10000000 := h_16
    refine j_icmp_eq SS (tgt := 24) (x := z_12) (y := z_16) dX11_mapsBetween_19 (by decide) (by omega) (by omega) (fun c_19 => ?_) (fun c_19 => ?_)
    · skip
      refine j_iconst SS dX11_mapsBetween_24 ?_
      refine lv_istore_n (lv' := [(2, .int (J 0)), (0, .ref (q (9 + 5 * r))), (1, .ref (q (9 + 5 * r2)))]) SS.1 SS.2.1 dX11_mapsBetween_25 rfl hl (by decide) rfl (fun ls hl => ?_)
      refine j_iconst SS dX11_mapsBetween_26 ?_
      refine lv_istore_n (lv' := [(3, .int (J 0)), (2, .int (J 0)), (0, .ref (q (9 + 5 * r))), (1, .ref (q (9 + 5 * r2)))]) SS.1 SS.2.1 dX11_mapsBetween_27 rfl hl (by decide) rfl (fun ls hl => ?_)
      have L_28 : ∀ (nn : Nat) (fd : Int) (i : Int) (ls : Array Slot) (hl : lv_has ls 4 [(0, .ref (q (9 + 5 * r))), (1, .ref (q (9 + 5 * r2))), (2, .int (J fd)), (3, .int (J i))]) (i28_0 : 0 ≤ i ∧ i ≤ u.1.2.2.1 r2) (i28_1 : 0 ≤ fd ∧ fd ≤ 2 * i) (i28_2 : CN2 (fun k => cWh u r ≠ 0 ∧ cAF u r r2 k 1) (fun k => cWh u r ≠ 0 ∧ cAF u r r2 k (-1)) i.toNat fd), (u.1.2.2.1 r2 - i).toNat < nn → W pr l en (headSpec (jw yX11_mapsBetween cX11_mapsBetween 4 (some .int)) (jr 3 66)).room st mi (([.ref (q (9 + 5 * r)), .ref (q (9 + 5 * r2))] : List Value).toArray) below meth co st.heap [] 0 0 (MQ below (jRi (fun z => mbC u r r2 z ∧ 0 ≤ z ∧ z ≤ 800)) (([.ref (q (9 + 5 * r)), .ref (q (9 + 5 * r2))] : List Value).toArray) st 0 0 (fun _ => False)) (F0 mi 28 ls []) := by
        intro nn
        induction nn with
        | zero => intros; omega
        | succ nn ih_28 =>
          intro fd i ls hl i28_0 i28_1 i28_2 hm
          refine lv_iload_n SS.1 SS.2.1 dX11_mapsBetween_28 rfl (lv_at hl 3 rfl) ?_
          refine lv_aload_n SS.1 SS.2.1 dX11_mapsBetween_29 rfl (lv_at hl 1 rfl) ?_
          refine j_getS SS hG hP (9 + 5 * r2) (v := .int (J (u.1.2.2.1 r2))) (C := RX7) (T := TX7) (N := 3) (cw_ring (by omega)) rfl inX7 2 (by decide) (ref := "GridPolygons$Ring") kw_135 kw_132 rfl dX11_mapsBetween_30 ?_
          refine j_icmp_ge SS (tgt := 68) (x := i) (y := (u.1.2.2.1 r2)) dX11_mapsBetween_33 (by decide) (by omega) (by omega) (fun c_33 => ?_) (fun c_33 => ?_)
          · skip
            refine lv_iload_n SS.1 SS.2.1 dX11_mapsBetween_68 rfl (lv_at hl 2 rfl) ?_
            exact W.iret SS.1 SS.2.1 hr (fun t0 ht hW => ⟨_, rfl, ⟨fd, rfl, (⟨Or.inr ⟨⟨by omega, by rw [← h_12.1, ← h_16.1]; omega⟩, by rw [show u.1.2.2.1 r2 = i by omega]; exact i28_2⟩, by omega, by omega⟩)⟩, ht⟩) (fun _ h => nomatch h) dX11_mapsBetween_69 hlk
          · skip
            refine lv_aload_n SS.1 SS.2.1 dX11_mapsBetween_36 rfl (lv_at hl 0 rfl) ?_
            refine lv_aload_n SS.1 SS.2.1 dX11_mapsBetween_37 rfl (lv_at hl 1 rfl) ?_
            refine lv_iload_n SS.1 SS.2.1 dX11_mapsBetween_38 rfl (lv_at hl 3 rfl) ?_
            refine j_iconst SS dX11_mapsBetween_39 ?_
            refine j_sRi SS (As := [.ref (q (9 + 5 * r)), .ref (q (9 + 5 * r2)), .int (J i), .int (J 1)]) (rest := []) (c_X11_mapFits3 l D q u r (by omega) r2 (by omega) i 1 (show RB 40 u r from (p0)) (show RB 40 u r2 from (p1)) (show 0 ≤ i ∧ i < (u.1.2.2.1 r2) from (by omega)) (show (1 : Int) = 1 ∨ (1 : Int) = -1 from (by omega)) (show (u.1.2.2.1 r2) = (u.1.2.2.1 r) from (by omega)) (show 3 ≤ (u.1.2.2.1 r) from (p2))) mf_X11_mapFits kw_663 hG hP rfl hl.1 ⟨⟨Nat.le_of_ble_eq_true rfl, Nat.le_of_ble_eq_true rfl⟩, Nat.le_of_ble_eq_true rfl, Nat.le_refl _, Nat.le_refl _⟩ rfl dX11_mapsBetween_40 (fun z_40 h_40 => ?_)
            have h_40 : (z_40 = 1 ∧ (cWh u r ≠ 0 ∧ cAF u r r2 i (1 : Int))) ∨ (z_40 = 0 ∧ ¬ (cWh u r ≠ 0 ∧ cAF u r r2 i (1 : Int))) := h_40
            refine j_if_eq SS (tgt := 49) (x := z_40) dX11_mapsBetween_43 (by decide) (by omega) (fun c_43 => ?_) (fun c_43 => ?_)
            · skip
              refine lv_aload_n SS.1 SS.2.1 dX11_mapsBetween_49 rfl (lv_at hl 0 rfl) ?_
              refine lv_aload_n SS.1 SS.2.1 dX11_mapsBetween_50 rfl (lv_at hl 1 rfl) ?_
              refine lv_iload_n SS.1 SS.2.1 dX11_mapsBetween_51 rfl (lv_at hl 3 rfl) ?_
              refine j_iconst SS dX11_mapsBetween_52 ?_
              refine j_sRi SS (As := [.ref (q (9 + 5 * r)), .ref (q (9 + 5 * r2)), .int (J i), .int (J (-1))]) (rest := []) (c_X11_mapFits3 l D q u r (by omega) r2 (by omega) i (-1) (show RB 40 u r from (p0)) (show RB 40 u r2 from (p1)) (show 0 ≤ i ∧ i < (u.1.2.2.1 r2) from (by omega)) (show (-1 : Int) = 1 ∨ (-1 : Int) = -1 from (by omega)) (show (u.1.2.2.1 r2) = (u.1.2.2.1 r) from (by omega)) (show 3 ≤ (u.1.2.2.1 r) from (p2))) mf_X11_mapFits kw_663 hG hP rfl hl.1 ⟨⟨Nat.le_of_ble_eq_true rfl, Nat.le_of_ble_eq_true rfl⟩, Nat.le_of_ble_eq_true rfl, Nat.le_refl _, Nat.le_refl _⟩ rfl dX11_mapsBetween_53 (fun z_53 h_53 => ?_)
              have h_53 : (z_53 = 1 ∧ (cWh u r ≠ 0 ∧ cAF u r r2 i (-1 : Int))) ∨ (z_53 = 0 ∧ ¬ (cWh u r ≠ 0 ∧ cAF u r r2 i (-1 : Int))) := h_53
              refine j_if_eq SS (tgt := 62) (x := z_53) dX11_mapsBetween_56 (by decide) (by omega) (fun c_56 => ?_) (fun c_56 => ?_)
              · skip
                refine lv_iinc (v := J (i + 1)) (lv' := [(3, .int (J (i + 1))), (0, .ref (q (9 + 5 * r))), (1, .ref (q (9 + 5 * r2))), (2, .int (J fd))]) SS.1 SS.2.1 dX11_mapsBetween_62 hl (k := 3) rfl (J_add _ _) (by decide) rfl (fun ls hl => ?_)
                refine lv_goto (tgt := 28) SS.1 SS.2.1 dX11_mapsBetween_65 (by decide) ?_
                exact ih_28 fd (i + 1) ls (lv_sub hl [1, 2, 3, 0] rfl) (by omega) (by omega) (CN2_s (F := fun j => cWh u r ≠ 0 ∧ cAF u r r2 j 1) (G := fun j => cWh u r ≠ 0 ∧ cAF u r r2 j (-1)) i28_0.1 i28_2 h_40 h_53 (by omega)) (by omega)
              · skip
                refine lv_iinc (v := J (fd + 1)) (lv' := [(2, .int (J (fd + 1))), (0, .ref (q (9 + 5 * r))), (1, .ref (q (9 + 5 * r2))), (3, .int (J i))]) SS.1 SS.2.1 dX11_mapsBetween_59 hl (k := 2) rfl (J_add _ _) (by decide) rfl (fun ls hl => ?_)
                refine lv_iinc (v := J (i + 1)) (lv' := [(3, .int (J (i + 1))), (2, .int (J (fd + 1))), (0, .ref (q (9 + 5 * r))), (1, .ref (q (9 + 5 * r2)))]) SS.1 SS.2.1 dX11_mapsBetween_62 hl (k := 3) rfl (J_add _ _) (by decide) rfl (fun ls hl => ?_)
                refine lv_goto (tgt := 28) SS.1 SS.2.1 dX11_mapsBetween_65 (by decide) ?_
                exact ih_28 (fd + 1) (i + 1) ls (lv_sub hl [2, 3, 1, 0] rfl) (by omega) (by omega) (CN2_s (F := fun j => cWh u r ≠ 0 ∧ cAF u r r2 j 1) (G := fun j => cWh u r ≠ 0 ∧ cAF u r r2 j (-1)) i28_0.1 i28_2 h_40 h_53 (by omega)) (by omega)
            · skip
              refine lv_iinc (v := J (fd + 1)) (lv' := [(2, .int (J (fd + 1))), (0, .ref (q (9 + 5 * r))), (1, .ref (q (9 + 5 * r2))), (3, .int (J i))]) SS.1 SS.2.1 dX11_mapsBetween_46 hl (k := 2) rfl (J_add _ _) (by decide) rfl (fun ls hl => ?_)
              refine lv_aload_n SS.1 SS.2.1 dX11_mapsBetween_49 rfl (lv_at hl 1 rfl) ?_
              refine lv_aload_n SS.1 SS.2.1 dX11_mapsBetween_50 rfl (lv_at hl 2 rfl) ?_
              refine lv_iload_n SS.1 SS.2.1 dX11_mapsBetween_51 rfl (lv_at hl 3 rfl) ?_
              refine j_iconst SS dX11_mapsBetween_52 ?_
              refine j_sRi SS (As := [.ref (q (9 + 5 * r)), .ref (q (9 + 5 * r2)), .int (J i), .int (J (-1))]) (rest := []) (c_X11_mapFits3 l D q u r (by omega) r2 (by omega) i (-1) (show RB 40 u r from (p0)) (show RB 40 u r2 from (p1)) (show 0 ≤ i ∧ i < (u.1.2.2.1 r2) from (by omega)) (show (-1 : Int) = 1 ∨ (-1 : Int) = -1 from (by omega)) (show (u.1.2.2.1 r2) = (u.1.2.2.1 r) from (by omega)) (show 3 ≤ (u.1.2.2.1 r) from (p2))) mf_X11_mapFits kw_663 hG hP rfl hl.1 ⟨⟨Nat.le_of_ble_eq_true rfl, Nat.le_of_ble_eq_true rfl⟩, Nat.le_of_ble_eq_true rfl, Nat.le_refl _, Nat.le_refl _⟩ rfl dX11_mapsBetween_53 (fun z_53 h_53 => ?_)
              have h_53 : (z_53 = 1 ∧ (cWh u r ≠ 0 ∧ cAF u r r2 i (-1 : Int))) ∨ (z_53 = 0 ∧ ¬ (cWh u r ≠ 0 ∧ cAF u r r2 i (-1 : Int))) := h_53
              refine j_if_eq SS (tgt := 62) (x := z_53) dX11_mapsBetween_56 (by decide) (by omega) (fun c_56 => ?_) (fun c_56 => ?_)
              · skip
                refine lv_iinc (v := J (i + 1)) (lv' := [(3, .int (J (i + 1))), (2, .int (J (fd + 1))), (0, .ref (q (9 + 5 * r))), (1, .ref (q (9 + 5 * r2)))]) SS.1 SS.2.1 dX11_mapsBetween_62 hl (k := 3) rfl (J_add _ _) (by decide) rfl (fun ls hl => ?_)
                refine lv_goto (tgt := 28) SS.1 SS.2.1 dX11_mapsBetween_65 (by decide) ?_
                exact ih_28 (fd + 1) (i + 1) ls (lv_sub hl [2, 3, 1, 0] rfl) (by omega) (by omega) (CN2_s (F := fun j => cWh u r ≠ 0 ∧ cAF u r r2 j 1) (G := fun j => cWh u r ≠ 0 ∧ cAF u r r2 j (-1)) i28_0.1 i28_2 h_40 h_53 (by omega)) (by omega)
              · skip
                refine lv_iinc (v := J (fd + 1 + 1)) (lv' := [(2, .int (J (fd + 1 + 1))), (0, .ref (q (9 + 5 * r))), (1, .ref (q (9 + 5 * r2))), (3, .int (J i))]) SS.1 SS.2.1 dX11_mapsBetween_59 hl (k := 0) rfl (J_add _ _) (by decide) rfl (fun ls hl => ?_)
                refine lv_iinc (v := J (i + 1)) (lv' := [(3, .int (J (i + 1))), (2, .int (J (fd + 1 + 1))), (0, .ref (q (9 + 5 * r))), (1, .ref (q (9 + 5 * r2)))]) SS.1 SS.2.1 dX11_mapsBetween_62 hl (k := 3) rfl (J_add _ _) (by decide) rfl (fun ls hl => ?_)
                refine lv_goto (tgt := 28) SS.1 SS.2.1 dX11_mapsBetween_65 (by decide) ?_
                exact ih_28 (fd + 1 + 1) (i + 1) ls (lv_sub hl [2, 3, 1, 0] rfl) (by omega) (by omega) (CN2_s (F := fun j => cWh u r ≠ 0 ∧ cAF u r r2 j 1) (G := fun j => cWh u r ≠ 0 ∧ cAF u r r2 j (-1)) i28_0.1 i28_2 h_40 h_53 (by omega)) (by omega)
      exact L_28 ((u.1.2.2.1 r2 - (0 : Int)).toNat + 1) 0 0 ls (lv_sub hl [2, 3, 1, 0] rfl) (by omega) (by omega) (rfl) (Nat.lt_succ_self _)
    · skip
      refine j_iconst SS dX11_mapsBetween_22 ?_
      exact W.iret SS.1 SS.2.1 hr (fun t0 ht hW => ⟨_, rfl, ⟨0, rfl, (⟨Or.inl ⟨fun q => by first | omega | (have q2 := q.2; rw [← h_12.1, ← h_16.1] at q2; omega), rfl⟩, by omega, by omega⟩)⟩, ht⟩) (fun _ h => nomatch h) dX11_mapsBetween_23 hlk

set_option maxHeartbeats 4000000 in
set_option maxRecDepth 100000 in
theorem c_X11_areAlike3 (l : Launch) (D : JD) (q : Nat → Nat) (u : CS) (r : Nat) (hr : r ≤ 8) (r2 : Nat) (hr2 : r2 ≤ 8) (p0 : RB 40 u r) (p1 : RB 40 u r2) : Met l yX11_areAlike (jw yX11_areAlike cX11_areAlike 2 (some .boolean)) (jr 4 89) (jP [.ref (q (9 + 5 * r)), .ref (q (9 + 5 * r2))] D (fun H => va_P D.1 j_cl (cW D q u) H)) (jRi (fun z => alC u r r2 z)) 0 0 (fun _ => False) := by
  refine Met.ofW (cc := cX11_areAlike) (maxL := 2) (ret := (some .boolean)) (by decide) rfl ?_
  intro pr en st mi args below meth co s₁ B hml hv
  obtain ⟨rfl, hG, hP⟩ := hv
  have hr := B.returns
  have hlk := B.notSynchronized
  have SS : jS pr mi co cX11_areAlike 2 st _ RX11 := ⟨B.exec, B.bytes, hml, findClass_of_methodNamed B.named, fun w hw => atoms_spec (ws := (jw yX11_areAlike cX11_areAlike 2 (some .boolean))) B.pre w (List.mem_cons_of_mem _ hw)⟩
  have hl := lv_entry ([.ref (q (9 + 5 * r)), .ref (q (9 + 5 * r2))]) (n := 2) (Nat.le_of_ble_eq_true rfl)
  rw [lg_entry_eq]
  generalize (lg_sl ([.ref (q (9 + 5 * r)), .ref (q (9 + 5 * r2))]) ++ List.replicate (2 - (lg_sl ([.ref (q (9 + 5 * r)), .ref (q (9 + 5 * r2))])).length) Slot.unset).toArray = ls at hl ⊢
  have hl : lv_has ls 2 [(0, .ref (q (9 + 5 * r))), (1, .ref (q (9 + 5 * r2)))] := hl
  have hc := p0.1
  have hc2 := p1.1
  have hrl := rl_b r
  have hrl2 := rl_b r2
  refine lv_aload_n SS.1 SS.2.1 dX11_areAlike_0 rfl (lv_at hl 0 rfl) ?_
  refine j_getS SS hG hP (9 + 5 * r) (v := .int (J (u.1.2.2.1 r))) (C := RX7) (T := TX7) (N := 3) (cw_ring (by omega)) rfl inX7 2 (by decide) (ref := "GridPolygons$Ring") kw_135 kw_132 rfl dX11_areAlike_1 ?_
  refine j_iconst SS dX11_areAlike_4 ?_
  refine j_icmp_lt SS (tgt := 16) (x := (u.1.2.2.1 r)) (y := 3) dX11_areAlike_5 (by decide) (by omega) (by decide) (fun c_5 => ?_) (fun c_5 => ?_)
  · skip
    refine lv_aload_n SS.1 SS.2.1 dX11_areAlike_16 rfl (lv_at hl 0 rfl) ?_
    refine j_getS SS hG hP (9 + 5 * r) (v := .int (J (u.1.2.2.1 r))) (C := RX7) (T := TX7) (N := 3) (cw_ring (by omega)) rfl inX7 2 (by decide) (ref := "GridPolygons$Ring") kw_135 kw_132 rfl dX11_areAlike_17 ?_
    refine lv_aload_n SS.1 SS.2.1 dX11_areAlike_20 rfl (lv_at hl 1 rfl) ?_
    refine j_getS SS hG hP (9 + 5 * r2) (v := .int (J (u.1.2.2.1 r2))) (C := RX7) (T := TX7) (N := 3) (cw_ring (by omega)) rfl inX7 2 (by decide) (ref := "GridPolygons$Ring") kw_135 kw_132 rfl dX11_areAlike_21 ?_
    refine j_icmp_ne SS (tgt := 42) (x := (u.1.2.2.1 r)) (y := (u.1.2.2.1 r2)) dX11_areAlike_24 (by decide) (by omega) (by omega) (fun c_24 => ?_) (fun c_24 => ?_)
    · skip
      refine j_iconst SS dX11_areAlike_42 ?_
      exact W.zret SS.1 SS.2.1 hr (j_nz (by decide)) (fun t0 ht hW => ⟨_, rfl, ⟨0, rfl, (Or.inl ⟨by omega, by first | exact Or.inl ⟨rfl, by omega, by rw [← h_28.1, ← h_32.1]; omega⟩ | exact Or.inr ⟨rfl, fun q => by omega⟩ | exact Or.inr ⟨rfl, fun q => by have q2 := q.2; rw [← h_28.1, ← h_32.1] at q2; omega⟩⟩)⟩, ht⟩) (fun _ h => nomatch h) dX11_areAlike_43 hlk
    · skip
      refine lv_aload_n SS.1 SS.2.1 dX11_areAlike_27 rfl (lv_at hl 0 rfl) ?_
      refine j_vRi SS (As := []) (rest := []) (c_X7_onEdge l D q u r (by omega) (40 : Int)  (show 0 ≤ (40 : Int) ∧ (40 : Int) ≤ 80 from (by omega)) (show RB (40 : Int) u r from (p0))) mf_X7_onEdge kw_533 hG hP hP (ci := 7) (q0 := (9 + 5 * r)) rfl (cw_ring (by omega)) rfl rfl hl.1 ⟨⟨Nat.le_of_ble_eq_true rfl, Nat.le_of_ble_eq_true rfl⟩, Nat.le_of_ble_eq_true rfl, Nat.le_refl _, Nat.le_refl _⟩ rfl dX11_areAlike_28 (fun z_28 h_28 => ?_)
      have h_28 : z_28 = rE u r ∧ 0 ≤ z_28 ∧ z_28 ≤ 60000 := h_28
      refine lv_aload_n SS.1 SS.2.1 dX11_areAlike_31 rfl (lv_at hl 1 rfl) ?_
      refine j_vRi SS (As := []) (rest := [.int (J z_28)]) (c_X7_onEdge l D q u r2 (by omega) (40 : Int)  (show 0 ≤ (40 : Int) ∧ (40 : Int) ≤ 80 from (by omega)) (show RB (40 : Int) u r2 from (p1))) mf_X7_onEdge kw_533 hG hP hP (ci := 7) (q0 := (9 + 5 * r2)) rfl (cw_ring (by omega)) rfl rfl hl.1 ⟨⟨Nat.le_of_ble_eq_true rfl, Nat.le_of_ble_eq_true rfl⟩, Nat.le_of_ble_eq_true rfl, Nat.le_refl _, Nat.le_refl _⟩ rfl dX11_areAlike_32 (fun z_32 h_32 => ?_)
      have h_32 : z_32 = rE u r2 ∧ 0 ≤ z_32 ∧ z_32 ≤ 60000 := h_32
      refine j_icmp_ne SS (tgt := 42) (x := z_28) (y := z_32) dX11_areAlike_35 (by decide) (by omega) (by omega) (fun c_35 => ?_) (fun c_35 => ?_)
      · skip
        refine j_iconst SS dX11_areAlike_42 ?_
        exact W.zret SS.1 SS.2.1 hr (j_nz (by decide)) (fun t0 ht hW => ⟨_, rfl, ⟨0, rfl, (Or.inl ⟨by omega, by first | exact Or.inl ⟨rfl, by omega, by rw [← h_28.1, ← h_32.1]; omega⟩ | exact Or.inr ⟨rfl, fun q => by omega⟩ | exact Or.inr ⟨rfl, fun q => by have q2 := q.2; rw [← h_28.1, ← h_32.1] at q2; omega⟩⟩)⟩, ht⟩) (fun _ h => nomatch h) dX11_areAlike_43 hlk
      · skip
        refine j_iconst SS dX11_areAlike_38 ?_
        refine lv_goto (tgt := 43) SS.1 SS.2.1 dX11_areAlike_39 (by decide) ?_
        exact W.zret SS.1 SS.2.1 hr (j_nz (by decide)) (fun t0 ht hW => ⟨_, rfl, ⟨1, rfl, (Or.inl ⟨by omega, by first | exact Or.inl ⟨rfl, by omega, by rw [← h_28.1, ← h_32.1]; omega⟩ | exact Or.inr ⟨rfl, fun q => by omega⟩ | exact Or.inr ⟨rfl, fun q => by have q2 := q.2; rw [← h_28.1, ← h_32.1] at q2; omega⟩⟩)⟩, ht⟩) (fun _ h => nomatch h) dX11_areAlike_43 hlk
  · skip
    refine lv_aload_n SS.1 SS.2.1 dX11_areAlike_8 rfl (lv_at hl 1 rfl) ?_
    refine j_getS SS hG hP (9 + 5 * r2) (v := .int (J (u.1.2.2.1 r2))) (C := RX7) (T := TX7) (N := 3) (cw_ring (by omega)) rfl inX7 2 (by decide) (ref := "GridPolygons$Ring") kw_135 kw_132 rfl dX11_areAlike_9 ?_
    refine j_iconst SS dX11_areAlike_12 ?_
    refine j_icmp_ge SS (tgt := 44) (x := (u.1.2.2.1 r2)) (y := 3) dX11_areAlike_13 (by decide) (by omega) (by decide) (fun c_13 => ?_) (fun c_13 => ?_)
    · skip
      refine lv_aload_n SS.1 SS.2.1 dX11_areAlike_44 rfl (lv_at hl 0 rfl) ?_
      refine lv_aload_n SS.1 SS.2.1 dX11_areAlike_45 rfl (lv_at hl 1 rfl) ?_
      refine j_sRi SS (As := [.ref (q (9 + 5 * r)), .ref (q (9 + 5 * r2))]) (rest := []) (c_X11_mapsBetween3 l D q u r (by omega) r2 (by omega)  (show RB 40 u r from (p0)) (show RB 40 u r2 from (p1)) (show 3 ≤ (u.1.2.2.1 r) from (by omega)) (show 3 ≤ (u.1.2.2.1 r2) from (by omega))) mf_X11_mapsBetween kw_660 hG hP rfl hl.1 ⟨⟨Nat.le_of_ble_eq_true rfl, Nat.le_of_ble_eq_true rfl⟩, Nat.le_of_ble_eq_true rfl, Nat.le_refl _, Nat.le_refl _⟩ rfl dX11_areAlike_46 (fun z_46 h_46 => ?_)
      have h_46 : mbC u r r2 z_46 ∧ 0 ≤ z_46 ∧ z_46 ≤ 800 := h_46
      refine j_if_le SS (tgt := 56) (x := z_46) dX11_areAlike_49 (by decide) (by omega) (fun c_49 => ?_) (fun c_49 => ?_)
      · skip
        refine j_iconst SS dX11_areAlike_56 ?_
        exact W.zret SS.1 SS.2.1 hr (j_nz (by decide)) (fun t0 ht hW => ⟨_, rfl, ⟨0, rfl, (Or.inr ⟨by omega, z_46, h_46.1, by first | exact Or.inl ⟨rfl, by omega⟩ | exact Or.inr ⟨rfl, by omega⟩⟩)⟩, ht⟩) (fun _ h => nomatch h) dX11_areAlike_57 hlk
      · skip
        refine j_iconst SS dX11_areAlike_52 ?_
        refine lv_goto (tgt := 57) SS.1 SS.2.1 dX11_areAlike_53 (by decide) ?_
        exact W.zret SS.1 SS.2.1 hr (j_nz (by decide)) (fun t0 ht hW => ⟨_, rfl, ⟨1, rfl, (Or.inr ⟨by omega, z_46, h_46.1, by first | exact Or.inl ⟨rfl, by omega⟩ | exact Or.inr ⟨rfl, by omega⟩⟩)⟩, ht⟩) (fun _ h => nomatch h) dX11_areAlike_57 hlk
    · skip
      refine lv_aload_n SS.1 SS.2.1 dX11_areAlike_16 rfl (lv_at hl 0 rfl) ?_
      refine j_getS SS hG hP (9 + 5 * r) (v := .int (J (u.1.2.2.1 r))) (C := RX7) (T := TX7) (N := 3) (cw_ring (by omega)) rfl inX7 2 (by decide) (ref := "GridPolygons$Ring") kw_135 kw_132 rfl dX11_areAlike_17 ?_
      refine lv_aload_n SS.1 SS.2.1 dX11_areAlike_20 rfl (lv_at hl 1 rfl) ?_
      refine j_getS SS hG hP (9 + 5 * r2) (v := .int (J (u.1.2.2.1 r2))) (C := RX7) (T := TX7) (N := 3) (cw_ring (by omega)) rfl inX7 2 (by decide) (ref := "GridPolygons$Ring") kw_135 kw_132 rfl dX11_areAlike_21 ?_
      refine j_icmp_ne SS (tgt := 42) (x := (u.1.2.2.1 r)) (y := (u.1.2.2.1 r2)) dX11_areAlike_24 (by decide) (by omega) (by omega) (fun c_24 => ?_) (fun c_24 => ?_)
      · skip
        refine j_iconst SS dX11_areAlike_42 ?_
        exact W.zret SS.1 SS.2.1 hr (j_nz (by decide)) (fun t0 ht hW => ⟨_, rfl, ⟨0, rfl, (Or.inl ⟨by omega, by first | exact Or.inl ⟨rfl, by omega, by rw [← h_28.1, ← h_32.1]; omega⟩ | exact Or.inr ⟨rfl, fun q => by omega⟩ | exact Or.inr ⟨rfl, fun q => by have q2 := q.2; rw [← h_28.1, ← h_32.1] at q2; omega⟩⟩)⟩, ht⟩) (fun _ h => nomatch h) dX11_areAlike_43 hlk
      · skip
        refine lv_aload_n SS.1 SS.2.1 dX11_areAlike_27 rfl (lv_at hl 0 rfl) ?_
        refine j_vRi SS (As := []) (rest := []) (c_X7_onEdge l D q u r (by omega) (40 : Int)  (show 0 ≤ (40 : Int) ∧ (40 : Int) ≤ 80 from (by omega)) (show RB (40 : Int) u r from (p0))) mf_X7_onEdge kw_533 hG hP hP (ci := 7) (q0 := (9 + 5 * r)) rfl (cw_ring (by omega)) rfl rfl hl.1 ⟨⟨Nat.le_of_ble_eq_true rfl, Nat.le_of_ble_eq_true rfl⟩, Nat.le_of_ble_eq_true rfl, Nat.le_refl _, Nat.le_refl _⟩ rfl dX11_areAlike_28 (fun z_28 h_28 => ?_)
        have h_28 : z_28 = rE u r ∧ 0 ≤ z_28 ∧ z_28 ≤ 60000 := h_28
        refine lv_aload_n SS.1 SS.2.1 dX11_areAlike_31 rfl (lv_at hl 1 rfl) ?_
        refine j_vRi SS (As := []) (rest := [.int (J z_28)]) (c_X7_onEdge l D q u r2 (by omega) (40 : Int)  (show 0 ≤ (40 : Int) ∧ (40 : Int) ≤ 80 from (by omega)) (show RB (40 : Int) u r2 from (p1))) mf_X7_onEdge kw_533 hG hP hP (ci := 7) (q0 := (9 + 5 * r2)) rfl (cw_ring (by omega)) rfl rfl hl.1 ⟨⟨Nat.le_of_ble_eq_true rfl, Nat.le_of_ble_eq_true rfl⟩, Nat.le_of_ble_eq_true rfl, Nat.le_refl _, Nat.le_refl _⟩ rfl dX11_areAlike_32 (fun z_32 h_32 => ?_)
        have h_32 : z_32 = rE u r2 ∧ 0 ≤ z_32 ∧ z_32 ≤ 60000 := h_32
        refine j_icmp_ne SS (tgt := 42) (x := z_28) (y := z_32) dX11_areAlike_35 (by decide) (by omega) (by omega) (fun c_35 => ?_) (fun c_35 => ?_)
        · skip
          refine j_iconst SS dX11_areAlike_42 ?_
          exact W.zret SS.1 SS.2.1 hr (j_nz (by decide)) (fun t0 ht hW => ⟨_, rfl, ⟨0, rfl, (Or.inl ⟨by omega, by first | exact Or.inl ⟨rfl, by omega, by rw [← h_28.1, ← h_32.1]; omega⟩ | exact Or.inr ⟨rfl, fun q => by omega⟩ | exact Or.inr ⟨rfl, fun q => by have q2 := q.2; rw [← h_28.1, ← h_32.1] at q2; omega⟩⟩)⟩, ht⟩) (fun _ h => nomatch h) dX11_areAlike_43 hlk
        · skip
          refine j_iconst SS dX11_areAlike_38 ?_
          refine lv_goto (tgt := 43) SS.1 SS.2.1 dX11_areAlike_39 (by decide) ?_
          exact W.zret SS.1 SS.2.1 hr (j_nz (by decide)) (fun t0 ht hW => ⟨_, rfl, ⟨1, rfl, (Or.inl ⟨by omega, by first | exact Or.inl ⟨rfl, by omega, by rw [← h_28.1, ← h_32.1]; omega⟩ | exact Or.inr ⟨rfl, fun q => by omega⟩ | exact Or.inr ⟨rfl, fun q => by have q2 := q.2; rw [← h_28.1, ← h_32.1] at q2; omega⟩⟩)⟩, ht⟩) (fun _ h => nomatch h) dX11_areAlike_43 hlk

set_option maxHeartbeats 4000000 in
set_option maxRecDepth 100000 in
theorem c_X11_isNewHeap3 (l : Launch) (D : JD) (q : Nat → Nat) (u : CS) (i : Int) (p0 : CI u) (p1 : 0 ≤ i ∧ i ≤ 7) : Met l yX11_isNewHeap (jw yX11_isNewHeap cX11_isNewHeap 5 (some .boolean)) (jr 5 110) (jP [.ref (q 0), .int (J i)] D (fun H => va_P D.1 j_cl (cW D q u) H)) (jRi (fun z => (z = 1 ∧ nhC u i.toNat) ∨ (z = 0 ∧ ohC u i.toNat))) 0 0 (fun _ => False) := by
  refine Met.ofW (cc := cX11_isNewHeap) (maxL := 5) (ret := (some .boolean)) (by decide) rfl ?_
  intro pr en st mi args below meth co s₁ B hml hv
  obtain ⟨rfl, hG, hP⟩ := hv
  have hr := B.returns
  have hlk := B.notSynchronized
  have SS : jS pr mi co cX11_isNewHeap 5 st _ RX11 := ⟨B.exec, B.bytes, hml, findClass_of_methodNamed B.named, fun w hw => atoms_spec (ws := (jw yX11_isNewHeap cX11_isNewHeap 5 (some .boolean))) B.pre w (List.mem_cons_of_mem _ hw)⟩
  have hl := lv_entry ([.ref (q 0), .int (J i)]) (n := 5) (Nat.le_of_ble_eq_true rfl)
  rw [lg_entry_eq]
  generalize (lg_sl ([.ref (q 0), .int (J i)]) ++ List.replicate (5 - (lg_sl ([.ref (q 0), .int (J i)])).length) Slot.unset).toArray = ls at hl ⊢
  have hl : lv_has ls 5 [(0, .ref (q 0)), (1, .int (J i))] := hl
  refine lv_aload_n SS.1 SS.2.1 dX11_isNewHeap_0 rfl (lv_at hl 0 rfl) ?_
  refine lv_iload_n SS.1 SS.2.1 dX11_isNewHeap_1 rfl (lv_at hl 1 rfl) ?_
  refine j_vSh SS (As := [.int (J i)]) (rest := []) (c_X11_shapeAt l D q u  i (show -2147483648 ≤ i ∧ i ≤ 2147483647 from (by omega))) mf_X11_shapeAt kw_414 hG hP hP (ci := 11) (q0 := 0) rfl rfl rfl rfl hl.1 ⟨⟨Nat.le_of_ble_eq_true rfl, Nat.le_of_ble_eq_true rfl⟩, Nat.le_of_ble_eq_true rfl, Nat.le_refl _, Nat.le_refl _⟩ rfl dX11_isNewHeap_2 (fun i_2 hi_2 hz_2 => ?_) (fun hn_2 => ?_)
  · skip
    refine lv_astore_n (lv' := [(2, .ref (q (8 + 5 * i_2))), (0, .ref (q 0)), (1, .int (J i))]) SS.1 SS.2.1 dX11_isNewHeap_5 rfl hl (by decide) rfl (fun ls hl => ?_)
    refine lv_aload_n SS.1 SS.2.1 dX11_isNewHeap_6 rfl (lv_at hl 0 rfl) ?_
    refine lv_ifnull SS.1 SS.2.1 dX11_isNewHeap_7 ?_
    refine lv_aload_n SS.1 SS.2.1 dX11_isNewHeap_10 rfl (lv_at hl 0 rfl) ?_
    refine j_get SS hG hP (8 + 5 * i_2) (v := .ref (q (9 + 5 * i_2))) (C := RX10) (T := TX10) (N := 3) (cw_shape (by omega)) rfl inX10 0 (by decide) (ref := "GridPolygons$Shape") kw_151 rfl rfl dX11_isNewHeap_11 ?_
    refine j_vRi SS (As := []) (rest := []) (c_X7_isPolygon l D q u i_2 (by omega) (40 : Int)  (show 0 ≤ (40 : Int) ∧ (40 : Int) ≤ 80 from (by omega)) (show RB (40 : Int) u i_2 from (CI_40 p0 (by omega)))) mf_X7_isPolygon kw_568 hG hP hP (ci := 7) (q0 := (9 + 5 * i_2)) rfl (cw_ring (by omega)) rfl rfl hl.1 ⟨⟨Nat.le_of_ble_eq_true rfl, Nat.le_of_ble_eq_true rfl⟩, Nat.le_of_ble_eq_true rfl, Nat.le_refl _, Nat.le_refl _⟩ rfl dX11_isNewHeap_14 (fun z_14 h_14 => ?_)
    have h_14 : (z_14 = 1 ∧ 3 ≤ (u.1.2.2.1 i_2)) ∨ (z_14 = 0 ∧ (u.1.2.2.1 i_2) < 3) := h_14
    refine j_if_ne SS (tgt := 22) (x := z_14) dX11_isNewHeap_17 (by decide) (by omega) (fun c_17 => ?_) (fun c_17 => ?_)
    · skip
      refine j_iconst SS dX11_isNewHeap_22 ?_
      refine lv_istore_n (lv' := [(3, .int (J 0)), (2, .ref (q (8 + 5 * i_2))), (0, .ref (q 0)), (1, .int (J i))]) SS.1 SS.2.1 dX11_isNewHeap_23 rfl hl (by decide) rfl (fun ls hl => ?_)
      have L_24 : ∀ (nn : Nat) (j : Int) (ls : Array Slot) (hl : lv_has ls 5 [(0, .ref (q 0)), (1, .int (J i)), (2, .ref (q (8 + 5 * i_2))), (3, .int (J j))]) (i24_0 : 0 ≤ j ∧ j ≤ i) (i24_1 : ∀ k : Nat, (k : Int) < j → alC u i_2 k 0), (i - j).toNat < nn → W pr l en (headSpec (jw yX11_isNewHeap cX11_isNewHeap 5 (some .boolean)) (jr 5 110)).room st mi (([.ref (q 0), .int (J i)] : List Value).toArray) below meth co st.heap [] 0 0 (MQ below (jRi (fun z => (z = 1 ∧ nhC u i.toNat) ∨ (z = 0 ∧ ohC u i.toNat))) (([.ref (q 0), .int (J i)] : List Value).toArray) st 0 0 (fun _ => False)) (F0 mi 24 ls []) := by
        intro nn
        induction nn with
        | zero => intros; omega
        | succ nn ih_24 =>
          intro j ls hl i24_0 i24_1 hm
          refine lv_iload_n SS.1 SS.2.1 dX11_isNewHeap_24 rfl (lv_at hl 3 rfl) ?_
          refine lv_iload_n SS.1 SS.2.1 dX11_isNewHeap_25 rfl (lv_at hl 1 rfl) ?_
          refine j_icmp_ge SS (tgt := 64) (x := j) (y := i) dX11_isNewHeap_26 (by decide) (by omega) (by omega) (fun c_26 => ?_) (fun c_26 => ?_)
          · skip
            refine j_iconst SS dX11_isNewHeap_64 ?_
            exact W.zret SS.1 SS.2.1 hr (j_nz (by decide)) (fun t0 ht hW => ⟨_, rfl, ⟨1, rfl, (Or.inl ⟨rfl, by rw [show i.toNat = i_2 by omega]; exact ⟨by omega, fun k hk => i24_1 k (by omega)⟩⟩)⟩, ht⟩) (fun _ h => nomatch h) dX11_isNewHeap_65 hlk
          · skip
            refine lv_aload_n SS.1 SS.2.1 dX11_isNewHeap_29 rfl (lv_at hl 0 rfl) ?_
            refine lv_iload_n SS.1 SS.2.1 dX11_isNewHeap_30 rfl (lv_at hl 3 rfl) ?_
            refine j_vSh SS (As := [.int (J j)]) (rest := []) (c_X11_shapeAt l D q u  j (show -2147483648 ≤ j ∧ j ≤ 2147483647 from (by omega))) mf_X11_shapeAt kw_414 hG hP hP (ci := 11) (q0 := 0) rfl rfl rfl rfl hl.1 ⟨⟨Nat.le_of_ble_eq_true rfl, Nat.le_of_ble_eq_true rfl⟩, Nat.le_of_ble_eq_true rfl, Nat.le_refl _, Nat.le_refl _⟩ rfl dX11_isNewHeap_31 (fun i_31 hi_31 hz_31 => ?_) (fun hn_31 => ?_)
            · skip
              refine lv_astore (lv' := [(4, .ref (q (8 + 5 * i_31))), (0, .ref (q 0)), (1, .int (J i)), (2, .ref (q (8 + 5 * i_2))), (3, .int (J j))]) SS.1 SS.2.1 dX11_isNewHeap_34 hl (by decide) rfl (fun ls hl => ?_)
              refine lv_aload SS.1 SS.2.1 dX11_isNewHeap_36 (lv_at hl 0 rfl) ?_
              refine lv_ifnull SS.1 SS.2.1 dX11_isNewHeap_38 ?_
              refine lv_aload_n SS.1 SS.2.1 dX11_isNewHeap_41 rfl (lv_at hl 3 rfl) ?_
              refine j_get SS hG hP (8 + 5 * i_2) (v := .ref (q (9 + 5 * i_2))) (C := RX10) (T := TX10) (N := 3) (cw_shape (by omega)) rfl inX10 0 (by decide) (ref := "GridPolygons$Shape") kw_151 rfl rfl dX11_isNewHeap_42 ?_
              refine lv_aload SS.1 SS.2.1 dX11_isNewHeap_45 (lv_at hl 0 rfl) ?_
              refine j_get SS hG hP (8 + 5 * i_31) (v := .ref (q (9 + 5 * i_31))) (C := RX10) (T := TX10) (N := 3) (cw_shape (by omega)) rfl inX10 0 (by decide) (ref := "GridPolygons$Shape") kw_151 rfl rfl dX11_isNewHeap_47 ?_
              refine j_sRi SS (As := [.ref (q (9 + 5 * i_2)), .ref (q (9 + 5 * i_31))]) (rest := []) (c_X11_areAlike3 l D q u i_2 (by omega) i_31 (by omega)  (show RB 40 u i_2 from (CI_40 p0 (by omega))) (show RB 40 u i_31 from (CI_40 p0 (by omega)))) mf_X11_areAlike kw_671 hG hP rfl hl.1 ⟨⟨Nat.le_of_ble_eq_true rfl, Nat.le_of_ble_eq_true rfl⟩, Nat.le_of_ble_eq_true rfl, Nat.le_refl _, Nat.le_refl _⟩ rfl dX11_isNewHeap_50 (fun z_50 h_50 => ?_)
              have h_50 : alC u i_2 i_31 z_50 := h_50
              have ab := alC_b h_50
              refine j_if_eq SS (tgt := 58) (x := z_50) dX11_isNewHeap_53 (by decide) (by omega) (fun c_53 => ?_) (fun c_53 => ?_)
              · skip
                refine lv_iinc (v := J (j + 1)) (lv' := [(3, .int (J (j + 1))), (4, .ref (q (8 + 5 * i_31))), (0, .ref (q 0)), (1, .int (J i)), (2, .ref (q (8 + 5 * i_2)))]) SS.1 SS.2.1 dX11_isNewHeap_58 hl (k := 4) rfl (J_add _ _) (by decide) rfl (fun ls hl => ?_)
                refine lv_goto (tgt := 24) SS.1 SS.2.1 dX11_isNewHeap_61 (by decide) ?_
                exact ih_24 (j + 1) ls (lv_sub hl [2, 3, 4, 0] rfl) (by omega) (fun k hk => by first | (exfalso; omega) | (by_cases e : (k : Int) = j; (have w := h_50; rw [show z_50 = 0 by omega, show i_31 = k by omega] at w; exact w); exact i24_1 k (by omega))) (by omega)
              · skip
                refine j_iconst SS dX11_isNewHeap_56 ?_
                exact W.zret SS.1 SS.2.1 hr (j_nz (by decide)) (fun t0 ht hW => ⟨_, rfl, ⟨0, rfl, (Or.inr ⟨rfl, by rw [show i.toNat = i_2 by omega]; exact Or.inr ⟨i_31, by omega, by have w := h_50; rw [show z_50 = 1 by omega] at w; exact w⟩⟩)⟩, ht⟩) (fun _ h => nomatch h) dX11_isNewHeap_57 hlk
            · skip
              refine lv_astoreN (lv' := [(4, .null), (0, .ref (q 0)), (1, .int (J i)), (2, .ref (q (8 + 5 * i_2))), (3, .int (J j))]) SS.1 SS.2.1 dX11_isNewHeap_34 hl (by decide) rfl (fun ls hl => ?_)
              refine lv_aloadN SS.1 SS.2.1 dX11_isNewHeap_36 (lv_at hl 0 rfl) ?_
              refine lv_ifnullN SS.1 SS.2.1 (tgt := 58) dX11_isNewHeap_38 (by decide) ?_
              refine lv_iinc (v := J (j + 1)) (lv' := [(3, .int (J (j + 1))), (4, .null), (0, .ref (q 0)), (1, .int (J i)), (2, .ref (q (8 + 5 * i_2)))]) SS.1 SS.2.1 dX11_isNewHeap_58 hl (k := 4) rfl (J_add _ _) (by decide) rfl (fun ls hl => ?_)
              refine lv_goto (tgt := 24) SS.1 SS.2.1 dX11_isNewHeap_61 (by decide) ?_
              exact ih_24 (j + 1) ls (lv_sub hl [2, 3, 4, 0] rfl) (by omega) (fun k hk => by first | (exfalso; omega) | (by_cases e : (k : Int) = j; (have w := h_50; rw [show z_50 = 0 by omega, show i_31 = k by omega] at w; exact w); exact i24_1 k (by omega))) (by omega)
      exact L_24 ((i - (0 : Int)).toNat + 1) 0 ls (lv_sub hl [2, 3, 1, 0] rfl) (by omega) (fun k hk => by omega) (Nat.lt_succ_self _)
    · skip
      refine j_iconst SS dX11_isNewHeap_20 ?_
      exact W.zret SS.1 SS.2.1 hr (j_nz (by decide)) (fun t0 ht hW => ⟨_, rfl, ⟨0, rfl, (by first | (exfalso; omega) | exact Or.inr ⟨rfl, by rw [show i.toNat = i_2 by omega]; exact Or.inl (by omega)⟩)⟩, ht⟩) (fun _ h => nomatch h) dX11_isNewHeap_21 hlk
  · skip
    refine lv_astore_nN (lv' := [(2, .null), (0, .ref (q 0)), (1, .int (J i))]) SS.1 SS.2.1 dX11_isNewHeap_5 rfl hl (by decide) rfl (fun ls hl => ?_)
    refine lv_aload_nN SS.1 SS.2.1 dX11_isNewHeap_6 rfl (lv_at hl 0 rfl) ?_
    refine lv_ifnullN SS.1 SS.2.1 (tgt := 20) dX11_isNewHeap_7 (by decide) ?_
    refine j_iconst SS dX11_isNewHeap_20 ?_
    exact W.zret SS.1 SS.2.1 hr (j_nz (by decide)) (fun t0 ht hW => ⟨_, rfl, ⟨0, rfl, (by first | (exfalso; omega) | exact Or.inr ⟨rfl, by rw [show i.toNat = i_2 by omega]; exact Or.inl (by omega)⟩)⟩, ht⟩) (fun _ h => nomatch h) dX11_isNewHeap_21 hlk

set_option maxHeartbeats 4000000 in
set_option maxRecDepth 100000 in
theorem c_X11_heapsN (l : Launch) (D : JD) (q : Nat → Nat) (u : CS) (p0 : CI u) : Met l yX11_heaps (jw yX11_heaps cX11_heaps 3 (some .int)) (jr 6 134) (jP [.ref (q 0)] D (fun H => va_P D.1 j_cl (cW D q u) H)) (jRi (fun z => heC u z ∧ 0 ≤ z ∧ z ≤ 8)) 0 0 (fun _ => False) := by
  refine Met.ofW (cc := cX11_heaps) (maxL := 3) (ret := (some .int)) (by decide) rfl ?_
  intro pr en st mi args below meth co s₁ B hml hv
  obtain ⟨rfl, hG, hP⟩ := hv
  have hr := B.returns
  have hlk := B.notSynchronized
  have SS : jS pr mi co cX11_heaps 3 st _ RX11 := ⟨B.exec, B.bytes, hml, findClass_of_methodNamed B.named, fun w hw => atoms_spec (ws := (jw yX11_heaps cX11_heaps 3 (some .int))) B.pre w (List.mem_cons_of_mem _ hw)⟩
  have hl := lv_entry ([.ref (q 0)]) (n := 3) (Nat.le_of_ble_eq_true rfl)
  rw [lg_entry_eq]
  generalize (lg_sl ([.ref (q 0)]) ++ List.replicate (3 - (lg_sl ([.ref (q 0)])).length) Slot.unset).toArray = ls at hl ⊢
  have hl : lv_has ls 3 [(0, .ref (q 0))] := hl
  refine j_iconst SS dX11_heaps_0 ?_
  refine lv_istore_n (lv' := [(1, .int (J 0)), (0, .ref (q 0))]) SS.1 SS.2.1 dX11_heaps_1 rfl hl (by decide) rfl (fun ls hl => ?_)
  refine j_iconst SS dX11_heaps_2 ?_
  refine lv_istore_n (lv' := [(2, .int (J 0)), (1, .int (J 0)), (0, .ref (q 0))]) SS.1 SS.2.1 dX11_heaps_3 rfl hl (by decide) rfl (fun ls hl => ?_)
  have L_4 : ∀ (nn : Nat) (fd : Int) (i : Int) (ls : Array Slot) (hl : lv_has ls 3 [(0, .ref (q 0)), (1, .int (J fd)), (2, .int (J i))]) (i4_0 : 0 ≤ i ∧ i ≤ 8) (i4_1 : 0 ≤ fd ∧ fd ≤ i) (i4_2 : CN1 (nhC u) (ohC u) i.toNat fd), ((8 : Int) - i).toNat < nn → W pr l en (headSpec (jw yX11_heaps cX11_heaps 3 (some .int)) (jr 6 134)).room st mi (([.ref (q 0)] : List Value).toArray) below meth co st.heap [] 0 0 (MQ below (jRi (fun z => heC u z ∧ 0 ≤ z ∧ z ≤ 8)) (([.ref (q 0)] : List Value).toArray) st 0 0 (fun _ => False)) (F0 mi 4 ls []) := by
    intro nn
    induction nn with
    | zero => intros; omega
    | succ nn ih_4 =>
      intro fd i ls hl i4_0 i4_1 i4_2 hm
      refine lv_iload_n SS.1 SS.2.1 dX11_heaps_4 rfl (lv_at hl 2 rfl) ?_
      refine j_bipush SS dX11_heaps_5 (by decide +kernel) ?_
      refine j_icmp_ge SS (tgt := 27) (x := i) (y := 8) dX11_heaps_7 (by decide) (by omega) (by decide) (fun c_7 => ?_) (fun c_7 => ?_)
      · skip
        refine lv_iload_n SS.1 SS.2.1 dX11_heaps_27 rfl (lv_at hl 1 rfl) ?_
        exact W.iret SS.1 SS.2.1 hr (fun t0 ht hW => ⟨_, rfl, ⟨fd, rfl, (⟨by have w := i4_2; rw [show i = 8 by omega] at w; exact w, by omega, by omega⟩)⟩, ht⟩) (fun _ h => nomatch h) dX11_heaps_28 hlk
      · skip
        refine lv_aload_n SS.1 SS.2.1 dX11_heaps_10 rfl (lv_at hl 0 rfl) ?_
        refine lv_iload_n SS.1 SS.2.1 dX11_heaps_11 rfl (lv_at hl 2 rfl) ?_
        refine j_vRi SS (As := [.int (J i)]) (rest := []) (c_X11_isNewHeap3 l D q u  i (show CI u from (p0)) (show 0 ≤ i ∧ i ≤ 7 from (by omega))) mf_X11_isNewHeap kw_678 hG hP hP (ci := 11) (q0 := 0) rfl rfl rfl rfl hl.1 ⟨⟨Nat.le_of_ble_eq_true rfl, Nat.le_of_ble_eq_true rfl⟩, Nat.le_of_ble_eq_true rfl, Nat.le_refl _, Nat.le_refl _⟩ rfl dX11_heaps_12 (fun z_12 h_12 => ?_)
        have h_12 : (z_12 = 1 ∧ nhC u i.toNat) ∨ (z_12 = 0 ∧ ohC u i.toNat) := h_12
        refine j_if_eq SS (tgt := 21) (x := z_12) dX11_heaps_15 (by decide) (by omega) (fun c_15 => ?_) (fun c_15 => ?_)
        · skip
          refine lv_iinc (v := J (i + 1)) (lv' := [(2, .int (J (i + 1))), (0, .ref (q 0)), (1, .int (J fd))]) SS.1 SS.2.1 dX11_heaps_21 hl (k := 2) rfl (J_add _ _) (by decide) rfl (fun ls hl => ?_)
          refine lv_goto (tgt := 4) SS.1 SS.2.1 dX11_heaps_24 (by decide) ?_
          exact ih_4 fd (i + 1) ls (lv_sub hl [1, 2, 0] rfl) (by omega) (by omega) (CN1_s i4_0.1 i4_2 h_12 (by omega)) (by omega)
        · skip
          refine lv_iinc (v := J (fd + 1)) (lv' := [(1, .int (J (fd + 1))), (0, .ref (q 0)), (2, .int (J i))]) SS.1 SS.2.1 dX11_heaps_18 hl (k := 1) rfl (J_add _ _) (by decide) rfl (fun ls hl => ?_)
          refine lv_iinc (v := J (i + 1)) (lv' := [(2, .int (J (i + 1))), (1, .int (J (fd + 1))), (0, .ref (q 0))]) SS.1 SS.2.1 dX11_heaps_21 hl (k := 2) rfl (J_add _ _) (by decide) rfl (fun ls hl => ?_)
          refine lv_goto (tgt := 4) SS.1 SS.2.1 dX11_heaps_24 (by decide) ?_
          exact ih_4 (fd + 1) (i + 1) ls (lv_sub hl [2, 1, 0] rfl) (by omega) (by omega) (CN1_s i4_0.1 i4_2 h_12 (by omega)) (by omega)
  exact L_4 (((8 : Int) - (0 : Int)).toNat + 1) 0 0 ls (lv_sub hl [2, 1, 0] rfl) (by omega) (by omega) (rfl) (Nat.lt_succ_self _)

set_option maxHeartbeats 4000000 in
set_option maxRecDepth 100000 in
theorem c_X11_mapsN (l : Launch) (D : JD) (q : Nat → Nat) (u : CS) (s : Int) (s2 : Int) (p0 : CI u) (p1 : -2147483648 ≤ s ∧ s ≤ 2147483647) (p2 : -2147483648 ≤ s2 ∧ s2 ≤ 2147483647) : Met l yX11_maps (jw yX11_maps cX11_maps 5 (some .int)) (jr 4 89) (jP [.ref (q 0), .int (J s), .int (J s2)] D (fun H => va_P D.1 j_cl (cW D q u) H)) (jRi (fun z => maC u s s2 z ∧ wRg z)) 0 0 (fun _ => False) := by
  refine Met.ofW (cc := cX11_maps) (maxL := 5) (ret := (some .int)) (by decide) rfl ?_
  intro pr en st mi args below meth co s₁ B hml hv
  obtain ⟨rfl, hG, hP⟩ := hv
  have hr := B.returns
  have hlk := B.notSynchronized
  have SS : jS pr mi co cX11_maps 5 st _ RX11 := ⟨B.exec, B.bytes, hml, findClass_of_methodNamed B.named, fun w hw => atoms_spec (ws := (jw yX11_maps cX11_maps 5 (some .int))) B.pre w (List.mem_cons_of_mem _ hw)⟩
  have hl := lv_entry ([.ref (q 0), .int (J s), .int (J s2)]) (n := 5) (Nat.le_of_ble_eq_true rfl)
  rw [lg_entry_eq]
  generalize (lg_sl ([.ref (q 0), .int (J s), .int (J s2)]) ++ List.replicate (5 - (lg_sl ([.ref (q 0), .int (J s), .int (J s2)])).length) Slot.unset).toArray = ls at hl ⊢
  have hl : lv_has ls 5 [(0, .ref (q 0)), (1, .int (J s)), (2, .int (J s2))] := hl
  refine lv_aload_n SS.1 SS.2.1 dX11_maps_0 rfl (lv_at hl 0 rfl) ?_
  refine lv_iload_n SS.1 SS.2.1 dX11_maps_1 rfl (lv_at hl 1 rfl) ?_
  refine j_vSh SS (As := [.int (J s)]) (rest := []) (c_X11_shapeAt l D q u  s (show -2147483648 ≤ s ∧ s ≤ 2147483647 from (p1))) mf_X11_shapeAt kw_414 hG hP hP (ci := 11) (q0 := 0) rfl rfl rfl rfl hl.1 ⟨⟨Nat.le_of_ble_eq_true rfl, Nat.le_of_ble_eq_true rfl⟩, Nat.le_of_ble_eq_true rfl, Nat.le_refl _, Nat.le_refl _⟩ rfl dX11_maps_2 (fun i_2 hi_2 hz_2 => ?_) (fun hn_2 => ?_)
  · skip
    have hI2 := CI_s p0 (show i_2 < 8 by omega)
    have hI2c := hI2.1
    have hrl2 := rl_s (show i_2 < 8 by omega)
    refine lv_astore_n (lv' := [(3, .ref (q (8 + 5 * i_2))), (0, .ref (q 0)), (1, .int (J s)), (2, .int (J s2))]) SS.1 SS.2.1 dX11_maps_5 rfl hl (by decide) rfl (fun ls hl => ?_)
    refine lv_aload_n SS.1 SS.2.1 dX11_maps_6 rfl (lv_at hl 1 rfl) ?_
    refine lv_iload_n SS.1 SS.2.1 dX11_maps_7 rfl (lv_at hl 3 rfl) ?_
    refine j_vSh SS (As := [.int (J s2)]) (rest := []) (c_X11_shapeAt l D q u  s2 (show -2147483648 ≤ s2 ∧ s2 ≤ 2147483647 from (p2))) mf_X11_shapeAt kw_414 hG hP hP (ci := 11) (q0 := 0) rfl rfl rfl rfl hl.1 ⟨⟨Nat.le_of_ble_eq_true rfl, Nat.le_of_ble_eq_true rfl⟩, Nat.le_of_ble_eq_true rfl, Nat.le_refl _, Nat.le_refl _⟩ rfl dX11_maps_8 (fun i_8 hi_8 hz_8 => ?_) (fun hn_8 => ?_)
    · skip
      refine lv_astore (lv' := [(4, .ref (q (8 + 5 * i_8))), (3, .ref (q (8 + 5 * i_2))), (0, .ref (q 0)), (1, .int (J s)), (2, .int (J s2))]) SS.1 SS.2.1 dX11_maps_11 hl (by decide) rfl (fun ls hl => ?_)
      refine lv_aload_n SS.1 SS.2.1 dX11_maps_13 rfl (lv_at hl 1 rfl) ?_
      refine lv_ifnull SS.1 SS.2.1 dX11_maps_14 ?_
      refine lv_aload SS.1 SS.2.1 dX11_maps_17 (lv_at hl 0 rfl) ?_
      refine lv_ifnonnull SS.1 SS.2.1 (tgt := 24) dX11_maps_19 (by decide) ?_
      refine lv_aload_n SS.1 SS.2.1 dX11_maps_24 rfl (lv_at hl 1 rfl) ?_
      refine j_get SS hG hP (8 + 5 * i_2) (v := .ref (q (9 + 5 * i_2))) (C := RX10) (T := TX10) (N := 3) (cw_shape (by omega)) rfl inX10 0 (by decide) (ref := "GridPolygons$Shape") kw_151 rfl rfl dX11_maps_25 ?_
      refine j_vRi SS (As := []) (rest := []) (c_X7_isPolygon l D q u i_2 (by omega) (40 : Int)  (show 0 ≤ (40 : Int) ∧ (40 : Int) ≤ 80 from (by omega)) (show RB (40 : Int) u i_2 from (CI_40 p0 (by omega)))) mf_X7_isPolygon kw_568 hG hP hP (ci := 7) (q0 := (9 + 5 * i_2)) rfl (cw_ring (by omega)) rfl rfl hl.1 ⟨⟨Nat.le_of_ble_eq_true rfl, Nat.le_of_ble_eq_true rfl⟩, Nat.le_of_ble_eq_true rfl, Nat.le_refl _, Nat.le_refl _⟩ rfl dX11_maps_28 (fun z_28 h_28 => ?_)
      have h_28 : (z_28 = 1 ∧ 3 ≤ (u.1.2.2.1 i_2)) ∨ (z_28 = 0 ∧ (u.1.2.2.1 i_2) < 3) := h_28
      refine j_if_eq SS (tgt := 45) (x := z_28) dX11_maps_31 (by decide) (by omega) (fun c_31 => ?_) (fun c_31 => ?_)
      · skip
        refine j_bipush SS dX11_maps_45 (by decide +kernel) ?_
        exact W.iret SS.1 SS.2.1 hr (fun t0 ht hW => ⟨_, rfl, ⟨(-2), rfl, (by first | exact ⟨Or.inl ⟨by omega, rfl⟩, by unfold wRg; omega⟩ | exact ⟨Or.inr ⟨by omega, by rw [show s.toNat = i_2 by omega, show s2.toNat = i_8 by omega]; first | exact Or.inl ⟨by omega, rfl⟩ | exact Or.inr ⟨by omega, h_57.1⟩⟩, by unfold wRg; omega⟩)⟩, ht⟩) (fun _ h => nomatch h) dX11_maps_47 hlk
      · skip
        refine lv_aload SS.1 SS.2.1 dX11_maps_34 (lv_at hl 0 rfl) ?_
        refine j_get SS hG hP (8 + 5 * i_8) (v := .ref (q (9 + 5 * i_8))) (C := RX10) (T := TX10) (N := 3) (cw_shape (by omega)) rfl inX10 0 (by decide) (ref := "GridPolygons$Shape") kw_151 rfl rfl dX11_maps_36 ?_
        refine j_vRi SS (As := []) (rest := []) (c_X7_isPolygon l D q u i_8 (by omega) (40 : Int)  (show 0 ≤ (40 : Int) ∧ (40 : Int) ≤ 80 from (by omega)) (show RB (40 : Int) u i_8 from (CI_40 p0 (by omega)))) mf_X7_isPolygon kw_568 hG hP hP (ci := 7) (q0 := (9 + 5 * i_8)) rfl (cw_ring (by omega)) rfl rfl hl.1 ⟨⟨Nat.le_of_ble_eq_true rfl, Nat.le_of_ble_eq_true rfl⟩, Nat.le_of_ble_eq_true rfl, Nat.le_refl _, Nat.le_refl _⟩ rfl dX11_maps_39 (fun z_39 h_39 => ?_)
        have h_39 : (z_39 = 1 ∧ 3 ≤ (u.1.2.2.1 i_8)) ∨ (z_39 = 0 ∧ (u.1.2.2.1 i_8) < 3) := h_39
        refine j_if_ne SS (tgt := 48) (x := z_39) dX11_maps_42 (by decide) (by omega) (fun c_42 => ?_) (fun c_42 => ?_)
        · skip
          refine lv_aload_n SS.1 SS.2.1 dX11_maps_48 rfl (lv_at hl 1 rfl) ?_
          refine j_get SS hG hP (8 + 5 * i_2) (v := .ref (q (9 + 5 * i_2))) (C := RX10) (T := TX10) (N := 3) (cw_shape (by omega)) rfl inX10 0 (by decide) (ref := "GridPolygons$Shape") kw_151 rfl rfl dX11_maps_49 ?_
          refine lv_aload SS.1 SS.2.1 dX11_maps_52 (lv_at hl 0 rfl) ?_
          refine j_get SS hG hP (8 + 5 * i_8) (v := .ref (q (9 + 5 * i_8))) (C := RX10) (T := TX10) (N := 3) (cw_shape (by omega)) rfl inX10 0 (by decide) (ref := "GridPolygons$Shape") kw_151 rfl rfl dX11_maps_54 ?_
          refine j_sRi SS (As := [.ref (q (9 + 5 * i_2)), .ref (q (9 + 5 * i_8))]) (rest := []) (c_X11_mapsBetween3 l D q u i_2 (by omega) i_8 (by omega)  (show RB 40 u i_2 from (CI_40 p0 (by omega))) (show RB 40 u i_8 from (CI_40 p0 (by omega))) (show 3 ≤ (u.1.2.2.1 i_2) from (by omega)) (show 3 ≤ (u.1.2.2.1 i_8) from (by omega))) mf_X11_mapsBetween kw_660 hG hP rfl hl.1 ⟨⟨Nat.le_of_ble_eq_true rfl, Nat.le_of_ble_eq_true rfl⟩, Nat.le_of_ble_eq_true rfl, Nat.le_refl _, Nat.le_refl _⟩ rfl dX11_maps_57 (fun z_57 h_57 => ?_)
          have h_57 : mbC u i_2 i_8 z_57 ∧ 0 ≤ z_57 ∧ z_57 ≤ 800 := h_57
          exact W.iret SS.1 SS.2.1 hr (fun t0 ht hW => ⟨_, rfl, ⟨z_57, rfl, (by first | exact ⟨Or.inl ⟨by omega, rfl⟩, by unfold wRg; omega⟩ | exact ⟨Or.inr ⟨by omega, by rw [show s.toNat = i_2 by omega, show s2.toNat = i_8 by omega]; first | exact Or.inl ⟨by omega, rfl⟩ | exact Or.inr ⟨by omega, h_57.1⟩⟩, by unfold wRg; omega⟩)⟩, ht⟩) (fun _ h => nomatch h) dX11_maps_60 hlk
        · skip
          refine j_bipush SS dX11_maps_45 (by decide +kernel) ?_
          exact W.iret SS.1 SS.2.1 hr (fun t0 ht hW => ⟨_, rfl, ⟨(-2), rfl, (by first | exact ⟨Or.inl ⟨by omega, rfl⟩, by unfold wRg; omega⟩ | exact ⟨Or.inr ⟨by omega, by rw [show s.toNat = i_2 by omega, show s2.toNat = i_8 by omega]; first | exact Or.inl ⟨by omega, rfl⟩ | exact Or.inr ⟨by omega, h_57.1⟩⟩, by unfold wRg; omega⟩)⟩, ht⟩) (fun _ h => nomatch h) dX11_maps_47 hlk
    · skip
      refine lv_astoreN (lv' := [(4, .null), (3, .ref (q (8 + 5 * i_2))), (0, .ref (q 0)), (1, .int (J s)), (2, .int (J s2))]) SS.1 SS.2.1 dX11_maps_11 hl (by decide) rfl (fun ls hl => ?_)
      refine lv_aload_n SS.1 SS.2.1 dX11_maps_13 rfl (lv_at hl 1 rfl) ?_
      refine lv_ifnull SS.1 SS.2.1 dX11_maps_14 ?_
      refine lv_aloadN SS.1 SS.2.1 dX11_maps_17 (lv_at hl 0 rfl) ?_
      refine lv_ifnonnullN SS.1 SS.2.1 dX11_maps_19 ?_
      refine j_iconst SS dX11_maps_22 ?_
      exact W.iret SS.1 SS.2.1 hr (fun t0 ht hW => ⟨_, rfl, ⟨(-1), rfl, (by first | exact ⟨Or.inl ⟨by omega, rfl⟩, by unfold wRg; omega⟩ | exact ⟨Or.inr ⟨by omega, by rw [show s.toNat = i_2 by omega, show s2.toNat = i_8 by omega]; first | exact Or.inl ⟨by omega, rfl⟩ | exact Or.inr ⟨by omega, h_57.1⟩⟩, by unfold wRg; omega⟩)⟩, ht⟩) (fun _ h => nomatch h) dX11_maps_23 hlk
  · skip
    refine lv_astore_nN (lv' := [(3, .null), (0, .ref (q 0)), (1, .int (J s)), (2, .int (J s2))]) SS.1 SS.2.1 dX11_maps_5 rfl hl (by decide) rfl (fun ls hl => ?_)
    refine lv_aload_n SS.1 SS.2.1 dX11_maps_6 rfl (lv_at hl 1 rfl) ?_
    refine lv_iload_n SS.1 SS.2.1 dX11_maps_7 rfl (lv_at hl 3 rfl) ?_
    refine j_vSh SS (As := [.int (J s2)]) (rest := []) (c_X11_shapeAt l D q u  s2 (show -2147483648 ≤ s2 ∧ s2 ≤ 2147483647 from (p2))) mf_X11_shapeAt kw_414 hG hP hP (ci := 11) (q0 := 0) rfl rfl rfl rfl hl.1 ⟨⟨Nat.le_of_ble_eq_true rfl, Nat.le_of_ble_eq_true rfl⟩, Nat.le_of_ble_eq_true rfl, Nat.le_refl _, Nat.le_refl _⟩ rfl dX11_maps_8 (fun i_8 hi_8 hz_8 => ?_) (fun hn_8 => ?_)
    · skip
      refine lv_astore (lv' := [(4, .ref (q (8 + 5 * i_8))), (3, .null), (0, .ref (q 0)), (1, .int (J s)), (2, .int (J s2))]) SS.1 SS.2.1 dX11_maps_11 hl (by decide) rfl (fun ls hl => ?_)
      refine lv_aload_nN SS.1 SS.2.1 dX11_maps_13 rfl (lv_at hl 1 rfl) ?_
      refine lv_ifnullN SS.1 SS.2.1 (tgt := 22) dX11_maps_14 (by decide) ?_
      refine j_iconst SS dX11_maps_22 ?_
      exact W.iret SS.1 SS.2.1 hr (fun t0 ht hW => ⟨_, rfl, ⟨(-1), rfl, (by first | exact ⟨Or.inl ⟨by omega, rfl⟩, by unfold wRg; omega⟩ | exact ⟨Or.inr ⟨by omega, by rw [show s.toNat = i_2 by omega, show s2.toNat = i_8 by omega]; first | exact Or.inl ⟨by omega, rfl⟩ | exact Or.inr ⟨by omega, h_57.1⟩⟩, by unfold wRg; omega⟩)⟩, ht⟩) (fun _ h => nomatch h) dX11_maps_23 hlk
    · skip
      refine lv_astoreN (lv' := [(4, .null), (3, .null), (0, .ref (q 0)), (1, .int (J s)), (2, .int (J s2))]) SS.1 SS.2.1 dX11_maps_11 hl (by decide) rfl (fun ls hl => ?_)
      refine lv_aload_nN SS.1 SS.2.1 dX11_maps_13 rfl (lv_at hl 1 rfl) ?_
      refine lv_ifnullN SS.1 SS.2.1 (tgt := 22) dX11_maps_14 (by decide) ?_
      refine j_iconst SS dX11_maps_22 ?_
      exact W.iret SS.1 SS.2.1 hr (fun t0 ht hW => ⟨_, rfl, ⟨(-1), rfl, (by first | exact ⟨Or.inl ⟨by omega, rfl⟩, by unfold wRg; omega⟩ | exact ⟨Or.inr ⟨by omega, by rw [show s.toNat = i_2 by omega, show s2.toNat = i_8 by omega]; first | exact Or.inl ⟨by omega, rfl⟩ | exact Or.inr ⟨by omega, h_57.1⟩⟩, by unfold wRg; omega⟩)⟩, ht⟩) (fun _ h => nomatch h) dX11_maps_23 hlk

set_option maxHeartbeats 4000000 in
set_option maxRecDepth 100000 in
theorem c_X11_alikeN (l : Launch) (D : JD) (q : Nat → Nat) (u : CS) (s : Int) (s2 : Int) (p0 : CI u) (p1 : -2147483648 ≤ s ∧ s ≤ 2147483647) (p2 : -2147483648 ≤ s2 ∧ s2 ≤ 2147483647) : Met l yX11_alike (jw yX11_alike cX11_alike 5 (some .int)) (jr 5 110) (jP [.ref (q 0), .int (J s), .int (J s2)] D (fun H => va_P D.1 j_cl (cW D q u) H)) (jRi (fun z => akC u s s2 z)) 0 0 (fun _ => False) := by
  refine Met.ofW (cc := cX11_alike) (maxL := 5) (ret := (some .int)) (by decide) rfl ?_
  intro pr en st mi args below meth co s₁ B hml hv
  obtain ⟨rfl, hG, hP⟩ := hv
  have hr := B.returns
  have hlk := B.notSynchronized
  have SS : jS pr mi co cX11_alike 5 st _ RX11 := ⟨B.exec, B.bytes, hml, findClass_of_methodNamed B.named, fun w hw => atoms_spec (ws := (jw yX11_alike cX11_alike 5 (some .int))) B.pre w (List.mem_cons_of_mem _ hw)⟩
  have hl := lv_entry ([.ref (q 0), .int (J s), .int (J s2)]) (n := 5) (Nat.le_of_ble_eq_true rfl)
  rw [lg_entry_eq]
  generalize (lg_sl ([.ref (q 0), .int (J s), .int (J s2)]) ++ List.replicate (5 - (lg_sl ([.ref (q 0), .int (J s), .int (J s2)])).length) Slot.unset).toArray = ls at hl ⊢
  have hl : lv_has ls 5 [(0, .ref (q 0)), (1, .int (J s)), (2, .int (J s2))] := hl
  refine lv_aload_n SS.1 SS.2.1 dX11_alike_0 rfl (lv_at hl 0 rfl) ?_
  refine lv_iload_n SS.1 SS.2.1 dX11_alike_1 rfl (lv_at hl 1 rfl) ?_
  refine j_vSh SS (As := [.int (J s)]) (rest := []) (c_X11_shapeAt l D q u  s (show -2147483648 ≤ s ∧ s ≤ 2147483647 from (p1))) mf_X11_shapeAt kw_414 hG hP hP (ci := 11) (q0 := 0) rfl rfl rfl rfl hl.1 ⟨⟨Nat.le_of_ble_eq_true rfl, Nat.le_of_ble_eq_true rfl⟩, Nat.le_of_ble_eq_true rfl, Nat.le_refl _, Nat.le_refl _⟩ rfl dX11_alike_2 (fun i_2 hi_2 hz_2 => ?_) (fun hn_2 => ?_)
  · skip
    have hI2 := CI_s p0 (show i_2 < 8 by omega)
    have hI2c := hI2.1
    have hrl2 := rl_s (show i_2 < 8 by omega)
    refine lv_astore_n (lv' := [(3, .ref (q (8 + 5 * i_2))), (0, .ref (q 0)), (1, .int (J s)), (2, .int (J s2))]) SS.1 SS.2.1 dX11_alike_5 rfl hl (by decide) rfl (fun ls hl => ?_)
    refine lv_aload_n SS.1 SS.2.1 dX11_alike_6 rfl (lv_at hl 1 rfl) ?_
    refine lv_iload_n SS.1 SS.2.1 dX11_alike_7 rfl (lv_at hl 3 rfl) ?_
    refine j_vSh SS (As := [.int (J s2)]) (rest := []) (c_X11_shapeAt l D q u  s2 (show -2147483648 ≤ s2 ∧ s2 ≤ 2147483647 from (p2))) mf_X11_shapeAt kw_414 hG hP hP (ci := 11) (q0 := 0) rfl rfl rfl rfl hl.1 ⟨⟨Nat.le_of_ble_eq_true rfl, Nat.le_of_ble_eq_true rfl⟩, Nat.le_of_ble_eq_true rfl, Nat.le_refl _, Nat.le_refl _⟩ rfl dX11_alike_8 (fun i_8 hi_8 hz_8 => ?_) (fun hn_8 => ?_)
    · skip
      refine lv_astore (lv' := [(4, .ref (q (8 + 5 * i_8))), (3, .ref (q (8 + 5 * i_2))), (0, .ref (q 0)), (1, .int (J s)), (2, .int (J s2))]) SS.1 SS.2.1 dX11_alike_11 hl (by decide) rfl (fun ls hl => ?_)
      refine lv_aload_n SS.1 SS.2.1 dX11_alike_13 rfl (lv_at hl 1 rfl) ?_
      refine lv_ifnull SS.1 SS.2.1 dX11_alike_14 ?_
      refine lv_aload SS.1 SS.2.1 dX11_alike_17 (lv_at hl 0 rfl) ?_
      refine lv_ifnonnull SS.1 SS.2.1 (tgt := 24) dX11_alike_19 (by decide) ?_
      refine lv_aload_n SS.1 SS.2.1 dX11_alike_24 rfl (lv_at hl 1 rfl) ?_
      refine j_get SS hG hP (8 + 5 * i_2) (v := .ref (q (9 + 5 * i_2))) (C := RX10) (T := TX10) (N := 3) (cw_shape (by omega)) rfl inX10 0 (by decide) (ref := "GridPolygons$Shape") kw_151 rfl rfl dX11_alike_25 ?_
      refine lv_aload SS.1 SS.2.1 dX11_alike_28 (lv_at hl 0 rfl) ?_
      refine j_get SS hG hP (8 + 5 * i_8) (v := .ref (q (9 + 5 * i_8))) (C := RX10) (T := TX10) (N := 3) (cw_shape (by omega)) rfl inX10 0 (by decide) (ref := "GridPolygons$Shape") kw_151 rfl rfl dX11_alike_30 ?_
      refine j_sRi SS (As := [.ref (q (9 + 5 * i_2)), .ref (q (9 + 5 * i_8))]) (rest := []) (c_X11_areAlike3 l D q u i_2 (by omega) i_8 (by omega)  (show RB 40 u i_2 from (CI_40 p0 (by omega))) (show RB 40 u i_8 from (CI_40 p0 (by omega)))) mf_X11_areAlike kw_671 hG hP rfl hl.1 ⟨⟨Nat.le_of_ble_eq_true rfl, Nat.le_of_ble_eq_true rfl⟩, Nat.le_of_ble_eq_true rfl, Nat.le_refl _, Nat.le_refl _⟩ rfl dX11_alike_33 (fun z_33 h_33 => ?_)
      have h_33 : alC u i_2 i_8 z_33 := h_33
      have ab := alC_b h_33
      refine j_if_eq SS (tgt := 43) (x := z_33) dX11_alike_36 (by decide) (by omega) (fun c_36 => ?_) (fun c_36 => ?_)
      · skip
        refine j_iconst SS dX11_alike_43 ?_
        exact W.iret SS.1 SS.2.1 hr (fun t0 ht hW => ⟨_, rfl, ⟨0, rfl, (by first | exact Or.inl ⟨by omega, rfl⟩ | exact Or.inr ⟨by omega, by rw [show s.toNat = i_2 by omega, show s2.toNat = i_8 by omega]; have w := h_33; first | (rw [show z_33 = 1 by omega] at w; exact w) | (rw [show z_33 = 0 by omega] at w; exact w)⟩)⟩, ht⟩) (fun _ h => nomatch h) dX11_alike_44 hlk
      · skip
        refine j_iconst SS dX11_alike_39 ?_
        refine lv_goto (tgt := 44) SS.1 SS.2.1 dX11_alike_40 (by decide) ?_
        exact W.iret SS.1 SS.2.1 hr (fun t0 ht hW => ⟨_, rfl, ⟨1, rfl, (by first | exact Or.inl ⟨by omega, rfl⟩ | exact Or.inr ⟨by omega, by rw [show s.toNat = i_2 by omega, show s2.toNat = i_8 by omega]; have w := h_33; first | (rw [show z_33 = 1 by omega] at w; exact w) | (rw [show z_33 = 0 by omega] at w; exact w)⟩)⟩, ht⟩) (fun _ h => nomatch h) dX11_alike_44 hlk
    · skip
      refine lv_astoreN (lv' := [(4, .null), (3, .ref (q (8 + 5 * i_2))), (0, .ref (q 0)), (1, .int (J s)), (2, .int (J s2))]) SS.1 SS.2.1 dX11_alike_11 hl (by decide) rfl (fun ls hl => ?_)
      refine lv_aload_n SS.1 SS.2.1 dX11_alike_13 rfl (lv_at hl 1 rfl) ?_
      refine lv_ifnull SS.1 SS.2.1 dX11_alike_14 ?_
      refine lv_aloadN SS.1 SS.2.1 dX11_alike_17 (lv_at hl 0 rfl) ?_
      refine lv_ifnonnullN SS.1 SS.2.1 dX11_alike_19 ?_
      refine j_iconst SS dX11_alike_22 ?_
      exact W.iret SS.1 SS.2.1 hr (fun t0 ht hW => ⟨_, rfl, ⟨(-1), rfl, (by first | exact Or.inl ⟨by omega, rfl⟩ | exact Or.inr ⟨by omega, by rw [show s.toNat = i_2 by omega, show s2.toNat = i_8 by omega]; have w := h_33; first | (rw [show z_33 = 1 by omega] at w; exact w) | (rw [show z_33 = 0 by omega] at w; exact w)⟩)⟩, ht⟩) (fun _ h => nomatch h) dX11_alike_23 hlk
  · skip
    refine lv_astore_nN (lv' := [(3, .null), (0, .ref (q 0)), (1, .int (J s)), (2, .int (J s2))]) SS.1 SS.2.1 dX11_alike_5 rfl hl (by decide) rfl (fun ls hl => ?_)
    refine lv_aload_n SS.1 SS.2.1 dX11_alike_6 rfl (lv_at hl 1 rfl) ?_
    refine lv_iload_n SS.1 SS.2.1 dX11_alike_7 rfl (lv_at hl 3 rfl) ?_
    refine j_vSh SS (As := [.int (J s2)]) (rest := []) (c_X11_shapeAt l D q u  s2 (show -2147483648 ≤ s2 ∧ s2 ≤ 2147483647 from (p2))) mf_X11_shapeAt kw_414 hG hP hP (ci := 11) (q0 := 0) rfl rfl rfl rfl hl.1 ⟨⟨Nat.le_of_ble_eq_true rfl, Nat.le_of_ble_eq_true rfl⟩, Nat.le_of_ble_eq_true rfl, Nat.le_refl _, Nat.le_refl _⟩ rfl dX11_alike_8 (fun i_8 hi_8 hz_8 => ?_) (fun hn_8 => ?_)
    · skip
      refine lv_astore (lv' := [(4, .ref (q (8 + 5 * i_8))), (3, .null), (0, .ref (q 0)), (1, .int (J s)), (2, .int (J s2))]) SS.1 SS.2.1 dX11_alike_11 hl (by decide) rfl (fun ls hl => ?_)
      refine lv_aload_nN SS.1 SS.2.1 dX11_alike_13 rfl (lv_at hl 1 rfl) ?_
      refine lv_ifnullN SS.1 SS.2.1 (tgt := 22) dX11_alike_14 (by decide) ?_
      refine j_iconst SS dX11_alike_22 ?_
      exact W.iret SS.1 SS.2.1 hr (fun t0 ht hW => ⟨_, rfl, ⟨(-1), rfl, (by first | exact Or.inl ⟨by omega, rfl⟩ | exact Or.inr ⟨by omega, by rw [show s.toNat = i_2 by omega, show s2.toNat = i_8 by omega]; have w := h_33; first | (rw [show z_33 = 1 by omega] at w; exact w) | (rw [show z_33 = 0 by omega] at w; exact w)⟩)⟩, ht⟩) (fun _ h => nomatch h) dX11_alike_23 hlk
    · skip
      refine lv_astoreN (lv' := [(4, .null), (3, .null), (0, .ref (q 0)), (1, .int (J s)), (2, .int (J s2))]) SS.1 SS.2.1 dX11_alike_11 hl (by decide) rfl (fun ls hl => ?_)
      refine lv_aload_nN SS.1 SS.2.1 dX11_alike_13 rfl (lv_at hl 1 rfl) ?_
      refine lv_ifnullN SS.1 SS.2.1 (tgt := 22) dX11_alike_14 (by decide) ?_
      refine j_iconst SS dX11_alike_22 ?_
      exact W.iret SS.1 SS.2.1 hr (fun t0 ht hW => ⟨_, rfl, ⟨(-1), rfl, (by first | exact Or.inl ⟨by omega, rfl⟩ | exact Or.inr ⟨by omega, by rw [show s.toNat = i_2 by omega, show s2.toNat = i_8 by omega]; have w := h_33; first | (rw [show z_33 = 1 by omega] at w; exact w) | (rw [show z_33 = 0 by omega] at w; exact w)⟩)⟩, ht⟩) (fun _ h => nomatch h) dX11_alike_23 hlk

