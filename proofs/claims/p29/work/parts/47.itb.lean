
set_option maxHeartbeats 4000000 in
set_option maxRecDepth 100000 in
theorem c_X7_coordinate3 (l : Launch) (D : JD) (q : Nat → Nat) (u : CS) (r : Nat) (hr : r ≤ 8) (K : Int) (i : Int) (w : Int) (p0 : 0 ≤ K ∧ K ≤ 80) (p1 : RB K u r) (p2 : 0 ≤ i ∧ i ≤ 2147483647) (p3 : -2147483648 ≤ w ∧ w ≤ 2147483647) : Met l yX7_coordinate (jw yX7_coordinate cX7_coordinate 7 (some .int)) (jr 3 68) (jP [.ref (q (9 + 5 * r)), .int (J i), .int (J w)] D (fun H => va_P D.1 j_cl (cW D q u) H)) (jRi (fun z => crd u r i w z ∧ wRg z)) 0 0 (fun _ => False) := by
  refine Met.ofW (cc := cX7_coordinate) (maxL := 7) (ret := (some .int)) (by decide) rfl ?_
  intro pr en st mi args below meth co s₁ B hml hv
  obtain ⟨rfl, hG, hP⟩ := hv
  have hr := B.returns
  have hlk := B.notSynchronized
  have SS : jS pr mi co cX7_coordinate 7 st _ RX7 := ⟨B.exec, B.bytes, hml, findClass_of_methodNamed B.named, fun w hw => atoms_spec (ws := (jw yX7_coordinate cX7_coordinate 7 (some .int))) B.pre w (List.mem_cons_of_mem _ hw)⟩
  have hl := lv_entry ([.ref (q (9 + 5 * r)), .int (J i), .int (J w)]) (n := 7) (Nat.le_of_ble_eq_true rfl)
  rw [lg_entry_eq]
  generalize (lg_sl ([.ref (q (9 + 5 * r)), .int (J i), .int (J w)]) ++ List.replicate (7 - (lg_sl ([.ref (q (9 + 5 * r)), .int (J i), .int (J w)])).length) Slot.unset).toArray = ls at hl ⊢
  have hl : lv_has ls 7 [(0, .ref (q (9 + 5 * r))), (1, .int (J i)), (2, .int (J w))] := hl
  have hc := p1.1
  have hrl := rl_b r
  refine lv_aload_n SS.1 SS.2.1 dX7_coordinate_0 rfl (lv_at hl 0 rfl) ?_
  refine j_getS SS hG hP (9 + 5 * r) (v := .int (J (u.1.2.2.1 r))) (C := RX7) (T := TX7) (N := 3) (cw_ring (by omega)) rfl inX7 2 (by decide) (ref := "GridPolygons$Ring") kw_131 kw_132 rfl dX7_coordinate_1 ?_
  refine j_if_ne SS (tgt := 10) (x := (u.1.2.2.1 r)) dX7_coordinate_4 (by decide) (by omega) (fun c_4 => ?_) (fun c_4 => ?_)
  · skip
    refine lv_iload_n SS.1 SS.2.1 dX7_coordinate_10 rfl (lv_at hl 1 rfl) ?_
    refine lv_istore_n (lv' := [(3, .int (J i)), (0, .ref (q (9 + 5 * r))), (1, .int (J i)), (2, .int (J w))]) SS.1 SS.2.1 dX7_coordinate_11 rfl hl (by decide) rfl (fun ls hl => ?_)
    refine lv_aload_n SS.1 SS.2.1 dX7_coordinate_12 rfl (lv_at hl 1 rfl) ?_
    refine j_vRi SS (As := []) (rest := []) (c_X7_leftmost l D q u r (by omega) K  (show 0 ≤ K ∧ K ≤ 80 from (p0)) (show RB K u r from (p1))) mf_X7_leftmost kw_585 hG hP hP (ci := 7) (q0 := (9 + 5 * r)) rfl (cw_ring (by omega)) rfl rfl hl.1 ⟨⟨Nat.le_of_ble_eq_true rfl, Nat.le_of_ble_eq_true rfl⟩, Nat.le_of_ble_eq_true rfl, Nat.le_refl _, Nat.le_refl _⟩ rfl dX7_coordinate_13 (fun z_13 h_13 => ?_)
    have h_13 : z_13 = rx u r 0 ∧ -K ≤ z_13 ∧ z_13 ≤ K := h_13
    refine lv_istore (lv' := [(4, .int (J z_13)), (3, .int (J i)), (0, .ref (q (9 + 5 * r))), (1, .int (J i)), (2, .int (J w))]) SS.1 SS.2.1 dX7_coordinate_16 hl (by decide) rfl (fun ls hl => ?_)
    have L_18 : ∀ (nn : Nat) (lf : Int) (x : Int) (ls : Array Slot) (hl : lv_has ls 7 [(0, .ref (q (9 + 5 * r))), (1, .int (J i)), (2, .int (J w)), (3, .int (J lf)), (4, .int (J x))]) (i18_0 : 0 ≤ lf ∧ lf ≤ i) (i18_1 : -80 ≤ x ∧ x ≤ 81) (i18_2 : rx u r 0 ≤ x) (i18_3 : ∃ X Y : Nat → Int, OL (fun a b => inC u r a b ∧ a < x) (i - lf) X Y), ((82 : Int) - x).toNat < nn → W pr l en (headSpec (jw yX7_coordinate cX7_coordinate 7 (some .int)) (jr 3 68)).room st mi (([.ref (q (9 + 5 * r)), .int (J i), .int (J w)] : List Value).toArray) below meth co st.heap [] 0 0 (MQ below (jRi (fun z => crd u r i w z ∧ wRg z)) (([.ref (q (9 + 5 * r)), .int (J i), .int (J w)] : List Value).toArray) st 0 0 (fun _ => False)) (F0 mi 18 ls []) := by
      intro nn
      induction nn with
      | zero => intros; omega
      | succ nn ih_18 =>
        intro lf x ls hl i18_0 i18_1 i18_2 i18_3 hm
        refine lv_iload SS.1 SS.2.1 dX7_coordinate_18 (lv_at hl 4 rfl) ?_
        refine lv_aload_n SS.1 SS.2.1 dX7_coordinate_20 rfl (lv_at hl 0 rfl) ?_
        refine j_vRi SS (As := []) (rest := [.int (J x)]) (c_X7_rightmost3 l D q u r (by omega) K  (show 0 ≤ K ∧ K ≤ 80 from (p0)) (show RB K u r from (p1)) (show 1 ≤ (u.1.2.2.1 r) from (by omega))) mf_X7_rightmost kw_589 hG hP hP (ci := 7) (q0 := (9 + 5 * r)) rfl (cw_ring (by omega)) rfl rfl hl.1 ⟨⟨Nat.le_of_ble_eq_true rfl, Nat.le_of_ble_eq_true rfl⟩, Nat.le_of_ble_eq_true rfl, Nat.le_refl _, Nat.le_refl _⟩ rfl dX7_coordinate_21 (fun z_21 h_21 => ?_)
        have h_21 : (-K ≤ z_21 ∧ z_21 ≤ K) ∧ (∀ a : Int, 0 ≤ a → a < (u.1.2.2.1 r) → rx u r a ≤ z_21) ∧ ∃ a : Int, 0 ≤ a ∧ a < (u.1.2.2.1 r) ∧ rx u r a = z_21 := h_21
        refine j_icmp_gt SS (tgt := 83) (x := x) (y := z_21) dX7_coordinate_24 (by decide) (by omega) (by omega) (fun c_24 => ?_) (fun c_24 => ?_)
        · skip
          refine j_ldc SS (-1000000) kw_622 dX7_coordinate_83 ?_
          exact W.iret SS.1 SS.2.1 hr (fun t0 ht hW => ⟨_, rfl, ⟨(-1000000), rfl, (by obtain ⟨X, Y, hO⟩ := i18_3; exact ⟨Or.inl ⟨i - lf, X, Y, OL_c hO (fun a b => ⟨fun q => q.1, fun q => ⟨q, by obtain ⟨c, c0, c1, c2⟩ := q.2.2.1; have := h_21.2.1 c c0 c1; omega⟩⟩), by omega, rfl⟩, by unfold wRg; omega⟩)⟩, ht⟩) (fun _ h => nomatch h) dX7_coordinate_85 hlk
        · skip
          refine lv_aload_n SS.1 SS.2.1 dX7_coordinate_27 rfl (lv_at hl 0 rfl) ?_
          refine lv_iload SS.1 SS.2.1 dX7_coordinate_28 (lv_at hl 4 rfl) ?_
          refine j_vRi SS (As := [.int (J x)]) (rest := []) (c_X7_lowestAt3 l D q u r (by omega) K x (show 0 ≤ K ∧ K ≤ 80 from (p0)) (show RB K u r from (p1)) (show -200 ≤ x ∧ x ≤ 200 from (by omega)) (show 1 ≤ (u.1.2.2.1 r) from (by omega))) mf_X7_lowestAt kw_594 hG hP hP (ci := 7) (q0 := (9 + 5 * r)) rfl (cw_ring (by omega)) rfl rfl hl.1 ⟨⟨Nat.le_of_ble_eq_true rfl, Nat.le_of_ble_eq_true rfl⟩, Nat.le_of_ble_eq_true rfl, Nat.le_refl _, Nat.le_refl _⟩ rfl dX7_coordinate_30 (fun z_30 h_30 => ?_)
          have h_30 : (-K ≤ z_30 ∧ z_30 ≤ 60000) ∧ (∀ y : Int, z_30 ≤ y ↔ loC u r x y ((u.1.2.2.1 r))) := h_30
          refine lv_istore (lv' := [(5, .int (J z_30)), (0, .ref (q (9 + 5 * r))), (1, .int (J i)), (2, .int (J w)), (3, .int (J lf)), (4, .int (J x))]) SS.1 SS.2.1 dX7_coordinate_33 hl (by decide) rfl (fun ls hl => ?_)
          refine j_iconst SS dX7_coordinate_35 ?_
          refine lv_aload_n SS.1 SS.2.1 dX7_coordinate_36 rfl (lv_at hl 1 rfl) ?_
          refine lv_iload SS.1 SS.2.1 dX7_coordinate_37 (lv_at hl 5 rfl) ?_
          refine j_vRi SS (As := [.int (J x)]) (rest := [.int (J 0)]) (c_X7_highestAt3 l D q u r (by omega) K x (show 0 ≤ K ∧ K ≤ 80 from (p0)) (show RB K u r from (p1)) (show -200 ≤ x ∧ x ≤ 200 from (by omega)) (show 1 ≤ (u.1.2.2.1 r) from (by omega))) mf_X7_highestAt kw_606 hG hP hP (ci := 7) (q0 := (9 + 5 * r)) rfl (cw_ring (by omega)) rfl rfl hl.1 ⟨⟨Nat.le_of_ble_eq_true rfl, Nat.le_of_ble_eq_true rfl⟩, Nat.le_of_ble_eq_true rfl, Nat.le_refl _, Nat.le_refl _⟩ rfl dX7_coordinate_39 (fun z_39 h_39 => ?_)
          have h_39 : (-60000 ≤ z_39 ∧ z_39 ≤ K) ∧ (∀ y : Int, y ≤ z_39 ↔ hiC u r x y ((u.1.2.2.1 r))) := h_39
          refine lv_iload SS.1 SS.2.1 dX7_coordinate_42 (lv_at hl 0 rfl) ?_
          refine j_isub SS (x := z_39) (y := z_30) dX7_coordinate_44 ?_
          refine j_iconst SS dX7_coordinate_45 ?_
          refine j_iadd SS (x := (z_39 - z_30)) (y := 1) dX7_coordinate_46 ?_
          refine j_sRi SS (As := [.int (J 0), .int (J ((z_39 - z_30) + 1))]) (rest := []) (c_J9_max_7cf53 l D  0 ((z_39 - z_30) + 1) (show -2147483648 ≤ (0 : Int) ∧ (0 : Int) ≤ 2147483647 from (by omega)) (show -2147483648 ≤ ((z_39 - z_30) + 1) ∧ ((z_39 - z_30) + 1) ≤ 2147483647 from (by omega))) mf_J9_max_7cf53 kw_593 hG trivial rfl hl.1 ⟨⟨Nat.le_of_ble_eq_true rfl, Nat.le_of_ble_eq_true rfl⟩, Nat.le_of_ble_eq_true rfl, Nat.le_refl _, Nat.le_refl _⟩ rfl dX7_coordinate_47 (fun z_47 h_47 => ?_)
          have h_47 : (z_47 = (0 : Int) ∨ z_47 = ((z_39 - z_30) + 1)) ∧ (0 : Int) ≤ z_47 ∧ ((z_39 - z_30) + 1) ≤ z_47 := h_47
          refine lv_istore (lv' := [(6, .int (J z_47)), (5, .int (J z_30)), (0, .ref (q (9 + 5 * r))), (1, .int (J i)), (2, .int (J w)), (3, .int (J lf)), (4, .int (J x))]) SS.1 SS.2.1 dX7_coordinate_50 hl (by decide) rfl (fun ls hl => ?_)
          refine lv_iload_n SS.1 SS.2.1 dX7_coordinate_52 rfl (lv_at hl 5 rfl) ?_
          refine lv_iload SS.1 SS.2.1 dX7_coordinate_53 (lv_at hl 0 rfl) ?_
          refine j_icmp_ge SS (tgt := 72) (x := lf) (y := z_47) dX7_coordinate_55 (by decide) (by omega) (by omega) (fun c_55 => ?_) (fun c_55 => ?_)
          · skip
            refine lv_iload_n SS.1 SS.2.1 dX7_coordinate_72 rfl (lv_at hl 5 rfl) ?_
            refine lv_iload SS.1 SS.2.1 dX7_coordinate_73 (lv_at hl 0 rfl) ?_
            refine j_isub SS (x := lf) (y := z_47) dX7_coordinate_75 ?_
            refine lv_istore_n (lv' := [(3, .int (J (lf - z_47))), (6, .int (J z_47)), (5, .int (J z_30)), (0, .ref (q (9 + 5 * r))), (1, .int (J i)), (2, .int (J w)), (4, .int (J x))]) SS.1 SS.2.1 dX7_coordinate_76 rfl hl (by decide) rfl (fun ls hl => ?_)
            refine lv_iinc (v := J (x + 1)) (lv' := [(4, .int (J (x + 1))), (3, .int (J (lf - z_47))), (6, .int (J z_47)), (5, .int (J z_30)), (0, .ref (q (9 + 5 * r))), (1, .int (J i)), (2, .int (J w))]) SS.1 SS.2.1 dX7_coordinate_77 hl (k := 6) rfl (J_add _ _) (by decide) rfl (fun ls hl => ?_)
            refine lv_goto (tgt := 18) SS.1 SS.2.1 dX7_coordinate_80 (by decide) ?_
            exact ih_18 (lf - z_47) (x + 1) ls (lv_sub hl [4, 5, 6, 1, 0] rfl) (by omega) (by omega) (by omega) (by obtain ⟨X, Y, hO⟩ := i18_3; obtain ⟨X2, Y2, hO2⟩ := OL_col hO (fun a => crd_col (by omega) i18_2 (by obtain ⟨b, b0, b1, b2⟩ := h_21.2.2; exact ⟨b, b0, b1, by omega⟩) h_30.2 h_39.2 a) z_47.toNat (by omega); exact ⟨X2, Y2, by rw [show i - (lf - z_47) = i - lf + (z_47.toNat : Int) by omega]; exact OL_c hO2 (fun a b => ⟨fun q => ⟨q.1, by omega⟩, fun q => ⟨q.1, by by_cases e : a = x; (have q1 := q.1; rw [e] at q1; have q2 := (crd_col (by omega) i18_2 (by obtain ⟨c, c0, c1, c2⟩ := h_21.2.2; exact ⟨c, c0, c1, by omega⟩) h_30.2 h_39.2 b).mp q1; omega); have := q.2; omega⟩⟩)⟩) (by omega)
          · skip
            refine lv_iload_n SS.1 SS.2.1 dX7_coordinate_58 rfl (lv_at hl 4 rfl) ?_
            refine j_if_ne SS (tgt := 67) (x := w) dX7_coordinate_59 (by decide) (by omega) (fun c_59 => ?_) (fun c_59 => ?_)
            · skip
              refine lv_iload SS.1 SS.2.1 dX7_coordinate_67 (lv_at hl 1 rfl) ?_
              refine lv_iload_n SS.1 SS.2.1 dX7_coordinate_69 rfl (lv_at hl 5 rfl) ?_
              refine j_iadd SS (x := z_30) (y := lf) dX7_coordinate_70 ?_
              exact W.iret SS.1 SS.2.1 hr (fun t0 ht hW => ⟨_, rfl, ⟨(z_30 + lf), rfl, (by obtain ⟨X, Y, hO⟩ := i18_3; obtain ⟨X2, Y2, hO2⟩ := OL_col hO (fun a => crd_col (by omega) i18_2 (by obtain ⟨b, b0, b1, b2⟩ := h_21.2.2; exact ⟨b, b0, b1, by omega⟩) h_30.2 h_39.2 a) lf.toNat (by omega); exact ⟨Or.inr ⟨x, z_30 + lf, X2, Y2, (crd_col (by omega) i18_2 (by obtain ⟨b, b0, b1, b2⟩ := h_21.2.2; exact ⟨b, b0, b1, by omega⟩) h_30.2 h_39.2 _).mpr (by omega), by rw [show i = i - lf + (lf.toNat : Int) by omega]; refine OL_c hO2 (fun a b => ?_); rw [show ((lf.toNat : Nat) : Int) = lf by omega]; exact Iff.rfl, by first | exact Or.inl ⟨by omega, rfl⟩ | exact Or.inr ⟨by omega, rfl⟩⟩, by unfold wRg; omega⟩)⟩, ht⟩) (fun _ h => nomatch h) dX7_coordinate_71 hlk
            · skip
              refine lv_iload SS.1 SS.2.1 dX7_coordinate_62 (lv_at hl 6 rfl) ?_
              refine lv_goto (tgt := 71) SS.1 SS.2.1 dX7_coordinate_64 (by decide) ?_
              exact W.iret SS.1 SS.2.1 hr (fun t0 ht hW => ⟨_, rfl, ⟨x, rfl, (by obtain ⟨X, Y, hO⟩ := i18_3; obtain ⟨X2, Y2, hO2⟩ := OL_col hO (fun a => crd_col (by omega) i18_2 (by obtain ⟨b, b0, b1, b2⟩ := h_21.2.2; exact ⟨b, b0, b1, by omega⟩) h_30.2 h_39.2 a) lf.toNat (by omega); exact ⟨Or.inr ⟨x, z_30 + lf, X2, Y2, (crd_col (by omega) i18_2 (by obtain ⟨b, b0, b1, b2⟩ := h_21.2.2; exact ⟨b, b0, b1, by omega⟩) h_30.2 h_39.2 _).mpr (by omega), by rw [show i = i - lf + (lf.toNat : Int) by omega]; refine OL_c hO2 (fun a b => ?_); rw [show ((lf.toNat : Nat) : Int) = lf by omega]; exact Iff.rfl, by first | exact Or.inl ⟨by omega, rfl⟩ | exact Or.inr ⟨by omega, rfl⟩⟩, by unfold wRg; omega⟩)⟩, ht⟩) (fun _ h => nomatch h) dX7_coordinate_71 hlk
    exact L_18 (((82 : Int) - z_13).toNat + 1) i z_13 ls (lv_sub hl [2, 3, 4, 1, 0] rfl) (by omega) (by omega) (by rw [h_13.1]; omega) (⟨fun _ => 0, fun _ => 0, by rw [show i - i = 0 by omega]; exact OL_0 (fun a b q => by have q1 := q.1.2.1; have q2 := q.2; rw [h_13.1] at q2; omega)⟩) (Nat.lt_succ_self _)
  · skip
    refine j_ldc SS (-1000000) kw_622 dX7_coordinate_7 ?_
    exact W.iret SS.1 SS.2.1 hr (fun t0 ht hW => ⟨_, rfl, ⟨(-1000000), rfl, (⟨Or.inl ⟨0, fun _ => 0, fun _ => 0, OL_0 (fun a b q => q.1 (by omega)), by omega, rfl⟩, by unfold wRg; omega⟩)⟩, ht⟩) (fun _ h => nomatch h) dX7_coordinate_9 hlk

set_option maxHeartbeats 4000000 in
set_option maxRecDepth 100000 in
theorem c_X11_pointN (l : Launch) (D : JD) (q : Nat → Nat) (u : CS) (s : Int) (i : Int) (what : Int) (p0 : CI u) (p1 : -2147483648 ≤ s ∧ s ≤ 2147483647) (p2 : -2147483648 ≤ i ∧ i ≤ 2147483647) (p3 : -2147483648 ≤ what ∧ what ≤ 2147483647) : Met l yX11_point (jw yX11_point cX11_point 5 (some .int)) (jr 4 94) (jP [.ref (q 0), .int (J s), .int (J i), .int (J what)] D (fun H => va_P D.1 j_cl (cW D q u) H)) (jRi (fun z => ptC u s i what z ∧ wRg z)) 0 0 (fun _ => False) := by
  refine Met.ofW (cc := cX11_point) (maxL := 5) (ret := (some .int)) (by decide) rfl ?_
  intro pr en st mi args below meth co s₁ B hml hv
  obtain ⟨rfl, hG, hP⟩ := hv
  have hr := B.returns
  have hlk := B.notSynchronized
  have SS : jS pr mi co cX11_point 5 st _ RX11 := ⟨B.exec, B.bytes, hml, findClass_of_methodNamed B.named, fun w hw => atoms_spec (ws := (jw yX11_point cX11_point 5 (some .int))) B.pre w (List.mem_cons_of_mem _ hw)⟩
  have hl := lv_entry ([.ref (q 0), .int (J s), .int (J i), .int (J what)]) (n := 5) (Nat.le_of_ble_eq_true rfl)
  rw [lg_entry_eq]
  generalize (lg_sl ([.ref (q 0), .int (J s), .int (J i), .int (J what)]) ++ List.replicate (5 - (lg_sl ([.ref (q 0), .int (J s), .int (J i), .int (J what)])).length) Slot.unset).toArray = ls at hl ⊢
  have hl : lv_has ls 5 [(0, .ref (q 0)), (1, .int (J s)), (2, .int (J i)), (3, .int (J what))] := hl
  refine lv_aload_n SS.1 SS.2.1 dX11_point_0 rfl (lv_at hl 0 rfl) ?_
  refine lv_iload_n SS.1 SS.2.1 dX11_point_1 rfl (lv_at hl 1 rfl) ?_
  refine j_vSh SS (As := [.int (J s)]) (rest := []) (c_X11_shapeAt l D q u  s (show -2147483648 ≤ s ∧ s ≤ 2147483647 from (p1))) mf_X11_shapeAt kw_414 hG hP hP (ci := 11) (q0 := 0) rfl rfl rfl rfl hl.1 ⟨⟨Nat.le_of_ble_eq_true rfl, Nat.le_of_ble_eq_true rfl⟩, Nat.le_of_ble_eq_true rfl, Nat.le_refl _, Nat.le_refl _⟩ rfl dX11_point_2 (fun i_2 hi_2 hz_2 => ?_) (fun hn_2 => ?_)
  · skip
    have hI2 := CI_s p0 (show i_2 < 8 by omega)
    have hI2c := hI2.1
    have hrl2 := rl_s (show i_2 < 8 by omega)
    refine lv_astore (lv' := [(4, .ref (q (8 + 5 * i_2))), (0, .ref (q 0)), (1, .int (J s)), (2, .int (J i)), (3, .int (J what))]) SS.1 SS.2.1 dX11_point_5 hl (by decide) rfl (fun ls hl => ?_)
    refine lv_aload SS.1 SS.2.1 dX11_point_7 (lv_at hl 0 rfl) ?_
    refine lv_ifnull SS.1 SS.2.1 dX11_point_9 ?_
    refine lv_iload_n SS.1 SS.2.1 dX11_point_12 rfl (lv_at hl 3 rfl) ?_
    refine j_if_lt SS (tgt := 25) (x := i) dX11_point_13 (by decide) (by omega) (fun c_13 => ?_) (fun c_13 => ?_)
    · skip
      refine j_ldc SS (-1000000) kw_512 dX11_point_25 ?_
      exact W.iret SS.1 SS.2.1 hr (fun t0 ht hW => ⟨_, rfl, ⟨(-1000000), rfl, (by first | exact ⟨Or.inl ⟨fun q => by unfold ptP at q; omega, rfl⟩, by unfold wRg; omega⟩ | exact ⟨Or.inr ⟨by unfold ptP; omega, by rw [show s.toNat = i_2 by omega]; exact h_35.1⟩, h_35.2⟩)⟩, ht⟩) (fun _ h => nomatch h) dX11_point_27 hlk
    · skip
      refine lv_iload_n SS.1 SS.2.1 dX11_point_16 rfl (lv_at hl 4 rfl) ?_
      refine j_if_lt SS (tgt := 25) (x := what) dX11_point_17 (by decide) (by omega) (fun c_17 => ?_) (fun c_17 => ?_)
      · skip
        refine j_ldc SS (-1000000) kw_512 dX11_point_25 ?_
        exact W.iret SS.1 SS.2.1 hr (fun t0 ht hW => ⟨_, rfl, ⟨(-1000000), rfl, (by first | exact ⟨Or.inl ⟨fun q => by unfold ptP at q; omega, rfl⟩, by unfold wRg; omega⟩ | exact ⟨Or.inr ⟨by unfold ptP; omega, by rw [show s.toNat = i_2 by omega]; exact h_35.1⟩, h_35.2⟩)⟩, ht⟩) (fun _ h => nomatch h) dX11_point_27 hlk
      · skip
        refine lv_iload_n SS.1 SS.2.1 dX11_point_20 rfl (lv_at hl 4 rfl) ?_
        refine j_iconst SS dX11_point_21 ?_
        refine j_icmp_le SS (tgt := 28) (x := what) (y := 1) dX11_point_22 (by decide) (by omega) (by decide) (fun c_22 => ?_) (fun c_22 => ?_)
        · skip
          refine lv_aload SS.1 SS.2.1 dX11_point_28 (lv_at hl 0 rfl) ?_
          refine j_get SS hG hP (8 + 5 * i_2) (v := .ref (q (9 + 5 * i_2))) (C := RX10) (T := TX10) (N := 3) (cw_shape (by omega)) rfl inX10 0 (by decide) (ref := "GridPolygons$Shape") kw_151 rfl rfl dX11_point_30 ?_
          refine lv_iload_n SS.1 SS.2.1 dX11_point_33 rfl (lv_at hl 3 rfl) ?_
          refine lv_iload_n SS.1 SS.2.1 dX11_point_34 rfl (lv_at hl 4 rfl) ?_
          refine j_vRi SS (As := [.int (J i), .int (J what)]) (rest := []) (c_X7_coordinate3 l D q u i_2 (by omega) (80 : Int) i what (show 0 ≤ (80 : Int) ∧ (80 : Int) ≤ 80 from (by omega)) (show RB (80 : Int) u i_2 from (show RB 80 u i_2 from CI_s p0 (by omega))) (show 0 ≤ i ∧ i ≤ 2147483647 from (by omega)) (show -2147483648 ≤ what ∧ what ≤ 2147483647 from (p3))) mf_X7_coordinate kw_618 hG hP hP (ci := 7) (q0 := (9 + 5 * i_2)) rfl (cw_ring (by omega)) rfl rfl hl.1 ⟨⟨Nat.le_of_ble_eq_true rfl, Nat.le_of_ble_eq_true rfl⟩, Nat.le_of_ble_eq_true rfl, Nat.le_refl _, Nat.le_refl _⟩ rfl dX11_point_35 (fun z_35 h_35 => ?_)
          have h_35 : crd u i_2 i what z_35 ∧ wRg z_35 := h_35
          exact W.iret SS.1 SS.2.1 hr (fun t0 ht hW => ⟨_, rfl, ⟨z_35, rfl, (by first | exact ⟨Or.inl ⟨fun q => by unfold ptP at q; omega, rfl⟩, by unfold wRg; omega⟩ | exact ⟨Or.inr ⟨by unfold ptP; omega, by rw [show s.toNat = i_2 by omega]; exact h_35.1⟩, h_35.2⟩)⟩, ht⟩) (fun _ h => nomatch h) dX11_point_38 hlk
        · skip
          refine j_ldc SS (-1000000) kw_512 dX11_point_25 ?_
          exact W.iret SS.1 SS.2.1 hr (fun t0 ht hW => ⟨_, rfl, ⟨(-1000000), rfl, (by first | exact ⟨Or.inl ⟨fun q => by unfold ptP at q; omega, rfl⟩, by unfold wRg; omega⟩ | exact ⟨Or.inr ⟨by unfold ptP; omega, by rw [show s.toNat = i_2 by omega]; exact h_35.1⟩, h_35.2⟩)⟩, ht⟩) (fun _ h => nomatch h) dX11_point_27 hlk
  · skip
    refine lv_astoreN (lv' := [(4, .null), (0, .ref (q 0)), (1, .int (J s)), (2, .int (J i)), (3, .int (J what))]) SS.1 SS.2.1 dX11_point_5 hl (by decide) rfl (fun ls hl => ?_)
    refine lv_aloadN SS.1 SS.2.1 dX11_point_7 (lv_at hl 0 rfl) ?_
    refine lv_ifnullN SS.1 SS.2.1 (tgt := 25) dX11_point_9 (by decide) ?_
    refine j_ldc SS (-1000000) kw_512 dX11_point_25 ?_
    exact W.iret SS.1 SS.2.1 hr (fun t0 ht hW => ⟨_, rfl, ⟨(-1000000), rfl, (by first | exact ⟨Or.inl ⟨fun q => by unfold ptP at q; omega, rfl⟩, by unfold wRg; omega⟩ | exact ⟨Or.inr ⟨by unfold ptP; omega, by rw [show s.toNat = i_2 by omega]; exact h_35.1⟩, h_35.2⟩)⟩, ht⟩) (fun _ h => nomatch h) dX11_point_27 hlk
