
set_option maxHeartbeats 4000000 in
set_option maxRecDepth 100000 in
theorem c_X5_noteCrossed (l : Launch) (D : JD) (q : Nat → Nat) (u : CS) (A : Nat → Prop) (hD : va_D A (cW D q u)) (s : Int) (p0 : RB 40 u 9) (p1 : -2147483648 ≤ s ∧ s ≤ 2147483647) (p2 : ∀ k : Nat, 0 ≤ u.2.1 2 k ∧ u.2.1 2 k ≤ 12) (p3 : ∀ k : Nat, 0 ≤ u.2.1 3 k ∧ u.2.1 3 k ≤ 12) (p4 : 0 ≤ u.2.2.2 20 ∧ u.2.2.2 20 ≤ 63) : Met l yX5_noteCrossed (jw yX5_noteCrossed cX5_noteCrossed 3 none) (jr 3 68) (jP [.ref (q 66), .int (J s)] D (fun H => va_P D.1 j_cl (cW D q u) H)) (jWv (fun u' => ∃ w : Nat → Int64, u' = (sL u 3 w) ∧ (True)) (fun u' H => va_P D.1 j_cl (cW D q u') H) A) 0 0 A := by
  refine Met.ofW (cc := cX5_noteCrossed) (maxL := 3) (ret := none) (by decide) rfl ?_
  intro pr en st mi args below meth co s₁ B hml hv
  obtain ⟨rfl, hG, hP⟩ := hv
  have hr := B.returns
  have hlk := B.notSynchronized
  have SS : jS pr mi co cX5_noteCrossed 3 st _ RX5 := ⟨B.exec, B.bytes, hml, findClass_of_methodNamed B.named, fun w hw => atoms_spec (ws := (jw yX5_noteCrossed cX5_noteCrossed 3 none)) B.pre w (List.mem_cons_of_mem _ hw)⟩
  have hl := lv_entry ([.ref (q 66), .int (J s)]) (n := 3) (Nat.le_of_ble_eq_true rfl)
  rw [lg_entry_eq]
  generalize (lg_sl ([.ref (q 66), .int (J s)]) ++ List.replicate (3 - (lg_sl ([.ref (q 66), .int (J s)])).length) Slot.unset).toArray = ls at hl ⊢
  have hl : lv_has ls 3 [(0, .ref (q 66)), (1, .int (J s))] := hl
  have hS : va_S A st.heap st.heap [] := va_S.rf
  refine lv_iload_n SS.1 SS.2.1 dX5_noteCrossed_0 rfl (lv_at hl 1 rfl) ?_
  refine j_if_lt SS (tgt := 10) (x := s) dX5_noteCrossed_1 (by decide) (by omega) (fun c_1 => ?_) (fun c_1 => ?_)
  · skip
    exact W.vret SS.1 SS.2.1 hr (fun t0 ht hW => ⟨⟨(sL u 3 (u.2.2.1 3)), rfl, (⟨(u.2.2.1 3), rfl, trivial⟩), by show va_P D.1 j_cl (cW D q (sL u 3 (u.2.2.1 3))) t0.heap; rw [ht]; first | exact hP | (simp only [sC_id, sX_id, sY_id, sH_id, sT_id, sV_id]; exact hP)⟩, hS.F ht⟩) hS.2.2 dX5_noteCrossed_10 hlk
  · skip
    refine lv_iload_n SS.1 SS.2.1 dX5_noteCrossed_4 rfl (lv_at hl 1 rfl) ?_
    refine j_bipush SS dX5_noteCrossed_5 (by decide +kernel) ?_
    refine j_icmp_lt SS (tgt := 11) (x := s) (y := 63) dX5_noteCrossed_7 (by decide) (by omega) (by decide) (fun c_7 => ?_) (fun c_7 => ?_)
    · skip
      refine lv_aload_n SS.1 SS.2.1 dX5_noteCrossed_11 rfl (lv_at hl 0 rfl) ?_
      refine j_get SS hG hP 66 (v := .ref (q 70)) (C := RX5) (T := TX5) (N := 9) rfl rfl inX5 3 (by decide) (ref := "GridPolygons$Mesh") kw_313 rfl rfl dX5_noteCrossed_12 ?_
      refine lv_iload_n SS.1 SS.2.1 dX5_noteCrossed_15 rfl (lv_at hl 1 rfl) ?_
      refine lv_lconst (v := 0) SS.1 SS.2.1 dX5_noteCrossed_16 (by decide +kernel) ?_
      refine j_last SS hG hP (cW_D hD) hS 70 (n := 63) (f := (u.2.2.1 3)) rfl (z := s) (v := 0) (by omega) (by omega) dX5_noteCrossed_17 (ws' := (cW D q (sL u 3 (vp_updL (u.2.2.1 3) (s).toNat 0)))) rfl (fun H locs hP hS => ?_)
      refine j_iconst SS dX5_noteCrossed_18 ?_
      refine lv_istore_n (lv' := [(2, .int (J 0)), (0, .ref (q 66)), (1, .int (J s))]) SS.1 SS.2.1 dX5_noteCrossed_19 rfl hl (by decide) rfl (fun ls hl => ?_)
      have L_20 : ∀ (nn : Nat) (t : Int) (w1 : Nat → Int64) (H : Heap) (locs : List Loc) (hP : va_P D.1 j_cl (cW D q (sL u 3 w1)) H) (hS : va_S A st.heap H locs) (ls : Array Slot) (hl : lv_has ls 3 [(0, .ref (q 66)), (1, .int (J s)), (2, .int (J t))]) (i20_0 : 0 ≤ t ∧ t ≤ 63), ((63 : Int) - t).toNat < nn → W pr l en (headSpec (jw yX5_noteCrossed cX5_noteCrossed 3 none) (jr 3 68)).room st mi (([.ref (q 66), .int (J s)] : List Value).toArray) below meth co H locs 0 0 (MQ below (jWv (fun u' => ∃ w : Nat → Int64, u' = (sL u 3 w) ∧ (True)) (fun u' H => va_P D.1 j_cl (cW D q u') H) A) (([.ref (q 66), .int (J s)] : List Value).toArray) st 0 0 A) (F0 mi 20 ls []) := by
        intro nn
        induction nn with
        | zero => intros; omega
        | succ nn ih_20 =>
          intro t w1 H locs hP hS ls hl i20_0 hm
          refine lv_iload_n SS.1 SS.2.1 dX5_noteCrossed_20 rfl (lv_at hl 2 rfl) ?_
          refine lv_aload_n SS.1 SS.2.1 dX5_noteCrossed_21 rfl (lv_at hl 0 rfl) ?_
          refine j_get SS hG hP 66 (v := .int (J (u.2.2.2 20))) (C := RX5) (T := TX5) (N := 9) rfl rfl inX5 5 (by decide) (ref := "GridPolygons$Mesh") kw_315 rfl rfl dX5_noteCrossed_22 ?_
          refine j_icmp_ge SS (tgt := 83) (x := t) (y := (u.2.2.2 20)) dX5_noteCrossed_25 (by decide) (by omega) (by omega) (fun c_25 => ?_) (fun c_25 => ?_)
          · skip
            exact W.vret SS.1 SS.2.1 hr (fun t0 ht hW => ⟨⟨(sL u 3 w1), rfl, (⟨w1, rfl, trivial⟩), by show va_P D.1 j_cl (cW D q (sL u 3 w1)) t0.heap; rw [ht]; first | exact hP | (simp only [sC_id, sX_id, sY_id, sH_id, sT_id, sV_id]; exact hP)⟩, hS.F ht⟩) hS.2.2 dX5_noteCrossed_83 hlk
          · skip
            refine lv_iload_n SS.1 SS.2.1 dX5_noteCrossed_28 rfl (lv_at hl 2 rfl) ?_
            refine j_bipush SS dX5_noteCrossed_29 (by decide +kernel) ?_
            refine j_icmp_ge SS (tgt := 83) (x := t) (y := 63) dX5_noteCrossed_31 (by decide) (by omega) (by decide) (fun c_31 => ?_) (fun c_31 => ?_)
            · skip
              exact W.vret SS.1 SS.2.1 hr (fun t0 ht hW => ⟨⟨(sL u 3 w1), rfl, (⟨w1, rfl, trivial⟩), by show va_P D.1 j_cl (cW D q (sL u 3 w1)) t0.heap; rw [ht]; first | exact hP | (simp only [sC_id, sX_id, sY_id, sH_id, sT_id, sV_id]; exact hP)⟩, hS.F ht⟩) hS.2.2 dX5_noteCrossed_83 hlk
            · skip
              refine lv_aload_n SS.1 SS.2.1 dX5_noteCrossed_34 rfl (lv_at hl 0 rfl) ?_
              refine lv_aload_n SS.1 SS.2.1 dX5_noteCrossed_35 rfl (lv_at hl 0 rfl) ?_
              refine j_get SS hG hP 66 (v := .ref (q 53)) (C := RX5) (T := TX5) (N := 9) rfl rfl inX5 1 (by decide) (ref := "GridPolygons$Mesh") kw_311 rfl rfl dX5_noteCrossed_36 ?_
              refine lv_iload_n SS.1 SS.2.1 dX5_noteCrossed_39 rfl (lv_at hl 1 rfl) ?_
              refine j_iald SS hG hP 53 (n := 63) (f := (u.2.1 2)) rfl (z := s) (by omega) (by omega) dX5_noteCrossed_40 ?_
              refine lv_aload_n SS.1 SS.2.1 dX5_noteCrossed_41 rfl (lv_at hl 0 rfl) ?_
              refine j_get SS hG hP 66 (v := .ref (q 57)) (C := RX5) (T := TX5) (N := 9) rfl rfl inX5 2 (by decide) (ref := "GridPolygons$Mesh") kw_312 rfl rfl dX5_noteCrossed_42 ?_
              refine lv_iload_n SS.1 SS.2.1 dX5_noteCrossed_45 rfl (lv_at hl 1 rfl) ?_
              refine j_iald SS hG hP 57 (n := 63) (f := (u.2.1 3)) rfl (z := s) (by omega) (by omega) dX5_noteCrossed_46 ?_
              refine lv_aload_n SS.1 SS.2.1 dX5_noteCrossed_47 rfl (lv_at hl 0 rfl) ?_
              refine j_get SS hG hP 66 (v := .ref (q 53)) (C := RX5) (T := TX5) (N := 9) rfl rfl inX5 1 (by decide) (ref := "GridPolygons$Mesh") kw_311 rfl rfl dX5_noteCrossed_48 ?_
              refine lv_iload_n SS.1 SS.2.1 dX5_noteCrossed_51 rfl (lv_at hl 2 rfl) ?_
              refine j_iald SS hG hP 53 (n := 63) (f := (u.2.1 2)) rfl (z := t) (by omega) (by omega) dX5_noteCrossed_52 ?_
              refine lv_aload_n SS.1 SS.2.1 dX5_noteCrossed_53 rfl (lv_at hl 0 rfl) ?_
              refine j_get SS hG hP 66 (v := .ref (q 57)) (C := RX5) (T := TX5) (N := 9) rfl rfl inX5 2 (by decide) (ref := "GridPolygons$Mesh") kw_312 rfl rfl dX5_noteCrossed_54 ?_
              refine lv_iload_n SS.1 SS.2.1 dX5_noteCrossed_57 rfl (lv_at hl 2 rfl) ?_
              refine j_iald SS hG hP 57 (n := 63) (f := (u.2.1 3)) rfl (z := t) (by omega) (by omega) dX5_noteCrossed_58 ?_
              have l1 := p2 s.toNat
              have l2 := p3 s.toNat
              have l3 := p2 t.toNat
              have l4 := p3 t.toNat
              refine j_vRi SS (As := [.int (J ((u.2.1 2) (s).toNat)), .int (J ((u.2.1 3) (s).toNat)), .int (J ((u.2.1 2) (t).toNat)), .int (J ((u.2.1 3) (t).toNat))]) (rest := []) (c_X5_cross l D q (sL u 3 w1)  ((u.2.1 2) (s).toNat) ((u.2.1 3) (s).toNat) ((u.2.1 2) (t).toNat) ((u.2.1 3) (t).toNat) (show RB 40 (sL u 3 w1) 9 from (p0)) (show -2147483648 ≤ ((u.2.1 2) (s).toNat) ∧ ((u.2.1 2) (s).toNat) ≤ 2147483647 from (by omega)) (show -2147483648 ≤ ((u.2.1 3) (s).toNat) ∧ ((u.2.1 3) (s).toNat) ≤ 2147483647 from (by omega)) (show -2147483648 ≤ ((u.2.1 2) (t).toNat) ∧ ((u.2.1 2) (t).toNat) ≤ 2147483647 from (by omega)) (show -2147483648 ≤ ((u.2.1 3) (t).toNat) ∧ ((u.2.1 3) (t).toNat) ≤ 2147483647 from (by omega))) mf_X5_cross kw_900 hG hP hP (ci := 5) (q0 := 66) rfl rfl rfl rfl hl.1 ⟨⟨Nat.le_of_ble_eq_true rfl, Nat.le_of_ble_eq_true rfl⟩, Nat.le_of_ble_eq_true rfl, Nat.le_refl _, Nat.le_refl _⟩ rfl dX5_noteCrossed_59 (fun z_59 h_59 => ?_)
              have h_59 : z_59 = 0 ∨ z_59 = 1 := h_59
              refine j_if_eq SS (tgt := 77) (x := z_59) dX5_noteCrossed_62 (by decide) (by omega) (fun c_62 => ?_) (fun c_62 => ?_)
              · skip
                refine lv_iinc (v := J (t + 1)) (lv' := [(2, .int (J (t + 1))), (0, .ref (q 66)), (1, .int (J s))]) SS.1 SS.2.1 dX5_noteCrossed_77 hl (k := 2) rfl (J_add _ _) (by decide) rfl (fun ls hl => ?_)
                refine lv_goto (tgt := 20) SS.1 SS.2.1 dX5_noteCrossed_80 (by decide) ?_
                exact ih_20 (t + 1) w1 _ _ hP hS ls (lv_sub hl [1, 2, 0] rfl) (by omega) (by omega)
              · skip
                refine lv_aload_n SS.1 SS.2.1 dX5_noteCrossed_65 rfl (lv_at hl 0 rfl) ?_
                refine j_get SS hG hP 66 (v := .ref (q 70)) (C := RX5) (T := TX5) (N := 9) rfl rfl inX5 3 (by decide) (ref := "GridPolygons$Mesh") kw_313 rfl rfl dX5_noteCrossed_66 ?_
                refine lv_iload_n SS.1 SS.2.1 dX5_noteCrossed_69 rfl (lv_at hl 1 rfl) ?_
                refine lv_dup2_11 SS.1 SS.2.1 dX5_noteCrossed_70 rfl rfl ?_
                refine j_lald SS hG hP 70 (n := 63) (f := w1) rfl (z := s) (by omega) (by omega) dX5_noteCrossed_71 ?_
                refine lv_lconst (v := 1) SS.1 SS.2.1 dX5_noteCrossed_72 (by decide +kernel) ?_
                refine lv_iload_n SS.1 SS.2.1 dX5_noteCrossed_73 rfl (lv_at hl 2 rfl) ?_
                refine lv_lshl SS.1 SS.2.1 dX5_noteCrossed_74 rfl (lv_topl (fun x_74 ex_74 => ?_))
                refine lv_lor SS.1 SS.2.1 dX5_noteCrossed_75 ?_
                refine j_last SS hG hP (cW_D hD) hS 70 (n := 63) (f := w1) rfl (z := s) (v := ((w1 (s).toNat) ||| x_74)) (by omega) (by omega) dX5_noteCrossed_76 (ws' := (cW D q (sL u 3 (vp_updL w1 (s).toNat ((w1 (s).toNat) ||| x_74))))) rfl (fun H locs hP hS => ?_)
                refine lv_iinc (v := J (t + 1)) (lv' := [(2, .int (J (t + 1))), (0, .ref (q 66)), (1, .int (J s))]) SS.1 SS.2.1 dX5_noteCrossed_77 hl (k := 2) rfl (J_add _ _) (by decide) rfl (fun ls hl => ?_)
                refine lv_goto (tgt := 20) SS.1 SS.2.1 dX5_noteCrossed_80 (by decide) ?_
                exact ih_20 (t + 1) (vp_updL w1 (s).toNat ((w1 (s).toNat) ||| x_74)) _ _ hP hS ls (lv_sub hl [1, 2, 0] rfl) (by omega) (by omega)
      exact L_20 (((63 : Int) - (0 : Int)).toNat + 1) 0 (vp_updL (u.2.2.1 3) (s).toNat 0) _ _ hP hS ls (lv_sub hl [1, 2, 0] rfl) (by omega) (Nat.lt_succ_self _)
    · skip
      exact W.vret SS.1 SS.2.1 hr (fun t0 ht hW => ⟨⟨(sL u 3 (u.2.2.1 3)), rfl, (⟨(u.2.2.1 3), rfl, trivial⟩), by show va_P D.1 j_cl (cW D q (sL u 3 (u.2.2.1 3))) t0.heap; rw [ht]; first | exact hP | (simp only [sC_id, sX_id, sY_id, sH_id, sT_id, sV_id]; exact hP)⟩, hS.F ht⟩) hS.2.2 dX5_noteCrossed_10 hlk

set_option maxHeartbeats 4000000 in
set_option maxRecDepth 100000 in
theorem c_X5_noteFlip (l : Launch) (D : JD) (q : Nat → Nat) (u : CS) (A : Nat → Prop) (hD : va_D A (cW D q u)) (a : Int) (b : Int) (c : Int) (d : Int) (p0 : 0 ≤ a ∧ a ≤ 12) (p1 : 0 ≤ b ∧ b ≤ 12) (p2 : 0 ≤ c ∧ c ≤ 12) (p3 : 0 ≤ d ∧ d ≤ 12) (p4 : ∀ k : Nat, -1 ≤ u.2.1 4 k ∧ u.2.1 4 k ≤ 63) (p5 : 0 ≤ u.2.2.2 21 ∧ u.2.2.2 21 ≤ 756) : Met l yX5_noteFlip (jw yX5_noteFlip cX5_noteFlip 11 none) (jr 2 44) (jP [.ref (q 66), .int (J a), .int (J b), .int (J c), .int (J d)] D (fun H => va_P D.1 j_cl (cW D q u) H)) (jWv (fun u' => ∃ w1 : Nat → Int64, ∃ w2 : Nat → Int64, ∃ n : Int, u' = (sV (sL (sL u 4 w1) 5 w2) 21 n) ∧ (0 ≤ n ∧ n ≤ 756)) (fun u' H => va_P D.1 j_cl (cW D q u') H) A) 0 0 A := by
  refine Met.ofW (cc := cX5_noteFlip) (maxL := 11) (ret := none) (by decide) rfl ?_
  intro pr en st mi args below meth co s₁ B hml hv
  obtain ⟨rfl, hG, hP⟩ := hv
  have hr := B.returns
  have hlk := B.notSynchronized
  have SS : jS pr mi co cX5_noteFlip 11 st _ RX5 := ⟨B.exec, B.bytes, hml, findClass_of_methodNamed B.named, fun w hw => atoms_spec (ws := (jw yX5_noteFlip cX5_noteFlip 11 none)) B.pre w (List.mem_cons_of_mem _ hw)⟩
  have hl := lv_entry ([.ref (q 66), .int (J a), .int (J b), .int (J c), .int (J d)]) (n := 11) (Nat.le_of_ble_eq_true rfl)
  rw [lg_entry_eq]
  generalize (lg_sl ([.ref (q 66), .int (J a), .int (J b), .int (J c), .int (J d)]) ++ List.replicate (11 - (lg_sl ([.ref (q 66), .int (J a), .int (J b), .int (J c), .int (J d)])).length) Slot.unset).toArray = ls at hl ⊢
  have hl : lv_has ls 11 [(0, .ref (q 66)), (1, .int (J a)), (2, .int (J b)), (3, .int (J c)), (4, .int (J d))] := hl
  have hS : va_S A st.heap st.heap [] := va_S.rf
  refine lv_aload_n SS.1 SS.2.1 dX5_noteFlip_0 rfl (lv_at hl 0 rfl) ?_
  refine lv_iload_n SS.1 SS.2.1 dX5_noteFlip_1 rfl (lv_at hl 1 rfl) ?_
  refine lv_iload_n SS.1 SS.2.1 dX5_noteFlip_2 rfl (lv_at hl 2 rfl) ?_
  refine j_vRi SS (As := [.int (J a), .int (J b)]) (rest := []) (c_X5_number l D q u  a b (show 0 ≤ a ∧ a ≤ 12 from (by omega)) (show 0 ≤ b ∧ b ≤ 12 from (by omega)) (show ∀ k : Nat, -1 ≤ (u.2.1 4) k ∧ (u.2.1 4) k ≤ 63 from (p4))) mf_X5_number kw_922 hG hP hP (ci := 5) (q0 := 66) rfl rfl rfl rfl hl.1 ⟨⟨Nat.le_of_ble_eq_true rfl, Nat.le_of_ble_eq_true rfl⟩, Nat.le_of_ble_eq_true rfl, Nat.le_refl _, Nat.le_refl _⟩ rfl dX5_noteFlip_3 (fun z_3 h_3 => ?_)
  have h_3 : -1 ≤ z_3 ∧ z_3 ≤ 63 := h_3
  refine lv_istore (lv' := [(5, .int (J z_3)), (0, .ref (q 66)), (1, .int (J a)), (2, .int (J b)), (3, .int (J c)), (4, .int (J d))]) SS.1 SS.2.1 dX5_noteFlip_6 hl (by decide) rfl (fun ls hl => ?_)
  refine lv_aload_n SS.1 SS.2.1 dX5_noteFlip_8 rfl (lv_at hl 1 rfl) ?_
  refine lv_iload_n SS.1 SS.2.1 dX5_noteFlip_9 rfl (lv_at hl 4 rfl) ?_
  refine lv_iload SS.1 SS.2.1 dX5_noteFlip_10 (lv_at hl 5 rfl) ?_
  refine j_vRi SS (As := [.int (J c), .int (J d)]) (rest := []) (c_X5_number l D q u  c d (show 0 ≤ c ∧ c ≤ 12 from (by omega)) (show 0 ≤ d ∧ d ≤ 12 from (by omega)) (show ∀ k : Nat, -1 ≤ (u.2.1 4) k ∧ (u.2.1 4) k ≤ 63 from (p4))) mf_X5_number kw_922 hG hP hP (ci := 5) (q0 := 66) rfl rfl rfl rfl hl.1 ⟨⟨Nat.le_of_ble_eq_true rfl, Nat.le_of_ble_eq_true rfl⟩, Nat.le_of_ble_eq_true rfl, Nat.le_refl _, Nat.le_refl _⟩ rfl dX5_noteFlip_12 (fun z_12 h_12 => ?_)
  have h_12 : -1 ≤ z_12 ∧ z_12 ≤ 63 := h_12
  refine lv_istore (lv' := [(6, .int (J z_12)), (5, .int (J z_3)), (0, .ref (q 66)), (1, .int (J a)), (2, .int (J b)), (3, .int (J c)), (4, .int (J d))]) SS.1 SS.2.1 dX5_noteFlip_15 hl (by decide) rfl (fun ls hl => ?_)
  refine lv_aload_n SS.1 SS.2.1 dX5_noteFlip_17 rfl (lv_at hl 2 rfl) ?_
  refine lv_iload_n SS.1 SS.2.1 dX5_noteFlip_18 rfl (lv_at hl 3 rfl) ?_
  refine lv_iload_n SS.1 SS.2.1 dX5_noteFlip_19 rfl (lv_at hl 5 rfl) ?_
  refine j_vRi SS (As := [.int (J a), .int (J c)]) (rest := []) (c_X5_number l D q u  a c (show 0 ≤ a ∧ a ≤ 12 from (by omega)) (show 0 ≤ c ∧ c ≤ 12 from (by omega)) (show ∀ k : Nat, -1 ≤ (u.2.1 4) k ∧ (u.2.1 4) k ≤ 63 from (p4))) mf_X5_number kw_922 hG hP hP (ci := 5) (q0 := 66) rfl rfl rfl rfl hl.1 ⟨⟨Nat.le_of_ble_eq_true rfl, Nat.le_of_ble_eq_true rfl⟩, Nat.le_of_ble_eq_true rfl, Nat.le_refl _, Nat.le_refl _⟩ rfl dX5_noteFlip_20 (fun z_20 h_20 => ?_)
  have h_20 : -1 ≤ z_20 ∧ z_20 ≤ 63 := h_20
  refine lv_istore (lv' := [(7, .int (J z_20)), (6, .int (J z_12)), (5, .int (J z_3)), (0, .ref (q 66)), (1, .int (J a)), (2, .int (J b)), (3, .int (J c)), (4, .int (J d))]) SS.1 SS.2.1 dX5_noteFlip_23 hl (by decide) rfl (fun ls hl => ?_)
  refine lv_aload_n SS.1 SS.2.1 dX5_noteFlip_25 rfl (lv_at hl 3 rfl) ?_
  refine lv_iload_n SS.1 SS.2.1 dX5_noteFlip_26 rfl (lv_at hl 5 rfl) ?_
  refine lv_iload_n SS.1 SS.2.1 dX5_noteFlip_27 rfl (lv_at hl 6 rfl) ?_
  refine j_vRi SS (As := [.int (J b), .int (J c)]) (rest := []) (c_X5_number l D q u  b c (show 0 ≤ b ∧ b ≤ 12 from (by omega)) (show 0 ≤ c ∧ c ≤ 12 from (by omega)) (show ∀ k : Nat, -1 ≤ (u.2.1 4) k ∧ (u.2.1 4) k ≤ 63 from (p4))) mf_X5_number kw_922 hG hP hP (ci := 5) (q0 := 66) rfl rfl rfl rfl hl.1 ⟨⟨Nat.le_of_ble_eq_true rfl, Nat.le_of_ble_eq_true rfl⟩, Nat.le_of_ble_eq_true rfl, Nat.le_refl _, Nat.le_refl _⟩ rfl dX5_noteFlip_28 (fun z_28 h_28 => ?_)
  have h_28 : -1 ≤ z_28 ∧ z_28 ≤ 63 := h_28
  refine lv_istore (lv' := [(8, .int (J z_28)), (7, .int (J z_20)), (6, .int (J z_12)), (5, .int (J z_3)), (0, .ref (q 66)), (1, .int (J a)), (2, .int (J b)), (3, .int (J c)), (4, .int (J d))]) SS.1 SS.2.1 dX5_noteFlip_31 hl (by decide) rfl (fun ls hl => ?_)
  refine lv_aload_n SS.1 SS.2.1 dX5_noteFlip_33 rfl (lv_at hl 4 rfl) ?_
  refine lv_iload_n SS.1 SS.2.1 dX5_noteFlip_34 rfl (lv_at hl 5 rfl) ?_
  refine lv_iload SS.1 SS.2.1 dX5_noteFlip_35 (lv_at hl 8 rfl) ?_
  refine j_vRi SS (As := [.int (J a), .int (J d)]) (rest := []) (c_X5_number l D q u  a d (show 0 ≤ a ∧ a ≤ 12 from (by omega)) (show 0 ≤ d ∧ d ≤ 12 from (by omega)) (show ∀ k : Nat, -1 ≤ (u.2.1 4) k ∧ (u.2.1 4) k ≤ 63 from (p4))) mf_X5_number kw_922 hG hP hP (ci := 5) (q0 := 66) rfl rfl rfl rfl hl.1 ⟨⟨Nat.le_of_ble_eq_true rfl, Nat.le_of_ble_eq_true rfl⟩, Nat.le_of_ble_eq_true rfl, Nat.le_refl _, Nat.le_refl _⟩ rfl dX5_noteFlip_37 (fun z_37 h_37 => ?_)
  have h_37 : -1 ≤ z_37 ∧ z_37 ≤ 63 := h_37
  refine lv_istore (lv' := [(9, .int (J z_37)), (8, .int (J z_28)), (7, .int (J z_20)), (6, .int (J z_12)), (5, .int (J z_3)), (0, .ref (q 66)), (1, .int (J a)), (2, .int (J b)), (3, .int (J c)), (4, .int (J d))]) SS.1 SS.2.1 dX5_noteFlip_40 hl (by decide) rfl (fun ls hl => ?_)
  refine lv_aload_n SS.1 SS.2.1 dX5_noteFlip_42 rfl (lv_at hl 5 rfl) ?_
  refine lv_iload_n SS.1 SS.2.1 dX5_noteFlip_43 rfl (lv_at hl 7 rfl) ?_
  refine lv_iload SS.1 SS.2.1 dX5_noteFlip_44 (lv_at hl 9 rfl) ?_
  refine j_vRi SS (As := [.int (J b), .int (J d)]) (rest := []) (c_X5_number l D q u  b d (show 0 ≤ b ∧ b ≤ 12 from (by omega)) (show 0 ≤ d ∧ d ≤ 12 from (by omega)) (show ∀ k : Nat, -1 ≤ (u.2.1 4) k ∧ (u.2.1 4) k ≤ 63 from (p4))) mf_X5_number kw_922 hG hP hP (ci := 5) (q0 := 66) rfl rfl rfl rfl hl.1 ⟨⟨Nat.le_of_ble_eq_true rfl, Nat.le_of_ble_eq_true rfl⟩, Nat.le_of_ble_eq_true rfl, Nat.le_refl _, Nat.le_refl _⟩ rfl dX5_noteFlip_46 (fun z_46 h_46 => ?_)
  have h_46 : -1 ≤ z_46 ∧ z_46 ≤ 63 := h_46
  refine lv_istore (lv' := [(10, .int (J z_46)), (9, .int (J z_37)), (8, .int (J z_28)), (7, .int (J z_20)), (6, .int (J z_12)), (5, .int (J z_3)), (0, .ref (q 66)), (1, .int (J a)), (2, .int (J b)), (3, .int (J c)), (4, .int (J d))]) SS.1 SS.2.1 dX5_noteFlip_49 hl (by decide) rfl (fun ls hl => ?_)
  refine lv_iload SS.1 SS.2.1 dX5_noteFlip_51 (lv_at hl 5 rfl) ?_
  refine j_if_lt SS (tgt := 91) (x := z_3) dX5_noteFlip_53 (by decide) (by omega) (fun c_53 => ?_) (fun c_53 => ?_)
  · skip
    exact W.vret SS.1 SS.2.1 hr (fun t0 ht hW => ⟨⟨(sV (sL (sL u 4 (u.2.2.1 4)) 5 (u.2.2.1 5)) 21 (u.2.2.2 21)), rfl, (⟨(u.2.2.1 4), (u.2.2.1 5), (u.2.2.2 21), rfl, by omega⟩), by show va_P D.1 j_cl (cW D q (sV (sL (sL u 4 (u.2.2.1 4)) 5 (u.2.2.1 5)) 21 (u.2.2.2 21))) t0.heap; rw [ht]; first | exact hP | (simp only [sC_id, sX_id, sY_id, sH_id, sT_id, sV_id]; exact hP)⟩, hS.F ht⟩) hS.2.2 dX5_noteFlip_91 hlk
  · skip
    refine lv_iload SS.1 SS.2.1 dX5_noteFlip_56 (lv_at hl 4 rfl) ?_
    refine j_if_lt SS (tgt := 91) (x := z_12) dX5_noteFlip_58 (by decide) (by omega) (fun c_58 => ?_) (fun c_58 => ?_)
    · skip
      exact W.vret SS.1 SS.2.1 hr (fun t0 ht hW => ⟨⟨(sV (sL (sL u 4 (u.2.2.1 4)) 5 (u.2.2.1 5)) 21 (u.2.2.2 21)), rfl, (⟨(u.2.2.1 4), (u.2.2.1 5), (u.2.2.2 21), rfl, by omega⟩), by show va_P D.1 j_cl (cW D q (sV (sL (sL u 4 (u.2.2.1 4)) 5 (u.2.2.1 5)) 21 (u.2.2.2 21))) t0.heap; rw [ht]; first | exact hP | (simp only [sC_id, sX_id, sY_id, sH_id, sT_id, sV_id]; exact hP)⟩, hS.F ht⟩) hS.2.2 dX5_noteFlip_91 hlk
    · skip
      refine lv_iload SS.1 SS.2.1 dX5_noteFlip_61 (lv_at hl 3 rfl) ?_
      refine j_if_lt SS (tgt := 91) (x := z_20) dX5_noteFlip_63 (by decide) (by omega) (fun c_63 => ?_) (fun c_63 => ?_)
      · skip
        exact W.vret SS.1 SS.2.1 hr (fun t0 ht hW => ⟨⟨(sV (sL (sL u 4 (u.2.2.1 4)) 5 (u.2.2.1 5)) 21 (u.2.2.2 21)), rfl, (⟨(u.2.2.1 4), (u.2.2.1 5), (u.2.2.2 21), rfl, by omega⟩), by show va_P D.1 j_cl (cW D q (sV (sL (sL u 4 (u.2.2.1 4)) 5 (u.2.2.1 5)) 21 (u.2.2.2 21))) t0.heap; rw [ht]; first | exact hP | (simp only [sC_id, sX_id, sY_id, sH_id, sT_id, sV_id]; exact hP)⟩, hS.F ht⟩) hS.2.2 dX5_noteFlip_91 hlk
      · skip
        refine lv_iload SS.1 SS.2.1 dX5_noteFlip_66 (lv_at hl 2 rfl) ?_
        refine j_if_lt SS (tgt := 91) (x := z_28) dX5_noteFlip_68 (by decide) (by omega) (fun c_68 => ?_) (fun c_68 => ?_)
        · skip
          exact W.vret SS.1 SS.2.1 hr (fun t0 ht hW => ⟨⟨(sV (sL (sL u 4 (u.2.2.1 4)) 5 (u.2.2.1 5)) 21 (u.2.2.2 21)), rfl, (⟨(u.2.2.1 4), (u.2.2.1 5), (u.2.2.2 21), rfl, by omega⟩), by show va_P D.1 j_cl (cW D q (sV (sL (sL u 4 (u.2.2.1 4)) 5 (u.2.2.1 5)) 21 (u.2.2.2 21))) t0.heap; rw [ht]; first | exact hP | (simp only [sC_id, sX_id, sY_id, sH_id, sT_id, sV_id]; exact hP)⟩, hS.F ht⟩) hS.2.2 dX5_noteFlip_91 hlk
        · skip
          refine lv_iload SS.1 SS.2.1 dX5_noteFlip_71 (lv_at hl 1 rfl) ?_
          refine j_if_lt SS (tgt := 91) (x := z_37) dX5_noteFlip_73 (by decide) (by omega) (fun c_73 => ?_) (fun c_73 => ?_)
          · skip
            exact W.vret SS.1 SS.2.1 hr (fun t0 ht hW => ⟨⟨(sV (sL (sL u 4 (u.2.2.1 4)) 5 (u.2.2.1 5)) 21 (u.2.2.2 21)), rfl, (⟨(u.2.2.1 4), (u.2.2.1 5), (u.2.2.2 21), rfl, by omega⟩), by show va_P D.1 j_cl (cW D q (sV (sL (sL u 4 (u.2.2.1 4)) 5 (u.2.2.1 5)) 21 (u.2.2.2 21))) t0.heap; rw [ht]; first | exact hP | (simp only [sC_id, sX_id, sY_id, sH_id, sT_id, sV_id]; exact hP)⟩, hS.F ht⟩) hS.2.2 dX5_noteFlip_91 hlk
          · skip
            refine lv_iload SS.1 SS.2.1 dX5_noteFlip_76 (lv_at hl 0 rfl) ?_
            refine j_if_lt SS (tgt := 91) (x := z_46) dX5_noteFlip_78 (by decide) (by omega) (fun c_78 => ?_) (fun c_78 => ?_)
            · skip
              exact W.vret SS.1 SS.2.1 hr (fun t0 ht hW => ⟨⟨(sV (sL (sL u 4 (u.2.2.1 4)) 5 (u.2.2.1 5)) 21 (u.2.2.2 21)), rfl, (⟨(u.2.2.1 4), (u.2.2.1 5), (u.2.2.2 21), rfl, by omega⟩), by show va_P D.1 j_cl (cW D q (sV (sL (sL u 4 (u.2.2.1 4)) 5 (u.2.2.1 5)) 21 (u.2.2.2 21))) t0.heap; rw [ht]; first | exact hP | (simp only [sC_id, sX_id, sY_id, sH_id, sT_id, sV_id]; exact hP)⟩, hS.F ht⟩) hS.2.2 dX5_noteFlip_91 hlk
            · skip
              refine lv_aload_n SS.1 SS.2.1 dX5_noteFlip_81 rfl (lv_at hl 6 rfl) ?_
              refine j_get SS hG hP 66 (v := .int (J (u.2.2.2 21))) (C := RX5) (T := TX5) (N := 9) rfl rfl inX5 8 (by decide) (ref := "GridPolygons$Mesh") kw_319 rfl rfl dX5_noteFlip_82 ?_
              refine j_sipush SS dX5_noteFlip_85 (by decide +kernel) ?_
              refine j_icmp_lt SS (tgt := 92) (x := (u.2.2.2 21)) (y := 756) dX5_noteFlip_88 (by decide) (by omega) (by decide) (fun c_88 => ?_) (fun c_88 => ?_)
              · skip
                refine lv_aload_n SS.1 SS.2.1 dX5_noteFlip_92 rfl (lv_at hl 6 rfl) ?_
                refine j_get SS hG hP 66 (v := .ref (q 71)) (C := RX5) (T := TX5) (N := 9) rfl rfl inX5 6 (by decide) (ref := "GridPolygons$Mesh") kw_317 rfl rfl dX5_noteFlip_93 ?_
                refine lv_aload_n SS.1 SS.2.1 dX5_noteFlip_96 rfl (lv_at hl 6 rfl) ?_
                refine j_get SS hG hP 66 (v := .int (J (u.2.2.2 21))) (C := RX5) (T := TX5) (N := 9) rfl rfl inX5 8 (by decide) (ref := "GridPolygons$Mesh") kw_319 rfl rfl dX5_noteFlip_97 ?_
                refine lv_lconst (v := 1) SS.1 SS.2.1 dX5_noteFlip_100 (by decide +kernel) ?_
                refine lv_iload SS.1 SS.2.1 dX5_noteFlip_101 (lv_at hl 5 rfl) ?_
                refine lv_lshl SS.1 SS.2.1 dX5_noteFlip_103 rfl (lv_topl (fun x_103 ex_103 => ?_))
                refine lv_lconst (v := 1) SS.1 SS.2.1 dX5_noteFlip_104 (by decide +kernel) ?_
                refine lv_iload SS.1 SS.2.1 dX5_noteFlip_105 (lv_at hl 3 rfl) ?_
                refine lv_lshl SS.1 SS.2.1 dX5_noteFlip_107 rfl (lv_topl (fun x_107 ex_107 => ?_))
                refine lv_lor SS.1 SS.2.1 dX5_noteFlip_108 ?_
                refine lv_lconst (v := 1) SS.1 SS.2.1 dX5_noteFlip_109 (by decide +kernel) ?_
                refine lv_iload SS.1 SS.2.1 dX5_noteFlip_110 (lv_at hl 2 rfl) ?_
                refine lv_lshl SS.1 SS.2.1 dX5_noteFlip_112 rfl (lv_topl (fun x_112 ex_112 => ?_))
                refine lv_lor SS.1 SS.2.1 dX5_noteFlip_113 ?_
                refine lv_lconst (v := 1) SS.1 SS.2.1 dX5_noteFlip_114 (by decide +kernel) ?_
                refine lv_iload SS.1 SS.2.1 dX5_noteFlip_115 (lv_at hl 1 rfl) ?_
                refine lv_lshl SS.1 SS.2.1 dX5_noteFlip_117 rfl (lv_topl (fun x_117 ex_117 => ?_))
                refine lv_lor SS.1 SS.2.1 dX5_noteFlip_118 ?_
                refine lv_lconst (v := 1) SS.1 SS.2.1 dX5_noteFlip_119 (by decide +kernel) ?_
                refine lv_iload SS.1 SS.2.1 dX5_noteFlip_120 (lv_at hl 0 rfl) ?_
                refine lv_lshl SS.1 SS.2.1 dX5_noteFlip_122 rfl (lv_topl (fun x_122 ex_122 => ?_))
                refine lv_lor SS.1 SS.2.1 dX5_noteFlip_123 ?_
                refine j_last SS hG hP (cW_D hD) hS 71 (n := 756) (f := (u.2.2.1 4)) rfl (z := (u.2.2.2 21)) (v := ((((x_103 ||| x_107) ||| x_112) ||| x_117) ||| x_122)) (by omega) (by omega) dX5_noteFlip_124 (ws' := (cW D q (sL u 4 (vp_updL (u.2.2.1 4) ((u.2.2.2 21)).toNat ((((x_103 ||| x_107) ||| x_112) ||| x_117) ||| x_122))))) rfl (fun H locs hP hS => ?_)
                refine lv_aload_n SS.1 SS.2.1 dX5_noteFlip_125 rfl (lv_at hl 6 rfl) ?_
                refine j_get SS hG hP 66 (v := .ref (q 72)) (C := RX5) (T := TX5) (N := 9) rfl rfl inX5 7 (by decide) (ref := "GridPolygons$Mesh") kw_318 rfl rfl dX5_noteFlip_126 ?_
                refine lv_aload_n SS.1 SS.2.1 dX5_noteFlip_129 rfl (lv_at hl 6 rfl) ?_
                refine j_get SS hG hP 66 (v := .int (J (u.2.2.2 21))) (C := RX5) (T := TX5) (N := 9) rfl rfl inX5 8 (by decide) (ref := "GridPolygons$Mesh") kw_319 rfl rfl dX5_noteFlip_130 ?_
                refine lv_lconst (v := 1) SS.1 SS.2.1 dX5_noteFlip_133 (by decide +kernel) ?_
                refine lv_iload SS.1 SS.2.1 dX5_noteFlip_134 (lv_at hl 5 rfl) ?_
                refine lv_lshl SS.1 SS.2.1 dX5_noteFlip_136 rfl (lv_topl (fun x_136 ex_136 => ?_))
                refine lv_lconst (v := 1) SS.1 SS.2.1 dX5_noteFlip_137 (by decide +kernel) ?_
                refine lv_iload SS.1 SS.2.1 dX5_noteFlip_138 (lv_at hl 4 rfl) ?_
                refine lv_lshl SS.1 SS.2.1 dX5_noteFlip_140 rfl (lv_topl (fun x_140 ex_140 => ?_))
                refine lv_lor SS.1 SS.2.1 dX5_noteFlip_141 ?_
                refine j_last SS hG hP (cW_D hD) hS 72 (n := 756) (f := (u.2.2.1 5)) rfl (z := (u.2.2.2 21)) (v := (x_136 ||| x_140)) (by omega) (by omega) dX5_noteFlip_142 (ws' := (cW D q (sL (sL u 4 (vp_updL (u.2.2.1 4) ((u.2.2.2 21)).toNat ((((x_103 ||| x_107) ||| x_112) ||| x_117) ||| x_122))) 5 (vp_updL (u.2.2.1 5) ((u.2.2.2 21)).toNat (x_136 ||| x_140))))) rfl (fun H locs hP hS => ?_)
                refine lv_aload_n SS.1 SS.2.1 dX5_noteFlip_143 rfl (lv_at hl 6 rfl) ?_
                refine lv_dup SS.1 SS.2.1 dX5_noteFlip_144 rfl ?_
                refine j_get SS hG hP 66 (v := .int (J (u.2.2.2 21))) (C := RX5) (T := TX5) (N := 9) rfl rfl inX5 8 (by decide) (ref := "GridPolygons$Mesh") kw_319 rfl rfl dX5_noteFlip_145 ?_
                refine j_iconst SS dX5_noteFlip_148 ?_
                refine j_iadd SS (x := (u.2.2.2 21)) (y := 1) dX5_noteFlip_149 ?_
                refine j_put SS hG hP (cW_D hD) hS 66 (v := .int (J ((u.2.2.2 21) + 1))) (ty := .int) (C := RX5) (T := TX5) (N := 9) rfl rfl inX5 tyX5 tyX5_ok nmX5 8 (by decide) (ref := "GridPolygons$Mesh") kw_319 rfl rfl (by decide +kernel) rfl rfl (Nat.le_of_ble_eq_true rfl) dX5_noteFlip_150 (ws' := (cW D q (sV (sL (sL u 4 (vp_updL (u.2.2.1 4) ((u.2.2.2 21)).toNat ((((x_103 ||| x_107) ||| x_112) ||| x_117) ||| x_122))) 5 (vp_updL (u.2.2.1 5) ((u.2.2.2 21)).toNat (x_136 ||| x_140))) 21 ((u.2.2.2 21) + 1)))) rfl (fun H locs hP hS => ?_)
                exact W.vret SS.1 SS.2.1 hr (fun t0 ht hW => ⟨⟨(sV (sL (sL u 4 (vp_updL (u.2.2.1 4) ((u.2.2.2 21)).toNat ((((x_103 ||| x_107) ||| x_112) ||| x_117) ||| x_122))) 5 (vp_updL (u.2.2.1 5) ((u.2.2.2 21)).toNat (x_136 ||| x_140))) 21 ((u.2.2.2 21) + 1)), rfl, (⟨(vp_updL (u.2.2.1 4) ((u.2.2.2 21)).toNat ((((x_103 ||| x_107) ||| x_112) ||| x_117) ||| x_122)), (vp_updL (u.2.2.1 5) ((u.2.2.2 21)).toNat (x_136 ||| x_140)), ((u.2.2.2 21) + 1), rfl, by omega⟩), by show va_P D.1 j_cl (cW D q (sV (sL (sL u 4 (vp_updL (u.2.2.1 4) ((u.2.2.2 21)).toNat ((((x_103 ||| x_107) ||| x_112) ||| x_117) ||| x_122))) 5 (vp_updL (u.2.2.1 5) ((u.2.2.2 21)).toNat (x_136 ||| x_140))) 21 ((u.2.2.2 21) + 1))) t0.heap; rw [ht]; first | exact hP | (simp only [sC_id, sX_id, sY_id, sH_id, sT_id, sV_id]; exact hP)⟩, hS.F ht⟩) hS.2.2 dX5_noteFlip_153 hlk
              · skip
                exact W.vret SS.1 SS.2.1 hr (fun t0 ht hW => ⟨⟨(sV (sL (sL u 4 (u.2.2.1 4)) 5 (u.2.2.1 5)) 21 (u.2.2.2 21)), rfl, (⟨(u.2.2.1 4), (u.2.2.1 5), (u.2.2.2 21), rfl, by omega⟩), by show va_P D.1 j_cl (cW D q (sV (sL (sL u 4 (u.2.2.1 4)) 5 (u.2.2.1 5)) 21 (u.2.2.2 21))) t0.heap; rw [ht]; first | exact hP | (simp only [sC_id, sX_id, sY_id, sH_id, sT_id, sV_id]; exact hP)⟩, hS.F ht⟩) hS.2.2 dX5_noteFlip_91 hlk

set_option maxHeartbeats 4000000 in
set_option maxRecDepth 100000 in
theorem c_X5_noteFlips (l : Launch) (D : JD) (q : Nat → Nat) (u : CS) (A : Nat → Prop) (hD : va_D A (cW D q u)) (s : Int) (p0 : RB 40 u 9) (p1 : -2147483648 ≤ s ∧ s ≤ 2147483647) (p2 : ∀ k : Nat, 0 ≤ u.2.1 2 k ∧ u.2.1 2 k ≤ 12) (p3 : ∀ k : Nat, 0 ≤ u.2.1 3 k ∧ u.2.1 3 k ≤ 12) (p4 : ∀ k : Nat, -1 ≤ u.2.1 4 k ∧ u.2.1 4 k ≤ 63) (p5 : 0 ≤ u.2.2.2 21 ∧ u.2.2.2 21 ≤ 756) : Met l yX5_noteFlips (jw yX5_noteFlips cX5_noteFlips 6 none) (jr 3 74) (jP [.ref (q 66), .int (J s)] D (fun H => va_P D.1 j_cl (cW D q u) H)) (jWv (fun u' => ∃ w1 : Nat → Int64, ∃ w2 : Nat → Int64, ∃ n : Int, u' = (sV (sL (sL u 4 w1) 5 w2) 21 n) ∧ (0 ≤ n ∧ n ≤ 756)) (fun u' H => va_P D.1 j_cl (cW D q u') H) A) 0 0 A := by
  refine Met.ofW (cc := cX5_noteFlips) (maxL := 6) (ret := none) (by decide) rfl ?_
  intro pr en st mi args below meth co s₁ B hml hv
  obtain ⟨rfl, hG, hP⟩ := hv
  have hr := B.returns
  have hlk := B.notSynchronized
  have SS : jS pr mi co cX5_noteFlips 6 st _ RX5 := ⟨B.exec, B.bytes, hml, findClass_of_methodNamed B.named, fun w hw => atoms_spec (ws := (jw yX5_noteFlips cX5_noteFlips 6 none)) B.pre w (List.mem_cons_of_mem _ hw)⟩
  have hl := lv_entry ([.ref (q 66), .int (J s)]) (n := 6) (Nat.le_of_ble_eq_true rfl)
  rw [lg_entry_eq]
  generalize (lg_sl ([.ref (q 66), .int (J s)]) ++ List.replicate (6 - (lg_sl ([.ref (q 66), .int (J s)])).length) Slot.unset).toArray = ls at hl ⊢
  have hl : lv_has ls 6 [(0, .ref (q 66)), (1, .int (J s))] := hl
  have hS : va_S A st.heap st.heap [] := va_S.rf
  have hc := p0.1
  have hrk : (rl 9 : Int) = 12 := rfl
  refine lv_iload_n SS.1 SS.2.1 dX5_noteFlips_0 rfl (lv_at hl 1 rfl) ?_
  refine j_if_lt SS (tgt := 10) (x := s) dX5_noteFlips_1 (by decide) (by omega) (fun c_1 => ?_) (fun c_1 => ?_)
  · skip
    exact W.vret SS.1 SS.2.1 hr (fun t0 ht hW => ⟨⟨(sV (sL (sL u 4 (u.2.2.1 4)) 5 (u.2.2.1 5)) 21 (u.2.2.2 21)), rfl, (⟨(u.2.2.1 4), (u.2.2.1 5), (u.2.2.2 21), rfl, by omega⟩), by show va_P D.1 j_cl (cW D q (sV (sL (sL u 4 (u.2.2.1 4)) 5 (u.2.2.1 5)) 21 (u.2.2.2 21))) t0.heap; rw [ht]; first | exact hP | (simp only [sC_id, sX_id, sY_id, sH_id, sT_id, sV_id]; exact hP)⟩, hS.F ht⟩) hS.2.2 dX5_noteFlips_10 hlk
  · skip
    refine lv_iload_n SS.1 SS.2.1 dX5_noteFlips_4 rfl (lv_at hl 1 rfl) ?_
    refine j_bipush SS dX5_noteFlips_5 (by decide +kernel) ?_
    refine j_icmp_lt SS (tgt := 11) (x := s) (y := 63) dX5_noteFlips_7 (by decide) (by omega) (by decide) (fun c_7 => ?_) (fun c_7 => ?_)
    · skip
      refine lv_aload_n SS.1 SS.2.1 dX5_noteFlips_11 rfl (lv_at hl 0 rfl) ?_
      refine j_get SS hG hP 66 (v := .ref (q 53)) (C := RX5) (T := TX5) (N := 9) rfl rfl inX5 1 (by decide) (ref := "GridPolygons$Mesh") kw_311 rfl rfl dX5_noteFlips_12 ?_
      refine lv_iload_n SS.1 SS.2.1 dX5_noteFlips_15 rfl (lv_at hl 1 rfl) ?_
      refine j_iald SS hG hP 53 (n := 63) (f := (u.2.1 2)) rfl (z := s) (by omega) (by omega) dX5_noteFlips_16 ?_
      obtain ⟨a1, ea1⟩ : ∃ z : Int, z = ((u.2.1 2) (s).toNat) := ⟨_, rfl⟩
      rw [← ea1]
      refine lv_istore_n (lv' := [(2, .int (J a1)), (0, .ref (q 66)), (1, .int (J s))]) SS.1 SS.2.1 dX5_noteFlips_17 rfl hl (by decide) rfl (fun ls hl => ?_)
      refine lv_aload_n SS.1 SS.2.1 dX5_noteFlips_18 rfl (lv_at hl 1 rfl) ?_
      refine j_get SS hG hP 66 (v := .ref (q 57)) (C := RX5) (T := TX5) (N := 9) rfl rfl inX5 2 (by decide) (ref := "GridPolygons$Mesh") kw_312 rfl rfl dX5_noteFlips_19 ?_
      refine lv_iload_n SS.1 SS.2.1 dX5_noteFlips_22 rfl (lv_at hl 2 rfl) ?_
      refine j_iald SS hG hP 57 (n := 63) (f := (u.2.1 3)) rfl (z := s) (by omega) (by omega) dX5_noteFlips_23 ?_
      obtain ⟨b1, eb1⟩ : ∃ z : Int, z = ((u.2.1 3) (s).toNat) := ⟨_, rfl⟩
      rw [← eb1]
      refine lv_istore_n (lv' := [(3, .int (J b1)), (2, .int (J a1)), (0, .ref (q 66)), (1, .int (J s))]) SS.1 SS.2.1 dX5_noteFlips_24 rfl hl (by decide) rfl (fun ls hl => ?_)
      have l1 := p2 s.toNat
      have l2 := p3 s.toNat
      rw [← ea1] at l1
      rw [← eb1] at l2
      refine j_iconst SS dX5_noteFlips_25 ?_
      refine lv_istore (lv' := [(4, .int (J 0)), (3, .int (J b1)), (2, .int (J a1)), (0, .ref (q 66)), (1, .int (J s))]) SS.1 SS.2.1 dX5_noteFlips_26 hl (by decide) rfl (fun ls hl => ?_)
      have L_28 : ∀ (nn : Nat) (c : Int) (w3 : Nat → Int64) (w4 : Nat → Int64) (n3 : Int) (H : Heap) (locs : List Loc) (hP : va_P D.1 j_cl (cW D q (sV (sL (sL u 4 w3) 5 w4) 21 n3)) H) (hS : va_S A st.heap H locs) (ls : Array Slot) (hl : lv_has ls 6 [(0, .ref (q 66)), (1, .int (J s)), (2, .int (J a1)), (3, .int (J b1)), (4, .int (J c))]) (i28_0 : 0 ≤ c ∧ c ≤ 12) (i28_1 : 0 ≤ n3 ∧ n3 ≤ 756), ((12 : Int) - c).toNat < nn → W pr l en (headSpec (jw yX5_noteFlips cX5_noteFlips 6 none) (jr 3 74)).room st mi (([.ref (q 66), .int (J s)] : List Value).toArray) below meth co H locs 0 0 (MQ below (jWv (fun u' => ∃ w1 : Nat → Int64, ∃ w2 : Nat → Int64, ∃ n : Int, u' = (sV (sL (sL u 4 w1) 5 w2) 21 n) ∧ (0 ≤ n ∧ n ≤ 756)) (fun u' H => va_P D.1 j_cl (cW D q u') H) A) (([.ref (q 66), .int (J s)] : List Value).toArray) st 0 0 A) (F0 mi 28 ls []) := by
        intro nn
        induction nn with
        | zero => intros; omega
        | succ nn ih_28 =>
          intro c w3 w4 n3 H locs hP hS ls hl i28_0 i28_1 hm
          refine lv_iload SS.1 SS.2.1 dX5_noteFlips_28 (lv_at hl 4 rfl) ?_
          refine lv_aload_n SS.1 SS.2.1 dX5_noteFlips_30 rfl (lv_at hl 0 rfl) ?_
          refine j_get SS hG hP 66 (v := .ref (q (9 + 5 * 9))) (C := RX5) (T := TX5) (N := 9) rfl rfl inX5 0 (by decide) (ref := "GridPolygons$Mesh") kw_310 rfl rfl dX5_noteFlips_31 ?_
          refine j_getS SS hG hP (9 + 5 * 9) (v := .int (J (u.1.2.2.1 9))) (C := RX6) (T := TX6) (N := 3) (cw_pts (by omega)) rfl inX6 2 (by decide) (ref := "GridPolygons$Points") kw_136 kw_134 rfl dX5_noteFlips_34 ?_
          refine j_icmp_ge SS (tgt := 139) (x := c) (y := (u.1.2.2.1 9)) dX5_noteFlips_37 (by decide) (by omega) (by omega) (fun c_37 => ?_) (fun c_37 => ?_)
          · skip
            exact W.vret SS.1 SS.2.1 hr (fun t0 ht hW => ⟨⟨(sV (sL (sL u 4 w3) 5 w4) 21 n3), rfl, (⟨w3, w4, n3, rfl, by omega⟩), by show va_P D.1 j_cl (cW D q (sV (sL (sL u 4 w3) 5 w4) 21 n3)) t0.heap; rw [ht]; first | exact hP | (simp only [sC_id, sX_id, sY_id, sH_id, sT_id, sV_id]; exact hP)⟩, hS.F ht⟩) hS.2.2 dX5_noteFlips_139 hlk
          · skip
            refine lv_aload_n SS.1 SS.2.1 dX5_noteFlips_40 rfl (lv_at hl 0 rfl) ?_
            refine j_get SS hG hP 66 (v := .ref (q (9 + 5 * 9))) (C := RX5) (T := TX5) (N := 9) rfl rfl inX5 0 (by decide) (ref := "GridPolygons$Mesh") kw_310 rfl rfl dX5_noteFlips_41 ?_
            refine lv_iload_n SS.1 SS.2.1 dX5_noteFlips_44 rfl (lv_at hl 2 rfl) ?_
            refine lv_iload_n SS.1 SS.2.1 dX5_noteFlips_45 rfl (lv_at hl 3 rfl) ?_
            refine lv_iload SS.1 SS.2.1 dX5_noteFlips_46 (lv_at hl 4 rfl) ?_
            refine j_vRi SS (As := [.int (J a1), .int (J b1), .int (J c)]) (rest := []) (c_X6_turn l D q (sV (sL (sL u 4 w3) 5 w4) 21 n3)  a1 b1 c (show RB 40 (sV (sL (sL u 4 w3) 5 w4) 21 n3) 9 from (p0)) (show -2147483648 ≤ a1 ∧ a1 ≤ 2147483647 from (by omega)) (show -2147483648 ≤ b1 ∧ b1 ≤ 2147483647 from (by omega)) (show -2147483648 ≤ c ∧ c ≤ 2147483647 from (by omega))) mf_X6_turn kw_904 hG hP hP (ci := 6) (q0 := (9 + 5 * 9)) rfl (cw_pts (by omega)) rfl rfl hl.1 ⟨⟨Nat.le_of_ble_eq_true rfl, Nat.le_of_ble_eq_true rfl⟩, Nat.le_of_ble_eq_true rfl, Nat.le_refl _, Nat.le_refl _⟩ rfl dX5_noteFlips_48 (fun z_48 h_48 => ?_)
            have h_48 : -12800 ≤ z_48 ∧ z_48 ≤ 12800 := h_48
            refine j_iconst SS dX5_noteFlips_51 ?_
            refine j_icmp_ne SS (tgt := 133) (x := z_48) (y := 1) dX5_noteFlips_52 (by decide) (by omega) (by decide) (fun c_52 => ?_) (fun c_52 => ?_)
            · skip
              refine lv_iinc (v := J (c + 1)) (lv' := [(4, .int (J (c + 1))), (0, .ref (q 66)), (1, .int (J s)), (2, .int (J a1)), (3, .int (J b1))]) SS.1 SS.2.1 dX5_noteFlips_133 hl (k := 4) rfl (J_add _ _) (by decide) rfl (fun ls hl => ?_)
              refine lv_goto (tgt := 28) SS.1 SS.2.1 dX5_noteFlips_136 (by decide) ?_
              exact ih_28 (c + 1) w3 w4 n3 _ _ hP hS ls (lv_sub hl [1, 2, 3, 4, 0] rfl) (by omega) (by omega) (by omega)
            · skip
              refine lv_aload_n SS.1 SS.2.1 dX5_noteFlips_55 rfl (lv_at hl 0 rfl) ?_
              refine j_get SS hG hP 66 (v := .ref (q (9 + 5 * 9))) (C := RX5) (T := TX5) (N := 9) rfl rfl inX5 0 (by decide) (ref := "GridPolygons$Mesh") kw_310 rfl rfl dX5_noteFlips_56 ?_
              refine lv_aload_n SS.1 SS.2.1 dX5_noteFlips_59 rfl (lv_at hl 0 rfl) ?_
              refine j_get SS hG hP 66 (v := .ref (q (9 + 5 * 9))) (C := RX5) (T := TX5) (N := 9) rfl rfl inX5 0 (by decide) (ref := "GridPolygons$Mesh") kw_310 rfl rfl dX5_noteFlips_60 ?_
              refine lv_iload_n SS.1 SS.2.1 dX5_noteFlips_63 rfl (lv_at hl 2 rfl) ?_
              refine j_uRi SS (As := [.int (J a1)]) (rest := [.ref (q (9 + 5 * 9))]) (c_X8_xP l D q (sV (sL (sL u 4 w3) 5 w4) 21 n3) 9 (by omega) a1 (show -2147483648 ≤ a1 ∧ a1 ≤ 2147483647 from (by omega))) mu_6_x kw_885 hG hP hP (ci := 6) (q0 := (9 + 5 * 9)) rfl (cw_pts (by omega)) rfl rfl hl.1 ⟨⟨Nat.le_of_ble_eq_true rfl, Nat.le_of_ble_eq_true rfl⟩, Nat.le_of_ble_eq_true rfl, Nat.le_refl _, Nat.le_refl _⟩ rfl dX5_noteFlips_64 (fun z_64 h_64 => ?_)
              have h_64 : z_64 = rx (sV (sL (sL u 4 w3) 5 w4) 21 n3) 9 a1 ∧ ∀ K : Int, 0 ≤ K → RB K (sV (sL (sL u 4 w3) 5 w4) 21 n3) 9 → -K ≤ z_64 ∧ z_64 ≤ K := h_64
              have hb_64 := h_64.2 40 (by omega) (p0)
              refine lv_aload_n SS.1 SS.2.1 dX5_noteFlips_67 rfl (lv_at hl 0 rfl) ?_
              refine j_get SS hG hP 66 (v := .ref (q (9 + 5 * 9))) (C := RX5) (T := TX5) (N := 9) rfl rfl inX5 0 (by decide) (ref := "GridPolygons$Mesh") kw_310 rfl rfl dX5_noteFlips_68 ?_
              refine lv_iload_n SS.1 SS.2.1 dX5_noteFlips_71 rfl (lv_at hl 3 rfl) ?_
              refine j_uRi SS (As := [.int (J b1)]) (rest := [.int (J z_64), .ref (q (9 + 5 * 9))]) (c_X8_xP l D q (sV (sL (sL u 4 w3) 5 w4) 21 n3) 9 (by omega) b1 (show -2147483648 ≤ b1 ∧ b1 ≤ 2147483647 from (by omega))) mu_6_x kw_885 hG hP hP (ci := 6) (q0 := (9 + 5 * 9)) rfl (cw_pts (by omega)) rfl rfl hl.1 ⟨⟨Nat.le_of_ble_eq_true rfl, Nat.le_of_ble_eq_true rfl⟩, Nat.le_of_ble_eq_true rfl, Nat.le_refl _, Nat.le_refl _⟩ rfl dX5_noteFlips_72 (fun z_72 h_72 => ?_)
              have h_72 : z_72 = rx (sV (sL (sL u 4 w3) 5 w4) 21 n3) 9 b1 ∧ ∀ K : Int, 0 ≤ K → RB K (sV (sL (sL u 4 w3) 5 w4) 21 n3) 9 → -K ≤ z_72 ∧ z_72 ≤ K := h_72
              have hb_72 := h_72.2 40 (by omega) (p0)
              refine j_iadd SS (x := z_64) (y := z_72) dX5_noteFlips_75 ?_
              refine lv_aload_n SS.1 SS.2.1 dX5_noteFlips_76 rfl (lv_at hl 0 rfl) ?_
              refine j_get SS hG hP 66 (v := .ref (q (9 + 5 * 9))) (C := RX5) (T := TX5) (N := 9) rfl rfl inX5 0 (by decide) (ref := "GridPolygons$Mesh") kw_310 rfl rfl dX5_noteFlips_77 ?_
              refine lv_iload SS.1 SS.2.1 dX5_noteFlips_80 (lv_at hl 4 rfl) ?_
              refine j_uRi SS (As := [.int (J c)]) (rest := [.int (J (z_64 + z_72)), .ref (q (9 + 5 * 9))]) (c_X8_xP l D q (sV (sL (sL u 4 w3) 5 w4) 21 n3) 9 (by omega) c (show -2147483648 ≤ c ∧ c ≤ 2147483647 from (by omega))) mu_6_x kw_885 hG hP hP (ci := 6) (q0 := (9 + 5 * 9)) rfl (cw_pts (by omega)) rfl rfl hl.1 ⟨⟨Nat.le_of_ble_eq_true rfl, Nat.le_of_ble_eq_true rfl⟩, Nat.le_of_ble_eq_true rfl, Nat.le_refl _, Nat.le_refl _⟩ rfl dX5_noteFlips_82 (fun z_82 h_82 => ?_)
              have h_82 : z_82 = rx (sV (sL (sL u 4 w3) 5 w4) 21 n3) 9 c ∧ ∀ K : Int, 0 ≤ K → RB K (sV (sL (sL u 4 w3) 5 w4) 21 n3) 9 → -K ≤ z_82 ∧ z_82 ≤ K := h_82
              have hb_82 := h_82.2 40 (by omega) (p0)
              refine j_isub SS (x := (z_64 + z_72)) (y := z_82) dX5_noteFlips_85 ?_
              refine lv_aload_n SS.1 SS.2.1 dX5_noteFlips_86 rfl (lv_at hl 0 rfl) ?_
              refine j_get SS hG hP 66 (v := .ref (q (9 + 5 * 9))) (C := RX5) (T := TX5) (N := 9) rfl rfl inX5 0 (by decide) (ref := "GridPolygons$Mesh") kw_310 rfl rfl dX5_noteFlips_87 ?_
              refine lv_iload_n SS.1 SS.2.1 dX5_noteFlips_90 rfl (lv_at hl 2 rfl) ?_
              refine j_uRi SS (As := [.int (J a1)]) (rest := [.int (J ((z_64 + z_72) - z_82)), .ref (q (9 + 5 * 9))]) (c_X8_yP l D q (sV (sL (sL u 4 w3) 5 w4) 21 n3) 9 (by omega) a1 (show -2147483648 ≤ a1 ∧ a1 ≤ 2147483647 from (by omega))) mu_6_y kw_888 hG hP hP (ci := 6) (q0 := (9 + 5 * 9)) rfl (cw_pts (by omega)) rfl rfl hl.1 ⟨⟨Nat.le_of_ble_eq_true rfl, Nat.le_of_ble_eq_true rfl⟩, Nat.le_of_ble_eq_true rfl, Nat.le_refl _, Nat.le_refl _⟩ rfl dX5_noteFlips_91 (fun z_91 h_91 => ?_)
              have h_91 : z_91 = ry9 (sV (sL (sL u 4 w3) 5 w4) 21 n3) 9 a1 ∧ ∀ K : Int, 0 ≤ K → RB K (sV (sL (sL u 4 w3) 5 w4) 21 n3) 9 → -K ≤ z_91 ∧ z_91 ≤ K := h_91
              have hb_91 := h_91.2 40 (by omega) (p0)
              refine lv_aload_n SS.1 SS.2.1 dX5_noteFlips_94 rfl (lv_at hl 0 rfl) ?_
              refine j_get SS hG hP 66 (v := .ref (q (9 + 5 * 9))) (C := RX5) (T := TX5) (N := 9) rfl rfl inX5 0 (by decide) (ref := "GridPolygons$Mesh") kw_310 rfl rfl dX5_noteFlips_95 ?_
              refine lv_iload_n SS.1 SS.2.1 dX5_noteFlips_98 rfl (lv_at hl 3 rfl) ?_
              refine j_uRi SS (As := [.int (J b1)]) (rest := [.int (J z_91), .int (J ((z_64 + z_72) - z_82)), .ref (q (9 + 5 * 9))]) (c_X8_yP l D q (sV (sL (sL u 4 w3) 5 w4) 21 n3) 9 (by omega) b1 (show -2147483648 ≤ b1 ∧ b1 ≤ 2147483647 from (by omega))) mu_6_y kw_888 hG hP hP (ci := 6) (q0 := (9 + 5 * 9)) rfl (cw_pts (by omega)) rfl rfl hl.1 ⟨⟨Nat.le_of_ble_eq_true rfl, Nat.le_of_ble_eq_true rfl⟩, Nat.le_of_ble_eq_true rfl, Nat.le_refl _, Nat.le_refl _⟩ rfl dX5_noteFlips_99 (fun z_99 h_99 => ?_)
              have h_99 : z_99 = ry9 (sV (sL (sL u 4 w3) 5 w4) 21 n3) 9 b1 ∧ ∀ K : Int, 0 ≤ K → RB K (sV (sL (sL u 4 w3) 5 w4) 21 n3) 9 → -K ≤ z_99 ∧ z_99 ≤ K := h_99
              have hb_99 := h_99.2 40 (by omega) (p0)
              refine j_iadd SS (x := z_91) (y := z_99) dX5_noteFlips_102 ?_
              refine lv_aload_n SS.1 SS.2.1 dX5_noteFlips_103 rfl (lv_at hl 0 rfl) ?_
              refine j_get SS hG hP 66 (v := .ref (q (9 + 5 * 9))) (C := RX5) (T := TX5) (N := 9) rfl rfl inX5 0 (by decide) (ref := "GridPolygons$Mesh") kw_310 rfl rfl dX5_noteFlips_104 ?_
              refine lv_iload SS.1 SS.2.1 dX5_noteFlips_107 (lv_at hl 4 rfl) ?_
              refine j_uRi SS (As := [.int (J c)]) (rest := [.int (J (z_91 + z_99)), .int (J ((z_64 + z_72) - z_82)), .ref (q (9 + 5 * 9))]) (c_X8_yP l D q (sV (sL (sL u 4 w3) 5 w4) 21 n3) 9 (by omega) c (show -2147483648 ≤ c ∧ c ≤ 2147483647 from (by omega))) mu_6_y kw_888 hG hP hP (ci := 6) (q0 := (9 + 5 * 9)) rfl (cw_pts (by omega)) rfl rfl hl.1 ⟨⟨Nat.le_of_ble_eq_true rfl, Nat.le_of_ble_eq_true rfl⟩, Nat.le_of_ble_eq_true rfl, Nat.le_refl _, Nat.le_refl _⟩ rfl dX5_noteFlips_109 (fun z_109 h_109 => ?_)
              have h_109 : z_109 = ry9 (sV (sL (sL u 4 w3) 5 w4) 21 n3) 9 c ∧ ∀ K : Int, 0 ≤ K → RB K (sV (sL (sL u 4 w3) 5 w4) 21 n3) 9 → -K ≤ z_109 ∧ z_109 ≤ K := h_109
              have hb_109 := h_109.2 40 (by omega) (p0)
              refine j_isub SS (x := (z_91 + z_99)) (y := z_109) dX5_noteFlips_112 ?_
              refine j_vRi SS (As := [.int (J ((z_64 + z_72) - z_82)), .int (J ((z_91 + z_99) - z_109))]) (rest := []) (c_X6_find l D q (sV (sL (sL u 4 w3) 5 w4) 21 n3)  ((z_64 + z_72) - z_82) ((z_91 + z_99) - z_109) (show RB 40 (sV (sL (sL u 4 w3) 5 w4) 21 n3) 9 from (p0)) (show -2147483648 ≤ ((z_64 + z_72) - z_82) ∧ ((z_64 + z_72) - z_82) ≤ 2147483647 from (by omega)) (show -2147483648 ≤ ((z_91 + z_99) - z_109) ∧ ((z_91 + z_99) - z_109) ≤ 2147483647 from (by omega))) mf_X6_find kw_914 hG hP hP (ci := 6) (q0 := (9 + 5 * 9)) rfl (cw_pts (by omega)) rfl rfl hl.1 ⟨⟨Nat.le_of_ble_eq_true rfl, Nat.le_of_ble_eq_true rfl⟩, Nat.le_of_ble_eq_true rfl, Nat.le_refl _, Nat.le_refl _⟩ rfl dX5_noteFlips_113 (fun z_113 h_113 => ?_)
              have h_113 : -1 ≤ z_113 ∧ z_113 ≤ 11 := h_113
              refine lv_istore (lv' := [(5, .int (J z_113)), (0, .ref (q 66)), (1, .int (J s)), (2, .int (J a1)), (3, .int (J b1)), (4, .int (J c))]) SS.1 SS.2.1 dX5_noteFlips_116 hl (by decide) rfl (fun ls hl => ?_)
              refine lv_iload SS.1 SS.2.1 dX5_noteFlips_118 (lv_at hl 0 rfl) ?_
              refine j_if_lt SS (tgt := 133) (x := z_113) dX5_noteFlips_120 (by decide) (by omega) (fun c_120 => ?_) (fun c_120 => ?_)
              · skip
                refine lv_iinc (v := J (c + 1)) (lv' := [(4, .int (J (c + 1))), (5, .int (J z_113)), (0, .ref (q 66)), (1, .int (J s)), (2, .int (J a1)), (3, .int (J b1))]) SS.1 SS.2.1 dX5_noteFlips_133 hl (k := 5) rfl (J_add _ _) (by decide) rfl (fun ls hl => ?_)
                refine lv_goto (tgt := 28) SS.1 SS.2.1 dX5_noteFlips_136 (by decide) ?_
                exact ih_28 (c + 1) w3 w4 n3 _ _ hP hS ls (lv_sub hl [2, 3, 4, 5, 0] rfl) (by omega) (by omega) (by omega)
              · skip
                refine lv_aload_n SS.1 SS.2.1 dX5_noteFlips_123 rfl (lv_at hl 1 rfl) ?_
                refine lv_iload_n SS.1 SS.2.1 dX5_noteFlips_124 rfl (lv_at hl 3 rfl) ?_
                refine lv_iload_n SS.1 SS.2.1 dX5_noteFlips_125 rfl (lv_at hl 4 rfl) ?_
                refine lv_iload SS.1 SS.2.1 dX5_noteFlips_126 (lv_at hl 5 rfl) ?_
                refine lv_iload SS.1 SS.2.1 dX5_noteFlips_128 (lv_at hl 0 rfl) ?_
                refine j_vWv SS (As := [.int (J a1), .int (J b1), .int (J c), .int (J z_113)]) (rest := []) (c_X5_noteFlip l D q (sV (sL (sL u 4 w3) 5 w4) 21 n3) A (cW_D hD)  a1 b1 c z_113 (show 0 ≤ a1 ∧ a1 ≤ 12 from (by omega)) (show 0 ≤ b1 ∧ b1 ≤ 12 from (by omega)) (show 0 ≤ c ∧ c ≤ 12 from (by omega)) (show 0 ≤ z_113 ∧ z_113 ≤ 12 from (by omega)) (show ∀ k : Nat, -1 ≤ (u.2.1 4) k ∧ (u.2.1 4) k ≤ 63 from (p4)) (show 0 ≤ n3 ∧ n3 ≤ 756 from (by omega))) mf_X5_noteFlip kw_918 hG hP hP (ci := 5) (q0 := 66) rfl rfl rfl hS (fun _ h => h) rfl hl.1 ⟨⟨Nat.le_of_ble_eq_true rfl, Nat.le_of_ble_eq_true rfl⟩, Nat.le_of_ble_eq_true rfl, Nat.le_refl _, Nat.le_refl _⟩ rfl dX5_noteFlips_130 (fun u130 H locs h_130 hP _ hS => ?_)
                obtain ⟨w1_130, w2_130, n_130, rfl, h_130⟩ := h_130
                have hP : va_P D.1 j_cl (cW D q (sV (sL (sL u 4 w1_130) 5 w2_130) 21 n_130)) H := hP
                have h_130 : 0 ≤ n_130 ∧ n_130 ≤ 756 := h_130
                refine lv_iinc (v := J (c + 1)) (lv' := [(4, .int (J (c + 1))), (5, .int (J z_113)), (0, .ref (q 66)), (1, .int (J s)), (2, .int (J a1)), (3, .int (J b1))]) SS.1 SS.2.1 dX5_noteFlips_133 hl (k := 5) rfl (J_add _ _) (by decide) rfl (fun ls hl => ?_)
                refine lv_goto (tgt := 28) SS.1 SS.2.1 dX5_noteFlips_136 (by decide) ?_
                exact ih_28 (c + 1) w1_130 w2_130 n_130 _ _ hP hS ls (lv_sub hl [2, 3, 4, 5, 0] rfl) (by omega) (by omega) (by omega)
      exact L_28 (((12 : Int) - (0 : Int)).toNat + 1) 0 (u.2.2.1 4) (u.2.2.1 5) (u.2.2.2 21) _ _ hP hS ls (lv_sub hl [3, 4, 2, 1, 0] rfl) (by omega) (by omega) (Nat.lt_succ_self _)
    · skip
      exact W.vret SS.1 SS.2.1 hr (fun t0 ht hW => ⟨⟨(sV (sL (sL u 4 (u.2.2.1 4)) 5 (u.2.2.1 5)) 21 (u.2.2.2 21)), rfl, (⟨(u.2.2.1 4), (u.2.2.1 5), (u.2.2.2 21), rfl, by omega⟩), by show va_P D.1 j_cl (cW D q (sV (sL (sL u 4 (u.2.2.1 4)) 5 (u.2.2.1 5)) 21 (u.2.2.2 21))) t0.heap; rw [ht]; first | exact hP | (simp only [sC_id, sX_id, sY_id, sH_id, sT_id, sV_id]; exact hP)⟩, hS.F ht⟩) hS.2.2 dX5_noteFlips_10 hlk

set_option maxHeartbeats 4000000 in
set_option maxRecDepth 100000 in
theorem c_X5_firstCut (l : Launch) (D : JD) (q : Nat → Nat) (u : CS) (p0 : 0 ≤ u.2.2.2 20 ∧ u.2.2.2 20 ≤ 63) : Met l yX5_firstCut (jw yX5_firstCut cX5_firstCut 4 (some .long)) (jr 0 0) (jP [.ref (q 66)] D (fun H => va_P D.1 j_cl (cW D q u) H)) (vp_Sl (fun x9 => True)) 0 0 (fun _ => False) := by
  refine Met.ofW (cc := cX5_firstCut) (maxL := 4) (ret := (some .long)) (by decide) rfl ?_
  intro pr en st mi args below meth co s₁ B hml hv
  obtain ⟨rfl, hG, hP⟩ := hv
  have hr := B.returns
  have hlk := B.notSynchronized
  have SS : jS pr mi co cX5_firstCut 4 st _ RX5 := ⟨B.exec, B.bytes, hml, findClass_of_methodNamed B.named, fun w hw => atoms_spec (ws := (jw yX5_firstCut cX5_firstCut 4 (some .long))) B.pre w (List.mem_cons_of_mem _ hw)⟩
  have hl := lv_entry ([.ref (q 66)]) (n := 4) (Nat.le_of_ble_eq_true rfl)
  rw [lg_entry_eq]
  generalize (lg_sl ([.ref (q 66)]) ++ List.replicate (4 - (lg_sl ([.ref (q 66)])).length) Slot.unset).toArray = ls at hl ⊢
  have hl : lv_has ls 4 [(0, .ref (q 66))] := hl
  refine lv_lconst (v := 0) SS.1 SS.2.1 dX5_firstCut_0 (by decide +kernel) ?_
  refine lv_lstore_n (lv' := [(1, .long 0), (0, .ref (q 66))]) SS.1 SS.2.1 dX5_firstCut_1 rfl hl (by decide) rfl (fun ls hl => ?_)
  refine j_iconst SS dX5_firstCut_2 ?_
  refine lv_istore_n (lv' := [(3, .int (J 0)), (1, .long 0), (0, .ref (q 66))]) SS.1 SS.2.1 dX5_firstCut_3 rfl hl (by decide) rfl (fun ls hl => ?_)
  have L_4 : ∀ (nn : Nat) (st9 : Int64) (s : Int) (ls : Array Slot) (hl : lv_has ls 4 [(0, .ref (q 66)), (1, .long st9), (3, .int (J s))]) (i4_0 : 0 ≤ s ∧ s ≤ 63), ((63 : Int) - s).toNat < nn → W pr l en (headSpec (jw yX5_firstCut cX5_firstCut 4 (some .long)) (jr 0 0)).room st mi (([.ref (q 66)] : List Value).toArray) below meth co st.heap [] 0 0 (MQ below (vp_Sl (fun x9 => True)) (([.ref (q 66)] : List Value).toArray) st 0 0 (fun _ => False)) (F0 mi 4 ls []) := by
    intro nn
    induction nn with
    | zero => intros; omega
    | succ nn ih_4 =>
      intro st9 s ls hl i4_0 hm
      refine lv_iload_n SS.1 SS.2.1 dX5_firstCut_4 rfl (lv_at hl 2 rfl) ?_
      refine lv_aload_n SS.1 SS.2.1 dX5_firstCut_5 rfl (lv_at hl 0 rfl) ?_
      refine j_get SS hG hP 66 (v := .int (J (u.2.2.2 20))) (C := RX5) (T := TX5) (N := 9) rfl rfl inX5 5 (by decide) (ref := "GridPolygons$Mesh") kw_315 rfl rfl dX5_firstCut_6 ?_
      refine j_icmp_ge SS (tgt := 43) (x := s) (y := (u.2.2.2 20)) dX5_firstCut_9 (by decide) (by omega) (by omega) (fun c_9 => ?_) (fun c_9 => ?_)
      · skip
        refine lv_lload_n SS.1 SS.2.1 dX5_firstCut_43 rfl (lv_at hl 1 rfl) ?_
        exact W.lret SS.1 SS.2.1 hr (fun t0 ht hW => ⟨_, rfl, (trivial), ht⟩) (fun _ h => nomatch h) dX5_firstCut_44 hlk
      · skip
        refine lv_iload_n SS.1 SS.2.1 dX5_firstCut_12 rfl (lv_at hl 2 rfl) ?_
        refine j_bipush SS dX5_firstCut_13 (by decide +kernel) ?_
        refine j_icmp_ge SS (tgt := 43) (x := s) (y := 63) dX5_firstCut_15 (by decide) (by omega) (by decide) (fun c_15 => ?_) (fun c_15 => ?_)
        · skip
          refine lv_lload_n SS.1 SS.2.1 dX5_firstCut_43 rfl (lv_at hl 1 rfl) ?_
          exact W.lret SS.1 SS.2.1 hr (fun t0 ht hW => ⟨_, rfl, (trivial), ht⟩) (fun _ h => nomatch h) dX5_firstCut_44 hlk
        · skip
          refine lv_aload_n SS.1 SS.2.1 dX5_firstCut_18 rfl (lv_at hl 0 rfl) ?_
          refine j_get SS hG hP 66 (v := .ref (q 70)) (C := RX5) (T := TX5) (N := 9) rfl rfl inX5 3 (by decide) (ref := "GridPolygons$Mesh") kw_313 rfl rfl dX5_firstCut_19 ?_
          refine lv_iload_n SS.1 SS.2.1 dX5_firstCut_22 rfl (lv_at hl 2 rfl) ?_
          refine j_lald SS hG hP 70 (n := 63) (f := (u.2.2.1 3)) rfl (z := s) (by omega) (by omega) dX5_firstCut_23 ?_
          refine lv_lload_n SS.1 SS.2.1 dX5_firstCut_24 rfl (lv_at hl 1 rfl) ?_
          refine lv_land SS.1 SS.2.1 dX5_firstCut_25 ?_
          refine lv_lconst (v := 0) SS.1 SS.2.1 dX5_firstCut_26 (by decide +kernel) ?_
          refine j_lcmp SS dX5_firstCut_27 (fun z_27 hz_27 => ?_)
          refine j_if_ne SS (tgt := 37) (x := z_27) dX5_firstCut_28 (by decide) (by omega) (fun c_28 => ?_) (fun c_28 => ?_)
          · skip
            refine lv_iinc (v := J (s + 1)) (lv' := [(3, .int (J (s + 1))), (0, .ref (q 66)), (1, .long st9)]) SS.1 SS.2.1 dX5_firstCut_37 hl (k := 2) rfl (J_add _ _) (by decide) rfl (fun ls hl => ?_)
            refine lv_goto (tgt := 4) SS.1 SS.2.1 dX5_firstCut_40 (by decide) ?_
            exact ih_4 st9 (s + 1) ls (lv_sub hl [1, 2, 0] rfl) (by omega) (by omega)
          · skip
            refine lv_lload_n SS.1 SS.2.1 dX5_firstCut_31 rfl (lv_at hl 1 rfl) ?_
            refine lv_lconst (v := 1) SS.1 SS.2.1 dX5_firstCut_32 (by decide +kernel) ?_
            refine lv_iload_n SS.1 SS.2.1 dX5_firstCut_33 rfl (lv_at hl 2 rfl) ?_
            refine lv_lshl SS.1 SS.2.1 dX5_firstCut_34 rfl (lv_topl (fun x_34 ex_34 => ?_))
            refine lv_lor SS.1 SS.2.1 dX5_firstCut_35 ?_
            refine lv_lstore_n (lv' := [(1, .long (st9 ||| x_34)), (0, .ref (q 66)), (3, .int (J s))]) SS.1 SS.2.1 dX5_firstCut_36 rfl hl (by decide) rfl (fun ls hl => ?_)
            refine lv_iinc (v := J (s + 1)) (lv' := [(3, .int (J (s + 1))), (1, .long (st9 ||| x_34)), (0, .ref (q 66))]) SS.1 SS.2.1 dX5_firstCut_37 hl (k := 2) rfl (J_add _ _) (by decide) rfl (fun ls hl => ?_)
            refine lv_goto (tgt := 4) SS.1 SS.2.1 dX5_firstCut_40 (by decide) ?_
            exact ih_4 (st9 ||| x_34) (s + 1) ls (lv_sub hl [2, 1, 0] rfl) (by omega) (by omega)
  exact L_4 (((63 : Int) - (0 : Int)).toNat + 1) 0 0 ls (lv_sub hl [2, 1, 0] rfl) (by omega) (Nat.lt_succ_self _)
