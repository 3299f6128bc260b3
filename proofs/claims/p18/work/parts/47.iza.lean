
set_option maxHeartbeats 4000000 in
set_option maxRecDepth 100000 in
theorem c_X0_frame3 (l : Launch) (D : JD) (q : Nat → Nat) (u : CS) (A : Nat → Prop) (hD : va_D A (cW D q u)) (r : Nat) (hr : r ≤ 8) (p0 : RB 40 u r) (p1 : 1 ≤ u.1.2.2.1 r) : Met l yX0_frame (jw yX0_frame cX0_frame 2 none) (jr 2 43) (jP [.ref (q 5), .ref (q (9 + 5 * r))] D (fun H => va_P D.1 j_cl (cW D q u) H)) (jWv (fun u' => ∃ lf : Int, ∃ bt : Int, ∃ wd : Int, ∃ tl : Int, u' = (sV (sV (sV (sV u 13 lf) 14 bt) 15 wd) 16 tl) ∧ (FRc u r lf bt wd tl ∧ (-40 ≤ lf ∧ lf ≤ 40) ∧ (-40 ≤ bt ∧ bt ≤ 40) ∧ (1 ≤ wd ∧ wd ≤ 81) ∧ 1 ≤ tl ∧ tl ≤ 81)) (fun u' H => va_P D.1 j_cl (cW D q u') H) A) 0 0 A := by
  refine Met.ofW (cc := cX0_frame) (maxL := 2) (ret := none) (by decide) rfl ?_
  intro pr en st mi args below meth co s₁ B hml hv
  obtain ⟨rfl, hG, hP⟩ := hv
  have hr := B.returns
  have hlk := B.notSynchronized
  have SS : jS pr mi co cX0_frame 2 st _ RX0 := ⟨B.exec, B.bytes, hml, findClass_of_methodNamed B.named, fun w hw => atoms_spec (ws := (jw yX0_frame cX0_frame 2 none)) B.pre w (List.mem_cons_of_mem _ hw)⟩
  have hl := lv_entry ([.ref (q 5), .ref (q (9 + 5 * r))]) (n := 2) (Nat.le_of_ble_eq_true rfl)
  rw [lg_entry_eq]
  generalize (lg_sl ([.ref (q 5), .ref (q (9 + 5 * r))]) ++ List.replicate (2 - (lg_sl ([.ref (q 5), .ref (q (9 + 5 * r))])).length) Slot.unset).toArray = ls at hl ⊢
  have hl : lv_has ls 2 [(0, .ref (q 5)), (1, .ref (q (9 + 5 * r)))] := hl
  have hS : va_S A st.heap st.heap [] := va_S.rf
  have hc := p0.1
  have hrl := rl_b r
  refine lv_aload_n SS.1 SS.2.1 dX0_frame_0 rfl (lv_at hl 0 rfl) ?_
  refine lv_aload_n SS.1 SS.2.1 dX0_frame_1 rfl (lv_at hl 1 rfl) ?_
  refine j_vRi SS (As := []) (rest := [.ref (q 5)]) (c_X7_leftmost l D q u r (by omega) (40 : Int)  (show 0 ≤ (40 : Int) ∧ (40 : Int) ≤ 80 from (by omega)) (show RB (40 : Int) u r from (p0))) mf_X7_leftmost kw_708 hG hP hP (ci := 7) (q0 := (9 + 5 * r)) rfl (cw_ring (by omega)) rfl rfl hl.1 ⟨⟨Nat.le_of_ble_eq_true rfl, Nat.le_of_ble_eq_true rfl⟩, Nat.le_of_ble_eq_true rfl, Nat.le_refl _, Nat.le_refl _⟩ rfl dX0_frame_2 (fun z_2 h_2 => ?_)
  have h_2 : z_2 = rx u r 0 ∧ -(40 : Int) ≤ z_2 ∧ z_2 ≤ (40 : Int) := h_2
  refine j_put SS hG hP (cW_D hD) hS 5 (v := .int (J z_2)) (ty := .int) (C := RX0) (T := TX0) (N := 14) rfl rfl inX0 tyX0 tyX0_ok nmX0 7 (by decide) (ref := "GridPolygons$Choices") kw_251 rfl rfl (by decide +kernel) rfl rfl (Nat.le_of_ble_eq_true rfl) dX0_frame_5 (ws' := (cW D q (sV u 13 z_2))) rfl (fun H locs hP hS => ?_)
  refine lv_aload_n SS.1 SS.2.1 dX0_frame_8 rfl (lv_at hl 0 rfl) ?_
  refine lv_aload_n SS.1 SS.2.1 dX0_frame_9 rfl (lv_at hl 1 rfl) ?_
  refine j_vRi SS (As := []) (rest := [.ref (q 5)]) (c_X7_bottom3 l D q (sV u 13 z_2) r (by omega) (40 : Int)  (show 0 ≤ (40 : Int) ∧ (40 : Int) ≤ 80 from (by omega)) (show RB (40 : Int) (sV u 13 z_2) r from (p0)) (show 1 ≤ (u.1.2.2.1 r) from (by omega))) mf_X7_bottom kw_709 hG hP hP (ci := 7) (q0 := (9 + 5 * r)) rfl (cw_ring (by omega)) rfl rfl hl.1 ⟨⟨Nat.le_of_ble_eq_true rfl, Nat.le_of_ble_eq_true rfl⟩, Nat.le_of_ble_eq_true rfl, Nat.le_refl _, Nat.le_refl _⟩ rfl dX0_frame_10 (fun z_10 h_10 => ?_)
  have h_10 : (-(40 : Int) ≤ z_10 ∧ z_10 ≤ (40 : Int)) ∧ (∀ a : Int, 0 ≤ a → a < (u.1.2.2.1 r) → ry9 (sV u 13 z_2) r a ≥ z_10) ∧ ∃ a : Int, 0 ≤ a ∧ a < (u.1.2.2.1 r) ∧ ry9 (sV u 13 z_2) r a = z_10 := h_10
  refine j_put SS hG hP (cW_D hD) hS 5 (v := .int (J z_10)) (ty := .int) (C := RX0) (T := TX0) (N := 14) rfl rfl inX0 tyX0 tyX0_ok nmX0 8 (by decide) (ref := "GridPolygons$Choices") kw_252 rfl rfl (by decide +kernel) rfl rfl (Nat.le_of_ble_eq_true rfl) dX0_frame_13 (ws' := (cW D q (sV (sV u 13 z_2) 14 z_10))) rfl (fun H locs hP hS => ?_)
  refine lv_aload_n SS.1 SS.2.1 dX0_frame_16 rfl (lv_at hl 0 rfl) ?_
  refine lv_aload_n SS.1 SS.2.1 dX0_frame_17 rfl (lv_at hl 1 rfl) ?_
  refine j_vRi SS (As := []) (rest := [.ref (q 5)]) (c_X7_rightmost3 l D q (sV (sV u 13 z_2) 14 z_10) r (by omega) (40 : Int)  (show 0 ≤ (40 : Int) ∧ (40 : Int) ≤ 80 from (by omega)) (show RB (40 : Int) (sV (sV u 13 z_2) 14 z_10) r from (p0)) (show 1 ≤ (u.1.2.2.1 r) from (by omega))) mf_X7_rightmost kw_710 hG hP hP (ci := 7) (q0 := (9 + 5 * r)) rfl (cw_ring (by omega)) rfl rfl hl.1 ⟨⟨Nat.le_of_ble_eq_true rfl, Nat.le_of_ble_eq_true rfl⟩, Nat.le_of_ble_eq_true rfl, Nat.le_refl _, Nat.le_refl _⟩ rfl dX0_frame_18 (fun z_18 h_18 => ?_)
  have h_18 : (-(40 : Int) ≤ z_18 ∧ z_18 ≤ (40 : Int)) ∧ (∀ a : Int, 0 ≤ a → a < (u.1.2.2.1 r) → rx (sV (sV u 13 z_2) 14 z_10) r a ≤ z_18) ∧ ∃ a : Int, 0 ≤ a ∧ a < (u.1.2.2.1 r) ∧ rx (sV (sV u 13 z_2) 14 z_10) r a = z_18 := h_18
  refine lv_aload_n SS.1 SS.2.1 dX0_frame_21 rfl (lv_at hl 0 rfl) ?_
  refine j_get SS hG hP 5 (v := .int (J z_2)) (C := RX0) (T := TX0) (N := 14) rfl rfl inX0 7 (by decide) (ref := "GridPolygons$Choices") kw_251 rfl rfl dX0_frame_22 ?_
  refine j_isub SS (x := z_18) (y := z_2) dX0_frame_25 ?_
  refine j_iconst SS dX0_frame_26 ?_
  refine j_iadd SS (x := (z_18 - z_2)) (y := 1) dX0_frame_27 ?_
  refine j_put SS hG hP (cW_D hD) hS 5 (v := .int (J ((z_18 - z_2) + 1))) (ty := .int) (C := RX0) (T := TX0) (N := 14) rfl rfl inX0 tyX0 tyX0_ok nmX0 9 (by decide) (ref := "GridPolygons$Choices") kw_253 rfl rfl (by decide +kernel) rfl rfl (Nat.le_of_ble_eq_true rfl) dX0_frame_28 (ws' := (cW D q (sV (sV (sV u 13 z_2) 14 z_10) 15 ((z_18 - z_2) + 1)))) rfl (fun H locs hP hS => ?_)
  refine lv_aload_n SS.1 SS.2.1 dX0_frame_31 rfl (lv_at hl 0 rfl) ?_
  refine lv_aload_n SS.1 SS.2.1 dX0_frame_32 rfl (lv_at hl 1 rfl) ?_
  refine j_vRi SS (As := []) (rest := [.ref (q 5)]) (c_X7_top3 l D q (sV (sV (sV u 13 z_2) 14 z_10) 15 ((z_18 - z_2) + 1)) r (by omega) (40 : Int)  (show 0 ≤ (40 : Int) ∧ (40 : Int) ≤ 80 from (by omega)) (show RB (40 : Int) (sV (sV (sV u 13 z_2) 14 z_10) 15 ((z_18 - z_2) + 1)) r from (p0)) (show 1 ≤ (u.1.2.2.1 r) from (by omega))) mf_X7_top kw_711 hG hP hP (ci := 7) (q0 := (9 + 5 * r)) rfl (cw_ring (by omega)) rfl rfl hl.1 ⟨⟨Nat.le_of_ble_eq_true rfl, Nat.le_of_ble_eq_true rfl⟩, Nat.le_of_ble_eq_true rfl, Nat.le_refl _, Nat.le_refl _⟩ rfl dX0_frame_33 (fun z_33 h_33 => ?_)
  have h_33 : (-(40 : Int) ≤ z_33 ∧ z_33 ≤ (40 : Int)) ∧ (∀ a : Int, 0 ≤ a → a < (u.1.2.2.1 r) → ry9 (sV (sV (sV u 13 z_2) 14 z_10) 15 ((z_18 - z_2) + 1)) r a ≤ z_33) ∧ ∃ a : Int, 0 ≤ a ∧ a < (u.1.2.2.1 r) ∧ ry9 (sV (sV (sV u 13 z_2) 14 z_10) 15 ((z_18 - z_2) + 1)) r a = z_33 := h_33
  refine lv_aload_n SS.1 SS.2.1 dX0_frame_36 rfl (lv_at hl 0 rfl) ?_
  refine j_get SS hG hP 5 (v := .int (J z_10)) (C := RX0) (T := TX0) (N := 14) rfl rfl inX0 8 (by decide) (ref := "GridPolygons$Choices") kw_252 rfl rfl dX0_frame_37 ?_
  refine j_isub SS (x := z_33) (y := z_10) dX0_frame_40 ?_
  refine j_iconst SS dX0_frame_41 ?_
  refine j_iadd SS (x := (z_33 - z_10)) (y := 1) dX0_frame_42 ?_
  refine j_put SS hG hP (cW_D hD) hS 5 (v := .int (J ((z_33 - z_10) + 1))) (ty := .int) (C := RX0) (T := TX0) (N := 14) rfl rfl inX0 tyX0 tyX0_ok nmX0 10 (by decide) (ref := "GridPolygons$Choices") kw_254 rfl rfl (by decide +kernel) rfl rfl (Nat.le_of_ble_eq_true rfl) dX0_frame_43 (ws' := (cW D q (sV (sV (sV (sV u 13 z_2) 14 z_10) 15 ((z_18 - z_2) + 1)) 16 ((z_33 - z_10) + 1)))) rfl (fun H locs hP hS => ?_)
  have q0 := h_18.2.1 0 (by omega) (by omega)
  have q1 := h_33.2.1 0 (by omega) (by omega)
  have q2 := h_10.2.1 0 (by omega) (by omega)
  have q3 : z_2 = rx u r 0 := h_2.1
  exact W.vret SS.1 SS.2.1 hr (fun t0 ht hW => ⟨⟨(sV (sV (sV (sV u 13 z_2) 14 z_10) 15 ((z_18 - z_2) + 1)) 16 ((z_33 - z_10) + 1)), rfl, (⟨z_2, z_10, ((z_18 - z_2) + 1), ((z_33 - z_10) + 1), rfl, ⟨⟨⟨q3, by omega, by omega⟩, fun k k0 k1 => by have w9 := h_18.2.1 k k0 k1; have w8 : rx u r k ≤ z_18 := w9; omega, fun k k0 k1 => by have w9 := h_33.2.1 k k0 k1; have w8 : ry9 u r k ≤ z_33 := w9; have w7 := h_10.2.1 k k0 k1; have w6 : z_10 ≤ ry9 u r k := w7; omega⟩, by omega, by omega, by have w8 : rx u r 0 ≤ z_18 := q0; omega, by have w8 : ry9 u r 0 ≤ z_33 := q1; have w6 : z_10 ≤ ry9 u r 0 := q2; omega⟩⟩), by show va_P D.1 j_cl (cW D q (sV (sV (sV (sV u 13 z_2) 14 z_10) 15 ((z_18 - z_2) + 1)) 16 ((z_33 - z_10) + 1))) t0.heap; rw [ht]; first | exact hP | (simp only [sC_id, sX_id, sY_id, sH_id, sT_id, sV_id]; exact hP)⟩, hS.F ht⟩) hS.2.2 dX0_frame_46 hlk

set_option maxHeartbeats 4000000 in
set_option maxRecDepth 100000 in
theorem c_X0_cell3 (l : Launch) (D : JD) (q : Nat → Nat) (u : CS) (x : Int) (y : Int) (p0 : (-40 ≤ u.2.2.2 13 ∧ u.2.2.2 13 ≤ 40) ∧ (-40 ≤ u.2.2.2 14 ∧ u.2.2.2 14 ≤ 40) ∧ (-79 ≤ u.2.2.2 15 ∧ u.2.2.2 15 ≤ 81) ∧ (-79 ≤ u.2.2.2 16 ∧ u.2.2.2 16 ≤ 81)) (p1 : -2000000 ≤ x ∧ x ≤ 2000000) (p2 : -2000000 ≤ y ∧ y ≤ 2000000) : Met l yX0_cell (jw yX0_cell cX0_cell 6 (some .int)) (jr 0 0) (jP [.ref (q 5), .int (J x), .int (J y)] D (fun H => va_P D.1 j_cl (cW D q u) H)) (jRi (fun z => (inF9 (u.2.2.2 13) (u.2.2.2 14) (u.2.2.2 15) (u.2.2.2 16) x y ∧ z = ixF (u.2.2.2 13) (u.2.2.2 14) (u.2.2.2 16) x y) ∨ (¬ inF9 (u.2.2.2 13) (u.2.2.2 14) (u.2.2.2 15) (u.2.2.2 16) x y ∧ z = -1))) 0 0 (fun _ => False) := by
  refine Met.ofW (cc := cX0_cell) (maxL := 6) (ret := (some .int)) (by decide) rfl ?_
  intro pr en st mi args below meth co s₁ B hml hv
  obtain ⟨rfl, hG, hP⟩ := hv
  have hr := B.returns
  have hlk := B.notSynchronized
  have SS : jS pr mi co cX0_cell 6 st _ RX0 := ⟨B.exec, B.bytes, hml, findClass_of_methodNamed B.named, fun w hw => atoms_spec (ws := (jw yX0_cell cX0_cell 6 (some .int))) B.pre w (List.mem_cons_of_mem _ hw)⟩
  have hl := lv_entry ([.ref (q 5), .int (J x), .int (J y)]) (n := 6) (Nat.le_of_ble_eq_true rfl)
  rw [lg_entry_eq]
  generalize (lg_sl ([.ref (q 5), .int (J x), .int (J y)]) ++ List.replicate (6 - (lg_sl ([.ref (q 5), .int (J x), .int (J y)])).length) Slot.unset).toArray = ls at hl ⊢
  have hl : lv_has ls 6 [(0, .ref (q 5)), (1, .int (J x)), (2, .int (J y))] := hl
  refine lv_iload_n SS.1 SS.2.1 dX0_cell_0 rfl (lv_at hl 1 rfl) ?_
  refine lv_aload_n SS.1 SS.2.1 dX0_cell_1 rfl (lv_at hl 0 rfl) ?_
  refine j_get SS hG hP 5 (v := .int (J (u.2.2.2 13))) (C := RX0) (T := TX0) (N := 14) rfl rfl inX0 7 (by decide) (ref := "GridPolygons$Choices") kw_251 rfl rfl dX0_cell_2 ?_
  refine j_isub SS (x := x) (y := (u.2.2.2 13)) dX0_cell_5 ?_
  obtain ⟨co, eco⟩ : ∃ z : Int, z = (x - (u.2.2.2 13)) := ⟨_, rfl⟩
  rw [← eco]
  refine lv_istore_n (lv' := [(3, .int (J co)), (0, .ref (q 5)), (1, .int (J x)), (2, .int (J y))]) SS.1 SS.2.1 dX0_cell_6 rfl hl (by decide) rfl (fun ls hl => ?_)
  refine lv_iload_n SS.1 SS.2.1 dX0_cell_7 rfl (lv_at hl 3 rfl) ?_
  refine lv_aload_n SS.1 SS.2.1 dX0_cell_8 rfl (lv_at hl 1 rfl) ?_
  refine j_get SS hG hP 5 (v := .int (J (u.2.2.2 14))) (C := RX0) (T := TX0) (N := 14) rfl rfl inX0 8 (by decide) (ref := "GridPolygons$Choices") kw_252 rfl rfl dX0_cell_9 ?_
  refine j_isub SS (x := y) (y := (u.2.2.2 14)) dX0_cell_12 ?_
  obtain ⟨ro, ero⟩ : ∃ z : Int, z = (y - (u.2.2.2 14)) := ⟨_, rfl⟩
  rw [← ero]
  refine lv_istore (lv' := [(4, .int (J ro)), (3, .int (J co)), (0, .ref (q 5)), (1, .int (J x)), (2, .int (J y))]) SS.1 SS.2.1 dX0_cell_13 hl (by decide) rfl (fun ls hl => ?_)
  refine lv_iload_n SS.1 SS.2.1 dX0_cell_15 rfl (lv_at hl 1 rfl) ?_
  refine j_if_lt SS (tgt := 41) (x := co) dX0_cell_16 (by decide) (by omega) (fun c_16 => ?_) (fun c_16 => ?_)
  · skip
    refine j_iconst SS dX0_cell_41 ?_
    exact W.iret SS.1 SS.2.1 hr (fun t0 ht hW => ⟨_, rfl, ⟨(-1), rfl, (by first | exact Or.inr ⟨fun q => by unfold inF9 at q; omega, rfl⟩ | (exfalso; omega) | exact Or.inl ⟨by unfold inF9; omega, by unfold ixF; rw [eco, ero]⟩)⟩, ht⟩) (fun _ h => nomatch h) dX0_cell_42 hlk
  · skip
    refine lv_iload_n SS.1 SS.2.1 dX0_cell_19 rfl (lv_at hl 1 rfl) ?_
    refine lv_aload_n SS.1 SS.2.1 dX0_cell_20 rfl (lv_at hl 2 rfl) ?_
    refine j_get SS hG hP 5 (v := .int (J (u.2.2.2 15))) (C := RX0) (T := TX0) (N := 14) rfl rfl inX0 9 (by decide) (ref := "GridPolygons$Choices") kw_253 rfl rfl dX0_cell_21 ?_
    refine j_icmp_ge SS (tgt := 41) (x := co) (y := (u.2.2.2 15)) dX0_cell_24 (by decide) (by omega) (by omega) (fun c_24 => ?_) (fun c_24 => ?_)
    · skip
      refine j_iconst SS dX0_cell_41 ?_
      exact W.iret SS.1 SS.2.1 hr (fun t0 ht hW => ⟨_, rfl, ⟨(-1), rfl, (by first | exact Or.inr ⟨fun q => by unfold inF9 at q; omega, rfl⟩ | (exfalso; omega) | exact Or.inl ⟨by unfold inF9; omega, by unfold ixF; rw [eco, ero]⟩)⟩, ht⟩) (fun _ h => nomatch h) dX0_cell_42 hlk
    · skip
      refine lv_iload SS.1 SS.2.1 dX0_cell_27 (lv_at hl 0 rfl) ?_
      refine j_if_lt SS (tgt := 41) (x := ro) dX0_cell_29 (by decide) (by omega) (fun c_29 => ?_) (fun c_29 => ?_)
      · skip
        refine j_iconst SS dX0_cell_41 ?_
        exact W.iret SS.1 SS.2.1 hr (fun t0 ht hW => ⟨_, rfl, ⟨(-1), rfl, (by first | exact Or.inr ⟨fun q => by unfold inF9 at q; omega, rfl⟩ | (exfalso; omega) | exact Or.inl ⟨by unfold inF9; omega, by unfold ixF; rw [eco, ero]⟩)⟩, ht⟩) (fun _ h => nomatch h) dX0_cell_42 hlk
      · skip
        refine lv_iload SS.1 SS.2.1 dX0_cell_32 (lv_at hl 0 rfl) ?_
        refine lv_aload_n SS.1 SS.2.1 dX0_cell_34 rfl (lv_at hl 2 rfl) ?_
        refine j_get SS hG hP 5 (v := .int (J (u.2.2.2 16))) (C := RX0) (T := TX0) (N := 14) rfl rfl inX0 10 (by decide) (ref := "GridPolygons$Choices") kw_254 rfl rfl dX0_cell_35 ?_
        refine j_icmp_lt SS (tgt := 43) (x := ro) (y := (u.2.2.2 16)) dX0_cell_38 (by decide) (by omega) (by omega) (fun c_38 => ?_) (fun c_38 => ?_)
        · skip
          refine lv_iload_n SS.1 SS.2.1 dX0_cell_43 rfl (lv_at hl 1 rfl) ?_
          refine lv_aload_n SS.1 SS.2.1 dX0_cell_44 rfl (lv_at hl 2 rfl) ?_
          refine j_get SS hG hP 5 (v := .int (J (u.2.2.2 16))) (C := RX0) (T := TX0) (N := 14) rfl rfl inX0 10 (by decide) (ref := "GridPolygons$Choices") kw_254 rfl rfl dX0_cell_45 ?_
          refine j_imul SS (x := co) (y := (u.2.2.2 16)) dX0_cell_48 ?_
          refine lv_iload SS.1 SS.2.1 dX0_cell_49 (lv_at hl 0 rfl) ?_
          refine j_iadd SS (x := (co * (u.2.2.2 16))) (y := ro) dX0_cell_51 ?_
          refine lv_istore (lv' := [(5, .int (J ((co * (u.2.2.2 16)) + ro))), (4, .int (J ro)), (3, .int (J co)), (0, .ref (q 5)), (1, .int (J x)), (2, .int (J y))]) SS.1 SS.2.1 dX0_cell_52 hl (by decide) rfl (fun ls hl => ?_)
          have m1 := mulb (A := 80) (B := 81) (a := co) (b := u.2.2.2 16) (by omega) (by omega)
          have m2 : 0 ≤ co * u.2.2.2 16 := Int.mul_nonneg (by omega) (by omega)
          refine lv_iload SS.1 SS.2.1 dX0_cell_54 (lv_at hl 0 rfl) ?_
          refine j_sipush SS dX0_cell_56 (by decide +kernel) ?_
          refine j_icmp_ge SS (tgt := 67) (x := ((co * (u.2.2.2 16)) + ro)) (y := 6561) dX0_cell_59 (by decide) (by omega) (by decide) (fun c_59 => ?_) (fun c_59 => ?_)
          · skip
            refine j_iconst SS dX0_cell_67 ?_
            exact W.iret SS.1 SS.2.1 hr (fun t0 ht hW => ⟨_, rfl, ⟨(-1), rfl, (by first | exact Or.inr ⟨fun q => by unfold inF9 at q; omega, rfl⟩ | (exfalso; omega) | exact Or.inl ⟨by unfold inF9; omega, by unfold ixF; rw [eco, ero]⟩)⟩, ht⟩) (fun _ h => nomatch h) dX0_cell_68 hlk
          · skip
            refine lv_iload SS.1 SS.2.1 dX0_cell_62 (lv_at hl 0 rfl) ?_
            refine lv_goto (tgt := 68) SS.1 SS.2.1 dX0_cell_64 (by decide) ?_
            exact W.iret SS.1 SS.2.1 hr (fun t0 ht hW => ⟨_, rfl, ⟨((co * (u.2.2.2 16)) + ro), rfl, (by first | exact Or.inr ⟨fun q => by unfold inF9 at q; omega, rfl⟩ | (exfalso; omega) | exact Or.inl ⟨by unfold inF9; omega, by unfold ixF; rw [eco, ero]⟩)⟩, ht⟩) (fun _ h => nomatch h) dX0_cell_68 hlk
        · skip
          refine j_iconst SS dX0_cell_41 ?_
          exact W.iret SS.1 SS.2.1 hr (fun t0 ht hW => ⟨_, rfl, ⟨(-1), rfl, (by first | exact Or.inr ⟨fun q => by unfold inF9 at q; omega, rfl⟩ | (exfalso; omega) | exact Or.inl ⟨by unfold inF9; omega, by unfold ixF; rw [eco, ero]⟩)⟩, ht⟩) (fun _ h => nomatch h) dX0_cell_42 hlk

set_option maxHeartbeats 4000000 in
set_option maxRecDepth 100000 in
theorem c_X0_waysTo3_0 (l : Launch) (D : JD) (q : Nat → Nat) (u : CS) (x : Int) (y : Int) (p0 : (-40 ≤ u.2.2.2 13 ∧ u.2.2.2 13 ≤ 40) ∧ (-40 ≤ u.2.2.2 14 ∧ u.2.2.2 14 ≤ 40) ∧ (-79 ≤ u.2.2.2 15 ∧ u.2.2.2 15 ≤ 81) ∧ (-79 ≤ u.2.2.2 16 ∧ u.2.2.2 16 ≤ 81)) (p1 : -2000000 ≤ x ∧ x ≤ 2000000) (p2 : -2000000 ≤ y ∧ y ≤ 2000000) : Met l yX0_waysTo (jw yX0_waysTo cX0_waysTo 5 (some .long)) (jr 1 25) (jP [.ref (q 5), .ref (q 67), .int (J x), .int (J y)] D (fun H => va_P D.1 j_cl (cW D q u) H)) (vp_Sl (fun x9 => x9 = arF (u.2.2.1 0) (u.2.2.2 13) (u.2.2.2 14) (u.2.2.2 15) (u.2.2.2 16) x y)) 0 0 (fun _ => False) := by
  refine Met.ofW (cc := cX0_waysTo) (maxL := 5) (ret := (some .long)) (by decide) rfl ?_
  intro pr en st mi args below meth co s₁ B hml hv
  obtain ⟨rfl, hG, hP⟩ := hv
  have hr := B.returns
  have hlk := B.notSynchronized
  have SS : jS pr mi co cX0_waysTo 5 st _ RX0 := ⟨B.exec, B.bytes, hml, findClass_of_methodNamed B.named, fun w hw => atoms_spec (ws := (jw yX0_waysTo cX0_waysTo 5 (some .long))) B.pre w (List.mem_cons_of_mem _ hw)⟩
  have hl := lv_entry ([.ref (q 5), .ref (q 67), .int (J x), .int (J y)]) (n := 5) (Nat.le_of_ble_eq_true rfl)
  rw [lg_entry_eq]
  generalize (lg_sl ([.ref (q 5), .ref (q 67), .int (J x), .int (J y)]) ++ List.replicate (5 - (lg_sl ([.ref (q 5), .ref (q 67), .int (J x), .int (J y)])).length) Slot.unset).toArray = ls at hl ⊢
  have hl : lv_has ls 5 [(0, .ref (q 5)), (1, .ref (q 67)), (2, .int (J x)), (3, .int (J y))] := hl
  refine lv_aload_n SS.1 SS.2.1 dX0_waysTo_0 rfl (lv_at hl 0 rfl) ?_
  refine lv_iload_n SS.1 SS.2.1 dX0_waysTo_1 rfl (lv_at hl 2 rfl) ?_
  refine lv_iload_n SS.1 SS.2.1 dX0_waysTo_2 rfl (lv_at hl 3 rfl) ?_
  refine j_vRi SS (As := [.int (J x), .int (J y)]) (rest := []) (c_X0_cell3 l D q u  x y (show (-40 ≤ (u.2.2.2 13) ∧ (u.2.2.2 13) ≤ 40) ∧ (-40 ≤ (u.2.2.2 14) ∧ (u.2.2.2 14) ≤ 40) ∧ (-79 ≤ (u.2.2.2 15) ∧ (u.2.2.2 15) ≤ 81) ∧ (-79 ≤ (u.2.2.2 16) ∧ (u.2.2.2 16) ≤ 81) from (p0)) (show -2000000 ≤ x ∧ x ≤ 2000000 from (p1)) (show -2000000 ≤ y ∧ y ≤ 2000000 from (p2))) mf_X0_cell kw_717 hG hP hP (ci := 0) (q0 := 5) rfl rfl rfl rfl hl.1 ⟨⟨Nat.le_of_ble_eq_true rfl, Nat.le_of_ble_eq_true rfl⟩, Nat.le_of_ble_eq_true rfl, Nat.le_refl _, Nat.le_refl _⟩ rfl dX0_waysTo_3 (fun z_3 h_3 => ?_)
  have h_3 : (inF9 ((u.2.2.2 13)) ((u.2.2.2 14)) ((u.2.2.2 15)) ((u.2.2.2 16)) x y ∧ z_3 = ixF ((u.2.2.2 13)) ((u.2.2.2 14)) ((u.2.2.2 16)) x y) ∨ (¬ inF9 ((u.2.2.2 13)) ((u.2.2.2 14)) ((u.2.2.2 15)) ((u.2.2.2 16)) x y ∧ z_3 = -1) := h_3
  have hr3 : (0 ≤ z_3 ∧ z_3 < 6561) ∨ z_3 = -1 := by rcases h_3 with q | q; have := ixF_r (by omega) (by omega) q.1; omega; omega
  refine lv_istore (lv' := [(4, .int (J z_3)), (0, .ref (q 5)), (1, .ref (q 67)), (2, .int (J x)), (3, .int (J y))]) SS.1 SS.2.1 dX0_waysTo_6 hl (by decide) rfl (fun ls hl => ?_)
  refine lv_iload SS.1 SS.2.1 dX0_waysTo_8 (lv_at hl 0 rfl) ?_
  refine j_if_lt SS (tgt := 27) (x := z_3) dX0_waysTo_10 (by decide) (by omega) (fun c_10 => ?_) (fun c_10 => ?_)
  · skip
    refine lv_lconst (v := 0) SS.1 SS.2.1 dX0_waysTo_27 (by decide +kernel) ?_
    exact W.lret SS.1 SS.2.1 hr (fun t0 ht hW => ⟨_, rfl, (by first | (exfalso; omega) | (rcases h_3 with q | q; (rw [arF_p q.1, ← q.2]); omega) | (rcases h_3 with q | q; (exfalso; have := ixF_r (by omega) (by omega) q.1; omega); rw [arF_n q.1])), ht⟩) (fun _ h => nomatch h) dX0_waysTo_28 hlk
  · skip
    refine lv_iload SS.1 SS.2.1 dX0_waysTo_13 (lv_at hl 0 rfl) ?_
    refine lv_aload_n SS.1 SS.2.1 dX0_waysTo_15 rfl (lv_at hl 2 rfl) ?_
    refine va_alen SS.1 SS.2.1 hG.1 hP 67 1 rfl rfl (v := J (6561 : Int)) (by first | rfl | exact J_nat _) dX0_waysTo_16 ?_
    refine j_icmp_ge SS (tgt := 27) (x := z_3) (y := 6561) dX0_waysTo_17 (by decide) (by omega) (by decide) (fun c_17 => ?_) (fun c_17 => ?_)
    · skip
      refine lv_lconst (v := 0) SS.1 SS.2.1 dX0_waysTo_27 (by decide +kernel) ?_
      exact W.lret SS.1 SS.2.1 hr (fun t0 ht hW => ⟨_, rfl, (by first | (exfalso; omega) | (rcases h_3 with q | q; (rw [arF_p q.1, ← q.2]); omega) | (rcases h_3 with q | q; (exfalso; have := ixF_r (by omega) (by omega) q.1; omega); rw [arF_n q.1])), ht⟩) (fun _ h => nomatch h) dX0_waysTo_28 hlk
    · skip
      refine lv_aload_n SS.1 SS.2.1 dX0_waysTo_20 rfl (lv_at hl 2 rfl) ?_
      refine lv_iload SS.1 SS.2.1 dX0_waysTo_21 (lv_at hl 0 rfl) ?_
      refine j_lald SS hG hP 67 (n := 6561) (f := (u.2.2.1 0)) rfl (z := z_3) (by omega) (by omega) dX0_waysTo_23 ?_
      refine lv_goto (tgt := 28) SS.1 SS.2.1 dX0_waysTo_24 (by decide) ?_
      exact W.lret SS.1 SS.2.1 hr (fun t0 ht hW => ⟨_, rfl, (by first | (exfalso; omega) | (rcases h_3 with q | q; (rw [arF_p q.1, ← q.2]); omega) | (rcases h_3 with q | q; (exfalso; have := ixF_r (by omega) (by omega) q.1; omega); rw [arF_n q.1])), ht⟩) (fun _ h => nomatch h) dX0_waysTo_28 hlk

set_option maxHeartbeats 4000000 in
set_option maxRecDepth 100000 in
theorem c_X0_waysTo3_1 (l : Launch) (D : JD) (q : Nat → Nat) (u : CS) (x : Int) (y : Int) (p0 : (-40 ≤ u.2.2.2 13 ∧ u.2.2.2 13 ≤ 40) ∧ (-40 ≤ u.2.2.2 14 ∧ u.2.2.2 14 ≤ 40) ∧ (-79 ≤ u.2.2.2 15 ∧ u.2.2.2 15 ≤ 81) ∧ (-79 ≤ u.2.2.2 16 ∧ u.2.2.2 16 ≤ 81)) (p1 : -2000000 ≤ x ∧ x ≤ 2000000) (p2 : -2000000 ≤ y ∧ y ≤ 2000000) : Met l yX0_waysTo (jw yX0_waysTo cX0_waysTo 5 (some .long)) (jr 1 25) (jP [.ref (q 5), .ref (q 68), .int (J x), .int (J y)] D (fun H => va_P D.1 j_cl (cW D q u) H)) (vp_Sl (fun x9 => x9 = arF (u.2.2.1 1) (u.2.2.2 13) (u.2.2.2 14) (u.2.2.2 15) (u.2.2.2 16) x y)) 0 0 (fun _ => False) := by
  refine Met.ofW (cc := cX0_waysTo) (maxL := 5) (ret := (some .long)) (by decide) rfl ?_
  intro pr en st mi args below meth co s₁ B hml hv
  obtain ⟨rfl, hG, hP⟩ := hv
  have hr := B.returns
  have hlk := B.notSynchronized
  have SS : jS pr mi co cX0_waysTo 5 st _ RX0 := ⟨B.exec, B.bytes, hml, findClass_of_methodNamed B.named, fun w hw => atoms_spec (ws := (jw yX0_waysTo cX0_waysTo 5 (some .long))) B.pre w (List.mem_cons_of_mem _ hw)⟩
  have hl := lv_entry ([.ref (q 5), .ref (q 68), .int (J x), .int (J y)]) (n := 5) (Nat.le_of_ble_eq_true rfl)
  rw [lg_entry_eq]
  generalize (lg_sl ([.ref (q 5), .ref (q 68), .int (J x), .int (J y)]) ++ List.replicate (5 - (lg_sl ([.ref (q 5), .ref (q 68), .int (J x), .int (J y)])).length) Slot.unset).toArray = ls at hl ⊢
  have hl : lv_has ls 5 [(0, .ref (q 5)), (1, .ref (q 68)), (2, .int (J x)), (3, .int (J y))] := hl
  refine lv_aload_n SS.1 SS.2.1 dX0_waysTo_0 rfl (lv_at hl 0 rfl) ?_
  refine lv_iload_n SS.1 SS.2.1 dX0_waysTo_1 rfl (lv_at hl 2 rfl) ?_
  refine lv_iload_n SS.1 SS.2.1 dX0_waysTo_2 rfl (lv_at hl 3 rfl) ?_
  refine j_vRi SS (As := [.int (J x), .int (J y)]) (rest := []) (c_X0_cell3 l D q u  x y (show (-40 ≤ (u.2.2.2 13) ∧ (u.2.2.2 13) ≤ 40) ∧ (-40 ≤ (u.2.2.2 14) ∧ (u.2.2.2 14) ≤ 40) ∧ (-79 ≤ (u.2.2.2 15) ∧ (u.2.2.2 15) ≤ 81) ∧ (-79 ≤ (u.2.2.2 16) ∧ (u.2.2.2 16) ≤ 81) from (p0)) (show -2000000 ≤ x ∧ x ≤ 2000000 from (p1)) (show -2000000 ≤ y ∧ y ≤ 2000000 from (p2))) mf_X0_cell kw_717 hG hP hP (ci := 0) (q0 := 5) rfl rfl rfl rfl hl.1 ⟨⟨Nat.le_of_ble_eq_true rfl, Nat.le_of_ble_eq_true rfl⟩, Nat.le_of_ble_eq_true rfl, Nat.le_refl _, Nat.le_refl _⟩ rfl dX0_waysTo_3 (fun z_3 h_3 => ?_)
  have h_3 : (inF9 ((u.2.2.2 13)) ((u.2.2.2 14)) ((u.2.2.2 15)) ((u.2.2.2 16)) x y ∧ z_3 = ixF ((u.2.2.2 13)) ((u.2.2.2 14)) ((u.2.2.2 16)) x y) ∨ (¬ inF9 ((u.2.2.2 13)) ((u.2.2.2 14)) ((u.2.2.2 15)) ((u.2.2.2 16)) x y ∧ z_3 = -1) := h_3
  have hr3 : (0 ≤ z_3 ∧ z_3 < 6561) ∨ z_3 = -1 := by rcases h_3 with q | q; have := ixF_r (by omega) (by omega) q.1; omega; omega
  refine lv_istore (lv' := [(4, .int (J z_3)), (0, .ref (q 5)), (1, .ref (q 68)), (2, .int (J x)), (3, .int (J y))]) SS.1 SS.2.1 dX0_waysTo_6 hl (by decide) rfl (fun ls hl => ?_)
  refine lv_iload SS.1 SS.2.1 dX0_waysTo_8 (lv_at hl 0 rfl) ?_
  refine j_if_lt SS (tgt := 27) (x := z_3) dX0_waysTo_10 (by decide) (by omega) (fun c_10 => ?_) (fun c_10 => ?_)
  · skip
    refine lv_lconst (v := 0) SS.1 SS.2.1 dX0_waysTo_27 (by decide +kernel) ?_
    exact W.lret SS.1 SS.2.1 hr (fun t0 ht hW => ⟨_, rfl, (by first | (exfalso; omega) | (rcases h_3 with q | q; (rw [arF_p q.1, ← q.2]); omega) | (rcases h_3 with q | q; (exfalso; have := ixF_r (by omega) (by omega) q.1; omega); rw [arF_n q.1])), ht⟩) (fun _ h => nomatch h) dX0_waysTo_28 hlk
  · skip
    refine lv_iload SS.1 SS.2.1 dX0_waysTo_13 (lv_at hl 0 rfl) ?_
    refine lv_aload_n SS.1 SS.2.1 dX0_waysTo_15 rfl (lv_at hl 2 rfl) ?_
    refine va_alen SS.1 SS.2.1 hG.1 hP 68 1 rfl rfl (v := J (6561 : Int)) (by first | rfl | exact J_nat _) dX0_waysTo_16 ?_
    refine j_icmp_ge SS (tgt := 27) (x := z_3) (y := 6561) dX0_waysTo_17 (by decide) (by omega) (by decide) (fun c_17 => ?_) (fun c_17 => ?_)
    · skip
      refine lv_lconst (v := 0) SS.1 SS.2.1 dX0_waysTo_27 (by decide +kernel) ?_
      exact W.lret SS.1 SS.2.1 hr (fun t0 ht hW => ⟨_, rfl, (by first | (exfalso; omega) | (rcases h_3 with q | q; (rw [arF_p q.1, ← q.2]); omega) | (rcases h_3 with q | q; (exfalso; have := ixF_r (by omega) (by omega) q.1; omega); rw [arF_n q.1])), ht⟩) (fun _ h => nomatch h) dX0_waysTo_28 hlk
    · skip
      refine lv_aload_n SS.1 SS.2.1 dX0_waysTo_20 rfl (lv_at hl 2 rfl) ?_
      refine lv_iload SS.1 SS.2.1 dX0_waysTo_21 (lv_at hl 0 rfl) ?_
      refine j_lald SS hG hP 68 (n := 6561) (f := (u.2.2.1 1)) rfl (z := z_3) (by omega) (by omega) dX0_waysTo_23 ?_
      refine lv_goto (tgt := 28) SS.1 SS.2.1 dX0_waysTo_24 (by decide) ?_
      exact W.lret SS.1 SS.2.1 hr (fun t0 ht hW => ⟨_, rfl, (by first | (exfalso; omega) | (rcases h_3 with q | q; (rw [arF_p q.1, ← q.2]); omega) | (rcases h_3 with q | q; (exfalso; have := ixF_r (by omega) (by omega) q.1; omega); rw [arF_n q.1])), ht⟩) (fun _ h => nomatch h) dX0_waysTo_28 hlk

set_option maxHeartbeats 4000000 in
set_option maxRecDepth 100000 in
theorem c_X0_takeSide3 (l : Launch) (D : JD) (q : Nat → Nat) (u : CS) (A : Nat → Prop) (hD : va_D A (cW D q u)) (r : Nat) (hr : r ≤ 8) (sd : Int) (p0 : RB 40 u r) (p1 : -1000 ≤ sd ∧ sd ≤ 1000) : Met l yX0_takeSide (jw yX0_takeSide cX0_takeSide 3 none) (jr 3 66) (jP [.ref (q 5), .ref (q (9 + 5 * r)), .int (J sd)] D (fun H => va_P D.1 j_cl (cW D q u) H)) (jWv (fun u' => ∃ sp : Int, ∃ dx : Int, ∃ dy : Int, u' = (sV (sV (sV u 17 sp) 18 dx) 19 dy) ∧ ((sp = dS u r sd ∧ dx = (dX u r sd).tdiv (dS u r sd) ∧ dy = (dY u r sd).tdiv (dS u r sd)) ∧ (0 ≤ sp ∧ sp ≤ 80) ∧ (-80 ≤ dx ∧ dx ≤ 80) ∧ -80 ≤ dy ∧ dy ≤ 80)) (fun u' H => va_P D.1 j_cl (cW D q u') H) A) 0 0 A := by
  refine Met.ofW (cc := cX0_takeSide) (maxL := 3) (ret := none) (by decide) rfl ?_
  intro pr en st mi args below meth co s₁ B hml hv
  obtain ⟨rfl, hG, hP⟩ := hv
  have hr := B.returns
  have hlk := B.notSynchronized
  have SS : jS pr mi co cX0_takeSide 3 st _ RX0 := ⟨B.exec, B.bytes, hml, findClass_of_methodNamed B.named, fun w hw => atoms_spec (ws := (jw yX0_takeSide cX0_takeSide 3 none)) B.pre w (List.mem_cons_of_mem _ hw)⟩
  have hl := lv_entry ([.ref (q 5), .ref (q (9 + 5 * r)), .int (J sd)]) (n := 3) (Nat.le_of_ble_eq_true rfl)
  rw [lg_entry_eq]
  generalize (lg_sl ([.ref (q 5), .ref (q (9 + 5 * r)), .int (J sd)]) ++ List.replicate (3 - (lg_sl ([.ref (q 5), .ref (q (9 + 5 * r)), .int (J sd)])).length) Slot.unset).toArray = ls at hl ⊢
  have hl : lv_has ls 3 [(0, .ref (q 5)), (1, .ref (q (9 + 5 * r))), (2, .int (J sd))] := hl
  have hS : va_S A st.heap st.heap [] := va_S.rf
  have hc := p0.1
  have hrl := rl_b r
  refine lv_aload_n SS.1 SS.2.1 dX0_takeSide_0 rfl (lv_at hl 0 rfl) ?_
  refine lv_aload_n SS.1 SS.2.1 dX0_takeSide_1 rfl (lv_at hl 1 rfl) ?_
  refine lv_iload_n SS.1 SS.2.1 dX0_takeSide_2 rfl (lv_at hl 2 rfl) ?_
  refine j_vRi SS (As := [.int (J sd)]) (rest := [.ref (q 5)]) (c_X7_stepsOf l D q u r (by omega) (40 : Int) sd (show 0 ≤ (40 : Int) ∧ (40 : Int) ≤ 80 from (by omega)) (show RB (40 : Int) u r from (p0)) (show -1000 ≤ sd ∧ sd ≤ 1000 from (p1))) mf_X7_stepsOf kw_725 hG hP hP (ci := 7) (q0 := (9 + 5 * r)) rfl (cw_ring (by omega)) rfl rfl hl.1 ⟨⟨Nat.le_of_ble_eq_true rfl, Nat.le_of_ble_eq_true rfl⟩, Nat.le_of_ble_eq_true rfl, Nat.le_refl _, Nat.le_refl _⟩ rfl dX0_takeSide_3 (fun z_3 h_3 => ?_)
  have h_3 : z_3 = dS u r sd ∧ 0 ≤ z_3 ∧ z_3 ≤ 2 * (40 : Int) := h_3
  refine j_put SS hG hP (cW_D hD) hS 5 (v := .int (J z_3)) (ty := .int) (C := RX0) (T := TX0) (N := 14) rfl rfl inX0 tyX0 tyX0_ok nmX0 11 (by decide) (ref := "GridPolygons$Choices") kw_255 rfl rfl (by decide +kernel) rfl rfl (Nat.le_of_ble_eq_true rfl) dX0_takeSide_6 (ws' := (cW D q (sV u 17 z_3))) rfl (fun H locs hP hS => ?_)
  refine lv_aload_n SS.1 SS.2.1 dX0_takeSide_9 rfl (lv_at hl 0 rfl) ?_
  refine lv_aload_n SS.1 SS.2.1 dX0_takeSide_10 rfl (lv_at hl 0 rfl) ?_
  refine j_get SS hG hP 5 (v := .int (J z_3)) (C := RX0) (T := TX0) (N := 14) rfl rfl inX0 11 (by decide) (ref := "GridPolygons$Choices") kw_255 rfl rfl dX0_takeSide_11 ?_
  refine j_if_ne SS (tgt := 21) (x := z_3) dX0_takeSide_14 (by decide) (by omega) (fun c_14 => ?_) (fun c_14 => ?_)
  · skip
    refine lv_aload_n SS.1 SS.2.1 dX0_takeSide_21 rfl (lv_at hl 1 rfl) ?_
    refine lv_iload_n SS.1 SS.2.1 dX0_takeSide_22 rfl (lv_at hl 2 rfl) ?_
    refine j_vRi SS (As := [.int (J sd)]) (rest := [.ref (q 5)]) (c_X7_sideX l D q (sV u 17 z_3) r (by omega) (40 : Int) sd (show 0 ≤ (40 : Int) ∧ (40 : Int) ≤ 80 from (by omega)) (show RB (40 : Int) (sV u 17 z_3) r from (p0)) (show -1000 ≤ sd ∧ sd ≤ 1000 from (by omega))) mf_X7_sideX kw_726 hG hP hP (ci := 7) (q0 := (9 + 5 * r)) rfl (cw_ring (by omega)) rfl rfl hl.1 ⟨⟨Nat.le_of_ble_eq_true rfl, Nat.le_of_ble_eq_true rfl⟩, Nat.le_of_ble_eq_true rfl, Nat.le_refl _, Nat.le_refl _⟩ rfl dX0_takeSide_23 (fun z_23 h_23 => ?_)
    have h_23 : z_23 = dX (sV u 17 z_3) r sd ∧ -2 * (40 : Int) ≤ z_23 ∧ z_23 ≤ 2 * (40 : Int) := h_23
    refine lv_aload_n SS.1 SS.2.1 dX0_takeSide_26 rfl (lv_at hl 0 rfl) ?_
    refine j_get SS hG hP 5 (v := .int (J z_3)) (C := RX0) (T := TX0) (N := 14) rfl rfl inX0 11 (by decide) (ref := "GridPolygons$Choices") kw_255 rfl rfl dX0_takeSide_27 ?_
    have td1 := td_b (a := z_23) (b := z_3) (K := 80) (by omega)
    refine j_idiv SS (x := z_23) (y := z_3) dX0_takeSide_30 (by omega) (by omega) (by omega) ?_
    refine j_put SS hG hP (cW_D hD) hS 5 (v := .int (J (Int.tdiv z_23 z_3))) (ty := .int) (C := RX0) (T := TX0) (N := 14) rfl rfl inX0 tyX0 tyX0_ok nmX0 12 (by decide) (ref := "GridPolygons$Choices") kw_256 rfl rfl (by decide +kernel) rfl rfl (Nat.le_of_ble_eq_true rfl) dX0_takeSide_31 (ws' := (cW D q (sV (sV u 17 z_3) 18 (Int.tdiv z_23 z_3)))) rfl (fun H locs hP hS => ?_)
    refine lv_aload_n SS.1 SS.2.1 dX0_takeSide_34 rfl (lv_at hl 0 rfl) ?_
    refine lv_aload_n SS.1 SS.2.1 dX0_takeSide_35 rfl (lv_at hl 0 rfl) ?_
    refine j_get SS hG hP 5 (v := .int (J z_3)) (C := RX0) (T := TX0) (N := 14) rfl rfl inX0 11 (by decide) (ref := "GridPolygons$Choices") kw_255 rfl rfl dX0_takeSide_36 ?_
    refine j_if_ne SS (tgt := 46) (x := z_3) dX0_takeSide_39 (by decide) (by omega) (fun c_39 => ?_) (fun c_39 => ?_)
    · skip
      refine lv_aload_n SS.1 SS.2.1 dX0_takeSide_46 rfl (lv_at hl 1 rfl) ?_
      refine lv_iload_n SS.1 SS.2.1 dX0_takeSide_47 rfl (lv_at hl 2 rfl) ?_
      refine j_vRi SS (As := [.int (J sd)]) (rest := [.ref (q 5)]) (c_X7_sideY l D q (sV (sV u 17 z_3) 18 (Int.tdiv z_23 z_3)) r (by omega) (40 : Int) sd (show 0 ≤ (40 : Int) ∧ (40 : Int) ≤ 80 from (by omega)) (show RB (40 : Int) (sV (sV u 17 z_3) 18 (Int.tdiv z_23 z_3)) r from (p0)) (show -1000 ≤ sd ∧ sd ≤ 1000 from (by omega))) mf_X7_sideY kw_727 hG hP hP (ci := 7) (q0 := (9 + 5 * r)) rfl (cw_ring (by omega)) rfl rfl hl.1 ⟨⟨Nat.le_of_ble_eq_true rfl, Nat.le_of_ble_eq_true rfl⟩, Nat.le_of_ble_eq_true rfl, Nat.le_refl _, Nat.le_refl _⟩ rfl dX0_takeSide_48 (fun z_48 h_48 => ?_)
      have h_48 : z_48 = dY (sV (sV u 17 z_3) 18 (Int.tdiv z_23 z_3)) r sd ∧ -2 * (40 : Int) ≤ z_48 ∧ z_48 ≤ 2 * (40 : Int) := h_48
      refine lv_aload_n SS.1 SS.2.1 dX0_takeSide_51 rfl (lv_at hl 0 rfl) ?_
      refine j_get SS hG hP 5 (v := .int (J z_3)) (C := RX0) (T := TX0) (N := 14) rfl rfl inX0 11 (by decide) (ref := "GridPolygons$Choices") kw_255 rfl rfl dX0_takeSide_52 ?_
      have td2 := td_b (a := z_48) (b := z_3) (K := 80) (by omega)
      refine j_idiv SS (x := z_48) (y := z_3) dX0_takeSide_55 (by omega) (by omega) (by omega) ?_
      refine j_put SS hG hP (cW_D hD) hS 5 (v := .int (J (Int.tdiv z_48 z_3))) (ty := .int) (C := RX0) (T := TX0) (N := 14) rfl rfl inX0 tyX0 tyX0_ok nmX0 13 (by decide) (ref := "GridPolygons$Choices") kw_257 rfl rfl (by decide +kernel) rfl rfl (Nat.le_of_ble_eq_true rfl) dX0_takeSide_56 (ws' := (cW D q (sV (sV (sV u 17 z_3) 18 (Int.tdiv z_23 z_3)) 19 (Int.tdiv z_48 z_3)))) rfl (fun H locs hP hS => ?_)
      exact W.vret SS.1 SS.2.1 hr (fun t0 ht hW => ⟨⟨(sV (sV (sV u 17 z_3) 18 (Int.tdiv z_23 z_3)) 19 (Int.tdiv z_48 z_3)), rfl, (⟨z_3, (Int.tdiv z_23 z_3), (Int.tdiv z_48 z_3), rfl, ⟨⟨h_3.1, by first | (rw [h_23.1, h_3.1]; rfl) | (rw [show dS u r sd = 0 by rw [← h_3.1]; omega, Int.tdiv_zero]), by first | (rw [h_48.1, h_3.1]; rfl) | (rw [show dS u r sd = 0 by rw [← h_3.1]; omega, Int.tdiv_zero])⟩, by omega, by omega, by omega⟩⟩), by show va_P D.1 j_cl (cW D q (sV (sV (sV u 17 z_3) 18 (Int.tdiv z_23 z_3)) 19 (Int.tdiv z_48 z_3))) t0.heap; rw [ht]; first | exact hP | (simp only [sC_id, sX_id, sY_id, sH_id, sT_id, sV_id]; exact hP)⟩, hS.F ht⟩) hS.2.2 dX0_takeSide_59 hlk
    · skip
      refine j_iconst SS dX0_takeSide_42 ?_
      refine lv_goto (tgt := 56) SS.1 SS.2.1 dX0_takeSide_43 (by decide) ?_
      refine j_put SS hG hP (cW_D hD) hS 5 (v := .int (J 0)) (ty := .int) (C := RX0) (T := TX0) (N := 14) rfl rfl inX0 tyX0 tyX0_ok nmX0 13 (by decide) (ref := "GridPolygons$Choices") kw_257 rfl rfl (by decide +kernel) rfl rfl (Nat.le_of_ble_eq_true rfl) dX0_takeSide_56 (ws' := (cW D q (sV (sV (sV u 17 z_3) 18 (Int.tdiv z_23 z_3)) 19 0))) rfl (fun H locs hP hS => ?_)
      exact W.vret SS.1 SS.2.1 hr (fun t0 ht hW => ⟨⟨(sV (sV (sV u 17 z_3) 18 (Int.tdiv z_23 z_3)) 19 0), rfl, (⟨z_3, (Int.tdiv z_23 z_3), 0, rfl, ⟨⟨h_3.1, by first | (rw [h_23.1, h_3.1]; rfl) | (rw [show dS u r sd = 0 by rw [← h_3.1]; omega, Int.tdiv_zero]), by first | (rw [h_48.1, h_3.1]; rfl) | (rw [show dS u r sd = 0 by rw [← h_3.1]; omega, Int.tdiv_zero])⟩, by omega, by omega, by omega⟩⟩), by show va_P D.1 j_cl (cW D q (sV (sV (sV u 17 z_3) 18 (Int.tdiv z_23 z_3)) 19 0)) t0.heap; rw [ht]; first | exact hP | (simp only [sC_id, sX_id, sY_id, sH_id, sT_id, sV_id]; exact hP)⟩, hS.F ht⟩) hS.2.2 dX0_takeSide_59 hlk
  · skip
    refine j_iconst SS dX0_takeSide_17 ?_
    refine lv_goto (tgt := 31) SS.1 SS.2.1 dX0_takeSide_18 (by decide) ?_
    refine j_put SS hG hP (cW_D hD) hS 5 (v := .int (J 0)) (ty := .int) (C := RX0) (T := TX0) (N := 14) rfl rfl inX0 tyX0 tyX0_ok nmX0 12 (by decide) (ref := "GridPolygons$Choices") kw_256 rfl rfl (by decide +kernel) rfl rfl (Nat.le_of_ble_eq_true rfl) dX0_takeSide_31 (ws' := (cW D q (sV (sV u 17 z_3) 18 0))) rfl (fun H locs hP hS => ?_)
    refine lv_aload_n SS.1 SS.2.1 dX0_takeSide_34 rfl (lv_at hl 0 rfl) ?_
    refine lv_aload_n SS.1 SS.2.1 dX0_takeSide_35 rfl (lv_at hl 0 rfl) ?_
    refine j_get SS hG hP 5 (v := .int (J z_3)) (C := RX0) (T := TX0) (N := 14) rfl rfl inX0 11 (by decide) (ref := "GridPolygons$Choices") kw_255 rfl rfl dX0_takeSide_36 ?_
    refine j_if_ne SS (tgt := 46) (x := z_3) dX0_takeSide_39 (by decide) (by omega) (fun c_39 => ?_) (fun c_39 => ?_)
    · skip
      refine lv_aload_n SS.1 SS.2.1 dX0_takeSide_46 rfl (lv_at hl 1 rfl) ?_
      refine lv_iload_n SS.1 SS.2.1 dX0_takeSide_47 rfl (lv_at hl 2 rfl) ?_
      refine j_vRi SS (As := [.int (J sd)]) (rest := [.ref (q 5)]) (c_X7_sideY l D q (sV (sV u 17 z_3) 18 0) r (by omega) (40 : Int) sd (show 0 ≤ (40 : Int) ∧ (40 : Int) ≤ 80 from (by omega)) (show RB (40 : Int) (sV (sV u 17 z_3) 18 0) r from (p0)) (show -1000 ≤ sd ∧ sd ≤ 1000 from (by omega))) mf_X7_sideY kw_727 hG hP hP (ci := 7) (q0 := (9 + 5 * r)) rfl (cw_ring (by omega)) rfl rfl hl.1 ⟨⟨Nat.le_of_ble_eq_true rfl, Nat.le_of_ble_eq_true rfl⟩, Nat.le_of_ble_eq_true rfl, Nat.le_refl _, Nat.le_refl _⟩ rfl dX0_takeSide_48 (fun z_48 h_48 => ?_)
      have h_48 : z_48 = dY (sV (sV u 17 z_3) 18 0) r sd ∧ -2 * (40 : Int) ≤ z_48 ∧ z_48 ≤ 2 * (40 : Int) := h_48
      refine lv_aload_n SS.1 SS.2.1 dX0_takeSide_51 rfl (lv_at hl 0 rfl) ?_
      refine j_get SS hG hP 5 (v := .int (J z_3)) (C := RX0) (T := TX0) (N := 14) rfl rfl inX0 11 (by decide) (ref := "GridPolygons$Choices") kw_255 rfl rfl dX0_takeSide_52 ?_
      have td2 := td_b (a := z_48) (b := z_3) (K := 80) (by omega)
      refine j_idiv SS (x := z_48) (y := z_3) dX0_takeSide_55 (by omega) (by omega) (by omega) ?_
      refine j_put SS hG hP (cW_D hD) hS 5 (v := .int (J (Int.tdiv z_48 z_3))) (ty := .int) (C := RX0) (T := TX0) (N := 14) rfl rfl inX0 tyX0 tyX0_ok nmX0 13 (by decide) (ref := "GridPolygons$Choices") kw_257 rfl rfl (by decide +kernel) rfl rfl (Nat.le_of_ble_eq_true rfl) dX0_takeSide_56 (ws' := (cW D q (sV (sV (sV u 17 z_3) 18 0) 19 (Int.tdiv z_48 z_3)))) rfl (fun H locs hP hS => ?_)
      exact W.vret SS.1 SS.2.1 hr (fun t0 ht hW => ⟨⟨(sV (sV (sV u 17 z_3) 18 0) 19 (Int.tdiv z_48 z_3)), rfl, (⟨z_3, 0, (Int.tdiv z_48 z_3), rfl, ⟨⟨h_3.1, by first | (rw [h_23.1, h_3.1]; rfl) | (rw [show dS u r sd = 0 by rw [← h_3.1]; omega, Int.tdiv_zero]), by first | (rw [h_48.1, h_3.1]; rfl) | (rw [show dS u r sd = 0 by rw [← h_3.1]; omega, Int.tdiv_zero])⟩, by omega, by omega, by omega⟩⟩), by show va_P D.1 j_cl (cW D q (sV (sV (sV u 17 z_3) 18 0) 19 (Int.tdiv z_48 z_3))) t0.heap; rw [ht]; first | exact hP | (simp only [sC_id, sX_id, sY_id, sH_id, sT_id, sV_id]; exact hP)⟩, hS.F ht⟩) hS.2.2 dX0_takeSide_59 hlk
    · skip
      refine j_iconst SS dX0_takeSide_42 ?_
      refine lv_goto (tgt := 56) SS.1 SS.2.1 dX0_takeSide_43 (by decide) ?_
      refine j_put SS hG hP (cW_D hD) hS 5 (v := .int (J 0)) (ty := .int) (C := RX0) (T := TX0) (N := 14) rfl rfl inX0 tyX0 tyX0_ok nmX0 13 (by decide) (ref := "GridPolygons$Choices") kw_257 rfl rfl (by decide +kernel) rfl rfl (Nat.le_of_ble_eq_true rfl) dX0_takeSide_56 (ws' := (cW D q (sV (sV (sV u 17 z_3) 18 0) 19 0))) rfl (fun H locs hP hS => ?_)
      exact W.vret SS.1 SS.2.1 hr (fun t0 ht hW => ⟨⟨(sV (sV (sV u 17 z_3) 18 0) 19 0), rfl, (⟨z_3, 0, 0, rfl, ⟨⟨h_3.1, by first | (rw [h_23.1, h_3.1]; rfl) | (rw [show dS u r sd = 0 by rw [← h_3.1]; omega, Int.tdiv_zero]), by first | (rw [h_48.1, h_3.1]; rfl) | (rw [show dS u r sd = 0 by rw [← h_3.1]; omega, Int.tdiv_zero])⟩, by omega, by omega, by omega⟩⟩), by show va_P D.1 j_cl (cW D q (sV (sV (sV u 17 z_3) 18 0) 19 0)) t0.heap; rw [ht]; first | exact hP | (simp only [sC_id, sX_id, sY_id, sH_id, sT_id, sV_id]; exact hP)⟩, hS.F ht⟩) hS.2.2 dX0_takeSide_59 hlk
