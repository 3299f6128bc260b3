
set_option maxHeartbeats 4000000 in
set_option maxRecDepth 100000 in
theorem c_X0_howMany3 (l : Launch) (D : JD) (q : Nat → Nat) (u : CS) (A : Nat → Prop) (hD : va_D A (cW D q u)) (r : Nat) (hr : r ≤ 8) (p0 : RB 40 u r) (p1 : 3 ≤ u.1.2.2.1 r) : Met l yX0_howMany (jw yX0_howMany cX0_howMany 4 (some .long)) (jr 4 88) (jP [.ref (q 5), .ref (q (9 + 5 * r))] D (fun H => va_P D.1 j_cl (cW D q u) H)) (jWL (fun x9 u' => ∃ lf : Int, ∃ bt : Int, ∃ wd : Int, ∃ tl : Int, ∃ sp : Int, ∃ dx : Int, ∃ dy : Int, ∃ w0 : Nat → Int64, ∃ w1 : Nat → Int64, u' = (sV (sV (sV (sV (sV (sV (sV (sL (sL u 0 w0) 1 w1) 13 lf) 14 bt) 15 wd) 16 tl) 17 sp) 18 dx) 19 dy) ∧ (cHS u r → x9 = MI (cdx u r) (cdy u r) (csn u r) (u.1.2.2.1 r).toNat 0 0)) (fun u' H => va_P D.1 j_cl (cW D q u') H) A) 0 0 A := by
  refine Met.ofW (cc := cX0_howMany) (maxL := 4) (ret := (some .long)) (by decide) rfl ?_
  intro pr en st mi args below meth co s₁ B hml hv
  obtain ⟨rfl, hG, hP⟩ := hv
  have hr := B.returns
  have hlk := B.notSynchronized
  have SS : jS pr mi co cX0_howMany 4 st _ RX0 := ⟨B.exec, B.bytes, hml, findClass_of_methodNamed B.named, fun w hw => atoms_spec (ws := (jw yX0_howMany cX0_howMany 4 (some .long))) B.pre w (List.mem_cons_of_mem _ hw)⟩
  have hl := lv_entry ([.ref (q 5), .ref (q (9 + 5 * r))]) (n := 4) (Nat.le_of_ble_eq_true rfl)
  rw [lg_entry_eq]
  generalize (lg_sl ([.ref (q 5), .ref (q (9 + 5 * r))]) ++ List.replicate (4 - (lg_sl ([.ref (q 5), .ref (q (9 + 5 * r))])).length) Slot.unset).toArray = ls at hl ⊢
  have hl : lv_has ls 4 [(0, .ref (q 5)), (1, .ref (q (9 + 5 * r)))] := hl
  have hS : va_S A st.heap st.heap [] := va_S.rf
  have hc := p0.1
  have hrl := rl_b r
  refine lv_aload_n SS.1 SS.2.1 dX0_howMany_0 rfl (lv_at hl 0 rfl) ?_
  refine lv_aload_n SS.1 SS.2.1 dX0_howMany_1 rfl (lv_at hl 1 rfl) ?_
  refine j_vWv SS (As := [.ref (q (9 + 5 * r))]) (rest := []) (c_X0_frame3 l D q u A (cW_D hD) r (by omega)  (show RB 40 u r from (p0)) (show 1 ≤ (u.1.2.2.1 r) from (by omega))) mf_X0_frame kw_704 hG hP hP (ci := 0) (q0 := 5) rfl rfl rfl hS (fun _ h => h) rfl hl.1 ⟨⟨Nat.le_of_ble_eq_true rfl, Nat.le_of_ble_eq_true rfl⟩, Nat.le_of_ble_eq_true rfl, Nat.le_refl _, Nat.le_refl _⟩ rfl dX0_howMany_2 (fun u2 H locs h_2 hP _ hS => ?_)
  obtain ⟨lf_2, bt_2, wd_2, tl_2, rfl, h_2⟩ := h_2
  have hP : va_P D.1 j_cl (cW D q (sV (sV (sV (sV u 13 lf_2) 14 bt_2) 15 wd_2) 16 tl_2)) H := hP
  have h_2 : FRc u r lf_2 bt_2 wd_2 tl_2 ∧ (-40 ≤ lf_2 ∧ lf_2 ≤ 40) ∧ (-40 ≤ bt_2 ∧ bt_2 ≤ 40) ∧ (1 ≤ wd_2 ∧ wd_2 ≤ 81) ∧ 1 ≤ tl_2 ∧ tl_2 ≤ 81 := h_2
  refine lv_aload_n SS.1 SS.2.1 dX0_howMany_5 rfl (lv_at hl 0 rfl) ?_
  refine j_get SS hG hP 5 (v := .ref (q 67)) (C := RX0) (T := TX0) (N := 14) rfl rfl inX0 0 (by decide) (ref := "GridPolygons$Choices") kw_243 rfl rfl dX0_howMany_6 ?_
  refine lv_lconst (v := 0) SS.1 SS.2.1 dX0_howMany_9 (by decide +kernel) ?_
  refine j_sWv SS (As := [.ref (q 67), .long 0]) (rest := []) (c_J7_fill_d0a16 l D (ws := (cW D q (sV (sV (sV (sV u 13 lf_2) 14 bt_2) 15 wd_2) 16 tl_2))) (A := A) (cW_D hD) 67 0 rfl (by first | decide | omega)) mf_J7_fill_d0a16 kw_712 hG hP hS (fun _ h => h) rfl hl.1 ⟨⟨Nat.le_of_ble_eq_true rfl, Nat.le_of_ble_eq_true rfl⟩, Nat.le_of_ble_eq_true rfl, Nat.le_refl _, Nat.le_refl _⟩ rfl dX0_howMany_10 (fun _ H locs _ hP _ hS => ?_)
  have hP : va_P D.1 j_cl (cW D q (sV (sV (sV (sV (sL u 0 (jfL (u.2.2.1 0) 0 6561)) 13 lf_2) 14 bt_2) 15 wd_2) 16 tl_2)) H := hP
  refine lv_aload_n SS.1 SS.2.1 dX0_howMany_13 rfl (lv_at hl 0 rfl) ?_
  refine lv_aload_n SS.1 SS.2.1 dX0_howMany_14 rfl (lv_at hl 1 rfl) ?_
  refine j_iconst SS dX0_howMany_15 ?_
  refine j_uRi SS (As := [.int (J 0)]) (rest := [.ref (q 5)]) (c_X8_x l D q (sV (sV (sV (sV (sL u 0 (jfL (u.2.2.1 0) 0 6561)) 13 lf_2) 14 bt_2) 15 wd_2) 16 tl_2) r (by omega) 0 (show -2147483648 ≤ (0 : Int) ∧ (0 : Int) ≤ 2147483647 from (by omega))) mu_7_x kw_715 hG hP hP (ci := 7) (q0 := (9 + 5 * r)) rfl (cw_ring (by omega)) rfl rfl hl.1 ⟨⟨Nat.le_of_ble_eq_true rfl, Nat.le_of_ble_eq_true rfl⟩, Nat.le_of_ble_eq_true rfl, Nat.le_refl _, Nat.le_refl _⟩ rfl dX0_howMany_16 (fun z_16 h_16 => ?_)
  have h_16 : z_16 = rx (sV (sV (sV (sV (sL u 0 (jfL (u.2.2.1 0) 0 6561)) 13 lf_2) 14 bt_2) 15 wd_2) 16 tl_2) r (0 : Int) ∧ ∀ K : Int, 0 ≤ K → RB K (sV (sV (sV (sV (sL u 0 (jfL (u.2.2.1 0) 0 6561)) 13 lf_2) 14 bt_2) 15 wd_2) 16 tl_2) r → -K ≤ z_16 ∧ z_16 ≤ K := h_16
  have hb_16 := h_16.2 40 (by omega) (p0)
  refine lv_aload_n SS.1 SS.2.1 dX0_howMany_19 rfl (lv_at hl 1 rfl) ?_
  refine j_iconst SS dX0_howMany_20 ?_
  refine j_uRi SS (As := [.int (J 0)]) (rest := [.int (J z_16), .ref (q 5)]) (c_X8_y l D q (sV (sV (sV (sV (sL u 0 (jfL (u.2.2.1 0) 0 6561)) 13 lf_2) 14 bt_2) 15 wd_2) 16 tl_2) r (by omega) 0 (show -2147483648 ≤ (0 : Int) ∧ (0 : Int) ≤ 2147483647 from (by omega))) mu_7_y kw_716 hG hP hP (ci := 7) (q0 := (9 + 5 * r)) rfl (cw_ring (by omega)) rfl rfl hl.1 ⟨⟨Nat.le_of_ble_eq_true rfl, Nat.le_of_ble_eq_true rfl⟩, Nat.le_of_ble_eq_true rfl, Nat.le_refl _, Nat.le_refl _⟩ rfl dX0_howMany_21 (fun z_21 h_21 => ?_)
  have h_21 : z_21 = ry9 (sV (sV (sV (sV (sL u 0 (jfL (u.2.2.1 0) 0 6561)) 13 lf_2) 14 bt_2) 15 wd_2) 16 tl_2) r (0 : Int) ∧ ∀ K : Int, 0 ≤ K → RB K (sV (sV (sV (sV (sL u 0 (jfL (u.2.2.1 0) 0 6561)) 13 lf_2) 14 bt_2) 15 wd_2) 16 tl_2) r → -K ≤ z_21 ∧ z_21 ≤ K := h_21
  have hb_21 := h_21.2 40 (by omega) (p0)
  refine j_vRi SS (As := [.int (J z_16), .int (J z_21)]) (rest := []) (c_X0_cell3 l D q (sV (sV (sV (sV (sL u 0 (jfL (u.2.2.1 0) 0 6561)) 13 lf_2) 14 bt_2) 15 wd_2) 16 tl_2)  z_16 z_21 (show (-40 ≤ lf_2 ∧ lf_2 ≤ 40) ∧ (-40 ≤ bt_2 ∧ bt_2 ≤ 40) ∧ (-79 ≤ wd_2 ∧ wd_2 ≤ 81) ∧ (-79 ≤ tl_2 ∧ tl_2 ≤ 81) from (by omega)) (show -2000000 ≤ z_16 ∧ z_16 ≤ 2000000 from (by omega)) (show -2000000 ≤ z_21 ∧ z_21 ≤ 2000000 from (by omega))) mf_X0_cell kw_717 hG hP hP (ci := 0) (q0 := 5) rfl rfl rfl rfl hl.1 ⟨⟨Nat.le_of_ble_eq_true rfl, Nat.le_of_ble_eq_true rfl⟩, Nat.le_of_ble_eq_true rfl, Nat.le_refl _, Nat.le_refl _⟩ rfl dX0_howMany_24 (fun z_24 h_24 => ?_)
  have h_24 : (inF9 (lf_2) (bt_2) (wd_2) (tl_2) z_16 z_21 ∧ z_24 = ixF (lf_2) (bt_2) (tl_2) z_16 z_21) ∨ (¬ inF9 (lf_2) (bt_2) (wd_2) (tl_2) z_16 z_21 ∧ z_24 = -1) := h_24
  have hz24 : z_24 = ixF lf_2 bt_2 tl_2 (rx u r 0) (ry9 u r 0) := by rcases h_24 with q | q; (rw [q.2]; congr 1; exact h_16.1; exact h_21.1); exact absurd (FRc_0 h_2.1 (by omega)) (by have k16 : z_16 = rx u r 0 := h_16.1; have k21 : z_21 = ry9 u r 0 := h_21.1; rw [← k16, ← k21]; exact q.1)
  have r24 := ixF_r h_2.1.1.2.1 h_2.1.1.2.2 (FRc_0 h_2.1 (by omega))
  refine lv_istore_n (lv' := [(2, .int (J z_24)), (0, .ref (q 5)), (1, .ref (q (9 + 5 * r)))]) SS.1 SS.2.1 dX0_howMany_27 rfl hl (by decide) rfl (fun ls hl => ?_)
  refine lv_iload_n SS.1 SS.2.1 dX0_howMany_28 rfl (lv_at hl 0 rfl) ?_
  refine j_if_ge SS (tgt := 34) (x := z_24) dX0_howMany_29 (by decide) (by omega) (fun c_29 => ?_) (fun c_29 => ?_)
  · skip
    refine lv_aload_n SS.1 SS.2.1 dX0_howMany_34 rfl (lv_at hl 1 rfl) ?_
    refine j_get SS hG hP 5 (v := .ref (q 67)) (C := RX0) (T := TX0) (N := 14) rfl rfl inX0 0 (by decide) (ref := "GridPolygons$Choices") kw_243 rfl rfl dX0_howMany_35 ?_
    refine lv_iload_n SS.1 SS.2.1 dX0_howMany_38 rfl (lv_at hl 0 rfl) ?_
    refine lv_lconst (v := 1) SS.1 SS.2.1 dX0_howMany_39 (by decide +kernel) ?_
    refine j_last SS hG hP (cW_D hD) hS 67 (n := 6561) (f := (jfL (u.2.2.1 0) 0 6561)) rfl (z := z_24) (v := 1) (by omega) (by omega) dX0_howMany_40 (ws' := (cW D q (sV (sV (sV (sV (sL u 0 (vp_updL (jfL (u.2.2.1 0) 0 6561) (z_24).toNat 1)) 13 lf_2) 14 bt_2) 15 wd_2) 16 tl_2))) rfl (fun H locs hP hS => ?_)
    refine j_iconst SS dX0_howMany_41 ?_
    refine lv_istore_n (lv' := [(3, .int (J 0)), (2, .int (J z_24)), (0, .ref (q 5)), (1, .ref (q (9 + 5 * r)))]) SS.1 SS.2.1 dX0_howMany_42 rfl hl (by decide) rfl (fun ls hl => ?_)
    have L_43 : ∀ (nn : Nat) (i : Int) (s1 : Int) (s2 : Int) (s3 : Int) (w2 : Nat → Int64) (w3 : Nat → Int64) (H : Heap) (locs : List Loc) (hP : va_P D.1 j_cl (cW D q (sV (sV (sV (sV (sV (sV (sV (sL (sL u 0 w2) 1 w3) 13 lf_2) 14 bt_2) 15 wd_2) 16 tl_2) 17 s1) 18 s2) 19 s3)) H) (hS : va_S A st.heap H locs) (ls : Array Slot) (hl : lv_has ls 4 [(0, .ref (q 5)), (1, .ref (q (9 + 5 * r))), (2, .int (J z_24)), (3, .int (J i))]) (i43_0 : 0 ≤ i ∧ i ≤ u.1.2.2.1 r) (i43_1 : PCi u r lf_2 bt_2 wd_2 tl_2 i.toNat w2), (u.1.2.2.1 r - i).toNat < nn → W pr l en (headSpec (jw yX0_howMany cX0_howMany 4 (some .long)) (jr 4 88)).room st mi (([.ref (q 5), .ref (q (9 + 5 * r))] : List Value).toArray) below meth co H locs 0 0 (MQ below (jWL (fun x9 u' => ∃ lf : Int, ∃ bt : Int, ∃ wd : Int, ∃ tl : Int, ∃ sp : Int, ∃ dx : Int, ∃ dy : Int, ∃ w0 : Nat → Int64, ∃ w1 : Nat → Int64, u' = (sV (sV (sV (sV (sV (sV (sV (sL (sL u 0 w0) 1 w1) 13 lf) 14 bt) 15 wd) 16 tl) 17 sp) 18 dx) 19 dy) ∧ (cHS u r → x9 = MI (cdx u r) (cdy u r) (csn u r) (u.1.2.2.1 r).toNat 0 0)) (fun u' H => va_P D.1 j_cl (cW D q u') H) A) (([.ref (q 5), .ref (q (9 + 5 * r))] : List Value).toArray) st 0 0 A) (F0 mi 43 ls []) := by
      intro nn
      induction nn with
      | zero => intros; omega
      | succ nn ih_43 =>
        intro i s1 s2 s3 w2 w3 H locs hP hS ls hl i43_0 i43_1 hm
        refine lv_iload_n SS.1 SS.2.1 dX0_howMany_43 rfl (lv_at hl 3 rfl) ?_
        refine lv_aload_n SS.1 SS.2.1 dX0_howMany_44 rfl (lv_at hl 1 rfl) ?_
        refine j_getS SS hG hP (9 + 5 * r) (v := .int (J (u.1.2.2.1 r))) (C := RX7) (T := TX7) (N := 3) (cw_ring (by omega)) rfl inX7 2 (by decide) (ref := "GridPolygons$Ring") kw_139 kw_132 rfl dX0_howMany_45 ?_
        refine j_icmp_ge SS (tgt := 83) (x := i) (y := (u.1.2.2.1 r)) dX0_howMany_48 (by decide) (by omega) (by omega) (fun c_48 => ?_) (fun c_48 => ?_)
        · skip
          refine lv_aload_n SS.1 SS.2.1 dX0_howMany_83 rfl (lv_at hl 0 rfl) ?_
          refine j_get SS hG hP 5 (v := .ref (q 67)) (C := RX0) (T := TX0) (N := 14) rfl rfl inX0 0 (by decide) (ref := "GridPolygons$Choices") kw_243 rfl rfl dX0_howMany_84 ?_
          refine lv_iload_n SS.1 SS.2.1 dX0_howMany_87 rfl (lv_at hl 2 rfl) ?_
          refine j_lald SS hG hP 67 (n := 6561) (f := w2) rfl (z := z_24) (by omega) (by omega) dX0_howMany_88 ?_
          exact W.lret SS.1 SS.2.1 hr (fun t0 ht hW => ⟨⟨_, (sV (sV (sV (sV (sV (sV (sV (sL (sL u 0 w2) 1 w3) 13 lf_2) 14 bt_2) 15 wd_2) 16 tl_2) 17 s1) 18 s2) 19 s3), rfl, (⟨lf_2, bt_2, wd_2, tl_2, s1, s2, s3, w2, w3, rfl, fun hH => PCi_e h_2.1 (by omega) hz24 (by rw [show i = u.1.2.2.1 r by omega] at i43_1; exact i43_1) hH⟩), by show va_P D.1 j_cl (cW D q (sV (sV (sV (sV (sV (sV (sV (sL (sL u 0 w2) 1 w3) 13 lf_2) 14 bt_2) 15 wd_2) 16 tl_2) 17 s1) 18 s2) 19 s3)) t0.heap; rw [ht]; first | exact hP | (simp only [sI_id, sL_id, sC_id, sX_id, sY_id, sH_id, sT_id, sV_id]; exact hP)⟩, hS.F ht⟩) hS.2.2 dX0_howMany_89 hlk
        · skip
          refine lv_aload_n SS.1 SS.2.1 dX0_howMany_51 rfl (lv_at hl 0 rfl) ?_
          refine lv_aload_n SS.1 SS.2.1 dX0_howMany_52 rfl (lv_at hl 1 rfl) ?_
          refine lv_iload_n SS.1 SS.2.1 dX0_howMany_53 rfl (lv_at hl 3 rfl) ?_
          refine j_vWv SS (As := [.ref (q (9 + 5 * r)), .int (J i)]) (rest := []) (c_X0_takeSide3 l D q (sV (sV (sV (sV (sV (sV (sV (sL (sL u 0 w2) 1 w3) 13 lf_2) 14 bt_2) 15 wd_2) 16 tl_2) 17 s1) 18 s2) 19 s3) A (cW_D hD) r (by omega) i (show RB 40 (sV (sV (sV (sV (sV (sV (sV (sL (sL u 0 w2) 1 w3) 13 lf_2) 14 bt_2) 15 wd_2) 16 tl_2) 17 s1) 18 s2) 19 s3) r from (p0)) (show -1000 ≤ i ∧ i ≤ 1000 from (by omega))) mf_X0_takeSide kw_721 hG hP hP (ci := 0) (q0 := 5) rfl rfl rfl hS (fun _ h => h) rfl hl.1 ⟨⟨Nat.le_of_ble_eq_true rfl, Nat.le_of_ble_eq_true rfl⟩, Nat.le_of_ble_eq_true rfl, Nat.le_refl _, Nat.le_refl _⟩ rfl dX0_howMany_54 (fun u54 H locs h_54 hP _ hS => ?_)
          obtain ⟨sp_54, dx_54, dy_54, rfl, h_54⟩ := h_54
          have hP : va_P D.1 j_cl (cW D q (sV (sV (sV (sV (sV (sV (sV (sL (sL u 0 w2) 1 w3) 13 lf_2) 14 bt_2) 15 wd_2) 16 tl_2) 17 sp_54) 18 dx_54) 19 dy_54)) H := hP
          have h_54 : (sp_54 = dS (sV (sV (sV (sV (sV (sV (sV (sL (sL u 0 w2) 1 w3) 13 lf_2) 14 bt_2) 15 wd_2) 16 tl_2) 17 s1) 18 s2) 19 s3) r i ∧ dx_54 = (dX (sV (sV (sV (sV (sV (sV (sV (sL (sL u 0 w2) 1 w3) 13 lf_2) 14 bt_2) 15 wd_2) 16 tl_2) 17 s1) 18 s2) 19 s3) r i).tdiv (dS (sV (sV (sV (sV (sV (sV (sV (sL (sL u 0 w2) 1 w3) 13 lf_2) 14 bt_2) 15 wd_2) 16 tl_2) 17 s1) 18 s2) 19 s3) r i) ∧ dy_54 = (dY (sV (sV (sV (sV (sV (sV (sV (sL (sL u 0 w2) 1 w3) 13 lf_2) 14 bt_2) 15 wd_2) 16 tl_2) 17 s1) 18 s2) 19 s3) r i).tdiv (dS (sV (sV (sV (sV (sV (sV (sV (sL (sL u 0 w2) 1 w3) 13 lf_2) 14 bt_2) 15 wd_2) 16 tl_2) 17 s1) 18 s2) 19 s3) r i)) ∧ (0 ≤ sp_54 ∧ sp_54 ≤ 80) ∧ (-80 ≤ dx_54 ∧ dx_54 ≤ 80) ∧ -80 ≤ dy_54 ∧ dy_54 ≤ 80 := h_54
          refine lv_aload_n SS.1 SS.2.1 dX0_howMany_57 rfl (lv_at hl 0 rfl) ?_
          refine j_vWv SS (As := []) (rest := []) (c_X0_spread3 l D q (sV (sV (sV (sV (sV (sV (sV (sL (sL u 0 w2) 1 w3) 13 lf_2) 14 bt_2) 15 wd_2) 16 tl_2) 17 sp_54) 18 dx_54) 19 dy_54) A (cW_D hD)   (show (-40 ≤ lf_2 ∧ lf_2 ≤ 40) ∧ (-40 ≤ bt_2 ∧ bt_2 ≤ 40) ∧ (-79 ≤ wd_2 ∧ wd_2 ≤ 81) ∧ (-79 ≤ tl_2 ∧ tl_2 ≤ 81) from (by omega)) (show (0 ≤ sp_54 ∧ sp_54 ≤ 80) ∧ (-80 ≤ dx_54 ∧ dx_54 ≤ 80) ∧ (-80 ≤ dy_54 ∧ dy_54 ≤ 80) from (by omega))) mf_X0_spread kw_728 hG hP hP (ci := 0) (q0 := 5) rfl rfl rfl hS (fun _ h => h) rfl hl.1 ⟨⟨Nat.le_of_ble_eq_true rfl, Nat.le_of_ble_eq_true rfl⟩, Nat.le_of_ble_eq_true rfl, Nat.le_refl _, Nat.le_refl _⟩ rfl dX0_howMany_58 (fun u58 H locs h_58 hP _ hS => ?_)
          obtain ⟨n1_58, rfl, h_58⟩ := h_58
          have hP : va_P D.1 j_cl (cW D q (sV (sV (sV (sV (sV (sV (sV (sL (sL u 0 w2) 1 n1_58) 13 lf_2) 14 bt_2) 15 wd_2) 16 tl_2) 17 sp_54) 18 dx_54) 19 dy_54)) H := hP
          have h_58 : (dx_54 ≠ 0 ∨ dy_54 ≠ 0) → SP9 (w2) n1_58 (lf_2) (bt_2) (wd_2) (tl_2) (dx_54) (dy_54) (sp_54).toNat (fun _ _ => True) := h_58
          refine lv_aload_n SS.1 SS.2.1 dX0_howMany_61 rfl (lv_at hl 0 rfl) ?_
          refine j_get SS hG hP 5 (v := .ref (q 68)) (C := RX0) (T := TX0) (N := 14) rfl rfl inX0 1 (by decide) (ref := "GridPolygons$Choices") kw_244 rfl rfl dX0_howMany_62 ?_
          refine j_iconst SS dX0_howMany_65 ?_
          refine lv_aload_n SS.1 SS.2.1 dX0_howMany_66 rfl (lv_at hl 0 rfl) ?_
          refine j_get SS hG hP 5 (v := .ref (q 67)) (C := RX0) (T := TX0) (N := 14) rfl rfl inX0 0 (by decide) (ref := "GridPolygons$Choices") kw_243 rfl rfl dX0_howMany_67 ?_
          refine j_iconst SS dX0_howMany_70 ?_
          refine j_sipush SS dX0_howMany_71 (by decide +kernel) ?_
          refine j_cpl SS kw_736 kw_738 kw_737 kw_103 hG hP (cW_D hD) hS hl.1 68 67 (n0 := 6561) (n1 := 6561) (f := n1_58) (g := w2) rfl rfl (n := 6561) (by omega) (by omega) (Nat.le_of_ble_eq_true rfl) (Nat.le_of_ble_eq_true rfl) dX0_howMany_74 (ws' := (cW D q (sV (sV (sV (sV (sV (sV (sV (sL (sL u 0 (va_cpy n1_58 w2 0 0 6561)) 1 n1_58) 13 lf_2) 14 bt_2) 15 wd_2) 16 tl_2) 17 sp_54) 18 dx_54) 19 dy_54))) rfl (fun H locs hP hS => ?_)
          refine lv_iinc (v := J (i + 1)) (lv' := [(3, .int (J (i + 1))), (0, .ref (q 5)), (1, .ref (q (9 + 5 * r))), (2, .int (J z_24))]) SS.1 SS.2.1 dX0_howMany_77 hl (k := 3) rfl (J_add _ _) (by decide) rfl (fun ls hl => ?_)
          refine lv_goto (tgt := 43) SS.1 SS.2.1 dX0_howMany_80 (by decide) ?_
          exact ih_43 (i + 1) sp_54 dx_54 dy_54 (va_cpy n1_58 w2 0 0 6561) n1_58 _ _ hP hS ls (lv_sub hl [1, 2, 3, 0] rfl) (by omega) (PCi_s p0 h_2.1 p1 (by omega) i43_1 h_54.1 h_58 (fun j hj => by unfold va_cpy; rw [if_pos ⟨by omega, by omega⟩]; exact congrArg _ (by omega))) (by omega)
    have hP : va_P D.1 j_cl (cW D q (sL (sV (sV (sV (sV (sL u 0 (vp_updL (jfL (u.2.2.1 0) 0 6561) (z_24).toNat 1)) 13 lf_2) 14 bt_2) 15 wd_2) 16 tl_2) 1 (u.2.2.1 1))) H := Eq.mpr (congrArg (fun w => va_P D.1 j_cl (cW D q w) H) (sL_at (u := (sV (sV (sV (sV (sL u 0 (vp_updL (jfL (u.2.2.1 0) 0 6561) (z_24).toNat 1)) 13 lf_2) 14 bt_2) 15 wd_2) 16 tl_2)) (r := 1) (x := (u.2.2.1 1)) rfl)) hP
    have hP : va_P D.1 j_cl (cW D q (sV (sL (sV (sV (sV (sV (sL u 0 (vp_updL (jfL (u.2.2.1 0) 0 6561) (z_24).toNat 1)) 13 lf_2) 14 bt_2) 15 wd_2) 16 tl_2) 1 (u.2.2.1 1)) 17 (u.2.2.2 17))) H := Eq.mpr (congrArg (fun w => va_P D.1 j_cl (cW D q w) H) (sV_at (u := (sL (sV (sV (sV (sV (sL u 0 (vp_updL (jfL (u.2.2.1 0) 0 6561) (z_24).toNat 1)) 13 lf_2) 14 bt_2) 15 wd_2) 16 tl_2) 1 (u.2.2.1 1))) (r := 17) (x := (u.2.2.2 17)) rfl)) hP
    have hP : va_P D.1 j_cl (cW D q (sV (sV (sL (sV (sV (sV (sV (sL u 0 (vp_updL (jfL (u.2.2.1 0) 0 6561) (z_24).toNat 1)) 13 lf_2) 14 bt_2) 15 wd_2) 16 tl_2) 1 (u.2.2.1 1)) 17 (u.2.2.2 17)) 18 (u.2.2.2 18))) H := Eq.mpr (congrArg (fun w => va_P D.1 j_cl (cW D q w) H) (sV_at (u := (sV (sL (sV (sV (sV (sV (sL u 0 (vp_updL (jfL (u.2.2.1 0) 0 6561) (z_24).toNat 1)) 13 lf_2) 14 bt_2) 15 wd_2) 16 tl_2) 1 (u.2.2.1 1)) 17 (u.2.2.2 17))) (r := 18) (x := (u.2.2.2 18)) rfl)) hP
    have hP : va_P D.1 j_cl (cW D q (sV (sV (sV (sL (sV (sV (sV (sV (sL u 0 (vp_updL (jfL (u.2.2.1 0) 0 6561) (z_24).toNat 1)) 13 lf_2) 14 bt_2) 15 wd_2) 16 tl_2) 1 (u.2.2.1 1)) 17 (u.2.2.2 17)) 18 (u.2.2.2 18)) 19 (u.2.2.2 19))) H := Eq.mpr (congrArg (fun w => va_P D.1 j_cl (cW D q w) H) (sV_at (u := (sV (sV (sL (sV (sV (sV (sV (sL u 0 (vp_updL (jfL (u.2.2.1 0) 0 6561) (z_24).toNat 1)) 13 lf_2) 14 bt_2) 15 wd_2) 16 tl_2) 1 (u.2.2.1 1)) 17 (u.2.2.2 17)) 18 (u.2.2.2 18))) (r := 19) (x := (u.2.2.2 19)) rfl)) hP
    exact L_43 ((u.1.2.2.1 r - (0 : Int)).toNat + 1) 0 (u.2.2.2 17) (u.2.2.2 18) (u.2.2.2 19) (vp_updL (jfL (u.2.2.1 0) 0 6561) (z_24).toNat 1) (u.2.2.1 1) _ _ hP hS ls (lv_sub hl [2, 3, 1, 0] rfl) (by omega) (PCi_0 h_2.1 (by omega) hz24) (Nat.lt_succ_self _)
  · skip
    refine lv_lconst (v := 0) SS.1 SS.2.1 dX0_howMany_32 (by decide +kernel) ?_
    have hP : va_P D.1 j_cl (cW D q (sL (sV (sV (sV (sV (sL u 0 (jfL (u.2.2.1 0) 0 6561)) 13 lf_2) 14 bt_2) 15 wd_2) 16 tl_2) 1 (u.2.2.1 1))) H := Eq.mpr (congrArg (fun w => va_P D.1 j_cl (cW D q w) H) (sL_at (u := (sV (sV (sV (sV (sL u 0 (jfL (u.2.2.1 0) 0 6561)) 13 lf_2) 14 bt_2) 15 wd_2) 16 tl_2)) (r := 1) (x := (u.2.2.1 1)) rfl)) hP
    have hP : va_P D.1 j_cl (cW D q (sV (sL (sV (sV (sV (sV (sL u 0 (jfL (u.2.2.1 0) 0 6561)) 13 lf_2) 14 bt_2) 15 wd_2) 16 tl_2) 1 (u.2.2.1 1)) 17 (u.2.2.2 17))) H := Eq.mpr (congrArg (fun w => va_P D.1 j_cl (cW D q w) H) (sV_at (u := (sL (sV (sV (sV (sV (sL u 0 (jfL (u.2.2.1 0) 0 6561)) 13 lf_2) 14 bt_2) 15 wd_2) 16 tl_2) 1 (u.2.2.1 1))) (r := 17) (x := (u.2.2.2 17)) rfl)) hP
    have hP : va_P D.1 j_cl (cW D q (sV (sV (sL (sV (sV (sV (sV (sL u 0 (jfL (u.2.2.1 0) 0 6561)) 13 lf_2) 14 bt_2) 15 wd_2) 16 tl_2) 1 (u.2.2.1 1)) 17 (u.2.2.2 17)) 18 (u.2.2.2 18))) H := Eq.mpr (congrArg (fun w => va_P D.1 j_cl (cW D q w) H) (sV_at (u := (sV (sL (sV (sV (sV (sV (sL u 0 (jfL (u.2.2.1 0) 0 6561)) 13 lf_2) 14 bt_2) 15 wd_2) 16 tl_2) 1 (u.2.2.1 1)) 17 (u.2.2.2 17))) (r := 18) (x := (u.2.2.2 18)) rfl)) hP
    have hP : va_P D.1 j_cl (cW D q (sV (sV (sV (sL (sV (sV (sV (sV (sL u 0 (jfL (u.2.2.1 0) 0 6561)) 13 lf_2) 14 bt_2) 15 wd_2) 16 tl_2) 1 (u.2.2.1 1)) 17 (u.2.2.2 17)) 18 (u.2.2.2 18)) 19 (u.2.2.2 19))) H := Eq.mpr (congrArg (fun w => va_P D.1 j_cl (cW D q w) H) (sV_at (u := (sV (sV (sL (sV (sV (sV (sV (sL u 0 (jfL (u.2.2.1 0) 0 6561)) 13 lf_2) 14 bt_2) 15 wd_2) 16 tl_2) 1 (u.2.2.1 1)) 17 (u.2.2.2 17)) 18 (u.2.2.2 18))) (r := 19) (x := (u.2.2.2 19)) rfl)) hP
    exact W.lret SS.1 SS.2.1 hr (fun t0 ht hW => ⟨⟨_, (sV (sV (sV (sV (sV (sV (sV (sL (sL u 0 (jfL (u.2.2.1 0) 0 6561)) 1 (u.2.2.1 1)) 13 lf_2) 14 bt_2) 15 wd_2) 16 tl_2) 17 (u.2.2.2 17)) 18 (u.2.2.2 18)) 19 (u.2.2.2 19)), rfl, (⟨lf_2, bt_2, wd_2, tl_2, (u.2.2.2 17), (u.2.2.2 18), (u.2.2.2 19), (jfL (u.2.2.1 0) 0 6561), (u.2.2.1 1), rfl, by exfalso; omega⟩), by show va_P D.1 j_cl (cW D q (sV (sV (sV (sV (sV (sV (sV (sL (sL u 0 (jfL (u.2.2.1 0) 0 6561)) 1 (u.2.2.1 1)) 13 lf_2) 14 bt_2) 15 wd_2) 16 tl_2) 17 (u.2.2.2 17)) 18 (u.2.2.2 18)) 19 (u.2.2.2 19))) t0.heap; rw [ht]; first | exact hP | (simp only [sI_id, sL_id, sC_id, sX_id, sY_id, sH_id, sT_id, sV_id]; exact hP)⟩, hS.F ht⟩) hS.2.2 dX0_howMany_33 hlk

set_option maxHeartbeats 4000000 in
set_option maxRecDepth 100000 in
theorem c_X11_partsM (l : Launch) (D : JD) (q : Nat → Nat) (u : CS) (A : Nat → Prop) (hD : va_D A (cW D q u)) (s : Int) (p0 : CI u) (p1 : -2147483648 ≤ s ∧ s ≤ 2147483647) : Met l yX11_parts (jw yX11_parts cX11_parts 3 (some .long)) (jr 5 111) (jP [.ref (q 0), .int (J s)] D (fun H => va_P D.1 j_cl (cW D q u) H)) (jWL (fun x9 u' => CI u' ∧ paC u s x9 ∧ cSame u u') (fun u' H => va_P D.1 j_cl (cW D q u') H) A) 0 0 A := by
  refine Met.ofW (cc := cX11_parts) (maxL := 3) (ret := (some .long)) (by decide) rfl ?_
  intro pr en st mi args below meth co s₁ B hml hv
  obtain ⟨rfl, hG, hP⟩ := hv
  have hr := B.returns
  have hlk := B.notSynchronized
  have SS : jS pr mi co cX11_parts 3 st _ RX11 := ⟨B.exec, B.bytes, hml, findClass_of_methodNamed B.named, fun w hw => atoms_spec (ws := (jw yX11_parts cX11_parts 3 (some .long))) B.pre w (List.mem_cons_of_mem _ hw)⟩
  have hl := lv_entry ([.ref (q 0), .int (J s)]) (n := 3) (Nat.le_of_ble_eq_true rfl)
  rw [lg_entry_eq]
  generalize (lg_sl ([.ref (q 0), .int (J s)]) ++ List.replicate (3 - (lg_sl ([.ref (q 0), .int (J s)])).length) Slot.unset).toArray = ls at hl ⊢
  have hl : lv_has ls 3 [(0, .ref (q 0)), (1, .int (J s))] := hl
  have hS : va_S A st.heap st.heap [] := va_S.rf
  refine lv_aload_n SS.1 SS.2.1 dX11_parts_0 rfl (lv_at hl 0 rfl) ?_
  refine lv_iload_n SS.1 SS.2.1 dX11_parts_1 rfl (lv_at hl 1 rfl) ?_
  refine j_vSh SS (As := [.int (J s)]) (rest := []) (c_X11_shapeAt l D q u  s (show -2147483648 ≤ s ∧ s ≤ 2147483647 from (p1))) mf_X11_shapeAt kw_414 hG hP hP (ci := 11) (q0 := 0) rfl rfl rfl rfl hl.1 ⟨⟨Nat.le_of_ble_eq_true rfl, Nat.le_of_ble_eq_true rfl⟩, Nat.le_of_ble_eq_true rfl, Nat.le_refl _, Nat.le_refl _⟩ rfl dX11_parts_2 (fun i_2 hi_2 hz_2 => ?_) (fun hn_2 => ?_)
  · skip
    have hI2 := CI_s p0 (show i_2 < 8 by omega)
    have hI2c := hI2.1
    have hrl2 := rl_s (show i_2 < 8 by omega)
    refine lv_astore_n (lv' := [(2, .ref (q (8 + 5 * i_2))), (0, .ref (q 0)), (1, .int (J s))]) SS.1 SS.2.1 dX11_parts_5 rfl hl (by decide) rfl (fun ls hl => ?_)
    refine lv_aload_n SS.1 SS.2.1 dX11_parts_6 rfl (lv_at hl 0 rfl) ?_
    refine lv_ifnonnull SS.1 SS.2.1 (tgt := 14) dX11_parts_7 (by decide) ?_
    refine lv_aload_n SS.1 SS.2.1 dX11_parts_14 rfl (lv_at hl 0 rfl) ?_
    refine j_get SS hG hP (8 + 5 * i_2) (v := .ref (q (9 + 5 * i_2))) (C := RX10) (T := TX10) (N := 3) (cw_shape (by omega)) rfl inX10 0 (by decide) (ref := "GridPolygons$Shape") kw_151 rfl rfl dX11_parts_15 ?_
    refine j_vRi SS (As := []) (rest := []) (c_X7_isPolygon l D q u i_2 (by omega) (40 : Int)  (show 0 ≤ (40 : Int) ∧ (40 : Int) ≤ 80 from (by omega)) (show RB (40 : Int) u i_2 from (CI_40 p0 (by omega)))) mf_X7_isPolygon kw_568 hG hP hP (ci := 7) (q0 := (9 + 5 * i_2)) rfl (cw_ring (by omega)) rfl rfl hl.1 ⟨⟨Nat.le_of_ble_eq_true rfl, Nat.le_of_ble_eq_true rfl⟩, Nat.le_of_ble_eq_true rfl, Nat.le_refl _, Nat.le_refl _⟩ rfl dX11_parts_18 (fun z_18 h_18 => ?_)
    have h_18 : (z_18 = 1 ∧ 3 ≤ (u.1.2.2.1 i_2)) ∨ (z_18 = 0 ∧ (u.1.2.2.1 i_2) < 3) := h_18
    refine j_if_eq SS (tgt := 38) (x := z_18) dX11_parts_21 (by decide) (by omega) (fun c_21 => ?_) (fun c_21 => ?_)
    · skip
      refine lv_ldc2 SS.1 SS.2.1 SS.2.2.2.1 (SS.2.2.2.2 _ kw_576) dX11_parts_38 ?_
      exact W.lret SS.1 SS.2.1 hr (fun t0 ht hW => ⟨⟨_, u, rfl, (by first | exact ⟨p0, Or.inl ⟨by omega, rfl⟩, cs_refl⟩ | exact ⟨p0, Or.inr ⟨by omega, Or.inl ⟨by rw [show s.toNat = i_2 by omega]; omega, rfl⟩⟩, cs_refl⟩ | exact ⟨CI_hm p0, Or.inr ⟨by omega, Or.inr ⟨by rw [show s.toNat = i_2 by omega]; omega, by rw [show s.toNat = i_2 by omega]; exact h_32⟩⟩, (by first | exact cs_refl | exact (fun r hr => ⟨if_neg (by omega), if_neg (by omega), if_neg (by omega)⟩))⟩), by show va_P D.1 j_cl (cW D q u) t0.heap; rw [ht]; first | exact hP | (simp only [sC_id, sX_id, sY_id, sH_id, sT_id, sV_id]; exact hP)⟩, hS.F ht⟩) hS.2.2 dX11_parts_41 hlk
    · skip
      refine lv_aload_n SS.1 SS.2.1 dX11_parts_24 rfl (lv_at hl 1 rfl) ?_
      refine j_get SS hG hP 0 (v := .ref (q 5)) (C := RX11) (T := TX11) (N := 8) rfl rfl inX11 4 (by decide) (ref := "GridPolygons") kw_389 rfl rfl dX11_parts_25 ?_
      refine lv_aload_n SS.1 SS.2.1 dX11_parts_28 rfl (lv_at hl 0 rfl) ?_
      refine j_get SS hG hP (8 + 5 * i_2) (v := .ref (q (9 + 5 * i_2))) (C := RX10) (T := TX10) (N := 3) (cw_shape (by omega)) rfl inX10 0 (by decide) (ref := "GridPolygons$Shape") kw_151 rfl rfl dX11_parts_29 ?_
      refine j_vWL SS (As := [.ref (q (9 + 5 * i_2))]) (rest := []) (c_X0_howMany3 l D q u A (cW_D hD) i_2 (by omega)  (show RB 40 u i_2 from (CI_40 p0 (by omega))) (show 3 ≤ (u.1.2.2.1 i_2) from (by omega))) mf_X0_howMany kw_700 hG hP hP (ci := 0) (q0 := 5) rfl rfl rfl hS (fun _ h => h) rfl hl.1 ⟨⟨Nat.le_of_ble_eq_true rfl, Nat.le_of_ble_eq_true rfl⟩, Nat.le_of_ble_eq_true rfl, Nat.le_refl _, Nat.le_refl _⟩ rfl dX11_parts_32 (fun x_32 u32 H locs h_32 hP _ hS => ?_)
      obtain ⟨lf_32, bt_32, wd_32, tl_32, sp_32, dx_32, dy_32, w0_32, w1_32, rfl, h_32⟩ := h_32
      have hP : va_P D.1 j_cl (cW D q (sV (sV (sV (sV (sV (sV (sV (sL (sL u 0 w0_32) 1 w1_32) 13 lf_32) 14 bt_32) 15 wd_32) 16 tl_32) 17 sp_32) 18 dx_32) 19 dy_32)) H := hP
      have h_32 : cHS u i_2 → x_32 = MI (cdx u i_2) (cdy u i_2) (csn u i_2) ((u.1.2.2.1 i_2)).toNat 0 0 := h_32
      refine lv_goto (tgt := 41) SS.1 SS.2.1 dX11_parts_35 (by decide) ?_
      exact W.lret SS.1 SS.2.1 hr (fun t0 ht hW => ⟨⟨_, (sV (sV (sV (sV (sV (sV (sV (sL (sL u 0 w0_32) 1 w1_32) 13 lf_32) 14 bt_32) 15 wd_32) 16 tl_32) 17 sp_32) 18 dx_32) 19 dy_32), rfl, (by first | exact ⟨p0, Or.inl ⟨by omega, rfl⟩, cs_refl⟩ | exact ⟨p0, Or.inr ⟨by omega, Or.inl ⟨by rw [show s.toNat = i_2 by omega]; omega, rfl⟩⟩, cs_refl⟩ | exact ⟨CI_hm p0, Or.inr ⟨by omega, Or.inr ⟨by rw [show s.toNat = i_2 by omega]; omega, by rw [show s.toNat = i_2 by omega]; exact h_32⟩⟩, (by first | exact cs_refl | exact (fun r hr => ⟨if_neg (by omega), if_neg (by omega), if_neg (by omega)⟩))⟩), by show va_P D.1 j_cl (cW D q (sV (sV (sV (sV (sV (sV (sV (sL (sL u 0 w0_32) 1 w1_32) 13 lf_32) 14 bt_32) 15 wd_32) 16 tl_32) 17 sp_32) 18 dx_32) 19 dy_32)) t0.heap; rw [ht]; first | exact hP | (simp only [sC_id, sX_id, sY_id, sH_id, sT_id, sV_id]; exact hP)⟩, hS.F ht⟩) hS.2.2 dX11_parts_41 hlk
  · skip
    refine lv_astore_nN (lv' := [(2, .null), (0, .ref (q 0)), (1, .int (J s))]) SS.1 SS.2.1 dX11_parts_5 rfl hl (by decide) rfl (fun ls hl => ?_)
    refine lv_aload_nN SS.1 SS.2.1 dX11_parts_6 rfl (lv_at hl 0 rfl) ?_
    refine lv_ifnonnullN SS.1 SS.2.1 dX11_parts_7 ?_
    refine lv_ldc2 SS.1 SS.2.1 SS.2.2.2.1 (SS.2.2.2.2 _ kw_562) dX11_parts_10 ?_
    exact W.lret SS.1 SS.2.1 hr (fun t0 ht hW => ⟨⟨_, u, rfl, (by first | exact ⟨p0, Or.inl ⟨by omega, rfl⟩, cs_refl⟩ | exact ⟨p0, Or.inr ⟨by omega, Or.inl ⟨by rw [show s.toNat = i_2 by omega]; omega, rfl⟩⟩, cs_refl⟩ | exact ⟨CI_hm p0, Or.inr ⟨by omega, Or.inr ⟨by rw [show s.toNat = i_2 by omega]; omega, by rw [show s.toNat = i_2 by omega]; exact h_32⟩⟩, (by first | exact cs_refl | exact (fun r hr => ⟨if_neg (by omega), if_neg (by omega), if_neg (by omega)⟩))⟩), by show va_P D.1 j_cl (cW D q u) t0.heap; rw [ht]; first | exact hP | (simp only [sC_id, sX_id, sY_id, sH_id, sT_id, sV_id]; exact hP)⟩, hS.F ht⟩) hS.2.2 dX11_parts_13 hlk
