
theorem J_a4095 (x : Int32) : 0 ≤ (x &&& J 4095).toInt ∧ (x &&& J 4095).toInt ≤ 4095 := by
  have h1 : (x &&& J 4095).toBitVec.toNat ≤ 4095 := by
    rw [Ja_nat, J_bn (by omega)]
    exact Nat.and_le_right
  have h2 : (x &&& J 4095) = J (((x &&& J 4095).toBitVec.toNat : Nat) : Int) := by
    rw [← J_nat]
    apply Int32.toBitVec_inj.mp
    show _ = BitVec.ofNat 32 _
    rw [BitVec.ofNat_toNat, BitVec.setWidth_eq]
  rw [h2, J_toInt (by omega)]
  omega

set_option maxHeartbeats 4000000 in
set_option maxRecDepth 100000 in
theorem c_X2_enter (l : Launch) (D : JD) (q : Nat → Nat) (u : CS) (A : Nat → Prop) (hD : va_D A (cW D q u)) (set : Int64) (st9 : Int) (p0 : 0 ≤ u.2.2.2 22 ∧ u.2.2.2 22 ≤ 1500) (p1 : ∀ k : Nat, 0 ≤ u.2.1 8 k ∧ u.2.1 8 k ≤ 1500) (p2 : u.2.2.2 23 = 0 ∨ u.2.2.2 23 = 1) : Met l yX2_enter (jw yX2_enter cX2_enter 6 none) (jr 1 21) (jP [.ref (q 6), .long set, .int (J st9)] D (fun H => va_P D.1 j_cl (cW D q u) H)) (jWv (fun u' => ∃ st2 : Nat → Int64, ∃ fa : Nat → Int, ∃ pc9 : Nat → Int, ∃ n : Int, ∃ sp : Int, u' = (sV (sV (sL (sI (sI u 7 fa) 8 pc9) 2 st2) 22 n) 23 sp) ∧ ((0 ≤ n ∧ n ≤ 1500) ∧ (∀ k : Nat, 0 ≤ pc9 k ∧ pc9 k ≤ 1500) ∧ (sp = 0 ∨ sp = 1))) (fun u' H => va_P D.1 j_cl (cW D q u') H) A) 0 0 A := by
  refine Met.ofW (cc := cX2_enter) (maxL := 6) (ret := none) (by decide) rfl ?_
  intro pr en st mi args below meth co s₁ B hml hv
  obtain ⟨rfl, hG, hP⟩ := hv
  have hr := B.returns
  have hlk := B.notSynchronized
  have SS : jS pr mi co cX2_enter 6 st _ RX2 := ⟨B.exec, B.bytes, hml, findClass_of_methodNamed B.named, fun w hw => atoms_spec (ws := (jw yX2_enter cX2_enter 6 none)) B.pre w (List.mem_cons_of_mem _ hw)⟩
  have hl := lv_entry ([.ref (q 6), .long set, .int (J st9)]) (n := 6) (Nat.le_of_ble_eq_true rfl)
  rw [lg_entry_eq]
  generalize (lg_sl ([.ref (q 6), .long set, .int (J st9)]) ++ List.replicate (6 - (lg_sl ([.ref (q 6), .long set, .int (J st9)])).length) Slot.unset).toArray = ls at hl ⊢
  have hl : lv_has ls 6 [(0, .ref (q 6)), (1, .long set), (3, .int (J st9))] := hl
  have hS : va_S A st.heap st.heap [] := va_S.rf
  refine lv_lload_n SS.1 SS.2.1 dX2_enter_0 rfl (lv_at hl 1 rfl) ?_
  refine lv_ldc2 SS.1 SS.2.1 SS.2.2.2.1 (SS.2.2.2.2 _ kw_941) dX2_enter_1 ?_
  refine lv_lmul SS.1 SS.2.1 dX2_enter_4 ?_
  refine j_bipush SS dX2_enter_5 (by decide +kernel) ?_
  refine lv_lushr SS.1 SS.2.1 dX2_enter_7 rfl (lv_topl (fun x_7 ex_7 => ?_))
  refine lv_l2i SS.1 SS.2.1 dX2_enter_8 rfl ?_
  rw [J_of (Int64.toInt32 _)]
  have r_8 := J_rng (Int64.toInt32 x_7)
  refine j_sipush SS dX2_enter_9 (by decide +kernel) ?_
  refine lv_iand SS.1 SS.2.1 dX2_enter_12 ?_
  rw [J_of (J ((Int64.toInt32 x_7).toInt) &&& J 4095)]
  have x_12 := J_a4095 (J ((Int64.toInt32 x_7).toInt))
  refine lv_istore (lv' := [(4, .int (J ((J ((Int64.toInt32 x_7).toInt) &&& J 4095).toInt))), (0, .ref (q 6)), (1, .long set), (3, .int (J st9))]) SS.1 SS.2.1 dX2_enter_13 hl (by decide) rfl (fun ls hl => ?_)
  refine j_iconst SS dX2_enter_15 ?_
  refine lv_istore (lv' := [(5, .int (J 0)), (4, .int (J ((J ((Int64.toInt32 x_7).toInt) &&& J 4095).toInt))), (0, .ref (q 6)), (1, .long set), (3, .int (J st9))]) SS.1 SS.2.1 dX2_enter_16 hl (by decide) rfl (fun ls hl => ?_)
  have L_18 : ∀ (nn : Nat) (pl : Int) (i : Int) (H : Heap) (locs : List Loc) (hP : va_P D.1 j_cl (cW D q u) H) (hS : va_S A st.heap H locs) (ls : Array Slot) (hl : lv_has ls 6 [(0, .ref (q 6)), (1, .long set), (3, .int (J st9)), (4, .int (J pl)), (5, .int (J i))]) (i18_0 : 0 ≤ pl ∧ pl ≤ 4095) (i18_1 : 0 ≤ i ∧ i ≤ 4096), ((4096 : Int) - i).toNat < nn → W pr l en (headSpec (jw yX2_enter cX2_enter 6 none) (jr 1 21)).room st mi (([.ref (q 6), .long set, .int (J st9)] : List Value).toArray) below meth co H locs 0 0 (MQ below (jWv (fun u' => ∃ st2 : Nat → Int64, ∃ fa : Nat → Int, ∃ pc9 : Nat → Int, ∃ n : Int, ∃ sp : Int, u' = (sV (sV (sL (sI (sI u 7 fa) 8 pc9) 2 st2) 22 n) 23 sp) ∧ ((0 ≤ n ∧ n ≤ 1500) ∧ (∀ k : Nat, 0 ≤ pc9 k ∧ pc9 k ≤ 1500) ∧ (sp = 0 ∨ sp = 1))) (fun u' H => va_P D.1 j_cl (cW D q u') H) A) (([.ref (q 6), .long set, .int (J st9)] : List Value).toArray) st 0 0 A) (F0 mi 18 ls []) := by
    intro nn
    induction nn with
    | zero => intros; omega
    | succ nn ih_18 =>
      intro pl i  H locs hP hS ls hl i18_0 i18_1 hm
      refine lv_iload SS.1 SS.2.1 dX2_enter_18 (lv_at hl 4 rfl) ?_
      refine j_sipush SS dX2_enter_20 (by decide +kernel) ?_
      refine j_icmp_ge SS (tgt := 71) (x := i) (y := 4096) dX2_enter_23 (by decide) (by omega) (by decide) (fun c_23 => ?_) (fun c_23 => ?_)
      · skip
        refine lv_aload_n SS.1 SS.2.1 dX2_enter_71 rfl (lv_at hl 0 rfl) ?_
        refine j_get SS hG hP 6 (v := .int (J (u.2.2.2 22))) (C := RX2) (T := TX2) (N := 7) rfl rfl inX2 4 (by decide) (ref := "GridPolygons$Cuts") kw_344 rfl rfl dX2_enter_72 ?_
        refine j_sipush SS dX2_enter_75 (by decide +kernel) ?_
        refine j_icmp_lt SS (tgt := 87) (x := (u.2.2.2 22)) (y := 1500) dX2_enter_78 (by decide) (by omega) (by decide) (fun c_78 => ?_) (fun c_78 => ?_)
        · skip
          refine lv_aload_n SS.1 SS.2.1 dX2_enter_87 rfl (lv_at hl 0 rfl) ?_
          refine j_get SS hG hP 6 (v := .ref (q 69)) (C := RX2) (T := TX2) (N := 7) rfl rfl inX2 1 (by decide) (ref := "GridPolygons$Cuts") kw_341 rfl rfl dX2_enter_88 ?_
          refine lv_aload_n SS.1 SS.2.1 dX2_enter_91 rfl (lv_at hl 0 rfl) ?_
          refine j_get SS hG hP 6 (v := .int (J (u.2.2.2 22))) (C := RX2) (T := TX2) (N := 7) rfl rfl inX2 4 (by decide) (ref := "GridPolygons$Cuts") kw_344 rfl rfl dX2_enter_92 ?_
          refine lv_lload_n SS.1 SS.2.1 dX2_enter_95 rfl (lv_at hl 1 rfl) ?_
          refine j_last SS hG hP (cW_D hD) hS 69 (n := 1500) (f := (u.2.2.1 2)) rfl (z := (u.2.2.2 22)) (v := set) (by omega) (by omega) dX2_enter_96 (ws' := (cW D q (sL u 2 (vp_updL (u.2.2.1 2) ((u.2.2.2 22)).toNat set)))) rfl (fun H locs hP hS => ?_)
          refine lv_aload_n SS.1 SS.2.1 dX2_enter_97 rfl (lv_at hl 0 rfl) ?_
          refine j_get SS hG hP 6 (v := .ref (q 64)) (C := RX2) (T := TX2) (N := 7) rfl rfl inX2 2 (by decide) (ref := "GridPolygons$Cuts") kw_342 rfl rfl dX2_enter_98 ?_
          refine lv_aload_n SS.1 SS.2.1 dX2_enter_101 rfl (lv_at hl 0 rfl) ?_
          refine j_get SS hG hP 6 (v := .int (J (u.2.2.2 22))) (C := RX2) (T := TX2) (N := 7) rfl rfl inX2 4 (by decide) (ref := "GridPolygons$Cuts") kw_344 rfl rfl dX2_enter_102 ?_
          refine lv_iload_n SS.1 SS.2.1 dX2_enter_105 rfl (lv_at hl 2 rfl) ?_
          refine j_iast SS hG hP (cW_D hD) hS 64 (n := 1500) (f := (u.2.1 7)) rfl (z := (u.2.2.2 22)) (v := st9) (by omega) (by omega) dX2_enter_106 (ws' := (cW D q (sL (sI u 7 (upI (u.2.1 7) ((u.2.2.2 22)).toNat st9)) 2 (vp_updL (u.2.2.1 2) ((u.2.2.2 22)).toNat set)))) rfl (fun H locs hP hS => ?_)
          refine lv_aload_n SS.1 SS.2.1 dX2_enter_107 rfl (lv_at hl 0 rfl) ?_
          refine lv_dup SS.1 SS.2.1 dX2_enter_108 rfl ?_
          refine j_get SS hG hP 6 (v := .int (J (u.2.2.2 22))) (C := RX2) (T := TX2) (N := 7) rfl rfl inX2 4 (by decide) (ref := "GridPolygons$Cuts") kw_344 rfl rfl dX2_enter_109 ?_
          refine j_iconst SS dX2_enter_112 ?_
          refine j_iadd SS (x := (u.2.2.2 22)) (y := 1) dX2_enter_113 ?_
          refine j_put SS hG hP (cW_D hD) hS 6 (v := .int (J ((u.2.2.2 22) + 1))) (ty := .int) (C := RX2) (T := TX2) (N := 7) rfl rfl inX2 tyX2 tyX2_ok nmX2 4 (by decide) (ref := "GridPolygons$Cuts") kw_344 rfl rfl (by decide +kernel) rfl rfl (Nat.le_of_ble_eq_true rfl) dX2_enter_114 (ws' := (cW D q (sV (sL (sI u 7 (upI (u.2.1 7) ((u.2.2.2 22)).toNat st9)) 2 (vp_updL (u.2.2.1 2) ((u.2.2.2 22)).toNat set)) 22 ((u.2.2.2 22) + 1)))) rfl (fun H locs hP hS => ?_)
          refine lv_aload_n SS.1 SS.2.1 dX2_enter_117 rfl (lv_at hl 0 rfl) ?_
          refine j_get SS hG hP 6 (v := .ref (q 65)) (C := RX2) (T := TX2) (N := 7) rfl rfl inX2 3 (by decide) (ref := "GridPolygons$Cuts") kw_343 rfl rfl dX2_enter_118 ?_
          refine lv_iload SS.1 SS.2.1 dX2_enter_121 (lv_at hl 3 rfl) ?_
          refine lv_aload_n SS.1 SS.2.1 dX2_enter_123 rfl (lv_at hl 0 rfl) ?_
          refine j_get SS hG hP 6 (v := .int (J ((u.2.2.2 22) + 1))) (C := RX2) (T := TX2) (N := 7) rfl rfl inX2 4 (by decide) (ref := "GridPolygons$Cuts") kw_344 rfl rfl dX2_enter_124 ?_
          refine j_iast SS hG hP (cW_D hD) hS 65 (n := 4096) (f := (u.2.1 8)) rfl (z := pl) (v := ((u.2.2.2 22) + 1)) (by omega) (by omega) dX2_enter_127 (ws' := (cW D q (sV (sL (sI (sI u 7 (upI (u.2.1 7) ((u.2.2.2 22)).toNat st9)) 8 (upI (u.2.1 8) (pl).toNat ((u.2.2.2 22) + 1))) 2 (vp_updL (u.2.2.1 2) ((u.2.2.2 22)).toNat set)) 22 ((u.2.2.2 22) + 1)))) rfl (fun H locs hP hS => ?_)
          have hP : va_P D.1 j_cl (cW D q (sV (sV (sL (sI (sI u 7 (upI (u.2.1 7) ((u.2.2.2 22)).toNat st9)) 8 (upI (u.2.1 8) (pl).toNat ((u.2.2.2 22) + 1))) 2 (vp_updL (u.2.2.1 2) ((u.2.2.2 22)).toNat set)) 22 ((u.2.2.2 22) + 1)) 23 (u.2.2.2 23))) H := Eq.mpr (congrArg (fun s => va_P D.1 j_cl (cW D q s) H) (sV_at (u := (sV (sL (sI (sI u 7 (upI (u.2.1 7) ((u.2.2.2 22)).toNat st9)) 8 (upI (u.2.1 8) (pl).toNat ((u.2.2.2 22) + 1))) 2 (vp_updL (u.2.2.1 2) ((u.2.2.2 22)).toNat set)) 22 ((u.2.2.2 22) + 1))) (r := 23) (x := (u.2.2.2 23)) rfl)) hP
          exact W.vret SS.1 SS.2.1 hr (fun t0 ht hW => ⟨⟨(sV (sV (sL (sI (sI u 7 (upI (u.2.1 7) ((u.2.2.2 22)).toNat st9)) 8 (upI (u.2.1 8) (pl).toNat ((u.2.2.2 22) + 1))) 2 (vp_updL (u.2.2.1 2) ((u.2.2.2 22)).toNat set)) 22 ((u.2.2.2 22) + 1)) 23 (u.2.2.2 23)), rfl, (⟨(vp_updL (u.2.2.1 2) ((u.2.2.2 22)).toNat set), (upI (u.2.1 7) ((u.2.2.2 22)).toNat st9), (upI (u.2.1 8) (pl).toNat ((u.2.2.2 22) + 1)), ((u.2.2.2 22) + 1), (u.2.2.2 23), rfl, ⟨by omega, UP_b p1 (by omega), p2⟩⟩), by show va_P D.1 j_cl (cW D q (sV (sV (sL (sI (sI u 7 (upI (u.2.1 7) ((u.2.2.2 22)).toNat st9)) 8 (upI (u.2.1 8) (pl).toNat ((u.2.2.2 22) + 1))) 2 (vp_updL (u.2.2.1 2) ((u.2.2.2 22)).toNat set)) 22 ((u.2.2.2 22) + 1)) 23 (u.2.2.2 23))) t0.heap; rw [ht]; first | exact hP | (simp only [sI_id, sL_id, sC_id, sX_id, sY_id, sH_id, sT_id, sV_id]; exact hP)⟩, hS.F ht⟩) hS.2.2 dX2_enter_128 hlk
        · skip
          refine lv_aload_n SS.1 SS.2.1 dX2_enter_81 rfl (lv_at hl 0 rfl) ?_
          refine j_iconst SS dX2_enter_82 ?_
          refine j_put SS hG hP (cW_D hD) hS 6 (v := .int (J 1)) (ty := .boolean) (C := RX2) (T := TX2) (N := 7) rfl rfl inX2 tyX2 tyX2_ok nmX2 5 (by decide) (ref := "GridPolygons$Cuts") kw_346 rfl rfl (by decide +kernel) (j_nz (by omega)) rfl (Nat.le_of_ble_eq_true rfl) dX2_enter_83 (ws' := (cW D q (sV u 23 1))) rfl (fun H locs hP hS => ?_)
          have hP : va_P D.1 j_cl (cW D q (sV (sI u 7 (u.2.1 7)) 23 1)) H := Eq.mpr (congrArg (fun s => va_P D.1 j_cl (cW D q (sV s 23 1)) H) (sI_at (u := u) (r := 7) (x := (u.2.1 7)) rfl)) hP
          have hP : va_P D.1 j_cl (cW D q (sV (sI (sI u 7 (u.2.1 7)) 8 (u.2.1 8)) 23 1)) H := Eq.mpr (congrArg (fun s => va_P D.1 j_cl (cW D q (sV s 23 1)) H) (sI_at (u := (sI u 7 (u.2.1 7))) (r := 8) (x := (u.2.1 8)) rfl)) hP
          have hP : va_P D.1 j_cl (cW D q (sV (sL (sI (sI u 7 (u.2.1 7)) 8 (u.2.1 8)) 2 (u.2.2.1 2)) 23 1)) H := Eq.mpr (congrArg (fun s => va_P D.1 j_cl (cW D q (sV s 23 1)) H) (sL_at (u := (sI (sI u 7 (u.2.1 7)) 8 (u.2.1 8))) (r := 2) (x := (u.2.2.1 2)) rfl)) hP
          have hP : va_P D.1 j_cl (cW D q (sV (sV (sL (sI (sI u 7 (u.2.1 7)) 8 (u.2.1 8)) 2 (u.2.2.1 2)) 22 (u.2.2.2 22)) 23 1)) H := Eq.mpr (congrArg (fun s => va_P D.1 j_cl (cW D q (sV s 23 1)) H) (sV_at (u := (sL (sI (sI u 7 (u.2.1 7)) 8 (u.2.1 8)) 2 (u.2.2.1 2))) (r := 22) (x := (u.2.2.2 22)) rfl)) hP
          exact W.vret SS.1 SS.2.1 hr (fun t0 ht hW => ⟨⟨(sV (sV (sL (sI (sI u 7 (u.2.1 7)) 8 (u.2.1 8)) 2 (u.2.2.1 2)) 22 (u.2.2.2 22)) 23 1), rfl, (⟨(u.2.2.1 2), (u.2.1 7), (u.2.1 8), (u.2.2.2 22), 1, rfl, ⟨p0, p1, Or.inr rfl⟩⟩), by show va_P D.1 j_cl (cW D q (sV (sV (sL (sI (sI u 7 (u.2.1 7)) 8 (u.2.1 8)) 2 (u.2.2.1 2)) 22 (u.2.2.2 22)) 23 1)) t0.heap; rw [ht]; first | exact hP | (simp only [sI_id, sL_id, sC_id, sX_id, sY_id, sH_id, sT_id, sV_id]; exact hP)⟩, hS.F ht⟩) hS.2.2 dX2_enter_86 hlk
      · skip
        refine lv_aload_n SS.1 SS.2.1 dX2_enter_26 rfl (lv_at hl 0 rfl) ?_
        refine j_get SS hG hP 6 (v := .ref (q 65)) (C := RX2) (T := TX2) (N := 7) rfl rfl inX2 3 (by decide) (ref := "GridPolygons$Cuts") kw_343 rfl rfl dX2_enter_27 ?_
        refine lv_iload SS.1 SS.2.1 dX2_enter_30 (lv_at hl 3 rfl) ?_
        refine j_iald SS hG hP 65 (n := 4096) (f := (u.2.1 8)) rfl (z := pl) (by omega) (by omega) dX2_enter_32 ?_
        have lp := p1 pl.toNat
        refine j_if_eq SS (tgt := 71) (x := ((u.2.1 8) (pl).toNat)) dX2_enter_33 (by decide) (by omega) (fun c_33 => ?_) (fun c_33 => ?_)
        · skip
          refine lv_aload_n SS.1 SS.2.1 dX2_enter_71 rfl (lv_at hl 0 rfl) ?_
          refine j_get SS hG hP 6 (v := .int (J (u.2.2.2 22))) (C := RX2) (T := TX2) (N := 7) rfl rfl inX2 4 (by decide) (ref := "GridPolygons$Cuts") kw_344 rfl rfl dX2_enter_72 ?_
          refine j_sipush SS dX2_enter_75 (by decide +kernel) ?_
          refine j_icmp_lt SS (tgt := 87) (x := (u.2.2.2 22)) (y := 1500) dX2_enter_78 (by decide) (by omega) (by decide) (fun c_78 => ?_) (fun c_78 => ?_)
          · skip
            refine lv_aload_n SS.1 SS.2.1 dX2_enter_87 rfl (lv_at hl 0 rfl) ?_
            refine j_get SS hG hP 6 (v := .ref (q 69)) (C := RX2) (T := TX2) (N := 7) rfl rfl inX2 1 (by decide) (ref := "GridPolygons$Cuts") kw_341 rfl rfl dX2_enter_88 ?_
            refine lv_aload_n SS.1 SS.2.1 dX2_enter_91 rfl (lv_at hl 0 rfl) ?_
            refine j_get SS hG hP 6 (v := .int (J (u.2.2.2 22))) (C := RX2) (T := TX2) (N := 7) rfl rfl inX2 4 (by decide) (ref := "GridPolygons$Cuts") kw_344 rfl rfl dX2_enter_92 ?_
            refine lv_lload_n SS.1 SS.2.1 dX2_enter_95 rfl (lv_at hl 1 rfl) ?_
            refine j_last SS hG hP (cW_D hD) hS 69 (n := 1500) (f := (u.2.2.1 2)) rfl (z := (u.2.2.2 22)) (v := set) (by omega) (by omega) dX2_enter_96 (ws' := (cW D q (sL u 2 (vp_updL (u.2.2.1 2) ((u.2.2.2 22)).toNat set)))) rfl (fun H locs hP hS => ?_)
            refine lv_aload_n SS.1 SS.2.1 dX2_enter_97 rfl (lv_at hl 0 rfl) ?_
            refine j_get SS hG hP 6 (v := .ref (q 64)) (C := RX2) (T := TX2) (N := 7) rfl rfl inX2 2 (by decide) (ref := "GridPolygons$Cuts") kw_342 rfl rfl dX2_enter_98 ?_
            refine lv_aload_n SS.1 SS.2.1 dX2_enter_101 rfl (lv_at hl 0 rfl) ?_
            refine j_get SS hG hP 6 (v := .int (J (u.2.2.2 22))) (C := RX2) (T := TX2) (N := 7) rfl rfl inX2 4 (by decide) (ref := "GridPolygons$Cuts") kw_344 rfl rfl dX2_enter_102 ?_
            refine lv_iload_n SS.1 SS.2.1 dX2_enter_105 rfl (lv_at hl 2 rfl) ?_
            refine j_iast SS hG hP (cW_D hD) hS 64 (n := 1500) (f := (u.2.1 7)) rfl (z := (u.2.2.2 22)) (v := st9) (by omega) (by omega) dX2_enter_106 (ws' := (cW D q (sL (sI u 7 (upI (u.2.1 7) ((u.2.2.2 22)).toNat st9)) 2 (vp_updL (u.2.2.1 2) ((u.2.2.2 22)).toNat set)))) rfl (fun H locs hP hS => ?_)
            refine lv_aload_n SS.1 SS.2.1 dX2_enter_107 rfl (lv_at hl 0 rfl) ?_
            refine lv_dup SS.1 SS.2.1 dX2_enter_108 rfl ?_
            refine j_get SS hG hP 6 (v := .int (J (u.2.2.2 22))) (C := RX2) (T := TX2) (N := 7) rfl rfl inX2 4 (by decide) (ref := "GridPolygons$Cuts") kw_344 rfl rfl dX2_enter_109 ?_
            refine j_iconst SS dX2_enter_112 ?_
            refine j_iadd SS (x := (u.2.2.2 22)) (y := 1) dX2_enter_113 ?_
            refine j_put SS hG hP (cW_D hD) hS 6 (v := .int (J ((u.2.2.2 22) + 1))) (ty := .int) (C := RX2) (T := TX2) (N := 7) rfl rfl inX2 tyX2 tyX2_ok nmX2 4 (by decide) (ref := "GridPolygons$Cuts") kw_344 rfl rfl (by decide +kernel) rfl rfl (Nat.le_of_ble_eq_true rfl) dX2_enter_114 (ws' := (cW D q (sV (sL (sI u 7 (upI (u.2.1 7) ((u.2.2.2 22)).toNat st9)) 2 (vp_updL (u.2.2.1 2) ((u.2.2.2 22)).toNat set)) 22 ((u.2.2.2 22) + 1)))) rfl (fun H locs hP hS => ?_)
            refine lv_aload_n SS.1 SS.2.1 dX2_enter_117 rfl (lv_at hl 0 rfl) ?_
            refine j_get SS hG hP 6 (v := .ref (q 65)) (C := RX2) (T := TX2) (N := 7) rfl rfl inX2 3 (by decide) (ref := "GridPolygons$Cuts") kw_343 rfl rfl dX2_enter_118 ?_
            refine lv_iload SS.1 SS.2.1 dX2_enter_121 (lv_at hl 3 rfl) ?_
            refine lv_aload_n SS.1 SS.2.1 dX2_enter_123 rfl (lv_at hl 0 rfl) ?_
            refine j_get SS hG hP 6 (v := .int (J ((u.2.2.2 22) + 1))) (C := RX2) (T := TX2) (N := 7) rfl rfl inX2 4 (by decide) (ref := "GridPolygons$Cuts") kw_344 rfl rfl dX2_enter_124 ?_
            refine j_iast SS hG hP (cW_D hD) hS 65 (n := 4096) (f := (u.2.1 8)) rfl (z := pl) (v := ((u.2.2.2 22) + 1)) (by omega) (by omega) dX2_enter_127 (ws' := (cW D q (sV (sL (sI (sI u 7 (upI (u.2.1 7) ((u.2.2.2 22)).toNat st9)) 8 (upI (u.2.1 8) (pl).toNat ((u.2.2.2 22) + 1))) 2 (vp_updL (u.2.2.1 2) ((u.2.2.2 22)).toNat set)) 22 ((u.2.2.2 22) + 1)))) rfl (fun H locs hP hS => ?_)
            have hP : va_P D.1 j_cl (cW D q (sV (sV (sL (sI (sI u 7 (upI (u.2.1 7) ((u.2.2.2 22)).toNat st9)) 8 (upI (u.2.1 8) (pl).toNat ((u.2.2.2 22) + 1))) 2 (vp_updL (u.2.2.1 2) ((u.2.2.2 22)).toNat set)) 22 ((u.2.2.2 22) + 1)) 23 (u.2.2.2 23))) H := Eq.mpr (congrArg (fun s => va_P D.1 j_cl (cW D q s) H) (sV_at (u := (sV (sL (sI (sI u 7 (upI (u.2.1 7) ((u.2.2.2 22)).toNat st9)) 8 (upI (u.2.1 8) (pl).toNat ((u.2.2.2 22) + 1))) 2 (vp_updL (u.2.2.1 2) ((u.2.2.2 22)).toNat set)) 22 ((u.2.2.2 22) + 1))) (r := 23) (x := (u.2.2.2 23)) rfl)) hP
            exact W.vret SS.1 SS.2.1 hr (fun t0 ht hW => ⟨⟨(sV (sV (sL (sI (sI u 7 (upI (u.2.1 7) ((u.2.2.2 22)).toNat st9)) 8 (upI (u.2.1 8) (pl).toNat ((u.2.2.2 22) + 1))) 2 (vp_updL (u.2.2.1 2) ((u.2.2.2 22)).toNat set)) 22 ((u.2.2.2 22) + 1)) 23 (u.2.2.2 23)), rfl, (⟨(vp_updL (u.2.2.1 2) ((u.2.2.2 22)).toNat set), (upI (u.2.1 7) ((u.2.2.2 22)).toNat st9), (upI (u.2.1 8) (pl).toNat ((u.2.2.2 22) + 1)), ((u.2.2.2 22) + 1), (u.2.2.2 23), rfl, ⟨by omega, UP_b p1 (by omega), p2⟩⟩), by show va_P D.1 j_cl (cW D q (sV (sV (sL (sI (sI u 7 (upI (u.2.1 7) ((u.2.2.2 22)).toNat st9)) 8 (upI (u.2.1 8) (pl).toNat ((u.2.2.2 22) + 1))) 2 (vp_updL (u.2.2.1 2) ((u.2.2.2 22)).toNat set)) 22 ((u.2.2.2 22) + 1)) 23 (u.2.2.2 23))) t0.heap; rw [ht]; first | exact hP | (simp only [sI_id, sL_id, sC_id, sX_id, sY_id, sH_id, sT_id, sV_id]; exact hP)⟩, hS.F ht⟩) hS.2.2 dX2_enter_128 hlk
          · skip
            refine lv_aload_n SS.1 SS.2.1 dX2_enter_81 rfl (lv_at hl 0 rfl) ?_
            refine j_iconst SS dX2_enter_82 ?_
            refine j_put SS hG hP (cW_D hD) hS 6 (v := .int (J 1)) (ty := .boolean) (C := RX2) (T := TX2) (N := 7) rfl rfl inX2 tyX2 tyX2_ok nmX2 5 (by decide) (ref := "GridPolygons$Cuts") kw_346 rfl rfl (by decide +kernel) (j_nz (by omega)) rfl (Nat.le_of_ble_eq_true rfl) dX2_enter_83 (ws' := (cW D q (sV u 23 1))) rfl (fun H locs hP hS => ?_)
            have hP : va_P D.1 j_cl (cW D q (sV (sI u 7 (u.2.1 7)) 23 1)) H := Eq.mpr (congrArg (fun s => va_P D.1 j_cl (cW D q (sV s 23 1)) H) (sI_at (u := u) (r := 7) (x := (u.2.1 7)) rfl)) hP
            have hP : va_P D.1 j_cl (cW D q (sV (sI (sI u 7 (u.2.1 7)) 8 (u.2.1 8)) 23 1)) H := Eq.mpr (congrArg (fun s => va_P D.1 j_cl (cW D q (sV s 23 1)) H) (sI_at (u := (sI u 7 (u.2.1 7))) (r := 8) (x := (u.2.1 8)) rfl)) hP
            have hP : va_P D.1 j_cl (cW D q (sV (sL (sI (sI u 7 (u.2.1 7)) 8 (u.2.1 8)) 2 (u.2.2.1 2)) 23 1)) H := Eq.mpr (congrArg (fun s => va_P D.1 j_cl (cW D q (sV s 23 1)) H) (sL_at (u := (sI (sI u 7 (u.2.1 7)) 8 (u.2.1 8))) (r := 2) (x := (u.2.2.1 2)) rfl)) hP
            have hP : va_P D.1 j_cl (cW D q (sV (sV (sL (sI (sI u 7 (u.2.1 7)) 8 (u.2.1 8)) 2 (u.2.2.1 2)) 22 (u.2.2.2 22)) 23 1)) H := Eq.mpr (congrArg (fun s => va_P D.1 j_cl (cW D q (sV s 23 1)) H) (sV_at (u := (sL (sI (sI u 7 (u.2.1 7)) 8 (u.2.1 8)) 2 (u.2.2.1 2))) (r := 22) (x := (u.2.2.2 22)) rfl)) hP
            exact W.vret SS.1 SS.2.1 hr (fun t0 ht hW => ⟨⟨(sV (sV (sL (sI (sI u 7 (u.2.1 7)) 8 (u.2.1 8)) 2 (u.2.2.1 2)) 22 (u.2.2.2 22)) 23 1), rfl, (⟨(u.2.2.1 2), (u.2.1 7), (u.2.1 8), (u.2.2.2 22), 1, rfl, ⟨p0, p1, Or.inr rfl⟩⟩), by show va_P D.1 j_cl (cW D q (sV (sV (sL (sI (sI u 7 (u.2.1 7)) 8 (u.2.1 8)) 2 (u.2.2.1 2)) 22 (u.2.2.2 22)) 23 1)) t0.heap; rw [ht]; first | exact hP | (simp only [sI_id, sL_id, sC_id, sX_id, sY_id, sH_id, sT_id, sV_id]; exact hP)⟩, hS.F ht⟩) hS.2.2 dX2_enter_86 hlk
        · skip
          refine lv_aload_n SS.1 SS.2.1 dX2_enter_36 rfl (lv_at hl 0 rfl) ?_
          refine lv_aload_n SS.1 SS.2.1 dX2_enter_37 rfl (lv_at hl 0 rfl) ?_
          refine j_get SS hG hP 6 (v := .ref (q 65)) (C := RX2) (T := TX2) (N := 7) rfl rfl inX2 3 (by decide) (ref := "GridPolygons$Cuts") kw_343 rfl rfl dX2_enter_38 ?_
          refine lv_iload SS.1 SS.2.1 dX2_enter_41 (lv_at hl 3 rfl) ?_
          refine j_iald SS hG hP 65 (n := 4096) (f := (u.2.1 8)) rfl (z := pl) (by omega) (by omega) dX2_enter_43 ?_
          refine j_iconst SS dX2_enter_44 ?_
          refine j_isub SS (x := ((u.2.1 8) (pl).toNat)) (y := 1) dX2_enter_45 ?_
          refine j_vRl SS (As := [.int (J (((u.2.1 8) (pl).toNat) - 1))]) (rest := []) (c_X2_setOf l D q u  (((u.2.1 8) (pl).toNat) - 1) (show -2147483648 ≤ (((u.2.1 8) (pl).toNat) - 1) ∧ (((u.2.1 8) (pl).toNat) - 1) ≤ 2147483647 from (by omega))) mf_X2_setOf kw_942 hG hP hP (ci := 2) (q0 := 6) rfl rfl rfl rfl hl.1 ⟨⟨Nat.le_of_ble_eq_true rfl, Nat.le_of_ble_eq_true rfl⟩, Nat.le_of_ble_eq_true rfl, Nat.le_refl _, Nat.le_refl _⟩ rfl dX2_enter_46 (fun x_46 h_46 => ?_)
          refine lv_lload_n SS.1 SS.2.1 dX2_enter_49 rfl (lv_at hl 1 rfl) ?_
          refine j_lcmp SS dX2_enter_50 (fun z_50 hz_50 => ?_)
          refine j_if_ne SS (tgt := 55) (x := z_50) dX2_enter_51 (by decide) (by omega) (fun c_51 => ?_) (fun c_51 => ?_)
          · skip
            refine lv_iload SS.1 SS.2.1 dX2_enter_55 (lv_at hl 3 rfl) ?_
            refine j_iconst SS dX2_enter_57 ?_
            refine j_iadd SS (x := pl) (y := 1) dX2_enter_58 ?_
            refine j_sipush SS dX2_enter_59 (by decide +kernel) ?_
            refine lv_iand SS.1 SS.2.1 dX2_enter_62 ?_
            rw [J_of (J (pl + 1) &&& J 4095)]
            have x_62 := J_a4095 (J (pl + 1))
            refine lv_istore (lv' := [(4, .int (J ((J (pl + 1) &&& J 4095).toInt))), (0, .ref (q 6)), (1, .long set), (3, .int (J st9)), (5, .int (J i))]) SS.1 SS.2.1 dX2_enter_63 hl (by decide) rfl (fun ls hl => ?_)
            refine lv_iinc (v := J (i + 1)) (lv' := [(5, .int (J (i + 1))), (4, .int (J ((J (pl + 1) &&& J 4095).toInt))), (0, .ref (q 6)), (1, .long set), (3, .int (J st9))]) SS.1 SS.2.1 dX2_enter_65 hl (k := 4) rfl (J_add _ _) (by decide) rfl (fun ls hl => ?_)
            refine lv_goto (tgt := 18) SS.1 SS.2.1 dX2_enter_68 (by decide) ?_
            exact ih_18 ((J (pl + 1) &&& J 4095).toInt) (i + 1) _ _ hP hS ls (lv_sub hl [2, 3, 4, 1, 0] rfl) (by omega) (by omega) (by omega)
          · skip
            exact W.vret SS.1 SS.2.1 hr (fun t0 ht hW => ⟨⟨(sV (sV (sL (sI (sI u 7 (u.2.1 7)) 8 (u.2.1 8)) 2 (u.2.2.1 2)) 22 (u.2.2.2 22)) 23 (u.2.2.2 23)), rfl, (⟨(u.2.2.1 2), (u.2.1 7), (u.2.1 8), (u.2.2.2 22), (u.2.2.2 23), rfl, ⟨p0, p1, p2⟩⟩), by show va_P D.1 j_cl (cW D q (sV (sV (sL (sI (sI u 7 (u.2.1 7)) 8 (u.2.1 8)) 2 (u.2.2.1 2)) 22 (u.2.2.2 22)) 23 (u.2.2.2 23))) t0.heap; rw [ht]; first | exact hP | (simp only [sI_id, sL_id, sC_id, sX_id, sY_id, sH_id, sT_id, sV_id]; exact hP)⟩, hS.F ht⟩) hS.2.2 dX2_enter_54 hlk
  exact L_18 (((4096 : Int) - (0 : Int)).toNat + 1) ((J ((Int64.toInt32 x_7).toInt) &&& J 4095).toInt) 0 _ _ hP hS ls (lv_sub hl [2, 3, 4, 1, 0] rfl) (by omega) (by omega) (Nat.lt_succ_self _)


set_option maxHeartbeats 4000000 in
set_option maxRecDepth 100000 in
theorem c_X2_search (l : Launch) (D : JD) (q : Nat → Nat) (u : CS) (A : Nat → Prop) (hD : va_D A (cW D q u)) (p0 : 0 ≤ u.2.2.2 20 ∧ u.2.2.2 20 ≤ 63) (p1 : 0 ≤ u.2.2.2 21 ∧ u.2.2.2 21 ≤ 756) (p2 : ∀ k : Nat, 0 ≤ u.2.1 8 k ∧ u.2.1 8 k ≤ 1500) : Met l yX2_search (jw yX2_search cX2_search 5 none) (jr 2 46) (jP [.ref (q 6)] D (fun H => va_P D.1 j_cl (cW D q u) H)) (jWv (fun u' => ∃ st2 : Nat → Int64, ∃ fa : Nat → Int, ∃ pc9 : Nat → Int, ∃ n : Int, ∃ sp : Int, u' = (sV (sV (sL (sI (sI u 7 fa) 8 pc9) 2 st2) 22 n) 23 sp) ∧ ((0 ≤ n ∧ n ≤ 1500) ∧ (∀ k : Nat, 0 ≤ pc9 k ∧ pc9 k ≤ 1500) ∧ (sp = 0 ∨ sp = 1))) (fun u' H => va_P D.1 j_cl (cW D q u') H) A) 0 0 A := by
  refine Met.ofW (cc := cX2_search) (maxL := 5) (ret := none) (by decide) rfl ?_
  intro pr en st mi args below meth co s₁ B hml hv
  obtain ⟨rfl, hG, hP⟩ := hv
  have hr := B.returns
  have hlk := B.notSynchronized
  have SS : jS pr mi co cX2_search 5 st _ RX2 := ⟨B.exec, B.bytes, hml, findClass_of_methodNamed B.named, fun w hw => atoms_spec (ws := (jw yX2_search cX2_search 5 none)) B.pre w (List.mem_cons_of_mem _ hw)⟩
  have hl := lv_entry ([.ref (q 6)]) (n := 5) (Nat.le_of_ble_eq_true rfl)
  rw [lg_entry_eq]
  generalize (lg_sl ([.ref (q 6)]) ++ List.replicate (5 - (lg_sl ([.ref (q 6)])).length) Slot.unset).toArray = ls at hl ⊢
  have hl : lv_has ls 5 [(0, .ref (q 6))] := hl
  have hS : va_S A st.heap st.heap [] := va_S.rf
  refine lv_aload_n SS.1 SS.2.1 dX2_search_0 rfl (lv_at hl 0 rfl) ?_
  refine j_get SS hG hP 6 (v := .ref (q 65)) (C := RX2) (T := TX2) (N := 7) rfl rfl inX2 3 (by decide) (ref := "GridPolygons$Cuts") kw_343 rfl rfl dX2_search_1 ?_
  refine j_iconst SS dX2_search_4 ?_
  refine j_sWv SS (As := [.ref (q 65), .int (J 0)]) (rest := []) (c_J7_fill_53178 l D (ws := (cW D q u)) (A := A) (cW_D hD) 65 (0 : Int) rfl (by first | decide | omega)) mf_J7_fill_53178 kw_932 hG hP hS (fun _ h => h) rfl hl.1 ⟨⟨Nat.le_of_ble_eq_true rfl, Nat.le_of_ble_eq_true rfl⟩, Nat.le_of_ble_eq_true rfl, Nat.le_refl _, Nat.le_refl _⟩ rfl dX2_search_5 (fun _ H locs _ hP _ hS => ?_)
  have hP : va_P D.1 j_cl (cW D q (sI u 8 (jf (u.2.1 8) (0 : Int) 4096))) H := hP
  have hJ5 := JF_b (n := 4096) (v := 0) p2 (by omega)
  refine lv_aload_n SS.1 SS.2.1 dX2_search_8 rfl (lv_at hl 0 rfl) ?_
  refine j_iconst SS dX2_search_9 ?_
  refine j_put SS hG hP (cW_D hD) hS 6 (v := .int (J 0)) (ty := .int) (C := RX2) (T := TX2) (N := 7) rfl rfl inX2 tyX2 tyX2_ok nmX2 4 (by decide) (ref := "GridPolygons$Cuts") kw_344 rfl rfl (by decide +kernel) rfl rfl (Nat.le_of_ble_eq_true rfl) dX2_search_10 (ws' := (cW D q (sV (sI u 8 (jf (u.2.1 8) (0 : Int) 4096)) 22 0))) rfl (fun H locs hP hS => ?_)
  refine lv_aload_n SS.1 SS.2.1 dX2_search_13 rfl (lv_at hl 0 rfl) ?_
  refine j_iconst SS dX2_search_14 ?_
  refine j_put SS hG hP (cW_D hD) hS 6 (v := .int (J 0)) (ty := .boolean) (C := RX2) (T := TX2) (N := 7) rfl rfl inX2 tyX2 tyX2_ok nmX2 5 (by decide) (ref := "GridPolygons$Cuts") kw_346 rfl rfl (by decide +kernel) (j_nz (by omega)) rfl (Nat.le_of_ble_eq_true rfl) dX2_search_15 (ws' := (cW D q (sV (sV (sI u 8 (jf (u.2.1 8) (0 : Int) 4096)) 22 0) 23 0))) rfl (fun H locs hP hS => ?_)
  refine lv_aload_n SS.1 SS.2.1 dX2_search_18 rfl (lv_at hl 0 rfl) ?_
  refine lv_aload_n SS.1 SS.2.1 dX2_search_19 rfl (lv_at hl 0 rfl) ?_
  refine j_get SS hG hP 6 (v := .ref (q 66)) (C := RX2) (T := TX2) (N := 7) rfl rfl inX2 0 (by decide) (ref := "GridPolygons$Cuts") kw_340 rfl rfl dX2_search_20 ?_
  refine j_vRl SS (As := []) (rest := [.ref (q 6)]) (c_X5_firstCut l D q (sV (sV (sI u 8 (jf (u.2.1 8) (0 : Int) 4096)) 22 0) 23 0)   (show 0 ≤ (u.2.2.2 20) ∧ (u.2.2.2 20) ≤ 63 from (by omega))) mf_X5_firstCut kw_933 hG hP hP (ci := 5) (q0 := 66) rfl rfl rfl rfl hl.1 ⟨⟨Nat.le_of_ble_eq_true rfl, Nat.le_of_ble_eq_true rfl⟩, Nat.le_of_ble_eq_true rfl, Nat.le_refl _, Nat.le_refl _⟩ rfl dX2_search_23 (fun x_23 h_23 => ?_)
  refine j_iconst SS dX2_search_26 ?_
  refine j_vWv SS (As := [.long x_23, .int (J 0)]) (rest := []) (c_X2_enter l D q (sV (sV (sI u 8 (jf (u.2.1 8) (0 : Int) 4096)) 22 0) 23 0) A (cW_D hD)  x_23 0 (show 0 ≤ 0 ∧ 0 ≤ 1500 from (by omega)) (show ∀ k : Nat, 0 ≤ (jf (u.2.1 8) (0 : Int) 4096) k ∧ (jf (u.2.1 8) (0 : Int) 4096) k ≤ 1500 from (hJ5)) (show 0 = 0 ∨ 0 = 1 from (by omega))) mf_X2_enter kw_937 hG hP hP (ci := 2) (q0 := 6) rfl rfl rfl hS (fun _ h => h) rfl hl.1 ⟨⟨Nat.le_of_ble_eq_true rfl, Nat.le_of_ble_eq_true rfl⟩, Nat.le_of_ble_eq_true rfl, Nat.le_refl _, Nat.le_refl _⟩ rfl dX2_search_27 (fun u27 H locs h_27 hP _ hS => ?_)
  obtain ⟨st2_27, fa_27, pc9_27, n_27, sp_27, rfl, h_27⟩ := h_27
  have hP : va_P D.1 j_cl (cW D q (sV (sV (sL (sI (sI u 7 fa_27) 8 pc9_27) 2 st2_27) 22 n_27) 23 sp_27)) H := hP
  have h_27 : (0 ≤ n_27 ∧ n_27 ≤ 1500) ∧ (∀ k : Nat, 0 ≤ pc9_27 k ∧ pc9_27 k ≤ 1500) ∧ (sp_27 = 0 ∨ sp_27 = 1) := h_27
  refine j_iconst SS dX2_search_30 ?_
  refine lv_istore_n (lv' := [(1, .int (J 0)), (0, .ref (q 6))]) SS.1 SS.2.1 dX2_search_31 rfl hl (by decide) rfl (fun ls hl => ?_)
  have L_32 : ∀ (nn : Nat) (i : Int) (se1 : Nat → Int64) (fa1 : Nat → Int) (pc1 : Nat → Int) (n1 : Int) (sp1 : Int) (H : Heap) (locs : List Loc) (hP : va_P D.1 j_cl (cW D q (sV (sV (sL (sI (sI u 7 fa1) 8 pc1) 2 se1) 22 n1) 23 sp1)) H) (hS : va_S A st.heap H locs) (ls : Array Slot) (hl : lv_has ls 5 [(0, .ref (q 6)), (1, .int (J i))]) (i32_0 : 0 ≤ i ∧ i ≤ 1500) (i32_1 : 0 ≤ n1 ∧ n1 ≤ 1500) (i32_2 : ∀ k : Nat, 0 ≤ pc1 k ∧ pc1 k ≤ 1500) (i32_3 : sp1 = 0 ∨ sp1 = 1), ((1500 : Int) - i).toNat < nn → W pr l en (headSpec (jw yX2_search cX2_search 5 none) (jr 2 46)).room st mi (([.ref (q 6)] : List Value).toArray) below meth co H locs 0 0 (MQ below (jWv (fun u' => ∃ st2 : Nat → Int64, ∃ fa : Nat → Int, ∃ pc9 : Nat → Int, ∃ n : Int, ∃ sp : Int, u' = (sV (sV (sL (sI (sI u 7 fa) 8 pc9) 2 st2) 22 n) 23 sp) ∧ ((0 ≤ n ∧ n ≤ 1500) ∧ (∀ k : Nat, 0 ≤ pc9 k ∧ pc9 k ≤ 1500) ∧ (sp = 0 ∨ sp = 1))) (fun u' H => va_P D.1 j_cl (cW D q u') H) A) (([.ref (q 6)] : List Value).toArray) st 0 0 A) (F0 mi 32 ls []) := by
    intro nn
    induction nn with
    | zero => intros; omega
    | succ nn ih_32 =>
      intro i se1 fa1 pc1 n1 sp1 H locs hP hS ls hl i32_0 i32_1 i32_2 i32_3 hm
      refine lv_iload_n SS.1 SS.2.1 dX2_search_32 rfl (lv_at hl 1 rfl) ?_
      refine lv_aload_n SS.1 SS.2.1 dX2_search_33 rfl (lv_at hl 0 rfl) ?_
      refine j_get SS hG hP 6 (v := .int (J n1)) (C := RX2) (T := TX2) (N := 7) rfl rfl inX2 4 (by decide) (ref := "GridPolygons$Cuts") kw_344 rfl rfl dX2_search_34 ?_
      refine j_icmp_ge SS (tgt := 111) (x := i) (y := n1) dX2_search_37 (by decide) (by omega) (by omega) (fun c_37 => ?_) (fun c_37 => ?_)
      · skip
        exact W.vret SS.1 SS.2.1 hr (fun t0 ht hW => ⟨⟨(sV (sV (sL (sI (sI u 7 fa1) 8 pc1) 2 se1) 22 n1) 23 sp1), rfl, (⟨se1, fa1, pc1, n1, sp1, rfl, ⟨by omega, i32_2, by omega⟩⟩), by show va_P D.1 j_cl (cW D q (sV (sV (sL (sI (sI u 7 fa1) 8 pc1) 2 se1) 22 n1) 23 sp1)) t0.heap; rw [ht]; first | exact hP | (simp only [sI_id, sL_id, sC_id, sX_id, sY_id, sH_id, sT_id, sV_id]; exact hP)⟩, hS.F ht⟩) hS.2.2 dX2_search_111 hlk
      · skip
        refine lv_aload_n SS.1 SS.2.1 dX2_search_40 rfl (lv_at hl 0 rfl) ?_
        refine j_get SS hG hP 6 (v := .int (J sp1)) (C := RX2) (T := TX2) (N := 7) rfl rfl inX2 5 (by decide) (ref := "GridPolygons$Cuts") kw_346 rfl rfl dX2_search_41 ?_
        refine j_if_ne SS (tgt := 111) (x := sp1) dX2_search_44 (by decide) (by omega) (fun c_44 => ?_) (fun c_44 => ?_)
        · skip
          exact W.vret SS.1 SS.2.1 hr (fun t0 ht hW => ⟨⟨(sV (sV (sL (sI (sI u 7 fa1) 8 pc1) 2 se1) 22 n1) 23 sp1), rfl, (⟨se1, fa1, pc1, n1, sp1, rfl, ⟨by omega, i32_2, by omega⟩⟩), by show va_P D.1 j_cl (cW D q (sV (sV (sL (sI (sI u 7 fa1) 8 pc1) 2 se1) 22 n1) 23 sp1)) t0.heap; rw [ht]; first | exact hP | (simp only [sI_id, sL_id, sC_id, sX_id, sY_id, sH_id, sT_id, sV_id]; exact hP)⟩, hS.F ht⟩) hS.2.2 dX2_search_111 hlk
        · skip
          refine j_iconst SS dX2_search_47 ?_
          refine lv_istore_n (lv' := [(2, .int (J 0)), (0, .ref (q 6)), (1, .int (J i))]) SS.1 SS.2.1 dX2_search_48 rfl hl (by decide) rfl (fun ls hl => ?_)
          have L_49 : ∀ (nn : Nat) (fl : Int) (se2 : Nat → Int64) (fa2 : Nat → Int) (pc2 : Nat → Int) (n2 : Int) (sp2 : Int) (H : Heap) (locs : List Loc) (hP : va_P D.1 j_cl (cW D q (sV (sV (sL (sI (sI u 7 fa2) 8 pc2) 2 se2) 22 n2) 23 sp2)) H) (hS : va_S A st.heap H locs) (ls : Array Slot) (hl : lv_has ls 5 [(0, .ref (q 6)), (1, .int (J i)), (2, .int (J fl))]) (i49_0 : 0 ≤ fl ∧ fl ≤ 756) (i49_1 : 0 ≤ n2 ∧ n2 ≤ 1500) (i49_2 : ∀ k : Nat, 0 ≤ pc2 k ∧ pc2 k ≤ 1500) (i49_3 : sp2 = 0 ∨ sp2 = 1), ((756 : Int) - fl).toNat < nn → W pr l en (headSpec (jw yX2_search cX2_search 5 none) (jr 2 46)).room st mi (([.ref (q 6)] : List Value).toArray) below meth co H locs 0 0 (MQ below (jWv (fun u' => ∃ st2 : Nat → Int64, ∃ fa : Nat → Int, ∃ pc9 : Nat → Int, ∃ n : Int, ∃ sp : Int, u' = (sV (sV (sL (sI (sI u 7 fa) 8 pc9) 2 st2) 22 n) 23 sp) ∧ ((0 ≤ n ∧ n ≤ 1500) ∧ (∀ k : Nat, 0 ≤ pc9 k ∧ pc9 k ≤ 1500) ∧ (sp = 0 ∨ sp = 1))) (fun u' H => va_P D.1 j_cl (cW D q u') H) A) (([.ref (q 6)] : List Value).toArray) st 0 0 A) (F0 mi 49 ls []) := by
            intro nn
            induction nn with
            | zero => intros; omega
            | succ nn ih_49 =>
              intro fl se2 fa2 pc2 n2 sp2 H locs hP hS ls hl i49_0 i49_1 i49_2 i49_3 hm
              refine lv_iload_n SS.1 SS.2.1 dX2_search_49 rfl (lv_at hl 2 rfl) ?_
              refine lv_aload_n SS.1 SS.2.1 dX2_search_50 rfl (lv_at hl 0 rfl) ?_
              refine j_get SS hG hP 6 (v := .ref (q 66)) (C := RX2) (T := TX2) (N := 7) rfl rfl inX2 0 (by decide) (ref := "GridPolygons$Cuts") kw_340 rfl rfl dX2_search_51 ?_
              refine j_get SS hG hP 66 (v := .int (J (u.2.2.2 21))) (C := RX5) (T := TX5) (N := 9) rfl rfl inX5 8 (by decide) (ref := "GridPolygons$Mesh") kw_320 rfl rfl dX2_search_54 ?_
              refine j_icmp_ge SS (tgt := 105) (x := fl) (y := (u.2.2.2 21)) dX2_search_57 (by decide) (by omega) (by omega) (fun c_57 => ?_) (fun c_57 => ?_)
              · skip
                refine lv_iinc (v := J (i + 1)) (lv' := [(1, .int (J (i + 1))), (0, .ref (q 6)), (2, .int (J fl))]) SS.1 SS.2.1 dX2_search_105 hl (k := 1) rfl (J_add _ _) (by decide) rfl (fun ls hl => ?_)
                refine lv_goto (tgt := 32) SS.1 SS.2.1 dX2_search_108 (by decide) ?_
                exact ih_32 (i + 1) se2 fa2 pc2 n2 sp2 _ _ hP hS ls (lv_sub hl [1, 0] rfl) (by omega) (by omega) (i49_2) (by omega) (by omega)
              · skip
                refine lv_aload_n SS.1 SS.2.1 dX2_search_60 rfl (lv_at hl 0 rfl) ?_
                refine j_get SS hG hP 6 (v := .int (J sp2)) (C := RX2) (T := TX2) (N := 7) rfl rfl inX2 5 (by decide) (ref := "GridPolygons$Cuts") kw_346 rfl rfl dX2_search_61 ?_
                refine j_if_ne SS (tgt := 105) (x := sp2) dX2_search_64 (by decide) (by omega) (fun c_64 => ?_) (fun c_64 => ?_)
                · skip
                  refine lv_iinc (v := J (i + 1)) (lv' := [(1, .int (J (i + 1))), (0, .ref (q 6)), (2, .int (J fl))]) SS.1 SS.2.1 dX2_search_105 hl (k := 1) rfl (J_add _ _) (by decide) rfl (fun ls hl => ?_)
                  refine lv_goto (tgt := 32) SS.1 SS.2.1 dX2_search_108 (by decide) ?_
                  exact ih_32 (i + 1) se2 fa2 pc2 n2 sp2 _ _ hP hS ls (lv_sub hl [1, 0] rfl) (by omega) (by omega) (i49_2) (by omega) (by omega)
                · skip
                  refine lv_aload_n SS.1 SS.2.1 dX2_search_67 rfl (lv_at hl 0 rfl) ?_
                  refine j_get SS hG hP 6 (v := .ref (q 66)) (C := RX2) (T := TX2) (N := 7) rfl rfl inX2 0 (by decide) (ref := "GridPolygons$Cuts") kw_340 rfl rfl dX2_search_68 ?_
                  refine lv_aload_n SS.1 SS.2.1 dX2_search_71 rfl (lv_at hl 0 rfl) ?_
                  refine lv_iload_n SS.1 SS.2.1 dX2_search_72 rfl (lv_at hl 1 rfl) ?_
                  refine j_vRl SS (As := [.int (J i)]) (rest := [.ref (q 66)]) (c_X2_setOf l D q (sV (sV (sL (sI (sI u 7 fa2) 8 pc2) 2 se2) 22 n2) 23 sp2)  i (show -2147483648 ≤ i ∧ i ≤ 2147483647 from (by omega))) mf_X2_setOf kw_942 hG hP hP (ci := 2) (q0 := 6) rfl rfl rfl rfl hl.1 ⟨⟨Nat.le_of_ble_eq_true rfl, Nat.le_of_ble_eq_true rfl⟩, Nat.le_of_ble_eq_true rfl, Nat.le_refl _, Nat.le_refl _⟩ rfl dX2_search_73 (fun x_73 h_73 => ?_)
                  refine lv_iload_n SS.1 SS.2.1 dX2_search_76 rfl (lv_at hl 2 rfl) ?_
                  refine j_vRl SS (As := [.long x_73, .int (J fl)]) (rest := []) (c_X5_flipped l D q (sV (sV (sL (sI (sI u 7 fa2) 8 pc2) 2 se2) 22 n2) 23 sp2)  x_73 fl (show -2147483648 ≤ fl ∧ fl ≤ 2147483647 from (by omega))) mf_X5_flipped kw_946 hG hP hP (ci := 5) (q0 := 66) rfl rfl rfl rfl hl.1 ⟨⟨Nat.le_of_ble_eq_true rfl, Nat.le_of_ble_eq_true rfl⟩, Nat.le_of_ble_eq_true rfl, Nat.le_refl _, Nat.le_refl _⟩ rfl dX2_search_77 (fun x_77 h_77 => ?_)
                  refine lv_lstore_n (lv' := [(3, .long x_77), (0, .ref (q 6)), (1, .int (J i)), (2, .int (J fl))]) SS.1 SS.2.1 dX2_search_80 rfl hl (by decide) rfl (fun ls hl => ?_)
                  refine lv_lload_n SS.1 SS.2.1 dX2_search_81 rfl (lv_at hl 0 rfl) ?_
                  refine lv_lconst (v := 0) SS.1 SS.2.1 dX2_search_82 (by decide +kernel) ?_
                  refine j_lcmp SS dX2_search_83 (fun z_83 hz_83 => ?_)
                  refine j_if_eq SS (tgt := 99) (x := z_83) dX2_search_84 (by decide) (by omega) (fun c_84 => ?_) (fun c_84 => ?_)
                  · skip
                    refine lv_iinc (v := J (fl + 1)) (lv' := [(2, .int (J (fl + 1))), (3, .long x_77), (0, .ref (q 6)), (1, .int (J i))]) SS.1 SS.2.1 dX2_search_99 hl (k := 3) rfl (J_add _ _) (by decide) rfl (fun ls hl => ?_)
                    refine lv_goto (tgt := 49) SS.1 SS.2.1 dX2_search_102 (by decide) ?_
                    exact ih_49 (fl + 1) se2 fa2 pc2 n2 sp2 _ _ hP hS ls (lv_sub hl [2, 3, 0] rfl) (by omega) (by omega) (by first | exact i49_2 | exact h_96.2.1) (by omega) (by omega)
                  · skip
                    refine lv_aload_n SS.1 SS.2.1 dX2_search_87 rfl (lv_at hl 1 rfl) ?_
                    refine lv_lload_n SS.1 SS.2.1 dX2_search_88 rfl (lv_at hl 0 rfl) ?_
                    refine lv_aload_n SS.1 SS.2.1 dX2_search_89 rfl (lv_at hl 1 rfl) ?_
                    refine lv_iload_n SS.1 SS.2.1 dX2_search_90 rfl (lv_at hl 2 rfl) ?_
                    refine j_vRi SS (As := [.int (J i)]) (rest := [.long x_77, .ref (q 6)]) (c_X2_farOf l D q (sV (sV (sL (sI (sI u 7 fa2) 8 pc2) 2 se2) 22 n2) 23 sp2)  i (show -2147483648 ≤ i ∧ i ≤ 2147483647 from (by omega))) mf_X2_farOf kw_950 hG hP hP (ci := 2) (q0 := 6) rfl rfl rfl rfl hl.1 ⟨⟨Nat.le_of_ble_eq_true rfl, Nat.le_of_ble_eq_true rfl⟩, Nat.le_of_ble_eq_true rfl, Nat.le_refl _, Nat.le_refl _⟩ rfl dX2_search_91 (fun z_91 h_91 => ?_)
                    have h_91 : True := h_91
                    refine j_iconst SS dX2_search_94 ?_
                    refine j_iadd SS (x := z_91) (y := 1) dX2_search_95 ?_
                    refine j_vWv SS (As := [.long x_77, .int (J (z_91 + 1))]) (rest := []) (c_X2_enter l D q (sV (sV (sL (sI (sI u 7 fa2) 8 pc2) 2 se2) 22 n2) 23 sp2) A (cW_D hD)  x_77 (z_91 + 1) (show 0 ≤ n2 ∧ n2 ≤ 1500 from (by omega)) (show ∀ k : Nat, 0 ≤ pc2 k ∧ pc2 k ≤ 1500 from (i49_2)) (show sp2 = 0 ∨ sp2 = 1 from (by omega))) mf_X2_enter kw_937 hG hP hP (ci := 2) (q0 := 6) rfl rfl rfl hS (fun _ h => h) rfl hl.1 ⟨⟨Nat.le_of_ble_eq_true rfl, Nat.le_of_ble_eq_true rfl⟩, Nat.le_of_ble_eq_true rfl, Nat.le_refl _, Nat.le_refl _⟩ rfl dX2_search_96 (fun u96 H locs h_96 hP _ hS => ?_)
                    obtain ⟨st2_96, fa_96, pc9_96, n_96, sp_96, rfl, h_96⟩ := h_96
                    have hP : va_P D.1 j_cl (cW D q (sV (sV (sL (sI (sI u 7 fa_96) 8 pc9_96) 2 st2_96) 22 n_96) 23 sp_96)) H := hP
                    have h_96 : (0 ≤ n_96 ∧ n_96 ≤ 1500) ∧ (∀ k : Nat, 0 ≤ pc9_96 k ∧ pc9_96 k ≤ 1500) ∧ (sp_96 = 0 ∨ sp_96 = 1) := h_96
                    refine lv_iinc (v := J (fl + 1)) (lv' := [(2, .int (J (fl + 1))), (3, .long x_77), (0, .ref (q 6)), (1, .int (J i))]) SS.1 SS.2.1 dX2_search_99 hl (k := 3) rfl (J_add _ _) (by decide) rfl (fun ls hl => ?_)
                    refine lv_goto (tgt := 49) SS.1 SS.2.1 dX2_search_102 (by decide) ?_
                    exact ih_49 (fl + 1) st2_96 fa_96 pc9_96 n_96 sp_96 _ _ hP hS ls (lv_sub hl [2, 3, 0] rfl) (by omega) (by omega) (by first | exact i49_2 | exact h_96.2.1) (by omega) (by omega)
          exact L_49 (((756 : Int) - (0 : Int)).toNat + 1) 0 se1 fa1 pc1 n1 sp1 _ _ hP hS ls (lv_sub hl [1, 2, 0] rfl) (by omega) (by omega) (i32_2) (by omega) (Nat.lt_succ_self _)
  exact L_32 (((1500 : Int) - (0 : Int)).toNat + 1) 0 st2_27 fa_27 pc9_27 n_27 sp_27 _ _ hP hS ls (lv_sub hl [1, 0] rfl) (by omega) (by omega) (h_27.2.1) (by omega) (Nat.lt_succ_self _)

theorem CI_cu {u : CS} {n : Int} {f : Nat → Int} {g : Nat → Int} {ls9 : Nat → Int} {gr9 : Nat → Int} {nu9 : Nat → Int} {w3 : Nat → Int64} {w4 : Nat → Int64} {w5 : Nat → Int64} {v20 : Int} {v21 : Int} {st2 : Nat → Int64} {fa : Nat → Int} {pc9 : Nat → Int} {v22 : Int} {sp : Int} {v24 : Int} (h : CI u) (q : ((0 ≤ n ∧ n ≤ 12) ∧ RV 40 f g) ∧ (∀ k : Nat, 0 ≤ ls9 k ∧ ls9 k ≤ 12) ∧ (∀ k : Nat, 0 ≤ gr9 k ∧ gr9 k ≤ 12) ∧ (∀ k : Nat, -1 ≤ nu9 k ∧ nu9 k ≤ 63) ∧ ((0 ≤ v20 ∧ v20 ≤ 63) ∧ 0 ≤ v21 ∧ v21 ≤ 756) ∧ ((0 ≤ v22 ∧ v22 ≤ 1500) ∧ (∀ k : Nat, 0 ≤ pc9 k ∧ pc9 k ≤ 1500) ∧ (sp = 0 ∨ sp = 1)) ∧ -2147483648 ≤ v24 ∧ v24 ≤ 2147483647) : CI (sY (sX (sV (sV (sV (sV (sV (sL (sL (sL (sL (sI (sI (sI (sI (sI (sC u 9 n) 2 ls9) 3 gr9) 4 nu9) 7 fa) 8 pc9) 2 st2) 3 w3) 4 w4) 5 w5) 20 v20) 21 v21) 22 v22) 23 sp) 24 v24) 9 f) 9 g) := by
  obtain ⟨h1, h2, h3, h4, h5, h6, h7, h8⟩ := h
  obtain ⟨q1, q2, q3, q4, q5, q6, q7⟩ := q
  have w : ∀ r : Nat, r ≠ 9 → ∀ K, RB K u r → RB K (sY (sX (sV (sV (sV (sV (sV (sL (sL (sL (sL (sI (sI (sI (sI (sI (sC u 9 n) 2 ls9) 3 gr9) 4 nu9) 7 fa) 8 pc9) 2 st2) 3 w3) 4 w4) 5 w5) 20 v20) 21 v21) 22 v22) 23 sp) 24 v24) 9 f) 9 g) r := fun r hr K q => RB_ne (n := n) (f := f) (g := g) hr q
  refine ⟨fun i hi => ⟨w i (by omega) 40 (h1 i hi).1, (h1 i hi).2⟩, ⟨w 8 (by decide) 80 h2.1, q1, w 10 (by decide) 40 h2.2.2⟩, h3, h4, h5, ⟨q5.1, q5.2, fun k => ⟨q2 k, q3 k⟩, q4⟩, ⟨q6.1, q6.2.2, q7, q6.2.1⟩, h8⟩


section JQ
variable {p : Program} {l : Launch} {e : Env} {R : Room} {s : State} {m : MethodId} {args : Array Value} {below : List Frame} {meth : Method} {c : Code} {H : Heap} {locs : List Loc} {cells slots : Nat} {Q : State → Prop}
variable {cc : ByteArray} {nL : Nat} {own : String} {pc : Nat} {ls : Array Slot} {rest : List Value}
/-- a static method that writes nothing: a long -/
theorem j_sRl (S : jS p m c cc nL s args own) {D : JD} {P : Heap → Prop} {As : List Value} {post : Int64 → Prop} {y : MethodName} {bytes : ByteArray} {maxL n index f nl : Nat} {ret : Option FieldType} (hM : Met l y (jw y bytes maxL ret) (jr f nl) (jP As D P) (vp_Sl post) 0 0 (fun _ => False)) (hy : jmS y bytes maxL ret n) (hl : Cond.methodLink own index y ∈ lw_g) (hG : j_K D s) (hP : P H) (hn : As.length = n) (hls : ls.size = nL) (hR : (f + 1 ≤ R.frames ∧ 8 + (maxL + 11) + nl ≤ R.locals) ∧ (rest.map fun v => v.category).sum ≤ 8 ∧ cells ≤ R.cells ∧ slots ≤ R.slots) {st0 : List Value} (hst : st0 = As.reverse ++ rest) (hdg : decode cc pc = .ok (.invokestatic index, 3))
    (k : ∀ x : Int64, post x → W p l e R s m args below meth c H locs cells slots Q (F0 m (pc + 3) ls (.long x :: rest))) : W p l e R s m args below meth c H locs cells slots Q (F0 m pc ls st0) :=
  vp_callSl (W.runS S hM ⟨j_cB S hy.1 hy.2.1 hl hy.2.2.2 hR.1, S.2.2.2.2 _ hy.2.2.1⟩ ⟨jP.blind, jP.at hG hP⟩ rfl hn hls hst (lv_room hR.2.1) hdg hR.2.2) k
end JQ

theorem CI_co {u : CS} {n : Int} {f : Nat → Int} {g : Nat → Int} {se : Nat → Int64} {v25 : Int} {v26 : Int} (h : CI u) (q : ((0 ≤ n ∧ n ≤ 40) ∧ RV 40 f g) ∧ (0 ≤ v25 ∧ v25 ≤ 80) ∧ -2147483648 ≤ v26 ∧ v26 ≤ 2147483647) : CI (sY (sX (sV (sV (sL (sC u 10 n) 6 se) 25 v25) 26 v26) 10 f) 10 g) := by
  obtain ⟨h1, h2, h3, h4, h5, h6, h7, h8⟩ := h
  have w : ∀ r : Nat, r ≠ 10 → ∀ K, RB K u r → RB K (sY (sX (sV (sV (sL (sC u 10 n) 6 se) 25 v25) 26 v26) 10 f) 10 g) r := fun r hr K q => RB_ne (n := n) (f := f) (g := g) hr q
  exact ⟨fun i hi => ⟨w i (by omega) 40 (h1 i hi).1, (h1 i hi).2⟩, ⟨w 8 (by decide) 80 h2.1, w 9 (by decide) 40 h2.2.1, q.1⟩, h3, h4, h5, h6, h7, q.2⟩


theorem CI_ht {u : CS} {i : Nat} {t s : Int} {k : Nat → Int} (h : CI u) (hi : i < 8) (hk : HB k) (ht : -2147483648 ≤ t ∧ t ≤ 2147483647) (hs : -2147483648 ≤ s ∧ s ≤ 2147483647) : CI (sV (sT (sH u i k) i t) 0 s) := by
  have q := h.1 i hi
  have e := CI_sh (i := i) (n := u.1.2.2.1 i) (f := u.1.1 i) (g := u.1.2.1 i) h hi (by have := q.1.1; rw [rl_s hi] at this; exact this) q.1.2 hk ht hs
  simp only [sC_id, sX_id, sY_id] at e
  exact e
theorem HB_up {f : Nat → Int} {k : Nat} {v : Int} (h : HB f) (hv : -1000 ≤ v ∧ v ≤ 1000) : HB (upI f k v) := UP_b h hv


/-! ===== hulls ===== -/
/-- of two numbers: the first above 0, or 0 and the second above 0; lxn: or both 0 -/
def lxp (a b : Int) : Prop := 0 < a ∨ (a = 0 ∧ 0 < b)
def lxn (a b : Int) : Prop := 0 < a ∨ (a = 0 ∧ 0 ≤ b)
theorem lp_ln {a b : Int} (h : lxp a b) : lxn a b := by unfold lxp at h; unfold lxn; omega
theorem lpT {a b c d e f : Int} (h1 : lxp a b) (h2 : lxp c d) (h3 : lxn e f) (g1 : 0 ≤ cx a b c d) (g2 : 0 ≤ cx c d e f) : 0 ≤ cx a b e f := by
  have ha : 0 ≤ a := by unfold lxp at h1; omega
  have he : 0 ≤ e := by unfold lxn at h3; omega
  rcases h2 with hc | ⟨hc, hd⟩
  · have i1 : cx a b e f * c = cx a b c d * e + cx c d e f * a := by unfold cx; grind
    have m1 := Int.mul_nonneg g1 he
    have m2 := Int.mul_nonneg g2 ha
    exact Int.le_of_mul_le_mul_right (show 0 * c ≤ cx a b e f * c from by rw [Int.zero_mul, i1]; omega) hc
  · subst hc
    have he0 : e = 0 := by
      by_cases q : e = 0
      · exact q
      · have m := Int.mul_pos hd (show 0 < e by omega)
        unfold cx at g2
        omega
    subst he0
    have m := Int.mul_nonneg ha (show 0 ≤ f by unfold lxn at h3; omega)
    unfold cx
    omega
theorem lpS {a b c d e f : Int} (h1 : lxp a b) (h2 : lxp c d) (h3 : lxp e f) (g1 : 0 ≤ cx a b c d) (g2 : 0 < cx c d e f) : 0 < cx a b e f := by
  have ha : 0 ≤ a := by unfold lxp at h1; omega
  have he : 0 ≤ e := by unfold lxp at h3; omega
  rcases h2 with hc | ⟨hc, hd⟩
  · have i1 : cx a b e f * c = cx a b c d * e + cx c d e f * a := by unfold cx; grind
    have m1 := Int.mul_nonneg g1 he
    have ha2 : 0 < a := by
      by_cases q : a = 0
      · subst q
        have m := Int.mul_pos (show 0 < b by unfold lxp at h1; omega) hc
        unfold cx at g1
        omega
      · omega
    have m2 := Int.mul_pos g2 ha2
    exact Int.lt_of_mul_lt_mul_right (show 0 * c < cx a b e f * c from by rw [Int.zero_mul, i1]; omega) (by omega)
  · subst hc
    exfalso
    have m := Int.mul_nonneg (show 0 ≤ d by omega) he
    unfold cx at g2
    omega
/-- on the left of an edge or on it, then between its ends -/
def edg (px py ex ey x y : Int) : Prop := 0 ≤ cx (ex - px) (ey - py) (x - px) (y - py) ∧ (cx (ex - px) (ey - py) (x - px) (y - py) = 0 → lxn (x - px) (y - py) ∧ lxn (ex - x) (ey - y))
/-- a chain over the points S, from the place b to the place before h -/
def chx (S : Int → Int → Prop) (X Y : Nat → Int) (b h : Nat) : Prop := b < h ∧ (∀ a : Nat, b ≤ a → a < h → S (X a) (Y a)) ∧ (∀ a : Nat, b ≤ a → a + 1 < h → lxp (X (a + 1) - X a) (Y (a + 1) - Y a)) ∧ (∀ x y : Int, S x y → lxn (x - X b) (y - Y b) ∧ lxn (X (h - 1) - x) (Y (h - 1) - y)) ∧ (∀ a : Nat, b ≤ a → a + 1 < h → ∀ x y : Int, S x y → edg (X a) (Y a) (X (a + 1)) (Y (a + 1)) x y) ∧ ∀ a : Nat, b ≤ a → a + 2 < h → 0 < tn X Y a (a + 1) (a + 2)
theorem chx_up {S : Int → Int → Prop} {X Y : Nat → Int} {b h : Nat} (H : ∀ a : Nat, b ≤ a → a + 1 < h → lxp (X (a + 1) - X a) (Y (a + 1) - Y a)) : ∀ (k a : Nat), b ≤ a → a + k < h → lxn (X (a + k) - X a) (Y (a + k) - Y a) := by
  intro k
  induction k with
  | zero => intro a _ _; show lxn (X a - X a) (Y a - Y a); unfold lxn; omega
  | succ k ih =>
    intro a ha hk
    have q := ih a ha (by omega)
    have r := H (a + k) (by omega) (by omega)
    show lxn (X (a + k + 1) - X a) (Y (a + k + 1) - Y a)
    unfold lxn lxp at *
    omega
theorem cx_sw {a b c d : Int} : cx c d a b = - cx a b c d := by unfold cx; grind
theorem cx_sh {a b c d e f : Int} : cx (c - a) (d - b) (e - a) (f - b) = cx (c - a) (d - b) (e - c) (f - d) := by unfold cx; grind
theorem cx_c1 {gx gy hx hy qx qy wx wy : Int} : cx (wx - gx) (wy - gy) (qx - gx) (qy - gy) = cx (wx - qx) (wy - qy) (hx - gx) (hy - gy) + cx (wx - hx) (wy - hy) (qx - hx) (qy - hy) := by unfold cx; grind
theorem cx_c2 {hx hy qx qy wx wy : Int} : cx (wx - qx) (wy - qy) (wx - hx) (wy - hy) = cx (wx - hx) (wy - hy) (qx - hx) (qy - hy) := by unfold cx; grind
theorem cx_c3 {gx gy hx hy qx qy : Int} : cx (hx - qx) (hy - qy) (hx - gx) (hy - gy) = cx (hx - gx) (hy - gy) (qx - gx) (qy - gy) := by unfold cx; grind
theorem cx_c4 {hx hy qx qy wx wy : Int} : cx (wx - hx) (wy - hy) (qx - hx) (qy - hy) = cx (hx - qx) (hy - qy) (wx - hx) (wy - hy) := by unfold cx; grind
theorem cx_00 {a b : Int} : cx a b a b = 0 := by unfold cx; grind
theorem cx_z {a b : Int} : cx a b 0 0 = 0 := by unfold cx; grind
/-- the points behind the place that stays are left of the way to the new one -/
theorem chx_k1 {S : Int → Int → Prop} {X Y : Nat → Int} {b h v : Nat} {wx wy : Int} (C : chx S X Y b h) (hw : lxp (wx - X (h - 1)) (wy - Y (h - 1))) (hv : b < v) (hvh : v ≤ h) (hpop : ∀ j : Nat, v ≤ j → j < h → cx (X j - X (j - 1)) (Y j - Y (j - 1)) (wx - X (j - 1)) (wy - Y (j - 1)) ≤ 0) :
    ∀ (k m : Nat), m + k + 1 = h → v ≤ m + 1 → ∀ x y : Int, S x y → lxn (x - X m) (y - Y m) → 0 ≤ cx (wx - X m) (wy - Y m) (x - X m) (y - Y m) := by
  obtain ⟨_, _, c3, c4, c5, _⟩ := C
  intro k
  induction k with
  | zero =>
    intro m hm _ x y hs hl
    have q := (c4 x y hs).2
    rw [show h - 1 = m by omega] at q
    rw [show x - X m = 0 by unfold lxn at *; omega, show y - Y m = 0 by unfold lxn at *; omega, cx_z]
    omega
  | succ k ih =>
    intro m hm hvm x y hs hl
    have P := ih (m + 1) (by omega) (by omega) x y hs
    have hp := hpop (m + 1) (by omega) (by omega)
    rw [show m + 1 - 1 = m by omega] at hp
    have hd := c3 m (by omega) (by omega)
    have up := chx_up (S := S) c3 (h - 1 - (m + 1)) (m + 1) (by omega) (by omega)
    rw [show m + 1 + (h - 1 - (m + 1)) = h - 1 by omega] at up
    have hwH : lxp (wx - X (m + 1)) (wy - Y (m + 1)) := by unfold lxp lxn at *; omega
    have hwg : lxp (wx - X m) (wy - Y m) := by unfold lxp lxn at *; omega
    by_cases e : lxn (x - X (m + 1)) (y - Y (m + 1))
    · have q := P e
      have hwq : lxp (wx - x) (wy - y) := by
        have z := (c4 x y hs).2
        unfold lxp lxn at *; omega
      rw [cx_c1 (hx := X (m + 1)) (hy := Y (m + 1))]
      have z := lpT hwq hwH (lp_ln hd) (by rw [cx_c2]; exact q) (by rw [cx_sw, ← cx_sh]; omega)
      omega
    · have q := (c5 m (by omega) (by omega) x y hs).1
      exact lpT hwg hd hl (by rw [cx_sw]; omega) q
/-- the points before it too -/
theorem chx_k2 {S : Int → Int → Prop} {X Y : Nat → Int} {b h v : Nat} {wx wy : Int} (C : chx S X Y b h) (hw : lxp (wx - X (h - 1)) (wy - Y (h - 1))) (hv : b < v) (hvh : v ≤ h) (hkeep : v ≤ b + 1 ∨ 0 < cx (X (v - 1) - X (v - 2)) (Y (v - 1) - Y (v - 2)) (wx - X (v - 2)) (wy - Y (v - 2))) {x y : Int} (hs : S x y) (hl : ¬ lxn (x - X (v - 1)) (y - Y (v - 1))) : 0 < cx (wx - X (v - 1)) (wy - Y (v - 1)) (x - X (v - 1)) (y - Y (v - 1)) := by
  obtain ⟨_, _, c3, c4, c5, _⟩ := C
  have hb := (c4 x y hs).1
  have hvb : b + 1 < v := by
    apply Nat.lt_of_not_le; intro q
    rw [show v - 1 = b by omega] at hl
    exact hl hb
  have hk : 0 < cx (X (v - 1) - X (v - 2)) (Y (v - 1) - Y (v - 2)) (wx - X (v - 2)) (wy - Y (v - 2)) := by
    rcases hkeep with q | q
    · omega
    · exact q
  have hd := c3 (v - 2) (by omega) (by omega)
  have he := (c5 (v - 2) (by omega) (by omega) x y hs).1
  rw [show v - 2 + 1 = v - 1 by omega] at hd he
  have up := chx_up (S := S) c3 (h - 1 - (v - 1)) (v - 1) (by omega) (by omega)
  rw [show v - 1 + (h - 1 - (v - 1)) = h - 1 by omega] at up
  have ha : lxp (wx - X (v - 1)) (wy - Y (v - 1)) := by unfold lxp lxn at *; omega
  have hq : lxp (X (v - 1) - x) (Y (v - 1) - y) := by unfold lxp; unfold lxn at hl; omega
  rw [cx_c4]
  exact lpS hq hd ha (by rw [cx_c3]; exact he) (by rw [← cx_sh]; exact hk)
/-- the new point is left of the edges that stay -/
theorem chx_k3 {S : Int → Int → Prop} {X Y : Nat → Int} {b h v : Nat} {wx wy : Int} (C : chx S X Y b h) (hw : lxp (wx - X (h - 1)) (wy - Y (h - 1))) (hv : b < v) (hvh : v ≤ h) (hkeep : v ≤ b + 1 ∨ 0 < cx (X (v - 1) - X (v - 2)) (Y (v - 1) - Y (v - 2)) (wx - X (v - 2)) (wy - Y (v - 2))) : ∀ (k a : Nat), a + k + 2 = v → b ≤ a → 0 < cx (X (a + 1) - X a) (Y (a + 1) - Y a) (wx - X a) (wy - Y a) := by
  obtain ⟨_, _, c3, c4, c5, c6⟩ := C
  intro k
  induction k with
  | zero =>
    intro a ha hb
    rcases hkeep with q | q
    · omega
    · rw [show v - 1 = a + 1 by omega, show v - 2 = a by omega] at q; exact q
  | succ k ih =>
    intro a ha hb
    have q := ih (a + 1) (by omega) (by omega)
    have t := c6 a hb (by omega)
    have d0 := c3 a hb (by omega)
    have d1 := c3 (a + 1) (by omega) (by omega)
    have up := chx_up (S := S) c3 (h - 1 - (a + 1)) (a + 1) (by omega) (by omega)
    rw [show a + 1 + (h - 1 - (a + 1)) = h - 1 by omega] at up
    have hwa : lxp (wx - X (a + 1)) (wy - Y (a + 1)) := by unfold lxp lxn at *; omega
    have t2 : 0 < cx (X (a + 1) - X a) (Y (a + 1) - Y a) (X (a + 2) - X (a + 1)) (Y (a + 2) - Y (a + 1)) := by
      rw [← cx_sh]; exact t
    rw [cx_sh]
    exact lpS d0 d1 hwa (by show 0 ≤ cx _ _ (X (a + 2) - X (a + 1)) (Y (a + 2) - Y (a + 1)); omega) q
/-- a chain goes on -/
theorem chx_s {S : Int → Int → Prop} {X Y X' Y' : Nat → Int} {b h v : Nat} {wx wy : Int} (C : chx S X Y b h) (hw : lxp (wx - X (h - 1)) (wy - Y (h - 1))) (hv : b < v) (hvh : v ≤ h) (hpop : ∀ j : Nat, v ≤ j → j < h → cx (X j - X (j - 1)) (Y j - Y (j - 1)) (wx - X (j - 1)) (wy - Y (j - 1)) ≤ 0) (hkeep : v ≤ b + 1 ∨ 0 < cx (X (v - 1) - X (v - 2)) (Y (v - 1) - Y (v - 2)) (wx - X (v - 2)) (wy - Y (v - 2))) (hX : ∀ a : Nat, a < v → X' a = X a ∧ Y' a = Y a) (hx : X' v = wx) (hy : Y' v = wy) {S' : Int → Int → Prop} (hS : ∀ x y : Int, S' x y ↔ S x y ∨ (x = wx ∧ y = wy)) : chx S' X' Y' b (v + 1) := by
  have K1 := chx_k1 C hw hv hvh hpop (h - v) (v - 1) (by omega) (by omega)
  have K3 := chx_k3 C hw hv hvh hkeep
  have K2 := fun x y hs hl => chx_k2 C hw hv hvh hkeep (x := x) (y := y) hs hl
  obtain ⟨c1, c2, c3, c4, c5, c6⟩ := C
  have eX : ∀ a : Nat, a < v → X' a = X a := fun a ha => (hX a ha).1
  have eY : ∀ a : Nat, a < v → Y' a = Y a := fun a ha => (hX a ha).2
  have up := chx_up (S := S) c3 (h - 1 - (v - 1)) (v - 1) (by omega) (by omega)
  rw [show v - 1 + (h - 1 - (v - 1)) = h - 1 by omega] at up
  have ub := chx_up (S := S) c3 (v - 1 - b) b (by omega) (by omega)
  rw [show b + (v - 1 - b) = v - 1 by omega] at ub
  have hwv : lxp (wx - X (v - 1)) (wy - Y (v - 1)) := by unfold lxp lxn at *; omega
  have hwq : ∀ x y : Int, S x y → lxp (wx - x) (wy - y) := fun x y hs => by
    have z := (c4 x y hs).2
    unfold lxp lxn at *; omega
  refine ⟨by omega, fun a ha hh => ?_, fun a ha hh => ?_, fun x y hs => ?_, fun a ha hh x y hs => ?_, fun a ha hh => ?_⟩
  · by_cases e : a = v
    · subst e; exact (hS _ _).mpr (Or.inr ⟨hx, hy⟩)
    · rw [eX a (by omega), eY a (by omega)]; exact (hS _ _).mpr (Or.inl (c2 a ha (by omega)))
  · by_cases e : a + 1 = v
    · rw [e, hx, hy, eX a (by omega), eY a (by omega), show a = v - 1 by omega]; exact hwv
    · rw [eX a (by omega), eY a (by omega), eX (a + 1) (by omega), eY (a + 1) (by omega)]; exact c3 a ha (by omega)
  · rw [show v + 1 - 1 = v by omega, hx, hy, eX b hv, eY b hv]
    rcases (hS x y).mp hs with q | ⟨q1, q2⟩
    · exact ⟨(c4 x y q).1, lp_ln (hwq x y q)⟩
    · subst q1; subst q2
      exact ⟨by unfold lxp lxn at *; omega, by unfold lxn; omega⟩
  · by_cases e : a + 1 = v
    · rw [e, hx, hy, eX a (by omega), eY a (by omega), show a = v - 1 by omega]
      rcases (hS x y).mp hs with q | ⟨q1, q2⟩
      · by_cases l : lxn (x - X (v - 1)) (y - Y (v - 1))
        · exact ⟨K1 x y q l, fun _ => ⟨l, lp_ln (hwq x y q)⟩⟩
        · have z := K2 x y q l
          exact ⟨by omega, fun z2 => by omega⟩
      · subst q1; subst q2
        exact ⟨by rw [cx_00]; omega, fun _ => ⟨lp_ln hwv, by unfold lxn; omega⟩⟩
    · rw [eX a (by omega), eY a (by omega), eX (a + 1) (by omega), eY (a + 1) (by omega)]
      rcases (hS x y).mp hs with q | ⟨q1, q2⟩
      · exact c5 a ha (by omega) x y q
      · subst q1; subst q2
        have z := K3 (v - 2 - a) a (by omega) ha
        exact ⟨by omega, fun z2 => by omega⟩
  · by_cases e : a + 2 = v
    · unfold tn
      rw [e, hx, hy, eX a (by omega), eY a (by omega), eX (a + 1) (by omega), eY (a + 1) (by omega)]
      rcases hkeep with q | q
      · omega
      · rw [show v - 1 = a + 1 by omega, show v - 2 = a by omega] at q
        unfold cx at q
        exact q
    · rw [tn_cong (eX a (by omega)) (eX (a + 1) (by omega)) (eX (a + 2) (by omega)) (eY a (by omega)) (eY (a + 1) (by omega)) (eY (a + 2) (by omega))]
      exact c6 a ha (by omega)
/-- a chain of one point -/
theorem chx_1 {S : Int → Int → Prop} {X Y : Nat → Int} {b : Nat} (h : ∀ x y : Int, S x y ↔ x = X b ∧ y = Y b) : chx S X Y b (b + 1) := by
  refine ⟨by omega, fun a ha hh => ?_, fun a ha hh => by omega, fun x y hs => ?_, fun a ha hh => by omega, fun a ha hh => by omega⟩
  · rw [show a = b by omega]; exact (h _ _).mpr ⟨rfl, rfl⟩
  · obtain ⟨e1, e2⟩ := (h x y).mp hs
    rw [show b + 1 - 1 = b by omega, e1, e2]
    exact ⟨by unfold lxn; omega, by unfold lxn; omega⟩
theorem chx_cong {S S' : Int → Int → Prop} {X Y X' Y' : Nat → Int} {b h : Nat} (C : chx S X Y b h) (e : ∀ a : Nat, b ≤ a → a < h → X' a = X a ∧ Y' a = Y a) (hS : ∀ x y : Int, S' x y ↔ S x y) : chx S' X' Y' b h := by
  obtain ⟨c1, c2, c3, c4, c5, c6⟩ := C
  refine ⟨c1, fun a ha hh => ?_, fun a ha hh => ?_, fun x y hs => ?_, fun a ha hh x y hs => ?_, fun a ha hh => ?_⟩
  · rw [(e a ha hh).1, (e a ha hh).2]; exact (hS _ _).mpr (c2 a ha hh)
  · rw [(e a ha (by omega)).1, (e a ha (by omega)).2, (e (a + 1) (by omega) hh).1, (e (a + 1) (by omega) hh).2]; exact c3 a ha hh
  · rw [(e b (by omega) c1).1, (e b (by omega) c1).2, (e (h - 1) (by omega) (by omega)).1, (e (h - 1) (by omega) (by omega)).2]; exact c4 x y ((hS _ _).mp hs)
  · rw [(e a ha (by omega)).1, (e a ha (by omega)).2, (e (a + 1) (by omega) hh).1, (e (a + 1) (by omega) hh).2]; exact c5 a ha hh x y ((hS _ _).mp hs)
  · rw [tn_cong (e a ha (by omega)).1 (e (a + 1) (by omega) (by omega)).1 (e (a + 2) (by omega) (by omega)).1 (e a ha (by omega)).2 (e (a + 1) (by omega) (by omega)).2 (e (a + 2) (by omega) (by omega)).2]; exact c6 a ha hh
/-! what a hull is -/
def nxt (X : Nat → Int) (n : Int) (a : Nat) : Int := if (a : Int) + 1 < n then X (a + 1) else X 0
/-- an edge of S, told either way -/
def edS (S : Int → Int → Prop) (px py ex ey : Int) : Prop := (px ≠ ex ∨ py ≠ ey) ∧ ∀ x y : Int, S x y → 0 ≤ cx (ex - px) (ey - py) (x - px) (y - py) ∧ (cx (ex - px) (ey - py) (x - px) (y - py) = 0 → (lxn (x - px) (y - py) ∧ lxn (ex - x) (ey - y)) ∨ (lxn (px - x) (py - y) ∧ lxn (x - ex) (y - ey)))
def HS (S : Int → Int → Prop) (n : Int) (X Y : Nat → Int) : Prop := (n = 0 ∧ ∀ x y : Int, ¬ S x y) ∨ (0 < n ∧ S (X 0) (Y 0) ∧ (∀ x y : Int, S x y → lxn (x - X 0) (y - Y 0)) ∧ ((n = 1 ∧ ∀ x y : Int, S x y → x = X 0 ∧ y = Y 0) ∨ (2 ≤ n ∧ (∀ a : Nat, 0 < a → (a : Int) < n → S (X a) (Y a) ∧ (X a ≠ X 0 ∨ Y a ≠ Y 0)) ∧ ∀ a : Nat, (a : Int) < n → edS S (X a) (Y a) (nxt X n a) (nxt Y n a))))
theorem edS_u {S : Int → Int → Prop} {px py ex ey fx fy : Int} (h : edS S px py ex ey) (h' : edS S px py fx fy) (se : S ex ey) (sf : S fx fy) : ex = fx ∧ ey = fy := by
  obtain ⟨n1, g1⟩ := h
  obtain ⟨n2, g2⟩ := h'
  obtain ⟨a1, b1⟩ := g1 fx fy sf
  obtain ⟨a2, b2⟩ := g2 ex ey se
  rw [cx_sw] at a2 b2
  have z : cx (ex - px) (ey - py) (fx - px) (fy - py) = 0 := by omega
  have r1 := b1 z
  have r2 := b2 (by omega)
  unfold lxn at r1 r2
  omega
theorem HS_S {S : Int → Int → Prop} {n : Int} {X Y : Nat → Int} (h : HS S n X Y) (a : Nat) (ha : (a : Int) < n) : S (X a) (Y a) := by
  rcases h with ⟨h, _⟩ | ⟨h1, h2, h3, ⟨h4, _⟩ | ⟨h4, h5, _⟩⟩
  · omega
  · rw [show a = 0 by omega]; exact h2
  · by_cases e : a = 0
    · rw [e]; exact h2
    · exact (h5 a (by omega) ha).1
theorem HS_p {S : Int → Int → Prop} {n n' : Int} {X Y X' Y' : Nat → Int} (h : HS S n X Y) (h' : HS S n' X' Y') : ∀ a : Nat, (a : Int) < n → (a : Int) < n' → X a = X' a ∧ Y a = Y' a := by
  intro a
  induction a with
  | zero =>
    intro h1 h2
    have s1 := HS_S h 0 h1
    have s2 := HS_S h' 0 h2
    rcases h with ⟨h, _⟩ | ⟨_, _, h3, _⟩
    · omega
    · rcases h' with ⟨h', _⟩ | ⟨_, _, h3', _⟩
      · omega
      · have q1 := h3 _ _ s2
        have q2 := h3' _ _ s1
        unfold lxn at q1 q2
        omega
  | succ a ih =>
    intro h1 h2
    obtain ⟨e1, e2⟩ := ih (by omega) (by omega)
    have s1 := HS_S h (a + 1) h1
    have s2 := HS_S h' (a + 1) h2
    rcases h with ⟨h, _⟩ | ⟨_, _, _, ⟨h4, _⟩ | ⟨_, _, h6⟩⟩
    · omega
    · omega
    · rcases h' with ⟨h', _⟩ | ⟨_, _, _, ⟨h4', _⟩ | ⟨_, _, h6'⟩⟩
      · omega
      · omega
      · have g1 := h6 a (by omega)
        have g2 := h6' a (by omega)
        unfold nxt at g1 g2
        rw [if_pos (by omega), if_pos (by omega)] at g1 g2
        rw [e1, e2] at g1
        exact edS_u g1 g2 s1 s2
theorem HS_n {S : Int → Int → Prop} {n n' : Int} {X Y X' Y' : Nat → Int} (h : HS S n X Y) (h' : HS S n' X' Y') : n' ≤ n := by
  apply Int.not_lt.mp
  intro hl
  have P := HS_p h h'
  have T := fun a ha => HS_S h' a ha
  rcases h with ⟨h, hn⟩ | ⟨h1, h2, h3, h4⟩
  · exact hn _ _ (T 0 (by omega))
  · have e0 := P 0 (by omega) (by omega)
    rcases h' with ⟨h', _⟩ | ⟨_, _, _, ⟨h4', _⟩ | ⟨h4', h5', h6'⟩⟩
    · omega
    · omega
    · rcases h4 with ⟨h4, h5⟩ | ⟨h4, h5, h6⟩
      · have q := h5' 1 (by omega) (by omega)
        have r := h5 _ _ q.1
        omega
      · have e1 := P (n - 1).toNat (by omega) (by omega)
        have g1 := h6 (n - 1).toNat (by omega)
        have g2 := h6' (n - 1).toNat (by omega)
        unfold nxt at g1 g2
        rw [if_neg (by omega), if_neg (by omega)] at g1
        rw [if_pos (by omega), if_pos (by omega)] at g2
        rw [e1.1, e1.2] at g1
        have q := h5' ((n - 1).toNat + 1) (by omega) (by omega)
        have r := edS_u g1 g2 h2 q.1
        omega
theorem HS_u {S : Int → Int → Prop} {n n' : Int} {X Y X' Y' : Nat → Int} (h : HS S n X Y) (h' : HS S n' X' Y') : n = n' ∧ ∀ a : Nat, (a : Int) < n → X a = X' a ∧ Y a = Y' a := by
  have h1 := HS_n h h'
  have h2 := HS_n h' h
  exact ⟨by omega, fun a ha => HS_p h h' a ha (by omega)⟩
theorem HS_c {S S' : Int → Int → Prop} {n : Int} {X Y X' Y' : Nat → Int} (h : HS S n X Y) (hS : ∀ x y : Int, S x y ↔ S' x y) (e : ∀ a : Nat, (a : Int) < n → X' a = X a ∧ Y' a = Y a) : HS S' n X' Y' := by
  rcases h with ⟨h, h2⟩ | ⟨h1, h2, h3, h4⟩
  · exact Or.inl ⟨h, fun x y q => h2 x y ((hS x y).mpr q)⟩
  · have e0 := e 0 (by omega)
    refine Or.inr ⟨h1, by rw [e0.1, e0.2]; exact (hS _ _).mp h2, fun x y q => by rw [e0.1, e0.2]; exact h3 x y ((hS x y).mpr q), ?_⟩
    rcases h4 with ⟨h4, h5⟩ | ⟨h4, h5, h6⟩
    · exact Or.inl ⟨h4, fun x y q => by rw [e0.1, e0.2]; exact h5 x y ((hS x y).mpr q)⟩
    · refine Or.inr ⟨h4, fun a ha hh => ?_, fun a ha => ?_⟩
      · have q := h5 a ha hh
        rw [(e a hh).1, (e a hh).2, e0.1, e0.2]
        exact ⟨(hS _ _).mp q.1, q.2⟩
      · have q := h6 a ha
        have n1 : nxt X' n a = nxt X n a := by
          unfold nxt; split
          · exact (e (a + 1) (by omega)).1
          · exact e0.1
        have n2 : nxt Y' n a = nxt Y n a := by
          unfold nxt; split
          · exact (e (a + 1) (by omega)).2
          · exact e0.2
        rw [(e a ha).1, (e a ha).2, n1, n2]
        exact ⟨q.1, fun x y s => q.2 x y ((hS x y).mpr s)⟩


theorem cx_nn {a b c d e f g h : Int} : cx (-a - -b) (-c - -d) (-e - -b) (-f - -d) = cx (a - b) (c - d) (e - b) (f - d) := by unfold cx; grind
/-- the points of S turned by a half turn -/
def ngS (S : Int → Int → Prop) : Int → Int → Prop := fun x y => S (-x) (-y)
def ng (X : Nat → Int) : Nat → Int := fun a => - X a
theorem ngS_n {S : Int → Int → Prop} {x y : Int} : ngS S (-x) (-y) ↔ S x y := by unfold ngS; rw [Int.neg_neg, Int.neg_neg]
/-- an edge of a chain is one of S -/
theorem chx_e1 {S : Int → Int → Prop} {X Y : Nat → Int} {b h a : Nat} (C : chx S X Y b h) (ha : b ≤ a) (hh : a + 1 < h) : edS S (X a) (Y a) (X (a + 1)) (Y (a + 1)) := by
  have d := C.2.2.1 a ha hh
  refine ⟨by unfold lxp at d; omega, fun x y s => ?_⟩
  have q := C.2.2.2.2.1 a ha hh x y s
  exact ⟨q.1, fun z => Or.inl (q.2 z)⟩
theorem chx_e2 {S : Int → Int → Prop} {X Y : Nat → Int} {b h a : Nat} (C : chx (ngS S) (ng X) (ng Y) b h) (ha : b ≤ a) (hh : a + 1 < h) : edS S (X a) (Y a) (X (a + 1)) (Y (a + 1)) := by
  have d := C.2.2.1 a ha hh
  unfold ng at d
  refine ⟨by unfold lxp at d; omega, fun x y s => ?_⟩
  have q := C.2.2.2.2.1 a ha hh (-x) (-y) (ngS_n.mpr s)
  unfold edg ng at q
  rw [cx_nn (g := 0) (h := 0)] at q
  refine ⟨q.1, fun z => Or.inr ?_⟩
  have r := q.2 z
  unfold lxn at r ⊢
  omega
theorem chx_lt {S : Int → Int → Prop} {X Y : Nat → Int} {b h : Nat} (C : chx S X Y b h) {a c : Nat} (ha : b ≤ a) (hac : a < c) (hc : c < h) : lxp (X c - X a) (Y c - Y a) := by
  have d := C.2.2.1 a ha (by omega)
  have up := chx_up (S := S) C.2.2.1 (c - (a + 1)) (a + 1) (by omega) (by omega)
  rw [show a + 1 + (c - (a + 1)) = c by omega] at up
  unfold lxp lxn at *
  omega
/-- the reference's way: lower chain to t, upper chain from t on; the place n holds the first one again -/
theorem HS_m {S : Int → Int → Prop} {X Y : Nat → Int} {t n : Nat} (C1 : chx S X Y 0 (t + 1)) (C2 : chx (ngS S) (ng X) (ng Y) t (n + 1)) (ht : 1 ≤ t) (hn : t < n) (eX : X n = X 0) (eY : Y n = Y 0) : HS S n X Y := by
  have s0 := C1.2.1 0 (by omega) (by omega)
  refine Or.inr ⟨by omega, s0, fun x y s => (C1.2.2.2.1 x y s).1, Or.inr ⟨by omega, fun a ha hh => ⟨?_, ?_⟩, fun a ha => ?_⟩⟩
  · by_cases e : a ≤ t
    · exact C1.2.1 a (by omega) (by omega)
    · have q := C2.2.1 a (by omega) (by omega)
      unfold ng at q
      exact ngS_n.mp q
  · by_cases e : a ≤ t
    · have q := chx_lt C1 (a := 0) (c := a) (by omega) ha (by omega)
      unfold lxp at q; omega
    · have q := chx_lt C2 (a := a) (c := n) (by omega) (by omega) (by omega)
      unfold lxp ng at q; omega
  · have n1 : nxt X n a = X (a + 1) := by
      unfold nxt; split
      · rfl
      · rw [show a + 1 = n by omega, eX]
    have n2 : nxt Y n a = Y (a + 1) := by
      unfold nxt; split
      · rfl
      · rw [show a + 1 = n by omega, eY]
    rw [n1, n2]
    by_cases e : a < t
    · exact chx_e1 C1 (by omega) (by omega)
    · exact chx_e2 C2 (by omega) (by omega)
theorem HS_1 {S : Int → Int → Prop} {X Y : Nat → Int} (h : S (X 0) (Y 0)) (h2 : ∀ x y : Int, S x y → x = X 0 ∧ y = Y 0) : HS S 1 X Y :=
  Or.inr ⟨by omega, h, fun x y s => by obtain ⟨e1, e2⟩ := h2 x y s; rw [e1, e2]; unfold lxn; omega, Or.inl ⟨rfl, h2⟩⟩
/-! the class's way: columns -/
/-- of each column (x from -80 on) the least and the greatest -/
def HUL (S : Int → Int → Prop) (f g : Nat → Int) : Prop := (∀ x y : Int, S x y → (-80 ≤ x ∧ x ≤ 80) ∧ f (x + 80).toNat ≤ y ∧ y ≤ g (x + 80).toNat) ∧ (∀ c : Nat, c < 161 → f c ≤ g c → S ((c : Int) - 80) (f c) ∧ S ((c : Int) - 80) (g c)) ∧ ∀ c : Nat, c < 161 → f c ≤ g c ∨ (81 ≤ f c ∧ g c ≤ -81)
/-- the lowest points of the columns before k -/
def SL (f g : Nat → Int) (k : Nat) : Int → Int → Prop := fun x y => ∃ c : Nat, c < k ∧ f c ≤ g c ∧ x = (c : Int) - 80 ∧ y = f c
/-- the highest points of the columns from k on -/
def SH (f g : Nat → Int) (k : Nat) : Int → Int → Prop := fun x y => ∃ c : Nat, k ≤ c ∧ c < 161 ∧ f c ≤ g c ∧ x = (c : Int) - 80 ∧ y = g c
theorem HUL_l {S : Int → Int → Prop} {f g : Nat → Int} (h : HUL S f g) {x y : Int} (s : S x y) : SL f g 161 x (f (x + 80).toNat) ∧ SH f g 0 x (g (x + 80).toNat) := by
  have q := h.1 x y s
  exact ⟨⟨(x + 80).toNat, by omega, by omega, by omega, rfl⟩, ⟨(x + 80).toNat, by omega, by omega, by omega, by omega, rfl⟩⟩
theorem SL_S {S : Int → Int → Prop} {f g : Nat → Int} (h : HUL S f g) {x y : Int} (s : SL f g 161 x y) : S x y := by
  obtain ⟨c, h1, h2, rfl, rfl⟩ := s
  exact (h.2.1 c h1 h2).1
theorem SH_S {S : Int → Int → Prop} {f g : Nat → Int} (h : HUL S f g) {x y : Int} (s : SH f g 0 x y) : S x y := by
  obtain ⟨c, _, h1, h2, rfl, rfl⟩ := s
  exact (h.2.1 c h1 h2).2
theorem cx_up {a b c d e : Int} : cx a b c d = cx a b c e + a * (d - e) := by unfold cx; grind
/-- an edge over the lowest points is one of S -/
theorem edS_l {S : Int → Int → Prop} {f g : Nat → Int} (h : HUL S f g) {X Y : Nat → Int} {b m a : Nat} (C : chx (SL f g 161) X Y b m) (ha : b ≤ a) (hh : a + 1 < m) : edS S (X a) (Y a) (X (a + 1)) (Y (a + 1)) := by
  have d := C.2.2.1 a ha hh
  have hx : 0 < X (a + 1) - X a := by
    obtain ⟨c1, _, _, e1, e2⟩ := C.2.1 a ha (by omega)
    obtain ⟨c2, _, _, e3, e4⟩ := C.2.1 (a + 1) (by omega) hh
    rcases d with d | ⟨d1, d2⟩
    · exact d
    · have : c1 = c2 := by omega
      subst this
      omega
  refine ⟨by omega, fun x y s => ?_⟩
  have q := C.2.2.2.2.1 a ha hh _ _ (HUL_l h s).1
  have r := (h.1 x y s).2.1
  have m0 := Int.mul_nonneg (show 0 ≤ X (a + 1) - X a by omega) (show 0 ≤ (y - Y a) - (f (x + 80).toNat - Y a) by omega)
  have e := cx_up (a := X (a + 1) - X a) (b := Y (a + 1) - Y a) (c := x - X a) (d := y - Y a) (e := f (x + 80).toNat - Y a)
  have q1 := q.1
  refine ⟨by omega, fun z => Or.inl ?_⟩
  have ey : y = f (x + 80).toNat := by
    by_cases w : y = f (x + 80).toNat
    · exact w
    · have m1 := Int.mul_pos hx (show 0 < (y - Y a) - (f (x + 80).toNat - Y a) by omega)
      omega
  have q2 := q.2 (by rw [← ey]; exact z)
  rw [← ey] at q2
  exact q2
theorem edS_h {S : Int → Int → Prop} {f g : Nat → Int} (h : HUL S f g) {X Y : Nat → Int} {b m a : Nat} (C : chx (ngS (SH f g 0)) (ng X) (ng Y) b m) (ha : b ≤ a) (hh : a + 1 < m) : edS S (X a) (Y a) (X (a + 1)) (Y (a + 1)) := by
  have d := C.2.2.1 a ha hh
  unfold ng at d
  have hx : X (a + 1) - X a < 0 := by
    obtain ⟨c1, _, _, _, e1, e2⟩ := ngS_n.mp (C.2.1 a ha (by omega))
    obtain ⟨c2, _, _, _, e3, e4⟩ := ngS_n.mp (C.2.1 (a + 1) (by omega) hh)
    rcases d with d | ⟨d1, d2⟩
    · omega
    · have : c1 = c2 := by omega
      subst this
      omega
  refine ⟨by omega, fun x y s => ?_⟩
  have q := C.2.2.2.2.1 a ha hh (-x) (-(g (x + 80).toNat)) (ngS_n.mpr (HUL_l h s).2)
  unfold edg ng at q
  rw [cx_nn (g := 0) (h := 0)] at q
  have r := (h.1 x y s).2.2
  have m0 := Int.mul_nonneg (show 0 ≤ X a - X (a + 1) by omega) (show 0 ≤ (g (x + 80).toNat - Y a) - (y - Y a) by omega)
  have e := cx_up (a := X (a + 1) - X a) (b := Y (a + 1) - Y a) (c := x - X a) (d := y - Y a) (e := g (x + 80).toNat - Y a)
  have e2 : (X (a + 1) - X a) * (y - Y a - (g (x + 80).toNat - Y a)) = (X a - X (a + 1)) * ((g (x + 80).toNat - Y a) - (y - Y a)) := by grind
  have q1 := q.1
  refine ⟨by omega, fun z => Or.inr ?_⟩
  have ey : y = g (x + 80).toNat := by
    by_cases w : y = g (x + 80).toNat
    · exact w
    · have m1 := Int.mul_pos (show 0 < X a - X (a + 1) by omega) (show 0 < (g (x + 80).toNat - Y a) - (y - Y a) by omega)
      omega
  have q2 := q.2 (by rw [← ey]; exact z)
  rw [← ey] at q2
  unfold lxn at q2 ⊢
  omega
/-- upright edges -/
theorem edS_u1 {S : Int → Int → Prop} {px py ey : Int} (hp : py < ey) (h : ∀ x y : Int, S x y → x < px ∨ (x = px ∧ py ≤ y ∧ y ≤ ey)) : edS S px py px ey := by
  refine ⟨by omega, fun x y s => ?_⟩
  have e : cx (px - px) (ey - py) (x - px) (y - py) = (ey - py) * (px - x) := by unfold cx; grind
  rw [e]
  rcases h x y s with q | ⟨q, q1, q2⟩
  · have m := Int.mul_pos (show 0 < ey - py by omega) (show 0 < px - x by omega)
    exact ⟨by omega, fun z => by omega⟩
  · subst q
    rw [show x - x = 0 by omega, Int.mul_zero]
    exact ⟨by omega, fun _ => Or.inl (by unfold lxn; omega)⟩
theorem edS_u2 {S : Int → Int → Prop} {px py ey : Int} (hp : ey < py) (h : ∀ x y : Int, S x y → px < x ∨ (x = px ∧ ey ≤ y ∧ y ≤ py)) : edS S px py px ey := by
  refine ⟨by omega, fun x y s => ?_⟩
  have e : cx (px - px) (ey - py) (x - px) (y - py) = (py - ey) * (x - px) := by unfold cx; grind
  rw [e]
  rcases h x y s with q | ⟨q, q1, q2⟩
  · have m := Int.mul_pos (show 0 < py - ey by omega) (show 0 < x - px by omega)
    exact ⟨by omega, fun z => by omega⟩
  · subst q
    rw [show x - x = 0 by omega, Int.mul_zero]
    exact ⟨by omega, fun _ => Or.inr (by unfold lxn; omega)⟩
/-- the class's hull: lower chain to m, an upright edge or none, upper chain from b on to k - 1; n of them are told -/
theorem HS_k {S : Int → Int → Prop} {f g : Nat → Int} (h : HUL S f g) {X Y : Nat → Int} {m b k n : Nat} (C1 : chx (SL f g 161) X Y 0 (m + 1)) (C2 : chx (ngS (SH f g 0)) (ng X) (ng Y) b k) (hb : (b = m ∧ Y b = Y m) ∨ (b = m + 1 ∧ X b = X m ∧ Y m < Y b)) (hn : (n = k ∧ (k ≤ 1 ∨ X 0 ≠ X (k - 1) ∨ Y 0 ≠ Y (k - 1))) ∨ (n + 1 = k ∧ 1 < k ∧ X 0 = X (k - 1) ∧ Y 0 = Y (k - 1))) : HS S n X Y := by
  have hbk := C2.1
  have s0 : S (X 0) (Y 0) := SL_S h (C1.2.1 0 (by omega) (by omega))
  -- the ends
  have L0 : ∀ x y : Int, S x y → X 0 < x ∨ (x = X 0 ∧ Y 0 ≤ y) := fun x y s => by
    have q := (C1.2.2.2.1 _ _ (HUL_l h s).1).1
    have r := (h.1 x y s).2
    obtain ⟨c, _, _, e1, e2⟩ := C1.2.1 0 (by omega) (by omega)
    unfold lxn at q
    omega
  have Lm : ∀ x y : Int, S x y → x ≤ X m := fun x y s => by
    have q := (C1.2.2.2.1 _ _ (HUL_l h s).1).2
    rw [show m + 1 - 1 = m by omega] at q
    unfold lxn at q
    omega
  have Xb : X b = X m := by
    rcases hb with q | q
    · rw [q.1]
    · exact q.2.1
  have Hb : ∀ x y : Int, S x y → x = X m → y ≤ Y b := fun x y s e => by
    have q := (C2.2.2.2.1 _ _ (ngS_n.mpr (HUL_l h s).2)).1
    have r := (h.1 x y s).2
    unfold lxn ng at q
    omega
  have He : ∀ x y : Int, S x y → X (k - 1) < x ∨ (x = X (k - 1) ∧ y ≤ Y (k - 1)) := fun x y s => by
    have q := (C2.2.2.2.1 _ _ (ngS_n.mpr (HUL_l h s).2)).2
    have r := (h.1 x y s).2
    obtain ⟨c, _, _, _, e1, e2⟩ := ngS_n.mp (C2.2.1 (k - 1) (by omega) (by omega))
    unfold lxn ng at q
    by_cases z : x = X (k - 1)
    · rw [show (x + 80).toNat = c by omega] at r
      omega
    · omega
  have Se : S (X (k - 1)) (Y (k - 1)) := SH_S h (ngS_n.mp (C2.2.1 (k - 1) (by omega) (by omega)))
  have Sm : S (X m) (Y m) := SL_S h (C1.2.1 m (by omega) (by omega))
  have Lmy : ∀ x y : Int, S x y → x = X m → Y m ≤ y := fun x y s e => by
    have r := (h.1 x y s).2
    obtain ⟨c, _, _, e1, e2⟩ := C1.2.1 m (by omega) (by omega)
    rw [show (x + 80).toNat = c by omega] at r
    omega
  have X0e : X (k - 1) = X 0 := by
    have q1 := L0 _ _ Se
    have q2 := He _ _ s0
    omega
  have Y0e : Y 0 ≤ Y (k - 1) := by
    have q1 := L0 _ _ Se
    omega
  by_cases one : k = 1
  · -- one point
    have b0 : b = 0 := by omega
    have m0 : m = 0 := by omega
    subst m0
    have n1 : n = 1 := by omega
    subst n1
    refine HS_1 s0 (fun x y s => ?_)
    have q1 := L0 x y s
    have q2 := He x y s
    rw [one] at q2
    have q3 := Lm x y s
    rw [show 1 - 1 = 0 from rfl] at q2
    omega
  have hn2 : 2 ≤ n := by
    rcases hn with ⟨q, _⟩ | ⟨q, q2, q3, q4⟩
    · omega
    · apply Nat.le_of_not_lt
      intro w
      have k2 : k = 2 := by omega
      subst k2
      rw [show 2 - 1 = 1 from rfl] at q3 q4
      rcases hb with ⟨b1, b2⟩ | ⟨b1, b2, b3⟩
      · by_cases e : b = 0
        · have d := chx_lt C2 (a := 0) (c := 1) (by omega) (by omega) (by omega)
          unfold lxp ng at d
          omega
        · have d := chx_lt C1 (a := 0) (c := 1) (by omega) (by omega) (by omega)
          unfold lxp at d
          omega
      · have : m = 0 := by omega
        subst this
        rw [b1, show 0 + 1 = 1 from rfl] at b3
        omega
  refine Or.inr ⟨by omega, s0, fun x y s => by have q := L0 x y s; unfold lxn; omega, Or.inr ⟨by omega, fun a ha hh => ⟨?_, ?_⟩, fun a ha => ?_⟩⟩
  · by_cases e : a ≤ m
    · exact SL_S h (C1.2.1 a (by omega) (by omega))
    · exact SH_S h (ngS_n.mp (C2.2.1 a (by omega) (by omega)))
  · by_cases e : a ≤ m
    · have d := chx_lt C1 (a := 0) (c := a) (by omega) ha (by omega)
      unfold lxp at d; omega
    · by_cases w : a < k - 1
      · have d := chx_lt C2 (a := a) (c := k - 1) (by omega) w (by omega)
        unfold lxp ng at d; omega
      · have ea : a = k - 1 := by omega
        subst ea
        rcases hn with ⟨_, q⟩ | ⟨q, _⟩
        · omega
        · omega
  · have n1 : a + 1 < k → nxt X n a = X (a + 1) ∧ nxt Y n a = Y (a + 1) := fun w => by
      unfold nxt
      split
      · exact ⟨rfl, rfl⟩
      · rcases hn with ⟨q, _⟩ | ⟨q, _, q3, q4⟩
        · omega
        · rw [show a + 1 = k - 1 by omega]; exact ⟨q3, q4⟩
    by_cases w : a + 1 < k
    · rw [(n1 w).1, (n1 w).2]
      by_cases e : a < m
      · exact edS_l h C1 (by omega) (by omega)
      · by_cases e2 : b ≤ a
        · exact edS_h h C2 e2 w
        · rcases hb with ⟨b1, _⟩ | ⟨b1, b2, b3⟩
          · omega
          · have ea : a = m := by omega
            subst ea
            rw [← b1, b2]
            refine edS_u1 b3 (fun x y s => ?_)
            have q1 := Lm x y s
            by_cases z : x = X a
            · exact Or.inr ⟨z, Lmy x y s z, Hb x y s z⟩
            · omega
    · -- the upright edge at the left end
      have ea : a = k - 1 := by omega
      have en : n = k := by omega
      subst ea
      have n2 : nxt X n (k - 1) = X 0 ∧ nxt Y n (k - 1) = Y 0 := by
        unfold nxt
        rw [if_neg (by omega), if_neg (by omega)]
        exact ⟨rfl, rfl⟩
      rw [n2.1, n2.2]
      have hy : Y 0 < Y (k - 1) := by
        rcases hn with ⟨_, q⟩ | ⟨q, _⟩
        · omega
        · omega
      rw [← X0e]
      refine edS_u2 hy (fun x y s => ?_)
      have q1 := L0 x y s
      have q2 := He x y s
      omega

