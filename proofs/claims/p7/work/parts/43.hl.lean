
theorem J_a4095 (x : Int32) : 0 ≤ (x &&& J 4095).toInt ∧ (x &&& J 4095).toInt ≤ 4095 := by
  have h1 : (x &&& J 4095).toBitVec.toNat ≤ 4095 := by
    rw [Ja_nat, J_bn (by omega)]
    exact Nat.and_le_right
  have h2 : (x &&& J 4095) = J (((x &&& J 4095).toBitVec.toNat : Nat) : Int) := by
    rw [← J_nat]
    apply Int32.toBitVec_inj.mp
    show _ = BitVec.ofNat 32 _
    rw [BitVec.ofNat_toNat, BitVec.setWidth_eq]
  rw [h2, J_toInt (by omega)]
  omega

set_option maxHeartbeats 4000000 in
set_option maxRecDepth 100000 in
theorem c_X2_enter (l : Launch) (D : JD) (q : Nat → Nat) (u : CS) (A : Nat → Prop) (hD : va_D A (cW D q u)) (set : Int64) (st9 : Int) (p0 : 0 ≤ u.2.2.2 22 ∧ u.2.2.2 22 ≤ 1500) (p1 : ∀ k : Nat, 0 ≤ u.2.1 8 k ∧ u.2.1 8 k ≤ 1500) (p2 : u.2.2.2 23 = 0 ∨ u.2.2.2 23 = 1) : Met l yX2_enter (jw yX2_enter cX2_enter 6 none) (jr 1 21) (jP [.ref (q 6), .long set, .int (J st9)] D (fun H => va_P D.1 j_cl (cW D q u) H)) (jWv (fun u' => ∃ st2 : Nat → Int64, ∃ fa : Nat → Int, ∃ pc9 : Nat → Int, ∃ n : Int, ∃ sp : Int, u' = (sV (sV (sL (sI (sI u 7 fa) 8 pc9) 2 st2) 22 n) 23 sp) ∧ ((0 ≤ n ∧ n ≤ 1500) ∧ (∀ k : Nat, 0 ≤ pc9 k ∧ pc9 k ≤ 1500) ∧ (sp = 0 ∨ sp = 1))) (fun u' H => va_P D.1 j_cl (cW D q u') H) A) 0 0 A := by
  refine Met.ofW (cc := cX2_enter) (maxL := 6) (ret := none) (by decide) rfl ?_
  intro pr en st mi args below meth co s₁ B hml hv
  obtain ⟨rfl, hG, hP⟩ := hv
  have hr := B.returns
  have hlk := B.notSynchronized
  have SS : jS pr mi co cX2_enter 6 st _ RX2 := ⟨B.exec, B.bytes, hml, findClass_of_methodNamed B.named, fun w hw => atoms_spec (ws := (jw yX2_enter cX2_enter 6 none)) B.pre w (List.mem_cons_of_mem _ hw)⟩
  have hl := lv_entry ([.ref (q 6), .long set, .int (J st9)]) (n := 6) (Nat.le_of_ble_eq_true rfl)
  rw [lg_entry_eq]
  generalize (lg_sl ([.ref (q 6), .long set, .int (J st9)]) ++ List.replicate (6 - (lg_sl ([.ref (q 6), .long set, .int (J st9)])).length) Slot.unset).toArray = ls at hl ⊢
  have hl : lv_has ls 6 [(0, .ref (q 6)), (1, .long set), (3, .int (J st9))] := hl
  have hS : va_S A st.heap st.heap [] := va_S.rf
  refine lv_lload_n SS.1 SS.2.1 dX2_enter_0 rfl (lv_at hl 1 rfl) ?_
  refine lv_ldc2 SS.1 SS.2.1 SS.2.2.2.1 (SS.2.2.2.2 _ kw_941) dX2_enter_1 ?_
  refine lv_lmul SS.1 SS.2.1 dX2_enter_4 ?_
  refine j_bipush SS dX2_enter_5 (by decide +kernel) ?_
  refine lv_lushr SS.1 SS.2.1 dX2_enter_7 rfl (lv_topl (fun x_7 ex_7 => ?_))
  refine lv_l2i SS.1 SS.2.1 dX2_enter_8 rfl ?_
  rw [J_of (Int64.toInt32 _)]
  have r_8 := J_rng (Int64.toInt32 x_7)
  refine j_sipush SS dX2_enter_9 (by decide +kernel) ?_
  refine lv_iand SS.1 SS.2.1 dX2_enter_12 ?_
  rw [J_of (J ((Int64.toInt32 x_7).toInt) &&& J 4095)]
  have x_12 := J_a4095 (J ((Int64.toInt32 x_7).toInt))
  refine lv_istore (lv' := [(4, .int (J ((J ((Int64.toInt32 x_7).toInt) &&& J 4095).toInt))), (0, .ref (q 6)), (1, .long set), (3, .int (J st9))]) SS.1 SS.2.1 dX2_enter_13 hl (by decide) rfl (fun ls hl => ?_)
  refine j_iconst SS dX2_enter_15 ?_
  refine lv_istore (lv' := [(5, .int (J 0)), (4, .int (J ((J ((Int64.toInt32 x_7).toInt) &&& J 4095).toInt))), (0, .ref (q 6)), (1, .long set), (3, .int (J st9))]) SS.1 SS.2.1 dX2_enter_16 hl (by decide) rfl (fun ls hl => ?_)
  have L_18 : ∀ (nn : Nat) (pl : Int) (i : Int) (H : Heap) (locs : List Loc) (hP : va_P D.1 j_cl (cW D q u) H) (hS : va_S A st.heap H locs) (ls : Array Slot) (hl : lv_has ls 6 [(0, .ref (q 6)), (1, .long set), (3, .int (J st9)), (4, .int (J pl)), (5, .int (J i))]) (i18_0 : 0 ≤ pl ∧ pl ≤ 4095) (i18_1 : 0 ≤ i ∧ i ≤ 4096), ((4096 : Int) - i).toNat < nn → W pr l en (headSpec (jw yX2_enter cX2_enter 6 none) (jr 1 21)).room st mi (([.ref (q 6), .long set, .int (J st9)] : List Value).toArray) below meth co H locs 0 0 (MQ below (jWv (fun u' => ∃ st2 : Nat → Int64, ∃ fa : Nat → Int, ∃ pc9 : Nat → Int, ∃ n : Int, ∃ sp : Int, u' = (sV (sV (sL (sI (sI u 7 fa) 8 pc9) 2 st2) 22 n) 23 sp) ∧ ((0 ≤ n ∧ n ≤ 1500) ∧ (∀ k : Nat, 0 ≤ pc9 k ∧ pc9 k ≤ 1500) ∧ (sp = 0 ∨ sp = 1))) (fun u' H => va_P D.1 j_cl (cW D q u') H) A) (([.ref (q 6), .long set, .int (J st9)] : List Value).toArray) st 0 0 A) (F0 mi 18 ls []) := by
    intro nn
    induction nn with
    | zero => intros; omega
    | succ nn ih_18 =>
      intro pl i  H locs hP hS ls hl i18_0 i18_1 hm
      refine lv_iload SS.1 SS.2.1 dX2_enter_18 (lv_at hl 4 rfl) ?_
      refine j_sipush SS dX2_enter_20 (by decide +kernel) ?_
      refine j_icmp_ge SS (tgt := 71) (x := i) (y := 4096) dX2_enter_23 (by decide) (by omega) (by decide) (fun c_23 => ?_) (fun c_23 => ?_)
      · skip
        refine lv_aload_n SS.1 SS.2.1 dX2_enter_71 rfl (lv_at hl 0 rfl) ?_
        refine j_get SS hG hP 6 (v := .int (J (u.2.2.2 22))) (C := RX2) (T := TX2) (N := 7) rfl rfl inX2 4 (by decide) (ref := "GridPolygons$Cuts") kw_344 rfl rfl dX2_enter_72 ?_
        refine j_sipush SS dX2_enter_75 (by decide +kernel) ?_
        refine j_icmp_lt SS (tgt := 87) (x := (u.2.2.2 22)) (y := 1500) dX2_enter_78 (by decide) (by omega) (by decide) (fun c_78 => ?_) (fun c_78 => ?_)
        · skip
          refine lv_aload_n SS.1 SS.2.1 dX2_enter_87 rfl (lv_at hl 0 rfl) ?_
          refine j_get SS hG hP 6 (v := .ref (q 69)) (C := RX2) (T := TX2) (N := 7) rfl rfl inX2 1 (by decide) (ref := "GridPolygons$Cuts") kw_341 rfl rfl dX2_enter_88 ?_
          refine lv_aload_n SS.1 SS.2.1 dX2_enter_91 rfl (lv_at hl 0 rfl) ?_
          refine j_get SS hG hP 6 (v := .int (J (u.2.2.2 22))) (C := RX2) (T := TX2) (N := 7) rfl rfl inX2 4 (by decide) (ref := "GridPolygons$Cuts") kw_344 rfl rfl dX2_enter_92 ?_
          refine lv_lload_n SS.1 SS.2.1 dX2_enter_95 rfl (lv_at hl 1 rfl) ?_
          refine j_last SS hG hP (cW_D hD) hS 69 (n := 1500) (f := (u.2.2.1 2)) rfl (z := (u.2.2.2 22)) (v := set) (by omega) (by omega) dX2_enter_96 (ws' := (cW D q (sL u 2 (vp_updL (u.2.2.1 2) ((u.2.2.2 22)).toNat set)))) rfl (fun H locs hP hS => ?_)
          refine lv_aload_n SS.1 SS.2.1 dX2_enter_97 rfl (lv_at hl 0 rfl) ?_
          refine j_get SS hG hP 6 (v := .ref (q 64)) (C := RX2) (T := TX2) (N := 7) rfl rfl inX2 2 (by decide) (ref := "GridPolygons$Cuts") kw_342 rfl rfl dX2_enter_98 ?_
          refine lv_aload_n SS.1 SS.2.1 dX2_enter_101 rfl (lv_at hl 0 rfl) ?_
          refine j_get SS hG hP 6 (v := .int (J (u.2.2.2 22))) (C := RX2) (T := TX2) (N := 7) rfl rfl inX2 4 (by decide) (ref := "GridPolygons$Cuts") kw_344 rfl rfl dX2_enter_102 ?_
          refine lv_iload_n SS.1 SS.2.1 dX2_enter_105 rfl (lv_at hl 2 rfl) ?_
          refine j_iast SS hG hP (cW_D hD) hS 64 (n := 1500) (f := (u.2.1 7)) rfl (z := (u.2.2.2 22)) (v := st9) (by omega) (by omega) dX2_enter_106 (ws' := (cW D q (sL (sI u 7 (upI (u.2.1 7) ((u.2.2.2 22)).toNat st9)) 2 (vp_updL (u.2.2.1 2) ((u.2.2.2 22)).toNat set)))) rfl (fun H locs hP hS => ?_)
          refine lv_aload_n SS.1 SS.2.1 dX2_enter_107 rfl (lv_at hl 0 rfl) ?_
          refine lv_dup SS.1 SS.2.1 dX2_enter_108 rfl ?_
          refine j_get SS hG hP 6 (v := .int (J (u.2.2.2 22))) (C := RX2) (T := TX2) (N := 7) rfl rfl inX2 4 (by decide) (ref := "GridPolygons$Cuts") kw_344 rfl rfl dX2_enter_109 ?_
          refine j_iconst SS dX2_enter_112 ?_
          refine j_iadd SS (x := (u.2.2.2 22)) (y := 1) dX2_enter_113 ?_
          refine j_put SS hG hP (cW_D hD) hS 6 (v := .int (J ((u.2.2.2 22) + 1))) (ty := .int) (C := RX2) (T := TX2) (N := 7) rfl rfl inX2 tyX2 tyX2_ok nmX2 4 (by decide) (ref := "GridPolygons$Cuts") kw_344 rfl rfl (by decide +kernel) rfl rfl (Nat.le_of_ble_eq_true rfl) dX2_enter_114 (ws' := (cW D q (sV (sL (sI u 7 (upI (u.2.1 7) ((u.2.2.2 22)).toNat st9)) 2 (vp_updL (u.2.2.1 2) ((u.2.2.2 22)).toNat set)) 22 ((u.2.2.2 22) + 1)))) rfl (fun H locs hP hS => ?_)
          refine lv_aload_n SS.1 SS.2.1 dX2_enter_117 rfl (lv_at hl 0 rfl) ?_
          refine j_get SS hG hP 6 (v := .ref (q 65)) (C := RX2) (T := TX2) (N := 7) rfl rfl inX2 3 (by decide) (ref := "GridPolygons$Cuts") kw_343 rfl rfl dX2_enter_118 ?_
          refine lv_iload SS.1 SS.2.1 dX2_enter_121 (lv_at hl 3 rfl) ?_
          refine lv_aload_n SS.1 SS.2.1 dX2_enter_123 rfl (lv_at hl 0 rfl) ?_
          refine j_get SS hG hP 6 (v := .int (J ((u.2.2.2 22) + 1))) (C := RX2) (T := TX2) (N := 7) rfl rfl inX2 4 (by decide) (ref := "GridPolygons$Cuts") kw_344 rfl rfl dX2_enter_124 ?_
          refine j_iast SS hG hP (cW_D hD) hS 65 (n := 4096) (f := (u.2.1 8)) rfl (z := pl) (v := ((u.2.2.2 22) + 1)) (by omega) (by omega) dX2_enter_127 (ws' := (cW D q (sV (sL (sI (sI u 7 (upI (u.2.1 7) ((u.2.2.2 22)).toNat st9)) 8 (upI (u.2.1 8) (pl).toNat ((u.2.2.2 22) + 1))) 2 (vp_updL (u.2.2.1 2) ((u.2.2.2 22)).toNat set)) 22 ((u.2.2.2 22) + 1)))) rfl (fun H locs hP hS => ?_)
          have hP : va_P D.1 j_cl (cW D q (sV (sV (sL (sI (sI u 7 (upI (u.2.1 7) ((u.2.2.2 22)).toNat st9)) 8 (upI (u.2.1 8) (pl).toNat ((u.2.2.2 22) + 1))) 2 (vp_updL (u.2.2.1 2) ((u.2.2.2 22)).toNat set)) 22 ((u.2.2.2 22) + 1)) 23 (u.2.2.2 23))) H := Eq.mpr (congrArg (fun s => va_P D.1 j_cl (cW D q s) H) (sV_at (u := (sV (sL (sI (sI u 7 (upI (u.2.1 7) ((u.2.2.2 22)).toNat st9)) 8 (upI (u.2.1 8) (pl).toNat ((u.2.2.2 22) + 1))) 2 (vp_updL (u.2.2.1 2) ((u.2.2.2 22)).toNat set)) 22 ((u.2.2.2 22) + 1))) (r := 23) (x := (u.2.2.2 23)) rfl)) hP
          exact W.vret SS.1 SS.2.1 hr (fun t0 ht hW => ⟨⟨(sV (sV (sL (sI (sI u 7 (upI (u.2.1 7) ((u.2.2.2 22)).toNat st9)) 8 (upI (u.2.1 8) (pl).toNat ((u.2.2.2 22) + 1))) 2 (vp_updL (u.2.2.1 2) ((u.2.2.2 22)).toNat set)) 22 ((u.2.2.2 22) + 1)) 23 (u.2.2.2 23)), rfl, (⟨(vp_updL (u.2.2.1 2) ((u.2.2.2 22)).toNat set), (upI (u.2.1 7) ((u.2.2.2 22)).toNat st9), (upI (u.2.1 8) (pl).toNat ((u.2.2.2 22) + 1)), ((u.2.2.2 22) + 1), (u.2.2.2 23), rfl, ⟨by omega, UP_b p1 (by omega), p2⟩⟩), by show va_P D.1 j_cl (cW D q (sV (sV (sL (sI (sI u 7 (upI (u.2.1 7) ((u.2.2.2 22)).toNat st9)) 8 (upI (u.2.1 8) (pl).toNat ((u.2.2.2 22) + 1))) 2 (vp_updL (u.2.2.1 2) ((u.2.2.2 22)).toNat set)) 22 ((u.2.2.2 22) + 1)) 23 (u.2.2.2 23))) t0.heap; rw [ht]; first | exact hP | (simp only [sI_id, sL_id, sC_id, sX_id, sY_id, sH_id, sT_id, sV_id]; exact hP)⟩, hS.F ht⟩) hS.2.2 dX2_enter_128 hlk
        · skip
          refine lv_aload_n SS.1 SS.2.1 dX2_enter_81 rfl (lv_at hl 0 rfl) ?_
          refine j_iconst SS dX2_enter_82 ?_
          refine j_put SS hG hP (cW_D hD) hS 6 (v := .int (J 1)) (ty := .boolean) (C := RX2) (T := TX2) (N := 7) rfl rfl inX2 tyX2 tyX2_ok nmX2 5 (by decide) (ref := "GridPolygons$Cuts") kw_346 rfl rfl (by decide +kernel) (j_nz (by omega)) rfl (Nat.le_of_ble_eq_true rfl) dX2_enter_83 (ws' := (cW D q (sV u 23 1))) rfl (fun H locs hP hS => ?_)
          have hP : va_P D.1 j_cl (cW D q (sV (sI u 7 (u.2.1 7)) 23 1)) H := Eq.mpr (congrArg (fun s => va_P D.1 j_cl (cW D q (sV s 23 1)) H) (sI_at (u := u) (r := 7) (x := (u.2.1 7)) rfl)) hP
          have hP : va_P D.1 j_cl (cW D q (sV (sI (sI u 7 (u.2.1 7)) 8 (u.2.1 8)) 23 1)) H := Eq.mpr (congrArg (fun s => va_P D.1 j_cl (cW D q (sV s 23 1)) H) (sI_at (u := (sI u 7 (u.2.1 7))) (r := 8) (x := (u.2.1 8)) rfl)) hP
          have hP : va_P D.1 j_cl (cW D q (sV (sL (sI (sI u 7 (u.2.1 7)) 8 (u.2.1 8)) 2 (u.2.2.1 2)) 23 1)) H := Eq.mpr (congrArg (fun s => va_P D.1 j_cl (cW D q (sV s 23 1)) H) (sL_at (u := (sI (sI u 7 (u.2.1 7)) 8 (u.2.1 8))) (r := 2) (x := (u.2.2.1 2)) rfl)) hP
          have hP : va_P D.1 j_cl (cW D q (sV (sV (sL (sI (sI u 7 (u.2.1 7)) 8 (u.2.1 8)) 2 (u.2.2.1 2)) 22 (u.2.2.2 22)) 23 1)) H := Eq.mpr (congrArg (fun s => va_P D.1 j_cl (cW D q (sV s 23 1)) H) (sV_at (u := (sL (sI (sI u 7 (u.2.1 7)) 8 (u.2.1 8)) 2 (u.2.2.1 2))) (r := 22) (x := (u.2.2.2 22)) rfl)) hP
          exact W.vret SS.1 SS.2.1 hr (fun t0 ht hW => ⟨⟨(sV (sV (sL (sI (sI u 7 (u.2.1 7)) 8 (u.2.1 8)) 2 (u.2.2.1 2)) 22 (u.2.2.2 22)) 23 1), rfl, (⟨(u.2.2.1 2), (u.2.1 7), (u.2.1 8), (u.2.2.2 22), 1, rfl, ⟨p0, p1, Or.inr rfl⟩⟩), by show va_P D.1 j_cl (cW D q (sV (sV (sL (sI (sI u 7 (u.2.1 7)) 8 (u.2.1 8)) 2 (u.2.2.1 2)) 22 (u.2.2.2 22)) 23 1)) t0.heap; rw [ht]; first | exact hP | (simp only [sI_id, sL_id, sC_id, sX_id, sY_id, sH_id, sT_id, sV_id]; exact hP)⟩, hS.F ht⟩) hS.2.2 dX2_enter_86 hlk
      · skip
        refine lv_aload_n SS.1 SS.2.1 dX2_enter_26 rfl (lv_at hl 0 rfl) ?_
        refine j_get SS hG hP 6 (v := .ref (q 65)) (C := RX2) (T := TX2) (N := 7) rfl rfl inX2 3 (by decide) (ref := "GridPolygons$Cuts") kw_343 rfl rfl dX2_enter_27 ?_
        refine lv_iload SS.1 SS.2.1 dX2_enter_30 (lv_at hl 3 rfl) ?_
        refine j_iald SS hG hP 65 (n := 4096) (f := (u.2.1 8)) rfl (z := pl) (by omega) (by omega) dX2_enter_32 ?_
        have lp := p1 pl.toNat
        refine j_if_eq SS (tgt := 71) (x := ((u.2.1 8) (pl).toNat)) dX2_enter_33 (by decide) (by omega) (fun c_33 => ?_) (fun c_33 => ?_)
        · skip
          refine lv_aload_n SS.1 SS.2.1 dX2_enter_71 rfl (lv_at hl 0 rfl) ?_
          refine j_get SS hG hP 6 (v := .int (J (u.2.2.2 22))) (C := RX2) (T := TX2) (N := 7) rfl rfl inX2 4 (by decide) (ref := "GridPolygons$Cuts") kw_344 rfl rfl dX2_enter_72 ?_
          refine j_sipush SS dX2_enter_75 (by decide +kernel) ?_
          refine j_icmp_lt SS (tgt := 87) (x := (u.2.2.2 22)) (y := 1500) dX2_enter_78 (by decide) (by omega) (by decide) (fun c_78 => ?_) (fun c_78 => ?_)
          · skip
            refine lv_aload_n SS.1 SS.2.1 dX2_enter_87 rfl (lv_at hl 0 rfl) ?_
            refine j_get SS hG hP 6 (v := .ref (q 69)) (C := RX2) (T := TX2) (N := 7) rfl rfl inX2 1 (by decide) (ref := "GridPolygons$Cuts") kw_341 rfl rfl dX2_enter_88 ?_
            refine lv_aload_n SS.1 SS.2.1 dX2_enter_91 rfl (lv_at hl 0 rfl) ?_
            refine j_get SS hG hP 6 (v := .int (J (u.2.2.2 22))) (C := RX2) (T := TX2) (N := 7) rfl rfl inX2 4 (by decide) (ref := "GridPolygons$Cuts") kw_344 rfl rfl dX2_enter_92 ?_
            refine lv_lload_n SS.1 SS.2.1 dX2_enter_95 rfl (lv_at hl 1 rfl) ?_
            refine j_last SS hG hP (cW_D hD) hS 69 (n := 1500) (f := (u.2.2.1 2)) rfl (z := (u.2.2.2 22)) (v := set) (by omega) (by omega) dX2_enter_96 (ws' := (cW D q (sL u 2 (vp_updL (u.2.2.1 2) ((u.2.2.2 22)).toNat set)))) rfl (fun H locs hP hS => ?_)
            refine lv_aload_n SS.1 SS.2.1 dX2_enter_97 rfl (lv_at hl 0 rfl) ?_
            refine j_get SS hG hP 6 (v := .ref (q 64)) (C := RX2) (T := TX2) (N := 7) rfl rfl inX2 2 (by decide) (ref := "GridPolygons$Cuts") kw_342 rfl rfl dX2_enter_98 ?_
            refine lv_aload_n SS.1 SS.2.1 dX2_enter_101 rfl (lv_at hl 0 rfl) ?_
            refine j_get SS hG hP 6 (v := .int (J (u.2.2.2 22))) (C := RX2) (T := TX2) (N := 7) rfl rfl inX2 4 (by decide) (ref := "GridPolygons$Cuts") kw_344 rfl rfl dX2_enter_102 ?_
            refine lv_iload_n SS.1 SS.2.1 dX2_enter_105 rfl (lv_at hl 2 rfl) ?_
            refine j_iast SS hG hP (cW_D hD) hS 64 (n := 1500) (f := (u.2.1 7)) rfl (z := (u.2.2.2 22)) (v := st9) (by omega) (by omega) dX2_enter_106 (ws' := (cW D q (sL (sI u 7 (upI (u.2.1 7) ((u.2.2.2 22)).toNat st9)) 2 (vp_updL (u.2.2.1 2) ((u.2.2.2 22)).toNat set)))) rfl (fun H locs hP hS => ?_)
            refine lv_aload_n SS.1 SS.2.1 dX2_enter_107 rfl (lv_at hl 0 rfl) ?_
            refine lv_dup SS.1 SS.2.1 dX2_enter_108 rfl ?_
            refine j_get SS hG hP 6 (v := .int (J (u.2.2.2 22))) (C := RX2) (T := TX2) (N := 7) rfl rfl inX2 4 (by decide) (ref := "GridPolygons$Cuts") kw_344 rfl rfl dX2_enter_109 ?_
            refine j_iconst SS dX2_enter_112 ?_
            refine j_iadd SS (x := (u.2.2.2 22)) (y := 1) dX2_enter_113 ?_
            refine j_put SS hG hP (cW_D hD) hS 6 (v := .int (J ((u.2.2.2 22) + 1))) (ty := .int) (C := RX2) (T := TX2) (N := 7) rfl rfl inX2 tyX2 tyX2_ok nmX2 4 (by decide) (ref := "GridPolygons$Cuts") kw_344 rfl rfl (by decide +kernel) rfl rfl (Nat.le_of_ble_eq_true rfl) dX2_enter_114 (ws' := (cW D q (sV (sL (sI u 7 (upI (u.2.1 7) ((u.2.2.2 22)).toNat st9)) 2 (vp_updL (u.2.2.1 2) ((u.2.2.2 22)).toNat set)) 22 ((u.2.2.2 22) + 1)))) rfl (fun H locs hP hS => ?_)
            refine lv_aload_n SS.1 SS.2.1 dX2_enter_117 rfl (lv_at hl 0 rfl) ?_
            refine j_get SS hG hP 6 (v := .ref (q 65)) (C := RX2) (T := TX2) (N := 7) rfl rfl inX2 3 (by decide) (ref := "GridPolygons$Cuts") kw_343 rfl rfl dX2_enter_118 ?_
            refine lv_iload SS.1 SS.2.1 dX2_enter_121 (lv_at hl 3 rfl) ?_
            refine lv_aload_n SS.1 SS.2.1 dX2_enter_123 rfl (lv_at hl 0 rfl) ?_
            refine j_get SS hG hP 6 (v := .int (J ((u.2.2.2 22) + 1))) (C := RX2) (T := TX2) (N := 7) rfl rfl inX2 4 (by decide) (ref := "GridPolygons$Cuts") kw_344 rfl rfl dX2_enter_124 ?_
            refine j_iast SS hG hP (cW_D hD) hS 65 (n := 4096) (f := (u.2.1 8)) rfl (z := pl) (v := ((u.2.2.2 22) + 1)) (by omega) (by omega) dX2_enter_127 (ws' := (cW D q (sV (sL (sI (sI u 7 (upI (u.2.1 7) ((u.2.2.2 22)).toNat st9)) 8 (upI (u.2.1 8) (pl).toNat ((u.2.2.2 22) + 1))) 2 (vp_updL (u.2.2.1 2) ((u.2.2.2 22)).toNat set)) 22 ((u.2.2.2 22) + 1)))) rfl (fun H locs hP hS => ?_)
            have hP : va_P D.1 j_cl (cW D q (sV (sV (sL (sI (sI u 7 (upI (u.2.1 7) ((u.2.2.2 22)).toNat st9)) 8 (upI (u.2.1 8) (pl).toNat ((u.2.2.2 22) + 1))) 2 (vp_updL (u.2.2.1 2) ((u.2.2.2 22)).toNat set)) 22 ((u.2.2.2 22) + 1)) 23 (u.2.2.2 23))) H := Eq.mpr (congrArg (fun s => va_P D.1 j_cl (cW D q s) H) (sV_at (u := (sV (sL (sI (sI u 7 (upI (u.2.1 7) ((u.2.2.2 22)).toNat st9)) 8 (upI (u.2.1 8) (pl).toNat ((u.2.2.2 22) + 1))) 2 (vp_updL (u.2.2.1 2) ((u.2.2.2 22)).toNat set)) 22 ((u.2.2.2 22) + 1))) (r := 23) (x := (u.2.2.2 23)) rfl)) hP
            exact W.vret SS.1 SS.2.1 hr (fun t0 ht hW => ⟨⟨(sV (sV (sL (sI (sI u 7 (upI (u.2.1 7) ((u.2.2.2 22)).toNat st9)) 8 (upI (u.2.1 8) (pl).toNat ((u.2.2.2 22) + 1))) 2 (vp_updL (u.2.2.1 2) ((u.2.2.2 22)).toNat set)) 22 ((u.2.2.2 22) + 1)) 23 (u.2.2.2 23)), rfl, (⟨(vp_updL (u.2.2.1 2) ((u.2.2.2 22)).toNat set), (upI (u.2.1 7) ((u.2.2.2 22)).toNat st9), (upI (u.2.1 8) (pl).toNat ((u.2.2.2 22) + 1)), ((u.2.2.2 22) + 1), (u.2.2.2 23), rfl, ⟨by omega, UP_b p1 (by omega), p2⟩⟩), by show va_P D.1 j_cl (cW D q (sV (sV (sL (sI (sI u 7 (upI (u.2.1 7) ((u.2.2.2 22)).toNat st9)) 8 (upI (u.2.1 8) (pl).toNat ((u.2.2.2 22) + 1))) 2 (vp_updL (u.2.2.1 2) ((u.2.2.2 22)).toNat set)) 22 ((u.2.2.2 22) + 1)) 23 (u.2.2.2 23))) t0.heap; rw [ht]; first | exact hP | (simp only [sI_id, sL_id, sC_id, sX_id, sY_id, sH_id, sT_id, sV_id]; exact hP)⟩, hS.F ht⟩) hS.2.2 dX2_enter_128 hlk
          · skip
            refine lv_aload_n SS.1 SS.2.1 dX2_enter_81 rfl (lv_at hl 0 rfl) ?_
            refine j_iconst SS dX2_enter_82 ?_
            refine j_put SS hG hP (cW_D hD) hS 6 (v := .int (J 1)) (ty := .boolean) (C := RX2) (T := TX2) (N := 7) rfl rfl inX2 tyX2 tyX2_ok nmX2 5 (by decide) (ref := "GridPolygons$Cuts") kw_346 rfl rfl (by decide +kernel) (j_nz (by omega)) rfl (Nat.le_of_ble_eq_true rfl) dX2_enter_83 (ws' := (cW D q (sV u 23 1))) rfl (fun H locs hP hS => ?_)
            have hP : va_P D.1 j_cl (cW D q (sV (sI u 7 (u.2.1 7)) 23 1)) H := Eq.mpr (congrArg (fun s => va_P D.1 j_cl (cW D q (sV s 23 1)) H) (sI_at (u := u) (r := 7) (x := (u.2.1 7)) rfl)) hP
            have hP : va_P D.1 j_cl (cW D q (sV (sI (sI u 7 (u.2.1 7)) 8 (u.2.1 8)) 23 1)) H := Eq.mpr (congrArg (fun s => va_P D.1 j_cl (cW D q (sV s 23 1)) H) (sI_at (u := (sI u 7 (u.2.1 7))) (r := 8) (x := (u.2.1 8)) rfl)) hP
            have hP : va_P D.1 j_cl (cW D q (sV (sL (sI (sI u 7 (u.2.1 7)) 8 (u.2.1 8)) 2 (u.2.2.1 2)) 23 1)) H := Eq.mpr (congrArg (fun s => va_P D.1 j_cl (cW D q (sV s 23 1)) H) (sL_at (u := (sI (sI u 7 (u.2.1 7)) 8 (u.2.1 8))) (r := 2) (x := (u.2.2.1 2)) rfl)) hP
            have hP : va_P D.1 j_cl (cW D q (sV (sV (sL (sI (sI u 7 (u.2.1 7)) 8 (u.2.1 8)) 2 (u.2.2.1 2)) 22 (u.2.2.2 22)) 23 1)) H := Eq.mpr (congrArg (fun s => va_P D.1 j_cl (cW D q (sV s 23 1)) H) (sV_at (u := (sL (sI (sI u 7 (u.2.1 7)) 8 (u.2.1 8)) 2 (u.2.2.1 2))) (r := 22) (x := (u.2.2.2 22)) rfl)) hP
            exact W.vret SS.1 SS.2.1 hr (fun t0 ht hW => ⟨⟨(sV (sV (sL (sI (sI u 7 (u.2.1 7)) 8 (u.2.1 8)) 2 (u.2.2.1 2)) 22 (u.2.2.2 22)) 23 1), rfl, (⟨(u.2.2.1 2), (u.2.1 7), (u.2.1 8), (u.2.2.2 22), 1, rfl, ⟨p0, p1, Or.inr rfl⟩⟩), by show va_P D.1 j_cl (cW D q (sV (sV (sL (sI (sI u 7 (u.2.1 7)) 8 (u.2.1 8)) 2 (u.2.2.1 2)) 22 (u.2.2.2 22)) 23 1)) t0.heap; rw [ht]; first | exact hP | (simp only [sI_id, sL_id, sC_id, sX_id, sY_id, sH_id, sT_id, sV_id]; exact hP)⟩, hS.F ht⟩) hS.2.2 dX2_enter_86 hlk
        · skip
          refine lv_aload_n SS.1 SS.2.1 dX2_enter_36 rfl (lv_at hl 0 rfl) ?_
          refine lv_aload_n SS.1 SS.2.1 dX2_enter_37 rfl (lv_at hl 0 rfl) ?_
          refine j_get SS hG hP 6 (v := .ref (q 65)) (C := RX2) (T := TX2) (N := 7) rfl rfl inX2 3 (by decide) (ref := "GridPolygons$Cuts") kw_343 rfl rfl dX2_enter_38 ?_
          refine lv_iload SS.1 SS.2.1 dX2_enter_41 (lv_at hl 3 rfl) ?_
          refine j_iald SS hG hP 65 (n := 4096) (f := (u.2.1 8)) rfl (z := pl) (by omega) (by omega) dX2_enter_43 ?_
          refine j_iconst SS dX2_enter_44 ?_
          refine j_isub SS (x := ((u.2.1 8) (pl).toNat)) (y := 1) dX2_enter_45 ?_
          refine j_vRl SS (As := [.int (J (((u.2.1 8) (pl).toNat) - 1))]) (rest := []) (c_X2_setOf l D q u  (((u.2.1 8) (pl).toNat) - 1) (show -2147483648 ≤ (((u.2.1 8) (pl).toNat) - 1) ∧ (((u.2.1 8) (pl).toNat) - 1) ≤ 2147483647 from (by omega))) mf_X2_setOf kw_942 hG hP hP (ci := 2) (q0 := 6) rfl rfl rfl rfl hl.1 ⟨⟨Nat.le_of_ble_eq_true rfl, Nat.le_of_ble_eq_true rfl⟩, Nat.le_of_ble_eq_true rfl, Nat.le_refl _, Nat.le_refl _⟩ rfl dX2_enter_46 (fun x_46 h_46 => ?_)
          refine lv_lload_n SS.1 SS.2.1 dX2_enter_49 rfl (lv_at hl 1 rfl) ?_
          refine j_lcmp SS dX2_enter_50 (fun z_50 hz_50 => ?_)
          refine j_if_ne SS (tgt := 55) (x := z_50) dX2_enter_51 (by decide) (by omega) (fun c_51 => ?_) (fun c_51 => ?_)
          · skip
            refine lv_iload SS.1 SS.2.1 dX2_enter_55 (lv_at hl 3 rfl) ?_
            refine j_iconst SS dX2_enter_57 ?_
            refine j_iadd SS (x := pl) (y := 1) dX2_enter_58 ?_
            refine j_sipush SS dX2_enter_59 (by decide +kernel) ?_
            refine lv_iand SS.1 SS.2.1 dX2_enter_62 ?_
            rw [J_of (J (pl + 1) &&& J 4095)]
            have x_62 := J_a4095 (J (pl + 1))
            refine lv_istore (lv' := [(4, .int (J ((J (pl + 1) &&& J 4095).toInt))), (0, .ref (q 6)), (1, .long set), (3, .int (J st9)), (5, .int (J i))]) SS.1 SS.2.1 dX2_enter_63 hl (by decide) rfl (fun ls hl => ?_)
            refine lv_iinc (v := J (i + 1)) (lv' := [(5, .int (J (i + 1))), (4, .int (J ((J (pl + 1) &&& J 4095).toInt))), (0, .ref (q 6)), (1, .long set), (3, .int (J st9))]) SS.1 SS.2.1 dX2_enter_65 hl (k := 4) rfl (J_add _ _) (by decide) rfl (fun ls hl => ?_)
            refine lv_goto (tgt := 18) SS.1 SS.2.1 dX2_enter_68 (by decide) ?_
            exact ih_18 ((J (pl + 1) &&& J 4095).toInt) (i + 1) _ _ hP hS ls (lv_sub hl [2, 3, 4, 1, 0] rfl) (by omega) (by omega) (by omega)
          · skip
            exact W.vret SS.1 SS.2.1 hr (fun t0 ht hW => ⟨⟨(sV (sV (sL (sI (sI u 7 (u.2.1 7)) 8 (u.2.1 8)) 2 (u.2.2.1 2)) 22 (u.2.2.2 22)) 23 (u.2.2.2 23)), rfl, (⟨(u.2.2.1 2), (u.2.1 7), (u.2.1 8), (u.2.2.2 22), (u.2.2.2 23), rfl, ⟨p0, p1, p2⟩⟩), by show va_P D.1 j_cl (cW D q (sV (sV (sL (sI (sI u 7 (u.2.1 7)) 8 (u.2.1 8)) 2 (u.2.2.1 2)) 22 (u.2.2.2 22)) 23 (u.2.2.2 23))) t0.heap; rw [ht]; first | exact hP | (simp only [sI_id, sL_id, sC_id, sX_id, sY_id, sH_id, sT_id, sV_id]; exact hP)⟩, hS.F ht⟩) hS.2.2 dX2_enter_54 hlk
  exact L_18 (((4096 : Int) - (0 : Int)).toNat + 1) ((J ((Int64.toInt32 x_7).toInt) &&& J 4095).toInt) 0 _ _ hP hS ls (lv_sub hl [2, 3, 4, 1, 0] rfl) (by omega) (by omega) (Nat.lt_succ_self _)
