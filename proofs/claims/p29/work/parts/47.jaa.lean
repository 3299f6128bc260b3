
set_option maxHeartbeats 4000000 in
set_option maxRecDepth 100000 in
theorem c_J13_bitCount3 (l : Launch) (D : JD) (x : Int64) : Met l yJ13_bitCount_95d88 (jw yJ13_bitCount_95d88 cJ13_bitCount_95d88 2 (some .int)) (jr 0 0) (jP [.long x] D (fun _ => True)) (jRi (fun z => z = ((pc9 (nx9 x) : Nat) : Int) ∧ 0 ≤ z ∧ z ≤ 64)) 0 0 (fun _ => False) := by
  refine Met_ofWF (cc := cJ13_bitCount_95d88) (maxL := 2) (ret := (some .int)) (by decide +kernel) rfl ?_
  intro pr en st mi args below meth co s₁ B hml hv
  obtain ⟨rfl, hG, hP⟩ := hv
  have hr := B.returns
  have hlk := B.notSynchronized
  have SS : jS pr mi co cJ13_bitCount_95d88 2 st _ RJ13 := ⟨B.exec, B.bytes, hml, findClass_of_methodNamed B.named, fun w hw => atoms_spec (ws := (jw yJ13_bitCount_95d88 cJ13_bitCount_95d88 2 (some .int))) B.pre w (List.mem_cons_of_mem _ hw)⟩
  have hl := lv_entry ([.long x]) (n := 2) (Nat.le_of_ble_eq_true rfl)
  rw [lg_entry_eq]
  generalize (lg_sl ([.long x]) ++ List.replicate (2 - (lg_sl ([.long x])).length) Slot.unset).toArray = ls at hl ⊢
  have hl : lv_has ls 2 [(0, .long x)] := hl
  refine lv_lload_n SS.1 SS.2.1 dJ13_bitCount_95d88_0 rfl (lv_at hl 0 rfl) ?_
  refine lv_lload_n SS.1 SS.2.1 dJ13_bitCount_95d88_1 rfl (lv_at hl 0 rfl) ?_
  refine j_iconst SS dJ13_bitCount_95d88_2 ?_
  refine lv_lushr SS.1 SS.2.1 dJ13_bitCount_95d88_3 rfl (lv_topl (fun x_3 ex_3 => ?_))
  refine lv_ldc2 SS.1 SS.2.1 SS.2.2.2.1 (SS.2.2.2.2 _ kw_1029) dJ13_bitCount_95d88_4 ?_
  refine lv_land SS.1 SS.2.1 dJ13_bitCount_95d88_7 ?_
  refine lv_lsub SS.1 SS.2.1 dJ13_bitCount_95d88_8 ?_
  refine lv_lstore_n (lv' := [(0, .long (x - (x_3 &&& (6148914691236517205))))]) SS.1 SS.2.1 dJ13_bitCount_95d88_9 rfl hl (by decide) rfl (fun ls hl => ?_)
  refine lv_lload_n SS.1 SS.2.1 dJ13_bitCount_95d88_10 rfl (lv_at hl 0 rfl) ?_
  refine lv_ldc2 SS.1 SS.2.1 SS.2.2.2.1 (SS.2.2.2.2 _ kw_1030) dJ13_bitCount_95d88_11 ?_
  refine lv_land SS.1 SS.2.1 dJ13_bitCount_95d88_14 ?_
  refine lv_lload_n SS.1 SS.2.1 dJ13_bitCount_95d88_15 rfl (lv_at hl 0 rfl) ?_
  refine j_iconst SS dJ13_bitCount_95d88_16 ?_
  refine lv_lushr SS.1 SS.2.1 dJ13_bitCount_95d88_17 rfl (lv_topl (fun x_17 ex_17 => ?_))
  refine lv_ldc2 SS.1 SS.2.1 SS.2.2.2.1 (SS.2.2.2.2 _ kw_1030) dJ13_bitCount_95d88_18 ?_
  refine lv_land SS.1 SS.2.1 dJ13_bitCount_95d88_21 ?_
  refine lv_ladd SS.1 SS.2.1 dJ13_bitCount_95d88_22 ?_
  refine lv_lstore_n (lv' := [(0, .long (((x - (x_3 &&& (6148914691236517205))) &&& (3689348814741910323)) + (x_17 &&& (3689348814741910323))))]) SS.1 SS.2.1 dJ13_bitCount_95d88_23 rfl hl (by decide) rfl (fun ls hl => ?_)
  refine lv_lload_n SS.1 SS.2.1 dJ13_bitCount_95d88_24 rfl (lv_at hl 0 rfl) ?_
  refine lv_lload_n SS.1 SS.2.1 dJ13_bitCount_95d88_25 rfl (lv_at hl 0 rfl) ?_
  refine j_iconst SS dJ13_bitCount_95d88_26 ?_
  refine lv_lushr SS.1 SS.2.1 dJ13_bitCount_95d88_27 rfl (lv_topl (fun x_27 ex_27 => ?_))
  refine lv_ladd SS.1 SS.2.1 dJ13_bitCount_95d88_28 ?_
  refine lv_ldc2 SS.1 SS.2.1 SS.2.2.2.1 (SS.2.2.2.2 _ kw_1031) dJ13_bitCount_95d88_29 ?_
  refine lv_land SS.1 SS.2.1 dJ13_bitCount_95d88_32 ?_
  refine lv_lstore_n (lv' := [(0, .long (((((x - (x_3 &&& (6148914691236517205))) &&& (3689348814741910323)) + (x_17 &&& (3689348814741910323))) + x_27) &&& (1085102592571150095)))]) SS.1 SS.2.1 dJ13_bitCount_95d88_33 rfl hl (by decide) rfl (fun ls hl => ?_)
  refine lv_lload_n SS.1 SS.2.1 dJ13_bitCount_95d88_34 rfl (lv_at hl 0 rfl) ?_
  refine lv_lload_n SS.1 SS.2.1 dJ13_bitCount_95d88_35 rfl (lv_at hl 0 rfl) ?_
  refine j_bipush SS dJ13_bitCount_95d88_36 (by decide +kernel) ?_
  refine lv_lushr SS.1 SS.2.1 dJ13_bitCount_95d88_38 rfl (lv_topl (fun x_38 ex_38 => ?_))
  refine lv_ladd SS.1 SS.2.1 dJ13_bitCount_95d88_39 ?_
  refine lv_lstore_n (lv' := [(0, .long ((((((x - (x_3 &&& (6148914691236517205))) &&& (3689348814741910323)) + (x_17 &&& (3689348814741910323))) + x_27) &&& (1085102592571150095)) + x_38))]) SS.1 SS.2.1 dJ13_bitCount_95d88_40 rfl hl (by decide) rfl (fun ls hl => ?_)
  refine lv_lload_n SS.1 SS.2.1 dJ13_bitCount_95d88_41 rfl (lv_at hl 0 rfl) ?_
  refine lv_lload_n SS.1 SS.2.1 dJ13_bitCount_95d88_42 rfl (lv_at hl 0 rfl) ?_
  refine j_bipush SS dJ13_bitCount_95d88_43 (by decide +kernel) ?_
  refine lv_lushr SS.1 SS.2.1 dJ13_bitCount_95d88_45 rfl (lv_topl (fun x_45 ex_45 => ?_))
  refine lv_ladd SS.1 SS.2.1 dJ13_bitCount_95d88_46 ?_
  refine lv_lstore_n (lv' := [(0, .long (((((((x - (x_3 &&& (6148914691236517205))) &&& (3689348814741910323)) + (x_17 &&& (3689348814741910323))) + x_27) &&& (1085102592571150095)) + x_38) + x_45))]) SS.1 SS.2.1 dJ13_bitCount_95d88_47 rfl hl (by decide) rfl (fun ls hl => ?_)
  refine lv_lload_n SS.1 SS.2.1 dJ13_bitCount_95d88_48 rfl (lv_at hl 0 rfl) ?_
  refine lv_lload_n SS.1 SS.2.1 dJ13_bitCount_95d88_49 rfl (lv_at hl 0 rfl) ?_
  refine j_bipush SS dJ13_bitCount_95d88_50 (by decide +kernel) ?_
  refine lv_lushr SS.1 SS.2.1 dJ13_bitCount_95d88_52 rfl (lv_topl (fun x_52 ex_52 => ?_))
  refine lv_ladd SS.1 SS.2.1 dJ13_bitCount_95d88_53 ?_
  refine lv_lstore_n (lv' := [(0, .long ((((((((x - (x_3 &&& (6148914691236517205))) &&& (3689348814741910323)) + (x_17 &&& (3689348814741910323))) + x_27) &&& (1085102592571150095)) + x_38) + x_45) + x_52))]) SS.1 SS.2.1 dJ13_bitCount_95d88_54 rfl hl (by decide) rfl (fun ls hl => ?_)
  refine lv_lload_n SS.1 SS.2.1 dJ13_bitCount_95d88_55 rfl (lv_at hl 0 rfl) ?_
  refine lv_l2i SS.1 SS.2.1 dJ13_bitCount_95d88_56 rfl ?_
  rw [J_of (Int64.toInt32 _)]
  have r_56 := J_rng (Int64.toInt32 ((((((((x - (x_3 &&& (6148914691236517205))) &&& (3689348814741910323)) + (x_17 &&& (3689348814741910323))) + x_27) &&& (1085102592571150095)) + x_38) + x_45) + x_52))
  refine j_bipush SS dJ13_bitCount_95d88_57 (by decide +kernel) ?_
  refine lv_iand SS.1 SS.2.1 dJ13_bitCount_95d88_59 ?_
  rw [J_of (J ((Int64.toInt32 ((((((((x - (x_3 &&& (6148914691236517205))) &&& (3689348814741910323)) + (x_17 &&& (3689348814741910323))) + x_27) &&& (1085102592571150095)) + x_38) + x_45) + x_52)).toInt) &&& J 127)]
  have x_59 := J_a127 (J ((Int64.toInt32 ((((((((x - (x_3 &&& (6148914691236517205))) &&& (3689348814741910323)) + (x_17 &&& (3689348814741910323))) + x_27) &&& (1085102592571150095)) + x_38) + x_45) + x_52)).toInt))
  exact W.iret SS.1 SS.2.1 hr (fun t0 ht hW => ⟨_, rfl, ⟨(J ((Int64.toInt32 ((((((((x - (x_3 &&& (6148914691236517205))) &&& (3689348814741910323)) + (x_17 &&& (3689348814741910323))) + x_27) &&& (1085102592571150095)) + x_38) + x_45) + x_52)).toInt) &&& J 127).toInt, rfl, (by have w9 := bc_9 ex_3 ex_17 ex_27 ex_38 ex_45 ex_52; have w8 := pc9_b (nx9 x); rw [nx9_127, w9]; exact ⟨rfl, by omega, by omega⟩)⟩, ht⟩) (fun _ h => nomatch h) dJ13_bitCount_95d88_60 hlk
