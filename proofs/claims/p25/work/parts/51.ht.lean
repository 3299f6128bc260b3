
/-! THE CLAIM OUT OF ONE WALK OF THE LAW'S BODY. Your part is whole_start (and what it stands on); all else here is the same for every law, but numbers. -/
def R_law : String := "GridPolygonsLaw"
def lw_P (b : Addr) (xs : List Int32) (args : Array Value) (s : State) : Prop := args = #[.ref b] ∧ s.IntsAt b xs ∧ xs.length ≤ 4608 ∧ (Jvm.Cond.and given_1 narrow_1).before args s = true
def lw_Q (_ : Array Value) (s : State) (o : Outcome) (t : State) : Prop := o = .returned (some (.int 1)) ∧ Framed s o t [] 600000 7302250
def lw_Z (below : List Frame) (a : Array Value) (s : State) : State → Prop := fun t => ∃ o, t.status = .running ∧ Ended t below o ∧ lw_Q a s o t
/-- the law's own end, with 1 on the stack, nothing written that was there before, its room as the claim has it -/
theorem lw_ret {p : Program} {l : Launch} {e : Env} {s : State} {m : MethodId} {below : List Frame} {meth : Method} {c : Code} {b : Nat} (hx : p.tables.exec = Jvm.exec) (hb : c.code = code) (hr : meth.sig.returnType = ret) (hlocks : meth.locks = false) {pc : Nat} {H : Heap} {ls : Array Slot} (hdg : decode code pc = .ok (.ireturn, 1)) : W p l e room_1 s m #[Value.ref b] below meth c H [] 600000 7302250 (lw_Z below #[Value.ref b] s) (F0 m pc ls [.int 1]) := by
  intro T hT X
  obtain ⟨fs, hret, hrun, hended, hW, hframe⟩ := X.leave (v := some (.int 1)) (hlocks := hlocks) (fun h => by rw [hr] at h; cases h)
  have hmeth' : T.vm.method? m = some meth := X.method'
  refine ⟨T.setFrames fs, ?_, .returned (some (.int 1)), hrun, hended, rfl, ⟨_, rfl⟩, hW, hframe⟩
  jvm_step X.here [X.here.top, hx, hb, hdg, hmeth', hr, ret, narrow_b1]
  (try refine ⟨rfl, ?_⟩); (try refine ⟨rfl, ?_⟩)
  first | (intro acts; rw [hret _ acts rfl rfl rfl]) | rw [hret _ _ rfl rfl rfl]
  exact Steps.refl _
/-- what holds at the law's entry: the machine, the code, the tables' words (any of lw_tbl by 'hts w (by decide +kernel)'), the script of L ints xs at the cell b, what the Statement gives of the start (any of its parts by flat_of_before) -/
def lw_At (p : Program) (s : State) (m : MethodId) (meth : Method) (c : Code) (b L : Nat) (xs : Nat → Int32) : Prop :=
  p.tables.exec = Jvm.exec ∧ c.code = code ∧ meth.sig.returnType = ret ∧ c.maxLocals = 4 ∧ s.vm.findClass R_law = some m.cls ∧ (∀ w ∈ lw_tbl, w.before #[Value.ref b] s = true) ∧ va_X b L xs s s.heap ∧ b < s.heap.size ∧ meth.locks = false ∧ (Jvm.Cond.and given_1 narrow_1).before #[Value.ref b] s = true
set_option maxHeartbeats 4000000 in
set_option maxRecDepth 100000 in
/-- THE LAW'S LOOP -/
theorem law_loop {p : Program} {l : Launch} {en : Env} {s : State} {mi : MethodId} {below : List Frame} {meth : Method} {co : Code} {b L : Nat} {xs : Nat → Int32} {D : JD} {q : Nat → Nat} {o : Nat} {q2 : Nat → Nat} {A1 A2 : Nat → Prop} {cells slots : Nat} (K : lK p s mi co b L xs D q o q2 A1 A2 cells slots) (hr : meth.sig.returnType = ret) (hlocks : meth.locks = false) : ∀ (n : Nat) (i : Int) (u : CS) (v : MS) (H : Heap) (locs : List Loc) (ls : Array Slot), (0 ≤ i ∧ i ≤ L + 9) → ((L : Int) + 10 - i).toNat < n → lI s D q o q2 u v H locs i → lv_has ls 4 [(3, .int (J i)), (0, .ref b), (1, .ref (q 0)), (2, .ref o)] → W p l en room_1 s mi #[.ref b] below meth co H locs cells slots (lw_Z below #[Value.ref b] s) (F0 mi 18 ls []) := by
  intro n
  induction n with
  | zero => intro i u v H locs ls h; omega
  | succ n ih =>
    intro i u v H locs ls hi hm hI hl
    have K0 := K
    obtain ⟨S, hG, hX, hbl, hL, hD1, hD2, hA1, hA2, hx, hc1, hc2⟩ := K
    have hI0 := hI
    obtain ⟨hE, hC, hM, hP1, hP2, hS⟩ := hI
    refine lv_iload_n S.1 S.2.1 dL_law_18 rfl (lv_at hl 0 rfl) ?_
    refine lv_aload_n S.1 S.2.1 dL_law_19 rfl (lv_at hl 1 rfl) ?_
    refine va_slen S.1 S.2.1 hX hbl (fun h => absurd hbl (Nat.not_lt.mpr h)) hS dL_law_20 ?_
    rw [J_nat]
    refine j_bipush S dL_law_21 (by decide +kernel) ?_
    refine j_isub S (x := (L : Int)) (y := 9) dL_law_23 ?_
    refine j_icmp_gt S (tgt := 1305) (x := i) (y := (L : Int) - 9) dL_law_24 (by decide) (by omega) (by omega) (fun c => ?_) (fun c => ?_)
    · refine lv_iconst (v := 1) S.1 S.2.1 dL_law_1305 (by decide) ?_
      refine va_forget (fun a ha => hS.2.2 a ha) ?_
      refine W.widen (k := 600000) (n := 7302250) hc1 hc2 ?_
      exact lw_ret S.1 S.2.1 hr hlocks dL_law_1306
    · have hb : 0 ≤ i ∧ i + 9 ≤ L := by omega
      have kk : ∀ (u : CS) (v : MS) (H : Heap) (locs : List Loc), lI s D q o q2 u v H locs (i + 9) → W p l en room_1 s mi #[.ref b] below meth co H locs cells slots (lw_Z below #[Value.ref b] s) (F0 mi 1299 ls []) := by
        intro u v H locs hI
        refine lv_iinc (v := J (i + 9)) (lv' := [(3, .int (J (i + 9))), (0, .ref b), (1, .ref (q 0)), (2, .ref o)]) S.1 S.2.1 dL_law_1299 hl (k := 0) rfl (J_add _ _) (by decide) rfl (fun ls hl => ?_)
        refine lv_goto (tgt := 18) S.1 S.2.1 dL_law_1302 (by decide) ?_
        exact ih (i + 9) u v H locs ls (by omega) (by omega) hI hl
      refine lv_aload_n S.1 S.2.1 dL_law_27 rfl (lv_at hl 1 rfl) ?_
      refine lv_iload_n S.1 S.2.1 dL_law_28 rfl (lv_at hl 0 rfl) ?_
      refine lw_sld9 S hX hbl hL hS (z := i) (by omega) dL_law_29 ?_
      refine j_bipush S dL_law_30 (by decide +kernel) ?_
      refine lv_iand S.1 S.2.1 dL_law_32 ?_
      rw [J_of (J (sx xs i) &&& J 31)]
      have ht := J_a31 (J (sx xs i))
      generalize (J (sx xs i) &&& J 31).toInt = t at ht ⊢
      rcases (show t = 0 ∨ t = 1 ∨ t = 2 ∨ t = 3 ∨ t = 4 ∨ t = 5 ∨ t = 6 ∨ t = 7 ∨ t = 8 ∨ t = 9 ∨ t = 10 ∨ t = 11 ∨ t = 12 ∨ t = 13 ∨ t = 14 ∨ t = 15 ∨ t = 16 ∨ t = 17 ∨ t = 18 ∨ t = 19 ∨ t = 20 ∨ t = 21 ∨ t = 22 ∨ t = 23 ∨ t = 24 ∨ t = 25 ∨ t = 26 ∨ t = 27 ∨ t = 28 ∨ (t < 0 ∨ 28 < t) by omega) with ct | ct | ct | ct | ct | ct | ct | ct | ct | ct | ct | ct | ct | ct | ct | ct | ct | ct | ct | ct | ct | ct | ct | ct | ct | ct | ct | ct | ct | ct
      · refine lv_tableIn S.1 S.2.1 (off := 131) (tgt := 164) dL_law_33 (by rw [J_toInt (by omega)]; omega) (by rw [J_toInt (by omega)]; omega) (by rw [J_toInt (by omega), ct]; rfl) (by decide) ?_
        exact lc_0 K0 hb hl kk u v H locs hI0
      · refine lv_tableIn S.1 S.2.1 (off := 154) (tgt := 187) dL_law_33 (by rw [J_toInt (by omega)]; omega) (by rw [J_toInt (by omega)]; omega) (by rw [J_toInt (by omega), ct]; rfl) (by decide) ?_
        exact lc_1 K0 hb hl kk u v H locs hI0
      · refine lv_tableIn S.1 S.2.1 (off := 197) (tgt := 230) dL_law_33 (by rw [J_toInt (by omega)]; omega) (by rw [J_toInt (by omega)]; omega) (by rw [J_toInt (by omega), ct]; rfl) (by decide) ?_
        exact lc_2 K0 hb hl kk u v H locs hI0
      · refine lv_tableIn S.1 S.2.1 (off := 220) (tgt := 253) dL_law_33 (by rw [J_toInt (by omega)]; omega) (by rw [J_toInt (by omega)]; omega) (by rw [J_toInt (by omega), ct]; rfl) (by decide) ?_
        exact lc_3 K0 hb hl kk u v H locs hI0
      · refine lv_tableIn S.1 S.2.1 (off := 263) (tgt := 296) dL_law_33 (by rw [J_toInt (by omega)]; omega) (by rw [J_toInt (by omega)]; omega) (by rw [J_toInt (by omega), ct]; rfl) (by decide) ?_
        exact lc_4 K0 hb hl kk u v H locs hI0
      · refine lv_tableIn S.1 S.2.1 (off := 296) (tgt := 329) dL_law_33 (by rw [J_toInt (by omega)]; omega) (by rw [J_toInt (by omega)]; omega) (by rw [J_toInt (by omega), ct]; rfl) (by decide) ?_
        exact lc_5 K0 hb hl kk u v H locs hI0
      · refine lv_tableIn S.1 S.2.1 (off := 339) (tgt := 372) dL_law_33 (by rw [J_toInt (by omega)]; omega) (by rw [J_toInt (by omega)]; omega) (by rw [J_toInt (by omega), ct]; rfl) (by decide) ?_
        exact lc_6 K0 hb hl kk u v H locs hI0
      · refine lv_tableIn S.1 S.2.1 (off := 382) (tgt := 415) dL_law_33 (by rw [J_toInt (by omega)]; omega) (by rw [J_toInt (by omega)]; omega) (by rw [J_toInt (by omega), ct]; rfl) (by decide) ?_
        exact lc_7 K0 hb hl kk u v H locs hI0
      · refine lv_tableIn S.1 S.2.1 (off := 425) (tgt := 458) dL_law_33 (by rw [J_toInt (by omega)]; omega) (by rw [J_toInt (by omega)]; omega) (by rw [J_toInt (by omega), ct]; rfl) (by decide) ?_
        exact lc_8 K0 hb hl kk u v H locs hI0
      · refine lv_tableIn S.1 S.2.1 (off := 468) (tgt := 501) dL_law_33 (by rw [J_toInt (by omega)]; omega) (by rw [J_toInt (by omega)]; omega) (by rw [J_toInt (by omega), ct]; rfl) (by decide) ?_
        exact lc_9 K0 hb hl kk u v H locs hI0
      · refine lv_tableIn S.1 S.2.1 (off := 501) (tgt := 534) dL_law_33 (by rw [J_toInt (by omega)]; omega) (by rw [J_toInt (by omega)]; omega) (by rw [J_toInt (by omega), ct]; rfl) (by decide) ?_
        exact lc_10 K0 hb hl kk u v H locs hI0
      · refine lv_tableIn S.1 S.2.1 (off := 600) (tgt := 633) dL_law_33 (by rw [J_toInt (by omega)]; omega) (by rw [J_toInt (by omega)]; omega) (by rw [J_toInt (by omega), ct]; rfl) (by decide) ?_
        exact lc_11 K0 hb hl kk u v H locs hI0
      · refine lv_tableIn S.1 S.2.1 (off := 633) (tgt := 666) dL_law_33 (by rw [J_toInt (by omega)]; omega) (by rw [J_toInt (by omega)]; omega) (by rw [J_toInt (by omega), ct]; rfl) (by decide) ?_
        exact lc_12 K0 hb hl kk u v H locs hI0
      · refine lv_tableIn S.1 S.2.1 (off := 666) (tgt := 699) dL_law_33 (by rw [J_toInt (by omega)]; omega) (by rw [J_toInt (by omega)]; omega) (by rw [J_toInt (by omega), ct]; rfl) (by decide) ?_
        exact lc_13 K0 hb hl kk u v H locs hI0
      · refine lv_tableIn S.1 S.2.1 (off := 679) (tgt := 712) dL_law_33 (by rw [J_toInt (by omega)]; omega) (by rw [J_toInt (by omega)]; omega) (by rw [J_toInt (by omega), ct]; rfl) (by decide) ?_
        exact lc_14 K0 hb hl kk u v H locs hI0
      · refine lv_tableIn S.1 S.2.1 (off := 722) (tgt := 755) dL_law_33 (by rw [J_toInt (by omega)]; omega) (by rw [J_toInt (by omega)]; omega) (by rw [J_toInt (by omega), ct]; rfl) (by decide) ?_
        exact lc_15 K0 hb hl kk u v H locs hI0
      · refine lv_tableIn S.1 S.2.1 (off := 755) (tgt := 788) dL_law_33 (by rw [J_toInt (by omega)]; omega) (by rw [J_toInt (by omega)]; omega) (by rw [J_toInt (by omega), ct]; rfl) (by decide) ?_
        exact lc_16 K0 hb hl kk u v H locs hI0
      · refine lv_tableIn S.1 S.2.1 (off := 778) (tgt := 811) dL_law_33 (by rw [J_toInt (by omega)]; omega) (by rw [J_toInt (by omega)]; omega) (by rw [J_toInt (by omega), ct]; rfl) (by decide) ?_
        exact lc_17 K0 hb hl kk u v H locs hI0
      · refine lv_tableIn S.1 S.2.1 (off := 811) (tgt := 844) dL_law_33 (by rw [J_toInt (by omega)]; omega) (by rw [J_toInt (by omega)]; omega) (by rw [J_toInt (by omega), ct]; rfl) (by decide) ?_
        exact lc_18 K0 hb hl kk u v H locs hI0
      · refine lv_tableIn S.1 S.2.1 (off := 854) (tgt := 887) dL_law_33 (by rw [J_toInt (by omega)]; omega) (by rw [J_toInt (by omega)]; omega) (by rw [J_toInt (by omega), ct]; rfl) (by decide) ?_
        exact lc_19 K0 hb hl kk u v H locs hI0
      · refine lv_tableIn S.1 S.2.1 (off := 877) (tgt := 910) dL_law_33 (by rw [J_toInt (by omega)]; omega) (by rw [J_toInt (by omega)]; omega) (by rw [J_toInt (by omega), ct]; rfl) (by decide) ?_
        exact lc_20 K0 hb hl kk u v H locs hI0
      · refine lv_tableIn S.1 S.2.1 (off := 910) (tgt := 943) dL_law_33 (by rw [J_toInt (by omega)]; omega) (by rw [J_toInt (by omega)]; omega) (by rw [J_toInt (by omega), ct]; rfl) (by decide) ?_
        exact lc_21 K0 hb hl kk u v H locs hI0
      · refine lv_tableIn S.1 S.2.1 (off := 963) (tgt := 996) dL_law_33 (by rw [J_toInt (by omega)]; omega) (by rw [J_toInt (by omega)]; omega) (by rw [J_toInt (by omega), ct]; rfl) (by decide) ?_
        exact lc_22 K0 hb hl kk u v H locs hI0
      · refine lv_tableIn S.1 S.2.1 (off := 1038) (tgt := 1071) dL_law_33 (by rw [J_toInt (by omega)]; omega) (by rw [J_toInt (by omega)]; omega) (by rw [J_toInt (by omega), ct]; rfl) (by decide) ?_
        exact lc_23 K0 hb hl kk u v H locs hI0
      · refine lv_tableIn S.1 S.2.1 (off := 1071) (tgt := 1104) dL_law_33 (by rw [J_toInt (by omega)]; omega) (by rw [J_toInt (by omega)]; omega) (by rw [J_toInt (by omega), ct]; rfl) (by decide) ?_
        exact lc_24 K0 hb hl kk u v H locs hI0
      · refine lv_tableIn S.1 S.2.1 (off := 1114) (tgt := 1147) dL_law_33 (by rw [J_toInt (by omega)]; omega) (by rw [J_toInt (by omega)]; omega) (by rw [J_toInt (by omega), ct]; rfl) (by decide) ?_
        exact lc_25 K0 hb hl kk u v H locs hI0
      · refine lv_tableIn S.1 S.2.1 (off := 1147) (tgt := 1180) dL_law_33 (by rw [J_toInt (by omega)]; omega) (by rw [J_toInt (by omega)]; omega) (by rw [J_toInt (by omega), ct]; rfl) (by decide) ?_
        exact lc_26 K0 hb hl kk u v H locs hI0
      · refine lv_tableIn S.1 S.2.1 (off := 1190) (tgt := 1223) dL_law_33 (by rw [J_toInt (by omega)]; omega) (by rw [J_toInt (by omega)]; omega) (by rw [J_toInt (by omega), ct]; rfl) (by decide) ?_
        exact lc_27 K0 hb hl kk u v H locs hI0
      · refine lv_tableIn S.1 S.2.1 (off := 1223) (tgt := 1256) dL_law_33 (by rw [J_toInt (by omega)]; omega) (by rw [J_toInt (by omega)]; omega) (by rw [J_toInt (by omega), ct]; rfl) (by decide) ?_
        exact lc_28 K0 hb hl kk u v H locs hI0
      · refine lv_tableOut S.1 S.2.1 (tgt := 1299) dL_law_33 (by rw [J_toInt (by omega)]; omega) (by decide) ?_
        exact kk u v H locs ⟨⟨hI0.1.1, hI0.1.2.1, FV_w hI0.1.2.2 (by omega)⟩, hI0.2⟩
