theorem kw_737 : Cond.static ⟨"java/lang/System", "arraycopy", "(Ljava/lang/Object;ILjava/lang/Object;II)V"⟩ ∈ lw_g := lw_gin 737 (by decide +kernel) (by decide +kernel)
theorem UP_b {f : Nat → Int} {k : Nat} {v L K : Int} (h : ∀ j : Nat, L ≤ f j ∧ f j ≤ K) (hv : L ≤ v ∧ v ≤ K) : ∀ j : Nat, L ≤ upI f k v j ∧ upI f k v j ≤ K := by
  intro j
  by_cases e : j = k
  · rw [e, upI_s]; exact hv
  · rw [upI_n e]; exact h j
theorem JF_b {f : Nat → Int} {n : Nat} {v L K : Int} (h : ∀ j : Nat, L ≤ f j ∧ f j ≤ K) (hv : L ≤ v ∧ v ≤ K) : ∀ j : Nat, L ≤ jf f v n j ∧ jf f v n j ≤ K := by
  intro j
  have := h j
  unfold jf
  split <;> omega
theorem sV_ow3 {u : CS} {a b c x y z : Int} : sV (sV (sV (sV (sV (sV u 17 a) 18 b) 19 c) 17 x) 18 y) 19 z = sV (sV (sV u 17 x) 18 y) 19 z := by
  unfold sV uV
  refine Prod.ext rfl (Prod.ext rfl (Prod.ext rfl (funext fun j => ?_)))
  show (if j = 19 then z else if j = 18 then y else if j = 17 then x else if j = 19 then c else if j = 18 then b else if j = 17 then a else u.2.2.2 j) = (if j = 19 then z else if j = 18 then y else if j = 17 then x else u.2.2.2 j)
  by_cases e1 : j = 19
  · simp only [if_pos e1]
  · by_cases e2 : j = 18
    · simp only [if_neg e1, if_pos e2]
    · by_cases e3 : j = 17
      · simp only [if_neg e1, if_neg e2, if_pos e3]
      · simp only [if_neg e1, if_neg e2, if_neg e3]
theorem sV_at {u : CS} {r : Nat} {x : Int} (h : u.2.2.2 r = x) : sV u r x = u := by rw [← h]; exact sV_id
theorem sI_id {u : CS} {r : Nat} : sI u r (u.2.1 r) = u := by
  unfold sI uI
  rw [show (fun j => if j = r then u.2.1 r else u.2.1 j) = u.2.1 from funext fun j => by by_cases e : j = r; (rw [if_pos e, e]); (rw [if_neg e])]
theorem sL_id {u : CS} {r : Nat} : sL u r (u.2.2.1 r) = u := by
  unfold sL uL
  rw [show (fun j => if j = r then u.2.2.1 r else u.2.2.1 j) = u.2.2.1 from funext fun j => by by_cases e : j = r; (rw [if_pos e, e]); (rw [if_neg e])]
theorem sI_at {u : CS} {r : Nat} {x : Nat → Int} (h : u.2.1 r = x) : sI u r x = u := by rw [← h]; exact sI_id
theorem sL_at {u : CS} {r : Nat} {x : Nat → Int64} (h : u.2.2.1 r = x) : sL u r x = u := by rw [← h]; exact sL_id
section JL
variable {p : Program} {l : Launch} {e : Env} {R : Room} {s : State} {m : MethodId} {args : Array Value} {below : List Frame} {meth : Method} {c : Code} {H : Heap} {locs : List Loc} {cells slots : Nat} {Q : State → Prop}
variable {cc : ByteArray} {nL : Nat} {own : String} {pc : Nat} {ls : Array Slot} {rest : List Value}
theorem j_cpl (S : jS p m c cc nL s args own) {D : JD} {ws ws' : va_W} {A : Nat → Prop} {H0 : Heap} {index : Nat} (hlk : Cond.methodLink own index arraycopyName ∈ lw_g) (hnat : Cond.native arraycopyName ∈ lw_g) (hst : Cond.static arraycopyName ∈ lw_g) (hini : Cond.initialized "java/lang/System" ∈ lw_g) (hG : j_K D s) (hP : va_P D.1 j_cl ws H) (hD : va_D A ws) (hS : va_S A H0 H locs) (hls : ls.size = nL) (q0 q1 : Nat) {a0 a n0 n1 : Nat} {f g : Nat → Int64} (ha0 : ws[q0]? = some (a0, .inl (D.2.2.1, n0, .inr (.inl f)))) (ha1 : ws[q1]? = some (a, .inl (D.2.2.1, n1, .inr (.inl g)))) {n : Nat} (hn : n ≤ n0 ∧ n ≤ n1) (hn2 : n ≤ 2147483647) (hframes : 1 ≤ R.frames) (hlocals : (rest.map fun v => v.category).sum + (nativeFrameWords "java/lang/System" "arraycopy" 5 + 11) ≤ R.locals) (hdg : decode cc pc = .ok (.invokestatic index, 3)) (hw : ws.set q1 (a, .inl (D.2.2.1, n1, .inr (.inl (va_cpy f g 0 0 n)))) = ws')
    (k : ∀ (H1 : Heap) (locs1 : List Loc), va_P D.1 j_cl ws' H1 → va_S A H0 H1 locs1 → W p l e R s m args below meth c H1 locs1 cells slots Q (F0 m (pc + 3) ls rest)) : W p l e R s m args below meth c H locs cells slots Q (F0 m pc ls (.int (J (n : Int)) :: .int (J 0) :: .ref a :: .int (J 0) :: .ref a0 :: rest)) := by
  have e0 : (J 0).toNatClampNeg = 0 := J_clamp (by omega)
  have e1 : (J (n : Int)).toNatClampNeg = n := by rw [J_clamp (by omega)]; rfl
  have g0 : ¬ J 0 < 0 := by decide
  have g1 : ¬ J (n : Int) < 0 := by rw [Int32.lt_iff_toInt_lt, J_toInt (by omega)]; show ¬ (n : Int) < 0; omega
  refine va_copyl S.1 S.2.1 (S.2.2.1.trans hls.symm) S.2.2.2.1 (S.2.2.2.2 _ hlk) (S.2.2.2.2 _ hnat) (S.2.2.2.2 _ hst) (S.2.2.2.2 _ hini) hG.1 hP hD hS q0 q1 1 1 ha0 ha1 rfl rfl rfl g0 g0 g1 (by rw [e0, e1]; omega) (by rw [e0, e1]; omega) (fun i _ => rfl) hframes hlocals hdg (fun H1 locs1 h1 _ h3 => ?_)
  rw [e0, e1] at h1
  exact k H1 locs1 (hw ▸ h1) h3
end JL

set_option maxHeartbeats 4000000 in
set_option maxRecDepth 100000 in
theorem c_X0_frame (l : Launch) (D : JD) (q : Nat → Nat) (u : CS) (A : Nat → Prop) (hD : va_D A (cW D q u)) (r : Nat) (hr : r ≤ 8) (p0 : RB 40 u r) : Met l yX0_frame (jw yX0_frame cX0_frame 2 none) (jr 2 43) (jP [.ref (q 5), .ref (q (9 + 5 * r))] D (fun H => va_P D.1 j_cl (cW D q u) H)) (jWv (fun u' => ∃ lf : Int, ∃ bt : Int, ∃ wd : Int, ∃ tl : Int, u' = (sV (sV (sV (sV u 13 lf) 14 bt) 15 wd) 16 tl) ∧ ((-40 ≤ lf ∧ lf ≤ 40) ∧ (-40 ≤ bt ∧ bt ≤ 40) ∧ (-79 ≤ wd ∧ wd ≤ 81) ∧ -79 ≤ tl ∧ tl ≤ 81)) (fun u' H => va_P D.1 j_cl (cW D q u') H) A) 0 0 A := by
  refine Met.ofW (cc := cX0_frame) (maxL := 2) (ret := none) (by decide) rfl ?_
  intro pr en st mi args below meth co s₁ B hml hv
  obtain ⟨rfl, hG, hP⟩ := hv
  have hr := B.returns
  have hlk := B.notSynchronized
  have SS : jS pr mi co cX0_frame 2 st _ RX0 := ⟨B.exec, B.bytes, hml, findClass_of_methodNamed B.named, fun w hw => atoms_spec (ws := (jw yX0_frame cX0_frame 2 none)) B.pre w (List.mem_cons_of_mem _ hw)⟩
  have hl := lv_entry ([.ref (q 5), .ref (q (9 + 5 * r))]) (n := 2) (Nat.le_of_ble_eq_true rfl)
  rw [lg_entry_eq]
  generalize (lg_sl ([.ref (q 5), .ref (q (9 + 5 * r))]) ++ List.replicate (2 - (lg_sl ([.ref (q 5), .ref (q (9 + 5 * r))])).length) Slot.unset).toArray = ls at hl ⊢
  have hl : lv_has ls 2 [(0, .ref (q 5)), (1, .ref (q (9 + 5 * r)))] := hl
  have hS : va_S A st.heap st.heap [] := va_S.rf
  have hc := p0.1
  have hrl := rl_b r
  refine lv_aload_n SS.1 SS.2.1 dX0_frame_0 rfl (lv_at hl 0 rfl) ?_
  refine lv_aload_n SS.1 SS.2.1 dX0_frame_1 rfl (lv_at hl 1 rfl) ?_
  refine j_vRi SS (As := []) (rest := [.ref (q 5)]) (c_X7_leftmost l D q u r (by omega) (40 : Int)  (show 0 ≤ (40 : Int) ∧ (40 : Int) ≤ 80 from (by omega)) (show RB (40 : Int) u r from (p0))) mf_X7_leftmost kw_708 hG hP hP (ci := 7) (q0 := (9 + 5 * r)) rfl (cw_ring (by omega)) rfl rfl hl.1 ⟨⟨Nat.le_of_ble_eq_true rfl, Nat.le_of_ble_eq_true rfl⟩, Nat.le_of_ble_eq_true rfl, Nat.le_refl _, Nat.le_refl _⟩ rfl dX0_frame_2 (fun z_2 h_2 => ?_)
  have h_2 : z_2 = rx u r 0 ∧ -(40 : Int) ≤ z_2 ∧ z_2 ≤ (40 : Int) := h_2
  refine j_put SS hG hP (cW_D hD) hS 5 (v := .int (J z_2)) (ty := .int) (C := RX0) (T := TX0) (N := 14) rfl rfl inX0 tyX0 tyX0_ok nmX0 7 (by decide) (ref := "GridPolygons$Choices") kw_251 rfl rfl (by decide +kernel) rfl rfl (Nat.le_of_ble_eq_true rfl) dX0_frame_5 (ws' := (cW D q (sV u 13 z_2))) rfl (fun H locs hP hS => ?_)
  refine lv_aload_n SS.1 SS.2.1 dX0_frame_8 rfl (lv_at hl 0 rfl) ?_
  refine lv_aload_n SS.1 SS.2.1 dX0_frame_9 rfl (lv_at hl 1 rfl) ?_
  refine j_vRi SS (As := []) (rest := [.ref (q 5)]) (c_X7_bottom l D q (sV u 13 z_2) r (by omega) (40 : Int)  (show 0 ≤ (40 : Int) ∧ (40 : Int) ≤ 80 from (by omega)) (show RB (40 : Int) (sV u 13 z_2) r from (p0))) mf_X7_bottom kw_709 hG hP hP (ci := 7) (q0 := (9 + 5 * r)) rfl (cw_ring (by omega)) rfl rfl hl.1 ⟨⟨Nat.le_of_ble_eq_true rfl, Nat.le_of_ble_eq_true rfl⟩, Nat.le_of_ble_eq_true rfl, Nat.le_refl _, Nat.le_refl _⟩ rfl dX0_frame_10 (fun z_10 h_10 => ?_)
  have h_10 : -(40 : Int) ≤ z_10 ∧ z_10 ≤ (40 : Int) := h_10
  refine j_put SS hG hP (cW_D hD) hS 5 (v := .int (J z_10)) (ty := .int) (C := RX0) (T := TX0) (N := 14) rfl rfl inX0 tyX0 tyX0_ok nmX0 8 (by decide) (ref := "GridPolygons$Choices") kw_252 rfl rfl (by decide +kernel) rfl rfl (Nat.le_of_ble_eq_true rfl) dX0_frame_13 (ws' := (cW D q (sV (sV u 13 z_2) 14 z_10))) rfl (fun H locs hP hS => ?_)
  refine lv_aload_n SS.1 SS.2.1 dX0_frame_16 rfl (lv_at hl 0 rfl) ?_
  refine lv_aload_n SS.1 SS.2.1 dX0_frame_17 rfl (lv_at hl 1 rfl) ?_
  refine j_vRi SS (As := []) (rest := [.ref (q 5)]) (c_X7_rightmost l D q (sV (sV u 13 z_2) 14 z_10) r (by omega) (40 : Int)  (show 0 ≤ (40 : Int) ∧ (40 : Int) ≤ 80 from (by omega)) (show RB (40 : Int) (sV (sV u 13 z_2) 14 z_10) r from (p0))) mf_X7_rightmost kw_710 hG hP hP (ci := 7) (q0 := (9 + 5 * r)) rfl (cw_ring (by omega)) rfl rfl hl.1 ⟨⟨Nat.le_of_ble_eq_true rfl, Nat.le_of_ble_eq_true rfl⟩, Nat.le_of_ble_eq_true rfl, Nat.le_refl _, Nat.le_refl _⟩ rfl dX0_frame_18 (fun z_18 h_18 => ?_)
  have h_18 : -(40 : Int) ≤ z_18 ∧ z_18 ≤ (40 : Int) := h_18
  refine lv_aload_n SS.1 SS.2.1 dX0_frame_21 rfl (lv_at hl 0 rfl) ?_
  refine j_get SS hG hP 5 (v := .int (J z_2)) (C := RX0) (T := TX0) (N := 14) rfl rfl inX0 7 (by decide) (ref := "GridPolygons$Choices") kw_251 rfl rfl dX0_frame_22 ?_
  refine j_isub SS (x := z_18) (y := z_2) dX0_frame_25 ?_
  refine j_iconst SS dX0_frame_26 ?_
  refine j_iadd SS (x := (z_18 - z_2)) (y := 1) dX0_frame_27 ?_
  refine j_put SS hG hP (cW_D hD) hS 5 (v := .int (J ((z_18 - z_2) + 1))) (ty := .int) (C := RX0) (T := TX0) (N := 14) rfl rfl inX0 tyX0 tyX0_ok nmX0 9 (by decide) (ref := "GridPolygons$Choices") kw_253 rfl rfl (by decide +kernel) rfl rfl (Nat.le_of_ble_eq_true rfl) dX0_frame_28 (ws' := (cW D q (sV (sV (sV u 13 z_2) 14 z_10) 15 ((z_18 - z_2) + 1)))) rfl (fun H locs hP hS => ?_)
  refine lv_aload_n SS.1 SS.2.1 dX0_frame_31 rfl (lv_at hl 0 rfl) ?_
  refine lv_aload_n SS.1 SS.2.1 dX0_frame_32 rfl (lv_at hl 1 rfl) ?_
  refine j_vRi SS (As := []) (rest := [.ref (q 5)]) (c_X7_top l D q (sV (sV (sV u 13 z_2) 14 z_10) 15 ((z_18 - z_2) + 1)) r (by omega) (40 : Int)  (show 0 ≤ (40 : Int) ∧ (40 : Int) ≤ 80 from (by omega)) (show RB (40 : Int) (sV (sV (sV u 13 z_2) 14 z_10) 15 ((z_18 - z_2) + 1)) r from (p0))) mf_X7_top kw_711 hG hP hP (ci := 7) (q0 := (9 + 5 * r)) rfl (cw_ring (by omega)) rfl rfl hl.1 ⟨⟨Nat.le_of_ble_eq_true rfl, Nat.le_of_ble_eq_true rfl⟩, Nat.le_of_ble_eq_true rfl, Nat.le_refl _, Nat.le_refl _⟩ rfl dX0_frame_33 (fun z_33 h_33 => ?_)
  have h_33 : -(40 : Int) ≤ z_33 ∧ z_33 ≤ (40 : Int) := h_33
  refine lv_aload_n SS.1 SS.2.1 dX0_frame_36 rfl (lv_at hl 0 rfl) ?_
  refine j_get SS hG hP 5 (v := .int (J z_10)) (C := RX0) (T := TX0) (N := 14) rfl rfl inX0 8 (by decide) (ref := "GridPolygons$Choices") kw_252 rfl rfl dX0_frame_37 ?_
  refine j_isub SS (x := z_33) (y := z_10) dX0_frame_40 ?_
  refine j_iconst SS dX0_frame_41 ?_
  refine j_iadd SS (x := (z_33 - z_10)) (y := 1) dX0_frame_42 ?_
  refine j_put SS hG hP (cW_D hD) hS 5 (v := .int (J ((z_33 - z_10) + 1))) (ty := .int) (C := RX0) (T := TX0) (N := 14) rfl rfl inX0 tyX0 tyX0_ok nmX0 10 (by decide) (ref := "GridPolygons$Choices") kw_254 rfl rfl (by decide +kernel) rfl rfl (Nat.le_of_ble_eq_true rfl) dX0_frame_43 (ws' := (cW D q (sV (sV (sV (sV u 13 z_2) 14 z_10) 15 ((z_18 - z_2) + 1)) 16 ((z_33 - z_10) + 1)))) rfl (fun H locs hP hS => ?_)
  exact W.vret SS.1 SS.2.1 hr (fun t0 ht hW => ⟨⟨(sV (sV (sV (sV u 13 z_2) 14 z_10) 15 ((z_18 - z_2) + 1)) 16 ((z_33 - z_10) + 1)), rfl, (⟨z_2, z_10, ((z_18 - z_2) + 1), ((z_33 - z_10) + 1), rfl, by omega⟩), by show va_P D.1 j_cl (cW D q (sV (sV (sV (sV u 13 z_2) 14 z_10) 15 ((z_18 - z_2) + 1)) 16 ((z_33 - z_10) + 1))) t0.heap; rw [ht]; first | exact hP | (simp only [sC_id, sX_id, sY_id, sH_id, sT_id, sV_id]; exact hP)⟩, hS.F ht⟩) hS.2.2 dX0_frame_46 hlk

set_option maxHeartbeats 4000000 in
set_option maxRecDepth 100000 in
theorem c_X0_cell (l : Launch) (D : JD) (q : Nat → Nat) (u : CS) (x : Int) (y : Int) (p0 : (-40 ≤ u.2.2.2 13 ∧ u.2.2.2 13 ≤ 40) ∧ (-40 ≤ u.2.2.2 14 ∧ u.2.2.2 14 ≤ 40) ∧ (-79 ≤ u.2.2.2 15 ∧ u.2.2.2 15 ≤ 81) ∧ (-79 ≤ u.2.2.2 16 ∧ u.2.2.2 16 ≤ 81)) (p1 : -2000000 ≤ x ∧ x ≤ 2000000) (p2 : -2000000 ≤ y ∧ y ≤ 2000000) : Met l yX0_cell (jw yX0_cell cX0_cell 6 (some .int)) (jr 0 0) (jP [.ref (q 5), .int (J x), .int (J y)] D (fun H => va_P D.1 j_cl (cW D q u) H)) (jRi (fun z => -1 ≤ z ∧ z ≤ 6560)) 0 0 (fun _ => False) := by
  refine Met.ofW (cc := cX0_cell) (maxL := 6) (ret := (some .int)) (by decide) rfl ?_
  intro pr en st mi args below meth co s₁ B hml hv
  obtain ⟨rfl, hG, hP⟩ := hv
  have hr := B.returns
  have hlk := B.notSynchronized
  have SS : jS pr mi co cX0_cell 6 st _ RX0 := ⟨B.exec, B.bytes, hml, findClass_of_methodNamed B.named, fun w hw => atoms_spec (ws := (jw yX0_cell cX0_cell 6 (some .int))) B.pre w (List.mem_cons_of_mem _ hw)⟩
  have hl := lv_entry ([.ref (q 5), .int (J x), .int (J y)]) (n := 6) (Nat.le_of_ble_eq_true rfl)
  rw [lg_entry_eq]
  generalize (lg_sl ([.ref (q 5), .int (J x), .int (J y)]) ++ List.replicate (6 - (lg_sl ([.ref (q 5), .int (J x), .int (J y)])).length) Slot.unset).toArray = ls at hl ⊢
  have hl : lv_has ls 6 [(0, .ref (q 5)), (1, .int (J x)), (2, .int (J y))] := hl
  refine lv_iload_n SS.1 SS.2.1 dX0_cell_0 rfl (lv_at hl 1 rfl) ?_
  refine lv_aload_n SS.1 SS.2.1 dX0_cell_1 rfl (lv_at hl 0 rfl) ?_
  refine j_get SS hG hP 5 (v := .int (J (u.2.2.2 13))) (C := RX0) (T := TX0) (N := 14) rfl rfl inX0 7 (by decide) (ref := "GridPolygons$Choices") kw_251 rfl rfl dX0_cell_2 ?_
  refine j_isub SS (x := x) (y := (u.2.2.2 13)) dX0_cell_5 ?_
  obtain ⟨co, eco⟩ : ∃ z : Int, z = (x - (u.2.2.2 13)) := ⟨_, rfl⟩
  rw [← eco]
  refine lv_istore_n (lv' := [(3, .int (J co)), (0, .ref (q 5)), (1, .int (J x)), (2, .int (J y))]) SS.1 SS.2.1 dX0_cell_6 rfl hl (by decide) rfl (fun ls hl => ?_)
  refine lv_iload_n SS.1 SS.2.1 dX0_cell_7 rfl (lv_at hl 3 rfl) ?_
  refine lv_aload_n SS.1 SS.2.1 dX0_cell_8 rfl (lv_at hl 1 rfl) ?_
  refine j_get SS hG hP 5 (v := .int (J (u.2.2.2 14))) (C := RX0) (T := TX0) (N := 14) rfl rfl inX0 8 (by decide) (ref := "GridPolygons$Choices") kw_252 rfl rfl dX0_cell_9 ?_
  refine j_isub SS (x := y) (y := (u.2.2.2 14)) dX0_cell_12 ?_
  obtain ⟨ro, ero⟩ : ∃ z : Int, z = (y - (u.2.2.2 14)) := ⟨_, rfl⟩
  rw [← ero]
  refine lv_istore (lv' := [(4, .int (J ro)), (3, .int (J co)), (0, .ref (q 5)), (1, .int (J x)), (2, .int (J y))]) SS.1 SS.2.1 dX0_cell_13 hl (by decide) rfl (fun ls hl => ?_)
  refine lv_iload_n SS.1 SS.2.1 dX0_cell_15 rfl (lv_at hl 1 rfl) ?_
  refine j_if_lt SS (tgt := 41) (x := co) dX0_cell_16 (by decide) (by omega) (fun c_16 => ?_) (fun c_16 => ?_)
  · skip
    refine j_iconst SS dX0_cell_41 ?_
    exact W.iret SS.1 SS.2.1 hr (fun t0 ht hW => ⟨_, rfl, ⟨(-1), rfl, (by omega)⟩, ht⟩) (fun _ h => nomatch h) dX0_cell_42 hlk
  · skip
    refine lv_iload_n SS.1 SS.2.1 dX0_cell_19 rfl (lv_at hl 1 rfl) ?_
    refine lv_aload_n SS.1 SS.2.1 dX0_cell_20 rfl (lv_at hl 2 rfl) ?_
    refine j_get SS hG hP 5 (v := .int (J (u.2.2.2 15))) (C := RX0) (T := TX0) (N := 14) rfl rfl inX0 9 (by decide) (ref := "GridPolygons$Choices") kw_253 rfl rfl dX0_cell_21 ?_
    refine j_icmp_ge SS (tgt := 41) (x := co) (y := (u.2.2.2 15)) dX0_cell_24 (by decide) (by omega) (by omega) (fun c_24 => ?_) (fun c_24 => ?_)
    · skip
      refine j_iconst SS dX0_cell_41 ?_
      exact W.iret SS.1 SS.2.1 hr (fun t0 ht hW => ⟨_, rfl, ⟨(-1), rfl, (by omega)⟩, ht⟩) (fun _ h => nomatch h) dX0_cell_42 hlk
    · skip
      refine lv_iload SS.1 SS.2.1 dX0_cell_27 (lv_at hl 0 rfl) ?_
      refine j_if_lt SS (tgt := 41) (x := ro) dX0_cell_29 (by decide) (by omega) (fun c_29 => ?_) (fun c_29 => ?_)
      · skip
        refine j_iconst SS dX0_cell_41 ?_
        exact W.iret SS.1 SS.2.1 hr (fun t0 ht hW => ⟨_, rfl, ⟨(-1), rfl, (by omega)⟩, ht⟩) (fun _ h => nomatch h) dX0_cell_42 hlk
      · skip
        refine lv_iload SS.1 SS.2.1 dX0_cell_32 (lv_at hl 0 rfl) ?_
        refine lv_aload_n SS.1 SS.2.1 dX0_cell_34 rfl (lv_at hl 2 rfl) ?_
        refine j_get SS hG hP 5 (v := .int (J (u.2.2.2 16))) (C := RX0) (T := TX0) (N := 14) rfl rfl inX0 10 (by decide) (ref := "GridPolygons$Choices") kw_254 rfl rfl dX0_cell_35 ?_
        refine j_icmp_lt SS (tgt := 43) (x := ro) (y := (u.2.2.2 16)) dX0_cell_38 (by decide) (by omega) (by omega) (fun c_38 => ?_) (fun c_38 => ?_)
        · skip
          refine lv_iload_n SS.1 SS.2.1 dX0_cell_43 rfl (lv_at hl 1 rfl) ?_
          refine lv_aload_n SS.1 SS.2.1 dX0_cell_44 rfl (lv_at hl 2 rfl) ?_
          refine j_get SS hG hP 5 (v := .int (J (u.2.2.2 16))) (C := RX0) (T := TX0) (N := 14) rfl rfl inX0 10 (by decide) (ref := "GridPolygons$Choices") kw_254 rfl rfl dX0_cell_45 ?_
          refine j_imul SS (x := co) (y := (u.2.2.2 16)) dX0_cell_48 ?_
          refine lv_iload SS.1 SS.2.1 dX0_cell_49 (lv_at hl 0 rfl) ?_
          refine j_iadd SS (x := (co * (u.2.2.2 16))) (y := ro) dX0_cell_51 ?_
          refine lv_istore (lv' := [(5, .int (J ((co * (u.2.2.2 16)) + ro))), (4, .int (J ro)), (3, .int (J co)), (0, .ref (q 5)), (1, .int (J x)), (2, .int (J y))]) SS.1 SS.2.1 dX0_cell_52 hl (by decide) rfl (fun ls hl => ?_)
          have m1 := mulb (A := 80) (B := 81) (a := co) (b := u.2.2.2 16) (by omega) (by omega)
          have m2 : 0 ≤ co * u.2.2.2 16 := Int.mul_nonneg (by omega) (by omega)
          refine lv_iload SS.1 SS.2.1 dX0_cell_54 (lv_at hl 0 rfl) ?_
          refine j_sipush SS dX0_cell_56 (by decide +kernel) ?_
          refine j_icmp_ge SS (tgt := 67) (x := ((co * (u.2.2.2 16)) + ro)) (y := 6561) dX0_cell_59 (by decide) (by omega) (by decide) (fun c_59 => ?_) (fun c_59 => ?_)
          · skip
            refine j_iconst SS dX0_cell_67 ?_
            exact W.iret SS.1 SS.2.1 hr (fun t0 ht hW => ⟨_, rfl, ⟨(-1), rfl, (by omega)⟩, ht⟩) (fun _ h => nomatch h) dX0_cell_68 hlk
          · skip
            refine lv_iload SS.1 SS.2.1 dX0_cell_62 (lv_at hl 0 rfl) ?_
            refine lv_goto (tgt := 68) SS.1 SS.2.1 dX0_cell_64 (by decide) ?_
            exact W.iret SS.1 SS.2.1 hr (fun t0 ht hW => ⟨_, rfl, ⟨((co * (u.2.2.2 16)) + ro), rfl, (by omega)⟩, ht⟩) (fun _ h => nomatch h) dX0_cell_68 hlk
        · skip
          refine j_iconst SS dX0_cell_41 ?_
          exact W.iret SS.1 SS.2.1 hr (fun t0 ht hW => ⟨_, rfl, ⟨(-1), rfl, (by omega)⟩, ht⟩) (fun _ h => nomatch h) dX0_cell_42 hlk

set_option maxHeartbeats 4000000 in
set_option maxRecDepth 100000 in
theorem c_X0_takeSide (l : Launch) (D : JD) (q : Nat → Nat) (u : CS) (A : Nat → Prop) (hD : va_D A (cW D q u)) (r : Nat) (hr : r ≤ 8) (sd : Int) (p0 : RB 40 u r) (p1 : -1000 ≤ sd ∧ sd ≤ 1000) : Met l yX0_takeSide (jw yX0_takeSide cX0_takeSide 3 none) (jr 3 66) (jP [.ref (q 5), .ref (q (9 + 5 * r)), .int (J sd)] D (fun H => va_P D.1 j_cl (cW D q u) H)) (jWv (fun u' => ∃ sp : Int, ∃ dx : Int, ∃ dy : Int, u' = (sV (sV (sV u 17 sp) 18 dx) 19 dy) ∧ ((0 ≤ sp ∧ sp ≤ 80) ∧ (-80 ≤ dx ∧ dx ≤ 80) ∧ -80 ≤ dy ∧ dy ≤ 80)) (fun u' H => va_P D.1 j_cl (cW D q u') H) A) 0 0 A := by
  refine Met.ofW (cc := cX0_takeSide) (maxL := 3) (ret := none) (by decide) rfl ?_
  intro pr en st mi args below meth co s₁ B hml hv
  obtain ⟨rfl, hG, hP⟩ := hv
  have hr := B.returns
  have hlk := B.notSynchronized
  have SS : jS pr mi co cX0_takeSide 3 st _ RX0 := ⟨B.exec, B.bytes, hml, findClass_of_methodNamed B.named, fun w hw => atoms_spec (ws := (jw yX0_takeSide cX0_takeSide 3 none)) B.pre w (List.mem_cons_of_mem _ hw)⟩
  have hl := lv_entry ([.ref (q 5), .ref (q (9 + 5 * r)), .int (J sd)]) (n := 3) (Nat.le_of_ble_eq_true rfl)
  rw [lg_entry_eq]
  generalize (lg_sl ([.ref (q 5), .ref (q (9 + 5 * r)), .int (J sd)]) ++ List.replicate (3 - (lg_sl ([.ref (q 5), .ref (q (9 + 5 * r)), .int (J sd)])).length) Slot.unset).toArray = ls at hl ⊢
  have hl : lv_has ls 3 [(0, .ref (q 5)), (1, .ref (q (9 + 5 * r))), (2, .int (J sd))] := hl
  have hS : va_S A st.heap st.heap [] := va_S.rf
  have hc := p0.1
  have hrl := rl_b r
  refine lv_aload_n SS.1 SS.2.1 dX0_takeSide_0 rfl (lv_at hl 0 rfl) ?_
  refine lv_aload_n SS.1 SS.2.1 dX0_takeSide_1 rfl (lv_at hl 1 rfl) ?_
  refine lv_iload_n SS.1 SS.2.1 dX0_takeSide_2 rfl (lv_at hl 2 rfl) ?_
  refine j_vRi SS (As := [.int (J sd)]) (rest := [.ref (q 5)]) (c_X7_stepsOf l D q u r (by omega) (40 : Int) sd (show 0 ≤ (40 : Int) ∧ (40 : Int) ≤ 80 from (by omega)) (show RB (40 : Int) u r from (p0)) (show -1000 ≤ sd ∧ sd ≤ 1000 from (p1))) mf_X7_stepsOf kw_725 hG hP hP (ci := 7) (q0 := (9 + 5 * r)) rfl (cw_ring (by omega)) rfl rfl hl.1 ⟨⟨Nat.le_of_ble_eq_true rfl, Nat.le_of_ble_eq_true rfl⟩, Nat.le_of_ble_eq_true rfl, Nat.le_refl _, Nat.le_refl _⟩ rfl dX0_takeSide_3 (fun z_3 h_3 => ?_)
  have h_3 : z_3 = dS u r sd ∧ 0 ≤ z_3 ∧ z_3 ≤ 2 * (40 : Int) := h_3
  refine j_put SS hG hP (cW_D hD) hS 5 (v := .int (J z_3)) (ty := .int) (C := RX0) (T := TX0) (N := 14) rfl rfl inX0 tyX0 tyX0_ok nmX0 11 (by decide) (ref := "GridPolygons$Choices") kw_255 rfl rfl (by decide +kernel) rfl rfl (Nat.le_of_ble_eq_true rfl) dX0_takeSide_6 (ws' := (cW D q (sV u 17 z_3))) rfl (fun H locs hP hS => ?_)
  refine lv_aload_n SS.1 SS.2.1 dX0_takeSide_9 rfl (lv_at hl 0 rfl) ?_
  refine lv_aload_n SS.1 SS.2.1 dX0_takeSide_10 rfl (lv_at hl 0 rfl) ?_
  refine j_get SS hG hP 5 (v := .int (J z_3)) (C := RX0) (T := TX0) (N := 14) rfl rfl inX0 11 (by decide) (ref := "GridPolygons$Choices") kw_255 rfl rfl dX0_takeSide_11 ?_
  refine j_if_ne SS (tgt := 21) (x := z_3) dX0_takeSide_14 (by decide) (by omega) (fun c_14 => ?_) (fun c_14 => ?_)
  · skip
    refine lv_aload_n SS.1 SS.2.1 dX0_takeSide_21 rfl (lv_at hl 1 rfl) ?_
    refine lv_iload_n SS.1 SS.2.1 dX0_takeSide_22 rfl (lv_at hl 2 rfl) ?_
    refine j_vRi SS (As := [.int (J sd)]) (rest := [.ref (q 5)]) (c_X7_sideX l D q (sV u 17 z_3) r (by omega) (40 : Int) sd (show 0 ≤ (40 : Int) ∧ (40 : Int) ≤ 80 from (by omega)) (show RB (40 : Int) (sV u 17 z_3) r from (p0)) (show -1000 ≤ sd ∧ sd ≤ 1000 from (by omega))) mf_X7_sideX kw_726 hG hP hP (ci := 7) (q0 := (9 + 5 * r)) rfl (cw_ring (by omega)) rfl rfl hl.1 ⟨⟨Nat.le_of_ble_eq_true rfl, Nat.le_of_ble_eq_true rfl⟩, Nat.le_of_ble_eq_true rfl, Nat.le_refl _, Nat.le_refl _⟩ rfl dX0_takeSide_23 (fun z_23 h_23 => ?_)
    have h_23 : z_23 = dX (sV u 17 z_3) r sd ∧ -2 * (40 : Int) ≤ z_23 ∧ z_23 ≤ 2 * (40 : Int) := h_23
    refine lv_aload_n SS.1 SS.2.1 dX0_takeSide_26 rfl (lv_at hl 0 rfl) ?_
    refine j_get SS hG hP 5 (v := .int (J z_3)) (C := RX0) (T := TX0) (N := 14) rfl rfl inX0 11 (by decide) (ref := "GridPolygons$Choices") kw_255 rfl rfl dX0_takeSide_27 ?_
    have td1 := td_b (a := z_23) (b := z_3) (K := 80) (by omega)
    refine j_idiv SS (x := z_23) (y := z_3) dX0_takeSide_30 (by omega) (by omega) (by omega) ?_
    refine j_put SS hG hP (cW_D hD) hS 5 (v := .int (J (Int.tdiv z_23 z_3))) (ty := .int) (C := RX0) (T := TX0) (N := 14) rfl rfl inX0 tyX0 tyX0_ok nmX0 12 (by decide) (ref := "GridPolygons$Choices") kw_256 rfl rfl (by decide +kernel) rfl rfl (Nat.le_of_ble_eq_true rfl) dX0_takeSide_31 (ws' := (cW D q (sV (sV u 17 z_3) 18 (Int.tdiv z_23 z_3)))) rfl (fun H locs hP hS => ?_)
    refine lv_aload_n SS.1 SS.2.1 dX0_takeSide_34 rfl (lv_at hl 0 rfl) ?_
    refine lv_aload_n SS.1 SS.2.1 dX0_takeSide_35 rfl (lv_at hl 0 rfl) ?_
    refine j_get SS hG hP 5 (v := .int (J z_3)) (C := RX0) (T := TX0) (N := 14) rfl rfl inX0 11 (by decide) (ref := "GridPolygons$Choices") kw_255 rfl rfl dX0_takeSide_36 ?_
    refine j_if_ne SS (tgt := 46) (x := z_3) dX0_takeSide_39 (by decide) (by omega) (fun c_39 => ?_) (fun c_39 => ?_)
    · skip
      refine lv_aload_n SS.1 SS.2.1 dX0_takeSide_46 rfl (lv_at hl 1 rfl) ?_
      refine lv_iload_n SS.1 SS.2.1 dX0_takeSide_47 rfl (lv_at hl 2 rfl) ?_
      refine j_vRi SS (As := [.int (J sd)]) (rest := [.ref (q 5)]) (c_X7_sideY l D q (sV (sV u 17 z_3) 18 (Int.tdiv z_23 z_3)) r (by omega) (40 : Int) sd (show 0 ≤ (40 : Int) ∧ (40 : Int) ≤ 80 from (by omega)) (show RB (40 : Int) (sV (sV u 17 z_3) 18 (Int.tdiv z_23 z_3)) r from (p0)) (show -1000 ≤ sd ∧ sd ≤ 1000 from (by omega))) mf_X7_sideY kw_727 hG hP hP (ci := 7) (q0 := (9 + 5 * r)) rfl (cw_ring (by omega)) rfl rfl hl.1 ⟨⟨Nat.le_of_ble_eq_true rfl, Nat.le_of_ble_eq_true rfl⟩, Nat.le_of_ble_eq_true rfl, Nat.le_refl _, Nat.le_refl _⟩ rfl dX0_takeSide_48 (fun z_48 h_48 => ?_)
      have h_48 : z_48 = dY (sV (sV u 17 z_3) 18 (Int.tdiv z_23 z_3)) r sd ∧ -2 * (40 : Int) ≤ z_48 ∧ z_48 ≤ 2 * (40 : Int) := h_48
      refine lv_aload_n SS.1 SS.2.1 dX0_takeSide_51 rfl (lv_at hl 0 rfl) ?_
      refine j_get SS hG hP 5 (v := .int (J z_3)) (C := RX0) (T := TX0) (N := 14) rfl rfl inX0 11 (by decide) (ref := "GridPolygons$Choices") kw_255 rfl rfl dX0_takeSide_52 ?_
      have td2 := td_b (a := z_48) (b := z_3) (K := 80) (by omega)
      refine j_idiv SS (x := z_48) (y := z_3) dX0_takeSide_55 (by omega) (by omega) (by omega) ?_
      refine j_put SS hG hP (cW_D hD) hS 5 (v := .int (J (Int.tdiv z_48 z_3))) (ty := .int) (C := RX0) (T := TX0) (N := 14) rfl rfl inX0 tyX0 tyX0_ok nmX0 13 (by decide) (ref := "GridPolygons$Choices") kw_257 rfl rfl (by decide +kernel) rfl rfl (Nat.le_of_ble_eq_true rfl) dX0_takeSide_56 (ws' := (cW D q (sV (sV (sV u 17 z_3) 18 (Int.tdiv z_23 z_3)) 19 (Int.tdiv z_48 z_3)))) rfl (fun H locs hP hS => ?_)
      exact W.vret SS.1 SS.2.1 hr (fun t0 ht hW => ⟨⟨(sV (sV (sV u 17 z_3) 18 (Int.tdiv z_23 z_3)) 19 (Int.tdiv z_48 z_3)), rfl, (⟨z_3, (Int.tdiv z_23 z_3), (Int.tdiv z_48 z_3), rfl, by omega⟩), by show va_P D.1 j_cl (cW D q (sV (sV (sV u 17 z_3) 18 (Int.tdiv z_23 z_3)) 19 (Int.tdiv z_48 z_3))) t0.heap; rw [ht]; first | exact hP | (simp only [sC_id, sX_id, sY_id, sH_id, sT_id, sV_id]; exact hP)⟩, hS.F ht⟩) hS.2.2 dX0_takeSide_59 hlk
    · skip
      refine j_iconst SS dX0_takeSide_42 ?_
      refine lv_goto (tgt := 56) SS.1 SS.2.1 dX0_takeSide_43 (by decide) ?_
      refine j_put SS hG hP (cW_D hD) hS 5 (v := .int (J 0)) (ty := .int) (C := RX0) (T := TX0) (N := 14) rfl rfl inX0 tyX0 tyX0_ok nmX0 13 (by decide) (ref := "GridPolygons$Choices") kw_257 rfl rfl (by decide +kernel) rfl rfl (Nat.le_of_ble_eq_true rfl) dX0_takeSide_56 (ws' := (cW D q (sV (sV (sV u 17 z_3) 18 (Int.tdiv z_23 z_3)) 19 0))) rfl (fun H locs hP hS => ?_)
      exact W.vret SS.1 SS.2.1 hr (fun t0 ht hW => ⟨⟨(sV (sV (sV u 17 z_3) 18 (Int.tdiv z_23 z_3)) 19 0), rfl, (⟨z_3, (Int.tdiv z_23 z_3), 0, rfl, by omega⟩), by show va_P D.1 j_cl (cW D q (sV (sV (sV u 17 z_3) 18 (Int.tdiv z_23 z_3)) 19 0)) t0.heap; rw [ht]; first | exact hP | (simp only [sC_id, sX_id, sY_id, sH_id, sT_id, sV_id]; exact hP)⟩, hS.F ht⟩) hS.2.2 dX0_takeSide_59 hlk
  · skip
    refine j_iconst SS dX0_takeSide_17 ?_
    refine lv_goto (tgt := 31) SS.1 SS.2.1 dX0_takeSide_18 (by decide) ?_
    refine j_put SS hG hP (cW_D hD) hS 5 (v := .int (J 0)) (ty := .int) (C := RX0) (T := TX0) (N := 14) rfl rfl inX0 tyX0 tyX0_ok nmX0 12 (by decide) (ref := "GridPolygons$Choices") kw_256 rfl rfl (by decide +kernel) rfl rfl (Nat.le_of_ble_eq_true rfl) dX0_takeSide_31 (ws' := (cW D q (sV (sV u 17 z_3) 18 0))) rfl (fun H locs hP hS => ?_)
    refine lv_aload_n SS.1 SS.2.1 dX0_takeSide_34 rfl (lv_at hl 0 rfl) ?_
    refine lv_aload_n SS.1 SS.2.1 dX0_takeSide_35 rfl (lv_at hl 0 rfl) ?_
    refine j_get SS hG hP 5 (v := .int (J z_3)) (C := RX0) (T := TX0) (N := 14) rfl rfl inX0 11 (by decide) (ref := "GridPolygons$Choices") kw_255 rfl rfl dX0_takeSide_36 ?_
    refine j_if_ne SS (tgt := 46) (x := z_3) dX0_takeSide_39 (by decide) (by omega) (fun c_39 => ?_) (fun c_39 => ?_)
    · skip
      refine lv_aload_n SS.1 SS.2.1 dX0_takeSide_46 rfl (lv_at hl 1 rfl) ?_
      refine lv_iload_n SS.1 SS.2.1 dX0_takeSide_47 rfl (lv_at hl 2 rfl) ?_
      refine j_vRi SS (As := [.int (J sd)]) (rest := [.ref (q 5)]) (c_X7_sideY l D q (sV (sV u 17 z_3) 18 0) r (by omega) (40 : Int) sd (show 0 ≤ (40 : Int) ∧ (40 : Int) ≤ 80 from (by omega)) (show RB (40 : Int) (sV (sV u 17 z_3) 18 0) r from (p0)) (show -1000 ≤ sd ∧ sd ≤ 1000 from (by omega))) mf_X7_sideY kw_727 hG hP hP (ci := 7) (q0 := (9 + 5 * r)) rfl (cw_ring (by omega)) rfl rfl hl.1 ⟨⟨Nat.le_of_ble_eq_true rfl, Nat.le_of_ble_eq_true rfl⟩, Nat.le_of_ble_eq_true rfl, Nat.le_refl _, Nat.le_refl _⟩ rfl dX0_takeSide_48 (fun z_48 h_48 => ?_)
      have h_48 : z_48 = dY (sV (sV u 17 z_3) 18 0) r sd ∧ -2 * (40 : Int) ≤ z_48 ∧ z_48 ≤ 2 * (40 : Int) := h_48
      refine lv_aload_n SS.1 SS.2.1 dX0_takeSide_51 rfl (lv_at hl 0 rfl) ?_
      refine j_get SS hG hP 5 (v := .int (J z_3)) (C := RX0) (T := TX0) (N := 14) rfl rfl inX0 11 (by decide) (ref := "GridPolygons$Choices") kw_255 rfl rfl dX0_takeSide_52 ?_
      have td2 := td_b (a := z_48) (b := z_3) (K := 80) (by omega)
      refine j_idiv SS (x := z_48) (y := z_3) dX0_takeSide_55 (by omega) (by omega) (by omega) ?_
      refine j_put SS hG hP (cW_D hD) hS 5 (v := .int (J (Int.tdiv z_48 z_3))) (ty := .int) (C := RX0) (T := TX0) (N := 14) rfl rfl inX0 tyX0 tyX0_ok nmX0 13 (by decide) (ref := "GridPolygons$Choices") kw_257 rfl rfl (by decide +kernel) rfl rfl (Nat.le_of_ble_eq_true rfl) dX0_takeSide_56 (ws' := (cW D q (sV (sV (sV u 17 z_3) 18 0) 19 (Int.tdiv z_48 z_3)))) rfl (fun H locs hP hS => ?_)
      exact W.vret SS.1 SS.2.1 hr (fun t0 ht hW => ⟨⟨(sV (sV (sV u 17 z_3) 18 0) 19 (Int.tdiv z_48 z_3)), rfl, (⟨z_3, 0, (Int.tdiv z_48 z_3), rfl, by omega⟩), by show va_P D.1 j_cl (cW D q (sV (sV (sV u 17 z_3) 18 0) 19 (Int.tdiv z_48 z_3))) t0.heap; rw [ht]; first | exact hP | (simp only [sC_id, sX_id, sY_id, sH_id, sT_id, sV_id]; exact hP)⟩, hS.F ht⟩) hS.2.2 dX0_takeSide_59 hlk
    · skip
      refine j_iconst SS dX0_takeSide_42 ?_
      refine lv_goto (tgt := 56) SS.1 SS.2.1 dX0_takeSide_43 (by decide) ?_
      refine j_put SS hG hP (cW_D hD) hS 5 (v := .int (J 0)) (ty := .int) (C := RX0) (T := TX0) (N := 14) rfl rfl inX0 tyX0 tyX0_ok nmX0 13 (by decide) (ref := "GridPolygons$Choices") kw_257 rfl rfl (by decide +kernel) rfl rfl (Nat.le_of_ble_eq_true rfl) dX0_takeSide_56 (ws' := (cW D q (sV (sV (sV u 17 z_3) 18 0) 19 0))) rfl (fun H locs hP hS => ?_)
      exact W.vret SS.1 SS.2.1 hr (fun t0 ht hW => ⟨⟨(sV (sV (sV u 17 z_3) 18 0) 19 0), rfl, (⟨z_3, 0, 0, rfl, by omega⟩), by show va_P D.1 j_cl (cW D q (sV (sV (sV u 17 z_3) 18 0) 19 0)) t0.heap; rw [ht]; first | exact hP | (simp only [sC_id, sX_id, sY_id, sH_id, sT_id, sV_id]; exact hP)⟩, hS.F ht⟩) hS.2.2 dX0_takeSide_59 hlk

set_option maxHeartbeats 4000000 in
set_option maxRecDepth 100000 in
theorem c_X0_waysTo_0 (l : Launch) (D : JD) (q : Nat → Nat) (u : CS) (x : Int) (y : Int) (p0 : (-40 ≤ u.2.2.2 13 ∧ u.2.2.2 13 ≤ 40) ∧ (-40 ≤ u.2.2.2 14 ∧ u.2.2.2 14 ≤ 40) ∧ (-79 ≤ u.2.2.2 15 ∧ u.2.2.2 15 ≤ 81) ∧ (-79 ≤ u.2.2.2 16 ∧ u.2.2.2 16 ≤ 81)) (p1 : -2000000 ≤ x ∧ x ≤ 2000000) (p2 : -2000000 ≤ y ∧ y ≤ 2000000) : Met l yX0_waysTo (jw yX0_waysTo cX0_waysTo 5 (some .long)) (jr 1 25) (jP [.ref (q 5), .ref (q 67), .int (J x), .int (J y)] D (fun H => va_P D.1 j_cl (cW D q u) H)) (vp_Sl (fun x9 => True)) 0 0 (fun _ => False) := by
  refine Met.ofW (cc := cX0_waysTo) (maxL := 5) (ret := (some .long)) (by decide) rfl ?_
  intro pr en st mi args below meth co s₁ B hml hv
  obtain ⟨rfl, hG, hP⟩ := hv
  have hr := B.returns
  have hlk := B.notSynchronized
  have SS : jS pr mi co cX0_waysTo 5 st _ RX0 := ⟨B.exec, B.bytes, hml, findClass_of_methodNamed B.named, fun w hw => atoms_spec (ws := (jw yX0_waysTo cX0_waysTo 5 (some .long))) B.pre w (List.mem_cons_of_mem _ hw)⟩
  have hl := lv_entry ([.ref (q 5), .ref (q 67), .int (J x), .int (J y)]) (n := 5) (Nat.le_of_ble_eq_true rfl)
  rw [lg_entry_eq]
  generalize (lg_sl ([.ref (q 5), .ref (q 67), .int (J x), .int (J y)]) ++ List.replicate (5 - (lg_sl ([.ref (q 5), .ref (q 67), .int (J x), .int (J y)])).length) Slot.unset).toArray = ls at hl ⊢
  have hl : lv_has ls 5 [(0, .ref (q 5)), (1, .ref (q 67)), (2, .int (J x)), (3, .int (J y))] := hl
  refine lv_aload_n SS.1 SS.2.1 dX0_waysTo_0 rfl (lv_at hl 0 rfl) ?_
  refine lv_iload_n SS.1 SS.2.1 dX0_waysTo_1 rfl (lv_at hl 2 rfl) ?_
  refine lv_iload_n SS.1 SS.2.1 dX0_waysTo_2 rfl (lv_at hl 3 rfl) ?_
  refine j_vRi SS (As := [.int (J x), .int (J y)]) (rest := []) (c_X0_cell l D q u  x y (show (-40 ≤ (u.2.2.2 13) ∧ (u.2.2.2 13) ≤ 40) ∧ (-40 ≤ (u.2.2.2 14) ∧ (u.2.2.2 14) ≤ 40) ∧ (-79 ≤ (u.2.2.2 15) ∧ (u.2.2.2 15) ≤ 81) ∧ (-79 ≤ (u.2.2.2 16) ∧ (u.2.2.2 16) ≤ 81) from (p0)) (show -2000000 ≤ x ∧ x ≤ 2000000 from (p1)) (show -2000000 ≤ y ∧ y ≤ 2000000 from (p2))) mf_X0_cell kw_717 hG hP hP (ci := 0) (q0 := 5) rfl rfl rfl rfl hl.1 ⟨⟨Nat.le_of_ble_eq_true rfl, Nat.le_of_ble_eq_true rfl⟩, Nat.le_of_ble_eq_true rfl, Nat.le_refl _, Nat.le_refl _⟩ rfl dX0_waysTo_3 (fun z_3 h_3 => ?_)
  have h_3 : -1 ≤ z_3 ∧ z_3 ≤ 6560 := h_3
  refine lv_istore (lv' := [(4, .int (J z_3)), (0, .ref (q 5)), (1, .ref (q 67)), (2, .int (J x)), (3, .int (J y))]) SS.1 SS.2.1 dX0_waysTo_6 hl (by decide) rfl (fun ls hl => ?_)
  refine lv_iload SS.1 SS.2.1 dX0_waysTo_8 (lv_at hl 0 rfl) ?_
  refine j_if_lt SS (tgt := 27) (x := z_3) dX0_waysTo_10 (by decide) (by omega) (fun c_10 => ?_) (fun c_10 => ?_)
  · skip
    refine lv_lconst (v := 0) SS.1 SS.2.1 dX0_waysTo_27 (by decide +kernel) ?_
    exact W.lret SS.1 SS.2.1 hr (fun t0 ht hW => ⟨_, rfl, (trivial), ht⟩) (fun _ h => nomatch h) dX0_waysTo_28 hlk
  · skip
    refine lv_iload SS.1 SS.2.1 dX0_waysTo_13 (lv_at hl 0 rfl) ?_
    refine lv_aload_n SS.1 SS.2.1 dX0_waysTo_15 rfl (lv_at hl 2 rfl) ?_
    refine va_alen SS.1 SS.2.1 hG.1 hP 67 1 rfl rfl (v := J (6561 : Int)) (by first | rfl | exact J_nat _) dX0_waysTo_16 ?_
    refine j_icmp_ge SS (tgt := 27) (x := z_3) (y := 6561) dX0_waysTo_17 (by decide) (by omega) (by decide) (fun c_17 => ?_) (fun c_17 => ?_)
    · skip
      refine lv_lconst (v := 0) SS.1 SS.2.1 dX0_waysTo_27 (by decide +kernel) ?_
      exact W.lret SS.1 SS.2.1 hr (fun t0 ht hW => ⟨_, rfl, (trivial), ht⟩) (fun _ h => nomatch h) dX0_waysTo_28 hlk
    · skip
      refine lv_aload_n SS.1 SS.2.1 dX0_waysTo_20 rfl (lv_at hl 2 rfl) ?_
      refine lv_iload SS.1 SS.2.1 dX0_waysTo_21 (lv_at hl 0 rfl) ?_
      refine j_lald SS hG hP 67 (n := 6561) (f := (u.2.2.1 0)) rfl (z := z_3) (by omega) (by omega) dX0_waysTo_23 ?_
      refine lv_goto (tgt := 28) SS.1 SS.2.1 dX0_waysTo_24 (by decide) ?_
      exact W.lret SS.1 SS.2.1 hr (fun t0 ht hW => ⟨_, rfl, (trivial), ht⟩) (fun _ h => nomatch h) dX0_waysTo_28 hlk

set_option maxHeartbeats 4000000 in
set_option maxRecDepth 100000 in
theorem c_X0_waysTo_1 (l : Launch) (D : JD) (q : Nat → Nat) (u : CS) (x : Int) (y : Int) (p0 : (-40 ≤ u.2.2.2 13 ∧ u.2.2.2 13 ≤ 40) ∧ (-40 ≤ u.2.2.2 14 ∧ u.2.2.2 14 ≤ 40) ∧ (-79 ≤ u.2.2.2 15 ∧ u.2.2.2 15 ≤ 81) ∧ (-79 ≤ u.2.2.2 16 ∧ u.2.2.2 16 ≤ 81)) (p1 : -2000000 ≤ x ∧ x ≤ 2000000) (p2 : -2000000 ≤ y ∧ y ≤ 2000000) : Met l yX0_waysTo (jw yX0_waysTo cX0_waysTo 5 (some .long)) (jr 1 25) (jP [.ref (q 5), .ref (q 68), .int (J x), .int (J y)] D (fun H => va_P D.1 j_cl (cW D q u) H)) (vp_Sl (fun x9 => True)) 0 0 (fun _ => False) := by
  refine Met.ofW (cc := cX0_waysTo) (maxL := 5) (ret := (some .long)) (by decide) rfl ?_
  intro pr en st mi args below meth co s₁ B hml hv
  obtain ⟨rfl, hG, hP⟩ := hv
  have hr := B.returns
  have hlk := B.notSynchronized
  have SS : jS pr mi co cX0_waysTo 5 st _ RX0 := ⟨B.exec, B.bytes, hml, findClass_of_methodNamed B.named, fun w hw => atoms_spec (ws := (jw yX0_waysTo cX0_waysTo 5 (some .long))) B.pre w (List.mem_cons_of_mem _ hw)⟩
  have hl := lv_entry ([.ref (q 5), .ref (q 68), .int (J x), .int (J y)]) (n := 5) (Nat.le_of_ble_eq_true rfl)
  rw [lg_entry_eq]
  generalize (lg_sl ([.ref (q 5), .ref (q 68), .int (J x), .int (J y)]) ++ List.replicate (5 - (lg_sl ([.ref (q 5), .ref (q 68), .int (J x), .int (J y)])).length) Slot.unset).toArray = ls at hl ⊢
  have hl : lv_has ls 5 [(0, .ref (q 5)), (1, .ref (q 68)), (2, .int (J x)), (3, .int (J y))] := hl
  refine lv_aload_n SS.1 SS.2.1 dX0_waysTo_0 rfl (lv_at hl 0 rfl) ?_
  refine lv_iload_n SS.1 SS.2.1 dX0_waysTo_1 rfl (lv_at hl 2 rfl) ?_
  refine lv_iload_n SS.1 SS.2.1 dX0_waysTo_2 rfl (lv_at hl 3 rfl) ?_
  refine j_vRi SS (As := [.int (J x), .int (J y)]) (rest := []) (c_X0_cell l D q u  x y (show (-40 ≤ (u.2.2.2 13) ∧ (u.2.2.2 13) ≤ 40) ∧ (-40 ≤ (u.2.2.2 14) ∧ (u.2.2.2 14) ≤ 40) ∧ (-79 ≤ (u.2.2.2 15) ∧ (u.2.2.2 15) ≤ 81) ∧ (-79 ≤ (u.2.2.2 16) ∧ (u.2.2.2 16) ≤ 81) from (p0)) (show -2000000 ≤ x ∧ x ≤ 2000000 from (p1)) (show -2000000 ≤ y ∧ y ≤ 2000000 from (p2))) mf_X0_cell kw_717 hG hP hP (ci := 0) (q0 := 5) rfl rfl rfl rfl hl.1 ⟨⟨Nat.le_of_ble_eq_true rfl, Nat.le_of_ble_eq_true rfl⟩, Nat.le_of_ble_eq_true rfl, Nat.le_refl _, Nat.le_refl _⟩ rfl dX0_waysTo_3 (fun z_3 h_3 => ?_)
  have h_3 : -1 ≤ z_3 ∧ z_3 ≤ 6560 := h_3
  refine lv_istore (lv' := [(4, .int (J z_3)), (0, .ref (q 5)), (1, .ref (q 68)), (2, .int (J x)), (3, .int (J y))]) SS.1 SS.2.1 dX0_waysTo_6 hl (by decide) rfl (fun ls hl => ?_)
  refine lv_iload SS.1 SS.2.1 dX0_waysTo_8 (lv_at hl 0 rfl) ?_
  refine j_if_lt SS (tgt := 27) (x := z_3) dX0_waysTo_10 (by decide) (by omega) (fun c_10 => ?_) (fun c_10 => ?_)
  · skip
    refine lv_lconst (v := 0) SS.1 SS.2.1 dX0_waysTo_27 (by decide +kernel) ?_
    exact W.lret SS.1 SS.2.1 hr (fun t0 ht hW => ⟨_, rfl, (trivial), ht⟩) (fun _ h => nomatch h) dX0_waysTo_28 hlk
  · skip
    refine lv_iload SS.1 SS.2.1 dX0_waysTo_13 (lv_at hl 0 rfl) ?_
    refine lv_aload_n SS.1 SS.2.1 dX0_waysTo_15 rfl (lv_at hl 2 rfl) ?_
    refine va_alen SS.1 SS.2.1 hG.1 hP 68 1 rfl rfl (v := J (6561 : Int)) (by first | rfl | exact J_nat _) dX0_waysTo_16 ?_
    refine j_icmp_ge SS (tgt := 27) (x := z_3) (y := 6561) dX0_waysTo_17 (by decide) (by omega) (by decide) (fun c_17 => ?_) (fun c_17 => ?_)
    · skip
      refine lv_lconst (v := 0) SS.1 SS.2.1 dX0_waysTo_27 (by decide +kernel) ?_
      exact W.lret SS.1 SS.2.1 hr (fun t0 ht hW => ⟨_, rfl, (trivial), ht⟩) (fun _ h => nomatch h) dX0_waysTo_28 hlk
    · skip
      refine lv_aload_n SS.1 SS.2.1 dX0_waysTo_20 rfl (lv_at hl 2 rfl) ?_
      refine lv_iload SS.1 SS.2.1 dX0_waysTo_21 (lv_at hl 0 rfl) ?_
      refine j_lald SS hG hP 68 (n := 6561) (f := (u.2.2.1 1)) rfl (z := z_3) (by omega) (by omega) dX0_waysTo_23 ?_
      refine lv_goto (tgt := 28) SS.1 SS.2.1 dX0_waysTo_24 (by decide) ?_
      exact W.lret SS.1 SS.2.1 hr (fun t0 ht hW => ⟨_, rfl, (trivial), ht⟩) (fun _ h => nomatch h) dX0_waysTo_28 hlk

set_option maxHeartbeats 4000000 in
set_option maxRecDepth 100000 in
theorem c_X0_spread (l : Launch) (D : JD) (q : Nat → Nat) (u : CS) (A : Nat → Prop) (hD : va_D A (cW D q u)) (p0 : (-40 ≤ u.2.2.2 13 ∧ u.2.2.2 13 ≤ 40) ∧ (-40 ≤ u.2.2.2 14 ∧ u.2.2.2 14 ≤ 40) ∧ (-79 ≤ u.2.2.2 15 ∧ u.2.2.2 15 ≤ 81) ∧ (-79 ≤ u.2.2.2 16 ∧ u.2.2.2 16 ≤ 81)) (p1 : (0 ≤ u.2.2.2 17 ∧ u.2.2.2 17 ≤ 80) ∧ (-80 ≤ u.2.2.2 18 ∧ u.2.2.2 18 ≤ 80) ∧ (-80 ≤ u.2.2.2 19 ∧ u.2.2.2 19 ≤ 80)) : Met l yX0_spread (jw yX0_spread cX0_spread 7 none) (jr 2 49) (jP [.ref (q 5)] D (fun H => va_P D.1 j_cl (cW D q u) H)) (jWv (fun u' => ∃ n1 : Nat → Int64, u' = (sL u 1 n1) ∧ (True)) (fun u' H => va_P D.1 j_cl (cW D q u') H) A) 0 0 A := by
  refine Met.ofW (cc := cX0_spread) (maxL := 7) (ret := none) (by decide) rfl ?_
  intro pr en st mi args below meth co s₁ B hml hv
  obtain ⟨rfl, hG, hP⟩ := hv
  have hr := B.returns
  have hlk := B.notSynchronized
  have SS : jS pr mi co cX0_spread 7 st _ RX0 := ⟨B.exec, B.bytes, hml, findClass_of_methodNamed B.named, fun w hw => atoms_spec (ws := (jw yX0_spread cX0_spread 7 none)) B.pre w (List.mem_cons_of_mem _ hw)⟩
  have hl := lv_entry ([.ref (q 5)]) (n := 7) (Nat.le_of_ble_eq_true rfl)
  rw [lg_entry_eq]
  generalize (lg_sl ([.ref (q 5)]) ++ List.replicate (7 - (lg_sl ([.ref (q 5)])).length) Slot.unset).toArray = ls at hl ⊢
  have hl : lv_has ls 7 [(0, .ref (q 5))] := hl
  have hS : va_S A st.heap st.heap [] := va_S.rf
  have L_27 : ∀ (rs : Int) (H : Heap) (locs : List Loc) (hP : va_P D.1 j_cl (cW D q u) H) (hS : va_S A st.heap H locs) (ls : Array Slot) (hl : lv_has ls 7 [(0, .ref (q 5)), (1, .int (J rs))]) (i27_0 : 0 ≤ rs ∧ rs ≤ 1), W pr l en (headSpec (jw yX0_spread cX0_spread 7 none) (jr 2 49)).room st mi (([.ref (q 5)] : List Value).toArray) below meth co H locs 0 0 (MQ below (jWv (fun u' => ∃ n1 : Nat → Int64, u' = (sL u 1 n1) ∧ (True)) (fun u' H => va_P D.1 j_cl (cW D q u') H) A) (([.ref (q 5)] : List Value).toArray) st 0 0 A) (F0 mi 27 ls []) := by
    intro rs  H locs hP hS ls hl i27_0
    refine j_iconst SS dX0_spread_27 ?_
    refine lv_istore_n (lv' := [(2, .int (J 0)), (0, .ref (q 5)), (1, .int (J rs))]) SS.1 SS.2.1 dX0_spread_28 rfl hl (by decide) rfl (fun ls hl => ?_)
    have L_29 : ∀ (nn : Nat) (i : Int) (n2 : Nat → Int64) (H : Heap) (locs : List Loc) (hP : va_P D.1 j_cl (cW D q (sL u 1 n2)) H) (hS : va_S A st.heap H locs) (ls : Array Slot) (hl : lv_has ls 7 [(0, .ref (q 5)), (1, .int (J rs)), (2, .int (J i))]) (i29_0 : 0 ≤ i ∧ i ≤ 81), ((81 : Int) - i).toNat < nn → W pr l en (headSpec (jw yX0_spread cX0_spread 7 none) (jr 2 49)).room st mi (([.ref (q 5)] : List Value).toArray) below meth co H locs 0 0 (MQ below (jWv (fun u' => ∃ n1 : Nat → Int64, u' = (sL u 1 n1) ∧ (True)) (fun u' H => va_P D.1 j_cl (cW D q u') H) A) (([.ref (q 5)] : List Value).toArray) st 0 0 A) (F0 mi 29 ls []) := by
      intro nn
      induction nn with
      | zero => intros; omega
      | succ nn ih_29 =>
        intro i n2 H locs hP hS ls hl i29_0 hm
        refine lv_iload_n SS.1 SS.2.1 dX0_spread_29 rfl (lv_at hl 2 rfl) ?_
        refine lv_aload_n SS.1 SS.2.1 dX0_spread_30 rfl (lv_at hl 0 rfl) ?_
        refine j_get SS hG hP 5 (v := .int (J (u.2.2.2 15))) (C := RX0) (T := TX0) (N := 14) rfl rfl inX0 9 (by decide) (ref := "GridPolygons$Choices") kw_253 rfl rfl dX0_spread_31 ?_
        refine j_icmp_ge SS (tgt := 194) (x := i) (y := (u.2.2.2 15)) dX0_spread_34 (by decide) (by omega) (by omega) (fun c_34 => ?_) (fun c_34 => ?_)
        · skip
          exact W.vret SS.1 SS.2.1 hr (fun t0 ht hW => ⟨⟨(sL u 1 n2), rfl, (⟨n2, rfl, trivial⟩), by show va_P D.1 j_cl (cW D q (sL u 1 n2)) t0.heap; rw [ht]; first | exact hP | (simp only [sC_id, sX_id, sY_id, sH_id, sT_id, sV_id]; exact hP)⟩, hS.F ht⟩) hS.2.2 dX0_spread_194 hlk
        · skip
          have L_62 : ∀ (nn : Nat) (x : Int) (j : Int) (n3 : Nat → Int64) (H : Heap) (locs : List Loc) (hP : va_P D.1 j_cl (cW D q (sL u 1 n3)) H) (hS : va_S A st.heap H locs) (ls : Array Slot) (hl : lv_has ls 7 [(0, .ref (q 5)), (1, .int (J rs)), (2, .int (J i)), (3, .int (J x)), (4, .int (J j))]) (i62_0 : -400 ≤ x ∧ x ≤ 400) (i62_1 : 0 ≤ j ∧ j ≤ 81), ((81 : Int) - j).toNat < nn → W pr l en (headSpec (jw yX0_spread cX0_spread 7 none) (jr 2 49)).room st mi (([.ref (q 5)] : List Value).toArray) below meth co H locs 0 0 (MQ below (jWv (fun u' => ∃ n1 : Nat → Int64, u' = (sL u 1 n1) ∧ (True)) (fun u' H => va_P D.1 j_cl (cW D q u') H) A) (([.ref (q 5)] : List Value).toArray) st 0 0 A) (F0 mi 62 ls []) := by
            intro nn
            induction nn with
            | zero => intros; omega
            | succ nn ih_62 =>
              intro x j n3 H locs hP hS ls hl i62_0 i62_1 hm
              refine lv_iload SS.1 SS.2.1 dX0_spread_62 (lv_at hl 4 rfl) ?_
              refine lv_aload_n SS.1 SS.2.1 dX0_spread_64 rfl (lv_at hl 0 rfl) ?_
              refine j_get SS hG hP 5 (v := .int (J (u.2.2.2 16))) (C := RX0) (T := TX0) (N := 14) rfl rfl inX0 10 (by decide) (ref := "GridPolygons$Choices") kw_254 rfl rfl dX0_spread_65 ?_
              refine j_icmp_ge SS (tgt := 188) (x := j) (y := (u.2.2.2 16)) dX0_spread_68 (by decide) (by omega) (by omega) (fun c_68 => ?_) (fun c_68 => ?_)
              · skip
                refine lv_iinc (v := J (i + 1)) (lv' := [(2, .int (J (i + 1))), (0, .ref (q 5)), (1, .int (J rs)), (3, .int (J x)), (4, .int (J j))]) SS.1 SS.2.1 dX0_spread_188 hl (k := 2) rfl (J_add _ _) (by decide) rfl (fun ls hl => ?_)
                refine lv_goto (tgt := 29) SS.1 SS.2.1 dX0_spread_191 (by decide) ?_
                exact ih_29 (i + 1) n3 _ _ hP hS ls (lv_sub hl [1, 2, 0] rfl) (by omega) (by omega)
              · skip
                refine lv_aload_n SS.1 SS.2.1 dX0_spread_71 rfl (lv_at hl 0 rfl) ?_
                refine j_get SS hG hP 5 (v := .int (J (u.2.2.2 14))) (C := RX0) (T := TX0) (N := 14) rfl rfl inX0 8 (by decide) (ref := "GridPolygons$Choices") kw_252 rfl rfl dX0_spread_72 ?_
                refine lv_iload_n SS.1 SS.2.1 dX0_spread_75 rfl (lv_at hl 1 rfl) ?_
                refine j_if_eq SS (tgt := 84) (x := rs) dX0_spread_76 (by decide) (by omega) (fun c_76 => ?_) (fun c_76 => ?_)
                · skip
                  refine lv_aload_n SS.1 SS.2.1 dX0_spread_84 rfl (lv_at hl 0 rfl) ?_
                  refine j_get SS hG hP 5 (v := .int (J (u.2.2.2 16))) (C := RX0) (T := TX0) (N := 14) rfl rfl inX0 10 (by decide) (ref := "GridPolygons$Choices") kw_254 rfl rfl dX0_spread_85 ?_
                  refine j_iconst SS dX0_spread_88 ?_
                  refine j_isub SS (x := (u.2.2.2 16)) (y := 1) dX0_spread_89 ?_
                  refine lv_iload SS.1 SS.2.1 dX0_spread_90 (lv_at hl 4 rfl) ?_
                  refine j_isub SS (x := ((u.2.2.2 16) - 1)) (y := j) dX0_spread_92 ?_
                  refine j_iadd SS (x := (u.2.2.2 14)) (y := (((u.2.2.2 16) - 1) - j)) dX0_spread_93 ?_
                  refine lv_istore (lv' := [(5, .int (J ((u.2.2.2 14) + (((u.2.2.2 16) - 1) - j)))), (0, .ref (q 5)), (1, .int (J rs)), (2, .int (J i)), (3, .int (J x)), (4, .int (J j))]) SS.1 SS.2.1 dX0_spread_94 hl (by decide) rfl (fun ls hl => ?_)
                  refine lv_aload_n SS.1 SS.2.1 dX0_spread_96 rfl (lv_at hl 1 rfl) ?_
                  refine lv_iload_n SS.1 SS.2.1 dX0_spread_97 rfl (lv_at hl 4 rfl) ?_
                  refine lv_iload SS.1 SS.2.1 dX0_spread_98 (lv_at hl 0 rfl) ?_
                  refine j_vRi SS (As := [.int (J x), .int (J ((u.2.2.2 14) + (((u.2.2.2 16) - 1) - j)))]) (rest := []) (c_X0_cell l D q (sL u 1 n3)  x ((u.2.2.2 14) + (((u.2.2.2 16) - 1) - j)) (show (-40 ≤ (u.2.2.2 13) ∧ (u.2.2.2 13) ≤ 40) ∧ (-40 ≤ (u.2.2.2 14) ∧ (u.2.2.2 14) ≤ 40) ∧ (-79 ≤ (u.2.2.2 15) ∧ (u.2.2.2 15) ≤ 81) ∧ (-79 ≤ (u.2.2.2 16) ∧ (u.2.2.2 16) ≤ 81) from (by omega)) (show -2000000 ≤ x ∧ x ≤ 2000000 from (by omega)) (show -2000000 ≤ ((u.2.2.2 14) + (((u.2.2.2 16) - 1) - j)) ∧ ((u.2.2.2 14) + (((u.2.2.2 16) - 1) - j)) ≤ 2000000 from (by omega))) mf_X0_cell kw_717 hG hP hP (ci := 0) (q0 := 5) rfl rfl rfl rfl hl.1 ⟨⟨Nat.le_of_ble_eq_true rfl, Nat.le_of_ble_eq_true rfl⟩, Nat.le_of_ble_eq_true rfl, Nat.le_refl _, Nat.le_refl _⟩ rfl dX0_spread_100 (fun z_100 h_100 => ?_)
                  have h_100 : -1 ≤ z_100 ∧ z_100 ≤ 6560 := h_100
                  refine lv_istore (lv' := [(6, .int (J z_100)), (5, .int (J ((u.2.2.2 14) + (((u.2.2.2 16) - 1) - j)))), (0, .ref (q 5)), (1, .int (J rs)), (2, .int (J i)), (3, .int (J x)), (4, .int (J j))]) SS.1 SS.2.1 dX0_spread_103 hl (by decide) rfl (fun ls hl => ?_)
                  refine lv_iload SS.1 SS.2.1 dX0_spread_105 (lv_at hl 0 rfl) ?_
                  refine j_if_lt SS (tgt := 182) (x := z_100) dX0_spread_107 (by decide) (by omega) (fun c_107 => ?_) (fun c_107 => ?_)
                  · skip
                    refine lv_iinc (v := J (j + 1)) (lv' := [(4, .int (J (j + 1))), (6, .int (J z_100)), (5, .int (J ((u.2.2.2 14) + (((u.2.2.2 16) - 1) - j)))), (0, .ref (q 5)), (1, .int (J rs)), (2, .int (J i)), (3, .int (J x))]) SS.1 SS.2.1 dX0_spread_182 hl (k := 6) rfl (J_add _ _) (by decide) rfl (fun ls hl => ?_)
                    refine lv_goto (tgt := 62) SS.1 SS.2.1 dX0_spread_185 (by decide) ?_
                    exact ih_62 x (j + 1) n3 _ _ hP hS ls (lv_sub hl [3, 4, 5, 6, 0] rfl) (by omega) (by omega) (by omega)
                  · skip
                    refine lv_aload_n SS.1 SS.2.1 dX0_spread_110 rfl (lv_at hl 2 rfl) ?_
                    refine j_get SS hG hP 5 (v := .ref (q 68)) (C := RX0) (T := TX0) (N := 14) rfl rfl inX0 1 (by decide) (ref := "GridPolygons$Choices") kw_244 rfl rfl dX0_spread_111 ?_
                    refine lv_iload SS.1 SS.2.1 dX0_spread_114 (lv_at hl 0 rfl) ?_
                    refine lv_aload_n SS.1 SS.2.1 dX0_spread_116 rfl (lv_at hl 2 rfl) ?_
                    refine j_get SS hG hP 5 (v := .ref (q 67)) (C := RX0) (T := TX0) (N := 14) rfl rfl inX0 0 (by decide) (ref := "GridPolygons$Choices") kw_243 rfl rfl dX0_spread_117 ?_
                    refine lv_iload SS.1 SS.2.1 dX0_spread_120 (lv_at hl 0 rfl) ?_
                    refine j_lald SS hG hP 67 (n := 6561) (f := (u.2.2.1 0)) rfl (z := z_100) (by omega) (by omega) dX0_spread_122 ?_
                    refine lv_aload_n SS.1 SS.2.1 dX0_spread_123 rfl (lv_at hl 2 rfl) ?_
                    refine lv_aload_n SS.1 SS.2.1 dX0_spread_124 rfl (lv_at hl 2 rfl) ?_
                    refine j_get SS hG hP 5 (v := .ref (q 68)) (C := RX0) (T := TX0) (N := 14) rfl rfl inX0 1 (by decide) (ref := "GridPolygons$Choices") kw_244 rfl rfl dX0_spread_125 ?_
                    refine lv_iload_n SS.1 SS.2.1 dX0_spread_128 rfl (lv_at hl 5 rfl) ?_
                    refine lv_aload_n SS.1 SS.2.1 dX0_spread_129 rfl (lv_at hl 2 rfl) ?_
                    refine j_get SS hG hP 5 (v := .int (J (u.2.2.2 18))) (C := RX0) (T := TX0) (N := 14) rfl rfl inX0 12 (by decide) (ref := "GridPolygons$Choices") kw_256 rfl rfl dX0_spread_130 ?_
                    refine j_isub SS (x := x) (y := (u.2.2.2 18)) dX0_spread_133 ?_
                    refine lv_iload SS.1 SS.2.1 dX0_spread_134 (lv_at hl 1 rfl) ?_
                    refine lv_aload_n SS.1 SS.2.1 dX0_spread_136 rfl (lv_at hl 2 rfl) ?_
                    refine j_get SS hG hP 5 (v := .int (J (u.2.2.2 19))) (C := RX0) (T := TX0) (N := 14) rfl rfl inX0 13 (by decide) (ref := "GridPolygons$Choices") kw_257 rfl rfl dX0_spread_137 ?_
                    refine j_isub SS (x := ((u.2.2.2 14) + (((u.2.2.2 16) - 1) - j))) (y := (u.2.2.2 19)) dX0_spread_140 ?_
                    refine j_vRl SS (As := [.ref (q 68), .int (J (x - (u.2.2.2 18))), .int (J (((u.2.2.2 14) + (((u.2.2.2 16) - 1) - j)) - (u.2.2.2 19)))]) (rest := [.long ((u.2.2.1 0) (z_100).toNat), .int (J z_100), .ref (q 68)]) (c_X0_waysTo_1 l D q (sL u 1 n3)  (x - (u.2.2.2 18)) (((u.2.2.2 14) + (((u.2.2.2 16) - 1) - j)) - (u.2.2.2 19)) (show (-40 ≤ (u.2.2.2 13) ∧ (u.2.2.2 13) ≤ 40) ∧ (-40 ≤ (u.2.2.2 14) ∧ (u.2.2.2 14) ≤ 40) ∧ (-79 ≤ (u.2.2.2 15) ∧ (u.2.2.2 15) ≤ 81) ∧ (-79 ≤ (u.2.2.2 16) ∧ (u.2.2.2 16) ≤ 81) from (by omega)) (show -2000000 ≤ (x - (u.2.2.2 18)) ∧ (x - (u.2.2.2 18)) ≤ 2000000 from (by omega)) (show -2000000 ≤ (((u.2.2.2 14) + (((u.2.2.2 16) - 1) - j)) - (u.2.2.2 19)) ∧ (((u.2.2.2 14) + (((u.2.2.2 16) - 1) - j)) - (u.2.2.2 19)) ≤ 2000000 from (by omega))) mf_X0_waysTo kw_732 hG hP hP (ci := 0) (q0 := 5) rfl rfl rfl rfl hl.1 ⟨⟨Nat.le_of_ble_eq_true rfl, Nat.le_of_ble_eq_true rfl⟩, Nat.le_of_ble_eq_true rfl, Nat.le_refl _, Nat.le_refl _⟩ rfl dX0_spread_141 (fun x_141 h_141 => ?_)
                    refine lv_ladd SS.1 SS.2.1 dX0_spread_144 ?_
                    refine lv_aload_n SS.1 SS.2.1 dX0_spread_145 rfl (lv_at hl 2 rfl) ?_
                    refine lv_aload_n SS.1 SS.2.1 dX0_spread_146 rfl (lv_at hl 2 rfl) ?_
                    refine j_get SS hG hP 5 (v := .ref (q 67)) (C := RX0) (T := TX0) (N := 14) rfl rfl inX0 0 (by decide) (ref := "GridPolygons$Choices") kw_243 rfl rfl dX0_spread_147 ?_
                    refine lv_iload_n SS.1 SS.2.1 dX0_spread_150 rfl (lv_at hl 5 rfl) ?_
                    refine lv_aload_n SS.1 SS.2.1 dX0_spread_151 rfl (lv_at hl 2 rfl) ?_
                    refine j_get SS hG hP 5 (v := .int (J (u.2.2.2 17))) (C := RX0) (T := TX0) (N := 14) rfl rfl inX0 11 (by decide) (ref := "GridPolygons$Choices") kw_255 rfl rfl dX0_spread_152 ?_
                    refine j_iconst SS dX0_spread_155 ?_
                    refine j_iadd SS (x := (u.2.2.2 17)) (y := 1) dX0_spread_156 ?_
                    refine lv_aload_n SS.1 SS.2.1 dX0_spread_157 rfl (lv_at hl 2 rfl) ?_
                    refine j_get SS hG hP 5 (v := .int (J (u.2.2.2 18))) (C := RX0) (T := TX0) (N := 14) rfl rfl inX0 12 (by decide) (ref := "GridPolygons$Choices") kw_256 rfl rfl dX0_spread_158 ?_
                    refine j_imul SS (x := ((u.2.2.2 17) + 1)) (y := (u.2.2.2 18)) dX0_spread_161 ?_
                    refine j_isub SS (x := x) (y := (((u.2.2.2 17) + 1) * (u.2.2.2 18))) dX0_spread_162 ?_
                    refine lv_iload SS.1 SS.2.1 dX0_spread_163 (lv_at hl 1 rfl) ?_
                    refine lv_aload_n SS.1 SS.2.1 dX0_spread_165 rfl (lv_at hl 2 rfl) ?_
                    refine j_get SS hG hP 5 (v := .int (J (u.2.2.2 17))) (C := RX0) (T := TX0) (N := 14) rfl rfl inX0 11 (by decide) (ref := "GridPolygons$Choices") kw_255 rfl rfl dX0_spread_166 ?_
                    refine j_iconst SS dX0_spread_169 ?_
                    refine j_iadd SS (x := (u.2.2.2 17)) (y := 1) dX0_spread_170 ?_
                    refine lv_aload_n SS.1 SS.2.1 dX0_spread_171 rfl (lv_at hl 2 rfl) ?_
                    refine j_get SS hG hP 5 (v := .int (J (u.2.2.2 19))) (C := RX0) (T := TX0) (N := 14) rfl rfl inX0 13 (by decide) (ref := "GridPolygons$Choices") kw_257 rfl rfl dX0_spread_172 ?_
                    refine j_imul SS (x := ((u.2.2.2 17) + 1)) (y := (u.2.2.2 19)) dX0_spread_175 ?_
                    refine j_isub SS (x := ((u.2.2.2 14) + (((u.2.2.2 16) - 1) - j))) (y := (((u.2.2.2 17) + 1) * (u.2.2.2 19))) dX0_spread_176 ?_
                    have m1 := mulb (A := 81) (B := 80) (a := u.2.2.2 17 + 1) (b := u.2.2.2 18) (by omega) (by omega)
                    have m2 := mulb (A := 81) (B := 80) (a := u.2.2.2 17 + 1) (b := u.2.2.2 19) (by omega) (by omega)
                    refine j_vRl SS (As := [.ref (q 67), .int (J (x - (((u.2.2.2 17) + 1) * (u.2.2.2 18)))), .int (J (((u.2.2.2 14) + (((u.2.2.2 16) - 1) - j)) - (((u.2.2.2 17) + 1) * (u.2.2.2 19))))]) (rest := [.long (((u.2.2.1 0) (z_100).toNat) + x_141), .int (J z_100), .ref (q 68)]) (c_X0_waysTo_0 l D q (sL u 1 n3)  (x - (((u.2.2.2 17) + 1) * (u.2.2.2 18))) (((u.2.2.2 14) + (((u.2.2.2 16) - 1) - j)) - (((u.2.2.2 17) + 1) * (u.2.2.2 19))) (show (-40 ≤ (u.2.2.2 13) ∧ (u.2.2.2 13) ≤ 40) ∧ (-40 ≤ (u.2.2.2 14) ∧ (u.2.2.2 14) ≤ 40) ∧ (-79 ≤ (u.2.2.2 15) ∧ (u.2.2.2 15) ≤ 81) ∧ (-79 ≤ (u.2.2.2 16) ∧ (u.2.2.2 16) ≤ 81) from (by omega)) (show -2000000 ≤ (x - (((u.2.2.2 17) + 1) * (u.2.2.2 18))) ∧ (x - (((u.2.2.2 17) + 1) * (u.2.2.2 18))) ≤ 2000000 from (by omega)) (show -2000000 ≤ (((u.2.2.2 14) + (((u.2.2.2 16) - 1) - j)) - (((u.2.2.2 17) + 1) * (u.2.2.2 19))) ∧ (((u.2.2.2 14) + (((u.2.2.2 16) - 1) - j)) - (((u.2.2.2 17) + 1) * (u.2.2.2 19))) ≤ 2000000 from (by omega))) mf_X0_waysTo kw_732 hG hP hP (ci := 0) (q0 := 5) rfl rfl rfl rfl hl.1 ⟨⟨Nat.le_of_ble_eq_true rfl, Nat.le_of_ble_eq_true rfl⟩, Nat.le_of_ble_eq_true rfl, Nat.le_refl _, Nat.le_refl _⟩ rfl dX0_spread_177 (fun x_177 h_177 => ?_)
                    refine lv_lsub SS.1 SS.2.1 dX0_spread_180 ?_
                    refine j_last SS hG hP (cW_D hD) hS 68 (n := 6561) (f := n3) rfl (z := z_100) (v := ((((u.2.2.1 0) (z_100).toNat) + x_141) - x_177)) (by omega) (by omega) dX0_spread_181 (ws' := (cW D q (sL u 1 (vp_updL n3 (z_100).toNat ((((u.2.2.1 0) (z_100).toNat) + x_141) - x_177))))) rfl (fun H locs hP hS => ?_)
                    refine lv_iinc (v := J (j + 1)) (lv' := [(4, .int (J (j + 1))), (6, .int (J z_100)), (5, .int (J ((u.2.2.2 14) + (((u.2.2.2 16) - 1) - j)))), (0, .ref (q 5)), (1, .int (J rs)), (2, .int (J i)), (3, .int (J x))]) SS.1 SS.2.1 dX0_spread_182 hl (k := 6) rfl (J_add _ _) (by decide) rfl (fun ls hl => ?_)
                    refine lv_goto (tgt := 62) SS.1 SS.2.1 dX0_spread_185 (by decide) ?_
                    exact ih_62 x (j + 1) (vp_updL n3 (z_100).toNat ((((u.2.2.1 0) (z_100).toNat) + x_141) - x_177)) _ _ hP hS ls (lv_sub hl [3, 4, 5, 6, 0] rfl) (by omega) (by omega) (by omega)
                · skip
                  refine lv_iload SS.1 SS.2.1 dX0_spread_79 (lv_at hl 4 rfl) ?_
                  refine lv_goto (tgt := 93) SS.1 SS.2.1 dX0_spread_81 (by decide) ?_
                  refine j_iadd SS (x := (u.2.2.2 14)) (y := j) dX0_spread_93 ?_
                  refine lv_istore (lv' := [(5, .int (J ((u.2.2.2 14) + j))), (0, .ref (q 5)), (1, .int (J rs)), (2, .int (J i)), (3, .int (J x)), (4, .int (J j))]) SS.1 SS.2.1 dX0_spread_94 hl (by decide) rfl (fun ls hl => ?_)
                  refine lv_aload_n SS.1 SS.2.1 dX0_spread_96 rfl (lv_at hl 1 rfl) ?_
                  refine lv_iload_n SS.1 SS.2.1 dX0_spread_97 rfl (lv_at hl 4 rfl) ?_
                  refine lv_iload SS.1 SS.2.1 dX0_spread_98 (lv_at hl 0 rfl) ?_
                  refine j_vRi SS (As := [.int (J x), .int (J ((u.2.2.2 14) + j))]) (rest := []) (c_X0_cell l D q (sL u 1 n3)  x ((u.2.2.2 14) + j) (show (-40 ≤ (u.2.2.2 13) ∧ (u.2.2.2 13) ≤ 40) ∧ (-40 ≤ (u.2.2.2 14) ∧ (u.2.2.2 14) ≤ 40) ∧ (-79 ≤ (u.2.2.2 15) ∧ (u.2.2.2 15) ≤ 81) ∧ (-79 ≤ (u.2.2.2 16) ∧ (u.2.2.2 16) ≤ 81) from (by omega)) (show -2000000 ≤ x ∧ x ≤ 2000000 from (by omega)) (show -2000000 ≤ ((u.2.2.2 14) + j) ∧ ((u.2.2.2 14) + j) ≤ 2000000 from (by omega))) mf_X0_cell kw_717 hG hP hP (ci := 0) (q0 := 5) rfl rfl rfl rfl hl.1 ⟨⟨Nat.le_of_ble_eq_true rfl, Nat.le_of_ble_eq_true rfl⟩, Nat.le_of_ble_eq_true rfl, Nat.le_refl _, Nat.le_refl _⟩ rfl dX0_spread_100 (fun z_100 h_100 => ?_)
                  have h_100 : -1 ≤ z_100 ∧ z_100 ≤ 6560 := h_100
                  refine lv_istore (lv' := [(6, .int (J z_100)), (5, .int (J ((u.2.2.2 14) + j))), (0, .ref (q 5)), (1, .int (J rs)), (2, .int (J i)), (3, .int (J x)), (4, .int (J j))]) SS.1 SS.2.1 dX0_spread_103 hl (by decide) rfl (fun ls hl => ?_)
                  refine lv_iload SS.1 SS.2.1 dX0_spread_105 (lv_at hl 0 rfl) ?_
                  refine j_if_lt SS (tgt := 182) (x := z_100) dX0_spread_107 (by decide) (by omega) (fun c_107 => ?_) (fun c_107 => ?_)
                  · skip
                    refine lv_iinc (v := J (j + 1)) (lv' := [(4, .int (J (j + 1))), (6, .int (J z_100)), (5, .int (J ((u.2.2.2 14) + j))), (0, .ref (q 5)), (1, .int (J rs)), (2, .int (J i)), (3, .int (J x))]) SS.1 SS.2.1 dX0_spread_182 hl (k := 6) rfl (J_add _ _) (by decide) rfl (fun ls hl => ?_)
                    refine lv_goto (tgt := 62) SS.1 SS.2.1 dX0_spread_185 (by decide) ?_
                    exact ih_62 x (j + 1) n3 _ _ hP hS ls (lv_sub hl [3, 4, 5, 6, 0] rfl) (by omega) (by omega) (by omega)
                  · skip
                    refine lv_aload_n SS.1 SS.2.1 dX0_spread_110 rfl (lv_at hl 2 rfl) ?_
                    refine j_get SS hG hP 5 (v := .ref (q 68)) (C := RX0) (T := TX0) (N := 14) rfl rfl inX0 1 (by decide) (ref := "GridPolygons$Choices") kw_244 rfl rfl dX0_spread_111 ?_
                    refine lv_iload SS.1 SS.2.1 dX0_spread_114 (lv_at hl 0 rfl) ?_
                    refine lv_aload_n SS.1 SS.2.1 dX0_spread_116 rfl (lv_at hl 2 rfl) ?_
                    refine j_get SS hG hP 5 (v := .ref (q 67)) (C := RX0) (T := TX0) (N := 14) rfl rfl inX0 0 (by decide) (ref := "GridPolygons$Choices") kw_243 rfl rfl dX0_spread_117 ?_
                    refine lv_iload SS.1 SS.2.1 dX0_spread_120 (lv_at hl 0 rfl) ?_
                    refine j_lald SS hG hP 67 (n := 6561) (f := (u.2.2.1 0)) rfl (z := z_100) (by omega) (by omega) dX0_spread_122 ?_
                    refine lv_aload_n SS.1 SS.2.1 dX0_spread_123 rfl (lv_at hl 2 rfl) ?_
                    refine lv_aload_n SS.1 SS.2.1 dX0_spread_124 rfl (lv_at hl 2 rfl) ?_
                    refine j_get SS hG hP 5 (v := .ref (q 68)) (C := RX0) (T := TX0) (N := 14) rfl rfl inX0 1 (by decide) (ref := "GridPolygons$Choices") kw_244 rfl rfl dX0_spread_125 ?_
                    refine lv_iload_n SS.1 SS.2.1 dX0_spread_128 rfl (lv_at hl 5 rfl) ?_
                    refine lv_aload_n SS.1 SS.2.1 dX0_spread_129 rfl (lv_at hl 2 rfl) ?_
                    refine j_get SS hG hP 5 (v := .int (J (u.2.2.2 18))) (C := RX0) (T := TX0) (N := 14) rfl rfl inX0 12 (by decide) (ref := "GridPolygons$Choices") kw_256 rfl rfl dX0_spread_130 ?_
                    refine j_isub SS (x := x) (y := (u.2.2.2 18)) dX0_spread_133 ?_
                    refine lv_iload SS.1 SS.2.1 dX0_spread_134 (lv_at hl 1 rfl) ?_
                    refine lv_aload_n SS.1 SS.2.1 dX0_spread_136 rfl (lv_at hl 2 rfl) ?_
                    refine j_get SS hG hP 5 (v := .int (J (u.2.2.2 19))) (C := RX0) (T := TX0) (N := 14) rfl rfl inX0 13 (by decide) (ref := "GridPolygons$Choices") kw_257 rfl rfl dX0_spread_137 ?_
                    refine j_isub SS (x := ((u.2.2.2 14) + j)) (y := (u.2.2.2 19)) dX0_spread_140 ?_
                    refine j_vRl SS (As := [.ref (q 68), .int (J (x - (u.2.2.2 18))), .int (J (((u.2.2.2 14) + j) - (u.2.2.2 19)))]) (rest := [.long ((u.2.2.1 0) (z_100).toNat), .int (J z_100), .ref (q 68)]) (c_X0_waysTo_1 l D q (sL u 1 n3)  (x - (u.2.2.2 18)) (((u.2.2.2 14) + j) - (u.2.2.2 19)) (show (-40 ≤ (u.2.2.2 13) ∧ (u.2.2.2 13) ≤ 40) ∧ (-40 ≤ (u.2.2.2 14) ∧ (u.2.2.2 14) ≤ 40) ∧ (-79 ≤ (u.2.2.2 15) ∧ (u.2.2.2 15) ≤ 81) ∧ (-79 ≤ (u.2.2.2 16) ∧ (u.2.2.2 16) ≤ 81) from (by omega)) (show -2000000 ≤ (x - (u.2.2.2 18)) ∧ (x - (u.2.2.2 18)) ≤ 2000000 from (by omega)) (show -2000000 ≤ (((u.2.2.2 14) + j) - (u.2.2.2 19)) ∧ (((u.2.2.2 14) + j) - (u.2.2.2 19)) ≤ 2000000 from (by omega))) mf_X0_waysTo kw_732 hG hP hP (ci := 0) (q0 := 5) rfl rfl rfl rfl hl.1 ⟨⟨Nat.le_of_ble_eq_true rfl, Nat.le_of_ble_eq_true rfl⟩, Nat.le_of_ble_eq_true rfl, Nat.le_refl _, Nat.le_refl _⟩ rfl dX0_spread_141 (fun x_141 h_141 => ?_)
                    refine lv_ladd SS.1 SS.2.1 dX0_spread_144 ?_
                    refine lv_aload_n SS.1 SS.2.1 dX0_spread_145 rfl (lv_at hl 2 rfl) ?_
                    refine lv_aload_n SS.1 SS.2.1 dX0_spread_146 rfl (lv_at hl 2 rfl) ?_
                    refine j_get SS hG hP 5 (v := .ref (q 67)) (C := RX0) (T := TX0) (N := 14) rfl rfl inX0 0 (by decide) (ref := "GridPolygons$Choices") kw_243 rfl rfl dX0_spread_147 ?_
                    refine lv_iload_n SS.1 SS.2.1 dX0_spread_150 rfl (lv_at hl 5 rfl) ?_
                    refine lv_aload_n SS.1 SS.2.1 dX0_spread_151 rfl (lv_at hl 2 rfl) ?_
                    refine j_get SS hG hP 5 (v := .int (J (u.2.2.2 17))) (C := RX0) (T := TX0) (N := 14) rfl rfl inX0 11 (by decide) (ref := "GridPolygons$Choices") kw_255 rfl rfl dX0_spread_152 ?_
                    refine j_iconst SS dX0_spread_155 ?_
                    refine j_iadd SS (x := (u.2.2.2 17)) (y := 1) dX0_spread_156 ?_
                    refine lv_aload_n SS.1 SS.2.1 dX0_spread_157 rfl (lv_at hl 2 rfl) ?_
                    refine j_get SS hG hP 5 (v := .int (J (u.2.2.2 18))) (C := RX0) (T := TX0) (N := 14) rfl rfl inX0 12 (by decide) (ref := "GridPolygons$Choices") kw_256 rfl rfl dX0_spread_158 ?_
                    refine j_imul SS (x := ((u.2.2.2 17) + 1)) (y := (u.2.2.2 18)) dX0_spread_161 ?_
                    refine j_isub SS (x := x) (y := (((u.2.2.2 17) + 1) * (u.2.2.2 18))) dX0_spread_162 ?_
                    refine lv_iload SS.1 SS.2.1 dX0_spread_163 (lv_at hl 1 rfl) ?_
                    refine lv_aload_n SS.1 SS.2.1 dX0_spread_165 rfl (lv_at hl 2 rfl) ?_
                    refine j_get SS hG hP 5 (v := .int (J (u.2.2.2 17))) (C := RX0) (T := TX0) (N := 14) rfl rfl inX0 11 (by decide) (ref := "GridPolygons$Choices") kw_255 rfl rfl dX0_spread_166 ?_
                    refine j_iconst SS dX0_spread_169 ?_
                    refine j_iadd SS (x := (u.2.2.2 17)) (y := 1) dX0_spread_170 ?_
                    refine lv_aload_n SS.1 SS.2.1 dX0_spread_171 rfl (lv_at hl 2 rfl) ?_
                    refine j_get SS hG hP 5 (v := .int (J (u.2.2.2 19))) (C := RX0) (T := TX0) (N := 14) rfl rfl inX0 13 (by decide) (ref := "GridPolygons$Choices") kw_257 rfl rfl dX0_spread_172 ?_
                    refine j_imul SS (x := ((u.2.2.2 17) + 1)) (y := (u.2.2.2 19)) dX0_spread_175 ?_
                    refine j_isub SS (x := ((u.2.2.2 14) + j)) (y := (((u.2.2.2 17) + 1) * (u.2.2.2 19))) dX0_spread_176 ?_
                    have m1 := mulb (A := 81) (B := 80) (a := u.2.2.2 17 + 1) (b := u.2.2.2 18) (by omega) (by omega)
                    have m2 := mulb (A := 81) (B := 80) (a := u.2.2.2 17 + 1) (b := u.2.2.2 19) (by omega) (by omega)
                    refine j_vRl SS (As := [.ref (q 67), .int (J (x - (((u.2.2.2 17) + 1) * (u.2.2.2 18)))), .int (J (((u.2.2.2 14) + j) - (((u.2.2.2 17) + 1) * (u.2.2.2 19))))]) (rest := [.long (((u.2.2.1 0) (z_100).toNat) + x_141), .int (J z_100), .ref (q 68)]) (c_X0_waysTo_0 l D q (sL u 1 n3)  (x - (((u.2.2.2 17) + 1) * (u.2.2.2 18))) (((u.2.2.2 14) + j) - (((u.2.2.2 17) + 1) * (u.2.2.2 19))) (show (-40 ≤ (u.2.2.2 13) ∧ (u.2.2.2 13) ≤ 40) ∧ (-40 ≤ (u.2.2.2 14) ∧ (u.2.2.2 14) ≤ 40) ∧ (-79 ≤ (u.2.2.2 15) ∧ (u.2.2.2 15) ≤ 81) ∧ (-79 ≤ (u.2.2.2 16) ∧ (u.2.2.2 16) ≤ 81) from (by omega)) (show -2000000 ≤ (x - (((u.2.2.2 17) + 1) * (u.2.2.2 18))) ∧ (x - (((u.2.2.2 17) + 1) * (u.2.2.2 18))) ≤ 2000000 from (by omega)) (show -2000000 ≤ (((u.2.2.2 14) + j) - (((u.2.2.2 17) + 1) * (u.2.2.2 19))) ∧ (((u.2.2.2 14) + j) - (((u.2.2.2 17) + 1) * (u.2.2.2 19))) ≤ 2000000 from (by omega))) mf_X0_waysTo kw_732 hG hP hP (ci := 0) (q0 := 5) rfl rfl rfl rfl hl.1 ⟨⟨Nat.le_of_ble_eq_true rfl, Nat.le_of_ble_eq_true rfl⟩, Nat.le_of_ble_eq_true rfl, Nat.le_refl _, Nat.le_refl _⟩ rfl dX0_spread_177 (fun x_177 h_177 => ?_)
                    refine lv_lsub SS.1 SS.2.1 dX0_spread_180 ?_
                    refine j_last SS hG hP (cW_D hD) hS 68 (n := 6561) (f := n3) rfl (z := z_100) (v := ((((u.2.2.1 0) (z_100).toNat) + x_141) - x_177)) (by omega) (by omega) dX0_spread_181 (ws' := (cW D q (sL u 1 (vp_updL n3 (z_100).toNat ((((u.2.2.1 0) (z_100).toNat) + x_141) - x_177))))) rfl (fun H locs hP hS => ?_)
                    refine lv_iinc (v := J (j + 1)) (lv' := [(4, .int (J (j + 1))), (6, .int (J z_100)), (5, .int (J ((u.2.2.2 14) + j))), (0, .ref (q 5)), (1, .int (J rs)), (2, .int (J i)), (3, .int (J x))]) SS.1 SS.2.1 dX0_spread_182 hl (k := 6) rfl (J_add _ _) (by decide) rfl (fun ls hl => ?_)
                    refine lv_goto (tgt := 62) SS.1 SS.2.1 dX0_spread_185 (by decide) ?_
                    exact ih_62 x (j + 1) (vp_updL n3 (z_100).toNat ((((u.2.2.1 0) (z_100).toNat) + x_141) - x_177)) _ _ hP hS ls (lv_sub hl [3, 4, 5, 6, 0] rfl) (by omega) (by omega) (by omega)
          refine lv_aload_n SS.1 SS.2.1 dX0_spread_37 rfl (lv_at hl 0 rfl) ?_
          refine j_get SS hG hP 5 (v := .int (J (u.2.2.2 13))) (C := RX0) (T := TX0) (N := 14) rfl rfl inX0 7 (by decide) (ref := "GridPolygons$Choices") kw_251 rfl rfl dX0_spread_38 ?_
          refine lv_iload_n SS.1 SS.2.1 dX0_spread_41 rfl (lv_at hl 1 rfl) ?_
          refine j_if_eq SS (tgt := 49) (x := rs) dX0_spread_42 (by decide) (by omega) (fun c_42 => ?_) (fun c_42 => ?_)
          · skip
            refine lv_aload_n SS.1 SS.2.1 dX0_spread_49 rfl (lv_at hl 0 rfl) ?_
            refine j_get SS hG hP 5 (v := .int (J (u.2.2.2 15))) (C := RX0) (T := TX0) (N := 14) rfl rfl inX0 9 (by decide) (ref := "GridPolygons$Choices") kw_253 rfl rfl dX0_spread_50 ?_
            refine j_iconst SS dX0_spread_53 ?_
            refine j_isub SS (x := (u.2.2.2 15)) (y := 1) dX0_spread_54 ?_
            refine lv_iload_n SS.1 SS.2.1 dX0_spread_55 rfl (lv_at hl 2 rfl) ?_
            refine j_isub SS (x := ((u.2.2.2 15) - 1)) (y := i) dX0_spread_56 ?_
            refine j_iadd SS (x := (u.2.2.2 13)) (y := (((u.2.2.2 15) - 1) - i)) dX0_spread_57 ?_
            refine lv_istore_n (lv' := [(3, .int (J ((u.2.2.2 13) + (((u.2.2.2 15) - 1) - i)))), (0, .ref (q 5)), (1, .int (J rs)), (2, .int (J i))]) SS.1 SS.2.1 dX0_spread_58 rfl hl (by decide) rfl (fun ls hl => ?_)
            refine j_iconst SS dX0_spread_59 ?_
            refine lv_istore (lv' := [(4, .int (J 0)), (3, .int (J ((u.2.2.2 13) + (((u.2.2.2 15) - 1) - i)))), (0, .ref (q 5)), (1, .int (J rs)), (2, .int (J i))]) SS.1 SS.2.1 dX0_spread_60 hl (by decide) rfl (fun ls hl => ?_)
            exact L_62 (((81 : Int) - (0 : Int)).toNat + 1) ((u.2.2.2 13) + (((u.2.2.2 15) - 1) - i)) 0 n2 _ _ hP hS ls (lv_sub hl [2, 3, 4, 1, 0] rfl) (by omega) (by omega) (Nat.lt_succ_self _)
          · skip
            refine lv_iload_n SS.1 SS.2.1 dX0_spread_45 rfl (lv_at hl 2 rfl) ?_
            refine lv_goto (tgt := 57) SS.1 SS.2.1 dX0_spread_46 (by decide) ?_
            refine j_iadd SS (x := (u.2.2.2 13)) (y := i) dX0_spread_57 ?_
            refine lv_istore_n (lv' := [(3, .int (J ((u.2.2.2 13) + i))), (0, .ref (q 5)), (1, .int (J rs)), (2, .int (J i))]) SS.1 SS.2.1 dX0_spread_58 rfl hl (by decide) rfl (fun ls hl => ?_)
            refine j_iconst SS dX0_spread_59 ?_
            refine lv_istore (lv' := [(4, .int (J 0)), (3, .int (J ((u.2.2.2 13) + i))), (0, .ref (q 5)), (1, .int (J rs)), (2, .int (J i))]) SS.1 SS.2.1 dX0_spread_60 hl (by decide) rfl (fun ls hl => ?_)
            exact L_62 (((81 : Int) - (0 : Int)).toNat + 1) ((u.2.2.2 13) + i) 0 n2 _ _ hP hS ls (lv_sub hl [2, 3, 4, 1, 0] rfl) (by omega) (by omega) (Nat.lt_succ_self _)
    exact L_29 (((81 : Int) - (0 : Int)).toNat + 1) 0 (u.2.2.1 1) _ _ hP hS ls (lv_sub hl [1, 2, 0] rfl) (by omega) (Nat.lt_succ_self _)
  refine lv_aload_n SS.1 SS.2.1 dX0_spread_0 rfl (lv_at hl 0 rfl) ?_
  refine j_get SS hG hP 5 (v := .int (J (u.2.2.2 18))) (C := RX0) (T := TX0) (N := 14) rfl rfl inX0 12 (by decide) (ref := "GridPolygons$Choices") kw_256 rfl rfl dX0_spread_1 ?_
  refine j_if_gt SS (tgt := 21) (x := (u.2.2.2 18)) dX0_spread_4 (by decide) (by omega) (fun c_4 => ?_) (fun c_4 => ?_)
  · skip
    refine j_iconst SS dX0_spread_21 ?_
    refine lv_goto (tgt := 26) SS.1 SS.2.1 dX0_spread_22 (by decide) ?_
    refine lv_istore_n (lv' := [(1, .int (J 1)), (0, .ref (q 5))]) SS.1 SS.2.1 dX0_spread_26 rfl hl (by decide) rfl (fun ls hl => ?_)
    exact L_27 1 _ _ hP hS ls (lv_sub hl [1, 0] rfl) (by omega)
  · skip
    refine lv_aload_n SS.1 SS.2.1 dX0_spread_7 rfl (lv_at hl 0 rfl) ?_
    refine j_get SS hG hP 5 (v := .int (J (u.2.2.2 18))) (C := RX0) (T := TX0) (N := 14) rfl rfl inX0 12 (by decide) (ref := "GridPolygons$Choices") kw_256 rfl rfl dX0_spread_8 ?_
    refine j_if_ne SS (tgt := 25) (x := (u.2.2.2 18)) dX0_spread_11 (by decide) (by omega) (fun c_11 => ?_) (fun c_11 => ?_)
    · skip
      refine j_iconst SS dX0_spread_25 ?_
      refine lv_istore_n (lv' := [(1, .int (J 0)), (0, .ref (q 5))]) SS.1 SS.2.1 dX0_spread_26 rfl hl (by decide) rfl (fun ls hl => ?_)
      exact L_27 0 _ _ hP hS ls (lv_sub hl [1, 0] rfl) (by omega)
    · skip
      refine lv_aload_n SS.1 SS.2.1 dX0_spread_14 rfl (lv_at hl 0 rfl) ?_
      refine j_get SS hG hP 5 (v := .int (J (u.2.2.2 19))) (C := RX0) (T := TX0) (N := 14) rfl rfl inX0 13 (by decide) (ref := "GridPolygons$Choices") kw_257 rfl rfl dX0_spread_15 ?_
      refine j_if_le SS (tgt := 25) (x := (u.2.2.2 19)) dX0_spread_18 (by decide) (by omega) (fun c_18 => ?_) (fun c_18 => ?_)
      · skip
        refine j_iconst SS dX0_spread_25 ?_
        refine lv_istore_n (lv' := [(1, .int (J 0)), (0, .ref (q 5))]) SS.1 SS.2.1 dX0_spread_26 rfl hl (by decide) rfl (fun ls hl => ?_)
        exact L_27 0 _ _ hP hS ls (lv_sub hl [1, 0] rfl) (by omega)
      · skip
        refine j_iconst SS dX0_spread_21 ?_
        refine lv_goto (tgt := 26) SS.1 SS.2.1 dX0_spread_22 (by decide) ?_
        refine lv_istore_n (lv' := [(1, .int (J 1)), (0, .ref (q 5))]) SS.1 SS.2.1 dX0_spread_26 rfl hl (by decide) rfl (fun ls hl => ?_)
        exact L_27 1 _ _ hP hS ls (lv_sub hl [1, 0] rfl) (by omega)

set_option maxHeartbeats 4000000 in
set_option maxRecDepth 100000 in
theorem c_X0_howMany (l : Launch) (D : JD) (q : Nat → Nat) (u : CS) (A : Nat → Prop) (hD : va_D A (cW D q u)) (r : Nat) (hr : r ≤ 8) (p0 : RB 40 u r) : Met l yX0_howMany (jw yX0_howMany cX0_howMany 4 (some .long)) (jr 4 88) (jP [.ref (q 5), .ref (q (9 + 5 * r))] D (fun H => va_P D.1 j_cl (cW D q u) H)) (jWl (fun u' => ∃ lf : Int, ∃ bt : Int, ∃ wd : Int, ∃ tl : Int, ∃ sp : Int, ∃ dx : Int, ∃ dy : Int, ∃ w0 : Nat → Int64, ∃ w1 : Nat → Int64, u' = (sV (sV (sV (sV (sV (sV (sV (sL (sL u 0 w0) 1 w1) 13 lf) 14 bt) 15 wd) 16 tl) 17 sp) 18 dx) 19 dy) ∧ (True)) (fun u' H => va_P D.1 j_cl (cW D q u') H) A) 0 0 A := by
  refine Met.ofW (cc := cX0_howMany) (maxL := 4) (ret := (some .long)) (by decide) rfl ?_
  intro pr en st mi args below meth co s₁ B hml hv
  obtain ⟨rfl, hG, hP⟩ := hv
  have hr := B.returns
  have hlk := B.notSynchronized
  have SS : jS pr mi co cX0_howMany 4 st _ RX0 := ⟨B.exec, B.bytes, hml, findClass_of_methodNamed B.named, fun w hw => atoms_spec (ws := (jw yX0_howMany cX0_howMany 4 (some .long))) B.pre w (List.mem_cons_of_mem _ hw)⟩
  have hl := lv_entry ([.ref (q 5), .ref (q (9 + 5 * r))]) (n := 4) (Nat.le_of_ble_eq_true rfl)
  rw [lg_entry_eq]
  generalize (lg_sl ([.ref (q 5), .ref (q (9 + 5 * r))]) ++ List.replicate (4 - (lg_sl ([.ref (q 5), .ref (q (9 + 5 * r))])).length) Slot.unset).toArray = ls at hl ⊢
  have hl : lv_has ls 4 [(0, .ref (q 5)), (1, .ref (q (9 + 5 * r)))] := hl
  have hS : va_S A st.heap st.heap [] := va_S.rf
  have hc := p0.1
  have hrl := rl_b r
  refine lv_aload_n SS.1 SS.2.1 dX0_howMany_0 rfl (lv_at hl 0 rfl) ?_
  refine lv_aload_n SS.1 SS.2.1 dX0_howMany_1 rfl (lv_at hl 1 rfl) ?_
  refine j_vWv SS (As := [.ref (q (9 + 5 * r))]) (rest := []) (c_X0_frame l D q u A (cW_D hD) r (by omega)  (show RB 40 u r from (p0))) mf_X0_frame kw_704 hG hP hP (ci := 0) (q0 := 5) rfl rfl rfl hS (fun _ h => h) rfl hl.1 ⟨⟨Nat.le_of_ble_eq_true rfl, Nat.le_of_ble_eq_true rfl⟩, Nat.le_of_ble_eq_true rfl, Nat.le_refl _, Nat.le_refl _⟩ rfl dX0_howMany_2 (fun u2 H locs h_2 hP _ hS => ?_)
  obtain ⟨lf_2, bt_2, wd_2, tl_2, rfl, h_2⟩ := h_2
  have hP : va_P D.1 j_cl (cW D q (sV (sV (sV (sV u 13 lf_2) 14 bt_2) 15 wd_2) 16 tl_2)) H := hP
  have h_2 : (-40 ≤ lf_2 ∧ lf_2 ≤ 40) ∧ (-40 ≤ bt_2 ∧ bt_2 ≤ 40) ∧ (-79 ≤ wd_2 ∧ wd_2 ≤ 81) ∧ -79 ≤ tl_2 ∧ tl_2 ≤ 81 := h_2
  refine lv_aload_n SS.1 SS.2.1 dX0_howMany_5 rfl (lv_at hl 0 rfl) ?_
  refine j_get SS hG hP 5 (v := .ref (q 67)) (C := RX0) (T := TX0) (N := 14) rfl rfl inX0 0 (by decide) (ref := "GridPolygons$Choices") kw_243 rfl rfl dX0_howMany_6 ?_
  refine lv_lconst (v := 0) SS.1 SS.2.1 dX0_howMany_9 (by decide +kernel) ?_
  refine j_sWv SS (As := [.ref (q 67), .long 0]) (rest := []) (c_J7_fill_d0a16 l D (ws := (cW D q (sV (sV (sV (sV u 13 lf_2) 14 bt_2) 15 wd_2) 16 tl_2))) (A := A) (cW_D hD) 67 0 rfl (by first | decide | omega)) mf_J7_fill_d0a16 kw_712 hG hP hS (fun _ h => h) rfl hl.1 ⟨⟨Nat.le_of_ble_eq_true rfl, Nat.le_of_ble_eq_true rfl⟩, Nat.le_of_ble_eq_true rfl, Nat.le_refl _, Nat.le_refl _⟩ rfl dX0_howMany_10 (fun _ H locs _ hP _ hS => ?_)
  have hP : va_P D.1 j_cl (cW D q (sV (sV (sV (sV (sL u 0 (jfL (u.2.2.1 0) 0 6561)) 13 lf_2) 14 bt_2) 15 wd_2) 16 tl_2)) H := hP
  refine lv_aload_n SS.1 SS.2.1 dX0_howMany_13 rfl (lv_at hl 0 rfl) ?_
  refine lv_aload_n SS.1 SS.2.1 dX0_howMany_14 rfl (lv_at hl 1 rfl) ?_
  refine j_iconst SS dX0_howMany_15 ?_
  refine j_uRi SS (As := [.int (J 0)]) (rest := [.ref (q 5)]) (c_X8_x l D q (sV (sV (sV (sV (sL u 0 (jfL (u.2.2.1 0) 0 6561)) 13 lf_2) 14 bt_2) 15 wd_2) 16 tl_2) r (by omega) 0 (show -2147483648 ≤ (0 : Int) ∧ (0 : Int) ≤ 2147483647 from (by omega))) mu_7_x kw_715 hG hP hP (ci := 7) (q0 := (9 + 5 * r)) rfl (cw_ring (by omega)) rfl rfl hl.1 ⟨⟨Nat.le_of_ble_eq_true rfl, Nat.le_of_ble_eq_true rfl⟩, Nat.le_of_ble_eq_true rfl, Nat.le_refl _, Nat.le_refl _⟩ rfl dX0_howMany_16 (fun z_16 h_16 => ?_)
  have h_16 : z_16 = rx (sV (sV (sV (sV (sL u 0 (jfL (u.2.2.1 0) 0 6561)) 13 lf_2) 14 bt_2) 15 wd_2) 16 tl_2) r (0 : Int) ∧ ∀ K : Int, 0 ≤ K → RB K (sV (sV (sV (sV (sL u 0 (jfL (u.2.2.1 0) 0 6561)) 13 lf_2) 14 bt_2) 15 wd_2) 16 tl_2) r → -K ≤ z_16 ∧ z_16 ≤ K := h_16
  have hb_16 := h_16.2 40 (by omega) (p0)
  refine lv_aload_n SS.1 SS.2.1 dX0_howMany_19 rfl (lv_at hl 1 rfl) ?_
  refine j_iconst SS dX0_howMany_20 ?_
  refine j_uRi SS (As := [.int (J 0)]) (rest := [.int (J z_16), .ref (q 5)]) (c_X8_y l D q (sV (sV (sV (sV (sL u 0 (jfL (u.2.2.1 0) 0 6561)) 13 lf_2) 14 bt_2) 15 wd_2) 16 tl_2) r (by omega) 0 (show -2147483648 ≤ (0 : Int) ∧ (0 : Int) ≤ 2147483647 from (by omega))) mu_7_y kw_716 hG hP hP (ci := 7) (q0 := (9 + 5 * r)) rfl (cw_ring (by omega)) rfl rfl hl.1 ⟨⟨Nat.le_of_ble_eq_true rfl, Nat.le_of_ble_eq_true rfl⟩, Nat.le_of_ble_eq_true rfl, Nat.le_refl _, Nat.le_refl _⟩ rfl dX0_howMany_21 (fun z_21 h_21 => ?_)
  have h_21 : z_21 = ry9 (sV (sV (sV (sV (sL u 0 (jfL (u.2.2.1 0) 0 6561)) 13 lf_2) 14 bt_2) 15 wd_2) 16 tl_2) r (0 : Int) ∧ ∀ K : Int, 0 ≤ K → RB K (sV (sV (sV (sV (sL u 0 (jfL (u.2.2.1 0) 0 6561)) 13 lf_2) 14 bt_2) 15 wd_2) 16 tl_2) r → -K ≤ z_21 ∧ z_21 ≤ K := h_21
  have hb_21 := h_21.2 40 (by omega) (p0)
  refine j_vRi SS (As := [.int (J z_16), .int (J z_21)]) (rest := []) (c_X0_cell l D q (sV (sV (sV (sV (sL u 0 (jfL (u.2.2.1 0) 0 6561)) 13 lf_2) 14 bt_2) 15 wd_2) 16 tl_2)  z_16 z_21 (show (-40 ≤ lf_2 ∧ lf_2 ≤ 40) ∧ (-40 ≤ bt_2 ∧ bt_2 ≤ 40) ∧ (-79 ≤ wd_2 ∧ wd_2 ≤ 81) ∧ (-79 ≤ tl_2 ∧ tl_2 ≤ 81) from (by omega)) (show -2000000 ≤ z_16 ∧ z_16 ≤ 2000000 from (by omega)) (show -2000000 ≤ z_21 ∧ z_21 ≤ 2000000 from (by omega))) mf_X0_cell kw_717 hG hP hP (ci := 0) (q0 := 5) rfl rfl rfl rfl hl.1 ⟨⟨Nat.le_of_ble_eq_true rfl, Nat.le_of_ble_eq_true rfl⟩, Nat.le_of_ble_eq_true rfl, Nat.le_refl _, Nat.le_refl _⟩ rfl dX0_howMany_24 (fun z_24 h_24 => ?_)
  have h_24 : -1 ≤ z_24 ∧ z_24 ≤ 6560 := h_24
  refine lv_istore_n (lv' := [(2, .int (J z_24)), (0, .ref (q 5)), (1, .ref (q (9 + 5 * r)))]) SS.1 SS.2.1 dX0_howMany_27 rfl hl (by decide) rfl (fun ls hl => ?_)
  refine lv_iload_n SS.1 SS.2.1 dX0_howMany_28 rfl (lv_at hl 0 rfl) ?_
  refine j_if_ge SS (tgt := 34) (x := z_24) dX0_howMany_29 (by decide) (by omega) (fun c_29 => ?_) (fun c_29 => ?_)
  · skip
    refine lv_aload_n SS.1 SS.2.1 dX0_howMany_34 rfl (lv_at hl 1 rfl) ?_
    refine j_get SS hG hP 5 (v := .ref (q 67)) (C := RX0) (T := TX0) (N := 14) rfl rfl inX0 0 (by decide) (ref := "GridPolygons$Choices") kw_243 rfl rfl dX0_howMany_35 ?_
    refine lv_iload_n SS.1 SS.2.1 dX0_howMany_38 rfl (lv_at hl 0 rfl) ?_
    refine lv_lconst (v := 1) SS.1 SS.2.1 dX0_howMany_39 (by decide +kernel) ?_
    refine j_last SS hG hP (cW_D hD) hS 67 (n := 6561) (f := (jfL (u.2.2.1 0) 0 6561)) rfl (z := z_24) (v := 1) (by omega) (by omega) dX0_howMany_40 (ws' := (cW D q (sV (sV (sV (sV (sL u 0 (vp_updL (jfL (u.2.2.1 0) 0 6561) (z_24).toNat 1)) 13 lf_2) 14 bt_2) 15 wd_2) 16 tl_2))) rfl (fun H locs hP hS => ?_)
    refine j_iconst SS dX0_howMany_41 ?_
    refine lv_istore_n (lv' := [(3, .int (J 0)), (2, .int (J z_24)), (0, .ref (q 5)), (1, .ref (q (9 + 5 * r)))]) SS.1 SS.2.1 dX0_howMany_42 rfl hl (by decide) rfl (fun ls hl => ?_)
    have L_43 : ∀ (nn : Nat) (i : Int) (s1 : Int) (s2 : Int) (s3 : Int) (w2 : Nat → Int64) (w3 : Nat → Int64) (H : Heap) (locs : List Loc) (hP : va_P D.1 j_cl (cW D q (sV (sV (sV (sV (sV (sV (sV (sL (sL u 0 w2) 1 w3) 13 lf_2) 14 bt_2) 15 wd_2) 16 tl_2) 17 s1) 18 s2) 19 s3)) H) (hS : va_S A st.heap H locs) (ls : Array Slot) (hl : lv_has ls 4 [(0, .ref (q 5)), (1, .ref (q (9 + 5 * r))), (2, .int (J z_24)), (3, .int (J i))]) (i43_0 : 0 ≤ i ∧ i ≤ u.1.2.2.1 r), (u.1.2.2.1 r - i).toNat < nn → W pr l en (headSpec (jw yX0_howMany cX0_howMany 4 (some .long)) (jr 4 88)).room st mi (([.ref (q 5), .ref (q (9 + 5 * r))] : List Value).toArray) below meth co H locs 0 0 (MQ below (jWl (fun u' => ∃ lf : Int, ∃ bt : Int, ∃ wd : Int, ∃ tl : Int, ∃ sp : Int, ∃ dx : Int, ∃ dy : Int, ∃ w0 : Nat → Int64, ∃ w1 : Nat → Int64, u' = (sV (sV (sV (sV (sV (sV (sV (sL (sL u 0 w0) 1 w1) 13 lf) 14 bt) 15 wd) 16 tl) 17 sp) 18 dx) 19 dy) ∧ (True)) (fun u' H => va_P D.1 j_cl (cW D q u') H) A) (([.ref (q 5), .ref (q (9 + 5 * r))] : List Value).toArray) st 0 0 A) (F0 mi 43 ls []) := by
      intro nn
      induction nn with
      | zero => intros; omega
      | succ nn ih_43 =>
        intro i s1 s2 s3 w2 w3 H locs hP hS ls hl i43_0 hm
        refine lv_iload_n SS.1 SS.2.1 dX0_howMany_43 rfl (lv_at hl 3 rfl) ?_
        refine lv_aload_n SS.1 SS.2.1 dX0_howMany_44 rfl (lv_at hl 1 rfl) ?_
        refine j_getS SS hG hP (9 + 5 * r) (v := .int (J (u.1.2.2.1 r))) (C := RX7) (T := TX7) (N := 3) (cw_ring (by omega)) rfl inX7 2 (by decide) (ref := "GridPolygons$Ring") kw_139 kw_132 rfl dX0_howMany_45 ?_
        refine j_icmp_ge SS (tgt := 83) (x := i) (y := (u.1.2.2.1 r)) dX0_howMany_48 (by decide) (by omega) (by omega) (fun c_48 => ?_) (fun c_48 => ?_)
        · skip
          refine lv_aload_n SS.1 SS.2.1 dX0_howMany_83 rfl (lv_at hl 0 rfl) ?_
          refine j_get SS hG hP 5 (v := .ref (q 67)) (C := RX0) (T := TX0) (N := 14) rfl rfl inX0 0 (by decide) (ref := "GridPolygons$Choices") kw_243 rfl rfl dX0_howMany_84 ?_
          refine lv_iload_n SS.1 SS.2.1 dX0_howMany_87 rfl (lv_at hl 2 rfl) ?_
          refine j_lald SS hG hP 67 (n := 6561) (f := w2) rfl (z := z_24) (by omega) (by omega) dX0_howMany_88 ?_
          exact W.lret SS.1 SS.2.1 hr (fun t0 ht hW => ⟨⟨_, (sV (sV (sV (sV (sV (sV (sV (sL (sL u 0 w2) 1 w3) 13 lf_2) 14 bt_2) 15 wd_2) 16 tl_2) 17 s1) 18 s2) 19 s3), rfl, (⟨lf_2, bt_2, wd_2, tl_2, s1, s2, s3, w2, w3, rfl, trivial⟩), by show va_P D.1 j_cl (cW D q (sV (sV (sV (sV (sV (sV (sV (sL (sL u 0 w2) 1 w3) 13 lf_2) 14 bt_2) 15 wd_2) 16 tl_2) 17 s1) 18 s2) 19 s3)) t0.heap; rw [ht]; first | exact hP | (simp only [sI_id, sL_id, sC_id, sX_id, sY_id, sH_id, sT_id, sV_id]; exact hP)⟩, hS.F ht⟩) hS.2.2 dX0_howMany_89 hlk
        · skip
          refine lv_aload_n SS.1 SS.2.1 dX0_howMany_51 rfl (lv_at hl 0 rfl) ?_
          refine lv_aload_n SS.1 SS.2.1 dX0_howMany_52 rfl (lv_at hl 1 rfl) ?_
          refine lv_iload_n SS.1 SS.2.1 dX0_howMany_53 rfl (lv_at hl 3 rfl) ?_
          refine j_vWv SS (As := [.ref (q (9 + 5 * r)), .int (J i)]) (rest := []) (c_X0_takeSide l D q (sV (sV (sV (sV (sV (sV (sV (sL (sL u 0 w2) 1 w3) 13 lf_2) 14 bt_2) 15 wd_2) 16 tl_2) 17 s1) 18 s2) 19 s3) A (cW_D hD) r (by omega) i (show RB 40 (sV (sV (sV (sV (sV (sV (sV (sL (sL u 0 w2) 1 w3) 13 lf_2) 14 bt_2) 15 wd_2) 16 tl_2) 17 s1) 18 s2) 19 s3) r from (p0)) (show -1000 ≤ i ∧ i ≤ 1000 from (by omega))) mf_X0_takeSide kw_721 hG hP hP (ci := 0) (q0 := 5) rfl rfl rfl hS (fun _ h => h) rfl hl.1 ⟨⟨Nat.le_of_ble_eq_true rfl, Nat.le_of_ble_eq_true rfl⟩, Nat.le_of_ble_eq_true rfl, Nat.le_refl _, Nat.le_refl _⟩ rfl dX0_howMany_54 (fun u54 H locs h_54 hP _ hS => ?_)
          obtain ⟨sp_54, dx_54, dy_54, rfl, h_54⟩ := h_54
          have hP : va_P D.1 j_cl (cW D q (sV (sV (sV (sV (sV (sV (sV (sL (sL u 0 w2) 1 w3) 13 lf_2) 14 bt_2) 15 wd_2) 16 tl_2) 17 sp_54) 18 dx_54) 19 dy_54)) H := hP
          have h_54 : (0 ≤ sp_54 ∧ sp_54 ≤ 80) ∧ (-80 ≤ dx_54 ∧ dx_54 ≤ 80) ∧ -80 ≤ dy_54 ∧ dy_54 ≤ 80 := h_54
          refine lv_aload_n SS.1 SS.2.1 dX0_howMany_57 rfl (lv_at hl 0 rfl) ?_
          refine j_vWv SS (As := []) (rest := []) (c_X0_spread l D q (sV (sV (sV (sV (sV (sV (sV (sL (sL u 0 w2) 1 w3) 13 lf_2) 14 bt_2) 15 wd_2) 16 tl_2) 17 sp_54) 18 dx_54) 19 dy_54) A (cW_D hD)   (show (-40 ≤ lf_2 ∧ lf_2 ≤ 40) ∧ (-40 ≤ bt_2 ∧ bt_2 ≤ 40) ∧ (-79 ≤ wd_2 ∧ wd_2 ≤ 81) ∧ (-79 ≤ tl_2 ∧ tl_2 ≤ 81) from (by omega)) (show (0 ≤ sp_54 ∧ sp_54 ≤ 80) ∧ (-80 ≤ dx_54 ∧ dx_54 ≤ 80) ∧ (-80 ≤ dy_54 ∧ dy_54 ≤ 80) from (by omega))) mf_X0_spread kw_728 hG hP hP (ci := 0) (q0 := 5) rfl rfl rfl hS (fun _ h => h) rfl hl.1 ⟨⟨Nat.le_of_ble_eq_true rfl, Nat.le_of_ble_eq_true rfl⟩, Nat.le_of_ble_eq_true rfl, Nat.le_refl _, Nat.le_refl _⟩ rfl dX0_howMany_58 (fun u58 H locs h_58 hP _ hS => ?_)
          obtain ⟨n1_58, rfl, h_58⟩ := h_58
          have hP : va_P D.1 j_cl (cW D q (sV (sV (sV (sV (sV (sV (sV (sL (sL u 0 w2) 1 n1_58) 13 lf_2) 14 bt_2) 15 wd_2) 16 tl_2) 17 sp_54) 18 dx_54) 19 dy_54)) H := hP
          have h_58 : True := h_58
          refine lv_aload_n SS.1 SS.2.1 dX0_howMany_61 rfl (lv_at hl 0 rfl) ?_
          refine j_get SS hG hP 5 (v := .ref (q 68)) (C := RX0) (T := TX0) (N := 14) rfl rfl inX0 1 (by decide) (ref := "GridPolygons$Choices") kw_244 rfl rfl dX0_howMany_62 ?_
          refine j_iconst SS dX0_howMany_65 ?_
          refine lv_aload_n SS.1 SS.2.1 dX0_howMany_66 rfl (lv_at hl 0 rfl) ?_
          refine j_get SS hG hP 5 (v := .ref (q 67)) (C := RX0) (T := TX0) (N := 14) rfl rfl inX0 0 (by decide) (ref := "GridPolygons$Choices") kw_243 rfl rfl dX0_howMany_67 ?_
          refine j_iconst SS dX0_howMany_70 ?_
          refine j_sipush SS dX0_howMany_71 (by decide +kernel) ?_
          refine j_cpl SS kw_736 kw_738 kw_737 kw_103 hG hP (cW_D hD) hS hl.1 68 67 (n0 := 6561) (n1 := 6561) (f := n1_58) (g := w2) rfl rfl (n := 6561) (by omega) (by omega) (Nat.le_of_ble_eq_true rfl) (Nat.le_of_ble_eq_true rfl) dX0_howMany_74 (ws' := (cW D q (sV (sV (sV (sV (sV (sV (sV (sL (sL u 0 (va_cpy n1_58 w2 0 0 6561)) 1 n1_58) 13 lf_2) 14 bt_2) 15 wd_2) 16 tl_2) 17 sp_54) 18 dx_54) 19 dy_54))) rfl (fun H locs hP hS => ?_)
          refine lv_iinc (v := J (i + 1)) (lv' := [(3, .int (J (i + 1))), (0, .ref (q 5)), (1, .ref (q (9 + 5 * r))), (2, .int (J z_24))]) SS.1 SS.2.1 dX0_howMany_77 hl (k := 3) rfl (J_add _ _) (by decide) rfl (fun ls hl => ?_)
          refine lv_goto (tgt := 43) SS.1 SS.2.1 dX0_howMany_80 (by decide) ?_
          exact ih_43 (i + 1) sp_54 dx_54 dy_54 (va_cpy n1_58 w2 0 0 6561) n1_58 _ _ hP hS ls (lv_sub hl [1, 2, 3, 0] rfl) (by omega) (by omega)
    have hP : va_P D.1 j_cl (cW D q (sL (sV (sV (sV (sV (sL u 0 (vp_updL (jfL (u.2.2.1 0) 0 6561) (z_24).toNat 1)) 13 lf_2) 14 bt_2) 15 wd_2) 16 tl_2) 1 (u.2.2.1 1))) H := Eq.mpr (congrArg (fun w => va_P D.1 j_cl (cW D q w) H) (sL_at (u := (sV (sV (sV (sV (sL u 0 (vp_updL (jfL (u.2.2.1 0) 0 6561) (z_24).toNat 1)) 13 lf_2) 14 bt_2) 15 wd_2) 16 tl_2)) (r := 1) (x := (u.2.2.1 1)) rfl)) hP
    have hP : va_P D.1 j_cl (cW D q (sV (sL (sV (sV (sV (sV (sL u 0 (vp_updL (jfL (u.2.2.1 0) 0 6561) (z_24).toNat 1)) 13 lf_2) 14 bt_2) 15 wd_2) 16 tl_2) 1 (u.2.2.1 1)) 17 (u.2.2.2 17))) H := Eq.mpr (congrArg (fun w => va_P D.1 j_cl (cW D q w) H) (sV_at (u := (sL (sV (sV (sV (sV (sL u 0 (vp_updL (jfL (u.2.2.1 0) 0 6561) (z_24).toNat 1)) 13 lf_2) 14 bt_2) 15 wd_2) 16 tl_2) 1 (u.2.2.1 1))) (r := 17) (x := (u.2.2.2 17)) rfl)) hP
    have hP : va_P D.1 j_cl (cW D q (sV (sV (sL (sV (sV (sV (sV (sL u 0 (vp_updL (jfL (u.2.2.1 0) 0 6561) (z_24).toNat 1)) 13 lf_2) 14 bt_2) 15 wd_2) 16 tl_2) 1 (u.2.2.1 1)) 17 (u.2.2.2 17)) 18 (u.2.2.2 18))) H := Eq.mpr (congrArg (fun w => va_P D.1 j_cl (cW D q w) H) (sV_at (u := (sV (sL (sV (sV (sV (sV (sL u 0 (vp_updL (jfL (u.2.2.1 0) 0 6561) (z_24).toNat 1)) 13 lf_2) 14 bt_2) 15 wd_2) 16 tl_2) 1 (u.2.2.1 1)) 17 (u.2.2.2 17))) (r := 18) (x := (u.2.2.2 18)) rfl)) hP
    have hP : va_P D.1 j_cl (cW D q (sV (sV (sV (sL (sV (sV (sV (sV (sL u 0 (vp_updL (jfL (u.2.2.1 0) 0 6561) (z_24).toNat 1)) 13 lf_2) 14 bt_2) 15 wd_2) 16 tl_2) 1 (u.2.2.1 1)) 17 (u.2.2.2 17)) 18 (u.2.2.2 18)) 19 (u.2.2.2 19))) H := Eq.mpr (congrArg (fun w => va_P D.1 j_cl (cW D q w) H) (sV_at (u := (sV (sV (sL (sV (sV (sV (sV (sL u 0 (vp_updL (jfL (u.2.2.1 0) 0 6561) (z_24).toNat 1)) 13 lf_2) 14 bt_2) 15 wd_2) 16 tl_2) 1 (u.2.2.1 1)) 17 (u.2.2.2 17)) 18 (u.2.2.2 18))) (r := 19) (x := (u.2.2.2 19)) rfl)) hP
    exact L_43 ((u.1.2.2.1 r - (0 : Int)).toNat + 1) 0 (u.2.2.2 17) (u.2.2.2 18) (u.2.2.2 19) (vp_updL (jfL (u.2.2.1 0) 0 6561) (z_24).toNat 1) (u.2.2.1 1) _ _ hP hS ls (lv_sub hl [2, 3, 1, 0] rfl) (by omega) (Nat.lt_succ_self _)
  · skip
    refine lv_lconst (v := 0) SS.1 SS.2.1 dX0_howMany_32 (by decide +kernel) ?_
    have hP : va_P D.1 j_cl (cW D q (sL (sV (sV (sV (sV (sL u 0 (jfL (u.2.2.1 0) 0 6561)) 13 lf_2) 14 bt_2) 15 wd_2) 16 tl_2) 1 (u.2.2.1 1))) H := Eq.mpr (congrArg (fun w => va_P D.1 j_cl (cW D q w) H) (sL_at (u := (sV (sV (sV (sV (sL u 0 (jfL (u.2.2.1 0) 0 6561)) 13 lf_2) 14 bt_2) 15 wd_2) 16 tl_2)) (r := 1) (x := (u.2.2.1 1)) rfl)) hP
    have hP : va_P D.1 j_cl (cW D q (sV (sL (sV (sV (sV (sV (sL u 0 (jfL (u.2.2.1 0) 0 6561)) 13 lf_2) 14 bt_2) 15 wd_2) 16 tl_2) 1 (u.2.2.1 1)) 17 (u.2.2.2 17))) H := Eq.mpr (congrArg (fun w => va_P D.1 j_cl (cW D q w) H) (sV_at (u := (sL (sV (sV (sV (sV (sL u 0 (jfL (u.2.2.1 0) 0 6561)) 13 lf_2) 14 bt_2) 15 wd_2) 16 tl_2) 1 (u.2.2.1 1))) (r := 17) (x := (u.2.2.2 17)) rfl)) hP
    have hP : va_P D.1 j_cl (cW D q (sV (sV (sL (sV (sV (sV (sV (sL u 0 (jfL (u.2.2.1 0) 0 6561)) 13 lf_2) 14 bt_2) 15 wd_2) 16 tl_2) 1 (u.2.2.1 1)) 17 (u.2.2.2 17)) 18 (u.2.2.2 18))) H := Eq.mpr (congrArg (fun w => va_P D.1 j_cl (cW D q w) H) (sV_at (u := (sV (sL (sV (sV (sV (sV (sL u 0 (jfL (u.2.2.1 0) 0 6561)) 13 lf_2) 14 bt_2) 15 wd_2) 16 tl_2) 1 (u.2.2.1 1)) 17 (u.2.2.2 17))) (r := 18) (x := (u.2.2.2 18)) rfl)) hP
    have hP : va_P D.1 j_cl (cW D q (sV (sV (sV (sL (sV (sV (sV (sV (sL u 0 (jfL (u.2.2.1 0) 0 6561)) 13 lf_2) 14 bt_2) 15 wd_2) 16 tl_2) 1 (u.2.2.1 1)) 17 (u.2.2.2 17)) 18 (u.2.2.2 18)) 19 (u.2.2.2 19))) H := Eq.mpr (congrArg (fun w => va_P D.1 j_cl (cW D q w) H) (sV_at (u := (sV (sV (sL (sV (sV (sV (sV (sL u 0 (jfL (u.2.2.1 0) 0 6561)) 13 lf_2) 14 bt_2) 15 wd_2) 16 tl_2) 1 (u.2.2.1 1)) 17 (u.2.2.2 17)) 18 (u.2.2.2 18))) (r := 19) (x := (u.2.2.2 19)) rfl)) hP
    exact W.lret SS.1 SS.2.1 hr (fun t0 ht hW => ⟨⟨_, (sV (sV (sV (sV (sV (sV (sV (sL (sL u 0 (jfL (u.2.2.1 0) 0 6561)) 1 (u.2.2.1 1)) 13 lf_2) 14 bt_2) 15 wd_2) 16 tl_2) 17 (u.2.2.2 17)) 18 (u.2.2.2 18)) 19 (u.2.2.2 19)), rfl, (⟨lf_2, bt_2, wd_2, tl_2, (u.2.2.2 17), (u.2.2.2 18), (u.2.2.2 19), (jfL (u.2.2.1 0) 0 6561), (u.2.2.1 1), rfl, trivial⟩), by show va_P D.1 j_cl (cW D q (sV (sV (sV (sV (sV (sV (sV (sL (sL u 0 (jfL (u.2.2.1 0) 0 6561)) 1 (u.2.2.1 1)) 13 lf_2) 14 bt_2) 15 wd_2) 16 tl_2) 17 (u.2.2.2 17)) 18 (u.2.2.2 18)) 19 (u.2.2.2 19))) t0.heap; rw [ht]; first | exact hP | (simp only [sI_id, sL_id, sC_id, sX_id, sY_id, sH_id, sT_id, sV_id]; exact hP)⟩, hS.F ht⟩) hS.2.2 dX0_howMany_33 hlk

set_option maxHeartbeats 4000000 in
set_option maxRecDepth 100000 in
theorem c_X0_setFewest (l : Launch) (D : JD) (q : Nat → Nat) (u : CS) (A : Nat → Prop) (hD : va_D A (cW D q u)) (sd : Int) (x : Int) (y : Int) (v : Int) (p0 : (-40 ≤ u.2.2.2 13 ∧ u.2.2.2 13 ≤ 40) ∧ (-40 ≤ u.2.2.2 14 ∧ u.2.2.2 14 ≤ 40) ∧ (-79 ≤ u.2.2.2 15 ∧ u.2.2.2 15 ≤ 81) ∧ (-79 ≤ u.2.2.2 16 ∧ u.2.2.2 16 ≤ 81)) (p1 : -2147483648 ≤ sd ∧ sd ≤ 2147483647) (p2 : -2000000 ≤ x ∧ x ≤ 2000000) (p3 : -2000000 ≤ y ∧ y ≤ 2000000) (p4 : 0 ≤ v ∧ v ≤ 1000000) (p5 : ∀ k : Nat, 0 ≤ u.2.1 5 k ∧ u.2.1 5 k ≤ 1000000) : Met l yX0_setFewest (jw yX0_setFewest cX0_setFewest 6 none) (jr 1 25) (jP [.ref (q 5), .int (J sd), .int (J x), .int (J y), .int (J v)] D (fun H => va_P D.1 j_cl (cW D q u) H)) (jWv (fun u' => ∃ f : Nat → Int, u' = (sI u 5 f) ∧ (∀ k : Nat, 0 ≤ f k ∧ f k ≤ 1000000)) (fun u' H => va_P D.1 j_cl (cW D q u') H) A) 0 0 A := by
  refine Met.ofW (cc := cX0_setFewest) (maxL := 6) (ret := none) (by decide) rfl ?_
  intro pr en st mi args below meth co s₁ B hml hv
  obtain ⟨rfl, hG, hP⟩ := hv
  have hr := B.returns
  have hlk := B.notSynchronized
  have SS : jS pr mi co cX0_setFewest 6 st _ RX0 := ⟨B.exec, B.bytes, hml, findClass_of_methodNamed B.named, fun w hw => atoms_spec (ws := (jw yX0_setFewest cX0_setFewest 6 none)) B.pre w (List.mem_cons_of_mem _ hw)⟩
  have hl := lv_entry ([.ref (q 5), .int (J sd), .int (J x), .int (J y), .int (J v)]) (n := 6) (Nat.le_of_ble_eq_true rfl)
  rw [lg_entry_eq]
  generalize (lg_sl ([.ref (q 5), .int (J sd), .int (J x), .int (J y), .int (J v)]) ++ List.replicate (6 - (lg_sl ([.ref (q 5), .int (J sd), .int (J x), .int (J y), .int (J v)])).length) Slot.unset).toArray = ls at hl ⊢
  have hl : lv_has ls 6 [(0, .ref (q 5)), (1, .int (J sd)), (2, .int (J x)), (3, .int (J y)), (4, .int (J v))] := hl
  have hS : va_S A st.heap st.heap [] := va_S.rf
  refine lv_aload_n SS.1 SS.2.1 dX0_setFewest_0 rfl (lv_at hl 0 rfl) ?_
  refine lv_iload_n SS.1 SS.2.1 dX0_setFewest_1 rfl (lv_at hl 2 rfl) ?_
  refine lv_iload_n SS.1 SS.2.1 dX0_setFewest_2 rfl (lv_at hl 3 rfl) ?_
  refine j_vRi SS (As := [.int (J x), .int (J y)]) (rest := []) (c_X0_cell l D q u  x y (show (-40 ≤ (u.2.2.2 13) ∧ (u.2.2.2 13) ≤ 40) ∧ (-40 ≤ (u.2.2.2 14) ∧ (u.2.2.2 14) ≤ 40) ∧ (-79 ≤ (u.2.2.2 15) ∧ (u.2.2.2 15) ≤ 81) ∧ (-79 ≤ (u.2.2.2 16) ∧ (u.2.2.2 16) ≤ 81) from (p0)) (show -2000000 ≤ x ∧ x ≤ 2000000 from (p2)) (show -2000000 ≤ y ∧ y ≤ 2000000 from (p3))) mf_X0_cell kw_717 hG hP hP (ci := 0) (q0 := 5) rfl rfl rfl rfl hl.1 ⟨⟨Nat.le_of_ble_eq_true rfl, Nat.le_of_ble_eq_true rfl⟩, Nat.le_of_ble_eq_true rfl, Nat.le_refl _, Nat.le_refl _⟩ rfl dX0_setFewest_3 (fun z_3 h_3 => ?_)
  have h_3 : -1 ≤ z_3 ∧ z_3 ≤ 6560 := h_3
  refine lv_istore (lv' := [(5, .int (J z_3)), (0, .ref (q 5)), (1, .int (J sd)), (2, .int (J x)), (3, .int (J y)), (4, .int (J v))]) SS.1 SS.2.1 dX0_setFewest_6 hl (by decide) rfl (fun ls hl => ?_)
  refine lv_iload SS.1 SS.2.1 dX0_setFewest_8 (lv_at hl 0 rfl) ?_
  refine j_if_lt SS (tgt := 38) (x := z_3) dX0_setFewest_10 (by decide) (by omega) (fun c_10 => ?_) (fun c_10 => ?_)
  · skip
    exact W.vret SS.1 SS.2.1 hr (fun t0 ht hW => ⟨⟨(sI u 5 (u.2.1 5)), rfl, (⟨(u.2.1 5), rfl, by first | exact p5 | exact UP_b p5 p4⟩), by show va_P D.1 j_cl (cW D q (sI u 5 (u.2.1 5))) t0.heap; rw [ht]; first | exact hP | (simp only [sC_id, sX_id, sY_id, sH_id, sT_id, sV_id]; exact hP)⟩, hS.F ht⟩) hS.2.2 dX0_setFewest_38 hlk
  · skip
    refine lv_iload_n SS.1 SS.2.1 dX0_setFewest_13 rfl (lv_at hl 2 rfl) ?_
    refine j_if_lt SS (tgt := 38) (x := sd) dX0_setFewest_14 (by decide) (by omega) (fun c_14 => ?_) (fun c_14 => ?_)
    · skip
      exact W.vret SS.1 SS.2.1 hr (fun t0 ht hW => ⟨⟨(sI u 5 (u.2.1 5)), rfl, (⟨(u.2.1 5), rfl, by first | exact p5 | exact UP_b p5 p4⟩), by show va_P D.1 j_cl (cW D q (sI u 5 (u.2.1 5))) t0.heap; rw [ht]; first | exact hP | (simp only [sC_id, sX_id, sY_id, sH_id, sT_id, sV_id]; exact hP)⟩, hS.F ht⟩) hS.2.2 dX0_setFewest_38 hlk
    · skip
      refine lv_iload_n SS.1 SS.2.1 dX0_setFewest_17 rfl (lv_at hl 2 rfl) ?_
      refine j_bipush SS dX0_setFewest_18 (by decide +kernel) ?_
      refine j_icmp_gt SS (tgt := 38) (x := sd) (y := 24) dX0_setFewest_20 (by decide) (by omega) (by decide) (fun c_20 => ?_) (fun c_20 => ?_)
      · skip
        exact W.vret SS.1 SS.2.1 hr (fun t0 ht hW => ⟨⟨(sI u 5 (u.2.1 5)), rfl, (⟨(u.2.1 5), rfl, by first | exact p5 | exact UP_b p5 p4⟩), by show va_P D.1 j_cl (cW D q (sI u 5 (u.2.1 5))) t0.heap; rw [ht]; first | exact hP | (simp only [sC_id, sX_id, sY_id, sH_id, sT_id, sV_id]; exact hP)⟩, hS.F ht⟩) hS.2.2 dX0_setFewest_38 hlk
      · skip
        refine lv_aload_n SS.1 SS.2.1 dX0_setFewest_23 rfl (lv_at hl 1 rfl) ?_
        refine j_get SS hG hP 5 (v := .ref (q 62)) (C := RX0) (T := TX0) (N := 14) rfl rfl inX0 2 (by decide) (ref := "GridPolygons$Choices") kw_245 rfl rfl dX0_setFewest_24 ?_
        refine lv_iload_n SS.1 SS.2.1 dX0_setFewest_27 rfl (lv_at hl 2 rfl) ?_
        refine j_sipush SS dX0_setFewest_28 (by decide +kernel) ?_
        refine j_imul SS (x := sd) (y := 6561) dX0_setFewest_31 ?_
        refine lv_iload SS.1 SS.2.1 dX0_setFewest_32 (lv_at hl 0 rfl) ?_
        refine j_iadd SS (x := (sd * 6561)) (y := z_3) dX0_setFewest_34 ?_
        refine lv_iload SS.1 SS.2.1 dX0_setFewest_35 (lv_at hl 5 rfl) ?_
        refine j_iast SS hG hP (cW_D hD) hS 62 (n := 164025) (f := (u.2.1 5)) rfl (z := ((sd * 6561) + z_3)) (v := v) (by omega) (by omega) dX0_setFewest_37 (ws' := (cW D q (sI u 5 (upI (u.2.1 5) (((sd * 6561) + z_3)).toNat v)))) rfl (fun H locs hP hS => ?_)
        exact W.vret SS.1 SS.2.1 hr (fun t0 ht hW => ⟨⟨(sI u 5 (upI (u.2.1 5) (((sd * 6561) + z_3)).toNat v)), rfl, (⟨(upI (u.2.1 5) (((sd * 6561) + z_3)).toNat v), rfl, by first | exact p5 | exact UP_b p5 p4⟩), by show va_P D.1 j_cl (cW D q (sI u 5 (upI (u.2.1 5) (((sd * 6561) + z_3)).toNat v))) t0.heap; rw [ht]; first | exact hP | (simp only [sC_id, sX_id, sY_id, sH_id, sT_id, sV_id]; exact hP)⟩, hS.F ht⟩) hS.2.2 dX0_setFewest_38 hlk

set_option maxHeartbeats 4000000 in
set_option maxRecDepth 100000 in
theorem c_X0_fewestAt (l : Launch) (D : JD) (q : Nat → Nat) (u : CS) (sd : Int) (at9 : Int) (p0 : -2147483648 ≤ sd ∧ sd ≤ 2147483647) (p1 : -2147483648 ≤ at9 ∧ at9 ≤ 2147483647) (p2 : ∀ k : Nat, 0 ≤ u.2.1 5 k ∧ u.2.1 5 k ≤ 1000000) : Met l yX0_fewestAt (jw yX0_fewestAt cX0_fewestAt 3 (some .int)) (jr 0 0) (jP [.ref (q 5), .int (J sd), .int (J at9)] D (fun H => va_P D.1 j_cl (cW D q u) H)) (jRi (fun z => 0 ≤ z ∧ z ≤ 1000000)) 0 0 (fun _ => False) := by
  refine Met.ofW (cc := cX0_fewestAt) (maxL := 3) (ret := (some .int)) (by decide) rfl ?_
  intro pr en st mi args below meth co s₁ B hml hv
  obtain ⟨rfl, hG, hP⟩ := hv
  have hr := B.returns
  have hlk := B.notSynchronized
  have SS : jS pr mi co cX0_fewestAt 3 st _ RX0 := ⟨B.exec, B.bytes, hml, findClass_of_methodNamed B.named, fun w hw => atoms_spec (ws := (jw yX0_fewestAt cX0_fewestAt 3 (some .int))) B.pre w (List.mem_cons_of_mem _ hw)⟩
  have hl := lv_entry ([.ref (q 5), .int (J sd), .int (J at9)]) (n := 3) (Nat.le_of_ble_eq_true rfl)
  rw [lg_entry_eq]
  generalize (lg_sl ([.ref (q 5), .int (J sd), .int (J at9)]) ++ List.replicate (3 - (lg_sl ([.ref (q 5), .int (J sd), .int (J at9)])).length) Slot.unset).toArray = ls at hl ⊢
  have hl : lv_has ls 3 [(0, .ref (q 5)), (1, .int (J sd)), (2, .int (J at9))] := hl
  refine lv_iload_n SS.1 SS.2.1 dX0_fewestAt_0 rfl (lv_at hl 2 rfl) ?_
  refine j_if_lt SS (tgt := 21) (x := at9) dX0_fewestAt_1 (by decide) (by omega) (fun c_1 => ?_) (fun c_1 => ?_)
  · skip
    refine j_ldc SS (1000000) kw_748 dX0_fewestAt_21 ?_
    refine lv_goto (tgt := 38) SS.1 SS.2.1 dX0_fewestAt_23 (by decide) ?_
    exact W.iret SS.1 SS.2.1 hr (fun t0 ht hW => ⟨_, rfl, ⟨(1000000), rfl, (by first | exact p2 _ | omega)⟩, ht⟩) (fun _ h => nomatch h) dX0_fewestAt_38 hlk
  · skip
    refine lv_iload_n SS.1 SS.2.1 dX0_fewestAt_4 rfl (lv_at hl 2 rfl) ?_
    refine j_sipush SS dX0_fewestAt_5 (by decide +kernel) ?_
    refine j_icmp_ge SS (tgt := 21) (x := at9) (y := 6561) dX0_fewestAt_8 (by decide) (by omega) (by decide) (fun c_8 => ?_) (fun c_8 => ?_)
    · skip
      refine j_ldc SS (1000000) kw_748 dX0_fewestAt_21 ?_
      refine lv_goto (tgt := 38) SS.1 SS.2.1 dX0_fewestAt_23 (by decide) ?_
      exact W.iret SS.1 SS.2.1 hr (fun t0 ht hW => ⟨_, rfl, ⟨(1000000), rfl, (by first | exact p2 _ | omega)⟩, ht⟩) (fun _ h => nomatch h) dX0_fewestAt_38 hlk
    · skip
      refine lv_iload_n SS.1 SS.2.1 dX0_fewestAt_11 rfl (lv_at hl 1 rfl) ?_
      refine j_if_lt SS (tgt := 21) (x := sd) dX0_fewestAt_12 (by decide) (by omega) (fun c_12 => ?_) (fun c_12 => ?_)
      · skip
        refine j_ldc SS (1000000) kw_748 dX0_fewestAt_21 ?_
        refine lv_goto (tgt := 38) SS.1 SS.2.1 dX0_fewestAt_23 (by decide) ?_
        exact W.iret SS.1 SS.2.1 hr (fun t0 ht hW => ⟨_, rfl, ⟨(1000000), rfl, (by first | exact p2 _ | omega)⟩, ht⟩) (fun _ h => nomatch h) dX0_fewestAt_38 hlk
      · skip
        refine lv_iload_n SS.1 SS.2.1 dX0_fewestAt_15 rfl (lv_at hl 1 rfl) ?_
        refine j_bipush SS dX0_fewestAt_16 (by decide +kernel) ?_
        refine j_icmp_le SS (tgt := 26) (x := sd) (y := 24) dX0_fewestAt_18 (by decide) (by omega) (by decide) (fun c_18 => ?_) (fun c_18 => ?_)
        · skip
          refine lv_aload_n SS.1 SS.2.1 dX0_fewestAt_26 rfl (lv_at hl 0 rfl) ?_
          refine j_get SS hG hP 5 (v := .ref (q 62)) (C := RX0) (T := TX0) (N := 14) rfl rfl inX0 2 (by decide) (ref := "GridPolygons$Choices") kw_245 rfl rfl dX0_fewestAt_27 ?_
          refine lv_iload_n SS.1 SS.2.1 dX0_fewestAt_30 rfl (lv_at hl 1 rfl) ?_
          refine j_sipush SS dX0_fewestAt_31 (by decide +kernel) ?_
          refine j_imul SS (x := sd) (y := 6561) dX0_fewestAt_34 ?_
          refine lv_iload_n SS.1 SS.2.1 dX0_fewestAt_35 rfl (lv_at hl 2 rfl) ?_
          refine j_iadd SS (x := (sd * 6561)) (y := at9) dX0_fewestAt_36 ?_
          refine j_iald SS hG hP 62 (n := 164025) (f := (u.2.1 5)) rfl (z := ((sd * 6561) + at9)) (by omega) (by omega) dX0_fewestAt_37 ?_
          exact W.iret SS.1 SS.2.1 hr (fun t0 ht hW => ⟨_, rfl, ⟨((u.2.1 5) (((sd * 6561) + at9)).toNat), rfl, (by first | exact p2 _ | omega)⟩, ht⟩) (fun _ h => nomatch h) dX0_fewestAt_38 hlk
        · skip
          refine j_ldc SS (1000000) kw_748 dX0_fewestAt_21 ?_
          refine lv_goto (tgt := 38) SS.1 SS.2.1 dX0_fewestAt_23 (by decide) ?_
          exact W.iret SS.1 SS.2.1 hr (fun t0 ht hW => ⟨_, rfl, ⟨(1000000), rfl, (by first | exact p2 _ | omega)⟩, ht⟩) (fun _ h => nomatch h) dX0_fewestAt_38 hlk

set_option maxHeartbeats 4000000 in
set_option maxRecDepth 100000 in
theorem c_X0_fewestFrom (l : Launch) (D : JD) (q : Nat → Nat) (u : CS) (sd : Int) (x : Int) (y : Int) (p0 : (-40 ≤ u.2.2.2 13 ∧ u.2.2.2 13 ≤ 40) ∧ (-40 ≤ u.2.2.2 14 ∧ u.2.2.2 14 ≤ 40) ∧ (-79 ≤ u.2.2.2 15 ∧ u.2.2.2 15 ≤ 81) ∧ (-79 ≤ u.2.2.2 16 ∧ u.2.2.2 16 ≤ 81)) (p1 : -2147483648 ≤ sd ∧ sd ≤ 2147483647) (p2 : -2000000 ≤ x ∧ x ≤ 2000000) (p3 : -2000000 ≤ y ∧ y ≤ 2000000) (p4 : ∀ k : Nat, 0 ≤ u.2.1 5 k ∧ u.2.1 5 k ≤ 1000000) : Met l yX0_fewestFrom (jw yX0_fewestFrom cX0_fewestFrom 4 (some .int)) (jr 1 25) (jP [.ref (q 5), .int (J sd), .int (J x), .int (J y)] D (fun H => va_P D.1 j_cl (cW D q u) H)) (jRi (fun z => 0 ≤ z ∧ z ≤ 1000000)) 0 0 (fun _ => False) := by
  refine Met.ofW (cc := cX0_fewestFrom) (maxL := 4) (ret := (some .int)) (by decide) rfl ?_
  intro pr en st mi args below meth co s₁ B hml hv
  obtain ⟨rfl, hG, hP⟩ := hv
  have hr := B.returns
  have hlk := B.notSynchronized
  have SS : jS pr mi co cX0_fewestFrom 4 st _ RX0 := ⟨B.exec, B.bytes, hml, findClass_of_methodNamed B.named, fun w hw => atoms_spec (ws := (jw yX0_fewestFrom cX0_fewestFrom 4 (some .int))) B.pre w (List.mem_cons_of_mem _ hw)⟩
  have hl := lv_entry ([.ref (q 5), .int (J sd), .int (J x), .int (J y)]) (n := 4) (Nat.le_of_ble_eq_true rfl)
  rw [lg_entry_eq]
  generalize (lg_sl ([.ref (q 5), .int (J sd), .int (J x), .int (J y)]) ++ List.replicate (4 - (lg_sl ([.ref (q 5), .int (J sd), .int (J x), .int (J y)])).length) Slot.unset).toArray = ls at hl ⊢
  have hl : lv_has ls 4 [(0, .ref (q 5)), (1, .int (J sd)), (2, .int (J x)), (3, .int (J y))] := hl
  refine lv_aload_n SS.1 SS.2.1 dX0_fewestFrom_0 rfl (lv_at hl 0 rfl) ?_
  refine lv_iload_n SS.1 SS.2.1 dX0_fewestFrom_1 rfl (lv_at hl 1 rfl) ?_
  refine lv_aload_n SS.1 SS.2.1 dX0_fewestFrom_2 rfl (lv_at hl 0 rfl) ?_
  refine lv_iload_n SS.1 SS.2.1 dX0_fewestFrom_3 rfl (lv_at hl 2 rfl) ?_
  refine lv_iload_n SS.1 SS.2.1 dX0_fewestFrom_4 rfl (lv_at hl 3 rfl) ?_
  refine j_vRi SS (As := [.int (J x), .int (J y)]) (rest := [.int (J sd), .ref (q 5)]) (c_X0_cell l D q u  x y (show (-40 ≤ (u.2.2.2 13) ∧ (u.2.2.2 13) ≤ 40) ∧ (-40 ≤ (u.2.2.2 14) ∧ (u.2.2.2 14) ≤ 40) ∧ (-79 ≤ (u.2.2.2 15) ∧ (u.2.2.2 15) ≤ 81) ∧ (-79 ≤ (u.2.2.2 16) ∧ (u.2.2.2 16) ≤ 81) from (p0)) (show -2000000 ≤ x ∧ x ≤ 2000000 from (p2)) (show -2000000 ≤ y ∧ y ≤ 2000000 from (p3))) mf_X0_cell kw_717 hG hP hP (ci := 0) (q0 := 5) rfl rfl rfl rfl hl.1 ⟨⟨Nat.le_of_ble_eq_true rfl, Nat.le_of_ble_eq_true rfl⟩, Nat.le_of_ble_eq_true rfl, Nat.le_refl _, Nat.le_refl _⟩ rfl dX0_fewestFrom_5 (fun z_5 h_5 => ?_)
  have h_5 : -1 ≤ z_5 ∧ z_5 ≤ 6560 := h_5
  refine j_vRi SS (As := [.int (J sd), .int (J z_5)]) (rest := []) (c_X0_fewestAt l D q u  sd z_5 (show -2147483648 ≤ sd ∧ sd ≤ 2147483647 from (by omega)) (show -2147483648 ≤ z_5 ∧ z_5 ≤ 2147483647 from (by omega)) (show ∀ k : Nat, 0 ≤ (u.2.1 5) k ∧ (u.2.1 5) k ≤ 1000000 from (p4))) mf_X0_fewestAt kw_765 hG hP hP (ci := 0) (q0 := 5) rfl rfl rfl rfl hl.1 ⟨⟨Nat.le_of_ble_eq_true rfl, Nat.le_of_ble_eq_true rfl⟩, Nat.le_of_ble_eq_true rfl, Nat.le_refl _, Nat.le_refl _⟩ rfl dX0_fewestFrom_8 (fun z_8 h_8 => ?_)
  have h_8 : 0 ≤ z_8 ∧ z_8 ≤ 1000000 := h_8
  exact W.iret SS.1 SS.2.1 hr (fun t0 ht hW => ⟨_, rfl, ⟨z_8, rfl, (by omega)⟩, ht⟩) (fun _ h => nomatch h) dX0_fewestFrom_11 hlk

set_option maxHeartbeats 4000000 in
set_option maxRecDepth 100000 in
theorem c_X0_bestFrom (l : Launch) (D : JD) (q : Nat → Nat) (u : CS) (sd : Int) (x : Int) (y : Int) (p0 : (-40 ≤ u.2.2.2 13 ∧ u.2.2.2 13 ≤ 40) ∧ (-40 ≤ u.2.2.2 14 ∧ u.2.2.2 14 ≤ 40) ∧ (-79 ≤ u.2.2.2 15 ∧ u.2.2.2 15 ≤ 81) ∧ (-79 ≤ u.2.2.2 16 ∧ u.2.2.2 16 ≤ 81)) (p1 : (0 ≤ u.2.2.2 17 ∧ u.2.2.2 17 ≤ 80) ∧ (-80 ≤ u.2.2.2 18 ∧ u.2.2.2 18 ≤ 80) ∧ (-80 ≤ u.2.2.2 19 ∧ u.2.2.2 19 ≤ 80)) (p2 : 0 ≤ sd ∧ sd ≤ 1000) (p3 : -1000 ≤ x ∧ x ≤ 1000) (p4 : -1000 ≤ y ∧ y ≤ 1000) (p5 : ∀ k : Nat, 0 ≤ u.2.1 5 k ∧ u.2.1 5 k ≤ 1000000) : Met l yX0_bestFrom (jw yX0_bestFrom cX0_bestFrom 7 (some .int)) (jr 1 25) (jP [.ref (q 5), .int (J sd), .int (J x), .int (J y)] D (fun H => va_P D.1 j_cl (cW D q u) H)) (jRi (fun z => 0 ≤ z ∧ z ≤ 1000000)) 0 0 (fun _ => False) := by
  refine Met.ofW (cc := cX0_bestFrom) (maxL := 7) (ret := (some .int)) (by decide) rfl ?_
  intro pr en st mi args below meth co s₁ B hml hv
  obtain ⟨rfl, hG, hP⟩ := hv
  have hr := B.returns
  have hlk := B.notSynchronized
  have SS : jS pr mi co cX0_bestFrom 7 st _ RX0 := ⟨B.exec, B.bytes, hml, findClass_of_methodNamed B.named, fun w hw => atoms_spec (ws := (jw yX0_bestFrom cX0_bestFrom 7 (some .int))) B.pre w (List.mem_cons_of_mem _ hw)⟩
  have hl := lv_entry ([.ref (q 5), .int (J sd), .int (J x), .int (J y)]) (n := 7) (Nat.le_of_ble_eq_true rfl)
  rw [lg_entry_eq]
  generalize (lg_sl ([.ref (q 5), .int (J sd), .int (J x), .int (J y)]) ++ List.replicate (7 - (lg_sl ([.ref (q 5), .int (J sd), .int (J x), .int (J y)])).length) Slot.unset).toArray = ls at hl ⊢
  have hl : lv_has ls 7 [(0, .ref (q 5)), (1, .int (J sd)), (2, .int (J x)), (3, .int (J y))] := hl
  refine j_ldc SS (1000000) kw_748 dX0_bestFrom_0 ?_
  refine lv_istore (lv' := [(4, .int (J (1000000))), (0, .ref (q 5)), (1, .int (J sd)), (2, .int (J x)), (3, .int (J y))]) SS.1 SS.2.1 dX0_bestFrom_2 hl (by decide) rfl (fun ls hl => ?_)
  refine j_iconst SS dX0_bestFrom_4 ?_
  refine lv_istore (lv' := [(5, .int (J 0)), (4, .int (J (1000000))), (0, .ref (q 5)), (1, .int (J sd)), (2, .int (J x)), (3, .int (J y))]) SS.1 SS.2.1 dX0_bestFrom_5 hl (by decide) rfl (fun ls hl => ?_)
  have L_7 : ∀ (nn : Nat) (be : Int) (k : Int) (ls : Array Slot) (hl : lv_has ls 7 [(0, .ref (q 5)), (1, .int (J sd)), (2, .int (J x)), (3, .int (J y)), (4, .int (J be)), (5, .int (J k))]) (i7_0 : 0 ≤ be ∧ be ≤ 1000000) (i7_1 : 0 ≤ k ∧ k ≤ 81), ((81 : Int) - k).toNat < nn → W pr l en (headSpec (jw yX0_bestFrom cX0_bestFrom 7 (some .int)) (jr 1 25)).room st mi (([.ref (q 5), .int (J sd), .int (J x), .int (J y)] : List Value).toArray) below meth co st.heap [] 0 0 (MQ below (jRi (fun z => 0 ≤ z ∧ z ≤ 1000000)) (([.ref (q 5), .int (J sd), .int (J x), .int (J y)] : List Value).toArray) st 0 0 (fun _ => False)) (F0 mi 7 ls []) := by
    intro nn
    induction nn with
    | zero => intros; omega
    | succ nn ih_7 =>
      intro be k ls hl i7_0 i7_1 hm
      refine lv_iload SS.1 SS.2.1 dX0_bestFrom_7 (lv_at hl 5 rfl) ?_
      refine lv_aload_n SS.1 SS.2.1 dX0_bestFrom_9 rfl (lv_at hl 0 rfl) ?_
      refine j_get SS hG hP 5 (v := .int (J (u.2.2.2 17))) (C := RX0) (T := TX0) (N := 14) rfl rfl inX0 11 (by decide) (ref := "GridPolygons$Choices") kw_255 rfl rfl dX0_bestFrom_10 ?_
      refine j_icmp_gt SS (tgt := 80) (x := k) (y := (u.2.2.2 17)) dX0_bestFrom_13 (by decide) (by omega) (by omega) (fun c_13 => ?_) (fun c_13 => ?_)
      · skip
        refine lv_iload SS.1 SS.2.1 dX0_bestFrom_80 (lv_at hl 4 rfl) ?_
        exact W.iret SS.1 SS.2.1 hr (fun t0 ht hW => ⟨_, rfl, ⟨be, rfl, (by omega)⟩, ht⟩) (fun _ h => nomatch h) dX0_bestFrom_82 hlk
      · skip
        refine lv_iload SS.1 SS.2.1 dX0_bestFrom_16 (lv_at hl 5 rfl) ?_
        refine lv_iload SS.1 SS.2.1 dX0_bestFrom_18 (lv_at hl 4 rfl) ?_
        refine j_icmp_ge SS (tgt := 80) (x := k) (y := be) dX0_bestFrom_20 (by decide) (by omega) (by omega) (fun c_20 => ?_) (fun c_20 => ?_)
        · skip
          refine lv_iload SS.1 SS.2.1 dX0_bestFrom_80 (lv_at hl 4 rfl) ?_
          exact W.iret SS.1 SS.2.1 hr (fun t0 ht hW => ⟨_, rfl, ⟨be, rfl, (by omega)⟩, ht⟩) (fun _ h => nomatch h) dX0_bestFrom_82 hlk
        · skip
          refine lv_aload_n SS.1 SS.2.1 dX0_bestFrom_23 rfl (lv_at hl 0 rfl) ?_
          refine lv_iload_n SS.1 SS.2.1 dX0_bestFrom_24 rfl (lv_at hl 2 rfl) ?_
          refine lv_iload SS.1 SS.2.1 dX0_bestFrom_25 (lv_at hl 5 rfl) ?_
          refine lv_aload_n SS.1 SS.2.1 dX0_bestFrom_27 rfl (lv_at hl 0 rfl) ?_
          refine j_get SS hG hP 5 (v := .int (J (u.2.2.2 18))) (C := RX0) (T := TX0) (N := 14) rfl rfl inX0 12 (by decide) (ref := "GridPolygons$Choices") kw_256 rfl rfl dX0_bestFrom_28 ?_
          refine j_imul SS (x := k) (y := (u.2.2.2 18)) dX0_bestFrom_31 ?_
          refine j_iadd SS (x := x) (y := (k * (u.2.2.2 18))) dX0_bestFrom_32 ?_
          refine lv_iload_n SS.1 SS.2.1 dX0_bestFrom_33 rfl (lv_at hl 3 rfl) ?_
          refine lv_iload SS.1 SS.2.1 dX0_bestFrom_34 (lv_at hl 5 rfl) ?_
          refine lv_aload_n SS.1 SS.2.1 dX0_bestFrom_36 rfl (lv_at hl 0 rfl) ?_
          refine j_get SS hG hP 5 (v := .int (J (u.2.2.2 19))) (C := RX0) (T := TX0) (N := 14) rfl rfl inX0 13 (by decide) (ref := "GridPolygons$Choices") kw_257 rfl rfl dX0_bestFrom_37 ?_
          refine j_imul SS (x := k) (y := (u.2.2.2 19)) dX0_bestFrom_40 ?_
          refine j_iadd SS (x := y) (y := (k * (u.2.2.2 19))) dX0_bestFrom_41 ?_
          have m1 := mulb (A := 81) (B := 80) (a := k) (b := u.2.2.2 18) (by omega) (by omega)
          have m2 := mulb (A := 81) (B := 80) (a := k) (b := u.2.2.2 19) (by omega) (by omega)
          refine j_vRi SS (As := [.int (J (x + (k * (u.2.2.2 18)))), .int (J (y + (k * (u.2.2.2 19))))]) (rest := []) (c_X0_cell l D q u  (x + (k * (u.2.2.2 18))) (y + (k * (u.2.2.2 19))) (show (-40 ≤ (u.2.2.2 13) ∧ (u.2.2.2 13) ≤ 40) ∧ (-40 ≤ (u.2.2.2 14) ∧ (u.2.2.2 14) ≤ 40) ∧ (-79 ≤ (u.2.2.2 15) ∧ (u.2.2.2 15) ≤ 81) ∧ (-79 ≤ (u.2.2.2 16) ∧ (u.2.2.2 16) ≤ 81) from (p0)) (show -2000000 ≤ (x + (k * (u.2.2.2 18))) ∧ (x + (k * (u.2.2.2 18))) ≤ 2000000 from (by omega)) (show -2000000 ≤ (y + (k * (u.2.2.2 19))) ∧ (y + (k * (u.2.2.2 19))) ≤ 2000000 from (by omega))) mf_X0_cell kw_717 hG hP hP (ci := 0) (q0 := 5) rfl rfl rfl rfl hl.1 ⟨⟨Nat.le_of_ble_eq_true rfl, Nat.le_of_ble_eq_true rfl⟩, Nat.le_of_ble_eq_true rfl, Nat.le_refl _, Nat.le_refl _⟩ rfl dX0_bestFrom_42 (fun z_42 h_42 => ?_)
          have h_42 : -1 ≤ z_42 ∧ z_42 ≤ 6560 := h_42
          refine lv_istore (lv' := [(6, .int (J z_42)), (0, .ref (q 5)), (1, .int (J sd)), (2, .int (J x)), (3, .int (J y)), (4, .int (J be)), (5, .int (J k))]) SS.1 SS.2.1 dX0_bestFrom_45 hl (by decide) rfl (fun ls hl => ?_)
          refine lv_iload SS.1 SS.2.1 dX0_bestFrom_47 (lv_at hl 0 rfl) ?_
          refine j_if_ge SS (tgt := 55) (x := z_42) dX0_bestFrom_49 (by decide) (by omega) (fun c_49 => ?_) (fun c_49 => ?_)
          · skip
            refine lv_iload SS.1 SS.2.1 dX0_bestFrom_55 (lv_at hl 5 rfl) ?_
            refine lv_iload SS.1 SS.2.1 dX0_bestFrom_57 (lv_at hl 6 rfl) ?_
            refine lv_aload_n SS.1 SS.2.1 dX0_bestFrom_59 rfl (lv_at hl 1 rfl) ?_
            refine lv_iload_n SS.1 SS.2.1 dX0_bestFrom_60 rfl (lv_at hl 2 rfl) ?_
            refine j_iconst SS dX0_bestFrom_61 ?_
            refine j_iadd SS (x := sd) (y := 1) dX0_bestFrom_62 ?_
            refine lv_iload SS.1 SS.2.1 dX0_bestFrom_63 (lv_at hl 0 rfl) ?_
            refine j_vRi SS (As := [.int (J (sd + 1)), .int (J z_42)]) (rest := [.int (J k), .int (J be)]) (c_X0_fewestAt l D q u  (sd + 1) z_42 (show -2147483648 ≤ (sd + 1) ∧ (sd + 1) ≤ 2147483647 from (by omega)) (show -2147483648 ≤ z_42 ∧ z_42 ≤ 2147483647 from (by omega)) (show ∀ k : Nat, 0 ≤ (u.2.1 5) k ∧ (u.2.1 5) k ≤ 1000000 from (p5))) mf_X0_fewestAt kw_765 hG hP hP (ci := 0) (q0 := 5) rfl rfl rfl rfl hl.1 ⟨⟨Nat.le_of_ble_eq_true rfl, Nat.le_of_ble_eq_true rfl⟩, Nat.le_of_ble_eq_true rfl, Nat.le_refl _, Nat.le_refl _⟩ rfl dX0_bestFrom_65 (fun z_65 h_65 => ?_)
            have h_65 : 0 ≤ z_65 ∧ z_65 ≤ 1000000 := h_65
            refine j_iadd SS (x := k) (y := z_65) dX0_bestFrom_68 ?_
            refine j_sRi SS (As := [.int (J be), .int (J (k + z_65))]) (rest := []) (c_J9_min_7cf53 l D  be (k + z_65) (show -2147483648 ≤ be ∧ be ≤ 2147483647 from (by omega)) (show -2147483648 ≤ (k + z_65) ∧ (k + z_65) ≤ 2147483647 from (by omega))) mf_J9_min_7cf53 kw_777 hG trivial rfl hl.1 ⟨⟨Nat.le_of_ble_eq_true rfl, Nat.le_of_ble_eq_true rfl⟩, Nat.le_of_ble_eq_true rfl, Nat.le_refl _, Nat.le_refl _⟩ rfl dX0_bestFrom_69 (fun z_69 h_69 => ?_)
            have h_69 : (z_69 = be ∨ z_69 = (k + z_65)) ∧ z_69 ≤ be ∧ z_69 ≤ (k + z_65) := h_69
            refine lv_istore (lv' := [(4, .int (J z_69)), (6, .int (J z_42)), (0, .ref (q 5)), (1, .int (J sd)), (2, .int (J x)), (3, .int (J y)), (5, .int (J k))]) SS.1 SS.2.1 dX0_bestFrom_72 hl (by decide) rfl (fun ls hl => ?_)
            refine lv_iinc (v := J (k + 1)) (lv' := [(5, .int (J (k + 1))), (4, .int (J z_69)), (6, .int (J z_42)), (0, .ref (q 5)), (1, .int (J sd)), (2, .int (J x)), (3, .int (J y))]) SS.1 SS.2.1 dX0_bestFrom_74 hl (k := 6) rfl (J_add _ _) (by decide) rfl (fun ls hl => ?_)
            refine lv_goto (tgt := 7) SS.1 SS.2.1 dX0_bestFrom_77 (by decide) ?_
            exact ih_7 z_69 (k + 1) ls (lv_sub hl [3, 4, 5, 6, 1, 0] rfl) (by omega) (by omega) (by omega)
          · skip
            refine lv_iload SS.1 SS.2.1 dX0_bestFrom_52 (lv_at hl 5 rfl) ?_
            exact W.iret SS.1 SS.2.1 hr (fun t0 ht hW => ⟨_, rfl, ⟨be, rfl, (by omega)⟩, ht⟩) (fun _ h => nomatch h) dX0_bestFrom_54 hlk
  exact L_7 (((81 : Int) - (0 : Int)).toNat + 1) (1000000) 0 ls (lv_sub hl [2, 3, 4, 5, 1, 0] rfl) (by omega) (by omega) (Nat.lt_succ_self _)

set_option maxHeartbeats 4000000 in
set_option maxRecDepth 100000 in
theorem c_X0_lastRow (l : Launch) (D : JD) (q : Nat → Nat) (u : CS) (A : Nat → Prop) (hD : va_D A (cW D q u)) (r : Nat) (hr : r ≤ 8) (p0 : RB 40 u r) (p1 : (-40 ≤ u.2.2.2 13 ∧ u.2.2.2 13 ≤ 40) ∧ (-40 ≤ u.2.2.2 14 ∧ u.2.2.2 14 ≤ 40) ∧ (-79 ≤ u.2.2.2 15 ∧ u.2.2.2 15 ≤ 81) ∧ (-79 ≤ u.2.2.2 16 ∧ u.2.2.2 16 ≤ 81)) (p2 : ∀ k : Nat, 0 ≤ u.2.1 5 k ∧ u.2.1 5 k ≤ 1000000) : Met l yX0_lastRow (jw yX0_lastRow cX0_lastRow 4 none) (jr 2 50) (jP [.ref (q 5), .ref (q (9 + 5 * r))] D (fun H => va_P D.1 j_cl (cW D q u) H)) (jWv (fun u' => ∃ f : Nat → Int, u' = (sI u 5 f) ∧ (∀ k : Nat, 0 ≤ f k ∧ f k ≤ 1000000)) (fun u' H => va_P D.1 j_cl (cW D q u') H) A) 0 0 A := by
  refine Met.ofW (cc := cX0_lastRow) (maxL := 4) (ret := none) (by decide) rfl ?_
  intro pr en st mi args below meth co s₁ B hml hv
  obtain ⟨rfl, hG, hP⟩ := hv
  have hr := B.returns
  have hlk := B.notSynchronized
  have SS : jS pr mi co cX0_lastRow 4 st _ RX0 := ⟨B.exec, B.bytes, hml, findClass_of_methodNamed B.named, fun w hw => atoms_spec (ws := (jw yX0_lastRow cX0_lastRow 4 none)) B.pre w (List.mem_cons_of_mem _ hw)⟩
  have hl := lv_entry ([.ref (q 5), .ref (q (9 + 5 * r))]) (n := 4) (Nat.le_of_ble_eq_true rfl)
  rw [lg_entry_eq]
  generalize (lg_sl ([.ref (q 5), .ref (q (9 + 5 * r))]) ++ List.replicate (4 - (lg_sl ([.ref (q 5), .ref (q (9 + 5 * r))])).length) Slot.unset).toArray = ls at hl ⊢
  have hl : lv_has ls 4 [(0, .ref (q 5)), (1, .ref (q (9 + 5 * r)))] := hl
  have hS : va_S A st.heap st.heap [] := va_S.rf
  have hc := p0.1
  have hrl := rl_b r
  refine lv_aload_n SS.1 SS.2.1 dX0_lastRow_0 rfl (lv_at hl 0 rfl) ?_
  refine j_get SS hG hP 5 (v := .int (J (u.2.2.2 13))) (C := RX0) (T := TX0) (N := 14) rfl rfl inX0 7 (by decide) (ref := "GridPolygons$Choices") kw_251 rfl rfl dX0_lastRow_1 ?_
  refine lv_istore_n (lv' := [(2, .int (J (u.2.2.2 13))), (0, .ref (q 5)), (1, .ref (q (9 + 5 * r)))]) SS.1 SS.2.1 dX0_lastRow_4 rfl hl (by decide) rfl (fun ls hl => ?_)
  have L_5 : ∀ (nn : Nat) (x : Int) (f1 : Nat → Int) (H : Heap) (locs : List Loc) (hP : va_P D.1 j_cl (cW D q (sI u 5 f1)) H) (hS : va_S A st.heap H locs) (ls : Array Slot) (hl : lv_has ls 4 [(0, .ref (q 5)), (1, .ref (q (9 + 5 * r))), (2, .int (J x))]) (i5_0 : -40 ≤ x ∧ x ≤ 200) (i5_1 : ∀ k : Nat, 0 ≤ f1 k ∧ f1 k ≤ 1000000), ((200 : Int) - x).toNat < nn → W pr l en (headSpec (jw yX0_lastRow cX0_lastRow 4 none) (jr 2 50)).room st mi (([.ref (q 5), .ref (q (9 + 5 * r))] : List Value).toArray) below meth co H locs 0 0 (MQ below (jWv (fun u' => ∃ f : Nat → Int, u' = (sI u 5 f) ∧ (∀ k : Nat, 0 ≤ f k ∧ f k ≤ 1000000)) (fun u' H => va_P D.1 j_cl (cW D q u') H) A) (([.ref (q 5), .ref (q (9 + 5 * r))] : List Value).toArray) st 0 0 A) (F0 mi 5 ls []) := by
    intro nn
    induction nn with
    | zero => intros; omega
    | succ nn ih_5 =>
      intro x f1 H locs hP hS ls hl i5_0 i5_1 hm
      refine lv_iload_n SS.1 SS.2.1 dX0_lastRow_5 rfl (lv_at hl 2 rfl) ?_
      refine lv_aload_n SS.1 SS.2.1 dX0_lastRow_6 rfl (lv_at hl 0 rfl) ?_
      refine j_get SS hG hP 5 (v := .int (J (u.2.2.2 13))) (C := RX0) (T := TX0) (N := 14) rfl rfl inX0 7 (by decide) (ref := "GridPolygons$Choices") kw_251 rfl rfl dX0_lastRow_7 ?_
      refine lv_aload_n SS.1 SS.2.1 dX0_lastRow_10 rfl (lv_at hl 0 rfl) ?_
      refine j_get SS hG hP 5 (v := .int (J (u.2.2.2 15))) (C := RX0) (T := TX0) (N := 14) rfl rfl inX0 9 (by decide) (ref := "GridPolygons$Choices") kw_253 rfl rfl dX0_lastRow_11 ?_
      refine j_iadd SS (x := (u.2.2.2 13)) (y := (u.2.2.2 15)) dX0_lastRow_14 ?_
      refine j_icmp_ge SS (tgt := 60) (x := x) (y := ((u.2.2.2 13) + (u.2.2.2 15))) dX0_lastRow_15 (by decide) (by omega) (by omega) (fun c_15 => ?_) (fun c_15 => ?_)
      · skip
        refine lv_aload_n SS.1 SS.2.1 dX0_lastRow_60 rfl (lv_at hl 0 rfl) ?_
        refine lv_aload_n SS.1 SS.2.1 dX0_lastRow_61 rfl (lv_at hl 1 rfl) ?_
        refine j_getS SS hG hP (9 + 5 * r) (v := .int (J (u.1.2.2.1 r))) (C := RX7) (T := TX7) (N := 3) (cw_ring (by omega)) rfl inX7 2 (by decide) (ref := "GridPolygons$Ring") kw_139 kw_132 rfl dX0_lastRow_62 ?_
        refine lv_aload_n SS.1 SS.2.1 dX0_lastRow_65 rfl (lv_at hl 1 rfl) ?_
        refine j_iconst SS dX0_lastRow_66 ?_
        refine j_uRi SS (As := [.int (J 0)]) (rest := [.int (J (u.1.2.2.1 r)), .ref (q 5)]) (c_X8_x l D q (sI u 5 f1) r (by omega) 0 (show -2147483648 ≤ (0 : Int) ∧ (0 : Int) ≤ 2147483647 from (by omega))) mu_7_x kw_715 hG hP hP (ci := 7) (q0 := (9 + 5 * r)) rfl (cw_ring (by omega)) rfl rfl hl.1 ⟨⟨Nat.le_of_ble_eq_true rfl, Nat.le_of_ble_eq_true rfl⟩, Nat.le_of_ble_eq_true rfl, Nat.le_refl _, Nat.le_refl _⟩ rfl dX0_lastRow_67 (fun z_67 h_67 => ?_)
        have h_67 : z_67 = rx (sI u 5 f1) r (0 : Int) ∧ ∀ K : Int, 0 ≤ K → RB K (sI u 5 f1) r → -K ≤ z_67 ∧ z_67 ≤ K := h_67
        have hb_67 := h_67.2 40 (by omega) (p0)
        refine lv_aload_n SS.1 SS.2.1 dX0_lastRow_70 rfl (lv_at hl 1 rfl) ?_
        refine j_iconst SS dX0_lastRow_71 ?_
        refine j_uRi SS (As := [.int (J 0)]) (rest := [.int (J z_67), .int (J (u.1.2.2.1 r)), .ref (q 5)]) (c_X8_y l D q (sI u 5 f1) r (by omega) 0 (show -2147483648 ≤ (0 : Int) ∧ (0 : Int) ≤ 2147483647 from (by omega))) mu_7_y kw_716 hG hP hP (ci := 7) (q0 := (9 + 5 * r)) rfl (cw_ring (by omega)) rfl rfl hl.1 ⟨⟨Nat.le_of_ble_eq_true rfl, Nat.le_of_ble_eq_true rfl⟩, Nat.le_of_ble_eq_true rfl, Nat.le_refl _, Nat.le_refl _⟩ rfl dX0_lastRow_72 (fun z_72 h_72 => ?_)
        have h_72 : z_72 = ry9 (sI u 5 f1) r (0 : Int) ∧ ∀ K : Int, 0 ≤ K → RB K (sI u 5 f1) r → -K ≤ z_72 ∧ z_72 ≤ K := h_72
        have hb_72 := h_72.2 40 (by omega) (p0)
        refine j_iconst SS dX0_lastRow_75 ?_
        refine j_vWv SS (As := [.int (J (u.1.2.2.1 r)), .int (J z_67), .int (J z_72), .int (J 0)]) (rest := []) (c_X0_setFewest l D q (sI u 5 f1) A (cW_D hD)  (u.1.2.2.1 r) z_67 z_72 0 (show (-40 ≤ (u.2.2.2 13) ∧ (u.2.2.2 13) ≤ 40) ∧ (-40 ≤ (u.2.2.2 14) ∧ (u.2.2.2 14) ≤ 40) ∧ (-79 ≤ (u.2.2.2 15) ∧ (u.2.2.2 15) ≤ 81) ∧ (-79 ≤ (u.2.2.2 16) ∧ (u.2.2.2 16) ≤ 81) from (by omega)) (show -2147483648 ≤ (u.1.2.2.1 r) ∧ (u.1.2.2.1 r) ≤ 2147483647 from (by omega)) (show -2000000 ≤ z_67 ∧ z_67 ≤ 2000000 from (by omega)) (show -2000000 ≤ z_72 ∧ z_72 ≤ 2000000 from (by omega)) (show 0 ≤ (0 : Int) ∧ (0 : Int) ≤ 1000000 from (by omega)) (show ∀ k : Nat, 0 ≤ f1 k ∧ f1 k ≤ 1000000 from (i5_1))) mf_X0_setFewest kw_753 hG hP hP (ci := 0) (q0 := 5) rfl rfl rfl hS (fun _ h => h) rfl hl.1 ⟨⟨Nat.le_of_ble_eq_true rfl, Nat.le_of_ble_eq_true rfl⟩, Nat.le_of_ble_eq_true rfl, Nat.le_refl _, Nat.le_refl _⟩ rfl dX0_lastRow_76 (fun u76 H locs h_76 hP _ hS => ?_)
        obtain ⟨f_76, rfl, h_76⟩ := h_76
        have hP : va_P D.1 j_cl (cW D q (sI u 5 f_76)) H := hP
        have h_76 : ∀ k : Nat, 0 ≤ f_76 k ∧ f_76 k ≤ 1000000 := h_76
        exact W.vret SS.1 SS.2.1 hr (fun t0 ht hW => ⟨⟨(sI u 5 f_76), rfl, (⟨f_76, rfl, h_76⟩), by show va_P D.1 j_cl (cW D q (sI u 5 f_76)) t0.heap; rw [ht]; first | exact hP | (simp only [sC_id, sX_id, sY_id, sH_id, sT_id, sV_id]; exact hP)⟩, hS.F ht⟩) hS.2.2 dX0_lastRow_79 hlk
      · skip
        refine lv_aload_n SS.1 SS.2.1 dX0_lastRow_18 rfl (lv_at hl 0 rfl) ?_
        refine j_get SS hG hP 5 (v := .int (J (u.2.2.2 14))) (C := RX0) (T := TX0) (N := 14) rfl rfl inX0 8 (by decide) (ref := "GridPolygons$Choices") kw_252 rfl rfl dX0_lastRow_19 ?_
        refine lv_istore_n (lv' := [(3, .int (J (u.2.2.2 14))), (0, .ref (q 5)), (1, .ref (q (9 + 5 * r))), (2, .int (J x))]) SS.1 SS.2.1 dX0_lastRow_22 rfl hl (by decide) rfl (fun ls hl => ?_)
        have L_23 : ∀ (nn : Nat) (y : Int) (f2 : Nat → Int) (H : Heap) (locs : List Loc) (hP : va_P D.1 j_cl (cW D q (sI u 5 f2)) H) (hS : va_S A st.heap H locs) (ls : Array Slot) (hl : lv_has ls 4 [(0, .ref (q 5)), (1, .ref (q (9 + 5 * r))), (2, .int (J x)), (3, .int (J y))]) (i23_0 : -40 ≤ y ∧ y ≤ 200) (i23_1 : ∀ k : Nat, 0 ≤ f2 k ∧ f2 k ≤ 1000000), ((200 : Int) - y).toNat < nn → W pr l en (headSpec (jw yX0_lastRow cX0_lastRow 4 none) (jr 2 50)).room st mi (([.ref (q 5), .ref (q (9 + 5 * r))] : List Value).toArray) below meth co H locs 0 0 (MQ below (jWv (fun u' => ∃ f : Nat → Int, u' = (sI u 5 f) ∧ (∀ k : Nat, 0 ≤ f k ∧ f k ≤ 1000000)) (fun u' H => va_P D.1 j_cl (cW D q u') H) A) (([.ref (q 5), .ref (q (9 + 5 * r))] : List Value).toArray) st 0 0 A) (F0 mi 23 ls []) := by
          intro nn
          induction nn with
          | zero => intros; omega
          | succ nn ih_23 =>
            intro y f2 H locs hP hS ls hl i23_0 i23_1 hm
            refine lv_iload_n SS.1 SS.2.1 dX0_lastRow_23 rfl (lv_at hl 3 rfl) ?_
            refine lv_aload_n SS.1 SS.2.1 dX0_lastRow_24 rfl (lv_at hl 0 rfl) ?_
            refine j_get SS hG hP 5 (v := .int (J (u.2.2.2 14))) (C := RX0) (T := TX0) (N := 14) rfl rfl inX0 8 (by decide) (ref := "GridPolygons$Choices") kw_252 rfl rfl dX0_lastRow_25 ?_
            refine lv_aload_n SS.1 SS.2.1 dX0_lastRow_28 rfl (lv_at hl 0 rfl) ?_
            refine j_get SS hG hP 5 (v := .int (J (u.2.2.2 16))) (C := RX0) (T := TX0) (N := 14) rfl rfl inX0 10 (by decide) (ref := "GridPolygons$Choices") kw_254 rfl rfl dX0_lastRow_29 ?_
            refine j_iadd SS (x := (u.2.2.2 14)) (y := (u.2.2.2 16)) dX0_lastRow_32 ?_
            refine j_icmp_ge SS (tgt := 54) (x := y) (y := ((u.2.2.2 14) + (u.2.2.2 16))) dX0_lastRow_33 (by decide) (by omega) (by omega) (fun c_33 => ?_) (fun c_33 => ?_)
            · skip
              refine lv_iinc (v := J (x + 1)) (lv' := [(2, .int (J (x + 1))), (0, .ref (q 5)), (1, .ref (q (9 + 5 * r))), (3, .int (J y))]) SS.1 SS.2.1 dX0_lastRow_54 hl (k := 2) rfl (J_add _ _) (by decide) rfl (fun ls hl => ?_)
              refine lv_goto (tgt := 5) SS.1 SS.2.1 dX0_lastRow_57 (by decide) ?_
              exact ih_5 (x + 1) f2 _ _ hP hS ls (lv_sub hl [1, 2, 0] rfl) (by omega) (i23_1) (by omega)
            · skip
              refine lv_aload_n SS.1 SS.2.1 dX0_lastRow_36 rfl (lv_at hl 0 rfl) ?_
              refine lv_aload_n SS.1 SS.2.1 dX0_lastRow_37 rfl (lv_at hl 1 rfl) ?_
              refine j_getS SS hG hP (9 + 5 * r) (v := .int (J (u.1.2.2.1 r))) (C := RX7) (T := TX7) (N := 3) (cw_ring (by omega)) rfl inX7 2 (by decide) (ref := "GridPolygons$Ring") kw_139 kw_132 rfl dX0_lastRow_38 ?_
              refine lv_iload_n SS.1 SS.2.1 dX0_lastRow_41 rfl (lv_at hl 2 rfl) ?_
              refine lv_iload_n SS.1 SS.2.1 dX0_lastRow_42 rfl (lv_at hl 3 rfl) ?_
              refine j_ldc SS (1000000) kw_748 dX0_lastRow_43 ?_
              refine j_vWv SS (As := [.int (J (u.1.2.2.1 r)), .int (J x), .int (J y), .int (J (1000000))]) (rest := []) (c_X0_setFewest l D q (sI u 5 f2) A (cW_D hD)  (u.1.2.2.1 r) x y (1000000) (show (-40 ≤ (u.2.2.2 13) ∧ (u.2.2.2 13) ≤ 40) ∧ (-40 ≤ (u.2.2.2 14) ∧ (u.2.2.2 14) ≤ 40) ∧ (-79 ≤ (u.2.2.2 15) ∧ (u.2.2.2 15) ≤ 81) ∧ (-79 ≤ (u.2.2.2 16) ∧ (u.2.2.2 16) ≤ 81) from (by omega)) (show -2147483648 ≤ (u.1.2.2.1 r) ∧ (u.1.2.2.1 r) ≤ 2147483647 from (by omega)) (show -2000000 ≤ x ∧ x ≤ 2000000 from (by omega)) (show -2000000 ≤ y ∧ y ≤ 2000000 from (by omega)) (show 0 ≤ (1000000 : Int) ∧ (1000000 : Int) ≤ 1000000 from (by omega)) (show ∀ k : Nat, 0 ≤ f2 k ∧ f2 k ≤ 1000000 from (i23_1))) mf_X0_setFewest kw_753 hG hP hP (ci := 0) (q0 := 5) rfl rfl rfl hS (fun _ h => h) rfl hl.1 ⟨⟨Nat.le_of_ble_eq_true rfl, Nat.le_of_ble_eq_true rfl⟩, Nat.le_of_ble_eq_true rfl, Nat.le_refl _, Nat.le_refl _⟩ rfl dX0_lastRow_45 (fun u45 H locs h_45 hP _ hS => ?_)
              obtain ⟨f_45, rfl, h_45⟩ := h_45
              have hP : va_P D.1 j_cl (cW D q (sI u 5 f_45)) H := hP
              have h_45 : ∀ k : Nat, 0 ≤ f_45 k ∧ f_45 k ≤ 1000000 := h_45
              refine lv_iinc (v := J (y + 1)) (lv' := [(3, .int (J (y + 1))), (0, .ref (q 5)), (1, .ref (q (9 + 5 * r))), (2, .int (J x))]) SS.1 SS.2.1 dX0_lastRow_48 hl (k := 3) rfl (J_add _ _) (by decide) rfl (fun ls hl => ?_)
              refine lv_goto (tgt := 23) SS.1 SS.2.1 dX0_lastRow_51 (by decide) ?_
              exact ih_23 (y + 1) f_45 _ _ hP hS ls (lv_sub hl [1, 2, 3, 0] rfl) (by omega) (h_45) (by omega)
        exact L_23 (((200 : Int) - (u.2.2.2 14)).toNat + 1) (u.2.2.2 14) f1 _ _ hP hS ls (lv_sub hl [1, 2, 3, 0] rfl) (by omega) (i5_1) (Nat.lt_succ_self _)
  exact L_5 (((200 : Int) - (u.2.2.2 13)).toNat + 1) (u.2.2.2 13) (u.2.1 5) _ _ hP hS ls (lv_sub hl [1, 2, 0] rfl) (by omega) (p2) (Nat.lt_succ_self _)

set_option maxHeartbeats 4000000 in
set_option maxRecDepth 100000 in
theorem c_X0_fillRow (l : Launch) (D : JD) (q : Nat → Nat) (u : CS) (A : Nat → Prop) (hD : va_D A (cW D q u)) (sd : Int) (p0 : (-40 ≤ u.2.2.2 13 ∧ u.2.2.2 13 ≤ 40) ∧ (-40 ≤ u.2.2.2 14 ∧ u.2.2.2 14 ≤ 40) ∧ (-79 ≤ u.2.2.2 15 ∧ u.2.2.2 15 ≤ 81) ∧ (-79 ≤ u.2.2.2 16 ∧ u.2.2.2 16 ≤ 81)) (p1 : (0 ≤ u.2.2.2 17 ∧ u.2.2.2 17 ≤ 80) ∧ (-80 ≤ u.2.2.2 18 ∧ u.2.2.2 18 ≤ 80) ∧ (-80 ≤ u.2.2.2 19 ∧ u.2.2.2 19 ≤ 80)) (p2 : 0 ≤ sd ∧ sd ≤ 30) (p3 : ∀ k : Nat, 0 ≤ u.2.1 5 k ∧ u.2.1 5 k ≤ 1000000) : Met l yX0_fillRow (jw yX0_fillRow cX0_fillRow 4 none) (jr 2 51) (jP [.ref (q 5), .int (J sd)] D (fun H => va_P D.1 j_cl (cW D q u) H)) (jWv (fun u' => ∃ f : Nat → Int, u' = (sI u 5 f) ∧ (∀ k : Nat, 0 ≤ f k ∧ f k ≤ 1000000)) (fun u' H => va_P D.1 j_cl (cW D q u') H) A) 0 0 A := by
  refine Met.ofW (cc := cX0_fillRow) (maxL := 4) (ret := none) (by decide) rfl ?_
  intro pr en st mi args below meth co s₁ B hml hv
  obtain ⟨rfl, hG, hP⟩ := hv
  have hr := B.returns
  have hlk := B.notSynchronized
  have SS : jS pr mi co cX0_fillRow 4 st _ RX0 := ⟨B.exec, B.bytes, hml, findClass_of_methodNamed B.named, fun w hw => atoms_spec (ws := (jw yX0_fillRow cX0_fillRow 4 none)) B.pre w (List.mem_cons_of_mem _ hw)⟩
  have hl := lv_entry ([.ref (q 5), .int (J sd)]) (n := 4) (Nat.le_of_ble_eq_true rfl)
  rw [lg_entry_eq]
  generalize (lg_sl ([.ref (q 5), .int (J sd)]) ++ List.replicate (4 - (lg_sl ([.ref (q 5), .int (J sd)])).length) Slot.unset).toArray = ls at hl ⊢
  have hl : lv_has ls 4 [(0, .ref (q 5)), (1, .int (J sd))] := hl
  have hS : va_S A st.heap st.heap [] := va_S.rf
  refine lv_aload_n SS.1 SS.2.1 dX0_fillRow_0 rfl (lv_at hl 0 rfl) ?_
  refine j_get SS hG hP 5 (v := .int (J (u.2.2.2 13))) (C := RX0) (T := TX0) (N := 14) rfl rfl inX0 7 (by decide) (ref := "GridPolygons$Choices") kw_251 rfl rfl dX0_fillRow_1 ?_
  refine lv_istore_n (lv' := [(2, .int (J (u.2.2.2 13))), (0, .ref (q 5)), (1, .int (J sd))]) SS.1 SS.2.1 dX0_fillRow_4 rfl hl (by decide) rfl (fun ls hl => ?_)
  have L_5 : ∀ (nn : Nat) (x : Int) (f1 : Nat → Int) (H : Heap) (locs : List Loc) (hP : va_P D.1 j_cl (cW D q (sI u 5 f1)) H) (hS : va_S A st.heap H locs) (ls : Array Slot) (hl : lv_has ls 4 [(0, .ref (q 5)), (1, .int (J sd)), (2, .int (J x))]) (i5_0 : -40 ≤ x ∧ x ≤ 200) (i5_1 : ∀ k : Nat, 0 ≤ f1 k ∧ f1 k ≤ 1000000), ((200 : Int) - x).toNat < nn → W pr l en (headSpec (jw yX0_fillRow cX0_fillRow 4 none) (jr 2 51)).room st mi (([.ref (q 5), .int (J sd)] : List Value).toArray) below meth co H locs 0 0 (MQ below (jWv (fun u' => ∃ f : Nat → Int, u' = (sI u 5 f) ∧ (∀ k : Nat, 0 ≤ f k ∧ f k ≤ 1000000)) (fun u' H => va_P D.1 j_cl (cW D q u') H) A) (([.ref (q 5), .int (J sd)] : List Value).toArray) st 0 0 A) (F0 mi 5 ls []) := by
    intro nn
    induction nn with
    | zero => intros; omega
    | succ nn ih_5 =>
      intro x f1 H locs hP hS ls hl i5_0 i5_1 hm
      refine lv_iload_n SS.1 SS.2.1 dX0_fillRow_5 rfl (lv_at hl 2 rfl) ?_
      refine lv_aload_n SS.1 SS.2.1 dX0_fillRow_6 rfl (lv_at hl 0 rfl) ?_
      refine j_get SS hG hP 5 (v := .int (J (u.2.2.2 13))) (C := RX0) (T := TX0) (N := 14) rfl rfl inX0 7 (by decide) (ref := "GridPolygons$Choices") kw_251 rfl rfl dX0_fillRow_7 ?_
      refine lv_aload_n SS.1 SS.2.1 dX0_fillRow_10 rfl (lv_at hl 0 rfl) ?_
      refine j_get SS hG hP 5 (v := .int (J (u.2.2.2 15))) (C := RX0) (T := TX0) (N := 14) rfl rfl inX0 9 (by decide) (ref := "GridPolygons$Choices") kw_253 rfl rfl dX0_fillRow_11 ?_
      refine j_iadd SS (x := (u.2.2.2 13)) (y := (u.2.2.2 15)) dX0_fillRow_14 ?_
      refine j_icmp_ge SS (tgt := 62) (x := x) (y := ((u.2.2.2 13) + (u.2.2.2 15))) dX0_fillRow_15 (by decide) (by omega) (by omega) (fun c_15 => ?_) (fun c_15 => ?_)
      · skip
        exact W.vret SS.1 SS.2.1 hr (fun t0 ht hW => ⟨⟨(sI u 5 f1), rfl, (⟨f1, rfl, i5_1⟩), by show va_P D.1 j_cl (cW D q (sI u 5 f1)) t0.heap; rw [ht]; first | exact hP | (simp only [sC_id, sX_id, sY_id, sH_id, sT_id, sV_id]; exact hP)⟩, hS.F ht⟩) hS.2.2 dX0_fillRow_62 hlk
      · skip
        refine lv_aload_n SS.1 SS.2.1 dX0_fillRow_18 rfl (lv_at hl 0 rfl) ?_
        refine j_get SS hG hP 5 (v := .int (J (u.2.2.2 14))) (C := RX0) (T := TX0) (N := 14) rfl rfl inX0 8 (by decide) (ref := "GridPolygons$Choices") kw_252 rfl rfl dX0_fillRow_19 ?_
        refine lv_istore_n (lv' := [(3, .int (J (u.2.2.2 14))), (0, .ref (q 5)), (1, .int (J sd)), (2, .int (J x))]) SS.1 SS.2.1 dX0_fillRow_22 rfl hl (by decide) rfl (fun ls hl => ?_)
        have L_23 : ∀ (nn : Nat) (y : Int) (f2 : Nat → Int) (H : Heap) (locs : List Loc) (hP : va_P D.1 j_cl (cW D q (sI u 5 f2)) H) (hS : va_S A st.heap H locs) (ls : Array Slot) (hl : lv_has ls 4 [(0, .ref (q 5)), (1, .int (J sd)), (2, .int (J x)), (3, .int (J y))]) (i23_0 : -40 ≤ y ∧ y ≤ 200) (i23_1 : ∀ k : Nat, 0 ≤ f2 k ∧ f2 k ≤ 1000000), ((200 : Int) - y).toNat < nn → W pr l en (headSpec (jw yX0_fillRow cX0_fillRow 4 none) (jr 2 51)).room st mi (([.ref (q 5), .int (J sd)] : List Value).toArray) below meth co H locs 0 0 (MQ below (jWv (fun u' => ∃ f : Nat → Int, u' = (sI u 5 f) ∧ (∀ k : Nat, 0 ≤ f k ∧ f k ≤ 1000000)) (fun u' H => va_P D.1 j_cl (cW D q u') H) A) (([.ref (q 5), .int (J sd)] : List Value).toArray) st 0 0 A) (F0 mi 23 ls []) := by
          intro nn
          induction nn with
          | zero => intros; omega
          | succ nn ih_23 =>
            intro y f2 H locs hP hS ls hl i23_0 i23_1 hm
            refine lv_iload_n SS.1 SS.2.1 dX0_fillRow_23 rfl (lv_at hl 3 rfl) ?_
            refine lv_aload_n SS.1 SS.2.1 dX0_fillRow_24 rfl (lv_at hl 0 rfl) ?_
            refine j_get SS hG hP 5 (v := .int (J (u.2.2.2 14))) (C := RX0) (T := TX0) (N := 14) rfl rfl inX0 8 (by decide) (ref := "GridPolygons$Choices") kw_252 rfl rfl dX0_fillRow_25 ?_
            refine lv_aload_n SS.1 SS.2.1 dX0_fillRow_28 rfl (lv_at hl 0 rfl) ?_
            refine j_get SS hG hP 5 (v := .int (J (u.2.2.2 16))) (C := RX0) (T := TX0) (N := 14) rfl rfl inX0 10 (by decide) (ref := "GridPolygons$Choices") kw_254 rfl rfl dX0_fillRow_29 ?_
            refine j_iadd SS (x := (u.2.2.2 14)) (y := (u.2.2.2 16)) dX0_fillRow_32 ?_
            refine j_icmp_ge SS (tgt := 56) (x := y) (y := ((u.2.2.2 14) + (u.2.2.2 16))) dX0_fillRow_33 (by decide) (by omega) (by omega) (fun c_33 => ?_) (fun c_33 => ?_)
            · skip
              refine lv_iinc (v := J (x + 1)) (lv' := [(2, .int (J (x + 1))), (0, .ref (q 5)), (1, .int (J sd)), (3, .int (J y))]) SS.1 SS.2.1 dX0_fillRow_56 hl (k := 2) rfl (J_add _ _) (by decide) rfl (fun ls hl => ?_)
              refine lv_goto (tgt := 5) SS.1 SS.2.1 dX0_fillRow_59 (by decide) ?_
              exact ih_5 (x + 1) f2 _ _ hP hS ls (lv_sub hl [1, 2, 0] rfl) (by omega) (i23_1) (by omega)
            · skip
              refine lv_aload_n SS.1 SS.2.1 dX0_fillRow_36 rfl (lv_at hl 0 rfl) ?_
              refine lv_iload_n SS.1 SS.2.1 dX0_fillRow_37 rfl (lv_at hl 1 rfl) ?_
              refine lv_iload_n SS.1 SS.2.1 dX0_fillRow_38 rfl (lv_at hl 2 rfl) ?_
              refine lv_iload_n SS.1 SS.2.1 dX0_fillRow_39 rfl (lv_at hl 3 rfl) ?_
              refine lv_aload_n SS.1 SS.2.1 dX0_fillRow_40 rfl (lv_at hl 0 rfl) ?_
              refine lv_iload_n SS.1 SS.2.1 dX0_fillRow_41 rfl (lv_at hl 1 rfl) ?_
              refine lv_iload_n SS.1 SS.2.1 dX0_fillRow_42 rfl (lv_at hl 2 rfl) ?_
              refine lv_iload_n SS.1 SS.2.1 dX0_fillRow_43 rfl (lv_at hl 3 rfl) ?_
              refine j_vRi SS (As := [.int (J sd), .int (J x), .int (J y)]) (rest := [.int (J y), .int (J x), .int (J sd), .ref (q 5)]) (c_X0_bestFrom l D q (sI u 5 f2)  sd x y (show (-40 ≤ (u.2.2.2 13) ∧ (u.2.2.2 13) ≤ 40) ∧ (-40 ≤ (u.2.2.2 14) ∧ (u.2.2.2 14) ≤ 40) ∧ (-79 ≤ (u.2.2.2 15) ∧ (u.2.2.2 15) ≤ 81) ∧ (-79 ≤ (u.2.2.2 16) ∧ (u.2.2.2 16) ≤ 81) from (by omega)) (show (0 ≤ (u.2.2.2 17) ∧ (u.2.2.2 17) ≤ 80) ∧ (-80 ≤ (u.2.2.2 18) ∧ (u.2.2.2 18) ≤ 80) ∧ (-80 ≤ (u.2.2.2 19) ∧ (u.2.2.2 19) ≤ 80) from (by omega)) (show 0 ≤ sd ∧ sd ≤ 1000 from (by omega)) (show -1000 ≤ x ∧ x ≤ 1000 from (by omega)) (show -1000 ≤ y ∧ y ≤ 1000 from (by omega)) (show ∀ k : Nat, 0 ≤ f2 k ∧ f2 k ≤ 1000000 from (i23_1))) mf_X0_bestFrom kw_773 hG hP hP (ci := 0) (q0 := 5) rfl rfl rfl rfl hl.1 ⟨⟨Nat.le_of_ble_eq_true rfl, Nat.le_of_ble_eq_true rfl⟩, Nat.le_of_ble_eq_true rfl, Nat.le_refl _, Nat.le_refl _⟩ rfl dX0_fillRow_44 (fun z_44 h_44 => ?_)
              have h_44 : 0 ≤ z_44 ∧ z_44 ≤ 1000000 := h_44
              refine j_vWv SS (As := [.int (J sd), .int (J x), .int (J y), .int (J z_44)]) (rest := []) (c_X0_setFewest l D q (sI u 5 f2) A (cW_D hD)  sd x y z_44 (show (-40 ≤ (u.2.2.2 13) ∧ (u.2.2.2 13) ≤ 40) ∧ (-40 ≤ (u.2.2.2 14) ∧ (u.2.2.2 14) ≤ 40) ∧ (-79 ≤ (u.2.2.2 15) ∧ (u.2.2.2 15) ≤ 81) ∧ (-79 ≤ (u.2.2.2 16) ∧ (u.2.2.2 16) ≤ 81) from (by omega)) (show -2147483648 ≤ sd ∧ sd ≤ 2147483647 from (by omega)) (show -2000000 ≤ x ∧ x ≤ 2000000 from (by omega)) (show -2000000 ≤ y ∧ y ≤ 2000000 from (by omega)) (show 0 ≤ z_44 ∧ z_44 ≤ 1000000 from (by omega)) (show ∀ k : Nat, 0 ≤ f2 k ∧ f2 k ≤ 1000000 from (i23_1))) mf_X0_setFewest kw_753 hG hP hP (ci := 0) (q0 := 5) rfl rfl rfl hS (fun _ h => h) rfl hl.1 ⟨⟨Nat.le_of_ble_eq_true rfl, Nat.le_of_ble_eq_true rfl⟩, Nat.le_of_ble_eq_true rfl, Nat.le_refl _, Nat.le_refl _⟩ rfl dX0_fillRow_47 (fun u47 H locs h_47 hP _ hS => ?_)
              obtain ⟨f_47, rfl, h_47⟩ := h_47
              have hP : va_P D.1 j_cl (cW D q (sI u 5 f_47)) H := hP
              have h_47 : ∀ k : Nat, 0 ≤ f_47 k ∧ f_47 k ≤ 1000000 := h_47
              refine lv_iinc (v := J (y + 1)) (lv' := [(3, .int (J (y + 1))), (0, .ref (q 5)), (1, .int (J sd)), (2, .int (J x))]) SS.1 SS.2.1 dX0_fillRow_50 hl (k := 3) rfl (J_add _ _) (by decide) rfl (fun ls hl => ?_)
              refine lv_goto (tgt := 23) SS.1 SS.2.1 dX0_fillRow_53 (by decide) ?_
              exact ih_23 (y + 1) f_47 _ _ hP hS ls (lv_sub hl [1, 2, 3, 0] rfl) (by omega) (h_47) (by omega)
        exact L_23 (((200 : Int) - (u.2.2.2 14)).toNat + 1) (u.2.2.2 14) f1 _ _ hP hS ls (lv_sub hl [1, 2, 3, 0] rfl) (by omega) (i5_1) (Nat.lt_succ_self _)
  exact L_5 (((200 : Int) - (u.2.2.2 13)).toNat + 1) (u.2.2.2 13) (u.2.1 5) _ _ hP hS ls (lv_sub hl [1, 2, 0] rfl) (by omega) (p3) (Nat.lt_succ_self _)

set_option maxHeartbeats 4000000 in
set_option maxRecDepth 100000 in
theorem c_X0_beginAt (l : Launch) (D : JD) (q : Nat → Nat) (u : CS) (A : Nat → Prop) (hD : va_D A (cW D q u)) (r : Nat) (hr : r ≤ 8) (sd : Int) (p0 : RB 40 u r) (p1 : (-40 ≤ u.2.2.2 13 ∧ u.2.2.2 13 ≤ 40) ∧ (-40 ≤ u.2.2.2 14 ∧ u.2.2.2 14 ≤ 40) ∧ (-79 ≤ u.2.2.2 15 ∧ u.2.2.2 15 ≤ 81) ∧ (-79 ≤ u.2.2.2 16 ∧ u.2.2.2 16 ≤ 81)) (p2 : (0 ≤ u.2.2.2 17 ∧ u.2.2.2 17 ≤ 80) ∧ (-80 ≤ u.2.2.2 18 ∧ u.2.2.2 18 ≤ 80) ∧ (-80 ≤ u.2.2.2 19 ∧ u.2.2.2 19 ≤ 80)) (p3 : -2147483648 ≤ sd ∧ sd ≤ 2147483647) (p4 : ∀ k : Nat, 0 ≤ u.2.1 5 k ∧ u.2.1 5 k ≤ 1000000) (p5 : ∀ k : Nat, 0 ≤ u.2.1 6 k ∧ u.2.1 6 k ≤ 80) (p6 : (0 ≤ u.2.2.2 10 ∧ u.2.2.2 10 ≤ 1000000)) (p7 : (0 ≤ u.2.2.2 11 ∧ u.2.2.2 11 ≤ 23)) : Met l yX0_beginAt (jw yX0_beginAt cX0_beginAt 5 none) (jr 2 48) (jP [.ref (q 5), .ref (q (9 + 5 * r)), .int (J sd)] D (fun H => va_P D.1 j_cl (cW D q u) H)) (jWv (fun u' => ∃ to9 : Int, ∃ fi : Int, ∃ t9 : Nat → Int, u' = (sV (sV (sI u 6 t9) 10 to9) 11 fi) ∧ ((0 ≤ to9 ∧ to9 ≤ 1000000) ∧ (0 ≤ fi ∧ fi ≤ 23) ∧ (∀ k : Nat, 0 ≤ t9 k ∧ t9 k ≤ 80))) (fun u' H => va_P D.1 j_cl (cW D q u') H) A) 0 0 A := by
  refine Met.ofW (cc := cX0_beginAt) (maxL := 5) (ret := none) (by decide) rfl ?_
  intro pr en st mi args below meth co s₁ B hml hv
  obtain ⟨rfl, hG, hP⟩ := hv
  have hr := B.returns
  have hlk := B.notSynchronized
  have SS : jS pr mi co cX0_beginAt 5 st _ RX0 := ⟨B.exec, B.bytes, hml, findClass_of_methodNamed B.named, fun w hw => atoms_spec (ws := (jw yX0_beginAt cX0_beginAt 5 none)) B.pre w (List.mem_cons_of_mem _ hw)⟩
  have hl := lv_entry ([.ref (q 5), .ref (q (9 + 5 * r)), .int (J sd)]) (n := 5) (Nat.le_of_ble_eq_true rfl)
  rw [lg_entry_eq]
  generalize (lg_sl ([.ref (q 5), .ref (q (9 + 5 * r)), .int (J sd)]) ++ List.replicate (5 - (lg_sl ([.ref (q 5), .ref (q (9 + 5 * r)), .int (J sd)])).length) Slot.unset).toArray = ls at hl ⊢
  have hl : lv_has ls 5 [(0, .ref (q 5)), (1, .ref (q (9 + 5 * r))), (2, .int (J sd))] := hl
  have hS : va_S A st.heap st.heap [] := va_S.rf
  have hc := p0.1
  have hrl := rl_b r
  refine lv_iload_n SS.1 SS.2.1 dX0_beginAt_0 rfl (lv_at hl 2 rfl) ?_
  refine j_if_lt SS (tgt := 13) (x := sd) dX0_beginAt_1 (by decide) (by omega) (fun c_1 => ?_) (fun c_1 => ?_)
  · skip
    exact W.vret SS.1 SS.2.1 hr (fun t0 ht hW => ⟨⟨(sV (sV (sI u 6 (u.2.1 6)) 10 (u.2.2.2 10)) 11 (u.2.2.2 11)), rfl, (⟨(u.2.2.2 10), (u.2.2.2 11), (u.2.1 6), rfl, ⟨by omega, by omega, p5⟩⟩), by show va_P D.1 j_cl (cW D q (sV (sV (sI u 6 (u.2.1 6)) 10 (u.2.2.2 10)) 11 (u.2.2.2 11))) t0.heap; rw [ht]; first | exact hP | (simp only [sI_id, sL_id, sC_id, sX_id, sY_id, sH_id, sT_id, sV_id]; exact hP)⟩, hS.F ht⟩) hS.2.2 dX0_beginAt_13 hlk
  · skip
    refine lv_iload_n SS.1 SS.2.1 dX0_beginAt_4 rfl (lv_at hl 2 rfl) ?_
    refine lv_aload_n SS.1 SS.2.1 dX0_beginAt_5 rfl (lv_at hl 0 rfl) ?_
    refine j_get SS hG hP 5 (v := .ref (q 63)) (C := RX0) (T := TX0) (N := 14) rfl rfl inX0 3 (by decide) (ref := "GridPolygons$Choices") kw_246 rfl rfl dX0_beginAt_6 ?_
    refine va_alen SS.1 SS.2.1 hG.1 hP 63 0 rfl rfl (v := J (24 : Int)) (by first | rfl | exact J_nat _) dX0_beginAt_9 ?_
    refine j_icmp_lt SS (tgt := 14) (x := sd) (y := 24) dX0_beginAt_10 (by decide) (by omega) (by decide) (fun c_10 => ?_) (fun c_10 => ?_)
    · skip
      refine j_iconst SS dX0_beginAt_14 ?_
      refine lv_istore_n (lv' := [(3, .int (J 1)), (0, .ref (q 5)), (1, .ref (q (9 + 5 * r))), (2, .int (J sd))]) SS.1 SS.2.1 dX0_beginAt_15 rfl hl (by decide) rfl (fun ls hl => ?_)
      have L_16 : ∀ (nn : Nat) (k : Int) (t1 : Int) (f1 : Int) (k1 : Nat → Int) (H : Heap) (locs : List Loc) (hP : va_P D.1 j_cl (cW D q (sV (sV (sI u 6 k1) 10 t1) 11 f1)) H) (hS : va_S A st.heap H locs) (ls : Array Slot) (hl : lv_has ls 5 [(0, .ref (q 5)), (1, .ref (q (9 + 5 * r))), (2, .int (J sd)), (3, .int (J k))]) (i16_0 : 1 ≤ k ∧ k ≤ 81) (i16_1 : 0 ≤ t1 ∧ t1 ≤ 1000000) (i16_2 : 0 ≤ f1 ∧ f1 ≤ 23) (i16_3 : ∀ k : Nat, 0 ≤ k1 k ∧ k1 k ≤ 80), ((81 : Int) - k).toNat < nn → W pr l en (headSpec (jw yX0_beginAt cX0_beginAt 5 none) (jr 2 48)).room st mi (([.ref (q 5), .ref (q (9 + 5 * r)), .int (J sd)] : List Value).toArray) below meth co H locs 0 0 (MQ below (jWv (fun u' => ∃ to9 : Int, ∃ fi : Int, ∃ t9 : Nat → Int, u' = (sV (sV (sI u 6 t9) 10 to9) 11 fi) ∧ ((0 ≤ to9 ∧ to9 ≤ 1000000) ∧ (0 ≤ fi ∧ fi ≤ 23) ∧ (∀ k : Nat, 0 ≤ t9 k ∧ t9 k ≤ 80))) (fun u' H => va_P D.1 j_cl (cW D q u') H) A) (([.ref (q 5), .ref (q (9 + 5 * r)), .int (J sd)] : List Value).toArray) st 0 0 A) (F0 mi 16 ls []) := by
        intro nn
        induction nn with
        | zero => intros; omega
        | succ nn ih_16 =>
          intro k t1 f1 k1 H locs hP hS ls hl i16_0 i16_1 i16_2 i16_3 hm
          refine lv_iload_n SS.1 SS.2.1 dX0_beginAt_16 rfl (lv_at hl 3 rfl) ?_
          refine lv_aload_n SS.1 SS.2.1 dX0_beginAt_17 rfl (lv_at hl 0 rfl) ?_
          refine j_get SS hG hP 5 (v := .int (J (u.2.2.2 17))) (C := RX0) (T := TX0) (N := 14) rfl rfl inX0 11 (by decide) (ref := "GridPolygons$Choices") kw_255 rfl rfl dX0_beginAt_18 ?_
          refine j_icmp_gt SS (tgt := 92) (x := k) (y := (u.2.2.2 17)) dX0_beginAt_21 (by decide) (by omega) (by omega) (fun c_21 => ?_) (fun c_21 => ?_)
          · skip
            exact W.vret SS.1 SS.2.1 hr (fun t0 ht hW => ⟨⟨(sV (sV (sI u 6 k1) 10 t1) 11 f1), rfl, (⟨t1, f1, k1, rfl, ⟨by omega, by omega, i16_3⟩⟩), by show va_P D.1 j_cl (cW D q (sV (sV (sI u 6 k1) 10 t1) 11 f1)) t0.heap; rw [ht]; first | exact hP | (simp only [sI_id, sL_id, sC_id, sX_id, sY_id, sH_id, sT_id, sV_id]; exact hP)⟩, hS.F ht⟩) hS.2.2 dX0_beginAt_92 hlk
          · skip
            refine lv_iload_n SS.1 SS.2.1 dX0_beginAt_24 rfl (lv_at hl 3 rfl) ?_
            refine lv_aload_n SS.1 SS.2.1 dX0_beginAt_25 rfl (lv_at hl 0 rfl) ?_
            refine lv_iload_n SS.1 SS.2.1 dX0_beginAt_26 rfl (lv_at hl 2 rfl) ?_
            refine j_iconst SS dX0_beginAt_27 ?_
            refine j_iadd SS (x := sd) (y := 1) dX0_beginAt_28 ?_
            refine lv_aload_n SS.1 SS.2.1 dX0_beginAt_29 rfl (lv_at hl 1 rfl) ?_
            refine j_iconst SS dX0_beginAt_30 ?_
            refine j_uRi SS (As := [.int (J 0)]) (rest := [.int (J (sd + 1)), .ref (q 5), .int (J k)]) (c_X8_x l D q (sV (sV (sI u 6 k1) 10 t1) 11 f1) r (by omega) 0 (show -2147483648 ≤ (0 : Int) ∧ (0 : Int) ≤ 2147483647 from (by omega))) mu_7_x kw_715 hG hP hP (ci := 7) (q0 := (9 + 5 * r)) rfl (cw_ring (by omega)) rfl rfl hl.1 ⟨⟨Nat.le_of_ble_eq_true rfl, Nat.le_of_ble_eq_true rfl⟩, Nat.le_of_ble_eq_true rfl, Nat.le_refl _, Nat.le_refl _⟩ rfl dX0_beginAt_31 (fun z_31 h_31 => ?_)
            have h_31 : z_31 = rx (sV (sV (sI u 6 k1) 10 t1) 11 f1) r (0 : Int) ∧ ∀ K : Int, 0 ≤ K → RB K (sV (sV (sI u 6 k1) 10 t1) 11 f1) r → -K ≤ z_31 ∧ z_31 ≤ K := h_31
            have hb_31 := h_31.2 40 (by omega) (p0)
            refine lv_iload_n SS.1 SS.2.1 dX0_beginAt_34 rfl (lv_at hl 3 rfl) ?_
            refine lv_aload_n SS.1 SS.2.1 dX0_beginAt_35 rfl (lv_at hl 0 rfl) ?_
            refine j_get SS hG hP 5 (v := .int (J (u.2.2.2 18))) (C := RX0) (T := TX0) (N := 14) rfl rfl inX0 12 (by decide) (ref := "GridPolygons$Choices") kw_256 rfl rfl dX0_beginAt_36 ?_
            refine j_imul SS (x := k) (y := (u.2.2.2 18)) dX0_beginAt_39 ?_
            refine j_iadd SS (x := z_31) (y := (k * (u.2.2.2 18))) dX0_beginAt_40 ?_
            refine lv_aload_n SS.1 SS.2.1 dX0_beginAt_41 rfl (lv_at hl 1 rfl) ?_
            refine j_iconst SS dX0_beginAt_42 ?_
            refine j_uRi SS (As := [.int (J 0)]) (rest := [.int (J (z_31 + (k * (u.2.2.2 18)))), .int (J (sd + 1)), .ref (q 5), .int (J k)]) (c_X8_y l D q (sV (sV (sI u 6 k1) 10 t1) 11 f1) r (by omega) 0 (show -2147483648 ≤ (0 : Int) ∧ (0 : Int) ≤ 2147483647 from (by omega))) mu_7_y kw_716 hG hP hP (ci := 7) (q0 := (9 + 5 * r)) rfl (cw_ring (by omega)) rfl rfl hl.1 ⟨⟨Nat.le_of_ble_eq_true rfl, Nat.le_of_ble_eq_true rfl⟩, Nat.le_of_ble_eq_true rfl, Nat.le_refl _, Nat.le_refl _⟩ rfl dX0_beginAt_43 (fun z_43 h_43 => ?_)
            have h_43 : z_43 = ry9 (sV (sV (sI u 6 k1) 10 t1) 11 f1) r (0 : Int) ∧ ∀ K : Int, 0 ≤ K → RB K (sV (sV (sI u 6 k1) 10 t1) 11 f1) r → -K ≤ z_43 ∧ z_43 ≤ K := h_43
            have hb_43 := h_43.2 40 (by omega) (p0)
            refine lv_iload_n SS.1 SS.2.1 dX0_beginAt_46 rfl (lv_at hl 3 rfl) ?_
            refine lv_aload_n SS.1 SS.2.1 dX0_beginAt_47 rfl (lv_at hl 0 rfl) ?_
            refine j_get SS hG hP 5 (v := .int (J (u.2.2.2 19))) (C := RX0) (T := TX0) (N := 14) rfl rfl inX0 13 (by decide) (ref := "GridPolygons$Choices") kw_257 rfl rfl dX0_beginAt_48 ?_
            refine j_imul SS (x := k) (y := (u.2.2.2 19)) dX0_beginAt_51 ?_
            refine j_iadd SS (x := z_43) (y := (k * (u.2.2.2 19))) dX0_beginAt_52 ?_
            have m1 := mulb (A := 81) (B := 80) (a := k) (b := u.2.2.2 18) (by omega) (by omega)
            have m2 := mulb (A := 81) (B := 80) (a := k) (b := u.2.2.2 19) (by omega) (by omega)
            refine j_vRi SS (As := [.int (J (sd + 1)), .int (J (z_31 + (k * (u.2.2.2 18)))), .int (J (z_43 + (k * (u.2.2.2 19))))]) (rest := [.int (J k)]) (c_X0_fewestFrom l D q (sV (sV (sI u 6 k1) 10 t1) 11 f1)  (sd + 1) (z_31 + (k * (u.2.2.2 18))) (z_43 + (k * (u.2.2.2 19))) (show (-40 ≤ (u.2.2.2 13) ∧ (u.2.2.2 13) ≤ 40) ∧ (-40 ≤ (u.2.2.2 14) ∧ (u.2.2.2 14) ≤ 40) ∧ (-79 ≤ (u.2.2.2 15) ∧ (u.2.2.2 15) ≤ 81) ∧ (-79 ≤ (u.2.2.2 16) ∧ (u.2.2.2 16) ≤ 81) from (by omega)) (show -2147483648 ≤ (sd + 1) ∧ (sd + 1) ≤ 2147483647 from (by omega)) (show -2000000 ≤ (z_31 + (k * (u.2.2.2 18))) ∧ (z_31 + (k * (u.2.2.2 18))) ≤ 2000000 from (by omega)) (show -2000000 ≤ (z_43 + (k * (u.2.2.2 19))) ∧ (z_43 + (k * (u.2.2.2 19))) ≤ 2000000 from (by omega)) (show ∀ k : Nat, 0 ≤ (u.2.1 5) k ∧ (u.2.1 5) k ≤ 1000000 from (p4))) mf_X0_fewestFrom kw_761 hG hP hP (ci := 0) (q0 := 5) rfl rfl rfl rfl hl.1 ⟨⟨Nat.le_of_ble_eq_true rfl, Nat.le_of_ble_eq_true rfl⟩, Nat.le_of_ble_eq_true rfl, Nat.le_refl _, Nat.le_refl _⟩ rfl dX0_beginAt_53 (fun z_53 h_53 => ?_)
            have h_53 : 0 ≤ z_53 ∧ z_53 ≤ 1000000 := h_53
            refine j_iadd SS (x := k) (y := z_53) dX0_beginAt_56 ?_
            refine lv_istore (lv' := [(4, .int (J (k + z_53))), (0, .ref (q 5)), (1, .ref (q (9 + 5 * r))), (2, .int (J sd)), (3, .int (J k))]) SS.1 SS.2.1 dX0_beginAt_57 hl (by decide) rfl (fun ls hl => ?_)
            refine lv_iload SS.1 SS.2.1 dX0_beginAt_59 (lv_at hl 0 rfl) ?_
            refine lv_aload_n SS.1 SS.2.1 dX0_beginAt_61 rfl (lv_at hl 1 rfl) ?_
            refine j_get SS hG hP 5 (v := .int (J t1)) (C := RX0) (T := TX0) (N := 14) rfl rfl inX0 4 (by decide) (ref := "GridPolygons$Choices") kw_247 rfl rfl dX0_beginAt_62 ?_
            refine j_icmp_ge SS (tgt := 86) (x := (k + z_53)) (y := t1) dX0_beginAt_65 (by decide) (by omega) (by omega) (fun c_65 => ?_) (fun c_65 => ?_)
            · skip
              refine lv_iinc (v := J (k + 1)) (lv' := [(3, .int (J (k + 1))), (4, .int (J (k + z_53))), (0, .ref (q 5)), (1, .ref (q (9 + 5 * r))), (2, .int (J sd))]) SS.1 SS.2.1 dX0_beginAt_86 hl (k := 4) rfl (J_add _ _) (by decide) rfl (fun ls hl => ?_)
              refine lv_goto (tgt := 16) SS.1 SS.2.1 dX0_beginAt_89 (by decide) ?_
              exact ih_16 (k + 1) t1 f1 k1 _ _ hP hS ls (lv_sub hl [2, 3, 4, 0] rfl) (by omega) (by omega) (by omega) (by first | exact i16_3 | exact UP_b i16_3 (by omega)) (by omega)
            · skip
              refine lv_aload_n SS.1 SS.2.1 dX0_beginAt_68 rfl (lv_at hl 1 rfl) ?_
              refine lv_iload SS.1 SS.2.1 dX0_beginAt_69 (lv_at hl 0 rfl) ?_
              refine j_put SS hG hP (cW_D hD) hS 5 (v := .int (J (k + z_53))) (ty := .int) (C := RX0) (T := TX0) (N := 14) rfl rfl inX0 tyX0 tyX0_ok nmX0 4 (by decide) (ref := "GridPolygons$Choices") kw_247 rfl rfl (by decide +kernel) rfl rfl (Nat.le_of_ble_eq_true rfl) dX0_beginAt_71 (ws' := (cW D q (sV (sV (sI u 6 k1) 10 (k + z_53)) 11 f1))) rfl (fun H locs hP hS => ?_)
              refine lv_aload_n SS.1 SS.2.1 dX0_beginAt_74 rfl (lv_at hl 1 rfl) ?_
              refine lv_iload_n SS.1 SS.2.1 dX0_beginAt_75 rfl (lv_at hl 3 rfl) ?_
              refine j_put SS hG hP (cW_D hD) hS 5 (v := .int (J sd)) (ty := .int) (C := RX0) (T := TX0) (N := 14) rfl rfl inX0 tyX0 tyX0_ok nmX0 5 (by decide) (ref := "GridPolygons$Choices") kw_249 rfl rfl (by decide +kernel) rfl rfl (Nat.le_of_ble_eq_true rfl) dX0_beginAt_76 (ws' := (cW D q (sV (sV (sI u 6 k1) 10 (k + z_53)) 11 sd))) rfl (fun H locs hP hS => ?_)
              refine lv_aload_n SS.1 SS.2.1 dX0_beginAt_79 rfl (lv_at hl 1 rfl) ?_
              refine j_get SS hG hP 5 (v := .ref (q 63)) (C := RX0) (T := TX0) (N := 14) rfl rfl inX0 3 (by decide) (ref := "GridPolygons$Choices") kw_246 rfl rfl dX0_beginAt_80 ?_
              refine lv_iload_n SS.1 SS.2.1 dX0_beginAt_83 rfl (lv_at hl 3 rfl) ?_
              refine lv_iload_n SS.1 SS.2.1 dX0_beginAt_84 rfl (lv_at hl 4 rfl) ?_
              refine j_iast SS hG hP (cW_D hD) hS 63 (n := 24) (f := k1) rfl (z := sd) (v := k) (by omega) (by omega) dX0_beginAt_85 (ws' := (cW D q (sV (sV (sI u 6 (upI k1 (sd).toNat k)) 10 (k + z_53)) 11 sd))) rfl (fun H locs hP hS => ?_)
              refine lv_iinc (v := J (k + 1)) (lv' := [(3, .int (J (k + 1))), (4, .int (J (k + z_53))), (0, .ref (q 5)), (1, .ref (q (9 + 5 * r))), (2, .int (J sd))]) SS.1 SS.2.1 dX0_beginAt_86 hl (k := 4) rfl (J_add _ _) (by decide) rfl (fun ls hl => ?_)
              refine lv_goto (tgt := 16) SS.1 SS.2.1 dX0_beginAt_89 (by decide) ?_
              exact ih_16 (k + 1) (k + z_53) sd (upI k1 (sd).toNat k) _ _ hP hS ls (lv_sub hl [2, 3, 4, 0] rfl) (by omega) (by omega) (by omega) (by first | exact i16_3 | exact UP_b i16_3 (by omega)) (by omega)
      exact L_16 (((81 : Int) - (1 : Int)).toNat + 1) 1 (u.2.2.2 10) (u.2.2.2 11) (u.2.1 6) _ _ hP hS ls (lv_sub hl [1, 2, 3, 0] rfl) (by omega) (by omega) (by omega) (p5) (Nat.lt_succ_self _)
    · skip
      exact W.vret SS.1 SS.2.1 hr (fun t0 ht hW => ⟨⟨(sV (sV (sI u 6 (u.2.1 6)) 10 (u.2.2.2 10)) 11 (u.2.2.2 11)), rfl, (⟨(u.2.2.2 10), (u.2.2.2 11), (u.2.1 6), rfl, ⟨by omega, by omega, p5⟩⟩), by show va_P D.1 j_cl (cW D q (sV (sV (sI u 6 (u.2.1 6)) 10 (u.2.2.2 10)) 11 (u.2.2.2 11))) t0.heap; rw [ht]; first | exact hP | (simp only [sI_id, sL_id, sC_id, sX_id, sY_id, sH_id, sT_id, sV_id]; exact hP)⟩, hS.F ht⟩) hS.2.2 dX0_beginAt_13 hlk

set_option maxHeartbeats 4000000 in
set_option maxRecDepth 100000 in
theorem c_X0_firstBest (l : Launch) (D : JD) (q : Nat → Nat) (u : CS) (sd : Int) (x : Int) (y : Int) (p0 : (-40 ≤ u.2.2.2 13 ∧ u.2.2.2 13 ≤ 40) ∧ (-40 ≤ u.2.2.2 14 ∧ u.2.2.2 14 ≤ 40) ∧ (-79 ≤ u.2.2.2 15 ∧ u.2.2.2 15 ≤ 81) ∧ (-79 ≤ u.2.2.2 16 ∧ u.2.2.2 16 ≤ 81)) (p1 : (0 ≤ u.2.2.2 17 ∧ u.2.2.2 17 ≤ 80) ∧ (-80 ≤ u.2.2.2 18 ∧ u.2.2.2 18 ≤ 80) ∧ (-80 ≤ u.2.2.2 19 ∧ u.2.2.2 19 ≤ 80)) (p2 : 0 ≤ sd ∧ sd ≤ 1000) (p3 : -1000000 ≤ x ∧ x ≤ 1000000) (p4 : -1000000 ≤ y ∧ y ≤ 1000000) (p5 : ∀ k : Nat, 0 ≤ u.2.1 5 k ∧ u.2.1 5 k ≤ 1000000) : Met l yX0_firstBest (jw yX0_firstBest cX0_firstBest 6 (some .int)) (jr 2 48) (jP [.ref (q 5), .int (J sd), .int (J x), .int (J y)] D (fun H => va_P D.1 j_cl (cW D q u) H)) (jRi (fun z => 0 ≤ z ∧ z ≤ 80)) 0 0 (fun _ => False) := by
  refine Met.ofW (cc := cX0_firstBest) (maxL := 6) (ret := (some .int)) (by decide) rfl ?_
  intro pr en st mi args below meth co s₁ B hml hv
  obtain ⟨rfl, hG, hP⟩ := hv
  have hr := B.returns
  have hlk := B.notSynchronized
  have SS : jS pr mi co cX0_firstBest 6 st _ RX0 := ⟨B.exec, B.bytes, hml, findClass_of_methodNamed B.named, fun w hw => atoms_spec (ws := (jw yX0_firstBest cX0_firstBest 6 (some .int))) B.pre w (List.mem_cons_of_mem _ hw)⟩
  have hl := lv_entry ([.ref (q 5), .int (J sd), .int (J x), .int (J y)]) (n := 6) (Nat.le_of_ble_eq_true rfl)
  rw [lg_entry_eq]
  generalize (lg_sl ([.ref (q 5), .int (J sd), .int (J x), .int (J y)]) ++ List.replicate (6 - (lg_sl ([.ref (q 5), .int (J sd), .int (J x), .int (J y)])).length) Slot.unset).toArray = ls at hl ⊢
  have hl : lv_has ls 6 [(0, .ref (q 5)), (1, .int (J sd)), (2, .int (J x)), (3, .int (J y))] := hl
  refine lv_aload_n SS.1 SS.2.1 dX0_firstBest_0 rfl (lv_at hl 0 rfl) ?_
  refine lv_iload_n SS.1 SS.2.1 dX0_firstBest_1 rfl (lv_at hl 1 rfl) ?_
  refine lv_iload_n SS.1 SS.2.1 dX0_firstBest_2 rfl (lv_at hl 2 rfl) ?_
  refine lv_iload_n SS.1 SS.2.1 dX0_firstBest_3 rfl (lv_at hl 3 rfl) ?_
  refine j_vRi SS (As := [.int (J sd), .int (J x), .int (J y)]) (rest := []) (c_X0_fewestFrom l D q u  sd x y (show (-40 ≤ (u.2.2.2 13) ∧ (u.2.2.2 13) ≤ 40) ∧ (-40 ≤ (u.2.2.2 14) ∧ (u.2.2.2 14) ≤ 40) ∧ (-79 ≤ (u.2.2.2 15) ∧ (u.2.2.2 15) ≤ 81) ∧ (-79 ≤ (u.2.2.2 16) ∧ (u.2.2.2 16) ≤ 81) from (by omega)) (show -2147483648 ≤ sd ∧ sd ≤ 2147483647 from (by omega)) (show -2000000 ≤ x ∧ x ≤ 2000000 from (by omega)) (show -2000000 ≤ y ∧ y ≤ 2000000 from (by omega)) (show ∀ k : Nat, 0 ≤ (u.2.1 5) k ∧ (u.2.1 5) k ≤ 1000000 from (p5))) mf_X0_fewestFrom kw_761 hG hP hP (ci := 0) (q0 := 5) rfl rfl rfl rfl hl.1 ⟨⟨Nat.le_of_ble_eq_true rfl, Nat.le_of_ble_eq_true rfl⟩, Nat.le_of_ble_eq_true rfl, Nat.le_refl _, Nat.le_refl _⟩ rfl dX0_firstBest_4 (fun z_4 h_4 => ?_)
  have h_4 : 0 ≤ z_4 ∧ z_4 ≤ 1000000 := h_4
  refine lv_istore (lv' := [(4, .int (J z_4)), (0, .ref (q 5)), (1, .int (J sd)), (2, .int (J x)), (3, .int (J y))]) SS.1 SS.2.1 dX0_firstBest_7 hl (by decide) rfl (fun ls hl => ?_)
  refine j_iconst SS dX0_firstBest_9 ?_
  refine lv_istore (lv' := [(5, .int (J 0)), (4, .int (J z_4)), (0, .ref (q 5)), (1, .int (J sd)), (2, .int (J x)), (3, .int (J y))]) SS.1 SS.2.1 dX0_firstBest_10 hl (by decide) rfl (fun ls hl => ?_)
  have L_12 : ∀ (nn : Nat) (k : Int) (ls : Array Slot) (hl : lv_has ls 6 [(0, .ref (q 5)), (1, .int (J sd)), (2, .int (J x)), (3, .int (J y)), (4, .int (J z_4)), (5, .int (J k))]) (i12_0 : 0 ≤ k ∧ k ≤ 81), ((81 : Int) - k).toNat < nn → W pr l en (headSpec (jw yX0_firstBest cX0_firstBest 6 (some .int)) (jr 2 48)).room st mi (([.ref (q 5), .int (J sd), .int (J x), .int (J y)] : List Value).toArray) below meth co st.heap [] 0 0 (MQ below (jRi (fun z => 0 ≤ z ∧ z ≤ 80)) (([.ref (q 5), .int (J sd), .int (J x), .int (J y)] : List Value).toArray) st 0 0 (fun _ => False)) (F0 mi 12 ls []) := by
    intro nn
    induction nn with
    | zero => intros; omega
    | succ nn ih_12 =>
      intro k ls hl i12_0 hm
      refine lv_iload SS.1 SS.2.1 dX0_firstBest_12 (lv_at hl 5 rfl) ?_
      refine lv_aload_n SS.1 SS.2.1 dX0_firstBest_14 rfl (lv_at hl 0 rfl) ?_
      refine j_get SS hG hP 5 (v := .int (J (u.2.2.2 17))) (C := RX0) (T := TX0) (N := 14) rfl rfl inX0 11 (by decide) (ref := "GridPolygons$Choices") kw_255 rfl rfl dX0_firstBest_15 ?_
      refine j_icmp_gt SS (tgt := 63) (x := k) (y := (u.2.2.2 17)) dX0_firstBest_18 (by decide) (by omega) (by omega) (fun c_18 => ?_) (fun c_18 => ?_)
      · skip
        refine j_iconst SS dX0_firstBest_63 ?_
        exact W.iret SS.1 SS.2.1 hr (fun t0 ht hW => ⟨_, rfl, ⟨0, rfl, (by omega)⟩, ht⟩) (fun _ h => nomatch h) dX0_firstBest_64 hlk
      · skip
        refine lv_iload SS.1 SS.2.1 dX0_firstBest_21 (lv_at hl 5 rfl) ?_
        refine lv_aload_n SS.1 SS.2.1 dX0_firstBest_23 rfl (lv_at hl 0 rfl) ?_
        refine lv_iload_n SS.1 SS.2.1 dX0_firstBest_24 rfl (lv_at hl 1 rfl) ?_
        refine j_iconst SS dX0_firstBest_25 ?_
        refine j_iadd SS (x := sd) (y := 1) dX0_firstBest_26 ?_
        refine lv_iload_n SS.1 SS.2.1 dX0_firstBest_27 rfl (lv_at hl 2 rfl) ?_
        refine lv_iload SS.1 SS.2.1 dX0_firstBest_28 (lv_at hl 5 rfl) ?_
        refine lv_aload_n SS.1 SS.2.1 dX0_firstBest_30 rfl (lv_at hl 0 rfl) ?_
        refine j_get SS hG hP 5 (v := .int (J (u.2.2.2 18))) (C := RX0) (T := TX0) (N := 14) rfl rfl inX0 12 (by decide) (ref := "GridPolygons$Choices") kw_256 rfl rfl dX0_firstBest_31 ?_
        refine j_imul SS (x := k) (y := (u.2.2.2 18)) dX0_firstBest_34 ?_
        refine j_iadd SS (x := x) (y := (k * (u.2.2.2 18))) dX0_firstBest_35 ?_
        refine lv_iload_n SS.1 SS.2.1 dX0_firstBest_36 rfl (lv_at hl 3 rfl) ?_
        refine lv_iload SS.1 SS.2.1 dX0_firstBest_37 (lv_at hl 5 rfl) ?_
        refine lv_aload_n SS.1 SS.2.1 dX0_firstBest_39 rfl (lv_at hl 0 rfl) ?_
        refine j_get SS hG hP 5 (v := .int (J (u.2.2.2 19))) (C := RX0) (T := TX0) (N := 14) rfl rfl inX0 13 (by decide) (ref := "GridPolygons$Choices") kw_257 rfl rfl dX0_firstBest_40 ?_
        refine j_imul SS (x := k) (y := (u.2.2.2 19)) dX0_firstBest_43 ?_
        refine j_iadd SS (x := y) (y := (k * (u.2.2.2 19))) dX0_firstBest_44 ?_
        have m1 := mulb (A := 81) (B := 80) (a := k) (b := u.2.2.2 18) (by omega) (by omega)
        have m2 := mulb (A := 81) (B := 80) (a := k) (b := u.2.2.2 19) (by omega) (by omega)
        refine j_vRi SS (As := [.int (J (sd + 1)), .int (J (x + (k * (u.2.2.2 18)))), .int (J (y + (k * (u.2.2.2 19))))]) (rest := [.int (J k)]) (c_X0_fewestFrom l D q u  (sd + 1) (x + (k * (u.2.2.2 18))) (y + (k * (u.2.2.2 19))) (show (-40 ≤ (u.2.2.2 13) ∧ (u.2.2.2 13) ≤ 40) ∧ (-40 ≤ (u.2.2.2 14) ∧ (u.2.2.2 14) ≤ 40) ∧ (-79 ≤ (u.2.2.2 15) ∧ (u.2.2.2 15) ≤ 81) ∧ (-79 ≤ (u.2.2.2 16) ∧ (u.2.2.2 16) ≤ 81) from (by omega)) (show -2147483648 ≤ (sd + 1) ∧ (sd + 1) ≤ 2147483647 from (by omega)) (show -2000000 ≤ (x + (k * (u.2.2.2 18))) ∧ (x + (k * (u.2.2.2 18))) ≤ 2000000 from (by omega)) (show -2000000 ≤ (y + (k * (u.2.2.2 19))) ∧ (y + (k * (u.2.2.2 19))) ≤ 2000000 from (by omega)) (show ∀ k : Nat, 0 ≤ (u.2.1 5) k ∧ (u.2.1 5) k ≤ 1000000 from (p5))) mf_X0_fewestFrom kw_761 hG hP hP (ci := 0) (q0 := 5) rfl rfl rfl rfl hl.1 ⟨⟨Nat.le_of_ble_eq_true rfl, Nat.le_of_ble_eq_true rfl⟩, Nat.le_of_ble_eq_true rfl, Nat.le_refl _, Nat.le_refl _⟩ rfl dX0_firstBest_45 (fun z_45 h_45 => ?_)
        have h_45 : 0 ≤ z_45 ∧ z_45 ≤ 1000000 := h_45
        refine j_iadd SS (x := k) (y := z_45) dX0_firstBest_48 ?_
        refine lv_iload SS.1 SS.2.1 dX0_firstBest_49 (lv_at hl 4 rfl) ?_
        refine j_icmp_ne SS (tgt := 57) (x := (k + z_45)) (y := z_4) dX0_firstBest_51 (by decide) (by omega) (by omega) (fun c_51 => ?_) (fun c_51 => ?_)
        · skip
          refine lv_iinc (v := J (k + 1)) (lv' := [(5, .int (J (k + 1))), (0, .ref (q 5)), (1, .int (J sd)), (2, .int (J x)), (3, .int (J y)), (4, .int (J z_4))]) SS.1 SS.2.1 dX0_firstBest_57 hl (k := 5) rfl (J_add _ _) (by decide) rfl (fun ls hl => ?_)
          refine lv_goto (tgt := 12) SS.1 SS.2.1 dX0_firstBest_60 (by decide) ?_
          exact ih_12 (k + 1) ls (lv_sub hl [1, 2, 3, 4, 5, 0] rfl) (by omega) (by omega)
        · skip
          refine lv_iload SS.1 SS.2.1 dX0_firstBest_54 (lv_at hl 5 rfl) ?_
          exact W.iret SS.1 SS.2.1 hr (fun t0 ht hW => ⟨_, rfl, ⟨k, rfl, (by omega)⟩, ht⟩) (fun _ h => nomatch h) dX0_firstBest_56 hlk
  exact L_12 (((81 : Int) - (0 : Int)).toNat + 1) 0 ls (lv_sub hl [2, 3, 4, 5, 1, 0] rfl) (by omega) (Nat.lt_succ_self _)

set_option maxHeartbeats 4000000 in
set_option maxRecDepth 100000 in
theorem c_X0_goOn (l : Launch) (D : JD) (q : Nat → Nat) (u : CS) (A : Nat → Prop) (hD : va_D A (cW D q u)) (r : Nat) (hr : r ≤ 8) (p0 : RB 40 u r) (p1 : (-40 ≤ u.2.2.2 13 ∧ u.2.2.2 13 ≤ 40) ∧ (-40 ≤ u.2.2.2 14 ∧ u.2.2.2 14 ≤ 40) ∧ (-79 ≤ u.2.2.2 15 ∧ u.2.2.2 15 ≤ 81) ∧ (-79 ≤ u.2.2.2 16 ∧ u.2.2.2 16 ≤ 81)) (p2 : ∀ k : Nat, 0 ≤ u.2.1 5 k ∧ u.2.1 5 k ≤ 1000000) (p3 : ∀ k : Nat, 0 ≤ u.2.1 6 k ∧ u.2.1 6 k ≤ 80) (p4 : (0 ≤ u.2.2.2 11 ∧ u.2.2.2 11 ≤ 23)) : Met l yX0_goOn (jw yX0_goOn cX0_goOn 5 none) (jr 4 88) (jP [.ref (q 5), .ref (q (9 + 5 * r))] D (fun H => va_P D.1 j_cl (cW D q u) H)) (jWv (fun u' => ∃ sp : Int, ∃ dx : Int, ∃ dy : Int, ∃ t9 : Nat → Int, u' = (sV (sV (sV (sI u 6 t9) 17 sp) 18 dx) 19 dy) ∧ (∀ k : Nat, 0 ≤ t9 k ∧ t9 k ≤ 80)) (fun u' H => va_P D.1 j_cl (cW D q u') H) A) 0 0 A := by
  refine Met.ofW (cc := cX0_goOn) (maxL := 5) (ret := none) (by decide) rfl ?_
  intro pr en st mi args below meth co s₁ B hml hv
  obtain ⟨rfl, hG, hP⟩ := hv
  have hr := B.returns
  have hlk := B.notSynchronized
  have SS : jS pr mi co cX0_goOn 5 st _ RX0 := ⟨B.exec, B.bytes, hml, findClass_of_methodNamed B.named, fun w hw => atoms_spec (ws := (jw yX0_goOn cX0_goOn 5 none)) B.pre w (List.mem_cons_of_mem _ hw)⟩
  have hl := lv_entry ([.ref (q 5), .ref (q (9 + 5 * r))]) (n := 5) (Nat.le_of_ble_eq_true rfl)
  rw [lg_entry_eq]
  generalize (lg_sl ([.ref (q 5), .ref (q (9 + 5 * r))]) ++ List.replicate (5 - (lg_sl ([.ref (q 5), .ref (q (9 + 5 * r))])).length) Slot.unset).toArray = ls at hl ⊢
  have hl : lv_has ls 5 [(0, .ref (q 5)), (1, .ref (q (9 + 5 * r)))] := hl
  have hS : va_S A st.heap st.heap [] := va_S.rf
  have hc := p0.1
  have hrl := rl_b r
  refine lv_aload_n SS.1 SS.2.1 dX0_goOn_0 rfl (lv_at hl 1 rfl) ?_
  refine j_iconst SS dX0_goOn_1 ?_
  refine j_uRi SS (As := [.int (J 0)]) (rest := []) (c_X8_x l D q u r (by omega) 0 (show -2147483648 ≤ (0 : Int) ∧ (0 : Int) ≤ 2147483647 from (by omega))) mu_7_x kw_715 hG hP hP (ci := 7) (q0 := (9 + 5 * r)) rfl (cw_ring (by omega)) rfl rfl hl.1 ⟨⟨Nat.le_of_ble_eq_true rfl, Nat.le_of_ble_eq_true rfl⟩, Nat.le_of_ble_eq_true rfl, Nat.le_refl _, Nat.le_refl _⟩ rfl dX0_goOn_2 (fun z_2 h_2 => ?_)
  have h_2 : z_2 = rx u r (0 : Int) ∧ ∀ K : Int, 0 ≤ K → RB K u r → -K ≤ z_2 ∧ z_2 ≤ K := h_2
  have hb_2 := h_2.2 40 (by omega) (p0)
  refine lv_istore_n (lv' := [(2, .int (J z_2)), (0, .ref (q 5)), (1, .ref (q (9 + 5 * r)))]) SS.1 SS.2.1 dX0_goOn_5 rfl hl (by decide) rfl (fun ls hl => ?_)
  refine lv_aload_n SS.1 SS.2.1 dX0_goOn_6 rfl (lv_at hl 2 rfl) ?_
  refine j_iconst SS dX0_goOn_7 ?_
  refine j_uRi SS (As := [.int (J 0)]) (rest := []) (c_X8_y l D q u r (by omega) 0 (show -2147483648 ≤ (0 : Int) ∧ (0 : Int) ≤ 2147483647 from (by omega))) mu_7_y kw_716 hG hP hP (ci := 7) (q0 := (9 + 5 * r)) rfl (cw_ring (by omega)) rfl rfl hl.1 ⟨⟨Nat.le_of_ble_eq_true rfl, Nat.le_of_ble_eq_true rfl⟩, Nat.le_of_ble_eq_true rfl, Nat.le_refl _, Nat.le_refl _⟩ rfl dX0_goOn_8 (fun z_8 h_8 => ?_)
  have h_8 : z_8 = ry9 u r (0 : Int) ∧ ∀ K : Int, 0 ≤ K → RB K u r → -K ≤ z_8 ∧ z_8 ≤ K := h_8
  have hb_8 := h_8.2 40 (by omega) (p0)
  refine lv_istore_n (lv' := [(3, .int (J z_8)), (2, .int (J z_2)), (0, .ref (q 5)), (1, .ref (q (9 + 5 * r)))]) SS.1 SS.2.1 dX0_goOn_11 rfl hl (by decide) rfl (fun ls hl => ?_)
  refine lv_aload_n SS.1 SS.2.1 dX0_goOn_12 rfl (lv_at hl 2 rfl) ?_
  refine j_get SS hG hP 5 (v := .int (J (u.2.2.2 11))) (C := RX0) (T := TX0) (N := 14) rfl rfl inX0 5 (by decide) (ref := "GridPolygons$Choices") kw_249 rfl rfl dX0_goOn_13 ?_
  refine lv_istore (lv' := [(4, .int (J (u.2.2.2 11))), (3, .int (J z_8)), (2, .int (J z_2)), (0, .ref (q 5)), (1, .ref (q (9 + 5 * r)))]) SS.1 SS.2.1 dX0_goOn_16 hl (by decide) rfl (fun ls hl => ?_)
  have L_18 : ∀ (nn : Nat) (x : Int) (y : Int) (sd : Int) (s1 : Int) (s2 : Int) (s3 : Int) (k1 : Nat → Int) (H : Heap) (locs : List Loc) (hP : va_P D.1 j_cl (cW D q (sV (sV (sV (sI u 6 k1) 17 s1) 18 s2) 19 s3)) H) (hS : va_S A st.heap H locs) (ls : Array Slot) (hl : lv_has ls 5 [(0, .ref (q 5)), (1, .ref (q (9 + 5 * r))), (2, .int (J x)), (3, .int (J y)), (4, .int (J sd))]) (i18_0 : 0 ≤ sd ∧ sd ≤ 400) (i18_1 : -40 - 6400 * sd ≤ x ∧ x ≤ 40 + 6400 * sd) (i18_2 : -40 - 6400 * sd ≤ y ∧ y ≤ 40 + 6400 * sd) (i18_3 : True) (i18_4 : ∀ k : Nat, 0 ≤ k1 k ∧ k1 k ≤ 80), ((400 : Int) - sd).toNat < nn → W pr l en (headSpec (jw yX0_goOn cX0_goOn 5 none) (jr 4 88)).room st mi (([.ref (q 5), .ref (q (9 + 5 * r))] : List Value).toArray) below meth co H locs 0 0 (MQ below (jWv (fun u' => ∃ sp : Int, ∃ dx : Int, ∃ dy : Int, ∃ t9 : Nat → Int, u' = (sV (sV (sV (sI u 6 t9) 17 sp) 18 dx) 19 dy) ∧ (∀ k : Nat, 0 ≤ t9 k ∧ t9 k ≤ 80)) (fun u' H => va_P D.1 j_cl (cW D q u') H) A) (([.ref (q 5), .ref (q (9 + 5 * r))] : List Value).toArray) st 0 0 A) (F0 mi 18 ls []) := by
    intro nn
    induction nn with
    | zero => intros; omega
    | succ nn ih_18 =>
      intro x y sd s1 s2 s3 k1 H locs hP hS ls hl i18_0 i18_1 i18_2 i18_3 i18_4 hm
      refine lv_iload SS.1 SS.2.1 dX0_goOn_18 (lv_at hl 4 rfl) ?_
      refine lv_aload_n SS.1 SS.2.1 dX0_goOn_20 rfl (lv_at hl 1 rfl) ?_
      refine j_getS SS hG hP (9 + 5 * r) (v := .int (J (u.1.2.2.1 r))) (C := RX7) (T := TX7) (N := 3) (cw_ring (by omega)) rfl inX7 2 (by decide) (ref := "GridPolygons$Ring") kw_139 kw_132 rfl dX0_goOn_21 ?_
      refine j_icmp_ge SS (tgt := 104) (x := sd) (y := (u.1.2.2.1 r)) dX0_goOn_24 (by decide) (by omega) (by omega) (fun c_24 => ?_) (fun c_24 => ?_)
      · skip
        exact W.vret SS.1 SS.2.1 hr (fun t0 ht hW => ⟨⟨(sV (sV (sV (sI u 6 k1) 17 s1) 18 s2) 19 s3), rfl, (⟨s1, s2, s3, k1, rfl, i18_4⟩), by show va_P D.1 j_cl (cW D q (sV (sV (sV (sI u 6 k1) 17 s1) 18 s2) 19 s3)) t0.heap; rw [ht]; first | exact hP | (simp only [sI_id, sL_id, sC_id, sX_id, sY_id, sH_id, sT_id, sV_id]; exact hP)⟩, hS.F ht⟩) hS.2.2 dX0_goOn_104 hlk
      · skip
        refine lv_iload SS.1 SS.2.1 dX0_goOn_27 (lv_at hl 4 rfl) ?_
        refine lv_aload_n SS.1 SS.2.1 dX0_goOn_29 rfl (lv_at hl 0 rfl) ?_
        refine j_get SS hG hP 5 (v := .ref (q 63)) (C := RX0) (T := TX0) (N := 14) rfl rfl inX0 3 (by decide) (ref := "GridPolygons$Choices") kw_246 rfl rfl dX0_goOn_30 ?_
        refine va_alen SS.1 SS.2.1 hG.1 hP 63 0 rfl rfl (v := J (24 : Int)) (by first | rfl | exact J_nat _) dX0_goOn_33 ?_
        refine j_icmp_ge SS (tgt := 104) (x := sd) (y := 24) dX0_goOn_34 (by decide) (by omega) (by decide) (fun c_34 => ?_) (fun c_34 => ?_)
        · skip
          exact W.vret SS.1 SS.2.1 hr (fun t0 ht hW => ⟨⟨(sV (sV (sV (sI u 6 k1) 17 s1) 18 s2) 19 s3), rfl, (⟨s1, s2, s3, k1, rfl, i18_4⟩), by show va_P D.1 j_cl (cW D q (sV (sV (sV (sI u 6 k1) 17 s1) 18 s2) 19 s3)) t0.heap; rw [ht]; first | exact hP | (simp only [sI_id, sL_id, sC_id, sX_id, sY_id, sH_id, sT_id, sV_id]; exact hP)⟩, hS.F ht⟩) hS.2.2 dX0_goOn_104 hlk
        · skip
          refine lv_aload_n SS.1 SS.2.1 dX0_goOn_37 rfl (lv_at hl 0 rfl) ?_
          refine lv_aload_n SS.1 SS.2.1 dX0_goOn_38 rfl (lv_at hl 1 rfl) ?_
          refine lv_iload SS.1 SS.2.1 dX0_goOn_39 (lv_at hl 4 rfl) ?_
          refine j_vWv SS (As := [.ref (q (9 + 5 * r)), .int (J sd)]) (rest := []) (c_X0_takeSide l D q (sV (sV (sV (sI u 6 k1) 17 s1) 18 s2) 19 s3) A (cW_D hD) r (by omega) sd (show RB 40 (sV (sV (sV (sI u 6 k1) 17 s1) 18 s2) 19 s3) r from (p0)) (show -1000 ≤ sd ∧ sd ≤ 1000 from (by omega))) mf_X0_takeSide kw_721 hG hP hP (ci := 0) (q0 := 5) rfl rfl rfl hS (fun _ h => h) rfl hl.1 ⟨⟨Nat.le_of_ble_eq_true rfl, Nat.le_of_ble_eq_true rfl⟩, Nat.le_of_ble_eq_true rfl, Nat.le_refl _, Nat.le_refl _⟩ rfl dX0_goOn_41 (fun u41 H locs h_41 hP _ hS => ?_)
          obtain ⟨sp_41, dx_41, dy_41, rfl, h_41⟩ := h_41
          have hP : va_P D.1 j_cl (cW D q (sV (sV (sV (sI u 6 k1) 17 sp_41) 18 dx_41) 19 dy_41)) H := hP
          have h_41 : (0 ≤ sp_41 ∧ sp_41 ≤ 80) ∧ (-80 ≤ dx_41 ∧ dx_41 ≤ 80) ∧ -80 ≤ dy_41 ∧ dy_41 ≤ 80 := h_41
          refine lv_iload SS.1 SS.2.1 dX0_goOn_44 (lv_at hl 4 rfl) ?_
          refine lv_aload_n SS.1 SS.2.1 dX0_goOn_46 rfl (lv_at hl 0 rfl) ?_
          refine j_get SS hG hP 5 (v := .int (J (u.2.2.2 11))) (C := RX0) (T := TX0) (N := 14) rfl rfl inX0 5 (by decide) (ref := "GridPolygons$Choices") kw_249 rfl rfl dX0_goOn_47 ?_
          refine j_icmp_le SS (tgt := 68) (x := sd) (y := (u.2.2.2 11)) dX0_goOn_50 (by decide) (by omega) (by omega) (fun c_50 => ?_) (fun c_50 => ?_)
          · skip
            refine lv_iload_n SS.1 SS.2.1 dX0_goOn_68 rfl (lv_at hl 2 rfl) ?_
            refine lv_aload_n SS.1 SS.2.1 dX0_goOn_69 rfl (lv_at hl 0 rfl) ?_
            refine j_get SS hG hP 5 (v := .ref (q 63)) (C := RX0) (T := TX0) (N := 14) rfl rfl inX0 3 (by decide) (ref := "GridPolygons$Choices") kw_246 rfl rfl dX0_goOn_70 ?_
            refine lv_iload SS.1 SS.2.1 dX0_goOn_73 (lv_at hl 4 rfl) ?_
            refine j_iald SS hG hP 63 (n := 24) (f := k1) rfl (z := sd) (by omega) (by omega) dX0_goOn_75 ?_
            obtain ⟨tv, etv⟩ : ∃ z : Int, z = (k1 (sd).toNat) := ⟨_, rfl⟩
            rw [← etv]
            have htv : 0 ≤ tv ∧ tv ≤ 80 := by rw [etv]; first | exact UP_b i18_4 (by omega) _ | exact i18_4 _
            refine lv_aload_n SS.1 SS.2.1 dX0_goOn_76 rfl (lv_at hl 0 rfl) ?_
            refine j_get SS hG hP 5 (v := .int (J dx_41)) (C := RX0) (T := TX0) (N := 14) rfl rfl inX0 12 (by decide) (ref := "GridPolygons$Choices") kw_256 rfl rfl dX0_goOn_77 ?_
            refine j_imul SS (x := tv) (y := dx_41) dX0_goOn_80 ?_
            refine j_iadd SS (x := x) (y := (tv * dx_41)) dX0_goOn_81 ?_
            refine lv_istore_n (lv' := [(2, .int (J (x + (tv * dx_41)))), (0, .ref (q 5)), (1, .ref (q (9 + 5 * r))), (3, .int (J y)), (4, .int (J sd))]) SS.1 SS.2.1 dX0_goOn_82 rfl hl (by decide) rfl (fun ls hl => ?_)
            refine lv_iload_n SS.1 SS.2.1 dX0_goOn_83 rfl (lv_at hl 3 rfl) ?_
            refine lv_aload_n SS.1 SS.2.1 dX0_goOn_84 rfl (lv_at hl 1 rfl) ?_
            refine j_get SS hG hP 5 (v := .ref (q 63)) (C := RX0) (T := TX0) (N := 14) rfl rfl inX0 3 (by decide) (ref := "GridPolygons$Choices") kw_246 rfl rfl dX0_goOn_85 ?_
            refine lv_iload SS.1 SS.2.1 dX0_goOn_88 (lv_at hl 4 rfl) ?_
            refine j_iald SS hG hP 63 (n := 24) (f := k1) rfl (z := sd) (by omega) (by omega) dX0_goOn_90 ?_
            obtain ⟨tv2, etv2⟩ : ∃ z : Int, z = (k1 (sd).toNat) := ⟨_, rfl⟩
            rw [← etv2]
            have htw : 0 ≤ tv2 ∧ tv2 ≤ 80 := by rw [etv2]; first | exact UP_b i18_4 (by omega) _ | exact i18_4 _
            refine lv_aload_n SS.1 SS.2.1 dX0_goOn_91 rfl (lv_at hl 1 rfl) ?_
            refine j_get SS hG hP 5 (v := .int (J dy_41)) (C := RX0) (T := TX0) (N := 14) rfl rfl inX0 13 (by decide) (ref := "GridPolygons$Choices") kw_257 rfl rfl dX0_goOn_92 ?_
            refine j_imul SS (x := tv2) (y := dy_41) dX0_goOn_95 ?_
            refine j_iadd SS (x := y) (y := (tv2 * dy_41)) dX0_goOn_96 ?_
            have m1 := mulb (A := 80) (B := 80) (a := tv) (b := dx_41) (by omega) (by omega)
            have m2 := mulb (A := 80) (B := 80) (a := tv2) (b := dy_41) (by omega) (by omega)
            refine lv_istore_n (lv' := [(3, .int (J (y + (tv2 * dy_41)))), (2, .int (J (x + (tv * dx_41)))), (0, .ref (q 5)), (1, .ref (q (9 + 5 * r))), (4, .int (J sd))]) SS.1 SS.2.1 dX0_goOn_97 rfl hl (by decide) rfl (fun ls hl => ?_)
            refine lv_iinc (v := J (sd + 1)) (lv' := [(4, .int (J (sd + 1))), (3, .int (J (y + (tv2 * dy_41)))), (2, .int (J (x + (tv * dx_41)))), (0, .ref (q 5)), (1, .ref (q (9 + 5 * r)))]) SS.1 SS.2.1 dX0_goOn_98 hl (k := 4) rfl (J_add _ _) (by decide) rfl (fun ls hl => ?_)
            refine lv_goto (tgt := 18) SS.1 SS.2.1 dX0_goOn_101 (by decide) ?_
            exact ih_18 (x + (tv * dx_41)) (y + (tv2 * dy_41)) (sd + 1) sp_41 dx_41 dy_41 k1 _ _ hP hS ls (lv_sub hl [3, 4, 2, 1, 0] rfl) (by omega) (by omega) (by omega) (trivial) (by first | exact i18_4 | exact UP_b i18_4 (by omega)) (by omega)
          · skip
            refine lv_aload_n SS.1 SS.2.1 dX0_goOn_53 rfl (lv_at hl 0 rfl) ?_
            refine j_get SS hG hP 5 (v := .ref (q 63)) (C := RX0) (T := TX0) (N := 14) rfl rfl inX0 3 (by decide) (ref := "GridPolygons$Choices") kw_246 rfl rfl dX0_goOn_54 ?_
            refine lv_iload SS.1 SS.2.1 dX0_goOn_57 (lv_at hl 4 rfl) ?_
            refine lv_aload_n SS.1 SS.2.1 dX0_goOn_59 rfl (lv_at hl 0 rfl) ?_
            refine lv_iload SS.1 SS.2.1 dX0_goOn_60 (lv_at hl 4 rfl) ?_
            refine lv_iload_n SS.1 SS.2.1 dX0_goOn_62 rfl (lv_at hl 2 rfl) ?_
            refine lv_iload_n SS.1 SS.2.1 dX0_goOn_63 rfl (lv_at hl 3 rfl) ?_
            refine j_vRi SS (As := [.int (J sd), .int (J x), .int (J y)]) (rest := [.int (J sd), .ref (q 63)]) (c_X0_firstBest l D q (sV (sV (sV (sI u 6 k1) 17 sp_41) 18 dx_41) 19 dy_41)  sd x y (show (-40 ≤ (u.2.2.2 13) ∧ (u.2.2.2 13) ≤ 40) ∧ (-40 ≤ (u.2.2.2 14) ∧ (u.2.2.2 14) ≤ 40) ∧ (-79 ≤ (u.2.2.2 15) ∧ (u.2.2.2 15) ≤ 81) ∧ (-79 ≤ (u.2.2.2 16) ∧ (u.2.2.2 16) ≤ 81) from (by omega)) (show (0 ≤ sp_41 ∧ sp_41 ≤ 80) ∧ (-80 ≤ dx_41 ∧ dx_41 ≤ 80) ∧ (-80 ≤ dy_41 ∧ dy_41 ≤ 80) from (by omega)) (show 0 ≤ sd ∧ sd ≤ 1000 from (by omega)) (show -1000000 ≤ x ∧ x ≤ 1000000 from (by omega)) (show -1000000 ≤ y ∧ y ≤ 1000000 from (by omega)) (show ∀ k : Nat, 0 ≤ (u.2.1 5) k ∧ (u.2.1 5) k ≤ 1000000 from (p2))) mf_X0_firstBest kw_782 hG hP hP (ci := 0) (q0 := 5) rfl rfl rfl rfl hl.1 ⟨⟨Nat.le_of_ble_eq_true rfl, Nat.le_of_ble_eq_true rfl⟩, Nat.le_of_ble_eq_true rfl, Nat.le_refl _, Nat.le_refl _⟩ rfl dX0_goOn_64 (fun z_64 h_64 => ?_)
            have h_64 : 0 ≤ z_64 ∧ z_64 ≤ 80 := h_64
            refine j_iast SS hG hP (cW_D hD) hS 63 (n := 24) (f := k1) rfl (z := sd) (v := z_64) (by omega) (by omega) dX0_goOn_67 (ws' := (cW D q (sV (sV (sV (sI u 6 (upI k1 (sd).toNat z_64)) 17 sp_41) 18 dx_41) 19 dy_41))) rfl (fun H locs hP hS => ?_)
            refine lv_iload_n SS.1 SS.2.1 dX0_goOn_68 rfl (lv_at hl 2 rfl) ?_
            refine lv_aload_n SS.1 SS.2.1 dX0_goOn_69 rfl (lv_at hl 0 rfl) ?_
            refine j_get SS hG hP 5 (v := .ref (q 63)) (C := RX0) (T := TX0) (N := 14) rfl rfl inX0 3 (by decide) (ref := "GridPolygons$Choices") kw_246 rfl rfl dX0_goOn_70 ?_
            refine lv_iload SS.1 SS.2.1 dX0_goOn_73 (lv_at hl 4 rfl) ?_
            refine j_iald SS hG hP 63 (n := 24) (f := (upI k1 (sd).toNat z_64)) rfl (z := sd) (by omega) (by omega) dX0_goOn_75 ?_
            obtain ⟨tv, etv⟩ : ∃ z : Int, z = ((upI k1 (sd).toNat z_64) (sd).toNat) := ⟨_, rfl⟩
            rw [← etv]
            have htv : 0 ≤ tv ∧ tv ≤ 80 := by rw [etv]; first | exact UP_b i18_4 (by omega) _ | exact i18_4 _
            refine lv_aload_n SS.1 SS.2.1 dX0_goOn_76 rfl (lv_at hl 0 rfl) ?_
            refine j_get SS hG hP 5 (v := .int (J dx_41)) (C := RX0) (T := TX0) (N := 14) rfl rfl inX0 12 (by decide) (ref := "GridPolygons$Choices") kw_256 rfl rfl dX0_goOn_77 ?_
            refine j_imul SS (x := tv) (y := dx_41) dX0_goOn_80 ?_
            refine j_iadd SS (x := x) (y := (tv * dx_41)) dX0_goOn_81 ?_
            refine lv_istore_n (lv' := [(2, .int (J (x + (tv * dx_41)))), (0, .ref (q 5)), (1, .ref (q (9 + 5 * r))), (3, .int (J y)), (4, .int (J sd))]) SS.1 SS.2.1 dX0_goOn_82 rfl hl (by decide) rfl (fun ls hl => ?_)
            refine lv_iload_n SS.1 SS.2.1 dX0_goOn_83 rfl (lv_at hl 3 rfl) ?_
            refine lv_aload_n SS.1 SS.2.1 dX0_goOn_84 rfl (lv_at hl 1 rfl) ?_
            refine j_get SS hG hP 5 (v := .ref (q 63)) (C := RX0) (T := TX0) (N := 14) rfl rfl inX0 3 (by decide) (ref := "GridPolygons$Choices") kw_246 rfl rfl dX0_goOn_85 ?_
            refine lv_iload SS.1 SS.2.1 dX0_goOn_88 (lv_at hl 4 rfl) ?_
            refine j_iald SS hG hP 63 (n := 24) (f := (upI k1 (sd).toNat z_64)) rfl (z := sd) (by omega) (by omega) dX0_goOn_90 ?_
            obtain ⟨tv2, etv2⟩ : ∃ z : Int, z = ((upI k1 (sd).toNat z_64) (sd).toNat) := ⟨_, rfl⟩
            rw [← etv2]
            have htw : 0 ≤ tv2 ∧ tv2 ≤ 80 := by rw [etv2]; first | exact UP_b i18_4 (by omega) _ | exact i18_4 _
            refine lv_aload_n SS.1 SS.2.1 dX0_goOn_91 rfl (lv_at hl 1 rfl) ?_
            refine j_get SS hG hP 5 (v := .int (J dy_41)) (C := RX0) (T := TX0) (N := 14) rfl rfl inX0 13 (by decide) (ref := "GridPolygons$Choices") kw_257 rfl rfl dX0_goOn_92 ?_
            refine j_imul SS (x := tv2) (y := dy_41) dX0_goOn_95 ?_
            refine j_iadd SS (x := y) (y := (tv2 * dy_41)) dX0_goOn_96 ?_
            have m1 := mulb (A := 80) (B := 80) (a := tv) (b := dx_41) (by omega) (by omega)
            have m2 := mulb (A := 80) (B := 80) (a := tv2) (b := dy_41) (by omega) (by omega)
            refine lv_istore_n (lv' := [(3, .int (J (y + (tv2 * dy_41)))), (2, .int (J (x + (tv * dx_41)))), (0, .ref (q 5)), (1, .ref (q (9 + 5 * r))), (4, .int (J sd))]) SS.1 SS.2.1 dX0_goOn_97 rfl hl (by decide) rfl (fun ls hl => ?_)
            refine lv_iinc (v := J (sd + 1)) (lv' := [(4, .int (J (sd + 1))), (3, .int (J (y + (tv2 * dy_41)))), (2, .int (J (x + (tv * dx_41)))), (0, .ref (q 5)), (1, .ref (q (9 + 5 * r)))]) SS.1 SS.2.1 dX0_goOn_98 hl (k := 4) rfl (J_add _ _) (by decide) rfl (fun ls hl => ?_)
            refine lv_goto (tgt := 18) SS.1 SS.2.1 dX0_goOn_101 (by decide) ?_
            exact ih_18 (x + (tv * dx_41)) (y + (tv2 * dy_41)) (sd + 1) sp_41 dx_41 dy_41 (upI k1 (sd).toNat z_64) _ _ hP hS ls (lv_sub hl [3, 4, 2, 1, 0] rfl) (by omega) (by omega) (by omega) (trivial) (by first | exact i18_4 | exact UP_b i18_4 (by omega)) (by omega)
  exact L_18 (((400 : Int) - (u.2.2.2 11)).toNat + 1) z_2 z_8 (u.2.2.2 11) (u.2.2.2 17) (u.2.2.2 18) (u.2.2.2 19) (u.2.1 6) _ _ hP hS ls (lv_sub hl [3, 4, 2, 1, 0] rfl) (by omega) (by omega) (by omega) (trivial) (p3) (Nat.lt_succ_self _)

set_option maxHeartbeats 4000000 in
set_option maxRecDepth 100000 in
theorem c_X0_findLeast (l : Launch) (D : JD) (q : Nat → Nat) (u : CS) (A : Nat → Prop) (hD : va_D A (cW D q u)) (i : Nat) (hi : i < 8) (p0 : RB 40 u i) (p1 : ∀ k : Nat, 0 ≤ u.2.1 5 k ∧ u.2.1 5 k ≤ 1000000) (p2 : ∀ k : Nat, 0 ≤ u.2.1 6 k ∧ u.2.1 6 k ≤ 80) (p3 : -2147483648 ≤ u.2.2.2 12 ∧ u.2.2.2 12 ≤ 2147483647) (p4 : -2147483648 ≤ u.1.2.2.2.2 i ∧ u.1.2.2.2.2 i ≤ 2147483647) : Met l yX0_findLeast (jw yX0_findLeast cX0_findLeast 4 none) (jr 5 112) (jP [.ref (q 5), .ref (q (8 + 5 * i))] D (fun H => va_P D.1 j_cl (cW D q u) H)) (jWv (fun u' => ∃ v10 : Int, ∃ v11 : Int, ∃ v12 : Int, ∃ v13 : Int, ∃ v14 : Int, ∃ v15 : Int, ∃ v16 : Int, ∃ v17 : Int, ∃ v18 : Int, ∃ v19 : Int, ∃ f5 : Nat → Int, ∃ f6 : Nat → Int, u' = (sV (sV (sV (sV (sV (sV (sV (sV (sV (sV (sI (sI u 5 f5) 6 f6) 10 v10) 11 v11) 12 v12) 13 v13) 14 v14) 15 v15) 16 v16) 17 v17) 18 v18) 19 v19) ∧ ((∀ k : Nat, 0 ≤ f5 k ∧ f5 k ≤ 1000000) ∧ (∀ k : Nat, 0 ≤ f6 k ∧ f6 k ≤ 80) ∧ -2147483648 ≤ v12 ∧ v12 ≤ 2147483647)) (fun u' H => va_P D.1 j_cl (cW D q u') H) A) 0 0 A := by
  refine Met.ofW (cc := cX0_findLeast) (maxL := 4) (ret := none) (by decide) rfl ?_
  intro pr en st mi args below meth co s₁ B hml hv
  obtain ⟨rfl, hG, hP⟩ := hv
  have hr := B.returns
  have hlk := B.notSynchronized
  have SS : jS pr mi co cX0_findLeast 4 st _ RX0 := ⟨B.exec, B.bytes, hml, findClass_of_methodNamed B.named, fun w hw => atoms_spec (ws := (jw yX0_findLeast cX0_findLeast 4 none)) B.pre w (List.mem_cons_of_mem _ hw)⟩
  have hl := lv_entry ([.ref (q 5), .ref (q (8 + 5 * i))]) (n := 4) (Nat.le_of_ble_eq_true rfl)
  rw [lg_entry_eq]
  generalize (lg_sl ([.ref (q 5), .ref (q (8 + 5 * i))]) ++ List.replicate (4 - (lg_sl ([.ref (q 5), .ref (q (8 + 5 * i))])).length) Slot.unset).toArray = ls at hl ⊢
  have hl : lv_has ls 4 [(0, .ref (q 5)), (1, .ref (q (8 + 5 * i)))] := hl
  have hS : va_S A st.heap st.heap [] := va_S.rf
  have hc := p0.1
  have hrl := rl_s hi
  refine lv_aload_n SS.1 SS.2.1 dX0_findLeast_0 rfl (lv_at hl 0 rfl) ?_
  refine j_get SS hG hP 5 (v := .int (J (u.2.2.2 12))) (C := RX0) (T := TX0) (N := 14) rfl rfl inX0 6 (by decide) (ref := "GridPolygons$Choices") kw_250 rfl rfl dX0_findLeast_1 ?_
  refine lv_aload_n SS.1 SS.2.1 dX0_findLeast_4 rfl (lv_at hl 1 rfl) ?_
  refine j_get SS hG hP (8 + 5 * i) (v := .int (J (u.1.2.2.2.2 i))) (C := RX10) (T := TX10) (N := 3) (cw_shape (by omega)) rfl inX10 2 (by decide) (ref := "GridPolygons$Shape") kw_160 rfl rfl dX0_findLeast_5 ?_
  refine j_icmp_ne SS (tgt := 12) (x := (u.2.2.2 12)) (y := (u.1.2.2.2.2 i)) dX0_findLeast_8 (by decide) (by omega) (by omega) (fun c_8 => ?_) (fun c_8 => ?_)
  · skip
    refine lv_aload_n SS.1 SS.2.1 dX0_findLeast_12 rfl (lv_at hl 0 rfl) ?_
    refine lv_aload_n SS.1 SS.2.1 dX0_findLeast_13 rfl (lv_at hl 1 rfl) ?_
    refine j_get SS hG hP (8 + 5 * i) (v := .int (J (u.1.2.2.2.2 i))) (C := RX10) (T := TX10) (N := 3) (cw_shape (by omega)) rfl inX10 2 (by decide) (ref := "GridPolygons$Shape") kw_160 rfl rfl dX0_findLeast_14 ?_
    refine j_put SS hG hP (cW_D hD) hS 5 (v := .int (J (u.1.2.2.2.2 i))) (ty := .int) (C := RX0) (T := TX0) (N := 14) rfl rfl inX0 tyX0 tyX0_ok nmX0 6 (by decide) (ref := "GridPolygons$Choices") kw_250 rfl rfl (by decide +kernel) rfl rfl (Nat.le_of_ble_eq_true rfl) dX0_findLeast_17 (ws' := (cW D q (sV u 12 (u.1.2.2.2.2 i)))) rfl (fun H locs hP hS => ?_)
    refine lv_aload_n SS.1 SS.2.1 dX0_findLeast_20 rfl (lv_at hl 1 rfl) ?_
    refine j_get SS hG hP (8 + 5 * i) (v := .ref (q (9 + 5 * i))) (C := RX10) (T := TX10) (N := 3) (cw_shape (by omega)) rfl inX10 0 (by decide) (ref := "GridPolygons$Shape") kw_154 rfl rfl dX0_findLeast_21 ?_
    refine lv_astore_n (lv' := [(2, .ref (q (9 + 5 * i))), (0, .ref (q 5)), (1, .ref (q (8 + 5 * i)))]) SS.1 SS.2.1 dX0_findLeast_24 rfl hl (by decide) rfl (fun ls hl => ?_)
    refine lv_aload_n SS.1 SS.2.1 dX0_findLeast_25 rfl (lv_at hl 1 rfl) ?_
    refine lv_aload_n SS.1 SS.2.1 dX0_findLeast_26 rfl (lv_at hl 0 rfl) ?_
    refine j_vWv SS (As := [.ref (q (9 + 5 * i))]) (rest := []) (c_X0_frame l D q (sV u 12 (u.1.2.2.2.2 i)) A (cW_D hD) i (by omega)  (show RB 40 (sV u 12 (u.1.2.2.2.2 i)) i from (p0))) mf_X0_frame kw_704 hG hP hP (ci := 0) (q0 := 5) rfl rfl rfl hS (fun _ h => h) rfl hl.1 ⟨⟨Nat.le_of_ble_eq_true rfl, Nat.le_of_ble_eq_true rfl⟩, Nat.le_of_ble_eq_true rfl, Nat.le_refl _, Nat.le_refl _⟩ rfl dX0_findLeast_27 (fun u27 H locs h_27 hP _ hS => ?_)
    obtain ⟨lf_27, bt_27, wd_27, tl_27, rfl, h_27⟩ := h_27
    have hP : va_P D.1 j_cl (cW D q (sV (sV (sV (sV (sV u 12 (u.1.2.2.2.2 i)) 13 lf_27) 14 bt_27) 15 wd_27) 16 tl_27)) H := hP
    have h_27 : (-40 ≤ lf_27 ∧ lf_27 ≤ 40) ∧ (-40 ≤ bt_27 ∧ bt_27 ≤ 40) ∧ (-79 ≤ wd_27 ∧ wd_27 ≤ 81) ∧ -79 ≤ tl_27 ∧ tl_27 ≤ 81 := h_27
    refine lv_aload_n SS.1 SS.2.1 dX0_findLeast_30 rfl (lv_at hl 1 rfl) ?_
    refine j_get SS hG hP 5 (v := .ref (q 63)) (C := RX0) (T := TX0) (N := 14) rfl rfl inX0 3 (by decide) (ref := "GridPolygons$Choices") kw_246 rfl rfl dX0_findLeast_31 ?_
    refine j_iconst SS dX0_findLeast_34 ?_
    refine j_sWv SS (As := [.ref (q 63), .int (J 0)]) (rest := []) (c_J7_fill_53178 l D (ws := (cW D q (sV (sV (sV (sV (sV u 12 (u.1.2.2.2.2 i)) 13 lf_27) 14 bt_27) 15 wd_27) 16 tl_27))) (A := A) (cW_D hD) 63 (0 : Int) rfl (by first | decide | omega)) mf_J7_fill_53178 kw_747 hG hP hS (fun _ h => h) rfl hl.1 ⟨⟨Nat.le_of_ble_eq_true rfl, Nat.le_of_ble_eq_true rfl⟩, Nat.le_of_ble_eq_true rfl, Nat.le_refl _, Nat.le_refl _⟩ rfl dX0_findLeast_35 (fun _ H locs _ hP _ hS => ?_)
    have hP : va_P D.1 j_cl (cW D q (sV (sV (sV (sV (sV (sI u 6 (jf (u.2.1 6) (0 : Int) 24)) 12 (u.1.2.2.2.2 i)) 13 lf_27) 14 bt_27) 15 wd_27) 16 tl_27)) H := hP
    have hT35 := JF_b (n := 24) (v := 0) p2 (by omega)
    refine lv_aload_n SS.1 SS.2.1 dX0_findLeast_38 rfl (lv_at hl 1 rfl) ?_
    refine j_ldc SS (1000000) kw_748 dX0_findLeast_39 ?_
    refine j_put SS hG hP (cW_D hD) hS 5 (v := .int (J (1000000))) (ty := .int) (C := RX0) (T := TX0) (N := 14) rfl rfl inX0 tyX0 tyX0_ok nmX0 4 (by decide) (ref := "GridPolygons$Choices") kw_247 rfl rfl (by decide +kernel) rfl rfl (Nat.le_of_ble_eq_true rfl) dX0_findLeast_41 (ws' := (cW D q (sV (sV (sV (sV (sV (sV (sI u 6 (jf (u.2.1 6) (0 : Int) 24)) 10 (1000000)) 12 (u.1.2.2.2.2 i)) 13 lf_27) 14 bt_27) 15 wd_27) 16 tl_27))) rfl (fun H locs hP hS => ?_)
    refine lv_aload_n SS.1 SS.2.1 dX0_findLeast_44 rfl (lv_at hl 1 rfl) ?_
    refine j_iconst SS dX0_findLeast_45 ?_
    refine j_put SS hG hP (cW_D hD) hS 5 (v := .int (J 0)) (ty := .int) (C := RX0) (T := TX0) (N := 14) rfl rfl inX0 tyX0 tyX0_ok nmX0 5 (by decide) (ref := "GridPolygons$Choices") kw_249 rfl rfl (by decide +kernel) rfl rfl (Nat.le_of_ble_eq_true rfl) dX0_findLeast_46 (ws' := (cW D q (sV (sV (sV (sV (sV (sV (sV (sI u 6 (jf (u.2.1 6) (0 : Int) 24)) 10 (1000000)) 11 0) 12 (u.1.2.2.2.2 i)) 13 lf_27) 14 bt_27) 15 wd_27) 16 tl_27))) rfl (fun H locs hP hS => ?_)
    refine lv_aload_n SS.1 SS.2.1 dX0_findLeast_49 rfl (lv_at hl 1 rfl) ?_
    refine lv_aload_n SS.1 SS.2.1 dX0_findLeast_50 rfl (lv_at hl 0 rfl) ?_
    refine j_vWv SS (As := [.ref (q (9 + 5 * i))]) (rest := []) (c_X0_lastRow l D q (sV (sV (sV (sV (sV (sV (sV (sI u 6 (jf (u.2.1 6) (0 : Int) 24)) 10 (1000000)) 11 0) 12 (u.1.2.2.2.2 i)) 13 lf_27) 14 bt_27) 15 wd_27) 16 tl_27) A (cW_D hD) i (by omega)  (show RB 40 (sV (sV (sV (sV (sV (sV (sV (sI u 6 (jf (u.2.1 6) (0 : Int) 24)) 10 (1000000)) 11 0) 12 (u.1.2.2.2.2 i)) 13 lf_27) 14 bt_27) 15 wd_27) 16 tl_27) i from (p0)) (show (-40 ≤ lf_27 ∧ lf_27 ≤ 40) ∧ (-40 ≤ bt_27 ∧ bt_27 ≤ 40) ∧ (-79 ≤ wd_27 ∧ wd_27 ≤ 81) ∧ (-79 ≤ tl_27 ∧ tl_27 ≤ 81) from (by omega)) (show ∀ k : Nat, 0 ≤ (u.2.1 5) k ∧ (u.2.1 5) k ≤ 1000000 from (p1))) mf_X0_lastRow kw_749 hG hP hP (ci := 0) (q0 := 5) rfl rfl rfl hS (fun _ h => h) rfl hl.1 ⟨⟨Nat.le_of_ble_eq_true rfl, Nat.le_of_ble_eq_true rfl⟩, Nat.le_of_ble_eq_true rfl, Nat.le_refl _, Nat.le_refl _⟩ rfl dX0_findLeast_51 (fun u51 H locs h_51 hP _ hS => ?_)
    obtain ⟨f_51, rfl, h_51⟩ := h_51
    have hP : va_P D.1 j_cl (cW D q (sV (sV (sV (sV (sV (sV (sV (sI (sI u 5 f_51) 6 (jf (u.2.1 6) (0 : Int) 24)) 10 (1000000)) 11 0) 12 (u.1.2.2.2.2 i)) 13 lf_27) 14 bt_27) 15 wd_27) 16 tl_27)) H := hP
    have h_51 : ∀ k : Nat, 0 ≤ f_51 k ∧ f_51 k ≤ 1000000 := h_51
    refine lv_aload_n SS.1 SS.2.1 dX0_findLeast_54 rfl (lv_at hl 0 rfl) ?_
    refine j_getS SS hG hP (9 + 5 * i) (v := .int (J (u.1.2.2.1 i))) (C := RX7) (T := TX7) (N := 3) (cw_ring (by omega)) rfl inX7 2 (by decide) (ref := "GridPolygons$Ring") kw_139 kw_132 rfl dX0_findLeast_55 ?_
    refine j_iconst SS dX0_findLeast_58 ?_
    refine j_isub SS (x := (u.1.2.2.1 i)) (y := 1) dX0_findLeast_59 ?_
    refine lv_istore_n (lv' := [(3, .int (J ((u.1.2.2.1 i) - 1))), (2, .ref (q (9 + 5 * i))), (0, .ref (q 5)), (1, .ref (q (8 + 5 * i)))]) SS.1 SS.2.1 dX0_findLeast_60 rfl hl (by decide) rfl (fun ls hl => ?_)
    have L_61 : ∀ (nn : Nat) (j : Int) (a1 : Int) (a2 : Int) (a3 : Int) (a4 : Int) (a5 : Int) (g5 : Nat → Int) (g6 : Nat → Int) (H : Heap) (locs : List Loc) (hP : va_P D.1 j_cl (cW D q (sV (sV (sV (sV (sV (sV (sV (sV (sV (sV (sI (sI u 5 g5) 6 g6) 10 a1) 11 a2) 12 (u.1.2.2.2.2 i)) 13 lf_27) 14 bt_27) 15 wd_27) 16 tl_27) 17 a3) 18 a4) 19 a5)) H) (hS : va_S A st.heap H locs) (ls : Array Slot) (hl : lv_has ls 4 [(0, .ref (q 5)), (1, .ref (q (8 + 5 * i))), (2, .ref (q (9 + 5 * i))), (3, .int (J j))]) (i61_0 : -1 ≤ j ∧ j ≤ 23) (i61_1 : 0 ≤ a1 ∧ a1 ≤ 1000000) (i61_2 : 0 ≤ a2 ∧ a2 ≤ 23) (i61_3 : ∀ k : Nat, 0 ≤ g5 k ∧ g5 k ≤ 1000000) (i61_4 : ∀ k : Nat, 0 ≤ g6 k ∧ g6 k ≤ 80), (j + 1).toNat < nn → W pr l en (headSpec (jw yX0_findLeast cX0_findLeast 4 none) (jr 5 112)).room st mi (([.ref (q 5), .ref (q (8 + 5 * i))] : List Value).toArray) below meth co H locs 0 0 (MQ below (jWv (fun u' => ∃ v10 : Int, ∃ v11 : Int, ∃ v12 : Int, ∃ v13 : Int, ∃ v14 : Int, ∃ v15 : Int, ∃ v16 : Int, ∃ v17 : Int, ∃ v18 : Int, ∃ v19 : Int, ∃ f5 : Nat → Int, ∃ f6 : Nat → Int, u' = (sV (sV (sV (sV (sV (sV (sV (sV (sV (sV (sI (sI u 5 f5) 6 f6) 10 v10) 11 v11) 12 v12) 13 v13) 14 v14) 15 v15) 16 v16) 17 v17) 18 v18) 19 v19) ∧ ((∀ k : Nat, 0 ≤ f5 k ∧ f5 k ≤ 1000000) ∧ (∀ k : Nat, 0 ≤ f6 k ∧ f6 k ≤ 80) ∧ -2147483648 ≤ v12 ∧ v12 ≤ 2147483647)) (fun u' H => va_P D.1 j_cl (cW D q u') H) A) (([.ref (q 5), .ref (q (8 + 5 * i))] : List Value).toArray) st 0 0 A) (F0 mi 61 ls []) := by
      intro nn
      induction nn with
      | zero => intros; omega
      | succ nn ih_61 =>
        intro j a1 a2 a3 a4 a5 g5 g6 H locs hP hS ls hl i61_0 i61_1 i61_2 i61_3 i61_4 hm
        refine lv_iload_n SS.1 SS.2.1 dX0_findLeast_61 rfl (lv_at hl 3 rfl) ?_
        refine j_if_lt SS (tgt := 88) (x := j) dX0_findLeast_62 (by decide) (by omega) (fun c_62 => ?_) (fun c_62 => ?_)
        · skip
          refine lv_aload_n SS.1 SS.2.1 dX0_findLeast_88 rfl (lv_at hl 0 rfl) ?_
          refine lv_aload_n SS.1 SS.2.1 dX0_findLeast_89 rfl (lv_at hl 2 rfl) ?_
          refine j_vWv SS (As := [.ref (q (9 + 5 * i))]) (rest := []) (c_X0_goOn l D q (sV (sV (sV (sV (sV (sV (sV (sV (sV (sV (sI (sI u 5 g5) 6 g6) 10 a1) 11 a2) 12 (u.1.2.2.2.2 i)) 13 lf_27) 14 bt_27) 15 wd_27) 16 tl_27) 17 a3) 18 a4) 19 a5) A (cW_D hD) i (by omega)  (show RB 40 (sV (sV (sV (sV (sV (sV (sV (sV (sV (sV (sI (sI u 5 g5) 6 g6) 10 a1) 11 a2) 12 (u.1.2.2.2.2 i)) 13 lf_27) 14 bt_27) 15 wd_27) 16 tl_27) 17 a3) 18 a4) 19 a5) i from (p0)) (show (-40 ≤ lf_27 ∧ lf_27 ≤ 40) ∧ (-40 ≤ bt_27 ∧ bt_27 ≤ 40) ∧ (-79 ≤ wd_27 ∧ wd_27 ≤ 81) ∧ (-79 ≤ tl_27 ∧ tl_27 ≤ 81) from (by omega)) (show ∀ k : Nat, 0 ≤ g5 k ∧ g5 k ≤ 1000000 from (i61_3)) (show ∀ k : Nat, 0 ≤ g6 k ∧ g6 k ≤ 80 from (i61_4)) (show (0 ≤ a2 ∧ a2 ≤ 23) from (by omega))) mf_X0_goOn kw_778 hG hP hP (ci := 0) (q0 := 5) rfl rfl rfl hS (fun _ h => h) rfl hl.1 ⟨⟨Nat.le_of_ble_eq_true rfl, Nat.le_of_ble_eq_true rfl⟩, Nat.le_of_ble_eq_true rfl, Nat.le_refl _, Nat.le_refl _⟩ rfl dX0_findLeast_90 (fun u90 H locs h_90 hP _ hS => ?_)
          obtain ⟨sp_90, dx_90, dy_90, t9_90, rfl, h_90⟩ := h_90
          have hP : va_P D.1 j_cl (cW D q (sV (sV (sV (sV (sV (sV (sV (sV (sV (sV (sI (sI u 5 g5) 6 t9_90) 10 a1) 11 a2) 12 (u.1.2.2.2.2 i)) 13 lf_27) 14 bt_27) 15 wd_27) 16 tl_27) 17 sp_90) 18 dx_90) 19 dy_90)) H := hP
          have h_90 : ∀ k : Nat, 0 ≤ t9_90 k ∧ t9_90 k ≤ 80 := h_90
          exact W.vret SS.1 SS.2.1 hr (fun t0 ht hW => ⟨⟨(sV (sV (sV (sV (sV (sV (sV (sV (sV (sV (sI (sI u 5 g5) 6 t9_90) 10 a1) 11 a2) 12 (u.1.2.2.2.2 i)) 13 lf_27) 14 bt_27) 15 wd_27) 16 tl_27) 17 sp_90) 18 dx_90) 19 dy_90), rfl, (⟨a1, a2, (u.1.2.2.2.2 i), lf_27, bt_27, wd_27, tl_27, sp_90, dx_90, dy_90, g5, t9_90, rfl, ⟨i61_3, h_90, by omega, by omega⟩⟩), by show va_P D.1 j_cl (cW D q (sV (sV (sV (sV (sV (sV (sV (sV (sV (sV (sI (sI u 5 g5) 6 t9_90) 10 a1) 11 a2) 12 (u.1.2.2.2.2 i)) 13 lf_27) 14 bt_27) 15 wd_27) 16 tl_27) 17 sp_90) 18 dx_90) 19 dy_90)) t0.heap; rw [ht]; first | exact hP | (simp only [sI_id, sL_id, sC_id, sX_id, sY_id, sH_id, sT_id, sV_id]; exact hP)⟩, hS.F ht⟩) hS.2.2 dX0_findLeast_93 hlk
        · skip
          refine lv_aload_n SS.1 SS.2.1 dX0_findLeast_65 rfl (lv_at hl 0 rfl) ?_
          refine lv_aload_n SS.1 SS.2.1 dX0_findLeast_66 rfl (lv_at hl 2 rfl) ?_
          refine lv_iload_n SS.1 SS.2.1 dX0_findLeast_67 rfl (lv_at hl 3 rfl) ?_
          refine j_vWv SS (As := [.ref (q (9 + 5 * i)), .int (J j)]) (rest := []) (c_X0_takeSide l D q (sV (sV (sV (sV (sV (sV (sV (sV (sV (sV (sI (sI u 5 g5) 6 g6) 10 a1) 11 a2) 12 (u.1.2.2.2.2 i)) 13 lf_27) 14 bt_27) 15 wd_27) 16 tl_27) 17 a3) 18 a4) 19 a5) A (cW_D hD) i (by omega) j (show RB 40 (sV (sV (sV (sV (sV (sV (sV (sV (sV (sV (sI (sI u 5 g5) 6 g6) 10 a1) 11 a2) 12 (u.1.2.2.2.2 i)) 13 lf_27) 14 bt_27) 15 wd_27) 16 tl_27) 17 a3) 18 a4) 19 a5) i from (p0)) (show -1000 ≤ j ∧ j ≤ 1000 from (by omega))) mf_X0_takeSide kw_721 hG hP hP (ci := 0) (q0 := 5) rfl rfl rfl hS (fun _ h => h) rfl hl.1 ⟨⟨Nat.le_of_ble_eq_true rfl, Nat.le_of_ble_eq_true rfl⟩, Nat.le_of_ble_eq_true rfl, Nat.le_refl _, Nat.le_refl _⟩ rfl dX0_findLeast_68 (fun u68 H locs h_68 hP _ hS => ?_)
          obtain ⟨sp_68, dx_68, dy_68, rfl, h_68⟩ := h_68
          have hP : va_P D.1 j_cl (cW D q (sV (sV (sV (sV (sV (sV (sV (sV (sV (sV (sI (sI u 5 g5) 6 g6) 10 a1) 11 a2) 12 (u.1.2.2.2.2 i)) 13 lf_27) 14 bt_27) 15 wd_27) 16 tl_27) 17 sp_68) 18 dx_68) 19 dy_68)) H := (by have h9 : va_P D.1 j_cl (cW D q (sV (sV (sV (sV (sV (sV (sV (sV (sV (sV (sV (sV (sV (sI (sI u 5 g5) 6 g6) 10 a1) 11 a2) 12 (u.1.2.2.2.2 i)) 13 lf_27) 14 bt_27) 15 wd_27) 16 tl_27) 17 a3) 18 a4) 19 a5) 17 sp_68) 18 dx_68) 19 dy_68)) H := hP; rw [sV_ow3] at h9; exact h9)
          have h_68 : (0 ≤ sp_68 ∧ sp_68 ≤ 80) ∧ (-80 ≤ dx_68 ∧ dx_68 ≤ 80) ∧ -80 ≤ dy_68 ∧ dy_68 ≤ 80 := h_68
          refine lv_aload_n SS.1 SS.2.1 dX0_findLeast_71 rfl (lv_at hl 0 rfl) ?_
          refine lv_aload_n SS.1 SS.2.1 dX0_findLeast_72 rfl (lv_at hl 2 rfl) ?_
          refine lv_iload_n SS.1 SS.2.1 dX0_findLeast_73 rfl (lv_at hl 3 rfl) ?_
          refine j_vWv SS (As := [.ref (q (9 + 5 * i)), .int (J j)]) (rest := []) (c_X0_beginAt l D q (sV (sV (sV (sV (sV (sV (sV (sV (sV (sV (sI (sI u 5 g5) 6 g6) 10 a1) 11 a2) 12 (u.1.2.2.2.2 i)) 13 lf_27) 14 bt_27) 15 wd_27) 16 tl_27) 17 sp_68) 18 dx_68) 19 dy_68) A (cW_D hD) i (by omega) j (show RB 40 (sV (sV (sV (sV (sV (sV (sV (sV (sV (sV (sI (sI u 5 g5) 6 g6) 10 a1) 11 a2) 12 (u.1.2.2.2.2 i)) 13 lf_27) 14 bt_27) 15 wd_27) 16 tl_27) 17 sp_68) 18 dx_68) 19 dy_68) i from (p0)) (show (-40 ≤ lf_27 ∧ lf_27 ≤ 40) ∧ (-40 ≤ bt_27 ∧ bt_27 ≤ 40) ∧ (-79 ≤ wd_27 ∧ wd_27 ≤ 81) ∧ (-79 ≤ tl_27 ∧ tl_27 ≤ 81) from (by omega)) (show (0 ≤ sp_68 ∧ sp_68 ≤ 80) ∧ (-80 ≤ dx_68 ∧ dx_68 ≤ 80) ∧ (-80 ≤ dy_68 ∧ dy_68 ≤ 80) from (by omega)) (show -2147483648 ≤ j ∧ j ≤ 2147483647 from (by omega)) (show ∀ k : Nat, 0 ≤ g5 k ∧ g5 k ≤ 1000000 from (i61_3)) (show ∀ k : Nat, 0 ≤ g6 k ∧ g6 k ≤ 80 from (i61_4)) (show (0 ≤ a1 ∧ a1 ≤ 1000000) from (by omega)) (show (0 ≤ a2 ∧ a2 ≤ 23) from (by omega))) mf_X0_beginAt kw_757 hG hP hP (ci := 0) (q0 := 5) rfl rfl rfl hS (fun _ h => h) rfl hl.1 ⟨⟨Nat.le_of_ble_eq_true rfl, Nat.le_of_ble_eq_true rfl⟩, Nat.le_of_ble_eq_true rfl, Nat.le_refl _, Nat.le_refl _⟩ rfl dX0_findLeast_74 (fun u74 H locs h_74 hP _ hS => ?_)
          obtain ⟨to9_74, fi_74, t9_74, rfl, h_74⟩ := h_74
          have hP : va_P D.1 j_cl (cW D q (sV (sV (sV (sV (sV (sV (sV (sV (sV (sV (sI (sI u 5 g5) 6 t9_74) 10 to9_74) 11 fi_74) 12 (u.1.2.2.2.2 i)) 13 lf_27) 14 bt_27) 15 wd_27) 16 tl_27) 17 sp_68) 18 dx_68) 19 dy_68)) H := hP
          have h_74 : (0 ≤ to9_74 ∧ to9_74 ≤ 1000000) ∧ (0 ≤ fi_74 ∧ fi_74 ≤ 23) ∧ (∀ k : Nat, 0 ≤ t9_74 k ∧ t9_74 k ≤ 80) := h_74
          refine lv_aload_n SS.1 SS.2.1 dX0_findLeast_77 rfl (lv_at hl 0 rfl) ?_
          refine lv_iload_n SS.1 SS.2.1 dX0_findLeast_78 rfl (lv_at hl 3 rfl) ?_
          refine j_vWv SS (As := [.int (J j)]) (rest := []) (c_X0_fillRow l D q (sV (sV (sV (sV (sV (sV (sV (sV (sV (sV (sI (sI u 5 g5) 6 t9_74) 10 to9_74) 11 fi_74) 12 (u.1.2.2.2.2 i)) 13 lf_27) 14 bt_27) 15 wd_27) 16 tl_27) 17 sp_68) 18 dx_68) 19 dy_68) A (cW_D hD)  j (show (-40 ≤ lf_27 ∧ lf_27 ≤ 40) ∧ (-40 ≤ bt_27 ∧ bt_27 ≤ 40) ∧ (-79 ≤ wd_27 ∧ wd_27 ≤ 81) ∧ (-79 ≤ tl_27 ∧ tl_27 ≤ 81) from (by omega)) (show (0 ≤ sp_68 ∧ sp_68 ≤ 80) ∧ (-80 ≤ dx_68 ∧ dx_68 ≤ 80) ∧ (-80 ≤ dy_68 ∧ dy_68 ≤ 80) from (by omega)) (show 0 ≤ j ∧ j ≤ 30 from (by omega)) (show ∀ k : Nat, 0 ≤ g5 k ∧ g5 k ≤ 1000000 from (i61_3))) mf_X0_fillRow kw_769 hG hP hP (ci := 0) (q0 := 5) rfl rfl rfl hS (fun _ h => h) rfl hl.1 ⟨⟨Nat.le_of_ble_eq_true rfl, Nat.le_of_ble_eq_true rfl⟩, Nat.le_of_ble_eq_true rfl, Nat.le_refl _, Nat.le_refl _⟩ rfl dX0_findLeast_79 (fun u79 H locs h_79 hP _ hS => ?_)
          obtain ⟨f_79, rfl, h_79⟩ := h_79
          have hP : va_P D.1 j_cl (cW D q (sV (sV (sV (sV (sV (sV (sV (sV (sV (sV (sI (sI u 5 f_79) 6 t9_74) 10 to9_74) 11 fi_74) 12 (u.1.2.2.2.2 i)) 13 lf_27) 14 bt_27) 15 wd_27) 16 tl_27) 17 sp_68) 18 dx_68) 19 dy_68)) H := hP
          have h_79 : ∀ k : Nat, 0 ≤ f_79 k ∧ f_79 k ≤ 1000000 := h_79
          refine lv_iinc (v := J (j + (-1))) (lv' := [(3, .int (J (j + (-1)))), (0, .ref (q 5)), (1, .ref (q (8 + 5 * i))), (2, .ref (q (9 + 5 * i)))]) SS.1 SS.2.1 dX0_findLeast_82 hl (k := 3) rfl (J_add _ _) (by decide) rfl (fun ls hl => ?_)
          refine lv_goto (tgt := 61) SS.1 SS.2.1 dX0_findLeast_85 (by decide) ?_
          exact ih_61 (j + (-1)) to9_74 fi_74 sp_68 dx_68 dy_68 f_79 t9_74 _ _ hP hS ls (lv_sub hl [1, 2, 3, 0] rfl) (by omega) (by omega) (by omega) (h_79) (h_74.2.2) (by omega)
    have hP : va_P D.1 j_cl (cW D q (sV (sV (sV (sV (sV (sV (sV (sV (sI (sI u 5 f_51) 6 (jf (u.2.1 6) (0 : Int) 24)) 10 (1000000)) 11 0) 12 (u.1.2.2.2.2 i)) 13 lf_27) 14 bt_27) 15 wd_27) 16 tl_27) 17 (u.2.2.2 17))) H := Eq.mpr (congrArg (fun w => va_P D.1 j_cl (cW D q w) H) (sV_at (u := (sV (sV (sV (sV (sV (sV (sV (sI (sI u 5 f_51) 6 (jf (u.2.1 6) (0 : Int) 24)) 10 (1000000)) 11 0) 12 (u.1.2.2.2.2 i)) 13 lf_27) 14 bt_27) 15 wd_27) 16 tl_27)) (r := 17) (x := (u.2.2.2 17)) rfl)) hP
    have hP : va_P D.1 j_cl (cW D q (sV (sV (sV (sV (sV (sV (sV (sV (sV (sI (sI u 5 f_51) 6 (jf (u.2.1 6) (0 : Int) 24)) 10 (1000000)) 11 0) 12 (u.1.2.2.2.2 i)) 13 lf_27) 14 bt_27) 15 wd_27) 16 tl_27) 17 (u.2.2.2 17)) 18 (u.2.2.2 18))) H := Eq.mpr (congrArg (fun w => va_P D.1 j_cl (cW D q w) H) (sV_at (u := (sV (sV (sV (sV (sV (sV (sV (sV (sI (sI u 5 f_51) 6 (jf (u.2.1 6) (0 : Int) 24)) 10 (1000000)) 11 0) 12 (u.1.2.2.2.2 i)) 13 lf_27) 14 bt_27) 15 wd_27) 16 tl_27) 17 (u.2.2.2 17))) (r := 18) (x := (u.2.2.2 18)) rfl)) hP
    have hP : va_P D.1 j_cl (cW D q (sV (sV (sV (sV (sV (sV (sV (sV (sV (sV (sI (sI u 5 f_51) 6 (jf (u.2.1 6) (0 : Int) 24)) 10 (1000000)) 11 0) 12 (u.1.2.2.2.2 i)) 13 lf_27) 14 bt_27) 15 wd_27) 16 tl_27) 17 (u.2.2.2 17)) 18 (u.2.2.2 18)) 19 (u.2.2.2 19))) H := Eq.mpr (congrArg (fun w => va_P D.1 j_cl (cW D q w) H) (sV_at (u := (sV (sV (sV (sV (sV (sV (sV (sV (sV (sI (sI u 5 f_51) 6 (jf (u.2.1 6) (0 : Int) 24)) 10 (1000000)) 11 0) 12 (u.1.2.2.2.2 i)) 13 lf_27) 14 bt_27) 15 wd_27) 16 tl_27) 17 (u.2.2.2 17)) 18 (u.2.2.2 18))) (r := 19) (x := (u.2.2.2 19)) rfl)) hP
    exact L_61 ((((u.1.2.2.1 i) - 1) + 1).toNat + 1) ((u.1.2.2.1 i) - 1) (1000000) 0 (u.2.2.2 17) (u.2.2.2 18) (u.2.2.2 19) f_51 (jf (u.2.1 6) (0 : Int) 24) _ _ hP hS ls (lv_sub hl [2, 3, 1, 0] rfl) (by omega) (by omega) (by omega) (h_51) (hT35) (Nat.lt_succ_self _)
  · skip
    exact W.vret SS.1 SS.2.1 hr (fun t0 ht hW => ⟨⟨(sV (sV (sV (sV (sV (sV (sV (sV (sV (sV (sI (sI u 5 (u.2.1 5)) 6 (u.2.1 6)) 10 (u.2.2.2 10)) 11 (u.2.2.2 11)) 12 (u.2.2.2 12)) 13 (u.2.2.2 13)) 14 (u.2.2.2 14)) 15 (u.2.2.2 15)) 16 (u.2.2.2 16)) 17 (u.2.2.2 17)) 18 (u.2.2.2 18)) 19 (u.2.2.2 19)), rfl, (⟨(u.2.2.2 10), (u.2.2.2 11), (u.2.2.2 12), (u.2.2.2 13), (u.2.2.2 14), (u.2.2.2 15), (u.2.2.2 16), (u.2.2.2 17), (u.2.2.2 18), (u.2.2.2 19), (u.2.1 5), (u.2.1 6), rfl, ⟨p1, p2, p3⟩⟩), by show va_P D.1 j_cl (cW D q (sV (sV (sV (sV (sV (sV (sV (sV (sV (sV (sI (sI u 5 (u.2.1 5)) 6 (u.2.1 6)) 10 (u.2.2.2 10)) 11 (u.2.2.2 11)) 12 (u.2.2.2 12)) 13 (u.2.2.2 13)) 14 (u.2.2.2 14)) 15 (u.2.2.2 15)) 16 (u.2.2.2 16)) 17 (u.2.2.2 17)) 18 (u.2.2.2 18)) 19 (u.2.2.2 19))) t0.heap; rw [ht]; first | exact hP | (simp only [sI_id, sL_id, sC_id, sX_id, sY_id, sH_id, sT_id, sV_id]; exact hP)⟩, hS.F ht⟩) hS.2.2 dX0_findLeast_11 hlk

set_option maxHeartbeats 4000000 in
set_option maxRecDepth 100000 in
theorem c_X0_takenOf (l : Launch) (D : JD) (q : Nat → Nat) (u : CS) (i : Int) (p0 : -2147483648 ≤ i ∧ i ≤ 2147483647) : Met l yX0_takenOf (jw yX0_takenOf cX0_takenOf 2 (some .int)) (jr 0 0) (jP [.ref (q 5), .int (J i)] D (fun H => va_P D.1 j_cl (cW D q u) H)) (jRi (fun z => True)) 0 0 (fun _ => False) := by
  refine Met.ofW (cc := cX0_takenOf) (maxL := 2) (ret := (some .int)) (by decide) rfl ?_
  intro pr en st mi args below meth co s₁ B hml hv
  obtain ⟨rfl, hG, hP⟩ := hv
  have hr := B.returns
  have hlk := B.notSynchronized
  have SS : jS pr mi co cX0_takenOf 2 st _ RX0 := ⟨B.exec, B.bytes, hml, findClass_of_methodNamed B.named, fun w hw => atoms_spec (ws := (jw yX0_takenOf cX0_takenOf 2 (some .int))) B.pre w (List.mem_cons_of_mem _ hw)⟩
  have hl := lv_entry ([.ref (q 5), .int (J i)]) (n := 2) (Nat.le_of_ble_eq_true rfl)
  rw [lg_entry_eq]
  generalize (lg_sl ([.ref (q 5), .int (J i)]) ++ List.replicate (2 - (lg_sl ([.ref (q 5), .int (J i)])).length) Slot.unset).toArray = ls at hl ⊢
  have hl : lv_has ls 2 [(0, .ref (q 5)), (1, .int (J i))] := hl
  refine lv_iload_n SS.1 SS.2.1 dX0_takenOf_0 rfl (lv_at hl 1 rfl) ?_
  refine j_if_lt SS (tgt := 22) (x := i) dX0_takenOf_1 (by decide) (by omega) (fun c_1 => ?_) (fun c_1 => ?_)
  · skip
    refine j_iconst SS dX0_takenOf_22 ?_
    exact W.iret SS.1 SS.2.1 hr (fun t0 ht hW => ⟨_, rfl, ⟨0, rfl, (trivial)⟩, ht⟩) (fun _ h => nomatch h) dX0_takenOf_23 hlk
  · skip
    refine lv_iload_n SS.1 SS.2.1 dX0_takenOf_4 rfl (lv_at hl 1 rfl) ?_
    refine lv_aload_n SS.1 SS.2.1 dX0_takenOf_5 rfl (lv_at hl 0 rfl) ?_
    refine j_get SS hG hP 5 (v := .ref (q 63)) (C := RX0) (T := TX0) (N := 14) rfl rfl inX0 3 (by decide) (ref := "GridPolygons$Choices") kw_246 rfl rfl dX0_takenOf_6 ?_
    refine va_alen SS.1 SS.2.1 hG.1 hP 63 0 rfl rfl (v := J (24 : Int)) (by first | rfl | exact J_nat _) dX0_takenOf_9 ?_
    refine j_icmp_ge SS (tgt := 22) (x := i) (y := 24) dX0_takenOf_10 (by decide) (by omega) (by decide) (fun c_10 => ?_) (fun c_10 => ?_)
    · skip
      refine j_iconst SS dX0_takenOf_22 ?_
      exact W.iret SS.1 SS.2.1 hr (fun t0 ht hW => ⟨_, rfl, ⟨0, rfl, (trivial)⟩, ht⟩) (fun _ h => nomatch h) dX0_takenOf_23 hlk
    · skip
      refine lv_aload_n SS.1 SS.2.1 dX0_takenOf_13 rfl (lv_at hl 0 rfl) ?_
      refine j_get SS hG hP 5 (v := .ref (q 63)) (C := RX0) (T := TX0) (N := 14) rfl rfl inX0 3 (by decide) (ref := "GridPolygons$Choices") kw_246 rfl rfl dX0_takenOf_14 ?_
      refine lv_iload_n SS.1 SS.2.1 dX0_takenOf_17 rfl (lv_at hl 1 rfl) ?_
      refine j_iald SS hG hP 63 (n := 24) (f := (u.2.1 6)) rfl (z := i) (by omega) (by omega) dX0_takenOf_18 ?_
      refine lv_goto (tgt := 23) SS.1 SS.2.1 dX0_takenOf_19 (by decide) ?_
      exact W.iret SS.1 SS.2.1 hr (fun t0 ht hW => ⟨_, rfl, ⟨((u.2.1 6) (i).toNat), rfl, (trivial)⟩, ht⟩) (fun _ h => nomatch h) dX0_takenOf_23 hlk

theorem CI_hm {u : CS} {f g : Nat → Int64} {a b c d e h i : Int} (hu : CI u) : CI (sV (sV (sV (sV (sV (sV (sV (sL (sL u 0 f) 1 g) 13 a) 14 b) 15 c) 16 d) 17 e) 18 h) 19 i) := hu
theorem CI_fl {u : CS} {f g : Nat → Int} {a b c d e h i j k m : Int} (hu : CI u) (hf : ∀ k : Nat, 0 ≤ f k ∧ f k ≤ 1000000) (hg : ∀ k : Nat, 0 ≤ g k ∧ g k ≤ 80) (hc : -2147483648 ≤ c ∧ c ≤ 2147483647) : CI (sV (sV (sV (sV (sV (sV (sV (sV (sV (sV (sI (sI u 5 f) 6 g) 10 a) 11 b) 12 c) 13 d) 14 e) 15 h) 16 i) 17 j) 18 k) 19 m) := ⟨hu.1, hu.2.1, hu.2.2.1, hu.2.2.2.1, ⟨hf, hg, hc⟩, hu.2.2.2.2.2⟩

