
def RV (K : Int) (f g : Nat → Int) : Prop := ∀ i : Nat, (-K ≤ f i ∧ f i ≤ K) ∧ -K ≤ g i ∧ g i ≤ K
theorem RV_put {K : Int} {f g : Nat → Int} {k : Nat} {a b : Int} (h : RV K f g) (ha : -K ≤ a ∧ a ≤ K) (hb : -K ≤ b ∧ b ≤ K) : RV K (upI f k a) (upI g k b) := by
  intro i
  by_cases e : i = k
  · rw [e, upI_s, upI_s]; exact ⟨ha, hb⟩
  · rw [upI_n e, upI_n e]; exact h i
/-- the columns: the least and the greatest that were taken -/
def HU_ (f g : Nat → Int) : Prop := ∀ i : Nat, (-80 ≤ f i ∧ f i ≤ 81) ∧ -81 ≤ g i ∧ g i ≤ 80
theorem HU_f {f g : Nat → Int} (h : HU_ f g) : HU_ (jf f 81 161) (jf g (-81) 161) := by
  intro i
  have := h i
  unfold jf
  split <;> omega
theorem HU_p {f g : Nat → Int} {k : Nat} {a b : Int} (h : HU_ f g) (ha : -80 ≤ a ∧ a ≤ 81) (hb : -81 ≤ b ∧ b ≤ 80) : HU_ (upI f k a) (upI g k b) := by
  intro i
  by_cases e : i = k
  · rw [e, upI_s, upI_s]; exact ⟨ha, hb⟩
  · rw [upI_n e, upI_n e]; exact h i
theorem rl8 : (rl 8 : Int) = 323 := rfl
/-- behind an append -/
theorem ap_b {K : Int} {f0 g0 f g : Nat → Int} {n0 n x y m : Int} (h : RV K f0 g0) (h0 : 0 ≤ n0 ∧ n0 ≤ m) (hx : -K ≤ x ∧ x ≤ K) (hy : -K ≤ y ∧ y ≤ K) (hp : (n0 < m ∧ f = upI f0 n0.toNat x ∧ g = upI g0 n0.toNat y ∧ n = n0 + 1) ∨ (m ≤ n0 ∧ f = f0 ∧ g = g0 ∧ n = n0)) : (0 ≤ n ∧ n ≤ m) ∧ RV K f g := by
  rcases hp with ⟨a, e1, e2, e3⟩ | ⟨a, e1, e2, e3⟩
  · rw [e1, e2]; exact ⟨by omega, RV_put h hx hy⟩
  · rw [e1, e2]; exact ⟨by omega, h⟩

set_option maxHeartbeats 4000000 in
set_option maxRecDepth 100000 in
theorem c_X3_begin (l : Launch) (D : JD) (q : Nat → Nat) (u : CS) (A : Nat → Prop) (hD : va_D A (cW D q u)) (p0 : HU_ (u.2.1 0) (u.2.1 1)) : Met l yX3_begin (jw yX3_begin cX3_begin 1 none) (jr 1 23) (jP [.ref (q 2)] D (fun H => va_P D.1 j_cl (cW D q u) H)) (jWv (fun u' => ∃ f : Nat → Int, ∃ g : Nat → Int, u' = (sI (sI u 0 f) 1 g) ∧ (f = jf (u.2.1 0) 81 161 ∧ g = jf (u.2.1 1) (-81) 161 ∧ HU_ f g)) (fun u' H => va_P D.1 j_cl (cW D q u') H) A) 0 0 A := by
  refine Met.ofW (cc := cX3_begin) (maxL := 1) (ret := none) (by decide) rfl ?_
  intro pr en st mi args below meth co s₁ B hml hv
  obtain ⟨rfl, hG, hP⟩ := hv
  have hr := B.returns
  have hlk := B.notSynchronized
  have SS : jS pr mi co cX3_begin 1 st _ RX3 := ⟨B.exec, B.bytes, hml, findClass_of_methodNamed B.named, fun w hw => atoms_spec (ws := (jw yX3_begin cX3_begin 1 none)) B.pre w (List.mem_cons_of_mem _ hw)⟩
  have hl := lv_entry ([.ref (q 2)]) (n := 1) (Nat.le_of_ble_eq_true rfl)
  rw [lg_entry_eq]
  generalize (lg_sl ([.ref (q 2)]) ++ List.replicate (1 - (lg_sl ([.ref (q 2)])).length) Slot.unset).toArray = ls at hl ⊢
  have hl : lv_has ls 1 [(0, .ref (q 2))] := hl
  have hS : va_S A st.heap st.heap [] := va_S.rf
  refine lv_aload_n SS.1 SS.2.1 dX3_begin_0 rfl (lv_at hl 0 rfl) ?_
  refine j_get SS hG hP 2 (v := .ref (q 48)) (C := RX3) (T := TX3) (N := 3) rfl rfl inX3 0 (by decide) (ref := "GridPolygons$Hull") kw_177 rfl rfl dX3_begin_1 ?_
  refine j_bipush SS dX3_begin_4 (by decide +kernel) ?_
  refine j_sWv SS (As := [.ref (q 48), .int (J 81)]) (rest := []) (c_J7_fill_53178 l D (ws := (cW D q u)) (A := A) (cW_D hD) 48 (81 : Int) rfl (by first | decide | omega)) mf_J7_fill_53178 kw_422 hG hP hS (fun _ h => h) rfl hl.1 ⟨⟨Nat.le_of_ble_eq_true rfl, Nat.le_of_ble_eq_true rfl⟩, Nat.le_of_ble_eq_true rfl, Nat.le_refl _, Nat.le_refl _⟩ rfl dX3_begin_6 (fun _ H locs _ hP _ hS => ?_)
  have hP : va_P D.1 j_cl (cW D q (sI u 0 (jf (u.2.1 0) (81 : Int) 161))) H := hP
  refine lv_aload_n SS.1 SS.2.1 dX3_begin_9 rfl (lv_at hl 0 rfl) ?_
  refine j_get SS hG hP 2 (v := .ref (q 52)) (C := RX3) (T := TX3) (N := 3) rfl rfl inX3 1 (by decide) (ref := "GridPolygons$Hull") kw_178 rfl rfl dX3_begin_10 ?_
  refine j_bipush SS dX3_begin_13 (by decide +kernel) ?_
  refine j_sWv SS (As := [.ref (q 52), .int (J (-81))]) (rest := []) (c_J7_fill_53178 l D (ws := (cW D q (sI u 0 (jf (u.2.1 0) (81 : Int) 161)))) (A := A) (cW_D hD) 52 (-81) rfl (by first | decide | omega)) mf_J7_fill_53178 kw_422 hG hP hS (fun _ h => h) rfl hl.1 ⟨⟨Nat.le_of_ble_eq_true rfl, Nat.le_of_ble_eq_true rfl⟩, Nat.le_of_ble_eq_true rfl, Nat.le_refl _, Nat.le_refl _⟩ rfl dX3_begin_15 (fun _ H locs _ hP _ hS => ?_)
  have hP : va_P D.1 j_cl (cW D q (sI (sI u 0 (jf (u.2.1 0) (81 : Int) 161)) 1 (jf (u.2.1 1) (-81) 161))) H := hP
  exact W.vret SS.1 SS.2.1 hr (fun t0 ht hW => ⟨⟨(sI (sI u 0 (jf (u.2.1 0) (81 : Int) 161)) 1 (jf (u.2.1 1) (-81) 161)), rfl, (⟨(jf (u.2.1 0) (81 : Int) 161), (jf (u.2.1 1) (-81) 161), rfl, ⟨rfl, rfl, HU_f p0⟩⟩), by show va_P D.1 j_cl (cW D q (sI (sI u 0 (jf (u.2.1 0) (81 : Int) 161)) 1 (jf (u.2.1 1) (-81) 161))) t0.heap; rw [ht]; first | exact hP | (simp only [sC_id, sX_id, sY_id, sH_id, sT_id, sV_id]; exact hP)⟩, hS.F ht⟩) hS.2.2 dX3_begin_18 hlk

set_option maxHeartbeats 4000000 in
set_option maxRecDepth 100000 in
theorem c_X3_take (l : Launch) (D : JD) (q : Nat → Nat) (u : CS) (A : Nat → Prop) (hD : va_D A (cW D q u)) (a : Int) (b : Int) (p0 : HU_ (u.2.1 0) (u.2.1 1)) (p1 : -1000 ≤ a ∧ a ≤ 1000) (p2 : -2147483648 ≤ b ∧ b ≤ 2147483647) : Met l yX3_take (jw yX3_take cX3_take 4 none) (jr 1 21) (jP [.ref (q 2), .int (J a), .int (J b)] D (fun H => va_P D.1 j_cl (cW D q u) H)) (jWv (fun u' => ∃ f : Nat → Int, ∃ g : Nat → Int, u' = (sI (sI u 0 f) 1 g) ∧ (((-80 ≤ a ∧ a ≤ 80 ∧ -80 ≤ b ∧ b ≤ 80) ∧ f = upI (u.2.1 0) (a + 80).toNat (min (u.2.1 0 (a + 80).toNat) b) ∧ g = upI (u.2.1 1) (a + 80).toNat (max (u.2.1 1 (a + 80).toNat) b) ∨ ¬ (-80 ≤ a ∧ a ≤ 80 ∧ -80 ≤ b ∧ b ≤ 80) ∧ f = u.2.1 0 ∧ g = u.2.1 1) ∧ HU_ f g)) (fun u' H => va_P D.1 j_cl (cW D q u') H) A) 0 0 A := by
  refine Met.ofW (cc := cX3_take) (maxL := 4) (ret := none) (by decide) rfl ?_
  intro pr en st mi args below meth co s₁ B hml hv
  obtain ⟨rfl, hG, hP⟩ := hv
  have hr := B.returns
  have hlk := B.notSynchronized
  have SS : jS pr mi co cX3_take 4 st _ RX3 := ⟨B.exec, B.bytes, hml, findClass_of_methodNamed B.named, fun w hw => atoms_spec (ws := (jw yX3_take cX3_take 4 none)) B.pre w (List.mem_cons_of_mem _ hw)⟩
  have hl := lv_entry ([.ref (q 2), .int (J a), .int (J b)]) (n := 4) (Nat.le_of_ble_eq_true rfl)
  rw [lg_entry_eq]
  generalize (lg_sl ([.ref (q 2), .int (J a), .int (J b)]) ++ List.replicate (4 - (lg_sl ([.ref (q 2), .int (J a), .int (J b)])).length) Slot.unset).toArray = ls at hl ⊢
  have hl : lv_has ls 4 [(0, .ref (q 2)), (1, .int (J a)), (2, .int (J b))] := hl
  have hS : va_S A st.heap st.heap [] := va_S.rf
  refine lv_iload_n SS.1 SS.2.1 dX3_take_0 rfl (lv_at hl 1 rfl) ?_
  refine j_bipush SS dX3_take_1 (by decide +kernel) ?_
  refine j_iadd SS (x := a) (y := 80) dX3_take_3 ?_
  refine lv_istore_n (lv' := [(3, .int (J (a + 80))), (0, .ref (q 2)), (1, .int (J a)), (2, .int (J b))]) SS.1 SS.2.1 dX3_take_4 rfl hl (by decide) rfl (fun ls hl => ?_)
  refine lv_iload_n SS.1 SS.2.1 dX3_take_5 rfl (lv_at hl 0 rfl) ?_
  refine j_if_lt SS (tgt := 28) (x := (a + 80)) dX3_take_6 (by decide) (by omega) (fun c_6 => ?_) (fun c_6 => ?_)
  · skip
    exact W.vret SS.1 SS.2.1 hr (fun t0 ht hW => ⟨⟨(sI (sI u 0 (u.2.1 0)) 1 (u.2.1 1)), rfl, (⟨(u.2.1 0), (u.2.1 1), rfl, ⟨Or.inr ⟨by omega, rfl, rfl⟩, p0⟩⟩), by show va_P D.1 j_cl (cW D q (sI (sI u 0 (u.2.1 0)) 1 (u.2.1 1))) t0.heap; rw [ht]; first | exact hP | (simp only [sC_id, sX_id, sY_id, sH_id, sT_id, sV_id]; exact hP)⟩, hS.F ht⟩) hS.2.2 dX3_take_28 hlk
  · skip
    refine lv_iload_n SS.1 SS.2.1 dX3_take_9 rfl (lv_at hl 0 rfl) ?_
    refine j_sipush SS dX3_take_10 (by decide +kernel) ?_
    refine j_icmp_ge SS (tgt := 28) (x := (a + 80)) (y := 161) dX3_take_13 (by decide) (by omega) (by decide) (fun c_13 => ?_) (fun c_13 => ?_)
    · skip
      exact W.vret SS.1 SS.2.1 hr (fun t0 ht hW => ⟨⟨(sI (sI u 0 (u.2.1 0)) 1 (u.2.1 1)), rfl, (⟨(u.2.1 0), (u.2.1 1), rfl, ⟨Or.inr ⟨by omega, rfl, rfl⟩, p0⟩⟩), by show va_P D.1 j_cl (cW D q (sI (sI u 0 (u.2.1 0)) 1 (u.2.1 1))) t0.heap; rw [ht]; first | exact hP | (simp only [sC_id, sX_id, sY_id, sH_id, sT_id, sV_id]; exact hP)⟩, hS.F ht⟩) hS.2.2 dX3_take_28 hlk
    · skip
      refine lv_iload_n SS.1 SS.2.1 dX3_take_16 rfl (lv_at hl 3 rfl) ?_
      refine j_bipush SS dX3_take_17 (by decide +kernel) ?_
      refine j_icmp_lt SS (tgt := 28) (x := b) (y := (-80)) dX3_take_19 (by decide) (by omega) (by decide) (fun c_19 => ?_) (fun c_19 => ?_)
      · skip
        exact W.vret SS.1 SS.2.1 hr (fun t0 ht hW => ⟨⟨(sI (sI u 0 (u.2.1 0)) 1 (u.2.1 1)), rfl, (⟨(u.2.1 0), (u.2.1 1), rfl, ⟨Or.inr ⟨by omega, rfl, rfl⟩, p0⟩⟩), by show va_P D.1 j_cl (cW D q (sI (sI u 0 (u.2.1 0)) 1 (u.2.1 1))) t0.heap; rw [ht]; first | exact hP | (simp only [sC_id, sX_id, sY_id, sH_id, sT_id, sV_id]; exact hP)⟩, hS.F ht⟩) hS.2.2 dX3_take_28 hlk
      · skip
        refine lv_iload_n SS.1 SS.2.1 dX3_take_22 rfl (lv_at hl 3 rfl) ?_
        refine j_bipush SS dX3_take_23 (by decide +kernel) ?_
        refine j_icmp_le SS (tgt := 29) (x := b) (y := 80) dX3_take_25 (by decide) (by omega) (by decide) (fun c_25 => ?_) (fun c_25 => ?_)
        · skip
          refine lv_aload_n SS.1 SS.2.1 dX3_take_29 rfl (lv_at hl 1 rfl) ?_
          refine j_get SS hG hP 2 (v := .ref (q 48)) (C := RX3) (T := TX3) (N := 3) rfl rfl inX3 0 (by decide) (ref := "GridPolygons$Hull") kw_177 rfl rfl dX3_take_30 ?_
          refine lv_iload_n SS.1 SS.2.1 dX3_take_33 rfl (lv_at hl 0 rfl) ?_
          refine lv_aload_n SS.1 SS.2.1 dX3_take_34 rfl (lv_at hl 1 rfl) ?_
          refine j_get SS hG hP 2 (v := .ref (q 48)) (C := RX3) (T := TX3) (N := 3) rfl rfl inX3 0 (by decide) (ref := "GridPolygons$Hull") kw_177 rfl rfl dX3_take_35 ?_
          refine lv_iload_n SS.1 SS.2.1 dX3_take_38 rfl (lv_at hl 0 rfl) ?_
          have ql := p0 (a + 80).toNat
          refine j_iald SS hG hP 48 (n := 161) (f := (u.2.1 0)) rfl (z := (a + 80)) (by omega) (by omega) dX3_take_39 ?_
          refine lv_iload_n SS.1 SS.2.1 dX3_take_40 rfl (lv_at hl 3 rfl) ?_
          refine j_sRi SS (As := [.int (J ((u.2.1 0) ((a + 80)).toNat)), .int (J b)]) (rest := [.int (J (a + 80)), .ref (q 48)]) (c_J9_min_7cf53 l D  ((u.2.1 0) ((a + 80)).toNat) b (show -2147483648 ≤ ((u.2.1 0) ((a + 80)).toNat) ∧ ((u.2.1 0) ((a + 80)).toNat) ≤ 2147483647 from (by omega)) (show -2147483648 ≤ b ∧ b ≤ 2147483647 from (p2))) mf_J9_min_7cf53 kw_486 hG trivial rfl hl.1 ⟨⟨Nat.le_of_ble_eq_true rfl, Nat.le_of_ble_eq_true rfl⟩, Nat.le_of_ble_eq_true rfl, Nat.le_refl _, Nat.le_refl _⟩ rfl dX3_take_41 (fun z_41 h_41 => ?_)
          have h_41 : (z_41 = ((u.2.1 0) ((a + 80)).toNat) ∨ z_41 = b) ∧ z_41 ≤ ((u.2.1 0) ((a + 80)).toNat) ∧ z_41 ≤ b := h_41
          refine j_iast SS hG hP (cW_D hD) hS 48 (n := 161) (f := (u.2.1 0)) rfl (z := (a + 80)) (v := z_41) (by omega) (by omega) dX3_take_44 (ws' := (cW D q (sI u 0 (upI (u.2.1 0) ((a + 80)).toNat z_41)))) rfl (fun H locs hP hS => ?_)
          refine lv_aload_n SS.1 SS.2.1 dX3_take_45 rfl (lv_at hl 1 rfl) ?_
          refine j_get SS hG hP 2 (v := .ref (q 52)) (C := RX3) (T := TX3) (N := 3) rfl rfl inX3 1 (by decide) (ref := "GridPolygons$Hull") kw_178 rfl rfl dX3_take_46 ?_
          refine lv_iload_n SS.1 SS.2.1 dX3_take_49 rfl (lv_at hl 0 rfl) ?_
          refine lv_aload_n SS.1 SS.2.1 dX3_take_50 rfl (lv_at hl 1 rfl) ?_
          refine j_get SS hG hP 2 (v := .ref (q 52)) (C := RX3) (T := TX3) (N := 3) rfl rfl inX3 1 (by decide) (ref := "GridPolygons$Hull") kw_178 rfl rfl dX3_take_51 ?_
          refine lv_iload_n SS.1 SS.2.1 dX3_take_54 rfl (lv_at hl 0 rfl) ?_
          have e41 : z_41 = min (u.2.1 0 (a + 80).toNat) b := by omega
          refine j_iald SS hG hP 52 (n := 161) (f := (u.2.1 1)) rfl (z := (a + 80)) (by omega) (by omega) dX3_take_55 ?_
          refine lv_iload_n SS.1 SS.2.1 dX3_take_56 rfl (lv_at hl 3 rfl) ?_
          refine j_sRi SS (As := [.int (J ((u.2.1 1) ((a + 80)).toNat)), .int (J b)]) (rest := [.int (J (a + 80)), .ref (q 52)]) (c_J9_max_7cf53 l D  ((u.2.1 1) ((a + 80)).toNat) b (show -2147483648 ≤ ((u.2.1 1) ((a + 80)).toNat) ∧ ((u.2.1 1) ((a + 80)).toNat) ≤ 2147483647 from (by omega)) (show -2147483648 ≤ b ∧ b ≤ 2147483647 from (by omega))) mf_J9_max_7cf53 kw_489 hG trivial rfl hl.1 ⟨⟨Nat.le_of_ble_eq_true rfl, Nat.le_of_ble_eq_true rfl⟩, Nat.le_of_ble_eq_true rfl, Nat.le_refl _, Nat.le_refl _⟩ rfl dX3_take_57 (fun z_57 h_57 => ?_)
          have h_57 : (z_57 = ((u.2.1 1) ((a + 80)).toNat) ∨ z_57 = b) ∧ ((u.2.1 1) ((a + 80)).toNat) ≤ z_57 ∧ b ≤ z_57 := h_57
          have e57 : z_57 = max (u.2.1 1 (a + 80).toNat) b := by omega
          refine j_iast SS hG hP (cW_D hD) hS 52 (n := 161) (f := (u.2.1 1)) rfl (z := (a + 80)) (v := z_57) (by omega) (by omega) dX3_take_60 (ws' := (cW D q (sI (sI u 0 (upI (u.2.1 0) ((a + 80)).toNat z_41)) 1 (upI (u.2.1 1) ((a + 80)).toNat z_57)))) rfl (fun H locs hP hS => ?_)
          exact W.vret SS.1 SS.2.1 hr (fun t0 ht hW => ⟨⟨(sI (sI u 0 (upI (u.2.1 0) ((a + 80)).toNat z_41)) 1 (upI (u.2.1 1) ((a + 80)).toNat z_57)), rfl, (⟨(upI (u.2.1 0) ((a + 80)).toNat z_41), (upI (u.2.1 1) ((a + 80)).toNat z_57), rfl, ⟨Or.inl ⟨by omega, by rw [e41], by rw [e57]⟩, HU_p p0 (by omega) (by omega)⟩⟩), by show va_P D.1 j_cl (cW D q (sI (sI u 0 (upI (u.2.1 0) ((a + 80)).toNat z_41)) 1 (upI (u.2.1 1) ((a + 80)).toNat z_57))) t0.heap; rw [ht]; first | exact hP | (simp only [sC_id, sX_id, sY_id, sH_id, sT_id, sV_id]; exact hP)⟩, hS.F ht⟩) hS.2.2 dX3_take_61 hlk
        · skip
          exact W.vret SS.1 SS.2.1 hr (fun t0 ht hW => ⟨⟨(sI (sI u 0 (u.2.1 0)) 1 (u.2.1 1)), rfl, (⟨(u.2.1 0), (u.2.1 1), rfl, ⟨Or.inr ⟨by omega, rfl, rfl⟩, p0⟩⟩), by show va_P D.1 j_cl (cW D q (sI (sI u 0 (u.2.1 0)) 1 (u.2.1 1))) t0.heap; rw [ht]; first | exact hP | (simp only [sC_id, sX_id, sY_id, sH_id, sT_id, sV_id]; exact hP)⟩, hS.F ht⟩) hS.2.2 dX3_take_28 hlk

set_option maxHeartbeats 4000000 in
set_option maxRecDepth 100000 in
theorem c_X3_isLast (l : Launch) (D : JD) (q : Nat → Nat) (u : CS) (a : Int) (b : Int) (p0 : RB 80 u 8) (p1 : -2147483648 ≤ a ∧ a ≤ 2147483647) (p2 : -2147483648 ≤ b ∧ b ≤ 2147483647) : Met l yX3_isLast (jw yX3_isLast cX3_isLast 3 (some .boolean)) (jr 1 21) (jP [.ref (q 2), .int (J a), .int (J b)] D (fun H => va_P D.1 j_cl (cW D q u) H)) (jRi (fun z => (z = 1 ∧ 0 < u.1.2.2.1 8 ∧ rx u 8 (u.1.2.2.1 8 - 1) = a ∧ ry9 u 8 (u.1.2.2.1 8 - 1) = b) ∨ (z = 0 ∧ ¬ (0 < u.1.2.2.1 8 ∧ rx u 8 (u.1.2.2.1 8 - 1) = a ∧ ry9 u 8 (u.1.2.2.1 8 - 1) = b)))) 0 0 (fun _ => False) := by
  refine Met.ofW (cc := cX3_isLast) (maxL := 3) (ret := (some .boolean)) (by decide) rfl ?_
  intro pr en st mi args below meth co s₁ B hml hv
  obtain ⟨rfl, hG, hP⟩ := hv
  have hr := B.returns
  have hlk := B.notSynchronized
  have SS : jS pr mi co cX3_isLast 3 st _ RX3 := ⟨B.exec, B.bytes, hml, findClass_of_methodNamed B.named, fun w hw => atoms_spec (ws := (jw yX3_isLast cX3_isLast 3 (some .boolean))) B.pre w (List.mem_cons_of_mem _ hw)⟩
  have hl := lv_entry ([.ref (q 2), .int (J a), .int (J b)]) (n := 3) (Nat.le_of_ble_eq_true rfl)
  rw [lg_entry_eq]
  generalize (lg_sl ([.ref (q 2), .int (J a), .int (J b)]) ++ List.replicate (3 - (lg_sl ([.ref (q 2), .int (J a), .int (J b)])).length) Slot.unset).toArray = ls at hl ⊢
  have hl : lv_has ls 3 [(0, .ref (q 2)), (1, .int (J a)), (2, .int (J b))] := hl
  have hc := p0.1
  have hr8 := rl8
  rw [rl8] at hc
  refine lv_aload_n SS.1 SS.2.1 dX3_isLast_0 rfl (lv_at hl 0 rfl) ?_
  refine j_get SS hG hP 2 (v := .ref (q (9 + 5 * 8))) (C := RX3) (T := TX3) (N := 3) rfl rfl inX3 2 (by decide) (ref := "GridPolygons$Hull") kw_179 rfl rfl dX3_isLast_1 ?_
  refine j_getS SS hG hP (9 + 5 * 8) (v := .int (J (u.1.2.2.1 8))) (C := RX7) (T := TX7) (N := 3) (cw_ring (by omega)) rfl inX7 2 (by decide) (ref := "GridPolygons$Ring") kw_141 kw_132 rfl dX3_isLast_4 ?_
  refine j_if_le SS (tgt := 54) (x := (u.1.2.2.1 8)) dX3_isLast_7 (by decide) (by omega) (fun c_7 => ?_) (fun c_7 => ?_)
  · skip
    refine j_iconst SS dX3_isLast_54 ?_
    exact W.zret SS.1 SS.2.1 hr (j_nz (by decide)) (fun t0 ht hW => ⟨_, rfl, ⟨0, rfl, (by first | (refine Or.inr ⟨rfl, ?_⟩; intro q; omega) | exact Or.inl ⟨rfl, by omega, by omega, by omega⟩)⟩, ht⟩) (fun _ h => nomatch h) dX3_isLast_55 hlk
  · skip
    refine lv_aload_n SS.1 SS.2.1 dX3_isLast_10 rfl (lv_at hl 0 rfl) ?_
    refine j_get SS hG hP 2 (v := .ref (q (9 + 5 * 8))) (C := RX3) (T := TX3) (N := 3) rfl rfl inX3 2 (by decide) (ref := "GridPolygons$Hull") kw_179 rfl rfl dX3_isLast_11 ?_
    refine lv_aload_n SS.1 SS.2.1 dX3_isLast_14 rfl (lv_at hl 0 rfl) ?_
    refine j_get SS hG hP 2 (v := .ref (q (9 + 5 * 8))) (C := RX3) (T := TX3) (N := 3) rfl rfl inX3 2 (by decide) (ref := "GridPolygons$Hull") kw_179 rfl rfl dX3_isLast_15 ?_
    refine j_getS SS hG hP (9 + 5 * 8) (v := .int (J (u.1.2.2.1 8))) (C := RX7) (T := TX7) (N := 3) (cw_ring (by omega)) rfl inX7 2 (by decide) (ref := "GridPolygons$Ring") kw_141 kw_132 rfl dX3_isLast_18 ?_
    refine j_iconst SS dX3_isLast_21 ?_
    refine j_isub SS (x := (u.1.2.2.1 8)) (y := 1) dX3_isLast_22 ?_
    refine j_uRi SS (As := [.int (J ((u.1.2.2.1 8) - 1))]) (rest := []) (c_X8_x l D q u 8 (by omega) ((u.1.2.2.1 8) - 1) (show -2147483648 ≤ ((u.1.2.2.1 8) - 1) ∧ ((u.1.2.2.1 8) - 1) ≤ 2147483647 from (by omega))) mu_7_x kw_437 hG hP hP (ci := 7) (q0 := (9 + 5 * 8)) rfl (cw_ring (by omega)) rfl rfl hl.1 ⟨⟨Nat.le_of_ble_eq_true rfl, Nat.le_of_ble_eq_true rfl⟩, Nat.le_of_ble_eq_true rfl, Nat.le_refl _, Nat.le_refl _⟩ rfl dX3_isLast_23 (fun z_23 h_23 => ?_)
    have h_23 : z_23 = rx u 8 ((u.1.2.2.1 8) - 1) ∧ ∀ K : Int, 0 ≤ K → RB K u 8 → -K ≤ z_23 ∧ z_23 ≤ K := h_23
    have hb_23 := h_23.2 80 (by omega) (p0)
    refine lv_iload_n SS.1 SS.2.1 dX3_isLast_26 rfl (lv_at hl 1 rfl) ?_
    refine j_icmp_ne SS (tgt := 54) (x := z_23) (y := a) dX3_isLast_27 (by decide) (by omega) (by omega) (fun c_27 => ?_) (fun c_27 => ?_)
    · skip
      refine j_iconst SS dX3_isLast_54 ?_
      exact W.zret SS.1 SS.2.1 hr (j_nz (by decide)) (fun t0 ht hW => ⟨_, rfl, ⟨0, rfl, (by first | (refine Or.inr ⟨rfl, ?_⟩; intro q; omega) | exact Or.inl ⟨rfl, by omega, by omega, by omega⟩)⟩, ht⟩) (fun _ h => nomatch h) dX3_isLast_55 hlk
    · skip
      refine lv_aload_n SS.1 SS.2.1 dX3_isLast_30 rfl (lv_at hl 0 rfl) ?_
      refine j_get SS hG hP 2 (v := .ref (q (9 + 5 * 8))) (C := RX3) (T := TX3) (N := 3) rfl rfl inX3 2 (by decide) (ref := "GridPolygons$Hull") kw_179 rfl rfl dX3_isLast_31 ?_
      refine lv_aload_n SS.1 SS.2.1 dX3_isLast_34 rfl (lv_at hl 0 rfl) ?_
      refine j_get SS hG hP 2 (v := .ref (q (9 + 5 * 8))) (C := RX3) (T := TX3) (N := 3) rfl rfl inX3 2 (by decide) (ref := "GridPolygons$Hull") kw_179 rfl rfl dX3_isLast_35 ?_
      refine j_getS SS hG hP (9 + 5 * 8) (v := .int (J (u.1.2.2.1 8))) (C := RX7) (T := TX7) (N := 3) (cw_ring (by omega)) rfl inX7 2 (by decide) (ref := "GridPolygons$Ring") kw_141 kw_132 rfl dX3_isLast_38 ?_
      refine j_iconst SS dX3_isLast_41 ?_
      refine j_isub SS (x := (u.1.2.2.1 8)) (y := 1) dX3_isLast_42 ?_
      refine j_uRi SS (As := [.int (J ((u.1.2.2.1 8) - 1))]) (rest := []) (c_X8_y l D q u 8 (by omega) ((u.1.2.2.1 8) - 1) (show -2147483648 ≤ ((u.1.2.2.1 8) - 1) ∧ ((u.1.2.2.1 8) - 1) ≤ 2147483647 from (by omega))) mu_7_y kw_443 hG hP hP (ci := 7) (q0 := (9 + 5 * 8)) rfl (cw_ring (by omega)) rfl rfl hl.1 ⟨⟨Nat.le_of_ble_eq_true rfl, Nat.le_of_ble_eq_true rfl⟩, Nat.le_of_ble_eq_true rfl, Nat.le_refl _, Nat.le_refl _⟩ rfl dX3_isLast_43 (fun z_43 h_43 => ?_)
      have h_43 : z_43 = ry9 u 8 ((u.1.2.2.1 8) - 1) ∧ ∀ K : Int, 0 ≤ K → RB K u 8 → -K ≤ z_43 ∧ z_43 ≤ K := h_43
      have hb_43 := h_43.2 80 (by omega) (p0)
      refine lv_iload_n SS.1 SS.2.1 dX3_isLast_46 rfl (lv_at hl 2 rfl) ?_
      refine j_icmp_ne SS (tgt := 54) (x := z_43) (y := b) dX3_isLast_47 (by decide) (by omega) (by omega) (fun c_47 => ?_) (fun c_47 => ?_)
      · skip
        refine j_iconst SS dX3_isLast_54 ?_
        exact W.zret SS.1 SS.2.1 hr (j_nz (by decide)) (fun t0 ht hW => ⟨_, rfl, ⟨0, rfl, (by first | (refine Or.inr ⟨rfl, ?_⟩; intro q; omega) | exact Or.inl ⟨rfl, by omega, by omega, by omega⟩)⟩, ht⟩) (fun _ h => nomatch h) dX3_isLast_55 hlk
      · skip
        refine j_iconst SS dX3_isLast_50 ?_
        refine lv_goto (tgt := 55) SS.1 SS.2.1 dX3_isLast_51 (by decide) ?_
        exact W.zret SS.1 SS.2.1 hr (j_nz (by decide)) (fun t0 ht hW => ⟨_, rfl, ⟨1, rfl, (by first | (refine Or.inr ⟨rfl, ?_⟩; intro q; omega) | exact Or.inl ⟨rfl, by omega, by omega, by omega⟩)⟩, ht⟩) (fun _ h => nomatch h) dX3_isLast_55 hlk

set_option maxHeartbeats 4000000 in
set_option maxRecDepth 100000 in
theorem c_X3_turnsLeft (l : Launch) (D : JD) (q : Nat → Nat) (u : CS) (a : Int) (b : Int) (p0 : RB 80 u 8) (p1 : -80 ≤ a ∧ a ≤ 80) (p2 : -80 ≤ b ∧ b ≤ 80) : Met l yX3_turnsLeft (jw yX3_turnsLeft cX3_turnsLeft 6 (some .boolean)) (jr 1 21) (jP [.ref (q 2), .int (J a), .int (J b)] D (fun H => va_P D.1 j_cl (cW D q u) H)) (jRi (fun z => (z = 1 ∧ 0 < (rx u 8 (u.1.2.2.1 8 - 1) - rx u 8 (u.1.2.2.1 8 - 1 - 1)) * (b - ry9 u 8 (u.1.2.2.1 8 - 1)) - (ry9 u 8 (u.1.2.2.1 8 - 1) - ry9 u 8 (u.1.2.2.1 8 - 1 - 1)) * (a - rx u 8 (u.1.2.2.1 8 - 1))) ∨ (z = 0 ∧ (rx u 8 (u.1.2.2.1 8 - 1) - rx u 8 (u.1.2.2.1 8 - 1 - 1)) * (b - ry9 u 8 (u.1.2.2.1 8 - 1)) - (ry9 u 8 (u.1.2.2.1 8 - 1) - ry9 u 8 (u.1.2.2.1 8 - 1 - 1)) * (a - rx u 8 (u.1.2.2.1 8 - 1)) ≤ 0))) 0 0 (fun _ => False) := by
  refine Met.ofW (cc := cX3_turnsLeft) (maxL := 6) (ret := (some .boolean)) (by decide) rfl ?_
  intro pr en st mi args below meth co s₁ B hml hv
  obtain ⟨rfl, hG, hP⟩ := hv
  have hr := B.returns
  have hlk := B.notSynchronized
  have SS : jS pr mi co cX3_turnsLeft 6 st _ RX3 := ⟨B.exec, B.bytes, hml, findClass_of_methodNamed B.named, fun w hw => atoms_spec (ws := (jw yX3_turnsLeft cX3_turnsLeft 6 (some .boolean))) B.pre w (List.mem_cons_of_mem _ hw)⟩
  have hl := lv_entry ([.ref (q 2), .int (J a), .int (J b)]) (n := 6) (Nat.le_of_ble_eq_true rfl)
  rw [lg_entry_eq]
  generalize (lg_sl ([.ref (q 2), .int (J a), .int (J b)]) ++ List.replicate (6 - (lg_sl ([.ref (q 2), .int (J a), .int (J b)])).length) Slot.unset).toArray = ls at hl ⊢
  have hl : lv_has ls 6 [(0, .ref (q 2)), (1, .int (J a)), (2, .int (J b))] := hl
  have hc := p0.1
  have hr8 := rl8
  rw [rl8] at hc
  refine lv_aload_n SS.1 SS.2.1 dX3_turnsLeft_0 rfl (lv_at hl 0 rfl) ?_
  refine j_get SS hG hP 2 (v := .ref (q (9 + 5 * 8))) (C := RX3) (T := TX3) (N := 3) rfl rfl inX3 2 (by decide) (ref := "GridPolygons$Hull") kw_179 rfl rfl dX3_turnsLeft_1 ?_
  refine j_getS SS hG hP (9 + 5 * 8) (v := .int (J (u.1.2.2.1 8))) (C := RX7) (T := TX7) (N := 3) (cw_ring (by omega)) rfl inX7 2 (by decide) (ref := "GridPolygons$Ring") kw_141 kw_132 rfl dX3_turnsLeft_4 ?_
  refine j_iconst SS dX3_turnsLeft_7 ?_
  refine j_isub SS (x := (u.1.2.2.1 8)) (y := 1) dX3_turnsLeft_8 ?_
  refine lv_istore_n (lv' := [(3, .int (J ((u.1.2.2.1 8) - 1))), (0, .ref (q 2)), (1, .int (J a)), (2, .int (J b))]) SS.1 SS.2.1 dX3_turnsLeft_9 rfl hl (by decide) rfl (fun ls hl => ?_)
  refine lv_aload_n SS.1 SS.2.1 dX3_turnsLeft_10 rfl (lv_at hl 1 rfl) ?_
  refine j_get SS hG hP 2 (v := .ref (q (9 + 5 * 8))) (C := RX3) (T := TX3) (N := 3) rfl rfl inX3 2 (by decide) (ref := "GridPolygons$Hull") kw_179 rfl rfl dX3_turnsLeft_11 ?_
  refine lv_iload_n SS.1 SS.2.1 dX3_turnsLeft_14 rfl (lv_at hl 0 rfl) ?_
  refine j_uRi SS (As := [.int (J ((u.1.2.2.1 8) - 1))]) (rest := []) (c_X8_x l D q u 8 (by omega) ((u.1.2.2.1 8) - 1) (show -2147483648 ≤ ((u.1.2.2.1 8) - 1) ∧ ((u.1.2.2.1 8) - 1) ≤ 2147483647 from (by omega))) mu_7_x kw_437 hG hP hP (ci := 7) (q0 := (9 + 5 * 8)) rfl (cw_ring (by omega)) rfl rfl hl.1 ⟨⟨Nat.le_of_ble_eq_true rfl, Nat.le_of_ble_eq_true rfl⟩, Nat.le_of_ble_eq_true rfl, Nat.le_refl _, Nat.le_refl _⟩ rfl dX3_turnsLeft_15 (fun z_15 h_15 => ?_)
  have h_15 : z_15 = rx u 8 ((u.1.2.2.1 8) - 1) ∧ ∀ K : Int, 0 ≤ K → RB K u 8 → -K ≤ z_15 ∧ z_15 ≤ K := h_15
  have hb_15 := h_15.2 80 (by omega) (p0)
  refine lv_aload_n SS.1 SS.2.1 dX3_turnsLeft_18 rfl (lv_at hl 1 rfl) ?_
  refine j_get SS hG hP 2 (v := .ref (q (9 + 5 * 8))) (C := RX3) (T := TX3) (N := 3) rfl rfl inX3 2 (by decide) (ref := "GridPolygons$Hull") kw_179 rfl rfl dX3_turnsLeft_19 ?_
  refine lv_iload_n SS.1 SS.2.1 dX3_turnsLeft_22 rfl (lv_at hl 0 rfl) ?_
  refine j_iconst SS dX3_turnsLeft_23 ?_
  refine j_isub SS (x := ((u.1.2.2.1 8) - 1)) (y := 1) dX3_turnsLeft_24 ?_
  refine j_uRi SS (As := [.int (J (((u.1.2.2.1 8) - 1) - 1))]) (rest := [.int (J z_15)]) (c_X8_x l D q u 8 (by omega) (((u.1.2.2.1 8) - 1) - 1) (show -2147483648 ≤ (((u.1.2.2.1 8) - 1) - 1) ∧ (((u.1.2.2.1 8) - 1) - 1) ≤ 2147483647 from (by omega))) mu_7_x kw_437 hG hP hP (ci := 7) (q0 := (9 + 5 * 8)) rfl (cw_ring (by omega)) rfl rfl hl.1 ⟨⟨Nat.le_of_ble_eq_true rfl, Nat.le_of_ble_eq_true rfl⟩, Nat.le_of_ble_eq_true rfl, Nat.le_refl _, Nat.le_refl _⟩ rfl dX3_turnsLeft_25 (fun z_25 h_25 => ?_)
  have h_25 : z_25 = rx u 8 (((u.1.2.2.1 8) - 1) - 1) ∧ ∀ K : Int, 0 ≤ K → RB K u 8 → -K ≤ z_25 ∧ z_25 ≤ K := h_25
  have hb_25 := h_25.2 80 (by omega) (p0)
  refine j_isub SS (x := z_15) (y := z_25) dX3_turnsLeft_28 ?_
  refine lv_istore (lv' := [(4, .int (J (z_15 - z_25))), (3, .int (J ((u.1.2.2.1 8) - 1))), (0, .ref (q 2)), (1, .int (J a)), (2, .int (J b))]) SS.1 SS.2.1 dX3_turnsLeft_29 hl (by decide) rfl (fun ls hl => ?_)
  refine lv_aload_n SS.1 SS.2.1 dX3_turnsLeft_31 rfl (lv_at hl 2 rfl) ?_
  refine j_get SS hG hP 2 (v := .ref (q (9 + 5 * 8))) (C := RX3) (T := TX3) (N := 3) rfl rfl inX3 2 (by decide) (ref := "GridPolygons$Hull") kw_179 rfl rfl dX3_turnsLeft_32 ?_
  refine lv_iload_n SS.1 SS.2.1 dX3_turnsLeft_35 rfl (lv_at hl 1 rfl) ?_
  refine j_uRi SS (As := [.int (J ((u.1.2.2.1 8) - 1))]) (rest := []) (c_X8_y l D q u 8 (by omega) ((u.1.2.2.1 8) - 1) (show -2147483648 ≤ ((u.1.2.2.1 8) - 1) ∧ ((u.1.2.2.1 8) - 1) ≤ 2147483647 from (by omega))) mu_7_y kw_443 hG hP hP (ci := 7) (q0 := (9 + 5 * 8)) rfl (cw_ring (by omega)) rfl rfl hl.1 ⟨⟨Nat.le_of_ble_eq_true rfl, Nat.le_of_ble_eq_true rfl⟩, Nat.le_of_ble_eq_true rfl, Nat.le_refl _, Nat.le_refl _⟩ rfl dX3_turnsLeft_36 (fun z_36 h_36 => ?_)
  have h_36 : z_36 = ry9 u 8 ((u.1.2.2.1 8) - 1) ∧ ∀ K : Int, 0 ≤ K → RB K u 8 → -K ≤ z_36 ∧ z_36 ≤ K := h_36
  have hb_36 := h_36.2 80 (by omega) (p0)
  refine lv_aload_n SS.1 SS.2.1 dX3_turnsLeft_39 rfl (lv_at hl 2 rfl) ?_
  refine j_get SS hG hP 2 (v := .ref (q (9 + 5 * 8))) (C := RX3) (T := TX3) (N := 3) rfl rfl inX3 2 (by decide) (ref := "GridPolygons$Hull") kw_179 rfl rfl dX3_turnsLeft_40 ?_
  refine lv_iload_n SS.1 SS.2.1 dX3_turnsLeft_43 rfl (lv_at hl 1 rfl) ?_
  refine j_iconst SS dX3_turnsLeft_44 ?_
  refine j_isub SS (x := ((u.1.2.2.1 8) - 1)) (y := 1) dX3_turnsLeft_45 ?_
  refine j_uRi SS (As := [.int (J (((u.1.2.2.1 8) - 1) - 1))]) (rest := [.int (J z_36)]) (c_X8_y l D q u 8 (by omega) (((u.1.2.2.1 8) - 1) - 1) (show -2147483648 ≤ (((u.1.2.2.1 8) - 1) - 1) ∧ (((u.1.2.2.1 8) - 1) - 1) ≤ 2147483647 from (by omega))) mu_7_y kw_443 hG hP hP (ci := 7) (q0 := (9 + 5 * 8)) rfl (cw_ring (by omega)) rfl rfl hl.1 ⟨⟨Nat.le_of_ble_eq_true rfl, Nat.le_of_ble_eq_true rfl⟩, Nat.le_of_ble_eq_true rfl, Nat.le_refl _, Nat.le_refl _⟩ rfl dX3_turnsLeft_46 (fun z_46 h_46 => ?_)
  have h_46 : z_46 = ry9 u 8 (((u.1.2.2.1 8) - 1) - 1) ∧ ∀ K : Int, 0 ≤ K → RB K u 8 → -K ≤ z_46 ∧ z_46 ≤ K := h_46
  have hb_46 := h_46.2 80 (by omega) (p0)
  refine j_isub SS (x := z_36) (y := z_46) dX3_turnsLeft_49 ?_
  refine lv_istore (lv' := [(5, .int (J (z_36 - z_46))), (4, .int (J (z_15 - z_25))), (3, .int (J ((u.1.2.2.1 8) - 1))), (0, .ref (q 2)), (1, .int (J a)), (2, .int (J b))]) SS.1 SS.2.1 dX3_turnsLeft_50 hl (by decide) rfl (fun ls hl => ?_)
  refine lv_iload SS.1 SS.2.1 dX3_turnsLeft_52 (lv_at hl 1 rfl) ?_
  refine lv_iload_n SS.1 SS.2.1 dX3_turnsLeft_54 rfl (lv_at hl 5 rfl) ?_
  refine lv_aload_n SS.1 SS.2.1 dX3_turnsLeft_55 rfl (lv_at hl 3 rfl) ?_
  refine j_get SS hG hP 2 (v := .ref (q (9 + 5 * 8))) (C := RX3) (T := TX3) (N := 3) rfl rfl inX3 2 (by decide) (ref := "GridPolygons$Hull") kw_179 rfl rfl dX3_turnsLeft_56 ?_
  refine lv_iload_n SS.1 SS.2.1 dX3_turnsLeft_59 rfl (lv_at hl 2 rfl) ?_
  refine j_uRi SS (As := [.int (J ((u.1.2.2.1 8) - 1))]) (rest := [.int (J b), .int (J (z_15 - z_25))]) (c_X8_y l D q u 8 (by omega) ((u.1.2.2.1 8) - 1) (show -2147483648 ≤ ((u.1.2.2.1 8) - 1) ∧ ((u.1.2.2.1 8) - 1) ≤ 2147483647 from (by omega))) mu_7_y kw_443 hG hP hP (ci := 7) (q0 := (9 + 5 * 8)) rfl (cw_ring (by omega)) rfl rfl hl.1 ⟨⟨Nat.le_of_ble_eq_true rfl, Nat.le_of_ble_eq_true rfl⟩, Nat.le_of_ble_eq_true rfl, Nat.le_refl _, Nat.le_refl _⟩ rfl dX3_turnsLeft_60 (fun z_60 h_60 => ?_)
  have h_60 : z_60 = ry9 u 8 ((u.1.2.2.1 8) - 1) ∧ ∀ K : Int, 0 ≤ K → RB K u 8 → -K ≤ z_60 ∧ z_60 ≤ K := h_60
  have hb_60 := h_60.2 80 (by omega) (p0)
  refine j_isub SS (x := b) (y := z_60) dX3_turnsLeft_63 ?_
  refine j_imul SS (x := (z_15 - z_25)) (y := (b - z_60)) dX3_turnsLeft_64 ?_
  refine lv_iload SS.1 SS.2.1 dX3_turnsLeft_65 (lv_at hl 0 rfl) ?_
  refine lv_iload_n SS.1 SS.2.1 dX3_turnsLeft_67 rfl (lv_at hl 4 rfl) ?_
  refine lv_aload_n SS.1 SS.2.1 dX3_turnsLeft_68 rfl (lv_at hl 3 rfl) ?_
  refine j_get SS hG hP 2 (v := .ref (q (9 + 5 * 8))) (C := RX3) (T := TX3) (N := 3) rfl rfl inX3 2 (by decide) (ref := "GridPolygons$Hull") kw_179 rfl rfl dX3_turnsLeft_69 ?_
  refine lv_iload_n SS.1 SS.2.1 dX3_turnsLeft_72 rfl (lv_at hl 2 rfl) ?_
  refine j_uRi SS (As := [.int (J ((u.1.2.2.1 8) - 1))]) (rest := [.int (J a), .int (J (z_36 - z_46)), .int (J ((z_15 - z_25) * (b - z_60)))]) (c_X8_x l D q u 8 (by omega) ((u.1.2.2.1 8) - 1) (show -2147483648 ≤ ((u.1.2.2.1 8) - 1) ∧ ((u.1.2.2.1 8) - 1) ≤ 2147483647 from (by omega))) mu_7_x kw_437 hG hP hP (ci := 7) (q0 := (9 + 5 * 8)) rfl (cw_ring (by omega)) rfl rfl hl.1 ⟨⟨Nat.le_of_ble_eq_true rfl, Nat.le_of_ble_eq_true rfl⟩, Nat.le_of_ble_eq_true rfl, Nat.le_refl _, Nat.le_refl _⟩ rfl dX3_turnsLeft_73 (fun z_73 h_73 => ?_)
  have h_73 : z_73 = rx u 8 ((u.1.2.2.1 8) - 1) ∧ ∀ K : Int, 0 ≤ K → RB K u 8 → -K ≤ z_73 ∧ z_73 ≤ K := h_73
  have hb_73 := h_73.2 80 (by omega) (p0)
  refine j_isub SS (x := a) (y := z_73) dX3_turnsLeft_76 ?_
  refine j_imul SS (x := (z_36 - z_46)) (y := (a - z_73)) dX3_turnsLeft_77 ?_
  refine j_isub SS (x := ((z_15 - z_25) * (b - z_60))) (y := ((z_36 - z_46) * (a - z_73))) dX3_turnsLeft_78 ?_
  have m1 := mulb (A := 160) (B := 160) (a := z_15 - z_25) (b := b - z_60) (by omega) (by omega)
  have m2 := mulb (A := 160) (B := 160) (a := z_36 - z_46) (b := a - z_73) (by omega) (by omega)
  have et : (rx u 8 (u.1.2.2.1 8 - 1) - rx u 8 (u.1.2.2.1 8 - 1 - 1)) * (b - ry9 u 8 (u.1.2.2.1 8 - 1)) - (ry9 u 8 (u.1.2.2.1 8 - 1) - ry9 u 8 (u.1.2.2.1 8 - 1 - 1)) * (a - rx u 8 (u.1.2.2.1 8 - 1)) = (z_15 - z_25) * (b - z_60) - (z_36 - z_46) * (a - z_73) := by rw [h_15.1, h_25.1, h_60.1, h_36.1, h_46.1, h_73.1]
  refine j_if_le SS (tgt := 86) (x := (((z_15 - z_25) * (b - z_60)) - ((z_36 - z_46) * (a - z_73)))) dX3_turnsLeft_79 (by decide) (by omega) (fun c_79 => ?_) (fun c_79 => ?_)
  · skip
    refine j_iconst SS dX3_turnsLeft_86 ?_
    exact W.zret SS.1 SS.2.1 hr (j_nz (by decide)) (fun t0 ht hW => ⟨_, rfl, ⟨0, rfl, (by rw [et]; omega)⟩, ht⟩) (fun _ h => nomatch h) dX3_turnsLeft_87 hlk
  · skip
    refine j_iconst SS dX3_turnsLeft_82 ?_
    refine lv_goto (tgt := 87) SS.1 SS.2.1 dX3_turnsLeft_83 (by decide) ?_
    exact W.zret SS.1 SS.2.1 hr (j_nz (by decide)) (fun t0 ht hW => ⟨_, rfl, ⟨1, rfl, (by rw [et]; omega)⟩, ht⟩) (fun _ h => nomatch h) dX3_turnsLeft_87 hlk


/-- what holds of the class between calls -/
def CS1 (u : CS) : Prop := ∀ i : Nat, i < 8 → RB 40 u i ∧ HB (u.1.2.2.2.1 i) ∧ -2147483648 ≤ u.1.2.2.2.2 i ∧ u.1.2.2.2.2 i ≤ 2147483647
def CCh (u : MS) : Prop := (∀ k : Nat, 0 ≤ u.1 5 k ∧ u.1 5 k ≤ 1000000) ∧ (∀ k : Nat, 0 ≤ u.1 6 k ∧ u.1 6 k ≤ 80) ∧ -2147483648 ≤ u.2.2 12 ∧ u.2.2 12 ≤ 2147483647
def CMe (u : MS) : Prop := (0 ≤ u.2.2 20 ∧ u.2.2 20 ≤ 63) ∧ (0 ≤ u.2.2 21 ∧ u.2.2 21 ≤ 756) ∧ (∀ k : Nat, (0 ≤ u.1 2 k ∧ u.1 2 k ≤ 12) ∧ 0 ≤ u.1 3 k ∧ u.1 3 k ≤ 12) ∧ ∀ k : Nat, -1 ≤ u.1 4 k ∧ u.1 4 k ≤ 63
def CCu (u : MS) : Prop := (0 ≤ u.2.2 22 ∧ u.2.2 22 ≤ 1500) ∧ (u.2.2 23 = 0 ∨ u.2.2 23 = 1) ∧ (-2147483648 ≤ u.2.2 24 ∧ u.2.2 24 ≤ 2147483647) ∧ ∀ k : Nat, 0 ≤ u.1 8 k ∧ u.1 8 k ≤ 1500
def CCo (u : MS) : Prop := (0 ≤ u.2.2 25 ∧ u.2.2 25 ≤ 80) ∧ -2147483648 ≤ u.2.2 26 ∧ u.2.2 26 ≤ 2147483647
def CI (u : CS) : Prop := CS1 u ∧ (RB 80 u 8 ∧ RB 40 u 9 ∧ RB 40 u 10) ∧ HU_ (u.2.1 0) (u.2.1 1) ∧ (-2147483648 ≤ u.2.2.2 0 ∧ u.2.2.2 0 ≤ 2147483647) ∧ CCh u.2 ∧ CMe u.2 ∧ CCu u.2 ∧ CCo u.2
theorem RB_K {K L : Int} {u : CS} {r : Nat} (h : RB K u r) (hl : K ≤ L) : RB L u r := ⟨h.1, fun i => by have := h.2 i; omega⟩
theorem CI_s {u : CS} {i : Nat} (h : CI u) (hi : i < 8) : RB 80 u i := RB_K (h.1 i hi).1 (by decide)
theorem CI_40 {u : CS} {i : Nat} (h : CI u) (hi : i < 8) : RB 40 u i := (h.1 i hi).1
/-- the hull is closed anew -/
theorem CI_8 {u : CS} {n : Int} {f g : Nat → Int} (h : CI u) (hn : 0 ≤ n ∧ n ≤ 323) (hv : RV 80 f g) : CI (sY (sX (sC u 8 n) 8 f) 8 g) := by
  obtain ⟨h1, h2, h3⟩ := h
  refine ⟨fun i hi => ?_, ⟨⟨hn, hv⟩, h2.2⟩, h3⟩
  have q := h1 i hi
  have e1 : (sY (sX (sC u 8 n) 8 f) 8 g).1.2.2.1 i = u.1.2.2.1 i := if_neg (by omega)
  have e2 : (sY (sX (sC u 8 n) 8 f) 8 g).1.1 i = u.1.1 i := if_neg (by omega)
  have e3 : (sY (sX (sC u 8 n) 8 f) 8 g).1.2.1 i = u.1.2.1 i := if_neg (by omega)
  exact ⟨by unfold RB; rw [e1, e2, e3]; exact q.1, q.2⟩
theorem CI_h {u : CS} {f g : Nat → Int} (h : CI u) (hv : HU_ f g) : CI (sI (sI u 0 f) 1 g) := ⟨h.1, h.2.1, hv, h.2.2.2⟩
/-- a shape is made anew -/
theorem CI_sh {u : CS} {i : Nat} {n t s : Int} {f g k : Nat → Int} (h : CI u) (hi : i < 8) (hn : 0 ≤ n ∧ n ≤ 24) (hv : RV 40 f g) (hk : HB k) (ht : -2147483648 ≤ t ∧ t ≤ 2147483647) (hs : -2147483648 ≤ s ∧ s ≤ 2147483647) : CI (sV (sT (sH (sY (sX (sC u i n) i f) i g) i k) i t) 0 s) := by
  obtain ⟨h1, h2, h3, h4, h5⟩ := h
  have w : ∀ r : Nat, 8 ≤ r → ∀ K, RB K u r → RB K (sV (sT (sH (sY (sX (sC u i n) i f) i g) i k) i t) 0 s) r := by
    intro r hr K q
    have e1 : (sV (sT (sH (sY (sX (sC u i n) i f) i g) i k) i t) 0 s).1.2.2.1 r = u.1.2.2.1 r := if_neg (by omega)
    have e2 : (sV (sT (sH (sY (sX (sC u i n) i f) i g) i k) i t) 0 s).1.1 r = u.1.1 r := if_neg (by omega)
    have e3 : (sV (sT (sH (sY (sX (sC u i n) i f) i g) i k) i t) 0 s).1.2.1 r = u.1.2.1 r := if_neg (by omega)
    unfold RB; rw [e1, e2, e3]; exact q
  refine ⟨fun j hj => ?_, ⟨w 8 (by omega) 80 h2.1, w 9 (by omega) 40 h2.2.1, w 10 (by omega) 40 h2.2.2⟩, h3, hs, h5⟩
  have q := h1 j hj
  by_cases e : j = i
  · subst e
    have e1 : (sV (sT (sH (sY (sX (sC u j n) j f) j g) j k) j t) 0 s).1.2.2.1 j = n := if_pos rfl
    have e2 : (sV (sT (sH (sY (sX (sC u j n) j f) j g) j k) j t) 0 s).1.1 j = f := if_pos rfl
    have e3 : (sV (sT (sH (sY (sX (sC u j n) j f) j g) j k) j t) 0 s).1.2.1 j = g := if_pos rfl
    have e4 : (sV (sT (sH (sY (sX (sC u j n) j f) j g) j k) j t) 0 s).1.2.2.2.1 j = k := if_pos rfl
    have e5 : (sV (sT (sH (sY (sX (sC u j n) j f) j g) j k) j t) 0 s).1.2.2.2.2 j = t := if_pos rfl
    refine ⟨?_, by rw [e4]; exact hk, by rw [e5]; exact ht⟩
    unfold RB; rw [e1, e2, e3, rl_s hj]
    exact ⟨hn, hv⟩
  · have e1 : (sV (sT (sH (sY (sX (sC u i n) i f) i g) i k) i t) 0 s).1.2.2.1 j = u.1.2.2.1 j := if_neg e
    have e2 : (sV (sT (sH (sY (sX (sC u i n) i f) i g) i k) i t) 0 s).1.1 j = u.1.1 j := if_neg e
    have e3 : (sV (sT (sH (sY (sX (sC u i n) i f) i g) i k) i t) 0 s).1.2.1 j = u.1.2.1 j := if_neg e
    have e4 : (sV (sT (sH (sY (sX (sC u i n) i f) i g) i k) i t) 0 s).1.2.2.2.1 j = u.1.2.2.2.1 j := if_neg e
    have e5 : (sV (sT (sH (sY (sX (sC u i n) i f) i g) i k) i t) 0 s).1.2.2.2.2 j = u.1.2.2.2.2 j := if_neg e
    refine ⟨by unfold RB; rw [e1, e2, e3]; exact q.1, by rw [e4]; exact q.2.1, by rw [e5]; exact q.2.2⟩
theorem CI_id {u : CS} {i : Nat} (h : CI u) (hi : i < 8) : CI (sV (sT (sH (sY (sX (sC u i (u.1.2.2.1 i)) i (u.1.1 i)) i (u.1.2.1 i)) i (u.1.2.2.2.1 i)) i (u.1.2.2.2.2 i)) 0 (u.2.2.2 0)) := by
  simp only [sC_id, sX_id, sY_id, sH_id, sT_id, sV_id]; exact h
theorem HB_f {f : Nat → Int} (h : HB f) : HB (jf f 0 40) := fun k => by unfold jf; have := h k; split <;> omega

set_option maxHeartbeats 4000000 in
set_option maxRecDepth 100000 in
theorem c_X11_shapeAt (l : Launch) (D : JD) (q : Nat → Nat) (u : CS) (s : Int) (p0 : -2147483648 ≤ s ∧ s ≤ 2147483647) : Met l yX11_shapeAt (jw yX11_shapeAt cX11_shapeAt 2 (some (.object "GridPolygons$Shape"))) (jr 0 0) (jP [.ref (q 0), .int (J s)] D (fun H => va_P D.1 j_cl (cW D q u) H)) (va_Se (fun i => q (8 + 5 * i)) (fun r => (0 ≤ s ∧ s ≤ 7 ∧ r = some s.toNat) ∨ (¬ (0 ≤ s ∧ s ≤ 7) ∧ r = none))) 0 0 (fun _ => False) := by
  refine Met.ofW (cc := cX11_shapeAt) (maxL := 2) (ret := (some (.object "GridPolygons$Shape"))) (by decide) rfl ?_
  intro pr en st mi args below meth co s₁ B hml hv
  obtain ⟨rfl, hG, hP⟩ := hv
  have hr := B.returns
  have hlk := B.notSynchronized
  have SS : jS pr mi co cX11_shapeAt 2 st _ RX11 := ⟨B.exec, B.bytes, hml, findClass_of_methodNamed B.named, fun w hw => atoms_spec (ws := (jw yX11_shapeAt cX11_shapeAt 2 (some (.object "GridPolygons$Shape")))) B.pre w (List.mem_cons_of_mem _ hw)⟩
  have hl := lv_entry ([.ref (q 0), .int (J s)]) (n := 2) (Nat.le_of_ble_eq_true rfl)
  rw [lg_entry_eq]
  generalize (lg_sl ([.ref (q 0), .int (J s)]) ++ List.replicate (2 - (lg_sl ([.ref (q 0), .int (J s)])).length) Slot.unset).toArray = ls at hl ⊢
  have hl : lv_has ls 2 [(0, .ref (q 0)), (1, .int (J s))] := hl
  refine lv_iload_n SS.1 SS.2.1 dX11_shapeAt_0 rfl (lv_at hl 1 rfl) ?_
  refine j_if_lt SS (tgt := 13) (x := s) dX11_shapeAt_1 (by decide) (by omega) (fun c_1 => ?_) (fun c_1 => ?_)
  · skip
    refine lv_null SS.1 SS.2.1 dX11_shapeAt_13 ?_
    refine lv_goto (tgt := 23) SS.1 SS.2.1 dX11_shapeAt_14 (by decide) ?_
    exact W.aret SS.1 SS.2.1 hr (Or.inl ⟨_, rfl⟩) (Or.inl rfl) (fun t0 ht hW => ⟨none, rfl, (Or.inr ⟨by omega, rfl⟩), ht⟩) (fun _ h => nomatch h) dX11_shapeAt_23 hlk
  · skip
    refine lv_iload_n SS.1 SS.2.1 dX11_shapeAt_4 rfl (lv_at hl 1 rfl) ?_
    refine lv_aload_n SS.1 SS.2.1 dX11_shapeAt_5 rfl (lv_at hl 0 rfl) ?_
    refine j_get SS hG hP 0 (v := .ref (q 1)) (C := RX11) (T := TX11) (N := 8) rfl rfl inX11 0 (by decide) (ref := "GridPolygons") kw_385 rfl rfl dX11_shapeAt_6 ?_
    refine va_alen SS.1 SS.2.1 hG.1 hP 1 2 rfl rfl (v := J (8 : Int)) (by first | rfl | exact J_nat _) dX11_shapeAt_9 ?_
    refine j_icmp_lt SS (tgt := 17) (x := s) (y := 8) dX11_shapeAt_10 (by decide) (by omega) (by decide) (fun c_10 => ?_) (fun c_10 => ?_)
    · skip
      refine lv_aload_n SS.1 SS.2.1 dX11_shapeAt_17 rfl (lv_at hl 0 rfl) ?_
      refine j_get SS hG hP 0 (v := .ref (q 1)) (C := RX11) (T := TX11) (N := 8) rfl rfl inX11 0 (by decide) (ref := "GridPolygons") kw_385 rfl rfl dX11_shapeAt_18 ?_
      refine lv_iload_n SS.1 SS.2.1 dX11_shapeAt_21 rfl (lv_at hl 1 rfl) ?_
      refine va_aldq SS.1 SS.2.1 hG.1 hP 1 2 (f := fun i => some (q (8 + 5 * i))) rfl rfl (J_in (n := 8) (by omega) (by omega)) dX11_shapeAt_22 ?_
      rw [J_clamp (by omega)]
      show W pr l en (headSpec (jw yX11_shapeAt cX11_shapeAt 2 (some (.object "GridPolygons$Shape"))) (jr 0 0)).room st mi (([.ref (q 0), .int (J s)] : List Value).toArray) below meth co st.heap [] 0 0 (MQ below (va_Se (fun i => q (8 + 5 * i)) (fun r => (0 ≤ s ∧ s ≤ 7 ∧ r = some s.toNat) ∨ (¬ (0 ≤ s ∧ s ≤ 7) ∧ r = none))) (([.ref (q 0), .int (J s)] : List Value).toArray) st 0 0 (fun _ => False)) (F0 mi 23 ls (.ref (q (8 + 5 * (s).toNat)) :: []))
      exact W.aret SS.1 SS.2.1 hr (Or.inl ⟨_, rfl⟩) (Or.inr ⟨_, rfl⟩) (fun t0 ht hW => ⟨some (s).toNat, rfl, (Or.inl ⟨by omega, by omega, rfl⟩), ht⟩) (fun _ h => nomatch h) dX11_shapeAt_23 hlk
    · skip
      refine lv_null SS.1 SS.2.1 dX11_shapeAt_13 ?_
      refine lv_goto (tgt := 23) SS.1 SS.2.1 dX11_shapeAt_14 (by decide) ?_
      exact W.aret SS.1 SS.2.1 hr (Or.inl ⟨_, rfl⟩) (Or.inl rfl) (fun t0 ht hW => ⟨none, rfl, (Or.inr ⟨by omega, rfl⟩), ht⟩) (fun _ h => nomatch h) dX11_shapeAt_23 hlk

set_option maxHeartbeats 4000000 in
set_option maxRecDepth 100000 in
theorem c_X11_newStamp (l : Launch) (D : JD) (q : Nat → Nat) (u : CS) (A : Nat → Prop) (hD : va_D A (cW D q u)) : Met l yX11_newStamp (jw yX11_newStamp cX11_newStamp 1 (some .int)) (jr 0 0) (jP [.ref (q 0)] D (fun H => va_P D.1 j_cl (cW D q u) H)) (jWi (fun z u' => ∃ t : Int, u' = (sV u 0 t) ∧ (z = t ∧ -2147483648 ≤ t ∧ t ≤ 2147483647)) (fun u' H => va_P D.1 j_cl (cW D q u') H) A) 0 0 A := by
  refine Met.ofW (cc := cX11_newStamp) (maxL := 1) (ret := (some .int)) (by decide) rfl ?_
  intro pr en st mi args below meth co s₁ B hml hv
  obtain ⟨rfl, hG, hP⟩ := hv
  have hr := B.returns
  have hlk := B.notSynchronized
  have SS : jS pr mi co cX11_newStamp 1 st _ RX11 := ⟨B.exec, B.bytes, hml, findClass_of_methodNamed B.named, fun w hw => atoms_spec (ws := (jw yX11_newStamp cX11_newStamp 1 (some .int))) B.pre w (List.mem_cons_of_mem _ hw)⟩
  have hl := lv_entry ([.ref (q 0)]) (n := 1) (Nat.le_of_ble_eq_true rfl)
  rw [lg_entry_eq]
  generalize (lg_sl ([.ref (q 0)]) ++ List.replicate (1 - (lg_sl ([.ref (q 0)])).length) Slot.unset).toArray = ls at hl ⊢
  have hl : lv_has ls 1 [(0, .ref (q 0))] := hl
  have hS : va_S A st.heap st.heap [] := va_S.rf
  refine lv_aload_n SS.1 SS.2.1 dX11_newStamp_0 rfl (lv_at hl 0 rfl) ?_
  refine lv_dup SS.1 SS.2.1 dX11_newStamp_1 rfl ?_
  refine j_get SS hG hP 0 (v := .int (J (u.2.2.2 0))) (C := RX11) (T := TX11) (N := 8) rfl rfl inX11 7 (by decide) (ref := "GridPolygons") kw_392 rfl rfl dX11_newStamp_2 ?_
  refine j_iconst SS dX11_newStamp_5 ?_
  refine j_iadd SS (x := (u.2.2.2 0)) (y := 1) dX11_newStamp_6 ?_
  obtain ⟨nst, ew_6, rw_6⟩ := J_wr ((u.2.2.2 0) + 1)
  rw [ew_6]
  refine j_put SS hG hP (cW_D hD) hS 0 (v := .int (J nst)) (ty := .int) (C := RX11) (T := TX11) (N := 8) rfl rfl inX11 tyX11 tyX11_ok nmX11 7 (by decide) (ref := "GridPolygons") kw_392 rfl rfl (by decide +kernel) rfl rfl (Nat.le_of_ble_eq_true rfl) dX11_newStamp_7 (ws' := (cW D q (sV u 0 nst))) rfl (fun H locs hP hS => ?_)
  refine lv_aload_n SS.1 SS.2.1 dX11_newStamp_10 rfl (lv_at hl 0 rfl) ?_
  refine j_get SS hG hP 0 (v := .int (J nst)) (C := RX11) (T := TX11) (N := 8) rfl rfl inX11 7 (by decide) (ref := "GridPolygons") kw_392 rfl rfl dX11_newStamp_11 ?_
  exact W.iret SS.1 SS.2.1 hr (fun t0 ht hW => ⟨⟨_, (sV u 0 nst), rfl, ⟨nst, rfl, (⟨nst, rfl, ⟨rfl, rw_6.1, rw_6.2⟩⟩)⟩, by show va_P D.1 j_cl (cW D q (sV u 0 nst)) t0.heap; rw [ht]; first | exact hP | (simp only [sC_id, sX_id, sY_id, sH_id, sT_id, sV_id]; exact hP)⟩, hS.F ht⟩) hS.2.2 dX11_newStamp_14 hlk

set_option maxHeartbeats 4000000 in
set_option maxRecDepth 100000 in
theorem c_X11_remake_0 (l : Launch) (D : JD) (q : Nat → Nat) (u : CS) (A : Nat → Prop) (hD : va_D A (cW D q u)) (p0 : CI u) (p1 : u.1.2.2.1 8 ≤ 24) (p2 : bd 40 (u.1.1 8) (u.1.2.1 8) (u.1.2.2.1 8)) : Met l yX11_remake (jw yX11_remake cX11_remake 3 none) (jr 1 23) (jP [.ref (q 0), .ref (q (8 + 5 * 0))] D (fun H => va_P D.1 j_cl (cW D q u) H)) (jWv (fun u' => ∃ n : Int, ∃ f : Nat → Int, ∃ g : Nat → Int, ∃ hh : Nat → Int, ∃ tt : Int, ∃ st0 : Int, u' = (sY (sX (sV (sT (sH (sC u 0 n) 0 hh) 0 tt) 0 st0) 0 f) 0 g) ∧ (CI u' ∧ n = u.1.2.2.1 8 ∧ ∀ j : Nat, (j : Int) < n → f j = u.1.1 8 j ∧ g j = u.1.2.1 8 j)) (fun u' H => va_P D.1 j_cl (cW D q u') H) A) 0 0 A := by
  refine Met.ofW (cc := cX11_remake) (maxL := 3) (ret := none) (by decide) rfl ?_
  intro pr en st mi args below meth co s₁ B hml hv
  obtain ⟨rfl, hG, hP⟩ := hv
  have hr := B.returns
  have hlk := B.notSynchronized
  have SS : jS pr mi co cX11_remake 3 st _ RX11 := ⟨B.exec, B.bytes, hml, findClass_of_methodNamed B.named, fun w hw => atoms_spec (ws := (jw yX11_remake cX11_remake 3 none)) B.pre w (List.mem_cons_of_mem _ hw)⟩
  have hl := lv_entry ([.ref (q 0), .ref (q (8 + 5 * 0))]) (n := 3) (Nat.le_of_ble_eq_true rfl)
  rw [lg_entry_eq]
  generalize (lg_sl ([.ref (q 0), .ref (q (8 + 5 * 0))]) ++ List.replicate (3 - (lg_sl ([.ref (q 0), .ref (q (8 + 5 * 0))])).length) Slot.unset).toArray = ls at hl ⊢
  have hl : lv_has ls 3 [(0, .ref (q 0)), (1, .ref (q (8 + 5 * 0)))] := hl
  have hS : va_S A st.heap st.heap [] := va_S.rf
  have hR8 : RB 80 u 8 := p0.2.1.1
  have hRk := CI_40 p0 (show 0 < 8 by omega)
  have hc8 := hR8.1
  have hr8 := rl8
  rw [rl8] at hc8
  have hrk : (rl 0 : Int) = 24 := rfl
  have hHk := (p0.1 0 (by omega)).2.1
  refine lv_aload_n SS.1 SS.2.1 dX11_remake_0 rfl (lv_at hl 1 rfl) ?_
  refine j_get SS hG hP (8 + 5 * 0) (v := .ref (q (9 + 5 * 0))) (C := RX10) (T := TX10) (N := 3) (cw_shape (by omega)) rfl inX10 0 (by decide) (ref := "GridPolygons$Shape") kw_151 rfl rfl dX11_remake_1 ?_
  refine j_iconst SS dX11_remake_4 ?_
  refine j_putS SS hG hP (cW_D hD) hS (9 + 5 * 0) (v := .int (J 0)) (ty := .int) (C := RX7) (T := TX7) (N := 3) (cw_ring (by omega)) rfl inX7 tyX7 tyX7_ok nmX7 2 (by decide) (ref := "GridPolygons$Ring") kw_135 kw_132 rfl (by decide +kernel) rfl rfl (Nat.le_of_ble_eq_true rfl) dX11_remake_5 (ws' := (cW D q (sC u 0 0))) (cs_ring (by omega)) (fun H locs hP hS => ?_)
  refine j_iconst SS dX11_remake_8 ?_
  refine lv_istore_n (lv' := [(2, .int (J 0)), (0, .ref (q 0)), (1, .ref (q (8 + 5 * 0)))]) SS.1 SS.2.1 dX11_remake_9 rfl hl (by decide) rfl (fun ls hl => ?_)
  have L_10 : ∀ (nn : Nat) (i : Int) (n1 : Int) (f1 : Nat → Int) (g1 : Nat → Int) (H : Heap) (locs : List Loc) (hP : va_P D.1 j_cl (cW D q (sY (sX (sC u 0 n1) 0 f1) 0 g1)) H) (hS : va_S A st.heap H locs) (ls : Array Slot) (hl : lv_has ls 3 [(0, .ref (q 0)), (1, .ref (q (8 + 5 * 0))), (2, .int (J i))]) (i10_0 : (0 ≤ i ∧ i ≤ u.1.2.2.1 8) ∧ n1 = i) (i10_1 : RV 40 f1 g1) (i10_2 : ∀ j : Nat, (j : Int) < i → f1 j = u.1.1 8 j ∧ g1 j = u.1.2.1 8 j), (u.1.2.2.1 8 - i).toNat < nn → W pr l en (headSpec (jw yX11_remake cX11_remake 3 none) (jr 1 23)).room st mi (([.ref (q 0), .ref (q (8 + 5 * 0))] : List Value).toArray) below meth co H locs 0 0 (MQ below (jWv (fun u' => ∃ n : Int, ∃ f : Nat → Int, ∃ g : Nat → Int, ∃ hh : Nat → Int, ∃ tt : Int, ∃ st0 : Int, u' = (sY (sX (sV (sT (sH (sC u 0 n) 0 hh) 0 tt) 0 st0) 0 f) 0 g) ∧ (CI u' ∧ n = u.1.2.2.1 8 ∧ ∀ j : Nat, (j : Int) < n → f j = u.1.1 8 j ∧ g j = u.1.2.1 8 j)) (fun u' H => va_P D.1 j_cl (cW D q u') H) A) (([.ref (q 0), .ref (q (8 + 5 * 0))] : List Value).toArray) st 0 0 A) (F0 mi 10 ls []) := by
    intro nn
    induction nn with
    | zero => intros; omega
    | succ nn ih_10 =>
      intro i n1 f1 g1 H locs hP hS ls hl i10_0 i10_1 i10_2 hm
      refine lv_iload_n SS.1 SS.2.1 dX11_remake_10 rfl (lv_at hl 2 rfl) ?_
      refine lv_aload_n SS.1 SS.2.1 dX11_remake_11 rfl (lv_at hl 0 rfl) ?_
      refine j_get SS hG hP 0 (v := .ref (q 2)) (C := RX11) (T := TX11) (N := 8) rfl rfl inX11 1 (by decide) (ref := "GridPolygons") kw_386 rfl rfl dX11_remake_12 ?_
      refine j_get SS hG hP 2 (v := .ref (q (9 + 5 * 8))) (C := RX3) (T := TX3) (N := 3) rfl rfl inX3 2 (by decide) (ref := "GridPolygons$Hull") kw_180 rfl rfl dX11_remake_15 ?_
      refine j_getS SS hG hP (9 + 5 * 8) (v := .int (J (u.1.2.2.1 8))) (C := RX7) (T := TX7) (N := 3) (cw_ring (by omega)) rfl inX7 2 (by decide) (ref := "GridPolygons$Ring") kw_135 kw_132 rfl dX11_remake_18 ?_
      refine j_icmp_ge SS (tgt := 59) (x := i) (y := (u.1.2.2.1 8)) dX11_remake_21 (by decide) (by omega) (by omega) (fun c_21 => ?_) (fun c_21 => ?_)
      · skip
        refine lv_aload_n SS.1 SS.2.1 dX11_remake_59 rfl (lv_at hl 1 rfl) ?_
        refine j_get SS hG hP (8 + 5 * 0) (v := .ref (q (12 + 5 * 0))) (C := RX10) (T := TX10) (N := 3) (cw_shape (by omega)) rfl inX10 1 (by decide) (ref := "GridPolygons$Shape") kw_157 rfl rfl dX11_remake_60 ?_
        refine j_iconst SS dX11_remake_63 ?_
        refine j_sWv SS (As := [.ref (q (12 + 5 * 0)), .int (J 0)]) (rest := []) (c_J7_fill_53178 l D (ws := (cW D q (sY (sX (sC u 0 n1) 0 f1) 0 g1))) (A := A) (cW_D hD) (12 + 5 * 0) (0 : Int) (cw_hts (by omega)) (by first | decide | omega)) mf_J7_fill_53178 kw_466 hG hP hS (fun _ h => h) rfl hl.1 ⟨⟨Nat.le_of_ble_eq_true rfl, Nat.le_of_ble_eq_true rfl⟩, Nat.le_of_ble_eq_true rfl, Nat.le_refl _, Nat.le_refl _⟩ rfl dX11_remake_64 (fun _ H locs _ hP _ hS => ?_)
        have hP : va_P D.1 j_cl (cW D q (sY (sX (sH (sC u 0 n1) 0 (jf (u.1.2.2.2.1 0) (0 : Int) 40)) 0 f1) 0 g1)) H := Eq.mp (congrArg (fun w => va_P D.1 j_cl w H) (cs_hts (by omega))) hP
        refine lv_aload_n SS.1 SS.2.1 dX11_remake_67 rfl (lv_at hl 1 rfl) ?_
        refine lv_aload_n SS.1 SS.2.1 dX11_remake_68 rfl (lv_at hl 0 rfl) ?_
        refine j_vWi SS (As := []) (rest := [.ref (q (8 + 5 * 0))]) (c_X11_newStamp l D q (sY (sX (sH (sC u 0 n1) 0 (jf (u.1.2.2.2.1 0) (0 : Int) 40)) 0 f1) 0 g1) A (cW_D hD)   ) mf_X11_newStamp kw_467 hG hP hP (ci := 11) (q0 := 0) rfl rfl rfl hS (fun _ h => h) rfl hl.1 ⟨⟨Nat.le_of_ble_eq_true rfl, Nat.le_of_ble_eq_true rfl⟩, Nat.le_of_ble_eq_true rfl, Nat.le_refl _, Nat.le_refl _⟩ rfl dX11_remake_69 (fun z_69 u69 H locs h_69 hP _ hS => ?_)
        obtain ⟨t_69, rfl, h_69⟩ := h_69
        have hP : va_P D.1 j_cl (cW D q (sY (sX (sV (sH (sC u 0 n1) 0 (jf (u.1.2.2.2.1 0) (0 : Int) 40)) 0 t_69) 0 f1) 0 g1)) H := hP
        have h_69 : z_69 = t_69 ∧ -2147483648 ≤ t_69 ∧ t_69 ≤ 2147483647 := h_69
        refine j_put SS hG hP (cW_D hD) hS (8 + 5 * 0) (v := .int (J z_69)) (ty := .int) (C := RX10) (T := TX10) (N := 3) (cw_shape (by omega)) rfl inX10 tyX10 tyX10_ok nmX10 2 (by decide) (ref := "GridPolygons$Shape") kw_161 rfl rfl (by decide +kernel) rfl rfl (Nat.le_of_ble_eq_true rfl) dX11_remake_72 (ws' := (cW D q (sY (sX (sV (sT (sH (sC u 0 n1) 0 (jf (u.1.2.2.2.1 0) (0 : Int) 40)) 0 z_69) 0 t_69) 0 f1) 0 g1))) (cs_shape (by omega)) (fun H locs hP hS => ?_)
        exact W.vret SS.1 SS.2.1 hr (fun t0 ht hW => ⟨⟨(sY (sX (sV (sT (sH (sC u 0 n1) 0 (jf (u.1.2.2.2.1 0) (0 : Int) 40)) 0 z_69) 0 t_69) 0 f1) 0 g1), rfl, (⟨n1, f1, g1, (jf (u.1.2.2.2.1 0) (0 : Int) 40), z_69, t_69, rfl, ⟨CI_sh p0 (by omega) (by omega) i10_1 (HB_f hHk) (by omega) (by omega), by omega, fun j hj => i10_2 j (by omega)⟩⟩), by show va_P D.1 j_cl (cW D q (sY (sX (sV (sT (sH (sC u 0 n1) 0 (jf (u.1.2.2.2.1 0) (0 : Int) 40)) 0 z_69) 0 t_69) 0 f1) 0 g1)) t0.heap; rw [ht]; first | exact hP | (simp only [sC_id, sX_id, sY_id, sH_id, sT_id, sV_id]; exact hP)⟩, hS.F ht⟩) hS.2.2 dX11_remake_75 hlk
      · skip
        refine lv_aload_n SS.1 SS.2.1 dX11_remake_24 rfl (lv_at hl 1 rfl) ?_
        refine j_get SS hG hP (8 + 5 * 0) (v := .ref (q (9 + 5 * 0))) (C := RX10) (T := TX10) (N := 3) (cw_shape (by omega)) rfl inX10 0 (by decide) (ref := "GridPolygons$Shape") kw_151 rfl rfl dX11_remake_25 ?_
        refine lv_aload_n SS.1 SS.2.1 dX11_remake_28 rfl (lv_at hl 0 rfl) ?_
        refine j_get SS hG hP 0 (v := .ref (q 2)) (C := RX11) (T := TX11) (N := 8) rfl rfl inX11 1 (by decide) (ref := "GridPolygons") kw_386 rfl rfl dX11_remake_29 ?_
        refine j_get SS hG hP 2 (v := .ref (q (9 + 5 * 8))) (C := RX3) (T := TX3) (N := 3) rfl rfl inX3 2 (by decide) (ref := "GridPolygons$Hull") kw_180 rfl rfl dX11_remake_32 ?_
        refine lv_iload_n SS.1 SS.2.1 dX11_remake_35 rfl (lv_at hl 2 rfl) ?_
        refine j_uRi SS (As := [.int (J i)]) (rest := [.ref (q (9 + 5 * 0))]) (c_X8_x l D q (sY (sX (sC u 0 n1) 0 f1) 0 g1) 8 (by omega) i (show -2147483648 ≤ i ∧ i ≤ 2147483647 from (by omega))) mu_7_x kw_463 hG hP hP (ci := 7) (q0 := (9 + 5 * 8)) rfl (cw_ring (by omega)) rfl rfl hl.1 ⟨⟨Nat.le_of_ble_eq_true rfl, Nat.le_of_ble_eq_true rfl⟩, Nat.le_of_ble_eq_true rfl, Nat.le_refl _, Nat.le_refl _⟩ rfl dX11_remake_36 (fun z_36 h_36 => ?_)
        have h_36 : z_36 = rx (sY (sX (sC u 0 n1) 0 f1) 0 g1) 8 i ∧ ∀ K : Int, 0 ≤ K → RB K (sY (sX (sC u 0 n1) 0 f1) 0 g1) 8 → -K ≤ z_36 ∧ z_36 ≤ K := h_36
        have hb_36 := h_36.2 80 (by omega) (hR8)
        have ex36 : z_36 = u.1.1 8 i.toNat := by rw [h_36.1]; exact if_pos (by rw [rl8]; omega)
        have hq := bd_at p2 (z := i) (by omega) (by omega)
        refine lv_aload_n SS.1 SS.2.1 dX11_remake_39 rfl (lv_at hl 0 rfl) ?_
        refine j_get SS hG hP 0 (v := .ref (q 2)) (C := RX11) (T := TX11) (N := 8) rfl rfl inX11 1 (by decide) (ref := "GridPolygons") kw_386 rfl rfl dX11_remake_40 ?_
        refine j_get SS hG hP 2 (v := .ref (q (9 + 5 * 8))) (C := RX3) (T := TX3) (N := 3) rfl rfl inX3 2 (by decide) (ref := "GridPolygons$Hull") kw_180 rfl rfl dX11_remake_43 ?_
        refine lv_iload_n SS.1 SS.2.1 dX11_remake_46 rfl (lv_at hl 2 rfl) ?_
        refine j_uRi SS (As := [.int (J i)]) (rest := [.int (J z_36), .ref (q (9 + 5 * 0))]) (c_X8_y l D q (sY (sX (sC u 0 n1) 0 f1) 0 g1) 8 (by omega) i (show -2147483648 ≤ i ∧ i ≤ 2147483647 from (by omega))) mu_7_y kw_464 hG hP hP (ci := 7) (q0 := (9 + 5 * 8)) rfl (cw_ring (by omega)) rfl rfl hl.1 ⟨⟨Nat.le_of_ble_eq_true rfl, Nat.le_of_ble_eq_true rfl⟩, Nat.le_of_ble_eq_true rfl, Nat.le_refl _, Nat.le_refl _⟩ rfl dX11_remake_47 (fun z_47 h_47 => ?_)
        have h_47 : z_47 = ry9 (sY (sX (sC u 0 n1) 0 f1) 0 g1) 8 i ∧ ∀ K : Int, 0 ≤ K → RB K (sY (sX (sC u 0 n1) 0 f1) 0 g1) 8 → -K ≤ z_47 ∧ z_47 ≤ K := h_47
        have hb_47 := h_47.2 80 (by omega) (hR8)
        have ex47 : z_47 = u.1.2.1 8 i.toNat := by rw [h_47.1]; exact if_pos (by rw [rl8]; omega)
        refine j_uWv SS (As := [.int (J z_36), .int (J z_47)]) (rest := []) (c_X8_append l D q (sY (sX (sC u 0 n1) 0 f1) 0 g1) A (cW_D hD) 0 (by omega) z_36 z_47 (show 0 ≤ n1 ∧ n1 ≤ rl 0 from (by omega))) mu_7_append kw_465 hG hP hP (ci := 7) (q0 := (9 + 5 * 0)) rfl (cw_ring (by omega)) rfl hS (fun _ h => h) rfl hl.1 ⟨⟨Nat.le_of_ble_eq_true rfl, Nat.le_of_ble_eq_true rfl⟩, Nat.le_of_ble_eq_true rfl, Nat.le_refl _, Nat.le_refl _⟩ rfl dX11_remake_50 (fun u50 H locs h_50 hP _ hS => ?_)
        obtain ⟨f_50, g_50, n_50, rfl, h_50⟩ := h_50
        have hP : va_P D.1 j_cl (cW D q (sY (sX (sC u 0 n_50) 0 f_50) 0 g_50)) H := hP
        have h_50 : (n1 < rl 0 ∧ f_50 = upI (f1) (n1).toNat z_36 ∧ g_50 = upI (g1) (n1).toNat z_47 ∧ n_50 = n1 + 1) ∨ (rl 0 ≤ n1 ∧ f_50 = f1 ∧ g_50 = g1 ∧ n_50 = n1) := h_50
        refine lv_iinc (v := J (i + 1)) (lv' := [(2, .int (J (i + 1))), (0, .ref (q 0)), (1, .ref (q (8 + 5 * 0)))]) SS.1 SS.2.1 dX11_remake_53 hl (k := 2) rfl (J_add _ _) (by decide) rfl (fun ls hl => ?_)
        refine lv_goto (tgt := 10) SS.1 SS.2.1 dX11_remake_56 (by decide) ?_
        exact ih_10 (i + 1) n_50 f_50 g_50 _ _ hP hS ls (lv_sub hl [1, 2, 0] rfl) (by rcases h_50 with q | q; omega; omega) ((ap_b (m := 24) (n0 := n1) (x := z_36) (y := z_47) i10_1 (by omega) (by omega) (by omega) (by rw [hrk] at h_50; exact h_50)).2) (fun j hj => by rcases h_50 with ⟨q0, q1, q2, q3⟩ | q; (rw [q1, q2]; by_cases e : (j : Int) = i; (rw [show j = n1.toNat by omega, upI_s, upI_s, ex36, ex47]; rw [show i.toNat = n1.toNat by omega]; exact ⟨rfl, rfl⟩); (rw [upI_n (by omega), upI_n (by omega)]; exact i10_2 j (by omega))); omega) (by omega)
  exact L_10 ((u.1.2.2.1 8 - (0 : Int)).toNat + 1) 0 0 (u.1.1 0) (u.1.2.1 0) _ _ hP hS ls (lv_sub hl [1, 2, 0] rfl) (by omega) (hRk.2) (fun j hj => by omega) (Nat.lt_succ_self _)

set_option maxHeartbeats 4000000 in
set_option maxRecDepth 100000 in
theorem c_X11_remake_1 (l : Launch) (D : JD) (q : Nat → Nat) (u : CS) (A : Nat → Prop) (hD : va_D A (cW D q u)) (p0 : CI u) (p1 : u.1.2.2.1 8 ≤ 24) (p2 : bd 40 (u.1.1 8) (u.1.2.1 8) (u.1.2.2.1 8)) : Met l yX11_remake (jw yX11_remake cX11_remake 3 none) (jr 1 23) (jP [.ref (q 0), .ref (q (8 + 5 * 1))] D (fun H => va_P D.1 j_cl (cW D q u) H)) (jWv (fun u' => ∃ n : Int, ∃ f : Nat → Int, ∃ g : Nat → Int, ∃ hh : Nat → Int, ∃ tt : Int, ∃ st0 : Int, u' = (sY (sX (sV (sT (sH (sC u 1 n) 1 hh) 1 tt) 0 st0) 1 f) 1 g) ∧ (CI u' ∧ n = u.1.2.2.1 8 ∧ ∀ j : Nat, (j : Int) < n → f j = u.1.1 8 j ∧ g j = u.1.2.1 8 j)) (fun u' H => va_P D.1 j_cl (cW D q u') H) A) 0 0 A := by
  refine Met.ofW (cc := cX11_remake) (maxL := 3) (ret := none) (by decide) rfl ?_
  intro pr en st mi args below meth co s₁ B hml hv
  obtain ⟨rfl, hG, hP⟩ := hv
  have hr := B.returns
  have hlk := B.notSynchronized
  have SS : jS pr mi co cX11_remake 3 st _ RX11 := ⟨B.exec, B.bytes, hml, findClass_of_methodNamed B.named, fun w hw => atoms_spec (ws := (jw yX11_remake cX11_remake 3 none)) B.pre w (List.mem_cons_of_mem _ hw)⟩
  have hl := lv_entry ([.ref (q 0), .ref (q (8 + 5 * 1))]) (n := 3) (Nat.le_of_ble_eq_true rfl)
  rw [lg_entry_eq]
  generalize (lg_sl ([.ref (q 0), .ref (q (8 + 5 * 1))]) ++ List.replicate (3 - (lg_sl ([.ref (q 0), .ref (q (8 + 5 * 1))])).length) Slot.unset).toArray = ls at hl ⊢
  have hl : lv_has ls 3 [(0, .ref (q 0)), (1, .ref (q (8 + 5 * 1)))] := hl
  have hS : va_S A st.heap st.heap [] := va_S.rf
  have hR8 : RB 80 u 8 := p0.2.1.1
  have hRk := CI_40 p0 (show 1 < 8 by omega)
  have hc8 := hR8.1
  have hr8 := rl8
  rw [rl8] at hc8
  have hrk : (rl 1 : Int) = 24 := rfl
  have hHk := (p0.1 1 (by omega)).2.1
  refine lv_aload_n SS.1 SS.2.1 dX11_remake_0 rfl (lv_at hl 1 rfl) ?_
  refine j_get SS hG hP (8 + 5 * 1) (v := .ref (q (9 + 5 * 1))) (C := RX10) (T := TX10) (N := 3) (cw_shape (by omega)) rfl inX10 0 (by decide) (ref := "GridPolygons$Shape") kw_151 rfl rfl dX11_remake_1 ?_
  refine j_iconst SS dX11_remake_4 ?_
  refine j_putS SS hG hP (cW_D hD) hS (9 + 5 * 1) (v := .int (J 0)) (ty := .int) (C := RX7) (T := TX7) (N := 3) (cw_ring (by omega)) rfl inX7 tyX7 tyX7_ok nmX7 2 (by decide) (ref := "GridPolygons$Ring") kw_135 kw_132 rfl (by decide +kernel) rfl rfl (Nat.le_of_ble_eq_true rfl) dX11_remake_5 (ws' := (cW D q (sC u 1 0))) (cs_ring (by omega)) (fun H locs hP hS => ?_)
  refine j_iconst SS dX11_remake_8 ?_
  refine lv_istore_n (lv' := [(2, .int (J 0)), (0, .ref (q 0)), (1, .ref (q (8 + 5 * 1)))]) SS.1 SS.2.1 dX11_remake_9 rfl hl (by decide) rfl (fun ls hl => ?_)
  have L_10 : ∀ (nn : Nat) (i : Int) (n1 : Int) (f1 : Nat → Int) (g1 : Nat → Int) (H : Heap) (locs : List Loc) (hP : va_P D.1 j_cl (cW D q (sY (sX (sC u 1 n1) 1 f1) 1 g1)) H) (hS : va_S A st.heap H locs) (ls : Array Slot) (hl : lv_has ls 3 [(0, .ref (q 0)), (1, .ref (q (8 + 5 * 1))), (2, .int (J i))]) (i10_0 : (0 ≤ i ∧ i ≤ u.1.2.2.1 8) ∧ n1 = i) (i10_1 : RV 40 f1 g1) (i10_2 : ∀ j : Nat, (j : Int) < i → f1 j = u.1.1 8 j ∧ g1 j = u.1.2.1 8 j), (u.1.2.2.1 8 - i).toNat < nn → W pr l en (headSpec (jw yX11_remake cX11_remake 3 none) (jr 1 23)).room st mi (([.ref (q 0), .ref (q (8 + 5 * 1))] : List Value).toArray) below meth co H locs 0 0 (MQ below (jWv (fun u' => ∃ n : Int, ∃ f : Nat → Int, ∃ g : Nat → Int, ∃ hh : Nat → Int, ∃ tt : Int, ∃ st0 : Int, u' = (sY (sX (sV (sT (sH (sC u 1 n) 1 hh) 1 tt) 0 st0) 1 f) 1 g) ∧ (CI u' ∧ n = u.1.2.2.1 8 ∧ ∀ j : Nat, (j : Int) < n → f j = u.1.1 8 j ∧ g j = u.1.2.1 8 j)) (fun u' H => va_P D.1 j_cl (cW D q u') H) A) (([.ref (q 0), .ref (q (8 + 5 * 1))] : List Value).toArray) st 0 0 A) (F0 mi 10 ls []) := by
    intro nn
    induction nn with
    | zero => intros; omega
    | succ nn ih_10 =>
      intro i n1 f1 g1 H locs hP hS ls hl i10_0 i10_1 i10_2 hm
      refine lv_iload_n SS.1 SS.2.1 dX11_remake_10 rfl (lv_at hl 2 rfl) ?_
      refine lv_aload_n SS.1 SS.2.1 dX11_remake_11 rfl (lv_at hl 0 rfl) ?_
      refine j_get SS hG hP 0 (v := .ref (q 2)) (C := RX11) (T := TX11) (N := 8) rfl rfl inX11 1 (by decide) (ref := "GridPolygons") kw_386 rfl rfl dX11_remake_12 ?_
      refine j_get SS hG hP 2 (v := .ref (q (9 + 5 * 8))) (C := RX3) (T := TX3) (N := 3) rfl rfl inX3 2 (by decide) (ref := "GridPolygons$Hull") kw_180 rfl rfl dX11_remake_15 ?_
      refine j_getS SS hG hP (9 + 5 * 8) (v := .int (J (u.1.2.2.1 8))) (C := RX7) (T := TX7) (N := 3) (cw_ring (by omega)) rfl inX7 2 (by decide) (ref := "GridPolygons$Ring") kw_135 kw_132 rfl dX11_remake_18 ?_
      refine j_icmp_ge SS (tgt := 59) (x := i) (y := (u.1.2.2.1 8)) dX11_remake_21 (by decide) (by omega) (by omega) (fun c_21 => ?_) (fun c_21 => ?_)
      · skip
        refine lv_aload_n SS.1 SS.2.1 dX11_remake_59 rfl (lv_at hl 1 rfl) ?_
        refine j_get SS hG hP (8 + 5 * 1) (v := .ref (q (12 + 5 * 1))) (C := RX10) (T := TX10) (N := 3) (cw_shape (by omega)) rfl inX10 1 (by decide) (ref := "GridPolygons$Shape") kw_157 rfl rfl dX11_remake_60 ?_
        refine j_iconst SS dX11_remake_63 ?_
        refine j_sWv SS (As := [.ref (q (12 + 5 * 1)), .int (J 0)]) (rest := []) (c_J7_fill_53178 l D (ws := (cW D q (sY (sX (sC u 1 n1) 1 f1) 1 g1))) (A := A) (cW_D hD) (12 + 5 * 1) (0 : Int) (cw_hts (by omega)) (by first | decide | omega)) mf_J7_fill_53178 kw_466 hG hP hS (fun _ h => h) rfl hl.1 ⟨⟨Nat.le_of_ble_eq_true rfl, Nat.le_of_ble_eq_true rfl⟩, Nat.le_of_ble_eq_true rfl, Nat.le_refl _, Nat.le_refl _⟩ rfl dX11_remake_64 (fun _ H locs _ hP _ hS => ?_)
        have hP : va_P D.1 j_cl (cW D q (sY (sX (sH (sC u 1 n1) 1 (jf (u.1.2.2.2.1 1) (0 : Int) 40)) 1 f1) 1 g1)) H := Eq.mp (congrArg (fun w => va_P D.1 j_cl w H) (cs_hts (by omega))) hP
        refine lv_aload_n SS.1 SS.2.1 dX11_remake_67 rfl (lv_at hl 1 rfl) ?_
        refine lv_aload_n SS.1 SS.2.1 dX11_remake_68 rfl (lv_at hl 0 rfl) ?_
        refine j_vWi SS (As := []) (rest := [.ref (q (8 + 5 * 1))]) (c_X11_newStamp l D q (sY (sX (sH (sC u 1 n1) 1 (jf (u.1.2.2.2.1 1) (0 : Int) 40)) 1 f1) 1 g1) A (cW_D hD)   ) mf_X11_newStamp kw_467 hG hP hP (ci := 11) (q0 := 0) rfl rfl rfl hS (fun _ h => h) rfl hl.1 ⟨⟨Nat.le_of_ble_eq_true rfl, Nat.le_of_ble_eq_true rfl⟩, Nat.le_of_ble_eq_true rfl, Nat.le_refl _, Nat.le_refl _⟩ rfl dX11_remake_69 (fun z_69 u69 H locs h_69 hP _ hS => ?_)
        obtain ⟨t_69, rfl, h_69⟩ := h_69
        have hP : va_P D.1 j_cl (cW D q (sY (sX (sV (sH (sC u 1 n1) 1 (jf (u.1.2.2.2.1 1) (0 : Int) 40)) 0 t_69) 1 f1) 1 g1)) H := hP
        have h_69 : z_69 = t_69 ∧ -2147483648 ≤ t_69 ∧ t_69 ≤ 2147483647 := h_69
        refine j_put SS hG hP (cW_D hD) hS (8 + 5 * 1) (v := .int (J z_69)) (ty := .int) (C := RX10) (T := TX10) (N := 3) (cw_shape (by omega)) rfl inX10 tyX10 tyX10_ok nmX10 2 (by decide) (ref := "GridPolygons$Shape") kw_161 rfl rfl (by decide +kernel) rfl rfl (Nat.le_of_ble_eq_true rfl) dX11_remake_72 (ws' := (cW D q (sY (sX (sV (sT (sH (sC u 1 n1) 1 (jf (u.1.2.2.2.1 1) (0 : Int) 40)) 1 z_69) 0 t_69) 1 f1) 1 g1))) (cs_shape (by omega)) (fun H locs hP hS => ?_)
        exact W.vret SS.1 SS.2.1 hr (fun t0 ht hW => ⟨⟨(sY (sX (sV (sT (sH (sC u 1 n1) 1 (jf (u.1.2.2.2.1 1) (0 : Int) 40)) 1 z_69) 0 t_69) 1 f1) 1 g1), rfl, (⟨n1, f1, g1, (jf (u.1.2.2.2.1 1) (0 : Int) 40), z_69, t_69, rfl, ⟨CI_sh p0 (by omega) (by omega) i10_1 (HB_f hHk) (by omega) (by omega), by omega, fun j hj => i10_2 j (by omega)⟩⟩), by show va_P D.1 j_cl (cW D q (sY (sX (sV (sT (sH (sC u 1 n1) 1 (jf (u.1.2.2.2.1 1) (0 : Int) 40)) 1 z_69) 0 t_69) 1 f1) 1 g1)) t0.heap; rw [ht]; first | exact hP | (simp only [sC_id, sX_id, sY_id, sH_id, sT_id, sV_id]; exact hP)⟩, hS.F ht⟩) hS.2.2 dX11_remake_75 hlk
      · skip
        refine lv_aload_n SS.1 SS.2.1 dX11_remake_24 rfl (lv_at hl 1 rfl) ?_
        refine j_get SS hG hP (8 + 5 * 1) (v := .ref (q (9 + 5 * 1))) (C := RX10) (T := TX10) (N := 3) (cw_shape (by omega)) rfl inX10 0 (by decide) (ref := "GridPolygons$Shape") kw_151 rfl rfl dX11_remake_25 ?_
        refine lv_aload_n SS.1 SS.2.1 dX11_remake_28 rfl (lv_at hl 0 rfl) ?_
        refine j_get SS hG hP 0 (v := .ref (q 2)) (C := RX11) (T := TX11) (N := 8) rfl rfl inX11 1 (by decide) (ref := "GridPolygons") kw_386 rfl rfl dX11_remake_29 ?_
        refine j_get SS hG hP 2 (v := .ref (q (9 + 5 * 8))) (C := RX3) (T := TX3) (N := 3) rfl rfl inX3 2 (by decide) (ref := "GridPolygons$Hull") kw_180 rfl rfl dX11_remake_32 ?_
        refine lv_iload_n SS.1 SS.2.1 dX11_remake_35 rfl (lv_at hl 2 rfl) ?_
        refine j_uRi SS (As := [.int (J i)]) (rest := [.ref (q (9 + 5 * 1))]) (c_X8_x l D q (sY (sX (sC u 1 n1) 1 f1) 1 g1) 8 (by omega) i (show -2147483648 ≤ i ∧ i ≤ 2147483647 from (by omega))) mu_7_x kw_463 hG hP hP (ci := 7) (q0 := (9 + 5 * 8)) rfl (cw_ring (by omega)) rfl rfl hl.1 ⟨⟨Nat.le_of_ble_eq_true rfl, Nat.le_of_ble_eq_true rfl⟩, Nat.le_of_ble_eq_true rfl, Nat.le_refl _, Nat.le_refl _⟩ rfl dX11_remake_36 (fun z_36 h_36 => ?_)
        have h_36 : z_36 = rx (sY (sX (sC u 1 n1) 1 f1) 1 g1) 8 i ∧ ∀ K : Int, 0 ≤ K → RB K (sY (sX (sC u 1 n1) 1 f1) 1 g1) 8 → -K ≤ z_36 ∧ z_36 ≤ K := h_36
        have hb_36 := h_36.2 80 (by omega) (hR8)
        have ex36 : z_36 = u.1.1 8 i.toNat := by rw [h_36.1]; exact if_pos (by rw [rl8]; omega)
        have hq := bd_at p2 (z := i) (by omega) (by omega)
        refine lv_aload_n SS.1 SS.2.1 dX11_remake_39 rfl (lv_at hl 0 rfl) ?_
        refine j_get SS hG hP 0 (v := .ref (q 2)) (C := RX11) (T := TX11) (N := 8) rfl rfl inX11 1 (by decide) (ref := "GridPolygons") kw_386 rfl rfl dX11_remake_40 ?_
        refine j_get SS hG hP 2 (v := .ref (q (9 + 5 * 8))) (C := RX3) (T := TX3) (N := 3) rfl rfl inX3 2 (by decide) (ref := "GridPolygons$Hull") kw_180 rfl rfl dX11_remake_43 ?_
        refine lv_iload_n SS.1 SS.2.1 dX11_remake_46 rfl (lv_at hl 2 rfl) ?_
        refine j_uRi SS (As := [.int (J i)]) (rest := [.int (J z_36), .ref (q (9 + 5 * 1))]) (c_X8_y l D q (sY (sX (sC u 1 n1) 1 f1) 1 g1) 8 (by omega) i (show -2147483648 ≤ i ∧ i ≤ 2147483647 from (by omega))) mu_7_y kw_464 hG hP hP (ci := 7) (q0 := (9 + 5 * 8)) rfl (cw_ring (by omega)) rfl rfl hl.1 ⟨⟨Nat.le_of_ble_eq_true rfl, Nat.le_of_ble_eq_true rfl⟩, Nat.le_of_ble_eq_true rfl, Nat.le_refl _, Nat.le_refl _⟩ rfl dX11_remake_47 (fun z_47 h_47 => ?_)
        have h_47 : z_47 = ry9 (sY (sX (sC u 1 n1) 1 f1) 1 g1) 8 i ∧ ∀ K : Int, 0 ≤ K → RB K (sY (sX (sC u 1 n1) 1 f1) 1 g1) 8 → -K ≤ z_47 ∧ z_47 ≤ K := h_47
        have hb_47 := h_47.2 80 (by omega) (hR8)
        have ex47 : z_47 = u.1.2.1 8 i.toNat := by rw [h_47.1]; exact if_pos (by rw [rl8]; omega)
        refine j_uWv SS (As := [.int (J z_36), .int (J z_47)]) (rest := []) (c_X8_append l D q (sY (sX (sC u 1 n1) 1 f1) 1 g1) A (cW_D hD) 1 (by omega) z_36 z_47 (show 0 ≤ n1 ∧ n1 ≤ rl 1 from (by omega))) mu_7_append kw_465 hG hP hP (ci := 7) (q0 := (9 + 5 * 1)) rfl (cw_ring (by omega)) rfl hS (fun _ h => h) rfl hl.1 ⟨⟨Nat.le_of_ble_eq_true rfl, Nat.le_of_ble_eq_true rfl⟩, Nat.le_of_ble_eq_true rfl, Nat.le_refl _, Nat.le_refl _⟩ rfl dX11_remake_50 (fun u50 H locs h_50 hP _ hS => ?_)
        obtain ⟨f_50, g_50, n_50, rfl, h_50⟩ := h_50
        have hP : va_P D.1 j_cl (cW D q (sY (sX (sC u 1 n_50) 1 f_50) 1 g_50)) H := hP
        have h_50 : (n1 < rl 1 ∧ f_50 = upI (f1) (n1).toNat z_36 ∧ g_50 = upI (g1) (n1).toNat z_47 ∧ n_50 = n1 + 1) ∨ (rl 1 ≤ n1 ∧ f_50 = f1 ∧ g_50 = g1 ∧ n_50 = n1) := h_50
        refine lv_iinc (v := J (i + 1)) (lv' := [(2, .int (J (i + 1))), (0, .ref (q 0)), (1, .ref (q (8 + 5 * 1)))]) SS.1 SS.2.1 dX11_remake_53 hl (k := 2) rfl (J_add _ _) (by decide) rfl (fun ls hl => ?_)
        refine lv_goto (tgt := 10) SS.1 SS.2.1 dX11_remake_56 (by decide) ?_
        exact ih_10 (i + 1) n_50 f_50 g_50 _ _ hP hS ls (lv_sub hl [1, 2, 0] rfl) (by rcases h_50 with q | q; omega; omega) ((ap_b (m := 24) (n0 := n1) (x := z_36) (y := z_47) i10_1 (by omega) (by omega) (by omega) (by rw [hrk] at h_50; exact h_50)).2) (fun j hj => by rcases h_50 with ⟨q0, q1, q2, q3⟩ | q; (rw [q1, q2]; by_cases e : (j : Int) = i; (rw [show j = n1.toNat by omega, upI_s, upI_s, ex36, ex47]; rw [show i.toNat = n1.toNat by omega]; exact ⟨rfl, rfl⟩); (rw [upI_n (by omega), upI_n (by omega)]; exact i10_2 j (by omega))); omega) (by omega)
  exact L_10 ((u.1.2.2.1 8 - (0 : Int)).toNat + 1) 0 0 (u.1.1 1) (u.1.2.1 1) _ _ hP hS ls (lv_sub hl [1, 2, 0] rfl) (by omega) (hRk.2) (fun j hj => by omega) (Nat.lt_succ_self _)

set_option maxHeartbeats 4000000 in
set_option maxRecDepth 100000 in
theorem c_X11_remake_2 (l : Launch) (D : JD) (q : Nat → Nat) (u : CS) (A : Nat → Prop) (hD : va_D A (cW D q u)) (p0 : CI u) (p1 : u.1.2.2.1 8 ≤ 24) (p2 : bd 40 (u.1.1 8) (u.1.2.1 8) (u.1.2.2.1 8)) : Met l yX11_remake (jw yX11_remake cX11_remake 3 none) (jr 1 23) (jP [.ref (q 0), .ref (q (8 + 5 * 2))] D (fun H => va_P D.1 j_cl (cW D q u) H)) (jWv (fun u' => ∃ n : Int, ∃ f : Nat → Int, ∃ g : Nat → Int, ∃ hh : Nat → Int, ∃ tt : Int, ∃ st0 : Int, u' = (sY (sX (sV (sT (sH (sC u 2 n) 2 hh) 2 tt) 0 st0) 2 f) 2 g) ∧ (CI u' ∧ n = u.1.2.2.1 8 ∧ ∀ j : Nat, (j : Int) < n → f j = u.1.1 8 j ∧ g j = u.1.2.1 8 j)) (fun u' H => va_P D.1 j_cl (cW D q u') H) A) 0 0 A := by
  refine Met.ofW (cc := cX11_remake) (maxL := 3) (ret := none) (by decide) rfl ?_
  intro pr en st mi args below meth co s₁ B hml hv
  obtain ⟨rfl, hG, hP⟩ := hv
  have hr := B.returns
  have hlk := B.notSynchronized
  have SS : jS pr mi co cX11_remake 3 st _ RX11 := ⟨B.exec, B.bytes, hml, findClass_of_methodNamed B.named, fun w hw => atoms_spec (ws := (jw yX11_remake cX11_remake 3 none)) B.pre w (List.mem_cons_of_mem _ hw)⟩
  have hl := lv_entry ([.ref (q 0), .ref (q (8 + 5 * 2))]) (n := 3) (Nat.le_of_ble_eq_true rfl)
  rw [lg_entry_eq]
  generalize (lg_sl ([.ref (q 0), .ref (q (8 + 5 * 2))]) ++ List.replicate (3 - (lg_sl ([.ref (q 0), .ref (q (8 + 5 * 2))])).length) Slot.unset).toArray = ls at hl ⊢
  have hl : lv_has ls 3 [(0, .ref (q 0)), (1, .ref (q (8 + 5 * 2)))] := hl
  have hS : va_S A st.heap st.heap [] := va_S.rf
  have hR8 : RB 80 u 8 := p0.2.1.1
  have hRk := CI_40 p0 (show 2 < 8 by omega)
  have hc8 := hR8.1
  have hr8 := rl8
  rw [rl8] at hc8
  have hrk : (rl 2 : Int) = 24 := rfl
  have hHk := (p0.1 2 (by omega)).2.1
  refine lv_aload_n SS.1 SS.2.1 dX11_remake_0 rfl (lv_at hl 1 rfl) ?_
  refine j_get SS hG hP (8 + 5 * 2) (v := .ref (q (9 + 5 * 2))) (C := RX10) (T := TX10) (N := 3) (cw_shape (by omega)) rfl inX10 0 (by decide) (ref := "GridPolygons$Shape") kw_151 rfl rfl dX11_remake_1 ?_
  refine j_iconst SS dX11_remake_4 ?_
  refine j_putS SS hG hP (cW_D hD) hS (9 + 5 * 2) (v := .int (J 0)) (ty := .int) (C := RX7) (T := TX7) (N := 3) (cw_ring (by omega)) rfl inX7 tyX7 tyX7_ok nmX7 2 (by decide) (ref := "GridPolygons$Ring") kw_135 kw_132 rfl (by decide +kernel) rfl rfl (Nat.le_of_ble_eq_true rfl) dX11_remake_5 (ws' := (cW D q (sC u 2 0))) (cs_ring (by omega)) (fun H locs hP hS => ?_)
  refine j_iconst SS dX11_remake_8 ?_
  refine lv_istore_n (lv' := [(2, .int (J 0)), (0, .ref (q 0)), (1, .ref (q (8 + 5 * 2)))]) SS.1 SS.2.1 dX11_remake_9 rfl hl (by decide) rfl (fun ls hl => ?_)
  have L_10 : ∀ (nn : Nat) (i : Int) (n1 : Int) (f1 : Nat → Int) (g1 : Nat → Int) (H : Heap) (locs : List Loc) (hP : va_P D.1 j_cl (cW D q (sY (sX (sC u 2 n1) 2 f1) 2 g1)) H) (hS : va_S A st.heap H locs) (ls : Array Slot) (hl : lv_has ls 3 [(0, .ref (q 0)), (1, .ref (q (8 + 5 * 2))), (2, .int (J i))]) (i10_0 : (0 ≤ i ∧ i ≤ u.1.2.2.1 8) ∧ n1 = i) (i10_1 : RV 40 f1 g1) (i10_2 : ∀ j : Nat, (j : Int) < i → f1 j = u.1.1 8 j ∧ g1 j = u.1.2.1 8 j), (u.1.2.2.1 8 - i).toNat < nn → W pr l en (headSpec (jw yX11_remake cX11_remake 3 none) (jr 1 23)).room st mi (([.ref (q 0), .ref (q (8 + 5 * 2))] : List Value).toArray) below meth co H locs 0 0 (MQ below (jWv (fun u' => ∃ n : Int, ∃ f : Nat → Int, ∃ g : Nat → Int, ∃ hh : Nat → Int, ∃ tt : Int, ∃ st0 : Int, u' = (sY (sX (sV (sT (sH (sC u 2 n) 2 hh) 2 tt) 0 st0) 2 f) 2 g) ∧ (CI u' ∧ n = u.1.2.2.1 8 ∧ ∀ j : Nat, (j : Int) < n → f j = u.1.1 8 j ∧ g j = u.1.2.1 8 j)) (fun u' H => va_P D.1 j_cl (cW D q u') H) A) (([.ref (q 0), .ref (q (8 + 5 * 2))] : List Value).toArray) st 0 0 A) (F0 mi 10 ls []) := by
    intro nn
    induction nn with
    | zero => intros; omega
    | succ nn ih_10 =>
      intro i n1 f1 g1 H locs hP hS ls hl i10_0 i10_1 i10_2 hm
      refine lv_iload_n SS.1 SS.2.1 dX11_remake_10 rfl (lv_at hl 2 rfl) ?_
      refine lv_aload_n SS.1 SS.2.1 dX11_remake_11 rfl (lv_at hl 0 rfl) ?_
      refine j_get SS hG hP 0 (v := .ref (q 2)) (C := RX11) (T := TX11) (N := 8) rfl rfl inX11 1 (by decide) (ref := "GridPolygons") kw_386 rfl rfl dX11_remake_12 ?_
      refine j_get SS hG hP 2 (v := .ref (q (9 + 5 * 8))) (C := RX3) (T := TX3) (N := 3) rfl rfl inX3 2 (by decide) (ref := "GridPolygons$Hull") kw_180 rfl rfl dX11_remake_15 ?_
      refine j_getS SS hG hP (9 + 5 * 8) (v := .int (J (u.1.2.2.1 8))) (C := RX7) (T := TX7) (N := 3) (cw_ring (by omega)) rfl inX7 2 (by decide) (ref := "GridPolygons$Ring") kw_135 kw_132 rfl dX11_remake_18 ?_
      refine j_icmp_ge SS (tgt := 59) (x := i) (y := (u.1.2.2.1 8)) dX11_remake_21 (by decide) (by omega) (by omega) (fun c_21 => ?_) (fun c_21 => ?_)
      · skip
        refine lv_aload_n SS.1 SS.2.1 dX11_remake_59 rfl (lv_at hl 1 rfl) ?_
        refine j_get SS hG hP (8 + 5 * 2) (v := .ref (q (12 + 5 * 2))) (C := RX10) (T := TX10) (N := 3) (cw_shape (by omega)) rfl inX10 1 (by decide) (ref := "GridPolygons$Shape") kw_157 rfl rfl dX11_remake_60 ?_
        refine j_iconst SS dX11_remake_63 ?_
        refine j_sWv SS (As := [.ref (q (12 + 5 * 2)), .int (J 0)]) (rest := []) (c_J7_fill_53178 l D (ws := (cW D q (sY (sX (sC u 2 n1) 2 f1) 2 g1))) (A := A) (cW_D hD) (12 + 5 * 2) (0 : Int) (cw_hts (by omega)) (by first | decide | omega)) mf_J7_fill_53178 kw_466 hG hP hS (fun _ h => h) rfl hl.1 ⟨⟨Nat.le_of_ble_eq_true rfl, Nat.le_of_ble_eq_true rfl⟩, Nat.le_of_ble_eq_true rfl, Nat.le_refl _, Nat.le_refl _⟩ rfl dX11_remake_64 (fun _ H locs _ hP _ hS => ?_)
        have hP : va_P D.1 j_cl (cW D q (sY (sX (sH (sC u 2 n1) 2 (jf (u.1.2.2.2.1 2) (0 : Int) 40)) 2 f1) 2 g1)) H := Eq.mp (congrArg (fun w => va_P D.1 j_cl w H) (cs_hts (by omega))) hP
        refine lv_aload_n SS.1 SS.2.1 dX11_remake_67 rfl (lv_at hl 1 rfl) ?_
        refine lv_aload_n SS.1 SS.2.1 dX11_remake_68 rfl (lv_at hl 0 rfl) ?_
        refine j_vWi SS (As := []) (rest := [.ref (q (8 + 5 * 2))]) (c_X11_newStamp l D q (sY (sX (sH (sC u 2 n1) 2 (jf (u.1.2.2.2.1 2) (0 : Int) 40)) 2 f1) 2 g1) A (cW_D hD)   ) mf_X11_newStamp kw_467 hG hP hP (ci := 11) (q0 := 0) rfl rfl rfl hS (fun _ h => h) rfl hl.1 ⟨⟨Nat.le_of_ble_eq_true rfl, Nat.le_of_ble_eq_true rfl⟩, Nat.le_of_ble_eq_true rfl, Nat.le_refl _, Nat.le_refl _⟩ rfl dX11_remake_69 (fun z_69 u69 H locs h_69 hP _ hS => ?_)
        obtain ⟨t_69, rfl, h_69⟩ := h_69
        have hP : va_P D.1 j_cl (cW D q (sY (sX (sV (sH (sC u 2 n1) 2 (jf (u.1.2.2.2.1 2) (0 : Int) 40)) 0 t_69) 2 f1) 2 g1)) H := hP
        have h_69 : z_69 = t_69 ∧ -2147483648 ≤ t_69 ∧ t_69 ≤ 2147483647 := h_69
        refine j_put SS hG hP (cW_D hD) hS (8 + 5 * 2) (v := .int (J z_69)) (ty := .int) (C := RX10) (T := TX10) (N := 3) (cw_shape (by omega)) rfl inX10 tyX10 tyX10_ok nmX10 2 (by decide) (ref := "GridPolygons$Shape") kw_161 rfl rfl (by decide +kernel) rfl rfl (Nat.le_of_ble_eq_true rfl) dX11_remake_72 (ws' := (cW D q (sY (sX (sV (sT (sH (sC u 2 n1) 2 (jf (u.1.2.2.2.1 2) (0 : Int) 40)) 2 z_69) 0 t_69) 2 f1) 2 g1))) (cs_shape (by omega)) (fun H locs hP hS => ?_)
        exact W.vret SS.1 SS.2.1 hr (fun t0 ht hW => ⟨⟨(sY (sX (sV (sT (sH (sC u 2 n1) 2 (jf (u.1.2.2.2.1 2) (0 : Int) 40)) 2 z_69) 0 t_69) 2 f1) 2 g1), rfl, (⟨n1, f1, g1, (jf (u.1.2.2.2.1 2) (0 : Int) 40), z_69, t_69, rfl, ⟨CI_sh p0 (by omega) (by omega) i10_1 (HB_f hHk) (by omega) (by omega), by omega, fun j hj => i10_2 j (by omega)⟩⟩), by show va_P D.1 j_cl (cW D q (sY (sX (sV (sT (sH (sC u 2 n1) 2 (jf (u.1.2.2.2.1 2) (0 : Int) 40)) 2 z_69) 0 t_69) 2 f1) 2 g1)) t0.heap; rw [ht]; first | exact hP | (simp only [sC_id, sX_id, sY_id, sH_id, sT_id, sV_id]; exact hP)⟩, hS.F ht⟩) hS.2.2 dX11_remake_75 hlk
      · skip
        refine lv_aload_n SS.1 SS.2.1 dX11_remake_24 rfl (lv_at hl 1 rfl) ?_
        refine j_get SS hG hP (8 + 5 * 2) (v := .ref (q (9 + 5 * 2))) (C := RX10) (T := TX10) (N := 3) (cw_shape (by omega)) rfl inX10 0 (by decide) (ref := "GridPolygons$Shape") kw_151 rfl rfl dX11_remake_25 ?_
        refine lv_aload_n SS.1 SS.2.1 dX11_remake_28 rfl (lv_at hl 0 rfl) ?_
        refine j_get SS hG hP 0 (v := .ref (q 2)) (C := RX11) (T := TX11) (N := 8) rfl rfl inX11 1 (by decide) (ref := "GridPolygons") kw_386 rfl rfl dX11_remake_29 ?_
        refine j_get SS hG hP 2 (v := .ref (q (9 + 5 * 8))) (C := RX3) (T := TX3) (N := 3) rfl rfl inX3 2 (by decide) (ref := "GridPolygons$Hull") kw_180 rfl rfl dX11_remake_32 ?_
        refine lv_iload_n SS.1 SS.2.1 dX11_remake_35 rfl (lv_at hl 2 rfl) ?_
        refine j_uRi SS (As := [.int (J i)]) (rest := [.ref (q (9 + 5 * 2))]) (c_X8_x l D q (sY (sX (sC u 2 n1) 2 f1) 2 g1) 8 (by omega) i (show -2147483648 ≤ i ∧ i ≤ 2147483647 from (by omega))) mu_7_x kw_463 hG hP hP (ci := 7) (q0 := (9 + 5 * 8)) rfl (cw_ring (by omega)) rfl rfl hl.1 ⟨⟨Nat.le_of_ble_eq_true rfl, Nat.le_of_ble_eq_true rfl⟩, Nat.le_of_ble_eq_true rfl, Nat.le_refl _, Nat.le_refl _⟩ rfl dX11_remake_36 (fun z_36 h_36 => ?_)
        have h_36 : z_36 = rx (sY (sX (sC u 2 n1) 2 f1) 2 g1) 8 i ∧ ∀ K : Int, 0 ≤ K → RB K (sY (sX (sC u 2 n1) 2 f1) 2 g1) 8 → -K ≤ z_36 ∧ z_36 ≤ K := h_36
        have hb_36 := h_36.2 80 (by omega) (hR8)
        have ex36 : z_36 = u.1.1 8 i.toNat := by rw [h_36.1]; exact if_pos (by rw [rl8]; omega)
        have hq := bd_at p2 (z := i) (by omega) (by omega)
        refine lv_aload_n SS.1 SS.2.1 dX11_remake_39 rfl (lv_at hl 0 rfl) ?_
        refine j_get SS hG hP 0 (v := .ref (q 2)) (C := RX11) (T := TX11) (N := 8) rfl rfl inX11 1 (by decide) (ref := "GridPolygons") kw_386 rfl rfl dX11_remake_40 ?_
        refine j_get SS hG hP 2 (v := .ref (q (9 + 5 * 8))) (C := RX3) (T := TX3) (N := 3) rfl rfl inX3 2 (by decide) (ref := "GridPolygons$Hull") kw_180 rfl rfl dX11_remake_43 ?_
        refine lv_iload_n SS.1 SS.2.1 dX11_remake_46 rfl (lv_at hl 2 rfl) ?_
        refine j_uRi SS (As := [.int (J i)]) (rest := [.int (J z_36), .ref (q (9 + 5 * 2))]) (c_X8_y l D q (sY (sX (sC u 2 n1) 2 f1) 2 g1) 8 (by omega) i (show -2147483648 ≤ i ∧ i ≤ 2147483647 from (by omega))) mu_7_y kw_464 hG hP hP (ci := 7) (q0 := (9 + 5 * 8)) rfl (cw_ring (by omega)) rfl rfl hl.1 ⟨⟨Nat.le_of_ble_eq_true rfl, Nat.le_of_ble_eq_true rfl⟩, Nat.le_of_ble_eq_true rfl, Nat.le_refl _, Nat.le_refl _⟩ rfl dX11_remake_47 (fun z_47 h_47 => ?_)
        have h_47 : z_47 = ry9 (sY (sX (sC u 2 n1) 2 f1) 2 g1) 8 i ∧ ∀ K : Int, 0 ≤ K → RB K (sY (sX (sC u 2 n1) 2 f1) 2 g1) 8 → -K ≤ z_47 ∧ z_47 ≤ K := h_47
        have hb_47 := h_47.2 80 (by omega) (hR8)
        have ex47 : z_47 = u.1.2.1 8 i.toNat := by rw [h_47.1]; exact if_pos (by rw [rl8]; omega)
        refine j_uWv SS (As := [.int (J z_36), .int (J z_47)]) (rest := []) (c_X8_append l D q (sY (sX (sC u 2 n1) 2 f1) 2 g1) A (cW_D hD) 2 (by omega) z_36 z_47 (show 0 ≤ n1 ∧ n1 ≤ rl 2 from (by omega))) mu_7_append kw_465 hG hP hP (ci := 7) (q0 := (9 + 5 * 2)) rfl (cw_ring (by omega)) rfl hS (fun _ h => h) rfl hl.1 ⟨⟨Nat.le_of_ble_eq_true rfl, Nat.le_of_ble_eq_true rfl⟩, Nat.le_of_ble_eq_true rfl, Nat.le_refl _, Nat.le_refl _⟩ rfl dX11_remake_50 (fun u50 H locs h_50 hP _ hS => ?_)
        obtain ⟨f_50, g_50, n_50, rfl, h_50⟩ := h_50
        have hP : va_P D.1 j_cl (cW D q (sY (sX (sC u 2 n_50) 2 f_50) 2 g_50)) H := hP
        have h_50 : (n1 < rl 2 ∧ f_50 = upI (f1) (n1).toNat z_36 ∧ g_50 = upI (g1) (n1).toNat z_47 ∧ n_50 = n1 + 1) ∨ (rl 2 ≤ n1 ∧ f_50 = f1 ∧ g_50 = g1 ∧ n_50 = n1) := h_50
        refine lv_iinc (v := J (i + 1)) (lv' := [(2, .int (J (i + 1))), (0, .ref (q 0)), (1, .ref (q (8 + 5 * 2)))]) SS.1 SS.2.1 dX11_remake_53 hl (k := 2) rfl (J_add _ _) (by decide) rfl (fun ls hl => ?_)
        refine lv_goto (tgt := 10) SS.1 SS.2.1 dX11_remake_56 (by decide) ?_
        exact ih_10 (i + 1) n_50 f_50 g_50 _ _ hP hS ls (lv_sub hl [1, 2, 0] rfl) (by rcases h_50 with q | q; omega; omega) ((ap_b (m := 24) (n0 := n1) (x := z_36) (y := z_47) i10_1 (by omega) (by omega) (by omega) (by rw [hrk] at h_50; exact h_50)).2) (fun j hj => by rcases h_50 with ⟨q0, q1, q2, q3⟩ | q; (rw [q1, q2]; by_cases e : (j : Int) = i; (rw [show j = n1.toNat by omega, upI_s, upI_s, ex36, ex47]; rw [show i.toNat = n1.toNat by omega]; exact ⟨rfl, rfl⟩); (rw [upI_n (by omega), upI_n (by omega)]; exact i10_2 j (by omega))); omega) (by omega)
  exact L_10 ((u.1.2.2.1 8 - (0 : Int)).toNat + 1) 0 0 (u.1.1 2) (u.1.2.1 2) _ _ hP hS ls (lv_sub hl [1, 2, 0] rfl) (by omega) (hRk.2) (fun j hj => by omega) (Nat.lt_succ_self _)

set_option maxHeartbeats 4000000 in
set_option maxRecDepth 100000 in
theorem c_X11_remake_3 (l : Launch) (D : JD) (q : Nat → Nat) (u : CS) (A : Nat → Prop) (hD : va_D A (cW D q u)) (p0 : CI u) (p1 : u.1.2.2.1 8 ≤ 24) (p2 : bd 40 (u.1.1 8) (u.1.2.1 8) (u.1.2.2.1 8)) : Met l yX11_remake (jw yX11_remake cX11_remake 3 none) (jr 1 23) (jP [.ref (q 0), .ref (q (8 + 5 * 3))] D (fun H => va_P D.1 j_cl (cW D q u) H)) (jWv (fun u' => ∃ n : Int, ∃ f : Nat → Int, ∃ g : Nat → Int, ∃ hh : Nat → Int, ∃ tt : Int, ∃ st0 : Int, u' = (sY (sX (sV (sT (sH (sC u 3 n) 3 hh) 3 tt) 0 st0) 3 f) 3 g) ∧ (CI u' ∧ n = u.1.2.2.1 8 ∧ ∀ j : Nat, (j : Int) < n → f j = u.1.1 8 j ∧ g j = u.1.2.1 8 j)) (fun u' H => va_P D.1 j_cl (cW D q u') H) A) 0 0 A := by
  refine Met.ofW (cc := cX11_remake) (maxL := 3) (ret := none) (by decide) rfl ?_
  intro pr en st mi args below meth co s₁ B hml hv
  obtain ⟨rfl, hG, hP⟩ := hv
  have hr := B.returns
  have hlk := B.notSynchronized
  have SS : jS pr mi co cX11_remake 3 st _ RX11 := ⟨B.exec, B.bytes, hml, findClass_of_methodNamed B.named, fun w hw => atoms_spec (ws := (jw yX11_remake cX11_remake 3 none)) B.pre w (List.mem_cons_of_mem _ hw)⟩
  have hl := lv_entry ([.ref (q 0), .ref (q (8 + 5 * 3))]) (n := 3) (Nat.le_of_ble_eq_true rfl)
  rw [lg_entry_eq]
  generalize (lg_sl ([.ref (q 0), .ref (q (8 + 5 * 3))]) ++ List.replicate (3 - (lg_sl ([.ref (q 0), .ref (q (8 + 5 * 3))])).length) Slot.unset).toArray = ls at hl ⊢
  have hl : lv_has ls 3 [(0, .ref (q 0)), (1, .ref (q (8 + 5 * 3)))] := hl
  have hS : va_S A st.heap st.heap [] := va_S.rf
  have hR8 : RB 80 u 8 := p0.2.1.1
  have hRk := CI_40 p0 (show 3 < 8 by omega)
  have hc8 := hR8.1
  have hr8 := rl8
  rw [rl8] at hc8
  have hrk : (rl 3 : Int) = 24 := rfl
  have hHk := (p0.1 3 (by omega)).2.1
  refine lv_aload_n SS.1 SS.2.1 dX11_remake_0 rfl (lv_at hl 1 rfl) ?_
  refine j_get SS hG hP (8 + 5 * 3) (v := .ref (q (9 + 5 * 3))) (C := RX10) (T := TX10) (N := 3) (cw_shape (by omega)) rfl inX10 0 (by decide) (ref := "GridPolygons$Shape") kw_151 rfl rfl dX11_remake_1 ?_
  refine j_iconst SS dX11_remake_4 ?_
  refine j_putS SS hG hP (cW_D hD) hS (9 + 5 * 3) (v := .int (J 0)) (ty := .int) (C := RX7) (T := TX7) (N := 3) (cw_ring (by omega)) rfl inX7 tyX7 tyX7_ok nmX7 2 (by decide) (ref := "GridPolygons$Ring") kw_135 kw_132 rfl (by decide +kernel) rfl rfl (Nat.le_of_ble_eq_true rfl) dX11_remake_5 (ws' := (cW D q (sC u 3 0))) (cs_ring (by omega)) (fun H locs hP hS => ?_)
  refine j_iconst SS dX11_remake_8 ?_
  refine lv_istore_n (lv' := [(2, .int (J 0)), (0, .ref (q 0)), (1, .ref (q (8 + 5 * 3)))]) SS.1 SS.2.1 dX11_remake_9 rfl hl (by decide) rfl (fun ls hl => ?_)
  have L_10 : ∀ (nn : Nat) (i : Int) (n1 : Int) (f1 : Nat → Int) (g1 : Nat → Int) (H : Heap) (locs : List Loc) (hP : va_P D.1 j_cl (cW D q (sY (sX (sC u 3 n1) 3 f1) 3 g1)) H) (hS : va_S A st.heap H locs) (ls : Array Slot) (hl : lv_has ls 3 [(0, .ref (q 0)), (1, .ref (q (8 + 5 * 3))), (2, .int (J i))]) (i10_0 : (0 ≤ i ∧ i ≤ u.1.2.2.1 8) ∧ n1 = i) (i10_1 : RV 40 f1 g1) (i10_2 : ∀ j : Nat, (j : Int) < i → f1 j = u.1.1 8 j ∧ g1 j = u.1.2.1 8 j), (u.1.2.2.1 8 - i).toNat < nn → W pr l en (headSpec (jw yX11_remake cX11_remake 3 none) (jr 1 23)).room st mi (([.ref (q 0), .ref (q (8 + 5 * 3))] : List Value).toArray) below meth co H locs 0 0 (MQ below (jWv (fun u' => ∃ n : Int, ∃ f : Nat → Int, ∃ g : Nat → Int, ∃ hh : Nat → Int, ∃ tt : Int, ∃ st0 : Int, u' = (sY (sX (sV (sT (sH (sC u 3 n) 3 hh) 3 tt) 0 st0) 3 f) 3 g) ∧ (CI u' ∧ n = u.1.2.2.1 8 ∧ ∀ j : Nat, (j : Int) < n → f j = u.1.1 8 j ∧ g j = u.1.2.1 8 j)) (fun u' H => va_P D.1 j_cl (cW D q u') H) A) (([.ref (q 0), .ref (q (8 + 5 * 3))] : List Value).toArray) st 0 0 A) (F0 mi 10 ls []) := by
    intro nn
    induction nn with
    | zero => intros; omega
    | succ nn ih_10 =>
      intro i n1 f1 g1 H locs hP hS ls hl i10_0 i10_1 i10_2 hm
      refine lv_iload_n SS.1 SS.2.1 dX11_remake_10 rfl (lv_at hl 2 rfl) ?_
      refine lv_aload_n SS.1 SS.2.1 dX11_remake_11 rfl (lv_at hl 0 rfl) ?_
      refine j_get SS hG hP 0 (v := .ref (q 2)) (C := RX11) (T := TX11) (N := 8) rfl rfl inX11 1 (by decide) (ref := "GridPolygons") kw_386 rfl rfl dX11_remake_12 ?_
      refine j_get SS hG hP 2 (v := .ref (q (9 + 5 * 8))) (C := RX3) (T := TX3) (N := 3) rfl rfl inX3 2 (by decide) (ref := "GridPolygons$Hull") kw_180 rfl rfl dX11_remake_15 ?_
      refine j_getS SS hG hP (9 + 5 * 8) (v := .int (J (u.1.2.2.1 8))) (C := RX7) (T := TX7) (N := 3) (cw_ring (by omega)) rfl inX7 2 (by decide) (ref := "GridPolygons$Ring") kw_135 kw_132 rfl dX11_remake_18 ?_
      refine j_icmp_ge SS (tgt := 59) (x := i) (y := (u.1.2.2.1 8)) dX11_remake_21 (by decide) (by omega) (by omega) (fun c_21 => ?_) (fun c_21 => ?_)
      · skip
        refine lv_aload_n SS.1 SS.2.1 dX11_remake_59 rfl (lv_at hl 1 rfl) ?_
        refine j_get SS hG hP (8 + 5 * 3) (v := .ref (q (12 + 5 * 3))) (C := RX10) (T := TX10) (N := 3) (cw_shape (by omega)) rfl inX10 1 (by decide) (ref := "GridPolygons$Shape") kw_157 rfl rfl dX11_remake_60 ?_
        refine j_iconst SS dX11_remake_63 ?_
        refine j_sWv SS (As := [.ref (q (12 + 5 * 3)), .int (J 0)]) (rest := []) (c_J7_fill_53178 l D (ws := (cW D q (sY (sX (sC u 3 n1) 3 f1) 3 g1))) (A := A) (cW_D hD) (12 + 5 * 3) (0 : Int) (cw_hts (by omega)) (by first | decide | omega)) mf_J7_fill_53178 kw_466 hG hP hS (fun _ h => h) rfl hl.1 ⟨⟨Nat.le_of_ble_eq_true rfl, Nat.le_of_ble_eq_true rfl⟩, Nat.le_of_ble_eq_true rfl, Nat.le_refl _, Nat.le_refl _⟩ rfl dX11_remake_64 (fun _ H locs _ hP _ hS => ?_)
        have hP : va_P D.1 j_cl (cW D q (sY (sX (sH (sC u 3 n1) 3 (jf (u.1.2.2.2.1 3) (0 : Int) 40)) 3 f1) 3 g1)) H := Eq.mp (congrArg (fun w => va_P D.1 j_cl w H) (cs_hts (by omega))) hP
        refine lv_aload_n SS.1 SS.2.1 dX11_remake_67 rfl (lv_at hl 1 rfl) ?_
        refine lv_aload_n SS.1 SS.2.1 dX11_remake_68 rfl (lv_at hl 0 rfl) ?_
        refine j_vWi SS (As := []) (rest := [.ref (q (8 + 5 * 3))]) (c_X11_newStamp l D q (sY (sX (sH (sC u 3 n1) 3 (jf (u.1.2.2.2.1 3) (0 : Int) 40)) 3 f1) 3 g1) A (cW_D hD)   ) mf_X11_newStamp kw_467 hG hP hP (ci := 11) (q0 := 0) rfl rfl rfl hS (fun _ h => h) rfl hl.1 ⟨⟨Nat.le_of_ble_eq_true rfl, Nat.le_of_ble_eq_true rfl⟩, Nat.le_of_ble_eq_true rfl, Nat.le_refl _, Nat.le_refl _⟩ rfl dX11_remake_69 (fun z_69 u69 H locs h_69 hP _ hS => ?_)
        obtain ⟨t_69, rfl, h_69⟩ := h_69
        have hP : va_P D.1 j_cl (cW D q (sY (sX (sV (sH (sC u 3 n1) 3 (jf (u.1.2.2.2.1 3) (0 : Int) 40)) 0 t_69) 3 f1) 3 g1)) H := hP
        have h_69 : z_69 = t_69 ∧ -2147483648 ≤ t_69 ∧ t_69 ≤ 2147483647 := h_69
        refine j_put SS hG hP (cW_D hD) hS (8 + 5 * 3) (v := .int (J z_69)) (ty := .int) (C := RX10) (T := TX10) (N := 3) (cw_shape (by omega)) rfl inX10 tyX10 tyX10_ok nmX10 2 (by decide) (ref := "GridPolygons$Shape") kw_161 rfl rfl (by decide +kernel) rfl rfl (Nat.le_of_ble_eq_true rfl) dX11_remake_72 (ws' := (cW D q (sY (sX (sV (sT (sH (sC u 3 n1) 3 (jf (u.1.2.2.2.1 3) (0 : Int) 40)) 3 z_69) 0 t_69) 3 f1) 3 g1))) (cs_shape (by omega)) (fun H locs hP hS => ?_)
        exact W.vret SS.1 SS.2.1 hr (fun t0 ht hW => ⟨⟨(sY (sX (sV (sT (sH (sC u 3 n1) 3 (jf (u.1.2.2.2.1 3) (0 : Int) 40)) 3 z_69) 0 t_69) 3 f1) 3 g1), rfl, (⟨n1, f1, g1, (jf (u.1.2.2.2.1 3) (0 : Int) 40), z_69, t_69, rfl, ⟨CI_sh p0 (by omega) (by omega) i10_1 (HB_f hHk) (by omega) (by omega), by omega, fun j hj => i10_2 j (by omega)⟩⟩), by show va_P D.1 j_cl (cW D q (sY (sX (sV (sT (sH (sC u 3 n1) 3 (jf (u.1.2.2.2.1 3) (0 : Int) 40)) 3 z_69) 0 t_69) 3 f1) 3 g1)) t0.heap; rw [ht]; first | exact hP | (simp only [sC_id, sX_id, sY_id, sH_id, sT_id, sV_id]; exact hP)⟩, hS.F ht⟩) hS.2.2 dX11_remake_75 hlk
      · skip
        refine lv_aload_n SS.1 SS.2.1 dX11_remake_24 rfl (lv_at hl 1 rfl) ?_
        refine j_get SS hG hP (8 + 5 * 3) (v := .ref (q (9 + 5 * 3))) (C := RX10) (T := TX10) (N := 3) (cw_shape (by omega)) rfl inX10 0 (by decide) (ref := "GridPolygons$Shape") kw_151 rfl rfl dX11_remake_25 ?_
        refine lv_aload_n SS.1 SS.2.1 dX11_remake_28 rfl (lv_at hl 0 rfl) ?_
        refine j_get SS hG hP 0 (v := .ref (q 2)) (C := RX11) (T := TX11) (N := 8) rfl rfl inX11 1 (by decide) (ref := "GridPolygons") kw_386 rfl rfl dX11_remake_29 ?_
        refine j_get SS hG hP 2 (v := .ref (q (9 + 5 * 8))) (C := RX3) (T := TX3) (N := 3) rfl rfl inX3 2 (by decide) (ref := "GridPolygons$Hull") kw_180 rfl rfl dX11_remake_32 ?_
        refine lv_iload_n SS.1 SS.2.1 dX11_remake_35 rfl (lv_at hl 2 rfl) ?_
        refine j_uRi SS (As := [.int (J i)]) (rest := [.ref (q (9 + 5 * 3))]) (c_X8_x l D q (sY (sX (sC u 3 n1) 3 f1) 3 g1) 8 (by omega) i (show -2147483648 ≤ i ∧ i ≤ 2147483647 from (by omega))) mu_7_x kw_463 hG hP hP (ci := 7) (q0 := (9 + 5 * 8)) rfl (cw_ring (by omega)) rfl rfl hl.1 ⟨⟨Nat.le_of_ble_eq_true rfl, Nat.le_of_ble_eq_true rfl⟩, Nat.le_of_ble_eq_true rfl, Nat.le_refl _, Nat.le_refl _⟩ rfl dX11_remake_36 (fun z_36 h_36 => ?_)
        have h_36 : z_36 = rx (sY (sX (sC u 3 n1) 3 f1) 3 g1) 8 i ∧ ∀ K : Int, 0 ≤ K → RB K (sY (sX (sC u 3 n1) 3 f1) 3 g1) 8 → -K ≤ z_36 ∧ z_36 ≤ K := h_36
        have hb_36 := h_36.2 80 (by omega) (hR8)
        have ex36 : z_36 = u.1.1 8 i.toNat := by rw [h_36.1]; exact if_pos (by rw [rl8]; omega)
        have hq := bd_at p2 (z := i) (by omega) (by omega)
        refine lv_aload_n SS.1 SS.2.1 dX11_remake_39 rfl (lv_at hl 0 rfl) ?_
        refine j_get SS hG hP 0 (v := .ref (q 2)) (C := RX11) (T := TX11) (N := 8) rfl rfl inX11 1 (by decide) (ref := "GridPolygons") kw_386 rfl rfl dX11_remake_40 ?_
        refine j_get SS hG hP 2 (v := .ref (q (9 + 5 * 8))) (C := RX3) (T := TX3) (N := 3) rfl rfl inX3 2 (by decide) (ref := "GridPolygons$Hull") kw_180 rfl rfl dX11_remake_43 ?_
        refine lv_iload_n SS.1 SS.2.1 dX11_remake_46 rfl (lv_at hl 2 rfl) ?_
        refine j_uRi SS (As := [.int (J i)]) (rest := [.int (J z_36), .ref (q (9 + 5 * 3))]) (c_X8_y l D q (sY (sX (sC u 3 n1) 3 f1) 3 g1) 8 (by omega) i (show -2147483648 ≤ i ∧ i ≤ 2147483647 from (by omega))) mu_7_y kw_464 hG hP hP (ci := 7) (q0 := (9 + 5 * 8)) rfl (cw_ring (by omega)) rfl rfl hl.1 ⟨⟨Nat.le_of_ble_eq_true rfl, Nat.le_of_ble_eq_true rfl⟩, Nat.le_of_ble_eq_true rfl, Nat.le_refl _, Nat.le_refl _⟩ rfl dX11_remake_47 (fun z_47 h_47 => ?_)
        have h_47 : z_47 = ry9 (sY (sX (sC u 3 n1) 3 f1) 3 g1) 8 i ∧ ∀ K : Int, 0 ≤ K → RB K (sY (sX (sC u 3 n1) 3 f1) 3 g1) 8 → -K ≤ z_47 ∧ z_47 ≤ K := h_47
        have hb_47 := h_47.2 80 (by omega) (hR8)
        have ex47 : z_47 = u.1.2.1 8 i.toNat := by rw [h_47.1]; exact if_pos (by rw [rl8]; omega)
        refine j_uWv SS (As := [.int (J z_36), .int (J z_47)]) (rest := []) (c_X8_append l D q (sY (sX (sC u 3 n1) 3 f1) 3 g1) A (cW_D hD) 3 (by omega) z_36 z_47 (show 0 ≤ n1 ∧ n1 ≤ rl 3 from (by omega))) mu_7_append kw_465 hG hP hP (ci := 7) (q0 := (9 + 5 * 3)) rfl (cw_ring (by omega)) rfl hS (fun _ h => h) rfl hl.1 ⟨⟨Nat.le_of_ble_eq_true rfl, Nat.le_of_ble_eq_true rfl⟩, Nat.le_of_ble_eq_true rfl, Nat.le_refl _, Nat.le_refl _⟩ rfl dX11_remake_50 (fun u50 H locs h_50 hP _ hS => ?_)
        obtain ⟨f_50, g_50, n_50, rfl, h_50⟩ := h_50
        have hP : va_P D.1 j_cl (cW D q (sY (sX (sC u 3 n_50) 3 f_50) 3 g_50)) H := hP
        have h_50 : (n1 < rl 3 ∧ f_50 = upI (f1) (n1).toNat z_36 ∧ g_50 = upI (g1) (n1).toNat z_47 ∧ n_50 = n1 + 1) ∨ (rl 3 ≤ n1 ∧ f_50 = f1 ∧ g_50 = g1 ∧ n_50 = n1) := h_50
        refine lv_iinc (v := J (i + 1)) (lv' := [(2, .int (J (i + 1))), (0, .ref (q 0)), (1, .ref (q (8 + 5 * 3)))]) SS.1 SS.2.1 dX11_remake_53 hl (k := 2) rfl (J_add _ _) (by decide) rfl (fun ls hl => ?_)
        refine lv_goto (tgt := 10) SS.1 SS.2.1 dX11_remake_56 (by decide) ?_
        exact ih_10 (i + 1) n_50 f_50 g_50 _ _ hP hS ls (lv_sub hl [1, 2, 0] rfl) (by rcases h_50 with q | q; omega; omega) ((ap_b (m := 24) (n0 := n1) (x := z_36) (y := z_47) i10_1 (by omega) (by omega) (by omega) (by rw [hrk] at h_50; exact h_50)).2) (fun j hj => by rcases h_50 with ⟨q0, q1, q2, q3⟩ | q; (rw [q1, q2]; by_cases e : (j : Int) = i; (rw [show j = n1.toNat by omega, upI_s, upI_s, ex36, ex47]; rw [show i.toNat = n1.toNat by omega]; exact ⟨rfl, rfl⟩); (rw [upI_n (by omega), upI_n (by omega)]; exact i10_2 j (by omega))); omega) (by omega)
  exact L_10 ((u.1.2.2.1 8 - (0 : Int)).toNat + 1) 0 0 (u.1.1 3) (u.1.2.1 3) _ _ hP hS ls (lv_sub hl [1, 2, 0] rfl) (by omega) (hRk.2) (fun j hj => by omega) (Nat.lt_succ_self _)

set_option maxHeartbeats 4000000 in
set_option maxRecDepth 100000 in
theorem c_X11_remake_4 (l : Launch) (D : JD) (q : Nat → Nat) (u : CS) (A : Nat → Prop) (hD : va_D A (cW D q u)) (p0 : CI u) (p1 : u.1.2.2.1 8 ≤ 24) (p2 : bd 40 (u.1.1 8) (u.1.2.1 8) (u.1.2.2.1 8)) : Met l yX11_remake (jw yX11_remake cX11_remake 3 none) (jr 1 23) (jP [.ref (q 0), .ref (q (8 + 5 * 4))] D (fun H => va_P D.1 j_cl (cW D q u) H)) (jWv (fun u' => ∃ n : Int, ∃ f : Nat → Int, ∃ g : Nat → Int, ∃ hh : Nat → Int, ∃ tt : Int, ∃ st0 : Int, u' = (sY (sX (sV (sT (sH (sC u 4 n) 4 hh) 4 tt) 0 st0) 4 f) 4 g) ∧ (CI u' ∧ n = u.1.2.2.1 8 ∧ ∀ j : Nat, (j : Int) < n → f j = u.1.1 8 j ∧ g j = u.1.2.1 8 j)) (fun u' H => va_P D.1 j_cl (cW D q u') H) A) 0 0 A := by
  refine Met.ofW (cc := cX11_remake) (maxL := 3) (ret := none) (by decide) rfl ?_
  intro pr en st mi args below meth co s₁ B hml hv
  obtain ⟨rfl, hG, hP⟩ := hv
  have hr := B.returns
  have hlk := B.notSynchronized
  have SS : jS pr mi co cX11_remake 3 st _ RX11 := ⟨B.exec, B.bytes, hml, findClass_of_methodNamed B.named, fun w hw => atoms_spec (ws := (jw yX11_remake cX11_remake 3 none)) B.pre w (List.mem_cons_of_mem _ hw)⟩
  have hl := lv_entry ([.ref (q 0), .ref (q (8 + 5 * 4))]) (n := 3) (Nat.le_of_ble_eq_true rfl)
  rw [lg_entry_eq]
  generalize (lg_sl ([.ref (q 0), .ref (q (8 + 5 * 4))]) ++ List.replicate (3 - (lg_sl ([.ref (q 0), .ref (q (8 + 5 * 4))])).length) Slot.unset).toArray = ls at hl ⊢
  have hl : lv_has ls 3 [(0, .ref (q 0)), (1, .ref (q (8 + 5 * 4)))] := hl
  have hS : va_S A st.heap st.heap [] := va_S.rf
  have hR8 : RB 80 u 8 := p0.2.1.1
  have hRk := CI_40 p0 (show 4 < 8 by omega)
  have hc8 := hR8.1
  have hr8 := rl8
  rw [rl8] at hc8
  have hrk : (rl 4 : Int) = 24 := rfl
  have hHk := (p0.1 4 (by omega)).2.1
  refine lv_aload_n SS.1 SS.2.1 dX11_remake_0 rfl (lv_at hl 1 rfl) ?_
  refine j_get SS hG hP (8 + 5 * 4) (v := .ref (q (9 + 5 * 4))) (C := RX10) (T := TX10) (N := 3) (cw_shape (by omega)) rfl inX10 0 (by decide) (ref := "GridPolygons$Shape") kw_151 rfl rfl dX11_remake_1 ?_
  refine j_iconst SS dX11_remake_4 ?_
  refine j_putS SS hG hP (cW_D hD) hS (9 + 5 * 4) (v := .int (J 0)) (ty := .int) (C := RX7) (T := TX7) (N := 3) (cw_ring (by omega)) rfl inX7 tyX7 tyX7_ok nmX7 2 (by decide) (ref := "GridPolygons$Ring") kw_135 kw_132 rfl (by decide +kernel) rfl rfl (Nat.le_of_ble_eq_true rfl) dX11_remake_5 (ws' := (cW D q (sC u 4 0))) (cs_ring (by omega)) (fun H locs hP hS => ?_)
  refine j_iconst SS dX11_remake_8 ?_
  refine lv_istore_n (lv' := [(2, .int (J 0)), (0, .ref (q 0)), (1, .ref (q (8 + 5 * 4)))]) SS.1 SS.2.1 dX11_remake_9 rfl hl (by decide) rfl (fun ls hl => ?_)
  have L_10 : ∀ (nn : Nat) (i : Int) (n1 : Int) (f1 : Nat → Int) (g1 : Nat → Int) (H : Heap) (locs : List Loc) (hP : va_P D.1 j_cl (cW D q (sY (sX (sC u 4 n1) 4 f1) 4 g1)) H) (hS : va_S A st.heap H locs) (ls : Array Slot) (hl : lv_has ls 3 [(0, .ref (q 0)), (1, .ref (q (8 + 5 * 4))), (2, .int (J i))]) (i10_0 : (0 ≤ i ∧ i ≤ u.1.2.2.1 8) ∧ n1 = i) (i10_1 : RV 40 f1 g1) (i10_2 : ∀ j : Nat, (j : Int) < i → f1 j = u.1.1 8 j ∧ g1 j = u.1.2.1 8 j), (u.1.2.2.1 8 - i).toNat < nn → W pr l en (headSpec (jw yX11_remake cX11_remake 3 none) (jr 1 23)).room st mi (([.ref (q 0), .ref (q (8 + 5 * 4))] : List Value).toArray) below meth co H locs 0 0 (MQ below (jWv (fun u' => ∃ n : Int, ∃ f : Nat → Int, ∃ g : Nat → Int, ∃ hh : Nat → Int, ∃ tt : Int, ∃ st0 : Int, u' = (sY (sX (sV (sT (sH (sC u 4 n) 4 hh) 4 tt) 0 st0) 4 f) 4 g) ∧ (CI u' ∧ n = u.1.2.2.1 8 ∧ ∀ j : Nat, (j : Int) < n → f j = u.1.1 8 j ∧ g j = u.1.2.1 8 j)) (fun u' H => va_P D.1 j_cl (cW D q u') H) A) (([.ref (q 0), .ref (q (8 + 5 * 4))] : List Value).toArray) st 0 0 A) (F0 mi 10 ls []) := by
    intro nn
    induction nn with
    | zero => intros; omega
    | succ nn ih_10 =>
      intro i n1 f1 g1 H locs hP hS ls hl i10_0 i10_1 i10_2 hm
      refine lv_iload_n SS.1 SS.2.1 dX11_remake_10 rfl (lv_at hl 2 rfl) ?_
      refine lv_aload_n SS.1 SS.2.1 dX11_remake_11 rfl (lv_at hl 0 rfl) ?_
      refine j_get SS hG hP 0 (v := .ref (q 2)) (C := RX11) (T := TX11) (N := 8) rfl rfl inX11 1 (by decide) (ref := "GridPolygons") kw_386 rfl rfl dX11_remake_12 ?_
      refine j_get SS hG hP 2 (v := .ref (q (9 + 5 * 8))) (C := RX3) (T := TX3) (N := 3) rfl rfl inX3 2 (by decide) (ref := "GridPolygons$Hull") kw_180 rfl rfl dX11_remake_15 ?_
      refine j_getS SS hG hP (9 + 5 * 8) (v := .int (J (u.1.2.2.1 8))) (C := RX7) (T := TX7) (N := 3) (cw_ring (by omega)) rfl inX7 2 (by decide) (ref := "GridPolygons$Ring") kw_135 kw_132 rfl dX11_remake_18 ?_
      refine j_icmp_ge SS (tgt := 59) (x := i) (y := (u.1.2.2.1 8)) dX11_remake_21 (by decide) (by omega) (by omega) (fun c_21 => ?_) (fun c_21 => ?_)
      · skip
        refine lv_aload_n SS.1 SS.2.1 dX11_remake_59 rfl (lv_at hl 1 rfl) ?_
        refine j_get SS hG hP (8 + 5 * 4) (v := .ref (q (12 + 5 * 4))) (C := RX10) (T := TX10) (N := 3) (cw_shape (by omega)) rfl inX10 1 (by decide) (ref := "GridPolygons$Shape") kw_157 rfl rfl dX11_remake_60 ?_
        refine j_iconst SS dX11_remake_63 ?_
        refine j_sWv SS (As := [.ref (q (12 + 5 * 4)), .int (J 0)]) (rest := []) (c_J7_fill_53178 l D (ws := (cW D q (sY (sX (sC u 4 n1) 4 f1) 4 g1))) (A := A) (cW_D hD) (12 + 5 * 4) (0 : Int) (cw_hts (by omega)) (by first | decide | omega)) mf_J7_fill_53178 kw_466 hG hP hS (fun _ h => h) rfl hl.1 ⟨⟨Nat.le_of_ble_eq_true rfl, Nat.le_of_ble_eq_true rfl⟩, Nat.le_of_ble_eq_true rfl, Nat.le_refl _, Nat.le_refl _⟩ rfl dX11_remake_64 (fun _ H locs _ hP _ hS => ?_)
        have hP : va_P D.1 j_cl (cW D q (sY (sX (sH (sC u 4 n1) 4 (jf (u.1.2.2.2.1 4) (0 : Int) 40)) 4 f1) 4 g1)) H := Eq.mp (congrArg (fun w => va_P D.1 j_cl w H) (cs_hts (by omega))) hP
        refine lv_aload_n SS.1 SS.2.1 dX11_remake_67 rfl (lv_at hl 1 rfl) ?_
        refine lv_aload_n SS.1 SS.2.1 dX11_remake_68 rfl (lv_at hl 0 rfl) ?_
        refine j_vWi SS (As := []) (rest := [.ref (q (8 + 5 * 4))]) (c_X11_newStamp l D q (sY (sX (sH (sC u 4 n1) 4 (jf (u.1.2.2.2.1 4) (0 : Int) 40)) 4 f1) 4 g1) A (cW_D hD)   ) mf_X11_newStamp kw_467 hG hP hP (ci := 11) (q0 := 0) rfl rfl rfl hS (fun _ h => h) rfl hl.1 ⟨⟨Nat.le_of_ble_eq_true rfl, Nat.le_of_ble_eq_true rfl⟩, Nat.le_of_ble_eq_true rfl, Nat.le_refl _, Nat.le_refl _⟩ rfl dX11_remake_69 (fun z_69 u69 H locs h_69 hP _ hS => ?_)
        obtain ⟨t_69, rfl, h_69⟩ := h_69
        have hP : va_P D.1 j_cl (cW D q (sY (sX (sV (sH (sC u 4 n1) 4 (jf (u.1.2.2.2.1 4) (0 : Int) 40)) 0 t_69) 4 f1) 4 g1)) H := hP
        have h_69 : z_69 = t_69 ∧ -2147483648 ≤ t_69 ∧ t_69 ≤ 2147483647 := h_69
        refine j_put SS hG hP (cW_D hD) hS (8 + 5 * 4) (v := .int (J z_69)) (ty := .int) (C := RX10) (T := TX10) (N := 3) (cw_shape (by omega)) rfl inX10 tyX10 tyX10_ok nmX10 2 (by decide) (ref := "GridPolygons$Shape") kw_161 rfl rfl (by decide +kernel) rfl rfl (Nat.le_of_ble_eq_true rfl) dX11_remake_72 (ws' := (cW D q (sY (sX (sV (sT (sH (sC u 4 n1) 4 (jf (u.1.2.2.2.1 4) (0 : Int) 40)) 4 z_69) 0 t_69) 4 f1) 4 g1))) (cs_shape (by omega)) (fun H locs hP hS => ?_)
        exact W.vret SS.1 SS.2.1 hr (fun t0 ht hW => ⟨⟨(sY (sX (sV (sT (sH (sC u 4 n1) 4 (jf (u.1.2.2.2.1 4) (0 : Int) 40)) 4 z_69) 0 t_69) 4 f1) 4 g1), rfl, (⟨n1, f1, g1, (jf (u.1.2.2.2.1 4) (0 : Int) 40), z_69, t_69, rfl, ⟨CI_sh p0 (by omega) (by omega) i10_1 (HB_f hHk) (by omega) (by omega), by omega, fun j hj => i10_2 j (by omega)⟩⟩), by show va_P D.1 j_cl (cW D q (sY (sX (sV (sT (sH (sC u 4 n1) 4 (jf (u.1.2.2.2.1 4) (0 : Int) 40)) 4 z_69) 0 t_69) 4 f1) 4 g1)) t0.heap; rw [ht]; first | exact hP | (simp only [sC_id, sX_id, sY_id, sH_id, sT_id, sV_id]; exact hP)⟩, hS.F ht⟩) hS.2.2 dX11_remake_75 hlk
      · skip
        refine lv_aload_n SS.1 SS.2.1 dX11_remake_24 rfl (lv_at hl 1 rfl) ?_
        refine j_get SS hG hP (8 + 5 * 4) (v := .ref (q (9 + 5 * 4))) (C := RX10) (T := TX10) (N := 3) (cw_shape (by omega)) rfl inX10 0 (by decide) (ref := "GridPolygons$Shape") kw_151 rfl rfl dX11_remake_25 ?_
        refine lv_aload_n SS.1 SS.2.1 dX11_remake_28 rfl (lv_at hl 0 rfl) ?_
        refine j_get SS hG hP 0 (v := .ref (q 2)) (C := RX11) (T := TX11) (N := 8) rfl rfl inX11 1 (by decide) (ref := "GridPolygons") kw_386 rfl rfl dX11_remake_29 ?_
        refine j_get SS hG hP 2 (v := .ref (q (9 + 5 * 8))) (C := RX3) (T := TX3) (N := 3) rfl rfl inX3 2 (by decide) (ref := "GridPolygons$Hull") kw_180 rfl rfl dX11_remake_32 ?_
        refine lv_iload_n SS.1 SS.2.1 dX11_remake_35 rfl (lv_at hl 2 rfl) ?_
        refine j_uRi SS (As := [.int (J i)]) (rest := [.ref (q (9 + 5 * 4))]) (c_X8_x l D q (sY (sX (sC u 4 n1) 4 f1) 4 g1) 8 (by omega) i (show -2147483648 ≤ i ∧ i ≤ 2147483647 from (by omega))) mu_7_x kw_463 hG hP hP (ci := 7) (q0 := (9 + 5 * 8)) rfl (cw_ring (by omega)) rfl rfl hl.1 ⟨⟨Nat.le_of_ble_eq_true rfl, Nat.le_of_ble_eq_true rfl⟩, Nat.le_of_ble_eq_true rfl, Nat.le_refl _, Nat.le_refl _⟩ rfl dX11_remake_36 (fun z_36 h_36 => ?_)
        have h_36 : z_36 = rx (sY (sX (sC u 4 n1) 4 f1) 4 g1) 8 i ∧ ∀ K : Int, 0 ≤ K → RB K (sY (sX (sC u 4 n1) 4 f1) 4 g1) 8 → -K ≤ z_36 ∧ z_36 ≤ K := h_36
        have hb_36 := h_36.2 80 (by omega) (hR8)
        have ex36 : z_36 = u.1.1 8 i.toNat := by rw [h_36.1]; exact if_pos (by rw [rl8]; omega)
        have hq := bd_at p2 (z := i) (by omega) (by omega)
        refine lv_aload_n SS.1 SS.2.1 dX11_remake_39 rfl (lv_at hl 0 rfl) ?_
        refine j_get SS hG hP 0 (v := .ref (q 2)) (C := RX11) (T := TX11) (N := 8) rfl rfl inX11 1 (by decide) (ref := "GridPolygons") kw_386 rfl rfl dX11_remake_40 ?_
        refine j_get SS hG hP 2 (v := .ref (q (9 + 5 * 8))) (C := RX3) (T := TX3) (N := 3) rfl rfl inX3 2 (by decide) (ref := "GridPolygons$Hull") kw_180 rfl rfl dX11_remake_43 ?_
        refine lv_iload_n SS.1 SS.2.1 dX11_remake_46 rfl (lv_at hl 2 rfl) ?_
        refine j_uRi SS (As := [.int (J i)]) (rest := [.int (J z_36), .ref (q (9 + 5 * 4))]) (c_X8_y l D q (sY (sX (sC u 4 n1) 4 f1) 4 g1) 8 (by omega) i (show -2147483648 ≤ i ∧ i ≤ 2147483647 from (by omega))) mu_7_y kw_464 hG hP hP (ci := 7) (q0 := (9 + 5 * 8)) rfl (cw_ring (by omega)) rfl rfl hl.1 ⟨⟨Nat.le_of_ble_eq_true rfl, Nat.le_of_ble_eq_true rfl⟩, Nat.le_of_ble_eq_true rfl, Nat.le_refl _, Nat.le_refl _⟩ rfl dX11_remake_47 (fun z_47 h_47 => ?_)
        have h_47 : z_47 = ry9 (sY (sX (sC u 4 n1) 4 f1) 4 g1) 8 i ∧ ∀ K : Int, 0 ≤ K → RB K (sY (sX (sC u 4 n1) 4 f1) 4 g1) 8 → -K ≤ z_47 ∧ z_47 ≤ K := h_47
        have hb_47 := h_47.2 80 (by omega) (hR8)
        have ex47 : z_47 = u.1.2.1 8 i.toNat := by rw [h_47.1]; exact if_pos (by rw [rl8]; omega)
        refine j_uWv SS (As := [.int (J z_36), .int (J z_47)]) (rest := []) (c_X8_append l D q (sY (sX (sC u 4 n1) 4 f1) 4 g1) A (cW_D hD) 4 (by omega) z_36 z_47 (show 0 ≤ n1 ∧ n1 ≤ rl 4 from (by omega))) mu_7_append kw_465 hG hP hP (ci := 7) (q0 := (9 + 5 * 4)) rfl (cw_ring (by omega)) rfl hS (fun _ h => h) rfl hl.1 ⟨⟨Nat.le_of_ble_eq_true rfl, Nat.le_of_ble_eq_true rfl⟩, Nat.le_of_ble_eq_true rfl, Nat.le_refl _, Nat.le_refl _⟩ rfl dX11_remake_50 (fun u50 H locs h_50 hP _ hS => ?_)
        obtain ⟨f_50, g_50, n_50, rfl, h_50⟩ := h_50
        have hP : va_P D.1 j_cl (cW D q (sY (sX (sC u 4 n_50) 4 f_50) 4 g_50)) H := hP
        have h_50 : (n1 < rl 4 ∧ f_50 = upI (f1) (n1).toNat z_36 ∧ g_50 = upI (g1) (n1).toNat z_47 ∧ n_50 = n1 + 1) ∨ (rl 4 ≤ n1 ∧ f_50 = f1 ∧ g_50 = g1 ∧ n_50 = n1) := h_50
        refine lv_iinc (v := J (i + 1)) (lv' := [(2, .int (J (i + 1))), (0, .ref (q 0)), (1, .ref (q (8 + 5 * 4)))]) SS.1 SS.2.1 dX11_remake_53 hl (k := 2) rfl (J_add _ _) (by decide) rfl (fun ls hl => ?_)
        refine lv_goto (tgt := 10) SS.1 SS.2.1 dX11_remake_56 (by decide) ?_
        exact ih_10 (i + 1) n_50 f_50 g_50 _ _ hP hS ls (lv_sub hl [1, 2, 0] rfl) (by rcases h_50 with q | q; omega; omega) ((ap_b (m := 24) (n0 := n1) (x := z_36) (y := z_47) i10_1 (by omega) (by omega) (by omega) (by rw [hrk] at h_50; exact h_50)).2) (fun j hj => by rcases h_50 with ⟨q0, q1, q2, q3⟩ | q; (rw [q1, q2]; by_cases e : (j : Int) = i; (rw [show j = n1.toNat by omega, upI_s, upI_s, ex36, ex47]; rw [show i.toNat = n1.toNat by omega]; exact ⟨rfl, rfl⟩); (rw [upI_n (by omega), upI_n (by omega)]; exact i10_2 j (by omega))); omega) (by omega)
  exact L_10 ((u.1.2.2.1 8 - (0 : Int)).toNat + 1) 0 0 (u.1.1 4) (u.1.2.1 4) _ _ hP hS ls (lv_sub hl [1, 2, 0] rfl) (by omega) (hRk.2) (fun j hj => by omega) (Nat.lt_succ_self _)

set_option maxHeartbeats 4000000 in
set_option maxRecDepth 100000 in
theorem c_X11_remake_5 (l : Launch) (D : JD) (q : Nat → Nat) (u : CS) (A : Nat → Prop) (hD : va_D A (cW D q u)) (p0 : CI u) (p1 : u.1.2.2.1 8 ≤ 24) (p2 : bd 40 (u.1.1 8) (u.1.2.1 8) (u.1.2.2.1 8)) : Met l yX11_remake (jw yX11_remake cX11_remake 3 none) (jr 1 23) (jP [.ref (q 0), .ref (q (8 + 5 * 5))] D (fun H => va_P D.1 j_cl (cW D q u) H)) (jWv (fun u' => ∃ n : Int, ∃ f : Nat → Int, ∃ g : Nat → Int, ∃ hh : Nat → Int, ∃ tt : Int, ∃ st0 : Int, u' = (sY (sX (sV (sT (sH (sC u 5 n) 5 hh) 5 tt) 0 st0) 5 f) 5 g) ∧ (CI u' ∧ n = u.1.2.2.1 8 ∧ ∀ j : Nat, (j : Int) < n → f j = u.1.1 8 j ∧ g j = u.1.2.1 8 j)) (fun u' H => va_P D.1 j_cl (cW D q u') H) A) 0 0 A := by
  refine Met.ofW (cc := cX11_remake) (maxL := 3) (ret := none) (by decide) rfl ?_
  intro pr en st mi args below meth co s₁ B hml hv
  obtain ⟨rfl, hG, hP⟩ := hv
  have hr := B.returns
  have hlk := B.notSynchronized
  have SS : jS pr mi co cX11_remake 3 st _ RX11 := ⟨B.exec, B.bytes, hml, findClass_of_methodNamed B.named, fun w hw => atoms_spec (ws := (jw yX11_remake cX11_remake 3 none)) B.pre w (List.mem_cons_of_mem _ hw)⟩
  have hl := lv_entry ([.ref (q 0), .ref (q (8 + 5 * 5))]) (n := 3) (Nat.le_of_ble_eq_true rfl)
  rw [lg_entry_eq]
  generalize (lg_sl ([.ref (q 0), .ref (q (8 + 5 * 5))]) ++ List.replicate (3 - (lg_sl ([.ref (q 0), .ref (q (8 + 5 * 5))])).length) Slot.unset).toArray = ls at hl ⊢
  have hl : lv_has ls 3 [(0, .ref (q 0)), (1, .ref (q (8 + 5 * 5)))] := hl
  have hS : va_S A st.heap st.heap [] := va_S.rf
  have hR8 : RB 80 u 8 := p0.2.1.1
  have hRk := CI_40 p0 (show 5 < 8 by omega)
  have hc8 := hR8.1
  have hr8 := rl8
  rw [rl8] at hc8
  have hrk : (rl 5 : Int) = 24 := rfl
  have hHk := (p0.1 5 (by omega)).2.1
  refine lv_aload_n SS.1 SS.2.1 dX11_remake_0 rfl (lv_at hl 1 rfl) ?_
  refine j_get SS hG hP (8 + 5 * 5) (v := .ref (q (9 + 5 * 5))) (C := RX10) (T := TX10) (N := 3) (cw_shape (by omega)) rfl inX10 0 (by decide) (ref := "GridPolygons$Shape") kw_151 rfl rfl dX11_remake_1 ?_
  refine j_iconst SS dX11_remake_4 ?_
  refine j_putS SS hG hP (cW_D hD) hS (9 + 5 * 5) (v := .int (J 0)) (ty := .int) (C := RX7) (T := TX7) (N := 3) (cw_ring (by omega)) rfl inX7 tyX7 tyX7_ok nmX7 2 (by decide) (ref := "GridPolygons$Ring") kw_135 kw_132 rfl (by decide +kernel) rfl rfl (Nat.le_of_ble_eq_true rfl) dX11_remake_5 (ws' := (cW D q (sC u 5 0))) (cs_ring (by omega)) (fun H locs hP hS => ?_)
  refine j_iconst SS dX11_remake_8 ?_
  refine lv_istore_n (lv' := [(2, .int (J 0)), (0, .ref (q 0)), (1, .ref (q (8 + 5 * 5)))]) SS.1 SS.2.1 dX11_remake_9 rfl hl (by decide) rfl (fun ls hl => ?_)
  have L_10 : ∀ (nn : Nat) (i : Int) (n1 : Int) (f1 : Nat → Int) (g1 : Nat → Int) (H : Heap) (locs : List Loc) (hP : va_P D.1 j_cl (cW D q (sY (sX (sC u 5 n1) 5 f1) 5 g1)) H) (hS : va_S A st.heap H locs) (ls : Array Slot) (hl : lv_has ls 3 [(0, .ref (q 0)), (1, .ref (q (8 + 5 * 5))), (2, .int (J i))]) (i10_0 : (0 ≤ i ∧ i ≤ u.1.2.2.1 8) ∧ n1 = i) (i10_1 : RV 40 f1 g1) (i10_2 : ∀ j : Nat, (j : Int) < i → f1 j = u.1.1 8 j ∧ g1 j = u.1.2.1 8 j), (u.1.2.2.1 8 - i).toNat < nn → W pr l en (headSpec (jw yX11_remake cX11_remake 3 none) (jr 1 23)).room st mi (([.ref (q 0), .ref (q (8 + 5 * 5))] : List Value).toArray) below meth co H locs 0 0 (MQ below (jWv (fun u' => ∃ n : Int, ∃ f : Nat → Int, ∃ g : Nat → Int, ∃ hh : Nat → Int, ∃ tt : Int, ∃ st0 : Int, u' = (sY (sX (sV (sT (sH (sC u 5 n) 5 hh) 5 tt) 0 st0) 5 f) 5 g) ∧ (CI u' ∧ n = u.1.2.2.1 8 ∧ ∀ j : Nat, (j : Int) < n → f j = u.1.1 8 j ∧ g j = u.1.2.1 8 j)) (fun u' H => va_P D.1 j_cl (cW D q u') H) A) (([.ref (q 0), .ref (q (8 + 5 * 5))] : List Value).toArray) st 0 0 A) (F0 mi 10 ls []) := by
    intro nn
    induction nn with
    | zero => intros; omega
    | succ nn ih_10 =>
      intro i n1 f1 g1 H locs hP hS ls hl i10_0 i10_1 i10_2 hm
      refine lv_iload_n SS.1 SS.2.1 dX11_remake_10 rfl (lv_at hl 2 rfl) ?_
      refine lv_aload_n SS.1 SS.2.1 dX11_remake_11 rfl (lv_at hl 0 rfl) ?_
      refine j_get SS hG hP 0 (v := .ref (q 2)) (C := RX11) (T := TX11) (N := 8) rfl rfl inX11 1 (by decide) (ref := "GridPolygons") kw_386 rfl rfl dX11_remake_12 ?_
      refine j_get SS hG hP 2 (v := .ref (q (9 + 5 * 8))) (C := RX3) (T := TX3) (N := 3) rfl rfl inX3 2 (by decide) (ref := "GridPolygons$Hull") kw_180 rfl rfl dX11_remake_15 ?_
      refine j_getS SS hG hP (9 + 5 * 8) (v := .int (J (u.1.2.2.1 8))) (C := RX7) (T := TX7) (N := 3) (cw_ring (by omega)) rfl inX7 2 (by decide) (ref := "GridPolygons$Ring") kw_135 kw_132 rfl dX11_remake_18 ?_
      refine j_icmp_ge SS (tgt := 59) (x := i) (y := (u.1.2.2.1 8)) dX11_remake_21 (by decide) (by omega) (by omega) (fun c_21 => ?_) (fun c_21 => ?_)
      · skip
        refine lv_aload_n SS.1 SS.2.1 dX11_remake_59 rfl (lv_at hl 1 rfl) ?_
        refine j_get SS hG hP (8 + 5 * 5) (v := .ref (q (12 + 5 * 5))) (C := RX10) (T := TX10) (N := 3) (cw_shape (by omega)) rfl inX10 1 (by decide) (ref := "GridPolygons$Shape") kw_157 rfl rfl dX11_remake_60 ?_
        refine j_iconst SS dX11_remake_63 ?_
        refine j_sWv SS (As := [.ref (q (12 + 5 * 5)), .int (J 0)]) (rest := []) (c_J7_fill_53178 l D (ws := (cW D q (sY (sX (sC u 5 n1) 5 f1) 5 g1))) (A := A) (cW_D hD) (12 + 5 * 5) (0 : Int) (cw_hts (by omega)) (by first | decide | omega)) mf_J7_fill_53178 kw_466 hG hP hS (fun _ h => h) rfl hl.1 ⟨⟨Nat.le_of_ble_eq_true rfl, Nat.le_of_ble_eq_true rfl⟩, Nat.le_of_ble_eq_true rfl, Nat.le_refl _, Nat.le_refl _⟩ rfl dX11_remake_64 (fun _ H locs _ hP _ hS => ?_)
        have hP : va_P D.1 j_cl (cW D q (sY (sX (sH (sC u 5 n1) 5 (jf (u.1.2.2.2.1 5) (0 : Int) 40)) 5 f1) 5 g1)) H := Eq.mp (congrArg (fun w => va_P D.1 j_cl w H) (cs_hts (by omega))) hP
        refine lv_aload_n SS.1 SS.2.1 dX11_remake_67 rfl (lv_at hl 1 rfl) ?_
        refine lv_aload_n SS.1 SS.2.1 dX11_remake_68 rfl (lv_at hl 0 rfl) ?_
        refine j_vWi SS (As := []) (rest := [.ref (q (8 + 5 * 5))]) (c_X11_newStamp l D q (sY (sX (sH (sC u 5 n1) 5 (jf (u.1.2.2.2.1 5) (0 : Int) 40)) 5 f1) 5 g1) A (cW_D hD)   ) mf_X11_newStamp kw_467 hG hP hP (ci := 11) (q0 := 0) rfl rfl rfl hS (fun _ h => h) rfl hl.1 ⟨⟨Nat.le_of_ble_eq_true rfl, Nat.le_of_ble_eq_true rfl⟩, Nat.le_of_ble_eq_true rfl, Nat.le_refl _, Nat.le_refl _⟩ rfl dX11_remake_69 (fun z_69 u69 H locs h_69 hP _ hS => ?_)
        obtain ⟨t_69, rfl, h_69⟩ := h_69
        have hP : va_P D.1 j_cl (cW D q (sY (sX (sV (sH (sC u 5 n1) 5 (jf (u.1.2.2.2.1 5) (0 : Int) 40)) 0 t_69) 5 f1) 5 g1)) H := hP
        have h_69 : z_69 = t_69 ∧ -2147483648 ≤ t_69 ∧ t_69 ≤ 2147483647 := h_69
        refine j_put SS hG hP (cW_D hD) hS (8 + 5 * 5) (v := .int (J z_69)) (ty := .int) (C := RX10) (T := TX10) (N := 3) (cw_shape (by omega)) rfl inX10 tyX10 tyX10_ok nmX10 2 (by decide) (ref := "GridPolygons$Shape") kw_161 rfl rfl (by decide +kernel) rfl rfl (Nat.le_of_ble_eq_true rfl) dX11_remake_72 (ws' := (cW D q (sY (sX (sV (sT (sH (sC u 5 n1) 5 (jf (u.1.2.2.2.1 5) (0 : Int) 40)) 5 z_69) 0 t_69) 5 f1) 5 g1))) (cs_shape (by omega)) (fun H locs hP hS => ?_)
        exact W.vret SS.1 SS.2.1 hr (fun t0 ht hW => ⟨⟨(sY (sX (sV (sT (sH (sC u 5 n1) 5 (jf (u.1.2.2.2.1 5) (0 : Int) 40)) 5 z_69) 0 t_69) 5 f1) 5 g1), rfl, (⟨n1, f1, g1, (jf (u.1.2.2.2.1 5) (0 : Int) 40), z_69, t_69, rfl, ⟨CI_sh p0 (by omega) (by omega) i10_1 (HB_f hHk) (by omega) (by omega), by omega, fun j hj => i10_2 j (by omega)⟩⟩), by show va_P D.1 j_cl (cW D q (sY (sX (sV (sT (sH (sC u 5 n1) 5 (jf (u.1.2.2.2.1 5) (0 : Int) 40)) 5 z_69) 0 t_69) 5 f1) 5 g1)) t0.heap; rw [ht]; first | exact hP | (simp only [sC_id, sX_id, sY_id, sH_id, sT_id, sV_id]; exact hP)⟩, hS.F ht⟩) hS.2.2 dX11_remake_75 hlk
      · skip
        refine lv_aload_n SS.1 SS.2.1 dX11_remake_24 rfl (lv_at hl 1 rfl) ?_
        refine j_get SS hG hP (8 + 5 * 5) (v := .ref (q (9 + 5 * 5))) (C := RX10) (T := TX10) (N := 3) (cw_shape (by omega)) rfl inX10 0 (by decide) (ref := "GridPolygons$Shape") kw_151 rfl rfl dX11_remake_25 ?_
        refine lv_aload_n SS.1 SS.2.1 dX11_remake_28 rfl (lv_at hl 0 rfl) ?_
        refine j_get SS hG hP 0 (v := .ref (q 2)) (C := RX11) (T := TX11) (N := 8) rfl rfl inX11 1 (by decide) (ref := "GridPolygons") kw_386 rfl rfl dX11_remake_29 ?_
        refine j_get SS hG hP 2 (v := .ref (q (9 + 5 * 8))) (C := RX3) (T := TX3) (N := 3) rfl rfl inX3 2 (by decide) (ref := "GridPolygons$Hull") kw_180 rfl rfl dX11_remake_32 ?_
        refine lv_iload_n SS.1 SS.2.1 dX11_remake_35 rfl (lv_at hl 2 rfl) ?_
        refine j_uRi SS (As := [.int (J i)]) (rest := [.ref (q (9 + 5 * 5))]) (c_X8_x l D q (sY (sX (sC u 5 n1) 5 f1) 5 g1) 8 (by omega) i (show -2147483648 ≤ i ∧ i ≤ 2147483647 from (by omega))) mu_7_x kw_463 hG hP hP (ci := 7) (q0 := (9 + 5 * 8)) rfl (cw_ring (by omega)) rfl rfl hl.1 ⟨⟨Nat.le_of_ble_eq_true rfl, Nat.le_of_ble_eq_true rfl⟩, Nat.le_of_ble_eq_true rfl, Nat.le_refl _, Nat.le_refl _⟩ rfl dX11_remake_36 (fun z_36 h_36 => ?_)
        have h_36 : z_36 = rx (sY (sX (sC u 5 n1) 5 f1) 5 g1) 8 i ∧ ∀ K : Int, 0 ≤ K → RB K (sY (sX (sC u 5 n1) 5 f1) 5 g1) 8 → -K ≤ z_36 ∧ z_36 ≤ K := h_36
        have hb_36 := h_36.2 80 (by omega) (hR8)
        have ex36 : z_36 = u.1.1 8 i.toNat := by rw [h_36.1]; exact if_pos (by rw [rl8]; omega)
        have hq := bd_at p2 (z := i) (by omega) (by omega)
        refine lv_aload_n SS.1 SS.2.1 dX11_remake_39 rfl (lv_at hl 0 rfl) ?_
        refine j_get SS hG hP 0 (v := .ref (q 2)) (C := RX11) (T := TX11) (N := 8) rfl rfl inX11 1 (by decide) (ref := "GridPolygons") kw_386 rfl rfl dX11_remake_40 ?_
        refine j_get SS hG hP 2 (v := .ref (q (9 + 5 * 8))) (C := RX3) (T := TX3) (N := 3) rfl rfl inX3 2 (by decide) (ref := "GridPolygons$Hull") kw_180 rfl rfl dX11_remake_43 ?_
        refine lv_iload_n SS.1 SS.2.1 dX11_remake_46 rfl (lv_at hl 2 rfl) ?_
        refine j_uRi SS (As := [.int (J i)]) (rest := [.int (J z_36), .ref (q (9 + 5 * 5))]) (c_X8_y l D q (sY (sX (sC u 5 n1) 5 f1) 5 g1) 8 (by omega) i (show -2147483648 ≤ i ∧ i ≤ 2147483647 from (by omega))) mu_7_y kw_464 hG hP hP (ci := 7) (q0 := (9 + 5 * 8)) rfl (cw_ring (by omega)) rfl rfl hl.1 ⟨⟨Nat.le_of_ble_eq_true rfl, Nat.le_of_ble_eq_true rfl⟩, Nat.le_of_ble_eq_true rfl, Nat.le_refl _, Nat.le_refl _⟩ rfl dX11_remake_47 (fun z_47 h_47 => ?_)
        have h_47 : z_47 = ry9 (sY (sX (sC u 5 n1) 5 f1) 5 g1) 8 i ∧ ∀ K : Int, 0 ≤ K → RB K (sY (sX (sC u 5 n1) 5 f1) 5 g1) 8 → -K ≤ z_47 ∧ z_47 ≤ K := h_47
        have hb_47 := h_47.2 80 (by omega) (hR8)
        have ex47 : z_47 = u.1.2.1 8 i.toNat := by rw [h_47.1]; exact if_pos (by rw [rl8]; omega)
        refine j_uWv SS (As := [.int (J z_36), .int (J z_47)]) (rest := []) (c_X8_append l D q (sY (sX (sC u 5 n1) 5 f1) 5 g1) A (cW_D hD) 5 (by omega) z_36 z_47 (show 0 ≤ n1 ∧ n1 ≤ rl 5 from (by omega))) mu_7_append kw_465 hG hP hP (ci := 7) (q0 := (9 + 5 * 5)) rfl (cw_ring (by omega)) rfl hS (fun _ h => h) rfl hl.1 ⟨⟨Nat.le_of_ble_eq_true rfl, Nat.le_of_ble_eq_true rfl⟩, Nat.le_of_ble_eq_true rfl, Nat.le_refl _, Nat.le_refl _⟩ rfl dX11_remake_50 (fun u50 H locs h_50 hP _ hS => ?_)
        obtain ⟨f_50, g_50, n_50, rfl, h_50⟩ := h_50
        have hP : va_P D.1 j_cl (cW D q (sY (sX (sC u 5 n_50) 5 f_50) 5 g_50)) H := hP
        have h_50 : (n1 < rl 5 ∧ f_50 = upI (f1) (n1).toNat z_36 ∧ g_50 = upI (g1) (n1).toNat z_47 ∧ n_50 = n1 + 1) ∨ (rl 5 ≤ n1 ∧ f_50 = f1 ∧ g_50 = g1 ∧ n_50 = n1) := h_50
        refine lv_iinc (v := J (i + 1)) (lv' := [(2, .int (J (i + 1))), (0, .ref (q 0)), (1, .ref (q (8 + 5 * 5)))]) SS.1 SS.2.1 dX11_remake_53 hl (k := 2) rfl (J_add _ _) (by decide) rfl (fun ls hl => ?_)
        refine lv_goto (tgt := 10) SS.1 SS.2.1 dX11_remake_56 (by decide) ?_
        exact ih_10 (i + 1) n_50 f_50 g_50 _ _ hP hS ls (lv_sub hl [1, 2, 0] rfl) (by rcases h_50 with q | q; omega; omega) ((ap_b (m := 24) (n0 := n1) (x := z_36) (y := z_47) i10_1 (by omega) (by omega) (by omega) (by rw [hrk] at h_50; exact h_50)).2) (fun j hj => by rcases h_50 with ⟨q0, q1, q2, q3⟩ | q; (rw [q1, q2]; by_cases e : (j : Int) = i; (rw [show j = n1.toNat by omega, upI_s, upI_s, ex36, ex47]; rw [show i.toNat = n1.toNat by omega]; exact ⟨rfl, rfl⟩); (rw [upI_n (by omega), upI_n (by omega)]; exact i10_2 j (by omega))); omega) (by omega)
  exact L_10 ((u.1.2.2.1 8 - (0 : Int)).toNat + 1) 0 0 (u.1.1 5) (u.1.2.1 5) _ _ hP hS ls (lv_sub hl [1, 2, 0] rfl) (by omega) (hRk.2) (fun j hj => by omega) (Nat.lt_succ_self _)

set_option maxHeartbeats 4000000 in
set_option maxRecDepth 100000 in
theorem c_X11_remake_6 (l : Launch) (D : JD) (q : Nat → Nat) (u : CS) (A : Nat → Prop) (hD : va_D A (cW D q u)) (p0 : CI u) (p1 : u.1.2.2.1 8 ≤ 24) (p2 : bd 40 (u.1.1 8) (u.1.2.1 8) (u.1.2.2.1 8)) : Met l yX11_remake (jw yX11_remake cX11_remake 3 none) (jr 1 23) (jP [.ref (q 0), .ref (q (8 + 5 * 6))] D (fun H => va_P D.1 j_cl (cW D q u) H)) (jWv (fun u' => ∃ n : Int, ∃ f : Nat → Int, ∃ g : Nat → Int, ∃ hh : Nat → Int, ∃ tt : Int, ∃ st0 : Int, u' = (sY (sX (sV (sT (sH (sC u 6 n) 6 hh) 6 tt) 0 st0) 6 f) 6 g) ∧ (CI u' ∧ n = u.1.2.2.1 8 ∧ ∀ j : Nat, (j : Int) < n → f j = u.1.1 8 j ∧ g j = u.1.2.1 8 j)) (fun u' H => va_P D.1 j_cl (cW D q u') H) A) 0 0 A := by
  refine Met.ofW (cc := cX11_remake) (maxL := 3) (ret := none) (by decide) rfl ?_
  intro pr en st mi args below meth co s₁ B hml hv
  obtain ⟨rfl, hG, hP⟩ := hv
  have hr := B.returns
  have hlk := B.notSynchronized
  have SS : jS pr mi co cX11_remake 3 st _ RX11 := ⟨B.exec, B.bytes, hml, findClass_of_methodNamed B.named, fun w hw => atoms_spec (ws := (jw yX11_remake cX11_remake 3 none)) B.pre w (List.mem_cons_of_mem _ hw)⟩
  have hl := lv_entry ([.ref (q 0), .ref (q (8 + 5 * 6))]) (n := 3) (Nat.le_of_ble_eq_true rfl)
  rw [lg_entry_eq]
  generalize (lg_sl ([.ref (q 0), .ref (q (8 + 5 * 6))]) ++ List.replicate (3 - (lg_sl ([.ref (q 0), .ref (q (8 + 5 * 6))])).length) Slot.unset).toArray = ls at hl ⊢
  have hl : lv_has ls 3 [(0, .ref (q 0)), (1, .ref (q (8 + 5 * 6)))] := hl
  have hS : va_S A st.heap st.heap [] := va_S.rf
  have hR8 : RB 80 u 8 := p0.2.1.1
  have hRk := CI_40 p0 (show 6 < 8 by omega)
  have hc8 := hR8.1
  have hr8 := rl8
  rw [rl8] at hc8
  have hrk : (rl 6 : Int) = 24 := rfl
  have hHk := (p0.1 6 (by omega)).2.1
  refine lv_aload_n SS.1 SS.2.1 dX11_remake_0 rfl (lv_at hl 1 rfl) ?_
  refine j_get SS hG hP (8 + 5 * 6) (v := .ref (q (9 + 5 * 6))) (C := RX10) (T := TX10) (N := 3) (cw_shape (by omega)) rfl inX10 0 (by decide) (ref := "GridPolygons$Shape") kw_151 rfl rfl dX11_remake_1 ?_
  refine j_iconst SS dX11_remake_4 ?_
  refine j_putS SS hG hP (cW_D hD) hS (9 + 5 * 6) (v := .int (J 0)) (ty := .int) (C := RX7) (T := TX7) (N := 3) (cw_ring (by omega)) rfl inX7 tyX7 tyX7_ok nmX7 2 (by decide) (ref := "GridPolygons$Ring") kw_135 kw_132 rfl (by decide +kernel) rfl rfl (Nat.le_of_ble_eq_true rfl) dX11_remake_5 (ws' := (cW D q (sC u 6 0))) (cs_ring (by omega)) (fun H locs hP hS => ?_)
  refine j_iconst SS dX11_remake_8 ?_
  refine lv_istore_n (lv' := [(2, .int (J 0)), (0, .ref (q 0)), (1, .ref (q (8 + 5 * 6)))]) SS.1 SS.2.1 dX11_remake_9 rfl hl (by decide) rfl (fun ls hl => ?_)
  have L_10 : ∀ (nn : Nat) (i : Int) (n1 : Int) (f1 : Nat → Int) (g1 : Nat → Int) (H : Heap) (locs : List Loc) (hP : va_P D.1 j_cl (cW D q (sY (sX (sC u 6 n1) 6 f1) 6 g1)) H) (hS : va_S A st.heap H locs) (ls : Array Slot) (hl : lv_has ls 3 [(0, .ref (q 0)), (1, .ref (q (8 + 5 * 6))), (2, .int (J i))]) (i10_0 : (0 ≤ i ∧ i ≤ u.1.2.2.1 8) ∧ n1 = i) (i10_1 : RV 40 f1 g1) (i10_2 : ∀ j : Nat, (j : Int) < i → f1 j = u.1.1 8 j ∧ g1 j = u.1.2.1 8 j), (u.1.2.2.1 8 - i).toNat < nn → W pr l en (headSpec (jw yX11_remake cX11_remake 3 none) (jr 1 23)).room st mi (([.ref (q 0), .ref (q (8 + 5 * 6))] : List Value).toArray) below meth co H locs 0 0 (MQ below (jWv (fun u' => ∃ n : Int, ∃ f : Nat → Int, ∃ g : Nat → Int, ∃ hh : Nat → Int, ∃ tt : Int, ∃ st0 : Int, u' = (sY (sX (sV (sT (sH (sC u 6 n) 6 hh) 6 tt) 0 st0) 6 f) 6 g) ∧ (CI u' ∧ n = u.1.2.2.1 8 ∧ ∀ j : Nat, (j : Int) < n → f j = u.1.1 8 j ∧ g j = u.1.2.1 8 j)) (fun u' H => va_P D.1 j_cl (cW D q u') H) A) (([.ref (q 0), .ref (q (8 + 5 * 6))] : List Value).toArray) st 0 0 A) (F0 mi 10 ls []) := by
    intro nn
    induction nn with
    | zero => intros; omega
    | succ nn ih_10 =>
      intro i n1 f1 g1 H locs hP hS ls hl i10_0 i10_1 i10_2 hm
      refine lv_iload_n SS.1 SS.2.1 dX11_remake_10 rfl (lv_at hl 2 rfl) ?_
      refine lv_aload_n SS.1 SS.2.1 dX11_remake_11 rfl (lv_at hl 0 rfl) ?_
      refine j_get SS hG hP 0 (v := .ref (q 2)) (C := RX11) (T := TX11) (N := 8) rfl rfl inX11 1 (by decide) (ref := "GridPolygons") kw_386 rfl rfl dX11_remake_12 ?_
      refine j_get SS hG hP 2 (v := .ref (q (9 + 5 * 8))) (C := RX3) (T := TX3) (N := 3) rfl rfl inX3 2 (by decide) (ref := "GridPolygons$Hull") kw_180 rfl rfl dX11_remake_15 ?_
      refine j_getS SS hG hP (9 + 5 * 8) (v := .int (J (u.1.2.2.1 8))) (C := RX7) (T := TX7) (N := 3) (cw_ring (by omega)) rfl inX7 2 (by decide) (ref := "GridPolygons$Ring") kw_135 kw_132 rfl dX11_remake_18 ?_
      refine j_icmp_ge SS (tgt := 59) (x := i) (y := (u.1.2.2.1 8)) dX11_remake_21 (by decide) (by omega) (by omega) (fun c_21 => ?_) (fun c_21 => ?_)
      · skip
        refine lv_aload_n SS.1 SS.2.1 dX11_remake_59 rfl (lv_at hl 1 rfl) ?_
        refine j_get SS hG hP (8 + 5 * 6) (v := .ref (q (12 + 5 * 6))) (C := RX10) (T := TX10) (N := 3) (cw_shape (by omega)) rfl inX10 1 (by decide) (ref := "GridPolygons$Shape") kw_157 rfl rfl dX11_remake_60 ?_
        refine j_iconst SS dX11_remake_63 ?_
        refine j_sWv SS (As := [.ref (q (12 + 5 * 6)), .int (J 0)]) (rest := []) (c_J7_fill_53178 l D (ws := (cW D q (sY (sX (sC u 6 n1) 6 f1) 6 g1))) (A := A) (cW_D hD) (12 + 5 * 6) (0 : Int) (cw_hts (by omega)) (by first | decide | omega)) mf_J7_fill_53178 kw_466 hG hP hS (fun _ h => h) rfl hl.1 ⟨⟨Nat.le_of_ble_eq_true rfl, Nat.le_of_ble_eq_true rfl⟩, Nat.le_of_ble_eq_true rfl, Nat.le_refl _, Nat.le_refl _⟩ rfl dX11_remake_64 (fun _ H locs _ hP _ hS => ?_)
        have hP : va_P D.1 j_cl (cW D q (sY (sX (sH (sC u 6 n1) 6 (jf (u.1.2.2.2.1 6) (0 : Int) 40)) 6 f1) 6 g1)) H := Eq.mp (congrArg (fun w => va_P D.1 j_cl w H) (cs_hts (by omega))) hP
        refine lv_aload_n SS.1 SS.2.1 dX11_remake_67 rfl (lv_at hl 1 rfl) ?_
        refine lv_aload_n SS.1 SS.2.1 dX11_remake_68 rfl (lv_at hl 0 rfl) ?_
        refine j_vWi SS (As := []) (rest := [.ref (q (8 + 5 * 6))]) (c_X11_newStamp l D q (sY (sX (sH (sC u 6 n1) 6 (jf (u.1.2.2.2.1 6) (0 : Int) 40)) 6 f1) 6 g1) A (cW_D hD)   ) mf_X11_newStamp kw_467 hG hP hP (ci := 11) (q0 := 0) rfl rfl rfl hS (fun _ h => h) rfl hl.1 ⟨⟨Nat.le_of_ble_eq_true rfl, Nat.le_of_ble_eq_true rfl⟩, Nat.le_of_ble_eq_true rfl, Nat.le_refl _, Nat.le_refl _⟩ rfl dX11_remake_69 (fun z_69 u69 H locs h_69 hP _ hS => ?_)
        obtain ⟨t_69, rfl, h_69⟩ := h_69
        have hP : va_P D.1 j_cl (cW D q (sY (sX (sV (sH (sC u 6 n1) 6 (jf (u.1.2.2.2.1 6) (0 : Int) 40)) 0 t_69) 6 f1) 6 g1)) H := hP
        have h_69 : z_69 = t_69 ∧ -2147483648 ≤ t_69 ∧ t_69 ≤ 2147483647 := h_69
        refine j_put SS hG hP (cW_D hD) hS (8 + 5 * 6) (v := .int (J z_69)) (ty := .int) (C := RX10) (T := TX10) (N := 3) (cw_shape (by omega)) rfl inX10 tyX10 tyX10_ok nmX10 2 (by decide) (ref := "GridPolygons$Shape") kw_161 rfl rfl (by decide +kernel) rfl rfl (Nat.le_of_ble_eq_true rfl) dX11_remake_72 (ws' := (cW D q (sY (sX (sV (sT (sH (sC u 6 n1) 6 (jf (u.1.2.2.2.1 6) (0 : Int) 40)) 6 z_69) 0 t_69) 6 f1) 6 g1))) (cs_shape (by omega)) (fun H locs hP hS => ?_)
        exact W.vret SS.1 SS.2.1 hr (fun t0 ht hW => ⟨⟨(sY (sX (sV (sT (sH (sC u 6 n1) 6 (jf (u.1.2.2.2.1 6) (0 : Int) 40)) 6 z_69) 0 t_69) 6 f1) 6 g1), rfl, (⟨n1, f1, g1, (jf (u.1.2.2.2.1 6) (0 : Int) 40), z_69, t_69, rfl, ⟨CI_sh p0 (by omega) (by omega) i10_1 (HB_f hHk) (by omega) (by omega), by omega, fun j hj => i10_2 j (by omega)⟩⟩), by show va_P D.1 j_cl (cW D q (sY (sX (sV (sT (sH (sC u 6 n1) 6 (jf (u.1.2.2.2.1 6) (0 : Int) 40)) 6 z_69) 0 t_69) 6 f1) 6 g1)) t0.heap; rw [ht]; first | exact hP | (simp only [sC_id, sX_id, sY_id, sH_id, sT_id, sV_id]; exact hP)⟩, hS.F ht⟩) hS.2.2 dX11_remake_75 hlk
      · skip
        refine lv_aload_n SS.1 SS.2.1 dX11_remake_24 rfl (lv_at hl 1 rfl) ?_
        refine j_get SS hG hP (8 + 5 * 6) (v := .ref (q (9 + 5 * 6))) (C := RX10) (T := TX10) (N := 3) (cw_shape (by omega)) rfl inX10 0 (by decide) (ref := "GridPolygons$Shape") kw_151 rfl rfl dX11_remake_25 ?_
        refine lv_aload_n SS.1 SS.2.1 dX11_remake_28 rfl (lv_at hl 0 rfl) ?_
        refine j_get SS hG hP 0 (v := .ref (q 2)) (C := RX11) (T := TX11) (N := 8) rfl rfl inX11 1 (by decide) (ref := "GridPolygons") kw_386 rfl rfl dX11_remake_29 ?_
        refine j_get SS hG hP 2 (v := .ref (q (9 + 5 * 8))) (C := RX3) (T := TX3) (N := 3) rfl rfl inX3 2 (by decide) (ref := "GridPolygons$Hull") kw_180 rfl rfl dX11_remake_32 ?_
        refine lv_iload_n SS.1 SS.2.1 dX11_remake_35 rfl (lv_at hl 2 rfl) ?_
        refine j_uRi SS (As := [.int (J i)]) (rest := [.ref (q (9 + 5 * 6))]) (c_X8_x l D q (sY (sX (sC u 6 n1) 6 f1) 6 g1) 8 (by omega) i (show -2147483648 ≤ i ∧ i ≤ 2147483647 from (by omega))) mu_7_x kw_463 hG hP hP (ci := 7) (q0 := (9 + 5 * 8)) rfl (cw_ring (by omega)) rfl rfl hl.1 ⟨⟨Nat.le_of_ble_eq_true rfl, Nat.le_of_ble_eq_true rfl⟩, Nat.le_of_ble_eq_true rfl, Nat.le_refl _, Nat.le_refl _⟩ rfl dX11_remake_36 (fun z_36 h_36 => ?_)
        have h_36 : z_36 = rx (sY (sX (sC u 6 n1) 6 f1) 6 g1) 8 i ∧ ∀ K : Int, 0 ≤ K → RB K (sY (sX (sC u 6 n1) 6 f1) 6 g1) 8 → -K ≤ z_36 ∧ z_36 ≤ K := h_36
        have hb_36 := h_36.2 80 (by omega) (hR8)
        have ex36 : z_36 = u.1.1 8 i.toNat := by rw [h_36.1]; exact if_pos (by rw [rl8]; omega)
        have hq := bd_at p2 (z := i) (by omega) (by omega)
        refine lv_aload_n SS.1 SS.2.1 dX11_remake_39 rfl (lv_at hl 0 rfl) ?_
        refine j_get SS hG hP 0 (v := .ref (q 2)) (C := RX11) (T := TX11) (N := 8) rfl rfl inX11 1 (by decide) (ref := "GridPolygons") kw_386 rfl rfl dX11_remake_40 ?_
        refine j_get SS hG hP 2 (v := .ref (q (9 + 5 * 8))) (C := RX3) (T := TX3) (N := 3) rfl rfl inX3 2 (by decide) (ref := "GridPolygons$Hull") kw_180 rfl rfl dX11_remake_43 ?_
        refine lv_iload_n SS.1 SS.2.1 dX11_remake_46 rfl (lv_at hl 2 rfl) ?_
        refine j_uRi SS (As := [.int (J i)]) (rest := [.int (J z_36), .ref (q (9 + 5 * 6))]) (c_X8_y l D q (sY (sX (sC u 6 n1) 6 f1) 6 g1) 8 (by omega) i (show -2147483648 ≤ i ∧ i ≤ 2147483647 from (by omega))) mu_7_y kw_464 hG hP hP (ci := 7) (q0 := (9 + 5 * 8)) rfl (cw_ring (by omega)) rfl rfl hl.1 ⟨⟨Nat.le_of_ble_eq_true rfl, Nat.le_of_ble_eq_true rfl⟩, Nat.le_of_ble_eq_true rfl, Nat.le_refl _, Nat.le_refl _⟩ rfl dX11_remake_47 (fun z_47 h_47 => ?_)
        have h_47 : z_47 = ry9 (sY (sX (sC u 6 n1) 6 f1) 6 g1) 8 i ∧ ∀ K : Int, 0 ≤ K → RB K (sY (sX (sC u 6 n1) 6 f1) 6 g1) 8 → -K ≤ z_47 ∧ z_47 ≤ K := h_47
        have hb_47 := h_47.2 80 (by omega) (hR8)
        have ex47 : z_47 = u.1.2.1 8 i.toNat := by rw [h_47.1]; exact if_pos (by rw [rl8]; omega)
        refine j_uWv SS (As := [.int (J z_36), .int (J z_47)]) (rest := []) (c_X8_append l D q (sY (sX (sC u 6 n1) 6 f1) 6 g1) A (cW_D hD) 6 (by omega) z_36 z_47 (show 0 ≤ n1 ∧ n1 ≤ rl 6 from (by omega))) mu_7_append kw_465 hG hP hP (ci := 7) (q0 := (9 + 5 * 6)) rfl (cw_ring (by omega)) rfl hS (fun _ h => h) rfl hl.1 ⟨⟨Nat.le_of_ble_eq_true rfl, Nat.le_of_ble_eq_true rfl⟩, Nat.le_of_ble_eq_true rfl, Nat.le_refl _, Nat.le_refl _⟩ rfl dX11_remake_50 (fun u50 H locs h_50 hP _ hS => ?_)
        obtain ⟨f_50, g_50, n_50, rfl, h_50⟩ := h_50
        have hP : va_P D.1 j_cl (cW D q (sY (sX (sC u 6 n_50) 6 f_50) 6 g_50)) H := hP
        have h_50 : (n1 < rl 6 ∧ f_50 = upI (f1) (n1).toNat z_36 ∧ g_50 = upI (g1) (n1).toNat z_47 ∧ n_50 = n1 + 1) ∨ (rl 6 ≤ n1 ∧ f_50 = f1 ∧ g_50 = g1 ∧ n_50 = n1) := h_50
        refine lv_iinc (v := J (i + 1)) (lv' := [(2, .int (J (i + 1))), (0, .ref (q 0)), (1, .ref (q (8 + 5 * 6)))]) SS.1 SS.2.1 dX11_remake_53 hl (k := 2) rfl (J_add _ _) (by decide) rfl (fun ls hl => ?_)
        refine lv_goto (tgt := 10) SS.1 SS.2.1 dX11_remake_56 (by decide) ?_
        exact ih_10 (i + 1) n_50 f_50 g_50 _ _ hP hS ls (lv_sub hl [1, 2, 0] rfl) (by rcases h_50 with q | q; omega; omega) ((ap_b (m := 24) (n0 := n1) (x := z_36) (y := z_47) i10_1 (by omega) (by omega) (by omega) (by rw [hrk] at h_50; exact h_50)).2) (fun j hj => by rcases h_50 with ⟨q0, q1, q2, q3⟩ | q; (rw [q1, q2]; by_cases e : (j : Int) = i; (rw [show j = n1.toNat by omega, upI_s, upI_s, ex36, ex47]; rw [show i.toNat = n1.toNat by omega]; exact ⟨rfl, rfl⟩); (rw [upI_n (by omega), upI_n (by omega)]; exact i10_2 j (by omega))); omega) (by omega)
  exact L_10 ((u.1.2.2.1 8 - (0 : Int)).toNat + 1) 0 0 (u.1.1 6) (u.1.2.1 6) _ _ hP hS ls (lv_sub hl [1, 2, 0] rfl) (by omega) (hRk.2) (fun j hj => by omega) (Nat.lt_succ_self _)

set_option maxHeartbeats 4000000 in
set_option maxRecDepth 100000 in
theorem c_X11_remake_7 (l : Launch) (D : JD) (q : Nat → Nat) (u : CS) (A : Nat → Prop) (hD : va_D A (cW D q u)) (p0 : CI u) (p1 : u.1.2.2.1 8 ≤ 24) (p2 : bd 40 (u.1.1 8) (u.1.2.1 8) (u.1.2.2.1 8)) : Met l yX11_remake (jw yX11_remake cX11_remake 3 none) (jr 1 23) (jP [.ref (q 0), .ref (q (8 + 5 * 7))] D (fun H => va_P D.1 j_cl (cW D q u) H)) (jWv (fun u' => ∃ n : Int, ∃ f : Nat → Int, ∃ g : Nat → Int, ∃ hh : Nat → Int, ∃ tt : Int, ∃ st0 : Int, u' = (sY (sX (sV (sT (sH (sC u 7 n) 7 hh) 7 tt) 0 st0) 7 f) 7 g) ∧ (CI u' ∧ n = u.1.2.2.1 8 ∧ ∀ j : Nat, (j : Int) < n → f j = u.1.1 8 j ∧ g j = u.1.2.1 8 j)) (fun u' H => va_P D.1 j_cl (cW D q u') H) A) 0 0 A := by
  refine Met.ofW (cc := cX11_remake) (maxL := 3) (ret := none) (by decide) rfl ?_
  intro pr en st mi args below meth co s₁ B hml hv
  obtain ⟨rfl, hG, hP⟩ := hv
  have hr := B.returns
  have hlk := B.notSynchronized
  have SS : jS pr mi co cX11_remake 3 st _ RX11 := ⟨B.exec, B.bytes, hml, findClass_of_methodNamed B.named, fun w hw => atoms_spec (ws := (jw yX11_remake cX11_remake 3 none)) B.pre w (List.mem_cons_of_mem _ hw)⟩
  have hl := lv_entry ([.ref (q 0), .ref (q (8 + 5 * 7))]) (n := 3) (Nat.le_of_ble_eq_true rfl)
  rw [lg_entry_eq]
  generalize (lg_sl ([.ref (q 0), .ref (q (8 + 5 * 7))]) ++ List.replicate (3 - (lg_sl ([.ref (q 0), .ref (q (8 + 5 * 7))])).length) Slot.unset).toArray = ls at hl ⊢
  have hl : lv_has ls 3 [(0, .ref (q 0)), (1, .ref (q (8 + 5 * 7)))] := hl
  have hS : va_S A st.heap st.heap [] := va_S.rf
  have hR8 : RB 80 u 8 := p0.2.1.1
  have hRk := CI_40 p0 (show 7 < 8 by omega)
  have hc8 := hR8.1
  have hr8 := rl8
  rw [rl8] at hc8
  have hrk : (rl 7 : Int) = 24 := rfl
  have hHk := (p0.1 7 (by omega)).2.1
  refine lv_aload_n SS.1 SS.2.1 dX11_remake_0 rfl (lv_at hl 1 rfl) ?_
  refine j_get SS hG hP (8 + 5 * 7) (v := .ref (q (9 + 5 * 7))) (C := RX10) (T := TX10) (N := 3) (cw_shape (by omega)) rfl inX10 0 (by decide) (ref := "GridPolygons$Shape") kw_151 rfl rfl dX11_remake_1 ?_
  refine j_iconst SS dX11_remake_4 ?_
  refine j_putS SS hG hP (cW_D hD) hS (9 + 5 * 7) (v := .int (J 0)) (ty := .int) (C := RX7) (T := TX7) (N := 3) (cw_ring (by omega)) rfl inX7 tyX7 tyX7_ok nmX7 2 (by decide) (ref := "GridPolygons$Ring") kw_135 kw_132 rfl (by decide +kernel) rfl rfl (Nat.le_of_ble_eq_true rfl) dX11_remake_5 (ws' := (cW D q (sC u 7 0))) (cs_ring (by omega)) (fun H locs hP hS => ?_)
  refine j_iconst SS dX11_remake_8 ?_
  refine lv_istore_n (lv' := [(2, .int (J 0)), (0, .ref (q 0)), (1, .ref (q (8 + 5 * 7)))]) SS.1 SS.2.1 dX11_remake_9 rfl hl (by decide) rfl (fun ls hl => ?_)
  have L_10 : ∀ (nn : Nat) (i : Int) (n1 : Int) (f1 : Nat → Int) (g1 : Nat → Int) (H : Heap) (locs : List Loc) (hP : va_P D.1 j_cl (cW D q (sY (sX (sC u 7 n1) 7 f1) 7 g1)) H) (hS : va_S A st.heap H locs) (ls : Array Slot) (hl : lv_has ls 3 [(0, .ref (q 0)), (1, .ref (q (8 + 5 * 7))), (2, .int (J i))]) (i10_0 : (0 ≤ i ∧ i ≤ u.1.2.2.1 8) ∧ n1 = i) (i10_1 : RV 40 f1 g1) (i10_2 : ∀ j : Nat, (j : Int) < i → f1 j = u.1.1 8 j ∧ g1 j = u.1.2.1 8 j), (u.1.2.2.1 8 - i).toNat < nn → W pr l en (headSpec (jw yX11_remake cX11_remake 3 none) (jr 1 23)).room st mi (([.ref (q 0), .ref (q (8 + 5 * 7))] : List Value).toArray) below meth co H locs 0 0 (MQ below (jWv (fun u' => ∃ n : Int, ∃ f : Nat → Int, ∃ g : Nat → Int, ∃ hh : Nat → Int, ∃ tt : Int, ∃ st0 : Int, u' = (sY (sX (sV (sT (sH (sC u 7 n) 7 hh) 7 tt) 0 st0) 7 f) 7 g) ∧ (CI u' ∧ n = u.1.2.2.1 8 ∧ ∀ j : Nat, (j : Int) < n → f j = u.1.1 8 j ∧ g j = u.1.2.1 8 j)) (fun u' H => va_P D.1 j_cl (cW D q u') H) A) (([.ref (q 0), .ref (q (8 + 5 * 7))] : List Value).toArray) st 0 0 A) (F0 mi 10 ls []) := by
    intro nn
    induction nn with
    | zero => intros; omega
    | succ nn ih_10 =>
      intro i n1 f1 g1 H locs hP hS ls hl i10_0 i10_1 i10_2 hm
      refine lv_iload_n SS.1 SS.2.1 dX11_remake_10 rfl (lv_at hl 2 rfl) ?_
      refine lv_aload_n SS.1 SS.2.1 dX11_remake_11 rfl (lv_at hl 0 rfl) ?_
      refine j_get SS hG hP 0 (v := .ref (q 2)) (C := RX11) (T := TX11) (N := 8) rfl rfl inX11 1 (by decide) (ref := "GridPolygons") kw_386 rfl rfl dX11_remake_12 ?_
      refine j_get SS hG hP 2 (v := .ref (q (9 + 5 * 8))) (C := RX3) (T := TX3) (N := 3) rfl rfl inX3 2 (by decide) (ref := "GridPolygons$Hull") kw_180 rfl rfl dX11_remake_15 ?_
      refine j_getS SS hG hP (9 + 5 * 8) (v := .int (J (u.1.2.2.1 8))) (C := RX7) (T := TX7) (N := 3) (cw_ring (by omega)) rfl inX7 2 (by decide) (ref := "GridPolygons$Ring") kw_135 kw_132 rfl dX11_remake_18 ?_
      refine j_icmp_ge SS (tgt := 59) (x := i) (y := (u.1.2.2.1 8)) dX11_remake_21 (by decide) (by omega) (by omega) (fun c_21 => ?_) (fun c_21 => ?_)
      · skip
        refine lv_aload_n SS.1 SS.2.1 dX11_remake_59 rfl (lv_at hl 1 rfl) ?_
        refine j_get SS hG hP (8 + 5 * 7) (v := .ref (q (12 + 5 * 7))) (C := RX10) (T := TX10) (N := 3) (cw_shape (by omega)) rfl inX10 1 (by decide) (ref := "GridPolygons$Shape") kw_157 rfl rfl dX11_remake_60 ?_
        refine j_iconst SS dX11_remake_63 ?_
        refine j_sWv SS (As := [.ref (q (12 + 5 * 7)), .int (J 0)]) (rest := []) (c_J7_fill_53178 l D (ws := (cW D q (sY (sX (sC u 7 n1) 7 f1) 7 g1))) (A := A) (cW_D hD) (12 + 5 * 7) (0 : Int) (cw_hts (by omega)) (by first | decide | omega)) mf_J7_fill_53178 kw_466 hG hP hS (fun _ h => h) rfl hl.1 ⟨⟨Nat.le_of_ble_eq_true rfl, Nat.le_of_ble_eq_true rfl⟩, Nat.le_of_ble_eq_true rfl, Nat.le_refl _, Nat.le_refl _⟩ rfl dX11_remake_64 (fun _ H locs _ hP _ hS => ?_)
        have hP : va_P D.1 j_cl (cW D q (sY (sX (sH (sC u 7 n1) 7 (jf (u.1.2.2.2.1 7) (0 : Int) 40)) 7 f1) 7 g1)) H := Eq.mp (congrArg (fun w => va_P D.1 j_cl w H) (cs_hts (by omega))) hP
        refine lv_aload_n SS.1 SS.2.1 dX11_remake_67 rfl (lv_at hl 1 rfl) ?_
        refine lv_aload_n SS.1 SS.2.1 dX11_remake_68 rfl (lv_at hl 0 rfl) ?_
        refine j_vWi SS (As := []) (rest := [.ref (q (8 + 5 * 7))]) (c_X11_newStamp l D q (sY (sX (sH (sC u 7 n1) 7 (jf (u.1.2.2.2.1 7) (0 : Int) 40)) 7 f1) 7 g1) A (cW_D hD)   ) mf_X11_newStamp kw_467 hG hP hP (ci := 11) (q0 := 0) rfl rfl rfl hS (fun _ h => h) rfl hl.1 ⟨⟨Nat.le_of_ble_eq_true rfl, Nat.le_of_ble_eq_true rfl⟩, Nat.le_of_ble_eq_true rfl, Nat.le_refl _, Nat.le_refl _⟩ rfl dX11_remake_69 (fun z_69 u69 H locs h_69 hP _ hS => ?_)
        obtain ⟨t_69, rfl, h_69⟩ := h_69
        have hP : va_P D.1 j_cl (cW D q (sY (sX (sV (sH (sC u 7 n1) 7 (jf (u.1.2.2.2.1 7) (0 : Int) 40)) 0 t_69) 7 f1) 7 g1)) H := hP
        have h_69 : z_69 = t_69 ∧ -2147483648 ≤ t_69 ∧ t_69 ≤ 2147483647 := h_69
        refine j_put SS hG hP (cW_D hD) hS (8 + 5 * 7) (v := .int (J z_69)) (ty := .int) (C := RX10) (T := TX10) (N := 3) (cw_shape (by omega)) rfl inX10 tyX10 tyX10_ok nmX10 2 (by decide) (ref := "GridPolygons$Shape") kw_161 rfl rfl (by decide +kernel) rfl rfl (Nat.le_of_ble_eq_true rfl) dX11_remake_72 (ws' := (cW D q (sY (sX (sV (sT (sH (sC u 7 n1) 7 (jf (u.1.2.2.2.1 7) (0 : Int) 40)) 7 z_69) 0 t_69) 7 f1) 7 g1))) (cs_shape (by omega)) (fun H locs hP hS => ?_)
        exact W.vret SS.1 SS.2.1 hr (fun t0 ht hW => ⟨⟨(sY (sX (sV (sT (sH (sC u 7 n1) 7 (jf (u.1.2.2.2.1 7) (0 : Int) 40)) 7 z_69) 0 t_69) 7 f1) 7 g1), rfl, (⟨n1, f1, g1, (jf (u.1.2.2.2.1 7) (0 : Int) 40), z_69, t_69, rfl, ⟨CI_sh p0 (by omega) (by omega) i10_1 (HB_f hHk) (by omega) (by omega), by omega, fun j hj => i10_2 j (by omega)⟩⟩), by show va_P D.1 j_cl (cW D q (sY (sX (sV (sT (sH (sC u 7 n1) 7 (jf (u.1.2.2.2.1 7) (0 : Int) 40)) 7 z_69) 0 t_69) 7 f1) 7 g1)) t0.heap; rw [ht]; first | exact hP | (simp only [sC_id, sX_id, sY_id, sH_id, sT_id, sV_id]; exact hP)⟩, hS.F ht⟩) hS.2.2 dX11_remake_75 hlk
      · skip
        refine lv_aload_n SS.1 SS.2.1 dX11_remake_24 rfl (lv_at hl 1 rfl) ?_
        refine j_get SS hG hP (8 + 5 * 7) (v := .ref (q (9 + 5 * 7))) (C := RX10) (T := TX10) (N := 3) (cw_shape (by omega)) rfl inX10 0 (by decide) (ref := "GridPolygons$Shape") kw_151 rfl rfl dX11_remake_25 ?_
        refine lv_aload_n SS.1 SS.2.1 dX11_remake_28 rfl (lv_at hl 0 rfl) ?_
        refine j_get SS hG hP 0 (v := .ref (q 2)) (C := RX11) (T := TX11) (N := 8) rfl rfl inX11 1 (by decide) (ref := "GridPolygons") kw_386 rfl rfl dX11_remake_29 ?_
        refine j_get SS hG hP 2 (v := .ref (q (9 + 5 * 8))) (C := RX3) (T := TX3) (N := 3) rfl rfl inX3 2 (by decide) (ref := "GridPolygons$Hull") kw_180 rfl rfl dX11_remake_32 ?_
        refine lv_iload_n SS.1 SS.2.1 dX11_remake_35 rfl (lv_at hl 2 rfl) ?_
        refine j_uRi SS (As := [.int (J i)]) (rest := [.ref (q (9 + 5 * 7))]) (c_X8_x l D q (sY (sX (sC u 7 n1) 7 f1) 7 g1) 8 (by omega) i (show -2147483648 ≤ i ∧ i ≤ 2147483647 from (by omega))) mu_7_x kw_463 hG hP hP (ci := 7) (q0 := (9 + 5 * 8)) rfl (cw_ring (by omega)) rfl rfl hl.1 ⟨⟨Nat.le_of_ble_eq_true rfl, Nat.le_of_ble_eq_true rfl⟩, Nat.le_of_ble_eq_true rfl, Nat.le_refl _, Nat.le_refl _⟩ rfl dX11_remake_36 (fun z_36 h_36 => ?_)
        have h_36 : z_36 = rx (sY (sX (sC u 7 n1) 7 f1) 7 g1) 8 i ∧ ∀ K : Int, 0 ≤ K → RB K (sY (sX (sC u 7 n1) 7 f1) 7 g1) 8 → -K ≤ z_36 ∧ z_36 ≤ K := h_36
        have hb_36 := h_36.2 80 (by omega) (hR8)
        have ex36 : z_36 = u.1.1 8 i.toNat := by rw [h_36.1]; exact if_pos (by rw [rl8]; omega)
        have hq := bd_at p2 (z := i) (by omega) (by omega)
        refine lv_aload_n SS.1 SS.2.1 dX11_remake_39 rfl (lv_at hl 0 rfl) ?_
        refine j_get SS hG hP 0 (v := .ref (q 2)) (C := RX11) (T := TX11) (N := 8) rfl rfl inX11 1 (by decide) (ref := "GridPolygons") kw_386 rfl rfl dX11_remake_40 ?_
        refine j_get SS hG hP 2 (v := .ref (q (9 + 5 * 8))) (C := RX3) (T := TX3) (N := 3) rfl rfl inX3 2 (by decide) (ref := "GridPolygons$Hull") kw_180 rfl rfl dX11_remake_43 ?_
        refine lv_iload_n SS.1 SS.2.1 dX11_remake_46 rfl (lv_at hl 2 rfl) ?_
        refine j_uRi SS (As := [.int (J i)]) (rest := [.int (J z_36), .ref (q (9 + 5 * 7))]) (c_X8_y l D q (sY (sX (sC u 7 n1) 7 f1) 7 g1) 8 (by omega) i (show -2147483648 ≤ i ∧ i ≤ 2147483647 from (by omega))) mu_7_y kw_464 hG hP hP (ci := 7) (q0 := (9 + 5 * 8)) rfl (cw_ring (by omega)) rfl rfl hl.1 ⟨⟨Nat.le_of_ble_eq_true rfl, Nat.le_of_ble_eq_true rfl⟩, Nat.le_of_ble_eq_true rfl, Nat.le_refl _, Nat.le_refl _⟩ rfl dX11_remake_47 (fun z_47 h_47 => ?_)
        have h_47 : z_47 = ry9 (sY (sX (sC u 7 n1) 7 f1) 7 g1) 8 i ∧ ∀ K : Int, 0 ≤ K → RB K (sY (sX (sC u 7 n1) 7 f1) 7 g1) 8 → -K ≤ z_47 ∧ z_47 ≤ K := h_47
        have hb_47 := h_47.2 80 (by omega) (hR8)
        have ex47 : z_47 = u.1.2.1 8 i.toNat := by rw [h_47.1]; exact if_pos (by rw [rl8]; omega)
        refine j_uWv SS (As := [.int (J z_36), .int (J z_47)]) (rest := []) (c_X8_append l D q (sY (sX (sC u 7 n1) 7 f1) 7 g1) A (cW_D hD) 7 (by omega) z_36 z_47 (show 0 ≤ n1 ∧ n1 ≤ rl 7 from (by omega))) mu_7_append kw_465 hG hP hP (ci := 7) (q0 := (9 + 5 * 7)) rfl (cw_ring (by omega)) rfl hS (fun _ h => h) rfl hl.1 ⟨⟨Nat.le_of_ble_eq_true rfl, Nat.le_of_ble_eq_true rfl⟩, Nat.le_of_ble_eq_true rfl, Nat.le_refl _, Nat.le_refl _⟩ rfl dX11_remake_50 (fun u50 H locs h_50 hP _ hS => ?_)
        obtain ⟨f_50, g_50, n_50, rfl, h_50⟩ := h_50
        have hP : va_P D.1 j_cl (cW D q (sY (sX (sC u 7 n_50) 7 f_50) 7 g_50)) H := hP
        have h_50 : (n1 < rl 7 ∧ f_50 = upI (f1) (n1).toNat z_36 ∧ g_50 = upI (g1) (n1).toNat z_47 ∧ n_50 = n1 + 1) ∨ (rl 7 ≤ n1 ∧ f_50 = f1 ∧ g_50 = g1 ∧ n_50 = n1) := h_50
        refine lv_iinc (v := J (i + 1)) (lv' := [(2, .int (J (i + 1))), (0, .ref (q 0)), (1, .ref (q (8 + 5 * 7)))]) SS.1 SS.2.1 dX11_remake_53 hl (k := 2) rfl (J_add _ _) (by decide) rfl (fun ls hl => ?_)
        refine lv_goto (tgt := 10) SS.1 SS.2.1 dX11_remake_56 (by decide) ?_
        exact ih_10 (i + 1) n_50 f_50 g_50 _ _ hP hS ls (lv_sub hl [1, 2, 0] rfl) (by rcases h_50 with q | q; omega; omega) ((ap_b (m := 24) (n0 := n1) (x := z_36) (y := z_47) i10_1 (by omega) (by omega) (by omega) (by rw [hrk] at h_50; exact h_50)).2) (fun j hj => by rcases h_50 with ⟨q0, q1, q2, q3⟩ | q; (rw [q1, q2]; by_cases e : (j : Int) = i; (rw [show j = n1.toNat by omega, upI_s, upI_s, ex36, ex47]; rw [show i.toNat = n1.toNat by omega]; exact ⟨rfl, rfl⟩); (rw [upI_n (by omega), upI_n (by omega)]; exact i10_2 j (by omega))); omega) (by omega)
  exact L_10 ((u.1.2.2.1 8 - (0 : Int)).toNat + 1) 0 0 (u.1.1 7) (u.1.2.1 7) _ _ hP hS ls (lv_sub hl [1, 2, 0] rfl) (by omega) (hRk.2) (fun j hj => by omega) (Nat.lt_succ_self _)

set_option maxHeartbeats 4000000 in
set_option maxRecDepth 100000 in
theorem c_X11_remake (l : Launch) (D : JD) (q : Nat → Nat) (u : CS) (A : Nat → Prop) (hD : va_D A (cW D q u)) (i : Nat) (hi : i < 8) (p0 : CI u) (p1 : u.1.2.2.1 8 ≤ 24) (p2 : bd 40 (u.1.1 8) (u.1.2.1 8) (u.1.2.2.1 8)) : Met l yX11_remake (jw yX11_remake cX11_remake 3 none) (jr 1 23) (jP [.ref (q 0), .ref (q (8 + 5 * i))] D (fun H => va_P D.1 j_cl (cW D q u) H)) (jWv (fun u' => ∃ n : Int, ∃ f : Nat → Int, ∃ g : Nat → Int, ∃ hh : Nat → Int, ∃ tt : Int, ∃ st0 : Int, u' = (sY (sX (sV (sT (sH (sC u i n) i hh) i tt) 0 st0) i f) i g) ∧ (CI u' ∧ n = u.1.2.2.1 8 ∧ ∀ j : Nat, (j : Int) < n → f j = u.1.1 8 j ∧ g j = u.1.2.1 8 j)) (fun u' H => va_P D.1 j_cl (cW D q u') H) A) 0 0 A := by
  rcases (show i = 0 ∨ i = 1 ∨ i = 2 ∨ i = 3 ∨ i = 4 ∨ i = 5 ∨ i = 6 ∨ i = 7 by omega) with rfl | rfl | rfl | rfl | rfl | rfl | rfl | rfl
  · exact c_X11_remake_0 l D q u A hD p0 p1 p2
  · exact c_X11_remake_1 l D q u A hD p0 p1 p2
  · exact c_X11_remake_2 l D q u A hD p0 p1 p2
  · exact c_X11_remake_3 l D q u A hD p0 p1 p2
  · exact c_X11_remake_4 l D q u A hD p0 p1 p2
  · exact c_X11_remake_5 l D q u A hD p0 p1 p2
  · exact c_X11_remake_6 l D q u A hD p0 p1 p2
  · exact c_X11_remake_7 l D q u A hD p0 p1 p2

