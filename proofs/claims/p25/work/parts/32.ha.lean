
def RV (K : Int) (f g : Nat → Int) : Prop := ∀ i : Nat, (-K ≤ f i ∧ f i ≤ K) ∧ -K ≤ g i ∧ g i ≤ K
theorem RV_put {K : Int} {f g : Nat → Int} {k : Nat} {a b : Int} (h : RV K f g) (ha : -K ≤ a ∧ a ≤ K) (hb : -K ≤ b ∧ b ≤ K) : RV K (upI f k a) (upI g k b) := by
  intro i
  by_cases e : i = k
  · rw [e, upI_s, upI_s]; exact ⟨ha, hb⟩
  · rw [upI_n e, upI_n e]; exact h i
/-- the columns: the least and the greatest that were taken -/
def HU_ (f g : Nat → Int) : Prop := ∀ i : Nat, (-80 ≤ f i ∧ f i ≤ 81) ∧ -81 ≤ g i ∧ g i ≤ 80
theorem HU_f {f g : Nat → Int} (h : HU_ f g) : HU_ (jf f 81 161) (jf g (-81) 161) := by
  intro i
  have := h i
  unfold jf
  split <;> omega
theorem HU_p {f g : Nat → Int} {k : Nat} {a b : Int} (h : HU_ f g) (ha : -80 ≤ a ∧ a ≤ 81) (hb : -81 ≤ b ∧ b ≤ 80) : HU_ (upI f k a) (upI g k b) := by
  intro i
  by_cases e : i = k
  · rw [e, upI_s, upI_s]; exact ⟨ha, hb⟩
  · rw [upI_n e, upI_n e]; exact h i
theorem rl8 : (rl 8 : Int) = 323 := rfl
/-- behind an append -/
theorem ap_b {K : Int} {f0 g0 f g : Nat → Int} {n0 n x y m : Int} (h : RV K f0 g0) (h0 : 0 ≤ n0 ∧ n0 ≤ m) (hx : -K ≤ x ∧ x ≤ K) (hy : -K ≤ y ∧ y ≤ K) (hp : (n0 < m ∧ f = upI f0 n0.toNat x ∧ g = upI g0 n0.toNat y ∧ n = n0 + 1) ∨ (m ≤ n0 ∧ f = f0 ∧ g = g0 ∧ n = n0)) : (0 ≤ n ∧ n ≤ m) ∧ RV K f g := by
  rcases hp with ⟨a, e1, e2, e3⟩ | ⟨a, e1, e2, e3⟩
  · rw [e1, e2]; exact ⟨by omega, RV_put h hx hy⟩
  · rw [e1, e2]; exact ⟨by omega, h⟩

set_option maxHeartbeats 4000000 in
set_option maxRecDepth 100000 in
theorem c_X3_begin (l : Launch) (D : JD) (q : Nat → Nat) (u : CS) (A : Nat → Prop) (hD : va_D A (cW D q u)) (p0 : HU_ (u.2.1 0) (u.2.1 1)) : Met l yX3_begin (jw yX3_begin cX3_begin 1 none) (jr 1 23) (jP [.ref (q 2)] D (fun H => va_P D.1 j_cl (cW D q u) H)) (jWv (fun u' => ∃ f : Nat → Int, ∃ g : Nat → Int, u' = (sI (sI u 0 f) 1 g) ∧ (f = jf (u.2.1 0) 81 161 ∧ g = jf (u.2.1 1) (-81) 161 ∧ HU_ f g)) (fun u' H => va_P D.1 j_cl (cW D q u') H) A) 0 0 A := by
  refine Met.ofW (cc := cX3_begin) (maxL := 1) (ret := none) (by decide) rfl ?_
  intro pr en st mi args below meth co s₁ B hml hv
  obtain ⟨rfl, hG, hP⟩ := hv
  have hr := B.returns
  have hlk := B.notSynchronized
  have SS : jS pr mi co cX3_begin 1 st _ RX3 := ⟨B.exec, B.bytes, hml, findClass_of_methodNamed B.named, fun w hw => atoms_spec (ws := (jw yX3_begin cX3_begin 1 none)) B.pre w (List.mem_cons_of_mem _ hw)⟩
  have hl := lv_entry ([.ref (q 2)]) (n := 1) (Nat.le_of_ble_eq_true rfl)
  rw [lg_entry_eq]
  generalize (lg_sl ([.ref (q 2)]) ++ List.replicate (1 - (lg_sl ([.ref (q 2)])).length) Slot.unset).toArray = ls at hl ⊢
  have hl : lv_has ls 1 [(0, .ref (q 2))] := hl
  have hS : va_S A st.heap st.heap [] := va_S.rf
  refine lv_aload_n SS.1 SS.2.1 dX3_begin_0 rfl (lv_at hl 0 rfl) ?_
  refine j_get SS hG hP 2 (v := .ref (q 48)) (C := RX3) (T := TX3) (N := 3) rfl rfl inX3 0 (by decide) (ref := "GridPolygons$Hull") kw_177 rfl rfl dX3_begin_1 ?_
  refine j_bipush SS dX3_begin_4 (by decide +kernel) ?_
  refine j_sWv SS (As := [.ref (q 48), .int (J 81)]) (rest := []) (c_J7_fill_53178 l D (ws := (cW D q u)) (A := A) (cW_D hD) 48 (81 : Int) rfl (by first | decide | omega)) mf_J7_fill_53178 kw_422 hG hP hS (fun _ h => h) rfl hl.1 ⟨⟨Nat.le_of_ble_eq_true rfl, Nat.le_of_ble_eq_true rfl⟩, Nat.le_of_ble_eq_true rfl, Nat.le_refl _, Nat.le_refl _⟩ rfl dX3_begin_6 (fun _ H locs _ hP _ hS => ?_)
  have hP : va_P D.1 j_cl (cW D q (sI u 0 (jf (u.2.1 0) (81 : Int) 161))) H := hP
  refine lv_aload_n SS.1 SS.2.1 dX3_begin_9 rfl (lv_at hl 0 rfl) ?_
  refine j_get SS hG hP 2 (v := .ref (q 52)) (C := RX3) (T := TX3) (N := 3) rfl rfl inX3 1 (by decide) (ref := "GridPolygons$Hull") kw_178 rfl rfl dX3_begin_10 ?_
  refine j_bipush SS dX3_begin_13 (by decide +kernel) ?_
  refine j_sWv SS (As := [.ref (q 52), .int (J (-81))]) (rest := []) (c_J7_fill_53178 l D (ws := (cW D q (sI u 0 (jf (u.2.1 0) (81 : Int) 161)))) (A := A) (cW_D hD) 52 (-81) rfl (by first | decide | omega)) mf_J7_fill_53178 kw_422 hG hP hS (fun _ h => h) rfl hl.1 ⟨⟨Nat.le_of_ble_eq_true rfl, Nat.le_of_ble_eq_true rfl⟩, Nat.le_of_ble_eq_true rfl, Nat.le_refl _, Nat.le_refl _⟩ rfl dX3_begin_15 (fun _ H locs _ hP _ hS => ?_)
  have hP : va_P D.1 j_cl (cW D q (sI (sI u 0 (jf (u.2.1 0) (81 : Int) 161)) 1 (jf (u.2.1 1) (-81) 161))) H := hP
  exact W.vret SS.1 SS.2.1 hr (fun t0 ht hW => ⟨⟨(sI (sI u 0 (jf (u.2.1 0) (81 : Int) 161)) 1 (jf (u.2.1 1) (-81) 161)), rfl, (⟨(jf (u.2.1 0) (81 : Int) 161), (jf (u.2.1 1) (-81) 161), rfl, ⟨rfl, rfl, HU_f p0⟩⟩), by show va_P D.1 j_cl (cW D q (sI (sI u 0 (jf (u.2.1 0) (81 : Int) 161)) 1 (jf (u.2.1 1) (-81) 161))) t0.heap; rw [ht]; first | exact hP | (simp only [sC_id, sX_id, sY_id, sH_id, sT_id, sV_id]; exact hP)⟩, hS.F ht⟩) hS.2.2 dX3_begin_18 hlk

set_option maxHeartbeats 4000000 in
set_option maxRecDepth 100000 in
theorem c_X3_take (l : Launch) (D : JD) (q : Nat → Nat) (u : CS) (A : Nat → Prop) (hD : va_D A (cW D q u)) (a : Int) (b : Int) (p0 : HU_ (u.2.1 0) (u.2.1 1)) (p1 : -1000 ≤ a ∧ a ≤ 1000) (p2 : -2147483648 ≤ b ∧ b ≤ 2147483647) : Met l yX3_take (jw yX3_take cX3_take 4 none) (jr 1 21) (jP [.ref (q 2), .int (J a), .int (J b)] D (fun H => va_P D.1 j_cl (cW D q u) H)) (jWv (fun u' => ∃ f : Nat → Int, ∃ g : Nat → Int, u' = (sI (sI u 0 f) 1 g) ∧ (((-80 ≤ a ∧ a ≤ 80 ∧ -80 ≤ b ∧ b ≤ 80) ∧ f = upI (u.2.1 0) (a + 80).toNat (min (u.2.1 0 (a + 80).toNat) b) ∧ g = upI (u.2.1 1) (a + 80).toNat (max (u.2.1 1 (a + 80).toNat) b) ∨ ¬ (-80 ≤ a ∧ a ≤ 80 ∧ -80 ≤ b ∧ b ≤ 80) ∧ f = u.2.1 0 ∧ g = u.2.1 1) ∧ HU_ f g)) (fun u' H => va_P D.1 j_cl (cW D q u') H) A) 0 0 A := by
  refine Met.ofW (cc := cX3_take) (maxL := 4) (ret := none) (by decide) rfl ?_
  intro pr en st mi args below meth co s₁ B hml hv
  obtain ⟨rfl, hG, hP⟩ := hv
  have hr := B.returns
  have hlk := B.notSynchronized
  have SS : jS pr mi co cX3_take 4 st _ RX3 := ⟨B.exec, B.bytes, hml, findClass_of_methodNamed B.named, fun w hw => atoms_spec (ws := (jw yX3_take cX3_take 4 none)) B.pre w (List.mem_cons_of_mem _ hw)⟩
  have hl := lv_entry ([.ref (q 2), .int (J a), .int (J b)]) (n := 4) (Nat.le_of_ble_eq_true rfl)
  rw [lg_entry_eq]
  generalize (lg_sl ([.ref (q 2), .int (J a), .int (J b)]) ++ List.replicate (4 - (lg_sl ([.ref (q 2), .int (J a), .int (J b)])).length) Slot.unset).toArray = ls at hl ⊢
  have hl : lv_has ls 4 [(0, .ref (q 2)), (1, .int (J a)), (2, .int (J b))] := hl
  have hS : va_S A st.heap st.heap [] := va_S.rf
  refine lv_iload_n SS.1 SS.2.1 dX3_take_0 rfl (lv_at hl 1 rfl) ?_
  refine j_bipush SS dX3_take_1 (by decide +kernel) ?_
  refine j_iadd SS (x := a) (y := 80) dX3_take_3 ?_
  refine lv_istore_n (lv' := [(3, .int (J (a + 80))), (0, .ref (q 2)), (1, .int (J a)), (2, .int (J b))]) SS.1 SS.2.1 dX3_take_4 rfl hl (by decide) rfl (fun ls hl => ?_)
  refine lv_iload_n SS.1 SS.2.1 dX3_take_5 rfl (lv_at hl 0 rfl) ?_
  refine j_if_lt SS (tgt := 28) (x := (a + 80)) dX3_take_6 (by decide) (by omega) (fun c_6 => ?_) (fun c_6 => ?_)
  · skip
    exact W.vret SS.1 SS.2.1 hr (fun t0 ht hW => ⟨⟨(sI (sI u 0 (u.2.1 0)) 1 (u.2.1 1)), rfl, (⟨(u.2.1 0), (u.2.1 1), rfl, ⟨Or.inr ⟨by omega, rfl, rfl⟩, p0⟩⟩), by show va_P D.1 j_cl (cW D q (sI (sI u 0 (u.2.1 0)) 1 (u.2.1 1))) t0.heap; rw [ht]; first | exact hP | (simp only [sC_id, sX_id, sY_id, sH_id, sT_id, sV_id]; exact hP)⟩, hS.F ht⟩) hS.2.2 dX3_take_28 hlk
  · skip
    refine lv_iload_n SS.1 SS.2.1 dX3_take_9 rfl (lv_at hl 0 rfl) ?_
    refine j_sipush SS dX3_take_10 (by decide +kernel) ?_
    refine j_icmp_ge SS (tgt := 28) (x := (a + 80)) (y := 161) dX3_take_13 (by decide) (by omega) (by decide) (fun c_13 => ?_) (fun c_13 => ?_)
    · skip
      exact W.vret SS.1 SS.2.1 hr (fun t0 ht hW => ⟨⟨(sI (sI u 0 (u.2.1 0)) 1 (u.2.1 1)), rfl, (⟨(u.2.1 0), (u.2.1 1), rfl, ⟨Or.inr ⟨by omega, rfl, rfl⟩, p0⟩⟩), by show va_P D.1 j_cl (cW D q (sI (sI u 0 (u.2.1 0)) 1 (u.2.1 1))) t0.heap; rw [ht]; first | exact hP | (simp only [sC_id, sX_id, sY_id, sH_id, sT_id, sV_id]; exact hP)⟩, hS.F ht⟩) hS.2.2 dX3_take_28 hlk
    · skip
      refine lv_iload_n SS.1 SS.2.1 dX3_take_16 rfl (lv_at hl 3 rfl) ?_
      refine j_bipush SS dX3_take_17 (by decide +kernel) ?_
      refine j_icmp_lt SS (tgt := 28) (x := b) (y := (-80)) dX3_take_19 (by decide) (by omega) (by decide) (fun c_19 => ?_) (fun c_19 => ?_)
      · skip
        exact W.vret SS.1 SS.2.1 hr (fun t0 ht hW => ⟨⟨(sI (sI u 0 (u.2.1 0)) 1 (u.2.1 1)), rfl, (⟨(u.2.1 0), (u.2.1 1), rfl, ⟨Or.inr ⟨by omega, rfl, rfl⟩, p0⟩⟩), by show va_P D.1 j_cl (cW D q (sI (sI u 0 (u.2.1 0)) 1 (u.2.1 1))) t0.heap; rw [ht]; first | exact hP | (simp only [sC_id, sX_id, sY_id, sH_id, sT_id, sV_id]; exact hP)⟩, hS.F ht⟩) hS.2.2 dX3_take_28 hlk
      · skip
        refine lv_iload_n SS.1 SS.2.1 dX3_take_22 rfl (lv_at hl 3 rfl) ?_
        refine j_bipush SS dX3_take_23 (by decide +kernel) ?_
        refine j_icmp_le SS (tgt := 29) (x := b) (y := 80) dX3_take_25 (by decide) (by omega) (by decide) (fun c_25 => ?_) (fun c_25 => ?_)
        · skip
          refine lv_aload_n SS.1 SS.2.1 dX3_take_29 rfl (lv_at hl 1 rfl) ?_
          refine j_get SS hG hP 2 (v := .ref (q 48)) (C := RX3) (T := TX3) (N := 3) rfl rfl inX3 0 (by decide) (ref := "GridPolygons$Hull") kw_177 rfl rfl dX3_take_30 ?_
          refine lv_iload_n SS.1 SS.2.1 dX3_take_33 rfl (lv_at hl 0 rfl) ?_
          refine lv_aload_n SS.1 SS.2.1 dX3_take_34 rfl (lv_at hl 1 rfl) ?_
          refine j_get SS hG hP 2 (v := .ref (q 48)) (C := RX3) (T := TX3) (N := 3) rfl rfl inX3 0 (by decide) (ref := "GridPolygons$Hull") kw_177 rfl rfl dX3_take_35 ?_
          refine lv_iload_n SS.1 SS.2.1 dX3_take_38 rfl (lv_at hl 0 rfl) ?_
          have ql := p0 (a + 80).toNat
          refine j_iald SS hG hP 48 (n := 161) (f := (u.2.1 0)) rfl (z := (a + 80)) (by omega) (by omega) dX3_take_39 ?_
          refine lv_iload_n SS.1 SS.2.1 dX3_take_40 rfl (lv_at hl 3 rfl) ?_
          refine j_sRi SS (As := [.int (J ((u.2.1 0) ((a + 80)).toNat)), .int (J b)]) (rest := [.int (J (a + 80)), .ref (q 48)]) (c_J9_min_7cf53 l D  ((u.2.1 0) ((a + 80)).toNat) b (show -2147483648 ≤ ((u.2.1 0) ((a + 80)).toNat) ∧ ((u.2.1 0) ((a + 80)).toNat) ≤ 2147483647 from (by omega)) (show -2147483648 ≤ b ∧ b ≤ 2147483647 from (p2))) mf_J9_min_7cf53 kw_486 hG trivial rfl hl.1 ⟨⟨Nat.le_of_ble_eq_true rfl, Nat.le_of_ble_eq_true rfl⟩, Nat.le_of_ble_eq_true rfl, Nat.le_refl _, Nat.le_refl _⟩ rfl dX3_take_41 (fun z_41 h_41 => ?_)
          have h_41 : (z_41 = ((u.2.1 0) ((a + 80)).toNat) ∨ z_41 = b) ∧ z_41 ≤ ((u.2.1 0) ((a + 80)).toNat) ∧ z_41 ≤ b := h_41
          refine j_iast SS hG hP (cW_D hD) hS 48 (n := 161) (f := (u.2.1 0)) rfl (z := (a + 80)) (v := z_41) (by omega) (by omega) dX3_take_44 (ws' := (cW D q (sI u 0 (upI (u.2.1 0) ((a + 80)).toNat z_41)))) rfl (fun H locs hP hS => ?_)
          refine lv_aload_n SS.1 SS.2.1 dX3_take_45 rfl (lv_at hl 1 rfl) ?_
          refine j_get SS hG hP 2 (v := .ref (q 52)) (C := RX3) (T := TX3) (N := 3) rfl rfl inX3 1 (by decide) (ref := "GridPolygons$Hull") kw_178 rfl rfl dX3_take_46 ?_
          refine lv_iload_n SS.1 SS.2.1 dX3_take_49 rfl (lv_at hl 0 rfl) ?_
          refine lv_aload_n SS.1 SS.2.1 dX3_take_50 rfl (lv_at hl 1 rfl) ?_
          refine j_get SS hG hP 2 (v := .ref (q 52)) (C := RX3) (T := TX3) (N := 3) rfl rfl inX3 1 (by decide) (ref := "GridPolygons$Hull") kw_178 rfl rfl dX3_take_51 ?_
          refine lv_iload_n SS.1 SS.2.1 dX3_take_54 rfl (lv_at hl 0 rfl) ?_
          have e41 : z_41 = min (u.2.1 0 (a + 80).toNat) b := by omega
          refine j_iald SS hG hP 52 (n := 161) (f := (u.2.1 1)) rfl (z := (a + 80)) (by omega) (by omega) dX3_take_55 ?_
          refine lv_iload_n SS.1 SS.2.1 dX3_take_56 rfl (lv_at hl 3 rfl) ?_
          refine j_sRi SS (As := [.int (J ((u.2.1 1) ((a + 80)).toNat)), .int (J b)]) (rest := [.int (J (a + 80)), .ref (q 52)]) (c_J9_max_7cf53 l D  ((u.2.1 1) ((a + 80)).toNat) b (show -2147483648 ≤ ((u.2.1 1) ((a + 80)).toNat) ∧ ((u.2.1 1) ((a + 80)).toNat) ≤ 2147483647 from (by omega)) (show -2147483648 ≤ b ∧ b ≤ 2147483647 from (by omega))) mf_J9_max_7cf53 kw_489 hG trivial rfl hl.1 ⟨⟨Nat.le_of_ble_eq_true rfl, Nat.le_of_ble_eq_true rfl⟩, Nat.le_of_ble_eq_true rfl, Nat.le_refl _, Nat.le_refl _⟩ rfl dX3_take_57 (fun z_57 h_57 => ?_)
          have h_57 : (z_57 = ((u.2.1 1) ((a + 80)).toNat) ∨ z_57 = b) ∧ ((u.2.1 1) ((a + 80)).toNat) ≤ z_57 ∧ b ≤ z_57 := h_57
          have e57 : z_57 = max (u.2.1 1 (a + 80).toNat) b := by omega
          refine j_iast SS hG hP (cW_D hD) hS 52 (n := 161) (f := (u.2.1 1)) rfl (z := (a + 80)) (v := z_57) (by omega) (by omega) dX3_take_60 (ws' := (cW D q (sI (sI u 0 (upI (u.2.1 0) ((a + 80)).toNat z_41)) 1 (upI (u.2.1 1) ((a + 80)).toNat z_57)))) rfl (fun H locs hP hS => ?_)
          exact W.vret SS.1 SS.2.1 hr (fun t0 ht hW => ⟨⟨(sI (sI u 0 (upI (u.2.1 0) ((a + 80)).toNat z_41)) 1 (upI (u.2.1 1) ((a + 80)).toNat z_57)), rfl, (⟨(upI (u.2.1 0) ((a + 80)).toNat z_41), (upI (u.2.1 1) ((a + 80)).toNat z_57), rfl, ⟨Or.inl ⟨by omega, by rw [e41], by rw [e57]⟩, HU_p p0 (by omega) (by omega)⟩⟩), by show va_P D.1 j_cl (cW D q (sI (sI u 0 (upI (u.2.1 0) ((a + 80)).toNat z_41)) 1 (upI (u.2.1 1) ((a + 80)).toNat z_57))) t0.heap; rw [ht]; first | exact hP | (simp only [sC_id, sX_id, sY_id, sH_id, sT_id, sV_id]; exact hP)⟩, hS.F ht⟩) hS.2.2 dX3_take_61 hlk
        · skip
          exact W.vret SS.1 SS.2.1 hr (fun t0 ht hW => ⟨⟨(sI (sI u 0 (u.2.1 0)) 1 (u.2.1 1)), rfl, (⟨(u.2.1 0), (u.2.1 1), rfl, ⟨Or.inr ⟨by omega, rfl, rfl⟩, p0⟩⟩), by show va_P D.1 j_cl (cW D q (sI (sI u 0 (u.2.1 0)) 1 (u.2.1 1))) t0.heap; rw [ht]; first | exact hP | (simp only [sC_id, sX_id, sY_id, sH_id, sT_id, sV_id]; exact hP)⟩, hS.F ht⟩) hS.2.2 dX3_take_28 hlk

set_option maxHeartbeats 4000000 in
set_option maxRecDepth 100000 in
theorem c_X3_isLast (l : Launch) (D : JD) (q : Nat → Nat) (u : CS) (a : Int) (b : Int) (p0 : RB 80 u 8) (p1 : -2147483648 ≤ a ∧ a ≤ 2147483647) (p2 : -2147483648 ≤ b ∧ b ≤ 2147483647) : Met l yX3_isLast (jw yX3_isLast cX3_isLast 3 (some .boolean)) (jr 1 21) (jP [.ref (q 2), .int (J a), .int (J b)] D (fun H => va_P D.1 j_cl (cW D q u) H)) (jRi (fun z => (z = 1 ∧ 0 < u.1.2.2.1 8 ∧ rx u 8 (u.1.2.2.1 8 - 1) = a ∧ ry9 u 8 (u.1.2.2.1 8 - 1) = b) ∨ (z = 0 ∧ ¬ (0 < u.1.2.2.1 8 ∧ rx u 8 (u.1.2.2.1 8 - 1) = a ∧ ry9 u 8 (u.1.2.2.1 8 - 1) = b)))) 0 0 (fun _ => False) := by
  refine Met.ofW (cc := cX3_isLast) (maxL := 3) (ret := (some .boolean)) (by decide) rfl ?_
  intro pr en st mi args below meth co s₁ B hml hv
  obtain ⟨rfl, hG, hP⟩ := hv
  have hr := B.returns
  have hlk := B.notSynchronized
  have SS : jS pr mi co cX3_isLast 3 st _ RX3 := ⟨B.exec, B.bytes, hml, findClass_of_methodNamed B.named, fun w hw => atoms_spec (ws := (jw yX3_isLast cX3_isLast 3 (some .boolean))) B.pre w (List.mem_cons_of_mem _ hw)⟩
  have hl := lv_entry ([.ref (q 2), .int (J a), .int (J b)]) (n := 3) (Nat.le_of_ble_eq_true rfl)
  rw [lg_entry_eq]
  generalize (lg_sl ([.ref (q 2), .int (J a), .int (J b)]) ++ List.replicate (3 - (lg_sl ([.ref (q 2), .int (J a), .int (J b)])).length) Slot.unset).toArray = ls at hl ⊢
  have hl : lv_has ls 3 [(0, .ref (q 2)), (1, .int (J a)), (2, .int (J b))] := hl
  have hc := p0.1
  have hr8 := rl8
  rw [rl8] at hc
  refine lv_aload_n SS.1 SS.2.1 dX3_isLast_0 rfl (lv_at hl 0 rfl) ?_
  refine j_get SS hG hP 2 (v := .ref (q (9 + 5 * 8))) (C := RX3) (T := TX3) (N := 3) rfl rfl inX3 2 (by decide) (ref := "GridPolygons$Hull") kw_179 rfl rfl dX3_isLast_1 ?_
  refine j_getS SS hG hP (9 + 5 * 8) (v := .int (J (u.1.2.2.1 8))) (C := RX7) (T := TX7) (N := 3) (cw_ring (by omega)) rfl inX7 2 (by decide) (ref := "GridPolygons$Ring") kw_141 kw_132 rfl dX3_isLast_4 ?_
  refine j_if_le SS (tgt := 54) (x := (u.1.2.2.1 8)) dX3_isLast_7 (by decide) (by omega) (fun c_7 => ?_) (fun c_7 => ?_)
  · skip
    refine j_iconst SS dX3_isLast_54 ?_
    exact W.zret SS.1 SS.2.1 hr (j_nz (by decide)) (fun t0 ht hW => ⟨_, rfl, ⟨0, rfl, (by first | (refine Or.inr ⟨rfl, ?_⟩; intro q; omega) | exact Or.inl ⟨rfl, by omega, by omega, by omega⟩)⟩, ht⟩) (fun _ h => nomatch h) dX3_isLast_55 hlk
  · skip
    refine lv_aload_n SS.1 SS.2.1 dX3_isLast_10 rfl (lv_at hl 0 rfl) ?_
    refine j_get SS hG hP 2 (v := .ref (q (9 + 5 * 8))) (C := RX3) (T := TX3) (N := 3) rfl rfl inX3 2 (by decide) (ref := "GridPolygons$Hull") kw_179 rfl rfl dX3_isLast_11 ?_
    refine lv_aload_n SS.1 SS.2.1 dX3_isLast_14 rfl (lv_at hl 0 rfl) ?_
    refine j_get SS hG hP 2 (v := .ref (q (9 + 5 * 8))) (C := RX3) (T := TX3) (N := 3) rfl rfl inX3 2 (by decide) (ref := "GridPolygons$Hull") kw_179 rfl rfl dX3_isLast_15 ?_
    refine j_getS SS hG hP (9 + 5 * 8) (v := .int (J (u.1.2.2.1 8))) (C := RX7) (T := TX7) (N := 3) (cw_ring (by omega)) rfl inX7 2 (by decide) (ref := "GridPolygons$Ring") kw_141 kw_132 rfl dX3_isLast_18 ?_
    refine j_iconst SS dX3_isLast_21 ?_
    refine j_isub SS (x := (u.1.2.2.1 8)) (y := 1) dX3_isLast_22 ?_
    refine j_uRi SS (As := [.int (J ((u.1.2.2.1 8) - 1))]) (rest := []) (c_X8_x l D q u 8 (by omega) ((u.1.2.2.1 8) - 1) (show -2147483648 ≤ ((u.1.2.2.1 8) - 1) ∧ ((u.1.2.2.1 8) - 1) ≤ 2147483647 from (by omega))) mu_7_x kw_437 hG hP hP (ci := 7) (q0 := (9 + 5 * 8)) rfl (cw_ring (by omega)) rfl rfl hl.1 ⟨⟨Nat.le_of_ble_eq_true rfl, Nat.le_of_ble_eq_true rfl⟩, Nat.le_of_ble_eq_true rfl, Nat.le_refl _, Nat.le_refl _⟩ rfl dX3_isLast_23 (fun z_23 h_23 => ?_)
    have h_23 : z_23 = rx u 8 ((u.1.2.2.1 8) - 1) ∧ ∀ K : Int, 0 ≤ K → RB K u 8 → -K ≤ z_23 ∧ z_23 ≤ K := h_23
    have hb_23 := h_23.2 80 (by omega) (p0)
    refine lv_iload_n SS.1 SS.2.1 dX3_isLast_26 rfl (lv_at hl 1 rfl) ?_
    refine j_icmp_ne SS (tgt := 54) (x := z_23) (y := a) dX3_isLast_27 (by decide) (by omega) (by omega) (fun c_27 => ?_) (fun c_27 => ?_)
    · skip
      refine j_iconst SS dX3_isLast_54 ?_
      exact W.zret SS.1 SS.2.1 hr (j_nz (by decide)) (fun t0 ht hW => ⟨_, rfl, ⟨0, rfl, (by first | (refine Or.inr ⟨rfl, ?_⟩; intro q; omega) | exact Or.inl ⟨rfl, by omega, by omega, by omega⟩)⟩, ht⟩) (fun _ h => nomatch h) dX3_isLast_55 hlk
    · skip
      refine lv_aload_n SS.1 SS.2.1 dX3_isLast_30 rfl (lv_at hl 0 rfl) ?_
      refine j_get SS hG hP 2 (v := .ref (q (9 + 5 * 8))) (C := RX3) (T := TX3) (N := 3) rfl rfl inX3 2 (by decide) (ref := "GridPolygons$Hull") kw_179 rfl rfl dX3_isLast_31 ?_
      refine lv_aload_n SS.1 SS.2.1 dX3_isLast_34 rfl (lv_at hl 0 rfl) ?_
      refine j_get SS hG hP 2 (v := .ref (q (9 + 5 * 8))) (C := RX3) (T := TX3) (N := 3) rfl rfl inX3 2 (by decide) (ref := "GridPolygons$Hull") kw_179 rfl rfl dX3_isLast_35 ?_
      refine j_getS SS hG hP (9 + 5 * 8) (v := .int (J (u.1.2.2.1 8))) (C := RX7) (T := TX7) (N := 3) (cw_ring (by omega)) rfl inX7 2 (by decide) (ref := "GridPolygons$Ring") kw_141 kw_132 rfl dX3_isLast_38 ?_
      refine j_iconst SS dX3_isLast_41 ?_
      refine j_isub SS (x := (u.1.2.2.1 8)) (y := 1) dX3_isLast_42 ?_
      refine j_uRi SS (As := [.int (J ((u.1.2.2.1 8) - 1))]) (rest := []) (c_X8_y l D q u 8 (by omega) ((u.1.2.2.1 8) - 1) (show -2147483648 ≤ ((u.1.2.2.1 8) - 1) ∧ ((u.1.2.2.1 8) - 1) ≤ 2147483647 from (by omega))) mu_7_y kw_443 hG hP hP (ci := 7) (q0 := (9 + 5 * 8)) rfl (cw_ring (by omega)) rfl rfl hl.1 ⟨⟨Nat.le_of_ble_eq_true rfl, Nat.le_of_ble_eq_true rfl⟩, Nat.le_of_ble_eq_true rfl, Nat.le_refl _, Nat.le_refl _⟩ rfl dX3_isLast_43 (fun z_43 h_43 => ?_)
      have h_43 : z_43 = ry9 u 8 ((u.1.2.2.1 8) - 1) ∧ ∀ K : Int, 0 ≤ K → RB K u 8 → -K ≤ z_43 ∧ z_43 ≤ K := h_43
      have hb_43 := h_43.2 80 (by omega) (p0)
      refine lv_iload_n SS.1 SS.2.1 dX3_isLast_46 rfl (lv_at hl 2 rfl) ?_
      refine j_icmp_ne SS (tgt := 54) (x := z_43) (y := b) dX3_isLast_47 (by decide) (by omega) (by omega) (fun c_47 => ?_) (fun c_47 => ?_)
      · skip
        refine j_iconst SS dX3_isLast_54 ?_
        exact W.zret SS.1 SS.2.1 hr (j_nz (by decide)) (fun t0 ht hW => ⟨_, rfl, ⟨0, rfl, (by first | (refine Or.inr ⟨rfl, ?_⟩; intro q; omega) | exact Or.inl ⟨rfl, by omega, by omega, by omega⟩)⟩, ht⟩) (fun _ h => nomatch h) dX3_isLast_55 hlk
      · skip
        refine j_iconst SS dX3_isLast_50 ?_
        refine lv_goto (tgt := 55) SS.1 SS.2.1 dX3_isLast_51 (by decide) ?_
        exact W.zret SS.1 SS.2.1 hr (j_nz (by decide)) (fun t0 ht hW => ⟨_, rfl, ⟨1, rfl, (by first | (refine Or.inr ⟨rfl, ?_⟩; intro q; omega) | exact Or.inl ⟨rfl, by omega, by omega, by omega⟩)⟩, ht⟩) (fun _ h => nomatch h) dX3_isLast_55 hlk

set_option maxHeartbeats 4000000 in
set_option maxRecDepth 100000 in
theorem c_X3_turnsLeft (l : Launch) (D : JD) (q : Nat → Nat) (u : CS) (a : Int) (b : Int) (p0 : RB 80 u 8) (p1 : -80 ≤ a ∧ a ≤ 80) (p2 : -80 ≤ b ∧ b ≤ 80) : Met l yX3_turnsLeft (jw yX3_turnsLeft cX3_turnsLeft 6 (some .boolean)) (jr 1 21) (jP [.ref (q 2), .int (J a), .int (J b)] D (fun H => va_P D.1 j_cl (cW D q u) H)) (jRi (fun z => (z = 1 ∧ 0 < (rx u 8 (u.1.2.2.1 8 - 1) - rx u 8 (u.1.2.2.1 8 - 1 - 1)) * (b - ry9 u 8 (u.1.2.2.1 8 - 1)) - (ry9 u 8 (u.1.2.2.1 8 - 1) - ry9 u 8 (u.1.2.2.1 8 - 1 - 1)) * (a - rx u 8 (u.1.2.2.1 8 - 1))) ∨ (z = 0 ∧ (rx u 8 (u.1.2.2.1 8 - 1) - rx u 8 (u.1.2.2.1 8 - 1 - 1)) * (b - ry9 u 8 (u.1.2.2.1 8 - 1)) - (ry9 u 8 (u.1.2.2.1 8 - 1) - ry9 u 8 (u.1.2.2.1 8 - 1 - 1)) * (a - rx u 8 (u.1.2.2.1 8 - 1)) ≤ 0))) 0 0 (fun _ => False) := by
  refine Met.ofW (cc := cX3_turnsLeft) (maxL := 6) (ret := (some .boolean)) (by decide) rfl ?_
  intro pr en st mi args below meth co s₁ B hml hv
  obtain ⟨rfl, hG, hP⟩ := hv
  have hr := B.returns
  have hlk := B.notSynchronized
  have SS : jS pr mi co cX3_turnsLeft 6 st _ RX3 := ⟨B.exec, B.bytes, hml, findClass_of_methodNamed B.named, fun w hw => atoms_spec (ws := (jw yX3_turnsLeft cX3_turnsLeft 6 (some .boolean))) B.pre w (List.mem_cons_of_mem _ hw)⟩
  have hl := lv_entry ([.ref (q 2), .int (J a), .int (J b)]) (n := 6) (Nat.le_of_ble_eq_true rfl)
  rw [lg_entry_eq]
  generalize (lg_sl ([.ref (q 2), .int (J a), .int (J b)]) ++ List.replicate (6 - (lg_sl ([.ref (q 2), .int (J a), .int (J b)])).length) Slot.unset).toArray = ls at hl ⊢
  have hl : lv_has ls 6 [(0, .ref (q 2)), (1, .int (J a)), (2, .int (J b))] := hl
  have hc := p0.1
  have hr8 := rl8
  rw [rl8] at hc
  refine lv_aload_n SS.1 SS.2.1 dX3_turnsLeft_0 rfl (lv_at hl 0 rfl) ?_
  refine j_get SS hG hP 2 (v := .ref (q (9 + 5 * 8))) (C := RX3) (T := TX3) (N := 3) rfl rfl inX3 2 (by decide) (ref := "GridPolygons$Hull") kw_179 rfl rfl dX3_turnsLeft_1 ?_
  refine j_getS SS hG hP (9 + 5 * 8) (v := .int (J (u.1.2.2.1 8))) (C := RX7) (T := TX7) (N := 3) (cw_ring (by omega)) rfl inX7 2 (by decide) (ref := "GridPolygons$Ring") kw_141 kw_132 rfl dX3_turnsLeft_4 ?_
  refine j_iconst SS dX3_turnsLeft_7 ?_
  refine j_isub SS (x := (u.1.2.2.1 8)) (y := 1) dX3_turnsLeft_8 ?_
  refine lv_istore_n (lv' := [(3, .int (J ((u.1.2.2.1 8) - 1))), (0, .ref (q 2)), (1, .int (J a)), (2, .int (J b))]) SS.1 SS.2.1 dX3_turnsLeft_9 rfl hl (by decide) rfl (fun ls hl => ?_)
  refine lv_aload_n SS.1 SS.2.1 dX3_turnsLeft_10 rfl (lv_at hl 1 rfl) ?_
  refine j_get SS hG hP 2 (v := .ref (q (9 + 5 * 8))) (C := RX3) (T := TX3) (N := 3) rfl rfl inX3 2 (by decide) (ref := "GridPolygons$Hull") kw_179 rfl rfl dX3_turnsLeft_11 ?_
  refine lv_iload_n SS.1 SS.2.1 dX3_turnsLeft_14 rfl (lv_at hl 0 rfl) ?_
  refine j_uRi SS (As := [.int (J ((u.1.2.2.1 8) - 1))]) (rest := []) (c_X8_x l D q u 8 (by omega) ((u.1.2.2.1 8) - 1) (show -2147483648 ≤ ((u.1.2.2.1 8) - 1) ∧ ((u.1.2.2.1 8) - 1) ≤ 2147483647 from (by omega))) mu_7_x kw_437 hG hP hP (ci := 7) (q0 := (9 + 5 * 8)) rfl (cw_ring (by omega)) rfl rfl hl.1 ⟨⟨Nat.le_of_ble_eq_true rfl, Nat.le_of_ble_eq_true rfl⟩, Nat.le_of_ble_eq_true rfl, Nat.le_refl _, Nat.le_refl _⟩ rfl dX3_turnsLeft_15 (fun z_15 h_15 => ?_)
  have h_15 : z_15 = rx u 8 ((u.1.2.2.1 8) - 1) ∧ ∀ K : Int, 0 ≤ K → RB K u 8 → -K ≤ z_15 ∧ z_15 ≤ K := h_15
  have hb_15 := h_15.2 80 (by omega) (p0)
  refine lv_aload_n SS.1 SS.2.1 dX3_turnsLeft_18 rfl (lv_at hl 1 rfl) ?_
  refine j_get SS hG hP 2 (v := .ref (q (9 + 5 * 8))) (C := RX3) (T := TX3) (N := 3) rfl rfl inX3 2 (by decide) (ref := "GridPolygons$Hull") kw_179 rfl rfl dX3_turnsLeft_19 ?_
  refine lv_iload_n SS.1 SS.2.1 dX3_turnsLeft_22 rfl (lv_at hl 0 rfl) ?_
  refine j_iconst SS dX3_turnsLeft_23 ?_
  refine j_isub SS (x := ((u.1.2.2.1 8) - 1)) (y := 1) dX3_turnsLeft_24 ?_
  refine j_uRi SS (As := [.int (J (((u.1.2.2.1 8) - 1) - 1))]) (rest := [.int (J z_15)]) (c_X8_x l D q u 8 (by omega) (((u.1.2.2.1 8) - 1) - 1) (show -2147483648 ≤ (((u.1.2.2.1 8) - 1) - 1) ∧ (((u.1.2.2.1 8) - 1) - 1) ≤ 2147483647 from (by omega))) mu_7_x kw_437 hG hP hP (ci := 7) (q0 := (9 + 5 * 8)) rfl (cw_ring (by omega)) rfl rfl hl.1 ⟨⟨Nat.le_of_ble_eq_true rfl, Nat.le_of_ble_eq_true rfl⟩, Nat.le_of_ble_eq_true rfl, Nat.le_refl _, Nat.le_refl _⟩ rfl dX3_turnsLeft_25 (fun z_25 h_25 => ?_)
  have h_25 : z_25 = rx u 8 (((u.1.2.2.1 8) - 1) - 1) ∧ ∀ K : Int, 0 ≤ K → RB K u 8 → -K ≤ z_25 ∧ z_25 ≤ K := h_25
  have hb_25 := h_25.2 80 (by omega) (p0)
  refine j_isub SS (x := z_15) (y := z_25) dX3_turnsLeft_28 ?_
  refine lv_istore (lv' := [(4, .int (J (z_15 - z_25))), (3, .int (J ((u.1.2.2.1 8) - 1))), (0, .ref (q 2)), (1, .int (J a)), (2, .int (J b))]) SS.1 SS.2.1 dX3_turnsLeft_29 hl (by decide) rfl (fun ls hl => ?_)
  refine lv_aload_n SS.1 SS.2.1 dX3_turnsLeft_31 rfl (lv_at hl 2 rfl) ?_
  refine j_get SS hG hP 2 (v := .ref (q (9 + 5 * 8))) (C := RX3) (T := TX3) (N := 3) rfl rfl inX3 2 (by decide) (ref := "GridPolygons$Hull") kw_179 rfl rfl dX3_turnsLeft_32 ?_
  refine lv_iload_n SS.1 SS.2.1 dX3_turnsLeft_35 rfl (lv_at hl 1 rfl) ?_
  refine j_uRi SS (As := [.int (J ((u.1.2.2.1 8) - 1))]) (rest := []) (c_X8_y l D q u 8 (by omega) ((u.1.2.2.1 8) - 1) (show -2147483648 ≤ ((u.1.2.2.1 8) - 1) ∧ ((u.1.2.2.1 8) - 1) ≤ 2147483647 from (by omega))) mu_7_y kw_443 hG hP hP (ci := 7) (q0 := (9 + 5 * 8)) rfl (cw_ring (by omega)) rfl rfl hl.1 ⟨⟨Nat.le_of_ble_eq_true rfl, Nat.le_of_ble_eq_true rfl⟩, Nat.le_of_ble_eq_true rfl, Nat.le_refl _, Nat.le_refl _⟩ rfl dX3_turnsLeft_36 (fun z_36 h_36 => ?_)
  have h_36 : z_36 = ry9 u 8 ((u.1.2.2.1 8) - 1) ∧ ∀ K : Int, 0 ≤ K → RB K u 8 → -K ≤ z_36 ∧ z_36 ≤ K := h_36
  have hb_36 := h_36.2 80 (by omega) (p0)
  refine lv_aload_n SS.1 SS.2.1 dX3_turnsLeft_39 rfl (lv_at hl 2 rfl) ?_
  refine j_get SS hG hP 2 (v := .ref (q (9 + 5 * 8))) (C := RX3) (T := TX3) (N := 3) rfl rfl inX3 2 (by decide) (ref := "GridPolygons$Hull") kw_179 rfl rfl dX3_turnsLeft_40 ?_
  refine lv_iload_n SS.1 SS.2.1 dX3_turnsLeft_43 rfl (lv_at hl 1 rfl) ?_
  refine j_iconst SS dX3_turnsLeft_44 ?_
  refine j_isub SS (x := ((u.1.2.2.1 8) - 1)) (y := 1) dX3_turnsLeft_45 ?_
  refine j_uRi SS (As := [.int (J (((u.1.2.2.1 8) - 1) - 1))]) (rest := [.int (J z_36)]) (c_X8_y l D q u 8 (by omega) (((u.1.2.2.1 8) - 1) - 1) (show -2147483648 ≤ (((u.1.2.2.1 8) - 1) - 1) ∧ (((u.1.2.2.1 8) - 1) - 1) ≤ 2147483647 from (by omega))) mu_7_y kw_443 hG hP hP (ci := 7) (q0 := (9 + 5 * 8)) rfl (cw_ring (by omega)) rfl rfl hl.1 ⟨⟨Nat.le_of_ble_eq_true rfl, Nat.le_of_ble_eq_true rfl⟩, Nat.le_of_ble_eq_true rfl, Nat.le_refl _, Nat.le_refl _⟩ rfl dX3_turnsLeft_46 (fun z_46 h_46 => ?_)
  have h_46 : z_46 = ry9 u 8 (((u.1.2.2.1 8) - 1) - 1) ∧ ∀ K : Int, 0 ≤ K → RB K u 8 → -K ≤ z_46 ∧ z_46 ≤ K := h_46
  have hb_46 := h_46.2 80 (by omega) (p0)
  refine j_isub SS (x := z_36) (y := z_46) dX3_turnsLeft_49 ?_
  refine lv_istore (lv' := [(5, .int (J (z_36 - z_46))), (4, .int (J (z_15 - z_25))), (3, .int (J ((u.1.2.2.1 8) - 1))), (0, .ref (q 2)), (1, .int (J a)), (2, .int (J b))]) SS.1 SS.2.1 dX3_turnsLeft_50 hl (by decide) rfl (fun ls hl => ?_)
  refine lv_iload SS.1 SS.2.1 dX3_turnsLeft_52 (lv_at hl 1 rfl) ?_
  refine lv_iload_n SS.1 SS.2.1 dX3_turnsLeft_54 rfl (lv_at hl 5 rfl) ?_
  refine lv_aload_n SS.1 SS.2.1 dX3_turnsLeft_55 rfl (lv_at hl 3 rfl) ?_
  refine j_get SS hG hP 2 (v := .ref (q (9 + 5 * 8))) (C := RX3) (T := TX3) (N := 3) rfl rfl inX3 2 (by decide) (ref := "GridPolygons$Hull") kw_179 rfl rfl dX3_turnsLeft_56 ?_
  refine lv_iload_n SS.1 SS.2.1 dX3_turnsLeft_59 rfl (lv_at hl 2 rfl) ?_
  refine j_uRi SS (As := [.int (J ((u.1.2.2.1 8) - 1))]) (rest := [.int (J b), .int (J (z_15 - z_25))]) (c_X8_y l D q u 8 (by omega) ((u.1.2.2.1 8) - 1) (show -2147483648 ≤ ((u.1.2.2.1 8) - 1) ∧ ((u.1.2.2.1 8) - 1) ≤ 2147483647 from (by omega))) mu_7_y kw_443 hG hP hP (ci := 7) (q0 := (9 + 5 * 8)) rfl (cw_ring (by omega)) rfl rfl hl.1 ⟨⟨Nat.le_of_ble_eq_true rfl, Nat.le_of_ble_eq_true rfl⟩, Nat.le_of_ble_eq_true rfl, Nat.le_refl _, Nat.le_refl _⟩ rfl dX3_turnsLeft_60 (fun z_60 h_60 => ?_)
  have h_60 : z_60 = ry9 u 8 ((u.1.2.2.1 8) - 1) ∧ ∀ K : Int, 0 ≤ K → RB K u 8 → -K ≤ z_60 ∧ z_60 ≤ K := h_60
  have hb_60 := h_60.2 80 (by omega) (p0)
  refine j_isub SS (x := b) (y := z_60) dX3_turnsLeft_63 ?_
  refine j_imul SS (x := (z_15 - z_25)) (y := (b - z_60)) dX3_turnsLeft_64 ?_
  refine lv_iload SS.1 SS.2.1 dX3_turnsLeft_65 (lv_at hl 0 rfl) ?_
  refine lv_iload_n SS.1 SS.2.1 dX3_turnsLeft_67 rfl (lv_at hl 4 rfl) ?_
  refine lv_aload_n SS.1 SS.2.1 dX3_turnsLeft_68 rfl (lv_at hl 3 rfl) ?_
  refine j_get SS hG hP 2 (v := .ref (q (9 + 5 * 8))) (C := RX3) (T := TX3) (N := 3) rfl rfl inX3 2 (by decide) (ref := "GridPolygons$Hull") kw_179 rfl rfl dX3_turnsLeft_69 ?_
  refine lv_iload_n SS.1 SS.2.1 dX3_turnsLeft_72 rfl (lv_at hl 2 rfl) ?_
  refine j_uRi SS (As := [.int (J ((u.1.2.2.1 8) - 1))]) (rest := [.int (J a), .int (J (z_36 - z_46)), .int (J ((z_15 - z_25) * (b - z_60)))]) (c_X8_x l D q u 8 (by omega) ((u.1.2.2.1 8) - 1) (show -2147483648 ≤ ((u.1.2.2.1 8) - 1) ∧ ((u.1.2.2.1 8) - 1) ≤ 2147483647 from (by omega))) mu_7_x kw_437 hG hP hP (ci := 7) (q0 := (9 + 5 * 8)) rfl (cw_ring (by omega)) rfl rfl hl.1 ⟨⟨Nat.le_of_ble_eq_true rfl, Nat.le_of_ble_eq_true rfl⟩, Nat.le_of_ble_eq_true rfl, Nat.le_refl _, Nat.le_refl _⟩ rfl dX3_turnsLeft_73 (fun z_73 h_73 => ?_)
  have h_73 : z_73 = rx u 8 ((u.1.2.2.1 8) - 1) ∧ ∀ K : Int, 0 ≤ K → RB K u 8 → -K ≤ z_73 ∧ z_73 ≤ K := h_73
  have hb_73 := h_73.2 80 (by omega) (p0)
  refine j_isub SS (x := a) (y := z_73) dX3_turnsLeft_76 ?_
  refine j_imul SS (x := (z_36 - z_46)) (y := (a - z_73)) dX3_turnsLeft_77 ?_
  refine j_isub SS (x := ((z_15 - z_25) * (b - z_60))) (y := ((z_36 - z_46) * (a - z_73))) dX3_turnsLeft_78 ?_
  have m1 := mulb (A := 160) (B := 160) (a := z_15 - z_25) (b := b - z_60) (by omega) (by omega)
  have m2 := mulb (A := 160) (B := 160) (a := z_36 - z_46) (b := a - z_73) (by omega) (by omega)
  have et : (rx u 8 (u.1.2.2.1 8 - 1) - rx u 8 (u.1.2.2.1 8 - 1 - 1)) * (b - ry9 u 8 (u.1.2.2.1 8 - 1)) - (ry9 u 8 (u.1.2.2.1 8 - 1) - ry9 u 8 (u.1.2.2.1 8 - 1 - 1)) * (a - rx u 8 (u.1.2.2.1 8 - 1)) = (z_15 - z_25) * (b - z_60) - (z_36 - z_46) * (a - z_73) := by rw [h_15.1, h_25.1, h_60.1, h_36.1, h_46.1, h_73.1]
  refine j_if_le SS (tgt := 86) (x := (((z_15 - z_25) * (b - z_60)) - ((z_36 - z_46) * (a - z_73)))) dX3_turnsLeft_79 (by decide) (by omega) (fun c_79 => ?_) (fun c_79 => ?_)
  · skip
    refine j_iconst SS dX3_turnsLeft_86 ?_
    exact W.zret SS.1 SS.2.1 hr (j_nz (by decide)) (fun t0 ht hW => ⟨_, rfl, ⟨0, rfl, (by rw [et]; omega)⟩, ht⟩) (fun _ h => nomatch h) dX3_turnsLeft_87 hlk
  · skip
    refine j_iconst SS dX3_turnsLeft_82 ?_
    refine lv_goto (tgt := 87) SS.1 SS.2.1 dX3_turnsLeft_83 (by decide) ?_
    exact W.zret SS.1 SS.2.1 hr (j_nz (by decide)) (fun t0 ht hW => ⟨_, rfl, ⟨1, rfl, (by rw [et]; omega)⟩, ht⟩) (fun _ h => nomatch h) dX3_turnsLeft_87 hlk


/-- what holds of the class between calls -/
def CS1 (u : CS) : Prop := ∀ i : Nat, i < 8 → RB 40 u i ∧ HB (u.1.2.2.2.1 i) ∧ -2147483648 ≤ u.1.2.2.2.2 i ∧ u.1.2.2.2.2 i ≤ 2147483647
def CCh (u : MS) : Prop := (∀ k : Nat, 0 ≤ u.1 5 k ∧ u.1 5 k ≤ 1000000) ∧ (∀ k : Nat, 0 ≤ u.1 6 k ∧ u.1 6 k ≤ 80) ∧ -2147483648 ≤ u.2.2 12 ∧ u.2.2 12 ≤ 2147483647
def CMe (u : MS) : Prop := (0 ≤ u.2.2 20 ∧ u.2.2 20 ≤ 63) ∧ (0 ≤ u.2.2 21 ∧ u.2.2 21 ≤ 756) ∧ (∀ k : Nat, (0 ≤ u.1 2 k ∧ u.1 2 k ≤ 12) ∧ 0 ≤ u.1 3 k ∧ u.1 3 k ≤ 12) ∧ ∀ k : Nat, -1 ≤ u.1 4 k ∧ u.1 4 k ≤ 63
def CCu (u : MS) : Prop := (0 ≤ u.2.2 22 ∧ u.2.2 22 ≤ 1500) ∧ (u.2.2 23 = 0 ∨ u.2.2 23 = 1) ∧ (-2147483648 ≤ u.2.2 24 ∧ u.2.2 24 ≤ 2147483647) ∧ ∀ k : Nat, 0 ≤ u.1 8 k ∧ u.1 8 k ≤ 1500
def CCo (u : MS) : Prop := (0 ≤ u.2.2 25 ∧ u.2.2 25 ≤ 80) ∧ -2147483648 ≤ u.2.2 26 ∧ u.2.2 26 ≤ 2147483647
def CI (u : CS) : Prop := CS1 u ∧ (RB 80 u 8 ∧ RB 40 u 9 ∧ RB 40 u 10) ∧ HU_ (u.2.1 0) (u.2.1 1) ∧ (-2147483648 ≤ u.2.2.2 0 ∧ u.2.2.2 0 ≤ 2147483647) ∧ CCh u.2 ∧ CMe u.2 ∧ CCu u.2 ∧ CCo u.2
theorem RB_K {K L : Int} {u : CS} {r : Nat} (h : RB K u r) (hl : K ≤ L) : RB L u r := ⟨h.1, fun i => by have := h.2 i; omega⟩
theorem CI_s {u : CS} {i : Nat} (h : CI u) (hi : i < 8) : RB 80 u i := RB_K (h.1 i hi).1 (by decide)
theorem CI_40 {u : CS} {i : Nat} (h : CI u) (hi : i < 8) : RB 40 u i := (h.1 i hi).1
/-- the hull is closed anew -/
theorem CI_8 {u : CS} {n : Int} {f g : Nat → Int} (h : CI u) (hn : 0 ≤ n ∧ n ≤ 323) (hv : RV 80 f g) : CI (sY (sX (sC u 8 n) 8 f) 8 g) := by
  obtain ⟨h1, h2, h3⟩ := h
  refine ⟨fun i hi => ?_, ⟨⟨hn, hv⟩, h2.2⟩, h3⟩
  have q := h1 i hi
  have e1 : (sY (sX (sC u 8 n) 8 f) 8 g).1.2.2.1 i = u.1.2.2.1 i := if_neg (by omega)
  have e2 : (sY (sX (sC u 8 n) 8 f) 8 g).1.1 i = u.1.1 i := if_neg (by omega)
  have e3 : (sY (sX (sC u 8 n) 8 f) 8 g).1.2.1 i = u.1.2.1 i := if_neg (by omega)
  exact ⟨by unfold RB; rw [e1, e2, e3]; exact q.1, q.2⟩
theorem CI_h {u : CS} {f g : Nat → Int} (h : CI u) (hv : HU_ f g) : CI (sI (sI u 0 f) 1 g) := ⟨h.1, h.2.1, hv, h.2.2.2⟩
/-- a shape is made anew -/
theorem CI_sh {u : CS} {i : Nat} {n t s : Int} {f g k : Nat → Int} (h : CI u) (hi : i < 8) (hn : 0 ≤ n ∧ n ≤ 24) (hv : RV 40 f g) (hk : HB k) (ht : -2147483648 ≤ t ∧ t ≤ 2147483647) (hs : -2147483648 ≤ s ∧ s ≤ 2147483647) : CI (sV (sT (sH (sY (sX (sC u i n) i f) i g) i k) i t) 0 s) := by
  obtain ⟨h1, h2, h3, h4, h5⟩ := h
  have w : ∀ r : Nat, 8 ≤ r → ∀ K, RB K u r → RB K (sV (sT (sH (sY (sX (sC u i n) i f) i g) i k) i t) 0 s) r := by
    intro r hr K q
    have e1 : (sV (sT (sH (sY (sX (sC u i n) i f) i g) i k) i t) 0 s).1.2.2.1 r = u.1.2.2.1 r := if_neg (by omega)
    have e2 : (sV (sT (sH (sY (sX (sC u i n) i f) i g) i k) i t) 0 s).1.1 r = u.1.1 r := if_neg (by omega)
    have e3 : (sV (sT (sH (sY (sX (sC u i n) i f) i g) i k) i t) 0 s).1.2.1 r = u.1.2.1 r := if_neg (by omega)
    unfold RB; rw [e1, e2, e3]; exact q
  refine ⟨fun j hj => ?_, ⟨w 8 (by omega) 80 h2.1, w 9 (by omega) 40 h2.2.1, w 10 (by omega) 40 h2.2.2⟩, h3, hs, h5⟩
  have q := h1 j hj
  by_cases e : j = i
  · subst e
    have e1 : (sV (sT (sH (sY (sX (sC u j n) j f) j g) j k) j t) 0 s).1.2.2.1 j = n := if_pos rfl
    have e2 : (sV (sT (sH (sY (sX (sC u j n) j f) j g) j k) j t) 0 s).1.1 j = f := if_pos rfl
    have e3 : (sV (sT (sH (sY (sX (sC u j n) j f) j g) j k) j t) 0 s).1.2.1 j = g := if_pos rfl
    have e4 : (sV (sT (sH (sY (sX (sC u j n) j f) j g) j k) j t) 0 s).1.2.2.2.1 j = k := if_pos rfl
    have e5 : (sV (sT (sH (sY (sX (sC u j n) j f) j g) j k) j t) 0 s).1.2.2.2.2 j = t := if_pos rfl
    refine ⟨?_, by rw [e4]; exact hk, by rw [e5]; exact ht⟩
    unfold RB; rw [e1, e2, e3, rl_s hj]
    exact ⟨hn, hv⟩
  · have e1 : (sV (sT (sH (sY (sX (sC u i n) i f) i g) i k) i t) 0 s).1.2.2.1 j = u.1.2.2.1 j := if_neg e
    have e2 : (sV (sT (sH (sY (sX (sC u i n) i f) i g) i k) i t) 0 s).1.1 j = u.1.1 j := if_neg e
    have e3 : (sV (sT (sH (sY (sX (sC u i n) i f) i g) i k) i t) 0 s).1.2.1 j = u.1.2.1 j := if_neg e
    have e4 : (sV (sT (sH (sY (sX (sC u i n) i f) i g) i k) i t) 0 s).1.2.2.2.1 j = u.1.2.2.2.1 j := if_neg e
    have e5 : (sV (sT (sH (sY (sX (sC u i n) i f) i g) i k) i t) 0 s).1.2.2.2.2 j = u.1.2.2.2.2 j := if_neg e
    refine ⟨by unfold RB; rw [e1, e2, e3]; exact q.1, by rw [e4]; exact q.2.1, by rw [e5]; exact q.2.2⟩
theorem CI_id {u : CS} {i : Nat} (h : CI u) (hi : i < 8) : CI (sV (sT (sH (sY (sX (sC u i (u.1.2.2.1 i)) i (u.1.1 i)) i (u.1.2.1 i)) i (u.1.2.2.2.1 i)) i (u.1.2.2.2.2 i)) 0 (u.2.2.2 0)) := by
  simp only [sC_id, sX_id, sY_id, sH_id, sT_id, sV_id]; exact h
theorem HB_f {f : Nat → Int} (h : HB f) : HB (jf f 0 40) := fun k => by unfold jf; have := h k; split <;> omega

set_option maxHeartbeats 4000000 in
set_option maxRecDepth 100000 in
theorem c_X11_shapeAt (l : Launch) (D : JD) (q : Nat → Nat) (u : CS) (s : Int) (p0 : -2147483648 ≤ s ∧ s ≤ 2147483647) : Met l yX11_shapeAt (jw yX11_shapeAt cX11_shapeAt 2 (some (.object "GridPolygons$Shape"))) (jr 0 0) (jP [.ref (q 0), .int (J s)] D (fun H => va_P D.1 j_cl (cW D q u) H)) (va_Se (fun i => q (8 + 5 * i)) (fun r => (0 ≤ s ∧ s ≤ 7 ∧ r = some s.toNat) ∨ (¬ (0 ≤ s ∧ s ≤ 7) ∧ r = none))) 0 0 (fun _ => False) := by
  refine Met.ofW (cc := cX11_shapeAt) (maxL := 2) (ret := (some (.object "GridPolygons$Shape"))) (by decide) rfl ?_
  intro pr en st mi args below meth co s₁ B hml hv
  obtain ⟨rfl, hG, hP⟩ := hv
  have hr := B.returns
  have hlk := B.notSynchronized
  have SS : jS pr mi co cX11_shapeAt 2 st _ RX11 := ⟨B.exec, B.bytes, hml, findClass_of_methodNamed B.named, fun w hw => atoms_spec (ws := (jw yX11_shapeAt cX11_shapeAt 2 (some (.object "GridPolygons$Shape")))) B.pre w (List.mem_cons_of_mem _ hw)⟩
  have hl := lv_entry ([.ref (q 0), .int (J s)]) (n := 2) (Nat.le_of_ble_eq_true rfl)
  rw [lg_entry_eq]
  generalize (lg_sl ([.ref (q 0), .int (J s)]) ++ List.replicate (2 - (lg_sl ([.ref (q 0), .int (J s)])).length) Slot.unset).toArray = ls at hl ⊢
  have hl : lv_has ls 2 [(0, .ref (q 0)), (1, .int (J s))] := hl
  refine lv_iload_n SS.1 SS.2.1 dX11_shapeAt_0 rfl (lv_at hl 1 rfl) ?_
  refine j_if_lt SS (tgt := 13) (x := s) dX11_shapeAt_1 (by decide) (by omega) (fun c_1 => ?_) (fun c_1 => ?_)
  · skip
    refine lv_null SS.1 SS.2.1 dX11_shapeAt_13 ?_
    refine lv_goto (tgt := 23) SS.1 SS.2.1 dX11_shapeAt_14 (by decide) ?_
    exact W.aret SS.1 SS.2.1 hr (Or.inl ⟨_, rfl⟩) (Or.inl rfl) (fun t0 ht hW => ⟨none, rfl, (Or.inr ⟨by omega, rfl⟩), ht⟩) (fun _ h => nomatch h) dX11_shapeAt_23 hlk
  · skip
    refine lv_iload_n SS.1 SS.2.1 dX11_shapeAt_4 rfl (lv_at hl 1 rfl) ?_
    refine lv_aload_n SS.1 SS.2.1 dX11_shapeAt_5 rfl (lv_at hl 0 rfl) ?_
    refine j_get SS hG hP 0 (v := .ref (q 1)) (C := RX11) (T := TX11) (N := 8) rfl rfl inX11 0 (by decide) (ref := "GridPolygons") kw_385 rfl rfl dX11_shapeAt_6 ?_
    refine va_alen SS.1 SS.2.1 hG.1 hP 1 2 rfl rfl (v := J (8 : Int)) (by first | rfl | exact J_nat _) dX11_shapeAt_9 ?_
    refine j_icmp_lt SS (tgt := 17) (x := s) (y := 8) dX11_shapeAt_10 (by decide) (by omega) (by decide) (fun c_10 => ?_) (fun c_10 => ?_)
    · skip
      refine lv_aload_n SS.1 SS.2.1 dX11_shapeAt_17 rfl (lv_at hl 0 rfl) ?_
      refine j_get SS hG hP 0 (v := .ref (q 1)) (C := RX11) (T := TX11) (N := 8) rfl rfl inX11 0 (by decide) (ref := "GridPolygons") kw_385 rfl rfl dX11_shapeAt_18 ?_
      refine lv_iload_n SS.1 SS.2.1 dX11_shapeAt_21 rfl (lv_at hl 1 rfl) ?_
      refine va_aldq SS.1 SS.2.1 hG.1 hP 1 2 (f := fun i => some (q (8 + 5 * i))) rfl rfl (J_in (n := 8) (by omega) (by omega)) dX11_shapeAt_22 ?_
      rw [J_clamp (by omega)]
      show W pr l en (headSpec (jw yX11_shapeAt cX11_shapeAt 2 (some (.object "GridPolygons$Shape"))) (jr 0 0)).room st mi (([.ref (q 0), .int (J s)] : List Value).toArray) below meth co st.heap [] 0 0 (MQ below (va_Se (fun i => q (8 + 5 * i)) (fun r => (0 ≤ s ∧ s ≤ 7 ∧ r = some s.toNat) ∨ (¬ (0 ≤ s ∧ s ≤ 7) ∧ r = none))) (([.ref (q 0), .int (J s)] : List Value).toArray) st 0 0 (fun _ => False)) (F0 mi 23 ls (.ref (q (8 + 5 * (s).toNat)) :: []))
      exact W.aret SS.1 SS.2.1 hr (Or.inl ⟨_, rfl⟩) (Or.inr ⟨_, rfl⟩) (fun t0 ht hW => ⟨some (s).toNat, rfl, (Or.inl ⟨by omega, by omega, rfl⟩), ht⟩) (fun _ h => nomatch h) dX11_shapeAt_23 hlk
    · skip
      refine lv_null SS.1 SS.2.1 dX11_shapeAt_13 ?_
      refine lv_goto (tgt := 23) SS.1 SS.2.1 dX11_shapeAt_14 (by decide) ?_
      exact W.aret SS.1 SS.2.1 hr (Or.inl ⟨_, rfl⟩) (Or.inl rfl) (fun t0 ht hW => ⟨none, rfl, (Or.inr ⟨by omega, rfl⟩), ht⟩) (fun _ h => nomatch h) dX11_shapeAt_23 hlk



set_option maxHeartbeats 4000000 in
set_option maxRecDepth 100000 in
theorem c_X11_isWay (l : Launch) (D : JD) (a : Int) (b : Int) (p0 : -2147483648 ≤ a ∧ a ≤ 2147483647) (p1 : -2147483648 ≤ b ∧ b ≤ 2147483647) : Met l yX11_isWay (jw yX11_isWay cX11_isWay 2 (some .boolean)) (jr 2 45) (jP [.int (J a), .int (J b)] D (fun _ => True)) (jRi (fun z => (z = 1 ∧ (0 ≤ a ∧ a ≤ 100 ∧ -100 ≤ b ∧ b ≤ 100) ∧ ((a = 0 ∧ b = 1) ∨ (a ≠ 0 ∧ (Int.gcd a b : Int) = 1))) ∨ (z = 0 ∧ ¬ ((0 ≤ a ∧ a ≤ 100 ∧ -100 ≤ b ∧ b ≤ 100) ∧ ((a = 0 ∧ b = 1) ∨ (a ≠ 0 ∧ (Int.gcd a b : Int) = 1)))))) 0 0 (fun _ => False) := by
  refine Met.ofW (cc := cX11_isWay) (maxL := 2) (ret := (some .boolean)) (by decide) rfl ?_
  intro pr en st mi args below meth co s₁ B hml hv
  obtain ⟨rfl, hG, hP⟩ := hv
  have hr := B.returns
  have hlk := B.notSynchronized
  have SS : jS pr mi co cX11_isWay 2 st _ RX11 := ⟨B.exec, B.bytes, hml, findClass_of_methodNamed B.named, fun w hw => atoms_spec (ws := (jw yX11_isWay cX11_isWay 2 (some .boolean))) B.pre w (List.mem_cons_of_mem _ hw)⟩
  have hl := lv_entry ([.int (J a), .int (J b)]) (n := 2) (Nat.le_of_ble_eq_true rfl)
  rw [lg_entry_eq]
  generalize (lg_sl ([.int (J a), .int (J b)]) ++ List.replicate (2 - (lg_sl ([.int (J a), .int (J b)])).length) Slot.unset).toArray = ls at hl ⊢
  have hl : lv_has ls 2 [(0, .int (J a)), (1, .int (J b))] := hl
  refine lv_iload_n SS.1 SS.2.1 dX11_isWay_0 rfl (lv_at hl 0 rfl) ?_
  refine j_if_lt SS (tgt := 22) (x := a) dX11_isWay_1 (by decide) (by omega) (fun c_1 => ?_) (fun c_1 => ?_)
  · skip
    refine j_iconst SS dX11_isWay_22 ?_
    exact W.zret SS.1 SS.2.1 hr (j_nz (by decide)) (fun t0 ht hW => ⟨_, rfl, ⟨0, rfl, (by omega)⟩, ht⟩) (fun _ h => nomatch h) dX11_isWay_23 hlk
  · skip
    refine lv_iload_n SS.1 SS.2.1 dX11_isWay_4 rfl (lv_at hl 0 rfl) ?_
    refine j_bipush SS dX11_isWay_5 (by decide +kernel) ?_
    refine j_icmp_gt SS (tgt := 22) (x := a) (y := 100) dX11_isWay_7 (by decide) (by omega) (by decide) (fun c_7 => ?_) (fun c_7 => ?_)
    · skip
      refine j_iconst SS dX11_isWay_22 ?_
      exact W.zret SS.1 SS.2.1 hr (j_nz (by decide)) (fun t0 ht hW => ⟨_, rfl, ⟨0, rfl, (by omega)⟩, ht⟩) (fun _ h => nomatch h) dX11_isWay_23 hlk
    · skip
      refine lv_iload_n SS.1 SS.2.1 dX11_isWay_10 rfl (lv_at hl 1 rfl) ?_
      refine j_bipush SS dX11_isWay_11 (by decide +kernel) ?_
      refine j_icmp_lt SS (tgt := 22) (x := b) (y := (-100)) dX11_isWay_13 (by decide) (by omega) (by decide) (fun c_13 => ?_) (fun c_13 => ?_)
      · skip
        refine j_iconst SS dX11_isWay_22 ?_
        exact W.zret SS.1 SS.2.1 hr (j_nz (by decide)) (fun t0 ht hW => ⟨_, rfl, ⟨0, rfl, (by omega)⟩, ht⟩) (fun _ h => nomatch h) dX11_isWay_23 hlk
      · skip
        refine lv_iload_n SS.1 SS.2.1 dX11_isWay_16 rfl (lv_at hl 1 rfl) ?_
        refine j_bipush SS dX11_isWay_17 (by decide +kernel) ?_
        refine j_icmp_le SS (tgt := 24) (x := b) (y := 100) dX11_isWay_19 (by decide) (by omega) (by decide) (fun c_19 => ?_) (fun c_19 => ?_)
        · skip
          refine lv_iload_n SS.1 SS.2.1 dX11_isWay_24 rfl (lv_at hl 0 rfl) ?_
          refine j_if_ne SS (tgt := 41) (x := a) dX11_isWay_25 (by decide) (by omega) (fun c_25 => ?_) (fun c_25 => ?_)
          · skip
            refine lv_iload_n SS.1 SS.2.1 dX11_isWay_41 rfl (lv_at hl 0 rfl) ?_
            refine lv_iload_n SS.1 SS.2.1 dX11_isWay_42 rfl (lv_at hl 1 rfl) ?_
            refine j_sRi SS (As := [.int (J a), .int (J b)]) (rest := []) (c_X11_gcd l D  a b (show -100000 ≤ a ∧ a ≤ 100000 from (by omega)) (show -100000 ≤ b ∧ b ≤ 100000 from (by omega))) mf_X11_gcd kw_630 hG trivial rfl hl.1 ⟨⟨Nat.le_of_ble_eq_true rfl, Nat.le_of_ble_eq_true rfl⟩, Nat.le_of_ble_eq_true rfl, Nat.le_refl _, Nat.le_refl _⟩ rfl dX11_isWay_43 (fun z_43 h_43 => ?_)
            have h_43 : z_43 = (Int.gcd a b : Int) := h_43
            have hg := gcd_b (a := a) (b := b) (K := 100) (by omega) (by omega)
            rw [← h_43] at hg
            refine j_iconst SS dX11_isWay_46 ?_
            refine j_icmp_ne SS (tgt := 54) (x := z_43) (y := 1) dX11_isWay_47 (by decide) (by omega) (by decide) (fun c_47 => ?_) (fun c_47 => ?_)
            · skip
              refine j_iconst SS dX11_isWay_54 ?_
              exact W.zret SS.1 SS.2.1 hr (j_nz (by decide)) (fun t0 ht hW => ⟨_, rfl, ⟨0, rfl, (by omega)⟩, ht⟩) (fun _ h => nomatch h) dX11_isWay_55 hlk
            · skip
              refine j_iconst SS dX11_isWay_50 ?_
              refine lv_goto (tgt := 55) SS.1 SS.2.1 dX11_isWay_51 (by decide) ?_
              exact W.zret SS.1 SS.2.1 hr (j_nz (by decide)) (fun t0 ht hW => ⟨_, rfl, ⟨1, rfl, (by omega)⟩, ht⟩) (fun _ h => nomatch h) dX11_isWay_55 hlk
          · skip
            refine lv_iload_n SS.1 SS.2.1 dX11_isWay_28 rfl (lv_at hl 1 rfl) ?_
            refine j_iconst SS dX11_isWay_29 ?_
            refine j_icmp_ne SS (tgt := 37) (x := b) (y := 1) dX11_isWay_30 (by decide) (by omega) (by decide) (fun c_30 => ?_) (fun c_30 => ?_)
            · skip
              refine j_iconst SS dX11_isWay_37 ?_
              refine lv_goto (tgt := 55) SS.1 SS.2.1 dX11_isWay_38 (by decide) ?_
              exact W.zret SS.1 SS.2.1 hr (j_nz (by decide)) (fun t0 ht hW => ⟨_, rfl, ⟨0, rfl, (by omega)⟩, ht⟩) (fun _ h => nomatch h) dX11_isWay_55 hlk
            · skip
              refine j_iconst SS dX11_isWay_33 ?_
              refine lv_goto (tgt := 55) SS.1 SS.2.1 dX11_isWay_34 (by decide) ?_
              exact W.zret SS.1 SS.2.1 hr (j_nz (by decide)) (fun t0 ht hW => ⟨_, rfl, ⟨1, rfl, (by omega)⟩, ht⟩) (fun _ h => nomatch h) dX11_isWay_55 hlk
        · skip
          refine j_iconst SS dX11_isWay_22 ?_
          exact W.zret SS.1 SS.2.1 hr (j_nz (by decide)) (fun t0 ht hW => ⟨_, rfl, ⟨0, rfl, (by omega)⟩, ht⟩) (fun _ h => nomatch h) dX11_isWay_23 hlk


theorem CI_sl {u : CS} {a b c d e f : Int} (h : CI u) : CI (sV (sV (sV (sV (sV (sV u 4 a) 5 b) 6 c) 7 d) 8 e) 9 f) := h


theorem tm_a {a b K : Int} (h : -K ≤ a ∧ a ≤ K) : -K ≤ a.tmod b ∧ a.tmod b ≤ K := by
  have e : (a.tmod b).natAbs = a.natAbs % b.natAbs := Int.natAbs_tmod a b
  have q : a.natAbs % b.natAbs ≤ a.natAbs := Nat.mod_le _ _
  omega
theorem ar_b {u : CS} {r : Nat} {i t : Int} (h : 0 ≤ u.1.2.2.1 r ∧ u.1.2.2.1 r ≤ 400) (ht : t = 1 ∨ t = -1) (hi : -1000 ≤ i) : -1 ≤ ar u r i t ∧ ar u r i t ≤ 400 := by
  unfold ar; split
  · omega
  · split <;> omega

set_option maxHeartbeats 4000000 in
set_option maxRecDepth 100000 in
theorem c_X11_segmentsOf (l : Launch) (D : JD) (q : Nat → Nat) (u : CS) (r : Nat) (hr : r ≤ 8) (p0 : RB 40 u r) : Met l yX11_segmentsOf (jw yX11_segmentsOf cX11_segmentsOf 1 (some .int)) (jr 4 88) (jP [.ref (q (9 + 5 * r))] D (fun H => va_P D.1 j_cl (cW D q u) H)) (jRi (fun z => z = (3 * rA u r + rE u r).tdiv 2 ∧ -50000000 ≤ z ∧ z ≤ 50000000)) 0 0 (fun _ => False) := by
  refine Met.ofW (cc := cX11_segmentsOf) (maxL := 1) (ret := (some .int)) (by decide) rfl ?_
  intro pr en st mi args below meth co s₁ B hml hv
  obtain ⟨rfl, hG, hP⟩ := hv
  have hr := B.returns
  have hlk := B.notSynchronized
  have SS : jS pr mi co cX11_segmentsOf 1 st _ RX11 := ⟨B.exec, B.bytes, hml, findClass_of_methodNamed B.named, fun w hw => atoms_spec (ws := (jw yX11_segmentsOf cX11_segmentsOf 1 (some .int))) B.pre w (List.mem_cons_of_mem _ hw)⟩
  have hl := lv_entry ([.ref (q (9 + 5 * r))]) (n := 1) (Nat.le_of_ble_eq_true rfl)
  rw [lg_entry_eq]
  generalize (lg_sl ([.ref (q (9 + 5 * r))]) ++ List.replicate (1 - (lg_sl ([.ref (q (9 + 5 * r))])).length) Slot.unset).toArray = ls at hl ⊢
  have hl : lv_has ls 1 [(0, .ref (q (9 + 5 * r)))] := hl
  have hc := p0.1
  have hrl := rl_b r
  refine j_iconst SS dX11_segmentsOf_0 ?_
  refine lv_aload_n SS.1 SS.2.1 dX11_segmentsOf_1 rfl (lv_at hl 0 rfl) ?_
  refine j_vRi SS (As := []) (rest := [.int (J 3)]) (c_X7_area l D q u r (by omega) (40 : Int)  (show 0 ≤ (40 : Int) ∧ (40 : Int) ≤ 80 from (by omega)) (show RB (40 : Int) u r from (p0))) mf_X7_area kw_517 hG hP hP (ci := 7) (q0 := (9 + 5 * r)) rfl (cw_ring (by omega)) rfl rfl hl.1 ⟨⟨Nat.le_of_ble_eq_true rfl, Nat.le_of_ble_eq_true rfl⟩, Nat.le_of_ble_eq_true rfl, Nat.le_refl _, Nat.le_refl _⟩ rfl dX11_segmentsOf_2 (fun z_2 h_2 => ?_)
  have h_2 : z_2 = rA u r ∧ -10000000 ≤ z_2 ∧ z_2 ≤ 10000000 := h_2
  refine j_imul SS (x := 3) (y := z_2) dX11_segmentsOf_5 ?_
  refine lv_aload_n SS.1 SS.2.1 dX11_segmentsOf_6 rfl (lv_at hl 0 rfl) ?_
  refine j_vRi SS (As := []) (rest := [.int (J (3 * z_2))]) (c_X7_onEdge l D q u r (by omega) (40 : Int)  (show 0 ≤ (40 : Int) ∧ (40 : Int) ≤ 80 from (by omega)) (show RB (40 : Int) u r from (p0))) mf_X7_onEdge kw_533 hG hP hP (ci := 7) (q0 := (9 + 5 * r)) rfl (cw_ring (by omega)) rfl rfl hl.1 ⟨⟨Nat.le_of_ble_eq_true rfl, Nat.le_of_ble_eq_true rfl⟩, Nat.le_of_ble_eq_true rfl, Nat.le_refl _, Nat.le_refl _⟩ rfl dX11_segmentsOf_7 (fun z_7 h_7 => ?_)
  have h_7 : z_7 = rE u r ∧ 0 ≤ z_7 ∧ z_7 ≤ 60000 := h_7
  refine j_iadd SS (x := (3 * z_2)) (y := z_7) dX11_segmentsOf_10 ?_
  refine j_iconst SS dX11_segmentsOf_11 ?_
  have td := td_half (a := 3 * z_2 + z_7) (K := 40000000) (by omega)
  refine j_idiv SS (x := ((3 * z_2) + z_7)) (y := 2) dX11_segmentsOf_12 (by omega) (by decide) (by decide) ?_
  exact W.iret SS.1 SS.2.1 hr (fun t0 ht hW => ⟨_, rfl, ⟨(Int.tdiv ((3 * z_2) + z_7) 2), rfl, (⟨by rw [h_2.1, h_7.1], by omega, by omega⟩)⟩, ht⟩) (fun _ h => nomatch h) dX11_segmentsOf_13 hlk

theorem CI_lw {u : CS} {a b c : Int} (h : CI u) : CI (sV (sV (sV u 1 a) 2 b) 3 c) := h

