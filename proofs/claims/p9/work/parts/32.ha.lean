
def RV (K : Int) (f g : Nat → Int) : Prop := ∀ i : Nat, (-K ≤ f i ∧ f i ≤ K) ∧ -K ≤ g i ∧ g i ≤ K
theorem RV_put {K : Int} {f g : Nat → Int} {k : Nat} {a b : Int} (h : RV K f g) (ha : -K ≤ a ∧ a ≤ K) (hb : -K ≤ b ∧ b ≤ K) : RV K (upI f k a) (upI g k b) := by
  intro i
  by_cases e : i = k
  · rw [e, upI_s, upI_s]; exact ⟨ha, hb⟩
  · rw [upI_n e, upI_n e]; exact h i
/-- the columns: the least and the greatest that were taken -/
def HU_ (f g : Nat → Int) : Prop := ∀ i : Nat, (-80 ≤ f i ∧ f i ≤ 81) ∧ -81 ≤ g i ∧ g i ≤ 80
theorem HU_f {f g : Nat → Int} (h : HU_ f g) : HU_ (jf f 81 161) (jf g (-81) 161) := by
  intro i
  have := h i
  unfold jf
  split <;> omega
theorem HU_p {f g : Nat → Int} {k : Nat} {a b : Int} (h : HU_ f g) (ha : -80 ≤ a ∧ a ≤ 81) (hb : -81 ≤ b ∧ b ≤ 80) : HU_ (upI f k a) (upI g k b) := by
  intro i
  by_cases e : i = k
  · rw [e, upI_s, upI_s]; exact ⟨ha, hb⟩
  · rw [upI_n e, upI_n e]; exact h i
theorem rl8 : (rl 8 : Int) = 323 := rfl
/-- behind an append -/
theorem ap_b {K : Int} {f0 g0 f g : Nat → Int} {n0 n x y m : Int} (h : RV K f0 g0) (h0 : 0 ≤ n0 ∧ n0 ≤ m) (hx : -K ≤ x ∧ x ≤ K) (hy : -K ≤ y ∧ y ≤ K) (hp : (n0 < m ∧ f = upI f0 n0.toNat x ∧ g = upI g0 n0.toNat y ∧ n = n0 + 1) ∨ (m ≤ n0 ∧ f = f0 ∧ g = g0 ∧ n = n0)) : (0 ≤ n ∧ n ≤ m) ∧ RV K f g := by
  rcases hp with ⟨a, e1, e2, e3⟩ | ⟨a, e1, e2, e3⟩
  · rw [e1, e2]; exact ⟨by omega, RV_put h hx hy⟩
  · rw [e1, e2]; exact ⟨by omega, h⟩

set_option maxHeartbeats 4000000 in
set_option maxRecDepth 100000 in
theorem c_X3_begin (l : Launch) (D : JD) (q : Nat → Nat) (u : CS) (A : Nat → Prop) (hD : va_D A (cW D q u)) (p0 : HU_ (u.2.1 0) (u.2.1 1)) : Met l yX3_begin (jw yX3_begin cX3_begin 1 none) (jr 1 23) (jP [.ref (q 2)] D (fun H => va_P D.1 j_cl (cW D q u) H)) (jWv (fun u' => ∃ f : Nat → Int, ∃ g : Nat → Int, u' = (sI (sI u 0 f) 1 g) ∧ (f = jf (u.2.1 0) 81 161 ∧ g = jf (u.2.1 1) (-81) 161 ∧ HU_ f g)) (fun u' H => va_P D.1 j_cl (cW D q u') H) A) 0 0 A := by
  refine Met.ofW (cc := cX3_begin) (maxL := 1) (ret := none) (by decide) rfl ?_
  intro pr en st mi args below meth co s₁ B hml hv
  obtain ⟨rfl, hG, hP⟩ := hv
  have hr := B.returns
  have hlk := B.notSynchronized
  have SS : jS pr mi co cX3_begin 1 st _ RX3 := ⟨B.exec, B.bytes, hml, findClass_of_methodNamed B.named, fun w hw => atoms_spec (ws := (jw yX3_begin cX3_begin 1 none)) B.pre w (List.mem_cons_of_mem _ hw)⟩
  have hl := lv_entry ([.ref (q 2)]) (n := 1) (Nat.le_of_ble_eq_true rfl)
  rw [lg_entry_eq]
  generalize (lg_sl ([.ref (q 2)]) ++ List.replicate (1 - (lg_sl ([.ref (q 2)])).length) Slot.unset).toArray = ls at hl ⊢
  have hl : lv_has ls 1 [(0, .ref (q 2))] := hl
  have hS : va_S A st.heap st.heap [] := va_S.rf
  refine lv_aload_n SS.1 SS.2.1 dX3_begin_0 rfl (lv_at hl 0 rfl) ?_
  refine j_get SS hG hP 2 (v := .ref (q 48)) (C := RX3) (T := TX3) (N := 3) rfl rfl inX3 0 (by decide) (ref := "GridPolygons$Hull") kw_177 rfl rfl dX3_begin_1 ?_
  refine j_bipush SS dX3_begin_4 (by decide +kernel) ?_
  refine j_sWv SS (As := [.ref (q 48), .int (J 81)]) (rest := []) (c_J7_fill_53178 l D (ws := (cW D q u)) (A := A) (cW_D hD) 48 (81 : Int) rfl (by first | decide | omega)) mf_J7_fill_53178 kw_422 hG hP hS (fun _ h => h) rfl hl.1 ⟨⟨Nat.le_of_ble_eq_true rfl, Nat.le_of_ble_eq_true rfl⟩, Nat.le_of_ble_eq_true rfl, Nat.le_refl _, Nat.le_refl _⟩ rfl dX3_begin_6 (fun _ H locs _ hP _ hS => ?_)
  have hP : va_P D.1 j_cl (cW D q (sI u 0 (jf (u.2.1 0) (81 : Int) 161))) H := hP
  refine lv_aload_n SS.1 SS.2.1 dX3_begin_9 rfl (lv_at hl 0 rfl) ?_
  refine j_get SS hG hP 2 (v := .ref (q 52)) (C := RX3) (T := TX3) (N := 3) rfl rfl inX3 1 (by decide) (ref := "GridPolygons$Hull") kw_178 rfl rfl dX3_begin_10 ?_
  refine j_bipush SS dX3_begin_13 (by decide +kernel) ?_
  refine j_sWv SS (As := [.ref (q 52), .int (J (-81))]) (rest := []) (c_J7_fill_53178 l D (ws := (cW D q (sI u 0 (jf (u.2.1 0) (81 : Int) 161)))) (A := A) (cW_D hD) 52 (-81) rfl (by first | decide | omega)) mf_J7_fill_53178 kw_422 hG hP hS (fun _ h => h) rfl hl.1 ⟨⟨Nat.le_of_ble_eq_true rfl, Nat.le_of_ble_eq_true rfl⟩, Nat.le_of_ble_eq_true rfl, Nat.le_refl _, Nat.le_refl _⟩ rfl dX3_begin_15 (fun _ H locs _ hP _ hS => ?_)
  have hP : va_P D.1 j_cl (cW D q (sI (sI u 0 (jf (u.2.1 0) (81 : Int) 161)) 1 (jf (u.2.1 1) (-81) 161))) H := hP
  exact W.vret SS.1 SS.2.1 hr (fun t0 ht hW => ⟨⟨(sI (sI u 0 (jf (u.2.1 0) (81 : Int) 161)) 1 (jf (u.2.1 1) (-81) 161)), rfl, (⟨(jf (u.2.1 0) (81 : Int) 161), (jf (u.2.1 1) (-81) 161), rfl, ⟨rfl, rfl, HU_f p0⟩⟩), by show va_P D.1 j_cl (cW D q (sI (sI u 0 (jf (u.2.1 0) (81 : Int) 161)) 1 (jf (u.2.1 1) (-81) 161))) t0.heap; rw [ht]; first | exact hP | (simp only [sC_id, sX_id, sY_id, sH_id, sT_id, sV_id]; exact hP)⟩, hS.F ht⟩) hS.2.2 dX3_begin_18 hlk

set_option maxHeartbeats 4000000 in
set_option maxRecDepth 100000 in
theorem c_X3_take (l : Launch) (D : JD) (q : Nat → Nat) (u : CS) (A : Nat → Prop) (hD : va_D A (cW D q u)) (a : Int) (b : Int) (p0 : HU_ (u.2.1 0) (u.2.1 1)) (p1 : -1000 ≤ a ∧ a ≤ 1000) (p2 : -2147483648 ≤ b ∧ b ≤ 2147483647) : Met l yX3_take (jw yX3_take cX3_take 4 none) (jr 1 21) (jP [.ref (q 2), .int (J a), .int (J b)] D (fun H => va_P D.1 j_cl (cW D q u) H)) (jWv (fun u' => ∃ f : Nat → Int, ∃ g : Nat → Int, u' = (sI (sI u 0 f) 1 g) ∧ (((-80 ≤ a ∧ a ≤ 80 ∧ -80 ≤ b ∧ b ≤ 80) ∧ f = upI (u.2.1 0) (a + 80).toNat (min (u.2.1 0 (a + 80).toNat) b) ∧ g = upI (u.2.1 1) (a + 80).toNat (max (u.2.1 1 (a + 80).toNat) b) ∨ ¬ (-80 ≤ a ∧ a ≤ 80 ∧ -80 ≤ b ∧ b ≤ 80) ∧ f = u.2.1 0 ∧ g = u.2.1 1) ∧ HU_ f g)) (fun u' H => va_P D.1 j_cl (cW D q u') H) A) 0 0 A := by
  refine Met.ofW (cc := cX3_take) (maxL := 4) (ret := none) (by decide) rfl ?_
  intro pr en st mi args below meth co s₁ B hml hv
  obtain ⟨rfl, hG, hP⟩ := hv
  have hr := B.returns
  have hlk := B.notSynchronized
  have SS : jS pr mi co cX3_take 4 st _ RX3 := ⟨B.exec, B.bytes, hml, findClass_of_methodNamed B.named, fun w hw => atoms_spec (ws := (jw yX3_take cX3_take 4 none)) B.pre w (List.mem_cons_of_mem _ hw)⟩
  have hl := lv_entry ([.ref (q 2), .int (J a), .int (J b)]) (n := 4) (Nat.le_of_ble_eq_true rfl)
  rw [lg_entry_eq]
  generalize (lg_sl ([.ref (q 2), .int (J a), .int (J b)]) ++ List.replicate (4 - (lg_sl ([.ref (q 2), .int (J a), .int (J b)])).length) Slot.unset).toArray = ls at hl ⊢
  have hl : lv_has ls 4 [(0, .ref (q 2)), (1, .int (J a)), (2, .int (J b))] := hl
  have hS : va_S A st.heap st.heap [] := va_S.rf
  refine lv_iload_n SS.1 SS.2.1 dX3_take_0 rfl (lv_at hl 1 rfl) ?_
  refine j_bipush SS dX3_take_1 (by decide +kernel) ?_
  refine j_iadd SS (x := a) (y := 80) dX3_take_3 ?_
  refine lv_istore_n (lv' := [(3, .int (J (a + 80))), (0, .ref (q 2)), (1, .int (J a)), (2, .int (J b))]) SS.1 SS.2.1 dX3_take_4 rfl hl (by decide) rfl (fun ls hl => ?_)
  refine lv_iload_n SS.1 SS.2.1 dX3_take_5 rfl (lv_at hl 0 rfl) ?_
  refine j_if_lt SS (tgt := 28) (x := (a + 80)) dX3_take_6 (by decide) (by omega) (fun c_6 => ?_) (fun c_6 => ?_)
  · skip
    exact W.vret SS.1 SS.2.1 hr (fun t0 ht hW => ⟨⟨(sI (sI u 0 (u.2.1 0)) 1 (u.2.1 1)), rfl, (⟨(u.2.1 0), (u.2.1 1), rfl, ⟨Or.inr ⟨by omega, rfl, rfl⟩, p0⟩⟩), by show va_P D.1 j_cl (cW D q (sI (sI u 0 (u.2.1 0)) 1 (u.2.1 1))) t0.heap; rw [ht]; first | exact hP | (simp only [sC_id, sX_id, sY_id, sH_id, sT_id, sV_id]; exact hP)⟩, hS.F ht⟩) hS.2.2 dX3_take_28 hlk
  · skip
    refine lv_iload_n SS.1 SS.2.1 dX3_take_9 rfl (lv_at hl 0 rfl) ?_
    refine j_sipush SS dX3_take_10 (by decide +kernel) ?_
    refine j_icmp_ge SS (tgt := 28) (x := (a + 80)) (y := 161) dX3_take_13 (by decide) (by omega) (by decide) (fun c_13 => ?_) (fun c_13 => ?_)
    · skip
      exact W.vret SS.1 SS.2.1 hr (fun t0 ht hW => ⟨⟨(sI (sI u 0 (u.2.1 0)) 1 (u.2.1 1)), rfl, (⟨(u.2.1 0), (u.2.1 1), rfl, ⟨Or.inr ⟨by omega, rfl, rfl⟩, p0⟩⟩), by show va_P D.1 j_cl (cW D q (sI (sI u 0 (u.2.1 0)) 1 (u.2.1 1))) t0.heap; rw [ht]; first | exact hP | (simp only [sC_id, sX_id, sY_id, sH_id, sT_id, sV_id]; exact hP)⟩, hS.F ht⟩) hS.2.2 dX3_take_28 hlk
    · skip
      refine lv_iload_n SS.1 SS.2.1 dX3_take_16 rfl (lv_at hl 3 rfl) ?_
      refine j_bipush SS dX3_take_17 (by decide +kernel) ?_
      refine j_icmp_lt SS (tgt := 28) (x := b) (y := (-80)) dX3_take_19 (by decide) (by omega) (by decide) (fun c_19 => ?_) (fun c_19 => ?_)
      · skip
        exact W.vret SS.1 SS.2.1 hr (fun t0 ht hW => ⟨⟨(sI (sI u 0 (u.2.1 0)) 1 (u.2.1 1)), rfl, (⟨(u.2.1 0), (u.2.1 1), rfl, ⟨Or.inr ⟨by omega, rfl, rfl⟩, p0⟩⟩), by show va_P D.1 j_cl (cW D q (sI (sI u 0 (u.2.1 0)) 1 (u.2.1 1))) t0.heap; rw [ht]; first | exact hP | (simp only [sC_id, sX_id, sY_id, sH_id, sT_id, sV_id]; exact hP)⟩, hS.F ht⟩) hS.2.2 dX3_take_28 hlk
      · skip
        refine lv_iload_n SS.1 SS.2.1 dX3_take_22 rfl (lv_at hl 3 rfl) ?_
        refine j_bipush SS dX3_take_23 (by decide +kernel) ?_
        refine j_icmp_le SS (tgt := 29) (x := b) (y := 80) dX3_take_25 (by decide) (by omega) (by decide) (fun c_25 => ?_) (fun c_25 => ?_)
        · skip
          refine lv_aload_n SS.1 SS.2.1 dX3_take_29 rfl (lv_at hl 1 rfl) ?_
          refine j_get SS hG hP 2 (v := .ref (q 48)) (C := RX3) (T := TX3) (N := 3) rfl rfl inX3 0 (by decide) (ref := "GridPolygons$Hull") kw_177 rfl rfl dX3_take_30 ?_
          refine lv_iload_n SS.1 SS.2.1 dX3_take_33 rfl (lv_at hl 0 rfl) ?_
          refine lv_aload_n SS.1 SS.2.1 dX3_take_34 rfl (lv_at hl 1 rfl) ?_
          refine j_get SS hG hP 2 (v := .ref (q 48)) (C := RX3) (T := TX3) (N := 3) rfl rfl inX3 0 (by decide) (ref := "GridPolygons$Hull") kw_177 rfl rfl dX3_take_35 ?_
          refine lv_iload_n SS.1 SS.2.1 dX3_take_38 rfl (lv_at hl 0 rfl) ?_
          have ql := p0 (a + 80).toNat
          refine j_iald SS hG hP 48 (n := 161) (f := (u.2.1 0)) rfl (z := (a + 80)) (by omega) (by omega) dX3_take_39 ?_
          refine lv_iload_n SS.1 SS.2.1 dX3_take_40 rfl (lv_at hl 3 rfl) ?_
          refine j_sRi SS (As := [.int (J ((u.2.1 0) ((a + 80)).toNat)), .int (J b)]) (rest := [.int (J (a + 80)), .ref (q 48)]) (c_J9_min_7cf53 l D  ((u.2.1 0) ((a + 80)).toNat) b (show -2147483648 ≤ ((u.2.1 0) ((a + 80)).toNat) ∧ ((u.2.1 0) ((a + 80)).toNat) ≤ 2147483647 from (by omega)) (show -2147483648 ≤ b ∧ b ≤ 2147483647 from (p2))) mf_J9_min_7cf53 kw_486 hG trivial rfl hl.1 ⟨⟨Nat.le_of_ble_eq_true rfl, Nat.le_of_ble_eq_true rfl⟩, Nat.le_of_ble_eq_true rfl, Nat.le_refl _, Nat.le_refl _⟩ rfl dX3_take_41 (fun z_41 h_41 => ?_)
          have h_41 : (z_41 = ((u.2.1 0) ((a + 80)).toNat) ∨ z_41 = b) ∧ z_41 ≤ ((u.2.1 0) ((a + 80)).toNat) ∧ z_41 ≤ b := h_41
          refine j_iast SS hG hP (cW_D hD) hS 48 (n := 161) (f := (u.2.1 0)) rfl (z := (a + 80)) (v := z_41) (by omega) (by omega) dX3_take_44 (ws' := (cW D q (sI u 0 (upI (u.2.1 0) ((a + 80)).toNat z_41)))) rfl (fun H locs hP hS => ?_)
          refine lv_aload_n SS.1 SS.2.1 dX3_take_45 rfl (lv_at hl 1 rfl) ?_
          refine j_get SS hG hP 2 (v := .ref (q 52)) (C := RX3) (T := TX3) (N := 3) rfl rfl inX3 1 (by decide) (ref := "GridPolygons$Hull") kw_178 rfl rfl dX3_take_46 ?_
          refine lv_iload_n SS.1 SS.2.1 dX3_take_49 rfl (lv_at hl 0 rfl) ?_
          refine lv_aload_n SS.1 SS.2.1 dX3_take_50 rfl (lv_at hl 1 rfl) ?_
          refine j_get SS hG hP 2 (v := .ref (q 52)) (C := RX3) (T := TX3) (N := 3) rfl rfl inX3 1 (by decide) (ref := "GridPolygons$Hull") kw_178 rfl rfl dX3_take_51 ?_
          refine lv_iload_n SS.1 SS.2.1 dX3_take_54 rfl (lv_at hl 0 rfl) ?_
          have e41 : z_41 = min (u.2.1 0 (a + 80).toNat) b := by omega
          refine j_iald SS hG hP 52 (n := 161) (f := (u.2.1 1)) rfl (z := (a + 80)) (by omega) (by omega) dX3_take_55 ?_
          refine lv_iload_n SS.1 SS.2.1 dX3_take_56 rfl (lv_at hl 3 rfl) ?_
          refine j_sRi SS (As := [.int (J ((u.2.1 1) ((a + 80)).toNat)), .int (J b)]) (rest := [.int (J (a + 80)), .ref (q 52)]) (c_J9_max_7cf53 l D  ((u.2.1 1) ((a + 80)).toNat) b (show -2147483648 ≤ ((u.2.1 1) ((a + 80)).toNat) ∧ ((u.2.1 1) ((a + 80)).toNat) ≤ 2147483647 from (by omega)) (show -2147483648 ≤ b ∧ b ≤ 2147483647 from (by omega))) mf_J9_max_7cf53 kw_489 hG trivial rfl hl.1 ⟨⟨Nat.le_of_ble_eq_true rfl, Nat.le_of_ble_eq_true rfl⟩, Nat.le_of_ble_eq_true rfl, Nat.le_refl _, Nat.le_refl _⟩ rfl dX3_take_57 (fun z_57 h_57 => ?_)
          have h_57 : (z_57 = ((u.2.1 1) ((a + 80)).toNat) ∨ z_57 = b) ∧ ((u.2.1 1) ((a + 80)).toNat) ≤ z_57 ∧ b ≤ z_57 := h_57
          have e57 : z_57 = max (u.2.1 1 (a + 80).toNat) b := by omega
          refine j_iast SS hG hP (cW_D hD) hS 52 (n := 161) (f := (u.2.1 1)) rfl (z := (a + 80)) (v := z_57) (by omega) (by omega) dX3_take_60 (ws' := (cW D q (sI (sI u 0 (upI (u.2.1 0) ((a + 80)).toNat z_41)) 1 (upI (u.2.1 1) ((a + 80)).toNat z_57)))) rfl (fun H locs hP hS => ?_)
          exact W.vret SS.1 SS.2.1 hr (fun t0 ht hW => ⟨⟨(sI (sI u 0 (upI (u.2.1 0) ((a + 80)).toNat z_41)) 1 (upI (u.2.1 1) ((a + 80)).toNat z_57)), rfl, (⟨(upI (u.2.1 0) ((a + 80)).toNat z_41), (upI (u.2.1 1) ((a + 80)).toNat z_57), rfl, ⟨Or.inl ⟨by omega, by rw [e41], by rw [e57]⟩, HU_p p0 (by omega) (by omega)⟩⟩), by show va_P D.1 j_cl (cW D q (sI (sI u 0 (upI (u.2.1 0) ((a + 80)).toNat z_41)) 1 (upI (u.2.1 1) ((a + 80)).toNat z_57))) t0.heap; rw [ht]; first | exact hP | (simp only [sC_id, sX_id, sY_id, sH_id, sT_id, sV_id]; exact hP)⟩, hS.F ht⟩) hS.2.2 dX3_take_61 hlk
        · skip
          exact W.vret SS.1 SS.2.1 hr (fun t0 ht hW => ⟨⟨(sI (sI u 0 (u.2.1 0)) 1 (u.2.1 1)), rfl, (⟨(u.2.1 0), (u.2.1 1), rfl, ⟨Or.inr ⟨by omega, rfl, rfl⟩, p0⟩⟩), by show va_P D.1 j_cl (cW D q (sI (sI u 0 (u.2.1 0)) 1 (u.2.1 1))) t0.heap; rw [ht]; first | exact hP | (simp only [sC_id, sX_id, sY_id, sH_id, sT_id, sV_id]; exact hP)⟩, hS.F ht⟩) hS.2.2 dX3_take_28 hlk

set_option maxHeartbeats 4000000 in
set_option maxRecDepth 100000 in
theorem c_X3_takeRing (l : Launch) (D : JD) (q : Nat → Nat) (u : CS) (A : Nat → Prop) (hD : va_D A (cW D q u)) (r : Nat) (hr : r ≤ 8) (p0 : HU_ (u.2.1 0) (u.2.1 1)) (p1 : RB 80 u r) : Met l yX3_takeRing (jw yX3_takeRing cX3_takeRing 3 none) (jr 2 44) (jP [.ref (q 2), .ref (q (9 + 5 * r))] D (fun H => va_P D.1 j_cl (cW D q u) H)) (jWv (fun u' => ∃ f : Nat → Int, ∃ g : Nat → Int, u' = (sI (sI u 0 f) 1 g) ∧ (HU_ f g)) (fun u' H => va_P D.1 j_cl (cW D q u') H) A) 0 0 A := by
  refine Met.ofW (cc := cX3_takeRing) (maxL := 3) (ret := none) (by decide) rfl ?_
  intro pr en st mi args below meth co s₁ B hml hv
  obtain ⟨rfl, hG, hP⟩ := hv
  have hr := B.returns
  have hlk := B.notSynchronized
  have SS : jS pr mi co cX3_takeRing 3 st _ RX3 := ⟨B.exec, B.bytes, hml, findClass_of_methodNamed B.named, fun w hw => atoms_spec (ws := (jw yX3_takeRing cX3_takeRing 3 none)) B.pre w (List.mem_cons_of_mem _ hw)⟩
  have hl := lv_entry ([.ref (q 2), .ref (q (9 + 5 * r))]) (n := 3) (Nat.le_of_ble_eq_true rfl)
  rw [lg_entry_eq]
  generalize (lg_sl ([.ref (q 2), .ref (q (9 + 5 * r))]) ++ List.replicate (3 - (lg_sl ([.ref (q 2), .ref (q (9 + 5 * r))])).length) Slot.unset).toArray = ls at hl ⊢
  have hl : lv_has ls 3 [(0, .ref (q 2)), (1, .ref (q (9 + 5 * r)))] := hl
  have hS : va_S A st.heap st.heap [] := va_S.rf
  have hc := p1.1
  have hrl := rl_b r
  refine j_iconst SS dX3_takeRing_0 ?_
  refine lv_istore_n (lv' := [(2, .int (J 0)), (0, .ref (q 2)), (1, .ref (q (9 + 5 * r)))]) SS.1 SS.2.1 dX3_takeRing_1 rfl hl (by decide) rfl (fun ls hl => ?_)
  have L_2 : ∀ (nn : Nat) (i : Int) (f1 : Nat → Int) (g1 : Nat → Int) (H : Heap) (locs : List Loc) (hP : va_P D.1 j_cl (cW D q (sI (sI u 0 f1) 1 g1)) H) (hS : va_S A st.heap H locs) (ls : Array Slot) (hl : lv_has ls 3 [(0, .ref (q 2)), (1, .ref (q (9 + 5 * r))), (2, .int (J i))]) (i2_0 : 0 ≤ i ∧ i ≤ u.1.2.2.1 r) (i2_1 : HU_ f1 g1), (u.1.2.2.1 r - i).toNat < nn → W pr l en (headSpec (jw yX3_takeRing cX3_takeRing 3 none) (jr 2 44)).room st mi (([.ref (q 2), .ref (q (9 + 5 * r))] : List Value).toArray) below meth co H locs 0 0 (MQ below (jWv (fun u' => ∃ f : Nat → Int, ∃ g : Nat → Int, u' = (sI (sI u 0 f) 1 g) ∧ (HU_ f g)) (fun u' H => va_P D.1 j_cl (cW D q u') H) A) (([.ref (q 2), .ref (q (9 + 5 * r))] : List Value).toArray) st 0 0 A) (F0 mi 2 ls []) := by
    intro nn
    induction nn with
    | zero => intros; omega
    | succ nn ih_2 =>
      intro i f1 g1 H locs hP hS ls hl i2_0 i2_1 hm
      refine lv_iload_n SS.1 SS.2.1 dX3_takeRing_2 rfl (lv_at hl 2 rfl) ?_
      refine lv_aload_n SS.1 SS.2.1 dX3_takeRing_3 rfl (lv_at hl 1 rfl) ?_
      refine j_getS SS hG hP (9 + 5 * r) (v := .int (J (u.1.2.2.1 r))) (C := RX7) (T := TX7) (N := 3) (cw_ring (by omega)) rfl inX7 2 (by decide) (ref := "GridPolygons$Ring") kw_141 kw_132 rfl dX3_takeRing_4 ?_
      refine j_icmp_ge SS (tgt := 30) (x := i) (y := (u.1.2.2.1 r)) dX3_takeRing_7 (by decide) (by omega) (by omega) (fun c_7 => ?_) (fun c_7 => ?_)
      · skip
        exact W.vret SS.1 SS.2.1 hr (fun t0 ht hW => ⟨⟨(sI (sI u 0 f1) 1 g1), rfl, (⟨f1, g1, rfl, i2_1⟩), by show va_P D.1 j_cl (cW D q (sI (sI u 0 f1) 1 g1)) t0.heap; rw [ht]; first | exact hP | (simp only [sC_id, sX_id, sY_id, sH_id, sT_id, sV_id]; exact hP)⟩, hS.F ht⟩) hS.2.2 dX3_takeRing_30 hlk
      · skip
        refine lv_aload_n SS.1 SS.2.1 dX3_takeRing_10 rfl (lv_at hl 0 rfl) ?_
        refine lv_aload_n SS.1 SS.2.1 dX3_takeRing_11 rfl (lv_at hl 1 rfl) ?_
        refine lv_iload_n SS.1 SS.2.1 dX3_takeRing_12 rfl (lv_at hl 2 rfl) ?_
        refine j_uRi SS (As := [.int (J i)]) (rest := [.ref (q 2)]) (c_X8_x l D q (sI (sI u 0 f1) 1 g1) r (by omega) i (show -2147483648 ≤ i ∧ i ≤ 2147483647 from (by omega))) mu_7_x kw_437 hG hP hP (ci := 7) (q0 := (9 + 5 * r)) rfl (cw_ring (by omega)) rfl rfl hl.1 ⟨⟨Nat.le_of_ble_eq_true rfl, Nat.le_of_ble_eq_true rfl⟩, Nat.le_of_ble_eq_true rfl, Nat.le_refl _, Nat.le_refl _⟩ rfl dX3_takeRing_13 (fun z_13 h_13 => ?_)
        have h_13 : z_13 = rx (sI (sI u 0 f1) 1 g1) r i ∧ ∀ K : Int, 0 ≤ K → RB K (sI (sI u 0 f1) 1 g1) r → -K ≤ z_13 ∧ z_13 ≤ K := h_13
        have hb_13 := h_13.2 80 (by omega) (p1)
        refine lv_aload_n SS.1 SS.2.1 dX3_takeRing_16 rfl (lv_at hl 1 rfl) ?_
        refine lv_iload_n SS.1 SS.2.1 dX3_takeRing_17 rfl (lv_at hl 2 rfl) ?_
        refine j_uRi SS (As := [.int (J i)]) (rest := [.int (J z_13), .ref (q 2)]) (c_X8_y l D q (sI (sI u 0 f1) 1 g1) r (by omega) i (show -2147483648 ≤ i ∧ i ≤ 2147483647 from (by omega))) mu_7_y kw_443 hG hP hP (ci := 7) (q0 := (9 + 5 * r)) rfl (cw_ring (by omega)) rfl rfl hl.1 ⟨⟨Nat.le_of_ble_eq_true rfl, Nat.le_of_ble_eq_true rfl⟩, Nat.le_of_ble_eq_true rfl, Nat.le_refl _, Nat.le_refl _⟩ rfl dX3_takeRing_18 (fun z_18 h_18 => ?_)
        have h_18 : z_18 = ry9 (sI (sI u 0 f1) 1 g1) r i ∧ ∀ K : Int, 0 ≤ K → RB K (sI (sI u 0 f1) 1 g1) r → -K ≤ z_18 ∧ z_18 ≤ K := h_18
        have hb_18 := h_18.2 80 (by omega) (p1)
        refine j_vWv SS (As := [.int (J z_13), .int (J z_18)]) (rest := []) (c_X3_take l D q (sI (sI u 0 f1) 1 g1) A (cW_D hD)  z_13 z_18 (show HU_ (f1) (g1) from (i2_1)) (show -1000 ≤ z_13 ∧ z_13 ≤ 1000 from (by omega)) (show -2147483648 ≤ z_18 ∧ z_18 ≤ 2147483647 from (by omega))) mf_X3_take kw_482 hG hP hP (ci := 3) (q0 := 2) rfl rfl rfl hS (fun _ h => h) rfl hl.1 ⟨⟨Nat.le_of_ble_eq_true rfl, Nat.le_of_ble_eq_true rfl⟩, Nat.le_of_ble_eq_true rfl, Nat.le_refl _, Nat.le_refl _⟩ rfl dX3_takeRing_21 (fun u21 H locs h_21 hP _ hS => ?_)
        obtain ⟨f_21, g_21, rfl, h_21⟩ := h_21
        have hP : va_P D.1 j_cl (cW D q (sI (sI u 0 f_21) 1 g_21)) H := hP
        have h_21 : ((-80 ≤ z_13 ∧ z_13 ≤ 80 ∧ -80 ≤ z_18 ∧ z_18 ≤ 80) ∧ f_21 = upI (f1) (z_13 + 80).toNat (min (f1 (z_13 + 80).toNat) z_18) ∧ g_21 = upI (g1) (z_13 + 80).toNat (max (g1 (z_13 + 80).toNat) z_18) ∨ ¬ (-80 ≤ z_13 ∧ z_13 ≤ 80 ∧ -80 ≤ z_18 ∧ z_18 ≤ 80) ∧ f_21 = f1 ∧ g_21 = g1) ∧ HU_ f_21 g_21 := h_21
        refine lv_iinc (v := J (i + 1)) (lv' := [(2, .int (J (i + 1))), (0, .ref (q 2)), (1, .ref (q (9 + 5 * r)))]) SS.1 SS.2.1 dX3_takeRing_24 hl (k := 2) rfl (J_add _ _) (by decide) rfl (fun ls hl => ?_)
        refine lv_goto (tgt := 2) SS.1 SS.2.1 dX3_takeRing_27 (by decide) ?_
        exact ih_2 (i + 1) f_21 g_21 _ _ hP hS ls (lv_sub hl [1, 2, 0] rfl) (by omega) (h_21.2) (by omega)
  exact L_2 ((u.1.2.2.1 r - (0 : Int)).toNat + 1) 0 (u.2.1 0) (u.2.1 1) _ _ hP hS ls (lv_sub hl [1, 2, 0] rfl) (by omega) (p0) (Nat.lt_succ_self _)

set_option maxHeartbeats 4000000 in
set_option maxRecDepth 100000 in
theorem c_X3_isLast (l : Launch) (D : JD) (q : Nat → Nat) (u : CS) (a : Int) (b : Int) (p0 : RB 80 u 8) (p1 : -2147483648 ≤ a ∧ a ≤ 2147483647) (p2 : -2147483648 ≤ b ∧ b ≤ 2147483647) : Met l yX3_isLast (jw yX3_isLast cX3_isLast 3 (some .boolean)) (jr 1 21) (jP [.ref (q 2), .int (J a), .int (J b)] D (fun H => va_P D.1 j_cl (cW D q u) H)) (jRi (fun z => (z = 1 ∧ 0 < u.1.2.2.1 8 ∧ rx u 8 (u.1.2.2.1 8 - 1) = a ∧ ry9 u 8 (u.1.2.2.1 8 - 1) = b) ∨ (z = 0 ∧ ¬ (0 < u.1.2.2.1 8 ∧ rx u 8 (u.1.2.2.1 8 - 1) = a ∧ ry9 u 8 (u.1.2.2.1 8 - 1) = b)))) 0 0 (fun _ => False) := by
  refine Met.ofW (cc := cX3_isLast) (maxL := 3) (ret := (some .boolean)) (by decide) rfl ?_
  intro pr en st mi args below meth co s₁ B hml hv
  obtain ⟨rfl, hG, hP⟩ := hv
  have hr := B.returns
  have hlk := B.notSynchronized
  have SS : jS pr mi co cX3_isLast 3 st _ RX3 := ⟨B.exec, B.bytes, hml, findClass_of_methodNamed B.named, fun w hw => atoms_spec (ws := (jw yX3_isLast cX3_isLast 3 (some .boolean))) B.pre w (List.mem_cons_of_mem _ hw)⟩
  have hl := lv_entry ([.ref (q 2), .int (J a), .int (J b)]) (n := 3) (Nat.le_of_ble_eq_true rfl)
  rw [lg_entry_eq]
  generalize (lg_sl ([.ref (q 2), .int (J a), .int (J b)]) ++ List.replicate (3 - (lg_sl ([.ref (q 2), .int (J a), .int (J b)])).length) Slot.unset).toArray = ls at hl ⊢
  have hl : lv_has ls 3 [(0, .ref (q 2)), (1, .int (J a)), (2, .int (J b))] := hl
  have hc := p0.1
  have hr8 := rl8
  rw [rl8] at hc
  refine lv_aload_n SS.1 SS.2.1 dX3_isLast_0 rfl (lv_at hl 0 rfl) ?_
  refine j_get SS hG hP 2 (v := .ref (q (9 + 5 * 8))) (C := RX3) (T := TX3) (N := 3) rfl rfl inX3 2 (by decide) (ref := "GridPolygons$Hull") kw_179 rfl rfl dX3_isLast_1 ?_
  refine j_getS SS hG hP (9 + 5 * 8) (v := .int (J (u.1.2.2.1 8))) (C := RX7) (T := TX7) (N := 3) (cw_ring (by omega)) rfl inX7 2 (by decide) (ref := "GridPolygons$Ring") kw_141 kw_132 rfl dX3_isLast_4 ?_
  refine j_if_le SS (tgt := 54) (x := (u.1.2.2.1 8)) dX3_isLast_7 (by decide) (by omega) (fun c_7 => ?_) (fun c_7 => ?_)
  · skip
    refine j_iconst SS dX3_isLast_54 ?_
    exact W.zret SS.1 SS.2.1 hr (j_nz (by decide)) (fun t0 ht hW => ⟨_, rfl, ⟨0, rfl, (by first | (refine Or.inr ⟨rfl, ?_⟩; intro q; omega) | exact Or.inl ⟨rfl, by omega, by omega, by omega⟩)⟩, ht⟩) (fun _ h => nomatch h) dX3_isLast_55 hlk
  · skip
    refine lv_aload_n SS.1 SS.2.1 dX3_isLast_10 rfl (lv_at hl 0 rfl) ?_
    refine j_get SS hG hP 2 (v := .ref (q (9 + 5 * 8))) (C := RX3) (T := TX3) (N := 3) rfl rfl inX3 2 (by decide) (ref := "GridPolygons$Hull") kw_179 rfl rfl dX3_isLast_11 ?_
    refine lv_aload_n SS.1 SS.2.1 dX3_isLast_14 rfl (lv_at hl 0 rfl) ?_
    refine j_get SS hG hP 2 (v := .ref (q (9 + 5 * 8))) (C := RX3) (T := TX3) (N := 3) rfl rfl inX3 2 (by decide) (ref := "GridPolygons$Hull") kw_179 rfl rfl dX3_isLast_15 ?_
    refine j_getS SS hG hP (9 + 5 * 8) (v := .int (J (u.1.2.2.1 8))) (C := RX7) (T := TX7) (N := 3) (cw_ring (by omega)) rfl inX7 2 (by decide) (ref := "GridPolygons$Ring") kw_141 kw_132 rfl dX3_isLast_18 ?_
    refine j_iconst SS dX3_isLast_21 ?_
    refine j_isub SS (x := (u.1.2.2.1 8)) (y := 1) dX3_isLast_22 ?_
    refine j_uRi SS (As := [.int (J ((u.1.2.2.1 8) - 1))]) (rest := []) (c_X8_x l D q u 8 (by omega) ((u.1.2.2.1 8) - 1) (show -2147483648 ≤ ((u.1.2.2.1 8) - 1) ∧ ((u.1.2.2.1 8) - 1) ≤ 2147483647 from (by omega))) mu_7_x kw_437 hG hP hP (ci := 7) (q0 := (9 + 5 * 8)) rfl (cw_ring (by omega)) rfl rfl hl.1 ⟨⟨Nat.le_of_ble_eq_true rfl, Nat.le_of_ble_eq_true rfl⟩, Nat.le_of_ble_eq_true rfl, Nat.le_refl _, Nat.le_refl _⟩ rfl dX3_isLast_23 (fun z_23 h_23 => ?_)
    have h_23 : z_23 = rx u 8 ((u.1.2.2.1 8) - 1) ∧ ∀ K : Int, 0 ≤ K → RB K u 8 → -K ≤ z_23 ∧ z_23 ≤ K := h_23
    have hb_23 := h_23.2 80 (by omega) (p0)
    refine lv_iload_n SS.1 SS.2.1 dX3_isLast_26 rfl (lv_at hl 1 rfl) ?_
    refine j_icmp_ne SS (tgt := 54) (x := z_23) (y := a) dX3_isLast_27 (by decide) (by omega) (by omega) (fun c_27 => ?_) (fun c_27 => ?_)
    · skip
      refine j_iconst SS dX3_isLast_54 ?_
      exact W.zret SS.1 SS.2.1 hr (j_nz (by decide)) (fun t0 ht hW => ⟨_, rfl, ⟨0, rfl, (by first | (refine Or.inr ⟨rfl, ?_⟩; intro q; omega) | exact Or.inl ⟨rfl, by omega, by omega, by omega⟩)⟩, ht⟩) (fun _ h => nomatch h) dX3_isLast_55 hlk
    · skip
      refine lv_aload_n SS.1 SS.2.1 dX3_isLast_30 rfl (lv_at hl 0 rfl) ?_
      refine j_get SS hG hP 2 (v := .ref (q (9 + 5 * 8))) (C := RX3) (T := TX3) (N := 3) rfl rfl inX3 2 (by decide) (ref := "GridPolygons$Hull") kw_179 rfl rfl dX3_isLast_31 ?_
      refine lv_aload_n SS.1 SS.2.1 dX3_isLast_34 rfl (lv_at hl 0 rfl) ?_
      refine j_get SS hG hP 2 (v := .ref (q (9 + 5 * 8))) (C := RX3) (T := TX3) (N := 3) rfl rfl inX3 2 (by decide) (ref := "GridPolygons$Hull") kw_179 rfl rfl dX3_isLast_35 ?_
      refine j_getS SS hG hP (9 + 5 * 8) (v := .int (J (u.1.2.2.1 8))) (C := RX7) (T := TX7) (N := 3) (cw_ring (by omega)) rfl inX7 2 (by decide) (ref := "GridPolygons$Ring") kw_141 kw_132 rfl dX3_isLast_38 ?_
      refine j_iconst SS dX3_isLast_41 ?_
      refine j_isub SS (x := (u.1.2.2.1 8)) (y := 1) dX3_isLast_42 ?_
      refine j_uRi SS (As := [.int (J ((u.1.2.2.1 8) - 1))]) (rest := []) (c_X8_y l D q u 8 (by omega) ((u.1.2.2.1 8) - 1) (show -2147483648 ≤ ((u.1.2.2.1 8) - 1) ∧ ((u.1.2.2.1 8) - 1) ≤ 2147483647 from (by omega))) mu_7_y kw_443 hG hP hP (ci := 7) (q0 := (9 + 5 * 8)) rfl (cw_ring (by omega)) rfl rfl hl.1 ⟨⟨Nat.le_of_ble_eq_true rfl, Nat.le_of_ble_eq_true rfl⟩, Nat.le_of_ble_eq_true rfl, Nat.le_refl _, Nat.le_refl _⟩ rfl dX3_isLast_43 (fun z_43 h_43 => ?_)
      have h_43 : z_43 = ry9 u 8 ((u.1.2.2.1 8) - 1) ∧ ∀ K : Int, 0 ≤ K → RB K u 8 → -K ≤ z_43 ∧ z_43 ≤ K := h_43
      have hb_43 := h_43.2 80 (by omega) (p0)
      refine lv_iload_n SS.1 SS.2.1 dX3_isLast_46 rfl (lv_at hl 2 rfl) ?_
      refine j_icmp_ne SS (tgt := 54) (x := z_43) (y := b) dX3_isLast_47 (by decide) (by omega) (by omega) (fun c_47 => ?_) (fun c_47 => ?_)
      · skip
        refine j_iconst SS dX3_isLast_54 ?_
        exact W.zret SS.1 SS.2.1 hr (j_nz (by decide)) (fun t0 ht hW => ⟨_, rfl, ⟨0, rfl, (by first | (refine Or.inr ⟨rfl, ?_⟩; intro q; omega) | exact Or.inl ⟨rfl, by omega, by omega, by omega⟩)⟩, ht⟩) (fun _ h => nomatch h) dX3_isLast_55 hlk
      · skip
        refine j_iconst SS dX3_isLast_50 ?_
        refine lv_goto (tgt := 55) SS.1 SS.2.1 dX3_isLast_51 (by decide) ?_
        exact W.zret SS.1 SS.2.1 hr (j_nz (by decide)) (fun t0 ht hW => ⟨_, rfl, ⟨1, rfl, (by first | (refine Or.inr ⟨rfl, ?_⟩; intro q; omega) | exact Or.inl ⟨rfl, by omega, by omega, by omega⟩)⟩, ht⟩) (fun _ h => nomatch h) dX3_isLast_55 hlk

set_option maxHeartbeats 4000000 in
set_option maxRecDepth 100000 in
theorem c_X3_turnsLeft (l : Launch) (D : JD) (q : Nat → Nat) (u : CS) (a : Int) (b : Int) (p0 : RB 80 u 8) (p1 : -80 ≤ a ∧ a ≤ 80) (p2 : -80 ≤ b ∧ b ≤ 80) : Met l yX3_turnsLeft (jw yX3_turnsLeft cX3_turnsLeft 6 (some .boolean)) (jr 1 21) (jP [.ref (q 2), .int (J a), .int (J b)] D (fun H => va_P D.1 j_cl (cW D q u) H)) (jRi (fun z => (z = 1 ∧ 0 < (rx u 8 (u.1.2.2.1 8 - 1) - rx u 8 (u.1.2.2.1 8 - 1 - 1)) * (b - ry9 u 8 (u.1.2.2.1 8 - 1)) - (ry9 u 8 (u.1.2.2.1 8 - 1) - ry9 u 8 (u.1.2.2.1 8 - 1 - 1)) * (a - rx u 8 (u.1.2.2.1 8 - 1))) ∨ (z = 0 ∧ (rx u 8 (u.1.2.2.1 8 - 1) - rx u 8 (u.1.2.2.1 8 - 1 - 1)) * (b - ry9 u 8 (u.1.2.2.1 8 - 1)) - (ry9 u 8 (u.1.2.2.1 8 - 1) - ry9 u 8 (u.1.2.2.1 8 - 1 - 1)) * (a - rx u 8 (u.1.2.2.1 8 - 1)) ≤ 0))) 0 0 (fun _ => False) := by
  refine Met.ofW (cc := cX3_turnsLeft) (maxL := 6) (ret := (some .boolean)) (by decide) rfl ?_
  intro pr en st mi args below meth co s₁ B hml hv
  obtain ⟨rfl, hG, hP⟩ := hv
  have hr := B.returns
  have hlk := B.notSynchronized
  have SS : jS pr mi co cX3_turnsLeft 6 st _ RX3 := ⟨B.exec, B.bytes, hml, findClass_of_methodNamed B.named, fun w hw => atoms_spec (ws := (jw yX3_turnsLeft cX3_turnsLeft 6 (some .boolean))) B.pre w (List.mem_cons_of_mem _ hw)⟩
  have hl := lv_entry ([.ref (q 2), .int (J a), .int (J b)]) (n := 6) (Nat.le_of_ble_eq_true rfl)
  rw [lg_entry_eq]
  generalize (lg_sl ([.ref (q 2), .int (J a), .int (J b)]) ++ List.replicate (6 - (lg_sl ([.ref (q 2), .int (J a), .int (J b)])).length) Slot.unset).toArray = ls at hl ⊢
  have hl : lv_has ls 6 [(0, .ref (q 2)), (1, .int (J a)), (2, .int (J b))] := hl
  have hc := p0.1
  have hr8 := rl8
  rw [rl8] at hc
  refine lv_aload_n SS.1 SS.2.1 dX3_turnsLeft_0 rfl (lv_at hl 0 rfl) ?_
  refine j_get SS hG hP 2 (v := .ref (q (9 + 5 * 8))) (C := RX3) (T := TX3) (N := 3) rfl rfl inX3 2 (by decide) (ref := "GridPolygons$Hull") kw_179 rfl rfl dX3_turnsLeft_1 ?_
  refine j_getS SS hG hP (9 + 5 * 8) (v := .int (J (u.1.2.2.1 8))) (C := RX7) (T := TX7) (N := 3) (cw_ring (by omega)) rfl inX7 2 (by decide) (ref := "GridPolygons$Ring") kw_141 kw_132 rfl dX3_turnsLeft_4 ?_
  refine j_iconst SS dX3_turnsLeft_7 ?_
  refine j_isub SS (x := (u.1.2.2.1 8)) (y := 1) dX3_turnsLeft_8 ?_
  refine lv_istore_n (lv' := [(3, .int (J ((u.1.2.2.1 8) - 1))), (0, .ref (q 2)), (1, .int (J a)), (2, .int (J b))]) SS.1 SS.2.1 dX3_turnsLeft_9 rfl hl (by decide) rfl (fun ls hl => ?_)
  refine lv_aload_n SS.1 SS.2.1 dX3_turnsLeft_10 rfl (lv_at hl 1 rfl) ?_
  refine j_get SS hG hP 2 (v := .ref (q (9 + 5 * 8))) (C := RX3) (T := TX3) (N := 3) rfl rfl inX3 2 (by decide) (ref := "GridPolygons$Hull") kw_179 rfl rfl dX3_turnsLeft_11 ?_
  refine lv_iload_n SS.1 SS.2.1 dX3_turnsLeft_14 rfl (lv_at hl 0 rfl) ?_
  refine j_uRi SS (As := [.int (J ((u.1.2.2.1 8) - 1))]) (rest := []) (c_X8_x l D q u 8 (by omega) ((u.1.2.2.1 8) - 1) (show -2147483648 ≤ ((u.1.2.2.1 8) - 1) ∧ ((u.1.2.2.1 8) - 1) ≤ 2147483647 from (by omega))) mu_7_x kw_437 hG hP hP (ci := 7) (q0 := (9 + 5 * 8)) rfl (cw_ring (by omega)) rfl rfl hl.1 ⟨⟨Nat.le_of_ble_eq_true rfl, Nat.le_of_ble_eq_true rfl⟩, Nat.le_of_ble_eq_true rfl, Nat.le_refl _, Nat.le_refl _⟩ rfl dX3_turnsLeft_15 (fun z_15 h_15 => ?_)
  have h_15 : z_15 = rx u 8 ((u.1.2.2.1 8) - 1) ∧ ∀ K : Int, 0 ≤ K → RB K u 8 → -K ≤ z_15 ∧ z_15 ≤ K := h_15
  have hb_15 := h_15.2 80 (by omega) (p0)
  refine lv_aload_n SS.1 SS.2.1 dX3_turnsLeft_18 rfl (lv_at hl 1 rfl) ?_
  refine j_get SS hG hP 2 (v := .ref (q (9 + 5 * 8))) (C := RX3) (T := TX3) (N := 3) rfl rfl inX3 2 (by decide) (ref := "GridPolygons$Hull") kw_179 rfl rfl dX3_turnsLeft_19 ?_
  refine lv_iload_n SS.1 SS.2.1 dX3_turnsLeft_22 rfl (lv_at hl 0 rfl) ?_
  refine j_iconst SS dX3_turnsLeft_23 ?_
  refine j_isub SS (x := ((u.1.2.2.1 8) - 1)) (y := 1) dX3_turnsLeft_24 ?_
  refine j_uRi SS (As := [.int (J (((u.1.2.2.1 8) - 1) - 1))]) (rest := [.int (J z_15)]) (c_X8_x l D q u 8 (by omega) (((u.1.2.2.1 8) - 1) - 1) (show -2147483648 ≤ (((u.1.2.2.1 8) - 1) - 1) ∧ (((u.1.2.2.1 8) - 1) - 1) ≤ 2147483647 from (by omega))) mu_7_x kw_437 hG hP hP (ci := 7) (q0 := (9 + 5 * 8)) rfl (cw_ring (by omega)) rfl rfl hl.1 ⟨⟨Nat.le_of_ble_eq_true rfl, Nat.le_of_ble_eq_true rfl⟩, Nat.le_of_ble_eq_true rfl, Nat.le_refl _, Nat.le_refl _⟩ rfl dX3_turnsLeft_25 (fun z_25 h_25 => ?_)
  have h_25 : z_25 = rx u 8 (((u.1.2.2.1 8) - 1) - 1) ∧ ∀ K : Int, 0 ≤ K → RB K u 8 → -K ≤ z_25 ∧ z_25 ≤ K := h_25
  have hb_25 := h_25.2 80 (by omega) (p0)
  refine j_isub SS (x := z_15) (y := z_25) dX3_turnsLeft_28 ?_
  refine lv_istore (lv' := [(4, .int (J (z_15 - z_25))), (3, .int (J ((u.1.2.2.1 8) - 1))), (0, .ref (q 2)), (1, .int (J a)), (2, .int (J b))]) SS.1 SS.2.1 dX3_turnsLeft_29 hl (by decide) rfl (fun ls hl => ?_)
  refine lv_aload_n SS.1 SS.2.1 dX3_turnsLeft_31 rfl (lv_at hl 2 rfl) ?_
  refine j_get SS hG hP 2 (v := .ref (q (9 + 5 * 8))) (C := RX3) (T := TX3) (N := 3) rfl rfl inX3 2 (by decide) (ref := "GridPolygons$Hull") kw_179 rfl rfl dX3_turnsLeft_32 ?_
  refine lv_iload_n SS.1 SS.2.1 dX3_turnsLeft_35 rfl (lv_at hl 1 rfl) ?_
  refine j_uRi SS (As := [.int (J ((u.1.2.2.1 8) - 1))]) (rest := []) (c_X8_y l D q u 8 (by omega) ((u.1.2.2.1 8) - 1) (show -2147483648 ≤ ((u.1.2.2.1 8) - 1) ∧ ((u.1.2.2.1 8) - 1) ≤ 2147483647 from (by omega))) mu_7_y kw_443 hG hP hP (ci := 7) (q0 := (9 + 5 * 8)) rfl (cw_ring (by omega)) rfl rfl hl.1 ⟨⟨Nat.le_of_ble_eq_true rfl, Nat.le_of_ble_eq_true rfl⟩, Nat.le_of_ble_eq_true rfl, Nat.le_refl _, Nat.le_refl _⟩ rfl dX3_turnsLeft_36 (fun z_36 h_36 => ?_)
  have h_36 : z_36 = ry9 u 8 ((u.1.2.2.1 8) - 1) ∧ ∀ K : Int, 0 ≤ K → RB K u 8 → -K ≤ z_36 ∧ z_36 ≤ K := h_36
  have hb_36 := h_36.2 80 (by omega) (p0)
  refine lv_aload_n SS.1 SS.2.1 dX3_turnsLeft_39 rfl (lv_at hl 2 rfl) ?_
  refine j_get SS hG hP 2 (v := .ref (q (9 + 5 * 8))) (C := RX3) (T := TX3) (N := 3) rfl rfl inX3 2 (by decide) (ref := "GridPolygons$Hull") kw_179 rfl rfl dX3_turnsLeft_40 ?_
  refine lv_iload_n SS.1 SS.2.1 dX3_turnsLeft_43 rfl (lv_at hl 1 rfl) ?_
  refine j_iconst SS dX3_turnsLeft_44 ?_
  refine j_isub SS (x := ((u.1.2.2.1 8) - 1)) (y := 1) dX3_turnsLeft_45 ?_
  refine j_uRi SS (As := [.int (J (((u.1.2.2.1 8) - 1) - 1))]) (rest := [.int (J z_36)]) (c_X8_y l D q u 8 (by omega) (((u.1.2.2.1 8) - 1) - 1) (show -2147483648 ≤ (((u.1.2.2.1 8) - 1) - 1) ∧ (((u.1.2.2.1 8) - 1) - 1) ≤ 2147483647 from (by omega))) mu_7_y kw_443 hG hP hP (ci := 7) (q0 := (9 + 5 * 8)) rfl (cw_ring (by omega)) rfl rfl hl.1 ⟨⟨Nat.le_of_ble_eq_true rfl, Nat.le_of_ble_eq_true rfl⟩, Nat.le_of_ble_eq_true rfl, Nat.le_refl _, Nat.le_refl _⟩ rfl dX3_turnsLeft_46 (fun z_46 h_46 => ?_)
  have h_46 : z_46 = ry9 u 8 (((u.1.2.2.1 8) - 1) - 1) ∧ ∀ K : Int, 0 ≤ K → RB K u 8 → -K ≤ z_46 ∧ z_46 ≤ K := h_46
  have hb_46 := h_46.2 80 (by omega) (p0)
  refine j_isub SS (x := z_36) (y := z_46) dX3_turnsLeft_49 ?_
  refine lv_istore (lv' := [(5, .int (J (z_36 - z_46))), (4, .int (J (z_15 - z_25))), (3, .int (J ((u.1.2.2.1 8) - 1))), (0, .ref (q 2)), (1, .int (J a)), (2, .int (J b))]) SS.1 SS.2.1 dX3_turnsLeft_50 hl (by decide) rfl (fun ls hl => ?_)
  refine lv_iload SS.1 SS.2.1 dX3_turnsLeft_52 (lv_at hl 1 rfl) ?_
  refine lv_iload_n SS.1 SS.2.1 dX3_turnsLeft_54 rfl (lv_at hl 5 rfl) ?_
  refine lv_aload_n SS.1 SS.2.1 dX3_turnsLeft_55 rfl (lv_at hl 3 rfl) ?_
  refine j_get SS hG hP 2 (v := .ref (q (9 + 5 * 8))) (C := RX3) (T := TX3) (N := 3) rfl rfl inX3 2 (by decide) (ref := "GridPolygons$Hull") kw_179 rfl rfl dX3_turnsLeft_56 ?_
  refine lv_iload_n SS.1 SS.2.1 dX3_turnsLeft_59 rfl (lv_at hl 2 rfl) ?_
  refine j_uRi SS (As := [.int (J ((u.1.2.2.1 8) - 1))]) (rest := [.int (J b), .int (J (z_15 - z_25))]) (c_X8_y l D q u 8 (by omega) ((u.1.2.2.1 8) - 1) (show -2147483648 ≤ ((u.1.2.2.1 8) - 1) ∧ ((u.1.2.2.1 8) - 1) ≤ 2147483647 from (by omega))) mu_7_y kw_443 hG hP hP (ci := 7) (q0 := (9 + 5 * 8)) rfl (cw_ring (by omega)) rfl rfl hl.1 ⟨⟨Nat.le_of_ble_eq_true rfl, Nat.le_of_ble_eq_true rfl⟩, Nat.le_of_ble_eq_true rfl, Nat.le_refl _, Nat.le_refl _⟩ rfl dX3_turnsLeft_60 (fun z_60 h_60 => ?_)
  have h_60 : z_60 = ry9 u 8 ((u.1.2.2.1 8) - 1) ∧ ∀ K : Int, 0 ≤ K → RB K u 8 → -K ≤ z_60 ∧ z_60 ≤ K := h_60
  have hb_60 := h_60.2 80 (by omega) (p0)
  refine j_isub SS (x := b) (y := z_60) dX3_turnsLeft_63 ?_
  refine j_imul SS (x := (z_15 - z_25)) (y := (b - z_60)) dX3_turnsLeft_64 ?_
  refine lv_iload SS.1 SS.2.1 dX3_turnsLeft_65 (lv_at hl 0 rfl) ?_
  refine lv_iload_n SS.1 SS.2.1 dX3_turnsLeft_67 rfl (lv_at hl 4 rfl) ?_
  refine lv_aload_n SS.1 SS.2.1 dX3_turnsLeft_68 rfl (lv_at hl 3 rfl) ?_
  refine j_get SS hG hP 2 (v := .ref (q (9 + 5 * 8))) (C := RX3) (T := TX3) (N := 3) rfl rfl inX3 2 (by decide) (ref := "GridPolygons$Hull") kw_179 rfl rfl dX3_turnsLeft_69 ?_
  refine lv_iload_n SS.1 SS.2.1 dX3_turnsLeft_72 rfl (lv_at hl 2 rfl) ?_
  refine j_uRi SS (As := [.int (J ((u.1.2.2.1 8) - 1))]) (rest := [.int (J a), .int (J (z_36 - z_46)), .int (J ((z_15 - z_25) * (b - z_60)))]) (c_X8_x l D q u 8 (by omega) ((u.1.2.2.1 8) - 1) (show -2147483648 ≤ ((u.1.2.2.1 8) - 1) ∧ ((u.1.2.2.1 8) - 1) ≤ 2147483647 from (by omega))) mu_7_x kw_437 hG hP hP (ci := 7) (q0 := (9 + 5 * 8)) rfl (cw_ring (by omega)) rfl rfl hl.1 ⟨⟨Nat.le_of_ble_eq_true rfl, Nat.le_of_ble_eq_true rfl⟩, Nat.le_of_ble_eq_true rfl, Nat.le_refl _, Nat.le_refl _⟩ rfl dX3_turnsLeft_73 (fun z_73 h_73 => ?_)
  have h_73 : z_73 = rx u 8 ((u.1.2.2.1 8) - 1) ∧ ∀ K : Int, 0 ≤ K → RB K u 8 → -K ≤ z_73 ∧ z_73 ≤ K := h_73
  have hb_73 := h_73.2 80 (by omega) (p0)
  refine j_isub SS (x := a) (y := z_73) dX3_turnsLeft_76 ?_
  refine j_imul SS (x := (z_36 - z_46)) (y := (a - z_73)) dX3_turnsLeft_77 ?_
  refine j_isub SS (x := ((z_15 - z_25) * (b - z_60))) (y := ((z_36 - z_46) * (a - z_73))) dX3_turnsLeft_78 ?_
  have m1 := mulb (A := 160) (B := 160) (a := z_15 - z_25) (b := b - z_60) (by omega) (by omega)
  have m2 := mulb (A := 160) (B := 160) (a := z_36 - z_46) (b := a - z_73) (by omega) (by omega)
  have et : (rx u 8 (u.1.2.2.1 8 - 1) - rx u 8 (u.1.2.2.1 8 - 1 - 1)) * (b - ry9 u 8 (u.1.2.2.1 8 - 1)) - (ry9 u 8 (u.1.2.2.1 8 - 1) - ry9 u 8 (u.1.2.2.1 8 - 1 - 1)) * (a - rx u 8 (u.1.2.2.1 8 - 1)) = (z_15 - z_25) * (b - z_60) - (z_36 - z_46) * (a - z_73) := by rw [h_15.1, h_25.1, h_60.1, h_36.1, h_46.1, h_73.1]
  refine j_if_le SS (tgt := 86) (x := (((z_15 - z_25) * (b - z_60)) - ((z_36 - z_46) * (a - z_73)))) dX3_turnsLeft_79 (by decide) (by omega) (fun c_79 => ?_) (fun c_79 => ?_)
  · skip
    refine j_iconst SS dX3_turnsLeft_86 ?_
    exact W.zret SS.1 SS.2.1 hr (j_nz (by decide)) (fun t0 ht hW => ⟨_, rfl, ⟨0, rfl, (by rw [et]; omega)⟩, ht⟩) (fun _ h => nomatch h) dX3_turnsLeft_87 hlk
  · skip
    refine j_iconst SS dX3_turnsLeft_82 ?_
    refine lv_goto (tgt := 87) SS.1 SS.2.1 dX3_turnsLeft_83 (by decide) ?_
    exact W.zret SS.1 SS.2.1 hr (j_nz (by decide)) (fun t0 ht hW => ⟨_, rfl, ⟨1, rfl, (by rw [et]; omega)⟩, ht⟩) (fun _ h => nomatch h) dX3_turnsLeft_87 hlk

set_option maxHeartbeats 4000000 in
set_option maxRecDepth 100000 in
theorem c_X3_push (l : Launch) (D : JD) (q : Nat → Nat) (u : CS) (A : Nat → Prop) (hD : va_D A (cW D q u)) (a : Int) (b : Int) (t : Int) (p0 : RB 80 u 8) (p1 : -80 ≤ a ∧ a ≤ 80) (p2 : -80 ≤ b ∧ b ≤ 80) (p3 : -1 ≤ t ∧ t ≤ 400) : Met l yX3_push (jw yX3_push cX3_push 4 none) (jr 2 46) (jP [.ref (q 2), .int (J a), .int (J b), .int (J t)] D (fun H => va_P D.1 j_cl (cW D q u) H)) (jWv (fun u' => ∃ f : Nat → Int, ∃ g : Nat → Int, ∃ n : Int, u' = (sY (sX (sC u 8 n) 8 f) 8 g) ∧ ((0 ≤ n ∧ n ≤ 323) ∧ RV 80 f g)) (fun u' H => va_P D.1 j_cl (cW D q u') H) A) 0 0 A := by
  refine Met.ofW (cc := cX3_push) (maxL := 4) (ret := none) (by decide) rfl ?_
  intro pr en st mi args below meth co s₁ B hml hv
  obtain ⟨rfl, hG, hP⟩ := hv
  have hr := B.returns
  have hlk := B.notSynchronized
  have SS : jS pr mi co cX3_push 4 st _ RX3 := ⟨B.exec, B.bytes, hml, findClass_of_methodNamed B.named, fun w hw => atoms_spec (ws := (jw yX3_push cX3_push 4 none)) B.pre w (List.mem_cons_of_mem _ hw)⟩
  have hl := lv_entry ([.ref (q 2), .int (J a), .int (J b), .int (J t)]) (n := 4) (Nat.le_of_ble_eq_true rfl)
  rw [lg_entry_eq]
  generalize (lg_sl ([.ref (q 2), .int (J a), .int (J b), .int (J t)]) ++ List.replicate (4 - (lg_sl ([.ref (q 2), .int (J a), .int (J b), .int (J t)])).length) Slot.unset).toArray = ls at hl ⊢
  have hl : lv_has ls 4 [(0, .ref (q 2)), (1, .int (J a)), (2, .int (J b)), (3, .int (J t))] := hl
  have hS : va_S A st.heap st.heap [] := va_S.rf
  have hR : RB 80 u 8 := p0
  have hc := p0.1
  have hr8 := rl8
  rw [rl8] at hc
  refine lv_aload_n SS.1 SS.2.1 dX3_push_0 rfl (lv_at hl 0 rfl) ?_
  refine lv_iload_n SS.1 SS.2.1 dX3_push_1 rfl (lv_at hl 1 rfl) ?_
  refine lv_iload_n SS.1 SS.2.1 dX3_push_2 rfl (lv_at hl 2 rfl) ?_
  refine j_vRi SS (As := [.int (J a), .int (J b)]) (rest := []) (c_X3_isLast l D q u  a b (show RB 80 u 8 from (hR)) (show -2147483648 ≤ a ∧ a ≤ 2147483647 from (by omega)) (show -2147483648 ≤ b ∧ b ≤ 2147483647 from (by omega))) mf_X3_isLast kw_433 hG hP hP (ci := 3) (q0 := 2) rfl rfl rfl rfl hl.1 ⟨⟨Nat.le_of_ble_eq_true rfl, Nat.le_of_ble_eq_true rfl⟩, Nat.le_of_ble_eq_true rfl, Nat.le_refl _, Nat.le_refl _⟩ rfl dX3_push_3 (fun z_3 h_3 => ?_)
  have h_3 : (z_3 = 1 ∧ 0 < (u.1.2.2.1 8) ∧ rx u 8 ((u.1.2.2.1 8) - 1) = a ∧ ry9 u 8 ((u.1.2.2.1 8) - 1) = b) ∨ (z_3 = 0 ∧ ¬ (0 < (u.1.2.2.1 8) ∧ rx u 8 ((u.1.2.2.1 8) - 1) = a ∧ ry9 u 8 ((u.1.2.2.1 8) - 1) = b)) := h_3
  refine j_if_eq SS (tgt := 10) (x := z_3) dX3_push_6 (by decide) (by omega) (fun c_6 => ?_) (fun c_6 => ?_)
  · skip
    have L_10 : ∀ (nn : Nat) (n1 : Int) (H : Heap) (locs : List Loc) (hP : va_P D.1 j_cl (cW D q (sC u 8 n1)) H) (hS : va_S A st.heap H locs) (ls : Array Slot) (hl : lv_has ls 4 [(0, .ref (q 2)), (1, .int (J a)), (2, .int (J b)), (3, .int (J t))]) (i10_0 : 0 ≤ n1 ∧ n1 ≤ 323), n1.toNat < nn → W pr l en (headSpec (jw yX3_push cX3_push 4 none) (jr 2 46)).room st mi (([.ref (q 2), .int (J a), .int (J b), .int (J t)] : List Value).toArray) below meth co H locs 0 0 (MQ below (jWv (fun u' => ∃ f : Nat → Int, ∃ g : Nat → Int, ∃ n : Int, u' = (sY (sX (sC u 8 n) 8 f) 8 g) ∧ ((0 ≤ n ∧ n ≤ 323) ∧ RV 80 f g)) (fun u' H => va_P D.1 j_cl (cW D q u') H) A) (([.ref (q 2), .int (J a), .int (J b), .int (J t)] : List Value).toArray) st 0 0 A) (F0 mi 10 ls []) := by
      intro nn
      induction nn with
      | zero => intros; omega
      | succ nn ih_10 =>
        intro  n1 H locs hP hS ls hl i10_0 hm
        have hR : RB 80 (sC u 8 n1) 8 := ⟨by show 0 ≤ n1 ∧ n1 ≤ (rl 8 : Int); omega, p0.2⟩
        refine lv_aload_n SS.1 SS.2.1 dX3_push_10 rfl (lv_at hl 0 rfl) ?_
        refine j_get SS hG hP 2 (v := .ref (q (9 + 5 * 8))) (C := RX3) (T := TX3) (N := 3) rfl rfl inX3 2 (by decide) (ref := "GridPolygons$Hull") kw_179 rfl rfl dX3_push_11 ?_
        refine j_getS SS hG hP (9 + 5 * 8) (v := .int (J n1)) (C := RX7) (T := TX7) (N := 3) (cw_ring (by omega)) rfl inX7 2 (by decide) (ref := "GridPolygons$Ring") kw_141 kw_132 rfl dX3_push_14 ?_
        refine lv_iload_n SS.1 SS.2.1 dX3_push_17 rfl (lv_at hl 3 rfl) ?_
        refine j_isub SS (x := n1) (y := t) dX3_push_18 ?_
        refine j_iconst SS dX3_push_19 ?_
        refine j_icmp_lt SS (tgt := 48) (x := (n1 - t)) (y := 2) dX3_push_20 (by decide) (by omega) (by decide) (fun c_20 => ?_) (fun c_20 => ?_)
        · skip
          refine lv_aload_n SS.1 SS.2.1 dX3_push_48 rfl (lv_at hl 0 rfl) ?_
          refine j_get SS hG hP 2 (v := .ref (q (9 + 5 * 8))) (C := RX3) (T := TX3) (N := 3) rfl rfl inX3 2 (by decide) (ref := "GridPolygons$Hull") kw_179 rfl rfl dX3_push_49 ?_
          refine lv_iload_n SS.1 SS.2.1 dX3_push_52 rfl (lv_at hl 1 rfl) ?_
          refine lv_iload_n SS.1 SS.2.1 dX3_push_53 rfl (lv_at hl 2 rfl) ?_
          refine j_uWv SS (As := [.int (J a), .int (J b)]) (rest := []) (c_X8_append l D q (sC u 8 n1) A (cW_D hD) 8 (by omega) a b (show 0 ≤ n1 ∧ n1 ≤ rl 8 from (by omega))) mu_7_append kw_453 hG hP hP (ci := 7) (q0 := (9 + 5 * 8)) rfl (cw_ring (by omega)) rfl hS (fun _ h => h) rfl hl.1 ⟨⟨Nat.le_of_ble_eq_true rfl, Nat.le_of_ble_eq_true rfl⟩, Nat.le_of_ble_eq_true rfl, Nat.le_refl _, Nat.le_refl _⟩ rfl dX3_push_54 (fun u54 H locs h_54 hP _ hS => ?_)
          obtain ⟨f_54, g_54, n_54, rfl, h_54⟩ := h_54
          have hP : va_P D.1 j_cl (cW D q (sY (sX (sC u 8 n_54) 8 f_54) 8 g_54)) H := hP
          have h_54 : (n1 < rl 8 ∧ f_54 = upI ((u.1.1 8)) (n1).toNat a ∧ g_54 = upI ((u.1.2.1 8)) (n1).toNat b ∧ n_54 = n1 + 1) ∨ (rl 8 ≤ n1 ∧ f_54 = (u.1.1 8) ∧ g_54 = (u.1.2.1 8) ∧ n_54 = n1) := h_54
          exact W.vret SS.1 SS.2.1 hr (fun t0 ht hW => ⟨⟨(sY (sX (sC u 8 n_54) 8 f_54) 8 g_54), rfl, (⟨f_54, g_54, n_54, rfl, by have q := ap_b (K := 80) p0.2 (m := 323) (by omega) p1 p2 (by rw [rl8] at h_54; exact h_54); exact q⟩), by show va_P D.1 j_cl (cW D q (sY (sX (sC u 8 n_54) 8 f_54) 8 g_54)) t0.heap; rw [ht]; first | exact hP | (simp only [sC_id, sX_id, sY_id, sH_id, sT_id, sV_id]; exact hP)⟩, hS.F ht⟩) hS.2.2 dX3_push_57 hlk
        · skip
          refine lv_aload_n SS.1 SS.2.1 dX3_push_23 rfl (lv_at hl 0 rfl) ?_
          refine lv_iload_n SS.1 SS.2.1 dX3_push_24 rfl (lv_at hl 1 rfl) ?_
          refine lv_iload_n SS.1 SS.2.1 dX3_push_25 rfl (lv_at hl 2 rfl) ?_
          refine j_vRi SS (As := [.int (J a), .int (J b)]) (rest := []) (c_X3_turnsLeft l D q (sC u 8 n1)  a b (show RB 80 (sC u 8 n1) 8 from (hR)) (show -80 ≤ a ∧ a ≤ 80 from (by omega)) (show -80 ≤ b ∧ b ≤ 80 from (by omega))) mf_X3_turnsLeft kw_449 hG hP hP (ci := 3) (q0 := 2) rfl rfl rfl rfl hl.1 ⟨⟨Nat.le_of_ble_eq_true rfl, Nat.le_of_ble_eq_true rfl⟩, Nat.le_of_ble_eq_true rfl, Nat.le_refl _, Nat.le_refl _⟩ rfl dX3_push_26 (fun z_26 h_26 => ?_)
          have h_26 : (z_26 = 1 ∧ 0 < (rx (sC u 8 n1) 8 (n1 - 1) - rx (sC u 8 n1) 8 (n1 - 1 - 1)) * (b - ry9 (sC u 8 n1) 8 (n1 - 1)) - (ry9 (sC u 8 n1) 8 (n1 - 1) - ry9 (sC u 8 n1) 8 (n1 - 1 - 1)) * (a - rx (sC u 8 n1) 8 (n1 - 1))) ∨ (z_26 = 0 ∧ (rx (sC u 8 n1) 8 (n1 - 1) - rx (sC u 8 n1) 8 (n1 - 1 - 1)) * (b - ry9 (sC u 8 n1) 8 (n1 - 1)) - (ry9 (sC u 8 n1) 8 (n1 - 1) - ry9 (sC u 8 n1) 8 (n1 - 1 - 1)) * (a - rx (sC u 8 n1) 8 (n1 - 1)) ≤ 0) := h_26
          refine j_if_ne SS (tgt := 48) (x := z_26) dX3_push_29 (by decide) (by omega) (fun c_29 => ?_) (fun c_29 => ?_)
          · skip
            refine lv_aload_n SS.1 SS.2.1 dX3_push_48 rfl (lv_at hl 0 rfl) ?_
            refine j_get SS hG hP 2 (v := .ref (q (9 + 5 * 8))) (C := RX3) (T := TX3) (N := 3) rfl rfl inX3 2 (by decide) (ref := "GridPolygons$Hull") kw_179 rfl rfl dX3_push_49 ?_
            refine lv_iload_n SS.1 SS.2.1 dX3_push_52 rfl (lv_at hl 1 rfl) ?_
            refine lv_iload_n SS.1 SS.2.1 dX3_push_53 rfl (lv_at hl 2 rfl) ?_
            refine j_uWv SS (As := [.int (J a), .int (J b)]) (rest := []) (c_X8_append l D q (sC u 8 n1) A (cW_D hD) 8 (by omega) a b (show 0 ≤ n1 ∧ n1 ≤ rl 8 from (by omega))) mu_7_append kw_453 hG hP hP (ci := 7) (q0 := (9 + 5 * 8)) rfl (cw_ring (by omega)) rfl hS (fun _ h => h) rfl hl.1 ⟨⟨Nat.le_of_ble_eq_true rfl, Nat.le_of_ble_eq_true rfl⟩, Nat.le_of_ble_eq_true rfl, Nat.le_refl _, Nat.le_refl _⟩ rfl dX3_push_54 (fun u54 H locs h_54 hP _ hS => ?_)
            obtain ⟨f_54, g_54, n_54, rfl, h_54⟩ := h_54
            have hP : va_P D.1 j_cl (cW D q (sY (sX (sC u 8 n_54) 8 f_54) 8 g_54)) H := hP
            have h_54 : (n1 < rl 8 ∧ f_54 = upI ((u.1.1 8)) (n1).toNat a ∧ g_54 = upI ((u.1.2.1 8)) (n1).toNat b ∧ n_54 = n1 + 1) ∨ (rl 8 ≤ n1 ∧ f_54 = (u.1.1 8) ∧ g_54 = (u.1.2.1 8) ∧ n_54 = n1) := h_54
            exact W.vret SS.1 SS.2.1 hr (fun t0 ht hW => ⟨⟨(sY (sX (sC u 8 n_54) 8 f_54) 8 g_54), rfl, (⟨f_54, g_54, n_54, rfl, by have q := ap_b (K := 80) p0.2 (m := 323) (by omega) p1 p2 (by rw [rl8] at h_54; exact h_54); exact q⟩), by show va_P D.1 j_cl (cW D q (sY (sX (sC u 8 n_54) 8 f_54) 8 g_54)) t0.heap; rw [ht]; first | exact hP | (simp only [sC_id, sX_id, sY_id, sH_id, sT_id, sV_id]; exact hP)⟩, hS.F ht⟩) hS.2.2 dX3_push_57 hlk
          · skip
            refine lv_aload_n SS.1 SS.2.1 dX3_push_32 rfl (lv_at hl 0 rfl) ?_
            refine j_get SS hG hP 2 (v := .ref (q (9 + 5 * 8))) (C := RX3) (T := TX3) (N := 3) rfl rfl inX3 2 (by decide) (ref := "GridPolygons$Hull") kw_179 rfl rfl dX3_push_33 ?_
            refine lv_dup SS.1 SS.2.1 dX3_push_36 rfl ?_
            refine j_getS SS hG hP (9 + 5 * 8) (v := .int (J n1)) (C := RX7) (T := TX7) (N := 3) (cw_ring (by omega)) rfl inX7 2 (by decide) (ref := "GridPolygons$Ring") kw_141 kw_132 rfl dX3_push_37 ?_
            refine j_iconst SS dX3_push_40 ?_
            refine j_isub SS (x := n1) (y := 1) dX3_push_41 ?_
            refine j_putS SS hG hP (cW_D hD) hS (9 + 5 * 8) (v := .int (J (n1 - 1))) (ty := .int) (C := RX7) (T := TX7) (N := 3) (cw_ring (by omega)) rfl inX7 tyX7 tyX7_ok nmX7 2 (by decide) (ref := "GridPolygons$Ring") kw_141 kw_132 rfl (by decide +kernel) rfl rfl (Nat.le_of_ble_eq_true rfl) dX3_push_42 (ws' := (cW D q (sC u 8 (n1 - 1)))) (cs_ring (by omega)) (fun H locs hP hS => ?_)
            refine lv_goto (tgt := 10) SS.1 SS.2.1 dX3_push_45 (by decide) ?_
            exact ih_10 (n1 - 1) _ _ hP hS ls (lv_sub hl [0, 1, 2, 3] rfl) (by omega) (by omega)
    exact L_10 ((u.1.2.2.1 8).toNat + 1) (u.1.2.2.1 8) _ _ hP hS ls (lv_sub hl [0, 1, 2, 3] rfl) (by omega) (Nat.lt_succ_self _)
  · skip
    exact W.vret SS.1 SS.2.1 hr (fun t0 ht hW => ⟨⟨(sY (sX (sC u 8 (u.1.2.2.1 8)) 8 (u.1.1 8)) 8 (u.1.2.1 8)), rfl, (⟨(u.1.1 8), (u.1.2.1 8), (u.1.2.2.1 8), rfl, ⟨hc, p0.2⟩⟩), by show va_P D.1 j_cl (cW D q (sY (sX (sC u 8 (u.1.2.2.1 8)) 8 (u.1.1 8)) 8 (u.1.2.1 8))) t0.heap; rw [ht]; first | exact hP | (simp only [sC_id, sX_id, sY_id, sH_id, sT_id, sV_id]; exact hP)⟩, hS.F ht⟩) hS.2.2 dX3_push_9 hlk

set_option maxHeartbeats 4000000 in
set_option maxRecDepth 100000 in
theorem c_X3_close (l : Launch) (D : JD) (q : Nat → Nat) (u : CS) (A : Nat → Prop) (hD : va_D A (cW D q u)) (p0 : RB 80 u 8) (p1 : HU_ (u.2.1 0) (u.2.1 1)) : Met l yX3_close (jw yX3_close cX3_close 3 none) (jr 3 69) (jP [.ref (q 2)] D (fun H => va_P D.1 j_cl (cW D q u) H)) (jWv (fun u' => ∃ f : Nat → Int, ∃ g : Nat → Int, ∃ n : Int, u' = (sY (sX (sC u 8 n) 8 f) 8 g) ∧ ((0 ≤ n ∧ n ≤ 323) ∧ RV 80 f g ∧ ((∀ k : Nat, k < 161 → u.2.1 1 k < u.2.1 0 k) → n = 0))) (fun u' H => va_P D.1 j_cl (cW D q u') H) A) 0 0 A := by
  refine Met.ofW (cc := cX3_close) (maxL := 3) (ret := none) (by decide) rfl ?_
  intro pr en st mi args below meth co s₁ B hml hv
  obtain ⟨rfl, hG, hP⟩ := hv
  have hr := B.returns
  have hlk := B.notSynchronized
  have SS : jS pr mi co cX3_close 3 st _ RX3 := ⟨B.exec, B.bytes, hml, findClass_of_methodNamed B.named, fun w hw => atoms_spec (ws := (jw yX3_close cX3_close 3 none)) B.pre w (List.mem_cons_of_mem _ hw)⟩
  have hl := lv_entry ([.ref (q 2)]) (n := 3) (Nat.le_of_ble_eq_true rfl)
  rw [lg_entry_eq]
  generalize (lg_sl ([.ref (q 2)]) ++ List.replicate (3 - (lg_sl ([.ref (q 2)])).length) Slot.unset).toArray = ls at hl ⊢
  have hl : lv_has ls 3 [(0, .ref (q 2))] := hl
  have hS : va_S A st.heap st.heap [] := va_S.rf
  have hR : RB 80 u 8 := p0
  have hc := p0.1
  have hr8 := rl8
  rw [rl8] at hc
  refine lv_aload_n SS.1 SS.2.1 dX3_close_0 rfl (lv_at hl 0 rfl) ?_
  refine j_get SS hG hP 2 (v := .ref (q (9 + 5 * 8))) (C := RX3) (T := TX3) (N := 3) rfl rfl inX3 2 (by decide) (ref := "GridPolygons$Hull") kw_179 rfl rfl dX3_close_1 ?_
  refine j_iconst SS dX3_close_4 ?_
  refine j_putS SS hG hP (cW_D hD) hS (9 + 5 * 8) (v := .int (J 0)) (ty := .int) (C := RX7) (T := TX7) (N := 3) (cw_ring (by omega)) rfl inX7 tyX7 tyX7_ok nmX7 2 (by decide) (ref := "GridPolygons$Ring") kw_141 kw_132 rfl (by decide +kernel) rfl rfl (Nat.le_of_ble_eq_true rfl) dX3_close_5 (ws' := (cW D q (sC u 8 0))) (cs_ring (by omega)) (fun H locs hP hS => ?_)
  refine j_iconst SS dX3_close_8 ?_
  refine lv_istore_n (lv' := [(1, .int (J 0)), (0, .ref (q 2))]) SS.1 SS.2.1 dX3_close_9 rfl hl (by decide) rfl (fun ls hl => ?_)
  have L_10 : ∀ (nn : Nat) (i : Int) (f1 : Nat → Int) (g1 : Nat → Int) (n1 : Int) (H : Heap) (locs : List Loc) (hP : va_P D.1 j_cl (cW D q (sY (sX (sC u 8 n1) 8 f1) 8 g1)) H) (hS : va_S A st.heap H locs) (ls : Array Slot) (hl : lv_has ls 3 [(0, .ref (q 2)), (1, .int (J i))]) (i10_0 : 0 ≤ i ∧ i ≤ 161) (i10_1 : 0 ≤ n1 ∧ n1 ≤ 323) (i10_2 : RV 80 f1 g1) (i10_3 : (∀ k : Nat, k < 161 → u.2.1 1 k < u.2.1 0 k) → n1 = 0), ((161 : Int) - i).toNat < nn → W pr l en (headSpec (jw yX3_close cX3_close 3 none) (jr 3 69)).room st mi (([.ref (q 2)] : List Value).toArray) below meth co H locs 0 0 (MQ below (jWv (fun u' => ∃ f : Nat → Int, ∃ g : Nat → Int, ∃ n : Int, u' = (sY (sX (sC u 8 n) 8 f) 8 g) ∧ ((0 ≤ n ∧ n ≤ 323) ∧ RV 80 f g ∧ ((∀ k : Nat, k < 161 → u.2.1 1 k < u.2.1 0 k) → n = 0))) (fun u' H => va_P D.1 j_cl (cW D q u') H) A) (([.ref (q 2)] : List Value).toArray) st 0 0 A) (F0 mi 10 ls []) := by
    intro nn
    induction nn with
    | zero => intros; omega
    | succ nn ih_10 =>
      intro i f1 g1 n1 H locs hP hS ls hl i10_0 i10_1 i10_2 i10_3 hm
      have hR : RB 80 (sY (sX (sC u 8 n1) 8 f1) 8 g1) 8 := ⟨by show 0 ≤ n1 ∧ n1 ≤ (rl 8 : Int); omega, i10_2⟩
      have qh := p1 i.toNat
      refine lv_iload_n SS.1 SS.2.1 dX3_close_10 rfl (lv_at hl 1 rfl) ?_
      refine j_sipush SS dX3_close_11 (by decide +kernel) ?_
      refine j_icmp_ge SS (tgt := 53) (x := i) (y := 161) dX3_close_14 (by decide) (by omega) (by decide) (fun c_14 => ?_) (fun c_14 => ?_)
      · skip
        refine lv_aload_n SS.1 SS.2.1 dX3_close_53 rfl (lv_at hl 0 rfl) ?_
        refine j_get SS hG hP 2 (v := .ref (q (9 + 5 * 8))) (C := RX3) (T := TX3) (N := 3) rfl rfl inX3 2 (by decide) (ref := "GridPolygons$Hull") kw_179 rfl rfl dX3_close_54 ?_
        refine j_getS SS hG hP (9 + 5 * 8) (v := .int (J n1)) (C := RX7) (T := TX7) (N := 3) (cw_ring (by omega)) rfl inX7 2 (by decide) (ref := "GridPolygons$Ring") kw_141 kw_132 rfl dX3_close_57 ?_
        refine j_iconst SS dX3_close_60 ?_
        refine j_isub SS (x := n1) (y := 1) dX3_close_61 ?_
        refine lv_istore_n (lv' := [(1, .int (J (n1 - 1))), (0, .ref (q 2))]) SS.1 SS.2.1 dX3_close_62 rfl hl (by decide) rfl (fun ls hl => ?_)
        refine j_sipush SS dX3_close_63 (by decide +kernel) ?_
        refine lv_istore_n (lv' := [(2, .int (J 160)), (1, .int (J (n1 - 1))), (0, .ref (q 2))]) SS.1 SS.2.1 dX3_close_66 rfl hl (by decide) rfl (fun ls hl => ?_)
        have L_67 : ∀ (nn : Nat) (j : Int) (f2 : Nat → Int) (g2 : Nat → Int) (n2 : Int) (H : Heap) (locs : List Loc) (hP : va_P D.1 j_cl (cW D q (sY (sX (sC u 8 n2) 8 f2) 8 g2)) H) (hS : va_S A st.heap H locs) (ls : Array Slot) (hl : lv_has ls 3 [(0, .ref (q 2)), (1, .int (J (n1 - 1))), (2, .int (J j))]) (i67_0 : -1 ≤ j ∧ j ≤ 160) (i67_1 : 0 ≤ n2 ∧ n2 ≤ 323) (i67_2 : RV 80 f2 g2) (i67_3 : (∀ k : Nat, k < 161 → u.2.1 1 k < u.2.1 0 k) → n2 = 0), (j + 1).toNat < nn → W pr l en (headSpec (jw yX3_close cX3_close 3 none) (jr 3 69)).room st mi (([.ref (q 2)] : List Value).toArray) below meth co H locs 0 0 (MQ below (jWv (fun u' => ∃ f : Nat → Int, ∃ g : Nat → Int, ∃ n : Int, u' = (sY (sX (sC u 8 n) 8 f) 8 g) ∧ ((0 ≤ n ∧ n ≤ 323) ∧ RV 80 f g ∧ ((∀ k : Nat, k < 161 → u.2.1 1 k < u.2.1 0 k) → n = 0))) (fun u' H => va_P D.1 j_cl (cW D q u') H) A) (([.ref (q 2)] : List Value).toArray) st 0 0 A) (F0 mi 67 ls []) := by
          intro nn
          induction nn with
          | zero => intros; omega
          | succ nn ih_67 =>
            intro j f2 g2 n2 H locs hP hS ls hl i67_0 i67_1 i67_2 i67_3 hm
            have hR : RB 80 (sY (sX (sC u 8 n2) 8 f2) 8 g2) 8 := ⟨by show 0 ≤ n2 ∧ n2 ≤ (rl 8 : Int); omega, i67_2⟩
            have qh := p1 j.toNat
            refine lv_iload_n SS.1 SS.2.1 dX3_close_67 rfl (lv_at hl 2 rfl) ?_
            refine j_if_lt SS (tgt := 107) (x := j) dX3_close_68 (by decide) (by omega) (fun c_68 => ?_) (fun c_68 => ?_)
            · skip
              refine lv_aload_n SS.1 SS.2.1 dX3_close_107 rfl (lv_at hl 0 rfl) ?_
              refine j_get SS hG hP 2 (v := .ref (q (9 + 5 * 8))) (C := RX3) (T := TX3) (N := 3) rfl rfl inX3 2 (by decide) (ref := "GridPolygons$Hull") kw_179 rfl rfl dX3_close_108 ?_
              refine j_getS SS hG hP (9 + 5 * 8) (v := .int (J n2)) (C := RX7) (T := TX7) (N := 3) (cw_ring (by omega)) rfl inX7 2 (by decide) (ref := "GridPolygons$Ring") kw_141 kw_132 rfl dX3_close_111 ?_
              refine j_iconst SS dX3_close_114 ?_
              refine j_icmp_le SS (tgt := 154) (x := n2) (y := 1) dX3_close_115 (by decide) (by omega) (by decide) (fun c_115 => ?_) (fun c_115 => ?_)
              · skip
                exact W.vret SS.1 SS.2.1 hr (fun t0 ht hW => ⟨⟨(sY (sX (sC u 8 n2) 8 f2) 8 g2), rfl, (⟨f2, g2, n2, rfl, ⟨by omega, i67_2, fun h => by have := i67_3 h; omega⟩⟩), by show va_P D.1 j_cl (cW D q (sY (sX (sC u 8 n2) 8 f2) 8 g2)) t0.heap; rw [ht]; first | exact hP | (simp only [sC_id, sX_id, sY_id, sH_id, sT_id, sV_id]; exact hP)⟩, hS.F ht⟩) hS.2.2 dX3_close_154 hlk
              · skip
                refine lv_aload_n SS.1 SS.2.1 dX3_close_118 rfl (lv_at hl 0 rfl) ?_
                refine lv_aload_n SS.1 SS.2.1 dX3_close_119 rfl (lv_at hl 0 rfl) ?_
                refine j_get SS hG hP 2 (v := .ref (q (9 + 5 * 8))) (C := RX3) (T := TX3) (N := 3) rfl rfl inX3 2 (by decide) (ref := "GridPolygons$Hull") kw_179 rfl rfl dX3_close_120 ?_
                refine j_iconst SS dX3_close_123 ?_
                refine j_uRi SS (As := [.int (J 0)]) (rest := [.ref (q 2)]) (c_X8_x l D q (sY (sX (sC u 8 n2) 8 f2) 8 g2) 8 (by omega) 0 (show -2147483648 ≤ (0 : Int) ∧ (0 : Int) ≤ 2147483647 from (by omega))) mu_7_x kw_437 hG hP hP (ci := 7) (q0 := (9 + 5 * 8)) rfl (cw_ring (by omega)) rfl rfl hl.1 ⟨⟨Nat.le_of_ble_eq_true rfl, Nat.le_of_ble_eq_true rfl⟩, Nat.le_of_ble_eq_true rfl, Nat.le_refl _, Nat.le_refl _⟩ rfl dX3_close_124 (fun z_124 h_124 => ?_)
                have h_124 : z_124 = rx (sY (sX (sC u 8 n2) 8 f2) 8 g2) 8 (0 : Int) ∧ ∀ K : Int, 0 ≤ K → RB K (sY (sX (sC u 8 n2) 8 f2) 8 g2) 8 → -K ≤ z_124 ∧ z_124 ≤ K := h_124
                have hb_124 := h_124.2 80 (by omega) (hR)
                refine lv_aload_n SS.1 SS.2.1 dX3_close_127 rfl (lv_at hl 0 rfl) ?_
                refine j_get SS hG hP 2 (v := .ref (q (9 + 5 * 8))) (C := RX3) (T := TX3) (N := 3) rfl rfl inX3 2 (by decide) (ref := "GridPolygons$Hull") kw_179 rfl rfl dX3_close_128 ?_
                refine j_iconst SS dX3_close_131 ?_
                refine j_uRi SS (As := [.int (J 0)]) (rest := [.int (J z_124), .ref (q 2)]) (c_X8_y l D q (sY (sX (sC u 8 n2) 8 f2) 8 g2) 8 (by omega) 0 (show -2147483648 ≤ (0 : Int) ∧ (0 : Int) ≤ 2147483647 from (by omega))) mu_7_y kw_443 hG hP hP (ci := 7) (q0 := (9 + 5 * 8)) rfl (cw_ring (by omega)) rfl rfl hl.1 ⟨⟨Nat.le_of_ble_eq_true rfl, Nat.le_of_ble_eq_true rfl⟩, Nat.le_of_ble_eq_true rfl, Nat.le_refl _, Nat.le_refl _⟩ rfl dX3_close_132 (fun z_132 h_132 => ?_)
                have h_132 : z_132 = ry9 (sY (sX (sC u 8 n2) 8 f2) 8 g2) 8 (0 : Int) ∧ ∀ K : Int, 0 ≤ K → RB K (sY (sX (sC u 8 n2) 8 f2) 8 g2) 8 → -K ≤ z_132 ∧ z_132 ≤ K := h_132
                have hb_132 := h_132.2 80 (by omega) (hR)
                refine j_vRi SS (As := [.int (J z_124), .int (J z_132)]) (rest := []) (c_X3_isLast l D q (sY (sX (sC u 8 n2) 8 f2) 8 g2)  z_124 z_132 (show RB 80 (sY (sX (sC u 8 n2) 8 f2) 8 g2) 8 from (hR)) (show -2147483648 ≤ z_124 ∧ z_124 ≤ 2147483647 from (by omega)) (show -2147483648 ≤ z_132 ∧ z_132 ≤ 2147483647 from (by omega))) mf_X3_isLast kw_433 hG hP hP (ci := 3) (q0 := 2) rfl rfl rfl rfl hl.1 ⟨⟨Nat.le_of_ble_eq_true rfl, Nat.le_of_ble_eq_true rfl⟩, Nat.le_of_ble_eq_true rfl, Nat.le_refl _, Nat.le_refl _⟩ rfl dX3_close_135 (fun z_135 h_135 => ?_)
                have h_135 : (z_135 = 1 ∧ 0 < n2 ∧ rx (sY (sX (sC u 8 n2) 8 f2) 8 g2) 8 (n2 - 1) = z_124 ∧ ry9 (sY (sX (sC u 8 n2) 8 f2) 8 g2) 8 (n2 - 1) = z_132) ∨ (z_135 = 0 ∧ ¬ (0 < n2 ∧ rx (sY (sX (sC u 8 n2) 8 f2) 8 g2) 8 (n2 - 1) = z_124 ∧ ry9 (sY (sX (sC u 8 n2) 8 f2) 8 g2) 8 (n2 - 1) = z_132)) := h_135
                refine j_if_eq SS (tgt := 154) (x := z_135) dX3_close_138 (by decide) (by omega) (fun c_138 => ?_) (fun c_138 => ?_)
                · skip
                  exact W.vret SS.1 SS.2.1 hr (fun t0 ht hW => ⟨⟨(sY (sX (sC u 8 n2) 8 f2) 8 g2), rfl, (⟨f2, g2, n2, rfl, ⟨by omega, i67_2, fun h => by have := i67_3 h; omega⟩⟩), by show va_P D.1 j_cl (cW D q (sY (sX (sC u 8 n2) 8 f2) 8 g2)) t0.heap; rw [ht]; first | exact hP | (simp only [sC_id, sX_id, sY_id, sH_id, sT_id, sV_id]; exact hP)⟩, hS.F ht⟩) hS.2.2 dX3_close_154 hlk
                · skip
                  refine lv_aload_n SS.1 SS.2.1 dX3_close_141 rfl (lv_at hl 0 rfl) ?_
                  refine j_get SS hG hP 2 (v := .ref (q (9 + 5 * 8))) (C := RX3) (T := TX3) (N := 3) rfl rfl inX3 2 (by decide) (ref := "GridPolygons$Hull") kw_179 rfl rfl dX3_close_142 ?_
                  refine lv_dup SS.1 SS.2.1 dX3_close_145 rfl ?_
                  refine j_getS SS hG hP (9 + 5 * 8) (v := .int (J n2)) (C := RX7) (T := TX7) (N := 3) (cw_ring (by omega)) rfl inX7 2 (by decide) (ref := "GridPolygons$Ring") kw_141 kw_132 rfl dX3_close_146 ?_
                  refine j_iconst SS dX3_close_149 ?_
                  refine j_isub SS (x := n2) (y := 1) dX3_close_150 ?_
                  refine j_putS SS hG hP (cW_D hD) hS (9 + 5 * 8) (v := .int (J (n2 - 1))) (ty := .int) (C := RX7) (T := TX7) (N := 3) (cw_ring (by omega)) rfl inX7 tyX7 tyX7_ok nmX7 2 (by decide) (ref := "GridPolygons$Ring") kw_141 kw_132 rfl (by decide +kernel) rfl rfl (Nat.le_of_ble_eq_true rfl) dX3_close_151 (ws' := (cW D q (sY (sX (sC u 8 (n2 - 1)) 8 f2) 8 g2))) (cs_ring (by omega)) (fun H locs hP hS => ?_)
                  exact W.vret SS.1 SS.2.1 hr (fun t0 ht hW => ⟨⟨(sY (sX (sC u 8 (n2 - 1)) 8 f2) 8 g2), rfl, (⟨f2, g2, (n2 - 1), rfl, ⟨by omega, i67_2, fun h => by have := i67_3 h; omega⟩⟩), by show va_P D.1 j_cl (cW D q (sY (sX (sC u 8 (n2 - 1)) 8 f2) 8 g2)) t0.heap; rw [ht]; first | exact hP | (simp only [sC_id, sX_id, sY_id, sH_id, sT_id, sV_id]; exact hP)⟩, hS.F ht⟩) hS.2.2 dX3_close_154 hlk
            · skip
              refine lv_aload_n SS.1 SS.2.1 dX3_close_71 rfl (lv_at hl 0 rfl) ?_
              refine j_get SS hG hP 2 (v := .ref (q 48)) (C := RX3) (T := TX3) (N := 3) rfl rfl inX3 0 (by decide) (ref := "GridPolygons$Hull") kw_177 rfl rfl dX3_close_72 ?_
              refine lv_iload_n SS.1 SS.2.1 dX3_close_75 rfl (lv_at hl 2 rfl) ?_
              refine j_iald SS hG hP 48 (n := 161) (f := (u.2.1 0)) rfl (z := j) (by omega) (by omega) dX3_close_76 ?_
              refine lv_aload_n SS.1 SS.2.1 dX3_close_77 rfl (lv_at hl 0 rfl) ?_
              refine j_get SS hG hP 2 (v := .ref (q 52)) (C := RX3) (T := TX3) (N := 3) rfl rfl inX3 1 (by decide) (ref := "GridPolygons$Hull") kw_178 rfl rfl dX3_close_78 ?_
              refine lv_iload_n SS.1 SS.2.1 dX3_close_81 rfl (lv_at hl 2 rfl) ?_
              refine j_iald SS hG hP 52 (n := 161) (f := (u.2.1 1)) rfl (z := j) (by omega) (by omega) dX3_close_82 ?_
              refine j_icmp_gt SS (tgt := 101) (x := ((u.2.1 0) (j).toNat)) (y := ((u.2.1 1) (j).toNat)) dX3_close_83 (by decide) (by omega) (by omega) (fun c_83 => ?_) (fun c_83 => ?_)
              · skip
                refine lv_iinc (v := J (j + (-1))) (lv' := [(2, .int (J (j + (-1)))), (0, .ref (q 2)), (1, .int (J (n1 - 1)))]) SS.1 SS.2.1 dX3_close_101 hl (k := 2) rfl (J_add _ _) (by decide) rfl (fun ls hl => ?_)
                refine lv_goto (tgt := 67) SS.1 SS.2.1 dX3_close_104 (by decide) ?_
                exact ih_67 (j + (-1)) f2 g2 n2 _ _ hP hS ls (lv_sub hl [1, 2, 0] rfl) (by omega) (by omega) (by first | exact h_98.2 | exact i67_2) (fun h => by first | exact i67_3 h | (have := h j.toNat (by omega); omega)) (by omega)
              · skip
                refine lv_aload_n SS.1 SS.2.1 dX3_close_86 rfl (lv_at hl 0 rfl) ?_
                refine lv_iload_n SS.1 SS.2.1 dX3_close_87 rfl (lv_at hl 2 rfl) ?_
                refine j_bipush SS dX3_close_88 (by decide +kernel) ?_
                refine j_isub SS (x := j) (y := 80) dX3_close_90 ?_
                refine lv_aload_n SS.1 SS.2.1 dX3_close_91 rfl (lv_at hl 0 rfl) ?_
                refine j_get SS hG hP 2 (v := .ref (q 52)) (C := RX3) (T := TX3) (N := 3) rfl rfl inX3 1 (by decide) (ref := "GridPolygons$Hull") kw_178 rfl rfl dX3_close_92 ?_
                refine lv_iload_n SS.1 SS.2.1 dX3_close_95 rfl (lv_at hl 2 rfl) ?_
                refine j_iald SS hG hP 52 (n := 161) (f := (u.2.1 1)) rfl (z := j) (by omega) (by omega) dX3_close_96 ?_
                refine lv_iload_n SS.1 SS.2.1 dX3_close_97 rfl (lv_at hl 1 rfl) ?_
                refine j_vWv SS (As := [.int (J (j - 80)), .int (J ((u.2.1 1) (j).toNat)), .int (J (n1 - 1))]) (rest := []) (c_X3_push l D q (sY (sX (sC u 8 n2) 8 f2) 8 g2) A (cW_D hD)  (j - 80) ((u.2.1 1) (j).toNat) (n1 - 1) (show RB 80 (sY (sX (sC u 8 n2) 8 f2) 8 g2) 8 from (hR)) (show -80 ≤ (j - 80) ∧ (j - 80) ≤ 80 from (by omega)) (show -80 ≤ ((u.2.1 1) (j).toNat) ∧ ((u.2.1 1) (j).toNat) ≤ 80 from (by omega)) (show -1 ≤ (n1 - 1) ∧ (n1 - 1) ≤ 400 from (by omega))) mf_X3_push kw_429 hG hP hP (ci := 3) (q0 := 2) rfl rfl rfl hS (fun _ h => h) rfl hl.1 ⟨⟨Nat.le_of_ble_eq_true rfl, Nat.le_of_ble_eq_true rfl⟩, Nat.le_of_ble_eq_true rfl, Nat.le_refl _, Nat.le_refl _⟩ rfl dX3_close_98 (fun u98 H locs h_98 hP _ hS => ?_)
                obtain ⟨f_98, g_98, n_98, rfl, h_98⟩ := h_98
                have hP : va_P D.1 j_cl (cW D q (sY (sX (sC u 8 n_98) 8 f_98) 8 g_98)) H := hP
                have h_98 : (0 ≤ n_98 ∧ n_98 ≤ 323) ∧ RV 80 f_98 g_98 := h_98
                refine lv_iinc (v := J (j + (-1))) (lv' := [(2, .int (J (j + (-1)))), (0, .ref (q 2)), (1, .int (J (n1 - 1)))]) SS.1 SS.2.1 dX3_close_101 hl (k := 2) rfl (J_add _ _) (by decide) rfl (fun ls hl => ?_)
                refine lv_goto (tgt := 67) SS.1 SS.2.1 dX3_close_104 (by decide) ?_
                exact ih_67 (j + (-1)) f_98 g_98 n_98 _ _ hP hS ls (lv_sub hl [1, 2, 0] rfl) (by omega) (by omega) (by first | exact h_98.2 | exact i67_2) (fun h => by first | exact i67_3 h | (have := h j.toNat (by omega); omega)) (by omega)
        exact L_67 (((160 : Int) + 1).toNat + 1) 160 f1 g1 n1 _ _ hP hS ls (lv_sub hl [2, 1, 0] rfl) (by omega) (by omega) (i10_2) (i10_3) (Nat.lt_succ_self _)
      · skip
        refine lv_aload_n SS.1 SS.2.1 dX3_close_17 rfl (lv_at hl 0 rfl) ?_
        refine j_get SS hG hP 2 (v := .ref (q 48)) (C := RX3) (T := TX3) (N := 3) rfl rfl inX3 0 (by decide) (ref := "GridPolygons$Hull") kw_177 rfl rfl dX3_close_18 ?_
        refine lv_iload_n SS.1 SS.2.1 dX3_close_21 rfl (lv_at hl 1 rfl) ?_
        refine j_iald SS hG hP 48 (n := 161) (f := (u.2.1 0)) rfl (z := i) (by omega) (by omega) dX3_close_22 ?_
        refine lv_aload_n SS.1 SS.2.1 dX3_close_23 rfl (lv_at hl 0 rfl) ?_
        refine j_get SS hG hP 2 (v := .ref (q 52)) (C := RX3) (T := TX3) (N := 3) rfl rfl inX3 1 (by decide) (ref := "GridPolygons$Hull") kw_178 rfl rfl dX3_close_24 ?_
        refine lv_iload_n SS.1 SS.2.1 dX3_close_27 rfl (lv_at hl 1 rfl) ?_
        refine j_iald SS hG hP 52 (n := 161) (f := (u.2.1 1)) rfl (z := i) (by omega) (by omega) dX3_close_28 ?_
        refine j_icmp_gt SS (tgt := 47) (x := ((u.2.1 0) (i).toNat)) (y := ((u.2.1 1) (i).toNat)) dX3_close_29 (by decide) (by omega) (by omega) (fun c_29 => ?_) (fun c_29 => ?_)
        · skip
          refine lv_iinc (v := J (i + 1)) (lv' := [(1, .int (J (i + 1))), (0, .ref (q 2))]) SS.1 SS.2.1 dX3_close_47 hl (k := 1) rfl (J_add _ _) (by decide) rfl (fun ls hl => ?_)
          refine lv_goto (tgt := 10) SS.1 SS.2.1 dX3_close_50 (by decide) ?_
          exact ih_10 (i + 1) f1 g1 n1 _ _ hP hS ls (lv_sub hl [1, 0] rfl) (by omega) (by omega) (by first | exact h_44.2 | exact i10_2) (fun h => by first | exact i10_3 h | (have := h i.toNat (by omega); omega)) (by omega)
        · skip
          refine lv_aload_n SS.1 SS.2.1 dX3_close_32 rfl (lv_at hl 0 rfl) ?_
          refine lv_iload_n SS.1 SS.2.1 dX3_close_33 rfl (lv_at hl 1 rfl) ?_
          refine j_bipush SS dX3_close_34 (by decide +kernel) ?_
          refine j_isub SS (x := i) (y := 80) dX3_close_36 ?_
          refine lv_aload_n SS.1 SS.2.1 dX3_close_37 rfl (lv_at hl 0 rfl) ?_
          refine j_get SS hG hP 2 (v := .ref (q 48)) (C := RX3) (T := TX3) (N := 3) rfl rfl inX3 0 (by decide) (ref := "GridPolygons$Hull") kw_177 rfl rfl dX3_close_38 ?_
          refine lv_iload_n SS.1 SS.2.1 dX3_close_41 rfl (lv_at hl 1 rfl) ?_
          refine j_iald SS hG hP 48 (n := 161) (f := (u.2.1 0)) rfl (z := i) (by omega) (by omega) dX3_close_42 ?_
          refine j_iconst SS dX3_close_43 ?_
          refine j_vWv SS (As := [.int (J (i - 80)), .int (J ((u.2.1 0) (i).toNat)), .int (J 0)]) (rest := []) (c_X3_push l D q (sY (sX (sC u 8 n1) 8 f1) 8 g1) A (cW_D hD)  (i - 80) ((u.2.1 0) (i).toNat) 0 (show RB 80 (sY (sX (sC u 8 n1) 8 f1) 8 g1) 8 from (hR)) (show -80 ≤ (i - 80) ∧ (i - 80) ≤ 80 from (by omega)) (show -80 ≤ ((u.2.1 0) (i).toNat) ∧ ((u.2.1 0) (i).toNat) ≤ 80 from (by omega)) (show -1 ≤ (0 : Int) ∧ (0 : Int) ≤ 400 from (by omega))) mf_X3_push kw_429 hG hP hP (ci := 3) (q0 := 2) rfl rfl rfl hS (fun _ h => h) rfl hl.1 ⟨⟨Nat.le_of_ble_eq_true rfl, Nat.le_of_ble_eq_true rfl⟩, Nat.le_of_ble_eq_true rfl, Nat.le_refl _, Nat.le_refl _⟩ rfl dX3_close_44 (fun u44 H locs h_44 hP _ hS => ?_)
          obtain ⟨f_44, g_44, n_44, rfl, h_44⟩ := h_44
          have hP : va_P D.1 j_cl (cW D q (sY (sX (sC u 8 n_44) 8 f_44) 8 g_44)) H := hP
          have h_44 : (0 ≤ n_44 ∧ n_44 ≤ 323) ∧ RV 80 f_44 g_44 := h_44
          refine lv_iinc (v := J (i + 1)) (lv' := [(1, .int (J (i + 1))), (0, .ref (q 2))]) SS.1 SS.2.1 dX3_close_47 hl (k := 1) rfl (J_add _ _) (by decide) rfl (fun ls hl => ?_)
          refine lv_goto (tgt := 10) SS.1 SS.2.1 dX3_close_50 (by decide) ?_
          exact ih_10 (i + 1) f_44 g_44 n_44 _ _ hP hS ls (lv_sub hl [1, 0] rfl) (by omega) (by omega) (by first | exact h_44.2 | exact i10_2) (fun h => by first | exact i10_3 h | (have := h i.toNat (by omega); omega)) (by omega)
  exact L_10 (((161 : Int) - (0 : Int)).toNat + 1) 0 (u.1.1 8) (u.1.2.1 8) 0 _ _ hP hS ls (lv_sub hl [1, 0] rfl) (by omega) (by omega) (p0.2) (fun _ => rfl) (Nat.lt_succ_self _)

set_option maxHeartbeats 4000000 in
set_option maxRecDepth 100000 in
theorem c_X3_closeSum (l : Launch) (D : JD) (q : Nat → Nat) (u : CS) (A : Nat → Prop) (hD : va_D A (cW D q u)) (r : Nat) (hr : r ≤ 8) (r2 : Nat) (hr2 : r2 ≤ 8) (p0 : HU_ (u.2.1 0) (u.2.1 1)) (p1 : RB 80 u r) (p2 : RB 80 u r2) (p3 : RB 80 u 8) : Met l yX3_closeSum (jw yX3_closeSum cX3_closeSum 5 none) (jr 4 91) (jP [.ref (q 2), .ref (q (9 + 5 * r)), .ref (q (9 + 5 * r2))] D (fun H => va_P D.1 j_cl (cW D q u) H)) (jWv (fun u' => ∃ f : Nat → Int, ∃ g : Nat → Int, ∃ f8 : Nat → Int, ∃ g8 : Nat → Int, ∃ n8 : Int, u' = (sY (sX (sI (sI (sC u 8 n8) 0 f) 1 g) 8 f8) 8 g8) ∧ (HU_ f g ∧ (0 ≤ n8 ∧ n8 ≤ 323) ∧ RV 80 f8 g8)) (fun u' H => va_P D.1 j_cl (cW D q u') H) A) 0 0 A := by
  refine Met.ofW (cc := cX3_closeSum) (maxL := 5) (ret := none) (by decide) rfl ?_
  intro pr en st mi args below meth co s₁ B hml hv
  obtain ⟨rfl, hG, hP⟩ := hv
  have hr := B.returns
  have hlk := B.notSynchronized
  have SS : jS pr mi co cX3_closeSum 5 st _ RX3 := ⟨B.exec, B.bytes, hml, findClass_of_methodNamed B.named, fun w hw => atoms_spec (ws := (jw yX3_closeSum cX3_closeSum 5 none)) B.pre w (List.mem_cons_of_mem _ hw)⟩
  have hl := lv_entry ([.ref (q 2), .ref (q (9 + 5 * r)), .ref (q (9 + 5 * r2))]) (n := 5) (Nat.le_of_ble_eq_true rfl)
  rw [lg_entry_eq]
  generalize (lg_sl ([.ref (q 2), .ref (q (9 + 5 * r)), .ref (q (9 + 5 * r2))]) ++ List.replicate (5 - (lg_sl ([.ref (q 2), .ref (q (9 + 5 * r)), .ref (q (9 + 5 * r2))])).length) Slot.unset).toArray = ls at hl ⊢
  have hl : lv_has ls 5 [(0, .ref (q 2)), (1, .ref (q (9 + 5 * r))), (2, .ref (q (9 + 5 * r2)))] := hl
  have hS : va_S A st.heap st.heap [] := va_S.rf
  have hc := p1.1
  have hc2 := p2.1
  have hrl := rl_b r
  have hrl2 := rl_b r2
  refine lv_aload_n SS.1 SS.2.1 dX3_closeSum_0 rfl (lv_at hl 0 rfl) ?_
  refine j_vWv SS (As := []) (rest := []) (c_X3_begin l D q u A (cW_D hD)   (show HU_ ((u.2.1 0)) ((u.2.1 1)) from (p0))) mf_X3_begin kw_690 hG hP hP (ci := 3) (q0 := 2) rfl rfl rfl hS (fun _ h => h) rfl hl.1 ⟨⟨Nat.le_of_ble_eq_true rfl, Nat.le_of_ble_eq_true rfl⟩, Nat.le_of_ble_eq_true rfl, Nat.le_refl _, Nat.le_refl _⟩ rfl dX3_closeSum_1 (fun u1 H locs h_1 hP _ hS => ?_)
  obtain ⟨f_1, g_1, rfl, h_1⟩ := h_1
  have hP : va_P D.1 j_cl (cW D q (sI (sI u 0 f_1) 1 g_1)) H := hP
  have h_1 : f_1 = jf ((u.2.1 0)) 81 161 ∧ g_1 = jf ((u.2.1 1)) (-81) 161 ∧ HU_ f_1 g_1 := h_1
  refine j_iconst SS dX3_closeSum_4 ?_
  refine lv_istore_n (lv' := [(3, .int (J 0)), (0, .ref (q 2)), (1, .ref (q (9 + 5 * r))), (2, .ref (q (9 + 5 * r2)))]) SS.1 SS.2.1 dX3_closeSum_5 rfl hl (by decide) rfl (fun ls hl => ?_)
  have L_6 : ∀ (nn : Nat) (i : Int) (f1 : Nat → Int) (g1 : Nat → Int) (H : Heap) (locs : List Loc) (hP : va_P D.1 j_cl (cW D q (sI (sI u 0 f1) 1 g1)) H) (hS : va_S A st.heap H locs) (ls : Array Slot) (hl : lv_has ls 5 [(0, .ref (q 2)), (1, .ref (q (9 + 5 * r))), (2, .ref (q (9 + 5 * r2))), (3, .int (J i))]) (i6_0 : 0 ≤ i ∧ i ≤ u.1.2.2.1 r) (i6_1 : HU_ f1 g1), (u.1.2.2.1 r - i).toNat < nn → W pr l en (headSpec (jw yX3_closeSum cX3_closeSum 5 none) (jr 4 91)).room st mi (([.ref (q 2), .ref (q (9 + 5 * r)), .ref (q (9 + 5 * r2))] : List Value).toArray) below meth co H locs 0 0 (MQ below (jWv (fun u' => ∃ f : Nat → Int, ∃ g : Nat → Int, ∃ f8 : Nat → Int, ∃ g8 : Nat → Int, ∃ n8 : Int, u' = (sY (sX (sI (sI (sC u 8 n8) 0 f) 1 g) 8 f8) 8 g8) ∧ (HU_ f g ∧ (0 ≤ n8 ∧ n8 ≤ 323) ∧ RV 80 f8 g8)) (fun u' H => va_P D.1 j_cl (cW D q u') H) A) (([.ref (q 2), .ref (q (9 + 5 * r)), .ref (q (9 + 5 * r2))] : List Value).toArray) st 0 0 A) (F0 mi 6 ls []) := by
    intro nn
    induction nn with
    | zero => intros; omega
    | succ nn ih_6 =>
      intro i f1 g1 H locs hP hS ls hl i6_0 i6_1 hm
      refine lv_iload_n SS.1 SS.2.1 dX3_closeSum_6 rfl (lv_at hl 3 rfl) ?_
      refine lv_aload_n SS.1 SS.2.1 dX3_closeSum_7 rfl (lv_at hl 1 rfl) ?_
      refine j_getS SS hG hP (9 + 5 * r) (v := .int (J (u.1.2.2.1 r))) (C := RX7) (T := TX7) (N := 3) (cw_ring (by omega)) rfl inX7 2 (by decide) (ref := "GridPolygons$Ring") kw_141 kw_132 rfl dX3_closeSum_8 ?_
      refine j_icmp_ge SS (tgt := 66) (x := i) (y := (u.1.2.2.1 r)) dX3_closeSum_11 (by decide) (by omega) (by omega) (fun c_11 => ?_) (fun c_11 => ?_)
      · skip
        refine lv_aload_n SS.1 SS.2.1 dX3_closeSum_66 rfl (lv_at hl 0 rfl) ?_
        refine j_vWv SS (As := []) (rest := []) (c_X3_close l D q (sI (sI u 0 f1) 1 g1) A (cW_D hD)   (show RB 80 (sI (sI u 0 f1) 1 g1) 8 from (p3)) (show HU_ (f1) (g1) from (i6_1))) mf_X3_close kw_691 hG hP hP (ci := 3) (q0 := 2) rfl rfl rfl hS (fun _ h => h) rfl hl.1 ⟨⟨Nat.le_of_ble_eq_true rfl, Nat.le_of_ble_eq_true rfl⟩, Nat.le_of_ble_eq_true rfl, Nat.le_refl _, Nat.le_refl _⟩ rfl dX3_closeSum_67 (fun u67 H locs h_67 hP _ hS => ?_)
        obtain ⟨f_67, g_67, n_67, rfl, h_67⟩ := h_67
        have hP : va_P D.1 j_cl (cW D q (sY (sX (sI (sI (sC u 8 n_67) 0 f1) 1 g1) 8 f_67) 8 g_67)) H := hP
        have h_67 : (0 ≤ n_67 ∧ n_67 ≤ 323) ∧ RV 80 f_67 g_67 ∧ ((∀ k : Nat, k < 161 → g1 k < f1 k) → n_67 = 0) := h_67
        exact W.vret SS.1 SS.2.1 hr (fun t0 ht hW => ⟨⟨(sY (sX (sI (sI (sC u 8 n_67) 0 f1) 1 g1) 8 f_67) 8 g_67), rfl, (⟨f1, g1, f_67, g_67, n_67, rfl, ⟨i6_1, h_67.1, h_67.2.1⟩⟩), by show va_P D.1 j_cl (cW D q (sY (sX (sI (sI (sC u 8 n_67) 0 f1) 1 g1) 8 f_67) 8 g_67)) t0.heap; rw [ht]; first | exact hP | (simp only [sC_id, sX_id, sY_id, sH_id, sT_id, sV_id]; exact hP)⟩, hS.F ht⟩) hS.2.2 dX3_closeSum_70 hlk
      · skip
        refine j_iconst SS dX3_closeSum_14 ?_
        refine lv_istore (lv' := [(4, .int (J 0)), (0, .ref (q 2)), (1, .ref (q (9 + 5 * r))), (2, .ref (q (9 + 5 * r2))), (3, .int (J i))]) SS.1 SS.2.1 dX3_closeSum_15 hl (by decide) rfl (fun ls hl => ?_)
        have L_17 : ∀ (nn : Nat) (j : Int) (f2 : Nat → Int) (g2 : Nat → Int) (H : Heap) (locs : List Loc) (hP : va_P D.1 j_cl (cW D q (sI (sI u 0 f2) 1 g2)) H) (hS : va_S A st.heap H locs) (ls : Array Slot) (hl : lv_has ls 5 [(0, .ref (q 2)), (1, .ref (q (9 + 5 * r))), (2, .ref (q (9 + 5 * r2))), (3, .int (J i)), (4, .int (J j))]) (i17_0 : 0 ≤ j ∧ j ≤ u.1.2.2.1 r2) (i17_1 : HU_ f2 g2), (u.1.2.2.1 r2 - j).toNat < nn → W pr l en (headSpec (jw yX3_closeSum cX3_closeSum 5 none) (jr 4 91)).room st mi (([.ref (q 2), .ref (q (9 + 5 * r)), .ref (q (9 + 5 * r2))] : List Value).toArray) below meth co H locs 0 0 (MQ below (jWv (fun u' => ∃ f : Nat → Int, ∃ g : Nat → Int, ∃ f8 : Nat → Int, ∃ g8 : Nat → Int, ∃ n8 : Int, u' = (sY (sX (sI (sI (sC u 8 n8) 0 f) 1 g) 8 f8) 8 g8) ∧ (HU_ f g ∧ (0 ≤ n8 ∧ n8 ≤ 323) ∧ RV 80 f8 g8)) (fun u' H => va_P D.1 j_cl (cW D q u') H) A) (([.ref (q 2), .ref (q (9 + 5 * r)), .ref (q (9 + 5 * r2))] : List Value).toArray) st 0 0 A) (F0 mi 17 ls []) := by
          intro nn
          induction nn with
          | zero => intros; omega
          | succ nn ih_17 =>
            intro j f2 g2 H locs hP hS ls hl i17_0 i17_1 hm
            refine lv_iload SS.1 SS.2.1 dX3_closeSum_17 (lv_at hl 4 rfl) ?_
            refine lv_aload_n SS.1 SS.2.1 dX3_closeSum_19 rfl (lv_at hl 2 rfl) ?_
            refine j_getS SS hG hP (9 + 5 * r2) (v := .int (J (u.1.2.2.1 r2))) (C := RX7) (T := TX7) (N := 3) (cw_ring (by omega)) rfl inX7 2 (by decide) (ref := "GridPolygons$Ring") kw_141 kw_132 rfl dX3_closeSum_20 ?_
            refine j_icmp_ge SS (tgt := 60) (x := j) (y := (u.1.2.2.1 r2)) dX3_closeSum_23 (by decide) (by omega) (by omega) (fun c_23 => ?_) (fun c_23 => ?_)
            · skip
              refine lv_iinc (v := J (i + 1)) (lv' := [(3, .int (J (i + 1))), (0, .ref (q 2)), (1, .ref (q (9 + 5 * r))), (2, .ref (q (9 + 5 * r2))), (4, .int (J j))]) SS.1 SS.2.1 dX3_closeSum_60 hl (k := 3) rfl (J_add _ _) (by decide) rfl (fun ls hl => ?_)
              refine lv_goto (tgt := 6) SS.1 SS.2.1 dX3_closeSum_63 (by decide) ?_
              exact ih_6 (i + 1) f2 g2 _ _ hP hS ls (lv_sub hl [1, 2, 3, 0] rfl) (by omega) (i17_1) (by omega)
            · skip
              refine lv_aload_n SS.1 SS.2.1 dX3_closeSum_26 rfl (lv_at hl 0 rfl) ?_
              refine lv_aload_n SS.1 SS.2.1 dX3_closeSum_27 rfl (lv_at hl 1 rfl) ?_
              refine lv_iload_n SS.1 SS.2.1 dX3_closeSum_28 rfl (lv_at hl 3 rfl) ?_
              refine j_uRi SS (As := [.int (J i)]) (rest := [.ref (q 2)]) (c_X8_x l D q (sI (sI u 0 f2) 1 g2) r (by omega) i (show -2147483648 ≤ i ∧ i ≤ 2147483647 from (by omega))) mu_7_x kw_437 hG hP hP (ci := 7) (q0 := (9 + 5 * r)) rfl (cw_ring (by omega)) rfl rfl hl.1 ⟨⟨Nat.le_of_ble_eq_true rfl, Nat.le_of_ble_eq_true rfl⟩, Nat.le_of_ble_eq_true rfl, Nat.le_refl _, Nat.le_refl _⟩ rfl dX3_closeSum_29 (fun z_29 h_29 => ?_)
              have h_29 : z_29 = rx (sI (sI u 0 f2) 1 g2) r i ∧ ∀ K : Int, 0 ≤ K → RB K (sI (sI u 0 f2) 1 g2) r → -K ≤ z_29 ∧ z_29 ≤ K := h_29
              have hb_29 := h_29.2 80 (by omega) (p1)
              refine lv_aload_n SS.1 SS.2.1 dX3_closeSum_32 rfl (lv_at hl 2 rfl) ?_
              refine lv_iload SS.1 SS.2.1 dX3_closeSum_33 (lv_at hl 4 rfl) ?_
              refine j_uRi SS (As := [.int (J j)]) (rest := [.int (J z_29), .ref (q 2)]) (c_X8_x l D q (sI (sI u 0 f2) 1 g2) r2 (by omega) j (show -2147483648 ≤ j ∧ j ≤ 2147483647 from (by omega))) mu_7_x kw_437 hG hP hP (ci := 7) (q0 := (9 + 5 * r2)) rfl (cw_ring (by omega)) rfl rfl hl.1 ⟨⟨Nat.le_of_ble_eq_true rfl, Nat.le_of_ble_eq_true rfl⟩, Nat.le_of_ble_eq_true rfl, Nat.le_refl _, Nat.le_refl _⟩ rfl dX3_closeSum_35 (fun z_35 h_35 => ?_)
              have h_35 : z_35 = rx (sI (sI u 0 f2) 1 g2) r2 j ∧ ∀ K : Int, 0 ≤ K → RB K (sI (sI u 0 f2) 1 g2) r2 → -K ≤ z_35 ∧ z_35 ≤ K := h_35
              have hb_35 := h_35.2 80 (by omega) (p2)
              refine j_iadd SS (x := z_29) (y := z_35) dX3_closeSum_38 ?_
              refine lv_aload_n SS.1 SS.2.1 dX3_closeSum_39 rfl (lv_at hl 1 rfl) ?_
              refine lv_iload_n SS.1 SS.2.1 dX3_closeSum_40 rfl (lv_at hl 3 rfl) ?_
              refine j_uRi SS (As := [.int (J i)]) (rest := [.int (J (z_29 + z_35)), .ref (q 2)]) (c_X8_y l D q (sI (sI u 0 f2) 1 g2) r (by omega) i (show -2147483648 ≤ i ∧ i ≤ 2147483647 from (by omega))) mu_7_y kw_443 hG hP hP (ci := 7) (q0 := (9 + 5 * r)) rfl (cw_ring (by omega)) rfl rfl hl.1 ⟨⟨Nat.le_of_ble_eq_true rfl, Nat.le_of_ble_eq_true rfl⟩, Nat.le_of_ble_eq_true rfl, Nat.le_refl _, Nat.le_refl _⟩ rfl dX3_closeSum_41 (fun z_41 h_41 => ?_)
              have h_41 : z_41 = ry9 (sI (sI u 0 f2) 1 g2) r i ∧ ∀ K : Int, 0 ≤ K → RB K (sI (sI u 0 f2) 1 g2) r → -K ≤ z_41 ∧ z_41 ≤ K := h_41
              have hb_41 := h_41.2 80 (by omega) (p1)
              refine lv_aload_n SS.1 SS.2.1 dX3_closeSum_44 rfl (lv_at hl 2 rfl) ?_
              refine lv_iload SS.1 SS.2.1 dX3_closeSum_45 (lv_at hl 4 rfl) ?_
              refine j_uRi SS (As := [.int (J j)]) (rest := [.int (J z_41), .int (J (z_29 + z_35)), .ref (q 2)]) (c_X8_y l D q (sI (sI u 0 f2) 1 g2) r2 (by omega) j (show -2147483648 ≤ j ∧ j ≤ 2147483647 from (by omega))) mu_7_y kw_443 hG hP hP (ci := 7) (q0 := (9 + 5 * r2)) rfl (cw_ring (by omega)) rfl rfl hl.1 ⟨⟨Nat.le_of_ble_eq_true rfl, Nat.le_of_ble_eq_true rfl⟩, Nat.le_of_ble_eq_true rfl, Nat.le_refl _, Nat.le_refl _⟩ rfl dX3_closeSum_47 (fun z_47 h_47 => ?_)
              have h_47 : z_47 = ry9 (sI (sI u 0 f2) 1 g2) r2 j ∧ ∀ K : Int, 0 ≤ K → RB K (sI (sI u 0 f2) 1 g2) r2 → -K ≤ z_47 ∧ z_47 ≤ K := h_47
              have hb_47 := h_47.2 80 (by omega) (p2)
              refine j_iadd SS (x := z_41) (y := z_47) dX3_closeSum_50 ?_
              refine j_vWv SS (As := [.int (J (z_29 + z_35)), .int (J (z_41 + z_47))]) (rest := []) (c_X3_take l D q (sI (sI u 0 f2) 1 g2) A (cW_D hD)  (z_29 + z_35) (z_41 + z_47) (show HU_ (f2) (g2) from (i17_1)) (show -1000 ≤ (z_29 + z_35) ∧ (z_29 + z_35) ≤ 1000 from (by omega)) (show -2147483648 ≤ (z_41 + z_47) ∧ (z_41 + z_47) ≤ 2147483647 from (by omega))) mf_X3_take kw_482 hG hP hP (ci := 3) (q0 := 2) rfl rfl rfl hS (fun _ h => h) rfl hl.1 ⟨⟨Nat.le_of_ble_eq_true rfl, Nat.le_of_ble_eq_true rfl⟩, Nat.le_of_ble_eq_true rfl, Nat.le_refl _, Nat.le_refl _⟩ rfl dX3_closeSum_51 (fun u51 H locs h_51 hP _ hS => ?_)
              obtain ⟨f_51, g_51, rfl, h_51⟩ := h_51
              have hP : va_P D.1 j_cl (cW D q (sI (sI u 0 f_51) 1 g_51)) H := hP
              have h_51 : ((-80 ≤ (z_29 + z_35) ∧ (z_29 + z_35) ≤ 80 ∧ -80 ≤ (z_41 + z_47) ∧ (z_41 + z_47) ≤ 80) ∧ f_51 = upI (f2) ((z_29 + z_35) + 80).toNat (min (f2 ((z_29 + z_35) + 80).toNat) (z_41 + z_47)) ∧ g_51 = upI (g2) ((z_29 + z_35) + 80).toNat (max (g2 ((z_29 + z_35) + 80).toNat) (z_41 + z_47)) ∨ ¬ (-80 ≤ (z_29 + z_35) ∧ (z_29 + z_35) ≤ 80 ∧ -80 ≤ (z_41 + z_47) ∧ (z_41 + z_47) ≤ 80) ∧ f_51 = f2 ∧ g_51 = g2) ∧ HU_ f_51 g_51 := h_51
              refine lv_iinc (v := J (j + 1)) (lv' := [(4, .int (J (j + 1))), (0, .ref (q 2)), (1, .ref (q (9 + 5 * r))), (2, .ref (q (9 + 5 * r2))), (3, .int (J i))]) SS.1 SS.2.1 dX3_closeSum_54 hl (k := 4) rfl (J_add _ _) (by decide) rfl (fun ls hl => ?_)
              refine lv_goto (tgt := 17) SS.1 SS.2.1 dX3_closeSum_57 (by decide) ?_
              exact ih_17 (j + 1) f_51 g_51 _ _ hP hS ls (lv_sub hl [1, 2, 3, 4, 0] rfl) (by omega) (h_51.2) (by omega)
        exact L_17 ((u.1.2.2.1 r2 - (0 : Int)).toNat + 1) 0 f1 g1 _ _ hP hS ls (lv_sub hl [1, 2, 3, 4, 0] rfl) (by omega) (i6_1) (Nat.lt_succ_self _)
  exact L_6 ((u.1.2.2.1 r - (0 : Int)).toNat + 1) 0 f_1 g_1 _ _ hP hS ls (lv_sub hl [1, 2, 3, 0] rfl) (by omega) (h_1.2.2) (Nat.lt_succ_self _)

