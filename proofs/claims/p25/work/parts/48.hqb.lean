theorem kw_112 : Cond.code ⟨"java/lang/Object", "<init>", "()V"⟩ object_method_1_code 1 none ∈ lw_g := lw_gin 112 (by decide +kernel) (by decide +kernel)
theorem mi_X8_init : jmI yX8_init cX8_init 2 1 := ⟨kw_127, kw_90, kw_126, rfl, ⟨by decide +kernel, by decide +kernel, by decide +kernel⟩⟩
theorem mi_X7_init : jmI yX7_init cX7_init 2 1 := ⟨kw_124, kw_91, kw_123, rfl, ⟨by decide +kernel, by decide +kernel, by decide +kernel⟩⟩
theorem mi_X6_init : jmI yX6_init cX6_init 2 1 := ⟨kw_304, kw_98, kw_303, rfl, ⟨by decide +kernel, by decide +kernel, by decide +kernel⟩⟩
theorem mi_X5_init : jmI yX5_init cX5_init 1 0 := ⟨kw_298, kw_97, kw_297, rfl, ⟨by decide +kernel, by decide +kernel, by decide +kernel⟩⟩
def w_X8_init_7_24 (D : JD) (h0 : Nat) (u : Nat → Nat) : va_W := [(h0, .inr (7, [.ref (u 0), .ref (u 1), .int 0])), ((u 0), .inl (D.2.1, 24, .inl (fun _ => J 0))), ((u 1), .inl (D.2.1, 24, .inl (fun _ => J 0)))]
set_option maxHeartbeats 4000000 in
set_option maxRecDepth 100000 in
theorem c_X8_init_7_24 (l : Launch) (D : JD) (h0 sz : Nat) : Met l yX8_init (jw yX8_init cX8_init 2 none) (jrc 1 12 2 48) (jPN [.ref h0, .int (J 24)] D (fun H => H.size = sz ∧ va_P D.1 j_cl [(h0, .inr (7, [.null, .null, .int 0]))] H)) (jWv (fun _ : Nat → Nat => True) (fun u H => va_P D.1 j_cl (w_X8_init_7_24 D h0 u) H ∧ va_D (va_A [(h0, .inr (7, [.null, .null, .int 0]))] sz) (w_X8_init_7_24 D h0 u)) (va_A [(h0, .inr (7, [.null, .null, .int 0]))] sz)) 2 48 (va_A [(h0, .inr (7, [.null, .null, .int 0]))] sz) := by
  refine Met.ofW (cc := cX8_init) (maxL := 2) (ret := none) (by decide) rfl ?_
  intro pr en st mi args below meth co s₁ B hml hv
  obtain ⟨rfl, ⟨hG, hN⟩, hsz, hP⟩ := hv
  have hr := B.returns
  have hlk := B.notSynchronized
  have hin : meth.name = "<init>" := (name_of_methodNamed B.named B.method).1
  have SS : jS pr mi co cX8_init 2 st _ RX8 := ⟨B.exec, B.bytes, hml, findClass_of_methodNamed B.named, fun w hw => atoms_spec (ws := (jw yX8_init cX8_init 2 none)) B.pre w (List.mem_cons_of_mem _ hw)⟩
  subst hsz
  have hD : va_D (va_A [(h0, .inr (7, [.null, .null, .int 0]))] st.heap.size) [(h0, .inr (7, [.null, .null, .int 0]))] := va_D1
  generalize hAe : va_A [(h0, .inr (7, [.null, .null, .int 0]))] st.heap.size = A at hD ⊢
  have hA : ∀ q : Nat, st.heap.size ≤ q → A q := fun q h => by rw [← hAe]; exact Or.inr h
  have hS : va_S A st.heap st.heap [] := va_S.rf
  have hl := lv_entry ([.ref h0, .int (J 24)]) (n := 2) (Nat.le_of_ble_eq_true rfl)
  rw [lg_entry_eq]
  generalize (lg_sl ([.ref h0, .int (J 24)]) ++ List.replicate (2 - (lg_sl ([.ref h0, .int (J 24)])).length) Slot.unset).toArray = ls at hl ⊢
  have hl : lv_has ls 2 [(0, .ref h0), (1, .int (J 24))] := hl
  obtain ⟨H, eH⟩ : ∃ H, H = st.heap := ⟨_, rfl⟩
  rw [← eH] at hP
  have hS : va_S A st.heap H [] := eH ▸ va_S.rf
  rw [← eH]
  refine lv_aload_n SS.1 SS.2.1 dX8_init_0 rfl (lv_at hl 0 rfl) ?_
  refine W.objInit SS.1 SS.2.1 SS.2.2.2.1 (SS.2.2.2.2 _ kw_128) (SS.2.2.2.2 _ kw_111) (SS.2.2.2.2 _ kw_112) rfl (by rw [SS.2.2.1]; exact hl.1) rfl dX8_init_1 (Nat.le_of_ble_eq_true rfl) (Nat.le_of_ble_eq_true rfl) ?_
  refine W.eq (g2 := F0 mi 4 ls []) rfl ?_
  refine lv_aload_n SS.1 SS.2.1 dX8_init_4 rfl (lv_at hl 0 rfl) ?_
  refine lv_iload_n SS.1 SS.2.1 dX8_init_5 rfl (lv_at hl 1 rfl) ?_
  refine j_newI SS hG hP hD hS hA kw_149 24 (by decide) rfl (Nat.le_of_ble_eq_true rfl) (Nat.le_of_ble_eq_true rfl) dX8_init_6 (fun a_5 H hP hD hS => ?_)
  have hP : va_P D.1 j_cl [(h0, .inr (7, [.null, .null, .int 0])), (a_5, .inl (D.2.1, 24, .inl (fun _ => J 0)))] H := hP
  have hD : va_D A [(h0, .inr (7, [.null, .null, .int 0])), (a_5, .inl (D.2.1, 24, .inl (fun _ => J 0)))] := hD
  refine W.widen (k := 1) (n := 24) (Nat.le_of_ble_eq_true rfl) (Nat.le_of_ble_eq_true rfl) ?_
  refine va_putF (D := D.1) (ci := 7) (v := .ref a_5) (ty := .array .int) (C := RX7) (T := TX7) (N := 3) SS.1 SS.2.1 SS.2.2.2.2 inX7 tyX7 tyX7_ok nmX7 SS.2.2.2.1 hG.1 hP hD hS 0 rfl rfl 0 (by decide) (SS.2.2.2.2 _ kw_129) (fun _ h9 => h9) rfl hin rfl (by decide +kernel) rfl rfl (Nat.le_of_ble_eq_true rfl) dX8_init_8 (fun H locs hP hD hS => ?_)
  have hP : va_P D.1 j_cl [(h0, .inr (7, [.ref a_5, .null, .int 0])), (a_5, .inl (D.2.1, 24, .inl (fun _ => J 0)))] H := hP
  have hD : va_D A [(h0, .inr (7, [.ref a_5, .null, .int 0])), (a_5, .inl (D.2.1, 24, .inl (fun _ => J 0)))] := hD
  refine lv_aload_n SS.1 SS.2.1 dX8_init_11 rfl (lv_at hl 0 rfl) ?_
  refine lv_iload_n SS.1 SS.2.1 dX8_init_12 rfl (lv_at hl 1 rfl) ?_
  refine j_newI SS hG hP hD hS hA kw_149 24 (by decide) rfl (Nat.le_of_ble_eq_true rfl) (Nat.le_of_ble_eq_true rfl) dX8_init_13 (fun a_9 H hP hD hS => ?_)
  have hP : va_P D.1 j_cl [(h0, .inr (7, [.ref a_5, .null, .int 0])), (a_5, .inl (D.2.1, 24, .inl (fun _ => J 0))), (a_9, .inl (D.2.1, 24, .inl (fun _ => J 0)))] H := hP
  have hD : va_D A [(h0, .inr (7, [.ref a_5, .null, .int 0])), (a_5, .inl (D.2.1, 24, .inl (fun _ => J 0))), (a_9, .inl (D.2.1, 24, .inl (fun _ => J 0)))] := hD
  refine W.widen (k := 2) (n := 48) (Nat.le_of_ble_eq_true rfl) (Nat.le_of_ble_eq_true rfl) ?_
  refine va_putF (D := D.1) (ci := 7) (v := .ref a_9) (ty := .array .int) (C := RX7) (T := TX7) (N := 3) SS.1 SS.2.1 SS.2.2.2.2 inX7 tyX7 tyX7_ok nmX7 SS.2.2.2.1 hG.1 hP hD hS 0 rfl rfl 1 (by decide) (SS.2.2.2.2 _ kw_130) (fun _ h9 => h9) rfl hin rfl (by decide +kernel) rfl rfl (Nat.le_of_ble_eq_true rfl) dX8_init_15 (fun H locs hP hD hS => ?_)
  have hP : va_P D.1 j_cl [(h0, .inr (7, [.ref a_5, .ref a_9, .int 0])), (a_5, .inl (D.2.1, 24, .inl (fun _ => J 0))), (a_9, .inl (D.2.1, 24, .inl (fun _ => J 0)))] H := hP
  have hD : va_D A [(h0, .inr (7, [.ref a_5, .ref a_9, .int 0])), (a_5, .inl (D.2.1, 24, .inl (fun _ => J 0))), (a_9, .inl (D.2.1, 24, .inl (fun _ => J 0)))] := hD
  exact W.vret SS.1 SS.2.1 hr (fun t ht hW => ⟨⟨(fun k => ([a_5, a_9] : List Nat).getD k 0), rfl, trivial, by rw [ht]; exact hP, hD⟩, hS.F ht⟩) hS.2.2 dX8_init_18 hlk

def w_X7_init_24 (D : JD) (h0 : Nat) (u : Nat → Nat) : va_W := [(h0, .inr (7, [.ref (u 0), .ref (u 1), .int 0])), ((u 0), .inl (D.2.1, 24, .inl (fun _ => J 0))), ((u 1), .inl (D.2.1, 24, .inl (fun _ => J 0)))]
set_option maxHeartbeats 4000000 in
set_option maxRecDepth 100000 in
theorem c_X7_init_24 (l : Launch) (D : JD) (h0 sz : Nat) : Met l yX7_init (jw yX7_init cX7_init 2 none) (jrc 2 33 2 48) (jPN [.ref h0, .int (J 24)] D (fun H => H.size = sz ∧ va_P D.1 j_cl [(h0, .inr (7, [.null, .null, .int 0]))] H)) (jWv (fun _ : Nat → Nat => True) (fun u H => va_P D.1 j_cl (w_X7_init_24 D h0 u) H ∧ va_D (va_A [(h0, .inr (7, [.null, .null, .int 0]))] sz) (w_X7_init_24 D h0 u)) (va_A [(h0, .inr (7, [.null, .null, .int 0]))] sz)) 2 48 (va_A [(h0, .inr (7, [.null, .null, .int 0]))] sz) := by
  refine Met.ofW (cc := cX7_init) (maxL := 2) (ret := none) (by decide) rfl ?_
  intro pr en st mi args below meth co s₁ B hml hv
  obtain ⟨rfl, ⟨hG, hN⟩, hsz, hP⟩ := hv
  have hr := B.returns
  have hlk := B.notSynchronized
  have hin : meth.name = "<init>" := (name_of_methodNamed B.named B.method).1
  have SS : jS pr mi co cX7_init 2 st _ RX7 := ⟨B.exec, B.bytes, hml, findClass_of_methodNamed B.named, fun w hw => atoms_spec (ws := (jw yX7_init cX7_init 2 none)) B.pre w (List.mem_cons_of_mem _ hw)⟩
  subst hsz
  have hD : va_D (va_A [(h0, .inr (7, [.null, .null, .int 0]))] st.heap.size) [(h0, .inr (7, [.null, .null, .int 0]))] := va_D1
  generalize hAe : va_A [(h0, .inr (7, [.null, .null, .int 0]))] st.heap.size = A at hD ⊢
  have hA : ∀ q : Nat, st.heap.size ≤ q → A q := fun q h => by rw [← hAe]; exact Or.inr h
  have hS : va_S A st.heap st.heap [] := va_S.rf
  have hl := lv_entry ([.ref h0, .int (J 24)]) (n := 2) (Nat.le_of_ble_eq_true rfl)
  rw [lg_entry_eq]
  generalize (lg_sl ([.ref h0, .int (J 24)]) ++ List.replicate (2 - (lg_sl ([.ref h0, .int (J 24)])).length) Slot.unset).toArray = ls at hl ⊢
  have hl : lv_has ls 2 [(0, .ref h0), (1, .int (J 24))] := hl
  obtain ⟨H, eH⟩ : ∃ H, H = st.heap := ⟨_, rfl⟩
  rw [← eH] at hP
  have hS : va_S A st.heap H [] := eH ▸ va_S.rf
  rw [← eH]
  refine lv_aload_n SS.1 SS.2.1 dX7_init_0 rfl (lv_at hl 0 rfl) ?_
  refine lv_iload_n SS.1 SS.2.1 dX7_init_1 rfl (lv_at hl 1 rfl) ?_
  have hP : va_P D.1 j_cl ([] ++ [(h0, .inr (7, [.null, .null, .int 0]))]) H := hP
  have hD : va_D A ([] ++ [(h0, .inr (7, [.null, .null, .int 0]))]) := hD
  have hF := j_free (x := (h0, .inr (7, [.null, .null, .int 0]))) hD hS hA
  refine j_iS SS (As := [.int (J 24)]) (rest := []) (c_X8_init_7_24 l D h0 H.size) mi_X8_init kw_125 hG hN ⟨rfl, j_lastP hP⟩ hS hF rfl hl.1 ⟨⟨Nat.le_of_ble_eq_true rfl, Nat.le_of_ble_eq_true rfl⟩, Nat.le_of_ble_eq_true rfl, Nat.le_of_ble_eq_true rfl, Nat.le_of_ble_eq_true rfl⟩ rfl dX7_init_2 (fun u_3 H1 locs hB hFr hS => ?_)
  obtain ⟨hP, hD⟩ := j_join hP hD hFr.2 hF hB.1 hB.2
  generalize H1 = H at hP hS ⊢
  have hP : va_P D.1 j_cl (w_X8_init_7_24 D h0 u_3) H := hP
  have hD : va_D A (w_X8_init_7_24 D h0 u_3) := hD
  refine W.widen (k := 2) (n := 48) (Nat.le_of_ble_eq_true rfl) (Nat.le_of_ble_eq_true rfl) ?_
  exact W.vret SS.1 SS.2.1 hr (fun t ht hW => ⟨⟨(fun k => ([(u_3 0), (u_3 1)] : List Nat).getD k 0), rfl, trivial, by rw [ht]; exact hP, hD⟩, hS.F ht⟩) hS.2.2 dX7_init_5 hlk

def w_X8_init_7_323 (D : JD) (h0 : Nat) (u : Nat → Nat) : va_W := [(h0, .inr (7, [.ref (u 0), .ref (u 1), .int 0])), ((u 0), .inl (D.2.1, 323, .inl (fun _ => J 0))), ((u 1), .inl (D.2.1, 323, .inl (fun _ => J 0)))]
set_option maxHeartbeats 4000000 in
set_option maxRecDepth 100000 in
theorem c_X8_init_7_323 (l : Launch) (D : JD) (h0 sz : Nat) : Met l yX8_init (jw yX8_init cX8_init 2 none) (jrc 1 12 2 646) (jPN [.ref h0, .int (J 323)] D (fun H => H.size = sz ∧ va_P D.1 j_cl [(h0, .inr (7, [.null, .null, .int 0]))] H)) (jWv (fun _ : Nat → Nat => True) (fun u H => va_P D.1 j_cl (w_X8_init_7_323 D h0 u) H ∧ va_D (va_A [(h0, .inr (7, [.null, .null, .int 0]))] sz) (w_X8_init_7_323 D h0 u)) (va_A [(h0, .inr (7, [.null, .null, .int 0]))] sz)) 2 646 (va_A [(h0, .inr (7, [.null, .null, .int 0]))] sz) := by
  refine Met.ofW (cc := cX8_init) (maxL := 2) (ret := none) (by decide) rfl ?_
  intro pr en st mi args below meth co s₁ B hml hv
  obtain ⟨rfl, ⟨hG, hN⟩, hsz, hP⟩ := hv
  have hr := B.returns
  have hlk := B.notSynchronized
  have hin : meth.name = "<init>" := (name_of_methodNamed B.named B.method).1
  have SS : jS pr mi co cX8_init 2 st _ RX8 := ⟨B.exec, B.bytes, hml, findClass_of_methodNamed B.named, fun w hw => atoms_spec (ws := (jw yX8_init cX8_init 2 none)) B.pre w (List.mem_cons_of_mem _ hw)⟩
  subst hsz
  have hD : va_D (va_A [(h0, .inr (7, [.null, .null, .int 0]))] st.heap.size) [(h0, .inr (7, [.null, .null, .int 0]))] := va_D1
  generalize hAe : va_A [(h0, .inr (7, [.null, .null, .int 0]))] st.heap.size = A at hD ⊢
  have hA : ∀ q : Nat, st.heap.size ≤ q → A q := fun q h => by rw [← hAe]; exact Or.inr h
  have hS : va_S A st.heap st.heap [] := va_S.rf
  have hl := lv_entry ([.ref h0, .int (J 323)]) (n := 2) (Nat.le_of_ble_eq_true rfl)
  rw [lg_entry_eq]
  generalize (lg_sl ([.ref h0, .int (J 323)]) ++ List.replicate (2 - (lg_sl ([.ref h0, .int (J 323)])).length) Slot.unset).toArray = ls at hl ⊢
  have hl : lv_has ls 2 [(0, .ref h0), (1, .int (J 323))] := hl
  obtain ⟨H, eH⟩ : ∃ H, H = st.heap := ⟨_, rfl⟩
  rw [← eH] at hP
  have hS : va_S A st.heap H [] := eH ▸ va_S.rf
  rw [← eH]
  refine lv_aload_n SS.1 SS.2.1 dX8_init_0 rfl (lv_at hl 0 rfl) ?_
  refine W.objInit SS.1 SS.2.1 SS.2.2.2.1 (SS.2.2.2.2 _ kw_128) (SS.2.2.2.2 _ kw_111) (SS.2.2.2.2 _ kw_112) rfl (by rw [SS.2.2.1]; exact hl.1) rfl dX8_init_1 (Nat.le_of_ble_eq_true rfl) (Nat.le_of_ble_eq_true rfl) ?_
  refine W.eq (g2 := F0 mi 4 ls []) rfl ?_
  refine lv_aload_n SS.1 SS.2.1 dX8_init_4 rfl (lv_at hl 0 rfl) ?_
  refine lv_iload_n SS.1 SS.2.1 dX8_init_5 rfl (lv_at hl 1 rfl) ?_
  refine j_newI SS hG hP hD hS hA kw_149 323 (by decide) rfl (Nat.le_of_ble_eq_true rfl) (Nat.le_of_ble_eq_true rfl) dX8_init_6 (fun a_5 H hP hD hS => ?_)
  have hP : va_P D.1 j_cl [(h0, .inr (7, [.null, .null, .int 0])), (a_5, .inl (D.2.1, 323, .inl (fun _ => J 0)))] H := hP
  have hD : va_D A [(h0, .inr (7, [.null, .null, .int 0])), (a_5, .inl (D.2.1, 323, .inl (fun _ => J 0)))] := hD
  refine W.widen (k := 1) (n := 323) (Nat.le_of_ble_eq_true rfl) (Nat.le_of_ble_eq_true rfl) ?_
  refine va_putF (D := D.1) (ci := 7) (v := .ref a_5) (ty := .array .int) (C := RX7) (T := TX7) (N := 3) SS.1 SS.2.1 SS.2.2.2.2 inX7 tyX7 tyX7_ok nmX7 SS.2.2.2.1 hG.1 hP hD hS 0 rfl rfl 0 (by decide) (SS.2.2.2.2 _ kw_129) (fun _ h9 => h9) rfl hin rfl (by decide +kernel) rfl rfl (Nat.le_of_ble_eq_true rfl) dX8_init_8 (fun H locs hP hD hS => ?_)
  have hP : va_P D.1 j_cl [(h0, .inr (7, [.ref a_5, .null, .int 0])), (a_5, .inl (D.2.1, 323, .inl (fun _ => J 0)))] H := hP
  have hD : va_D A [(h0, .inr (7, [.ref a_5, .null, .int 0])), (a_5, .inl (D.2.1, 323, .inl (fun _ => J 0)))] := hD
  refine lv_aload_n SS.1 SS.2.1 dX8_init_11 rfl (lv_at hl 0 rfl) ?_
  refine lv_iload_n SS.1 SS.2.1 dX8_init_12 rfl (lv_at hl 1 rfl) ?_
  refine j_newI SS hG hP hD hS hA kw_149 323 (by decide) rfl (Nat.le_of_ble_eq_true rfl) (Nat.le_of_ble_eq_true rfl) dX8_init_13 (fun a_9 H hP hD hS => ?_)
  have hP : va_P D.1 j_cl [(h0, .inr (7, [.ref a_5, .null, .int 0])), (a_5, .inl (D.2.1, 323, .inl (fun _ => J 0))), (a_9, .inl (D.2.1, 323, .inl (fun _ => J 0)))] H := hP
  have hD : va_D A [(h0, .inr (7, [.ref a_5, .null, .int 0])), (a_5, .inl (D.2.1, 323, .inl (fun _ => J 0))), (a_9, .inl (D.2.1, 323, .inl (fun _ => J 0)))] := hD
  refine W.widen (k := 2) (n := 646) (Nat.le_of_ble_eq_true rfl) (Nat.le_of_ble_eq_true rfl) ?_
  refine va_putF (D := D.1) (ci := 7) (v := .ref a_9) (ty := .array .int) (C := RX7) (T := TX7) (N := 3) SS.1 SS.2.1 SS.2.2.2.2 inX7 tyX7 tyX7_ok nmX7 SS.2.2.2.1 hG.1 hP hD hS 0 rfl rfl 1 (by decide) (SS.2.2.2.2 _ kw_130) (fun _ h9 => h9) rfl hin rfl (by decide +kernel) rfl rfl (Nat.le_of_ble_eq_true rfl) dX8_init_15 (fun H locs hP hD hS => ?_)
  have hP : va_P D.1 j_cl [(h0, .inr (7, [.ref a_5, .ref a_9, .int 0])), (a_5, .inl (D.2.1, 323, .inl (fun _ => J 0))), (a_9, .inl (D.2.1, 323, .inl (fun _ => J 0)))] H := hP
  have hD : va_D A [(h0, .inr (7, [.ref a_5, .ref a_9, .int 0])), (a_5, .inl (D.2.1, 323, .inl (fun _ => J 0))), (a_9, .inl (D.2.1, 323, .inl (fun _ => J 0)))] := hD
  exact W.vret SS.1 SS.2.1 hr (fun t ht hW => ⟨⟨(fun k => ([a_5, a_9] : List Nat).getD k 0), rfl, trivial, by rw [ht]; exact hP, hD⟩, hS.F ht⟩) hS.2.2 dX8_init_18 hlk

def w_X7_init_323 (D : JD) (h0 : Nat) (u : Nat → Nat) : va_W := [(h0, .inr (7, [.ref (u 0), .ref (u 1), .int 0])), ((u 0), .inl (D.2.1, 323, .inl (fun _ => J 0))), ((u 1), .inl (D.2.1, 323, .inl (fun _ => J 0)))]
set_option maxHeartbeats 4000000 in
set_option maxRecDepth 100000 in
theorem c_X7_init_323 (l : Launch) (D : JD) (h0 sz : Nat) : Met l yX7_init (jw yX7_init cX7_init 2 none) (jrc 2 33 2 646) (jPN [.ref h0, .int (J 323)] D (fun H => H.size = sz ∧ va_P D.1 j_cl [(h0, .inr (7, [.null, .null, .int 0]))] H)) (jWv (fun _ : Nat → Nat => True) (fun u H => va_P D.1 j_cl (w_X7_init_323 D h0 u) H ∧ va_D (va_A [(h0, .inr (7, [.null, .null, .int 0]))] sz) (w_X7_init_323 D h0 u)) (va_A [(h0, .inr (7, [.null, .null, .int 0]))] sz)) 2 646 (va_A [(h0, .inr (7, [.null, .null, .int 0]))] sz) := by
  refine Met.ofW (cc := cX7_init) (maxL := 2) (ret := none) (by decide) rfl ?_
  intro pr en st mi args below meth co s₁ B hml hv
  obtain ⟨rfl, ⟨hG, hN⟩, hsz, hP⟩ := hv
  have hr := B.returns
  have hlk := B.notSynchronized
  have hin : meth.name = "<init>" := (name_of_methodNamed B.named B.method).1
  have SS : jS pr mi co cX7_init 2 st _ RX7 := ⟨B.exec, B.bytes, hml, findClass_of_methodNamed B.named, fun w hw => atoms_spec (ws := (jw yX7_init cX7_init 2 none)) B.pre w (List.mem_cons_of_mem _ hw)⟩
  subst hsz
  have hD : va_D (va_A [(h0, .inr (7, [.null, .null, .int 0]))] st.heap.size) [(h0, .inr (7, [.null, .null, .int 0]))] := va_D1
  generalize hAe : va_A [(h0, .inr (7, [.null, .null, .int 0]))] st.heap.size = A at hD ⊢
  have hA : ∀ q : Nat, st.heap.size ≤ q → A q := fun q h => by rw [← hAe]; exact Or.inr h
  have hS : va_S A st.heap st.heap [] := va_S.rf
  have hl := lv_entry ([.ref h0, .int (J 323)]) (n := 2) (Nat.le_of_ble_eq_true rfl)
  rw [lg_entry_eq]
  generalize (lg_sl ([.ref h0, .int (J 323)]) ++ List.replicate (2 - (lg_sl ([.ref h0, .int (J 323)])).length) Slot.unset).toArray = ls at hl ⊢
  have hl : lv_has ls 2 [(0, .ref h0), (1, .int (J 323))] := hl
  obtain ⟨H, eH⟩ : ∃ H, H = st.heap := ⟨_, rfl⟩
  rw [← eH] at hP
  have hS : va_S A st.heap H [] := eH ▸ va_S.rf
  rw [← eH]
  refine lv_aload_n SS.1 SS.2.1 dX7_init_0 rfl (lv_at hl 0 rfl) ?_
  refine lv_iload_n SS.1 SS.2.1 dX7_init_1 rfl (lv_at hl 1 rfl) ?_
  have hP : va_P D.1 j_cl ([] ++ [(h0, .inr (7, [.null, .null, .int 0]))]) H := hP
  have hD : va_D A ([] ++ [(h0, .inr (7, [.null, .null, .int 0]))]) := hD
  have hF := j_free (x := (h0, .inr (7, [.null, .null, .int 0]))) hD hS hA
  refine j_iS SS (As := [.int (J 323)]) (rest := []) (c_X8_init_7_323 l D h0 H.size) mi_X8_init kw_125 hG hN ⟨rfl, j_lastP hP⟩ hS hF rfl hl.1 ⟨⟨Nat.le_of_ble_eq_true rfl, Nat.le_of_ble_eq_true rfl⟩, Nat.le_of_ble_eq_true rfl, Nat.le_of_ble_eq_true rfl, Nat.le_of_ble_eq_true rfl⟩ rfl dX7_init_2 (fun u_3 H1 locs hB hFr hS => ?_)
  obtain ⟨hP, hD⟩ := j_join hP hD hFr.2 hF hB.1 hB.2
  generalize H1 = H at hP hS ⊢
  have hP : va_P D.1 j_cl (w_X8_init_7_323 D h0 u_3) H := hP
  have hD : va_D A (w_X8_init_7_323 D h0 u_3) := hD
  refine W.widen (k := 2) (n := 646) (Nat.le_of_ble_eq_true rfl) (Nat.le_of_ble_eq_true rfl) ?_
  exact W.vret SS.1 SS.2.1 hr (fun t ht hW => ⟨⟨(fun k => ([(u_3 0), (u_3 1)] : List Nat).getD k 0), rfl, trivial, by rw [ht]; exact hP, hD⟩, hS.F ht⟩) hS.2.2 dX7_init_5 hlk

def w_X8_init_6_12 (D : JD) (h0 : Nat) (u : Nat → Nat) : va_W := [(h0, .inr (6, [.ref (u 0), .ref (u 1), .int 0])), ((u 0), .inl (D.2.1, 12, .inl (fun _ => J 0))), ((u 1), .inl (D.2.1, 12, .inl (fun _ => J 0)))]
set_option maxHeartbeats 4000000 in
set_option maxRecDepth 100000 in
theorem c_X8_init_6_12 (l : Launch) (D : JD) (h0 sz : Nat) : Met l yX8_init (jw yX8_init cX8_init 2 none) (jrc 1 12 2 24) (jPN [.ref h0, .int (J 12)] D (fun H => H.size = sz ∧ va_P D.1 j_cl [(h0, .inr (6, [.null, .null, .int 0]))] H)) (jWv (fun _ : Nat → Nat => True) (fun u H => va_P D.1 j_cl (w_X8_init_6_12 D h0 u) H ∧ va_D (va_A [(h0, .inr (6, [.null, .null, .int 0]))] sz) (w_X8_init_6_12 D h0 u)) (va_A [(h0, .inr (6, [.null, .null, .int 0]))] sz)) 2 24 (va_A [(h0, .inr (6, [.null, .null, .int 0]))] sz) := by
  refine Met.ofW (cc := cX8_init) (maxL := 2) (ret := none) (by decide) rfl ?_
  intro pr en st mi args below meth co s₁ B hml hv
  obtain ⟨rfl, ⟨hG, hN⟩, hsz, hP⟩ := hv
  have hr := B.returns
  have hlk := B.notSynchronized
  have hin : meth.name = "<init>" := (name_of_methodNamed B.named B.method).1
  have SS : jS pr mi co cX8_init 2 st _ RX8 := ⟨B.exec, B.bytes, hml, findClass_of_methodNamed B.named, fun w hw => atoms_spec (ws := (jw yX8_init cX8_init 2 none)) B.pre w (List.mem_cons_of_mem _ hw)⟩
  subst hsz
  have hD : va_D (va_A [(h0, .inr (6, [.null, .null, .int 0]))] st.heap.size) [(h0, .inr (6, [.null, .null, .int 0]))] := va_D1
  generalize hAe : va_A [(h0, .inr (6, [.null, .null, .int 0]))] st.heap.size = A at hD ⊢
  have hA : ∀ q : Nat, st.heap.size ≤ q → A q := fun q h => by rw [← hAe]; exact Or.inr h
  have hS : va_S A st.heap st.heap [] := va_S.rf
  have hl := lv_entry ([.ref h0, .int (J 12)]) (n := 2) (Nat.le_of_ble_eq_true rfl)
  rw [lg_entry_eq]
  generalize (lg_sl ([.ref h0, .int (J 12)]) ++ List.replicate (2 - (lg_sl ([.ref h0, .int (J 12)])).length) Slot.unset).toArray = ls at hl ⊢
  have hl : lv_has ls 2 [(0, .ref h0), (1, .int (J 12))] := hl
  obtain ⟨H, eH⟩ : ∃ H, H = st.heap := ⟨_, rfl⟩
  rw [← eH] at hP
  have hS : va_S A st.heap H [] := eH ▸ va_S.rf
  rw [← eH]
  refine lv_aload_n SS.1 SS.2.1 dX8_init_0 rfl (lv_at hl 0 rfl) ?_
  refine W.objInit SS.1 SS.2.1 SS.2.2.2.1 (SS.2.2.2.2 _ kw_128) (SS.2.2.2.2 _ kw_111) (SS.2.2.2.2 _ kw_112) rfl (by rw [SS.2.2.1]; exact hl.1) rfl dX8_init_1 (Nat.le_of_ble_eq_true rfl) (Nat.le_of_ble_eq_true rfl) ?_
  refine W.eq (g2 := F0 mi 4 ls []) rfl ?_
  refine lv_aload_n SS.1 SS.2.1 dX8_init_4 rfl (lv_at hl 0 rfl) ?_
  refine lv_iload_n SS.1 SS.2.1 dX8_init_5 rfl (lv_at hl 1 rfl) ?_
  refine j_newI SS hG hP hD hS hA kw_149 12 (by decide) rfl (Nat.le_of_ble_eq_true rfl) (Nat.le_of_ble_eq_true rfl) dX8_init_6 (fun a_5 H hP hD hS => ?_)
  have hP : va_P D.1 j_cl [(h0, .inr (6, [.null, .null, .int 0])), (a_5, .inl (D.2.1, 12, .inl (fun _ => J 0)))] H := hP
  have hD : va_D A [(h0, .inr (6, [.null, .null, .int 0])), (a_5, .inl (D.2.1, 12, .inl (fun _ => J 0)))] := hD
  refine W.widen (k := 1) (n := 12) (Nat.le_of_ble_eq_true rfl) (Nat.le_of_ble_eq_true rfl) ?_
  refine va_putF (D := D.1) (ci := 6) (v := .ref a_5) (ty := .array .int) (C := RX6) (T := TX6) (N := 3) SS.1 SS.2.1 SS.2.2.2.2 inX6 tyX6 tyX6_ok nmX6 SS.2.2.2.1 hG.1 hP hD hS 0 rfl rfl 0 (by decide) (SS.2.2.2.2 _ kw_129) (fun _ h9 => h9) rfl hin rfl (by decide +kernel) rfl rfl (Nat.le_of_ble_eq_true rfl) dX8_init_8 (fun H locs hP hD hS => ?_)
  have hP : va_P D.1 j_cl [(h0, .inr (6, [.ref a_5, .null, .int 0])), (a_5, .inl (D.2.1, 12, .inl (fun _ => J 0)))] H := hP
  have hD : va_D A [(h0, .inr (6, [.ref a_5, .null, .int 0])), (a_5, .inl (D.2.1, 12, .inl (fun _ => J 0)))] := hD
  refine lv_aload_n SS.1 SS.2.1 dX8_init_11 rfl (lv_at hl 0 rfl) ?_
  refine lv_iload_n SS.1 SS.2.1 dX8_init_12 rfl (lv_at hl 1 rfl) ?_
  refine j_newI SS hG hP hD hS hA kw_149 12 (by decide) rfl (Nat.le_of_ble_eq_true rfl) (Nat.le_of_ble_eq_true rfl) dX8_init_13 (fun a_9 H hP hD hS => ?_)
  have hP : va_P D.1 j_cl [(h0, .inr (6, [.ref a_5, .null, .int 0])), (a_5, .inl (D.2.1, 12, .inl (fun _ => J 0))), (a_9, .inl (D.2.1, 12, .inl (fun _ => J 0)))] H := hP
  have hD : va_D A [(h0, .inr (6, [.ref a_5, .null, .int 0])), (a_5, .inl (D.2.1, 12, .inl (fun _ => J 0))), (a_9, .inl (D.2.1, 12, .inl (fun _ => J 0)))] := hD
  refine W.widen (k := 2) (n := 24) (Nat.le_of_ble_eq_true rfl) (Nat.le_of_ble_eq_true rfl) ?_
  refine va_putF (D := D.1) (ci := 6) (v := .ref a_9) (ty := .array .int) (C := RX6) (T := TX6) (N := 3) SS.1 SS.2.1 SS.2.2.2.2 inX6 tyX6 tyX6_ok nmX6 SS.2.2.2.1 hG.1 hP hD hS 0 rfl rfl 1 (by decide) (SS.2.2.2.2 _ kw_130) (fun _ h9 => h9) rfl hin rfl (by decide +kernel) rfl rfl (Nat.le_of_ble_eq_true rfl) dX8_init_15 (fun H locs hP hD hS => ?_)
  have hP : va_P D.1 j_cl [(h0, .inr (6, [.ref a_5, .ref a_9, .int 0])), (a_5, .inl (D.2.1, 12, .inl (fun _ => J 0))), (a_9, .inl (D.2.1, 12, .inl (fun _ => J 0)))] H := hP
  have hD : va_D A [(h0, .inr (6, [.ref a_5, .ref a_9, .int 0])), (a_5, .inl (D.2.1, 12, .inl (fun _ => J 0))), (a_9, .inl (D.2.1, 12, .inl (fun _ => J 0)))] := hD
  exact W.vret SS.1 SS.2.1 hr (fun t ht hW => ⟨⟨(fun k => ([a_5, a_9] : List Nat).getD k 0), rfl, trivial, by rw [ht]; exact hP, hD⟩, hS.F ht⟩) hS.2.2 dX8_init_18 hlk

def w_X6_init_12 (D : JD) (h0 : Nat) (u : Nat → Nat) : va_W := [(h0, .inr (6, [.ref (u 0), .ref (u 1), .int 0])), ((u 0), .inl (D.2.1, 12, .inl (fun _ => J 0))), ((u 1), .inl (D.2.1, 12, .inl (fun _ => J 0)))]
set_option maxHeartbeats 4000000 in
set_option maxRecDepth 100000 in
theorem c_X6_init_12 (l : Launch) (D : JD) (h0 sz : Nat) : Met l yX6_init (jw yX6_init cX6_init 2 none) (jrc 2 33 2 24) (jPN [.ref h0, .int (J 12)] D (fun H => H.size = sz ∧ va_P D.1 j_cl [(h0, .inr (6, [.null, .null, .int 0]))] H)) (jWv (fun _ : Nat → Nat => True) (fun u H => va_P D.1 j_cl (w_X6_init_12 D h0 u) H ∧ va_D (va_A [(h0, .inr (6, [.null, .null, .int 0]))] sz) (w_X6_init_12 D h0 u)) (va_A [(h0, .inr (6, [.null, .null, .int 0]))] sz)) 2 24 (va_A [(h0, .inr (6, [.null, .null, .int 0]))] sz) := by
  refine Met.ofW (cc := cX6_init) (maxL := 2) (ret := none) (by decide) rfl ?_
  intro pr en st mi args below meth co s₁ B hml hv
  obtain ⟨rfl, ⟨hG, hN⟩, hsz, hP⟩ := hv
  have hr := B.returns
  have hlk := B.notSynchronized
  have hin : meth.name = "<init>" := (name_of_methodNamed B.named B.method).1
  have SS : jS pr mi co cX6_init 2 st _ RX6 := ⟨B.exec, B.bytes, hml, findClass_of_methodNamed B.named, fun w hw => atoms_spec (ws := (jw yX6_init cX6_init 2 none)) B.pre w (List.mem_cons_of_mem _ hw)⟩
  subst hsz
  have hD : va_D (va_A [(h0, .inr (6, [.null, .null, .int 0]))] st.heap.size) [(h0, .inr (6, [.null, .null, .int 0]))] := va_D1
  generalize hAe : va_A [(h0, .inr (6, [.null, .null, .int 0]))] st.heap.size = A at hD ⊢
  have hA : ∀ q : Nat, st.heap.size ≤ q → A q := fun q h => by rw [← hAe]; exact Or.inr h
  have hS : va_S A st.heap st.heap [] := va_S.rf
  have hl := lv_entry ([.ref h0, .int (J 12)]) (n := 2) (Nat.le_of_ble_eq_true rfl)
  rw [lg_entry_eq]
  generalize (lg_sl ([.ref h0, .int (J 12)]) ++ List.replicate (2 - (lg_sl ([.ref h0, .int (J 12)])).length) Slot.unset).toArray = ls at hl ⊢
  have hl : lv_has ls 2 [(0, .ref h0), (1, .int (J 12))] := hl
  obtain ⟨H, eH⟩ : ∃ H, H = st.heap := ⟨_, rfl⟩
  rw [← eH] at hP
  have hS : va_S A st.heap H [] := eH ▸ va_S.rf
  rw [← eH]
  refine lv_aload_n SS.1 SS.2.1 dX6_init_0 rfl (lv_at hl 0 rfl) ?_
  refine lv_iload_n SS.1 SS.2.1 dX6_init_1 rfl (lv_at hl 1 rfl) ?_
  have hP : va_P D.1 j_cl ([] ++ [(h0, .inr (6, [.null, .null, .int 0]))]) H := hP
  have hD : va_D A ([] ++ [(h0, .inr (6, [.null, .null, .int 0]))]) := hD
  have hF := j_free (x := (h0, .inr (6, [.null, .null, .int 0]))) hD hS hA
  refine j_iS SS (As := [.int (J 12)]) (rest := []) (c_X8_init_6_12 l D h0 H.size) mi_X8_init kw_305 hG hN ⟨rfl, j_lastP hP⟩ hS hF rfl hl.1 ⟨⟨Nat.le_of_ble_eq_true rfl, Nat.le_of_ble_eq_true rfl⟩, Nat.le_of_ble_eq_true rfl, Nat.le_of_ble_eq_true rfl, Nat.le_of_ble_eq_true rfl⟩ rfl dX6_init_2 (fun u_3 H1 locs hB hFr hS => ?_)
  obtain ⟨hP, hD⟩ := j_join hP hD hFr.2 hF hB.1 hB.2
  generalize H1 = H at hP hS ⊢
  have hP : va_P D.1 j_cl (w_X8_init_6_12 D h0 u_3) H := hP
  have hD : va_D A (w_X8_init_6_12 D h0 u_3) := hD
  refine W.widen (k := 2) (n := 24) (Nat.le_of_ble_eq_true rfl) (Nat.le_of_ble_eq_true rfl) ?_
  exact W.vret SS.1 SS.2.1 hr (fun t ht hW => ⟨⟨(fun k => ([(u_3 0), (u_3 1)] : List Nat).getD k 0), rfl, trivial, by rw [ht]; exact hP, hD⟩, hS.F ht⟩) hS.2.2 dX6_init_5 hlk

def w_X8_init_6_40 (D : JD) (h0 : Nat) (u : Nat → Nat) : va_W := [(h0, .inr (6, [.ref (u 0), .ref (u 1), .int 0])), ((u 0), .inl (D.2.1, 40, .inl (fun _ => J 0))), ((u 1), .inl (D.2.1, 40, .inl (fun _ => J 0)))]
set_option maxHeartbeats 4000000 in
set_option maxRecDepth 100000 in
theorem c_X8_init_6_40 (l : Launch) (D : JD) (h0 sz : Nat) : Met l yX8_init (jw yX8_init cX8_init 2 none) (jrc 1 12 2 80) (jPN [.ref h0, .int (J 40)] D (fun H => H.size = sz ∧ va_P D.1 j_cl [(h0, .inr (6, [.null, .null, .int 0]))] H)) (jWv (fun _ : Nat → Nat => True) (fun u H => va_P D.1 j_cl (w_X8_init_6_40 D h0 u) H ∧ va_D (va_A [(h0, .inr (6, [.null, .null, .int 0]))] sz) (w_X8_init_6_40 D h0 u)) (va_A [(h0, .inr (6, [.null, .null, .int 0]))] sz)) 2 80 (va_A [(h0, .inr (6, [.null, .null, .int 0]))] sz) := by
  refine Met.ofW (cc := cX8_init) (maxL := 2) (ret := none) (by decide) rfl ?_
  intro pr en st mi args below meth co s₁ B hml hv
  obtain ⟨rfl, ⟨hG, hN⟩, hsz, hP⟩ := hv
  have hr := B.returns
  have hlk := B.notSynchronized
  have hin : meth.name = "<init>" := (name_of_methodNamed B.named B.method).1
  have SS : jS pr mi co cX8_init 2 st _ RX8 := ⟨B.exec, B.bytes, hml, findClass_of_methodNamed B.named, fun w hw => atoms_spec (ws := (jw yX8_init cX8_init 2 none)) B.pre w (List.mem_cons_of_mem _ hw)⟩
  subst hsz
  have hD : va_D (va_A [(h0, .inr (6, [.null, .null, .int 0]))] st.heap.size) [(h0, .inr (6, [.null, .null, .int 0]))] := va_D1
  generalize hAe : va_A [(h0, .inr (6, [.null, .null, .int 0]))] st.heap.size = A at hD ⊢
  have hA : ∀ q : Nat, st.heap.size ≤ q → A q := fun q h => by rw [← hAe]; exact Or.inr h
  have hS : va_S A st.heap st.heap [] := va_S.rf
  have hl := lv_entry ([.ref h0, .int (J 40)]) (n := 2) (Nat.le_of_ble_eq_true rfl)
  rw [lg_entry_eq]
  generalize (lg_sl ([.ref h0, .int (J 40)]) ++ List.replicate (2 - (lg_sl ([.ref h0, .int (J 40)])).length) Slot.unset).toArray = ls at hl ⊢
  have hl : lv_has ls 2 [(0, .ref h0), (1, .int (J 40))] := hl
  obtain ⟨H, eH⟩ : ∃ H, H = st.heap := ⟨_, rfl⟩
  rw [← eH] at hP
  have hS : va_S A st.heap H [] := eH ▸ va_S.rf
  rw [← eH]
  refine lv_aload_n SS.1 SS.2.1 dX8_init_0 rfl (lv_at hl 0 rfl) ?_
  refine W.objInit SS.1 SS.2.1 SS.2.2.2.1 (SS.2.2.2.2 _ kw_128) (SS.2.2.2.2 _ kw_111) (SS.2.2.2.2 _ kw_112) rfl (by rw [SS.2.2.1]; exact hl.1) rfl dX8_init_1 (Nat.le_of_ble_eq_true rfl) (Nat.le_of_ble_eq_true rfl) ?_
  refine W.eq (g2 := F0 mi 4 ls []) rfl ?_
  refine lv_aload_n SS.1 SS.2.1 dX8_init_4 rfl (lv_at hl 0 rfl) ?_
  refine lv_iload_n SS.1 SS.2.1 dX8_init_5 rfl (lv_at hl 1 rfl) ?_
  refine j_newI SS hG hP hD hS hA kw_149 40 (by decide) rfl (Nat.le_of_ble_eq_true rfl) (Nat.le_of_ble_eq_true rfl) dX8_init_6 (fun a_5 H hP hD hS => ?_)
  have hP : va_P D.1 j_cl [(h0, .inr (6, [.null, .null, .int 0])), (a_5, .inl (D.2.1, 40, .inl (fun _ => J 0)))] H := hP
  have hD : va_D A [(h0, .inr (6, [.null, .null, .int 0])), (a_5, .inl (D.2.1, 40, .inl (fun _ => J 0)))] := hD
  refine W.widen (k := 1) (n := 40) (Nat.le_of_ble_eq_true rfl) (Nat.le_of_ble_eq_true rfl) ?_
  refine va_putF (D := D.1) (ci := 6) (v := .ref a_5) (ty := .array .int) (C := RX6) (T := TX6) (N := 3) SS.1 SS.2.1 SS.2.2.2.2 inX6 tyX6 tyX6_ok nmX6 SS.2.2.2.1 hG.1 hP hD hS 0 rfl rfl 0 (by decide) (SS.2.2.2.2 _ kw_129) (fun _ h9 => h9) rfl hin rfl (by decide +kernel) rfl rfl (Nat.le_of_ble_eq_true rfl) dX8_init_8 (fun H locs hP hD hS => ?_)
  have hP : va_P D.1 j_cl [(h0, .inr (6, [.ref a_5, .null, .int 0])), (a_5, .inl (D.2.1, 40, .inl (fun _ => J 0)))] H := hP
  have hD : va_D A [(h0, .inr (6, [.ref a_5, .null, .int 0])), (a_5, .inl (D.2.1, 40, .inl (fun _ => J 0)))] := hD
  refine lv_aload_n SS.1 SS.2.1 dX8_init_11 rfl (lv_at hl 0 rfl) ?_
  refine lv_iload_n SS.1 SS.2.1 dX8_init_12 rfl (lv_at hl 1 rfl) ?_
  refine j_newI SS hG hP hD hS hA kw_149 40 (by decide) rfl (Nat.le_of_ble_eq_true rfl) (Nat.le_of_ble_eq_true rfl) dX8_init_13 (fun a_9 H hP hD hS => ?_)
  have hP : va_P D.1 j_cl [(h0, .inr (6, [.ref a_5, .null, .int 0])), (a_5, .inl (D.2.1, 40, .inl (fun _ => J 0))), (a_9, .inl (D.2.1, 40, .inl (fun _ => J 0)))] H := hP
  have hD : va_D A [(h0, .inr (6, [.ref a_5, .null, .int 0])), (a_5, .inl (D.2.1, 40, .inl (fun _ => J 0))), (a_9, .inl (D.2.1, 40, .inl (fun _ => J 0)))] := hD
  refine W.widen (k := 2) (n := 80) (Nat.le_of_ble_eq_true rfl) (Nat.le_of_ble_eq_true rfl) ?_
  refine va_putF (D := D.1) (ci := 6) (v := .ref a_9) (ty := .array .int) (C := RX6) (T := TX6) (N := 3) SS.1 SS.2.1 SS.2.2.2.2 inX6 tyX6 tyX6_ok nmX6 SS.2.2.2.1 hG.1 hP hD hS 0 rfl rfl 1 (by decide) (SS.2.2.2.2 _ kw_130) (fun _ h9 => h9) rfl hin rfl (by decide +kernel) rfl rfl (Nat.le_of_ble_eq_true rfl) dX8_init_15 (fun H locs hP hD hS => ?_)
  have hP : va_P D.1 j_cl [(h0, .inr (6, [.ref a_5, .ref a_9, .int 0])), (a_5, .inl (D.2.1, 40, .inl (fun _ => J 0))), (a_9, .inl (D.2.1, 40, .inl (fun _ => J 0)))] H := hP
  have hD : va_D A [(h0, .inr (6, [.ref a_5, .ref a_9, .int 0])), (a_5, .inl (D.2.1, 40, .inl (fun _ => J 0))), (a_9, .inl (D.2.1, 40, .inl (fun _ => J 0)))] := hD
  exact W.vret SS.1 SS.2.1 hr (fun t ht hW => ⟨⟨(fun k => ([a_5, a_9] : List Nat).getD k 0), rfl, trivial, by rw [ht]; exact hP, hD⟩, hS.F ht⟩) hS.2.2 dX8_init_18 hlk

def w_X6_init_40 (D : JD) (h0 : Nat) (u : Nat → Nat) : va_W := [(h0, .inr (6, [.ref (u 0), .ref (u 1), .int 0])), ((u 0), .inl (D.2.1, 40, .inl (fun _ => J 0))), ((u 1), .inl (D.2.1, 40, .inl (fun _ => J 0)))]
set_option maxHeartbeats 4000000 in
set_option maxRecDepth 100000 in
theorem c_X6_init_40 (l : Launch) (D : JD) (h0 sz : Nat) : Met l yX6_init (jw yX6_init cX6_init 2 none) (jrc 2 33 2 80) (jPN [.ref h0, .int (J 40)] D (fun H => H.size = sz ∧ va_P D.1 j_cl [(h0, .inr (6, [.null, .null, .int 0]))] H)) (jWv (fun _ : Nat → Nat => True) (fun u H => va_P D.1 j_cl (w_X6_init_40 D h0 u) H ∧ va_D (va_A [(h0, .inr (6, [.null, .null, .int 0]))] sz) (w_X6_init_40 D h0 u)) (va_A [(h0, .inr (6, [.null, .null, .int 0]))] sz)) 2 80 (va_A [(h0, .inr (6, [.null, .null, .int 0]))] sz) := by
  refine Met.ofW (cc := cX6_init) (maxL := 2) (ret := none) (by decide) rfl ?_
  intro pr en st mi args below meth co s₁ B hml hv
  obtain ⟨rfl, ⟨hG, hN⟩, hsz, hP⟩ := hv
  have hr := B.returns
  have hlk := B.notSynchronized
  have hin : meth.name = "<init>" := (name_of_methodNamed B.named B.method).1
  have SS : jS pr mi co cX6_init 2 st _ RX6 := ⟨B.exec, B.bytes, hml, findClass_of_methodNamed B.named, fun w hw => atoms_spec (ws := (jw yX6_init cX6_init 2 none)) B.pre w (List.mem_cons_of_mem _ hw)⟩
  subst hsz
  have hD : va_D (va_A [(h0, .inr (6, [.null, .null, .int 0]))] st.heap.size) [(h0, .inr (6, [.null, .null, .int 0]))] := va_D1
  generalize hAe : va_A [(h0, .inr (6, [.null, .null, .int 0]))] st.heap.size = A at hD ⊢
  have hA : ∀ q : Nat, st.heap.size ≤ q → A q := fun q h => by rw [← hAe]; exact Or.inr h
  have hS : va_S A st.heap st.heap [] := va_S.rf
  have hl := lv_entry ([.ref h0, .int (J 40)]) (n := 2) (Nat.le_of_ble_eq_true rfl)
  rw [lg_entry_eq]
  generalize (lg_sl ([.ref h0, .int (J 40)]) ++ List.replicate (2 - (lg_sl ([.ref h0, .int (J 40)])).length) Slot.unset).toArray = ls at hl ⊢
  have hl : lv_has ls 2 [(0, .ref h0), (1, .int (J 40))] := hl
  obtain ⟨H, eH⟩ : ∃ H, H = st.heap := ⟨_, rfl⟩
  rw [← eH] at hP
  have hS : va_S A st.heap H [] := eH ▸ va_S.rf
  rw [← eH]
  refine lv_aload_n SS.1 SS.2.1 dX6_init_0 rfl (lv_at hl 0 rfl) ?_
  refine lv_iload_n SS.1 SS.2.1 dX6_init_1 rfl (lv_at hl 1 rfl) ?_
  have hP : va_P D.1 j_cl ([] ++ [(h0, .inr (6, [.null, .null, .int 0]))]) H := hP
  have hD : va_D A ([] ++ [(h0, .inr (6, [.null, .null, .int 0]))]) := hD
  have hF := j_free (x := (h0, .inr (6, [.null, .null, .int 0]))) hD hS hA
  refine j_iS SS (As := [.int (J 40)]) (rest := []) (c_X8_init_6_40 l D h0 H.size) mi_X8_init kw_305 hG hN ⟨rfl, j_lastP hP⟩ hS hF rfl hl.1 ⟨⟨Nat.le_of_ble_eq_true rfl, Nat.le_of_ble_eq_true rfl⟩, Nat.le_of_ble_eq_true rfl, Nat.le_of_ble_eq_true rfl, Nat.le_of_ble_eq_true rfl⟩ rfl dX6_init_2 (fun u_3 H1 locs hB hFr hS => ?_)
  obtain ⟨hP, hD⟩ := j_join hP hD hFr.2 hF hB.1 hB.2
  generalize H1 = H at hP hS ⊢
  have hP : va_P D.1 j_cl (w_X8_init_6_40 D h0 u_3) H := hP
  have hD : va_D A (w_X8_init_6_40 D h0 u_3) := hD
  refine W.widen (k := 2) (n := 80) (Nat.le_of_ble_eq_true rfl) (Nat.le_of_ble_eq_true rfl) ?_
  exact W.vret SS.1 SS.2.1 hr (fun t ht hW => ⟨⟨(fun k => ([(u_3 0), (u_3 1)] : List Nat).getD k 0), rfl, trivial, by rw [ht]; exact hP, hD⟩, hS.F ht⟩) hS.2.2 dX6_init_5 hlk

def w_X10_init (D : JD) (h0 : Nat) (u : Nat → Nat) : va_W := [(h0, .inr (10, [.ref (u 0), .ref (u 3), .int 0])), ((u 0), .inr (7, [.ref (u 1), .ref (u 2), .int 0])), ((u 1), .inl (D.2.1, 24, .inl (fun _ => J 0))), ((u 2), .inl (D.2.1, 24, .inl (fun _ => J 0))), ((u 3), .inl (D.2.1, 40, .inl (fun _ => J 0)))]
set_option maxHeartbeats 4000000 in
set_option maxRecDepth 100000 in
theorem c_X10_init (l : Launch) (D : JD) (h0 sz : Nat) : Met l yX10_init (jw yX10_init cX10_init 1 none) (jrc 3 54 4 91) (jPN [.ref h0] D (fun H => H.size = sz ∧ va_P D.1 j_cl [(h0, .inr (10, [.null, .null, .int 0]))] H)) (jWv (fun _ : Nat → Nat => True) (fun u H => va_P D.1 j_cl (w_X10_init D h0 u) H ∧ va_D (va_A [(h0, .inr (10, [.null, .null, .int 0]))] sz) (w_X10_init D h0 u)) (va_A [(h0, .inr (10, [.null, .null, .int 0]))] sz)) 4 91 (va_A [(h0, .inr (10, [.null, .null, .int 0]))] sz) := by
  refine Met.ofW (cc := cX10_init) (maxL := 1) (ret := none) (by decide) rfl ?_
  intro pr en st mi args below meth co s₁ B hml hv
  obtain ⟨rfl, ⟨hG, hN⟩, hsz, hP⟩ := hv
  have hr := B.returns
  have hlk := B.notSynchronized
  have hin : meth.name = "<init>" := (name_of_methodNamed B.named B.method).1
  have SS : jS pr mi co cX10_init 1 st _ RX10 := ⟨B.exec, B.bytes, hml, findClass_of_methodNamed B.named, fun w hw => atoms_spec (ws := (jw yX10_init cX10_init 1 none)) B.pre w (List.mem_cons_of_mem _ hw)⟩
  subst hsz
  have hD : va_D (va_A [(h0, .inr (10, [.null, .null, .int 0]))] st.heap.size) [(h0, .inr (10, [.null, .null, .int 0]))] := va_D1
  generalize hAe : va_A [(h0, .inr (10, [.null, .null, .int 0]))] st.heap.size = A at hD ⊢
  have hA : ∀ q : Nat, st.heap.size ≤ q → A q := fun q h => by rw [← hAe]; exact Or.inr h
  have hS : va_S A st.heap st.heap [] := va_S.rf
  have hl := lv_entry ([.ref h0]) (n := 1) (Nat.le_of_ble_eq_true rfl)
  rw [lg_entry_eq]
  generalize (lg_sl ([.ref h0]) ++ List.replicate (1 - (lg_sl ([.ref h0])).length) Slot.unset).toArray = ls at hl ⊢
  have hl : lv_has ls 1 [(0, .ref h0)] := hl
  obtain ⟨H, eH⟩ : ∃ H, H = st.heap := ⟨_, rfl⟩
  rw [← eH] at hP
  have hS : va_S A st.heap H [] := eH ▸ va_S.rf
  rw [← eH]
  refine lv_aload_n SS.1 SS.2.1 dX10_init_0 rfl (lv_at hl 0 rfl) ?_
  refine W.objInit SS.1 SS.2.1 SS.2.2.2.1 (SS.2.2.2.2 _ kw_119) (SS.2.2.2.2 _ kw_111) (SS.2.2.2.2 _ kw_112) rfl (by rw [SS.2.2.1]; exact hl.1) rfl dX10_init_1 (Nat.le_of_ble_eq_true rfl) (Nat.le_of_ble_eq_true rfl) ?_
  refine W.eq (g2 := F0 mi 4 ls []) rfl ?_
  refine lv_aload_n SS.1 SS.2.1 dX10_init_4 rfl (lv_at hl 0 rfl) ?_
  refine va_new (ci := 7) (fs := [.null, .null, .int 0]) (C := RX7) (T := TX7) (N := 3) SS.1 SS.2.1 SS.2.2.2.2 inX7 tyX7 tyX7_ok SS.2.2.2.1 (SS.2.2.2.2 _ kw_120) (SS.2.2.2.2 _ kw_121) (SS.2.2.2.2 _ kw_91) hG.1 hP hD hS hA rfl (fun j hj => by rcases (show j = 0 ∨ j = 1 ∨ j = 2 by omega) with rfl | rfl | rfl <;> rfl) (Nat.le_of_ble_eq_true rfl) (Nat.le_of_ble_eq_true rfl) dX10_init_5 (fun a_4 H hP hD hS => ?_)
  have hP : va_P D.1 j_cl ([(h0, .inr (10, [.null, .null, .int 0]))] ++ [(a_4, .inr (7, [.null, .null, .int 0]))]) H := hP
  have hD : va_D A ([(h0, .inr (10, [.null, .null, .int 0]))] ++ [(a_4, .inr (7, [.null, .null, .int 0]))]) := hD
  refine W.widen (k := 1) (n := 3) (Nat.le_of_ble_eq_true rfl) (Nat.le_of_ble_eq_true rfl) ?_
  refine lv_dup SS.1 SS.2.1 dX10_init_8 rfl ?_
  refine j_bipush SS dX10_init_9 (by decide +kernel) ?_
  have hF := j_free (x := (a_4, .inr (7, [.null, .null, .int 0]))) hD hS hA
  refine j_iS SS (As := [.int (J 24)]) (rest := [.ref a_4, .ref h0]) (c_X7_init_24 l D a_4 H.size) mi_X7_init kw_122 hG hN ⟨rfl, j_lastP hP⟩ hS hF rfl hl.1 ⟨⟨Nat.le_of_ble_eq_true rfl, Nat.le_of_ble_eq_true rfl⟩, Nat.le_of_ble_eq_true rfl, Nat.le_of_ble_eq_true rfl, Nat.le_of_ble_eq_true rfl⟩ rfl dX10_init_11 (fun u_7 H1 locs hB hFr hS => ?_)
  obtain ⟨hP, hD⟩ := j_join hP hD hFr.2 hF hB.1 hB.2
  generalize H1 = H at hP hS ⊢
  have hP : va_P D.1 j_cl [(h0, .inr (10, [.null, .null, .int 0])), (a_4, .inr (7, [.ref (u_7 0), .ref (u_7 1), .int 0])), ((u_7 0), .inl (D.2.1, 24, .inl (fun _ => J 0))), ((u_7 1), .inl (D.2.1, 24, .inl (fun _ => J 0)))] H := hP
  have hD : va_D A [(h0, .inr (10, [.null, .null, .int 0])), (a_4, .inr (7, [.ref (u_7 0), .ref (u_7 1), .int 0])), ((u_7 0), .inl (D.2.1, 24, .inl (fun _ => J 0))), ((u_7 1), .inl (D.2.1, 24, .inl (fun _ => J 0)))] := hD
  refine W.widen (k := 3) (n := 51) (Nat.le_of_ble_eq_true rfl) (Nat.le_of_ble_eq_true rfl) ?_
  refine va_putF (D := D.1) (ci := 10) (v := .ref a_4) (ty := .object "GridPolygons$Ring") (C := RX10) (T := TX10) (N := 3) SS.1 SS.2.1 SS.2.2.2.2 inX10 tyX10 tyX10_ok nmX10 SS.2.2.2.1 hG.1 hP hD hS 0 rfl rfl 0 (by decide) (SS.2.2.2.2 _ kw_150) (fun _ h9 => h9) rfl hin rfl (by decide +kernel) rfl rfl (Nat.le_of_ble_eq_true rfl) dX10_init_14 (fun H locs hP hD hS => ?_)
  have hP : va_P D.1 j_cl [(h0, .inr (10, [.ref a_4, .null, .int 0])), (a_4, .inr (7, [.ref (u_7 0), .ref (u_7 1), .int 0])), ((u_7 0), .inl (D.2.1, 24, .inl (fun _ => J 0))), ((u_7 1), .inl (D.2.1, 24, .inl (fun _ => J 0)))] H := hP
  have hD : va_D A [(h0, .inr (10, [.ref a_4, .null, .int 0])), (a_4, .inr (7, [.ref (u_7 0), .ref (u_7 1), .int 0])), ((u_7 0), .inl (D.2.1, 24, .inl (fun _ => J 0))), ((u_7 1), .inl (D.2.1, 24, .inl (fun _ => J 0)))] := hD
  refine lv_aload_n SS.1 SS.2.1 dX10_init_17 rfl (lv_at hl 0 rfl) ?_
  refine j_bipush SS dX10_init_18 (by decide +kernel) ?_
  refine j_newI SS hG hP hD hS hA kw_149 40 (by decide) rfl (Nat.le_of_ble_eq_true rfl) (Nat.le_of_ble_eq_true rfl) dX10_init_20 (fun a_11 H hP hD hS => ?_)
  have hP : va_P D.1 j_cl [(h0, .inr (10, [.ref a_4, .null, .int 0])), (a_4, .inr (7, [.ref (u_7 0), .ref (u_7 1), .int 0])), ((u_7 0), .inl (D.2.1, 24, .inl (fun _ => J 0))), ((u_7 1), .inl (D.2.1, 24, .inl (fun _ => J 0))), (a_11, .inl (D.2.1, 40, .inl (fun _ => J 0)))] H := hP
  have hD : va_D A [(h0, .inr (10, [.ref a_4, .null, .int 0])), (a_4, .inr (7, [.ref (u_7 0), .ref (u_7 1), .int 0])), ((u_7 0), .inl (D.2.1, 24, .inl (fun _ => J 0))), ((u_7 1), .inl (D.2.1, 24, .inl (fun _ => J 0))), (a_11, .inl (D.2.1, 40, .inl (fun _ => J 0)))] := hD
  refine W.widen (k := 4) (n := 91) (Nat.le_of_ble_eq_true rfl) (Nat.le_of_ble_eq_true rfl) ?_
  refine va_putF (D := D.1) (ci := 10) (v := .ref a_11) (ty := .array .int) (C := RX10) (T := TX10) (N := 3) SS.1 SS.2.1 SS.2.2.2.2 inX10 tyX10 tyX10_ok nmX10 SS.2.2.2.1 hG.1 hP hD hS 0 rfl rfl 1 (by decide) (SS.2.2.2.2 _ kw_155) (fun _ h9 => h9) rfl hin rfl (by decide +kernel) rfl rfl (Nat.le_of_ble_eq_true rfl) dX10_init_22 (fun H locs hP hD hS => ?_)
  have hP : va_P D.1 j_cl [(h0, .inr (10, [.ref a_4, .ref a_11, .int 0])), (a_4, .inr (7, [.ref (u_7 0), .ref (u_7 1), .int 0])), ((u_7 0), .inl (D.2.1, 24, .inl (fun _ => J 0))), ((u_7 1), .inl (D.2.1, 24, .inl (fun _ => J 0))), (a_11, .inl (D.2.1, 40, .inl (fun _ => J 0)))] H := hP
  have hD : va_D A [(h0, .inr (10, [.ref a_4, .ref a_11, .int 0])), (a_4, .inr (7, [.ref (u_7 0), .ref (u_7 1), .int 0])), ((u_7 0), .inl (D.2.1, 24, .inl (fun _ => J 0))), ((u_7 1), .inl (D.2.1, 24, .inl (fun _ => J 0))), (a_11, .inl (D.2.1, 40, .inl (fun _ => J 0)))] := hD
  exact W.vret SS.1 SS.2.1 hr (fun t ht hW => ⟨⟨(fun k => ([a_4, (u_7 0), (u_7 1), a_11] : List Nat).getD k 0), rfl, trivial, by rw [ht]; exact hP, hD⟩, hS.F ht⟩) hS.2.2 dX10_init_25 hlk

def w_X3_init (D : JD) (h0 : Nat) (u : Nat → Nat) : va_W := [(h0, .inr (3, [.ref (u 0), .ref (u 1), .ref (u 2)])), ((u 0), .inl (D.2.1, 161, .inl (fun _ => J 0))), ((u 1), .inl (D.2.1, 161, .inl (fun _ => J 0))), ((u 2), .inr (7, [.ref (u 3), .ref (u 4), .int 0])), ((u 3), .inl (D.2.1, 323, .inl (fun _ => J 0))), ((u 4), .inl (D.2.1, 323, .inl (fun _ => J 0)))]
set_option maxHeartbeats 4000000 in
set_option maxRecDepth 100000 in
theorem c_X3_init (l : Launch) (D : JD) (h0 sz : Nat) : Met l yX3_init (jw yX3_init cX3_init 1 none) (jrc 3 54 5 971) (jPN [.ref h0] D (fun H => H.size = sz ∧ va_P D.1 j_cl [(h0, .inr (3, [.null, .null, .null]))] H)) (jWv (fun _ : Nat → Nat => True) (fun u H => va_P D.1 j_cl (w_X3_init D h0 u) H ∧ va_D (va_A [(h0, .inr (3, [.null, .null, .null]))] sz) (w_X3_init D h0 u)) (va_A [(h0, .inr (3, [.null, .null, .null]))] sz)) 5 971 (va_A [(h0, .inr (3, [.null, .null, .null]))] sz) := by
  refine Met.ofW (cc := cX3_init) (maxL := 1) (ret := none) (by decide) rfl ?_
  intro pr en st mi args below meth co s₁ B hml hv
  obtain ⟨rfl, ⟨hG, hN⟩, hsz, hP⟩ := hv
  have hr := B.returns
  have hlk := B.notSynchronized
  have hin : meth.name = "<init>" := (name_of_methodNamed B.named B.method).1
  have SS : jS pr mi co cX3_init 1 st _ RX3 := ⟨B.exec, B.bytes, hml, findClass_of_methodNamed B.named, fun w hw => atoms_spec (ws := (jw yX3_init cX3_init 1 none)) B.pre w (List.mem_cons_of_mem _ hw)⟩
  subst hsz
  have hD : va_D (va_A [(h0, .inr (3, [.null, .null, .null]))] st.heap.size) [(h0, .inr (3, [.null, .null, .null]))] := va_D1
  generalize hAe : va_A [(h0, .inr (3, [.null, .null, .null]))] st.heap.size = A at hD ⊢
  have hA : ∀ q : Nat, st.heap.size ≤ q → A q := fun q h => by rw [← hAe]; exact Or.inr h
  have hS : va_S A st.heap st.heap [] := va_S.rf
  have hl := lv_entry ([.ref h0]) (n := 1) (Nat.le_of_ble_eq_true rfl)
  rw [lg_entry_eq]
  generalize (lg_sl ([.ref h0]) ++ List.replicate (1 - (lg_sl ([.ref h0])).length) Slot.unset).toArray = ls at hl ⊢
  have hl : lv_has ls 1 [(0, .ref h0)] := hl
  obtain ⟨H, eH⟩ : ∃ H, H = st.heap := ⟨_, rfl⟩
  rw [← eH] at hP
  have hS : va_S A st.heap H [] := eH ▸ va_S.rf
  rw [← eH]
  refine lv_aload_n SS.1 SS.2.1 dX3_init_0 rfl (lv_at hl 0 rfl) ?_
  refine W.objInit SS.1 SS.2.1 SS.2.2.2.1 (SS.2.2.2.2 _ kw_174) (SS.2.2.2.2 _ kw_111) (SS.2.2.2.2 _ kw_112) rfl (by rw [SS.2.2.1]; exact hl.1) rfl dX3_init_1 (Nat.le_of_ble_eq_true rfl) (Nat.le_of_ble_eq_true rfl) ?_
  refine W.eq (g2 := F0 mi 4 ls []) rfl ?_
  refine lv_aload_n SS.1 SS.2.1 dX3_init_4 rfl (lv_at hl 0 rfl) ?_
  refine j_sipush SS dX3_init_5 (by decide +kernel) ?_
  refine j_newI SS hG hP hD hS hA kw_149 161 (by decide) rfl (Nat.le_of_ble_eq_true rfl) (Nat.le_of_ble_eq_true rfl) dX3_init_8 (fun a_5 H hP hD hS => ?_)
  have hP : va_P D.1 j_cl [(h0, .inr (3, [.null, .null, .null])), (a_5, .inl (D.2.1, 161, .inl (fun _ => J 0)))] H := hP
  have hD : va_D A [(h0, .inr (3, [.null, .null, .null])), (a_5, .inl (D.2.1, 161, .inl (fun _ => J 0)))] := hD
  refine W.widen (k := 1) (n := 161) (Nat.le_of_ble_eq_true rfl) (Nat.le_of_ble_eq_true rfl) ?_
  refine va_putF (D := D.1) (ci := 3) (v := .ref a_5) (ty := .array .int) (C := RX3) (T := TX3) (N := 3) SS.1 SS.2.1 SS.2.2.2.2 inX3 tyX3 tyX3_ok nmX3 SS.2.2.2.1 hG.1 hP hD hS 0 rfl rfl 0 (by decide) (SS.2.2.2.2 _ kw_177) (fun _ h9 => h9) rfl hin rfl (by decide +kernel) rfl rfl (Nat.le_of_ble_eq_true rfl) dX3_init_10 (fun H locs hP hD hS => ?_)
  have hP : va_P D.1 j_cl [(h0, .inr (3, [.ref a_5, .null, .null])), (a_5, .inl (D.2.1, 161, .inl (fun _ => J 0)))] H := hP
  have hD : va_D A [(h0, .inr (3, [.ref a_5, .null, .null])), (a_5, .inl (D.2.1, 161, .inl (fun _ => J 0)))] := hD
  refine lv_aload_n SS.1 SS.2.1 dX3_init_13 rfl (lv_at hl 0 rfl) ?_
  refine j_sipush SS dX3_init_14 (by decide +kernel) ?_
  refine j_newI SS hG hP hD hS hA kw_149 161 (by decide) rfl (Nat.le_of_ble_eq_true rfl) (Nat.le_of_ble_eq_true rfl) dX3_init_17 (fun a_9 H hP hD hS => ?_)
  have hP : va_P D.1 j_cl [(h0, .inr (3, [.ref a_5, .null, .null])), (a_5, .inl (D.2.1, 161, .inl (fun _ => J 0))), (a_9, .inl (D.2.1, 161, .inl (fun _ => J 0)))] H := hP
  have hD : va_D A [(h0, .inr (3, [.ref a_5, .null, .null])), (a_5, .inl (D.2.1, 161, .inl (fun _ => J 0))), (a_9, .inl (D.2.1, 161, .inl (fun _ => J 0)))] := hD
  refine W.widen (k := 2) (n := 322) (Nat.le_of_ble_eq_true rfl) (Nat.le_of_ble_eq_true rfl) ?_
  refine va_putF (D := D.1) (ci := 3) (v := .ref a_9) (ty := .array .int) (C := RX3) (T := TX3) (N := 3) SS.1 SS.2.1 SS.2.2.2.2 inX3 tyX3 tyX3_ok nmX3 SS.2.2.2.1 hG.1 hP hD hS 0 rfl rfl 1 (by decide) (SS.2.2.2.2 _ kw_178) (fun _ h9 => h9) rfl hin rfl (by decide +kernel) rfl rfl (Nat.le_of_ble_eq_true rfl) dX3_init_19 (fun H locs hP hD hS => ?_)
  have hP : va_P D.1 j_cl [(h0, .inr (3, [.ref a_5, .ref a_9, .null])), (a_5, .inl (D.2.1, 161, .inl (fun _ => J 0))), (a_9, .inl (D.2.1, 161, .inl (fun _ => J 0)))] H := hP
  have hD : va_D A [(h0, .inr (3, [.ref a_5, .ref a_9, .null])), (a_5, .inl (D.2.1, 161, .inl (fun _ => J 0))), (a_9, .inl (D.2.1, 161, .inl (fun _ => J 0)))] := hD
  refine lv_aload_n SS.1 SS.2.1 dX3_init_22 rfl (lv_at hl 0 rfl) ?_
  refine va_new (ci := 7) (fs := [.null, .null, .int 0]) (C := RX7) (T := TX7) (N := 3) SS.1 SS.2.1 SS.2.2.2.2 inX7 tyX7 tyX7_ok SS.2.2.2.1 (SS.2.2.2.2 _ kw_175) (SS.2.2.2.2 _ kw_121) (SS.2.2.2.2 _ kw_91) hG.1 hP hD hS hA rfl (fun j hj => by rcases (show j = 0 ∨ j = 1 ∨ j = 2 by omega) with rfl | rfl | rfl <;> rfl) (Nat.le_of_ble_eq_true rfl) (Nat.le_of_ble_eq_true rfl) dX3_init_23 (fun a_12 H hP hD hS => ?_)
  have hP : va_P D.1 j_cl ([(h0, .inr (3, [.ref a_5, .ref a_9, .null])), (a_5, .inl (D.2.1, 161, .inl (fun _ => J 0))), (a_9, .inl (D.2.1, 161, .inl (fun _ => J 0)))] ++ [(a_12, .inr (7, [.null, .null, .int 0]))]) H := hP
  have hD : va_D A ([(h0, .inr (3, [.ref a_5, .ref a_9, .null])), (a_5, .inl (D.2.1, 161, .inl (fun _ => J 0))), (a_9, .inl (D.2.1, 161, .inl (fun _ => J 0)))] ++ [(a_12, .inr (7, [.null, .null, .int 0]))]) := hD
  refine W.widen (k := 3) (n := 325) (Nat.le_of_ble_eq_true rfl) (Nat.le_of_ble_eq_true rfl) ?_
  refine lv_dup SS.1 SS.2.1 dX3_init_26 rfl ?_
  refine j_sipush SS dX3_init_27 (by decide +kernel) ?_
  have hF := j_free (x := (a_12, .inr (7, [.null, .null, .int 0]))) hD hS hA
  refine j_iS SS (As := [.int (J 323)]) (rest := [.ref a_12, .ref h0]) (c_X7_init_323 l D a_12 H.size) mi_X7_init kw_176 hG hN ⟨rfl, j_lastP hP⟩ hS hF rfl hl.1 ⟨⟨Nat.le_of_ble_eq_true rfl, Nat.le_of_ble_eq_true rfl⟩, Nat.le_of_ble_eq_true rfl, Nat.le_of_ble_eq_true rfl, Nat.le_of_ble_eq_true rfl⟩ rfl dX3_init_30 (fun u_15 H1 locs hB hFr hS => ?_)
  obtain ⟨hP, hD⟩ := j_join hP hD hFr.2 hF hB.1 hB.2
  generalize H1 = H at hP hS ⊢
  have hP : va_P D.1 j_cl [(h0, .inr (3, [.ref a_5, .ref a_9, .null])), (a_5, .inl (D.2.1, 161, .inl (fun _ => J 0))), (a_9, .inl (D.2.1, 161, .inl (fun _ => J 0))), (a_12, .inr (7, [.ref (u_15 0), .ref (u_15 1), .int 0])), ((u_15 0), .inl (D.2.1, 323, .inl (fun _ => J 0))), ((u_15 1), .inl (D.2.1, 323, .inl (fun _ => J 0)))] H := hP
  have hD : va_D A [(h0, .inr (3, [.ref a_5, .ref a_9, .null])), (a_5, .inl (D.2.1, 161, .inl (fun _ => J 0))), (a_9, .inl (D.2.1, 161, .inl (fun _ => J 0))), (a_12, .inr (7, [.ref (u_15 0), .ref (u_15 1), .int 0])), ((u_15 0), .inl (D.2.1, 323, .inl (fun _ => J 0))), ((u_15 1), .inl (D.2.1, 323, .inl (fun _ => J 0)))] := hD
  refine W.widen (k := 5) (n := 971) (Nat.le_of_ble_eq_true rfl) (Nat.le_of_ble_eq_true rfl) ?_
  refine va_putF (D := D.1) (ci := 3) (v := .ref a_12) (ty := .object "GridPolygons$Ring") (C := RX3) (T := TX3) (N := 3) SS.1 SS.2.1 SS.2.2.2.2 inX3 tyX3 tyX3_ok nmX3 SS.2.2.2.1 hG.1 hP hD hS 0 rfl rfl 2 (by decide) (SS.2.2.2.2 _ kw_179) (fun _ h9 => h9) rfl hin rfl (by decide +kernel) rfl rfl (Nat.le_of_ble_eq_true rfl) dX3_init_33 (fun H locs hP hD hS => ?_)
  have hP : va_P D.1 j_cl [(h0, .inr (3, [.ref a_5, .ref a_9, .ref a_12])), (a_5, .inl (D.2.1, 161, .inl (fun _ => J 0))), (a_9, .inl (D.2.1, 161, .inl (fun _ => J 0))), (a_12, .inr (7, [.ref (u_15 0), .ref (u_15 1), .int 0])), ((u_15 0), .inl (D.2.1, 323, .inl (fun _ => J 0))), ((u_15 1), .inl (D.2.1, 323, .inl (fun _ => J 0)))] H := hP
  have hD : va_D A [(h0, .inr (3, [.ref a_5, .ref a_9, .ref a_12])), (a_5, .inl (D.2.1, 161, .inl (fun _ => J 0))), (a_9, .inl (D.2.1, 161, .inl (fun _ => J 0))), (a_12, .inr (7, [.ref (u_15 0), .ref (u_15 1), .int 0])), ((u_15 0), .inl (D.2.1, 323, .inl (fun _ => J 0))), ((u_15 1), .inl (D.2.1, 323, .inl (fun _ => J 0)))] := hD
  exact W.vret SS.1 SS.2.1 hr (fun t ht hW => ⟨⟨(fun k => ([a_5, a_9, a_12, (u_15 0), (u_15 1)] : List Nat).getD k 0), rfl, trivial, by rw [ht]; exact hP, hD⟩, hS.F ht⟩) hS.2.2 dX3_init_36 hlk

def w_X4_init (D : JD) (h0 : Nat) (u : Nat → Nat) : va_W := [(h0, .inr (4, [.int 0, .int 0, .int 0]))]
set_option maxHeartbeats 4000000 in
set_option maxRecDepth 100000 in
theorem c_X4_init (l : Launch) (D : JD) (h0 sz : Nat) : Met l yX4_init (jw yX4_init cX4_init 1 none) (jrc 1 12 0 0) (jPN [.ref h0] D (fun H => H.size = sz ∧ va_P D.1 j_cl [(h0, .inr (4, [.int 0, .int 0, .int 0]))] H)) (jWv (fun _ : Nat → Nat => True) (fun u H => va_P D.1 j_cl (w_X4_init D h0 u) H ∧ va_D (va_A [(h0, .inr (4, [.int 0, .int 0, .int 0]))] sz) (w_X4_init D h0 u)) (va_A [(h0, .inr (4, [.int 0, .int 0, .int 0]))] sz)) 0 0 (va_A [(h0, .inr (4, [.int 0, .int 0, .int 0]))] sz) := by
  refine Met.ofW (cc := cX4_init) (maxL := 1) (ret := none) (by decide) rfl ?_
  intro pr en st mi args below meth co s₁ B hml hv
  obtain ⟨rfl, ⟨hG, hN⟩, hsz, hP⟩ := hv
  have hr := B.returns
  have hlk := B.notSynchronized
  have hin : meth.name = "<init>" := (name_of_methodNamed B.named B.method).1
  have SS : jS pr mi co cX4_init 1 st _ RX4 := ⟨B.exec, B.bytes, hml, findClass_of_methodNamed B.named, fun w hw => atoms_spec (ws := (jw yX4_init cX4_init 1 none)) B.pre w (List.mem_cons_of_mem _ hw)⟩
  subst hsz
  have hD : va_D (va_A [(h0, .inr (4, [.int 0, .int 0, .int 0]))] st.heap.size) [(h0, .inr (4, [.int 0, .int 0, .int 0]))] := va_D1
  generalize hAe : va_A [(h0, .inr (4, [.int 0, .int 0, .int 0]))] st.heap.size = A at hD ⊢
  have hA : ∀ q : Nat, st.heap.size ≤ q → A q := fun q h => by rw [← hAe]; exact Or.inr h
  have hS : va_S A st.heap st.heap [] := va_S.rf
  have hl := lv_entry ([.ref h0]) (n := 1) (Nat.le_of_ble_eq_true rfl)
  rw [lg_entry_eq]
  generalize (lg_sl ([.ref h0]) ++ List.replicate (1 - (lg_sl ([.ref h0])).length) Slot.unset).toArray = ls at hl ⊢
  have hl : lv_has ls 1 [(0, .ref h0)] := hl
  obtain ⟨H, eH⟩ : ∃ H, H = st.heap := ⟨_, rfl⟩
  rw [← eH] at hP
  have hS : va_S A st.heap H [] := eH ▸ va_S.rf
  rw [← eH]
  refine lv_aload_n SS.1 SS.2.1 dX4_init_0 rfl (lv_at hl 0 rfl) ?_
  refine W.objInit SS.1 SS.2.1 SS.2.2.2.1 (SS.2.2.2.2 _ kw_193) (SS.2.2.2.2 _ kw_111) (SS.2.2.2.2 _ kw_112) rfl (by rw [SS.2.2.1]; exact hl.1) rfl dX4_init_1 (Nat.le_of_ble_eq_true rfl) (Nat.le_of_ble_eq_true rfl) ?_
  refine W.eq (g2 := F0 mi 4 ls []) rfl ?_
  exact W.vret SS.1 SS.2.1 hr (fun t ht hW => ⟨⟨(fun k => ([] : List Nat).getD k 0), rfl, trivial, by rw [ht]; exact hP, hD⟩, hS.F ht⟩) hS.2.2 dX4_init_4 hlk

def w_X9_init (D : JD) (h0 : Nat) (u : Nat → Nat) : va_W := [(h0, .inr (9, [.int 0, .int 0, .int 0, .int 0, .int 0, .int 0]))]
set_option maxHeartbeats 4000000 in
set_option maxRecDepth 100000 in
theorem c_X9_init (l : Launch) (D : JD) (h0 sz : Nat) : Met l yX9_init (jw yX9_init cX9_init 1 none) (jrc 1 12 0 0) (jPN [.ref h0] D (fun H => H.size = sz ∧ va_P D.1 j_cl [(h0, .inr (9, [.int 0, .int 0, .int 0, .int 0, .int 0, .int 0]))] H)) (jWv (fun _ : Nat → Nat => True) (fun u H => va_P D.1 j_cl (w_X9_init D h0 u) H ∧ va_D (va_A [(h0, .inr (9, [.int 0, .int 0, .int 0, .int 0, .int 0, .int 0]))] sz) (w_X9_init D h0 u)) (va_A [(h0, .inr (9, [.int 0, .int 0, .int 0, .int 0, .int 0, .int 0]))] sz)) 0 0 (va_A [(h0, .inr (9, [.int 0, .int 0, .int 0, .int 0, .int 0, .int 0]))] sz) := by
  refine Met.ofW (cc := cX9_init) (maxL := 1) (ret := none) (by decide) rfl ?_
  intro pr en st mi args below meth co s₁ B hml hv
  obtain ⟨rfl, ⟨hG, hN⟩, hsz, hP⟩ := hv
  have hr := B.returns
  have hlk := B.notSynchronized
  have hin : meth.name = "<init>" := (name_of_methodNamed B.named B.method).1
  have SS : jS pr mi co cX9_init 1 st _ RX9 := ⟨B.exec, B.bytes, hml, findClass_of_methodNamed B.named, fun w hw => atoms_spec (ws := (jw yX9_init cX9_init 1 none)) B.pre w (List.mem_cons_of_mem _ hw)⟩
  subst hsz
  have hD : va_D (va_A [(h0, .inr (9, [.int 0, .int 0, .int 0, .int 0, .int 0, .int 0]))] st.heap.size) [(h0, .inr (9, [.int 0, .int 0, .int 0, .int 0, .int 0, .int 0]))] := va_D1
  generalize hAe : va_A [(h0, .inr (9, [.int 0, .int 0, .int 0, .int 0, .int 0, .int 0]))] st.heap.size = A at hD ⊢
  have hA : ∀ q : Nat, st.heap.size ≤ q → A q := fun q h => by rw [← hAe]; exact Or.inr h
  have hS : va_S A st.heap st.heap [] := va_S.rf
  have hl := lv_entry ([.ref h0]) (n := 1) (Nat.le_of_ble_eq_true rfl)
  rw [lg_entry_eq]
  generalize (lg_sl ([.ref h0]) ++ List.replicate (1 - (lg_sl ([.ref h0])).length) Slot.unset).toArray = ls at hl ⊢
  have hl : lv_has ls 1 [(0, .ref h0)] := hl
  obtain ⟨H, eH⟩ : ∃ H, H = st.heap := ⟨_, rfl⟩
  rw [← eH] at hP
  have hS : va_S A st.heap H [] := eH ▸ va_S.rf
  rw [← eH]
  refine lv_aload_n SS.1 SS.2.1 dX9_init_0 rfl (lv_at hl 0 rfl) ?_
  refine W.objInit SS.1 SS.2.1 SS.2.2.2.1 (SS.2.2.2.2 _ kw_212) (SS.2.2.2.2 _ kw_111) (SS.2.2.2.2 _ kw_112) rfl (by rw [SS.2.2.1]; exact hl.1) rfl dX9_init_1 (Nat.le_of_ble_eq_true rfl) (Nat.le_of_ble_eq_true rfl) ?_
  refine W.eq (g2 := F0 mi 4 ls []) rfl ?_
  exact W.vret SS.1 SS.2.1 hr (fun t ht hW => ⟨⟨(fun k => ([] : List Nat).getD k 0), rfl, trivial, by rw [ht]; exact hP, hD⟩, hS.F ht⟩) hS.2.2 dX9_init_4 hlk

def w_X0_init (D : JD) (h0 : Nat) (u : Nat → Nat) : va_W := [(h0, .inr (0, [.ref (u 0), .ref (u 1), .ref (u 2), .ref (u 3), .int 0, .int 0, .int (J (-1)), .int 0, .int 0, .int 0, .int 0, .int 0, .int 0, .int 0])), ((u 0), .inl (D.2.2.1, 6561, .inr (.inl (fun _ => 0)))), ((u 1), .inl (D.2.2.1, 6561, .inr (.inl (fun _ => 0)))), ((u 2), .inl (D.2.1, 164025, .inl (fun _ => J 0))), ((u 3), .inl (D.2.1, 24, .inl (fun _ => J 0)))]
set_option maxHeartbeats 4000000 in
set_option maxRecDepth 100000 in
theorem c_X0_init (l : Launch) (D : JD) (h0 sz : Nat) : Met l yX0_init (jw yX0_init cX0_init 1 none) (jrc 1 12 4 177171) (jPN [.ref h0] D (fun H => H.size = sz ∧ va_P D.1 j_cl [(h0, .inr (0, [.null, .null, .null, .null, .int 0, .int 0, .int 0, .int 0, .int 0, .int 0, .int 0, .int 0, .int 0, .int 0]))] H)) (jWv (fun _ : Nat → Nat => True) (fun u H => va_P D.1 j_cl (w_X0_init D h0 u) H ∧ va_D (va_A [(h0, .inr (0, [.null, .null, .null, .null, .int 0, .int 0, .int 0, .int 0, .int 0, .int 0, .int 0, .int 0, .int 0, .int 0]))] sz) (w_X0_init D h0 u)) (va_A [(h0, .inr (0, [.null, .null, .null, .null, .int 0, .int 0, .int 0, .int 0, .int 0, .int 0, .int 0, .int 0, .int 0, .int 0]))] sz)) 4 177171 (va_A [(h0, .inr (0, [.null, .null, .null, .null, .int 0, .int 0, .int 0, .int 0, .int 0, .int 0, .int 0, .int 0, .int 0, .int 0]))] sz) := by
  refine Met.ofW (cc := cX0_init) (maxL := 1) (ret := none) (by decide) rfl ?_
  intro pr en st mi args below meth co s₁ B hml hv
  obtain ⟨rfl, ⟨hG, hN⟩, hsz, hP⟩ := hv
  have hr := B.returns
  have hlk := B.notSynchronized
  have hin : meth.name = "<init>" := (name_of_methodNamed B.named B.method).1
  have SS : jS pr mi co cX0_init 1 st _ RX0 := ⟨B.exec, B.bytes, hml, findClass_of_methodNamed B.named, fun w hw => atoms_spec (ws := (jw yX0_init cX0_init 1 none)) B.pre w (List.mem_cons_of_mem _ hw)⟩
  subst hsz
  have hD : va_D (va_A [(h0, .inr (0, [.null, .null, .null, .null, .int 0, .int 0, .int 0, .int 0, .int 0, .int 0, .int 0, .int 0, .int 0, .int 0]))] st.heap.size) [(h0, .inr (0, [.null, .null, .null, .null, .int 0, .int 0, .int 0, .int 0, .int 0, .int 0, .int 0, .int 0, .int 0, .int 0]))] := va_D1
  generalize hAe : va_A [(h0, .inr (0, [.null, .null, .null, .null, .int 0, .int 0, .int 0, .int 0, .int 0, .int 0, .int 0, .int 0, .int 0, .int 0]))] st.heap.size = A at hD ⊢
  have hA : ∀ q : Nat, st.heap.size ≤ q → A q := fun q h => by rw [← hAe]; exact Or.inr h
  have hS : va_S A st.heap st.heap [] := va_S.rf
  have hl := lv_entry ([.ref h0]) (n := 1) (Nat.le_of_ble_eq_true rfl)
  rw [lg_entry_eq]
  generalize (lg_sl ([.ref h0]) ++ List.replicate (1 - (lg_sl ([.ref h0])).length) Slot.unset).toArray = ls at hl ⊢
  have hl : lv_has ls 1 [(0, .ref h0)] := hl
  obtain ⟨H, eH⟩ : ∃ H, H = st.heap := ⟨_, rfl⟩
  rw [← eH] at hP
  have hS : va_S A st.heap H [] := eH ▸ va_S.rf
  rw [← eH]
  refine lv_aload_n SS.1 SS.2.1 dX0_init_0 rfl (lv_at hl 0 rfl) ?_
  refine W.objInit SS.1 SS.2.1 SS.2.2.2.1 (SS.2.2.2.2 _ kw_241) (SS.2.2.2.2 _ kw_111) (SS.2.2.2.2 _ kw_112) rfl (by rw [SS.2.2.1]; exact hl.1) rfl dX0_init_1 (Nat.le_of_ble_eq_true rfl) (Nat.le_of_ble_eq_true rfl) ?_
  refine W.eq (g2 := F0 mi 4 ls []) rfl ?_
  refine lv_aload_n SS.1 SS.2.1 dX0_init_4 rfl (lv_at hl 0 rfl) ?_
  refine j_sipush SS dX0_init_5 (by decide +kernel) ?_
  refine j_newL SS hG hP hD hS hA kw_287 6561 (by decide) rfl (Nat.le_of_ble_eq_true rfl) (Nat.le_of_ble_eq_true rfl) dX0_init_8 (fun a_5 H hP hD hS => ?_)
  have hP : va_P D.1 j_cl [(h0, .inr (0, [.null, .null, .null, .null, .int 0, .int 0, .int 0, .int 0, .int 0, .int 0, .int 0, .int 0, .int 0, .int 0])), (a_5, .inl (D.2.2.1, 6561, .inr (.inl (fun _ => 0))))] H := hP
  have hD : va_D A [(h0, .inr (0, [.null, .null, .null, .null, .int 0, .int 0, .int 0, .int 0, .int 0, .int 0, .int 0, .int 0, .int 0, .int 0])), (a_5, .inl (D.2.2.1, 6561, .inr (.inl (fun _ => 0))))] := hD
  refine W.widen (k := 1) (n := 6561) (Nat.le_of_ble_eq_true rfl) (Nat.le_of_ble_eq_true rfl) ?_
  refine va_putF (D := D.1) (ci := 0) (v := .ref a_5) (ty := .array .long) (C := RX0) (T := TX0) (N := 14) SS.1 SS.2.1 SS.2.2.2.2 inX0 tyX0 tyX0_ok nmX0 SS.2.2.2.1 hG.1 hP hD hS 0 rfl rfl 0 (by decide) (SS.2.2.2.2 _ kw_243) (fun _ h9 => h9) rfl hin rfl (by decide +kernel) rfl rfl (Nat.le_of_ble_eq_true rfl) dX0_init_10 (fun H locs hP hD hS => ?_)
  have hP : va_P D.1 j_cl [(h0, .inr (0, [.ref a_5, .null, .null, .null, .int 0, .int 0, .int 0, .int 0, .int 0, .int 0, .int 0, .int 0, .int 0, .int 0])), (a_5, .inl (D.2.2.1, 6561, .inr (.inl (fun _ => 0))))] H := hP
  have hD : va_D A [(h0, .inr (0, [.ref a_5, .null, .null, .null, .int 0, .int 0, .int 0, .int 0, .int 0, .int 0, .int 0, .int 0, .int 0, .int 0])), (a_5, .inl (D.2.2.1, 6561, .inr (.inl (fun _ => 0))))] := hD
  refine lv_aload_n SS.1 SS.2.1 dX0_init_13 rfl (lv_at hl 0 rfl) ?_
  refine j_sipush SS dX0_init_14 (by decide +kernel) ?_
  refine j_newL SS hG hP hD hS hA kw_287 6561 (by decide) rfl (Nat.le_of_ble_eq_true rfl) (Nat.le_of_ble_eq_true rfl) dX0_init_17 (fun a_9 H hP hD hS => ?_)
  have hP : va_P D.1 j_cl [(h0, .inr (0, [.ref a_5, .null, .null, .null, .int 0, .int 0, .int 0, .int 0, .int 0, .int 0, .int 0, .int 0, .int 0, .int 0])), (a_5, .inl (D.2.2.1, 6561, .inr (.inl (fun _ => 0)))), (a_9, .inl (D.2.2.1, 6561, .inr (.inl (fun _ => 0))))] H := hP
  have hD : va_D A [(h0, .inr (0, [.ref a_5, .null, .null, .null, .int 0, .int 0, .int 0, .int 0, .int 0, .int 0, .int 0, .int 0, .int 0, .int 0])), (a_5, .inl (D.2.2.1, 6561, .inr (.inl (fun _ => 0)))), (a_9, .inl (D.2.2.1, 6561, .inr (.inl (fun _ => 0))))] := hD
  refine W.widen (k := 2) (n := 13122) (Nat.le_of_ble_eq_true rfl) (Nat.le_of_ble_eq_true rfl) ?_
  refine va_putF (D := D.1) (ci := 0) (v := .ref a_9) (ty := .array .long) (C := RX0) (T := TX0) (N := 14) SS.1 SS.2.1 SS.2.2.2.2 inX0 tyX0 tyX0_ok nmX0 SS.2.2.2.1 hG.1 hP hD hS 0 rfl rfl 1 (by decide) (SS.2.2.2.2 _ kw_244) (fun _ h9 => h9) rfl hin rfl (by decide +kernel) rfl rfl (Nat.le_of_ble_eq_true rfl) dX0_init_19 (fun H locs hP hD hS => ?_)
  have hP : va_P D.1 j_cl [(h0, .inr (0, [.ref a_5, .ref a_9, .null, .null, .int 0, .int 0, .int 0, .int 0, .int 0, .int 0, .int 0, .int 0, .int 0, .int 0])), (a_5, .inl (D.2.2.1, 6561, .inr (.inl (fun _ => 0)))), (a_9, .inl (D.2.2.1, 6561, .inr (.inl (fun _ => 0))))] H := hP
  have hD : va_D A [(h0, .inr (0, [.ref a_5, .ref a_9, .null, .null, .int 0, .int 0, .int 0, .int 0, .int 0, .int 0, .int 0, .int 0, .int 0, .int 0])), (a_5, .inl (D.2.2.1, 6561, .inr (.inl (fun _ => 0)))), (a_9, .inl (D.2.2.1, 6561, .inr (.inl (fun _ => 0))))] := hD
  refine lv_aload_n SS.1 SS.2.1 dX0_init_22 rfl (lv_at hl 0 rfl) ?_
  refine j_ldc SS (164025) kw_242 dX0_init_23 ?_
  refine j_newI SS hG hP hD hS hA kw_149 164025 (by decide) rfl (Nat.le_of_ble_eq_true rfl) (Nat.le_of_ble_eq_true rfl) dX0_init_25 (fun a_13 H hP hD hS => ?_)
  have hP : va_P D.1 j_cl [(h0, .inr (0, [.ref a_5, .ref a_9, .null, .null, .int 0, .int 0, .int 0, .int 0, .int 0, .int 0, .int 0, .int 0, .int 0, .int 0])), (a_5, .inl (D.2.2.1, 6561, .inr (.inl (fun _ => 0)))), (a_9, .inl (D.2.2.1, 6561, .inr (.inl (fun _ => 0)))), (a_13, .inl (D.2.1, 164025, .inl (fun _ => J 0)))] H := hP
  have hD : va_D A [(h0, .inr (0, [.ref a_5, .ref a_9, .null, .null, .int 0, .int 0, .int 0, .int 0, .int 0, .int 0, .int 0, .int 0, .int 0, .int 0])), (a_5, .inl (D.2.2.1, 6561, .inr (.inl (fun _ => 0)))), (a_9, .inl (D.2.2.1, 6561, .inr (.inl (fun _ => 0)))), (a_13, .inl (D.2.1, 164025, .inl (fun _ => J 0)))] := hD
  refine W.widen (k := 3) (n := 177147) (Nat.le_of_ble_eq_true rfl) (Nat.le_of_ble_eq_true rfl) ?_
  refine va_putF (D := D.1) (ci := 0) (v := .ref a_13) (ty := .array .int) (C := RX0) (T := TX0) (N := 14) SS.1 SS.2.1 SS.2.2.2.2 inX0 tyX0 tyX0_ok nmX0 SS.2.2.2.1 hG.1 hP hD hS 0 rfl rfl 2 (by decide) (SS.2.2.2.2 _ kw_245) (fun _ h9 => h9) rfl hin rfl (by decide +kernel) rfl rfl (Nat.le_of_ble_eq_true rfl) dX0_init_27 (fun H locs hP hD hS => ?_)
  have hP : va_P D.1 j_cl [(h0, .inr (0, [.ref a_5, .ref a_9, .ref a_13, .null, .int 0, .int 0, .int 0, .int 0, .int 0, .int 0, .int 0, .int 0, .int 0, .int 0])), (a_5, .inl (D.2.2.1, 6561, .inr (.inl (fun _ => 0)))), (a_9, .inl (D.2.2.1, 6561, .inr (.inl (fun _ => 0)))), (a_13, .inl (D.2.1, 164025, .inl (fun _ => J 0)))] H := hP
  have hD : va_D A [(h0, .inr (0, [.ref a_5, .ref a_9, .ref a_13, .null, .int 0, .int 0, .int 0, .int 0, .int 0, .int 0, .int 0, .int 0, .int 0, .int 0])), (a_5, .inl (D.2.2.1, 6561, .inr (.inl (fun _ => 0)))), (a_9, .inl (D.2.2.1, 6561, .inr (.inl (fun _ => 0)))), (a_13, .inl (D.2.1, 164025, .inl (fun _ => J 0)))] := hD
  refine lv_aload_n SS.1 SS.2.1 dX0_init_30 rfl (lv_at hl 0 rfl) ?_
  refine j_bipush SS dX0_init_31 (by decide +kernel) ?_
  refine j_newI SS hG hP hD hS hA kw_149 24 (by decide) rfl (Nat.le_of_ble_eq_true rfl) (Nat.le_of_ble_eq_true rfl) dX0_init_33 (fun a_17 H hP hD hS => ?_)
  have hP : va_P D.1 j_cl [(h0, .inr (0, [.ref a_5, .ref a_9, .ref a_13, .null, .int 0, .int 0, .int 0, .int 0, .int 0, .int 0, .int 0, .int 0, .int 0, .int 0])), (a_5, .inl (D.2.2.1, 6561, .inr (.inl (fun _ => 0)))), (a_9, .inl (D.2.2.1, 6561, .inr (.inl (fun _ => 0)))), (a_13, .inl (D.2.1, 164025, .inl (fun _ => J 0))), (a_17, .inl (D.2.1, 24, .inl (fun _ => J 0)))] H := hP
  have hD : va_D A [(h0, .inr (0, [.ref a_5, .ref a_9, .ref a_13, .null, .int 0, .int 0, .int 0, .int 0, .int 0, .int 0, .int 0, .int 0, .int 0, .int 0])), (a_5, .inl (D.2.2.1, 6561, .inr (.inl (fun _ => 0)))), (a_9, .inl (D.2.2.1, 6561, .inr (.inl (fun _ => 0)))), (a_13, .inl (D.2.1, 164025, .inl (fun _ => J 0))), (a_17, .inl (D.2.1, 24, .inl (fun _ => J 0)))] := hD
  refine W.widen (k := 4) (n := 177171) (Nat.le_of_ble_eq_true rfl) (Nat.le_of_ble_eq_true rfl) ?_
  refine va_putF (D := D.1) (ci := 0) (v := .ref a_17) (ty := .array .int) (C := RX0) (T := TX0) (N := 14) SS.1 SS.2.1 SS.2.2.2.2 inX0 tyX0 tyX0_ok nmX0 SS.2.2.2.1 hG.1 hP hD hS 0 rfl rfl 3 (by decide) (SS.2.2.2.2 _ kw_246) (fun _ h9 => h9) rfl hin rfl (by decide +kernel) rfl rfl (Nat.le_of_ble_eq_true rfl) dX0_init_35 (fun H locs hP hD hS => ?_)
  have hP : va_P D.1 j_cl [(h0, .inr (0, [.ref a_5, .ref a_9, .ref a_13, .ref a_17, .int 0, .int 0, .int 0, .int 0, .int 0, .int 0, .int 0, .int 0, .int 0, .int 0])), (a_5, .inl (D.2.2.1, 6561, .inr (.inl (fun _ => 0)))), (a_9, .inl (D.2.2.1, 6561, .inr (.inl (fun _ => 0)))), (a_13, .inl (D.2.1, 164025, .inl (fun _ => J 0))), (a_17, .inl (D.2.1, 24, .inl (fun _ => J 0)))] H := hP
  have hD : va_D A [(h0, .inr (0, [.ref a_5, .ref a_9, .ref a_13, .ref a_17, .int 0, .int 0, .int 0, .int 0, .int 0, .int 0, .int 0, .int 0, .int 0, .int 0])), (a_5, .inl (D.2.2.1, 6561, .inr (.inl (fun _ => 0)))), (a_9, .inl (D.2.2.1, 6561, .inr (.inl (fun _ => 0)))), (a_13, .inl (D.2.1, 164025, .inl (fun _ => J 0))), (a_17, .inl (D.2.1, 24, .inl (fun _ => J 0)))] := hD
  refine lv_aload_n SS.1 SS.2.1 dX0_init_38 rfl (lv_at hl 0 rfl) ?_
  refine j_iconst SS dX0_init_39 ?_
  refine va_put (D := D.1) (ci := 0) (v := .int (J (-1))) (ty := .int) (C := RX0) (T := TX0) (N := 14) SS.1 SS.2.1 SS.2.2.2.2 inX0 tyX0 tyX0_ok nmX0 SS.2.2.2.1 hG.1 hP hD hS 0 rfl rfl 6 (by decide) (SS.2.2.2.2 _ kw_250) (fun _ h9 => h9) rfl (by decide +kernel) rfl rfl (Nat.le_of_ble_eq_true rfl) dX0_init_40 (fun H locs hP hD hS => ?_)
  have hP : va_P D.1 j_cl [(h0, .inr (0, [.ref a_5, .ref a_9, .ref a_13, .ref a_17, .int 0, .int 0, .int (J (-1)), .int 0, .int 0, .int 0, .int 0, .int 0, .int 0, .int 0])), (a_5, .inl (D.2.2.1, 6561, .inr (.inl (fun _ => 0)))), (a_9, .inl (D.2.2.1, 6561, .inr (.inl (fun _ => 0)))), (a_13, .inl (D.2.1, 164025, .inl (fun _ => J 0))), (a_17, .inl (D.2.1, 24, .inl (fun _ => J 0)))] H := hP
  have hD : va_D A [(h0, .inr (0, [.ref a_5, .ref a_9, .ref a_13, .ref a_17, .int 0, .int 0, .int (J (-1)), .int 0, .int 0, .int 0, .int 0, .int 0, .int 0, .int 0])), (a_5, .inl (D.2.2.1, 6561, .inr (.inl (fun _ => 0)))), (a_9, .inl (D.2.2.1, 6561, .inr (.inl (fun _ => 0)))), (a_13, .inl (D.2.1, 164025, .inl (fun _ => J 0))), (a_17, .inl (D.2.1, 24, .inl (fun _ => J 0)))] := hD
  exact W.vret SS.1 SS.2.1 hr (fun t ht hW => ⟨⟨(fun k => ([a_5, a_9, a_13, a_17] : List Nat).getD k 0), rfl, trivial, by rw [ht]; exact hP, hD⟩, hS.F ht⟩) hS.2.2 dX0_init_43 hlk

def w_X5_init (D : JD) (h0 : Nat) (u : Nat → Nat) : va_W := [(h0, .inr (5, [.ref (u 0), .ref (u 3), .ref (u 4), .ref (u 5), .ref (u 6), .int 0, .ref (u 7), .ref (u 8), .int 0])), ((u 0), .inr (6, [.ref (u 1), .ref (u 2), .int 0])), ((u 1), .inl (D.2.1, 12, .inl (fun _ => J 0))), ((u 2), .inl (D.2.1, 12, .inl (fun _ => J 0))), ((u 3), .inl (D.2.1, 63, .inl (fun _ => J 0))), ((u 4), .inl (D.2.1, 63, .inl (fun _ => J 0))), ((u 5), .inl (D.2.2.1, 63, .inr (.inl (fun _ => 0)))), ((u 6), .inl (D.2.1, 144, .inl (fun _ => J 0))), ((u 7), .inl (D.2.2.1, 756, .inr (.inl (fun _ => 0)))), ((u 8), .inl (D.2.2.1, 756, .inr (.inl (fun _ => 0))))]
set_option maxHeartbeats 4000000 in
set_option maxRecDepth 100000 in
theorem c_X5_init (l : Launch) (D : JD) (h0 sz : Nat) : Met l yX5_init (jw yX5_init cX5_init 1 none) (jrc 3 54 9 1872) (jPN [.ref h0] D (fun H => H.size = sz ∧ va_P D.1 j_cl [(h0, .inr (5, [.null, .null, .null, .null, .null, .int 0, .null, .null, .int 0]))] H)) (jWv (fun _ : Nat → Nat => True) (fun u H => va_P D.1 j_cl (w_X5_init D h0 u) H ∧ va_D (va_A [(h0, .inr (5, [.null, .null, .null, .null, .null, .int 0, .null, .null, .int 0]))] sz) (w_X5_init D h0 u)) (va_A [(h0, .inr (5, [.null, .null, .null, .null, .null, .int 0, .null, .null, .int 0]))] sz)) 9 1872 (va_A [(h0, .inr (5, [.null, .null, .null, .null, .null, .int 0, .null, .null, .int 0]))] sz) := by
  refine Met.ofW (cc := cX5_init) (maxL := 1) (ret := none) (by decide) rfl ?_
  intro pr en st mi args below meth co s₁ B hml hv
  obtain ⟨rfl, ⟨hG, hN⟩, hsz, hP⟩ := hv
  have hr := B.returns
  have hlk := B.notSynchronized
  have hin : meth.name = "<init>" := (name_of_methodNamed B.named B.method).1
  have SS : jS pr mi co cX5_init 1 st _ RX5 := ⟨B.exec, B.bytes, hml, findClass_of_methodNamed B.named, fun w hw => atoms_spec (ws := (jw yX5_init cX5_init 1 none)) B.pre w (List.mem_cons_of_mem _ hw)⟩
  subst hsz
  have hD : va_D (va_A [(h0, .inr (5, [.null, .null, .null, .null, .null, .int 0, .null, .null, .int 0]))] st.heap.size) [(h0, .inr (5, [.null, .null, .null, .null, .null, .int 0, .null, .null, .int 0]))] := va_D1
  generalize hAe : va_A [(h0, .inr (5, [.null, .null, .null, .null, .null, .int 0, .null, .null, .int 0]))] st.heap.size = A at hD ⊢
  have hA : ∀ q : Nat, st.heap.size ≤ q → A q := fun q h => by rw [← hAe]; exact Or.inr h
  have hS : va_S A st.heap st.heap [] := va_S.rf
  have hl := lv_entry ([.ref h0]) (n := 1) (Nat.le_of_ble_eq_true rfl)
  rw [lg_entry_eq]
  generalize (lg_sl ([.ref h0]) ++ List.replicate (1 - (lg_sl ([.ref h0])).length) Slot.unset).toArray = ls at hl ⊢
  have hl : lv_has ls 1 [(0, .ref h0)] := hl
  obtain ⟨H, eH⟩ : ∃ H, H = st.heap := ⟨_, rfl⟩
  rw [← eH] at hP
  have hS : va_S A st.heap H [] := eH ▸ va_S.rf
  rw [← eH]
  refine lv_aload_n SS.1 SS.2.1 dX5_init_0 rfl (lv_at hl 0 rfl) ?_
  refine W.objInit SS.1 SS.2.1 SS.2.2.2.1 (SS.2.2.2.2 _ kw_299) (SS.2.2.2.2 _ kw_111) (SS.2.2.2.2 _ kw_112) rfl (by rw [SS.2.2.1]; exact hl.1) rfl dX5_init_1 (Nat.le_of_ble_eq_true rfl) (Nat.le_of_ble_eq_true rfl) ?_
  refine W.eq (g2 := F0 mi 4 ls []) rfl ?_
  refine lv_aload_n SS.1 SS.2.1 dX5_init_4 rfl (lv_at hl 0 rfl) ?_
  refine va_new (ci := 6) (fs := [.null, .null, .int 0]) (C := RX6) (T := TX6) (N := 3) SS.1 SS.2.1 SS.2.2.2.2 inX6 tyX6 tyX6_ok SS.2.2.2.1 (SS.2.2.2.2 _ kw_300) (SS.2.2.2.2 _ kw_301) (SS.2.2.2.2 _ kw_98) hG.1 hP hD hS hA rfl (fun j hj => by rcases (show j = 0 ∨ j = 1 ∨ j = 2 by omega) with rfl | rfl | rfl <;> rfl) (Nat.le_of_ble_eq_true rfl) (Nat.le_of_ble_eq_true rfl) dX5_init_5 (fun a_4 H hP hD hS => ?_)
  have hP : va_P D.1 j_cl ([(h0, .inr (5, [.null, .null, .null, .null, .null, .int 0, .null, .null, .int 0]))] ++ [(a_4, .inr (6, [.null, .null, .int 0]))]) H := hP
  have hD : va_D A ([(h0, .inr (5, [.null, .null, .null, .null, .null, .int 0, .null, .null, .int 0]))] ++ [(a_4, .inr (6, [.null, .null, .int 0]))]) := hD
  refine W.widen (k := 1) (n := 3) (Nat.le_of_ble_eq_true rfl) (Nat.le_of_ble_eq_true rfl) ?_
  refine lv_dup SS.1 SS.2.1 dX5_init_8 rfl ?_
  refine j_bipush SS dX5_init_9 (by decide +kernel) ?_
  have hF := j_free (x := (a_4, .inr (6, [.null, .null, .int 0]))) hD hS hA
  refine j_iS SS (As := [.int (J 12)]) (rest := [.ref a_4, .ref h0]) (c_X6_init_12 l D a_4 H.size) mi_X6_init kw_302 hG hN ⟨rfl, j_lastP hP⟩ hS hF rfl hl.1 ⟨⟨Nat.le_of_ble_eq_true rfl, Nat.le_of_ble_eq_true rfl⟩, Nat.le_of_ble_eq_true rfl, Nat.le_of_ble_eq_true rfl, Nat.le_of_ble_eq_true rfl⟩ rfl dX5_init_11 (fun u_7 H1 locs hB hFr hS => ?_)
  obtain ⟨hP, hD⟩ := j_join hP hD hFr.2 hF hB.1 hB.2
  generalize H1 = H at hP hS ⊢
  have hP : va_P D.1 j_cl [(h0, .inr (5, [.null, .null, .null, .null, .null, .int 0, .null, .null, .int 0])), (a_4, .inr (6, [.ref (u_7 0), .ref (u_7 1), .int 0])), ((u_7 0), .inl (D.2.1, 12, .inl (fun _ => J 0))), ((u_7 1), .inl (D.2.1, 12, .inl (fun _ => J 0)))] H := hP
  have hD : va_D A [(h0, .inr (5, [.null, .null, .null, .null, .null, .int 0, .null, .null, .int 0])), (a_4, .inr (6, [.ref (u_7 0), .ref (u_7 1), .int 0])), ((u_7 0), .inl (D.2.1, 12, .inl (fun _ => J 0))), ((u_7 1), .inl (D.2.1, 12, .inl (fun _ => J 0)))] := hD
  refine W.widen (k := 3) (n := 27) (Nat.le_of_ble_eq_true rfl) (Nat.le_of_ble_eq_true rfl) ?_
  refine va_putF (D := D.1) (ci := 5) (v := .ref a_4) (ty := .object "GridPolygons$Points") (C := RX5) (T := TX5) (N := 9) SS.1 SS.2.1 SS.2.2.2.2 inX5 tyX5 tyX5_ok nmX5 SS.2.2.2.1 hG.1 hP hD hS 0 rfl rfl 0 (by decide) (SS.2.2.2.2 _ kw_310) (fun _ h9 => h9) rfl hin rfl (by decide +kernel) rfl rfl (Nat.le_of_ble_eq_true rfl) dX5_init_14 (fun H locs hP hD hS => ?_)
  have hP : va_P D.1 j_cl [(h0, .inr (5, [.ref a_4, .null, .null, .null, .null, .int 0, .null, .null, .int 0])), (a_4, .inr (6, [.ref (u_7 0), .ref (u_7 1), .int 0])), ((u_7 0), .inl (D.2.1, 12, .inl (fun _ => J 0))), ((u_7 1), .inl (D.2.1, 12, .inl (fun _ => J 0)))] H := hP
  have hD : va_D A [(h0, .inr (5, [.ref a_4, .null, .null, .null, .null, .int 0, .null, .null, .int 0])), (a_4, .inr (6, [.ref (u_7 0), .ref (u_7 1), .int 0])), ((u_7 0), .inl (D.2.1, 12, .inl (fun _ => J 0))), ((u_7 1), .inl (D.2.1, 12, .inl (fun _ => J 0)))] := hD
  refine lv_aload_n SS.1 SS.2.1 dX5_init_17 rfl (lv_at hl 0 rfl) ?_
  refine j_bipush SS dX5_init_18 (by decide +kernel) ?_
  refine j_newI SS hG hP hD hS hA kw_149 63 (by decide) rfl (Nat.le_of_ble_eq_true rfl) (Nat.le_of_ble_eq_true rfl) dX5_init_20 (fun a_11 H hP hD hS => ?_)
  have hP : va_P D.1 j_cl [(h0, .inr (5, [.ref a_4, .null, .null, .null, .null, .int 0, .null, .null, .int 0])), (a_4, .inr (6, [.ref (u_7 0), .ref (u_7 1), .int 0])), ((u_7 0), .inl (D.2.1, 12, .inl (fun _ => J 0))), ((u_7 1), .inl (D.2.1, 12, .inl (fun _ => J 0))), (a_11, .inl (D.2.1, 63, .inl (fun _ => J 0)))] H := hP
  have hD : va_D A [(h0, .inr (5, [.ref a_4, .null, .null, .null, .null, .int 0, .null, .null, .int 0])), (a_4, .inr (6, [.ref (u_7 0), .ref (u_7 1), .int 0])), ((u_7 0), .inl (D.2.1, 12, .inl (fun _ => J 0))), ((u_7 1), .inl (D.2.1, 12, .inl (fun _ => J 0))), (a_11, .inl (D.2.1, 63, .inl (fun _ => J 0)))] := hD
  refine W.widen (k := 4) (n := 90) (Nat.le_of_ble_eq_true rfl) (Nat.le_of_ble_eq_true rfl) ?_
  refine va_putF (D := D.1) (ci := 5) (v := .ref a_11) (ty := .array .int) (C := RX5) (T := TX5) (N := 9) SS.1 SS.2.1 SS.2.2.2.2 inX5 tyX5 tyX5_ok nmX5 SS.2.2.2.1 hG.1 hP hD hS 0 rfl rfl 1 (by decide) (SS.2.2.2.2 _ kw_311) (fun _ h9 => h9) rfl hin rfl (by decide +kernel) rfl rfl (Nat.le_of_ble_eq_true rfl) dX5_init_22 (fun H locs hP hD hS => ?_)
  have hP : va_P D.1 j_cl [(h0, .inr (5, [.ref a_4, .ref a_11, .null, .null, .null, .int 0, .null, .null, .int 0])), (a_4, .inr (6, [.ref (u_7 0), .ref (u_7 1), .int 0])), ((u_7 0), .inl (D.2.1, 12, .inl (fun _ => J 0))), ((u_7 1), .inl (D.2.1, 12, .inl (fun _ => J 0))), (a_11, .inl (D.2.1, 63, .inl (fun _ => J 0)))] H := hP
  have hD : va_D A [(h0, .inr (5, [.ref a_4, .ref a_11, .null, .null, .null, .int 0, .null, .null, .int 0])), (a_4, .inr (6, [.ref (u_7 0), .ref (u_7 1), .int 0])), ((u_7 0), .inl (D.2.1, 12, .inl (fun _ => J 0))), ((u_7 1), .inl (D.2.1, 12, .inl (fun _ => J 0))), (a_11, .inl (D.2.1, 63, .inl (fun _ => J 0)))] := hD
  refine lv_aload_n SS.1 SS.2.1 dX5_init_25 rfl (lv_at hl 0 rfl) ?_
  refine j_bipush SS dX5_init_26 (by decide +kernel) ?_
  refine j_newI SS hG hP hD hS hA kw_149 63 (by decide) rfl (Nat.le_of_ble_eq_true rfl) (Nat.le_of_ble_eq_true rfl) dX5_init_28 (fun a_15 H hP hD hS => ?_)
  have hP : va_P D.1 j_cl [(h0, .inr (5, [.ref a_4, .ref a_11, .null, .null, .null, .int 0, .null, .null, .int 0])), (a_4, .inr (6, [.ref (u_7 0), .ref (u_7 1), .int 0])), ((u_7 0), .inl (D.2.1, 12, .inl (fun _ => J 0))), ((u_7 1), .inl (D.2.1, 12, .inl (fun _ => J 0))), (a_11, .inl (D.2.1, 63, .inl (fun _ => J 0))), (a_15, .inl (D.2.1, 63, .inl (fun _ => J 0)))] H := hP
  have hD : va_D A [(h0, .inr (5, [.ref a_4, .ref a_11, .null, .null, .null, .int 0, .null, .null, .int 0])), (a_4, .inr (6, [.ref (u_7 0), .ref (u_7 1), .int 0])), ((u_7 0), .inl (D.2.1, 12, .inl (fun _ => J 0))), ((u_7 1), .inl (D.2.1, 12, .inl (fun _ => J 0))), (a_11, .inl (D.2.1, 63, .inl (fun _ => J 0))), (a_15, .inl (D.2.1, 63, .inl (fun _ => J 0)))] := hD
  refine W.widen (k := 5) (n := 153) (Nat.le_of_ble_eq_true rfl) (Nat.le_of_ble_eq_true rfl) ?_
  refine va_putF (D := D.1) (ci := 5) (v := .ref a_15) (ty := .array .int) (C := RX5) (T := TX5) (N := 9) SS.1 SS.2.1 SS.2.2.2.2 inX5 tyX5 tyX5_ok nmX5 SS.2.2.2.1 hG.1 hP hD hS 0 rfl rfl 2 (by decide) (SS.2.2.2.2 _ kw_312) (fun _ h9 => h9) rfl hin rfl (by decide +kernel) rfl rfl (Nat.le_of_ble_eq_true rfl) dX5_init_30 (fun H locs hP hD hS => ?_)
  have hP : va_P D.1 j_cl [(h0, .inr (5, [.ref a_4, .ref a_11, .ref a_15, .null, .null, .int 0, .null, .null, .int 0])), (a_4, .inr (6, [.ref (u_7 0), .ref (u_7 1), .int 0])), ((u_7 0), .inl (D.2.1, 12, .inl (fun _ => J 0))), ((u_7 1), .inl (D.2.1, 12, .inl (fun _ => J 0))), (a_11, .inl (D.2.1, 63, .inl (fun _ => J 0))), (a_15, .inl (D.2.1, 63, .inl (fun _ => J 0)))] H := hP
  have hD : va_D A [(h0, .inr (5, [.ref a_4, .ref a_11, .ref a_15, .null, .null, .int 0, .null, .null, .int 0])), (a_4, .inr (6, [.ref (u_7 0), .ref (u_7 1), .int 0])), ((u_7 0), .inl (D.2.1, 12, .inl (fun _ => J 0))), ((u_7 1), .inl (D.2.1, 12, .inl (fun _ => J 0))), (a_11, .inl (D.2.1, 63, .inl (fun _ => J 0))), (a_15, .inl (D.2.1, 63, .inl (fun _ => J 0)))] := hD
  refine lv_aload_n SS.1 SS.2.1 dX5_init_33 rfl (lv_at hl 0 rfl) ?_
  refine j_bipush SS dX5_init_34 (by decide +kernel) ?_
  refine j_newL SS hG hP hD hS hA kw_287 63 (by decide) rfl (Nat.le_of_ble_eq_true rfl) (Nat.le_of_ble_eq_true rfl) dX5_init_36 (fun a_19 H hP hD hS => ?_)
  have hP : va_P D.1 j_cl [(h0, .inr (5, [.ref a_4, .ref a_11, .ref a_15, .null, .null, .int 0, .null, .null, .int 0])), (a_4, .inr (6, [.ref (u_7 0), .ref (u_7 1), .int 0])), ((u_7 0), .inl (D.2.1, 12, .inl (fun _ => J 0))), ((u_7 1), .inl (D.2.1, 12, .inl (fun _ => J 0))), (a_11, .inl (D.2.1, 63, .inl (fun _ => J 0))), (a_15, .inl (D.2.1, 63, .inl (fun _ => J 0))), (a_19, .inl (D.2.2.1, 63, .inr (.inl (fun _ => 0))))] H := hP
  have hD : va_D A [(h0, .inr (5, [.ref a_4, .ref a_11, .ref a_15, .null, .null, .int 0, .null, .null, .int 0])), (a_4, .inr (6, [.ref (u_7 0), .ref (u_7 1), .int 0])), ((u_7 0), .inl (D.2.1, 12, .inl (fun _ => J 0))), ((u_7 1), .inl (D.2.1, 12, .inl (fun _ => J 0))), (a_11, .inl (D.2.1, 63, .inl (fun _ => J 0))), (a_15, .inl (D.2.1, 63, .inl (fun _ => J 0))), (a_19, .inl (D.2.2.1, 63, .inr (.inl (fun _ => 0))))] := hD
  refine W.widen (k := 6) (n := 216) (Nat.le_of_ble_eq_true rfl) (Nat.le_of_ble_eq_true rfl) ?_
  refine va_putF (D := D.1) (ci := 5) (v := .ref a_19) (ty := .array .long) (C := RX5) (T := TX5) (N := 9) SS.1 SS.2.1 SS.2.2.2.2 inX5 tyX5 tyX5_ok nmX5 SS.2.2.2.1 hG.1 hP hD hS 0 rfl rfl 3 (by decide) (SS.2.2.2.2 _ kw_313) (fun _ h9 => h9) rfl hin rfl (by decide +kernel) rfl rfl (Nat.le_of_ble_eq_true rfl) dX5_init_38 (fun H locs hP hD hS => ?_)
  have hP : va_P D.1 j_cl [(h0, .inr (5, [.ref a_4, .ref a_11, .ref a_15, .ref a_19, .null, .int 0, .null, .null, .int 0])), (a_4, .inr (6, [.ref (u_7 0), .ref (u_7 1), .int 0])), ((u_7 0), .inl (D.2.1, 12, .inl (fun _ => J 0))), ((u_7 1), .inl (D.2.1, 12, .inl (fun _ => J 0))), (a_11, .inl (D.2.1, 63, .inl (fun _ => J 0))), (a_15, .inl (D.2.1, 63, .inl (fun _ => J 0))), (a_19, .inl (D.2.2.1, 63, .inr (.inl (fun _ => 0))))] H := hP
  have hD : va_D A [(h0, .inr (5, [.ref a_4, .ref a_11, .ref a_15, .ref a_19, .null, .int 0, .null, .null, .int 0])), (a_4, .inr (6, [.ref (u_7 0), .ref (u_7 1), .int 0])), ((u_7 0), .inl (D.2.1, 12, .inl (fun _ => J 0))), ((u_7 1), .inl (D.2.1, 12, .inl (fun _ => J 0))), (a_11, .inl (D.2.1, 63, .inl (fun _ => J 0))), (a_15, .inl (D.2.1, 63, .inl (fun _ => J 0))), (a_19, .inl (D.2.2.1, 63, .inr (.inl (fun _ => 0))))] := hD
  refine lv_aload_n SS.1 SS.2.1 dX5_init_41 rfl (lv_at hl 0 rfl) ?_
  refine j_sipush SS dX5_init_42 (by decide +kernel) ?_
  refine j_newI SS hG hP hD hS hA kw_149 144 (by decide) rfl (Nat.le_of_ble_eq_true rfl) (Nat.le_of_ble_eq_true rfl) dX5_init_45 (fun a_23 H hP hD hS => ?_)
  have hP : va_P D.1 j_cl [(h0, .inr (5, [.ref a_4, .ref a_11, .ref a_15, .ref a_19, .null, .int 0, .null, .null, .int 0])), (a_4, .inr (6, [.ref (u_7 0), .ref (u_7 1), .int 0])), ((u_7 0), .inl (D.2.1, 12, .inl (fun _ => J 0))), ((u_7 1), .inl (D.2.1, 12, .inl (fun _ => J 0))), (a_11, .inl (D.2.1, 63, .inl (fun _ => J 0))), (a_15, .inl (D.2.1, 63, .inl (fun _ => J 0))), (a_19, .inl (D.2.2.1, 63, .inr (.inl (fun _ => 0)))), (a_23, .inl (D.2.1, 144, .inl (fun _ => J 0)))] H := hP
  have hD : va_D A [(h0, .inr (5, [.ref a_4, .ref a_11, .ref a_15, .ref a_19, .null, .int 0, .null, .null, .int 0])), (a_4, .inr (6, [.ref (u_7 0), .ref (u_7 1), .int 0])), ((u_7 0), .inl (D.2.1, 12, .inl (fun _ => J 0))), ((u_7 1), .inl (D.2.1, 12, .inl (fun _ => J 0))), (a_11, .inl (D.2.1, 63, .inl (fun _ => J 0))), (a_15, .inl (D.2.1, 63, .inl (fun _ => J 0))), (a_19, .inl (D.2.2.1, 63, .inr (.inl (fun _ => 0)))), (a_23, .inl (D.2.1, 144, .inl (fun _ => J 0)))] := hD
  refine W.widen (k := 7) (n := 360) (Nat.le_of_ble_eq_true rfl) (Nat.le_of_ble_eq_true rfl) ?_
  refine va_putF (D := D.1) (ci := 5) (v := .ref a_23) (ty := .array .int) (C := RX5) (T := TX5) (N := 9) SS.1 SS.2.1 SS.2.2.2.2 inX5 tyX5 tyX5_ok nmX5 SS.2.2.2.1 hG.1 hP hD hS 0 rfl rfl 4 (by decide) (SS.2.2.2.2 _ kw_314) (fun _ h9 => h9) rfl hin rfl (by decide +kernel) rfl rfl (Nat.le_of_ble_eq_true rfl) dX5_init_47 (fun H locs hP hD hS => ?_)
  have hP : va_P D.1 j_cl [(h0, .inr (5, [.ref a_4, .ref a_11, .ref a_15, .ref a_19, .ref a_23, .int 0, .null, .null, .int 0])), (a_4, .inr (6, [.ref (u_7 0), .ref (u_7 1), .int 0])), ((u_7 0), .inl (D.2.1, 12, .inl (fun _ => J 0))), ((u_7 1), .inl (D.2.1, 12, .inl (fun _ => J 0))), (a_11, .inl (D.2.1, 63, .inl (fun _ => J 0))), (a_15, .inl (D.2.1, 63, .inl (fun _ => J 0))), (a_19, .inl (D.2.2.1, 63, .inr (.inl (fun _ => 0)))), (a_23, .inl (D.2.1, 144, .inl (fun _ => J 0)))] H := hP
  have hD : va_D A [(h0, .inr (5, [.ref a_4, .ref a_11, .ref a_15, .ref a_19, .ref a_23, .int 0, .null, .null, .int 0])), (a_4, .inr (6, [.ref (u_7 0), .ref (u_7 1), .int 0])), ((u_7 0), .inl (D.2.1, 12, .inl (fun _ => J 0))), ((u_7 1), .inl (D.2.1, 12, .inl (fun _ => J 0))), (a_11, .inl (D.2.1, 63, .inl (fun _ => J 0))), (a_15, .inl (D.2.1, 63, .inl (fun _ => J 0))), (a_19, .inl (D.2.2.1, 63, .inr (.inl (fun _ => 0)))), (a_23, .inl (D.2.1, 144, .inl (fun _ => J 0)))] := hD
  refine lv_aload_n SS.1 SS.2.1 dX5_init_50 rfl (lv_at hl 0 rfl) ?_
  refine j_sipush SS dX5_init_51 (by decide +kernel) ?_
  refine j_newL SS hG hP hD hS hA kw_287 756 (by decide) rfl (Nat.le_of_ble_eq_true rfl) (Nat.le_of_ble_eq_true rfl) dX5_init_54 (fun a_27 H hP hD hS => ?_)
  have hP : va_P D.1 j_cl [(h0, .inr (5, [.ref a_4, .ref a_11, .ref a_15, .ref a_19, .ref a_23, .int 0, .null, .null, .int 0])), (a_4, .inr (6, [.ref (u_7 0), .ref (u_7 1), .int 0])), ((u_7 0), .inl (D.2.1, 12, .inl (fun _ => J 0))), ((u_7 1), .inl (D.2.1, 12, .inl (fun _ => J 0))), (a_11, .inl (D.2.1, 63, .inl (fun _ => J 0))), (a_15, .inl (D.2.1, 63, .inl (fun _ => J 0))), (a_19, .inl (D.2.2.1, 63, .inr (.inl (fun _ => 0)))), (a_23, .inl (D.2.1, 144, .inl (fun _ => J 0))), (a_27, .inl (D.2.2.1, 756, .inr (.inl (fun _ => 0))))] H := hP
  have hD : va_D A [(h0, .inr (5, [.ref a_4, .ref a_11, .ref a_15, .ref a_19, .ref a_23, .int 0, .null, .null, .int 0])), (a_4, .inr (6, [.ref (u_7 0), .ref (u_7 1), .int 0])), ((u_7 0), .inl (D.2.1, 12, .inl (fun _ => J 0))), ((u_7 1), .inl (D.2.1, 12, .inl (fun _ => J 0))), (a_11, .inl (D.2.1, 63, .inl (fun _ => J 0))), (a_15, .inl (D.2.1, 63, .inl (fun _ => J 0))), (a_19, .inl (D.2.2.1, 63, .inr (.inl (fun _ => 0)))), (a_23, .inl (D.2.1, 144, .inl (fun _ => J 0))), (a_27, .inl (D.2.2.1, 756, .inr (.inl (fun _ => 0))))] := hD
  refine W.widen (k := 8) (n := 1116) (Nat.le_of_ble_eq_true rfl) (Nat.le_of_ble_eq_true rfl) ?_
  refine va_putF (D := D.1) (ci := 5) (v := .ref a_27) (ty := .array .long) (C := RX5) (T := TX5) (N := 9) SS.1 SS.2.1 SS.2.2.2.2 inX5 tyX5 tyX5_ok nmX5 SS.2.2.2.1 hG.1 hP hD hS 0 rfl rfl 6 (by decide) (SS.2.2.2.2 _ kw_317) (fun _ h9 => h9) rfl hin rfl (by decide +kernel) rfl rfl (Nat.le_of_ble_eq_true rfl) dX5_init_56 (fun H locs hP hD hS => ?_)
  have hP : va_P D.1 j_cl [(h0, .inr (5, [.ref a_4, .ref a_11, .ref a_15, .ref a_19, .ref a_23, .int 0, .ref a_27, .null, .int 0])), (a_4, .inr (6, [.ref (u_7 0), .ref (u_7 1), .int 0])), ((u_7 0), .inl (D.2.1, 12, .inl (fun _ => J 0))), ((u_7 1), .inl (D.2.1, 12, .inl (fun _ => J 0))), (a_11, .inl (D.2.1, 63, .inl (fun _ => J 0))), (a_15, .inl (D.2.1, 63, .inl (fun _ => J 0))), (a_19, .inl (D.2.2.1, 63, .inr (.inl (fun _ => 0)))), (a_23, .inl (D.2.1, 144, .inl (fun _ => J 0))), (a_27, .inl (D.2.2.1, 756, .inr (.inl (fun _ => 0))))] H := hP
  have hD : va_D A [(h0, .inr (5, [.ref a_4, .ref a_11, .ref a_15, .ref a_19, .ref a_23, .int 0, .ref a_27, .null, .int 0])), (a_4, .inr (6, [.ref (u_7 0), .ref (u_7 1), .int 0])), ((u_7 0), .inl (D.2.1, 12, .inl (fun _ => J 0))), ((u_7 1), .inl (D.2.1, 12, .inl (fun _ => J 0))), (a_11, .inl (D.2.1, 63, .inl (fun _ => J 0))), (a_15, .inl (D.2.1, 63, .inl (fun _ => J 0))), (a_19, .inl (D.2.2.1, 63, .inr (.inl (fun _ => 0)))), (a_23, .inl (D.2.1, 144, .inl (fun _ => J 0))), (a_27, .inl (D.2.2.1, 756, .inr (.inl (fun _ => 0))))] := hD
  refine lv_aload_n SS.1 SS.2.1 dX5_init_59 rfl (lv_at hl 0 rfl) ?_
  refine j_sipush SS dX5_init_60 (by decide +kernel) ?_
  refine j_newL SS hG hP hD hS hA kw_287 756 (by decide) rfl (Nat.le_of_ble_eq_true rfl) (Nat.le_of_ble_eq_true rfl) dX5_init_63 (fun a_31 H hP hD hS => ?_)
  have hP : va_P D.1 j_cl [(h0, .inr (5, [.ref a_4, .ref a_11, .ref a_15, .ref a_19, .ref a_23, .int 0, .ref a_27, .null, .int 0])), (a_4, .inr (6, [.ref (u_7 0), .ref (u_7 1), .int 0])), ((u_7 0), .inl (D.2.1, 12, .inl (fun _ => J 0))), ((u_7 1), .inl (D.2.1, 12, .inl (fun _ => J 0))), (a_11, .inl (D.2.1, 63, .inl (fun _ => J 0))), (a_15, .inl (D.2.1, 63, .inl (fun _ => J 0))), (a_19, .inl (D.2.2.1, 63, .inr (.inl (fun _ => 0)))), (a_23, .inl (D.2.1, 144, .inl (fun _ => J 0))), (a_27, .inl (D.2.2.1, 756, .inr (.inl (fun _ => 0)))), (a_31, .inl (D.2.2.1, 756, .inr (.inl (fun _ => 0))))] H := hP
  have hD : va_D A [(h0, .inr (5, [.ref a_4, .ref a_11, .ref a_15, .ref a_19, .ref a_23, .int 0, .ref a_27, .null, .int 0])), (a_4, .inr (6, [.ref (u_7 0), .ref (u_7 1), .int 0])), ((u_7 0), .inl (D.2.1, 12, .inl (fun _ => J 0))), ((u_7 1), .inl (D.2.1, 12, .inl (fun _ => J 0))), (a_11, .inl (D.2.1, 63, .inl (fun _ => J 0))), (a_15, .inl (D.2.1, 63, .inl (fun _ => J 0))), (a_19, .inl (D.2.2.1, 63, .inr (.inl (fun _ => 0)))), (a_23, .inl (D.2.1, 144, .inl (fun _ => J 0))), (a_27, .inl (D.2.2.1, 756, .inr (.inl (fun _ => 0)))), (a_31, .inl (D.2.2.1, 756, .inr (.inl (fun _ => 0))))] := hD
  refine W.widen (k := 9) (n := 1872) (Nat.le_of_ble_eq_true rfl) (Nat.le_of_ble_eq_true rfl) ?_
  refine va_putF (D := D.1) (ci := 5) (v := .ref a_31) (ty := .array .long) (C := RX5) (T := TX5) (N := 9) SS.1 SS.2.1 SS.2.2.2.2 inX5 tyX5 tyX5_ok nmX5 SS.2.2.2.1 hG.1 hP hD hS 0 rfl rfl 7 (by decide) (SS.2.2.2.2 _ kw_318) (fun _ h9 => h9) rfl hin rfl (by decide +kernel) rfl rfl (Nat.le_of_ble_eq_true rfl) dX5_init_65 (fun H locs hP hD hS => ?_)
  have hP : va_P D.1 j_cl [(h0, .inr (5, [.ref a_4, .ref a_11, .ref a_15, .ref a_19, .ref a_23, .int 0, .ref a_27, .ref a_31, .int 0])), (a_4, .inr (6, [.ref (u_7 0), .ref (u_7 1), .int 0])), ((u_7 0), .inl (D.2.1, 12, .inl (fun _ => J 0))), ((u_7 1), .inl (D.2.1, 12, .inl (fun _ => J 0))), (a_11, .inl (D.2.1, 63, .inl (fun _ => J 0))), (a_15, .inl (D.2.1, 63, .inl (fun _ => J 0))), (a_19, .inl (D.2.2.1, 63, .inr (.inl (fun _ => 0)))), (a_23, .inl (D.2.1, 144, .inl (fun _ => J 0))), (a_27, .inl (D.2.2.1, 756, .inr (.inl (fun _ => 0)))), (a_31, .inl (D.2.2.1, 756, .inr (.inl (fun _ => 0))))] H := hP
  have hD : va_D A [(h0, .inr (5, [.ref a_4, .ref a_11, .ref a_15, .ref a_19, .ref a_23, .int 0, .ref a_27, .ref a_31, .int 0])), (a_4, .inr (6, [.ref (u_7 0), .ref (u_7 1), .int 0])), ((u_7 0), .inl (D.2.1, 12, .inl (fun _ => J 0))), ((u_7 1), .inl (D.2.1, 12, .inl (fun _ => J 0))), (a_11, .inl (D.2.1, 63, .inl (fun _ => J 0))), (a_15, .inl (D.2.1, 63, .inl (fun _ => J 0))), (a_19, .inl (D.2.2.1, 63, .inr (.inl (fun _ => 0)))), (a_23, .inl (D.2.1, 144, .inl (fun _ => J 0))), (a_27, .inl (D.2.2.1, 756, .inr (.inl (fun _ => 0)))), (a_31, .inl (D.2.2.1, 756, .inr (.inl (fun _ => 0))))] := hD
  exact W.vret SS.1 SS.2.1 hr (fun t ht hW => ⟨⟨(fun k => ([a_4, (u_7 0), (u_7 1), a_11, a_15, a_19, a_23, a_27, a_31] : List Nat).getD k 0), rfl, trivial, by rw [ht]; exact hP, hD⟩, hS.F ht⟩) hS.2.2 dX5_init_68 hlk

def w_X2_init (D : JD) (h0 : Nat) (u : Nat → Nat) : va_W := [(h0, .inr (2, [.ref (u 0), .ref (u 10), .ref (u 11), .ref (u 12), .int 0, .int 0, .int (J (-1))])), ((u 0), .inr (5, [.ref (u 1), .ref (u 4), .ref (u 5), .ref (u 6), .ref (u 7), .int 0, .ref (u 8), .ref (u 9), .int 0])), ((u 1), .inr (6, [.ref (u 2), .ref (u 3), .int 0])), ((u 2), .inl (D.2.1, 12, .inl (fun _ => J 0))), ((u 3), .inl (D.2.1, 12, .inl (fun _ => J 0))), ((u 4), .inl (D.2.1, 63, .inl (fun _ => J 0))), ((u 5), .inl (D.2.1, 63, .inl (fun _ => J 0))), ((u 6), .inl (D.2.2.1, 63, .inr (.inl (fun _ => 0)))), ((u 7), .inl (D.2.1, 144, .inl (fun _ => J 0))), ((u 8), .inl (D.2.2.1, 756, .inr (.inl (fun _ => 0)))), ((u 9), .inl (D.2.2.1, 756, .inr (.inl (fun _ => 0)))), ((u 10), .inl (D.2.2.1, 1500, .inr (.inl (fun _ => 0)))), ((u 11), .inl (D.2.1, 1500, .inl (fun _ => J 0))), ((u 12), .inl (D.2.1, 4096, .inl (fun _ => J 0)))]
set_option maxHeartbeats 4000000 in
set_option maxRecDepth 100000 in
theorem c_X2_init (l : Launch) (D : JD) (h0 sz : Nat) : Met l yX2_init (jw yX2_init cX2_init 1 none) (jrc 4 74 13 8977) (jPN [.ref h0] D (fun H => H.size = sz ∧ va_P D.1 j_cl [(h0, .inr (2, [.null, .null, .null, .null, .int 0, .int 0, .int 0]))] H)) (jWv (fun _ : Nat → Nat => True) (fun u H => va_P D.1 j_cl (w_X2_init D h0 u) H ∧ va_D (va_A [(h0, .inr (2, [.null, .null, .null, .null, .int 0, .int 0, .int 0]))] sz) (w_X2_init D h0 u)) (va_A [(h0, .inr (2, [.null, .null, .null, .null, .int 0, .int 0, .int 0]))] sz)) 13 8977 (va_A [(h0, .inr (2, [.null, .null, .null, .null, .int 0, .int 0, .int 0]))] sz) := by
  refine Met.ofW (cc := cX2_init) (maxL := 1) (ret := none) (by decide) rfl ?_
  intro pr en st mi args below meth co s₁ B hml hv
  obtain ⟨rfl, ⟨hG, hN⟩, hsz, hP⟩ := hv
  have hr := B.returns
  have hlk := B.notSynchronized
  have hin : meth.name = "<init>" := (name_of_methodNamed B.named B.method).1
  have SS : jS pr mi co cX2_init 1 st _ RX2 := ⟨B.exec, B.bytes, hml, findClass_of_methodNamed B.named, fun w hw => atoms_spec (ws := (jw yX2_init cX2_init 1 none)) B.pre w (List.mem_cons_of_mem _ hw)⟩
  subst hsz
  have hD : va_D (va_A [(h0, .inr (2, [.null, .null, .null, .null, .int 0, .int 0, .int 0]))] st.heap.size) [(h0, .inr (2, [.null, .null, .null, .null, .int 0, .int 0, .int 0]))] := va_D1
  generalize hAe : va_A [(h0, .inr (2, [.null, .null, .null, .null, .int 0, .int 0, .int 0]))] st.heap.size = A at hD ⊢
  have hA : ∀ q : Nat, st.heap.size ≤ q → A q := fun q h => by rw [← hAe]; exact Or.inr h
  have hS : va_S A st.heap st.heap [] := va_S.rf
  have hl := lv_entry ([.ref h0]) (n := 1) (Nat.le_of_ble_eq_true rfl)
  rw [lg_entry_eq]
  generalize (lg_sl ([.ref h0]) ++ List.replicate (1 - (lg_sl ([.ref h0])).length) Slot.unset).toArray = ls at hl ⊢
  have hl : lv_has ls 1 [(0, .ref h0)] := hl
  obtain ⟨H, eH⟩ : ∃ H, H = st.heap := ⟨_, rfl⟩
  rw [← eH] at hP
  have hS : va_S A st.heap H [] := eH ▸ va_S.rf
  rw [← eH]
  refine lv_aload_n SS.1 SS.2.1 dX2_init_0 rfl (lv_at hl 0 rfl) ?_
  refine W.objInit SS.1 SS.2.1 SS.2.2.2.1 (SS.2.2.2.2 _ kw_293) (SS.2.2.2.2 _ kw_111) (SS.2.2.2.2 _ kw_112) rfl (by rw [SS.2.2.1]; exact hl.1) rfl dX2_init_1 (Nat.le_of_ble_eq_true rfl) (Nat.le_of_ble_eq_true rfl) ?_
  refine W.eq (g2 := F0 mi 4 ls []) rfl ?_
  refine lv_aload_n SS.1 SS.2.1 dX2_init_4 rfl (lv_at hl 0 rfl) ?_
  refine va_new (ci := 5) (fs := [.null, .null, .null, .null, .null, .int 0, .null, .null, .int 0]) (C := RX5) (T := TX5) (N := 9) SS.1 SS.2.1 SS.2.2.2.2 inX5 tyX5 tyX5_ok SS.2.2.2.1 (SS.2.2.2.2 _ kw_294) (SS.2.2.2.2 _ kw_295) (SS.2.2.2.2 _ kw_97) hG.1 hP hD hS hA rfl (fun j hj => by rcases (show j = 0 ∨ j = 1 ∨ j = 2 ∨ j = 3 ∨ j = 4 ∨ j = 5 ∨ j = 6 ∨ j = 7 ∨ j = 8 by omega) with rfl | rfl | rfl | rfl | rfl | rfl | rfl | rfl | rfl <;> rfl) (Nat.le_of_ble_eq_true rfl) (Nat.le_of_ble_eq_true rfl) dX2_init_5 (fun a_4 H hP hD hS => ?_)
  have hP : va_P D.1 j_cl ([(h0, .inr (2, [.null, .null, .null, .null, .int 0, .int 0, .int 0]))] ++ [(a_4, .inr (5, [.null, .null, .null, .null, .null, .int 0, .null, .null, .int 0]))]) H := hP
  have hD : va_D A ([(h0, .inr (2, [.null, .null, .null, .null, .int 0, .int 0, .int 0]))] ++ [(a_4, .inr (5, [.null, .null, .null, .null, .null, .int 0, .null, .null, .int 0]))]) := hD
  refine W.widen (k := 1) (n := 9) (Nat.le_of_ble_eq_true rfl) (Nat.le_of_ble_eq_true rfl) ?_
  refine lv_dup SS.1 SS.2.1 dX2_init_8 rfl ?_
  have hF := j_free (x := (a_4, .inr (5, [.null, .null, .null, .null, .null, .int 0, .null, .null, .int 0]))) hD hS hA
  refine j_iN SS (As := []) (rest := [.ref a_4, .ref h0]) (c_X5_init l D a_4 H.size) mi_X5_init hN.2.2.2.2.2.2.2.2 hG hN ⟨rfl, j_lastP hP⟩ hS hF rfl hl.1 ⟨⟨Nat.le_of_ble_eq_true rfl, Nat.le_of_ble_eq_true rfl⟩, Nat.le_of_ble_eq_true rfl, Nat.le_of_ble_eq_true rfl, Nat.le_of_ble_eq_true rfl⟩ rfl dX2_init_9 (fun u_6 H1 locs hB hFr hS => ?_)
  obtain ⟨hP, hD⟩ := j_join hP hD hFr.2 hF hB.1 hB.2
  generalize H1 = H at hP hS ⊢
  have hP : va_P D.1 j_cl [(h0, .inr (2, [.null, .null, .null, .null, .int 0, .int 0, .int 0])), (a_4, .inr (5, [.ref (u_6 0), .ref (u_6 3), .ref (u_6 4), .ref (u_6 5), .ref (u_6 6), .int 0, .ref (u_6 7), .ref (u_6 8), .int 0])), ((u_6 0), .inr (6, [.ref (u_6 1), .ref (u_6 2), .int 0])), ((u_6 1), .inl (D.2.1, 12, .inl (fun _ => J 0))), ((u_6 2), .inl (D.2.1, 12, .inl (fun _ => J 0))), ((u_6 3), .inl (D.2.1, 63, .inl (fun _ => J 0))), ((u_6 4), .inl (D.2.1, 63, .inl (fun _ => J 0))), ((u_6 5), .inl (D.2.2.1, 63, .inr (.inl (fun _ => 0)))), ((u_6 6), .inl (D.2.1, 144, .inl (fun _ => J 0))), ((u_6 7), .inl (D.2.2.1, 756, .inr (.inl (fun _ => 0)))), ((u_6 8), .inl (D.2.2.1, 756, .inr (.inl (fun _ => 0))))] H := hP
  have hD : va_D A [(h0, .inr (2, [.null, .null, .null, .null, .int 0, .int 0, .int 0])), (a_4, .inr (5, [.ref (u_6 0), .ref (u_6 3), .ref (u_6 4), .ref (u_6 5), .ref (u_6 6), .int 0, .ref (u_6 7), .ref (u_6 8), .int 0])), ((u_6 0), .inr (6, [.ref (u_6 1), .ref (u_6 2), .int 0])), ((u_6 1), .inl (D.2.1, 12, .inl (fun _ => J 0))), ((u_6 2), .inl (D.2.1, 12, .inl (fun _ => J 0))), ((u_6 3), .inl (D.2.1, 63, .inl (fun _ => J 0))), ((u_6 4), .inl (D.2.1, 63, .inl (fun _ => J 0))), ((u_6 5), .inl (D.2.2.1, 63, .inr (.inl (fun _ => 0)))), ((u_6 6), .inl (D.2.1, 144, .inl (fun _ => J 0))), ((u_6 7), .inl (D.2.2.1, 756, .inr (.inl (fun _ => 0)))), ((u_6 8), .inl (D.2.2.1, 756, .inr (.inl (fun _ => 0))))] := hD
  refine W.widen (k := 10) (n := 1881) (Nat.le_of_ble_eq_true rfl) (Nat.le_of_ble_eq_true rfl) ?_
  refine va_putF (D := D.1) (ci := 2) (v := .ref a_4) (ty := .object "GridPolygons$Mesh") (C := RX2) (T := TX2) (N := 7) SS.1 SS.2.1 SS.2.2.2.2 inX2 tyX2 tyX2_ok nmX2 SS.2.2.2.1 hG.1 hP hD hS 0 rfl rfl 0 (by decide) (SS.2.2.2.2 _ kw_340) (fun _ h9 => h9) rfl hin rfl (by decide +kernel) rfl rfl (Nat.le_of_ble_eq_true rfl) dX2_init_12 (fun H locs hP hD hS => ?_)
  have hP : va_P D.1 j_cl [(h0, .inr (2, [.ref a_4, .null, .null, .null, .int 0, .int 0, .int 0])), (a_4, .inr (5, [.ref (u_6 0), .ref (u_6 3), .ref (u_6 4), .ref (u_6 5), .ref (u_6 6), .int 0, .ref (u_6 7), .ref (u_6 8), .int 0])), ((u_6 0), .inr (6, [.ref (u_6 1), .ref (u_6 2), .int 0])), ((u_6 1), .inl (D.2.1, 12, .inl (fun _ => J 0))), ((u_6 2), .inl (D.2.1, 12, .inl (fun _ => J 0))), ((u_6 3), .inl (D.2.1, 63, .inl (fun _ => J 0))), ((u_6 4), .inl (D.2.1, 63, .inl (fun _ => J 0))), ((u_6 5), .inl (D.2.2.1, 63, .inr (.inl (fun _ => 0)))), ((u_6 6), .inl (D.2.1, 144, .inl (fun _ => J 0))), ((u_6 7), .inl (D.2.2.1, 756, .inr (.inl (fun _ => 0)))), ((u_6 8), .inl (D.2.2.1, 756, .inr (.inl (fun _ => 0))))] H := hP
  have hD : va_D A [(h0, .inr (2, [.ref a_4, .null, .null, .null, .int 0, .int 0, .int 0])), (a_4, .inr (5, [.ref (u_6 0), .ref (u_6 3), .ref (u_6 4), .ref (u_6 5), .ref (u_6 6), .int 0, .ref (u_6 7), .ref (u_6 8), .int 0])), ((u_6 0), .inr (6, [.ref (u_6 1), .ref (u_6 2), .int 0])), ((u_6 1), .inl (D.2.1, 12, .inl (fun _ => J 0))), ((u_6 2), .inl (D.2.1, 12, .inl (fun _ => J 0))), ((u_6 3), .inl (D.2.1, 63, .inl (fun _ => J 0))), ((u_6 4), .inl (D.2.1, 63, .inl (fun _ => J 0))), ((u_6 5), .inl (D.2.2.1, 63, .inr (.inl (fun _ => 0)))), ((u_6 6), .inl (D.2.1, 144, .inl (fun _ => J 0))), ((u_6 7), .inl (D.2.2.1, 756, .inr (.inl (fun _ => 0)))), ((u_6 8), .inl (D.2.2.1, 756, .inr (.inl (fun _ => 0))))] := hD
  refine lv_aload_n SS.1 SS.2.1 dX2_init_15 rfl (lv_at hl 0 rfl) ?_
  refine j_sipush SS dX2_init_16 (by decide +kernel) ?_
  refine j_newL SS hG hP hD hS hA kw_287 1500 (by decide) rfl (Nat.le_of_ble_eq_true rfl) (Nat.le_of_ble_eq_true rfl) dX2_init_19 (fun a_10 H hP hD hS => ?_)
  have hP : va_P D.1 j_cl [(h0, .inr (2, [.ref a_4, .null, .null, .null, .int 0, .int 0, .int 0])), (a_4, .inr (5, [.ref (u_6 0), .ref (u_6 3), .ref (u_6 4), .ref (u_6 5), .ref (u_6 6), .int 0, .ref (u_6 7), .ref (u_6 8), .int 0])), ((u_6 0), .inr (6, [.ref (u_6 1), .ref (u_6 2), .int 0])), ((u_6 1), .inl (D.2.1, 12, .inl (fun _ => J 0))), ((u_6 2), .inl (D.2.1, 12, .inl (fun _ => J 0))), ((u_6 3), .inl (D.2.1, 63, .inl (fun _ => J 0))), ((u_6 4), .inl (D.2.1, 63, .inl (fun _ => J 0))), ((u_6 5), .inl (D.2.2.1, 63, .inr (.inl (fun _ => 0)))), ((u_6 6), .inl (D.2.1, 144, .inl (fun _ => J 0))), ((u_6 7), .inl (D.2.2.1, 756, .inr (.inl (fun _ => 0)))), ((u_6 8), .inl (D.2.2.1, 756, .inr (.inl (fun _ => 0)))), (a_10, .inl (D.2.2.1, 1500, .inr (.inl (fun _ => 0))))] H := hP
  have hD : va_D A [(h0, .inr (2, [.ref a_4, .null, .null, .null, .int 0, .int 0, .int 0])), (a_4, .inr (5, [.ref (u_6 0), .ref (u_6 3), .ref (u_6 4), .ref (u_6 5), .ref (u_6 6), .int 0, .ref (u_6 7), .ref (u_6 8), .int 0])), ((u_6 0), .inr (6, [.ref (u_6 1), .ref (u_6 2), .int 0])), ((u_6 1), .inl (D.2.1, 12, .inl (fun _ => J 0))), ((u_6 2), .inl (D.2.1, 12, .inl (fun _ => J 0))), ((u_6 3), .inl (D.2.1, 63, .inl (fun _ => J 0))), ((u_6 4), .inl (D.2.1, 63, .inl (fun _ => J 0))), ((u_6 5), .inl (D.2.2.1, 63, .inr (.inl (fun _ => 0)))), ((u_6 6), .inl (D.2.1, 144, .inl (fun _ => J 0))), ((u_6 7), .inl (D.2.2.1, 756, .inr (.inl (fun _ => 0)))), ((u_6 8), .inl (D.2.2.1, 756, .inr (.inl (fun _ => 0)))), (a_10, .inl (D.2.2.1, 1500, .inr (.inl (fun _ => 0))))] := hD
  refine W.widen (k := 11) (n := 3381) (Nat.le_of_ble_eq_true rfl) (Nat.le_of_ble_eq_true rfl) ?_
  refine va_putF (D := D.1) (ci := 2) (v := .ref a_10) (ty := .array .long) (C := RX2) (T := TX2) (N := 7) SS.1 SS.2.1 SS.2.2.2.2 inX2 tyX2 tyX2_ok nmX2 SS.2.2.2.1 hG.1 hP hD hS 0 rfl rfl 1 (by decide) (SS.2.2.2.2 _ kw_341) (fun _ h9 => h9) rfl hin rfl (by decide +kernel) rfl rfl (Nat.le_of_ble_eq_true rfl) dX2_init_21 (fun H locs hP hD hS => ?_)
  have hP : va_P D.1 j_cl [(h0, .inr (2, [.ref a_4, .ref a_10, .null, .null, .int 0, .int 0, .int 0])), (a_4, .inr (5, [.ref (u_6 0), .ref (u_6 3), .ref (u_6 4), .ref (u_6 5), .ref (u_6 6), .int 0, .ref (u_6 7), .ref (u_6 8), .int 0])), ((u_6 0), .inr (6, [.ref (u_6 1), .ref (u_6 2), .int 0])), ((u_6 1), .inl (D.2.1, 12, .inl (fun _ => J 0))), ((u_6 2), .inl (D.2.1, 12, .inl (fun _ => J 0))), ((u_6 3), .inl (D.2.1, 63, .inl (fun _ => J 0))), ((u_6 4), .inl (D.2.1, 63, .inl (fun _ => J 0))), ((u_6 5), .inl (D.2.2.1, 63, .inr (.inl (fun _ => 0)))), ((u_6 6), .inl (D.2.1, 144, .inl (fun _ => J 0))), ((u_6 7), .inl (D.2.2.1, 756, .inr (.inl (fun _ => 0)))), ((u_6 8), .inl (D.2.2.1, 756, .inr (.inl (fun _ => 0)))), (a_10, .inl (D.2.2.1, 1500, .inr (.inl (fun _ => 0))))] H := hP
  have hD : va_D A [(h0, .inr (2, [.ref a_4, .ref a_10, .null, .null, .int 0, .int 0, .int 0])), (a_4, .inr (5, [.ref (u_6 0), .ref (u_6 3), .ref (u_6 4), .ref (u_6 5), .ref (u_6 6), .int 0, .ref (u_6 7), .ref (u_6 8), .int 0])), ((u_6 0), .inr (6, [.ref (u_6 1), .ref (u_6 2), .int 0])), ((u_6 1), .inl (D.2.1, 12, .inl (fun _ => J 0))), ((u_6 2), .inl (D.2.1, 12, .inl (fun _ => J 0))), ((u_6 3), .inl (D.2.1, 63, .inl (fun _ => J 0))), ((u_6 4), .inl (D.2.1, 63, .inl (fun _ => J 0))), ((u_6 5), .inl (D.2.2.1, 63, .inr (.inl (fun _ => 0)))), ((u_6 6), .inl (D.2.1, 144, .inl (fun _ => J 0))), ((u_6 7), .inl (D.2.2.1, 756, .inr (.inl (fun _ => 0)))), ((u_6 8), .inl (D.2.2.1, 756, .inr (.inl (fun _ => 0)))), (a_10, .inl (D.2.2.1, 1500, .inr (.inl (fun _ => 0))))] := hD
  refine lv_aload_n SS.1 SS.2.1 dX2_init_24 rfl (lv_at hl 0 rfl) ?_
  refine j_sipush SS dX2_init_25 (by decide +kernel) ?_
  refine j_newI SS hG hP hD hS hA kw_149 1500 (by decide) rfl (Nat.le_of_ble_eq_true rfl) (Nat.le_of_ble_eq_true rfl) dX2_init_28 (fun a_14 H hP hD hS => ?_)
  have hP : va_P D.1 j_cl [(h0, .inr (2, [.ref a_4, .ref a_10, .null, .null, .int 0, .int 0, .int 0])), (a_4, .inr (5, [.ref (u_6 0), .ref (u_6 3), .ref (u_6 4), .ref (u_6 5), .ref (u_6 6), .int 0, .ref (u_6 7), .ref (u_6 8), .int 0])), ((u_6 0), .inr (6, [.ref (u_6 1), .ref (u_6 2), .int 0])), ((u_6 1), .inl (D.2.1, 12, .inl (fun _ => J 0))), ((u_6 2), .inl (D.2.1, 12, .inl (fun _ => J 0))), ((u_6 3), .inl (D.2.1, 63, .inl (fun _ => J 0))), ((u_6 4), .inl (D.2.1, 63, .inl (fun _ => J 0))), ((u_6 5), .inl (D.2.2.1, 63, .inr (.inl (fun _ => 0)))), ((u_6 6), .inl (D.2.1, 144, .inl (fun _ => J 0))), ((u_6 7), .inl (D.2.2.1, 756, .inr (.inl (fun _ => 0)))), ((u_6 8), .inl (D.2.2.1, 756, .inr (.inl (fun _ => 0)))), (a_10, .inl (D.2.2.1, 1500, .inr (.inl (fun _ => 0)))), (a_14, .inl (D.2.1, 1500, .inl (fun _ => J 0)))] H := hP
  have hD : va_D A [(h0, .inr (2, [.ref a_4, .ref a_10, .null, .null, .int 0, .int 0, .int 0])), (a_4, .inr (5, [.ref (u_6 0), .ref (u_6 3), .ref (u_6 4), .ref (u_6 5), .ref (u_6 6), .int 0, .ref (u_6 7), .ref (u_6 8), .int 0])), ((u_6 0), .inr (6, [.ref (u_6 1), .ref (u_6 2), .int 0])), ((u_6 1), .inl (D.2.1, 12, .inl (fun _ => J 0))), ((u_6 2), .inl (D.2.1, 12, .inl (fun _ => J 0))), ((u_6 3), .inl (D.2.1, 63, .inl (fun _ => J 0))), ((u_6 4), .inl (D.2.1, 63, .inl (fun _ => J 0))), ((u_6 5), .inl (D.2.2.1, 63, .inr (.inl (fun _ => 0)))), ((u_6 6), .inl (D.2.1, 144, .inl (fun _ => J 0))), ((u_6 7), .inl (D.2.2.1, 756, .inr (.inl (fun _ => 0)))), ((u_6 8), .inl (D.2.2.1, 756, .inr (.inl (fun _ => 0)))), (a_10, .inl (D.2.2.1, 1500, .inr (.inl (fun _ => 0)))), (a_14, .inl (D.2.1, 1500, .inl (fun _ => J 0)))] := hD
  refine W.widen (k := 12) (n := 4881) (Nat.le_of_ble_eq_true rfl) (Nat.le_of_ble_eq_true rfl) ?_
  refine va_putF (D := D.1) (ci := 2) (v := .ref a_14) (ty := .array .int) (C := RX2) (T := TX2) (N := 7) SS.1 SS.2.1 SS.2.2.2.2 inX2 tyX2 tyX2_ok nmX2 SS.2.2.2.1 hG.1 hP hD hS 0 rfl rfl 2 (by decide) (SS.2.2.2.2 _ kw_342) (fun _ h9 => h9) rfl hin rfl (by decide +kernel) rfl rfl (Nat.le_of_ble_eq_true rfl) dX2_init_30 (fun H locs hP hD hS => ?_)
  have hP : va_P D.1 j_cl [(h0, .inr (2, [.ref a_4, .ref a_10, .ref a_14, .null, .int 0, .int 0, .int 0])), (a_4, .inr (5, [.ref (u_6 0), .ref (u_6 3), .ref (u_6 4), .ref (u_6 5), .ref (u_6 6), .int 0, .ref (u_6 7), .ref (u_6 8), .int 0])), ((u_6 0), .inr (6, [.ref (u_6 1), .ref (u_6 2), .int 0])), ((u_6 1), .inl (D.2.1, 12, .inl (fun _ => J 0))), ((u_6 2), .inl (D.2.1, 12, .inl (fun _ => J 0))), ((u_6 3), .inl (D.2.1, 63, .inl (fun _ => J 0))), ((u_6 4), .inl (D.2.1, 63, .inl (fun _ => J 0))), ((u_6 5), .inl (D.2.2.1, 63, .inr (.inl (fun _ => 0)))), ((u_6 6), .inl (D.2.1, 144, .inl (fun _ => J 0))), ((u_6 7), .inl (D.2.2.1, 756, .inr (.inl (fun _ => 0)))), ((u_6 8), .inl (D.2.2.1, 756, .inr (.inl (fun _ => 0)))), (a_10, .inl (D.2.2.1, 1500, .inr (.inl (fun _ => 0)))), (a_14, .inl (D.2.1, 1500, .inl (fun _ => J 0)))] H := hP
  have hD : va_D A [(h0, .inr (2, [.ref a_4, .ref a_10, .ref a_14, .null, .int 0, .int 0, .int 0])), (a_4, .inr (5, [.ref (u_6 0), .ref (u_6 3), .ref (u_6 4), .ref (u_6 5), .ref (u_6 6), .int 0, .ref (u_6 7), .ref (u_6 8), .int 0])), ((u_6 0), .inr (6, [.ref (u_6 1), .ref (u_6 2), .int 0])), ((u_6 1), .inl (D.2.1, 12, .inl (fun _ => J 0))), ((u_6 2), .inl (D.2.1, 12, .inl (fun _ => J 0))), ((u_6 3), .inl (D.2.1, 63, .inl (fun _ => J 0))), ((u_6 4), .inl (D.2.1, 63, .inl (fun _ => J 0))), ((u_6 5), .inl (D.2.2.1, 63, .inr (.inl (fun _ => 0)))), ((u_6 6), .inl (D.2.1, 144, .inl (fun _ => J 0))), ((u_6 7), .inl (D.2.2.1, 756, .inr (.inl (fun _ => 0)))), ((u_6 8), .inl (D.2.2.1, 756, .inr (.inl (fun _ => 0)))), (a_10, .inl (D.2.2.1, 1500, .inr (.inl (fun _ => 0)))), (a_14, .inl (D.2.1, 1500, .inl (fun _ => J 0)))] := hD
  refine lv_aload_n SS.1 SS.2.1 dX2_init_33 rfl (lv_at hl 0 rfl) ?_
  refine j_sipush SS dX2_init_34 (by decide +kernel) ?_
  refine j_newI SS hG hP hD hS hA kw_149 4096 (by decide) rfl (Nat.le_of_ble_eq_true rfl) (Nat.le_of_ble_eq_true rfl) dX2_init_37 (fun a_18 H hP hD hS => ?_)
  have hP : va_P D.1 j_cl [(h0, .inr (2, [.ref a_4, .ref a_10, .ref a_14, .null, .int 0, .int 0, .int 0])), (a_4, .inr (5, [.ref (u_6 0), .ref (u_6 3), .ref (u_6 4), .ref (u_6 5), .ref (u_6 6), .int 0, .ref (u_6 7), .ref (u_6 8), .int 0])), ((u_6 0), .inr (6, [.ref (u_6 1), .ref (u_6 2), .int 0])), ((u_6 1), .inl (D.2.1, 12, .inl (fun _ => J 0))), ((u_6 2), .inl (D.2.1, 12, .inl (fun _ => J 0))), ((u_6 3), .inl (D.2.1, 63, .inl (fun _ => J 0))), ((u_6 4), .inl (D.2.1, 63, .inl (fun _ => J 0))), ((u_6 5), .inl (D.2.2.1, 63, .inr (.inl (fun _ => 0)))), ((u_6 6), .inl (D.2.1, 144, .inl (fun _ => J 0))), ((u_6 7), .inl (D.2.2.1, 756, .inr (.inl (fun _ => 0)))), ((u_6 8), .inl (D.2.2.1, 756, .inr (.inl (fun _ => 0)))), (a_10, .inl (D.2.2.1, 1500, .inr (.inl (fun _ => 0)))), (a_14, .inl (D.2.1, 1500, .inl (fun _ => J 0))), (a_18, .inl (D.2.1, 4096, .inl (fun _ => J 0)))] H := hP
  have hD : va_D A [(h0, .inr (2, [.ref a_4, .ref a_10, .ref a_14, .null, .int 0, .int 0, .int 0])), (a_4, .inr (5, [.ref (u_6 0), .ref (u_6 3), .ref (u_6 4), .ref (u_6 5), .ref (u_6 6), .int 0, .ref (u_6 7), .ref (u_6 8), .int 0])), ((u_6 0), .inr (6, [.ref (u_6 1), .ref (u_6 2), .int 0])), ((u_6 1), .inl (D.2.1, 12, .inl (fun _ => J 0))), ((u_6 2), .inl (D.2.1, 12, .inl (fun _ => J 0))), ((u_6 3), .inl (D.2.1, 63, .inl (fun _ => J 0))), ((u_6 4), .inl (D.2.1, 63, .inl (fun _ => J 0))), ((u_6 5), .inl (D.2.2.1, 63, .inr (.inl (fun _ => 0)))), ((u_6 6), .inl (D.2.1, 144, .inl (fun _ => J 0))), ((u_6 7), .inl (D.2.2.1, 756, .inr (.inl (fun _ => 0)))), ((u_6 8), .inl (D.2.2.1, 756, .inr (.inl (fun _ => 0)))), (a_10, .inl (D.2.2.1, 1500, .inr (.inl (fun _ => 0)))), (a_14, .inl (D.2.1, 1500, .inl (fun _ => J 0))), (a_18, .inl (D.2.1, 4096, .inl (fun _ => J 0)))] := hD
  refine W.widen (k := 13) (n := 8977) (Nat.le_of_ble_eq_true rfl) (Nat.le_of_ble_eq_true rfl) ?_
  refine va_putF (D := D.1) (ci := 2) (v := .ref a_18) (ty := .array .int) (C := RX2) (T := TX2) (N := 7) SS.1 SS.2.1 SS.2.2.2.2 inX2 tyX2 tyX2_ok nmX2 SS.2.2.2.1 hG.1 hP hD hS 0 rfl rfl 3 (by decide) (SS.2.2.2.2 _ kw_343) (fun _ h9 => h9) rfl hin rfl (by decide +kernel) rfl rfl (Nat.le_of_ble_eq_true rfl) dX2_init_39 (fun H locs hP hD hS => ?_)
  have hP : va_P D.1 j_cl [(h0, .inr (2, [.ref a_4, .ref a_10, .ref a_14, .ref a_18, .int 0, .int 0, .int 0])), (a_4, .inr (5, [.ref (u_6 0), .ref (u_6 3), .ref (u_6 4), .ref (u_6 5), .ref (u_6 6), .int 0, .ref (u_6 7), .ref (u_6 8), .int 0])), ((u_6 0), .inr (6, [.ref (u_6 1), .ref (u_6 2), .int 0])), ((u_6 1), .inl (D.2.1, 12, .inl (fun _ => J 0))), ((u_6 2), .inl (D.2.1, 12, .inl (fun _ => J 0))), ((u_6 3), .inl (D.2.1, 63, .inl (fun _ => J 0))), ((u_6 4), .inl (D.2.1, 63, .inl (fun _ => J 0))), ((u_6 5), .inl (D.2.2.1, 63, .inr (.inl (fun _ => 0)))), ((u_6 6), .inl (D.2.1, 144, .inl (fun _ => J 0))), ((u_6 7), .inl (D.2.2.1, 756, .inr (.inl (fun _ => 0)))), ((u_6 8), .inl (D.2.2.1, 756, .inr (.inl (fun _ => 0)))), (a_10, .inl (D.2.2.1, 1500, .inr (.inl (fun _ => 0)))), (a_14, .inl (D.2.1, 1500, .inl (fun _ => J 0))), (a_18, .inl (D.2.1, 4096, .inl (fun _ => J 0)))] H := hP
  have hD : va_D A [(h0, .inr (2, [.ref a_4, .ref a_10, .ref a_14, .ref a_18, .int 0, .int 0, .int 0])), (a_4, .inr (5, [.ref (u_6 0), .ref (u_6 3), .ref (u_6 4), .ref (u_6 5), .ref (u_6 6), .int 0, .ref (u_6 7), .ref (u_6 8), .int 0])), ((u_6 0), .inr (6, [.ref (u_6 1), .ref (u_6 2), .int 0])), ((u_6 1), .inl (D.2.1, 12, .inl (fun _ => J 0))), ((u_6 2), .inl (D.2.1, 12, .inl (fun _ => J 0))), ((u_6 3), .inl (D.2.1, 63, .inl (fun _ => J 0))), ((u_6 4), .inl (D.2.1, 63, .inl (fun _ => J 0))), ((u_6 5), .inl (D.2.2.1, 63, .inr (.inl (fun _ => 0)))), ((u_6 6), .inl (D.2.1, 144, .inl (fun _ => J 0))), ((u_6 7), .inl (D.2.2.1, 756, .inr (.inl (fun _ => 0)))), ((u_6 8), .inl (D.2.2.1, 756, .inr (.inl (fun _ => 0)))), (a_10, .inl (D.2.2.1, 1500, .inr (.inl (fun _ => 0)))), (a_14, .inl (D.2.1, 1500, .inl (fun _ => J 0))), (a_18, .inl (D.2.1, 4096, .inl (fun _ => J 0)))] := hD
  refine lv_aload_n SS.1 SS.2.1 dX2_init_42 rfl (lv_at hl 0 rfl) ?_
  refine j_iconst SS dX2_init_43 ?_
  refine va_put (D := D.1) (ci := 2) (v := .int (J (-1))) (ty := .int) (C := RX2) (T := TX2) (N := 7) SS.1 SS.2.1 SS.2.2.2.2 inX2 tyX2 tyX2_ok nmX2 SS.2.2.2.1 hG.1 hP hD hS 0 rfl rfl 6 (by decide) (SS.2.2.2.2 _ kw_347) (fun _ h9 => h9) rfl (by decide +kernel) rfl rfl (Nat.le_of_ble_eq_true rfl) dX2_init_44 (fun H locs hP hD hS => ?_)
  have hP : va_P D.1 j_cl [(h0, .inr (2, [.ref a_4, .ref a_10, .ref a_14, .ref a_18, .int 0, .int 0, .int (J (-1))])), (a_4, .inr (5, [.ref (u_6 0), .ref (u_6 3), .ref (u_6 4), .ref (u_6 5), .ref (u_6 6), .int 0, .ref (u_6 7), .ref (u_6 8), .int 0])), ((u_6 0), .inr (6, [.ref (u_6 1), .ref (u_6 2), .int 0])), ((u_6 1), .inl (D.2.1, 12, .inl (fun _ => J 0))), ((u_6 2), .inl (D.2.1, 12, .inl (fun _ => J 0))), ((u_6 3), .inl (D.2.1, 63, .inl (fun _ => J 0))), ((u_6 4), .inl (D.2.1, 63, .inl (fun _ => J 0))), ((u_6 5), .inl (D.2.2.1, 63, .inr (.inl (fun _ => 0)))), ((u_6 6), .inl (D.2.1, 144, .inl (fun _ => J 0))), ((u_6 7), .inl (D.2.2.1, 756, .inr (.inl (fun _ => 0)))), ((u_6 8), .inl (D.2.2.1, 756, .inr (.inl (fun _ => 0)))), (a_10, .inl (D.2.2.1, 1500, .inr (.inl (fun _ => 0)))), (a_14, .inl (D.2.1, 1500, .inl (fun _ => J 0))), (a_18, .inl (D.2.1, 4096, .inl (fun _ => J 0)))] H := hP
  have hD : va_D A [(h0, .inr (2, [.ref a_4, .ref a_10, .ref a_14, .ref a_18, .int 0, .int 0, .int (J (-1))])), (a_4, .inr (5, [.ref (u_6 0), .ref (u_6 3), .ref (u_6 4), .ref (u_6 5), .ref (u_6 6), .int 0, .ref (u_6 7), .ref (u_6 8), .int 0])), ((u_6 0), .inr (6, [.ref (u_6 1), .ref (u_6 2), .int 0])), ((u_6 1), .inl (D.2.1, 12, .inl (fun _ => J 0))), ((u_6 2), .inl (D.2.1, 12, .inl (fun _ => J 0))), ((u_6 3), .inl (D.2.1, 63, .inl (fun _ => J 0))), ((u_6 4), .inl (D.2.1, 63, .inl (fun _ => J 0))), ((u_6 5), .inl (D.2.2.1, 63, .inr (.inl (fun _ => 0)))), ((u_6 6), .inl (D.2.1, 144, .inl (fun _ => J 0))), ((u_6 7), .inl (D.2.2.1, 756, .inr (.inl (fun _ => 0)))), ((u_6 8), .inl (D.2.2.1, 756, .inr (.inl (fun _ => 0)))), (a_10, .inl (D.2.2.1, 1500, .inr (.inl (fun _ => 0)))), (a_14, .inl (D.2.1, 1500, .inl (fun _ => J 0))), (a_18, .inl (D.2.1, 4096, .inl (fun _ => J 0)))] := hD
  exact W.vret SS.1 SS.2.1 hr (fun t ht hW => ⟨⟨(fun k => ([a_4, (u_6 0), (u_6 1), (u_6 2), (u_6 3), (u_6 4), (u_6 5), (u_6 6), (u_6 7), (u_6 8), a_10, a_14, a_18] : List Nat).getD k 0), rfl, trivial, by rw [ht]; exact hP, hD⟩, hS.F ht⟩) hS.2.2 dX2_init_47 hlk

def w_X1_init (D : JD) (h0 : Nat) (u : Nat → Nat) : va_W := [(h0, .inr (1, [.ref (u 0), .ref (u 3), .int 0, .int (J (-1))])), ((u 0), .inr (6, [.ref (u 1), .ref (u 2), .int 0])), ((u 1), .inl (D.2.1, 40, .inl (fun _ => J 0))), ((u 2), .inl (D.2.1, 40, .inl (fun _ => J 0))), ((u 3), .inl (D.2.2.1, 80, .inr (.inl (fun _ => 0))))]
set_option maxHeartbeats 4000000 in
set_option maxRecDepth 100000 in
theorem c_X1_init (l : Launch) (D : JD) (h0 sz : Nat) : Met l yX1_init (jw yX1_init cX1_init 1 none) (jrc 3 54 4 163) (jPN [.ref h0] D (fun H => H.size = sz ∧ va_P D.1 j_cl [(h0, .inr (1, [.null, .null, .int 0, .int 0]))] H)) (jWv (fun _ : Nat → Nat => True) (fun u H => va_P D.1 j_cl (w_X1_init D h0 u) H ∧ va_D (va_A [(h0, .inr (1, [.null, .null, .int 0, .int 0]))] sz) (w_X1_init D h0 u)) (va_A [(h0, .inr (1, [.null, .null, .int 0, .int 0]))] sz)) 4 163 (va_A [(h0, .inr (1, [.null, .null, .int 0, .int 0]))] sz) := by
  refine Met.ofW (cc := cX1_init) (maxL := 1) (ret := none) (by decide) rfl ?_
  intro pr en st mi args below meth co s₁ B hml hv
  obtain ⟨rfl, ⟨hG, hN⟩, hsz, hP⟩ := hv
  have hr := B.returns
  have hlk := B.notSynchronized
  have hin : meth.name = "<init>" := (name_of_methodNamed B.named B.method).1
  have SS : jS pr mi co cX1_init 1 st _ RX1 := ⟨B.exec, B.bytes, hml, findClass_of_methodNamed B.named, fun w hw => atoms_spec (ws := (jw yX1_init cX1_init 1 none)) B.pre w (List.mem_cons_of_mem _ hw)⟩
  subst hsz
  have hD : va_D (va_A [(h0, .inr (1, [.null, .null, .int 0, .int 0]))] st.heap.size) [(h0, .inr (1, [.null, .null, .int 0, .int 0]))] := va_D1
  generalize hAe : va_A [(h0, .inr (1, [.null, .null, .int 0, .int 0]))] st.heap.size = A at hD ⊢
  have hA : ∀ q : Nat, st.heap.size ≤ q → A q := fun q h => by rw [← hAe]; exact Or.inr h
  have hS : va_S A st.heap st.heap [] := va_S.rf
  have hl := lv_entry ([.ref h0]) (n := 1) (Nat.le_of_ble_eq_true rfl)
  rw [lg_entry_eq]
  generalize (lg_sl ([.ref h0]) ++ List.replicate (1 - (lg_sl ([.ref h0])).length) Slot.unset).toArray = ls at hl ⊢
  have hl : lv_has ls 1 [(0, .ref h0)] := hl
  obtain ⟨H, eH⟩ : ∃ H, H = st.heap := ⟨_, rfl⟩
  rw [← eH] at hP
  have hS : va_S A st.heap H [] := eH ▸ va_S.rf
  rw [← eH]
  refine lv_aload_n SS.1 SS.2.1 dX1_init_0 rfl (lv_at hl 0 rfl) ?_
  refine W.objInit SS.1 SS.2.1 SS.2.2.2.1 (SS.2.2.2.2 _ kw_368) (SS.2.2.2.2 _ kw_111) (SS.2.2.2.2 _ kw_112) rfl (by rw [SS.2.2.1]; exact hl.1) rfl dX1_init_1 (Nat.le_of_ble_eq_true rfl) (Nat.le_of_ble_eq_true rfl) ?_
  refine W.eq (g2 := F0 mi 4 ls []) rfl ?_
  refine lv_aload_n SS.1 SS.2.1 dX1_init_4 rfl (lv_at hl 0 rfl) ?_
  refine va_new (ci := 6) (fs := [.null, .null, .int 0]) (C := RX6) (T := TX6) (N := 3) SS.1 SS.2.1 SS.2.2.2.2 inX6 tyX6 tyX6_ok SS.2.2.2.1 (SS.2.2.2.2 _ kw_369) (SS.2.2.2.2 _ kw_301) (SS.2.2.2.2 _ kw_98) hG.1 hP hD hS hA rfl (fun j hj => by rcases (show j = 0 ∨ j = 1 ∨ j = 2 by omega) with rfl | rfl | rfl <;> rfl) (Nat.le_of_ble_eq_true rfl) (Nat.le_of_ble_eq_true rfl) dX1_init_5 (fun a_4 H hP hD hS => ?_)
  have hP : va_P D.1 j_cl ([(h0, .inr (1, [.null, .null, .int 0, .int 0]))] ++ [(a_4, .inr (6, [.null, .null, .int 0]))]) H := hP
  have hD : va_D A ([(h0, .inr (1, [.null, .null, .int 0, .int 0]))] ++ [(a_4, .inr (6, [.null, .null, .int 0]))]) := hD
  refine W.widen (k := 1) (n := 3) (Nat.le_of_ble_eq_true rfl) (Nat.le_of_ble_eq_true rfl) ?_
  refine lv_dup SS.1 SS.2.1 dX1_init_8 rfl ?_
  refine j_bipush SS dX1_init_9 (by decide +kernel) ?_
  have hF := j_free (x := (a_4, .inr (6, [.null, .null, .int 0]))) hD hS hA
  refine j_iS SS (As := [.int (J 40)]) (rest := [.ref a_4, .ref h0]) (c_X6_init_40 l D a_4 H.size) mi_X6_init kw_370 hG hN ⟨rfl, j_lastP hP⟩ hS hF rfl hl.1 ⟨⟨Nat.le_of_ble_eq_true rfl, Nat.le_of_ble_eq_true rfl⟩, Nat.le_of_ble_eq_true rfl, Nat.le_of_ble_eq_true rfl, Nat.le_of_ble_eq_true rfl⟩ rfl dX1_init_11 (fun u_7 H1 locs hB hFr hS => ?_)
  obtain ⟨hP, hD⟩ := j_join hP hD hFr.2 hF hB.1 hB.2
  generalize H1 = H at hP hS ⊢
  have hP : va_P D.1 j_cl [(h0, .inr (1, [.null, .null, .int 0, .int 0])), (a_4, .inr (6, [.ref (u_7 0), .ref (u_7 1), .int 0])), ((u_7 0), .inl (D.2.1, 40, .inl (fun _ => J 0))), ((u_7 1), .inl (D.2.1, 40, .inl (fun _ => J 0)))] H := hP
  have hD : va_D A [(h0, .inr (1, [.null, .null, .int 0, .int 0])), (a_4, .inr (6, [.ref (u_7 0), .ref (u_7 1), .int 0])), ((u_7 0), .inl (D.2.1, 40, .inl (fun _ => J 0))), ((u_7 1), .inl (D.2.1, 40, .inl (fun _ => J 0)))] := hD
  refine W.widen (k := 3) (n := 83) (Nat.le_of_ble_eq_true rfl) (Nat.le_of_ble_eq_true rfl) ?_
  refine va_putF (D := D.1) (ci := 1) (v := .ref a_4) (ty := .object "GridPolygons$Points") (C := RX1) (T := TX1) (N := 4) SS.1 SS.2.1 SS.2.2.2.2 inX1 tyX1 tyX1_ok nmX1 SS.2.2.2.1 hG.1 hP hD hS 0 rfl rfl 0 (by decide) (SS.2.2.2.2 _ kw_371) (fun _ h9 => h9) rfl hin rfl (by decide +kernel) rfl rfl (Nat.le_of_ble_eq_true rfl) dX1_init_14 (fun H locs hP hD hS => ?_)
  have hP : va_P D.1 j_cl [(h0, .inr (1, [.ref a_4, .null, .int 0, .int 0])), (a_4, .inr (6, [.ref (u_7 0), .ref (u_7 1), .int 0])), ((u_7 0), .inl (D.2.1, 40, .inl (fun _ => J 0))), ((u_7 1), .inl (D.2.1, 40, .inl (fun _ => J 0)))] H := hP
  have hD : va_D A [(h0, .inr (1, [.ref a_4, .null, .int 0, .int 0])), (a_4, .inr (6, [.ref (u_7 0), .ref (u_7 1), .int 0])), ((u_7 0), .inl (D.2.1, 40, .inl (fun _ => J 0))), ((u_7 1), .inl (D.2.1, 40, .inl (fun _ => J 0)))] := hD
  refine lv_aload_n SS.1 SS.2.1 dX1_init_17 rfl (lv_at hl 0 rfl) ?_
  refine j_bipush SS dX1_init_18 (by decide +kernel) ?_
  refine j_newL SS hG hP hD hS hA kw_287 80 (by decide) rfl (Nat.le_of_ble_eq_true rfl) (Nat.le_of_ble_eq_true rfl) dX1_init_20 (fun a_11 H hP hD hS => ?_)
  have hP : va_P D.1 j_cl [(h0, .inr (1, [.ref a_4, .null, .int 0, .int 0])), (a_4, .inr (6, [.ref (u_7 0), .ref (u_7 1), .int 0])), ((u_7 0), .inl (D.2.1, 40, .inl (fun _ => J 0))), ((u_7 1), .inl (D.2.1, 40, .inl (fun _ => J 0))), (a_11, .inl (D.2.2.1, 80, .inr (.inl (fun _ => 0))))] H := hP
  have hD : va_D A [(h0, .inr (1, [.ref a_4, .null, .int 0, .int 0])), (a_4, .inr (6, [.ref (u_7 0), .ref (u_7 1), .int 0])), ((u_7 0), .inl (D.2.1, 40, .inl (fun _ => J 0))), ((u_7 1), .inl (D.2.1, 40, .inl (fun _ => J 0))), (a_11, .inl (D.2.2.1, 80, .inr (.inl (fun _ => 0))))] := hD
  refine W.widen (k := 4) (n := 163) (Nat.le_of_ble_eq_true rfl) (Nat.le_of_ble_eq_true rfl) ?_
  refine va_putF (D := D.1) (ci := 1) (v := .ref a_11) (ty := .array .long) (C := RX1) (T := TX1) (N := 4) SS.1 SS.2.1 SS.2.2.2.2 inX1 tyX1 tyX1_ok nmX1 SS.2.2.2.1 hG.1 hP hD hS 0 rfl rfl 1 (by decide) (SS.2.2.2.2 _ kw_372) (fun _ h9 => h9) rfl hin rfl (by decide +kernel) rfl rfl (Nat.le_of_ble_eq_true rfl) dX1_init_22 (fun H locs hP hD hS => ?_)
  have hP : va_P D.1 j_cl [(h0, .inr (1, [.ref a_4, .ref a_11, .int 0, .int 0])), (a_4, .inr (6, [.ref (u_7 0), .ref (u_7 1), .int 0])), ((u_7 0), .inl (D.2.1, 40, .inl (fun _ => J 0))), ((u_7 1), .inl (D.2.1, 40, .inl (fun _ => J 0))), (a_11, .inl (D.2.2.1, 80, .inr (.inl (fun _ => 0))))] H := hP
  have hD : va_D A [(h0, .inr (1, [.ref a_4, .ref a_11, .int 0, .int 0])), (a_4, .inr (6, [.ref (u_7 0), .ref (u_7 1), .int 0])), ((u_7 0), .inl (D.2.1, 40, .inl (fun _ => J 0))), ((u_7 1), .inl (D.2.1, 40, .inl (fun _ => J 0))), (a_11, .inl (D.2.2.1, 80, .inr (.inl (fun _ => 0))))] := hD
  refine lv_aload_n SS.1 SS.2.1 dX1_init_25 rfl (lv_at hl 0 rfl) ?_
  refine j_iconst SS dX1_init_26 ?_
  refine va_put (D := D.1) (ci := 1) (v := .int (J (-1))) (ty := .int) (C := RX1) (T := TX1) (N := 4) SS.1 SS.2.1 SS.2.2.2.2 inX1 tyX1 tyX1_ok nmX1 SS.2.2.2.1 hG.1 hP hD hS 0 rfl rfl 3 (by decide) (SS.2.2.2.2 _ kw_375) (fun _ h9 => h9) rfl (by decide +kernel) rfl rfl (Nat.le_of_ble_eq_true rfl) dX1_init_27 (fun H locs hP hD hS => ?_)
  have hP : va_P D.1 j_cl [(h0, .inr (1, [.ref a_4, .ref a_11, .int 0, .int (J (-1))])), (a_4, .inr (6, [.ref (u_7 0), .ref (u_7 1), .int 0])), ((u_7 0), .inl (D.2.1, 40, .inl (fun _ => J 0))), ((u_7 1), .inl (D.2.1, 40, .inl (fun _ => J 0))), (a_11, .inl (D.2.2.1, 80, .inr (.inl (fun _ => 0))))] H := hP
  have hD : va_D A [(h0, .inr (1, [.ref a_4, .ref a_11, .int 0, .int (J (-1))])), (a_4, .inr (6, [.ref (u_7 0), .ref (u_7 1), .int 0])), ((u_7 0), .inl (D.2.1, 40, .inl (fun _ => J 0))), ((u_7 1), .inl (D.2.1, 40, .inl (fun _ => J 0))), (a_11, .inl (D.2.2.1, 80, .inr (.inl (fun _ => 0))))] := hD
  exact W.vret SS.1 SS.2.1 hr (fun t ht hW => ⟨⟨(fun k => ([a_4, (u_7 0), (u_7 1), a_11] : List Nat).getD k 0), rfl, trivial, by rw [ht]; exact hP, hD⟩, hS.F ht⟩) hS.2.2 dX1_init_30 hlk


theorem arrV_c {cI : ClassId} {N : Nat} {f g : Nat → Value} (h : ∀ i, i < N → f i = g i) : arrV cI N f = arrV cI N g := by
  unfold arrV
  rw [show (fun j : Fin N => f j.val) = fun j => g j.val from funext fun j => h j.val j.isLt]
theorem j_sa8 {D : JD} {H : Heap} {a : Nat} {f g : Nat → Option Nat} (h : va_at D.1 j_cl (a, .inl (D.2.2.2, 8, .inr (.inr (.inr (.inr f))))) H) (e : ∀ i, i < 8 → f i = g i) : va_at D.1 j_cl (a, .inl (D.2.2.2, 8, .inr (.inr (.inr (.inr g))))) H := by
  show H[a]? = some (vp_cell _ _)
  rw [vp_cell_q, ← arrV_c (fun i hi => congrArg va_rf (e i hi))]
  exact h
theorem j_sa {D : va_G} {cl : List vw_C} {x y y' : Nat × va_E} {ws : va_W} {H : Heap} (h : va_P D cl (x :: y :: ws) H) (hy : va_at D cl y' H) : va_P D cl (x :: y' :: ws) H := by
  intro k q hk
  match k, hk with
  | 0, hk => exact h 0 q hk
  | 1, hk => cases hk; exact hy
  | k + 2, hk => exact h (k + 2) q hk
section JA
variable {p : Program} {l : Launch} {e9 : Env} {R : Room} {s : State} {m : MethodId} {args : Array Value} {below : List Frame} {meth : Method} {c : Code} {H : Heap} {locs : List Loc} {cells slots : Nat} {Q : State → Prop}
variable {cc : ByteArray} {nL : Nat} {own : String} {pc : Nat} {ls : Array Slot} {rest : List Value}
theorem j_astS (S : jS p m c cc nL s args own) {D : JD} {ws : va_W} {A : Nat → Prop} {H0 : Heap} (hG : j_K D s) (hP : va_P D.1 j_cl ws H) (hD : va_D A ws) (hS : va_S A H0 H locs) (q0 qk : Nat) {a v : Nat} {vs : List Value} {f : Nat → Option Nat} (ha : ws[q0]? = some (a, .inl (D.2.2.2, 8, .inr (.inr (.inr (.inr f)))))) (hv : ws[qk]? = some (v, .inr (10, vs))) {z : Int} (i : Nat) (hz : 0 ≤ z ∧ z < 8) (e : z.toNat = i) (hdg : decode cc pc = .ok (.aastore, 1))
    (kk : ∀ (H1 : Heap) (locs1 : List Loc), va_P D.1 j_cl (ws.set q0 (a, .inl (D.2.2.2, 8, .inr (.inr (.inr (.inr (va_up f i (some v)))))))) H1 → va_D A (ws.set q0 (a, .inl (D.2.2.2, 8, .inr (.inr (.inr (.inr (va_up f i (some v)))))))) → va_S A H0 H1 locs1 → W p l e9 R s m args below meth c H1 locs1 cells slots Q (F0 m (pc + 1) ls rest)) : W p l e9 R s m args below meth c H locs cells slots Q (F0 m pc ls (.ref v :: .int (J z) :: .ref a :: rest)) := by
  refine va_astq S.1 S.2.1 hG.1 hP hD hS q0 2 qk 10 (r := (RX10, TX10, 3)) ha rfl hv rfl (J_in (n := 8) hz (by omega)) hdg (fun H1 l1 h1 h2 h3 => ?_)
  rw [J_clamp (by omega), e] at h1 h2
  exact kk H1 l1 h1 h2 h3
end JA
/-! the states at the start -/
def mS0 : MS := (fun _ _ => 0, fun _ _ => 0, fun _ => 0)
def cZ : CS := ((fun _ _ => 0, fun _ _ => 0, fun _ => 0, fun _ _ => 0, fun _ => 0), mS0)
def cS0 : CS := sV (sV (sV cZ 12 (-1)) 24 (-1)) 26 (-1)
theorem IM0 : IM mS0 := ⟨fun s _ _ => ⟨by show (0 : Int) ≤ 0 ∧ (0 : Int) ≤ 24; omega, fun h => absurd h (by show ¬ (0 : Int) < 0; omega), Or.inl (by show (0 : Int) ≤ 1; omega)⟩, fun k => by show (-1000 : Int) ≤ 0 ∧ (0 : Int) ≤ 1000; omega, fun a _ => by show ((-40 : Int) ≤ 0 ∧ (0 : Int) ≤ 40) ∧ (-40 : Int) ≤ 0 ∧ (0 : Int) ≤ 40; omega⟩
theorem RB0 {K : Int} (h : 0 ≤ K) (r : Nat) : RB K cS0 r := ⟨by show (0 : Int) ≤ 0 ∧ (0 : Int) ≤ rl r; omega, fun i => by show (-K ≤ (0 : Int) ∧ (0 : Int) ≤ K) ∧ -K ≤ (0 : Int) ∧ (0 : Int) ≤ K; omega⟩
theorem CI0 : CI cS0 := by
  refine ⟨fun i hi => ⟨RB0 (by decide) i, fun k => by show (-1000 : Int) ≤ 0 ∧ (0 : Int) ≤ 1000; omega, by show (-2147483648 : Int) ≤ 0 ∧ (0 : Int) ≤ 2147483647; omega⟩, ⟨RB0 (by decide) 8, RB0 (by decide) 9, RB0 (by decide) 10⟩, fun i => by show ((-80 : Int) ≤ 0 ∧ (0 : Int) ≤ 81) ∧ (-81 : Int) ≤ 0 ∧ (0 : Int) ≤ 80; omega, by show (-2147483648 : Int) ≤ 0 ∧ (0 : Int) ≤ 2147483647; omega, ⟨fun k => by show (0 : Int) ≤ 0 ∧ (0 : Int) ≤ 1000000; omega, fun k => by show (0 : Int) ≤ 0 ∧ (0 : Int) ≤ 80; omega, by show (-2147483648 : Int) ≤ -1 ∧ (-1 : Int) ≤ 2147483647; omega⟩, ⟨by show (0 : Int) ≤ 0 ∧ (0 : Int) ≤ 63; omega, by show (0 : Int) ≤ 0 ∧ (0 : Int) ≤ 756; omega, fun k => by show ((0 : Int) ≤ 0 ∧ (0 : Int) ≤ 12) ∧ (0 : Int) ≤ 0 ∧ (0 : Int) ≤ 12; omega, fun k => by show (-1 : Int) ≤ 0 ∧ (0 : Int) ≤ 63; omega⟩, ⟨by show (0 : Int) ≤ 0 ∧ (0 : Int) ≤ 1500; omega, Or.inl rfl, by show (-2147483648 : Int) ≤ -1 ∧ (-1 : Int) ≤ 2147483647; omega, fun k => by show (0 : Int) ≤ 0 ∧ (0 : Int) ≤ 1500; omega⟩, by show (0 : Int) ≤ 0 ∧ (0 : Int) ≤ 80; omega, by show (-2147483648 : Int) ≤ -1 ∧ (-1 : Int) ≤ 2147483647; omega⟩
theorem up00 : upI (fun _ => (0 : Int)) (0 : Int).toNat 0 = fun _ => 0 := by
  funext j; unfold upI; split <;> rfl

