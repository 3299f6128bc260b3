
set_option maxHeartbeats 4000000 in
set_option maxRecDepth 100000 in
theorem c_X12_clearH (l : Launch) (D : JD) (o : Nat) (q : Nat → Nat) (u : MS) (A : Nat → Prop) (hD : va_D A (mW D o q u)) (s : Int) (p0 : IM u) (p1 : -2147483648 ≤ s ∧ s ≤ 2147483647) : Met l yX12_clear (jw yX12_clear cX12_clear 4 (some .int)) (jr 3 67) (jP [.ref o, .int (J s)] D (fun H => va_P D.1 j_cl (mW D o q u) H)) (jWi (fun z u' => ∃ f0 : Nat → Int, ∃ f1 : Nat → Int, ∃ f2 : Nat → Int, ∃ f3 : Nat → Int, ∃ nh : Int, u' = (uV (uI (uI (uI (uI u 0 f0) 1 f1) 2 f2) 3 f3) 9 nh) ∧ ((IM u' ∧ clM u u' s z) ∧ mHr u u' s z)) (fun u' H => va_P D.1 j_cl (mW D o q u') H) A) 0 0 A := by
  refine Met.ofW (cc := cX12_clear) (maxL := 4) (ret := (some .int)) (by decide) rfl ?_
  intro pr en st mi args below meth co s₁ B hml hv
  obtain ⟨rfl, hG, hP⟩ := hv
  have hr := B.returns
  have hlk := B.notSynchronized
  have SS : jS pr mi co cX12_clear 4 st _ RX12 := ⟨B.exec, B.bytes, hml, findClass_of_methodNamed B.named, fun w hw => atoms_spec (ws := (jw yX12_clear cX12_clear 4 (some .int))) B.pre w (List.mem_cons_of_mem _ hw)⟩
  have hl := lv_entry ([.ref o, .int (J s)]) (n := 4) (Nat.le_of_ble_eq_true rfl)
  rw [lg_entry_eq]
  generalize (lg_sl ([.ref o, .int (J s)]) ++ List.replicate (4 - (lg_sl ([.ref o, .int (J s)])).length) Slot.unset).toArray = ls at hl ⊢
  have hl : lv_has ls 4 [(0, .ref o), (1, .int (J s))] := hl
  have hS : va_S A st.heap st.heap [] := va_S.rf
  refine lv_iload_n SS.1 SS.2.1 dX12_clear_0 rfl (lv_at hl 1 rfl) ?_
  refine j_sRi SS (As := [.int (J s)]) (rest := []) (c_X12_isShape l D s (show -2147483648 ≤ s ∧ s ≤ 2147483647 from (by omega))) mf_X12_isShape kw_1156 hG trivial rfl hl.1 ⟨⟨Nat.le_of_ble_eq_true rfl, Nat.le_of_ble_eq_true rfl⟩, Nat.le_of_ble_eq_true rfl, Nat.le_refl _, Nat.le_refl _⟩ rfl dX12_clear_1 (fun z_1 h_1 => ?_)
  have h_1 : (z_1 = 1 ∧ (0 ≤ s ∧ s ≤ 7)) ∨ (z_1 = 0 ∧ ¬ (0 ≤ s ∧ s ≤ 7)) := h_1
  refine j_if_ne SS (tgt := 9) (x := z_1) dX12_clear_4 (by decide) (by omega) (fun c_4 => ?_) (fun c_4 => ?_)
  · skip
    have hs : 0 ≤ s ∧ s ≤ 7 := by omega
    obtain ⟨hN, _, _⟩ := p0.1 s hs.1 hs.2
    refine lv_aload_n SS.1 SS.2.1 dX12_clear_9 rfl (lv_at hl 0 rfl) ?_
    refine j_get SS hG hP 0 (v := .ref (q 0)) (C := RX12) (T := TX12) (N := 31) rfl rfl inX12 0 (by decide) (ref := RX12) kw_1058 rfl rfl dX12_clear_10 ?_
    refine lv_iload_n SS.1 SS.2.1 dX12_clear_13 rfl (lv_at hl 1 rfl) ?_
    refine j_iald SS hG hP 1 (n := 8) (f := (u.1 0)) rfl (z := s) (by omega) (by omega) dX12_clear_14 ?_
    refine lv_istore_n (lv' := [(2, .int (J (mN u s))), (0, .ref o), (1, .int (J s))]) SS.1 SS.2.1 dX12_clear_15 rfl hl (by decide) rfl (fun ls hl => ?_)
    refine lv_aload_n SS.1 SS.2.1 dX12_clear_16 rfl (lv_at hl 1 rfl) ?_
    refine j_iconst SS dX12_clear_17 ?_
    refine j_put SS hG hP (mW_D hD) hS 0 (v := .int (J 0)) (ty := .int) (C := RX12) (T := TX12) (N := 31) rfl rfl inX12 tyX12 tyX12_ok nmX12 9 (by decide) (ref := RX12) kw_1067 rfl rfl (by decide +kernel) rfl rfl (Nat.le_of_ble_eq_true rfl) dX12_clear_18 (ws' := (mW D o q (uV u 9 0))) rfl (fun H locs hP hS => ?_)
    refine lv_aload_n SS.1 SS.2.1 dX12_clear_21 rfl (lv_at hl 1 rfl) ?_
    refine lv_iload_n SS.1 SS.2.1 dX12_clear_22 rfl (lv_at hl 2 rfl) ?_
    refine j_iconst SS dX12_clear_23 ?_
    refine j_vWi SS (As := [.int (J s), .int (J 0)]) (rest := []) (c_X12_take l D o q (uV u 9 0) A (mW_D hD) s 0 (show 0 ≤ s ∧ s ≤ 7 from (by omega)) (show (0 : Int) = 0 ∨ (0 : Int) = 1 from (by omega)) (show 0 ≤ 0 ∧ 0 ≤ 1290 from (by omega)) (show bd 10000 ((u.1 7)) ((u.1 8)) (0) from (fun a ha => by omega))) mf_X12_take kw_1162 hG hP hP (ci := 8) (q0 := 0) rfl rfl rfl hS (fun _ h => h) rfl hl.1 ⟨⟨Nat.le_of_ble_eq_true rfl, Nat.le_of_ble_eq_true rfl⟩, Nat.le_of_ble_eq_true rfl, Nat.le_refl _, Nat.le_refl _⟩ rfl dX12_clear_24 (fun z_24 u24 H locs h_24 hP _ hS => ?_)
    obtain ⟨f0_24, f1_24, f2_24, f3_24, rfl, h_24⟩ := h_24
    have hP : va_P D.1 j_cl (mW D o q (uV (uI (uI (uI (uI u 0 f0_24) 1 f1_24) 2 f2_24) 3 f3_24) 9 0)) H := hP
    have h_24 : (z_24 = -3 ∧ ¬ tk_ok (0 : Int) 40 ((u.1 7)) ((u.1 8)) (0) (0) ∧ f0_24 = (u.1 0) ∧ f1_24 = (u.1 1) ∧ f2_24 = (u.1 2) ∧ f3_24 = (u.1 3)) ∨ (z_24 = 0 ∧ tk_ok (0 : Int) 40 ((u.1 7)) ((u.1 8)) (0) (0) ∧ tk_new (uV u 9 0) f0_24 f1_24 f2_24 f3_24 s) := h_24
    have hz : z_24 = 0 ∧ tk_new (uV u 9 0) f0_24 f1_24 f2_24 f3_24 s := by rcases h_24 with k | k; exact absurd (tk_0.mpr (by omega)) k.2.1; exact ⟨k.1, k.2.2⟩
    refine lv_istore_n (lv' := [(3, .int (J z_24)), (2, .int (J (mN u s))), (0, .ref o), (1, .int (J s))]) SS.1 SS.2.1 dX12_clear_27 rfl hl (by decide) rfl (fun ls hl => ?_)
    refine lv_iload_n SS.1 SS.2.1 dX12_clear_28 rfl (lv_at hl 1 rfl) ?_
    refine lv_iload_n SS.1 SS.2.1 dX12_clear_29 rfl (lv_at hl 0 rfl) ?_
    refine j_iadd SS (x := (mN u s)) (y := z_24) dX12_clear_30 ?_
    exact W.iret SS.1 SS.2.1 hr (fun t ht hW => ⟨⟨_, (uV (uI (uI (uI (uI u 0 f0_24) 1 f1_24) 2 f2_24) 3 f3_24) 9 0), rfl, ⟨((mN u s) + z_24), rfl, (⟨f0_24, f1_24, f2_24, f3_24, 0, rfl, ⟨⟨IM_new (u := uV u 9 0) p0 hs.1 hs.2 (by show (0:Int) ≤ 0 ∧ (0:Int) ≤ 24; omega) (fun a ha => by have : (a : Int) < 0 := ha; omega) (Or.inl (by show (0:Int) ≤ 1; omega)) hz.2, Or.inr ⟨hs, by omega, by have q := mNew_tk (v0 := u) (v := uV u 9 0) p0.1 rfl rfl rfl hs (by show (0:Int) ≤ 0 ∧ (0:Int) ≤ 24; omega) hz.2; exact ⟨⟨q.1.1, fun a ha => by omega⟩, q.2⟩⟩⟩, ⟨fun q => by omega, fun _ => hz.2.2.2⟩⟩⟩)⟩, by show va_P D.1 j_cl (mW D o q (uV (uI (uI (uI (uI u 0 f0_24) 1 f1_24) 2 f2_24) 3 f3_24) 9 0)) t.heap; rw [ht]; exact hP⟩, hS.F ht⟩) hS.2.2 dX12_clear_31 hlk
  · skip
    refine j_iconst SS dX12_clear_7 ?_
    exact W.iret SS.1 SS.2.1 hr (fun t ht hW => ⟨⟨_, (uV (uI (uI (uI (uI u 0 (u.1 0)) 1 (u.1 1)) 2 (u.1 2)) 3 (u.1 3)) 9 (u.2.2 9)), rfl, ⟨(-1), rfl, (⟨(u.1 0), (u.1 1), (u.1 2), (u.1 3), (u.2.2 9), rfl, ⟨⟨p0, Or.inl ⟨by omega, rfl, rfl, rfl, rfl⟩⟩, mHr_n rfl (by decide)⟩⟩)⟩, by show va_P D.1 j_cl (mW D o q (uV (uI (uI (uI (uI u 0 (u.1 0)) 1 (u.1 1)) 2 (u.1 2)) 3 (u.1 3)) 9 (u.2.2 9))) t.heap; rw [ht]; exact hP⟩, hS.F ht⟩) hS.2.2 dX12_clear_8 hlk

set_option maxHeartbeats 4000000 in
set_option maxRecDepth 100000 in
theorem c_X12_addH (l : Launch) (D : JD) (o : Nat) (q : Nat → Nat) (u : MS) (A : Nat → Prop) (hD : va_D A (mW D o q u)) (s : Int) (x : Int) (y : Int) (p0 : IM u) (p1 : -2147483648 ≤ s ∧ s ≤ 2147483647) (p2 : -2147483648 ≤ x ∧ x ≤ 2147483647) (p3 : -2147483648 ≤ y ∧ y ≤ 2147483647) : Met l yX12_add (jw yX12_add cX12_add 4 (some .int)) (jr 3 68) (jP [.ref o, .int (J s), .int (J x), .int (J y)] D (fun H => va_P D.1 j_cl (mW D o q u) H)) (jWi (fun z u' => ∃ f0 : Nat → Int, ∃ f1 : Nat → Int, ∃ f2 : Nat → Int, ∃ f3 : Nat → Int, ∃ f4 : Nat → Int, ∃ f5 : Nat → Int, ∃ w : Int, ∃ X : Nat → Int, ∃ Y : Nat → Int, ∃ nh : Int, u' = (uV (uI (uI (uV (uI (uI (uI (uI (uI (uI u 0 f0) 1 f1) 2 f2) 3 f3) 4 f4) 5 f5) 6 w) 7 X) 8 Y) 9 nh) ∧ ((IM u' ∧ adM u u' s x y z) ∧ mHr u u' s z)) (fun u' H => va_P D.1 j_cl (mW D o q u') H) A) 0 0 A := by
  refine Met.ofW (cc := cX12_add) (maxL := 4) (ret := (some .int)) (by decide) rfl ?_
  intro pr en st mi args below meth co s₁ B hml hv
  obtain ⟨rfl, hG, hP⟩ := hv
  have hr := B.returns
  have hlk := B.notSynchronized
  have SS : jS pr mi co cX12_add 4 st _ RX12 := ⟨B.exec, B.bytes, hml, findClass_of_methodNamed B.named, fun w hw => atoms_spec (ws := (jw yX12_add cX12_add 4 (some .int))) B.pre w (List.mem_cons_of_mem _ hw)⟩
  have hl := lv_entry ([.ref o, .int (J s), .int (J x), .int (J y)]) (n := 4) (Nat.le_of_ble_eq_true rfl)
  rw [lg_entry_eq]
  generalize (lg_sl ([.ref o, .int (J s), .int (J x), .int (J y)]) ++ List.replicate (4 - (lg_sl ([.ref o, .int (J s), .int (J x), .int (J y)])).length) Slot.unset).toArray = ls at hl ⊢
  have hl : lv_has ls 4 [(0, .ref o), (1, .int (J s)), (2, .int (J x)), (3, .int (J y))] := hl
  have hS : va_S A st.heap st.heap [] := va_S.rf
  refine lv_iload_n SS.1 SS.2.1 dX12_add_0 rfl (lv_at hl 1 rfl) ?_
  refine j_sRi SS (As := [.int (J s)]) (rest := []) (c_X12_isShape l D s (show -2147483648 ≤ s ∧ s ≤ 2147483647 from (by omega))) mf_X12_isShape kw_1156 hG trivial rfl hl.1 ⟨⟨Nat.le_of_ble_eq_true rfl, Nat.le_of_ble_eq_true rfl⟩, Nat.le_of_ble_eq_true rfl, Nat.le_refl _, Nat.le_refl _⟩ rfl dX12_add_1 (fun z_1 h_1 => ?_)
  have h_1 : (z_1 = 1 ∧ (0 ≤ s ∧ s ≤ 7)) ∨ (z_1 = 0 ∧ ¬ (0 ≤ s ∧ s ≤ 7)) := h_1
  refine j_if_eq SS (tgt := 15) (x := z_1) dX12_add_4 (by decide) (by omega) (fun c_4 => ?_) (fun c_4 => ?_)
  · skip
    refine j_iconst SS dX12_add_15 ?_
    exact W.iret SS.1 SS.2.1 hr (fun t ht hW => ⟨⟨_, (uV (uI (uI (uV (uI (uI (uI (uI (uI (uI u 0 (u.1 0)) 1 (u.1 1)) 2 (u.1 2)) 3 (u.1 3)) 4 (u.1 4)) 5 (u.1 5)) 6 (u.2.2 6)) 7 (u.1 7)) 8 (u.1 8)) 9 (u.2.2 9)), rfl, ⟨(-1), rfl, (⟨(u.1 0), (u.1 1), (u.1 2), (u.1 3), (u.1 4), (u.1 5), (u.2.2 6), (u.1 7), (u.1 8), (u.2.2 9), rfl, ⟨⟨p0, Or.inl ⟨by omega, rfl, rfl, rfl, rfl⟩⟩, mHr_n rfl (by decide)⟩⟩)⟩, by show va_P D.1 j_cl (mW D o q (uV (uI (uI (uV (uI (uI (uI (uI (uI (uI u 0 (u.1 0)) 1 (u.1 1)) 2 (u.1 2)) 3 (u.1 3)) 4 (u.1 4)) 5 (u.1 5)) 6 (u.2.2 6)) 7 (u.1 7)) 8 (u.1 8)) 9 (u.2.2 9))) t.heap; rw [ht]; exact hP⟩, hS.F ht⟩) hS.2.2 dX12_add_16 hlk
  · skip
    refine lv_iload_n SS.1 SS.2.1 dX12_add_7 rfl (lv_at hl 2 rfl) ?_
    refine lv_iload_n SS.1 SS.2.1 dX12_add_8 rfl (lv_at hl 3 rfl) ?_
    refine j_sRi SS (As := [.int (J x), .int (J y)]) (rest := []) (c_X12_isPlace l D x y (show -2147483648 ≤ x ∧ x ≤ 2147483647 from (by omega)) (show -2147483648 ≤ y ∧ y ≤ 2147483647 from (by omega))) mf_X12_isPlace kw_1166 hG trivial rfl hl.1 ⟨⟨Nat.le_of_ble_eq_true rfl, Nat.le_of_ble_eq_true rfl⟩, Nat.le_of_ble_eq_true rfl, Nat.le_refl _, Nat.le_refl _⟩ rfl dX12_add_9 (fun z_9 h_9 => ?_)
    have h_9 : (z_9 = 1 ∧ (-40 ≤ x ∧ x ≤ 40 ∧ -40 ≤ y ∧ y ≤ 40)) ∨ (z_9 = 0 ∧ ¬ (-40 ≤ x ∧ x ≤ 40 ∧ -40 ≤ y ∧ y ≤ 40)) := h_9
    refine j_if_ne SS (tgt := 17) (x := z_9) dX12_add_12 (by decide) (by omega) (fun c_12 => ?_) (fun c_12 => ?_)
    · skip
      refine lv_aload_n SS.1 SS.2.1 dX12_add_17 rfl (lv_at hl 0 rfl) ?_
      refine j_iconst SS dX12_add_18 ?_
      refine j_put SS hG hP (mW_D hD) hS 0 (v := .int (J 0)) (ty := .int) (C := RX12) (T := TX12) (N := 31) rfl rfl inX12 tyX12 tyX12_ok nmX12 6 (by decide) (ref := RX12) kw_1064 rfl rfl (by decide +kernel) rfl rfl (Nat.le_of_ble_eq_true rfl) dX12_add_19 (ws' := (mW D o q (uV u 6 0))) rfl (fun H locs hP hS => ?_)
      refine lv_aload_n SS.1 SS.2.1 dX12_add_22 rfl (lv_at hl 0 rfl) ?_
      refine lv_iload_n SS.1 SS.2.1 dX12_add_23 rfl (lv_at hl 1 rfl) ?_
      refine j_vWv SS (As := [.int (J s)]) (rest := []) (c_X12_putShape2 l D o q (uV u 6 0) A (mW_D hD) s (show 0 ≤ s ∧ s ≤ 7 from (by omega)) (show Sh u s from (p0.1 _ (by omega) (by omega))) (show 0 ≤ 0 ∧ 0 ≤ 600 from (by omega))) mf_X12_putShape kw_1173 hG hP hP (ci := 8) (q0 := 0) rfl rfl rfl hS (fun _ h => h) rfl hl.1 ⟨⟨Nat.le_of_ble_eq_true rfl, Nat.le_of_ble_eq_true rfl⟩, Nat.le_of_ble_eq_true rfl, Nat.le_refl _, Nat.le_refl _⟩ rfl dX12_add_24 (fun u24 H locs h_24 hP _ hS => ?_)
      obtain ⟨f_24, g_24, w_24, rfl, h_24⟩ := h_24
      have hP : va_P D.1 j_cl (mW D o q (uV (uI (uI u 4 f_24) 5 g_24) 6 w_24)) H := hP
      have h_24 : w_24 = 0 + mN u s ∧ (bd 40 ((u.1 4)) ((u.1 5)) (0) → bd 40 f_24 g_24 w_24) ∧ ∀ x y : Int, SWW f_24 g_24 w_24 x y ↔ SWW ((u.1 4)) ((u.1 5)) (0) x y ∨ SPi (uV u 6 0) s (mN u s) x y := h_24
      have hb := h_24.2.1 (fun a ha => by omega)
      have hN := (p0.1 s (by omega) (by omega)).1
      refine lv_aload_n SS.1 SS.2.1 dX12_add_27 rfl (lv_at hl 0 rfl) ?_
      refine lv_iload_n SS.1 SS.2.1 dX12_add_28 rfl (lv_at hl 2 rfl) ?_
      refine lv_iload_n SS.1 SS.2.1 dX12_add_29 rfl (lv_at hl 3 rfl) ?_
      refine j_vWv SS (As := [.int (J x), .int (J y)]) (rest := []) (c_X12_put l D o q (uV (uI (uI u 4 f_24) 5 g_24) 6 w_24) A (mW_D hD) x y (show 0 ≤ w_24 ∧ w_24 < 640 from (by omega))) mf_X12_put kw_1185 hG hP hP (ci := 8) (q0 := 0) rfl rfl rfl hS (fun _ h => h) rfl hl.1 ⟨⟨Nat.le_of_ble_eq_true rfl, Nat.le_of_ble_eq_true rfl⟩, Nat.le_of_ble_eq_true rfl, Nat.le_refl _, Nat.le_refl _⟩ rfl dX12_add_30 (fun u30 H locs h_30 hP _ hS => ?_)
      obtain ⟨f_30, g_30, w_30, rfl, h_30⟩ := h_30
      have hP : va_P D.1 j_cl (mW D o q (uV (uI (uI u 4 f_30) 5 g_30) 6 w_30)) H := hP
      have h_30 : f_30 = upI (f_24) (w_24).toNat x ∧ g_30 = upI (g_24) (w_24).toNat y ∧ w_30 = w_24 + 1 := h_30
      have hb3 : bd 40 f_30 g_30 w_30 := by obtain ⟨k1, k2, k3⟩ := h_30; rw [k1, k2, k3]; exact bd_put (by omega) hb (by omega) (by omega)
      have hw3 : w_30 = mN u s + 1 := by have := h_30.2.2; omega
      have hS3 : ∀ a b : Int, SWW f_30 g_30 w_30 a b ↔ SP u s a b ∨ (a = x ∧ b = y) := fun a b => by obtain ⟨k1, k2, k3⟩ := h_30; rw [k1, k2, k3, SWW_put (by omega), h_24.2.2]; exact ⟨fun q => by rcases q with (q | q) | q; exact absurd q (SWW_0 (by omega)); exact Or.inl q; exact Or.inr q, fun q => by rcases q with q | q; exact Or.inl (Or.inr q); exact Or.inr q⟩
      refine lv_aload_n SS.1 SS.2.1 dX12_add_33 rfl (lv_at hl 0 rfl) ?_
      refine j_vWv SS (As := []) (rest := []) (c_X12_findHull2 l D o q (uV (uI (uI u 4 f_30) 5 g_30) 6 w_30) A (mW_D hD)  (show 0 ≤ w_30 ∧ w_30 ≤ 640 from (by omega)) (show bd 10000 (f_30) (g_30) (w_30) from (bd_K hb3 (by omega)))) mf_X12_findHull kw_1189 hG hP hP (ci := 8) (q0 := 0) rfl rfl rfl hS (fun _ h => h) rfl hl.1 ⟨⟨Nat.le_of_ble_eq_true rfl, Nat.le_of_ble_eq_true rfl⟩, Nat.le_of_ble_eq_true rfl, Nat.le_refl _, Nat.le_refl _⟩ rfl dX12_add_34 (fun u34 H locs h_34 hP _ hS => ?_)
      obtain ⟨f_34, g_34, w_34, X_34, Y_34, nh_34, rfl, h_34⟩ := h_34
      have hP : va_P D.1 j_cl (mW D o q (uV (uI (uI (uV (uI (uI u 4 f_34) 5 g_34) 6 w_34) 7 X_34) 8 Y_34) 9 nh_34)) H := hP
      have h_34 : 0 ≤ nh_34 ∧ nh_34 ≤ 1290 ∧ Ch nh_34 X_34 Y_34 ∧ (0 < w_30 → 0 < nh_34) ∧ bd 10000 X_34 Y_34 nh_34 ∧ (∀ K : Int, bd K (f_30) (g_30) (w_30) → bd K X_34 Y_34 nh_34) ∧ HS (SWW (f_30) (g_30) (w_30)) nh_34 X_34 Y_34 := h_34
      obtain ⟨a1, a2, a3, a4, a5, a6, a7⟩ := h_34
      have hb4 := a6 40 hb3
      refine lv_aload_n SS.1 SS.2.1 dX12_add_37 rfl (lv_at hl 0 rfl) ?_
      refine lv_iload_n SS.1 SS.2.1 dX12_add_38 rfl (lv_at hl 1 rfl) ?_
      refine j_iconst SS dX12_add_39 ?_
      refine j_vWi SS (As := [.int (J s), .int (J 0)]) (rest := []) (c_X12_take l D o q (uV (uI (uI (uV (uI (uI u 4 f_34) 5 g_34) 6 w_34) 7 X_34) 8 Y_34) 9 nh_34) A (mW_D hD) s 0 (show 0 ≤ s ∧ s ≤ 7 from (by omega)) (show (0 : Int) = 0 ∨ (0 : Int) = 1 from (by omega)) (show 0 ≤ nh_34 ∧ nh_34 ≤ 1290 from (by omega)) (show bd 10000 (X_34) (Y_34) (nh_34) from (a5))) mf_X12_take kw_1162 hG hP hP (ci := 8) (q0 := 0) rfl rfl rfl hS (fun _ h => h) rfl hl.1 ⟨⟨Nat.le_of_ble_eq_true rfl, Nat.le_of_ble_eq_true rfl⟩, Nat.le_of_ble_eq_true rfl, Nat.le_refl _, Nat.le_refl _⟩ rfl dX12_add_40 (fun z_40 u40 H locs h_40 hP _ hS => ?_)
      obtain ⟨f0_40, f1_40, f2_40, f3_40, rfl, h_40⟩ := h_40
      have hP : va_P D.1 j_cl (mW D o q (uV (uI (uI (uV (uI (uI (uI (uI (uI (uI u 0 f0_40) 1 f1_40) 2 f2_40) 3 f3_40) 4 f_34) 5 g_34) 6 w_34) 7 X_34) 8 Y_34) 9 nh_34)) H := hP
      have h_40 : (z_40 = -3 ∧ ¬ tk_ok (0 : Int) 40 (X_34) (Y_34) (nh_34) (nh_34) ∧ f0_40 = (u.1 0) ∧ f1_40 = (u.1 1) ∧ f2_40 = (u.1 2) ∧ f3_40 = (u.1 3)) ∨ (z_40 = nh_34 ∧ tk_ok (0 : Int) 40 (X_34) (Y_34) (nh_34) (nh_34) ∧ tk_new (uV (uI (uI (uV (uI (uI u 4 f_34) 5 g_34) 6 w_34) 7 X_34) 8 Y_34) 9 nh_34) f0_40 f1_40 f2_40 f3_40 s) := h_40
      exact W.iret SS.1 SS.2.1 hr (fun t ht hW => ⟨⟨_, (uV (uI (uI (uV (uI (uI (uI (uI (uI (uI u 0 f0_40) 1 f1_40) 2 f2_40) 3 f3_40) 4 f_34) 5 g_34) 6 w_34) 7 X_34) 8 Y_34) 9 nh_34), rfl, ⟨z_40, rfl, (⟨f0_40, f1_40, f2_40, f3_40, f_34, g_34, w_34, X_34, Y_34, nh_34, rfl, ⟨⟨(show IM (uI (uI (uI (uI (uV (uI (uI (uV (uI (uI u 4 f_34) 5 g_34) 6 w_34) 7 X_34) 8 Y_34) 9 nh_34) 0 f0_40) 1 f1_40) 2 f2_40) 3 f3_40) from IM_tk (u := (uV (uI (uI (uV (uI (uI u 4 f_34) 5 g_34) 6 w_34) 7 X_34) 8 Y_34) 9 nh_34)) p0 ⟨by omega, by omega⟩ (Or.inl rfl) a1 (fun _ => hb4) a3 h_40), Or.inr ⟨by omega, by omega, mkM_tk (v0 := u) (v := (uV (uI (uI (uV (uI (uI u 4 f_34) 5 g_34) 6 w_34) 7 X_34) 8 Y_34) 9 nh_34)) p0.1 rfl rfl rfl ⟨by omega, by omega⟩ a1 (Or.inl rfl) (fun _ => hb4) a7 hS3 h_40⟩⟩, mHr_k (nh := nh_34) rfl (by omega) h_40⟩⟩)⟩, by show va_P D.1 j_cl (mW D o q (uV (uI (uI (uV (uI (uI (uI (uI (uI (uI u 0 f0_40) 1 f1_40) 2 f2_40) 3 f3_40) 4 f_34) 5 g_34) 6 w_34) 7 X_34) 8 Y_34) 9 nh_34)) t.heap; rw [ht]; exact hP⟩, hS.F ht⟩) hS.2.2 dX12_add_43 hlk
    · skip
      refine j_iconst SS dX12_add_15 ?_
      exact W.iret SS.1 SS.2.1 hr (fun t ht hW => ⟨⟨_, (uV (uI (uI (uV (uI (uI (uI (uI (uI (uI u 0 (u.1 0)) 1 (u.1 1)) 2 (u.1 2)) 3 (u.1 3)) 4 (u.1 4)) 5 (u.1 5)) 6 (u.2.2 6)) 7 (u.1 7)) 8 (u.1 8)) 9 (u.2.2 9)), rfl, ⟨(-1), rfl, (⟨(u.1 0), (u.1 1), (u.1 2), (u.1 3), (u.1 4), (u.1 5), (u.2.2 6), (u.1 7), (u.1 8), (u.2.2 9), rfl, ⟨⟨p0, Or.inl ⟨by omega, rfl, rfl, rfl, rfl⟩⟩, mHr_n rfl (by decide)⟩⟩)⟩, by show va_P D.1 j_cl (mW D o q (uV (uI (uI (uV (uI (uI (uI (uI (uI (uI u 0 (u.1 0)) 1 (u.1 1)) 2 (u.1 2)) 3 (u.1 3)) 4 (u.1 4)) 5 (u.1 5)) 6 (u.2.2 6)) 7 (u.1 7)) 8 (u.1 8)) 9 (u.2.2 9))) t.heap; rw [ht]; exact hP⟩, hS.F ht⟩) hS.2.2 dX12_add_16 hlk

set_option maxHeartbeats 4000000 in
set_option maxRecDepth 100000 in
theorem c_X12_sumH (l : Launch) (D : JD) (o : Nat) (q : Nat → Nat) (u : MS) (A : Nat → Prop) (hD : va_D A (mW D o q u)) (s : Int) (s2 : Int) (t2 : Int) (p0 : IM u) (p1 : -2147483648 ≤ s ∧ s ≤ 2147483647) (p2 : -2147483648 ≤ s2 ∧ s2 ≤ 2147483647) (p3 : -2147483648 ≤ t2 ∧ t2 ≤ 2147483647) : Met l yX12_sum (jw yX12_sum cX12_sum 4 (some .int)) (jr 4 92) (jP [.ref o, .int (J s), .int (J s2), .int (J t2)] D (fun H => va_P D.1 j_cl (mW D o q u) H)) (jWi (fun z u' => ∃ f0 : Nat → Int, ∃ f1 : Nat → Int, ∃ f2 : Nat → Int, ∃ f3 : Nat → Int, ∃ f4 : Nat → Int, ∃ f5 : Nat → Int, ∃ w : Int, ∃ X : Nat → Int, ∃ Y : Nat → Int, ∃ nh : Int, u' = (uV (uI (uI (uV (uI (uI (uI (uI (uI (uI u 0 f0) 1 f1) 2 f2) 3 f3) 4 f4) 5 f5) 6 w) 7 X) 8 Y) 9 nh) ∧ ((IM u' ∧ smM u u' s s2 t2 z) ∧ mHr u u' t2 z)) (fun u' H => va_P D.1 j_cl (mW D o q u') H) A) 0 0 A := by
  refine Met.ofW (cc := cX12_sum) (maxL := 4) (ret := (some .int)) (by decide) rfl ?_
  intro pr en st mi args below meth co s₁ B hml hv
  obtain ⟨rfl, hG, hP⟩ := hv
  have hr := B.returns
  have hlk := B.notSynchronized
  have SS : jS pr mi co cX12_sum 4 st _ RX12 := ⟨B.exec, B.bytes, hml, findClass_of_methodNamed B.named, fun w hw => atoms_spec (ws := (jw yX12_sum cX12_sum 4 (some .int))) B.pre w (List.mem_cons_of_mem _ hw)⟩
  have hl := lv_entry ([.ref o, .int (J s), .int (J s2), .int (J t2)]) (n := 4) (Nat.le_of_ble_eq_true rfl)
  rw [lg_entry_eq]
  generalize (lg_sl ([.ref o, .int (J s), .int (J s2), .int (J t2)]) ++ List.replicate (4 - (lg_sl ([.ref o, .int (J s), .int (J s2), .int (J t2)])).length) Slot.unset).toArray = ls at hl ⊢
  have hl : lv_has ls 4 [(0, .ref o), (1, .int (J s)), (2, .int (J s2)), (3, .int (J t2))] := hl
  have hS : va_S A st.heap st.heap [] := va_S.rf
  refine lv_iload_n SS.1 SS.2.1 dX12_sum_0 rfl (lv_at hl 1 rfl) ?_
  refine j_sRi SS (As := [.int (J s)]) (rest := []) (c_X12_isShape l D s (show -2147483648 ≤ s ∧ s ≤ 2147483647 from (by omega))) mf_X12_isShape kw_1156 hG trivial rfl hl.1 ⟨⟨Nat.le_of_ble_eq_true rfl, Nat.le_of_ble_eq_true rfl⟩, Nat.le_of_ble_eq_true rfl, Nat.le_refl _, Nat.le_refl _⟩ rfl dX12_sum_1 (fun z_1 h_1 => ?_)
  have h_1 : (z_1 = 1 ∧ (0 ≤ s ∧ s ≤ 7)) ∨ (z_1 = 0 ∧ ¬ (0 ≤ s ∧ s ≤ 7)) := h_1
  refine j_if_eq SS (tgt := 21) (x := z_1) dX12_sum_4 (by decide) (by omega) (fun c_4 => ?_) (fun c_4 => ?_)
  · skip
    refine j_iconst SS dX12_sum_21 ?_
    exact W.iret SS.1 SS.2.1 hr (fun t ht hW => ⟨⟨_, (uV (uI (uI (uV (uI (uI (uI (uI (uI (uI u 0 (u.1 0)) 1 (u.1 1)) 2 (u.1 2)) 3 (u.1 3)) 4 (u.1 4)) 5 (u.1 5)) 6 (u.2.2 6)) 7 (u.1 7)) 8 (u.1 8)) 9 (u.2.2 9)), rfl, ⟨(-1), rfl, (⟨(u.1 0), (u.1 1), (u.1 2), (u.1 3), (u.1 4), (u.1 5), (u.2.2 6), (u.1 7), (u.1 8), (u.2.2 9), rfl, ⟨⟨p0, Or.inl ⟨by omega, rfl, rfl, rfl, rfl⟩⟩, mHr_n rfl (by decide)⟩⟩)⟩, by show va_P D.1 j_cl (mW D o q (uV (uI (uI (uV (uI (uI (uI (uI (uI (uI u 0 (u.1 0)) 1 (u.1 1)) 2 (u.1 2)) 3 (u.1 3)) 4 (u.1 4)) 5 (u.1 5)) 6 (u.2.2 6)) 7 (u.1 7)) 8 (u.1 8)) 9 (u.2.2 9))) t.heap; rw [ht]; exact hP⟩, hS.F ht⟩) hS.2.2 dX12_sum_22 hlk
  · skip
    refine lv_iload_n SS.1 SS.2.1 dX12_sum_7 rfl (lv_at hl 2 rfl) ?_
    refine j_sRi SS (As := [.int (J s2)]) (rest := []) (c_X12_isShape l D s2 (show -2147483648 ≤ s2 ∧ s2 ≤ 2147483647 from (by omega))) mf_X12_isShape kw_1156 hG trivial rfl hl.1 ⟨⟨Nat.le_of_ble_eq_true rfl, Nat.le_of_ble_eq_true rfl⟩, Nat.le_of_ble_eq_true rfl, Nat.le_refl _, Nat.le_refl _⟩ rfl dX12_sum_8 (fun z_8 h_8 => ?_)
    have h_8 : (z_8 = 1 ∧ (0 ≤ s2 ∧ s2 ≤ 7)) ∨ (z_8 = 0 ∧ ¬ (0 ≤ s2 ∧ s2 ≤ 7)) := h_8
    refine j_if_eq SS (tgt := 21) (x := z_8) dX12_sum_11 (by decide) (by omega) (fun c_11 => ?_) (fun c_11 => ?_)
    · skip
      refine j_iconst SS dX12_sum_21 ?_
      exact W.iret SS.1 SS.2.1 hr (fun t ht hW => ⟨⟨_, (uV (uI (uI (uV (uI (uI (uI (uI (uI (uI u 0 (u.1 0)) 1 (u.1 1)) 2 (u.1 2)) 3 (u.1 3)) 4 (u.1 4)) 5 (u.1 5)) 6 (u.2.2 6)) 7 (u.1 7)) 8 (u.1 8)) 9 (u.2.2 9)), rfl, ⟨(-1), rfl, (⟨(u.1 0), (u.1 1), (u.1 2), (u.1 3), (u.1 4), (u.1 5), (u.2.2 6), (u.1 7), (u.1 8), (u.2.2 9), rfl, ⟨⟨p0, Or.inl ⟨by omega, rfl, rfl, rfl, rfl⟩⟩, mHr_n rfl (by decide)⟩⟩)⟩, by show va_P D.1 j_cl (mW D o q (uV (uI (uI (uV (uI (uI (uI (uI (uI (uI u 0 (u.1 0)) 1 (u.1 1)) 2 (u.1 2)) 3 (u.1 3)) 4 (u.1 4)) 5 (u.1 5)) 6 (u.2.2 6)) 7 (u.1 7)) 8 (u.1 8)) 9 (u.2.2 9))) t.heap; rw [ht]; exact hP⟩, hS.F ht⟩) hS.2.2 dX12_sum_22 hlk
    · skip
      refine lv_iload_n SS.1 SS.2.1 dX12_sum_14 rfl (lv_at hl 3 rfl) ?_
      refine j_sRi SS (As := [.int (J t2)]) (rest := []) (c_X12_isShape l D t2 (show -2147483648 ≤ t2 ∧ t2 ≤ 2147483647 from (by omega))) mf_X12_isShape kw_1156 hG trivial rfl hl.1 ⟨⟨Nat.le_of_ble_eq_true rfl, Nat.le_of_ble_eq_true rfl⟩, Nat.le_of_ble_eq_true rfl, Nat.le_refl _, Nat.le_refl _⟩ rfl dX12_sum_15 (fun z_15 h_15 => ?_)
      have h_15 : (z_15 = 1 ∧ (0 ≤ t2 ∧ t2 ≤ 7)) ∨ (z_15 = 0 ∧ ¬ (0 ≤ t2 ∧ t2 ≤ 7)) := h_15
      refine j_if_ne SS (tgt := 23) (x := z_15) dX12_sum_18 (by decide) (by omega) (fun c_18 => ?_) (fun c_18 => ?_)
      · skip
        refine lv_aload_n SS.1 SS.2.1 dX12_sum_23 rfl (lv_at hl 0 rfl) ?_
        refine lv_iload_n SS.1 SS.2.1 dX12_sum_24 rfl (lv_at hl 1 rfl) ?_
        refine lv_iload_n SS.1 SS.2.1 dX12_sum_25 rfl (lv_at hl 2 rfl) ?_
        refine j_vWv SS (As := [.int (J s), .int (J s2)]) (rest := []) (c_X12_findSum2 l D o q u A (mW_D hD) s s2 (show 0 ≤ s ∧ s ≤ 7 from (by omega)) (show Sh u s from (p0.1 _ (by omega) (by omega))) (show 0 ≤ s2 ∧ s2 ≤ 7 from (by omega)) (show Sh u s2 from (p0.1 _ (by omega) (by omega)))) mf_X12_findSum kw_1317 hG hP hP (ci := 8) (q0 := 0) rfl rfl rfl hS (fun _ h => h) rfl hl.1 ⟨⟨Nat.le_of_ble_eq_true rfl, Nat.le_of_ble_eq_true rfl⟩, Nat.le_of_ble_eq_true rfl, Nat.le_refl _, Nat.le_refl _⟩ rfl dX12_sum_26 (fun u26 H locs h_26 hP _ hS => ?_)
        obtain ⟨f_26, g_26, w_26, X_26, Y_26, nh_26, rfl, h_26⟩ := h_26
        have hP : va_P D.1 j_cl (mW D o q (uV (uI (uI (uV (uI (uI u 4 f_26) 5 g_26) 6 w_26) 7 X_26) 8 Y_26) 9 nh_26)) H := hP
        have h_26 : 0 ≤ nh_26 ∧ nh_26 ≤ 1290 ∧ Ch nh_26 X_26 Y_26 ∧ bd 10000 X_26 Y_26 nh_26 ∧ bd 80 X_26 Y_26 nh_26 ∧ HS (SM (SP u s) (SP u s2)) nh_26 X_26 Y_26 := h_26
        obtain ⟨a1, a2, a3, a4, a5, a7⟩ := h_26
        refine lv_aload_n SS.1 SS.2.1 dX12_sum_29 rfl (lv_at hl 0 rfl) ?_
        refine lv_iload_n SS.1 SS.2.1 dX12_sum_30 rfl (lv_at hl 3 rfl) ?_
        refine j_iconst SS dX12_sum_31 ?_
        refine j_vWi SS (As := [.int (J t2), .int (J 1)]) (rest := []) (c_X12_take l D o q (uV (uI (uI (uV (uI (uI u 4 f_26) 5 g_26) 6 w_26) 7 X_26) 8 Y_26) 9 nh_26) A (mW_D hD) t2 1 (show 0 ≤ t2 ∧ t2 ≤ 7 from (by omega)) (show (1 : Int) = 0 ∨ (1 : Int) = 1 from (by omega)) (show 0 ≤ nh_26 ∧ nh_26 ≤ 1290 from (by omega)) (show bd 10000 (X_26) (Y_26) (nh_26) from (a4))) mf_X12_take kw_1162 hG hP hP (ci := 8) (q0 := 0) rfl rfl rfl hS (fun _ h => h) rfl hl.1 ⟨⟨Nat.le_of_ble_eq_true rfl, Nat.le_of_ble_eq_true rfl⟩, Nat.le_of_ble_eq_true rfl, Nat.le_refl _, Nat.le_refl _⟩ rfl dX12_sum_32 (fun z_32 u32 H locs h_32 hP _ hS => ?_)
        obtain ⟨f0_32, f1_32, f2_32, f3_32, rfl, h_32⟩ := h_32
        have hP : va_P D.1 j_cl (mW D o q (uV (uI (uI (uV (uI (uI (uI (uI (uI (uI u 0 f0_32) 1 f1_32) 2 f2_32) 3 f3_32) 4 f_26) 5 g_26) 6 w_26) 7 X_26) 8 Y_26) 9 nh_26)) H := hP
        have h_32 : (z_32 = -3 ∧ ¬ tk_ok (1 : Int) 40 (X_26) (Y_26) (nh_26) (nh_26) ∧ f0_32 = (u.1 0) ∧ f1_32 = (u.1 1) ∧ f2_32 = (u.1 2) ∧ f3_32 = (u.1 3)) ∨ (z_32 = nh_26 ∧ tk_ok (1 : Int) 40 (X_26) (Y_26) (nh_26) (nh_26) ∧ tk_new (uV (uI (uI (uV (uI (uI u 4 f_26) 5 g_26) 6 w_26) 7 X_26) 8 Y_26) 9 nh_26) f0_32 f1_32 f2_32 f3_32 t2) := h_32
        exact W.iret SS.1 SS.2.1 hr (fun t ht hW => ⟨⟨_, (uV (uI (uI (uV (uI (uI (uI (uI (uI (uI u 0 f0_32) 1 f1_32) 2 f2_32) 3 f3_32) 4 f_26) 5 g_26) 6 w_26) 7 X_26) 8 Y_26) 9 nh_26), rfl, ⟨z_32, rfl, (⟨f0_32, f1_32, f2_32, f3_32, f_26, g_26, w_26, X_26, Y_26, nh_26, rfl, ⟨⟨(show IM (uI (uI (uI (uI (uV (uI (uI (uV (uI (uI u 4 f_26) 5 g_26) 6 w_26) 7 X_26) 8 Y_26) 9 nh_26) 0 f0_32) 1 f1_32) 2 f2_32) 3 f3_32) from IM_tk (u := (uV (uI (uI (uV (uI (uI u 4 f_26) 5 g_26) 6 w_26) 7 X_26) 8 Y_26) 9 nh_26)) p0 ⟨by omega, by omega⟩ (Or.inr rfl) a1 (fun q => by omega) a3 h_32), Or.inr ⟨by omega, by omega, by omega, mkM_tk (v0 := u) (v := (uV (uI (uI (uV (uI (uI u 4 f_26) 5 g_26) 6 w_26) 7 X_26) 8 Y_26) 9 nh_26)) p0.1 rfl rfl rfl ⟨by omega, by omega⟩ a1 (Or.inr rfl) (fun q => by omega) a7 (fun _ _ => Iff.rfl) h_32⟩⟩, mHr_k (nh := nh_26) rfl (by omega) h_32⟩⟩)⟩, by show va_P D.1 j_cl (mW D o q (uV (uI (uI (uV (uI (uI (uI (uI (uI (uI u 0 f0_32) 1 f1_32) 2 f2_32) 3 f3_32) 4 f_26) 5 g_26) 6 w_26) 7 X_26) 8 Y_26) 9 nh_26)) t.heap; rw [ht]; exact hP⟩, hS.F ht⟩) hS.2.2 dX12_sum_35 hlk
      · skip
        refine j_iconst SS dX12_sum_21 ?_
        exact W.iret SS.1 SS.2.1 hr (fun t ht hW => ⟨⟨_, (uV (uI (uI (uV (uI (uI (uI (uI (uI (uI u 0 (u.1 0)) 1 (u.1 1)) 2 (u.1 2)) 3 (u.1 3)) 4 (u.1 4)) 5 (u.1 5)) 6 (u.2.2 6)) 7 (u.1 7)) 8 (u.1 8)) 9 (u.2.2 9)), rfl, ⟨(-1), rfl, (⟨(u.1 0), (u.1 1), (u.1 2), (u.1 3), (u.1 4), (u.1 5), (u.2.2 6), (u.1 7), (u.1 8), (u.2.2 9), rfl, ⟨⟨p0, Or.inl ⟨by omega, rfl, rfl, rfl, rfl⟩⟩, mHr_n rfl (by decide)⟩⟩)⟩, by show va_P D.1 j_cl (mW D o q (uV (uI (uI (uV (uI (uI (uI (uI (uI (uI u 0 (u.1 0)) 1 (u.1 1)) 2 (u.1 2)) 3 (u.1 3)) 4 (u.1 4)) 5 (u.1 5)) 6 (u.2.2 6)) 7 (u.1 7)) 8 (u.1 8)) 9 (u.2.2 9))) t.heap; rw [ht]; exact hP⟩, hS.F ht⟩) hS.2.2 dX12_sum_22 hlk

set_option maxHeartbeats 4000000 in
set_option maxRecDepth 100000 in
theorem c_X12_mapH (l : Launch) (D : JD) (o : Nat) (q : Nat → Nat) (u : MS) (A : Nat → Prop) (hD : va_D A (mW D o q u)) (s : Int) (t2 : Int) (a : Int) (b : Int) (c : Int) (d : Int) (e : Int) (f : Int) (p0 : IM u) (p1 : -2147483648 ≤ s ∧ s ≤ 2147483647) (p2 : -2147483648 ≤ t2 ∧ t2 ≤ 2147483647) (p3 : -2147483648 ≤ a ∧ a ≤ 2147483647) (p4 : -2147483648 ≤ b ∧ b ≤ 2147483647) (p5 : -2147483648 ≤ c ∧ c ≤ 2147483647) (p6 : -2147483648 ≤ d ∧ d ≤ 2147483647) (p7 : -2147483648 ≤ e ∧ e ≤ 2147483647) (p8 : -2147483648 ≤ f ∧ f ≤ 2147483647) : Met l yX12_map (jw yX12_map cX12_map 10 (some .int)) (jr 3 68) (jP [.ref o, .int (J s), .int (J t2), .int (J a), .int (J b), .int (J c), .int (J d), .int (J e), .int (J f)] D (fun H => va_P D.1 j_cl (mW D o q u) H)) (jWi (fun z u' => ∃ f0 : Nat → Int, ∃ f1 : Nat → Int, ∃ f2 : Nat → Int, ∃ f3 : Nat → Int, ∃ f4 : Nat → Int, ∃ f5 : Nat → Int, ∃ w : Int, ∃ X : Nat → Int, ∃ Y : Nat → Int, ∃ nh : Int, u' = (uV (uI (uI (uV (uI (uI (uI (uI (uI (uI u 0 f0) 1 f1) 2 f2) 3 f3) 4 f4) 5 f5) 6 w) 7 X) 8 Y) 9 nh) ∧ ((IM u' ∧ mpM u u' s t2 a b c d e f z) ∧ mHr u u' t2 z)) (fun u' H => va_P D.1 j_cl (mW D o q u') H) A) 0 0 A := by
  refine Met.ofW (cc := cX12_map) (maxL := 10) (ret := (some .int)) (by decide) rfl ?_
  intro pr en st mi args below meth co s₁ B hml hv
  obtain ⟨rfl, hG, hP⟩ := hv
  have hr := B.returns
  have hlk := B.notSynchronized
  have SS : jS pr mi co cX12_map 10 st _ RX12 := ⟨B.exec, B.bytes, hml, findClass_of_methodNamed B.named, fun w hw => atoms_spec (ws := (jw yX12_map cX12_map 10 (some .int))) B.pre w (List.mem_cons_of_mem _ hw)⟩
  have hl := lv_entry ([.ref o, .int (J s), .int (J t2), .int (J a), .int (J b), .int (J c), .int (J d), .int (J e), .int (J f)]) (n := 10) (Nat.le_of_ble_eq_true rfl)
  rw [lg_entry_eq]
  generalize (lg_sl ([.ref o, .int (J s), .int (J t2), .int (J a), .int (J b), .int (J c), .int (J d), .int (J e), .int (J f)]) ++ List.replicate (10 - (lg_sl ([.ref o, .int (J s), .int (J t2), .int (J a), .int (J b), .int (J c), .int (J d), .int (J e), .int (J f)])).length) Slot.unset).toArray = ls at hl ⊢
  have hl : lv_has ls 10 [(0, .ref o), (1, .int (J s)), (2, .int (J t2)), (3, .int (J a)), (4, .int (J b)), (5, .int (J c)), (6, .int (J d)), (7, .int (J e)), (8, .int (J f))] := hl
  have hS : va_S A st.heap st.heap [] := va_S.rf
  refine lv_iload_n SS.1 SS.2.1 dX12_map_0 rfl (lv_at hl 1 rfl) ?_
  refine j_sRi SS (As := [.int (J s)]) (rest := []) (c_X12_isShape l D s (show -2147483648 ≤ s ∧ s ≤ 2147483647 from (by omega))) mf_X12_isShape kw_1156 hG trivial rfl hl.1 ⟨⟨Nat.le_of_ble_eq_true rfl, Nat.le_of_ble_eq_true rfl⟩, Nat.le_of_ble_eq_true rfl, Nat.le_refl _, Nat.le_refl _⟩ rfl dX12_map_1 (fun z_1 h_1 => ?_)
  have h_1 : (z_1 = 1 ∧ (0 ≤ s ∧ s ≤ 7)) ∨ (z_1 = 0 ∧ ¬ (0 ≤ s ∧ s ≤ 7)) := h_1
  refine j_if_eq SS (tgt := 43) (x := z_1) dX12_map_4 (by decide) (by omega) (fun c_4 => ?_) (fun c_4 => ?_)
  · skip
    refine j_iconst SS dX12_map_43 ?_
    exact W.iret SS.1 SS.2.1 hr (fun t ht hW => ⟨⟨_, (uV (uI (uI (uV (uI (uI (uI (uI (uI (uI u 0 (u.1 0)) 1 (u.1 1)) 2 (u.1 2)) 3 (u.1 3)) 4 (u.1 4)) 5 (u.1 5)) 6 (u.2.2 6)) 7 (u.1 7)) 8 (u.1 8)) 9 (u.2.2 9)), rfl, ⟨(-1), rfl, (⟨(u.1 0), (u.1 1), (u.1 2), (u.1 3), (u.1 4), (u.1 5), (u.2.2 6), (u.1 7), (u.1 8), (u.2.2 9), rfl, ⟨⟨p0, Or.inl ⟨by unfold six; omega, rfl, rfl, rfl, rfl⟩⟩, mHr_n rfl (by decide)⟩⟩)⟩, by show va_P D.1 j_cl (mW D o q (uV (uI (uI (uV (uI (uI (uI (uI (uI (uI u 0 (u.1 0)) 1 (u.1 1)) 2 (u.1 2)) 3 (u.1 3)) 4 (u.1 4)) 5 (u.1 5)) 6 (u.2.2 6)) 7 (u.1 7)) 8 (u.1 8)) 9 (u.2.2 9))) t.heap; rw [ht]; exact hP⟩, hS.F ht⟩) hS.2.2 dX12_map_44 hlk
  · skip
    refine lv_iload_n SS.1 SS.2.1 dX12_map_7 rfl (lv_at hl 2 rfl) ?_
    refine j_sRi SS (As := [.int (J t2)]) (rest := []) (c_X12_isShape l D t2 (show -2147483648 ≤ t2 ∧ t2 ≤ 2147483647 from (by omega))) mf_X12_isShape kw_1156 hG trivial rfl hl.1 ⟨⟨Nat.le_of_ble_eq_true rfl, Nat.le_of_ble_eq_true rfl⟩, Nat.le_of_ble_eq_true rfl, Nat.le_refl _, Nat.le_refl _⟩ rfl dX12_map_8 (fun z_8 h_8 => ?_)
    have h_8 : (z_8 = 1 ∧ (0 ≤ t2 ∧ t2 ≤ 7)) ∨ (z_8 = 0 ∧ ¬ (0 ≤ t2 ∧ t2 ≤ 7)) := h_8
    refine j_if_eq SS (tgt := 43) (x := z_8) dX12_map_11 (by decide) (by omega) (fun c_11 => ?_) (fun c_11 => ?_)
    · skip
      refine j_iconst SS dX12_map_43 ?_
      exact W.iret SS.1 SS.2.1 hr (fun t ht hW => ⟨⟨_, (uV (uI (uI (uV (uI (uI (uI (uI (uI (uI u 0 (u.1 0)) 1 (u.1 1)) 2 (u.1 2)) 3 (u.1 3)) 4 (u.1 4)) 5 (u.1 5)) 6 (u.2.2 6)) 7 (u.1 7)) 8 (u.1 8)) 9 (u.2.2 9)), rfl, ⟨(-1), rfl, (⟨(u.1 0), (u.1 1), (u.1 2), (u.1 3), (u.1 4), (u.1 5), (u.2.2 6), (u.1 7), (u.1 8), (u.2.2 9), rfl, ⟨⟨p0, Or.inl ⟨by unfold six; omega, rfl, rfl, rfl, rfl⟩⟩, mHr_n rfl (by decide)⟩⟩)⟩, by show va_P D.1 j_cl (mW D o q (uV (uI (uI (uV (uI (uI (uI (uI (uI (uI u 0 (u.1 0)) 1 (u.1 1)) 2 (u.1 2)) 3 (u.1 3)) 4 (u.1 4)) 5 (u.1 5)) 6 (u.2.2 6)) 7 (u.1 7)) 8 (u.1 8)) 9 (u.2.2 9))) t.heap; rw [ht]; exact hP⟩, hS.F ht⟩) hS.2.2 dX12_map_44 hlk
    · skip
      refine lv_iload_n SS.1 SS.2.1 dX12_map_14 rfl (lv_at hl 3 rfl) ?_
      refine lv_iload SS.1 SS.2.1 dX12_map_15 (lv_at hl 4 rfl) ?_
      refine j_sRi SS (As := [.int (J a), .int (J b)]) (rest := []) (c_X12_isPlace l D a b (show -2147483648 ≤ a ∧ a ≤ 2147483647 from (by omega)) (show -2147483648 ≤ b ∧ b ≤ 2147483647 from (by omega))) mf_X12_isPlace kw_1166 hG trivial rfl hl.1 ⟨⟨Nat.le_of_ble_eq_true rfl, Nat.le_of_ble_eq_true rfl⟩, Nat.le_of_ble_eq_true rfl, Nat.le_refl _, Nat.le_refl _⟩ rfl dX12_map_17 (fun z_17 h_17 => ?_)
      have h_17 : (z_17 = 1 ∧ (-40 ≤ a ∧ a ≤ 40 ∧ -40 ≤ b ∧ b ≤ 40)) ∨ (z_17 = 0 ∧ ¬ (-40 ≤ a ∧ a ≤ 40 ∧ -40 ≤ b ∧ b ≤ 40)) := h_17
      refine j_if_eq SS (tgt := 43) (x := z_17) dX12_map_20 (by decide) (by omega) (fun c_20 => ?_) (fun c_20 => ?_)
      · skip
        refine j_iconst SS dX12_map_43 ?_
        exact W.iret SS.1 SS.2.1 hr (fun t ht hW => ⟨⟨_, (uV (uI (uI (uV (uI (uI (uI (uI (uI (uI u 0 (u.1 0)) 1 (u.1 1)) 2 (u.1 2)) 3 (u.1 3)) 4 (u.1 4)) 5 (u.1 5)) 6 (u.2.2 6)) 7 (u.1 7)) 8 (u.1 8)) 9 (u.2.2 9)), rfl, ⟨(-1), rfl, (⟨(u.1 0), (u.1 1), (u.1 2), (u.1 3), (u.1 4), (u.1 5), (u.2.2 6), (u.1 7), (u.1 8), (u.2.2 9), rfl, ⟨⟨p0, Or.inl ⟨by unfold six; omega, rfl, rfl, rfl, rfl⟩⟩, mHr_n rfl (by decide)⟩⟩)⟩, by show va_P D.1 j_cl (mW D o q (uV (uI (uI (uV (uI (uI (uI (uI (uI (uI u 0 (u.1 0)) 1 (u.1 1)) 2 (u.1 2)) 3 (u.1 3)) 4 (u.1 4)) 5 (u.1 5)) 6 (u.2.2 6)) 7 (u.1 7)) 8 (u.1 8)) 9 (u.2.2 9))) t.heap; rw [ht]; exact hP⟩, hS.F ht⟩) hS.2.2 dX12_map_44 hlk
      · skip
        refine lv_iload SS.1 SS.2.1 dX12_map_23 (lv_at hl 5 rfl) ?_
        refine lv_iload SS.1 SS.2.1 dX12_map_25 (lv_at hl 6 rfl) ?_
        refine j_sRi SS (As := [.int (J c), .int (J d)]) (rest := []) (c_X12_isPlace l D c d (show -2147483648 ≤ c ∧ c ≤ 2147483647 from (by omega)) (show -2147483648 ≤ d ∧ d ≤ 2147483647 from (by omega))) mf_X12_isPlace kw_1166 hG trivial rfl hl.1 ⟨⟨Nat.le_of_ble_eq_true rfl, Nat.le_of_ble_eq_true rfl⟩, Nat.le_of_ble_eq_true rfl, Nat.le_refl _, Nat.le_refl _⟩ rfl dX12_map_27 (fun z_27 h_27 => ?_)
        have h_27 : (z_27 = 1 ∧ (-40 ≤ c ∧ c ≤ 40 ∧ -40 ≤ d ∧ d ≤ 40)) ∨ (z_27 = 0 ∧ ¬ (-40 ≤ c ∧ c ≤ 40 ∧ -40 ≤ d ∧ d ≤ 40)) := h_27
        refine j_if_eq SS (tgt := 43) (x := z_27) dX12_map_30 (by decide) (by omega) (fun c_30 => ?_) (fun c_30 => ?_)
        · skip
          refine j_iconst SS dX12_map_43 ?_
          exact W.iret SS.1 SS.2.1 hr (fun t ht hW => ⟨⟨_, (uV (uI (uI (uV (uI (uI (uI (uI (uI (uI u 0 (u.1 0)) 1 (u.1 1)) 2 (u.1 2)) 3 (u.1 3)) 4 (u.1 4)) 5 (u.1 5)) 6 (u.2.2 6)) 7 (u.1 7)) 8 (u.1 8)) 9 (u.2.2 9)), rfl, ⟨(-1), rfl, (⟨(u.1 0), (u.1 1), (u.1 2), (u.1 3), (u.1 4), (u.1 5), (u.2.2 6), (u.1 7), (u.1 8), (u.2.2 9), rfl, ⟨⟨p0, Or.inl ⟨by unfold six; omega, rfl, rfl, rfl, rfl⟩⟩, mHr_n rfl (by decide)⟩⟩)⟩, by show va_P D.1 j_cl (mW D o q (uV (uI (uI (uV (uI (uI (uI (uI (uI (uI u 0 (u.1 0)) 1 (u.1 1)) 2 (u.1 2)) 3 (u.1 3)) 4 (u.1 4)) 5 (u.1 5)) 6 (u.2.2 6)) 7 (u.1 7)) 8 (u.1 8)) 9 (u.2.2 9))) t.heap; rw [ht]; exact hP⟩, hS.F ht⟩) hS.2.2 dX12_map_44 hlk
        · skip
          refine lv_iload SS.1 SS.2.1 dX12_map_33 (lv_at hl 7 rfl) ?_
          refine lv_iload SS.1 SS.2.1 dX12_map_35 (lv_at hl 8 rfl) ?_
          refine j_sRi SS (As := [.int (J e), .int (J f)]) (rest := []) (c_X12_isPlace l D e f (show -2147483648 ≤ e ∧ e ≤ 2147483647 from (by omega)) (show -2147483648 ≤ f ∧ f ≤ 2147483647 from (by omega))) mf_X12_isPlace kw_1166 hG trivial rfl hl.1 ⟨⟨Nat.le_of_ble_eq_true rfl, Nat.le_of_ble_eq_true rfl⟩, Nat.le_of_ble_eq_true rfl, Nat.le_refl _, Nat.le_refl _⟩ rfl dX12_map_37 (fun z_37 h_37 => ?_)
          have h_37 : (z_37 = 1 ∧ (-40 ≤ e ∧ e ≤ 40 ∧ -40 ≤ f ∧ f ≤ 40)) ∨ (z_37 = 0 ∧ ¬ (-40 ≤ e ∧ e ≤ 40 ∧ -40 ≤ f ∧ f ≤ 40)) := h_37
          refine j_if_ne SS (tgt := 45) (x := z_37) dX12_map_40 (by decide) (by omega) (fun c_40 => ?_) (fun c_40 => ?_)
          · skip
            refine lv_iload_n SS.1 SS.2.1 dX12_map_45 rfl (lv_at hl 3 rfl) ?_
            refine lv_iload SS.1 SS.2.1 dX12_map_46 (lv_at hl 6 rfl) ?_
            refine j_imul SS (x := a) (y := d) dX12_map_48 ?_
            refine lv_iload SS.1 SS.2.1 dX12_map_49 (lv_at hl 4 rfl) ?_
            refine lv_iload SS.1 SS.2.1 dX12_map_51 (lv_at hl 5 rfl) ?_
            refine j_imul SS (x := b) (y := c) dX12_map_53 ?_
            refine j_isub SS (x := (a * d)) (y := (b * c)) dX12_map_54 ?_
            have m1 := mulb (A := 40) (B := 40) (a := a) (b := d) (by omega) (by omega)
            have m2 := mulb (A := 40) (B := 40) (a := b) (b := c) (by omega) (by omega)
            refine j_sRi SS (As := [.int (J ((a * d) - (b * c)))]) (rest := []) (c_X12_size l D ((a * d) - (b * c)) (show -2147483648 < ((a * d) - (b * c)) ∧ ((a * d) - (b * c)) ≤ 2147483647 from (by omega))) mf_X12_size kw_1233 hG trivial rfl hl.1 ⟨⟨Nat.le_of_ble_eq_true rfl, Nat.le_of_ble_eq_true rfl⟩, Nat.le_of_ble_eq_true rfl, Nat.le_refl _, Nat.le_refl _⟩ rfl dX12_map_55 (fun z_55 h_55 => ?_)
            have h_55 : (0 ≤ ((a * d) - (b * c)) → z_55 = ((a * d) - (b * c))) ∧ (((a * d) - (b * c)) < 0 → z_55 = -((a * d) - (b * c))) := h_55
            refine j_iconst SS dX12_map_58 ?_
            refine j_icmp_eq SS (tgt := 65) (x := z_55) (y := 1) dX12_map_59 (by decide) (by omega) (by decide) (fun c_59 => ?_) (fun c_59 => ?_)
            · skip
              have hSh := p0.1 s (by omega) (by omega)
              have hN := hSh.1
              refine lv_aload_n SS.1 SS.2.1 dX12_map_65 rfl (lv_at hl 0 rfl) ?_
              refine j_iconst SS dX12_map_66 ?_
              refine j_put SS hG hP (mW_D hD) hS 0 (v := .int (J 0)) (ty := .int) (C := RX12) (T := TX12) (N := 31) rfl rfl inX12 tyX12 tyX12_ok nmX12 6 (by decide) (ref := RX12) kw_1064 rfl rfl (by decide +kernel) rfl rfl (Nat.le_of_ble_eq_true rfl) dX12_map_67 (ws' := (mW D o q (uV u 6 0))) rfl (fun H locs hP hS => ?_)
              refine j_iconst SS dX12_map_70 ?_
              refine lv_istore (lv' := [(9, .int (J 0)), (0, .ref o), (1, .int (J s)), (2, .int (J t2)), (3, .int (J a)), (4, .int (J b)), (5, .int (J c)), (6, .int (J d)), (7, .int (J e)), (8, .int (J f))]) SS.1 SS.2.1 dX12_map_71 hl (by decide) rfl (fun ls hl => ?_)
              have L_73 : ∀ (nn : Nat) (i : Int) (ff : Nat → Int) (g : Nat → Int) (w : Int) (H : Heap) (locs : List Loc) (hP : va_P D.1 j_cl (mW D o q (uV (uI (uI u 4 ff) 5 g) 6 w)) H) (hS : va_S A st.heap H locs) (ls : Array Slot) (hl : lv_has ls 10 [(0, .ref o), (1, .int (J s)), (2, .int (J t2)), (3, .int (J a)), (4, .int (J b)), (5, .int (J c)), (6, .int (J d)), (7, .int (J e)), (8, .int (J f)), (9, .int (J i))]) (i73_0 : 0 ≤ i ∧ i ≤ mN u s) (i73_1 : w = i) (i73_2 : bd 10000 ff g w) (i73_3 : ∀ x y : Int, SWW ff g w x y ↔ MP (SPi u s i) a b c d e f x y), (mN u s - i).toNat < nn → W pr l en (headSpec (jw yX12_map cX12_map 10 (some .int)) (jr 3 68)).room st mi (([.ref o, .int (J s), .int (J t2), .int (J a), .int (J b), .int (J c), .int (J d), .int (J e), .int (J f)] : List Value).toArray) below meth co H locs 0 0 (MQ below (jWi (fun z u' => ∃ f0 : Nat → Int, ∃ f1 : Nat → Int, ∃ f2 : Nat → Int, ∃ f3 : Nat → Int, ∃ f4 : Nat → Int, ∃ f5 : Nat → Int, ∃ w : Int, ∃ X : Nat → Int, ∃ Y : Nat → Int, ∃ nh : Int, u' = (uV (uI (uI (uV (uI (uI (uI (uI (uI (uI u 0 f0) 1 f1) 2 f2) 3 f3) 4 f4) 5 f5) 6 w) 7 X) 8 Y) 9 nh) ∧ ((IM u' ∧ mpM u u' s t2 a b c d e f z) ∧ mHr u u' t2 z)) (fun u' H => va_P D.1 j_cl (mW D o q u') H) A) (([.ref o, .int (J s), .int (J t2), .int (J a), .int (J b), .int (J c), .int (J d), .int (J e), .int (J f)] : List Value).toArray) st 0 0 A) (F0 mi 73 ls []) := by
                intro nn
                induction nn with
                | zero => intros; omega
                | succ nn ih_73 =>
                  intro i ff g w H locs hP hS ls hl i73_0 i73_1 i73_2 i73_3 hm
                  refine lv_iload SS.1 SS.2.1 dX12_map_73 (lv_at hl 9 rfl) ?_
                  refine lv_aload_n SS.1 SS.2.1 dX12_map_75 rfl (lv_at hl 0 rfl) ?_
                  refine j_get SS hG hP 0 (v := .ref (q 0)) (C := RX12) (T := TX12) (N := 31) rfl rfl inX12 0 (by decide) (ref := RX12) kw_1058 rfl rfl dX12_map_76 ?_
                  refine lv_iload_n SS.1 SS.2.1 dX12_map_79 rfl (lv_at hl 1 rfl) ?_
                  refine j_iald SS hG hP 1 (n := 8) (f := (u.1 0)) rfl (z := s) (by omega) (by omega) dX12_map_80 ?_
                  have hN_80 := (show Sh u s from p0.1 _ (by omega) (by omega)).1
                  refine j_icmp_ge SS (tgt := 141) (x := i) (y := (mN u s)) dX12_map_81 (by decide) (by omega) (by omega) (fun c_81 => ?_) (fun c_81 => ?_)
                  · skip
                    refine lv_aload_n SS.1 SS.2.1 dX12_map_141 rfl (lv_at hl 0 rfl) ?_
                    refine j_vWv SS (As := []) (rest := []) (c_X12_findHull2 l D o q (uV (uI (uI u 4 ff) 5 g) 6 w) A (mW_D hD)  (show 0 ≤ w ∧ w ≤ 640 from (by omega)) (show bd 10000 (ff) (g) (w) from (i73_2))) mf_X12_findHull kw_1189 hG hP hP (ci := 8) (q0 := 0) rfl rfl rfl hS (fun _ h => h) rfl hl.1 ⟨⟨Nat.le_of_ble_eq_true rfl, Nat.le_of_ble_eq_true rfl⟩, Nat.le_of_ble_eq_true rfl, Nat.le_refl _, Nat.le_refl _⟩ rfl dX12_map_142 (fun u142 H locs h_142 hP _ hS => ?_)
                    obtain ⟨f_142, g_142, w_142, X_142, Y_142, nh_142, rfl, h_142⟩ := h_142
                    have hP : va_P D.1 j_cl (mW D o q (uV (uI (uI (uV (uI (uI u 4 f_142) 5 g_142) 6 w_142) 7 X_142) 8 Y_142) 9 nh_142)) H := hP
                    have h_142 : 0 ≤ nh_142 ∧ nh_142 ≤ 1290 ∧ Ch nh_142 X_142 Y_142 ∧ (0 < w → 0 < nh_142) ∧ bd 10000 X_142 Y_142 nh_142 ∧ (∀ K : Int, bd K (ff) (g) (w) → bd K X_142 Y_142 nh_142) ∧ HS (SWW (ff) (g) (w)) nh_142 X_142 Y_142 := h_142
                    obtain ⟨a1, a2, a3, a4, a5, a6, a7⟩ := h_142
                    refine lv_aload_n SS.1 SS.2.1 dX12_map_145 rfl (lv_at hl 0 rfl) ?_
                    refine lv_iload_n SS.1 SS.2.1 dX12_map_146 rfl (lv_at hl 2 rfl) ?_
                    refine j_iconst SS dX12_map_147 ?_
                    refine j_vWi SS (As := [.int (J t2), .int (J 1)]) (rest := []) (c_X12_take l D o q (uV (uI (uI (uV (uI (uI u 4 f_142) 5 g_142) 6 w_142) 7 X_142) 8 Y_142) 9 nh_142) A (mW_D hD) t2 1 (show 0 ≤ t2 ∧ t2 ≤ 7 from (by omega)) (show (1 : Int) = 0 ∨ (1 : Int) = 1 from (by omega)) (show 0 ≤ nh_142 ∧ nh_142 ≤ 1290 from (by omega)) (show bd 10000 (X_142) (Y_142) (nh_142) from (a5))) mf_X12_take kw_1162 hG hP hP (ci := 8) (q0 := 0) rfl rfl rfl hS (fun _ h => h) rfl hl.1 ⟨⟨Nat.le_of_ble_eq_true rfl, Nat.le_of_ble_eq_true rfl⟩, Nat.le_of_ble_eq_true rfl, Nat.le_refl _, Nat.le_refl _⟩ rfl dX12_map_148 (fun z_148 u148 H locs h_148 hP _ hS => ?_)
                    obtain ⟨f0_148, f1_148, f2_148, f3_148, rfl, h_148⟩ := h_148
                    have hP : va_P D.1 j_cl (mW D o q (uV (uI (uI (uV (uI (uI (uI (uI (uI (uI u 0 f0_148) 1 f1_148) 2 f2_148) 3 f3_148) 4 f_142) 5 g_142) 6 w_142) 7 X_142) 8 Y_142) 9 nh_142)) H := hP
                    have h_148 : (z_148 = -3 ∧ ¬ tk_ok (1 : Int) 40 (X_142) (Y_142) (nh_142) (nh_142) ∧ f0_148 = (u.1 0) ∧ f1_148 = (u.1 1) ∧ f2_148 = (u.1 2) ∧ f3_148 = (u.1 3)) ∨ (z_148 = nh_142 ∧ tk_ok (1 : Int) 40 (X_142) (Y_142) (nh_142) (nh_142) ∧ tk_new (uV (uI (uI (uV (uI (uI u 4 f_142) 5 g_142) 6 w_142) 7 X_142) 8 Y_142) 9 nh_142) f0_148 f1_148 f2_148 f3_148 t2) := h_148
                    exact W.iret SS.1 SS.2.1 hr (fun t ht hW => ⟨⟨_, (uV (uI (uI (uV (uI (uI (uI (uI (uI (uI u 0 f0_148) 1 f1_148) 2 f2_148) 3 f3_148) 4 f_142) 5 g_142) 6 w_142) 7 X_142) 8 Y_142) 9 nh_142), rfl, ⟨z_148, rfl, (⟨f0_148, f1_148, f2_148, f3_148, f_142, g_142, w_142, X_142, Y_142, nh_142, rfl, ⟨⟨(show IM (uI (uI (uI (uI (uV (uI (uI (uV (uI (uI u 4 f_142) 5 g_142) 6 w_142) 7 X_142) 8 Y_142) 9 nh_142) 0 f0_148) 1 f1_148) 2 f2_148) 3 f3_148) from IM_tk (u := (uV (uI (uI (uV (uI (uI u 4 f_142) 5 g_142) 6 w_142) 7 X_142) 8 Y_142) 9 nh_142)) p0 ⟨by omega, by omega⟩ (Or.inr rfl) a1 (fun q => by omega) a3 h_148), Or.inr ⟨by omega, by omega, by unfold six; omega, Or.inr ⟨by omega, mkM_tk (v0 := u) (v := (uV (uI (uI (uV (uI (uI u 4 f_142) 5 g_142) 6 w_142) 7 X_142) 8 Y_142) 9 nh_142)) p0.1 rfl rfl rfl ⟨by omega, by omega⟩ a1 (Or.inr rfl) (fun q => by omega) a7 (by rw [show i = mN u s by omega] at i73_3; exact i73_3) h_148⟩⟩⟩, mHr_k (nh := nh_142) rfl (by omega) h_148⟩⟩)⟩, by show va_P D.1 j_cl (mW D o q (uV (uI (uI (uV (uI (uI (uI (uI (uI (uI u 0 f0_148) 1 f1_148) 2 f2_148) 3 f3_148) 4 f_142) 5 g_142) 6 w_142) 7 X_142) 8 Y_142) 9 nh_142)) t.heap; rw [ht]; exact hP⟩, hS.F ht⟩) hS.2.2 dX12_map_151 hlk
                  · skip
                    refine lv_aload_n SS.1 SS.2.1 dX12_map_84 rfl (lv_at hl 0 rfl) ?_
                    refine lv_iload_n SS.1 SS.2.1 dX12_map_85 rfl (lv_at hl 3 rfl) ?_
                    refine lv_aload_n SS.1 SS.2.1 dX12_map_86 rfl (lv_at hl 0 rfl) ?_
                    refine lv_iload_n SS.1 SS.2.1 dX12_map_87 rfl (lv_at hl 1 rfl) ?_
                    refine lv_iload SS.1 SS.2.1 dX12_map_88 (lv_at hl 9 rfl) ?_
                    refine j_vRi SS (As := [.int (J s), .int (J i)]) (rest := [.int (J a), .ref o]) (c_X12_x l D o q (uV (uI (uI u 4 ff) 5 g) 6 w) s i (show 0 ≤ s ∧ s ≤ 7 from (by omega)) (show 0 ≤ i ∧ i ≤ 1000000 from (by omega)) (show 0 < mN u s ∧ mN u s ≤ 24 from (by first | omega | (have hq := (show Sh u s from p0.1 _ (by omega) (by omega)).1; omega)))) mf_X12_x kw_1177 hG hP hP (ci := 8) (q0 := 0) rfl rfl rfl rfl hl.1 ⟨⟨Nat.le_of_ble_eq_true rfl, Nat.le_of_ble_eq_true rfl⟩, Nat.le_of_ble_eq_true rfl, Nat.le_refl _, Nat.le_refl _⟩ rfl dX12_map_90 (fun z_90 h_90 => ?_)
                    have h_90 : z_90 = mX u s i := h_90
                    have hb_90 := (show Sh u s from p0.1 _ (by omega) (by omega)).2.1 (by omega) i (by omega)
                    refine j_imul SS (x := a) (y := z_90) dX12_map_93 ?_
                    refine lv_iload SS.1 SS.2.1 dX12_map_94 (lv_at hl 4 rfl) ?_
                    refine lv_aload_n SS.1 SS.2.1 dX12_map_96 rfl (lv_at hl 0 rfl) ?_
                    refine lv_iload_n SS.1 SS.2.1 dX12_map_97 rfl (lv_at hl 1 rfl) ?_
                    refine lv_iload SS.1 SS.2.1 dX12_map_98 (lv_at hl 9 rfl) ?_
                    refine j_vRi SS (As := [.int (J s), .int (J i)]) (rest := [.int (J b), .int (J (a * z_90)), .ref o]) (c_X12_y l D o q (uV (uI (uI u 4 ff) 5 g) 6 w) s i (show 0 ≤ s ∧ s ≤ 7 from (by omega)) (show 0 ≤ i ∧ i ≤ 1000000 from (by omega)) (show 0 < mN u s ∧ mN u s ≤ 24 from (by first | omega | (have hq := (show Sh u s from p0.1 _ (by omega) (by omega)).1; omega)))) mf_X12_y kw_1181 hG hP hP (ci := 8) (q0 := 0) rfl rfl rfl rfl hl.1 ⟨⟨Nat.le_of_ble_eq_true rfl, Nat.le_of_ble_eq_true rfl⟩, Nat.le_of_ble_eq_true rfl, Nat.le_refl _, Nat.le_refl _⟩ rfl dX12_map_100 (fun z_100 h_100 => ?_)
                    have h_100 : z_100 = mY u s i := h_100
                    have hb_100 := (show Sh u s from p0.1 _ (by omega) (by omega)).2.1 (by omega) i (by omega)
                    refine j_imul SS (x := b) (y := z_100) dX12_map_103 ?_
                    refine j_iadd SS (x := (a * z_90)) (y := (b * z_100)) dX12_map_104 ?_
                    refine lv_iload SS.1 SS.2.1 dX12_map_105 (lv_at hl 7 rfl) ?_
                    refine j_iadd SS (x := ((a * z_90) + (b * z_100))) (y := e) dX12_map_107 ?_
                    refine lv_iload SS.1 SS.2.1 dX12_map_108 (lv_at hl 5 rfl) ?_
                    refine lv_aload_n SS.1 SS.2.1 dX12_map_110 rfl (lv_at hl 0 rfl) ?_
                    refine lv_iload_n SS.1 SS.2.1 dX12_map_111 rfl (lv_at hl 1 rfl) ?_
                    refine lv_iload SS.1 SS.2.1 dX12_map_112 (lv_at hl 9 rfl) ?_
                    refine j_vRi SS (As := [.int (J s), .int (J i)]) (rest := [.int (J c), .int (J (((a * z_90) + (b * z_100)) + e)), .ref o]) (c_X12_x l D o q (uV (uI (uI u 4 ff) 5 g) 6 w) s i (show 0 ≤ s ∧ s ≤ 7 from (by omega)) (show 0 ≤ i ∧ i ≤ 1000000 from (by omega)) (show 0 < mN u s ∧ mN u s ≤ 24 from (by first | omega | (have hq := (show Sh u s from p0.1 _ (by omega) (by omega)).1; omega)))) mf_X12_x kw_1177 hG hP hP (ci := 8) (q0 := 0) rfl rfl rfl rfl hl.1 ⟨⟨Nat.le_of_ble_eq_true rfl, Nat.le_of_ble_eq_true rfl⟩, Nat.le_of_ble_eq_true rfl, Nat.le_refl _, Nat.le_refl _⟩ rfl dX12_map_114 (fun z_114 h_114 => ?_)
                    have h_114 : z_114 = mX u s i := h_114
                    have hb_114 := (show Sh u s from p0.1 _ (by omega) (by omega)).2.1 (by omega) i (by omega)
                    refine j_imul SS (x := c) (y := z_114) dX12_map_117 ?_
                    refine lv_iload SS.1 SS.2.1 dX12_map_118 (lv_at hl 6 rfl) ?_
                    refine lv_aload_n SS.1 SS.2.1 dX12_map_120 rfl (lv_at hl 0 rfl) ?_
                    refine lv_iload_n SS.1 SS.2.1 dX12_map_121 rfl (lv_at hl 1 rfl) ?_
                    refine lv_iload SS.1 SS.2.1 dX12_map_122 (lv_at hl 9 rfl) ?_
                    refine j_vRi SS (As := [.int (J s), .int (J i)]) (rest := [.int (J d), .int (J (c * z_114)), .int (J (((a * z_90) + (b * z_100)) + e)), .ref o]) (c_X12_y l D o q (uV (uI (uI u 4 ff) 5 g) 6 w) s i (show 0 ≤ s ∧ s ≤ 7 from (by omega)) (show 0 ≤ i ∧ i ≤ 1000000 from (by omega)) (show 0 < mN u s ∧ mN u s ≤ 24 from (by first | omega | (have hq := (show Sh u s from p0.1 _ (by omega) (by omega)).1; omega)))) mf_X12_y kw_1181 hG hP hP (ci := 8) (q0 := 0) rfl rfl rfl rfl hl.1 ⟨⟨Nat.le_of_ble_eq_true rfl, Nat.le_of_ble_eq_true rfl⟩, Nat.le_of_ble_eq_true rfl, Nat.le_refl _, Nat.le_refl _⟩ rfl dX12_map_124 (fun z_124 h_124 => ?_)
                    have h_124 : z_124 = mY u s i := h_124
                    have hb_124 := (show Sh u s from p0.1 _ (by omega) (by omega)).2.1 (by omega) i (by omega)
                    refine j_imul SS (x := d) (y := z_124) dX12_map_127 ?_
                    refine j_iadd SS (x := (c * z_114)) (y := (d * z_124)) dX12_map_128 ?_
                    refine lv_iload SS.1 SS.2.1 dX12_map_129 (lv_at hl 8 rfl) ?_
                    refine j_iadd SS (x := ((c * z_114) + (d * z_124))) (y := f) dX12_map_131 ?_
                    have n1 := mulb (A := 40) (B := 40) (a := a) (b := z_90) (by omega) (by omega)
                    have n2 := mulb (A := 40) (B := 40) (a := b) (b := z_100) (by omega) (by omega)
                    have n3 := mulb (A := 40) (B := 40) (a := c) (b := z_114) (by omega) (by omega)
                    have n4 := mulb (A := 40) (B := 40) (a := d) (b := z_124) (by omega) (by omega)
                    refine j_vWv SS (As := [.int (J (((a * z_90) + (b * z_100)) + e)), .int (J (((c * z_114) + (d * z_124)) + f))]) (rest := []) (c_X12_put l D o q (uV (uI (uI u 4 ff) 5 g) 6 w) A (mW_D hD) (((a * z_90) + (b * z_100)) + e) (((c * z_114) + (d * z_124)) + f) (show 0 ≤ w ∧ w < 640 from (by omega))) mf_X12_put kw_1185 hG hP hP (ci := 8) (q0 := 0) rfl rfl rfl hS (fun _ h => h) rfl hl.1 ⟨⟨Nat.le_of_ble_eq_true rfl, Nat.le_of_ble_eq_true rfl⟩, Nat.le_of_ble_eq_true rfl, Nat.le_refl _, Nat.le_refl _⟩ rfl dX12_map_132 (fun u132 H locs h_132 hP _ hS => ?_)
                    obtain ⟨f_132, g_132, w_132, rfl, h_132⟩ := h_132
                    have hP : va_P D.1 j_cl (mW D o q (uV (uI (uI u 4 f_132) 5 g_132) 6 w_132)) H := hP
                    have h_132 : f_132 = upI (ff) (w).toNat (((a * z_90) + (b * z_100)) + e) ∧ g_132 = upI (g) (w).toNat (((c * z_114) + (d * z_124)) + f) ∧ w_132 = w + 1 := h_132
                    have k1 := h_132.2.2
                    refine lv_iinc (v := J (i + 1)) (lv' := [(9, .int (J (i + 1))), (0, .ref o), (1, .int (J s)), (2, .int (J t2)), (3, .int (J a)), (4, .int (J b)), (5, .int (J c)), (6, .int (J d)), (7, .int (J e)), (8, .int (J f))]) SS.1 SS.2.1 dX12_map_135 hl (k := 9) rfl (J_add _ _) (by decide) rfl (fun ls hl => ?_)
                    refine lv_goto (tgt := 73) SS.1 SS.2.1 dX12_map_138 (by decide) ?_
                    exact ih_73 (i + 1) f_132 g_132 w_132 _ _ hP hS ls (lv_sub hl [1, 2, 3, 4, 5, 6, 7, 8, 9, 0] rfl) (by omega) (by omega) (by obtain ⟨k1, k2, k3⟩ := h_132; rw [k1, k2, k3]; exact bd_put (by omega) i73_2 (by omega) (by omega)) (fun x y => by obtain ⟨k1, k2, k3⟩ := h_132; rw [k1, k2, k3, SWW_put (by omega), i73_3]; exact mp_s i73_0.1 (by rw [h_90, h_100]) (by rw [h_114, h_124]) x y) (by omega)
              exact L_73 ((mN u s - (0 : Int)).toNat + 1) 0 (u.1 4) (u.1 5) 0 _ _ hP hS ls (lv_sub hl [1, 2, 3, 4, 5, 6, 7, 8, 9, 0] rfl) (by omega) (by omega) (fun a ha => by omega) (fun x y => ⟨fun q => absurd q (SWW_0 (by omega)), fun ⟨p, q, ⟨k, k1, _⟩, _⟩ => by omega⟩) (Nat.lt_succ_self _)
            · skip
              refine j_bipush SS dX12_map_62 (by decide +kernel) ?_
              exact W.iret SS.1 SS.2.1 hr (fun t ht hW => ⟨⟨_, (uV (uI (uI (uV (uI (uI (uI (uI (uI (uI u 0 (u.1 0)) 1 (u.1 1)) 2 (u.1 2)) 3 (u.1 3)) 4 (u.1 4)) 5 (u.1 5)) 6 (u.2.2 6)) 7 (u.1 7)) 8 (u.1 8)) 9 (u.2.2 9)), rfl, ⟨(-2), rfl, (⟨(u.1 0), (u.1 1), (u.1 2), (u.1 3), (u.1 4), (u.1 5), (u.2.2 6), (u.1 7), (u.1 8), (u.2.2 9), rfl, ⟨⟨p0, Or.inr ⟨by omega, by omega, by unfold six; omega, Or.inl ⟨by omega, rfl, rfl, rfl, rfl⟩⟩⟩, mHr_n rfl (by decide)⟩⟩)⟩, by show va_P D.1 j_cl (mW D o q (uV (uI (uI (uV (uI (uI (uI (uI (uI (uI u 0 (u.1 0)) 1 (u.1 1)) 2 (u.1 2)) 3 (u.1 3)) 4 (u.1 4)) 5 (u.1 5)) 6 (u.2.2 6)) 7 (u.1 7)) 8 (u.1 8)) 9 (u.2.2 9))) t.heap; rw [ht]; exact hP⟩, hS.F ht⟩) hS.2.2 dX12_map_64 hlk
          · skip
            refine j_iconst SS dX12_map_43 ?_
            exact W.iret SS.1 SS.2.1 hr (fun t ht hW => ⟨⟨_, (uV (uI (uI (uV (uI (uI (uI (uI (uI (uI u 0 (u.1 0)) 1 (u.1 1)) 2 (u.1 2)) 3 (u.1 3)) 4 (u.1 4)) 5 (u.1 5)) 6 (u.2.2 6)) 7 (u.1 7)) 8 (u.1 8)) 9 (u.2.2 9)), rfl, ⟨(-1), rfl, (⟨(u.1 0), (u.1 1), (u.1 2), (u.1 3), (u.1 4), (u.1 5), (u.2.2 6), (u.1 7), (u.1 8), (u.2.2 9), rfl, ⟨⟨p0, Or.inl ⟨by unfold six; omega, rfl, rfl, rfl, rfl⟩⟩, mHr_n rfl (by decide)⟩⟩)⟩, by show va_P D.1 j_cl (mW D o q (uV (uI (uI (uV (uI (uI (uI (uI (uI (uI u 0 (u.1 0)) 1 (u.1 1)) 2 (u.1 2)) 3 (u.1 3)) 4 (u.1 4)) 5 (u.1 5)) 6 (u.2.2 6)) 7 (u.1 7)) 8 (u.1 8)) 9 (u.2.2 9))) t.heap; rw [ht]; exact hP⟩, hS.F ht⟩) hS.2.2 dX12_map_44 hlk

set_option maxHeartbeats 4000000 in
set_option maxRecDepth 100000 in
theorem c_X12_dualH (l : Launch) (D : JD) (o : Nat) (q : Nat → Nat) (u : MS) (A : Nat → Prop) (hD : va_D A (mW D o q u)) (s : Int) (t2 : Int) (p0 : IM u) (p1 : -2147483648 ≤ s ∧ s ≤ 2147483647) (p2 : -2147483648 ≤ t2 ∧ t2 ≤ 2147483647) : Met l yX12_dual (jw yX12_dual cX12_dual 4 (some .int)) (jr 6 133) (jP [.ref o, .int (J s), .int (J t2)] D (fun H => va_P D.1 j_cl (mW D o q u) H)) (jWi (fun z u' => ∃ f0 : Nat → Int, ∃ f1 : Nat → Int, ∃ f2 : Nat → Int, ∃ f3 : Nat → Int, ∃ f4 : Nat → Int, ∃ f5 : Nat → Int, ∃ w : Int, ∃ X : Nat → Int, ∃ Y : Nat → Int, ∃ nh : Int, u' = (uV (uI (uI (uV (uI (uI (uI (uI (uI (uI u 0 f0) 1 f1) 2 f2) 3 f3) 4 f4) 5 f5) 6 w) 7 X) 8 Y) 9 nh) ∧ ((IM u' ∧ dlM u u' s t2 z) ∧ mHr u u' t2 z)) (fun u' H => va_P D.1 j_cl (mW D o q u') H) A) 0 0 A := by
  refine Met.ofW (cc := cX12_dual) (maxL := 4) (ret := (some .int)) (by decide) rfl ?_
  intro pr en st mi args below meth co s₁ B hml hv
  obtain ⟨rfl, hG, hP⟩ := hv
  have hr := B.returns
  have hlk := B.notSynchronized
  have SS : jS pr mi co cX12_dual 4 st _ RX12 := ⟨B.exec, B.bytes, hml, findClass_of_methodNamed B.named, fun w hw => atoms_spec (ws := (jw yX12_dual cX12_dual 4 (some .int))) B.pre w (List.mem_cons_of_mem _ hw)⟩
  have hl := lv_entry ([.ref o, .int (J s), .int (J t2)]) (n := 4) (Nat.le_of_ble_eq_true rfl)
  rw [lg_entry_eq]
  generalize (lg_sl ([.ref o, .int (J s), .int (J t2)]) ++ List.replicate (4 - (lg_sl ([.ref o, .int (J s), .int (J t2)])).length) Slot.unset).toArray = ls at hl ⊢
  have hl : lv_has ls 4 [(0, .ref o), (1, .int (J s)), (2, .int (J t2))] := hl
  have hS : va_S A st.heap st.heap [] := va_S.rf
  refine lv_iload_n SS.1 SS.2.1 dX12_dual_0 rfl (lv_at hl 1 rfl) ?_
  refine j_sRi SS (As := [.int (J s)]) (rest := []) (c_X12_isShape l D s (show -2147483648 ≤ s ∧ s ≤ 2147483647 from (by omega))) mf_X12_isShape kw_1156 hG trivial rfl hl.1 ⟨⟨Nat.le_of_ble_eq_true rfl, Nat.le_of_ble_eq_true rfl⟩, Nat.le_of_ble_eq_true rfl, Nat.le_refl _, Nat.le_refl _⟩ rfl dX12_dual_1 (fun z_1 h_1 => ?_)
  have h_1 : (z_1 = 1 ∧ (0 ≤ s ∧ s ≤ 7)) ∨ (z_1 = 0 ∧ ¬ (0 ≤ s ∧ s ≤ 7)) := h_1
  refine j_if_eq SS (tgt := 14) (x := z_1) dX12_dual_4 (by decide) (by omega) (fun c_4 => ?_) (fun c_4 => ?_)
  · skip
    refine j_iconst SS dX12_dual_14 ?_
    exact W.iret SS.1 SS.2.1 hr (fun t ht hW => ⟨⟨_, (uV (uI (uI (uV (uI (uI (uI (uI (uI (uI u 0 (u.1 0)) 1 (u.1 1)) 2 (u.1 2)) 3 (u.1 3)) 4 (u.1 4)) 5 (u.1 5)) 6 (u.2.2 6)) 7 (u.1 7)) 8 (u.1 8)) 9 (u.2.2 9)), rfl, ⟨(-1), rfl, (⟨(u.1 0), (u.1 1), (u.1 2), (u.1 3), (u.1 4), (u.1 5), (u.2.2 6), (u.1 7), (u.1 8), (u.2.2 9), rfl, ⟨⟨p0, Or.inl ⟨by omega, rfl, rfl, rfl, rfl⟩⟩, mHr_n rfl (by decide)⟩⟩)⟩, by show va_P D.1 j_cl (mW D o q (uV (uI (uI (uV (uI (uI (uI (uI (uI (uI u 0 (u.1 0)) 1 (u.1 1)) 2 (u.1 2)) 3 (u.1 3)) 4 (u.1 4)) 5 (u.1 5)) 6 (u.2.2 6)) 7 (u.1 7)) 8 (u.1 8)) 9 (u.2.2 9))) t.heap; rw [ht]; exact hP⟩, hS.F ht⟩) hS.2.2 dX12_dual_15 hlk
  · skip
    refine lv_iload_n SS.1 SS.2.1 dX12_dual_7 rfl (lv_at hl 2 rfl) ?_
    refine j_sRi SS (As := [.int (J t2)]) (rest := []) (c_X12_isShape l D t2 (show -2147483648 ≤ t2 ∧ t2 ≤ 2147483647 from (by omega))) mf_X12_isShape kw_1156 hG trivial rfl hl.1 ⟨⟨Nat.le_of_ble_eq_true rfl, Nat.le_of_ble_eq_true rfl⟩, Nat.le_of_ble_eq_true rfl, Nat.le_refl _, Nat.le_refl _⟩ rfl dX12_dual_8 (fun z_8 h_8 => ?_)
    have h_8 : (z_8 = 1 ∧ (0 ≤ t2 ∧ t2 ≤ 7)) ∨ (z_8 = 0 ∧ ¬ (0 ≤ t2 ∧ t2 ≤ 7)) := h_8
    refine j_if_ne SS (tgt := 16) (x := z_8) dX12_dual_11 (by decide) (by omega) (fun c_11 => ?_) (fun c_11 => ?_)
    · skip
      refine lv_aload_n SS.1 SS.2.1 dX12_dual_16 rfl (lv_at hl 0 rfl) ?_
      refine lv_iload_n SS.1 SS.2.1 dX12_dual_17 rfl (lv_at hl 1 rfl) ?_
      refine j_vRi SS (As := [.int (J s)]) (rest := []) (c_X12_isReflexive2 l D o q u s (show 0 ≤ s ∧ s ≤ 7 from (by omega)) (show Sh u s from (p0.1 _ (by omega) (by omega)))) mf_X12_isReflexive kw_1380 hG hP hP (ci := 8) (q0 := 0) rfl rfl rfl rfl hl.1 ⟨⟨Nat.le_of_ble_eq_true rfl, Nat.le_of_ble_eq_true rfl⟩, Nat.le_of_ble_eq_true rfl, Nat.le_refl _, Nat.le_refl _⟩ rfl dX12_dual_18 (fun z_18 h_18 => ?_)
      have h_18 : (z_18 = 1 ∧ mRef u s) ∨ (z_18 = 0 ∧ ¬ mRef u s) := h_18
      refine j_if_ne SS (tgt := 27) (x := z_18) dX12_dual_21 (by decide) (by omega) (fun c_21 => ?_) (fun c_21 => ?_)
      · skip
        have hSh := p0.1 s (by omega) (by omega)
        have hN := hSh.1
        have href : mRef u s := by rcases h_18 with q | q; exact q.2; omega
        have hn3 := href.1
        refine lv_aload_n SS.1 SS.2.1 dX12_dual_27 rfl (lv_at hl 0 rfl) ?_
        refine j_iconst SS dX12_dual_28 ?_
        refine j_put SS hG hP (mW_D hD) hS 0 (v := .int (J 0)) (ty := .int) (C := RX12) (T := TX12) (N := 31) rfl rfl inX12 tyX12 tyX12_ok nmX12 6 (by decide) (ref := RX12) kw_1064 rfl rfl (by decide +kernel) rfl rfl (Nat.le_of_ble_eq_true rfl) dX12_dual_29 (ws' := (mW D o q (uV u 6 0))) rfl (fun H locs hP hS => ?_)
        refine j_iconst SS dX12_dual_32 ?_
        refine lv_istore_n (lv' := [(3, .int (J 0)), (0, .ref o), (1, .int (J s)), (2, .int (J t2))]) SS.1 SS.2.1 dX12_dual_33 rfl hl (by decide) rfl (fun ls hl => ?_)
        have L_34 : ∀ (nn : Nat) (i : Int) (f : Nat → Int) (g : Nat → Int) (w : Int) (H : Heap) (locs : List Loc) (hP : va_P D.1 j_cl (mW D o q (uV (uI (uI u 4 f) 5 g) 6 w)) H) (hS : va_S A st.heap H locs) (ls : Array Slot) (hl : lv_has ls 4 [(0, .ref o), (1, .int (J s)), (2, .int (J t2)), (3, .int (J i))]) (i34_0 : 0 ≤ i ∧ i ≤ mN u s) (i34_1 : w = i) (i34_2 : bd 80 f g w) (i34_3 : ∀ x y : Int, SWW f g w x y ↔ NMi u s i x y), (mN u s - i).toNat < nn → W pr l en (headSpec (jw yX12_dual cX12_dual 4 (some .int)) (jr 6 133)).room st mi (([.ref o, .int (J s), .int (J t2)] : List Value).toArray) below meth co H locs 0 0 (MQ below (jWi (fun z u' => ∃ f0 : Nat → Int, ∃ f1 : Nat → Int, ∃ f2 : Nat → Int, ∃ f3 : Nat → Int, ∃ f4 : Nat → Int, ∃ f5 : Nat → Int, ∃ w : Int, ∃ X : Nat → Int, ∃ Y : Nat → Int, ∃ nh : Int, u' = (uV (uI (uI (uV (uI (uI (uI (uI (uI (uI u 0 f0) 1 f1) 2 f2) 3 f3) 4 f4) 5 f5) 6 w) 7 X) 8 Y) 9 nh) ∧ ((IM u' ∧ dlM u u' s t2 z) ∧ mHr u u' t2 z)) (fun u' H => va_P D.1 j_cl (mW D o q u') H) A) (([.ref o, .int (J s), .int (J t2)] : List Value).toArray) st 0 0 A) (F0 mi 34 ls []) := by
          intro nn
          induction nn with
          | zero => intros; omega
          | succ nn ih_34 =>
            intro i f g w H locs hP hS ls hl i34_0 i34_1 i34_2 i34_3 hm
            refine lv_iload_n SS.1 SS.2.1 dX12_dual_34 rfl (lv_at hl 3 rfl) ?_
            refine lv_aload_n SS.1 SS.2.1 dX12_dual_35 rfl (lv_at hl 0 rfl) ?_
            refine j_get SS hG hP 0 (v := .ref (q 0)) (C := RX12) (T := TX12) (N := 31) rfl rfl inX12 0 (by decide) (ref := RX12) kw_1058 rfl rfl dX12_dual_36 ?_
            refine lv_iload_n SS.1 SS.2.1 dX12_dual_39 rfl (lv_at hl 1 rfl) ?_
            refine j_iald SS hG hP 1 (n := 8) (f := (u.1 0)) rfl (z := s) (by omega) (by omega) dX12_dual_40 ?_
            have hN_40 := (show Sh u s from p0.1 _ (by omega) (by omega)).1
            refine j_icmp_ge SS (tgt := 66) (x := i) (y := (mN u s)) dX12_dual_41 (by decide) (by omega) (by omega) (fun c_41 => ?_) (fun c_41 => ?_)
            · skip
              refine lv_aload_n SS.1 SS.2.1 dX12_dual_66 rfl (lv_at hl 0 rfl) ?_
              refine j_vWv SS (As := []) (rest := []) (c_X12_findHull2 l D o q (uV (uI (uI u 4 f) 5 g) 6 w) A (mW_D hD)  (show 0 ≤ w ∧ w ≤ 640 from (by omega)) (show bd 10000 (f) (g) (w) from (bd_K i34_2 (by omega)))) mf_X12_findHull kw_1189 hG hP hP (ci := 8) (q0 := 0) rfl rfl rfl hS (fun _ h => h) rfl hl.1 ⟨⟨Nat.le_of_ble_eq_true rfl, Nat.le_of_ble_eq_true rfl⟩, Nat.le_of_ble_eq_true rfl, Nat.le_refl _, Nat.le_refl _⟩ rfl dX12_dual_67 (fun u67 H locs h_67 hP _ hS => ?_)
              obtain ⟨f_67, g_67, w_67, X_67, Y_67, nh_67, rfl, h_67⟩ := h_67
              have hP : va_P D.1 j_cl (mW D o q (uV (uI (uI (uV (uI (uI u 4 f_67) 5 g_67) 6 w_67) 7 X_67) 8 Y_67) 9 nh_67)) H := hP
              have h_67 : 0 ≤ nh_67 ∧ nh_67 ≤ 1290 ∧ Ch nh_67 X_67 Y_67 ∧ (0 < w → 0 < nh_67) ∧ bd 10000 X_67 Y_67 nh_67 ∧ (∀ K : Int, bd K (f) (g) (w) → bd K X_67 Y_67 nh_67) ∧ HS (SWW (f) (g) (w)) nh_67 X_67 Y_67 := h_67
              obtain ⟨a1, a2, a3, a4, a5, a6, a7⟩ := h_67
              refine lv_aload_n SS.1 SS.2.1 dX12_dual_70 rfl (lv_at hl 0 rfl) ?_
              refine lv_iload_n SS.1 SS.2.1 dX12_dual_71 rfl (lv_at hl 2 rfl) ?_
              refine j_iconst SS dX12_dual_72 ?_
              refine j_vWi SS (As := [.int (J t2), .int (J 1)]) (rest := []) (c_X12_take l D o q (uV (uI (uI (uV (uI (uI u 4 f_67) 5 g_67) 6 w_67) 7 X_67) 8 Y_67) 9 nh_67) A (mW_D hD) t2 1 (show 0 ≤ t2 ∧ t2 ≤ 7 from (by omega)) (show (1 : Int) = 0 ∨ (1 : Int) = 1 from (by omega)) (show 0 ≤ nh_67 ∧ nh_67 ≤ 1290 from (by omega)) (show bd 10000 (X_67) (Y_67) (nh_67) from (a5))) mf_X12_take kw_1162 hG hP hP (ci := 8) (q0 := 0) rfl rfl rfl hS (fun _ h => h) rfl hl.1 ⟨⟨Nat.le_of_ble_eq_true rfl, Nat.le_of_ble_eq_true rfl⟩, Nat.le_of_ble_eq_true rfl, Nat.le_refl _, Nat.le_refl _⟩ rfl dX12_dual_73 (fun z_73 u73 H locs h_73 hP _ hS => ?_)
              obtain ⟨f0_73, f1_73, f2_73, f3_73, rfl, h_73⟩ := h_73
              have hP : va_P D.1 j_cl (mW D o q (uV (uI (uI (uV (uI (uI (uI (uI (uI (uI u 0 f0_73) 1 f1_73) 2 f2_73) 3 f3_73) 4 f_67) 5 g_67) 6 w_67) 7 X_67) 8 Y_67) 9 nh_67)) H := hP
              have h_73 : (z_73 = -3 ∧ ¬ tk_ok (1 : Int) 40 (X_67) (Y_67) (nh_67) (nh_67) ∧ f0_73 = (u.1 0) ∧ f1_73 = (u.1 1) ∧ f2_73 = (u.1 2) ∧ f3_73 = (u.1 3)) ∨ (z_73 = nh_67 ∧ tk_ok (1 : Int) 40 (X_67) (Y_67) (nh_67) (nh_67) ∧ tk_new (uV (uI (uI (uV (uI (uI u 4 f_67) 5 g_67) 6 w_67) 7 X_67) 8 Y_67) 9 nh_67) f0_73 f1_73 f2_73 f3_73 t2) := h_73
              exact W.iret SS.1 SS.2.1 hr (fun t ht hW => ⟨⟨_, (uV (uI (uI (uV (uI (uI (uI (uI (uI (uI u 0 f0_73) 1 f1_73) 2 f2_73) 3 f3_73) 4 f_67) 5 g_67) 6 w_67) 7 X_67) 8 Y_67) 9 nh_67), rfl, ⟨z_73, rfl, (⟨f0_73, f1_73, f2_73, f3_73, f_67, g_67, w_67, X_67, Y_67, nh_67, rfl, ⟨⟨(show IM (uI (uI (uI (uI (uV (uI (uI (uV (uI (uI u 4 f_67) 5 g_67) 6 w_67) 7 X_67) 8 Y_67) 9 nh_67) 0 f0_73) 1 f1_73) 2 f2_73) 3 f3_73) from IM_tk (u := (uV (uI (uI (uV (uI (uI u 4 f_67) 5 g_67) 6 w_67) 7 X_67) 8 Y_67) 9 nh_67)) p0 ⟨by omega, by omega⟩ (Or.inr rfl) a1 (fun q => by omega) a3 h_73), Or.inr ⟨by omega, by omega, Or.inr ⟨href, mkM_tk (v0 := u) (v := (uV (uI (uI (uV (uI (uI u 4 f_67) 5 g_67) 6 w_67) 7 X_67) 8 Y_67) 9 nh_67)) p0.1 rfl rfl rfl ⟨by omega, by omega⟩ a1 (Or.inr rfl) (fun q => by omega) a7 (by rw [show i = mN u s by omega] at i34_3; exact i34_3) h_73⟩⟩⟩, mHr_k (nh := nh_67) rfl (by omega) h_73⟩⟩)⟩, by show va_P D.1 j_cl (mW D o q (uV (uI (uI (uV (uI (uI (uI (uI (uI (uI u 0 f0_73) 1 f1_73) 2 f2_73) 3 f3_73) 4 f_67) 5 g_67) 6 w_67) 7 X_67) 8 Y_67) 9 nh_67)) t.heap; rw [ht]; exact hP⟩, hS.F ht⟩) hS.2.2 dX12_dual_76 hlk
            · skip
              refine lv_aload_n SS.1 SS.2.1 dX12_dual_44 rfl (lv_at hl 0 rfl) ?_
              refine lv_aload_n SS.1 SS.2.1 dX12_dual_45 rfl (lv_at hl 0 rfl) ?_
              refine lv_iload_n SS.1 SS.2.1 dX12_dual_46 rfl (lv_at hl 1 rfl) ?_
              refine lv_iload_n SS.1 SS.2.1 dX12_dual_47 rfl (lv_at hl 3 rfl) ?_
              refine j_vRi SS (As := [.int (J s), .int (J i)]) (rest := [.ref o]) (c_X12_normalX2 l D o q (uV (uI (uI u 4 f) 5 g) 6 w) s i (show 0 ≤ s ∧ s ≤ 7 from (by omega)) (show Sh u s from (hSh)) (show 0 ≤ i ∧ i < mN u s from (by omega)) (show 2 ≤ mN u s from (by omega))) mf_X12_normalX kw_1364 hG hP hP (ci := 8) (q0 := 0) rfl rfl rfl rfl hl.1 ⟨⟨Nat.le_of_ble_eq_true rfl, Nat.le_of_ble_eq_true rfl⟩, Nat.le_of_ble_eq_true rfl, Nat.le_refl _, Nat.le_refl _⟩ rfl dX12_dual_48 (fun z_48 h_48 => ?_)
              have h_48 : z_48 = mNX u s i ∧ -80 ≤ z_48 ∧ z_48 ≤ 80 := h_48
              refine lv_aload_n SS.1 SS.2.1 dX12_dual_51 rfl (lv_at hl 0 rfl) ?_
              refine lv_iload_n SS.1 SS.2.1 dX12_dual_52 rfl (lv_at hl 1 rfl) ?_
              refine lv_iload_n SS.1 SS.2.1 dX12_dual_53 rfl (lv_at hl 3 rfl) ?_
              refine j_vRi SS (As := [.int (J s), .int (J i)]) (rest := [.int (J z_48), .ref o]) (c_X12_normalY2 l D o q (uV (uI (uI u 4 f) 5 g) 6 w) s i (show 0 ≤ s ∧ s ≤ 7 from (by omega)) (show Sh u s from (hSh)) (show 0 ≤ i ∧ i < mN u s from (by omega)) (show 2 ≤ mN u s from (by omega))) mf_X12_normalY kw_1368 hG hP hP (ci := 8) (q0 := 0) rfl rfl rfl rfl hl.1 ⟨⟨Nat.le_of_ble_eq_true rfl, Nat.le_of_ble_eq_true rfl⟩, Nat.le_of_ble_eq_true rfl, Nat.le_refl _, Nat.le_refl _⟩ rfl dX12_dual_54 (fun z_54 h_54 => ?_)
              have h_54 : z_54 = mNY u s i ∧ -80 ≤ z_54 ∧ z_54 ≤ 80 := h_54
              refine j_vWv SS (As := [.int (J z_48), .int (J z_54)]) (rest := []) (c_X12_put l D o q (uV (uI (uI u 4 f) 5 g) 6 w) A (mW_D hD) z_48 z_54 (show 0 ≤ w ∧ w < 640 from (by omega))) mf_X12_put kw_1185 hG hP hP (ci := 8) (q0 := 0) rfl rfl rfl hS (fun _ h => h) rfl hl.1 ⟨⟨Nat.le_of_ble_eq_true rfl, Nat.le_of_ble_eq_true rfl⟩, Nat.le_of_ble_eq_true rfl, Nat.le_refl _, Nat.le_refl _⟩ rfl dX12_dual_57 (fun u57 H locs h_57 hP _ hS => ?_)
              obtain ⟨f_57, g_57, w_57, rfl, h_57⟩ := h_57
              have hP : va_P D.1 j_cl (mW D o q (uV (uI (uI u 4 f_57) 5 g_57) 6 w_57)) H := hP
              have h_57 : f_57 = upI (f) (w).toNat z_48 ∧ g_57 = upI (g) (w).toNat z_54 ∧ w_57 = w + 1 := h_57
              have k1 := h_57.2.2
              refine lv_iinc (v := J (i + 1)) (lv' := [(3, .int (J (i + 1))), (0, .ref o), (1, .int (J s)), (2, .int (J t2))]) SS.1 SS.2.1 dX12_dual_60 hl (k := 3) rfl (J_add _ _) (by decide) rfl (fun ls hl => ?_)
              refine lv_goto (tgt := 34) SS.1 SS.2.1 dX12_dual_63 (by decide) ?_
              exact ih_34 (i + 1) f_57 g_57 w_57 _ _ hP hS ls (lv_sub hl [1, 2, 3, 0] rfl) (by omega) (by omega) (by obtain ⟨k1, k2, k3⟩ := h_57; rw [k1, k2, k3]; exact bd_put (by omega) i34_2 (by omega) (by omega)) (fun x y => by obtain ⟨k1, k2, k3⟩ := h_57; rw [k1, k2, k3, SWW_put (by omega), i34_3]; exact nm_s i34_0.1 h_48.1 h_54.1 x y) (by omega)
        exact L_34 ((mN u s - (0 : Int)).toNat + 1) 0 (u.1 4) (u.1 5) 0 _ _ hP hS ls (lv_sub hl [1, 2, 3, 0] rfl) (by omega) (by omega) (fun a ha => by omega) (fun x y => ⟨fun q => absurd q (SWW_0 (by omega)), fun ⟨a, q1, _⟩ => by omega⟩) (Nat.lt_succ_self _)
      · skip
        refine j_bipush SS dX12_dual_24 (by decide +kernel) ?_
        exact W.iret SS.1 SS.2.1 hr (fun t ht hW => ⟨⟨_, (uV (uI (uI (uV (uI (uI (uI (uI (uI (uI u 0 (u.1 0)) 1 (u.1 1)) 2 (u.1 2)) 3 (u.1 3)) 4 (u.1 4)) 5 (u.1 5)) 6 (u.2.2 6)) 7 (u.1 7)) 8 (u.1 8)) 9 (u.2.2 9)), rfl, ⟨(-2), rfl, (⟨(u.1 0), (u.1 1), (u.1 2), (u.1 3), (u.1 4), (u.1 5), (u.2.2 6), (u.1 7), (u.1 8), (u.2.2 9), rfl, ⟨⟨p0, Or.inr ⟨by omega, by omega, Or.inl ⟨by rcases h_18 with q | q; omega; exact q.2, rfl, rfl, rfl, rfl⟩⟩⟩, mHr_n rfl (by decide)⟩⟩)⟩, by show va_P D.1 j_cl (mW D o q (uV (uI (uI (uV (uI (uI (uI (uI (uI (uI u 0 (u.1 0)) 1 (u.1 1)) 2 (u.1 2)) 3 (u.1 3)) 4 (u.1 4)) 5 (u.1 5)) 6 (u.2.2 6)) 7 (u.1 7)) 8 (u.1 8)) 9 (u.2.2 9))) t.heap; rw [ht]; exact hP⟩, hS.F ht⟩) hS.2.2 dX12_dual_26 hlk
    · skip
      refine j_iconst SS dX12_dual_14 ?_
      exact W.iret SS.1 SS.2.1 hr (fun t ht hW => ⟨⟨_, (uV (uI (uI (uV (uI (uI (uI (uI (uI (uI u 0 (u.1 0)) 1 (u.1 1)) 2 (u.1 2)) 3 (u.1 3)) 4 (u.1 4)) 5 (u.1 5)) 6 (u.2.2 6)) 7 (u.1 7)) 8 (u.1 8)) 9 (u.2.2 9)), rfl, ⟨(-1), rfl, (⟨(u.1 0), (u.1 1), (u.1 2), (u.1 3), (u.1 4), (u.1 5), (u.2.2 6), (u.1 7), (u.1 8), (u.2.2 9), rfl, ⟨⟨p0, Or.inl ⟨by omega, rfl, rfl, rfl, rfl⟩⟩, mHr_n rfl (by decide)⟩⟩)⟩, by show va_P D.1 j_cl (mW D o q (uV (uI (uI (uV (uI (uI (uI (uI (uI (uI u 0 (u.1 0)) 1 (u.1 1)) 2 (u.1 2)) 3 (u.1 3)) 4 (u.1 4)) 5 (u.1 5)) 6 (u.2.2 6)) 7 (u.1 7)) 8 (u.1 8)) 9 (u.2.2 9))) t.heap; rw [ht]; exact hP⟩, hS.F ht⟩) hS.2.2 dX12_dual_15 hlk

set_option maxHeartbeats 4000000 in
set_option maxRecDepth 100000 in
theorem c_X12_heightH (l : Launch) (D : JD) (o : Nat) (q : Nat → Nat) (u : MS) (A : Nat → Prop) (hD : va_D A (mW D o q u)) (s : Int) (i : Int) (v : Int) (p0 : IM u) (p1 : -2147483648 ≤ s ∧ s ≤ 2147483647) (p2 : -2147483648 ≤ i ∧ i ≤ 2147483647) (p3 : -2147483648 ≤ v ∧ v ≤ 2147483647) : Met l yX12_height (jw yX12_height cX12_height 5 (some .int)) (jr 6 131) (jP [.ref o, .int (J s), .int (J i), .int (J v)] D (fun H => va_P D.1 j_cl (mW D o q u) H)) (jWi (fun z u' => ∃ f3 : Nat → Int, u' = (uI u 3 f3) ∧ ((IM u') ∧ htM u u' s i v z)) (fun u' H => va_P D.1 j_cl (mW D o q u') H) A) 0 0 A := by
  refine Met.ofW (cc := cX12_height) (maxL := 5) (ret := (some .int)) (by decide) rfl ?_
  intro pr en st mi args below meth co s₁ B hml hv
  obtain ⟨rfl, hG, hP⟩ := hv
  have hr := B.returns
  have hlk := B.notSynchronized
  have SS : jS pr mi co cX12_height 5 st _ RX12 := ⟨B.exec, B.bytes, hml, findClass_of_methodNamed B.named, fun w hw => atoms_spec (ws := (jw yX12_height cX12_height 5 (some .int))) B.pre w (List.mem_cons_of_mem _ hw)⟩
  have hl := lv_entry ([.ref o, .int (J s), .int (J i), .int (J v)]) (n := 5) (Nat.le_of_ble_eq_true rfl)
  rw [lg_entry_eq]
  generalize (lg_sl ([.ref o, .int (J s), .int (J i), .int (J v)]) ++ List.replicate (5 - (lg_sl ([.ref o, .int (J s), .int (J i), .int (J v)])).length) Slot.unset).toArray = ls at hl ⊢
  have hl : lv_has ls 5 [(0, .ref o), (1, .int (J s)), (2, .int (J i)), (3, .int (J v))] := hl
  have hS : va_S A st.heap st.heap [] := va_S.rf
  refine lv_iload_n SS.1 SS.2.1 dX12_height_0 rfl (lv_at hl 1 rfl) ?_
  refine j_sRi SS (As := [.int (J s)]) (rest := []) (c_X12_isShape l D s (show -2147483648 ≤ s ∧ s ≤ 2147483647 from (by omega))) mf_X12_isShape kw_1156 hG trivial rfl hl.1 ⟨⟨Nat.le_of_ble_eq_true rfl, Nat.le_of_ble_eq_true rfl⟩, Nat.le_of_ble_eq_true rfl, Nat.le_refl _, Nat.le_refl _⟩ rfl dX12_height_1 (fun z_1 h_1 => ?_)
  have h_1 : (z_1 = 1 ∧ (0 ≤ s ∧ s ≤ 7)) ∨ (z_1 = 0 ∧ ¬ (0 ≤ s ∧ s ≤ 7)) := h_1
  refine j_if_eq SS (tgt := 49) (x := z_1) dX12_height_4 (by decide) (by omega) (fun c_4 => ?_) (fun c_4 => ?_)
  · skip
    refine j_ldc SS (-1000000) kw_1213 dX12_height_49 ?_
    exact W.iret SS.1 SS.2.1 hr (fun t ht hW => ⟨⟨_, (uI u 3 (u.1 3)), rfl, ⟨(-1000000), rfl, (⟨(u.1 3), rfl, ⟨p0, Or.inl ⟨fun q => by have q1 := q.1; have q2 := q.2.1; have q3 := q.2.2; omega, rfl, rfl⟩⟩⟩)⟩, by show va_P D.1 j_cl (mW D o q (uI u 3 (u.1 3))) t.heap; rw [ht]; exact hP⟩, hS.F ht⟩) hS.2.2 dX12_height_51 hlk
  · skip
    refine lv_iload_n SS.1 SS.2.1 dX12_height_7 rfl (lv_at hl 3 rfl) ?_
    refine j_sipush SS dX12_height_8 (by decide +kernel) ?_
    refine j_sipush SS dX12_height_11 (by decide +kernel) ?_
    refine j_sRi SS (As := [.int (J v), .int (J (-1000)), .int (J 1000)]) (rest := []) (c_X12_in l D v (-1000) 1000 (show -2147483648 ≤ v ∧ v ≤ 2147483647 from (by omega)) (show -2147483648 ≤ (-1000 : Int) ∧ (-1000 : Int) ≤ 2147483647 from (by omega)) (show -2147483648 ≤ (1000 : Int) ∧ (1000 : Int) ≤ 2147483647 from (by omega))) mf_X12_in kw_1159 hG trivial rfl hl.1 ⟨⟨Nat.le_of_ble_eq_true rfl, Nat.le_of_ble_eq_true rfl⟩, Nat.le_of_ble_eq_true rfl, Nat.le_refl _, Nat.le_refl _⟩ rfl dX12_height_14 (fun z_14 h_14 => ?_)
    have h_14 : (z_14 = 1 ∧ ((-1000 : Int) ≤ v ∧ v ≤ (1000 : Int))) ∨ (z_14 = 0 ∧ ¬ ((-1000 : Int) ≤ v ∧ v ≤ (1000 : Int))) := h_14
    refine j_if_eq SS (tgt := 49) (x := z_14) dX12_height_17 (by decide) (by omega) (fun c_17 => ?_) (fun c_17 => ?_)
    · skip
      refine j_ldc SS (-1000000) kw_1213 dX12_height_49 ?_
      exact W.iret SS.1 SS.2.1 hr (fun t ht hW => ⟨⟨_, (uI u 3 (u.1 3)), rfl, ⟨(-1000000), rfl, (⟨(u.1 3), rfl, ⟨p0, Or.inl ⟨fun q => by have q1 := q.1; have q2 := q.2.1; have q3 := q.2.2; omega, rfl, rfl⟩⟩⟩)⟩, by show va_P D.1 j_cl (mW D o q (uI u 3 (u.1 3))) t.heap; rw [ht]; exact hP⟩, hS.F ht⟩) hS.2.2 dX12_height_51 hlk
    · skip
      refine lv_aload_n SS.1 SS.2.1 dX12_height_20 rfl (lv_at hl 0 rfl) ?_
      refine lv_iload_n SS.1 SS.2.1 dX12_height_21 rfl (lv_at hl 1 rfl) ?_
      refine j_vRi SS (As := [.int (J s)]) (rest := []) (c_X12_isLifted l D o q u s (show 0 ≤ s ∧ s ≤ 7 from (by omega)) (show Sh u s from (p0.1 _ (by omega) (by omega)))) mf_X12_isLifted kw_1471 hG hP hP (ci := 8) (q0 := 0) rfl rfl rfl rfl hl.1 ⟨⟨Nat.le_of_ble_eq_true rfl, Nat.le_of_ble_eq_true rfl⟩, Nat.le_of_ble_eq_true rfl, Nat.le_refl _, Nat.le_refl _⟩ rfl dX12_height_22 (fun z_22 h_22 => ?_)
      have h_22 : (z_22 = 1 ∧ 2 < mN u s ∧ mEd u s + mIn u s ≤ 40) ∨ (z_22 = 0 ∧ ¬ (2 < mN u s ∧ mEd u s + mIn u s ≤ 40)) := h_22
      refine j_if_eq SS (tgt := 49) (x := z_22) dX12_height_25 (by decide) (by omega) (fun c_25 => ?_) (fun c_25 => ?_)
      · skip
        refine j_ldc SS (-1000000) kw_1213 dX12_height_49 ?_
        exact W.iret SS.1 SS.2.1 hr (fun t ht hW => ⟨⟨_, (uI u 3 (u.1 3)), rfl, ⟨(-1000000), rfl, (⟨(u.1 3), rfl, ⟨p0, Or.inl ⟨fun q => by have q1 := q.1; have q2 := q.2.1; have q3 := q.2.2; omega, rfl, rfl⟩⟩⟩)⟩, by show va_P D.1 j_cl (mW D o q (uI u 3 (u.1 3))) t.heap; rw [ht]; exact hP⟩, hS.F ht⟩) hS.2.2 dX12_height_51 hlk
      · skip
        refine lv_iload_n SS.1 SS.2.1 dX12_height_28 rfl (lv_at hl 2 rfl) ?_
        refine j_iconst SS dX12_height_29 ?_
        refine lv_aload_n SS.1 SS.2.1 dX12_height_30 rfl (lv_at hl 0 rfl) ?_
        refine lv_iload_n SS.1 SS.2.1 dX12_height_31 rfl (lv_at hl 1 rfl) ?_
        refine j_vRi SS (As := [.int (J s)]) (rest := [.int (J 0), .int (J i)]) (c_X12_edgeOf l D o q u s (show 0 ≤ s ∧ s ≤ 7 from (by omega)) (show Sh u s from (p0.1 _ (by omega) (by omega)))) mf_X12_edgeOf kw_1222 hG hP hP (ci := 8) (q0 := 0) rfl rfl rfl rfl hl.1 ⟨⟨Nat.le_of_ble_eq_true rfl, Nat.le_of_ble_eq_true rfl⟩, Nat.le_of_ble_eq_true rfl, Nat.le_refl _, Nat.le_refl _⟩ rfl dX12_height_32 (fun z_32 h_32 => ?_)
        have h_32 : z_32 = mEd u s ∧ 0 ≤ z_32 ∧ z_32 ≤ 2000 := h_32
        refine lv_aload_n SS.1 SS.2.1 dX12_height_35 rfl (lv_at hl 0 rfl) ?_
        refine lv_iload_n SS.1 SS.2.1 dX12_height_36 rfl (lv_at hl 1 rfl) ?_
        refine j_vRi SS (As := [.int (J s)]) (rest := [.int (J z_32), .int (J 0), .int (J i)]) (c_X12_insideOf l D o q u s (show 0 ≤ s ∧ s ≤ 7 from (by omega)) (show Sh u s from (p0.1 _ (by omega) (by omega)))) mf_X12_insideOf kw_1236 hG hP hP (ci := 8) (q0 := 0) rfl rfl rfl rfl hl.1 ⟨⟨Nat.le_of_ble_eq_true rfl, Nat.le_of_ble_eq_true rfl⟩, Nat.le_of_ble_eq_true rfl, Nat.le_refl _, Nat.le_refl _⟩ rfl dX12_height_37 (fun z_37 h_37 => ?_)
        have h_37 : z_37 = mIn u s ∧ -100000 ≤ z_37 ∧ z_37 ≤ 100000 := h_37
        refine j_iadd SS (x := z_32) (y := z_37) dX12_height_40 ?_
        refine j_iconst SS dX12_height_41 ?_
        refine j_isub SS (x := (z_32 + z_37)) (y := 1) dX12_height_42 ?_
        refine j_sRi SS (As := [.int (J i), .int (J 0), .int (J ((z_32 + z_37) - 1))]) (rest := []) (c_X12_in l D i 0 ((z_32 + z_37) - 1) (show -2147483648 ≤ i ∧ i ≤ 2147483647 from (by omega)) (show -2147483648 ≤ (0 : Int) ∧ (0 : Int) ≤ 2147483647 from (by omega)) (show -2147483648 ≤ ((z_32 + z_37) - 1) ∧ ((z_32 + z_37) - 1) ≤ 2147483647 from (by omega))) mf_X12_in kw_1159 hG trivial rfl hl.1 ⟨⟨Nat.le_of_ble_eq_true rfl, Nat.le_of_ble_eq_true rfl⟩, Nat.le_of_ble_eq_true rfl, Nat.le_refl _, Nat.le_refl _⟩ rfl dX12_height_43 (fun z_43 h_43 => ?_)
        have h_43 : (z_43 = 1 ∧ ((0 : Int) ≤ i ∧ i ≤ ((z_32 + z_37) - 1))) ∨ (z_43 = 0 ∧ ¬ ((0 : Int) ≤ i ∧ i ≤ ((z_32 + z_37) - 1))) := h_43
        refine j_if_ne SS (tgt := 52) (x := z_43) dX12_height_46 (by decide) (by omega) (fun c_46 => ?_) (fun c_46 => ?_)
        · skip
          have hi40 : 0 ≤ i ∧ i < 40 := by omega
          refine lv_aload_n SS.1 SS.2.1 dX12_height_52 rfl (lv_at hl 0 rfl) ?_
          refine j_get SS hG hP 0 (v := .ref (q 3)) (C := RX12) (T := TX12) (N := 31) rfl rfl inX12 3 (by decide) (ref := RX12) kw_1061 rfl rfl dX12_height_53 ?_
          refine j_bipush SS dX12_height_56 (by decide +kernel) ?_
          refine lv_iload_n SS.1 SS.2.1 dX12_height_58 rfl (lv_at hl 1 rfl) ?_
          refine j_imul SS (x := 40) (y := s) dX12_height_59 ?_
          refine lv_iload_n SS.1 SS.2.1 dX12_height_60 rfl (lv_at hl 2 rfl) ?_
          refine j_iadd SS (x := (40 * s)) (y := i) dX12_height_61 ?_
          refine j_iald SS hG hP 4 (n := 320) (f := (u.1 3)) rfl (z := ((40 * s) + i)) (by omega) (by omega) dX12_height_62 ?_
          refine lv_istore (lv' := [(4, .int (J ((u.1 3) (((40 * s) + i)).toNat))), (0, .ref o), (1, .int (J s)), (2, .int (J i)), (3, .int (J v))]) SS.1 SS.2.1 dX12_height_63 hl (by decide) rfl (fun ls hl => ?_)
          refine lv_aload_n SS.1 SS.2.1 dX12_height_65 rfl (lv_at hl 1 rfl) ?_
          refine j_get SS hG hP 0 (v := .ref (q 3)) (C := RX12) (T := TX12) (N := 31) rfl rfl inX12 3 (by decide) (ref := RX12) kw_1061 rfl rfl dX12_height_66 ?_
          refine j_bipush SS dX12_height_69 (by decide +kernel) ?_
          refine lv_iload_n SS.1 SS.2.1 dX12_height_71 rfl (lv_at hl 2 rfl) ?_
          refine j_imul SS (x := 40) (y := s) dX12_height_72 ?_
          refine lv_iload_n SS.1 SS.2.1 dX12_height_73 rfl (lv_at hl 3 rfl) ?_
          refine j_iadd SS (x := (40 * s)) (y := i) dX12_height_74 ?_
          refine lv_iload_n SS.1 SS.2.1 dX12_height_75 rfl (lv_at hl 4 rfl) ?_
          refine j_iast SS hG hP (mW_D hD) hS 4 (n := 320) (f := (u.1 3)) rfl (z := ((40 * s) + i)) (v := v) (by omega) (by omega) dX12_height_76 (ws' := (mW D o q (uI u 3 (upI (u.1 3) (((40 * s) + i)).toNat v)))) rfl (fun H locs hP hS => ?_)
          refine lv_iload SS.1 SS.2.1 dX12_height_77 (lv_at hl 0 rfl) ?_
          exact W.iret SS.1 SS.2.1 hr (fun t ht hW => ⟨⟨_, (uI u 3 (upI (u.1 3) (((40 * s) + i)).toNat v)), rfl, ⟨((u.1 3) (((40 * s) + i)).toNat), rfl, (⟨(upI (u.1 3) (((40 * s) + i)).toNat v), rfl, ⟨⟨p0.1, fun k => by by_cases e : k = ((40 * s) + i).toNat; (rw [e]; show -1000 ≤ upI _ _ _ _ ∧ upI _ _ _ _ ≤ 1000; rw [upI_s]; omega); (show -1000 ≤ upI _ _ _ _ ∧ upI _ _ _ _ ≤ 1000; rw [upI_n e]; exact p0.2.1 k), p0.2.2⟩, Or.inr ⟨⟨by omega, by omega, by omega⟩, rfl, rfl⟩⟩⟩)⟩, by show va_P D.1 j_cl (mW D o q (uI u 3 (upI (u.1 3) (((40 * s) + i)).toNat v))) t.heap; rw [ht]; exact hP⟩, hS.F ht⟩) hS.2.2 dX12_height_79 hlk
        · skip
          refine j_ldc SS (-1000000) kw_1213 dX12_height_49 ?_
          exact W.iret SS.1 SS.2.1 hr (fun t ht hW => ⟨⟨_, (uI u 3 (u.1 3)), rfl, ⟨(-1000000), rfl, (⟨(u.1 3), rfl, ⟨p0, Or.inl ⟨fun q => by have q1 := q.1; have q2 := q.2.1; have q3 := q.2.2; omega, rfl, rfl⟩⟩⟩)⟩, by show va_P D.1 j_cl (mW D o q (uI u 3 (u.1 3))) t.heap; rw [ht]; exact hP⟩, hS.F ht⟩) hS.2.2 dX12_height_51 hlk
