
theorem CI_sl {u : CS} {a b c d e f : Int} (h : CI u) : CI (sV (sV (sV (sV (sV (sV u 4 a) 5 b) 6 c) 7 d) 8 e) 9 f) := h

set_option maxHeartbeats 4000000 in
set_option maxRecDepth 100000 in
theorem c_X11_between (l : Launch) (D : JD) (q : Nat → Nat) (u : CS) (A : Nat → Prop) (hD : va_D A (cW D q u)) (a : Int) (b : Int) (c : Int) (d : Int) (p0 : CI u) (p1 : -2147483648 ≤ a ∧ a ≤ 2147483647) (p2 : -2147483648 ≤ b ∧ b ≤ 2147483647) (p3 : -2147483648 ≤ c ∧ c ≤ 2147483647) (p4 : -2147483648 ≤ d ∧ d ≤ 2147483647) : Met l yX11_between (jw yX11_between cX11_between 5 (some .int)) (jr 3 89) (jP [.ref (q 0), .int (J a), .int (J b), .int (J c), .int (J d)] D (fun H => va_P D.1 j_cl (cW D q u) H)) (jWi (fun z u' => btw_ a b c d z ∧ CI u') (fun u' H => va_P D.1 j_cl (cW D q u') H) A) 0 0 A := by
  refine Met.ofW (cc := cX11_between) (maxL := 5) (ret := (some .int)) (by decide) rfl ?_
  intro pr en st mi args below meth co s₁ B hml hv
  obtain ⟨rfl, hG, hP⟩ := hv
  have hr := B.returns
  have hlk := B.notSynchronized
  have SS : jS pr mi co cX11_between 5 st _ RX11 := ⟨B.exec, B.bytes, hml, findClass_of_methodNamed B.named, fun w hw => atoms_spec (ws := (jw yX11_between cX11_between 5 (some .int))) B.pre w (List.mem_cons_of_mem _ hw)⟩
  have hl := lv_entry ([.ref (q 0), .int (J a), .int (J b), .int (J c), .int (J d)]) (n := 5) (Nat.le_of_ble_eq_true rfl)
  rw [lg_entry_eq]
  generalize (lg_sl ([.ref (q 0), .int (J a), .int (J b), .int (J c), .int (J d)]) ++ List.replicate (5 - (lg_sl ([.ref (q 0), .int (J a), .int (J b), .int (J c), .int (J d)])).length) Slot.unset).toArray = ls at hl ⊢
  have hl : lv_has ls 5 [(0, .ref (q 0)), (1, .int (J a)), (2, .int (J b)), (3, .int (J c)), (4, .int (J d))] := hl
  have hS : va_S A st.heap st.heap [] := va_S.rf
  refine lv_iload_n SS.1 SS.2.1 dX11_between_0 rfl (lv_at hl 1 rfl) ?_
  refine j_sRi SS (As := [.int (J a)]) (rest := []) (c_X11_onGrid l D  a (show -2147483648 ≤ a ∧ a ≤ 2147483647 from (p1))) mf_X11_onGrid kw_475 hG trivial rfl hl.1 ⟨⟨Nat.le_of_ble_eq_true rfl, Nat.le_of_ble_eq_true rfl⟩, Nat.le_of_ble_eq_true rfl, Nat.le_refl _, Nat.le_refl _⟩ rfl dX11_between_1 (fun z_1 h_1 => ?_)
  have h_1 : (z_1 = 1 ∧ (-40 ≤ a ∧ a ≤ 40)) ∨ (z_1 = 0 ∧ ¬ (-40 ≤ a ∧ a ≤ 40)) := h_1
  refine j_if_eq SS (tgt := 29) (x := z_1) dX11_between_4 (by decide) (by omega) (fun c_4 => ?_) (fun c_4 => ?_)
  · skip
    refine j_iconst SS dX11_between_29 ?_
    exact W.iret SS.1 SS.2.1 hr (fun t0 ht hW => ⟨⟨_, u, rfl, ⟨(-1), rfl, (⟨Or.inl ⟨fun h => by unfold pl4 at h; omega, rfl⟩, p0⟩)⟩, by show va_P D.1 j_cl (cW D q u) t0.heap; rw [ht]; first | exact hP | (simp only [sC_id, sX_id, sY_id, sH_id, sT_id, sV_id]; exact hP)⟩, hS.F ht⟩) hS.2.2 dX11_between_30 hlk
  · skip
    refine lv_iload_n SS.1 SS.2.1 dX11_between_7 rfl (lv_at hl 2 rfl) ?_
    refine j_sRi SS (As := [.int (J b)]) (rest := []) (c_X11_onGrid l D  b (show -2147483648 ≤ b ∧ b ≤ 2147483647 from (p2))) mf_X11_onGrid kw_475 hG trivial rfl hl.1 ⟨⟨Nat.le_of_ble_eq_true rfl, Nat.le_of_ble_eq_true rfl⟩, Nat.le_of_ble_eq_true rfl, Nat.le_refl _, Nat.le_refl _⟩ rfl dX11_between_8 (fun z_8 h_8 => ?_)
    have h_8 : (z_8 = 1 ∧ (-40 ≤ b ∧ b ≤ 40)) ∨ (z_8 = 0 ∧ ¬ (-40 ≤ b ∧ b ≤ 40)) := h_8
    refine j_if_eq SS (tgt := 29) (x := z_8) dX11_between_11 (by decide) (by omega) (fun c_11 => ?_) (fun c_11 => ?_)
    · skip
      refine j_iconst SS dX11_between_29 ?_
      exact W.iret SS.1 SS.2.1 hr (fun t0 ht hW => ⟨⟨_, u, rfl, ⟨(-1), rfl, (⟨Or.inl ⟨fun h => by unfold pl4 at h; omega, rfl⟩, p0⟩)⟩, by show va_P D.1 j_cl (cW D q u) t0.heap; rw [ht]; first | exact hP | (simp only [sC_id, sX_id, sY_id, sH_id, sT_id, sV_id]; exact hP)⟩, hS.F ht⟩) hS.2.2 dX11_between_30 hlk
    · skip
      refine lv_iload_n SS.1 SS.2.1 dX11_between_14 rfl (lv_at hl 3 rfl) ?_
      refine j_sRi SS (As := [.int (J c)]) (rest := []) (c_X11_onGrid l D  c (show -2147483648 ≤ c ∧ c ≤ 2147483647 from (p3))) mf_X11_onGrid kw_475 hG trivial rfl hl.1 ⟨⟨Nat.le_of_ble_eq_true rfl, Nat.le_of_ble_eq_true rfl⟩, Nat.le_of_ble_eq_true rfl, Nat.le_refl _, Nat.le_refl _⟩ rfl dX11_between_15 (fun z_15 h_15 => ?_)
      have h_15 : (z_15 = 1 ∧ (-40 ≤ c ∧ c ≤ 40)) ∨ (z_15 = 0 ∧ ¬ (-40 ≤ c ∧ c ≤ 40)) := h_15
      refine j_if_eq SS (tgt := 29) (x := z_15) dX11_between_18 (by decide) (by omega) (fun c_18 => ?_) (fun c_18 => ?_)
      · skip
        refine j_iconst SS dX11_between_29 ?_
        exact W.iret SS.1 SS.2.1 hr (fun t0 ht hW => ⟨⟨_, u, rfl, ⟨(-1), rfl, (⟨Or.inl ⟨fun h => by unfold pl4 at h; omega, rfl⟩, p0⟩)⟩, by show va_P D.1 j_cl (cW D q u) t0.heap; rw [ht]; first | exact hP | (simp only [sC_id, sX_id, sY_id, sH_id, sT_id, sV_id]; exact hP)⟩, hS.F ht⟩) hS.2.2 dX11_between_30 hlk
      · skip
        refine lv_iload SS.1 SS.2.1 dX11_between_21 (lv_at hl 4 rfl) ?_
        refine j_sRi SS (As := [.int (J d)]) (rest := []) (c_X11_onGrid l D  d (show -2147483648 ≤ d ∧ d ≤ 2147483647 from (p4))) mf_X11_onGrid kw_475 hG trivial rfl hl.1 ⟨⟨Nat.le_of_ble_eq_true rfl, Nat.le_of_ble_eq_true rfl⟩, Nat.le_of_ble_eq_true rfl, Nat.le_refl _, Nat.le_refl _⟩ rfl dX11_between_23 (fun z_23 h_23 => ?_)
        have h_23 : (z_23 = 1 ∧ (-40 ≤ d ∧ d ≤ 40)) ∨ (z_23 = 0 ∧ ¬ (-40 ≤ d ∧ d ≤ 40)) := h_23
        refine j_if_ne SS (tgt := 31) (x := z_23) dX11_between_26 (by decide) (by omega) (fun c_26 => ?_) (fun c_26 => ?_)
        · skip
          refine lv_iload_n SS.1 SS.2.1 dX11_between_31 rfl (lv_at hl 1 rfl) ?_
          refine lv_iload_n SS.1 SS.2.1 dX11_between_32 rfl (lv_at hl 2 rfl) ?_
          refine lv_iload_n SS.1 SS.2.1 dX11_between_33 rfl (lv_at hl 3 rfl) ?_
          refine lv_iload SS.1 SS.2.1 dX11_between_34 (lv_at hl 4 rfl) ?_
          refine j_sRi SS (As := [.int (J a), .int (J b), .int (J c), .int (J d)]) (rest := []) (c_X11_isAngle l D  a b c d (show -40 ≤ a ∧ a ≤ 40 from (by omega)) (show -40 ≤ b ∧ b ≤ 40 from (by omega)) (show -40 ≤ c ∧ c ≤ 40 from (by omega)) (show -40 ≤ d ∧ d ≤ 40 from (by omega))) mf_X11_isAngle kw_832 hG trivial rfl hl.1 ⟨⟨Nat.le_of_ble_eq_true rfl, Nat.le_of_ble_eq_true rfl⟩, Nat.le_of_ble_eq_true rfl, Nat.le_refl _, Nat.le_refl _⟩ rfl dX11_between_36 (fun z_36 h_36 => ?_)
          have h_36 : (z_36 = 1 ∧ 0 < cx a b c d) ∨ (z_36 = 0 ∧ cx a b c d ≤ 0) := h_36
          refine j_if_ne SS (tgt := 45) (x := z_36) dX11_between_39 (by decide) (by omega) (fun c_39 => ?_) (fun c_39 => ?_)
          · skip
            refine lv_aload_n SS.1 SS.2.1 dX11_between_45 rfl (lv_at hl 0 rfl) ?_
            refine j_get SS hG hP 0 (v := .ref (q 4)) (C := RX11) (T := TX11) (N := 8) rfl rfl inX11 3 (by decide) (ref := "GridPolygons") kw_388 rfl rfl dX11_between_46 ?_
            refine lv_iload_n SS.1 SS.2.1 dX11_between_49 rfl (lv_at hl 1 rfl) ?_
            refine lv_iload_n SS.1 SS.2.1 dX11_between_50 rfl (lv_at hl 2 rfl) ?_
            refine lv_iload_n SS.1 SS.2.1 dX11_between_51 rfl (lv_at hl 3 rfl) ?_
            refine lv_iload SS.1 SS.2.1 dX11_between_52 (lv_at hl 4 rfl) ?_
            refine j_iconst SS dX11_between_54 ?_
            refine j_vWv SS (As := [.int (J a), .int (J b), .int (J c), .int (J d), .int (J 0)]) (rest := []) (c_X9_walk l D q u A (cW_D hD)  a b c d 0 (show -40 ≤ a ∧ a ≤ 40 from (by omega)) (show -40 ≤ b ∧ b ≤ 40 from (by omega)) (show -40 ≤ c ∧ c ≤ 40 from (by omega)) (show -40 ≤ d ∧ d ≤ 40 from (by omega)) (show 0 < cx a b c d from (by omega)) (show -2147483648 ≤ (0 : Int) ∧ (0 : Int) ≤ 2147483647 from (by omega))) mf_X9_walk kw_835 hG hP hP (ci := 9) (q0 := 4) rfl rfl rfl hS (fun _ h => h) rfl hl.1 ⟨⟨Nat.le_of_ble_eq_true rfl, Nat.le_of_ble_eq_true rfl⟩, Nat.le_of_ble_eq_true rfl, Nat.le_refl _, Nat.le_refl _⟩ rfl dX11_between_55 (fun u55 H locs h_55 hP _ hS => ?_)
            obtain ⟨cn_55, x1_55, y1_55, b1_55, sx_55, sy_55, rfl, h_55⟩ := h_55
            have hP : va_P D.1 j_cl (cW D q (sV (sV (sV (sV (sV (sV u 4 cn_55) 5 x1_55) 6 y1_55) 7 b1_55) 8 sx_55) 9 sy_55)) H := hP
            have h_55 : wk a b c d (0 : Int) cn_55 x1_55 y1_55 b1_55 := h_55
            refine lv_aload_n SS.1 SS.2.1 dX11_between_58 rfl (lv_at hl 0 rfl) ?_
            refine j_get SS hG hP 0 (v := .ref (q 4)) (C := RX11) (T := TX11) (N := 8) rfl rfl inX11 3 (by decide) (ref := "GridPolygons") kw_388 rfl rfl dX11_between_59 ?_
            refine j_get SS hG hP 4 (v := .int (J cn_55)) (C := RX9) (T := TX9) (N := 6) rfl rfl inX9 0 (by decide) (ref := "GridPolygons$Sail") kw_214 rfl rfl dX11_between_62 ?_
            obtain ⟨cn62, ecn62⟩ : ∃ z : Int, z = cn_55 := ⟨_, rfl⟩
            rw [← ecn62]
            exact W.iret SS.1 SS.2.1 hr (fun t0 ht hW => ⟨⟨_, (sV (sV (sV (sV (sV (sV u 4 cn_55) 5 x1_55) 6 y1_55) 7 b1_55) 8 sx_55) 9 sy_55), rfl, ⟨cn62, rfl, (by obtain ⟨X, Y, hy, _⟩ := h_55; exact ⟨Or.inr (Or.inr ⟨by unfold pl4; omega, by omega, X, Y, by rw [ecn62]; exact hy⟩), CI_sl p0⟩)⟩, by show va_P D.1 j_cl (cW D q (sV (sV (sV (sV (sV (sV u 4 cn_55) 5 x1_55) 6 y1_55) 7 b1_55) 8 sx_55) 9 sy_55)) t0.heap; rw [ht]; first | exact hP | (simp only [sC_id, sX_id, sY_id, sH_id, sT_id, sV_id]; exact hP)⟩, hS.F ht⟩) hS.2.2 dX11_between_65 hlk
          · skip
            refine j_bipush SS dX11_between_42 (by decide +kernel) ?_
            exact W.iret SS.1 SS.2.1 hr (fun t0 ht hW => ⟨⟨_, u, rfl, ⟨(-2), rfl, (⟨Or.inr (Or.inl ⟨by unfold pl4; omega, by omega, rfl⟩), p0⟩)⟩, by show va_P D.1 j_cl (cW D q u) t0.heap; rw [ht]; first | exact hP | (simp only [sC_id, sX_id, sY_id, sH_id, sT_id, sV_id]; exact hP)⟩, hS.F ht⟩) hS.2.2 dX11_between_44 hlk
        · skip
          refine j_iconst SS dX11_between_29 ?_
          exact W.iret SS.1 SS.2.1 hr (fun t0 ht hW => ⟨⟨_, u, rfl, ⟨(-1), rfl, (⟨Or.inl ⟨fun h => by unfold pl4 at h; omega, rfl⟩, p0⟩)⟩, by show va_P D.1 j_cl (cW D q u) t0.heap; rw [ht]; first | exact hP | (simp only [sC_id, sX_id, sY_id, sH_id, sT_id, sV_id]; exact hP)⟩, hS.F ht⟩) hS.2.2 dX11_between_30 hlk

set_option maxHeartbeats 4000000 in
set_option maxRecDepth 100000 in
theorem c_X11_ray (l : Launch) (D : JD) (q : Nat → Nat) (u : CS) (A : Nat → Prop) (hD : va_D A (cW D q u)) (a : Int) (b : Int) (c : Int) (d : Int) (i : Int) (what : Int) (p0 : CI u) (p1 : -2147483648 ≤ a ∧ a ≤ 2147483647) (p2 : -2147483648 ≤ b ∧ b ≤ 2147483647) (p3 : -2147483648 ≤ c ∧ c ≤ 2147483647) (p4 : -2147483648 ≤ d ∧ d ≤ 2147483647) (p5 : -2147483648 ≤ i ∧ i ≤ 2147483647) (p6 : -2147483648 ≤ what ∧ what ≤ 2147483647) : Met l yX11_ray (jw yX11_ray cX11_ray 7 (some .int)) (jr 3 89) (jP [.ref (q 0), .int (J a), .int (J b), .int (J c), .int (J d), .int (J i), .int (J what)] D (fun H => va_P D.1 j_cl (cW D q u) H)) (jWi (fun z u' => ray_ a b c d i what z ∧ CI u') (fun u' H => va_P D.1 j_cl (cW D q u') H) A) 0 0 A := by
  refine Met.ofW (cc := cX11_ray) (maxL := 7) (ret := (some .int)) (by decide) rfl ?_
  intro pr en st mi args below meth co s₁ B hml hv
  obtain ⟨rfl, hG, hP⟩ := hv
  have hr := B.returns
  have hlk := B.notSynchronized
  have SS : jS pr mi co cX11_ray 7 st _ RX11 := ⟨B.exec, B.bytes, hml, findClass_of_methodNamed B.named, fun w hw => atoms_spec (ws := (jw yX11_ray cX11_ray 7 (some .int))) B.pre w (List.mem_cons_of_mem _ hw)⟩
  have hl := lv_entry ([.ref (q 0), .int (J a), .int (J b), .int (J c), .int (J d), .int (J i), .int (J what)]) (n := 7) (Nat.le_of_ble_eq_true rfl)
  rw [lg_entry_eq]
  generalize (lg_sl ([.ref (q 0), .int (J a), .int (J b), .int (J c), .int (J d), .int (J i), .int (J what)]) ++ List.replicate (7 - (lg_sl ([.ref (q 0), .int (J a), .int (J b), .int (J c), .int (J d), .int (J i), .int (J what)])).length) Slot.unset).toArray = ls at hl ⊢
  have hl : lv_has ls 7 [(0, .ref (q 0)), (1, .int (J a)), (2, .int (J b)), (3, .int (J c)), (4, .int (J d)), (5, .int (J i)), (6, .int (J what))] := hl
  have hS : va_S A st.heap st.heap [] := va_S.rf
  refine lv_iload_n SS.1 SS.2.1 dX11_ray_0 rfl (lv_at hl 1 rfl) ?_
  refine j_sRi SS (As := [.int (J a)]) (rest := []) (c_X11_onGrid l D  a (show -2147483648 ≤ a ∧ a ≤ 2147483647 from (p1))) mf_X11_onGrid kw_475 hG trivial rfl hl.1 ⟨⟨Nat.le_of_ble_eq_true rfl, Nat.le_of_ble_eq_true rfl⟩, Nat.le_of_ble_eq_true rfl, Nat.le_refl _, Nat.le_refl _⟩ rfl dX11_ray_1 (fun z_1 h_1 => ?_)
  have h_1 : (z_1 = 1 ∧ (-40 ≤ a ∧ a ≤ 40)) ∨ (z_1 = 0 ∧ ¬ (-40 ≤ a ∧ a ≤ 40)) := h_1
  refine j_if_eq SS (tgt := 45) (x := z_1) dX11_ray_4 (by decide) (by omega) (fun c_4 => ?_) (fun c_4 => ?_)
  · skip
    refine j_ldc SS (-1000000) kw_512 dX11_ray_45 ?_
    exact W.iret SS.1 SS.2.1 hr (fun t0 ht hW => ⟨⟨_, u, rfl, ⟨(-1000000), rfl, (⟨Or.inl ⟨fun h => by unfold pl4 at h; omega, rfl⟩, p0⟩)⟩, by show va_P D.1 j_cl (cW D q u) t0.heap; rw [ht]; first | exact hP | (simp only [sC_id, sX_id, sY_id, sH_id, sT_id, sV_id]; exact hP)⟩, hS.F ht⟩) hS.2.2 dX11_ray_47 hlk
  · skip
    refine lv_iload_n SS.1 SS.2.1 dX11_ray_7 rfl (lv_at hl 2 rfl) ?_
    refine j_sRi SS (As := [.int (J b)]) (rest := []) (c_X11_onGrid l D  b (show -2147483648 ≤ b ∧ b ≤ 2147483647 from (p2))) mf_X11_onGrid kw_475 hG trivial rfl hl.1 ⟨⟨Nat.le_of_ble_eq_true rfl, Nat.le_of_ble_eq_true rfl⟩, Nat.le_of_ble_eq_true rfl, Nat.le_refl _, Nat.le_refl _⟩ rfl dX11_ray_8 (fun z_8 h_8 => ?_)
    have h_8 : (z_8 = 1 ∧ (-40 ≤ b ∧ b ≤ 40)) ∨ (z_8 = 0 ∧ ¬ (-40 ≤ b ∧ b ≤ 40)) := h_8
    refine j_if_eq SS (tgt := 45) (x := z_8) dX11_ray_11 (by decide) (by omega) (fun c_11 => ?_) (fun c_11 => ?_)
    · skip
      refine j_ldc SS (-1000000) kw_512 dX11_ray_45 ?_
      exact W.iret SS.1 SS.2.1 hr (fun t0 ht hW => ⟨⟨_, u, rfl, ⟨(-1000000), rfl, (⟨Or.inl ⟨fun h => by unfold pl4 at h; omega, rfl⟩, p0⟩)⟩, by show va_P D.1 j_cl (cW D q u) t0.heap; rw [ht]; first | exact hP | (simp only [sC_id, sX_id, sY_id, sH_id, sT_id, sV_id]; exact hP)⟩, hS.F ht⟩) hS.2.2 dX11_ray_47 hlk
    · skip
      refine lv_iload_n SS.1 SS.2.1 dX11_ray_14 rfl (lv_at hl 3 rfl) ?_
      refine j_sRi SS (As := [.int (J c)]) (rest := []) (c_X11_onGrid l D  c (show -2147483648 ≤ c ∧ c ≤ 2147483647 from (p3))) mf_X11_onGrid kw_475 hG trivial rfl hl.1 ⟨⟨Nat.le_of_ble_eq_true rfl, Nat.le_of_ble_eq_true rfl⟩, Nat.le_of_ble_eq_true rfl, Nat.le_refl _, Nat.le_refl _⟩ rfl dX11_ray_15 (fun z_15 h_15 => ?_)
      have h_15 : (z_15 = 1 ∧ (-40 ≤ c ∧ c ≤ 40)) ∨ (z_15 = 0 ∧ ¬ (-40 ≤ c ∧ c ≤ 40)) := h_15
      refine j_if_eq SS (tgt := 45) (x := z_15) dX11_ray_18 (by decide) (by omega) (fun c_18 => ?_) (fun c_18 => ?_)
      · skip
        refine j_ldc SS (-1000000) kw_512 dX11_ray_45 ?_
        exact W.iret SS.1 SS.2.1 hr (fun t0 ht hW => ⟨⟨_, u, rfl, ⟨(-1000000), rfl, (⟨Or.inl ⟨fun h => by unfold pl4 at h; omega, rfl⟩, p0⟩)⟩, by show va_P D.1 j_cl (cW D q u) t0.heap; rw [ht]; first | exact hP | (simp only [sC_id, sX_id, sY_id, sH_id, sT_id, sV_id]; exact hP)⟩, hS.F ht⟩) hS.2.2 dX11_ray_47 hlk
      · skip
        refine lv_iload SS.1 SS.2.1 dX11_ray_21 (lv_at hl 4 rfl) ?_
        refine j_sRi SS (As := [.int (J d)]) (rest := []) (c_X11_onGrid l D  d (show -2147483648 ≤ d ∧ d ≤ 2147483647 from (p4))) mf_X11_onGrid kw_475 hG trivial rfl hl.1 ⟨⟨Nat.le_of_ble_eq_true rfl, Nat.le_of_ble_eq_true rfl⟩, Nat.le_of_ble_eq_true rfl, Nat.le_refl _, Nat.le_refl _⟩ rfl dX11_ray_23 (fun z_23 h_23 => ?_)
        have h_23 : (z_23 = 1 ∧ (-40 ≤ d ∧ d ≤ 40)) ∨ (z_23 = 0 ∧ ¬ (-40 ≤ d ∧ d ≤ 40)) := h_23
        refine j_if_eq SS (tgt := 45) (x := z_23) dX11_ray_26 (by decide) (by omega) (fun c_26 => ?_) (fun c_26 => ?_)
        · skip
          refine j_ldc SS (-1000000) kw_512 dX11_ray_45 ?_
          exact W.iret SS.1 SS.2.1 hr (fun t0 ht hW => ⟨⟨_, u, rfl, ⟨(-1000000), rfl, (⟨Or.inl ⟨fun h => by unfold pl4 at h; omega, rfl⟩, p0⟩)⟩, by show va_P D.1 j_cl (cW D q u) t0.heap; rw [ht]; first | exact hP | (simp only [sC_id, sX_id, sY_id, sH_id, sT_id, sV_id]; exact hP)⟩, hS.F ht⟩) hS.2.2 dX11_ray_47 hlk
        · skip
          refine lv_iload SS.1 SS.2.1 dX11_ray_29 (lv_at hl 5 rfl) ?_
          refine j_if_lt SS (tgt := 45) (x := i) dX11_ray_31 (by decide) (by omega) (fun c_31 => ?_) (fun c_31 => ?_)
          · skip
            refine j_ldc SS (-1000000) kw_512 dX11_ray_45 ?_
            exact W.iret SS.1 SS.2.1 hr (fun t0 ht hW => ⟨⟨_, u, rfl, ⟨(-1000000), rfl, (⟨Or.inl ⟨fun h => by unfold pl4 at h; omega, rfl⟩, p0⟩)⟩, by show va_P D.1 j_cl (cW D q u) t0.heap; rw [ht]; first | exact hP | (simp only [sC_id, sX_id, sY_id, sH_id, sT_id, sV_id]; exact hP)⟩, hS.F ht⟩) hS.2.2 dX11_ray_47 hlk
          · skip
            refine lv_iload SS.1 SS.2.1 dX11_ray_34 (lv_at hl 6 rfl) ?_
            refine j_if_lt SS (tgt := 45) (x := what) dX11_ray_36 (by decide) (by omega) (fun c_36 => ?_) (fun c_36 => ?_)
            · skip
              refine j_ldc SS (-1000000) kw_512 dX11_ray_45 ?_
              exact W.iret SS.1 SS.2.1 hr (fun t0 ht hW => ⟨⟨_, u, rfl, ⟨(-1000000), rfl, (⟨Or.inl ⟨fun h => by unfold pl4 at h; omega, rfl⟩, p0⟩)⟩, by show va_P D.1 j_cl (cW D q u) t0.heap; rw [ht]; first | exact hP | (simp only [sC_id, sX_id, sY_id, sH_id, sT_id, sV_id]; exact hP)⟩, hS.F ht⟩) hS.2.2 dX11_ray_47 hlk
            · skip
              refine lv_iload SS.1 SS.2.1 dX11_ray_39 (lv_at hl 6 rfl) ?_
              refine j_iconst SS dX11_ray_41 ?_
              refine j_icmp_le SS (tgt := 48) (x := what) (y := 2) dX11_ray_42 (by decide) (by omega) (by decide) (fun c_42 => ?_) (fun c_42 => ?_)
              · skip
                refine lv_iload_n SS.1 SS.2.1 dX11_ray_48 rfl (lv_at hl 1 rfl) ?_
                refine lv_iload_n SS.1 SS.2.1 dX11_ray_49 rfl (lv_at hl 2 rfl) ?_
                refine lv_iload_n SS.1 SS.2.1 dX11_ray_50 rfl (lv_at hl 3 rfl) ?_
                refine lv_iload SS.1 SS.2.1 dX11_ray_51 (lv_at hl 4 rfl) ?_
                refine j_sRi SS (As := [.int (J a), .int (J b), .int (J c), .int (J d)]) (rest := []) (c_X11_isAngle l D  a b c d (show -40 ≤ a ∧ a ≤ 40 from (by omega)) (show -40 ≤ b ∧ b ≤ 40 from (by omega)) (show -40 ≤ c ∧ c ≤ 40 from (by omega)) (show -40 ≤ d ∧ d ≤ 40 from (by omega))) mf_X11_isAngle kw_832 hG trivial rfl hl.1 ⟨⟨Nat.le_of_ble_eq_true rfl, Nat.le_of_ble_eq_true rfl⟩, Nat.le_of_ble_eq_true rfl, Nat.le_refl _, Nat.le_refl _⟩ rfl dX11_ray_53 (fun z_53 h_53 => ?_)
                have h_53 : (z_53 = 1 ∧ 0 < cx a b c d) ∨ (z_53 = 0 ∧ cx a b c d ≤ 0) := h_53
                refine j_if_ne SS (tgt := 62) (x := z_53) dX11_ray_56 (by decide) (by omega) (fun c_56 => ?_) (fun c_56 => ?_)
                · skip
                  refine lv_aload_n SS.1 SS.2.1 dX11_ray_62 rfl (lv_at hl 0 rfl) ?_
                  refine j_get SS hG hP 0 (v := .ref (q 4)) (C := RX11) (T := TX11) (N := 8) rfl rfl inX11 3 (by decide) (ref := "GridPolygons") kw_388 rfl rfl dX11_ray_63 ?_
                  refine lv_iload_n SS.1 SS.2.1 dX11_ray_66 rfl (lv_at hl 1 rfl) ?_
                  refine lv_iload_n SS.1 SS.2.1 dX11_ray_67 rfl (lv_at hl 2 rfl) ?_
                  refine lv_iload_n SS.1 SS.2.1 dX11_ray_68 rfl (lv_at hl 3 rfl) ?_
                  refine lv_iload SS.1 SS.2.1 dX11_ray_69 (lv_at hl 4 rfl) ?_
                  refine lv_iload SS.1 SS.2.1 dX11_ray_71 (lv_at hl 5 rfl) ?_
                  refine j_vWv SS (As := [.int (J a), .int (J b), .int (J c), .int (J d), .int (J i)]) (rest := []) (c_X9_walk l D q u A (cW_D hD)  a b c d i (show -40 ≤ a ∧ a ≤ 40 from (by omega)) (show -40 ≤ b ∧ b ≤ 40 from (by omega)) (show -40 ≤ c ∧ c ≤ 40 from (by omega)) (show -40 ≤ d ∧ d ≤ 40 from (by omega)) (show 0 < cx a b c d from (by omega)) (show -2147483648 ≤ i ∧ i ≤ 2147483647 from (p5))) mf_X9_walk kw_835 hG hP hP (ci := 9) (q0 := 4) rfl rfl rfl hS (fun _ h => h) rfl hl.1 ⟨⟨Nat.le_of_ble_eq_true rfl, Nat.le_of_ble_eq_true rfl⟩, Nat.le_of_ble_eq_true rfl, Nat.le_refl _, Nat.le_refl _⟩ rfl dX11_ray_73 (fun u73 H locs h_73 hP _ hS => ?_)
                  obtain ⟨cn_73, x1_73, y1_73, b1_73, sx_73, sy_73, rfl, h_73⟩ := h_73
                  have hP : va_P D.1 j_cl (cW D q (sV (sV (sV (sV (sV (sV u 4 cn_73) 5 x1_73) 6 y1_73) 7 b1_73) 8 sx_73) 9 sy_73)) H := hP
                  have h_73 : wk a b c d i cn_73 x1_73 y1_73 b1_73 := h_73
                  refine lv_iload SS.1 SS.2.1 dX11_ray_76 (lv_at hl 5 rfl) ?_
                  refine lv_aload_n SS.1 SS.2.1 dX11_ray_78 rfl (lv_at hl 0 rfl) ?_
                  refine j_get SS hG hP 0 (v := .ref (q 4)) (C := RX11) (T := TX11) (N := 8) rfl rfl inX11 3 (by decide) (ref := "GridPolygons") kw_388 rfl rfl dX11_ray_79 ?_
                  refine j_get SS hG hP 4 (v := .int (J cn_73)) (C := RX9) (T := TX9) (N := 6) rfl rfl inX9 0 (by decide) (ref := "GridPolygons$Sail") kw_214 rfl rfl dX11_ray_82 ?_
                  obtain ⟨cn82, ecn82⟩ : ∃ z : Int, z = cn_73 := ⟨_, rfl⟩
                  rw [← ecn82]
                  obtain ⟨X, Y, hry, hk⟩ := h_73
                  rw [← ecn82] at hry hk
                  have hn := hry.1
                  have hp : pl4 a b c d := by unfold pl4; omega
                  have hc : 0 < cx a b c d := by omega
                  refine j_icmp_lt SS (tgt := 91) (x := i) (y := cn82) dX11_ray_85 (by decide) (by omega) (by omega) (fun c_85 => ?_) (fun c_85 => ?_)
                  · skip
                    refine lv_iload SS.1 SS.2.1 dX11_ray_91 (lv_at hl 6 rfl) ?_
                    refine j_if_ne SS (tgt := 104) (x := what) dX11_ray_93 (by decide) (by omega) (fun c_93 => ?_) (fun c_93 => ?_)
                    · skip
                      refine lv_iload SS.1 SS.2.1 dX11_ray_104 (lv_at hl 6 rfl) ?_
                      refine j_iconst SS dX11_ray_106 ?_
                      refine j_icmp_ne SS (tgt := 120) (x := what) (y := 1) dX11_ray_107 (by decide) (by omega) (by decide) (fun c_107 => ?_) (fun c_107 => ?_)
                      · skip
                        refine lv_aload_n SS.1 SS.2.1 dX11_ray_120 rfl (lv_at hl 0 rfl) ?_
                        refine j_get SS hG hP 0 (v := .ref (q 4)) (C := RX11) (T := TX11) (N := 8) rfl rfl inX11 3 (by decide) (ref := "GridPolygons") kw_388 rfl rfl dX11_ray_121 ?_
                        refine j_get SS hG hP 4 (v := .int (J b1_73)) (C := RX9) (T := TX9) (N := 6) rfl rfl inX9 3 (by decide) (ref := "GridPolygons$Sail") kw_220 rfl rfl dX11_ray_124 ?_
                        obtain ⟨b124, eb124⟩ : ∃ z : Int, z = b1_73 := ⟨_, rfl⟩
                        rw [← eb124]
                        have hk2 := hk (by omega) (by omega)
                        exact W.iret SS.1 SS.2.1 hr (fun t0 ht hW => ⟨⟨_, (sV (sV (sV (sV (sV (sV u 4 cn_73) 5 x1_73) 6 y1_73) 7 b1_73) 8 sx_73) 9 sy_73), rfl, ⟨b124, rfl, (by first | exact ⟨Or.inr ⟨hp, by omega, hc, by omega, X, Y, cn82, hry, Or.inr ⟨by omega, Or.inr (Or.inl ⟨by omega, by rw [ey114]; exact hk2.2.1⟩)⟩⟩, CI_sl p0⟩ | exact ⟨Or.inr ⟨hp, by omega, hc, by omega, X, Y, cn82, hry, Or.inr ⟨by omega, Or.inr (Or.inr ⟨by omega, by rw [eb124]; by_cases e : i = 0 ∨ i = cn82 - 1; exact Or.inl ⟨e, hk2.2.2.1 e⟩; exact Or.inr ⟨by omega, by omega, hk2.2.2.2 (by omega) (by omega)⟩⟩)⟩⟩, CI_sl p0⟩)⟩, by show va_P D.1 j_cl (cW D q (sV (sV (sV (sV (sV (sV u 4 cn_73) 5 x1_73) 6 y1_73) 7 b1_73) 8 sx_73) 9 sy_73)) t0.heap; rw [ht]; first | exact hP | (simp only [sC_id, sX_id, sY_id, sH_id, sT_id, sV_id]; exact hP)⟩, hS.F ht⟩) hS.2.2 dX11_ray_127 hlk
                      · skip
                        refine lv_aload_n SS.1 SS.2.1 dX11_ray_110 rfl (lv_at hl 0 rfl) ?_
                        refine j_get SS hG hP 0 (v := .ref (q 4)) (C := RX11) (T := TX11) (N := 8) rfl rfl inX11 3 (by decide) (ref := "GridPolygons") kw_388 rfl rfl dX11_ray_111 ?_
                        refine j_get SS hG hP 4 (v := .int (J y1_73)) (C := RX9) (T := TX9) (N := 6) rfl rfl inX9 2 (by decide) (ref := "GridPolygons$Sail") kw_218 rfl rfl dX11_ray_114 ?_
                        obtain ⟨y114, ey114⟩ : ∃ z : Int, z = y1_73 := ⟨_, rfl⟩
                        rw [← ey114]
                        have hk2 := hk (by omega) (by omega)
                        refine lv_goto (tgt := 127) SS.1 SS.2.1 dX11_ray_117 (by decide) ?_
                        exact W.iret SS.1 SS.2.1 hr (fun t0 ht hW => ⟨⟨_, (sV (sV (sV (sV (sV (sV u 4 cn_73) 5 x1_73) 6 y1_73) 7 b1_73) 8 sx_73) 9 sy_73), rfl, ⟨y114, rfl, (by first | exact ⟨Or.inr ⟨hp, by omega, hc, by omega, X, Y, cn82, hry, Or.inr ⟨by omega, Or.inr (Or.inl ⟨by omega, by rw [ey114]; exact hk2.2.1⟩)⟩⟩, CI_sl p0⟩ | exact ⟨Or.inr ⟨hp, by omega, hc, by omega, X, Y, cn82, hry, Or.inr ⟨by omega, Or.inr (Or.inr ⟨by omega, by rw [eb124]; by_cases e : i = 0 ∨ i = cn82 - 1; exact Or.inl ⟨e, hk2.2.2.1 e⟩; exact Or.inr ⟨by omega, by omega, hk2.2.2.2 (by omega) (by omega)⟩⟩)⟩⟩, CI_sl p0⟩)⟩, by show va_P D.1 j_cl (cW D q (sV (sV (sV (sV (sV (sV u 4 cn_73) 5 x1_73) 6 y1_73) 7 b1_73) 8 sx_73) 9 sy_73)) t0.heap; rw [ht]; first | exact hP | (simp only [sC_id, sX_id, sY_id, sH_id, sT_id, sV_id]; exact hP)⟩, hS.F ht⟩) hS.2.2 dX11_ray_127 hlk
                    · skip
                      refine lv_aload_n SS.1 SS.2.1 dX11_ray_96 rfl (lv_at hl 0 rfl) ?_
                      refine j_get SS hG hP 0 (v := .ref (q 4)) (C := RX11) (T := TX11) (N := 8) rfl rfl inX11 3 (by decide) (ref := "GridPolygons") kw_388 rfl rfl dX11_ray_97 ?_
                      refine j_get SS hG hP 4 (v := .int (J x1_73)) (C := RX9) (T := TX9) (N := 6) rfl rfl inX9 1 (by decide) (ref := "GridPolygons$Sail") kw_216 rfl rfl dX11_ray_100 ?_
                      obtain ⟨x100, ex100⟩ : ∃ z : Int, z = x1_73 := ⟨_, rfl⟩
                      rw [← ex100]
                      have hk2 := hk (by omega) (by omega)
                      exact W.iret SS.1 SS.2.1 hr (fun t0 ht hW => ⟨⟨_, (sV (sV (sV (sV (sV (sV u 4 cn_73) 5 x1_73) 6 y1_73) 7 b1_73) 8 sx_73) 9 sy_73), rfl, ⟨x100, rfl, (⟨Or.inr ⟨hp, by omega, hc, by omega, X, Y, cn82, hry, Or.inr ⟨by omega, Or.inl ⟨by omega, by rw [ex100]; exact hk2.1⟩⟩⟩, CI_sl p0⟩)⟩, by show va_P D.1 j_cl (cW D q (sV (sV (sV (sV (sV (sV u 4 cn_73) 5 x1_73) 6 y1_73) 7 b1_73) 8 sx_73) 9 sy_73)) t0.heap; rw [ht]; first | exact hP | (simp only [sC_id, sX_id, sY_id, sH_id, sT_id, sV_id]; exact hP)⟩, hS.F ht⟩) hS.2.2 dX11_ray_103 hlk
                  · skip
                    refine j_ldc SS (-1000000) kw_512 dX11_ray_88 ?_
                    exact W.iret SS.1 SS.2.1 hr (fun t0 ht hW => ⟨⟨_, (sV (sV (sV (sV (sV (sV u 4 cn_73) 5 x1_73) 6 y1_73) 7 b1_73) 8 sx_73) 9 sy_73), rfl, ⟨(-1000000), rfl, (⟨Or.inr ⟨hp, by omega, hc, by omega, X, Y, cn82, hry, Or.inl ⟨by omega, rfl⟩⟩, CI_sl p0⟩)⟩, by show va_P D.1 j_cl (cW D q (sV (sV (sV (sV (sV (sV u 4 cn_73) 5 x1_73) 6 y1_73) 7 b1_73) 8 sx_73) 9 sy_73)) t0.heap; rw [ht]; first | exact hP | (simp only [sC_id, sX_id, sY_id, sH_id, sT_id, sV_id]; exact hP)⟩, hS.F ht⟩) hS.2.2 dX11_ray_90 hlk
                · skip
                  refine j_ldc SS (-1000000) kw_512 dX11_ray_59 ?_
                  exact W.iret SS.1 SS.2.1 hr (fun t0 ht hW => ⟨⟨_, u, rfl, ⟨(-1000000), rfl, (⟨Or.inl ⟨fun h => by have := h.2.2.1; omega, rfl⟩, p0⟩)⟩, by show va_P D.1 j_cl (cW D q u) t0.heap; rw [ht]; first | exact hP | (simp only [sC_id, sX_id, sY_id, sH_id, sT_id, sV_id]; exact hP)⟩, hS.F ht⟩) hS.2.2 dX11_ray_61 hlk
              · skip
                refine j_ldc SS (-1000000) kw_512 dX11_ray_45 ?_
                exact W.iret SS.1 SS.2.1 hr (fun t0 ht hW => ⟨⟨_, u, rfl, ⟨(-1000000), rfl, (⟨Or.inl ⟨fun h => by unfold pl4 at h; omega, rfl⟩, p0⟩)⟩, by show va_P D.1 j_cl (cW D q u) t0.heap; rw [ht]; first | exact hP | (simp only [sC_id, sX_id, sY_id, sH_id, sT_id, sV_id]; exact hP)⟩, hS.F ht⟩) hS.2.2 dX11_ray_47 hlk
