
set_option maxHeartbeats 4000000 in
set_option maxRecDepth 100000 in
theorem c_X11_betweenN (l : Launch) (D : JD) (q : Nat → Nat) (u : CS) (A : Nat → Prop) (hD : va_D A (cW D q u)) (a : Int) (b : Int) (c : Int) (d : Int) (p0 : CI u) (p1 : -2147483648 ≤ a ∧ a ≤ 2147483647) (p2 : -2147483648 ≤ b ∧ b ≤ 2147483647) (p3 : -2147483648 ≤ c ∧ c ≤ 2147483647) (p4 : -2147483648 ≤ d ∧ d ≤ 2147483647) : Met l yX11_between (jw yX11_between cX11_between 5 (some .int)) (jr 3 89) (jP [.ref (q 0), .int (J a), .int (J b), .int (J c), .int (J d)] D (fun H => va_P D.1 j_cl (cW D q u) H)) (jWi (fun z u' => btw_ a b c d z ∧ CI u' ∧ cSame u u') (fun u' H => va_P D.1 j_cl (cW D q u') H) A) 0 0 A := by
  refine Met.ofW (cc := cX11_between) (maxL := 5) (ret := (some .int)) (by decide) rfl ?_
  intro pr en st mi args below meth co s₁ B hml hv
  obtain ⟨rfl, hG, hP⟩ := hv
  have hr := B.returns
  have hlk := B.notSynchronized
  have SS : jS pr mi co cX11_between 5 st _ RX11 := ⟨B.exec, B.bytes, hml, findClass_of_methodNamed B.named, fun w hw => atoms_spec (ws := (jw yX11_between cX11_between 5 (some .int))) B.pre w (List.mem_cons_of_mem _ hw)⟩
  have hl := lv_entry ([.ref (q 0), .int (J a), .int (J b), .int (J c), .int (J d)]) (n := 5) (Nat.le_of_ble_eq_true rfl)
  rw [lg_entry_eq]
  generalize (lg_sl ([.ref (q 0), .int (J a), .int (J b), .int (J c), .int (J d)]) ++ List.replicate (5 - (lg_sl ([.ref (q 0), .int (J a), .int (J b), .int (J c), .int (J d)])).length) Slot.unset).toArray = ls at hl ⊢
  have hl : lv_has ls 5 [(0, .ref (q 0)), (1, .int (J a)), (2, .int (J b)), (3, .int (J c)), (4, .int (J d))] := hl
  have hS : va_S A st.heap st.heap [] := va_S.rf
  refine lv_iload_n SS.1 SS.2.1 dX11_between_0 rfl (lv_at hl 1 rfl) ?_
  refine j_sRi SS (As := [.int (J a)]) (rest := []) (c_X11_onGrid l D  a (show -2147483648 ≤ a ∧ a ≤ 2147483647 from (p1))) mf_X11_onGrid kw_475 hG trivial rfl hl.1 ⟨⟨Nat.le_of_ble_eq_true rfl, Nat.le_of_ble_eq_true rfl⟩, Nat.le_of_ble_eq_true rfl, Nat.le_refl _, Nat.le_refl _⟩ rfl dX11_between_1 (fun z_1 h_1 => ?_)
  have h_1 : (z_1 = 1 ∧ (-40 ≤ a ∧ a ≤ 40)) ∨ (z_1 = 0 ∧ ¬ (-40 ≤ a ∧ a ≤ 40)) := h_1
  refine j_if_eq SS (tgt := 29) (x := z_1) dX11_between_4 (by decide) (by omega) (fun c_4 => ?_) (fun c_4 => ?_)
  · skip
    refine j_iconst SS dX11_between_29 ?_
    exact W.iret SS.1 SS.2.1 hr (fun t0 ht hW => ⟨⟨_, u, rfl, ⟨(-1), rfl, (⟨Or.inl ⟨fun h => by unfold pl4 at h; omega, rfl⟩, p0, cs_refl⟩)⟩, by show va_P D.1 j_cl (cW D q u) t0.heap; rw [ht]; first | exact hP | (simp only [sC_id, sX_id, sY_id, sH_id, sT_id, sV_id]; exact hP)⟩, hS.F ht⟩) hS.2.2 dX11_between_30 hlk
  · skip
    refine lv_iload_n SS.1 SS.2.1 dX11_between_7 rfl (lv_at hl 2 rfl) ?_
    refine j_sRi SS (As := [.int (J b)]) (rest := []) (c_X11_onGrid l D  b (show -2147483648 ≤ b ∧ b ≤ 2147483647 from (p2))) mf_X11_onGrid kw_475 hG trivial rfl hl.1 ⟨⟨Nat.le_of_ble_eq_true rfl, Nat.le_of_ble_eq_true rfl⟩, Nat.le_of_ble_eq_true rfl, Nat.le_refl _, Nat.le_refl _⟩ rfl dX11_between_8 (fun z_8 h_8 => ?_)
    have h_8 : (z_8 = 1 ∧ (-40 ≤ b ∧ b ≤ 40)) ∨ (z_8 = 0 ∧ ¬ (-40 ≤ b ∧ b ≤ 40)) := h_8
    refine j_if_eq SS (tgt := 29) (x := z_8) dX11_between_11 (by decide) (by omega) (fun c_11 => ?_) (fun c_11 => ?_)
    · skip
      refine j_iconst SS dX11_between_29 ?_
      exact W.iret SS.1 SS.2.1 hr (fun t0 ht hW => ⟨⟨_, u, rfl, ⟨(-1), rfl, (⟨Or.inl ⟨fun h => by unfold pl4 at h; omega, rfl⟩, p0, cs_refl⟩)⟩, by show va_P D.1 j_cl (cW D q u) t0.heap; rw [ht]; first | exact hP | (simp only [sC_id, sX_id, sY_id, sH_id, sT_id, sV_id]; exact hP)⟩, hS.F ht⟩) hS.2.2 dX11_between_30 hlk
    · skip
      refine lv_iload_n SS.1 SS.2.1 dX11_between_14 rfl (lv_at hl 3 rfl) ?_
      refine j_sRi SS (As := [.int (J c)]) (rest := []) (c_X11_onGrid l D  c (show -2147483648 ≤ c ∧ c ≤ 2147483647 from (p3))) mf_X11_onGrid kw_475 hG trivial rfl hl.1 ⟨⟨Nat.le_of_ble_eq_true rfl, Nat.le_of_ble_eq_true rfl⟩, Nat.le_of_ble_eq_true rfl, Nat.le_refl _, Nat.le_refl _⟩ rfl dX11_between_15 (fun z_15 h_15 => ?_)
      have h_15 : (z_15 = 1 ∧ (-40 ≤ c ∧ c ≤ 40)) ∨ (z_15 = 0 ∧ ¬ (-40 ≤ c ∧ c ≤ 40)) := h_15
      refine j_if_eq SS (tgt := 29) (x := z_15) dX11_between_18 (by decide) (by omega) (fun c_18 => ?_) (fun c_18 => ?_)
      · skip
        refine j_iconst SS dX11_between_29 ?_
        exact W.iret SS.1 SS.2.1 hr (fun t0 ht hW => ⟨⟨_, u, rfl, ⟨(-1), rfl, (⟨Or.inl ⟨fun h => by unfold pl4 at h; omega, rfl⟩, p0, cs_refl⟩)⟩, by show va_P D.1 j_cl (cW D q u) t0.heap; rw [ht]; first | exact hP | (simp only [sC_id, sX_id, sY_id, sH_id, sT_id, sV_id]; exact hP)⟩, hS.F ht⟩) hS.2.2 dX11_between_30 hlk
      · skip
        refine lv_iload SS.1 SS.2.1 dX11_between_21 (lv_at hl 4 rfl) ?_
        refine j_sRi SS (As := [.int (J d)]) (rest := []) (c_X11_onGrid l D  d (show -2147483648 ≤ d ∧ d ≤ 2147483647 from (p4))) mf_X11_onGrid kw_475 hG trivial rfl hl.1 ⟨⟨Nat.le_of_ble_eq_true rfl, Nat.le_of_ble_eq_true rfl⟩, Nat.le_of_ble_eq_true rfl, Nat.le_refl _, Nat.le_refl _⟩ rfl dX11_between_23 (fun z_23 h_23 => ?_)
        have h_23 : (z_23 = 1 ∧ (-40 ≤ d ∧ d ≤ 40)) ∨ (z_23 = 0 ∧ ¬ (-40 ≤ d ∧ d ≤ 40)) := h_23
        refine j_if_ne SS (tgt := 31) (x := z_23) dX11_between_26 (by decide) (by omega) (fun c_26 => ?_) (fun c_26 => ?_)
        · skip
          refine lv_iload_n SS.1 SS.2.1 dX11_between_31 rfl (lv_at hl 1 rfl) ?_
          refine lv_iload_n SS.1 SS.2.1 dX11_between_32 rfl (lv_at hl 2 rfl) ?_
          refine lv_iload_n SS.1 SS.2.1 dX11_between_33 rfl (lv_at hl 3 rfl) ?_
          refine lv_iload SS.1 SS.2.1 dX11_between_34 (lv_at hl 4 rfl) ?_
          refine j_sRi SS (As := [.int (J a), .int (J b), .int (J c), .int (J d)]) (rest := []) (c_X11_isAngle l D  a b c d (show -40 ≤ a ∧ a ≤ 40 from (by omega)) (show -40 ≤ b ∧ b ≤ 40 from (by omega)) (show -40 ≤ c ∧ c ≤ 40 from (by omega)) (show -40 ≤ d ∧ d ≤ 40 from (by omega))) mf_X11_isAngle kw_832 hG trivial rfl hl.1 ⟨⟨Nat.le_of_ble_eq_true rfl, Nat.le_of_ble_eq_true rfl⟩, Nat.le_of_ble_eq_true rfl, Nat.le_refl _, Nat.le_refl _⟩ rfl dX11_between_36 (fun z_36 h_36 => ?_)
          have h_36 : (z_36 = 1 ∧ 0 < cx a b c d) ∨ (z_36 = 0 ∧ cx a b c d ≤ 0) := h_36
          refine j_if_ne SS (tgt := 45) (x := z_36) dX11_between_39 (by decide) (by omega) (fun c_39 => ?_) (fun c_39 => ?_)
          · skip
            refine lv_aload_n SS.1 SS.2.1 dX11_between_45 rfl (lv_at hl 0 rfl) ?_
            refine j_get SS hG hP 0 (v := .ref (q 4)) (C := RX11) (T := TX11) (N := 8) rfl rfl inX11 3 (by decide) (ref := "GridPolygons") kw_388 rfl rfl dX11_between_46 ?_
            refine lv_iload_n SS.1 SS.2.1 dX11_between_49 rfl (lv_at hl 1 rfl) ?_
            refine lv_iload_n SS.1 SS.2.1 dX11_between_50 rfl (lv_at hl 2 rfl) ?_
            refine lv_iload_n SS.1 SS.2.1 dX11_between_51 rfl (lv_at hl 3 rfl) ?_
            refine lv_iload SS.1 SS.2.1 dX11_between_52 (lv_at hl 4 rfl) ?_
            refine j_iconst SS dX11_between_54 ?_
            refine j_vWv SS (As := [.int (J a), .int (J b), .int (J c), .int (J d), .int (J 0)]) (rest := []) (c_X9_walk l D q u A (cW_D hD)  a b c d 0 (show -40 ≤ a ∧ a ≤ 40 from (by omega)) (show -40 ≤ b ∧ b ≤ 40 from (by omega)) (show -40 ≤ c ∧ c ≤ 40 from (by omega)) (show -40 ≤ d ∧ d ≤ 40 from (by omega)) (show 0 < cx a b c d from (by omega)) (show -2147483648 ≤ (0 : Int) ∧ (0 : Int) ≤ 2147483647 from (by omega))) mf_X9_walk kw_835 hG hP hP (ci := 9) (q0 := 4) rfl rfl rfl hS (fun _ h => h) rfl hl.1 ⟨⟨Nat.le_of_ble_eq_true rfl, Nat.le_of_ble_eq_true rfl⟩, Nat.le_of_ble_eq_true rfl, Nat.le_refl _, Nat.le_refl _⟩ rfl dX11_between_55 (fun u55 H locs h_55 hP _ hS => ?_)
            obtain ⟨cn_55, x1_55, y1_55, b1_55, sx_55, sy_55, rfl, h_55⟩ := h_55
            have hP : va_P D.1 j_cl (cW D q (sV (sV (sV (sV (sV (sV u 4 cn_55) 5 x1_55) 6 y1_55) 7 b1_55) 8 sx_55) 9 sy_55)) H := hP
            have h_55 : wk a b c d (0 : Int) cn_55 x1_55 y1_55 b1_55 := h_55
            refine lv_aload_n SS.1 SS.2.1 dX11_between_58 rfl (lv_at hl 0 rfl) ?_
            refine j_get SS hG hP 0 (v := .ref (q 4)) (C := RX11) (T := TX11) (N := 8) rfl rfl inX11 3 (by decide) (ref := "GridPolygons") kw_388 rfl rfl dX11_between_59 ?_
            refine j_get SS hG hP 4 (v := .int (J cn_55)) (C := RX9) (T := TX9) (N := 6) rfl rfl inX9 0 (by decide) (ref := "GridPolygons$Sail") kw_214 rfl rfl dX11_between_62 ?_
            obtain ⟨cn62, ecn62⟩ : ∃ z : Int, z = cn_55 := ⟨_, rfl⟩
            rw [← ecn62]
            exact W.iret SS.1 SS.2.1 hr (fun t0 ht hW => ⟨⟨_, (sV (sV (sV (sV (sV (sV u 4 cn_55) 5 x1_55) 6 y1_55) 7 b1_55) 8 sx_55) 9 sy_55), rfl, ⟨cn62, rfl, (by obtain ⟨X, Y, hy, _⟩ := h_55; exact ⟨Or.inr (Or.inr ⟨by unfold pl4; omega, by omega, X, Y, by rw [ecn62]; exact hy⟩), CI_sl p0, cs_refl⟩)⟩, by show va_P D.1 j_cl (cW D q (sV (sV (sV (sV (sV (sV u 4 cn_55) 5 x1_55) 6 y1_55) 7 b1_55) 8 sx_55) 9 sy_55)) t0.heap; rw [ht]; first | exact hP | (simp only [sC_id, sX_id, sY_id, sH_id, sT_id, sV_id]; exact hP)⟩, hS.F ht⟩) hS.2.2 dX11_between_65 hlk
          · skip
            refine j_bipush SS dX11_between_42 (by decide +kernel) ?_
            exact W.iret SS.1 SS.2.1 hr (fun t0 ht hW => ⟨⟨_, u, rfl, ⟨(-2), rfl, (⟨Or.inr (Or.inl ⟨by unfold pl4; omega, by omega, rfl⟩), p0, cs_refl⟩)⟩, by show va_P D.1 j_cl (cW D q u) t0.heap; rw [ht]; first | exact hP | (simp only [sC_id, sX_id, sY_id, sH_id, sT_id, sV_id]; exact hP)⟩, hS.F ht⟩) hS.2.2 dX11_between_44 hlk
        · skip
          refine j_iconst SS dX11_between_29 ?_
          exact W.iret SS.1 SS.2.1 hr (fun t0 ht hW => ⟨⟨_, u, rfl, ⟨(-1), rfl, (⟨Or.inl ⟨fun h => by unfold pl4 at h; omega, rfl⟩, p0, cs_refl⟩)⟩, by show va_P D.1 j_cl (cW D q u) t0.heap; rw [ht]; first | exact hP | (simp only [sC_id, sX_id, sY_id, sH_id, sT_id, sV_id]; exact hP)⟩, hS.F ht⟩) hS.2.2 dX11_between_30 hlk

set_option maxHeartbeats 4000000 in
set_option maxRecDepth 100000 in
theorem c_X11_rayN (l : Launch) (D : JD) (q : Nat → Nat) (u : CS) (A : Nat → Prop) (hD : va_D A (cW D q u)) (a : Int) (b : Int) (c : Int) (d : Int) (i : Int) (what : Int) (p0 : CI u) (p1 : -2147483648 ≤ a ∧ a ≤ 2147483647) (p2 : -2147483648 ≤ b ∧ b ≤ 2147483647) (p3 : -2147483648 ≤ c ∧ c ≤ 2147483647) (p4 : -2147483648 ≤ d ∧ d ≤ 2147483647) (p5 : -2147483648 ≤ i ∧ i ≤ 2147483647) (p6 : -2147483648 ≤ what ∧ what ≤ 2147483647) : Met l yX11_ray (jw yX11_ray cX11_ray 7 (some .int)) (jr 3 89) (jP [.ref (q 0), .int (J a), .int (J b), .int (J c), .int (J d), .int (J i), .int (J what)] D (fun H => va_P D.1 j_cl (cW D q u) H)) (jWi (fun z u' => ray_ a b c d i what z ∧ CI u' ∧ cSame u u') (fun u' H => va_P D.1 j_cl (cW D q u') H) A) 0 0 A := by
  refine Met.ofW (cc := cX11_ray) (maxL := 7) (ret := (some .int)) (by decide) rfl ?_
  intro pr en st mi args below meth co s₁ B hml hv
  obtain ⟨rfl, hG, hP⟩ := hv
  have hr := B.returns
  have hlk := B.notSynchronized
  have SS : jS pr mi co cX11_ray 7 st _ RX11 := ⟨B.exec, B.bytes, hml, findClass_of_methodNamed B.named, fun w hw => atoms_spec (ws := (jw yX11_ray cX11_ray 7 (some .int))) B.pre w (List.mem_cons_of_mem _ hw)⟩
  have hl := lv_entry ([.ref (q 0), .int (J a), .int (J b), .int (J c), .int (J d), .int (J i), .int (J what)]) (n := 7) (Nat.le_of_ble_eq_true rfl)
  rw [lg_entry_eq]
  generalize (lg_sl ([.ref (q 0), .int (J a), .int (J b), .int (J c), .int (J d), .int (J i), .int (J what)]) ++ List.replicate (7 - (lg_sl ([.ref (q 0), .int (J a), .int (J b), .int (J c), .int (J d), .int (J i), .int (J what)])).length) Slot.unset).toArray = ls at hl ⊢
  have hl : lv_has ls 7 [(0, .ref (q 0)), (1, .int (J a)), (2, .int (J b)), (3, .int (J c)), (4, .int (J d)), (5, .int (J i)), (6, .int (J what))] := hl
  have hS : va_S A st.heap st.heap [] := va_S.rf
  refine lv_iload_n SS.1 SS.2.1 dX11_ray_0 rfl (lv_at hl 1 rfl) ?_
  refine j_sRi SS (As := [.int (J a)]) (rest := []) (c_X11_onGrid l D  a (show -2147483648 ≤ a ∧ a ≤ 2147483647 from (p1))) mf_X11_onGrid kw_475 hG trivial rfl hl.1 ⟨⟨Nat.le_of_ble_eq_true rfl, Nat.le_of_ble_eq_true rfl⟩, Nat.le_of_ble_eq_true rfl, Nat.le_refl _, Nat.le_refl _⟩ rfl dX11_ray_1 (fun z_1 h_1 => ?_)
  have h_1 : (z_1 = 1 ∧ (-40 ≤ a ∧ a ≤ 40)) ∨ (z_1 = 0 ∧ ¬ (-40 ≤ a ∧ a ≤ 40)) := h_1
  refine j_if_eq SS (tgt := 45) (x := z_1) dX11_ray_4 (by decide) (by omega) (fun c_4 => ?_) (fun c_4 => ?_)
  · skip
    refine j_ldc SS (-1000000) kw_512 dX11_ray_45 ?_
    exact W.iret SS.1 SS.2.1 hr (fun t0 ht hW => ⟨⟨_, u, rfl, ⟨(-1000000), rfl, (⟨Or.inl ⟨fun h => by unfold pl4 at h; omega, rfl⟩, p0, cs_refl⟩)⟩, by show va_P D.1 j_cl (cW D q u) t0.heap; rw [ht]; first | exact hP | (simp only [sC_id, sX_id, sY_id, sH_id, sT_id, sV_id]; exact hP)⟩, hS.F ht⟩) hS.2.2 dX11_ray_47 hlk
  · skip
    refine lv_iload_n SS.1 SS.2.1 dX11_ray_7 rfl (lv_at hl 2 rfl) ?_
    refine j_sRi SS (As := [.int (J b)]) (rest := []) (c_X11_onGrid l D  b (show -2147483648 ≤ b ∧ b ≤ 2147483647 from (p2))) mf_X11_onGrid kw_475 hG trivial rfl hl.1 ⟨⟨Nat.le_of_ble_eq_true rfl, Nat.le_of_ble_eq_true rfl⟩, Nat.le_of_ble_eq_true rfl, Nat.le_refl _, Nat.le_refl _⟩ rfl dX11_ray_8 (fun z_8 h_8 => ?_)
    have h_8 : (z_8 = 1 ∧ (-40 ≤ b ∧ b ≤ 40)) ∨ (z_8 = 0 ∧ ¬ (-40 ≤ b ∧ b ≤ 40)) := h_8
    refine j_if_eq SS (tgt := 45) (x := z_8) dX11_ray_11 (by decide) (by omega) (fun c_11 => ?_) (fun c_11 => ?_)
    · skip
      refine j_ldc SS (-1000000) kw_512 dX11_ray_45 ?_
      exact W.iret SS.1 SS.2.1 hr (fun t0 ht hW => ⟨⟨_, u, rfl, ⟨(-1000000), rfl, (⟨Or.inl ⟨fun h => by unfold pl4 at h; omega, rfl⟩, p0, cs_refl⟩)⟩, by show va_P D.1 j_cl (cW D q u) t0.heap; rw [ht]; first | exact hP | (simp only [sC_id, sX_id, sY_id, sH_id, sT_id, sV_id]; exact hP)⟩, hS.F ht⟩) hS.2.2 dX11_ray_47 hlk
    · skip
      refine lv_iload_n SS.1 SS.2.1 dX11_ray_14 rfl (lv_at hl 3 rfl) ?_
      refine j_sRi SS (As := [.int (J c)]) (rest := []) (c_X11_onGrid l D  c (show -2147483648 ≤ c ∧ c ≤ 2147483647 from (p3))) mf_X11_onGrid kw_475 hG trivial rfl hl.1 ⟨⟨Nat.le_of_ble_eq_true rfl, Nat.le_of_ble_eq_true rfl⟩, Nat.le_of_ble_eq_true rfl, Nat.le_refl _, Nat.le_refl _⟩ rfl dX11_ray_15 (fun z_15 h_15 => ?_)
      have h_15 : (z_15 = 1 ∧ (-40 ≤ c ∧ c ≤ 40)) ∨ (z_15 = 0 ∧ ¬ (-40 ≤ c ∧ c ≤ 40)) := h_15
      refine j_if_eq SS (tgt := 45) (x := z_15) dX11_ray_18 (by decide) (by omega) (fun c_18 => ?_) (fun c_18 => ?_)
      · skip
        refine j_ldc SS (-1000000) kw_512 dX11_ray_45 ?_
        exact W.iret SS.1 SS.2.1 hr (fun t0 ht hW => ⟨⟨_, u, rfl, ⟨(-1000000), rfl, (⟨Or.inl ⟨fun h => by unfold pl4 at h; omega, rfl⟩, p0, cs_refl⟩)⟩, by show va_P D.1 j_cl (cW D q u) t0.heap; rw [ht]; first | exact hP | (simp only [sC_id, sX_id, sY_id, sH_id, sT_id, sV_id]; exact hP)⟩, hS.F ht⟩) hS.2.2 dX11_ray_47 hlk
      · skip
        refine lv_iload SS.1 SS.2.1 dX11_ray_21 (lv_at hl 4 rfl) ?_
        refine j_sRi SS (As := [.int (J d)]) (rest := []) (c_X11_onGrid l D  d (show -2147483648 ≤ d ∧ d ≤ 2147483647 from (p4))) mf_X11_onGrid kw_475 hG trivial rfl hl.1 ⟨⟨Nat.le_of_ble_eq_true rfl, Nat.le_of_ble_eq_true rfl⟩, Nat.le_of_ble_eq_true rfl, Nat.le_refl _, Nat.le_refl _⟩ rfl dX11_ray_23 (fun z_23 h_23 => ?_)
        have h_23 : (z_23 = 1 ∧ (-40 ≤ d ∧ d ≤ 40)) ∨ (z_23 = 0 ∧ ¬ (-40 ≤ d ∧ d ≤ 40)) := h_23
        refine j_if_eq SS (tgt := 45) (x := z_23) dX11_ray_26 (by decide) (by omega) (fun c_26 => ?_) (fun c_26 => ?_)
        · skip
          refine j_ldc SS (-1000000) kw_512 dX11_ray_45 ?_
          exact W.iret SS.1 SS.2.1 hr (fun t0 ht hW => ⟨⟨_, u, rfl, ⟨(-1000000), rfl, (⟨Or.inl ⟨fun h => by unfold pl4 at h; omega, rfl⟩, p0, cs_refl⟩)⟩, by show va_P D.1 j_cl (cW D q u) t0.heap; rw [ht]; first | exact hP | (simp only [sC_id, sX_id, sY_id, sH_id, sT_id, sV_id]; exact hP)⟩, hS.F ht⟩) hS.2.2 dX11_ray_47 hlk
        · skip
          refine lv_iload SS.1 SS.2.1 dX11_ray_29 (lv_at hl 5 rfl) ?_
          refine j_if_lt SS (tgt := 45) (x := i) dX11_ray_31 (by decide) (by omega) (fun c_31 => ?_) (fun c_31 => ?_)
          · skip
            refine j_ldc SS (-1000000) kw_512 dX11_ray_45 ?_
            exact W.iret SS.1 SS.2.1 hr (fun t0 ht hW => ⟨⟨_, u, rfl, ⟨(-1000000), rfl, (⟨Or.inl ⟨fun h => by unfold pl4 at h; omega, rfl⟩, p0, cs_refl⟩)⟩, by show va_P D.1 j_cl (cW D q u) t0.heap; rw [ht]; first | exact hP | (simp only [sC_id, sX_id, sY_id, sH_id, sT_id, sV_id]; exact hP)⟩, hS.F ht⟩) hS.2.2 dX11_ray_47 hlk
          · skip
            refine lv_iload SS.1 SS.2.1 dX11_ray_34 (lv_at hl 6 rfl) ?_
            refine j_if_lt SS (tgt := 45) (x := what) dX11_ray_36 (by decide) (by omega) (fun c_36 => ?_) (fun c_36 => ?_)
            · skip
              refine j_ldc SS (-1000000) kw_512 dX11_ray_45 ?_
              exact W.iret SS.1 SS.2.1 hr (fun t0 ht hW => ⟨⟨_, u, rfl, ⟨(-1000000), rfl, (⟨Or.inl ⟨fun h => by unfold pl4 at h; omega, rfl⟩, p0, cs_refl⟩)⟩, by show va_P D.1 j_cl (cW D q u) t0.heap; rw [ht]; first | exact hP | (simp only [sC_id, sX_id, sY_id, sH_id, sT_id, sV_id]; exact hP)⟩, hS.F ht⟩) hS.2.2 dX11_ray_47 hlk
            · skip
              refine lv_iload SS.1 SS.2.1 dX11_ray_39 (lv_at hl 6 rfl) ?_
              refine j_iconst SS dX11_ray_41 ?_
              refine j_icmp_le SS (tgt := 48) (x := what) (y := 2) dX11_ray_42 (by decide) (by omega) (by decide) (fun c_42 => ?_) (fun c_42 => ?_)
              · skip
                refine lv_iload_n SS.1 SS.2.1 dX11_ray_48 rfl (lv_at hl 1 rfl) ?_
                refine lv_iload_n SS.1 SS.2.1 dX11_ray_49 rfl (lv_at hl 2 rfl) ?_
                refine lv_iload_n SS.1 SS.2.1 dX11_ray_50 rfl (lv_at hl 3 rfl) ?_
                refine lv_iload SS.1 SS.2.1 dX11_ray_51 (lv_at hl 4 rfl) ?_
                refine j_sRi SS (As := [.int (J a), .int (J b), .int (J c), .int (J d)]) (rest := []) (c_X11_isAngle l D  a b c d (show -40 ≤ a ∧ a ≤ 40 from (by omega)) (show -40 ≤ b ∧ b ≤ 40 from (by omega)) (show -40 ≤ c ∧ c ≤ 40 from (by omega)) (show -40 ≤ d ∧ d ≤ 40 from (by omega))) mf_X11_isAngle kw_832 hG trivial rfl hl.1 ⟨⟨Nat.le_of_ble_eq_true rfl, Nat.le_of_ble_eq_true rfl⟩, Nat.le_of_ble_eq_true rfl, Nat.le_refl _, Nat.le_refl _⟩ rfl dX11_ray_53 (fun z_53 h_53 => ?_)
                have h_53 : (z_53 = 1 ∧ 0 < cx a b c d) ∨ (z_53 = 0 ∧ cx a b c d ≤ 0) := h_53
                refine j_if_ne SS (tgt := 62) (x := z_53) dX11_ray_56 (by decide) (by omega) (fun c_56 => ?_) (fun c_56 => ?_)
                · skip
                  refine lv_aload_n SS.1 SS.2.1 dX11_ray_62 rfl (lv_at hl 0 rfl) ?_
                  refine j_get SS hG hP 0 (v := .ref (q 4)) (C := RX11) (T := TX11) (N := 8) rfl rfl inX11 3 (by decide) (ref := "GridPolygons") kw_388 rfl rfl dX11_ray_63 ?_
                  refine lv_iload_n SS.1 SS.2.1 dX11_ray_66 rfl (lv_at hl 1 rfl) ?_
                  refine lv_iload_n SS.1 SS.2.1 dX11_ray_67 rfl (lv_at hl 2 rfl) ?_
                  refine lv_iload_n SS.1 SS.2.1 dX11_ray_68 rfl (lv_at hl 3 rfl) ?_
                  refine lv_iload SS.1 SS.2.1 dX11_ray_69 (lv_at hl 4 rfl) ?_
                  refine lv_iload SS.1 SS.2.1 dX11_ray_71 (lv_at hl 5 rfl) ?_
                  refine j_vWv SS (As := [.int (J a), .int (J b), .int (J c), .int (J d), .int (J i)]) (rest := []) (c_X9_walk l D q u A (cW_D hD)  a b c d i (show -40 ≤ a ∧ a ≤ 40 from (by omega)) (show -40 ≤ b ∧ b ≤ 40 from (by omega)) (show -40 ≤ c ∧ c ≤ 40 from (by omega)) (show -40 ≤ d ∧ d ≤ 40 from (by omega)) (show 0 < cx a b c d from (by omega)) (show -2147483648 ≤ i ∧ i ≤ 2147483647 from (p5))) mf_X9_walk kw_835 hG hP hP (ci := 9) (q0 := 4) rfl rfl rfl hS (fun _ h => h) rfl hl.1 ⟨⟨Nat.le_of_ble_eq_true rfl, Nat.le_of_ble_eq_true rfl⟩, Nat.le_of_ble_eq_true rfl, Nat.le_refl _, Nat.le_refl _⟩ rfl dX11_ray_73 (fun u73 H locs h_73 hP _ hS => ?_)
                  obtain ⟨cn_73, x1_73, y1_73, b1_73, sx_73, sy_73, rfl, h_73⟩ := h_73
                  have hP : va_P D.1 j_cl (cW D q (sV (sV (sV (sV (sV (sV u 4 cn_73) 5 x1_73) 6 y1_73) 7 b1_73) 8 sx_73) 9 sy_73)) H := hP
                  have h_73 : wk a b c d i cn_73 x1_73 y1_73 b1_73 := h_73
                  refine lv_iload SS.1 SS.2.1 dX11_ray_76 (lv_at hl 5 rfl) ?_
                  refine lv_aload_n SS.1 SS.2.1 dX11_ray_78 rfl (lv_at hl 0 rfl) ?_
                  refine j_get SS hG hP 0 (v := .ref (q 4)) (C := RX11) (T := TX11) (N := 8) rfl rfl inX11 3 (by decide) (ref := "GridPolygons") kw_388 rfl rfl dX11_ray_79 ?_
                  refine j_get SS hG hP 4 (v := .int (J cn_73)) (C := RX9) (T := TX9) (N := 6) rfl rfl inX9 0 (by decide) (ref := "GridPolygons$Sail") kw_214 rfl rfl dX11_ray_82 ?_
                  obtain ⟨cn82, ecn82⟩ : ∃ z : Int, z = cn_73 := ⟨_, rfl⟩
                  rw [← ecn82]
                  obtain ⟨X, Y, hry, hk⟩ := h_73
                  rw [← ecn82] at hry hk
                  have hn := hry.1
                  have hp : pl4 a b c d := by unfold pl4; omega
                  have hc : 0 < cx a b c d := by omega
                  refine j_icmp_lt SS (tgt := 91) (x := i) (y := cn82) dX11_ray_85 (by decide) (by omega) (by omega) (fun c_85 => ?_) (fun c_85 => ?_)
                  · skip
                    refine lv_iload SS.1 SS.2.1 dX11_ray_91 (lv_at hl 6 rfl) ?_
                    refine j_if_ne SS (tgt := 104) (x := what) dX11_ray_93 (by decide) (by omega) (fun c_93 => ?_) (fun c_93 => ?_)
                    · skip
                      refine lv_iload SS.1 SS.2.1 dX11_ray_104 (lv_at hl 6 rfl) ?_
                      refine j_iconst SS dX11_ray_106 ?_
                      refine j_icmp_ne SS (tgt := 120) (x := what) (y := 1) dX11_ray_107 (by decide) (by omega) (by decide) (fun c_107 => ?_) (fun c_107 => ?_)
                      · skip
                        refine lv_aload_n SS.1 SS.2.1 dX11_ray_120 rfl (lv_at hl 0 rfl) ?_
                        refine j_get SS hG hP 0 (v := .ref (q 4)) (C := RX11) (T := TX11) (N := 8) rfl rfl inX11 3 (by decide) (ref := "GridPolygons") kw_388 rfl rfl dX11_ray_121 ?_
                        refine j_get SS hG hP 4 (v := .int (J b1_73)) (C := RX9) (T := TX9) (N := 6) rfl rfl inX9 3 (by decide) (ref := "GridPolygons$Sail") kw_220 rfl rfl dX11_ray_124 ?_
                        obtain ⟨b124, eb124⟩ : ∃ z : Int, z = b1_73 := ⟨_, rfl⟩
                        rw [← eb124]
                        have hk2 := hk (by omega) (by omega)
                        exact W.iret SS.1 SS.2.1 hr (fun t0 ht hW => ⟨⟨_, (sV (sV (sV (sV (sV (sV u 4 cn_73) 5 x1_73) 6 y1_73) 7 b1_73) 8 sx_73) 9 sy_73), rfl, ⟨b124, rfl, (by first | exact ⟨Or.inr ⟨hp, by omega, hc, by omega, X, Y, cn82, hry, Or.inr ⟨by omega, Or.inr (Or.inl ⟨by omega, by rw [ey114]; exact hk2.2.1⟩)⟩⟩, CI_sl p0, cs_refl⟩ | exact ⟨Or.inr ⟨hp, by omega, hc, by omega, X, Y, cn82, hry, Or.inr ⟨by omega, Or.inr (Or.inr ⟨by omega, by rw [eb124]; by_cases e : i = 0 ∨ i = cn82 - 1; exact Or.inl ⟨e, hk2.2.2.1 e⟩; exact Or.inr ⟨by omega, by omega, hk2.2.2.2 (by omega) (by omega)⟩⟩)⟩⟩, CI_sl p0, cs_refl⟩)⟩, by show va_P D.1 j_cl (cW D q (sV (sV (sV (sV (sV (sV u 4 cn_73) 5 x1_73) 6 y1_73) 7 b1_73) 8 sx_73) 9 sy_73)) t0.heap; rw [ht]; first | exact hP | (simp only [sC_id, sX_id, sY_id, sH_id, sT_id, sV_id]; exact hP)⟩, hS.F ht⟩) hS.2.2 dX11_ray_127 hlk
                      · skip
                        refine lv_aload_n SS.1 SS.2.1 dX11_ray_110 rfl (lv_at hl 0 rfl) ?_
                        refine j_get SS hG hP 0 (v := .ref (q 4)) (C := RX11) (T := TX11) (N := 8) rfl rfl inX11 3 (by decide) (ref := "GridPolygons") kw_388 rfl rfl dX11_ray_111 ?_
                        refine j_get SS hG hP 4 (v := .int (J y1_73)) (C := RX9) (T := TX9) (N := 6) rfl rfl inX9 2 (by decide) (ref := "GridPolygons$Sail") kw_218 rfl rfl dX11_ray_114 ?_
                        obtain ⟨y114, ey114⟩ : ∃ z : Int, z = y1_73 := ⟨_, rfl⟩
                        rw [← ey114]
                        have hk2 := hk (by omega) (by omega)
                        refine lv_goto (tgt := 127) SS.1 SS.2.1 dX11_ray_117 (by decide) ?_
                        exact W.iret SS.1 SS.2.1 hr (fun t0 ht hW => ⟨⟨_, (sV (sV (sV (sV (sV (sV u 4 cn_73) 5 x1_73) 6 y1_73) 7 b1_73) 8 sx_73) 9 sy_73), rfl, ⟨y114, rfl, (by first | exact ⟨Or.inr ⟨hp, by omega, hc, by omega, X, Y, cn82, hry, Or.inr ⟨by omega, Or.inr (Or.inl ⟨by omega, by rw [ey114]; exact hk2.2.1⟩)⟩⟩, CI_sl p0, cs_refl⟩ | exact ⟨Or.inr ⟨hp, by omega, hc, by omega, X, Y, cn82, hry, Or.inr ⟨by omega, Or.inr (Or.inr ⟨by omega, by rw [eb124]; by_cases e : i = 0 ∨ i = cn82 - 1; exact Or.inl ⟨e, hk2.2.2.1 e⟩; exact Or.inr ⟨by omega, by omega, hk2.2.2.2 (by omega) (by omega)⟩⟩)⟩⟩, CI_sl p0, cs_refl⟩)⟩, by show va_P D.1 j_cl (cW D q (sV (sV (sV (sV (sV (sV u 4 cn_73) 5 x1_73) 6 y1_73) 7 b1_73) 8 sx_73) 9 sy_73)) t0.heap; rw [ht]; first | exact hP | (simp only [sC_id, sX_id, sY_id, sH_id, sT_id, sV_id]; exact hP)⟩, hS.F ht⟩) hS.2.2 dX11_ray_127 hlk
                    · skip
                      refine lv_aload_n SS.1 SS.2.1 dX11_ray_96 rfl (lv_at hl 0 rfl) ?_
                      refine j_get SS hG hP 0 (v := .ref (q 4)) (C := RX11) (T := TX11) (N := 8) rfl rfl inX11 3 (by decide) (ref := "GridPolygons") kw_388 rfl rfl dX11_ray_97 ?_
                      refine j_get SS hG hP 4 (v := .int (J x1_73)) (C := RX9) (T := TX9) (N := 6) rfl rfl inX9 1 (by decide) (ref := "GridPolygons$Sail") kw_216 rfl rfl dX11_ray_100 ?_
                      obtain ⟨x100, ex100⟩ : ∃ z : Int, z = x1_73 := ⟨_, rfl⟩
                      rw [← ex100]
                      have hk2 := hk (by omega) (by omega)
                      exact W.iret SS.1 SS.2.1 hr (fun t0 ht hW => ⟨⟨_, (sV (sV (sV (sV (sV (sV u 4 cn_73) 5 x1_73) 6 y1_73) 7 b1_73) 8 sx_73) 9 sy_73), rfl, ⟨x100, rfl, (⟨Or.inr ⟨hp, by omega, hc, by omega, X, Y, cn82, hry, Or.inr ⟨by omega, Or.inl ⟨by omega, by rw [ex100]; exact hk2.1⟩⟩⟩, CI_sl p0, cs_refl⟩)⟩, by show va_P D.1 j_cl (cW D q (sV (sV (sV (sV (sV (sV u 4 cn_73) 5 x1_73) 6 y1_73) 7 b1_73) 8 sx_73) 9 sy_73)) t0.heap; rw [ht]; first | exact hP | (simp only [sC_id, sX_id, sY_id, sH_id, sT_id, sV_id]; exact hP)⟩, hS.F ht⟩) hS.2.2 dX11_ray_103 hlk
                  · skip
                    refine j_ldc SS (-1000000) kw_512 dX11_ray_88 ?_
                    exact W.iret SS.1 SS.2.1 hr (fun t0 ht hW => ⟨⟨_, (sV (sV (sV (sV (sV (sV u 4 cn_73) 5 x1_73) 6 y1_73) 7 b1_73) 8 sx_73) 9 sy_73), rfl, ⟨(-1000000), rfl, (⟨Or.inr ⟨hp, by omega, hc, by omega, X, Y, cn82, hry, Or.inl ⟨by omega, rfl⟩⟩, CI_sl p0, cs_refl⟩)⟩, by show va_P D.1 j_cl (cW D q (sV (sV (sV (sV (sV (sV u 4 cn_73) 5 x1_73) 6 y1_73) 7 b1_73) 8 sx_73) 9 sy_73)) t0.heap; rw [ht]; first | exact hP | (simp only [sC_id, sX_id, sY_id, sH_id, sT_id, sV_id]; exact hP)⟩, hS.F ht⟩) hS.2.2 dX11_ray_90 hlk
                · skip
                  refine j_ldc SS (-1000000) kw_512 dX11_ray_59 ?_
                  exact W.iret SS.1 SS.2.1 hr (fun t0 ht hW => ⟨⟨_, u, rfl, ⟨(-1000000), rfl, (⟨Or.inl ⟨fun h => by have := h.2.2.1; omega, rfl⟩, p0, cs_refl⟩)⟩, by show va_P D.1 j_cl (cW D q u) t0.heap; rw [ht]; first | exact hP | (simp only [sC_id, sX_id, sY_id, sH_id, sT_id, sV_id]; exact hP)⟩, hS.F ht⟩) hS.2.2 dX11_ray_61 hlk
              · skip
                refine j_ldc SS (-1000000) kw_512 dX11_ray_45 ?_
                exact W.iret SS.1 SS.2.1 hr (fun t0 ht hW => ⟨⟨_, u, rfl, ⟨(-1000000), rfl, (⟨Or.inl ⟨fun h => by unfold pl4 at h; omega, rfl⟩, p0, cs_refl⟩)⟩, by show va_P D.1 j_cl (cW D q u) t0.heap; rw [ht]; first | exact hP | (simp only [sC_id, sX_id, sY_id, sH_id, sT_id, sV_id]; exact hP)⟩, hS.F ht⟩) hS.2.2 dX11_ray_47 hlk

set_option maxHeartbeats 4000000 in
set_option maxRecDepth 100000 in
theorem c_X11_partsN (l : Launch) (D : JD) (q : Nat → Nat) (u : CS) (A : Nat → Prop) (hD : va_D A (cW D q u)) (s : Int) (p0 : CI u) (p1 : -2147483648 ≤ s ∧ s ≤ 2147483647) : Met l yX11_parts (jw yX11_parts cX11_parts 3 (some .long)) (jr 5 111) (jP [.ref (q 0), .int (J s)] D (fun H => va_P D.1 j_cl (cW D q u) H)) (jWl (fun u' => CI u' ∧ cSame u u') (fun u' H => va_P D.1 j_cl (cW D q u') H) A) 0 0 A := by
  refine Met.ofW (cc := cX11_parts) (maxL := 3) (ret := (some .long)) (by decide) rfl ?_
  intro pr en st mi args below meth co s₁ B hml hv
  obtain ⟨rfl, hG, hP⟩ := hv
  have hr := B.returns
  have hlk := B.notSynchronized
  have SS : jS pr mi co cX11_parts 3 st _ RX11 := ⟨B.exec, B.bytes, hml, findClass_of_methodNamed B.named, fun w hw => atoms_spec (ws := (jw yX11_parts cX11_parts 3 (some .long))) B.pre w (List.mem_cons_of_mem _ hw)⟩
  have hl := lv_entry ([.ref (q 0), .int (J s)]) (n := 3) (Nat.le_of_ble_eq_true rfl)
  rw [lg_entry_eq]
  generalize (lg_sl ([.ref (q 0), .int (J s)]) ++ List.replicate (3 - (lg_sl ([.ref (q 0), .int (J s)])).length) Slot.unset).toArray = ls at hl ⊢
  have hl : lv_has ls 3 [(0, .ref (q 0)), (1, .int (J s))] := hl
  have hS : va_S A st.heap st.heap [] := va_S.rf
  refine lv_aload_n SS.1 SS.2.1 dX11_parts_0 rfl (lv_at hl 0 rfl) ?_
  refine lv_iload_n SS.1 SS.2.1 dX11_parts_1 rfl (lv_at hl 1 rfl) ?_
  refine j_vSh SS (As := [.int (J s)]) (rest := []) (c_X11_shapeAt l D q u  s (show -2147483648 ≤ s ∧ s ≤ 2147483647 from (p1))) mf_X11_shapeAt kw_414 hG hP hP (ci := 11) (q0 := 0) rfl rfl rfl rfl hl.1 ⟨⟨Nat.le_of_ble_eq_true rfl, Nat.le_of_ble_eq_true rfl⟩, Nat.le_of_ble_eq_true rfl, Nat.le_refl _, Nat.le_refl _⟩ rfl dX11_parts_2 (fun i_2 hi_2 hz_2 => ?_) (fun hn_2 => ?_)
  · skip
    have hI2 := CI_s p0 (show i_2 < 8 by omega)
    have hI2c := hI2.1
    have hrl2 := rl_s (show i_2 < 8 by omega)
    refine lv_astore_n (lv' := [(2, .ref (q (8 + 5 * i_2))), (0, .ref (q 0)), (1, .int (J s))]) SS.1 SS.2.1 dX11_parts_5 rfl hl (by decide) rfl (fun ls hl => ?_)
    refine lv_aload_n SS.1 SS.2.1 dX11_parts_6 rfl (lv_at hl 0 rfl) ?_
    refine lv_ifnonnull SS.1 SS.2.1 (tgt := 14) dX11_parts_7 (by decide) ?_
    refine lv_aload_n SS.1 SS.2.1 dX11_parts_14 rfl (lv_at hl 0 rfl) ?_
    refine j_get SS hG hP (8 + 5 * i_2) (v := .ref (q (9 + 5 * i_2))) (C := RX10) (T := TX10) (N := 3) (cw_shape (by omega)) rfl inX10 0 (by decide) (ref := "GridPolygons$Shape") kw_151 rfl rfl dX11_parts_15 ?_
    refine j_vRi SS (As := []) (rest := []) (c_X7_isPolygon l D q u i_2 (by omega) (40 : Int)  (show 0 ≤ (40 : Int) ∧ (40 : Int) ≤ 80 from (by omega)) (show RB (40 : Int) u i_2 from (CI_40 p0 (by omega)))) mf_X7_isPolygon kw_568 hG hP hP (ci := 7) (q0 := (9 + 5 * i_2)) rfl (cw_ring (by omega)) rfl rfl hl.1 ⟨⟨Nat.le_of_ble_eq_true rfl, Nat.le_of_ble_eq_true rfl⟩, Nat.le_of_ble_eq_true rfl, Nat.le_refl _, Nat.le_refl _⟩ rfl dX11_parts_18 (fun z_18 h_18 => ?_)
    have h_18 : (z_18 = 1 ∧ 3 ≤ (u.1.2.2.1 i_2)) ∨ (z_18 = 0 ∧ (u.1.2.2.1 i_2) < 3) := h_18
    refine j_if_eq SS (tgt := 38) (x := z_18) dX11_parts_21 (by decide) (by omega) (fun c_21 => ?_) (fun c_21 => ?_)
    · skip
      refine lv_ldc2 SS.1 SS.2.1 SS.2.2.2.1 (SS.2.2.2.2 _ kw_576) dX11_parts_38 ?_
      exact W.lret SS.1 SS.2.1 hr (fun t0 ht hW => ⟨⟨_, u, rfl, (⟨by first | exact p0 | exact CI_hm p0, (by first | exact cs_refl | exact (fun r hr => ⟨if_neg (by omega), if_neg (by omega), if_neg (by omega)⟩))⟩), by show va_P D.1 j_cl (cW D q u) t0.heap; rw [ht]; first | exact hP | (simp only [sC_id, sX_id, sY_id, sH_id, sT_id, sV_id]; exact hP)⟩, hS.F ht⟩) hS.2.2 dX11_parts_41 hlk
    · skip
      refine lv_aload_n SS.1 SS.2.1 dX11_parts_24 rfl (lv_at hl 1 rfl) ?_
      refine j_get SS hG hP 0 (v := .ref (q 5)) (C := RX11) (T := TX11) (N := 8) rfl rfl inX11 4 (by decide) (ref := "GridPolygons") kw_389 rfl rfl dX11_parts_25 ?_
      refine lv_aload_n SS.1 SS.2.1 dX11_parts_28 rfl (lv_at hl 0 rfl) ?_
      refine j_get SS hG hP (8 + 5 * i_2) (v := .ref (q (9 + 5 * i_2))) (C := RX10) (T := TX10) (N := 3) (cw_shape (by omega)) rfl inX10 0 (by decide) (ref := "GridPolygons$Shape") kw_151 rfl rfl dX11_parts_29 ?_
      refine j_vWl SS (As := [.ref (q (9 + 5 * i_2))]) (rest := []) (c_X0_howMany l D q u A (cW_D hD) i_2 (by omega)  (show RB 40 u i_2 from (CI_40 p0 (by omega)))) mf_X0_howMany kw_700 hG hP hP (ci := 0) (q0 := 5) rfl rfl rfl hS (fun _ h => h) rfl hl.1 ⟨⟨Nat.le_of_ble_eq_true rfl, Nat.le_of_ble_eq_true rfl⟩, Nat.le_of_ble_eq_true rfl, Nat.le_refl _, Nat.le_refl _⟩ rfl dX11_parts_32 (fun x_32 u32 H locs h_32 hP _ hS => ?_)
      obtain ⟨lf_32, bt_32, wd_32, tl_32, sp_32, dx_32, dy_32, w0_32, w1_32, rfl, h_32⟩ := h_32
      have hP : va_P D.1 j_cl (cW D q (sV (sV (sV (sV (sV (sV (sV (sL (sL u 0 w0_32) 1 w1_32) 13 lf_32) 14 bt_32) 15 wd_32) 16 tl_32) 17 sp_32) 18 dx_32) 19 dy_32)) H := hP
      have h_32 : True := h_32
      refine lv_goto (tgt := 41) SS.1 SS.2.1 dX11_parts_35 (by decide) ?_
      exact W.lret SS.1 SS.2.1 hr (fun t0 ht hW => ⟨⟨_, (sV (sV (sV (sV (sV (sV (sV (sL (sL u 0 w0_32) 1 w1_32) 13 lf_32) 14 bt_32) 15 wd_32) 16 tl_32) 17 sp_32) 18 dx_32) 19 dy_32), rfl, (⟨by first | exact p0 | exact CI_hm p0, (by first | exact cs_refl | exact (fun r hr => ⟨if_neg (by omega), if_neg (by omega), if_neg (by omega)⟩))⟩), by show va_P D.1 j_cl (cW D q (sV (sV (sV (sV (sV (sV (sV (sL (sL u 0 w0_32) 1 w1_32) 13 lf_32) 14 bt_32) 15 wd_32) 16 tl_32) 17 sp_32) 18 dx_32) 19 dy_32)) t0.heap; rw [ht]; first | exact hP | (simp only [sC_id, sX_id, sY_id, sH_id, sT_id, sV_id]; exact hP)⟩, hS.F ht⟩) hS.2.2 dX11_parts_41 hlk
  · skip
    refine lv_astore_nN (lv' := [(2, .null), (0, .ref (q 0)), (1, .int (J s))]) SS.1 SS.2.1 dX11_parts_5 rfl hl (by decide) rfl (fun ls hl => ?_)
    refine lv_aload_nN SS.1 SS.2.1 dX11_parts_6 rfl (lv_at hl 0 rfl) ?_
    refine lv_ifnonnullN SS.1 SS.2.1 dX11_parts_7 ?_
    refine lv_ldc2 SS.1 SS.2.1 SS.2.2.2.1 (SS.2.2.2.2 _ kw_562) dX11_parts_10 ?_
    exact W.lret SS.1 SS.2.1 hr (fun t0 ht hW => ⟨⟨_, u, rfl, (⟨p0, (by first | exact cs_refl | exact (fun r hr => ⟨if_neg (by omega), if_neg (by omega), if_neg (by omega)⟩))⟩), by show va_P D.1 j_cl (cW D q u) t0.heap; rw [ht]; first | exact hP | (simp only [sC_id, sX_id, sY_id, sH_id, sT_id, sV_id]; exact hP)⟩, hS.F ht⟩) hS.2.2 dX11_parts_13 hlk

set_option maxHeartbeats 4000000 in
set_option maxRecDepth 100000 in
theorem c_X11_partN (l : Launch) (D : JD) (q : Nat → Nat) (u : CS) (A : Nat → Prop) (hD : va_D A (cW D q u)) (s : Int) (i : Int) (p0 : CI u) (p1 : -2147483648 ≤ s ∧ s ≤ 2147483647) (p2 : -2147483648 ≤ i ∧ i ≤ 2147483647) : Met l yX11_part (jw yX11_part cX11_part 4 (some .int)) (jr 6 135) (jP [.ref (q 0), .int (J s), .int (J i)] D (fun H => va_P D.1 j_cl (cW D q u) H)) (jWi (fun z u' => CI u' ∧ cSame u u') (fun u' H => va_P D.1 j_cl (cW D q u') H) A) 0 0 A := by
  refine Met.ofW (cc := cX11_part) (maxL := 4) (ret := (some .int)) (by decide) rfl ?_
  intro pr en st mi args below meth co s₁ B hml hv
  obtain ⟨rfl, hG, hP⟩ := hv
  have hr := B.returns
  have hlk := B.notSynchronized
  have SS : jS pr mi co cX11_part 4 st _ RX11 := ⟨B.exec, B.bytes, hml, findClass_of_methodNamed B.named, fun w hw => atoms_spec (ws := (jw yX11_part cX11_part 4 (some .int))) B.pre w (List.mem_cons_of_mem _ hw)⟩
  have hl := lv_entry ([.ref (q 0), .int (J s), .int (J i)]) (n := 4) (Nat.le_of_ble_eq_true rfl)
  rw [lg_entry_eq]
  generalize (lg_sl ([.ref (q 0), .int (J s), .int (J i)]) ++ List.replicate (4 - (lg_sl ([.ref (q 0), .int (J s), .int (J i)])).length) Slot.unset).toArray = ls at hl ⊢
  have hl : lv_has ls 4 [(0, .ref (q 0)), (1, .int (J s)), (2, .int (J i))] := hl
  have hS : va_S A st.heap st.heap [] := va_S.rf
  refine lv_aload_n SS.1 SS.2.1 dX11_part_0 rfl (lv_at hl 0 rfl) ?_
  refine lv_iload_n SS.1 SS.2.1 dX11_part_1 rfl (lv_at hl 1 rfl) ?_
  refine j_vSh SS (As := [.int (J s)]) (rest := []) (c_X11_shapeAt l D q u  s (show -2147483648 ≤ s ∧ s ≤ 2147483647 from (p1))) mf_X11_shapeAt kw_414 hG hP hP (ci := 11) (q0 := 0) rfl rfl rfl rfl hl.1 ⟨⟨Nat.le_of_ble_eq_true rfl, Nat.le_of_ble_eq_true rfl⟩, Nat.le_of_ble_eq_true rfl, Nat.le_refl _, Nat.le_refl _⟩ rfl dX11_part_2 (fun i_2 hi_2 hz_2 => ?_) (fun hn_2 => ?_)
  · skip
    have hI2 := CI_s p0 (show i_2 < 8 by omega)
    have hI2c := hI2.1
    have hrl2 := rl_s (show i_2 < 8 by omega)
    refine lv_astore_n (lv' := [(3, .ref (q (8 + 5 * i_2))), (0, .ref (q 0)), (1, .int (J s)), (2, .int (J i))]) SS.1 SS.2.1 dX11_part_5 rfl hl (by decide) rfl (fun ls hl => ?_)
    refine lv_aload_n SS.1 SS.2.1 dX11_part_6 rfl (lv_at hl 0 rfl) ?_
    refine lv_ifnull SS.1 SS.2.1 dX11_part_7 ?_
    refine lv_iload_n SS.1 SS.2.1 dX11_part_10 rfl (lv_at hl 3 rfl) ?_
    refine j_iconst SS dX11_part_11 ?_
    refine j_icmp_lt SS (tgt := 26) (x := i) (y := (-1)) dX11_part_12 (by decide) (by omega) (by decide) (fun c_12 => ?_) (fun c_12 => ?_)
    · skip
      refine j_iconst SS dX11_part_26 ?_
      exact W.iret SS.1 SS.2.1 hr (fun t0 ht hW => ⟨⟨_, u, rfl, ⟨(-1), rfl, (⟨p0, (by first | exact cs_refl | exact (fun r hr => ⟨if_neg (by omega), if_neg (by omega), if_neg (by omega)⟩))⟩)⟩, by show va_P D.1 j_cl (cW D q u) t0.heap; rw [ht]; first | exact hP | (simp only [sC_id, sX_id, sY_id, sH_id, sT_id, sV_id]; exact hP)⟩, hS.F ht⟩) hS.2.2 dX11_part_27 hlk
    · skip
      refine lv_iload_n SS.1 SS.2.1 dX11_part_15 rfl (lv_at hl 3 rfl) ?_
      refine lv_aload_n SS.1 SS.2.1 dX11_part_16 rfl (lv_at hl 0 rfl) ?_
      refine j_get SS hG hP (8 + 5 * i_2) (v := .ref (q (9 + 5 * i_2))) (C := RX10) (T := TX10) (N := 3) (cw_shape (by omega)) rfl inX10 0 (by decide) (ref := "GridPolygons$Shape") kw_151 rfl rfl dX11_part_17 ?_
      refine j_getS SS hG hP (9 + 5 * i_2) (v := .int (J (u.1.2.2.1 i_2))) (C := RX7) (T := TX7) (N := 3) (cw_ring (by omega)) rfl inX7 2 (by decide) (ref := "GridPolygons$Ring") kw_135 kw_132 rfl dX11_part_20 ?_
      refine j_icmp_lt SS (tgt := 28) (x := i) (y := (u.1.2.2.1 i_2)) dX11_part_23 (by decide) (by omega) (by omega) (fun c_23 => ?_) (fun c_23 => ?_)
      · skip
        refine lv_aload_n SS.1 SS.2.1 dX11_part_28 rfl (lv_at hl 0 rfl) ?_
        refine j_get SS hG hP (8 + 5 * i_2) (v := .ref (q (9 + 5 * i_2))) (C := RX10) (T := TX10) (N := 3) (cw_shape (by omega)) rfl inX10 0 (by decide) (ref := "GridPolygons$Shape") kw_151 rfl rfl dX11_part_29 ?_
        refine j_vRi SS (As := []) (rest := []) (c_X7_isPolygon l D q u i_2 (by omega) (40 : Int)  (show 0 ≤ (40 : Int) ∧ (40 : Int) ≤ 80 from (by omega)) (show RB (40 : Int) u i_2 from (CI_40 p0 (by omega)))) mf_X7_isPolygon kw_568 hG hP hP (ci := 7) (q0 := (9 + 5 * i_2)) rfl (cw_ring (by omega)) rfl rfl hl.1 ⟨⟨Nat.le_of_ble_eq_true rfl, Nat.le_of_ble_eq_true rfl⟩, Nat.le_of_ble_eq_true rfl, Nat.le_refl _, Nat.le_refl _⟩ rfl dX11_part_32 (fun z_32 h_32 => ?_)
        have h_32 : (z_32 = 1 ∧ 3 ≤ (u.1.2.2.1 i_2)) ∨ (z_32 = 0 ∧ (u.1.2.2.1 i_2) < 3) := h_32
        refine j_if_ne SS (tgt := 41) (x := z_32) dX11_part_35 (by decide) (by omega) (fun c_35 => ?_) (fun c_35 => ?_)
        · skip
          refine lv_aload_n SS.1 SS.2.1 dX11_part_41 rfl (lv_at hl 1 rfl) ?_
          refine j_get SS hG hP 0 (v := .ref (q 5)) (C := RX11) (T := TX11) (N := 8) rfl rfl inX11 4 (by decide) (ref := "GridPolygons") kw_389 rfl rfl dX11_part_42 ?_
          refine lv_aload_n SS.1 SS.2.1 dX11_part_45 rfl (lv_at hl 0 rfl) ?_
          refine j_vWv SS (As := [.ref (q (8 + 5 * i_2))]) (rest := []) (c_X0_findLeast l D q u A (cW_D hD) i_2 (by omega)  (show RB 40 u i_2 from (CI_40 p0 (by omega))) (show ∀ k : Nat, 0 ≤ (u.2.1 5) k ∧ (u.2.1 5) k ≤ 1000000 from (p0.2.2.2.2.1.1)) (show ∀ k : Nat, 0 ≤ (u.2.1 6) k ∧ (u.2.1 6) k ≤ 80 from (p0.2.2.2.2.1.2.1)) (show -2147483648 ≤ (u.2.2.2 12) ∧ (u.2.2.2 12) ≤ 2147483647 from (p0.2.2.2.2.1.2.2)) (show -2147483648 ≤ (u.1.2.2.2.2 i_2) ∧ (u.1.2.2.2.2 i_2) ≤ 2147483647 from ((p0.1 i_2 (by omega)).2.2))) mf_X0_findLeast kw_743 hG hP hP (ci := 0) (q0 := 5) rfl rfl rfl hS (fun _ h => h) rfl hl.1 ⟨⟨Nat.le_of_ble_eq_true rfl, Nat.le_of_ble_eq_true rfl⟩, Nat.le_of_ble_eq_true rfl, Nat.le_refl _, Nat.le_refl _⟩ rfl dX11_part_46 (fun u46 H locs h_46 hP _ hS => ?_)
          obtain ⟨v10_46, v11_46, v12_46, v13_46, v14_46, v15_46, v16_46, v17_46, v18_46, v19_46, f5_46, f6_46, rfl, h_46⟩ := h_46
          have hP : va_P D.1 j_cl (cW D q (sV (sV (sV (sV (sV (sV (sV (sV (sV (sV (sI (sI u 5 f5_46) 6 f6_46) 10 v10_46) 11 v11_46) 12 v12_46) 13 v13_46) 14 v14_46) 15 v15_46) 16 v16_46) 17 v17_46) 18 v18_46) 19 v19_46)) H := hP
          have h_46 : (∀ k : Nat, 0 ≤ f5_46 k ∧ f5_46 k ≤ 1000000) ∧ (∀ k : Nat, 0 ≤ f6_46 k ∧ f6_46 k ≤ 80) ∧ -2147483648 ≤ v12_46 ∧ v12_46 ≤ 2147483647 := h_46
          refine lv_iload_n SS.1 SS.2.1 dX11_part_49 rfl (lv_at hl 3 rfl) ?_
          refine j_iconst SS dX11_part_50 ?_
          refine j_icmp_ne SS (tgt := 64) (x := i) (y := (-1)) dX11_part_51 (by decide) (by omega) (by decide) (fun c_51 => ?_) (fun c_51 => ?_)
          · skip
            refine lv_aload_n SS.1 SS.2.1 dX11_part_64 rfl (lv_at hl 1 rfl) ?_
            refine j_get SS hG hP 0 (v := .ref (q 5)) (C := RX11) (T := TX11) (N := 8) rfl rfl inX11 4 (by decide) (ref := "GridPolygons") kw_389 rfl rfl dX11_part_65 ?_
            refine lv_iload_n SS.1 SS.2.1 dX11_part_68 rfl (lv_at hl 3 rfl) ?_
            refine j_vRi SS (As := [.int (J i)]) (rest := []) (c_X0_takenOf l D q (sV (sV (sV (sV (sV (sV (sV (sV (sV (sV (sI (sI u 5 f5_46) 6 f6_46) 10 v10_46) 11 v11_46) 12 v12_46) 13 v13_46) 14 v14_46) 15 v15_46) 16 v16_46) 17 v17_46) 18 v18_46) 19 v19_46)  i (show -2147483648 ≤ i ∧ i ≤ 2147483647 from (by omega))) mf_X0_takenOf kw_786 hG hP hP (ci := 0) (q0 := 5) rfl rfl rfl rfl hl.1 ⟨⟨Nat.le_of_ble_eq_true rfl, Nat.le_of_ble_eq_true rfl⟩, Nat.le_of_ble_eq_true rfl, Nat.le_refl _, Nat.le_refl _⟩ rfl dX11_part_69 (fun z_69 h_69 => ?_)
            have h_69 : True := h_69
            exact W.iret SS.1 SS.2.1 hr (fun t0 ht hW => ⟨⟨_, (sV (sV (sV (sV (sV (sV (sV (sV (sV (sV (sI (sI u 5 f5_46) 6 f6_46) 10 v10_46) 11 v11_46) 12 v12_46) 13 v13_46) 14 v14_46) 15 v15_46) 16 v16_46) 17 v17_46) 18 v18_46) 19 v19_46), rfl, ⟨z_69, rfl, (⟨CI_fl p0 h_46.1 h_46.2.1 h_46.2.2, (by first | exact cs_refl | exact (fun r hr => ⟨if_neg (by omega), if_neg (by omega), if_neg (by omega)⟩))⟩)⟩, by show va_P D.1 j_cl (cW D q (sV (sV (sV (sV (sV (sV (sV (sV (sV (sV (sI (sI u 5 f5_46) 6 f6_46) 10 v10_46) 11 v11_46) 12 v12_46) 13 v13_46) 14 v14_46) 15 v15_46) 16 v16_46) 17 v17_46) 18 v18_46) 19 v19_46)) t0.heap; rw [ht]; first | exact hP | (simp only [sC_id, sX_id, sY_id, sH_id, sT_id, sV_id]; exact hP)⟩, hS.F ht⟩) hS.2.2 dX11_part_72 hlk
          · skip
            refine lv_aload_n SS.1 SS.2.1 dX11_part_54 rfl (lv_at hl 1 rfl) ?_
            refine j_get SS hG hP 0 (v := .ref (q 5)) (C := RX11) (T := TX11) (N := 8) rfl rfl inX11 4 (by decide) (ref := "GridPolygons") kw_389 rfl rfl dX11_part_55 ?_
            refine j_get SS hG hP 5 (v := .int (J v10_46)) (C := RX0) (T := TX0) (N := 14) rfl rfl inX0 4 (by decide) (ref := "GridPolygons$Choices") kw_248 rfl rfl dX11_part_58 ?_
            refine lv_goto (tgt := 72) SS.1 SS.2.1 dX11_part_61 (by decide) ?_
            exact W.iret SS.1 SS.2.1 hr (fun t0 ht hW => ⟨⟨_, (sV (sV (sV (sV (sV (sV (sV (sV (sV (sV (sI (sI u 5 f5_46) 6 f6_46) 10 v10_46) 11 v11_46) 12 v12_46) 13 v13_46) 14 v14_46) 15 v15_46) 16 v16_46) 17 v17_46) 18 v18_46) 19 v19_46), rfl, ⟨v10_46, rfl, (⟨CI_fl p0 h_46.1 h_46.2.1 h_46.2.2, (by first | exact cs_refl | exact (fun r hr => ⟨if_neg (by omega), if_neg (by omega), if_neg (by omega)⟩))⟩)⟩, by show va_P D.1 j_cl (cW D q (sV (sV (sV (sV (sV (sV (sV (sV (sV (sV (sI (sI u 5 f5_46) 6 f6_46) 10 v10_46) 11 v11_46) 12 v12_46) 13 v13_46) 14 v14_46) 15 v15_46) 16 v16_46) 17 v17_46) 18 v18_46) 19 v19_46)) t0.heap; rw [ht]; first | exact hP | (simp only [sC_id, sX_id, sY_id, sH_id, sT_id, sV_id]; exact hP)⟩, hS.F ht⟩) hS.2.2 dX11_part_72 hlk
        · skip
          refine j_bipush SS dX11_part_38 (by decide +kernel) ?_
          exact W.iret SS.1 SS.2.1 hr (fun t0 ht hW => ⟨⟨_, u, rfl, ⟨(-2), rfl, (⟨p0, (by first | exact cs_refl | exact (fun r hr => ⟨if_neg (by omega), if_neg (by omega), if_neg (by omega)⟩))⟩)⟩, by show va_P D.1 j_cl (cW D q u) t0.heap; rw [ht]; first | exact hP | (simp only [sC_id, sX_id, sY_id, sH_id, sT_id, sV_id]; exact hP)⟩, hS.F ht⟩) hS.2.2 dX11_part_40 hlk
      · skip
        refine j_iconst SS dX11_part_26 ?_
        exact W.iret SS.1 SS.2.1 hr (fun t0 ht hW => ⟨⟨_, u, rfl, ⟨(-1), rfl, (⟨p0, (by first | exact cs_refl | exact (fun r hr => ⟨if_neg (by omega), if_neg (by omega), if_neg (by omega)⟩))⟩)⟩, by show va_P D.1 j_cl (cW D q u) t0.heap; rw [ht]; first | exact hP | (simp only [sC_id, sX_id, sY_id, sH_id, sT_id, sV_id]; exact hP)⟩, hS.F ht⟩) hS.2.2 dX11_part_27 hlk
  · skip
    refine lv_astore_nN (lv' := [(3, .null), (0, .ref (q 0)), (1, .int (J s)), (2, .int (J i))]) SS.1 SS.2.1 dX11_part_5 rfl hl (by decide) rfl (fun ls hl => ?_)
    refine lv_aload_nN SS.1 SS.2.1 dX11_part_6 rfl (lv_at hl 0 rfl) ?_
    refine lv_ifnullN SS.1 SS.2.1 (tgt := 26) dX11_part_7 (by decide) ?_
    refine j_iconst SS dX11_part_26 ?_
    exact W.iret SS.1 SS.2.1 hr (fun t0 ht hW => ⟨⟨_, u, rfl, ⟨(-1), rfl, (⟨p0, (by first | exact cs_refl | exact (fun r hr => ⟨if_neg (by omega), if_neg (by omega), if_neg (by omega)⟩))⟩)⟩, by show va_P D.1 j_cl (cW D q u) t0.heap; rw [ht]; first | exact hP | (simp only [sC_id, sX_id, sY_id, sH_id, sT_id, sV_id]; exact hP)⟩, hS.F ht⟩) hS.2.2 dX11_part_27 hlk

set_option maxHeartbeats 4000000 in
set_option maxRecDepth 100000 in
theorem c_X11_cutsN (l : Launch) (D : JD) (q : Nat → Nat) (u : CS) (A : Nat → Prop) (hD : va_D A (cW D q u)) (s : Int) (what : Int) (p0 : CI u) (p1 : -2147483648 ≤ s ∧ s ≤ 2147483647) (p2 : -2147483648 ≤ what ∧ what ≤ 2147483647) : Met l yX11_cuts (jw yX11_cuts cX11_cuts 4 (some .int)) (jr 7 149) (jP [.ref (q 0), .int (J s), .int (J what)] D (fun H => va_P D.1 j_cl (cW D q u) H)) (jWi (fun z u' => CI u' ∧ cSame u u') (fun u' H => va_P D.1 j_cl (cW D q u') H) A) 0 0 A := by
  refine Met.ofW (cc := cX11_cuts) (maxL := 4) (ret := (some .int)) (by decide) rfl ?_
  intro pr en st mi args below meth co s₁ B hml hv
  obtain ⟨rfl, hG, hP⟩ := hv
  have hr := B.returns
  have hlk := B.notSynchronized
  have SS : jS pr mi co cX11_cuts 4 st _ RX11 := ⟨B.exec, B.bytes, hml, findClass_of_methodNamed B.named, fun w hw => atoms_spec (ws := (jw yX11_cuts cX11_cuts 4 (some .int))) B.pre w (List.mem_cons_of_mem _ hw)⟩
  have hl := lv_entry ([.ref (q 0), .int (J s), .int (J what)]) (n := 4) (Nat.le_of_ble_eq_true rfl)
  rw [lg_entry_eq]
  generalize (lg_sl ([.ref (q 0), .int (J s), .int (J what)]) ++ List.replicate (4 - (lg_sl ([.ref (q 0), .int (J s), .int (J what)])).length) Slot.unset).toArray = ls at hl ⊢
  have hl : lv_has ls 4 [(0, .ref (q 0)), (1, .int (J s)), (2, .int (J what))] := hl
  have hS : va_S A st.heap st.heap [] := va_S.rf
  refine lv_aload_n SS.1 SS.2.1 dX11_cuts_0 rfl (lv_at hl 0 rfl) ?_
  refine lv_iload_n SS.1 SS.2.1 dX11_cuts_1 rfl (lv_at hl 1 rfl) ?_
  refine j_vSh SS (As := [.int (J s)]) (rest := []) (c_X11_shapeAt l D q u  s (show -2147483648 ≤ s ∧ s ≤ 2147483647 from (p1))) mf_X11_shapeAt kw_414 hG hP hP (ci := 11) (q0 := 0) rfl rfl rfl rfl hl.1 ⟨⟨Nat.le_of_ble_eq_true rfl, Nat.le_of_ble_eq_true rfl⟩, Nat.le_of_ble_eq_true rfl, Nat.le_refl _, Nat.le_refl _⟩ rfl dX11_cuts_2 (fun i_2 hi_2 hz_2 => ?_) (fun hn_2 => ?_)
  · skip
    have hI2 := CI_s p0 (show i_2 < 8 by omega)
    have hI2c := hI2.1
    have hrl2 := rl_s (show i_2 < 8 by omega)
    refine lv_astore_n (lv' := [(3, .ref (q (8 + 5 * i_2))), (0, .ref (q 0)), (1, .int (J s)), (2, .int (J what))]) SS.1 SS.2.1 dX11_cuts_5 rfl hl (by decide) rfl (fun ls hl => ?_)
    refine lv_aload_n SS.1 SS.2.1 dX11_cuts_6 rfl (lv_at hl 0 rfl) ?_
    refine lv_ifnull SS.1 SS.2.1 dX11_cuts_7 ?_
    refine lv_iload_n SS.1 SS.2.1 dX11_cuts_10 rfl (lv_at hl 3 rfl) ?_
    refine j_if_lt SS (tgt := 19) (x := what) dX11_cuts_11 (by decide) (by omega) (fun c_11 => ?_) (fun c_11 => ?_)
    · skip
      refine j_iconst SS dX11_cuts_19 ?_
      exact W.iret SS.1 SS.2.1 hr (fun t0 ht hW => ⟨⟨_, u, rfl, ⟨(-1), rfl, (⟨p0, (by first | exact cs_refl | exact (fun r hr => ⟨if_neg (by omega), if_neg (by omega), if_neg (by omega)⟩))⟩)⟩, by show va_P D.1 j_cl (cW D q u) t0.heap; rw [ht]; first | exact hP | (simp only [sC_id, sX_id, sY_id, sH_id, sT_id, sV_id]; exact hP)⟩, hS.F ht⟩) hS.2.2 dX11_cuts_20 hlk
    · skip
      refine lv_iload_n SS.1 SS.2.1 dX11_cuts_14 rfl (lv_at hl 3 rfl) ?_
      refine j_iconst SS dX11_cuts_15 ?_
      refine j_icmp_le SS (tgt := 21) (x := what) (y := 3) dX11_cuts_16 (by decide) (by omega) (by decide) (fun c_16 => ?_) (fun c_16 => ?_)
      · skip
        refine lv_aload_n SS.1 SS.2.1 dX11_cuts_21 rfl (lv_at hl 0 rfl) ?_
        refine j_get SS hG hP (8 + 5 * i_2) (v := .ref (q (9 + 5 * i_2))) (C := RX10) (T := TX10) (N := 3) (cw_shape (by omega)) rfl inX10 0 (by decide) (ref := "GridPolygons$Shape") kw_151 rfl rfl dX11_cuts_22 ?_
        refine j_bipush SS dX11_cuts_25 (by decide +kernel) ?_
        refine j_sRi SS (As := [.ref (q (9 + 5 * i_2)), .int (J 12)]) (rest := []) (c_X11_hasAtMost l D q u i_2 (by omega) 12 (show RB 40 u i_2 from (CI_40 p0 (by omega))) (show -2147483648 ≤ (12 : Int) ∧ (12 : Int) ≤ 2147483647 from (by omega))) mf_X11_hasAtMost kw_859 hG hP rfl hl.1 ⟨⟨Nat.le_of_ble_eq_true rfl, Nat.le_of_ble_eq_true rfl⟩, Nat.le_of_ble_eq_true rfl, Nat.le_refl _, Nat.le_refl _⟩ rfl dX11_cuts_27 (fun z_27 h_27 => ?_)
        have h_27 : (z_27 = 1 ∧ 3 ≤ (u.1.2.2.1 i_2) ∧ rE u i_2 + rI u i_2 ≤ (12 : Int)) ∨ z_27 = 0 := h_27
        refine j_if_ne SS (tgt := 36) (x := z_27) dX11_cuts_30 (by decide) (by omega) (fun c_30 => ?_) (fun c_30 => ?_)
        · skip
          refine lv_iload_n SS.1 SS.2.1 dX11_cuts_36 rfl (lv_at hl 3 rfl) ?_
          refine j_iconst SS dX11_cuts_37 ?_
          refine j_icmp_ne SS (tgt := 49) (x := what) (y := 2) dX11_cuts_38 (by decide) (by omega) (by decide) (fun c_38 => ?_) (fun c_38 => ?_)
          · skip
            refine lv_iload_n SS.1 SS.2.1 dX11_cuts_49 rfl (lv_at hl 3 rfl) ?_
            refine j_iconst SS dX11_cuts_50 ?_
            refine j_icmp_ne SS (tgt := 62) (x := what) (y := 3) dX11_cuts_51 (by decide) (by omega) (by decide) (fun c_51 => ?_) (fun c_51 => ?_)
            · skip
              refine lv_aload_n SS.1 SS.2.1 dX11_cuts_62 rfl (lv_at hl 1 rfl) ?_
              refine j_get SS hG hP 0 (v := .ref (q 6)) (C := RX11) (T := TX11) (N := 8) rfl rfl inX11 5 (by decide) (ref := "GridPolygons") kw_390 rfl rfl dX11_cuts_63 ?_
              refine lv_aload_n SS.1 SS.2.1 dX11_cuts_66 rfl (lv_at hl 0 rfl) ?_
              refine j_vWi SS (As := [.ref (q (8 + 5 * i_2))]) (rest := []) (c_X2_build l D q u A (cW_D hD) i_2 (by omega)  (show RB 40 u i_2 from (CI_40 p0 (by omega))) (show RB 40 u 9 from (p0.2.1.2.1)) (show ∀ k : Nat, 0 ≤ (u.2.1 2) k ∧ (u.2.1 2) k ≤ 12 from (fun k => (p0.2.2.2.2.2.1.2.2.1 k).1)) (show ∀ k : Nat, 0 ≤ (u.2.1 3) k ∧ (u.2.1 3) k ≤ 12 from (fun k => (p0.2.2.2.2.2.1.2.2.1 k).2)) (show ∀ k : Nat, -1 ≤ (u.2.1 4) k ∧ (u.2.1 4) k ≤ 63 from (p0.2.2.2.2.2.1.2.2.2)) (show 0 ≤ (u.2.2.2 20) ∧ (u.2.2.2 20) ≤ 63 from (p0.2.2.2.2.2.1.1)) (show 0 ≤ (u.2.2.2 21) ∧ (u.2.2.2 21) ≤ 756 from (p0.2.2.2.2.2.1.2.1)) (show 0 ≤ (u.2.2.2 22) ∧ (u.2.2.2 22) ≤ 1500 from (p0.2.2.2.2.2.2.1.1)) (show ∀ k : Nat, 0 ≤ (u.2.1 8) k ∧ (u.2.1 8) k ≤ 1500 from (p0.2.2.2.2.2.2.1.2.2.2)) (show (u.2.2.2 23) = 0 ∨ (u.2.2.2 23) = 1 from (p0.2.2.2.2.2.2.1.2.1)) (show -2147483648 ≤ (u.2.2.2 24) ∧ (u.2.2.2 24) ≤ 2147483647 from (p0.2.2.2.2.2.2.1.2.2.1)) (show -2147483648 ≤ (u.1.2.2.2.2 i_2) ∧ (u.1.2.2.2.2 i_2) ≤ 2147483647 from ((p0.1 i_2 (by omega)).2.2))) mf_X2_build kw_865 hG hP hP (ci := 2) (q0 := 6) rfl rfl rfl hS (fun _ h => h) rfl hl.1 ⟨⟨Nat.le_of_ble_eq_true rfl, Nat.le_of_ble_eq_true rfl⟩, Nat.le_of_ble_eq_true rfl, Nat.le_refl _, Nat.le_refl _⟩ rfl dX11_cuts_67 (fun z_67 u67 H locs h_67 hP _ hS => ?_)
              obtain ⟨n_67, f_67, g_67, ls9_67, gr9_67, nu9_67, w3_67, w4_67, w5_67, v20_67, v21_67, st2_67, fa_67, pc9_67, v22_67, sp_67, v24_67, rfl, h_67⟩ := h_67
              have hP : va_P D.1 j_cl (cW D q (sY (sX (sV (sV (sV (sV (sV (sL (sL (sL (sL (sI (sI (sI (sI (sI (sC u 9 n_67) 2 ls9_67) 3 gr9_67) 4 nu9_67) 7 fa_67) 8 pc9_67) 2 st2_67) 3 w3_67) 4 w4_67) 5 w5_67) 20 v20_67) 21 v21_67) 22 v22_67) 23 sp_67) 24 v24_67) 9 f_67) 9 g_67)) H := hP
              have h_67 : (z_67 = 0 ∨ z_67 = 1) ∧ ((0 ≤ n_67 ∧ n_67 ≤ 12) ∧ RV 40 f_67 g_67) ∧ (∀ k : Nat, 0 ≤ ls9_67 k ∧ ls9_67 k ≤ 12) ∧ (∀ k : Nat, 0 ≤ gr9_67 k ∧ gr9_67 k ≤ 12) ∧ (∀ k : Nat, -1 ≤ nu9_67 k ∧ nu9_67 k ≤ 63) ∧ ((0 ≤ v20_67 ∧ v20_67 ≤ 63) ∧ 0 ≤ v21_67 ∧ v21_67 ≤ 756) ∧ ((0 ≤ v22_67 ∧ v22_67 ≤ 1500) ∧ (∀ k : Nat, 0 ≤ pc9_67 k ∧ pc9_67 k ≤ 1500) ∧ (sp_67 = 0 ∨ sp_67 = 1)) ∧ -2147483648 ≤ v24_67 ∧ v24_67 ≤ 2147483647 := h_67
              obtain ⟨hz9, hq9⟩ := h_67
              have hCI : CI (sY (sX (sV (sV (sV (sV (sV (sL (sL (sL (sL (sI (sI (sI (sI (sI (sC u 9 n_67) 2 ls9_67) 3 gr9_67) 4 nu9_67) 7 fa_67) 8 pc9_67) 2 st2_67) 3 w3_67) 4 w4_67) 5 w5_67) 20 v20_67) 21 v21_67) 22 v22_67) 23 sp_67) 24 v24_67) 9 f_67) 9 g_67) := CI_cu p0 hq9
              refine j_if_ne SS (tgt := 76) (x := z_67) dX11_cuts_70 (by decide) (by omega) (fun c_70 => ?_) (fun c_70 => ?_)
              · skip
                refine lv_iload_n SS.1 SS.2.1 dX11_cuts_76 rfl (lv_at hl 3 rfl) ?_
                refine j_if_ne SS (tgt := 90) (x := what) dX11_cuts_77 (by decide) (by omega) (fun c_77 => ?_) (fun c_77 => ?_)
                · skip
                  refine lv_aload_n SS.1 SS.2.1 dX11_cuts_90 rfl (lv_at hl 1 rfl) ?_
                  refine j_get SS hG hP 0 (v := .ref (q 6)) (C := RX11) (T := TX11) (N := 8) rfl rfl inX11 5 (by decide) (ref := "GridPolygons") kw_390 rfl rfl dX11_cuts_91 ?_
                  refine j_vRi SS (As := []) (rest := []) (c_X2_farthest l D q (sY (sX (sV (sV (sV (sV (sV (sL (sL (sL (sL (sI (sI (sI (sI (sI (sC u 9 n_67) 2 ls9_67) 3 gr9_67) 4 nu9_67) 7 fa_67) 8 pc9_67) 2 st2_67) 3 w3_67) 4 w4_67) 5 w5_67) 20 v20_67) 21 v21_67) 22 v22_67) 23 sp_67) 24 v24_67) 9 f_67) 9 g_67)   (show 0 ≤ v22_67 ∧ v22_67 ≤ 1500 from (by omega))) mf_X2_farthest kw_954 hG hP hP (ci := 2) (q0 := 6) rfl rfl rfl rfl hl.1 ⟨⟨Nat.le_of_ble_eq_true rfl, Nat.le_of_ble_eq_true rfl⟩, Nat.le_of_ble_eq_true rfl, Nat.le_refl _, Nat.le_refl _⟩ rfl dX11_cuts_94 (fun z_94 h_94 => ?_)
                  have h_94 : True := h_94
                  exact W.iret SS.1 SS.2.1 hr (fun t0 ht hW => ⟨⟨_, (sY (sX (sV (sV (sV (sV (sV (sL (sL (sL (sL (sI (sI (sI (sI (sI (sC u 9 n_67) 2 ls9_67) 3 gr9_67) 4 nu9_67) 7 fa_67) 8 pc9_67) 2 st2_67) 3 w3_67) 4 w4_67) 5 w5_67) 20 v20_67) 21 v21_67) 22 v22_67) 23 sp_67) 24 v24_67) 9 f_67) 9 g_67), rfl, ⟨z_94, rfl, (⟨hCI, (by first | exact cs_refl | exact (fun r hr => ⟨if_neg (by omega), if_neg (by omega), if_neg (by omega)⟩))⟩)⟩, by show va_P D.1 j_cl (cW D q (sY (sX (sV (sV (sV (sV (sV (sL (sL (sL (sL (sI (sI (sI (sI (sI (sC u 9 n_67) 2 ls9_67) 3 gr9_67) 4 nu9_67) 7 fa_67) 8 pc9_67) 2 st2_67) 3 w3_67) 4 w4_67) 5 w5_67) 20 v20_67) 21 v21_67) 22 v22_67) 23 sp_67) 24 v24_67) 9 f_67) 9 g_67)) t0.heap; rw [ht]; first | exact hP | (simp only [sC_id, sX_id, sY_id, sH_id, sT_id, sV_id]; exact hP)⟩, hS.F ht⟩) hS.2.2 dX11_cuts_97 hlk
                · skip
                  refine lv_aload_n SS.1 SS.2.1 dX11_cuts_80 rfl (lv_at hl 1 rfl) ?_
                  refine j_get SS hG hP 0 (v := .ref (q 6)) (C := RX11) (T := TX11) (N := 8) rfl rfl inX11 5 (by decide) (ref := "GridPolygons") kw_390 rfl rfl dX11_cuts_81 ?_
                  refine j_get SS hG hP 6 (v := .int (J v22_67)) (C := RX2) (T := TX2) (N := 7) rfl rfl inX2 4 (by decide) (ref := "GridPolygons$Cuts") kw_345 rfl rfl dX11_cuts_84 ?_
                  refine lv_goto (tgt := 97) SS.1 SS.2.1 dX11_cuts_87 (by decide) ?_
                  exact W.iret SS.1 SS.2.1 hr (fun t0 ht hW => ⟨⟨_, (sY (sX (sV (sV (sV (sV (sV (sL (sL (sL (sL (sI (sI (sI (sI (sI (sC u 9 n_67) 2 ls9_67) 3 gr9_67) 4 nu9_67) 7 fa_67) 8 pc9_67) 2 st2_67) 3 w3_67) 4 w4_67) 5 w5_67) 20 v20_67) 21 v21_67) 22 v22_67) 23 sp_67) 24 v24_67) 9 f_67) 9 g_67), rfl, ⟨v22_67, rfl, (⟨hCI, (by first | exact cs_refl | exact (fun r hr => ⟨if_neg (by omega), if_neg (by omega), if_neg (by omega)⟩))⟩)⟩, by show va_P D.1 j_cl (cW D q (sY (sX (sV (sV (sV (sV (sV (sL (sL (sL (sL (sI (sI (sI (sI (sI (sC u 9 n_67) 2 ls9_67) 3 gr9_67) 4 nu9_67) 7 fa_67) 8 pc9_67) 2 st2_67) 3 w3_67) 4 w4_67) 5 w5_67) 20 v20_67) 21 v21_67) 22 v22_67) 23 sp_67) 24 v24_67) 9 f_67) 9 g_67)) t0.heap; rw [ht]; first | exact hP | (simp only [sC_id, sX_id, sY_id, sH_id, sT_id, sV_id]; exact hP)⟩, hS.F ht⟩) hS.2.2 dX11_cuts_97 hlk
              · skip
                refine j_bipush SS dX11_cuts_73 (by decide +kernel) ?_
                exact W.iret SS.1 SS.2.1 hr (fun t0 ht hW => ⟨⟨_, (sY (sX (sV (sV (sV (sV (sV (sL (sL (sL (sL (sI (sI (sI (sI (sI (sC u 9 n_67) 2 ls9_67) 3 gr9_67) 4 nu9_67) 7 fa_67) 8 pc9_67) 2 st2_67) 3 w3_67) 4 w4_67) 5 w5_67) 20 v20_67) 21 v21_67) 22 v22_67) 23 sp_67) 24 v24_67) 9 f_67) 9 g_67), rfl, ⟨(-5), rfl, (⟨hCI, (by first | exact cs_refl | exact (fun r hr => ⟨if_neg (by omega), if_neg (by omega), if_neg (by omega)⟩))⟩)⟩, by show va_P D.1 j_cl (cW D q (sY (sX (sV (sV (sV (sV (sV (sL (sL (sL (sL (sI (sI (sI (sI (sI (sC u 9 n_67) 2 ls9_67) 3 gr9_67) 4 nu9_67) 7 fa_67) 8 pc9_67) 2 st2_67) 3 w3_67) 4 w4_67) 5 w5_67) 20 v20_67) 21 v21_67) 22 v22_67) 23 sp_67) 24 v24_67) 9 f_67) 9 g_67)) t0.heap; rw [ht]; first | exact hP | (simp only [sC_id, sX_id, sY_id, sH_id, sT_id, sV_id]; exact hP)⟩, hS.F ht⟩) hS.2.2 dX11_cuts_75 hlk
            · skip
              refine lv_aload_n SS.1 SS.2.1 dX11_cuts_54 rfl (lv_at hl 0 rfl) ?_
              refine j_get SS hG hP (8 + 5 * i_2) (v := .ref (q (9 + 5 * i_2))) (C := RX10) (T := TX10) (N := 3) (cw_shape (by omega)) rfl inX10 0 (by decide) (ref := "GridPolygons$Shape") kw_151 rfl rfl dX11_cuts_55 ?_
              refine j_vRi SS (As := []) (rest := []) (c_X7_area l D q u i_2 (by omega) (40 : Int)  (show 0 ≤ (40 : Int) ∧ (40 : Int) ≤ 80 from (by omega)) (show RB (40 : Int) u i_2 from (CI_40 p0 (by omega)))) mf_X7_area kw_517 hG hP hP (ci := 7) (q0 := (9 + 5 * i_2)) rfl (cw_ring (by omega)) rfl rfl hl.1 ⟨⟨Nat.le_of_ble_eq_true rfl, Nat.le_of_ble_eq_true rfl⟩, Nat.le_of_ble_eq_true rfl, Nat.le_refl _, Nat.le_refl _⟩ rfl dX11_cuts_58 (fun z_58 h_58 => ?_)
              have h_58 : z_58 = rA u i_2 ∧ -10000000 ≤ z_58 ∧ z_58 ≤ 10000000 := h_58
              exact W.iret SS.1 SS.2.1 hr (fun t0 ht hW => ⟨⟨_, u, rfl, ⟨z_58, rfl, (⟨p0, (by first | exact cs_refl | exact (fun r hr => ⟨if_neg (by omega), if_neg (by omega), if_neg (by omega)⟩))⟩)⟩, by show va_P D.1 j_cl (cW D q u) t0.heap; rw [ht]; first | exact hP | (simp only [sC_id, sX_id, sY_id, sH_id, sT_id, sV_id]; exact hP)⟩, hS.F ht⟩) hS.2.2 dX11_cuts_61 hlk
          · skip
            refine lv_aload_n SS.1 SS.2.1 dX11_cuts_41 rfl (lv_at hl 0 rfl) ?_
            refine j_get SS hG hP (8 + 5 * i_2) (v := .ref (q (9 + 5 * i_2))) (C := RX10) (T := TX10) (N := 3) (cw_shape (by omega)) rfl inX10 0 (by decide) (ref := "GridPolygons$Shape") kw_151 rfl rfl dX11_cuts_42 ?_
            refine j_sRi SS (As := [.ref (q (9 + 5 * i_2))]) (rest := []) (c_X11_segmentsOf l D q u i_2 (by omega)  (show RB 40 u i_2 from (CI_40 p0 (by omega)))) mf_X11_segmentsOf kw_862 hG hP rfl hl.1 ⟨⟨Nat.le_of_ble_eq_true rfl, Nat.le_of_ble_eq_true rfl⟩, Nat.le_of_ble_eq_true rfl, Nat.le_refl _, Nat.le_refl _⟩ rfl dX11_cuts_45 (fun z_45 h_45 => ?_)
            have h_45 : z_45 = (3 * rA u i_2 + rE u i_2).tdiv 2 ∧ -50000000 ≤ z_45 ∧ z_45 ≤ 50000000 := h_45
            exact W.iret SS.1 SS.2.1 hr (fun t0 ht hW => ⟨⟨_, u, rfl, ⟨z_45, rfl, (⟨p0, (by first | exact cs_refl | exact (fun r hr => ⟨if_neg (by omega), if_neg (by omega), if_neg (by omega)⟩))⟩)⟩, by show va_P D.1 j_cl (cW D q u) t0.heap; rw [ht]; first | exact hP | (simp only [sC_id, sX_id, sY_id, sH_id, sT_id, sV_id]; exact hP)⟩, hS.F ht⟩) hS.2.2 dX11_cuts_48 hlk
        · skip
          refine j_bipush SS dX11_cuts_33 (by decide +kernel) ?_
          exact W.iret SS.1 SS.2.1 hr (fun t0 ht hW => ⟨⟨_, u, rfl, ⟨(-2), rfl, (⟨p0, (by first | exact cs_refl | exact (fun r hr => ⟨if_neg (by omega), if_neg (by omega), if_neg (by omega)⟩))⟩)⟩, by show va_P D.1 j_cl (cW D q u) t0.heap; rw [ht]; first | exact hP | (simp only [sC_id, sX_id, sY_id, sH_id, sT_id, sV_id]; exact hP)⟩, hS.F ht⟩) hS.2.2 dX11_cuts_35 hlk
      · skip
        refine j_iconst SS dX11_cuts_19 ?_
        exact W.iret SS.1 SS.2.1 hr (fun t0 ht hW => ⟨⟨_, u, rfl, ⟨(-1), rfl, (⟨p0, (by first | exact cs_refl | exact (fun r hr => ⟨if_neg (by omega), if_neg (by omega), if_neg (by omega)⟩))⟩)⟩, by show va_P D.1 j_cl (cW D q u) t0.heap; rw [ht]; first | exact hP | (simp only [sC_id, sX_id, sY_id, sH_id, sT_id, sV_id]; exact hP)⟩, hS.F ht⟩) hS.2.2 dX11_cuts_20 hlk
  · skip
    refine lv_astore_nN (lv' := [(3, .null), (0, .ref (q 0)), (1, .int (J s)), (2, .int (J what))]) SS.1 SS.2.1 dX11_cuts_5 rfl hl (by decide) rfl (fun ls hl => ?_)
    refine lv_aload_nN SS.1 SS.2.1 dX11_cuts_6 rfl (lv_at hl 0 rfl) ?_
    refine lv_ifnullN SS.1 SS.2.1 (tgt := 19) dX11_cuts_7 (by decide) ?_
    refine j_iconst SS dX11_cuts_19 ?_
    exact W.iret SS.1 SS.2.1 hr (fun t0 ht hW => ⟨⟨_, u, rfl, ⟨(-1), rfl, (⟨p0, (by first | exact cs_refl | exact (fun r hr => ⟨if_neg (by omega), if_neg (by omega), if_neg (by omega)⟩))⟩)⟩, by show va_P D.1 j_cl (cW D q u) t0.heap; rw [ht]; first | exact hP | (simp only [sC_id, sX_id, sY_id, sH_id, sT_id, sV_id]; exact hP)⟩, hS.F ht⟩) hS.2.2 dX11_cuts_20 hlk

set_option maxHeartbeats 4000000 in
set_option maxRecDepth 100000 in
theorem c_X11_cutN (l : Launch) (D : JD) (q : Nat → Nat) (u : CS) (A : Nat → Prop) (hD : va_D A (cW D q u)) (s : Int) (i : Int) (what : Int) (p0 : CI u) (p1 : -2147483648 ≤ s ∧ s ≤ 2147483647) (p2 : -2147483648 ≤ i ∧ i ≤ 2147483647) (p3 : -2147483648 ≤ what ∧ what ≤ 2147483647) : Met l yX11_cut (jw yX11_cut cX11_cut 5 (some .int)) (jr 7 149) (jP [.ref (q 0), .int (J s), .int (J i), .int (J what)] D (fun H => va_P D.1 j_cl (cW D q u) H)) (jWi (fun z u' => CI u' ∧ cSame u u') (fun u' H => va_P D.1 j_cl (cW D q u') H) A) 0 0 A := by
  refine Met.ofW (cc := cX11_cut) (maxL := 5) (ret := (some .int)) (by decide) rfl ?_
  intro pr en st mi args below meth co s₁ B hml hv
  obtain ⟨rfl, hG, hP⟩ := hv
  have hr := B.returns
  have hlk := B.notSynchronized
  have SS : jS pr mi co cX11_cut 5 st _ RX11 := ⟨B.exec, B.bytes, hml, findClass_of_methodNamed B.named, fun w hw => atoms_spec (ws := (jw yX11_cut cX11_cut 5 (some .int))) B.pre w (List.mem_cons_of_mem _ hw)⟩
  have hl := lv_entry ([.ref (q 0), .int (J s), .int (J i), .int (J what)]) (n := 5) (Nat.le_of_ble_eq_true rfl)
  rw [lg_entry_eq]
  generalize (lg_sl ([.ref (q 0), .int (J s), .int (J i), .int (J what)]) ++ List.replicate (5 - (lg_sl ([.ref (q 0), .int (J s), .int (J i), .int (J what)])).length) Slot.unset).toArray = ls at hl ⊢
  have hl : lv_has ls 5 [(0, .ref (q 0)), (1, .int (J s)), (2, .int (J i)), (3, .int (J what))] := hl
  have hS : va_S A st.heap st.heap [] := va_S.rf
  refine lv_aload_n SS.1 SS.2.1 dX11_cut_0 rfl (lv_at hl 0 rfl) ?_
  refine lv_iload_n SS.1 SS.2.1 dX11_cut_1 rfl (lv_at hl 1 rfl) ?_
  refine j_vSh SS (As := [.int (J s)]) (rest := []) (c_X11_shapeAt l D q u  s (show -2147483648 ≤ s ∧ s ≤ 2147483647 from (p1))) mf_X11_shapeAt kw_414 hG hP hP (ci := 11) (q0 := 0) rfl rfl rfl rfl hl.1 ⟨⟨Nat.le_of_ble_eq_true rfl, Nat.le_of_ble_eq_true rfl⟩, Nat.le_of_ble_eq_true rfl, Nat.le_refl _, Nat.le_refl _⟩ rfl dX11_cut_2 (fun i_2 hi_2 hz_2 => ?_) (fun hn_2 => ?_)
  · skip
    have hI2 := CI_s p0 (show i_2 < 8 by omega)
    have hI2c := hI2.1
    have hrl2 := rl_s (show i_2 < 8 by omega)
    refine lv_astore (lv' := [(4, .ref (q (8 + 5 * i_2))), (0, .ref (q 0)), (1, .int (J s)), (2, .int (J i)), (3, .int (J what))]) SS.1 SS.2.1 dX11_cut_5 hl (by decide) rfl (fun ls hl => ?_)
    refine lv_aload SS.1 SS.2.1 dX11_cut_7 (lv_at hl 0 rfl) ?_
    refine lv_ifnull SS.1 SS.2.1 dX11_cut_9 ?_
    refine lv_iload_n SS.1 SS.2.1 dX11_cut_12 rfl (lv_at hl 3 rfl) ?_
    refine j_if_lt SS (tgt := 21) (x := i) dX11_cut_13 (by decide) (by omega) (fun c_13 => ?_) (fun c_13 => ?_)
    · skip
      refine j_iconst SS dX11_cut_21 ?_
      exact W.iret SS.1 SS.2.1 hr (fun t0 ht hW => ⟨⟨_, u, rfl, ⟨(-1), rfl, (⟨p0, (by first | exact cs_refl | exact (fun r hr => ⟨if_neg (by omega), if_neg (by omega), if_neg (by omega)⟩))⟩)⟩, by show va_P D.1 j_cl (cW D q u) t0.heap; rw [ht]; first | exact hP | (simp only [sC_id, sX_id, sY_id, sH_id, sT_id, sV_id]; exact hP)⟩, hS.F ht⟩) hS.2.2 dX11_cut_22 hlk
    · skip
      refine lv_iload_n SS.1 SS.2.1 dX11_cut_16 rfl (lv_at hl 4 rfl) ?_
      refine j_iconst SS dX11_cut_17 ?_
      refine j_icmp_ge SS (tgt := 23) (x := what) (y := (-1)) dX11_cut_18 (by decide) (by omega) (by decide) (fun c_18 => ?_) (fun c_18 => ?_)
      · skip
        refine lv_aload SS.1 SS.2.1 dX11_cut_23 (lv_at hl 0 rfl) ?_
        refine j_get SS hG hP (8 + 5 * i_2) (v := .ref (q (9 + 5 * i_2))) (C := RX10) (T := TX10) (N := 3) (cw_shape (by omega)) rfl inX10 0 (by decide) (ref := "GridPolygons$Shape") kw_151 rfl rfl dX11_cut_25 ?_
        refine j_bipush SS dX11_cut_28 (by decide +kernel) ?_
        refine j_sRi SS (As := [.ref (q (9 + 5 * i_2)), .int (J 12)]) (rest := []) (c_X11_hasAtMost l D q u i_2 (by omega) 12 (show RB 40 u i_2 from (CI_40 p0 (by omega))) (show -2147483648 ≤ (12 : Int) ∧ (12 : Int) ≤ 2147483647 from (by omega))) mf_X11_hasAtMost kw_859 hG hP rfl hl.1 ⟨⟨Nat.le_of_ble_eq_true rfl, Nat.le_of_ble_eq_true rfl⟩, Nat.le_of_ble_eq_true rfl, Nat.le_refl _, Nat.le_refl _⟩ rfl dX11_cut_30 (fun z_30 h_30 => ?_)
        have h_30 : (z_30 = 1 ∧ 3 ≤ (u.1.2.2.1 i_2) ∧ rE u i_2 + rI u i_2 ≤ (12 : Int)) ∨ z_30 = 0 := h_30
        refine j_if_ne SS (tgt := 39) (x := z_30) dX11_cut_33 (by decide) (by omega) (fun c_33 => ?_) (fun c_33 => ?_)
        · skip
          refine lv_iload_n SS.1 SS.2.1 dX11_cut_39 rfl (lv_at hl 4 rfl) ?_
          refine lv_aload SS.1 SS.2.1 dX11_cut_40 (lv_at hl 0 rfl) ?_
          refine j_get SS hG hP (8 + 5 * i_2) (v := .ref (q (9 + 5 * i_2))) (C := RX10) (T := TX10) (N := 3) (cw_shape (by omega)) rfl inX10 0 (by decide) (ref := "GridPolygons$Shape") kw_151 rfl rfl dX11_cut_42 ?_
          refine j_sRi SS (As := [.ref (q (9 + 5 * i_2))]) (rest := [.int (J what)]) (c_X11_segmentsOf l D q u i_2 (by omega)  (show RB 40 u i_2 from (CI_40 p0 (by omega)))) mf_X11_segmentsOf kw_862 hG hP rfl hl.1 ⟨⟨Nat.le_of_ble_eq_true rfl, Nat.le_of_ble_eq_true rfl⟩, Nat.le_of_ble_eq_true rfl, Nat.le_refl _, Nat.le_refl _⟩ rfl dX11_cut_45 (fun z_45 h_45 => ?_)
          have h_45 : z_45 = (3 * rA u i_2 + rE u i_2).tdiv 2 ∧ -50000000 ≤ z_45 ∧ z_45 ≤ 50000000 := h_45
          refine j_icmp_lt SS (tgt := 53) (x := what) (y := z_45) dX11_cut_48 (by decide) (by omega) (by omega) (fun c_48 => ?_) (fun c_48 => ?_)
          · skip
            refine lv_aload_n SS.1 SS.2.1 dX11_cut_53 rfl (lv_at hl 1 rfl) ?_
            refine j_get SS hG hP 0 (v := .ref (q 6)) (C := RX11) (T := TX11) (N := 8) rfl rfl inX11 5 (by decide) (ref := "GridPolygons") kw_390 rfl rfl dX11_cut_54 ?_
            refine lv_aload SS.1 SS.2.1 dX11_cut_57 (lv_at hl 0 rfl) ?_
            refine j_vWi SS (As := [.ref (q (8 + 5 * i_2))]) (rest := []) (c_X2_build l D q u A (cW_D hD) i_2 (by omega)  (show RB 40 u i_2 from (CI_40 p0 (by omega))) (show RB 40 u 9 from (p0.2.1.2.1)) (show ∀ k : Nat, 0 ≤ (u.2.1 2) k ∧ (u.2.1 2) k ≤ 12 from (fun k => (p0.2.2.2.2.2.1.2.2.1 k).1)) (show ∀ k : Nat, 0 ≤ (u.2.1 3) k ∧ (u.2.1 3) k ≤ 12 from (fun k => (p0.2.2.2.2.2.1.2.2.1 k).2)) (show ∀ k : Nat, -1 ≤ (u.2.1 4) k ∧ (u.2.1 4) k ≤ 63 from (p0.2.2.2.2.2.1.2.2.2)) (show 0 ≤ (u.2.2.2 20) ∧ (u.2.2.2 20) ≤ 63 from (p0.2.2.2.2.2.1.1)) (show 0 ≤ (u.2.2.2 21) ∧ (u.2.2.2 21) ≤ 756 from (p0.2.2.2.2.2.1.2.1)) (show 0 ≤ (u.2.2.2 22) ∧ (u.2.2.2 22) ≤ 1500 from (p0.2.2.2.2.2.2.1.1)) (show ∀ k : Nat, 0 ≤ (u.2.1 8) k ∧ (u.2.1 8) k ≤ 1500 from (p0.2.2.2.2.2.2.1.2.2.2)) (show (u.2.2.2 23) = 0 ∨ (u.2.2.2 23) = 1 from (p0.2.2.2.2.2.2.1.2.1)) (show -2147483648 ≤ (u.2.2.2 24) ∧ (u.2.2.2 24) ≤ 2147483647 from (p0.2.2.2.2.2.2.1.2.2.1)) (show -2147483648 ≤ (u.1.2.2.2.2 i_2) ∧ (u.1.2.2.2.2 i_2) ≤ 2147483647 from ((p0.1 i_2 (by omega)).2.2))) mf_X2_build kw_865 hG hP hP (ci := 2) (q0 := 6) rfl rfl rfl hS (fun _ h => h) rfl hl.1 ⟨⟨Nat.le_of_ble_eq_true rfl, Nat.le_of_ble_eq_true rfl⟩, Nat.le_of_ble_eq_true rfl, Nat.le_refl _, Nat.le_refl _⟩ rfl dX11_cut_59 (fun z_59 u59 H locs h_59 hP _ hS => ?_)
            obtain ⟨n_59, f_59, g_59, ls9_59, gr9_59, nu9_59, w3_59, w4_59, w5_59, v20_59, v21_59, st2_59, fa_59, pc9_59, v22_59, sp_59, v24_59, rfl, h_59⟩ := h_59
            have hP : va_P D.1 j_cl (cW D q (sY (sX (sV (sV (sV (sV (sV (sL (sL (sL (sL (sI (sI (sI (sI (sI (sC u 9 n_59) 2 ls9_59) 3 gr9_59) 4 nu9_59) 7 fa_59) 8 pc9_59) 2 st2_59) 3 w3_59) 4 w4_59) 5 w5_59) 20 v20_59) 21 v21_59) 22 v22_59) 23 sp_59) 24 v24_59) 9 f_59) 9 g_59)) H := hP
            have h_59 : (z_59 = 0 ∨ z_59 = 1) ∧ ((0 ≤ n_59 ∧ n_59 ≤ 12) ∧ RV 40 f_59 g_59) ∧ (∀ k : Nat, 0 ≤ ls9_59 k ∧ ls9_59 k ≤ 12) ∧ (∀ k : Nat, 0 ≤ gr9_59 k ∧ gr9_59 k ≤ 12) ∧ (∀ k : Nat, -1 ≤ nu9_59 k ∧ nu9_59 k ≤ 63) ∧ ((0 ≤ v20_59 ∧ v20_59 ≤ 63) ∧ 0 ≤ v21_59 ∧ v21_59 ≤ 756) ∧ ((0 ≤ v22_59 ∧ v22_59 ≤ 1500) ∧ (∀ k : Nat, 0 ≤ pc9_59 k ∧ pc9_59 k ≤ 1500) ∧ (sp_59 = 0 ∨ sp_59 = 1)) ∧ -2147483648 ≤ v24_59 ∧ v24_59 ≤ 2147483647 := h_59
            obtain ⟨hz9, hq9⟩ := h_59
            have hCI : CI (sY (sX (sV (sV (sV (sV (sV (sL (sL (sL (sL (sI (sI (sI (sI (sI (sC u 9 n_59) 2 ls9_59) 3 gr9_59) 4 nu9_59) 7 fa_59) 8 pc9_59) 2 st2_59) 3 w3_59) 4 w4_59) 5 w5_59) 20 v20_59) 21 v21_59) 22 v22_59) 23 sp_59) 24 v24_59) 9 f_59) 9 g_59) := CI_cu p0 hq9
            refine j_if_ne SS (tgt := 68) (x := z_59) dX11_cut_62 (by decide) (by omega) (fun c_62 => ?_) (fun c_62 => ?_)
            · skip
              refine lv_iload_n SS.1 SS.2.1 dX11_cut_68 rfl (lv_at hl 3 rfl) ?_
              refine lv_aload_n SS.1 SS.2.1 dX11_cut_69 rfl (lv_at hl 1 rfl) ?_
              refine j_get SS hG hP 0 (v := .ref (q 6)) (C := RX11) (T := TX11) (N := 8) rfl rfl inX11 5 (by decide) (ref := "GridPolygons") kw_390 rfl rfl dX11_cut_70 ?_
              refine j_get SS hG hP 6 (v := .int (J v22_59)) (C := RX2) (T := TX2) (N := 7) rfl rfl inX2 4 (by decide) (ref := "GridPolygons$Cuts") kw_345 rfl rfl dX11_cut_73 ?_
              refine j_icmp_lt SS (tgt := 81) (x := i) (y := v22_59) dX11_cut_76 (by decide) (by omega) (by omega) (fun c_76 => ?_) (fun c_76 => ?_)
              · skip
                refine lv_iload_n SS.1 SS.2.1 dX11_cut_81 rfl (lv_at hl 4 rfl) ?_
                refine j_iconst SS dX11_cut_82 ?_
                refine j_icmp_ne SS (tgt := 97) (x := what) (y := (-1)) dX11_cut_83 (by decide) (by omega) (by decide) (fun c_83 => ?_) (fun c_83 => ?_)
                · skip
                  refine lv_aload_n SS.1 SS.2.1 dX11_cut_97 rfl (lv_at hl 1 rfl) ?_
                  refine j_get SS hG hP 0 (v := .ref (q 6)) (C := RX11) (T := TX11) (N := 8) rfl rfl inX11 5 (by decide) (ref := "GridPolygons") kw_390 rfl rfl dX11_cut_98 ?_
                  refine lv_iload_n SS.1 SS.2.1 dX11_cut_101 rfl (lv_at hl 3 rfl) ?_
                  refine lv_iload_n SS.1 SS.2.1 dX11_cut_102 rfl (lv_at hl 4 rfl) ?_
                  refine j_vRi SS (As := [.int (J i), .int (J what)]) (rest := []) (c_X2_segmentAt l D q (sY (sX (sV (sV (sV (sV (sV (sL (sL (sL (sL (sI (sI (sI (sI (sI (sC u 9 n_59) 2 ls9_59) 3 gr9_59) 4 nu9_59) 7 fa_59) 8 pc9_59) 2 st2_59) 3 w3_59) 4 w4_59) 5 w5_59) 20 v20_59) 21 v21_59) 22 v22_59) 23 sp_59) 24 v24_59) 9 f_59) 9 g_59)  i what (show -2147483648 ≤ i ∧ i ≤ 2147483647 from (by omega)) (show 0 ≤ what ∧ what ≤ 2147483647 from (by omega)) (show 0 ≤ v20_59 ∧ v20_59 ≤ 63 from (by omega))) mf_X2_segmentAt kw_963 hG hP hP (ci := 2) (q0 := 6) rfl rfl rfl rfl hl.1 ⟨⟨Nat.le_of_ble_eq_true rfl, Nat.le_of_ble_eq_true rfl⟩, Nat.le_of_ble_eq_true rfl, Nat.le_refl _, Nat.le_refl _⟩ rfl dX11_cut_103 (fun z_103 h_103 => ?_)
                  have h_103 : True := h_103
                  exact W.iret SS.1 SS.2.1 hr (fun t0 ht hW => ⟨⟨_, (sY (sX (sV (sV (sV (sV (sV (sL (sL (sL (sL (sI (sI (sI (sI (sI (sC u 9 n_59) 2 ls9_59) 3 gr9_59) 4 nu9_59) 7 fa_59) 8 pc9_59) 2 st2_59) 3 w3_59) 4 w4_59) 5 w5_59) 20 v20_59) 21 v21_59) 22 v22_59) 23 sp_59) 24 v24_59) 9 f_59) 9 g_59), rfl, ⟨z_103, rfl, (⟨hCI, (by first | exact cs_refl | exact (fun r hr => ⟨if_neg (by omega), if_neg (by omega), if_neg (by omega)⟩))⟩)⟩, by show va_P D.1 j_cl (cW D q (sY (sX (sV (sV (sV (sV (sV (sL (sL (sL (sL (sI (sI (sI (sI (sI (sC u 9 n_59) 2 ls9_59) 3 gr9_59) 4 nu9_59) 7 fa_59) 8 pc9_59) 2 st2_59) 3 w3_59) 4 w4_59) 5 w5_59) 20 v20_59) 21 v21_59) 22 v22_59) 23 sp_59) 24 v24_59) 9 f_59) 9 g_59)) t0.heap; rw [ht]; first | exact hP | (simp only [sC_id, sX_id, sY_id, sH_id, sT_id, sV_id]; exact hP)⟩, hS.F ht⟩) hS.2.2 dX11_cut_106 hlk
                · skip
                  refine lv_aload_n SS.1 SS.2.1 dX11_cut_86 rfl (lv_at hl 1 rfl) ?_
                  refine j_get SS hG hP 0 (v := .ref (q 6)) (C := RX11) (T := TX11) (N := 8) rfl rfl inX11 5 (by decide) (ref := "GridPolygons") kw_390 rfl rfl dX11_cut_87 ?_
                  refine lv_iload_n SS.1 SS.2.1 dX11_cut_90 rfl (lv_at hl 3 rfl) ?_
                  refine j_vRi SS (As := [.int (J i)]) (rest := []) (c_X2_farOf l D q (sY (sX (sV (sV (sV (sV (sV (sL (sL (sL (sL (sI (sI (sI (sI (sI (sC u 9 n_59) 2 ls9_59) 3 gr9_59) 4 nu9_59) 7 fa_59) 8 pc9_59) 2 st2_59) 3 w3_59) 4 w4_59) 5 w5_59) 20 v20_59) 21 v21_59) 22 v22_59) 23 sp_59) 24 v24_59) 9 f_59) 9 g_59)  i (show -2147483648 ≤ i ∧ i ≤ 2147483647 from (by omega))) mf_X2_farOf kw_962 hG hP hP (ci := 2) (q0 := 6) rfl rfl rfl rfl hl.1 ⟨⟨Nat.le_of_ble_eq_true rfl, Nat.le_of_ble_eq_true rfl⟩, Nat.le_of_ble_eq_true rfl, Nat.le_refl _, Nat.le_refl _⟩ rfl dX11_cut_91 (fun z_91 h_91 => ?_)
                  have h_91 : True := h_91
                  refine lv_goto (tgt := 106) SS.1 SS.2.1 dX11_cut_94 (by decide) ?_
                  exact W.iret SS.1 SS.2.1 hr (fun t0 ht hW => ⟨⟨_, (sY (sX (sV (sV (sV (sV (sV (sL (sL (sL (sL (sI (sI (sI (sI (sI (sC u 9 n_59) 2 ls9_59) 3 gr9_59) 4 nu9_59) 7 fa_59) 8 pc9_59) 2 st2_59) 3 w3_59) 4 w4_59) 5 w5_59) 20 v20_59) 21 v21_59) 22 v22_59) 23 sp_59) 24 v24_59) 9 f_59) 9 g_59), rfl, ⟨z_91, rfl, (⟨hCI, (by first | exact cs_refl | exact (fun r hr => ⟨if_neg (by omega), if_neg (by omega), if_neg (by omega)⟩))⟩)⟩, by show va_P D.1 j_cl (cW D q (sY (sX (sV (sV (sV (sV (sV (sL (sL (sL (sL (sI (sI (sI (sI (sI (sC u 9 n_59) 2 ls9_59) 3 gr9_59) 4 nu9_59) 7 fa_59) 8 pc9_59) 2 st2_59) 3 w3_59) 4 w4_59) 5 w5_59) 20 v20_59) 21 v21_59) 22 v22_59) 23 sp_59) 24 v24_59) 9 f_59) 9 g_59)) t0.heap; rw [ht]; first | exact hP | (simp only [sC_id, sX_id, sY_id, sH_id, sT_id, sV_id]; exact hP)⟩, hS.F ht⟩) hS.2.2 dX11_cut_106 hlk
              · skip
                refine j_iconst SS dX11_cut_79 ?_
                exact W.iret SS.1 SS.2.1 hr (fun t0 ht hW => ⟨⟨_, (sY (sX (sV (sV (sV (sV (sV (sL (sL (sL (sL (sI (sI (sI (sI (sI (sC u 9 n_59) 2 ls9_59) 3 gr9_59) 4 nu9_59) 7 fa_59) 8 pc9_59) 2 st2_59) 3 w3_59) 4 w4_59) 5 w5_59) 20 v20_59) 21 v21_59) 22 v22_59) 23 sp_59) 24 v24_59) 9 f_59) 9 g_59), rfl, ⟨(-1), rfl, (⟨hCI, (by first | exact cs_refl | exact (fun r hr => ⟨if_neg (by omega), if_neg (by omega), if_neg (by omega)⟩))⟩)⟩, by show va_P D.1 j_cl (cW D q (sY (sX (sV (sV (sV (sV (sV (sL (sL (sL (sL (sI (sI (sI (sI (sI (sC u 9 n_59) 2 ls9_59) 3 gr9_59) 4 nu9_59) 7 fa_59) 8 pc9_59) 2 st2_59) 3 w3_59) 4 w4_59) 5 w5_59) 20 v20_59) 21 v21_59) 22 v22_59) 23 sp_59) 24 v24_59) 9 f_59) 9 g_59)) t0.heap; rw [ht]; first | exact hP | (simp only [sC_id, sX_id, sY_id, sH_id, sT_id, sV_id]; exact hP)⟩, hS.F ht⟩) hS.2.2 dX11_cut_80 hlk
            · skip
              refine j_bipush SS dX11_cut_65 (by decide +kernel) ?_
              exact W.iret SS.1 SS.2.1 hr (fun t0 ht hW => ⟨⟨_, (sY (sX (sV (sV (sV (sV (sV (sL (sL (sL (sL (sI (sI (sI (sI (sI (sC u 9 n_59) 2 ls9_59) 3 gr9_59) 4 nu9_59) 7 fa_59) 8 pc9_59) 2 st2_59) 3 w3_59) 4 w4_59) 5 w5_59) 20 v20_59) 21 v21_59) 22 v22_59) 23 sp_59) 24 v24_59) 9 f_59) 9 g_59), rfl, ⟨(-5), rfl, (⟨hCI, (by first | exact cs_refl | exact (fun r hr => ⟨if_neg (by omega), if_neg (by omega), if_neg (by omega)⟩))⟩)⟩, by show va_P D.1 j_cl (cW D q (sY (sX (sV (sV (sV (sV (sV (sL (sL (sL (sL (sI (sI (sI (sI (sI (sC u 9 n_59) 2 ls9_59) 3 gr9_59) 4 nu9_59) 7 fa_59) 8 pc9_59) 2 st2_59) 3 w3_59) 4 w4_59) 5 w5_59) 20 v20_59) 21 v21_59) 22 v22_59) 23 sp_59) 24 v24_59) 9 f_59) 9 g_59)) t0.heap; rw [ht]; first | exact hP | (simp only [sC_id, sX_id, sY_id, sH_id, sT_id, sV_id]; exact hP)⟩, hS.F ht⟩) hS.2.2 dX11_cut_67 hlk
          · skip
            refine j_iconst SS dX11_cut_51 ?_
            exact W.iret SS.1 SS.2.1 hr (fun t0 ht hW => ⟨⟨_, u, rfl, ⟨(-1), rfl, (⟨p0, (by first | exact cs_refl | exact (fun r hr => ⟨if_neg (by omega), if_neg (by omega), if_neg (by omega)⟩))⟩)⟩, by show va_P D.1 j_cl (cW D q u) t0.heap; rw [ht]; first | exact hP | (simp only [sC_id, sX_id, sY_id, sH_id, sT_id, sV_id]; exact hP)⟩, hS.F ht⟩) hS.2.2 dX11_cut_52 hlk
        · skip
          refine j_bipush SS dX11_cut_36 (by decide +kernel) ?_
          exact W.iret SS.1 SS.2.1 hr (fun t0 ht hW => ⟨⟨_, u, rfl, ⟨(-2), rfl, (⟨p0, (by first | exact cs_refl | exact (fun r hr => ⟨if_neg (by omega), if_neg (by omega), if_neg (by omega)⟩))⟩)⟩, by show va_P D.1 j_cl (cW D q u) t0.heap; rw [ht]; first | exact hP | (simp only [sC_id, sX_id, sY_id, sH_id, sT_id, sV_id]; exact hP)⟩, hS.F ht⟩) hS.2.2 dX11_cut_38 hlk
      · skip
        refine j_iconst SS dX11_cut_21 ?_
        exact W.iret SS.1 SS.2.1 hr (fun t0 ht hW => ⟨⟨_, u, rfl, ⟨(-1), rfl, (⟨p0, (by first | exact cs_refl | exact (fun r hr => ⟨if_neg (by omega), if_neg (by omega), if_neg (by omega)⟩))⟩)⟩, by show va_P D.1 j_cl (cW D q u) t0.heap; rw [ht]; first | exact hP | (simp only [sC_id, sX_id, sY_id, sH_id, sT_id, sV_id]; exact hP)⟩, hS.F ht⟩) hS.2.2 dX11_cut_22 hlk
  · skip
    refine lv_astoreN (lv' := [(4, .null), (0, .ref (q 0)), (1, .int (J s)), (2, .int (J i)), (3, .int (J what))]) SS.1 SS.2.1 dX11_cut_5 hl (by decide) rfl (fun ls hl => ?_)
    refine lv_aloadN SS.1 SS.2.1 dX11_cut_7 (lv_at hl 0 rfl) ?_
    refine lv_ifnullN SS.1 SS.2.1 (tgt := 21) dX11_cut_9 (by decide) ?_
    refine j_iconst SS dX11_cut_21 ?_
    exact W.iret SS.1 SS.2.1 hr (fun t0 ht hW => ⟨⟨_, u, rfl, ⟨(-1), rfl, (⟨p0, (by first | exact cs_refl | exact (fun r hr => ⟨if_neg (by omega), if_neg (by omega), if_neg (by omega)⟩))⟩)⟩, by show va_P D.1 j_cl (cW D q u) t0.heap; rw [ht]; first | exact hP | (simp only [sC_id, sX_id, sY_id, sH_id, sT_id, sV_id]; exact hP)⟩, hS.F ht⟩) hS.2.2 dX11_cut_22 hlk

set_option maxHeartbeats 4000000 in
set_option maxRecDepth 100000 in
theorem c_X11_flipsN (l : Launch) (D : JD) (q : Nat → Nat) (u : CS) (A : Nat → Prop) (hD : va_D A (cW D q u)) (s : Int) (i : Int) (p0 : CI u) (p1 : -2147483648 ≤ s ∧ s ≤ 2147483647) (p2 : -2147483648 ≤ i ∧ i ≤ 2147483647) : Met l yX11_flips (jw yX11_flips cX11_flips 4 (some .int)) (jr 7 149) (jP [.ref (q 0), .int (J s), .int (J i)] D (fun H => va_P D.1 j_cl (cW D q u) H)) (jWi (fun z u' => CI u' ∧ cSame u u') (fun u' H => va_P D.1 j_cl (cW D q u') H) A) 0 0 A := by
  refine Met.ofW (cc := cX11_flips) (maxL := 4) (ret := (some .int)) (by decide) rfl ?_
  intro pr en st mi args below meth co s₁ B hml hv
  obtain ⟨rfl, hG, hP⟩ := hv
  have hr := B.returns
  have hlk := B.notSynchronized
  have SS : jS pr mi co cX11_flips 4 st _ RX11 := ⟨B.exec, B.bytes, hml, findClass_of_methodNamed B.named, fun w hw => atoms_spec (ws := (jw yX11_flips cX11_flips 4 (some .int))) B.pre w (List.mem_cons_of_mem _ hw)⟩
  have hl := lv_entry ([.ref (q 0), .int (J s), .int (J i)]) (n := 4) (Nat.le_of_ble_eq_true rfl)
  rw [lg_entry_eq]
  generalize (lg_sl ([.ref (q 0), .int (J s), .int (J i)]) ++ List.replicate (4 - (lg_sl ([.ref (q 0), .int (J s), .int (J i)])).length) Slot.unset).toArray = ls at hl ⊢
  have hl : lv_has ls 4 [(0, .ref (q 0)), (1, .int (J s)), (2, .int (J i))] := hl
  have hS : va_S A st.heap st.heap [] := va_S.rf
  refine lv_aload_n SS.1 SS.2.1 dX11_flips_0 rfl (lv_at hl 0 rfl) ?_
  refine lv_iload_n SS.1 SS.2.1 dX11_flips_1 rfl (lv_at hl 1 rfl) ?_
  refine j_vSh SS (As := [.int (J s)]) (rest := []) (c_X11_shapeAt l D q u  s (show -2147483648 ≤ s ∧ s ≤ 2147483647 from (p1))) mf_X11_shapeAt kw_414 hG hP hP (ci := 11) (q0 := 0) rfl rfl rfl rfl hl.1 ⟨⟨Nat.le_of_ble_eq_true rfl, Nat.le_of_ble_eq_true rfl⟩, Nat.le_of_ble_eq_true rfl, Nat.le_refl _, Nat.le_refl _⟩ rfl dX11_flips_2 (fun i_2 hi_2 hz_2 => ?_) (fun hn_2 => ?_)
  · skip
    have hI2 := CI_s p0 (show i_2 < 8 by omega)
    have hI2c := hI2.1
    have hrl2 := rl_s (show i_2 < 8 by omega)
    refine lv_astore_n (lv' := [(3, .ref (q (8 + 5 * i_2))), (0, .ref (q 0)), (1, .int (J s)), (2, .int (J i))]) SS.1 SS.2.1 dX11_flips_5 rfl hl (by decide) rfl (fun ls hl => ?_)
    refine lv_aload_n SS.1 SS.2.1 dX11_flips_6 rfl (lv_at hl 0 rfl) ?_
    refine lv_ifnull SS.1 SS.2.1 dX11_flips_7 ?_
    refine lv_iload_n SS.1 SS.2.1 dX11_flips_10 rfl (lv_at hl 3 rfl) ?_
    refine j_if_ge SS (tgt := 16) (x := i) dX11_flips_11 (by decide) (by omega) (fun c_11 => ?_) (fun c_11 => ?_)
    · skip
      refine lv_aload_n SS.1 SS.2.1 dX11_flips_16 rfl (lv_at hl 0 rfl) ?_
      refine j_get SS hG hP (8 + 5 * i_2) (v := .ref (q (9 + 5 * i_2))) (C := RX10) (T := TX10) (N := 3) (cw_shape (by omega)) rfl inX10 0 (by decide) (ref := "GridPolygons$Shape") kw_151 rfl rfl dX11_flips_17 ?_
      refine j_bipush SS dX11_flips_20 (by decide +kernel) ?_
      refine j_sRi SS (As := [.ref (q (9 + 5 * i_2)), .int (J 12)]) (rest := []) (c_X11_hasAtMost l D q u i_2 (by omega) 12 (show RB 40 u i_2 from (CI_40 p0 (by omega))) (show -2147483648 ≤ (12 : Int) ∧ (12 : Int) ≤ 2147483647 from (by omega))) mf_X11_hasAtMost kw_859 hG hP rfl hl.1 ⟨⟨Nat.le_of_ble_eq_true rfl, Nat.le_of_ble_eq_true rfl⟩, Nat.le_of_ble_eq_true rfl, Nat.le_refl _, Nat.le_refl _⟩ rfl dX11_flips_22 (fun z_22 h_22 => ?_)
      have h_22 : (z_22 = 1 ∧ 3 ≤ (u.1.2.2.1 i_2) ∧ rE u i_2 + rI u i_2 ≤ (12 : Int)) ∨ z_22 = 0 := h_22
      refine j_if_ne SS (tgt := 31) (x := z_22) dX11_flips_25 (by decide) (by omega) (fun c_25 => ?_) (fun c_25 => ?_)
      · skip
        refine lv_aload_n SS.1 SS.2.1 dX11_flips_31 rfl (lv_at hl 1 rfl) ?_
        refine j_get SS hG hP 0 (v := .ref (q 6)) (C := RX11) (T := TX11) (N := 8) rfl rfl inX11 5 (by decide) (ref := "GridPolygons") kw_390 rfl rfl dX11_flips_32 ?_
        refine lv_aload_n SS.1 SS.2.1 dX11_flips_35 rfl (lv_at hl 0 rfl) ?_
        refine j_vWi SS (As := [.ref (q (8 + 5 * i_2))]) (rest := []) (c_X2_build l D q u A (cW_D hD) i_2 (by omega)  (show RB 40 u i_2 from (CI_40 p0 (by omega))) (show RB 40 u 9 from (p0.2.1.2.1)) (show ∀ k : Nat, 0 ≤ (u.2.1 2) k ∧ (u.2.1 2) k ≤ 12 from (fun k => (p0.2.2.2.2.2.1.2.2.1 k).1)) (show ∀ k : Nat, 0 ≤ (u.2.1 3) k ∧ (u.2.1 3) k ≤ 12 from (fun k => (p0.2.2.2.2.2.1.2.2.1 k).2)) (show ∀ k : Nat, -1 ≤ (u.2.1 4) k ∧ (u.2.1 4) k ≤ 63 from (p0.2.2.2.2.2.1.2.2.2)) (show 0 ≤ (u.2.2.2 20) ∧ (u.2.2.2 20) ≤ 63 from (p0.2.2.2.2.2.1.1)) (show 0 ≤ (u.2.2.2 21) ∧ (u.2.2.2 21) ≤ 756 from (p0.2.2.2.2.2.1.2.1)) (show 0 ≤ (u.2.2.2 22) ∧ (u.2.2.2 22) ≤ 1500 from (p0.2.2.2.2.2.2.1.1)) (show ∀ k : Nat, 0 ≤ (u.2.1 8) k ∧ (u.2.1 8) k ≤ 1500 from (p0.2.2.2.2.2.2.1.2.2.2)) (show (u.2.2.2 23) = 0 ∨ (u.2.2.2 23) = 1 from (p0.2.2.2.2.2.2.1.2.1)) (show -2147483648 ≤ (u.2.2.2 24) ∧ (u.2.2.2 24) ≤ 2147483647 from (p0.2.2.2.2.2.2.1.2.2.1)) (show -2147483648 ≤ (u.1.2.2.2.2 i_2) ∧ (u.1.2.2.2.2 i_2) ≤ 2147483647 from ((p0.1 i_2 (by omega)).2.2))) mf_X2_build kw_865 hG hP hP (ci := 2) (q0 := 6) rfl rfl rfl hS (fun _ h => h) rfl hl.1 ⟨⟨Nat.le_of_ble_eq_true rfl, Nat.le_of_ble_eq_true rfl⟩, Nat.le_of_ble_eq_true rfl, Nat.le_refl _, Nat.le_refl _⟩ rfl dX11_flips_36 (fun z_36 u36 H locs h_36 hP _ hS => ?_)
        obtain ⟨n_36, f_36, g_36, ls9_36, gr9_36, nu9_36, w3_36, w4_36, w5_36, v20_36, v21_36, st2_36, fa_36, pc9_36, v22_36, sp_36, v24_36, rfl, h_36⟩ := h_36
        have hP : va_P D.1 j_cl (cW D q (sY (sX (sV (sV (sV (sV (sV (sL (sL (sL (sL (sI (sI (sI (sI (sI (sC u 9 n_36) 2 ls9_36) 3 gr9_36) 4 nu9_36) 7 fa_36) 8 pc9_36) 2 st2_36) 3 w3_36) 4 w4_36) 5 w5_36) 20 v20_36) 21 v21_36) 22 v22_36) 23 sp_36) 24 v24_36) 9 f_36) 9 g_36)) H := hP
        have h_36 : (z_36 = 0 ∨ z_36 = 1) ∧ ((0 ≤ n_36 ∧ n_36 ≤ 12) ∧ RV 40 f_36 g_36) ∧ (∀ k : Nat, 0 ≤ ls9_36 k ∧ ls9_36 k ≤ 12) ∧ (∀ k : Nat, 0 ≤ gr9_36 k ∧ gr9_36 k ≤ 12) ∧ (∀ k : Nat, -1 ≤ nu9_36 k ∧ nu9_36 k ≤ 63) ∧ ((0 ≤ v20_36 ∧ v20_36 ≤ 63) ∧ 0 ≤ v21_36 ∧ v21_36 ≤ 756) ∧ ((0 ≤ v22_36 ∧ v22_36 ≤ 1500) ∧ (∀ k : Nat, 0 ≤ pc9_36 k ∧ pc9_36 k ≤ 1500) ∧ (sp_36 = 0 ∨ sp_36 = 1)) ∧ -2147483648 ≤ v24_36 ∧ v24_36 ≤ 2147483647 := h_36
        obtain ⟨hz9, hq9⟩ := h_36
        have hCI : CI (sY (sX (sV (sV (sV (sV (sV (sL (sL (sL (sL (sI (sI (sI (sI (sI (sC u 9 n_36) 2 ls9_36) 3 gr9_36) 4 nu9_36) 7 fa_36) 8 pc9_36) 2 st2_36) 3 w3_36) 4 w4_36) 5 w5_36) 20 v20_36) 21 v21_36) 22 v22_36) 23 sp_36) 24 v24_36) 9 f_36) 9 g_36) := CI_cu p0 hq9
        refine j_if_ne SS (tgt := 45) (x := z_36) dX11_flips_39 (by decide) (by omega) (fun c_39 => ?_) (fun c_39 => ?_)
        · skip
          refine lv_iload_n SS.1 SS.2.1 dX11_flips_45 rfl (lv_at hl 3 rfl) ?_
          refine lv_aload_n SS.1 SS.2.1 dX11_flips_46 rfl (lv_at hl 1 rfl) ?_
          refine j_get SS hG hP 0 (v := .ref (q 6)) (C := RX11) (T := TX11) (N := 8) rfl rfl inX11 5 (by decide) (ref := "GridPolygons") kw_390 rfl rfl dX11_flips_47 ?_
          refine j_get SS hG hP 6 (v := .int (J v22_36)) (C := RX2) (T := TX2) (N := 7) rfl rfl inX2 4 (by decide) (ref := "GridPolygons$Cuts") kw_345 rfl rfl dX11_flips_50 ?_
          refine j_icmp_lt SS (tgt := 60) (x := i) (y := v22_36) dX11_flips_53 (by decide) (by omega) (by omega) (fun c_53 => ?_) (fun c_53 => ?_)
          · skip
            refine lv_aload_n SS.1 SS.2.1 dX11_flips_60 rfl (lv_at hl 1 rfl) ?_
            refine j_get SS hG hP 0 (v := .ref (q 6)) (C := RX11) (T := TX11) (N := 8) rfl rfl inX11 5 (by decide) (ref := "GridPolygons") kw_390 rfl rfl dX11_flips_61 ?_
            refine lv_iload_n SS.1 SS.2.1 dX11_flips_64 rfl (lv_at hl 3 rfl) ?_
            refine j_vRi SS (As := [.int (J i)]) (rest := []) (c_X2_flipsOf l D q (sY (sX (sV (sV (sV (sV (sV (sL (sL (sL (sL (sI (sI (sI (sI (sI (sC u 9 n_36) 2 ls9_36) 3 gr9_36) 4 nu9_36) 7 fa_36) 8 pc9_36) 2 st2_36) 3 w3_36) 4 w4_36) 5 w5_36) 20 v20_36) 21 v21_36) 22 v22_36) 23 sp_36) 24 v24_36) 9 f_36) 9 g_36)  i (show -2147483648 ≤ i ∧ i ≤ 2147483647 from (by omega)) (show 0 ≤ v21_36 ∧ v21_36 ≤ 756 from (by omega))) mf_X2_flipsOf kw_975 hG hP hP (ci := 2) (q0 := 6) rfl rfl rfl rfl hl.1 ⟨⟨Nat.le_of_ble_eq_true rfl, Nat.le_of_ble_eq_true rfl⟩, Nat.le_of_ble_eq_true rfl, Nat.le_refl _, Nat.le_refl _⟩ rfl dX11_flips_65 (fun z_65 h_65 => ?_)
            have h_65 : 0 ≤ z_65 ∧ z_65 ≤ 756 := h_65
            exact W.iret SS.1 SS.2.1 hr (fun t0 ht hW => ⟨⟨_, (sY (sX (sV (sV (sV (sV (sV (sL (sL (sL (sL (sI (sI (sI (sI (sI (sC u 9 n_36) 2 ls9_36) 3 gr9_36) 4 nu9_36) 7 fa_36) 8 pc9_36) 2 st2_36) 3 w3_36) 4 w4_36) 5 w5_36) 20 v20_36) 21 v21_36) 22 v22_36) 23 sp_36) 24 v24_36) 9 f_36) 9 g_36), rfl, ⟨z_65, rfl, (⟨hCI, (by first | exact cs_refl | exact (fun r hr => ⟨if_neg (by omega), if_neg (by omega), if_neg (by omega)⟩))⟩)⟩, by show va_P D.1 j_cl (cW D q (sY (sX (sV (sV (sV (sV (sV (sL (sL (sL (sL (sI (sI (sI (sI (sI (sC u 9 n_36) 2 ls9_36) 3 gr9_36) 4 nu9_36) 7 fa_36) 8 pc9_36) 2 st2_36) 3 w3_36) 4 w4_36) 5 w5_36) 20 v20_36) 21 v21_36) 22 v22_36) 23 sp_36) 24 v24_36) 9 f_36) 9 g_36)) t0.heap; rw [ht]; first | exact hP | (simp only [sC_id, sX_id, sY_id, sH_id, sT_id, sV_id]; exact hP)⟩, hS.F ht⟩) hS.2.2 dX11_flips_68 hlk
          · skip
            refine j_iconst SS dX11_flips_56 ?_
            refine lv_goto (tgt := 68) SS.1 SS.2.1 dX11_flips_57 (by decide) ?_
            exact W.iret SS.1 SS.2.1 hr (fun t0 ht hW => ⟨⟨_, (sY (sX (sV (sV (sV (sV (sV (sL (sL (sL (sL (sI (sI (sI (sI (sI (sC u 9 n_36) 2 ls9_36) 3 gr9_36) 4 nu9_36) 7 fa_36) 8 pc9_36) 2 st2_36) 3 w3_36) 4 w4_36) 5 w5_36) 20 v20_36) 21 v21_36) 22 v22_36) 23 sp_36) 24 v24_36) 9 f_36) 9 g_36), rfl, ⟨(-1), rfl, (⟨hCI, (by first | exact cs_refl | exact (fun r hr => ⟨if_neg (by omega), if_neg (by omega), if_neg (by omega)⟩))⟩)⟩, by show va_P D.1 j_cl (cW D q (sY (sX (sV (sV (sV (sV (sV (sL (sL (sL (sL (sI (sI (sI (sI (sI (sC u 9 n_36) 2 ls9_36) 3 gr9_36) 4 nu9_36) 7 fa_36) 8 pc9_36) 2 st2_36) 3 w3_36) 4 w4_36) 5 w5_36) 20 v20_36) 21 v21_36) 22 v22_36) 23 sp_36) 24 v24_36) 9 f_36) 9 g_36)) t0.heap; rw [ht]; first | exact hP | (simp only [sC_id, sX_id, sY_id, sH_id, sT_id, sV_id]; exact hP)⟩, hS.F ht⟩) hS.2.2 dX11_flips_68 hlk
        · skip
          refine j_bipush SS dX11_flips_42 (by decide +kernel) ?_
          exact W.iret SS.1 SS.2.1 hr (fun t0 ht hW => ⟨⟨_, (sY (sX (sV (sV (sV (sV (sV (sL (sL (sL (sL (sI (sI (sI (sI (sI (sC u 9 n_36) 2 ls9_36) 3 gr9_36) 4 nu9_36) 7 fa_36) 8 pc9_36) 2 st2_36) 3 w3_36) 4 w4_36) 5 w5_36) 20 v20_36) 21 v21_36) 22 v22_36) 23 sp_36) 24 v24_36) 9 f_36) 9 g_36), rfl, ⟨(-5), rfl, (⟨hCI, (by first | exact cs_refl | exact (fun r hr => ⟨if_neg (by omega), if_neg (by omega), if_neg (by omega)⟩))⟩)⟩, by show va_P D.1 j_cl (cW D q (sY (sX (sV (sV (sV (sV (sV (sL (sL (sL (sL (sI (sI (sI (sI (sI (sC u 9 n_36) 2 ls9_36) 3 gr9_36) 4 nu9_36) 7 fa_36) 8 pc9_36) 2 st2_36) 3 w3_36) 4 w4_36) 5 w5_36) 20 v20_36) 21 v21_36) 22 v22_36) 23 sp_36) 24 v24_36) 9 f_36) 9 g_36)) t0.heap; rw [ht]; first | exact hP | (simp only [sC_id, sX_id, sY_id, sH_id, sT_id, sV_id]; exact hP)⟩, hS.F ht⟩) hS.2.2 dX11_flips_44 hlk
      · skip
        refine j_bipush SS dX11_flips_28 (by decide +kernel) ?_
        exact W.iret SS.1 SS.2.1 hr (fun t0 ht hW => ⟨⟨_, u, rfl, ⟨(-2), rfl, (⟨p0, (by first | exact cs_refl | exact (fun r hr => ⟨if_neg (by omega), if_neg (by omega), if_neg (by omega)⟩))⟩)⟩, by show va_P D.1 j_cl (cW D q u) t0.heap; rw [ht]; first | exact hP | (simp only [sC_id, sX_id, sY_id, sH_id, sT_id, sV_id]; exact hP)⟩, hS.F ht⟩) hS.2.2 dX11_flips_30 hlk
    · skip
      refine j_iconst SS dX11_flips_14 ?_
      exact W.iret SS.1 SS.2.1 hr (fun t0 ht hW => ⟨⟨_, u, rfl, ⟨(-1), rfl, (⟨p0, (by first | exact cs_refl | exact (fun r hr => ⟨if_neg (by omega), if_neg (by omega), if_neg (by omega)⟩))⟩)⟩, by show va_P D.1 j_cl (cW D q u) t0.heap; rw [ht]; first | exact hP | (simp only [sC_id, sX_id, sY_id, sH_id, sT_id, sV_id]; exact hP)⟩, hS.F ht⟩) hS.2.2 dX11_flips_15 hlk
  · skip
    refine lv_astore_nN (lv' := [(3, .null), (0, .ref (q 0)), (1, .int (J s)), (2, .int (J i))]) SS.1 SS.2.1 dX11_flips_5 rfl hl (by decide) rfl (fun ls hl => ?_)
    refine lv_aload_nN SS.1 SS.2.1 dX11_flips_6 rfl (lv_at hl 0 rfl) ?_
    refine lv_ifnullN SS.1 SS.2.1 (tgt := 14) dX11_flips_7 (by decide) ?_
    refine j_iconst SS dX11_flips_14 ?_
    exact W.iret SS.1 SS.2.1 hr (fun t0 ht hW => ⟨⟨_, u, rfl, ⟨(-1), rfl, (⟨p0, (by first | exact cs_refl | exact (fun r hr => ⟨if_neg (by omega), if_neg (by omega), if_neg (by omega)⟩))⟩)⟩, by show va_P D.1 j_cl (cW D q u) t0.heap; rw [ht]; first | exact hP | (simp only [sC_id, sX_id, sY_id, sH_id, sT_id, sV_id]; exact hP)⟩, hS.F ht⟩) hS.2.2 dX11_flips_15 hlk

set_option maxHeartbeats 4000000 in
set_option maxRecDepth 100000 in
theorem c_X11_piecesN (l : Launch) (D : JD) (q : Nat → Nat) (u : CS) (A : Nat → Prop) (hD : va_D A (cW D q u)) (s : Int) (what : Int) (p0 : CI u) (p1 : -2147483648 ≤ s ∧ s ≤ 2147483647) (p2 : -2147483648 ≤ what ∧ what ≤ 2147483647) : Met l yX11_pieces (jw yX11_pieces cX11_pieces 4 (some .int)) (jr 7 149) (jP [.ref (q 0), .int (J s), .int (J what)] D (fun H => va_P D.1 j_cl (cW D q u) H)) (jWi (fun z u' => CI u' ∧ cSame u u') (fun u' H => va_P D.1 j_cl (cW D q u') H) A) 0 0 A := by
  refine Met.ofW (cc := cX11_pieces) (maxL := 4) (ret := (some .int)) (by decide) rfl ?_
  intro pr en st mi args below meth co s₁ B hml hv
  obtain ⟨rfl, hG, hP⟩ := hv
  have hr := B.returns
  have hlk := B.notSynchronized
  have SS : jS pr mi co cX11_pieces 4 st _ RX11 := ⟨B.exec, B.bytes, hml, findClass_of_methodNamed B.named, fun w hw => atoms_spec (ws := (jw yX11_pieces cX11_pieces 4 (some .int))) B.pre w (List.mem_cons_of_mem _ hw)⟩
  have hl := lv_entry ([.ref (q 0), .int (J s), .int (J what)]) (n := 4) (Nat.le_of_ble_eq_true rfl)
  rw [lg_entry_eq]
  generalize (lg_sl ([.ref (q 0), .int (J s), .int (J what)]) ++ List.replicate (4 - (lg_sl ([.ref (q 0), .int (J s), .int (J what)])).length) Slot.unset).toArray = ls at hl ⊢
  have hl : lv_has ls 4 [(0, .ref (q 0)), (1, .int (J s)), (2, .int (J what))] := hl
  have hS : va_S A st.heap st.heap [] := va_S.rf
  refine lv_aload_n SS.1 SS.2.1 dX11_pieces_0 rfl (lv_at hl 0 rfl) ?_
  refine lv_iload_n SS.1 SS.2.1 dX11_pieces_1 rfl (lv_at hl 1 rfl) ?_
  refine j_vSh SS (As := [.int (J s)]) (rest := []) (c_X11_shapeAt l D q u  s (show -2147483648 ≤ s ∧ s ≤ 2147483647 from (p1))) mf_X11_shapeAt kw_414 hG hP hP (ci := 11) (q0 := 0) rfl rfl rfl rfl hl.1 ⟨⟨Nat.le_of_ble_eq_true rfl, Nat.le_of_ble_eq_true rfl⟩, Nat.le_of_ble_eq_true rfl, Nat.le_refl _, Nat.le_refl _⟩ rfl dX11_pieces_2 (fun i_2 hi_2 hz_2 => ?_) (fun hn_2 => ?_)
  · skip
    have hI2 := CI_s p0 (show i_2 < 8 by omega)
    have hI2c := hI2.1
    have hrl2 := rl_s (show i_2 < 8 by omega)
    refine lv_astore_n (lv' := [(3, .ref (q (8 + 5 * i_2))), (0, .ref (q 0)), (1, .int (J s)), (2, .int (J what))]) SS.1 SS.2.1 dX11_pieces_5 rfl hl (by decide) rfl (fun ls hl => ?_)
    refine lv_aload_n SS.1 SS.2.1 dX11_pieces_6 rfl (lv_at hl 0 rfl) ?_
    refine lv_ifnull SS.1 SS.2.1 dX11_pieces_7 ?_
    refine lv_iload_n SS.1 SS.2.1 dX11_pieces_10 rfl (lv_at hl 3 rfl) ?_
    refine j_if_lt SS (tgt := 19) (x := what) dX11_pieces_11 (by decide) (by omega) (fun c_11 => ?_) (fun c_11 => ?_)
    · skip
      refine j_iconst SS dX11_pieces_19 ?_
      exact W.iret SS.1 SS.2.1 hr (fun t0 ht hW => ⟨⟨_, u, rfl, ⟨(-1), rfl, (⟨p0, (by first | exact cs_refl | exact (fun r hr => ⟨if_neg (by omega), if_neg (by omega), if_neg (by omega)⟩))⟩)⟩, by show va_P D.1 j_cl (cW D q u) t0.heap; rw [ht]; first | exact hP | (simp only [sC_id, sX_id, sY_id, sH_id, sT_id, sV_id]; exact hP)⟩, hS.F ht⟩) hS.2.2 dX11_pieces_20 hlk
    · skip
      refine lv_iload_n SS.1 SS.2.1 dX11_pieces_14 rfl (lv_at hl 3 rfl) ?_
      refine j_iconst SS dX11_pieces_15 ?_
      refine j_icmp_le SS (tgt := 21) (x := what) (y := 2) dX11_pieces_16 (by decide) (by omega) (by decide) (fun c_16 => ?_) (fun c_16 => ?_)
      · skip
        refine lv_aload_n SS.1 SS.2.1 dX11_pieces_21 rfl (lv_at hl 0 rfl) ?_
        refine j_get SS hG hP (8 + 5 * i_2) (v := .ref (q (9 + 5 * i_2))) (C := RX10) (T := TX10) (N := 3) (cw_shape (by omega)) rfl inX10 0 (by decide) (ref := "GridPolygons$Shape") kw_151 rfl rfl dX11_pieces_22 ?_
        refine j_bipush SS dX11_pieces_25 (by decide +kernel) ?_
        refine j_sRi SS (As := [.ref (q (9 + 5 * i_2)), .int (J 40)]) (rest := []) (c_X11_hasAtMost l D q u i_2 (by omega) 40 (show RB 40 u i_2 from (CI_40 p0 (by omega))) (show -2147483648 ≤ (40 : Int) ∧ (40 : Int) ≤ 2147483647 from (by omega))) mf_X11_hasAtMost kw_859 hG hP rfl hl.1 ⟨⟨Nat.le_of_ble_eq_true rfl, Nat.le_of_ble_eq_true rfl⟩, Nat.le_of_ble_eq_true rfl, Nat.le_refl _, Nat.le_refl _⟩ rfl dX11_pieces_27 (fun z_27 h_27 => ?_)
        have h_27 : (z_27 = 1 ∧ 3 ≤ (u.1.2.2.1 i_2) ∧ rE u i_2 + rI u i_2 ≤ (40 : Int)) ∨ z_27 = 0 := h_27
        refine j_if_ne SS (tgt := 36) (x := z_27) dX11_pieces_30 (by decide) (by omega) (fun c_30 => ?_) (fun c_30 => ?_)
        · skip
          refine lv_aload_n SS.1 SS.2.1 dX11_pieces_36 rfl (lv_at hl 1 rfl) ?_
          refine j_get SS hG hP 0 (v := .ref (q 7)) (C := RX11) (T := TX11) (N := 8) rfl rfl inX11 6 (by decide) (ref := "GridPolygons") kw_391 rfl rfl dX11_pieces_37 ?_
          refine lv_aload_n SS.1 SS.2.1 dX11_pieces_40 rfl (lv_at hl 0 rfl) ?_
          refine j_vWv SS (As := [.ref (q (8 + 5 * i_2))]) (rest := []) (c_X1_build l D q u A (cW_D hD) i_2 (by omega)  (show RB 40 u i_2 from (CI_40 p0 (by omega))) (show RB 40 u 10 from (p0.2.1.2.2)) (show HB ((u.1.2.2.2.1 i_2)) from ((p0.1 i_2 (by omega)).2.1)) (show 0 ≤ (u.2.2.2 25) ∧ (u.2.2.2 25) ≤ 80 from (p0.2.2.2.2.2.2.2.1)) (show -2147483648 ≤ (u.2.2.2 26) ∧ (u.2.2.2 26) ≤ 2147483647 from (p0.2.2.2.2.2.2.2.2)) (show -2147483648 ≤ (u.1.2.2.2.2 i_2) ∧ (u.1.2.2.2.2 i_2) ≤ 2147483647 from ((p0.1 i_2 (by omega)).2.2))) mf_X1_build kw_987 hG hP hP (ci := 1) (q0 := 7) rfl rfl rfl hS (fun _ h => h) rfl hl.1 ⟨⟨Nat.le_of_ble_eq_true rfl, Nat.le_of_ble_eq_true rfl⟩, Nat.le_of_ble_eq_true rfl, Nat.le_refl _, Nat.le_refl _⟩ rfl dX11_pieces_41 (fun u41 H locs h_41 hP _ hS => ?_)
          obtain ⟨n_41, f_41, g_41, se_41, v25_41, v26_41, rfl, h_41⟩ := h_41
          have hP : va_P D.1 j_cl (cW D q (sY (sX (sV (sV (sL (sC u 10 n_41) 6 se_41) 25 v25_41) 26 v26_41) 10 f_41) 10 g_41)) H := hP
          have h_41 : ((0 ≤ n_41 ∧ n_41 ≤ 40) ∧ RV 40 f_41 g_41) ∧ (0 ≤ v25_41 ∧ v25_41 ≤ 80) ∧ -2147483648 ≤ v26_41 ∧ v26_41 ≤ 2147483647 := h_41
          have hCI : CI (sY (sX (sV (sV (sL (sC u 10 n_41) 6 se_41) 25 v25_41) 26 v26_41) 10 f_41) 10 g_41) := CI_co p0 h_41
          have hR10 := hCI.2.1.2.2
          refine lv_iload_n SS.1 SS.2.1 dX11_pieces_44 rfl (lv_at hl 3 rfl) ?_
          refine j_if_ne SS (tgt := 56) (x := what) dX11_pieces_45 (by decide) (by omega) (fun c_45 => ?_) (fun c_45 => ?_)
          · skip
            refine lv_iload_n SS.1 SS.2.1 dX11_pieces_56 rfl (lv_at hl 3 rfl) ?_
            refine j_iconst SS dX11_pieces_57 ?_
            refine j_icmp_ne SS (tgt := 71) (x := what) (y := 1) dX11_pieces_58 (by decide) (by omega) (by decide) (fun c_58 => ?_) (fun c_58 => ?_)
            · skip
              refine lv_aload_n SS.1 SS.2.1 dX11_pieces_71 rfl (lv_at hl 1 rfl) ?_
              refine j_get SS hG hP 0 (v := .ref (q 7)) (C := RX11) (T := TX11) (N := 8) rfl rfl inX11 6 (by decide) (ref := "GridPolygons") kw_391 rfl rfl dX11_pieces_72 ?_
              refine j_vRi SS (As := []) (rest := []) (c_X1_unitTriangles l D q (sY (sX (sV (sV (sL (sC u 10 n_41) 6 se_41) 25 v25_41) 26 v26_41) 10 f_41) 10 g_41)   (show RB 40 (sY (sX (sV (sV (sL (sC u 10 n_41) 6 se_41) 25 v25_41) 26 v26_41) 10 f_41) 10 g_41) 10 from (hR10)) (show 0 ≤ v25_41 ∧ v25_41 ≤ 80 from (by omega))) mf_X1_unitTriangles kw_1032 hG hP hP (ci := 1) (q0 := 7) rfl rfl rfl rfl hl.1 ⟨⟨Nat.le_of_ble_eq_true rfl, Nat.le_of_ble_eq_true rfl⟩, Nat.le_of_ble_eq_true rfl, Nat.le_refl _, Nat.le_refl _⟩ rfl dX11_pieces_75 (fun z_75 h_75 => ?_)
              have h_75 : True := h_75
              exact W.iret SS.1 SS.2.1 hr (fun t0 ht hW => ⟨⟨_, (sY (sX (sV (sV (sL (sC u 10 n_41) 6 se_41) 25 v25_41) 26 v26_41) 10 f_41) 10 g_41), rfl, ⟨z_75, rfl, (⟨hCI, (by first | exact cs_refl | exact (fun r hr => ⟨if_neg (by omega), if_neg (by omega), if_neg (by omega)⟩))⟩)⟩, by show va_P D.1 j_cl (cW D q (sY (sX (sV (sV (sL (sC u 10 n_41) 6 se_41) 25 v25_41) 26 v26_41) 10 f_41) 10 g_41)) t0.heap; rw [ht]; first | exact hP | (simp only [sC_id, sX_id, sY_id, sH_id, sT_id, sV_id]; exact hP)⟩, hS.F ht⟩) hS.2.2 dX11_pieces_78 hlk
            · skip
              refine lv_aload_n SS.1 SS.2.1 dX11_pieces_61 rfl (lv_at hl 1 rfl) ?_
              refine j_get SS hG hP 0 (v := .ref (q 7)) (C := RX11) (T := TX11) (N := 8) rfl rfl inX11 6 (by decide) (ref := "GridPolygons") kw_391 rfl rfl dX11_pieces_62 ?_
              refine j_vRi SS (As := []) (rest := []) (c_X1_seen l D q (sY (sX (sV (sV (sL (sC u 10 n_41) 6 se_41) 25 v25_41) 26 v26_41) 10 f_41) 10 g_41)   (show 0 ≤ v25_41 ∧ v25_41 ≤ 80 from (by omega))) mf_X1_seen kw_1022 hG hP hP (ci := 1) (q0 := 7) rfl rfl rfl rfl hl.1 ⟨⟨Nat.le_of_ble_eq_true rfl, Nat.le_of_ble_eq_true rfl⟩, Nat.le_of_ble_eq_true rfl, Nat.le_refl _, Nat.le_refl _⟩ rfl dX11_pieces_65 (fun z_65 h_65 => ?_)
              have h_65 : True := h_65
              refine lv_goto (tgt := 78) SS.1 SS.2.1 dX11_pieces_68 (by decide) ?_
              exact W.iret SS.1 SS.2.1 hr (fun t0 ht hW => ⟨⟨_, (sY (sX (sV (sV (sL (sC u 10 n_41) 6 se_41) 25 v25_41) 26 v26_41) 10 f_41) 10 g_41), rfl, ⟨z_65, rfl, (⟨hCI, (by first | exact cs_refl | exact (fun r hr => ⟨if_neg (by omega), if_neg (by omega), if_neg (by omega)⟩))⟩)⟩, by show va_P D.1 j_cl (cW D q (sY (sX (sV (sV (sL (sC u 10 n_41) 6 se_41) 25 v25_41) 26 v26_41) 10 f_41) 10 g_41)) t0.heap; rw [ht]; first | exact hP | (simp only [sC_id, sX_id, sY_id, sH_id, sT_id, sV_id]; exact hP)⟩, hS.F ht⟩) hS.2.2 dX11_pieces_78 hlk
          · skip
            refine lv_aload_n SS.1 SS.2.1 dX11_pieces_48 rfl (lv_at hl 1 rfl) ?_
            refine j_get SS hG hP 0 (v := .ref (q 7)) (C := RX11) (T := TX11) (N := 8) rfl rfl inX11 6 (by decide) (ref := "GridPolygons") kw_391 rfl rfl dX11_pieces_49 ?_
            refine j_get SS hG hP 7 (v := .int (J v25_41)) (C := RX1) (T := TX1) (N := 4) rfl rfl inX1 2 (by decide) (ref := "GridPolygons$Coarse") kw_374 rfl rfl dX11_pieces_52 ?_
            exact W.iret SS.1 SS.2.1 hr (fun t0 ht hW => ⟨⟨_, (sY (sX (sV (sV (sL (sC u 10 n_41) 6 se_41) 25 v25_41) 26 v26_41) 10 f_41) 10 g_41), rfl, ⟨v25_41, rfl, (⟨hCI, (by first | exact cs_refl | exact (fun r hr => ⟨if_neg (by omega), if_neg (by omega), if_neg (by omega)⟩))⟩)⟩, by show va_P D.1 j_cl (cW D q (sY (sX (sV (sV (sL (sC u 10 n_41) 6 se_41) 25 v25_41) 26 v26_41) 10 f_41) 10 g_41)) t0.heap; rw [ht]; first | exact hP | (simp only [sC_id, sX_id, sY_id, sH_id, sT_id, sV_id]; exact hP)⟩, hS.F ht⟩) hS.2.2 dX11_pieces_55 hlk
        · skip
          refine j_bipush SS dX11_pieces_33 (by decide +kernel) ?_
          exact W.iret SS.1 SS.2.1 hr (fun t0 ht hW => ⟨⟨_, u, rfl, ⟨(-2), rfl, (⟨p0, (by first | exact cs_refl | exact (fun r hr => ⟨if_neg (by omega), if_neg (by omega), if_neg (by omega)⟩))⟩)⟩, by show va_P D.1 j_cl (cW D q u) t0.heap; rw [ht]; first | exact hP | (simp only [sC_id, sX_id, sY_id, sH_id, sT_id, sV_id]; exact hP)⟩, hS.F ht⟩) hS.2.2 dX11_pieces_35 hlk
      · skip
        refine j_iconst SS dX11_pieces_19 ?_
        exact W.iret SS.1 SS.2.1 hr (fun t0 ht hW => ⟨⟨_, u, rfl, ⟨(-1), rfl, (⟨p0, (by first | exact cs_refl | exact (fun r hr => ⟨if_neg (by omega), if_neg (by omega), if_neg (by omega)⟩))⟩)⟩, by show va_P D.1 j_cl (cW D q u) t0.heap; rw [ht]; first | exact hP | (simp only [sC_id, sX_id, sY_id, sH_id, sT_id, sV_id]; exact hP)⟩, hS.F ht⟩) hS.2.2 dX11_pieces_20 hlk
  · skip
    refine lv_astore_nN (lv' := [(3, .null), (0, .ref (q 0)), (1, .int (J s)), (2, .int (J what))]) SS.1 SS.2.1 dX11_pieces_5 rfl hl (by decide) rfl (fun ls hl => ?_)
    refine lv_aload_nN SS.1 SS.2.1 dX11_pieces_6 rfl (lv_at hl 0 rfl) ?_
    refine lv_ifnullN SS.1 SS.2.1 (tgt := 19) dX11_pieces_7 (by decide) ?_
    refine j_iconst SS dX11_pieces_19 ?_
    exact W.iret SS.1 SS.2.1 hr (fun t0 ht hW => ⟨⟨_, u, rfl, ⟨(-1), rfl, (⟨p0, (by first | exact cs_refl | exact (fun r hr => ⟨if_neg (by omega), if_neg (by omega), if_neg (by omega)⟩))⟩)⟩, by show va_P D.1 j_cl (cW D q u) t0.heap; rw [ht]; first | exact hP | (simp only [sC_id, sX_id, sY_id, sH_id, sT_id, sV_id]; exact hP)⟩, hS.F ht⟩) hS.2.2 dX11_pieces_20 hlk

set_option maxHeartbeats 4000000 in
set_option maxRecDepth 100000 in
theorem c_X11_pieceN (l : Launch) (D : JD) (q : Nat → Nat) (u : CS) (A : Nat → Prop) (hD : va_D A (cW D q u)) (s : Int) (pc9 : Int) (i : Int) (p0 : CI u) (p1 : -2147483648 ≤ s ∧ s ≤ 2147483647) (p2 : -2147483648 ≤ pc9 ∧ pc9 ≤ 2147483647) (p3 : -2147483648 ≤ i ∧ i ≤ 2147483647) : Met l yX11_piece (jw yX11_piece cX11_piece 5 (some .int)) (jr 7 149) (jP [.ref (q 0), .int (J s), .int (J pc9), .int (J i)] D (fun H => va_P D.1 j_cl (cW D q u) H)) (jWi (fun z u' => CI u' ∧ cSame u u') (fun u' H => va_P D.1 j_cl (cW D q u') H) A) 0 0 A := by
  refine Met.ofW (cc := cX11_piece) (maxL := 5) (ret := (some .int)) (by decide) rfl ?_
  intro pr en st mi args below meth co s₁ B hml hv
  obtain ⟨rfl, hG, hP⟩ := hv
  have hr := B.returns
  have hlk := B.notSynchronized
  have SS : jS pr mi co cX11_piece 5 st _ RX11 := ⟨B.exec, B.bytes, hml, findClass_of_methodNamed B.named, fun w hw => atoms_spec (ws := (jw yX11_piece cX11_piece 5 (some .int))) B.pre w (List.mem_cons_of_mem _ hw)⟩
  have hl := lv_entry ([.ref (q 0), .int (J s), .int (J pc9), .int (J i)]) (n := 5) (Nat.le_of_ble_eq_true rfl)
  rw [lg_entry_eq]
  generalize (lg_sl ([.ref (q 0), .int (J s), .int (J pc9), .int (J i)]) ++ List.replicate (5 - (lg_sl ([.ref (q 0), .int (J s), .int (J pc9), .int (J i)])).length) Slot.unset).toArray = ls at hl ⊢
  have hl : lv_has ls 5 [(0, .ref (q 0)), (1, .int (J s)), (2, .int (J pc9)), (3, .int (J i))] := hl
  have hS : va_S A st.heap st.heap [] := va_S.rf
  refine lv_aload_n SS.1 SS.2.1 dX11_piece_0 rfl (lv_at hl 0 rfl) ?_
  refine lv_iload_n SS.1 SS.2.1 dX11_piece_1 rfl (lv_at hl 1 rfl) ?_
  refine j_vSh SS (As := [.int (J s)]) (rest := []) (c_X11_shapeAt l D q u  s (show -2147483648 ≤ s ∧ s ≤ 2147483647 from (p1))) mf_X11_shapeAt kw_414 hG hP hP (ci := 11) (q0 := 0) rfl rfl rfl rfl hl.1 ⟨⟨Nat.le_of_ble_eq_true rfl, Nat.le_of_ble_eq_true rfl⟩, Nat.le_of_ble_eq_true rfl, Nat.le_refl _, Nat.le_refl _⟩ rfl dX11_piece_2 (fun i_2 hi_2 hz_2 => ?_) (fun hn_2 => ?_)
  · skip
    have hI2 := CI_s p0 (show i_2 < 8 by omega)
    have hI2c := hI2.1
    have hrl2 := rl_s (show i_2 < 8 by omega)
    refine lv_astore (lv' := [(4, .ref (q (8 + 5 * i_2))), (0, .ref (q 0)), (1, .int (J s)), (2, .int (J pc9)), (3, .int (J i))]) SS.1 SS.2.1 dX11_piece_5 hl (by decide) rfl (fun ls hl => ?_)
    refine lv_aload SS.1 SS.2.1 dX11_piece_7 (lv_at hl 0 rfl) ?_
    refine lv_ifnull SS.1 SS.2.1 dX11_piece_9 ?_
    refine lv_iload_n SS.1 SS.2.1 dX11_piece_12 rfl (lv_at hl 3 rfl) ?_
    refine j_if_lt SS (tgt := 21) (x := pc9) dX11_piece_13 (by decide) (by omega) (fun c_13 => ?_) (fun c_13 => ?_)
    · skip
      refine j_iconst SS dX11_piece_21 ?_
      exact W.iret SS.1 SS.2.1 hr (fun t0 ht hW => ⟨⟨_, u, rfl, ⟨(-1), rfl, (⟨p0, (by first | exact cs_refl | exact (fun r hr => ⟨if_neg (by omega), if_neg (by omega), if_neg (by omega)⟩))⟩)⟩, by show va_P D.1 j_cl (cW D q u) t0.heap; rw [ht]; first | exact hP | (simp only [sC_id, sX_id, sY_id, sH_id, sT_id, sV_id]; exact hP)⟩, hS.F ht⟩) hS.2.2 dX11_piece_22 hlk
    · skip
      refine lv_iload_n SS.1 SS.2.1 dX11_piece_16 rfl (lv_at hl 4 rfl) ?_
      refine j_iconst SS dX11_piece_17 ?_
      refine j_icmp_ge SS (tgt := 23) (x := i) (y := (-1)) dX11_piece_18 (by decide) (by omega) (by decide) (fun c_18 => ?_) (fun c_18 => ?_)
      · skip
        refine lv_aload SS.1 SS.2.1 dX11_piece_23 (lv_at hl 0 rfl) ?_
        refine j_get SS hG hP (8 + 5 * i_2) (v := .ref (q (9 + 5 * i_2))) (C := RX10) (T := TX10) (N := 3) (cw_shape (by omega)) rfl inX10 0 (by decide) (ref := "GridPolygons$Shape") kw_151 rfl rfl dX11_piece_25 ?_
        refine j_bipush SS dX11_piece_28 (by decide +kernel) ?_
        refine j_sRi SS (As := [.ref (q (9 + 5 * i_2)), .int (J 40)]) (rest := []) (c_X11_hasAtMost l D q u i_2 (by omega) 40 (show RB 40 u i_2 from (CI_40 p0 (by omega))) (show -2147483648 ≤ (40 : Int) ∧ (40 : Int) ≤ 2147483647 from (by omega))) mf_X11_hasAtMost kw_859 hG hP rfl hl.1 ⟨⟨Nat.le_of_ble_eq_true rfl, Nat.le_of_ble_eq_true rfl⟩, Nat.le_of_ble_eq_true rfl, Nat.le_refl _, Nat.le_refl _⟩ rfl dX11_piece_30 (fun z_30 h_30 => ?_)
        have h_30 : (z_30 = 1 ∧ 3 ≤ (u.1.2.2.1 i_2) ∧ rE u i_2 + rI u i_2 ≤ (40 : Int)) ∨ z_30 = 0 := h_30
        refine j_if_ne SS (tgt := 39) (x := z_30) dX11_piece_33 (by decide) (by omega) (fun c_33 => ?_) (fun c_33 => ?_)
        · skip
          refine lv_aload_n SS.1 SS.2.1 dX11_piece_39 rfl (lv_at hl 1 rfl) ?_
          refine j_get SS hG hP 0 (v := .ref (q 7)) (C := RX11) (T := TX11) (N := 8) rfl rfl inX11 6 (by decide) (ref := "GridPolygons") kw_391 rfl rfl dX11_piece_40 ?_
          refine lv_aload SS.1 SS.2.1 dX11_piece_43 (lv_at hl 0 rfl) ?_
          refine j_vWv SS (As := [.ref (q (8 + 5 * i_2))]) (rest := []) (c_X1_build l D q u A (cW_D hD) i_2 (by omega)  (show RB 40 u i_2 from (CI_40 p0 (by omega))) (show RB 40 u 10 from (p0.2.1.2.2)) (show HB ((u.1.2.2.2.1 i_2)) from ((p0.1 i_2 (by omega)).2.1)) (show 0 ≤ (u.2.2.2 25) ∧ (u.2.2.2 25) ≤ 80 from (p0.2.2.2.2.2.2.2.1)) (show -2147483648 ≤ (u.2.2.2 26) ∧ (u.2.2.2 26) ≤ 2147483647 from (p0.2.2.2.2.2.2.2.2)) (show -2147483648 ≤ (u.1.2.2.2.2 i_2) ∧ (u.1.2.2.2.2 i_2) ≤ 2147483647 from ((p0.1 i_2 (by omega)).2.2))) mf_X1_build kw_987 hG hP hP (ci := 1) (q0 := 7) rfl rfl rfl hS (fun _ h => h) rfl hl.1 ⟨⟨Nat.le_of_ble_eq_true rfl, Nat.le_of_ble_eq_true rfl⟩, Nat.le_of_ble_eq_true rfl, Nat.le_refl _, Nat.le_refl _⟩ rfl dX11_piece_45 (fun u45 H locs h_45 hP _ hS => ?_)
          obtain ⟨n_45, f_45, g_45, se_45, v25_45, v26_45, rfl, h_45⟩ := h_45
          have hP : va_P D.1 j_cl (cW D q (sY (sX (sV (sV (sL (sC u 10 n_45) 6 se_45) 25 v25_45) 26 v26_45) 10 f_45) 10 g_45)) H := hP
          have h_45 : ((0 ≤ n_45 ∧ n_45 ≤ 40) ∧ RV 40 f_45 g_45) ∧ (0 ≤ v25_45 ∧ v25_45 ≤ 80) ∧ -2147483648 ≤ v26_45 ∧ v26_45 ≤ 2147483647 := h_45
          have hCI : CI (sY (sX (sV (sV (sL (sC u 10 n_45) 6 se_45) 25 v25_45) 26 v26_45) 10 f_45) 10 g_45) := CI_co p0 h_45
          have hR10 := hCI.2.1.2.2
          refine lv_iload_n SS.1 SS.2.1 dX11_piece_48 rfl (lv_at hl 3 rfl) ?_
          refine lv_aload_n SS.1 SS.2.1 dX11_piece_49 rfl (lv_at hl 1 rfl) ?_
          refine j_get SS hG hP 0 (v := .ref (q 7)) (C := RX11) (T := TX11) (N := 8) rfl rfl inX11 6 (by decide) (ref := "GridPolygons") kw_391 rfl rfl dX11_piece_50 ?_
          refine j_get SS hG hP 7 (v := .int (J v25_45)) (C := RX1) (T := TX1) (N := 4) rfl rfl inX1 2 (by decide) (ref := "GridPolygons$Coarse") kw_374 rfl rfl dX11_piece_53 ?_
          refine j_icmp_ge SS (tgt := 71) (x := pc9) (y := v25_45) dX11_piece_56 (by decide) (by omega) (by omega) (fun c_56 => ?_) (fun c_56 => ?_)
          · skip
            refine j_iconst SS dX11_piece_71 ?_
            exact W.iret SS.1 SS.2.1 hr (fun t0 ht hW => ⟨⟨_, (sY (sX (sV (sV (sL (sC u 10 n_45) 6 se_45) 25 v25_45) 26 v26_45) 10 f_45) 10 g_45), rfl, ⟨(-1), rfl, (⟨hCI, (by first | exact cs_refl | exact (fun r hr => ⟨if_neg (by omega), if_neg (by omega), if_neg (by omega)⟩))⟩)⟩, by show va_P D.1 j_cl (cW D q (sY (sX (sV (sV (sL (sC u 10 n_45) 6 se_45) 25 v25_45) 26 v26_45) 10 f_45) 10 g_45)) t0.heap; rw [ht]; first | exact hP | (simp only [sC_id, sX_id, sY_id, sH_id, sT_id, sV_id]; exact hP)⟩, hS.F ht⟩) hS.2.2 dX11_piece_72 hlk
          · skip
            refine lv_iload_n SS.1 SS.2.1 dX11_piece_59 rfl (lv_at hl 4 rfl) ?_
            refine lv_aload_n SS.1 SS.2.1 dX11_piece_60 rfl (lv_at hl 1 rfl) ?_
            refine j_get SS hG hP 0 (v := .ref (q 7)) (C := RX11) (T := TX11) (N := 8) rfl rfl inX11 6 (by decide) (ref := "GridPolygons") kw_391 rfl rfl dX11_piece_61 ?_
            refine lv_iload_n SS.1 SS.2.1 dX11_piece_64 rfl (lv_at hl 3 rfl) ?_
            refine j_vRi SS (As := [.int (J pc9)]) (rest := [.int (J i)]) (c_X1_sizeOf l D q (sY (sX (sV (sV (sL (sC u 10 n_45) 6 se_45) 25 v25_45) 26 v26_45) 10 f_45) 10 g_45)  pc9 (show -2147483648 ≤ pc9 ∧ pc9 ≤ 2147483647 from (by omega))) mf_X1_sizeOf kw_1049 hG hP hP (ci := 1) (q0 := 7) rfl rfl rfl rfl hl.1 ⟨⟨Nat.le_of_ble_eq_true rfl, Nat.le_of_ble_eq_true rfl⟩, Nat.le_of_ble_eq_true rfl, Nat.le_refl _, Nat.le_refl _⟩ rfl dX11_piece_65 (fun z_65 h_65 => ?_)
            have h_65 : 0 ≤ z_65 ∧ z_65 ≤ 127 := h_65
            refine j_icmp_lt SS (tgt := 73) (x := i) (y := z_65) dX11_piece_68 (by decide) (by omega) (by omega) (fun c_68 => ?_) (fun c_68 => ?_)
            · skip
              refine lv_iload_n SS.1 SS.2.1 dX11_piece_73 rfl (lv_at hl 4 rfl) ?_
              refine j_iconst SS dX11_piece_74 ?_
              refine j_icmp_ne SS (tgt := 89) (x := i) (y := (-1)) dX11_piece_75 (by decide) (by omega) (by decide) (fun c_75 => ?_) (fun c_75 => ?_)
              · skip
                refine lv_aload_n SS.1 SS.2.1 dX11_piece_89 rfl (lv_at hl 1 rfl) ?_
                refine j_get SS hG hP 0 (v := .ref (q 7)) (C := RX11) (T := TX11) (N := 8) rfl rfl inX11 6 (by decide) (ref := "GridPolygons") kw_391 rfl rfl dX11_piece_90 ?_
                refine lv_iload_n SS.1 SS.2.1 dX11_piece_93 rfl (lv_at hl 3 rfl) ?_
                refine lv_iload_n SS.1 SS.2.1 dX11_piece_94 rfl (lv_at hl 4 rfl) ?_
                refine j_vRi SS (As := [.int (J pc9), .int (J i)]) (rest := []) (c_X1_memberOf l D q (sY (sX (sV (sV (sL (sC u 10 n_45) 6 se_45) 25 v25_45) 26 v26_45) 10 f_45) 10 g_45)  pc9 i (show RB 40 (sY (sX (sV (sV (sL (sC u 10 n_45) 6 se_45) 25 v25_45) 26 v26_45) 10 f_45) 10 g_45) 10 from (hR10)) (show -2147483648 ≤ pc9 ∧ pc9 ≤ 2147483647 from (by omega)) (show 0 ≤ i ∧ i ≤ 2147483647 from (by omega))) mf_X1_memberOf kw_1050 hG hP hP (ci := 1) (q0 := 7) rfl rfl rfl rfl hl.1 ⟨⟨Nat.le_of_ble_eq_true rfl, Nat.le_of_ble_eq_true rfl⟩, Nat.le_of_ble_eq_true rfl, Nat.le_refl _, Nat.le_refl _⟩ rfl dX11_piece_95 (fun z_95 h_95 => ?_)
                have h_95 : -1 ≤ z_95 ∧ z_95 ≤ 39 := h_95
                exact W.iret SS.1 SS.2.1 hr (fun t0 ht hW => ⟨⟨_, (sY (sX (sV (sV (sL (sC u 10 n_45) 6 se_45) 25 v25_45) 26 v26_45) 10 f_45) 10 g_45), rfl, ⟨z_95, rfl, (⟨hCI, (by first | exact cs_refl | exact (fun r hr => ⟨if_neg (by omega), if_neg (by omega), if_neg (by omega)⟩))⟩)⟩, by show va_P D.1 j_cl (cW D q (sY (sX (sV (sV (sL (sC u 10 n_45) 6 se_45) 25 v25_45) 26 v26_45) 10 f_45) 10 g_45)) t0.heap; rw [ht]; first | exact hP | (simp only [sC_id, sX_id, sY_id, sH_id, sT_id, sV_id]; exact hP)⟩, hS.F ht⟩) hS.2.2 dX11_piece_98 hlk
              · skip
                refine lv_aload_n SS.1 SS.2.1 dX11_piece_78 rfl (lv_at hl 1 rfl) ?_
                refine j_get SS hG hP 0 (v := .ref (q 7)) (C := RX11) (T := TX11) (N := 8) rfl rfl inX11 6 (by decide) (ref := "GridPolygons") kw_391 rfl rfl dX11_piece_79 ?_
                refine lv_iload_n SS.1 SS.2.1 dX11_piece_82 rfl (lv_at hl 3 rfl) ?_
                refine j_vRi SS (As := [.int (J pc9)]) (rest := []) (c_X1_sizeOf l D q (sY (sX (sV (sV (sL (sC u 10 n_45) 6 se_45) 25 v25_45) 26 v26_45) 10 f_45) 10 g_45)  pc9 (show -2147483648 ≤ pc9 ∧ pc9 ≤ 2147483647 from (by omega))) mf_X1_sizeOf kw_1049 hG hP hP (ci := 1) (q0 := 7) rfl rfl rfl rfl hl.1 ⟨⟨Nat.le_of_ble_eq_true rfl, Nat.le_of_ble_eq_true rfl⟩, Nat.le_of_ble_eq_true rfl, Nat.le_refl _, Nat.le_refl _⟩ rfl dX11_piece_83 (fun z_83 h_83 => ?_)
                have h_83 : 0 ≤ z_83 ∧ z_83 ≤ 127 := h_83
                refine lv_goto (tgt := 98) SS.1 SS.2.1 dX11_piece_86 (by decide) ?_
                exact W.iret SS.1 SS.2.1 hr (fun t0 ht hW => ⟨⟨_, (sY (sX (sV (sV (sL (sC u 10 n_45) 6 se_45) 25 v25_45) 26 v26_45) 10 f_45) 10 g_45), rfl, ⟨z_83, rfl, (⟨hCI, (by first | exact cs_refl | exact (fun r hr => ⟨if_neg (by omega), if_neg (by omega), if_neg (by omega)⟩))⟩)⟩, by show va_P D.1 j_cl (cW D q (sY (sX (sV (sV (sL (sC u 10 n_45) 6 se_45) 25 v25_45) 26 v26_45) 10 f_45) 10 g_45)) t0.heap; rw [ht]; first | exact hP | (simp only [sC_id, sX_id, sY_id, sH_id, sT_id, sV_id]; exact hP)⟩, hS.F ht⟩) hS.2.2 dX11_piece_98 hlk
            · skip
              refine j_iconst SS dX11_piece_71 ?_
              exact W.iret SS.1 SS.2.1 hr (fun t0 ht hW => ⟨⟨_, (sY (sX (sV (sV (sL (sC u 10 n_45) 6 se_45) 25 v25_45) 26 v26_45) 10 f_45) 10 g_45), rfl, ⟨(-1), rfl, (⟨hCI, (by first | exact cs_refl | exact (fun r hr => ⟨if_neg (by omega), if_neg (by omega), if_neg (by omega)⟩))⟩)⟩, by show va_P D.1 j_cl (cW D q (sY (sX (sV (sV (sL (sC u 10 n_45) 6 se_45) 25 v25_45) 26 v26_45) 10 f_45) 10 g_45)) t0.heap; rw [ht]; first | exact hP | (simp only [sC_id, sX_id, sY_id, sH_id, sT_id, sV_id]; exact hP)⟩, hS.F ht⟩) hS.2.2 dX11_piece_72 hlk
        · skip
          refine j_bipush SS dX11_piece_36 (by decide +kernel) ?_
          exact W.iret SS.1 SS.2.1 hr (fun t0 ht hW => ⟨⟨_, u, rfl, ⟨(-2), rfl, (⟨p0, (by first | exact cs_refl | exact (fun r hr => ⟨if_neg (by omega), if_neg (by omega), if_neg (by omega)⟩))⟩)⟩, by show va_P D.1 j_cl (cW D q u) t0.heap; rw [ht]; first | exact hP | (simp only [sC_id, sX_id, sY_id, sH_id, sT_id, sV_id]; exact hP)⟩, hS.F ht⟩) hS.2.2 dX11_piece_38 hlk
      · skip
        refine j_iconst SS dX11_piece_21 ?_
        exact W.iret SS.1 SS.2.1 hr (fun t0 ht hW => ⟨⟨_, u, rfl, ⟨(-1), rfl, (⟨p0, (by first | exact cs_refl | exact (fun r hr => ⟨if_neg (by omega), if_neg (by omega), if_neg (by omega)⟩))⟩)⟩, by show va_P D.1 j_cl (cW D q u) t0.heap; rw [ht]; first | exact hP | (simp only [sC_id, sX_id, sY_id, sH_id, sT_id, sV_id]; exact hP)⟩, hS.F ht⟩) hS.2.2 dX11_piece_22 hlk
  · skip
    refine lv_astoreN (lv' := [(4, .null), (0, .ref (q 0)), (1, .int (J s)), (2, .int (J pc9)), (3, .int (J i))]) SS.1 SS.2.1 dX11_piece_5 hl (by decide) rfl (fun ls hl => ?_)
    refine lv_aloadN SS.1 SS.2.1 dX11_piece_7 (lv_at hl 0 rfl) ?_
    refine lv_ifnullN SS.1 SS.2.1 (tgt := 21) dX11_piece_9 (by decide) ?_
    refine j_iconst SS dX11_piece_21 ?_
    exact W.iret SS.1 SS.2.1 hr (fun t0 ht hW => ⟨⟨_, u, rfl, ⟨(-1), rfl, (⟨p0, (by first | exact cs_refl | exact (fun r hr => ⟨if_neg (by omega), if_neg (by omega), if_neg (by omega)⟩))⟩)⟩, by show va_P D.1 j_cl (cW D q u) t0.heap; rw [ht]; first | exact hP | (simp only [sC_id, sX_id, sY_id, sH_id, sT_id, sV_id]; exact hP)⟩, hS.F ht⟩) hS.2.2 dX11_piece_22 hlk

set_option maxHeartbeats 4000000 in
set_option maxRecDepth 100000 in
theorem c_X11_heightN (l : Launch) (D : JD) (q : Nat → Nat) (u : CS) (A : Nat → Prop) (hD : va_D A (cW D q u)) (s : Int) (i : Int) (v : Int) (p0 : CI u) (p1 : -2147483648 ≤ s ∧ s ≤ 2147483647) (p2 : -2147483648 ≤ i ∧ i ≤ 2147483647) (p3 : -2147483648 ≤ v ∧ v ≤ 2147483647) : Met l yX11_height (jw yX11_height cX11_height 6 (some .int)) (jr 7 149) (jP [.ref (q 0), .int (J s), .int (J i), .int (J v)] D (fun H => va_P D.1 j_cl (cW D q u) H)) (jWi (fun z u' => CI u' ∧ cSame u u') (fun u' H => va_P D.1 j_cl (cW D q u') H) A) 0 0 A := by
  refine Met.ofW (cc := cX11_height) (maxL := 6) (ret := (some .int)) (by decide) rfl ?_
  intro pr en st mi args below meth co s₁ B hml hv
  obtain ⟨rfl, hG, hP⟩ := hv
  have hr := B.returns
  have hlk := B.notSynchronized
  have SS : jS pr mi co cX11_height 6 st _ RX11 := ⟨B.exec, B.bytes, hml, findClass_of_methodNamed B.named, fun w hw => atoms_spec (ws := (jw yX11_height cX11_height 6 (some .int))) B.pre w (List.mem_cons_of_mem _ hw)⟩
  have hl := lv_entry ([.ref (q 0), .int (J s), .int (J i), .int (J v)]) (n := 6) (Nat.le_of_ble_eq_true rfl)
  rw [lg_entry_eq]
  generalize (lg_sl ([.ref (q 0), .int (J s), .int (J i), .int (J v)]) ++ List.replicate (6 - (lg_sl ([.ref (q 0), .int (J s), .int (J i), .int (J v)])).length) Slot.unset).toArray = ls at hl ⊢
  have hl : lv_has ls 6 [(0, .ref (q 0)), (1, .int (J s)), (2, .int (J i)), (3, .int (J v))] := hl
  have hS : va_S A st.heap st.heap [] := va_S.rf
  refine lv_aload_n SS.1 SS.2.1 dX11_height_0 rfl (lv_at hl 0 rfl) ?_
  refine lv_iload_n SS.1 SS.2.1 dX11_height_1 rfl (lv_at hl 1 rfl) ?_
  refine j_vSh SS (As := [.int (J s)]) (rest := []) (c_X11_shapeAt l D q u  s (show -2147483648 ≤ s ∧ s ≤ 2147483647 from (p1))) mf_X11_shapeAt kw_414 hG hP hP (ci := 11) (q0 := 0) rfl rfl rfl rfl hl.1 ⟨⟨Nat.le_of_ble_eq_true rfl, Nat.le_of_ble_eq_true rfl⟩, Nat.le_of_ble_eq_true rfl, Nat.le_refl _, Nat.le_refl _⟩ rfl dX11_height_2 (fun i_2 hi_2 hz_2 => ?_) (fun hn_2 => ?_)
  · skip
    have hI2 := CI_s p0 (show i_2 < 8 by omega)
    have hI2c := hI2.1
    have hrl2 := rl_s (show i_2 < 8 by omega)
    refine lv_astore (lv' := [(4, .ref (q (8 + 5 * i_2))), (0, .ref (q 0)), (1, .int (J s)), (2, .int (J i)), (3, .int (J v))]) SS.1 SS.2.1 dX11_height_5 hl (by decide) rfl (fun ls hl => ?_)
    refine lv_aload SS.1 SS.2.1 dX11_height_7 (lv_at hl 0 rfl) ?_
    refine lv_ifnull SS.1 SS.2.1 dX11_height_9 ?_
    refine lv_iload_n SS.1 SS.2.1 dX11_height_12 rfl (lv_at hl 4 rfl) ?_
    refine j_sipush SS dX11_height_13 (by decide +kernel) ?_
    refine j_icmp_lt SS (tgt := 39) (x := v) (y := (-1000)) dX11_height_16 (by decide) (by omega) (by decide) (fun c_16 => ?_) (fun c_16 => ?_)
    · skip
      refine j_ldc SS (-1000000) kw_512 dX11_height_39 ?_
      exact W.iret SS.1 SS.2.1 hr (fun t0 ht hW => ⟨⟨_, u, rfl, ⟨(-1000000), rfl, (⟨p0, (by first | exact cs_refl | exact (fun r hr => ⟨if_neg (by omega), if_neg (by omega), if_neg (by omega)⟩))⟩)⟩, by show va_P D.1 j_cl (cW D q u) t0.heap; rw [ht]; first | exact hP | (simp only [sC_id, sX_id, sY_id, sH_id, sT_id, sV_id]; exact hP)⟩, hS.F ht⟩) hS.2.2 dX11_height_41 hlk
    · skip
      refine lv_iload_n SS.1 SS.2.1 dX11_height_19 rfl (lv_at hl 4 rfl) ?_
      refine j_sipush SS dX11_height_20 (by decide +kernel) ?_
      refine j_icmp_gt SS (tgt := 39) (x := v) (y := 1000) dX11_height_23 (by decide) (by omega) (by decide) (fun c_23 => ?_) (fun c_23 => ?_)
      · skip
        refine j_ldc SS (-1000000) kw_512 dX11_height_39 ?_
        exact W.iret SS.1 SS.2.1 hr (fun t0 ht hW => ⟨⟨_, u, rfl, ⟨(-1000000), rfl, (⟨p0, (by first | exact cs_refl | exact (fun r hr => ⟨if_neg (by omega), if_neg (by omega), if_neg (by omega)⟩))⟩)⟩, by show va_P D.1 j_cl (cW D q u) t0.heap; rw [ht]; first | exact hP | (simp only [sC_id, sX_id, sY_id, sH_id, sT_id, sV_id]; exact hP)⟩, hS.F ht⟩) hS.2.2 dX11_height_41 hlk
      · skip
        refine lv_aload SS.1 SS.2.1 dX11_height_26 (lv_at hl 0 rfl) ?_
        refine j_get SS hG hP (8 + 5 * i_2) (v := .ref (q (9 + 5 * i_2))) (C := RX10) (T := TX10) (N := 3) (cw_shape (by omega)) rfl inX10 0 (by decide) (ref := "GridPolygons$Shape") kw_151 rfl rfl dX11_height_28 ?_
        refine j_bipush SS dX11_height_31 (by decide +kernel) ?_
        refine j_sRi SS (As := [.ref (q (9 + 5 * i_2)), .int (J 40)]) (rest := []) (c_X11_hasAtMost l D q u i_2 (by omega) 40 (show RB 40 u i_2 from (CI_40 p0 (by omega))) (show -2147483648 ≤ (40 : Int) ∧ (40 : Int) ≤ 2147483647 from (by omega))) mf_X11_hasAtMost kw_859 hG hP rfl hl.1 ⟨⟨Nat.le_of_ble_eq_true rfl, Nat.le_of_ble_eq_true rfl⟩, Nat.le_of_ble_eq_true rfl, Nat.le_refl _, Nat.le_refl _⟩ rfl dX11_height_33 (fun z_33 h_33 => ?_)
        have h_33 : (z_33 = 1 ∧ 3 ≤ (u.1.2.2.1 i_2) ∧ rE u i_2 + rI u i_2 ≤ (40 : Int)) ∨ z_33 = 0 := h_33
        refine j_if_ne SS (tgt := 42) (x := z_33) dX11_height_36 (by decide) (by omega) (fun c_36 => ?_) (fun c_36 => ?_)
        · skip
          refine lv_iload_n SS.1 SS.2.1 dX11_height_42 rfl (lv_at hl 3 rfl) ?_
          refine j_if_lt SS (tgt := 64) (x := i) dX11_height_43 (by decide) (by omega) (fun c_43 => ?_) (fun c_43 => ?_)
          · skip
            refine j_ldc SS (-1000000) kw_512 dX11_height_64 ?_
            exact W.iret SS.1 SS.2.1 hr (fun t0 ht hW => ⟨⟨_, u, rfl, ⟨(-1000000), rfl, (⟨p0, (by first | exact cs_refl | exact (fun r hr => ⟨if_neg (by omega), if_neg (by omega), if_neg (by omega)⟩))⟩)⟩, by show va_P D.1 j_cl (cW D q u) t0.heap; rw [ht]; first | exact hP | (simp only [sC_id, sX_id, sY_id, sH_id, sT_id, sV_id]; exact hP)⟩, hS.F ht⟩) hS.2.2 dX11_height_66 hlk
          · skip
            refine lv_iload_n SS.1 SS.2.1 dX11_height_46 rfl (lv_at hl 3 rfl) ?_
            refine lv_aload SS.1 SS.2.1 dX11_height_47 (lv_at hl 0 rfl) ?_
            refine j_get SS hG hP (8 + 5 * i_2) (v := .ref (q (9 + 5 * i_2))) (C := RX10) (T := TX10) (N := 3) (cw_shape (by omega)) rfl inX10 0 (by decide) (ref := "GridPolygons$Shape") kw_151 rfl rfl dX11_height_49 ?_
            refine j_vRi SS (As := []) (rest := [.int (J i)]) (c_X7_all l D q u i_2 (by omega) (40 : Int)  (show 0 ≤ (40 : Int) ∧ (40 : Int) ≤ 80 from (by omega)) (show RB (40 : Int) u i_2 from (CI_40 p0 (by omega)))) mf_X7_all kw_553 hG hP hP (ci := 7) (q0 := (9 + 5 * i_2)) rfl (cw_ring (by omega)) rfl rfl hl.1 ⟨⟨Nat.le_of_ble_eq_true rfl, Nat.le_of_ble_eq_true rfl⟩, Nat.le_of_ble_eq_true rfl, Nat.le_refl _, Nat.le_refl _⟩ rfl dX11_height_52 (fun z_52 h_52 => ?_)
            have h_52 : z_52 = rE u i_2 + rI u i_2 ∧ -7000000 ≤ z_52 ∧ z_52 ≤ 7000000 := h_52
            refine j_icmp_ge SS (tgt := 64) (x := i) (y := z_52) dX11_height_55 (by decide) (by omega) (by omega) (fun c_55 => ?_) (fun c_55 => ?_)
            · skip
              refine j_ldc SS (-1000000) kw_512 dX11_height_64 ?_
              exact W.iret SS.1 SS.2.1 hr (fun t0 ht hW => ⟨⟨_, u, rfl, ⟨(-1000000), rfl, (⟨p0, (by first | exact cs_refl | exact (fun r hr => ⟨if_neg (by omega), if_neg (by omega), if_neg (by omega)⟩))⟩)⟩, by show va_P D.1 j_cl (cW D q u) t0.heap; rw [ht]; first | exact hP | (simp only [sC_id, sX_id, sY_id, sH_id, sT_id, sV_id]; exact hP)⟩, hS.F ht⟩) hS.2.2 dX11_height_66 hlk
            · skip
              refine lv_iload_n SS.1 SS.2.1 dX11_height_58 rfl (lv_at hl 3 rfl) ?_
              refine j_bipush SS dX11_height_59 (by decide +kernel) ?_
              refine j_icmp_lt SS (tgt := 67) (x := i) (y := 40) dX11_height_61 (by decide) (by omega) (by decide) (fun c_61 => ?_) (fun c_61 => ?_)
              · skip
                refine lv_aload SS.1 SS.2.1 dX11_height_67 (lv_at hl 0 rfl) ?_
                refine j_get SS hG hP (8 + 5 * i_2) (v := .ref (q (12 + 5 * i_2))) (C := RX10) (T := TX10) (N := 3) (cw_shape (by omega)) rfl inX10 1 (by decide) (ref := "GridPolygons$Shape") kw_157 rfl rfl dX11_height_69 ?_
                refine lv_iload_n SS.1 SS.2.1 dX11_height_72 rfl (lv_at hl 3 rfl) ?_
                refine j_iald SS hG hP (12 + 5 * i_2) (n := 40) (f := (u.1.2.2.2.1 i_2)) (cw_hts (by omega)) (z := i) (by omega) (by omega) dX11_height_73 ?_
                refine lv_istore (lv' := [(5, .int (J ((u.1.2.2.2.1 i_2) (i).toNat))), (4, .ref (q (8 + 5 * i_2))), (0, .ref (q 0)), (1, .int (J s)), (2, .int (J i)), (3, .int (J v))]) SS.1 SS.2.1 dX11_height_74 hl (by decide) rfl (fun ls hl => ?_)
                refine lv_aload SS.1 SS.2.1 dX11_height_76 (lv_at hl 1 rfl) ?_
                refine j_get SS hG hP (8 + 5 * i_2) (v := .ref (q (12 + 5 * i_2))) (C := RX10) (T := TX10) (N := 3) (cw_shape (by omega)) rfl inX10 1 (by decide) (ref := "GridPolygons$Shape") kw_157 rfl rfl dX11_height_78 ?_
                refine lv_iload_n SS.1 SS.2.1 dX11_height_81 rfl (lv_at hl 4 rfl) ?_
                refine lv_iload_n SS.1 SS.2.1 dX11_height_82 rfl (lv_at hl 5 rfl) ?_
                refine j_iast SS hG hP (cW_D hD) hS (12 + 5 * i_2) (n := 40) (f := (u.1.2.2.2.1 i_2)) (cw_hts (by omega)) (z := i) (v := v) (by omega) (by omega) dX11_height_83 (ws' := (cW D q (sH u i_2 (upI (u.1.2.2.2.1 i_2) (i).toNat v)))) (cs_hts (by omega)) (fun H locs hP hS => ?_)
                refine lv_aload SS.1 SS.2.1 dX11_height_84 (lv_at hl 1 rfl) ?_
                refine lv_aload_n SS.1 SS.2.1 dX11_height_86 rfl (lv_at hl 2 rfl) ?_
                refine j_vWi SS (As := []) (rest := [.ref (q (8 + 5 * i_2))]) (c_X11_newStamp l D q (sH u i_2 (upI (u.1.2.2.2.1 i_2) (i).toNat v)) A (cW_D hD)   ) mf_X11_newStamp kw_467 hG hP hP (ci := 11) (q0 := 0) rfl rfl rfl hS (fun _ h => h) rfl hl.1 ⟨⟨Nat.le_of_ble_eq_true rfl, Nat.le_of_ble_eq_true rfl⟩, Nat.le_of_ble_eq_true rfl, Nat.le_refl _, Nat.le_refl _⟩ rfl dX11_height_87 (fun z_87 u87 H locs h_87 hP _ hS => ?_)
                obtain ⟨t_87, rfl, h_87⟩ := h_87
                have hP : va_P D.1 j_cl (cW D q (sV (sH u i_2 (upI (u.1.2.2.2.1 i_2) (i).toNat v)) 0 t_87)) H := hP
                have h_87 : z_87 = t_87 ∧ -2147483648 ≤ t_87 ∧ t_87 ≤ 2147483647 := h_87
                refine j_put SS hG hP (cW_D hD) hS (8 + 5 * i_2) (v := .int (J z_87)) (ty := .int) (C := RX10) (T := TX10) (N := 3) (cw_shape (by omega)) rfl inX10 tyX10 tyX10_ok nmX10 2 (by decide) (ref := "GridPolygons$Shape") kw_161 rfl rfl (by decide +kernel) rfl rfl (Nat.le_of_ble_eq_true rfl) dX11_height_90 (ws' := (cW D q (sV (sT (sH u i_2 (upI (u.1.2.2.2.1 i_2) (i).toNat v)) i_2 z_87) 0 t_87))) (cs_shape (by omega)) (fun H locs hP hS => ?_)
                refine lv_iload SS.1 SS.2.1 dX11_height_93 (lv_at hl 0 rfl) ?_
                exact W.iret SS.1 SS.2.1 hr (fun t0 ht hW => ⟨⟨_, (sV (sT (sH u i_2 (upI (u.1.2.2.2.1 i_2) (i).toNat v)) i_2 z_87) 0 t_87), rfl, ⟨((u.1.2.2.2.1 i_2) (i).toNat), rfl, (⟨CI_ht p0 (by omega) (HB_up (p0.1 i_2 (by omega)).2.1 (by omega)) (by omega) (by omega), (by first | exact cs_refl | exact (fun r hr => ⟨if_neg (by omega), if_neg (by omega), if_neg (by omega)⟩))⟩)⟩, by show va_P D.1 j_cl (cW D q (sV (sT (sH u i_2 (upI (u.1.2.2.2.1 i_2) (i).toNat v)) i_2 z_87) 0 t_87)) t0.heap; rw [ht]; first | exact hP | (simp only [sC_id, sX_id, sY_id, sH_id, sT_id, sV_id]; exact hP)⟩, hS.F ht⟩) hS.2.2 dX11_height_95 hlk
              · skip
                refine j_ldc SS (-1000000) kw_512 dX11_height_64 ?_
                exact W.iret SS.1 SS.2.1 hr (fun t0 ht hW => ⟨⟨_, u, rfl, ⟨(-1000000), rfl, (⟨p0, (by first | exact cs_refl | exact (fun r hr => ⟨if_neg (by omega), if_neg (by omega), if_neg (by omega)⟩))⟩)⟩, by show va_P D.1 j_cl (cW D q u) t0.heap; rw [ht]; first | exact hP | (simp only [sC_id, sX_id, sY_id, sH_id, sT_id, sV_id]; exact hP)⟩, hS.F ht⟩) hS.2.2 dX11_height_66 hlk
        · skip
          refine j_ldc SS (-1000000) kw_512 dX11_height_39 ?_
          exact W.iret SS.1 SS.2.1 hr (fun t0 ht hW => ⟨⟨_, u, rfl, ⟨(-1000000), rfl, (⟨p0, (by first | exact cs_refl | exact (fun r hr => ⟨if_neg (by omega), if_neg (by omega), if_neg (by omega)⟩))⟩)⟩, by show va_P D.1 j_cl (cW D q u) t0.heap; rw [ht]; first | exact hP | (simp only [sC_id, sX_id, sY_id, sH_id, sT_id, sV_id]; exact hP)⟩, hS.F ht⟩) hS.2.2 dX11_height_41 hlk
  · skip
    refine lv_astoreN (lv' := [(4, .null), (0, .ref (q 0)), (1, .int (J s)), (2, .int (J i)), (3, .int (J v))]) SS.1 SS.2.1 dX11_height_5 hl (by decide) rfl (fun ls hl => ?_)
    refine lv_aloadN SS.1 SS.2.1 dX11_height_7 (lv_at hl 0 rfl) ?_
    refine lv_ifnullN SS.1 SS.2.1 (tgt := 39) dX11_height_9 (by decide) ?_
    refine j_ldc SS (-1000000) kw_512 dX11_height_39 ?_
    exact W.iret SS.1 SS.2.1 hr (fun t0 ht hW => ⟨⟨_, u, rfl, ⟨(-1000000), rfl, (⟨p0, (by first | exact cs_refl | exact (fun r hr => ⟨if_neg (by omega), if_neg (by omega), if_neg (by omega)⟩))⟩)⟩, by show va_P D.1 j_cl (cW D q u) t0.heap; rw [ht]; first | exact hP | (simp only [sC_id, sX_id, sY_id, sH_id, sT_id, sV_id]; exact hP)⟩, hS.F ht⟩) hS.2.2 dX11_height_41 hlk


theorem ex_max (F : Nat → Int) : ∀ n : Nat, ∃ a : Nat, a ≤ n ∧ ∀ b : Nat, b ≤ n → F b ≤ F a := by
  intro n
  induction n with
  | zero => exact ⟨0, Nat.le_refl 0, fun b hb => by rw [show b = 0 by omega]; exact Int.le_refl _⟩
  | succ n ih =>
    obtain ⟨a, h1, h2⟩ := ih
    by_cases e : F a ≤ F (n + 1)
    · refine ⟨n + 1, Nat.le_refl _, fun b hb => ?_⟩
      by_cases w : b = n + 1
      · rw [w]; exact Int.le_refl _
      · have := h2 b (by omega); omega
    · refine ⟨a, by omega, fun b hb => ?_⟩
      by_cases w : b = n + 1
      · rw [w]; omega
      · exact h2 b (by omega)
theorem nmul {a b : Int} (ha : a ≤ 0) (hb : 0 ≤ b) : a * b ≤ 0 := by
  have := Int.mul_nonneg (show 0 ≤ -a by omega) hb
  rw [Int.neg_mul] at this
  omega
theorem nmul2 {a b : Int} (ha : 0 < a) (hb : b < 0) : a * b < 0 := by
  have := Int.mul_pos ha (show 0 < -b by omega)
  rw [Int.mul_neg] at this
  omega
/-- a corner that is best among its neighbours is best of all -/
theorem max_at {S : Int → Int → Prop} {α β g1 g2 p1 p2 e1 e2 x y : Int} (E1 : edS S g1 g2 p1 p2) (E2 : edS S p1 p2 e1 e2) (sg : S g1 g2) (se : S e1 e2) (sq : S x y) (hg : α * g1 + β * g2 ≤ α * p1 + β * p2) (he : α * e1 + β * e2 ≤ α * p1 + β * p2) : α * x + β * y ≤ α * p1 + β * p2 := by
  apply Int.not_lt.mp
  intro hl
  have q1 := E1.2 x y sq
  have q2 := E2.2 x y sq
  have q3 := E1.2 e1 e2 se
  have q4 := E2.2 g1 g2 sg
  rw [cx_sh] at q1 q3
  have f4 : cx (e1 - p1) (e2 - p2) (g1 - p1) (g2 - p2) = cx (p1 - g1) (p2 - g2) (e1 - p1) (e2 - p2) := by unfold cx; grind
  rw [f4] at q4
  have id0 : cx (p1 - g1) (p2 - g2) (e1 - p1) (e2 - p2) * (α * (x - p1) + β * (y - p2)) = cx (p1 - g1) (p2 - g2) (x - p1) (y - p2) * (α * (e1 - p1) + β * (e2 - p2)) - cx (e1 - p1) (e2 - p2) (x - p1) (y - p2) * (α * (p1 - g1) + β * (p2 - g2)) := by unfold cx; grind
  have La : 0 ≤ α * (p1 - g1) + β * (p2 - g2) := by
    rw [show α * (p1 - g1) + β * (p2 - g2) = (α * p1 + β * p2) - (α * g1 + β * g2) by grind]; omega
  have Lb : α * (e1 - p1) + β * (e2 - p2) ≤ 0 := by
    rw [show α * (e1 - p1) + β * (e2 - p2) = (α * e1 + β * e2) - (α * p1 + β * p2) by grind]; omega
  have Lc : 0 < α * (x - p1) + β * (y - p2) := by
    rw [show α * (x - p1) + β * (y - p2) = (α * x + β * y) - (α * p1 + β * p2) by grind]; omega
  have m1 := nmul Lb q1.1
  rw [Int.mul_comm] at m1
  have m2 := Int.mul_nonneg q2.1 La
  have z0 : cx (p1 - g1) (p2 - g2) (e1 - p1) (e2 - p2) = 0 := by
    by_cases w : cx (p1 - g1) (p2 - g2) (e1 - p1) (e2 - p2) = 0
    · exact w
    · have := Int.mul_pos (show 0 < cx (p1 - g1) (p2 - g2) (e1 - p1) (e2 - p2) by omega) Lc
      omega
  have b3 := q3.2 z0
  have b4 := q4.2 z0
  have n1 := E1.1
  have eg : e1 = g1 ∧ e2 = g2 := by unfold lxn at b3 b4; omega
  obtain ⟨rfl, rfl⟩ := eg
  have f2 : cx (e1 - p1) (e2 - p2) (x - p1) (y - p2) = - cx (p1 - e1) (p2 - e2) (x - p1) (y - p2) := by unfold cx; grind
  have q21 := q2.1
  have q11 := q1.1
  have z1 : cx (p1 - e1) (p2 - e2) (x - p1) (y - p2) = 0 := by omega
  have b1 := q1.2 z1
  have i1 : (α * (x - p1) + β * (y - p2)) * (p1 - e1) = (x - p1) * (α * (p1 - e1) + β * (p2 - e2)) + β * cx (p1 - e1) (p2 - e2) (x - p1) (y - p2) := by unfold cx; grind
  have i2 : (α * (x - p1) + β * (y - p2)) * (p2 - e2) = (y - p2) * (α * (p1 - e1) + β * (p2 - e2)) - α * cx (p1 - e1) (p2 - e2) (x - p1) (y - p2) := by unfold cx; grind
  have i3 : cx (p1 - e1) (p2 - e2) (x - p1) (y - p2) = (p1 - e1) * (y - p2) - (p2 - e2) * (x - p1) := rfl
  rw [z1, Int.mul_zero] at i1 i2
  rw [z1] at i3
  generalize α * (p1 - e1) + β * (p2 - e2) = A at La i1 i2 m2
  generalize α * (x - p1) + β * (y - p2) = C at Lc i1 i2
  by_cases w : p1 - e1 = 0
  · rw [w, Int.zero_mul] at i3
    have hx : x - p1 = 0 := by
      by_cases z : x - p1 = 0
      · exact z
      · have := Int.mul_ne_zero (show p2 - e2 ≠ 0 by omega) z
        omega
    rcases (show 0 < p2 - e2 ∨ p2 - e2 < 0 by omega) with s | s
    · have hy : y - p2 ≤ 0 := by unfold lxn at b1; omega
      have t1 := Int.mul_pos Lc s
      have t2 := nmul hy La
      omega
    · have hy : 0 ≤ y - p2 := by unfold lxn at b1; omega
      have t1 := nmul2 Lc s
      have t2 := Int.mul_nonneg hy La
      omega
  · rcases (show 0 < p1 - e1 ∨ p1 - e1 < 0 by omega) with s | s
    · have hx : x - p1 ≤ 0 := by unfold lxn at b1; omega
      have t1 := Int.mul_pos Lc s
      have t2 := nmul hx La
      omega
    · have hx : 0 ≤ x - p1 := by unfold lxn at b1; omega
      have t1 := nmul2 Lc s
      have t2 := Int.mul_nonneg hx La
      omega
theorem nxt_c {X Y : Nat → Int} {n : Int} {a : Nat} (ha : (a : Int) < n) : ∃ b : Nat, (b : Int) < n ∧ nxt X n a = X b ∧ nxt Y n a = Y b := by
  by_cases e : (a : Int) + 1 < n
  · exact ⟨a + 1, by omega, if_pos e, if_pos e⟩
  · exact ⟨0, by omega, if_neg e, if_neg e⟩
theorem nxt_p {X Y : Nat → Int} {n : Int} {a : Nat} (ha : (a : Int) < n) : ∃ b : Nat, (b : Int) < n ∧ nxt X n b = X a ∧ nxt Y n b = Y a := by
  by_cases e : a = 0
  · refine ⟨(n - 1).toNat, by omega, ?_, ?_⟩
    · unfold nxt; rw [if_neg (by omega), e]
    · unfold nxt; rw [if_neg (by omega), e]
  · refine ⟨a - 1, by omega, ?_, ?_⟩
    · unfold nxt; rw [if_pos (by omega), show a - 1 + 1 = a by omega]
    · unfold nxt; rw [if_pos (by omega), show a - 1 + 1 = a by omega]
/-- what bounds the corners bounds all -/
theorem HS_max {S : Int → Int → Prop} {n : Int} {X Y : Nat → Int} {α β M : Int} (h : HS S n X Y) (hM : ∀ a : Nat, (a : Int) < n → α * X a + β * Y a ≤ M) {x y : Int} (s : S x y) : α * x + β * y ≤ M := by
  have hc := HS_S h
  rcases h with ⟨_, h⟩ | ⟨h1, h2, h3, ⟨h4, h5⟩ | ⟨h4, h5, h6⟩⟩
  · exact absurd s (h x y)
  · obtain ⟨e1, e2⟩ := h5 x y s
    rw [e1, e2]; exact hM 0 (by omega)
  · obtain ⟨a, ha, hb⟩ := ex_max (fun b => α * X b + β * Y b) (n - 1).toNat
    obtain ⟨b, b1, b2, b3⟩ := nxt_c (X := X) (Y := Y) (n := n) (a := a) (by omega)
    obtain ⟨p, p1, p2, p3⟩ := nxt_p (X := X) (Y := Y) (n := n) (a := a) (by omega)
    have E1 := h6 p p1
    have E2 := h6 a (by omega)
    rw [p2, p3] at E1
    rw [b2, b3] at E2
    have q := max_at (α := α) (β := β) E1 E2 (hc p p1) (hc b b1) s (hb p (by omega)) (hb b (by omega))
    have := hM a (by omega)
    omega
theorem HS_box {S : Int → Int → Prop} {n K : Int} {X Y : Nat → Int} (h : HS S n X Y) (hb : bd K X Y n) {x y : Int} (s : S x y) : (-K ≤ x ∧ x ≤ K) ∧ -K ≤ y ∧ y ≤ K := by
  have a1 := HS_max (α := 1) (β := 0) (M := K) h (fun a ha => by have := hb a ha; omega) s
  have a2 := HS_max (α := -1) (β := 0) (M := K) h (fun a ha => by have := hb a ha; omega) s
  have a3 := HS_max (α := 0) (β := 1) (M := K) h (fun a ha => by have := hb a ha; omega) s
  have a4 := HS_max (α := 0) (β := -1) (M := K) h (fun a ha => by have := hb a ha; omega) s
  omega
theorem HS_sub {S T : Int → Int → Prop} {n : Int} {X Y : Nat → Int} (h : HS S n X Y) (hT : ∀ x y : Int, T x y → S x y) (hc : ∀ a : Nat, (a : Int) < n → T (X a) (Y a)) : HS T n X Y := by
  rcases h with ⟨h, h2⟩ | ⟨h1, h2, h3, h4⟩
  · exact Or.inl ⟨h, fun x y t => h2 x y (hT x y t)⟩
  · refine Or.inr ⟨h1, hc 0 (by omega), fun x y t => h3 x y (hT x y t), ?_⟩
    rcases h4 with ⟨h4, h5⟩ | ⟨h4, h5, h6⟩
    · exact Or.inl ⟨h4, fun x y t => h5 x y (hT x y t)⟩
    · exact Or.inr ⟨h4, fun a a0 ha => ⟨hc a ha, (h5 a a0 ha).2⟩, fun a ha => ⟨(h6 a ha).1, fun x y t => (h6 a ha).2 x y (hT x y t)⟩⟩
/-! both sides hold the same -/
def EQS (u : CS) (v : MS) : Prop := ∀ r : Nat, r < 8 → u.1.2.2.1 r = mN v r ∧ (∀ a : Nat, (a : Int) < mN v r → u.1.1 r a = mX v r a ∧ u.1.2.1 r a = mY v r a) ∧ HS (SP v r) (mN v r) (fun a => mX v r a) (fun a => mY v r a)
theorem ms_N {v v' : MS} (h : mSame v v') : mN v' = mN v ∧ mX v' = mX v ∧ mY v' = mY v := by
  obtain ⟨h0, h1, h2⟩ := h
  have eN : mN v' = mN v := by funext s; show v'.1 0 s.toNat = v.1 0 s.toNat; rw [h0]
  refine ⟨eN, ?_, ?_⟩
  · funext s i; unfold mX; rw [h1, eN]
  · funext s i; unfold mY; rw [h2, eN]
theorem EQS_s {u u' : CS} {v v' : MS} (h : EQS u v) (hc : cSame u u') (hm : mSame v v') : EQS u' v' := by
  intro r hr
  obtain ⟨a1, a2, a3⟩ := h r hr
  obtain ⟨b1, b2, b3⟩ := hc r hr
  obtain ⟨e1, e2, e3⟩ := ms_N hm
  have e4 : SP v' r = SP v r := by unfold SP; rw [e1, e2, e3]
  rw [b1, b2, b3, e1, e2, e3, e4]
  exact ⟨a1, a2, a3⟩
theorem ms_refl {v : MS} : mSame v v := ⟨rfl, rfl, rfl⟩
theorem EQS_P {u : CS} {v : MS} (h : EQS u v) {r : Nat} (hr : r < 8) (x y : Int) : RP u r x y ↔ SP v r x y := by
  obtain ⟨a1, a2, _⟩ := h r hr
  unfold RP RPi SP
  rw [a1]
  constructor
  · rintro ⟨a, q1, q2, q3⟩
    exact ⟨a, q1, q2.trans (a2 a q1).1, q3.trans (a2 a q1).2⟩
  · rintro ⟨a, q1, q2, q3⟩
    exact ⟨a, q1, q2.trans (a2 a q1).1.symm, q3.trans (a2 a q1).2.symm⟩
theorem EQS_Ps {u : CS} {v : MS} (h : EQS u v) {s : Int} (hs : 0 ≤ s ∧ s ≤ 7) (x y : Int) : RP u s.toNat x y ↔ SP v s x y := by
  have := EQS_P h (r := s.toNat) (by omega) x y
  rw [show ((s.toNat : Nat) : Int) = s by omega] at this
  exact this
/-- a shape made anew, alike -/
theorem EQS_new {u u' : CS} {v v' : MS} {t n : Int} {X Y X' Y' : Nat → Int} {S : Int → Int → Prop} (h : EQS u v) (ht : 0 ≤ t ∧ t ≤ 7) (hH : HS S n X' Y') (e : ∀ a : Nat, (a : Int) < n → X a = X' a ∧ Y a = Y' a) (hc : cNew u u' t.toNat n X Y) (hm : mNew v v' t n X' Y') : EQS u' v' := by
  intro r hr
  obtain ⟨⟨c1, c2⟩, c3⟩ := hc
  obtain ⟨⟨m1, m2⟩, m3⟩ := hm
  by_cases w : r = t.toNat
  · subst w
    rw [show ((t.toNat : Nat) : Int) = t by omega]
    rw [c1, m1]
    refine ⟨rfl, fun a ha => ?_, ?_⟩
    · rw [(c2 a ha).1, (c2 a ha).2, (m2 a ha).1, (m2 a ha).2]; exact e a ha
    · have q := HS_sub (T := SP v' t) hH (fun x y ⟨a, a1, a2, a3⟩ => by
        rw [m1] at a1
        rw [a2, a3, (m2 a a1).1, (m2 a a1).2]
        exact HS_S hH a a1) (fun a ha => ⟨a, by rw [m1]; exact ha, (m2 a ha).1.symm, (m2 a ha).2.symm⟩)
      exact HS_c q (fun _ _ => Iff.rfl) (fun a ha => m2 a ha)
  · obtain ⟨a1, a2, a3⟩ := h r hr
    obtain ⟨d1, d2, d3⟩ := c3 r hr w
    obtain ⟨n1, n2⟩ := m3 r (by omega) (by omega) (by omega)
    have key : ∀ a : Nat, (a : Int) < mN v r → mX v' r a = mX v r a ∧ mY v' r a = mY v r a := fun a ha => n2 (by omega) a (by omega)
    rw [d1, d2, d3, n1]
    refine ⟨a1, fun a ha => ?_, ?_⟩
    · rw [(key a ha).1, (key a ha).2]; exact a2 a ha
    · refine HS_c a3 (fun x y => ?_) (fun a ha => key a ha)
      unfold SP
      rw [n1]
      constructor
      · rintro ⟨a, q1, q2, q3⟩
        exact ⟨a, q1, q2.trans (key a q1).1.symm, q3.trans (key a q1).2.symm⟩
      · rintro ⟨a, q1, q2, q3⟩
        exact ⟨a, q1, q2.trans (key a q1).1, q3.trans (key a q1).2⟩
theorem EQS_mk {u u' : CS} {v v' : MS} {t z z' : Int} {S S' : Int → Int → Prop} (h : EQS u v) (ht : 0 ≤ t ∧ t ≤ 7) (hS : ∀ x y : Int, S x y ↔ S' x y) (hc : mkC u u' t.toNat z S) (hm : mkM v v' t z' S') : z = z' ∧ EQS u' v' := by
  obtain ⟨n, X, Y, H, k⟩ := hc
  obtain ⟨n', X', Y', H', k'⟩ := hm
  have H2 := HS_c H hS (fun _ _ => ⟨rfl, rfl⟩)
  obtain ⟨en, e⟩ := HS_u H2 H'
  subst en
  have hb : bd 40 X Y n ↔ bd 40 X' Y' n := ⟨fun q a ha => by rw [← (e a ha).1, ← (e a ha).2]; exact q a ha, fun q a ha => by rw [(e a ha).1, (e a ha).2]; exact q a ha⟩
  rcases k with ⟨k1, k2, k3⟩ | ⟨k1, k2, k3⟩ <;> rcases k' with ⟨l1, l2, l3⟩ | ⟨l1, l2, l3⟩
  · exact ⟨by omega, EQS_new h ht H' e k3 l3⟩
  · exact absurd ⟨k2.1, hb.mp k2.2⟩ l2
  · exact absurd ⟨l2.1, hb.mpr l2.2⟩ k2
  · exact ⟨by omega, EQS_s h k3 l3⟩
theorem EQS_cl {u u' : CS} {v v' : MS} {s z z' : Int} (h : EQS u v) (hc : clC u u' s z) (hm : clM v v' s z') : z = z' ∧ EQS u' v' := by
  rcases hc with ⟨a1, a2, a3⟩ | ⟨a1, a2, a3⟩ <;> rcases hm with ⟨b1, b2, b3⟩ | ⟨b1, b2, b3⟩
  · exact ⟨by omega, EQS_s h a3 b3⟩
  · exact absurd b1 a1
  · exact absurd a1 b1
  · have q := (h s.toNat (by omega)).1
    rw [show ((s.toNat : Nat) : Int) = s by omega] at q
    exact ⟨by omega, EQS_new (S := fun _ _ => False) h a1 (Or.inl ⟨rfl, fun _ _ q => q⟩) (fun _ _ => ⟨rfl, rfl⟩) a3 b3⟩
theorem EQS_ad {u u' : CS} {v v' : MS} {s x y z z' : Int} (h : EQS u v) (hc : adC u u' s x y z) (hm : adM v v' s x y z') : z = z' ∧ EQS u' v' := by
  rcases hc with ⟨a1, a2, a3⟩ | ⟨a1, a2, a3⟩ <;> rcases hm with ⟨b1, b2, b3⟩ | ⟨b1, b2, b3⟩
  · exact ⟨by omega, EQS_s h a3 b3⟩
  · exact absurd ⟨b1, b2⟩ a1
  · exact absurd ⟨a1, a2⟩ b1
  · exact EQS_mk h a1 (fun p q => by rw [EQS_Ps h a1]) a3 b3
theorem EQS_sm {u u' : CS} {v v' : MS} {s s2 t z z' : Int} (h : EQS u v) (hc : smC u u' s s2 t z) (hm : smM v v' s s2 t z') : z = z' ∧ EQS u' v' := by
  rcases hc with ⟨a1, a2, a3⟩ | ⟨a1, a2, a3, a4⟩ <;> rcases hm with ⟨b1, b2, b3⟩ | ⟨b1, b2, b3, b4⟩
  · exact ⟨by omega, EQS_s h a3 b3⟩
  · exact absurd ⟨b1, b2, b3⟩ a1
  · exact absurd ⟨a1, a2, a3⟩ b1
  · refine EQS_mk h a3 (fun p q => ?_) a4 b4
    unfold SM
    constructor
    · rintro ⟨a, b, c, d, q1, q2, q3⟩
      exact ⟨a, b, c, d, (EQS_Ps h a1 _ _).mp q1, (EQS_Ps h a2 _ _).mp q2, q3⟩
    · rintro ⟨a, b, c, d, q1, q2, q3⟩
      exact ⟨a, b, c, d, (EQS_Ps h a1 _ _).mpr q1, (EQS_Ps h a2 _ _).mpr q2, q3⟩
theorem EQS_mp {u u' : CS} {v v' : MS} {s t a b c d e f z z' : Int} (h : EQS u v) (hc : mpC u u' s t a b c d e f z) (hm : mpM v v' s t a b c d e f z') : z = z' ∧ EQS u' v' := by
  rcases hc with ⟨a1, a2, a3⟩ | ⟨a1, a2, a3, a4⟩ <;> rcases hm with ⟨b1, b2, b3⟩ | ⟨b1, b2, b3, b4⟩
  · exact ⟨by omega, EQS_s h a3 b3⟩
  · exact absurd ⟨b1, b2, b3⟩ a1
  · exact absurd ⟨a1, a2, a3⟩ b1
  · rcases a4 with ⟨c1, c2, c3⟩ | ⟨c1, c2⟩ <;> rcases b4 with ⟨d1, d2, d3⟩ | ⟨d1, d2⟩
    · exact ⟨by omega, EQS_s h c3 d3⟩
    · exact absurd d1 c1
    · exact absurd c1 d1
    · have hS : ∀ p q : Int, MP (RP u s.toNat) a b c d e f p q ↔ MP (SP v s) a b c d e f p q := fun p q => by
        unfold MP
        constructor
        · rintro ⟨p, q, w1, w2⟩
          exact ⟨p, q, (EQS_Ps h a1 _ _).mp w1, w2⟩
        · rintro ⟨p, q, w1, w2⟩
          exact ⟨p, q, (EQS_Ps h a1 _ _).mpr w1, w2⟩
      rcases c2 with ⟨k1, k2, x, y, k3, k4⟩ | c2
      · obtain ⟨n, X, Y, H, k⟩ := d2
        rcases k with ⟨l1, l2, l3⟩ | ⟨l1, l2, l3⟩
        · exact absurd (HS_box H l2.2 ((hS x y).mp k3)) k4
        · exact ⟨by omega, EQS_s h k2 l3⟩
      · exact EQS_mk h a2 hS c2 d2

