
set_option maxHeartbeats 4000000 in
set_option maxRecDepth 100000 in
theorem c_X4_weigh3 (l : Launch) (D : JD) (q : Nat → Nat) (u : CS) (A : Nat → Prop) (hD : va_D A (cW D q u)) (r : Nat) (hr : r ≤ 8) (a : Int) (b : Int) (p0 : RB 40 u r) (p1 : -20000 ≤ a ∧ a ≤ 20000) (p2 : -20000 ≤ b ∧ b ≤ 20000) (p3 : (0 ≤ u.2.2.2 1 ∧ u.2.2.2 1 ≤ 6400000) ∧ (-20000 ≤ u.2.2.2 2 ∧ u.2.2.2 2 ≤ 20000) ∧ -20000 ≤ u.2.2.2 3 ∧ u.2.2.2 3 ≤ 20000) (p4 : 1 ≤ u.1.2.2.1 r) : Met l yX4_weigh (jw yX4_weigh cX4_weigh 8 none) (jr 2 47) (jP [.ref (q 3), .ref (q (9 + 5 * r)), .int (J a), .int (J b)] D (fun H => va_P D.1 j_cl (cW D q u) H)) (jWv (fun u' => ∃ c1 : Int, ∃ a1 : Int, ∃ b1 : Int, u' = (sV (sV (sV u 1 c1) 2 a1) 3 b1) ∧ (WGH u r a b (u.2.2.2 1) (u.2.2.2 2) (u.2.2.2 3) c1 a1 b1 ∧ (0 ≤ c1 ∧ c1 ≤ u.2.2.2 1) ∧ (-20000 ≤ a1 ∧ a1 ≤ 20000) ∧ -20000 ≤ b1 ∧ b1 ≤ 20000)) (fun u' H => va_P D.1 j_cl (cW D q u') H) A) 0 0 A := by
  refine Met.ofW (cc := cX4_weigh) (maxL := 8) (ret := none) (by decide) rfl ?_
  intro pr en st mi args below meth co s₁ B hml hv
  obtain ⟨rfl, hG, hP⟩ := hv
  have hr := B.returns
  have hlk := B.notSynchronized
  have SS : jS pr mi co cX4_weigh 8 st _ RX4 := ⟨B.exec, B.bytes, hml, findClass_of_methodNamed B.named, fun w hw => atoms_spec (ws := (jw yX4_weigh cX4_weigh 8 none)) B.pre w (List.mem_cons_of_mem _ hw)⟩
  have hl := lv_entry ([.ref (q 3), .ref (q (9 + 5 * r)), .int (J a), .int (J b)]) (n := 8) (Nat.le_of_ble_eq_true rfl)
  rw [lg_entry_eq]
  generalize (lg_sl ([.ref (q 3), .ref (q (9 + 5 * r)), .int (J a), .int (J b)]) ++ List.replicate (8 - (lg_sl ([.ref (q 3), .ref (q (9 + 5 * r)), .int (J a), .int (J b)])).length) Slot.unset).toArray = ls at hl ⊢
  have hl : lv_has ls 8 [(0, .ref (q 3)), (1, .ref (q (9 + 5 * r))), (2, .int (J a)), (3, .int (J b))] := hl
  have hS : va_S A st.heap st.heap [] := va_S.rf
  have hc := p0.1
  have hrl := rl_b r
  refine lv_iload_n SS.1 SS.2.1 dX4_weigh_0 rfl (lv_at hl 2 rfl) ?_
  refine j_if_ne SS (tgt := 9) (x := a) dX4_weigh_1 (by decide) (by omega) (fun c_1 => ?_) (fun c_1 => ?_)
  · skip
    refine lv_iload_n SS.1 SS.2.1 dX4_weigh_9 rfl (lv_at hl 2 rfl) ?_
    refine j_if_gt SS (tgt := 21) (x := a) dX4_weigh_10 (by decide) (by omega) (fun c_10 => ?_) (fun c_10 => ?_)
    · skip
      refine j_iconst SS dX4_weigh_21 ?_
      refine lv_goto (tgt := 26) SS.1 SS.2.1 dX4_weigh_22 (by decide) ?_
      refine lv_istore (lv' := [(4, .int (J 1)), (0, .ref (q 3)), (1, .ref (q (9 + 5 * r))), (2, .int (J a)), (3, .int (J b))]) SS.1 SS.2.1 dX4_weigh_26 hl (by decide) rfl (fun ls hl => ?_)
      refine lv_iload SS.1 SS.2.1 dX4_weigh_28 (lv_at hl 0 rfl) ?_
      refine j_if_eq SS (tgt := 37) dX4_weigh_30 (by decide) (by decide) (fun c_30 => absurd c_30 (by decide)) (fun c_30 => ?_)
      refine lv_iload_n SS.1 SS.2.1 dX4_weigh_33 rfl (lv_at hl 3 rfl) ?_
      refine lv_goto (tgt := 39) SS.1 SS.2.1 dX4_weigh_34 (by decide) ?_
      refine lv_istore (lv' := [(5, .int (J a)), (4, .int (J 1)), (0, .ref (q 3)), (1, .ref (q (9 + 5 * r))), (2, .int (J a)), (3, .int (J b))]) SS.1 SS.2.1 dX4_weigh_39 hl (by decide) rfl (fun ls hl => ?_)
      refine lv_iload SS.1 SS.2.1 dX4_weigh_41 (lv_at hl 1 rfl) ?_
      refine j_if_eq SS (tgt := 50) dX4_weigh_43 (by decide) (by decide) (fun c_43 => absurd c_43 (by decide)) (fun c_43 => ?_)
      refine lv_iload_n SS.1 SS.2.1 dX4_weigh_46 rfl (lv_at hl 5 rfl) ?_
      refine lv_goto (tgt := 52) SS.1 SS.2.1 dX4_weigh_47 (by decide) ?_
      refine lv_istore (lv' := [(6, .int (J b)), (5, .int (J a)), (4, .int (J 1)), (0, .ref (q 3)), (1, .ref (q (9 + 5 * r))), (2, .int (J a)), (3, .int (J b))]) SS.1 SS.2.1 dX4_weigh_52 hl (by decide) rfl (fun ls hl => ?_)
      refine lv_aload_n SS.1 SS.2.1 dX4_weigh_54 rfl (lv_at hl 4 rfl) ?_
      refine lv_iload SS.1 SS.2.1 dX4_weigh_55 (lv_at hl 1 rfl) ?_
      refine lv_iload SS.1 SS.2.1 dX4_weigh_57 (lv_at hl 0 rfl) ?_
      refine j_vRi SS (As := [.int (J a), .int (J b)]) (rest := []) (c_X7_across2 l D q u r (by omega) (40 : Int) a b (show 0 ≤ (40 : Int) ∧ (40 : Int) ≤ 80 from (by omega)) (show RB (40 : Int) u r from (p0)) (show -20000 ≤ a ∧ a ≤ 20000 from (p1)) (show -20000 ≤ b ∧ b ≤ 20000 from (p2)) (show 1 ≤ (u.1.2.2.1 r) from (p4))) mf_X7_across kw_643 hG hP hP (ci := 7) (q0 := (9 + 5 * r)) rfl (cw_ring (by omega)) rfl rfl hl.1 ⟨⟨Nat.le_of_ble_eq_true rfl, Nat.le_of_ble_eq_true rfl⟩, Nat.le_of_ble_eq_true rfl, Nat.le_refl _, Nat.le_refl _⟩ rfl dX4_weigh_59 (fun z_59 h_59 => ?_)
      have h_59 : spR u r a b z_59 ∧ -6400000 ≤ z_59 ∧ z_59 ≤ 6400000 := h_59
      have h0_59 := spR_0 h_59.1
      refine lv_istore (lv' := [(7, .int (J z_59)), (6, .int (J b)), (5, .int (J a)), (4, .int (J 1)), (0, .ref (q 3)), (1, .ref (q (9 + 5 * r))), (2, .int (J a)), (3, .int (J b))]) SS.1 SS.2.1 dX4_weigh_62 hl (by decide) rfl (fun ls hl => ?_)
      refine lv_iload SS.1 SS.2.1 dX4_weigh_64 (lv_at hl 0 rfl) ?_
      refine lv_aload_n SS.1 SS.2.1 dX4_weigh_66 rfl (lv_at hl 4 rfl) ?_
      refine j_get SS hG hP 3 (v := .int (J (u.2.2.2 1))) (C := RX4) (T := TX4) (N := 3) rfl rfl inX4 0 (by decide) (ref := "GridPolygons$LeastWidth") kw_194 rfl rfl dX4_weigh_67 ?_
      refine j_icmp_lt SS (tgt := 109) (x := z_59) (y := (u.2.2.2 1)) dX4_weigh_70 (by decide) (by omega) (by omega) (fun c_70 => ?_) (fun c_70 => ?_)
      · skip
        refine lv_aload_n SS.1 SS.2.1 dX4_weigh_109 rfl (lv_at hl 4 rfl) ?_
        refine lv_iload SS.1 SS.2.1 dX4_weigh_110 (lv_at hl 0 rfl) ?_
        refine j_put SS hG hP (cW_D hD) hS 3 (v := .int (J z_59)) (ty := .int) (C := RX4) (T := TX4) (N := 3) rfl rfl inX4 tyX4 tyX4_ok nmX4 0 (by decide) (ref := "GridPolygons$LeastWidth") kw_194 rfl rfl (by decide +kernel) rfl rfl (Nat.le_of_ble_eq_true rfl) dX4_weigh_112 (ws' := (cW D q (sV u 1 z_59))) rfl (fun H locs hP hS => ?_)
        refine lv_aload_n SS.1 SS.2.1 dX4_weigh_115 rfl (lv_at hl 4 rfl) ?_
        refine lv_iload SS.1 SS.2.1 dX4_weigh_116 (lv_at hl 2 rfl) ?_
        refine j_put SS hG hP (cW_D hD) hS 3 (v := .int (J a)) (ty := .int) (C := RX4) (T := TX4) (N := 3) rfl rfl inX4 tyX4 tyX4_ok nmX4 1 (by decide) (ref := "GridPolygons$LeastWidth") kw_196 rfl rfl (by decide +kernel) rfl rfl (Nat.le_of_ble_eq_true rfl) dX4_weigh_118 (ws' := (cW D q (sV (sV u 1 z_59) 2 a))) rfl (fun H locs hP hS => ?_)
        refine lv_aload_n SS.1 SS.2.1 dX4_weigh_121 rfl (lv_at hl 4 rfl) ?_
        refine lv_iload SS.1 SS.2.1 dX4_weigh_122 (lv_at hl 1 rfl) ?_
        refine j_put SS hG hP (cW_D hD) hS 3 (v := .int (J b)) (ty := .int) (C := RX4) (T := TX4) (N := 3) rfl rfl inX4 tyX4 tyX4_ok nmX4 2 (by decide) (ref := "GridPolygons$LeastWidth") kw_198 rfl rfl (by decide +kernel) rfl rfl (Nat.le_of_ble_eq_true rfl) dX4_weigh_124 (ws' := (cW D q (sV (sV (sV u 1 z_59) 2 a) 3 b))) rfl (fun H locs hP hS => ?_)
        exact W.vret SS.1 SS.2.1 hr (fun t0 ht hW => ⟨⟨(sV (sV (sV u 1 z_59) 2 a) 3 b), rfl, (⟨z_59, a, b, rfl, by first | exact ⟨Or.inl ⟨by omega, by omega, rfl, rfl, rfl⟩, by omega⟩ | exact ⟨Or.inr ⟨_, _, _, by first | exact Or.inl ⟨rfl, rfl⟩ | exact Or.inr ⟨rfl, rfl⟩, by unfold nrm; omega, h_59.1, by first | exact Or.inl ⟨by unfold lt3; omega, rfl, rfl, rfl⟩ | exact Or.inr ⟨by unfold lt3; omega, rfl, rfl, rfl⟩⟩, by omega⟩⟩), by show va_P D.1 j_cl (cW D q (sV (sV (sV u 1 z_59) 2 a) 3 b)) t0.heap; rw [ht]; first | exact hP | (simp only [sC_id, sX_id, sY_id, sH_id, sT_id, sV_id]; exact hP)⟩, hS.F ht⟩) hS.2.2 dX4_weigh_127 hlk
      · skip
        refine lv_iload SS.1 SS.2.1 dX4_weigh_73 (lv_at hl 0 rfl) ?_
        refine lv_aload_n SS.1 SS.2.1 dX4_weigh_75 rfl (lv_at hl 4 rfl) ?_
        refine j_get SS hG hP 3 (v := .int (J (u.2.2.2 1))) (C := RX4) (T := TX4) (N := 3) rfl rfl inX4 0 (by decide) (ref := "GridPolygons$LeastWidth") kw_194 rfl rfl dX4_weigh_76 ?_
        refine j_icmp_ne SS (tgt := 127) (x := z_59) (y := (u.2.2.2 1)) dX4_weigh_79 (by decide) (by omega) (by omega) (fun c_79 => ?_) (fun c_79 => ?_)
        · skip
          exact W.vret SS.1 SS.2.1 hr (fun t0 ht hW => ⟨⟨(sV (sV (sV u 1 (u.2.2.2 1)) 2 (u.2.2.2 2)) 3 (u.2.2.2 3)), rfl, (⟨(u.2.2.2 1), (u.2.2.2 2), (u.2.2.2 3), rfl, by first | exact ⟨Or.inl ⟨by omega, by omega, rfl, rfl, rfl⟩, by omega⟩ | exact ⟨Or.inr ⟨_, _, _, by first | exact Or.inl ⟨rfl, rfl⟩ | exact Or.inr ⟨rfl, rfl⟩, by unfold nrm; omega, h_59.1, by first | exact Or.inl ⟨by unfold lt3; omega, rfl, rfl, rfl⟩ | exact Or.inr ⟨by unfold lt3; omega, rfl, rfl, rfl⟩⟩, by omega⟩⟩), by show va_P D.1 j_cl (cW D q (sV (sV (sV u 1 (u.2.2.2 1)) 2 (u.2.2.2 2)) 3 (u.2.2.2 3))) t0.heap; rw [ht]; first | exact hP | (simp only [sC_id, sX_id, sY_id, sH_id, sT_id, sV_id]; exact hP)⟩, hS.F ht⟩) hS.2.2 dX4_weigh_127 hlk
        · skip
          refine lv_iload SS.1 SS.2.1 dX4_weigh_82 (lv_at hl 2 rfl) ?_
          refine lv_aload_n SS.1 SS.2.1 dX4_weigh_84 rfl (lv_at hl 4 rfl) ?_
          refine j_get SS hG hP 3 (v := .int (J (u.2.2.2 2))) (C := RX4) (T := TX4) (N := 3) rfl rfl inX4 1 (by decide) (ref := "GridPolygons$LeastWidth") kw_196 rfl rfl dX4_weigh_85 ?_
          refine j_icmp_lt SS (tgt := 109) (x := a) (y := (u.2.2.2 2)) dX4_weigh_88 (by decide) (by omega) (by omega) (fun c_88 => ?_) (fun c_88 => ?_)
          · skip
            refine lv_aload_n SS.1 SS.2.1 dX4_weigh_109 rfl (lv_at hl 4 rfl) ?_
            refine lv_iload SS.1 SS.2.1 dX4_weigh_110 (lv_at hl 0 rfl) ?_
            refine j_put SS hG hP (cW_D hD) hS 3 (v := .int (J z_59)) (ty := .int) (C := RX4) (T := TX4) (N := 3) rfl rfl inX4 tyX4 tyX4_ok nmX4 0 (by decide) (ref := "GridPolygons$LeastWidth") kw_194 rfl rfl (by decide +kernel) rfl rfl (Nat.le_of_ble_eq_true rfl) dX4_weigh_112 (ws' := (cW D q (sV u 1 z_59))) rfl (fun H locs hP hS => ?_)
            refine lv_aload_n SS.1 SS.2.1 dX4_weigh_115 rfl (lv_at hl 4 rfl) ?_
            refine lv_iload SS.1 SS.2.1 dX4_weigh_116 (lv_at hl 2 rfl) ?_
            refine j_put SS hG hP (cW_D hD) hS 3 (v := .int (J a)) (ty := .int) (C := RX4) (T := TX4) (N := 3) rfl rfl inX4 tyX4 tyX4_ok nmX4 1 (by decide) (ref := "GridPolygons$LeastWidth") kw_196 rfl rfl (by decide +kernel) rfl rfl (Nat.le_of_ble_eq_true rfl) dX4_weigh_118 (ws' := (cW D q (sV (sV u 1 z_59) 2 a))) rfl (fun H locs hP hS => ?_)
            refine lv_aload_n SS.1 SS.2.1 dX4_weigh_121 rfl (lv_at hl 4 rfl) ?_
            refine lv_iload SS.1 SS.2.1 dX4_weigh_122 (lv_at hl 1 rfl) ?_
            refine j_put SS hG hP (cW_D hD) hS 3 (v := .int (J b)) (ty := .int) (C := RX4) (T := TX4) (N := 3) rfl rfl inX4 tyX4 tyX4_ok nmX4 2 (by decide) (ref := "GridPolygons$LeastWidth") kw_198 rfl rfl (by decide +kernel) rfl rfl (Nat.le_of_ble_eq_true rfl) dX4_weigh_124 (ws' := (cW D q (sV (sV (sV u 1 z_59) 2 a) 3 b))) rfl (fun H locs hP hS => ?_)
            exact W.vret SS.1 SS.2.1 hr (fun t0 ht hW => ⟨⟨(sV (sV (sV u 1 z_59) 2 a) 3 b), rfl, (⟨z_59, a, b, rfl, by first | exact ⟨Or.inl ⟨by omega, by omega, rfl, rfl, rfl⟩, by omega⟩ | exact ⟨Or.inr ⟨_, _, _, by first | exact Or.inl ⟨rfl, rfl⟩ | exact Or.inr ⟨rfl, rfl⟩, by unfold nrm; omega, h_59.1, by first | exact Or.inl ⟨by unfold lt3; omega, rfl, rfl, rfl⟩ | exact Or.inr ⟨by unfold lt3; omega, rfl, rfl, rfl⟩⟩, by omega⟩⟩), by show va_P D.1 j_cl (cW D q (sV (sV (sV u 1 z_59) 2 a) 3 b)) t0.heap; rw [ht]; first | exact hP | (simp only [sC_id, sX_id, sY_id, sH_id, sT_id, sV_id]; exact hP)⟩, hS.F ht⟩) hS.2.2 dX4_weigh_127 hlk
          · skip
            refine lv_iload SS.1 SS.2.1 dX4_weigh_91 (lv_at hl 2 rfl) ?_
            refine lv_aload_n SS.1 SS.2.1 dX4_weigh_93 rfl (lv_at hl 4 rfl) ?_
            refine j_get SS hG hP 3 (v := .int (J (u.2.2.2 2))) (C := RX4) (T := TX4) (N := 3) rfl rfl inX4 1 (by decide) (ref := "GridPolygons$LeastWidth") kw_196 rfl rfl dX4_weigh_94 ?_
            refine j_icmp_ne SS (tgt := 127) (x := a) (y := (u.2.2.2 2)) dX4_weigh_97 (by decide) (by omega) (by omega) (fun c_97 => ?_) (fun c_97 => ?_)
            · skip
              exact W.vret SS.1 SS.2.1 hr (fun t0 ht hW => ⟨⟨(sV (sV (sV u 1 (u.2.2.2 1)) 2 (u.2.2.2 2)) 3 (u.2.2.2 3)), rfl, (⟨(u.2.2.2 1), (u.2.2.2 2), (u.2.2.2 3), rfl, by first | exact ⟨Or.inl ⟨by omega, by omega, rfl, rfl, rfl⟩, by omega⟩ | exact ⟨Or.inr ⟨_, _, _, by first | exact Or.inl ⟨rfl, rfl⟩ | exact Or.inr ⟨rfl, rfl⟩, by unfold nrm; omega, h_59.1, by first | exact Or.inl ⟨by unfold lt3; omega, rfl, rfl, rfl⟩ | exact Or.inr ⟨by unfold lt3; omega, rfl, rfl, rfl⟩⟩, by omega⟩⟩), by show va_P D.1 j_cl (cW D q (sV (sV (sV u 1 (u.2.2.2 1)) 2 (u.2.2.2 2)) 3 (u.2.2.2 3))) t0.heap; rw [ht]; first | exact hP | (simp only [sC_id, sX_id, sY_id, sH_id, sT_id, sV_id]; exact hP)⟩, hS.F ht⟩) hS.2.2 dX4_weigh_127 hlk
            · skip
              refine lv_iload SS.1 SS.2.1 dX4_weigh_100 (lv_at hl 1 rfl) ?_
              refine lv_aload_n SS.1 SS.2.1 dX4_weigh_102 rfl (lv_at hl 4 rfl) ?_
              refine j_get SS hG hP 3 (v := .int (J (u.2.2.2 3))) (C := RX4) (T := TX4) (N := 3) rfl rfl inX4 2 (by decide) (ref := "GridPolygons$LeastWidth") kw_198 rfl rfl dX4_weigh_103 ?_
              refine j_icmp_ge SS (tgt := 127) (x := b) (y := (u.2.2.2 3)) dX4_weigh_106 (by decide) (by omega) (by omega) (fun c_106 => ?_) (fun c_106 => ?_)
              · skip
                exact W.vret SS.1 SS.2.1 hr (fun t0 ht hW => ⟨⟨(sV (sV (sV u 1 (u.2.2.2 1)) 2 (u.2.2.2 2)) 3 (u.2.2.2 3)), rfl, (⟨(u.2.2.2 1), (u.2.2.2 2), (u.2.2.2 3), rfl, by first | exact ⟨Or.inl ⟨by omega, by omega, rfl, rfl, rfl⟩, by omega⟩ | exact ⟨Or.inr ⟨_, _, _, by first | exact Or.inl ⟨rfl, rfl⟩ | exact Or.inr ⟨rfl, rfl⟩, by unfold nrm; omega, h_59.1, by first | exact Or.inl ⟨by unfold lt3; omega, rfl, rfl, rfl⟩ | exact Or.inr ⟨by unfold lt3; omega, rfl, rfl, rfl⟩⟩, by omega⟩⟩), by show va_P D.1 j_cl (cW D q (sV (sV (sV u 1 (u.2.2.2 1)) 2 (u.2.2.2 2)) 3 (u.2.2.2 3))) t0.heap; rw [ht]; first | exact hP | (simp only [sC_id, sX_id, sY_id, sH_id, sT_id, sV_id]; exact hP)⟩, hS.F ht⟩) hS.2.2 dX4_weigh_127 hlk
              · skip
                refine lv_aload_n SS.1 SS.2.1 dX4_weigh_109 rfl (lv_at hl 4 rfl) ?_
                refine lv_iload SS.1 SS.2.1 dX4_weigh_110 (lv_at hl 0 rfl) ?_
                refine j_put SS hG hP (cW_D hD) hS 3 (v := .int (J z_59)) (ty := .int) (C := RX4) (T := TX4) (N := 3) rfl rfl inX4 tyX4 tyX4_ok nmX4 0 (by decide) (ref := "GridPolygons$LeastWidth") kw_194 rfl rfl (by decide +kernel) rfl rfl (Nat.le_of_ble_eq_true rfl) dX4_weigh_112 (ws' := (cW D q (sV u 1 z_59))) rfl (fun H locs hP hS => ?_)
                refine lv_aload_n SS.1 SS.2.1 dX4_weigh_115 rfl (lv_at hl 4 rfl) ?_
                refine lv_iload SS.1 SS.2.1 dX4_weigh_116 (lv_at hl 2 rfl) ?_
                refine j_put SS hG hP (cW_D hD) hS 3 (v := .int (J a)) (ty := .int) (C := RX4) (T := TX4) (N := 3) rfl rfl inX4 tyX4 tyX4_ok nmX4 1 (by decide) (ref := "GridPolygons$LeastWidth") kw_196 rfl rfl (by decide +kernel) rfl rfl (Nat.le_of_ble_eq_true rfl) dX4_weigh_118 (ws' := (cW D q (sV (sV u 1 z_59) 2 a))) rfl (fun H locs hP hS => ?_)
                refine lv_aload_n SS.1 SS.2.1 dX4_weigh_121 rfl (lv_at hl 4 rfl) ?_
                refine lv_iload SS.1 SS.2.1 dX4_weigh_122 (lv_at hl 1 rfl) ?_
                refine j_put SS hG hP (cW_D hD) hS 3 (v := .int (J b)) (ty := .int) (C := RX4) (T := TX4) (N := 3) rfl rfl inX4 tyX4 tyX4_ok nmX4 2 (by decide) (ref := "GridPolygons$LeastWidth") kw_198 rfl rfl (by decide +kernel) rfl rfl (Nat.le_of_ble_eq_true rfl) dX4_weigh_124 (ws' := (cW D q (sV (sV (sV u 1 z_59) 2 a) 3 b))) rfl (fun H locs hP hS => ?_)
                exact W.vret SS.1 SS.2.1 hr (fun t0 ht hW => ⟨⟨(sV (sV (sV u 1 z_59) 2 a) 3 b), rfl, (⟨z_59, a, b, rfl, by first | exact ⟨Or.inl ⟨by omega, by omega, rfl, rfl, rfl⟩, by omega⟩ | exact ⟨Or.inr ⟨_, _, _, by first | exact Or.inl ⟨rfl, rfl⟩ | exact Or.inr ⟨rfl, rfl⟩, by unfold nrm; omega, h_59.1, by first | exact Or.inl ⟨by unfold lt3; omega, rfl, rfl, rfl⟩ | exact Or.inr ⟨by unfold lt3; omega, rfl, rfl, rfl⟩⟩, by omega⟩⟩), by show va_P D.1 j_cl (cW D q (sV (sV (sV u 1 z_59) 2 a) 3 b)) t0.heap; rw [ht]; first | exact hP | (simp only [sC_id, sX_id, sY_id, sH_id, sT_id, sV_id]; exact hP)⟩, hS.F ht⟩) hS.2.2 dX4_weigh_127 hlk
    · skip
      refine lv_iload_n SS.1 SS.2.1 dX4_weigh_13 rfl (lv_at hl 2 rfl) ?_
      refine j_if_ne SS (tgt := 25) (x := a) dX4_weigh_14 (by decide) (by omega) (fun c_14 => ?_) (fun c_14 => ?_)
      · skip
        refine j_iconst SS dX4_weigh_25 ?_
        refine lv_istore (lv' := [(4, .int (J 0)), (0, .ref (q 3)), (1, .ref (q (9 + 5 * r))), (2, .int (J a)), (3, .int (J b))]) SS.1 SS.2.1 dX4_weigh_26 hl (by decide) rfl (fun ls hl => ?_)
        refine lv_iload SS.1 SS.2.1 dX4_weigh_28 (lv_at hl 0 rfl) ?_
        refine j_if_eq SS (tgt := 37) dX4_weigh_30 (by decide) (by decide) (fun c_30 => ?_) (fun c_30 => absurd c_30 (by decide))
        refine lv_iload_n SS.1 SS.2.1 dX4_weigh_37 rfl (lv_at hl 3 rfl) ?_
        refine j_ineg SS dX4_weigh_38 ?_
        refine lv_istore (lv' := [(5, .int (J (-a))), (4, .int (J 0)), (0, .ref (q 3)), (1, .ref (q (9 + 5 * r))), (2, .int (J a)), (3, .int (J b))]) SS.1 SS.2.1 dX4_weigh_39 hl (by decide) rfl (fun ls hl => ?_)
        refine lv_iload SS.1 SS.2.1 dX4_weigh_41 (lv_at hl 1 rfl) ?_
        refine j_if_eq SS (tgt := 50) dX4_weigh_43 (by decide) (by decide) (fun c_43 => ?_) (fun c_43 => absurd c_43 (by decide))
        refine lv_iload_n SS.1 SS.2.1 dX4_weigh_50 rfl (lv_at hl 5 rfl) ?_
        refine j_ineg SS dX4_weigh_51 ?_
        refine lv_istore (lv' := [(6, .int (J (-b))), (5, .int (J (-a))), (4, .int (J 0)), (0, .ref (q 3)), (1, .ref (q (9 + 5 * r))), (2, .int (J a)), (3, .int (J b))]) SS.1 SS.2.1 dX4_weigh_52 hl (by decide) rfl (fun ls hl => ?_)
        refine lv_aload_n SS.1 SS.2.1 dX4_weigh_54 rfl (lv_at hl 4 rfl) ?_
        refine lv_iload SS.1 SS.2.1 dX4_weigh_55 (lv_at hl 1 rfl) ?_
        refine lv_iload SS.1 SS.2.1 dX4_weigh_57 (lv_at hl 0 rfl) ?_
        refine j_vRi SS (As := [.int (J (-a)), .int (J (-b))]) (rest := []) (c_X7_across2 l D q u r (by omega) (40 : Int) (-a) (-b) (show 0 ≤ (40 : Int) ∧ (40 : Int) ≤ 80 from (by omega)) (show RB (40 : Int) u r from (p0)) (show -20000 ≤ (-a) ∧ (-a) ≤ 20000 from (by omega)) (show -20000 ≤ (-b) ∧ (-b) ≤ 20000 from (by omega)) (show 1 ≤ (u.1.2.2.1 r) from (p4))) mf_X7_across kw_643 hG hP hP (ci := 7) (q0 := (9 + 5 * r)) rfl (cw_ring (by omega)) rfl rfl hl.1 ⟨⟨Nat.le_of_ble_eq_true rfl, Nat.le_of_ble_eq_true rfl⟩, Nat.le_of_ble_eq_true rfl, Nat.le_refl _, Nat.le_refl _⟩ rfl dX4_weigh_59 (fun z_59 h_59 => ?_)
        have h_59 : spR u r (-a) (-b) z_59 ∧ -6400000 ≤ z_59 ∧ z_59 ≤ 6400000 := h_59
        have h0_59 := spR_0 h_59.1
        refine lv_istore (lv' := [(7, .int (J z_59)), (6, .int (J (-b))), (5, .int (J (-a))), (4, .int (J 0)), (0, .ref (q 3)), (1, .ref (q (9 + 5 * r))), (2, .int (J a)), (3, .int (J b))]) SS.1 SS.2.1 dX4_weigh_62 hl (by decide) rfl (fun ls hl => ?_)
        refine lv_iload SS.1 SS.2.1 dX4_weigh_64 (lv_at hl 0 rfl) ?_
        refine lv_aload_n SS.1 SS.2.1 dX4_weigh_66 rfl (lv_at hl 4 rfl) ?_
        refine j_get SS hG hP 3 (v := .int (J (u.2.2.2 1))) (C := RX4) (T := TX4) (N := 3) rfl rfl inX4 0 (by decide) (ref := "GridPolygons$LeastWidth") kw_194 rfl rfl dX4_weigh_67 ?_
        refine j_icmp_lt SS (tgt := 109) (x := z_59) (y := (u.2.2.2 1)) dX4_weigh_70 (by decide) (by omega) (by omega) (fun c_70 => ?_) (fun c_70 => ?_)
        · skip
          refine lv_aload_n SS.1 SS.2.1 dX4_weigh_109 rfl (lv_at hl 4 rfl) ?_
          refine lv_iload SS.1 SS.2.1 dX4_weigh_110 (lv_at hl 0 rfl) ?_
          refine j_put SS hG hP (cW_D hD) hS 3 (v := .int (J z_59)) (ty := .int) (C := RX4) (T := TX4) (N := 3) rfl rfl inX4 tyX4 tyX4_ok nmX4 0 (by decide) (ref := "GridPolygons$LeastWidth") kw_194 rfl rfl (by decide +kernel) rfl rfl (Nat.le_of_ble_eq_true rfl) dX4_weigh_112 (ws' := (cW D q (sV u 1 z_59))) rfl (fun H locs hP hS => ?_)
          refine lv_aload_n SS.1 SS.2.1 dX4_weigh_115 rfl (lv_at hl 4 rfl) ?_
          refine lv_iload SS.1 SS.2.1 dX4_weigh_116 (lv_at hl 2 rfl) ?_
          refine j_put SS hG hP (cW_D hD) hS 3 (v := .int (J (-a))) (ty := .int) (C := RX4) (T := TX4) (N := 3) rfl rfl inX4 tyX4 tyX4_ok nmX4 1 (by decide) (ref := "GridPolygons$LeastWidth") kw_196 rfl rfl (by decide +kernel) rfl rfl (Nat.le_of_ble_eq_true rfl) dX4_weigh_118 (ws' := (cW D q (sV (sV u 1 z_59) 2 (-a)))) rfl (fun H locs hP hS => ?_)
          refine lv_aload_n SS.1 SS.2.1 dX4_weigh_121 rfl (lv_at hl 4 rfl) ?_
          refine lv_iload SS.1 SS.2.1 dX4_weigh_122 (lv_at hl 1 rfl) ?_
          refine j_put SS hG hP (cW_D hD) hS 3 (v := .int (J (-b))) (ty := .int) (C := RX4) (T := TX4) (N := 3) rfl rfl inX4 tyX4 tyX4_ok nmX4 2 (by decide) (ref := "GridPolygons$LeastWidth") kw_198 rfl rfl (by decide +kernel) rfl rfl (Nat.le_of_ble_eq_true rfl) dX4_weigh_124 (ws' := (cW D q (sV (sV (sV u 1 z_59) 2 (-a)) 3 (-b)))) rfl (fun H locs hP hS => ?_)
          exact W.vret SS.1 SS.2.1 hr (fun t0 ht hW => ⟨⟨(sV (sV (sV u 1 z_59) 2 (-a)) 3 (-b)), rfl, (⟨z_59, (-a), (-b), rfl, by first | exact ⟨Or.inl ⟨by omega, by omega, rfl, rfl, rfl⟩, by omega⟩ | exact ⟨Or.inr ⟨_, _, _, by first | exact Or.inl ⟨rfl, rfl⟩ | exact Or.inr ⟨rfl, rfl⟩, by unfold nrm; omega, h_59.1, by first | exact Or.inl ⟨by unfold lt3; omega, rfl, rfl, rfl⟩ | exact Or.inr ⟨by unfold lt3; omega, rfl, rfl, rfl⟩⟩, by omega⟩⟩), by show va_P D.1 j_cl (cW D q (sV (sV (sV u 1 z_59) 2 (-a)) 3 (-b))) t0.heap; rw [ht]; first | exact hP | (simp only [sC_id, sX_id, sY_id, sH_id, sT_id, sV_id]; exact hP)⟩, hS.F ht⟩) hS.2.2 dX4_weigh_127 hlk
        · skip
          refine lv_iload SS.1 SS.2.1 dX4_weigh_73 (lv_at hl 0 rfl) ?_
          refine lv_aload_n SS.1 SS.2.1 dX4_weigh_75 rfl (lv_at hl 4 rfl) ?_
          refine j_get SS hG hP 3 (v := .int (J (u.2.2.2 1))) (C := RX4) (T := TX4) (N := 3) rfl rfl inX4 0 (by decide) (ref := "GridPolygons$LeastWidth") kw_194 rfl rfl dX4_weigh_76 ?_
          refine j_icmp_ne SS (tgt := 127) (x := z_59) (y := (u.2.2.2 1)) dX4_weigh_79 (by decide) (by omega) (by omega) (fun c_79 => ?_) (fun c_79 => ?_)
          · skip
            exact W.vret SS.1 SS.2.1 hr (fun t0 ht hW => ⟨⟨(sV (sV (sV u 1 (u.2.2.2 1)) 2 (u.2.2.2 2)) 3 (u.2.2.2 3)), rfl, (⟨(u.2.2.2 1), (u.2.2.2 2), (u.2.2.2 3), rfl, by first | exact ⟨Or.inl ⟨by omega, by omega, rfl, rfl, rfl⟩, by omega⟩ | exact ⟨Or.inr ⟨_, _, _, by first | exact Or.inl ⟨rfl, rfl⟩ | exact Or.inr ⟨rfl, rfl⟩, by unfold nrm; omega, h_59.1, by first | exact Or.inl ⟨by unfold lt3; omega, rfl, rfl, rfl⟩ | exact Or.inr ⟨by unfold lt3; omega, rfl, rfl, rfl⟩⟩, by omega⟩⟩), by show va_P D.1 j_cl (cW D q (sV (sV (sV u 1 (u.2.2.2 1)) 2 (u.2.2.2 2)) 3 (u.2.2.2 3))) t0.heap; rw [ht]; first | exact hP | (simp only [sC_id, sX_id, sY_id, sH_id, sT_id, sV_id]; exact hP)⟩, hS.F ht⟩) hS.2.2 dX4_weigh_127 hlk
          · skip
            refine lv_iload SS.1 SS.2.1 dX4_weigh_82 (lv_at hl 2 rfl) ?_
            refine lv_aload_n SS.1 SS.2.1 dX4_weigh_84 rfl (lv_at hl 4 rfl) ?_
            refine j_get SS hG hP 3 (v := .int (J (u.2.2.2 2))) (C := RX4) (T := TX4) (N := 3) rfl rfl inX4 1 (by decide) (ref := "GridPolygons$LeastWidth") kw_196 rfl rfl dX4_weigh_85 ?_
            refine j_icmp_lt SS (tgt := 109) (x := (-a)) (y := (u.2.2.2 2)) dX4_weigh_88 (by decide) (by omega) (by omega) (fun c_88 => ?_) (fun c_88 => ?_)
            · skip
              refine lv_aload_n SS.1 SS.2.1 dX4_weigh_109 rfl (lv_at hl 4 rfl) ?_
              refine lv_iload SS.1 SS.2.1 dX4_weigh_110 (lv_at hl 0 rfl) ?_
              refine j_put SS hG hP (cW_D hD) hS 3 (v := .int (J z_59)) (ty := .int) (C := RX4) (T := TX4) (N := 3) rfl rfl inX4 tyX4 tyX4_ok nmX4 0 (by decide) (ref := "GridPolygons$LeastWidth") kw_194 rfl rfl (by decide +kernel) rfl rfl (Nat.le_of_ble_eq_true rfl) dX4_weigh_112 (ws' := (cW D q (sV u 1 z_59))) rfl (fun H locs hP hS => ?_)
              refine lv_aload_n SS.1 SS.2.1 dX4_weigh_115 rfl (lv_at hl 4 rfl) ?_
              refine lv_iload SS.1 SS.2.1 dX4_weigh_116 (lv_at hl 2 rfl) ?_
              refine j_put SS hG hP (cW_D hD) hS 3 (v := .int (J (-a))) (ty := .int) (C := RX4) (T := TX4) (N := 3) rfl rfl inX4 tyX4 tyX4_ok nmX4 1 (by decide) (ref := "GridPolygons$LeastWidth") kw_196 rfl rfl (by decide +kernel) rfl rfl (Nat.le_of_ble_eq_true rfl) dX4_weigh_118 (ws' := (cW D q (sV (sV u 1 z_59) 2 (-a)))) rfl (fun H locs hP hS => ?_)
              refine lv_aload_n SS.1 SS.2.1 dX4_weigh_121 rfl (lv_at hl 4 rfl) ?_
              refine lv_iload SS.1 SS.2.1 dX4_weigh_122 (lv_at hl 1 rfl) ?_
              refine j_put SS hG hP (cW_D hD) hS 3 (v := .int (J (-b))) (ty := .int) (C := RX4) (T := TX4) (N := 3) rfl rfl inX4 tyX4 tyX4_ok nmX4 2 (by decide) (ref := "GridPolygons$LeastWidth") kw_198 rfl rfl (by decide +kernel) rfl rfl (Nat.le_of_ble_eq_true rfl) dX4_weigh_124 (ws' := (cW D q (sV (sV (sV u 1 z_59) 2 (-a)) 3 (-b)))) rfl (fun H locs hP hS => ?_)
              exact W.vret SS.1 SS.2.1 hr (fun t0 ht hW => ⟨⟨(sV (sV (sV u 1 z_59) 2 (-a)) 3 (-b)), rfl, (⟨z_59, (-a), (-b), rfl, by first | exact ⟨Or.inl ⟨by omega, by omega, rfl, rfl, rfl⟩, by omega⟩ | exact ⟨Or.inr ⟨_, _, _, by first | exact Or.inl ⟨rfl, rfl⟩ | exact Or.inr ⟨rfl, rfl⟩, by unfold nrm; omega, h_59.1, by first | exact Or.inl ⟨by unfold lt3; omega, rfl, rfl, rfl⟩ | exact Or.inr ⟨by unfold lt3; omega, rfl, rfl, rfl⟩⟩, by omega⟩⟩), by show va_P D.1 j_cl (cW D q (sV (sV (sV u 1 z_59) 2 (-a)) 3 (-b))) t0.heap; rw [ht]; first | exact hP | (simp only [sC_id, sX_id, sY_id, sH_id, sT_id, sV_id]; exact hP)⟩, hS.F ht⟩) hS.2.2 dX4_weigh_127 hlk
            · skip
              refine lv_iload SS.1 SS.2.1 dX4_weigh_91 (lv_at hl 2 rfl) ?_
              refine lv_aload_n SS.1 SS.2.1 dX4_weigh_93 rfl (lv_at hl 4 rfl) ?_
              refine j_get SS hG hP 3 (v := .int (J (u.2.2.2 2))) (C := RX4) (T := TX4) (N := 3) rfl rfl inX4 1 (by decide) (ref := "GridPolygons$LeastWidth") kw_196 rfl rfl dX4_weigh_94 ?_
              refine j_icmp_ne SS (tgt := 127) (x := (-a)) (y := (u.2.2.2 2)) dX4_weigh_97 (by decide) (by omega) (by omega) (fun c_97 => ?_) (fun c_97 => ?_)
              · skip
                exact W.vret SS.1 SS.2.1 hr (fun t0 ht hW => ⟨⟨(sV (sV (sV u 1 (u.2.2.2 1)) 2 (u.2.2.2 2)) 3 (u.2.2.2 3)), rfl, (⟨(u.2.2.2 1), (u.2.2.2 2), (u.2.2.2 3), rfl, by first | exact ⟨Or.inl ⟨by omega, by omega, rfl, rfl, rfl⟩, by omega⟩ | exact ⟨Or.inr ⟨_, _, _, by first | exact Or.inl ⟨rfl, rfl⟩ | exact Or.inr ⟨rfl, rfl⟩, by unfold nrm; omega, h_59.1, by first | exact Or.inl ⟨by unfold lt3; omega, rfl, rfl, rfl⟩ | exact Or.inr ⟨by unfold lt3; omega, rfl, rfl, rfl⟩⟩, by omega⟩⟩), by show va_P D.1 j_cl (cW D q (sV (sV (sV u 1 (u.2.2.2 1)) 2 (u.2.2.2 2)) 3 (u.2.2.2 3))) t0.heap; rw [ht]; first | exact hP | (simp only [sC_id, sX_id, sY_id, sH_id, sT_id, sV_id]; exact hP)⟩, hS.F ht⟩) hS.2.2 dX4_weigh_127 hlk
              · skip
                refine lv_iload SS.1 SS.2.1 dX4_weigh_100 (lv_at hl 1 rfl) ?_
                refine lv_aload_n SS.1 SS.2.1 dX4_weigh_102 rfl (lv_at hl 4 rfl) ?_
                refine j_get SS hG hP 3 (v := .int (J (u.2.2.2 3))) (C := RX4) (T := TX4) (N := 3) rfl rfl inX4 2 (by decide) (ref := "GridPolygons$LeastWidth") kw_198 rfl rfl dX4_weigh_103 ?_
                refine j_icmp_ge SS (tgt := 127) (x := (-b)) (y := (u.2.2.2 3)) dX4_weigh_106 (by decide) (by omega) (by omega) (fun c_106 => ?_) (fun c_106 => ?_)
                · skip
                  exact W.vret SS.1 SS.2.1 hr (fun t0 ht hW => ⟨⟨(sV (sV (sV u 1 (u.2.2.2 1)) 2 (u.2.2.2 2)) 3 (u.2.2.2 3)), rfl, (⟨(u.2.2.2 1), (u.2.2.2 2), (u.2.2.2 3), rfl, by first | exact ⟨Or.inl ⟨by omega, by omega, rfl, rfl, rfl⟩, by omega⟩ | exact ⟨Or.inr ⟨_, _, _, by first | exact Or.inl ⟨rfl, rfl⟩ | exact Or.inr ⟨rfl, rfl⟩, by unfold nrm; omega, h_59.1, by first | exact Or.inl ⟨by unfold lt3; omega, rfl, rfl, rfl⟩ | exact Or.inr ⟨by unfold lt3; omega, rfl, rfl, rfl⟩⟩, by omega⟩⟩), by show va_P D.1 j_cl (cW D q (sV (sV (sV u 1 (u.2.2.2 1)) 2 (u.2.2.2 2)) 3 (u.2.2.2 3))) t0.heap; rw [ht]; first | exact hP | (simp only [sC_id, sX_id, sY_id, sH_id, sT_id, sV_id]; exact hP)⟩, hS.F ht⟩) hS.2.2 dX4_weigh_127 hlk
                · skip
                  refine lv_aload_n SS.1 SS.2.1 dX4_weigh_109 rfl (lv_at hl 4 rfl) ?_
                  refine lv_iload SS.1 SS.2.1 dX4_weigh_110 (lv_at hl 0 rfl) ?_
                  refine j_put SS hG hP (cW_D hD) hS 3 (v := .int (J z_59)) (ty := .int) (C := RX4) (T := TX4) (N := 3) rfl rfl inX4 tyX4 tyX4_ok nmX4 0 (by decide) (ref := "GridPolygons$LeastWidth") kw_194 rfl rfl (by decide +kernel) rfl rfl (Nat.le_of_ble_eq_true rfl) dX4_weigh_112 (ws' := (cW D q (sV u 1 z_59))) rfl (fun H locs hP hS => ?_)
                  refine lv_aload_n SS.1 SS.2.1 dX4_weigh_115 rfl (lv_at hl 4 rfl) ?_
                  refine lv_iload SS.1 SS.2.1 dX4_weigh_116 (lv_at hl 2 rfl) ?_
                  refine j_put SS hG hP (cW_D hD) hS 3 (v := .int (J (-a))) (ty := .int) (C := RX4) (T := TX4) (N := 3) rfl rfl inX4 tyX4 tyX4_ok nmX4 1 (by decide) (ref := "GridPolygons$LeastWidth") kw_196 rfl rfl (by decide +kernel) rfl rfl (Nat.le_of_ble_eq_true rfl) dX4_weigh_118 (ws' := (cW D q (sV (sV u 1 z_59) 2 (-a)))) rfl (fun H locs hP hS => ?_)
                  refine lv_aload_n SS.1 SS.2.1 dX4_weigh_121 rfl (lv_at hl 4 rfl) ?_
                  refine lv_iload SS.1 SS.2.1 dX4_weigh_122 (lv_at hl 1 rfl) ?_
                  refine j_put SS hG hP (cW_D hD) hS 3 (v := .int (J (-b))) (ty := .int) (C := RX4) (T := TX4) (N := 3) rfl rfl inX4 tyX4 tyX4_ok nmX4 2 (by decide) (ref := "GridPolygons$LeastWidth") kw_198 rfl rfl (by decide +kernel) rfl rfl (Nat.le_of_ble_eq_true rfl) dX4_weigh_124 (ws' := (cW D q (sV (sV (sV u 1 z_59) 2 (-a)) 3 (-b)))) rfl (fun H locs hP hS => ?_)
                  exact W.vret SS.1 SS.2.1 hr (fun t0 ht hW => ⟨⟨(sV (sV (sV u 1 z_59) 2 (-a)) 3 (-b)), rfl, (⟨z_59, (-a), (-b), rfl, by first | exact ⟨Or.inl ⟨by omega, by omega, rfl, rfl, rfl⟩, by omega⟩ | exact ⟨Or.inr ⟨_, _, _, by first | exact Or.inl ⟨rfl, rfl⟩ | exact Or.inr ⟨rfl, rfl⟩, by unfold nrm; omega, h_59.1, by first | exact Or.inl ⟨by unfold lt3; omega, rfl, rfl, rfl⟩ | exact Or.inr ⟨by unfold lt3; omega, rfl, rfl, rfl⟩⟩, by omega⟩⟩), by show va_P D.1 j_cl (cW D q (sV (sV (sV u 1 z_59) 2 (-a)) 3 (-b))) t0.heap; rw [ht]; first | exact hP | (simp only [sC_id, sX_id, sY_id, sH_id, sT_id, sV_id]; exact hP)⟩, hS.F ht⟩) hS.2.2 dX4_weigh_127 hlk
      · skip
        refine lv_iload_n SS.1 SS.2.1 dX4_weigh_17 rfl (lv_at hl 3 rfl) ?_
        refine j_if_le SS (tgt := 25) (x := b) dX4_weigh_18 (by decide) (by omega) (fun c_18 => ?_) (fun c_18 => ?_)
        · skip
          refine j_iconst SS dX4_weigh_25 ?_
          refine lv_istore (lv' := [(4, .int (J 0)), (0, .ref (q 3)), (1, .ref (q (9 + 5 * r))), (2, .int (J a)), (3, .int (J b))]) SS.1 SS.2.1 dX4_weigh_26 hl (by decide) rfl (fun ls hl => ?_)
          refine lv_iload SS.1 SS.2.1 dX4_weigh_28 (lv_at hl 0 rfl) ?_
          refine j_if_eq SS (tgt := 37) dX4_weigh_30 (by decide) (by decide) (fun c_30 => ?_) (fun c_30 => absurd c_30 (by decide))
          refine lv_iload_n SS.1 SS.2.1 dX4_weigh_37 rfl (lv_at hl 3 rfl) ?_
          refine j_ineg SS dX4_weigh_38 ?_
          refine lv_istore (lv' := [(5, .int (J (-a))), (4, .int (J 0)), (0, .ref (q 3)), (1, .ref (q (9 + 5 * r))), (2, .int (J a)), (3, .int (J b))]) SS.1 SS.2.1 dX4_weigh_39 hl (by decide) rfl (fun ls hl => ?_)
          refine lv_iload SS.1 SS.2.1 dX4_weigh_41 (lv_at hl 1 rfl) ?_
          refine j_if_eq SS (tgt := 50) dX4_weigh_43 (by decide) (by decide) (fun c_43 => ?_) (fun c_43 => absurd c_43 (by decide))
          refine lv_iload_n SS.1 SS.2.1 dX4_weigh_50 rfl (lv_at hl 5 rfl) ?_
          refine j_ineg SS dX4_weigh_51 ?_
          refine lv_istore (lv' := [(6, .int (J (-b))), (5, .int (J (-a))), (4, .int (J 0)), (0, .ref (q 3)), (1, .ref (q (9 + 5 * r))), (2, .int (J a)), (3, .int (J b))]) SS.1 SS.2.1 dX4_weigh_52 hl (by decide) rfl (fun ls hl => ?_)
          refine lv_aload_n SS.1 SS.2.1 dX4_weigh_54 rfl (lv_at hl 4 rfl) ?_
          refine lv_iload SS.1 SS.2.1 dX4_weigh_55 (lv_at hl 1 rfl) ?_
          refine lv_iload SS.1 SS.2.1 dX4_weigh_57 (lv_at hl 0 rfl) ?_
          refine j_vRi SS (As := [.int (J (-a)), .int (J (-b))]) (rest := []) (c_X7_across2 l D q u r (by omega) (40 : Int) (-a) (-b) (show 0 ≤ (40 : Int) ∧ (40 : Int) ≤ 80 from (by omega)) (show RB (40 : Int) u r from (p0)) (show -20000 ≤ (-a) ∧ (-a) ≤ 20000 from (by omega)) (show -20000 ≤ (-b) ∧ (-b) ≤ 20000 from (by omega)) (show 1 ≤ (u.1.2.2.1 r) from (p4))) mf_X7_across kw_643 hG hP hP (ci := 7) (q0 := (9 + 5 * r)) rfl (cw_ring (by omega)) rfl rfl hl.1 ⟨⟨Nat.le_of_ble_eq_true rfl, Nat.le_of_ble_eq_true rfl⟩, Nat.le_of_ble_eq_true rfl, Nat.le_refl _, Nat.le_refl _⟩ rfl dX4_weigh_59 (fun z_59 h_59 => ?_)
          have h_59 : spR u r (-a) (-b) z_59 ∧ -6400000 ≤ z_59 ∧ z_59 ≤ 6400000 := h_59
          have h0_59 := spR_0 h_59.1
          refine lv_istore (lv' := [(7, .int (J z_59)), (6, .int (J (-b))), (5, .int (J (-a))), (4, .int (J 0)), (0, .ref (q 3)), (1, .ref (q (9 + 5 * r))), (2, .int (J a)), (3, .int (J b))]) SS.1 SS.2.1 dX4_weigh_62 hl (by decide) rfl (fun ls hl => ?_)
          refine lv_iload SS.1 SS.2.1 dX4_weigh_64 (lv_at hl 0 rfl) ?_
          refine lv_aload_n SS.1 SS.2.1 dX4_weigh_66 rfl (lv_at hl 4 rfl) ?_
          refine j_get SS hG hP 3 (v := .int (J (u.2.2.2 1))) (C := RX4) (T := TX4) (N := 3) rfl rfl inX4 0 (by decide) (ref := "GridPolygons$LeastWidth") kw_194 rfl rfl dX4_weigh_67 ?_
          refine j_icmp_lt SS (tgt := 109) (x := z_59) (y := (u.2.2.2 1)) dX4_weigh_70 (by decide) (by omega) (by omega) (fun c_70 => ?_) (fun c_70 => ?_)
          · skip
            refine lv_aload_n SS.1 SS.2.1 dX4_weigh_109 rfl (lv_at hl 4 rfl) ?_
            refine lv_iload SS.1 SS.2.1 dX4_weigh_110 (lv_at hl 0 rfl) ?_
            refine j_put SS hG hP (cW_D hD) hS 3 (v := .int (J z_59)) (ty := .int) (C := RX4) (T := TX4) (N := 3) rfl rfl inX4 tyX4 tyX4_ok nmX4 0 (by decide) (ref := "GridPolygons$LeastWidth") kw_194 rfl rfl (by decide +kernel) rfl rfl (Nat.le_of_ble_eq_true rfl) dX4_weigh_112 (ws' := (cW D q (sV u 1 z_59))) rfl (fun H locs hP hS => ?_)
            refine lv_aload_n SS.1 SS.2.1 dX4_weigh_115 rfl (lv_at hl 4 rfl) ?_
            refine lv_iload SS.1 SS.2.1 dX4_weigh_116 (lv_at hl 2 rfl) ?_
            refine j_put SS hG hP (cW_D hD) hS 3 (v := .int (J (-a))) (ty := .int) (C := RX4) (T := TX4) (N := 3) rfl rfl inX4 tyX4 tyX4_ok nmX4 1 (by decide) (ref := "GridPolygons$LeastWidth") kw_196 rfl rfl (by decide +kernel) rfl rfl (Nat.le_of_ble_eq_true rfl) dX4_weigh_118 (ws' := (cW D q (sV (sV u 1 z_59) 2 (-a)))) rfl (fun H locs hP hS => ?_)
            refine lv_aload_n SS.1 SS.2.1 dX4_weigh_121 rfl (lv_at hl 4 rfl) ?_
            refine lv_iload SS.1 SS.2.1 dX4_weigh_122 (lv_at hl 1 rfl) ?_
            refine j_put SS hG hP (cW_D hD) hS 3 (v := .int (J (-b))) (ty := .int) (C := RX4) (T := TX4) (N := 3) rfl rfl inX4 tyX4 tyX4_ok nmX4 2 (by decide) (ref := "GridPolygons$LeastWidth") kw_198 rfl rfl (by decide +kernel) rfl rfl (Nat.le_of_ble_eq_true rfl) dX4_weigh_124 (ws' := (cW D q (sV (sV (sV u 1 z_59) 2 (-a)) 3 (-b)))) rfl (fun H locs hP hS => ?_)
            exact W.vret SS.1 SS.2.1 hr (fun t0 ht hW => ⟨⟨(sV (sV (sV u 1 z_59) 2 (-a)) 3 (-b)), rfl, (⟨z_59, (-a), (-b), rfl, by first | exact ⟨Or.inl ⟨by omega, by omega, rfl, rfl, rfl⟩, by omega⟩ | exact ⟨Or.inr ⟨_, _, _, by first | exact Or.inl ⟨rfl, rfl⟩ | exact Or.inr ⟨rfl, rfl⟩, by unfold nrm; omega, h_59.1, by first | exact Or.inl ⟨by unfold lt3; omega, rfl, rfl, rfl⟩ | exact Or.inr ⟨by unfold lt3; omega, rfl, rfl, rfl⟩⟩, by omega⟩⟩), by show va_P D.1 j_cl (cW D q (sV (sV (sV u 1 z_59) 2 (-a)) 3 (-b))) t0.heap; rw [ht]; first | exact hP | (simp only [sC_id, sX_id, sY_id, sH_id, sT_id, sV_id]; exact hP)⟩, hS.F ht⟩) hS.2.2 dX4_weigh_127 hlk
          · skip
            refine lv_iload SS.1 SS.2.1 dX4_weigh_73 (lv_at hl 0 rfl) ?_
            refine lv_aload_n SS.1 SS.2.1 dX4_weigh_75 rfl (lv_at hl 4 rfl) ?_
            refine j_get SS hG hP 3 (v := .int (J (u.2.2.2 1))) (C := RX4) (T := TX4) (N := 3) rfl rfl inX4 0 (by decide) (ref := "GridPolygons$LeastWidth") kw_194 rfl rfl dX4_weigh_76 ?_
            refine j_icmp_ne SS (tgt := 127) (x := z_59) (y := (u.2.2.2 1)) dX4_weigh_79 (by decide) (by omega) (by omega) (fun c_79 => ?_) (fun c_79 => ?_)
            · skip
              exact W.vret SS.1 SS.2.1 hr (fun t0 ht hW => ⟨⟨(sV (sV (sV u 1 (u.2.2.2 1)) 2 (u.2.2.2 2)) 3 (u.2.2.2 3)), rfl, (⟨(u.2.2.2 1), (u.2.2.2 2), (u.2.2.2 3), rfl, by first | exact ⟨Or.inl ⟨by omega, by omega, rfl, rfl, rfl⟩, by omega⟩ | exact ⟨Or.inr ⟨_, _, _, by first | exact Or.inl ⟨rfl, rfl⟩ | exact Or.inr ⟨rfl, rfl⟩, by unfold nrm; omega, h_59.1, by first | exact Or.inl ⟨by unfold lt3; omega, rfl, rfl, rfl⟩ | exact Or.inr ⟨by unfold lt3; omega, rfl, rfl, rfl⟩⟩, by omega⟩⟩), by show va_P D.1 j_cl (cW D q (sV (sV (sV u 1 (u.2.2.2 1)) 2 (u.2.2.2 2)) 3 (u.2.2.2 3))) t0.heap; rw [ht]; first | exact hP | (simp only [sC_id, sX_id, sY_id, sH_id, sT_id, sV_id]; exact hP)⟩, hS.F ht⟩) hS.2.2 dX4_weigh_127 hlk
            · skip
              refine lv_iload SS.1 SS.2.1 dX4_weigh_82 (lv_at hl 2 rfl) ?_
              refine lv_aload_n SS.1 SS.2.1 dX4_weigh_84 rfl (lv_at hl 4 rfl) ?_
              refine j_get SS hG hP 3 (v := .int (J (u.2.2.2 2))) (C := RX4) (T := TX4) (N := 3) rfl rfl inX4 1 (by decide) (ref := "GridPolygons$LeastWidth") kw_196 rfl rfl dX4_weigh_85 ?_
              refine j_icmp_lt SS (tgt := 109) (x := (-a)) (y := (u.2.2.2 2)) dX4_weigh_88 (by decide) (by omega) (by omega) (fun c_88 => ?_) (fun c_88 => ?_)
              · skip
                refine lv_aload_n SS.1 SS.2.1 dX4_weigh_109 rfl (lv_at hl 4 rfl) ?_
                refine lv_iload SS.1 SS.2.1 dX4_weigh_110 (lv_at hl 0 rfl) ?_
                refine j_put SS hG hP (cW_D hD) hS 3 (v := .int (J z_59)) (ty := .int) (C := RX4) (T := TX4) (N := 3) rfl rfl inX4 tyX4 tyX4_ok nmX4 0 (by decide) (ref := "GridPolygons$LeastWidth") kw_194 rfl rfl (by decide +kernel) rfl rfl (Nat.le_of_ble_eq_true rfl) dX4_weigh_112 (ws' := (cW D q (sV u 1 z_59))) rfl (fun H locs hP hS => ?_)
                refine lv_aload_n SS.1 SS.2.1 dX4_weigh_115 rfl (lv_at hl 4 rfl) ?_
                refine lv_iload SS.1 SS.2.1 dX4_weigh_116 (lv_at hl 2 rfl) ?_
                refine j_put SS hG hP (cW_D hD) hS 3 (v := .int (J (-a))) (ty := .int) (C := RX4) (T := TX4) (N := 3) rfl rfl inX4 tyX4 tyX4_ok nmX4 1 (by decide) (ref := "GridPolygons$LeastWidth") kw_196 rfl rfl (by decide +kernel) rfl rfl (Nat.le_of_ble_eq_true rfl) dX4_weigh_118 (ws' := (cW D q (sV (sV u 1 z_59) 2 (-a)))) rfl (fun H locs hP hS => ?_)
                refine lv_aload_n SS.1 SS.2.1 dX4_weigh_121 rfl (lv_at hl 4 rfl) ?_
                refine lv_iload SS.1 SS.2.1 dX4_weigh_122 (lv_at hl 1 rfl) ?_
                refine j_put SS hG hP (cW_D hD) hS 3 (v := .int (J (-b))) (ty := .int) (C := RX4) (T := TX4) (N := 3) rfl rfl inX4 tyX4 tyX4_ok nmX4 2 (by decide) (ref := "GridPolygons$LeastWidth") kw_198 rfl rfl (by decide +kernel) rfl rfl (Nat.le_of_ble_eq_true rfl) dX4_weigh_124 (ws' := (cW D q (sV (sV (sV u 1 z_59) 2 (-a)) 3 (-b)))) rfl (fun H locs hP hS => ?_)
                exact W.vret SS.1 SS.2.1 hr (fun t0 ht hW => ⟨⟨(sV (sV (sV u 1 z_59) 2 (-a)) 3 (-b)), rfl, (⟨z_59, (-a), (-b), rfl, by first | exact ⟨Or.inl ⟨by omega, by omega, rfl, rfl, rfl⟩, by omega⟩ | exact ⟨Or.inr ⟨_, _, _, by first | exact Or.inl ⟨rfl, rfl⟩ | exact Or.inr ⟨rfl, rfl⟩, by unfold nrm; omega, h_59.1, by first | exact Or.inl ⟨by unfold lt3; omega, rfl, rfl, rfl⟩ | exact Or.inr ⟨by unfold lt3; omega, rfl, rfl, rfl⟩⟩, by omega⟩⟩), by show va_P D.1 j_cl (cW D q (sV (sV (sV u 1 z_59) 2 (-a)) 3 (-b))) t0.heap; rw [ht]; first | exact hP | (simp only [sC_id, sX_id, sY_id, sH_id, sT_id, sV_id]; exact hP)⟩, hS.F ht⟩) hS.2.2 dX4_weigh_127 hlk
              · skip
                refine lv_iload SS.1 SS.2.1 dX4_weigh_91 (lv_at hl 2 rfl) ?_
                refine lv_aload_n SS.1 SS.2.1 dX4_weigh_93 rfl (lv_at hl 4 rfl) ?_
                refine j_get SS hG hP 3 (v := .int (J (u.2.2.2 2))) (C := RX4) (T := TX4) (N := 3) rfl rfl inX4 1 (by decide) (ref := "GridPolygons$LeastWidth") kw_196 rfl rfl dX4_weigh_94 ?_
                refine j_icmp_ne SS (tgt := 127) (x := (-a)) (y := (u.2.2.2 2)) dX4_weigh_97 (by decide) (by omega) (by omega) (fun c_97 => ?_) (fun c_97 => ?_)
                · skip
                  exact W.vret SS.1 SS.2.1 hr (fun t0 ht hW => ⟨⟨(sV (sV (sV u 1 (u.2.2.2 1)) 2 (u.2.2.2 2)) 3 (u.2.2.2 3)), rfl, (⟨(u.2.2.2 1), (u.2.2.2 2), (u.2.2.2 3), rfl, by first | exact ⟨Or.inl ⟨by omega, by omega, rfl, rfl, rfl⟩, by omega⟩ | exact ⟨Or.inr ⟨_, _, _, by first | exact Or.inl ⟨rfl, rfl⟩ | exact Or.inr ⟨rfl, rfl⟩, by unfold nrm; omega, h_59.1, by first | exact Or.inl ⟨by unfold lt3; omega, rfl, rfl, rfl⟩ | exact Or.inr ⟨by unfold lt3; omega, rfl, rfl, rfl⟩⟩, by omega⟩⟩), by show va_P D.1 j_cl (cW D q (sV (sV (sV u 1 (u.2.2.2 1)) 2 (u.2.2.2 2)) 3 (u.2.2.2 3))) t0.heap; rw [ht]; first | exact hP | (simp only [sC_id, sX_id, sY_id, sH_id, sT_id, sV_id]; exact hP)⟩, hS.F ht⟩) hS.2.2 dX4_weigh_127 hlk
                · skip
                  refine lv_iload SS.1 SS.2.1 dX4_weigh_100 (lv_at hl 1 rfl) ?_
                  refine lv_aload_n SS.1 SS.2.1 dX4_weigh_102 rfl (lv_at hl 4 rfl) ?_
                  refine j_get SS hG hP 3 (v := .int (J (u.2.2.2 3))) (C := RX4) (T := TX4) (N := 3) rfl rfl inX4 2 (by decide) (ref := "GridPolygons$LeastWidth") kw_198 rfl rfl dX4_weigh_103 ?_
                  refine j_icmp_ge SS (tgt := 127) (x := (-b)) (y := (u.2.2.2 3)) dX4_weigh_106 (by decide) (by omega) (by omega) (fun c_106 => ?_) (fun c_106 => ?_)
                  · skip
                    exact W.vret SS.1 SS.2.1 hr (fun t0 ht hW => ⟨⟨(sV (sV (sV u 1 (u.2.2.2 1)) 2 (u.2.2.2 2)) 3 (u.2.2.2 3)), rfl, (⟨(u.2.2.2 1), (u.2.2.2 2), (u.2.2.2 3), rfl, by first | exact ⟨Or.inl ⟨by omega, by omega, rfl, rfl, rfl⟩, by omega⟩ | exact ⟨Or.inr ⟨_, _, _, by first | exact Or.inl ⟨rfl, rfl⟩ | exact Or.inr ⟨rfl, rfl⟩, by unfold nrm; omega, h_59.1, by first | exact Or.inl ⟨by unfold lt3; omega, rfl, rfl, rfl⟩ | exact Or.inr ⟨by unfold lt3; omega, rfl, rfl, rfl⟩⟩, by omega⟩⟩), by show va_P D.1 j_cl (cW D q (sV (sV (sV u 1 (u.2.2.2 1)) 2 (u.2.2.2 2)) 3 (u.2.2.2 3))) t0.heap; rw [ht]; first | exact hP | (simp only [sC_id, sX_id, sY_id, sH_id, sT_id, sV_id]; exact hP)⟩, hS.F ht⟩) hS.2.2 dX4_weigh_127 hlk
                  · skip
                    refine lv_aload_n SS.1 SS.2.1 dX4_weigh_109 rfl (lv_at hl 4 rfl) ?_
                    refine lv_iload SS.1 SS.2.1 dX4_weigh_110 (lv_at hl 0 rfl) ?_
                    refine j_put SS hG hP (cW_D hD) hS 3 (v := .int (J z_59)) (ty := .int) (C := RX4) (T := TX4) (N := 3) rfl rfl inX4 tyX4 tyX4_ok nmX4 0 (by decide) (ref := "GridPolygons$LeastWidth") kw_194 rfl rfl (by decide +kernel) rfl rfl (Nat.le_of_ble_eq_true rfl) dX4_weigh_112 (ws' := (cW D q (sV u 1 z_59))) rfl (fun H locs hP hS => ?_)
                    refine lv_aload_n SS.1 SS.2.1 dX4_weigh_115 rfl (lv_at hl 4 rfl) ?_
                    refine lv_iload SS.1 SS.2.1 dX4_weigh_116 (lv_at hl 2 rfl) ?_
                    refine j_put SS hG hP (cW_D hD) hS 3 (v := .int (J (-a))) (ty := .int) (C := RX4) (T := TX4) (N := 3) rfl rfl inX4 tyX4 tyX4_ok nmX4 1 (by decide) (ref := "GridPolygons$LeastWidth") kw_196 rfl rfl (by decide +kernel) rfl rfl (Nat.le_of_ble_eq_true rfl) dX4_weigh_118 (ws' := (cW D q (sV (sV u 1 z_59) 2 (-a)))) rfl (fun H locs hP hS => ?_)
                    refine lv_aload_n SS.1 SS.2.1 dX4_weigh_121 rfl (lv_at hl 4 rfl) ?_
                    refine lv_iload SS.1 SS.2.1 dX4_weigh_122 (lv_at hl 1 rfl) ?_
                    refine j_put SS hG hP (cW_D hD) hS 3 (v := .int (J (-b))) (ty := .int) (C := RX4) (T := TX4) (N := 3) rfl rfl inX4 tyX4 tyX4_ok nmX4 2 (by decide) (ref := "GridPolygons$LeastWidth") kw_198 rfl rfl (by decide +kernel) rfl rfl (Nat.le_of_ble_eq_true rfl) dX4_weigh_124 (ws' := (cW D q (sV (sV (sV u 1 z_59) 2 (-a)) 3 (-b)))) rfl (fun H locs hP hS => ?_)
                    exact W.vret SS.1 SS.2.1 hr (fun t0 ht hW => ⟨⟨(sV (sV (sV u 1 z_59) 2 (-a)) 3 (-b)), rfl, (⟨z_59, (-a), (-b), rfl, by first | exact ⟨Or.inl ⟨by omega, by omega, rfl, rfl, rfl⟩, by omega⟩ | exact ⟨Or.inr ⟨_, _, _, by first | exact Or.inl ⟨rfl, rfl⟩ | exact Or.inr ⟨rfl, rfl⟩, by unfold nrm; omega, h_59.1, by first | exact Or.inl ⟨by unfold lt3; omega, rfl, rfl, rfl⟩ | exact Or.inr ⟨by unfold lt3; omega, rfl, rfl, rfl⟩⟩, by omega⟩⟩), by show va_P D.1 j_cl (cW D q (sV (sV (sV u 1 z_59) 2 (-a)) 3 (-b))) t0.heap; rw [ht]; first | exact hP | (simp only [sC_id, sX_id, sY_id, sH_id, sT_id, sV_id]; exact hP)⟩, hS.F ht⟩) hS.2.2 dX4_weigh_127 hlk
        · skip
          refine j_iconst SS dX4_weigh_21 ?_
          refine lv_goto (tgt := 26) SS.1 SS.2.1 dX4_weigh_22 (by decide) ?_
          refine lv_istore (lv' := [(4, .int (J 1)), (0, .ref (q 3)), (1, .ref (q (9 + 5 * r))), (2, .int (J a)), (3, .int (J b))]) SS.1 SS.2.1 dX4_weigh_26 hl (by decide) rfl (fun ls hl => ?_)
          refine lv_iload SS.1 SS.2.1 dX4_weigh_28 (lv_at hl 0 rfl) ?_
          refine j_if_eq SS (tgt := 37) dX4_weigh_30 (by decide) (by decide) (fun c_30 => absurd c_30 (by decide)) (fun c_30 => ?_)
          refine lv_iload_n SS.1 SS.2.1 dX4_weigh_33 rfl (lv_at hl 3 rfl) ?_
          refine lv_goto (tgt := 39) SS.1 SS.2.1 dX4_weigh_34 (by decide) ?_
          refine lv_istore (lv' := [(5, .int (J a)), (4, .int (J 1)), (0, .ref (q 3)), (1, .ref (q (9 + 5 * r))), (2, .int (J a)), (3, .int (J b))]) SS.1 SS.2.1 dX4_weigh_39 hl (by decide) rfl (fun ls hl => ?_)
          refine lv_iload SS.1 SS.2.1 dX4_weigh_41 (lv_at hl 1 rfl) ?_
          refine j_if_eq SS (tgt := 50) dX4_weigh_43 (by decide) (by decide) (fun c_43 => absurd c_43 (by decide)) (fun c_43 => ?_)
          refine lv_iload_n SS.1 SS.2.1 dX4_weigh_46 rfl (lv_at hl 5 rfl) ?_
          refine lv_goto (tgt := 52) SS.1 SS.2.1 dX4_weigh_47 (by decide) ?_
          refine lv_istore (lv' := [(6, .int (J b)), (5, .int (J a)), (4, .int (J 1)), (0, .ref (q 3)), (1, .ref (q (9 + 5 * r))), (2, .int (J a)), (3, .int (J b))]) SS.1 SS.2.1 dX4_weigh_52 hl (by decide) rfl (fun ls hl => ?_)
          refine lv_aload_n SS.1 SS.2.1 dX4_weigh_54 rfl (lv_at hl 4 rfl) ?_
          refine lv_iload SS.1 SS.2.1 dX4_weigh_55 (lv_at hl 1 rfl) ?_
          refine lv_iload SS.1 SS.2.1 dX4_weigh_57 (lv_at hl 0 rfl) ?_
          refine j_vRi SS (As := [.int (J a), .int (J b)]) (rest := []) (c_X7_across2 l D q u r (by omega) (40 : Int) a b (show 0 ≤ (40 : Int) ∧ (40 : Int) ≤ 80 from (by omega)) (show RB (40 : Int) u r from (p0)) (show -20000 ≤ a ∧ a ≤ 20000 from (p1)) (show -20000 ≤ b ∧ b ≤ 20000 from (p2)) (show 1 ≤ (u.1.2.2.1 r) from (p4))) mf_X7_across kw_643 hG hP hP (ci := 7) (q0 := (9 + 5 * r)) rfl (cw_ring (by omega)) rfl rfl hl.1 ⟨⟨Nat.le_of_ble_eq_true rfl, Nat.le_of_ble_eq_true rfl⟩, Nat.le_of_ble_eq_true rfl, Nat.le_refl _, Nat.le_refl _⟩ rfl dX4_weigh_59 (fun z_59 h_59 => ?_)
          have h_59 : spR u r a b z_59 ∧ -6400000 ≤ z_59 ∧ z_59 ≤ 6400000 := h_59
          have h0_59 := spR_0 h_59.1
          refine lv_istore (lv' := [(7, .int (J z_59)), (6, .int (J b)), (5, .int (J a)), (4, .int (J 1)), (0, .ref (q 3)), (1, .ref (q (9 + 5 * r))), (2, .int (J a)), (3, .int (J b))]) SS.1 SS.2.1 dX4_weigh_62 hl (by decide) rfl (fun ls hl => ?_)
          refine lv_iload SS.1 SS.2.1 dX4_weigh_64 (lv_at hl 0 rfl) ?_
          refine lv_aload_n SS.1 SS.2.1 dX4_weigh_66 rfl (lv_at hl 4 rfl) ?_
          refine j_get SS hG hP 3 (v := .int (J (u.2.2.2 1))) (C := RX4) (T := TX4) (N := 3) rfl rfl inX4 0 (by decide) (ref := "GridPolygons$LeastWidth") kw_194 rfl rfl dX4_weigh_67 ?_
          refine j_icmp_lt SS (tgt := 109) (x := z_59) (y := (u.2.2.2 1)) dX4_weigh_70 (by decide) (by omega) (by omega) (fun c_70 => ?_) (fun c_70 => ?_)
          · skip
            refine lv_aload_n SS.1 SS.2.1 dX4_weigh_109 rfl (lv_at hl 4 rfl) ?_
            refine lv_iload SS.1 SS.2.1 dX4_weigh_110 (lv_at hl 0 rfl) ?_
            refine j_put SS hG hP (cW_D hD) hS 3 (v := .int (J z_59)) (ty := .int) (C := RX4) (T := TX4) (N := 3) rfl rfl inX4 tyX4 tyX4_ok nmX4 0 (by decide) (ref := "GridPolygons$LeastWidth") kw_194 rfl rfl (by decide +kernel) rfl rfl (Nat.le_of_ble_eq_true rfl) dX4_weigh_112 (ws' := (cW D q (sV u 1 z_59))) rfl (fun H locs hP hS => ?_)
            refine lv_aload_n SS.1 SS.2.1 dX4_weigh_115 rfl (lv_at hl 4 rfl) ?_
            refine lv_iload SS.1 SS.2.1 dX4_weigh_116 (lv_at hl 2 rfl) ?_
            refine j_put SS hG hP (cW_D hD) hS 3 (v := .int (J a)) (ty := .int) (C := RX4) (T := TX4) (N := 3) rfl rfl inX4 tyX4 tyX4_ok nmX4 1 (by decide) (ref := "GridPolygons$LeastWidth") kw_196 rfl rfl (by decide +kernel) rfl rfl (Nat.le_of_ble_eq_true rfl) dX4_weigh_118 (ws' := (cW D q (sV (sV u 1 z_59) 2 a))) rfl (fun H locs hP hS => ?_)
            refine lv_aload_n SS.1 SS.2.1 dX4_weigh_121 rfl (lv_at hl 4 rfl) ?_
            refine lv_iload SS.1 SS.2.1 dX4_weigh_122 (lv_at hl 1 rfl) ?_
            refine j_put SS hG hP (cW_D hD) hS 3 (v := .int (J b)) (ty := .int) (C := RX4) (T := TX4) (N := 3) rfl rfl inX4 tyX4 tyX4_ok nmX4 2 (by decide) (ref := "GridPolygons$LeastWidth") kw_198 rfl rfl (by decide +kernel) rfl rfl (Nat.le_of_ble_eq_true rfl) dX4_weigh_124 (ws' := (cW D q (sV (sV (sV u 1 z_59) 2 a) 3 b))) rfl (fun H locs hP hS => ?_)
            exact W.vret SS.1 SS.2.1 hr (fun t0 ht hW => ⟨⟨(sV (sV (sV u 1 z_59) 2 a) 3 b), rfl, (⟨z_59, a, b, rfl, by first | exact ⟨Or.inl ⟨by omega, by omega, rfl, rfl, rfl⟩, by omega⟩ | exact ⟨Or.inr ⟨_, _, _, by first | exact Or.inl ⟨rfl, rfl⟩ | exact Or.inr ⟨rfl, rfl⟩, by unfold nrm; omega, h_59.1, by first | exact Or.inl ⟨by unfold lt3; omega, rfl, rfl, rfl⟩ | exact Or.inr ⟨by unfold lt3; omega, rfl, rfl, rfl⟩⟩, by omega⟩⟩), by show va_P D.1 j_cl (cW D q (sV (sV (sV u 1 z_59) 2 a) 3 b)) t0.heap; rw [ht]; first | exact hP | (simp only [sC_id, sX_id, sY_id, sH_id, sT_id, sV_id]; exact hP)⟩, hS.F ht⟩) hS.2.2 dX4_weigh_127 hlk
          · skip
            refine lv_iload SS.1 SS.2.1 dX4_weigh_73 (lv_at hl 0 rfl) ?_
            refine lv_aload_n SS.1 SS.2.1 dX4_weigh_75 rfl (lv_at hl 4 rfl) ?_
            refine j_get SS hG hP 3 (v := .int (J (u.2.2.2 1))) (C := RX4) (T := TX4) (N := 3) rfl rfl inX4 0 (by decide) (ref := "GridPolygons$LeastWidth") kw_194 rfl rfl dX4_weigh_76 ?_
            refine j_icmp_ne SS (tgt := 127) (x := z_59) (y := (u.2.2.2 1)) dX4_weigh_79 (by decide) (by omega) (by omega) (fun c_79 => ?_) (fun c_79 => ?_)
            · skip
              exact W.vret SS.1 SS.2.1 hr (fun t0 ht hW => ⟨⟨(sV (sV (sV u 1 (u.2.2.2 1)) 2 (u.2.2.2 2)) 3 (u.2.2.2 3)), rfl, (⟨(u.2.2.2 1), (u.2.2.2 2), (u.2.2.2 3), rfl, by first | exact ⟨Or.inl ⟨by omega, by omega, rfl, rfl, rfl⟩, by omega⟩ | exact ⟨Or.inr ⟨_, _, _, by first | exact Or.inl ⟨rfl, rfl⟩ | exact Or.inr ⟨rfl, rfl⟩, by unfold nrm; omega, h_59.1, by first | exact Or.inl ⟨by unfold lt3; omega, rfl, rfl, rfl⟩ | exact Or.inr ⟨by unfold lt3; omega, rfl, rfl, rfl⟩⟩, by omega⟩⟩), by show va_P D.1 j_cl (cW D q (sV (sV (sV u 1 (u.2.2.2 1)) 2 (u.2.2.2 2)) 3 (u.2.2.2 3))) t0.heap; rw [ht]; first | exact hP | (simp only [sC_id, sX_id, sY_id, sH_id, sT_id, sV_id]; exact hP)⟩, hS.F ht⟩) hS.2.2 dX4_weigh_127 hlk
            · skip
              refine lv_iload SS.1 SS.2.1 dX4_weigh_82 (lv_at hl 2 rfl) ?_
              refine lv_aload_n SS.1 SS.2.1 dX4_weigh_84 rfl (lv_at hl 4 rfl) ?_
              refine j_get SS hG hP 3 (v := .int (J (u.2.2.2 2))) (C := RX4) (T := TX4) (N := 3) rfl rfl inX4 1 (by decide) (ref := "GridPolygons$LeastWidth") kw_196 rfl rfl dX4_weigh_85 ?_
              refine j_icmp_lt SS (tgt := 109) (x := a) (y := (u.2.2.2 2)) dX4_weigh_88 (by decide) (by omega) (by omega) (fun c_88 => ?_) (fun c_88 => ?_)
              · skip
                refine lv_aload_n SS.1 SS.2.1 dX4_weigh_109 rfl (lv_at hl 4 rfl) ?_
                refine lv_iload SS.1 SS.2.1 dX4_weigh_110 (lv_at hl 0 rfl) ?_
                refine j_put SS hG hP (cW_D hD) hS 3 (v := .int (J z_59)) (ty := .int) (C := RX4) (T := TX4) (N := 3) rfl rfl inX4 tyX4 tyX4_ok nmX4 0 (by decide) (ref := "GridPolygons$LeastWidth") kw_194 rfl rfl (by decide +kernel) rfl rfl (Nat.le_of_ble_eq_true rfl) dX4_weigh_112 (ws' := (cW D q (sV u 1 z_59))) rfl (fun H locs hP hS => ?_)
                refine lv_aload_n SS.1 SS.2.1 dX4_weigh_115 rfl (lv_at hl 4 rfl) ?_
                refine lv_iload SS.1 SS.2.1 dX4_weigh_116 (lv_at hl 2 rfl) ?_
                refine j_put SS hG hP (cW_D hD) hS 3 (v := .int (J a)) (ty := .int) (C := RX4) (T := TX4) (N := 3) rfl rfl inX4 tyX4 tyX4_ok nmX4 1 (by decide) (ref := "GridPolygons$LeastWidth") kw_196 rfl rfl (by decide +kernel) rfl rfl (Nat.le_of_ble_eq_true rfl) dX4_weigh_118 (ws' := (cW D q (sV (sV u 1 z_59) 2 a))) rfl (fun H locs hP hS => ?_)
                refine lv_aload_n SS.1 SS.2.1 dX4_weigh_121 rfl (lv_at hl 4 rfl) ?_
                refine lv_iload SS.1 SS.2.1 dX4_weigh_122 (lv_at hl 1 rfl) ?_
                refine j_put SS hG hP (cW_D hD) hS 3 (v := .int (J b)) (ty := .int) (C := RX4) (T := TX4) (N := 3) rfl rfl inX4 tyX4 tyX4_ok nmX4 2 (by decide) (ref := "GridPolygons$LeastWidth") kw_198 rfl rfl (by decide +kernel) rfl rfl (Nat.le_of_ble_eq_true rfl) dX4_weigh_124 (ws' := (cW D q (sV (sV (sV u 1 z_59) 2 a) 3 b))) rfl (fun H locs hP hS => ?_)
                exact W.vret SS.1 SS.2.1 hr (fun t0 ht hW => ⟨⟨(sV (sV (sV u 1 z_59) 2 a) 3 b), rfl, (⟨z_59, a, b, rfl, by first | exact ⟨Or.inl ⟨by omega, by omega, rfl, rfl, rfl⟩, by omega⟩ | exact ⟨Or.inr ⟨_, _, _, by first | exact Or.inl ⟨rfl, rfl⟩ | exact Or.inr ⟨rfl, rfl⟩, by unfold nrm; omega, h_59.1, by first | exact Or.inl ⟨by unfold lt3; omega, rfl, rfl, rfl⟩ | exact Or.inr ⟨by unfold lt3; omega, rfl, rfl, rfl⟩⟩, by omega⟩⟩), by show va_P D.1 j_cl (cW D q (sV (sV (sV u 1 z_59) 2 a) 3 b)) t0.heap; rw [ht]; first | exact hP | (simp only [sC_id, sX_id, sY_id, sH_id, sT_id, sV_id]; exact hP)⟩, hS.F ht⟩) hS.2.2 dX4_weigh_127 hlk
              · skip
                refine lv_iload SS.1 SS.2.1 dX4_weigh_91 (lv_at hl 2 rfl) ?_
                refine lv_aload_n SS.1 SS.2.1 dX4_weigh_93 rfl (lv_at hl 4 rfl) ?_
                refine j_get SS hG hP 3 (v := .int (J (u.2.2.2 2))) (C := RX4) (T := TX4) (N := 3) rfl rfl inX4 1 (by decide) (ref := "GridPolygons$LeastWidth") kw_196 rfl rfl dX4_weigh_94 ?_
                refine j_icmp_ne SS (tgt := 127) (x := a) (y := (u.2.2.2 2)) dX4_weigh_97 (by decide) (by omega) (by omega) (fun c_97 => ?_) (fun c_97 => ?_)
                · skip
                  exact W.vret SS.1 SS.2.1 hr (fun t0 ht hW => ⟨⟨(sV (sV (sV u 1 (u.2.2.2 1)) 2 (u.2.2.2 2)) 3 (u.2.2.2 3)), rfl, (⟨(u.2.2.2 1), (u.2.2.2 2), (u.2.2.2 3), rfl, by first | exact ⟨Or.inl ⟨by omega, by omega, rfl, rfl, rfl⟩, by omega⟩ | exact ⟨Or.inr ⟨_, _, _, by first | exact Or.inl ⟨rfl, rfl⟩ | exact Or.inr ⟨rfl, rfl⟩, by unfold nrm; omega, h_59.1, by first | exact Or.inl ⟨by unfold lt3; omega, rfl, rfl, rfl⟩ | exact Or.inr ⟨by unfold lt3; omega, rfl, rfl, rfl⟩⟩, by omega⟩⟩), by show va_P D.1 j_cl (cW D q (sV (sV (sV u 1 (u.2.2.2 1)) 2 (u.2.2.2 2)) 3 (u.2.2.2 3))) t0.heap; rw [ht]; first | exact hP | (simp only [sC_id, sX_id, sY_id, sH_id, sT_id, sV_id]; exact hP)⟩, hS.F ht⟩) hS.2.2 dX4_weigh_127 hlk
                · skip
                  refine lv_iload SS.1 SS.2.1 dX4_weigh_100 (lv_at hl 1 rfl) ?_
                  refine lv_aload_n SS.1 SS.2.1 dX4_weigh_102 rfl (lv_at hl 4 rfl) ?_
                  refine j_get SS hG hP 3 (v := .int (J (u.2.2.2 3))) (C := RX4) (T := TX4) (N := 3) rfl rfl inX4 2 (by decide) (ref := "GridPolygons$LeastWidth") kw_198 rfl rfl dX4_weigh_103 ?_
                  refine j_icmp_ge SS (tgt := 127) (x := b) (y := (u.2.2.2 3)) dX4_weigh_106 (by decide) (by omega) (by omega) (fun c_106 => ?_) (fun c_106 => ?_)
                  · skip
                    exact W.vret SS.1 SS.2.1 hr (fun t0 ht hW => ⟨⟨(sV (sV (sV u 1 (u.2.2.2 1)) 2 (u.2.2.2 2)) 3 (u.2.2.2 3)), rfl, (⟨(u.2.2.2 1), (u.2.2.2 2), (u.2.2.2 3), rfl, by first | exact ⟨Or.inl ⟨by omega, by omega, rfl, rfl, rfl⟩, by omega⟩ | exact ⟨Or.inr ⟨_, _, _, by first | exact Or.inl ⟨rfl, rfl⟩ | exact Or.inr ⟨rfl, rfl⟩, by unfold nrm; omega, h_59.1, by first | exact Or.inl ⟨by unfold lt3; omega, rfl, rfl, rfl⟩ | exact Or.inr ⟨by unfold lt3; omega, rfl, rfl, rfl⟩⟩, by omega⟩⟩), by show va_P D.1 j_cl (cW D q (sV (sV (sV u 1 (u.2.2.2 1)) 2 (u.2.2.2 2)) 3 (u.2.2.2 3))) t0.heap; rw [ht]; first | exact hP | (simp only [sC_id, sX_id, sY_id, sH_id, sT_id, sV_id]; exact hP)⟩, hS.F ht⟩) hS.2.2 dX4_weigh_127 hlk
                  · skip
                    refine lv_aload_n SS.1 SS.2.1 dX4_weigh_109 rfl (lv_at hl 4 rfl) ?_
                    refine lv_iload SS.1 SS.2.1 dX4_weigh_110 (lv_at hl 0 rfl) ?_
                    refine j_put SS hG hP (cW_D hD) hS 3 (v := .int (J z_59)) (ty := .int) (C := RX4) (T := TX4) (N := 3) rfl rfl inX4 tyX4 tyX4_ok nmX4 0 (by decide) (ref := "GridPolygons$LeastWidth") kw_194 rfl rfl (by decide +kernel) rfl rfl (Nat.le_of_ble_eq_true rfl) dX4_weigh_112 (ws' := (cW D q (sV u 1 z_59))) rfl (fun H locs hP hS => ?_)
                    refine lv_aload_n SS.1 SS.2.1 dX4_weigh_115 rfl (lv_at hl 4 rfl) ?_
                    refine lv_iload SS.1 SS.2.1 dX4_weigh_116 (lv_at hl 2 rfl) ?_
                    refine j_put SS hG hP (cW_D hD) hS 3 (v := .int (J a)) (ty := .int) (C := RX4) (T := TX4) (N := 3) rfl rfl inX4 tyX4 tyX4_ok nmX4 1 (by decide) (ref := "GridPolygons$LeastWidth") kw_196 rfl rfl (by decide +kernel) rfl rfl (Nat.le_of_ble_eq_true rfl) dX4_weigh_118 (ws' := (cW D q (sV (sV u 1 z_59) 2 a))) rfl (fun H locs hP hS => ?_)
                    refine lv_aload_n SS.1 SS.2.1 dX4_weigh_121 rfl (lv_at hl 4 rfl) ?_
                    refine lv_iload SS.1 SS.2.1 dX4_weigh_122 (lv_at hl 1 rfl) ?_
                    refine j_put SS hG hP (cW_D hD) hS 3 (v := .int (J b)) (ty := .int) (C := RX4) (T := TX4) (N := 3) rfl rfl inX4 tyX4 tyX4_ok nmX4 2 (by decide) (ref := "GridPolygons$LeastWidth") kw_198 rfl rfl (by decide +kernel) rfl rfl (Nat.le_of_ble_eq_true rfl) dX4_weigh_124 (ws' := (cW D q (sV (sV (sV u 1 z_59) 2 a) 3 b))) rfl (fun H locs hP hS => ?_)
                    exact W.vret SS.1 SS.2.1 hr (fun t0 ht hW => ⟨⟨(sV (sV (sV u 1 z_59) 2 a) 3 b), rfl, (⟨z_59, a, b, rfl, by first | exact ⟨Or.inl ⟨by omega, by omega, rfl, rfl, rfl⟩, by omega⟩ | exact ⟨Or.inr ⟨_, _, _, by first | exact Or.inl ⟨rfl, rfl⟩ | exact Or.inr ⟨rfl, rfl⟩, by unfold nrm; omega, h_59.1, by first | exact Or.inl ⟨by unfold lt3; omega, rfl, rfl, rfl⟩ | exact Or.inr ⟨by unfold lt3; omega, rfl, rfl, rfl⟩⟩, by omega⟩⟩), by show va_P D.1 j_cl (cW D q (sV (sV (sV u 1 z_59) 2 a) 3 b)) t0.heap; rw [ht]; first | exact hP | (simp only [sC_id, sX_id, sY_id, sH_id, sT_id, sV_id]; exact hP)⟩, hS.F ht⟩) hS.2.2 dX4_weigh_127 hlk
  · skip
    refine lv_iload_n SS.1 SS.2.1 dX4_weigh_4 rfl (lv_at hl 3 rfl) ?_
    refine j_if_ne SS (tgt := 9) (x := b) dX4_weigh_5 (by decide) (by omega) (fun c_5 => ?_) (fun c_5 => ?_)
    · skip
      refine lv_iload_n SS.1 SS.2.1 dX4_weigh_9 rfl (lv_at hl 2 rfl) ?_
      refine j_if_gt SS (tgt := 21) (x := a) dX4_weigh_10 (by decide) (by omega) (fun c_10 => ?_) (fun c_10 => ?_)
      · skip
        refine j_iconst SS dX4_weigh_21 ?_
        refine lv_goto (tgt := 26) SS.1 SS.2.1 dX4_weigh_22 (by decide) ?_
        refine lv_istore (lv' := [(4, .int (J 1)), (0, .ref (q 3)), (1, .ref (q (9 + 5 * r))), (2, .int (J a)), (3, .int (J b))]) SS.1 SS.2.1 dX4_weigh_26 hl (by decide) rfl (fun ls hl => ?_)
        refine lv_iload SS.1 SS.2.1 dX4_weigh_28 (lv_at hl 0 rfl) ?_
        refine j_if_eq SS (tgt := 37) dX4_weigh_30 (by decide) (by decide) (fun c_30 => absurd c_30 (by decide)) (fun c_30 => ?_)
        refine lv_iload_n SS.1 SS.2.1 dX4_weigh_33 rfl (lv_at hl 3 rfl) ?_
        refine lv_goto (tgt := 39) SS.1 SS.2.1 dX4_weigh_34 (by decide) ?_
        refine lv_istore (lv' := [(5, .int (J a)), (4, .int (J 1)), (0, .ref (q 3)), (1, .ref (q (9 + 5 * r))), (2, .int (J a)), (3, .int (J b))]) SS.1 SS.2.1 dX4_weigh_39 hl (by decide) rfl (fun ls hl => ?_)
        refine lv_iload SS.1 SS.2.1 dX4_weigh_41 (lv_at hl 1 rfl) ?_
        refine j_if_eq SS (tgt := 50) dX4_weigh_43 (by decide) (by decide) (fun c_43 => absurd c_43 (by decide)) (fun c_43 => ?_)
        refine lv_iload_n SS.1 SS.2.1 dX4_weigh_46 rfl (lv_at hl 5 rfl) ?_
        refine lv_goto (tgt := 52) SS.1 SS.2.1 dX4_weigh_47 (by decide) ?_
        refine lv_istore (lv' := [(6, .int (J b)), (5, .int (J a)), (4, .int (J 1)), (0, .ref (q 3)), (1, .ref (q (9 + 5 * r))), (2, .int (J a)), (3, .int (J b))]) SS.1 SS.2.1 dX4_weigh_52 hl (by decide) rfl (fun ls hl => ?_)
        refine lv_aload_n SS.1 SS.2.1 dX4_weigh_54 rfl (lv_at hl 4 rfl) ?_
        refine lv_iload SS.1 SS.2.1 dX4_weigh_55 (lv_at hl 1 rfl) ?_
        refine lv_iload SS.1 SS.2.1 dX4_weigh_57 (lv_at hl 0 rfl) ?_
        refine j_vRi SS (As := [.int (J a), .int (J b)]) (rest := []) (c_X7_across2 l D q u r (by omega) (40 : Int) a b (show 0 ≤ (40 : Int) ∧ (40 : Int) ≤ 80 from (by omega)) (show RB (40 : Int) u r from (p0)) (show -20000 ≤ a ∧ a ≤ 20000 from (p1)) (show -20000 ≤ b ∧ b ≤ 20000 from (p2)) (show 1 ≤ (u.1.2.2.1 r) from (p4))) mf_X7_across kw_643 hG hP hP (ci := 7) (q0 := (9 + 5 * r)) rfl (cw_ring (by omega)) rfl rfl hl.1 ⟨⟨Nat.le_of_ble_eq_true rfl, Nat.le_of_ble_eq_true rfl⟩, Nat.le_of_ble_eq_true rfl, Nat.le_refl _, Nat.le_refl _⟩ rfl dX4_weigh_59 (fun z_59 h_59 => ?_)
        have h_59 : spR u r a b z_59 ∧ -6400000 ≤ z_59 ∧ z_59 ≤ 6400000 := h_59
        have h0_59 := spR_0 h_59.1
        refine lv_istore (lv' := [(7, .int (J z_59)), (6, .int (J b)), (5, .int (J a)), (4, .int (J 1)), (0, .ref (q 3)), (1, .ref (q (9 + 5 * r))), (2, .int (J a)), (3, .int (J b))]) SS.1 SS.2.1 dX4_weigh_62 hl (by decide) rfl (fun ls hl => ?_)
        refine lv_iload SS.1 SS.2.1 dX4_weigh_64 (lv_at hl 0 rfl) ?_
        refine lv_aload_n SS.1 SS.2.1 dX4_weigh_66 rfl (lv_at hl 4 rfl) ?_
        refine j_get SS hG hP 3 (v := .int (J (u.2.2.2 1))) (C := RX4) (T := TX4) (N := 3) rfl rfl inX4 0 (by decide) (ref := "GridPolygons$LeastWidth") kw_194 rfl rfl dX4_weigh_67 ?_
        refine j_icmp_lt SS (tgt := 109) (x := z_59) (y := (u.2.2.2 1)) dX4_weigh_70 (by decide) (by omega) (by omega) (fun c_70 => ?_) (fun c_70 => ?_)
        · skip
          refine lv_aload_n SS.1 SS.2.1 dX4_weigh_109 rfl (lv_at hl 4 rfl) ?_
          refine lv_iload SS.1 SS.2.1 dX4_weigh_110 (lv_at hl 0 rfl) ?_
          refine j_put SS hG hP (cW_D hD) hS 3 (v := .int (J z_59)) (ty := .int) (C := RX4) (T := TX4) (N := 3) rfl rfl inX4 tyX4 tyX4_ok nmX4 0 (by decide) (ref := "GridPolygons$LeastWidth") kw_194 rfl rfl (by decide +kernel) rfl rfl (Nat.le_of_ble_eq_true rfl) dX4_weigh_112 (ws' := (cW D q (sV u 1 z_59))) rfl (fun H locs hP hS => ?_)
          refine lv_aload_n SS.1 SS.2.1 dX4_weigh_115 rfl (lv_at hl 4 rfl) ?_
          refine lv_iload SS.1 SS.2.1 dX4_weigh_116 (lv_at hl 2 rfl) ?_
          refine j_put SS hG hP (cW_D hD) hS 3 (v := .int (J a)) (ty := .int) (C := RX4) (T := TX4) (N := 3) rfl rfl inX4 tyX4 tyX4_ok nmX4 1 (by decide) (ref := "GridPolygons$LeastWidth") kw_196 rfl rfl (by decide +kernel) rfl rfl (Nat.le_of_ble_eq_true rfl) dX4_weigh_118 (ws' := (cW D q (sV (sV u 1 z_59) 2 a))) rfl (fun H locs hP hS => ?_)
          refine lv_aload_n SS.1 SS.2.1 dX4_weigh_121 rfl (lv_at hl 4 rfl) ?_
          refine lv_iload SS.1 SS.2.1 dX4_weigh_122 (lv_at hl 1 rfl) ?_
          refine j_put SS hG hP (cW_D hD) hS 3 (v := .int (J b)) (ty := .int) (C := RX4) (T := TX4) (N := 3) rfl rfl inX4 tyX4 tyX4_ok nmX4 2 (by decide) (ref := "GridPolygons$LeastWidth") kw_198 rfl rfl (by decide +kernel) rfl rfl (Nat.le_of_ble_eq_true rfl) dX4_weigh_124 (ws' := (cW D q (sV (sV (sV u 1 z_59) 2 a) 3 b))) rfl (fun H locs hP hS => ?_)
          exact W.vret SS.1 SS.2.1 hr (fun t0 ht hW => ⟨⟨(sV (sV (sV u 1 z_59) 2 a) 3 b), rfl, (⟨z_59, a, b, rfl, by first | exact ⟨Or.inl ⟨by omega, by omega, rfl, rfl, rfl⟩, by omega⟩ | exact ⟨Or.inr ⟨_, _, _, by first | exact Or.inl ⟨rfl, rfl⟩ | exact Or.inr ⟨rfl, rfl⟩, by unfold nrm; omega, h_59.1, by first | exact Or.inl ⟨by unfold lt3; omega, rfl, rfl, rfl⟩ | exact Or.inr ⟨by unfold lt3; omega, rfl, rfl, rfl⟩⟩, by omega⟩⟩), by show va_P D.1 j_cl (cW D q (sV (sV (sV u 1 z_59) 2 a) 3 b)) t0.heap; rw [ht]; first | exact hP | (simp only [sC_id, sX_id, sY_id, sH_id, sT_id, sV_id]; exact hP)⟩, hS.F ht⟩) hS.2.2 dX4_weigh_127 hlk
        · skip
          refine lv_iload SS.1 SS.2.1 dX4_weigh_73 (lv_at hl 0 rfl) ?_
          refine lv_aload_n SS.1 SS.2.1 dX4_weigh_75 rfl (lv_at hl 4 rfl) ?_
          refine j_get SS hG hP 3 (v := .int (J (u.2.2.2 1))) (C := RX4) (T := TX4) (N := 3) rfl rfl inX4 0 (by decide) (ref := "GridPolygons$LeastWidth") kw_194 rfl rfl dX4_weigh_76 ?_
          refine j_icmp_ne SS (tgt := 127) (x := z_59) (y := (u.2.2.2 1)) dX4_weigh_79 (by decide) (by omega) (by omega) (fun c_79 => ?_) (fun c_79 => ?_)
          · skip
            exact W.vret SS.1 SS.2.1 hr (fun t0 ht hW => ⟨⟨(sV (sV (sV u 1 (u.2.2.2 1)) 2 (u.2.2.2 2)) 3 (u.2.2.2 3)), rfl, (⟨(u.2.2.2 1), (u.2.2.2 2), (u.2.2.2 3), rfl, by first | exact ⟨Or.inl ⟨by omega, by omega, rfl, rfl, rfl⟩, by omega⟩ | exact ⟨Or.inr ⟨_, _, _, by first | exact Or.inl ⟨rfl, rfl⟩ | exact Or.inr ⟨rfl, rfl⟩, by unfold nrm; omega, h_59.1, by first | exact Or.inl ⟨by unfold lt3; omega, rfl, rfl, rfl⟩ | exact Or.inr ⟨by unfold lt3; omega, rfl, rfl, rfl⟩⟩, by omega⟩⟩), by show va_P D.1 j_cl (cW D q (sV (sV (sV u 1 (u.2.2.2 1)) 2 (u.2.2.2 2)) 3 (u.2.2.2 3))) t0.heap; rw [ht]; first | exact hP | (simp only [sC_id, sX_id, sY_id, sH_id, sT_id, sV_id]; exact hP)⟩, hS.F ht⟩) hS.2.2 dX4_weigh_127 hlk
          · skip
            refine lv_iload SS.1 SS.2.1 dX4_weigh_82 (lv_at hl 2 rfl) ?_
            refine lv_aload_n SS.1 SS.2.1 dX4_weigh_84 rfl (lv_at hl 4 rfl) ?_
            refine j_get SS hG hP 3 (v := .int (J (u.2.2.2 2))) (C := RX4) (T := TX4) (N := 3) rfl rfl inX4 1 (by decide) (ref := "GridPolygons$LeastWidth") kw_196 rfl rfl dX4_weigh_85 ?_
            refine j_icmp_lt SS (tgt := 109) (x := a) (y := (u.2.2.2 2)) dX4_weigh_88 (by decide) (by omega) (by omega) (fun c_88 => ?_) (fun c_88 => ?_)
            · skip
              refine lv_aload_n SS.1 SS.2.1 dX4_weigh_109 rfl (lv_at hl 4 rfl) ?_
              refine lv_iload SS.1 SS.2.1 dX4_weigh_110 (lv_at hl 0 rfl) ?_
              refine j_put SS hG hP (cW_D hD) hS 3 (v := .int (J z_59)) (ty := .int) (C := RX4) (T := TX4) (N := 3) rfl rfl inX4 tyX4 tyX4_ok nmX4 0 (by decide) (ref := "GridPolygons$LeastWidth") kw_194 rfl rfl (by decide +kernel) rfl rfl (Nat.le_of_ble_eq_true rfl) dX4_weigh_112 (ws' := (cW D q (sV u 1 z_59))) rfl (fun H locs hP hS => ?_)
              refine lv_aload_n SS.1 SS.2.1 dX4_weigh_115 rfl (lv_at hl 4 rfl) ?_
              refine lv_iload SS.1 SS.2.1 dX4_weigh_116 (lv_at hl 2 rfl) ?_
              refine j_put SS hG hP (cW_D hD) hS 3 (v := .int (J a)) (ty := .int) (C := RX4) (T := TX4) (N := 3) rfl rfl inX4 tyX4 tyX4_ok nmX4 1 (by decide) (ref := "GridPolygons$LeastWidth") kw_196 rfl rfl (by decide +kernel) rfl rfl (Nat.le_of_ble_eq_true rfl) dX4_weigh_118 (ws' := (cW D q (sV (sV u 1 z_59) 2 a))) rfl (fun H locs hP hS => ?_)
              refine lv_aload_n SS.1 SS.2.1 dX4_weigh_121 rfl (lv_at hl 4 rfl) ?_
              refine lv_iload SS.1 SS.2.1 dX4_weigh_122 (lv_at hl 1 rfl) ?_
              refine j_put SS hG hP (cW_D hD) hS 3 (v := .int (J b)) (ty := .int) (C := RX4) (T := TX4) (N := 3) rfl rfl inX4 tyX4 tyX4_ok nmX4 2 (by decide) (ref := "GridPolygons$LeastWidth") kw_198 rfl rfl (by decide +kernel) rfl rfl (Nat.le_of_ble_eq_true rfl) dX4_weigh_124 (ws' := (cW D q (sV (sV (sV u 1 z_59) 2 a) 3 b))) rfl (fun H locs hP hS => ?_)
              exact W.vret SS.1 SS.2.1 hr (fun t0 ht hW => ⟨⟨(sV (sV (sV u 1 z_59) 2 a) 3 b), rfl, (⟨z_59, a, b, rfl, by first | exact ⟨Or.inl ⟨by omega, by omega, rfl, rfl, rfl⟩, by omega⟩ | exact ⟨Or.inr ⟨_, _, _, by first | exact Or.inl ⟨rfl, rfl⟩ | exact Or.inr ⟨rfl, rfl⟩, by unfold nrm; omega, h_59.1, by first | exact Or.inl ⟨by unfold lt3; omega, rfl, rfl, rfl⟩ | exact Or.inr ⟨by unfold lt3; omega, rfl, rfl, rfl⟩⟩, by omega⟩⟩), by show va_P D.1 j_cl (cW D q (sV (sV (sV u 1 z_59) 2 a) 3 b)) t0.heap; rw [ht]; first | exact hP | (simp only [sC_id, sX_id, sY_id, sH_id, sT_id, sV_id]; exact hP)⟩, hS.F ht⟩) hS.2.2 dX4_weigh_127 hlk
            · skip
              refine lv_iload SS.1 SS.2.1 dX4_weigh_91 (lv_at hl 2 rfl) ?_
              refine lv_aload_n SS.1 SS.2.1 dX4_weigh_93 rfl (lv_at hl 4 rfl) ?_
              refine j_get SS hG hP 3 (v := .int (J (u.2.2.2 2))) (C := RX4) (T := TX4) (N := 3) rfl rfl inX4 1 (by decide) (ref := "GridPolygons$LeastWidth") kw_196 rfl rfl dX4_weigh_94 ?_
              refine j_icmp_ne SS (tgt := 127) (x := a) (y := (u.2.2.2 2)) dX4_weigh_97 (by decide) (by omega) (by omega) (fun c_97 => ?_) (fun c_97 => ?_)
              · skip
                exact W.vret SS.1 SS.2.1 hr (fun t0 ht hW => ⟨⟨(sV (sV (sV u 1 (u.2.2.2 1)) 2 (u.2.2.2 2)) 3 (u.2.2.2 3)), rfl, (⟨(u.2.2.2 1), (u.2.2.2 2), (u.2.2.2 3), rfl, by first | exact ⟨Or.inl ⟨by omega, by omega, rfl, rfl, rfl⟩, by omega⟩ | exact ⟨Or.inr ⟨_, _, _, by first | exact Or.inl ⟨rfl, rfl⟩ | exact Or.inr ⟨rfl, rfl⟩, by unfold nrm; omega, h_59.1, by first | exact Or.inl ⟨by unfold lt3; omega, rfl, rfl, rfl⟩ | exact Or.inr ⟨by unfold lt3; omega, rfl, rfl, rfl⟩⟩, by omega⟩⟩), by show va_P D.1 j_cl (cW D q (sV (sV (sV u 1 (u.2.2.2 1)) 2 (u.2.2.2 2)) 3 (u.2.2.2 3))) t0.heap; rw [ht]; first | exact hP | (simp only [sC_id, sX_id, sY_id, sH_id, sT_id, sV_id]; exact hP)⟩, hS.F ht⟩) hS.2.2 dX4_weigh_127 hlk
              · skip
                refine lv_iload SS.1 SS.2.1 dX4_weigh_100 (lv_at hl 1 rfl) ?_
                refine lv_aload_n SS.1 SS.2.1 dX4_weigh_102 rfl (lv_at hl 4 rfl) ?_
                refine j_get SS hG hP 3 (v := .int (J (u.2.2.2 3))) (C := RX4) (T := TX4) (N := 3) rfl rfl inX4 2 (by decide) (ref := "GridPolygons$LeastWidth") kw_198 rfl rfl dX4_weigh_103 ?_
                refine j_icmp_ge SS (tgt := 127) (x := b) (y := (u.2.2.2 3)) dX4_weigh_106 (by decide) (by omega) (by omega) (fun c_106 => ?_) (fun c_106 => ?_)
                · skip
                  exact W.vret SS.1 SS.2.1 hr (fun t0 ht hW => ⟨⟨(sV (sV (sV u 1 (u.2.2.2 1)) 2 (u.2.2.2 2)) 3 (u.2.2.2 3)), rfl, (⟨(u.2.2.2 1), (u.2.2.2 2), (u.2.2.2 3), rfl, by first | exact ⟨Or.inl ⟨by omega, by omega, rfl, rfl, rfl⟩, by omega⟩ | exact ⟨Or.inr ⟨_, _, _, by first | exact Or.inl ⟨rfl, rfl⟩ | exact Or.inr ⟨rfl, rfl⟩, by unfold nrm; omega, h_59.1, by first | exact Or.inl ⟨by unfold lt3; omega, rfl, rfl, rfl⟩ | exact Or.inr ⟨by unfold lt3; omega, rfl, rfl, rfl⟩⟩, by omega⟩⟩), by show va_P D.1 j_cl (cW D q (sV (sV (sV u 1 (u.2.2.2 1)) 2 (u.2.2.2 2)) 3 (u.2.2.2 3))) t0.heap; rw [ht]; first | exact hP | (simp only [sC_id, sX_id, sY_id, sH_id, sT_id, sV_id]; exact hP)⟩, hS.F ht⟩) hS.2.2 dX4_weigh_127 hlk
                · skip
                  refine lv_aload_n SS.1 SS.2.1 dX4_weigh_109 rfl (lv_at hl 4 rfl) ?_
                  refine lv_iload SS.1 SS.2.1 dX4_weigh_110 (lv_at hl 0 rfl) ?_
                  refine j_put SS hG hP (cW_D hD) hS 3 (v := .int (J z_59)) (ty := .int) (C := RX4) (T := TX4) (N := 3) rfl rfl inX4 tyX4 tyX4_ok nmX4 0 (by decide) (ref := "GridPolygons$LeastWidth") kw_194 rfl rfl (by decide +kernel) rfl rfl (Nat.le_of_ble_eq_true rfl) dX4_weigh_112 (ws' := (cW D q (sV u 1 z_59))) rfl (fun H locs hP hS => ?_)
                  refine lv_aload_n SS.1 SS.2.1 dX4_weigh_115 rfl (lv_at hl 4 rfl) ?_
                  refine lv_iload SS.1 SS.2.1 dX4_weigh_116 (lv_at hl 2 rfl) ?_
                  refine j_put SS hG hP (cW_D hD) hS 3 (v := .int (J a)) (ty := .int) (C := RX4) (T := TX4) (N := 3) rfl rfl inX4 tyX4 tyX4_ok nmX4 1 (by decide) (ref := "GridPolygons$LeastWidth") kw_196 rfl rfl (by decide +kernel) rfl rfl (Nat.le_of_ble_eq_true rfl) dX4_weigh_118 (ws' := (cW D q (sV (sV u 1 z_59) 2 a))) rfl (fun H locs hP hS => ?_)
                  refine lv_aload_n SS.1 SS.2.1 dX4_weigh_121 rfl (lv_at hl 4 rfl) ?_
                  refine lv_iload SS.1 SS.2.1 dX4_weigh_122 (lv_at hl 1 rfl) ?_
                  refine j_put SS hG hP (cW_D hD) hS 3 (v := .int (J b)) (ty := .int) (C := RX4) (T := TX4) (N := 3) rfl rfl inX4 tyX4 tyX4_ok nmX4 2 (by decide) (ref := "GridPolygons$LeastWidth") kw_198 rfl rfl (by decide +kernel) rfl rfl (Nat.le_of_ble_eq_true rfl) dX4_weigh_124 (ws' := (cW D q (sV (sV (sV u 1 z_59) 2 a) 3 b))) rfl (fun H locs hP hS => ?_)
                  exact W.vret SS.1 SS.2.1 hr (fun t0 ht hW => ⟨⟨(sV (sV (sV u 1 z_59) 2 a) 3 b), rfl, (⟨z_59, a, b, rfl, by first | exact ⟨Or.inl ⟨by omega, by omega, rfl, rfl, rfl⟩, by omega⟩ | exact ⟨Or.inr ⟨_, _, _, by first | exact Or.inl ⟨rfl, rfl⟩ | exact Or.inr ⟨rfl, rfl⟩, by unfold nrm; omega, h_59.1, by first | exact Or.inl ⟨by unfold lt3; omega, rfl, rfl, rfl⟩ | exact Or.inr ⟨by unfold lt3; omega, rfl, rfl, rfl⟩⟩, by omega⟩⟩), by show va_P D.1 j_cl (cW D q (sV (sV (sV u 1 z_59) 2 a) 3 b)) t0.heap; rw [ht]; first | exact hP | (simp only [sC_id, sX_id, sY_id, sH_id, sT_id, sV_id]; exact hP)⟩, hS.F ht⟩) hS.2.2 dX4_weigh_127 hlk
      · skip
        refine lv_iload_n SS.1 SS.2.1 dX4_weigh_13 rfl (lv_at hl 2 rfl) ?_
        refine j_if_ne SS (tgt := 25) (x := a) dX4_weigh_14 (by decide) (by omega) (fun c_14 => ?_) (fun c_14 => ?_)
        · skip
          refine j_iconst SS dX4_weigh_25 ?_
          refine lv_istore (lv' := [(4, .int (J 0)), (0, .ref (q 3)), (1, .ref (q (9 + 5 * r))), (2, .int (J a)), (3, .int (J b))]) SS.1 SS.2.1 dX4_weigh_26 hl (by decide) rfl (fun ls hl => ?_)
          refine lv_iload SS.1 SS.2.1 dX4_weigh_28 (lv_at hl 0 rfl) ?_
          refine j_if_eq SS (tgt := 37) dX4_weigh_30 (by decide) (by decide) (fun c_30 => ?_) (fun c_30 => absurd c_30 (by decide))
          refine lv_iload_n SS.1 SS.2.1 dX4_weigh_37 rfl (lv_at hl 3 rfl) ?_
          refine j_ineg SS dX4_weigh_38 ?_
          refine lv_istore (lv' := [(5, .int (J (-a))), (4, .int (J 0)), (0, .ref (q 3)), (1, .ref (q (9 + 5 * r))), (2, .int (J a)), (3, .int (J b))]) SS.1 SS.2.1 dX4_weigh_39 hl (by decide) rfl (fun ls hl => ?_)
          refine lv_iload SS.1 SS.2.1 dX4_weigh_41 (lv_at hl 1 rfl) ?_
          refine j_if_eq SS (tgt := 50) dX4_weigh_43 (by decide) (by decide) (fun c_43 => ?_) (fun c_43 => absurd c_43 (by decide))
          refine lv_iload_n SS.1 SS.2.1 dX4_weigh_50 rfl (lv_at hl 5 rfl) ?_
          refine j_ineg SS dX4_weigh_51 ?_
          refine lv_istore (lv' := [(6, .int (J (-b))), (5, .int (J (-a))), (4, .int (J 0)), (0, .ref (q 3)), (1, .ref (q (9 + 5 * r))), (2, .int (J a)), (3, .int (J b))]) SS.1 SS.2.1 dX4_weigh_52 hl (by decide) rfl (fun ls hl => ?_)
          refine lv_aload_n SS.1 SS.2.1 dX4_weigh_54 rfl (lv_at hl 4 rfl) ?_
          refine lv_iload SS.1 SS.2.1 dX4_weigh_55 (lv_at hl 1 rfl) ?_
          refine lv_iload SS.1 SS.2.1 dX4_weigh_57 (lv_at hl 0 rfl) ?_
          refine j_vRi SS (As := [.int (J (-a)), .int (J (-b))]) (rest := []) (c_X7_across2 l D q u r (by omega) (40 : Int) (-a) (-b) (show 0 ≤ (40 : Int) ∧ (40 : Int) ≤ 80 from (by omega)) (show RB (40 : Int) u r from (p0)) (show -20000 ≤ (-a) ∧ (-a) ≤ 20000 from (by omega)) (show -20000 ≤ (-b) ∧ (-b) ≤ 20000 from (by omega)) (show 1 ≤ (u.1.2.2.1 r) from (p4))) mf_X7_across kw_643 hG hP hP (ci := 7) (q0 := (9 + 5 * r)) rfl (cw_ring (by omega)) rfl rfl hl.1 ⟨⟨Nat.le_of_ble_eq_true rfl, Nat.le_of_ble_eq_true rfl⟩, Nat.le_of_ble_eq_true rfl, Nat.le_refl _, Nat.le_refl _⟩ rfl dX4_weigh_59 (fun z_59 h_59 => ?_)
          have h_59 : spR u r (-a) (-b) z_59 ∧ -6400000 ≤ z_59 ∧ z_59 ≤ 6400000 := h_59
          have h0_59 := spR_0 h_59.1
          refine lv_istore (lv' := [(7, .int (J z_59)), (6, .int (J (-b))), (5, .int (J (-a))), (4, .int (J 0)), (0, .ref (q 3)), (1, .ref (q (9 + 5 * r))), (2, .int (J a)), (3, .int (J b))]) SS.1 SS.2.1 dX4_weigh_62 hl (by decide) rfl (fun ls hl => ?_)
          refine lv_iload SS.1 SS.2.1 dX4_weigh_64 (lv_at hl 0 rfl) ?_
          refine lv_aload_n SS.1 SS.2.1 dX4_weigh_66 rfl (lv_at hl 4 rfl) ?_
          refine j_get SS hG hP 3 (v := .int (J (u.2.2.2 1))) (C := RX4) (T := TX4) (N := 3) rfl rfl inX4 0 (by decide) (ref := "GridPolygons$LeastWidth") kw_194 rfl rfl dX4_weigh_67 ?_
          refine j_icmp_lt SS (tgt := 109) (x := z_59) (y := (u.2.2.2 1)) dX4_weigh_70 (by decide) (by omega) (by omega) (fun c_70 => ?_) (fun c_70 => ?_)
          · skip
            refine lv_aload_n SS.1 SS.2.1 dX4_weigh_109 rfl (lv_at hl 4 rfl) ?_
            refine lv_iload SS.1 SS.2.1 dX4_weigh_110 (lv_at hl 0 rfl) ?_
            refine j_put SS hG hP (cW_D hD) hS 3 (v := .int (J z_59)) (ty := .int) (C := RX4) (T := TX4) (N := 3) rfl rfl inX4 tyX4 tyX4_ok nmX4 0 (by decide) (ref := "GridPolygons$LeastWidth") kw_194 rfl rfl (by decide +kernel) rfl rfl (Nat.le_of_ble_eq_true rfl) dX4_weigh_112 (ws' := (cW D q (sV u 1 z_59))) rfl (fun H locs hP hS => ?_)
            refine lv_aload_n SS.1 SS.2.1 dX4_weigh_115 rfl (lv_at hl 4 rfl) ?_
            refine lv_iload SS.1 SS.2.1 dX4_weigh_116 (lv_at hl 2 rfl) ?_
            refine j_put SS hG hP (cW_D hD) hS 3 (v := .int (J (-a))) (ty := .int) (C := RX4) (T := TX4) (N := 3) rfl rfl inX4 tyX4 tyX4_ok nmX4 1 (by decide) (ref := "GridPolygons$LeastWidth") kw_196 rfl rfl (by decide +kernel) rfl rfl (Nat.le_of_ble_eq_true rfl) dX4_weigh_118 (ws' := (cW D q (sV (sV u 1 z_59) 2 (-a)))) rfl (fun H locs hP hS => ?_)
            refine lv_aload_n SS.1 SS.2.1 dX4_weigh_121 rfl (lv_at hl 4 rfl) ?_
            refine lv_iload SS.1 SS.2.1 dX4_weigh_122 (lv_at hl 1 rfl) ?_
            refine j_put SS hG hP (cW_D hD) hS 3 (v := .int (J (-b))) (ty := .int) (C := RX4) (T := TX4) (N := 3) rfl rfl inX4 tyX4 tyX4_ok nmX4 2 (by decide) (ref := "GridPolygons$LeastWidth") kw_198 rfl rfl (by decide +kernel) rfl rfl (Nat.le_of_ble_eq_true rfl) dX4_weigh_124 (ws' := (cW D q (sV (sV (sV u 1 z_59) 2 (-a)) 3 (-b)))) rfl (fun H locs hP hS => ?_)
            exact W.vret SS.1 SS.2.1 hr (fun t0 ht hW => ⟨⟨(sV (sV (sV u 1 z_59) 2 (-a)) 3 (-b)), rfl, (⟨z_59, (-a), (-b), rfl, by first | exact ⟨Or.inl ⟨by omega, by omega, rfl, rfl, rfl⟩, by omega⟩ | exact ⟨Or.inr ⟨_, _, _, by first | exact Or.inl ⟨rfl, rfl⟩ | exact Or.inr ⟨rfl, rfl⟩, by unfold nrm; omega, h_59.1, by first | exact Or.inl ⟨by unfold lt3; omega, rfl, rfl, rfl⟩ | exact Or.inr ⟨by unfold lt3; omega, rfl, rfl, rfl⟩⟩, by omega⟩⟩), by show va_P D.1 j_cl (cW D q (sV (sV (sV u 1 z_59) 2 (-a)) 3 (-b))) t0.heap; rw [ht]; first | exact hP | (simp only [sC_id, sX_id, sY_id, sH_id, sT_id, sV_id]; exact hP)⟩, hS.F ht⟩) hS.2.2 dX4_weigh_127 hlk
          · skip
            refine lv_iload SS.1 SS.2.1 dX4_weigh_73 (lv_at hl 0 rfl) ?_
            refine lv_aload_n SS.1 SS.2.1 dX4_weigh_75 rfl (lv_at hl 4 rfl) ?_
            refine j_get SS hG hP 3 (v := .int (J (u.2.2.2 1))) (C := RX4) (T := TX4) (N := 3) rfl rfl inX4 0 (by decide) (ref := "GridPolygons$LeastWidth") kw_194 rfl rfl dX4_weigh_76 ?_
            refine j_icmp_ne SS (tgt := 127) (x := z_59) (y := (u.2.2.2 1)) dX4_weigh_79 (by decide) (by omega) (by omega) (fun c_79 => ?_) (fun c_79 => ?_)
            · skip
              exact W.vret SS.1 SS.2.1 hr (fun t0 ht hW => ⟨⟨(sV (sV (sV u 1 (u.2.2.2 1)) 2 (u.2.2.2 2)) 3 (u.2.2.2 3)), rfl, (⟨(u.2.2.2 1), (u.2.2.2 2), (u.2.2.2 3), rfl, by first | exact ⟨Or.inl ⟨by omega, by omega, rfl, rfl, rfl⟩, by omega⟩ | exact ⟨Or.inr ⟨_, _, _, by first | exact Or.inl ⟨rfl, rfl⟩ | exact Or.inr ⟨rfl, rfl⟩, by unfold nrm; omega, h_59.1, by first | exact Or.inl ⟨by unfold lt3; omega, rfl, rfl, rfl⟩ | exact Or.inr ⟨by unfold lt3; omega, rfl, rfl, rfl⟩⟩, by omega⟩⟩), by show va_P D.1 j_cl (cW D q (sV (sV (sV u 1 (u.2.2.2 1)) 2 (u.2.2.2 2)) 3 (u.2.2.2 3))) t0.heap; rw [ht]; first | exact hP | (simp only [sC_id, sX_id, sY_id, sH_id, sT_id, sV_id]; exact hP)⟩, hS.F ht⟩) hS.2.2 dX4_weigh_127 hlk
            · skip
              refine lv_iload SS.1 SS.2.1 dX4_weigh_82 (lv_at hl 2 rfl) ?_
              refine lv_aload_n SS.1 SS.2.1 dX4_weigh_84 rfl (lv_at hl 4 rfl) ?_
              refine j_get SS hG hP 3 (v := .int (J (u.2.2.2 2))) (C := RX4) (T := TX4) (N := 3) rfl rfl inX4 1 (by decide) (ref := "GridPolygons$LeastWidth") kw_196 rfl rfl dX4_weigh_85 ?_
              refine j_icmp_lt SS (tgt := 109) (x := (-a)) (y := (u.2.2.2 2)) dX4_weigh_88 (by decide) (by omega) (by omega) (fun c_88 => ?_) (fun c_88 => ?_)
              · skip
                refine lv_aload_n SS.1 SS.2.1 dX4_weigh_109 rfl (lv_at hl 4 rfl) ?_
                refine lv_iload SS.1 SS.2.1 dX4_weigh_110 (lv_at hl 0 rfl) ?_
                refine j_put SS hG hP (cW_D hD) hS 3 (v := .int (J z_59)) (ty := .int) (C := RX4) (T := TX4) (N := 3) rfl rfl inX4 tyX4 tyX4_ok nmX4 0 (by decide) (ref := "GridPolygons$LeastWidth") kw_194 rfl rfl (by decide +kernel) rfl rfl (Nat.le_of_ble_eq_true rfl) dX4_weigh_112 (ws' := (cW D q (sV u 1 z_59))) rfl (fun H locs hP hS => ?_)
                refine lv_aload_n SS.1 SS.2.1 dX4_weigh_115 rfl (lv_at hl 4 rfl) ?_
                refine lv_iload SS.1 SS.2.1 dX4_weigh_116 (lv_at hl 2 rfl) ?_
                refine j_put SS hG hP (cW_D hD) hS 3 (v := .int (J (-a))) (ty := .int) (C := RX4) (T := TX4) (N := 3) rfl rfl inX4 tyX4 tyX4_ok nmX4 1 (by decide) (ref := "GridPolygons$LeastWidth") kw_196 rfl rfl (by decide +kernel) rfl rfl (Nat.le_of_ble_eq_true rfl) dX4_weigh_118 (ws' := (cW D q (sV (sV u 1 z_59) 2 (-a)))) rfl (fun H locs hP hS => ?_)
                refine lv_aload_n SS.1 SS.2.1 dX4_weigh_121 rfl (lv_at hl 4 rfl) ?_
                refine lv_iload SS.1 SS.2.1 dX4_weigh_122 (lv_at hl 1 rfl) ?_
                refine j_put SS hG hP (cW_D hD) hS 3 (v := .int (J (-b))) (ty := .int) (C := RX4) (T := TX4) (N := 3) rfl rfl inX4 tyX4 tyX4_ok nmX4 2 (by decide) (ref := "GridPolygons$LeastWidth") kw_198 rfl rfl (by decide +kernel) rfl rfl (Nat.le_of_ble_eq_true rfl) dX4_weigh_124 (ws' := (cW D q (sV (sV (sV u 1 z_59) 2 (-a)) 3 (-b)))) rfl (fun H locs hP hS => ?_)
                exact W.vret SS.1 SS.2.1 hr (fun t0 ht hW => ⟨⟨(sV (sV (sV u 1 z_59) 2 (-a)) 3 (-b)), rfl, (⟨z_59, (-a), (-b), rfl, by first | exact ⟨Or.inl ⟨by omega, by omega, rfl, rfl, rfl⟩, by omega⟩ | exact ⟨Or.inr ⟨_, _, _, by first | exact Or.inl ⟨rfl, rfl⟩ | exact Or.inr ⟨rfl, rfl⟩, by unfold nrm; omega, h_59.1, by first | exact Or.inl ⟨by unfold lt3; omega, rfl, rfl, rfl⟩ | exact Or.inr ⟨by unfold lt3; omega, rfl, rfl, rfl⟩⟩, by omega⟩⟩), by show va_P D.1 j_cl (cW D q (sV (sV (sV u 1 z_59) 2 (-a)) 3 (-b))) t0.heap; rw [ht]; first | exact hP | (simp only [sC_id, sX_id, sY_id, sH_id, sT_id, sV_id]; exact hP)⟩, hS.F ht⟩) hS.2.2 dX4_weigh_127 hlk
              · skip
                refine lv_iload SS.1 SS.2.1 dX4_weigh_91 (lv_at hl 2 rfl) ?_
                refine lv_aload_n SS.1 SS.2.1 dX4_weigh_93 rfl (lv_at hl 4 rfl) ?_
                refine j_get SS hG hP 3 (v := .int (J (u.2.2.2 2))) (C := RX4) (T := TX4) (N := 3) rfl rfl inX4 1 (by decide) (ref := "GridPolygons$LeastWidth") kw_196 rfl rfl dX4_weigh_94 ?_
                refine j_icmp_ne SS (tgt := 127) (x := (-a)) (y := (u.2.2.2 2)) dX4_weigh_97 (by decide) (by omega) (by omega) (fun c_97 => ?_) (fun c_97 => ?_)
                · skip
                  exact W.vret SS.1 SS.2.1 hr (fun t0 ht hW => ⟨⟨(sV (sV (sV u 1 (u.2.2.2 1)) 2 (u.2.2.2 2)) 3 (u.2.2.2 3)), rfl, (⟨(u.2.2.2 1), (u.2.2.2 2), (u.2.2.2 3), rfl, by first | exact ⟨Or.inl ⟨by omega, by omega, rfl, rfl, rfl⟩, by omega⟩ | exact ⟨Or.inr ⟨_, _, _, by first | exact Or.inl ⟨rfl, rfl⟩ | exact Or.inr ⟨rfl, rfl⟩, by unfold nrm; omega, h_59.1, by first | exact Or.inl ⟨by unfold lt3; omega, rfl, rfl, rfl⟩ | exact Or.inr ⟨by unfold lt3; omega, rfl, rfl, rfl⟩⟩, by omega⟩⟩), by show va_P D.1 j_cl (cW D q (sV (sV (sV u 1 (u.2.2.2 1)) 2 (u.2.2.2 2)) 3 (u.2.2.2 3))) t0.heap; rw [ht]; first | exact hP | (simp only [sC_id, sX_id, sY_id, sH_id, sT_id, sV_id]; exact hP)⟩, hS.F ht⟩) hS.2.2 dX4_weigh_127 hlk
                · skip
                  refine lv_iload SS.1 SS.2.1 dX4_weigh_100 (lv_at hl 1 rfl) ?_
                  refine lv_aload_n SS.1 SS.2.1 dX4_weigh_102 rfl (lv_at hl 4 rfl) ?_
                  refine j_get SS hG hP 3 (v := .int (J (u.2.2.2 3))) (C := RX4) (T := TX4) (N := 3) rfl rfl inX4 2 (by decide) (ref := "GridPolygons$LeastWidth") kw_198 rfl rfl dX4_weigh_103 ?_
                  refine j_icmp_ge SS (tgt := 127) (x := (-b)) (y := (u.2.2.2 3)) dX4_weigh_106 (by decide) (by omega) (by omega) (fun c_106 => ?_) (fun c_106 => ?_)
                  · skip
                    exact W.vret SS.1 SS.2.1 hr (fun t0 ht hW => ⟨⟨(sV (sV (sV u 1 (u.2.2.2 1)) 2 (u.2.2.2 2)) 3 (u.2.2.2 3)), rfl, (⟨(u.2.2.2 1), (u.2.2.2 2), (u.2.2.2 3), rfl, by first | exact ⟨Or.inl ⟨by omega, by omega, rfl, rfl, rfl⟩, by omega⟩ | exact ⟨Or.inr ⟨_, _, _, by first | exact Or.inl ⟨rfl, rfl⟩ | exact Or.inr ⟨rfl, rfl⟩, by unfold nrm; omega, h_59.1, by first | exact Or.inl ⟨by unfold lt3; omega, rfl, rfl, rfl⟩ | exact Or.inr ⟨by unfold lt3; omega, rfl, rfl, rfl⟩⟩, by omega⟩⟩), by show va_P D.1 j_cl (cW D q (sV (sV (sV u 1 (u.2.2.2 1)) 2 (u.2.2.2 2)) 3 (u.2.2.2 3))) t0.heap; rw [ht]; first | exact hP | (simp only [sC_id, sX_id, sY_id, sH_id, sT_id, sV_id]; exact hP)⟩, hS.F ht⟩) hS.2.2 dX4_weigh_127 hlk
                  · skip
                    refine lv_aload_n SS.1 SS.2.1 dX4_weigh_109 rfl (lv_at hl 4 rfl) ?_
                    refine lv_iload SS.1 SS.2.1 dX4_weigh_110 (lv_at hl 0 rfl) ?_
                    refine j_put SS hG hP (cW_D hD) hS 3 (v := .int (J z_59)) (ty := .int) (C := RX4) (T := TX4) (N := 3) rfl rfl inX4 tyX4 tyX4_ok nmX4 0 (by decide) (ref := "GridPolygons$LeastWidth") kw_194 rfl rfl (by decide +kernel) rfl rfl (Nat.le_of_ble_eq_true rfl) dX4_weigh_112 (ws' := (cW D q (sV u 1 z_59))) rfl (fun H locs hP hS => ?_)
                    refine lv_aload_n SS.1 SS.2.1 dX4_weigh_115 rfl (lv_at hl 4 rfl) ?_
                    refine lv_iload SS.1 SS.2.1 dX4_weigh_116 (lv_at hl 2 rfl) ?_
                    refine j_put SS hG hP (cW_D hD) hS 3 (v := .int (J (-a))) (ty := .int) (C := RX4) (T := TX4) (N := 3) rfl rfl inX4 tyX4 tyX4_ok nmX4 1 (by decide) (ref := "GridPolygons$LeastWidth") kw_196 rfl rfl (by decide +kernel) rfl rfl (Nat.le_of_ble_eq_true rfl) dX4_weigh_118 (ws' := (cW D q (sV (sV u 1 z_59) 2 (-a)))) rfl (fun H locs hP hS => ?_)
                    refine lv_aload_n SS.1 SS.2.1 dX4_weigh_121 rfl (lv_at hl 4 rfl) ?_
                    refine lv_iload SS.1 SS.2.1 dX4_weigh_122 (lv_at hl 1 rfl) ?_
                    refine j_put SS hG hP (cW_D hD) hS 3 (v := .int (J (-b))) (ty := .int) (C := RX4) (T := TX4) (N := 3) rfl rfl inX4 tyX4 tyX4_ok nmX4 2 (by decide) (ref := "GridPolygons$LeastWidth") kw_198 rfl rfl (by decide +kernel) rfl rfl (Nat.le_of_ble_eq_true rfl) dX4_weigh_124 (ws' := (cW D q (sV (sV (sV u 1 z_59) 2 (-a)) 3 (-b)))) rfl (fun H locs hP hS => ?_)
                    exact W.vret SS.1 SS.2.1 hr (fun t0 ht hW => ⟨⟨(sV (sV (sV u 1 z_59) 2 (-a)) 3 (-b)), rfl, (⟨z_59, (-a), (-b), rfl, by first | exact ⟨Or.inl ⟨by omega, by omega, rfl, rfl, rfl⟩, by omega⟩ | exact ⟨Or.inr ⟨_, _, _, by first | exact Or.inl ⟨rfl, rfl⟩ | exact Or.inr ⟨rfl, rfl⟩, by unfold nrm; omega, h_59.1, by first | exact Or.inl ⟨by unfold lt3; omega, rfl, rfl, rfl⟩ | exact Or.inr ⟨by unfold lt3; omega, rfl, rfl, rfl⟩⟩, by omega⟩⟩), by show va_P D.1 j_cl (cW D q (sV (sV (sV u 1 z_59) 2 (-a)) 3 (-b))) t0.heap; rw [ht]; first | exact hP | (simp only [sC_id, sX_id, sY_id, sH_id, sT_id, sV_id]; exact hP)⟩, hS.F ht⟩) hS.2.2 dX4_weigh_127 hlk
        · skip
          refine lv_iload_n SS.1 SS.2.1 dX4_weigh_17 rfl (lv_at hl 3 rfl) ?_
          refine j_if_le SS (tgt := 25) (x := b) dX4_weigh_18 (by decide) (by omega) (fun c_18 => ?_) (fun c_18 => ?_)
          · skip
            refine j_iconst SS dX4_weigh_25 ?_
            refine lv_istore (lv' := [(4, .int (J 0)), (0, .ref (q 3)), (1, .ref (q (9 + 5 * r))), (2, .int (J a)), (3, .int (J b))]) SS.1 SS.2.1 dX4_weigh_26 hl (by decide) rfl (fun ls hl => ?_)
            refine lv_iload SS.1 SS.2.1 dX4_weigh_28 (lv_at hl 0 rfl) ?_
            refine j_if_eq SS (tgt := 37) dX4_weigh_30 (by decide) (by decide) (fun c_30 => ?_) (fun c_30 => absurd c_30 (by decide))
            refine lv_iload_n SS.1 SS.2.1 dX4_weigh_37 rfl (lv_at hl 3 rfl) ?_
            refine j_ineg SS dX4_weigh_38 ?_
            refine lv_istore (lv' := [(5, .int (J (-a))), (4, .int (J 0)), (0, .ref (q 3)), (1, .ref (q (9 + 5 * r))), (2, .int (J a)), (3, .int (J b))]) SS.1 SS.2.1 dX4_weigh_39 hl (by decide) rfl (fun ls hl => ?_)
            refine lv_iload SS.1 SS.2.1 dX4_weigh_41 (lv_at hl 1 rfl) ?_
            refine j_if_eq SS (tgt := 50) dX4_weigh_43 (by decide) (by decide) (fun c_43 => ?_) (fun c_43 => absurd c_43 (by decide))
            refine lv_iload_n SS.1 SS.2.1 dX4_weigh_50 rfl (lv_at hl 5 rfl) ?_
            refine j_ineg SS dX4_weigh_51 ?_
            refine lv_istore (lv' := [(6, .int (J (-b))), (5, .int (J (-a))), (4, .int (J 0)), (0, .ref (q 3)), (1, .ref (q (9 + 5 * r))), (2, .int (J a)), (3, .int (J b))]) SS.1 SS.2.1 dX4_weigh_52 hl (by decide) rfl (fun ls hl => ?_)
            refine lv_aload_n SS.1 SS.2.1 dX4_weigh_54 rfl (lv_at hl 4 rfl) ?_
            refine lv_iload SS.1 SS.2.1 dX4_weigh_55 (lv_at hl 1 rfl) ?_
            refine lv_iload SS.1 SS.2.1 dX4_weigh_57 (lv_at hl 0 rfl) ?_
            refine j_vRi SS (As := [.int (J (-a)), .int (J (-b))]) (rest := []) (c_X7_across2 l D q u r (by omega) (40 : Int) (-a) (-b) (show 0 ≤ (40 : Int) ∧ (40 : Int) ≤ 80 from (by omega)) (show RB (40 : Int) u r from (p0)) (show -20000 ≤ (-a) ∧ (-a) ≤ 20000 from (by omega)) (show -20000 ≤ (-b) ∧ (-b) ≤ 20000 from (by omega)) (show 1 ≤ (u.1.2.2.1 r) from (p4))) mf_X7_across kw_643 hG hP hP (ci := 7) (q0 := (9 + 5 * r)) rfl (cw_ring (by omega)) rfl rfl hl.1 ⟨⟨Nat.le_of_ble_eq_true rfl, Nat.le_of_ble_eq_true rfl⟩, Nat.le_of_ble_eq_true rfl, Nat.le_refl _, Nat.le_refl _⟩ rfl dX4_weigh_59 (fun z_59 h_59 => ?_)
            have h_59 : spR u r (-a) (-b) z_59 ∧ -6400000 ≤ z_59 ∧ z_59 ≤ 6400000 := h_59
            have h0_59 := spR_0 h_59.1
            refine lv_istore (lv' := [(7, .int (J z_59)), (6, .int (J (-b))), (5, .int (J (-a))), (4, .int (J 0)), (0, .ref (q 3)), (1, .ref (q (9 + 5 * r))), (2, .int (J a)), (3, .int (J b))]) SS.1 SS.2.1 dX4_weigh_62 hl (by decide) rfl (fun ls hl => ?_)
            refine lv_iload SS.1 SS.2.1 dX4_weigh_64 (lv_at hl 0 rfl) ?_
            refine lv_aload_n SS.1 SS.2.1 dX4_weigh_66 rfl (lv_at hl 4 rfl) ?_
            refine j_get SS hG hP 3 (v := .int (J (u.2.2.2 1))) (C := RX4) (T := TX4) (N := 3) rfl rfl inX4 0 (by decide) (ref := "GridPolygons$LeastWidth") kw_194 rfl rfl dX4_weigh_67 ?_
            refine j_icmp_lt SS (tgt := 109) (x := z_59) (y := (u.2.2.2 1)) dX4_weigh_70 (by decide) (by omega) (by omega) (fun c_70 => ?_) (fun c_70 => ?_)
            · skip
              refine lv_aload_n SS.1 SS.2.1 dX4_weigh_109 rfl (lv_at hl 4 rfl) ?_
              refine lv_iload SS.1 SS.2.1 dX4_weigh_110 (lv_at hl 0 rfl) ?_
              refine j_put SS hG hP (cW_D hD) hS 3 (v := .int (J z_59)) (ty := .int) (C := RX4) (T := TX4) (N := 3) rfl rfl inX4 tyX4 tyX4_ok nmX4 0 (by decide) (ref := "GridPolygons$LeastWidth") kw_194 rfl rfl (by decide +kernel) rfl rfl (Nat.le_of_ble_eq_true rfl) dX4_weigh_112 (ws' := (cW D q (sV u 1 z_59))) rfl (fun H locs hP hS => ?_)
              refine lv_aload_n SS.1 SS.2.1 dX4_weigh_115 rfl (lv_at hl 4 rfl) ?_
              refine lv_iload SS.1 SS.2.1 dX4_weigh_116 (lv_at hl 2 rfl) ?_
              refine j_put SS hG hP (cW_D hD) hS 3 (v := .int (J (-a))) (ty := .int) (C := RX4) (T := TX4) (N := 3) rfl rfl inX4 tyX4 tyX4_ok nmX4 1 (by decide) (ref := "GridPolygons$LeastWidth") kw_196 rfl rfl (by decide +kernel) rfl rfl (Nat.le_of_ble_eq_true rfl) dX4_weigh_118 (ws' := (cW D q (sV (sV u 1 z_59) 2 (-a)))) rfl (fun H locs hP hS => ?_)
              refine lv_aload_n SS.1 SS.2.1 dX4_weigh_121 rfl (lv_at hl 4 rfl) ?_
              refine lv_iload SS.1 SS.2.1 dX4_weigh_122 (lv_at hl 1 rfl) ?_
              refine j_put SS hG hP (cW_D hD) hS 3 (v := .int (J (-b))) (ty := .int) (C := RX4) (T := TX4) (N := 3) rfl rfl inX4 tyX4 tyX4_ok nmX4 2 (by decide) (ref := "GridPolygons$LeastWidth") kw_198 rfl rfl (by decide +kernel) rfl rfl (Nat.le_of_ble_eq_true rfl) dX4_weigh_124 (ws' := (cW D q (sV (sV (sV u 1 z_59) 2 (-a)) 3 (-b)))) rfl (fun H locs hP hS => ?_)
              exact W.vret SS.1 SS.2.1 hr (fun t0 ht hW => ⟨⟨(sV (sV (sV u 1 z_59) 2 (-a)) 3 (-b)), rfl, (⟨z_59, (-a), (-b), rfl, by first | exact ⟨Or.inl ⟨by omega, by omega, rfl, rfl, rfl⟩, by omega⟩ | exact ⟨Or.inr ⟨_, _, _, by first | exact Or.inl ⟨rfl, rfl⟩ | exact Or.inr ⟨rfl, rfl⟩, by unfold nrm; omega, h_59.1, by first | exact Or.inl ⟨by unfold lt3; omega, rfl, rfl, rfl⟩ | exact Or.inr ⟨by unfold lt3; omega, rfl, rfl, rfl⟩⟩, by omega⟩⟩), by show va_P D.1 j_cl (cW D q (sV (sV (sV u 1 z_59) 2 (-a)) 3 (-b))) t0.heap; rw [ht]; first | exact hP | (simp only [sC_id, sX_id, sY_id, sH_id, sT_id, sV_id]; exact hP)⟩, hS.F ht⟩) hS.2.2 dX4_weigh_127 hlk
            · skip
              refine lv_iload SS.1 SS.2.1 dX4_weigh_73 (lv_at hl 0 rfl) ?_
              refine lv_aload_n SS.1 SS.2.1 dX4_weigh_75 rfl (lv_at hl 4 rfl) ?_
              refine j_get SS hG hP 3 (v := .int (J (u.2.2.2 1))) (C := RX4) (T := TX4) (N := 3) rfl rfl inX4 0 (by decide) (ref := "GridPolygons$LeastWidth") kw_194 rfl rfl dX4_weigh_76 ?_
              refine j_icmp_ne SS (tgt := 127) (x := z_59) (y := (u.2.2.2 1)) dX4_weigh_79 (by decide) (by omega) (by omega) (fun c_79 => ?_) (fun c_79 => ?_)
              · skip
                exact W.vret SS.1 SS.2.1 hr (fun t0 ht hW => ⟨⟨(sV (sV (sV u 1 (u.2.2.2 1)) 2 (u.2.2.2 2)) 3 (u.2.2.2 3)), rfl, (⟨(u.2.2.2 1), (u.2.2.2 2), (u.2.2.2 3), rfl, by first | exact ⟨Or.inl ⟨by omega, by omega, rfl, rfl, rfl⟩, by omega⟩ | exact ⟨Or.inr ⟨_, _, _, by first | exact Or.inl ⟨rfl, rfl⟩ | exact Or.inr ⟨rfl, rfl⟩, by unfold nrm; omega, h_59.1, by first | exact Or.inl ⟨by unfold lt3; omega, rfl, rfl, rfl⟩ | exact Or.inr ⟨by unfold lt3; omega, rfl, rfl, rfl⟩⟩, by omega⟩⟩), by show va_P D.1 j_cl (cW D q (sV (sV (sV u 1 (u.2.2.2 1)) 2 (u.2.2.2 2)) 3 (u.2.2.2 3))) t0.heap; rw [ht]; first | exact hP | (simp only [sC_id, sX_id, sY_id, sH_id, sT_id, sV_id]; exact hP)⟩, hS.F ht⟩) hS.2.2 dX4_weigh_127 hlk
              · skip
                refine lv_iload SS.1 SS.2.1 dX4_weigh_82 (lv_at hl 2 rfl) ?_
                refine lv_aload_n SS.1 SS.2.1 dX4_weigh_84 rfl (lv_at hl 4 rfl) ?_
                refine j_get SS hG hP 3 (v := .int (J (u.2.2.2 2))) (C := RX4) (T := TX4) (N := 3) rfl rfl inX4 1 (by decide) (ref := "GridPolygons$LeastWidth") kw_196 rfl rfl dX4_weigh_85 ?_
                refine j_icmp_lt SS (tgt := 109) (x := (-a)) (y := (u.2.2.2 2)) dX4_weigh_88 (by decide) (by omega) (by omega) (fun c_88 => ?_) (fun c_88 => ?_)
                · skip
                  refine lv_aload_n SS.1 SS.2.1 dX4_weigh_109 rfl (lv_at hl 4 rfl) ?_
                  refine lv_iload SS.1 SS.2.1 dX4_weigh_110 (lv_at hl 0 rfl) ?_
                  refine j_put SS hG hP (cW_D hD) hS 3 (v := .int (J z_59)) (ty := .int) (C := RX4) (T := TX4) (N := 3) rfl rfl inX4 tyX4 tyX4_ok nmX4 0 (by decide) (ref := "GridPolygons$LeastWidth") kw_194 rfl rfl (by decide +kernel) rfl rfl (Nat.le_of_ble_eq_true rfl) dX4_weigh_112 (ws' := (cW D q (sV u 1 z_59))) rfl (fun H locs hP hS => ?_)
                  refine lv_aload_n SS.1 SS.2.1 dX4_weigh_115 rfl (lv_at hl 4 rfl) ?_
                  refine lv_iload SS.1 SS.2.1 dX4_weigh_116 (lv_at hl 2 rfl) ?_
                  refine j_put SS hG hP (cW_D hD) hS 3 (v := .int (J (-a))) (ty := .int) (C := RX4) (T := TX4) (N := 3) rfl rfl inX4 tyX4 tyX4_ok nmX4 1 (by decide) (ref := "GridPolygons$LeastWidth") kw_196 rfl rfl (by decide +kernel) rfl rfl (Nat.le_of_ble_eq_true rfl) dX4_weigh_118 (ws' := (cW D q (sV (sV u 1 z_59) 2 (-a)))) rfl (fun H locs hP hS => ?_)
                  refine lv_aload_n SS.1 SS.2.1 dX4_weigh_121 rfl (lv_at hl 4 rfl) ?_
                  refine lv_iload SS.1 SS.2.1 dX4_weigh_122 (lv_at hl 1 rfl) ?_
                  refine j_put SS hG hP (cW_D hD) hS 3 (v := .int (J (-b))) (ty := .int) (C := RX4) (T := TX4) (N := 3) rfl rfl inX4 tyX4 tyX4_ok nmX4 2 (by decide) (ref := "GridPolygons$LeastWidth") kw_198 rfl rfl (by decide +kernel) rfl rfl (Nat.le_of_ble_eq_true rfl) dX4_weigh_124 (ws' := (cW D q (sV (sV (sV u 1 z_59) 2 (-a)) 3 (-b)))) rfl (fun H locs hP hS => ?_)
                  exact W.vret SS.1 SS.2.1 hr (fun t0 ht hW => ⟨⟨(sV (sV (sV u 1 z_59) 2 (-a)) 3 (-b)), rfl, (⟨z_59, (-a), (-b), rfl, by first | exact ⟨Or.inl ⟨by omega, by omega, rfl, rfl, rfl⟩, by omega⟩ | exact ⟨Or.inr ⟨_, _, _, by first | exact Or.inl ⟨rfl, rfl⟩ | exact Or.inr ⟨rfl, rfl⟩, by unfold nrm; omega, h_59.1, by first | exact Or.inl ⟨by unfold lt3; omega, rfl, rfl, rfl⟩ | exact Or.inr ⟨by unfold lt3; omega, rfl, rfl, rfl⟩⟩, by omega⟩⟩), by show va_P D.1 j_cl (cW D q (sV (sV (sV u 1 z_59) 2 (-a)) 3 (-b))) t0.heap; rw [ht]; first | exact hP | (simp only [sC_id, sX_id, sY_id, sH_id, sT_id, sV_id]; exact hP)⟩, hS.F ht⟩) hS.2.2 dX4_weigh_127 hlk
                · skip
                  refine lv_iload SS.1 SS.2.1 dX4_weigh_91 (lv_at hl 2 rfl) ?_
                  refine lv_aload_n SS.1 SS.2.1 dX4_weigh_93 rfl (lv_at hl 4 rfl) ?_
                  refine j_get SS hG hP 3 (v := .int (J (u.2.2.2 2))) (C := RX4) (T := TX4) (N := 3) rfl rfl inX4 1 (by decide) (ref := "GridPolygons$LeastWidth") kw_196 rfl rfl dX4_weigh_94 ?_
                  refine j_icmp_ne SS (tgt := 127) (x := (-a)) (y := (u.2.2.2 2)) dX4_weigh_97 (by decide) (by omega) (by omega) (fun c_97 => ?_) (fun c_97 => ?_)
                  · skip
                    exact W.vret SS.1 SS.2.1 hr (fun t0 ht hW => ⟨⟨(sV (sV (sV u 1 (u.2.2.2 1)) 2 (u.2.2.2 2)) 3 (u.2.2.2 3)), rfl, (⟨(u.2.2.2 1), (u.2.2.2 2), (u.2.2.2 3), rfl, by first | exact ⟨Or.inl ⟨by omega, by omega, rfl, rfl, rfl⟩, by omega⟩ | exact ⟨Or.inr ⟨_, _, _, by first | exact Or.inl ⟨rfl, rfl⟩ | exact Or.inr ⟨rfl, rfl⟩, by unfold nrm; omega, h_59.1, by first | exact Or.inl ⟨by unfold lt3; omega, rfl, rfl, rfl⟩ | exact Or.inr ⟨by unfold lt3; omega, rfl, rfl, rfl⟩⟩, by omega⟩⟩), by show va_P D.1 j_cl (cW D q (sV (sV (sV u 1 (u.2.2.2 1)) 2 (u.2.2.2 2)) 3 (u.2.2.2 3))) t0.heap; rw [ht]; first | exact hP | (simp only [sC_id, sX_id, sY_id, sH_id, sT_id, sV_id]; exact hP)⟩, hS.F ht⟩) hS.2.2 dX4_weigh_127 hlk
                  · skip
                    refine lv_iload SS.1 SS.2.1 dX4_weigh_100 (lv_at hl 1 rfl) ?_
                    refine lv_aload_n SS.1 SS.2.1 dX4_weigh_102 rfl (lv_at hl 4 rfl) ?_
                    refine j_get SS hG hP 3 (v := .int (J (u.2.2.2 3))) (C := RX4) (T := TX4) (N := 3) rfl rfl inX4 2 (by decide) (ref := "GridPolygons$LeastWidth") kw_198 rfl rfl dX4_weigh_103 ?_
                    refine j_icmp_ge SS (tgt := 127) (x := (-b)) (y := (u.2.2.2 3)) dX4_weigh_106 (by decide) (by omega) (by omega) (fun c_106 => ?_) (fun c_106 => ?_)
                    · skip
                      exact W.vret SS.1 SS.2.1 hr (fun t0 ht hW => ⟨⟨(sV (sV (sV u 1 (u.2.2.2 1)) 2 (u.2.2.2 2)) 3 (u.2.2.2 3)), rfl, (⟨(u.2.2.2 1), (u.2.2.2 2), (u.2.2.2 3), rfl, by first | exact ⟨Or.inl ⟨by omega, by omega, rfl, rfl, rfl⟩, by omega⟩ | exact ⟨Or.inr ⟨_, _, _, by first | exact Or.inl ⟨rfl, rfl⟩ | exact Or.inr ⟨rfl, rfl⟩, by unfold nrm; omega, h_59.1, by first | exact Or.inl ⟨by unfold lt3; omega, rfl, rfl, rfl⟩ | exact Or.inr ⟨by unfold lt3; omega, rfl, rfl, rfl⟩⟩, by omega⟩⟩), by show va_P D.1 j_cl (cW D q (sV (sV (sV u 1 (u.2.2.2 1)) 2 (u.2.2.2 2)) 3 (u.2.2.2 3))) t0.heap; rw [ht]; first | exact hP | (simp only [sC_id, sX_id, sY_id, sH_id, sT_id, sV_id]; exact hP)⟩, hS.F ht⟩) hS.2.2 dX4_weigh_127 hlk
                    · skip
                      refine lv_aload_n SS.1 SS.2.1 dX4_weigh_109 rfl (lv_at hl 4 rfl) ?_
                      refine lv_iload SS.1 SS.2.1 dX4_weigh_110 (lv_at hl 0 rfl) ?_
                      refine j_put SS hG hP (cW_D hD) hS 3 (v := .int (J z_59)) (ty := .int) (C := RX4) (T := TX4) (N := 3) rfl rfl inX4 tyX4 tyX4_ok nmX4 0 (by decide) (ref := "GridPolygons$LeastWidth") kw_194 rfl rfl (by decide +kernel) rfl rfl (Nat.le_of_ble_eq_true rfl) dX4_weigh_112 (ws' := (cW D q (sV u 1 z_59))) rfl (fun H locs hP hS => ?_)
                      refine lv_aload_n SS.1 SS.2.1 dX4_weigh_115 rfl (lv_at hl 4 rfl) ?_
                      refine lv_iload SS.1 SS.2.1 dX4_weigh_116 (lv_at hl 2 rfl) ?_
                      refine j_put SS hG hP (cW_D hD) hS 3 (v := .int (J (-a))) (ty := .int) (C := RX4) (T := TX4) (N := 3) rfl rfl inX4 tyX4 tyX4_ok nmX4 1 (by decide) (ref := "GridPolygons$LeastWidth") kw_196 rfl rfl (by decide +kernel) rfl rfl (Nat.le_of_ble_eq_true rfl) dX4_weigh_118 (ws' := (cW D q (sV (sV u 1 z_59) 2 (-a)))) rfl (fun H locs hP hS => ?_)
                      refine lv_aload_n SS.1 SS.2.1 dX4_weigh_121 rfl (lv_at hl 4 rfl) ?_
                      refine lv_iload SS.1 SS.2.1 dX4_weigh_122 (lv_at hl 1 rfl) ?_
                      refine j_put SS hG hP (cW_D hD) hS 3 (v := .int (J (-b))) (ty := .int) (C := RX4) (T := TX4) (N := 3) rfl rfl inX4 tyX4 tyX4_ok nmX4 2 (by decide) (ref := "GridPolygons$LeastWidth") kw_198 rfl rfl (by decide +kernel) rfl rfl (Nat.le_of_ble_eq_true rfl) dX4_weigh_124 (ws' := (cW D q (sV (sV (sV u 1 z_59) 2 (-a)) 3 (-b)))) rfl (fun H locs hP hS => ?_)
                      exact W.vret SS.1 SS.2.1 hr (fun t0 ht hW => ⟨⟨(sV (sV (sV u 1 z_59) 2 (-a)) 3 (-b)), rfl, (⟨z_59, (-a), (-b), rfl, by first | exact ⟨Or.inl ⟨by omega, by omega, rfl, rfl, rfl⟩, by omega⟩ | exact ⟨Or.inr ⟨_, _, _, by first | exact Or.inl ⟨rfl, rfl⟩ | exact Or.inr ⟨rfl, rfl⟩, by unfold nrm; omega, h_59.1, by first | exact Or.inl ⟨by unfold lt3; omega, rfl, rfl, rfl⟩ | exact Or.inr ⟨by unfold lt3; omega, rfl, rfl, rfl⟩⟩, by omega⟩⟩), by show va_P D.1 j_cl (cW D q (sV (sV (sV u 1 z_59) 2 (-a)) 3 (-b))) t0.heap; rw [ht]; first | exact hP | (simp only [sC_id, sX_id, sY_id, sH_id, sT_id, sV_id]; exact hP)⟩, hS.F ht⟩) hS.2.2 dX4_weigh_127 hlk
          · skip
            refine j_iconst SS dX4_weigh_21 ?_
            refine lv_goto (tgt := 26) SS.1 SS.2.1 dX4_weigh_22 (by decide) ?_
            refine lv_istore (lv' := [(4, .int (J 1)), (0, .ref (q 3)), (1, .ref (q (9 + 5 * r))), (2, .int (J a)), (3, .int (J b))]) SS.1 SS.2.1 dX4_weigh_26 hl (by decide) rfl (fun ls hl => ?_)
            refine lv_iload SS.1 SS.2.1 dX4_weigh_28 (lv_at hl 0 rfl) ?_
            refine j_if_eq SS (tgt := 37) dX4_weigh_30 (by decide) (by decide) (fun c_30 => absurd c_30 (by decide)) (fun c_30 => ?_)
            refine lv_iload_n SS.1 SS.2.1 dX4_weigh_33 rfl (lv_at hl 3 rfl) ?_
            refine lv_goto (tgt := 39) SS.1 SS.2.1 dX4_weigh_34 (by decide) ?_
            refine lv_istore (lv' := [(5, .int (J a)), (4, .int (J 1)), (0, .ref (q 3)), (1, .ref (q (9 + 5 * r))), (2, .int (J a)), (3, .int (J b))]) SS.1 SS.2.1 dX4_weigh_39 hl (by decide) rfl (fun ls hl => ?_)
            refine lv_iload SS.1 SS.2.1 dX4_weigh_41 (lv_at hl 1 rfl) ?_
            refine j_if_eq SS (tgt := 50) dX4_weigh_43 (by decide) (by decide) (fun c_43 => absurd c_43 (by decide)) (fun c_43 => ?_)
            refine lv_iload_n SS.1 SS.2.1 dX4_weigh_46 rfl (lv_at hl 5 rfl) ?_
            refine lv_goto (tgt := 52) SS.1 SS.2.1 dX4_weigh_47 (by decide) ?_
            refine lv_istore (lv' := [(6, .int (J b)), (5, .int (J a)), (4, .int (J 1)), (0, .ref (q 3)), (1, .ref (q (9 + 5 * r))), (2, .int (J a)), (3, .int (J b))]) SS.1 SS.2.1 dX4_weigh_52 hl (by decide) rfl (fun ls hl => ?_)
            refine lv_aload_n SS.1 SS.2.1 dX4_weigh_54 rfl (lv_at hl 4 rfl) ?_
            refine lv_iload SS.1 SS.2.1 dX4_weigh_55 (lv_at hl 1 rfl) ?_
            refine lv_iload SS.1 SS.2.1 dX4_weigh_57 (lv_at hl 0 rfl) ?_
            refine j_vRi SS (As := [.int (J a), .int (J b)]) (rest := []) (c_X7_across2 l D q u r (by omega) (40 : Int) a b (show 0 ≤ (40 : Int) ∧ (40 : Int) ≤ 80 from (by omega)) (show RB (40 : Int) u r from (p0)) (show -20000 ≤ a ∧ a ≤ 20000 from (p1)) (show -20000 ≤ b ∧ b ≤ 20000 from (p2)) (show 1 ≤ (u.1.2.2.1 r) from (p4))) mf_X7_across kw_643 hG hP hP (ci := 7) (q0 := (9 + 5 * r)) rfl (cw_ring (by omega)) rfl rfl hl.1 ⟨⟨Nat.le_of_ble_eq_true rfl, Nat.le_of_ble_eq_true rfl⟩, Nat.le_of_ble_eq_true rfl, Nat.le_refl _, Nat.le_refl _⟩ rfl dX4_weigh_59 (fun z_59 h_59 => ?_)
            have h_59 : spR u r a b z_59 ∧ -6400000 ≤ z_59 ∧ z_59 ≤ 6400000 := h_59
            have h0_59 := spR_0 h_59.1
            refine lv_istore (lv' := [(7, .int (J z_59)), (6, .int (J b)), (5, .int (J a)), (4, .int (J 1)), (0, .ref (q 3)), (1, .ref (q (9 + 5 * r))), (2, .int (J a)), (3, .int (J b))]) SS.1 SS.2.1 dX4_weigh_62 hl (by decide) rfl (fun ls hl => ?_)
            refine lv_iload SS.1 SS.2.1 dX4_weigh_64 (lv_at hl 0 rfl) ?_
            refine lv_aload_n SS.1 SS.2.1 dX4_weigh_66 rfl (lv_at hl 4 rfl) ?_
            refine j_get SS hG hP 3 (v := .int (J (u.2.2.2 1))) (C := RX4) (T := TX4) (N := 3) rfl rfl inX4 0 (by decide) (ref := "GridPolygons$LeastWidth") kw_194 rfl rfl dX4_weigh_67 ?_
            refine j_icmp_lt SS (tgt := 109) (x := z_59) (y := (u.2.2.2 1)) dX4_weigh_70 (by decide) (by omega) (by omega) (fun c_70 => ?_) (fun c_70 => ?_)
            · skip
              refine lv_aload_n SS.1 SS.2.1 dX4_weigh_109 rfl (lv_at hl 4 rfl) ?_
              refine lv_iload SS.1 SS.2.1 dX4_weigh_110 (lv_at hl 0 rfl) ?_
              refine j_put SS hG hP (cW_D hD) hS 3 (v := .int (J z_59)) (ty := .int) (C := RX4) (T := TX4) (N := 3) rfl rfl inX4 tyX4 tyX4_ok nmX4 0 (by decide) (ref := "GridPolygons$LeastWidth") kw_194 rfl rfl (by decide +kernel) rfl rfl (Nat.le_of_ble_eq_true rfl) dX4_weigh_112 (ws' := (cW D q (sV u 1 z_59))) rfl (fun H locs hP hS => ?_)
              refine lv_aload_n SS.1 SS.2.1 dX4_weigh_115 rfl (lv_at hl 4 rfl) ?_
              refine lv_iload SS.1 SS.2.1 dX4_weigh_116 (lv_at hl 2 rfl) ?_
              refine j_put SS hG hP (cW_D hD) hS 3 (v := .int (J a)) (ty := .int) (C := RX4) (T := TX4) (N := 3) rfl rfl inX4 tyX4 tyX4_ok nmX4 1 (by decide) (ref := "GridPolygons$LeastWidth") kw_196 rfl rfl (by decide +kernel) rfl rfl (Nat.le_of_ble_eq_true rfl) dX4_weigh_118 (ws' := (cW D q (sV (sV u 1 z_59) 2 a))) rfl (fun H locs hP hS => ?_)
              refine lv_aload_n SS.1 SS.2.1 dX4_weigh_121 rfl (lv_at hl 4 rfl) ?_
              refine lv_iload SS.1 SS.2.1 dX4_weigh_122 (lv_at hl 1 rfl) ?_
              refine j_put SS hG hP (cW_D hD) hS 3 (v := .int (J b)) (ty := .int) (C := RX4) (T := TX4) (N := 3) rfl rfl inX4 tyX4 tyX4_ok nmX4 2 (by decide) (ref := "GridPolygons$LeastWidth") kw_198 rfl rfl (by decide +kernel) rfl rfl (Nat.le_of_ble_eq_true rfl) dX4_weigh_124 (ws' := (cW D q (sV (sV (sV u 1 z_59) 2 a) 3 b))) rfl (fun H locs hP hS => ?_)
              exact W.vret SS.1 SS.2.1 hr (fun t0 ht hW => ⟨⟨(sV (sV (sV u 1 z_59) 2 a) 3 b), rfl, (⟨z_59, a, b, rfl, by first | exact ⟨Or.inl ⟨by omega, by omega, rfl, rfl, rfl⟩, by omega⟩ | exact ⟨Or.inr ⟨_, _, _, by first | exact Or.inl ⟨rfl, rfl⟩ | exact Or.inr ⟨rfl, rfl⟩, by unfold nrm; omega, h_59.1, by first | exact Or.inl ⟨by unfold lt3; omega, rfl, rfl, rfl⟩ | exact Or.inr ⟨by unfold lt3; omega, rfl, rfl, rfl⟩⟩, by omega⟩⟩), by show va_P D.1 j_cl (cW D q (sV (sV (sV u 1 z_59) 2 a) 3 b)) t0.heap; rw [ht]; first | exact hP | (simp only [sC_id, sX_id, sY_id, sH_id, sT_id, sV_id]; exact hP)⟩, hS.F ht⟩) hS.2.2 dX4_weigh_127 hlk
            · skip
              refine lv_iload SS.1 SS.2.1 dX4_weigh_73 (lv_at hl 0 rfl) ?_
              refine lv_aload_n SS.1 SS.2.1 dX4_weigh_75 rfl (lv_at hl 4 rfl) ?_
              refine j_get SS hG hP 3 (v := .int (J (u.2.2.2 1))) (C := RX4) (T := TX4) (N := 3) rfl rfl inX4 0 (by decide) (ref := "GridPolygons$LeastWidth") kw_194 rfl rfl dX4_weigh_76 ?_
              refine j_icmp_ne SS (tgt := 127) (x := z_59) (y := (u.2.2.2 1)) dX4_weigh_79 (by decide) (by omega) (by omega) (fun c_79 => ?_) (fun c_79 => ?_)
              · skip
                exact W.vret SS.1 SS.2.1 hr (fun t0 ht hW => ⟨⟨(sV (sV (sV u 1 (u.2.2.2 1)) 2 (u.2.2.2 2)) 3 (u.2.2.2 3)), rfl, (⟨(u.2.2.2 1), (u.2.2.2 2), (u.2.2.2 3), rfl, by first | exact ⟨Or.inl ⟨by omega, by omega, rfl, rfl, rfl⟩, by omega⟩ | exact ⟨Or.inr ⟨_, _, _, by first | exact Or.inl ⟨rfl, rfl⟩ | exact Or.inr ⟨rfl, rfl⟩, by unfold nrm; omega, h_59.1, by first | exact Or.inl ⟨by unfold lt3; omega, rfl, rfl, rfl⟩ | exact Or.inr ⟨by unfold lt3; omega, rfl, rfl, rfl⟩⟩, by omega⟩⟩), by show va_P D.1 j_cl (cW D q (sV (sV (sV u 1 (u.2.2.2 1)) 2 (u.2.2.2 2)) 3 (u.2.2.2 3))) t0.heap; rw [ht]; first | exact hP | (simp only [sC_id, sX_id, sY_id, sH_id, sT_id, sV_id]; exact hP)⟩, hS.F ht⟩) hS.2.2 dX4_weigh_127 hlk
              · skip
                refine lv_iload SS.1 SS.2.1 dX4_weigh_82 (lv_at hl 2 rfl) ?_
                refine lv_aload_n SS.1 SS.2.1 dX4_weigh_84 rfl (lv_at hl 4 rfl) ?_
                refine j_get SS hG hP 3 (v := .int (J (u.2.2.2 2))) (C := RX4) (T := TX4) (N := 3) rfl rfl inX4 1 (by decide) (ref := "GridPolygons$LeastWidth") kw_196 rfl rfl dX4_weigh_85 ?_
                refine j_icmp_lt SS (tgt := 109) (x := a) (y := (u.2.2.2 2)) dX4_weigh_88 (by decide) (by omega) (by omega) (fun c_88 => ?_) (fun c_88 => ?_)
                · skip
                  refine lv_aload_n SS.1 SS.2.1 dX4_weigh_109 rfl (lv_at hl 4 rfl) ?_
                  refine lv_iload SS.1 SS.2.1 dX4_weigh_110 (lv_at hl 0 rfl) ?_
                  refine j_put SS hG hP (cW_D hD) hS 3 (v := .int (J z_59)) (ty := .int) (C := RX4) (T := TX4) (N := 3) rfl rfl inX4 tyX4 tyX4_ok nmX4 0 (by decide) (ref := "GridPolygons$LeastWidth") kw_194 rfl rfl (by decide +kernel) rfl rfl (Nat.le_of_ble_eq_true rfl) dX4_weigh_112 (ws' := (cW D q (sV u 1 z_59))) rfl (fun H locs hP hS => ?_)
                  refine lv_aload_n SS.1 SS.2.1 dX4_weigh_115 rfl (lv_at hl 4 rfl) ?_
                  refine lv_iload SS.1 SS.2.1 dX4_weigh_116 (lv_at hl 2 rfl) ?_
                  refine j_put SS hG hP (cW_D hD) hS 3 (v := .int (J a)) (ty := .int) (C := RX4) (T := TX4) (N := 3) rfl rfl inX4 tyX4 tyX4_ok nmX4 1 (by decide) (ref := "GridPolygons$LeastWidth") kw_196 rfl rfl (by decide +kernel) rfl rfl (Nat.le_of_ble_eq_true rfl) dX4_weigh_118 (ws' := (cW D q (sV (sV u 1 z_59) 2 a))) rfl (fun H locs hP hS => ?_)
                  refine lv_aload_n SS.1 SS.2.1 dX4_weigh_121 rfl (lv_at hl 4 rfl) ?_
                  refine lv_iload SS.1 SS.2.1 dX4_weigh_122 (lv_at hl 1 rfl) ?_
                  refine j_put SS hG hP (cW_D hD) hS 3 (v := .int (J b)) (ty := .int) (C := RX4) (T := TX4) (N := 3) rfl rfl inX4 tyX4 tyX4_ok nmX4 2 (by decide) (ref := "GridPolygons$LeastWidth") kw_198 rfl rfl (by decide +kernel) rfl rfl (Nat.le_of_ble_eq_true rfl) dX4_weigh_124 (ws' := (cW D q (sV (sV (sV u 1 z_59) 2 a) 3 b))) rfl (fun H locs hP hS => ?_)
                  exact W.vret SS.1 SS.2.1 hr (fun t0 ht hW => ⟨⟨(sV (sV (sV u 1 z_59) 2 a) 3 b), rfl, (⟨z_59, a, b, rfl, by first | exact ⟨Or.inl ⟨by omega, by omega, rfl, rfl, rfl⟩, by omega⟩ | exact ⟨Or.inr ⟨_, _, _, by first | exact Or.inl ⟨rfl, rfl⟩ | exact Or.inr ⟨rfl, rfl⟩, by unfold nrm; omega, h_59.1, by first | exact Or.inl ⟨by unfold lt3; omega, rfl, rfl, rfl⟩ | exact Or.inr ⟨by unfold lt3; omega, rfl, rfl, rfl⟩⟩, by omega⟩⟩), by show va_P D.1 j_cl (cW D q (sV (sV (sV u 1 z_59) 2 a) 3 b)) t0.heap; rw [ht]; first | exact hP | (simp only [sC_id, sX_id, sY_id, sH_id, sT_id, sV_id]; exact hP)⟩, hS.F ht⟩) hS.2.2 dX4_weigh_127 hlk
                · skip
                  refine lv_iload SS.1 SS.2.1 dX4_weigh_91 (lv_at hl 2 rfl) ?_
                  refine lv_aload_n SS.1 SS.2.1 dX4_weigh_93 rfl (lv_at hl 4 rfl) ?_
                  refine j_get SS hG hP 3 (v := .int (J (u.2.2.2 2))) (C := RX4) (T := TX4) (N := 3) rfl rfl inX4 1 (by decide) (ref := "GridPolygons$LeastWidth") kw_196 rfl rfl dX4_weigh_94 ?_
                  refine j_icmp_ne SS (tgt := 127) (x := a) (y := (u.2.2.2 2)) dX4_weigh_97 (by decide) (by omega) (by omega) (fun c_97 => ?_) (fun c_97 => ?_)
                  · skip
                    exact W.vret SS.1 SS.2.1 hr (fun t0 ht hW => ⟨⟨(sV (sV (sV u 1 (u.2.2.2 1)) 2 (u.2.2.2 2)) 3 (u.2.2.2 3)), rfl, (⟨(u.2.2.2 1), (u.2.2.2 2), (u.2.2.2 3), rfl, by first | exact ⟨Or.inl ⟨by omega, by omega, rfl, rfl, rfl⟩, by omega⟩ | exact ⟨Or.inr ⟨_, _, _, by first | exact Or.inl ⟨rfl, rfl⟩ | exact Or.inr ⟨rfl, rfl⟩, by unfold nrm; omega, h_59.1, by first | exact Or.inl ⟨by unfold lt3; omega, rfl, rfl, rfl⟩ | exact Or.inr ⟨by unfold lt3; omega, rfl, rfl, rfl⟩⟩, by omega⟩⟩), by show va_P D.1 j_cl (cW D q (sV (sV (sV u 1 (u.2.2.2 1)) 2 (u.2.2.2 2)) 3 (u.2.2.2 3))) t0.heap; rw [ht]; first | exact hP | (simp only [sC_id, sX_id, sY_id, sH_id, sT_id, sV_id]; exact hP)⟩, hS.F ht⟩) hS.2.2 dX4_weigh_127 hlk
                  · skip
                    refine lv_iload SS.1 SS.2.1 dX4_weigh_100 (lv_at hl 1 rfl) ?_
                    refine lv_aload_n SS.1 SS.2.1 dX4_weigh_102 rfl (lv_at hl 4 rfl) ?_
                    refine j_get SS hG hP 3 (v := .int (J (u.2.2.2 3))) (C := RX4) (T := TX4) (N := 3) rfl rfl inX4 2 (by decide) (ref := "GridPolygons$LeastWidth") kw_198 rfl rfl dX4_weigh_103 ?_
                    refine j_icmp_ge SS (tgt := 127) (x := b) (y := (u.2.2.2 3)) dX4_weigh_106 (by decide) (by omega) (by omega) (fun c_106 => ?_) (fun c_106 => ?_)
                    · skip
                      exact W.vret SS.1 SS.2.1 hr (fun t0 ht hW => ⟨⟨(sV (sV (sV u 1 (u.2.2.2 1)) 2 (u.2.2.2 2)) 3 (u.2.2.2 3)), rfl, (⟨(u.2.2.2 1), (u.2.2.2 2), (u.2.2.2 3), rfl, by first | exact ⟨Or.inl ⟨by omega, by omega, rfl, rfl, rfl⟩, by omega⟩ | exact ⟨Or.inr ⟨_, _, _, by first | exact Or.inl ⟨rfl, rfl⟩ | exact Or.inr ⟨rfl, rfl⟩, by unfold nrm; omega, h_59.1, by first | exact Or.inl ⟨by unfold lt3; omega, rfl, rfl, rfl⟩ | exact Or.inr ⟨by unfold lt3; omega, rfl, rfl, rfl⟩⟩, by omega⟩⟩), by show va_P D.1 j_cl (cW D q (sV (sV (sV u 1 (u.2.2.2 1)) 2 (u.2.2.2 2)) 3 (u.2.2.2 3))) t0.heap; rw [ht]; first | exact hP | (simp only [sC_id, sX_id, sY_id, sH_id, sT_id, sV_id]; exact hP)⟩, hS.F ht⟩) hS.2.2 dX4_weigh_127 hlk
                    · skip
                      refine lv_aload_n SS.1 SS.2.1 dX4_weigh_109 rfl (lv_at hl 4 rfl) ?_
                      refine lv_iload SS.1 SS.2.1 dX4_weigh_110 (lv_at hl 0 rfl) ?_
                      refine j_put SS hG hP (cW_D hD) hS 3 (v := .int (J z_59)) (ty := .int) (C := RX4) (T := TX4) (N := 3) rfl rfl inX4 tyX4 tyX4_ok nmX4 0 (by decide) (ref := "GridPolygons$LeastWidth") kw_194 rfl rfl (by decide +kernel) rfl rfl (Nat.le_of_ble_eq_true rfl) dX4_weigh_112 (ws' := (cW D q (sV u 1 z_59))) rfl (fun H locs hP hS => ?_)
                      refine lv_aload_n SS.1 SS.2.1 dX4_weigh_115 rfl (lv_at hl 4 rfl) ?_
                      refine lv_iload SS.1 SS.2.1 dX4_weigh_116 (lv_at hl 2 rfl) ?_
                      refine j_put SS hG hP (cW_D hD) hS 3 (v := .int (J a)) (ty := .int) (C := RX4) (T := TX4) (N := 3) rfl rfl inX4 tyX4 tyX4_ok nmX4 1 (by decide) (ref := "GridPolygons$LeastWidth") kw_196 rfl rfl (by decide +kernel) rfl rfl (Nat.le_of_ble_eq_true rfl) dX4_weigh_118 (ws' := (cW D q (sV (sV u 1 z_59) 2 a))) rfl (fun H locs hP hS => ?_)
                      refine lv_aload_n SS.1 SS.2.1 dX4_weigh_121 rfl (lv_at hl 4 rfl) ?_
                      refine lv_iload SS.1 SS.2.1 dX4_weigh_122 (lv_at hl 1 rfl) ?_
                      refine j_put SS hG hP (cW_D hD) hS 3 (v := .int (J b)) (ty := .int) (C := RX4) (T := TX4) (N := 3) rfl rfl inX4 tyX4 tyX4_ok nmX4 2 (by decide) (ref := "GridPolygons$LeastWidth") kw_198 rfl rfl (by decide +kernel) rfl rfl (Nat.le_of_ble_eq_true rfl) dX4_weigh_124 (ws' := (cW D q (sV (sV (sV u 1 z_59) 2 a) 3 b))) rfl (fun H locs hP hS => ?_)
                      exact W.vret SS.1 SS.2.1 hr (fun t0 ht hW => ⟨⟨(sV (sV (sV u 1 z_59) 2 a) 3 b), rfl, (⟨z_59, a, b, rfl, by first | exact ⟨Or.inl ⟨by omega, by omega, rfl, rfl, rfl⟩, by omega⟩ | exact ⟨Or.inr ⟨_, _, _, by first | exact Or.inl ⟨rfl, rfl⟩ | exact Or.inr ⟨rfl, rfl⟩, by unfold nrm; omega, h_59.1, by first | exact Or.inl ⟨by unfold lt3; omega, rfl, rfl, rfl⟩ | exact Or.inr ⟨by unfold lt3; omega, rfl, rfl, rfl⟩⟩, by omega⟩⟩), by show va_P D.1 j_cl (cW D q (sV (sV (sV u 1 z_59) 2 a) 3 b)) t0.heap; rw [ht]; first | exact hP | (simp only [sC_id, sX_id, sY_id, sH_id, sT_id, sV_id]; exact hP)⟩, hS.F ht⟩) hS.2.2 dX4_weigh_127 hlk
    · skip
      exact W.vret SS.1 SS.2.1 hr (fun t0 ht hW => ⟨⟨(sV (sV (sV u 1 (u.2.2.2 1)) 2 (u.2.2.2 2)) 3 (u.2.2.2 3)), rfl, (⟨(u.2.2.2 1), (u.2.2.2 2), (u.2.2.2 3), rfl, by first | exact ⟨Or.inl ⟨by omega, by omega, rfl, rfl, rfl⟩, by omega⟩ | exact ⟨Or.inr ⟨_, _, _, by first | exact Or.inl ⟨rfl, rfl⟩ | exact Or.inr ⟨rfl, rfl⟩, by unfold nrm; omega, h_59.1, by first | exact Or.inl ⟨by unfold lt3; omega, rfl, rfl, rfl⟩ | exact Or.inr ⟨by unfold lt3; omega, rfl, rfl, rfl⟩⟩, by omega⟩⟩), by show va_P D.1 j_cl (cW D q (sV (sV (sV u 1 (u.2.2.2 1)) 2 (u.2.2.2 2)) 3 (u.2.2.2 3))) t0.heap; rw [ht]; first | exact hP | (simp only [sC_id, sX_id, sY_id, sH_id, sT_id, sV_id]; exact hP)⟩, hS.F ht⟩) hS.2.2 dX4_weigh_8 hlk

set_option maxHeartbeats 4000000 in
set_option maxRecDepth 100000 in
theorem c_X4_find3 (l : Launch) (D : JD) (q : Nat → Nat) (u : CS) (A : Nat → Prop) (hD : va_D A (cW D q u)) (r : Nat) (hr : r ≤ 8) (p0 : RB 40 u r) (p1 : 3 ≤ u.1.2.2.1 r) : Met l yX4_find (jw yX4_find cX4_find 11 none) (jr 3 74) (jP [.ref (q 3), .ref (q (9 + 5 * r))] D (fun H => va_P D.1 j_cl (cW D q u) H)) (jWv (fun u' => ∃ c1 : Int, ∃ a1 : Int, ∃ b1 : Int, u' = (sV (sV (sV u 1 c1) 2 a1) 3 b1) ∧ ((cWh u r ≠ 0 → cLm u r (fun _ _ => True) c1 a1 b1) ∧ (0 ≤ c1 ∧ c1 ≤ 6400000) ∧ (-20000 ≤ a1 ∧ a1 ≤ 20000) ∧ -20000 ≤ b1 ∧ b1 ≤ 20000)) (fun u' H => va_P D.1 j_cl (cW D q u') H) A) 0 0 A := by
  refine Met.ofW (cc := cX4_find) (maxL := 11) (ret := none) (by decide) rfl ?_
  intro pr en st mi args below meth co s₁ B hml hv
  obtain ⟨rfl, hG, hP⟩ := hv
  have hr := B.returns
  have hlk := B.notSynchronized
  have SS : jS pr mi co cX4_find 11 st _ RX4 := ⟨B.exec, B.bytes, hml, findClass_of_methodNamed B.named, fun w hw => atoms_spec (ws := (jw yX4_find cX4_find 11 none)) B.pre w (List.mem_cons_of_mem _ hw)⟩
  have hl := lv_entry ([.ref (q 3), .ref (q (9 + 5 * r))]) (n := 11) (Nat.le_of_ble_eq_true rfl)
  rw [lg_entry_eq]
  generalize (lg_sl ([.ref (q 3), .ref (q (9 + 5 * r))]) ++ List.replicate (11 - (lg_sl ([.ref (q 3), .ref (q (9 + 5 * r))])).length) Slot.unset).toArray = ls at hl ⊢
  have hl : lv_has ls 11 [(0, .ref (q 3)), (1, .ref (q (9 + 5 * r)))] := hl
  have hS : va_S A st.heap st.heap [] := va_S.rf
  have hc := p0.1
  have hrl := rl_b r
  refine lv_aload_n SS.1 SS.2.1 dX4_find_0 rfl (lv_at hl 0 rfl) ?_
  refine j_iconst SS dX4_find_1 ?_
  refine j_put SS hG hP (cW_D hD) hS 3 (v := .int (J 0)) (ty := .int) (C := RX4) (T := TX4) (N := 3) rfl rfl inX4 tyX4 tyX4_ok nmX4 1 (by decide) (ref := "GridPolygons$LeastWidth") kw_196 rfl rfl (by decide +kernel) rfl rfl (Nat.le_of_ble_eq_true rfl) dX4_find_2 (ws' := (cW D q (sV u 2 0))) rfl (fun H locs hP hS => ?_)
  refine lv_aload_n SS.1 SS.2.1 dX4_find_5 rfl (lv_at hl 0 rfl) ?_
  refine j_iconst SS dX4_find_6 ?_
  refine j_put SS hG hP (cW_D hD) hS 3 (v := .int (J 1)) (ty := .int) (C := RX4) (T := TX4) (N := 3) rfl rfl inX4 tyX4 tyX4_ok nmX4 2 (by decide) (ref := "GridPolygons$LeastWidth") kw_198 rfl rfl (by decide +kernel) rfl rfl (Nat.le_of_ble_eq_true rfl) dX4_find_7 (ws' := (cW D q (sV (sV u 2 0) 3 1))) rfl (fun H locs hP hS => ?_)
  refine lv_aload_n SS.1 SS.2.1 dX4_find_10 rfl (lv_at hl 0 rfl) ?_
  refine lv_aload_n SS.1 SS.2.1 dX4_find_11 rfl (lv_at hl 1 rfl) ?_
  refine j_iconst SS dX4_find_12 ?_
  refine j_iconst SS dX4_find_13 ?_
  refine j_vRi SS (As := [.int (J 0), .int (J 1)]) (rest := [.ref (q 3)]) (c_X7_across2 l D q (sV (sV u 2 0) 3 1) r (by omega) (40 : Int) 0 1 (show 0 ≤ (40 : Int) ∧ (40 : Int) ≤ 80 from (by omega)) (show RB (40 : Int) (sV (sV u 2 0) 3 1) r from (p0)) (show -20000 ≤ (0 : Int) ∧ (0 : Int) ≤ 20000 from (by omega)) (show -20000 ≤ (1 : Int) ∧ (1 : Int) ≤ 20000 from (by omega)) (show 1 ≤ (u.1.2.2.1 r) from (by omega))) mf_X7_across kw_643 hG hP hP (ci := 7) (q0 := (9 + 5 * r)) rfl (cw_ring (by omega)) rfl rfl hl.1 ⟨⟨Nat.le_of_ble_eq_true rfl, Nat.le_of_ble_eq_true rfl⟩, Nat.le_of_ble_eq_true rfl, Nat.le_refl _, Nat.le_refl _⟩ rfl dX4_find_14 (fun z_14 h_14 => ?_)
  have h_14 : spR (sV (sV u 2 0) 3 1) r (0 : Int) (1 : Int) z_14 ∧ -6400000 ≤ z_14 ∧ z_14 ≤ 6400000 := h_14
  have h0_14 := spR_0 h_14.1
  have h1_14 := spR_1 (K := 40) (by omega) p0 h_14.1
  refine j_put SS hG hP (cW_D hD) hS 3 (v := .int (J z_14)) (ty := .int) (C := RX4) (T := TX4) (N := 3) rfl rfl inX4 tyX4 tyX4_ok nmX4 0 (by decide) (ref := "GridPolygons$LeastWidth") kw_194 rfl rfl (by decide +kernel) rfl rfl (Nat.le_of_ble_eq_true rfl) dX4_find_17 (ws' := (cW D q (sV (sV (sV u 1 z_14) 2 0) 3 1))) rfl (fun H locs hP hS => ?_)
  refine lv_aload_n SS.1 SS.2.1 dX4_find_20 rfl (lv_at hl 0 rfl) ?_
  refine lv_aload_n SS.1 SS.2.1 dX4_find_21 rfl (lv_at hl 1 rfl) ?_
  refine j_iconst SS dX4_find_22 ?_
  refine j_iconst SS dX4_find_23 ?_
  refine j_vWv SS (As := [.ref (q (9 + 5 * r)), .int (J 1), .int (J 0)]) (rest := []) (c_X4_weigh3 l D q (sV (sV (sV u 1 z_14) 2 0) 3 1) A (cW_D hD) r (by omega) 1 0 (show RB 40 (sV (sV (sV u 1 z_14) 2 0) 3 1) r from (p0)) (show -20000 ≤ (1 : Int) ∧ (1 : Int) ≤ 20000 from (by omega)) (show -20000 ≤ (0 : Int) ∧ (0 : Int) ≤ 20000 from (by omega)) (show (0 ≤ z_14 ∧ z_14 ≤ 6400000) ∧ (-20000 ≤ 0 ∧ 0 ≤ 20000) ∧ -20000 ≤ 1 ∧ 1 ≤ 20000 from (by omega)) (show 1 ≤ (u.1.2.2.1 r) from (by omega))) mf_X4_weigh kw_644 hG hP hP (ci := 4) (q0 := 3) rfl rfl rfl hS (fun _ h => h) rfl hl.1 ⟨⟨Nat.le_of_ble_eq_true rfl, Nat.le_of_ble_eq_true rfl⟩, Nat.le_of_ble_eq_true rfl, Nat.le_refl _, Nat.le_refl _⟩ rfl dX4_find_24 (fun u24 H locs h_24 hP _ hS => ?_)
  obtain ⟨c1_24, a1_24, b1_24, rfl, h_24⟩ := h_24
  have hP : va_P D.1 j_cl (cW D q (sV (sV (sV u 1 c1_24) 2 a1_24) 3 b1_24)) H := hP
  have h_24 : WGH (sV (sV (sV u 1 z_14) 2 0) 3 1) r (1 : Int) (0 : Int) (z_14) (0) (1) c1_24 a1_24 b1_24 ∧ (0 ≤ c1_24 ∧ c1_24 ≤ z_14) ∧ (-20000 ≤ a1_24 ∧ a1_24 ≤ 20000) ∧ -20000 ≤ b1_24 ∧ b1_24 ≤ 20000 := h_24
  refine lv_aload_n SS.1 SS.2.1 dX4_find_27 rfl (lv_at hl 1 rfl) ?_
  refine j_iconst SS dX4_find_28 ?_
  refine j_vRi SS (As := [.int (J 0)]) (rest := []) (c_X7_sideX l D q (sV (sV (sV u 1 c1_24) 2 a1_24) 3 b1_24) r (by omega) (40 : Int) 0 (show 0 ≤ (40 : Int) ∧ (40 : Int) ≤ 80 from (by omega)) (show RB (40 : Int) (sV (sV (sV u 1 c1_24) 2 a1_24) 3 b1_24) r from (p0)) (show -1000 ≤ (0 : Int) ∧ (0 : Int) ≤ 1000 from (by omega))) mf_X7_sideX kw_648 hG hP hP (ci := 7) (q0 := (9 + 5 * r)) rfl (cw_ring (by omega)) rfl rfl hl.1 ⟨⟨Nat.le_of_ble_eq_true rfl, Nat.le_of_ble_eq_true rfl⟩, Nat.le_of_ble_eq_true rfl, Nat.le_refl _, Nat.le_refl _⟩ rfl dX4_find_29 (fun z_29 h_29 => ?_)
  have h_29 : z_29 = dX (sV (sV (sV u 1 c1_24) 2 a1_24) 3 b1_24) r (0 : Int) ∧ -2 * (40 : Int) ≤ z_29 ∧ z_29 ≤ 2 * (40 : Int) := h_29
  obtain ⟨px1, epx1⟩ : ∃ z : Int, z = z_29 := ⟨_, rfl⟩
  rw [← epx1]
  refine lv_istore_n (lv' := [(2, .int (J px1)), (0, .ref (q 3)), (1, .ref (q (9 + 5 * r)))]) SS.1 SS.2.1 dX4_find_32 rfl hl (by decide) rfl (fun ls hl => ?_)
  refine lv_aload_n SS.1 SS.2.1 dX4_find_33 rfl (lv_at hl 2 rfl) ?_
  refine j_iconst SS dX4_find_34 ?_
  refine j_vRi SS (As := [.int (J 0)]) (rest := []) (c_X7_sideY l D q (sV (sV (sV u 1 c1_24) 2 a1_24) 3 b1_24) r (by omega) (40 : Int) 0 (show 0 ≤ (40 : Int) ∧ (40 : Int) ≤ 80 from (by omega)) (show RB (40 : Int) (sV (sV (sV u 1 c1_24) 2 a1_24) 3 b1_24) r from (p0)) (show -1000 ≤ (0 : Int) ∧ (0 : Int) ≤ 1000 from (by omega))) mf_X7_sideY kw_649 hG hP hP (ci := 7) (q0 := (9 + 5 * r)) rfl (cw_ring (by omega)) rfl rfl hl.1 ⟨⟨Nat.le_of_ble_eq_true rfl, Nat.le_of_ble_eq_true rfl⟩, Nat.le_of_ble_eq_true rfl, Nat.le_refl _, Nat.le_refl _⟩ rfl dX4_find_35 (fun z_35 h_35 => ?_)
  have h_35 : z_35 = dY (sV (sV (sV u 1 c1_24) 2 a1_24) 3 b1_24) r (0 : Int) ∧ -2 * (40 : Int) ≤ z_35 ∧ z_35 ≤ 2 * (40 : Int) := h_35
  obtain ⟨py1, epy1⟩ : ∃ z : Int, z = z_35 := ⟨_, rfl⟩
  rw [← epy1]
  refine lv_istore_n (lv' := [(3, .int (J py1)), (2, .int (J px1)), (0, .ref (q 3)), (1, .ref (q (9 + 5 * r)))]) SS.1 SS.2.1 dX4_find_38 rfl hl (by decide) rfl (fun ls hl => ?_)
  refine lv_aload_n SS.1 SS.2.1 dX4_find_39 rfl (lv_at hl 3 rfl) ?_
  refine lv_aload_n SS.1 SS.2.1 dX4_find_40 rfl (lv_at hl 3 rfl) ?_
  refine j_getS SS hG hP (9 + 5 * r) (v := .int (J (u.1.2.2.1 r))) (C := RX7) (T := TX7) (N := 3) (cw_ring (by omega)) rfl inX7 2 (by decide) (ref := "GridPolygons$Ring") kw_137 kw_132 rfl dX4_find_41 ?_
  refine j_iconst SS dX4_find_44 ?_
  refine j_isub SS (x := (u.1.2.2.1 r)) (y := 1) dX4_find_45 ?_
  refine j_uRi SS (As := [.int (J ((u.1.2.2.1 r) - 1))]) (rest := []) (c_X8_x l D q (sV (sV (sV u 1 c1_24) 2 a1_24) 3 b1_24) r (by omega) ((u.1.2.2.1 r) - 1) (show -2147483648 ≤ ((u.1.2.2.1 r) - 1) ∧ ((u.1.2.2.1 r) - 1) ≤ 2147483647 from (by omega))) mu_7_x kw_650 hG hP hP (ci := 7) (q0 := (9 + 5 * r)) rfl (cw_ring (by omega)) rfl rfl hl.1 ⟨⟨Nat.le_of_ble_eq_true rfl, Nat.le_of_ble_eq_true rfl⟩, Nat.le_of_ble_eq_true rfl, Nat.le_refl _, Nat.le_refl _⟩ rfl dX4_find_46 (fun z_46 h_46 => ?_)
  have h_46 : z_46 = rx (sV (sV (sV u 1 c1_24) 2 a1_24) 3 b1_24) r ((u.1.2.2.1 r) - 1) ∧ ∀ K : Int, 0 ≤ K → RB K (sV (sV (sV u 1 c1_24) 2 a1_24) 3 b1_24) r → -K ≤ z_46 ∧ z_46 ≤ K := h_46
  have hb_46 := h_46.2 40 (by omega) (p0)
  refine lv_aload_n SS.1 SS.2.1 dX4_find_49 rfl (lv_at hl 3 rfl) ?_
  refine j_iconst SS dX4_find_50 ?_
  refine j_uRi SS (As := [.int (J 0)]) (rest := [.int (J z_46)]) (c_X8_x l D q (sV (sV (sV u 1 c1_24) 2 a1_24) 3 b1_24) r (by omega) 0 (show -2147483648 ≤ (0 : Int) ∧ (0 : Int) ≤ 2147483647 from (by omega))) mu_7_x kw_650 hG hP hP (ci := 7) (q0 := (9 + 5 * r)) rfl (cw_ring (by omega)) rfl rfl hl.1 ⟨⟨Nat.le_of_ble_eq_true rfl, Nat.le_of_ble_eq_true rfl⟩, Nat.le_of_ble_eq_true rfl, Nat.le_refl _, Nat.le_refl _⟩ rfl dX4_find_51 (fun z_51 h_51 => ?_)
  have h_51 : z_51 = rx (sV (sV (sV u 1 c1_24) 2 a1_24) 3 b1_24) r (0 : Int) ∧ ∀ K : Int, 0 ≤ K → RB K (sV (sV (sV u 1 c1_24) 2 a1_24) 3 b1_24) r → -K ≤ z_51 ∧ z_51 ≤ K := h_51
  have hb_51 := h_51.2 40 (by omega) (p0)
  refine j_isub SS (x := z_46) (y := z_51) dX4_find_54 ?_
  obtain ⟨qx1, eqx1⟩ : ∃ z : Int, z = (z_46 - z_51) := ⟨_, rfl⟩
  rw [← eqx1]
  refine lv_istore (lv' := [(4, .int (J qx1)), (3, .int (J py1)), (2, .int (J px1)), (0, .ref (q 3)), (1, .ref (q (9 + 5 * r)))]) SS.1 SS.2.1 dX4_find_55 hl (by decide) rfl (fun ls hl => ?_)
  refine lv_aload_n SS.1 SS.2.1 dX4_find_57 rfl (lv_at hl 4 rfl) ?_
  refine lv_aload_n SS.1 SS.2.1 dX4_find_58 rfl (lv_at hl 4 rfl) ?_
  refine j_getS SS hG hP (9 + 5 * r) (v := .int (J (u.1.2.2.1 r))) (C := RX7) (T := TX7) (N := 3) (cw_ring (by omega)) rfl inX7 2 (by decide) (ref := "GridPolygons$Ring") kw_137 kw_132 rfl dX4_find_59 ?_
  refine j_iconst SS dX4_find_62 ?_
  refine j_isub SS (x := (u.1.2.2.1 r)) (y := 1) dX4_find_63 ?_
  refine j_uRi SS (As := [.int (J ((u.1.2.2.1 r) - 1))]) (rest := []) (c_X8_y l D q (sV (sV (sV u 1 c1_24) 2 a1_24) 3 b1_24) r (by omega) ((u.1.2.2.1 r) - 1) (show -2147483648 ≤ ((u.1.2.2.1 r) - 1) ∧ ((u.1.2.2.1 r) - 1) ≤ 2147483647 from (by omega))) mu_7_y kw_651 hG hP hP (ci := 7) (q0 := (9 + 5 * r)) rfl (cw_ring (by omega)) rfl rfl hl.1 ⟨⟨Nat.le_of_ble_eq_true rfl, Nat.le_of_ble_eq_true rfl⟩, Nat.le_of_ble_eq_true rfl, Nat.le_refl _, Nat.le_refl _⟩ rfl dX4_find_64 (fun z_64 h_64 => ?_)
  have h_64 : z_64 = ry9 (sV (sV (sV u 1 c1_24) 2 a1_24) 3 b1_24) r ((u.1.2.2.1 r) - 1) ∧ ∀ K : Int, 0 ≤ K → RB K (sV (sV (sV u 1 c1_24) 2 a1_24) 3 b1_24) r → -K ≤ z_64 ∧ z_64 ≤ K := h_64
  have hb_64 := h_64.2 40 (by omega) (p0)
  refine lv_aload_n SS.1 SS.2.1 dX4_find_67 rfl (lv_at hl 4 rfl) ?_
  refine j_iconst SS dX4_find_68 ?_
  refine j_uRi SS (As := [.int (J 0)]) (rest := [.int (J z_64)]) (c_X8_y l D q (sV (sV (sV u 1 c1_24) 2 a1_24) 3 b1_24) r (by omega) 0 (show -2147483648 ≤ (0 : Int) ∧ (0 : Int) ≤ 2147483647 from (by omega))) mu_7_y kw_651 hG hP hP (ci := 7) (q0 := (9 + 5 * r)) rfl (cw_ring (by omega)) rfl rfl hl.1 ⟨⟨Nat.le_of_ble_eq_true rfl, Nat.le_of_ble_eq_true rfl⟩, Nat.le_of_ble_eq_true rfl, Nat.le_refl _, Nat.le_refl _⟩ rfl dX4_find_69 (fun z_69 h_69 => ?_)
  have h_69 : z_69 = ry9 (sV (sV (sV u 1 c1_24) 2 a1_24) 3 b1_24) r (0 : Int) ∧ ∀ K : Int, 0 ≤ K → RB K (sV (sV (sV u 1 c1_24) 2 a1_24) 3 b1_24) r → -K ≤ z_69 ∧ z_69 ≤ K := h_69
  have hb_69 := h_69.2 40 (by omega) (p0)
  refine j_isub SS (x := z_64) (y := z_69) dX4_find_72 ?_
  obtain ⟨qy1, eqy1⟩ : ∃ z : Int, z = (z_64 - z_69) := ⟨_, rfl⟩
  rw [← eqy1]
  refine lv_istore (lv' := [(5, .int (J qy1)), (4, .int (J qx1)), (3, .int (J py1)), (2, .int (J px1)), (0, .ref (q 3)), (1, .ref (q (9 + 5 * r)))]) SS.1 SS.2.1 dX4_find_73 hl (by decide) rfl (fun ls hl => ?_)
  refine lv_iload_n SS.1 SS.2.1 dX4_find_75 rfl (lv_at hl 3 rfl) ?_
  refine lv_iload SS.1 SS.2.1 dX4_find_76 (lv_at hl 0 rfl) ?_
  refine j_imul SS (x := px1) (y := qy1) dX4_find_78 ?_
  refine lv_iload_n SS.1 SS.2.1 dX4_find_79 rfl (lv_at hl 2 rfl) ?_
  refine lv_iload SS.1 SS.2.1 dX4_find_80 (lv_at hl 1 rfl) ?_
  refine j_imul SS (x := py1) (y := qx1) dX4_find_82 ?_
  refine j_isub SS (x := (px1 * qy1)) (y := (py1 * qx1)) dX4_find_83 ?_
  obtain ⟨wh, ewh⟩ : ∃ z : Int, z = ((px1 * qy1) - (py1 * qx1)) := ⟨_, rfl⟩
  rw [← ewh]
  refine lv_istore (lv' := [(6, .int (J wh)), (5, .int (J qy1)), (4, .int (J qx1)), (3, .int (J py1)), (2, .int (J px1)), (0, .ref (q 3)), (1, .ref (q (9 + 5 * r)))]) SS.1 SS.2.1 dX4_find_84 hl (by decide) rfl (fun ls hl => ?_)
  have w1 := mulb (A := 80) (B := 80) (a := px1) (b := qy1) (by omega) (by omega)
  have w2 := mulb (A := 80) (B := 80) (a := py1) (b := qx1) (by omega) (by omega)
  have ar0 : ar u r 0 1 = 1 := by unfold ar; rw [if_neg (by omega), if_neg (by omega)]; rfl
  have k29 : z_29 = dX u r 0 := h_29.1
  have k35 : z_35 = dY u r 0 := h_35.1
  have k46 : z_46 = rx u r (u.1.2.2.1 r - 1) := h_46.1
  have k51 : z_51 = rx u r 0 := h_51.1
  have k64 : z_64 = ry9 u r (u.1.2.2.1 r - 1) := h_64.1
  have k69 : z_69 = ry9 u r 0 := h_69.1
  have kpx : px1 = rx u r 1 - rx u r 0 := by rw [epx1, k29]; unfold dX; rw [ar0]
  have kpy : py1 = ry9 u r 1 - ry9 u r 0 := by rw [epy1, k35]; unfold dY; rw [ar0]
  have kqx : qx1 = rx u r (u.1.2.2.1 r - 1) - rx u r 0 := by rw [eqx1, k46, k51]
  have kqy : qy1 = ry9 u r (u.1.2.2.1 r - 1) - ry9 u r 0 := by rw [eqy1, k64, k69]
  have hWH : wh = cWh u r := by rw [ewh, kpx, kpy, kqx, kqy]; rfl
  have hB : ∀ p q w : Int, spR u r p q w → (-w ≤ p * px1 + q * py1 ∧ p * px1 + q * py1 ≤ w) ∧ -w ≤ p * qx1 + q * qy1 ∧ p * qx1 + q * qy1 ≤ w := fun p q w h => by rw [kpx, kpy, kqx, kqy]; exact ⟨spR_p h (by omega) (by omega), spR_p h (by omega) (by omega)⟩
  refine lv_iload SS.1 SS.2.1 dX4_find_86 (lv_at hl 0 rfl) ?_
  refine j_if_ne SS (tgt := 92) (x := wh) dX4_find_88 (by decide) (by omega) (fun c_88 => ?_) (fun c_88 => ?_)
  · skip
    refine j_iconst SS dX4_find_92 ?_
    refine lv_istore (lv' := [(7, .int (J 0)), (6, .int (J wh)), (5, .int (J qy1)), (4, .int (J qx1)), (3, .int (J py1)), (2, .int (J px1)), (0, .ref (q 3)), (1, .ref (q (9 + 5 * r)))]) SS.1 SS.2.1 dX4_find_93 hl (by decide) rfl (fun ls hl => ?_)
    have L_95 : ∀ (nn : Nat) (m : Int) (c2 : Int) (a2 : Int) (b2 : Int) (H : Heap) (locs : List Loc) (hP : va_P D.1 j_cl (cW D q (sV (sV (sV u 1 c2) 2 a2) 3 b2)) H) (hS : va_S A st.heap H locs) (ls : Array Slot) (hl : lv_has ls 11 [(0, .ref (q 3)), (1, .ref (q (9 + 5 * r))), (2, .int (J px1)), (3, .int (J py1)), (4, .int (J qx1)), (5, .int (J qy1)), (6, .int (J wh)), (7, .int (J m))]) (i95_0 : 0 ≤ m ∧ m ≤ 81) (i95_1 : 0 ≤ c2 ∧ c2 ≤ 80) (i95_2 : -20000 ≤ a2 ∧ a2 ≤ 20000) (i95_3 : -20000 ≤ b2 ∧ b2 ≤ 20000) (i95_4 : cLm u r (fun p q => ∃ M N : Int, ((M = p * px1 + q * py1 ∧ N = p * qx1 + q * qy1) ∨ (M = -(p * px1 + q * py1) ∧ N = -(p * qx1 + q * qy1))) ∧ 0 ≤ M ∧ M < m) c2 a2 b2), ((81 : Int) - m).toNat < nn → W pr l en (headSpec (jw yX4_find cX4_find 11 none) (jr 3 74)).room st mi (([.ref (q 3), .ref (q (9 + 5 * r))] : List Value).toArray) below meth co H locs 0 0 (MQ below (jWv (fun u' => ∃ c1 : Int, ∃ a1 : Int, ∃ b1 : Int, u' = (sV (sV (sV u 1 c1) 2 a1) 3 b1) ∧ ((cWh u r ≠ 0 → cLm u r (fun _ _ => True) c1 a1 b1) ∧ (0 ≤ c1 ∧ c1 ≤ 6400000) ∧ (-20000 ≤ a1 ∧ a1 ≤ 20000) ∧ -20000 ≤ b1 ∧ b1 ≤ 20000)) (fun u' H => va_P D.1 j_cl (cW D q u') H) A) (([.ref (q 3), .ref (q (9 + 5 * r))] : List Value).toArray) st 0 0 A) (F0 mi 95 ls []) := by
      intro nn
      induction nn with
      | zero => intros; omega
      | succ nn ih_95 =>
        intro m c2 a2 b2 H locs hP hS ls hl i95_0 i95_1 i95_2 i95_3 i95_4 hm
        refine lv_iload SS.1 SS.2.1 dX4_find_95 (lv_at hl 7 rfl) ?_
        refine lv_aload_n SS.1 SS.2.1 dX4_find_97 rfl (lv_at hl 0 rfl) ?_
        refine j_get SS hG hP 3 (v := .int (J c2)) (C := RX4) (T := TX4) (N := 3) rfl rfl inX4 0 (by decide) (ref := "GridPolygons$LeastWidth") kw_194 rfl rfl dX4_find_98 ?_
        refine j_icmp_gt SS (tgt := 187) (x := m) (y := c2) dX4_find_101 (by decide) (by omega) (by omega) (fun c_101 => ?_) (fun c_101 => ?_)
        · skip
          exact W.vret SS.1 SS.2.1 hr (fun t0 ht hW => ⟨⟨(sV (sV (sV u 1 c2) 2 a2) 3 b2), rfl, (⟨c2, a2, b2, rfl, ⟨fun _ => cLm_s i95_4 (fun p q w k1 _ k5 => by have k6 := hB p q w k5; by_cases e : 0 ≤ p * px1 + q * py1; (by_cases e2 : p * px1 + q * py1 < m; exact Or.inl ⟨_, _, Or.inl ⟨rfl, rfl⟩, e, e2⟩; exact Or.inr (by omega)); by_cases e2 : -(p * px1 + q * py1) < m; exact Or.inl ⟨_, _, Or.inr ⟨rfl, rfl⟩, by omega, e2⟩; exact Or.inr (by omega)), by omega⟩⟩), by show va_P D.1 j_cl (cW D q (sV (sV (sV u 1 c2) 2 a2) 3 b2)) t0.heap; rw [ht]; first | exact hP | (simp only [sC_id, sX_id, sY_id, sH_id, sT_id, sV_id]; exact hP)⟩, hS.F ht⟩) hS.2.2 dX4_find_187 hlk
        · skip
          refine lv_aload_n SS.1 SS.2.1 dX4_find_104 rfl (lv_at hl 0 rfl) ?_
          refine j_get SS hG hP 3 (v := .int (J c2)) (C := RX4) (T := TX4) (N := 3) rfl rfl inX4 0 (by decide) (ref := "GridPolygons$LeastWidth") kw_194 rfl rfl dX4_find_105 ?_
          refine j_ineg SS dX4_find_108 ?_
          refine lv_istore (lv' := [(8, .int (J (-c2))), (0, .ref (q 3)), (1, .ref (q (9 + 5 * r))), (2, .int (J px1)), (3, .int (J py1)), (4, .int (J qx1)), (5, .int (J qy1)), (6, .int (J wh)), (7, .int (J m))]) SS.1 SS.2.1 dX4_find_109 hl (by decide) rfl (fun ls hl => ?_)
          have L_111 : ∀ (nn : Nat) (n : Int) (c3 : Int) (a3 : Int) (b3 : Int) (H : Heap) (locs : List Loc) (hP : va_P D.1 j_cl (cW D q (sV (sV (sV u 1 c3) 2 a3) 3 b3)) H) (hS : va_S A st.heap H locs) (ls : Array Slot) (hl : lv_has ls 11 [(0, .ref (q 3)), (1, .ref (q (9 + 5 * r))), (2, .int (J px1)), (3, .int (J py1)), (4, .int (J qx1)), (5, .int (J qy1)), (6, .int (J wh)), (7, .int (J m)), (8, .int (J n))]) (i111_0 : -80 ≤ n ∧ n ≤ 81) (i111_1 : 0 ≤ c3 ∧ c3 ≤ 80) (i111_2 : -20000 ≤ a3 ∧ a3 ≤ 20000) (i111_3 : -20000 ≤ b3 ∧ b3 ≤ 20000) (i111_4 : cLm u r (PC px1 py1 qx1 qy1 (m) (n)) c3 a3 b3), ((81 : Int) - n).toNat < nn → W pr l en (headSpec (jw yX4_find cX4_find 11 none) (jr 3 74)).room st mi (([.ref (q 3), .ref (q (9 + 5 * r))] : List Value).toArray) below meth co H locs 0 0 (MQ below (jWv (fun u' => ∃ c1 : Int, ∃ a1 : Int, ∃ b1 : Int, u' = (sV (sV (sV u 1 c1) 2 a1) 3 b1) ∧ ((cWh u r ≠ 0 → cLm u r (fun _ _ => True) c1 a1 b1) ∧ (0 ≤ c1 ∧ c1 ≤ 6400000) ∧ (-20000 ≤ a1 ∧ a1 ≤ 20000) ∧ -20000 ≤ b1 ∧ b1 ≤ 20000)) (fun u' H => va_P D.1 j_cl (cW D q u') H) A) (([.ref (q 3), .ref (q (9 + 5 * r))] : List Value).toArray) st 0 0 A) (F0 mi 111 ls []) := by
            intro nn
            induction nn with
            | zero => intros; omega
            | succ nn ih_111 =>
              intro n c3 a3 b3 H locs hP hS ls hl i111_0 i111_1 i111_2 i111_3 i111_4 hm
              refine lv_iload SS.1 SS.2.1 dX4_find_111 (lv_at hl 8 rfl) ?_
              refine lv_aload_n SS.1 SS.2.1 dX4_find_113 rfl (lv_at hl 0 rfl) ?_
              refine j_get SS hG hP 3 (v := .int (J c3)) (C := RX4) (T := TX4) (N := 3) rfl rfl inX4 0 (by decide) (ref := "GridPolygons$LeastWidth") kw_194 rfl rfl dX4_find_114 ?_
              refine j_icmp_gt SS (tgt := 181) (x := n) (y := c3) dX4_find_117 (by decide) (by omega) (by omega) (fun c_117 => ?_) (fun c_117 => ?_)
              · skip
                refine lv_iinc (v := J (m + 1)) (lv' := [(7, .int (J (m + 1))), (0, .ref (q 3)), (1, .ref (q (9 + 5 * r))), (2, .int (J px1)), (3, .int (J py1)), (4, .int (J qx1)), (5, .int (J qy1)), (6, .int (J wh)), (8, .int (J n))]) SS.1 SS.2.1 dX4_find_181 hl (k := 7) rfl (J_add _ _) (by decide) rfl (fun ls hl => ?_)
                refine lv_goto (tgt := 95) SS.1 SS.2.1 dX4_find_184 (by decide) ?_
                exact ih_95 (m + 1) c3 a3 b3 _ _ hP hS ls (lv_sub hl [1, 2, 3, 4, 5, 6, 7, 0] rfl) (by omega) (by omega) (by omega) (by omega) (cLm_s i111_4 (fun p q w k1 ⟨M, N, k2, k3, k4⟩ k5 => by have k6 := hB p q w k5; by_cases e : M < m ∨ N < n; exact Or.inl ⟨M, N, k2, k3, by omega⟩; exact Or.inr (by omega))) (by omega)
              · skip
                refine lv_iload SS.1 SS.2.1 dX4_find_120 (lv_at hl 7 rfl) ?_
                refine lv_iload SS.1 SS.2.1 dX4_find_122 (lv_at hl 5 rfl) ?_
                refine j_imul SS (x := m) (y := qy1) dX4_find_124 ?_
                refine lv_iload SS.1 SS.2.1 dX4_find_125 (lv_at hl 8 rfl) ?_
                refine lv_iload_n SS.1 SS.2.1 dX4_find_127 rfl (lv_at hl 3 rfl) ?_
                refine j_imul SS (x := n) (y := py1) dX4_find_128 ?_
                refine j_isub SS (x := (m * qy1)) (y := (n * py1)) dX4_find_129 ?_
                obtain ⟨uu1, euu1⟩ : ∃ z : Int, z = ((m * qy1) - (n * py1)) := ⟨_, rfl⟩
                rw [← euu1]
                refine lv_istore (lv' := [(9, .int (J uu1)), (0, .ref (q 3)), (1, .ref (q (9 + 5 * r))), (2, .int (J px1)), (3, .int (J py1)), (4, .int (J qx1)), (5, .int (J qy1)), (6, .int (J wh)), (7, .int (J m)), (8, .int (J n))]) SS.1 SS.2.1 dX4_find_130 hl (by decide) rfl (fun ls hl => ?_)
                refine lv_iload SS.1 SS.2.1 dX4_find_132 (lv_at hl 9 rfl) ?_
                refine lv_iload_n SS.1 SS.2.1 dX4_find_134 rfl (lv_at hl 3 rfl) ?_
                refine j_imul SS (x := n) (y := px1) dX4_find_135 ?_
                refine lv_iload SS.1 SS.2.1 dX4_find_136 (lv_at hl 8 rfl) ?_
                refine lv_iload SS.1 SS.2.1 dX4_find_138 (lv_at hl 5 rfl) ?_
                refine j_imul SS (x := m) (y := qx1) dX4_find_140 ?_
                refine j_isub SS (x := (n * px1)) (y := (m * qx1)) dX4_find_141 ?_
                obtain ⟨vv1, evv1⟩ : ∃ z : Int, z = ((n * px1) - (m * qx1)) := ⟨_, rfl⟩
                rw [← evv1]
                refine lv_istore (lv' := [(10, .int (J vv1)), (9, .int (J uu1)), (0, .ref (q 3)), (1, .ref (q (9 + 5 * r))), (2, .int (J px1)), (3, .int (J py1)), (4, .int (J qx1)), (5, .int (J qy1)), (6, .int (J wh)), (7, .int (J m)), (8, .int (J n))]) SS.1 SS.2.1 dX4_find_142 hl (by decide) rfl (fun ls hl => ?_)
                have v1 := mulb (A := 80) (B := 80) (a := m) (b := qy1) (by omega) (by omega)
                have v2 := mulb (A := 80) (B := 80) (a := n) (b := py1) (by omega) (by omega)
                have v3 := mulb (A := 80) (B := 80) (a := n) (b := px1) (by omega) (by omega)
                have v4 := mulb (A := 80) (B := 80) (a := m) (b := qx1) (by omega) (by omega)
                refine lv_iload SS.1 SS.2.1 dX4_find_144 (lv_at hl 1 rfl) ?_
                refine lv_iload SS.1 SS.2.1 dX4_find_146 (lv_at hl 8 rfl) ?_
                refine j_irem SS (x := uu1) (y := wh) dX4_find_148 (by omega) (by omega) (by omega) ?_
                have tm0 := tm_a (a := uu1) (b := wh) (K := 20000) (by omega)
                refine j_if_ne SS (tgt := 175) (x := (Int.tmod uu1 wh)) dX4_find_149 (by decide) (by omega) (fun c_149 => ?_) (fun c_149 => ?_)
                · skip
                  refine lv_iinc (v := J (n + 1)) (lv' := [(8, .int (J (n + 1))), (10, .int (J vv1)), (9, .int (J uu1)), (0, .ref (q 3)), (1, .ref (q (9 + 5 * r))), (2, .int (J px1)), (3, .int (J py1)), (4, .int (J qx1)), (5, .int (J qy1)), (6, .int (J wh)), (7, .int (J m))]) SS.1 SS.2.1 dX4_find_175 hl (k := 10) rfl (J_add _ _) (by decide) rfl (fun ls hl => ?_)
                  refine lv_goto (tgt := 111) SS.1 SS.2.1 dX4_find_178 (by decide) ?_
                  exact ih_111 (n + 1) c3 a3 b3 _ _ hP hS ls (lv_sub hl [3, 4, 5, 6, 7, 8, 9, 10, 0] rfl) (by omega) (by omega) (by omega) (by omega) (by first | exact cLm_w i111_4 h_172.1 (fun p q k1 k2 => by rcases PC_at ewh (by omega) k2 with k | ⟨_, _, k⟩; exact Or.inl k; exact Or.inr (by rw [euu1, evv1]; exact k)) | exact cLm_s i111_4 (fun p q w k1 k2 k5 => by rcases PC_at ewh (by omega) k2 with k | ⟨k3, k4, _⟩; exact Or.inl k; rw [← euu1] at k3; rw [← evv1] at k4; omega)) (by omega)
                · skip
                  refine lv_iload SS.1 SS.2.1 dX4_find_152 (lv_at hl 0 rfl) ?_
                  refine lv_iload SS.1 SS.2.1 dX4_find_154 (lv_at hl 8 rfl) ?_
                  refine j_irem SS (x := vv1) (y := wh) dX4_find_156 (by omega) (by omega) (by omega) ?_
                  have tm1 := tm_a (a := vv1) (b := wh) (K := 20000) (by omega)
                  refine j_if_ne SS (tgt := 175) (x := (Int.tmod vv1 wh)) dX4_find_157 (by decide) (by omega) (fun c_157 => ?_) (fun c_157 => ?_)
                  · skip
                    refine lv_iinc (v := J (n + 1)) (lv' := [(8, .int (J (n + 1))), (10, .int (J vv1)), (9, .int (J uu1)), (0, .ref (q 3)), (1, .ref (q (9 + 5 * r))), (2, .int (J px1)), (3, .int (J py1)), (4, .int (J qx1)), (5, .int (J qy1)), (6, .int (J wh)), (7, .int (J m))]) SS.1 SS.2.1 dX4_find_175 hl (k := 10) rfl (J_add _ _) (by decide) rfl (fun ls hl => ?_)
                    refine lv_goto (tgt := 111) SS.1 SS.2.1 dX4_find_178 (by decide) ?_
                    exact ih_111 (n + 1) c3 a3 b3 _ _ hP hS ls (lv_sub hl [3, 4, 5, 6, 7, 8, 9, 10, 0] rfl) (by omega) (by omega) (by omega) (by omega) (by first | exact cLm_w i111_4 h_172.1 (fun p q k1 k2 => by rcases PC_at ewh (by omega) k2 with k | ⟨_, _, k⟩; exact Or.inl k; exact Or.inr (by rw [euu1, evv1]; exact k)) | exact cLm_s i111_4 (fun p q w k1 k2 k5 => by rcases PC_at ewh (by omega) k2 with k | ⟨k3, k4, _⟩; exact Or.inl k; rw [← euu1] at k3; rw [← evv1] at k4; omega)) (by omega)
                  · skip
                    refine lv_aload_n SS.1 SS.2.1 dX4_find_160 rfl (lv_at hl 2 rfl) ?_
                    refine lv_aload_n SS.1 SS.2.1 dX4_find_161 rfl (lv_at hl 3 rfl) ?_
                    refine lv_iload SS.1 SS.2.1 dX4_find_162 (lv_at hl 1 rfl) ?_
                    refine lv_iload SS.1 SS.2.1 dX4_find_164 (lv_at hl 8 rfl) ?_
                    refine j_idiv SS (x := uu1) (y := wh) dX4_find_166 (by omega) (by omega) (by omega) ?_
                    refine lv_iload SS.1 SS.2.1 dX4_find_167 (lv_at hl 0 rfl) ?_
                    refine lv_iload SS.1 SS.2.1 dX4_find_169 (lv_at hl 8 rfl) ?_
                    refine j_idiv SS (x := vv1) (y := wh) dX4_find_171 (by omega) (by omega) (by omega) ?_
                    have t1 := td_b (a := uu1) (b := wh) (K := 12800) (by omega)
                    have t2 := td_b (a := vv1) (b := wh) (K := 12800) (by omega)
                    refine j_vWv SS (As := [.ref (q (9 + 5 * r)), .int (J (Int.tdiv uu1 wh)), .int (J (Int.tdiv vv1 wh))]) (rest := []) (c_X4_weigh3 l D q (sV (sV (sV u 1 c3) 2 a3) 3 b3) A (cW_D hD) r (by omega) (Int.tdiv uu1 wh) (Int.tdiv vv1 wh) (show RB 40 (sV (sV (sV u 1 c3) 2 a3) 3 b3) r from (p0)) (show -20000 ≤ (Int.tdiv uu1 wh) ∧ (Int.tdiv uu1 wh) ≤ 20000 from (by omega)) (show -20000 ≤ (Int.tdiv vv1 wh) ∧ (Int.tdiv vv1 wh) ≤ 20000 from (by omega)) (show (0 ≤ c3 ∧ c3 ≤ 6400000) ∧ (-20000 ≤ a3 ∧ a3 ≤ 20000) ∧ -20000 ≤ b3 ∧ b3 ≤ 20000 from (by omega)) (show 1 ≤ (u.1.2.2.1 r) from (by omega))) mf_X4_weigh kw_644 hG hP hP (ci := 4) (q0 := 3) rfl rfl rfl hS (fun _ h => h) rfl hl.1 ⟨⟨Nat.le_of_ble_eq_true rfl, Nat.le_of_ble_eq_true rfl⟩, Nat.le_of_ble_eq_true rfl, Nat.le_refl _, Nat.le_refl _⟩ rfl dX4_find_172 (fun u172 H locs h_172 hP _ hS => ?_)
                    obtain ⟨c1_172, a1_172, b1_172, rfl, h_172⟩ := h_172
                    have hP : va_P D.1 j_cl (cW D q (sV (sV (sV u 1 c1_172) 2 a1_172) 3 b1_172)) H := hP
                    have h_172 : WGH (sV (sV (sV u 1 c3) 2 a3) 3 b3) r (Int.tdiv uu1 wh) (Int.tdiv vv1 wh) (c3) (a3) (b3) c1_172 a1_172 b1_172 ∧ (0 ≤ c1_172 ∧ c1_172 ≤ c3) ∧ (-20000 ≤ a1_172 ∧ a1_172 ≤ 20000) ∧ -20000 ≤ b1_172 ∧ b1_172 ≤ 20000 := h_172
                    refine lv_iinc (v := J (n + 1)) (lv' := [(8, .int (J (n + 1))), (10, .int (J vv1)), (9, .int (J uu1)), (0, .ref (q 3)), (1, .ref (q (9 + 5 * r))), (2, .int (J px1)), (3, .int (J py1)), (4, .int (J qx1)), (5, .int (J qy1)), (6, .int (J wh)), (7, .int (J m))]) SS.1 SS.2.1 dX4_find_175 hl (k := 10) rfl (J_add _ _) (by decide) rfl (fun ls hl => ?_)
                    refine lv_goto (tgt := 111) SS.1 SS.2.1 dX4_find_178 (by decide) ?_
                    exact ih_111 (n + 1) c1_172 a1_172 b1_172 _ _ hP hS ls (lv_sub hl [3, 4, 5, 6, 7, 8, 9, 10, 0] rfl) (by omega) (by omega) (by omega) (by omega) (by first | exact cLm_w i111_4 h_172.1 (fun p q k1 k2 => by rcases PC_at ewh (by omega) k2 with k | ⟨_, _, k⟩; exact Or.inl k; exact Or.inr (by rw [euu1, evv1]; exact k)) | exact cLm_s i111_4 (fun p q w k1 k2 k5 => by rcases PC_at ewh (by omega) k2 with k | ⟨k3, k4, _⟩; exact Or.inl k; rw [← euu1] at k3; rw [← evv1] at k4; omega)) (by omega)
          exact L_111 (((81 : Int) - (-c2)).toNat + 1) (-c2) c2 a2 b2 _ _ hP hS ls (lv_sub hl [1, 2, 3, 4, 5, 6, 7, 8, 0] rfl) (by omega) (by omega) (by omega) (by omega) (cLm_s i95_4 (fun p q w k1 ⟨M, N, k2, k3, k4⟩ k5 => by have k6 := hB p q w k5; by_cases e : M < m; exact Or.inl ⟨M, N, k2, k3, e⟩; exact Or.inr (by omega))) (Nat.lt_succ_self _)
    exact L_95 (((81 : Int) - (0 : Int)).toNat + 1) 0 c1_24 a1_24 b1_24 _ _ hP hS ls (lv_sub hl [6, 7, 5, 4, 3, 2, 1, 0] rfl) (by omega) (by omega) (by omega) (by omega) (cL_0 h_24.1 ⟨Or.inr ⟨rfl, by omega⟩, h_14.1⟩) (Nat.lt_succ_self _)
  · skip
    exact W.vret SS.1 SS.2.1 hr (fun t0 ht hW => ⟨⟨(sV (sV (sV u 1 c1_24) 2 a1_24) 3 b1_24), rfl, (⟨c1_24, a1_24, b1_24, rfl, ⟨fun q => absurd (hWH.symm.trans (by omega)) q, by omega⟩⟩), by show va_P D.1 j_cl (cW D q (sV (sV (sV u 1 c1_24) 2 a1_24) 3 b1_24)) t0.heap; rw [ht]; first | exact hP | (simp only [sC_id, sX_id, sY_id, sH_id, sT_id, sV_id]; exact hP)⟩, hS.F ht⟩) hS.2.2 dX4_find_91 hlk

