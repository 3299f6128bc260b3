
set_option maxHeartbeats 4000000 in
set_option maxRecDepth 100000 in
theorem c_X0_spread3 (l : Launch) (D : JD) (q : Nat → Nat) (u : CS) (A : Nat → Prop) (hD : va_D A (cW D q u)) (p0 : (-40 ≤ u.2.2.2 13 ∧ u.2.2.2 13 ≤ 40) ∧ (-40 ≤ u.2.2.2 14 ∧ u.2.2.2 14 ≤ 40) ∧ (-79 ≤ u.2.2.2 15 ∧ u.2.2.2 15 ≤ 81) ∧ (-79 ≤ u.2.2.2 16 ∧ u.2.2.2 16 ≤ 81)) (p1 : (0 ≤ u.2.2.2 17 ∧ u.2.2.2 17 ≤ 80) ∧ (-80 ≤ u.2.2.2 18 ∧ u.2.2.2 18 ≤ 80) ∧ (-80 ≤ u.2.2.2 19 ∧ u.2.2.2 19 ≤ 80)) : Met l yX0_spread (jw yX0_spread cX0_spread 7 none) (jr 2 49) (jP [.ref (q 5)] D (fun H => va_P D.1 j_cl (cW D q u) H)) (jWv (fun u' => ∃ n1 : Nat → Int64, u' = (sL u 1 n1) ∧ ((u.2.2.2 18 ≠ 0 ∨ u.2.2.2 19 ≠ 0) → SP9 (u.2.2.1 0) n1 (u.2.2.2 13) (u.2.2.2 14) (u.2.2.2 15) (u.2.2.2 16) (u.2.2.2 18) (u.2.2.2 19) (u.2.2.2 17).toNat (fun _ _ => True))) (fun u' H => va_P D.1 j_cl (cW D q u') H) A) 0 0 A := by
  refine Met.ofW (cc := cX0_spread) (maxL := 7) (ret := none) (by decide) rfl ?_
  intro pr en st mi args below meth co s₁ B hml hv
  obtain ⟨rfl, hG, hP⟩ := hv
  have hr := B.returns
  have hlk := B.notSynchronized
  have SS : jS pr mi co cX0_spread 7 st _ RX0 := ⟨B.exec, B.bytes, hml, findClass_of_methodNamed B.named, fun w hw => atoms_spec (ws := (jw yX0_spread cX0_spread 7 none)) B.pre w (List.mem_cons_of_mem _ hw)⟩
  have hl := lv_entry ([.ref (q 5)]) (n := 7) (Nat.le_of_ble_eq_true rfl)
  rw [lg_entry_eq]
  generalize (lg_sl ([.ref (q 5)]) ++ List.replicate (7 - (lg_sl ([.ref (q 5)])).length) Slot.unset).toArray = ls at hl ⊢
  have hl : lv_has ls 7 [(0, .ref (q 5))] := hl
  have hS : va_S A st.heap st.heap [] := va_S.rf
  have L_27 : ∀ (rs : Int) (H : Heap) (locs : List Loc) (hP : va_P D.1 j_cl (cW D q u) H) (hS : va_S A st.heap H locs) (ls : Array Slot) (hl : lv_has ls 7 [(0, .ref (q 5)), (1, .int (J rs))]) (i27_0 : (rs = 1 ∧ (0 < u.2.2.2 18 ∨ (u.2.2.2 18 = 0 ∧ 0 < u.2.2.2 19))) ∨ (rs = 0 ∧ ¬ (0 < u.2.2.2 18 ∨ (u.2.2.2 18 = 0 ∧ 0 < u.2.2.2 19)))), W pr l en (headSpec (jw yX0_spread cX0_spread 7 none) (jr 2 49)).room st mi (([.ref (q 5)] : List Value).toArray) below meth co H locs 0 0 (MQ below (jWv (fun u' => ∃ n1 : Nat → Int64, u' = (sL u 1 n1) ∧ ((u.2.2.2 18 ≠ 0 ∨ u.2.2.2 19 ≠ 0) → SP9 (u.2.2.1 0) n1 (u.2.2.2 13) (u.2.2.2 14) (u.2.2.2 15) (u.2.2.2 16) (u.2.2.2 18) (u.2.2.2 19) (u.2.2.2 17).toNat (fun _ _ => True))) (fun u' H => va_P D.1 j_cl (cW D q u') H) A) (([.ref (q 5)] : List Value).toArray) st 0 0 A) (F0 mi 27 ls []) := by
    intro rs  H locs hP hS ls hl i27_0
    refine j_iconst SS dX0_spread_27 ?_
    refine lv_istore_n (lv' := [(2, .int (J 0)), (0, .ref (q 5)), (1, .int (J rs))]) SS.1 SS.2.1 dX0_spread_28 rfl hl (by decide) rfl (fun ls hl => ?_)
    have L_29 : ∀ (nn : Nat) (i : Int) (n2 : Nat → Int64) (H : Heap) (locs : List Loc) (hP : va_P D.1 j_cl (cW D q (sL u 1 n2)) H) (hS : va_S A st.heap H locs) (ls : Array Slot) (hl : lv_has ls 7 [(0, .ref (q 5)), (1, .int (J rs)), (2, .int (J i))]) (i29_0 : 0 ≤ i ∧ i ≤ 81) (i29_1 : (u.2.2.2 18 ≠ 0 ∨ u.2.2.2 19 ≠ 0) → SP9 (u.2.2.1 0) n2 (u.2.2.2 13) (u.2.2.2 14) (u.2.2.2 15) (u.2.2.2 16) (u.2.2.2 18) (u.2.2.2 19) (u.2.2.2 17).toNat (fun x y => (rs = 1 ∧ x < u.2.2.2 13 + i) ∨ (rs = 0 ∧ u.2.2.2 13 + (u.2.2.2 15 - 1 - i) < x))), ((81 : Int) - i).toNat < nn → W pr l en (headSpec (jw yX0_spread cX0_spread 7 none) (jr 2 49)).room st mi (([.ref (q 5)] : List Value).toArray) below meth co H locs 0 0 (MQ below (jWv (fun u' => ∃ n1 : Nat → Int64, u' = (sL u 1 n1) ∧ ((u.2.2.2 18 ≠ 0 ∨ u.2.2.2 19 ≠ 0) → SP9 (u.2.2.1 0) n1 (u.2.2.2 13) (u.2.2.2 14) (u.2.2.2 15) (u.2.2.2 16) (u.2.2.2 18) (u.2.2.2 19) (u.2.2.2 17).toNat (fun _ _ => True))) (fun u' H => va_P D.1 j_cl (cW D q u') H) A) (([.ref (q 5)] : List Value).toArray) st 0 0 A) (F0 mi 29 ls []) := by
      intro nn
      induction nn with
      | zero => intros; omega
      | succ nn ih_29 =>
        intro i n2 H locs hP hS ls hl i29_0 i29_1 hm
        refine lv_iload_n SS.1 SS.2.1 dX0_spread_29 rfl (lv_at hl 2 rfl) ?_
        refine lv_aload_n SS.1 SS.2.1 dX0_spread_30 rfl (lv_at hl 0 rfl) ?_
        refine j_get SS hG hP 5 (v := .int (J (u.2.2.2 15))) (C := RX0) (T := TX0) (N := 14) rfl rfl inX0 9 (by decide) (ref := "GridPolygons$Choices") kw_253 rfl rfl dX0_spread_31 ?_
        refine j_icmp_ge SS (tgt := 194) (x := i) (y := (u.2.2.2 15)) dX0_spread_34 (by decide) (by omega) (by omega) (fun c_34 => ?_) (fun c_34 => ?_)
        · skip
          exact W.vret SS.1 SS.2.1 hr (fun t0 ht hW => ⟨⟨(sL u 1 n2), rfl, (⟨n2, rfl, fun nd => SP9_c (i29_1 nd) (fun x y q _ => by unfold inF9 at q; omega)⟩), by show va_P D.1 j_cl (cW D q (sL u 1 n2)) t0.heap; rw [ht]; first | exact hP | (simp only [sC_id, sX_id, sY_id, sH_id, sT_id, sV_id]; exact hP)⟩, hS.F ht⟩) hS.2.2 dX0_spread_194 hlk
        · skip
          have L_62 : ∀ (nn : Nat) (x : Int) (j : Int) (n3 : Nat → Int64) (H : Heap) (locs : List Loc) (hP : va_P D.1 j_cl (cW D q (sL u 1 n3)) H) (hS : va_S A st.heap H locs) (ls : Array Slot) (hl : lv_has ls 7 [(0, .ref (q 5)), (1, .int (J rs)), (2, .int (J i)), (3, .int (J x)), (4, .int (J j))]) (i62_0 : -400 ≤ x ∧ x ≤ 400 ∧ ((rs = 1 ∧ x = u.2.2.2 13 + i) ∨ (rs = 0 ∧ x = u.2.2.2 13 + (u.2.2.2 15 - 1 - i)))) (i62_1 : 0 ≤ j ∧ j ≤ 81) (i62_2 : (u.2.2.2 18 ≠ 0 ∨ u.2.2.2 19 ≠ 0) → SP9 (u.2.2.1 0) n3 (u.2.2.2 13) (u.2.2.2 14) (u.2.2.2 15) (u.2.2.2 16) (u.2.2.2 18) (u.2.2.2 19) (u.2.2.2 17).toNat (fun x2 y2 => (rs = 1 ∧ pr9 rs x (u.2.2.2 14 + j) x2 y2) ∨ (rs = 0 ∧ pr9 rs x (u.2.2.2 14 + (u.2.2.2 16 - 1 - j)) x2 y2))), ((81 : Int) - j).toNat < nn → W pr l en (headSpec (jw yX0_spread cX0_spread 7 none) (jr 2 49)).room st mi (([.ref (q 5)] : List Value).toArray) below meth co H locs 0 0 (MQ below (jWv (fun u' => ∃ n1 : Nat → Int64, u' = (sL u 1 n1) ∧ ((u.2.2.2 18 ≠ 0 ∨ u.2.2.2 19 ≠ 0) → SP9 (u.2.2.1 0) n1 (u.2.2.2 13) (u.2.2.2 14) (u.2.2.2 15) (u.2.2.2 16) (u.2.2.2 18) (u.2.2.2 19) (u.2.2.2 17).toNat (fun _ _ => True))) (fun u' H => va_P D.1 j_cl (cW D q u') H) A) (([.ref (q 5)] : List Value).toArray) st 0 0 A) (F0 mi 62 ls []) := by
            intro nn
            induction nn with
            | zero => intros; omega
            | succ nn ih_62 =>
              intro x j n3 H locs hP hS ls hl i62_0 i62_1 i62_2 hm
              refine lv_iload SS.1 SS.2.1 dX0_spread_62 (lv_at hl 4 rfl) ?_
              refine lv_aload_n SS.1 SS.2.1 dX0_spread_64 rfl (lv_at hl 0 rfl) ?_
              refine j_get SS hG hP 5 (v := .int (J (u.2.2.2 16))) (C := RX0) (T := TX0) (N := 14) rfl rfl inX0 10 (by decide) (ref := "GridPolygons$Choices") kw_254 rfl rfl dX0_spread_65 ?_
              refine j_icmp_ge SS (tgt := 188) (x := j) (y := (u.2.2.2 16)) dX0_spread_68 (by decide) (by omega) (by omega) (fun c_68 => ?_) (fun c_68 => ?_)
              · skip
                refine lv_iinc (v := J (i + 1)) (lv' := [(2, .int (J (i + 1))), (0, .ref (q 5)), (1, .int (J rs)), (3, .int (J x)), (4, .int (J j))]) SS.1 SS.2.1 dX0_spread_188 hl (k := 2) rfl (J_add _ _) (by decide) rfl (fun ls hl => ?_)
                refine lv_goto (tgt := 29) SS.1 SS.2.1 dX0_spread_191 (by decide) ?_
                exact ih_29 (i + 1) n3 _ _ hP hS ls (lv_sub hl [1, 2, 0] rfl) (by omega) (fun nd => SP9_c (i62_2 nd) (fun x y q p => by unfold inF9 at q; unfold pr9; omega)) (by omega)
              · skip
                refine lv_aload_n SS.1 SS.2.1 dX0_spread_71 rfl (lv_at hl 0 rfl) ?_
                refine j_get SS hG hP 5 (v := .int (J (u.2.2.2 14))) (C := RX0) (T := TX0) (N := 14) rfl rfl inX0 8 (by decide) (ref := "GridPolygons$Choices") kw_252 rfl rfl dX0_spread_72 ?_
                refine lv_iload_n SS.1 SS.2.1 dX0_spread_75 rfl (lv_at hl 1 rfl) ?_
                refine j_if_eq SS (tgt := 84) (x := rs) dX0_spread_76 (by decide) (by omega) (fun c_76 => ?_) (fun c_76 => ?_)
                · skip
                  refine lv_aload_n SS.1 SS.2.1 dX0_spread_84 rfl (lv_at hl 0 rfl) ?_
                  refine j_get SS hG hP 5 (v := .int (J (u.2.2.2 16))) (C := RX0) (T := TX0) (N := 14) rfl rfl inX0 10 (by decide) (ref := "GridPolygons$Choices") kw_254 rfl rfl dX0_spread_85 ?_
                  refine j_iconst SS dX0_spread_88 ?_
                  refine j_isub SS (x := (u.2.2.2 16)) (y := 1) dX0_spread_89 ?_
                  refine lv_iload SS.1 SS.2.1 dX0_spread_90 (lv_at hl 4 rfl) ?_
                  refine j_isub SS (x := ((u.2.2.2 16) - 1)) (y := j) dX0_spread_92 ?_
                  refine j_iadd SS (x := (u.2.2.2 14)) (y := (((u.2.2.2 16) - 1) - j)) dX0_spread_93 ?_
                  refine lv_istore (lv' := [(5, .int (J ((u.2.2.2 14) + (((u.2.2.2 16) - 1) - j)))), (0, .ref (q 5)), (1, .int (J rs)), (2, .int (J i)), (3, .int (J x)), (4, .int (J j))]) SS.1 SS.2.1 dX0_spread_94 hl (by decide) rfl (fun ls hl => ?_)
                  refine lv_aload_n SS.1 SS.2.1 dX0_spread_96 rfl (lv_at hl 1 rfl) ?_
                  refine lv_iload_n SS.1 SS.2.1 dX0_spread_97 rfl (lv_at hl 4 rfl) ?_
                  refine lv_iload SS.1 SS.2.1 dX0_spread_98 (lv_at hl 0 rfl) ?_
                  refine j_vRi SS (As := [.int (J x), .int (J ((u.2.2.2 14) + (((u.2.2.2 16) - 1) - j)))]) (rest := []) (c_X0_cell3 l D q (sL u 1 n3)  x ((u.2.2.2 14) + (((u.2.2.2 16) - 1) - j)) (show (-40 ≤ (u.2.2.2 13) ∧ (u.2.2.2 13) ≤ 40) ∧ (-40 ≤ (u.2.2.2 14) ∧ (u.2.2.2 14) ≤ 40) ∧ (-79 ≤ (u.2.2.2 15) ∧ (u.2.2.2 15) ≤ 81) ∧ (-79 ≤ (u.2.2.2 16) ∧ (u.2.2.2 16) ≤ 81) from (by omega)) (show -2000000 ≤ x ∧ x ≤ 2000000 from (by omega)) (show -2000000 ≤ ((u.2.2.2 14) + (((u.2.2.2 16) - 1) - j)) ∧ ((u.2.2.2 14) + (((u.2.2.2 16) - 1) - j)) ≤ 2000000 from (by omega))) mf_X0_cell kw_717 hG hP hP (ci := 0) (q0 := 5) rfl rfl rfl rfl hl.1 ⟨⟨Nat.le_of_ble_eq_true rfl, Nat.le_of_ble_eq_true rfl⟩, Nat.le_of_ble_eq_true rfl, Nat.le_refl _, Nat.le_refl _⟩ rfl dX0_spread_100 (fun z_100 h_100 => ?_)
                  have h_100 : (inF9 ((u.2.2.2 13)) ((u.2.2.2 14)) ((u.2.2.2 15)) ((u.2.2.2 16)) x ((u.2.2.2 14) + (((u.2.2.2 16) - 1) - j)) ∧ z_100 = ixF ((u.2.2.2 13)) ((u.2.2.2 14)) ((u.2.2.2 16)) x ((u.2.2.2 14) + (((u.2.2.2 16) - 1) - j))) ∨ (¬ inF9 ((u.2.2.2 13)) ((u.2.2.2 14)) ((u.2.2.2 15)) ((u.2.2.2 16)) x ((u.2.2.2 14) + (((u.2.2.2 16) - 1) - j)) ∧ z_100 = -1) := h_100
                  have hr100 : (0 ≤ z_100 ∧ z_100 < 6561) ∨ z_100 = -1 := by rcases h_100 with q | q; have := ixF_r (by omega) (by omega) q.1; omega; omega
                  refine lv_istore (lv' := [(6, .int (J z_100)), (5, .int (J ((u.2.2.2 14) + (((u.2.2.2 16) - 1) - j)))), (0, .ref (q 5)), (1, .int (J rs)), (2, .int (J i)), (3, .int (J x)), (4, .int (J j))]) SS.1 SS.2.1 dX0_spread_103 hl (by decide) rfl (fun ls hl => ?_)
                  refine lv_iload SS.1 SS.2.1 dX0_spread_105 (lv_at hl 0 rfl) ?_
                  refine j_if_lt SS (tgt := 182) (x := z_100) dX0_spread_107 (by decide) (by omega) (fun c_107 => ?_) (fun c_107 => ?_)
                  · skip
                    refine lv_iinc (v := J (j + 1)) (lv' := [(4, .int (J (j + 1))), (6, .int (J z_100)), (5, .int (J ((u.2.2.2 14) + (((u.2.2.2 16) - 1) - j)))), (0, .ref (q 5)), (1, .int (J rs)), (2, .int (J i)), (3, .int (J x))]) SS.1 SS.2.1 dX0_spread_182 hl (k := 6) rfl (J_add _ _) (by decide) rfl (fun ls hl => ?_)
                    refine lv_goto (tgt := 62) SS.1 SS.2.1 dX0_spread_185 (by decide) ?_
                    exact ih_62 x (j + 1) n3 _ _ hP hS ls (lv_sub hl [3, 4, 5, 6, 0] rfl) (by omega) (by omega) (by first | exact fun nd => SP9_c (i29_1 nd) (fun x2 y2 q p => by unfold inF9 at q; unfold pr9 at p; omega) | (exfalso; rcases h_100 with q | q; (have := (ixF_r (by omega) (by omega) q.1); omega); exact q.1 (by unfold inF9; omega)) | (intro nd; rcases h_100 with q | q; (rw [q.2]; exact SP9_s (rs := rs) (by omega) (by omega) (by omega) q.1 (SP9_c (i62_2 nd) (fun x2 y2 q2 p => by unfold pr9 at p ⊢; omega)) h_141 (by rw [show (((u.2.2.2 17).toNat : Nat) : Int) = u.2.2.2 17 by omega]; exact h_177) (fun x2 y2 q2 p => by unfold inF9 at q2; unfold pr9 at p ⊢; omega)); omega)) (by omega)
                  · skip
                    refine lv_aload_n SS.1 SS.2.1 dX0_spread_110 rfl (lv_at hl 2 rfl) ?_
                    refine j_get SS hG hP 5 (v := .ref (q 68)) (C := RX0) (T := TX0) (N := 14) rfl rfl inX0 1 (by decide) (ref := "GridPolygons$Choices") kw_244 rfl rfl dX0_spread_111 ?_
                    refine lv_iload SS.1 SS.2.1 dX0_spread_114 (lv_at hl 0 rfl) ?_
                    refine lv_aload_n SS.1 SS.2.1 dX0_spread_116 rfl (lv_at hl 2 rfl) ?_
                    refine j_get SS hG hP 5 (v := .ref (q 67)) (C := RX0) (T := TX0) (N := 14) rfl rfl inX0 0 (by decide) (ref := "GridPolygons$Choices") kw_243 rfl rfl dX0_spread_117 ?_
                    refine lv_iload SS.1 SS.2.1 dX0_spread_120 (lv_at hl 0 rfl) ?_
                    refine j_lald SS hG hP 67 (n := 6561) (f := (u.2.2.1 0)) rfl (z := z_100) (by omega) (by omega) dX0_spread_122 ?_
                    refine lv_aload_n SS.1 SS.2.1 dX0_spread_123 rfl (lv_at hl 2 rfl) ?_
                    refine lv_aload_n SS.1 SS.2.1 dX0_spread_124 rfl (lv_at hl 2 rfl) ?_
                    refine j_get SS hG hP 5 (v := .ref (q 68)) (C := RX0) (T := TX0) (N := 14) rfl rfl inX0 1 (by decide) (ref := "GridPolygons$Choices") kw_244 rfl rfl dX0_spread_125 ?_
                    refine lv_iload_n SS.1 SS.2.1 dX0_spread_128 rfl (lv_at hl 5 rfl) ?_
                    refine lv_aload_n SS.1 SS.2.1 dX0_spread_129 rfl (lv_at hl 2 rfl) ?_
                    refine j_get SS hG hP 5 (v := .int (J (u.2.2.2 18))) (C := RX0) (T := TX0) (N := 14) rfl rfl inX0 12 (by decide) (ref := "GridPolygons$Choices") kw_256 rfl rfl dX0_spread_130 ?_
                    refine j_isub SS (x := x) (y := (u.2.2.2 18)) dX0_spread_133 ?_
                    refine lv_iload SS.1 SS.2.1 dX0_spread_134 (lv_at hl 1 rfl) ?_
                    refine lv_aload_n SS.1 SS.2.1 dX0_spread_136 rfl (lv_at hl 2 rfl) ?_
                    refine j_get SS hG hP 5 (v := .int (J (u.2.2.2 19))) (C := RX0) (T := TX0) (N := 14) rfl rfl inX0 13 (by decide) (ref := "GridPolygons$Choices") kw_257 rfl rfl dX0_spread_137 ?_
                    refine j_isub SS (x := ((u.2.2.2 14) + (((u.2.2.2 16) - 1) - j))) (y := (u.2.2.2 19)) dX0_spread_140 ?_
                    refine j_vRl SS (As := [.ref (q 68), .int (J (x - (u.2.2.2 18))), .int (J (((u.2.2.2 14) + (((u.2.2.2 16) - 1) - j)) - (u.2.2.2 19)))]) (rest := [.long ((u.2.2.1 0) (z_100).toNat), .int (J z_100), .ref (q 68)]) (c_X0_waysTo3_1 l D q (sL u 1 n3)  (x - (u.2.2.2 18)) (((u.2.2.2 14) + (((u.2.2.2 16) - 1) - j)) - (u.2.2.2 19)) (show (-40 ≤ (u.2.2.2 13) ∧ (u.2.2.2 13) ≤ 40) ∧ (-40 ≤ (u.2.2.2 14) ∧ (u.2.2.2 14) ≤ 40) ∧ (-79 ≤ (u.2.2.2 15) ∧ (u.2.2.2 15) ≤ 81) ∧ (-79 ≤ (u.2.2.2 16) ∧ (u.2.2.2 16) ≤ 81) from (by omega)) (show -2000000 ≤ (x - (u.2.2.2 18)) ∧ (x - (u.2.2.2 18)) ≤ 2000000 from (by omega)) (show -2000000 ≤ (((u.2.2.2 14) + (((u.2.2.2 16) - 1) - j)) - (u.2.2.2 19)) ∧ (((u.2.2.2 14) + (((u.2.2.2 16) - 1) - j)) - (u.2.2.2 19)) ≤ 2000000 from (by omega))) mf_X0_waysTo kw_732 hG hP hP (ci := 0) (q0 := 5) rfl rfl rfl rfl hl.1 ⟨⟨Nat.le_of_ble_eq_true rfl, Nat.le_of_ble_eq_true rfl⟩, Nat.le_of_ble_eq_true rfl, Nat.le_refl _, Nat.le_refl _⟩ rfl dX0_spread_141 (fun x_141 h_141 => ?_)
                    refine lv_ladd SS.1 SS.2.1 dX0_spread_144 ?_
                    refine lv_aload_n SS.1 SS.2.1 dX0_spread_145 rfl (lv_at hl 2 rfl) ?_
                    refine lv_aload_n SS.1 SS.2.1 dX0_spread_146 rfl (lv_at hl 2 rfl) ?_
                    refine j_get SS hG hP 5 (v := .ref (q 67)) (C := RX0) (T := TX0) (N := 14) rfl rfl inX0 0 (by decide) (ref := "GridPolygons$Choices") kw_243 rfl rfl dX0_spread_147 ?_
                    refine lv_iload_n SS.1 SS.2.1 dX0_spread_150 rfl (lv_at hl 5 rfl) ?_
                    refine lv_aload_n SS.1 SS.2.1 dX0_spread_151 rfl (lv_at hl 2 rfl) ?_
                    refine j_get SS hG hP 5 (v := .int (J (u.2.2.2 17))) (C := RX0) (T := TX0) (N := 14) rfl rfl inX0 11 (by decide) (ref := "GridPolygons$Choices") kw_255 rfl rfl dX0_spread_152 ?_
                    refine j_iconst SS dX0_spread_155 ?_
                    refine j_iadd SS (x := (u.2.2.2 17)) (y := 1) dX0_spread_156 ?_
                    refine lv_aload_n SS.1 SS.2.1 dX0_spread_157 rfl (lv_at hl 2 rfl) ?_
                    refine j_get SS hG hP 5 (v := .int (J (u.2.2.2 18))) (C := RX0) (T := TX0) (N := 14) rfl rfl inX0 12 (by decide) (ref := "GridPolygons$Choices") kw_256 rfl rfl dX0_spread_158 ?_
                    refine j_imul SS (x := ((u.2.2.2 17) + 1)) (y := (u.2.2.2 18)) dX0_spread_161 ?_
                    refine j_isub SS (x := x) (y := (((u.2.2.2 17) + 1) * (u.2.2.2 18))) dX0_spread_162 ?_
                    refine lv_iload SS.1 SS.2.1 dX0_spread_163 (lv_at hl 1 rfl) ?_
                    refine lv_aload_n SS.1 SS.2.1 dX0_spread_165 rfl (lv_at hl 2 rfl) ?_
                    refine j_get SS hG hP 5 (v := .int (J (u.2.2.2 17))) (C := RX0) (T := TX0) (N := 14) rfl rfl inX0 11 (by decide) (ref := "GridPolygons$Choices") kw_255 rfl rfl dX0_spread_166 ?_
                    refine j_iconst SS dX0_spread_169 ?_
                    refine j_iadd SS (x := (u.2.2.2 17)) (y := 1) dX0_spread_170 ?_
                    refine lv_aload_n SS.1 SS.2.1 dX0_spread_171 rfl (lv_at hl 2 rfl) ?_
                    refine j_get SS hG hP 5 (v := .int (J (u.2.2.2 19))) (C := RX0) (T := TX0) (N := 14) rfl rfl inX0 13 (by decide) (ref := "GridPolygons$Choices") kw_257 rfl rfl dX0_spread_172 ?_
                    refine j_imul SS (x := ((u.2.2.2 17) + 1)) (y := (u.2.2.2 19)) dX0_spread_175 ?_
                    refine j_isub SS (x := ((u.2.2.2 14) + (((u.2.2.2 16) - 1) - j))) (y := (((u.2.2.2 17) + 1) * (u.2.2.2 19))) dX0_spread_176 ?_
                    have m1 := mulb (A := 81) (B := 80) (a := u.2.2.2 17 + 1) (b := u.2.2.2 18) (by omega) (by omega)
                    have m2 := mulb (A := 81) (B := 80) (a := u.2.2.2 17 + 1) (b := u.2.2.2 19) (by omega) (by omega)
                    refine j_vRl SS (As := [.ref (q 67), .int (J (x - (((u.2.2.2 17) + 1) * (u.2.2.2 18)))), .int (J (((u.2.2.2 14) + (((u.2.2.2 16) - 1) - j)) - (((u.2.2.2 17) + 1) * (u.2.2.2 19))))]) (rest := [.long (((u.2.2.1 0) (z_100).toNat) + x_141), .int (J z_100), .ref (q 68)]) (c_X0_waysTo3_0 l D q (sL u 1 n3)  (x - (((u.2.2.2 17) + 1) * (u.2.2.2 18))) (((u.2.2.2 14) + (((u.2.2.2 16) - 1) - j)) - (((u.2.2.2 17) + 1) * (u.2.2.2 19))) (show (-40 ≤ (u.2.2.2 13) ∧ (u.2.2.2 13) ≤ 40) ∧ (-40 ≤ (u.2.2.2 14) ∧ (u.2.2.2 14) ≤ 40) ∧ (-79 ≤ (u.2.2.2 15) ∧ (u.2.2.2 15) ≤ 81) ∧ (-79 ≤ (u.2.2.2 16) ∧ (u.2.2.2 16) ≤ 81) from (by omega)) (show -2000000 ≤ (x - (((u.2.2.2 17) + 1) * (u.2.2.2 18))) ∧ (x - (((u.2.2.2 17) + 1) * (u.2.2.2 18))) ≤ 2000000 from (by omega)) (show -2000000 ≤ (((u.2.2.2 14) + (((u.2.2.2 16) - 1) - j)) - (((u.2.2.2 17) + 1) * (u.2.2.2 19))) ∧ (((u.2.2.2 14) + (((u.2.2.2 16) - 1) - j)) - (((u.2.2.2 17) + 1) * (u.2.2.2 19))) ≤ 2000000 from (by omega))) mf_X0_waysTo kw_732 hG hP hP (ci := 0) (q0 := 5) rfl rfl rfl rfl hl.1 ⟨⟨Nat.le_of_ble_eq_true rfl, Nat.le_of_ble_eq_true rfl⟩, Nat.le_of_ble_eq_true rfl, Nat.le_refl _, Nat.le_refl _⟩ rfl dX0_spread_177 (fun x_177 h_177 => ?_)
                    refine lv_lsub SS.1 SS.2.1 dX0_spread_180 ?_
                    refine j_last SS hG hP (cW_D hD) hS 68 (n := 6561) (f := n3) rfl (z := z_100) (v := ((((u.2.2.1 0) (z_100).toNat) + x_141) - x_177)) (by omega) (by omega) dX0_spread_181 (ws' := (cW D q (sL u 1 (vp_updL n3 (z_100).toNat ((((u.2.2.1 0) (z_100).toNat) + x_141) - x_177))))) rfl (fun H locs hP hS => ?_)
                    refine lv_iinc (v := J (j + 1)) (lv' := [(4, .int (J (j + 1))), (6, .int (J z_100)), (5, .int (J ((u.2.2.2 14) + (((u.2.2.2 16) - 1) - j)))), (0, .ref (q 5)), (1, .int (J rs)), (2, .int (J i)), (3, .int (J x))]) SS.1 SS.2.1 dX0_spread_182 hl (k := 6) rfl (J_add _ _) (by decide) rfl (fun ls hl => ?_)
                    refine lv_goto (tgt := 62) SS.1 SS.2.1 dX0_spread_185 (by decide) ?_
                    exact ih_62 x (j + 1) (vp_updL n3 (z_100).toNat ((((u.2.2.1 0) (z_100).toNat) + x_141) - x_177)) _ _ hP hS ls (lv_sub hl [3, 4, 5, 6, 0] rfl) (by omega) (by omega) (by first | exact fun nd => SP9_c (i29_1 nd) (fun x2 y2 q p => by unfold inF9 at q; unfold pr9 at p; omega) | (exfalso; rcases h_100 with q | q; (have := (ixF_r (by omega) (by omega) q.1); omega); exact q.1 (by unfold inF9; omega)) | (intro nd; rcases h_100 with q | q; (rw [q.2]; exact SP9_s (rs := rs) (by omega) (by omega) (by omega) q.1 (SP9_c (i62_2 nd) (fun x2 y2 q2 p => by unfold pr9 at p ⊢; omega)) h_141 (by rw [show (((u.2.2.2 17).toNat : Nat) : Int) = u.2.2.2 17 by omega]; exact h_177) (fun x2 y2 q2 p => by unfold inF9 at q2; unfold pr9 at p ⊢; omega)); omega)) (by omega)
                · skip
                  refine lv_iload SS.1 SS.2.1 dX0_spread_79 (lv_at hl 4 rfl) ?_
                  refine lv_goto (tgt := 93) SS.1 SS.2.1 dX0_spread_81 (by decide) ?_
                  refine j_iadd SS (x := (u.2.2.2 14)) (y := j) dX0_spread_93 ?_
                  refine lv_istore (lv' := [(5, .int (J ((u.2.2.2 14) + j))), (0, .ref (q 5)), (1, .int (J rs)), (2, .int (J i)), (3, .int (J x)), (4, .int (J j))]) SS.1 SS.2.1 dX0_spread_94 hl (by decide) rfl (fun ls hl => ?_)
                  refine lv_aload_n SS.1 SS.2.1 dX0_spread_96 rfl (lv_at hl 1 rfl) ?_
                  refine lv_iload_n SS.1 SS.2.1 dX0_spread_97 rfl (lv_at hl 4 rfl) ?_
                  refine lv_iload SS.1 SS.2.1 dX0_spread_98 (lv_at hl 0 rfl) ?_
                  refine j_vRi SS (As := [.int (J x), .int (J ((u.2.2.2 14) + j))]) (rest := []) (c_X0_cell3 l D q (sL u 1 n3)  x ((u.2.2.2 14) + j) (show (-40 ≤ (u.2.2.2 13) ∧ (u.2.2.2 13) ≤ 40) ∧ (-40 ≤ (u.2.2.2 14) ∧ (u.2.2.2 14) ≤ 40) ∧ (-79 ≤ (u.2.2.2 15) ∧ (u.2.2.2 15) ≤ 81) ∧ (-79 ≤ (u.2.2.2 16) ∧ (u.2.2.2 16) ≤ 81) from (by omega)) (show -2000000 ≤ x ∧ x ≤ 2000000 from (by omega)) (show -2000000 ≤ ((u.2.2.2 14) + j) ∧ ((u.2.2.2 14) + j) ≤ 2000000 from (by omega))) mf_X0_cell kw_717 hG hP hP (ci := 0) (q0 := 5) rfl rfl rfl rfl hl.1 ⟨⟨Nat.le_of_ble_eq_true rfl, Nat.le_of_ble_eq_true rfl⟩, Nat.le_of_ble_eq_true rfl, Nat.le_refl _, Nat.le_refl _⟩ rfl dX0_spread_100 (fun z_100 h_100 => ?_)
                  have h_100 : (inF9 ((u.2.2.2 13)) ((u.2.2.2 14)) ((u.2.2.2 15)) ((u.2.2.2 16)) x ((u.2.2.2 14) + j) ∧ z_100 = ixF ((u.2.2.2 13)) ((u.2.2.2 14)) ((u.2.2.2 16)) x ((u.2.2.2 14) + j)) ∨ (¬ inF9 ((u.2.2.2 13)) ((u.2.2.2 14)) ((u.2.2.2 15)) ((u.2.2.2 16)) x ((u.2.2.2 14) + j) ∧ z_100 = -1) := h_100
                  have hr100 : (0 ≤ z_100 ∧ z_100 < 6561) ∨ z_100 = -1 := by rcases h_100 with q | q; have := ixF_r (by omega) (by omega) q.1; omega; omega
                  refine lv_istore (lv' := [(6, .int (J z_100)), (5, .int (J ((u.2.2.2 14) + j))), (0, .ref (q 5)), (1, .int (J rs)), (2, .int (J i)), (3, .int (J x)), (4, .int (J j))]) SS.1 SS.2.1 dX0_spread_103 hl (by decide) rfl (fun ls hl => ?_)
                  refine lv_iload SS.1 SS.2.1 dX0_spread_105 (lv_at hl 0 rfl) ?_
                  refine j_if_lt SS (tgt := 182) (x := z_100) dX0_spread_107 (by decide) (by omega) (fun c_107 => ?_) (fun c_107 => ?_)
                  · skip
                    refine lv_iinc (v := J (j + 1)) (lv' := [(4, .int (J (j + 1))), (6, .int (J z_100)), (5, .int (J ((u.2.2.2 14) + j))), (0, .ref (q 5)), (1, .int (J rs)), (2, .int (J i)), (3, .int (J x))]) SS.1 SS.2.1 dX0_spread_182 hl (k := 6) rfl (J_add _ _) (by decide) rfl (fun ls hl => ?_)
                    refine lv_goto (tgt := 62) SS.1 SS.2.1 dX0_spread_185 (by decide) ?_
                    exact ih_62 x (j + 1) n3 _ _ hP hS ls (lv_sub hl [3, 4, 5, 6, 0] rfl) (by omega) (by omega) (by first | exact fun nd => SP9_c (i29_1 nd) (fun x2 y2 q p => by unfold inF9 at q; unfold pr9 at p; omega) | (exfalso; rcases h_100 with q | q; (have := (ixF_r (by omega) (by omega) q.1); omega); exact q.1 (by unfold inF9; omega)) | (intro nd; rcases h_100 with q | q; (rw [q.2]; exact SP9_s (rs := rs) (by omega) (by omega) (by omega) q.1 (SP9_c (i62_2 nd) (fun x2 y2 q2 p => by unfold pr9 at p ⊢; omega)) h_141 (by rw [show (((u.2.2.2 17).toNat : Nat) : Int) = u.2.2.2 17 by omega]; exact h_177) (fun x2 y2 q2 p => by unfold inF9 at q2; unfold pr9 at p ⊢; omega)); omega)) (by omega)
                  · skip
                    refine lv_aload_n SS.1 SS.2.1 dX0_spread_110 rfl (lv_at hl 2 rfl) ?_
                    refine j_get SS hG hP 5 (v := .ref (q 68)) (C := RX0) (T := TX0) (N := 14) rfl rfl inX0 1 (by decide) (ref := "GridPolygons$Choices") kw_244 rfl rfl dX0_spread_111 ?_
                    refine lv_iload SS.1 SS.2.1 dX0_spread_114 (lv_at hl 0 rfl) ?_
                    refine lv_aload_n SS.1 SS.2.1 dX0_spread_116 rfl (lv_at hl 2 rfl) ?_
                    refine j_get SS hG hP 5 (v := .ref (q 67)) (C := RX0) (T := TX0) (N := 14) rfl rfl inX0 0 (by decide) (ref := "GridPolygons$Choices") kw_243 rfl rfl dX0_spread_117 ?_
                    refine lv_iload SS.1 SS.2.1 dX0_spread_120 (lv_at hl 0 rfl) ?_
                    refine j_lald SS hG hP 67 (n := 6561) (f := (u.2.2.1 0)) rfl (z := z_100) (by omega) (by omega) dX0_spread_122 ?_
                    refine lv_aload_n SS.1 SS.2.1 dX0_spread_123 rfl (lv_at hl 2 rfl) ?_
                    refine lv_aload_n SS.1 SS.2.1 dX0_spread_124 rfl (lv_at hl 2 rfl) ?_
                    refine j_get SS hG hP 5 (v := .ref (q 68)) (C := RX0) (T := TX0) (N := 14) rfl rfl inX0 1 (by decide) (ref := "GridPolygons$Choices") kw_244 rfl rfl dX0_spread_125 ?_
                    refine lv_iload_n SS.1 SS.2.1 dX0_spread_128 rfl (lv_at hl 5 rfl) ?_
                    refine lv_aload_n SS.1 SS.2.1 dX0_spread_129 rfl (lv_at hl 2 rfl) ?_
                    refine j_get SS hG hP 5 (v := .int (J (u.2.2.2 18))) (C := RX0) (T := TX0) (N := 14) rfl rfl inX0 12 (by decide) (ref := "GridPolygons$Choices") kw_256 rfl rfl dX0_spread_130 ?_
                    refine j_isub SS (x := x) (y := (u.2.2.2 18)) dX0_spread_133 ?_
                    refine lv_iload SS.1 SS.2.1 dX0_spread_134 (lv_at hl 1 rfl) ?_
                    refine lv_aload_n SS.1 SS.2.1 dX0_spread_136 rfl (lv_at hl 2 rfl) ?_
                    refine j_get SS hG hP 5 (v := .int (J (u.2.2.2 19))) (C := RX0) (T := TX0) (N := 14) rfl rfl inX0 13 (by decide) (ref := "GridPolygons$Choices") kw_257 rfl rfl dX0_spread_137 ?_
                    refine j_isub SS (x := ((u.2.2.2 14) + j)) (y := (u.2.2.2 19)) dX0_spread_140 ?_
                    refine j_vRl SS (As := [.ref (q 68), .int (J (x - (u.2.2.2 18))), .int (J (((u.2.2.2 14) + j) - (u.2.2.2 19)))]) (rest := [.long ((u.2.2.1 0) (z_100).toNat), .int (J z_100), .ref (q 68)]) (c_X0_waysTo3_1 l D q (sL u 1 n3)  (x - (u.2.2.2 18)) (((u.2.2.2 14) + j) - (u.2.2.2 19)) (show (-40 ≤ (u.2.2.2 13) ∧ (u.2.2.2 13) ≤ 40) ∧ (-40 ≤ (u.2.2.2 14) ∧ (u.2.2.2 14) ≤ 40) ∧ (-79 ≤ (u.2.2.2 15) ∧ (u.2.2.2 15) ≤ 81) ∧ (-79 ≤ (u.2.2.2 16) ∧ (u.2.2.2 16) ≤ 81) from (by omega)) (show -2000000 ≤ (x - (u.2.2.2 18)) ∧ (x - (u.2.2.2 18)) ≤ 2000000 from (by omega)) (show -2000000 ≤ (((u.2.2.2 14) + j) - (u.2.2.2 19)) ∧ (((u.2.2.2 14) + j) - (u.2.2.2 19)) ≤ 2000000 from (by omega))) mf_X0_waysTo kw_732 hG hP hP (ci := 0) (q0 := 5) rfl rfl rfl rfl hl.1 ⟨⟨Nat.le_of_ble_eq_true rfl, Nat.le_of_ble_eq_true rfl⟩, Nat.le_of_ble_eq_true rfl, Nat.le_refl _, Nat.le_refl _⟩ rfl dX0_spread_141 (fun x_141 h_141 => ?_)
                    refine lv_ladd SS.1 SS.2.1 dX0_spread_144 ?_
                    refine lv_aload_n SS.1 SS.2.1 dX0_spread_145 rfl (lv_at hl 2 rfl) ?_
                    refine lv_aload_n SS.1 SS.2.1 dX0_spread_146 rfl (lv_at hl 2 rfl) ?_
                    refine j_get SS hG hP 5 (v := .ref (q 67)) (C := RX0) (T := TX0) (N := 14) rfl rfl inX0 0 (by decide) (ref := "GridPolygons$Choices") kw_243 rfl rfl dX0_spread_147 ?_
                    refine lv_iload_n SS.1 SS.2.1 dX0_spread_150 rfl (lv_at hl 5 rfl) ?_
                    refine lv_aload_n SS.1 SS.2.1 dX0_spread_151 rfl (lv_at hl 2 rfl) ?_
                    refine j_get SS hG hP 5 (v := .int (J (u.2.2.2 17))) (C := RX0) (T := TX0) (N := 14) rfl rfl inX0 11 (by decide) (ref := "GridPolygons$Choices") kw_255 rfl rfl dX0_spread_152 ?_
                    refine j_iconst SS dX0_spread_155 ?_
                    refine j_iadd SS (x := (u.2.2.2 17)) (y := 1) dX0_spread_156 ?_
                    refine lv_aload_n SS.1 SS.2.1 dX0_spread_157 rfl (lv_at hl 2 rfl) ?_
                    refine j_get SS hG hP 5 (v := .int (J (u.2.2.2 18))) (C := RX0) (T := TX0) (N := 14) rfl rfl inX0 12 (by decide) (ref := "GridPolygons$Choices") kw_256 rfl rfl dX0_spread_158 ?_
                    refine j_imul SS (x := ((u.2.2.2 17) + 1)) (y := (u.2.2.2 18)) dX0_spread_161 ?_
                    refine j_isub SS (x := x) (y := (((u.2.2.2 17) + 1) * (u.2.2.2 18))) dX0_spread_162 ?_
                    refine lv_iload SS.1 SS.2.1 dX0_spread_163 (lv_at hl 1 rfl) ?_
                    refine lv_aload_n SS.1 SS.2.1 dX0_spread_165 rfl (lv_at hl 2 rfl) ?_
                    refine j_get SS hG hP 5 (v := .int (J (u.2.2.2 17))) (C := RX0) (T := TX0) (N := 14) rfl rfl inX0 11 (by decide) (ref := "GridPolygons$Choices") kw_255 rfl rfl dX0_spread_166 ?_
                    refine j_iconst SS dX0_spread_169 ?_
                    refine j_iadd SS (x := (u.2.2.2 17)) (y := 1) dX0_spread_170 ?_
                    refine lv_aload_n SS.1 SS.2.1 dX0_spread_171 rfl (lv_at hl 2 rfl) ?_
                    refine j_get SS hG hP 5 (v := .int (J (u.2.2.2 19))) (C := RX0) (T := TX0) (N := 14) rfl rfl inX0 13 (by decide) (ref := "GridPolygons$Choices") kw_257 rfl rfl dX0_spread_172 ?_
                    refine j_imul SS (x := ((u.2.2.2 17) + 1)) (y := (u.2.2.2 19)) dX0_spread_175 ?_
                    refine j_isub SS (x := ((u.2.2.2 14) + j)) (y := (((u.2.2.2 17) + 1) * (u.2.2.2 19))) dX0_spread_176 ?_
                    have m1 := mulb (A := 81) (B := 80) (a := u.2.2.2 17 + 1) (b := u.2.2.2 18) (by omega) (by omega)
                    have m2 := mulb (A := 81) (B := 80) (a := u.2.2.2 17 + 1) (b := u.2.2.2 19) (by omega) (by omega)
                    refine j_vRl SS (As := [.ref (q 67), .int (J (x - (((u.2.2.2 17) + 1) * (u.2.2.2 18)))), .int (J (((u.2.2.2 14) + j) - (((u.2.2.2 17) + 1) * (u.2.2.2 19))))]) (rest := [.long (((u.2.2.1 0) (z_100).toNat) + x_141), .int (J z_100), .ref (q 68)]) (c_X0_waysTo3_0 l D q (sL u 1 n3)  (x - (((u.2.2.2 17) + 1) * (u.2.2.2 18))) (((u.2.2.2 14) + j) - (((u.2.2.2 17) + 1) * (u.2.2.2 19))) (show (-40 ≤ (u.2.2.2 13) ∧ (u.2.2.2 13) ≤ 40) ∧ (-40 ≤ (u.2.2.2 14) ∧ (u.2.2.2 14) ≤ 40) ∧ (-79 ≤ (u.2.2.2 15) ∧ (u.2.2.2 15) ≤ 81) ∧ (-79 ≤ (u.2.2.2 16) ∧ (u.2.2.2 16) ≤ 81) from (by omega)) (show -2000000 ≤ (x - (((u.2.2.2 17) + 1) * (u.2.2.2 18))) ∧ (x - (((u.2.2.2 17) + 1) * (u.2.2.2 18))) ≤ 2000000 from (by omega)) (show -2000000 ≤ (((u.2.2.2 14) + j) - (((u.2.2.2 17) + 1) * (u.2.2.2 19))) ∧ (((u.2.2.2 14) + j) - (((u.2.2.2 17) + 1) * (u.2.2.2 19))) ≤ 2000000 from (by omega))) mf_X0_waysTo kw_732 hG hP hP (ci := 0) (q0 := 5) rfl rfl rfl rfl hl.1 ⟨⟨Nat.le_of_ble_eq_true rfl, Nat.le_of_ble_eq_true rfl⟩, Nat.le_of_ble_eq_true rfl, Nat.le_refl _, Nat.le_refl _⟩ rfl dX0_spread_177 (fun x_177 h_177 => ?_)
                    refine lv_lsub SS.1 SS.2.1 dX0_spread_180 ?_
                    refine j_last SS hG hP (cW_D hD) hS 68 (n := 6561) (f := n3) rfl (z := z_100) (v := ((((u.2.2.1 0) (z_100).toNat) + x_141) - x_177)) (by omega) (by omega) dX0_spread_181 (ws' := (cW D q (sL u 1 (vp_updL n3 (z_100).toNat ((((u.2.2.1 0) (z_100).toNat) + x_141) - x_177))))) rfl (fun H locs hP hS => ?_)
                    refine lv_iinc (v := J (j + 1)) (lv' := [(4, .int (J (j + 1))), (6, .int (J z_100)), (5, .int (J ((u.2.2.2 14) + j))), (0, .ref (q 5)), (1, .int (J rs)), (2, .int (J i)), (3, .int (J x))]) SS.1 SS.2.1 dX0_spread_182 hl (k := 6) rfl (J_add _ _) (by decide) rfl (fun ls hl => ?_)
                    refine lv_goto (tgt := 62) SS.1 SS.2.1 dX0_spread_185 (by decide) ?_
                    exact ih_62 x (j + 1) (vp_updL n3 (z_100).toNat ((((u.2.2.1 0) (z_100).toNat) + x_141) - x_177)) _ _ hP hS ls (lv_sub hl [3, 4, 5, 6, 0] rfl) (by omega) (by omega) (by first | exact fun nd => SP9_c (i29_1 nd) (fun x2 y2 q p => by unfold inF9 at q; unfold pr9 at p; omega) | (exfalso; rcases h_100 with q | q; (have := (ixF_r (by omega) (by omega) q.1); omega); exact q.1 (by unfold inF9; omega)) | (intro nd; rcases h_100 with q | q; (rw [q.2]; exact SP9_s (rs := rs) (by omega) (by omega) (by omega) q.1 (SP9_c (i62_2 nd) (fun x2 y2 q2 p => by unfold pr9 at p ⊢; omega)) h_141 (by rw [show (((u.2.2.2 17).toNat : Nat) : Int) = u.2.2.2 17 by omega]; exact h_177) (fun x2 y2 q2 p => by unfold inF9 at q2; unfold pr9 at p ⊢; omega)); omega)) (by omega)
          refine lv_aload_n SS.1 SS.2.1 dX0_spread_37 rfl (lv_at hl 0 rfl) ?_
          refine j_get SS hG hP 5 (v := .int (J (u.2.2.2 13))) (C := RX0) (T := TX0) (N := 14) rfl rfl inX0 7 (by decide) (ref := "GridPolygons$Choices") kw_251 rfl rfl dX0_spread_38 ?_
          refine lv_iload_n SS.1 SS.2.1 dX0_spread_41 rfl (lv_at hl 1 rfl) ?_
          refine j_if_eq SS (tgt := 49) (x := rs) dX0_spread_42 (by decide) (by omega) (fun c_42 => ?_) (fun c_42 => ?_)
          · skip
            refine lv_aload_n SS.1 SS.2.1 dX0_spread_49 rfl (lv_at hl 0 rfl) ?_
            refine j_get SS hG hP 5 (v := .int (J (u.2.2.2 15))) (C := RX0) (T := TX0) (N := 14) rfl rfl inX0 9 (by decide) (ref := "GridPolygons$Choices") kw_253 rfl rfl dX0_spread_50 ?_
            refine j_iconst SS dX0_spread_53 ?_
            refine j_isub SS (x := (u.2.2.2 15)) (y := 1) dX0_spread_54 ?_
            refine lv_iload_n SS.1 SS.2.1 dX0_spread_55 rfl (lv_at hl 2 rfl) ?_
            refine j_isub SS (x := ((u.2.2.2 15) - 1)) (y := i) dX0_spread_56 ?_
            refine j_iadd SS (x := (u.2.2.2 13)) (y := (((u.2.2.2 15) - 1) - i)) dX0_spread_57 ?_
            refine lv_istore_n (lv' := [(3, .int (J ((u.2.2.2 13) + (((u.2.2.2 15) - 1) - i)))), (0, .ref (q 5)), (1, .int (J rs)), (2, .int (J i))]) SS.1 SS.2.1 dX0_spread_58 rfl hl (by decide) rfl (fun ls hl => ?_)
            refine j_iconst SS dX0_spread_59 ?_
            refine lv_istore (lv' := [(4, .int (J 0)), (3, .int (J ((u.2.2.2 13) + (((u.2.2.2 15) - 1) - i)))), (0, .ref (q 5)), (1, .int (J rs)), (2, .int (J i))]) SS.1 SS.2.1 dX0_spread_60 hl (by decide) rfl (fun ls hl => ?_)
            exact L_62 (((81 : Int) - (0 : Int)).toNat + 1) ((u.2.2.2 13) + (((u.2.2.2 15) - 1) - i)) 0 n2 _ _ hP hS ls (lv_sub hl [2, 3, 4, 1, 0] rfl) (by omega) (by omega) (by first | exact fun nd => SP9_c (i29_1 nd) (fun x2 y2 q p => by unfold inF9 at q; unfold pr9 at p; omega) | (exfalso; rcases h_100 with q | q; (have := (ixF_r (by omega) (by omega) q.1); omega); exact q.1 (by unfold inF9; omega)) | (intro nd; rcases h_100 with q | q; (rw [q.2]; exact SP9_s (rs := rs) (by omega) (by omega) (by omega) q.1 (SP9_c (i62_2 nd) (fun x2 y2 q2 p => by unfold pr9 at p ⊢; omega)) h_141 (by rw [show (((u.2.2.2 17).toNat : Nat) : Int) = u.2.2.2 17 by omega]; exact h_177) (fun x2 y2 q2 p => by unfold inF9 at q2; unfold pr9 at p ⊢; omega)); omega)) (Nat.lt_succ_self _)
          · skip
            refine lv_iload_n SS.1 SS.2.1 dX0_spread_45 rfl (lv_at hl 2 rfl) ?_
            refine lv_goto (tgt := 57) SS.1 SS.2.1 dX0_spread_46 (by decide) ?_
            refine j_iadd SS (x := (u.2.2.2 13)) (y := i) dX0_spread_57 ?_
            refine lv_istore_n (lv' := [(3, .int (J ((u.2.2.2 13) + i))), (0, .ref (q 5)), (1, .int (J rs)), (2, .int (J i))]) SS.1 SS.2.1 dX0_spread_58 rfl hl (by decide) rfl (fun ls hl => ?_)
            refine j_iconst SS dX0_spread_59 ?_
            refine lv_istore (lv' := [(4, .int (J 0)), (3, .int (J ((u.2.2.2 13) + i))), (0, .ref (q 5)), (1, .int (J rs)), (2, .int (J i))]) SS.1 SS.2.1 dX0_spread_60 hl (by decide) rfl (fun ls hl => ?_)
            exact L_62 (((81 : Int) - (0 : Int)).toNat + 1) ((u.2.2.2 13) + i) 0 n2 _ _ hP hS ls (lv_sub hl [2, 3, 4, 1, 0] rfl) (by omega) (by omega) (by first | exact fun nd => SP9_c (i29_1 nd) (fun x2 y2 q p => by unfold inF9 at q; unfold pr9 at p; omega) | (exfalso; rcases h_100 with q | q; (have := (ixF_r (by omega) (by omega) q.1); omega); exact q.1 (by unfold inF9; omega)) | (intro nd; rcases h_100 with q | q; (rw [q.2]; exact SP9_s (rs := rs) (by omega) (by omega) (by omega) q.1 (SP9_c (i62_2 nd) (fun x2 y2 q2 p => by unfold pr9 at p ⊢; omega)) h_141 (by rw [show (((u.2.2.2 17).toNat : Nat) : Int) = u.2.2.2 17 by omega]; exact h_177) (fun x2 y2 q2 p => by unfold inF9 at q2; unfold pr9 at p ⊢; omega)); omega)) (Nat.lt_succ_self _)
    exact L_29 (((81 : Int) - (0 : Int)).toNat + 1) 0 (u.2.2.1 1) _ _ hP hS ls (lv_sub hl [1, 2, 0] rfl) (by omega) (fun _ x y q p => by unfold inF9 at q; omega) (Nat.lt_succ_self _)
  refine lv_aload_n SS.1 SS.2.1 dX0_spread_0 rfl (lv_at hl 0 rfl) ?_
  refine j_get SS hG hP 5 (v := .int (J (u.2.2.2 18))) (C := RX0) (T := TX0) (N := 14) rfl rfl inX0 12 (by decide) (ref := "GridPolygons$Choices") kw_256 rfl rfl dX0_spread_1 ?_
  refine j_if_gt SS (tgt := 21) (x := (u.2.2.2 18)) dX0_spread_4 (by decide) (by omega) (fun c_4 => ?_) (fun c_4 => ?_)
  · skip
    refine j_iconst SS dX0_spread_21 ?_
    refine lv_goto (tgt := 26) SS.1 SS.2.1 dX0_spread_22 (by decide) ?_
    refine lv_istore_n (lv' := [(1, .int (J 1)), (0, .ref (q 5))]) SS.1 SS.2.1 dX0_spread_26 rfl hl (by decide) rfl (fun ls hl => ?_)
    exact L_27 1 _ _ hP hS ls (lv_sub hl [1, 0] rfl) (by omega)
  · skip
    refine lv_aload_n SS.1 SS.2.1 dX0_spread_7 rfl (lv_at hl 0 rfl) ?_
    refine j_get SS hG hP 5 (v := .int (J (u.2.2.2 18))) (C := RX0) (T := TX0) (N := 14) rfl rfl inX0 12 (by decide) (ref := "GridPolygons$Choices") kw_256 rfl rfl dX0_spread_8 ?_
    refine j_if_ne SS (tgt := 25) (x := (u.2.2.2 18)) dX0_spread_11 (by decide) (by omega) (fun c_11 => ?_) (fun c_11 => ?_)
    · skip
      refine j_iconst SS dX0_spread_25 ?_
      refine lv_istore_n (lv' := [(1, .int (J 0)), (0, .ref (q 5))]) SS.1 SS.2.1 dX0_spread_26 rfl hl (by decide) rfl (fun ls hl => ?_)
      exact L_27 0 _ _ hP hS ls (lv_sub hl [1, 0] rfl) (by omega)
    · skip
      refine lv_aload_n SS.1 SS.2.1 dX0_spread_14 rfl (lv_at hl 0 rfl) ?_
      refine j_get SS hG hP 5 (v := .int (J (u.2.2.2 19))) (C := RX0) (T := TX0) (N := 14) rfl rfl inX0 13 (by decide) (ref := "GridPolygons$Choices") kw_257 rfl rfl dX0_spread_15 ?_
      refine j_if_le SS (tgt := 25) (x := (u.2.2.2 19)) dX0_spread_18 (by decide) (by omega) (fun c_18 => ?_) (fun c_18 => ?_)
      · skip
        refine j_iconst SS dX0_spread_25 ?_
        refine lv_istore_n (lv' := [(1, .int (J 0)), (0, .ref (q 5))]) SS.1 SS.2.1 dX0_spread_26 rfl hl (by decide) rfl (fun ls hl => ?_)
        exact L_27 0 _ _ hP hS ls (lv_sub hl [1, 0] rfl) (by omega)
      · skip
        refine j_iconst SS dX0_spread_21 ?_
        refine lv_goto (tgt := 26) SS.1 SS.2.1 dX0_spread_22 (by decide) ?_
        refine lv_istore_n (lv' := [(1, .int (J 1)), (0, .ref (q 5))]) SS.1 SS.2.1 dX0_spread_26 rfl hl (by decide) rfl (fun ls hl => ?_)
        exact L_27 1 _ _ hP hS ls (lv_sub hl [1, 0] rfl) (by omega)
