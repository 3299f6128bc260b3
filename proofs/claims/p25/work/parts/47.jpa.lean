
set_option maxHeartbeats 4000000 in
set_option maxRecDepth 100000 in
theorem c_X11_pieces3 (l : Launch) (D : JD) (q : Nat → Nat) (u : CS) (A : Nat → Prop) (hD : va_D A (cW D q u)) (s : Int) (what : Int) (p0 : CI u) (p1 : -2147483648 ≤ s ∧ s ≤ 2147483647) (p2 : -2147483648 ≤ what ∧ what ≤ 2147483647) : Met l yX11_pieces (jw yX11_pieces cX11_pieces 4 (some .int)) (jr 7 149) (jP [.ref (q 0), .int (J s), .int (J what)] D (fun H => va_P D.1 j_cl (cW D q u) H)) (jWi (fun z u' => CI u' ∧ cSame u u' ∧ hSam u u' ∧ sSam u u' ∧ kCu u u' ∧ psC u u' s what z) (fun u' H => va_P D.1 j_cl (cW D q u') H) A) 0 0 A := by
  refine Met.ofW (cc := cX11_pieces) (maxL := 4) (ret := (some .int)) (by decide) rfl ?_
  intro pr en st mi args below meth co s₁ B hml hv
  obtain ⟨rfl, hG, hP⟩ := hv
  have hr := B.returns
  have hlk := B.notSynchronized
  have SS : jS pr mi co cX11_pieces 4 st _ RX11 := ⟨B.exec, B.bytes, hml, findClass_of_methodNamed B.named, fun w hw => atoms_spec (ws := (jw yX11_pieces cX11_pieces 4 (some .int))) B.pre w (List.mem_cons_of_mem _ hw)⟩
  have hl := lv_entry ([.ref (q 0), .int (J s), .int (J what)]) (n := 4) (Nat.le_of_ble_eq_true rfl)
  rw [lg_entry_eq]
  generalize (lg_sl ([.ref (q 0), .int (J s), .int (J what)]) ++ List.replicate (4 - (lg_sl ([.ref (q 0), .int (J s), .int (J what)])).length) Slot.unset).toArray = ls at hl ⊢
  have hl : lv_has ls 4 [(0, .ref (q 0)), (1, .int (J s)), (2, .int (J what))] := hl
  have hS : va_S A st.heap st.heap [] := va_S.rf
  refine lv_aload_n SS.1 SS.2.1 dX11_pieces_0 rfl (lv_at hl 0 rfl) ?_
  refine lv_iload_n SS.1 SS.2.1 dX11_pieces_1 rfl (lv_at hl 1 rfl) ?_
  refine j_vSh SS (As := [.int (J s)]) (rest := []) (c_X11_shapeAt l D q u  s (show -2147483648 ≤ s ∧ s ≤ 2147483647 from (p1))) mf_X11_shapeAt kw_414 hG hP hP (ci := 11) (q0 := 0) rfl rfl rfl rfl hl.1 ⟨⟨Nat.le_of_ble_eq_true rfl, Nat.le_of_ble_eq_true rfl⟩, Nat.le_of_ble_eq_true rfl, Nat.le_refl _, Nat.le_refl _⟩ rfl dX11_pieces_2 (fun i_2 hi_2 hz_2 => ?_) (fun hn_2 => ?_)
  · skip
    have hI2 := CI_s p0 (show i_2 < 8 by omega)
    have hI2c := hI2.1
    have hrl2 := rl_s (show i_2 < 8 by omega)
    refine lv_astore_n (lv' := [(3, .ref (q (8 + 5 * i_2))), (0, .ref (q 0)), (1, .int (J s)), (2, .int (J what))]) SS.1 SS.2.1 dX11_pieces_5 rfl hl (by decide) rfl (fun ls hl => ?_)
    refine lv_aload_n SS.1 SS.2.1 dX11_pieces_6 rfl (lv_at hl 0 rfl) ?_
    refine lv_ifnull SS.1 SS.2.1 dX11_pieces_7 ?_
    refine lv_iload_n SS.1 SS.2.1 dX11_pieces_10 rfl (lv_at hl 3 rfl) ?_
    refine j_if_lt SS (tgt := 19) (x := what) dX11_pieces_11 (by decide) (by omega) (fun c_11 => ?_) (fun c_11 => ?_)
    · skip
      refine j_iconst SS dX11_pieces_19 ?_
      exact W.iret SS.1 SS.2.1 hr (fun t0 ht hW => ⟨⟨_, u, rfl, ⟨(-1), rfl, (⟨p0, (by first | exact cs_refl | exact (fun r hr => ⟨if_neg (by omega), if_neg (by omega), if_neg (by omega)⟩)), (by first | exact hs_refl | exact (fun _ _ => rfl)), (by first | exact ss_refl | exact ⟨rfl, fun _ _ => rfl⟩), ⟨⟨(by first | rfl | exact if_neg (by omega) | exact (if_neg (by omega)).trans (if_neg (by omega))), (by first | rfl | exact if_neg (by omega) | exact (if_neg (by omega)).trans (if_neg (by omega))), (by first | rfl | exact if_neg (by omega) | exact (if_neg (by omega)).trans (if_neg (by omega)))⟩, ⟨rfl, rfl, rfl, rfl, rfl⟩, ⟨rfl, rfl, rfl, rfl⟩, rfl, rfl, rfl, rfl, rfl⟩, Or.inl ⟨by omega, rfl, kCo_r⟩⟩)⟩, by show va_P D.1 j_cl (cW D q u) t0.heap; rw [ht]; first | exact hP | (simp only [sC_id, sX_id, sY_id, sH_id, sT_id, sV_id]; exact hP)⟩, hS.F ht⟩) hS.2.2 dX11_pieces_20 hlk
    · skip
      refine lv_iload_n SS.1 SS.2.1 dX11_pieces_14 rfl (lv_at hl 3 rfl) ?_
      refine j_iconst SS dX11_pieces_15 ?_
      refine j_icmp_le SS (tgt := 21) (x := what) (y := 2) dX11_pieces_16 (by decide) (by omega) (by decide) (fun c_16 => ?_) (fun c_16 => ?_)
      · skip
        refine lv_aload_n SS.1 SS.2.1 dX11_pieces_21 rfl (lv_at hl 0 rfl) ?_
        refine j_get SS hG hP (8 + 5 * i_2) (v := .ref (q (9 + 5 * i_2))) (C := RX10) (T := TX10) (N := 3) (cw_shape (by omega)) rfl inX10 0 (by decide) (ref := "GridPolygons$Shape") kw_151 rfl rfl dX11_pieces_22 ?_
        refine j_bipush SS dX11_pieces_25 (by decide +kernel) ?_
        refine j_sRi SS (As := [.ref (q (9 + 5 * i_2)), .int (J 40)]) (rest := []) (c_X11_hasAtMost3 l D q u i_2 (by omega) 40 (show RB 40 u i_2 from (CI_40 p0 (by omega))) (show -2147483648 ≤ (40 : Int) ∧ (40 : Int) ≤ 2147483647 from (by omega))) mf_X11_hasAtMost kw_859 hG hP rfl hl.1 ⟨⟨Nat.le_of_ble_eq_true rfl, Nat.le_of_ble_eq_true rfl⟩, Nat.le_of_ble_eq_true rfl, Nat.le_refl _, Nat.le_refl _⟩ rfl dX11_pieces_27 (fun z_27 h_27 => ?_)
        have h_27 : (z_27 = 1 ∧ 3 ≤ (u.1.2.2.1 i_2) ∧ rE u i_2 + rI u i_2 ≤ (40 : Int)) ∨ (z_27 = 0 ∧ ¬ (3 ≤ (u.1.2.2.1 i_2) ∧ rE u i_2 + rI u i_2 ≤ (40 : Int))) := h_27
        refine j_if_ne SS (tgt := 36) (x := z_27) dX11_pieces_30 (by decide) (by omega) (fun c_30 => ?_) (fun c_30 => ?_)
        · skip
          refine lv_aload_n SS.1 SS.2.1 dX11_pieces_36 rfl (lv_at hl 1 rfl) ?_
          refine j_get SS hG hP 0 (v := .ref (q 7)) (C := RX11) (T := TX11) (N := 8) rfl rfl inX11 6 (by decide) (ref := "GridPolygons") kw_391 rfl rfl dX11_pieces_37 ?_
          refine lv_aload_n SS.1 SS.2.1 dX11_pieces_40 rfl (lv_at hl 0 rfl) ?_
          refine j_vWv SS (As := [.ref (q (8 + 5 * i_2))]) (rest := []) (c_X1_build3 l D q u A (cW_D hD) i_2 (by omega)  (show RB 40 u i_2 from (CI_40 p0 (by omega))) (show RB 40 u 10 from (p0.2.1.2.2)) (show HB ((u.1.2.2.2.1 i_2)) from ((p0.1 i_2 (by omega)).2.1)) (show 0 ≤ (u.2.2.2 25) ∧ (u.2.2.2 25) ≤ 80 from (p0.2.2.2.2.2.2.2.1)) (show -2147483648 ≤ (u.2.2.2 26) ∧ (u.2.2.2 26) ≤ 2147483647 from (p0.2.2.2.2.2.2.2.2)) (show -2147483648 ≤ (u.1.2.2.2.2 i_2) ∧ (u.1.2.2.2.2 i_2) ≤ 2147483647 from ((p0.1 i_2 (by omega)).2.2)) (show 1 ≤ (u.1.2.2.1 i_2) from (by omega))) mf_X1_build kw_987 hG hP hP (ci := 1) (q0 := 7) rfl rfl rfl hS (fun _ h => h) rfl hl.1 ⟨⟨Nat.le_of_ble_eq_true rfl, Nat.le_of_ble_eq_true rfl⟩, Nat.le_of_ble_eq_true rfl, Nat.le_refl _, Nat.le_refl _⟩ rfl dX11_pieces_41 (fun u41 H locs h_41 hP _ hS => ?_)
          obtain ⟨n_41, f_41, g_41, se_41, v25_41, v26_41, rfl, h_41⟩ := h_41
          have hP : va_P D.1 j_cl (cW D q (sY (sX (sV (sV (sL (sC u 10 n_41) 6 se_41) 25 v25_41) 26 v26_41) 10 f_41) 10 g_41)) H := hP
          have h_41 : (((0 ≤ n_41 ∧ n_41 ≤ 40) ∧ RV 40 f_41 g_41) ∧ (0 ≤ v25_41 ∧ v25_41 ≤ 80) ∧ -2147483648 ≤ v26_41 ∧ v26_41 ≤ 2147483647) ∧ (((u.2.2.2 26) = (u.1.2.2.2.2 i_2) ∧ n_41 = (u.1.2.2.1 10) ∧ f_41 = (u.1.1 10) ∧ g_41 = (u.1.2.1 10) ∧ se_41 = (u.2.2.1 6) ∧ v25_41 = (u.2.2.2 25) ∧ v26_41 = (u.2.2.2 26)) ∨ (v26_41 = (u.1.2.2.2.2 i_2) ∧ (FT9 u i_2 40 → LC9 (inC u i_2) ((u.1.2.2.2.1 i_2)) n_41 f_41 g_41 v25_41 se_41))) := h_41
          have hCI : CI (sY (sX (sV (sV (sL (sC u 10 n_41) 6 se_41) 25 v25_41) 26 v26_41) 10 f_41) 10 g_41) := CI_co p0 h_41.1
          have hR10 := hCI.2.1.2.2
          have hbR : bR9 u (sY (sX (sV (sV (sL (sC u 10 n_41) 6 se_41) 25 v25_41) 26 v26_41) 10 f_41) 10 g_41) i_2 := by rcases h_41.2 with ⟨q0, q1, q2, q3, q4, q5, q6⟩ | ⟨q0, q1⟩; exact Or.inl ⟨q0, ⟨q1, q2, q3⟩, q4, q5, q6⟩; exact Or.inr ⟨q0, q1⟩
          refine lv_iload_n SS.1 SS.2.1 dX11_pieces_44 rfl (lv_at hl 3 rfl) ?_
          refine j_if_ne SS (tgt := 56) (x := what) dX11_pieces_45 (by decide) (by omega) (fun c_45 => ?_) (fun c_45 => ?_)
          · skip
            refine lv_iload_n SS.1 SS.2.1 dX11_pieces_56 rfl (lv_at hl 3 rfl) ?_
            refine j_iconst SS dX11_pieces_57 ?_
            refine j_icmp_ne SS (tgt := 71) (x := what) (y := 1) dX11_pieces_58 (by decide) (by omega) (by decide) (fun c_58 => ?_) (fun c_58 => ?_)
            · skip
              refine lv_aload_n SS.1 SS.2.1 dX11_pieces_71 rfl (lv_at hl 1 rfl) ?_
              refine j_get SS hG hP 0 (v := .ref (q 7)) (C := RX11) (T := TX11) (N := 8) rfl rfl inX11 6 (by decide) (ref := "GridPolygons") kw_391 rfl rfl dX11_pieces_72 ?_
              refine j_vRi SS (As := []) (rest := []) (c_X1_unitTriangles3 l D q (sY (sX (sV (sV (sL (sC u 10 n_41) 6 se_41) 25 v25_41) 26 v26_41) 10 f_41) 10 g_41)   (show RB 40 (sY (sX (sV (sV (sL (sC u 10 n_41) 6 se_41) 25 v25_41) 26 v26_41) 10 f_41) 10 g_41) 10 from (hR10)) (show 0 ≤ v25_41 ∧ v25_41 ≤ 80 from (by omega))) mf_X1_unitTriangles kw_1032 hG hP hP (ci := 1) (q0 := 7) rfl rfl rfl rfl hl.1 ⟨⟨Nat.le_of_ble_eq_true rfl, Nat.le_of_ble_eq_true rfl⟩, Nat.le_of_ble_eq_true rfl, Nat.le_refl _, Nat.le_refl _⟩ rfl dX11_pieces_75 (fun z_75 h_75 => ?_)
              have h_75 : (0 ≤ z_75 ∧ z_75 ≤ 80) ∧ (∀ F : Nat → Nat → Bool, (∀ q : Nat, (q : Int) < v25_41 → se_41 q = PR9 (F q) (n_41).toNat) → cu9 (f_41) (g_41) (n_41).toNat F (v25_41).toNat z_75) := h_75
              exact W.iret SS.1 SS.2.1 hr (fun t0 ht hW => ⟨⟨_, (sY (sX (sV (sV (sL (sC u 10 n_41) 6 se_41) 25 v25_41) 26 v26_41) 10 f_41) 10 g_41), rfl, ⟨z_75, rfl, (by first | exact ⟨hCI, (by first | exact cs_refl | exact (fun r hr => ⟨if_neg (by omega), if_neg (by omega), if_neg (by omega)⟩)), (by first | exact hs_refl | exact (fun _ _ => rfl)), (by first | exact ss_refl | exact ⟨rfl, fun _ _ => rfl⟩), ⟨⟨(by first | rfl | exact if_neg (by omega) | exact (if_neg (by omega)).trans (if_neg (by omega))), (by first | rfl | exact if_neg (by omega) | exact (if_neg (by omega)).trans (if_neg (by omega))), (by first | rfl | exact if_neg (by omega) | exact (if_neg (by omega)).trans (if_neg (by omega)))⟩, ⟨rfl, rfl, rfl, rfl, rfl⟩, ⟨rfl, rfl, rfl, rfl⟩, rfl, rfl, rfl, rfl, rfl⟩, by unfold psC; unfold lfC; rw [show s.toNat = i_2 by omega]; exact Or.inr ⟨by omega, Or.inr ⟨by omega, hbR, by omega, Or.inr (Or.inl ⟨by omega, h_65.2⟩)⟩⟩⟩ | exact ⟨hCI, (by first | exact cs_refl | exact (fun r hr => ⟨if_neg (by omega), if_neg (by omega), if_neg (by omega)⟩)), (by first | exact hs_refl | exact (fun _ _ => rfl)), (by first | exact ss_refl | exact ⟨rfl, fun _ _ => rfl⟩), ⟨⟨(by first | rfl | exact if_neg (by omega) | exact (if_neg (by omega)).trans (if_neg (by omega))), (by first | rfl | exact if_neg (by omega) | exact (if_neg (by omega)).trans (if_neg (by omega))), (by first | rfl | exact if_neg (by omega) | exact (if_neg (by omega)).trans (if_neg (by omega)))⟩, ⟨rfl, rfl, rfl, rfl, rfl⟩, ⟨rfl, rfl, rfl, rfl⟩, rfl, rfl, rfl, rfl, rfl⟩, by unfold psC; unfold lfC; rw [show s.toNat = i_2 by omega]; exact Or.inr ⟨by omega, Or.inr ⟨by omega, hbR, by omega, Or.inr (Or.inr ⟨by omega, h_75.2⟩)⟩⟩⟩)⟩, by show va_P D.1 j_cl (cW D q (sY (sX (sV (sV (sL (sC u 10 n_41) 6 se_41) 25 v25_41) 26 v26_41) 10 f_41) 10 g_41)) t0.heap; rw [ht]; first | exact hP | (simp only [sC_id, sX_id, sY_id, sH_id, sT_id, sV_id]; exact hP)⟩, hS.F ht⟩) hS.2.2 dX11_pieces_78 hlk
            · skip
              refine lv_aload_n SS.1 SS.2.1 dX11_pieces_61 rfl (lv_at hl 1 rfl) ?_
              refine j_get SS hG hP 0 (v := .ref (q 7)) (C := RX11) (T := TX11) (N := 8) rfl rfl inX11 6 (by decide) (ref := "GridPolygons") kw_391 rfl rfl dX11_pieces_62 ?_
              refine j_vRi SS (As := []) (rest := []) (c_X1_seen3 l D q (sY (sX (sV (sV (sL (sC u 10 n_41) 6 se_41) 25 v25_41) 26 v26_41) 10 f_41) 10 g_41)   (show 0 ≤ v25_41 ∧ v25_41 ≤ 80 from (by omega))) mf_X1_seen kw_1022 hG hP hP (ci := 1) (q0 := 7) rfl rfl rfl rfl hl.1 ⟨⟨Nat.le_of_ble_eq_true rfl, Nat.le_of_ble_eq_true rfl⟩, Nat.le_of_ble_eq_true rfl, Nat.le_refl _, Nat.le_refl _⟩ rfl dX11_pieces_65 (fun z_65 h_65 => ?_)
              have h_65 : (0 ≤ z_65 ∧ z_65 ≤ 64) ∧ z_65 = ((pc9 (nx9 (or9 (se_41) (v25_41).toNat)) : Nat) : Int) := h_65
              refine lv_goto (tgt := 78) SS.1 SS.2.1 dX11_pieces_68 (by decide) ?_
              exact W.iret SS.1 SS.2.1 hr (fun t0 ht hW => ⟨⟨_, (sY (sX (sV (sV (sL (sC u 10 n_41) 6 se_41) 25 v25_41) 26 v26_41) 10 f_41) 10 g_41), rfl, ⟨z_65, rfl, (by first | exact ⟨hCI, (by first | exact cs_refl | exact (fun r hr => ⟨if_neg (by omega), if_neg (by omega), if_neg (by omega)⟩)), (by first | exact hs_refl | exact (fun _ _ => rfl)), (by first | exact ss_refl | exact ⟨rfl, fun _ _ => rfl⟩), ⟨⟨(by first | rfl | exact if_neg (by omega) | exact (if_neg (by omega)).trans (if_neg (by omega))), (by first | rfl | exact if_neg (by omega) | exact (if_neg (by omega)).trans (if_neg (by omega))), (by first | rfl | exact if_neg (by omega) | exact (if_neg (by omega)).trans (if_neg (by omega)))⟩, ⟨rfl, rfl, rfl, rfl, rfl⟩, ⟨rfl, rfl, rfl, rfl⟩, rfl, rfl, rfl, rfl, rfl⟩, by unfold psC; unfold lfC; rw [show s.toNat = i_2 by omega]; exact Or.inr ⟨by omega, Or.inr ⟨by omega, hbR, by omega, Or.inr (Or.inl ⟨by omega, h_65.2⟩)⟩⟩⟩ | exact ⟨hCI, (by first | exact cs_refl | exact (fun r hr => ⟨if_neg (by omega), if_neg (by omega), if_neg (by omega)⟩)), (by first | exact hs_refl | exact (fun _ _ => rfl)), (by first | exact ss_refl | exact ⟨rfl, fun _ _ => rfl⟩), ⟨⟨(by first | rfl | exact if_neg (by omega) | exact (if_neg (by omega)).trans (if_neg (by omega))), (by first | rfl | exact if_neg (by omega) | exact (if_neg (by omega)).trans (if_neg (by omega))), (by first | rfl | exact if_neg (by omega) | exact (if_neg (by omega)).trans (if_neg (by omega)))⟩, ⟨rfl, rfl, rfl, rfl, rfl⟩, ⟨rfl, rfl, rfl, rfl⟩, rfl, rfl, rfl, rfl, rfl⟩, by unfold psC; unfold lfC; rw [show s.toNat = i_2 by omega]; exact Or.inr ⟨by omega, Or.inr ⟨by omega, hbR, by omega, Or.inr (Or.inr ⟨by omega, h_75.2⟩)⟩⟩⟩)⟩, by show va_P D.1 j_cl (cW D q (sY (sX (sV (sV (sL (sC u 10 n_41) 6 se_41) 25 v25_41) 26 v26_41) 10 f_41) 10 g_41)) t0.heap; rw [ht]; first | exact hP | (simp only [sC_id, sX_id, sY_id, sH_id, sT_id, sV_id]; exact hP)⟩, hS.F ht⟩) hS.2.2 dX11_pieces_78 hlk
          · skip
            refine lv_aload_n SS.1 SS.2.1 dX11_pieces_48 rfl (lv_at hl 1 rfl) ?_
            refine j_get SS hG hP 0 (v := .ref (q 7)) (C := RX11) (T := TX11) (N := 8) rfl rfl inX11 6 (by decide) (ref := "GridPolygons") kw_391 rfl rfl dX11_pieces_49 ?_
            refine j_get SS hG hP 7 (v := .int (J v25_41)) (C := RX1) (T := TX1) (N := 4) rfl rfl inX1 2 (by decide) (ref := "GridPolygons$Coarse") kw_374 rfl rfl dX11_pieces_52 ?_
            exact W.iret SS.1 SS.2.1 hr (fun t0 ht hW => ⟨⟨_, (sY (sX (sV (sV (sL (sC u 10 n_41) 6 se_41) 25 v25_41) 26 v26_41) 10 f_41) 10 g_41), rfl, ⟨v25_41, rfl, (⟨hCI, (by first | exact cs_refl | exact (fun r hr => ⟨if_neg (by omega), if_neg (by omega), if_neg (by omega)⟩)), (by first | exact hs_refl | exact (fun _ _ => rfl)), (by first | exact ss_refl | exact ⟨rfl, fun _ _ => rfl⟩), ⟨⟨(by first | rfl | exact if_neg (by omega) | exact (if_neg (by omega)).trans (if_neg (by omega))), (by first | rfl | exact if_neg (by omega) | exact (if_neg (by omega)).trans (if_neg (by omega))), (by first | rfl | exact if_neg (by omega) | exact (if_neg (by omega)).trans (if_neg (by omega)))⟩, ⟨rfl, rfl, rfl, rfl, rfl⟩, ⟨rfl, rfl, rfl, rfl⟩, rfl, rfl, rfl, rfl, rfl⟩, by unfold psC; unfold lfC; rw [show s.toNat = i_2 by omega]; exact Or.inr ⟨by omega, Or.inr ⟨by omega, hbR, by omega, Or.inl ⟨by omega, rfl⟩⟩⟩⟩)⟩, by show va_P D.1 j_cl (cW D q (sY (sX (sV (sV (sL (sC u 10 n_41) 6 se_41) 25 v25_41) 26 v26_41) 10 f_41) 10 g_41)) t0.heap; rw [ht]; first | exact hP | (simp only [sC_id, sX_id, sY_id, sH_id, sT_id, sV_id]; exact hP)⟩, hS.F ht⟩) hS.2.2 dX11_pieces_55 hlk
        · skip
          refine j_bipush SS dX11_pieces_33 (by decide +kernel) ?_
          exact W.iret SS.1 SS.2.1 hr (fun t0 ht hW => ⟨⟨_, u, rfl, ⟨(-2), rfl, (⟨p0, (by first | exact cs_refl | exact (fun r hr => ⟨if_neg (by omega), if_neg (by omega), if_neg (by omega)⟩)), (by first | exact hs_refl | exact (fun _ _ => rfl)), (by first | exact ss_refl | exact ⟨rfl, fun _ _ => rfl⟩), ⟨⟨(by first | rfl | exact if_neg (by omega) | exact (if_neg (by omega)).trans (if_neg (by omega))), (by first | rfl | exact if_neg (by omega) | exact (if_neg (by omega)).trans (if_neg (by omega))), (by first | rfl | exact if_neg (by omega) | exact (if_neg (by omega)).trans (if_neg (by omega)))⟩, ⟨rfl, rfl, rfl, rfl, rfl⟩, ⟨rfl, rfl, rfl, rfl⟩, rfl, rfl, rfl, rfl, rfl⟩, by unfold psC; unfold lfC; rw [show s.toNat = i_2 by omega]; exact Or.inr ⟨by omega, Or.inl ⟨by omega, rfl, kCo_r⟩⟩⟩)⟩, by show va_P D.1 j_cl (cW D q u) t0.heap; rw [ht]; first | exact hP | (simp only [sC_id, sX_id, sY_id, sH_id, sT_id, sV_id]; exact hP)⟩, hS.F ht⟩) hS.2.2 dX11_pieces_35 hlk
      · skip
        refine j_iconst SS dX11_pieces_19 ?_
        exact W.iret SS.1 SS.2.1 hr (fun t0 ht hW => ⟨⟨_, u, rfl, ⟨(-1), rfl, (⟨p0, (by first | exact cs_refl | exact (fun r hr => ⟨if_neg (by omega), if_neg (by omega), if_neg (by omega)⟩)), (by first | exact hs_refl | exact (fun _ _ => rfl)), (by first | exact ss_refl | exact ⟨rfl, fun _ _ => rfl⟩), ⟨⟨(by first | rfl | exact if_neg (by omega) | exact (if_neg (by omega)).trans (if_neg (by omega))), (by first | rfl | exact if_neg (by omega) | exact (if_neg (by omega)).trans (if_neg (by omega))), (by first | rfl | exact if_neg (by omega) | exact (if_neg (by omega)).trans (if_neg (by omega)))⟩, ⟨rfl, rfl, rfl, rfl, rfl⟩, ⟨rfl, rfl, rfl, rfl⟩, rfl, rfl, rfl, rfl, rfl⟩, Or.inl ⟨by omega, rfl, kCo_r⟩⟩)⟩, by show va_P D.1 j_cl (cW D q u) t0.heap; rw [ht]; first | exact hP | (simp only [sC_id, sX_id, sY_id, sH_id, sT_id, sV_id]; exact hP)⟩, hS.F ht⟩) hS.2.2 dX11_pieces_20 hlk
  · skip
    refine lv_astore_nN (lv' := [(3, .null), (0, .ref (q 0)), (1, .int (J s)), (2, .int (J what))]) SS.1 SS.2.1 dX11_pieces_5 rfl hl (by decide) rfl (fun ls hl => ?_)
    refine lv_aload_nN SS.1 SS.2.1 dX11_pieces_6 rfl (lv_at hl 0 rfl) ?_
    refine lv_ifnullN SS.1 SS.2.1 (tgt := 19) dX11_pieces_7 (by decide) ?_
    refine j_iconst SS dX11_pieces_19 ?_
    exact W.iret SS.1 SS.2.1 hr (fun t0 ht hW => ⟨⟨_, u, rfl, ⟨(-1), rfl, (⟨p0, (by first | exact cs_refl | exact (fun r hr => ⟨if_neg (by omega), if_neg (by omega), if_neg (by omega)⟩)), (by first | exact hs_refl | exact (fun _ _ => rfl)), (by first | exact ss_refl | exact ⟨rfl, fun _ _ => rfl⟩), ⟨⟨(by first | rfl | exact if_neg (by omega) | exact (if_neg (by omega)).trans (if_neg (by omega))), (by first | rfl | exact if_neg (by omega) | exact (if_neg (by omega)).trans (if_neg (by omega))), (by first | rfl | exact if_neg (by omega) | exact (if_neg (by omega)).trans (if_neg (by omega)))⟩, ⟨rfl, rfl, rfl, rfl, rfl⟩, ⟨rfl, rfl, rfl, rfl⟩, rfl, rfl, rfl, rfl, rfl⟩, Or.inl ⟨by omega, rfl, kCo_r⟩⟩)⟩, by show va_P D.1 j_cl (cW D q u) t0.heap; rw [ht]; first | exact hP | (simp only [sC_id, sX_id, sY_id, sH_id, sT_id, sV_id]; exact hP)⟩, hS.F ht⟩) hS.2.2 dX11_pieces_20 hlk

set_option maxHeartbeats 4000000 in
set_option maxRecDepth 100000 in
theorem c_X11_piece3 (l : Launch) (D : JD) (q : Nat → Nat) (u : CS) (A : Nat → Prop) (hD : va_D A (cW D q u)) (s : Int) (pp9 : Int) (i : Int) (p0 : CI u) (p1 : -2147483648 ≤ s ∧ s ≤ 2147483647) (p2 : -2147483648 ≤ pp9 ∧ pp9 ≤ 2147483647) (p3 : -2147483648 ≤ i ∧ i ≤ 2147483647) : Met l yX11_piece (jw yX11_piece cX11_piece 5 (some .int)) (jr 7 149) (jP [.ref (q 0), .int (J s), .int (J pp9), .int (J i)] D (fun H => va_P D.1 j_cl (cW D q u) H)) (jWi (fun z u' => CI u' ∧ cSame u u' ∧ hSam u u' ∧ sSam u u' ∧ kCu u u' ∧ pcC u u' s pp9 i z) (fun u' H => va_P D.1 j_cl (cW D q u') H) A) 0 0 A := by
  refine Met.ofW (cc := cX11_piece) (maxL := 5) (ret := (some .int)) (by decide) rfl ?_
  intro pr en st mi args below meth co s₁ B hml hv
  obtain ⟨rfl, hG, hP⟩ := hv
  have hr := B.returns
  have hlk := B.notSynchronized
  have SS : jS pr mi co cX11_piece 5 st _ RX11 := ⟨B.exec, B.bytes, hml, findClass_of_methodNamed B.named, fun w hw => atoms_spec (ws := (jw yX11_piece cX11_piece 5 (some .int))) B.pre w (List.mem_cons_of_mem _ hw)⟩
  have hl := lv_entry ([.ref (q 0), .int (J s), .int (J pp9), .int (J i)]) (n := 5) (Nat.le_of_ble_eq_true rfl)
  rw [lg_entry_eq]
  generalize (lg_sl ([.ref (q 0), .int (J s), .int (J pp9), .int (J i)]) ++ List.replicate (5 - (lg_sl ([.ref (q 0), .int (J s), .int (J pp9), .int (J i)])).length) Slot.unset).toArray = ls at hl ⊢
  have hl : lv_has ls 5 [(0, .ref (q 0)), (1, .int (J s)), (2, .int (J pp9)), (3, .int (J i))] := hl
  have hS : va_S A st.heap st.heap [] := va_S.rf
  refine lv_aload_n SS.1 SS.2.1 dX11_piece_0 rfl (lv_at hl 0 rfl) ?_
  refine lv_iload_n SS.1 SS.2.1 dX11_piece_1 rfl (lv_at hl 1 rfl) ?_
  refine j_vSh SS (As := [.int (J s)]) (rest := []) (c_X11_shapeAt l D q u  s (show -2147483648 ≤ s ∧ s ≤ 2147483647 from (p1))) mf_X11_shapeAt kw_414 hG hP hP (ci := 11) (q0 := 0) rfl rfl rfl rfl hl.1 ⟨⟨Nat.le_of_ble_eq_true rfl, Nat.le_of_ble_eq_true rfl⟩, Nat.le_of_ble_eq_true rfl, Nat.le_refl _, Nat.le_refl _⟩ rfl dX11_piece_2 (fun i_2 hi_2 hz_2 => ?_) (fun hn_2 => ?_)
  · skip
    have hI2 := CI_s p0 (show i_2 < 8 by omega)
    have hI2c := hI2.1
    have hrl2 := rl_s (show i_2 < 8 by omega)
    refine lv_astore (lv' := [(4, .ref (q (8 + 5 * i_2))), (0, .ref (q 0)), (1, .int (J s)), (2, .int (J pp9)), (3, .int (J i))]) SS.1 SS.2.1 dX11_piece_5 hl (by decide) rfl (fun ls hl => ?_)
    refine lv_aload SS.1 SS.2.1 dX11_piece_7 (lv_at hl 0 rfl) ?_
    refine lv_ifnull SS.1 SS.2.1 dX11_piece_9 ?_
    refine lv_iload_n SS.1 SS.2.1 dX11_piece_12 rfl (lv_at hl 3 rfl) ?_
    refine j_if_lt SS (tgt := 21) (x := pp9) dX11_piece_13 (by decide) (by omega) (fun c_13 => ?_) (fun c_13 => ?_)
    · skip
      refine j_iconst SS dX11_piece_21 ?_
      exact W.iret SS.1 SS.2.1 hr (fun t0 ht hW => ⟨⟨_, u, rfl, ⟨(-1), rfl, (⟨p0, (by first | exact cs_refl | exact (fun r hr => ⟨if_neg (by omega), if_neg (by omega), if_neg (by omega)⟩)), (by first | exact hs_refl | exact (fun _ _ => rfl)), (by first | exact ss_refl | exact ⟨rfl, fun _ _ => rfl⟩), ⟨⟨(by first | rfl | exact if_neg (by omega) | exact (if_neg (by omega)).trans (if_neg (by omega))), (by first | rfl | exact if_neg (by omega) | exact (if_neg (by omega)).trans (if_neg (by omega))), (by first | rfl | exact if_neg (by omega) | exact (if_neg (by omega)).trans (if_neg (by omega)))⟩, ⟨rfl, rfl, rfl, rfl, rfl⟩, ⟨rfl, rfl, rfl, rfl⟩, rfl, rfl, rfl, rfl, rfl⟩, Or.inl ⟨by omega, rfl, kCo_r⟩⟩)⟩, by show va_P D.1 j_cl (cW D q u) t0.heap; rw [ht]; first | exact hP | (simp only [sC_id, sX_id, sY_id, sH_id, sT_id, sV_id]; exact hP)⟩, hS.F ht⟩) hS.2.2 dX11_piece_22 hlk
    · skip
      refine lv_iload_n SS.1 SS.2.1 dX11_piece_16 rfl (lv_at hl 4 rfl) ?_
      refine j_iconst SS dX11_piece_17 ?_
      refine j_icmp_ge SS (tgt := 23) (x := i) (y := (-1)) dX11_piece_18 (by decide) (by omega) (by decide) (fun c_18 => ?_) (fun c_18 => ?_)
      · skip
        refine lv_aload SS.1 SS.2.1 dX11_piece_23 (lv_at hl 0 rfl) ?_
        refine j_get SS hG hP (8 + 5 * i_2) (v := .ref (q (9 + 5 * i_2))) (C := RX10) (T := TX10) (N := 3) (cw_shape (by omega)) rfl inX10 0 (by decide) (ref := "GridPolygons$Shape") kw_151 rfl rfl dX11_piece_25 ?_
        refine j_bipush SS dX11_piece_28 (by decide +kernel) ?_
        refine j_sRi SS (As := [.ref (q (9 + 5 * i_2)), .int (J 40)]) (rest := []) (c_X11_hasAtMost3 l D q u i_2 (by omega) 40 (show RB 40 u i_2 from (CI_40 p0 (by omega))) (show -2147483648 ≤ (40 : Int) ∧ (40 : Int) ≤ 2147483647 from (by omega))) mf_X11_hasAtMost kw_859 hG hP rfl hl.1 ⟨⟨Nat.le_of_ble_eq_true rfl, Nat.le_of_ble_eq_true rfl⟩, Nat.le_of_ble_eq_true rfl, Nat.le_refl _, Nat.le_refl _⟩ rfl dX11_piece_30 (fun z_30 h_30 => ?_)
        have h_30 : (z_30 = 1 ∧ 3 ≤ (u.1.2.2.1 i_2) ∧ rE u i_2 + rI u i_2 ≤ (40 : Int)) ∨ (z_30 = 0 ∧ ¬ (3 ≤ (u.1.2.2.1 i_2) ∧ rE u i_2 + rI u i_2 ≤ (40 : Int))) := h_30
        refine j_if_ne SS (tgt := 39) (x := z_30) dX11_piece_33 (by decide) (by omega) (fun c_33 => ?_) (fun c_33 => ?_)
        · skip
          refine lv_aload_n SS.1 SS.2.1 dX11_piece_39 rfl (lv_at hl 1 rfl) ?_
          refine j_get SS hG hP 0 (v := .ref (q 7)) (C := RX11) (T := TX11) (N := 8) rfl rfl inX11 6 (by decide) (ref := "GridPolygons") kw_391 rfl rfl dX11_piece_40 ?_
          refine lv_aload SS.1 SS.2.1 dX11_piece_43 (lv_at hl 0 rfl) ?_
          refine j_vWv SS (As := [.ref (q (8 + 5 * i_2))]) (rest := []) (c_X1_build3 l D q u A (cW_D hD) i_2 (by omega)  (show RB 40 u i_2 from (CI_40 p0 (by omega))) (show RB 40 u 10 from (p0.2.1.2.2)) (show HB ((u.1.2.2.2.1 i_2)) from ((p0.1 i_2 (by omega)).2.1)) (show 0 ≤ (u.2.2.2 25) ∧ (u.2.2.2 25) ≤ 80 from (p0.2.2.2.2.2.2.2.1)) (show -2147483648 ≤ (u.2.2.2 26) ∧ (u.2.2.2 26) ≤ 2147483647 from (p0.2.2.2.2.2.2.2.2)) (show -2147483648 ≤ (u.1.2.2.2.2 i_2) ∧ (u.1.2.2.2.2 i_2) ≤ 2147483647 from ((p0.1 i_2 (by omega)).2.2)) (show 1 ≤ (u.1.2.2.1 i_2) from (by omega))) mf_X1_build kw_987 hG hP hP (ci := 1) (q0 := 7) rfl rfl rfl hS (fun _ h => h) rfl hl.1 ⟨⟨Nat.le_of_ble_eq_true rfl, Nat.le_of_ble_eq_true rfl⟩, Nat.le_of_ble_eq_true rfl, Nat.le_refl _, Nat.le_refl _⟩ rfl dX11_piece_45 (fun u45 H locs h_45 hP _ hS => ?_)
          obtain ⟨n_45, f_45, g_45, se_45, v25_45, v26_45, rfl, h_45⟩ := h_45
          have hP : va_P D.1 j_cl (cW D q (sY (sX (sV (sV (sL (sC u 10 n_45) 6 se_45) 25 v25_45) 26 v26_45) 10 f_45) 10 g_45)) H := hP
          have h_45 : (((0 ≤ n_45 ∧ n_45 ≤ 40) ∧ RV 40 f_45 g_45) ∧ (0 ≤ v25_45 ∧ v25_45 ≤ 80) ∧ -2147483648 ≤ v26_45 ∧ v26_45 ≤ 2147483647) ∧ (((u.2.2.2 26) = (u.1.2.2.2.2 i_2) ∧ n_45 = (u.1.2.2.1 10) ∧ f_45 = (u.1.1 10) ∧ g_45 = (u.1.2.1 10) ∧ se_45 = (u.2.2.1 6) ∧ v25_45 = (u.2.2.2 25) ∧ v26_45 = (u.2.2.2 26)) ∨ (v26_45 = (u.1.2.2.2.2 i_2) ∧ (FT9 u i_2 40 → LC9 (inC u i_2) ((u.1.2.2.2.1 i_2)) n_45 f_45 g_45 v25_45 se_45))) := h_45
          have hCI : CI (sY (sX (sV (sV (sL (sC u 10 n_45) 6 se_45) 25 v25_45) 26 v26_45) 10 f_45) 10 g_45) := CI_co p0 h_45.1
          have hR10 := hCI.2.1.2.2
          have hbR : bR9 u (sY (sX (sV (sV (sL (sC u 10 n_45) 6 se_45) 25 v25_45) 26 v26_45) 10 f_45) 10 g_45) i_2 := by rcases h_45.2 with ⟨q0, q1, q2, q3, q4, q5, q6⟩ | ⟨q0, q1⟩; exact Or.inl ⟨q0, ⟨q1, q2, q3⟩, q4, q5, q6⟩; exact Or.inr ⟨q0, q1⟩
          refine lv_iload_n SS.1 SS.2.1 dX11_piece_48 rfl (lv_at hl 3 rfl) ?_
          refine lv_aload_n SS.1 SS.2.1 dX11_piece_49 rfl (lv_at hl 1 rfl) ?_
          refine j_get SS hG hP 0 (v := .ref (q 7)) (C := RX11) (T := TX11) (N := 8) rfl rfl inX11 6 (by decide) (ref := "GridPolygons") kw_391 rfl rfl dX11_piece_50 ?_
          refine j_get SS hG hP 7 (v := .int (J v25_45)) (C := RX1) (T := TX1) (N := 4) rfl rfl inX1 2 (by decide) (ref := "GridPolygons$Coarse") kw_374 rfl rfl dX11_piece_53 ?_
          refine j_icmp_ge SS (tgt := 71) (x := pp9) (y := v25_45) dX11_piece_56 (by decide) (by omega) (by omega) (fun c_56 => ?_) (fun c_56 => ?_)
          · skip
            refine j_iconst SS dX11_piece_71 ?_
            exact W.iret SS.1 SS.2.1 hr (fun t0 ht hW => ⟨⟨_, (sY (sX (sV (sV (sL (sC u 10 n_45) 6 se_45) 25 v25_45) 26 v26_45) 10 f_45) 10 g_45), rfl, ⟨(-1), rfl, (by first | exact ⟨hCI, (by first | exact cs_refl | exact (fun r hr => ⟨if_neg (by omega), if_neg (by omega), if_neg (by omega)⟩)), (by first | exact hs_refl | exact (fun _ _ => rfl)), (by first | exact ss_refl | exact ⟨rfl, fun _ _ => rfl⟩), ⟨⟨(by first | rfl | exact if_neg (by omega) | exact (if_neg (by omega)).trans (if_neg (by omega))), (by first | rfl | exact if_neg (by omega) | exact (if_neg (by omega)).trans (if_neg (by omega))), (by first | rfl | exact if_neg (by omega) | exact (if_neg (by omega)).trans (if_neg (by omega)))⟩, ⟨rfl, rfl, rfl, rfl, rfl⟩, ⟨rfl, rfl, rfl, rfl⟩, rfl, rfl, rfl, rfl, rfl⟩, by unfold pcC; unfold lfC; rw [show s.toNat = i_2 by omega]; exact Or.inr ⟨by omega, Or.inr ⟨by omega, hbR, by omega, Or.inl ⟨(show v25_45 ≤ pp9 by omega), rfl⟩⟩⟩⟩ | exact ⟨hCI, (by first | exact cs_refl | exact (fun r hr => ⟨if_neg (by omega), if_neg (by omega), if_neg (by omega)⟩)), (by first | exact hs_refl | exact (fun _ _ => rfl)), (by first | exact ss_refl | exact ⟨rfl, fun _ _ => rfl⟩), ⟨⟨(by first | rfl | exact if_neg (by omega) | exact (if_neg (by omega)).trans (if_neg (by omega))), (by first | rfl | exact if_neg (by omega) | exact (if_neg (by omega)).trans (if_neg (by omega))), (by first | rfl | exact if_neg (by omega) | exact (if_neg (by omega)).trans (if_neg (by omega)))⟩, ⟨rfl, rfl, rfl, rfl, rfl⟩, ⟨rfl, rfl, rfl, rfl⟩, rfl, rfl, rfl, rfl, rfl⟩, by unfold pcC; unfold lfC; rw [show s.toNat = i_2 by omega]; exact Or.inr ⟨by omega, Or.inr ⟨by omega, hbR, by omega, Or.inr ⟨(show pp9 < v25_45 by omega), by have q9 := h_65.2 (by omega) (by omega); by_cases e9 : 0 ≤ i; exact Or.inr (Or.inl ⟨e9, (show ((pc9 (nx9 (se_45 pp9.toNat)) : Nat) : Int) ≤ i by rw [← q9]; omega), rfl⟩); (exfalso; omega)⟩⟩⟩⟩)⟩, by show va_P D.1 j_cl (cW D q (sY (sX (sV (sV (sL (sC u 10 n_45) 6 se_45) 25 v25_45) 26 v26_45) 10 f_45) 10 g_45)) t0.heap; rw [ht]; first | exact hP | (simp only [sC_id, sX_id, sY_id, sH_id, sT_id, sV_id]; exact hP)⟩, hS.F ht⟩) hS.2.2 dX11_piece_72 hlk
          · skip
            refine lv_iload_n SS.1 SS.2.1 dX11_piece_59 rfl (lv_at hl 4 rfl) ?_
            refine lv_aload_n SS.1 SS.2.1 dX11_piece_60 rfl (lv_at hl 1 rfl) ?_
            refine j_get SS hG hP 0 (v := .ref (q 7)) (C := RX11) (T := TX11) (N := 8) rfl rfl inX11 6 (by decide) (ref := "GridPolygons") kw_391 rfl rfl dX11_piece_61 ?_
            refine lv_iload_n SS.1 SS.2.1 dX11_piece_64 rfl (lv_at hl 3 rfl) ?_
            refine j_vRi SS (As := [.int (J pp9)]) (rest := [.int (J i)]) (c_X1_sizeOf3 l D q (sY (sX (sV (sV (sL (sC u 10 n_45) 6 se_45) 25 v25_45) 26 v26_45) 10 f_45) 10 g_45)  pp9 (show -2147483648 ≤ pp9 ∧ pp9 ≤ 2147483647 from (by omega))) mf_X1_sizeOf kw_1049 hG hP hP (ci := 1) (q0 := 7) rfl rfl rfl rfl hl.1 ⟨⟨Nat.le_of_ble_eq_true rfl, Nat.le_of_ble_eq_true rfl⟩, Nat.le_of_ble_eq_true rfl, Nat.le_refl _, Nat.le_refl _⟩ rfl dX11_piece_65 (fun z_65 h_65 => ?_)
            have h_65 : (0 ≤ z_65 ∧ z_65 ≤ 64) ∧ (0 ≤ pp9 → pp9 < 80 → z_65 = ((pc9 (nx9 (se_45 pp9.toNat)) : Nat) : Int)) := h_65
            refine j_icmp_lt SS (tgt := 73) (x := i) (y := z_65) dX11_piece_68 (by decide) (by omega) (by omega) (fun c_68 => ?_) (fun c_68 => ?_)
            · skip
              refine lv_iload_n SS.1 SS.2.1 dX11_piece_73 rfl (lv_at hl 4 rfl) ?_
              refine j_iconst SS dX11_piece_74 ?_
              refine j_icmp_ne SS (tgt := 89) (x := i) (y := (-1)) dX11_piece_75 (by decide) (by omega) (by decide) (fun c_75 => ?_) (fun c_75 => ?_)
              · skip
                refine lv_aload_n SS.1 SS.2.1 dX11_piece_89 rfl (lv_at hl 1 rfl) ?_
                refine j_get SS hG hP 0 (v := .ref (q 7)) (C := RX11) (T := TX11) (N := 8) rfl rfl inX11 6 (by decide) (ref := "GridPolygons") kw_391 rfl rfl dX11_piece_90 ?_
                refine lv_iload_n SS.1 SS.2.1 dX11_piece_93 rfl (lv_at hl 3 rfl) ?_
                refine lv_iload_n SS.1 SS.2.1 dX11_piece_94 rfl (lv_at hl 4 rfl) ?_
                refine j_vRi SS (As := [.int (J pp9), .int (J i)]) (rest := []) (c_X1_memberOf3 l D q (sY (sX (sV (sV (sL (sC u 10 n_45) 6 se_45) 25 v25_45) 26 v26_45) 10 f_45) 10 g_45)  pp9 i (show RB 40 (sY (sX (sV (sV (sL (sC u 10 n_45) 6 se_45) 25 v25_45) 26 v26_45) 10 f_45) 10 g_45) 10 from (hR10)) (show 0 ≤ pp9 ∧ pp9 < 80 from (by omega)) (show 0 ≤ i ∧ i ≤ 2147483647 from (by omega))) mf_X1_memberOf kw_1050 hG hP hP (ci := 1) (q0 := 7) rfl rfl rfl rfl hl.1 ⟨⟨Nat.le_of_ble_eq_true rfl, Nat.le_of_ble_eq_true rfl⟩, Nat.le_of_ble_eq_true rfl, Nat.le_refl _, Nat.le_refl _⟩ rfl dX11_piece_95 (fun z_95 h_95 => ?_)
                have h_95 : (-1 ≤ z_95 ∧ z_95 ≤ 39) ∧ MB9 (se_45 pp9.toNat) (n_45) i z_95 := h_95
                exact W.iret SS.1 SS.2.1 hr (fun t0 ht hW => ⟨⟨_, (sY (sX (sV (sV (sL (sC u 10 n_45) 6 se_45) 25 v25_45) 26 v26_45) 10 f_45) 10 g_45), rfl, ⟨z_95, rfl, (by first | exact ⟨hCI, (by first | exact cs_refl | exact (fun r hr => ⟨if_neg (by omega), if_neg (by omega), if_neg (by omega)⟩)), (by first | exact hs_refl | exact (fun _ _ => rfl)), (by first | exact ss_refl | exact ⟨rfl, fun _ _ => rfl⟩), ⟨⟨(by first | rfl | exact if_neg (by omega) | exact (if_neg (by omega)).trans (if_neg (by omega))), (by first | rfl | exact if_neg (by omega) | exact (if_neg (by omega)).trans (if_neg (by omega))), (by first | rfl | exact if_neg (by omega) | exact (if_neg (by omega)).trans (if_neg (by omega)))⟩, ⟨rfl, rfl, rfl, rfl, rfl⟩, ⟨rfl, rfl, rfl, rfl⟩, rfl, rfl, rfl, rfl, rfl⟩, by unfold pcC; unfold lfC; rw [show s.toNat = i_2 by omega]; exact Or.inr ⟨by omega, Or.inr ⟨by omega, hbR, by omega, Or.inr ⟨(show pp9 < v25_45 by omega), Or.inl ⟨by omega, h_83.2 (by omega) (by omega)⟩⟩⟩⟩⟩ | exact ⟨hCI, (by first | exact cs_refl | exact (fun r hr => ⟨if_neg (by omega), if_neg (by omega), if_neg (by omega)⟩)), (by first | exact hs_refl | exact (fun _ _ => rfl)), (by first | exact ss_refl | exact ⟨rfl, fun _ _ => rfl⟩), ⟨⟨(by first | rfl | exact if_neg (by omega) | exact (if_neg (by omega)).trans (if_neg (by omega))), (by first | rfl | exact if_neg (by omega) | exact (if_neg (by omega)).trans (if_neg (by omega))), (by first | rfl | exact if_neg (by omega) | exact (if_neg (by omega)).trans (if_neg (by omega)))⟩, ⟨rfl, rfl, rfl, rfl, rfl⟩, ⟨rfl, rfl, rfl, rfl⟩, rfl, rfl, rfl, rfl, rfl⟩, by unfold pcC; unfold lfC; rw [show s.toNat = i_2 by omega]; exact Or.inr ⟨by omega, Or.inr ⟨by omega, hbR, by omega, Or.inr ⟨(show pp9 < v25_45 by omega), Or.inr (Or.inr ⟨by omega, h_95.2⟩)⟩⟩⟩⟩)⟩, by show va_P D.1 j_cl (cW D q (sY (sX (sV (sV (sL (sC u 10 n_45) 6 se_45) 25 v25_45) 26 v26_45) 10 f_45) 10 g_45)) t0.heap; rw [ht]; first | exact hP | (simp only [sC_id, sX_id, sY_id, sH_id, sT_id, sV_id]; exact hP)⟩, hS.F ht⟩) hS.2.2 dX11_piece_98 hlk
              · skip
                refine lv_aload_n SS.1 SS.2.1 dX11_piece_78 rfl (lv_at hl 1 rfl) ?_
                refine j_get SS hG hP 0 (v := .ref (q 7)) (C := RX11) (T := TX11) (N := 8) rfl rfl inX11 6 (by decide) (ref := "GridPolygons") kw_391 rfl rfl dX11_piece_79 ?_
                refine lv_iload_n SS.1 SS.2.1 dX11_piece_82 rfl (lv_at hl 3 rfl) ?_
                refine j_vRi SS (As := [.int (J pp9)]) (rest := []) (c_X1_sizeOf3 l D q (sY (sX (sV (sV (sL (sC u 10 n_45) 6 se_45) 25 v25_45) 26 v26_45) 10 f_45) 10 g_45)  pp9 (show -2147483648 ≤ pp9 ∧ pp9 ≤ 2147483647 from (by omega))) mf_X1_sizeOf kw_1049 hG hP hP (ci := 1) (q0 := 7) rfl rfl rfl rfl hl.1 ⟨⟨Nat.le_of_ble_eq_true rfl, Nat.le_of_ble_eq_true rfl⟩, Nat.le_of_ble_eq_true rfl, Nat.le_refl _, Nat.le_refl _⟩ rfl dX11_piece_83 (fun z_83 h_83 => ?_)
                have h_83 : (0 ≤ z_83 ∧ z_83 ≤ 64) ∧ (0 ≤ pp9 → pp9 < 80 → z_83 = ((pc9 (nx9 (se_45 pp9.toNat)) : Nat) : Int)) := h_83
                refine lv_goto (tgt := 98) SS.1 SS.2.1 dX11_piece_86 (by decide) ?_
                exact W.iret SS.1 SS.2.1 hr (fun t0 ht hW => ⟨⟨_, (sY (sX (sV (sV (sL (sC u 10 n_45) 6 se_45) 25 v25_45) 26 v26_45) 10 f_45) 10 g_45), rfl, ⟨z_83, rfl, (by first | exact ⟨hCI, (by first | exact cs_refl | exact (fun r hr => ⟨if_neg (by omega), if_neg (by omega), if_neg (by omega)⟩)), (by first | exact hs_refl | exact (fun _ _ => rfl)), (by first | exact ss_refl | exact ⟨rfl, fun _ _ => rfl⟩), ⟨⟨(by first | rfl | exact if_neg (by omega) | exact (if_neg (by omega)).trans (if_neg (by omega))), (by first | rfl | exact if_neg (by omega) | exact (if_neg (by omega)).trans (if_neg (by omega))), (by first | rfl | exact if_neg (by omega) | exact (if_neg (by omega)).trans (if_neg (by omega)))⟩, ⟨rfl, rfl, rfl, rfl, rfl⟩, ⟨rfl, rfl, rfl, rfl⟩, rfl, rfl, rfl, rfl, rfl⟩, by unfold pcC; unfold lfC; rw [show s.toNat = i_2 by omega]; exact Or.inr ⟨by omega, Or.inr ⟨by omega, hbR, by omega, Or.inr ⟨(show pp9 < v25_45 by omega), Or.inl ⟨by omega, h_83.2 (by omega) (by omega)⟩⟩⟩⟩⟩ | exact ⟨hCI, (by first | exact cs_refl | exact (fun r hr => ⟨if_neg (by omega), if_neg (by omega), if_neg (by omega)⟩)), (by first | exact hs_refl | exact (fun _ _ => rfl)), (by first | exact ss_refl | exact ⟨rfl, fun _ _ => rfl⟩), ⟨⟨(by first | rfl | exact if_neg (by omega) | exact (if_neg (by omega)).trans (if_neg (by omega))), (by first | rfl | exact if_neg (by omega) | exact (if_neg (by omega)).trans (if_neg (by omega))), (by first | rfl | exact if_neg (by omega) | exact (if_neg (by omega)).trans (if_neg (by omega)))⟩, ⟨rfl, rfl, rfl, rfl, rfl⟩, ⟨rfl, rfl, rfl, rfl⟩, rfl, rfl, rfl, rfl, rfl⟩, by unfold pcC; unfold lfC; rw [show s.toNat = i_2 by omega]; exact Or.inr ⟨by omega, Or.inr ⟨by omega, hbR, by omega, Or.inr ⟨(show pp9 < v25_45 by omega), Or.inr (Or.inr ⟨by omega, h_95.2⟩)⟩⟩⟩⟩)⟩, by show va_P D.1 j_cl (cW D q (sY (sX (sV (sV (sL (sC u 10 n_45) 6 se_45) 25 v25_45) 26 v26_45) 10 f_45) 10 g_45)) t0.heap; rw [ht]; first | exact hP | (simp only [sC_id, sX_id, sY_id, sH_id, sT_id, sV_id]; exact hP)⟩, hS.F ht⟩) hS.2.2 dX11_piece_98 hlk
            · skip
              refine j_iconst SS dX11_piece_71 ?_
              exact W.iret SS.1 SS.2.1 hr (fun t0 ht hW => ⟨⟨_, (sY (sX (sV (sV (sL (sC u 10 n_45) 6 se_45) 25 v25_45) 26 v26_45) 10 f_45) 10 g_45), rfl, ⟨(-1), rfl, (by first | exact ⟨hCI, (by first | exact cs_refl | exact (fun r hr => ⟨if_neg (by omega), if_neg (by omega), if_neg (by omega)⟩)), (by first | exact hs_refl | exact (fun _ _ => rfl)), (by first | exact ss_refl | exact ⟨rfl, fun _ _ => rfl⟩), ⟨⟨(by first | rfl | exact if_neg (by omega) | exact (if_neg (by omega)).trans (if_neg (by omega))), (by first | rfl | exact if_neg (by omega) | exact (if_neg (by omega)).trans (if_neg (by omega))), (by first | rfl | exact if_neg (by omega) | exact (if_neg (by omega)).trans (if_neg (by omega)))⟩, ⟨rfl, rfl, rfl, rfl, rfl⟩, ⟨rfl, rfl, rfl, rfl⟩, rfl, rfl, rfl, rfl, rfl⟩, by unfold pcC; unfold lfC; rw [show s.toNat = i_2 by omega]; exact Or.inr ⟨by omega, Or.inr ⟨by omega, hbR, by omega, Or.inl ⟨(show v25_45 ≤ pp9 by omega), rfl⟩⟩⟩⟩ | exact ⟨hCI, (by first | exact cs_refl | exact (fun r hr => ⟨if_neg (by omega), if_neg (by omega), if_neg (by omega)⟩)), (by first | exact hs_refl | exact (fun _ _ => rfl)), (by first | exact ss_refl | exact ⟨rfl, fun _ _ => rfl⟩), ⟨⟨(by first | rfl | exact if_neg (by omega) | exact (if_neg (by omega)).trans (if_neg (by omega))), (by first | rfl | exact if_neg (by omega) | exact (if_neg (by omega)).trans (if_neg (by omega))), (by first | rfl | exact if_neg (by omega) | exact (if_neg (by omega)).trans (if_neg (by omega)))⟩, ⟨rfl, rfl, rfl, rfl, rfl⟩, ⟨rfl, rfl, rfl, rfl⟩, rfl, rfl, rfl, rfl, rfl⟩, by unfold pcC; unfold lfC; rw [show s.toNat = i_2 by omega]; exact Or.inr ⟨by omega, Or.inr ⟨by omega, hbR, by omega, Or.inr ⟨(show pp9 < v25_45 by omega), by have q9 := h_65.2 (by omega) (by omega); by_cases e9 : 0 ≤ i; exact Or.inr (Or.inl ⟨e9, (show ((pc9 (nx9 (se_45 pp9.toNat)) : Nat) : Int) ≤ i by rw [← q9]; omega), rfl⟩); (exfalso; omega)⟩⟩⟩⟩)⟩, by show va_P D.1 j_cl (cW D q (sY (sX (sV (sV (sL (sC u 10 n_45) 6 se_45) 25 v25_45) 26 v26_45) 10 f_45) 10 g_45)) t0.heap; rw [ht]; first | exact hP | (simp only [sC_id, sX_id, sY_id, sH_id, sT_id, sV_id]; exact hP)⟩, hS.F ht⟩) hS.2.2 dX11_piece_72 hlk
        · skip
          refine j_bipush SS dX11_piece_36 (by decide +kernel) ?_
          exact W.iret SS.1 SS.2.1 hr (fun t0 ht hW => ⟨⟨_, u, rfl, ⟨(-2), rfl, (⟨p0, (by first | exact cs_refl | exact (fun r hr => ⟨if_neg (by omega), if_neg (by omega), if_neg (by omega)⟩)), (by first | exact hs_refl | exact (fun _ _ => rfl)), (by first | exact ss_refl | exact ⟨rfl, fun _ _ => rfl⟩), ⟨⟨(by first | rfl | exact if_neg (by omega) | exact (if_neg (by omega)).trans (if_neg (by omega))), (by first | rfl | exact if_neg (by omega) | exact (if_neg (by omega)).trans (if_neg (by omega))), (by first | rfl | exact if_neg (by omega) | exact (if_neg (by omega)).trans (if_neg (by omega)))⟩, ⟨rfl, rfl, rfl, rfl, rfl⟩, ⟨rfl, rfl, rfl, rfl⟩, rfl, rfl, rfl, rfl, rfl⟩, by unfold pcC; unfold lfC; rw [show s.toNat = i_2 by omega]; exact Or.inr ⟨by omega, Or.inl ⟨by omega, rfl, kCo_r⟩⟩⟩)⟩, by show va_P D.1 j_cl (cW D q u) t0.heap; rw [ht]; first | exact hP | (simp only [sC_id, sX_id, sY_id, sH_id, sT_id, sV_id]; exact hP)⟩, hS.F ht⟩) hS.2.2 dX11_piece_38 hlk
      · skip
        refine j_iconst SS dX11_piece_21 ?_
        exact W.iret SS.1 SS.2.1 hr (fun t0 ht hW => ⟨⟨_, u, rfl, ⟨(-1), rfl, (⟨p0, (by first | exact cs_refl | exact (fun r hr => ⟨if_neg (by omega), if_neg (by omega), if_neg (by omega)⟩)), (by first | exact hs_refl | exact (fun _ _ => rfl)), (by first | exact ss_refl | exact ⟨rfl, fun _ _ => rfl⟩), ⟨⟨(by first | rfl | exact if_neg (by omega) | exact (if_neg (by omega)).trans (if_neg (by omega))), (by first | rfl | exact if_neg (by omega) | exact (if_neg (by omega)).trans (if_neg (by omega))), (by first | rfl | exact if_neg (by omega) | exact (if_neg (by omega)).trans (if_neg (by omega)))⟩, ⟨rfl, rfl, rfl, rfl, rfl⟩, ⟨rfl, rfl, rfl, rfl⟩, rfl, rfl, rfl, rfl, rfl⟩, Or.inl ⟨by omega, rfl, kCo_r⟩⟩)⟩, by show va_P D.1 j_cl (cW D q u) t0.heap; rw [ht]; first | exact hP | (simp only [sC_id, sX_id, sY_id, sH_id, sT_id, sV_id]; exact hP)⟩, hS.F ht⟩) hS.2.2 dX11_piece_22 hlk
  · skip
    refine lv_astoreN (lv' := [(4, .null), (0, .ref (q 0)), (1, .int (J s)), (2, .int (J pp9)), (3, .int (J i))]) SS.1 SS.2.1 dX11_piece_5 hl (by decide) rfl (fun ls hl => ?_)
    refine lv_aloadN SS.1 SS.2.1 dX11_piece_7 (lv_at hl 0 rfl) ?_
    refine lv_ifnullN SS.1 SS.2.1 (tgt := 21) dX11_piece_9 (by decide) ?_
    refine j_iconst SS dX11_piece_21 ?_
    exact W.iret SS.1 SS.2.1 hr (fun t0 ht hW => ⟨⟨_, u, rfl, ⟨(-1), rfl, (⟨p0, (by first | exact cs_refl | exact (fun r hr => ⟨if_neg (by omega), if_neg (by omega), if_neg (by omega)⟩)), (by first | exact hs_refl | exact (fun _ _ => rfl)), (by first | exact ss_refl | exact ⟨rfl, fun _ _ => rfl⟩), ⟨⟨(by first | rfl | exact if_neg (by omega) | exact (if_neg (by omega)).trans (if_neg (by omega))), (by first | rfl | exact if_neg (by omega) | exact (if_neg (by omega)).trans (if_neg (by omega))), (by first | rfl | exact if_neg (by omega) | exact (if_neg (by omega)).trans (if_neg (by omega)))⟩, ⟨rfl, rfl, rfl, rfl, rfl⟩, ⟨rfl, rfl, rfl, rfl⟩, rfl, rfl, rfl, rfl, rfl⟩, Or.inl ⟨by omega, rfl, kCo_r⟩⟩)⟩, by show va_P D.1 j_cl (cW D q u) t0.heap; rw [ht]; first | exact hP | (simp only [sC_id, sX_id, sY_id, sH_id, sT_id, sV_id]; exact hP)⟩, hS.F ht⟩) hS.2.2 dX11_piece_22 hlk


/-! ===== segments: pairs of points with no other point on them, in order ===== -/
def SGP (X Y : Nat → Int) (n : Int) (a b : Int) : Prop := (0 ≤ a ∧ a < b ∧ b < n) ∧ ((Int.gcd (X b.toNat - X a.toNat) (Y b.toNat - Y a.toNat) : Nat) : Int) = 1
def tri9 : Nat → Nat
  | 0 => 0
  | n + 1 => tri9 n + n
theorem tri9_m {a : Nat} : ∀ k : Nat, tri9 a ≤ tri9 (a + k) := by
  intro k
  induction k with
  | zero => exact Nat.le_refl _
  | succ k ih =>
    have e : tri9 (a + (k + 1)) = tri9 (a + k) + (a + k) := rfl
    omega
theorem tri9_l {a b : Nat} (h : a < b) : tri9 a + a ≤ tri9 b := by
  have q := tri9_m (a := a + 1) (b - (a + 1))
  rw [show a + 1 + (b - (a + 1)) = b by omega] at q
  have e : tri9 (a + 1) = tri9 a + a := rfl
  omega
theorem tri9_i {a b a' b' : Nat} (h : a < b) (h' : a' < b') (e : tri9 b + a = tri9 b' + a') : a = a' ∧ b = b' := by
  rcases Nat.lt_trichotomy b b' with w | w | w
  · have := tri9_l w; omega
  · subst w; omega
  · have := tri9_l w; omega
/-- points of the same kind: both differences even, so a point between -/
def cl9 (X Y : Nat → Int) (p : Nat) : Nat := (X p % 2).toNat * 2 + (Y p % 2).toNat
theorem cl9_b {X Y : Nat → Int} {p : Nat} : cl9 X Y p < 4 := by unfold cl9; omega
theorem cl9_g {X Y : Nat → Int} {p q : Nat} (h : cl9 X Y p = cl9 X Y q) : ((Int.gcd (X q - X p) (Y q - Y p) : Nat) : Int) ≠ 1 := by
  unfold cl9 at h
  intro e
  have d1 : (2 : Int) ∣ X q - X p := by omega
  have d2 : (2 : Int) ∣ Y q - Y p := by omega
  have d : (2 : Int) ∣ ((Int.gcd (X q - X p) (Y q - Y p) : Nat) : Int) := Int.dvd_coe_gcd d1 d2
  omega
theorem par5 {X Y : Nat → Int} (g : Nat → Nat) : ∃ i j : Nat, i < j ∧ j < 5 ∧ cl9 X Y (g i) = cl9 X Y (g j) := by
  apply Classical.byContradiction
  intro w
  have := fb_holes 4 5 (fun i => cl9 X Y (g i)) (fun i _ => cl9_b) (fun i j hij hj e => w ⟨i, j, hij, hj, e⟩)
  omega
/-- three holes -/
def sq9 (t1 t2 t3 x : Nat) : Nat := x - ((if t1 < x then 1 else 0) + (if t2 < x then 1 else 0) + (if t3 < x then 1 else 0))
theorem sq9_b {t1 t2 t3 x : Nat} (h1 : t1 < 66) (h2 : t2 < 66) (h3 : t3 < 66) (n12 : t1 ≠ t2) (n13 : t1 ≠ t3) (n23 : t2 ≠ t3) (hx : x < 66) (x1 : x ≠ t1) (x2 : x ≠ t2) (x3 : x ≠ t3) : sq9 t1 t2 t3 x < 63 := by
  unfold sq9
  split <;> split <;> split <;> omega
theorem sq9_i {t1 t2 t3 x y : Nat} (n12 : t1 ≠ t2) (n13 : t1 ≠ t3) (n23 : t2 ≠ t3) (x1 : x ≠ t1) (x2 : x ≠ t2) (x3 : x ≠ t3) (y1 : y ≠ t1) (y2 : y ≠ t2) (y3 : y ≠ t3) (hxy : x < y) : sq9 t1 t2 t3 x ≠ sq9 t1 t2 t3 y := by
  unfold sq9
  split <;> split <;> split <;> split <;> split <;> split <;> omega
/-- no more than 63 segments -/
theorem SG_63 {P : Int → Int → Prop} {X Y A Bb : Nat → Int} {n c : Int} (h : OL P c A Bb) (hs : ∀ a b : Int, P a b → SGP X Y n a b) (hn : n ≤ 12) : c ≤ 63 := by
  have hk : ∀ k : Nat, (k : Int) < c → SGP X Y n (A k) (Bb k) := fun k hk => hs _ _ (OL_in h hk)
  have key : ∀ k : Nat, (k : Int) < c → tri9 (Bb k).toNat + (A k).toNat < 66 := fun k hk' => by
    have q := (hk k hk').1
    have m := tri9_m (a := (Bb k).toNat + 1) (12 - ((Bb k).toNat + 1))
    rw [show (Bb k).toNat + 1 + (12 - ((Bb k).toNat + 1)) = 12 by omega] at m
    have e : tri9 ((Bb k).toNat + 1) = tri9 (Bb k).toNat + (Bb k).toNat := rfl
    have e12 : tri9 12 = 66 := by decide
    omega
  have inj : ∀ i j : Nat, i < j → (j : Int) < c → tri9 (Bb i).toNat + (A i).toNat ≠ tri9 (Bb j).toNat + (A j).toNat := fun i j hij hj e => by
    have q1 := (hk i (by omega)).1
    have q2 := (hk j hj).1
    have q := tri9_i (show (A i).toNat < (Bb i).toNat by omega) (show (A j).toNat < (Bb j).toNat by omega) e
    have l := os_l2 h.2.1 hij hj
    unfold lt2 at l
    omega
  by_cases h11 : n ≤ 11
  · have := fb_holes 63 c.toNat (fun k => tri9 (Bb k).toNat + (A k).toNat) (fun k hk' => by
      have q := (hk k (by omega)).1
      have m := tri9_m (a := (Bb k).toNat + 1) (11 - ((Bb k).toNat + 1))
      rw [show (Bb k).toNat + 1 + (11 - ((Bb k).toNat + 1)) = 11 by omega] at m
      have e : tri9 ((Bb k).toNat + 1) = tri9 (Bb k).toNat + (Bb k).toNat := rfl
      have e11 : tri9 11 = 55 := by decide
      show tri9 (Bb k).toNat + (A k).toNat < 63
      omega) (fun i j hij hj => inj i j hij (by omega))
    omega
  · obtain ⟨i1, j1, a1, a2, a3⟩ := par5 (X := X) (Y := Y) (fun i => i)
    obtain ⟨i2, j2, b1, b2, b3⟩ := par5 (X := X) (Y := Y) (fun i => i + 5)
    obtain ⟨i3, j3, c1, c2, c3⟩ := par5 (X := X) (Y := Y) (fun k => if k = 4 then 10 else if k < i1 then k else k + 1)
    obtain ⟨p3, e3⟩ : ∃ p, p = (if i3 = 4 then 10 else if i3 < i1 then i3 else i3 + 1) := ⟨_, rfl⟩
    obtain ⟨q3, f3⟩ : ∃ p, p = (if j3 = 4 then 10 else if j3 < i1 then j3 else j3 + 1) := ⟨_, rfl⟩
    have c4 : cl9 X Y p3 = cl9 X Y q3 := by rw [e3, f3]; exact c3
    have g1 : p3 < q3 ∧ q3 ≤ 10 ∧ p3 ≠ i1 ∧ p3 ≤ 4 ∧ q3 ≠ i1 ∧ (q3 ≤ 4 ∨ q3 = 10) := by
      rw [e3, f3]
      (repeat' split) <;> omega
    have no : ∀ (p q : Nat) (k : Nat), p < q → cl9 X Y p = cl9 X Y q → (k : Int) < c → tri9 (Bb k).toNat + (A k).toNat ≠ tri9 q + p := fun p q k hpq hc hk' e => by
      have s := hk k hk'
      obtain ⟨e1, e2⟩ := tri9_i (show (A k).toNat < (Bb k).toNat by have := s.1; omega) hpq e
      have g := s.2
      rw [e1, e2] at g
      exact cl9_g hc g
    have tb : ∀ (p q : Nat), p < q → q < 12 → tri9 q + p < 66 := fun p q hpq hq => by
      have m := tri9_l (show q < 12 from hq)
      have e12 : tri9 12 = 66 := by decide
      omega
    have d12 : tri9 j1 + i1 ≠ tri9 (j2 + 5) + (i2 + 5) := fun e => by have := tri9_i a1 (show i2 + 5 < j2 + 5 by omega) e; omega
    have d13 : tri9 j1 + i1 ≠ tri9 q3 + p3 := fun e => by have := tri9_i a1 g1.1 e; omega
    have d23 : tri9 (j2 + 5) + (i2 + 5) ≠ tri9 q3 + p3 := fun e => by have := tri9_i (show i2 + 5 < j2 + 5 by omega) g1.1 e; omega
    have := fb_holes 63 c.toNat (fun k => sq9 (tri9 j1 + i1) (tri9 (j2 + 5) + (i2 + 5)) (tri9 q3 + p3) (tri9 (Bb k).toNat + (A k).toNat)) (fun k hk' => sq9_b (tb _ _ a1 (by omega)) (tb _ _ (by omega) (by omega)) (tb _ _ g1.1 (by omega)) d12 d13 d23 (key k (by omega)) (no _ _ k a1 a3 (by omega)) (no _ _ k (by omega) b3 (by omega)) (no _ _ k g1.1 c4 (by omega))) (fun i j hij hj => by
      have n1 := inj i j hij (by omega)
      have w := fun (x y : Nat) (hx : ∃ k : Nat, (k : Int) < c ∧ x = tri9 (Bb k).toNat + (A k).toNat) (hy : ∃ k : Nat, (k : Int) < c ∧ y = tri9 (Bb k).toNat + (A k).toNat) (hxy : x < y) => (by
        obtain ⟨k, k1, k2⟩ := hx
        obtain ⟨k', k3, k4⟩ := hy
        subst k2; subst k4
        exact sq9_i d12 d13 d23 (no _ _ k a1 a3 k1) (no _ _ k (by omega) b3 k1) (no _ _ k g1.1 c4 k1) (no _ _ k' a1 a3 k3) (no _ _ k' (by omega) b3 k3) (no _ _ k' g1.1 c4 k3) hxy : sq9 (tri9 j1 + i1) (tri9 (j2 + 5) + (i2 + 5)) (tri9 q3 + p3) x ≠ sq9 (tri9 j1 + i1) (tri9 (j2 + 5) + (i2 + 5)) (tri9 q3 + p3) y)
      rcases Nat.lt_or_gt_of_ne n1 with v | v
      · exact w _ _ ⟨i, by omega, rfl⟩ ⟨j, by omega, rfl⟩ v
      · exact (w _ _ ⟨j, by omega, rfl⟩ ⟨i, by omega, rfl⟩ v).symm)
    omega
/-! ===== segments that cross ===== -/
def XC9 (X Y : Nat → Int) (a b c d : Nat) : Prop := tn X Y a b c * tn X Y a b d < 0 ∧ tn X Y c d a * tn X Y c d b < 0
theorem XC_s {X Y : Nat → Int} {a b c d : Nat} (h : XC9 X Y a b c d) : XC9 X Y c d a b := ⟨h.2, h.1⟩
theorem tn_ba {X Y : Nat → Int} {i j k : Nat} : tn X Y j i k = - tn X Y i j k := by unfold tn; grind
theorem XC_f {X Y : Nat → Int} {a b c d : Nat} (h : XC9 X Y a b c d) : XC9 X Y b a c d := by
  refine ⟨?_, ?_⟩
  · rw [tn_ba (i := a) (j := b) (k := c), tn_ba (i := a) (j := b) (k := d), Int.neg_mul_neg]; exact h.1
  · rw [Int.mul_comm]; exact h.2
theorem XC_g {X Y : Nat → Int} {a b c d : Nat} (h : XC9 X Y a b c d) : XC9 X Y a b d c := XC_s (XC_f (XC_s h))
theorem XC_i {X Y : Nat → Int} {a b : Nat} : ¬ XC9 X Y a b a b := fun h => by
  have q := h.1
  rw [tn_ij, Int.zero_mul] at q
  omega
def XS9 (X Y A Bb : Nat → Int) (s t : Nat) : Prop := XC9 X Y (A s).toNat (Bb s).toNat (A t).toNat (Bb t).toNat
/-- no two of a set cross -/
def NX9 (X Y A Bb : Nat → Int) (c : Nat) (f : Nat → Bool) : Prop := ∀ i j : Nat, i < c → j < c → f i = true → f j = true → ¬ XS9 X Y A Bb i j
/-- the first cut -/
def FC9 (X Y A Bb : Nat → Int) (c : Nat) (f : Nat → Bool) : Prop := ∀ k : Nat, k < c → (f k = true ↔ ∀ i : Nat, i < k → f i = true → ¬ XS9 X Y A Bb k i)
theorem FC_NX {X Y A Bb : Nat → Int} {c : Nat} {f : Nat → Bool} (h : FC9 X Y A Bb c f) : NX9 X Y A Bb c f := by
  intro i j hi hj fi fj w
  rcases Nat.lt_trichotomy i j with e | e | e
  · exact (h j hj).mp fj i e fi (XC_s w)
  · subst e; exact XC_i w
  · exact (h i hi).mp fi j e fj w
theorem FC_u {X Y A Bb : Nat → Int} {c : Nat} {f g : Nat → Bool} (h : FC9 X Y A Bb c f) (h' : FC9 X Y A Bb c g) : ∀ k : Nat, k < c → f k = g k := by
  intro k
  induction k using Nat.strongRecOn with
  | _ k ih =>
    intro hk
    have e : f k = true ↔ g k = true := by
      rw [h k hk, h' k hk]
      exact ⟨fun w i hi gi => w i hi (by rw [ih i hi (by omega)]; exact gi), fun w i hi fi => w i hi (by rw [← ih i hi (by omega)]; exact fi)⟩
    cases f1 : f k <;> cases g1 : g k
    · rfl
    · exact absurd (e.mpr g1) (by rw [f1]; decide)
    · exact absurd (e.mp f1) (by rw [g1]; decide)
    · rfl
/-- a segment between two points is in a set -/
def SM9 (A Bb : Nat → Int) (c : Nat) (f : Nat → Bool) (x y : Nat) : Prop := ∃ k : Nat, k < c ∧ f k = true ∧ ((A k = x ∧ Bb k = y) ∨ (A k = y ∧ Bb k = x))
theorem SM_s {A Bb : Nat → Int} {c : Nat} {f : Nat → Bool} {x y : Nat} (h : SM9 A Bb c f x y) : SM9 A Bb c f y x := by
  obtain ⟨k, k1, k2, k3⟩ := h
  exact ⟨k, k1, k2, k3.symm⟩
theorem SM_x {X Y A Bb : Nat → Int} {c : Nat} {f : Nat → Bool} {x y z w : Nat} (h : NX9 X Y A Bb c f) (h1 : SM9 A Bb c f x y) (h2 : SM9 A Bb c f z w) : ¬ XC9 X Y x y z w := by
  obtain ⟨k, k1, k2, k3⟩ := h1
  obtain ⟨m, m1, m2, m3⟩ := h2
  intro q
  refine h k m k1 m1 k2 m2 ?_
  unfold XS9
  rcases k3 with ⟨a1, a2⟩ | ⟨a1, a2⟩ <;> rcases m3 with ⟨b1, b2⟩ | ⟨b1, b2⟩ <;> rw [a1, a2, b1, b2, Int.toNat_natCast, Int.toNat_natCast, Int.toNat_natCast, Int.toNat_natCast]
  · exact q
  · exact XC_g q
  · exact XC_f q
  · exact XC_f (XC_g q)
theorem SM_c {A Bb : Nat → Int} {c : Nat} {f g : Nat → Bool} {x y : Nat} (e : ∀ k : Nat, k < c → f k = g k) (h : SM9 A Bb c f x y) : SM9 A Bb c g x y := by
  obtain ⟨k, k1, k2, k3⟩ := h
  exact ⟨k, k1, by rw [← e k k1]; exact k2, k3⟩
/-! two triangles on the same side -/
theorem tn_add {X Y : Nat → Int} {a b c p : Nat} : tn X Y a b c = tn X Y a b p + tn X Y b c p + tn X Y c a p := by unfold tn; grind
theorem tn_cy {X Y : Nat → Int} {a b c : Nat} : tn X Y b c a = tn X Y a b c := by unfold tn; grind
theorem tn_pt {X Y : Nat → Int} {a b c d : Nat} (h1 : tn X Y a b c = 1) (h2 : tn X Y a b d = 1) (h3 : tn X Y a d c = 0) : X d = X c ∧ Y d = Y c := by
  have e1 : (X d - X c) * tn X Y a b c = tn X Y a d c * (X b - X a) + (tn X Y a b d - tn X Y a b c) * (X c - X a) := by unfold tn; grind
  have e2 : (Y d - Y c) * tn X Y a b c = tn X Y a d c * (Y b - Y a) + (tn X Y a b d - tn X Y a b c) * (Y c - Y a) := by unfold tn; grind
  rw [h1, h2, h3] at e1 e2
  omega
/-- the third point of a triangle of a set, beside an edge: there is one at most -/
theorem tri_u {X Y : Nat → Int} {a b c d : Nat} (h1 : tn X Y a b c = 1) (h2 : tn X Y a b d = 1) (n1 : ¬ XC9 X Y a d b c) (n2 : ¬ XC9 X Y a c b d) : X d = X c ∧ Y d = Y c := by
  have i1 : tn X Y a d b = -1 := by rw [tn_sw]; omega
  have i2 : tn X Y a c b = -1 := by rw [tn_sw]; omega
  have i3 : tn X Y b c a = 1 := by rw [tn_cy]; exact h1
  have i4 : tn X Y b d a = 1 := by rw [tn_cy]; exact h2
  have i5 : tn X Y a c d = - tn X Y a d c := by rw [tn_sw]
  have i6 := @tn_add X Y a b c d
  have i7 : tn X Y c a d = tn X Y a d c := (tn_cy (a := d) (b := c) (c := a)).trans (tn_cy (a := a) (b := d) (c := c))
  have i8 := @tn_add X Y a b d c
  have i9 : tn X Y d a c = tn X Y a c d := (tn_cy (a := c) (b := d) (c := a)).trans (tn_cy (a := a) (b := c) (c := d))
  refine tn_pt h1 h2 ?_
  by_cases g : 0 < tn X Y a d c
  · exfalso
    refine n1 ⟨?_, ?_⟩
    · rw [i1]; omega
    · rw [i3, show tn X Y b c d = - tn X Y a d c by omega]; omega
  · by_cases g2 : tn X Y a d c < 0
    · exfalso
      refine n2 ⟨?_, ?_⟩
      · rw [i2, i5]; omega
      · rw [i4, show tn X Y b d c = tn X Y a d c by omega]; omega
    · omega
/-- the diagonal: the fourth corner of a parallelogram -/
theorem dia_1 {X Y : Nat → Int} {a b c d : Nat} (h1 : tn X Y a b c = 1) (h2 : tn X Y a b d = -1) (hx : XC9 X Y a b c d) : X d = X a + X b - X c ∧ Y d = Y a + Y b - Y c := by
  have q := hx.2
  have e : tn X Y c d b = tn X Y c d a + (tn X Y a b c - tn X Y a b d) := by unfold tn; grind
  rw [h1, h2] at e
  have r1 : tn X Y c d a = -1 := by
    generalize tn X Y c d a = r at *
    rw [e] at q
    by_cases g : 0 ≤ r
    · have := Int.mul_nonneg g (show 0 ≤ r + (1 - -1) by omega); omega
    · by_cases g2 : r ≤ -2
      · have := Int.mul_nonneg (show 0 ≤ -r by omega) (show 0 ≤ -(r + (1 - -1)) by omega)
        rw [Int.neg_mul_neg] at this
        omega
      · omega
  have e1 : (X d - X a - X b + X c) * tn X Y a b c = (-(tn X Y c d a) - tn X Y a b c) * (X b - X a) + (tn X Y a b d + tn X Y a b c) * (X c - X a) := by unfold tn; grind
  have e2 : (Y d - Y a - Y b + Y c) * tn X Y a b c = (-(tn X Y c d a) - tn X Y a b c) * (Y b - Y a) + (tn X Y a b d + tn X Y a b c) * (Y c - Y a) := by unfold tn; grind
  rw [h1, h2, r1] at e1 e2
  omega
theorem dia_2 {X Y : Nat → Int} {a b c d : Nat} (h1 : tn X Y a b c = 1) (hx : X d = X a + X b - X c) (hy : Y d = Y a + Y b - Y c) : tn X Y a b d = -1 ∧ tn X Y c d a = -1 ∧ tn X Y c d b = 1 ∧ tn X Y b c a = 1 ∧ XC9 X Y a b c d := by
  have e1 : tn X Y a b d = - tn X Y a b c := by unfold tn; rw [hx, hy]; grind
  have e2 : tn X Y c d a = - tn X Y a b c := by unfold tn; rw [hx, hy]; grind
  have e3 : tn X Y c d b = tn X Y a b c := by unfold tn; rw [hx, hy]; grind
  have e4 : tn X Y b c a = 1 := by rw [tn_cy]; exact h1
  rw [h1] at e1 e2 e3
  refine ⟨e1, e2, e3, e4, ?_, ?_⟩
  · rw [h1, e1]; decide
  · rw [e2, e3]; decide


/-! ===== flips ===== -/
/-- in the set f the segment k gives way to the segment o -/
def FL9 (X Y A Bb : Nat → Int) (n c : Nat) (f : Nat → Bool) (k o : Nat) : Prop := (k < c ∧ o < c ∧ f k = true) ∧ ∃ p q : Nat, (p < n ∧ q < n) ∧ tn X Y (A k).toNat (Bb k).toNat p = 1 ∧ (X q = X (A k).toNat + X (Bb k).toNat - X p ∧ Y q = Y (A k).toNat + Y (Bb k).toNat - Y p) ∧ (SM9 A Bb c f (A k).toNat p ∧ SM9 A Bb c f (Bb k).toNat p ∧ SM9 A Bb c f (A k).toNat q ∧ SM9 A Bb c f (Bb k).toNat q) ∧ ((A o = p ∧ Bb o = q) ∨ (A o = q ∧ Bb o = p))
def fl9 (f : Nat → Bool) (k o : Nat) : Nat → Bool := fun i => if i = k then false else if i = o then true else f i
theorem FL_c {X Y A Bb : Nat → Int} {n c : Nat} {f g : Nat → Bool} {k o : Nat} (e : ∀ k : Nat, k < c → f k = g k) (h : FL9 X Y A Bb n c f k o) : FL9 X Y A Bb n c g k o := by
  obtain ⟨⟨h1, h2, h3⟩, p, q, h4, h5, h6, ⟨s1, s2, s3, s4⟩, h8⟩ := h
  exact ⟨⟨h1, h2, by rw [← e k h1]; exact h3⟩, p, q, h4, h5, h6, ⟨SM_c e s1, SM_c e s2, SM_c e s3, SM_c e s4⟩, h8⟩
/-- points in order are told by their places -/
theorem os_u {X Y : Nat → Int} {n : Int} (hs : os_s X Y n) {a b : Nat} (ha : (a : Int) < n) (hb : (b : Int) < n) (e : X a = X b ∧ Y a = Y b) : a = b := by
  rcases Nat.lt_trichotomy a b with w | w | w
  · have l := os_l2 hs w hb; unfold lt2 at l; omega
  · exact w
  · have l := os_l2 hs w ha; unfold lt2 at l; omega
theorem sg_u {P : Int → Int → Prop} {A Bb : Nat → Int} {c : Int} (h : OL P c A Bb) {i j : Nat} (hi : (i : Int) < c) (hj : (j : Int) < c) (e : A i = A j ∧ Bb i = Bb j) : i = j := os_u h.2.1 hi hj e
/-- triangles of a set beside an edge -/
theorem tri_1 {X Y A Bb : Nat → Int} {n : Int} {c : Nat} {f : Nat → Bool} {a b p q : Nat} (hs : os_s X Y n) (h : NX9 X Y A Bb c f) (hp : (p : Int) < n) (hq : (q : Int) < n) (h1 : tn X Y a b p = 1) (h2 : tn X Y a b q = 1) (s1 : SM9 A Bb c f a p) (s2 : SM9 A Bb c f b p) (s3 : SM9 A Bb c f a q) (s4 : SM9 A Bb c f b q) : p = q := os_u hs hp hq (by
  have e := tri_u h1 h2 (SM_x h s3 s2) (SM_x h s1 s4)
  exact ⟨e.1.symm, e.2.symm⟩)
theorem tri_2 {X Y A Bb : Nat → Int} {n : Int} {c : Nat} {f : Nat → Bool} {a b p q : Nat} (hs : os_s X Y n) (h : NX9 X Y A Bb c f) (hp : (p : Int) < n) (hq : (q : Int) < n) (h1 : tn X Y a b p = -1) (h2 : tn X Y a b q = -1) (s1 : SM9 A Bb c f a p) (s2 : SM9 A Bb c f b p) (s3 : SM9 A Bb c f a q) (s4 : SM9 A Bb c f b q) : p = q :=
  tri_1 (a := b) (b := a) hs h hp hq (by rw [tn_ba]; omega) (by rw [tn_ba]; omega) s2 s1 s4 s3
theorem FL_u {X Y A Bb : Nat → Int} {n c : Nat} {m : Int} {P : Int → Int → Prop} {f : Nat → Bool} {k o o' : Nat} (hs : os_s X Y n) (hO : OL P m A Bb) (hc : (c : Int) ≤ m) (hx : NX9 X Y A Bb c f) (hl : ∀ i : Nat, i < c → A i < Bb i) (h : FL9 X Y A Bb n c f k o) (h' : FL9 X Y A Bb n c f k o') : o = o' := by
  obtain ⟨⟨k1, k2, k3⟩, p, q, ⟨p1, p2⟩, p3, p4, ⟨s1, s2, s3, s4⟩, e⟩ := h
  obtain ⟨⟨k1', k2', k3'⟩, p', q', ⟨p1', p2'⟩, p3', p4', ⟨s1', s2', s3', s4'⟩, e'⟩ := h'
  have ep := tri_1 hs hx (by omega) (by omega) p3 p3' s1 s2 s1' s2'
  subst ep
  have eq : q = q' := os_u hs (by omega) (by omega) ⟨by omega, by omega⟩
  subst eq
  have l := hl o k2
  have l' := hl o' k2'
  refine sg_u hO (by omega) (by omega) ?_
  rcases e with ⟨e1, e2⟩ | ⟨e1, e2⟩ <;> rcases e' with ⟨e3, e4⟩ | ⟨e3, e4⟩ <;> omega
/-- what gives way crosses what comes -/
theorem FL_x {X Y A Bb : Nat → Int} {n c : Nat} {f : Nat → Bool} {k o : Nat} (h : FL9 X Y A Bb n c f k o) : XS9 X Y A Bb k o := by
  obtain ⟨_, p, q, _, p3, p4, _, e⟩ := h
  have d := (dia_2 p3 p4.1 p4.2).2.2.2.2
  unfold XS9
  rcases e with ⟨e1, e2⟩ | ⟨e1, e2⟩
  · rw [e1, e2]; exact d
  · rw [e1, e2]; exact XC_g d
theorem FL_n {X Y A Bb : Nat → Int} {n c : Nat} {f : Nat → Bool} {k o : Nat} (hx : NX9 X Y A Bb c f) (h : FL9 X Y A Bb n c f k o) : f o = false ∧ k ≠ o := by
  have x := FL_x h
  obtain ⟨⟨k1, k2, k3⟩, _⟩ := h
  refine ⟨?_, fun e => ?_⟩
  · cases w : f o
    · rfl
    · exact absurd x (hx k o k1 k2 k3 w)
  · subst e; exact XC_i x
/-! a flip keeps that none cross: in a unit square's frame, with corners b = (0, 0), c = (1, 0), d = (0, 1), a = (1, 1) -/
theorem nx_d {x y z w D : Int} (hD : D = x * w - z * y) (h1 : x + y ≤ 0) (h2 : 2 ≤ z + w) (hc : (D - (w - y)) * (D + (z - x)) < 0) (g1 : D * (D - (w - y)) < 0 → ¬ y * w < 0) (g2 : D * (D + (z - x)) < 0 → ¬ x * z < 0) : D = 0 := by
  have c1 : D - (w - y) < 0 ∧ 0 < D + (z - x) := by
    by_cases q : 0 ≤ D - (w - y)
    · have := Int.mul_nonneg q (show 0 ≤ D + (z - x) by omega); omega
    · by_cases q2 : D + (z - x) ≤ 0
      · have := Int.mul_nonneg (show 0 ≤ -(D - (w - y)) by omega) (show 0 ≤ -(D + (z - x)) by omega)
        rw [Int.neg_mul_neg] at this; omega
      · omega
  by_cases d1 : 0 < D
  · exfalso
    have m := Int.mul_pos d1 (show 0 < -(D - (w - y)) by omega)
    rw [Int.mul_neg] at m
    have g := g1 (by omega)
    -- y and w on one side
    by_cases wy : 0 ≤ y
    · by_cases ww : 0 ≤ w
      · have a1 := Int.mul_nonneg (show 0 ≤ -y - x by omega) ww
        have a2 := Int.mul_nonneg wy (show 0 ≤ z + w by omega)
        have e1 : (-y - x) * w = -(y * w) - x * w := by grind
        have e2 : y * (z + w) = z * y + y * w := by grind
        omega
      · by_cases y0 : y = 0
        · rw [y0, Int.mul_zero] at hD
          have a1 := Int.mul_nonneg (show 0 ≤ -x by omega) (show 0 ≤ -w by omega)
          rw [Int.neg_mul_neg] at a1
          omega
        · have := Int.mul_pos (show 0 < y by omega) (show 0 < -w by omega)
          rw [Int.mul_neg] at this
          omega
    · by_cases ww : w ≤ 0
      · have a1 := Int.mul_nonneg (show 0 ≤ -y - x by omega) (show 0 ≤ -w by omega)
        have a2 := Int.mul_nonneg (show 0 ≤ -y by omega) (show 0 ≤ z + w - 2 by omega)
        have e1 : (-y - x) * -w = y * w + x * w := by grind
        have e2 : -y * (z + w - 2) = -(z * y) - y * w + 2 * y := by grind
        omega
      · have := Int.mul_pos (show 0 < -y by omega) (show 0 < w by omega)
        rw [Int.neg_mul] at this
        omega
  · by_cases d2 : D < 0
    · exfalso
      have m := Int.mul_pos (show 0 < -D by omega) (show 0 < D + (z - x) by omega)
      rw [Int.neg_mul] at m
      have g := g2 (by omega)
      by_cases wx : 0 ≤ x
      · by_cases wz : 0 ≤ z
        · have a1 := Int.mul_nonneg (show 0 ≤ -x - y by omega) wz
          have a2 := Int.mul_nonneg wx (show 0 ≤ z + w by omega)
          have e1 : (-x - y) * z = -(x * z) - z * y := by grind
          have e2 : x * (z + w) = x * w + x * z := by grind
          omega
        · by_cases x0 : x = 0
          · rw [x0, Int.zero_mul] at hD
            have a1 := Int.mul_nonneg (show 0 ≤ -z by omega) (show 0 ≤ -y by omega)
            rw [Int.neg_mul_neg] at a1
            omega
          · have := Int.mul_pos (show 0 < x by omega) (show 0 < -z by omega)
            rw [Int.mul_neg] at this
            omega
      · by_cases wz : z ≤ 0
        · have a1 := Int.mul_nonneg (show 0 ≤ -x - y by omega) (show 0 ≤ -z by omega)
          have a2 := Int.mul_nonneg (show 0 ≤ -x by omega) (show 0 ≤ z + w - 2 by omega)
          have e1 : (-x - y) * -z = x * z + z * y := by grind
          have e2 : -x * (z + w - 2) = -(x * w) - x * z + 2 * x := by grind
          omega
        · have := Int.mul_pos (show 0 < -x by omega) (show 0 < z by omega)
          rw [Int.neg_mul] at this
          omega
    · omega
/-- along a segment with no point on it -/
theorem prm {A B x y : Int} (hg : ((Int.gcd A B : Nat) : Int) = 1) (h : A * y = B * x) : ∃ t : Int, x = t * A ∧ y = t * B := by
  have hg1 : Int.gcd A B = 1 := by omega
  have d1 : A ∣ B * x := ⟨y, h.symm⟩
  have d2 : A ∣ x * B := by rw [Int.mul_comm]; exact d1
  have d3 : A ∣ ((Int.gcd A (x * B) : Nat) : Int) := Int.dvd_coe_gcd (Int.dvd_refl A) d2
  rw [Int.gcd_mul_left_right_of_gcd_eq_one hg1] at d3
  obtain ⟨t, ht⟩ := Int.dvd_trans d3 (Int.gcd_dvd_right A x)
  by_cases a0 : A = 0
  · subst a0
    have hb : Int.gcd 0 B = B.natAbs := Int.gcd_zero_left B
    have hb1 : B = 1 ∨ B = -1 := by omega
    rw [Int.zero_mul] at ht h
    rcases hb1 with e | e
    · exact ⟨y, by omega, by rw [e]; omega⟩
    · exact ⟨-y, by omega, by rw [e]; omega⟩
  · refine ⟨t, by rw [ht]; exact Int.mul_comm A t, ?_⟩
    have e : A * y = A * (t * B) := by rw [h, ht]; grind
    exact Int.eq_of_mul_eq_mul_left a0 e
/-- a line through b that leaves b strictly between two points that are a segment: no -/
theorem prm_b {X Y : Nat → Int} {b c d p q : Nat} (hg : ((Int.gcd (X q - X p) (Y q - Y p) : Nat) : Int) = 1) (h : tn X Y p q b = 0) (f1 : tn X Y c d b = 1) (f2 : 1 ≤ tn X Y c d p) (f3 : tn X Y c d q ≤ -1) : X b = X p ∧ Y b = Y p := by
  have e : (X q - X p) * (Y b - Y p) = (Y q - Y p) * (X b - X p) := by unfold tn at h; omega
  obtain ⟨t, t1, t2⟩ := prm hg e
  have e2 : tn X Y c d b - tn X Y c d p = (X d - X c) * (Y b - Y p) - (Y d - Y c) * (X b - X p) := by unfold tn; grind
  have e3 : tn X Y c d q - tn X Y c d p = (X d - X c) * (Y q - Y p) - (Y d - Y c) * (X q - X p) := by unfold tn; grind
  have e4 : tn X Y c d b - tn X Y c d p = t * (tn X Y c d q - tn X Y c d p) := by rw [e2, e3, t1, t2]; grind
  have t0 : t = 0 := by
    obtain ⟨g, hg2⟩ : ∃ g : Int, g = tn X Y c d q - tn X Y c d p := ⟨_, rfl⟩
    rw [← hg2] at e4
    have g2 : g ≤ -2 := by omega
    by_cases w : 1 ≤ t
    · have := Int.mul_nonneg (show 0 ≤ t - 1 by omega) (show 0 ≤ -g by omega)
      have e5 : (t - 1) * -g = -(t * g) + g := by grind
      omega
    · by_cases w2 : t ≤ -1
      · have := Int.mul_nonneg (show 0 ≤ -t - 1 by omega) (show 0 ≤ -g by omega)
        have e5 : (-t - 1) * -g = t * g + g := by grind
        omega
      · omega
  rw [t0, Int.zero_mul] at t1 t2
  omega


/-- of the four sides of a parallelogram: what crosses its diagonal and no side goes through its corner -/
theorem nx_1 {X Y : Nat → Int} {a b c d p q : Nat} (h1 : tn X Y a b c = 1) (hx : X d = X a + X b - X c) (hy : Y d = Y a + Y b - Y c) (f1 : 1 ≤ tn X Y c d p) (f2 : tn X Y c d q ≤ -1) (hc : tn X Y p q c * tn X Y p q d < 0) (n1 : ¬ XC9 X Y b c p q) (n2 : ¬ XC9 X Y b d p q) : tn X Y p q b = 0 := by
  have det : tn X Y b c d = 1 := by
    have e : tn X Y b c d = tn X Y a b c := by unfold tn; rw [hx, hy]; grind
    rw [e]; exact h1
  have ep : tn X Y c d p = 1 - tn X Y b p d - tn X Y b c p := by
    have := @tn_add X Y b c d p
    have r := @tn_cy X Y d b p
    omega
  have eq : tn X Y c d q = 1 - tn X Y b q d - tn X Y b c q := by
    have := @tn_add X Y b c d q
    have r := @tn_cy X Y d b q
    omega
  have eD : tn X Y p q b = tn X Y b p d * tn X Y b c q - tn X Y b q d * tn X Y b c p := by
    have e : tn X Y p q b * tn X Y b c d = tn X Y b p d * tn X Y b c q - tn X Y b q d * tn X Y b c p := by unfold tn; grind
    rw [det] at e; omega
  have ec : tn X Y p q c = tn X Y p q b - (tn X Y b c q - tn X Y b c p) := by unfold tn; grind
  have ed : tn X Y p q d = tn X Y p q b + (tn X Y b q d - tn X Y b p d) := by unfold tn; grind
  have bp : tn X Y b d p = - tn X Y b p d := tn_sw
  have bq : tn X Y b d q = - tn X Y b q d := tn_sw
  refine nx_d eD (by omega) (by omega) (by rw [← ec, ← ed]; exact hc) (fun g w => n1 ⟨w, by rw [← ec] at g; exact g⟩) (fun g w => n2 ⟨by rw [bp, bq, Int.neg_mul_neg]; exact w, by rw [← ed] at g; exact g⟩)
theorem gcd_sw {a b : Int} : Int.gcd (-a) (-b) = Int.gcd a b := by rw [Int.neg_gcd, Int.gcd_neg]
theorem fl_core {X Y : Nat → Int} {a b c d p q : Nat} (h1 : tn X Y a b c = 1) (hx : X d = X a + X b - X c) (hy : Y d = Y a + Y b - Y c) (f1 : 0 < tn X Y c d p) (hX : XC9 X Y c d p q) (hg : ((Int.gcd (X q - X p) (Y q - Y p) : Nat) : Int) = 1) (n1 : ¬ XC9 X Y b c p q) (n2 : ¬ XC9 X Y b d p q) (n3 : ¬ XC9 X Y a c p q) (n4 : ¬ XC9 X Y a d p q) : (X b = X p ∧ Y b = Y p) ∧ X a = X q ∧ Y a = Y q := by
  obtain ⟨d1, d2, d3, d4, _⟩ := dia_2 h1 hx hy
  have f2 : tn X Y c d q ≤ -1 := by
    have q1 := hX.1
    by_cases w : 0 ≤ tn X Y c d q
    · have := Int.mul_nonneg (show 0 ≤ tn X Y c d p by omega) w; omega
    · omega
  have z1 := nx_1 h1 hx hy (by omega) f2 hX.2 n1 n2
  have sp : tn X Y d c p = - tn X Y c d p := tn_ba
  have sq : tn X Y d c q = - tn X Y c d q := tn_ba
  have sa : tn X Y d c a = - tn X Y c d a := tn_ba
  have s1 : tn X Y q p c = - tn X Y p q c := tn_ba
  have s2 : tn X Y q p d = - tn X Y p q d := tn_ba
  have z2 := nx_1 (X := X) (Y := Y) (a := b) (b := a) (c := d) (d := c) (p := q) (q := p) (by rw [tn_ba]; omega) (by omega) (by omega) (by omega) (by omega) (by rw [s1, s2, Int.neg_mul_neg, Int.mul_comm]; exact hX.2) (fun w => n4 (XC_g w)) (fun w => n3 (XC_g w))
  refine ⟨prm_b hg z1 d3 (by omega) f2, prm_b (b := a) (c := d) (d := c) (p := q) (q := p) ?_ z2 (by omega) (by omega) (by omega)⟩
  rw [show X p - X q = -(X q - X p) by omega, show Y p - Y q = -(Y q - Y p) by omega, gcd_sw]
  exact hg
theorem fl_j {X Y A Bb : Nat → Int} {n : Int} {c : Nat} {m : Int} {f : Nat → Bool} {k o j : Nat} (hs : os_s X Y n) (hO : OL (SGP X Y n) m A Bb) (hc : (c : Int) ≤ m) (hx : NX9 X Y A Bb c f) (h : FL9 X Y A Bb n.toNat c f k o) (hj : j < c) (fj : f j = true) (hne : j ≠ k) : ¬ XS9 X Y A Bb o j := by
  intro w
  obtain ⟨⟨k1, k2, k3⟩, p, q, ⟨p1, p2⟩, p3, ⟨p4, p5⟩, ⟨s1, s2, s3, s4⟩, e⟩ := h
  have gk := OL_in hO (a := k) (by omega)
  have gj := OL_in hO (a := j) (by omega)
  have Jm : SM9 A Bb c f (A j).toNat (Bb j).toNat := ⟨j, hj, fj, Or.inl ⟨by have := gj.1; omega, by have := gj.1; omega⟩⟩
  have x1 : XC9 X Y p q (A j).toNat (Bb j).toNat := by
    unfold XS9 at w
    rcases e with ⟨e1, e2⟩ | ⟨e1, e2⟩
    · rw [e1, e2] at w; exact w
    · rw [e1, e2] at w; exact XC_f w
  have nn : ∀ x y : Nat, SM9 A Bb c f x y → ¬ XC9 X Y x y (A j).toNat (Bb j).toNat := fun x y hxy => SM_x hx hxy Jm
  have fin : ∀ x y : Nat, (x : Int) < n → (y : Int) < n → X (Bb k).toNat = X x ∧ Y (Bb k).toNat = Y x → X (A k).toNat = X y ∧ Y (A k).toNat = Y y → x = (Bb k).toNat ∧ y = (A k).toNat := fun x y hx' hy' e1 e2 => by
    have q1 := gk.1
    exact ⟨os_u hs hx' (by omega) ⟨e1.1.symm, e1.2.symm⟩, os_u hs hy' (by omega) ⟨e2.1.symm, e2.2.symm⟩⟩
  have b1 := gj.1
  have b2 := gk.1
  have two : tn X Y p q (A j).toNat * tn X Y p q (Bb j).toNat < 0 := x1.1
  by_cases g : 0 < tn X Y p q (A j).toNat
  · have r := fl_core p3 p4 p5 g x1 gj.2 (nn _ _ s2) (nn _ _ s4) (nn _ _ s1) (nn _ _ s3)
    have r2 := fin _ _ (by omega) (by omega) r.1 r.2
    exact hne (sg_u hO (by omega) (by omega) ⟨by omega, by omega⟩)
  · have g2 : 0 < tn X Y p q (Bb j).toNat := by
      by_cases v : tn X Y p q (Bb j).toNat ≤ 0
      · have := Int.mul_nonneg (show 0 ≤ - tn X Y p q (A j).toNat by omega) (show 0 ≤ - tn X Y p q (Bb j).toNat by omega)
        rw [Int.neg_mul_neg] at this; omega
      · omega
    have hg : ((Int.gcd (X (A j).toNat - X (Bb j).toNat) (Y (A j).toNat - Y (Bb j).toNat) : Nat) : Int) = 1 := by
      rw [show X (A j).toNat - X (Bb j).toNat = -(X (Bb j).toNat - X (A j).toNat) by omega, show Y (A j).toNat - Y (Bb j).toNat = -(Y (Bb j).toNat - Y (A j).toNat) by omega, gcd_sw]
      exact gj.2
    have r := fl_core p3 p4 p5 g2 (XC_g x1) hg (fun v => nn _ _ s2 (XC_g v)) (fun v => nn _ _ s4 (XC_g v)) (fun v => nn _ _ s1 (XC_g v)) (fun v => nn _ _ s3 (XC_g v))
    have r2 := fin _ _ (by omega) (by omega) r.1 r.2
    exact hne (sg_u hO (by omega) (by omega) ⟨by omega, by omega⟩)
theorem fl_NX {X Y A Bb : Nat → Int} {n : Int} {c : Nat} {m : Int} {f : Nat → Bool} {k o : Nat} (hs : os_s X Y n) (hO : OL (SGP X Y n) m A Bb) (hc : (c : Int) ≤ m) (hx : NX9 X Y A Bb c f) (h : FL9 X Y A Bb n.toNat c f k o) : NX9 X Y A Bb c (fl9 f k o) := by
  have sp : ∀ i : Nat, fl9 f k o i = true → i ≠ k ∧ (i = o ∨ f i = true) := fun i hi => by
    unfold fl9 at hi
    by_cases e : i = k
    · rw [if_pos e] at hi; cases hi
    · rw [if_neg e] at hi
      by_cases e2 : i = o
      · exact ⟨e, Or.inl e2⟩
      · rw [if_neg e2] at hi; exact ⟨e, Or.inr hi⟩
  intro i j hi hj fi fj w
  obtain ⟨i1, i2⟩ := sp i fi
  obtain ⟨j1, j2⟩ := sp j fj
  rcases i2 with i2 | i2 <;> rcases j2 with j2 | j2
  · subst i2; subst j2; exact XC_i w
  · subst i2; exact fl_j hs hO hc hx h hj j2 j1 w
  · subst j2; exact fl_j hs hO hc hx h hi i2 i1 (XC_s w)
  · exact hx i j hi hj i2 j2 w


/-! ===== the search by flips ===== -/
theorem PB_e6 {n : Nat} {f g : Nat → Bool} (hn : n ≤ 64) (h : PB f n = PB g n) : ∀ p : Nat, p < n → f p = g p := fun p hp => by
  have q := gb_PB (f := f) n hn p
  rw [h, gb_PB n hn, decide_eq_true hp, Bool.true_and, Bool.true_and] at q
  exact q.symm
/-- what comes of a set by the segment k: another set, or 0 -/
def NV9 (X Y A Bb : Nat → Int) (n c : Nat) (b : Int64) (k : Nat) (v : Int64) : Prop := (∃ (f : Nat → Bool) (o : Nat), NX9 X Y A Bb c f ∧ b = PB f c ∧ FL9 X Y A Bb n c f k o ∧ v = PB (fl9 f k o) c) ∨ (v = 0 ∧ ∀ f : Nat → Bool, b = PB f c → ∀ o : Nat, ¬ FL9 X Y A Bb n c f k o)
theorem NV_u {X Y A Bb : Nat → Int} {n c : Nat} {m : Int} {P : Int → Int → Prop} (hs : os_s X Y n) (hO : OL P m A Bb) (hc : (c : Int) ≤ m) (h64 : c ≤ 64) (hl : ∀ i : Nat, i < c → A i < Bb i) {b v v' : Int64} {k : Nat} (h : NV9 X Y A Bb n c b k v) (h' : NV9 X Y A Bb n c b k v') : v = v' := by
  rcases h with ⟨f, o, a1, a2, a3, a4⟩ | ⟨a1, a2⟩ <;> rcases h' with ⟨g, o', b1, b2, b3, b4⟩ | ⟨b1, b2⟩
  · have e := PB_e6 h64 (b2.symm.trans a2)
    have w := FL_u hs hO hc a1 hl a3 (FL_c e b3)
    subst w
    rw [a4, b4]
    refine PB_c (fun i hi => ?_)
    unfold fl9
    rw [e i hi]
  · exact absurd a3 (b2 f a2 o)
  · exact absurd b3 (a2 g b2 o')
  · rw [a1, b1]
theorem NV_z {X Y A Bb : Nat → Int} {n c k : Nat} {b : Int64} (h : c ≤ k) : NV9 X Y A Bb n c b k 0 := Or.inr ⟨rfl, fun f _ o w => by have := w.1.1; omega⟩
/-- one step: t = 64 i + k, the segment k of the set i -/
def BS9 (NV : Int64 → Nat → Int64 → Prop) (Bs : Nat → Int64) (D : Nat → Int) (M S : Nat → Int) (t : Nat) : Prop := ((S t = 1 ∨ M t ≤ ((t / 64 : Nat) : Int)) → M (t + 1) = M t ∧ S (t + 1) = S t) ∧ (S t ≠ 1 → ((t / 64 : Nat) : Int) < M t → ∃ b : Int64, NV (Bs (t / 64)) (t % 64) b ∧ (((b = 0 ∨ ∃ q : Nat, (q : Int) < M t ∧ Bs q = b) ∧ M (t + 1) = M t ∧ S (t + 1) = 0) ∨ ((b ≠ 0 ∧ ∀ q : Nat, (q : Int) < M t → Bs q ≠ b) ∧ ((M t = 1500 ∧ M (t + 1) = M t ∧ S (t + 1) = 1) ∨ (M t < 1500 ∧ M (t + 1) = M t + 1 ∧ S (t + 1) = 0 ∧ Bs (M t).toNat = b ∧ D (M t).toNat = D (t / 64) + 1)))))
def RN9 (NV : Int64 → Nat → Int64 → Prop) (b0 : Int64) (Bs : Nat → Int64) (D M S : Nat → Int) (T : Nat) : Prop := (M 0 = 1 ∧ S 0 = 0 ∧ Bs 0 = b0 ∧ D 0 = 0) ∧ ∀ t : Nat, t < T → BS9 NV Bs D M S t
theorem BS_m {NV : Int64 → Nat → Int64 → Prop} {Bs : Nat → Int64} {D M S : Nat → Int} {t : Nat} (h : BS9 NV Bs D M S t) : M t ≤ M (t + 1) := by
  by_cases w : S t = 1 ∨ M t ≤ ((t / 64 : Nat) : Int)
  · have := (h.1 w).1; omega
  · obtain ⟨b, _, q⟩ := h.2 (fun e => w (Or.inl e)) (by omega)
    rcases q with ⟨_, q, _⟩ | ⟨_, ⟨_, q, _⟩ | ⟨_, q, _⟩⟩ <;> omega
theorem RN_m {NV : Int64 → Nat → Int64 → Prop} {b0 : Int64} {Bs : Nat → Int64} {D M S : Nat → Int} {T : Nat} (h : RN9 NV b0 Bs D M S T) {t : Nat} : ∀ k : Nat, t + k ≤ T → M t ≤ M (t + k) := by
  intro k
  induction k with
  | zero => intro _; exact Int.le_refl _
  | succ k ih =>
    intro hk
    have q := BS_m (h.2 (t + k) (by omega))
    have := ih (by omega)
    rw [show t + (k + 1) = t + k + 1 by omega]
    omega
theorem RN_u {NV : Int64 → Nat → Int64 → Prop} (hN : ∀ (b : Int64) (k : Nat) (v v' : Int64), NV b k v → NV b k v' → v = v') {b0 : Int64} {Bs Bs' : Nat → Int64} {D M S D' M' S' : Nat → Int} {T : Nat} (h : RN9 NV b0 Bs D M S T) (h' : RN9 NV b0 Bs' D' M' S' T) : ∀ t : Nat, t ≤ T → (1 ≤ M t ∧ M t = M' t ∧ S t = S' t) ∧ ∀ q : Nat, (q : Int) < M t → Bs q = Bs' q ∧ D q = D' q := by
  intro t
  induction t with
  | zero =>
    intro _
    obtain ⟨a1, a2, a3, a4⟩ := h.1
    obtain ⟨b1, b2, b3, b4⟩ := h'.1
    refine ⟨by omega, fun q hq => ?_⟩
    have e : q = 0 := by omega
    subst e
    exact ⟨a3.trans b3.symm, a4.trans b4.symm⟩
  | succ t ih =>
    intro ht
    obtain ⟨⟨e0, e1, e2⟩, e3⟩ := ih (by omega)
    have s := h.2 t (by omega)
    have s' := h'.2 t (by omega)
    by_cases w : S t = 1 ∨ M t ≤ ((t / 64 : Nat) : Int)
    · obtain ⟨k1, k2⟩ := s.1 w
      obtain ⟨k3, k4⟩ := s'.1 (by rw [← e1, ← e2]; exact w)
      refine ⟨by omega, fun q hq => e3 q (by omega)⟩
    · have w1 : S t ≠ 1 := fun e => w (Or.inl e)
      have w2 : ((t / 64 : Nat) : Int) < M t := by omega
      obtain ⟨b, n1, k⟩ := s.2 w1 w2
      obtain ⟨b', n2, k'⟩ := s'.2 (by rw [← e2]; exact w1) (by omega)
      rw [← (e3 (t / 64) w2).1] at n2
      have eb := hN _ _ _ _ n1 n2
      subst eb
      have tr : (∃ q : Nat, (q : Int) < M t ∧ Bs q = b) ↔ ∃ q : Nat, (q : Int) < M' t ∧ Bs' q = b := by
        constructor
        · rintro ⟨q, q1, q2⟩; exact ⟨q, by omega, by rw [← (e3 q q1).1]; exact q2⟩
        · rintro ⟨q, q1, q2⟩; exact ⟨q, by omega, by rw [(e3 q (by omega)).1]; exact q2⟩
      rcases k with ⟨k1, k2, k3⟩ | ⟨⟨k1, k2⟩, k3⟩ <;> rcases k' with ⟨l1, l2, l3⟩ | ⟨⟨l1, l2⟩, l3⟩
      · exact ⟨by omega, fun q hq => e3 q (by omega)⟩
      · exfalso
        rcases k1 with k1 | k1
        · exact l1 k1
        · obtain ⟨q, q1, q2⟩ := tr.mp k1
          exact l2 q q1 q2
      · exfalso
        rcases l1 with l1 | l1
        · exact k1 l1
        · obtain ⟨q, q1, q2⟩ := tr.mpr l1
          exact k2 q q1 q2
      · rcases k3 with ⟨a1, a2, a3⟩ | ⟨a1, a2, a3, a4, a5⟩ <;> rcases l3 with ⟨c1, c2, c3⟩ | ⟨c1, c2, c3, c4, c5⟩
        · exact ⟨by omega, fun q hq => e3 q (by omega)⟩
        · omega
        · omega
        · refine ⟨by omega, fun q hq => ?_⟩
          by_cases v : (q : Int) = M t
          · have eq : (M t).toNat = q := by omega
            have eq' : (M' t).toNat = q := by omega
            rw [eq] at a4 a5
            rw [eq'] at c4 c5
            refine ⟨a4.trans c4.symm, ?_⟩
            rw [a5, c5, (e3 (t / 64) w2).2]
          · exact e3 q (by omega)
theorem RN_st {NV : Int64 → Nat → Int64 → Prop} {b0 : Int64} {Bs : Nat → Int64} {D M S : Nat → Int} {T t : Nat} (h : RN9 NV b0 Bs D M S T) (hd : S t = 1 ∨ M t ≤ ((t / 64 : Nat) : Int)) : ∀ k : Nat, t + k ≤ T → M (t + k) = M t ∧ S (t + k) = S t := by
  intro k
  induction k with
  | zero => intro _; exact ⟨rfl, rfl⟩
  | succ k ih =>
    intro hk
    obtain ⟨e1, e2⟩ := ih (by omega)
    have q := (h.2 (t + k) (by omega)).1 (by
      rcases hd with hd | hd
      · exact Or.inl (by omega)
      · refine Or.inr ?_
        have : t / 64 ≤ (t + k) / 64 := Nat.div_le_div_right (by omega)
        omega)
    rw [show t + (k + 1) = t + k + 1 by omega]
    omega
/-- the state of a search after T steps -/
def RS9 (NV : Int64 → Nat → Int64 → Prop) (b0 : Int64) (T : Nat) (m : Int) (Bs : Nat → Int64) (D : Nat → Int) (s : Int) : Prop := ∃ M S : Nat → Int, RN9 NV b0 Bs D M S T ∧ M T = m ∧ S T = s
theorem RN_le {NV : Int64 → Nat → Int64 → Prop} {b0 : Int64} {Bs : Nat → Int64} {D M S : Nat → Int} {T t : Nat} (h : RN9 NV b0 Bs D M S T) (ht : t ≤ T) : RN9 NV b0 Bs D M S t := ⟨h.1, fun r hr => h.2 r (by omega)⟩
theorem RS_f1 {NV : Int64 → Nat → Int64 → Prop} (hN : ∀ (b : Int64) (k : Nat) (v v' : Int64), NV b k v → NV b k v' → v = v') {b0 : Int64} {T T' : Nat} {m s m' s' : Int} {Bs Bs' : Nat → Int64} {D D' : Nat → Int} (hT : T ≤ T') (h : RS9 NV b0 T m Bs D s) (hd : s = 1 ∨ m ≤ ((T / 64 : Nat) : Int)) (h' : RS9 NV b0 T' m' Bs' D' s') : m = m' ∧ s = s' ∧ ∀ q : Nat, (q : Int) < m → Bs q = Bs' q ∧ D q = D' q := by
  obtain ⟨M, S, r, e1, e2⟩ := h
  obtain ⟨M', S', r', f1, f2⟩ := h'
  obtain ⟨⟨_, u1, u2⟩, u3⟩ := RN_u hN r (RN_le r' hT) T (Nat.le_refl T)
  have st := RN_st r' (t := T) (by rw [← u1, ← u2, e1, e2]; exact hd) (T' - T) (by omega)
  rw [show T + (T' - T) = T' by omega] at st
  exact ⟨by omega, by omega, fun q hq => u3 q (by omega)⟩
theorem RS_f {NV : Int64 → Nat → Int64 → Prop} (hN : ∀ (b : Int64) (k : Nat) (v v' : Int64), NV b k v → NV b k v' → v = v') {b0 : Int64} {T T' : Nat} {m s m' s' : Int} {Bs Bs' : Nat → Int64} {D D' : Nat → Int} (h : RS9 NV b0 T m Bs D s) (hd : s = 1 ∨ m ≤ ((T / 64 : Nat) : Int)) (h' : RS9 NV b0 T' m' Bs' D' s') (hd' : s' = 1 ∨ m' ≤ ((T' / 64 : Nat) : Int)) : m = m' ∧ s = s' ∧ ∀ q : Nat, (q : Int) < m → Bs q = Bs' q ∧ D q = D' q := by
  rcases Nat.le_total T T' with w | w
  · exact RS_f1 hN w h hd h'
  · obtain ⟨a1, a2, a3⟩ := RS_f1 hN w h' hd' h
    exact ⟨a1.symm, a2.symm, fun q hq => ⟨(a3 q (by omega)).1.symm, (a3 q (by omega)).2.symm⟩⟩
theorem RS_0 {NV : Int64 → Nat → Int64 → Prop} {b0 : Int64} {Bs : Nat → Int64} {D : Nat → Int} (h1 : Bs 0 = b0) (h2 : D 0 = 0) : RS9 NV b0 0 1 Bs D 0 := ⟨fun _ => 1, fun _ => 0, ⟨⟨rfl, rfl, h1, h2⟩, fun t ht => by omega⟩, rfl, rfl⟩
theorem RS_1 {NV : Int64 → Nat → Int64 → Prop} {b0 : Int64} {T : Nat} {m s : Int} {Bs : Nat → Int64} {D : Nat → Int} (h : RS9 NV b0 T m Bs D s) : 1 ≤ m := by
  obtain ⟨M, S, r, e1, e2⟩ := h
  have q := RN_m r (t := 0) T (by omega)
  rw [Nat.zero_add, r.1.1] at q
  omega
/-- one step more: arrays that are the same so far -/
theorem RS_ap {NV : Int64 → Nat → Int64 → Prop} {b0 : Int64} {T : Nat} {m s m' s' : Int} {Bs Bs' : Nat → Int64} {D D' : Nat → Int} (h : RS9 NV b0 T m Bs D s) (ha : ∀ q : Nat, (q : Int) < m → Bs' q = Bs q ∧ D' q = D q) (hm : ((T / 64 : Nat) : Int) < m) (hs : s ≠ 1) {b : Int64} (hb : NV (Bs (T / 64)) (T % 64) b) (e : ((b = 0 ∨ ∃ q : Nat, (q : Int) < m ∧ Bs q = b) ∧ m' = m ∧ s' = 0) ∨ ((b ≠ 0 ∧ ∀ q : Nat, (q : Int) < m → Bs q ≠ b) ∧ ((m = 1500 ∧ m' = m ∧ s' = 1) ∨ (m < 1500 ∧ m' = m + 1 ∧ s' = 0 ∧ Bs' m.toNat = b ∧ D' m.toNat = D (T / 64) + 1)))) : RS9 NV b0 (T + 1) m' Bs' D' s' := by
  have m1 := RS_1 h
  obtain ⟨M, S, r, e1, e2⟩ := h
  refine ⟨upI M (T + 1) m', upI S (T + 1) s', ⟨?_, fun t ht => ?_⟩, upI_s, upI_s⟩
  · obtain ⟨r1, r2, r3, r4⟩ := r.1
    rw [upI_n (by omega), upI_n (by omega)]
    exact ⟨r1, r2, (ha 0 (by omega)).1.trans r3, (ha 0 (by omega)).2.trans r4⟩
  · by_cases w : t = T
    · subst w
      unfold BS9
      rw [upI_s, upI_s, upI_n (by omega), upI_n (by omega), e1, e2]
      refine ⟨fun q => by omega, fun _ _ => ⟨b, by rw [(ha _ hm).1]; exact hb, ?_⟩⟩
      rw [(ha _ hm).2]
      rcases e with ⟨q1, q2⟩ | ⟨⟨q1, q2⟩, q3⟩
      · refine Or.inl ⟨?_, q2⟩
        rcases q1 with q1 | ⟨q, q3, q4⟩
        · exact Or.inl q1
        · exact Or.inr ⟨q, q3, by rw [(ha q q3).1]; exact q4⟩
      · exact Or.inr ⟨⟨q1, fun q hq => by rw [(ha q hq).1]; exact q2 q hq⟩, q3⟩
    · have ht' : t < T := by omega
      have s0 := r.2 t ht'
      have mm := RN_m r (t := t + 1) (T - (t + 1)) (by omega)
      rw [show t + 1 + (T - (t + 1)) = T by omega] at mm
      have m2 := BS_m s0
      unfold BS9 at *
      rw [upI_n (by omega), upI_n (by omega), upI_n (by omega), upI_n (by omega)]
      refine ⟨s0.1, fun q1 q2 => ?_⟩
      obtain ⟨b', n1, k⟩ := s0.2 q1 q2
      refine ⟨b', by rw [(ha _ (by omega)).1]; exact n1, ?_⟩
      rw [(ha (t / 64) (by omega)).2]
      rcases k with ⟨k1, k2⟩ | ⟨⟨k1, k2⟩, k3⟩
      · refine Or.inl ⟨?_, k2⟩
        rcases k1 with k1 | ⟨q, q3, q4⟩
        · exact Or.inl k1
        · exact Or.inr ⟨q, q3, by rw [(ha q (by omega)).1]; exact q4⟩
      · refine Or.inr ⟨⟨k1, fun q hq => by rw [(ha q (by omega)).1]; exact k2 q hq⟩, ?_⟩
        rcases k3 with k3 | ⟨k3, k4, k5, k6, k7⟩
        · exact Or.inl k3
        · have z := RN_m r (t := 0) t (by omega)
          rw [Nat.zero_add, r.1.1] at z
          exact Or.inr ⟨k3, k4, k5, by rw [(ha _ (by omega)).1]; exact k6, by rw [(ha _ (by omega)).2]; exact k7⟩
theorem RS_k {NV : Int64 → Nat → Int64 → Prop} {b0 : Int64} {T : Nat} {m : Int} {Bs : Nat → Int64} {D : Nat → Int} (h : RS9 NV b0 T m Bs D 0) (hm : ((T / 64 : Nat) : Int) < m) {b : Int64} (hb : NV (Bs (T / 64)) (T % 64) b) (e : b = 0 ∨ ∃ q : Nat, (q : Int) < m ∧ Bs q = b) : RS9 NV b0 (T + 1) m Bs D 0 := RS_ap h (fun _ _ => ⟨rfl, rfl⟩) hm (by decide) hb (Or.inl ⟨e, rfl, rfl⟩)
theorem RS_s {NV : Int64 → Nat → Int64 → Prop} {b0 : Int64} {T : Nat} {m : Int} {Bs : Nat → Int64} {D : Nat → Int} (h : RS9 NV b0 T m Bs D 0) (hm : ((T / 64 : Nat) : Int) < m) {b : Int64} (hb : NV (Bs (T / 64)) (T % 64) b) (e1 : b ≠ 0) (e2 : ∀ q : Nat, (q : Int) < m → Bs q ≠ b) (e3 : m = 1500) : RS9 NV b0 (T + 1) m Bs D 1 := RS_ap h (fun _ _ => ⟨rfl, rfl⟩) hm (by decide) hb (Or.inr ⟨⟨e1, e2⟩, Or.inl ⟨e3, rfl, rfl⟩⟩)
theorem RS_a {NV : Int64 → Nat → Int64 → Prop} {b0 : Int64} {T : Nat} {m d : Int} {Bs : Nat → Int64} {D : Nat → Int} (h : RS9 NV b0 T m Bs D 0) (hm : ((T / 64 : Nat) : Int) < m) {b : Int64} (hb : NV (Bs (T / 64)) (T % 64) b) (e1 : b ≠ 0) (e2 : ∀ q : Nat, (q : Int) < m → Bs q ≠ b) (e3 : m < 1500) (hd : d = D (T / 64) + 1) : RS9 NV b0 (T + 1) (m + 1) (vp_updL Bs m.toNat b) (upI D m.toNat d) 0 :=
  RS_ap h (fun q hq => ⟨pk_uLn (by omega), upI_n (by omega)⟩) hm (by decide) hb (Or.inr ⟨⟨e1, e2⟩, Or.inr ⟨e3, rfl, rfl, pk_uLs, by rw [upI_s, hd]⟩⟩)
/-- steps that bring nothing -/
theorem RS_j {NV : Int64 → Nat → Int64 → Prop} {b0 : Int64} {i : Nat} {m : Int} {Bs : Nat → Int64} {D : Nat → Int} (hm : (i : Int) < m) {k : Nat} : ∀ r : Nat, k + r ≤ 64 → (∀ j : Nat, k ≤ j → j < k + r → NV (Bs i) j 0) → RS9 NV b0 (64 * i + k) m Bs D 0 → RS9 NV b0 (64 * i + (k + r)) m Bs D 0 := by
  intro r
  induction r with
  | zero => intro _ _ h; exact h
  | succ r ih =>
    intro h1 h2 h
    have q := ih (by omega) (fun j j1 j2 => h2 j j1 (by omega)) h
    have e1 : (64 * i + (k + r)) / 64 = i := by omega
    have e2 : (64 * i + (k + r)) % 64 = k + r := by omega
    rw [show 64 * i + (k + (r + 1)) = 64 * i + (k + r) + 1 by omega]
    exact RS_k q (by rw [e1]; exact hm) (b := 0) (by rw [e1, e2]; exact h2 (k + r) (by omega) (by omega)) (Or.inl rfl)
/-! ===== the places of the sets ===== -/
def HT9 (h : Int64 → Nat) (V : Nat → Int) (Bs : Nat → Int64) (m : Int) : Prop := (∀ p : Nat, p < 4096 → V p = -1 ∨ (0 ≤ V p ∧ V p < m)) ∧ (∀ p p' : Nat, p < p' → p' < 4096 → V p ≠ -1 → V p ≠ V p') ∧ ∀ q : Nat, (q : Int) < m → ∃ d : Nat, d < 4096 ∧ V ((h (Bs q) + d) % 4096) = q ∧ ∀ e : Nat, e < d → V ((h (Bs q) + e) % 4096) ≠ -1
/-- looked at so far: places that are taken by other sets -/
def LK9 (h : Int64 → Nat) (V : Nat → Int) (Bs : Nat → Int64) (b : Int64) (d : Nat) : Prop := ∀ e : Nat, e < d → V ((h b + e) % 4096) ≠ -1 ∧ Bs (V ((h b + e) % 4096)).toNat ≠ b
theorem HT_no {h : Int64 → Nat} {V : Nat → Int} {Bs : Nat → Int64} {m : Int} {b : Int64} {d : Nat} (H : HT9 h V Bs m) (hp : LK9 h V Bs b d) (hv : V ((h b + d) % 4096) = -1) : ∀ q : Nat, (q : Int) < m → Bs q ≠ b := fun q hq e => by
  obtain ⟨d0, _, d1, d2⟩ := H.2.2 q hq
  rw [e] at d1 d2
  rcases Nat.lt_trichotomy d d0 with w | w | w
  · exact d2 d w hv
  · subst w; omega
  · obtain ⟨_, p2⟩ := hp d0 w
    rw [d1, Int.toNat_natCast] at p2
    exact p2 e
theorem HT_in {h : Int64 → Nat} {V : Nat → Int} {Bs : Nat → Int64} {m : Int} {b : Int64} {p : Nat} (H : HT9 h V Bs m) (hp : p < 4096) (hv : V p ≠ -1) (hb : Bs (V p).toNat = b) : ∃ q : Nat, (q : Int) < m ∧ Bs q = b := by
  have q := H.1 p hp
  exact ⟨(V p).toNat, by omega, hb⟩
theorem HT_up {h : Int64 → Nat} {V V' : Nat → Int} {Bs Bs' : Nat → Int64} {m : Int} {b : Int64} {d : Nat} (m0 : 0 ≤ m) (H : HT9 h V Bs m) (hp : LK9 h V Bs b d) (hd : d < 4096) (hv : V ((h b + d) % 4096) = -1) (hV : ∀ p : Nat, p < 4096 → V' p = if p = (h b + d) % 4096 then m else V p) (hB : ∀ q : Nat, (q : Int) < m → Bs' q = Bs q) (hb : Bs' m.toNat = b) : HT9 h V' Bs' (m + 1) := by
  obtain ⟨H1, H2, H3⟩ := H
  have md : ∀ x : Nat, x % 4096 < 4096 := fun x => Nat.mod_lt x (by omega)
  refine ⟨fun p hp' => ?_, fun p p' hpp hp' hne => ?_, fun q hq => ?_⟩
  · rw [hV p hp']
    by_cases e : p = (h b + d) % 4096
    · rw [if_pos e]; omega
    · rw [if_neg e]; have := H1 p hp'; omega
  · rw [hV p (by omega)] at hne ⊢
    rw [hV p' hp']
    by_cases e : p = (h b + d) % 4096
    · rw [if_pos e, if_neg (by omega)]
      have := H1 p' hp'; omega
    · rw [if_neg e] at hne ⊢
      by_cases e' : p' = (h b + d) % 4096
      · rw [if_pos e']; have := H1 p (by omega); omega
      · rw [if_neg e']; exact H2 p p' hpp hp' hne
  · by_cases w : (q : Int) = m
    · have eq : q = m.toNat := by omega
      subst eq
      rw [hb]
      refine ⟨d, hd, ?_, fun e he => ?_⟩
      · rw [hV _ (md _), if_pos rfl]; omega
      · have l := (hp e he).1
        rw [hV _ (md _), if_neg (fun w2 => l (by rw [w2]; exact hv))]
        exact l
    · rw [hB q (by omega)]
      obtain ⟨d0, d1, d2, d3⟩ := H3 q (by omega)
      refine ⟨d0, d1, ?_, fun e he => ?_⟩
      · rw [hV _ (md _), if_neg (fun w2 => by rw [w2, hv] at d2; omega)]
        exact d2
      · have l := d3 e he
        rw [hV _ (md _)]
        by_cases w2 : (h (Bs q) + e) % 4096 = (h b + d) % 4096
        · rw [if_pos w2]; omega
        · rw [if_neg w2]; exact l
theorem HT_0 {h : Int64 → Nat} {V : Nat → Int} {Bs : Nat → Int64} (hv : ∀ p : Nat, p < 4096 → V p = -1) : HT9 h V Bs 0 := ⟨fun p hp => Or.inl (hv p hp), fun p p' h1 h2 h3 => absurd (hv p (by omega)) h3, fun q hq => by omega⟩
/-- a place is free -/
theorem HT_fr {h : Int64 → Nat} {V : Nat → Int} {Bs : Nat → Int64} {m : Int} (H : HT9 h V Bs m) (hm : m ≤ 1500) : ∃ p : Nat, p < 4096 ∧ V p = -1 := by
  apply Classical.byContradiction
  intro w
  have hx : ∀ p : Nat, p < 4096 → V p ≠ -1 := fun p hp e => w ⟨p, hp, e⟩
  have := fb_holes 1500 4096 (fun p => (V p).toNat) (fun p hp => by
    have a := H.1 p hp
    have b := hx p hp
    show (V p).toNat < 1500
    omega) (fun p p' hpp hp' => by
    have a := H.1 p (by omega)
    have a2 := H.1 p' hp'
    have b := hx p (by omega)
    have b2 := hx p' hp'
    have c := H.2.1 p p' hpp hp' b
    show (V p).toNat ≠ (V p').toNat
    omega)
  omega
/-- all are never looked at in vain -/
theorem HT_fu {h : Int64 → Nat} {V : Nat → Int} {Bs : Nat → Int64} {m : Int} {b : Int64} (H : HT9 h V Bs m) (hm : m ≤ 1500) (hp : LK9 h V Bs b 4096) : False := by
  obtain ⟨p, p1, p2⟩ := HT_fr H hm
  have l := (hp ((p + 4096 - h b % 4096) % 4096) (Nat.mod_lt _ (by omega))).1
  have e : (h b + (p + 4096 - h b % 4096) % 4096) % 4096 = p := by omega
  rw [e] at l
  exact l p2
theorem LK_0 {h : Int64 → Nat} {V : Nat → Int} {Bs : Nat → Int64} {b : Int64} : LK9 h V Bs b 0 := fun e he => by omega
theorem LK_s {h : Int64 → Nat} {V : Nat → Int} {Bs : Nat → Int64} {b : Int64} {d : Nat} (hp : LK9 h V Bs b d) (h1 : V ((h b + d) % 4096) ≠ -1) (h2 : Bs (V ((h b + d) % 4096)).toNat ≠ b) : LK9 h V Bs b (d + 1) := fun e he => by
  by_cases w : e = d
  · subst w; exact ⟨h1, h2⟩
  · exact hp e (by omega)
/-- all sets are cuts: none of their segments cross -/
def LX9 (X Y A Bb : Nat → Int) (c : Nat) (Bs : Nat → Int64) (m : Int) : Prop := ∀ q : Nat, (q : Int) < m → ∃ f : Nat → Bool, NX9 X Y A Bb c f ∧ Bs q = PB f c
theorem LX_a {X Y A Bb : Nat → Int} {c : Nat} {Bs : Nat → Int64} {m : Int} {b : Int64} (h : LX9 X Y A Bb c Bs m) (hb : ∃ f : Nat → Bool, NX9 X Y A Bb c f ∧ b = PB f c) : LX9 X Y A Bb c (vp_updL Bs m.toNat b) (m + 1) := fun q hq => by
  by_cases e : (q : Int) = m
  · rw [show q = m.toNat by omega, pk_uLs]; exact hb
  · rw [pk_uLn (by omega)]; exact h q (by omega)
theorem NV_x {X Y A Bb : Nat → Int} {n : Int} {c : Nat} {m : Int} (hs : os_s X Y n) (hO : OL (SGP X Y n) m A Bb) (hc : (c : Int) ≤ m) {b v : Int64} {k : Nat} (h : NV9 X Y A Bb n.toNat c b k v) (hv : v ≠ 0) : ∃ f : Nat → Bool, NX9 X Y A Bb c f ∧ v = PB f c := by
  rcases h with ⟨f, o, a1, a2, a3, a4⟩ | ⟨a1, _⟩
  · exact ⟨fl9 f k o, fl_NX hs hO hc a1 a3, a4⟩
  · exact absurd a1 hv

/-! steps told by the set i, the segment k -/
theorem RI_k {NV : Int64 → Nat → Int64 → Prop} {b0 b : Int64} {i k m : Int} {Bs : Nat → Int64} {D : Nat → Int} (hi : 0 ≤ i) (hk : 0 ≤ k ∧ k < 64) (h : RS9 NV b0 (64 * i + k).toNat m Bs D 0) (hm : i < m) (hb : NV (Bs i.toNat) k.toNat b) (e : b = 0 ∨ ∃ q : Nat, (q : Int) < m ∧ Bs q = b) : RS9 NV b0 (64 * i + (k + 1)).toNat m Bs D 0 := by
  have e1 : (64 * i + k).toNat / 64 = i.toNat := by omega
  have e2 : (64 * i + k).toNat % 64 = k.toNat := by omega
  rw [show (64 * i + (k + 1)).toNat = (64 * i + k).toNat + 1 by omega]
  exact RS_k h (by omega) (b := b) (by rw [e1, e2]; exact hb) e
theorem RI_s {NV : Int64 → Nat → Int64 → Prop} {b0 b : Int64} {i k m : Int} {Bs : Nat → Int64} {D : Nat → Int} (hi : 0 ≤ i) (hk : 0 ≤ k ∧ k < 64) (h : RS9 NV b0 (64 * i + k).toNat m Bs D 0) (hm : i < m) (hb : NV (Bs i.toNat) k.toNat b) (e1 : b ≠ 0) (e2 : ∀ q : Nat, (q : Int) < m → Bs q ≠ b) (e3 : m = 1500) : ∃ T : Nat, RS9 NV b0 T m Bs D 1 := by
  have d1 : (64 * i + k).toNat / 64 = i.toNat := by omega
  have d2 : (64 * i + k).toNat % 64 = k.toNat := by omega
  exact ⟨_, RS_s h (by omega) (b := b) (by rw [d1, d2]; exact hb) e1 e2 e3⟩
theorem RI_a {NV : Int64 → Nat → Int64 → Prop} {b0 b : Int64} {i k m d : Int} {Bs : Nat → Int64} {D : Nat → Int} (hi : 0 ≤ i) (hk : 0 ≤ k ∧ k < 64) (h : RS9 NV b0 (64 * i + k).toNat m Bs D 0) (hm : i < m) (hb : NV (Bs i.toNat) k.toNat b) (e1 : b ≠ 0) (e2 : ∀ q : Nat, (q : Int) < m → Bs q ≠ b) (e3 : m < 1500) (hd : d = D i.toNat + 1) : RS9 NV b0 (64 * i + (k + 1)).toNat (m + 1) (vp_updL Bs m.toNat b) (upI D m.toNat d) 0 := by
  have d1 : (64 * i + k).toNat / 64 = i.toNat := by omega
  have d2 : (64 * i + k).toNat % 64 = k.toNat := by omega
  rw [show (64 * i + (k + 1)).toNat = (64 * i + k).toNat + 1 by omega]
  exact RS_a h (by omega) (b := b) (by rw [d1, d2]; exact hb) e1 e2 e3 (by rw [d1]; exact hd)
theorem RI_j {NV : Int64 → Nat → Int64 → Prop} {b0 : Int64} {i k k' m : Int} {Bs : Nat → Int64} {D : Nat → Int} (hi : 0 ≤ i) (hk : 0 ≤ k ∧ k ≤ k' ∧ k' ≤ 64) (h : RS9 NV b0 (64 * i + k).toNat m Bs D 0) (hm : i < m) (hz : ∀ j : Nat, k ≤ j → (j : Int) < k' → NV (Bs i.toNat) j 0) : RS9 NV b0 (64 * i + k').toNat m Bs D 0 := by
  have q := RS_j (NV := NV) (b0 := b0) (i := i.toNat) (m := m) (Bs := Bs) (D := D) (by omega) (k := k.toNat) (k'.toNat - k.toNat) (by omega) (fun j j1 j2 => hz j (by omega) (by omega)) (by rw [show 64 * i.toNat + k.toNat = (64 * i + k).toNat by omega]; exact h)
  rw [show 64 * i.toNat + (k.toNat + (k'.toNat - k.toNat)) = (64 * i + k').toNat by omega] at q
  exact q
/-- how many of the first m have a property -/
def cn9 (P : Nat → Prop) (m : Nat) (z : Int) : Prop := ∃ w : Nat → Int, w 0 = 0 ∧ w m = z ∧ ∀ q : Nat, q < m → (P q ∧ w (q + 1) = w q + 1) ∨ (¬ P q ∧ w (q + 1) = w q)
theorem cn9_0 {P : Nat → Prop} : cn9 P 0 0 := ⟨fun _ => 0, rfl, rfl, fun q hq => by omega⟩
theorem cn9_s {P : Nat → Prop} {m : Int} {z z' : Int} (hm : 0 ≤ m) (h : cn9 P m.toNat z) (e : (P m.toNat ∧ z' = z + 1) ∨ (¬ P m.toNat ∧ z' = z)) : cn9 P (m + 1).toNat z' := by
  obtain ⟨w, w0, w1, w2⟩ := h
  rw [show (m + 1).toNat = m.toNat + 1 by omega]
  refine ⟨upI w (m.toNat + 1) z', by rw [upI_n (by omega)]; exact w0, upI_s, fun q hq => ?_⟩
  by_cases g : q = m.toNat
  · subst g
    rw [upI_s, upI_n (by omega), w1]; exact e
  · rw [upI_n (by omega), upI_n (by omega)]; exact w2 q (by omega)


/-! ===== cuts: the reference ===== -/
def NTp (e : Int) (X Y : Nat → Int) (n c : Int) (A Bb S : Nat → Int) (P : Int → Int → Prop) : Prop := ∀ x y : Int, 0 ≤ x → x < y → y < n → P x y → (S (12 * x + y).toNat = e ∧ ¬ SGP X Y n x y) ∨ ((0 ≤ S (12 * x + y).toNat ∧ S (12 * x + y).toNat < c) ∧ A (S (12 * x + y).toNat).toNat = x ∧ Bb (S (12 * x + y).toNat).toNat = y)
/-- the numbers of the segments -/
def NT9 (e : Int) (X Y : Nat → Int) (n c : Int) (A Bb S : Nat → Int) : Prop := NTp e X Y n c A Bb S (fun _ _ => True)
theorem NT_c {e : Int} {X Y : Nat → Int} {n c : Int} {A Bb S : Nat → Int} {P Q : Int → Int → Prop} (h : NTp e X Y n c A Bb S P) (k : ∀ x y : Int, 0 ≤ x → x < y → y < n → Q x y → P x y) : NTp e X Y n c A Bb S Q := fun x y h1 h2 h3 q => h x y h1 h2 h3 (k x y h1 h2 h3 q)
theorem NT_n {e : Int} {X Y : Nat → Int} {n c a b : Int} {A Bb S : Nat → Int} {P Q : Int → Int → Prop} (h : NTp e X Y n c A Bb S P) (ha : 0 ≤ a ∧ a < b ∧ b < n) (hn : n ≤ 12) (hs : ¬ SGP X Y n a b) (k : ∀ x y : Int, Q x y → P x y ∨ (x = a ∧ y = b)) : NTp e X Y n c A Bb (upI S (12 * a + b).toNat e) Q := fun x y h1 h2 h3 q => by
  by_cases w : x = a ∧ y = b
  · rw [w.1, w.2, upI_s]; exact Or.inl ⟨rfl, hs⟩
  · rw [upI_n (by omega)]
    rcases k x y q with v | v
    · exact h x y h1 h2 h3 v
    · exact absurd v w
theorem NT_y {e : Int} {X Y : Nat → Int} {n c a b : Int} {A Bb S S' : Nat → Int} {P Q : Int → Int → Prop} (h : NTp e X Y n c A Bb S P) (ha : 0 ≤ a ∧ a < b ∧ b < n) (hn : n ≤ 12) (hc : 0 ≤ c) (hS : ∀ k : Nat, S' k = if k = (12 * a + b).toNat then c else S k) (k : ∀ x y : Int, Q x y → P x y ∨ (x = a ∧ y = b)) : NTp e X Y n (c + 1) (upI A c.toNat a) (upI Bb c.toNat b) S' Q := fun x y h1 h2 h3 q => by
  by_cases w : x = a ∧ y = b
  · rw [w.1, w.2, hS, if_pos rfl, upI_s, upI_s]; exact Or.inr ⟨by omega, rfl, rfl⟩
  · rw [hS, if_neg (by omega)]
    rcases k x y q with v | v
    · rcases h x y h1 h2 h3 v with r | ⟨r1, r2, r3⟩
      · exact Or.inl r
      · exact Or.inr ⟨by omega, by rw [upI_n (by omega)]; exact r2, by rw [upI_n (by omega)]; exact r3⟩
    · exact absurd v w
def sgp9 (X Y : Nat → Int) (n a b : Int) : Int → Int → Prop := fun x y => SGP X Y n x y ∧ (x < a ∨ (x = a ∧ y < b))
theorem sg_y9 {X Y : Nat → Int} {n a b c : Int} {A Bb : Nat → Int} (h : OL (sgp9 X Y n a b) c A Bb) (hs : SGP X Y n a b) : OL (sgp9 X Y n a (b + 1)) (c + 1) (upI A c.toNat a) (upI Bb c.toNat b) := OL_p (p := a) (q := b) h (fun x y w => w.2) (fun x y => by
  unfold sgp9
  constructor
  · rintro ⟨w1, w2⟩
    by_cases e : x = a ∧ y = b
    · exact Or.inr e
    · exact Or.inl ⟨w1, by omega⟩
  · rintro (⟨w1, w2⟩ | ⟨w1, w2⟩)
    · exact ⟨w1, by omega⟩
    · rw [w1, w2]; exact ⟨hs, by omega⟩)
theorem sg_n9 {X Y : Nat → Int} {n a b c : Int} {A Bb : Nat → Int} (h : OL (sgp9 X Y n a b) c A Bb) (hs : ¬ SGP X Y n a b) : OL (sgp9 X Y n a (b + 1)) c A Bb := OL_c h (fun x y => by
  unfold sgp9
  constructor
  · rintro ⟨w1, w2⟩; exact ⟨w1, by omega⟩
  · rintro ⟨w1, w2⟩
    refine ⟨w1, ?_⟩
    by_cases e : x = a ∧ y = b
    · rw [e.1, e.2] at w1; exact absurd w1 hs
    · omega)
theorem sg_e9 {X Y : Nat → Int} {n a b c : Int} {A Bb : Nat → Int} (h : OL (sgp9 X Y n a b) c A Bb) (hb : n ≤ b) : OL (sgp9 X Y n (a + 1) (a + 1 + 1)) c A Bb := OL_c h (fun x y => by
  unfold sgp9
  constructor
  · rintro ⟨w1, w2⟩; exact ⟨w1, by omega⟩
  · rintro ⟨w1, w2⟩; exact ⟨w1, by have := w1.1; omega⟩)
theorem sg_f9 {X Y : Nat → Int} {n a b c : Int} {A Bb : Nat → Int} (h : OL (sgp9 X Y n a b) c A Bb) (ha : n ≤ a) : OL (SGP X Y n) c A Bb := OL_c h (fun x y => by
  unfold sgp9
  exact ⟨fun w => w.1, fun w => ⟨w, by have := w.1; omega⟩⟩)
theorem sg_09 {X Y A Bb : Nat → Int} {n : Int} : OL (sgp9 X Y n 0 (0 + 1)) 0 A Bb := OL_0 (fun x y w => by have q := w.1.1; have := w.2; omega)
theorem sg_639 {X Y A Bb : Nat → Int} {n a b c : Int} (h : OL (sgp9 X Y n a b) c A Bb) (hn : n ≤ 12) : c ≤ 63 := SG_63 h (fun _ _ w => w.1) hn
/-- the number of a segment, asked for by its ends in any order -/
theorem bt_s {X Y : Nat → Int} {n c a b z : Int} {A Bb S : Nat → Int} (hO : OL (SGP X Y n) c A Bb) (h : NT9 (-9) X Y n c A Bb S) (ha : 0 ≤ a ∧ a < n) (hb : 0 ≤ b ∧ b < n) (hne : a ≠ b) (hz : (a < b ∧ z = S (12 * a + b).toNat) ∨ (b ≤ a ∧ z = S (12 * b + a).toNat)) : (z = -9 ∧ ∀ k : Nat, (k : Int) < c → ¬ ((A k = a ∧ Bb k = b) ∨ (A k = b ∧ Bb k = a))) ∨ ((0 ≤ z ∧ z < c) ∧ ((A z.toNat = a ∧ Bb z.toNat = b) ∨ (A z.toNat = b ∧ Bb z.toNat = a))) := by
  rcases hz with ⟨h1, e⟩ | ⟨h1, e⟩
  · rcases h a b ha.1 h1 hb.2 trivial with ⟨q1, q2⟩ | ⟨q1, q2, q3⟩
    · refine Or.inl ⟨by omega, fun k hk w => ?_⟩
      have g := OL_in hO hk
      rcases w with ⟨w1, w2⟩ | ⟨w1, w2⟩
      · rw [w1, w2] at g; exact q2 g
      · have := g.1; omega
    · rw [← e] at q1 q2 q3
      exact Or.inr ⟨q1, Or.inl ⟨q2, q3⟩⟩
  · rcases h b a hb.1 (by omega) ha.2 trivial with ⟨q1, q2⟩ | ⟨q1, q2, q3⟩
    · refine Or.inl ⟨by omega, fun k hk w => ?_⟩
      have g := OL_in hO hk
      rcases w with ⟨w1, w2⟩ | ⟨w1, w2⟩
      · have := g.1; omega
      · rw [w1, w2] at g; exact q2 g
    · rw [← e] at q1 q2 q3
      exact Or.inr ⟨q1, Or.inr ⟨q2, q3⟩⟩
def hs9 (x : Int64) (k z : Int) : Prop := (z = 1 ∧ k ≠ -9 ∧ bvI x k = 1) ∨ (z = 0 ∧ ¬ (k ≠ -9 ∧ bvI x k = 1))
theorem hs_r {x : Int64} {k z : Int} (h : hs9 x k z) : z = 0 ∨ z = 1 := by
  rcases h with h | h
  · exact Or.inr h.1
  · exact Or.inl h.1
theorem hs_k {x : Int64} {k z : Int} {f : Nat → Bool} {c : Nat} (h : hs9 x k z) (hx : x = PB f c) (hc : c ≤ 64) (hk : 0 ≤ k ∧ k < c) : z = 1 ↔ f k.toNat = true := by
  have e : bvI x k = 1 ↔ f k.toNat = true := by
    rw [bvI_1 (by omega), hx, gb_PB c hc, decide_eq_true (show k.toNat < c by omega), Bool.true_and]
  rcases h with ⟨h1, h2, h3⟩ | ⟨h1, h2⟩
  · exact ⟨fun _ => e.mp h3, fun _ => h1⟩
  · exact ⟨fun q => by omega, fun q => absurd ⟨by omega, e.mpr q⟩ h2⟩
/-- whether a segment is in a set, asked for by its ends -/
theorem hs_s {X Y : Nat → Int} {n c a b z w : Int} {A Bb S : Nat → Int} {x : Int64} {f : Nat → Bool} (hO : OL (SGP X Y n) c A Bb) (h : NT9 (-9) X Y n c A Bb S) (hc : c ≤ 63) (ha : 0 ≤ a ∧ a < n) (hb : 0 ≤ b ∧ b < n) (hne : a ≠ b) (hz : (a < b ∧ z = S (12 * a + b).toNat) ∨ (b ≤ a ∧ z = S (12 * b + a).toNat)) (hh : hs9 x z w) (hx : x = PB f c.toNat) : w = 1 ↔ SM9 A Bb c.toNat f a.toNat b.toNat := by
  have ea := Int.toNat_of_nonneg ha.1
  have eb := Int.toNat_of_nonneg hb.1
  rcases bt_s hO h ha hb hne hz with ⟨q1, q2⟩ | ⟨q1, q2⟩
  · constructor
    · intro v
      rcases hh with ⟨_, h2, _⟩ | ⟨h1, _⟩
      · exact absurd q1 h2
      · omega
    · rintro ⟨k, k1, k2, k3⟩
      rw [ea, eb] at k3
      exact absurd k3 (q2 k (by omega))
  · rw [hs_k hh hx (by omega) (by omega)]
    constructor
    · intro v; exact ⟨z.toNat, by omega, v, by rw [ea, eb]; exact q2⟩
    · rintro ⟨k, k1, k2, k3⟩
      rw [ea, eb] at k3
      have l := (OL_in hO (a := k) (by omega)).1
      have l' := (OL_in hO (a := z.toNat) (by omega)).1
      have e : k = z.toNat := sg_u hO (by omega) (by omega) (by rcases k3 with k3 | k3 <;> rcases q2 with q2 | q2 <;> omega)
      rw [← e]; exact k2
/-- the first cut, one segment more -/
theorem fc_y {X Y A Bb : Nat → Int} {k : Int} {f : Nat → Bool} {x : Int64} (hk : 0 ≤ k) (h : FC9 X Y A Bb k.toNat f) (hx : x = PB f k.toNat) (hc : ∀ j : Nat, (j : Int) < k → f j = true → ¬ XS9 X Y A Bb j k.toNat) : ∃ g : Nat → Bool, FC9 X Y A Bb (k + 1).toNat g ∧ x ||| ((1 : Int64) <<< ((J k).toInt64 &&& 63)) = PB g (k + 1).toNat := by
  refine ⟨fun i => if i = k.toNat then true else f i, fun i hi => ?_, ?_⟩
  · show (if i = k.toNat then true else f i) = true ↔ ∀ j : Nat, j < i → (if j = k.toNat then true else f j) = true → ¬ XS9 X Y A Bb i j
    by_cases e : i = k.toNat
    · subst e
      rw [if_pos rfl]
      refine ⟨fun _ j hj fj w => ?_, fun _ => rfl⟩
      rw [if_neg (by omega)] at fj
      exact hc j (by omega) fj (XC_s w)
    · rw [if_neg e, h i (by omega)]
      exact ⟨fun q j hj fj => q j hj (by rw [if_neg (by omega)] at fj; exact fj), fun q j hj fj => q j hj (by rw [if_neg (by omega)]; exact fj)⟩
  · rw [show (k + 1).toNat = k.toNat + 1 by omega]
    show _ = PB _ k.toNat ||| (if (if k.toNat = k.toNat then true else f k.toNat) = true then (1 : Int64) <<< ((J ((k.toNat : Nat) : Int)).toInt64 &&& 63) else 0)
    rw [if_pos (by rw [if_pos rfl]), Int.toNat_of_nonneg hk, hx, PB_c (f := f) (g := fun i => if i = k.toNat then true else f i) (fun i hi => (if_neg (by omega)).symm)]
theorem fc_n {X Y A Bb : Nat → Int} {k : Int} {f : Nat → Bool} {x : Int64} (hk : 0 ≤ k) (h : FC9 X Y A Bb k.toNat f) (hx : x = PB f k.toNat) (hc : ∃ j : Nat, (j : Int) < k ∧ f j = true ∧ XS9 X Y A Bb j k.toNat) : ∃ g : Nat → Bool, FC9 X Y A Bb (k + 1).toNat g ∧ x ||| 0 = PB g (k + 1).toNat := by
  refine ⟨fun i => if i = k.toNat then false else f i, fun i hi => ?_, ?_⟩
  · show (if i = k.toNat then false else f i) = true ↔ ∀ j : Nat, j < i → (if j = k.toNat then false else f j) = true → ¬ XS9 X Y A Bb i j
    by_cases e : i = k.toNat
    · subst e
      rw [if_pos rfl]
      refine ⟨fun q => (by cases q), fun q => ?_⟩
      obtain ⟨j, j1, j2, j3⟩ := hc
      exact absurd (XC_s j3) (q j (by omega) (by rw [if_neg (by omega)]; exact j2))
    · rw [if_neg e, h i (by omega)]
      exact ⟨fun q j hj fj => q j hj (by rw [if_neg (by omega)] at fj; exact fj), fun q j hj fj => q j hj (by rw [if_neg (by omega)]; exact fj)⟩
  · rw [show (k + 1).toNat = k.toNat + 1 by omega]
    show _ = PB _ k.toNat ||| (if (if k.toNat = k.toNat then false else f k.toNat) = true then (1 : Int64) <<< ((J ((k.toNat : Nat) : Int)).toInt64 &&& 63) else 0)
    rw [if_neg (by rw [if_pos rfl]; decide), Int64.or_zero, Int64.or_zero, hx, PB_c (f := f) (g := fun i => if i = k.toNat then false else f i) (fun i hi => (if_neg (by omega)).symm)]
def fcE (X Y A Bb : Nat → Int) (k : Int) (x : Int64) : Prop := ∃ f : Nat → Bool, FC9 X Y A Bb k.toNat f ∧ x = PB f k.toNat
def fcN (X Y A Bb : Nat → Int) (f : Nat → Bool) (k : Int) : Prop := ∃ j : Nat, (j : Int) < k ∧ f j = true ∧ XS9 X Y A Bb j k.toNat
/-- a triangle of a set beside the segment k -/
def TR9 (X Y A Bb : Nat → Int) (c : Nat) (f : Nat → Bool) (k p : Nat) (s : Int) : Prop := tn X Y (A k).toNat (Bb k).toNat p = s ∧ SM9 A Bb c f (A k).toNat p ∧ SM9 A Bb c f (Bb k).toNat p
/-- no triangle on one side, or the segment isn't there: no flip -/
theorem fp_0 {X Y A Bb : Nat → Int} {n c k : Nat} {f : Nat → Bool} {x : Int64} (h64 : c ≤ 64) (hx : x = PB f c) (h : f k = false ∨ (∀ p : Nat, p < n → ¬ TR9 X Y A Bb c f k p 1) ∨ ∀ p : Nat, p < n → ¬ TR9 X Y A Bb c f k p (-1)) : NV9 X Y A Bb n c x k 0 := Or.inr ⟨rfl, fun g hg o w => by
  obtain ⟨⟨k1, k2, k3⟩, p, q, ⟨p1, p2⟩, p3, p4, ⟨s1, s2, s3, s4⟩, e⟩ := FL_c (PB_e6 h64 (hg.symm.trans hx)) w
  rcases h with h | h | h
  · rw [h] at k3; cases k3
  · exact h p p1 ⟨p3, s1, s2⟩
  · exact h q p2 ⟨(dia_2 p3 p4.1 p4.2).1, s3, s4⟩⟩
/-- both triangles, but no other diagonal -/
theorem fp_1 {X Y A Bb : Nat → Int} {n c k p q : Nat} {f : Nat → Bool} {x : Int64} (h64 : c ≤ 64) (hs : os_s X Y n) (hx : x = PB f c) (hN : NX9 X Y A Bb c f) (hp : p < n) (hq : q < n) (t1 : TR9 X Y A Bb c f k p 1) (t2 : TR9 X Y A Bb c f k q (-1)) (h : ∀ o : Nat, o < c → ((A o = p ∧ Bb o = q) ∨ (A o = q ∧ Bb o = p)) → ¬ XS9 X Y A Bb k o) : NV9 X Y A Bb n c x k 0 := Or.inr ⟨rfl, fun g hg o w => by
  have w2 := FL_c (PB_e6 h64 (hg.symm.trans hx)) w
  have xx := FL_x w2
  obtain ⟨⟨k1, k2, k3⟩, p', q', ⟨p1, p2⟩, p3, p4, ⟨s1, s2, s3, s4⟩, e⟩ := w2
  have ep := tri_1 hs hN (by omega) (by omega) p3 t1.1 s1 s2 t1.2.1 t1.2.2
  have eq := tri_2 hs hN (by omega) (by omega) (dia_2 p3 p4.1 p4.2).1 t2.1 s3 s4 t2.2.1 t2.2.2
  rw [ep, eq] at e
  exact h o k2 e xx⟩
theorem gb_m1 {i : Nat} (h : i < 64) : gb (-1) i = true := by
  have e : ∀ j : Fin 64, gb (-1) j.1 = true := by decide +kernel
  exact e ⟨i, h⟩
theorem fl_b {f : Nat → Bool} {c : Nat} {k o : Int} {x : Int64} (hc : c ≤ 63) (hk : 0 ≤ k ∧ k < c) (ho : 0 ≤ o ∧ o < c) (hne : k ≠ o) (hx : x = PB f c) : (x &&& (((1 : Int64) <<< ((J k).toInt64 &&& 63)) ^^^ (-1))) ||| ((1 : Int64) <<< ((J o).toInt64 &&& 63)) = PB (fl9 f k.toNat o.toNat) c := by
  apply gb_e
  intro i hi
  have ek : k = ((k.toNat : Nat) : Int) := by omega
  have eo : o = ((o.toNat : Nat) : Int) := by omega
  rw [gb_or, gb_and, gb_xor, gb_m1 hi, ek, eo, gb_sh (show k.toNat < 64 by omega), gb_sh (show o.toNat < 64 by omega), hx, gb_PB c (by omega), gb_PB c (by omega), Int.toNat_natCast, Int.toNat_natCast]
  unfold fl9
  by_cases w1 : k.toNat = i
  · have w2 : ¬ o.toNat = i := by omega
    rw [decide_eq_true w1, decide_eq_false w2, if_pos w1.symm]
    simp
  · rw [decide_eq_false w1, if_neg (fun e => w1 e.symm)]
    by_cases w2 : o.toNat = i
    · rw [decide_eq_true w2, if_pos w2.symm, decide_eq_true (show i < c by omega)]
      simp
    · rw [decide_eq_false w2, if_neg (fun e => w2 e.symm)]
      simp
/-- a flip found -/
theorem fp_2 {X Y A Bb : Nat → Int} {n c k o p q : Nat} {f : Nat → Bool} {x v : Int64} (hx : x = PB f c) (hN : NX9 X Y A Bb c f) (hk : k < c) (ho : o < c) (hp : p < n) (hq : q < n) (fk : f k = true) (t1 : TR9 X Y A Bb c f k p 1) (t2 : TR9 X Y A Bb c f k q (-1)) (e : (A o = p ∧ Bb o = q) ∨ (A o = q ∧ Bb o = p)) (hxs : XS9 X Y A Bb k o) (hv : v = PB (fl9 f k o) c) : NV9 X Y A Bb n c x k v := by
  have xc : XC9 X Y (A k).toNat (Bb k).toNat p q := by
    unfold XS9 at hxs
    rcases e with ⟨e1, e2⟩ | ⟨e1, e2⟩
    · rw [e1, e2] at hxs; exact hxs
    · rw [e1, e2] at hxs; exact XC_g hxs
  exact Or.inl ⟨f, o, hN, hx, ⟨⟨hk, ho, fk⟩, p, q, ⟨hp, hq⟩, t1.1, dia_1 t1.1 t2.1 xc, ⟨t1.2.1, t1.2.2, t2.2.1, t2.2.2⟩, e⟩, hv⟩
theorem bf9 {b : Bool} (h : b ≠ true) : b = false := by
  cases b
  · rfl
  · exact absurd rfl h
/-- no segment for the other diagonal, or it doesn't cross -/
theorem fp_3 {X Y A Bb S : Nat → Int} {n c k p q z : Int} {f : Nat → Bool} {x : Int64} (hO : OL (SGP X Y n) c A Bb) (hNT : NT9 (-9) X Y n c A Bb S) (h63 : c ≤ 63) (hs : os_s X Y n) (hx : x = PB f c.toNat) (hN : NX9 X Y A Bb c.toNat f) (hp : 0 ≤ p ∧ p < n) (hq : 0 ≤ q ∧ q < n) (hne : p ≠ q) (t1 : TR9 X Y A Bb c.toNat f k.toNat p.toNat 1) (t2 : TR9 X Y A Bb c.toNat f k.toNat q.toNat (-1)) (hz : (p < q ∧ z = S (12 * p + q).toNat) ∨ (q ≤ p ∧ z = S (12 * q + p).toNat)) (h : z = -9 ∨ ¬ XS9 X Y A Bb k.toNat z.toNat) : NV9 X Y A Bb n.toNat c.toNat x k.toNat 0 := by
  refine fp_1 (by omega) (by rw [Int.toNat_of_nonneg (by omega)]; exact hs) hx hN (by omega) (by omega) t1 t2 (fun o ho e w => ?_)
  rw [Int.toNat_of_nonneg hp.1, Int.toNat_of_nonneg hq.1] at e
  rcases bt_s hO hNT hp hq hne hz with ⟨r1, r2⟩ | ⟨r1, r2⟩
  · exact r2 o (by omega) e
  · rcases h with h | h
    · omega
    · have l := (OL_in hO (a := o) (by omega)).1
      have l' := (OL_in hO (a := z.toNat) (by omega)).1
      have eo : o = z.toNat := sg_u hO (by omega) (by omega) (by rcases e with e | e <;> rcases r2 with r2 | r2 <;> omega)
      rw [eo] at w
      exact h w
theorem fp_4 {X Y A Bb S : Nat → Int} {n c k p q z : Int} {f : Nat → Bool} {x : Int64} (hO : OL (SGP X Y n) c A Bb) (hNT : NT9 (-9) X Y n c A Bb S) (h63 : c ≤ 63) (hx : x = PB f c.toNat) (hN : NX9 X Y A Bb c.toNat f) (hk : 0 ≤ k ∧ k < c) (fk : f k.toNat = true) (hp : 0 ≤ p ∧ p < n) (hq : 0 ≤ q ∧ q < n) (hne : p ≠ q) (t1 : TR9 X Y A Bb c.toNat f k.toNat p.toNat 1) (t2 : TR9 X Y A Bb c.toNat f k.toNat q.toNat (-1)) (hz : (p < q ∧ z = S (12 * p + q).toNat) ∨ (q ≤ p ∧ z = S (12 * q + p).toNat)) (h9 : z ≠ -9) (h : XS9 X Y A Bb k.toNat z.toNat) : NV9 X Y A Bb n.toNat c.toNat x k.toNat ((x &&& (((1 : Int64) <<< ((J k).toInt64 &&& 63)) ^^^ (-1))) ||| ((1 : Int64) <<< ((J z).toInt64 &&& 63))) := by
  rcases bt_s hO hNT hp hq hne hz with ⟨r1, _⟩ | ⟨r1, r2⟩
  · exact absurd r1 h9
  · have nk : k ≠ z := fun e => by rw [e] at h; exact XC_i h
    exact fp_2 (o := z.toNat) hx hN (by omega) (by omega) (by omega) (by omega) fk t1 t2 (by rw [Int.toNat_of_nonneg hp.1, Int.toNat_of_nonneg hq.1]; exact r2) h (fl_b (by omega) (by omega) (by omega) nk hx)
theorem sg_m {x y p q : Int} (hp : (p = 1 ∧ 0 < x) ∨ (p = -1 ∧ x < 0) ∨ (p = 0 ∧ x = 0)) (hq : (q = 1 ∧ 0 < y) ∨ (q = -1 ∧ y < 0) ∨ (q = 0 ∧ y = 0)) : p * q < 0 ↔ x * y < 0 := by
  rcases hp with ⟨p1, p2⟩ | ⟨p1, p2⟩ | ⟨p1, p2⟩ <;> rcases hq with ⟨q1, q2⟩ | ⟨q1, q2⟩ | ⟨q1, q2⟩ <;> rw [p1, q1]
  · have := Int.mul_pos p2 q2; omega
  · have := Int.mul_pos p2 (show 0 < -y by omega); rw [Int.mul_neg] at this; omega
  · rw [q2, Int.mul_zero]; omega
  · have := Int.mul_pos (show 0 < -x by omega) q2; rw [Int.neg_mul] at this; omega
  · have := Int.mul_pos (show 0 < -x by omega) (show 0 < -y by omega); rw [Int.neg_mul_neg] at this; omega
  · rw [q2, Int.mul_zero]; omega
  · rw [p2, Int.zero_mul]; omega
  · rw [p2, Int.zero_mul]; omega
  · rw [p2, Int.zero_mul]; omega
/-- points few, in order, and their segments, in order -/
def CV (u : MS) : Prop := CU u ∧ os_s (u.1 10) (u.1 11) (u.2.2 12) ∧ OL (SGP (u.1 10) (u.1 11) (u.2.2 12)) (u.2.2 23) (u.1 20) (u.1 21) ∧ NT9 (-9) (u.1 10) (u.1 11) (u.2.2 12) (u.2.2 23) (u.1 20) (u.1 21) (u.1 22) ∧ u.2.2 23 ≤ 63
/-- places of the sets: the reference -/
def VM9 (W : Nat → Int) (p : Nat) : Int := if W p = -9 then -1 else W p
def hM9 (x : Int64) : Nat := (Int64.toInt32 (((x ^^^ (x >>> ((J 17).toInt64 &&& 63))) ^^^ (x >>> ((J 37).toInt64 &&& 63))) &&& 4095)).toInt.toNat
theorem VM_p {W : Nat → Int} {m : Int} {p : Nat} (h : W p = -9 ∨ (0 ≤ W p ∧ W p < m)) : (VM9 W p = -1 ↔ W p = -9) ∧ (W p ≠ -9 → VM9 W p = W p) := by
  unfold VM9
  by_cases e : W p = -9
  · rw [if_pos e]; exact ⟨⟨fun _ => e, fun _ => rfl⟩, fun q => absurd e q⟩
  · rw [if_neg e]; exact ⟨⟨fun q => by omega, fun q => absurd q e⟩, fun _ => rfl⟩
theorem VM_u {W : Nat → Int} {m : Int} {k : Nat} (hm : 0 ≤ m) : ∀ p : Nat, p < 4096 → VM9 (upI W k m) p = if p = k then m else VM9 W p := fun p _ => by
  unfold VM9
  by_cases e : p = k
  · subst e; rw [upI_s, if_pos rfl, if_neg (by omega)]
  · rw [upI_n e, if_neg e]
def SO9 (W : Nat → Int) (Bs : Nat → Int64) (x : Int64) (z : Int) : Prop := ∃ d : Nat, d < 4096 ∧ z.toNat = (hM9 x + d) % 4096 ∧ LK9 hM9 (VM9 W) Bs x d ∧ (VM9 W z.toNat = -1 ∨ (VM9 W z.toNat ≠ -1 ∧ Bs (VM9 W z.toNat).toNat = x))
/-- all cuts by flips of the first one -/
def FCT (X Y : Nat → Int) (n : Int) (A Bb : Nat → Int) (m : Int) (C : Nat → Int64) (F : Nat → Int) (c t : Int) : Prop := ∃ (f : Nat → Bool) (T : Nat), FC9 X Y A Bb m.toNat f ∧ RS9 (NV9 X Y A Bb n.toNat m.toNat) (PB f m.toNat) T c C F t ∧ (t = 1 ∨ c ≤ ((T / 64 : Nat) : Int)) ∧ LX9 X Y A Bb m.toNat C c
def fpA (X Y : Nat → Int) (n : Int) (A Bb : Nat → Int) (m : Int) (C : Nat → Int64) (c t i z : Int) : Prop := (t = 1 ∧ z = -5) ∨ (t = 0 ∧ ((c ≤ i ∧ z = -1) ∨ (i < c ∧ cn9 (fun k => ¬ NV9 X Y A Bb n.toNat m.toNat (C i.toNat) k 0) m.toNat z)))
def ctM (u : MS) (s : Int) : Prop := 2 < mN u s ∧ mEd u s + mIn u s ≤ 12
def fpM (u : MS) (s i z : Int) : Prop := (¬ ((0 ≤ s ∧ s ≤ 7) ∧ 0 ≤ i) ∧ z = -1) ∨ (((0 ≤ s ∧ s ≤ 7) ∧ 0 ≤ i) ∧ ((¬ ctM u s ∧ z = -2) ∨ (ctM u s ∧ ∃ (n : Int) (X Y : Nat → Int) (m : Int) (A Bb : Nat → Int) (C : Nat → Int64) (F : Nat → Int) (c t : Int), ((0 ≤ n ∧ n ≤ 12) ∧ OL (PBx u s) n X Y) ∧ (OL (SGP X Y n) m A Bb ∧ m ≤ 63) ∧ FCT X Y n A Bb m C F c t ∧ fpA X Y n A Bb m C c t i z)))


set_option maxHeartbeats 4000000 in
set_option maxRecDepth 100000 in
theorem c_X12_has3 (l : Launch) (D : JD) (x : Int64) (k : Int) (p0 : -2147483648 ≤ k ∧ k ≤ 2147483647) : Met l yX12_has (jw yX12_has cX12_has 3 (some .boolean)) (jr 0 0) (jP [.long x, .int (J k)] D (fun _ => True)) (jRi (fun z => hs9 x k z)) 0 0 (fun _ => False) := by
  refine Met.ofW (cc := cX12_has) (maxL := 3) (ret := (some .boolean)) (by decide) rfl ?_
  intro pr en st mi args below meth co s₁ B hml hv
  obtain ⟨rfl, hG, hP⟩ := hv
  have hr := B.returns
  have hlk := B.notSynchronized
  have SS : jS pr mi co cX12_has 3 st _ RX12 := ⟨B.exec, B.bytes, hml, findClass_of_methodNamed B.named, fun w hw => atoms_spec (ws := (jw yX12_has cX12_has 3 (some .boolean))) B.pre w (List.mem_cons_of_mem _ hw)⟩
  have hl := lv_entry ([.long x, .int (J k)]) (n := 3) (Nat.le_of_ble_eq_true rfl)
  rw [lg_entry_eq]
  generalize (lg_sl ([.long x, .int (J k)]) ++ List.replicate (3 - (lg_sl ([.long x, .int (J k)])).length) Slot.unset).toArray = ls at hl ⊢
  have hl : lv_has ls 3 [(0, .long x), (2, .int (J k))] := hl
  refine lv_iload_n SS.1 SS.2.1 dX12_has_0 rfl (lv_at hl 1 rfl) ?_
  refine j_bipush SS dX12_has_1 (by decide +kernel) ?_
  refine j_icmp_eq SS (tgt := 20) (x := k) (y := (-9)) dX12_has_3 (by decide) (by omega) (by decide) (fun c_3 => ?_) (fun c_3 => ?_)
  · skip
    refine j_iconst SS dX12_has_20 ?_
    exact W.zret SS.1 SS.2.1 hr (j_nz (by decide)) (fun t ht hW => ⟨_, rfl, ⟨0, rfl, (by first | exact Or.inl ⟨rfl, by omega, by unfold bvI; rw [← ex_8]; exact if_pos (hz_12.2.2.2.mp (by omega))⟩ | exact Or.inr ⟨rfl, fun q => absurd q.1 (by omega)⟩ | exact Or.inr ⟨rfl, fun q => by have q2 := q.2; unfold bvI at q2; rw [← ex_8, if_neg (fun w => by have := hz_12.2.2.2.mpr w; omega)] at q2; omega⟩)⟩, ht⟩) (fun _ h => nomatch h) dX12_has_21 hlk
  · skip
    refine lv_lload_n SS.1 SS.2.1 dX12_has_6 rfl (lv_at hl 0 rfl) ?_
    refine lv_iload_n SS.1 SS.2.1 dX12_has_7 rfl (lv_at hl 1 rfl) ?_
    refine lv_lshr SS.1 SS.2.1 dX12_has_8 rfl (lv_topl (fun x_8 ex_8 => ?_))
    refine lv_lconst (v := 1) SS.1 SS.2.1 dX12_has_9 (by decide +kernel) ?_
    refine lv_land SS.1 SS.2.1 dX12_has_10 ?_
    refine lv_lconst (v := 1) SS.1 SS.2.1 dX12_has_11 (by decide +kernel) ?_
    refine j_lcmp SS dX12_has_12 (fun z_12 hz_12 => ?_)
    refine j_if_ne SS (tgt := 20) (x := z_12) dX12_has_13 (by decide) (by omega) (fun c_13 => ?_) (fun c_13 => ?_)
    · skip
      refine j_iconst SS dX12_has_20 ?_
      exact W.zret SS.1 SS.2.1 hr (j_nz (by decide)) (fun t ht hW => ⟨_, rfl, ⟨0, rfl, (by first | exact Or.inl ⟨rfl, by omega, by unfold bvI; rw [← ex_8]; exact if_pos (hz_12.2.2.2.mp (by omega))⟩ | exact Or.inr ⟨rfl, fun q => absurd q.1 (by omega)⟩ | exact Or.inr ⟨rfl, fun q => by have q2 := q.2; unfold bvI at q2; rw [← ex_8, if_neg (fun w => by have := hz_12.2.2.2.mpr w; omega)] at q2; omega⟩)⟩, ht⟩) (fun _ h => nomatch h) dX12_has_21 hlk
    · skip
      refine j_iconst SS dX12_has_16 ?_
      refine lv_goto (tgt := 21) SS.1 SS.2.1 dX12_has_17 (by decide) ?_
      exact W.zret SS.1 SS.2.1 hr (j_nz (by decide)) (fun t ht hW => ⟨_, rfl, ⟨1, rfl, (by first | exact Or.inl ⟨rfl, by omega, by unfold bvI; rw [← ex_8]; exact if_pos (hz_12.2.2.2.mp (by omega))⟩ | exact Or.inr ⟨rfl, fun q => absurd q.1 (by omega)⟩ | exact Or.inr ⟨rfl, fun q => by have q2 := q.2; unfold bvI at q2; rw [← ex_8, if_neg (fun w => by have := hz_12.2.2.2.mpr w; omega)] at q2; omega⟩)⟩, ht⟩) (fun _ h => nomatch h) dX12_has_21 hlk

set_option maxHeartbeats 4000000 in
set_option maxRecDepth 100000 in
theorem c_X12_doCross3 (l : Launch) (D : JD) (o : Nat) (q : Nat → Nat) (u : MS) (s : Int) (t : Int) (p0 : CU u) (p1 : 0 ≤ s ∧ s < u.2.2 23) (p2 : 0 ≤ t ∧ t < u.2.2 23) : Met l yX12_doCross (jw yX12_doCross cX12_doCross 7 (some .boolean)) (jr 2 46) (jP [.ref o, .int (J s), .int (J t)] D (fun H => va_P D.1 j_cl (mW D o q u) H)) (jRi (fun z => (z = 1 ∧ XS9 (u.1 10) (u.1 11) (u.1 20) (u.1 21) s.toNat t.toNat) ∨ (z = 0 ∧ ¬ XS9 (u.1 10) (u.1 11) (u.1 20) (u.1 21) s.toNat t.toNat))) 0 0 (fun _ => False) := by
  refine Met.ofW (cc := cX12_doCross) (maxL := 7) (ret := (some .boolean)) (by decide) rfl ?_
  intro pr en st mi args below meth co s₁ B hml hv
  obtain ⟨rfl, hG, hP⟩ := hv
  have hr := B.returns
  have hlk := B.notSynchronized
  have SS : jS pr mi co cX12_doCross 7 st _ RX12 := ⟨B.exec, B.bytes, hml, findClass_of_methodNamed B.named, fun w hw => atoms_spec (ws := (jw yX12_doCross cX12_doCross 7 (some .boolean))) B.pre w (List.mem_cons_of_mem _ hw)⟩
  have hl := lv_entry ([.ref o, .int (J s), .int (J t)]) (n := 7) (Nat.le_of_ble_eq_true rfl)
  rw [lg_entry_eq]
  generalize (lg_sl ([.ref o, .int (J s), .int (J t)]) ++ List.replicate (7 - (lg_sl ([.ref o, .int (J s), .int (J t)])).length) Slot.unset).toArray = ls at hl ⊢
  have hl : lv_has ls 7 [(0, .ref o), (1, .int (J s)), (2, .int (J t))] := hl
  have hsg := p0.2.2.1
  have hal := p0.1
  have g1 := sg_at p0.2.2 (k := s) (by omega) (by omega)
  have g2 := sg_at p0.2.2 (k := t) (by omega) (by omega)
  refine lv_aload_n SS.1 SS.2.1 dX12_doCross_0 rfl (lv_at hl 0 rfl) ?_
  refine j_get SS hG hP 0 (v := .ref (q 20)) (C := RX12) (T := TX12) (N := 31) rfl rfl inX12 20 (by decide) (ref := RX12) kw_1078 rfl rfl dX12_doCross_1 ?_
  refine lv_iload_n SS.1 SS.2.1 dX12_doCross_4 rfl (lv_at hl 1 rfl) ?_
  refine j_iald SS hG hP 17 (n := 66) (f := (u.1 20)) rfl (z := s) (by omega) (by omega) dX12_doCross_5 ?_
  refine lv_istore_n (lv' := [(3, .int (J ((u.1 20) (s).toNat))), (0, .ref o), (1, .int (J s)), (2, .int (J t))]) SS.1 SS.2.1 dX12_doCross_6 rfl hl (by decide) rfl (fun ls hl => ?_)
  refine lv_aload_n SS.1 SS.2.1 dX12_doCross_7 rfl (lv_at hl 1 rfl) ?_
  refine j_get SS hG hP 0 (v := .ref (q 21)) (C := RX12) (T := TX12) (N := 31) rfl rfl inX12 21 (by decide) (ref := RX12) kw_1079 rfl rfl dX12_doCross_8 ?_
  refine lv_iload_n SS.1 SS.2.1 dX12_doCross_11 rfl (lv_at hl 2 rfl) ?_
  refine j_iald SS hG hP 18 (n := 66) (f := (u.1 21)) rfl (z := s) (by omega) (by omega) dX12_doCross_12 ?_
  refine lv_istore (lv' := [(4, .int (J ((u.1 21) (s).toNat))), (3, .int (J ((u.1 20) (s).toNat))), (0, .ref o), (1, .int (J s)), (2, .int (J t))]) SS.1 SS.2.1 dX12_doCross_13 hl (by decide) rfl (fun ls hl => ?_)
  refine lv_aload_n SS.1 SS.2.1 dX12_doCross_15 rfl (lv_at hl 2 rfl) ?_
  refine j_get SS hG hP 0 (v := .ref (q 20)) (C := RX12) (T := TX12) (N := 31) rfl rfl inX12 20 (by decide) (ref := RX12) kw_1078 rfl rfl dX12_doCross_16 ?_
  refine lv_iload_n SS.1 SS.2.1 dX12_doCross_19 rfl (lv_at hl 4 rfl) ?_
  refine j_iald SS hG hP 17 (n := 66) (f := (u.1 20)) rfl (z := t) (by omega) (by omega) dX12_doCross_20 ?_
  refine lv_istore (lv' := [(5, .int (J ((u.1 20) (t).toNat))), (4, .int (J ((u.1 21) (s).toNat))), (3, .int (J ((u.1 20) (s).toNat))), (0, .ref o), (1, .int (J s)), (2, .int (J t))]) SS.1 SS.2.1 dX12_doCross_21 hl (by decide) rfl (fun ls hl => ?_)
  refine lv_aload_n SS.1 SS.2.1 dX12_doCross_23 rfl (lv_at hl 3 rfl) ?_
  refine j_get SS hG hP 0 (v := .ref (q 21)) (C := RX12) (T := TX12) (N := 31) rfl rfl inX12 21 (by decide) (ref := RX12) kw_1079 rfl rfl dX12_doCross_24 ?_
  refine lv_iload_n SS.1 SS.2.1 dX12_doCross_27 rfl (lv_at hl 5 rfl) ?_
  refine j_iald SS hG hP 18 (n := 66) (f := (u.1 21)) rfl (z := t) (by omega) (by omega) dX12_doCross_28 ?_
  refine lv_istore (lv' := [(6, .int (J ((u.1 21) (t).toNat))), (5, .int (J ((u.1 20) (t).toNat))), (4, .int (J ((u.1 21) (s).toNat))), (3, .int (J ((u.1 20) (s).toNat))), (0, .ref o), (1, .int (J s)), (2, .int (J t))]) SS.1 SS.2.1 dX12_doCross_29 hl (by decide) rfl (fun ls hl => ?_)
  refine lv_aload_n SS.1 SS.2.1 dX12_doCross_31 rfl (lv_at hl 4 rfl) ?_
  refine lv_iload_n SS.1 SS.2.1 dX12_doCross_32 rfl (lv_at hl 3 rfl) ?_
  refine lv_iload SS.1 SS.2.1 dX12_doCross_33 (lv_at hl 2 rfl) ?_
  refine lv_iload SS.1 SS.2.1 dX12_doCross_35 (lv_at hl 1 rfl) ?_
  refine j_vRi SS (As := [.int (J ((u.1 20) (s).toNat)), .int (J ((u.1 21) (s).toNat)), .int (J ((u.1 20) (t).toNat))]) (rest := []) (c_X12_turn l D o q u ((u.1 20) (s).toNat) ((u.1 21) (s).toNat) ((u.1 20) (t).toNat) (show 0 ≤ ((u.1 20) (s).toNat) ∧ ((u.1 20) (s).toNat) < 6561 from (by omega)) (show 0 ≤ ((u.1 21) (s).toNat) ∧ ((u.1 21) (s).toNat) < 6561 from (by omega)) (show 0 ≤ ((u.1 20) (t).toNat) ∧ ((u.1 20) (t).toNat) < 6561 from (by omega)) (show bd 40 ((u.1 10)) ((u.1 11)) 6561 from (p0.2.1))) mf_X12_turn kw_1427 hG hP hP (ci := 8) (q0 := 0) rfl rfl rfl rfl hl.1 ⟨⟨Nat.le_of_ble_eq_true rfl, Nat.le_of_ble_eq_true rfl⟩, Nat.le_of_ble_eq_true rfl, Nat.le_refl _, Nat.le_refl _⟩ rfl dX12_doCross_37 (fun z_37 h_37 => ?_)
  have h_37 : z_37 = tn ((u.1 10)) ((u.1 11)) ((u.1 20) (s).toNat).toNat ((u.1 21) (s).toNat).toNat ((u.1 20) (t).toNat).toNat ∧ -12800 ≤ z_37 ∧ z_37 ≤ 12800 := h_37
  refine j_sRi SS (As := [.int (J z_37)]) (rest := []) (c_X12_signOf l D z_37 (show -2147483648 ≤ z_37 ∧ z_37 ≤ 2147483647 from (by omega))) mf_X12_signOf kw_1431 hG trivial rfl hl.1 ⟨⟨Nat.le_of_ble_eq_true rfl, Nat.le_of_ble_eq_true rfl⟩, Nat.le_of_ble_eq_true rfl, Nat.le_refl _, Nat.le_refl _⟩ rfl dX12_doCross_40 (fun z_40 h_40 => ?_)
  have h_40 : (z_40 = 1 ∧ 0 < z_37) ∨ (z_40 = -1 ∧ z_37 < 0) ∨ (z_40 = 0 ∧ z_37 = 0) := h_40
  refine lv_aload_n SS.1 SS.2.1 dX12_doCross_43 rfl (lv_at hl 4 rfl) ?_
  refine lv_iload_n SS.1 SS.2.1 dX12_doCross_44 rfl (lv_at hl 3 rfl) ?_
  refine lv_iload SS.1 SS.2.1 dX12_doCross_45 (lv_at hl 2 rfl) ?_
  refine lv_iload SS.1 SS.2.1 dX12_doCross_47 (lv_at hl 0 rfl) ?_
  refine j_vRi SS (As := [.int (J ((u.1 20) (s).toNat)), .int (J ((u.1 21) (s).toNat)), .int (J ((u.1 21) (t).toNat))]) (rest := [.int (J z_40)]) (c_X12_turn l D o q u ((u.1 20) (s).toNat) ((u.1 21) (s).toNat) ((u.1 21) (t).toNat) (show 0 ≤ ((u.1 20) (s).toNat) ∧ ((u.1 20) (s).toNat) < 6561 from (by omega)) (show 0 ≤ ((u.1 21) (s).toNat) ∧ ((u.1 21) (s).toNat) < 6561 from (by omega)) (show 0 ≤ ((u.1 21) (t).toNat) ∧ ((u.1 21) (t).toNat) < 6561 from (by omega)) (show bd 40 ((u.1 10)) ((u.1 11)) 6561 from (p0.2.1))) mf_X12_turn kw_1427 hG hP hP (ci := 8) (q0 := 0) rfl rfl rfl rfl hl.1 ⟨⟨Nat.le_of_ble_eq_true rfl, Nat.le_of_ble_eq_true rfl⟩, Nat.le_of_ble_eq_true rfl, Nat.le_refl _, Nat.le_refl _⟩ rfl dX12_doCross_49 (fun z_49 h_49 => ?_)
  have h_49 : z_49 = tn ((u.1 10)) ((u.1 11)) ((u.1 20) (s).toNat).toNat ((u.1 21) (s).toNat).toNat ((u.1 21) (t).toNat).toNat ∧ -12800 ≤ z_49 ∧ z_49 ≤ 12800 := h_49
  refine j_sRi SS (As := [.int (J z_49)]) (rest := [.int (J z_40)]) (c_X12_signOf l D z_49 (show -2147483648 ≤ z_49 ∧ z_49 ≤ 2147483647 from (by omega))) mf_X12_signOf kw_1431 hG trivial rfl hl.1 ⟨⟨Nat.le_of_ble_eq_true rfl, Nat.le_of_ble_eq_true rfl⟩, Nat.le_of_ble_eq_true rfl, Nat.le_refl _, Nat.le_refl _⟩ rfl dX12_doCross_52 (fun z_52 h_52 => ?_)
  have h_52 : (z_52 = 1 ∧ 0 < z_49) ∨ (z_52 = -1 ∧ z_49 < 0) ∨ (z_52 = 0 ∧ z_49 = 0) := h_52
  refine j_imul SS (x := z_40) (y := z_52) dX12_doCross_55 ?_
  obtain ⟨m1, em1⟩ : ∃ z : Int, z = (z_40 * z_52) := ⟨_, rfl⟩
  rw [← em1]
  have q1 := mulb (A := 1) (B := 1) (a := z_40) (b := z_52) (by omega) (by omega)
  have s1 : m1 < 0 ↔ tn (u.1 10) (u.1 11) (u.1 20 s.toNat).toNat (u.1 21 s.toNat).toNat (u.1 20 t.toNat).toNat * tn (u.1 10) (u.1 11) (u.1 20 s.toNat).toNat (u.1 21 s.toNat).toNat (u.1 21 t.toNat).toNat < 0 := by rw [em1, sg_m h_40 h_52, h_37.1, h_49.1]
  refine j_if_ge SS (tgt := 92) (x := m1) dX12_doCross_56 (by decide) (by omega) (fun c_56 => ?_) (fun c_56 => ?_)
  · skip
    refine j_iconst SS dX12_doCross_92 ?_
    exact W.zret SS.1 SS.2.1 hr (j_nz (by decide)) (fun t ht hW => ⟨_, rfl, ⟨0, rfl, (by first | exact Or.inl ⟨rfl, s1.mp (by omega), s2.mp (by omega)⟩ | exact Or.inr ⟨rfl, fun w => by have := s1.mpr w.1; omega⟩ | exact Or.inr ⟨rfl, fun w => by have := s2.mpr w.2; omega⟩)⟩, ht⟩) (fun _ h => nomatch h) dX12_doCross_93 hlk
  · skip
    refine lv_aload_n SS.1 SS.2.1 dX12_doCross_59 rfl (lv_at hl 4 rfl) ?_
    refine lv_iload SS.1 SS.2.1 dX12_doCross_60 (lv_at hl 1 rfl) ?_
    refine lv_iload SS.1 SS.2.1 dX12_doCross_62 (lv_at hl 0 rfl) ?_
    refine lv_iload_n SS.1 SS.2.1 dX12_doCross_64 rfl (lv_at hl 3 rfl) ?_
    refine j_vRi SS (As := [.int (J ((u.1 20) (t).toNat)), .int (J ((u.1 21) (t).toNat)), .int (J ((u.1 20) (s).toNat))]) (rest := []) (c_X12_turn l D o q u ((u.1 20) (t).toNat) ((u.1 21) (t).toNat) ((u.1 20) (s).toNat) (show 0 ≤ ((u.1 20) (t).toNat) ∧ ((u.1 20) (t).toNat) < 6561 from (by omega)) (show 0 ≤ ((u.1 21) (t).toNat) ∧ ((u.1 21) (t).toNat) < 6561 from (by omega)) (show 0 ≤ ((u.1 20) (s).toNat) ∧ ((u.1 20) (s).toNat) < 6561 from (by omega)) (show bd 40 ((u.1 10)) ((u.1 11)) 6561 from (p0.2.1))) mf_X12_turn kw_1427 hG hP hP (ci := 8) (q0 := 0) rfl rfl rfl rfl hl.1 ⟨⟨Nat.le_of_ble_eq_true rfl, Nat.le_of_ble_eq_true rfl⟩, Nat.le_of_ble_eq_true rfl, Nat.le_refl _, Nat.le_refl _⟩ rfl dX12_doCross_65 (fun z_65 h_65 => ?_)
    have h_65 : z_65 = tn ((u.1 10)) ((u.1 11)) ((u.1 20) (t).toNat).toNat ((u.1 21) (t).toNat).toNat ((u.1 20) (s).toNat).toNat ∧ -12800 ≤ z_65 ∧ z_65 ≤ 12800 := h_65
    refine j_sRi SS (As := [.int (J z_65)]) (rest := []) (c_X12_signOf l D z_65 (show -2147483648 ≤ z_65 ∧ z_65 ≤ 2147483647 from (by omega))) mf_X12_signOf kw_1431 hG trivial rfl hl.1 ⟨⟨Nat.le_of_ble_eq_true rfl, Nat.le_of_ble_eq_true rfl⟩, Nat.le_of_ble_eq_true rfl, Nat.le_refl _, Nat.le_refl _⟩ rfl dX12_doCross_68 (fun z_68 h_68 => ?_)
    have h_68 : (z_68 = 1 ∧ 0 < z_65) ∨ (z_68 = -1 ∧ z_65 < 0) ∨ (z_68 = 0 ∧ z_65 = 0) := h_68
    refine lv_aload_n SS.1 SS.2.1 dX12_doCross_71 rfl (lv_at hl 4 rfl) ?_
    refine lv_iload SS.1 SS.2.1 dX12_doCross_72 (lv_at hl 1 rfl) ?_
    refine lv_iload SS.1 SS.2.1 dX12_doCross_74 (lv_at hl 0 rfl) ?_
    refine lv_iload SS.1 SS.2.1 dX12_doCross_76 (lv_at hl 2 rfl) ?_
    refine j_vRi SS (As := [.int (J ((u.1 20) (t).toNat)), .int (J ((u.1 21) (t).toNat)), .int (J ((u.1 21) (s).toNat))]) (rest := [.int (J z_68)]) (c_X12_turn l D o q u ((u.1 20) (t).toNat) ((u.1 21) (t).toNat) ((u.1 21) (s).toNat) (show 0 ≤ ((u.1 20) (t).toNat) ∧ ((u.1 20) (t).toNat) < 6561 from (by omega)) (show 0 ≤ ((u.1 21) (t).toNat) ∧ ((u.1 21) (t).toNat) < 6561 from (by omega)) (show 0 ≤ ((u.1 21) (s).toNat) ∧ ((u.1 21) (s).toNat) < 6561 from (by omega)) (show bd 40 ((u.1 10)) ((u.1 11)) 6561 from (p0.2.1))) mf_X12_turn kw_1427 hG hP hP (ci := 8) (q0 := 0) rfl rfl rfl rfl hl.1 ⟨⟨Nat.le_of_ble_eq_true rfl, Nat.le_of_ble_eq_true rfl⟩, Nat.le_of_ble_eq_true rfl, Nat.le_refl _, Nat.le_refl _⟩ rfl dX12_doCross_78 (fun z_78 h_78 => ?_)
    have h_78 : z_78 = tn ((u.1 10)) ((u.1 11)) ((u.1 20) (t).toNat).toNat ((u.1 21) (t).toNat).toNat ((u.1 21) (s).toNat).toNat ∧ -12800 ≤ z_78 ∧ z_78 ≤ 12800 := h_78
    refine j_sRi SS (As := [.int (J z_78)]) (rest := [.int (J z_68)]) (c_X12_signOf l D z_78 (show -2147483648 ≤ z_78 ∧ z_78 ≤ 2147483647 from (by omega))) mf_X12_signOf kw_1431 hG trivial rfl hl.1 ⟨⟨Nat.le_of_ble_eq_true rfl, Nat.le_of_ble_eq_true rfl⟩, Nat.le_of_ble_eq_true rfl, Nat.le_refl _, Nat.le_refl _⟩ rfl dX12_doCross_81 (fun z_81 h_81 => ?_)
    have h_81 : (z_81 = 1 ∧ 0 < z_78) ∨ (z_81 = -1 ∧ z_78 < 0) ∨ (z_81 = 0 ∧ z_78 = 0) := h_81
    refine j_imul SS (x := z_68) (y := z_81) dX12_doCross_84 ?_
    obtain ⟨m2, em2⟩ : ∃ z : Int, z = (z_68 * z_81) := ⟨_, rfl⟩
    rw [← em2]
    have q2 := mulb (A := 1) (B := 1) (a := z_68) (b := z_81) (by omega) (by omega)
    have s2 : m2 < 0 ↔ tn (u.1 10) (u.1 11) (u.1 20 t.toNat).toNat (u.1 21 t.toNat).toNat (u.1 20 s.toNat).toNat * tn (u.1 10) (u.1 11) (u.1 20 t.toNat).toNat (u.1 21 t.toNat).toNat (u.1 21 s.toNat).toNat < 0 := by rw [em2, sg_m h_68 h_81, h_65.1, h_78.1]
    refine j_if_ge SS (tgt := 92) (x := m2) dX12_doCross_85 (by decide) (by omega) (fun c_85 => ?_) (fun c_85 => ?_)
    · skip
      refine j_iconst SS dX12_doCross_92 ?_
      exact W.zret SS.1 SS.2.1 hr (j_nz (by decide)) (fun t ht hW => ⟨_, rfl, ⟨0, rfl, (by first | exact Or.inl ⟨rfl, s1.mp (by omega), s2.mp (by omega)⟩ | exact Or.inr ⟨rfl, fun w => by have := s1.mpr w.1; omega⟩ | exact Or.inr ⟨rfl, fun w => by have := s2.mpr w.2; omega⟩)⟩, ht⟩) (fun _ h => nomatch h) dX12_doCross_93 hlk
    · skip
      refine j_iconst SS dX12_doCross_88 ?_
      refine lv_goto (tgt := 93) SS.1 SS.2.1 dX12_doCross_89 (by decide) ?_
      exact W.zret SS.1 SS.2.1 hr (j_nz (by decide)) (fun t ht hW => ⟨_, rfl, ⟨1, rfl, (by first | exact Or.inl ⟨rfl, s1.mp (by omega), s2.mp (by omega)⟩ | exact Or.inr ⟨rfl, fun w => by have := s1.mpr w.1; omega⟩ | exact Or.inr ⟨rfl, fun w => by have := s2.mpr w.2; omega⟩)⟩, ht⟩) (fun _ h => nomatch h) dX12_doCross_93 hlk


set_option maxHeartbeats 4000000 in
set_option maxRecDepth 100000 in
theorem c_X12_findSegments3 (l : Launch) (D : JD) (o : Nat) (q : Nat → Nat) (u : MS) (A : Nat → Prop) (hD : va_D A (mW D o q u)) (p0 : 0 ≤ u.2.2 12 ∧ u.2.2 12 ≤ 12) (p1 : bd 40 (u.1 10) (u.1 11) 6561) : Met l yX12_findSegments (jw yX12_findSegments cX12_findSegments 3 none) (jr 2 44) (jP [.ref o] D (fun H => va_P D.1 j_cl (mW D o q u) H)) (jWv (fun u' => ∃ A : Nat → Int, ∃ B : Nat → Int, ∃ S : Nat → Int, ∃ n : Int, u' = (uV (uI (uI (uI u 20 A) 21 B) 22 S) 23 n) ∧ ((sg A B S n (u.2.2 12)) ∧ OL (SGP (u.1 10) (u.1 11) (u.2.2 12)) n A B ∧ NT9 (-9) (u.1 10) (u.1 11) (u.2.2 12) n A B S ∧ n ≤ 63)) (fun u' H => va_P D.1 j_cl (mW D o q u') H) A) 0 0 A := by
  refine Met.ofW (cc := cX12_findSegments) (maxL := 3) (ret := none) (by decide) rfl ?_
  intro pr en st mi args below meth co s₁ B hml hv
  obtain ⟨rfl, hG, hP⟩ := hv
  have hr := B.returns
  have hlk := B.notSynchronized
  have SS : jS pr mi co cX12_findSegments 3 st _ RX12 := ⟨B.exec, B.bytes, hml, findClass_of_methodNamed B.named, fun w hw => atoms_spec (ws := (jw yX12_findSegments cX12_findSegments 3 none)) B.pre w (List.mem_cons_of_mem _ hw)⟩
  have hl := lv_entry ([.ref o]) (n := 3) (Nat.le_of_ble_eq_true rfl)
  rw [lg_entry_eq]
  generalize (lg_sl ([.ref o]) ++ List.replicate (3 - (lg_sl ([.ref o])).length) Slot.unset).toArray = ls at hl ⊢
  have hl : lv_has ls 3 [(0, .ref o)] := hl
  have hS : va_S A st.heap st.heap [] := va_S.rf
  refine lv_aload_n SS.1 SS.2.1 dX12_findSegments_0 rfl (lv_at hl 0 rfl) ?_
  refine j_iconst SS dX12_findSegments_1 ?_
  refine j_put SS hG hP (mW_D hD) hS 0 (v := .int (J 0)) (ty := .int) (C := RX12) (T := TX12) (N := 31) rfl rfl inX12 tyX12 tyX12_ok nmX12 23 (by decide) (ref := RX12) kw_1081 rfl rfl (by decide +kernel) rfl rfl (Nat.le_of_ble_eq_true rfl) dX12_findSegments_2 (ws' := (mW D o q (uV u 23 0))) rfl (fun H locs hP hS => ?_)
  refine j_iconst SS dX12_findSegments_5 ?_
  refine lv_istore_n (lv' := [(1, .int (J 0)), (0, .ref o)]) SS.1 SS.2.1 dX12_findSegments_6 rfl hl (by decide) rfl (fun ls hl => ?_)
  have L_7 : ∀ (nn : Nat) (a : Int) (A1 : Nat → Int) (B1 : Nat → Int) (S1 : Nat → Int) (n1 : Int) (H : Heap) (locs : List Loc) (hP : va_P D.1 j_cl (mW D o q (uV (uI (uI (uI u 20 A1) 21 B1) 22 S1) 23 n1)) H) (hS : va_S A st.heap H locs) (ls : Array Slot) (hl : lv_has ls 3 [(0, .ref o), (1, .int (J a))]) (i7_0 : 0 ≤ a ∧ a ≤ u.2.2 12) (i7_1 : sgp A1 B1 S1 n1 (u.2.2 12) a (a + 1)) (i7_2 : OL (sgp9 (u.1 10) (u.1 11) (u.2.2 12) a (a + 1)) n1 A1 B1) (i7_3 : NTp (-9) (u.1 10) (u.1 11) (u.2.2 12) n1 A1 B1 S1 (fun x y => x < a)), (u.2.2 12 - a).toNat < nn → W pr l en (headSpec (jw yX12_findSegments cX12_findSegments 3 none) (jr 2 44)).room st mi (([.ref o] : List Value).toArray) below meth co H locs 0 0 (MQ below (jWv (fun u' => ∃ A : Nat → Int, ∃ B : Nat → Int, ∃ S : Nat → Int, ∃ n : Int, u' = (uV (uI (uI (uI u 20 A) 21 B) 22 S) 23 n) ∧ ((sg A B S n (u.2.2 12)) ∧ OL (SGP (u.1 10) (u.1 11) (u.2.2 12)) n A B ∧ NT9 (-9) (u.1 10) (u.1 11) (u.2.2 12) n A B S ∧ n ≤ 63)) (fun u' H => va_P D.1 j_cl (mW D o q u') H) A) (([.ref o] : List Value).toArray) st 0 0 A) (F0 mi 7 ls []) := by
    intro nn
    induction nn with
    | zero => intros; omega
    | succ nn ih_7 =>
      intro a A1 B1 S1 n1 H locs hP hS ls hl i7_0 i7_1 i7_2 i7_3 hm
      refine lv_iload_n SS.1 SS.2.1 dX12_findSegments_7 rfl (lv_at hl 1 rfl) ?_
      refine lv_aload_n SS.1 SS.2.1 dX12_findSegments_8 rfl (lv_at hl 0 rfl) ?_
      refine j_get SS hG hP 0 (v := .int (J (u.2.2 12))) (C := RX12) (T := TX12) (N := 31) rfl rfl inX12 12 (by decide) (ref := RX12) kw_1070 rfl rfl dX12_findSegments_9 ?_
      refine j_icmp_ge SS (tgt := 130) (x := a) (y := (u.2.2 12)) dX12_findSegments_12 (by decide) (by omega) (by omega) (fun c_12 => ?_) (fun c_12 => ?_)
      · skip
        exact W.vret SS.1 SS.2.1 hr (fun t ht hW => ⟨⟨(uV (uI (uI (uI u 20 A1) 21 B1) 22 S1) 23 n1), rfl, (⟨A1, B1, S1, n1, rfl, ⟨sgp_x i7_0.1 (by omega) i7_1 (by omega), sg_f9 i7_2 (by omega), NT_c i7_3 (fun x y h1 h2 h3 h4 => by show x < a; omega), sg_639 i7_2 (by omega)⟩⟩), by show va_P D.1 j_cl (mW D o q (uV (uI (uI (uI u 20 A1) 21 B1) 22 S1) 23 n1)) t.heap; rw [ht]; exact hP⟩, hS.F ht⟩) hS.2.2 dX12_findSegments_130 hlk
      · skip
        refine lv_iload_n SS.1 SS.2.1 dX12_findSegments_15 rfl (lv_at hl 1 rfl) ?_
        refine j_iconst SS dX12_findSegments_16 ?_
        refine j_iadd SS (x := a) (y := 1) dX12_findSegments_17 ?_
        refine lv_istore_n (lv' := [(2, .int (J (a + 1))), (0, .ref o), (1, .int (J a))]) SS.1 SS.2.1 dX12_findSegments_18 rfl hl (by decide) rfl (fun ls hl => ?_)
        have L_19 : ∀ (nn : Nat) (b : Int) (A2 : Nat → Int) (B2 : Nat → Int) (S2 : Nat → Int) (n2 : Int) (H : Heap) (locs : List Loc) (hP : va_P D.1 j_cl (mW D o q (uV (uI (uI (uI u 20 A2) 21 B2) 22 S2) 23 n2)) H) (hS : va_S A st.heap H locs) (ls : Array Slot) (hl : lv_has ls 3 [(0, .ref o), (1, .int (J a)), (2, .int (J b))]) (i19_0 : a + 1 ≤ b ∧ b ≤ u.2.2 12) (i19_1 : sgp A2 B2 S2 n2 (u.2.2 12) a b) (i19_2 : OL (sgp9 (u.1 10) (u.1 11) (u.2.2 12) a b) n2 A2 B2) (i19_3 : NTp (-9) (u.1 10) (u.1 11) (u.2.2 12) n2 A2 B2 S2 (fun x y => x < a ∨ (x = a ∧ y < b))), (u.2.2 12 - b).toNat < nn → W pr l en (headSpec (jw yX12_findSegments cX12_findSegments 3 none) (jr 2 44)).room st mi (([.ref o] : List Value).toArray) below meth co H locs 0 0 (MQ below (jWv (fun u' => ∃ A : Nat → Int, ∃ B : Nat → Int, ∃ S : Nat → Int, ∃ n : Int, u' = (uV (uI (uI (uI u 20 A) 21 B) 22 S) 23 n) ∧ ((sg A B S n (u.2.2 12)) ∧ OL (SGP (u.1 10) (u.1 11) (u.2.2 12)) n A B ∧ NT9 (-9) (u.1 10) (u.1 11) (u.2.2 12) n A B S ∧ n ≤ 63)) (fun u' H => va_P D.1 j_cl (mW D o q u') H) A) (([.ref o] : List Value).toArray) st 0 0 A) (F0 mi 19 ls []) := by
          intro nn
          induction nn with
          | zero => intros; omega
          | succ nn ih_19 =>
            intro b A2 B2 S2 n2 H locs hP hS ls hl i19_0 i19_1 i19_2 i19_3 hm
            have hn0 := i19_1.1
            refine lv_iload_n SS.1 SS.2.1 dX12_findSegments_19 rfl (lv_at hl 2 rfl) ?_
            refine lv_aload_n SS.1 SS.2.1 dX12_findSegments_20 rfl (lv_at hl 0 rfl) ?_
            refine j_get SS hG hP 0 (v := .int (J (u.2.2 12))) (C := RX12) (T := TX12) (N := 31) rfl rfl inX12 12 (by decide) (ref := RX12) kw_1070 rfl rfl dX12_findSegments_21 ?_
            refine j_icmp_ge SS (tgt := 124) (x := b) (y := (u.2.2 12)) dX12_findSegments_24 (by decide) (by omega) (by omega) (fun c_24 => ?_) (fun c_24 => ?_)
            · skip
              refine lv_iinc (v := J (a + 1)) (lv' := [(1, .int (J (a + 1))), (0, .ref o), (2, .int (J b))]) SS.1 SS.2.1 dX12_findSegments_124 hl (k := 1) rfl (J_add _ _) (by decide) rfl (fun ls hl => ?_)
              refine lv_goto (tgt := 7) SS.1 SS.2.1 dX12_findSegments_127 (by decide) ?_
              exact ih_7 (a + 1) A2 B2 S2 n2 _ _ hP hS ls (lv_sub hl [1, 0] rfl) (by omega) (sgp_e (by omega) (by omega) (by rw [show u.2.2 12 = b by omega]; rw [show u.2.2 12 = b by omega] at i19_1; exact i19_1)) (sg_e9 i19_2 (by omega)) (NT_c i19_3 (fun x y h1 h2 h3 h4 => by have h5 : x < a + 1 := h4; show x < a ∨ (x = a ∧ y < b); omega)) (by omega)
            · skip
              have h66 := sg_66 (by omega) (by omega) (by omega) hn0.2
              have b1 := bd_at p1 (z := a) (by omega) (by omega)
              have b2 := bd_at p1 (z := b) (by omega) (by omega)
              refine lv_aload_n SS.1 SS.2.1 dX12_findSegments_27 rfl (lv_at hl 0 rfl) ?_
              refine j_get SS hG hP 0 (v := .ref (q 22)) (C := RX12) (T := TX12) (N := 31) rfl rfl inX12 22 (by decide) (ref := RX12) kw_1080 rfl rfl dX12_findSegments_28 ?_
              refine j_bipush SS dX12_findSegments_31 (by decide +kernel) ?_
              refine lv_iload_n SS.1 SS.2.1 dX12_findSegments_33 rfl (lv_at hl 1 rfl) ?_
              refine j_imul SS (x := 12) (y := a) dX12_findSegments_34 ?_
              refine lv_iload_n SS.1 SS.2.1 dX12_findSegments_35 rfl (lv_at hl 2 rfl) ?_
              refine j_iadd SS (x := (12 * a)) (y := b) dX12_findSegments_36 ?_
              refine j_bipush SS dX12_findSegments_37 (by decide +kernel) ?_
              refine j_iast SS hG hP (mW_D hD) hS 19 (n := 144) (f := S2) rfl (z := ((12 * a) + b)) (v := (-9)) (by omega) (by omega) dX12_findSegments_39 (ws' := (mW D o q (uV (uI (uI (uI u 20 A2) 21 B2) 22 (upI S2 (((12 * a) + b)).toNat (-9))) 23 n2))) rfl (fun H locs hP hS => ?_)
              refine lv_aload_n SS.1 SS.2.1 dX12_findSegments_40 rfl (lv_at hl 0 rfl) ?_
              refine j_get SS hG hP 0 (v := .ref (q 10)) (C := RX12) (T := TX12) (N := 31) rfl rfl inX12 10 (by decide) (ref := RX12) kw_1068 rfl rfl dX12_findSegments_41 ?_
              refine lv_iload_n SS.1 SS.2.1 dX12_findSegments_44 rfl (lv_at hl 2 rfl) ?_
              refine j_iald SS hG hP 9 (n := 6561) (f := (u.1 10)) rfl (z := b) (by omega) (by omega) dX12_findSegments_45 ?_
              refine lv_aload_n SS.1 SS.2.1 dX12_findSegments_46 rfl (lv_at hl 0 rfl) ?_
              refine j_get SS hG hP 0 (v := .ref (q 10)) (C := RX12) (T := TX12) (N := 31) rfl rfl inX12 10 (by decide) (ref := RX12) kw_1068 rfl rfl dX12_findSegments_47 ?_
              refine lv_iload_n SS.1 SS.2.1 dX12_findSegments_50 rfl (lv_at hl 1 rfl) ?_
              refine j_iald SS hG hP 9 (n := 6561) (f := (u.1 10)) rfl (z := a) (by omega) (by omega) dX12_findSegments_51 ?_
              refine j_isub SS (x := ((u.1 10) (b).toNat)) (y := ((u.1 10) (a).toNat)) dX12_findSegments_52 ?_
              refine lv_aload_n SS.1 SS.2.1 dX12_findSegments_53 rfl (lv_at hl 0 rfl) ?_
              refine j_get SS hG hP 0 (v := .ref (q 11)) (C := RX12) (T := TX12) (N := 31) rfl rfl inX12 11 (by decide) (ref := RX12) kw_1069 rfl rfl dX12_findSegments_54 ?_
              refine lv_iload_n SS.1 SS.2.1 dX12_findSegments_57 rfl (lv_at hl 2 rfl) ?_
              refine j_iald SS hG hP 10 (n := 6561) (f := (u.1 11)) rfl (z := b) (by omega) (by omega) dX12_findSegments_58 ?_
              refine lv_aload_n SS.1 SS.2.1 dX12_findSegments_59 rfl (lv_at hl 0 rfl) ?_
              refine j_get SS hG hP 0 (v := .ref (q 11)) (C := RX12) (T := TX12) (N := 31) rfl rfl inX12 11 (by decide) (ref := RX12) kw_1069 rfl rfl dX12_findSegments_60 ?_
              refine lv_iload_n SS.1 SS.2.1 dX12_findSegments_63 rfl (lv_at hl 1 rfl) ?_
              refine j_iald SS hG hP 10 (n := 6561) (f := (u.1 11)) rfl (z := a) (by omega) (by omega) dX12_findSegments_64 ?_
              refine j_isub SS (x := ((u.1 11) (b).toNat)) (y := ((u.1 11) (a).toNat)) dX12_findSegments_65 ?_
              refine j_sRi SS (As := [.int (J (((u.1 10) (b).toNat) - ((u.1 10) (a).toNat))), .int (J (((u.1 11) (b).toNat) - ((u.1 11) (a).toNat)))]) (rest := []) (c_X12_common l D (((u.1 10) (b).toNat) - ((u.1 10) (a).toNat)) (((u.1 11) (b).toNat) - ((u.1 11) (a).toNat)) (show -2147483648 < (((u.1 10) (b).toNat) - ((u.1 10) (a).toNat)) ∧ (((u.1 10) (b).toNat) - ((u.1 10) (a).toNat)) ≤ 2147483647 from (by omega)) (show -2147483648 < (((u.1 11) (b).toNat) - ((u.1 11) (a).toNat)) ∧ (((u.1 11) (b).toNat) - ((u.1 11) (a).toNat)) ≤ 2147483647 from (by omega))) mf_X12_common kw_1230 hG trivial rfl hl.1 ⟨⟨Nat.le_of_ble_eq_true rfl, Nat.le_of_ble_eq_true rfl⟩, Nat.le_of_ble_eq_true rfl, Nat.le_refl _, Nat.le_refl _⟩ rfl dX12_findSegments_66 (fun z_66 h_66 => ?_)
              have h_66 : z_66 = (Int.gcd (((u.1 10) (b).toNat) - ((u.1 10) (a).toNat)) (((u.1 11) (b).toNat) - ((u.1 11) (a).toNat)) : Int) := h_66
              have hsg9 : z_66 = 1 → SGP (u.1 10) (u.1 11) (u.2.2 12) a b := fun q => ⟨⟨by omega, by omega, by omega⟩, by rw [← h_66]; exact q⟩
              have hsn9 : SGP (u.1 10) (u.1 11) (u.2.2 12) a b → z_66 = 1 := fun q => by rw [h_66]; exact q.2
              have hz := gcd_b (a := u.1 10 b.toNat - u.1 10 a.toNat) (b := u.1 11 b.toNat - u.1 11 a.toNat) (K := 80) (by omega) (by omega)
              rw [← h_66] at hz
              refine j_iconst SS dX12_findSegments_69 ?_
              refine j_icmp_ne SS (tgt := 118) (x := z_66) (y := 1) dX12_findSegments_70 (by decide) (by omega) (by decide) (fun c_70 => ?_) (fun c_70 => ?_)
              · skip
                refine lv_iinc (v := J (b + 1)) (lv' := [(2, .int (J (b + 1))), (0, .ref o), (1, .int (J a))]) SS.1 SS.2.1 dX12_findSegments_118 hl (k := 2) rfl (J_add _ _) (by decide) rfl (fun ls hl => ?_)
                refine lv_goto (tgt := 19) SS.1 SS.2.1 dX12_findSegments_121 (by decide) ?_
                exact ih_19 (b + 1) A2 B2 (upI S2 (((12 * a) + b)).toNat (-9)) n2 _ _ hP hS ls (lv_sub hl [1, 2, 0] rfl) (by omega) (by first | exact sgp_y (by omega) (by omega) (by omega) (by omega) i19_1 | exact sgp_n (by omega) (by omega) (by omega) (by omega) i19_1) (by first | exact sg_y9 i19_2 (hsg9 (by omega)) | exact sg_n9 i19_2 (fun w => by have := hsn9 w; omega)) (by first | exact NT_y i19_3 ⟨by omega, by omega, by omega⟩ (by omega) (by omega) (fun k9 => by by_cases e9 : k9 = (12 * a + b).toNat; (rw [e9, upI_s, if_pos rfl]); (rw [upI_n e9, upI_n e9, if_neg e9])) (fun x y q9 => by have q8 : x < a ∨ (x = a ∧ y < b + 1) := q9; by_cases w9 : x < a ∨ (x = a ∧ y < b); exact Or.inl w9; exact Or.inr ⟨by omega, by omega⟩) | exact NT_n i19_3 ⟨by omega, by omega, by omega⟩ (by omega) (fun w => by have := hsn9 w; omega) (fun x y q9 => by have q8 : x < a ∨ (x = a ∧ y < b + 1) := q9; by_cases w9 : x < a ∨ (x = a ∧ y < b); exact Or.inl w9; exact Or.inr ⟨by omega, by omega⟩)) (by omega)
              · skip
                refine lv_aload_n SS.1 SS.2.1 dX12_findSegments_73 rfl (lv_at hl 0 rfl) ?_
                refine j_get SS hG hP 0 (v := .ref (q 20)) (C := RX12) (T := TX12) (N := 31) rfl rfl inX12 20 (by decide) (ref := RX12) kw_1078 rfl rfl dX12_findSegments_74 ?_
                refine lv_aload_n SS.1 SS.2.1 dX12_findSegments_77 rfl (lv_at hl 0 rfl) ?_
                refine j_get SS hG hP 0 (v := .int (J n2)) (C := RX12) (T := TX12) (N := 31) rfl rfl inX12 23 (by decide) (ref := RX12) kw_1081 rfl rfl dX12_findSegments_78 ?_
                refine lv_iload_n SS.1 SS.2.1 dX12_findSegments_81 rfl (lv_at hl 1 rfl) ?_
                refine j_iast SS hG hP (mW_D hD) hS 17 (n := 66) (f := A2) rfl (z := n2) (v := a) (by omega) (by omega) dX12_findSegments_82 (ws' := (mW D o q (uV (uI (uI (uI u 20 (upI A2 (n2).toNat a)) 21 B2) 22 (upI S2 (((12 * a) + b)).toNat (-9))) 23 n2))) rfl (fun H locs hP hS => ?_)
                refine lv_aload_n SS.1 SS.2.1 dX12_findSegments_83 rfl (lv_at hl 0 rfl) ?_
                refine j_get SS hG hP 0 (v := .ref (q 21)) (C := RX12) (T := TX12) (N := 31) rfl rfl inX12 21 (by decide) (ref := RX12) kw_1079 rfl rfl dX12_findSegments_84 ?_
                refine lv_aload_n SS.1 SS.2.1 dX12_findSegments_87 rfl (lv_at hl 0 rfl) ?_
                refine j_get SS hG hP 0 (v := .int (J n2)) (C := RX12) (T := TX12) (N := 31) rfl rfl inX12 23 (by decide) (ref := RX12) kw_1081 rfl rfl dX12_findSegments_88 ?_
                refine lv_iload_n SS.1 SS.2.1 dX12_findSegments_91 rfl (lv_at hl 2 rfl) ?_
                refine j_iast SS hG hP (mW_D hD) hS 18 (n := 66) (f := B2) rfl (z := n2) (v := b) (by omega) (by omega) dX12_findSegments_92 (ws' := (mW D o q (uV (uI (uI (uI u 20 (upI A2 (n2).toNat a)) 21 (upI B2 (n2).toNat b)) 22 (upI S2 (((12 * a) + b)).toNat (-9))) 23 n2))) rfl (fun H locs hP hS => ?_)
                refine lv_aload_n SS.1 SS.2.1 dX12_findSegments_93 rfl (lv_at hl 0 rfl) ?_
                refine j_get SS hG hP 0 (v := .ref (q 22)) (C := RX12) (T := TX12) (N := 31) rfl rfl inX12 22 (by decide) (ref := RX12) kw_1080 rfl rfl dX12_findSegments_94 ?_
                refine j_bipush SS dX12_findSegments_97 (by decide +kernel) ?_
                refine lv_iload_n SS.1 SS.2.1 dX12_findSegments_99 rfl (lv_at hl 1 rfl) ?_
                refine j_imul SS (x := 12) (y := a) dX12_findSegments_100 ?_
                refine lv_iload_n SS.1 SS.2.1 dX12_findSegments_101 rfl (lv_at hl 2 rfl) ?_
                refine j_iadd SS (x := (12 * a)) (y := b) dX12_findSegments_102 ?_
                refine lv_aload_n SS.1 SS.2.1 dX12_findSegments_103 rfl (lv_at hl 0 rfl) ?_
                refine j_get SS hG hP 0 (v := .int (J n2)) (C := RX12) (T := TX12) (N := 31) rfl rfl inX12 23 (by decide) (ref := RX12) kw_1081 rfl rfl dX12_findSegments_104 ?_
                refine j_iast SS hG hP (mW_D hD) hS 19 (n := 144) (f := (upI S2 (((12 * a) + b)).toNat (-9))) rfl (z := ((12 * a) + b)) (v := n2) (by omega) (by omega) dX12_findSegments_107 (ws' := (mW D o q (uV (uI (uI (uI u 20 (upI A2 (n2).toNat a)) 21 (upI B2 (n2).toNat b)) 22 (upI (upI S2 (((12 * a) + b)).toNat (-9)) (((12 * a) + b)).toNat n2)) 23 n2))) rfl (fun H locs hP hS => ?_)
                refine lv_aload_n SS.1 SS.2.1 dX12_findSegments_108 rfl (lv_at hl 0 rfl) ?_
                refine lv_dup SS.1 SS.2.1 dX12_findSegments_109 rfl ?_
                refine j_get SS hG hP 0 (v := .int (J n2)) (C := RX12) (T := TX12) (N := 31) rfl rfl inX12 23 (by decide) (ref := RX12) kw_1081 rfl rfl dX12_findSegments_110 ?_
                refine j_iconst SS dX12_findSegments_113 ?_
                refine j_iadd SS (x := n2) (y := 1) dX12_findSegments_114 ?_
                refine j_put SS hG hP (mW_D hD) hS 0 (v := .int (J (n2 + 1))) (ty := .int) (C := RX12) (T := TX12) (N := 31) rfl rfl inX12 tyX12 tyX12_ok nmX12 23 (by decide) (ref := RX12) kw_1081 rfl rfl (by decide +kernel) rfl rfl (Nat.le_of_ble_eq_true rfl) dX12_findSegments_115 (ws' := (mW D o q (uV (uI (uI (uI u 20 (upI A2 (n2).toNat a)) 21 (upI B2 (n2).toNat b)) 22 (upI (upI S2 (((12 * a) + b)).toNat (-9)) (((12 * a) + b)).toNat n2)) 23 (n2 + 1)))) rfl (fun H locs hP hS => ?_)
                refine lv_iinc (v := J (b + 1)) (lv' := [(2, .int (J (b + 1))), (0, .ref o), (1, .int (J a))]) SS.1 SS.2.1 dX12_findSegments_118 hl (k := 2) rfl (J_add _ _) (by decide) rfl (fun ls hl => ?_)
                refine lv_goto (tgt := 19) SS.1 SS.2.1 dX12_findSegments_121 (by decide) ?_
                exact ih_19 (b + 1) (upI A2 (n2).toNat a) (upI B2 (n2).toNat b) (upI (upI S2 (((12 * a) + b)).toNat (-9)) (((12 * a) + b)).toNat n2) (n2 + 1) _ _ hP hS ls (lv_sub hl [1, 2, 0] rfl) (by omega) (by first | exact sgp_y (by omega) (by omega) (by omega) (by omega) i19_1 | exact sgp_n (by omega) (by omega) (by omega) (by omega) i19_1) (by first | exact sg_y9 i19_2 (hsg9 (by omega)) | exact sg_n9 i19_2 (fun w => by have := hsn9 w; omega)) (by first | exact NT_y i19_3 ⟨by omega, by omega, by omega⟩ (by omega) (by omega) (fun k9 => by by_cases e9 : k9 = (12 * a + b).toNat; (rw [e9, upI_s, if_pos rfl]); (rw [upI_n e9, upI_n e9, if_neg e9])) (fun x y q9 => by have q8 : x < a ∨ (x = a ∧ y < b + 1) := q9; by_cases w9 : x < a ∨ (x = a ∧ y < b); exact Or.inl w9; exact Or.inr ⟨by omega, by omega⟩) | exact NT_n i19_3 ⟨by omega, by omega, by omega⟩ (by omega) (fun w => by have := hsn9 w; omega) (fun x y q9 => by have q8 : x < a ∨ (x = a ∧ y < b + 1) := q9; by_cases w9 : x < a ∨ (x = a ∧ y < b); exact Or.inl w9; exact Or.inr ⟨by omega, by omega⟩)) (by omega)
        exact L_19 ((u.2.2 12 - (a + 1)).toNat + 1) (a + 1) A1 B1 S1 n1 _ _ hP hS ls (lv_sub hl [1, 2, 0] rfl) (by omega) (i7_1) (i7_2) (NT_c i7_3 (fun x y h1 h2 h3 h4 => by have h5 : x < a ∨ (x = a ∧ y < a + 1) := h4; show x < a; omega)) (Nat.lt_succ_self _)
  exact L_7 ((u.2.2 12 - (0 : Int)).toNat + 1) 0 (u.1 20) (u.1 21) (u.1 22) 0 _ _ hP hS ls (lv_sub hl [1, 0] rfl) (by omega) (sgp_0) (sg_09) (fun x y h1 h2 h3 h4 => by have h5 : x < 0 := h4; omega) (Nat.lt_succ_self _)

