
set_option maxHeartbeats 4000000 in
set_option maxRecDepth 100000 in
theorem c_X11_dualN (l : Launch) (D : JD) (q : Nat → Nat) (u : CS) (A : Nat → Prop) (hD : va_D A (cW D q u)) (s : Int) (to : Int) (p0 : CI u) (p1 : -2147483648 ≤ s ∧ s ≤ 2147483647) (p2 : -2147483648 ≤ to ∧ to ≤ 2147483647) : Met l yX11_dual (jw yX11_dual cX11_dual 6 (some .int)) (jr 6 132) (jP [.ref (q 0), .int (J s), .int (J to)] D (fun H => va_P D.1 j_cl (cW D q u) H)) (jWi (fun z u' => CI u' ∧ dlC u u' s to z) (fun u' H => va_P D.1 j_cl (cW D q u') H) A) 0 0 A := by
  refine Met.ofW (cc := cX11_dual) (maxL := 6) (ret := (some .int)) (by decide) rfl ?_
  intro pr en st mi args below meth co s₁ B hml hv
  obtain ⟨rfl, hG, hP⟩ := hv
  have hr := B.returns
  have hlk := B.notSynchronized
  have SS : jS pr mi co cX11_dual 6 st _ RX11 := ⟨B.exec, B.bytes, hml, findClass_of_methodNamed B.named, fun w hw => atoms_spec (ws := (jw yX11_dual cX11_dual 6 (some .int))) B.pre w (List.mem_cons_of_mem _ hw)⟩
  have hl := lv_entry ([.ref (q 0), .int (J s), .int (J to)]) (n := 6) (Nat.le_of_ble_eq_true rfl)
  rw [lg_entry_eq]
  generalize (lg_sl ([.ref (q 0), .int (J s), .int (J to)]) ++ List.replicate (6 - (lg_sl ([.ref (q 0), .int (J s), .int (J to)])).length) Slot.unset).toArray = ls at hl ⊢
  have hl : lv_has ls 6 [(0, .ref (q 0)), (1, .int (J s)), (2, .int (J to))] := hl
  have hS : va_S A st.heap st.heap [] := va_S.rf
  refine lv_aload_n SS.1 SS.2.1 dX11_dual_0 rfl (lv_at hl 0 rfl) ?_
  refine lv_iload_n SS.1 SS.2.1 dX11_dual_1 rfl (lv_at hl 1 rfl) ?_
  refine j_vSh SS (As := [.int (J s)]) (rest := []) (c_X11_shapeAt l D q u  s (show -2147483648 ≤ s ∧ s ≤ 2147483647 from (p1))) mf_X11_shapeAt kw_414 hG hP hP (ci := 11) (q0 := 0) rfl rfl rfl rfl hl.1 ⟨⟨Nat.le_of_ble_eq_true rfl, Nat.le_of_ble_eq_true rfl⟩, Nat.le_of_ble_eq_true rfl, Nat.le_refl _, Nat.le_refl _⟩ rfl dX11_dual_2 (fun i_2 hi_2 hz_2 => ?_) (fun hn_2 => ?_)
  · skip
    have hI2 := CI_s p0 (show i_2 < 8 by omega)
    have hI2c := hI2.1
    have hrl2 := rl_s (show i_2 < 8 by omega)
    refine lv_astore_n (lv' := [(3, .ref (q (8 + 5 * i_2))), (0, .ref (q 0)), (1, .int (J s)), (2, .int (J to))]) SS.1 SS.2.1 dX11_dual_5 rfl hl (by decide) rfl (fun ls hl => ?_)
    refine lv_aload_n SS.1 SS.2.1 dX11_dual_6 rfl (lv_at hl 1 rfl) ?_
    refine lv_iload_n SS.1 SS.2.1 dX11_dual_7 rfl (lv_at hl 3 rfl) ?_
    refine j_vSh SS (As := [.int (J to)]) (rest := []) (c_X11_shapeAt l D q u  to (show -2147483648 ≤ to ∧ to ≤ 2147483647 from (p2))) mf_X11_shapeAt kw_414 hG hP hP (ci := 11) (q0 := 0) rfl rfl rfl rfl hl.1 ⟨⟨Nat.le_of_ble_eq_true rfl, Nat.le_of_ble_eq_true rfl⟩, Nat.le_of_ble_eq_true rfl, Nat.le_refl _, Nat.le_refl _⟩ rfl dX11_dual_8 (fun i_8 hi_8 hz_8 => ?_) (fun hn_8 => ?_)
    · skip
      refine lv_astore (lv' := [(4, .ref (q (8 + 5 * i_8))), (3, .ref (q (8 + 5 * i_2))), (0, .ref (q 0)), (1, .int (J s)), (2, .int (J to))]) SS.1 SS.2.1 dX11_dual_11 hl (by decide) rfl (fun ls hl => ?_)
      refine lv_aload_n SS.1 SS.2.1 dX11_dual_13 rfl (lv_at hl 1 rfl) ?_
      refine lv_ifnull SS.1 SS.2.1 dX11_dual_14 ?_
      refine lv_aload SS.1 SS.2.1 dX11_dual_17 (lv_at hl 0 rfl) ?_
      refine lv_ifnonnull SS.1 SS.2.1 (tgt := 24) dX11_dual_19 (by decide) ?_
      refine lv_aload_n SS.1 SS.2.1 dX11_dual_24 rfl (lv_at hl 1 rfl) ?_
      refine j_get SS hG hP (8 + 5 * i_2) (v := .ref (q (9 + 5 * i_2))) (C := RX10) (T := TX10) (N := 3) (cw_shape (by omega)) rfl inX10 0 (by decide) (ref := "GridPolygons$Shape") kw_151 rfl rfl dX11_dual_25 ?_
      refine j_vRi SS (As := []) (rest := []) (c_X7_isReflexive2 l D q u i_2 (by omega) (40 : Int)  (show 0 ≤ (40 : Int) ∧ (40 : Int) ≤ 80 from (by omega)) (show RB (40 : Int) u i_2 from (show RB 40 u i_2 from CI_40 p0 (by omega)))) mf_X7_isReflexive kw_818 hG hP hP (ci := 7) (q0 := (9 + 5 * i_2)) rfl (cw_ring (by omega)) rfl rfl hl.1 ⟨⟨Nat.le_of_ble_eq_true rfl, Nat.le_of_ble_eq_true rfl⟩, Nat.le_of_ble_eq_true rfl, Nat.le_refl _, Nat.le_refl _⟩ rfl dX11_dual_28 (fun z_28 h_28 => ?_)
      have h_28 : (z_28 = 1 ∧ cRef u i_2) ∨ (z_28 = 0 ∧ ¬ (cRef u i_2 ∧ cHS u i_2)) := h_28
      refine j_if_ne SS (tgt := 37) (x := z_28) dX11_dual_31 (by decide) (by omega) (fun c_31 => ?_) (fun c_31 => ?_)
      · skip
        refine lv_aload_n SS.1 SS.2.1 dX11_dual_37 rfl (lv_at hl 2 rfl) ?_
        refine j_get SS hG hP 0 (v := .ref (q 2)) (C := RX11) (T := TX11) (N := 8) rfl rfl inX11 1 (by decide) (ref := "GridPolygons") kw_386 rfl rfl dX11_dual_38 ?_
        refine j_vWv SS (As := []) (rest := []) (c_X3_begin l D q u A (cW_D hD)   (show HU_ ((u.2.1 0)) ((u.2.1 1)) from (p0.2.2.1))) mf_X3_begin kw_418 hG hP hP (ci := 3) (q0 := 2) rfl rfl rfl hS (fun _ h => h) rfl hl.1 ⟨⟨Nat.le_of_ble_eq_true rfl, Nat.le_of_ble_eq_true rfl⟩, Nat.le_of_ble_eq_true rfl, Nat.le_refl _, Nat.le_refl _⟩ rfl dX11_dual_41 (fun u41 H locs h_41 hP _ hS => ?_)
        obtain ⟨f_41, g_41, rfl, h_41⟩ := h_41
        have hP : va_P D.1 j_cl (cW D q (sI (sI u 0 f_41) 1 g_41)) H := hP
        have h_41 : f_41 = jf ((u.2.1 0)) 81 161 ∧ g_41 = jf ((u.2.1 1)) (-81) 161 ∧ HU_ f_41 g_41 := h_41
        refine j_iconst SS dX11_dual_44 ?_
        refine lv_istore (lv' := [(5, .int (J 0)), (4, .ref (q (8 + 5 * i_8))), (3, .ref (q (8 + 5 * i_2))), (0, .ref (q 0)), (1, .int (J s)), (2, .int (J to))]) SS.1 SS.2.1 dX11_dual_45 hl (by decide) rfl (fun ls hl => ?_)
        have L_47 : ∀ (nn : Nat) (i : Int) (f1 : Nat → Int) (g1 : Nat → Int) (H : Heap) (locs : List Loc) (hP : va_P D.1 j_cl (cW D q (sI (sI u 0 f1) 1 g1)) H) (hS : va_S A st.heap H locs) (ls : Array Slot) (hl : lv_has ls 6 [(0, .ref (q 0)), (1, .int (J s)), (2, .int (J to)), (3, .ref (q (8 + 5 * i_2))), (4, .ref (q (8 + 5 * i_8))), (5, .int (J i))]) (i47_0 : 0 ≤ i ∧ i ≤ u.1.2.2.1 i_2) (i47_1 : HU_ f1 g1) (i47_2 : HUL (NCi u i_2 i) f1 g1), (u.1.2.2.1 i_2 - i).toNat < nn → W pr l en (headSpec (jw yX11_dual cX11_dual 6 (some .int)) (jr 6 132)).room st mi (([.ref (q 0), .int (J s), .int (J to)] : List Value).toArray) below meth co H locs 0 0 (MQ below (jWi (fun z u' => CI u' ∧ dlC u u' s to z) (fun u' H => va_P D.1 j_cl (cW D q u') H) A) (([.ref (q 0), .int (J s), .int (J to)] : List Value).toArray) st 0 0 A) (F0 mi 47 ls []) := by
          intro nn
          induction nn with
          | zero => intros; omega
          | succ nn ih_47 =>
            intro i f1 g1 H locs hP hS ls hl i47_0 i47_1 i47_2 hm
            refine lv_iload SS.1 SS.2.1 dX11_dual_47 (lv_at hl 5 rfl) ?_
            refine lv_aload_n SS.1 SS.2.1 dX11_dual_49 rfl (lv_at hl 3 rfl) ?_
            refine j_get SS hG hP (8 + 5 * i_2) (v := .ref (q (9 + 5 * i_2))) (C := RX10) (T := TX10) (N := 3) (cw_shape (by omega)) rfl inX10 0 (by decide) (ref := "GridPolygons$Shape") kw_151 rfl rfl dX11_dual_50 ?_
            refine j_getS SS hG hP (9 + 5 * i_2) (v := .int (J (u.1.2.2.1 i_2))) (C := RX7) (T := TX7) (N := 3) (cw_ring (by omega)) rfl inX7 2 (by decide) (ref := "GridPolygons$Ring") kw_135 kw_132 rfl dX11_dual_53 ?_
            refine j_icmp_ge SS (tgt := 90) (x := i) (y := (u.1.2.2.1 i_2)) dX11_dual_56 (by decide) (by omega) (by omega) (fun c_56 => ?_) (fun c_56 => ?_)
            · skip
              refine lv_aload_n SS.1 SS.2.1 dX11_dual_90 rfl (lv_at hl 0 rfl) ?_
              refine j_get SS hG hP 0 (v := .ref (q 2)) (C := RX11) (T := TX11) (N := 8) rfl rfl inX11 1 (by decide) (ref := "GridPolygons") kw_386 rfl rfl dX11_dual_91 ?_
              have hU : HUL (NCi u i_2 (u.1.2.2.1 i_2)) f1 g1 := by rw [show i = u.1.2.2.1 i_2 by omega] at i47_2; exact i47_2
              refine j_vWv SS (As := []) (rest := []) (c_X3_close2 l D q (sI (sI u 0 f1) 1 g1) A (cW_D hD)   (show RB 80 (sI (sI u 0 f1) 1 g1) 8 from (p0.2.1.1)) (show HU_ (f1) (g1) from (i47_1))) mf_X3_close kw_425 hG hP hP (ci := 3) (q0 := 2) rfl rfl rfl hS (fun _ h => h) rfl hl.1 ⟨⟨Nat.le_of_ble_eq_true rfl, Nat.le_of_ble_eq_true rfl⟩, Nat.le_of_ble_eq_true rfl, Nat.le_refl _, Nat.le_refl _⟩ rfl dX11_dual_94 (fun u94 H locs h_94 hP _ hS => ?_)
              obtain ⟨f_94, g_94, n_94, rfl, h_94⟩ := h_94
              have hP : va_P D.1 j_cl (cW D q (sY (sX (sI (sI (sC u 8 n_94) 0 f1) 1 g1) 8 f_94) 8 g_94)) H := hP
              have h_94 : (0 ≤ n_94 ∧ n_94 ≤ 323) ∧ RV 80 f_94 g_94 ∧ ∀ S : Int → Int → Prop, HUL S (f1) (g1) → HS S n_94 f_94 g_94 := h_94
              refine lv_aload_n SS.1 SS.2.1 dX11_dual_97 rfl (lv_at hl 0 rfl) ?_
              refine lv_aload SS.1 SS.2.1 dX11_dual_98 (lv_at hl 4 rfl) ?_
              refine j_vWi SS (As := [.ref (q (8 + 5 * i_8))]) (rest := []) (c_X11_remakeIfFitsN l D q (sY (sX (sI (sI (sC u 8 n_94) 0 f1) 1 g1) 8 f_94) 8 g_94) A (cW_D hD) i_8 (by omega)  (show CI (sY (sX (sI (sI (sC u 8 n_94) 0 f1) 1 g1) 8 f_94) 8 g_94) from (CI_8 (CI_h p0 i47_1) h_94.1 h_94.2.1))) mf_X11_remakeIfFits kw_493 hG hP hP (ci := 11) (q0 := 0) rfl rfl rfl hS (fun _ h => h) rfl hl.1 ⟨⟨Nat.le_of_ble_eq_true rfl, Nat.le_of_ble_eq_true rfl⟩, Nat.le_of_ble_eq_true rfl, Nat.le_refl _, Nat.le_refl _⟩ rfl dX11_dual_100 (fun z_100 u100 H locs h_100 hP _ hS => ?_)
              obtain ⟨n_100, f_100, g_100, hh_100, tt_100, st0_100, rfl, h_100⟩ := h_100
              have hP : va_P D.1 j_cl (cW D q (sY (sY (sX (sX (sV (sT (sI (sI (sH (sC (sC u 8 n_94) i_8 n_100) i_8 hh_100) 0 f1) 1 g1) i_8 tt_100) 0 st0_100) 8 f_94) i_8 f_100) 8 g_94) i_8 g_100)) H := hP
              have h_100 : CI (sY (sY (sX (sX (sV (sT (sI (sI (sH (sC (sC u 8 n_94) i_8 n_100) i_8 hh_100) 0 f1) 1 g1) i_8 tt_100) 0 st0_100) 8 f_94) i_8 f_100) 8 g_94) i_8 g_100) ∧ ((z_100 = -3 ∧ ¬ (n_94 ≤ 24 ∧ bd 40 (f_94) (g_94) (n_94)) ∧ cSame (sY (sX (sI (sI (sC u 8 n_94) 0 f1) 1 g1) 8 f_94) 8 g_94) (sY (sY (sX (sX (sV (sT (sI (sI (sH (sC (sC u 8 n_94) i_8 n_100) i_8 hh_100) 0 f1) 1 g1) i_8 tt_100) 0 st0_100) 8 f_94) i_8 f_100) 8 g_94) i_8 g_100)) ∨ (z_100 = n_94 ∧ n_94 ≤ 24 ∧ bd 40 (f_94) (g_94) (n_94) ∧ cNew (sY (sX (sI (sI (sC u 8 n_94) 0 f1) 1 g1) 8 f_94) 8 g_94) (sY (sY (sX (sX (sV (sT (sI (sI (sH (sC (sC u 8 n_94) i_8 n_100) i_8 hh_100) 0 f1) 1 g1) i_8 tt_100) 0 st0_100) 8 f_94) i_8 f_100) 8 g_94) i_8 g_100) i_8 (n_94) (f_94) (g_94))) := h_100
              exact W.iret SS.1 SS.2.1 hr (fun t0 ht hW => ⟨⟨_, (sY (sY (sX (sX (sV (sT (sI (sI (sH (sC (sC u 8 n_94) i_8 n_100) i_8 hh_100) 0 f1) 1 g1) i_8 tt_100) 0 st0_100) 8 f_94) i_8 f_100) 8 g_94) i_8 g_100), rfl, ⟨z_100, rfl, (⟨h_100.1, Or.inr ⟨by omega, by omega, Or.inr ⟨by rw [show s.toNat = i_2 by omega]; rcases h_28 with q | q; exact q.2; omega, by rw [show s.toNat = i_2 by omega, show to.toNat = i_8 by omega]; exact mkC_r (by first | exact cs_refl | exact (fun r hr => ⟨if_neg (by omega), if_neg (by omega), if_neg (by omega)⟩)) (h_94.2.2 _ hU) h_100.2⟩⟩⟩)⟩, by show va_P D.1 j_cl (cW D q (sY (sY (sX (sX (sV (sT (sI (sI (sH (sC (sC u 8 n_94) i_8 n_100) i_8 hh_100) 0 f1) 1 g1) i_8 tt_100) 0 st0_100) 8 f_94) i_8 f_100) 8 g_94) i_8 g_100)) t0.heap; rw [ht]; first | exact hP | (simp only [sC_id, sX_id, sY_id, sH_id, sT_id, sV_id]; exact hP)⟩, hS.F ht⟩) hS.2.2 dX11_dual_103 hlk
            · skip
              refine lv_aload_n SS.1 SS.2.1 dX11_dual_59 rfl (lv_at hl 0 rfl) ?_
              refine j_get SS hG hP 0 (v := .ref (q 2)) (C := RX11) (T := TX11) (N := 8) rfl rfl inX11 1 (by decide) (ref := "GridPolygons") kw_386 rfl rfl dX11_dual_60 ?_
              refine lv_aload_n SS.1 SS.2.1 dX11_dual_63 rfl (lv_at hl 3 rfl) ?_
              refine j_get SS hG hP (8 + 5 * i_2) (v := .ref (q (9 + 5 * i_2))) (C := RX10) (T := TX10) (N := 3) (cw_shape (by omega)) rfl inX10 0 (by decide) (ref := "GridPolygons$Shape") kw_151 rfl rfl dX11_dual_64 ?_
              refine lv_iload SS.1 SS.2.1 dX11_dual_67 (lv_at hl 5 rfl) ?_
              refine j_vRi SS (As := [.int (J i)]) (rest := [.ref (q 2)]) (c_X7_normalA2 l D q (sI (sI u 0 f1) 1 g1) i_2 (by omega) (40 : Int) i (show 0 ≤ (40 : Int) ∧ (40 : Int) ≤ 80 from (by omega)) (show RB (40 : Int) (sI (sI u 0 f1) 1 g1) i_2 from (show RB 40 u i_2 from CI_40 p0 (by omega))) (show -1000 ≤ i ∧ i ≤ 1000 from (by omega))) mf_X7_normalA kw_800 hG hP hP (ci := 7) (q0 := (9 + 5 * i_2)) rfl (cw_ring (by omega)) rfl rfl hl.1 ⟨⟨Nat.le_of_ble_eq_true rfl, Nat.le_of_ble_eq_true rfl⟩, Nat.le_of_ble_eq_true rfl, Nat.le_refl _, Nat.le_refl _⟩ rfl dX11_dual_69 (fun z_69 h_69 => ?_)
              have h_69 : z_69 = dNX (sI (sI u 0 f1) 1 g1) i_2 i ∧ -2 * (40 : Int) ≤ z_69 ∧ z_69 ≤ 2 * (40 : Int) := h_69
              refine lv_aload_n SS.1 SS.2.1 dX11_dual_72 rfl (lv_at hl 3 rfl) ?_
              refine j_get SS hG hP (8 + 5 * i_2) (v := .ref (q (9 + 5 * i_2))) (C := RX10) (T := TX10) (N := 3) (cw_shape (by omega)) rfl inX10 0 (by decide) (ref := "GridPolygons$Shape") kw_151 rfl rfl dX11_dual_73 ?_
              refine lv_iload SS.1 SS.2.1 dX11_dual_76 (lv_at hl 5 rfl) ?_
              refine j_vRi SS (As := [.int (J i)]) (rest := [.int (J z_69), .ref (q 2)]) (c_X7_normalB2 l D q (sI (sI u 0 f1) 1 g1) i_2 (by omega) (40 : Int) i (show 0 ≤ (40 : Int) ∧ (40 : Int) ≤ 80 from (by omega)) (show RB (40 : Int) (sI (sI u 0 f1) 1 g1) i_2 from (show RB 40 u i_2 from CI_40 p0 (by omega))) (show -1000 ≤ i ∧ i ≤ 1000 from (by omega))) mf_X7_normalB kw_804 hG hP hP (ci := 7) (q0 := (9 + 5 * i_2)) rfl (cw_ring (by omega)) rfl rfl hl.1 ⟨⟨Nat.le_of_ble_eq_true rfl, Nat.le_of_ble_eq_true rfl⟩, Nat.le_of_ble_eq_true rfl, Nat.le_refl _, Nat.le_refl _⟩ rfl dX11_dual_78 (fun z_78 h_78 => ?_)
              have h_78 : z_78 = dNY (sI (sI u 0 f1) 1 g1) i_2 i ∧ -2 * (40 : Int) ≤ z_78 ∧ z_78 ≤ 2 * (40 : Int) := h_78
              refine j_vWv SS (As := [.int (J z_69), .int (J z_78)]) (rest := []) (c_X3_take l D q (sI (sI u 0 f1) 1 g1) A (cW_D hD)  z_69 z_78 (show HU_ (f1) (g1) from (i47_1)) (show -1000 ≤ z_69 ∧ z_69 ≤ 1000 from (by omega)) (show -2147483648 ≤ z_78 ∧ z_78 ≤ 2147483647 from (by omega))) mf_X3_take kw_492 hG hP hP (ci := 3) (q0 := 2) rfl rfl rfl hS (fun _ h => h) rfl hl.1 ⟨⟨Nat.le_of_ble_eq_true rfl, Nat.le_of_ble_eq_true rfl⟩, Nat.le_of_ble_eq_true rfl, Nat.le_refl _, Nat.le_refl _⟩ rfl dX11_dual_81 (fun u81 H locs h_81 hP _ hS => ?_)
              obtain ⟨f_81, g_81, rfl, h_81⟩ := h_81
              have hP : va_P D.1 j_cl (cW D q (sI (sI u 0 f_81) 1 g_81)) H := hP
              have h_81 : ((-80 ≤ z_69 ∧ z_69 ≤ 80 ∧ -80 ≤ z_78 ∧ z_78 ≤ 80) ∧ f_81 = upI (f1) (z_69 + 80).toNat (min (f1 (z_69 + 80).toNat) z_78) ∧ g_81 = upI (g1) (z_69 + 80).toNat (max (g1 (z_69 + 80).toNat) z_78) ∨ ¬ (-80 ≤ z_69 ∧ z_69 ≤ 80 ∧ -80 ≤ z_78 ∧ z_78 ≤ 80) ∧ f_81 = f1 ∧ g_81 = g1) ∧ HU_ f_81 g_81 := h_81
              refine lv_iinc (v := J (i + 1)) (lv' := [(5, .int (J (i + 1))), (0, .ref (q 0)), (1, .int (J s)), (2, .int (J to)), (3, .ref (q (8 + 5 * i_2))), (4, .ref (q (8 + 5 * i_8)))]) SS.1 SS.2.1 dX11_dual_84 hl (k := 5) rfl (J_add _ _) (by decide) rfl (fun ls hl => ?_)
              refine lv_goto (tgt := 47) SS.1 SS.2.1 dX11_dual_87 (by decide) ?_
              exact ih_47 (i + 1) f_81 g_81 _ _ hP hS ls (lv_sub hl [1, 2, 3, 4, 5, 0] rfl) (by omega) (h_81.2) (by rcases h_81.1 with ⟨w1, w2, w3⟩ | ⟨w1, _⟩; (rw [w2, w3]; exact HUL_c (HUL_t i47_2 (by omega) (by omega)) (fun x y => nc_s i47_0.1 h_69.1 h_78.1 x y)); omega) (by omega)
        exact L_47 ((u.1.2.2.1 i_2 - (0 : Int)).toNat + 1) 0 f_41 g_41 _ _ hP hS ls (lv_sub hl [3, 4, 5, 2, 1, 0] rfl) (by omega) (h_41.2.2) (by rw [h_41.1, h_41.2.1]; exact HUL_c HUL_0 (fun x y => ⟨fun ⟨a, q1, _⟩ => by omega, False.elim⟩)) (Nat.lt_succ_self _)
      · skip
        refine j_bipush SS dX11_dual_34 (by decide +kernel) ?_
        exact W.iret SS.1 SS.2.1 hr (fun t0 ht hW => ⟨⟨_, u, rfl, ⟨(-2), rfl, (⟨p0, Or.inr ⟨by omega, by omega, Or.inl ⟨by rw [show s.toNat = i_2 by omega]; rcases h_28 with q | q; omega; exact q.2, rfl, cs_refl⟩⟩⟩)⟩, by show va_P D.1 j_cl (cW D q u) t0.heap; rw [ht]; first | exact hP | (simp only [sC_id, sX_id, sY_id, sH_id, sT_id, sV_id]; exact hP)⟩, hS.F ht⟩) hS.2.2 dX11_dual_36 hlk
    · skip
      refine lv_astoreN (lv' := [(4, .null), (3, .ref (q (8 + 5 * i_2))), (0, .ref (q 0)), (1, .int (J s)), (2, .int (J to))]) SS.1 SS.2.1 dX11_dual_11 hl (by decide) rfl (fun ls hl => ?_)
      refine lv_aload_n SS.1 SS.2.1 dX11_dual_13 rfl (lv_at hl 1 rfl) ?_
      refine lv_ifnull SS.1 SS.2.1 dX11_dual_14 ?_
      refine lv_aloadN SS.1 SS.2.1 dX11_dual_17 (lv_at hl 0 rfl) ?_
      refine lv_ifnonnullN SS.1 SS.2.1 dX11_dual_19 ?_
      refine j_iconst SS dX11_dual_22 ?_
      exact W.iret SS.1 SS.2.1 hr (fun t0 ht hW => ⟨⟨_, u, rfl, ⟨(-1), rfl, (⟨p0, Or.inl ⟨by omega, rfl, cs_refl⟩⟩)⟩, by show va_P D.1 j_cl (cW D q u) t0.heap; rw [ht]; first | exact hP | (simp only [sC_id, sX_id, sY_id, sH_id, sT_id, sV_id]; exact hP)⟩, hS.F ht⟩) hS.2.2 dX11_dual_23 hlk
  · skip
    refine lv_astore_nN (lv' := [(3, .null), (0, .ref (q 0)), (1, .int (J s)), (2, .int (J to))]) SS.1 SS.2.1 dX11_dual_5 rfl hl (by decide) rfl (fun ls hl => ?_)
    refine lv_aload_n SS.1 SS.2.1 dX11_dual_6 rfl (lv_at hl 1 rfl) ?_
    refine lv_iload_n SS.1 SS.2.1 dX11_dual_7 rfl (lv_at hl 3 rfl) ?_
    refine j_vSh SS (As := [.int (J to)]) (rest := []) (c_X11_shapeAt l D q u  to (show -2147483648 ≤ to ∧ to ≤ 2147483647 from (p2))) mf_X11_shapeAt kw_414 hG hP hP (ci := 11) (q0 := 0) rfl rfl rfl rfl hl.1 ⟨⟨Nat.le_of_ble_eq_true rfl, Nat.le_of_ble_eq_true rfl⟩, Nat.le_of_ble_eq_true rfl, Nat.le_refl _, Nat.le_refl _⟩ rfl dX11_dual_8 (fun i_8 hi_8 hz_8 => ?_) (fun hn_8 => ?_)
    · skip
      refine lv_astore (lv' := [(4, .ref (q (8 + 5 * i_8))), (3, .null), (0, .ref (q 0)), (1, .int (J s)), (2, .int (J to))]) SS.1 SS.2.1 dX11_dual_11 hl (by decide) rfl (fun ls hl => ?_)
      refine lv_aload_nN SS.1 SS.2.1 dX11_dual_13 rfl (lv_at hl 1 rfl) ?_
      refine lv_ifnullN SS.1 SS.2.1 (tgt := 22) dX11_dual_14 (by decide) ?_
      refine j_iconst SS dX11_dual_22 ?_
      exact W.iret SS.1 SS.2.1 hr (fun t0 ht hW => ⟨⟨_, u, rfl, ⟨(-1), rfl, (⟨p0, Or.inl ⟨by omega, rfl, cs_refl⟩⟩)⟩, by show va_P D.1 j_cl (cW D q u) t0.heap; rw [ht]; first | exact hP | (simp only [sC_id, sX_id, sY_id, sH_id, sT_id, sV_id]; exact hP)⟩, hS.F ht⟩) hS.2.2 dX11_dual_23 hlk
    · skip
      refine lv_astoreN (lv' := [(4, .null), (3, .null), (0, .ref (q 0)), (1, .int (J s)), (2, .int (J to))]) SS.1 SS.2.1 dX11_dual_11 hl (by decide) rfl (fun ls hl => ?_)
      refine lv_aload_nN SS.1 SS.2.1 dX11_dual_13 rfl (lv_at hl 1 rfl) ?_
      refine lv_ifnullN SS.1 SS.2.1 (tgt := 22) dX11_dual_14 (by decide) ?_
      refine j_iconst SS dX11_dual_22 ?_
      exact W.iret SS.1 SS.2.1 hr (fun t0 ht hW => ⟨⟨_, u, rfl, ⟨(-1), rfl, (⟨p0, Or.inl ⟨by omega, rfl, cs_refl⟩⟩)⟩, by show va_P D.1 j_cl (cW D q u) t0.heap; rw [ht]; first | exact hP | (simp only [sC_id, sX_id, sY_id, sH_id, sT_id, sV_id]; exact hP)⟩, hS.F ht⟩) hS.2.2 dX11_dual_23 hlk
