
set_option maxHeartbeats 4000000 in
set_option maxRecDepth 100000 in
theorem c_X9_walk (l : Launch) (D : JD) (q : Nat → Nat) (u : CS) (A : Nat → Prop) (hD : va_D A (cW D q u)) (a : Int) (b : Int) (c : Int) (d : Int) (w : Int) (p0 : -40 ≤ a ∧ a ≤ 40) (p1 : -40 ≤ b ∧ b ≤ 40) (p2 : -40 ≤ c ∧ c ≤ 40) (p3 : -40 ≤ d ∧ d ≤ 40) (p4 : 0 < cx a b c d) (p5 : -2147483648 ≤ w ∧ w ≤ 2147483647) : Met l yX9_walk (jw yX9_walk cX9_walk 20 none) (jr 2 50) (jP [.ref (q 4), .int (J a), .int (J b), .int (J c), .int (J d), .int (J w)] D (fun H => va_P D.1 j_cl (cW D q u) H)) (jWv (fun u' => ∃ cn : Int, ∃ x1 : Int, ∃ y1 : Int, ∃ b1 : Int, ∃ sx : Int, ∃ sy : Int, u' = (sV (sV (sV (sV (sV (sV u 4 cn) 5 x1) 6 y1) 7 b1) 8 sx) 9 sy) ∧ (wk a b c d w cn x1 y1 b1)) (fun u' H => va_P D.1 j_cl (cW D q u') H) A) 0 0 A := by
  refine Met.ofW (cc := cX9_walk) (maxL := 20) (ret := none) (by decide) rfl ?_
  intro pr en st mi args below meth co s₁ B hml hv
  obtain ⟨rfl, hG, hP⟩ := hv
  have hr := B.returns
  have hlk := B.notSynchronized
  have SS : jS pr mi co cX9_walk 20 st _ RX9 := ⟨B.exec, B.bytes, hml, findClass_of_methodNamed B.named, fun w hw => atoms_spec (ws := (jw yX9_walk cX9_walk 20 none)) B.pre w (List.mem_cons_of_mem _ hw)⟩
  have hl := lv_entry ([.ref (q 4), .int (J a), .int (J b), .int (J c), .int (J d), .int (J w)]) (n := 20) (Nat.le_of_ble_eq_true rfl)
  rw [lg_entry_eq]
  generalize (lg_sl ([.ref (q 4), .int (J a), .int (J b), .int (J c), .int (J d), .int (J w)]) ++ List.replicate (20 - (lg_sl ([.ref (q 4), .int (J a), .int (J b), .int (J c), .int (J d), .int (J w)])).length) Slot.unset).toArray = ls at hl ⊢
  have hl : lv_has ls 20 [(0, .ref (q 4)), (1, .int (J a)), (2, .int (J b)), (3, .int (J c)), (4, .int (J d)), (5, .int (J w))] := hl
  have hS : va_S A st.heap st.heap [] := va_S.rf
  have hab : a ≠ 0 ∨ b ≠ 0 := by by_cases e : a = 0 ∧ b = 0; (rw [e.1, e.2] at p4; unfold cx at p4; omega); omega
  have hcd : c ≠ 0 ∨ d ≠ 0 := by by_cases e : c = 0 ∧ d = 0; (rw [e.1, e.2] at p4; unfold cx at p4; omega); omega
  refine lv_iload_n SS.1 SS.2.1 dX9_walk_0 rfl (lv_at hl 1 rfl) ?_
  refine lv_iload_n SS.1 SS.2.1 dX9_walk_1 rfl (lv_at hl 2 rfl) ?_
  refine j_nRi SS (As := [.int (J a), .int (J b)]) (rest := []) (c_X11_gcd l D  a b (show -100000 ≤ a ∧ a ≤ 100000 from (by omega)) (show -100000 ≤ b ∧ b ≤ 100000 from (by omega))) mf_X11_gcd hG.2.2.2.1 hG trivial rfl hl.1 ⟨⟨Nat.le_of_ble_eq_true rfl, Nat.le_of_ble_eq_true rfl⟩, Nat.le_of_ble_eq_true rfl, Nat.le_refl _, Nat.le_refl _⟩ rfl dX9_walk_2 (fun z_2 h_2 => ?_)
  have h_2 : z_2 = (Int.gcd a b : Int) := h_2
  have hg1 := gcd_p hab
  rw [← h_2] at hg1
  have hg2 := gcd_b p0 p1
  rw [← h_2] at hg2
  refine lv_istore (lv' := [(6, .int (J z_2)), (0, .ref (q 4)), (1, .int (J a)), (2, .int (J b)), (3, .int (J c)), (4, .int (J d)), (5, .int (J w))]) SS.1 SS.2.1 dX9_walk_5 hl (by decide) rfl (fun ls hl => ?_)
  refine lv_iload_n SS.1 SS.2.1 dX9_walk_7 rfl (lv_at hl 4 rfl) ?_
  refine lv_iload SS.1 SS.2.1 dX9_walk_8 (lv_at hl 5 rfl) ?_
  refine j_nRi SS (As := [.int (J c), .int (J d)]) (rest := []) (c_X11_gcd l D  c d (show -100000 ≤ c ∧ c ≤ 100000 from (by omega)) (show -100000 ≤ d ∧ d ≤ 100000 from (by omega))) mf_X11_gcd hG.2.2.2.1 hG trivial rfl hl.1 ⟨⟨Nat.le_of_ble_eq_true rfl, Nat.le_of_ble_eq_true rfl⟩, Nat.le_of_ble_eq_true rfl, Nat.le_refl _, Nat.le_refl _⟩ rfl dX9_walk_10 (fun z_10 h_10 => ?_)
  have h_10 : z_10 = (Int.gcd c d : Int) := h_10
  have hg3 := gcd_p hcd
  rw [← h_10] at hg3
  have hg4 := gcd_b p2 p3
  rw [← h_10] at hg4
  refine lv_istore (lv' := [(7, .int (J z_10)), (6, .int (J z_2)), (0, .ref (q 4)), (1, .int (J a)), (2, .int (J b)), (3, .int (J c)), (4, .int (J d)), (5, .int (J w))]) SS.1 SS.2.1 dX9_walk_13 hl (by decide) rfl (fun ls hl => ?_)
  refine lv_aload_n SS.1 SS.2.1 dX9_walk_15 rfl (lv_at hl 2 rfl) ?_
  refine j_iconst SS dX9_walk_16 ?_
  refine j_put SS hG hP (cW_D hD) hS 4 (v := .int (J 0)) (ty := .int) (C := RX9) (T := TX9) (N := 6) rfl rfl inX9 tyX9 tyX9_ok nmX9 0 (by decide) (ref := "GridPolygons$Sail") kw_213 rfl rfl (by decide +kernel) rfl rfl (Nat.le_of_ble_eq_true rfl) dX9_walk_17 (ws' := (cW D q (sV u 4 0))) rfl (fun H locs hP hS => ?_)
  refine lv_iload SS.1 SS.2.1 dX9_walk_20 (lv_at hl 1 rfl) ?_
  refine j_if_eq SS (tgt := 30) (x := z_2) dX9_walk_22 (by decide) (by omega) (fun c_22 => ?_) (fun c_22 => ?_)
  · skip
    exfalso; omega
  · skip
    refine lv_iload SS.1 SS.2.1 dX9_walk_25 (lv_at hl 0 rfl) ?_
    refine j_if_ne SS (tgt := 31) (x := z_10) dX9_walk_27 (by decide) (by omega) (fun c_27 => ?_) (fun c_27 => ?_)
    · skip
      refine lv_iload_n SS.1 SS.2.1 dX9_walk_31 rfl (lv_at hl 3 rfl) ?_
      refine lv_iload SS.1 SS.2.1 dX9_walk_32 (lv_at hl 1 rfl) ?_
      refine j_idiv SS (x := a) (y := z_2) dX9_walk_34 (by omega) (by omega) (by omega) ?_
      obtain ⟨px0, epx0⟩ : ∃ z : Int, z = (Int.tdiv a z_2) := ⟨_, rfl⟩
      rw [← epx0]
      refine lv_istore (lv' := [(8, .int (J px0)), (7, .int (J z_10)), (6, .int (J z_2)), (0, .ref (q 4)), (1, .int (J a)), (2, .int (J b)), (3, .int (J c)), (4, .int (J d)), (5, .int (J w))]) SS.1 SS.2.1 dX9_walk_35 hl (by decide) rfl (fun ls hl => ?_)
      refine lv_iload_n SS.1 SS.2.1 dX9_walk_37 rfl (lv_at hl 5 rfl) ?_
      refine lv_iload SS.1 SS.2.1 dX9_walk_38 (lv_at hl 2 rfl) ?_
      refine j_idiv SS (x := b) (y := z_2) dX9_walk_40 (by omega) (by omega) (by omega) ?_
      obtain ⟨py0, epy0⟩ : ∃ z : Int, z = (Int.tdiv b z_2) := ⟨_, rfl⟩
      rw [← epy0]
      refine lv_istore (lv' := [(9, .int (J py0)), (8, .int (J px0)), (7, .int (J z_10)), (6, .int (J z_2)), (0, .ref (q 4)), (1, .int (J a)), (2, .int (J b)), (3, .int (J c)), (4, .int (J d)), (5, .int (J w))]) SS.1 SS.2.1 dX9_walk_41 hl (by decide) rfl (fun ls hl => ?_)
      refine lv_iload_n SS.1 SS.2.1 dX9_walk_43 rfl (lv_at hl 7 rfl) ?_
      refine lv_iload SS.1 SS.2.1 dX9_walk_44 (lv_at hl 2 rfl) ?_
      refine j_idiv SS (x := c) (y := z_10) dX9_walk_46 (by omega) (by omega) (by omega) ?_
      obtain ⟨tx, etx⟩ : ∃ z : Int, z = (Int.tdiv c z_10) := ⟨_, rfl⟩
      rw [← etx]
      refine lv_istore (lv' := [(10, .int (J tx)), (9, .int (J py0)), (8, .int (J px0)), (7, .int (J z_10)), (6, .int (J z_2)), (0, .ref (q 4)), (1, .int (J a)), (2, .int (J b)), (3, .int (J c)), (4, .int (J d)), (5, .int (J w))]) SS.1 SS.2.1 dX9_walk_47 hl (by decide) rfl (fun ls hl => ?_)
      refine lv_iload SS.1 SS.2.1 dX9_walk_49 (lv_at hl 9 rfl) ?_
      refine lv_iload SS.1 SS.2.1 dX9_walk_51 (lv_at hl 3 rfl) ?_
      refine j_idiv SS (x := d) (y := z_10) dX9_walk_53 (by omega) (by omega) (by omega) ?_
      obtain ⟨ty, ety⟩ : ∃ z : Int, z = (Int.tdiv d z_10) := ⟨_, rfl⟩
      rw [← ety]
      refine lv_istore (lv' := [(11, .int (J ty)), (10, .int (J tx)), (9, .int (J py0)), (8, .int (J px0)), (7, .int (J z_10)), (6, .int (J z_2)), (0, .ref (q 4)), (1, .int (J a)), (2, .int (J b)), (3, .int (J c)), (4, .int (J d)), (5, .int (J w))]) SS.1 SS.2.1 dX9_walk_54 hl (by decide) rfl (fun ls hl => ?_)
      have bp1 := td_b (b := z_2) p0
      have bp2 := td_b (b := z_2) p1
      have bt1 := td_b (b := z_10) p2
      have bt2 := td_b (b := z_10) p3
      rw [← epx0] at bp1
      rw [← epy0] at bp2
      rw [← etx] at bt1
      rw [← ety] at bt2
      have gp : Int.gcd px0 py0 = 1 := by rw [epx0, epy0, h_2]; exact gcd_div (by omega)
      have gt : Int.gcd tx ty = 1 := by rw [etx, ety, h_10]; exact gcd_div (by omega)
      have hpt : 0 < cx px0 py0 tx ty := by rw [epx0, epy0, etx, ety, h_2, h_10]; exact cx_div p4 (by omega) (by omega)
      refine lv_aload_n SS.1 SS.2.1 dX9_walk_56 rfl (lv_at hl 6 rfl) ?_
      refine lv_iload SS.1 SS.2.1 dX9_walk_57 (lv_at hl 3 rfl) ?_
      refine lv_iload SS.1 SS.2.1 dX9_walk_59 (lv_at hl 2 rfl) ?_
      refine j_ldc SS (-1000000) kw_840 dX9_walk_61 ?_
      refine lv_iload SS.1 SS.2.1 dX9_walk_63 (lv_at hl 11 rfl) ?_
      refine j_vWv SS (As := [.int (J px0), .int (J py0), .int (J (-1000000)), .int (J w)]) (rest := []) (c_X9_keep l D q (sV u 4 0) A (cW_D hD)  px0 py0 (-1000000) w (show 0 ≤ 0 ∧ 0 ≤ 100000 from (by omega)) (show -2147483648 ≤ w ∧ w ≤ 2147483647 from (p5))) mf_X9_keep kw_841 hG hP hP (ci := 9) (q0 := 4) rfl rfl rfl hS (fun _ h => h) rfl hl.1 ⟨⟨Nat.le_of_ble_eq_true rfl, Nat.le_of_ble_eq_true rfl⟩, Nat.le_of_ble_eq_true rfl, Nat.le_refl _, Nat.le_refl _⟩ rfl dX9_walk_65 (fun u65 H locs h_65 hP _ hS => ?_)
      obtain ⟨cn_65, x1_65, y1_65, b1_65, rfl, h_65⟩ := h_65
      have hP : va_P D.1 j_cl (cW D q (sV (sV (sV (sV u 4 cn_65) 5 x1_65) 6 y1_65) 7 b1_65)) H := hP
      have h_65 : cn_65 = 0 + 1 ∧ (0 = w → x1_65 = px0 ∧ y1_65 = py0 ∧ b1_65 = (-1000000 : Int)) ∧ (0 ≠ w → x1_65 = (u.2.2.2 5) ∧ y1_65 = (u.2.2.2 6) ∧ b1_65 = (u.2.2.2 7)) := h_65
      refine lv_aload_n SS.1 SS.2.1 dX9_walk_68 rfl (lv_at hl 6 rfl) ?_
      refine lv_iload SS.1 SS.2.1 dX9_walk_69 (lv_at hl 3 rfl) ?_
      refine lv_iload SS.1 SS.2.1 dX9_walk_71 (lv_at hl 2 rfl) ?_
      refine lv_iload SS.1 SS.2.1 dX9_walk_73 (lv_at hl 1 rfl) ?_
      refine lv_iload SS.1 SS.2.1 dX9_walk_75 (lv_at hl 0 rfl) ?_
      refine j_vWv SS (As := [.int (J px0), .int (J py0), .int (J tx), .int (J ty)]) (rest := []) (c_X9_findSecond l D q (sV (sV (sV (sV u 4 cn_65) 5 x1_65) 6 y1_65) 7 b1_65) A (cW_D hD)  px0 py0 tx ty (show -40 ≤ px0 ∧ px0 ≤ 40 from (bp1)) (show -40 ≤ py0 ∧ py0 ≤ 40 from (bp2)) (show -40 ≤ tx ∧ tx ≤ 40 from (bt1)) (show -40 ≤ ty ∧ ty ≤ 40 from (bt2)) (show Int.gcd px0 py0 = 1 from (gp)) (show 0 < cx px0 py0 tx ty from (hpt))) mf_X9_findSecond kw_845 hG hP hP (ci := 9) (q0 := 4) rfl rfl rfl hS (fun _ h => h) rfl hl.1 ⟨⟨Nat.le_of_ble_eq_true rfl, Nat.le_of_ble_eq_true rfl⟩, Nat.le_of_ble_eq_true rfl, Nat.le_refl _, Nat.le_refl _⟩ rfl dX9_walk_77 (fun u77 H locs h_77 hP _ hS => ?_)
      obtain ⟨sx_77, sy_77, rfl, h_77⟩ := h_77
      have hP : va_P D.1 j_cl (cW D q (sV (sV (sV (sV (sV (sV u 4 cn_65) 5 x1_65) 6 y1_65) 7 b1_65) 8 sx_77) 9 sy_77)) H := hP
      have h_77 : nx px0 py0 tx ty sx_77 sy_77 := h_77
      refine lv_aload_n SS.1 SS.2.1 dX9_walk_80 rfl (lv_at hl 6 rfl) ?_
      refine j_get SS hG hP 4 (v := .int (J sx_77)) (C := RX9) (T := TX9) (N := 6) rfl rfl inX9 4 (by decide) (ref := "GridPolygons$Sail") kw_221 rfl rfl dX9_walk_81 ?_
      refine lv_istore (lv' := [(12, .int (J sx_77)), (11, .int (J ty)), (10, .int (J tx)), (9, .int (J py0)), (8, .int (J px0)), (7, .int (J z_10)), (6, .int (J z_2)), (0, .ref (q 4)), (1, .int (J a)), (2, .int (J b)), (3, .int (J c)), (4, .int (J d)), (5, .int (J w))]) SS.1 SS.2.1 dX9_walk_84 hl (by decide) rfl (fun ls hl => ?_)
      refine lv_aload_n SS.1 SS.2.1 dX9_walk_86 rfl (lv_at hl 7 rfl) ?_
      refine j_get SS hG hP 4 (v := .int (J sy_77)) (C := RX9) (T := TX9) (N := 6) rfl rfl inX9 5 (by decide) (ref := "GridPolygons$Sail") kw_222 rfl rfl dX9_walk_87 ?_
      refine lv_istore (lv' := [(13, .int (J sy_77)), (12, .int (J sx_77)), (11, .int (J ty)), (10, .int (J tx)), (9, .int (J py0)), (8, .int (J px0)), (7, .int (J z_10)), (6, .int (J z_2)), (0, .ref (q 4)), (1, .int (J a)), (2, .int (J b)), (3, .int (J c)), (4, .int (J d)), (5, .int (J w))]) SS.1 SS.2.1 dX9_walk_90 hl (by decide) rfl (fun ls hl => ?_)
      have hsb := nx_b h_77 ⟨bp1, bp2⟩ ⟨bt1, bt2⟩
      have m1 := mulb (A := 40) (B := 40) bp1 bt2
      have m2 := mulb (A := 40) (B := 40) bp2 bt1
      refine lv_iload SS.1 SS.2.1 dX9_walk_92 (lv_at hl 5 rfl) ?_
      refine lv_iload SS.1 SS.2.1 dX9_walk_94 (lv_at hl 2 rfl) ?_
      refine j_imul SS (x := px0) (y := ty) dX9_walk_96 ?_
      refine lv_iload SS.1 SS.2.1 dX9_walk_97 (lv_at hl 4 rfl) ?_
      refine lv_iload SS.1 SS.2.1 dX9_walk_99 (lv_at hl 3 rfl) ?_
      refine j_imul SS (x := py0) (y := tx) dX9_walk_101 ?_
      refine j_isub SS (x := (px0 * ty)) (y := (py0 * tx)) dX9_walk_102 ?_
      obtain ⟨bf0, ebf0⟩ : ∃ z : Int, z = ((px0 * ty) - (py0 * tx)) := ⟨_, rfl⟩
      rw [← ebf0]
      refine lv_istore (lv' := [(14, .int (J bf0)), (13, .int (J sy_77)), (12, .int (J sx_77)), (11, .int (J ty)), (10, .int (J tx)), (9, .int (J py0)), (8, .int (J px0)), (7, .int (J z_10)), (6, .int (J z_2)), (0, .ref (q 4)), (1, .int (J a)), (2, .int (J b)), (3, .int (J c)), (4, .int (J d)), (5, .int (J w))]) SS.1 SS.2.1 dX9_walk_103 hl (by decide) rfl (fun ls hl => ?_)
      refine lv_iload SS.1 SS.2.1 dX9_walk_105 (lv_at hl 2 rfl) ?_
      refine lv_iload SS.1 SS.2.1 dX9_walk_107 (lv_at hl 3 rfl) ?_
      refine j_imul SS (x := sx_77) (y := ty) dX9_walk_109 ?_
      refine lv_iload SS.1 SS.2.1 dX9_walk_110 (lv_at hl 1 rfl) ?_
      refine lv_iload SS.1 SS.2.1 dX9_walk_112 (lv_at hl 4 rfl) ?_
      refine j_imul SS (x := sy_77) (y := tx) dX9_walk_114 ?_
      refine j_isub SS (x := (sx_77 * ty)) (y := (sy_77 * tx)) dX9_walk_115 ?_
      obtain ⟨rs0, ers0⟩ : ∃ z : Int, z = ((sx_77 * ty) - (sy_77 * tx)) := ⟨_, rfl⟩
      rw [← ers0]
      refine lv_istore (lv' := [(15, .int (J rs0)), (14, .int (J bf0)), (13, .int (J sy_77)), (12, .int (J sx_77)), (11, .int (J ty)), (10, .int (J tx)), (9, .int (J py0)), (8, .int (J px0)), (7, .int (J z_10)), (6, .int (J z_2)), (0, .ref (q 4)), (1, .int (J a)), (2, .int (J b)), (3, .int (J c)), (4, .int (J d)), (5, .int (J w))]) SS.1 SS.2.1 dX9_walk_116 hl (by decide) rfl (fun ls hl => ?_)
      refine j_iconst SS dX9_walk_118 ?_
      refine lv_istore (lv' := [(16, .int (J 0)), (15, .int (J rs0)), (14, .int (J bf0)), (13, .int (J sy_77)), (12, .int (J sx_77)), (11, .int (J ty)), (10, .int (J tx)), (9, .int (J py0)), (8, .int (J px0)), (7, .int (J z_10)), (6, .int (J z_2)), (0, .ref (q 4)), (1, .int (J a)), (2, .int (J b)), (3, .int (J c)), (4, .int (J d)), (5, .int (J w))]) SS.1 SS.2.1 dX9_walk_119 hl (by decide) rfl (fun ls hl => ?_)
      have L_121 : ∀ (nn : Nat) (px : Int) (py : Int) (wx : Int) (wy : Int) (bf : Int) (rs : Int) (i : Int) (cn : Int) (x1 : Int) (y1 : Int) (b1 : Int) (H : Heap) (locs : List Loc) (hP : va_P D.1 j_cl (cW D q (sV (sV (sV (sV (sV (sV u 4 cn) 5 x1) 6 y1) 7 b1) 8 sx_77) 9 sy_77)) H) (hS : va_S A st.heap H locs) (ls : Array Slot) (hl : lv_has ls 20 [(0, .ref (q 4)), (1, .int (J a)), (2, .int (J b)), (3, .int (J c)), (4, .int (J d)), (5, .int (J w)), (8, .int (J px)), (9, .int (J py)), (10, .int (J tx)), (11, .int (J ty)), (12, .int (J wx)), (13, .int (J wy)), (14, .int (J bf)), (15, .int (J rs)), (16, .int (J i))]) (i121_0 : (0 ≤ i ∧ i + rs ≤ 3200) ∧ cn = i + 1) (i121_1 : SW px0 py0 tx ty cn px py wx wy w x1 y1 b1) (i121_2 : bf = cx px py tx ty ∧ rs = cx wx wy tx ty), rs.toNat < nn → W pr l en (headSpec (jw yX9_walk cX9_walk 20 none) (jr 2 50)).room st mi (([.ref (q 4), .int (J a), .int (J b), .int (J c), .int (J d), .int (J w)] : List Value).toArray) below meth co H locs 0 0 (MQ below (jWv (fun u' => ∃ cn : Int, ∃ x1 : Int, ∃ y1 : Int, ∃ b1 : Int, ∃ sx : Int, ∃ sy : Int, u' = (sV (sV (sV (sV (sV (sV u 4 cn) 5 x1) 6 y1) 7 b1) 8 sx) 9 sy) ∧ (wk a b c d w cn x1 y1 b1)) (fun u' H => va_P D.1 j_cl (cW D q u') H) A) (([.ref (q 4), .int (J a), .int (J b), .int (J c), .int (J d), .int (J w)] : List Value).toArray) st 0 0 A) (F0 mi 121 ls []) := by
        intro nn
        induction nn with
        | zero => intros; omega
        | succ nn ih_121 =>
          intro px py wx wy bf rs i cn x1 y1 b1 H locs hP hS ls hl i121_0 i121_1 i121_2 hm
          have hsw := SW_nx i121_1
          have hr0 : 0 ≤ rs := by have := hsw.1.2.1; omega
          have hr1 : rs < bf := by have := hsw.1.2.2; omega
          refine lv_iload SS.1 SS.2.1 dX9_walk_121 (lv_at hl 14 rfl) ?_
          refine j_sipush SS dX9_walk_123 (by decide +kernel) ?_
          refine j_icmp_ge SS (tgt := 216) (x := i) (y := 25921) dX9_walk_126 (by decide) (by omega) (by decide) (fun c_126 => ?_) (fun c_126 => ?_)
          · skip
            refine lv_aload_n SS.1 SS.2.1 dX9_walk_216 rfl (lv_at hl 0 rfl) ?_
            refine lv_iload SS.1 SS.2.1 dX9_walk_217 (lv_at hl 8 rfl) ?_
            refine lv_iload SS.1 SS.2.1 dX9_walk_219 (lv_at hl 9 rfl) ?_
            refine j_ldc SS (-1000000) kw_840 dX9_walk_221 ?_
            refine lv_iload SS.1 SS.2.1 dX9_walk_223 (lv_at hl 5 rfl) ?_
            refine j_vWv SS (As := [.int (J tx), .int (J ty), .int (J (-1000000)), .int (J w)]) (rest := []) (c_X9_keep l D q (sV (sV (sV (sV (sV (sV u 4 cn) 5 x1) 6 y1) 7 b1) 8 sx_77) 9 sy_77) A (cW_D hD)  tx ty (-1000000) w (show 0 ≤ cn ∧ cn ≤ 100000 from (by omega)) (show -2147483648 ≤ w ∧ w ≤ 2147483647 from (p5))) mf_X9_keep kw_841 hG hP hP (ci := 9) (q0 := 4) rfl rfl rfl hS (fun _ h => h) rfl hl.1 ⟨⟨Nat.le_of_ble_eq_true rfl, Nat.le_of_ble_eq_true rfl⟩, Nat.le_of_ble_eq_true rfl, Nat.le_refl _, Nat.le_refl _⟩ rfl dX9_walk_225 (fun u225 H locs h_225 hP _ hS => ?_)
            obtain ⟨cn_225, x1_225, y1_225, b1_225, rfl, h_225⟩ := h_225
            have hP : va_P D.1 j_cl (cW D q (sV (sV (sV (sV (sV (sV u 4 cn_225) 5 x1_225) 6 y1_225) 7 b1_225) 8 sx_77) 9 sy_77)) H := hP
            have h_225 : cn_225 = cn + 1 ∧ (cn = w → x1_225 = tx ∧ y1_225 = ty ∧ b1_225 = (-1000000 : Int)) ∧ (cn ≠ w → x1_225 = x1 ∧ y1_225 = y1 ∧ b1_225 = b1) := h_225
            exact W.vret SS.1 SS.2.1 hr (fun t0 ht hW => ⟨⟨(sV (sV (sV (sV (sV (sV u 4 cn_225) 5 x1_225) 6 y1_225) 7 b1_225) 8 sx_77) 9 sy_77), rfl, (⟨cn_225, x1_225, y1_225, b1_225, sx_77, sy_77, rfl, by rw [show cn_225 = cn + 1 from h_225.1]; rw [epx0, epy0, etx, ety, h_2, h_10] at i121_1; rw [etx, ety, h_10] at gt i121_2 h_225; exact SW_e (by omega) gt i121_1 (by rw [← i121_2.2]; omega) (fun e => h_225.2.1 e) (fun e => h_225.2.2 e)⟩), by show va_P D.1 j_cl (cW D q (sV (sV (sV (sV (sV (sV u 4 cn_225) 5 x1_225) 6 y1_225) 7 b1_225) 8 sx_77) 9 sy_77)) t0.heap; rw [ht]; first | exact hP | (simp only [sC_id, sX_id, sY_id, sH_id, sT_id, sV_id]; exact hP)⟩, hS.F ht⟩) hS.2.2 dX9_walk_228 hlk
          · skip
            refine lv_iload SS.1 SS.2.1 dX9_walk_129 (lv_at hl 13 rfl) ?_
            refine j_if_le SS (tgt := 216) (x := rs) dX9_walk_131 (by decide) (by omega) (fun c_131 => ?_) (fun c_131 => ?_)
            · skip
              refine lv_aload_n SS.1 SS.2.1 dX9_walk_216 rfl (lv_at hl 0 rfl) ?_
              refine lv_iload SS.1 SS.2.1 dX9_walk_217 (lv_at hl 8 rfl) ?_
              refine lv_iload SS.1 SS.2.1 dX9_walk_219 (lv_at hl 9 rfl) ?_
              refine j_ldc SS (-1000000) kw_840 dX9_walk_221 ?_
              refine lv_iload SS.1 SS.2.1 dX9_walk_223 (lv_at hl 5 rfl) ?_
              refine j_vWv SS (As := [.int (J tx), .int (J ty), .int (J (-1000000)), .int (J w)]) (rest := []) (c_X9_keep l D q (sV (sV (sV (sV (sV (sV u 4 cn) 5 x1) 6 y1) 7 b1) 8 sx_77) 9 sy_77) A (cW_D hD)  tx ty (-1000000) w (show 0 ≤ cn ∧ cn ≤ 100000 from (by omega)) (show -2147483648 ≤ w ∧ w ≤ 2147483647 from (p5))) mf_X9_keep kw_841 hG hP hP (ci := 9) (q0 := 4) rfl rfl rfl hS (fun _ h => h) rfl hl.1 ⟨⟨Nat.le_of_ble_eq_true rfl, Nat.le_of_ble_eq_true rfl⟩, Nat.le_of_ble_eq_true rfl, Nat.le_refl _, Nat.le_refl _⟩ rfl dX9_walk_225 (fun u225 H locs h_225 hP _ hS => ?_)
              obtain ⟨cn_225, x1_225, y1_225, b1_225, rfl, h_225⟩ := h_225
              have hP : va_P D.1 j_cl (cW D q (sV (sV (sV (sV (sV (sV u 4 cn_225) 5 x1_225) 6 y1_225) 7 b1_225) 8 sx_77) 9 sy_77)) H := hP
              have h_225 : cn_225 = cn + 1 ∧ (cn = w → x1_225 = tx ∧ y1_225 = ty ∧ b1_225 = (-1000000 : Int)) ∧ (cn ≠ w → x1_225 = x1 ∧ y1_225 = y1 ∧ b1_225 = b1) := h_225
              exact W.vret SS.1 SS.2.1 hr (fun t0 ht hW => ⟨⟨(sV (sV (sV (sV (sV (sV u 4 cn_225) 5 x1_225) 6 y1_225) 7 b1_225) 8 sx_77) 9 sy_77), rfl, (⟨cn_225, x1_225, y1_225, b1_225, sx_77, sy_77, rfl, by rw [show cn_225 = cn + 1 from h_225.1]; rw [epx0, epy0, etx, ety, h_2, h_10] at i121_1; rw [etx, ety, h_10] at gt i121_2 h_225; exact SW_e (by omega) gt i121_1 (by rw [← i121_2.2]; omega) (fun e => h_225.2.1 e) (fun e => h_225.2.2 e)⟩), by show va_P D.1 j_cl (cW D q (sV (sV (sV (sV (sV (sV u 4 cn_225) 5 x1_225) 6 y1_225) 7 b1_225) 8 sx_77) 9 sy_77)) t0.heap; rw [ht]; first | exact hP | (simp only [sC_id, sX_id, sY_id, sH_id, sT_id, sV_id]; exact hP)⟩, hS.F ht⟩) hS.2.2 dX9_walk_228 hlk
            · skip
              have hb2 := mulb (A := 40) (B := 40) hsw.2.1.1 bt2
              have hb3 := mulb (A := 40) (B := 40) hsw.2.1.2 bt1
              have hbf : bf = px * ty - py * tx := i121_2.1
              refine lv_iload SS.1 SS.2.1 dX9_walk_134 (lv_at hl 12 rfl) ?_
              refine j_ineg SS dX9_walk_136 ?_
              refine lv_iload SS.1 SS.2.1 dX9_walk_137 (lv_at hl 13 rfl) ?_
              refine j_sRi SS (As := [.int (J (-bf)), .int (J rs)]) (rest := []) (c_J9_floorDiv_7cf53 l D  (-bf) rs (show -2147483648 < (-bf) ∧ (-bf) ≤ 2147483647 from (by omega)) (show 0 < rs ∧ rs ≤ 2147483647 from (by omega))) mf_J9_floorDiv_7cf53 kw_850 hG trivial rfl hl.1 ⟨⟨Nat.le_of_ble_eq_true rfl, Nat.le_of_ble_eq_true rfl⟩, Nat.le_of_ble_eq_true rfl, Nat.le_refl _, Nat.le_refl _⟩ rfl dX9_walk_139 (fun z_139 h_139 => ?_)
              have h_139 : z_139 = (-bf) / rs := h_139
              refine j_ineg SS dX9_walk_142 ?_
              obtain ⟨mq, emq⟩ : ∃ z : Int, z = (-z_139) := ⟨_, rfl⟩
              rw [← emq]
              refine lv_istore (lv' := [(17, .int (J mq)), (0, .ref (q 4)), (1, .int (J a)), (2, .int (J b)), (3, .int (J c)), (4, .int (J d)), (5, .int (J w)), (8, .int (J px)), (9, .int (J py)), (10, .int (J tx)), (11, .int (J ty)), (12, .int (J wx)), (13, .int (J wy)), (14, .int (J bf)), (15, .int (J rs)), (16, .int (J i))]) SS.1 SS.2.1 dX9_walk_143 hl (by decide) rfl (fun ls hl => ?_)
              have hmq : mq = -((-bf) / rs) := by rw [emq, h_139]
              have hmc := mu_c (by omega) hmq
              refine lv_aload_n SS.1 SS.2.1 dX9_walk_145 rfl (lv_at hl 1 rfl) ?_
              refine lv_iload SS.1 SS.2.1 dX9_walk_146 (lv_at hl 11 rfl) ?_
              refine lv_iload SS.1 SS.2.1 dX9_walk_148 (lv_at hl 12 rfl) ?_
              refine lv_iload SS.1 SS.2.1 dX9_walk_150 (lv_at hl 0 rfl) ?_
              refine lv_iload SS.1 SS.2.1 dX9_walk_152 (lv_at hl 6 rfl) ?_
              refine j_vWv SS (As := [.int (J wx), .int (J wy), .int (J mq), .int (J w)]) (rest := []) (c_X9_keep l D q (sV (sV (sV (sV (sV (sV u 4 cn) 5 x1) 6 y1) 7 b1) 8 sx_77) 9 sy_77) A (cW_D hD)  wx wy mq w (show 0 ≤ cn ∧ cn ≤ 100000 from (by omega)) (show -2147483648 ≤ w ∧ w ≤ 2147483647 from (p5))) mf_X9_keep kw_841 hG hP hP (ci := 9) (q0 := 4) rfl rfl rfl hS (fun _ h => h) rfl hl.1 ⟨⟨Nat.le_of_ble_eq_true rfl, Nat.le_of_ble_eq_true rfl⟩, Nat.le_of_ble_eq_true rfl, Nat.le_refl _, Nat.le_refl _⟩ rfl dX9_walk_154 (fun u154 H locs h_154 hP _ hS => ?_)
              obtain ⟨cn_154, x1_154, y1_154, b1_154, rfl, h_154⟩ := h_154
              have hP : va_P D.1 j_cl (cW D q (sV (sV (sV (sV (sV (sV u 4 cn_154) 5 x1_154) 6 y1_154) 7 b1_154) 8 sx_77) 9 sy_77)) H := hP
              have h_154 : cn_154 = cn + 1 ∧ (cn = w → x1_154 = wx ∧ y1_154 = wy ∧ b1_154 = mq) ∧ (cn ≠ w → x1_154 = x1 ∧ y1_154 = y1 ∧ b1_154 = b1) := h_154
              refine lv_iload SS.1 SS.2.1 dX9_walk_157 (lv_at hl 0 rfl) ?_
              refine lv_iload SS.1 SS.2.1 dX9_walk_159 (lv_at hl 11 rfl) ?_
              refine j_imul SS (x := mq) (y := wx) dX9_walk_161 ?_
              refine lv_iload SS.1 SS.2.1 dX9_walk_162 (lv_at hl 7 rfl) ?_
              refine j_isub SS (x := (mq * wx)) (y := px) dX9_walk_164 ?_
              obtain ⟨nx1, enx1⟩ : ∃ z : Int, z = ((mq * wx) - px) := ⟨_, rfl⟩
              rw [← enx1]
              refine lv_istore (lv' := [(18, .int (J nx1)), (17, .int (J mq)), (0, .ref (q 4)), (1, .int (J a)), (2, .int (J b)), (3, .int (J c)), (4, .int (J d)), (5, .int (J w)), (8, .int (J px)), (9, .int (J py)), (10, .int (J tx)), (11, .int (J ty)), (12, .int (J wx)), (13, .int (J wy)), (14, .int (J bf)), (15, .int (J rs)), (16, .int (J i))]) SS.1 SS.2.1 dX9_walk_165 hl (by decide) rfl (fun ls hl => ?_)
              refine lv_iload SS.1 SS.2.1 dX9_walk_167 (lv_at hl 1 rfl) ?_
              refine lv_iload SS.1 SS.2.1 dX9_walk_169 (lv_at hl 13 rfl) ?_
              refine j_imul SS (x := mq) (y := wy) dX9_walk_171 ?_
              refine lv_iload SS.1 SS.2.1 dX9_walk_172 (lv_at hl 9 rfl) ?_
              refine j_isub SS (x := (mq * wy)) (y := py) dX9_walk_174 ?_
              obtain ⟨ny1, eny1⟩ : ∃ z : Int, z = ((mq * wy) - py) := ⟨_, rfl⟩
              rw [← eny1]
              refine lv_istore (lv' := [(19, .int (J ny1)), (18, .int (J nx1)), (17, .int (J mq)), (0, .ref (q 4)), (1, .int (J a)), (2, .int (J b)), (3, .int (J c)), (4, .int (J d)), (5, .int (J w)), (8, .int (J px)), (9, .int (J py)), (10, .int (J tx)), (11, .int (J ty)), (12, .int (J wx)), (13, .int (J wy)), (14, .int (J bf)), (15, .int (J rs)), (16, .int (J i))]) SS.1 SS.2.1 dX9_walk_175 hl (by decide) rfl (fun ls hl => ?_)
              refine lv_iload SS.1 SS.2.1 dX9_walk_177 (lv_at hl 13 rfl) ?_
              refine lv_istore (lv' := [(8, .int (J wx)), (19, .int (J ny1)), (18, .int (J nx1)), (17, .int (J mq)), (0, .ref (q 4)), (1, .int (J a)), (2, .int (J b)), (3, .int (J c)), (4, .int (J d)), (5, .int (J w)), (9, .int (J py)), (10, .int (J tx)), (11, .int (J ty)), (12, .int (J wx)), (13, .int (J wy)), (14, .int (J bf)), (15, .int (J rs)), (16, .int (J i))]) SS.1 SS.2.1 dX9_walk_179 hl (by decide) rfl (fun ls hl => ?_)
              refine lv_iload SS.1 SS.2.1 dX9_walk_181 (lv_at hl 14 rfl) ?_
              refine lv_istore (lv' := [(9, .int (J wy)), (8, .int (J wx)), (19, .int (J ny1)), (18, .int (J nx1)), (17, .int (J mq)), (0, .ref (q 4)), (1, .int (J a)), (2, .int (J b)), (3, .int (J c)), (4, .int (J d)), (5, .int (J w)), (10, .int (J tx)), (11, .int (J ty)), (12, .int (J wx)), (13, .int (J wy)), (14, .int (J bf)), (15, .int (J rs)), (16, .int (J i))]) SS.1 SS.2.1 dX9_walk_183 hl (by decide) rfl (fun ls hl => ?_)
              refine lv_iload SS.1 SS.2.1 dX9_walk_185 (lv_at hl 3 rfl) ?_
              refine lv_istore (lv' := [(12, .int (J nx1)), (9, .int (J wy)), (8, .int (J wx)), (19, .int (J ny1)), (18, .int (J nx1)), (17, .int (J mq)), (0, .ref (q 4)), (1, .int (J a)), (2, .int (J b)), (3, .int (J c)), (4, .int (J d)), (5, .int (J w)), (10, .int (J tx)), (11, .int (J ty)), (13, .int (J wy)), (14, .int (J bf)), (15, .int (J rs)), (16, .int (J i))]) SS.1 SS.2.1 dX9_walk_187 hl (by decide) rfl (fun ls hl => ?_)
              refine lv_iload SS.1 SS.2.1 dX9_walk_189 (lv_at hl 3 rfl) ?_
              refine lv_istore (lv' := [(13, .int (J ny1)), (12, .int (J nx1)), (9, .int (J wy)), (8, .int (J wx)), (19, .int (J ny1)), (18, .int (J nx1)), (17, .int (J mq)), (0, .ref (q 4)), (1, .int (J a)), (2, .int (J b)), (3, .int (J c)), (4, .int (J d)), (5, .int (J w)), (10, .int (J tx)), (11, .int (J ty)), (14, .int (J bf)), (15, .int (J rs)), (16, .int (J i))]) SS.1 SS.2.1 dX9_walk_191 hl (by decide) rfl (fun ls hl => ?_)
              refine lv_iload SS.1 SS.2.1 dX9_walk_193 (lv_at hl 16 rfl) ?_
              refine lv_istore (lv' := [(14, .int (J rs)), (13, .int (J ny1)), (12, .int (J nx1)), (9, .int (J wy)), (8, .int (J wx)), (19, .int (J ny1)), (18, .int (J nx1)), (17, .int (J mq)), (0, .ref (q 4)), (1, .int (J a)), (2, .int (J b)), (3, .int (J c)), (4, .int (J d)), (5, .int (J w)), (10, .int (J tx)), (11, .int (J ty)), (15, .int (J rs)), (16, .int (J i))]) SS.1 SS.2.1 dX9_walk_195 hl (by decide) rfl (fun ls hl => ?_)
              refine lv_iload SS.1 SS.2.1 dX9_walk_197 (lv_at hl 2 rfl) ?_
              refine lv_iload SS.1 SS.2.1 dX9_walk_199 (lv_at hl 15 rfl) ?_
              refine j_imul SS (x := nx1) (y := ty) dX9_walk_201 ?_
              refine lv_iload SS.1 SS.2.1 dX9_walk_202 (lv_at hl 1 rfl) ?_
              refine lv_iload SS.1 SS.2.1 dX9_walk_204 (lv_at hl 14 rfl) ?_
              refine j_imul SS (x := ny1) (y := tx) dX9_walk_206 ?_
              refine j_isub SS (x := (nx1 * ty)) (y := (ny1 * tx)) dX9_walk_207 ?_
              obtain ⟨rs1, ers1⟩ : ∃ z : Int, z = ((nx1 * ty) - (ny1 * tx)) := ⟨_, rfl⟩
              rw [← ers1]
              refine lv_istore (lv' := [(15, .int (J rs1)), (14, .int (J rs)), (13, .int (J ny1)), (12, .int (J nx1)), (9, .int (J wy)), (8, .int (J wx)), (19, .int (J ny1)), (18, .int (J nx1)), (17, .int (J mq)), (0, .ref (q 4)), (1, .int (J a)), (2, .int (J b)), (3, .int (J c)), (4, .int (J d)), (5, .int (J w)), (10, .int (J tx)), (11, .int (J ty)), (16, .int (J i))]) SS.1 SS.2.1 dX9_walk_208 hl (by decide) rfl (fun ls hl => ?_)
              refine lv_iinc (v := J (i + 1)) (lv' := [(16, .int (J (i + 1))), (15, .int (J rs1)), (14, .int (J rs)), (13, .int (J ny1)), (12, .int (J nx1)), (9, .int (J wy)), (8, .int (J wx)), (19, .int (J ny1)), (18, .int (J nx1)), (17, .int (J mq)), (0, .ref (q 4)), (1, .int (J a)), (2, .int (J b)), (3, .int (J c)), (4, .int (J d)), (5, .int (J w)), (10, .int (J tx)), (11, .int (J ty))]) SS.1 SS.2.1 dX9_walk_210 hl (k := 17) rfl (J_add _ _) (by decide) rfl (fun ls hl => ?_)
              refine lv_goto (tgt := 121) SS.1 SS.2.1 dX9_walk_213 (by decide) ?_
              exact ih_121 wx wy nx1 ny1 rs rs1 (i + 1) cn_154 x1_154 y1_154 b1_154 _ _ hP hS ls (lv_sub hl [10, 11, 12, 13, 14, 15, 6, 5, 16, 17, 4, 3, 2, 1, 0] rfl) (⟨by have q : rs1 = cx nx1 ny1 tx ty := ers1; have q2 : cx nx1 ny1 tx ty = mq * rs - bf := (by rw [enx1, eny1, i121_2.1, i121_2.2]; unfold cx; grind); omega, by have := h_154.1; omega⟩) (by rw [show cn_154 = cn + 1 from h_154.1]; exact SW_s ⟨bt1, bt2⟩ i121_1 enx1 eny1 (by have q2 : cx nx1 ny1 tx ty = mq * rs - bf := (by rw [enx1, eny1, i121_2.1, i121_2.2]; unfold cx; grind); rw [q2, ← i121_2.2]; omega) (fun e => h_154.2.1 e) (fun e => h_154.2.2 e)) (⟨i121_2.2, ers1⟩) (by have q : rs1 = cx nx1 ny1 tx ty := ers1; have q2 : cx nx1 ny1 tx ty = mq * rs - bf := (by rw [enx1, eny1, i121_2.1, i121_2.2]; unfold cx; grind); omega)
      exact L_121 (rs0.toNat + 1) px0 py0 sx_77 sy_77 bf0 rs0 0 cn_65 x1_65 y1_65 b1_65 _ _ hP hS ls (lv_sub hl [11, 12, 13, 14, 15, 16, 8, 7, 6, 5, 4, 3, 2, 1, 0] rfl) (⟨by rw [ers0]; have q := h_77.2.2; have q0 : cx px0 py0 tx ty = px0 * ty - py0 * tx := rfl; have q2 : cx sx_77 sy_77 tx ty = sx_77 * ty - sy_77 * tx := rfl; omega, by have := h_65.1; omega⟩) (by rw [show cn_65 = 1 by have := h_65.1; omega]; exact SW_0 h_77 ⟨bp1, bp2⟩ ⟨bt1, bt2⟩ (fun e => h_65.2.1 (by omega))) (⟨ebf0, ers0⟩) (Nat.lt_succ_self _)
    · skip
      exfalso; omega


theorem sC_id {u : CS} {r : Nat} : sC u r (u.1.2.2.1 r) = u := by
  unfold sC
  rw [show (fun j => if j = r then u.1.2.2.1 r else u.1.2.2.1 j) = u.1.2.2.1 from funext fun j => by by_cases e : j = r; (rw [if_pos e, e]); (rw [if_neg e])]
theorem sX_id {u : CS} {r : Nat} : sX u r (u.1.1 r) = u := by
  unfold sX
  rw [show (fun j => if j = r then u.1.1 r else u.1.1 j) = u.1.1 from funext fun j => by by_cases e : j = r; (rw [if_pos e, e]); (rw [if_neg e])]
theorem sY_id {u : CS} {r : Nat} : sY u r (u.1.2.1 r) = u := by
  unfold sY
  rw [show (fun j => if j = r then u.1.2.1 r else u.1.2.1 j) = u.1.2.1 from funext fun j => by by_cases e : j = r; (rw [if_pos e, e]); (rw [if_neg e])]
theorem sH_id {u : CS} {r : Nat} : sH u r (u.1.2.2.2.1 r) = u := by
  unfold sH
  rw [show (fun j => if j = r then u.1.2.2.2.1 r else u.1.2.2.2.1 j) = u.1.2.2.2.1 from funext fun j => by by_cases e : j = r; (rw [if_pos e, e]); (rw [if_neg e])]
theorem sT_id {u : CS} {r : Nat} : sT u r (u.1.2.2.2.2 r) = u := by
  unfold sT
  rw [show (fun j => if j = r then u.1.2.2.2.2 r else u.1.2.2.2.2 j) = u.1.2.2.2.2 from funext fun j => by by_cases e : j = r; (rw [if_pos e, e]); (rw [if_neg e])]
theorem sV_id {u : CS} {r : Nat} : sV u r (u.2.2.2 r) = u := by
  unfold sV uV
  rw [show (fun j => if j = r then u.2.2.2 r else u.2.2.2 j) = u.2.2.2 from funext fun j => by by_cases e : j = r; (rw [if_pos e, e]); (rw [if_neg e])]
theorem td_half {a K : Int} (h : -K ≤ a ∧ a ≤ K) : -K ≤ 2 * a.tdiv 2 ∧ 2 * a.tdiv 2 ≤ K := by
  have : (a.tdiv 2).natAbs = a.natAbs / 2 := by rw [Int.natAbs_tdiv]; rfl
  omega
theorem fd_b {a b K : Int} (ha : -K ≤ a ∧ a ≤ K) (hb : 0 < b) : -K ≤ a / b ∧ a / b ≤ K := by
  have h1 : a / b ≤ K := by
    have := Int.ediv_le_of_le_mul hb (show a ≤ K * b from by
      have : K * 1 ≤ K * b := Int.mul_le_mul_of_nonneg_left (by omega) (by omega)
      omega)
    exact this
  have h2 : -K ≤ a / b := (Int.le_ediv_iff_mul_le hb).mpr (by
    have : K * 1 ≤ K * b := Int.mul_le_mul_of_nonneg_left (by omega) (by omega)
    rw [Int.neg_mul]; omega)
  exact ⟨h2, h1⟩
/-- a row read as the class reads it -/
def rx (u : CS) (r : Nat) (i : Int) : Int := if 0 ≤ i ∧ i < rl r then u.1.1 r i.toNat else 0
def ry9 (u : CS) (r : Nat) (i : Int) : Int := if 0 ≤ i ∧ i < rl r then u.1.2.1 r i.toNat else 0
theorem rx_b {K : Int} {u : CS} {r : Nat} {i : Int} (h0 : 0 ≤ K) (h : RB K u r) : -K ≤ rx u r i ∧ rx u r i ≤ K := by
  unfold rx; split
  · exact (h.2 i.toNat).1
  · omega
theorem ry9_b {K : Int} {u : CS} {r : Nat} {i : Int} (h0 : 0 ≤ K) (h : RB K u r) : -K ≤ ry9 u r i ∧ ry9 u r i ≤ K := by
  unfold ry9; split
  · exact (h.2 i.toNat).2
  · omega
/-- the corner beside corner i -/
def ar (u : CS) (r : Nat) (i t : Int) : Int := if u.1.2.2.1 r ≤ i + t then 0 else if i + t < 0 then u.1.2.2.1 r - 1 else i + t
def dX (u : CS) (r : Nat) (i : Int) : Int := rx u r (ar u r i 1) - rx u r i
def dY (u : CS) (r : Nat) (i : Int) : Int := ry9 u r (ar u r i 1) - ry9 u r i
def dS (u : CS) (r : Nat) (i : Int) : Int := (Int.gcd (dX u r i) (dY u r i) : Int)
def rA (u : CS) (r : Nat) : Int := smI (fun i => rx u r i * dY u r i - ry9 u r i * dX u r i) (u.1.2.2.1 r)
def rE (u : CS) (r : Nat) : Int := if u.1.2.2.1 r < 3 then (if u.1.2.2.1 r = 0 then 0 else dS u r 0 + 1) else smI (dS u r) (u.1.2.2.1 r)
def rI (u : CS) (r : Nat) : Int := if u.1.2.2.1 r < 3 then 0 else (rA u r - rE u r).tdiv 2 + 1

set_option maxHeartbeats 4000000 in
set_option maxRecDepth 100000 in
theorem c_X8_x (l : Launch) (D : JD) (q : Nat → Nat) (u : CS) (r : Nat) (hr : r ≤ 8) (i : Int) (p0 : -2147483648 ≤ i ∧ i ≤ 2147483647) : Met l yX8_x (jw yX8_x cX8_x 2 (some .int)) (jr 0 0) (jP [.ref (q (9 + 5 * r)), .int (J i)] D (fun H => va_P D.1 j_cl (cW D q u) H)) (jRi (fun z => z = rx u r i ∧ ∀ K : Int, 0 ≤ K → RB K u r → -K ≤ z ∧ z ≤ K)) 0 0 (fun _ => False) := by
  refine Met.ofW (cc := cX8_x) (maxL := 2) (ret := (some .int)) (by decide) rfl ?_
  intro pr en st mi args below meth co s₁ B hml hv
  obtain ⟨rfl, hG, hP⟩ := hv
  have hr := B.returns
  have hlk := B.notSynchronized
  have SS : jS pr mi co cX8_x 2 st _ RX8 := ⟨B.exec, B.bytes, hml, findClass_of_methodNamed B.named, fun w hw => atoms_spec (ws := (jw yX8_x cX8_x 2 (some .int))) B.pre w (List.mem_cons_of_mem _ hw)⟩
  have hl := lv_entry ([.ref (q (9 + 5 * r)), .int (J i)]) (n := 2) (Nat.le_of_ble_eq_true rfl)
  rw [lg_entry_eq]
  generalize (lg_sl ([.ref (q (9 + 5 * r)), .int (J i)]) ++ List.replicate (2 - (lg_sl ([.ref (q (9 + 5 * r)), .int (J i)])).length) Slot.unset).toArray = ls at hl ⊢
  have hl : lv_has ls 2 [(0, .ref (q (9 + 5 * r))), (1, .int (J i))] := hl
  have hrl := rl_b r
  refine lv_iload_n SS.1 SS.2.1 dX8_x_0 rfl (lv_at hl 1 rfl) ?_
  refine j_if_lt SS (tgt := 22) (x := i) dX8_x_1 (by decide) (by omega) (fun c_1 => ?_) (fun c_1 => ?_)
  · skip
    refine j_iconst SS dX8_x_22 ?_
    exact W.iret SS.1 SS.2.1 hr (fun t0 ht hW => ⟨_, rfl, ⟨0, rfl, (by have e : ∀ z : Int, z = rx u r i → z = rx u r i ∧ ∀ K : Int, 0 ≤ K → RB K u r → -K ≤ z ∧ z ≤ K := (fun z hz => ⟨hz, fun K h0 hB => by rw [hz]; exact rx_b h0 hB⟩); exact e _ (by unfold rx; first | rw [if_pos (by omega)] | rw [if_neg (by omega)]))⟩, ht⟩) (fun _ h => nomatch h) dX8_x_23 hlk
  · skip
    refine lv_iload_n SS.1 SS.2.1 dX8_x_4 rfl (lv_at hl 1 rfl) ?_
    refine lv_aload_n SS.1 SS.2.1 dX8_x_5 rfl (lv_at hl 0 rfl) ?_
    refine j_get SS hG hP (9 + 5 * r) (v := .ref (q (10 + 5 * r))) (C := RX7) (T := TX7) (N := 3) (cw_ring (by omega)) rfl inX7 0 (by decide) (ref := "GridPolygons$Row") kw_129 rfl rfl dX8_x_6 ?_
    refine va_alen SS.1 SS.2.1 hG.1 hP (10 + 5 * r) 0 (cw_xs (by omega)) rfl (v := J (rl r : Int)) (by first | rfl | exact J_nat _) dX8_x_9 ?_
    refine j_icmp_ge SS (tgt := 22) (x := i) (y := (rl r : Int)) dX8_x_10 (by decide) (by omega) (by omega) (fun c_10 => ?_) (fun c_10 => ?_)
    · skip
      refine j_iconst SS dX8_x_22 ?_
      exact W.iret SS.1 SS.2.1 hr (fun t0 ht hW => ⟨_, rfl, ⟨0, rfl, (by have e : ∀ z : Int, z = rx u r i → z = rx u r i ∧ ∀ K : Int, 0 ≤ K → RB K u r → -K ≤ z ∧ z ≤ K := (fun z hz => ⟨hz, fun K h0 hB => by rw [hz]; exact rx_b h0 hB⟩); exact e _ (by unfold rx; first | rw [if_pos (by omega)] | rw [if_neg (by omega)]))⟩, ht⟩) (fun _ h => nomatch h) dX8_x_23 hlk
    · skip
      refine lv_aload_n SS.1 SS.2.1 dX8_x_13 rfl (lv_at hl 0 rfl) ?_
      refine j_get SS hG hP (9 + 5 * r) (v := .ref (q (10 + 5 * r))) (C := RX7) (T := TX7) (N := 3) (cw_ring (by omega)) rfl inX7 0 (by decide) (ref := "GridPolygons$Row") kw_129 rfl rfl dX8_x_14 ?_
      refine lv_iload_n SS.1 SS.2.1 dX8_x_17 rfl (lv_at hl 1 rfl) ?_
      refine j_iald SS hG hP (10 + 5 * r) (n := rl r) (f := (u.1.1 r)) (cw_xs (by omega)) (z := i) (by omega) (by omega) dX8_x_18 ?_
      refine lv_goto (tgt := 23) SS.1 SS.2.1 dX8_x_19 (by decide) ?_
      exact W.iret SS.1 SS.2.1 hr (fun t0 ht hW => ⟨_, rfl, ⟨((u.1.1 r) (i).toNat), rfl, (by have e : ∀ z : Int, z = rx u r i → z = rx u r i ∧ ∀ K : Int, 0 ≤ K → RB K u r → -K ≤ z ∧ z ≤ K := (fun z hz => ⟨hz, fun K h0 hB => by rw [hz]; exact rx_b h0 hB⟩); exact e _ (by unfold rx; first | rw [if_pos (by omega)] | rw [if_neg (by omega)]))⟩, ht⟩) (fun _ h => nomatch h) dX8_x_23 hlk

set_option maxHeartbeats 4000000 in
set_option maxRecDepth 100000 in
theorem c_X8_xP (l : Launch) (D : JD) (q : Nat → Nat) (u : CS) (r : Nat) (hr : r = 9 ∨ r = 10) (i : Int) (p0 : -2147483648 ≤ i ∧ i ≤ 2147483647) : Met l yX8_x (jw yX8_x cX8_x 2 (some .int)) (jr 0 0) (jP [.ref (q (9 + 5 * r)), .int (J i)] D (fun H => va_P D.1 j_cl (cW D q u) H)) (jRi (fun z => z = rx u r i ∧ ∀ K : Int, 0 ≤ K → RB K u r → -K ≤ z ∧ z ≤ K)) 0 0 (fun _ => False) := by
  refine Met.ofW (cc := cX8_x) (maxL := 2) (ret := (some .int)) (by decide) rfl ?_
  intro pr en st mi args below meth co s₁ B hml hv
  obtain ⟨rfl, hG, hP⟩ := hv
  have hr := B.returns
  have hlk := B.notSynchronized
  have SS : jS pr mi co cX8_x 2 st _ RX8 := ⟨B.exec, B.bytes, hml, findClass_of_methodNamed B.named, fun w hw => atoms_spec (ws := (jw yX8_x cX8_x 2 (some .int))) B.pre w (List.mem_cons_of_mem _ hw)⟩
  have hl := lv_entry ([.ref (q (9 + 5 * r)), .int (J i)]) (n := 2) (Nat.le_of_ble_eq_true rfl)
  rw [lg_entry_eq]
  generalize (lg_sl ([.ref (q (9 + 5 * r)), .int (J i)]) ++ List.replicate (2 - (lg_sl ([.ref (q (9 + 5 * r)), .int (J i)])).length) Slot.unset).toArray = ls at hl ⊢
  have hl : lv_has ls 2 [(0, .ref (q (9 + 5 * r))), (1, .int (J i))] := hl
  have hrl := rl_b r
  refine lv_iload_n SS.1 SS.2.1 dX8_x_0 rfl (lv_at hl 1 rfl) ?_
  refine j_if_lt SS (tgt := 22) (x := i) dX8_x_1 (by decide) (by omega) (fun c_1 => ?_) (fun c_1 => ?_)
  · skip
    refine j_iconst SS dX8_x_22 ?_
    exact W.iret SS.1 SS.2.1 hr (fun t0 ht hW => ⟨_, rfl, ⟨0, rfl, (by have e : ∀ z : Int, z = rx u r i → z = rx u r i ∧ ∀ K : Int, 0 ≤ K → RB K u r → -K ≤ z ∧ z ≤ K := (fun z hz => ⟨hz, fun K h0 hB => by rw [hz]; exact rx_b h0 hB⟩); exact e _ (by unfold rx; first | rw [if_pos (by omega)] | rw [if_neg (by omega)]))⟩, ht⟩) (fun _ h => nomatch h) dX8_x_23 hlk
  · skip
    refine lv_iload_n SS.1 SS.2.1 dX8_x_4 rfl (lv_at hl 1 rfl) ?_
    refine lv_aload_n SS.1 SS.2.1 dX8_x_5 rfl (lv_at hl 0 rfl) ?_
    refine j_get SS hG hP (9 + 5 * r) (v := .ref (q (10 + 5 * r))) (C := RX6) (T := TX6) (N := 3) (cw_pts (by omega)) rfl inX6 0 (by decide) (ref := "GridPolygons$Row") kw_129 rfl rfl dX8_x_6 ?_
    refine va_alen SS.1 SS.2.1 hG.1 hP (10 + 5 * r) 0 (cw_xs (by omega)) rfl (v := J (rl r : Int)) (by first | rfl | exact J_nat _) dX8_x_9 ?_
    refine j_icmp_ge SS (tgt := 22) (x := i) (y := (rl r : Int)) dX8_x_10 (by decide) (by omega) (by omega) (fun c_10 => ?_) (fun c_10 => ?_)
    · skip
      refine j_iconst SS dX8_x_22 ?_
      exact W.iret SS.1 SS.2.1 hr (fun t0 ht hW => ⟨_, rfl, ⟨0, rfl, (by have e : ∀ z : Int, z = rx u r i → z = rx u r i ∧ ∀ K : Int, 0 ≤ K → RB K u r → -K ≤ z ∧ z ≤ K := (fun z hz => ⟨hz, fun K h0 hB => by rw [hz]; exact rx_b h0 hB⟩); exact e _ (by unfold rx; first | rw [if_pos (by omega)] | rw [if_neg (by omega)]))⟩, ht⟩) (fun _ h => nomatch h) dX8_x_23 hlk
    · skip
      refine lv_aload_n SS.1 SS.2.1 dX8_x_13 rfl (lv_at hl 0 rfl) ?_
      refine j_get SS hG hP (9 + 5 * r) (v := .ref (q (10 + 5 * r))) (C := RX6) (T := TX6) (N := 3) (cw_pts (by omega)) rfl inX6 0 (by decide) (ref := "GridPolygons$Row") kw_129 rfl rfl dX8_x_14 ?_
      refine lv_iload_n SS.1 SS.2.1 dX8_x_17 rfl (lv_at hl 1 rfl) ?_
      refine j_iald SS hG hP (10 + 5 * r) (n := rl r) (f := (u.1.1 r)) (cw_xs (by omega)) (z := i) (by omega) (by omega) dX8_x_18 ?_
      refine lv_goto (tgt := 23) SS.1 SS.2.1 dX8_x_19 (by decide) ?_
      exact W.iret SS.1 SS.2.1 hr (fun t0 ht hW => ⟨_, rfl, ⟨((u.1.1 r) (i).toNat), rfl, (by have e : ∀ z : Int, z = rx u r i → z = rx u r i ∧ ∀ K : Int, 0 ≤ K → RB K u r → -K ≤ z ∧ z ≤ K := (fun z hz => ⟨hz, fun K h0 hB => by rw [hz]; exact rx_b h0 hB⟩); exact e _ (by unfold rx; first | rw [if_pos (by omega)] | rw [if_neg (by omega)]))⟩, ht⟩) (fun _ h => nomatch h) dX8_x_23 hlk

set_option maxHeartbeats 4000000 in
set_option maxRecDepth 100000 in
theorem c_X8_y (l : Launch) (D : JD) (q : Nat → Nat) (u : CS) (r : Nat) (hr : r ≤ 8) (i : Int) (p0 : -2147483648 ≤ i ∧ i ≤ 2147483647) : Met l yX8_y (jw yX8_y cX8_y 2 (some .int)) (jr 0 0) (jP [.ref (q (9 + 5 * r)), .int (J i)] D (fun H => va_P D.1 j_cl (cW D q u) H)) (jRi (fun z => z = ry9 u r i ∧ ∀ K : Int, 0 ≤ K → RB K u r → -K ≤ z ∧ z ≤ K)) 0 0 (fun _ => False) := by
  refine Met.ofW (cc := cX8_y) (maxL := 2) (ret := (some .int)) (by decide) rfl ?_
  intro pr en st mi args below meth co s₁ B hml hv
  obtain ⟨rfl, hG, hP⟩ := hv
  have hr := B.returns
  have hlk := B.notSynchronized
  have SS : jS pr mi co cX8_y 2 st _ RX8 := ⟨B.exec, B.bytes, hml, findClass_of_methodNamed B.named, fun w hw => atoms_spec (ws := (jw yX8_y cX8_y 2 (some .int))) B.pre w (List.mem_cons_of_mem _ hw)⟩
  have hl := lv_entry ([.ref (q (9 + 5 * r)), .int (J i)]) (n := 2) (Nat.le_of_ble_eq_true rfl)
  rw [lg_entry_eq]
  generalize (lg_sl ([.ref (q (9 + 5 * r)), .int (J i)]) ++ List.replicate (2 - (lg_sl ([.ref (q (9 + 5 * r)), .int (J i)])).length) Slot.unset).toArray = ls at hl ⊢
  have hl : lv_has ls 2 [(0, .ref (q (9 + 5 * r))), (1, .int (J i))] := hl
  have hrl := rl_b r
  refine lv_iload_n SS.1 SS.2.1 dX8_y_0 rfl (lv_at hl 1 rfl) ?_
  refine j_if_lt SS (tgt := 22) (x := i) dX8_y_1 (by decide) (by omega) (fun c_1 => ?_) (fun c_1 => ?_)
  · skip
    refine j_iconst SS dX8_y_22 ?_
    exact W.iret SS.1 SS.2.1 hr (fun t0 ht hW => ⟨_, rfl, ⟨0, rfl, (by have e : ∀ z : Int, z = ry9 u r i → z = ry9 u r i ∧ ∀ K : Int, 0 ≤ K → RB K u r → -K ≤ z ∧ z ≤ K := (fun z hz => ⟨hz, fun K h0 hB => by rw [hz]; exact ry9_b h0 hB⟩); exact e _ (by unfold ry9; first | rw [if_pos (by omega)] | rw [if_neg (by omega)]))⟩, ht⟩) (fun _ h => nomatch h) dX8_y_23 hlk
  · skip
    refine lv_iload_n SS.1 SS.2.1 dX8_y_4 rfl (lv_at hl 1 rfl) ?_
    refine lv_aload_n SS.1 SS.2.1 dX8_y_5 rfl (lv_at hl 0 rfl) ?_
    refine j_get SS hG hP (9 + 5 * r) (v := .ref (q (11 + 5 * r))) (C := RX7) (T := TX7) (N := 3) (cw_ring (by omega)) rfl inX7 1 (by decide) (ref := "GridPolygons$Row") kw_130 rfl rfl dX8_y_6 ?_
    refine va_alen SS.1 SS.2.1 hG.1 hP (11 + 5 * r) 0 (cw_ys (by omega)) rfl (v := J (rl r : Int)) (by first | rfl | exact J_nat _) dX8_y_9 ?_
    refine j_icmp_ge SS (tgt := 22) (x := i) (y := (rl r : Int)) dX8_y_10 (by decide) (by omega) (by omega) (fun c_10 => ?_) (fun c_10 => ?_)
    · skip
      refine j_iconst SS dX8_y_22 ?_
      exact W.iret SS.1 SS.2.1 hr (fun t0 ht hW => ⟨_, rfl, ⟨0, rfl, (by have e : ∀ z : Int, z = ry9 u r i → z = ry9 u r i ∧ ∀ K : Int, 0 ≤ K → RB K u r → -K ≤ z ∧ z ≤ K := (fun z hz => ⟨hz, fun K h0 hB => by rw [hz]; exact ry9_b h0 hB⟩); exact e _ (by unfold ry9; first | rw [if_pos (by omega)] | rw [if_neg (by omega)]))⟩, ht⟩) (fun _ h => nomatch h) dX8_y_23 hlk
    · skip
      refine lv_aload_n SS.1 SS.2.1 dX8_y_13 rfl (lv_at hl 0 rfl) ?_
      refine j_get SS hG hP (9 + 5 * r) (v := .ref (q (11 + 5 * r))) (C := RX7) (T := TX7) (N := 3) (cw_ring (by omega)) rfl inX7 1 (by decide) (ref := "GridPolygons$Row") kw_130 rfl rfl dX8_y_14 ?_
      refine lv_iload_n SS.1 SS.2.1 dX8_y_17 rfl (lv_at hl 1 rfl) ?_
      refine j_iald SS hG hP (11 + 5 * r) (n := rl r) (f := (u.1.2.1 r)) (cw_ys (by omega)) (z := i) (by omega) (by omega) dX8_y_18 ?_
      refine lv_goto (tgt := 23) SS.1 SS.2.1 dX8_y_19 (by decide) ?_
      exact W.iret SS.1 SS.2.1 hr (fun t0 ht hW => ⟨_, rfl, ⟨((u.1.2.1 r) (i).toNat), rfl, (by have e : ∀ z : Int, z = ry9 u r i → z = ry9 u r i ∧ ∀ K : Int, 0 ≤ K → RB K u r → -K ≤ z ∧ z ≤ K := (fun z hz => ⟨hz, fun K h0 hB => by rw [hz]; exact ry9_b h0 hB⟩); exact e _ (by unfold ry9; first | rw [if_pos (by omega)] | rw [if_neg (by omega)]))⟩, ht⟩) (fun _ h => nomatch h) dX8_y_23 hlk

set_option maxHeartbeats 4000000 in
set_option maxRecDepth 100000 in
theorem c_X8_yP (l : Launch) (D : JD) (q : Nat → Nat) (u : CS) (r : Nat) (hr : r = 9 ∨ r = 10) (i : Int) (p0 : -2147483648 ≤ i ∧ i ≤ 2147483647) : Met l yX8_y (jw yX8_y cX8_y 2 (some .int)) (jr 0 0) (jP [.ref (q (9 + 5 * r)), .int (J i)] D (fun H => va_P D.1 j_cl (cW D q u) H)) (jRi (fun z => z = ry9 u r i ∧ ∀ K : Int, 0 ≤ K → RB K u r → -K ≤ z ∧ z ≤ K)) 0 0 (fun _ => False) := by
  refine Met.ofW (cc := cX8_y) (maxL := 2) (ret := (some .int)) (by decide) rfl ?_
  intro pr en st mi args below meth co s₁ B hml hv
  obtain ⟨rfl, hG, hP⟩ := hv
  have hr := B.returns
  have hlk := B.notSynchronized
  have SS : jS pr mi co cX8_y 2 st _ RX8 := ⟨B.exec, B.bytes, hml, findClass_of_methodNamed B.named, fun w hw => atoms_spec (ws := (jw yX8_y cX8_y 2 (some .int))) B.pre w (List.mem_cons_of_mem _ hw)⟩
  have hl := lv_entry ([.ref (q (9 + 5 * r)), .int (J i)]) (n := 2) (Nat.le_of_ble_eq_true rfl)
  rw [lg_entry_eq]
  generalize (lg_sl ([.ref (q (9 + 5 * r)), .int (J i)]) ++ List.replicate (2 - (lg_sl ([.ref (q (9 + 5 * r)), .int (J i)])).length) Slot.unset).toArray = ls at hl ⊢
  have hl : lv_has ls 2 [(0, .ref (q (9 + 5 * r))), (1, .int (J i))] := hl
  have hrl := rl_b r
  refine lv_iload_n SS.1 SS.2.1 dX8_y_0 rfl (lv_at hl 1 rfl) ?_
  refine j_if_lt SS (tgt := 22) (x := i) dX8_y_1 (by decide) (by omega) (fun c_1 => ?_) (fun c_1 => ?_)
  · skip
    refine j_iconst SS dX8_y_22 ?_
    exact W.iret SS.1 SS.2.1 hr (fun t0 ht hW => ⟨_, rfl, ⟨0, rfl, (by have e : ∀ z : Int, z = ry9 u r i → z = ry9 u r i ∧ ∀ K : Int, 0 ≤ K → RB K u r → -K ≤ z ∧ z ≤ K := (fun z hz => ⟨hz, fun K h0 hB => by rw [hz]; exact ry9_b h0 hB⟩); exact e _ (by unfold ry9; first | rw [if_pos (by omega)] | rw [if_neg (by omega)]))⟩, ht⟩) (fun _ h => nomatch h) dX8_y_23 hlk
  · skip
    refine lv_iload_n SS.1 SS.2.1 dX8_y_4 rfl (lv_at hl 1 rfl) ?_
    refine lv_aload_n SS.1 SS.2.1 dX8_y_5 rfl (lv_at hl 0 rfl) ?_
    refine j_get SS hG hP (9 + 5 * r) (v := .ref (q (11 + 5 * r))) (C := RX6) (T := TX6) (N := 3) (cw_pts (by omega)) rfl inX6 1 (by decide) (ref := "GridPolygons$Row") kw_130 rfl rfl dX8_y_6 ?_
    refine va_alen SS.1 SS.2.1 hG.1 hP (11 + 5 * r) 0 (cw_ys (by omega)) rfl (v := J (rl r : Int)) (by first | rfl | exact J_nat _) dX8_y_9 ?_
    refine j_icmp_ge SS (tgt := 22) (x := i) (y := (rl r : Int)) dX8_y_10 (by decide) (by omega) (by omega) (fun c_10 => ?_) (fun c_10 => ?_)
    · skip
      refine j_iconst SS dX8_y_22 ?_
      exact W.iret SS.1 SS.2.1 hr (fun t0 ht hW => ⟨_, rfl, ⟨0, rfl, (by have e : ∀ z : Int, z = ry9 u r i → z = ry9 u r i ∧ ∀ K : Int, 0 ≤ K → RB K u r → -K ≤ z ∧ z ≤ K := (fun z hz => ⟨hz, fun K h0 hB => by rw [hz]; exact ry9_b h0 hB⟩); exact e _ (by unfold ry9; first | rw [if_pos (by omega)] | rw [if_neg (by omega)]))⟩, ht⟩) (fun _ h => nomatch h) dX8_y_23 hlk
    · skip
      refine lv_aload_n SS.1 SS.2.1 dX8_y_13 rfl (lv_at hl 0 rfl) ?_
      refine j_get SS hG hP (9 + 5 * r) (v := .ref (q (11 + 5 * r))) (C := RX6) (T := TX6) (N := 3) (cw_pts (by omega)) rfl inX6 1 (by decide) (ref := "GridPolygons$Row") kw_130 rfl rfl dX8_y_14 ?_
      refine lv_iload_n SS.1 SS.2.1 dX8_y_17 rfl (lv_at hl 1 rfl) ?_
      refine j_iald SS hG hP (11 + 5 * r) (n := rl r) (f := (u.1.2.1 r)) (cw_ys (by omega)) (z := i) (by omega) (by omega) dX8_y_18 ?_
      refine lv_goto (tgt := 23) SS.1 SS.2.1 dX8_y_19 (by decide) ?_
      exact W.iret SS.1 SS.2.1 hr (fun t0 ht hW => ⟨_, rfl, ⟨((u.1.2.1 r) (i).toNat), rfl, (by have e : ∀ z : Int, z = ry9 u r i → z = ry9 u r i ∧ ∀ K : Int, 0 ≤ K → RB K u r → -K ≤ z ∧ z ≤ K := (fun z hz => ⟨hz, fun K h0 hB => by rw [hz]; exact ry9_b h0 hB⟩); exact e _ (by unfold ry9; first | rw [if_pos (by omega)] | rw [if_neg (by omega)]))⟩, ht⟩) (fun _ h => nomatch h) dX8_y_23 hlk

set_option maxHeartbeats 4000000 in
set_option maxRecDepth 100000 in
theorem c_X8_append (l : Launch) (D : JD) (q : Nat → Nat) (u : CS) (A : Nat → Prop) (hD : va_D A (cW D q u)) (r : Nat) (hr : r ≤ 8) (a : Int) (b : Int) (p0 : 0 ≤ u.1.2.2.1 r ∧ u.1.2.2.1 r ≤ rl r) : Met l yX8_append (jw yX8_append cX8_append 3 none) (jr 0 0) (jP [.ref (q (9 + 5 * r)), .int (J a), .int (J b)] D (fun H => va_P D.1 j_cl (cW D q u) H)) (jWv (fun u' => ∃ f : Nat → Int, ∃ g : Nat → Int, ∃ n : Int, u' = (sY (sX (sC u r n) r f) r g) ∧ ((u.1.2.2.1 r < rl r ∧ f = upI (u.1.1 r) (u.1.2.2.1 r).toNat a ∧ g = upI (u.1.2.1 r) (u.1.2.2.1 r).toNat b ∧ n = u.1.2.2.1 r + 1) ∨ (rl r ≤ u.1.2.2.1 r ∧ f = u.1.1 r ∧ g = u.1.2.1 r ∧ n = u.1.2.2.1 r))) (fun u' H => va_P D.1 j_cl (cW D q u') H) A) 0 0 A := by
  refine Met.ofW (cc := cX8_append) (maxL := 3) (ret := none) (by decide) rfl ?_
  intro pr en st mi args below meth co s₁ B hml hv
  obtain ⟨rfl, hG, hP⟩ := hv
  have hr := B.returns
  have hlk := B.notSynchronized
  have SS : jS pr mi co cX8_append 3 st _ RX8 := ⟨B.exec, B.bytes, hml, findClass_of_methodNamed B.named, fun w hw => atoms_spec (ws := (jw yX8_append cX8_append 3 none)) B.pre w (List.mem_cons_of_mem _ hw)⟩
  have hl := lv_entry ([.ref (q (9 + 5 * r)), .int (J a), .int (J b)]) (n := 3) (Nat.le_of_ble_eq_true rfl)
  rw [lg_entry_eq]
  generalize (lg_sl ([.ref (q (9 + 5 * r)), .int (J a), .int (J b)]) ++ List.replicate (3 - (lg_sl ([.ref (q (9 + 5 * r)), .int (J a), .int (J b)])).length) Slot.unset).toArray = ls at hl ⊢
  have hl : lv_has ls 3 [(0, .ref (q (9 + 5 * r))), (1, .int (J a)), (2, .int (J b))] := hl
  have hS : va_S A st.heap st.heap [] := va_S.rf
  have hrl := rl_b r
  refine lv_aload_n SS.1 SS.2.1 dX8_append_0 rfl (lv_at hl 0 rfl) ?_
  refine j_get SS hG hP (9 + 5 * r) (v := .int (J (u.1.2.2.1 r))) (C := RX7) (T := TX7) (N := 3) (cw_ring (by omega)) rfl inX7 2 (by decide) (ref := "GridPolygons$Row") kw_140 rfl rfl dX8_append_1 ?_
  refine j_if_lt SS (tgt := 61) (x := (u.1.2.2.1 r)) dX8_append_4 (by decide) (by omega) (fun c_4 => ?_) (fun c_4 => ?_)
  · skip
    exact W.vret SS.1 SS.2.1 hr (fun t0 ht hW => ⟨⟨(sY (sX (sC u r (u.1.2.2.1 r)) r (u.1.1 r)) r (u.1.2.1 r)), rfl, (⟨(u.1.1 r), (u.1.2.1 r), (u.1.2.2.1 r), rfl, by first | exact Or.inl ⟨by omega, rfl, rfl, rfl⟩ | exact Or.inr ⟨by omega, rfl, rfl, rfl⟩⟩), by show va_P D.1 j_cl (cW D q (sY (sX (sC u r (u.1.2.2.1 r)) r (u.1.1 r)) r (u.1.2.1 r))) t0.heap; rw [ht]; first | exact hP | (simp only [sC_id, sX_id, sY_id, sH_id, sT_id, sV_id]; exact hP)⟩, hS.F ht⟩) hS.2.2 dX8_append_61 hlk
  · skip
    refine lv_aload_n SS.1 SS.2.1 dX8_append_7 rfl (lv_at hl 0 rfl) ?_
    refine j_get SS hG hP (9 + 5 * r) (v := .int (J (u.1.2.2.1 r))) (C := RX7) (T := TX7) (N := 3) (cw_ring (by omega)) rfl inX7 2 (by decide) (ref := "GridPolygons$Row") kw_140 rfl rfl dX8_append_8 ?_
    refine lv_aload_n SS.1 SS.2.1 dX8_append_11 rfl (lv_at hl 0 rfl) ?_
    refine j_get SS hG hP (9 + 5 * r) (v := .ref (q (10 + 5 * r))) (C := RX7) (T := TX7) (N := 3) (cw_ring (by omega)) rfl inX7 0 (by decide) (ref := "GridPolygons$Row") kw_129 rfl rfl dX8_append_12 ?_
    refine va_alen SS.1 SS.2.1 hG.1 hP (10 + 5 * r) 0 (cw_xs (by omega)) rfl (v := J (rl r : Int)) (by first | rfl | exact J_nat _) dX8_append_15 ?_
    refine j_icmp_ge SS (tgt := 61) (x := (u.1.2.2.1 r)) (y := (rl r : Int)) dX8_append_16 (by decide) (by omega) (by omega) (fun c_16 => ?_) (fun c_16 => ?_)
    · skip
      exact W.vret SS.1 SS.2.1 hr (fun t0 ht hW => ⟨⟨(sY (sX (sC u r (u.1.2.2.1 r)) r (u.1.1 r)) r (u.1.2.1 r)), rfl, (⟨(u.1.1 r), (u.1.2.1 r), (u.1.2.2.1 r), rfl, by first | exact Or.inl ⟨by omega, rfl, rfl, rfl⟩ | exact Or.inr ⟨by omega, rfl, rfl, rfl⟩⟩), by show va_P D.1 j_cl (cW D q (sY (sX (sC u r (u.1.2.2.1 r)) r (u.1.1 r)) r (u.1.2.1 r))) t0.heap; rw [ht]; first | exact hP | (simp only [sC_id, sX_id, sY_id, sH_id, sT_id, sV_id]; exact hP)⟩, hS.F ht⟩) hS.2.2 dX8_append_61 hlk
    · skip
      refine lv_aload_n SS.1 SS.2.1 dX8_append_19 rfl (lv_at hl 0 rfl) ?_
      refine j_get SS hG hP (9 + 5 * r) (v := .int (J (u.1.2.2.1 r))) (C := RX7) (T := TX7) (N := 3) (cw_ring (by omega)) rfl inX7 2 (by decide) (ref := "GridPolygons$Row") kw_140 rfl rfl dX8_append_20 ?_
      refine lv_aload_n SS.1 SS.2.1 dX8_append_23 rfl (lv_at hl 0 rfl) ?_
      refine j_get SS hG hP (9 + 5 * r) (v := .ref (q (11 + 5 * r))) (C := RX7) (T := TX7) (N := 3) (cw_ring (by omega)) rfl inX7 1 (by decide) (ref := "GridPolygons$Row") kw_130 rfl rfl dX8_append_24 ?_
      refine va_alen SS.1 SS.2.1 hG.1 hP (11 + 5 * r) 0 (cw_ys (by omega)) rfl (v := J (rl r : Int)) (by first | rfl | exact J_nat _) dX8_append_27 ?_
      refine j_icmp_ge SS (tgt := 61) (x := (u.1.2.2.1 r)) (y := (rl r : Int)) dX8_append_28 (by decide) (by omega) (by omega) (fun c_28 => ?_) (fun c_28 => ?_)
      · skip
        exact W.vret SS.1 SS.2.1 hr (fun t0 ht hW => ⟨⟨(sY (sX (sC u r (u.1.2.2.1 r)) r (u.1.1 r)) r (u.1.2.1 r)), rfl, (⟨(u.1.1 r), (u.1.2.1 r), (u.1.2.2.1 r), rfl, by first | exact Or.inl ⟨by omega, rfl, rfl, rfl⟩ | exact Or.inr ⟨by omega, rfl, rfl, rfl⟩⟩), by show va_P D.1 j_cl (cW D q (sY (sX (sC u r (u.1.2.2.1 r)) r (u.1.1 r)) r (u.1.2.1 r))) t0.heap; rw [ht]; first | exact hP | (simp only [sC_id, sX_id, sY_id, sH_id, sT_id, sV_id]; exact hP)⟩, hS.F ht⟩) hS.2.2 dX8_append_61 hlk
      · skip
        refine lv_aload_n SS.1 SS.2.1 dX8_append_31 rfl (lv_at hl 0 rfl) ?_
        refine j_get SS hG hP (9 + 5 * r) (v := .ref (q (10 + 5 * r))) (C := RX7) (T := TX7) (N := 3) (cw_ring (by omega)) rfl inX7 0 (by decide) (ref := "GridPolygons$Row") kw_129 rfl rfl dX8_append_32 ?_
        refine lv_aload_n SS.1 SS.2.1 dX8_append_35 rfl (lv_at hl 0 rfl) ?_
        refine j_get SS hG hP (9 + 5 * r) (v := .int (J (u.1.2.2.1 r))) (C := RX7) (T := TX7) (N := 3) (cw_ring (by omega)) rfl inX7 2 (by decide) (ref := "GridPolygons$Row") kw_140 rfl rfl dX8_append_36 ?_
        refine lv_iload_n SS.1 SS.2.1 dX8_append_39 rfl (lv_at hl 1 rfl) ?_
        refine j_iast SS hG hP (cW_D hD) hS (10 + 5 * r) (n := rl r) (f := (u.1.1 r)) (cw_xs (by omega)) (z := (u.1.2.2.1 r)) (v := a) (by omega) (by omega) dX8_append_40 (ws' := (cW D q (sX u r (upI (u.1.1 r) ((u.1.2.2.1 r)).toNat a)))) (cs_xs (by omega)) (fun H locs hP hS => ?_)
        refine lv_aload_n SS.1 SS.2.1 dX8_append_41 rfl (lv_at hl 0 rfl) ?_
        refine j_get SS hG hP (9 + 5 * r) (v := .ref (q (11 + 5 * r))) (C := RX7) (T := TX7) (N := 3) (cw_ring (by omega)) rfl inX7 1 (by decide) (ref := "GridPolygons$Row") kw_130 rfl rfl dX8_append_42 ?_
        refine lv_aload_n SS.1 SS.2.1 dX8_append_45 rfl (lv_at hl 0 rfl) ?_
        refine j_get SS hG hP (9 + 5 * r) (v := .int (J (u.1.2.2.1 r))) (C := RX7) (T := TX7) (N := 3) (cw_ring (by omega)) rfl inX7 2 (by decide) (ref := "GridPolygons$Row") kw_140 rfl rfl dX8_append_46 ?_
        refine lv_iload_n SS.1 SS.2.1 dX8_append_49 rfl (lv_at hl 2 rfl) ?_
        refine j_iast SS hG hP (cW_D hD) hS (11 + 5 * r) (n := rl r) (f := (u.1.2.1 r)) (cw_ys (by omega)) (z := (u.1.2.2.1 r)) (v := b) (by omega) (by omega) dX8_append_50 (ws' := (cW D q (sY (sX u r (upI (u.1.1 r) ((u.1.2.2.1 r)).toNat a)) r (upI (u.1.2.1 r) ((u.1.2.2.1 r)).toNat b)))) (cs_ys (by omega)) (fun H locs hP hS => ?_)
        refine lv_aload_n SS.1 SS.2.1 dX8_append_51 rfl (lv_at hl 0 rfl) ?_
        refine lv_dup SS.1 SS.2.1 dX8_append_52 rfl ?_
        refine j_get SS hG hP (9 + 5 * r) (v := .int (J (u.1.2.2.1 r))) (C := RX7) (T := TX7) (N := 3) (cw_ring (by omega)) rfl inX7 2 (by decide) (ref := "GridPolygons$Row") kw_140 rfl rfl dX8_append_53 ?_
        refine j_iconst SS dX8_append_56 ?_
        refine j_iadd SS (x := (u.1.2.2.1 r)) (y := 1) dX8_append_57 ?_
        refine j_put SS hG hP (cW_D hD) hS (9 + 5 * r) (v := .int (J ((u.1.2.2.1 r) + 1))) (ty := .int) (C := RX7) (T := TX7) (N := 3) (cw_ring (by omega)) rfl inX7 tyX7 tyX7_ok nmX7 2 (by decide) (ref := "GridPolygons$Row") kw_140 rfl rfl (by decide +kernel) rfl rfl (Nat.le_of_ble_eq_true rfl) dX8_append_58 (ws' := (cW D q (sY (sX (sC u r ((u.1.2.2.1 r) + 1)) r (upI (u.1.1 r) ((u.1.2.2.1 r)).toNat a)) r (upI (u.1.2.1 r) ((u.1.2.2.1 r)).toNat b)))) (cs_ring (by omega)) (fun H locs hP hS => ?_)
        exact W.vret SS.1 SS.2.1 hr (fun t0 ht hW => ⟨⟨(sY (sX (sC u r ((u.1.2.2.1 r) + 1)) r (upI (u.1.1 r) ((u.1.2.2.1 r)).toNat a)) r (upI (u.1.2.1 r) ((u.1.2.2.1 r)).toNat b)), rfl, (⟨(upI (u.1.1 r) ((u.1.2.2.1 r)).toNat a), (upI (u.1.2.1 r) ((u.1.2.2.1 r)).toNat b), ((u.1.2.2.1 r) + 1), rfl, by first | exact Or.inl ⟨by omega, rfl, rfl, rfl⟩ | exact Or.inr ⟨by omega, rfl, rfl, rfl⟩⟩), by show va_P D.1 j_cl (cW D q (sY (sX (sC u r ((u.1.2.2.1 r) + 1)) r (upI (u.1.1 r) ((u.1.2.2.1 r)).toNat a)) r (upI (u.1.2.1 r) ((u.1.2.2.1 r)).toNat b))) t0.heap; rw [ht]; first | exact hP | (simp only [sC_id, sX_id, sY_id, sH_id, sT_id, sV_id]; exact hP)⟩, hS.F ht⟩) hS.2.2 dX8_append_61 hlk

set_option maxHeartbeats 4000000 in
set_option maxRecDepth 100000 in
theorem c_X8_appendP (l : Launch) (D : JD) (q : Nat → Nat) (u : CS) (A : Nat → Prop) (hD : va_D A (cW D q u)) (r : Nat) (hr : r = 9 ∨ r = 10) (a : Int) (b : Int) (p0 : 0 ≤ u.1.2.2.1 r ∧ u.1.2.2.1 r ≤ rl r) : Met l yX8_append (jw yX8_append cX8_append 3 none) (jr 0 0) (jP [.ref (q (9 + 5 * r)), .int (J a), .int (J b)] D (fun H => va_P D.1 j_cl (cW D q u) H)) (jWv (fun u' => ∃ f : Nat → Int, ∃ g : Nat → Int, ∃ n : Int, u' = (sY (sX (sC u r n) r f) r g) ∧ ((u.1.2.2.1 r < rl r ∧ f = upI (u.1.1 r) (u.1.2.2.1 r).toNat a ∧ g = upI (u.1.2.1 r) (u.1.2.2.1 r).toNat b ∧ n = u.1.2.2.1 r + 1) ∨ (rl r ≤ u.1.2.2.1 r ∧ f = u.1.1 r ∧ g = u.1.2.1 r ∧ n = u.1.2.2.1 r))) (fun u' H => va_P D.1 j_cl (cW D q u') H) A) 0 0 A := by
  refine Met.ofW (cc := cX8_append) (maxL := 3) (ret := none) (by decide) rfl ?_
  intro pr en st mi args below meth co s₁ B hml hv
  obtain ⟨rfl, hG, hP⟩ := hv
  have hr := B.returns
  have hlk := B.notSynchronized
  have SS : jS pr mi co cX8_append 3 st _ RX8 := ⟨B.exec, B.bytes, hml, findClass_of_methodNamed B.named, fun w hw => atoms_spec (ws := (jw yX8_append cX8_append 3 none)) B.pre w (List.mem_cons_of_mem _ hw)⟩
  have hl := lv_entry ([.ref (q (9 + 5 * r)), .int (J a), .int (J b)]) (n := 3) (Nat.le_of_ble_eq_true rfl)
  rw [lg_entry_eq]
  generalize (lg_sl ([.ref (q (9 + 5 * r)), .int (J a), .int (J b)]) ++ List.replicate (3 - (lg_sl ([.ref (q (9 + 5 * r)), .int (J a), .int (J b)])).length) Slot.unset).toArray = ls at hl ⊢
  have hl : lv_has ls 3 [(0, .ref (q (9 + 5 * r))), (1, .int (J a)), (2, .int (J b))] := hl
  have hS : va_S A st.heap st.heap [] := va_S.rf
  have hrl := rl_b r
  refine lv_aload_n SS.1 SS.2.1 dX8_append_0 rfl (lv_at hl 0 rfl) ?_
  refine j_get SS hG hP (9 + 5 * r) (v := .int (J (u.1.2.2.1 r))) (C := RX6) (T := TX6) (N := 3) (cw_pts (by omega)) rfl inX6 2 (by decide) (ref := "GridPolygons$Row") kw_140 rfl rfl dX8_append_1 ?_
  refine j_if_lt SS (tgt := 61) (x := (u.1.2.2.1 r)) dX8_append_4 (by decide) (by omega) (fun c_4 => ?_) (fun c_4 => ?_)
  · skip
    exact W.vret SS.1 SS.2.1 hr (fun t0 ht hW => ⟨⟨(sY (sX (sC u r (u.1.2.2.1 r)) r (u.1.1 r)) r (u.1.2.1 r)), rfl, (⟨(u.1.1 r), (u.1.2.1 r), (u.1.2.2.1 r), rfl, by first | exact Or.inl ⟨by omega, rfl, rfl, rfl⟩ | exact Or.inr ⟨by omega, rfl, rfl, rfl⟩⟩), by show va_P D.1 j_cl (cW D q (sY (sX (sC u r (u.1.2.2.1 r)) r (u.1.1 r)) r (u.1.2.1 r))) t0.heap; rw [ht]; first | exact hP | (simp only [sC_id, sX_id, sY_id, sH_id, sT_id, sV_id]; exact hP)⟩, hS.F ht⟩) hS.2.2 dX8_append_61 hlk
  · skip
    refine lv_aload_n SS.1 SS.2.1 dX8_append_7 rfl (lv_at hl 0 rfl) ?_
    refine j_get SS hG hP (9 + 5 * r) (v := .int (J (u.1.2.2.1 r))) (C := RX6) (T := TX6) (N := 3) (cw_pts (by omega)) rfl inX6 2 (by decide) (ref := "GridPolygons$Row") kw_140 rfl rfl dX8_append_8 ?_
    refine lv_aload_n SS.1 SS.2.1 dX8_append_11 rfl (lv_at hl 0 rfl) ?_
    refine j_get SS hG hP (9 + 5 * r) (v := .ref (q (10 + 5 * r))) (C := RX6) (T := TX6) (N := 3) (cw_pts (by omega)) rfl inX6 0 (by decide) (ref := "GridPolygons$Row") kw_129 rfl rfl dX8_append_12 ?_
    refine va_alen SS.1 SS.2.1 hG.1 hP (10 + 5 * r) 0 (cw_xs (by omega)) rfl (v := J (rl r : Int)) (by first | rfl | exact J_nat _) dX8_append_15 ?_
    refine j_icmp_ge SS (tgt := 61) (x := (u.1.2.2.1 r)) (y := (rl r : Int)) dX8_append_16 (by decide) (by omega) (by omega) (fun c_16 => ?_) (fun c_16 => ?_)
    · skip
      exact W.vret SS.1 SS.2.1 hr (fun t0 ht hW => ⟨⟨(sY (sX (sC u r (u.1.2.2.1 r)) r (u.1.1 r)) r (u.1.2.1 r)), rfl, (⟨(u.1.1 r), (u.1.2.1 r), (u.1.2.2.1 r), rfl, by first | exact Or.inl ⟨by omega, rfl, rfl, rfl⟩ | exact Or.inr ⟨by omega, rfl, rfl, rfl⟩⟩), by show va_P D.1 j_cl (cW D q (sY (sX (sC u r (u.1.2.2.1 r)) r (u.1.1 r)) r (u.1.2.1 r))) t0.heap; rw [ht]; first | exact hP | (simp only [sC_id, sX_id, sY_id, sH_id, sT_id, sV_id]; exact hP)⟩, hS.F ht⟩) hS.2.2 dX8_append_61 hlk
    · skip
      refine lv_aload_n SS.1 SS.2.1 dX8_append_19 rfl (lv_at hl 0 rfl) ?_
      refine j_get SS hG hP (9 + 5 * r) (v := .int (J (u.1.2.2.1 r))) (C := RX6) (T := TX6) (N := 3) (cw_pts (by omega)) rfl inX6 2 (by decide) (ref := "GridPolygons$Row") kw_140 rfl rfl dX8_append_20 ?_
      refine lv_aload_n SS.1 SS.2.1 dX8_append_23 rfl (lv_at hl 0 rfl) ?_
      refine j_get SS hG hP (9 + 5 * r) (v := .ref (q (11 + 5 * r))) (C := RX6) (T := TX6) (N := 3) (cw_pts (by omega)) rfl inX6 1 (by decide) (ref := "GridPolygons$Row") kw_130 rfl rfl dX8_append_24 ?_
      refine va_alen SS.1 SS.2.1 hG.1 hP (11 + 5 * r) 0 (cw_ys (by omega)) rfl (v := J (rl r : Int)) (by first | rfl | exact J_nat _) dX8_append_27 ?_
      refine j_icmp_ge SS (tgt := 61) (x := (u.1.2.2.1 r)) (y := (rl r : Int)) dX8_append_28 (by decide) (by omega) (by omega) (fun c_28 => ?_) (fun c_28 => ?_)
      · skip
        exact W.vret SS.1 SS.2.1 hr (fun t0 ht hW => ⟨⟨(sY (sX (sC u r (u.1.2.2.1 r)) r (u.1.1 r)) r (u.1.2.1 r)), rfl, (⟨(u.1.1 r), (u.1.2.1 r), (u.1.2.2.1 r), rfl, by first | exact Or.inl ⟨by omega, rfl, rfl, rfl⟩ | exact Or.inr ⟨by omega, rfl, rfl, rfl⟩⟩), by show va_P D.1 j_cl (cW D q (sY (sX (sC u r (u.1.2.2.1 r)) r (u.1.1 r)) r (u.1.2.1 r))) t0.heap; rw [ht]; first | exact hP | (simp only [sC_id, sX_id, sY_id, sH_id, sT_id, sV_id]; exact hP)⟩, hS.F ht⟩) hS.2.2 dX8_append_61 hlk
      · skip
        refine lv_aload_n SS.1 SS.2.1 dX8_append_31 rfl (lv_at hl 0 rfl) ?_
        refine j_get SS hG hP (9 + 5 * r) (v := .ref (q (10 + 5 * r))) (C := RX6) (T := TX6) (N := 3) (cw_pts (by omega)) rfl inX6 0 (by decide) (ref := "GridPolygons$Row") kw_129 rfl rfl dX8_append_32 ?_
        refine lv_aload_n SS.1 SS.2.1 dX8_append_35 rfl (lv_at hl 0 rfl) ?_
        refine j_get SS hG hP (9 + 5 * r) (v := .int (J (u.1.2.2.1 r))) (C := RX6) (T := TX6) (N := 3) (cw_pts (by omega)) rfl inX6 2 (by decide) (ref := "GridPolygons$Row") kw_140 rfl rfl dX8_append_36 ?_
        refine lv_iload_n SS.1 SS.2.1 dX8_append_39 rfl (lv_at hl 1 rfl) ?_
        refine j_iast SS hG hP (cW_D hD) hS (10 + 5 * r) (n := rl r) (f := (u.1.1 r)) (cw_xs (by omega)) (z := (u.1.2.2.1 r)) (v := a) (by omega) (by omega) dX8_append_40 (ws' := (cW D q (sX u r (upI (u.1.1 r) ((u.1.2.2.1 r)).toNat a)))) (cs_xs (by omega)) (fun H locs hP hS => ?_)
        refine lv_aload_n SS.1 SS.2.1 dX8_append_41 rfl (lv_at hl 0 rfl) ?_
        refine j_get SS hG hP (9 + 5 * r) (v := .ref (q (11 + 5 * r))) (C := RX6) (T := TX6) (N := 3) (cw_pts (by omega)) rfl inX6 1 (by decide) (ref := "GridPolygons$Row") kw_130 rfl rfl dX8_append_42 ?_
        refine lv_aload_n SS.1 SS.2.1 dX8_append_45 rfl (lv_at hl 0 rfl) ?_
        refine j_get SS hG hP (9 + 5 * r) (v := .int (J (u.1.2.2.1 r))) (C := RX6) (T := TX6) (N := 3) (cw_pts (by omega)) rfl inX6 2 (by decide) (ref := "GridPolygons$Row") kw_140 rfl rfl dX8_append_46 ?_
        refine lv_iload_n SS.1 SS.2.1 dX8_append_49 rfl (lv_at hl 2 rfl) ?_
        refine j_iast SS hG hP (cW_D hD) hS (11 + 5 * r) (n := rl r) (f := (u.1.2.1 r)) (cw_ys (by omega)) (z := (u.1.2.2.1 r)) (v := b) (by omega) (by omega) dX8_append_50 (ws' := (cW D q (sY (sX u r (upI (u.1.1 r) ((u.1.2.2.1 r)).toNat a)) r (upI (u.1.2.1 r) ((u.1.2.2.1 r)).toNat b)))) (cs_ys (by omega)) (fun H locs hP hS => ?_)
        refine lv_aload_n SS.1 SS.2.1 dX8_append_51 rfl (lv_at hl 0 rfl) ?_
        refine lv_dup SS.1 SS.2.1 dX8_append_52 rfl ?_
        refine j_get SS hG hP (9 + 5 * r) (v := .int (J (u.1.2.2.1 r))) (C := RX6) (T := TX6) (N := 3) (cw_pts (by omega)) rfl inX6 2 (by decide) (ref := "GridPolygons$Row") kw_140 rfl rfl dX8_append_53 ?_
        refine j_iconst SS dX8_append_56 ?_
        refine j_iadd SS (x := (u.1.2.2.1 r)) (y := 1) dX8_append_57 ?_
        refine j_put SS hG hP (cW_D hD) hS (9 + 5 * r) (v := .int (J ((u.1.2.2.1 r) + 1))) (ty := .int) (C := RX6) (T := TX6) (N := 3) (cw_pts (by omega)) rfl inX6 tyX6 tyX6_ok nmX6 2 (by decide) (ref := "GridPolygons$Row") kw_140 rfl rfl (by decide +kernel) rfl rfl (Nat.le_of_ble_eq_true rfl) dX8_append_58 (ws' := (cW D q (sY (sX (sC u r ((u.1.2.2.1 r) + 1)) r (upI (u.1.1 r) ((u.1.2.2.1 r)).toNat a)) r (upI (u.1.2.1 r) ((u.1.2.2.1 r)).toNat b)))) (cs_pts (by omega)) (fun H locs hP hS => ?_)
        exact W.vret SS.1 SS.2.1 hr (fun t0 ht hW => ⟨⟨(sY (sX (sC u r ((u.1.2.2.1 r) + 1)) r (upI (u.1.1 r) ((u.1.2.2.1 r)).toNat a)) r (upI (u.1.2.1 r) ((u.1.2.2.1 r)).toNat b)), rfl, (⟨(upI (u.1.1 r) ((u.1.2.2.1 r)).toNat a), (upI (u.1.2.1 r) ((u.1.2.2.1 r)).toNat b), ((u.1.2.2.1 r) + 1), rfl, by first | exact Or.inl ⟨by omega, rfl, rfl, rfl⟩ | exact Or.inr ⟨by omega, rfl, rfl, rfl⟩⟩), by show va_P D.1 j_cl (cW D q (sY (sX (sC u r ((u.1.2.2.1 r) + 1)) r (upI (u.1.1 r) ((u.1.2.2.1 r)).toNat a)) r (upI (u.1.2.1 r) ((u.1.2.2.1 r)).toNat b))) t0.heap; rw [ht]; first | exact hP | (simp only [sC_id, sX_id, sY_id, sH_id, sT_id, sV_id]; exact hP)⟩, hS.F ht⟩) hS.2.2 dX8_append_61 hlk

set_option maxHeartbeats 4000000 in
set_option maxRecDepth 100000 in
theorem c_X7_isPolygon (l : Launch) (D : JD) (q : Nat → Nat) (u : CS) (r : Nat) (hr : r ≤ 8) (K : Int) (p0 : 0 ≤ K ∧ K ≤ 80) (p1 : RB K u r) : Met l yX7_isPolygon (jw yX7_isPolygon cX7_isPolygon 1 (some .boolean)) (jr 0 0) (jP [.ref (q (9 + 5 * r))] D (fun H => va_P D.1 j_cl (cW D q u) H)) (jRi (fun z => (z = 1 ∧ 3 ≤ u.1.2.2.1 r) ∨ (z = 0 ∧ u.1.2.2.1 r < 3))) 0 0 (fun _ => False) := by
  refine Met.ofW (cc := cX7_isPolygon) (maxL := 1) (ret := (some .boolean)) (by decide) rfl ?_
  intro pr en st mi args below meth co s₁ B hml hv
  obtain ⟨rfl, hG, hP⟩ := hv
  have hr := B.returns
  have hlk := B.notSynchronized
  have SS : jS pr mi co cX7_isPolygon 1 st _ RX7 := ⟨B.exec, B.bytes, hml, findClass_of_methodNamed B.named, fun w hw => atoms_spec (ws := (jw yX7_isPolygon cX7_isPolygon 1 (some .boolean))) B.pre w (List.mem_cons_of_mem _ hw)⟩
  have hl := lv_entry ([.ref (q (9 + 5 * r))]) (n := 1) (Nat.le_of_ble_eq_true rfl)
  rw [lg_entry_eq]
  generalize (lg_sl ([.ref (q (9 + 5 * r))]) ++ List.replicate (1 - (lg_sl ([.ref (q (9 + 5 * r))])).length) Slot.unset).toArray = ls at hl ⊢
  have hl : lv_has ls 1 [(0, .ref (q (9 + 5 * r)))] := hl
  have hc := p1.1
  have hrl := rl_b r
  refine lv_aload_n SS.1 SS.2.1 dX7_isPolygon_0 rfl (lv_at hl 0 rfl) ?_
  refine j_getS SS hG hP (9 + 5 * r) (v := .int (J (u.1.2.2.1 r))) (C := RX7) (T := TX7) (N := 3) (cw_ring (by omega)) rfl inX7 2 (by decide) (ref := "GridPolygons$Ring") kw_131 kw_132 rfl dX7_isPolygon_1 ?_
  refine j_iconst SS dX7_isPolygon_4 ?_
  refine j_icmp_lt SS (tgt := 12) (x := (u.1.2.2.1 r)) (y := 3) dX7_isPolygon_5 (by decide) (by omega) (by decide) (fun c_5 => ?_) (fun c_5 => ?_)
  · skip
    refine j_iconst SS dX7_isPolygon_12 ?_
    exact W.zret SS.1 SS.2.1 hr (j_nz (by decide)) (fun t0 ht hW => ⟨_, rfl, ⟨0, rfl, (by omega)⟩, ht⟩) (fun _ h => nomatch h) dX7_isPolygon_13 hlk
  · skip
    refine j_iconst SS dX7_isPolygon_8 ?_
    refine lv_goto (tgt := 13) SS.1 SS.2.1 dX7_isPolygon_9 (by decide) ?_
    exact W.zret SS.1 SS.2.1 hr (j_nz (by decide)) (fun t0 ht hW => ⟨_, rfl, ⟨1, rfl, (by omega)⟩, ht⟩) (fun _ h => nomatch h) dX7_isPolygon_13 hlk

set_option maxHeartbeats 4000000 in
set_option maxRecDepth 100000 in
theorem c_X7_isOnGrid (l : Launch) (D : JD) (q : Nat → Nat) (u : CS) (r : Nat) (hr : r ≤ 8) (K : Int) (p0 : 0 ≤ K ∧ K ≤ 80) (p1 : RB K u r) : Met l yX7_isOnGrid (jw yX7_isOnGrid cX7_isOnGrid 2 (some .boolean)) (jr 1 21) (jP [.ref (q (9 + 5 * r))] D (fun H => va_P D.1 j_cl (cW D q u) H)) (jRi (fun z => (z = 1 ∧ bd 40 (u.1.1 r) (u.1.2.1 r) (u.1.2.2.1 r)) ∨ (z = 0 ∧ ¬ bd 40 (u.1.1 r) (u.1.2.1 r) (u.1.2.2.1 r)))) 0 0 (fun _ => False) := by
  refine Met.ofW (cc := cX7_isOnGrid) (maxL := 2) (ret := (some .boolean)) (by decide) rfl ?_
  intro pr en st mi args below meth co s₁ B hml hv
  obtain ⟨rfl, hG, hP⟩ := hv
  have hr := B.returns
  have hlk := B.notSynchronized
  have SS : jS pr mi co cX7_isOnGrid 2 st _ RX7 := ⟨B.exec, B.bytes, hml, findClass_of_methodNamed B.named, fun w hw => atoms_spec (ws := (jw yX7_isOnGrid cX7_isOnGrid 2 (some .boolean))) B.pre w (List.mem_cons_of_mem _ hw)⟩
  have hl := lv_entry ([.ref (q (9 + 5 * r))]) (n := 2) (Nat.le_of_ble_eq_true rfl)
  rw [lg_entry_eq]
  generalize (lg_sl ([.ref (q (9 + 5 * r))]) ++ List.replicate (2 - (lg_sl ([.ref (q (9 + 5 * r))])).length) Slot.unset).toArray = ls at hl ⊢
  have hl : lv_has ls 2 [(0, .ref (q (9 + 5 * r)))] := hl
  have hc := p1.1
  have hrl := rl_b r
  refine j_iconst SS dX7_isOnGrid_0 ?_
  refine lv_istore_n (lv' := [(1, .int (J 0)), (0, .ref (q (9 + 5 * r)))]) SS.1 SS.2.1 dX7_isOnGrid_1 rfl hl (by decide) rfl (fun ls hl => ?_)
  have L_2 : ∀ (nn : Nat) (i : Int) (ls : Array Slot) (hl : lv_has ls 2 [(0, .ref (q (9 + 5 * r))), (1, .int (J i))]) (i2_0 : 0 ≤ i ∧ i ≤ u.1.2.2.1 r) (i2_1 : bd 40 (u.1.1 r) (u.1.2.1 r) i), (u.1.2.2.1 r - i).toNat < nn → W pr l en (headSpec (jw yX7_isOnGrid cX7_isOnGrid 2 (some .boolean)) (jr 1 21)).room st mi (([.ref (q (9 + 5 * r))] : List Value).toArray) below meth co st.heap [] 0 0 (MQ below (jRi (fun z => (z = 1 ∧ bd 40 (u.1.1 r) (u.1.2.1 r) (u.1.2.2.1 r)) ∨ (z = 0 ∧ ¬ bd 40 (u.1.1 r) (u.1.2.1 r) (u.1.2.2.1 r)))) (([.ref (q (9 + 5 * r))] : List Value).toArray) st 0 0 (fun _ => False)) (F0 mi 2 ls []) := by
    intro nn
    induction nn with
    | zero => intros; omega
    | succ nn ih_2 =>
      intro i ls hl i2_0 i2_1 hm
      refine lv_iload_n SS.1 SS.2.1 dX7_isOnGrid_2 rfl (lv_at hl 1 rfl) ?_
      refine lv_aload_n SS.1 SS.2.1 dX7_isOnGrid_3 rfl (lv_at hl 0 rfl) ?_
      refine j_getS SS hG hP (9 + 5 * r) (v := .int (J (u.1.2.2.1 r))) (C := RX7) (T := TX7) (N := 3) (cw_ring (by omega)) rfl inX7 2 (by decide) (ref := "GridPolygons$Ring") kw_131 kw_132 rfl dX7_isOnGrid_4 ?_
      refine j_icmp_ge SS (tgt := 40) (x := i) (y := (u.1.2.2.1 r)) dX7_isOnGrid_7 (by decide) (by omega) (by omega) (fun c_7 => ?_) (fun c_7 => ?_)
      · skip
        refine j_iconst SS dX7_isOnGrid_40 ?_
        exact W.zret SS.1 SS.2.1 hr (j_nz (by decide)) (fun t0 ht hW => ⟨_, rfl, ⟨1, rfl, (Or.inl ⟨rfl, by rw [show u.1.2.2.1 r = i by omega]; exact i2_1⟩)⟩, ht⟩) (fun _ h => nomatch h) dX7_isOnGrid_41 hlk
      · skip
        refine lv_aload_n SS.1 SS.2.1 dX7_isOnGrid_10 rfl (lv_at hl 0 rfl) ?_
        refine lv_iload_n SS.1 SS.2.1 dX7_isOnGrid_11 rfl (lv_at hl 1 rfl) ?_
        refine j_uRi SS (As := [.int (J i)]) (rest := []) (c_X8_x l D q u r (by omega) i (show -2147483648 ≤ i ∧ i ≤ 2147483647 from (by omega))) mu_7_x kw_501 hG hP hP (ci := 7) (q0 := (9 + 5 * r)) rfl (cw_ring (by omega)) rfl rfl hl.1 ⟨⟨Nat.le_of_ble_eq_true rfl, Nat.le_of_ble_eq_true rfl⟩, Nat.le_of_ble_eq_true rfl, Nat.le_refl _, Nat.le_refl _⟩ rfl dX7_isOnGrid_12 (fun z_12 h_12 => ?_)
        have h_12 : z_12 = rx u r i ∧ ∀ K : Int, 0 ≤ K → RB K u r → -K ≤ z_12 ∧ z_12 ≤ K := h_12
        have hb_12 := h_12.2 K (by omega) (p1)
        have ex12 : z_12 = u.1.1 r i.toNat := by rw [h_12.1]; unfold rx; rw [if_pos (by omega)]
        refine j_nRi SS (As := [.int (J z_12)]) (rest := []) (c_X11_onGrid l D  z_12 (show -2147483648 ≤ z_12 ∧ z_12 ≤ 2147483647 from (by omega))) mf_X11_onGrid hG.2.1 hG trivial rfl hl.1 ⟨⟨Nat.le_of_ble_eq_true rfl, Nat.le_of_ble_eq_true rfl⟩, Nat.le_of_ble_eq_true rfl, Nat.le_refl _, Nat.le_refl _⟩ rfl dX7_isOnGrid_15 (fun z_15 h_15 => ?_)
        have h_15 : (z_15 = 1 ∧ (-40 ≤ z_12 ∧ z_12 ≤ 40)) ∨ (z_15 = 0 ∧ ¬ (-40 ≤ z_12 ∧ z_12 ≤ 40)) := h_15
        refine j_if_eq SS (tgt := 32) (x := z_15) dX7_isOnGrid_18 (by decide) (by omega) (fun c_18 => ?_) (fun c_18 => ?_)
        · skip
          refine j_iconst SS dX7_isOnGrid_32 ?_
          exact W.zret SS.1 SS.2.1 hr (j_nz (by decide)) (fun t0 ht hW => ⟨_, rfl, ⟨0, rfl, (Or.inr ⟨rfl, fun q => by have q2 := bd_at q (z := i) (by omega) (by omega); first | (rw [ex12] at h_15; omega) | (rw [ex23] at h_26; omega)⟩)⟩, ht⟩) (fun _ h => nomatch h) dX7_isOnGrid_33 hlk
        · skip
          refine lv_aload_n SS.1 SS.2.1 dX7_isOnGrid_21 rfl (lv_at hl 0 rfl) ?_
          refine lv_iload_n SS.1 SS.2.1 dX7_isOnGrid_22 rfl (lv_at hl 1 rfl) ?_
          refine j_uRi SS (As := [.int (J i)]) (rest := []) (c_X8_y l D q u r (by omega) i (show -2147483648 ≤ i ∧ i ≤ 2147483647 from (by omega))) mu_7_y kw_503 hG hP hP (ci := 7) (q0 := (9 + 5 * r)) rfl (cw_ring (by omega)) rfl rfl hl.1 ⟨⟨Nat.le_of_ble_eq_true rfl, Nat.le_of_ble_eq_true rfl⟩, Nat.le_of_ble_eq_true rfl, Nat.le_refl _, Nat.le_refl _⟩ rfl dX7_isOnGrid_23 (fun z_23 h_23 => ?_)
          have h_23 : z_23 = ry9 u r i ∧ ∀ K : Int, 0 ≤ K → RB K u r → -K ≤ z_23 ∧ z_23 ≤ K := h_23
          have hb_23 := h_23.2 K (by omega) (p1)
          have ex23 : z_23 = u.1.2.1 r i.toNat := by rw [h_23.1]; unfold ry9; rw [if_pos (by omega)]
          refine j_nRi SS (As := [.int (J z_23)]) (rest := []) (c_X11_onGrid l D  z_23 (show -2147483648 ≤ z_23 ∧ z_23 ≤ 2147483647 from (by omega))) mf_X11_onGrid hG.2.1 hG trivial rfl hl.1 ⟨⟨Nat.le_of_ble_eq_true rfl, Nat.le_of_ble_eq_true rfl⟩, Nat.le_of_ble_eq_true rfl, Nat.le_refl _, Nat.le_refl _⟩ rfl dX7_isOnGrid_26 (fun z_26 h_26 => ?_)
          have h_26 : (z_26 = 1 ∧ (-40 ≤ z_23 ∧ z_23 ≤ 40)) ∨ (z_26 = 0 ∧ ¬ (-40 ≤ z_23 ∧ z_23 ≤ 40)) := h_26
          refine j_if_ne SS (tgt := 34) (x := z_26) dX7_isOnGrid_29 (by decide) (by omega) (fun c_29 => ?_) (fun c_29 => ?_)
          · skip
            refine lv_iinc (v := J (i + 1)) (lv' := [(1, .int (J (i + 1))), (0, .ref (q (9 + 5 * r)))]) SS.1 SS.2.1 dX7_isOnGrid_34 hl (k := 1) rfl (J_add _ _) (by decide) rfl (fun ls hl => ?_)
            refine lv_goto (tgt := 2) SS.1 SS.2.1 dX7_isOnGrid_37 (by decide) ?_
            exact ih_2 (i + 1) ls (lv_sub hl [1, 0] rfl) (by omega) ((bd_step i2_0.1).mpr ⟨i2_1, by rw [ex12] at h_15; omega, by rw [ex23] at h_26; omega⟩) (by omega)
          · skip
            refine j_iconst SS dX7_isOnGrid_32 ?_
            exact W.zret SS.1 SS.2.1 hr (j_nz (by decide)) (fun t0 ht hW => ⟨_, rfl, ⟨0, rfl, (Or.inr ⟨rfl, fun q => by have q2 := bd_at q (z := i) (by omega) (by omega); first | (rw [ex12] at h_15; omega) | (rw [ex23] at h_26; omega)⟩)⟩, ht⟩) (fun _ h => nomatch h) dX7_isOnGrid_33 hlk
  exact L_2 ((u.1.2.2.1 r - (0 : Int)).toNat + 1) 0 ls (lv_sub hl [1, 0] rfl) (by omega) (fun a ha => by omega) (Nat.lt_succ_self _)

set_option maxHeartbeats 4000000 in
set_option maxRecDepth 100000 in
theorem c_X7_around (l : Launch) (D : JD) (q : Nat → Nat) (u : CS) (r : Nat) (hr : r ≤ 8) (K : Int) (i : Int) (t : Int) (p0 : 0 ≤ K ∧ K ≤ 80) (p1 : RB K u r) (p2 : -1000 ≤ i ∧ i ≤ 1000) (p3 : t = 1 ∨ t = -1) : Met l yX7_around (jw yX7_around cX7_around 4 (some .int)) (jr 0 0) (jP [.ref (q (9 + 5 * r)), .int (J i), .int (J t)] D (fun H => va_P D.1 j_cl (cW D q u) H)) (jRi (fun z => z = ar u r i t ∧ -1000 ≤ z ∧ z ≤ 1001)) 0 0 (fun _ => False) := by
  refine Met.ofW (cc := cX7_around) (maxL := 4) (ret := (some .int)) (by decide) rfl ?_
  intro pr en st mi args below meth co s₁ B hml hv
  obtain ⟨rfl, hG, hP⟩ := hv
  have hr := B.returns
  have hlk := B.notSynchronized
  have SS : jS pr mi co cX7_around 4 st _ RX7 := ⟨B.exec, B.bytes, hml, findClass_of_methodNamed B.named, fun w hw => atoms_spec (ws := (jw yX7_around cX7_around 4 (some .int))) B.pre w (List.mem_cons_of_mem _ hw)⟩
  have hl := lv_entry ([.ref (q (9 + 5 * r)), .int (J i), .int (J t)]) (n := 4) (Nat.le_of_ble_eq_true rfl)
  rw [lg_entry_eq]
  generalize (lg_sl ([.ref (q (9 + 5 * r)), .int (J i), .int (J t)]) ++ List.replicate (4 - (lg_sl ([.ref (q (9 + 5 * r)), .int (J i), .int (J t)])).length) Slot.unset).toArray = ls at hl ⊢
  have hl : lv_has ls 4 [(0, .ref (q (9 + 5 * r))), (1, .int (J i)), (2, .int (J t))] := hl
  have hc := p1.1
  have hrl := rl_b r
  refine lv_iload_n SS.1 SS.2.1 dX7_around_0 rfl (lv_at hl 1 rfl) ?_
  refine lv_iload_n SS.1 SS.2.1 dX7_around_1 rfl (lv_at hl 2 rfl) ?_
  refine j_iadd SS (x := i) (y := t) dX7_around_2 ?_
  refine lv_istore_n (lv' := [(3, .int (J (i + t))), (0, .ref (q (9 + 5 * r))), (1, .int (J i)), (2, .int (J t))]) SS.1 SS.2.1 dX7_around_3 rfl hl (by decide) rfl (fun ls hl => ?_)
  refine lv_iload_n SS.1 SS.2.1 dX7_around_4 rfl (lv_at hl 0 rfl) ?_
  refine lv_aload_n SS.1 SS.2.1 dX7_around_5 rfl (lv_at hl 1 rfl) ?_
  refine j_getS SS hG hP (9 + 5 * r) (v := .int (J (u.1.2.2.1 r))) (C := RX7) (T := TX7) (N := 3) (cw_ring (by omega)) rfl inX7 2 (by decide) (ref := "GridPolygons$Ring") kw_131 kw_132 rfl dX7_around_6 ?_
  refine j_icmp_lt SS (tgt := 14) (x := (i + t)) (y := (u.1.2.2.1 r)) dX7_around_9 (by decide) (by omega) (by omega) (fun c_9 => ?_) (fun c_9 => ?_)
  · skip
    refine lv_iload_n SS.1 SS.2.1 dX7_around_14 rfl (lv_at hl 0 rfl) ?_
    refine j_if_ge SS (tgt := 27) (x := (i + t)) dX7_around_15 (by decide) (by omega) (fun c_15 => ?_) (fun c_15 => ?_)
    · skip
      refine lv_iload_n SS.1 SS.2.1 dX7_around_27 rfl (lv_at hl 0 rfl) ?_
      exact W.iret SS.1 SS.2.1 hr (fun t0 ht hW => ⟨_, rfl, ⟨(i + t), rfl, (⟨by unfold ar; first | rw [if_pos (by omega)] | (rw [if_neg (by omega), if_pos (by omega)]) | (rw [if_neg (by omega), if_neg (by omega)]), by omega, by omega⟩)⟩, ht⟩) (fun _ h => nomatch h) dX7_around_28 hlk
    · skip
      refine lv_aload_n SS.1 SS.2.1 dX7_around_18 rfl (lv_at hl 1 rfl) ?_
      refine j_getS SS hG hP (9 + 5 * r) (v := .int (J (u.1.2.2.1 r))) (C := RX7) (T := TX7) (N := 3) (cw_ring (by omega)) rfl inX7 2 (by decide) (ref := "GridPolygons$Ring") kw_131 kw_132 rfl dX7_around_19 ?_
      refine j_iconst SS dX7_around_22 ?_
      refine j_isub SS (x := (u.1.2.2.1 r)) (y := 1) dX7_around_23 ?_
      refine lv_goto (tgt := 28) SS.1 SS.2.1 dX7_around_24 (by decide) ?_
      exact W.iret SS.1 SS.2.1 hr (fun t0 ht hW => ⟨_, rfl, ⟨((u.1.2.2.1 r) - 1), rfl, (⟨by unfold ar; first | rw [if_pos (by omega)] | (rw [if_neg (by omega), if_pos (by omega)]) | (rw [if_neg (by omega), if_neg (by omega)]), by omega, by omega⟩)⟩, ht⟩) (fun _ h => nomatch h) dX7_around_28 hlk
  · skip
    refine j_iconst SS dX7_around_12 ?_
    exact W.iret SS.1 SS.2.1 hr (fun t0 ht hW => ⟨_, rfl, ⟨0, rfl, (⟨by unfold ar; first | rw [if_pos (by omega)] | (rw [if_neg (by omega), if_pos (by omega)]) | (rw [if_neg (by omega), if_neg (by omega)]), by omega, by omega⟩)⟩, ht⟩) (fun _ h => nomatch h) dX7_around_13 hlk

set_option maxHeartbeats 4000000 in
set_option maxRecDepth 100000 in
theorem c_X7_sideX (l : Launch) (D : JD) (q : Nat → Nat) (u : CS) (r : Nat) (hr : r ≤ 8) (K : Int) (i : Int) (p0 : 0 ≤ K ∧ K ≤ 80) (p1 : RB K u r) (p2 : -1000 ≤ i ∧ i ≤ 1000) : Met l yX7_sideX (jw yX7_sideX cX7_sideX 2 (some .int)) (jr 1 23) (jP [.ref (q (9 + 5 * r)), .int (J i)] D (fun H => va_P D.1 j_cl (cW D q u) H)) (jRi (fun z => z = dX u r i ∧ -2 * K ≤ z ∧ z ≤ 2 * K)) 0 0 (fun _ => False) := by
  refine Met.ofW (cc := cX7_sideX) (maxL := 2) (ret := (some .int)) (by decide) rfl ?_
  intro pr en st mi args below meth co s₁ B hml hv
  obtain ⟨rfl, hG, hP⟩ := hv
  have hr := B.returns
  have hlk := B.notSynchronized
  have SS : jS pr mi co cX7_sideX 2 st _ RX7 := ⟨B.exec, B.bytes, hml, findClass_of_methodNamed B.named, fun w hw => atoms_spec (ws := (jw yX7_sideX cX7_sideX 2 (some .int))) B.pre w (List.mem_cons_of_mem _ hw)⟩
  have hl := lv_entry ([.ref (q (9 + 5 * r)), .int (J i)]) (n := 2) (Nat.le_of_ble_eq_true rfl)
  rw [lg_entry_eq]
  generalize (lg_sl ([.ref (q (9 + 5 * r)), .int (J i)]) ++ List.replicate (2 - (lg_sl ([.ref (q (9 + 5 * r)), .int (J i)])).length) Slot.unset).toArray = ls at hl ⊢
  have hl : lv_has ls 2 [(0, .ref (q (9 + 5 * r))), (1, .int (J i))] := hl
  have hc := p1.1
  have hrl := rl_b r
  refine lv_aload_n SS.1 SS.2.1 dX7_sideX_0 rfl (lv_at hl 0 rfl) ?_
  refine lv_aload_n SS.1 SS.2.1 dX7_sideX_1 rfl (lv_at hl 0 rfl) ?_
  refine lv_iload_n SS.1 SS.2.1 dX7_sideX_2 rfl (lv_at hl 1 rfl) ?_
  refine j_iconst SS dX7_sideX_3 ?_
  refine j_vRi SS (As := [.int (J i), .int (J 1)]) (rest := [.ref (q (9 + 5 * r))]) (c_X7_around l D q u r (by omega) K i 1 (show 0 ≤ K ∧ K ≤ 80 from (by omega)) (show RB K u r from (p1)) (show -1000 ≤ i ∧ i ≤ 1000 from (by omega)) (show (1 : Int) = 1 ∨ (1 : Int) = -1 from (by omega))) mf_X7_around kw_525 hG hP hP (ci := 7) (q0 := (9 + 5 * r)) rfl (cw_ring (by omega)) rfl rfl hl.1 ⟨⟨Nat.le_of_ble_eq_true rfl, Nat.le_of_ble_eq_true rfl⟩, Nat.le_of_ble_eq_true rfl, Nat.le_refl _, Nat.le_refl _⟩ rfl dX7_sideX_4 (fun z_4 h_4 => ?_)
  have h_4 : z_4 = ar u r i (1 : Int) ∧ -1000 ≤ z_4 ∧ z_4 ≤ 1001 := h_4
  refine j_uRi SS (As := [.int (J z_4)]) (rest := []) (c_X8_x l D q u r (by omega) z_4 (show -2147483648 ≤ z_4 ∧ z_4 ≤ 2147483647 from (by omega))) mu_7_x kw_501 hG hP hP (ci := 7) (q0 := (9 + 5 * r)) rfl (cw_ring (by omega)) rfl rfl hl.1 ⟨⟨Nat.le_of_ble_eq_true rfl, Nat.le_of_ble_eq_true rfl⟩, Nat.le_of_ble_eq_true rfl, Nat.le_refl _, Nat.le_refl _⟩ rfl dX7_sideX_7 (fun z_7 h_7 => ?_)
  have h_7 : z_7 = rx u r z_4 ∧ ∀ K : Int, 0 ≤ K → RB K u r → -K ≤ z_7 ∧ z_7 ≤ K := h_7
  have hb_7 := h_7.2 K (by omega) (p1)
  refine lv_aload_n SS.1 SS.2.1 dX7_sideX_10 rfl (lv_at hl 0 rfl) ?_
  refine lv_iload_n SS.1 SS.2.1 dX7_sideX_11 rfl (lv_at hl 1 rfl) ?_
  refine j_uRi SS (As := [.int (J i)]) (rest := [.int (J z_7)]) (c_X8_x l D q u r (by omega) i (show -2147483648 ≤ i ∧ i ≤ 2147483647 from (by omega))) mu_7_x kw_501 hG hP hP (ci := 7) (q0 := (9 + 5 * r)) rfl (cw_ring (by omega)) rfl rfl hl.1 ⟨⟨Nat.le_of_ble_eq_true rfl, Nat.le_of_ble_eq_true rfl⟩, Nat.le_of_ble_eq_true rfl, Nat.le_refl _, Nat.le_refl _⟩ rfl dX7_sideX_12 (fun z_12 h_12 => ?_)
  have h_12 : z_12 = rx u r i ∧ ∀ K : Int, 0 ≤ K → RB K u r → -K ≤ z_12 ∧ z_12 ≤ K := h_12
  have hb_12 := h_12.2 K (by omega) (p1)
  refine j_isub SS (x := z_7) (y := z_12) dX7_sideX_15 ?_
  exact W.iret SS.1 SS.2.1 hr (fun t0 ht hW => ⟨_, rfl, ⟨(z_7 - z_12), rfl, (⟨by rw [h_7.1, h_12.1, h_4.1]; rfl, by omega, by omega⟩)⟩, ht⟩) (fun _ h => nomatch h) dX7_sideX_16 hlk

set_option maxHeartbeats 4000000 in
set_option maxRecDepth 100000 in
theorem c_X7_sideY (l : Launch) (D : JD) (q : Nat → Nat) (u : CS) (r : Nat) (hr : r ≤ 8) (K : Int) (i : Int) (p0 : 0 ≤ K ∧ K ≤ 80) (p1 : RB K u r) (p2 : -1000 ≤ i ∧ i ≤ 1000) : Met l yX7_sideY (jw yX7_sideY cX7_sideY 2 (some .int)) (jr 1 23) (jP [.ref (q (9 + 5 * r)), .int (J i)] D (fun H => va_P D.1 j_cl (cW D q u) H)) (jRi (fun z => z = dY u r i ∧ -2 * K ≤ z ∧ z ≤ 2 * K)) 0 0 (fun _ => False) := by
  refine Met.ofW (cc := cX7_sideY) (maxL := 2) (ret := (some .int)) (by decide) rfl ?_
  intro pr en st mi args below meth co s₁ B hml hv
  obtain ⟨rfl, hG, hP⟩ := hv
  have hr := B.returns
  have hlk := B.notSynchronized
  have SS : jS pr mi co cX7_sideY 2 st _ RX7 := ⟨B.exec, B.bytes, hml, findClass_of_methodNamed B.named, fun w hw => atoms_spec (ws := (jw yX7_sideY cX7_sideY 2 (some .int))) B.pre w (List.mem_cons_of_mem _ hw)⟩
  have hl := lv_entry ([.ref (q (9 + 5 * r)), .int (J i)]) (n := 2) (Nat.le_of_ble_eq_true rfl)
  rw [lg_entry_eq]
  generalize (lg_sl ([.ref (q (9 + 5 * r)), .int (J i)]) ++ List.replicate (2 - (lg_sl ([.ref (q (9 + 5 * r)), .int (J i)])).length) Slot.unset).toArray = ls at hl ⊢
  have hl : lv_has ls 2 [(0, .ref (q (9 + 5 * r))), (1, .int (J i))] := hl
  have hc := p1.1
  have hrl := rl_b r
  refine lv_aload_n SS.1 SS.2.1 dX7_sideY_0 rfl (lv_at hl 0 rfl) ?_
  refine lv_aload_n SS.1 SS.2.1 dX7_sideY_1 rfl (lv_at hl 0 rfl) ?_
  refine lv_iload_n SS.1 SS.2.1 dX7_sideY_2 rfl (lv_at hl 1 rfl) ?_
  refine j_iconst SS dX7_sideY_3 ?_
  refine j_vRi SS (As := [.int (J i), .int (J 1)]) (rest := [.ref (q (9 + 5 * r))]) (c_X7_around l D q u r (by omega) K i 1 (show 0 ≤ K ∧ K ≤ 80 from (by omega)) (show RB K u r from (p1)) (show -1000 ≤ i ∧ i ≤ 1000 from (by omega)) (show (1 : Int) = 1 ∨ (1 : Int) = -1 from (by omega))) mf_X7_around kw_525 hG hP hP (ci := 7) (q0 := (9 + 5 * r)) rfl (cw_ring (by omega)) rfl rfl hl.1 ⟨⟨Nat.le_of_ble_eq_true rfl, Nat.le_of_ble_eq_true rfl⟩, Nat.le_of_ble_eq_true rfl, Nat.le_refl _, Nat.le_refl _⟩ rfl dX7_sideY_4 (fun z_4 h_4 => ?_)
  have h_4 : z_4 = ar u r i (1 : Int) ∧ -1000 ≤ z_4 ∧ z_4 ≤ 1001 := h_4
  refine j_uRi SS (As := [.int (J z_4)]) (rest := []) (c_X8_y l D q u r (by omega) z_4 (show -2147483648 ≤ z_4 ∧ z_4 ≤ 2147483647 from (by omega))) mu_7_y kw_503 hG hP hP (ci := 7) (q0 := (9 + 5 * r)) rfl (cw_ring (by omega)) rfl rfl hl.1 ⟨⟨Nat.le_of_ble_eq_true rfl, Nat.le_of_ble_eq_true rfl⟩, Nat.le_of_ble_eq_true rfl, Nat.le_refl _, Nat.le_refl _⟩ rfl dX7_sideY_7 (fun z_7 h_7 => ?_)
  have h_7 : z_7 = ry9 u r z_4 ∧ ∀ K : Int, 0 ≤ K → RB K u r → -K ≤ z_7 ∧ z_7 ≤ K := h_7
  have hb_7 := h_7.2 K (by omega) (p1)
  refine lv_aload_n SS.1 SS.2.1 dX7_sideY_10 rfl (lv_at hl 0 rfl) ?_
  refine lv_iload_n SS.1 SS.2.1 dX7_sideY_11 rfl (lv_at hl 1 rfl) ?_
  refine j_uRi SS (As := [.int (J i)]) (rest := [.int (J z_7)]) (c_X8_y l D q u r (by omega) i (show -2147483648 ≤ i ∧ i ≤ 2147483647 from (by omega))) mu_7_y kw_503 hG hP hP (ci := 7) (q0 := (9 + 5 * r)) rfl (cw_ring (by omega)) rfl rfl hl.1 ⟨⟨Nat.le_of_ble_eq_true rfl, Nat.le_of_ble_eq_true rfl⟩, Nat.le_of_ble_eq_true rfl, Nat.le_refl _, Nat.le_refl _⟩ rfl dX7_sideY_12 (fun z_12 h_12 => ?_)
  have h_12 : z_12 = ry9 u r i ∧ ∀ K : Int, 0 ≤ K → RB K u r → -K ≤ z_12 ∧ z_12 ≤ K := h_12
  have hb_12 := h_12.2 K (by omega) (p1)
  refine j_isub SS (x := z_7) (y := z_12) dX7_sideY_15 ?_
  exact W.iret SS.1 SS.2.1 hr (fun t0 ht hW => ⟨_, rfl, ⟨(z_7 - z_12), rfl, (⟨by rw [h_7.1, h_12.1, h_4.1]; rfl, by omega, by omega⟩)⟩, ht⟩) (fun _ h => nomatch h) dX7_sideY_16 hlk

set_option maxHeartbeats 4000000 in
set_option maxRecDepth 100000 in
theorem c_X7_stepsOf (l : Launch) (D : JD) (q : Nat → Nat) (u : CS) (r : Nat) (hr : r ≤ 8) (K : Int) (i : Int) (p0 : 0 ≤ K ∧ K ≤ 80) (p1 : RB K u r) (p2 : -1000 ≤ i ∧ i ≤ 1000) : Met l yX7_stepsOf (jw yX7_stepsOf cX7_stepsOf 2 (some .int)) (jr 2 45) (jP [.ref (q (9 + 5 * r)), .int (J i)] D (fun H => va_P D.1 j_cl (cW D q u) H)) (jRi (fun z => z = dS u r i ∧ 0 ≤ z ∧ z ≤ 2 * K)) 0 0 (fun _ => False) := by
  refine Met.ofW (cc := cX7_stepsOf) (maxL := 2) (ret := (some .int)) (by decide) rfl ?_
  intro pr en st mi args below meth co s₁ B hml hv
  obtain ⟨rfl, hG, hP⟩ := hv
  have hr := B.returns
  have hlk := B.notSynchronized
  have SS : jS pr mi co cX7_stepsOf 2 st _ RX7 := ⟨B.exec, B.bytes, hml, findClass_of_methodNamed B.named, fun w hw => atoms_spec (ws := (jw yX7_stepsOf cX7_stepsOf 2 (some .int))) B.pre w (List.mem_cons_of_mem _ hw)⟩
  have hl := lv_entry ([.ref (q (9 + 5 * r)), .int (J i)]) (n := 2) (Nat.le_of_ble_eq_true rfl)
  rw [lg_entry_eq]
  generalize (lg_sl ([.ref (q (9 + 5 * r)), .int (J i)]) ++ List.replicate (2 - (lg_sl ([.ref (q (9 + 5 * r)), .int (J i)])).length) Slot.unset).toArray = ls at hl ⊢
  have hl : lv_has ls 2 [(0, .ref (q (9 + 5 * r))), (1, .int (J i))] := hl
  have hc := p1.1
  have hrl := rl_b r
  refine lv_aload_n SS.1 SS.2.1 dX7_stepsOf_0 rfl (lv_at hl 0 rfl) ?_
  refine lv_iload_n SS.1 SS.2.1 dX7_stepsOf_1 rfl (lv_at hl 1 rfl) ?_
  refine j_vRi SS (As := [.int (J i)]) (rest := []) (c_X7_sideX l D q u r (by omega) K i (show 0 ≤ K ∧ K ≤ 80 from (p0)) (show RB K u r from (p1)) (show -1000 ≤ i ∧ i ≤ 1000 from (p2))) mf_X7_sideX kw_529 hG hP hP (ci := 7) (q0 := (9 + 5 * r)) rfl (cw_ring (by omega)) rfl rfl hl.1 ⟨⟨Nat.le_of_ble_eq_true rfl, Nat.le_of_ble_eq_true rfl⟩, Nat.le_of_ble_eq_true rfl, Nat.le_refl _, Nat.le_refl _⟩ rfl dX7_stepsOf_2 (fun z_2 h_2 => ?_)
  have h_2 : z_2 = dX u r i ∧ -2 * K ≤ z_2 ∧ z_2 ≤ 2 * K := h_2
  refine lv_aload_n SS.1 SS.2.1 dX7_stepsOf_5 rfl (lv_at hl 0 rfl) ?_
  refine lv_iload_n SS.1 SS.2.1 dX7_stepsOf_6 rfl (lv_at hl 1 rfl) ?_
  refine j_vRi SS (As := [.int (J i)]) (rest := [.int (J z_2)]) (c_X7_sideY l D q u r (by omega) K i (show 0 ≤ K ∧ K ≤ 80 from (p0)) (show RB K u r from (p1)) (show -1000 ≤ i ∧ i ≤ 1000 from (p2))) mf_X7_sideY kw_521 hG hP hP (ci := 7) (q0 := (9 + 5 * r)) rfl (cw_ring (by omega)) rfl rfl hl.1 ⟨⟨Nat.le_of_ble_eq_true rfl, Nat.le_of_ble_eq_true rfl⟩, Nat.le_of_ble_eq_true rfl, Nat.le_refl _, Nat.le_refl _⟩ rfl dX7_stepsOf_7 (fun z_7 h_7 => ?_)
  have h_7 : z_7 = dY u r i ∧ -2 * K ≤ z_7 ∧ z_7 ≤ 2 * K := h_7
  refine j_nRi SS (As := [.int (J z_2), .int (J z_7)]) (rest := []) (c_X11_gcd l D  z_2 z_7 (show -100000 ≤ z_2 ∧ z_2 ≤ 100000 from (by omega)) (show -100000 ≤ z_7 ∧ z_7 ≤ 100000 from (by omega))) mf_X11_gcd hG.2.2.1 hG trivial rfl hl.1 ⟨⟨Nat.le_of_ble_eq_true rfl, Nat.le_of_ble_eq_true rfl⟩, Nat.le_of_ble_eq_true rfl, Nat.le_refl _, Nat.le_refl _⟩ rfl dX7_stepsOf_10 (fun z_10 h_10 => ?_)
  have h_10 : z_10 = (Int.gcd z_2 z_7 : Int) := h_10
  exact W.iret SS.1 SS.2.1 hr (fun t0 ht hW => ⟨_, rfl, ⟨z_10, rfl, (by have q := gcd_b (a := z_2) (b := z_7) (K := 2 * K) (by omega) (by omega); exact ⟨by rw [h_10, h_2.1, h_7.1]; rfl, by omega, by omega⟩)⟩, ht⟩) (fun _ h => nomatch h) dX7_stepsOf_13 hlk

set_option maxHeartbeats 4000000 in
set_option maxRecDepth 100000 in
theorem c_X7_area (l : Launch) (D : JD) (q : Nat → Nat) (u : CS) (r : Nat) (hr : r ≤ 8) (K : Int) (p0 : 0 ≤ K ∧ K ≤ 80) (p1 : RB K u r) : Met l yX7_area (jw yX7_area cX7_area 3 (some .int)) (jr 2 44) (jP [.ref (q (9 + 5 * r))] D (fun H => va_P D.1 j_cl (cW D q u) H)) (jRi (fun z => z = rA u r ∧ -10000000 ≤ z ∧ z ≤ 10000000)) 0 0 (fun _ => False) := by
  refine Met.ofW (cc := cX7_area) (maxL := 3) (ret := (some .int)) (by decide) rfl ?_
  intro pr en st mi args below meth co s₁ B hml hv
  obtain ⟨rfl, hG, hP⟩ := hv
  have hr := B.returns
  have hlk := B.notSynchronized
  have SS : jS pr mi co cX7_area 3 st _ RX7 := ⟨B.exec, B.bytes, hml, findClass_of_methodNamed B.named, fun w hw => atoms_spec (ws := (jw yX7_area cX7_area 3 (some .int))) B.pre w (List.mem_cons_of_mem _ hw)⟩
  have hl := lv_entry ([.ref (q (9 + 5 * r))]) (n := 3) (Nat.le_of_ble_eq_true rfl)
  rw [lg_entry_eq]
  generalize (lg_sl ([.ref (q (9 + 5 * r))]) ++ List.replicate (3 - (lg_sl ([.ref (q (9 + 5 * r))])).length) Slot.unset).toArray = ls at hl ⊢
  have hl : lv_has ls 3 [(0, .ref (q (9 + 5 * r)))] := hl
  have hc := p1.1
  have hrl := rl_b r
  refine j_iconst SS dX7_area_0 ?_
  refine lv_istore_n (lv' := [(1, .int (J 0)), (0, .ref (q (9 + 5 * r)))]) SS.1 SS.2.1 dX7_area_1 rfl hl (by decide) rfl (fun ls hl => ?_)
  refine j_iconst SS dX7_area_2 ?_
  refine lv_istore_n (lv' := [(2, .int (J 0)), (1, .int (J 0)), (0, .ref (q (9 + 5 * r)))]) SS.1 SS.2.1 dX7_area_3 rfl hl (by decide) rfl (fun ls hl => ?_)
  have L_4 : ∀ (nn : Nat) (t : Int) (i : Int) (ls : Array Slot) (hl : lv_has ls 3 [(0, .ref (q (9 + 5 * r))), (1, .int (J t)), (2, .int (J i))]) (i4_0 : 0 ≤ i ∧ i ≤ u.1.2.2.1 r) (i4_1 : t = smI (fun i => rx u r i * dY u r i - ry9 u r i * dX u r i) i) (i4_2 : -25600 * i ≤ t ∧ t ≤ 25600 * i), (u.1.2.2.1 r - i).toNat < nn → W pr l en (headSpec (jw yX7_area cX7_area 3 (some .int)) (jr 2 44)).room st mi (([.ref (q (9 + 5 * r))] : List Value).toArray) below meth co st.heap [] 0 0 (MQ below (jRi (fun z => z = rA u r ∧ -10000000 ≤ z ∧ z ≤ 10000000)) (([.ref (q (9 + 5 * r))] : List Value).toArray) st 0 0 (fun _ => False)) (F0 mi 4 ls []) := by
    intro nn
    induction nn with
    | zero => intros; omega
    | succ nn ih_4 =>
      intro t i ls hl i4_0 i4_1 i4_2 hm
      refine lv_iload_n SS.1 SS.2.1 dX7_area_4 rfl (lv_at hl 2 rfl) ?_
      refine lv_aload_n SS.1 SS.2.1 dX7_area_5 rfl (lv_at hl 0 rfl) ?_
      refine j_getS SS hG hP (9 + 5 * r) (v := .int (J (u.1.2.2.1 r))) (C := RX7) (T := TX7) (N := 3) (cw_ring (by omega)) rfl inX7 2 (by decide) (ref := "GridPolygons$Ring") kw_131 kw_132 rfl dX7_area_6 ?_
      refine j_icmp_ge SS (tgt := 44) (x := i) (y := (u.1.2.2.1 r)) dX7_area_9 (by decide) (by omega) (by omega) (fun c_9 => ?_) (fun c_9 => ?_)
      · skip
        refine lv_iload_n SS.1 SS.2.1 dX7_area_44 rfl (lv_at hl 1 rfl) ?_
        exact W.iret SS.1 SS.2.1 hr (fun t0 ht hW => ⟨_, rfl, ⟨t, rfl, (⟨by rw [i4_1, show i = u.1.2.2.1 r by omega]; rfl, by omega, by omega⟩)⟩, ht⟩) (fun _ h => nomatch h) dX7_area_45 hlk
      · skip
        refine lv_iload_n SS.1 SS.2.1 dX7_area_12 rfl (lv_at hl 1 rfl) ?_
        refine lv_aload_n SS.1 SS.2.1 dX7_area_13 rfl (lv_at hl 0 rfl) ?_
        refine lv_iload_n SS.1 SS.2.1 dX7_area_14 rfl (lv_at hl 2 rfl) ?_
        refine j_uRi SS (As := [.int (J i)]) (rest := [.int (J t)]) (c_X8_x l D q u r (by omega) i (show -2147483648 ≤ i ∧ i ≤ 2147483647 from (by omega))) mu_7_x kw_501 hG hP hP (ci := 7) (q0 := (9 + 5 * r)) rfl (cw_ring (by omega)) rfl rfl hl.1 ⟨⟨Nat.le_of_ble_eq_true rfl, Nat.le_of_ble_eq_true rfl⟩, Nat.le_of_ble_eq_true rfl, Nat.le_refl _, Nat.le_refl _⟩ rfl dX7_area_15 (fun z_15 h_15 => ?_)
        have h_15 : z_15 = rx u r i ∧ ∀ K : Int, 0 ≤ K → RB K u r → -K ≤ z_15 ∧ z_15 ≤ K := h_15
        have hb_15 := h_15.2 K (by omega) (p1)
        refine lv_aload_n SS.1 SS.2.1 dX7_area_18 rfl (lv_at hl 0 rfl) ?_
        refine lv_iload_n SS.1 SS.2.1 dX7_area_19 rfl (lv_at hl 2 rfl) ?_
        refine j_vRi SS (As := [.int (J i)]) (rest := [.int (J z_15), .int (J t)]) (c_X7_sideY l D q u r (by omega) K i (show 0 ≤ K ∧ K ≤ 80 from (p0)) (show RB K u r from (p1)) (show -1000 ≤ i ∧ i ≤ 1000 from (by omega))) mf_X7_sideY kw_521 hG hP hP (ci := 7) (q0 := (9 + 5 * r)) rfl (cw_ring (by omega)) rfl rfl hl.1 ⟨⟨Nat.le_of_ble_eq_true rfl, Nat.le_of_ble_eq_true rfl⟩, Nat.le_of_ble_eq_true rfl, Nat.le_refl _, Nat.le_refl _⟩ rfl dX7_area_20 (fun z_20 h_20 => ?_)
        have h_20 : z_20 = dY u r i ∧ -2 * K ≤ z_20 ∧ z_20 ≤ 2 * K := h_20
        refine j_imul SS (x := z_15) (y := z_20) dX7_area_23 ?_
        refine lv_aload_n SS.1 SS.2.1 dX7_area_24 rfl (lv_at hl 0 rfl) ?_
        refine lv_iload_n SS.1 SS.2.1 dX7_area_25 rfl (lv_at hl 2 rfl) ?_
        refine j_uRi SS (As := [.int (J i)]) (rest := [.int (J (z_15 * z_20)), .int (J t)]) (c_X8_y l D q u r (by omega) i (show -2147483648 ≤ i ∧ i ≤ 2147483647 from (by omega))) mu_7_y kw_503 hG hP hP (ci := 7) (q0 := (9 + 5 * r)) rfl (cw_ring (by omega)) rfl rfl hl.1 ⟨⟨Nat.le_of_ble_eq_true rfl, Nat.le_of_ble_eq_true rfl⟩, Nat.le_of_ble_eq_true rfl, Nat.le_refl _, Nat.le_refl _⟩ rfl dX7_area_26 (fun z_26 h_26 => ?_)
        have h_26 : z_26 = ry9 u r i ∧ ∀ K : Int, 0 ≤ K → RB K u r → -K ≤ z_26 ∧ z_26 ≤ K := h_26
        have hb_26 := h_26.2 K (by omega) (p1)
        refine lv_aload_n SS.1 SS.2.1 dX7_area_29 rfl (lv_at hl 0 rfl) ?_
        refine lv_iload_n SS.1 SS.2.1 dX7_area_30 rfl (lv_at hl 2 rfl) ?_
        refine j_vRi SS (As := [.int (J i)]) (rest := [.int (J z_26), .int (J (z_15 * z_20)), .int (J t)]) (c_X7_sideX l D q u r (by omega) K i (show 0 ≤ K ∧ K ≤ 80 from (p0)) (show RB K u r from (p1)) (show -1000 ≤ i ∧ i ≤ 1000 from (by omega))) mf_X7_sideX kw_529 hG hP hP (ci := 7) (q0 := (9 + 5 * r)) rfl (cw_ring (by omega)) rfl rfl hl.1 ⟨⟨Nat.le_of_ble_eq_true rfl, Nat.le_of_ble_eq_true rfl⟩, Nat.le_of_ble_eq_true rfl, Nat.le_refl _, Nat.le_refl _⟩ rfl dX7_area_31 (fun z_31 h_31 => ?_)
        have h_31 : z_31 = dX u r i ∧ -2 * K ≤ z_31 ∧ z_31 ≤ 2 * K := h_31
        refine j_imul SS (x := z_26) (y := z_31) dX7_area_34 ?_
        refine j_isub SS (x := (z_15 * z_20)) (y := (z_26 * z_31)) dX7_area_35 ?_
        have m1 := mulb (A := 80) (B := 160) (a := z_15) (b := z_20) (by omega) (by omega)
        have m2 := mulb (A := 80) (B := 160) (a := z_26) (b := z_31) (by omega) (by omega)
        refine j_iadd SS (x := t) (y := ((z_15 * z_20) - (z_26 * z_31))) dX7_area_36 ?_
        refine lv_istore_n (lv' := [(1, .int (J (t + ((z_15 * z_20) - (z_26 * z_31))))), (0, .ref (q (9 + 5 * r))), (2, .int (J i))]) SS.1 SS.2.1 dX7_area_37 rfl hl (by decide) rfl (fun ls hl => ?_)
        refine lv_iinc (v := J (i + 1)) (lv' := [(2, .int (J (i + 1))), (1, .int (J (t + ((z_15 * z_20) - (z_26 * z_31))))), (0, .ref (q (9 + 5 * r)))]) SS.1 SS.2.1 dX7_area_38 hl (k := 2) rfl (J_add _ _) (by decide) rfl (fun ls hl => ?_)
        refine lv_goto (tgt := 4) SS.1 SS.2.1 dX7_area_41 (by decide) ?_
        exact ih_4 (t + ((z_15 * z_20) - (z_26 * z_31))) (i + 1) ls (lv_sub hl [2, 1, 0] rfl) (by omega) (by rw [smI_s i4_0.1, ← i4_1, h_15.1, h_20.1, h_26.1, h_31.1]) (by omega) (by omega)
  exact L_4 ((u.1.2.2.1 r - (0 : Int)).toNat + 1) 0 0 ls (lv_sub hl [2, 1, 0] rfl) (by omega) (smI_0.symm) (by omega) (Nat.lt_succ_self _)

set_option maxHeartbeats 4000000 in
set_option maxRecDepth 100000 in
theorem c_X7_onEdge (l : Launch) (D : JD) (q : Nat → Nat) (u : CS) (r : Nat) (hr : r ≤ 8) (K : Int) (p0 : 0 ≤ K ∧ K ≤ 80) (p1 : RB K u r) : Met l yX7_onEdge (jw yX7_onEdge cX7_onEdge 3 (some .int)) (jr 3 66) (jP [.ref (q (9 + 5 * r))] D (fun H => va_P D.1 j_cl (cW D q u) H)) (jRi (fun z => z = rE u r ∧ 0 ≤ z ∧ z ≤ 60000)) 0 0 (fun _ => False) := by
  refine Met.ofW (cc := cX7_onEdge) (maxL := 3) (ret := (some .int)) (by decide) rfl ?_
  intro pr en st mi args below meth co s₁ B hml hv
  obtain ⟨rfl, hG, hP⟩ := hv
  have hr := B.returns
  have hlk := B.notSynchronized
  have SS : jS pr mi co cX7_onEdge 3 st _ RX7 := ⟨B.exec, B.bytes, hml, findClass_of_methodNamed B.named, fun w hw => atoms_spec (ws := (jw yX7_onEdge cX7_onEdge 3 (some .int))) B.pre w (List.mem_cons_of_mem _ hw)⟩
  have hl := lv_entry ([.ref (q (9 + 5 * r))]) (n := 3) (Nat.le_of_ble_eq_true rfl)
  rw [lg_entry_eq]
  generalize (lg_sl ([.ref (q (9 + 5 * r))]) ++ List.replicate (3 - (lg_sl ([.ref (q (9 + 5 * r))])).length) Slot.unset).toArray = ls at hl ⊢
  have hl : lv_has ls 3 [(0, .ref (q (9 + 5 * r)))] := hl
  have hc := p1.1
  have hrl := rl_b r
  refine lv_aload_n SS.1 SS.2.1 dX7_onEdge_0 rfl (lv_at hl 0 rfl) ?_
  refine j_getS SS hG hP (9 + 5 * r) (v := .int (J (u.1.2.2.1 r))) (C := RX7) (T := TX7) (N := 3) (cw_ring (by omega)) rfl inX7 2 (by decide) (ref := "GridPolygons$Ring") kw_131 kw_132 rfl dX7_onEdge_1 ?_
  refine j_iconst SS dX7_onEdge_4 ?_
  refine j_icmp_ge SS (tgt := 27) (x := (u.1.2.2.1 r)) (y := 3) dX7_onEdge_5 (by decide) (by omega) (by decide) (fun c_5 => ?_) (fun c_5 => ?_)
  · skip
    refine j_iconst SS dX7_onEdge_27 ?_
    refine lv_istore_n (lv' := [(1, .int (J 0)), (0, .ref (q (9 + 5 * r)))]) SS.1 SS.2.1 dX7_onEdge_28 rfl hl (by decide) rfl (fun ls hl => ?_)
    refine j_iconst SS dX7_onEdge_29 ?_
    refine lv_istore_n (lv' := [(2, .int (J 0)), (1, .int (J 0)), (0, .ref (q (9 + 5 * r)))]) SS.1 SS.2.1 dX7_onEdge_30 rfl hl (by decide) rfl (fun ls hl => ?_)
    have L_31 : ∀ (nn : Nat) (t : Int) (i : Int) (ls : Array Slot) (hl : lv_has ls 3 [(0, .ref (q (9 + 5 * r))), (1, .int (J t)), (2, .int (J i))]) (i31_0 : 0 ≤ i ∧ i ≤ u.1.2.2.1 r) (i31_1 : t = smI (dS u r) i) (i31_2 : 0 ≤ t ∧ t ≤ 160 * i), (u.1.2.2.1 r - i).toNat < nn → W pr l en (headSpec (jw yX7_onEdge cX7_onEdge 3 (some .int)) (jr 3 66)).room st mi (([.ref (q (9 + 5 * r))] : List Value).toArray) below meth co st.heap [] 0 0 (MQ below (jRi (fun z => z = rE u r ∧ 0 ≤ z ∧ z ≤ 60000)) (([.ref (q (9 + 5 * r))] : List Value).toArray) st 0 0 (fun _ => False)) (F0 mi 31 ls []) := by
      intro nn
      induction nn with
      | zero => intros; omega
      | succ nn ih_31 =>
        intro t i ls hl i31_0 i31_1 i31_2 hm
        refine lv_iload_n SS.1 SS.2.1 dX7_onEdge_31 rfl (lv_at hl 2 rfl) ?_
        refine lv_aload_n SS.1 SS.2.1 dX7_onEdge_32 rfl (lv_at hl 0 rfl) ?_
        refine j_getS SS hG hP (9 + 5 * r) (v := .int (J (u.1.2.2.1 r))) (C := RX7) (T := TX7) (N := 3) (cw_ring (by omega)) rfl inX7 2 (by decide) (ref := "GridPolygons$Ring") kw_131 kw_132 rfl dX7_onEdge_33 ?_
        refine j_icmp_ge SS (tgt := 53) (x := i) (y := (u.1.2.2.1 r)) dX7_onEdge_36 (by decide) (by omega) (by omega) (fun c_36 => ?_) (fun c_36 => ?_)
        · skip
          refine lv_iload_n SS.1 SS.2.1 dX7_onEdge_53 rfl (lv_at hl 1 rfl) ?_
          exact W.iret SS.1 SS.2.1 hr (fun t0 ht hW => ⟨_, rfl, ⟨t, rfl, (⟨by unfold rE; rw [if_neg (by omega), i31_1, show i = u.1.2.2.1 r by omega], by omega, by omega⟩)⟩, ht⟩) (fun _ h => nomatch h) dX7_onEdge_54 hlk
        · skip
          refine lv_iload_n SS.1 SS.2.1 dX7_onEdge_39 rfl (lv_at hl 1 rfl) ?_
          refine lv_aload_n SS.1 SS.2.1 dX7_onEdge_40 rfl (lv_at hl 0 rfl) ?_
          refine lv_iload_n SS.1 SS.2.1 dX7_onEdge_41 rfl (lv_at hl 2 rfl) ?_
          refine j_vRi SS (As := [.int (J i)]) (rest := [.int (J t)]) (c_X7_stepsOf l D q u r (by omega) K i (show 0 ≤ K ∧ K ≤ 80 from (p0)) (show RB K u r from (p1)) (show -1000 ≤ i ∧ i ≤ 1000 from (by omega))) mf_X7_stepsOf kw_537 hG hP hP (ci := 7) (q0 := (9 + 5 * r)) rfl (cw_ring (by omega)) rfl rfl hl.1 ⟨⟨Nat.le_of_ble_eq_true rfl, Nat.le_of_ble_eq_true rfl⟩, Nat.le_of_ble_eq_true rfl, Nat.le_refl _, Nat.le_refl _⟩ rfl dX7_onEdge_42 (fun z_42 h_42 => ?_)
          have h_42 : z_42 = dS u r i ∧ 0 ≤ z_42 ∧ z_42 ≤ 2 * K := h_42
          refine j_iadd SS (x := t) (y := z_42) dX7_onEdge_45 ?_
          refine lv_istore_n (lv' := [(1, .int (J (t + z_42))), (0, .ref (q (9 + 5 * r))), (2, .int (J i))]) SS.1 SS.2.1 dX7_onEdge_46 rfl hl (by decide) rfl (fun ls hl => ?_)
          refine lv_iinc (v := J (i + 1)) (lv' := [(2, .int (J (i + 1))), (1, .int (J (t + z_42))), (0, .ref (q (9 + 5 * r)))]) SS.1 SS.2.1 dX7_onEdge_47 hl (k := 2) rfl (J_add _ _) (by decide) rfl (fun ls hl => ?_)
          refine lv_goto (tgt := 31) SS.1 SS.2.1 dX7_onEdge_50 (by decide) ?_
          exact ih_31 (t + z_42) (i + 1) ls (lv_sub hl [2, 1, 0] rfl) (by omega) (by rw [smI_s i31_0.1, ← i31_1, h_42.1]) (by omega) (by omega)
    exact L_31 ((u.1.2.2.1 r - (0 : Int)).toNat + 1) 0 0 ls (lv_sub hl [2, 1, 0] rfl) (by omega) (smI_0.symm) (by omega) (Nat.lt_succ_self _)
  · skip
    refine lv_aload_n SS.1 SS.2.1 dX7_onEdge_8 rfl (lv_at hl 0 rfl) ?_
    refine j_getS SS hG hP (9 + 5 * r) (v := .int (J (u.1.2.2.1 r))) (C := RX7) (T := TX7) (N := 3) (cw_ring (by omega)) rfl inX7 2 (by decide) (ref := "GridPolygons$Ring") kw_131 kw_132 rfl dX7_onEdge_9 ?_
    refine j_if_ne SS (tgt := 19) (x := (u.1.2.2.1 r)) dX7_onEdge_12 (by decide) (by omega) (fun c_12 => ?_) (fun c_12 => ?_)
    · skip
      refine lv_aload_n SS.1 SS.2.1 dX7_onEdge_19 rfl (lv_at hl 0 rfl) ?_
      refine j_iconst SS dX7_onEdge_20 ?_
      refine j_vRi SS (As := [.int (J 0)]) (rest := []) (c_X7_stepsOf l D q u r (by omega) K 0 (show 0 ≤ K ∧ K ≤ 80 from (p0)) (show RB K u r from (p1)) (show -1000 ≤ (0 : Int) ∧ (0 : Int) ≤ 1000 from (by omega))) mf_X7_stepsOf kw_537 hG hP hP (ci := 7) (q0 := (9 + 5 * r)) rfl (cw_ring (by omega)) rfl rfl hl.1 ⟨⟨Nat.le_of_ble_eq_true rfl, Nat.le_of_ble_eq_true rfl⟩, Nat.le_of_ble_eq_true rfl, Nat.le_refl _, Nat.le_refl _⟩ rfl dX7_onEdge_21 (fun z_21 h_21 => ?_)
      have h_21 : z_21 = dS u r (0 : Int) ∧ 0 ≤ z_21 ∧ z_21 ≤ 2 * K := h_21
      refine j_iconst SS dX7_onEdge_24 ?_
      refine j_iadd SS (x := z_21) (y := 1) dX7_onEdge_25 ?_
      exact W.iret SS.1 SS.2.1 hr (fun t0 ht hW => ⟨_, rfl, ⟨(z_21 + 1), rfl, (by first | exact ⟨by unfold rE; rw [if_pos (by omega), if_pos (by omega)], by omega, by omega⟩ | exact ⟨by unfold rE; rw [if_pos (by omega), if_neg (by omega), h_21.1], by omega, by omega⟩)⟩, ht⟩) (fun _ h => nomatch h) dX7_onEdge_26 hlk
    · skip
      refine j_iconst SS dX7_onEdge_15 ?_
      refine lv_goto (tgt := 26) SS.1 SS.2.1 dX7_onEdge_16 (by decide) ?_
      exact W.iret SS.1 SS.2.1 hr (fun t0 ht hW => ⟨_, rfl, ⟨0, rfl, (by first | exact ⟨by unfold rE; rw [if_pos (by omega), if_pos (by omega)], by omega, by omega⟩ | exact ⟨by unfold rE; rw [if_pos (by omega), if_neg (by omega), h_21.1], by omega, by omega⟩)⟩, ht⟩) (fun _ h => nomatch h) dX7_onEdge_26 hlk

set_option maxHeartbeats 4000000 in
set_option maxRecDepth 100000 in
theorem c_X7_inside (l : Launch) (D : JD) (q : Nat → Nat) (u : CS) (r : Nat) (hr : r ≤ 8) (K : Int) (p0 : 0 ≤ K ∧ K ≤ 80) (p1 : RB K u r) : Met l yX7_inside (jw yX7_inside cX7_inside 1 (some .int)) (jr 4 88) (jP [.ref (q (9 + 5 * r))] D (fun H => va_P D.1 j_cl (cW D q u) H)) (jRi (fun z => z = rI u r ∧ -6000000 ≤ z ∧ z ≤ 6000000)) 0 0 (fun _ => False) := by
  refine Met.ofW (cc := cX7_inside) (maxL := 1) (ret := (some .int)) (by decide) rfl ?_
  intro pr en st mi args below meth co s₁ B hml hv
  obtain ⟨rfl, hG, hP⟩ := hv
  have hr := B.returns
  have hlk := B.notSynchronized
  have SS : jS pr mi co cX7_inside 1 st _ RX7 := ⟨B.exec, B.bytes, hml, findClass_of_methodNamed B.named, fun w hw => atoms_spec (ws := (jw yX7_inside cX7_inside 1 (some .int))) B.pre w (List.mem_cons_of_mem _ hw)⟩
  have hl := lv_entry ([.ref (q (9 + 5 * r))]) (n := 1) (Nat.le_of_ble_eq_true rfl)
  rw [lg_entry_eq]
  generalize (lg_sl ([.ref (q (9 + 5 * r))]) ++ List.replicate (1 - (lg_sl ([.ref (q (9 + 5 * r))])).length) Slot.unset).toArray = ls at hl ⊢
  have hl : lv_has ls 1 [(0, .ref (q (9 + 5 * r)))] := hl
  have hc := p1.1
  have hrl := rl_b r
  refine lv_aload_n SS.1 SS.2.1 dX7_inside_0 rfl (lv_at hl 0 rfl) ?_
  refine j_getS SS hG hP (9 + 5 * r) (v := .int (J (u.1.2.2.1 r))) (C := RX7) (T := TX7) (N := 3) (cw_ring (by omega)) rfl inX7 2 (by decide) (ref := "GridPolygons$Ring") kw_131 kw_132 rfl dX7_inside_1 ?_
  refine j_iconst SS dX7_inside_4 ?_
  refine j_icmp_ge SS (tgt := 12) (x := (u.1.2.2.1 r)) (y := 3) dX7_inside_5 (by decide) (by omega) (by decide) (fun c_5 => ?_) (fun c_5 => ?_)
  · skip
    refine lv_aload_n SS.1 SS.2.1 dX7_inside_12 rfl (lv_at hl 0 rfl) ?_
    refine j_vRi SS (As := []) (rest := []) (c_X7_area l D q u r (by omega) K  (show 0 ≤ K ∧ K ≤ 80 from (p0)) (show RB K u r from (p1))) mf_X7_area kw_551 hG hP hP (ci := 7) (q0 := (9 + 5 * r)) rfl (cw_ring (by omega)) rfl rfl hl.1 ⟨⟨Nat.le_of_ble_eq_true rfl, Nat.le_of_ble_eq_true rfl⟩, Nat.le_of_ble_eq_true rfl, Nat.le_refl _, Nat.le_refl _⟩ rfl dX7_inside_13 (fun z_13 h_13 => ?_)
    have h_13 : z_13 = rA u r ∧ -10000000 ≤ z_13 ∧ z_13 ≤ 10000000 := h_13
    refine lv_aload_n SS.1 SS.2.1 dX7_inside_16 rfl (lv_at hl 0 rfl) ?_
    refine j_vRi SS (As := []) (rest := [.int (J z_13)]) (c_X7_onEdge l D q u r (by omega) K  (show 0 ≤ K ∧ K ≤ 80 from (p0)) (show RB K u r from (p1))) mf_X7_onEdge kw_552 hG hP hP (ci := 7) (q0 := (9 + 5 * r)) rfl (cw_ring (by omega)) rfl rfl hl.1 ⟨⟨Nat.le_of_ble_eq_true rfl, Nat.le_of_ble_eq_true rfl⟩, Nat.le_of_ble_eq_true rfl, Nat.le_refl _, Nat.le_refl _⟩ rfl dX7_inside_17 (fun z_17 h_17 => ?_)
    have h_17 : z_17 = rE u r ∧ 0 ≤ z_17 ∧ z_17 ≤ 60000 := h_17
    refine j_isub SS (x := z_13) (y := z_17) dX7_inside_20 ?_
    refine j_iconst SS dX7_inside_21 ?_
    have td := td_half (a := z_13 - z_17) (K := 11000000) (by omega)
    refine j_idiv SS (x := (z_13 - z_17)) (y := 2) dX7_inside_22 (by omega) (by decide) (by decide) ?_
    refine j_iconst SS dX7_inside_23 ?_
    refine j_iadd SS (x := (Int.tdiv (z_13 - z_17) 2)) (y := 1) dX7_inside_24 ?_
    exact W.iret SS.1 SS.2.1 hr (fun t0 ht hW => ⟨_, rfl, ⟨((Int.tdiv (z_13 - z_17) 2) + 1), rfl, (by first | exact ⟨by unfold rI; rw [if_pos (by omega)], by omega, by omega⟩ | exact ⟨by unfold rI; rw [if_neg (by omega), h_13.1, h_17.1], by omega, by omega⟩)⟩, ht⟩) (fun _ h => nomatch h) dX7_inside_25 hlk
  · skip
    refine j_iconst SS dX7_inside_8 ?_
    refine lv_goto (tgt := 25) SS.1 SS.2.1 dX7_inside_9 (by decide) ?_
    exact W.iret SS.1 SS.2.1 hr (fun t0 ht hW => ⟨_, rfl, ⟨0, rfl, (by first | exact ⟨by unfold rI; rw [if_pos (by omega)], by omega, by omega⟩ | exact ⟨by unfold rI; rw [if_neg (by omega), h_13.1, h_17.1], by omega, by omega⟩)⟩, ht⟩) (fun _ h => nomatch h) dX7_inside_25 hlk

set_option maxHeartbeats 4000000 in
set_option maxRecDepth 100000 in
theorem c_X7_all (l : Launch) (D : JD) (q : Nat → Nat) (u : CS) (r : Nat) (hr : r ≤ 8) (K : Int) (p0 : 0 ≤ K ∧ K ≤ 80) (p1 : RB K u r) : Met l yX7_all (jw yX7_all cX7_all 1 (some .int)) (jr 5 108) (jP [.ref (q (9 + 5 * r))] D (fun H => va_P D.1 j_cl (cW D q u) H)) (jRi (fun z => z = rE u r + rI u r ∧ -7000000 ≤ z ∧ z ≤ 7000000)) 0 0 (fun _ => False) := by
  refine Met.ofW (cc := cX7_all) (maxL := 1) (ret := (some .int)) (by decide) rfl ?_
  intro pr en st mi args below meth co s₁ B hml hv
  obtain ⟨rfl, hG, hP⟩ := hv
  have hr := B.returns
  have hlk := B.notSynchronized
  have SS : jS pr mi co cX7_all 1 st _ RX7 := ⟨B.exec, B.bytes, hml, findClass_of_methodNamed B.named, fun w hw => atoms_spec (ws := (jw yX7_all cX7_all 1 (some .int))) B.pre w (List.mem_cons_of_mem _ hw)⟩
  have hl := lv_entry ([.ref (q (9 + 5 * r))]) (n := 1) (Nat.le_of_ble_eq_true rfl)
  rw [lg_entry_eq]
  generalize (lg_sl ([.ref (q (9 + 5 * r))]) ++ List.replicate (1 - (lg_sl ([.ref (q (9 + 5 * r))])).length) Slot.unset).toArray = ls at hl ⊢
  have hl : lv_has ls 1 [(0, .ref (q (9 + 5 * r)))] := hl
  have hc := p1.1
  have hrl := rl_b r
  refine lv_aload_n SS.1 SS.2.1 dX7_all_0 rfl (lv_at hl 0 rfl) ?_
  refine j_vRi SS (As := []) (rest := []) (c_X7_onEdge l D q u r (by omega) K  (show 0 ≤ K ∧ K ≤ 80 from (p0)) (show RB K u r from (p1))) mf_X7_onEdge kw_552 hG hP hP (ci := 7) (q0 := (9 + 5 * r)) rfl (cw_ring (by omega)) rfl rfl hl.1 ⟨⟨Nat.le_of_ble_eq_true rfl, Nat.le_of_ble_eq_true rfl⟩, Nat.le_of_ble_eq_true rfl, Nat.le_refl _, Nat.le_refl _⟩ rfl dX7_all_1 (fun z_1 h_1 => ?_)
  have h_1 : z_1 = rE u r ∧ 0 ≤ z_1 ∧ z_1 ≤ 60000 := h_1
  refine lv_aload_n SS.1 SS.2.1 dX7_all_4 rfl (lv_at hl 0 rfl) ?_
  refine j_vRi SS (As := []) (rest := [.int (J z_1)]) (c_X7_inside l D q u r (by omega) K  (show 0 ≤ K ∧ K ≤ 80 from (p0)) (show RB K u r from (p1))) mf_X7_inside kw_557 hG hP hP (ci := 7) (q0 := (9 + 5 * r)) rfl (cw_ring (by omega)) rfl rfl hl.1 ⟨⟨Nat.le_of_ble_eq_true rfl, Nat.le_of_ble_eq_true rfl⟩, Nat.le_of_ble_eq_true rfl, Nat.le_refl _, Nat.le_refl _⟩ rfl dX7_all_5 (fun z_5 h_5 => ?_)
  have h_5 : z_5 = rI u r ∧ -6000000 ≤ z_5 ∧ z_5 ≤ 6000000 := h_5
  refine j_iadd SS (x := z_1) (y := z_5) dX7_all_8 ?_
  exact W.iret SS.1 SS.2.1 hr (fun t0 ht hW => ⟨_, rfl, ⟨(z_1 + z_5), rfl, (by omega)⟩, ht⟩) (fun _ h => nomatch h) dX7_all_9 hlk

set_option maxHeartbeats 4000000 in
set_option maxRecDepth 100000 in
theorem c_X7_leftmost (l : Launch) (D : JD) (q : Nat → Nat) (u : CS) (r : Nat) (hr : r ≤ 8) (K : Int) (p0 : 0 ≤ K ∧ K ≤ 80) (p1 : RB K u r) : Met l yX7_leftmost (jw yX7_leftmost cX7_leftmost 1 (some .int)) (jr 1 21) (jP [.ref (q (9 + 5 * r))] D (fun H => va_P D.1 j_cl (cW D q u) H)) (jRi (fun z => z = rx u r 0 ∧ -K ≤ z ∧ z ≤ K)) 0 0 (fun _ => False) := by
  refine Met.ofW (cc := cX7_leftmost) (maxL := 1) (ret := (some .int)) (by decide) rfl ?_
  intro pr en st mi args below meth co s₁ B hml hv
  obtain ⟨rfl, hG, hP⟩ := hv
  have hr := B.returns
  have hlk := B.notSynchronized
  have SS : jS pr mi co cX7_leftmost 1 st _ RX7 := ⟨B.exec, B.bytes, hml, findClass_of_methodNamed B.named, fun w hw => atoms_spec (ws := (jw yX7_leftmost cX7_leftmost 1 (some .int))) B.pre w (List.mem_cons_of_mem _ hw)⟩
  have hl := lv_entry ([.ref (q (9 + 5 * r))]) (n := 1) (Nat.le_of_ble_eq_true rfl)
  rw [lg_entry_eq]
  generalize (lg_sl ([.ref (q (9 + 5 * r))]) ++ List.replicate (1 - (lg_sl ([.ref (q (9 + 5 * r))])).length) Slot.unset).toArray = ls at hl ⊢
  have hl : lv_has ls 1 [(0, .ref (q (9 + 5 * r)))] := hl
  have hc := p1.1
  have hrl := rl_b r
  refine lv_aload_n SS.1 SS.2.1 dX7_leftmost_0 rfl (lv_at hl 0 rfl) ?_
  refine j_iconst SS dX7_leftmost_1 ?_
  refine j_uRi SS (As := [.int (J 0)]) (rest := []) (c_X8_x l D q u r (by omega) 0 (show -2147483648 ≤ (0 : Int) ∧ (0 : Int) ≤ 2147483647 from (by omega))) mu_7_x kw_501 hG hP hP (ci := 7) (q0 := (9 + 5 * r)) rfl (cw_ring (by omega)) rfl rfl hl.1 ⟨⟨Nat.le_of_ble_eq_true rfl, Nat.le_of_ble_eq_true rfl⟩, Nat.le_of_ble_eq_true rfl, Nat.le_refl _, Nat.le_refl _⟩ rfl dX7_leftmost_2 (fun z_2 h_2 => ?_)
  have h_2 : z_2 = rx u r (0 : Int) ∧ ∀ K : Int, 0 ≤ K → RB K u r → -K ≤ z_2 ∧ z_2 ≤ K := h_2
  have hb_2 := h_2.2 K (by omega) (p1)
  exact W.iret SS.1 SS.2.1 hr (fun t0 ht hW => ⟨_, rfl, ⟨z_2, rfl, (⟨h_2.1, hb_2.1, hb_2.2⟩)⟩, ht⟩) (fun _ h => nomatch h) dX7_leftmost_5 hlk

set_option maxHeartbeats 4000000 in
set_option maxRecDepth 100000 in
theorem c_X7_rightmost (l : Launch) (D : JD) (q : Nat → Nat) (u : CS) (r : Nat) (hr : r ≤ 8) (K : Int) (p0 : 0 ≤ K ∧ K ≤ 80) (p1 : RB K u r) : Met l yX7_rightmost (jw yX7_rightmost cX7_rightmost 3 (some .int)) (jr 1 21) (jP [.ref (q (9 + 5 * r))] D (fun H => va_P D.1 j_cl (cW D q u) H)) (jRi (fun z => -K ≤ z ∧ z ≤ K)) 0 0 (fun _ => False) := by
  refine Met.ofW (cc := cX7_rightmost) (maxL := 3) (ret := (some .int)) (by decide) rfl ?_
  intro pr en st mi args below meth co s₁ B hml hv
  obtain ⟨rfl, hG, hP⟩ := hv
  have hr := B.returns
  have hlk := B.notSynchronized
  have SS : jS pr mi co cX7_rightmost 3 st _ RX7 := ⟨B.exec, B.bytes, hml, findClass_of_methodNamed B.named, fun w hw => atoms_spec (ws := (jw yX7_rightmost cX7_rightmost 3 (some .int))) B.pre w (List.mem_cons_of_mem _ hw)⟩
  have hl := lv_entry ([.ref (q (9 + 5 * r))]) (n := 3) (Nat.le_of_ble_eq_true rfl)
  rw [lg_entry_eq]
  generalize (lg_sl ([.ref (q (9 + 5 * r))]) ++ List.replicate (3 - (lg_sl ([.ref (q (9 + 5 * r))])).length) Slot.unset).toArray = ls at hl ⊢
  have hl : lv_has ls 3 [(0, .ref (q (9 + 5 * r)))] := hl
  have hc := p1.1
  have hrl := rl_b r
  refine lv_aload_n SS.1 SS.2.1 dX7_rightmost_0 rfl (lv_at hl 0 rfl) ?_
  refine j_iconst SS dX7_rightmost_1 ?_
  refine j_uRi SS (As := [.int (J 0)]) (rest := []) (c_X8_x l D q u r (by omega) 0 (show -2147483648 ≤ (0 : Int) ∧ (0 : Int) ≤ 2147483647 from (by omega))) mu_7_x kw_501 hG hP hP (ci := 7) (q0 := (9 + 5 * r)) rfl (cw_ring (by omega)) rfl rfl hl.1 ⟨⟨Nat.le_of_ble_eq_true rfl, Nat.le_of_ble_eq_true rfl⟩, Nat.le_of_ble_eq_true rfl, Nat.le_refl _, Nat.le_refl _⟩ rfl dX7_rightmost_2 (fun z_2 h_2 => ?_)
  have h_2 : z_2 = rx u r (0 : Int) ∧ ∀ K : Int, 0 ≤ K → RB K u r → -K ≤ z_2 ∧ z_2 ≤ K := h_2
  have hb_2 := h_2.2 K (by omega) (p1)
  refine lv_istore_n (lv' := [(1, .int (J z_2)), (0, .ref (q (9 + 5 * r)))]) SS.1 SS.2.1 dX7_rightmost_5 rfl hl (by decide) rfl (fun ls hl => ?_)
  refine j_iconst SS dX7_rightmost_6 ?_
  refine lv_istore_n (lv' := [(2, .int (J 1)), (1, .int (J z_2)), (0, .ref (q (9 + 5 * r)))]) SS.1 SS.2.1 dX7_rightmost_7 rfl hl (by decide) rfl (fun ls hl => ?_)
  have L_8 : ∀ (nn : Nat) (t : Int) (i : Int) (ls : Array Slot) (hl : lv_has ls 3 [(0, .ref (q (9 + 5 * r))), (1, .int (J t)), (2, .int (J i))]) (i8_0 : 1 ≤ i ∧ (i ≤ u.1.2.2.1 r ∨ i = 1)) (i8_1 : -K ≤ t ∧ t ≤ K), (u.1.2.2.1 r - i).toNat < nn → W pr l en (headSpec (jw yX7_rightmost cX7_rightmost 3 (some .int)) (jr 1 21)).room st mi (([.ref (q (9 + 5 * r))] : List Value).toArray) below meth co st.heap [] 0 0 (MQ below (jRi (fun z => -K ≤ z ∧ z ≤ K)) (([.ref (q (9 + 5 * r))] : List Value).toArray) st 0 0 (fun _ => False)) (F0 mi 8 ls []) := by
    intro nn
    induction nn with
    | zero => intros; omega
    | succ nn ih_8 =>
      intro t i ls hl i8_0 i8_1 hm
      refine lv_iload_n SS.1 SS.2.1 dX7_rightmost_8 rfl (lv_at hl 2 rfl) ?_
      refine lv_aload_n SS.1 SS.2.1 dX7_rightmost_9 rfl (lv_at hl 0 rfl) ?_
      refine j_getS SS hG hP (9 + 5 * r) (v := .int (J (u.1.2.2.1 r))) (C := RX7) (T := TX7) (N := 3) (cw_ring (by omega)) rfl inX7 2 (by decide) (ref := "GridPolygons$Ring") kw_131 kw_132 rfl dX7_rightmost_10 ?_
      refine j_icmp_ge SS (tgt := 32) (x := i) (y := (u.1.2.2.1 r)) dX7_rightmost_13 (by decide) (by omega) (by omega) (fun c_13 => ?_) (fun c_13 => ?_)
      · skip
        refine lv_iload_n SS.1 SS.2.1 dX7_rightmost_32 rfl (lv_at hl 1 rfl) ?_
        exact W.iret SS.1 SS.2.1 hr (fun t0 ht hW => ⟨_, rfl, ⟨t, rfl, (by omega)⟩, ht⟩) (fun _ h => nomatch h) dX7_rightmost_33 hlk
      · skip
        refine lv_iload_n SS.1 SS.2.1 dX7_rightmost_16 rfl (lv_at hl 1 rfl) ?_
        refine lv_aload_n SS.1 SS.2.1 dX7_rightmost_17 rfl (lv_at hl 0 rfl) ?_
        refine lv_iload_n SS.1 SS.2.1 dX7_rightmost_18 rfl (lv_at hl 2 rfl) ?_
        refine j_uRi SS (As := [.int (J i)]) (rest := [.int (J t)]) (c_X8_x l D q u r (by omega) i (show -2147483648 ≤ i ∧ i ≤ 2147483647 from (by omega))) mu_7_x kw_501 hG hP hP (ci := 7) (q0 := (9 + 5 * r)) rfl (cw_ring (by omega)) rfl rfl hl.1 ⟨⟨Nat.le_of_ble_eq_true rfl, Nat.le_of_ble_eq_true rfl⟩, Nat.le_of_ble_eq_true rfl, Nat.le_refl _, Nat.le_refl _⟩ rfl dX7_rightmost_19 (fun z_19 h_19 => ?_)
        have h_19 : z_19 = rx u r i ∧ ∀ K : Int, 0 ≤ K → RB K u r → -K ≤ z_19 ∧ z_19 ≤ K := h_19
        have hb_19 := h_19.2 K (by omega) (p1)
        refine j_sRi SS (As := [.int (J t), .int (J z_19)]) (rest := []) (c_J9_max_7cf53 l D  t z_19 (show -2147483648 ≤ t ∧ t ≤ 2147483647 from (by omega)) (show -2147483648 ≤ z_19 ∧ z_19 ≤ 2147483647 from (by omega))) mf_J9_max_7cf53 kw_593 hG trivial rfl hl.1 ⟨⟨Nat.le_of_ble_eq_true rfl, Nat.le_of_ble_eq_true rfl⟩, Nat.le_of_ble_eq_true rfl, Nat.le_refl _, Nat.le_refl _⟩ rfl dX7_rightmost_22 (fun z_22 h_22 => ?_)
        have h_22 : (z_22 = t ∨ z_22 = z_19) ∧ t ≤ z_22 ∧ z_19 ≤ z_22 := h_22
        refine lv_istore_n (lv' := [(1, .int (J z_22)), (0, .ref (q (9 + 5 * r))), (2, .int (J i))]) SS.1 SS.2.1 dX7_rightmost_25 rfl hl (by decide) rfl (fun ls hl => ?_)
        refine lv_iinc (v := J (i + 1)) (lv' := [(2, .int (J (i + 1))), (1, .int (J z_22)), (0, .ref (q (9 + 5 * r)))]) SS.1 SS.2.1 dX7_rightmost_26 hl (k := 2) rfl (J_add _ _) (by decide) rfl (fun ls hl => ?_)
        refine lv_goto (tgt := 8) SS.1 SS.2.1 dX7_rightmost_29 (by decide) ?_
        exact ih_8 z_22 (i + 1) ls (lv_sub hl [2, 1, 0] rfl) (by omega) (by omega) (by omega)
  exact L_8 ((u.1.2.2.1 r - (1 : Int)).toNat + 1) z_2 1 ls (lv_sub hl [2, 1, 0] rfl) (by omega) (by omega) (Nat.lt_succ_self _)

set_option maxHeartbeats 4000000 in
set_option maxRecDepth 100000 in
theorem c_X7_bottom (l : Launch) (D : JD) (q : Nat → Nat) (u : CS) (r : Nat) (hr : r ≤ 8) (K : Int) (p0 : 0 ≤ K ∧ K ≤ 80) (p1 : RB K u r) : Met l yX7_bottom (jw yX7_bottom cX7_bottom 3 (some .int)) (jr 1 21) (jP [.ref (q (9 + 5 * r))] D (fun H => va_P D.1 j_cl (cW D q u) H)) (jRi (fun z => -K ≤ z ∧ z ≤ K)) 0 0 (fun _ => False) := by
  refine Met.ofW (cc := cX7_bottom) (maxL := 3) (ret := (some .int)) (by decide) rfl ?_
  intro pr en st mi args below meth co s₁ B hml hv
  obtain ⟨rfl, hG, hP⟩ := hv
  have hr := B.returns
  have hlk := B.notSynchronized
  have SS : jS pr mi co cX7_bottom 3 st _ RX7 := ⟨B.exec, B.bytes, hml, findClass_of_methodNamed B.named, fun w hw => atoms_spec (ws := (jw yX7_bottom cX7_bottom 3 (some .int))) B.pre w (List.mem_cons_of_mem _ hw)⟩
  have hl := lv_entry ([.ref (q (9 + 5 * r))]) (n := 3) (Nat.le_of_ble_eq_true rfl)
  rw [lg_entry_eq]
  generalize (lg_sl ([.ref (q (9 + 5 * r))]) ++ List.replicate (3 - (lg_sl ([.ref (q (9 + 5 * r))])).length) Slot.unset).toArray = ls at hl ⊢
  have hl : lv_has ls 3 [(0, .ref (q (9 + 5 * r)))] := hl
  have hc := p1.1
  have hrl := rl_b r
  refine lv_aload_n SS.1 SS.2.1 dX7_bottom_0 rfl (lv_at hl 0 rfl) ?_
  refine j_iconst SS dX7_bottom_1 ?_
  refine j_uRi SS (As := [.int (J 0)]) (rest := []) (c_X8_y l D q u r (by omega) 0 (show -2147483648 ≤ (0 : Int) ∧ (0 : Int) ≤ 2147483647 from (by omega))) mu_7_y kw_503 hG hP hP (ci := 7) (q0 := (9 + 5 * r)) rfl (cw_ring (by omega)) rfl rfl hl.1 ⟨⟨Nat.le_of_ble_eq_true rfl, Nat.le_of_ble_eq_true rfl⟩, Nat.le_of_ble_eq_true rfl, Nat.le_refl _, Nat.le_refl _⟩ rfl dX7_bottom_2 (fun z_2 h_2 => ?_)
  have h_2 : z_2 = ry9 u r (0 : Int) ∧ ∀ K : Int, 0 ≤ K → RB K u r → -K ≤ z_2 ∧ z_2 ≤ K := h_2
  have hb_2 := h_2.2 K (by omega) (p1)
  refine lv_istore_n (lv' := [(1, .int (J z_2)), (0, .ref (q (9 + 5 * r)))]) SS.1 SS.2.1 dX7_bottom_5 rfl hl (by decide) rfl (fun ls hl => ?_)
  refine j_iconst SS dX7_bottom_6 ?_
  refine lv_istore_n (lv' := [(2, .int (J 1)), (1, .int (J z_2)), (0, .ref (q (9 + 5 * r)))]) SS.1 SS.2.1 dX7_bottom_7 rfl hl (by decide) rfl (fun ls hl => ?_)
  have L_8 : ∀ (nn : Nat) (t : Int) (i : Int) (ls : Array Slot) (hl : lv_has ls 3 [(0, .ref (q (9 + 5 * r))), (1, .int (J t)), (2, .int (J i))]) (i8_0 : 1 ≤ i ∧ (i ≤ u.1.2.2.1 r ∨ i = 1)) (i8_1 : -K ≤ t ∧ t ≤ K), (u.1.2.2.1 r - i).toNat < nn → W pr l en (headSpec (jw yX7_bottom cX7_bottom 3 (some .int)) (jr 1 21)).room st mi (([.ref (q (9 + 5 * r))] : List Value).toArray) below meth co st.heap [] 0 0 (MQ below (jRi (fun z => -K ≤ z ∧ z ≤ K)) (([.ref (q (9 + 5 * r))] : List Value).toArray) st 0 0 (fun _ => False)) (F0 mi 8 ls []) := by
    intro nn
    induction nn with
    | zero => intros; omega
    | succ nn ih_8 =>
      intro t i ls hl i8_0 i8_1 hm
      refine lv_iload_n SS.1 SS.2.1 dX7_bottom_8 rfl (lv_at hl 2 rfl) ?_
      refine lv_aload_n SS.1 SS.2.1 dX7_bottom_9 rfl (lv_at hl 0 rfl) ?_
      refine j_getS SS hG hP (9 + 5 * r) (v := .int (J (u.1.2.2.1 r))) (C := RX7) (T := TX7) (N := 3) (cw_ring (by omega)) rfl inX7 2 (by decide) (ref := "GridPolygons$Ring") kw_131 kw_132 rfl dX7_bottom_10 ?_
      refine j_icmp_ge SS (tgt := 32) (x := i) (y := (u.1.2.2.1 r)) dX7_bottom_13 (by decide) (by omega) (by omega) (fun c_13 => ?_) (fun c_13 => ?_)
      · skip
        refine lv_iload_n SS.1 SS.2.1 dX7_bottom_32 rfl (lv_at hl 1 rfl) ?_
        exact W.iret SS.1 SS.2.1 hr (fun t0 ht hW => ⟨_, rfl, ⟨t, rfl, (by omega)⟩, ht⟩) (fun _ h => nomatch h) dX7_bottom_33 hlk
      · skip
        refine lv_iload_n SS.1 SS.2.1 dX7_bottom_16 rfl (lv_at hl 1 rfl) ?_
        refine lv_aload_n SS.1 SS.2.1 dX7_bottom_17 rfl (lv_at hl 0 rfl) ?_
        refine lv_iload_n SS.1 SS.2.1 dX7_bottom_18 rfl (lv_at hl 2 rfl) ?_
        refine j_uRi SS (As := [.int (J i)]) (rest := [.int (J t)]) (c_X8_y l D q u r (by omega) i (show -2147483648 ≤ i ∧ i ≤ 2147483647 from (by omega))) mu_7_y kw_503 hG hP hP (ci := 7) (q0 := (9 + 5 * r)) rfl (cw_ring (by omega)) rfl rfl hl.1 ⟨⟨Nat.le_of_ble_eq_true rfl, Nat.le_of_ble_eq_true rfl⟩, Nat.le_of_ble_eq_true rfl, Nat.le_refl _, Nat.le_refl _⟩ rfl dX7_bottom_19 (fun z_19 h_19 => ?_)
        have h_19 : z_19 = ry9 u r i ∧ ∀ K : Int, 0 ≤ K → RB K u r → -K ≤ z_19 ∧ z_19 ≤ K := h_19
        have hb_19 := h_19.2 K (by omega) (p1)
        refine j_sRi SS (As := [.int (J t), .int (J z_19)]) (rest := []) (c_J9_min_7cf53 l D  t z_19 (show -2147483648 ≤ t ∧ t ≤ 2147483647 from (by omega)) (show -2147483648 ≤ z_19 ∧ z_19 ≤ 2147483647 from (by omega))) mf_J9_min_7cf53 kw_602 hG trivial rfl hl.1 ⟨⟨Nat.le_of_ble_eq_true rfl, Nat.le_of_ble_eq_true rfl⟩, Nat.le_of_ble_eq_true rfl, Nat.le_refl _, Nat.le_refl _⟩ rfl dX7_bottom_22 (fun z_22 h_22 => ?_)
        have h_22 : (z_22 = t ∨ z_22 = z_19) ∧ z_22 ≤ t ∧ z_22 ≤ z_19 := h_22
        refine lv_istore_n (lv' := [(1, .int (J z_22)), (0, .ref (q (9 + 5 * r))), (2, .int (J i))]) SS.1 SS.2.1 dX7_bottom_25 rfl hl (by decide) rfl (fun ls hl => ?_)
        refine lv_iinc (v := J (i + 1)) (lv' := [(2, .int (J (i + 1))), (1, .int (J z_22)), (0, .ref (q (9 + 5 * r)))]) SS.1 SS.2.1 dX7_bottom_26 hl (k := 2) rfl (J_add _ _) (by decide) rfl (fun ls hl => ?_)
        refine lv_goto (tgt := 8) SS.1 SS.2.1 dX7_bottom_29 (by decide) ?_
        exact ih_8 z_22 (i + 1) ls (lv_sub hl [2, 1, 0] rfl) (by omega) (by omega) (by omega)
  exact L_8 ((u.1.2.2.1 r - (1 : Int)).toNat + 1) z_2 1 ls (lv_sub hl [2, 1, 0] rfl) (by omega) (by omega) (Nat.lt_succ_self _)

set_option maxHeartbeats 4000000 in
set_option maxRecDepth 100000 in
theorem c_X7_top (l : Launch) (D : JD) (q : Nat → Nat) (u : CS) (r : Nat) (hr : r ≤ 8) (K : Int) (p0 : 0 ≤ K ∧ K ≤ 80) (p1 : RB K u r) : Met l yX7_top (jw yX7_top cX7_top 3 (some .int)) (jr 1 21) (jP [.ref (q (9 + 5 * r))] D (fun H => va_P D.1 j_cl (cW D q u) H)) (jRi (fun z => -K ≤ z ∧ z ≤ K)) 0 0 (fun _ => False) := by
  refine Met.ofW (cc := cX7_top) (maxL := 3) (ret := (some .int)) (by decide) rfl ?_
  intro pr en st mi args below meth co s₁ B hml hv
  obtain ⟨rfl, hG, hP⟩ := hv
  have hr := B.returns
  have hlk := B.notSynchronized
  have SS : jS pr mi co cX7_top 3 st _ RX7 := ⟨B.exec, B.bytes, hml, findClass_of_methodNamed B.named, fun w hw => atoms_spec (ws := (jw yX7_top cX7_top 3 (some .int))) B.pre w (List.mem_cons_of_mem _ hw)⟩
  have hl := lv_entry ([.ref (q (9 + 5 * r))]) (n := 3) (Nat.le_of_ble_eq_true rfl)
  rw [lg_entry_eq]
  generalize (lg_sl ([.ref (q (9 + 5 * r))]) ++ List.replicate (3 - (lg_sl ([.ref (q (9 + 5 * r))])).length) Slot.unset).toArray = ls at hl ⊢
  have hl : lv_has ls 3 [(0, .ref (q (9 + 5 * r)))] := hl
  have hc := p1.1
  have hrl := rl_b r
  refine lv_aload_n SS.1 SS.2.1 dX7_top_0 rfl (lv_at hl 0 rfl) ?_
  refine j_iconst SS dX7_top_1 ?_
  refine j_uRi SS (As := [.int (J 0)]) (rest := []) (c_X8_y l D q u r (by omega) 0 (show -2147483648 ≤ (0 : Int) ∧ (0 : Int) ≤ 2147483647 from (by omega))) mu_7_y kw_503 hG hP hP (ci := 7) (q0 := (9 + 5 * r)) rfl (cw_ring (by omega)) rfl rfl hl.1 ⟨⟨Nat.le_of_ble_eq_true rfl, Nat.le_of_ble_eq_true rfl⟩, Nat.le_of_ble_eq_true rfl, Nat.le_refl _, Nat.le_refl _⟩ rfl dX7_top_2 (fun z_2 h_2 => ?_)
  have h_2 : z_2 = ry9 u r (0 : Int) ∧ ∀ K : Int, 0 ≤ K → RB K u r → -K ≤ z_2 ∧ z_2 ≤ K := h_2
  have hb_2 := h_2.2 K (by omega) (p1)
  refine lv_istore_n (lv' := [(1, .int (J z_2)), (0, .ref (q (9 + 5 * r)))]) SS.1 SS.2.1 dX7_top_5 rfl hl (by decide) rfl (fun ls hl => ?_)
  refine j_iconst SS dX7_top_6 ?_
  refine lv_istore_n (lv' := [(2, .int (J 1)), (1, .int (J z_2)), (0, .ref (q (9 + 5 * r)))]) SS.1 SS.2.1 dX7_top_7 rfl hl (by decide) rfl (fun ls hl => ?_)
  have L_8 : ∀ (nn : Nat) (t : Int) (i : Int) (ls : Array Slot) (hl : lv_has ls 3 [(0, .ref (q (9 + 5 * r))), (1, .int (J t)), (2, .int (J i))]) (i8_0 : 1 ≤ i ∧ (i ≤ u.1.2.2.1 r ∨ i = 1)) (i8_1 : -K ≤ t ∧ t ≤ K), (u.1.2.2.1 r - i).toNat < nn → W pr l en (headSpec (jw yX7_top cX7_top 3 (some .int)) (jr 1 21)).room st mi (([.ref (q (9 + 5 * r))] : List Value).toArray) below meth co st.heap [] 0 0 (MQ below (jRi (fun z => -K ≤ z ∧ z ≤ K)) (([.ref (q (9 + 5 * r))] : List Value).toArray) st 0 0 (fun _ => False)) (F0 mi 8 ls []) := by
    intro nn
    induction nn with
    | zero => intros; omega
    | succ nn ih_8 =>
      intro t i ls hl i8_0 i8_1 hm
      refine lv_iload_n SS.1 SS.2.1 dX7_top_8 rfl (lv_at hl 2 rfl) ?_
      refine lv_aload_n SS.1 SS.2.1 dX7_top_9 rfl (lv_at hl 0 rfl) ?_
      refine j_getS SS hG hP (9 + 5 * r) (v := .int (J (u.1.2.2.1 r))) (C := RX7) (T := TX7) (N := 3) (cw_ring (by omega)) rfl inX7 2 (by decide) (ref := "GridPolygons$Ring") kw_131 kw_132 rfl dX7_top_10 ?_
      refine j_icmp_ge SS (tgt := 32) (x := i) (y := (u.1.2.2.1 r)) dX7_top_13 (by decide) (by omega) (by omega) (fun c_13 => ?_) (fun c_13 => ?_)
      · skip
        refine lv_iload_n SS.1 SS.2.1 dX7_top_32 rfl (lv_at hl 1 rfl) ?_
        exact W.iret SS.1 SS.2.1 hr (fun t0 ht hW => ⟨_, rfl, ⟨t, rfl, (by omega)⟩, ht⟩) (fun _ h => nomatch h) dX7_top_33 hlk
      · skip
        refine lv_iload_n SS.1 SS.2.1 dX7_top_16 rfl (lv_at hl 1 rfl) ?_
        refine lv_aload_n SS.1 SS.2.1 dX7_top_17 rfl (lv_at hl 0 rfl) ?_
        refine lv_iload_n SS.1 SS.2.1 dX7_top_18 rfl (lv_at hl 2 rfl) ?_
        refine j_uRi SS (As := [.int (J i)]) (rest := [.int (J t)]) (c_X8_y l D q u r (by omega) i (show -2147483648 ≤ i ∧ i ≤ 2147483647 from (by omega))) mu_7_y kw_503 hG hP hP (ci := 7) (q0 := (9 + 5 * r)) rfl (cw_ring (by omega)) rfl rfl hl.1 ⟨⟨Nat.le_of_ble_eq_true rfl, Nat.le_of_ble_eq_true rfl⟩, Nat.le_of_ble_eq_true rfl, Nat.le_refl _, Nat.le_refl _⟩ rfl dX7_top_19 (fun z_19 h_19 => ?_)
        have h_19 : z_19 = ry9 u r i ∧ ∀ K : Int, 0 ≤ K → RB K u r → -K ≤ z_19 ∧ z_19 ≤ K := h_19
        have hb_19 := h_19.2 K (by omega) (p1)
        refine j_sRi SS (As := [.int (J t), .int (J z_19)]) (rest := []) (c_J9_max_7cf53 l D  t z_19 (show -2147483648 ≤ t ∧ t ≤ 2147483647 from (by omega)) (show -2147483648 ≤ z_19 ∧ z_19 ≤ 2147483647 from (by omega))) mf_J9_max_7cf53 kw_593 hG trivial rfl hl.1 ⟨⟨Nat.le_of_ble_eq_true rfl, Nat.le_of_ble_eq_true rfl⟩, Nat.le_of_ble_eq_true rfl, Nat.le_refl _, Nat.le_refl _⟩ rfl dX7_top_22 (fun z_22 h_22 => ?_)
        have h_22 : (z_22 = t ∨ z_22 = z_19) ∧ t ≤ z_22 ∧ z_19 ≤ z_22 := h_22
        refine lv_istore_n (lv' := [(1, .int (J z_22)), (0, .ref (q (9 + 5 * r))), (2, .int (J i))]) SS.1 SS.2.1 dX7_top_25 rfl hl (by decide) rfl (fun ls hl => ?_)
        refine lv_iinc (v := J (i + 1)) (lv' := [(2, .int (J (i + 1))), (1, .int (J z_22)), (0, .ref (q (9 + 5 * r)))]) SS.1 SS.2.1 dX7_top_26 hl (k := 2) rfl (J_add _ _) (by decide) rfl (fun ls hl => ?_)
        refine lv_goto (tgt := 8) SS.1 SS.2.1 dX7_top_29 (by decide) ?_
        exact ih_8 z_22 (i + 1) ls (lv_sub hl [2, 1, 0] rfl) (by omega) (by omega) (by omega)
  exact L_8 ((u.1.2.2.1 r - (1 : Int)).toNat + 1) z_2 1 ls (lv_sub hl [2, 1, 0] rfl) (by omega) (by omega) (Nat.lt_succ_self _)

set_option maxHeartbeats 4000000 in
set_option maxRecDepth 100000 in
theorem c_X7_lowestAt (l : Launch) (D : JD) (q : Nat → Nat) (u : CS) (r : Nat) (hr : r ≤ 8) (K : Int) (x : Int) (p0 : 0 ≤ K ∧ K ≤ 80) (p1 : RB K u r) (p2 : -200 ≤ x ∧ x ≤ 200) : Met l yX7_lowestAt (jw yX7_lowestAt cX7_lowestAt 5 (some .int)) (jr 2 44) (jP [.ref (q (9 + 5 * r)), .int (J x)] D (fun H => va_P D.1 j_cl (cW D q u) H)) (jRi (fun z => -K ≤ z ∧ z ≤ 60000)) 0 0 (fun _ => False) := by
  refine Met.ofW (cc := cX7_lowestAt) (maxL := 5) (ret := (some .int)) (by decide) rfl ?_
  intro pr en st mi args below meth co s₁ B hml hv
  obtain ⟨rfl, hG, hP⟩ := hv
  have hr := B.returns
  have hlk := B.notSynchronized
  have SS : jS pr mi co cX7_lowestAt 5 st _ RX7 := ⟨B.exec, B.bytes, hml, findClass_of_methodNamed B.named, fun w hw => atoms_spec (ws := (jw yX7_lowestAt cX7_lowestAt 5 (some .int))) B.pre w (List.mem_cons_of_mem _ hw)⟩
  have hl := lv_entry ([.ref (q (9 + 5 * r)), .int (J x)]) (n := 5) (Nat.le_of_ble_eq_true rfl)
  rw [lg_entry_eq]
  generalize (lg_sl ([.ref (q (9 + 5 * r)), .int (J x)]) ++ List.replicate (5 - (lg_sl ([.ref (q (9 + 5 * r)), .int (J x)])).length) Slot.unset).toArray = ls at hl ⊢
  have hl : lv_has ls 5 [(0, .ref (q (9 + 5 * r))), (1, .int (J x))] := hl
  have hc := p1.1
  have hrl := rl_b r
  refine lv_aload_n SS.1 SS.2.1 dX7_lowestAt_0 rfl (lv_at hl 0 rfl) ?_
  refine j_vRi SS (As := []) (rest := []) (c_X7_bottom l D q u r (by omega) K  (show 0 ≤ K ∧ K ≤ 80 from (p0)) (show RB K u r from (p1))) mf_X7_bottom kw_598 hG hP hP (ci := 7) (q0 := (9 + 5 * r)) rfl (cw_ring (by omega)) rfl rfl hl.1 ⟨⟨Nat.le_of_ble_eq_true rfl, Nat.le_of_ble_eq_true rfl⟩, Nat.le_of_ble_eq_true rfl, Nat.le_refl _, Nat.le_refl _⟩ rfl dX7_lowestAt_1 (fun z_1 h_1 => ?_)
  have h_1 : -K ≤ z_1 ∧ z_1 ≤ K := h_1
  refine lv_istore_n (lv' := [(2, .int (J z_1)), (0, .ref (q (9 + 5 * r))), (1, .int (J x))]) SS.1 SS.2.1 dX7_lowestAt_4 rfl hl (by decide) rfl (fun ls hl => ?_)
  refine j_iconst SS dX7_lowestAt_5 ?_
  refine lv_istore_n (lv' := [(3, .int (J 0)), (2, .int (J z_1)), (0, .ref (q (9 + 5 * r))), (1, .int (J x))]) SS.1 SS.2.1 dX7_lowestAt_6 rfl hl (by decide) rfl (fun ls hl => ?_)
  have L_7 : ∀ (nn : Nat) (t : Int) (i : Int) (ls : Array Slot) (hl : lv_has ls 5 [(0, .ref (q (9 + 5 * r))), (1, .int (J x)), (2, .int (J t)), (3, .int (J i))]) (i7_0 : 0 ≤ i ∧ i ≤ u.1.2.2.1 r) (i7_1 : -K ≤ t ∧ t ≤ 60000), (u.1.2.2.1 r - i).toNat < nn → W pr l en (headSpec (jw yX7_lowestAt cX7_lowestAt 5 (some .int)) (jr 2 44)).room st mi (([.ref (q (9 + 5 * r)), .int (J x)] : List Value).toArray) below meth co st.heap [] 0 0 (MQ below (jRi (fun z => -K ≤ z ∧ z ≤ 60000)) (([.ref (q (9 + 5 * r)), .int (J x)] : List Value).toArray) st 0 0 (fun _ => False)) (F0 mi 7 ls []) := by
    intro nn
    induction nn with
    | zero => intros; omega
    | succ nn ih_7 =>
      intro t i ls hl i7_0 i7_1 hm
      refine lv_iload_n SS.1 SS.2.1 dX7_lowestAt_7 rfl (lv_at hl 3 rfl) ?_
      refine lv_aload_n SS.1 SS.2.1 dX7_lowestAt_8 rfl (lv_at hl 0 rfl) ?_
      refine j_getS SS hG hP (9 + 5 * r) (v := .int (J (u.1.2.2.1 r))) (C := RX7) (T := TX7) (N := 3) (cw_ring (by omega)) rfl inX7 2 (by decide) (ref := "GridPolygons$Ring") kw_131 kw_132 rfl dX7_lowestAt_9 ?_
      refine j_icmp_ge SS (tgt := 62) (x := i) (y := (u.1.2.2.1 r)) dX7_lowestAt_12 (by decide) (by omega) (by omega) (fun c_12 => ?_) (fun c_12 => ?_)
      · skip
        refine lv_iload_n SS.1 SS.2.1 dX7_lowestAt_62 rfl (lv_at hl 2 rfl) ?_
        exact W.iret SS.1 SS.2.1 hr (fun t0 ht hW => ⟨_, rfl, ⟨t, rfl, (by omega)⟩, ht⟩) (fun _ h => nomatch h) dX7_lowestAt_63 hlk
      · skip
        refine lv_aload_n SS.1 SS.2.1 dX7_lowestAt_15 rfl (lv_at hl 0 rfl) ?_
        refine lv_iload_n SS.1 SS.2.1 dX7_lowestAt_16 rfl (lv_at hl 3 rfl) ?_
        refine j_vRi SS (As := [.int (J i)]) (rest := []) (c_X7_sideX l D q u r (by omega) K i (show 0 ≤ K ∧ K ≤ 80 from (p0)) (show RB K u r from (p1)) (show -1000 ≤ i ∧ i ≤ 1000 from (by omega))) mf_X7_sideX kw_529 hG hP hP (ci := 7) (q0 := (9 + 5 * r)) rfl (cw_ring (by omega)) rfl rfl hl.1 ⟨⟨Nat.le_of_ble_eq_true rfl, Nat.le_of_ble_eq_true rfl⟩, Nat.le_of_ble_eq_true rfl, Nat.le_refl _, Nat.le_refl _⟩ rfl dX7_lowestAt_17 (fun z_17 h_17 => ?_)
        have h_17 : z_17 = dX u r i ∧ -2 * K ≤ z_17 ∧ z_17 ≤ 2 * K := h_17
        refine lv_istore (lv' := [(4, .int (J z_17)), (0, .ref (q (9 + 5 * r))), (1, .int (J x)), (2, .int (J t)), (3, .int (J i))]) SS.1 SS.2.1 dX7_lowestAt_20 hl (by decide) rfl (fun ls hl => ?_)
        refine lv_iload SS.1 SS.2.1 dX7_lowestAt_22 (lv_at hl 0 rfl) ?_
        refine j_if_le SS (tgt := 56) (x := z_17) dX7_lowestAt_24 (by decide) (by omega) (fun c_24 => ?_) (fun c_24 => ?_)
        · skip
          refine lv_iinc (v := J (i + 1)) (lv' := [(3, .int (J (i + 1))), (4, .int (J z_17)), (0, .ref (q (9 + 5 * r))), (1, .int (J x)), (2, .int (J t))]) SS.1 SS.2.1 dX7_lowestAt_56 hl (k := 4) rfl (J_add _ _) (by decide) rfl (fun ls hl => ?_)
          refine lv_goto (tgt := 7) SS.1 SS.2.1 dX7_lowestAt_59 (by decide) ?_
          exact ih_7 t (i + 1) ls (lv_sub hl [2, 3, 4, 0] rfl) (by omega) (by omega) (by omega)
        · skip
          refine lv_iload_n SS.1 SS.2.1 dX7_lowestAt_27 rfl (lv_at hl 3 rfl) ?_
          refine lv_aload_n SS.1 SS.2.1 dX7_lowestAt_28 rfl (lv_at hl 1 rfl) ?_
          refine lv_iload_n SS.1 SS.2.1 dX7_lowestAt_29 rfl (lv_at hl 4 rfl) ?_
          refine j_uRi SS (As := [.int (J i)]) (rest := [.int (J t)]) (c_X8_y l D q u r (by omega) i (show -2147483648 ≤ i ∧ i ≤ 2147483647 from (by omega))) mu_7_y kw_503 hG hP hP (ci := 7) (q0 := (9 + 5 * r)) rfl (cw_ring (by omega)) rfl rfl hl.1 ⟨⟨Nat.le_of_ble_eq_true rfl, Nat.le_of_ble_eq_true rfl⟩, Nat.le_of_ble_eq_true rfl, Nat.le_refl _, Nat.le_refl _⟩ rfl dX7_lowestAt_30 (fun z_30 h_30 => ?_)
          have h_30 : z_30 = ry9 u r i ∧ ∀ K : Int, 0 ≤ K → RB K u r → -K ≤ z_30 ∧ z_30 ≤ K := h_30
          have hb_30 := h_30.2 K (by omega) (p1)
          refine lv_aload_n SS.1 SS.2.1 dX7_lowestAt_33 rfl (lv_at hl 1 rfl) ?_
          refine lv_iload_n SS.1 SS.2.1 dX7_lowestAt_34 rfl (lv_at hl 4 rfl) ?_
          refine j_uRi SS (As := [.int (J i)]) (rest := [.int (J z_30), .int (J t)]) (c_X8_x l D q u r (by omega) i (show -2147483648 ≤ i ∧ i ≤ 2147483647 from (by omega))) mu_7_x kw_501 hG hP hP (ci := 7) (q0 := (9 + 5 * r)) rfl (cw_ring (by omega)) rfl rfl hl.1 ⟨⟨Nat.le_of_ble_eq_true rfl, Nat.le_of_ble_eq_true rfl⟩, Nat.le_of_ble_eq_true rfl, Nat.le_refl _, Nat.le_refl _⟩ rfl dX7_lowestAt_35 (fun z_35 h_35 => ?_)
          have h_35 : z_35 = rx u r i ∧ ∀ K : Int, 0 ≤ K → RB K u r → -K ≤ z_35 ∧ z_35 ≤ K := h_35
          have hb_35 := h_35.2 K (by omega) (p1)
          refine lv_iload_n SS.1 SS.2.1 dX7_lowestAt_38 rfl (lv_at hl 2 rfl) ?_
          refine j_isub SS (x := z_35) (y := x) dX7_lowestAt_39 ?_
          refine lv_aload_n SS.1 SS.2.1 dX7_lowestAt_40 rfl (lv_at hl 1 rfl) ?_
          refine lv_iload_n SS.1 SS.2.1 dX7_lowestAt_41 rfl (lv_at hl 4 rfl) ?_
          refine j_vRi SS (As := [.int (J i)]) (rest := [.int (J (z_35 - x)), .int (J z_30), .int (J t)]) (c_X7_sideY l D q u r (by omega) K i (show 0 ≤ K ∧ K ≤ 80 from (p0)) (show RB K u r from (p1)) (show -1000 ≤ i ∧ i ≤ 1000 from (by omega))) mf_X7_sideY kw_521 hG hP hP (ci := 7) (q0 := (9 + 5 * r)) rfl (cw_ring (by omega)) rfl rfl hl.1 ⟨⟨Nat.le_of_ble_eq_true rfl, Nat.le_of_ble_eq_true rfl⟩, Nat.le_of_ble_eq_true rfl, Nat.le_refl _, Nat.le_refl _⟩ rfl dX7_lowestAt_42 (fun z_42 h_42 => ?_)
          have h_42 : z_42 = dY u r i ∧ -2 * K ≤ z_42 ∧ z_42 ≤ 2 * K := h_42
          refine j_imul SS (x := (z_35 - x)) (y := z_42) dX7_lowestAt_45 ?_
          have m0 := mulb (A := 280) (B := 160) (a := z_35 - x) (b := z_42) (by omega) (by omega)
          refine lv_iload SS.1 SS.2.1 dX7_lowestAt_46 (lv_at hl 0 rfl) ?_
          refine j_sRi SS (As := [.int (J ((z_35 - x) * z_42)), .int (J z_17)]) (rest := [.int (J z_30), .int (J t)]) (c_J9_floorDiv_7cf53 l D  ((z_35 - x) * z_42) z_17 (show -2147483648 < ((z_35 - x) * z_42) ∧ ((z_35 - x) * z_42) ≤ 2147483647 from (by omega)) (show 0 < z_17 ∧ z_17 ≤ 2147483647 from (by omega))) mf_J9_floorDiv_7cf53 kw_603 hG trivial rfl hl.1 ⟨⟨Nat.le_of_ble_eq_true rfl, Nat.le_of_ble_eq_true rfl⟩, Nat.le_of_ble_eq_true rfl, Nat.le_refl _, Nat.le_refl _⟩ rfl dX7_lowestAt_48 (fun z_48 h_48 => ?_)
          have h_48 : z_48 = ((z_35 - x) * z_42) / z_17 := h_48
          have m1 := mulb (A := 280) (B := 160) (a := z_35 - x) (b := z_42) (by omega) (by omega)
          have fb := fd_b (a := (z_35 - x) * z_42) (b := z_17) (K := 44800) (by omega) (by omega)
          rw [← h_48] at fb
          refine j_isub SS (x := z_30) (y := z_48) dX7_lowestAt_51 ?_
          refine j_sRi SS (As := [.int (J t), .int (J (z_30 - z_48))]) (rest := []) (c_J9_max_7cf53 l D  t (z_30 - z_48) (show -2147483648 ≤ t ∧ t ≤ 2147483647 from (by omega)) (show -2147483648 ≤ (z_30 - z_48) ∧ (z_30 - z_48) ≤ 2147483647 from (by omega))) mf_J9_max_7cf53 kw_593 hG trivial rfl hl.1 ⟨⟨Nat.le_of_ble_eq_true rfl, Nat.le_of_ble_eq_true rfl⟩, Nat.le_of_ble_eq_true rfl, Nat.le_refl _, Nat.le_refl _⟩ rfl dX7_lowestAt_52 (fun z_52 h_52 => ?_)
          have h_52 : (z_52 = t ∨ z_52 = (z_30 - z_48)) ∧ t ≤ z_52 ∧ (z_30 - z_48) ≤ z_52 := h_52
          refine lv_istore_n (lv' := [(2, .int (J z_52)), (4, .int (J z_17)), (0, .ref (q (9 + 5 * r))), (1, .int (J x)), (3, .int (J i))]) SS.1 SS.2.1 dX7_lowestAt_55 rfl hl (by decide) rfl (fun ls hl => ?_)
          refine lv_iinc (v := J (i + 1)) (lv' := [(3, .int (J (i + 1))), (2, .int (J z_52)), (4, .int (J z_17)), (0, .ref (q (9 + 5 * r))), (1, .int (J x))]) SS.1 SS.2.1 dX7_lowestAt_56 hl (k := 4) rfl (J_add _ _) (by decide) rfl (fun ls hl => ?_)
          refine lv_goto (tgt := 7) SS.1 SS.2.1 dX7_lowestAt_59 (by decide) ?_
          exact ih_7 z_52 (i + 1) ls (lv_sub hl [3, 4, 1, 0] rfl) (by omega) (by omega) (by omega)
  exact L_7 ((u.1.2.2.1 r - (0 : Int)).toNat + 1) z_1 0 ls (lv_sub hl [2, 3, 1, 0] rfl) (by omega) (by omega) (Nat.lt_succ_self _)

set_option maxHeartbeats 4000000 in
set_option maxRecDepth 100000 in
theorem c_X7_highestAt (l : Launch) (D : JD) (q : Nat → Nat) (u : CS) (r : Nat) (hr : r ≤ 8) (K : Int) (x : Int) (p0 : 0 ≤ K ∧ K ≤ 80) (p1 : RB K u r) (p2 : -200 ≤ x ∧ x ≤ 200) : Met l yX7_highestAt (jw yX7_highestAt cX7_highestAt 5 (some .int)) (jr 2 44) (jP [.ref (q (9 + 5 * r)), .int (J x)] D (fun H => va_P D.1 j_cl (cW D q u) H)) (jRi (fun z => -60000 ≤ z ∧ z ≤ K)) 0 0 (fun _ => False) := by
  refine Met.ofW (cc := cX7_highestAt) (maxL := 5) (ret := (some .int)) (by decide) rfl ?_
  intro pr en st mi args below meth co s₁ B hml hv
  obtain ⟨rfl, hG, hP⟩ := hv
  have hr := B.returns
  have hlk := B.notSynchronized
  have SS : jS pr mi co cX7_highestAt 5 st _ RX7 := ⟨B.exec, B.bytes, hml, findClass_of_methodNamed B.named, fun w hw => atoms_spec (ws := (jw yX7_highestAt cX7_highestAt 5 (some .int))) B.pre w (List.mem_cons_of_mem _ hw)⟩
  have hl := lv_entry ([.ref (q (9 + 5 * r)), .int (J x)]) (n := 5) (Nat.le_of_ble_eq_true rfl)
  rw [lg_entry_eq]
  generalize (lg_sl ([.ref (q (9 + 5 * r)), .int (J x)]) ++ List.replicate (5 - (lg_sl ([.ref (q (9 + 5 * r)), .int (J x)])).length) Slot.unset).toArray = ls at hl ⊢
  have hl : lv_has ls 5 [(0, .ref (q (9 + 5 * r))), (1, .int (J x))] := hl
  have hc := p1.1
  have hrl := rl_b r
  refine lv_aload_n SS.1 SS.2.1 dX7_highestAt_0 rfl (lv_at hl 0 rfl) ?_
  refine j_vRi SS (As := []) (rest := []) (c_X7_top l D q u r (by omega) K  (show 0 ≤ K ∧ K ≤ 80 from (p0)) (show RB K u r from (p1))) mf_X7_top kw_610 hG hP hP (ci := 7) (q0 := (9 + 5 * r)) rfl (cw_ring (by omega)) rfl rfl hl.1 ⟨⟨Nat.le_of_ble_eq_true rfl, Nat.le_of_ble_eq_true rfl⟩, Nat.le_of_ble_eq_true rfl, Nat.le_refl _, Nat.le_refl _⟩ rfl dX7_highestAt_1 (fun z_1 h_1 => ?_)
  have h_1 : -K ≤ z_1 ∧ z_1 ≤ K := h_1
  refine lv_istore_n (lv' := [(2, .int (J z_1)), (0, .ref (q (9 + 5 * r))), (1, .int (J x))]) SS.1 SS.2.1 dX7_highestAt_4 rfl hl (by decide) rfl (fun ls hl => ?_)
  refine j_iconst SS dX7_highestAt_5 ?_
  refine lv_istore_n (lv' := [(3, .int (J 0)), (2, .int (J z_1)), (0, .ref (q (9 + 5 * r))), (1, .int (J x))]) SS.1 SS.2.1 dX7_highestAt_6 rfl hl (by decide) rfl (fun ls hl => ?_)
  have L_7 : ∀ (nn : Nat) (t : Int) (i : Int) (ls : Array Slot) (hl : lv_has ls 5 [(0, .ref (q (9 + 5 * r))), (1, .int (J x)), (2, .int (J t)), (3, .int (J i))]) (i7_0 : 0 ≤ i ∧ i ≤ u.1.2.2.1 r) (i7_1 : -60000 ≤ t ∧ t ≤ K), (u.1.2.2.1 r - i).toNat < nn → W pr l en (headSpec (jw yX7_highestAt cX7_highestAt 5 (some .int)) (jr 2 44)).room st mi (([.ref (q (9 + 5 * r)), .int (J x)] : List Value).toArray) below meth co st.heap [] 0 0 (MQ below (jRi (fun z => -60000 ≤ z ∧ z ≤ K)) (([.ref (q (9 + 5 * r)), .int (J x)] : List Value).toArray) st 0 0 (fun _ => False)) (F0 mi 7 ls []) := by
    intro nn
    induction nn with
    | zero => intros; omega
    | succ nn ih_7 =>
      intro t i ls hl i7_0 i7_1 hm
      refine lv_iload_n SS.1 SS.2.1 dX7_highestAt_7 rfl (lv_at hl 3 rfl) ?_
      refine lv_aload_n SS.1 SS.2.1 dX7_highestAt_8 rfl (lv_at hl 0 rfl) ?_
      refine j_getS SS hG hP (9 + 5 * r) (v := .int (J (u.1.2.2.1 r))) (C := RX7) (T := TX7) (N := 3) (cw_ring (by omega)) rfl inX7 2 (by decide) (ref := "GridPolygons$Ring") kw_131 kw_132 rfl dX7_highestAt_9 ?_
      refine j_icmp_ge SS (tgt := 63) (x := i) (y := (u.1.2.2.1 r)) dX7_highestAt_12 (by decide) (by omega) (by omega) (fun c_12 => ?_) (fun c_12 => ?_)
      · skip
        refine lv_iload_n SS.1 SS.2.1 dX7_highestAt_63 rfl (lv_at hl 2 rfl) ?_
        exact W.iret SS.1 SS.2.1 hr (fun t0 ht hW => ⟨_, rfl, ⟨t, rfl, (by omega)⟩, ht⟩) (fun _ h => nomatch h) dX7_highestAt_64 hlk
      · skip
        refine lv_aload_n SS.1 SS.2.1 dX7_highestAt_15 rfl (lv_at hl 0 rfl) ?_
        refine lv_iload_n SS.1 SS.2.1 dX7_highestAt_16 rfl (lv_at hl 3 rfl) ?_
        refine j_vRi SS (As := [.int (J i)]) (rest := []) (c_X7_sideX l D q u r (by omega) K i (show 0 ≤ K ∧ K ≤ 80 from (p0)) (show RB K u r from (p1)) (show -1000 ≤ i ∧ i ≤ 1000 from (by omega))) mf_X7_sideX kw_529 hG hP hP (ci := 7) (q0 := (9 + 5 * r)) rfl (cw_ring (by omega)) rfl rfl hl.1 ⟨⟨Nat.le_of_ble_eq_true rfl, Nat.le_of_ble_eq_true rfl⟩, Nat.le_of_ble_eq_true rfl, Nat.le_refl _, Nat.le_refl _⟩ rfl dX7_highestAt_17 (fun z_17 h_17 => ?_)
        have h_17 : z_17 = dX u r i ∧ -2 * K ≤ z_17 ∧ z_17 ≤ 2 * K := h_17
        refine j_ineg SS dX7_highestAt_20 ?_
        refine lv_istore (lv' := [(4, .int (J (-z_17))), (0, .ref (q (9 + 5 * r))), (1, .int (J x)), (2, .int (J t)), (3, .int (J i))]) SS.1 SS.2.1 dX7_highestAt_21 hl (by decide) rfl (fun ls hl => ?_)
        refine lv_iload SS.1 SS.2.1 dX7_highestAt_23 (lv_at hl 0 rfl) ?_
        refine j_if_le SS (tgt := 57) (x := (-z_17)) dX7_highestAt_25 (by decide) (by omega) (fun c_25 => ?_) (fun c_25 => ?_)
        · skip
          refine lv_iinc (v := J (i + 1)) (lv' := [(3, .int (J (i + 1))), (4, .int (J (-z_17))), (0, .ref (q (9 + 5 * r))), (1, .int (J x)), (2, .int (J t))]) SS.1 SS.2.1 dX7_highestAt_57 hl (k := 4) rfl (J_add _ _) (by decide) rfl (fun ls hl => ?_)
          refine lv_goto (tgt := 7) SS.1 SS.2.1 dX7_highestAt_60 (by decide) ?_
          exact ih_7 t (i + 1) ls (lv_sub hl [2, 3, 4, 0] rfl) (by omega) (by omega) (by omega)
        · skip
          refine lv_iload_n SS.1 SS.2.1 dX7_highestAt_28 rfl (lv_at hl 3 rfl) ?_
          refine lv_aload_n SS.1 SS.2.1 dX7_highestAt_29 rfl (lv_at hl 1 rfl) ?_
          refine lv_iload_n SS.1 SS.2.1 dX7_highestAt_30 rfl (lv_at hl 4 rfl) ?_
          refine j_uRi SS (As := [.int (J i)]) (rest := [.int (J t)]) (c_X8_y l D q u r (by omega) i (show -2147483648 ≤ i ∧ i ≤ 2147483647 from (by omega))) mu_7_y kw_503 hG hP hP (ci := 7) (q0 := (9 + 5 * r)) rfl (cw_ring (by omega)) rfl rfl hl.1 ⟨⟨Nat.le_of_ble_eq_true rfl, Nat.le_of_ble_eq_true rfl⟩, Nat.le_of_ble_eq_true rfl, Nat.le_refl _, Nat.le_refl _⟩ rfl dX7_highestAt_31 (fun z_31 h_31 => ?_)
          have h_31 : z_31 = ry9 u r i ∧ ∀ K : Int, 0 ≤ K → RB K u r → -K ≤ z_31 ∧ z_31 ≤ K := h_31
          have hb_31 := h_31.2 K (by omega) (p1)
          refine lv_aload_n SS.1 SS.2.1 dX7_highestAt_34 rfl (lv_at hl 1 rfl) ?_
          refine lv_iload_n SS.1 SS.2.1 dX7_highestAt_35 rfl (lv_at hl 4 rfl) ?_
          refine j_uRi SS (As := [.int (J i)]) (rest := [.int (J z_31), .int (J t)]) (c_X8_x l D q u r (by omega) i (show -2147483648 ≤ i ∧ i ≤ 2147483647 from (by omega))) mu_7_x kw_501 hG hP hP (ci := 7) (q0 := (9 + 5 * r)) rfl (cw_ring (by omega)) rfl rfl hl.1 ⟨⟨Nat.le_of_ble_eq_true rfl, Nat.le_of_ble_eq_true rfl⟩, Nat.le_of_ble_eq_true rfl, Nat.le_refl _, Nat.le_refl _⟩ rfl dX7_highestAt_36 (fun z_36 h_36 => ?_)
          have h_36 : z_36 = rx u r i ∧ ∀ K : Int, 0 ≤ K → RB K u r → -K ≤ z_36 ∧ z_36 ≤ K := h_36
          have hb_36 := h_36.2 K (by omega) (p1)
          refine lv_iload_n SS.1 SS.2.1 dX7_highestAt_39 rfl (lv_at hl 2 rfl) ?_
          refine j_isub SS (x := z_36) (y := x) dX7_highestAt_40 ?_
          refine lv_aload_n SS.1 SS.2.1 dX7_highestAt_41 rfl (lv_at hl 1 rfl) ?_
          refine lv_iload_n SS.1 SS.2.1 dX7_highestAt_42 rfl (lv_at hl 4 rfl) ?_
          refine j_vRi SS (As := [.int (J i)]) (rest := [.int (J (z_36 - x)), .int (J z_31), .int (J t)]) (c_X7_sideY l D q u r (by omega) K i (show 0 ≤ K ∧ K ≤ 80 from (p0)) (show RB K u r from (p1)) (show -1000 ≤ i ∧ i ≤ 1000 from (by omega))) mf_X7_sideY kw_521 hG hP hP (ci := 7) (q0 := (9 + 5 * r)) rfl (cw_ring (by omega)) rfl rfl hl.1 ⟨⟨Nat.le_of_ble_eq_true rfl, Nat.le_of_ble_eq_true rfl⟩, Nat.le_of_ble_eq_true rfl, Nat.le_refl _, Nat.le_refl _⟩ rfl dX7_highestAt_43 (fun z_43 h_43 => ?_)
          have h_43 : z_43 = dY u r i ∧ -2 * K ≤ z_43 ∧ z_43 ≤ 2 * K := h_43
          refine j_imul SS (x := (z_36 - x)) (y := z_43) dX7_highestAt_46 ?_
          have m0 := mulb (A := 280) (B := 160) (a := z_36 - x) (b := z_43) (by omega) (by omega)
          refine lv_iload SS.1 SS.2.1 dX7_highestAt_47 (lv_at hl 0 rfl) ?_
          refine j_sRi SS (As := [.int (J ((z_36 - x) * z_43)), .int (J (-z_17))]) (rest := [.int (J z_31), .int (J t)]) (c_J9_floorDiv_7cf53 l D  ((z_36 - x) * z_43) (-z_17) (show -2147483648 < ((z_36 - x) * z_43) ∧ ((z_36 - x) * z_43) ≤ 2147483647 from (by omega)) (show 0 < (-z_17) ∧ (-z_17) ≤ 2147483647 from (by omega))) mf_J9_floorDiv_7cf53 kw_603 hG trivial rfl hl.1 ⟨⟨Nat.le_of_ble_eq_true rfl, Nat.le_of_ble_eq_true rfl⟩, Nat.le_of_ble_eq_true rfl, Nat.le_refl _, Nat.le_refl _⟩ rfl dX7_highestAt_49 (fun z_49 h_49 => ?_)
          have h_49 : z_49 = ((z_36 - x) * z_43) / (-z_17) := h_49
          have m1 := mulb (A := 280) (B := 160) (a := z_36 - x) (b := z_43) (by omega) (by omega)
          have fb := fd_b (a := (z_36 - x) * z_43) (b := (-z_17)) (K := 44800) (by omega) (by omega)
          rw [← h_49] at fb
          refine j_iadd SS (x := z_31) (y := z_49) dX7_highestAt_52 ?_
          refine j_sRi SS (As := [.int (J t), .int (J (z_31 + z_49))]) (rest := []) (c_J9_min_7cf53 l D  t (z_31 + z_49) (show -2147483648 ≤ t ∧ t ≤ 2147483647 from (by omega)) (show -2147483648 ≤ (z_31 + z_49) ∧ (z_31 + z_49) ≤ 2147483647 from (by omega))) mf_J9_min_7cf53 kw_602 hG trivial rfl hl.1 ⟨⟨Nat.le_of_ble_eq_true rfl, Nat.le_of_ble_eq_true rfl⟩, Nat.le_of_ble_eq_true rfl, Nat.le_refl _, Nat.le_refl _⟩ rfl dX7_highestAt_53 (fun z_53 h_53 => ?_)
          have h_53 : (z_53 = t ∨ z_53 = (z_31 + z_49)) ∧ z_53 ≤ t ∧ z_53 ≤ (z_31 + z_49) := h_53
          refine lv_istore_n (lv' := [(2, .int (J z_53)), (4, .int (J (-z_17))), (0, .ref (q (9 + 5 * r))), (1, .int (J x)), (3, .int (J i))]) SS.1 SS.2.1 dX7_highestAt_56 rfl hl (by decide) rfl (fun ls hl => ?_)
          refine lv_iinc (v := J (i + 1)) (lv' := [(3, .int (J (i + 1))), (2, .int (J z_53)), (4, .int (J (-z_17))), (0, .ref (q (9 + 5 * r))), (1, .int (J x))]) SS.1 SS.2.1 dX7_highestAt_57 hl (k := 4) rfl (J_add _ _) (by decide) rfl (fun ls hl => ?_)
          refine lv_goto (tgt := 7) SS.1 SS.2.1 dX7_highestAt_60 (by decide) ?_
          exact ih_7 z_53 (i + 1) ls (lv_sub hl [3, 4, 1, 0] rfl) (by omega) (by omega) (by omega)
  exact L_7 ((u.1.2.2.1 r - (0 : Int)).toNat + 1) z_1 0 ls (lv_sub hl [2, 3, 1, 0] rfl) (by omega) (by omega) (Nat.lt_succ_self _)

