
set_option maxHeartbeats 4000000 in
set_option maxRecDepth 100000 in
theorem c_X9_walk (l : Launch) (D : JD) (q : Nat → Nat) (u : CS) (A : Nat → Prop) (hD : va_D A (cW D q u)) (a : Int) (b : Int) (c : Int) (d : Int) (w : Int) (p0 : -40 ≤ a ∧ a ≤ 40) (p1 : -40 ≤ b ∧ b ≤ 40) (p2 : -40 ≤ c ∧ c ≤ 40) (p3 : -40 ≤ d ∧ d ≤ 40) (p4 : 0 < cx a b c d) (p5 : -2147483648 ≤ w ∧ w ≤ 2147483647) : Met l yX9_walk (jw yX9_walk cX9_walk 20 none) (jr 2 50) (jP [.ref (q 4), .int (J a), .int (J b), .int (J c), .int (J d), .int (J w)] D (fun H => va_P D.1 j_cl (cW D q u) H)) (jWv (fun u' => ∃ cn : Int, ∃ x1 : Int, ∃ y1 : Int, ∃ b1 : Int, ∃ sx : Int, ∃ sy : Int, u' = (sV (sV (sV (sV (sV (sV u 4 cn) 5 x1) 6 y1) 7 b1) 8 sx) 9 sy) ∧ (wk a b c d w cn x1 y1 b1)) (fun u' H => va_P D.1 j_cl (cW D q u') H) A) 0 0 A := by
  refine Met.ofW (cc := cX9_walk) (maxL := 20) (ret := none) (by decide) rfl ?_
  intro pr en st mi args below meth co s₁ B hml hv
  obtain ⟨rfl, hG, hP⟩ := hv
  have hr := B.returns
  have hlk := B.notSynchronized
  have SS : jS pr mi co cX9_walk 20 st _ RX9 := ⟨B.exec, B.bytes, hml, findClass_of_methodNamed B.named, fun w hw => atoms_spec (ws := (jw yX9_walk cX9_walk 20 none)) B.pre w (List.mem_cons_of_mem _ hw)⟩
  have hl := lv_entry ([.ref (q 4), .int (J a), .int (J b), .int (J c), .int (J d), .int (J w)]) (n := 20) (Nat.le_of_ble_eq_true rfl)
  rw [lg_entry_eq]
  generalize (lg_sl ([.ref (q 4), .int (J a), .int (J b), .int (J c), .int (J d), .int (J w)]) ++ List.replicate (20 - (lg_sl ([.ref (q 4), .int (J a), .int (J b), .int (J c), .int (J d), .int (J w)])).length) Slot.unset).toArray = ls at hl ⊢
  have hl : lv_has ls 20 [(0, .ref (q 4)), (1, .int (J a)), (2, .int (J b)), (3, .int (J c)), (4, .int (J d)), (5, .int (J w))] := hl
  have hS : va_S A st.heap st.heap [] := va_S.rf
  have hab : a ≠ 0 ∨ b ≠ 0 := by by_cases e : a = 0 ∧ b = 0; (rw [e.1, e.2] at p4; unfold cx at p4; omega); omega
  have hcd : c ≠ 0 ∨ d ≠ 0 := by by_cases e : c = 0 ∧ d = 0; (rw [e.1, e.2] at p4; unfold cx at p4; omega); omega
  refine lv_iload_n SS.1 SS.2.1 dX9_walk_0 rfl (lv_at hl 1 rfl) ?_
  refine lv_iload_n SS.1 SS.2.1 dX9_walk_1 rfl (lv_at hl 2 rfl) ?_
  refine j_nRi SS (As := [.int (J a), .int (J b)]) (rest := []) (c_X11_gcd l D  a b (show -100000 ≤ a ∧ a ≤ 100000 from (by omega)) (show -100000 ≤ b ∧ b ≤ 100000 from (by omega))) mf_X11_gcd hG.2.2.2.1 hG trivial rfl hl.1 ⟨⟨Nat.le_of_ble_eq_true rfl, Nat.le_of_ble_eq_true rfl⟩, Nat.le_of_ble_eq_true rfl, Nat.le_refl _, Nat.le_refl _⟩ rfl dX9_walk_2 (fun z_2 h_2 => ?_)
  have h_2 : z_2 = (Int.gcd a b : Int) := h_2
  have hg1 := gcd_p hab
  rw [← h_2] at hg1
  have hg2 := gcd_b p0 p1
  rw [← h_2] at hg2
  refine lv_istore (lv' := [(6, .int (J z_2)), (0, .ref (q 4)), (1, .int (J a)), (2, .int (J b)), (3, .int (J c)), (4, .int (J d)), (5, .int (J w))]) SS.1 SS.2.1 dX9_walk_5 hl (by decide) rfl (fun ls hl => ?_)
  refine lv_iload_n SS.1 SS.2.1 dX9_walk_7 rfl (lv_at hl 4 rfl) ?_
  refine lv_iload SS.1 SS.2.1 dX9_walk_8 (lv_at hl 5 rfl) ?_
  refine j_nRi SS (As := [.int (J c), .int (J d)]) (rest := []) (c_X11_gcd l D  c d (show -100000 ≤ c ∧ c ≤ 100000 from (by omega)) (show -100000 ≤ d ∧ d ≤ 100000 from (by omega))) mf_X11_gcd hG.2.2.2.1 hG trivial rfl hl.1 ⟨⟨Nat.le_of_ble_eq_true rfl, Nat.le_of_ble_eq_true rfl⟩, Nat.le_of_ble_eq_true rfl, Nat.le_refl _, Nat.le_refl _⟩ rfl dX9_walk_10 (fun z_10 h_10 => ?_)
  have h_10 : z_10 = (Int.gcd c d : Int) := h_10
  have hg3 := gcd_p hcd
  rw [← h_10] at hg3
  have hg4 := gcd_b p2 p3
  rw [← h_10] at hg4
  refine lv_istore (lv' := [(7, .int (J z_10)), (6, .int (J z_2)), (0, .ref (q 4)), (1, .int (J a)), (2, .int (J b)), (3, .int (J c)), (4, .int (J d)), (5, .int (J w))]) SS.1 SS.2.1 dX9_walk_13 hl (by decide) rfl (fun ls hl => ?_)
  refine lv_aload_n SS.1 SS.2.1 dX9_walk_15 rfl (lv_at hl 2 rfl) ?_
  refine j_iconst SS dX9_walk_16 ?_
  refine j_put SS hG hP (cW_D hD) hS 4 (v := .int (J 0)) (ty := .int) (C := RX9) (T := TX9) (N := 6) rfl rfl inX9 tyX9 tyX9_ok nmX9 0 (by decide) (ref := "GridPolygons$Sail") kw_213 rfl rfl (by decide +kernel) rfl rfl (Nat.le_of_ble_eq_true rfl) dX9_walk_17 (ws' := (cW D q (sV u 4 0))) rfl (fun H locs hP hS => ?_)
  refine lv_iload SS.1 SS.2.1 dX9_walk_20 (lv_at hl 1 rfl) ?_
  refine j_if_eq SS (tgt := 30) (x := z_2) dX9_walk_22 (by decide) (by omega) (fun c_22 => ?_) (fun c_22 => ?_)
  · skip
    exfalso; omega
  · skip
    refine lv_iload SS.1 SS.2.1 dX9_walk_25 (lv_at hl 0 rfl) ?_
    refine j_if_ne SS (tgt := 31) (x := z_10) dX9_walk_27 (by decide) (by omega) (fun c_27 => ?_) (fun c_27 => ?_)
    · skip
      refine lv_iload_n SS.1 SS.2.1 dX9_walk_31 rfl (lv_at hl 3 rfl) ?_
      refine lv_iload SS.1 SS.2.1 dX9_walk_32 (lv_at hl 1 rfl) ?_
      refine j_idiv SS (x := a) (y := z_2) dX9_walk_34 (by omega) (by omega) (by omega) ?_
      obtain ⟨px0, epx0⟩ : ∃ z : Int, z = (Int.tdiv a z_2) := ⟨_, rfl⟩
      rw [← epx0]
      refine lv_istore (lv' := [(8, .int (J px0)), (7, .int (J z_10)), (6, .int (J z_2)), (0, .ref (q 4)), (1, .int (J a)), (2, .int (J b)), (3, .int (J c)), (4, .int (J d)), (5, .int (J w))]) SS.1 SS.2.1 dX9_walk_35 hl (by decide) rfl (fun ls hl => ?_)
      refine lv_iload_n SS.1 SS.2.1 dX9_walk_37 rfl (lv_at hl 5 rfl) ?_
      refine lv_iload SS.1 SS.2.1 dX9_walk_38 (lv_at hl 2 rfl) ?_
      refine j_idiv SS (x := b) (y := z_2) dX9_walk_40 (by omega) (by omega) (by omega) ?_
      obtain ⟨py0, epy0⟩ : ∃ z : Int, z = (Int.tdiv b z_2) := ⟨_, rfl⟩
      rw [← epy0]
      refine lv_istore (lv' := [(9, .int (J py0)), (8, .int (J px0)), (7, .int (J z_10)), (6, .int (J z_2)), (0, .ref (q 4)), (1, .int (J a)), (2, .int (J b)), (3, .int (J c)), (4, .int (J d)), (5, .int (J w))]) SS.1 SS.2.1 dX9_walk_41 hl (by decide) rfl (fun ls hl => ?_)
      refine lv_iload_n SS.1 SS.2.1 dX9_walk_43 rfl (lv_at hl 7 rfl) ?_
      refine lv_iload SS.1 SS.2.1 dX9_walk_44 (lv_at hl 2 rfl) ?_
      refine j_idiv SS (x := c) (y := z_10) dX9_walk_46 (by omega) (by omega) (by omega) ?_
      obtain ⟨tx, etx⟩ : ∃ z : Int, z = (Int.tdiv c z_10) := ⟨_, rfl⟩
      rw [← etx]
      refine lv_istore (lv' := [(10, .int (J tx)), (9, .int (J py0)), (8, .int (J px0)), (7, .int (J z_10)), (6, .int (J z_2)), (0, .ref (q 4)), (1, .int (J a)), (2, .int (J b)), (3, .int (J c)), (4, .int (J d)), (5, .int (J w))]) SS.1 SS.2.1 dX9_walk_47 hl (by decide) rfl (fun ls hl => ?_)
      refine lv_iload SS.1 SS.2.1 dX9_walk_49 (lv_at hl 9 rfl) ?_
      refine lv_iload SS.1 SS.2.1 dX9_walk_51 (lv_at hl 3 rfl) ?_
      refine j_idiv SS (x := d) (y := z_10) dX9_walk_53 (by omega) (by omega) (by omega) ?_
      obtain ⟨ty, ety⟩ : ∃ z : Int, z = (Int.tdiv d z_10) := ⟨_, rfl⟩
      rw [← ety]
      refine lv_istore (lv' := [(11, .int (J ty)), (10, .int (J tx)), (9, .int (J py0)), (8, .int (J px0)), (7, .int (J z_10)), (6, .int (J z_2)), (0, .ref (q 4)), (1, .int (J a)), (2, .int (J b)), (3, .int (J c)), (4, .int (J d)), (5, .int (J w))]) SS.1 SS.2.1 dX9_walk_54 hl (by decide) rfl (fun ls hl => ?_)
      have bp1 := td_b (b := z_2) p0
      have bp2 := td_b (b := z_2) p1
      have bt1 := td_b (b := z_10) p2
      have bt2 := td_b (b := z_10) p3
      rw [← epx0] at bp1
      rw [← epy0] at bp2
      rw [← etx] at bt1
      rw [← ety] at bt2
      have gp : Int.gcd px0 py0 = 1 := by rw [epx0, epy0, h_2]; exact gcd_div (by omega)
      have gt : Int.gcd tx ty = 1 := by rw [etx, ety, h_10]; exact gcd_div (by omega)
      have hpt : 0 < cx px0 py0 tx ty := by rw [epx0, epy0, etx, ety, h_2, h_10]; exact cx_div p4 (by omega) (by omega)
      refine lv_aload_n SS.1 SS.2.1 dX9_walk_56 rfl (lv_at hl 6 rfl) ?_
      refine lv_iload SS.1 SS.2.1 dX9_walk_57 (lv_at hl 3 rfl) ?_
      refine lv_iload SS.1 SS.2.1 dX9_walk_59 (lv_at hl 2 rfl) ?_
      refine j_ldc SS (-1000000) kw_840 dX9_walk_61 ?_
      refine lv_iload SS.1 SS.2.1 dX9_walk_63 (lv_at hl 11 rfl) ?_
      refine j_vWv SS (As := [.int (J px0), .int (J py0), .int (J (-1000000)), .int (J w)]) (rest := []) (c_X9_keep l D q (sV u 4 0) A (cW_D hD)  px0 py0 (-1000000) w (show 0 ≤ 0 ∧ 0 ≤ 100000 from (by omega)) (show -2147483648 ≤ w ∧ w ≤ 2147483647 from (p5))) mf_X9_keep kw_841 hG hP hP (ci := 9) (q0 := 4) rfl rfl rfl hS (fun _ h => h) rfl hl.1 ⟨⟨Nat.le_of_ble_eq_true rfl, Nat.le_of_ble_eq_true rfl⟩, Nat.le_of_ble_eq_true rfl, Nat.le_refl _, Nat.le_refl _⟩ rfl dX9_walk_65 (fun u65 H locs h_65 hP _ hS => ?_)
      obtain ⟨cn_65, x1_65, y1_65, b1_65, rfl, h_65⟩ := h_65
      have hP : va_P D.1 j_cl (cW D q (sV (sV (sV (sV u 4 cn_65) 5 x1_65) 6 y1_65) 7 b1_65)) H := hP
      have h_65 : cn_65 = 0 + 1 ∧ (0 = w → x1_65 = px0 ∧ y1_65 = py0 ∧ b1_65 = (-1000000 : Int)) ∧ (0 ≠ w → x1_65 = (u.2.2.2 5) ∧ y1_65 = (u.2.2.2 6) ∧ b1_65 = (u.2.2.2 7)) := h_65
      refine lv_aload_n SS.1 SS.2.1 dX9_walk_68 rfl (lv_at hl 6 rfl) ?_
      refine lv_iload SS.1 SS.2.1 dX9_walk_69 (lv_at hl 3 rfl) ?_
      refine lv_iload SS.1 SS.2.1 dX9_walk_71 (lv_at hl 2 rfl) ?_
      refine lv_iload SS.1 SS.2.1 dX9_walk_73 (lv_at hl 1 rfl) ?_
      refine lv_iload SS.1 SS.2.1 dX9_walk_75 (lv_at hl 0 rfl) ?_
      refine j_vWv SS (As := [.int (J px0), .int (J py0), .int (J tx), .int (J ty)]) (rest := []) (c_X9_findSecond l D q (sV (sV (sV (sV u 4 cn_65) 5 x1_65) 6 y1_65) 7 b1_65) A (cW_D hD)  px0 py0 tx ty (show -40 ≤ px0 ∧ px0 ≤ 40 from (bp1)) (show -40 ≤ py0 ∧ py0 ≤ 40 from (bp2)) (show -40 ≤ tx ∧ tx ≤ 40 from (bt1)) (show -40 ≤ ty ∧ ty ≤ 40 from (bt2)) (show Int.gcd px0 py0 = 1 from (gp)) (show 0 < cx px0 py0 tx ty from (hpt))) mf_X9_findSecond kw_845 hG hP hP (ci := 9) (q0 := 4) rfl rfl rfl hS (fun _ h => h) rfl hl.1 ⟨⟨Nat.le_of_ble_eq_true rfl, Nat.le_of_ble_eq_true rfl⟩, Nat.le_of_ble_eq_true rfl, Nat.le_refl _, Nat.le_refl _⟩ rfl dX9_walk_77 (fun u77 H locs h_77 hP _ hS => ?_)
      obtain ⟨sx_77, sy_77, rfl, h_77⟩ := h_77
      have hP : va_P D.1 j_cl (cW D q (sV (sV (sV (sV (sV (sV u 4 cn_65) 5 x1_65) 6 y1_65) 7 b1_65) 8 sx_77) 9 sy_77)) H := hP
      have h_77 : nx px0 py0 tx ty sx_77 sy_77 := h_77
      refine lv_aload_n SS.1 SS.2.1 dX9_walk_80 rfl (lv_at hl 6 rfl) ?_
      refine j_get SS hG hP 4 (v := .int (J sx_77)) (C := RX9) (T := TX9) (N := 6) rfl rfl inX9 4 (by decide) (ref := "GridPolygons$Sail") kw_221 rfl rfl dX9_walk_81 ?_
      refine lv_istore (lv' := [(12, .int (J sx_77)), (11, .int (J ty)), (10, .int (J tx)), (9, .int (J py0)), (8, .int (J px0)), (7, .int (J z_10)), (6, .int (J z_2)), (0, .ref (q 4)), (1, .int (J a)), (2, .int (J b)), (3, .int (J c)), (4, .int (J d)), (5, .int (J w))]) SS.1 SS.2.1 dX9_walk_84 hl (by decide) rfl (fun ls hl => ?_)
      refine lv_aload_n SS.1 SS.2.1 dX9_walk_86 rfl (lv_at hl 7 rfl) ?_
      refine j_get SS hG hP 4 (v := .int (J sy_77)) (C := RX9) (T := TX9) (N := 6) rfl rfl inX9 5 (by decide) (ref := "GridPolygons$Sail") kw_222 rfl rfl dX9_walk_87 ?_
      refine lv_istore (lv' := [(13, .int (J sy_77)), (12, .int (J sx_77)), (11, .int (J ty)), (10, .int (J tx)), (9, .int (J py0)), (8, .int (J px0)), (7, .int (J z_10)), (6, .int (J z_2)), (0, .ref (q 4)), (1, .int (J a)), (2, .int (J b)), (3, .int (J c)), (4, .int (J d)), (5, .int (J w))]) SS.1 SS.2.1 dX9_walk_90 hl (by decide) rfl (fun ls hl => ?_)
      have hsb := nx_b h_77 ⟨bp1, bp2⟩ ⟨bt1, bt2⟩
      have m1 := mulb (A := 40) (B := 40) bp1 bt2
      have m2 := mulb (A := 40) (B := 40) bp2 bt1
      refine lv_iload SS.1 SS.2.1 dX9_walk_92 (lv_at hl 5 rfl) ?_
      refine lv_iload SS.1 SS.2.1 dX9_walk_94 (lv_at hl 2 rfl) ?_
      refine j_imul SS (x := px0) (y := ty) dX9_walk_96 ?_
      refine lv_iload SS.1 SS.2.1 dX9_walk_97 (lv_at hl 4 rfl) ?_
      refine lv_iload SS.1 SS.2.1 dX9_walk_99 (lv_at hl 3 rfl) ?_
      refine j_imul SS (x := py0) (y := tx) dX9_walk_101 ?_
      refine j_isub SS (x := (px0 * ty)) (y := (py0 * tx)) dX9_walk_102 ?_
      obtain ⟨bf0, ebf0⟩ : ∃ z : Int, z = ((px0 * ty) - (py0 * tx)) := ⟨_, rfl⟩
      rw [← ebf0]
      refine lv_istore (lv' := [(14, .int (J bf0)), (13, .int (J sy_77)), (12, .int (J sx_77)), (11, .int (J ty)), (10, .int (J tx)), (9, .int (J py0)), (8, .int (J px0)), (7, .int (J z_10)), (6, .int (J z_2)), (0, .ref (q 4)), (1, .int (J a)), (2, .int (J b)), (3, .int (J c)), (4, .int (J d)), (5, .int (J w))]) SS.1 SS.2.1 dX9_walk_103 hl (by decide) rfl (fun ls hl => ?_)
      refine lv_iload SS.1 SS.2.1 dX9_walk_105 (lv_at hl 2 rfl) ?_
      refine lv_iload SS.1 SS.2.1 dX9_walk_107 (lv_at hl 3 rfl) ?_
      refine j_imul SS (x := sx_77) (y := ty) dX9_walk_109 ?_
      refine lv_iload SS.1 SS.2.1 dX9_walk_110 (lv_at hl 1 rfl) ?_
      refine lv_iload SS.1 SS.2.1 dX9_walk_112 (lv_at hl 4 rfl) ?_
      refine j_imul SS (x := sy_77) (y := tx) dX9_walk_114 ?_
      refine j_isub SS (x := (sx_77 * ty)) (y := (sy_77 * tx)) dX9_walk_115 ?_
      obtain ⟨rs0, ers0⟩ : ∃ z : Int, z = ((sx_77 * ty) - (sy_77 * tx)) := ⟨_, rfl⟩
      rw [← ers0]
      refine lv_istore (lv' := [(15, .int (J rs0)), (14, .int (J bf0)), (13, .int (J sy_77)), (12, .int (J sx_77)), (11, .int (J ty)), (10, .int (J tx)), (9, .int (J py0)), (8, .int (J px0)), (7, .int (J z_10)), (6, .int (J z_2)), (0, .ref (q 4)), (1, .int (J a)), (2, .int (J b)), (3, .int (J c)), (4, .int (J d)), (5, .int (J w))]) SS.1 SS.2.1 dX9_walk_116 hl (by decide) rfl (fun ls hl => ?_)
      refine j_iconst SS dX9_walk_118 ?_
      refine lv_istore (lv' := [(16, .int (J 0)), (15, .int (J rs0)), (14, .int (J bf0)), (13, .int (J sy_77)), (12, .int (J sx_77)), (11, .int (J ty)), (10, .int (J tx)), (9, .int (J py0)), (8, .int (J px0)), (7, .int (J z_10)), (6, .int (J z_2)), (0, .ref (q 4)), (1, .int (J a)), (2, .int (J b)), (3, .int (J c)), (4, .int (J d)), (5, .int (J w))]) SS.1 SS.2.1 dX9_walk_119 hl (by decide) rfl (fun ls hl => ?_)
      have L_121 : ∀ (nn : Nat) (px : Int) (py : Int) (wx : Int) (wy : Int) (bf : Int) (rs : Int) (i : Int) (cn : Int) (x1 : Int) (y1 : Int) (b1 : Int) (H : Heap) (locs : List Loc) (hP : va_P D.1 j_cl (cW D q (sV (sV (sV (sV (sV (sV u 4 cn) 5 x1) 6 y1) 7 b1) 8 sx_77) 9 sy_77)) H) (hS : va_S A st.heap H locs) (ls : Array Slot) (hl : lv_has ls 20 [(0, .ref (q 4)), (1, .int (J a)), (2, .int (J b)), (3, .int (J c)), (4, .int (J d)), (5, .int (J w)), (8, .int (J px)), (9, .int (J py)), (10, .int (J tx)), (11, .int (J ty)), (12, .int (J wx)), (13, .int (J wy)), (14, .int (J bf)), (15, .int (J rs)), (16, .int (J i))]) (i121_0 : (0 ≤ i ∧ i + rs ≤ 3200) ∧ cn = i + 1) (i121_1 : SW px0 py0 tx ty cn px py wx wy w x1 y1 b1) (i121_2 : bf = cx px py tx ty ∧ rs = cx wx wy tx ty), rs.toNat < nn → W pr l en (headSpec (jw yX9_walk cX9_walk 20 none) (jr 2 50)).room st mi (([.ref (q 4), .int (J a), .int (J b), .int (J c), .int (J d), .int (J w)] : List Value).toArray) below meth co H locs 0 0 (MQ below (jWv (fun u' => ∃ cn : Int, ∃ x1 : Int, ∃ y1 : Int, ∃ b1 : Int, ∃ sx : Int, ∃ sy : Int, u' = (sV (sV (sV (sV (sV (sV u 4 cn) 5 x1) 6 y1) 7 b1) 8 sx) 9 sy) ∧ (wk a b c d w cn x1 y1 b1)) (fun u' H => va_P D.1 j_cl (cW D q u') H) A) (([.ref (q 4), .int (J a), .int (J b), .int (J c), .int (J d), .int (J w)] : List Value).toArray) st 0 0 A) (F0 mi 121 ls []) := by
        intro nn
        induction nn with
        | zero => intros; omega
        | succ nn ih_121 =>
          intro px py wx wy bf rs i cn x1 y1 b1 H locs hP hS ls hl i121_0 i121_1 i121_2 hm
          have hsw := SW_nx i121_1
          have hr0 : 0 ≤ rs := by have := hsw.1.2.1; omega
          have hr1 : rs < bf := by have := hsw.1.2.2; omega
          refine lv_iload SS.1 SS.2.1 dX9_walk_121 (lv_at hl 14 rfl) ?_
          refine j_sipush SS dX9_walk_123 (by decide +kernel) ?_
          refine j_icmp_ge SS (tgt := 216) (x := i) (y := 25921) dX9_walk_126 (by decide) (by omega) (by decide) (fun c_126 => ?_) (fun c_126 => ?_)
          · skip
            refine lv_aload_n SS.1 SS.2.1 dX9_walk_216 rfl (lv_at hl 0 rfl) ?_
            refine lv_iload SS.1 SS.2.1 dX9_walk_217 (lv_at hl 8 rfl) ?_
            refine lv_iload SS.1 SS.2.1 dX9_walk_219 (lv_at hl 9 rfl) ?_
            refine j_ldc SS (-1000000) kw_840 dX9_walk_221 ?_
            refine lv_iload SS.1 SS.2.1 dX9_walk_223 (lv_at hl 5 rfl) ?_
            refine j_vWv SS (As := [.int (J tx), .int (J ty), .int (J (-1000000)), .int (J w)]) (rest := []) (c_X9_keep l D q (sV (sV (sV (sV (sV (sV u 4 cn) 5 x1) 6 y1) 7 b1) 8 sx_77) 9 sy_77) A (cW_D hD)  tx ty (-1000000) w (show 0 ≤ cn ∧ cn ≤ 100000 from (by omega)) (show -2147483648 ≤ w ∧ w ≤ 2147483647 from (p5))) mf_X9_keep kw_841 hG hP hP (ci := 9) (q0 := 4) rfl rfl rfl hS (fun _ h => h) rfl hl.1 ⟨⟨Nat.le_of_ble_eq_true rfl, Nat.le_of_ble_eq_true rfl⟩, Nat.le_of_ble_eq_true rfl, Nat.le_refl _, Nat.le_refl _⟩ rfl dX9_walk_225 (fun u225 H locs h_225 hP _ hS => ?_)
            obtain ⟨cn_225, x1_225, y1_225, b1_225, rfl, h_225⟩ := h_225
            have hP : va_P D.1 j_cl (cW D q (sV (sV (sV (sV (sV (sV u 4 cn_225) 5 x1_225) 6 y1_225) 7 b1_225) 8 sx_77) 9 sy_77)) H := hP
            have h_225 : cn_225 = cn + 1 ∧ (cn = w → x1_225 = tx ∧ y1_225 = ty ∧ b1_225 = (-1000000 : Int)) ∧ (cn ≠ w → x1_225 = x1 ∧ y1_225 = y1 ∧ b1_225 = b1) := h_225
            exact W.vret SS.1 SS.2.1 hr (fun t0 ht hW => ⟨⟨(sV (sV (sV (sV (sV (sV u 4 cn_225) 5 x1_225) 6 y1_225) 7 b1_225) 8 sx_77) 9 sy_77), rfl, (⟨cn_225, x1_225, y1_225, b1_225, sx_77, sy_77, rfl, by rw [show cn_225 = cn + 1 from h_225.1]; rw [epx0, epy0, etx, ety, h_2, h_10] at i121_1; rw [etx, ety, h_10] at gt i121_2 h_225; exact SW_e (by omega) gt i121_1 (by rw [← i121_2.2]; omega) (fun e => h_225.2.1 e) (fun e => h_225.2.2 e)⟩), by show va_P D.1 j_cl (cW D q (sV (sV (sV (sV (sV (sV u 4 cn_225) 5 x1_225) 6 y1_225) 7 b1_225) 8 sx_77) 9 sy_77)) t0.heap; rw [ht]; first | exact hP | (simp only [sC_id, sX_id, sY_id, sH_id, sT_id, sV_id]; exact hP)⟩, hS.F ht⟩) hS.2.2 dX9_walk_228 hlk
          · skip
            refine lv_iload SS.1 SS.2.1 dX9_walk_129 (lv_at hl 13 rfl) ?_
            refine j_if_le SS (tgt := 216) (x := rs) dX9_walk_131 (by decide) (by omega) (fun c_131 => ?_) (fun c_131 => ?_)
            · skip
              refine lv_aload_n SS.1 SS.2.1 dX9_walk_216 rfl (lv_at hl 0 rfl) ?_
              refine lv_iload SS.1 SS.2.1 dX9_walk_217 (lv_at hl 8 rfl) ?_
              refine lv_iload SS.1 SS.2.1 dX9_walk_219 (lv_at hl 9 rfl) ?_
              refine j_ldc SS (-1000000) kw_840 dX9_walk_221 ?_
              refine lv_iload SS.1 SS.2.1 dX9_walk_223 (lv_at hl 5 rfl) ?_
              refine j_vWv SS (As := [.int (J tx), .int (J ty), .int (J (-1000000)), .int (J w)]) (rest := []) (c_X9_keep l D q (sV (sV (sV (sV (sV (sV u 4 cn) 5 x1) 6 y1) 7 b1) 8 sx_77) 9 sy_77) A (cW_D hD)  tx ty (-1000000) w (show 0 ≤ cn ∧ cn ≤ 100000 from (by omega)) (show -2147483648 ≤ w ∧ w ≤ 2147483647 from (p5))) mf_X9_keep kw_841 hG hP hP (ci := 9) (q0 := 4) rfl rfl rfl hS (fun _ h => h) rfl hl.1 ⟨⟨Nat.le_of_ble_eq_true rfl, Nat.le_of_ble_eq_true rfl⟩, Nat.le_of_ble_eq_true rfl, Nat.le_refl _, Nat.le_refl _⟩ rfl dX9_walk_225 (fun u225 H locs h_225 hP _ hS => ?_)
              obtain ⟨cn_225, x1_225, y1_225, b1_225, rfl, h_225⟩ := h_225
              have hP : va_P D.1 j_cl (cW D q (sV (sV (sV (sV (sV (sV u 4 cn_225) 5 x1_225) 6 y1_225) 7 b1_225) 8 sx_77) 9 sy_77)) H := hP
              have h_225 : cn_225 = cn + 1 ∧ (cn = w → x1_225 = tx ∧ y1_225 = ty ∧ b1_225 = (-1000000 : Int)) ∧ (cn ≠ w → x1_225 = x1 ∧ y1_225 = y1 ∧ b1_225 = b1) := h_225
              exact W.vret SS.1 SS.2.1 hr (fun t0 ht hW => ⟨⟨(sV (sV (sV (sV (sV (sV u 4 cn_225) 5 x1_225) 6 y1_225) 7 b1_225) 8 sx_77) 9 sy_77), rfl, (⟨cn_225, x1_225, y1_225, b1_225, sx_77, sy_77, rfl, by rw [show cn_225 = cn + 1 from h_225.1]; rw [epx0, epy0, etx, ety, h_2, h_10] at i121_1; rw [etx, ety, h_10] at gt i121_2 h_225; exact SW_e (by omega) gt i121_1 (by rw [← i121_2.2]; omega) (fun e => h_225.2.1 e) (fun e => h_225.2.2 e)⟩), by show va_P D.1 j_cl (cW D q (sV (sV (sV (sV (sV (sV u 4 cn_225) 5 x1_225) 6 y1_225) 7 b1_225) 8 sx_77) 9 sy_77)) t0.heap; rw [ht]; first | exact hP | (simp only [sC_id, sX_id, sY_id, sH_id, sT_id, sV_id]; exact hP)⟩, hS.F ht⟩) hS.2.2 dX9_walk_228 hlk
            · skip
              have hb2 := mulb (A := 40) (B := 40) hsw.2.1.1 bt2
              have hb3 := mulb (A := 40) (B := 40) hsw.2.1.2 bt1
              have hbf : bf = px * ty - py * tx := i121_2.1
              refine lv_iload SS.1 SS.2.1 dX9_walk_134 (lv_at hl 12 rfl) ?_
              refine j_ineg SS dX9_walk_136 ?_
              refine lv_iload SS.1 SS.2.1 dX9_walk_137 (lv_at hl 13 rfl) ?_
              refine j_sRi SS (As := [.int (J (-bf)), .int (J rs)]) (rest := []) (c_J9_floorDiv_7cf53 l D  (-bf) rs (show -2147483648 < (-bf) ∧ (-bf) ≤ 2147483647 from (by omega)) (show 0 < rs ∧ rs ≤ 2147483647 from (by omega))) mf_J9_floorDiv_7cf53 kw_850 hG trivial rfl hl.1 ⟨⟨Nat.le_of_ble_eq_true rfl, Nat.le_of_ble_eq_true rfl⟩, Nat.le_of_ble_eq_true rfl, Nat.le_refl _, Nat.le_refl _⟩ rfl dX9_walk_139 (fun z_139 h_139 => ?_)
              have h_139 : z_139 = (-bf) / rs := h_139
              refine j_ineg SS dX9_walk_142 ?_
              obtain ⟨mq, emq⟩ : ∃ z : Int, z = (-z_139) := ⟨_, rfl⟩
              rw [← emq]
              refine lv_istore (lv' := [(17, .int (J mq)), (0, .ref (q 4)), (1, .int (J a)), (2, .int (J b)), (3, .int (J c)), (4, .int (J d)), (5, .int (J w)), (8, .int (J px)), (9, .int (J py)), (10, .int (J tx)), (11, .int (J ty)), (12, .int (J wx)), (13, .int (J wy)), (14, .int (J bf)), (15, .int (J rs)), (16, .int (J i))]) SS.1 SS.2.1 dX9_walk_143 hl (by decide) rfl (fun ls hl => ?_)
              have hmq : mq = -((-bf) / rs) := by rw [emq, h_139]
              have hmc := mu_c (by omega) hmq
              refine lv_aload_n SS.1 SS.2.1 dX9_walk_145 rfl (lv_at hl 1 rfl) ?_
              refine lv_iload SS.1 SS.2.1 dX9_walk_146 (lv_at hl 11 rfl) ?_
              refine lv_iload SS.1 SS.2.1 dX9_walk_148 (lv_at hl 12 rfl) ?_
              refine lv_iload SS.1 SS.2.1 dX9_walk_150 (lv_at hl 0 rfl) ?_
              refine lv_iload SS.1 SS.2.1 dX9_walk_152 (lv_at hl 6 rfl) ?_
              refine j_vWv SS (As := [.int (J wx), .int (J wy), .int (J mq), .int (J w)]) (rest := []) (c_X9_keep l D q (sV (sV (sV (sV (sV (sV u 4 cn) 5 x1) 6 y1) 7 b1) 8 sx_77) 9 sy_77) A (cW_D hD)  wx wy mq w (show 0 ≤ cn ∧ cn ≤ 100000 from (by omega)) (show -2147483648 ≤ w ∧ w ≤ 2147483647 from (p5))) mf_X9_keep kw_841 hG hP hP (ci := 9) (q0 := 4) rfl rfl rfl hS (fun _ h => h) rfl hl.1 ⟨⟨Nat.le_of_ble_eq_true rfl, Nat.le_of_ble_eq_true rfl⟩, Nat.le_of_ble_eq_true rfl, Nat.le_refl _, Nat.le_refl _⟩ rfl dX9_walk_154 (fun u154 H locs h_154 hP _ hS => ?_)
              obtain ⟨cn_154, x1_154, y1_154, b1_154, rfl, h_154⟩ := h_154
              have hP : va_P D.1 j_cl (cW D q (sV (sV (sV (sV (sV (sV u 4 cn_154) 5 x1_154) 6 y1_154) 7 b1_154) 8 sx_77) 9 sy_77)) H := hP
              have h_154 : cn_154 = cn + 1 ∧ (cn = w → x1_154 = wx ∧ y1_154 = wy ∧ b1_154 = mq) ∧ (cn ≠ w → x1_154 = x1 ∧ y1_154 = y1 ∧ b1_154 = b1) := h_154
              refine lv_iload SS.1 SS.2.1 dX9_walk_157 (lv_at hl 0 rfl) ?_
              refine lv_iload SS.1 SS.2.1 dX9_walk_159 (lv_at hl 11 rfl) ?_
              refine j_imul SS (x := mq) (y := wx) dX9_walk_161 ?_
              refine lv_iload SS.1 SS.2.1 dX9_walk_162 (lv_at hl 7 rfl) ?_
              refine j_isub SS (x := (mq * wx)) (y := px) dX9_walk_164 ?_
              obtain ⟨nx1, enx1⟩ : ∃ z : Int, z = ((mq * wx) - px) := ⟨_, rfl⟩
              rw [← enx1]
              refine lv_istore (lv' := [(18, .int (J nx1)), (17, .int (J mq)), (0, .ref (q 4)), (1, .int (J a)), (2, .int (J b)), (3, .int (J c)), (4, .int (J d)), (5, .int (J w)), (8, .int (J px)), (9, .int (J py)), (10, .int (J tx)), (11, .int (J ty)), (12, .int (J wx)), (13, .int (J wy)), (14, .int (J bf)), (15, .int (J rs)), (16, .int (J i))]) SS.1 SS.2.1 dX9_walk_165 hl (by decide) rfl (fun ls hl => ?_)
              refine lv_iload SS.1 SS.2.1 dX9_walk_167 (lv_at hl 1 rfl) ?_
              refine lv_iload SS.1 SS.2.1 dX9_walk_169 (lv_at hl 13 rfl) ?_
              refine j_imul SS (x := mq) (y := wy) dX9_walk_171 ?_
              refine lv_iload SS.1 SS.2.1 dX9_walk_172 (lv_at hl 9 rfl) ?_
              refine j_isub SS (x := (mq * wy)) (y := py) dX9_walk_174 ?_
              obtain ⟨ny1, eny1⟩ : ∃ z : Int, z = ((mq * wy) - py) := ⟨_, rfl⟩
              rw [← eny1]
              refine lv_istore (lv' := [(19, .int (J ny1)), (18, .int (J nx1)), (17, .int (J mq)), (0, .ref (q 4)), (1, .int (J a)), (2, .int (J b)), (3, .int (J c)), (4, .int (J d)), (5, .int (J w)), (8, .int (J px)), (9, .int (J py)), (10, .int (J tx)), (11, .int (J ty)), (12, .int (J wx)), (13, .int (J wy)), (14, .int (J bf)), (15, .int (J rs)), (16, .int (J i))]) SS.1 SS.2.1 dX9_walk_175 hl (by decide) rfl (fun ls hl => ?_)
              refine lv_iload SS.1 SS.2.1 dX9_walk_177 (lv_at hl 13 rfl) ?_
              refine lv_istore (lv' := [(8, .int (J wx)), (19, .int (J ny1)), (18, .int (J nx1)), (17, .int (J mq)), (0, .ref (q 4)), (1, .int (J a)), (2, .int (J b)), (3, .int (J c)), (4, .int (J d)), (5, .int (J w)), (9, .int (J py)), (10, .int (J tx)), (11, .int (J ty)), (12, .int (J wx)), (13, .int (J wy)), (14, .int (J bf)), (15, .int (J rs)), (16, .int (J i))]) SS.1 SS.2.1 dX9_walk_179 hl (by decide) rfl (fun ls hl => ?_)
              refine lv_iload SS.1 SS.2.1 dX9_walk_181 (lv_at hl 14 rfl) ?_
              refine lv_istore (lv' := [(9, .int (J wy)), (8, .int (J wx)), (19, .int (J ny1)), (18, .int (J nx1)), (17, .int (J mq)), (0, .ref (q 4)), (1, .int (J a)), (2, .int (J b)), (3, .int (J c)), (4, .int (J d)), (5, .int (J w)), (10, .int (J tx)), (11, .int (J ty)), (12, .int (J wx)), (13, .int (J wy)), (14, .int (J bf)), (15, .int (J rs)), (16, .int (J i))]) SS.1 SS.2.1 dX9_walk_183 hl (by decide) rfl (fun ls hl => ?_)
              refine lv_iload SS.1 SS.2.1 dX9_walk_185 (lv_at hl 3 rfl) ?_
              refine lv_istore (lv' := [(12, .int (J nx1)), (9, .int (J wy)), (8, .int (J wx)), (19, .int (J ny1)), (18, .int (J nx1)), (17, .int (J mq)), (0, .ref (q 4)), (1, .int (J a)), (2, .int (J b)), (3, .int (J c)), (4, .int (J d)), (5, .int (J w)), (10, .int (J tx)), (11, .int (J ty)), (13, .int (J wy)), (14, .int (J bf)), (15, .int (J rs)), (16, .int (J i))]) SS.1 SS.2.1 dX9_walk_187 hl (by decide) rfl (fun ls hl => ?_)
              refine lv_iload SS.1 SS.2.1 dX9_walk_189 (lv_at hl 3 rfl) ?_
              refine lv_istore (lv' := [(13, .int (J ny1)), (12, .int (J nx1)), (9, .int (J wy)), (8, .int (J wx)), (19, .int (J ny1)), (18, .int (J nx1)), (17, .int (J mq)), (0, .ref (q 4)), (1, .int (J a)), (2, .int (J b)), (3, .int (J c)), (4, .int (J d)), (5, .int (J w)), (10, .int (J tx)), (11, .int (J ty)), (14, .int (J bf)), (15, .int (J rs)), (16, .int (J i))]) SS.1 SS.2.1 dX9_walk_191 hl (by decide) rfl (fun ls hl => ?_)
              refine lv_iload SS.1 SS.2.1 dX9_walk_193 (lv_at hl 16 rfl) ?_
              refine lv_istore (lv' := [(14, .int (J rs)), (13, .int (J ny1)), (12, .int (J nx1)), (9, .int (J wy)), (8, .int (J wx)), (19, .int (J ny1)), (18, .int (J nx1)), (17, .int (J mq)), (0, .ref (q 4)), (1, .int (J a)), (2, .int (J b)), (3, .int (J c)), (4, .int (J d)), (5, .int (J w)), (10, .int (J tx)), (11, .int (J ty)), (15, .int (J rs)), (16, .int (J i))]) SS.1 SS.2.1 dX9_walk_195 hl (by decide) rfl (fun ls hl => ?_)
              refine lv_iload SS.1 SS.2.1 dX9_walk_197 (lv_at hl 2 rfl) ?_
              refine lv_iload SS.1 SS.2.1 dX9_walk_199 (lv_at hl 15 rfl) ?_
              refine j_imul SS (x := nx1) (y := ty) dX9_walk_201 ?_
              refine lv_iload SS.1 SS.2.1 dX9_walk_202 (lv_at hl 1 rfl) ?_
              refine lv_iload SS.1 SS.2.1 dX9_walk_204 (lv_at hl 14 rfl) ?_
              refine j_imul SS (x := ny1) (y := tx) dX9_walk_206 ?_
              refine j_isub SS (x := (nx1 * ty)) (y := (ny1 * tx)) dX9_walk_207 ?_
              obtain ⟨rs1, ers1⟩ : ∃ z : Int, z = ((nx1 * ty) - (ny1 * tx)) := ⟨_, rfl⟩
              rw [← ers1]
              refine lv_istore (lv' := [(15, .int (J rs1)), (14, .int (J rs)), (13, .int (J ny1)), (12, .int (J nx1)), (9, .int (J wy)), (8, .int (J wx)), (19, .int (J ny1)), (18, .int (J nx1)), (17, .int (J mq)), (0, .ref (q 4)), (1, .int (J a)), (2, .int (J b)), (3, .int (J c)), (4, .int (J d)), (5, .int (J w)), (10, .int (J tx)), (11, .int (J ty)), (16, .int (J i))]) SS.1 SS.2.1 dX9_walk_208 hl (by decide) rfl (fun ls hl => ?_)
              refine lv_iinc (v := J (i + 1)) (lv' := [(16, .int (J (i + 1))), (15, .int (J rs1)), (14, .int (J rs)), (13, .int (J ny1)), (12, .int (J nx1)), (9, .int (J wy)), (8, .int (J wx)), (19, .int (J ny1)), (18, .int (J nx1)), (17, .int (J mq)), (0, .ref (q 4)), (1, .int (J a)), (2, .int (J b)), (3, .int (J c)), (4, .int (J d)), (5, .int (J w)), (10, .int (J tx)), (11, .int (J ty))]) SS.1 SS.2.1 dX9_walk_210 hl (k := 17) rfl (J_add _ _) (by decide) rfl (fun ls hl => ?_)
              refine lv_goto (tgt := 121) SS.1 SS.2.1 dX9_walk_213 (by decide) ?_
              exact ih_121 wx wy nx1 ny1 rs rs1 (i + 1) cn_154 x1_154 y1_154 b1_154 _ _ hP hS ls (lv_sub hl [10, 11, 12, 13, 14, 15, 6, 5, 16, 17, 4, 3, 2, 1, 0] rfl) (⟨by have q : rs1 = cx nx1 ny1 tx ty := ers1; have q2 : cx nx1 ny1 tx ty = mq * rs - bf := (by rw [enx1, eny1, i121_2.1, i121_2.2]; unfold cx; grind); omega, by have := h_154.1; omega⟩) (by rw [show cn_154 = cn + 1 from h_154.1]; exact SW_s ⟨bt1, bt2⟩ i121_1 enx1 eny1 (by have q2 : cx nx1 ny1 tx ty = mq * rs - bf := (by rw [enx1, eny1, i121_2.1, i121_2.2]; unfold cx; grind); rw [q2, ← i121_2.2]; omega) (fun e => h_154.2.1 e) (fun e => h_154.2.2 e)) (⟨i121_2.2, ers1⟩) (by have q : rs1 = cx nx1 ny1 tx ty := ers1; have q2 : cx nx1 ny1 tx ty = mq * rs - bf := (by rw [enx1, eny1, i121_2.1, i121_2.2]; unfold cx; grind); omega)
      exact L_121 (rs0.toNat + 1) px0 py0 sx_77 sy_77 bf0 rs0 0 cn_65 x1_65 y1_65 b1_65 _ _ hP hS ls (lv_sub hl [11, 12, 13, 14, 15, 16, 8, 7, 6, 5, 4, 3, 2, 1, 0] rfl) (⟨by rw [ers0]; have q := h_77.2.2; have q0 : cx px0 py0 tx ty = px0 * ty - py0 * tx := rfl; have q2 : cx sx_77 sy_77 tx ty = sx_77 * ty - sy_77 * tx := rfl; omega, by have := h_65.1; omega⟩) (by rw [show cn_65 = 1 by have := h_65.1; omega]; exact SW_0 h_77 ⟨bp1, bp2⟩ ⟨bt1, bt2⟩ (fun e => h_65.2.1 (by omega))) (⟨ebf0, ers0⟩) (Nat.lt_succ_self _)
    · skip
      exfalso; omega
