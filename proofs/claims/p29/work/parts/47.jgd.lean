
set_option maxHeartbeats 4000000 in
set_option maxRecDepth 100000 in
theorem c_X1_build3 (l : Launch) (D : JD) (q : Nat → Nat) (u : CS) (A : Nat → Prop) (hD : va_D A (cW D q u)) (i : Nat) (hi : i < 8) (p0 : RB 40 u i) (p1 : RB 40 u 10) (p2 : HB (u.1.2.2.2.1 i)) (p3 : 0 ≤ u.2.2.2 25 ∧ u.2.2.2 25 ≤ 80) (p4 : -2147483648 ≤ u.2.2.2 26 ∧ u.2.2.2 26 ≤ 2147483647) (p5 : -2147483648 ≤ u.1.2.2.2.2 i ∧ u.1.2.2.2.2 i ≤ 2147483647) (p6 : 1 ≤ u.1.2.2.1 i) : Met l yX1_build (jw yX1_build cX1_build 4 none) (jr 4 99) (jP [.ref (q 7), .ref (q (8 + 5 * i))] D (fun H => va_P D.1 j_cl (cW D q u) H)) (jWv (fun u' => ∃ n : Int, ∃ f : Nat → Int, ∃ g : Nat → Int, ∃ se : Nat → Int64, ∃ v25 : Int, ∃ v26 : Int, u' = (sY (sX (sV (sV (sL (sC u 10 n) 6 se) 25 v25) 26 v26) 10 f) 10 g) ∧ ((((0 ≤ n ∧ n ≤ 40) ∧ RV 40 f g) ∧ (0 ≤ v25 ∧ v25 ≤ 80) ∧ -2147483648 ≤ v26 ∧ v26 ≤ 2147483647) ∧ ((u.2.2.2 26 = u.1.2.2.2.2 i ∧ n = u.1.2.2.1 10 ∧ f = u.1.1 10 ∧ g = u.1.2.1 10 ∧ se = u.2.2.1 6 ∧ v25 = u.2.2.2 25 ∧ v26 = u.2.2.2 26) ∨ (v26 = u.1.2.2.2.2 i ∧ (FT9 u i 40 → LC9 (inC u i) (u.1.2.2.2.1 i) n f g v25 se))))) (fun u' H => va_P D.1 j_cl (cW D q u') H) A) 0 0 A := by
  refine Met.ofW (cc := cX1_build) (maxL := 4) (ret := none) (by decide) rfl ?_
  intro pr en st mi args below meth co s₁ B hml hv
  obtain ⟨rfl, hG, hP⟩ := hv
  have hr := B.returns
  have hlk := B.notSynchronized
  have SS : jS pr mi co cX1_build 4 st _ RX1 := ⟨B.exec, B.bytes, hml, findClass_of_methodNamed B.named, fun w hw => atoms_spec (ws := (jw yX1_build cX1_build 4 none)) B.pre w (List.mem_cons_of_mem _ hw)⟩
  have hl := lv_entry ([.ref (q 7), .ref (q (8 + 5 * i))]) (n := 4) (Nat.le_of_ble_eq_true rfl)
  rw [lg_entry_eq]
  generalize (lg_sl ([.ref (q 7), .ref (q (8 + 5 * i))]) ++ List.replicate (4 - (lg_sl ([.ref (q 7), .ref (q (8 + 5 * i))])).length) Slot.unset).toArray = ls at hl ⊢
  have hl : lv_has ls 4 [(0, .ref (q 7)), (1, .ref (q (8 + 5 * i)))] := hl
  have hS : va_S A st.heap st.heap [] := va_S.rf
  refine lv_aload_n SS.1 SS.2.1 dX1_build_0 rfl (lv_at hl 0 rfl) ?_
  refine j_get SS hG hP 7 (v := .int (J (u.2.2.2 26))) (C := RX1) (T := TX1) (N := 4) rfl rfl inX1 3 (by decide) (ref := "GridPolygons$Coarse") kw_375 rfl rfl dX1_build_1 ?_
  refine lv_aload_n SS.1 SS.2.1 dX1_build_4 rfl (lv_at hl 1 rfl) ?_
  refine j_get SS hG hP (8 + 5 * i) (v := .int (J (u.1.2.2.2.2 i))) (C := RX10) (T := TX10) (N := 3) (cw_shape (by omega)) rfl inX10 2 (by decide) (ref := "GridPolygons$Shape") kw_159 rfl rfl dX1_build_5 ?_
  refine j_icmp_ne SS (tgt := 12) (x := (u.2.2.2 26)) (y := (u.1.2.2.2.2 i)) dX1_build_8 (by decide) (by omega) (by omega) (fun c_8 => ?_) (fun c_8 => ?_)
  · skip
    refine lv_aload_n SS.1 SS.2.1 dX1_build_12 rfl (lv_at hl 0 rfl) ?_
    refine lv_aload_n SS.1 SS.2.1 dX1_build_13 rfl (lv_at hl 1 rfl) ?_
    refine j_get SS hG hP (8 + 5 * i) (v := .int (J (u.1.2.2.2.2 i))) (C := RX10) (T := TX10) (N := 3) (cw_shape (by omega)) rfl inX10 2 (by decide) (ref := "GridPolygons$Shape") kw_159 rfl rfl dX1_build_14 ?_
    refine j_put SS hG hP (cW_D hD) hS 7 (v := .int (J (u.1.2.2.2.2 i))) (ty := .int) (C := RX1) (T := TX1) (N := 4) rfl rfl inX1 tyX1 tyX1_ok nmX1 3 (by decide) (ref := "GridPolygons$Coarse") kw_375 rfl rfl (by decide +kernel) rfl rfl (Nat.le_of_ble_eq_true rfl) dX1_build_17 (ws' := (cW D q (sV u 26 (u.1.2.2.2.2 i)))) rfl (fun H locs hP hS => ?_)
    refine lv_aload_n SS.1 SS.2.1 dX1_build_20 rfl (lv_at hl 0 rfl) ?_
    refine j_get SS hG hP 7 (v := .ref (q (9 + 5 * 10))) (C := RX1) (T := TX1) (N := 4) rfl rfl inX1 0 (by decide) (ref := "GridPolygons$Coarse") kw_371 rfl rfl dX1_build_21 ?_
    refine lv_aload_n SS.1 SS.2.1 dX1_build_24 rfl (lv_at hl 1 rfl) ?_
    refine j_get SS hG hP (8 + 5 * i) (v := .ref (q (9 + 5 * i))) (C := RX10) (T := TX10) (N := 3) (cw_shape (by omega)) rfl inX10 0 (by decide) (ref := "GridPolygons$Shape") kw_153 rfl rfl dX1_build_25 ?_
    refine j_vWv SS (As := [.ref (q (9 + 5 * i))]) (rest := []) (c_X6_fill3_10 l D q (sV u 26 (u.1.2.2.2.2 i)) A (cW_D hD) i (by omega)  (show RB 40 (sV u 26 (u.1.2.2.2.2 i)) i from (p0)) (show RB 40 (sV u 26 (u.1.2.2.2.2 i)) 10 from (p1)) (show 1 ≤ (u.1.2.2.1 i) from (p6))) mf_X6_fill kw_991 hG hP hP (ci := 6) (q0 := (9 + 5 * 10)) rfl (cw_pts (by omega)) rfl hS (fun _ h => h) rfl hl.1 ⟨⟨Nat.le_of_ble_eq_true rfl, Nat.le_of_ble_eq_true rfl⟩, Nat.le_of_ble_eq_true rfl, Nat.le_refl _, Nat.le_refl _⟩ rfl dX1_build_28 (fun u28 H locs h_28 hP _ hS => ?_)
    obtain ⟨n_28, f_28, g_28, rfl, h_28⟩ := h_28
    have hP : va_P D.1 j_cl (cW D q (sY (sX (sV (sC u 10 n_28) 26 (u.1.2.2.2.2 i)) 10 f_28) 10 g_28)) H := hP
    have h_28 : ((0 ≤ n_28 ∧ n_28 ≤ 40) ∧ RV 40 f_28 g_28) ∧ (FT9 (sV u 26 (u.1.2.2.2.2 i)) i 40 → OL (inC (sV u 26 (u.1.2.2.2.2 i)) i) n_28 f_28 g_28) := h_28
    have hR10 : (0 ≤ n_28 ∧ n_28 ≤ (rl 10 : Int)) ∧ RV 40 f_28 g_28 := h_28.1
    have hn28 := h_28.1.1
    have hOL : FT9 u i 40 → OL (inC u i) n_28 f_28 g_28 := h_28.2
    refine lv_aload_n SS.1 SS.2.1 dX1_build_31 rfl (lv_at hl 0 rfl) ?_
    refine j_iconst SS dX1_build_32 ?_
    refine j_put SS hG hP (cW_D hD) hS 7 (v := .int (J 0)) (ty := .int) (C := RX1) (T := TX1) (N := 4) rfl rfl inX1 tyX1 tyX1_ok nmX1 2 (by decide) (ref := "GridPolygons$Coarse") kw_373 rfl rfl (by decide +kernel) rfl rfl (Nat.le_of_ble_eq_true rfl) dX1_build_33 (ws' := (cW D q (sY (sX (sV (sV (sC u 10 n_28) 25 0) 26 (u.1.2.2.2.2 i)) 10 f_28) 10 g_28))) rfl (fun H locs hP hS => ?_)
    refine j_iconst SS dX1_build_36 ?_
    refine lv_istore_n (lv' := [(2, .int (J 0)), (0, .ref (q 7)), (1, .ref (q (8 + 5 * i)))]) SS.1 SS.2.1 dX1_build_37 rfl hl (by decide) rfl (fun ls hl => ?_)
    have L_38 : ∀ (nn : Nat) (a : Int) (w1 : Nat → Int64) (n1 : Int) (H : Heap) (locs : List Loc) (hP : va_P D.1 j_cl (cW D q (sY (sX (sV (sV (sL (sC u 10 n_28) 6 w1) 25 n1) 26 (u.1.2.2.2.2 i)) 10 f_28) 10 g_28)) H) (hS : va_S A st.heap H locs) (ls : Array Slot) (hl : lv_has ls 4 [(0, .ref (q 7)), (1, .ref (q (8 + 5 * i))), (2, .int (J a))]) (i38_0 : 0 ≤ a ∧ a ≤ n_28) (i38_1 : 0 ≤ n1 ∧ n1 ≤ 80) (i38_2 : FT9 u i 40 → BL9 f_28 g_28 (u.1.2.2.2.1 i) n_28 n1 w1 (fun x9 y9 => (x9 : Int) < a)), ((40 : Int) - a).toNat < nn → W pr l en (headSpec (jw yX1_build cX1_build 4 none) (jr 4 99)).room st mi (([.ref (q 7), .ref (q (8 + 5 * i))] : List Value).toArray) below meth co H locs 0 0 (MQ below (jWv (fun u' => ∃ n : Int, ∃ f : Nat → Int, ∃ g : Nat → Int, ∃ se : Nat → Int64, ∃ v25 : Int, ∃ v26 : Int, u' = (sY (sX (sV (sV (sL (sC u 10 n) 6 se) 25 v25) 26 v26) 10 f) 10 g) ∧ ((((0 ≤ n ∧ n ≤ 40) ∧ RV 40 f g) ∧ (0 ≤ v25 ∧ v25 ≤ 80) ∧ -2147483648 ≤ v26 ∧ v26 ≤ 2147483647) ∧ ((u.2.2.2 26 = u.1.2.2.2.2 i ∧ n = u.1.2.2.1 10 ∧ f = u.1.1 10 ∧ g = u.1.2.1 10 ∧ se = u.2.2.1 6 ∧ v25 = u.2.2.2 25 ∧ v26 = u.2.2.2 26) ∨ (v26 = u.1.2.2.2.2 i ∧ (FT9 u i 40 → LC9 (inC u i) (u.1.2.2.2.1 i) n f g v25 se))))) (fun u' H => va_P D.1 j_cl (cW D q u') H) A) (([.ref (q 7), .ref (q (8 + 5 * i))] : List Value).toArray) st 0 0 A) (F0 mi 38 ls []) := by
      intro nn
      induction nn with
      | zero => intros; omega
      | succ nn ih_38 =>
        intro a w1 n1 H locs hP hS ls hl i38_0 i38_1 i38_2 hm
        refine lv_iload_n SS.1 SS.2.1 dX1_build_38 rfl (lv_at hl 2 rfl) ?_
        refine lv_aload_n SS.1 SS.2.1 dX1_build_39 rfl (lv_at hl 0 rfl) ?_
        refine j_get SS hG hP 7 (v := .ref (q (9 + 5 * 10))) (C := RX1) (T := TX1) (N := 4) rfl rfl inX1 0 (by decide) (ref := "GridPolygons$Coarse") kw_371 rfl rfl dX1_build_40 ?_
        refine j_getS SS hG hP (9 + 5 * 10) (v := .int (J n_28)) (C := RX6) (T := TX6) (N := 3) (cw_pts (by omega)) rfl inX6 2 (by decide) (ref := "GridPolygons$Points") kw_138 kw_134 rfl dX1_build_43 ?_
        refine j_icmp_ge SS (tgt := 100) (x := a) (y := n_28) dX1_build_46 (by decide) (by omega) (by omega) (fun c_46 => ?_) (fun c_46 => ?_)
        · skip
          exact W.vret SS.1 SS.2.1 hr (fun t0 ht hW => ⟨⟨(sY (sX (sV (sV (sL (sC u 10 n_28) 6 w1) 25 n1) 26 (u.1.2.2.2.2 i)) 10 f_28) 10 g_28), rfl, (⟨n_28, f_28, g_28, w1, n1, (u.1.2.2.2.2 i), rfl, ⟨⟨h_28.1, by omega, by omega⟩, Or.inr ⟨rfl, fun F9 => BL_f (by omega) (hOL F9) (i38_2 F9) (fun x9 y9 h1 h2 => by show (x9 : Int) < a; omega)⟩⟩⟩), by show va_P D.1 j_cl (cW D q (sY (sX (sV (sV (sL (sC u 10 n_28) 6 w1) 25 n1) 26 (u.1.2.2.2.2 i)) 10 f_28) 10 g_28)) t0.heap; rw [ht]; first | exact hP | (simp only [sI_id, sL_id, sC_id, sX_id, sY_id, sH_id, sT_id, sV_id]; exact hP)⟩, hS.F ht⟩) hS.2.2 dX1_build_100 hlk
        · skip
          refine lv_iload_n SS.1 SS.2.1 dX1_build_49 rfl (lv_at hl 2 rfl) ?_
          refine j_iconst SS dX1_build_50 ?_
          refine j_iadd SS (x := a) (y := 1) dX1_build_51 ?_
          refine lv_istore_n (lv' := [(3, .int (J (a + 1))), (0, .ref (q 7)), (1, .ref (q (8 + 5 * i))), (2, .int (J a))]) SS.1 SS.2.1 dX1_build_52 rfl hl (by decide) rfl (fun ls hl => ?_)
          have L_53 : ∀ (nn : Nat) (b : Int) (w2 : Nat → Int64) (n2 : Int) (H : Heap) (locs : List Loc) (hP : va_P D.1 j_cl (cW D q (sY (sX (sV (sV (sL (sC u 10 n_28) 6 w2) 25 n2) 26 (u.1.2.2.2.2 i)) 10 f_28) 10 g_28)) H) (hS : va_S A st.heap H locs) (ls : Array Slot) (hl : lv_has ls 4 [(0, .ref (q 7)), (1, .ref (q (8 + 5 * i))), (2, .int (J a)), (3, .int (J b))]) (i53_0 : a + 1 ≤ b ∧ b ≤ n_28) (i53_1 : 0 ≤ n2 ∧ n2 ≤ 80) (i53_2 : FT9 u i 40 → BL9 f_28 g_28 (u.1.2.2.2.1 i) n_28 n2 w2 (fun x9 y9 => (x9 : Int) < a ∨ ((x9 : Int) = a ∧ (y9 : Int) < b))), ((41 : Int) - b).toNat < nn → W pr l en (headSpec (jw yX1_build cX1_build 4 none) (jr 4 99)).room st mi (([.ref (q 7), .ref (q (8 + 5 * i))] : List Value).toArray) below meth co H locs 0 0 (MQ below (jWv (fun u' => ∃ n : Int, ∃ f : Nat → Int, ∃ g : Nat → Int, ∃ se : Nat → Int64, ∃ v25 : Int, ∃ v26 : Int, u' = (sY (sX (sV (sV (sL (sC u 10 n) 6 se) 25 v25) 26 v26) 10 f) 10 g) ∧ ((((0 ≤ n ∧ n ≤ 40) ∧ RV 40 f g) ∧ (0 ≤ v25 ∧ v25 ≤ 80) ∧ -2147483648 ≤ v26 ∧ v26 ≤ 2147483647) ∧ ((u.2.2.2 26 = u.1.2.2.2.2 i ∧ n = u.1.2.2.1 10 ∧ f = u.1.1 10 ∧ g = u.1.2.1 10 ∧ se = u.2.2.1 6 ∧ v25 = u.2.2.2 25 ∧ v26 = u.2.2.2 26) ∨ (v26 = u.1.2.2.2.2 i ∧ (FT9 u i 40 → LC9 (inC u i) (u.1.2.2.2.1 i) n f g v25 se))))) (fun u' H => va_P D.1 j_cl (cW D q u') H) A) (([.ref (q 7), .ref (q (8 + 5 * i))] : List Value).toArray) st 0 0 A) (F0 mi 53 ls []) := by
            intro nn
            induction nn with
            | zero => intros; omega
            | succ nn ih_53 =>
              intro b w2 n2 H locs hP hS ls hl i53_0 i53_1 i53_2 hm
              refine lv_iload_n SS.1 SS.2.1 dX1_build_53 rfl (lv_at hl 3 rfl) ?_
              refine lv_aload_n SS.1 SS.2.1 dX1_build_54 rfl (lv_at hl 0 rfl) ?_
              refine j_get SS hG hP 7 (v := .ref (q (9 + 5 * 10))) (C := RX1) (T := TX1) (N := 4) rfl rfl inX1 0 (by decide) (ref := "GridPolygons$Coarse") kw_371 rfl rfl dX1_build_55 ?_
              refine j_getS SS hG hP (9 + 5 * 10) (v := .int (J n_28)) (C := RX6) (T := TX6) (N := 3) (cw_pts (by omega)) rfl inX6 2 (by decide) (ref := "GridPolygons$Points") kw_138 kw_134 rfl dX1_build_58 ?_
              refine j_icmp_ge SS (tgt := 94) (x := b) (y := n_28) dX1_build_61 (by decide) (by omega) (by omega) (fun c_61 => ?_) (fun c_61 => ?_)
              · skip
                refine lv_iinc (v := J (a + 1)) (lv' := [(2, .int (J (a + 1))), (0, .ref (q 7)), (1, .ref (q (8 + 5 * i))), (3, .int (J b))]) SS.1 SS.2.1 dX1_build_94 hl (k := 2) rfl (J_add _ _) (by decide) rfl (fun ls hl => ?_)
                refine lv_goto (tgt := 38) SS.1 SS.2.1 dX1_build_97 (by decide) ?_
                exact ih_38 (a + 1) w2 n2 _ _ hP hS ls (lv_sub hl [1, 2, 0] rfl) (by omega) (by omega) (fun F9 => BL_c (i53_2 F9) (fun x9 y9 h1 h2 h3 => by have h4 : (x9 : Int) < a + 1 := h3; show (x9 : Int) < a ∨ ((x9 : Int) = a ∧ (y9 : Int) < b); omega)) (by omega)
              · skip
                refine lv_aload_n SS.1 SS.2.1 dX1_build_64 rfl (lv_at hl 0 rfl) ?_
                refine lv_aload_n SS.1 SS.2.1 dX1_build_65 rfl (lv_at hl 0 rfl) ?_
                refine lv_aload_n SS.1 SS.2.1 dX1_build_66 rfl (lv_at hl 1 rfl) ?_
                refine j_get SS hG hP (8 + 5 * i) (v := .ref (q (12 + 5 * i))) (C := RX10) (T := TX10) (N := 3) (cw_shape (by omega)) rfl inX10 1 (by decide) (ref := "GridPolygons$Shape") kw_156 rfl rfl dX1_build_67 ?_
                refine lv_iload_n SS.1 SS.2.1 dX1_build_70 rfl (lv_at hl 2 rfl) ?_
                refine lv_iload_n SS.1 SS.2.1 dX1_build_71 rfl (lv_at hl 3 rfl) ?_
                refine lv_aload_n SS.1 SS.2.1 dX1_build_72 rfl (lv_at hl 0 rfl) ?_
                refine lv_aload_n SS.1 SS.2.1 dX1_build_73 rfl (lv_at hl 1 rfl) ?_
                refine j_get SS hG hP (8 + 5 * i) (v := .ref (q (12 + 5 * i))) (C := RX10) (T := TX10) (N := 3) (cw_shape (by omega)) rfl inX10 1 (by decide) (ref := "GridPolygons$Shape") kw_156 rfl rfl dX1_build_74 ?_
                refine lv_iload_n SS.1 SS.2.1 dX1_build_77 rfl (lv_at hl 2 rfl) ?_
                refine lv_iload_n SS.1 SS.2.1 dX1_build_78 rfl (lv_at hl 3 rfl) ?_
                refine j_vRi SS (As := [.ref (q (12 + 5 * i)), .int (J a), .int (J b)]) (rest := [.int (J b), .int (J a), .ref (q (12 + 5 * i)), .ref (q 7), .ref (q 7)]) (c_X1_lowestLeft3 l D q (sY (sX (sV (sV (sL (sC u 10 n_28) 6 w2) 25 n2) 26 (u.1.2.2.2.2 i)) 10 f_28) 10 g_28) i (by omega) a b (show RB 40 (sY (sX (sV (sV (sL (sC u 10 n_28) 6 w2) 25 n2) 26 (u.1.2.2.2.2 i)) 10 f_28) 10 g_28) 10 from (hR10)) (show HB ((u.1.2.2.2.1 i)) from (p2)) (show 0 ≤ a ∧ a < 40 from (by omega)) (show 0 ≤ b ∧ b < 40 from (by omega))) mf_X1_lowestLeft kw_992 hG hP hP (ci := 1) (q0 := 7) rfl rfl rfl rfl hl.1 ⟨⟨Nat.le_of_ble_eq_true rfl, Nat.le_of_ble_eq_true rfl⟩, Nat.le_of_ble_eq_true rfl, Nat.le_refl _, Nat.le_refl _⟩ rfl dX1_build_79 (fun z_79 h_79 => ?_)
                have h_79 : (-1 ≤ z_79 ∧ z_79 ≤ 39) ∧ LO9 (f_28) (g_28) ((u.1.2.2.2.1 i)) a.toNat b.toNat (n_28) z_79 := h_79
                obtain ⟨t_79, e_79⟩ := h_79
                refine j_vRl SS (As := [.ref (q (12 + 5 * i)), .int (J a), .int (J b), .int (J z_79)]) (rest := [.ref (q 7)]) (c_X1_planeOf3 l D q (sY (sX (sV (sV (sL (sC u 10 n_28) 6 w2) 25 n2) 26 (u.1.2.2.2.2 i)) 10 f_28) 10 g_28) i (by omega) a b z_79 (show RB 40 (sY (sX (sV (sV (sL (sC u 10 n_28) 6 w2) 25 n2) 26 (u.1.2.2.2.2 i)) 10 f_28) 10 g_28) 10 from (hR10)) (show HB ((u.1.2.2.2.1 i)) from (p2)) (show 0 ≤ a ∧ a < 40 from (by omega)) (show 0 ≤ b ∧ b < 40 from (by omega)) (show -1 ≤ z_79 ∧ z_79 < 40 from (by omega))) mf_X1_planeOf kw_1003 hG hP hP (ci := 1) (q0 := 7) rfl rfl rfl rfl hl.1 ⟨⟨Nat.le_of_ble_eq_true rfl, Nat.le_of_ble_eq_true rfl⟩, Nat.le_of_ble_eq_true rfl, Nat.le_refl _, Nat.le_refl _⟩ rfl dX1_build_82 (fun x_82 h_82 => ?_)
                refine j_vWv SS (As := [.long x_82]) (rest := []) (c_X1_enter3 l D q (sY (sX (sV (sV (sL (sC u 10 n_28) 6 w2) 25 n2) 26 (u.1.2.2.2.2 i)) 10 f_28) 10 g_28) A (cW_D hD)  x_82 (show 0 ≤ n2 ∧ n2 ≤ 80 from (by omega))) mf_X1_enter kw_1010 hG hP hP (ci := 1) (q0 := 7) rfl rfl rfl hS (fun _ h => h) rfl hl.1 ⟨⟨Nat.le_of_ble_eq_true rfl, Nat.le_of_ble_eq_true rfl⟩, Nat.le_of_ble_eq_true rfl, Nat.le_refl _, Nat.le_refl _⟩ rfl dX1_build_85 (fun u85 H locs h_85 hP _ hS => ?_)
                obtain ⟨s6_85, n_85, rfl, h_85⟩ := h_85
                have hP : va_P D.1 j_cl (cW D q (sY (sX (sV (sV (sL (sC u 10 n_28) 6 s6_85) 25 n_85) 26 (u.1.2.2.2.2 i)) 10 f_28) 10 g_28)) H := hP
                have h_85 : (0 ≤ n_85 ∧ n_85 ≤ 80) ∧ EN_9 (w2) s6_85 (n2) n_85 x_82 := h_85
                obtain ⟨t_85, e_85⟩ := h_85
                refine lv_iinc (v := J (b + 1)) (lv' := [(3, .int (J (b + 1))), (0, .ref (q 7)), (1, .ref (q (8 + 5 * i))), (2, .int (J a))]) SS.1 SS.2.1 dX1_build_88 hl (k := 3) rfl (J_add _ _) (by decide) rfl (fun ls hl => ?_)
                refine lv_goto (tgt := 53) SS.1 SS.2.1 dX1_build_91 (by decide) ?_
                exact ih_53 (b + 1) s6_85 n_85 _ _ hP hS ls (lv_sub hl [1, 2, 3, 0] rfl) (by omega) (by omega) (fun F9 => BL_c (BL_s (a := a.toNat) (b := b.toNat) (by omega) (hOL F9).2.1 (i53_2 F9) (by omega) (by omega) e_79 h_82 e_85) (fun x9 y9 h1 h2 h3 => by have h4 : (x9 : Int) < a ∨ ((x9 : Int) = a ∧ (y9 : Int) < b + 1) := h3; show ((x9 : Int) < a ∨ ((x9 : Int) = a ∧ (y9 : Int) < b)) ∨ (x9 = a.toNat ∧ y9 = b.toNat); omega)) (by omega)
          exact L_53 (((41 : Int) - (a + 1)).toNat + 1) (a + 1) w1 n1 _ _ hP hS ls (lv_sub hl [1, 2, 3, 0] rfl) (by omega) (by omega) (fun F9 => BL_c (i38_2 F9) (fun x9 y9 h1 h2 h3 => by have h4 : (x9 : Int) < a ∨ ((x9 : Int) = a ∧ (y9 : Int) < a + 1) := h3; show (x9 : Int) < a; omega)) (Nat.lt_succ_self _)
    have hP : va_P D.1 j_cl (cW D q (sY (sX (sV (sV (sL (sC u 10 n_28) 6 (u.2.2.1 6)) 25 0) 26 (u.1.2.2.2.2 i)) 10 f_28) 10 g_28)) H := Eq.mpr (congrArg (fun s => va_P D.1 j_cl (cW D q (sY (sX (sV (sV s 25 0) 26 (u.1.2.2.2.2 i)) 10 f_28) 10 g_28)) H) (sL_at (u := (sC u 10 n_28)) (r := 6) (x := (u.2.2.1 6)) rfl)) hP
    exact L_38 (((40 : Int) - (0 : Int)).toNat + 1) 0 (u.2.2.1 6) 0 _ _ hP hS ls (lv_sub hl [1, 2, 0] rfl) (by omega) (by omega) (fun F9 => ⟨⟨by omega, fun q hq => by omega, fun q r h1 h2 => by omega⟩, fun x9 y9 h1 h2 h3 => by have h4 : (x9 : Int) < 0 := h3; omega⟩) (Nat.lt_succ_self _)
  · skip
    exact W.vret SS.1 SS.2.1 hr (fun t0 ht hW => ⟨⟨(sY (sX (sV (sV (sL (sC u 10 (u.1.2.2.1 10)) 6 (u.2.2.1 6)) 25 (u.2.2.2 25)) 26 (u.2.2.2 26)) 10 (u.1.1 10)) 10 (u.1.2.1 10)), rfl, (⟨(u.1.2.2.1 10), (u.1.1 10), (u.1.2.1 10), (u.2.2.1 6), (u.2.2.2 25), (u.2.2.2 26), rfl, ⟨⟨p1, by omega, by omega⟩, Or.inl ⟨by omega, rfl, rfl, rfl, rfl, rfl, rfl⟩⟩⟩), by show va_P D.1 j_cl (cW D q (sY (sX (sV (sV (sL (sC u 10 (u.1.2.2.1 10)) 6 (u.2.2.1 6)) 25 (u.2.2.2 25)) 26 (u.2.2.2 26)) 10 (u.1.1 10)) 10 (u.1.2.1 10))) t0.heap; rw [ht]; first | exact hP | (simp only [sI_id, sL_id, sC_id, sX_id, sY_id, sH_id, sT_id, sV_id]; exact hP)⟩, hS.F ht⟩) hS.2.2 dX1_build_11 hlk
