
set_option maxHeartbeats 4000000 in
set_option maxRecDepth 100000 in
theorem c_X3_takeRing2 (l : Launch) (D : JD) (q : Nat → Nat) (u : CS) (A : Nat → Prop) (hD : va_D A (cW D q u)) (r : Nat) (hr : r ≤ 8) (p0 : HU_ (u.2.1 0) (u.2.1 1)) (p1 : RB 80 u r) : Met l yX3_takeRing (jw yX3_takeRing cX3_takeRing 3 none) (jr 2 44) (jP [.ref (q 2), .ref (q (9 + 5 * r))] D (fun H => va_P D.1 j_cl (cW D q u) H)) (jWv (fun u' => ∃ f : Nat → Int, ∃ g : Nat → Int, u' = (sI (sI u 0 f) 1 g) ∧ (HU_ f g ∧ ∀ S : Int → Int → Prop, HUL S (u.2.1 0) (u.2.1 1) → HUL (fun x y => S x y ∨ RP u r x y) f g)) (fun u' H => va_P D.1 j_cl (cW D q u') H) A) 0 0 A := by
  refine Met.ofW (cc := cX3_takeRing) (maxL := 3) (ret := none) (by decide) rfl ?_
  intro pr en st mi args below meth co s₁ B hml hv
  obtain ⟨rfl, hG, hP⟩ := hv
  have hr := B.returns
  have hlk := B.notSynchronized
  have SS : jS pr mi co cX3_takeRing 3 st _ RX3 := ⟨B.exec, B.bytes, hml, findClass_of_methodNamed B.named, fun w hw => atoms_spec (ws := (jw yX3_takeRing cX3_takeRing 3 none)) B.pre w (List.mem_cons_of_mem _ hw)⟩
  have hl := lv_entry ([.ref (q 2), .ref (q (9 + 5 * r))]) (n := 3) (Nat.le_of_ble_eq_true rfl)
  rw [lg_entry_eq]
  generalize (lg_sl ([.ref (q 2), .ref (q (9 + 5 * r))]) ++ List.replicate (3 - (lg_sl ([.ref (q 2), .ref (q (9 + 5 * r))])).length) Slot.unset).toArray = ls at hl ⊢
  have hl : lv_has ls 3 [(0, .ref (q 2)), (1, .ref (q (9 + 5 * r)))] := hl
  have hS : va_S A st.heap st.heap [] := va_S.rf
  have hc := p1.1
  have hrl := rl_b r
  refine j_iconst SS dX3_takeRing_0 ?_
  refine lv_istore_n (lv' := [(2, .int (J 0)), (0, .ref (q 2)), (1, .ref (q (9 + 5 * r)))]) SS.1 SS.2.1 dX3_takeRing_1 rfl hl (by decide) rfl (fun ls hl => ?_)
  have L_2 : ∀ (nn : Nat) (i : Int) (f1 : Nat → Int) (g1 : Nat → Int) (H : Heap) (locs : List Loc) (hP : va_P D.1 j_cl (cW D q (sI (sI u 0 f1) 1 g1)) H) (hS : va_S A st.heap H locs) (ls : Array Slot) (hl : lv_has ls 3 [(0, .ref (q 2)), (1, .ref (q (9 + 5 * r))), (2, .int (J i))]) (i2_0 : 0 ≤ i ∧ i ≤ u.1.2.2.1 r) (i2_1 : HU_ f1 g1) (i2_2 : ∀ S : Int → Int → Prop, HUL S (u.2.1 0) (u.2.1 1) → HUL (fun x y => S x y ∨ RPi u r i x y) f1 g1), (u.1.2.2.1 r - i).toNat < nn → W pr l en (headSpec (jw yX3_takeRing cX3_takeRing 3 none) (jr 2 44)).room st mi (([.ref (q 2), .ref (q (9 + 5 * r))] : List Value).toArray) below meth co H locs 0 0 (MQ below (jWv (fun u' => ∃ f : Nat → Int, ∃ g : Nat → Int, u' = (sI (sI u 0 f) 1 g) ∧ (HU_ f g ∧ ∀ S : Int → Int → Prop, HUL S (u.2.1 0) (u.2.1 1) → HUL (fun x y => S x y ∨ RP u r x y) f g)) (fun u' H => va_P D.1 j_cl (cW D q u') H) A) (([.ref (q 2), .ref (q (9 + 5 * r))] : List Value).toArray) st 0 0 A) (F0 mi 2 ls []) := by
    intro nn
    induction nn with
    | zero => intros; omega
    | succ nn ih_2 =>
      intro i f1 g1 H locs hP hS ls hl i2_0 i2_1 i2_2 hm
      refine lv_iload_n SS.1 SS.2.1 dX3_takeRing_2 rfl (lv_at hl 2 rfl) ?_
      refine lv_aload_n SS.1 SS.2.1 dX3_takeRing_3 rfl (lv_at hl 1 rfl) ?_
      refine j_getS SS hG hP (9 + 5 * r) (v := .int (J (u.1.2.2.1 r))) (C := RX7) (T := TX7) (N := 3) (cw_ring (by omega)) rfl inX7 2 (by decide) (ref := "GridPolygons$Ring") kw_141 kw_132 rfl dX3_takeRing_4 ?_
      refine j_icmp_ge SS (tgt := 30) (x := i) (y := (u.1.2.2.1 r)) dX3_takeRing_7 (by decide) (by omega) (by omega) (fun c_7 => ?_) (fun c_7 => ?_)
      · skip
        exact W.vret SS.1 SS.2.1 hr (fun t0 ht hW => ⟨⟨(sI (sI u 0 f1) 1 g1), rfl, (⟨f1, g1, rfl, ⟨i2_1, fun S h => by have q := i2_2 S h; rw [show i = u.1.2.2.1 r by omega] at q; exact q⟩⟩), by show va_P D.1 j_cl (cW D q (sI (sI u 0 f1) 1 g1)) t0.heap; rw [ht]; first | exact hP | (simp only [sC_id, sX_id, sY_id, sH_id, sT_id, sV_id]; exact hP)⟩, hS.F ht⟩) hS.2.2 dX3_takeRing_30 hlk
      · skip
        refine lv_aload_n SS.1 SS.2.1 dX3_takeRing_10 rfl (lv_at hl 0 rfl) ?_
        refine lv_aload_n SS.1 SS.2.1 dX3_takeRing_11 rfl (lv_at hl 1 rfl) ?_
        refine lv_iload_n SS.1 SS.2.1 dX3_takeRing_12 rfl (lv_at hl 2 rfl) ?_
        refine j_uRi SS (As := [.int (J i)]) (rest := [.ref (q 2)]) (c_X8_x l D q (sI (sI u 0 f1) 1 g1) r (by omega) i (show -2147483648 ≤ i ∧ i ≤ 2147483647 from (by omega))) mu_7_x kw_437 hG hP hP (ci := 7) (q0 := (9 + 5 * r)) rfl (cw_ring (by omega)) rfl rfl hl.1 ⟨⟨Nat.le_of_ble_eq_true rfl, Nat.le_of_ble_eq_true rfl⟩, Nat.le_of_ble_eq_true rfl, Nat.le_refl _, Nat.le_refl _⟩ rfl dX3_takeRing_13 (fun z_13 h_13 => ?_)
        have h_13 : z_13 = rx (sI (sI u 0 f1) 1 g1) r i ∧ ∀ K : Int, 0 ≤ K → RB K (sI (sI u 0 f1) 1 g1) r → -K ≤ z_13 ∧ z_13 ≤ K := h_13
        have hb_13 := h_13.2 80 (by omega) (p1)
        refine lv_aload_n SS.1 SS.2.1 dX3_takeRing_16 rfl (lv_at hl 1 rfl) ?_
        refine lv_iload_n SS.1 SS.2.1 dX3_takeRing_17 rfl (lv_at hl 2 rfl) ?_
        refine j_uRi SS (As := [.int (J i)]) (rest := [.int (J z_13), .ref (q 2)]) (c_X8_y l D q (sI (sI u 0 f1) 1 g1) r (by omega) i (show -2147483648 ≤ i ∧ i ≤ 2147483647 from (by omega))) mu_7_y kw_443 hG hP hP (ci := 7) (q0 := (9 + 5 * r)) rfl (cw_ring (by omega)) rfl rfl hl.1 ⟨⟨Nat.le_of_ble_eq_true rfl, Nat.le_of_ble_eq_true rfl⟩, Nat.le_of_ble_eq_true rfl, Nat.le_refl _, Nat.le_refl _⟩ rfl dX3_takeRing_18 (fun z_18 h_18 => ?_)
        have h_18 : z_18 = ry9 (sI (sI u 0 f1) 1 g1) r i ∧ ∀ K : Int, 0 ≤ K → RB K (sI (sI u 0 f1) 1 g1) r → -K ≤ z_18 ∧ z_18 ≤ K := h_18
        have hb_18 := h_18.2 80 (by omega) (p1)
        have ex : z_13 = u.1.1 r i.toNat := by rw [h_13.1]; exact if_pos (by omega)
        have ey : z_18 = u.1.2.1 r i.toNat := by rw [h_18.1]; exact if_pos (by omega)
        refine j_vWv SS (As := [.int (J z_13), .int (J z_18)]) (rest := []) (c_X3_take l D q (sI (sI u 0 f1) 1 g1) A (cW_D hD)  z_13 z_18 (show HU_ (f1) (g1) from (i2_1)) (show -1000 ≤ z_13 ∧ z_13 ≤ 1000 from (by omega)) (show -2147483648 ≤ z_18 ∧ z_18 ≤ 2147483647 from (by omega))) mf_X3_take kw_482 hG hP hP (ci := 3) (q0 := 2) rfl rfl rfl hS (fun _ h => h) rfl hl.1 ⟨⟨Nat.le_of_ble_eq_true rfl, Nat.le_of_ble_eq_true rfl⟩, Nat.le_of_ble_eq_true rfl, Nat.le_refl _, Nat.le_refl _⟩ rfl dX3_takeRing_21 (fun u21 H locs h_21 hP _ hS => ?_)
        obtain ⟨f_21, g_21, rfl, h_21⟩ := h_21
        have hP : va_P D.1 j_cl (cW D q (sI (sI u 0 f_21) 1 g_21)) H := hP
        have h_21 : ((-80 ≤ z_13 ∧ z_13 ≤ 80 ∧ -80 ≤ z_18 ∧ z_18 ≤ 80) ∧ f_21 = upI (f1) (z_13 + 80).toNat (min (f1 (z_13 + 80).toNat) z_18) ∧ g_21 = upI (g1) (z_13 + 80).toNat (max (g1 (z_13 + 80).toNat) z_18) ∨ ¬ (-80 ≤ z_13 ∧ z_13 ≤ 80 ∧ -80 ≤ z_18 ∧ z_18 ≤ 80) ∧ f_21 = f1 ∧ g_21 = g1) ∧ HU_ f_21 g_21 := h_21
        refine lv_iinc (v := J (i + 1)) (lv' := [(2, .int (J (i + 1))), (0, .ref (q 2)), (1, .ref (q (9 + 5 * r)))]) SS.1 SS.2.1 dX3_takeRing_24 hl (k := 2) rfl (J_add _ _) (by decide) rfl (fun ls hl => ?_)
        refine lv_goto (tgt := 2) SS.1 SS.2.1 dX3_takeRing_27 (by decide) ?_
        exact ih_2 (i + 1) f_21 g_21 _ _ hP hS ls (lv_sub hl [1, 2, 0] rfl) (by omega) (h_21.2) (fun S h => by have q := i2_2 S h; rcases h_21.1 with ⟨w1, w2, w3⟩ | ⟨w1, _⟩; (rw [w2, w3]; exact HUL_c (HUL_t q (by omega) (by omega)) (fun x y => rp_s i2_0.1 ex ey x y)); omega) (by omega)
  exact L_2 ((u.1.2.2.1 r - (0 : Int)).toNat + 1) 0 (u.2.1 0) (u.2.1 1) _ _ hP hS ls (lv_sub hl [1, 2, 0] rfl) (by omega) (p0) (fun S h => HUL_c h (fun x y => ⟨fun q => by rcases q with q | ⟨a, q1, _⟩; exact q; omega, Or.inl⟩)) (Nat.lt_succ_self _)

set_option maxHeartbeats 4000000 in
set_option maxRecDepth 100000 in
theorem c_X3_closeSum2 (l : Launch) (D : JD) (q : Nat → Nat) (u : CS) (A : Nat → Prop) (hD : va_D A (cW D q u)) (r : Nat) (hr : r ≤ 8) (r2 : Nat) (hr2 : r2 ≤ 8) (p0 : HU_ (u.2.1 0) (u.2.1 1)) (p1 : RB 40 u r) (p2 : RB 40 u r2) (p3 : RB 80 u 8) : Met l yX3_closeSum (jw yX3_closeSum cX3_closeSum 5 none) (jr 4 91) (jP [.ref (q 2), .ref (q (9 + 5 * r)), .ref (q (9 + 5 * r2))] D (fun H => va_P D.1 j_cl (cW D q u) H)) (jWv (fun u' => ∃ f : Nat → Int, ∃ g : Nat → Int, ∃ f8 : Nat → Int, ∃ g8 : Nat → Int, ∃ n8 : Int, u' = (sY (sX (sI (sI (sC u 8 n8) 0 f) 1 g) 8 f8) 8 g8) ∧ (HU_ f g ∧ (0 ≤ n8 ∧ n8 ≤ 323) ∧ RV 80 f8 g8 ∧ HS (SM (RP u r) (RP u r2)) n8 f8 g8)) (fun u' H => va_P D.1 j_cl (cW D q u') H) A) 0 0 A := by
  refine Met.ofW (cc := cX3_closeSum) (maxL := 5) (ret := none) (by decide) rfl ?_
  intro pr en st mi args below meth co s₁ B hml hv
  obtain ⟨rfl, hG, hP⟩ := hv
  have hr := B.returns
  have hlk := B.notSynchronized
  have SS : jS pr mi co cX3_closeSum 5 st _ RX3 := ⟨B.exec, B.bytes, hml, findClass_of_methodNamed B.named, fun w hw => atoms_spec (ws := (jw yX3_closeSum cX3_closeSum 5 none)) B.pre w (List.mem_cons_of_mem _ hw)⟩
  have hl := lv_entry ([.ref (q 2), .ref (q (9 + 5 * r)), .ref (q (9 + 5 * r2))]) (n := 5) (Nat.le_of_ble_eq_true rfl)
  rw [lg_entry_eq]
  generalize (lg_sl ([.ref (q 2), .ref (q (9 + 5 * r)), .ref (q (9 + 5 * r2))]) ++ List.replicate (5 - (lg_sl ([.ref (q 2), .ref (q (9 + 5 * r)), .ref (q (9 + 5 * r2))])).length) Slot.unset).toArray = ls at hl ⊢
  have hl : lv_has ls 5 [(0, .ref (q 2)), (1, .ref (q (9 + 5 * r))), (2, .ref (q (9 + 5 * r2)))] := hl
  have hS : va_S A st.heap st.heap [] := va_S.rf
  have hc := p1.1
  have hc2 := p2.1
  have hrl := rl_b r
  have hrl2 := rl_b r2
  refine lv_aload_n SS.1 SS.2.1 dX3_closeSum_0 rfl (lv_at hl 0 rfl) ?_
  refine j_vWv SS (As := []) (rest := []) (c_X3_begin l D q u A (cW_D hD)   (show HU_ ((u.2.1 0)) ((u.2.1 1)) from (p0))) mf_X3_begin kw_690 hG hP hP (ci := 3) (q0 := 2) rfl rfl rfl hS (fun _ h => h) rfl hl.1 ⟨⟨Nat.le_of_ble_eq_true rfl, Nat.le_of_ble_eq_true rfl⟩, Nat.le_of_ble_eq_true rfl, Nat.le_refl _, Nat.le_refl _⟩ rfl dX3_closeSum_1 (fun u1 H locs h_1 hP _ hS => ?_)
  obtain ⟨f_1, g_1, rfl, h_1⟩ := h_1
  have hP : va_P D.1 j_cl (cW D q (sI (sI u 0 f_1) 1 g_1)) H := hP
  have h_1 : f_1 = jf ((u.2.1 0)) 81 161 ∧ g_1 = jf ((u.2.1 1)) (-81) 161 ∧ HU_ f_1 g_1 := h_1
  refine j_iconst SS dX3_closeSum_4 ?_
  refine lv_istore_n (lv' := [(3, .int (J 0)), (0, .ref (q 2)), (1, .ref (q (9 + 5 * r))), (2, .ref (q (9 + 5 * r2)))]) SS.1 SS.2.1 dX3_closeSum_5 rfl hl (by decide) rfl (fun ls hl => ?_)
  have L_6 : ∀ (nn : Nat) (i : Int) (f1 : Nat → Int) (g1 : Nat → Int) (H : Heap) (locs : List Loc) (hP : va_P D.1 j_cl (cW D q (sI (sI u 0 f1) 1 g1)) H) (hS : va_S A st.heap H locs) (ls : Array Slot) (hl : lv_has ls 5 [(0, .ref (q 2)), (1, .ref (q (9 + 5 * r))), (2, .ref (q (9 + 5 * r2))), (3, .int (J i))]) (i6_0 : 0 ≤ i ∧ i ≤ u.1.2.2.1 r) (i6_1 : HU_ f1 g1) (i6_2 : HUL (SM (RPi u r i) (RP u r2)) f1 g1), (u.1.2.2.1 r - i).toNat < nn → W pr l en (headSpec (jw yX3_closeSum cX3_closeSum 5 none) (jr 4 91)).room st mi (([.ref (q 2), .ref (q (9 + 5 * r)), .ref (q (9 + 5 * r2))] : List Value).toArray) below meth co H locs 0 0 (MQ below (jWv (fun u' => ∃ f : Nat → Int, ∃ g : Nat → Int, ∃ f8 : Nat → Int, ∃ g8 : Nat → Int, ∃ n8 : Int, u' = (sY (sX (sI (sI (sC u 8 n8) 0 f) 1 g) 8 f8) 8 g8) ∧ (HU_ f g ∧ (0 ≤ n8 ∧ n8 ≤ 323) ∧ RV 80 f8 g8 ∧ HS (SM (RP u r) (RP u r2)) n8 f8 g8)) (fun u' H => va_P D.1 j_cl (cW D q u') H) A) (([.ref (q 2), .ref (q (9 + 5 * r)), .ref (q (9 + 5 * r2))] : List Value).toArray) st 0 0 A) (F0 mi 6 ls []) := by
    intro nn
    induction nn with
    | zero => intros; omega
    | succ nn ih_6 =>
      intro i f1 g1 H locs hP hS ls hl i6_0 i6_1 i6_2 hm
      refine lv_iload_n SS.1 SS.2.1 dX3_closeSum_6 rfl (lv_at hl 3 rfl) ?_
      refine lv_aload_n SS.1 SS.2.1 dX3_closeSum_7 rfl (lv_at hl 1 rfl) ?_
      refine j_getS SS hG hP (9 + 5 * r) (v := .int (J (u.1.2.2.1 r))) (C := RX7) (T := TX7) (N := 3) (cw_ring (by omega)) rfl inX7 2 (by decide) (ref := "GridPolygons$Ring") kw_141 kw_132 rfl dX3_closeSum_8 ?_
      refine j_icmp_ge SS (tgt := 66) (x := i) (y := (u.1.2.2.1 r)) dX3_closeSum_11 (by decide) (by omega) (by omega) (fun c_11 => ?_) (fun c_11 => ?_)
      · skip
        refine lv_aload_n SS.1 SS.2.1 dX3_closeSum_66 rfl (lv_at hl 0 rfl) ?_
        refine j_vWv SS (As := []) (rest := []) (c_X3_close2 l D q (sI (sI u 0 f1) 1 g1) A (cW_D hD)   (show RB 80 (sI (sI u 0 f1) 1 g1) 8 from (p3)) (show HU_ (f1) (g1) from (i6_1))) mf_X3_close kw_691 hG hP hP (ci := 3) (q0 := 2) rfl rfl rfl hS (fun _ h => h) rfl hl.1 ⟨⟨Nat.le_of_ble_eq_true rfl, Nat.le_of_ble_eq_true rfl⟩, Nat.le_of_ble_eq_true rfl, Nat.le_refl _, Nat.le_refl _⟩ rfl dX3_closeSum_67 (fun u67 H locs h_67 hP _ hS => ?_)
        obtain ⟨f_67, g_67, n_67, rfl, h_67⟩ := h_67
        have hP : va_P D.1 j_cl (cW D q (sY (sX (sI (sI (sC u 8 n_67) 0 f1) 1 g1) 8 f_67) 8 g_67)) H := hP
        have h_67 : (0 ≤ n_67 ∧ n_67 ≤ 323) ∧ RV 80 f_67 g_67 ∧ ∀ S : Int → Int → Prop, HUL S (f1) (g1) → HS S n_67 f_67 g_67 := h_67
        exact W.vret SS.1 SS.2.1 hr (fun t0 ht hW => ⟨⟨(sY (sX (sI (sI (sC u 8 n_67) 0 f1) 1 g1) 8 f_67) 8 g_67), rfl, (⟨f1, g1, f_67, g_67, n_67, rfl, ⟨i6_1, h_67.1, h_67.2.1, h_67.2.2 _ (by rw [show i = u.1.2.2.1 r by omega] at i6_2; exact i6_2)⟩⟩), by show va_P D.1 j_cl (cW D q (sY (sX (sI (sI (sC u 8 n_67) 0 f1) 1 g1) 8 f_67) 8 g_67)) t0.heap; rw [ht]; first | exact hP | (simp only [sC_id, sX_id, sY_id, sH_id, sT_id, sV_id]; exact hP)⟩, hS.F ht⟩) hS.2.2 dX3_closeSum_70 hlk
      · skip
        refine j_iconst SS dX3_closeSum_14 ?_
        refine lv_istore (lv' := [(4, .int (J 0)), (0, .ref (q 2)), (1, .ref (q (9 + 5 * r))), (2, .ref (q (9 + 5 * r2))), (3, .int (J i))]) SS.1 SS.2.1 dX3_closeSum_15 hl (by decide) rfl (fun ls hl => ?_)
        have L_17 : ∀ (nn : Nat) (j : Int) (f2 : Nat → Int) (g2 : Nat → Int) (H : Heap) (locs : List Loc) (hP : va_P D.1 j_cl (cW D q (sI (sI u 0 f2) 1 g2)) H) (hS : va_S A st.heap H locs) (ls : Array Slot) (hl : lv_has ls 5 [(0, .ref (q 2)), (1, .ref (q (9 + 5 * r))), (2, .ref (q (9 + 5 * r2))), (3, .int (J i)), (4, .int (J j))]) (i17_0 : 0 ≤ j ∧ j ≤ u.1.2.2.1 r2) (i17_1 : HU_ f2 g2) (i17_2 : HUL (fun x y => SM (RPi u r i) (RP u r2) x y ∨ ∃ b : Nat, (b : Int) < j ∧ x = u.1.1 r i.toNat + u.1.1 r2 b ∧ y = u.1.2.1 r i.toNat + u.1.2.1 r2 b) f2 g2), (u.1.2.2.1 r2 - j).toNat < nn → W pr l en (headSpec (jw yX3_closeSum cX3_closeSum 5 none) (jr 4 91)).room st mi (([.ref (q 2), .ref (q (9 + 5 * r)), .ref (q (9 + 5 * r2))] : List Value).toArray) below meth co H locs 0 0 (MQ below (jWv (fun u' => ∃ f : Nat → Int, ∃ g : Nat → Int, ∃ f8 : Nat → Int, ∃ g8 : Nat → Int, ∃ n8 : Int, u' = (sY (sX (sI (sI (sC u 8 n8) 0 f) 1 g) 8 f8) 8 g8) ∧ (HU_ f g ∧ (0 ≤ n8 ∧ n8 ≤ 323) ∧ RV 80 f8 g8 ∧ HS (SM (RP u r) (RP u r2)) n8 f8 g8)) (fun u' H => va_P D.1 j_cl (cW D q u') H) A) (([.ref (q 2), .ref (q (9 + 5 * r)), .ref (q (9 + 5 * r2))] : List Value).toArray) st 0 0 A) (F0 mi 17 ls []) := by
          intro nn
          induction nn with
          | zero => intros; omega
          | succ nn ih_17 =>
            intro j f2 g2 H locs hP hS ls hl i17_0 i17_1 i17_2 hm
            refine lv_iload SS.1 SS.2.1 dX3_closeSum_17 (lv_at hl 4 rfl) ?_
            refine lv_aload_n SS.1 SS.2.1 dX3_closeSum_19 rfl (lv_at hl 2 rfl) ?_
            refine j_getS SS hG hP (9 + 5 * r2) (v := .int (J (u.1.2.2.1 r2))) (C := RX7) (T := TX7) (N := 3) (cw_ring (by omega)) rfl inX7 2 (by decide) (ref := "GridPolygons$Ring") kw_141 kw_132 rfl dX3_closeSum_20 ?_
            refine j_icmp_ge SS (tgt := 60) (x := j) (y := (u.1.2.2.1 r2)) dX3_closeSum_23 (by decide) (by omega) (by omega) (fun c_23 => ?_) (fun c_23 => ?_)
            · skip
              refine lv_iinc (v := J (i + 1)) (lv' := [(3, .int (J (i + 1))), (0, .ref (q 2)), (1, .ref (q (9 + 5 * r))), (2, .ref (q (9 + 5 * r2))), (4, .int (J j))]) SS.1 SS.2.1 dX3_closeSum_60 hl (k := 3) rfl (J_add _ _) (by decide) rfl (fun ls hl => ?_)
              refine lv_goto (tgt := 6) SS.1 SS.2.1 dX3_closeSum_63 (by decide) ?_
              exact ih_6 (i + 1) f2 g2 _ _ hP hS ls (lv_sub hl [1, 2, 3, 0] rfl) (by omega) (i17_1) (HUL_c i17_2 (fun x y => by rw [show j = u.1.2.2.1 r2 by omega]; exact RSi_s i6_0.1 x y)) (by omega)
            · skip
              refine lv_aload_n SS.1 SS.2.1 dX3_closeSum_26 rfl (lv_at hl 0 rfl) ?_
              refine lv_aload_n SS.1 SS.2.1 dX3_closeSum_27 rfl (lv_at hl 1 rfl) ?_
              refine lv_iload_n SS.1 SS.2.1 dX3_closeSum_28 rfl (lv_at hl 3 rfl) ?_
              refine j_uRi SS (As := [.int (J i)]) (rest := [.ref (q 2)]) (c_X8_x l D q (sI (sI u 0 f2) 1 g2) r (by omega) i (show -2147483648 ≤ i ∧ i ≤ 2147483647 from (by omega))) mu_7_x kw_437 hG hP hP (ci := 7) (q0 := (9 + 5 * r)) rfl (cw_ring (by omega)) rfl rfl hl.1 ⟨⟨Nat.le_of_ble_eq_true rfl, Nat.le_of_ble_eq_true rfl⟩, Nat.le_of_ble_eq_true rfl, Nat.le_refl _, Nat.le_refl _⟩ rfl dX3_closeSum_29 (fun z_29 h_29 => ?_)
              have h_29 : z_29 = rx (sI (sI u 0 f2) 1 g2) r i ∧ ∀ K : Int, 0 ≤ K → RB K (sI (sI u 0 f2) 1 g2) r → -K ≤ z_29 ∧ z_29 ≤ K := h_29
              have hb_29 := h_29.2 40 (by omega) (p1)
              refine lv_aload_n SS.1 SS.2.1 dX3_closeSum_32 rfl (lv_at hl 2 rfl) ?_
              refine lv_iload SS.1 SS.2.1 dX3_closeSum_33 (lv_at hl 4 rfl) ?_
              refine j_uRi SS (As := [.int (J j)]) (rest := [.int (J z_29), .ref (q 2)]) (c_X8_x l D q (sI (sI u 0 f2) 1 g2) r2 (by omega) j (show -2147483648 ≤ j ∧ j ≤ 2147483647 from (by omega))) mu_7_x kw_437 hG hP hP (ci := 7) (q0 := (9 + 5 * r2)) rfl (cw_ring (by omega)) rfl rfl hl.1 ⟨⟨Nat.le_of_ble_eq_true rfl, Nat.le_of_ble_eq_true rfl⟩, Nat.le_of_ble_eq_true rfl, Nat.le_refl _, Nat.le_refl _⟩ rfl dX3_closeSum_35 (fun z_35 h_35 => ?_)
              have h_35 : z_35 = rx (sI (sI u 0 f2) 1 g2) r2 j ∧ ∀ K : Int, 0 ≤ K → RB K (sI (sI u 0 f2) 1 g2) r2 → -K ≤ z_35 ∧ z_35 ≤ K := h_35
              have hb_35 := h_35.2 40 (by omega) (p2)
              refine j_iadd SS (x := z_29) (y := z_35) dX3_closeSum_38 ?_
              refine lv_aload_n SS.1 SS.2.1 dX3_closeSum_39 rfl (lv_at hl 1 rfl) ?_
              refine lv_iload_n SS.1 SS.2.1 dX3_closeSum_40 rfl (lv_at hl 3 rfl) ?_
              refine j_uRi SS (As := [.int (J i)]) (rest := [.int (J (z_29 + z_35)), .ref (q 2)]) (c_X8_y l D q (sI (sI u 0 f2) 1 g2) r (by omega) i (show -2147483648 ≤ i ∧ i ≤ 2147483647 from (by omega))) mu_7_y kw_443 hG hP hP (ci := 7) (q0 := (9 + 5 * r)) rfl (cw_ring (by omega)) rfl rfl hl.1 ⟨⟨Nat.le_of_ble_eq_true rfl, Nat.le_of_ble_eq_true rfl⟩, Nat.le_of_ble_eq_true rfl, Nat.le_refl _, Nat.le_refl _⟩ rfl dX3_closeSum_41 (fun z_41 h_41 => ?_)
              have h_41 : z_41 = ry9 (sI (sI u 0 f2) 1 g2) r i ∧ ∀ K : Int, 0 ≤ K → RB K (sI (sI u 0 f2) 1 g2) r → -K ≤ z_41 ∧ z_41 ≤ K := h_41
              have hb_41 := h_41.2 40 (by omega) (p1)
              refine lv_aload_n SS.1 SS.2.1 dX3_closeSum_44 rfl (lv_at hl 2 rfl) ?_
              refine lv_iload SS.1 SS.2.1 dX3_closeSum_45 (lv_at hl 4 rfl) ?_
              refine j_uRi SS (As := [.int (J j)]) (rest := [.int (J z_41), .int (J (z_29 + z_35)), .ref (q 2)]) (c_X8_y l D q (sI (sI u 0 f2) 1 g2) r2 (by omega) j (show -2147483648 ≤ j ∧ j ≤ 2147483647 from (by omega))) mu_7_y kw_443 hG hP hP (ci := 7) (q0 := (9 + 5 * r2)) rfl (cw_ring (by omega)) rfl rfl hl.1 ⟨⟨Nat.le_of_ble_eq_true rfl, Nat.le_of_ble_eq_true rfl⟩, Nat.le_of_ble_eq_true rfl, Nat.le_refl _, Nat.le_refl _⟩ rfl dX3_closeSum_47 (fun z_47 h_47 => ?_)
              have h_47 : z_47 = ry9 (sI (sI u 0 f2) 1 g2) r2 j ∧ ∀ K : Int, 0 ≤ K → RB K (sI (sI u 0 f2) 1 g2) r2 → -K ≤ z_47 ∧ z_47 ≤ K := h_47
              have hb_47 := h_47.2 40 (by omega) (p2)
              refine j_iadd SS (x := z_41) (y := z_47) dX3_closeSum_50 ?_
              have ex1 : z_29 = u.1.1 r i.toNat := by rw [h_29.1]; exact if_pos (by omega)
              have ex2 : z_35 = u.1.1 r2 j.toNat := by rw [h_35.1]; exact if_pos (by omega)
              have ey1 : z_41 = u.1.2.1 r i.toNat := by rw [h_41.1]; exact if_pos (by omega)
              have ey2 : z_47 = u.1.2.1 r2 j.toNat := by rw [h_47.1]; exact if_pos (by omega)
              refine j_vWv SS (As := [.int (J (z_29 + z_35)), .int (J (z_41 + z_47))]) (rest := []) (c_X3_take l D q (sI (sI u 0 f2) 1 g2) A (cW_D hD)  (z_29 + z_35) (z_41 + z_47) (show HU_ (f2) (g2) from (i17_1)) (show -1000 ≤ (z_29 + z_35) ∧ (z_29 + z_35) ≤ 1000 from (by omega)) (show -2147483648 ≤ (z_41 + z_47) ∧ (z_41 + z_47) ≤ 2147483647 from (by omega))) mf_X3_take kw_482 hG hP hP (ci := 3) (q0 := 2) rfl rfl rfl hS (fun _ h => h) rfl hl.1 ⟨⟨Nat.le_of_ble_eq_true rfl, Nat.le_of_ble_eq_true rfl⟩, Nat.le_of_ble_eq_true rfl, Nat.le_refl _, Nat.le_refl _⟩ rfl dX3_closeSum_51 (fun u51 H locs h_51 hP _ hS => ?_)
              obtain ⟨f_51, g_51, rfl, h_51⟩ := h_51
              have hP : va_P D.1 j_cl (cW D q (sI (sI u 0 f_51) 1 g_51)) H := hP
              have h_51 : ((-80 ≤ (z_29 + z_35) ∧ (z_29 + z_35) ≤ 80 ∧ -80 ≤ (z_41 + z_47) ∧ (z_41 + z_47) ≤ 80) ∧ f_51 = upI (f2) ((z_29 + z_35) + 80).toNat (min (f2 ((z_29 + z_35) + 80).toNat) (z_41 + z_47)) ∧ g_51 = upI (g2) ((z_29 + z_35) + 80).toNat (max (g2 ((z_29 + z_35) + 80).toNat) (z_41 + z_47)) ∨ ¬ (-80 ≤ (z_29 + z_35) ∧ (z_29 + z_35) ≤ 80 ∧ -80 ≤ (z_41 + z_47) ∧ (z_41 + z_47) ≤ 80) ∧ f_51 = f2 ∧ g_51 = g2) ∧ HU_ f_51 g_51 := h_51
              refine lv_iinc (v := J (j + 1)) (lv' := [(4, .int (J (j + 1))), (0, .ref (q 2)), (1, .ref (q (9 + 5 * r))), (2, .ref (q (9 + 5 * r2))), (3, .int (J i))]) SS.1 SS.2.1 dX3_closeSum_54 hl (k := 4) rfl (J_add _ _) (by decide) rfl (fun ls hl => ?_)
              refine lv_goto (tgt := 17) SS.1 SS.2.1 dX3_closeSum_57 (by decide) ?_
              exact ih_17 (j + 1) f_51 g_51 _ _ hP hS ls (lv_sub hl [1, 2, 3, 4, 0] rfl) (by omega) (h_51.2) (by rcases h_51.1 with ⟨w1, w2, w3⟩ | ⟨w1, _⟩; (rw [w2, w3]; exact HUL_c (HUL_t i17_2 (by omega) (by omega)) (fun x y => rs_s (A := u.1.1 r i.toNat) (C := u.1.2.1 r i.toNat) (x0 := z_29 + z_35) (y0 := z_41 + z_47) i17_0.1 (by rw [ex1, ex2]) (by rw [ey1, ey2]) x y)); omega) (by omega)
        exact L_17 ((u.1.2.2.1 r2 - (0 : Int)).toNat + 1) 0 f1 g1 _ _ hP hS ls (lv_sub hl [1, 2, 3, 4, 0] rfl) (by omega) (i6_1) (HUL_c i6_2 (fun x y => ⟨fun q => by rcases q with q | ⟨b, q1, _⟩; exact q; omega, Or.inl⟩)) (Nat.lt_succ_self _)
  exact L_6 ((u.1.2.2.1 r - (0 : Int)).toNat + 1) 0 f_1 g_1 _ _ hP hS ls (lv_sub hl [1, 2, 3, 0] rfl) (by omega) (h_1.2.2) (by rw [h_1.1, h_1.2.1]; exact HUL_c HUL_0 (fun x y => ⟨fun ⟨a, b, c, d, ⟨k, k1, _⟩, _⟩ => by omega, False.elim⟩)) (Nat.lt_succ_self _)

