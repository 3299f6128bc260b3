
set_option maxHeartbeats 4000000 in
set_option maxRecDepth 100000 in
theorem c_X11_clearF (l : Launch) (D : JD) (q : Nat → Nat) (u : CS) (A : Nat → Prop) (hD : va_D A (cW D q u)) (s : Int) (p0 : CI u) (p1 : -2147483648 ≤ s ∧ s ≤ 2147483647) : Met l yX11_clear (jw yX11_clear cX11_clear 4 (some .int)) (jr 4 91) (jP [.ref (q 0), .int (J s)] D (fun H => va_P D.1 j_cl (cW D q u) H)) (jWi (fun z u' => (CI u' ∧ clC u u' s z) ∧ kMut u u' s.toNat z) (fun u' H => va_P D.1 j_cl (cW D q u') H) A) 0 0 A := by
  refine Met.ofW (cc := cX11_clear) (maxL := 4) (ret := (some .int)) (by decide) rfl ?_
  intro pr en st mi args below meth co s₁ B hml hv
  obtain ⟨rfl, hG, hP⟩ := hv
  have hr := B.returns
  have hlk := B.notSynchronized
  have SS : jS pr mi co cX11_clear 4 st _ RX11 := ⟨B.exec, B.bytes, hml, findClass_of_methodNamed B.named, fun w hw => atoms_spec (ws := (jw yX11_clear cX11_clear 4 (some .int))) B.pre w (List.mem_cons_of_mem _ hw)⟩
  have hl := lv_entry ([.ref (q 0), .int (J s)]) (n := 4) (Nat.le_of_ble_eq_true rfl)
  rw [lg_entry_eq]
  generalize (lg_sl ([.ref (q 0), .int (J s)]) ++ List.replicate (4 - (lg_sl ([.ref (q 0), .int (J s)])).length) Slot.unset).toArray = ls at hl ⊢
  have hl : lv_has ls 4 [(0, .ref (q 0)), (1, .int (J s))] := hl
  have hS : va_S A st.heap st.heap [] := va_S.rf
  refine lv_aload_n SS.1 SS.2.1 dX11_clear_0 rfl (lv_at hl 0 rfl) ?_
  refine lv_iload_n SS.1 SS.2.1 dX11_clear_1 rfl (lv_at hl 1 rfl) ?_
  refine j_vSh SS (As := [.int (J s)]) (rest := []) (c_X11_shapeAt l D q u  s (show -2147483648 ≤ s ∧ s ≤ 2147483647 from (p1))) mf_X11_shapeAt kw_414 hG hP hP (ci := 11) (q0 := 0) rfl rfl rfl rfl hl.1 ⟨⟨Nat.le_of_ble_eq_true rfl, Nat.le_of_ble_eq_true rfl⟩, Nat.le_of_ble_eq_true rfl, Nat.le_refl _, Nat.le_refl _⟩ rfl dX11_clear_2 (fun i_2 hi_2 hz_2 => ?_) (fun hn_2 => ?_)
  · skip
    have hI2 := CI_s p0 (show i_2 < 8 by omega)
    have hI2c := hI2.1
    have hrl2 := rl_s (show i_2 < 8 by omega)
    refine lv_astore_n (lv' := [(2, .ref (q (8 + 5 * i_2))), (0, .ref (q 0)), (1, .int (J s))]) SS.1 SS.2.1 dX11_clear_5 rfl hl (by decide) rfl (fun ls hl => ?_)
    refine lv_aload_n SS.1 SS.2.1 dX11_clear_6 rfl (lv_at hl 0 rfl) ?_
    refine lv_ifnonnull SS.1 SS.2.1 (tgt := 12) dX11_clear_7 (by decide) ?_
    refine lv_aload_n SS.1 SS.2.1 dX11_clear_12 rfl (lv_at hl 0 rfl) ?_
    refine j_get SS hG hP (8 + 5 * i_2) (v := .ref (q (9 + 5 * i_2))) (C := RX10) (T := TX10) (N := 3) (cw_shape (by omega)) rfl inX10 0 (by decide) (ref := "GridPolygons$Shape") kw_151 rfl rfl dX11_clear_13 ?_
    refine j_getS SS hG hP (9 + 5 * i_2) (v := .int (J (u.1.2.2.1 i_2))) (C := RX7) (T := TX7) (N := 3) (cw_ring (by omega)) rfl inX7 2 (by decide) (ref := "GridPolygons$Ring") kw_135 kw_132 rfl dX11_clear_16 ?_
    refine lv_istore_n (lv' := [(3, .int (J (u.1.2.2.1 i_2))), (2, .ref (q (8 + 5 * i_2))), (0, .ref (q 0)), (1, .int (J s))]) SS.1 SS.2.1 dX11_clear_19 rfl hl (by decide) rfl (fun ls hl => ?_)
    refine lv_aload_n SS.1 SS.2.1 dX11_clear_20 rfl (lv_at hl 2 rfl) ?_
    refine j_get SS hG hP 0 (v := .ref (q 2)) (C := RX11) (T := TX11) (N := 8) rfl rfl inX11 1 (by decide) (ref := "GridPolygons") kw_386 rfl rfl dX11_clear_21 ?_
    refine j_vWv SS (As := []) (rest := []) (c_X3_begin l D q u A (cW_D hD)   (show HU_ ((u.2.1 0)) ((u.2.1 1)) from (p0.2.2.1))) mf_X3_begin kw_418 hG hP hP (ci := 3) (q0 := 2) rfl rfl rfl hS (fun _ h => h) rfl hl.1 ⟨⟨Nat.le_of_ble_eq_true rfl, Nat.le_of_ble_eq_true rfl⟩, Nat.le_of_ble_eq_true rfl, Nat.le_refl _, Nat.le_refl _⟩ rfl dX11_clear_24 (fun u24 H locs h_24 hP _ hS => ?_)
    obtain ⟨f_24, g_24, rfl, h_24⟩ := h_24
    have hP : va_P D.1 j_cl (cW D q (sI (sI u 0 f_24) 1 g_24)) H := hP
    have h_24 : f_24 = jf ((u.2.1 0)) 81 161 ∧ g_24 = jf ((u.2.1 1)) (-81) 161 ∧ HU_ f_24 g_24 := h_24
    refine lv_aload_n SS.1 SS.2.1 dX11_clear_27 rfl (lv_at hl 2 rfl) ?_
    refine j_get SS hG hP 0 (v := .ref (q 2)) (C := RX11) (T := TX11) (N := 8) rfl rfl inX11 1 (by decide) (ref := "GridPolygons") kw_386 rfl rfl dX11_clear_28 ?_
    refine j_vWv SS (As := []) (rest := []) (c_X3_close2 l D q (sI (sI u 0 f_24) 1 g_24) A (cW_D hD)   (show RB 80 (sI (sI u 0 f_24) 1 g_24) 8 from (p0.2.1.1)) (show HU_ (f_24) (g_24) from (h_24.2.2))) mf_X3_close kw_425 hG hP hP (ci := 3) (q0 := 2) rfl rfl rfl hS (fun _ h => h) rfl hl.1 ⟨⟨Nat.le_of_ble_eq_true rfl, Nat.le_of_ble_eq_true rfl⟩, Nat.le_of_ble_eq_true rfl, Nat.le_refl _, Nat.le_refl _⟩ rfl dX11_clear_31 (fun u31 H locs h_31 hP _ hS => ?_)
    obtain ⟨f_31, g_31, n_31, rfl, h_31⟩ := h_31
    have hP : va_P D.1 j_cl (cW D q (sY (sX (sI (sI (sC u 8 n_31) 0 f_24) 1 g_24) 8 f_31) 8 g_31)) H := hP
    have h_31 : (0 ≤ n_31 ∧ n_31 ≤ 323) ∧ RV 80 f_31 g_31 ∧ ∀ S : Int → Int → Prop, HUL S (f_24) (g_24) → HS S n_31 f_31 g_31 := h_31
    have hE : n_31 = 0 := by rcases h_31.2.2 _ (by rw [h_24.1, h_24.2.1]; exact HUL_0) with q | q; exact q.1; exact (show False from q.2.1).elim
    refine lv_aload_n SS.1 SS.2.1 dX11_clear_34 rfl (lv_at hl 2 rfl) ?_
    refine lv_aload_n SS.1 SS.2.1 dX11_clear_35 rfl (lv_at hl 1 rfl) ?_
    refine j_vWv SS (As := [.ref (q (8 + 5 * i_2))]) (rest := []) (c_X11_remakeS l D q (sY (sX (sI (sI (sC u 8 n_31) 0 f_24) 1 g_24) 8 f_31) 8 g_31) A (cW_D hD) i_2 (by omega)  (show CI (sY (sX (sI (sI (sC u 8 n_31) 0 f_24) 1 g_24) 8 f_31) 8 g_31) from (CI_8 (CI_h p0 h_24.2.2) h_31.1 h_31.2.1)) (show n_31 ≤ 24 from (by omega)) (show bd 40 (f_31) (g_31) (n_31) from (fun a ha => by omega))) mf_X11_remake kw_459 hG hP hP (ci := 11) (q0 := 0) rfl rfl rfl hS (fun _ h => h) rfl hl.1 ⟨⟨Nat.le_of_ble_eq_true rfl, Nat.le_of_ble_eq_true rfl⟩, Nat.le_of_ble_eq_true rfl, Nat.le_refl _, Nat.le_refl _⟩ rfl dX11_clear_36 (fun u36 H locs h_36 hP _ hS => ?_)
    obtain ⟨n_36, f_36, g_36, hh_36, tt_36, st0_36, rfl, h_36⟩ := h_36
    have hP : va_P D.1 j_cl (cW D q (sY (sY (sX (sX (sV (sT (sI (sI (sH (sC (sC u 8 n_31) i_2 n_36) i_2 hh_36) 0 f_24) 1 g_24) i_2 tt_36) 0 st0_36) 8 f_31) i_2 f_36) 8 g_31) i_2 g_36)) H := hP
    have h_36 : ((CI (sY (sY (sX (sX (sV (sT (sI (sI (sH (sC (sC u 8 n_31) i_2 n_36) i_2 hh_36) 0 f_24) 1 g_24) i_2 tt_36) 0 st0_36) 8 f_31) i_2 f_36) 8 g_31) i_2 g_36) ∧ n_36 = n_31 ∧ ∀ j : Nat, (j : Int) < n_36 → f_36 j = f_31 j ∧ g_36 j = g_31 j) ∧ ∀ a : Nat, a < 40 → hh_36 a = 0) ∧ ((u.2.2.2 0) < 2147483647 → tt_36 = (u.2.2.2 0) + 1 ∧ st0_36 = (u.2.2.2 0) + 1) := h_36
    obtain ⟨h_36, sz_36⟩ := h_36
    obtain ⟨h_36, hz_36⟩ := h_36
    refine lv_iload_n SS.1 SS.2.1 dX11_clear_39 rfl (lv_at hl 0 rfl) ?_
    exact W.iret SS.1 SS.2.1 hr (fun t0 ht hW => ⟨⟨_, (sY (sY (sX (sX (sV (sT (sI (sI (sH (sC (sC u 8 n_31) i_2 n_36) i_2 hh_36) 0 f_24) 1 g_24) i_2 tt_36) 0 st0_36) 8 f_31) i_2 f_36) 8 g_31) i_2 g_36), rfl, ⟨(u.1.2.2.1 i_2), rfl, (⟨⟨h_36.1, Or.inr ⟨by omega, by rw [show s.toNat = i_2 by omega], by rw [show s.toNat = i_2 by omega]; exact ⟨⟨(if_pos rfl).trans (h_36.2.1.trans hE), fun a ha => by omega⟩, fun r hr hne => ⟨(if_neg hne).trans (if_neg (by omega)), (if_neg hne).trans (if_neg (by omega)), (if_neg hne).trans (if_neg (by omega))⟩⟩⟩⟩, by rw [show s.toNat = i_2 by omega]; exact ⟨cHr_k (fun _ => rfl) (Or.inr ⟨by omega, hz_36⟩), sRel_k rfl (fun _ => rfl) (Or.inr ⟨by omega, sz_36⟩), ⟨⟨(by first | rfl | exact if_neg (by omega) | exact (if_neg (by omega)).trans (if_neg (by omega))), (by first | rfl | exact if_neg (by omega) | exact (if_neg (by omega)).trans (if_neg (by omega))), (by first | rfl | exact if_neg (by omega) | exact (if_neg (by omega)).trans (if_neg (by omega)))⟩, rfl, rfl, rfl⟩, ⟨⟨(by first | rfl | exact if_neg (by omega) | exact (if_neg (by omega)).trans (if_neg (by omega))), (by first | rfl | exact if_neg (by omega) | exact (if_neg (by omega)).trans (if_neg (by omega))), (by first | rfl | exact if_neg (by omega) | exact (if_neg (by omega)).trans (if_neg (by omega)))⟩, ⟨rfl, rfl, rfl, rfl, rfl⟩, ⟨rfl, rfl, rfl, rfl⟩, rfl, rfl, rfl, rfl, rfl⟩⟩⟩)⟩, by show va_P D.1 j_cl (cW D q (sY (sY (sX (sX (sV (sT (sI (sI (sH (sC (sC u 8 n_31) i_2 n_36) i_2 hh_36) 0 f_24) 1 g_24) i_2 tt_36) 0 st0_36) 8 f_31) i_2 f_36) 8 g_31) i_2 g_36)) t0.heap; rw [ht]; first | exact hP | (simp only [sC_id, sX_id, sY_id, sH_id, sT_id, sV_id]; exact hP)⟩, hS.F ht⟩) hS.2.2 dX11_clear_40 hlk
  · skip
    refine lv_astore_nN (lv' := [(2, .null), (0, .ref (q 0)), (1, .int (J s))]) SS.1 SS.2.1 dX11_clear_5 rfl hl (by decide) rfl (fun ls hl => ?_)
    refine lv_aload_nN SS.1 SS.2.1 dX11_clear_6 rfl (lv_at hl 0 rfl) ?_
    refine lv_ifnonnullN SS.1 SS.2.1 dX11_clear_7 ?_
    refine j_iconst SS dX11_clear_10 ?_
    exact W.iret SS.1 SS.2.1 hr (fun t0 ht hW => ⟨⟨_, u, rfl, ⟨(-1), rfl, (⟨⟨p0, Or.inl ⟨by omega, rfl, cs_refl⟩⟩, by first | exact kMut_n (by decide) | exact ⟨cHr_n (fun _ _ => rfl) (by decide), sRel_n ⟨rfl, fun _ _ => rfl⟩ (by decide), ⟨⟨(by first | rfl | exact if_neg (by omega) | exact (if_neg (by omega)).trans (if_neg (by omega))), (by first | rfl | exact if_neg (by omega) | exact (if_neg (by omega)).trans (if_neg (by omega))), (by first | rfl | exact if_neg (by omega) | exact (if_neg (by omega)).trans (if_neg (by omega)))⟩, rfl, rfl, rfl⟩, ⟨⟨(by first | rfl | exact if_neg (by omega) | exact (if_neg (by omega)).trans (if_neg (by omega))), (by first | rfl | exact if_neg (by omega) | exact (if_neg (by omega)).trans (if_neg (by omega))), (by first | rfl | exact if_neg (by omega) | exact (if_neg (by omega)).trans (if_neg (by omega)))⟩, ⟨rfl, rfl, rfl, rfl, rfl⟩, ⟨rfl, rfl, rfl, rfl⟩, rfl, rfl, rfl, rfl, rfl⟩⟩⟩)⟩, by show va_P D.1 j_cl (cW D q u) t0.heap; rw [ht]; first | exact hP | (simp only [sC_id, sX_id, sY_id, sH_id, sT_id, sV_id]; exact hP)⟩, hS.F ht⟩) hS.2.2 dX11_clear_11 hlk

set_option maxHeartbeats 4000000 in
set_option maxRecDepth 100000 in
theorem c_X11_addF (l : Launch) (D : JD) (q : Nat → Nat) (u : CS) (A : Nat → Prop) (hD : va_D A (cW D q u)) (s : Int) (x : Int) (y : Int) (p0 : CI u) (p1 : -2147483648 ≤ s ∧ s ≤ 2147483647) (p2 : -2147483648 ≤ x ∧ x ≤ 2147483647) (p3 : -2147483648 ≤ y ∧ y ≤ 2147483647) : Met l yX11_add (jw yX11_add cX11_add 5 (some .int)) (jr 4 91) (jP [.ref (q 0), .int (J s), .int (J x), .int (J y)] D (fun H => va_P D.1 j_cl (cW D q u) H)) (jWi (fun z u' => (CI u' ∧ adC u u' s x y z) ∧ kMut u u' s.toNat z) (fun u' H => va_P D.1 j_cl (cW D q u') H) A) 0 0 A := by
  refine Met.ofW (cc := cX11_add) (maxL := 5) (ret := (some .int)) (by decide) rfl ?_
  intro pr en st mi args below meth co s₁ B hml hv
  obtain ⟨rfl, hG, hP⟩ := hv
  have hr := B.returns
  have hlk := B.notSynchronized
  have SS : jS pr mi co cX11_add 5 st _ RX11 := ⟨B.exec, B.bytes, hml, findClass_of_methodNamed B.named, fun w hw => atoms_spec (ws := (jw yX11_add cX11_add 5 (some .int))) B.pre w (List.mem_cons_of_mem _ hw)⟩
  have hl := lv_entry ([.ref (q 0), .int (J s), .int (J x), .int (J y)]) (n := 5) (Nat.le_of_ble_eq_true rfl)
  rw [lg_entry_eq]
  generalize (lg_sl ([.ref (q 0), .int (J s), .int (J x), .int (J y)]) ++ List.replicate (5 - (lg_sl ([.ref (q 0), .int (J s), .int (J x), .int (J y)])).length) Slot.unset).toArray = ls at hl ⊢
  have hl : lv_has ls 5 [(0, .ref (q 0)), (1, .int (J s)), (2, .int (J x)), (3, .int (J y))] := hl
  have hS : va_S A st.heap st.heap [] := va_S.rf
  refine lv_aload_n SS.1 SS.2.1 dX11_add_0 rfl (lv_at hl 0 rfl) ?_
  refine lv_iload_n SS.1 SS.2.1 dX11_add_1 rfl (lv_at hl 1 rfl) ?_
  refine j_vSh SS (As := [.int (J s)]) (rest := []) (c_X11_shapeAt l D q u  s (show -2147483648 ≤ s ∧ s ≤ 2147483647 from (p1))) mf_X11_shapeAt kw_414 hG hP hP (ci := 11) (q0 := 0) rfl rfl rfl rfl hl.1 ⟨⟨Nat.le_of_ble_eq_true rfl, Nat.le_of_ble_eq_true rfl⟩, Nat.le_of_ble_eq_true rfl, Nat.le_refl _, Nat.le_refl _⟩ rfl dX11_add_2 (fun i_2 hi_2 hz_2 => ?_) (fun hn_2 => ?_)
  · skip
    have hI2 := CI_s p0 (show i_2 < 8 by omega)
    have hI2c := hI2.1
    have hrl2 := rl_s (show i_2 < 8 by omega)
    refine lv_astore (lv' := [(4, .ref (q (8 + 5 * i_2))), (0, .ref (q 0)), (1, .int (J s)), (2, .int (J x)), (3, .int (J y))]) SS.1 SS.2.1 dX11_add_5 hl (by decide) rfl (fun ls hl => ?_)
    refine lv_aload SS.1 SS.2.1 dX11_add_7 (lv_at hl 0 rfl) ?_
    refine lv_ifnull SS.1 SS.2.1 dX11_add_9 ?_
    refine lv_iload_n SS.1 SS.2.1 dX11_add_12 rfl (lv_at hl 3 rfl) ?_
    refine j_sRi SS (As := [.int (J x)]) (rest := []) (c_X11_onGrid l D  x (show -2147483648 ≤ x ∧ x ≤ 2147483647 from (p2))) mf_X11_onGrid kw_475 hG trivial rfl hl.1 ⟨⟨Nat.le_of_ble_eq_true rfl, Nat.le_of_ble_eq_true rfl⟩, Nat.le_of_ble_eq_true rfl, Nat.le_refl _, Nat.le_refl _⟩ rfl dX11_add_13 (fun z_13 h_13 => ?_)
    have h_13 : (z_13 = 1 ∧ (-40 ≤ x ∧ x ≤ 40)) ∨ (z_13 = 0 ∧ ¬ (-40 ≤ x ∧ x ≤ 40)) := h_13
    refine j_if_eq SS (tgt := 26) (x := z_13) dX11_add_16 (by decide) (by omega) (fun c_16 => ?_) (fun c_16 => ?_)
    · skip
      refine j_iconst SS dX11_add_26 ?_
      exact W.iret SS.1 SS.2.1 hr (fun t0 ht hW => ⟨⟨_, u, rfl, ⟨(-1), rfl, (⟨⟨p0, Or.inl ⟨by omega, rfl, cs_refl⟩⟩, by first | exact kMut_n (by decide) | exact ⟨cHr_n (fun _ _ => rfl) (by decide), sRel_n ⟨rfl, fun _ _ => rfl⟩ (by decide), ⟨⟨(by first | rfl | exact if_neg (by omega) | exact (if_neg (by omega)).trans (if_neg (by omega))), (by first | rfl | exact if_neg (by omega) | exact (if_neg (by omega)).trans (if_neg (by omega))), (by first | rfl | exact if_neg (by omega) | exact (if_neg (by omega)).trans (if_neg (by omega)))⟩, rfl, rfl, rfl⟩, ⟨⟨(by first | rfl | exact if_neg (by omega) | exact (if_neg (by omega)).trans (if_neg (by omega))), (by first | rfl | exact if_neg (by omega) | exact (if_neg (by omega)).trans (if_neg (by omega))), (by first | rfl | exact if_neg (by omega) | exact (if_neg (by omega)).trans (if_neg (by omega)))⟩, ⟨rfl, rfl, rfl, rfl, rfl⟩, ⟨rfl, rfl, rfl, rfl⟩, rfl, rfl, rfl, rfl, rfl⟩⟩⟩)⟩, by show va_P D.1 j_cl (cW D q u) t0.heap; rw [ht]; first | exact hP | (simp only [sC_id, sX_id, sY_id, sH_id, sT_id, sV_id]; exact hP)⟩, hS.F ht⟩) hS.2.2 dX11_add_27 hlk
    · skip
      refine lv_iload_n SS.1 SS.2.1 dX11_add_19 rfl (lv_at hl 4 rfl) ?_
      refine j_sRi SS (As := [.int (J y)]) (rest := []) (c_X11_onGrid l D  y (show -2147483648 ≤ y ∧ y ≤ 2147483647 from (p3))) mf_X11_onGrid kw_475 hG trivial rfl hl.1 ⟨⟨Nat.le_of_ble_eq_true rfl, Nat.le_of_ble_eq_true rfl⟩, Nat.le_of_ble_eq_true rfl, Nat.le_refl _, Nat.le_refl _⟩ rfl dX11_add_20 (fun z_20 h_20 => ?_)
      have h_20 : (z_20 = 1 ∧ (-40 ≤ y ∧ y ≤ 40)) ∨ (z_20 = 0 ∧ ¬ (-40 ≤ y ∧ y ≤ 40)) := h_20
      refine j_if_ne SS (tgt := 28) (x := z_20) dX11_add_23 (by decide) (by omega) (fun c_23 => ?_) (fun c_23 => ?_)
      · skip
        refine lv_aload_n SS.1 SS.2.1 dX11_add_28 rfl (lv_at hl 1 rfl) ?_
        refine j_get SS hG hP 0 (v := .ref (q 2)) (C := RX11) (T := TX11) (N := 8) rfl rfl inX11 1 (by decide) (ref := "GridPolygons") kw_386 rfl rfl dX11_add_29 ?_
        refine j_vWv SS (As := []) (rest := []) (c_X3_begin l D q u A (cW_D hD)   (show HU_ ((u.2.1 0)) ((u.2.1 1)) from (p0.2.2.1))) mf_X3_begin kw_418 hG hP hP (ci := 3) (q0 := 2) rfl rfl rfl hS (fun _ h => h) rfl hl.1 ⟨⟨Nat.le_of_ble_eq_true rfl, Nat.le_of_ble_eq_true rfl⟩, Nat.le_of_ble_eq_true rfl, Nat.le_refl _, Nat.le_refl _⟩ rfl dX11_add_32 (fun u32 H locs h_32 hP _ hS => ?_)
        obtain ⟨f_32, g_32, rfl, h_32⟩ := h_32
        have hP : va_P D.1 j_cl (cW D q (sI (sI u 0 f_32) 1 g_32)) H := hP
        have h_32 : f_32 = jf ((u.2.1 0)) 81 161 ∧ g_32 = jf ((u.2.1 1)) (-81) 161 ∧ HU_ f_32 g_32 := h_32
        refine lv_aload_n SS.1 SS.2.1 dX11_add_35 rfl (lv_at hl 1 rfl) ?_
        refine j_get SS hG hP 0 (v := .ref (q 2)) (C := RX11) (T := TX11) (N := 8) rfl rfl inX11 1 (by decide) (ref := "GridPolygons") kw_386 rfl rfl dX11_add_36 ?_
        refine lv_aload SS.1 SS.2.1 dX11_add_39 (lv_at hl 0 rfl) ?_
        refine j_get SS hG hP (8 + 5 * i_2) (v := .ref (q (9 + 5 * i_2))) (C := RX10) (T := TX10) (N := 3) (cw_shape (by omega)) rfl inX10 0 (by decide) (ref := "GridPolygons$Shape") kw_151 rfl rfl dX11_add_41 ?_
        refine j_vWv SS (As := [.ref (q (9 + 5 * i_2))]) (rest := []) (c_X3_takeRing2 l D q (sI (sI u 0 f_32) 1 g_32) A (cW_D hD) i_2 (by omega)  (show HU_ (f_32) (g_32) from (h_32.2.2)) (show RB 80 (sI (sI u 0 f_32) 1 g_32) i_2 from (hI2))) mf_X3_takeRing kw_478 hG hP hP (ci := 3) (q0 := 2) rfl rfl rfl hS (fun _ h => h) rfl hl.1 ⟨⟨Nat.le_of_ble_eq_true rfl, Nat.le_of_ble_eq_true rfl⟩, Nat.le_of_ble_eq_true rfl, Nat.le_refl _, Nat.le_refl _⟩ rfl dX11_add_44 (fun u44 H locs h_44 hP _ hS => ?_)
        obtain ⟨f_44, g_44, rfl, h_44⟩ := h_44
        have hP : va_P D.1 j_cl (cW D q (sI (sI u 0 f_44) 1 g_44)) H := hP
        have h_44 : HU_ f_44 g_44 ∧ ∀ S : Int → Int → Prop, HUL S (f_32) (g_32) → HUL (fun x y => S x y ∨ RP (sI (sI u 0 f_32) 1 g_32) i_2 x y) f_44 g_44 := h_44
        refine lv_aload_n SS.1 SS.2.1 dX11_add_47 rfl (lv_at hl 1 rfl) ?_
        refine j_get SS hG hP 0 (v := .ref (q 2)) (C := RX11) (T := TX11) (N := 8) rfl rfl inX11 1 (by decide) (ref := "GridPolygons") kw_386 rfl rfl dX11_add_48 ?_
        refine lv_iload_n SS.1 SS.2.1 dX11_add_51 rfl (lv_at hl 3 rfl) ?_
        refine lv_iload_n SS.1 SS.2.1 dX11_add_52 rfl (lv_at hl 4 rfl) ?_
        refine j_vWv SS (As := [.int (J x), .int (J y)]) (rest := []) (c_X3_take l D q (sI (sI u 0 f_44) 1 g_44) A (cW_D hD)  x y (show HU_ (f_44) (g_44) from (h_44.1)) (show -1000 ≤ x ∧ x ≤ 1000 from (by omega)) (show -2147483648 ≤ y ∧ y ≤ 2147483647 from (by omega))) mf_X3_take kw_492 hG hP hP (ci := 3) (q0 := 2) rfl rfl rfl hS (fun _ h => h) rfl hl.1 ⟨⟨Nat.le_of_ble_eq_true rfl, Nat.le_of_ble_eq_true rfl⟩, Nat.le_of_ble_eq_true rfl, Nat.le_refl _, Nat.le_refl _⟩ rfl dX11_add_53 (fun u53 H locs h_53 hP _ hS => ?_)
        obtain ⟨f_53, g_53, rfl, h_53⟩ := h_53
        have hP : va_P D.1 j_cl (cW D q (sI (sI u 0 f_53) 1 g_53)) H := hP
        have h_53 : ((-80 ≤ x ∧ x ≤ 80 ∧ -80 ≤ y ∧ y ≤ 80) ∧ f_53 = upI (f_44) (x + 80).toNat (min (f_44 (x + 80).toNat) y) ∧ g_53 = upI (g_44) (x + 80).toNat (max (g_44 (x + 80).toNat) y) ∨ ¬ (-80 ≤ x ∧ x ≤ 80 ∧ -80 ≤ y ∧ y ≤ 80) ∧ f_53 = f_44 ∧ g_53 = g_44) ∧ HU_ f_53 g_53 := h_53
        refine lv_aload_n SS.1 SS.2.1 dX11_add_56 rfl (lv_at hl 1 rfl) ?_
        refine j_get SS hG hP 0 (v := .ref (q 2)) (C := RX11) (T := TX11) (N := 8) rfl rfl inX11 1 (by decide) (ref := "GridPolygons") kw_386 rfl rfl dX11_add_57 ?_
        have hU : HUL (fun a b => RP u i_2 a b ∨ (a = x ∧ b = y)) f_53 g_53 := by have q := h_44.2 (fun _ _ => False) (by rw [h_32.1, h_32.2.1]; exact HUL_0); have q2 := HUL_t q (show -80 ≤ x ∧ x ≤ 80 by omega) (show -80 ≤ y ∧ y ≤ 80 by omega); rcases h_53.1 with ⟨w1, w2, w3⟩ | ⟨w1, _⟩; (rw [w2, w3]; exact HUL_c q2 (fun a b => ⟨fun w => by rcases w with w | w; exact Or.inl (Or.inr w); exact Or.inr w, fun w => by rcases w with (w | w) | w; exact (show False from w).elim; exact Or.inl w; exact Or.inr w⟩)); omega
        refine j_vWv SS (As := []) (rest := []) (c_X3_close2 l D q (sI (sI u 0 f_53) 1 g_53) A (cW_D hD)   (show RB 80 (sI (sI u 0 f_53) 1 g_53) 8 from (p0.2.1.1)) (show HU_ (f_53) (g_53) from (h_53.2))) mf_X3_close kw_425 hG hP hP (ci := 3) (q0 := 2) rfl rfl rfl hS (fun _ h => h) rfl hl.1 ⟨⟨Nat.le_of_ble_eq_true rfl, Nat.le_of_ble_eq_true rfl⟩, Nat.le_of_ble_eq_true rfl, Nat.le_refl _, Nat.le_refl _⟩ rfl dX11_add_60 (fun u60 H locs h_60 hP _ hS => ?_)
        obtain ⟨f_60, g_60, n_60, rfl, h_60⟩ := h_60
        have hP : va_P D.1 j_cl (cW D q (sY (sX (sI (sI (sC u 8 n_60) 0 f_53) 1 g_53) 8 f_60) 8 g_60)) H := hP
        have h_60 : (0 ≤ n_60 ∧ n_60 ≤ 323) ∧ RV 80 f_60 g_60 ∧ ∀ S : Int → Int → Prop, HUL S (f_53) (g_53) → HS S n_60 f_60 g_60 := h_60
        refine lv_aload_n SS.1 SS.2.1 dX11_add_63 rfl (lv_at hl 1 rfl) ?_
        refine lv_aload SS.1 SS.2.1 dX11_add_64 (lv_at hl 0 rfl) ?_
        refine j_vWi SS (As := [.ref (q (8 + 5 * i_2))]) (rest := []) (c_X11_remakeIfFitsS l D q (sY (sX (sI (sI (sC u 8 n_60) 0 f_53) 1 g_53) 8 f_60) 8 g_60) A (cW_D hD) i_2 (by omega)  (show CI (sY (sX (sI (sI (sC u 8 n_60) 0 f_53) 1 g_53) 8 f_60) 8 g_60) from (CI_8 (CI_h p0 h_53.2) h_60.1 h_60.2.1))) mf_X11_remakeIfFits kw_493 hG hP hP (ci := 11) (q0 := 0) rfl rfl rfl hS (fun _ h => h) rfl hl.1 ⟨⟨Nat.le_of_ble_eq_true rfl, Nat.le_of_ble_eq_true rfl⟩, Nat.le_of_ble_eq_true rfl, Nat.le_refl _, Nat.le_refl _⟩ rfl dX11_add_66 (fun z_66 u66 H locs h_66 hP _ hS => ?_)
        obtain ⟨n_66, f_66, g_66, hh_66, tt_66, st0_66, rfl, h_66⟩ := h_66
        have hP : va_P D.1 j_cl (cW D q (sY (sY (sX (sX (sV (sT (sI (sI (sH (sC (sC u 8 n_60) i_2 n_66) i_2 hh_66) 0 f_53) 1 g_53) i_2 tt_66) 0 st0_66) 8 f_60) i_2 f_66) 8 g_60) i_2 g_66)) H := hP
        have h_66 : ((CI (sY (sY (sX (sX (sV (sT (sI (sI (sH (sC (sC u 8 n_60) i_2 n_66) i_2 hh_66) 0 f_53) 1 g_53) i_2 tt_66) 0 st0_66) 8 f_60) i_2 f_66) 8 g_60) i_2 g_66) ∧ ((z_66 = -3 ∧ ¬ (n_60 ≤ 24 ∧ bd 40 (f_60) (g_60) (n_60)) ∧ cSame (sY (sX (sI (sI (sC u 8 n_60) 0 f_53) 1 g_53) 8 f_60) 8 g_60) (sY (sY (sX (sX (sV (sT (sI (sI (sH (sC (sC u 8 n_60) i_2 n_66) i_2 hh_66) 0 f_53) 1 g_53) i_2 tt_66) 0 st0_66) 8 f_60) i_2 f_66) 8 g_60) i_2 g_66)) ∨ (z_66 = n_60 ∧ n_60 ≤ 24 ∧ bd 40 (f_60) (g_60) (n_60) ∧ cNew (sY (sX (sI (sI (sC u 8 n_60) 0 f_53) 1 g_53) 8 f_60) 8 g_60) (sY (sY (sX (sX (sV (sT (sI (sI (sH (sC (sC u 8 n_60) i_2 n_66) i_2 hh_66) 0 f_53) 1 g_53) i_2 tt_66) 0 st0_66) 8 f_60) i_2 f_66) 8 g_60) i_2 g_66) i_2 (n_60) (f_60) (g_60)))) ∧ ((z_66 = -3 ∧ hh_66 = (u.1.2.2.2.1 i_2)) ∨ (0 ≤ z_66 ∧ ∀ a : Nat, a < 40 → hh_66 a = 0))) ∧ ((z_66 = -3 ∧ tt_66 = (u.1.2.2.2.2 i_2) ∧ st0_66 = (u.2.2.2 0)) ∨ (0 ≤ z_66 ∧ ((u.2.2.2 0) < 2147483647 → tt_66 = (u.2.2.2 0) + 1 ∧ st0_66 = (u.2.2.2 0) + 1))) := h_66
        obtain ⟨h_66, sz_66⟩ := h_66
        obtain ⟨h_66, hz_66⟩ := h_66
        exact W.iret SS.1 SS.2.1 hr (fun t0 ht hW => ⟨⟨_, (sY (sY (sX (sX (sV (sT (sI (sI (sH (sC (sC u 8 n_60) i_2 n_66) i_2 hh_66) 0 f_53) 1 g_53) i_2 tt_66) 0 st0_66) 8 f_60) i_2 f_66) 8 g_60) i_2 g_66), rfl, ⟨z_66, rfl, (⟨⟨h_66.1, Or.inr ⟨by omega, by omega, by rw [show s.toNat = i_2 by omega]; exact mkC_r (by first | exact cs_refl | exact (fun r hr => ⟨if_neg (by omega), if_neg (by omega), if_neg (by omega)⟩)) (h_60.2.2 _ hU) h_66.2⟩⟩, by rw [show s.toNat = i_2 by omega]; exact ⟨cHr_k (fun _ => rfl) hz_66, sRel_k rfl (fun _ => rfl) sz_66, ⟨⟨(by first | rfl | exact if_neg (by omega) | exact (if_neg (by omega)).trans (if_neg (by omega))), (by first | rfl | exact if_neg (by omega) | exact (if_neg (by omega)).trans (if_neg (by omega))), (by first | rfl | exact if_neg (by omega) | exact (if_neg (by omega)).trans (if_neg (by omega)))⟩, rfl, rfl, rfl⟩, ⟨⟨(by first | rfl | exact if_neg (by omega) | exact (if_neg (by omega)).trans (if_neg (by omega))), (by first | rfl | exact if_neg (by omega) | exact (if_neg (by omega)).trans (if_neg (by omega))), (by first | rfl | exact if_neg (by omega) | exact (if_neg (by omega)).trans (if_neg (by omega)))⟩, ⟨rfl, rfl, rfl, rfl, rfl⟩, ⟨rfl, rfl, rfl, rfl⟩, rfl, rfl, rfl, rfl, rfl⟩⟩⟩)⟩, by show va_P D.1 j_cl (cW D q (sY (sY (sX (sX (sV (sT (sI (sI (sH (sC (sC u 8 n_60) i_2 n_66) i_2 hh_66) 0 f_53) 1 g_53) i_2 tt_66) 0 st0_66) 8 f_60) i_2 f_66) 8 g_60) i_2 g_66)) t0.heap; rw [ht]; first | exact hP | (simp only [sC_id, sX_id, sY_id, sH_id, sT_id, sV_id]; exact hP)⟩, hS.F ht⟩) hS.2.2 dX11_add_69 hlk
      · skip
        refine j_iconst SS dX11_add_26 ?_
        exact W.iret SS.1 SS.2.1 hr (fun t0 ht hW => ⟨⟨_, u, rfl, ⟨(-1), rfl, (⟨⟨p0, Or.inl ⟨by omega, rfl, cs_refl⟩⟩, by first | exact kMut_n (by decide) | exact ⟨cHr_n (fun _ _ => rfl) (by decide), sRel_n ⟨rfl, fun _ _ => rfl⟩ (by decide), ⟨⟨(by first | rfl | exact if_neg (by omega) | exact (if_neg (by omega)).trans (if_neg (by omega))), (by first | rfl | exact if_neg (by omega) | exact (if_neg (by omega)).trans (if_neg (by omega))), (by first | rfl | exact if_neg (by omega) | exact (if_neg (by omega)).trans (if_neg (by omega)))⟩, rfl, rfl, rfl⟩, ⟨⟨(by first | rfl | exact if_neg (by omega) | exact (if_neg (by omega)).trans (if_neg (by omega))), (by first | rfl | exact if_neg (by omega) | exact (if_neg (by omega)).trans (if_neg (by omega))), (by first | rfl | exact if_neg (by omega) | exact (if_neg (by omega)).trans (if_neg (by omega)))⟩, ⟨rfl, rfl, rfl, rfl, rfl⟩, ⟨rfl, rfl, rfl, rfl⟩, rfl, rfl, rfl, rfl, rfl⟩⟩⟩)⟩, by show va_P D.1 j_cl (cW D q u) t0.heap; rw [ht]; first | exact hP | (simp only [sC_id, sX_id, sY_id, sH_id, sT_id, sV_id]; exact hP)⟩, hS.F ht⟩) hS.2.2 dX11_add_27 hlk
  · skip
    refine lv_astoreN (lv' := [(4, .null), (0, .ref (q 0)), (1, .int (J s)), (2, .int (J x)), (3, .int (J y))]) SS.1 SS.2.1 dX11_add_5 hl (by decide) rfl (fun ls hl => ?_)
    refine lv_aloadN SS.1 SS.2.1 dX11_add_7 (lv_at hl 0 rfl) ?_
    refine lv_ifnullN SS.1 SS.2.1 (tgt := 26) dX11_add_9 (by decide) ?_
    refine j_iconst SS dX11_add_26 ?_
    exact W.iret SS.1 SS.2.1 hr (fun t0 ht hW => ⟨⟨_, u, rfl, ⟨(-1), rfl, (⟨⟨p0, Or.inl ⟨by omega, rfl, cs_refl⟩⟩, by first | exact kMut_n (by decide) | exact ⟨cHr_n (fun _ _ => rfl) (by decide), sRel_n ⟨rfl, fun _ _ => rfl⟩ (by decide), ⟨⟨(by first | rfl | exact if_neg (by omega) | exact (if_neg (by omega)).trans (if_neg (by omega))), (by first | rfl | exact if_neg (by omega) | exact (if_neg (by omega)).trans (if_neg (by omega))), (by first | rfl | exact if_neg (by omega) | exact (if_neg (by omega)).trans (if_neg (by omega)))⟩, rfl, rfl, rfl⟩, ⟨⟨(by first | rfl | exact if_neg (by omega) | exact (if_neg (by omega)).trans (if_neg (by omega))), (by first | rfl | exact if_neg (by omega) | exact (if_neg (by omega)).trans (if_neg (by omega))), (by first | rfl | exact if_neg (by omega) | exact (if_neg (by omega)).trans (if_neg (by omega)))⟩, ⟨rfl, rfl, rfl, rfl, rfl⟩, ⟨rfl, rfl, rfl, rfl⟩, rfl, rfl, rfl, rfl, rfl⟩⟩⟩)⟩, by show va_P D.1 j_cl (cW D q u) t0.heap; rw [ht]; first | exact hP | (simp only [sC_id, sX_id, sY_id, sH_id, sT_id, sV_id]; exact hP)⟩, hS.F ht⟩) hS.2.2 dX11_add_27 hlk

set_option maxHeartbeats 4000000 in
set_option maxRecDepth 100000 in
theorem c_X11_sumF (l : Launch) (D : JD) (q : Nat → Nat) (u : CS) (A : Nat → Prop) (hD : va_D A (cW D q u)) (s : Int) (s2 : Int) (to : Int) (p0 : CI u) (p1 : -2147483648 ≤ s ∧ s ≤ 2147483647) (p2 : -2147483648 ≤ s2 ∧ s2 ≤ 2147483647) (p3 : -2147483648 ≤ to ∧ to ≤ 2147483647) : Met l yX11_sum (jw yX11_sum cX11_sum 7 (some .int)) (jr 5 115) (jP [.ref (q 0), .int (J s), .int (J s2), .int (J to)] D (fun H => va_P D.1 j_cl (cW D q u) H)) (jWi (fun z u' => (CI u' ∧ smC u u' s s2 to z) ∧ kMut u u' to.toNat z) (fun u' H => va_P D.1 j_cl (cW D q u') H) A) 0 0 A := by
  refine Met.ofW (cc := cX11_sum) (maxL := 7) (ret := (some .int)) (by decide) rfl ?_
  intro pr en st mi args below meth co s₁ B hml hv
  obtain ⟨rfl, hG, hP⟩ := hv
  have hr := B.returns
  have hlk := B.notSynchronized
  have SS : jS pr mi co cX11_sum 7 st _ RX11 := ⟨B.exec, B.bytes, hml, findClass_of_methodNamed B.named, fun w hw => atoms_spec (ws := (jw yX11_sum cX11_sum 7 (some .int))) B.pre w (List.mem_cons_of_mem _ hw)⟩
  have hl := lv_entry ([.ref (q 0), .int (J s), .int (J s2), .int (J to)]) (n := 7) (Nat.le_of_ble_eq_true rfl)
  rw [lg_entry_eq]
  generalize (lg_sl ([.ref (q 0), .int (J s), .int (J s2), .int (J to)]) ++ List.replicate (7 - (lg_sl ([.ref (q 0), .int (J s), .int (J s2), .int (J to)])).length) Slot.unset).toArray = ls at hl ⊢
  have hl : lv_has ls 7 [(0, .ref (q 0)), (1, .int (J s)), (2, .int (J s2)), (3, .int (J to))] := hl
  have hS : va_S A st.heap st.heap [] := va_S.rf
  refine lv_aload_n SS.1 SS.2.1 dX11_sum_0 rfl (lv_at hl 0 rfl) ?_
  refine lv_iload_n SS.1 SS.2.1 dX11_sum_1 rfl (lv_at hl 1 rfl) ?_
  refine j_vSh SS (As := [.int (J s)]) (rest := []) (c_X11_shapeAt l D q u  s (show -2147483648 ≤ s ∧ s ≤ 2147483647 from (p1))) mf_X11_shapeAt kw_414 hG hP hP (ci := 11) (q0 := 0) rfl rfl rfl rfl hl.1 ⟨⟨Nat.le_of_ble_eq_true rfl, Nat.le_of_ble_eq_true rfl⟩, Nat.le_of_ble_eq_true rfl, Nat.le_refl _, Nat.le_refl _⟩ rfl dX11_sum_2 (fun i_2 hi_2 hz_2 => ?_) (fun hn_2 => ?_)
  · skip
    have hI2 := CI_s p0 (show i_2 < 8 by omega)
    have hI2c := hI2.1
    have hrl2 := rl_s (show i_2 < 8 by omega)
    refine lv_astore (lv' := [(4, .ref (q (8 + 5 * i_2))), (0, .ref (q 0)), (1, .int (J s)), (2, .int (J s2)), (3, .int (J to))]) SS.1 SS.2.1 dX11_sum_5 hl (by decide) rfl (fun ls hl => ?_)
    refine lv_aload_n SS.1 SS.2.1 dX11_sum_7 rfl (lv_at hl 1 rfl) ?_
    refine lv_iload_n SS.1 SS.2.1 dX11_sum_8 rfl (lv_at hl 3 rfl) ?_
    refine j_vSh SS (As := [.int (J s2)]) (rest := []) (c_X11_shapeAt l D q u  s2 (show -2147483648 ≤ s2 ∧ s2 ≤ 2147483647 from (p2))) mf_X11_shapeAt kw_414 hG hP hP (ci := 11) (q0 := 0) rfl rfl rfl rfl hl.1 ⟨⟨Nat.le_of_ble_eq_true rfl, Nat.le_of_ble_eq_true rfl⟩, Nat.le_of_ble_eq_true rfl, Nat.le_refl _, Nat.le_refl _⟩ rfl dX11_sum_9 (fun i_9 hi_9 hz_9 => ?_) (fun hn_9 => ?_)
    · skip
      refine lv_astore (lv' := [(5, .ref (q (8 + 5 * i_9))), (4, .ref (q (8 + 5 * i_2))), (0, .ref (q 0)), (1, .int (J s)), (2, .int (J s2)), (3, .int (J to))]) SS.1 SS.2.1 dX11_sum_12 hl (by decide) rfl (fun ls hl => ?_)
      refine lv_aload_n SS.1 SS.2.1 dX11_sum_14 rfl (lv_at hl 2 rfl) ?_
      refine lv_iload_n SS.1 SS.2.1 dX11_sum_15 rfl (lv_at hl 5 rfl) ?_
      refine j_vSh SS (As := [.int (J to)]) (rest := []) (c_X11_shapeAt l D q u  to (show -2147483648 ≤ to ∧ to ≤ 2147483647 from (p3))) mf_X11_shapeAt kw_414 hG hP hP (ci := 11) (q0 := 0) rfl rfl rfl rfl hl.1 ⟨⟨Nat.le_of_ble_eq_true rfl, Nat.le_of_ble_eq_true rfl⟩, Nat.le_of_ble_eq_true rfl, Nat.le_refl _, Nat.le_refl _⟩ rfl dX11_sum_16 (fun i_16 hi_16 hz_16 => ?_) (fun hn_16 => ?_)
      · skip
        refine lv_astore (lv' := [(6, .ref (q (8 + 5 * i_16))), (5, .ref (q (8 + 5 * i_9))), (4, .ref (q (8 + 5 * i_2))), (0, .ref (q 0)), (1, .int (J s)), (2, .int (J s2)), (3, .int (J to))]) SS.1 SS.2.1 dX11_sum_19 hl (by decide) rfl (fun ls hl => ?_)
        refine lv_aload SS.1 SS.2.1 dX11_sum_21 (lv_at hl 2 rfl) ?_
        refine lv_ifnull SS.1 SS.2.1 dX11_sum_23 ?_
        refine lv_aload SS.1 SS.2.1 dX11_sum_26 (lv_at hl 1 rfl) ?_
        refine lv_ifnull SS.1 SS.2.1 dX11_sum_28 ?_
        refine lv_aload SS.1 SS.2.1 dX11_sum_31 (lv_at hl 0 rfl) ?_
        refine lv_ifnonnull SS.1 SS.2.1 (tgt := 38) dX11_sum_33 (by decide) ?_
        refine lv_aload_n SS.1 SS.2.1 dX11_sum_38 rfl (lv_at hl 3 rfl) ?_
        refine j_get SS hG hP 0 (v := .ref (q 2)) (C := RX11) (T := TX11) (N := 8) rfl rfl inX11 1 (by decide) (ref := "GridPolygons") kw_386 rfl rfl dX11_sum_39 ?_
        refine lv_aload SS.1 SS.2.1 dX11_sum_42 (lv_at hl 2 rfl) ?_
        refine j_get SS hG hP (8 + 5 * i_2) (v := .ref (q (9 + 5 * i_2))) (C := RX10) (T := TX10) (N := 3) (cw_shape (by omega)) rfl inX10 0 (by decide) (ref := "GridPolygons$Shape") kw_151 rfl rfl dX11_sum_44 ?_
        refine lv_aload SS.1 SS.2.1 dX11_sum_47 (lv_at hl 1 rfl) ?_
        refine j_get SS hG hP (8 + 5 * i_9) (v := .ref (q (9 + 5 * i_9))) (C := RX10) (T := TX10) (N := 3) (cw_shape (by omega)) rfl inX10 0 (by decide) (ref := "GridPolygons$Shape") kw_151 rfl rfl dX11_sum_49 ?_
        refine j_vWv SS (As := [.ref (q (9 + 5 * i_2)), .ref (q (9 + 5 * i_9))]) (rest := []) (c_X3_closeSum2 l D q u A (cW_D hD) i_2 (by omega) i_9 (by omega)  (show HU_ ((u.2.1 0)) ((u.2.1 1)) from (p0.2.2.1)) (show RB 40 u i_2 from (CI_40 p0 (by omega))) (show RB 40 u i_9 from (CI_40 p0 (by omega))) (show RB 80 u 8 from (p0.2.1.1))) mf_X3_closeSum kw_686 hG hP hP (ci := 3) (q0 := 2) rfl rfl rfl hS (fun _ h => h) rfl hl.1 ⟨⟨Nat.le_of_ble_eq_true rfl, Nat.le_of_ble_eq_true rfl⟩, Nat.le_of_ble_eq_true rfl, Nat.le_refl _, Nat.le_refl _⟩ rfl dX11_sum_52 (fun u52 H locs h_52 hP _ hS => ?_)
        obtain ⟨f_52, g_52, f8_52, g8_52, n8_52, rfl, h_52⟩ := h_52
        have hP : va_P D.1 j_cl (cW D q (sY (sX (sI (sI (sC u 8 n8_52) 0 f_52) 1 g_52) 8 f8_52) 8 g8_52)) H := hP
        have h_52 : HU_ f_52 g_52 ∧ (0 ≤ n8_52 ∧ n8_52 ≤ 323) ∧ RV 80 f8_52 g8_52 ∧ HS (SM (RP u i_2) (RP u i_9)) n8_52 f8_52 g8_52 := h_52
        refine lv_aload_n SS.1 SS.2.1 dX11_sum_55 rfl (lv_at hl 3 rfl) ?_
        refine lv_aload SS.1 SS.2.1 dX11_sum_56 (lv_at hl 0 rfl) ?_
        refine j_vWi SS (As := [.ref (q (8 + 5 * i_16))]) (rest := []) (c_X11_remakeIfFitsS l D q (sY (sX (sI (sI (sC u 8 n8_52) 0 f_52) 1 g_52) 8 f8_52) 8 g8_52) A (cW_D hD) i_16 (by omega)  (show CI (sY (sX (sI (sI (sC u 8 n8_52) 0 f_52) 1 g_52) 8 f8_52) 8 g8_52) from (CI_8 (CI_h p0 h_52.1) h_52.2.1 h_52.2.2.1))) mf_X11_remakeIfFits kw_493 hG hP hP (ci := 11) (q0 := 0) rfl rfl rfl hS (fun _ h => h) rfl hl.1 ⟨⟨Nat.le_of_ble_eq_true rfl, Nat.le_of_ble_eq_true rfl⟩, Nat.le_of_ble_eq_true rfl, Nat.le_refl _, Nat.le_refl _⟩ rfl dX11_sum_58 (fun z_58 u58 H locs h_58 hP _ hS => ?_)
        obtain ⟨n_58, f_58, g_58, hh_58, tt_58, st0_58, rfl, h_58⟩ := h_58
        have hP : va_P D.1 j_cl (cW D q (sY (sY (sX (sX (sV (sT (sI (sI (sH (sC (sC u 8 n8_52) i_16 n_58) i_16 hh_58) 0 f_52) 1 g_52) i_16 tt_58) 0 st0_58) 8 f8_52) i_16 f_58) 8 g8_52) i_16 g_58)) H := hP
        have h_58 : ((CI (sY (sY (sX (sX (sV (sT (sI (sI (sH (sC (sC u 8 n8_52) i_16 n_58) i_16 hh_58) 0 f_52) 1 g_52) i_16 tt_58) 0 st0_58) 8 f8_52) i_16 f_58) 8 g8_52) i_16 g_58) ∧ ((z_58 = -3 ∧ ¬ (n8_52 ≤ 24 ∧ bd 40 (f8_52) (g8_52) (n8_52)) ∧ cSame (sY (sX (sI (sI (sC u 8 n8_52) 0 f_52) 1 g_52) 8 f8_52) 8 g8_52) (sY (sY (sX (sX (sV (sT (sI (sI (sH (sC (sC u 8 n8_52) i_16 n_58) i_16 hh_58) 0 f_52) 1 g_52) i_16 tt_58) 0 st0_58) 8 f8_52) i_16 f_58) 8 g8_52) i_16 g_58)) ∨ (z_58 = n8_52 ∧ n8_52 ≤ 24 ∧ bd 40 (f8_52) (g8_52) (n8_52) ∧ cNew (sY (sX (sI (sI (sC u 8 n8_52) 0 f_52) 1 g_52) 8 f8_52) 8 g8_52) (sY (sY (sX (sX (sV (sT (sI (sI (sH (sC (sC u 8 n8_52) i_16 n_58) i_16 hh_58) 0 f_52) 1 g_52) i_16 tt_58) 0 st0_58) 8 f8_52) i_16 f_58) 8 g8_52) i_16 g_58) i_16 (n8_52) (f8_52) (g8_52)))) ∧ ((z_58 = -3 ∧ hh_58 = (u.1.2.2.2.1 i_16)) ∨ (0 ≤ z_58 ∧ ∀ a : Nat, a < 40 → hh_58 a = 0))) ∧ ((z_58 = -3 ∧ tt_58 = (u.1.2.2.2.2 i_16) ∧ st0_58 = (u.2.2.2 0)) ∨ (0 ≤ z_58 ∧ ((u.2.2.2 0) < 2147483647 → tt_58 = (u.2.2.2 0) + 1 ∧ st0_58 = (u.2.2.2 0) + 1))) := h_58
        obtain ⟨h_58, sz_58⟩ := h_58
        obtain ⟨h_58, hz_58⟩ := h_58
        exact W.iret SS.1 SS.2.1 hr (fun t0 ht hW => ⟨⟨_, (sY (sY (sX (sX (sV (sT (sI (sI (sH (sC (sC u 8 n8_52) i_16 n_58) i_16 hh_58) 0 f_52) 1 g_52) i_16 tt_58) 0 st0_58) 8 f8_52) i_16 f_58) 8 g8_52) i_16 g_58), rfl, ⟨z_58, rfl, (⟨⟨h_58.1, Or.inr ⟨by omega, by omega, by omega, by rw [show s.toNat = i_2 by omega, show s2.toNat = i_9 by omega, show to.toNat = i_16 by omega]; exact mkC_r (by first | exact cs_refl | exact (fun r hr => ⟨if_neg (by omega), if_neg (by omega), if_neg (by omega)⟩)) h_52.2.2.2 h_58.2⟩⟩, by rw [show to.toNat = i_16 by omega]; exact ⟨cHr_k (fun _ => rfl) hz_58, sRel_k rfl (fun _ => rfl) sz_58, ⟨⟨(by first | rfl | exact if_neg (by omega) | exact (if_neg (by omega)).trans (if_neg (by omega))), (by first | rfl | exact if_neg (by omega) | exact (if_neg (by omega)).trans (if_neg (by omega))), (by first | rfl | exact if_neg (by omega) | exact (if_neg (by omega)).trans (if_neg (by omega)))⟩, rfl, rfl, rfl⟩, ⟨⟨(by first | rfl | exact if_neg (by omega) | exact (if_neg (by omega)).trans (if_neg (by omega))), (by first | rfl | exact if_neg (by omega) | exact (if_neg (by omega)).trans (if_neg (by omega))), (by first | rfl | exact if_neg (by omega) | exact (if_neg (by omega)).trans (if_neg (by omega)))⟩, ⟨rfl, rfl, rfl, rfl, rfl⟩, ⟨rfl, rfl, rfl, rfl⟩, rfl, rfl, rfl, rfl, rfl⟩⟩⟩)⟩, by show va_P D.1 j_cl (cW D q (sY (sY (sX (sX (sV (sT (sI (sI (sH (sC (sC u 8 n8_52) i_16 n_58) i_16 hh_58) 0 f_52) 1 g_52) i_16 tt_58) 0 st0_58) 8 f8_52) i_16 f_58) 8 g8_52) i_16 g_58)) t0.heap; rw [ht]; first | exact hP | (simp only [sC_id, sX_id, sY_id, sH_id, sT_id, sV_id]; exact hP)⟩, hS.F ht⟩) hS.2.2 dX11_sum_61 hlk
      · skip
        refine lv_astoreN (lv' := [(6, .null), (5, .ref (q (8 + 5 * i_9))), (4, .ref (q (8 + 5 * i_2))), (0, .ref (q 0)), (1, .int (J s)), (2, .int (J s2)), (3, .int (J to))]) SS.1 SS.2.1 dX11_sum_19 hl (by decide) rfl (fun ls hl => ?_)
        refine lv_aload SS.1 SS.2.1 dX11_sum_21 (lv_at hl 2 rfl) ?_
        refine lv_ifnull SS.1 SS.2.1 dX11_sum_23 ?_
        refine lv_aload SS.1 SS.2.1 dX11_sum_26 (lv_at hl 1 rfl) ?_
        refine lv_ifnull SS.1 SS.2.1 dX11_sum_28 ?_
        refine lv_aloadN SS.1 SS.2.1 dX11_sum_31 (lv_at hl 0 rfl) ?_
        refine lv_ifnonnullN SS.1 SS.2.1 dX11_sum_33 ?_
        refine j_iconst SS dX11_sum_36 ?_
        exact W.iret SS.1 SS.2.1 hr (fun t0 ht hW => ⟨⟨_, u, rfl, ⟨(-1), rfl, (⟨⟨p0, Or.inl ⟨by omega, rfl, cs_refl⟩⟩, by first | exact kMut_n (by decide) | exact ⟨cHr_n (fun _ _ => rfl) (by decide), sRel_n ⟨rfl, fun _ _ => rfl⟩ (by decide), ⟨⟨(by first | rfl | exact if_neg (by omega) | exact (if_neg (by omega)).trans (if_neg (by omega))), (by first | rfl | exact if_neg (by omega) | exact (if_neg (by omega)).trans (if_neg (by omega))), (by first | rfl | exact if_neg (by omega) | exact (if_neg (by omega)).trans (if_neg (by omega)))⟩, rfl, rfl, rfl⟩, ⟨⟨(by first | rfl | exact if_neg (by omega) | exact (if_neg (by omega)).trans (if_neg (by omega))), (by first | rfl | exact if_neg (by omega) | exact (if_neg (by omega)).trans (if_neg (by omega))), (by first | rfl | exact if_neg (by omega) | exact (if_neg (by omega)).trans (if_neg (by omega)))⟩, ⟨rfl, rfl, rfl, rfl, rfl⟩, ⟨rfl, rfl, rfl, rfl⟩, rfl, rfl, rfl, rfl, rfl⟩⟩⟩)⟩, by show va_P D.1 j_cl (cW D q u) t0.heap; rw [ht]; first | exact hP | (simp only [sC_id, sX_id, sY_id, sH_id, sT_id, sV_id]; exact hP)⟩, hS.F ht⟩) hS.2.2 dX11_sum_37 hlk
    · skip
      refine lv_astoreN (lv' := [(5, .null), (4, .ref (q (8 + 5 * i_2))), (0, .ref (q 0)), (1, .int (J s)), (2, .int (J s2)), (3, .int (J to))]) SS.1 SS.2.1 dX11_sum_12 hl (by decide) rfl (fun ls hl => ?_)
      refine lv_aload_n SS.1 SS.2.1 dX11_sum_14 rfl (lv_at hl 2 rfl) ?_
      refine lv_iload_n SS.1 SS.2.1 dX11_sum_15 rfl (lv_at hl 5 rfl) ?_
      refine j_vSh SS (As := [.int (J to)]) (rest := []) (c_X11_shapeAt l D q u  to (show -2147483648 ≤ to ∧ to ≤ 2147483647 from (p3))) mf_X11_shapeAt kw_414 hG hP hP (ci := 11) (q0 := 0) rfl rfl rfl rfl hl.1 ⟨⟨Nat.le_of_ble_eq_true rfl, Nat.le_of_ble_eq_true rfl⟩, Nat.le_of_ble_eq_true rfl, Nat.le_refl _, Nat.le_refl _⟩ rfl dX11_sum_16 (fun i_16 hi_16 hz_16 => ?_) (fun hn_16 => ?_)
      · skip
        refine lv_astore (lv' := [(6, .ref (q (8 + 5 * i_16))), (5, .null), (4, .ref (q (8 + 5 * i_2))), (0, .ref (q 0)), (1, .int (J s)), (2, .int (J s2)), (3, .int (J to))]) SS.1 SS.2.1 dX11_sum_19 hl (by decide) rfl (fun ls hl => ?_)
        refine lv_aload SS.1 SS.2.1 dX11_sum_21 (lv_at hl 2 rfl) ?_
        refine lv_ifnull SS.1 SS.2.1 dX11_sum_23 ?_
        refine lv_aloadN SS.1 SS.2.1 dX11_sum_26 (lv_at hl 1 rfl) ?_
        refine lv_ifnullN SS.1 SS.2.1 (tgt := 36) dX11_sum_28 (by decide) ?_
        refine j_iconst SS dX11_sum_36 ?_
        exact W.iret SS.1 SS.2.1 hr (fun t0 ht hW => ⟨⟨_, u, rfl, ⟨(-1), rfl, (⟨⟨p0, Or.inl ⟨by omega, rfl, cs_refl⟩⟩, by first | exact kMut_n (by decide) | exact ⟨cHr_n (fun _ _ => rfl) (by decide), sRel_n ⟨rfl, fun _ _ => rfl⟩ (by decide), ⟨⟨(by first | rfl | exact if_neg (by omega) | exact (if_neg (by omega)).trans (if_neg (by omega))), (by first | rfl | exact if_neg (by omega) | exact (if_neg (by omega)).trans (if_neg (by omega))), (by first | rfl | exact if_neg (by omega) | exact (if_neg (by omega)).trans (if_neg (by omega)))⟩, rfl, rfl, rfl⟩, ⟨⟨(by first | rfl | exact if_neg (by omega) | exact (if_neg (by omega)).trans (if_neg (by omega))), (by first | rfl | exact if_neg (by omega) | exact (if_neg (by omega)).trans (if_neg (by omega))), (by first | rfl | exact if_neg (by omega) | exact (if_neg (by omega)).trans (if_neg (by omega)))⟩, ⟨rfl, rfl, rfl, rfl, rfl⟩, ⟨rfl, rfl, rfl, rfl⟩, rfl, rfl, rfl, rfl, rfl⟩⟩⟩)⟩, by show va_P D.1 j_cl (cW D q u) t0.heap; rw [ht]; first | exact hP | (simp only [sC_id, sX_id, sY_id, sH_id, sT_id, sV_id]; exact hP)⟩, hS.F ht⟩) hS.2.2 dX11_sum_37 hlk
      · skip
        refine lv_astoreN (lv' := [(6, .null), (5, .null), (4, .ref (q (8 + 5 * i_2))), (0, .ref (q 0)), (1, .int (J s)), (2, .int (J s2)), (3, .int (J to))]) SS.1 SS.2.1 dX11_sum_19 hl (by decide) rfl (fun ls hl => ?_)
        refine lv_aload SS.1 SS.2.1 dX11_sum_21 (lv_at hl 2 rfl) ?_
        refine lv_ifnull SS.1 SS.2.1 dX11_sum_23 ?_
        refine lv_aloadN SS.1 SS.2.1 dX11_sum_26 (lv_at hl 1 rfl) ?_
        refine lv_ifnullN SS.1 SS.2.1 (tgt := 36) dX11_sum_28 (by decide) ?_
        refine j_iconst SS dX11_sum_36 ?_
        exact W.iret SS.1 SS.2.1 hr (fun t0 ht hW => ⟨⟨_, u, rfl, ⟨(-1), rfl, (⟨⟨p0, Or.inl ⟨by omega, rfl, cs_refl⟩⟩, by first | exact kMut_n (by decide) | exact ⟨cHr_n (fun _ _ => rfl) (by decide), sRel_n ⟨rfl, fun _ _ => rfl⟩ (by decide), ⟨⟨(by first | rfl | exact if_neg (by omega) | exact (if_neg (by omega)).trans (if_neg (by omega))), (by first | rfl | exact if_neg (by omega) | exact (if_neg (by omega)).trans (if_neg (by omega))), (by first | rfl | exact if_neg (by omega) | exact (if_neg (by omega)).trans (if_neg (by omega)))⟩, rfl, rfl, rfl⟩, ⟨⟨(by first | rfl | exact if_neg (by omega) | exact (if_neg (by omega)).trans (if_neg (by omega))), (by first | rfl | exact if_neg (by omega) | exact (if_neg (by omega)).trans (if_neg (by omega))), (by first | rfl | exact if_neg (by omega) | exact (if_neg (by omega)).trans (if_neg (by omega)))⟩, ⟨rfl, rfl, rfl, rfl, rfl⟩, ⟨rfl, rfl, rfl, rfl⟩, rfl, rfl, rfl, rfl, rfl⟩⟩⟩)⟩, by show va_P D.1 j_cl (cW D q u) t0.heap; rw [ht]; first | exact hP | (simp only [sC_id, sX_id, sY_id, sH_id, sT_id, sV_id]; exact hP)⟩, hS.F ht⟩) hS.2.2 dX11_sum_37 hlk
  · skip
    refine lv_astoreN (lv' := [(4, .null), (0, .ref (q 0)), (1, .int (J s)), (2, .int (J s2)), (3, .int (J to))]) SS.1 SS.2.1 dX11_sum_5 hl (by decide) rfl (fun ls hl => ?_)
    refine lv_aload_n SS.1 SS.2.1 dX11_sum_7 rfl (lv_at hl 1 rfl) ?_
    refine lv_iload_n SS.1 SS.2.1 dX11_sum_8 rfl (lv_at hl 3 rfl) ?_
    refine j_vSh SS (As := [.int (J s2)]) (rest := []) (c_X11_shapeAt l D q u  s2 (show -2147483648 ≤ s2 ∧ s2 ≤ 2147483647 from (p2))) mf_X11_shapeAt kw_414 hG hP hP (ci := 11) (q0 := 0) rfl rfl rfl rfl hl.1 ⟨⟨Nat.le_of_ble_eq_true rfl, Nat.le_of_ble_eq_true rfl⟩, Nat.le_of_ble_eq_true rfl, Nat.le_refl _, Nat.le_refl _⟩ rfl dX11_sum_9 (fun i_9 hi_9 hz_9 => ?_) (fun hn_9 => ?_)
    · skip
      refine lv_astore (lv' := [(5, .ref (q (8 + 5 * i_9))), (4, .null), (0, .ref (q 0)), (1, .int (J s)), (2, .int (J s2)), (3, .int (J to))]) SS.1 SS.2.1 dX11_sum_12 hl (by decide) rfl (fun ls hl => ?_)
      refine lv_aload_n SS.1 SS.2.1 dX11_sum_14 rfl (lv_at hl 2 rfl) ?_
      refine lv_iload_n SS.1 SS.2.1 dX11_sum_15 rfl (lv_at hl 5 rfl) ?_
      refine j_vSh SS (As := [.int (J to)]) (rest := []) (c_X11_shapeAt l D q u  to (show -2147483648 ≤ to ∧ to ≤ 2147483647 from (p3))) mf_X11_shapeAt kw_414 hG hP hP (ci := 11) (q0 := 0) rfl rfl rfl rfl hl.1 ⟨⟨Nat.le_of_ble_eq_true rfl, Nat.le_of_ble_eq_true rfl⟩, Nat.le_of_ble_eq_true rfl, Nat.le_refl _, Nat.le_refl _⟩ rfl dX11_sum_16 (fun i_16 hi_16 hz_16 => ?_) (fun hn_16 => ?_)
      · skip
        refine lv_astore (lv' := [(6, .ref (q (8 + 5 * i_16))), (5, .ref (q (8 + 5 * i_9))), (4, .null), (0, .ref (q 0)), (1, .int (J s)), (2, .int (J s2)), (3, .int (J to))]) SS.1 SS.2.1 dX11_sum_19 hl (by decide) rfl (fun ls hl => ?_)
        refine lv_aloadN SS.1 SS.2.1 dX11_sum_21 (lv_at hl 2 rfl) ?_
        refine lv_ifnullN SS.1 SS.2.1 (tgt := 36) dX11_sum_23 (by decide) ?_
        refine j_iconst SS dX11_sum_36 ?_
        exact W.iret SS.1 SS.2.1 hr (fun t0 ht hW => ⟨⟨_, u, rfl, ⟨(-1), rfl, (⟨⟨p0, Or.inl ⟨by omega, rfl, cs_refl⟩⟩, by first | exact kMut_n (by decide) | exact ⟨cHr_n (fun _ _ => rfl) (by decide), sRel_n ⟨rfl, fun _ _ => rfl⟩ (by decide), ⟨⟨(by first | rfl | exact if_neg (by omega) | exact (if_neg (by omega)).trans (if_neg (by omega))), (by first | rfl | exact if_neg (by omega) | exact (if_neg (by omega)).trans (if_neg (by omega))), (by first | rfl | exact if_neg (by omega) | exact (if_neg (by omega)).trans (if_neg (by omega)))⟩, rfl, rfl, rfl⟩, ⟨⟨(by first | rfl | exact if_neg (by omega) | exact (if_neg (by omega)).trans (if_neg (by omega))), (by first | rfl | exact if_neg (by omega) | exact (if_neg (by omega)).trans (if_neg (by omega))), (by first | rfl | exact if_neg (by omega) | exact (if_neg (by omega)).trans (if_neg (by omega)))⟩, ⟨rfl, rfl, rfl, rfl, rfl⟩, ⟨rfl, rfl, rfl, rfl⟩, rfl, rfl, rfl, rfl, rfl⟩⟩⟩)⟩, by show va_P D.1 j_cl (cW D q u) t0.heap; rw [ht]; first | exact hP | (simp only [sC_id, sX_id, sY_id, sH_id, sT_id, sV_id]; exact hP)⟩, hS.F ht⟩) hS.2.2 dX11_sum_37 hlk
      · skip
        refine lv_astoreN (lv' := [(6, .null), (5, .ref (q (8 + 5 * i_9))), (4, .null), (0, .ref (q 0)), (1, .int (J s)), (2, .int (J s2)), (3, .int (J to))]) SS.1 SS.2.1 dX11_sum_19 hl (by decide) rfl (fun ls hl => ?_)
        refine lv_aloadN SS.1 SS.2.1 dX11_sum_21 (lv_at hl 2 rfl) ?_
        refine lv_ifnullN SS.1 SS.2.1 (tgt := 36) dX11_sum_23 (by decide) ?_
        refine j_iconst SS dX11_sum_36 ?_
        exact W.iret SS.1 SS.2.1 hr (fun t0 ht hW => ⟨⟨_, u, rfl, ⟨(-1), rfl, (⟨⟨p0, Or.inl ⟨by omega, rfl, cs_refl⟩⟩, by first | exact kMut_n (by decide) | exact ⟨cHr_n (fun _ _ => rfl) (by decide), sRel_n ⟨rfl, fun _ _ => rfl⟩ (by decide), ⟨⟨(by first | rfl | exact if_neg (by omega) | exact (if_neg (by omega)).trans (if_neg (by omega))), (by first | rfl | exact if_neg (by omega) | exact (if_neg (by omega)).trans (if_neg (by omega))), (by first | rfl | exact if_neg (by omega) | exact (if_neg (by omega)).trans (if_neg (by omega)))⟩, rfl, rfl, rfl⟩, ⟨⟨(by first | rfl | exact if_neg (by omega) | exact (if_neg (by omega)).trans (if_neg (by omega))), (by first | rfl | exact if_neg (by omega) | exact (if_neg (by omega)).trans (if_neg (by omega))), (by first | rfl | exact if_neg (by omega) | exact (if_neg (by omega)).trans (if_neg (by omega)))⟩, ⟨rfl, rfl, rfl, rfl, rfl⟩, ⟨rfl, rfl, rfl, rfl⟩, rfl, rfl, rfl, rfl, rfl⟩⟩⟩)⟩, by show va_P D.1 j_cl (cW D q u) t0.heap; rw [ht]; first | exact hP | (simp only [sC_id, sX_id, sY_id, sH_id, sT_id, sV_id]; exact hP)⟩, hS.F ht⟩) hS.2.2 dX11_sum_37 hlk
    · skip
      refine lv_astoreN (lv' := [(5, .null), (4, .null), (0, .ref (q 0)), (1, .int (J s)), (2, .int (J s2)), (3, .int (J to))]) SS.1 SS.2.1 dX11_sum_12 hl (by decide) rfl (fun ls hl => ?_)
      refine lv_aload_n SS.1 SS.2.1 dX11_sum_14 rfl (lv_at hl 2 rfl) ?_
      refine lv_iload_n SS.1 SS.2.1 dX11_sum_15 rfl (lv_at hl 5 rfl) ?_
      refine j_vSh SS (As := [.int (J to)]) (rest := []) (c_X11_shapeAt l D q u  to (show -2147483648 ≤ to ∧ to ≤ 2147483647 from (p3))) mf_X11_shapeAt kw_414 hG hP hP (ci := 11) (q0 := 0) rfl rfl rfl rfl hl.1 ⟨⟨Nat.le_of_ble_eq_true rfl, Nat.le_of_ble_eq_true rfl⟩, Nat.le_of_ble_eq_true rfl, Nat.le_refl _, Nat.le_refl _⟩ rfl dX11_sum_16 (fun i_16 hi_16 hz_16 => ?_) (fun hn_16 => ?_)
      · skip
        refine lv_astore (lv' := [(6, .ref (q (8 + 5 * i_16))), (5, .null), (4, .null), (0, .ref (q 0)), (1, .int (J s)), (2, .int (J s2)), (3, .int (J to))]) SS.1 SS.2.1 dX11_sum_19 hl (by decide) rfl (fun ls hl => ?_)
        refine lv_aloadN SS.1 SS.2.1 dX11_sum_21 (lv_at hl 2 rfl) ?_
        refine lv_ifnullN SS.1 SS.2.1 (tgt := 36) dX11_sum_23 (by decide) ?_
        refine j_iconst SS dX11_sum_36 ?_
        exact W.iret SS.1 SS.2.1 hr (fun t0 ht hW => ⟨⟨_, u, rfl, ⟨(-1), rfl, (⟨⟨p0, Or.inl ⟨by omega, rfl, cs_refl⟩⟩, by first | exact kMut_n (by decide) | exact ⟨cHr_n (fun _ _ => rfl) (by decide), sRel_n ⟨rfl, fun _ _ => rfl⟩ (by decide), ⟨⟨(by first | rfl | exact if_neg (by omega) | exact (if_neg (by omega)).trans (if_neg (by omega))), (by first | rfl | exact if_neg (by omega) | exact (if_neg (by omega)).trans (if_neg (by omega))), (by first | rfl | exact if_neg (by omega) | exact (if_neg (by omega)).trans (if_neg (by omega)))⟩, rfl, rfl, rfl⟩, ⟨⟨(by first | rfl | exact if_neg (by omega) | exact (if_neg (by omega)).trans (if_neg (by omega))), (by first | rfl | exact if_neg (by omega) | exact (if_neg (by omega)).trans (if_neg (by omega))), (by first | rfl | exact if_neg (by omega) | exact (if_neg (by omega)).trans (if_neg (by omega)))⟩, ⟨rfl, rfl, rfl, rfl, rfl⟩, ⟨rfl, rfl, rfl, rfl⟩, rfl, rfl, rfl, rfl, rfl⟩⟩⟩)⟩, by show va_P D.1 j_cl (cW D q u) t0.heap; rw [ht]; first | exact hP | (simp only [sC_id, sX_id, sY_id, sH_id, sT_id, sV_id]; exact hP)⟩, hS.F ht⟩) hS.2.2 dX11_sum_37 hlk
      · skip
        refine lv_astoreN (lv' := [(6, .null), (5, .null), (4, .null), (0, .ref (q 0)), (1, .int (J s)), (2, .int (J s2)), (3, .int (J to))]) SS.1 SS.2.1 dX11_sum_19 hl (by decide) rfl (fun ls hl => ?_)
        refine lv_aloadN SS.1 SS.2.1 dX11_sum_21 (lv_at hl 2 rfl) ?_
        refine lv_ifnullN SS.1 SS.2.1 (tgt := 36) dX11_sum_23 (by decide) ?_
        refine j_iconst SS dX11_sum_36 ?_
        exact W.iret SS.1 SS.2.1 hr (fun t0 ht hW => ⟨⟨_, u, rfl, ⟨(-1), rfl, (⟨⟨p0, Or.inl ⟨by omega, rfl, cs_refl⟩⟩, by first | exact kMut_n (by decide) | exact ⟨cHr_n (fun _ _ => rfl) (by decide), sRel_n ⟨rfl, fun _ _ => rfl⟩ (by decide), ⟨⟨(by first | rfl | exact if_neg (by omega) | exact (if_neg (by omega)).trans (if_neg (by omega))), (by first | rfl | exact if_neg (by omega) | exact (if_neg (by omega)).trans (if_neg (by omega))), (by first | rfl | exact if_neg (by omega) | exact (if_neg (by omega)).trans (if_neg (by omega)))⟩, rfl, rfl, rfl⟩, ⟨⟨(by first | rfl | exact if_neg (by omega) | exact (if_neg (by omega)).trans (if_neg (by omega))), (by first | rfl | exact if_neg (by omega) | exact (if_neg (by omega)).trans (if_neg (by omega))), (by first | rfl | exact if_neg (by omega) | exact (if_neg (by omega)).trans (if_neg (by omega)))⟩, ⟨rfl, rfl, rfl, rfl, rfl⟩, ⟨rfl, rfl, rfl, rfl⟩, rfl, rfl, rfl, rfl, rfl⟩⟩⟩)⟩, by show va_P D.1 j_cl (cW D q u) t0.heap; rw [ht]; first | exact hP | (simp only [sC_id, sX_id, sY_id, sH_id, sT_id, sV_id]; exact hP)⟩, hS.F ht⟩) hS.2.2 dX11_sum_37 hlk

set_option maxHeartbeats 4000000 in
set_option maxRecDepth 100000 in
theorem c_X11_mapF (l : Launch) (D : JD) (q : Nat → Nat) (u : CS) (A : Nat → Prop) (hD : va_D A (cW D q u)) (s : Int) (to : Int) (a : Int) (b : Int) (c : Int) (d : Int) (e : Int) (f : Int) (p0 : CI u) (p1 : -2147483648 ≤ s ∧ s ≤ 2147483647) (p2 : -2147483648 ≤ to ∧ to ≤ 2147483647) (p3 : -2147483648 ≤ a ∧ a ≤ 2147483647) (p4 : -2147483648 ≤ b ∧ b ≤ 2147483647) (p5 : -2147483648 ≤ c ∧ c ≤ 2147483647) (p6 : -2147483648 ≤ d ∧ d ≤ 2147483647) (p7 : -2147483648 ≤ e ∧ e ≤ 2147483647) (p8 : -2147483648 ≤ f ∧ f ≤ 2147483647) : Met l yX11_map (jw yX11_map cX11_map 16 (some .int)) (jr 4 91) (jP [.ref (q 0), .int (J s), .int (J to), .int (J a), .int (J b), .int (J c), .int (J d), .int (J e), .int (J f)] D (fun H => va_P D.1 j_cl (cW D q u) H)) (jWi (fun z u' => (CI u' ∧ mpC u u' s to a b c d e f z) ∧ kMut u u' to.toNat z) (fun u' H => va_P D.1 j_cl (cW D q u') H) A) 0 0 A := by
  refine Met.ofW (cc := cX11_map) (maxL := 16) (ret := (some .int)) (by decide) rfl ?_
  intro pr en st mi args below meth co s₁ B hml hv
  obtain ⟨rfl, hG, hP⟩ := hv
  have hr := B.returns
  have hlk := B.notSynchronized
  have SS : jS pr mi co cX11_map 16 st _ RX11 := ⟨B.exec, B.bytes, hml, findClass_of_methodNamed B.named, fun w hw => atoms_spec (ws := (jw yX11_map cX11_map 16 (some .int))) B.pre w (List.mem_cons_of_mem _ hw)⟩
  have hl := lv_entry ([.ref (q 0), .int (J s), .int (J to), .int (J a), .int (J b), .int (J c), .int (J d), .int (J e), .int (J f)]) (n := 16) (Nat.le_of_ble_eq_true rfl)
  rw [lg_entry_eq]
  generalize (lg_sl ([.ref (q 0), .int (J s), .int (J to), .int (J a), .int (J b), .int (J c), .int (J d), .int (J e), .int (J f)]) ++ List.replicate (16 - (lg_sl ([.ref (q 0), .int (J s), .int (J to), .int (J a), .int (J b), .int (J c), .int (J d), .int (J e), .int (J f)])).length) Slot.unset).toArray = ls at hl ⊢
  have hl : lv_has ls 16 [(0, .ref (q 0)), (1, .int (J s)), (2, .int (J to)), (3, .int (J a)), (4, .int (J b)), (5, .int (J c)), (6, .int (J d)), (7, .int (J e)), (8, .int (J f))] := hl
  have hS : va_S A st.heap st.heap [] := va_S.rf
  refine lv_aload_n SS.1 SS.2.1 dX11_map_0 rfl (lv_at hl 0 rfl) ?_
  refine lv_iload_n SS.1 SS.2.1 dX11_map_1 rfl (lv_at hl 1 rfl) ?_
  refine j_vSh SS (As := [.int (J s)]) (rest := []) (c_X11_shapeAt l D q u  s (show -2147483648 ≤ s ∧ s ≤ 2147483647 from (p1))) mf_X11_shapeAt kw_414 hG hP hP (ci := 11) (q0 := 0) rfl rfl rfl rfl hl.1 ⟨⟨Nat.le_of_ble_eq_true rfl, Nat.le_of_ble_eq_true rfl⟩, Nat.le_of_ble_eq_true rfl, Nat.le_refl _, Nat.le_refl _⟩ rfl dX11_map_2 (fun i_2 hi_2 hz_2 => ?_) (fun hn_2 => ?_)
  · skip
    have hI2 := CI_s p0 (show i_2 < 8 by omega)
    have hI2c := hI2.1
    have hrl2 := rl_s (show i_2 < 8 by omega)
    refine lv_astore (lv' := [(9, .ref (q (8 + 5 * i_2))), (0, .ref (q 0)), (1, .int (J s)), (2, .int (J to)), (3, .int (J a)), (4, .int (J b)), (5, .int (J c)), (6, .int (J d)), (7, .int (J e)), (8, .int (J f))]) SS.1 SS.2.1 dX11_map_5 hl (by decide) rfl (fun ls hl => ?_)
    refine lv_aload_n SS.1 SS.2.1 dX11_map_7 rfl (lv_at hl 1 rfl) ?_
    refine lv_iload_n SS.1 SS.2.1 dX11_map_8 rfl (lv_at hl 3 rfl) ?_
    refine j_vSh SS (As := [.int (J to)]) (rest := []) (c_X11_shapeAt l D q u  to (show -2147483648 ≤ to ∧ to ≤ 2147483647 from (p2))) mf_X11_shapeAt kw_414 hG hP hP (ci := 11) (q0 := 0) rfl rfl rfl rfl hl.1 ⟨⟨Nat.le_of_ble_eq_true rfl, Nat.le_of_ble_eq_true rfl⟩, Nat.le_of_ble_eq_true rfl, Nat.le_refl _, Nat.le_refl _⟩ rfl dX11_map_9 (fun i_9 hi_9 hz_9 => ?_) (fun hn_9 => ?_)
    · skip
      refine lv_astore (lv' := [(10, .ref (q (8 + 5 * i_9))), (9, .ref (q (8 + 5 * i_2))), (0, .ref (q 0)), (1, .int (J s)), (2, .int (J to)), (3, .int (J a)), (4, .int (J b)), (5, .int (J c)), (6, .int (J d)), (7, .int (J e)), (8, .int (J f))]) SS.1 SS.2.1 dX11_map_12 hl (by decide) rfl (fun ls hl => ?_)
      refine lv_iload_n SS.1 SS.2.1 dX11_map_14 rfl (lv_at hl 5 rfl) ?_
      refine j_sRi SS (As := [.int (J a)]) (rest := []) (c_X11_onGrid l D  a (show -2147483648 ≤ a ∧ a ≤ 2147483647 from (p3))) mf_X11_onGrid kw_475 hG trivial rfl hl.1 ⟨⟨Nat.le_of_ble_eq_true rfl, Nat.le_of_ble_eq_true rfl⟩, Nat.le_of_ble_eq_true rfl, Nat.le_refl _, Nat.le_refl _⟩ rfl dX11_map_15 (fun z_15 h_15 => ?_)
      have h_15 : (z_15 = 1 ∧ (-40 ≤ a ∧ a ≤ 40)) ∨ (z_15 = 0 ∧ ¬ (-40 ≤ a ∧ a ≤ 40)) := h_15
      refine j_if_eq SS (tgt := 65) (x := z_15) dX11_map_18 (by decide) (by omega) (fun c_18 => ?_) (fun c_18 => ?_)
      · skip
        refine j_iconst SS dX11_map_65 ?_
        refine lv_istore (lv' := [(11, .int (J 0)), (10, .ref (q (8 + 5 * i_9))), (9, .ref (q (8 + 5 * i_2))), (0, .ref (q 0)), (1, .int (J s)), (2, .int (J to)), (3, .int (J a)), (4, .int (J b)), (5, .int (J c)), (6, .int (J d)), (7, .int (J e)), (8, .int (J f))]) SS.1 SS.2.1 dX11_map_66 hl (by decide) rfl (fun ls hl => ?_)
        refine lv_aload SS.1 SS.2.1 dX11_map_68 (lv_at hl 2 rfl) ?_
        refine lv_ifnull SS.1 SS.2.1 dX11_map_70 ?_
        refine lv_aload SS.1 SS.2.1 dX11_map_73 (lv_at hl 1 rfl) ?_
        refine lv_ifnull SS.1 SS.2.1 dX11_map_75 ?_
        refine lv_iload SS.1 SS.2.1 dX11_map_78 (lv_at hl 0 rfl) ?_
        refine j_if_ne SS (tgt := 85) dX11_map_80 (by decide) (by decide) (fun c_80 => absurd c_80 (by decide)) (fun c_80 => ?_)
        refine j_iconst SS dX11_map_83 ?_
        exact W.iret SS.1 SS.2.1 hr (fun t0 ht hW => ⟨⟨_, u, rfl, ⟨(-1), rfl, (⟨⟨p0, Or.inl ⟨by unfold six; omega, rfl, cs_refl⟩⟩, by first | exact kMut_n (by decide) | exact ⟨cHr_n (fun _ _ => rfl) (by decide), sRel_n ⟨rfl, fun _ _ => rfl⟩ (by decide), ⟨⟨(by first | rfl | exact if_neg (by omega) | exact (if_neg (by omega)).trans (if_neg (by omega))), (by first | rfl | exact if_neg (by omega) | exact (if_neg (by omega)).trans (if_neg (by omega))), (by first | rfl | exact if_neg (by omega) | exact (if_neg (by omega)).trans (if_neg (by omega)))⟩, rfl, rfl, rfl⟩, ⟨⟨(by first | rfl | exact if_neg (by omega) | exact (if_neg (by omega)).trans (if_neg (by omega))), (by first | rfl | exact if_neg (by omega) | exact (if_neg (by omega)).trans (if_neg (by omega))), (by first | rfl | exact if_neg (by omega) | exact (if_neg (by omega)).trans (if_neg (by omega)))⟩, ⟨rfl, rfl, rfl, rfl, rfl⟩, ⟨rfl, rfl, rfl, rfl⟩, rfl, rfl, rfl, rfl, rfl⟩⟩⟩)⟩, by show va_P D.1 j_cl (cW D q u) t0.heap; rw [ht]; first | exact hP | (simp only [sC_id, sX_id, sY_id, sH_id, sT_id, sV_id]; exact hP)⟩, hS.F ht⟩) hS.2.2 dX11_map_84 hlk
      · skip
        refine lv_iload SS.1 SS.2.1 dX11_map_21 (lv_at hl 6 rfl) ?_
        refine j_sRi SS (As := [.int (J b)]) (rest := []) (c_X11_onGrid l D  b (show -2147483648 ≤ b ∧ b ≤ 2147483647 from (p4))) mf_X11_onGrid kw_475 hG trivial rfl hl.1 ⟨⟨Nat.le_of_ble_eq_true rfl, Nat.le_of_ble_eq_true rfl⟩, Nat.le_of_ble_eq_true rfl, Nat.le_refl _, Nat.le_refl _⟩ rfl dX11_map_23 (fun z_23 h_23 => ?_)
        have h_23 : (z_23 = 1 ∧ (-40 ≤ b ∧ b ≤ 40)) ∨ (z_23 = 0 ∧ ¬ (-40 ≤ b ∧ b ≤ 40)) := h_23
        refine j_if_eq SS (tgt := 65) (x := z_23) dX11_map_26 (by decide) (by omega) (fun c_26 => ?_) (fun c_26 => ?_)
        · skip
          refine j_iconst SS dX11_map_65 ?_
          refine lv_istore (lv' := [(11, .int (J 0)), (10, .ref (q (8 + 5 * i_9))), (9, .ref (q (8 + 5 * i_2))), (0, .ref (q 0)), (1, .int (J s)), (2, .int (J to)), (3, .int (J a)), (4, .int (J b)), (5, .int (J c)), (6, .int (J d)), (7, .int (J e)), (8, .int (J f))]) SS.1 SS.2.1 dX11_map_66 hl (by decide) rfl (fun ls hl => ?_)
          refine lv_aload SS.1 SS.2.1 dX11_map_68 (lv_at hl 2 rfl) ?_
          refine lv_ifnull SS.1 SS.2.1 dX11_map_70 ?_
          refine lv_aload SS.1 SS.2.1 dX11_map_73 (lv_at hl 1 rfl) ?_
          refine lv_ifnull SS.1 SS.2.1 dX11_map_75 ?_
          refine lv_iload SS.1 SS.2.1 dX11_map_78 (lv_at hl 0 rfl) ?_
          refine j_if_ne SS (tgt := 85) dX11_map_80 (by decide) (by decide) (fun c_80 => absurd c_80 (by decide)) (fun c_80 => ?_)
          refine j_iconst SS dX11_map_83 ?_
          exact W.iret SS.1 SS.2.1 hr (fun t0 ht hW => ⟨⟨_, u, rfl, ⟨(-1), rfl, (⟨⟨p0, Or.inl ⟨by unfold six; omega, rfl, cs_refl⟩⟩, by first | exact kMut_n (by decide) | exact ⟨cHr_n (fun _ _ => rfl) (by decide), sRel_n ⟨rfl, fun _ _ => rfl⟩ (by decide), ⟨⟨(by first | rfl | exact if_neg (by omega) | exact (if_neg (by omega)).trans (if_neg (by omega))), (by first | rfl | exact if_neg (by omega) | exact (if_neg (by omega)).trans (if_neg (by omega))), (by first | rfl | exact if_neg (by omega) | exact (if_neg (by omega)).trans (if_neg (by omega)))⟩, rfl, rfl, rfl⟩, ⟨⟨(by first | rfl | exact if_neg (by omega) | exact (if_neg (by omega)).trans (if_neg (by omega))), (by first | rfl | exact if_neg (by omega) | exact (if_neg (by omega)).trans (if_neg (by omega))), (by first | rfl | exact if_neg (by omega) | exact (if_neg (by omega)).trans (if_neg (by omega)))⟩, ⟨rfl, rfl, rfl, rfl, rfl⟩, ⟨rfl, rfl, rfl, rfl⟩, rfl, rfl, rfl, rfl, rfl⟩⟩⟩)⟩, by show va_P D.1 j_cl (cW D q u) t0.heap; rw [ht]; first | exact hP | (simp only [sC_id, sX_id, sY_id, sH_id, sT_id, sV_id]; exact hP)⟩, hS.F ht⟩) hS.2.2 dX11_map_84 hlk
        · skip
          refine lv_iload SS.1 SS.2.1 dX11_map_29 (lv_at hl 7 rfl) ?_
          refine j_sRi SS (As := [.int (J c)]) (rest := []) (c_X11_onGrid l D  c (show -2147483648 ≤ c ∧ c ≤ 2147483647 from (p5))) mf_X11_onGrid kw_475 hG trivial rfl hl.1 ⟨⟨Nat.le_of_ble_eq_true rfl, Nat.le_of_ble_eq_true rfl⟩, Nat.le_of_ble_eq_true rfl, Nat.le_refl _, Nat.le_refl _⟩ rfl dX11_map_31 (fun z_31 h_31 => ?_)
          have h_31 : (z_31 = 1 ∧ (-40 ≤ c ∧ c ≤ 40)) ∨ (z_31 = 0 ∧ ¬ (-40 ≤ c ∧ c ≤ 40)) := h_31
          refine j_if_eq SS (tgt := 65) (x := z_31) dX11_map_34 (by decide) (by omega) (fun c_34 => ?_) (fun c_34 => ?_)
          · skip
            refine j_iconst SS dX11_map_65 ?_
            refine lv_istore (lv' := [(11, .int (J 0)), (10, .ref (q (8 + 5 * i_9))), (9, .ref (q (8 + 5 * i_2))), (0, .ref (q 0)), (1, .int (J s)), (2, .int (J to)), (3, .int (J a)), (4, .int (J b)), (5, .int (J c)), (6, .int (J d)), (7, .int (J e)), (8, .int (J f))]) SS.1 SS.2.1 dX11_map_66 hl (by decide) rfl (fun ls hl => ?_)
            refine lv_aload SS.1 SS.2.1 dX11_map_68 (lv_at hl 2 rfl) ?_
            refine lv_ifnull SS.1 SS.2.1 dX11_map_70 ?_
            refine lv_aload SS.1 SS.2.1 dX11_map_73 (lv_at hl 1 rfl) ?_
            refine lv_ifnull SS.1 SS.2.1 dX11_map_75 ?_
            refine lv_iload SS.1 SS.2.1 dX11_map_78 (lv_at hl 0 rfl) ?_
            refine j_if_ne SS (tgt := 85) dX11_map_80 (by decide) (by decide) (fun c_80 => absurd c_80 (by decide)) (fun c_80 => ?_)
            refine j_iconst SS dX11_map_83 ?_
            exact W.iret SS.1 SS.2.1 hr (fun t0 ht hW => ⟨⟨_, u, rfl, ⟨(-1), rfl, (⟨⟨p0, Or.inl ⟨by unfold six; omega, rfl, cs_refl⟩⟩, by first | exact kMut_n (by decide) | exact ⟨cHr_n (fun _ _ => rfl) (by decide), sRel_n ⟨rfl, fun _ _ => rfl⟩ (by decide), ⟨⟨(by first | rfl | exact if_neg (by omega) | exact (if_neg (by omega)).trans (if_neg (by omega))), (by first | rfl | exact if_neg (by omega) | exact (if_neg (by omega)).trans (if_neg (by omega))), (by first | rfl | exact if_neg (by omega) | exact (if_neg (by omega)).trans (if_neg (by omega)))⟩, rfl, rfl, rfl⟩, ⟨⟨(by first | rfl | exact if_neg (by omega) | exact (if_neg (by omega)).trans (if_neg (by omega))), (by first | rfl | exact if_neg (by omega) | exact (if_neg (by omega)).trans (if_neg (by omega))), (by first | rfl | exact if_neg (by omega) | exact (if_neg (by omega)).trans (if_neg (by omega)))⟩, ⟨rfl, rfl, rfl, rfl, rfl⟩, ⟨rfl, rfl, rfl, rfl⟩, rfl, rfl, rfl, rfl, rfl⟩⟩⟩)⟩, by show va_P D.1 j_cl (cW D q u) t0.heap; rw [ht]; first | exact hP | (simp only [sC_id, sX_id, sY_id, sH_id, sT_id, sV_id]; exact hP)⟩, hS.F ht⟩) hS.2.2 dX11_map_84 hlk
          · skip
            refine lv_iload SS.1 SS.2.1 dX11_map_37 (lv_at hl 8 rfl) ?_
            refine j_sRi SS (As := [.int (J d)]) (rest := []) (c_X11_onGrid l D  d (show -2147483648 ≤ d ∧ d ≤ 2147483647 from (p6))) mf_X11_onGrid kw_475 hG trivial rfl hl.1 ⟨⟨Nat.le_of_ble_eq_true rfl, Nat.le_of_ble_eq_true rfl⟩, Nat.le_of_ble_eq_true rfl, Nat.le_refl _, Nat.le_refl _⟩ rfl dX11_map_39 (fun z_39 h_39 => ?_)
            have h_39 : (z_39 = 1 ∧ (-40 ≤ d ∧ d ≤ 40)) ∨ (z_39 = 0 ∧ ¬ (-40 ≤ d ∧ d ≤ 40)) := h_39
            refine j_if_eq SS (tgt := 65) (x := z_39) dX11_map_42 (by decide) (by omega) (fun c_42 => ?_) (fun c_42 => ?_)
            · skip
              refine j_iconst SS dX11_map_65 ?_
              refine lv_istore (lv' := [(11, .int (J 0)), (10, .ref (q (8 + 5 * i_9))), (9, .ref (q (8 + 5 * i_2))), (0, .ref (q 0)), (1, .int (J s)), (2, .int (J to)), (3, .int (J a)), (4, .int (J b)), (5, .int (J c)), (6, .int (J d)), (7, .int (J e)), (8, .int (J f))]) SS.1 SS.2.1 dX11_map_66 hl (by decide) rfl (fun ls hl => ?_)
              refine lv_aload SS.1 SS.2.1 dX11_map_68 (lv_at hl 2 rfl) ?_
              refine lv_ifnull SS.1 SS.2.1 dX11_map_70 ?_
              refine lv_aload SS.1 SS.2.1 dX11_map_73 (lv_at hl 1 rfl) ?_
              refine lv_ifnull SS.1 SS.2.1 dX11_map_75 ?_
              refine lv_iload SS.1 SS.2.1 dX11_map_78 (lv_at hl 0 rfl) ?_
              refine j_if_ne SS (tgt := 85) dX11_map_80 (by decide) (by decide) (fun c_80 => absurd c_80 (by decide)) (fun c_80 => ?_)
              refine j_iconst SS dX11_map_83 ?_
              exact W.iret SS.1 SS.2.1 hr (fun t0 ht hW => ⟨⟨_, u, rfl, ⟨(-1), rfl, (⟨⟨p0, Or.inl ⟨by unfold six; omega, rfl, cs_refl⟩⟩, by first | exact kMut_n (by decide) | exact ⟨cHr_n (fun _ _ => rfl) (by decide), sRel_n ⟨rfl, fun _ _ => rfl⟩ (by decide), ⟨⟨(by first | rfl | exact if_neg (by omega) | exact (if_neg (by omega)).trans (if_neg (by omega))), (by first | rfl | exact if_neg (by omega) | exact (if_neg (by omega)).trans (if_neg (by omega))), (by first | rfl | exact if_neg (by omega) | exact (if_neg (by omega)).trans (if_neg (by omega)))⟩, rfl, rfl, rfl⟩, ⟨⟨(by first | rfl | exact if_neg (by omega) | exact (if_neg (by omega)).trans (if_neg (by omega))), (by first | rfl | exact if_neg (by omega) | exact (if_neg (by omega)).trans (if_neg (by omega))), (by first | rfl | exact if_neg (by omega) | exact (if_neg (by omega)).trans (if_neg (by omega)))⟩, ⟨rfl, rfl, rfl, rfl, rfl⟩, ⟨rfl, rfl, rfl, rfl⟩, rfl, rfl, rfl, rfl, rfl⟩⟩⟩)⟩, by show va_P D.1 j_cl (cW D q u) t0.heap; rw [ht]; first | exact hP | (simp only [sC_id, sX_id, sY_id, sH_id, sT_id, sV_id]; exact hP)⟩, hS.F ht⟩) hS.2.2 dX11_map_84 hlk
            · skip
              refine lv_iload SS.1 SS.2.1 dX11_map_45 (lv_at hl 9 rfl) ?_
              refine j_sRi SS (As := [.int (J e)]) (rest := []) (c_X11_onGrid l D  e (show -2147483648 ≤ e ∧ e ≤ 2147483647 from (p7))) mf_X11_onGrid kw_475 hG trivial rfl hl.1 ⟨⟨Nat.le_of_ble_eq_true rfl, Nat.le_of_ble_eq_true rfl⟩, Nat.le_of_ble_eq_true rfl, Nat.le_refl _, Nat.le_refl _⟩ rfl dX11_map_47 (fun z_47 h_47 => ?_)
              have h_47 : (z_47 = 1 ∧ (-40 ≤ e ∧ e ≤ 40)) ∨ (z_47 = 0 ∧ ¬ (-40 ≤ e ∧ e ≤ 40)) := h_47
              refine j_if_eq SS (tgt := 65) (x := z_47) dX11_map_50 (by decide) (by omega) (fun c_50 => ?_) (fun c_50 => ?_)
              · skip
                refine j_iconst SS dX11_map_65 ?_
                refine lv_istore (lv' := [(11, .int (J 0)), (10, .ref (q (8 + 5 * i_9))), (9, .ref (q (8 + 5 * i_2))), (0, .ref (q 0)), (1, .int (J s)), (2, .int (J to)), (3, .int (J a)), (4, .int (J b)), (5, .int (J c)), (6, .int (J d)), (7, .int (J e)), (8, .int (J f))]) SS.1 SS.2.1 dX11_map_66 hl (by decide) rfl (fun ls hl => ?_)
                refine lv_aload SS.1 SS.2.1 dX11_map_68 (lv_at hl 2 rfl) ?_
                refine lv_ifnull SS.1 SS.2.1 dX11_map_70 ?_
                refine lv_aload SS.1 SS.2.1 dX11_map_73 (lv_at hl 1 rfl) ?_
                refine lv_ifnull SS.1 SS.2.1 dX11_map_75 ?_
                refine lv_iload SS.1 SS.2.1 dX11_map_78 (lv_at hl 0 rfl) ?_
                refine j_if_ne SS (tgt := 85) dX11_map_80 (by decide) (by decide) (fun c_80 => absurd c_80 (by decide)) (fun c_80 => ?_)
                refine j_iconst SS dX11_map_83 ?_
                exact W.iret SS.1 SS.2.1 hr (fun t0 ht hW => ⟨⟨_, u, rfl, ⟨(-1), rfl, (⟨⟨p0, Or.inl ⟨by unfold six; omega, rfl, cs_refl⟩⟩, by first | exact kMut_n (by decide) | exact ⟨cHr_n (fun _ _ => rfl) (by decide), sRel_n ⟨rfl, fun _ _ => rfl⟩ (by decide), ⟨⟨(by first | rfl | exact if_neg (by omega) | exact (if_neg (by omega)).trans (if_neg (by omega))), (by first | rfl | exact if_neg (by omega) | exact (if_neg (by omega)).trans (if_neg (by omega))), (by first | rfl | exact if_neg (by omega) | exact (if_neg (by omega)).trans (if_neg (by omega)))⟩, rfl, rfl, rfl⟩, ⟨⟨(by first | rfl | exact if_neg (by omega) | exact (if_neg (by omega)).trans (if_neg (by omega))), (by first | rfl | exact if_neg (by omega) | exact (if_neg (by omega)).trans (if_neg (by omega))), (by first | rfl | exact if_neg (by omega) | exact (if_neg (by omega)).trans (if_neg (by omega)))⟩, ⟨rfl, rfl, rfl, rfl, rfl⟩, ⟨rfl, rfl, rfl, rfl⟩, rfl, rfl, rfl, rfl, rfl⟩⟩⟩)⟩, by show va_P D.1 j_cl (cW D q u) t0.heap; rw [ht]; first | exact hP | (simp only [sC_id, sX_id, sY_id, sH_id, sT_id, sV_id]; exact hP)⟩, hS.F ht⟩) hS.2.2 dX11_map_84 hlk
              · skip
                refine lv_iload SS.1 SS.2.1 dX11_map_53 (lv_at hl 10 rfl) ?_
                refine j_sRi SS (As := [.int (J f)]) (rest := []) (c_X11_onGrid l D  f (show -2147483648 ≤ f ∧ f ≤ 2147483647 from (p8))) mf_X11_onGrid kw_475 hG trivial rfl hl.1 ⟨⟨Nat.le_of_ble_eq_true rfl, Nat.le_of_ble_eq_true rfl⟩, Nat.le_of_ble_eq_true rfl, Nat.le_refl _, Nat.le_refl _⟩ rfl dX11_map_55 (fun z_55 h_55 => ?_)
                have h_55 : (z_55 = 1 ∧ (-40 ≤ f ∧ f ≤ 40)) ∨ (z_55 = 0 ∧ ¬ (-40 ≤ f ∧ f ≤ 40)) := h_55
                refine j_if_eq SS (tgt := 65) (x := z_55) dX11_map_58 (by decide) (by omega) (fun c_58 => ?_) (fun c_58 => ?_)
                · skip
                  refine j_iconst SS dX11_map_65 ?_
                  refine lv_istore (lv' := [(11, .int (J 0)), (10, .ref (q (8 + 5 * i_9))), (9, .ref (q (8 + 5 * i_2))), (0, .ref (q 0)), (1, .int (J s)), (2, .int (J to)), (3, .int (J a)), (4, .int (J b)), (5, .int (J c)), (6, .int (J d)), (7, .int (J e)), (8, .int (J f))]) SS.1 SS.2.1 dX11_map_66 hl (by decide) rfl (fun ls hl => ?_)
                  refine lv_aload SS.1 SS.2.1 dX11_map_68 (lv_at hl 2 rfl) ?_
                  refine lv_ifnull SS.1 SS.2.1 dX11_map_70 ?_
                  refine lv_aload SS.1 SS.2.1 dX11_map_73 (lv_at hl 1 rfl) ?_
                  refine lv_ifnull SS.1 SS.2.1 dX11_map_75 ?_
                  refine lv_iload SS.1 SS.2.1 dX11_map_78 (lv_at hl 0 rfl) ?_
                  refine j_if_ne SS (tgt := 85) dX11_map_80 (by decide) (by decide) (fun c_80 => absurd c_80 (by decide)) (fun c_80 => ?_)
                  refine j_iconst SS dX11_map_83 ?_
                  exact W.iret SS.1 SS.2.1 hr (fun t0 ht hW => ⟨⟨_, u, rfl, ⟨(-1), rfl, (⟨⟨p0, Or.inl ⟨by unfold six; omega, rfl, cs_refl⟩⟩, by first | exact kMut_n (by decide) | exact ⟨cHr_n (fun _ _ => rfl) (by decide), sRel_n ⟨rfl, fun _ _ => rfl⟩ (by decide), ⟨⟨(by first | rfl | exact if_neg (by omega) | exact (if_neg (by omega)).trans (if_neg (by omega))), (by first | rfl | exact if_neg (by omega) | exact (if_neg (by omega)).trans (if_neg (by omega))), (by first | rfl | exact if_neg (by omega) | exact (if_neg (by omega)).trans (if_neg (by omega)))⟩, rfl, rfl, rfl⟩, ⟨⟨(by first | rfl | exact if_neg (by omega) | exact (if_neg (by omega)).trans (if_neg (by omega))), (by first | rfl | exact if_neg (by omega) | exact (if_neg (by omega)).trans (if_neg (by omega))), (by first | rfl | exact if_neg (by omega) | exact (if_neg (by omega)).trans (if_neg (by omega)))⟩, ⟨rfl, rfl, rfl, rfl, rfl⟩, ⟨rfl, rfl, rfl, rfl⟩, rfl, rfl, rfl, rfl, rfl⟩⟩⟩)⟩, by show va_P D.1 j_cl (cW D q u) t0.heap; rw [ht]; first | exact hP | (simp only [sC_id, sX_id, sY_id, sH_id, sT_id, sV_id]; exact hP)⟩, hS.F ht⟩) hS.2.2 dX11_map_84 hlk
                · skip
                  refine j_iconst SS dX11_map_61 ?_
                  refine lv_goto (tgt := 66) SS.1 SS.2.1 dX11_map_62 (by decide) ?_
                  refine lv_istore (lv' := [(11, .int (J 1)), (10, .ref (q (8 + 5 * i_9))), (9, .ref (q (8 + 5 * i_2))), (0, .ref (q 0)), (1, .int (J s)), (2, .int (J to)), (3, .int (J a)), (4, .int (J b)), (5, .int (J c)), (6, .int (J d)), (7, .int (J e)), (8, .int (J f))]) SS.1 SS.2.1 dX11_map_66 hl (by decide) rfl (fun ls hl => ?_)
                  refine lv_aload SS.1 SS.2.1 dX11_map_68 (lv_at hl 2 rfl) ?_
                  refine lv_ifnull SS.1 SS.2.1 dX11_map_70 ?_
                  refine lv_aload SS.1 SS.2.1 dX11_map_73 (lv_at hl 1 rfl) ?_
                  refine lv_ifnull SS.1 SS.2.1 dX11_map_75 ?_
                  refine lv_iload SS.1 SS.2.1 dX11_map_78 (lv_at hl 0 rfl) ?_
                  refine j_if_ne SS (tgt := 85) dX11_map_80 (by decide) (by decide) (fun c_80 => ?_) (fun c_80 => absurd c_80 (by decide))
                  refine lv_iload_n SS.1 SS.2.1 dX11_map_85 rfl (lv_at hl 6 rfl) ?_
                  refine lv_iload SS.1 SS.2.1 dX11_map_86 (lv_at hl 9 rfl) ?_
                  refine j_imul SS (x := a) (y := d) dX11_map_88 ?_
                  refine lv_iload SS.1 SS.2.1 dX11_map_89 (lv_at hl 7 rfl) ?_
                  refine lv_iload SS.1 SS.2.1 dX11_map_91 (lv_at hl 8 rfl) ?_
                  refine j_imul SS (x := b) (y := c) dX11_map_93 ?_
                  refine j_isub SS (x := (a * d)) (y := (b * c)) dX11_map_94 ?_
                  refine lv_istore (lv' := [(12, .int (J ((a * d) - (b * c)))), (11, .int (J 1)), (10, .ref (q (8 + 5 * i_9))), (9, .ref (q (8 + 5 * i_2))), (0, .ref (q 0)), (1, .int (J s)), (2, .int (J to)), (3, .int (J a)), (4, .int (J b)), (5, .int (J c)), (6, .int (J d)), (7, .int (J e)), (8, .int (J f))]) SS.1 SS.2.1 dX11_map_95 hl (by decide) rfl (fun ls hl => ?_)
                  have w1 := mulb (A := 40) (B := 40) (a := a) (b := d) (by omega) (by omega)
                  have w2 := mulb (A := 40) (B := 40) (a := b) (b := c) (by omega) (by omega)
                  refine lv_iload SS.1 SS.2.1 dX11_map_97 (lv_at hl 0 rfl) ?_
                  refine j_iconst SS dX11_map_99 ?_
                  refine j_icmp_eq SS (tgt := 112) (x := ((a * d) - (b * c))) (y := 1) dX11_map_100 (by decide) (by omega) (by decide) (fun c_100 => ?_) (fun c_100 => ?_)
                  · skip
                    refine lv_aload_n SS.1 SS.2.1 dX11_map_112 rfl (lv_at hl 4 rfl) ?_
                    refine j_get SS hG hP 0 (v := .ref (q 2)) (C := RX11) (T := TX11) (N := 8) rfl rfl inX11 1 (by decide) (ref := "GridPolygons") kw_386 rfl rfl dX11_map_113 ?_
                    refine j_vWv SS (As := []) (rest := []) (c_X3_begin l D q u A (cW_D hD)   (show HU_ ((u.2.1 0)) ((u.2.1 1)) from (p0.2.2.1))) mf_X3_begin kw_418 hG hP hP (ci := 3) (q0 := 2) rfl rfl rfl hS (fun _ h => h) rfl hl.1 ⟨⟨Nat.le_of_ble_eq_true rfl, Nat.le_of_ble_eq_true rfl⟩, Nat.le_of_ble_eq_true rfl, Nat.le_refl _, Nat.le_refl _⟩ rfl dX11_map_116 (fun u116 H locs h_116 hP _ hS => ?_)
                    obtain ⟨f_116, g_116, rfl, h_116⟩ := h_116
                    have hP : va_P D.1 j_cl (cW D q (sI (sI u 0 f_116) 1 g_116)) H := hP
                    have h_116 : f_116 = jf ((u.2.1 0)) 81 161 ∧ g_116 = jf ((u.2.1 1)) (-81) 161 ∧ HU_ f_116 g_116 := h_116
                    refine j_iconst SS dX11_map_119 ?_
                    refine lv_istore (lv' := [(13, .int (J 0)), (12, .int (J ((a * d) - (b * c)))), (11, .int (J 1)), (10, .ref (q (8 + 5 * i_9))), (9, .ref (q (8 + 5 * i_2))), (0, .ref (q 0)), (1, .int (J s)), (2, .int (J to)), (3, .int (J a)), (4, .int (J b)), (5, .int (J c)), (6, .int (J d)), (7, .int (J e)), (8, .int (J f))]) SS.1 SS.2.1 dX11_map_120 hl (by decide) rfl (fun ls hl => ?_)
                    have L_122 : ∀ (nn : Nat) (i : Int) (f1 : Nat → Int) (g1 : Nat → Int) (H : Heap) (locs : List Loc) (hP : va_P D.1 j_cl (cW D q (sI (sI u 0 f1) 1 g1)) H) (hS : va_S A st.heap H locs) (ls : Array Slot) (hl : lv_has ls 16 [(0, .ref (q 0)), (1, .int (J s)), (2, .int (J to)), (3, .int (J a)), (4, .int (J b)), (5, .int (J c)), (6, .int (J d)), (7, .int (J e)), (8, .int (J f)), (9, .ref (q (8 + 5 * i_2))), (10, .ref (q (8 + 5 * i_9))), (11, .int (J 1)), (12, .int (J ((a * d) - (b * c)))), (13, .int (J i))]) (i122_0 : 0 ≤ i ∧ i ≤ u.1.2.2.1 i_2) (i122_1 : HU_ f1 g1) (i122_2 : HUL (MP (RPi u i_2 i) a b c d e f) f1 g1), (u.1.2.2.1 i_2 - i).toNat < nn → W pr l en (headSpec (jw yX11_map cX11_map 16 (some .int)) (jr 4 91)).room st mi (([.ref (q 0), .int (J s), .int (J to), .int (J a), .int (J b), .int (J c), .int (J d), .int (J e), .int (J f)] : List Value).toArray) below meth co H locs 0 0 (MQ below (jWi (fun z u' => (CI u' ∧ mpC u u' s to a b c d e f z) ∧ kMut u u' to.toNat z) (fun u' H => va_P D.1 j_cl (cW D q u') H) A) (([.ref (q 0), .int (J s), .int (J to), .int (J a), .int (J b), .int (J c), .int (J d), .int (J e), .int (J f)] : List Value).toArray) st 0 0 A) (F0 mi 122 ls []) := by
                      intro nn
                      induction nn with
                      | zero => intros; omega
                      | succ nn ih_122 =>
                        intro i f1 g1 H locs hP hS ls hl i122_0 i122_1 i122_2 hm
                        refine lv_iload SS.1 SS.2.1 dX11_map_122 (lv_at hl 13 rfl) ?_
                        refine lv_aload SS.1 SS.2.1 dX11_map_124 (lv_at hl 9 rfl) ?_
                        refine j_get SS hG hP (8 + 5 * i_2) (v := .ref (q (9 + 5 * i_2))) (C := RX10) (T := TX10) (N := 3) (cw_shape (by omega)) rfl inX10 0 (by decide) (ref := "GridPolygons$Shape") kw_151 rfl rfl dX11_map_126 ?_
                        refine j_getS SS hG hP (9 + 5 * i_2) (v := .int (J (u.1.2.2.1 i_2))) (C := RX7) (T := TX7) (N := 3) (cw_ring (by omega)) rfl inX7 2 (by decide) (ref := "GridPolygons$Ring") kw_135 kw_132 rfl dX11_map_129 ?_
                        refine j_icmp_ge SS (tgt := 234) (x := i) (y := (u.1.2.2.1 i_2)) dX11_map_132 (by decide) (by omega) (by omega) (fun c_132 => ?_) (fun c_132 => ?_)
                        · skip
                          refine lv_aload_n SS.1 SS.2.1 dX11_map_234 rfl (lv_at hl 0 rfl) ?_
                          refine j_get SS hG hP 0 (v := .ref (q 2)) (C := RX11) (T := TX11) (N := 8) rfl rfl inX11 1 (by decide) (ref := "GridPolygons") kw_386 rfl rfl dX11_map_235 ?_
                          have hU : HUL (MP (RP u i_2) a b c d e f) f1 g1 := by rw [show i = u.1.2.2.1 i_2 by omega] at i122_2; exact i122_2
                          refine j_vWv SS (As := []) (rest := []) (c_X3_close2 l D q (sI (sI u 0 f1) 1 g1) A (cW_D hD)   (show RB 80 (sI (sI u 0 f1) 1 g1) 8 from (p0.2.1.1)) (show HU_ (f1) (g1) from (i122_1))) mf_X3_close kw_425 hG hP hP (ci := 3) (q0 := 2) rfl rfl rfl hS (fun _ h => h) rfl hl.1 ⟨⟨Nat.le_of_ble_eq_true rfl, Nat.le_of_ble_eq_true rfl⟩, Nat.le_of_ble_eq_true rfl, Nat.le_refl _, Nat.le_refl _⟩ rfl dX11_map_238 (fun u238 H locs h_238 hP _ hS => ?_)
                          obtain ⟨f_238, g_238, n_238, rfl, h_238⟩ := h_238
                          have hP : va_P D.1 j_cl (cW D q (sY (sX (sI (sI (sC u 8 n_238) 0 f1) 1 g1) 8 f_238) 8 g_238)) H := hP
                          have h_238 : (0 ≤ n_238 ∧ n_238 ≤ 323) ∧ RV 80 f_238 g_238 ∧ ∀ S : Int → Int → Prop, HUL S (f1) (g1) → HS S n_238 f_238 g_238 := h_238
                          refine lv_aload_n SS.1 SS.2.1 dX11_map_241 rfl (lv_at hl 0 rfl) ?_
                          refine lv_aload SS.1 SS.2.1 dX11_map_242 (lv_at hl 10 rfl) ?_
                          refine j_vWi SS (As := [.ref (q (8 + 5 * i_9))]) (rest := []) (c_X11_remakeIfFitsS l D q (sY (sX (sI (sI (sC u 8 n_238) 0 f1) 1 g1) 8 f_238) 8 g_238) A (cW_D hD) i_9 (by omega)  (show CI (sY (sX (sI (sI (sC u 8 n_238) 0 f1) 1 g1) 8 f_238) 8 g_238) from (CI_8 (CI_h p0 i122_1) h_238.1 h_238.2.1))) mf_X11_remakeIfFits kw_493 hG hP hP (ci := 11) (q0 := 0) rfl rfl rfl hS (fun _ h => h) rfl hl.1 ⟨⟨Nat.le_of_ble_eq_true rfl, Nat.le_of_ble_eq_true rfl⟩, Nat.le_of_ble_eq_true rfl, Nat.le_refl _, Nat.le_refl _⟩ rfl dX11_map_244 (fun z_244 u244 H locs h_244 hP _ hS => ?_)
                          obtain ⟨n_244, f_244, g_244, hh_244, tt_244, st0_244, rfl, h_244⟩ := h_244
                          have hP : va_P D.1 j_cl (cW D q (sY (sY (sX (sX (sV (sT (sI (sI (sH (sC (sC u 8 n_238) i_9 n_244) i_9 hh_244) 0 f1) 1 g1) i_9 tt_244) 0 st0_244) 8 f_238) i_9 f_244) 8 g_238) i_9 g_244)) H := hP
                          have h_244 : ((CI (sY (sY (sX (sX (sV (sT (sI (sI (sH (sC (sC u 8 n_238) i_9 n_244) i_9 hh_244) 0 f1) 1 g1) i_9 tt_244) 0 st0_244) 8 f_238) i_9 f_244) 8 g_238) i_9 g_244) ∧ ((z_244 = -3 ∧ ¬ (n_238 ≤ 24 ∧ bd 40 (f_238) (g_238) (n_238)) ∧ cSame (sY (sX (sI (sI (sC u 8 n_238) 0 f1) 1 g1) 8 f_238) 8 g_238) (sY (sY (sX (sX (sV (sT (sI (sI (sH (sC (sC u 8 n_238) i_9 n_244) i_9 hh_244) 0 f1) 1 g1) i_9 tt_244) 0 st0_244) 8 f_238) i_9 f_244) 8 g_238) i_9 g_244)) ∨ (z_244 = n_238 ∧ n_238 ≤ 24 ∧ bd 40 (f_238) (g_238) (n_238) ∧ cNew (sY (sX (sI (sI (sC u 8 n_238) 0 f1) 1 g1) 8 f_238) 8 g_238) (sY (sY (sX (sX (sV (sT (sI (sI (sH (sC (sC u 8 n_238) i_9 n_244) i_9 hh_244) 0 f1) 1 g1) i_9 tt_244) 0 st0_244) 8 f_238) i_9 f_244) 8 g_238) i_9 g_244) i_9 (n_238) (f_238) (g_238)))) ∧ ((z_244 = -3 ∧ hh_244 = (u.1.2.2.2.1 i_9)) ∨ (0 ≤ z_244 ∧ ∀ a : Nat, a < 40 → hh_244 a = 0))) ∧ ((z_244 = -3 ∧ tt_244 = (u.1.2.2.2.2 i_9) ∧ st0_244 = (u.2.2.2 0)) ∨ (0 ≤ z_244 ∧ ((u.2.2.2 0) < 2147483647 → tt_244 = (u.2.2.2 0) + 1 ∧ st0_244 = (u.2.2.2 0) + 1))) := h_244
                          obtain ⟨h_244, sz_244⟩ := h_244
                          obtain ⟨h_244, hz_244⟩ := h_244
                          exact W.iret SS.1 SS.2.1 hr (fun t0 ht hW => ⟨⟨_, (sY (sY (sX (sX (sV (sT (sI (sI (sH (sC (sC u 8 n_238) i_9 n_244) i_9 hh_244) 0 f1) 1 g1) i_9 tt_244) 0 st0_244) 8 f_238) i_9 f_244) 8 g_238) i_9 g_244), rfl, ⟨z_244, rfl, (⟨⟨h_244.1, Or.inr ⟨by omega, by omega, by unfold six; omega, Or.inr ⟨by omega, Or.inr (by rw [show s.toNat = i_2 by omega, show to.toNat = i_9 by omega]; exact mkC_r (by first | exact cs_refl | exact (fun r hr => ⟨if_neg (by omega), if_neg (by omega), if_neg (by omega)⟩)) (h_238.2.2 _ hU) h_244.2)⟩⟩⟩, by rw [show to.toNat = i_9 by omega]; exact ⟨cHr_k (fun _ => rfl) hz_244, sRel_k rfl (fun _ => rfl) sz_244, ⟨⟨(by first | rfl | exact if_neg (by omega) | exact (if_neg (by omega)).trans (if_neg (by omega))), (by first | rfl | exact if_neg (by omega) | exact (if_neg (by omega)).trans (if_neg (by omega))), (by first | rfl | exact if_neg (by omega) | exact (if_neg (by omega)).trans (if_neg (by omega)))⟩, rfl, rfl, rfl⟩, ⟨⟨(by first | rfl | exact if_neg (by omega) | exact (if_neg (by omega)).trans (if_neg (by omega))), (by first | rfl | exact if_neg (by omega) | exact (if_neg (by omega)).trans (if_neg (by omega))), (by first | rfl | exact if_neg (by omega) | exact (if_neg (by omega)).trans (if_neg (by omega)))⟩, ⟨rfl, rfl, rfl, rfl, rfl⟩, ⟨rfl, rfl, rfl, rfl⟩, rfl, rfl, rfl, rfl, rfl⟩⟩⟩)⟩, by show va_P D.1 j_cl (cW D q (sY (sY (sX (sX (sV (sT (sI (sI (sH (sC (sC u 8 n_238) i_9 n_244) i_9 hh_244) 0 f1) 1 g1) i_9 tt_244) 0 st0_244) 8 f_238) i_9 f_244) 8 g_238) i_9 g_244)) t0.heap; rw [ht]; first | exact hP | (simp only [sC_id, sX_id, sY_id, sH_id, sT_id, sV_id]; exact hP)⟩, hS.F ht⟩) hS.2.2 dX11_map_247 hlk
                        · skip
                          refine lv_iload_n SS.1 SS.2.1 dX11_map_135 rfl (lv_at hl 3 rfl) ?_
                          refine lv_aload SS.1 SS.2.1 dX11_map_136 (lv_at hl 9 rfl) ?_
                          refine j_get SS hG hP (8 + 5 * i_2) (v := .ref (q (9 + 5 * i_2))) (C := RX10) (T := TX10) (N := 3) (cw_shape (by omega)) rfl inX10 0 (by decide) (ref := "GridPolygons$Shape") kw_151 rfl rfl dX11_map_138 ?_
                          refine lv_iload SS.1 SS.2.1 dX11_map_141 (lv_at hl 13 rfl) ?_
                          refine j_uRi SS (As := [.int (J i)]) (rest := [.int (J a)]) (c_X8_x l D q (sI (sI u 0 f1) 1 g1) i_2 (by omega) i (show -2147483648 ≤ i ∧ i ≤ 2147483647 from (by omega))) mu_7_x kw_463 hG hP hP (ci := 7) (q0 := (9 + 5 * i_2)) rfl (cw_ring (by omega)) rfl rfl hl.1 ⟨⟨Nat.le_of_ble_eq_true rfl, Nat.le_of_ble_eq_true rfl⟩, Nat.le_of_ble_eq_true rfl, Nat.le_refl _, Nat.le_refl _⟩ rfl dX11_map_143 (fun z_143 h_143 => ?_)
                          have h_143 : z_143 = rx (sI (sI u 0 f1) 1 g1) i_2 i ∧ ∀ K : Int, 0 ≤ K → RB K (sI (sI u 0 f1) 1 g1) i_2 → -K ≤ z_143 ∧ z_143 ≤ K := h_143
                          have hb_143 := h_143.2 80 (by omega) (show RB 80 u i_2 from CI_s p0 (by omega))
                          refine j_imul SS (x := a) (y := z_143) dX11_map_146 ?_
                          refine lv_iload SS.1 SS.2.1 dX11_map_147 (lv_at hl 4 rfl) ?_
                          refine lv_aload SS.1 SS.2.1 dX11_map_149 (lv_at hl 9 rfl) ?_
                          refine j_get SS hG hP (8 + 5 * i_2) (v := .ref (q (9 + 5 * i_2))) (C := RX10) (T := TX10) (N := 3) (cw_shape (by omega)) rfl inX10 0 (by decide) (ref := "GridPolygons$Shape") kw_151 rfl rfl dX11_map_151 ?_
                          refine lv_iload SS.1 SS.2.1 dX11_map_154 (lv_at hl 13 rfl) ?_
                          refine j_uRi SS (As := [.int (J i)]) (rest := [.int (J b), .int (J (a * z_143))]) (c_X8_y l D q (sI (sI u 0 f1) 1 g1) i_2 (by omega) i (show -2147483648 ≤ i ∧ i ≤ 2147483647 from (by omega))) mu_7_y kw_464 hG hP hP (ci := 7) (q0 := (9 + 5 * i_2)) rfl (cw_ring (by omega)) rfl rfl hl.1 ⟨⟨Nat.le_of_ble_eq_true rfl, Nat.le_of_ble_eq_true rfl⟩, Nat.le_of_ble_eq_true rfl, Nat.le_refl _, Nat.le_refl _⟩ rfl dX11_map_156 (fun z_156 h_156 => ?_)
                          have h_156 : z_156 = ry9 (sI (sI u 0 f1) 1 g1) i_2 i ∧ ∀ K : Int, 0 ≤ K → RB K (sI (sI u 0 f1) 1 g1) i_2 → -K ≤ z_156 ∧ z_156 ≤ K := h_156
                          have hb_156 := h_156.2 80 (by omega) (show RB 80 u i_2 from CI_s p0 (by omega))
                          refine j_imul SS (x := b) (y := z_156) dX11_map_159 ?_
                          refine j_iadd SS (x := (a * z_143)) (y := (b * z_156)) dX11_map_160 ?_
                          refine lv_iload SS.1 SS.2.1 dX11_map_161 (lv_at hl 7 rfl) ?_
                          refine j_iadd SS (x := ((a * z_143) + (b * z_156))) (y := e) dX11_map_163 ?_
                          refine lv_istore (lv' := [(14, .int (J (((a * z_143) + (b * z_156)) + e))), (0, .ref (q 0)), (1, .int (J s)), (2, .int (J to)), (3, .int (J a)), (4, .int (J b)), (5, .int (J c)), (6, .int (J d)), (7, .int (J e)), (8, .int (J f)), (9, .ref (q (8 + 5 * i_2))), (10, .ref (q (8 + 5 * i_9))), (11, .int (J 1)), (12, .int (J ((a * d) - (b * c)))), (13, .int (J i))]) SS.1 SS.2.1 dX11_map_164 hl (by decide) rfl (fun ls hl => ?_)
                          refine lv_iload SS.1 SS.2.1 dX11_map_166 (lv_at hl 6 rfl) ?_
                          refine lv_aload SS.1 SS.2.1 dX11_map_168 (lv_at hl 10 rfl) ?_
                          refine j_get SS hG hP (8 + 5 * i_2) (v := .ref (q (9 + 5 * i_2))) (C := RX10) (T := TX10) (N := 3) (cw_shape (by omega)) rfl inX10 0 (by decide) (ref := "GridPolygons$Shape") kw_151 rfl rfl dX11_map_170 ?_
                          refine lv_iload SS.1 SS.2.1 dX11_map_173 (lv_at hl 14 rfl) ?_
                          refine j_uRi SS (As := [.int (J i)]) (rest := [.int (J c)]) (c_X8_x l D q (sI (sI u 0 f1) 1 g1) i_2 (by omega) i (show -2147483648 ≤ i ∧ i ≤ 2147483647 from (by omega))) mu_7_x kw_463 hG hP hP (ci := 7) (q0 := (9 + 5 * i_2)) rfl (cw_ring (by omega)) rfl rfl hl.1 ⟨⟨Nat.le_of_ble_eq_true rfl, Nat.le_of_ble_eq_true rfl⟩, Nat.le_of_ble_eq_true rfl, Nat.le_refl _, Nat.le_refl _⟩ rfl dX11_map_175 (fun z_175 h_175 => ?_)
                          have h_175 : z_175 = rx (sI (sI u 0 f1) 1 g1) i_2 i ∧ ∀ K : Int, 0 ≤ K → RB K (sI (sI u 0 f1) 1 g1) i_2 → -K ≤ z_175 ∧ z_175 ≤ K := h_175
                          have hb_175 := h_175.2 80 (by omega) (show RB 80 u i_2 from CI_s p0 (by omega))
                          refine j_imul SS (x := c) (y := z_175) dX11_map_178 ?_
                          refine lv_iload SS.1 SS.2.1 dX11_map_179 (lv_at hl 7 rfl) ?_
                          refine lv_aload SS.1 SS.2.1 dX11_map_181 (lv_at hl 10 rfl) ?_
                          refine j_get SS hG hP (8 + 5 * i_2) (v := .ref (q (9 + 5 * i_2))) (C := RX10) (T := TX10) (N := 3) (cw_shape (by omega)) rfl inX10 0 (by decide) (ref := "GridPolygons$Shape") kw_151 rfl rfl dX11_map_183 ?_
                          refine lv_iload SS.1 SS.2.1 dX11_map_186 (lv_at hl 14 rfl) ?_
                          refine j_uRi SS (As := [.int (J i)]) (rest := [.int (J d), .int (J (c * z_175))]) (c_X8_y l D q (sI (sI u 0 f1) 1 g1) i_2 (by omega) i (show -2147483648 ≤ i ∧ i ≤ 2147483647 from (by omega))) mu_7_y kw_464 hG hP hP (ci := 7) (q0 := (9 + 5 * i_2)) rfl (cw_ring (by omega)) rfl rfl hl.1 ⟨⟨Nat.le_of_ble_eq_true rfl, Nat.le_of_ble_eq_true rfl⟩, Nat.le_of_ble_eq_true rfl, Nat.le_refl _, Nat.le_refl _⟩ rfl dX11_map_188 (fun z_188 h_188 => ?_)
                          have h_188 : z_188 = ry9 (sI (sI u 0 f1) 1 g1) i_2 i ∧ ∀ K : Int, 0 ≤ K → RB K (sI (sI u 0 f1) 1 g1) i_2 → -K ≤ z_188 ∧ z_188 ≤ K := h_188
                          have hb_188 := h_188.2 80 (by omega) (show RB 80 u i_2 from CI_s p0 (by omega))
                          refine j_imul SS (x := d) (y := z_188) dX11_map_191 ?_
                          refine j_iadd SS (x := (c * z_175)) (y := (d * z_188)) dX11_map_192 ?_
                          refine lv_iload SS.1 SS.2.1 dX11_map_193 (lv_at hl 9 rfl) ?_
                          refine j_iadd SS (x := ((c * z_175) + (d * z_188))) (y := f) dX11_map_195 ?_
                          refine lv_istore (lv' := [(15, .int (J (((c * z_175) + (d * z_188)) + f))), (14, .int (J (((a * z_143) + (b * z_156)) + e))), (0, .ref (q 0)), (1, .int (J s)), (2, .int (J to)), (3, .int (J a)), (4, .int (J b)), (5, .int (J c)), (6, .int (J d)), (7, .int (J e)), (8, .int (J f)), (9, .ref (q (8 + 5 * i_2))), (10, .ref (q (8 + 5 * i_9))), (11, .int (J 1)), (12, .int (J ((a * d) - (b * c)))), (13, .int (J i))]) SS.1 SS.2.1 dX11_map_196 hl (by decide) rfl (fun ls hl => ?_)
                          have x1 := mulb (A := 40) (B := 80) (a := a) (b := z_143) (by omega) (by omega)
                          have x2 := mulb (A := 40) (B := 80) (a := b) (b := z_156) (by omega) (by omega)
                          have x3 := mulb (A := 40) (B := 80) (a := c) (b := z_175) (by omega) (by omega)
                          have x4 := mulb (A := 40) (B := 80) (a := d) (b := z_188) (by omega) (by omega)
                          have ex1 : z_143 = u.1.1 i_2 i.toNat := by rw [h_143.1]; exact if_pos (by omega)
                          have ey1 : z_156 = u.1.2.1 i_2 i.toNat := by rw [h_156.1]; exact if_pos (by omega)
                          have ex2 : z_175 = u.1.1 i_2 i.toNat := by rw [h_175.1]; exact if_pos (by omega)
                          have ey2 : z_188 = u.1.2.1 i_2 i.toNat := by rw [h_188.1]; exact if_pos (by omega)
                          refine lv_iload SS.1 SS.2.1 dX11_map_198 (lv_at hl 1 rfl) ?_
                          refine j_sRi SS (As := [.int (J (((a * z_143) + (b * z_156)) + e))]) (rest := []) (c_X11_onGrid l D  (((a * z_143) + (b * z_156)) + e) (show -2147483648 ≤ (((a * z_143) + (b * z_156)) + e) ∧ (((a * z_143) + (b * z_156)) + e) ≤ 2147483647 from (by omega))) mf_X11_onGrid kw_475 hG trivial rfl hl.1 ⟨⟨Nat.le_of_ble_eq_true rfl, Nat.le_of_ble_eq_true rfl⟩, Nat.le_of_ble_eq_true rfl, Nat.le_refl _, Nat.le_refl _⟩ rfl dX11_map_200 (fun z_200 h_200 => ?_)
                          have h_200 : (z_200 = 1 ∧ (-40 ≤ (((a * z_143) + (b * z_156)) + e) ∧ (((a * z_143) + (b * z_156)) + e) ≤ 40)) ∨ (z_200 = 0 ∧ ¬ (-40 ≤ (((a * z_143) + (b * z_156)) + e) ∧ (((a * z_143) + (b * z_156)) + e) ≤ 40)) := h_200
                          refine j_if_eq SS (tgt := 214) (x := z_200) dX11_map_203 (by decide) (by omega) (fun c_203 => ?_) (fun c_203 => ?_)
                          · skip
                            refine j_bipush SS dX11_map_214 (by decide +kernel) ?_
                            exact W.iret SS.1 SS.2.1 hr (fun t0 ht hW => ⟨⟨_, (sI (sI u 0 f1) 1 g1), rfl, ⟨(-3), rfl, (⟨⟨CI_h p0 i122_1, Or.inr ⟨by omega, by omega, by unfold six; omega, Or.inr ⟨by omega, Or.inl ⟨rfl, cs_refl, by rw [show s.toNat = i_2 by omega]; refine ⟨_, _, ⟨_, _, ⟨i.toNat, by omega, rfl, rfl⟩, rfl, rfl⟩, ?_⟩; intro w; rw [← ex1, ← ey1, show c * z_143 + d * z_156 + f = c * z_175 + d * z_188 + f by rw [ex1, ey1, ex2, ey2]] at w; omega⟩⟩⟩⟩, by first | exact kMut_n (by decide) | exact ⟨cHr_n (fun _ _ => rfl) (by decide), sRel_n ⟨rfl, fun _ _ => rfl⟩ (by decide), ⟨⟨(by first | rfl | exact if_neg (by omega) | exact (if_neg (by omega)).trans (if_neg (by omega))), (by first | rfl | exact if_neg (by omega) | exact (if_neg (by omega)).trans (if_neg (by omega))), (by first | rfl | exact if_neg (by omega) | exact (if_neg (by omega)).trans (if_neg (by omega)))⟩, rfl, rfl, rfl⟩, ⟨⟨(by first | rfl | exact if_neg (by omega) | exact (if_neg (by omega)).trans (if_neg (by omega))), (by first | rfl | exact if_neg (by omega) | exact (if_neg (by omega)).trans (if_neg (by omega))), (by first | rfl | exact if_neg (by omega) | exact (if_neg (by omega)).trans (if_neg (by omega)))⟩, ⟨rfl, rfl, rfl, rfl, rfl⟩, ⟨rfl, rfl, rfl, rfl⟩, rfl, rfl, rfl, rfl, rfl⟩⟩⟩)⟩, by show va_P D.1 j_cl (cW D q (sI (sI u 0 f1) 1 g1)) t0.heap; rw [ht]; first | exact hP | (simp only [sC_id, sX_id, sY_id, sH_id, sT_id, sV_id]; exact hP)⟩, hS.F ht⟩) hS.2.2 dX11_map_216 hlk
                          · skip
                            refine lv_iload SS.1 SS.2.1 dX11_map_206 (lv_at hl 0 rfl) ?_
                            refine j_sRi SS (As := [.int (J (((c * z_175) + (d * z_188)) + f))]) (rest := []) (c_X11_onGrid l D  (((c * z_175) + (d * z_188)) + f) (show -2147483648 ≤ (((c * z_175) + (d * z_188)) + f) ∧ (((c * z_175) + (d * z_188)) + f) ≤ 2147483647 from (by omega))) mf_X11_onGrid kw_475 hG trivial rfl hl.1 ⟨⟨Nat.le_of_ble_eq_true rfl, Nat.le_of_ble_eq_true rfl⟩, Nat.le_of_ble_eq_true rfl, Nat.le_refl _, Nat.le_refl _⟩ rfl dX11_map_208 (fun z_208 h_208 => ?_)
                            have h_208 : (z_208 = 1 ∧ (-40 ≤ (((c * z_175) + (d * z_188)) + f) ∧ (((c * z_175) + (d * z_188)) + f) ≤ 40)) ∨ (z_208 = 0 ∧ ¬ (-40 ≤ (((c * z_175) + (d * z_188)) + f) ∧ (((c * z_175) + (d * z_188)) + f) ≤ 40)) := h_208
                            refine j_if_ne SS (tgt := 217) (x := z_208) dX11_map_211 (by decide) (by omega) (fun c_211 => ?_) (fun c_211 => ?_)
                            · skip
                              refine lv_aload_n SS.1 SS.2.1 dX11_map_217 rfl (lv_at hl 2 rfl) ?_
                              refine j_get SS hG hP 0 (v := .ref (q 2)) (C := RX11) (T := TX11) (N := 8) rfl rfl inX11 1 (by decide) (ref := "GridPolygons") kw_386 rfl rfl dX11_map_218 ?_
                              refine lv_iload SS.1 SS.2.1 dX11_map_221 (lv_at hl 1 rfl) ?_
                              refine lv_iload SS.1 SS.2.1 dX11_map_223 (lv_at hl 0 rfl) ?_
                              refine j_vWv SS (As := [.int (J (((a * z_143) + (b * z_156)) + e)), .int (J (((c * z_175) + (d * z_188)) + f))]) (rest := []) (c_X3_take l D q (sI (sI u 0 f1) 1 g1) A (cW_D hD)  (((a * z_143) + (b * z_156)) + e) (((c * z_175) + (d * z_188)) + f) (show HU_ (f1) (g1) from (i122_1)) (show -1000 ≤ (((a * z_143) + (b * z_156)) + e) ∧ (((a * z_143) + (b * z_156)) + e) ≤ 1000 from (by omega)) (show -2147483648 ≤ (((c * z_175) + (d * z_188)) + f) ∧ (((c * z_175) + (d * z_188)) + f) ≤ 2147483647 from (by omega))) mf_X3_take kw_492 hG hP hP (ci := 3) (q0 := 2) rfl rfl rfl hS (fun _ h => h) rfl hl.1 ⟨⟨Nat.le_of_ble_eq_true rfl, Nat.le_of_ble_eq_true rfl⟩, Nat.le_of_ble_eq_true rfl, Nat.le_refl _, Nat.le_refl _⟩ rfl dX11_map_225 (fun u225 H locs h_225 hP _ hS => ?_)
                              obtain ⟨f_225, g_225, rfl, h_225⟩ := h_225
                              have hP : va_P D.1 j_cl (cW D q (sI (sI u 0 f_225) 1 g_225)) H := hP
                              have h_225 : ((-80 ≤ (((a * z_143) + (b * z_156)) + e) ∧ (((a * z_143) + (b * z_156)) + e) ≤ 80 ∧ -80 ≤ (((c * z_175) + (d * z_188)) + f) ∧ (((c * z_175) + (d * z_188)) + f) ≤ 80) ∧ f_225 = upI (f1) ((((a * z_143) + (b * z_156)) + e) + 80).toNat (min (f1 ((((a * z_143) + (b * z_156)) + e) + 80).toNat) (((c * z_175) + (d * z_188)) + f)) ∧ g_225 = upI (g1) ((((a * z_143) + (b * z_156)) + e) + 80).toNat (max (g1 ((((a * z_143) + (b * z_156)) + e) + 80).toNat) (((c * z_175) + (d * z_188)) + f)) ∨ ¬ (-80 ≤ (((a * z_143) + (b * z_156)) + e) ∧ (((a * z_143) + (b * z_156)) + e) ≤ 80 ∧ -80 ≤ (((c * z_175) + (d * z_188)) + f) ∧ (((c * z_175) + (d * z_188)) + f) ≤ 80) ∧ f_225 = f1 ∧ g_225 = g1) ∧ HU_ f_225 g_225 := h_225
                              refine lv_iinc (v := J (i + 1)) (lv' := [(13, .int (J (i + 1))), (15, .int (J (((c * z_175) + (d * z_188)) + f))), (14, .int (J (((a * z_143) + (b * z_156)) + e))), (0, .ref (q 0)), (1, .int (J s)), (2, .int (J to)), (3, .int (J a)), (4, .int (J b)), (5, .int (J c)), (6, .int (J d)), (7, .int (J e)), (8, .int (J f)), (9, .ref (q (8 + 5 * i_2))), (10, .ref (q (8 + 5 * i_9))), (11, .int (J 1)), (12, .int (J ((a * d) - (b * c))))]) SS.1 SS.2.1 dX11_map_228 hl (k := 15) rfl (J_add _ _) (by decide) rfl (fun ls hl => ?_)
                              refine lv_goto (tgt := 122) SS.1 SS.2.1 dX11_map_231 (by decide) ?_
                              exact ih_122 (i + 1) f_225 g_225 _ _ hP hS ls (lv_sub hl [3, 4, 5, 6, 7, 8, 9, 10, 11, 12, 13, 14, 15, 0] rfl) (by omega) (h_225.2) (by rcases h_225.1 with ⟨w1, w2, w3⟩ | ⟨w1, _⟩; (rw [w2, w3]; exact HUL_c (HUL_t i122_2 (by omega) (by omega)) (fun x y => rm_s (x0 := a * z_143 + b * z_156 + e) (y0 := c * z_175 + d * z_188 + f) i122_0.1 (by rw [ex1, ey1]) (by rw [ex2, ey2]) x y)); omega) (by omega)
                            · skip
                              refine j_bipush SS dX11_map_214 (by decide +kernel) ?_
                              exact W.iret SS.1 SS.2.1 hr (fun t0 ht hW => ⟨⟨_, (sI (sI u 0 f1) 1 g1), rfl, ⟨(-3), rfl, (⟨⟨CI_h p0 i122_1, Or.inr ⟨by omega, by omega, by unfold six; omega, Or.inr ⟨by omega, Or.inl ⟨rfl, cs_refl, by rw [show s.toNat = i_2 by omega]; refine ⟨_, _, ⟨_, _, ⟨i.toNat, by omega, rfl, rfl⟩, rfl, rfl⟩, ?_⟩; intro w; rw [← ex1, ← ey1, show c * z_143 + d * z_156 + f = c * z_175 + d * z_188 + f by rw [ex1, ey1, ex2, ey2]] at w; omega⟩⟩⟩⟩, by first | exact kMut_n (by decide) | exact ⟨cHr_n (fun _ _ => rfl) (by decide), sRel_n ⟨rfl, fun _ _ => rfl⟩ (by decide), ⟨⟨(by first | rfl | exact if_neg (by omega) | exact (if_neg (by omega)).trans (if_neg (by omega))), (by first | rfl | exact if_neg (by omega) | exact (if_neg (by omega)).trans (if_neg (by omega))), (by first | rfl | exact if_neg (by omega) | exact (if_neg (by omega)).trans (if_neg (by omega)))⟩, rfl, rfl, rfl⟩, ⟨⟨(by first | rfl | exact if_neg (by omega) | exact (if_neg (by omega)).trans (if_neg (by omega))), (by first | rfl | exact if_neg (by omega) | exact (if_neg (by omega)).trans (if_neg (by omega))), (by first | rfl | exact if_neg (by omega) | exact (if_neg (by omega)).trans (if_neg (by omega)))⟩, ⟨rfl, rfl, rfl, rfl, rfl⟩, ⟨rfl, rfl, rfl, rfl⟩, rfl, rfl, rfl, rfl, rfl⟩⟩⟩)⟩, by show va_P D.1 j_cl (cW D q (sI (sI u 0 f1) 1 g1)) t0.heap; rw [ht]; first | exact hP | (simp only [sC_id, sX_id, sY_id, sH_id, sT_id, sV_id]; exact hP)⟩, hS.F ht⟩) hS.2.2 dX11_map_216 hlk
                    exact L_122 ((u.1.2.2.1 i_2 - (0 : Int)).toNat + 1) 0 f_116 g_116 _ _ hP hS ls (lv_sub hl [5, 6, 7, 8, 9, 10, 11, 12, 13, 4, 3, 2, 1, 0] rfl) (by omega) (h_116.2.2) (by rw [h_116.1, h_116.2.1]; exact HUL_c HUL_0 (fun x y => ⟨fun ⟨p, q, ⟨k, k1, _⟩, _⟩ => by omega, False.elim⟩)) (Nat.lt_succ_self _)
                  · skip
                    refine lv_iload SS.1 SS.2.1 dX11_map_103 (lv_at hl 0 rfl) ?_
                    refine j_iconst SS dX11_map_105 ?_
                    refine j_icmp_eq SS (tgt := 112) (x := ((a * d) - (b * c))) (y := (-1)) dX11_map_106 (by decide) (by omega) (by decide) (fun c_106 => ?_) (fun c_106 => ?_)
                    · skip
                      refine lv_aload_n SS.1 SS.2.1 dX11_map_112 rfl (lv_at hl 4 rfl) ?_
                      refine j_get SS hG hP 0 (v := .ref (q 2)) (C := RX11) (T := TX11) (N := 8) rfl rfl inX11 1 (by decide) (ref := "GridPolygons") kw_386 rfl rfl dX11_map_113 ?_
                      refine j_vWv SS (As := []) (rest := []) (c_X3_begin l D q u A (cW_D hD)   (show HU_ ((u.2.1 0)) ((u.2.1 1)) from (p0.2.2.1))) mf_X3_begin kw_418 hG hP hP (ci := 3) (q0 := 2) rfl rfl rfl hS (fun _ h => h) rfl hl.1 ⟨⟨Nat.le_of_ble_eq_true rfl, Nat.le_of_ble_eq_true rfl⟩, Nat.le_of_ble_eq_true rfl, Nat.le_refl _, Nat.le_refl _⟩ rfl dX11_map_116 (fun u116 H locs h_116 hP _ hS => ?_)
                      obtain ⟨f_116, g_116, rfl, h_116⟩ := h_116
                      have hP : va_P D.1 j_cl (cW D q (sI (sI u 0 f_116) 1 g_116)) H := hP
                      have h_116 : f_116 = jf ((u.2.1 0)) 81 161 ∧ g_116 = jf ((u.2.1 1)) (-81) 161 ∧ HU_ f_116 g_116 := h_116
                      refine j_iconst SS dX11_map_119 ?_
                      refine lv_istore (lv' := [(13, .int (J 0)), (12, .int (J ((a * d) - (b * c)))), (11, .int (J 1)), (10, .ref (q (8 + 5 * i_9))), (9, .ref (q (8 + 5 * i_2))), (0, .ref (q 0)), (1, .int (J s)), (2, .int (J to)), (3, .int (J a)), (4, .int (J b)), (5, .int (J c)), (6, .int (J d)), (7, .int (J e)), (8, .int (J f))]) SS.1 SS.2.1 dX11_map_120 hl (by decide) rfl (fun ls hl => ?_)
                      have L_122 : ∀ (nn : Nat) (i : Int) (f1 : Nat → Int) (g1 : Nat → Int) (H : Heap) (locs : List Loc) (hP : va_P D.1 j_cl (cW D q (sI (sI u 0 f1) 1 g1)) H) (hS : va_S A st.heap H locs) (ls : Array Slot) (hl : lv_has ls 16 [(0, .ref (q 0)), (1, .int (J s)), (2, .int (J to)), (3, .int (J a)), (4, .int (J b)), (5, .int (J c)), (6, .int (J d)), (7, .int (J e)), (8, .int (J f)), (9, .ref (q (8 + 5 * i_2))), (10, .ref (q (8 + 5 * i_9))), (11, .int (J 1)), (12, .int (J ((a * d) - (b * c)))), (13, .int (J i))]) (i122_0 : 0 ≤ i ∧ i ≤ u.1.2.2.1 i_2) (i122_1 : HU_ f1 g1) (i122_2 : HUL (MP (RPi u i_2 i) a b c d e f) f1 g1), (u.1.2.2.1 i_2 - i).toNat < nn → W pr l en (headSpec (jw yX11_map cX11_map 16 (some .int)) (jr 4 91)).room st mi (([.ref (q 0), .int (J s), .int (J to), .int (J a), .int (J b), .int (J c), .int (J d), .int (J e), .int (J f)] : List Value).toArray) below meth co H locs 0 0 (MQ below (jWi (fun z u' => (CI u' ∧ mpC u u' s to a b c d e f z) ∧ kMut u u' to.toNat z) (fun u' H => va_P D.1 j_cl (cW D q u') H) A) (([.ref (q 0), .int (J s), .int (J to), .int (J a), .int (J b), .int (J c), .int (J d), .int (J e), .int (J f)] : List Value).toArray) st 0 0 A) (F0 mi 122 ls []) := by
                        intro nn
                        induction nn with
                        | zero => intros; omega
                        | succ nn ih_122 =>
                          intro i f1 g1 H locs hP hS ls hl i122_0 i122_1 i122_2 hm
                          refine lv_iload SS.1 SS.2.1 dX11_map_122 (lv_at hl 13 rfl) ?_
                          refine lv_aload SS.1 SS.2.1 dX11_map_124 (lv_at hl 9 rfl) ?_
                          refine j_get SS hG hP (8 + 5 * i_2) (v := .ref (q (9 + 5 * i_2))) (C := RX10) (T := TX10) (N := 3) (cw_shape (by omega)) rfl inX10 0 (by decide) (ref := "GridPolygons$Shape") kw_151 rfl rfl dX11_map_126 ?_
                          refine j_getS SS hG hP (9 + 5 * i_2) (v := .int (J (u.1.2.2.1 i_2))) (C := RX7) (T := TX7) (N := 3) (cw_ring (by omega)) rfl inX7 2 (by decide) (ref := "GridPolygons$Ring") kw_135 kw_132 rfl dX11_map_129 ?_
                          refine j_icmp_ge SS (tgt := 234) (x := i) (y := (u.1.2.2.1 i_2)) dX11_map_132 (by decide) (by omega) (by omega) (fun c_132 => ?_) (fun c_132 => ?_)
                          · skip
                            refine lv_aload_n SS.1 SS.2.1 dX11_map_234 rfl (lv_at hl 0 rfl) ?_
                            refine j_get SS hG hP 0 (v := .ref (q 2)) (C := RX11) (T := TX11) (N := 8) rfl rfl inX11 1 (by decide) (ref := "GridPolygons") kw_386 rfl rfl dX11_map_235 ?_
                            have hU : HUL (MP (RP u i_2) a b c d e f) f1 g1 := by rw [show i = u.1.2.2.1 i_2 by omega] at i122_2; exact i122_2
                            refine j_vWv SS (As := []) (rest := []) (c_X3_close2 l D q (sI (sI u 0 f1) 1 g1) A (cW_D hD)   (show RB 80 (sI (sI u 0 f1) 1 g1) 8 from (p0.2.1.1)) (show HU_ (f1) (g1) from (i122_1))) mf_X3_close kw_425 hG hP hP (ci := 3) (q0 := 2) rfl rfl rfl hS (fun _ h => h) rfl hl.1 ⟨⟨Nat.le_of_ble_eq_true rfl, Nat.le_of_ble_eq_true rfl⟩, Nat.le_of_ble_eq_true rfl, Nat.le_refl _, Nat.le_refl _⟩ rfl dX11_map_238 (fun u238 H locs h_238 hP _ hS => ?_)
                            obtain ⟨f_238, g_238, n_238, rfl, h_238⟩ := h_238
                            have hP : va_P D.1 j_cl (cW D q (sY (sX (sI (sI (sC u 8 n_238) 0 f1) 1 g1) 8 f_238) 8 g_238)) H := hP
                            have h_238 : (0 ≤ n_238 ∧ n_238 ≤ 323) ∧ RV 80 f_238 g_238 ∧ ∀ S : Int → Int → Prop, HUL S (f1) (g1) → HS S n_238 f_238 g_238 := h_238
                            refine lv_aload_n SS.1 SS.2.1 dX11_map_241 rfl (lv_at hl 0 rfl) ?_
                            refine lv_aload SS.1 SS.2.1 dX11_map_242 (lv_at hl 10 rfl) ?_
                            refine j_vWi SS (As := [.ref (q (8 + 5 * i_9))]) (rest := []) (c_X11_remakeIfFitsS l D q (sY (sX (sI (sI (sC u 8 n_238) 0 f1) 1 g1) 8 f_238) 8 g_238) A (cW_D hD) i_9 (by omega)  (show CI (sY (sX (sI (sI (sC u 8 n_238) 0 f1) 1 g1) 8 f_238) 8 g_238) from (CI_8 (CI_h p0 i122_1) h_238.1 h_238.2.1))) mf_X11_remakeIfFits kw_493 hG hP hP (ci := 11) (q0 := 0) rfl rfl rfl hS (fun _ h => h) rfl hl.1 ⟨⟨Nat.le_of_ble_eq_true rfl, Nat.le_of_ble_eq_true rfl⟩, Nat.le_of_ble_eq_true rfl, Nat.le_refl _, Nat.le_refl _⟩ rfl dX11_map_244 (fun z_244 u244 H locs h_244 hP _ hS => ?_)
                            obtain ⟨n_244, f_244, g_244, hh_244, tt_244, st0_244, rfl, h_244⟩ := h_244
                            have hP : va_P D.1 j_cl (cW D q (sY (sY (sX (sX (sV (sT (sI (sI (sH (sC (sC u 8 n_238) i_9 n_244) i_9 hh_244) 0 f1) 1 g1) i_9 tt_244) 0 st0_244) 8 f_238) i_9 f_244) 8 g_238) i_9 g_244)) H := hP
                            have h_244 : ((CI (sY (sY (sX (sX (sV (sT (sI (sI (sH (sC (sC u 8 n_238) i_9 n_244) i_9 hh_244) 0 f1) 1 g1) i_9 tt_244) 0 st0_244) 8 f_238) i_9 f_244) 8 g_238) i_9 g_244) ∧ ((z_244 = -3 ∧ ¬ (n_238 ≤ 24 ∧ bd 40 (f_238) (g_238) (n_238)) ∧ cSame (sY (sX (sI (sI (sC u 8 n_238) 0 f1) 1 g1) 8 f_238) 8 g_238) (sY (sY (sX (sX (sV (sT (sI (sI (sH (sC (sC u 8 n_238) i_9 n_244) i_9 hh_244) 0 f1) 1 g1) i_9 tt_244) 0 st0_244) 8 f_238) i_9 f_244) 8 g_238) i_9 g_244)) ∨ (z_244 = n_238 ∧ n_238 ≤ 24 ∧ bd 40 (f_238) (g_238) (n_238) ∧ cNew (sY (sX (sI (sI (sC u 8 n_238) 0 f1) 1 g1) 8 f_238) 8 g_238) (sY (sY (sX (sX (sV (sT (sI (sI (sH (sC (sC u 8 n_238) i_9 n_244) i_9 hh_244) 0 f1) 1 g1) i_9 tt_244) 0 st0_244) 8 f_238) i_9 f_244) 8 g_238) i_9 g_244) i_9 (n_238) (f_238) (g_238)))) ∧ ((z_244 = -3 ∧ hh_244 = (u.1.2.2.2.1 i_9)) ∨ (0 ≤ z_244 ∧ ∀ a : Nat, a < 40 → hh_244 a = 0))) ∧ ((z_244 = -3 ∧ tt_244 = (u.1.2.2.2.2 i_9) ∧ st0_244 = (u.2.2.2 0)) ∨ (0 ≤ z_244 ∧ ((u.2.2.2 0) < 2147483647 → tt_244 = (u.2.2.2 0) + 1 ∧ st0_244 = (u.2.2.2 0) + 1))) := h_244
                            obtain ⟨h_244, sz_244⟩ := h_244
                            obtain ⟨h_244, hz_244⟩ := h_244
                            exact W.iret SS.1 SS.2.1 hr (fun t0 ht hW => ⟨⟨_, (sY (sY (sX (sX (sV (sT (sI (sI (sH (sC (sC u 8 n_238) i_9 n_244) i_9 hh_244) 0 f1) 1 g1) i_9 tt_244) 0 st0_244) 8 f_238) i_9 f_244) 8 g_238) i_9 g_244), rfl, ⟨z_244, rfl, (⟨⟨h_244.1, Or.inr ⟨by omega, by omega, by unfold six; omega, Or.inr ⟨by omega, Or.inr (by rw [show s.toNat = i_2 by omega, show to.toNat = i_9 by omega]; exact mkC_r (by first | exact cs_refl | exact (fun r hr => ⟨if_neg (by omega), if_neg (by omega), if_neg (by omega)⟩)) (h_238.2.2 _ hU) h_244.2)⟩⟩⟩, by rw [show to.toNat = i_9 by omega]; exact ⟨cHr_k (fun _ => rfl) hz_244, sRel_k rfl (fun _ => rfl) sz_244, ⟨⟨(by first | rfl | exact if_neg (by omega) | exact (if_neg (by omega)).trans (if_neg (by omega))), (by first | rfl | exact if_neg (by omega) | exact (if_neg (by omega)).trans (if_neg (by omega))), (by first | rfl | exact if_neg (by omega) | exact (if_neg (by omega)).trans (if_neg (by omega)))⟩, rfl, rfl, rfl⟩, ⟨⟨(by first | rfl | exact if_neg (by omega) | exact (if_neg (by omega)).trans (if_neg (by omega))), (by first | rfl | exact if_neg (by omega) | exact (if_neg (by omega)).trans (if_neg (by omega))), (by first | rfl | exact if_neg (by omega) | exact (if_neg (by omega)).trans (if_neg (by omega)))⟩, ⟨rfl, rfl, rfl, rfl, rfl⟩, ⟨rfl, rfl, rfl, rfl⟩, rfl, rfl, rfl, rfl, rfl⟩⟩⟩)⟩, by show va_P D.1 j_cl (cW D q (sY (sY (sX (sX (sV (sT (sI (sI (sH (sC (sC u 8 n_238) i_9 n_244) i_9 hh_244) 0 f1) 1 g1) i_9 tt_244) 0 st0_244) 8 f_238) i_9 f_244) 8 g_238) i_9 g_244)) t0.heap; rw [ht]; first | exact hP | (simp only [sC_id, sX_id, sY_id, sH_id, sT_id, sV_id]; exact hP)⟩, hS.F ht⟩) hS.2.2 dX11_map_247 hlk
                          · skip
                            refine lv_iload_n SS.1 SS.2.1 dX11_map_135 rfl (lv_at hl 3 rfl) ?_
                            refine lv_aload SS.1 SS.2.1 dX11_map_136 (lv_at hl 9 rfl) ?_
                            refine j_get SS hG hP (8 + 5 * i_2) (v := .ref (q (9 + 5 * i_2))) (C := RX10) (T := TX10) (N := 3) (cw_shape (by omega)) rfl inX10 0 (by decide) (ref := "GridPolygons$Shape") kw_151 rfl rfl dX11_map_138 ?_
                            refine lv_iload SS.1 SS.2.1 dX11_map_141 (lv_at hl 13 rfl) ?_
                            refine j_uRi SS (As := [.int (J i)]) (rest := [.int (J a)]) (c_X8_x l D q (sI (sI u 0 f1) 1 g1) i_2 (by omega) i (show -2147483648 ≤ i ∧ i ≤ 2147483647 from (by omega))) mu_7_x kw_463 hG hP hP (ci := 7) (q0 := (9 + 5 * i_2)) rfl (cw_ring (by omega)) rfl rfl hl.1 ⟨⟨Nat.le_of_ble_eq_true rfl, Nat.le_of_ble_eq_true rfl⟩, Nat.le_of_ble_eq_true rfl, Nat.le_refl _, Nat.le_refl _⟩ rfl dX11_map_143 (fun z_143 h_143 => ?_)
                            have h_143 : z_143 = rx (sI (sI u 0 f1) 1 g1) i_2 i ∧ ∀ K : Int, 0 ≤ K → RB K (sI (sI u 0 f1) 1 g1) i_2 → -K ≤ z_143 ∧ z_143 ≤ K := h_143
                            have hb_143 := h_143.2 80 (by omega) (show RB 80 u i_2 from CI_s p0 (by omega))
                            refine j_imul SS (x := a) (y := z_143) dX11_map_146 ?_
                            refine lv_iload SS.1 SS.2.1 dX11_map_147 (lv_at hl 4 rfl) ?_
                            refine lv_aload SS.1 SS.2.1 dX11_map_149 (lv_at hl 9 rfl) ?_
                            refine j_get SS hG hP (8 + 5 * i_2) (v := .ref (q (9 + 5 * i_2))) (C := RX10) (T := TX10) (N := 3) (cw_shape (by omega)) rfl inX10 0 (by decide) (ref := "GridPolygons$Shape") kw_151 rfl rfl dX11_map_151 ?_
                            refine lv_iload SS.1 SS.2.1 dX11_map_154 (lv_at hl 13 rfl) ?_
                            refine j_uRi SS (As := [.int (J i)]) (rest := [.int (J b), .int (J (a * z_143))]) (c_X8_y l D q (sI (sI u 0 f1) 1 g1) i_2 (by omega) i (show -2147483648 ≤ i ∧ i ≤ 2147483647 from (by omega))) mu_7_y kw_464 hG hP hP (ci := 7) (q0 := (9 + 5 * i_2)) rfl (cw_ring (by omega)) rfl rfl hl.1 ⟨⟨Nat.le_of_ble_eq_true rfl, Nat.le_of_ble_eq_true rfl⟩, Nat.le_of_ble_eq_true rfl, Nat.le_refl _, Nat.le_refl _⟩ rfl dX11_map_156 (fun z_156 h_156 => ?_)
                            have h_156 : z_156 = ry9 (sI (sI u 0 f1) 1 g1) i_2 i ∧ ∀ K : Int, 0 ≤ K → RB K (sI (sI u 0 f1) 1 g1) i_2 → -K ≤ z_156 ∧ z_156 ≤ K := h_156
                            have hb_156 := h_156.2 80 (by omega) (show RB 80 u i_2 from CI_s p0 (by omega))
                            refine j_imul SS (x := b) (y := z_156) dX11_map_159 ?_
                            refine j_iadd SS (x := (a * z_143)) (y := (b * z_156)) dX11_map_160 ?_
                            refine lv_iload SS.1 SS.2.1 dX11_map_161 (lv_at hl 7 rfl) ?_
                            refine j_iadd SS (x := ((a * z_143) + (b * z_156))) (y := e) dX11_map_163 ?_
                            refine lv_istore (lv' := [(14, .int (J (((a * z_143) + (b * z_156)) + e))), (0, .ref (q 0)), (1, .int (J s)), (2, .int (J to)), (3, .int (J a)), (4, .int (J b)), (5, .int (J c)), (6, .int (J d)), (7, .int (J e)), (8, .int (J f)), (9, .ref (q (8 + 5 * i_2))), (10, .ref (q (8 + 5 * i_9))), (11, .int (J 1)), (12, .int (J ((a * d) - (b * c)))), (13, .int (J i))]) SS.1 SS.2.1 dX11_map_164 hl (by decide) rfl (fun ls hl => ?_)
                            refine lv_iload SS.1 SS.2.1 dX11_map_166 (lv_at hl 6 rfl) ?_
                            refine lv_aload SS.1 SS.2.1 dX11_map_168 (lv_at hl 10 rfl) ?_
                            refine j_get SS hG hP (8 + 5 * i_2) (v := .ref (q (9 + 5 * i_2))) (C := RX10) (T := TX10) (N := 3) (cw_shape (by omega)) rfl inX10 0 (by decide) (ref := "GridPolygons$Shape") kw_151 rfl rfl dX11_map_170 ?_
                            refine lv_iload SS.1 SS.2.1 dX11_map_173 (lv_at hl 14 rfl) ?_
                            refine j_uRi SS (As := [.int (J i)]) (rest := [.int (J c)]) (c_X8_x l D q (sI (sI u 0 f1) 1 g1) i_2 (by omega) i (show -2147483648 ≤ i ∧ i ≤ 2147483647 from (by omega))) mu_7_x kw_463 hG hP hP (ci := 7) (q0 := (9 + 5 * i_2)) rfl (cw_ring (by omega)) rfl rfl hl.1 ⟨⟨Nat.le_of_ble_eq_true rfl, Nat.le_of_ble_eq_true rfl⟩, Nat.le_of_ble_eq_true rfl, Nat.le_refl _, Nat.le_refl _⟩ rfl dX11_map_175 (fun z_175 h_175 => ?_)
                            have h_175 : z_175 = rx (sI (sI u 0 f1) 1 g1) i_2 i ∧ ∀ K : Int, 0 ≤ K → RB K (sI (sI u 0 f1) 1 g1) i_2 → -K ≤ z_175 ∧ z_175 ≤ K := h_175
                            have hb_175 := h_175.2 80 (by omega) (show RB 80 u i_2 from CI_s p0 (by omega))
                            refine j_imul SS (x := c) (y := z_175) dX11_map_178 ?_
                            refine lv_iload SS.1 SS.2.1 dX11_map_179 (lv_at hl 7 rfl) ?_
                            refine lv_aload SS.1 SS.2.1 dX11_map_181 (lv_at hl 10 rfl) ?_
                            refine j_get SS hG hP (8 + 5 * i_2) (v := .ref (q (9 + 5 * i_2))) (C := RX10) (T := TX10) (N := 3) (cw_shape (by omega)) rfl inX10 0 (by decide) (ref := "GridPolygons$Shape") kw_151 rfl rfl dX11_map_183 ?_
                            refine lv_iload SS.1 SS.2.1 dX11_map_186 (lv_at hl 14 rfl) ?_
                            refine j_uRi SS (As := [.int (J i)]) (rest := [.int (J d), .int (J (c * z_175))]) (c_X8_y l D q (sI (sI u 0 f1) 1 g1) i_2 (by omega) i (show -2147483648 ≤ i ∧ i ≤ 2147483647 from (by omega))) mu_7_y kw_464 hG hP hP (ci := 7) (q0 := (9 + 5 * i_2)) rfl (cw_ring (by omega)) rfl rfl hl.1 ⟨⟨Nat.le_of_ble_eq_true rfl, Nat.le_of_ble_eq_true rfl⟩, Nat.le_of_ble_eq_true rfl, Nat.le_refl _, Nat.le_refl _⟩ rfl dX11_map_188 (fun z_188 h_188 => ?_)
                            have h_188 : z_188 = ry9 (sI (sI u 0 f1) 1 g1) i_2 i ∧ ∀ K : Int, 0 ≤ K → RB K (sI (sI u 0 f1) 1 g1) i_2 → -K ≤ z_188 ∧ z_188 ≤ K := h_188
                            have hb_188 := h_188.2 80 (by omega) (show RB 80 u i_2 from CI_s p0 (by omega))
                            refine j_imul SS (x := d) (y := z_188) dX11_map_191 ?_
                            refine j_iadd SS (x := (c * z_175)) (y := (d * z_188)) dX11_map_192 ?_
                            refine lv_iload SS.1 SS.2.1 dX11_map_193 (lv_at hl 9 rfl) ?_
                            refine j_iadd SS (x := ((c * z_175) + (d * z_188))) (y := f) dX11_map_195 ?_
                            refine lv_istore (lv' := [(15, .int (J (((c * z_175) + (d * z_188)) + f))), (14, .int (J (((a * z_143) + (b * z_156)) + e))), (0, .ref (q 0)), (1, .int (J s)), (2, .int (J to)), (3, .int (J a)), (4, .int (J b)), (5, .int (J c)), (6, .int (J d)), (7, .int (J e)), (8, .int (J f)), (9, .ref (q (8 + 5 * i_2))), (10, .ref (q (8 + 5 * i_9))), (11, .int (J 1)), (12, .int (J ((a * d) - (b * c)))), (13, .int (J i))]) SS.1 SS.2.1 dX11_map_196 hl (by decide) rfl (fun ls hl => ?_)
                            have x1 := mulb (A := 40) (B := 80) (a := a) (b := z_143) (by omega) (by omega)
                            have x2 := mulb (A := 40) (B := 80) (a := b) (b := z_156) (by omega) (by omega)
                            have x3 := mulb (A := 40) (B := 80) (a := c) (b := z_175) (by omega) (by omega)
                            have x4 := mulb (A := 40) (B := 80) (a := d) (b := z_188) (by omega) (by omega)
                            have ex1 : z_143 = u.1.1 i_2 i.toNat := by rw [h_143.1]; exact if_pos (by omega)
                            have ey1 : z_156 = u.1.2.1 i_2 i.toNat := by rw [h_156.1]; exact if_pos (by omega)
                            have ex2 : z_175 = u.1.1 i_2 i.toNat := by rw [h_175.1]; exact if_pos (by omega)
                            have ey2 : z_188 = u.1.2.1 i_2 i.toNat := by rw [h_188.1]; exact if_pos (by omega)
                            refine lv_iload SS.1 SS.2.1 dX11_map_198 (lv_at hl 1 rfl) ?_
                            refine j_sRi SS (As := [.int (J (((a * z_143) + (b * z_156)) + e))]) (rest := []) (c_X11_onGrid l D  (((a * z_143) + (b * z_156)) + e) (show -2147483648 ≤ (((a * z_143) + (b * z_156)) + e) ∧ (((a * z_143) + (b * z_156)) + e) ≤ 2147483647 from (by omega))) mf_X11_onGrid kw_475 hG trivial rfl hl.1 ⟨⟨Nat.le_of_ble_eq_true rfl, Nat.le_of_ble_eq_true rfl⟩, Nat.le_of_ble_eq_true rfl, Nat.le_refl _, Nat.le_refl _⟩ rfl dX11_map_200 (fun z_200 h_200 => ?_)
                            have h_200 : (z_200 = 1 ∧ (-40 ≤ (((a * z_143) + (b * z_156)) + e) ∧ (((a * z_143) + (b * z_156)) + e) ≤ 40)) ∨ (z_200 = 0 ∧ ¬ (-40 ≤ (((a * z_143) + (b * z_156)) + e) ∧ (((a * z_143) + (b * z_156)) + e) ≤ 40)) := h_200
                            refine j_if_eq SS (tgt := 214) (x := z_200) dX11_map_203 (by decide) (by omega) (fun c_203 => ?_) (fun c_203 => ?_)
                            · skip
                              refine j_bipush SS dX11_map_214 (by decide +kernel) ?_
                              exact W.iret SS.1 SS.2.1 hr (fun t0 ht hW => ⟨⟨_, (sI (sI u 0 f1) 1 g1), rfl, ⟨(-3), rfl, (⟨⟨CI_h p0 i122_1, Or.inr ⟨by omega, by omega, by unfold six; omega, Or.inr ⟨by omega, Or.inl ⟨rfl, cs_refl, by rw [show s.toNat = i_2 by omega]; refine ⟨_, _, ⟨_, _, ⟨i.toNat, by omega, rfl, rfl⟩, rfl, rfl⟩, ?_⟩; intro w; rw [← ex1, ← ey1, show c * z_143 + d * z_156 + f = c * z_175 + d * z_188 + f by rw [ex1, ey1, ex2, ey2]] at w; omega⟩⟩⟩⟩, by first | exact kMut_n (by decide) | exact ⟨cHr_n (fun _ _ => rfl) (by decide), sRel_n ⟨rfl, fun _ _ => rfl⟩ (by decide), ⟨⟨(by first | rfl | exact if_neg (by omega) | exact (if_neg (by omega)).trans (if_neg (by omega))), (by first | rfl | exact if_neg (by omega) | exact (if_neg (by omega)).trans (if_neg (by omega))), (by first | rfl | exact if_neg (by omega) | exact (if_neg (by omega)).trans (if_neg (by omega)))⟩, rfl, rfl, rfl⟩, ⟨⟨(by first | rfl | exact if_neg (by omega) | exact (if_neg (by omega)).trans (if_neg (by omega))), (by first | rfl | exact if_neg (by omega) | exact (if_neg (by omega)).trans (if_neg (by omega))), (by first | rfl | exact if_neg (by omega) | exact (if_neg (by omega)).trans (if_neg (by omega)))⟩, ⟨rfl, rfl, rfl, rfl, rfl⟩, ⟨rfl, rfl, rfl, rfl⟩, rfl, rfl, rfl, rfl, rfl⟩⟩⟩)⟩, by show va_P D.1 j_cl (cW D q (sI (sI u 0 f1) 1 g1)) t0.heap; rw [ht]; first | exact hP | (simp only [sC_id, sX_id, sY_id, sH_id, sT_id, sV_id]; exact hP)⟩, hS.F ht⟩) hS.2.2 dX11_map_216 hlk
                            · skip
                              refine lv_iload SS.1 SS.2.1 dX11_map_206 (lv_at hl 0 rfl) ?_
                              refine j_sRi SS (As := [.int (J (((c * z_175) + (d * z_188)) + f))]) (rest := []) (c_X11_onGrid l D  (((c * z_175) + (d * z_188)) + f) (show -2147483648 ≤ (((c * z_175) + (d * z_188)) + f) ∧ (((c * z_175) + (d * z_188)) + f) ≤ 2147483647 from (by omega))) mf_X11_onGrid kw_475 hG trivial rfl hl.1 ⟨⟨Nat.le_of_ble_eq_true rfl, Nat.le_of_ble_eq_true rfl⟩, Nat.le_of_ble_eq_true rfl, Nat.le_refl _, Nat.le_refl _⟩ rfl dX11_map_208 (fun z_208 h_208 => ?_)
                              have h_208 : (z_208 = 1 ∧ (-40 ≤ (((c * z_175) + (d * z_188)) + f) ∧ (((c * z_175) + (d * z_188)) + f) ≤ 40)) ∨ (z_208 = 0 ∧ ¬ (-40 ≤ (((c * z_175) + (d * z_188)) + f) ∧ (((c * z_175) + (d * z_188)) + f) ≤ 40)) := h_208
                              refine j_if_ne SS (tgt := 217) (x := z_208) dX11_map_211 (by decide) (by omega) (fun c_211 => ?_) (fun c_211 => ?_)
                              · skip
                                refine lv_aload_n SS.1 SS.2.1 dX11_map_217 rfl (lv_at hl 2 rfl) ?_
                                refine j_get SS hG hP 0 (v := .ref (q 2)) (C := RX11) (T := TX11) (N := 8) rfl rfl inX11 1 (by decide) (ref := "GridPolygons") kw_386 rfl rfl dX11_map_218 ?_
                                refine lv_iload SS.1 SS.2.1 dX11_map_221 (lv_at hl 1 rfl) ?_
                                refine lv_iload SS.1 SS.2.1 dX11_map_223 (lv_at hl 0 rfl) ?_
                                refine j_vWv SS (As := [.int (J (((a * z_143) + (b * z_156)) + e)), .int (J (((c * z_175) + (d * z_188)) + f))]) (rest := []) (c_X3_take l D q (sI (sI u 0 f1) 1 g1) A (cW_D hD)  (((a * z_143) + (b * z_156)) + e) (((c * z_175) + (d * z_188)) + f) (show HU_ (f1) (g1) from (i122_1)) (show -1000 ≤ (((a * z_143) + (b * z_156)) + e) ∧ (((a * z_143) + (b * z_156)) + e) ≤ 1000 from (by omega)) (show -2147483648 ≤ (((c * z_175) + (d * z_188)) + f) ∧ (((c * z_175) + (d * z_188)) + f) ≤ 2147483647 from (by omega))) mf_X3_take kw_492 hG hP hP (ci := 3) (q0 := 2) rfl rfl rfl hS (fun _ h => h) rfl hl.1 ⟨⟨Nat.le_of_ble_eq_true rfl, Nat.le_of_ble_eq_true rfl⟩, Nat.le_of_ble_eq_true rfl, Nat.le_refl _, Nat.le_refl _⟩ rfl dX11_map_225 (fun u225 H locs h_225 hP _ hS => ?_)
                                obtain ⟨f_225, g_225, rfl, h_225⟩ := h_225
                                have hP : va_P D.1 j_cl (cW D q (sI (sI u 0 f_225) 1 g_225)) H := hP
                                have h_225 : ((-80 ≤ (((a * z_143) + (b * z_156)) + e) ∧ (((a * z_143) + (b * z_156)) + e) ≤ 80 ∧ -80 ≤ (((c * z_175) + (d * z_188)) + f) ∧ (((c * z_175) + (d * z_188)) + f) ≤ 80) ∧ f_225 = upI (f1) ((((a * z_143) + (b * z_156)) + e) + 80).toNat (min (f1 ((((a * z_143) + (b * z_156)) + e) + 80).toNat) (((c * z_175) + (d * z_188)) + f)) ∧ g_225 = upI (g1) ((((a * z_143) + (b * z_156)) + e) + 80).toNat (max (g1 ((((a * z_143) + (b * z_156)) + e) + 80).toNat) (((c * z_175) + (d * z_188)) + f)) ∨ ¬ (-80 ≤ (((a * z_143) + (b * z_156)) + e) ∧ (((a * z_143) + (b * z_156)) + e) ≤ 80 ∧ -80 ≤ (((c * z_175) + (d * z_188)) + f) ∧ (((c * z_175) + (d * z_188)) + f) ≤ 80) ∧ f_225 = f1 ∧ g_225 = g1) ∧ HU_ f_225 g_225 := h_225
                                refine lv_iinc (v := J (i + 1)) (lv' := [(13, .int (J (i + 1))), (15, .int (J (((c * z_175) + (d * z_188)) + f))), (14, .int (J (((a * z_143) + (b * z_156)) + e))), (0, .ref (q 0)), (1, .int (J s)), (2, .int (J to)), (3, .int (J a)), (4, .int (J b)), (5, .int (J c)), (6, .int (J d)), (7, .int (J e)), (8, .int (J f)), (9, .ref (q (8 + 5 * i_2))), (10, .ref (q (8 + 5 * i_9))), (11, .int (J 1)), (12, .int (J ((a * d) - (b * c))))]) SS.1 SS.2.1 dX11_map_228 hl (k := 15) rfl (J_add _ _) (by decide) rfl (fun ls hl => ?_)
                                refine lv_goto (tgt := 122) SS.1 SS.2.1 dX11_map_231 (by decide) ?_
                                exact ih_122 (i + 1) f_225 g_225 _ _ hP hS ls (lv_sub hl [3, 4, 5, 6, 7, 8, 9, 10, 11, 12, 13, 14, 15, 0] rfl) (by omega) (h_225.2) (by rcases h_225.1 with ⟨w1, w2, w3⟩ | ⟨w1, _⟩; (rw [w2, w3]; exact HUL_c (HUL_t i122_2 (by omega) (by omega)) (fun x y => rm_s (x0 := a * z_143 + b * z_156 + e) (y0 := c * z_175 + d * z_188 + f) i122_0.1 (by rw [ex1, ey1]) (by rw [ex2, ey2]) x y)); omega) (by omega)
                              · skip
                                refine j_bipush SS dX11_map_214 (by decide +kernel) ?_
                                exact W.iret SS.1 SS.2.1 hr (fun t0 ht hW => ⟨⟨_, (sI (sI u 0 f1) 1 g1), rfl, ⟨(-3), rfl, (⟨⟨CI_h p0 i122_1, Or.inr ⟨by omega, by omega, by unfold six; omega, Or.inr ⟨by omega, Or.inl ⟨rfl, cs_refl, by rw [show s.toNat = i_2 by omega]; refine ⟨_, _, ⟨_, _, ⟨i.toNat, by omega, rfl, rfl⟩, rfl, rfl⟩, ?_⟩; intro w; rw [← ex1, ← ey1, show c * z_143 + d * z_156 + f = c * z_175 + d * z_188 + f by rw [ex1, ey1, ex2, ey2]] at w; omega⟩⟩⟩⟩, by first | exact kMut_n (by decide) | exact ⟨cHr_n (fun _ _ => rfl) (by decide), sRel_n ⟨rfl, fun _ _ => rfl⟩ (by decide), ⟨⟨(by first | rfl | exact if_neg (by omega) | exact (if_neg (by omega)).trans (if_neg (by omega))), (by first | rfl | exact if_neg (by omega) | exact (if_neg (by omega)).trans (if_neg (by omega))), (by first | rfl | exact if_neg (by omega) | exact (if_neg (by omega)).trans (if_neg (by omega)))⟩, rfl, rfl, rfl⟩, ⟨⟨(by first | rfl | exact if_neg (by omega) | exact (if_neg (by omega)).trans (if_neg (by omega))), (by first | rfl | exact if_neg (by omega) | exact (if_neg (by omega)).trans (if_neg (by omega))), (by first | rfl | exact if_neg (by omega) | exact (if_neg (by omega)).trans (if_neg (by omega)))⟩, ⟨rfl, rfl, rfl, rfl, rfl⟩, ⟨rfl, rfl, rfl, rfl⟩, rfl, rfl, rfl, rfl, rfl⟩⟩⟩)⟩, by show va_P D.1 j_cl (cW D q (sI (sI u 0 f1) 1 g1)) t0.heap; rw [ht]; first | exact hP | (simp only [sC_id, sX_id, sY_id, sH_id, sT_id, sV_id]; exact hP)⟩, hS.F ht⟩) hS.2.2 dX11_map_216 hlk
                      exact L_122 ((u.1.2.2.1 i_2 - (0 : Int)).toNat + 1) 0 f_116 g_116 _ _ hP hS ls (lv_sub hl [5, 6, 7, 8, 9, 10, 11, 12, 13, 4, 3, 2, 1, 0] rfl) (by omega) (h_116.2.2) (by rw [h_116.1, h_116.2.1]; exact HUL_c HUL_0 (fun x y => ⟨fun ⟨p, q, ⟨k, k1, _⟩, _⟩ => by omega, False.elim⟩)) (Nat.lt_succ_self _)
                    · skip
                      refine j_bipush SS dX11_map_109 (by decide +kernel) ?_
                      exact W.iret SS.1 SS.2.1 hr (fun t0 ht hW => ⟨⟨_, u, rfl, ⟨(-2), rfl, (⟨⟨p0, Or.inr ⟨by omega, by omega, by unfold six; omega, Or.inl ⟨by omega, rfl, cs_refl⟩⟩⟩, by first | exact kMut_n (by decide) | exact ⟨cHr_n (fun _ _ => rfl) (by decide), sRel_n ⟨rfl, fun _ _ => rfl⟩ (by decide), ⟨⟨(by first | rfl | exact if_neg (by omega) | exact (if_neg (by omega)).trans (if_neg (by omega))), (by first | rfl | exact if_neg (by omega) | exact (if_neg (by omega)).trans (if_neg (by omega))), (by first | rfl | exact if_neg (by omega) | exact (if_neg (by omega)).trans (if_neg (by omega)))⟩, rfl, rfl, rfl⟩, ⟨⟨(by first | rfl | exact if_neg (by omega) | exact (if_neg (by omega)).trans (if_neg (by omega))), (by first | rfl | exact if_neg (by omega) | exact (if_neg (by omega)).trans (if_neg (by omega))), (by first | rfl | exact if_neg (by omega) | exact (if_neg (by omega)).trans (if_neg (by omega)))⟩, ⟨rfl, rfl, rfl, rfl, rfl⟩, ⟨rfl, rfl, rfl, rfl⟩, rfl, rfl, rfl, rfl, rfl⟩⟩⟩)⟩, by show va_P D.1 j_cl (cW D q u) t0.heap; rw [ht]; first | exact hP | (simp only [sC_id, sX_id, sY_id, sH_id, sT_id, sV_id]; exact hP)⟩, hS.F ht⟩) hS.2.2 dX11_map_111 hlk
    · skip
      refine lv_astoreN (lv' := [(10, .null), (9, .ref (q (8 + 5 * i_2))), (0, .ref (q 0)), (1, .int (J s)), (2, .int (J to)), (3, .int (J a)), (4, .int (J b)), (5, .int (J c)), (6, .int (J d)), (7, .int (J e)), (8, .int (J f))]) SS.1 SS.2.1 dX11_map_12 hl (by decide) rfl (fun ls hl => ?_)
      refine lv_iload_n SS.1 SS.2.1 dX11_map_14 rfl (lv_at hl 5 rfl) ?_
      refine j_sRi SS (As := [.int (J a)]) (rest := []) (c_X11_onGrid l D  a (show -2147483648 ≤ a ∧ a ≤ 2147483647 from (p3))) mf_X11_onGrid kw_475 hG trivial rfl hl.1 ⟨⟨Nat.le_of_ble_eq_true rfl, Nat.le_of_ble_eq_true rfl⟩, Nat.le_of_ble_eq_true rfl, Nat.le_refl _, Nat.le_refl _⟩ rfl dX11_map_15 (fun z_15 h_15 => ?_)
      have h_15 : (z_15 = 1 ∧ (-40 ≤ a ∧ a ≤ 40)) ∨ (z_15 = 0 ∧ ¬ (-40 ≤ a ∧ a ≤ 40)) := h_15
      refine j_if_eq SS (tgt := 65) (x := z_15) dX11_map_18 (by decide) (by omega) (fun c_18 => ?_) (fun c_18 => ?_)
      · skip
        refine j_iconst SS dX11_map_65 ?_
        refine lv_istore (lv' := [(11, .int (J 0)), (10, .null), (9, .ref (q (8 + 5 * i_2))), (0, .ref (q 0)), (1, .int (J s)), (2, .int (J to)), (3, .int (J a)), (4, .int (J b)), (5, .int (J c)), (6, .int (J d)), (7, .int (J e)), (8, .int (J f))]) SS.1 SS.2.1 dX11_map_66 hl (by decide) rfl (fun ls hl => ?_)
        refine lv_aload SS.1 SS.2.1 dX11_map_68 (lv_at hl 2 rfl) ?_
        refine lv_ifnull SS.1 SS.2.1 dX11_map_70 ?_
        refine lv_aloadN SS.1 SS.2.1 dX11_map_73 (lv_at hl 1 rfl) ?_
        refine lv_ifnullN SS.1 SS.2.1 (tgt := 83) dX11_map_75 (by decide) ?_
        refine j_iconst SS dX11_map_83 ?_
        exact W.iret SS.1 SS.2.1 hr (fun t0 ht hW => ⟨⟨_, u, rfl, ⟨(-1), rfl, (⟨⟨p0, Or.inl ⟨by unfold six; omega, rfl, cs_refl⟩⟩, by first | exact kMut_n (by decide) | exact ⟨cHr_n (fun _ _ => rfl) (by decide), sRel_n ⟨rfl, fun _ _ => rfl⟩ (by decide), ⟨⟨(by first | rfl | exact if_neg (by omega) | exact (if_neg (by omega)).trans (if_neg (by omega))), (by first | rfl | exact if_neg (by omega) | exact (if_neg (by omega)).trans (if_neg (by omega))), (by first | rfl | exact if_neg (by omega) | exact (if_neg (by omega)).trans (if_neg (by omega)))⟩, rfl, rfl, rfl⟩, ⟨⟨(by first | rfl | exact if_neg (by omega) | exact (if_neg (by omega)).trans (if_neg (by omega))), (by first | rfl | exact if_neg (by omega) | exact (if_neg (by omega)).trans (if_neg (by omega))), (by first | rfl | exact if_neg (by omega) | exact (if_neg (by omega)).trans (if_neg (by omega)))⟩, ⟨rfl, rfl, rfl, rfl, rfl⟩, ⟨rfl, rfl, rfl, rfl⟩, rfl, rfl, rfl, rfl, rfl⟩⟩⟩)⟩, by show va_P D.1 j_cl (cW D q u) t0.heap; rw [ht]; first | exact hP | (simp only [sC_id, sX_id, sY_id, sH_id, sT_id, sV_id]; exact hP)⟩, hS.F ht⟩) hS.2.2 dX11_map_84 hlk
      · skip
        refine lv_iload SS.1 SS.2.1 dX11_map_21 (lv_at hl 6 rfl) ?_
        refine j_sRi SS (As := [.int (J b)]) (rest := []) (c_X11_onGrid l D  b (show -2147483648 ≤ b ∧ b ≤ 2147483647 from (p4))) mf_X11_onGrid kw_475 hG trivial rfl hl.1 ⟨⟨Nat.le_of_ble_eq_true rfl, Nat.le_of_ble_eq_true rfl⟩, Nat.le_of_ble_eq_true rfl, Nat.le_refl _, Nat.le_refl _⟩ rfl dX11_map_23 (fun z_23 h_23 => ?_)
        have h_23 : (z_23 = 1 ∧ (-40 ≤ b ∧ b ≤ 40)) ∨ (z_23 = 0 ∧ ¬ (-40 ≤ b ∧ b ≤ 40)) := h_23
        refine j_if_eq SS (tgt := 65) (x := z_23) dX11_map_26 (by decide) (by omega) (fun c_26 => ?_) (fun c_26 => ?_)
        · skip
          refine j_iconst SS dX11_map_65 ?_
          refine lv_istore (lv' := [(11, .int (J 0)), (10, .null), (9, .ref (q (8 + 5 * i_2))), (0, .ref (q 0)), (1, .int (J s)), (2, .int (J to)), (3, .int (J a)), (4, .int (J b)), (5, .int (J c)), (6, .int (J d)), (7, .int (J e)), (8, .int (J f))]) SS.1 SS.2.1 dX11_map_66 hl (by decide) rfl (fun ls hl => ?_)
          refine lv_aload SS.1 SS.2.1 dX11_map_68 (lv_at hl 2 rfl) ?_
          refine lv_ifnull SS.1 SS.2.1 dX11_map_70 ?_
          refine lv_aloadN SS.1 SS.2.1 dX11_map_73 (lv_at hl 1 rfl) ?_
          refine lv_ifnullN SS.1 SS.2.1 (tgt := 83) dX11_map_75 (by decide) ?_
          refine j_iconst SS dX11_map_83 ?_
          exact W.iret SS.1 SS.2.1 hr (fun t0 ht hW => ⟨⟨_, u, rfl, ⟨(-1), rfl, (⟨⟨p0, Or.inl ⟨by unfold six; omega, rfl, cs_refl⟩⟩, by first | exact kMut_n (by decide) | exact ⟨cHr_n (fun _ _ => rfl) (by decide), sRel_n ⟨rfl, fun _ _ => rfl⟩ (by decide), ⟨⟨(by first | rfl | exact if_neg (by omega) | exact (if_neg (by omega)).trans (if_neg (by omega))), (by first | rfl | exact if_neg (by omega) | exact (if_neg (by omega)).trans (if_neg (by omega))), (by first | rfl | exact if_neg (by omega) | exact (if_neg (by omega)).trans (if_neg (by omega)))⟩, rfl, rfl, rfl⟩, ⟨⟨(by first | rfl | exact if_neg (by omega) | exact (if_neg (by omega)).trans (if_neg (by omega))), (by first | rfl | exact if_neg (by omega) | exact (if_neg (by omega)).trans (if_neg (by omega))), (by first | rfl | exact if_neg (by omega) | exact (if_neg (by omega)).trans (if_neg (by omega)))⟩, ⟨rfl, rfl, rfl, rfl, rfl⟩, ⟨rfl, rfl, rfl, rfl⟩, rfl, rfl, rfl, rfl, rfl⟩⟩⟩)⟩, by show va_P D.1 j_cl (cW D q u) t0.heap; rw [ht]; first | exact hP | (simp only [sC_id, sX_id, sY_id, sH_id, sT_id, sV_id]; exact hP)⟩, hS.F ht⟩) hS.2.2 dX11_map_84 hlk
        · skip
          refine lv_iload SS.1 SS.2.1 dX11_map_29 (lv_at hl 7 rfl) ?_
          refine j_sRi SS (As := [.int (J c)]) (rest := []) (c_X11_onGrid l D  c (show -2147483648 ≤ c ∧ c ≤ 2147483647 from (p5))) mf_X11_onGrid kw_475 hG trivial rfl hl.1 ⟨⟨Nat.le_of_ble_eq_true rfl, Nat.le_of_ble_eq_true rfl⟩, Nat.le_of_ble_eq_true rfl, Nat.le_refl _, Nat.le_refl _⟩ rfl dX11_map_31 (fun z_31 h_31 => ?_)
          have h_31 : (z_31 = 1 ∧ (-40 ≤ c ∧ c ≤ 40)) ∨ (z_31 = 0 ∧ ¬ (-40 ≤ c ∧ c ≤ 40)) := h_31
          refine j_if_eq SS (tgt := 65) (x := z_31) dX11_map_34 (by decide) (by omega) (fun c_34 => ?_) (fun c_34 => ?_)
          · skip
            refine j_iconst SS dX11_map_65 ?_
            refine lv_istore (lv' := [(11, .int (J 0)), (10, .null), (9, .ref (q (8 + 5 * i_2))), (0, .ref (q 0)), (1, .int (J s)), (2, .int (J to)), (3, .int (J a)), (4, .int (J b)), (5, .int (J c)), (6, .int (J d)), (7, .int (J e)), (8, .int (J f))]) SS.1 SS.2.1 dX11_map_66 hl (by decide) rfl (fun ls hl => ?_)
            refine lv_aload SS.1 SS.2.1 dX11_map_68 (lv_at hl 2 rfl) ?_
            refine lv_ifnull SS.1 SS.2.1 dX11_map_70 ?_
            refine lv_aloadN SS.1 SS.2.1 dX11_map_73 (lv_at hl 1 rfl) ?_
            refine lv_ifnullN SS.1 SS.2.1 (tgt := 83) dX11_map_75 (by decide) ?_
            refine j_iconst SS dX11_map_83 ?_
            exact W.iret SS.1 SS.2.1 hr (fun t0 ht hW => ⟨⟨_, u, rfl, ⟨(-1), rfl, (⟨⟨p0, Or.inl ⟨by unfold six; omega, rfl, cs_refl⟩⟩, by first | exact kMut_n (by decide) | exact ⟨cHr_n (fun _ _ => rfl) (by decide), sRel_n ⟨rfl, fun _ _ => rfl⟩ (by decide), ⟨⟨(by first | rfl | exact if_neg (by omega) | exact (if_neg (by omega)).trans (if_neg (by omega))), (by first | rfl | exact if_neg (by omega) | exact (if_neg (by omega)).trans (if_neg (by omega))), (by first | rfl | exact if_neg (by omega) | exact (if_neg (by omega)).trans (if_neg (by omega)))⟩, rfl, rfl, rfl⟩, ⟨⟨(by first | rfl | exact if_neg (by omega) | exact (if_neg (by omega)).trans (if_neg (by omega))), (by first | rfl | exact if_neg (by omega) | exact (if_neg (by omega)).trans (if_neg (by omega))), (by first | rfl | exact if_neg (by omega) | exact (if_neg (by omega)).trans (if_neg (by omega)))⟩, ⟨rfl, rfl, rfl, rfl, rfl⟩, ⟨rfl, rfl, rfl, rfl⟩, rfl, rfl, rfl, rfl, rfl⟩⟩⟩)⟩, by show va_P D.1 j_cl (cW D q u) t0.heap; rw [ht]; first | exact hP | (simp only [sC_id, sX_id, sY_id, sH_id, sT_id, sV_id]; exact hP)⟩, hS.F ht⟩) hS.2.2 dX11_map_84 hlk
          · skip
            refine lv_iload SS.1 SS.2.1 dX11_map_37 (lv_at hl 8 rfl) ?_
            refine j_sRi SS (As := [.int (J d)]) (rest := []) (c_X11_onGrid l D  d (show -2147483648 ≤ d ∧ d ≤ 2147483647 from (p6))) mf_X11_onGrid kw_475 hG trivial rfl hl.1 ⟨⟨Nat.le_of_ble_eq_true rfl, Nat.le_of_ble_eq_true rfl⟩, Nat.le_of_ble_eq_true rfl, Nat.le_refl _, Nat.le_refl _⟩ rfl dX11_map_39 (fun z_39 h_39 => ?_)
            have h_39 : (z_39 = 1 ∧ (-40 ≤ d ∧ d ≤ 40)) ∨ (z_39 = 0 ∧ ¬ (-40 ≤ d ∧ d ≤ 40)) := h_39
            refine j_if_eq SS (tgt := 65) (x := z_39) dX11_map_42 (by decide) (by omega) (fun c_42 => ?_) (fun c_42 => ?_)
            · skip
              refine j_iconst SS dX11_map_65 ?_
              refine lv_istore (lv' := [(11, .int (J 0)), (10, .null), (9, .ref (q (8 + 5 * i_2))), (0, .ref (q 0)), (1, .int (J s)), (2, .int (J to)), (3, .int (J a)), (4, .int (J b)), (5, .int (J c)), (6, .int (J d)), (7, .int (J e)), (8, .int (J f))]) SS.1 SS.2.1 dX11_map_66 hl (by decide) rfl (fun ls hl => ?_)
              refine lv_aload SS.1 SS.2.1 dX11_map_68 (lv_at hl 2 rfl) ?_
              refine lv_ifnull SS.1 SS.2.1 dX11_map_70 ?_
              refine lv_aloadN SS.1 SS.2.1 dX11_map_73 (lv_at hl 1 rfl) ?_
              refine lv_ifnullN SS.1 SS.2.1 (tgt := 83) dX11_map_75 (by decide) ?_
              refine j_iconst SS dX11_map_83 ?_
              exact W.iret SS.1 SS.2.1 hr (fun t0 ht hW => ⟨⟨_, u, rfl, ⟨(-1), rfl, (⟨⟨p0, Or.inl ⟨by unfold six; omega, rfl, cs_refl⟩⟩, by first | exact kMut_n (by decide) | exact ⟨cHr_n (fun _ _ => rfl) (by decide), sRel_n ⟨rfl, fun _ _ => rfl⟩ (by decide), ⟨⟨(by first | rfl | exact if_neg (by omega) | exact (if_neg (by omega)).trans (if_neg (by omega))), (by first | rfl | exact if_neg (by omega) | exact (if_neg (by omega)).trans (if_neg (by omega))), (by first | rfl | exact if_neg (by omega) | exact (if_neg (by omega)).trans (if_neg (by omega)))⟩, rfl, rfl, rfl⟩, ⟨⟨(by first | rfl | exact if_neg (by omega) | exact (if_neg (by omega)).trans (if_neg (by omega))), (by first | rfl | exact if_neg (by omega) | exact (if_neg (by omega)).trans (if_neg (by omega))), (by first | rfl | exact if_neg (by omega) | exact (if_neg (by omega)).trans (if_neg (by omega)))⟩, ⟨rfl, rfl, rfl, rfl, rfl⟩, ⟨rfl, rfl, rfl, rfl⟩, rfl, rfl, rfl, rfl, rfl⟩⟩⟩)⟩, by show va_P D.1 j_cl (cW D q u) t0.heap; rw [ht]; first | exact hP | (simp only [sC_id, sX_id, sY_id, sH_id, sT_id, sV_id]; exact hP)⟩, hS.F ht⟩) hS.2.2 dX11_map_84 hlk
            · skip
              refine lv_iload SS.1 SS.2.1 dX11_map_45 (lv_at hl 9 rfl) ?_
              refine j_sRi SS (As := [.int (J e)]) (rest := []) (c_X11_onGrid l D  e (show -2147483648 ≤ e ∧ e ≤ 2147483647 from (p7))) mf_X11_onGrid kw_475 hG trivial rfl hl.1 ⟨⟨Nat.le_of_ble_eq_true rfl, Nat.le_of_ble_eq_true rfl⟩, Nat.le_of_ble_eq_true rfl, Nat.le_refl _, Nat.le_refl _⟩ rfl dX11_map_47 (fun z_47 h_47 => ?_)
              have h_47 : (z_47 = 1 ∧ (-40 ≤ e ∧ e ≤ 40)) ∨ (z_47 = 0 ∧ ¬ (-40 ≤ e ∧ e ≤ 40)) := h_47
              refine j_if_eq SS (tgt := 65) (x := z_47) dX11_map_50 (by decide) (by omega) (fun c_50 => ?_) (fun c_50 => ?_)
              · skip
                refine j_iconst SS dX11_map_65 ?_
                refine lv_istore (lv' := [(11, .int (J 0)), (10, .null), (9, .ref (q (8 + 5 * i_2))), (0, .ref (q 0)), (1, .int (J s)), (2, .int (J to)), (3, .int (J a)), (4, .int (J b)), (5, .int (J c)), (6, .int (J d)), (7, .int (J e)), (8, .int (J f))]) SS.1 SS.2.1 dX11_map_66 hl (by decide) rfl (fun ls hl => ?_)
                refine lv_aload SS.1 SS.2.1 dX11_map_68 (lv_at hl 2 rfl) ?_
                refine lv_ifnull SS.1 SS.2.1 dX11_map_70 ?_
                refine lv_aloadN SS.1 SS.2.1 dX11_map_73 (lv_at hl 1 rfl) ?_
                refine lv_ifnullN SS.1 SS.2.1 (tgt := 83) dX11_map_75 (by decide) ?_
                refine j_iconst SS dX11_map_83 ?_
                exact W.iret SS.1 SS.2.1 hr (fun t0 ht hW => ⟨⟨_, u, rfl, ⟨(-1), rfl, (⟨⟨p0, Or.inl ⟨by unfold six; omega, rfl, cs_refl⟩⟩, by first | exact kMut_n (by decide) | exact ⟨cHr_n (fun _ _ => rfl) (by decide), sRel_n ⟨rfl, fun _ _ => rfl⟩ (by decide), ⟨⟨(by first | rfl | exact if_neg (by omega) | exact (if_neg (by omega)).trans (if_neg (by omega))), (by first | rfl | exact if_neg (by omega) | exact (if_neg (by omega)).trans (if_neg (by omega))), (by first | rfl | exact if_neg (by omega) | exact (if_neg (by omega)).trans (if_neg (by omega)))⟩, rfl, rfl, rfl⟩, ⟨⟨(by first | rfl | exact if_neg (by omega) | exact (if_neg (by omega)).trans (if_neg (by omega))), (by first | rfl | exact if_neg (by omega) | exact (if_neg (by omega)).trans (if_neg (by omega))), (by first | rfl | exact if_neg (by omega) | exact (if_neg (by omega)).trans (if_neg (by omega)))⟩, ⟨rfl, rfl, rfl, rfl, rfl⟩, ⟨rfl, rfl, rfl, rfl⟩, rfl, rfl, rfl, rfl, rfl⟩⟩⟩)⟩, by show va_P D.1 j_cl (cW D q u) t0.heap; rw [ht]; first | exact hP | (simp only [sC_id, sX_id, sY_id, sH_id, sT_id, sV_id]; exact hP)⟩, hS.F ht⟩) hS.2.2 dX11_map_84 hlk
              · skip
                refine lv_iload SS.1 SS.2.1 dX11_map_53 (lv_at hl 10 rfl) ?_
                refine j_sRi SS (As := [.int (J f)]) (rest := []) (c_X11_onGrid l D  f (show -2147483648 ≤ f ∧ f ≤ 2147483647 from (p8))) mf_X11_onGrid kw_475 hG trivial rfl hl.1 ⟨⟨Nat.le_of_ble_eq_true rfl, Nat.le_of_ble_eq_true rfl⟩, Nat.le_of_ble_eq_true rfl, Nat.le_refl _, Nat.le_refl _⟩ rfl dX11_map_55 (fun z_55 h_55 => ?_)
                have h_55 : (z_55 = 1 ∧ (-40 ≤ f ∧ f ≤ 40)) ∨ (z_55 = 0 ∧ ¬ (-40 ≤ f ∧ f ≤ 40)) := h_55
                refine j_if_eq SS (tgt := 65) (x := z_55) dX11_map_58 (by decide) (by omega) (fun c_58 => ?_) (fun c_58 => ?_)
                · skip
                  refine j_iconst SS dX11_map_65 ?_
                  refine lv_istore (lv' := [(11, .int (J 0)), (10, .null), (9, .ref (q (8 + 5 * i_2))), (0, .ref (q 0)), (1, .int (J s)), (2, .int (J to)), (3, .int (J a)), (4, .int (J b)), (5, .int (J c)), (6, .int (J d)), (7, .int (J e)), (8, .int (J f))]) SS.1 SS.2.1 dX11_map_66 hl (by decide) rfl (fun ls hl => ?_)
                  refine lv_aload SS.1 SS.2.1 dX11_map_68 (lv_at hl 2 rfl) ?_
                  refine lv_ifnull SS.1 SS.2.1 dX11_map_70 ?_
                  refine lv_aloadN SS.1 SS.2.1 dX11_map_73 (lv_at hl 1 rfl) ?_
                  refine lv_ifnullN SS.1 SS.2.1 (tgt := 83) dX11_map_75 (by decide) ?_
                  refine j_iconst SS dX11_map_83 ?_
                  exact W.iret SS.1 SS.2.1 hr (fun t0 ht hW => ⟨⟨_, u, rfl, ⟨(-1), rfl, (⟨⟨p0, Or.inl ⟨by unfold six; omega, rfl, cs_refl⟩⟩, by first | exact kMut_n (by decide) | exact ⟨cHr_n (fun _ _ => rfl) (by decide), sRel_n ⟨rfl, fun _ _ => rfl⟩ (by decide), ⟨⟨(by first | rfl | exact if_neg (by omega) | exact (if_neg (by omega)).trans (if_neg (by omega))), (by first | rfl | exact if_neg (by omega) | exact (if_neg (by omega)).trans (if_neg (by omega))), (by first | rfl | exact if_neg (by omega) | exact (if_neg (by omega)).trans (if_neg (by omega)))⟩, rfl, rfl, rfl⟩, ⟨⟨(by first | rfl | exact if_neg (by omega) | exact (if_neg (by omega)).trans (if_neg (by omega))), (by first | rfl | exact if_neg (by omega) | exact (if_neg (by omega)).trans (if_neg (by omega))), (by first | rfl | exact if_neg (by omega) | exact (if_neg (by omega)).trans (if_neg (by omega)))⟩, ⟨rfl, rfl, rfl, rfl, rfl⟩, ⟨rfl, rfl, rfl, rfl⟩, rfl, rfl, rfl, rfl, rfl⟩⟩⟩)⟩, by show va_P D.1 j_cl (cW D q u) t0.heap; rw [ht]; first | exact hP | (simp only [sC_id, sX_id, sY_id, sH_id, sT_id, sV_id]; exact hP)⟩, hS.F ht⟩) hS.2.2 dX11_map_84 hlk
                · skip
                  refine j_iconst SS dX11_map_61 ?_
                  refine lv_goto (tgt := 66) SS.1 SS.2.1 dX11_map_62 (by decide) ?_
                  refine lv_istore (lv' := [(11, .int (J 1)), (10, .null), (9, .ref (q (8 + 5 * i_2))), (0, .ref (q 0)), (1, .int (J s)), (2, .int (J to)), (3, .int (J a)), (4, .int (J b)), (5, .int (J c)), (6, .int (J d)), (7, .int (J e)), (8, .int (J f))]) SS.1 SS.2.1 dX11_map_66 hl (by decide) rfl (fun ls hl => ?_)
                  refine lv_aload SS.1 SS.2.1 dX11_map_68 (lv_at hl 2 rfl) ?_
                  refine lv_ifnull SS.1 SS.2.1 dX11_map_70 ?_
                  refine lv_aloadN SS.1 SS.2.1 dX11_map_73 (lv_at hl 1 rfl) ?_
                  refine lv_ifnullN SS.1 SS.2.1 (tgt := 83) dX11_map_75 (by decide) ?_
                  refine j_iconst SS dX11_map_83 ?_
                  exact W.iret SS.1 SS.2.1 hr (fun t0 ht hW => ⟨⟨_, u, rfl, ⟨(-1), rfl, (⟨⟨p0, Or.inl ⟨by unfold six; omega, rfl, cs_refl⟩⟩, by first | exact kMut_n (by decide) | exact ⟨cHr_n (fun _ _ => rfl) (by decide), sRel_n ⟨rfl, fun _ _ => rfl⟩ (by decide), ⟨⟨(by first | rfl | exact if_neg (by omega) | exact (if_neg (by omega)).trans (if_neg (by omega))), (by first | rfl | exact if_neg (by omega) | exact (if_neg (by omega)).trans (if_neg (by omega))), (by first | rfl | exact if_neg (by omega) | exact (if_neg (by omega)).trans (if_neg (by omega)))⟩, rfl, rfl, rfl⟩, ⟨⟨(by first | rfl | exact if_neg (by omega) | exact (if_neg (by omega)).trans (if_neg (by omega))), (by first | rfl | exact if_neg (by omega) | exact (if_neg (by omega)).trans (if_neg (by omega))), (by first | rfl | exact if_neg (by omega) | exact (if_neg (by omega)).trans (if_neg (by omega)))⟩, ⟨rfl, rfl, rfl, rfl, rfl⟩, ⟨rfl, rfl, rfl, rfl⟩, rfl, rfl, rfl, rfl, rfl⟩⟩⟩)⟩, by show va_P D.1 j_cl (cW D q u) t0.heap; rw [ht]; first | exact hP | (simp only [sC_id, sX_id, sY_id, sH_id, sT_id, sV_id]; exact hP)⟩, hS.F ht⟩) hS.2.2 dX11_map_84 hlk
  · skip
    refine lv_astoreN (lv' := [(9, .null), (0, .ref (q 0)), (1, .int (J s)), (2, .int (J to)), (3, .int (J a)), (4, .int (J b)), (5, .int (J c)), (6, .int (J d)), (7, .int (J e)), (8, .int (J f))]) SS.1 SS.2.1 dX11_map_5 hl (by decide) rfl (fun ls hl => ?_)
    refine lv_aload_n SS.1 SS.2.1 dX11_map_7 rfl (lv_at hl 1 rfl) ?_
    refine lv_iload_n SS.1 SS.2.1 dX11_map_8 rfl (lv_at hl 3 rfl) ?_
    refine j_vSh SS (As := [.int (J to)]) (rest := []) (c_X11_shapeAt l D q u  to (show -2147483648 ≤ to ∧ to ≤ 2147483647 from (p2))) mf_X11_shapeAt kw_414 hG hP hP (ci := 11) (q0 := 0) rfl rfl rfl rfl hl.1 ⟨⟨Nat.le_of_ble_eq_true rfl, Nat.le_of_ble_eq_true rfl⟩, Nat.le_of_ble_eq_true rfl, Nat.le_refl _, Nat.le_refl _⟩ rfl dX11_map_9 (fun i_9 hi_9 hz_9 => ?_) (fun hn_9 => ?_)
    · skip
      refine lv_astore (lv' := [(10, .ref (q (8 + 5 * i_9))), (9, .null), (0, .ref (q 0)), (1, .int (J s)), (2, .int (J to)), (3, .int (J a)), (4, .int (J b)), (5, .int (J c)), (6, .int (J d)), (7, .int (J e)), (8, .int (J f))]) SS.1 SS.2.1 dX11_map_12 hl (by decide) rfl (fun ls hl => ?_)
      refine lv_iload_n SS.1 SS.2.1 dX11_map_14 rfl (lv_at hl 5 rfl) ?_
      refine j_sRi SS (As := [.int (J a)]) (rest := []) (c_X11_onGrid l D  a (show -2147483648 ≤ a ∧ a ≤ 2147483647 from (p3))) mf_X11_onGrid kw_475 hG trivial rfl hl.1 ⟨⟨Nat.le_of_ble_eq_true rfl, Nat.le_of_ble_eq_true rfl⟩, Nat.le_of_ble_eq_true rfl, Nat.le_refl _, Nat.le_refl _⟩ rfl dX11_map_15 (fun z_15 h_15 => ?_)
      have h_15 : (z_15 = 1 ∧ (-40 ≤ a ∧ a ≤ 40)) ∨ (z_15 = 0 ∧ ¬ (-40 ≤ a ∧ a ≤ 40)) := h_15
      refine j_if_eq SS (tgt := 65) (x := z_15) dX11_map_18 (by decide) (by omega) (fun c_18 => ?_) (fun c_18 => ?_)
      · skip
        refine j_iconst SS dX11_map_65 ?_
        refine lv_istore (lv' := [(11, .int (J 0)), (10, .ref (q (8 + 5 * i_9))), (9, .null), (0, .ref (q 0)), (1, .int (J s)), (2, .int (J to)), (3, .int (J a)), (4, .int (J b)), (5, .int (J c)), (6, .int (J d)), (7, .int (J e)), (8, .int (J f))]) SS.1 SS.2.1 dX11_map_66 hl (by decide) rfl (fun ls hl => ?_)
        refine lv_aloadN SS.1 SS.2.1 dX11_map_68 (lv_at hl 2 rfl) ?_
        refine lv_ifnullN SS.1 SS.2.1 (tgt := 83) dX11_map_70 (by decide) ?_
        refine j_iconst SS dX11_map_83 ?_
        exact W.iret SS.1 SS.2.1 hr (fun t0 ht hW => ⟨⟨_, u, rfl, ⟨(-1), rfl, (⟨⟨p0, Or.inl ⟨by unfold six; omega, rfl, cs_refl⟩⟩, by first | exact kMut_n (by decide) | exact ⟨cHr_n (fun _ _ => rfl) (by decide), sRel_n ⟨rfl, fun _ _ => rfl⟩ (by decide), ⟨⟨(by first | rfl | exact if_neg (by omega) | exact (if_neg (by omega)).trans (if_neg (by omega))), (by first | rfl | exact if_neg (by omega) | exact (if_neg (by omega)).trans (if_neg (by omega))), (by first | rfl | exact if_neg (by omega) | exact (if_neg (by omega)).trans (if_neg (by omega)))⟩, rfl, rfl, rfl⟩, ⟨⟨(by first | rfl | exact if_neg (by omega) | exact (if_neg (by omega)).trans (if_neg (by omega))), (by first | rfl | exact if_neg (by omega) | exact (if_neg (by omega)).trans (if_neg (by omega))), (by first | rfl | exact if_neg (by omega) | exact (if_neg (by omega)).trans (if_neg (by omega)))⟩, ⟨rfl, rfl, rfl, rfl, rfl⟩, ⟨rfl, rfl, rfl, rfl⟩, rfl, rfl, rfl, rfl, rfl⟩⟩⟩)⟩, by show va_P D.1 j_cl (cW D q u) t0.heap; rw [ht]; first | exact hP | (simp only [sC_id, sX_id, sY_id, sH_id, sT_id, sV_id]; exact hP)⟩, hS.F ht⟩) hS.2.2 dX11_map_84 hlk
      · skip
        refine lv_iload SS.1 SS.2.1 dX11_map_21 (lv_at hl 6 rfl) ?_
        refine j_sRi SS (As := [.int (J b)]) (rest := []) (c_X11_onGrid l D  b (show -2147483648 ≤ b ∧ b ≤ 2147483647 from (p4))) mf_X11_onGrid kw_475 hG trivial rfl hl.1 ⟨⟨Nat.le_of_ble_eq_true rfl, Nat.le_of_ble_eq_true rfl⟩, Nat.le_of_ble_eq_true rfl, Nat.le_refl _, Nat.le_refl _⟩ rfl dX11_map_23 (fun z_23 h_23 => ?_)
        have h_23 : (z_23 = 1 ∧ (-40 ≤ b ∧ b ≤ 40)) ∨ (z_23 = 0 ∧ ¬ (-40 ≤ b ∧ b ≤ 40)) := h_23
        refine j_if_eq SS (tgt := 65) (x := z_23) dX11_map_26 (by decide) (by omega) (fun c_26 => ?_) (fun c_26 => ?_)
        · skip
          refine j_iconst SS dX11_map_65 ?_
          refine lv_istore (lv' := [(11, .int (J 0)), (10, .ref (q (8 + 5 * i_9))), (9, .null), (0, .ref (q 0)), (1, .int (J s)), (2, .int (J to)), (3, .int (J a)), (4, .int (J b)), (5, .int (J c)), (6, .int (J d)), (7, .int (J e)), (8, .int (J f))]) SS.1 SS.2.1 dX11_map_66 hl (by decide) rfl (fun ls hl => ?_)
          refine lv_aloadN SS.1 SS.2.1 dX11_map_68 (lv_at hl 2 rfl) ?_
          refine lv_ifnullN SS.1 SS.2.1 (tgt := 83) dX11_map_70 (by decide) ?_
          refine j_iconst SS dX11_map_83 ?_
          exact W.iret SS.1 SS.2.1 hr (fun t0 ht hW => ⟨⟨_, u, rfl, ⟨(-1), rfl, (⟨⟨p0, Or.inl ⟨by unfold six; omega, rfl, cs_refl⟩⟩, by first | exact kMut_n (by decide) | exact ⟨cHr_n (fun _ _ => rfl) (by decide), sRel_n ⟨rfl, fun _ _ => rfl⟩ (by decide), ⟨⟨(by first | rfl | exact if_neg (by omega) | exact (if_neg (by omega)).trans (if_neg (by omega))), (by first | rfl | exact if_neg (by omega) | exact (if_neg (by omega)).trans (if_neg (by omega))), (by first | rfl | exact if_neg (by omega) | exact (if_neg (by omega)).trans (if_neg (by omega)))⟩, rfl, rfl, rfl⟩, ⟨⟨(by first | rfl | exact if_neg (by omega) | exact (if_neg (by omega)).trans (if_neg (by omega))), (by first | rfl | exact if_neg (by omega) | exact (if_neg (by omega)).trans (if_neg (by omega))), (by first | rfl | exact if_neg (by omega) | exact (if_neg (by omega)).trans (if_neg (by omega)))⟩, ⟨rfl, rfl, rfl, rfl, rfl⟩, ⟨rfl, rfl, rfl, rfl⟩, rfl, rfl, rfl, rfl, rfl⟩⟩⟩)⟩, by show va_P D.1 j_cl (cW D q u) t0.heap; rw [ht]; first | exact hP | (simp only [sC_id, sX_id, sY_id, sH_id, sT_id, sV_id]; exact hP)⟩, hS.F ht⟩) hS.2.2 dX11_map_84 hlk
        · skip
          refine lv_iload SS.1 SS.2.1 dX11_map_29 (lv_at hl 7 rfl) ?_
          refine j_sRi SS (As := [.int (J c)]) (rest := []) (c_X11_onGrid l D  c (show -2147483648 ≤ c ∧ c ≤ 2147483647 from (p5))) mf_X11_onGrid kw_475 hG trivial rfl hl.1 ⟨⟨Nat.le_of_ble_eq_true rfl, Nat.le_of_ble_eq_true rfl⟩, Nat.le_of_ble_eq_true rfl, Nat.le_refl _, Nat.le_refl _⟩ rfl dX11_map_31 (fun z_31 h_31 => ?_)
          have h_31 : (z_31 = 1 ∧ (-40 ≤ c ∧ c ≤ 40)) ∨ (z_31 = 0 ∧ ¬ (-40 ≤ c ∧ c ≤ 40)) := h_31
          refine j_if_eq SS (tgt := 65) (x := z_31) dX11_map_34 (by decide) (by omega) (fun c_34 => ?_) (fun c_34 => ?_)
          · skip
            refine j_iconst SS dX11_map_65 ?_
            refine lv_istore (lv' := [(11, .int (J 0)), (10, .ref (q (8 + 5 * i_9))), (9, .null), (0, .ref (q 0)), (1, .int (J s)), (2, .int (J to)), (3, .int (J a)), (4, .int (J b)), (5, .int (J c)), (6, .int (J d)), (7, .int (J e)), (8, .int (J f))]) SS.1 SS.2.1 dX11_map_66 hl (by decide) rfl (fun ls hl => ?_)
            refine lv_aloadN SS.1 SS.2.1 dX11_map_68 (lv_at hl 2 rfl) ?_
            refine lv_ifnullN SS.1 SS.2.1 (tgt := 83) dX11_map_70 (by decide) ?_
            refine j_iconst SS dX11_map_83 ?_
            exact W.iret SS.1 SS.2.1 hr (fun t0 ht hW => ⟨⟨_, u, rfl, ⟨(-1), rfl, (⟨⟨p0, Or.inl ⟨by unfold six; omega, rfl, cs_refl⟩⟩, by first | exact kMut_n (by decide) | exact ⟨cHr_n (fun _ _ => rfl) (by decide), sRel_n ⟨rfl, fun _ _ => rfl⟩ (by decide), ⟨⟨(by first | rfl | exact if_neg (by omega) | exact (if_neg (by omega)).trans (if_neg (by omega))), (by first | rfl | exact if_neg (by omega) | exact (if_neg (by omega)).trans (if_neg (by omega))), (by first | rfl | exact if_neg (by omega) | exact (if_neg (by omega)).trans (if_neg (by omega)))⟩, rfl, rfl, rfl⟩, ⟨⟨(by first | rfl | exact if_neg (by omega) | exact (if_neg (by omega)).trans (if_neg (by omega))), (by first | rfl | exact if_neg (by omega) | exact (if_neg (by omega)).trans (if_neg (by omega))), (by first | rfl | exact if_neg (by omega) | exact (if_neg (by omega)).trans (if_neg (by omega)))⟩, ⟨rfl, rfl, rfl, rfl, rfl⟩, ⟨rfl, rfl, rfl, rfl⟩, rfl, rfl, rfl, rfl, rfl⟩⟩⟩)⟩, by show va_P D.1 j_cl (cW D q u) t0.heap; rw [ht]; first | exact hP | (simp only [sC_id, sX_id, sY_id, sH_id, sT_id, sV_id]; exact hP)⟩, hS.F ht⟩) hS.2.2 dX11_map_84 hlk
          · skip
            refine lv_iload SS.1 SS.2.1 dX11_map_37 (lv_at hl 8 rfl) ?_
            refine j_sRi SS (As := [.int (J d)]) (rest := []) (c_X11_onGrid l D  d (show -2147483648 ≤ d ∧ d ≤ 2147483647 from (p6))) mf_X11_onGrid kw_475 hG trivial rfl hl.1 ⟨⟨Nat.le_of_ble_eq_true rfl, Nat.le_of_ble_eq_true rfl⟩, Nat.le_of_ble_eq_true rfl, Nat.le_refl _, Nat.le_refl _⟩ rfl dX11_map_39 (fun z_39 h_39 => ?_)
            have h_39 : (z_39 = 1 ∧ (-40 ≤ d ∧ d ≤ 40)) ∨ (z_39 = 0 ∧ ¬ (-40 ≤ d ∧ d ≤ 40)) := h_39
            refine j_if_eq SS (tgt := 65) (x := z_39) dX11_map_42 (by decide) (by omega) (fun c_42 => ?_) (fun c_42 => ?_)
            · skip
              refine j_iconst SS dX11_map_65 ?_
              refine lv_istore (lv' := [(11, .int (J 0)), (10, .ref (q (8 + 5 * i_9))), (9, .null), (0, .ref (q 0)), (1, .int (J s)), (2, .int (J to)), (3, .int (J a)), (4, .int (J b)), (5, .int (J c)), (6, .int (J d)), (7, .int (J e)), (8, .int (J f))]) SS.1 SS.2.1 dX11_map_66 hl (by decide) rfl (fun ls hl => ?_)
              refine lv_aloadN SS.1 SS.2.1 dX11_map_68 (lv_at hl 2 rfl) ?_
              refine lv_ifnullN SS.1 SS.2.1 (tgt := 83) dX11_map_70 (by decide) ?_
              refine j_iconst SS dX11_map_83 ?_
              exact W.iret SS.1 SS.2.1 hr (fun t0 ht hW => ⟨⟨_, u, rfl, ⟨(-1), rfl, (⟨⟨p0, Or.inl ⟨by unfold six; omega, rfl, cs_refl⟩⟩, by first | exact kMut_n (by decide) | exact ⟨cHr_n (fun _ _ => rfl) (by decide), sRel_n ⟨rfl, fun _ _ => rfl⟩ (by decide), ⟨⟨(by first | rfl | exact if_neg (by omega) | exact (if_neg (by omega)).trans (if_neg (by omega))), (by first | rfl | exact if_neg (by omega) | exact (if_neg (by omega)).trans (if_neg (by omega))), (by first | rfl | exact if_neg (by omega) | exact (if_neg (by omega)).trans (if_neg (by omega)))⟩, rfl, rfl, rfl⟩, ⟨⟨(by first | rfl | exact if_neg (by omega) | exact (if_neg (by omega)).trans (if_neg (by omega))), (by first | rfl | exact if_neg (by omega) | exact (if_neg (by omega)).trans (if_neg (by omega))), (by first | rfl | exact if_neg (by omega) | exact (if_neg (by omega)).trans (if_neg (by omega)))⟩, ⟨rfl, rfl, rfl, rfl, rfl⟩, ⟨rfl, rfl, rfl, rfl⟩, rfl, rfl, rfl, rfl, rfl⟩⟩⟩)⟩, by show va_P D.1 j_cl (cW D q u) t0.heap; rw [ht]; first | exact hP | (simp only [sC_id, sX_id, sY_id, sH_id, sT_id, sV_id]; exact hP)⟩, hS.F ht⟩) hS.2.2 dX11_map_84 hlk
            · skip
              refine lv_iload SS.1 SS.2.1 dX11_map_45 (lv_at hl 9 rfl) ?_
              refine j_sRi SS (As := [.int (J e)]) (rest := []) (c_X11_onGrid l D  e (show -2147483648 ≤ e ∧ e ≤ 2147483647 from (p7))) mf_X11_onGrid kw_475 hG trivial rfl hl.1 ⟨⟨Nat.le_of_ble_eq_true rfl, Nat.le_of_ble_eq_true rfl⟩, Nat.le_of_ble_eq_true rfl, Nat.le_refl _, Nat.le_refl _⟩ rfl dX11_map_47 (fun z_47 h_47 => ?_)
              have h_47 : (z_47 = 1 ∧ (-40 ≤ e ∧ e ≤ 40)) ∨ (z_47 = 0 ∧ ¬ (-40 ≤ e ∧ e ≤ 40)) := h_47
              refine j_if_eq SS (tgt := 65) (x := z_47) dX11_map_50 (by decide) (by omega) (fun c_50 => ?_) (fun c_50 => ?_)
              · skip
                refine j_iconst SS dX11_map_65 ?_
                refine lv_istore (lv' := [(11, .int (J 0)), (10, .ref (q (8 + 5 * i_9))), (9, .null), (0, .ref (q 0)), (1, .int (J s)), (2, .int (J to)), (3, .int (J a)), (4, .int (J b)), (5, .int (J c)), (6, .int (J d)), (7, .int (J e)), (8, .int (J f))]) SS.1 SS.2.1 dX11_map_66 hl (by decide) rfl (fun ls hl => ?_)
                refine lv_aloadN SS.1 SS.2.1 dX11_map_68 (lv_at hl 2 rfl) ?_
                refine lv_ifnullN SS.1 SS.2.1 (tgt := 83) dX11_map_70 (by decide) ?_
                refine j_iconst SS dX11_map_83 ?_
                exact W.iret SS.1 SS.2.1 hr (fun t0 ht hW => ⟨⟨_, u, rfl, ⟨(-1), rfl, (⟨⟨p0, Or.inl ⟨by unfold six; omega, rfl, cs_refl⟩⟩, by first | exact kMut_n (by decide) | exact ⟨cHr_n (fun _ _ => rfl) (by decide), sRel_n ⟨rfl, fun _ _ => rfl⟩ (by decide), ⟨⟨(by first | rfl | exact if_neg (by omega) | exact (if_neg (by omega)).trans (if_neg (by omega))), (by first | rfl | exact if_neg (by omega) | exact (if_neg (by omega)).trans (if_neg (by omega))), (by first | rfl | exact if_neg (by omega) | exact (if_neg (by omega)).trans (if_neg (by omega)))⟩, rfl, rfl, rfl⟩, ⟨⟨(by first | rfl | exact if_neg (by omega) | exact (if_neg (by omega)).trans (if_neg (by omega))), (by first | rfl | exact if_neg (by omega) | exact (if_neg (by omega)).trans (if_neg (by omega))), (by first | rfl | exact if_neg (by omega) | exact (if_neg (by omega)).trans (if_neg (by omega)))⟩, ⟨rfl, rfl, rfl, rfl, rfl⟩, ⟨rfl, rfl, rfl, rfl⟩, rfl, rfl, rfl, rfl, rfl⟩⟩⟩)⟩, by show va_P D.1 j_cl (cW D q u) t0.heap; rw [ht]; first | exact hP | (simp only [sC_id, sX_id, sY_id, sH_id, sT_id, sV_id]; exact hP)⟩, hS.F ht⟩) hS.2.2 dX11_map_84 hlk
              · skip
                refine lv_iload SS.1 SS.2.1 dX11_map_53 (lv_at hl 10 rfl) ?_
                refine j_sRi SS (As := [.int (J f)]) (rest := []) (c_X11_onGrid l D  f (show -2147483648 ≤ f ∧ f ≤ 2147483647 from (p8))) mf_X11_onGrid kw_475 hG trivial rfl hl.1 ⟨⟨Nat.le_of_ble_eq_true rfl, Nat.le_of_ble_eq_true rfl⟩, Nat.le_of_ble_eq_true rfl, Nat.le_refl _, Nat.le_refl _⟩ rfl dX11_map_55 (fun z_55 h_55 => ?_)
                have h_55 : (z_55 = 1 ∧ (-40 ≤ f ∧ f ≤ 40)) ∨ (z_55 = 0 ∧ ¬ (-40 ≤ f ∧ f ≤ 40)) := h_55
                refine j_if_eq SS (tgt := 65) (x := z_55) dX11_map_58 (by decide) (by omega) (fun c_58 => ?_) (fun c_58 => ?_)
                · skip
                  refine j_iconst SS dX11_map_65 ?_
                  refine lv_istore (lv' := [(11, .int (J 0)), (10, .ref (q (8 + 5 * i_9))), (9, .null), (0, .ref (q 0)), (1, .int (J s)), (2, .int (J to)), (3, .int (J a)), (4, .int (J b)), (5, .int (J c)), (6, .int (J d)), (7, .int (J e)), (8, .int (J f))]) SS.1 SS.2.1 dX11_map_66 hl (by decide) rfl (fun ls hl => ?_)
                  refine lv_aloadN SS.1 SS.2.1 dX11_map_68 (lv_at hl 2 rfl) ?_
                  refine lv_ifnullN SS.1 SS.2.1 (tgt := 83) dX11_map_70 (by decide) ?_
                  refine j_iconst SS dX11_map_83 ?_
                  exact W.iret SS.1 SS.2.1 hr (fun t0 ht hW => ⟨⟨_, u, rfl, ⟨(-1), rfl, (⟨⟨p0, Or.inl ⟨by unfold six; omega, rfl, cs_refl⟩⟩, by first | exact kMut_n (by decide) | exact ⟨cHr_n (fun _ _ => rfl) (by decide), sRel_n ⟨rfl, fun _ _ => rfl⟩ (by decide), ⟨⟨(by first | rfl | exact if_neg (by omega) | exact (if_neg (by omega)).trans (if_neg (by omega))), (by first | rfl | exact if_neg (by omega) | exact (if_neg (by omega)).trans (if_neg (by omega))), (by first | rfl | exact if_neg (by omega) | exact (if_neg (by omega)).trans (if_neg (by omega)))⟩, rfl, rfl, rfl⟩, ⟨⟨(by first | rfl | exact if_neg (by omega) | exact (if_neg (by omega)).trans (if_neg (by omega))), (by first | rfl | exact if_neg (by omega) | exact (if_neg (by omega)).trans (if_neg (by omega))), (by first | rfl | exact if_neg (by omega) | exact (if_neg (by omega)).trans (if_neg (by omega)))⟩, ⟨rfl, rfl, rfl, rfl, rfl⟩, ⟨rfl, rfl, rfl, rfl⟩, rfl, rfl, rfl, rfl, rfl⟩⟩⟩)⟩, by show va_P D.1 j_cl (cW D q u) t0.heap; rw [ht]; first | exact hP | (simp only [sC_id, sX_id, sY_id, sH_id, sT_id, sV_id]; exact hP)⟩, hS.F ht⟩) hS.2.2 dX11_map_84 hlk
                · skip
                  refine j_iconst SS dX11_map_61 ?_
                  refine lv_goto (tgt := 66) SS.1 SS.2.1 dX11_map_62 (by decide) ?_
                  refine lv_istore (lv' := [(11, .int (J 1)), (10, .ref (q (8 + 5 * i_9))), (9, .null), (0, .ref (q 0)), (1, .int (J s)), (2, .int (J to)), (3, .int (J a)), (4, .int (J b)), (5, .int (J c)), (6, .int (J d)), (7, .int (J e)), (8, .int (J f))]) SS.1 SS.2.1 dX11_map_66 hl (by decide) rfl (fun ls hl => ?_)
                  refine lv_aloadN SS.1 SS.2.1 dX11_map_68 (lv_at hl 2 rfl) ?_
                  refine lv_ifnullN SS.1 SS.2.1 (tgt := 83) dX11_map_70 (by decide) ?_
                  refine j_iconst SS dX11_map_83 ?_
                  exact W.iret SS.1 SS.2.1 hr (fun t0 ht hW => ⟨⟨_, u, rfl, ⟨(-1), rfl, (⟨⟨p0, Or.inl ⟨by unfold six; omega, rfl, cs_refl⟩⟩, by first | exact kMut_n (by decide) | exact ⟨cHr_n (fun _ _ => rfl) (by decide), sRel_n ⟨rfl, fun _ _ => rfl⟩ (by decide), ⟨⟨(by first | rfl | exact if_neg (by omega) | exact (if_neg (by omega)).trans (if_neg (by omega))), (by first | rfl | exact if_neg (by omega) | exact (if_neg (by omega)).trans (if_neg (by omega))), (by first | rfl | exact if_neg (by omega) | exact (if_neg (by omega)).trans (if_neg (by omega)))⟩, rfl, rfl, rfl⟩, ⟨⟨(by first | rfl | exact if_neg (by omega) | exact (if_neg (by omega)).trans (if_neg (by omega))), (by first | rfl | exact if_neg (by omega) | exact (if_neg (by omega)).trans (if_neg (by omega))), (by first | rfl | exact if_neg (by omega) | exact (if_neg (by omega)).trans (if_neg (by omega)))⟩, ⟨rfl, rfl, rfl, rfl, rfl⟩, ⟨rfl, rfl, rfl, rfl⟩, rfl, rfl, rfl, rfl, rfl⟩⟩⟩)⟩, by show va_P D.1 j_cl (cW D q u) t0.heap; rw [ht]; first | exact hP | (simp only [sC_id, sX_id, sY_id, sH_id, sT_id, sV_id]; exact hP)⟩, hS.F ht⟩) hS.2.2 dX11_map_84 hlk
    · skip
      refine lv_astoreN (lv' := [(10, .null), (9, .null), (0, .ref (q 0)), (1, .int (J s)), (2, .int (J to)), (3, .int (J a)), (4, .int (J b)), (5, .int (J c)), (6, .int (J d)), (7, .int (J e)), (8, .int (J f))]) SS.1 SS.2.1 dX11_map_12 hl (by decide) rfl (fun ls hl => ?_)
      refine lv_iload_n SS.1 SS.2.1 dX11_map_14 rfl (lv_at hl 5 rfl) ?_
      refine j_sRi SS (As := [.int (J a)]) (rest := []) (c_X11_onGrid l D  a (show -2147483648 ≤ a ∧ a ≤ 2147483647 from (p3))) mf_X11_onGrid kw_475 hG trivial rfl hl.1 ⟨⟨Nat.le_of_ble_eq_true rfl, Nat.le_of_ble_eq_true rfl⟩, Nat.le_of_ble_eq_true rfl, Nat.le_refl _, Nat.le_refl _⟩ rfl dX11_map_15 (fun z_15 h_15 => ?_)
      have h_15 : (z_15 = 1 ∧ (-40 ≤ a ∧ a ≤ 40)) ∨ (z_15 = 0 ∧ ¬ (-40 ≤ a ∧ a ≤ 40)) := h_15
      refine j_if_eq SS (tgt := 65) (x := z_15) dX11_map_18 (by decide) (by omega) (fun c_18 => ?_) (fun c_18 => ?_)
      · skip
        refine j_iconst SS dX11_map_65 ?_
        refine lv_istore (lv' := [(11, .int (J 0)), (10, .null), (9, .null), (0, .ref (q 0)), (1, .int (J s)), (2, .int (J to)), (3, .int (J a)), (4, .int (J b)), (5, .int (J c)), (6, .int (J d)), (7, .int (J e)), (8, .int (J f))]) SS.1 SS.2.1 dX11_map_66 hl (by decide) rfl (fun ls hl => ?_)
        refine lv_aloadN SS.1 SS.2.1 dX11_map_68 (lv_at hl 2 rfl) ?_
        refine lv_ifnullN SS.1 SS.2.1 (tgt := 83) dX11_map_70 (by decide) ?_
        refine j_iconst SS dX11_map_83 ?_
        exact W.iret SS.1 SS.2.1 hr (fun t0 ht hW => ⟨⟨_, u, rfl, ⟨(-1), rfl, (⟨⟨p0, Or.inl ⟨by unfold six; omega, rfl, cs_refl⟩⟩, by first | exact kMut_n (by decide) | exact ⟨cHr_n (fun _ _ => rfl) (by decide), sRel_n ⟨rfl, fun _ _ => rfl⟩ (by decide), ⟨⟨(by first | rfl | exact if_neg (by omega) | exact (if_neg (by omega)).trans (if_neg (by omega))), (by first | rfl | exact if_neg (by omega) | exact (if_neg (by omega)).trans (if_neg (by omega))), (by first | rfl | exact if_neg (by omega) | exact (if_neg (by omega)).trans (if_neg (by omega)))⟩, rfl, rfl, rfl⟩, ⟨⟨(by first | rfl | exact if_neg (by omega) | exact (if_neg (by omega)).trans (if_neg (by omega))), (by first | rfl | exact if_neg (by omega) | exact (if_neg (by omega)).trans (if_neg (by omega))), (by first | rfl | exact if_neg (by omega) | exact (if_neg (by omega)).trans (if_neg (by omega)))⟩, ⟨rfl, rfl, rfl, rfl, rfl⟩, ⟨rfl, rfl, rfl, rfl⟩, rfl, rfl, rfl, rfl, rfl⟩⟩⟩)⟩, by show va_P D.1 j_cl (cW D q u) t0.heap; rw [ht]; first | exact hP | (simp only [sC_id, sX_id, sY_id, sH_id, sT_id, sV_id]; exact hP)⟩, hS.F ht⟩) hS.2.2 dX11_map_84 hlk
      · skip
        refine lv_iload SS.1 SS.2.1 dX11_map_21 (lv_at hl 6 rfl) ?_
        refine j_sRi SS (As := [.int (J b)]) (rest := []) (c_X11_onGrid l D  b (show -2147483648 ≤ b ∧ b ≤ 2147483647 from (p4))) mf_X11_onGrid kw_475 hG trivial rfl hl.1 ⟨⟨Nat.le_of_ble_eq_true rfl, Nat.le_of_ble_eq_true rfl⟩, Nat.le_of_ble_eq_true rfl, Nat.le_refl _, Nat.le_refl _⟩ rfl dX11_map_23 (fun z_23 h_23 => ?_)
        have h_23 : (z_23 = 1 ∧ (-40 ≤ b ∧ b ≤ 40)) ∨ (z_23 = 0 ∧ ¬ (-40 ≤ b ∧ b ≤ 40)) := h_23
        refine j_if_eq SS (tgt := 65) (x := z_23) dX11_map_26 (by decide) (by omega) (fun c_26 => ?_) (fun c_26 => ?_)
        · skip
          refine j_iconst SS dX11_map_65 ?_
          refine lv_istore (lv' := [(11, .int (J 0)), (10, .null), (9, .null), (0, .ref (q 0)), (1, .int (J s)), (2, .int (J to)), (3, .int (J a)), (4, .int (J b)), (5, .int (J c)), (6, .int (J d)), (7, .int (J e)), (8, .int (J f))]) SS.1 SS.2.1 dX11_map_66 hl (by decide) rfl (fun ls hl => ?_)
          refine lv_aloadN SS.1 SS.2.1 dX11_map_68 (lv_at hl 2 rfl) ?_
          refine lv_ifnullN SS.1 SS.2.1 (tgt := 83) dX11_map_70 (by decide) ?_
          refine j_iconst SS dX11_map_83 ?_
          exact W.iret SS.1 SS.2.1 hr (fun t0 ht hW => ⟨⟨_, u, rfl, ⟨(-1), rfl, (⟨⟨p0, Or.inl ⟨by unfold six; omega, rfl, cs_refl⟩⟩, by first | exact kMut_n (by decide) | exact ⟨cHr_n (fun _ _ => rfl) (by decide), sRel_n ⟨rfl, fun _ _ => rfl⟩ (by decide), ⟨⟨(by first | rfl | exact if_neg (by omega) | exact (if_neg (by omega)).trans (if_neg (by omega))), (by first | rfl | exact if_neg (by omega) | exact (if_neg (by omega)).trans (if_neg (by omega))), (by first | rfl | exact if_neg (by omega) | exact (if_neg (by omega)).trans (if_neg (by omega)))⟩, rfl, rfl, rfl⟩, ⟨⟨(by first | rfl | exact if_neg (by omega) | exact (if_neg (by omega)).trans (if_neg (by omega))), (by first | rfl | exact if_neg (by omega) | exact (if_neg (by omega)).trans (if_neg (by omega))), (by first | rfl | exact if_neg (by omega) | exact (if_neg (by omega)).trans (if_neg (by omega)))⟩, ⟨rfl, rfl, rfl, rfl, rfl⟩, ⟨rfl, rfl, rfl, rfl⟩, rfl, rfl, rfl, rfl, rfl⟩⟩⟩)⟩, by show va_P D.1 j_cl (cW D q u) t0.heap; rw [ht]; first | exact hP | (simp only [sC_id, sX_id, sY_id, sH_id, sT_id, sV_id]; exact hP)⟩, hS.F ht⟩) hS.2.2 dX11_map_84 hlk
        · skip
          refine lv_iload SS.1 SS.2.1 dX11_map_29 (lv_at hl 7 rfl) ?_
          refine j_sRi SS (As := [.int (J c)]) (rest := []) (c_X11_onGrid l D  c (show -2147483648 ≤ c ∧ c ≤ 2147483647 from (p5))) mf_X11_onGrid kw_475 hG trivial rfl hl.1 ⟨⟨Nat.le_of_ble_eq_true rfl, Nat.le_of_ble_eq_true rfl⟩, Nat.le_of_ble_eq_true rfl, Nat.le_refl _, Nat.le_refl _⟩ rfl dX11_map_31 (fun z_31 h_31 => ?_)
          have h_31 : (z_31 = 1 ∧ (-40 ≤ c ∧ c ≤ 40)) ∨ (z_31 = 0 ∧ ¬ (-40 ≤ c ∧ c ≤ 40)) := h_31
          refine j_if_eq SS (tgt := 65) (x := z_31) dX11_map_34 (by decide) (by omega) (fun c_34 => ?_) (fun c_34 => ?_)
          · skip
            refine j_iconst SS dX11_map_65 ?_
            refine lv_istore (lv' := [(11, .int (J 0)), (10, .null), (9, .null), (0, .ref (q 0)), (1, .int (J s)), (2, .int (J to)), (3, .int (J a)), (4, .int (J b)), (5, .int (J c)), (6, .int (J d)), (7, .int (J e)), (8, .int (J f))]) SS.1 SS.2.1 dX11_map_66 hl (by decide) rfl (fun ls hl => ?_)
            refine lv_aloadN SS.1 SS.2.1 dX11_map_68 (lv_at hl 2 rfl) ?_
            refine lv_ifnullN SS.1 SS.2.1 (tgt := 83) dX11_map_70 (by decide) ?_
            refine j_iconst SS dX11_map_83 ?_
            exact W.iret SS.1 SS.2.1 hr (fun t0 ht hW => ⟨⟨_, u, rfl, ⟨(-1), rfl, (⟨⟨p0, Or.inl ⟨by unfold six; omega, rfl, cs_refl⟩⟩, by first | exact kMut_n (by decide) | exact ⟨cHr_n (fun _ _ => rfl) (by decide), sRel_n ⟨rfl, fun _ _ => rfl⟩ (by decide), ⟨⟨(by first | rfl | exact if_neg (by omega) | exact (if_neg (by omega)).trans (if_neg (by omega))), (by first | rfl | exact if_neg (by omega) | exact (if_neg (by omega)).trans (if_neg (by omega))), (by first | rfl | exact if_neg (by omega) | exact (if_neg (by omega)).trans (if_neg (by omega)))⟩, rfl, rfl, rfl⟩, ⟨⟨(by first | rfl | exact if_neg (by omega) | exact (if_neg (by omega)).trans (if_neg (by omega))), (by first | rfl | exact if_neg (by omega) | exact (if_neg (by omega)).trans (if_neg (by omega))), (by first | rfl | exact if_neg (by omega) | exact (if_neg (by omega)).trans (if_neg (by omega)))⟩, ⟨rfl, rfl, rfl, rfl, rfl⟩, ⟨rfl, rfl, rfl, rfl⟩, rfl, rfl, rfl, rfl, rfl⟩⟩⟩)⟩, by show va_P D.1 j_cl (cW D q u) t0.heap; rw [ht]; first | exact hP | (simp only [sC_id, sX_id, sY_id, sH_id, sT_id, sV_id]; exact hP)⟩, hS.F ht⟩) hS.2.2 dX11_map_84 hlk
          · skip
            refine lv_iload SS.1 SS.2.1 dX11_map_37 (lv_at hl 8 rfl) ?_
            refine j_sRi SS (As := [.int (J d)]) (rest := []) (c_X11_onGrid l D  d (show -2147483648 ≤ d ∧ d ≤ 2147483647 from (p6))) mf_X11_onGrid kw_475 hG trivial rfl hl.1 ⟨⟨Nat.le_of_ble_eq_true rfl, Nat.le_of_ble_eq_true rfl⟩, Nat.le_of_ble_eq_true rfl, Nat.le_refl _, Nat.le_refl _⟩ rfl dX11_map_39 (fun z_39 h_39 => ?_)
            have h_39 : (z_39 = 1 ∧ (-40 ≤ d ∧ d ≤ 40)) ∨ (z_39 = 0 ∧ ¬ (-40 ≤ d ∧ d ≤ 40)) := h_39
            refine j_if_eq SS (tgt := 65) (x := z_39) dX11_map_42 (by decide) (by omega) (fun c_42 => ?_) (fun c_42 => ?_)
            · skip
              refine j_iconst SS dX11_map_65 ?_
              refine lv_istore (lv' := [(11, .int (J 0)), (10, .null), (9, .null), (0, .ref (q 0)), (1, .int (J s)), (2, .int (J to)), (3, .int (J a)), (4, .int (J b)), (5, .int (J c)), (6, .int (J d)), (7, .int (J e)), (8, .int (J f))]) SS.1 SS.2.1 dX11_map_66 hl (by decide) rfl (fun ls hl => ?_)
              refine lv_aloadN SS.1 SS.2.1 dX11_map_68 (lv_at hl 2 rfl) ?_
              refine lv_ifnullN SS.1 SS.2.1 (tgt := 83) dX11_map_70 (by decide) ?_
              refine j_iconst SS dX11_map_83 ?_
              exact W.iret SS.1 SS.2.1 hr (fun t0 ht hW => ⟨⟨_, u, rfl, ⟨(-1), rfl, (⟨⟨p0, Or.inl ⟨by unfold six; omega, rfl, cs_refl⟩⟩, by first | exact kMut_n (by decide) | exact ⟨cHr_n (fun _ _ => rfl) (by decide), sRel_n ⟨rfl, fun _ _ => rfl⟩ (by decide), ⟨⟨(by first | rfl | exact if_neg (by omega) | exact (if_neg (by omega)).trans (if_neg (by omega))), (by first | rfl | exact if_neg (by omega) | exact (if_neg (by omega)).trans (if_neg (by omega))), (by first | rfl | exact if_neg (by omega) | exact (if_neg (by omega)).trans (if_neg (by omega)))⟩, rfl, rfl, rfl⟩, ⟨⟨(by first | rfl | exact if_neg (by omega) | exact (if_neg (by omega)).trans (if_neg (by omega))), (by first | rfl | exact if_neg (by omega) | exact (if_neg (by omega)).trans (if_neg (by omega))), (by first | rfl | exact if_neg (by omega) | exact (if_neg (by omega)).trans (if_neg (by omega)))⟩, ⟨rfl, rfl, rfl, rfl, rfl⟩, ⟨rfl, rfl, rfl, rfl⟩, rfl, rfl, rfl, rfl, rfl⟩⟩⟩)⟩, by show va_P D.1 j_cl (cW D q u) t0.heap; rw [ht]; first | exact hP | (simp only [sC_id, sX_id, sY_id, sH_id, sT_id, sV_id]; exact hP)⟩, hS.F ht⟩) hS.2.2 dX11_map_84 hlk
            · skip
              refine lv_iload SS.1 SS.2.1 dX11_map_45 (lv_at hl 9 rfl) ?_
              refine j_sRi SS (As := [.int (J e)]) (rest := []) (c_X11_onGrid l D  e (show -2147483648 ≤ e ∧ e ≤ 2147483647 from (p7))) mf_X11_onGrid kw_475 hG trivial rfl hl.1 ⟨⟨Nat.le_of_ble_eq_true rfl, Nat.le_of_ble_eq_true rfl⟩, Nat.le_of_ble_eq_true rfl, Nat.le_refl _, Nat.le_refl _⟩ rfl dX11_map_47 (fun z_47 h_47 => ?_)
              have h_47 : (z_47 = 1 ∧ (-40 ≤ e ∧ e ≤ 40)) ∨ (z_47 = 0 ∧ ¬ (-40 ≤ e ∧ e ≤ 40)) := h_47
              refine j_if_eq SS (tgt := 65) (x := z_47) dX11_map_50 (by decide) (by omega) (fun c_50 => ?_) (fun c_50 => ?_)
              · skip
                refine j_iconst SS dX11_map_65 ?_
                refine lv_istore (lv' := [(11, .int (J 0)), (10, .null), (9, .null), (0, .ref (q 0)), (1, .int (J s)), (2, .int (J to)), (3, .int (J a)), (4, .int (J b)), (5, .int (J c)), (6, .int (J d)), (7, .int (J e)), (8, .int (J f))]) SS.1 SS.2.1 dX11_map_66 hl (by decide) rfl (fun ls hl => ?_)
                refine lv_aloadN SS.1 SS.2.1 dX11_map_68 (lv_at hl 2 rfl) ?_
                refine lv_ifnullN SS.1 SS.2.1 (tgt := 83) dX11_map_70 (by decide) ?_
                refine j_iconst SS dX11_map_83 ?_
                exact W.iret SS.1 SS.2.1 hr (fun t0 ht hW => ⟨⟨_, u, rfl, ⟨(-1), rfl, (⟨⟨p0, Or.inl ⟨by unfold six; omega, rfl, cs_refl⟩⟩, by first | exact kMut_n (by decide) | exact ⟨cHr_n (fun _ _ => rfl) (by decide), sRel_n ⟨rfl, fun _ _ => rfl⟩ (by decide), ⟨⟨(by first | rfl | exact if_neg (by omega) | exact (if_neg (by omega)).trans (if_neg (by omega))), (by first | rfl | exact if_neg (by omega) | exact (if_neg (by omega)).trans (if_neg (by omega))), (by first | rfl | exact if_neg (by omega) | exact (if_neg (by omega)).trans (if_neg (by omega)))⟩, rfl, rfl, rfl⟩, ⟨⟨(by first | rfl | exact if_neg (by omega) | exact (if_neg (by omega)).trans (if_neg (by omega))), (by first | rfl | exact if_neg (by omega) | exact (if_neg (by omega)).trans (if_neg (by omega))), (by first | rfl | exact if_neg (by omega) | exact (if_neg (by omega)).trans (if_neg (by omega)))⟩, ⟨rfl, rfl, rfl, rfl, rfl⟩, ⟨rfl, rfl, rfl, rfl⟩, rfl, rfl, rfl, rfl, rfl⟩⟩⟩)⟩, by show va_P D.1 j_cl (cW D q u) t0.heap; rw [ht]; first | exact hP | (simp only [sC_id, sX_id, sY_id, sH_id, sT_id, sV_id]; exact hP)⟩, hS.F ht⟩) hS.2.2 dX11_map_84 hlk
              · skip
                refine lv_iload SS.1 SS.2.1 dX11_map_53 (lv_at hl 10 rfl) ?_
                refine j_sRi SS (As := [.int (J f)]) (rest := []) (c_X11_onGrid l D  f (show -2147483648 ≤ f ∧ f ≤ 2147483647 from (p8))) mf_X11_onGrid kw_475 hG trivial rfl hl.1 ⟨⟨Nat.le_of_ble_eq_true rfl, Nat.le_of_ble_eq_true rfl⟩, Nat.le_of_ble_eq_true rfl, Nat.le_refl _, Nat.le_refl _⟩ rfl dX11_map_55 (fun z_55 h_55 => ?_)
                have h_55 : (z_55 = 1 ∧ (-40 ≤ f ∧ f ≤ 40)) ∨ (z_55 = 0 ∧ ¬ (-40 ≤ f ∧ f ≤ 40)) := h_55
                refine j_if_eq SS (tgt := 65) (x := z_55) dX11_map_58 (by decide) (by omega) (fun c_58 => ?_) (fun c_58 => ?_)
                · skip
                  refine j_iconst SS dX11_map_65 ?_
                  refine lv_istore (lv' := [(11, .int (J 0)), (10, .null), (9, .null), (0, .ref (q 0)), (1, .int (J s)), (2, .int (J to)), (3, .int (J a)), (4, .int (J b)), (5, .int (J c)), (6, .int (J d)), (7, .int (J e)), (8, .int (J f))]) SS.1 SS.2.1 dX11_map_66 hl (by decide) rfl (fun ls hl => ?_)
                  refine lv_aloadN SS.1 SS.2.1 dX11_map_68 (lv_at hl 2 rfl) ?_
                  refine lv_ifnullN SS.1 SS.2.1 (tgt := 83) dX11_map_70 (by decide) ?_
                  refine j_iconst SS dX11_map_83 ?_
                  exact W.iret SS.1 SS.2.1 hr (fun t0 ht hW => ⟨⟨_, u, rfl, ⟨(-1), rfl, (⟨⟨p0, Or.inl ⟨by unfold six; omega, rfl, cs_refl⟩⟩, by first | exact kMut_n (by decide) | exact ⟨cHr_n (fun _ _ => rfl) (by decide), sRel_n ⟨rfl, fun _ _ => rfl⟩ (by decide), ⟨⟨(by first | rfl | exact if_neg (by omega) | exact (if_neg (by omega)).trans (if_neg (by omega))), (by first | rfl | exact if_neg (by omega) | exact (if_neg (by omega)).trans (if_neg (by omega))), (by first | rfl | exact if_neg (by omega) | exact (if_neg (by omega)).trans (if_neg (by omega)))⟩, rfl, rfl, rfl⟩, ⟨⟨(by first | rfl | exact if_neg (by omega) | exact (if_neg (by omega)).trans (if_neg (by omega))), (by first | rfl | exact if_neg (by omega) | exact (if_neg (by omega)).trans (if_neg (by omega))), (by first | rfl | exact if_neg (by omega) | exact (if_neg (by omega)).trans (if_neg (by omega)))⟩, ⟨rfl, rfl, rfl, rfl, rfl⟩, ⟨rfl, rfl, rfl, rfl⟩, rfl, rfl, rfl, rfl, rfl⟩⟩⟩)⟩, by show va_P D.1 j_cl (cW D q u) t0.heap; rw [ht]; first | exact hP | (simp only [sC_id, sX_id, sY_id, sH_id, sT_id, sV_id]; exact hP)⟩, hS.F ht⟩) hS.2.2 dX11_map_84 hlk
                · skip
                  refine j_iconst SS dX11_map_61 ?_
                  refine lv_goto (tgt := 66) SS.1 SS.2.1 dX11_map_62 (by decide) ?_
                  refine lv_istore (lv' := [(11, .int (J 1)), (10, .null), (9, .null), (0, .ref (q 0)), (1, .int (J s)), (2, .int (J to)), (3, .int (J a)), (4, .int (J b)), (5, .int (J c)), (6, .int (J d)), (7, .int (J e)), (8, .int (J f))]) SS.1 SS.2.1 dX11_map_66 hl (by decide) rfl (fun ls hl => ?_)
                  refine lv_aloadN SS.1 SS.2.1 dX11_map_68 (lv_at hl 2 rfl) ?_
                  refine lv_ifnullN SS.1 SS.2.1 (tgt := 83) dX11_map_70 (by decide) ?_
                  refine j_iconst SS dX11_map_83 ?_
                  exact W.iret SS.1 SS.2.1 hr (fun t0 ht hW => ⟨⟨_, u, rfl, ⟨(-1), rfl, (⟨⟨p0, Or.inl ⟨by unfold six; omega, rfl, cs_refl⟩⟩, by first | exact kMut_n (by decide) | exact ⟨cHr_n (fun _ _ => rfl) (by decide), sRel_n ⟨rfl, fun _ _ => rfl⟩ (by decide), ⟨⟨(by first | rfl | exact if_neg (by omega) | exact (if_neg (by omega)).trans (if_neg (by omega))), (by first | rfl | exact if_neg (by omega) | exact (if_neg (by omega)).trans (if_neg (by omega))), (by first | rfl | exact if_neg (by omega) | exact (if_neg (by omega)).trans (if_neg (by omega)))⟩, rfl, rfl, rfl⟩, ⟨⟨(by first | rfl | exact if_neg (by omega) | exact (if_neg (by omega)).trans (if_neg (by omega))), (by first | rfl | exact if_neg (by omega) | exact (if_neg (by omega)).trans (if_neg (by omega))), (by first | rfl | exact if_neg (by omega) | exact (if_neg (by omega)).trans (if_neg (by omega)))⟩, ⟨rfl, rfl, rfl, rfl, rfl⟩, ⟨rfl, rfl, rfl, rfl⟩, rfl, rfl, rfl, rfl, rfl⟩⟩⟩)⟩, by show va_P D.1 j_cl (cW D q u) t0.heap; rw [ht]; first | exact hP | (simp only [sC_id, sX_id, sY_id, sH_id, sT_id, sV_id]; exact hP)⟩, hS.F ht⟩) hS.2.2 dX11_map_84 hlk

set_option maxHeartbeats 4000000 in
set_option maxRecDepth 100000 in
theorem c_X11_dualF (l : Launch) (D : JD) (q : Nat → Nat) (u : CS) (A : Nat → Prop) (hD : va_D A (cW D q u)) (s : Int) (to : Int) (p0 : CI u) (p1 : -2147483648 ≤ s ∧ s ≤ 2147483647) (p2 : -2147483648 ≤ to ∧ to ≤ 2147483647) : Met l yX11_dual (jw yX11_dual cX11_dual 6 (some .int)) (jr 6 132) (jP [.ref (q 0), .int (J s), .int (J to)] D (fun H => va_P D.1 j_cl (cW D q u) H)) (jWi (fun z u' => (CI u' ∧ dlC u u' s to z) ∧ kMut u u' to.toNat z) (fun u' H => va_P D.1 j_cl (cW D q u') H) A) 0 0 A := by
  refine Met.ofW (cc := cX11_dual) (maxL := 6) (ret := (some .int)) (by decide) rfl ?_
  intro pr en st mi args below meth co s₁ B hml hv
  obtain ⟨rfl, hG, hP⟩ := hv
  have hr := B.returns
  have hlk := B.notSynchronized
  have SS : jS pr mi co cX11_dual 6 st _ RX11 := ⟨B.exec, B.bytes, hml, findClass_of_methodNamed B.named, fun w hw => atoms_spec (ws := (jw yX11_dual cX11_dual 6 (some .int))) B.pre w (List.mem_cons_of_mem _ hw)⟩
  have hl := lv_entry ([.ref (q 0), .int (J s), .int (J to)]) (n := 6) (Nat.le_of_ble_eq_true rfl)
  rw [lg_entry_eq]
  generalize (lg_sl ([.ref (q 0), .int (J s), .int (J to)]) ++ List.replicate (6 - (lg_sl ([.ref (q 0), .int (J s), .int (J to)])).length) Slot.unset).toArray = ls at hl ⊢
  have hl : lv_has ls 6 [(0, .ref (q 0)), (1, .int (J s)), (2, .int (J to))] := hl
  have hS : va_S A st.heap st.heap [] := va_S.rf
  refine lv_aload_n SS.1 SS.2.1 dX11_dual_0 rfl (lv_at hl 0 rfl) ?_
  refine lv_iload_n SS.1 SS.2.1 dX11_dual_1 rfl (lv_at hl 1 rfl) ?_
  refine j_vSh SS (As := [.int (J s)]) (rest := []) (c_X11_shapeAt l D q u  s (show -2147483648 ≤ s ∧ s ≤ 2147483647 from (p1))) mf_X11_shapeAt kw_414 hG hP hP (ci := 11) (q0 := 0) rfl rfl rfl rfl hl.1 ⟨⟨Nat.le_of_ble_eq_true rfl, Nat.le_of_ble_eq_true rfl⟩, Nat.le_of_ble_eq_true rfl, Nat.le_refl _, Nat.le_refl _⟩ rfl dX11_dual_2 (fun i_2 hi_2 hz_2 => ?_) (fun hn_2 => ?_)
  · skip
    have hI2 := CI_s p0 (show i_2 < 8 by omega)
    have hI2c := hI2.1
    have hrl2 := rl_s (show i_2 < 8 by omega)
    refine lv_astore_n (lv' := [(3, .ref (q (8 + 5 * i_2))), (0, .ref (q 0)), (1, .int (J s)), (2, .int (J to))]) SS.1 SS.2.1 dX11_dual_5 rfl hl (by decide) rfl (fun ls hl => ?_)
    refine lv_aload_n SS.1 SS.2.1 dX11_dual_6 rfl (lv_at hl 1 rfl) ?_
    refine lv_iload_n SS.1 SS.2.1 dX11_dual_7 rfl (lv_at hl 3 rfl) ?_
    refine j_vSh SS (As := [.int (J to)]) (rest := []) (c_X11_shapeAt l D q u  to (show -2147483648 ≤ to ∧ to ≤ 2147483647 from (p2))) mf_X11_shapeAt kw_414 hG hP hP (ci := 11) (q0 := 0) rfl rfl rfl rfl hl.1 ⟨⟨Nat.le_of_ble_eq_true rfl, Nat.le_of_ble_eq_true rfl⟩, Nat.le_of_ble_eq_true rfl, Nat.le_refl _, Nat.le_refl _⟩ rfl dX11_dual_8 (fun i_8 hi_8 hz_8 => ?_) (fun hn_8 => ?_)
    · skip
      refine lv_astore (lv' := [(4, .ref (q (8 + 5 * i_8))), (3, .ref (q (8 + 5 * i_2))), (0, .ref (q 0)), (1, .int (J s)), (2, .int (J to))]) SS.1 SS.2.1 dX11_dual_11 hl (by decide) rfl (fun ls hl => ?_)
      refine lv_aload_n SS.1 SS.2.1 dX11_dual_13 rfl (lv_at hl 1 rfl) ?_
      refine lv_ifnull SS.1 SS.2.1 dX11_dual_14 ?_
      refine lv_aload SS.1 SS.2.1 dX11_dual_17 (lv_at hl 0 rfl) ?_
      refine lv_ifnonnull SS.1 SS.2.1 (tgt := 24) dX11_dual_19 (by decide) ?_
      refine lv_aload_n SS.1 SS.2.1 dX11_dual_24 rfl (lv_at hl 1 rfl) ?_
      refine j_get SS hG hP (8 + 5 * i_2) (v := .ref (q (9 + 5 * i_2))) (C := RX10) (T := TX10) (N := 3) (cw_shape (by omega)) rfl inX10 0 (by decide) (ref := "GridPolygons$Shape") kw_151 rfl rfl dX11_dual_25 ?_
      refine j_vRi SS (As := []) (rest := []) (c_X7_isReflexive2 l D q u i_2 (by omega) (40 : Int)  (show 0 ≤ (40 : Int) ∧ (40 : Int) ≤ 80 from (by omega)) (show RB (40 : Int) u i_2 from (show RB 40 u i_2 from CI_40 p0 (by omega)))) mf_X7_isReflexive kw_818 hG hP hP (ci := 7) (q0 := (9 + 5 * i_2)) rfl (cw_ring (by omega)) rfl rfl hl.1 ⟨⟨Nat.le_of_ble_eq_true rfl, Nat.le_of_ble_eq_true rfl⟩, Nat.le_of_ble_eq_true rfl, Nat.le_refl _, Nat.le_refl _⟩ rfl dX11_dual_28 (fun z_28 h_28 => ?_)
      have h_28 : (z_28 = 1 ∧ cRef u i_2) ∨ (z_28 = 0 ∧ ¬ (cRef u i_2 ∧ cHS u i_2)) := h_28
      refine j_if_ne SS (tgt := 37) (x := z_28) dX11_dual_31 (by decide) (by omega) (fun c_31 => ?_) (fun c_31 => ?_)
      · skip
        refine lv_aload_n SS.1 SS.2.1 dX11_dual_37 rfl (lv_at hl 2 rfl) ?_
        refine j_get SS hG hP 0 (v := .ref (q 2)) (C := RX11) (T := TX11) (N := 8) rfl rfl inX11 1 (by decide) (ref := "GridPolygons") kw_386 rfl rfl dX11_dual_38 ?_
        refine j_vWv SS (As := []) (rest := []) (c_X3_begin l D q u A (cW_D hD)   (show HU_ ((u.2.1 0)) ((u.2.1 1)) from (p0.2.2.1))) mf_X3_begin kw_418 hG hP hP (ci := 3) (q0 := 2) rfl rfl rfl hS (fun _ h => h) rfl hl.1 ⟨⟨Nat.le_of_ble_eq_true rfl, Nat.le_of_ble_eq_true rfl⟩, Nat.le_of_ble_eq_true rfl, Nat.le_refl _, Nat.le_refl _⟩ rfl dX11_dual_41 (fun u41 H locs h_41 hP _ hS => ?_)
        obtain ⟨f_41, g_41, rfl, h_41⟩ := h_41
        have hP : va_P D.1 j_cl (cW D q (sI (sI u 0 f_41) 1 g_41)) H := hP
        have h_41 : f_41 = jf ((u.2.1 0)) 81 161 ∧ g_41 = jf ((u.2.1 1)) (-81) 161 ∧ HU_ f_41 g_41 := h_41
        refine j_iconst SS dX11_dual_44 ?_
        refine lv_istore (lv' := [(5, .int (J 0)), (4, .ref (q (8 + 5 * i_8))), (3, .ref (q (8 + 5 * i_2))), (0, .ref (q 0)), (1, .int (J s)), (2, .int (J to))]) SS.1 SS.2.1 dX11_dual_45 hl (by decide) rfl (fun ls hl => ?_)
        have L_47 : ∀ (nn : Nat) (i : Int) (f1 : Nat → Int) (g1 : Nat → Int) (H : Heap) (locs : List Loc) (hP : va_P D.1 j_cl (cW D q (sI (sI u 0 f1) 1 g1)) H) (hS : va_S A st.heap H locs) (ls : Array Slot) (hl : lv_has ls 6 [(0, .ref (q 0)), (1, .int (J s)), (2, .int (J to)), (3, .ref (q (8 + 5 * i_2))), (4, .ref (q (8 + 5 * i_8))), (5, .int (J i))]) (i47_0 : 0 ≤ i ∧ i ≤ u.1.2.2.1 i_2) (i47_1 : HU_ f1 g1) (i47_2 : HUL (NCi u i_2 i) f1 g1), (u.1.2.2.1 i_2 - i).toNat < nn → W pr l en (headSpec (jw yX11_dual cX11_dual 6 (some .int)) (jr 6 132)).room st mi (([.ref (q 0), .int (J s), .int (J to)] : List Value).toArray) below meth co H locs 0 0 (MQ below (jWi (fun z u' => (CI u' ∧ dlC u u' s to z) ∧ kMut u u' to.toNat z) (fun u' H => va_P D.1 j_cl (cW D q u') H) A) (([.ref (q 0), .int (J s), .int (J to)] : List Value).toArray) st 0 0 A) (F0 mi 47 ls []) := by
          intro nn
          induction nn with
          | zero => intros; omega
          | succ nn ih_47 =>
            intro i f1 g1 H locs hP hS ls hl i47_0 i47_1 i47_2 hm
            refine lv_iload SS.1 SS.2.1 dX11_dual_47 (lv_at hl 5 rfl) ?_
            refine lv_aload_n SS.1 SS.2.1 dX11_dual_49 rfl (lv_at hl 3 rfl) ?_
            refine j_get SS hG hP (8 + 5 * i_2) (v := .ref (q (9 + 5 * i_2))) (C := RX10) (T := TX10) (N := 3) (cw_shape (by omega)) rfl inX10 0 (by decide) (ref := "GridPolygons$Shape") kw_151 rfl rfl dX11_dual_50 ?_
            refine j_getS SS hG hP (9 + 5 * i_2) (v := .int (J (u.1.2.2.1 i_2))) (C := RX7) (T := TX7) (N := 3) (cw_ring (by omega)) rfl inX7 2 (by decide) (ref := "GridPolygons$Ring") kw_135 kw_132 rfl dX11_dual_53 ?_
            refine j_icmp_ge SS (tgt := 90) (x := i) (y := (u.1.2.2.1 i_2)) dX11_dual_56 (by decide) (by omega) (by omega) (fun c_56 => ?_) (fun c_56 => ?_)
            · skip
              refine lv_aload_n SS.1 SS.2.1 dX11_dual_90 rfl (lv_at hl 0 rfl) ?_
              refine j_get SS hG hP 0 (v := .ref (q 2)) (C := RX11) (T := TX11) (N := 8) rfl rfl inX11 1 (by decide) (ref := "GridPolygons") kw_386 rfl rfl dX11_dual_91 ?_
              have hU : HUL (NCi u i_2 (u.1.2.2.1 i_2)) f1 g1 := by rw [show i = u.1.2.2.1 i_2 by omega] at i47_2; exact i47_2
              refine j_vWv SS (As := []) (rest := []) (c_X3_close2 l D q (sI (sI u 0 f1) 1 g1) A (cW_D hD)   (show RB 80 (sI (sI u 0 f1) 1 g1) 8 from (p0.2.1.1)) (show HU_ (f1) (g1) from (i47_1))) mf_X3_close kw_425 hG hP hP (ci := 3) (q0 := 2) rfl rfl rfl hS (fun _ h => h) rfl hl.1 ⟨⟨Nat.le_of_ble_eq_true rfl, Nat.le_of_ble_eq_true rfl⟩, Nat.le_of_ble_eq_true rfl, Nat.le_refl _, Nat.le_refl _⟩ rfl dX11_dual_94 (fun u94 H locs h_94 hP _ hS => ?_)
              obtain ⟨f_94, g_94, n_94, rfl, h_94⟩ := h_94
              have hP : va_P D.1 j_cl (cW D q (sY (sX (sI (sI (sC u 8 n_94) 0 f1) 1 g1) 8 f_94) 8 g_94)) H := hP
              have h_94 : (0 ≤ n_94 ∧ n_94 ≤ 323) ∧ RV 80 f_94 g_94 ∧ ∀ S : Int → Int → Prop, HUL S (f1) (g1) → HS S n_94 f_94 g_94 := h_94
              refine lv_aload_n SS.1 SS.2.1 dX11_dual_97 rfl (lv_at hl 0 rfl) ?_
              refine lv_aload SS.1 SS.2.1 dX11_dual_98 (lv_at hl 4 rfl) ?_
              refine j_vWi SS (As := [.ref (q (8 + 5 * i_8))]) (rest := []) (c_X11_remakeIfFitsS l D q (sY (sX (sI (sI (sC u 8 n_94) 0 f1) 1 g1) 8 f_94) 8 g_94) A (cW_D hD) i_8 (by omega)  (show CI (sY (sX (sI (sI (sC u 8 n_94) 0 f1) 1 g1) 8 f_94) 8 g_94) from (CI_8 (CI_h p0 i47_1) h_94.1 h_94.2.1))) mf_X11_remakeIfFits kw_493 hG hP hP (ci := 11) (q0 := 0) rfl rfl rfl hS (fun _ h => h) rfl hl.1 ⟨⟨Nat.le_of_ble_eq_true rfl, Nat.le_of_ble_eq_true rfl⟩, Nat.le_of_ble_eq_true rfl, Nat.le_refl _, Nat.le_refl _⟩ rfl dX11_dual_100 (fun z_100 u100 H locs h_100 hP _ hS => ?_)
              obtain ⟨n_100, f_100, g_100, hh_100, tt_100, st0_100, rfl, h_100⟩ := h_100
              have hP : va_P D.1 j_cl (cW D q (sY (sY (sX (sX (sV (sT (sI (sI (sH (sC (sC u 8 n_94) i_8 n_100) i_8 hh_100) 0 f1) 1 g1) i_8 tt_100) 0 st0_100) 8 f_94) i_8 f_100) 8 g_94) i_8 g_100)) H := hP
              have h_100 : ((CI (sY (sY (sX (sX (sV (sT (sI (sI (sH (sC (sC u 8 n_94) i_8 n_100) i_8 hh_100) 0 f1) 1 g1) i_8 tt_100) 0 st0_100) 8 f_94) i_8 f_100) 8 g_94) i_8 g_100) ∧ ((z_100 = -3 ∧ ¬ (n_94 ≤ 24 ∧ bd 40 (f_94) (g_94) (n_94)) ∧ cSame (sY (sX (sI (sI (sC u 8 n_94) 0 f1) 1 g1) 8 f_94) 8 g_94) (sY (sY (sX (sX (sV (sT (sI (sI (sH (sC (sC u 8 n_94) i_8 n_100) i_8 hh_100) 0 f1) 1 g1) i_8 tt_100) 0 st0_100) 8 f_94) i_8 f_100) 8 g_94) i_8 g_100)) ∨ (z_100 = n_94 ∧ n_94 ≤ 24 ∧ bd 40 (f_94) (g_94) (n_94) ∧ cNew (sY (sX (sI (sI (sC u 8 n_94) 0 f1) 1 g1) 8 f_94) 8 g_94) (sY (sY (sX (sX (sV (sT (sI (sI (sH (sC (sC u 8 n_94) i_8 n_100) i_8 hh_100) 0 f1) 1 g1) i_8 tt_100) 0 st0_100) 8 f_94) i_8 f_100) 8 g_94) i_8 g_100) i_8 (n_94) (f_94) (g_94)))) ∧ ((z_100 = -3 ∧ hh_100 = (u.1.2.2.2.1 i_8)) ∨ (0 ≤ z_100 ∧ ∀ a : Nat, a < 40 → hh_100 a = 0))) ∧ ((z_100 = -3 ∧ tt_100 = (u.1.2.2.2.2 i_8) ∧ st0_100 = (u.2.2.2 0)) ∨ (0 ≤ z_100 ∧ ((u.2.2.2 0) < 2147483647 → tt_100 = (u.2.2.2 0) + 1 ∧ st0_100 = (u.2.2.2 0) + 1))) := h_100
              obtain ⟨h_100, sz_100⟩ := h_100
              obtain ⟨h_100, hz_100⟩ := h_100
              exact W.iret SS.1 SS.2.1 hr (fun t0 ht hW => ⟨⟨_, (sY (sY (sX (sX (sV (sT (sI (sI (sH (sC (sC u 8 n_94) i_8 n_100) i_8 hh_100) 0 f1) 1 g1) i_8 tt_100) 0 st0_100) 8 f_94) i_8 f_100) 8 g_94) i_8 g_100), rfl, ⟨z_100, rfl, (⟨⟨h_100.1, Or.inr ⟨by omega, by omega, Or.inr ⟨by rw [show s.toNat = i_2 by omega]; rcases h_28 with q | q; exact q.2; omega, by rw [show s.toNat = i_2 by omega, show to.toNat = i_8 by omega]; exact mkC_r (by first | exact cs_refl | exact (fun r hr => ⟨if_neg (by omega), if_neg (by omega), if_neg (by omega)⟩)) (h_94.2.2 _ hU) h_100.2⟩⟩⟩, by rw [show to.toNat = i_8 by omega]; exact ⟨cHr_k (fun _ => rfl) hz_100, sRel_k rfl (fun _ => rfl) sz_100, ⟨⟨(by first | rfl | exact if_neg (by omega) | exact (if_neg (by omega)).trans (if_neg (by omega))), (by first | rfl | exact if_neg (by omega) | exact (if_neg (by omega)).trans (if_neg (by omega))), (by first | rfl | exact if_neg (by omega) | exact (if_neg (by omega)).trans (if_neg (by omega)))⟩, rfl, rfl, rfl⟩, ⟨⟨(by first | rfl | exact if_neg (by omega) | exact (if_neg (by omega)).trans (if_neg (by omega))), (by first | rfl | exact if_neg (by omega) | exact (if_neg (by omega)).trans (if_neg (by omega))), (by first | rfl | exact if_neg (by omega) | exact (if_neg (by omega)).trans (if_neg (by omega)))⟩, ⟨rfl, rfl, rfl, rfl, rfl⟩, ⟨rfl, rfl, rfl, rfl⟩, rfl, rfl, rfl, rfl, rfl⟩⟩⟩)⟩, by show va_P D.1 j_cl (cW D q (sY (sY (sX (sX (sV (sT (sI (sI (sH (sC (sC u 8 n_94) i_8 n_100) i_8 hh_100) 0 f1) 1 g1) i_8 tt_100) 0 st0_100) 8 f_94) i_8 f_100) 8 g_94) i_8 g_100)) t0.heap; rw [ht]; first | exact hP | (simp only [sC_id, sX_id, sY_id, sH_id, sT_id, sV_id]; exact hP)⟩, hS.F ht⟩) hS.2.2 dX11_dual_103 hlk
            · skip
              refine lv_aload_n SS.1 SS.2.1 dX11_dual_59 rfl (lv_at hl 0 rfl) ?_
              refine j_get SS hG hP 0 (v := .ref (q 2)) (C := RX11) (T := TX11) (N := 8) rfl rfl inX11 1 (by decide) (ref := "GridPolygons") kw_386 rfl rfl dX11_dual_60 ?_
              refine lv_aload_n SS.1 SS.2.1 dX11_dual_63 rfl (lv_at hl 3 rfl) ?_
              refine j_get SS hG hP (8 + 5 * i_2) (v := .ref (q (9 + 5 * i_2))) (C := RX10) (T := TX10) (N := 3) (cw_shape (by omega)) rfl inX10 0 (by decide) (ref := "GridPolygons$Shape") kw_151 rfl rfl dX11_dual_64 ?_
              refine lv_iload SS.1 SS.2.1 dX11_dual_67 (lv_at hl 5 rfl) ?_
              refine j_vRi SS (As := [.int (J i)]) (rest := [.ref (q 2)]) (c_X7_normalA2 l D q (sI (sI u 0 f1) 1 g1) i_2 (by omega) (40 : Int) i (show 0 ≤ (40 : Int) ∧ (40 : Int) ≤ 80 from (by omega)) (show RB (40 : Int) (sI (sI u 0 f1) 1 g1) i_2 from (show RB 40 u i_2 from CI_40 p0 (by omega))) (show -1000 ≤ i ∧ i ≤ 1000 from (by omega))) mf_X7_normalA kw_800 hG hP hP (ci := 7) (q0 := (9 + 5 * i_2)) rfl (cw_ring (by omega)) rfl rfl hl.1 ⟨⟨Nat.le_of_ble_eq_true rfl, Nat.le_of_ble_eq_true rfl⟩, Nat.le_of_ble_eq_true rfl, Nat.le_refl _, Nat.le_refl _⟩ rfl dX11_dual_69 (fun z_69 h_69 => ?_)
              have h_69 : z_69 = dNX (sI (sI u 0 f1) 1 g1) i_2 i ∧ -2 * (40 : Int) ≤ z_69 ∧ z_69 ≤ 2 * (40 : Int) := h_69
              refine lv_aload_n SS.1 SS.2.1 dX11_dual_72 rfl (lv_at hl 3 rfl) ?_
              refine j_get SS hG hP (8 + 5 * i_2) (v := .ref (q (9 + 5 * i_2))) (C := RX10) (T := TX10) (N := 3) (cw_shape (by omega)) rfl inX10 0 (by decide) (ref := "GridPolygons$Shape") kw_151 rfl rfl dX11_dual_73 ?_
              refine lv_iload SS.1 SS.2.1 dX11_dual_76 (lv_at hl 5 rfl) ?_
              refine j_vRi SS (As := [.int (J i)]) (rest := [.int (J z_69), .ref (q 2)]) (c_X7_normalB2 l D q (sI (sI u 0 f1) 1 g1) i_2 (by omega) (40 : Int) i (show 0 ≤ (40 : Int) ∧ (40 : Int) ≤ 80 from (by omega)) (show RB (40 : Int) (sI (sI u 0 f1) 1 g1) i_2 from (show RB 40 u i_2 from CI_40 p0 (by omega))) (show -1000 ≤ i ∧ i ≤ 1000 from (by omega))) mf_X7_normalB kw_804 hG hP hP (ci := 7) (q0 := (9 + 5 * i_2)) rfl (cw_ring (by omega)) rfl rfl hl.1 ⟨⟨Nat.le_of_ble_eq_true rfl, Nat.le_of_ble_eq_true rfl⟩, Nat.le_of_ble_eq_true rfl, Nat.le_refl _, Nat.le_refl _⟩ rfl dX11_dual_78 (fun z_78 h_78 => ?_)
              have h_78 : z_78 = dNY (sI (sI u 0 f1) 1 g1) i_2 i ∧ -2 * (40 : Int) ≤ z_78 ∧ z_78 ≤ 2 * (40 : Int) := h_78
              refine j_vWv SS (As := [.int (J z_69), .int (J z_78)]) (rest := []) (c_X3_take l D q (sI (sI u 0 f1) 1 g1) A (cW_D hD)  z_69 z_78 (show HU_ (f1) (g1) from (i47_1)) (show -1000 ≤ z_69 ∧ z_69 ≤ 1000 from (by omega)) (show -2147483648 ≤ z_78 ∧ z_78 ≤ 2147483647 from (by omega))) mf_X3_take kw_492 hG hP hP (ci := 3) (q0 := 2) rfl rfl rfl hS (fun _ h => h) rfl hl.1 ⟨⟨Nat.le_of_ble_eq_true rfl, Nat.le_of_ble_eq_true rfl⟩, Nat.le_of_ble_eq_true rfl, Nat.le_refl _, Nat.le_refl _⟩ rfl dX11_dual_81 (fun u81 H locs h_81 hP _ hS => ?_)
              obtain ⟨f_81, g_81, rfl, h_81⟩ := h_81
              have hP : va_P D.1 j_cl (cW D q (sI (sI u 0 f_81) 1 g_81)) H := hP
              have h_81 : ((-80 ≤ z_69 ∧ z_69 ≤ 80 ∧ -80 ≤ z_78 ∧ z_78 ≤ 80) ∧ f_81 = upI (f1) (z_69 + 80).toNat (min (f1 (z_69 + 80).toNat) z_78) ∧ g_81 = upI (g1) (z_69 + 80).toNat (max (g1 (z_69 + 80).toNat) z_78) ∨ ¬ (-80 ≤ z_69 ∧ z_69 ≤ 80 ∧ -80 ≤ z_78 ∧ z_78 ≤ 80) ∧ f_81 = f1 ∧ g_81 = g1) ∧ HU_ f_81 g_81 := h_81
              refine lv_iinc (v := J (i + 1)) (lv' := [(5, .int (J (i + 1))), (0, .ref (q 0)), (1, .int (J s)), (2, .int (J to)), (3, .ref (q (8 + 5 * i_2))), (4, .ref (q (8 + 5 * i_8)))]) SS.1 SS.2.1 dX11_dual_84 hl (k := 5) rfl (J_add _ _) (by decide) rfl (fun ls hl => ?_)
              refine lv_goto (tgt := 47) SS.1 SS.2.1 dX11_dual_87 (by decide) ?_
              exact ih_47 (i + 1) f_81 g_81 _ _ hP hS ls (lv_sub hl [1, 2, 3, 4, 5, 0] rfl) (by omega) (h_81.2) (by rcases h_81.1 with ⟨w1, w2, w3⟩ | ⟨w1, _⟩; (rw [w2, w3]; exact HUL_c (HUL_t i47_2 (by omega) (by omega)) (fun x y => nc_s i47_0.1 h_69.1 h_78.1 x y)); omega) (by omega)
        exact L_47 ((u.1.2.2.1 i_2 - (0 : Int)).toNat + 1) 0 f_41 g_41 _ _ hP hS ls (lv_sub hl [3, 4, 5, 2, 1, 0] rfl) (by omega) (h_41.2.2) (by rw [h_41.1, h_41.2.1]; exact HUL_c HUL_0 (fun x y => ⟨fun ⟨a, q1, _⟩ => by omega, False.elim⟩)) (Nat.lt_succ_self _)
      · skip
        refine j_bipush SS dX11_dual_34 (by decide +kernel) ?_
        exact W.iret SS.1 SS.2.1 hr (fun t0 ht hW => ⟨⟨_, u, rfl, ⟨(-2), rfl, (⟨⟨p0, Or.inr ⟨by omega, by omega, Or.inl ⟨by rw [show s.toNat = i_2 by omega]; rcases h_28 with q | q; omega; exact q.2, rfl, cs_refl⟩⟩⟩, by first | exact kMut_n (by decide) | exact ⟨cHr_n (fun _ _ => rfl) (by decide), sRel_n ⟨rfl, fun _ _ => rfl⟩ (by decide), ⟨⟨(by first | rfl | exact if_neg (by omega) | exact (if_neg (by omega)).trans (if_neg (by omega))), (by first | rfl | exact if_neg (by omega) | exact (if_neg (by omega)).trans (if_neg (by omega))), (by first | rfl | exact if_neg (by omega) | exact (if_neg (by omega)).trans (if_neg (by omega)))⟩, rfl, rfl, rfl⟩, ⟨⟨(by first | rfl | exact if_neg (by omega) | exact (if_neg (by omega)).trans (if_neg (by omega))), (by first | rfl | exact if_neg (by omega) | exact (if_neg (by omega)).trans (if_neg (by omega))), (by first | rfl | exact if_neg (by omega) | exact (if_neg (by omega)).trans (if_neg (by omega)))⟩, ⟨rfl, rfl, rfl, rfl, rfl⟩, ⟨rfl, rfl, rfl, rfl⟩, rfl, rfl, rfl, rfl, rfl⟩⟩⟩)⟩, by show va_P D.1 j_cl (cW D q u) t0.heap; rw [ht]; first | exact hP | (simp only [sC_id, sX_id, sY_id, sH_id, sT_id, sV_id]; exact hP)⟩, hS.F ht⟩) hS.2.2 dX11_dual_36 hlk
    · skip
      refine lv_astoreN (lv' := [(4, .null), (3, .ref (q (8 + 5 * i_2))), (0, .ref (q 0)), (1, .int (J s)), (2, .int (J to))]) SS.1 SS.2.1 dX11_dual_11 hl (by decide) rfl (fun ls hl => ?_)
      refine lv_aload_n SS.1 SS.2.1 dX11_dual_13 rfl (lv_at hl 1 rfl) ?_
      refine lv_ifnull SS.1 SS.2.1 dX11_dual_14 ?_
      refine lv_aloadN SS.1 SS.2.1 dX11_dual_17 (lv_at hl 0 rfl) ?_
      refine lv_ifnonnullN SS.1 SS.2.1 dX11_dual_19 ?_
      refine j_iconst SS dX11_dual_22 ?_
      exact W.iret SS.1 SS.2.1 hr (fun t0 ht hW => ⟨⟨_, u, rfl, ⟨(-1), rfl, (⟨⟨p0, Or.inl ⟨by omega, rfl, cs_refl⟩⟩, by first | exact kMut_n (by decide) | exact ⟨cHr_n (fun _ _ => rfl) (by decide), sRel_n ⟨rfl, fun _ _ => rfl⟩ (by decide), ⟨⟨(by first | rfl | exact if_neg (by omega) | exact (if_neg (by omega)).trans (if_neg (by omega))), (by first | rfl | exact if_neg (by omega) | exact (if_neg (by omega)).trans (if_neg (by omega))), (by first | rfl | exact if_neg (by omega) | exact (if_neg (by omega)).trans (if_neg (by omega)))⟩, rfl, rfl, rfl⟩, ⟨⟨(by first | rfl | exact if_neg (by omega) | exact (if_neg (by omega)).trans (if_neg (by omega))), (by first | rfl | exact if_neg (by omega) | exact (if_neg (by omega)).trans (if_neg (by omega))), (by first | rfl | exact if_neg (by omega) | exact (if_neg (by omega)).trans (if_neg (by omega)))⟩, ⟨rfl, rfl, rfl, rfl, rfl⟩, ⟨rfl, rfl, rfl, rfl⟩, rfl, rfl, rfl, rfl, rfl⟩⟩⟩)⟩, by show va_P D.1 j_cl (cW D q u) t0.heap; rw [ht]; first | exact hP | (simp only [sC_id, sX_id, sY_id, sH_id, sT_id, sV_id]; exact hP)⟩, hS.F ht⟩) hS.2.2 dX11_dual_23 hlk
  · skip
    refine lv_astore_nN (lv' := [(3, .null), (0, .ref (q 0)), (1, .int (J s)), (2, .int (J to))]) SS.1 SS.2.1 dX11_dual_5 rfl hl (by decide) rfl (fun ls hl => ?_)
    refine lv_aload_n SS.1 SS.2.1 dX11_dual_6 rfl (lv_at hl 1 rfl) ?_
    refine lv_iload_n SS.1 SS.2.1 dX11_dual_7 rfl (lv_at hl 3 rfl) ?_
    refine j_vSh SS (As := [.int (J to)]) (rest := []) (c_X11_shapeAt l D q u  to (show -2147483648 ≤ to ∧ to ≤ 2147483647 from (p2))) mf_X11_shapeAt kw_414 hG hP hP (ci := 11) (q0 := 0) rfl rfl rfl rfl hl.1 ⟨⟨Nat.le_of_ble_eq_true rfl, Nat.le_of_ble_eq_true rfl⟩, Nat.le_of_ble_eq_true rfl, Nat.le_refl _, Nat.le_refl _⟩ rfl dX11_dual_8 (fun i_8 hi_8 hz_8 => ?_) (fun hn_8 => ?_)
    · skip
      refine lv_astore (lv' := [(4, .ref (q (8 + 5 * i_8))), (3, .null), (0, .ref (q 0)), (1, .int (J s)), (2, .int (J to))]) SS.1 SS.2.1 dX11_dual_11 hl (by decide) rfl (fun ls hl => ?_)
      refine lv_aload_nN SS.1 SS.2.1 dX11_dual_13 rfl (lv_at hl 1 rfl) ?_
      refine lv_ifnullN SS.1 SS.2.1 (tgt := 22) dX11_dual_14 (by decide) ?_
      refine j_iconst SS dX11_dual_22 ?_
      exact W.iret SS.1 SS.2.1 hr (fun t0 ht hW => ⟨⟨_, u, rfl, ⟨(-1), rfl, (⟨⟨p0, Or.inl ⟨by omega, rfl, cs_refl⟩⟩, by first | exact kMut_n (by decide) | exact ⟨cHr_n (fun _ _ => rfl) (by decide), sRel_n ⟨rfl, fun _ _ => rfl⟩ (by decide), ⟨⟨(by first | rfl | exact if_neg (by omega) | exact (if_neg (by omega)).trans (if_neg (by omega))), (by first | rfl | exact if_neg (by omega) | exact (if_neg (by omega)).trans (if_neg (by omega))), (by first | rfl | exact if_neg (by omega) | exact (if_neg (by omega)).trans (if_neg (by omega)))⟩, rfl, rfl, rfl⟩, ⟨⟨(by first | rfl | exact if_neg (by omega) | exact (if_neg (by omega)).trans (if_neg (by omega))), (by first | rfl | exact if_neg (by omega) | exact (if_neg (by omega)).trans (if_neg (by omega))), (by first | rfl | exact if_neg (by omega) | exact (if_neg (by omega)).trans (if_neg (by omega)))⟩, ⟨rfl, rfl, rfl, rfl, rfl⟩, ⟨rfl, rfl, rfl, rfl⟩, rfl, rfl, rfl, rfl, rfl⟩⟩⟩)⟩, by show va_P D.1 j_cl (cW D q u) t0.heap; rw [ht]; first | exact hP | (simp only [sC_id, sX_id, sY_id, sH_id, sT_id, sV_id]; exact hP)⟩, hS.F ht⟩) hS.2.2 dX11_dual_23 hlk
    · skip
      refine lv_astoreN (lv' := [(4, .null), (3, .null), (0, .ref (q 0)), (1, .int (J s)), (2, .int (J to))]) SS.1 SS.2.1 dX11_dual_11 hl (by decide) rfl (fun ls hl => ?_)
      refine lv_aload_nN SS.1 SS.2.1 dX11_dual_13 rfl (lv_at hl 1 rfl) ?_
      refine lv_ifnullN SS.1 SS.2.1 (tgt := 22) dX11_dual_14 (by decide) ?_
      refine j_iconst SS dX11_dual_22 ?_
      exact W.iret SS.1 SS.2.1 hr (fun t0 ht hW => ⟨⟨_, u, rfl, ⟨(-1), rfl, (⟨⟨p0, Or.inl ⟨by omega, rfl, cs_refl⟩⟩, by first | exact kMut_n (by decide) | exact ⟨cHr_n (fun _ _ => rfl) (by decide), sRel_n ⟨rfl, fun _ _ => rfl⟩ (by decide), ⟨⟨(by first | rfl | exact if_neg (by omega) | exact (if_neg (by omega)).trans (if_neg (by omega))), (by first | rfl | exact if_neg (by omega) | exact (if_neg (by omega)).trans (if_neg (by omega))), (by first | rfl | exact if_neg (by omega) | exact (if_neg (by omega)).trans (if_neg (by omega)))⟩, rfl, rfl, rfl⟩, ⟨⟨(by first | rfl | exact if_neg (by omega) | exact (if_neg (by omega)).trans (if_neg (by omega))), (by first | rfl | exact if_neg (by omega) | exact (if_neg (by omega)).trans (if_neg (by omega))), (by first | rfl | exact if_neg (by omega) | exact (if_neg (by omega)).trans (if_neg (by omega)))⟩, ⟨rfl, rfl, rfl, rfl, rfl⟩, ⟨rfl, rfl, rfl, rfl⟩, rfl, rfl, rfl, rfl, rfl⟩⟩⟩)⟩, by show va_P D.1 j_cl (cW D q u) t0.heap; rw [ht]; first | exact hP | (simp only [sC_id, sX_id, sY_id, sH_id, sT_id, sV_id]; exact hP)⟩, hS.F ht⟩) hS.2.2 dX11_dual_23 hlk

