
/-! ===== pieces, piece: the class' answers ===== -/
def lfC (u : CS) (s : Int) : Prop := 3 ≤ u.1.2.2.1 s.toNat ∧ rE u s.toNat + rI u s.toNat ≤ 40
def psR (u : CS) (w z : Int) : Prop := (w = 0 ∧ z = u.2.2.2 25) ∨ (w = 1 ∧ z = ((pc9 (nx9 (or9 (u.2.2.1 6) (u.2.2.2 25).toNat)) : Nat) : Int)) ∨ (w = 2 ∧ ∀ F : Nat → Nat → Bool, (∀ q : Nat, (q : Int) < u.2.2.2 25 → u.2.2.1 6 q = PR9 (F q) (u.1.2.2.1 10).toNat) → cu9 (u.1.1 10) (u.1.2.1 10) (u.1.2.2.1 10).toNat F (u.2.2.2 25).toNat z)
def pcR (u : CS) (p i z : Int) : Prop := (u.2.2.2 25 ≤ p ∧ z = -1) ∨ (p < u.2.2.2 25 ∧ ((i = -1 ∧ z = ((pc9 (nx9 (u.2.2.1 6 p.toNat)) : Nat) : Int)) ∨ (0 ≤ i ∧ ((pc9 (nx9 (u.2.2.1 6 p.toNat)) : Nat) : Int) ≤ i ∧ z = -1) ∨ (0 ≤ i ∧ MB9 (u.2.2.1 6 p.toNat) (u.1.2.2.1 10) i z)))
def psC (u u' : CS) (s w z : Int) : Prop := (¬ ((0 ≤ s ∧ s ≤ 7) ∧ 0 ≤ w ∧ w ≤ 2) ∧ z = -1 ∧ kCo u u') ∨ (((0 ≤ s ∧ s ≤ 7) ∧ 0 ≤ w ∧ w ≤ 2) ∧ ((¬ lfC u s ∧ z = -2 ∧ kCo u u') ∨ (lfC u s ∧ bR9 u u' s.toNat ∧ (-1 ≤ z ∧ z ≤ 80) ∧ psR u' w z)))
def pcC (u u' : CS) (s p i z : Int) : Prop := (¬ ((0 ≤ s ∧ s ≤ 7) ∧ 0 ≤ p ∧ -1 ≤ i) ∧ z = -1 ∧ kCo u u') ∨ (((0 ≤ s ∧ s ≤ 7) ∧ 0 ≤ p ∧ -1 ≤ i) ∧ ((¬ lfC u s ∧ z = -2 ∧ kCo u u') ∨ (lfC u s ∧ bR9 u u' s.toNat ∧ (-1 ≤ z ∧ z ≤ 80) ∧ pcR u' p i z)))
theorem FI_ps {u u' : CS} {k k' s w z : Int} (h : FI u k) (hk : k ≤ k') (hc : cSame u u') (hh : hSam u u') (hs : sSam u u') (hp : psC u u' s w z) : FI u' k' := by
  rcases hp with ⟨_, _, ko⟩ | ⟨a, ⟨_, _, ko⟩ | ⟨l, b, _⟩⟩
  · exact FI_s h hk hc hh hs ko
  · exact FI_s h hk hc hh hs ko
  · exact FI_b (by omega) h hk hc hh hs b
theorem FI_pc {u u' : CS} {k k' s p i z : Int} (h : FI u k) (hk : k ≤ k') (hc : cSame u u') (hh : hSam u u') (hs : sSam u u') (hp : pcC u u' s p i z) : FI u' k' := by
  rcases hp with ⟨_, _, ko⟩ | ⟨a, ⟨_, _, ko⟩ | ⟨l, b, _⟩⟩
  · exact FI_s h hk hc hh hs ko
  · exact FI_s h hk hc hh hs ko
  · exact FI_b (by omega) h hk hc hh hs b
/-- both hold the same pieces -/
theorem EQ_LS {u u' : CS} {v : MS} {k s n m : Int} {X Y : Nat → Int} {F : Nat → Nat → Bool} (hC : CI u) (h : EQS u v) (hh : EQH u v) (hf : FI u k) (hs : 0 ≤ s ∧ s ≤ 7) (hl : lfC u s) (hb : bR9 u u' s.toNat) (hm : LS9 (PBx v s) (h9 (v.1 3) s) n X Y m F) : (n ≤ 40 ∧ n = u'.1.2.2.1 10 ∧ m = u'.2.2.2 25 ∧ 0 ≤ m) ∧ (∀ q : Nat, (q : Int) < m → u'.2.2.1 6 q = PR9 (F q) n.toNat) ∧ ∀ a : Nat, (a : Int) < n → X a = u'.1.1 10 a ∧ Y a = u'.1.2.1 10 a := by
  have hP := EQS_pb hC h hs
  have hF : FT9 u s.toNat 40 := ⟨n, X, Y, OL_c hm.2.1 hP, hm.1.2⟩
  have L := bR_LC (by omega) hl.1 hf hb hF
  obtain ⟨F', F1, F2⟩ := LC_LS L
  obtain ⟨e1, e2, e3, e4⟩ := LS_u hP (fun a ha => by
    have q := hh s.toNat (by omega) a ha
    show v.1 3 (40 * s + (a : Int)).toNat = u.1.2.2.2.1 s.toNat a
    rw [q, show (40 * s + (a : Int)).toNat = 40 * s.toNat + a by omega]) hm F1
  have m0 := hm.2.2.1
  have n0 := hm.1
  refine ⟨⟨by omega, e1, e2, m0⟩, fun q hq => ?_, e3⟩
  rw [F2 q (by omega), ← e1]
  exact PR_c (fun p hp => (e4 q hq p (by omega)).symm)
theorem lf_e {u : CS} {v : MS} {s : Int} (hC : CI u) (h : EQS u v) (hs : 0 ≤ s ∧ s ≤ 7) : lfC u s ↔ lfM v s := by
  have e1 := (EQS_x hC h hs).1
  obtain ⟨_, e2, e3⟩ := EQS_a hC h hs
  unfold lfC lfM
  rw [e1, e2, e3]
  omega
theorem EQ_pc {u u' : CS} {v : MS} {k s p i z z' : Int} (hC : CI u) (h : EQS u v) (hh : EQH u v) (hf : FI u k) (hc : pcC u u' s p i z) (hm : pcM v s p i z') : z = z' ∧ wRg z := by
  rcases hc with ⟨a1, a2, _⟩ | ⟨a1, a2⟩ <;> rcases hm with ⟨b1, b2⟩ | ⟨b1, b2⟩
  · exact ⟨by omega, by unfold wRg; omega⟩
  · exact absurd b1 a1
  · exact absurd a1 b1
  · have le := lf_e hC h a1.1
    rcases a2 with ⟨c1, c2, _⟩ | ⟨c1, c2, c3, c4⟩ <;> rcases b2 with ⟨d1, d2⟩ | ⟨d1, n, X, Y, m, F, d2, d3⟩
    · exact ⟨by omega, by unfold wRg; omega⟩
    · exact absurd (le.mpr d1) c1
    · exact absurd (le.mp c1) d1
    · obtain ⟨⟨n40, e1, e2, m0⟩, e3, e4⟩ := EQ_LS hC h hh hf a1.1 c1 c2 d2
      refine ⟨?_, by unfold wRg; omega⟩
      unfold pcR at c4
      rw [← e1, ← e2] at c4
      rcases c4 with ⟨f1, f2⟩ | ⟨f1, f2⟩ <;> rcases d3 with ⟨g1, g2⟩ | ⟨g1, g2⟩
      · omega
      · omega
      · omega
      · have ep := e3 p.toNat (by omega)
        have cp := pc_PR (f := F p.toNat) n.toNat (by omega)
        rw [← ep] at cp
        rcases f2 with ⟨k1, k2⟩ | ⟨k1, k2, k3⟩ | ⟨k1, k2⟩ <;> rcases g2 with ⟨l1, l2⟩ | ⟨l1, l2⟩
        · omega
        · omega
        · omega
        · rw [mem9_no n.toNat (show ct9 (F p.toNat) n.toNat ≤ i by omega)] at l2; omega
        · omega
        · rw [at_PR (by omega) ep k2]; exact l2.symm


set_option maxHeartbeats 4000000 in
set_option maxRecDepth 100000 in
theorem c_X11_pieces3 (l : Launch) (D : JD) (q : Nat → Nat) (u : CS) (A : Nat → Prop) (hD : va_D A (cW D q u)) (s : Int) (what : Int) (p0 : CI u) (p1 : -2147483648 ≤ s ∧ s ≤ 2147483647) (p2 : -2147483648 ≤ what ∧ what ≤ 2147483647) : Met l yX11_pieces (jw yX11_pieces cX11_pieces 4 (some .int)) (jr 7 149) (jP [.ref (q 0), .int (J s), .int (J what)] D (fun H => va_P D.1 j_cl (cW D q u) H)) (jWi (fun z u' => CI u' ∧ cSame u u' ∧ hSam u u' ∧ sSam u u' ∧ kCu u u' ∧ psC u u' s what z) (fun u' H => va_P D.1 j_cl (cW D q u') H) A) 0 0 A := by
  refine Met.ofW (cc := cX11_pieces) (maxL := 4) (ret := (some .int)) (by decide) rfl ?_
  intro pr en st mi args below meth co s₁ B hml hv
  obtain ⟨rfl, hG, hP⟩ := hv
  have hr := B.returns
  have hlk := B.notSynchronized
  have SS : jS pr mi co cX11_pieces 4 st _ RX11 := ⟨B.exec, B.bytes, hml, findClass_of_methodNamed B.named, fun w hw => atoms_spec (ws := (jw yX11_pieces cX11_pieces 4 (some .int))) B.pre w (List.mem_cons_of_mem _ hw)⟩
  have hl := lv_entry ([.ref (q 0), .int (J s), .int (J what)]) (n := 4) (Nat.le_of_ble_eq_true rfl)
  rw [lg_entry_eq]
  generalize (lg_sl ([.ref (q 0), .int (J s), .int (J what)]) ++ List.replicate (4 - (lg_sl ([.ref (q 0), .int (J s), .int (J what)])).length) Slot.unset).toArray = ls at hl ⊢
  have hl : lv_has ls 4 [(0, .ref (q 0)), (1, .int (J s)), (2, .int (J what))] := hl
  have hS : va_S A st.heap st.heap [] := va_S.rf
  refine lv_aload_n SS.1 SS.2.1 dX11_pieces_0 rfl (lv_at hl 0 rfl) ?_
  refine lv_iload_n SS.1 SS.2.1 dX11_pieces_1 rfl (lv_at hl 1 rfl) ?_
  refine j_vSh SS (As := [.int (J s)]) (rest := []) (c_X11_shapeAt l D q u  s (show -2147483648 ≤ s ∧ s ≤ 2147483647 from (p1))) mf_X11_shapeAt kw_414 hG hP hP (ci := 11) (q0 := 0) rfl rfl rfl rfl hl.1 ⟨⟨Nat.le_of_ble_eq_true rfl, Nat.le_of_ble_eq_true rfl⟩, Nat.le_of_ble_eq_true rfl, Nat.le_refl _, Nat.le_refl _⟩ rfl dX11_pieces_2 (fun i_2 hi_2 hz_2 => ?_) (fun hn_2 => ?_)
  · skip
    have hI2 := CI_s p0 (show i_2 < 8 by omega)
    have hI2c := hI2.1
    have hrl2 := rl_s (show i_2 < 8 by omega)
    refine lv_astore_n (lv' := [(3, .ref (q (8 + 5 * i_2))), (0, .ref (q 0)), (1, .int (J s)), (2, .int (J what))]) SS.1 SS.2.1 dX11_pieces_5 rfl hl (by decide) rfl (fun ls hl => ?_)
    refine lv_aload_n SS.1 SS.2.1 dX11_pieces_6 rfl (lv_at hl 0 rfl) ?_
    refine lv_ifnull SS.1 SS.2.1 dX11_pieces_7 ?_
    refine lv_iload_n SS.1 SS.2.1 dX11_pieces_10 rfl (lv_at hl 3 rfl) ?_
    refine j_if_lt SS (tgt := 19) (x := what) dX11_pieces_11 (by decide) (by omega) (fun c_11 => ?_) (fun c_11 => ?_)
    · skip
      refine j_iconst SS dX11_pieces_19 ?_
      exact W.iret SS.1 SS.2.1 hr (fun t0 ht hW => ⟨⟨_, u, rfl, ⟨(-1), rfl, (⟨p0, (by first | exact cs_refl | exact (fun r hr => ⟨if_neg (by omega), if_neg (by omega), if_neg (by omega)⟩)), (by first | exact hs_refl | exact (fun _ _ => rfl)), (by first | exact ss_refl | exact ⟨rfl, fun _ _ => rfl⟩), ⟨⟨(by first | rfl | exact if_neg (by omega) | exact (if_neg (by omega)).trans (if_neg (by omega))), (by first | rfl | exact if_neg (by omega) | exact (if_neg (by omega)).trans (if_neg (by omega))), (by first | rfl | exact if_neg (by omega) | exact (if_neg (by omega)).trans (if_neg (by omega)))⟩, ⟨rfl, rfl, rfl, rfl, rfl⟩, ⟨rfl, rfl, rfl, rfl⟩, rfl, rfl, rfl, rfl, rfl⟩, Or.inl ⟨by omega, rfl, kCo_r⟩⟩)⟩, by show va_P D.1 j_cl (cW D q u) t0.heap; rw [ht]; first | exact hP | (simp only [sC_id, sX_id, sY_id, sH_id, sT_id, sV_id]; exact hP)⟩, hS.F ht⟩) hS.2.2 dX11_pieces_20 hlk
    · skip
      refine lv_iload_n SS.1 SS.2.1 dX11_pieces_14 rfl (lv_at hl 3 rfl) ?_
      refine j_iconst SS dX11_pieces_15 ?_
      refine j_icmp_le SS (tgt := 21) (x := what) (y := 2) dX11_pieces_16 (by decide) (by omega) (by decide) (fun c_16 => ?_) (fun c_16 => ?_)
      · skip
        refine lv_aload_n SS.1 SS.2.1 dX11_pieces_21 rfl (lv_at hl 0 rfl) ?_
        refine j_get SS hG hP (8 + 5 * i_2) (v := .ref (q (9 + 5 * i_2))) (C := RX10) (T := TX10) (N := 3) (cw_shape (by omega)) rfl inX10 0 (by decide) (ref := "GridPolygons$Shape") kw_151 rfl rfl dX11_pieces_22 ?_
        refine j_bipush SS dX11_pieces_25 (by decide +kernel) ?_
        refine j_sRi SS (As := [.ref (q (9 + 5 * i_2)), .int (J 40)]) (rest := []) (c_X11_hasAtMost3 l D q u i_2 (by omega) 40 (show RB 40 u i_2 from (CI_40 p0 (by omega))) (show -2147483648 ≤ (40 : Int) ∧ (40 : Int) ≤ 2147483647 from (by omega))) mf_X11_hasAtMost kw_859 hG hP rfl hl.1 ⟨⟨Nat.le_of_ble_eq_true rfl, Nat.le_of_ble_eq_true rfl⟩, Nat.le_of_ble_eq_true rfl, Nat.le_refl _, Nat.le_refl _⟩ rfl dX11_pieces_27 (fun z_27 h_27 => ?_)
        have h_27 : (z_27 = 1 ∧ 3 ≤ (u.1.2.2.1 i_2) ∧ rE u i_2 + rI u i_2 ≤ (40 : Int)) ∨ (z_27 = 0 ∧ ¬ (3 ≤ (u.1.2.2.1 i_2) ∧ rE u i_2 + rI u i_2 ≤ (40 : Int))) := h_27
        refine j_if_ne SS (tgt := 36) (x := z_27) dX11_pieces_30 (by decide) (by omega) (fun c_30 => ?_) (fun c_30 => ?_)
        · skip
          refine lv_aload_n SS.1 SS.2.1 dX11_pieces_36 rfl (lv_at hl 1 rfl) ?_
          refine j_get SS hG hP 0 (v := .ref (q 7)) (C := RX11) (T := TX11) (N := 8) rfl rfl inX11 6 (by decide) (ref := "GridPolygons") kw_391 rfl rfl dX11_pieces_37 ?_
          refine lv_aload_n SS.1 SS.2.1 dX11_pieces_40 rfl (lv_at hl 0 rfl) ?_
          refine j_vWv SS (As := [.ref (q (8 + 5 * i_2))]) (rest := []) (c_X1_build3 l D q u A (cW_D hD) i_2 (by omega)  (show RB 40 u i_2 from (CI_40 p0 (by omega))) (show RB 40 u 10 from (p0.2.1.2.2)) (show HB ((u.1.2.2.2.1 i_2)) from ((p0.1 i_2 (by omega)).2.1)) (show 0 ≤ (u.2.2.2 25) ∧ (u.2.2.2 25) ≤ 80 from (p0.2.2.2.2.2.2.2.1)) (show -2147483648 ≤ (u.2.2.2 26) ∧ (u.2.2.2 26) ≤ 2147483647 from (p0.2.2.2.2.2.2.2.2)) (show -2147483648 ≤ (u.1.2.2.2.2 i_2) ∧ (u.1.2.2.2.2 i_2) ≤ 2147483647 from ((p0.1 i_2 (by omega)).2.2)) (show 1 ≤ (u.1.2.2.1 i_2) from (by omega))) mf_X1_build kw_987 hG hP hP (ci := 1) (q0 := 7) rfl rfl rfl hS (fun _ h => h) rfl hl.1 ⟨⟨Nat.le_of_ble_eq_true rfl, Nat.le_of_ble_eq_true rfl⟩, Nat.le_of_ble_eq_true rfl, Nat.le_refl _, Nat.le_refl _⟩ rfl dX11_pieces_41 (fun u41 H locs h_41 hP _ hS => ?_)
          obtain ⟨n_41, f_41, g_41, se_41, v25_41, v26_41, rfl, h_41⟩ := h_41
          have hP : va_P D.1 j_cl (cW D q (sY (sX (sV (sV (sL (sC u 10 n_41) 6 se_41) 25 v25_41) 26 v26_41) 10 f_41) 10 g_41)) H := hP
          have h_41 : (((0 ≤ n_41 ∧ n_41 ≤ 40) ∧ RV 40 f_41 g_41) ∧ (0 ≤ v25_41 ∧ v25_41 ≤ 80) ∧ -2147483648 ≤ v26_41 ∧ v26_41 ≤ 2147483647) ∧ (((u.2.2.2 26) = (u.1.2.2.2.2 i_2) ∧ n_41 = (u.1.2.2.1 10) ∧ f_41 = (u.1.1 10) ∧ g_41 = (u.1.2.1 10) ∧ se_41 = (u.2.2.1 6) ∧ v25_41 = (u.2.2.2 25) ∧ v26_41 = (u.2.2.2 26)) ∨ (v26_41 = (u.1.2.2.2.2 i_2) ∧ (FT9 u i_2 40 → LC9 (inC u i_2) ((u.1.2.2.2.1 i_2)) n_41 f_41 g_41 v25_41 se_41))) := h_41
          have hCI : CI (sY (sX (sV (sV (sL (sC u 10 n_41) 6 se_41) 25 v25_41) 26 v26_41) 10 f_41) 10 g_41) := CI_co p0 h_41.1
          have hR10 := hCI.2.1.2.2
          have hbR : bR9 u (sY (sX (sV (sV (sL (sC u 10 n_41) 6 se_41) 25 v25_41) 26 v26_41) 10 f_41) 10 g_41) i_2 := by rcases h_41.2 with ⟨q0, q1, q2, q3, q4, q5, q6⟩ | ⟨q0, q1⟩; exact Or.inl ⟨q0, ⟨q1, q2, q3⟩, q4, q5, q6⟩; exact Or.inr ⟨q0, q1⟩
          refine lv_iload_n SS.1 SS.2.1 dX11_pieces_44 rfl (lv_at hl 3 rfl) ?_
          refine j_if_ne SS (tgt := 56) (x := what) dX11_pieces_45 (by decide) (by omega) (fun c_45 => ?_) (fun c_45 => ?_)
          · skip
            refine lv_iload_n SS.1 SS.2.1 dX11_pieces_56 rfl (lv_at hl 3 rfl) ?_
            refine j_iconst SS dX11_pieces_57 ?_
            refine j_icmp_ne SS (tgt := 71) (x := what) (y := 1) dX11_pieces_58 (by decide) (by omega) (by decide) (fun c_58 => ?_) (fun c_58 => ?_)
            · skip
              refine lv_aload_n SS.1 SS.2.1 dX11_pieces_71 rfl (lv_at hl 1 rfl) ?_
              refine j_get SS hG hP 0 (v := .ref (q 7)) (C := RX11) (T := TX11) (N := 8) rfl rfl inX11 6 (by decide) (ref := "GridPolygons") kw_391 rfl rfl dX11_pieces_72 ?_
              refine j_vRi SS (As := []) (rest := []) (c_X1_unitTriangles3 l D q (sY (sX (sV (sV (sL (sC u 10 n_41) 6 se_41) 25 v25_41) 26 v26_41) 10 f_41) 10 g_41)   (show RB 40 (sY (sX (sV (sV (sL (sC u 10 n_41) 6 se_41) 25 v25_41) 26 v26_41) 10 f_41) 10 g_41) 10 from (hR10)) (show 0 ≤ v25_41 ∧ v25_41 ≤ 80 from (by omega))) mf_X1_unitTriangles kw_1032 hG hP hP (ci := 1) (q0 := 7) rfl rfl rfl rfl hl.1 ⟨⟨Nat.le_of_ble_eq_true rfl, Nat.le_of_ble_eq_true rfl⟩, Nat.le_of_ble_eq_true rfl, Nat.le_refl _, Nat.le_refl _⟩ rfl dX11_pieces_75 (fun z_75 h_75 => ?_)
              have h_75 : (0 ≤ z_75 ∧ z_75 ≤ 80) ∧ (∀ F : Nat → Nat → Bool, (∀ q : Nat, (q : Int) < v25_41 → se_41 q = PR9 (F q) (n_41).toNat) → cu9 (f_41) (g_41) (n_41).toNat F (v25_41).toNat z_75) := h_75
              exact W.iret SS.1 SS.2.1 hr (fun t0 ht hW => ⟨⟨_, (sY (sX (sV (sV (sL (sC u 10 n_41) 6 se_41) 25 v25_41) 26 v26_41) 10 f_41) 10 g_41), rfl, ⟨z_75, rfl, (by first | exact ⟨hCI, (by first | exact cs_refl | exact (fun r hr => ⟨if_neg (by omega), if_neg (by omega), if_neg (by omega)⟩)), (by first | exact hs_refl | exact (fun _ _ => rfl)), (by first | exact ss_refl | exact ⟨rfl, fun _ _ => rfl⟩), ⟨⟨(by first | rfl | exact if_neg (by omega) | exact (if_neg (by omega)).trans (if_neg (by omega))), (by first | rfl | exact if_neg (by omega) | exact (if_neg (by omega)).trans (if_neg (by omega))), (by first | rfl | exact if_neg (by omega) | exact (if_neg (by omega)).trans (if_neg (by omega)))⟩, ⟨rfl, rfl, rfl, rfl, rfl⟩, ⟨rfl, rfl, rfl, rfl⟩, rfl, rfl, rfl, rfl, rfl⟩, by unfold psC; unfold lfC; rw [show s.toNat = i_2 by omega]; exact Or.inr ⟨by omega, Or.inr ⟨by omega, hbR, by omega, Or.inr (Or.inl ⟨by omega, h_65.2⟩)⟩⟩⟩ | exact ⟨hCI, (by first | exact cs_refl | exact (fun r hr => ⟨if_neg (by omega), if_neg (by omega), if_neg (by omega)⟩)), (by first | exact hs_refl | exact (fun _ _ => rfl)), (by first | exact ss_refl | exact ⟨rfl, fun _ _ => rfl⟩), ⟨⟨(by first | rfl | exact if_neg (by omega) | exact (if_neg (by omega)).trans (if_neg (by omega))), (by first | rfl | exact if_neg (by omega) | exact (if_neg (by omega)).trans (if_neg (by omega))), (by first | rfl | exact if_neg (by omega) | exact (if_neg (by omega)).trans (if_neg (by omega)))⟩, ⟨rfl, rfl, rfl, rfl, rfl⟩, ⟨rfl, rfl, rfl, rfl⟩, rfl, rfl, rfl, rfl, rfl⟩, by unfold psC; unfold lfC; rw [show s.toNat = i_2 by omega]; exact Or.inr ⟨by omega, Or.inr ⟨by omega, hbR, by omega, Or.inr (Or.inr ⟨by omega, h_75.2⟩)⟩⟩⟩)⟩, by show va_P D.1 j_cl (cW D q (sY (sX (sV (sV (sL (sC u 10 n_41) 6 se_41) 25 v25_41) 26 v26_41) 10 f_41) 10 g_41)) t0.heap; rw [ht]; first | exact hP | (simp only [sC_id, sX_id, sY_id, sH_id, sT_id, sV_id]; exact hP)⟩, hS.F ht⟩) hS.2.2 dX11_pieces_78 hlk
            · skip
              refine lv_aload_n SS.1 SS.2.1 dX11_pieces_61 rfl (lv_at hl 1 rfl) ?_
              refine j_get SS hG hP 0 (v := .ref (q 7)) (C := RX11) (T := TX11) (N := 8) rfl rfl inX11 6 (by decide) (ref := "GridPolygons") kw_391 rfl rfl dX11_pieces_62 ?_
              refine j_vRi SS (As := []) (rest := []) (c_X1_seen3 l D q (sY (sX (sV (sV (sL (sC u 10 n_41) 6 se_41) 25 v25_41) 26 v26_41) 10 f_41) 10 g_41)   (show 0 ≤ v25_41 ∧ v25_41 ≤ 80 from (by omega))) mf_X1_seen kw_1022 hG hP hP (ci := 1) (q0 := 7) rfl rfl rfl rfl hl.1 ⟨⟨Nat.le_of_ble_eq_true rfl, Nat.le_of_ble_eq_true rfl⟩, Nat.le_of_ble_eq_true rfl, Nat.le_refl _, Nat.le_refl _⟩ rfl dX11_pieces_65 (fun z_65 h_65 => ?_)
              have h_65 : (0 ≤ z_65 ∧ z_65 ≤ 64) ∧ z_65 = ((pc9 (nx9 (or9 (se_41) (v25_41).toNat)) : Nat) : Int) := h_65
              refine lv_goto (tgt := 78) SS.1 SS.2.1 dX11_pieces_68 (by decide) ?_
              exact W.iret SS.1 SS.2.1 hr (fun t0 ht hW => ⟨⟨_, (sY (sX (sV (sV (sL (sC u 10 n_41) 6 se_41) 25 v25_41) 26 v26_41) 10 f_41) 10 g_41), rfl, ⟨z_65, rfl, (by first | exact ⟨hCI, (by first | exact cs_refl | exact (fun r hr => ⟨if_neg (by omega), if_neg (by omega), if_neg (by omega)⟩)), (by first | exact hs_refl | exact (fun _ _ => rfl)), (by first | exact ss_refl | exact ⟨rfl, fun _ _ => rfl⟩), ⟨⟨(by first | rfl | exact if_neg (by omega) | exact (if_neg (by omega)).trans (if_neg (by omega))), (by first | rfl | exact if_neg (by omega) | exact (if_neg (by omega)).trans (if_neg (by omega))), (by first | rfl | exact if_neg (by omega) | exact (if_neg (by omega)).trans (if_neg (by omega)))⟩, ⟨rfl, rfl, rfl, rfl, rfl⟩, ⟨rfl, rfl, rfl, rfl⟩, rfl, rfl, rfl, rfl, rfl⟩, by unfold psC; unfold lfC; rw [show s.toNat = i_2 by omega]; exact Or.inr ⟨by omega, Or.inr ⟨by omega, hbR, by omega, Or.inr (Or.inl ⟨by omega, h_65.2⟩)⟩⟩⟩ | exact ⟨hCI, (by first | exact cs_refl | exact (fun r hr => ⟨if_neg (by omega), if_neg (by omega), if_neg (by omega)⟩)), (by first | exact hs_refl | exact (fun _ _ => rfl)), (by first | exact ss_refl | exact ⟨rfl, fun _ _ => rfl⟩), ⟨⟨(by first | rfl | exact if_neg (by omega) | exact (if_neg (by omega)).trans (if_neg (by omega))), (by first | rfl | exact if_neg (by omega) | exact (if_neg (by omega)).trans (if_neg (by omega))), (by first | rfl | exact if_neg (by omega) | exact (if_neg (by omega)).trans (if_neg (by omega)))⟩, ⟨rfl, rfl, rfl, rfl, rfl⟩, ⟨rfl, rfl, rfl, rfl⟩, rfl, rfl, rfl, rfl, rfl⟩, by unfold psC; unfold lfC; rw [show s.toNat = i_2 by omega]; exact Or.inr ⟨by omega, Or.inr ⟨by omega, hbR, by omega, Or.inr (Or.inr ⟨by omega, h_75.2⟩)⟩⟩⟩)⟩, by show va_P D.1 j_cl (cW D q (sY (sX (sV (sV (sL (sC u 10 n_41) 6 se_41) 25 v25_41) 26 v26_41) 10 f_41) 10 g_41)) t0.heap; rw [ht]; first | exact hP | (simp only [sC_id, sX_id, sY_id, sH_id, sT_id, sV_id]; exact hP)⟩, hS.F ht⟩) hS.2.2 dX11_pieces_78 hlk
          · skip
            refine lv_aload_n SS.1 SS.2.1 dX11_pieces_48 rfl (lv_at hl 1 rfl) ?_
            refine j_get SS hG hP 0 (v := .ref (q 7)) (C := RX11) (T := TX11) (N := 8) rfl rfl inX11 6 (by decide) (ref := "GridPolygons") kw_391 rfl rfl dX11_pieces_49 ?_
            refine j_get SS hG hP 7 (v := .int (J v25_41)) (C := RX1) (T := TX1) (N := 4) rfl rfl inX1 2 (by decide) (ref := "GridPolygons$Coarse") kw_374 rfl rfl dX11_pieces_52 ?_
            exact W.iret SS.1 SS.2.1 hr (fun t0 ht hW => ⟨⟨_, (sY (sX (sV (sV (sL (sC u 10 n_41) 6 se_41) 25 v25_41) 26 v26_41) 10 f_41) 10 g_41), rfl, ⟨v25_41, rfl, (⟨hCI, (by first | exact cs_refl | exact (fun r hr => ⟨if_neg (by omega), if_neg (by omega), if_neg (by omega)⟩)), (by first | exact hs_refl | exact (fun _ _ => rfl)), (by first | exact ss_refl | exact ⟨rfl, fun _ _ => rfl⟩), ⟨⟨(by first | rfl | exact if_neg (by omega) | exact (if_neg (by omega)).trans (if_neg (by omega))), (by first | rfl | exact if_neg (by omega) | exact (if_neg (by omega)).trans (if_neg (by omega))), (by first | rfl | exact if_neg (by omega) | exact (if_neg (by omega)).trans (if_neg (by omega)))⟩, ⟨rfl, rfl, rfl, rfl, rfl⟩, ⟨rfl, rfl, rfl, rfl⟩, rfl, rfl, rfl, rfl, rfl⟩, by unfold psC; unfold lfC; rw [show s.toNat = i_2 by omega]; exact Or.inr ⟨by omega, Or.inr ⟨by omega, hbR, by omega, Or.inl ⟨by omega, rfl⟩⟩⟩⟩)⟩, by show va_P D.1 j_cl (cW D q (sY (sX (sV (sV (sL (sC u 10 n_41) 6 se_41) 25 v25_41) 26 v26_41) 10 f_41) 10 g_41)) t0.heap; rw [ht]; first | exact hP | (simp only [sC_id, sX_id, sY_id, sH_id, sT_id, sV_id]; exact hP)⟩, hS.F ht⟩) hS.2.2 dX11_pieces_55 hlk
        · skip
          refine j_bipush SS dX11_pieces_33 (by decide +kernel) ?_
          exact W.iret SS.1 SS.2.1 hr (fun t0 ht hW => ⟨⟨_, u, rfl, ⟨(-2), rfl, (⟨p0, (by first | exact cs_refl | exact (fun r hr => ⟨if_neg (by omega), if_neg (by omega), if_neg (by omega)⟩)), (by first | exact hs_refl | exact (fun _ _ => rfl)), (by first | exact ss_refl | exact ⟨rfl, fun _ _ => rfl⟩), ⟨⟨(by first | rfl | exact if_neg (by omega) | exact (if_neg (by omega)).trans (if_neg (by omega))), (by first | rfl | exact if_neg (by omega) | exact (if_neg (by omega)).trans (if_neg (by omega))), (by first | rfl | exact if_neg (by omega) | exact (if_neg (by omega)).trans (if_neg (by omega)))⟩, ⟨rfl, rfl, rfl, rfl, rfl⟩, ⟨rfl, rfl, rfl, rfl⟩, rfl, rfl, rfl, rfl, rfl⟩, by unfold psC; unfold lfC; rw [show s.toNat = i_2 by omega]; exact Or.inr ⟨by omega, Or.inl ⟨by omega, rfl, kCo_r⟩⟩⟩)⟩, by show va_P D.1 j_cl (cW D q u) t0.heap; rw [ht]; first | exact hP | (simp only [sC_id, sX_id, sY_id, sH_id, sT_id, sV_id]; exact hP)⟩, hS.F ht⟩) hS.2.2 dX11_pieces_35 hlk
      · skip
        refine j_iconst SS dX11_pieces_19 ?_
        exact W.iret SS.1 SS.2.1 hr (fun t0 ht hW => ⟨⟨_, u, rfl, ⟨(-1), rfl, (⟨p0, (by first | exact cs_refl | exact (fun r hr => ⟨if_neg (by omega), if_neg (by omega), if_neg (by omega)⟩)), (by first | exact hs_refl | exact (fun _ _ => rfl)), (by first | exact ss_refl | exact ⟨rfl, fun _ _ => rfl⟩), ⟨⟨(by first | rfl | exact if_neg (by omega) | exact (if_neg (by omega)).trans (if_neg (by omega))), (by first | rfl | exact if_neg (by omega) | exact (if_neg (by omega)).trans (if_neg (by omega))), (by first | rfl | exact if_neg (by omega) | exact (if_neg (by omega)).trans (if_neg (by omega)))⟩, ⟨rfl, rfl, rfl, rfl, rfl⟩, ⟨rfl, rfl, rfl, rfl⟩, rfl, rfl, rfl, rfl, rfl⟩, Or.inl ⟨by omega, rfl, kCo_r⟩⟩)⟩, by show va_P D.1 j_cl (cW D q u) t0.heap; rw [ht]; first | exact hP | (simp only [sC_id, sX_id, sY_id, sH_id, sT_id, sV_id]; exact hP)⟩, hS.F ht⟩) hS.2.2 dX11_pieces_20 hlk
  · skip
    refine lv_astore_nN (lv' := [(3, .null), (0, .ref (q 0)), (1, .int (J s)), (2, .int (J what))]) SS.1 SS.2.1 dX11_pieces_5 rfl hl (by decide) rfl (fun ls hl => ?_)
    refine lv_aload_nN SS.1 SS.2.1 dX11_pieces_6 rfl (lv_at hl 0 rfl) ?_
    refine lv_ifnullN SS.1 SS.2.1 (tgt := 19) dX11_pieces_7 (by decide) ?_
    refine j_iconst SS dX11_pieces_19 ?_
    exact W.iret SS.1 SS.2.1 hr (fun t0 ht hW => ⟨⟨_, u, rfl, ⟨(-1), rfl, (⟨p0, (by first | exact cs_refl | exact (fun r hr => ⟨if_neg (by omega), if_neg (by omega), if_neg (by omega)⟩)), (by first | exact hs_refl | exact (fun _ _ => rfl)), (by first | exact ss_refl | exact ⟨rfl, fun _ _ => rfl⟩), ⟨⟨(by first | rfl | exact if_neg (by omega) | exact (if_neg (by omega)).trans (if_neg (by omega))), (by first | rfl | exact if_neg (by omega) | exact (if_neg (by omega)).trans (if_neg (by omega))), (by first | rfl | exact if_neg (by omega) | exact (if_neg (by omega)).trans (if_neg (by omega)))⟩, ⟨rfl, rfl, rfl, rfl, rfl⟩, ⟨rfl, rfl, rfl, rfl⟩, rfl, rfl, rfl, rfl, rfl⟩, Or.inl ⟨by omega, rfl, kCo_r⟩⟩)⟩, by show va_P D.1 j_cl (cW D q u) t0.heap; rw [ht]; first | exact hP | (simp only [sC_id, sX_id, sY_id, sH_id, sT_id, sV_id]; exact hP)⟩, hS.F ht⟩) hS.2.2 dX11_pieces_20 hlk

set_option maxHeartbeats 4000000 in
set_option maxRecDepth 100000 in
theorem c_X11_piece3 (l : Launch) (D : JD) (q : Nat → Nat) (u : CS) (A : Nat → Prop) (hD : va_D A (cW D q u)) (s : Int) (pp9 : Int) (i : Int) (p0 : CI u) (p1 : -2147483648 ≤ s ∧ s ≤ 2147483647) (p2 : -2147483648 ≤ pp9 ∧ pp9 ≤ 2147483647) (p3 : -2147483648 ≤ i ∧ i ≤ 2147483647) : Met l yX11_piece (jw yX11_piece cX11_piece 5 (some .int)) (jr 7 149) (jP [.ref (q 0), .int (J s), .int (J pp9), .int (J i)] D (fun H => va_P D.1 j_cl (cW D q u) H)) (jWi (fun z u' => CI u' ∧ cSame u u' ∧ hSam u u' ∧ sSam u u' ∧ kCu u u' ∧ pcC u u' s pp9 i z) (fun u' H => va_P D.1 j_cl (cW D q u') H) A) 0 0 A := by
  refine Met.ofW (cc := cX11_piece) (maxL := 5) (ret := (some .int)) (by decide) rfl ?_
  intro pr en st mi args below meth co s₁ B hml hv
  obtain ⟨rfl, hG, hP⟩ := hv
  have hr := B.returns
  have hlk := B.notSynchronized
  have SS : jS pr mi co cX11_piece 5 st _ RX11 := ⟨B.exec, B.bytes, hml, findClass_of_methodNamed B.named, fun w hw => atoms_spec (ws := (jw yX11_piece cX11_piece 5 (some .int))) B.pre w (List.mem_cons_of_mem _ hw)⟩
  have hl := lv_entry ([.ref (q 0), .int (J s), .int (J pp9), .int (J i)]) (n := 5) (Nat.le_of_ble_eq_true rfl)
  rw [lg_entry_eq]
  generalize (lg_sl ([.ref (q 0), .int (J s), .int (J pp9), .int (J i)]) ++ List.replicate (5 - (lg_sl ([.ref (q 0), .int (J s), .int (J pp9), .int (J i)])).length) Slot.unset).toArray = ls at hl ⊢
  have hl : lv_has ls 5 [(0, .ref (q 0)), (1, .int (J s)), (2, .int (J pp9)), (3, .int (J i))] := hl
  have hS : va_S A st.heap st.heap [] := va_S.rf
  refine lv_aload_n SS.1 SS.2.1 dX11_piece_0 rfl (lv_at hl 0 rfl) ?_
  refine lv_iload_n SS.1 SS.2.1 dX11_piece_1 rfl (lv_at hl 1 rfl) ?_
  refine j_vSh SS (As := [.int (J s)]) (rest := []) (c_X11_shapeAt l D q u  s (show -2147483648 ≤ s ∧ s ≤ 2147483647 from (p1))) mf_X11_shapeAt kw_414 hG hP hP (ci := 11) (q0 := 0) rfl rfl rfl rfl hl.1 ⟨⟨Nat.le_of_ble_eq_true rfl, Nat.le_of_ble_eq_true rfl⟩, Nat.le_of_ble_eq_true rfl, Nat.le_refl _, Nat.le_refl _⟩ rfl dX11_piece_2 (fun i_2 hi_2 hz_2 => ?_) (fun hn_2 => ?_)
  · skip
    have hI2 := CI_s p0 (show i_2 < 8 by omega)
    have hI2c := hI2.1
    have hrl2 := rl_s (show i_2 < 8 by omega)
    refine lv_astore (lv' := [(4, .ref (q (8 + 5 * i_2))), (0, .ref (q 0)), (1, .int (J s)), (2, .int (J pp9)), (3, .int (J i))]) SS.1 SS.2.1 dX11_piece_5 hl (by decide) rfl (fun ls hl => ?_)
    refine lv_aload SS.1 SS.2.1 dX11_piece_7 (lv_at hl 0 rfl) ?_
    refine lv_ifnull SS.1 SS.2.1 dX11_piece_9 ?_
    refine lv_iload_n SS.1 SS.2.1 dX11_piece_12 rfl (lv_at hl 3 rfl) ?_
    refine j_if_lt SS (tgt := 21) (x := pp9) dX11_piece_13 (by decide) (by omega) (fun c_13 => ?_) (fun c_13 => ?_)
    · skip
      refine j_iconst SS dX11_piece_21 ?_
      exact W.iret SS.1 SS.2.1 hr (fun t0 ht hW => ⟨⟨_, u, rfl, ⟨(-1), rfl, (⟨p0, (by first | exact cs_refl | exact (fun r hr => ⟨if_neg (by omega), if_neg (by omega), if_neg (by omega)⟩)), (by first | exact hs_refl | exact (fun _ _ => rfl)), (by first | exact ss_refl | exact ⟨rfl, fun _ _ => rfl⟩), ⟨⟨(by first | rfl | exact if_neg (by omega) | exact (if_neg (by omega)).trans (if_neg (by omega))), (by first | rfl | exact if_neg (by omega) | exact (if_neg (by omega)).trans (if_neg (by omega))), (by first | rfl | exact if_neg (by omega) | exact (if_neg (by omega)).trans (if_neg (by omega)))⟩, ⟨rfl, rfl, rfl, rfl, rfl⟩, ⟨rfl, rfl, rfl, rfl⟩, rfl, rfl, rfl, rfl, rfl⟩, Or.inl ⟨by omega, rfl, kCo_r⟩⟩)⟩, by show va_P D.1 j_cl (cW D q u) t0.heap; rw [ht]; first | exact hP | (simp only [sC_id, sX_id, sY_id, sH_id, sT_id, sV_id]; exact hP)⟩, hS.F ht⟩) hS.2.2 dX11_piece_22 hlk
    · skip
      refine lv_iload_n SS.1 SS.2.1 dX11_piece_16 rfl (lv_at hl 4 rfl) ?_
      refine j_iconst SS dX11_piece_17 ?_
      refine j_icmp_ge SS (tgt := 23) (x := i) (y := (-1)) dX11_piece_18 (by decide) (by omega) (by decide) (fun c_18 => ?_) (fun c_18 => ?_)
      · skip
        refine lv_aload SS.1 SS.2.1 dX11_piece_23 (lv_at hl 0 rfl) ?_
        refine j_get SS hG hP (8 + 5 * i_2) (v := .ref (q (9 + 5 * i_2))) (C := RX10) (T := TX10) (N := 3) (cw_shape (by omega)) rfl inX10 0 (by decide) (ref := "GridPolygons$Shape") kw_151 rfl rfl dX11_piece_25 ?_
        refine j_bipush SS dX11_piece_28 (by decide +kernel) ?_
        refine j_sRi SS (As := [.ref (q (9 + 5 * i_2)), .int (J 40)]) (rest := []) (c_X11_hasAtMost3 l D q u i_2 (by omega) 40 (show RB 40 u i_2 from (CI_40 p0 (by omega))) (show -2147483648 ≤ (40 : Int) ∧ (40 : Int) ≤ 2147483647 from (by omega))) mf_X11_hasAtMost kw_859 hG hP rfl hl.1 ⟨⟨Nat.le_of_ble_eq_true rfl, Nat.le_of_ble_eq_true rfl⟩, Nat.le_of_ble_eq_true rfl, Nat.le_refl _, Nat.le_refl _⟩ rfl dX11_piece_30 (fun z_30 h_30 => ?_)
        have h_30 : (z_30 = 1 ∧ 3 ≤ (u.1.2.2.1 i_2) ∧ rE u i_2 + rI u i_2 ≤ (40 : Int)) ∨ (z_30 = 0 ∧ ¬ (3 ≤ (u.1.2.2.1 i_2) ∧ rE u i_2 + rI u i_2 ≤ (40 : Int))) := h_30
        refine j_if_ne SS (tgt := 39) (x := z_30) dX11_piece_33 (by decide) (by omega) (fun c_33 => ?_) (fun c_33 => ?_)
        · skip
          refine lv_aload_n SS.1 SS.2.1 dX11_piece_39 rfl (lv_at hl 1 rfl) ?_
          refine j_get SS hG hP 0 (v := .ref (q 7)) (C := RX11) (T := TX11) (N := 8) rfl rfl inX11 6 (by decide) (ref := "GridPolygons") kw_391 rfl rfl dX11_piece_40 ?_
          refine lv_aload SS.1 SS.2.1 dX11_piece_43 (lv_at hl 0 rfl) ?_
          refine j_vWv SS (As := [.ref (q (8 + 5 * i_2))]) (rest := []) (c_X1_build3 l D q u A (cW_D hD) i_2 (by omega)  (show RB 40 u i_2 from (CI_40 p0 (by omega))) (show RB 40 u 10 from (p0.2.1.2.2)) (show HB ((u.1.2.2.2.1 i_2)) from ((p0.1 i_2 (by omega)).2.1)) (show 0 ≤ (u.2.2.2 25) ∧ (u.2.2.2 25) ≤ 80 from (p0.2.2.2.2.2.2.2.1)) (show -2147483648 ≤ (u.2.2.2 26) ∧ (u.2.2.2 26) ≤ 2147483647 from (p0.2.2.2.2.2.2.2.2)) (show -2147483648 ≤ (u.1.2.2.2.2 i_2) ∧ (u.1.2.2.2.2 i_2) ≤ 2147483647 from ((p0.1 i_2 (by omega)).2.2)) (show 1 ≤ (u.1.2.2.1 i_2) from (by omega))) mf_X1_build kw_987 hG hP hP (ci := 1) (q0 := 7) rfl rfl rfl hS (fun _ h => h) rfl hl.1 ⟨⟨Nat.le_of_ble_eq_true rfl, Nat.le_of_ble_eq_true rfl⟩, Nat.le_of_ble_eq_true rfl, Nat.le_refl _, Nat.le_refl _⟩ rfl dX11_piece_45 (fun u45 H locs h_45 hP _ hS => ?_)
          obtain ⟨n_45, f_45, g_45, se_45, v25_45, v26_45, rfl, h_45⟩ := h_45
          have hP : va_P D.1 j_cl (cW D q (sY (sX (sV (sV (sL (sC u 10 n_45) 6 se_45) 25 v25_45) 26 v26_45) 10 f_45) 10 g_45)) H := hP
          have h_45 : (((0 ≤ n_45 ∧ n_45 ≤ 40) ∧ RV 40 f_45 g_45) ∧ (0 ≤ v25_45 ∧ v25_45 ≤ 80) ∧ -2147483648 ≤ v26_45 ∧ v26_45 ≤ 2147483647) ∧ (((u.2.2.2 26) = (u.1.2.2.2.2 i_2) ∧ n_45 = (u.1.2.2.1 10) ∧ f_45 = (u.1.1 10) ∧ g_45 = (u.1.2.1 10) ∧ se_45 = (u.2.2.1 6) ∧ v25_45 = (u.2.2.2 25) ∧ v26_45 = (u.2.2.2 26)) ∨ (v26_45 = (u.1.2.2.2.2 i_2) ∧ (FT9 u i_2 40 → LC9 (inC u i_2) ((u.1.2.2.2.1 i_2)) n_45 f_45 g_45 v25_45 se_45))) := h_45
          have hCI : CI (sY (sX (sV (sV (sL (sC u 10 n_45) 6 se_45) 25 v25_45) 26 v26_45) 10 f_45) 10 g_45) := CI_co p0 h_45.1
          have hR10 := hCI.2.1.2.2
          have hbR : bR9 u (sY (sX (sV (sV (sL (sC u 10 n_45) 6 se_45) 25 v25_45) 26 v26_45) 10 f_45) 10 g_45) i_2 := by rcases h_45.2 with ⟨q0, q1, q2, q3, q4, q5, q6⟩ | ⟨q0, q1⟩; exact Or.inl ⟨q0, ⟨q1, q2, q3⟩, q4, q5, q6⟩; exact Or.inr ⟨q0, q1⟩
          refine lv_iload_n SS.1 SS.2.1 dX11_piece_48 rfl (lv_at hl 3 rfl) ?_
          refine lv_aload_n SS.1 SS.2.1 dX11_piece_49 rfl (lv_at hl 1 rfl) ?_
          refine j_get SS hG hP 0 (v := .ref (q 7)) (C := RX11) (T := TX11) (N := 8) rfl rfl inX11 6 (by decide) (ref := "GridPolygons") kw_391 rfl rfl dX11_piece_50 ?_
          refine j_get SS hG hP 7 (v := .int (J v25_45)) (C := RX1) (T := TX1) (N := 4) rfl rfl inX1 2 (by decide) (ref := "GridPolygons$Coarse") kw_374 rfl rfl dX11_piece_53 ?_
          refine j_icmp_ge SS (tgt := 71) (x := pp9) (y := v25_45) dX11_piece_56 (by decide) (by omega) (by omega) (fun c_56 => ?_) (fun c_56 => ?_)
          · skip
            refine j_iconst SS dX11_piece_71 ?_
            exact W.iret SS.1 SS.2.1 hr (fun t0 ht hW => ⟨⟨_, (sY (sX (sV (sV (sL (sC u 10 n_45) 6 se_45) 25 v25_45) 26 v26_45) 10 f_45) 10 g_45), rfl, ⟨(-1), rfl, (by first | exact ⟨hCI, (by first | exact cs_refl | exact (fun r hr => ⟨if_neg (by omega), if_neg (by omega), if_neg (by omega)⟩)), (by first | exact hs_refl | exact (fun _ _ => rfl)), (by first | exact ss_refl | exact ⟨rfl, fun _ _ => rfl⟩), ⟨⟨(by first | rfl | exact if_neg (by omega) | exact (if_neg (by omega)).trans (if_neg (by omega))), (by first | rfl | exact if_neg (by omega) | exact (if_neg (by omega)).trans (if_neg (by omega))), (by first | rfl | exact if_neg (by omega) | exact (if_neg (by omega)).trans (if_neg (by omega)))⟩, ⟨rfl, rfl, rfl, rfl, rfl⟩, ⟨rfl, rfl, rfl, rfl⟩, rfl, rfl, rfl, rfl, rfl⟩, by unfold pcC; unfold lfC; rw [show s.toNat = i_2 by omega]; exact Or.inr ⟨by omega, Or.inr ⟨by omega, hbR, by omega, Or.inl ⟨(show v25_45 ≤ pp9 by omega), rfl⟩⟩⟩⟩ | exact ⟨hCI, (by first | exact cs_refl | exact (fun r hr => ⟨if_neg (by omega), if_neg (by omega), if_neg (by omega)⟩)), (by first | exact hs_refl | exact (fun _ _ => rfl)), (by first | exact ss_refl | exact ⟨rfl, fun _ _ => rfl⟩), ⟨⟨(by first | rfl | exact if_neg (by omega) | exact (if_neg (by omega)).trans (if_neg (by omega))), (by first | rfl | exact if_neg (by omega) | exact (if_neg (by omega)).trans (if_neg (by omega))), (by first | rfl | exact if_neg (by omega) | exact (if_neg (by omega)).trans (if_neg (by omega)))⟩, ⟨rfl, rfl, rfl, rfl, rfl⟩, ⟨rfl, rfl, rfl, rfl⟩, rfl, rfl, rfl, rfl, rfl⟩, by unfold pcC; unfold lfC; rw [show s.toNat = i_2 by omega]; exact Or.inr ⟨by omega, Or.inr ⟨by omega, hbR, by omega, Or.inr ⟨(show pp9 < v25_45 by omega), by have q9 := h_65.2 (by omega) (by omega); by_cases e9 : 0 ≤ i; exact Or.inr (Or.inl ⟨e9, (show ((pc9 (nx9 (se_45 pp9.toNat)) : Nat) : Int) ≤ i by rw [← q9]; omega), rfl⟩); (exfalso; omega)⟩⟩⟩⟩)⟩, by show va_P D.1 j_cl (cW D q (sY (sX (sV (sV (sL (sC u 10 n_45) 6 se_45) 25 v25_45) 26 v26_45) 10 f_45) 10 g_45)) t0.heap; rw [ht]; first | exact hP | (simp only [sC_id, sX_id, sY_id, sH_id, sT_id, sV_id]; exact hP)⟩, hS.F ht⟩) hS.2.2 dX11_piece_72 hlk
          · skip
            refine lv_iload_n SS.1 SS.2.1 dX11_piece_59 rfl (lv_at hl 4 rfl) ?_
            refine lv_aload_n SS.1 SS.2.1 dX11_piece_60 rfl (lv_at hl 1 rfl) ?_
            refine j_get SS hG hP 0 (v := .ref (q 7)) (C := RX11) (T := TX11) (N := 8) rfl rfl inX11 6 (by decide) (ref := "GridPolygons") kw_391 rfl rfl dX11_piece_61 ?_
            refine lv_iload_n SS.1 SS.2.1 dX11_piece_64 rfl (lv_at hl 3 rfl) ?_
            refine j_vRi SS (As := [.int (J pp9)]) (rest := [.int (J i)]) (c_X1_sizeOf3 l D q (sY (sX (sV (sV (sL (sC u 10 n_45) 6 se_45) 25 v25_45) 26 v26_45) 10 f_45) 10 g_45)  pp9 (show -2147483648 ≤ pp9 ∧ pp9 ≤ 2147483647 from (by omega))) mf_X1_sizeOf kw_1049 hG hP hP (ci := 1) (q0 := 7) rfl rfl rfl rfl hl.1 ⟨⟨Nat.le_of_ble_eq_true rfl, Nat.le_of_ble_eq_true rfl⟩, Nat.le_of_ble_eq_true rfl, Nat.le_refl _, Nat.le_refl _⟩ rfl dX11_piece_65 (fun z_65 h_65 => ?_)
            have h_65 : (0 ≤ z_65 ∧ z_65 ≤ 64) ∧ (0 ≤ pp9 → pp9 < 80 → z_65 = ((pc9 (nx9 (se_45 pp9.toNat)) : Nat) : Int)) := h_65
            refine j_icmp_lt SS (tgt := 73) (x := i) (y := z_65) dX11_piece_68 (by decide) (by omega) (by omega) (fun c_68 => ?_) (fun c_68 => ?_)
            · skip
              refine lv_iload_n SS.1 SS.2.1 dX11_piece_73 rfl (lv_at hl 4 rfl) ?_
              refine j_iconst SS dX11_piece_74 ?_
              refine j_icmp_ne SS (tgt := 89) (x := i) (y := (-1)) dX11_piece_75 (by decide) (by omega) (by decide) (fun c_75 => ?_) (fun c_75 => ?_)
              · skip
                refine lv_aload_n SS.1 SS.2.1 dX11_piece_89 rfl (lv_at hl 1 rfl) ?_
                refine j_get SS hG hP 0 (v := .ref (q 7)) (C := RX11) (T := TX11) (N := 8) rfl rfl inX11 6 (by decide) (ref := "GridPolygons") kw_391 rfl rfl dX11_piece_90 ?_
                refine lv_iload_n SS.1 SS.2.1 dX11_piece_93 rfl (lv_at hl 3 rfl) ?_
                refine lv_iload_n SS.1 SS.2.1 dX11_piece_94 rfl (lv_at hl 4 rfl) ?_
                refine j_vRi SS (As := [.int (J pp9), .int (J i)]) (rest := []) (c_X1_memberOf3 l D q (sY (sX (sV (sV (sL (sC u 10 n_45) 6 se_45) 25 v25_45) 26 v26_45) 10 f_45) 10 g_45)  pp9 i (show RB 40 (sY (sX (sV (sV (sL (sC u 10 n_45) 6 se_45) 25 v25_45) 26 v26_45) 10 f_45) 10 g_45) 10 from (hR10)) (show 0 ≤ pp9 ∧ pp9 < 80 from (by omega)) (show 0 ≤ i ∧ i ≤ 2147483647 from (by omega))) mf_X1_memberOf kw_1050 hG hP hP (ci := 1) (q0 := 7) rfl rfl rfl rfl hl.1 ⟨⟨Nat.le_of_ble_eq_true rfl, Nat.le_of_ble_eq_true rfl⟩, Nat.le_of_ble_eq_true rfl, Nat.le_refl _, Nat.le_refl _⟩ rfl dX11_piece_95 (fun z_95 h_95 => ?_)
                have h_95 : (-1 ≤ z_95 ∧ z_95 ≤ 39) ∧ MB9 (se_45 pp9.toNat) (n_45) i z_95 := h_95
                exact W.iret SS.1 SS.2.1 hr (fun t0 ht hW => ⟨⟨_, (sY (sX (sV (sV (sL (sC u 10 n_45) 6 se_45) 25 v25_45) 26 v26_45) 10 f_45) 10 g_45), rfl, ⟨z_95, rfl, (by first | exact ⟨hCI, (by first | exact cs_refl | exact (fun r hr => ⟨if_neg (by omega), if_neg (by omega), if_neg (by omega)⟩)), (by first | exact hs_refl | exact (fun _ _ => rfl)), (by first | exact ss_refl | exact ⟨rfl, fun _ _ => rfl⟩), ⟨⟨(by first | rfl | exact if_neg (by omega) | exact (if_neg (by omega)).trans (if_neg (by omega))), (by first | rfl | exact if_neg (by omega) | exact (if_neg (by omega)).trans (if_neg (by omega))), (by first | rfl | exact if_neg (by omega) | exact (if_neg (by omega)).trans (if_neg (by omega)))⟩, ⟨rfl, rfl, rfl, rfl, rfl⟩, ⟨rfl, rfl, rfl, rfl⟩, rfl, rfl, rfl, rfl, rfl⟩, by unfold pcC; unfold lfC; rw [show s.toNat = i_2 by omega]; exact Or.inr ⟨by omega, Or.inr ⟨by omega, hbR, by omega, Or.inr ⟨(show pp9 < v25_45 by omega), Or.inl ⟨by omega, h_83.2 (by omega) (by omega)⟩⟩⟩⟩⟩ | exact ⟨hCI, (by first | exact cs_refl | exact (fun r hr => ⟨if_neg (by omega), if_neg (by omega), if_neg (by omega)⟩)), (by first | exact hs_refl | exact (fun _ _ => rfl)), (by first | exact ss_refl | exact ⟨rfl, fun _ _ => rfl⟩), ⟨⟨(by first | rfl | exact if_neg (by omega) | exact (if_neg (by omega)).trans (if_neg (by omega))), (by first | rfl | exact if_neg (by omega) | exact (if_neg (by omega)).trans (if_neg (by omega))), (by first | rfl | exact if_neg (by omega) | exact (if_neg (by omega)).trans (if_neg (by omega)))⟩, ⟨rfl, rfl, rfl, rfl, rfl⟩, ⟨rfl, rfl, rfl, rfl⟩, rfl, rfl, rfl, rfl, rfl⟩, by unfold pcC; unfold lfC; rw [show s.toNat = i_2 by omega]; exact Or.inr ⟨by omega, Or.inr ⟨by omega, hbR, by omega, Or.inr ⟨(show pp9 < v25_45 by omega), Or.inr (Or.inr ⟨by omega, h_95.2⟩)⟩⟩⟩⟩)⟩, by show va_P D.1 j_cl (cW D q (sY (sX (sV (sV (sL (sC u 10 n_45) 6 se_45) 25 v25_45) 26 v26_45) 10 f_45) 10 g_45)) t0.heap; rw [ht]; first | exact hP | (simp only [sC_id, sX_id, sY_id, sH_id, sT_id, sV_id]; exact hP)⟩, hS.F ht⟩) hS.2.2 dX11_piece_98 hlk
              · skip
                refine lv_aload_n SS.1 SS.2.1 dX11_piece_78 rfl (lv_at hl 1 rfl) ?_
                refine j_get SS hG hP 0 (v := .ref (q 7)) (C := RX11) (T := TX11) (N := 8) rfl rfl inX11 6 (by decide) (ref := "GridPolygons") kw_391 rfl rfl dX11_piece_79 ?_
                refine lv_iload_n SS.1 SS.2.1 dX11_piece_82 rfl (lv_at hl 3 rfl) ?_
                refine j_vRi SS (As := [.int (J pp9)]) (rest := []) (c_X1_sizeOf3 l D q (sY (sX (sV (sV (sL (sC u 10 n_45) 6 se_45) 25 v25_45) 26 v26_45) 10 f_45) 10 g_45)  pp9 (show -2147483648 ≤ pp9 ∧ pp9 ≤ 2147483647 from (by omega))) mf_X1_sizeOf kw_1049 hG hP hP (ci := 1) (q0 := 7) rfl rfl rfl rfl hl.1 ⟨⟨Nat.le_of_ble_eq_true rfl, Nat.le_of_ble_eq_true rfl⟩, Nat.le_of_ble_eq_true rfl, Nat.le_refl _, Nat.le_refl _⟩ rfl dX11_piece_83 (fun z_83 h_83 => ?_)
                have h_83 : (0 ≤ z_83 ∧ z_83 ≤ 64) ∧ (0 ≤ pp9 → pp9 < 80 → z_83 = ((pc9 (nx9 (se_45 pp9.toNat)) : Nat) : Int)) := h_83
                refine lv_goto (tgt := 98) SS.1 SS.2.1 dX11_piece_86 (by decide) ?_
                exact W.iret SS.1 SS.2.1 hr (fun t0 ht hW => ⟨⟨_, (sY (sX (sV (sV (sL (sC u 10 n_45) 6 se_45) 25 v25_45) 26 v26_45) 10 f_45) 10 g_45), rfl, ⟨z_83, rfl, (by first | exact ⟨hCI, (by first | exact cs_refl | exact (fun r hr => ⟨if_neg (by omega), if_neg (by omega), if_neg (by omega)⟩)), (by first | exact hs_refl | exact (fun _ _ => rfl)), (by first | exact ss_refl | exact ⟨rfl, fun _ _ => rfl⟩), ⟨⟨(by first | rfl | exact if_neg (by omega) | exact (if_neg (by omega)).trans (if_neg (by omega))), (by first | rfl | exact if_neg (by omega) | exact (if_neg (by omega)).trans (if_neg (by omega))), (by first | rfl | exact if_neg (by omega) | exact (if_neg (by omega)).trans (if_neg (by omega)))⟩, ⟨rfl, rfl, rfl, rfl, rfl⟩, ⟨rfl, rfl, rfl, rfl⟩, rfl, rfl, rfl, rfl, rfl⟩, by unfold pcC; unfold lfC; rw [show s.toNat = i_2 by omega]; exact Or.inr ⟨by omega, Or.inr ⟨by omega, hbR, by omega, Or.inr ⟨(show pp9 < v25_45 by omega), Or.inl ⟨by omega, h_83.2 (by omega) (by omega)⟩⟩⟩⟩⟩ | exact ⟨hCI, (by first | exact cs_refl | exact (fun r hr => ⟨if_neg (by omega), if_neg (by omega), if_neg (by omega)⟩)), (by first | exact hs_refl | exact (fun _ _ => rfl)), (by first | exact ss_refl | exact ⟨rfl, fun _ _ => rfl⟩), ⟨⟨(by first | rfl | exact if_neg (by omega) | exact (if_neg (by omega)).trans (if_neg (by omega))), (by first | rfl | exact if_neg (by omega) | exact (if_neg (by omega)).trans (if_neg (by omega))), (by first | rfl | exact if_neg (by omega) | exact (if_neg (by omega)).trans (if_neg (by omega)))⟩, ⟨rfl, rfl, rfl, rfl, rfl⟩, ⟨rfl, rfl, rfl, rfl⟩, rfl, rfl, rfl, rfl, rfl⟩, by unfold pcC; unfold lfC; rw [show s.toNat = i_2 by omega]; exact Or.inr ⟨by omega, Or.inr ⟨by omega, hbR, by omega, Or.inr ⟨(show pp9 < v25_45 by omega), Or.inr (Or.inr ⟨by omega, h_95.2⟩)⟩⟩⟩⟩)⟩, by show va_P D.1 j_cl (cW D q (sY (sX (sV (sV (sL (sC u 10 n_45) 6 se_45) 25 v25_45) 26 v26_45) 10 f_45) 10 g_45)) t0.heap; rw [ht]; first | exact hP | (simp only [sC_id, sX_id, sY_id, sH_id, sT_id, sV_id]; exact hP)⟩, hS.F ht⟩) hS.2.2 dX11_piece_98 hlk
            · skip
              refine j_iconst SS dX11_piece_71 ?_
              exact W.iret SS.1 SS.2.1 hr (fun t0 ht hW => ⟨⟨_, (sY (sX (sV (sV (sL (sC u 10 n_45) 6 se_45) 25 v25_45) 26 v26_45) 10 f_45) 10 g_45), rfl, ⟨(-1), rfl, (by first | exact ⟨hCI, (by first | exact cs_refl | exact (fun r hr => ⟨if_neg (by omega), if_neg (by omega), if_neg (by omega)⟩)), (by first | exact hs_refl | exact (fun _ _ => rfl)), (by first | exact ss_refl | exact ⟨rfl, fun _ _ => rfl⟩), ⟨⟨(by first | rfl | exact if_neg (by omega) | exact (if_neg (by omega)).trans (if_neg (by omega))), (by first | rfl | exact if_neg (by omega) | exact (if_neg (by omega)).trans (if_neg (by omega))), (by first | rfl | exact if_neg (by omega) | exact (if_neg (by omega)).trans (if_neg (by omega)))⟩, ⟨rfl, rfl, rfl, rfl, rfl⟩, ⟨rfl, rfl, rfl, rfl⟩, rfl, rfl, rfl, rfl, rfl⟩, by unfold pcC; unfold lfC; rw [show s.toNat = i_2 by omega]; exact Or.inr ⟨by omega, Or.inr ⟨by omega, hbR, by omega, Or.inl ⟨(show v25_45 ≤ pp9 by omega), rfl⟩⟩⟩⟩ | exact ⟨hCI, (by first | exact cs_refl | exact (fun r hr => ⟨if_neg (by omega), if_neg (by omega), if_neg (by omega)⟩)), (by first | exact hs_refl | exact (fun _ _ => rfl)), (by first | exact ss_refl | exact ⟨rfl, fun _ _ => rfl⟩), ⟨⟨(by first | rfl | exact if_neg (by omega) | exact (if_neg (by omega)).trans (if_neg (by omega))), (by first | rfl | exact if_neg (by omega) | exact (if_neg (by omega)).trans (if_neg (by omega))), (by first | rfl | exact if_neg (by omega) | exact (if_neg (by omega)).trans (if_neg (by omega)))⟩, ⟨rfl, rfl, rfl, rfl, rfl⟩, ⟨rfl, rfl, rfl, rfl⟩, rfl, rfl, rfl, rfl, rfl⟩, by unfold pcC; unfold lfC; rw [show s.toNat = i_2 by omega]; exact Or.inr ⟨by omega, Or.inr ⟨by omega, hbR, by omega, Or.inr ⟨(show pp9 < v25_45 by omega), by have q9 := h_65.2 (by omega) (by omega); by_cases e9 : 0 ≤ i; exact Or.inr (Or.inl ⟨e9, (show ((pc9 (nx9 (se_45 pp9.toNat)) : Nat) : Int) ≤ i by rw [← q9]; omega), rfl⟩); (exfalso; omega)⟩⟩⟩⟩)⟩, by show va_P D.1 j_cl (cW D q (sY (sX (sV (sV (sL (sC u 10 n_45) 6 se_45) 25 v25_45) 26 v26_45) 10 f_45) 10 g_45)) t0.heap; rw [ht]; first | exact hP | (simp only [sC_id, sX_id, sY_id, sH_id, sT_id, sV_id]; exact hP)⟩, hS.F ht⟩) hS.2.2 dX11_piece_72 hlk
        · skip
          refine j_bipush SS dX11_piece_36 (by decide +kernel) ?_
          exact W.iret SS.1 SS.2.1 hr (fun t0 ht hW => ⟨⟨_, u, rfl, ⟨(-2), rfl, (⟨p0, (by first | exact cs_refl | exact (fun r hr => ⟨if_neg (by omega), if_neg (by omega), if_neg (by omega)⟩)), (by first | exact hs_refl | exact (fun _ _ => rfl)), (by first | exact ss_refl | exact ⟨rfl, fun _ _ => rfl⟩), ⟨⟨(by first | rfl | exact if_neg (by omega) | exact (if_neg (by omega)).trans (if_neg (by omega))), (by first | rfl | exact if_neg (by omega) | exact (if_neg (by omega)).trans (if_neg (by omega))), (by first | rfl | exact if_neg (by omega) | exact (if_neg (by omega)).trans (if_neg (by omega)))⟩, ⟨rfl, rfl, rfl, rfl, rfl⟩, ⟨rfl, rfl, rfl, rfl⟩, rfl, rfl, rfl, rfl, rfl⟩, by unfold pcC; unfold lfC; rw [show s.toNat = i_2 by omega]; exact Or.inr ⟨by omega, Or.inl ⟨by omega, rfl, kCo_r⟩⟩⟩)⟩, by show va_P D.1 j_cl (cW D q u) t0.heap; rw [ht]; first | exact hP | (simp only [sC_id, sX_id, sY_id, sH_id, sT_id, sV_id]; exact hP)⟩, hS.F ht⟩) hS.2.2 dX11_piece_38 hlk
      · skip
        refine j_iconst SS dX11_piece_21 ?_
        exact W.iret SS.1 SS.2.1 hr (fun t0 ht hW => ⟨⟨_, u, rfl, ⟨(-1), rfl, (⟨p0, (by first | exact cs_refl | exact (fun r hr => ⟨if_neg (by omega), if_neg (by omega), if_neg (by omega)⟩)), (by first | exact hs_refl | exact (fun _ _ => rfl)), (by first | exact ss_refl | exact ⟨rfl, fun _ _ => rfl⟩), ⟨⟨(by first | rfl | exact if_neg (by omega) | exact (if_neg (by omega)).trans (if_neg (by omega))), (by first | rfl | exact if_neg (by omega) | exact (if_neg (by omega)).trans (if_neg (by omega))), (by first | rfl | exact if_neg (by omega) | exact (if_neg (by omega)).trans (if_neg (by omega)))⟩, ⟨rfl, rfl, rfl, rfl, rfl⟩, ⟨rfl, rfl, rfl, rfl⟩, rfl, rfl, rfl, rfl, rfl⟩, Or.inl ⟨by omega, rfl, kCo_r⟩⟩)⟩, by show va_P D.1 j_cl (cW D q u) t0.heap; rw [ht]; first | exact hP | (simp only [sC_id, sX_id, sY_id, sH_id, sT_id, sV_id]; exact hP)⟩, hS.F ht⟩) hS.2.2 dX11_piece_22 hlk
  · skip
    refine lv_astoreN (lv' := [(4, .null), (0, .ref (q 0)), (1, .int (J s)), (2, .int (J pp9)), (3, .int (J i))]) SS.1 SS.2.1 dX11_piece_5 hl (by decide) rfl (fun ls hl => ?_)
    refine lv_aloadN SS.1 SS.2.1 dX11_piece_7 (lv_at hl 0 rfl) ?_
    refine lv_ifnullN SS.1 SS.2.1 (tgt := 21) dX11_piece_9 (by decide) ?_
    refine j_iconst SS dX11_piece_21 ?_
    exact W.iret SS.1 SS.2.1 hr (fun t0 ht hW => ⟨⟨_, u, rfl, ⟨(-1), rfl, (⟨p0, (by first | exact cs_refl | exact (fun r hr => ⟨if_neg (by omega), if_neg (by omega), if_neg (by omega)⟩)), (by first | exact hs_refl | exact (fun _ _ => rfl)), (by first | exact ss_refl | exact ⟨rfl, fun _ _ => rfl⟩), ⟨⟨(by first | rfl | exact if_neg (by omega) | exact (if_neg (by omega)).trans (if_neg (by omega))), (by first | rfl | exact if_neg (by omega) | exact (if_neg (by omega)).trans (if_neg (by omega))), (by first | rfl | exact if_neg (by omega) | exact (if_neg (by omega)).trans (if_neg (by omega)))⟩, ⟨rfl, rfl, rfl, rfl, rfl⟩, ⟨rfl, rfl, rfl, rfl⟩, rfl, rfl, rfl, rfl, rfl⟩, Or.inl ⟨by omega, rfl, kCo_r⟩⟩)⟩, by show va_P D.1 j_cl (cW D q u) t0.heap; rw [ht]; first | exact hP | (simp only [sC_id, sX_id, sY_id, sH_id, sT_id, sV_id]; exact hP)⟩, hS.F ht⟩) hS.2.2 dX11_piece_22 hlk


/-! ===== the constructors: rows ===== -/
/-- the private constructors of nest mates, the array of shapes -/
def j_KN (U : State) : Prop := va_AO "GridPolygons$Shape" U ∧ va_Nw (.methodLinkNest RX11 15 yX10_init RX11) U ∧ va_Nw (.methodLinkNest RX11 18 yX3_init RX11) U ∧ va_Nw (.methodLinkNest RX11 25 yX4_init RX11) U ∧ va_Nw (.methodLinkNest RX11 32 yX9_init RX11) U ∧ va_Nw (.methodLinkNest RX11 39 yX0_init RX11) U ∧ va_Nw (.methodLinkNest RX11 46 yX2_init RX11) U ∧ va_Nw (.methodLinkNest RX11 53 yX1_init RX11) U ∧ va_Nw (.methodLinkNest RX2 11 yX5_init RX11) U
theorem j_KN.warm {s U : State} (h : j_KN s) (hW : s.WarmedH U.vm) : j_KN U := ⟨va_AO.moved hW.alike h.1, va_Nw.warmM hW h.2.1, va_Nw.warmM hW h.2.2.1, va_Nw.warmM hW h.2.2.2.1, va_Nw.warmM hW h.2.2.2.2.1, va_Nw.warmM hW h.2.2.2.2.2.1, va_Nw.warmM hW h.2.2.2.2.2.2.1, va_Nw.warmM hW h.2.2.2.2.2.2.2.1, va_Nw.warmM hW h.2.2.2.2.2.2.2.2⟩
theorem j_KN.same {s U : State} (h : j_KN s) (e : s.vm = U.vm) : j_KN U := ⟨va_AO.moved (e ▸ Vm.Alike.refl s.vm) h.1, va_Nw.same rfl e h.2.1, va_Nw.same rfl e h.2.2.1, va_Nw.same rfl e h.2.2.2.1, va_Nw.same rfl e h.2.2.2.2.1, va_Nw.same rfl e h.2.2.2.2.2.1, va_Nw.same rfl e h.2.2.2.2.2.2.1, va_Nw.same rfl e h.2.2.2.2.2.2.2.1, va_Nw.same rfl e h.2.2.2.2.2.2.2.2⟩
abbrev jrc (f n c s : Nat) : Room := { frames := f, cells := c, slots := s, locals := n }
def jPN (As : List Value) (D : JD) (P : Heap → Prop) : Array Value → State → Prop := va_Pc As (fun U => (j_K D U ∧ j_KN U) ∧ P U.heap)
theorem jPN.blind {As : List Value} {D : JD} {P : Heap → Prop} : FrameBlind (jPN As D P) := by
  intro a U g mk h
  obtain ⟨h1, ⟨h2, h4⟩, h3⟩ := h
  exact ⟨h1, ⟨⟨va_K.moved (u := U) (U := U.calling g mk a) (Vm.Alike.refl U.vm) h2.1, va_Nw.same rfl (U := U.calling g mk a) rfl h2.2.1, va_Nw.same rfl (U := U.calling g mk a) rfl h2.2.2.1, va_Nw.same rfl (U := U.calling g mk a) rfl h2.2.2.2.1, va_Nw.same rfl (U := U.calling g mk a) rfl h2.2.2.2.2⟩, h4.same (U := U.calling g mk a) rfl⟩, h3⟩
theorem jPN.at {As : List Value} {D : JD} {P : Heap → Prop} {s : State} {H : Heap} (hG : j_K D s) (hN : j_KN s) (hP : P H) : ∀ U : State, U.heap = H → s.WarmedH U.vm → jPN As D P As.toArray U :=
  fun U hU hW => ⟨rfl, ⟨hG.warm hW, hN.warm hW⟩, by rw [hU]; exact hP⟩
def jmI (y : MethodName) (bytes : ByteArray) (maxL : Nat) (n : Nat) : Prop := Cond.code y bytes maxL none ∈ lw_g ∧ Cond.initialized y.cls ∈ lw_g ∧ Cond.instanceMethod y ∈ lw_g ∧ y.name = "<init>" ∧ jd y n
theorem va_D1 {x : Nat × va_E} {sz : Nat} : va_D (va_A [x] sz) [x] := by
  refine ⟨fun i j p q hi hj _ => ?_, fun k q hk => Or.inl ⟨k, q.2, hk⟩⟩
  have h1 := (List.getElem?_eq_some_iff.mp hi).1
  have h2 := (List.getElem?_eq_some_iff.mp hj).1
  simp at h1 h2
  omega
theorem j_at {ws : va_W} {x : Nat × va_E} : (ws ++ [x])[ws.length]? = some x := by simp
theorem j_lf {ws : va_W} {x y : Nat × va_E} {k : Nat} (h : ws[k]? = some y) : (ws ++ [x])[k]? = some y := by
  rw [List.getElem?_append_left (List.getElem?_eq_some_iff.mp h).1]; exact h
theorem j_lastP {D : va_G} {cl : List vw_C} {ws : va_W} {x : Nat × va_E} {H : Heap} (h : va_P D cl (ws ++ [x]) H) : va_P D cl [x] H := fun k q hk => by
  have h1 := (List.getElem?_eq_some_iff.mp hk).1
  simp at h1
  subst h1
  exact h ws.length q (by rw [j_at]; exact hk)
theorem j_one {x y : Nat × va_E} {k : Nat} (h : [x][k]? = some y) : y = x := by
  have h1 := (List.getElem?_eq_some_iff.mp h).1
  simp at h1
  subst h1
  exact (Option.some.inj h).symm
theorem j_free {A : Nat → Prop} {ws : va_W} {x : Nat × va_E} {H0 H : Heap} {locs : List Loc} (hD : va_D A (ws ++ [x])) (hS : va_S A H0 H locs) (hA : ∀ q, H0.size ≤ q → A q) : ∀ q, va_A [x] H.size q → A q := by
  intro q h
  rcases h with ⟨k, e, h⟩ | h
  · have h2 := j_one h
    have h3 := hD.2 ws.length x j_at
    rw [← h2] at h3
    exact h3
  · exact hA q (Nat.le_trans hS.1 h)
theorem j_join {A : Nat → Prop} {D : va_G} {cl : List vw_C} {ws w1 : va_W} {x : Nat × va_E} {H H1 : Heap} (hP : va_P D cl (ws ++ [x]) H) (hD : va_D A (ws ++ [x])) (hk : ∀ q : Nat, q < H.size → ¬ va_A [x] H.size q → H1[q]? = H[q]?) (hF : ∀ q, va_A [x] H.size q → A q) (hP1 : va_P D cl w1 H1) (hD1 : va_D (va_A [x] H.size) w1) : va_P D cl (ws ++ w1) H1 ∧ va_D A (ws ++ w1) := by
  have apart : ∀ (k : Nat) (q : Nat × va_E), ws[k]? = some q → q.1 < H.size ∧ ¬ va_A [x] H.size q.1 := by
    intro k q hq
    have hl := (hP k q (j_lf hq)).lt
    refine ⟨hl, fun h => ?_⟩
    rcases h with ⟨k2, e, h⟩ | h
    · have h2 := j_one h
      have h3 := hD.1 k ws.length q x (j_lf hq) j_at (by rw [← h2])
      have h4 := (List.getElem?_eq_some_iff.mp hq).1
      omega
    · omega
  refine ⟨va_P.app (fun k q hq => ?_) hP1, va_D.app ⟨fun i j a b hi hj h => hD.1 i j a b (j_lf hi) (j_lf hj) h, fun k q hq => hD.2 k q (j_lf hq)⟩ (hD1.weaken (fun k q _ h => hF q.1 h)) (fun i j a b ha hb hab => ?_)⟩
  · obtain ⟨g1, g2⟩ := apart k q hq
    exact (hP k q (j_lf hq)).kept (hk q.1 g1 g2)
  · exact (apart i a ha).2 (by rw [hab]; exact hD1.2 j b hb)
section JN
variable {p : Program} {l : Launch} {e9 : Env} {R : Room} {s : State} {m : MethodId} {args : Array Value} {below : List Frame} {meth : Method} {c : Code} {H : Heap} {locs : List Loc} {cells slots : Nat} {Q : State → Prop}
variable {cc : ByteArray} {nL : Nat} {own : String} {pc : Nat} {ls : Array Slot} {rest : List Value}
theorem j_newI (S : jS p m c cc nL s args own) {D : JD} {ws : va_W} {A : Nat → Prop} {H0 : Heap} (hG : j_K D s) (hP : va_P D.1 j_cl ws H) (hD : va_D A ws) (hS : va_S A H0 H locs) (hA : ∀ q, H0.size ≤ q → A q) (harr : Cond.arrayClass .int ∈ lw_g) {n : Int} (N : Nat) (h0 : 0 ≤ n ∧ n ≤ 1000000) (e : n.toNat = N) (hcells : cells + 1 ≤ R.cells) (hslots : slots + N ≤ R.slots) (hdg : decode cc pc = .ok (.newarray .int, 2))
    (kk : ∀ (q : Nat) (H1 : Heap), va_P D.1 j_cl (ws ++ [(q, .inl (D.2.1, N, .inl (fun _ => J 0)))]) H1 → va_D A (ws ++ [(q, .inl (D.2.1, N, .inl (fun _ => J 0)))]) → va_S A H0 H1 locs → W p l e9 R s m args below meth c H1 locs (cells + 1) (slots + N) Q (F0 m (pc + 2) ls (.ref q :: rest))) : W p l e9 R s m args below meth c H locs cells slots Q (F0 m pc ls (.int (J n) :: rest)) := by
  refine va_newa (atype := .int) S.1 S.2.1 (S.2.2.2.2 _ harr) (ty := .int) rfl hG.1 hP hD hS hA (N' := N) (a0 := (N, .inl (fun _ => J 0))) (fun cA => rfl) (fun q => absurd ((J_lt (by omega) (by omega)).mp (J_0 ▸ q)) (by omega)) (by rw [J_clamp (by omega)]; exact e) (by show N * 4 ≤ 536870912; omega) hcells hslots hdg (fun q cA H1 hK1 hP1 hD1 hS1 => ?_)
  have h1 : s.vm.findClass ("[" ++ FieldType.toString .int) = some cA := (hK1.2 3 (cA, .int) rfl).2
  have h2 : s.vm.findClass ("[" ++ FieldType.toString .int) = some D.2.1 := (hG.1.2 0 (D.2.1, .int) rfl).2
  have e1 : cA = D.2.1 := Option.some.inj (h1.symm.trans h2)
  subst e1
  exact kk q H1 hP1 hD1 hS1
theorem j_newL (S : jS p m c cc nL s args own) {D : JD} {ws : va_W} {A : Nat → Prop} {H0 : Heap} (hG : j_K D s) (hP : va_P D.1 j_cl ws H) (hD : va_D A ws) (hS : va_S A H0 H locs) (hA : ∀ q, H0.size ≤ q → A q) (harr : Cond.arrayClass .long ∈ lw_g) {n : Int} (N : Nat) (h0 : 0 ≤ n ∧ n ≤ 1000000) (e : n.toNat = N) (hcells : cells + 1 ≤ R.cells) (hslots : slots + N ≤ R.slots) (hdg : decode cc pc = .ok (.newarray .long, 2))
    (kk : ∀ (q : Nat) (H1 : Heap), va_P D.1 j_cl (ws ++ [(q, .inl (D.2.2.1, N, .inr (.inl (fun _ => 0))))]) H1 → va_D A (ws ++ [(q, .inl (D.2.2.1, N, .inr (.inl (fun _ => 0))))]) → va_S A H0 H1 locs → W p l e9 R s m args below meth c H1 locs (cells + 1) (slots + N) Q (F0 m (pc + 2) ls (.ref q :: rest))) : W p l e9 R s m args below meth c H locs cells slots Q (F0 m pc ls (.int (J n) :: rest)) := by
  refine va_newa (atype := .long) S.1 S.2.1 (S.2.2.2.2 _ harr) (ty := .long) rfl hG.1 hP hD hS hA (N' := N) (a0 := (N, .inr (.inl (fun _ => 0)))) (fun cA => rfl) (fun q => absurd ((J_lt (by omega) (by omega)).mp (J_0 ▸ q)) (by omega)) (by rw [J_clamp (by omega)]; exact e) (by show N * 8 ≤ 536870912; omega) hcells hslots hdg (fun q cA H1 hK1 hP1 hD1 hS1 => ?_)
  have h1 : s.vm.findClass ("[" ++ FieldType.toString .long) = some cA := (hK1.2 3 (cA, .long) rfl).2
  have h2 : s.vm.findClass ("[" ++ FieldType.toString .long) = some D.2.2.1 := (hG.1.2 1 (D.2.2.1, .long) rfl).2
  have e1 : cA = D.2.2.1 := Option.some.inj (h1.symm.trans h2)
  subst e1
  exact kk q H1 hP1 hD1 hS1
theorem j_newQ (S : jS p m c cc nL s args own) {D : JD} {ws : va_W} {A : Nat → Prop} {H0 : Heap} {index : Nat} (hG : j_K D s) (hN : j_KN s) (hP : va_P D.1 j_cl ws H) (hD : va_D A ws) (hS : va_S A H0 H locs) (hA : ∀ q, H0.size ≤ q → A q) (hcl : Cond.classLink own index "GridPolygons$Shape" ∈ lw_g) {n : Int} (N : Nat) (h0 : 0 ≤ n ∧ n ≤ 1000000) (e : n.toNat = N) (hcells : cells + 1 ≤ R.cells) (hslots : slots + N ≤ R.slots) (hdg : decode cc pc = .ok (.anewarray index, 3))
    (kk : ∀ (q : Nat) (H1 : Heap), va_P D.1 j_cl (ws ++ [(q, .inl (D.2.2.2, N, .inr (.inr (.inr (.inr (fun _ => none))))))]) H1 → va_D A (ws ++ [(q, .inl (D.2.2.2, N, .inr (.inr (.inr (.inr (fun _ => none))))))]) → va_S A H0 H1 locs → W p l e9 R s m args below meth c H1 locs (cells + 1) (slots + N) Q (F0 m (pc + 3) ls (.ref q :: rest))) : W p l e9 R s m args below meth c H locs cells slots Q (F0 m pc ls (.int (J n) :: rest)) := by
  refine va_newq S.1 S.2.1 S.2.2.2.1 (S.2.2.2.2 _ hcl) hN.1 hG.1 hP hD hS hA (N' := N) (fun q => absurd ((J_lt (by omega) (by omega)).mp (J_0 ▸ q)) (by omega)) (by rw [J_clamp (by omega)]; exact e) (by omega) hcells hslots hdg (fun q cA H1 hK1 hP1 hD1 hS1 => ?_)
  obtain ⟨_, _, _, _, _, h1⟩ : va_RA s cA (.object "GridPolygons$Shape") := (hK1.2 3 (cA, .object "GridPolygons$Shape") rfl).2
  obtain ⟨_, _, _, _, _, h2⟩ : va_RA s D.2.2.2 (.object "GridPolygons$Shape") := (hG.1.2 2 (D.2.2.2, .object "GridPolygons$Shape") rfl).2
  have e1 : cA = D.2.2.2 := Option.some.inj (h1.symm.trans h2)
  subst e1
  exact kk q H1 hP1 hD1 hS1
theorem j_iN (S : jS p m c cc nL s args own) {D : JD} {P : Heap → Prop} {b : Nat} {As : List Value} {U : Type} {B : U → Heap → Prop} {A1 A0 : Nat → Prop} {H0 : Heap} {host : String} {y : MethodName} {bytes : ByteArray} {maxL n index f nl mc ms : Nat} (hM : Met l y (jw y bytes maxL none) (jrc f nl mc ms) (jPN (.ref b :: As) D P) (jWv (fun _ : U => True) B A1) mc ms A1) (hy : jmI y bytes maxL n) (hl : va_Nw (.methodLinkNest own index y host) s) (hG : j_K D s) (hN : j_KN s) (hP : P H) (hS : va_S A0 H0 H locs) (hA : ∀ q, A1 q → A0 q) (hn : As.length = n) (hls : ls.size = nL) (hR : (f + 1 ≤ R.frames ∧ 8 + (maxL + 11) + nl ≤ R.locals) ∧ (rest.map fun v => v.category).sum ≤ 8 ∧ cells + mc ≤ R.cells ∧ slots + ms ≤ R.slots) {st0 : List Value} (hst : st0 = As.reverse ++ .ref b :: rest) (hdg : decode cc pc = .ok (.invokespecial index, 3))
    (k : ∀ (u : U) (H1 : Heap) (locs1 : List Loc), B u H1 → (H.size ≤ H1.size ∧ ∀ q : Nat, q < H.size → ¬ A1 q → H1[q]? = H[q]?) → va_S A0 H0 H1 locs1 → W p l e9 R s m args below meth c H1 locs1 (cells + mc) (slots + ms) Q (F0 m (pc + 3) ls rest)) : W p l e9 R s m args below meth c H locs cells slots Q (F0 m pc ls st0) := by
  refine va_callv (va_runIN S hM ⟨va_cnB n S.2.2.2.2 (j_good hy.1) rfl rfl rfl hl (S.2.2.2.2 _ hy.2.1) hy.2.2.2.2 hR.1, hy.2.2.2.1, S.2.2.2.2 _ hy.2.2.1⟩ ⟨jPN.blind, jPN.at hG hN hP⟩ rfl hn hls hst (lv_room hR.2.1) hdg hR.2.2) hS (fun q _ h => hA q h) hA (fun u t H1 locs1 ht hvm hp hB hz hk hS1 => ?_)
  exact k u H1 locs1 (ht ▸ hB) ⟨hz, hk⟩ hS1
theorem j_iS (S : jS p m c cc nL s args own) {D : JD} {P : Heap → Prop} {b : Nat} {As : List Value} {U : Type} {B : U → Heap → Prop} {A1 A0 : Nat → Prop} {H0 : Heap} {y : MethodName} {bytes : ByteArray} {maxL n index f nl mc ms : Nat} (hM : Met l y (jw y bytes maxL none) (jrc f nl mc ms) (jPN (.ref b :: As) D P) (jWv (fun _ : U => True) B A1) mc ms A1) (hy : jmI y bytes maxL n) (hl : Cond.methodLink own index y ∈ lw_g) (hG : j_K D s) (hN : j_KN s) (hP : P H) (hS : va_S A0 H0 H locs) (hA : ∀ q, A1 q → A0 q) (hn : As.length = n) (hls : ls.size = nL) (hR : (f + 1 ≤ R.frames ∧ 8 + (maxL + 11) + nl ≤ R.locals) ∧ (rest.map fun v => v.category).sum ≤ 8 ∧ cells + mc ≤ R.cells ∧ slots + ms ≤ R.slots) {st0 : List Value} (hst : st0 = As.reverse ++ .ref b :: rest) (hdg : decode cc pc = .ok (.invokespecial index, 3))
    (k : ∀ (u : U) (H1 : Heap) (locs1 : List Loc), B u H1 → (H.size ≤ H1.size ∧ ∀ q : Nat, q < H.size → ¬ A1 q → H1[q]? = H[q]?) → va_S A0 H0 H1 locs1 → W p l e9 R s m args below meth c H1 locs1 (cells + mc) (slots + ms) Q (F0 m (pc + 3) ls rest)) : W p l e9 R s m args below meth c H locs cells slots Q (F0 m pc ls st0) := by
  refine va_callv (va_runI S hM ⟨callB_of n S.2.2.2.2 (j_good hy.1) rfl rfl rfl (S.2.2.2.2 _ hy.2.1) (S.2.2.2.2 _ hl) hy.2.2.2.2 hR.1, hy.2.2.2.1, S.2.2.2.2 _ hy.2.2.1⟩ ⟨jPN.blind, jPN.at hG hN hP⟩ rfl hn hls hst (lv_room hR.2.1) hdg hR.2.2) hS (fun q _ h => hA q h) hA (fun u t H1 locs1 ht hvm hp hB hz hk hS1 => ?_)
  exact k u H1 locs1 (ht ▸ hB) ⟨hz, hk⟩ hS1
end JN

