
set_option maxHeartbeats 4000000 in
set_option maxRecDepth 100000 in
theorem c_X12_pieces3 (l : Launch) (D : JD) (o : Nat) (q : Nat → Nat) (u : MS) (A : Nat → Prop) (hD : va_D A (mW D o q u)) (s : Int) (what : Int) (p0 : IM u) (p1 : -2147483648 ≤ s ∧ s ≤ 2147483647) (p2 : -2147483648 ≤ what ∧ what ≤ 2147483647) : Met l yX12_pieces (jw yX12_pieces cX12_pieces 9 (some .int)) (jr 6 131) (jP [.ref o, .int (J s), .int (J what)] D (fun H => va_P D.1 j_cl (mW D o q u) H)) (jWi (fun z u' => ∃ X : Nat → Int, ∃ Y : Nat → Int, ∃ n : Int, ∃ C : Nat → Int64, ∃ m : Int, u' = (uV (uL (uV (uI (uI u 10 X) 11 Y) 12 n) 29 C) 30 m) ∧ (IM u' ∧ psM u s what z)) (fun u' H => va_P D.1 j_cl (mW D o q u') H) A) 0 0 A := by
  refine Met.ofW (cc := cX12_pieces) (maxL := 9) (ret := (some .int)) (by decide) rfl ?_
  intro pr en st mi args below meth co s₁ B hml hv
  obtain ⟨rfl, hG, hP⟩ := hv
  have hr := B.returns
  have hlk := B.notSynchronized
  have SS : jS pr mi co cX12_pieces 9 st _ RX12 := ⟨B.exec, B.bytes, hml, findClass_of_methodNamed B.named, fun w hw => atoms_spec (ws := (jw yX12_pieces cX12_pieces 9 (some .int))) B.pre w (List.mem_cons_of_mem _ hw)⟩
  have hl := lv_entry ([.ref o, .int (J s), .int (J what)]) (n := 9) (Nat.le_of_ble_eq_true rfl)
  rw [lg_entry_eq]
  generalize (lg_sl ([.ref o, .int (J s), .int (J what)]) ++ List.replicate (9 - (lg_sl ([.ref o, .int (J s), .int (J what)])).length) Slot.unset).toArray = ls at hl ⊢
  have hl : lv_has ls 9 [(0, .ref o), (1, .int (J s)), (2, .int (J what))] := hl
  have hS : va_S A st.heap st.heap [] := va_S.rf
  refine lv_iload_n SS.1 SS.2.1 dX12_pieces_0 rfl (lv_at hl 1 rfl) ?_
  refine j_sRi SS (As := [.int (J s)]) (rest := []) (c_X12_isShape l D s (show -2147483648 ≤ s ∧ s ≤ 2147483647 from (by omega))) mf_X12_isShape kw_1156 hG trivial rfl hl.1 ⟨⟨Nat.le_of_ble_eq_true rfl, Nat.le_of_ble_eq_true rfl⟩, Nat.le_of_ble_eq_true rfl, Nat.le_refl _, Nat.le_refl _⟩ rfl dX12_pieces_1 (fun z_1 h_1 => ?_)
  have h_1 : (z_1 = 1 ∧ (0 ≤ s ∧ s ≤ 7)) ∨ (z_1 = 0 ∧ ¬ (0 ≤ s ∧ s ≤ 7)) := h_1
  refine j_if_eq SS (tgt := 16) (x := z_1) dX12_pieces_4 (by decide) (by omega) (fun c_4 => ?_) (fun c_4 => ?_)
  · skip
    refine j_iconst SS dX12_pieces_16 ?_
    exact W.iret SS.1 SS.2.1 hr (fun t ht hW => ⟨⟨_, (uV (uL (uV (uI (uI u 10 (u.1 10)) 11 (u.1 11)) 12 (u.2.2 12)) 29 (u.2.1 29)) 30 (u.2.2 30)), rfl, ⟨(-1), rfl, (⟨(u.1 10), (u.1 11), (u.2.2 12), (u.2.1 29), (u.2.2 30), rfl, ⟨p0, Or.inl ⟨fun q => by omega, rfl⟩⟩⟩)⟩, by show va_P D.1 j_cl (mW D o q (uV (uL (uV (uI (uI u 10 (u.1 10)) 11 (u.1 11)) 12 (u.2.2 12)) 29 (u.2.1 29)) 30 (u.2.2 30))) t.heap; rw [ht]; exact hP⟩, hS.F ht⟩) hS.2.2 dX12_pieces_17 hlk
  · skip
    refine lv_iload_n SS.1 SS.2.1 dX12_pieces_7 rfl (lv_at hl 2 rfl) ?_
    refine j_iconst SS dX12_pieces_8 ?_
    refine j_iconst SS dX12_pieces_9 ?_
    refine j_sRi SS (As := [.int (J what), .int (J 0), .int (J 2)]) (rest := []) (c_X12_in l D what 0 2 (show -2147483648 ≤ what ∧ what ≤ 2147483647 from (by omega)) (show -2147483648 ≤ (0 : Int) ∧ (0 : Int) ≤ 2147483647 from (by omega)) (show -2147483648 ≤ (2 : Int) ∧ (2 : Int) ≤ 2147483647 from (by omega))) mf_X12_in kw_1159 hG trivial rfl hl.1 ⟨⟨Nat.le_of_ble_eq_true rfl, Nat.le_of_ble_eq_true rfl⟩, Nat.le_of_ble_eq_true rfl, Nat.le_refl _, Nat.le_refl _⟩ rfl dX12_pieces_10 (fun z_10 h_10 => ?_)
    have h_10 : (z_10 = 1 ∧ ((0 : Int) ≤ what ∧ what ≤ (2 : Int))) ∨ (z_10 = 0 ∧ ¬ ((0 : Int) ≤ what ∧ what ≤ (2 : Int))) := h_10
    refine j_if_ne SS (tgt := 18) (x := z_10) dX12_pieces_13 (by decide) (by omega) (fun c_13 => ?_) (fun c_13 => ?_)
    · skip
      refine lv_aload_n SS.1 SS.2.1 dX12_pieces_18 rfl (lv_at hl 0 rfl) ?_
      refine lv_iload_n SS.1 SS.2.1 dX12_pieces_19 rfl (lv_at hl 1 rfl) ?_
      refine j_vRi SS (As := [.int (J s)]) (rest := []) (c_X12_isLifted l D o q u s (show 0 ≤ s ∧ s ≤ 7 from (by omega)) (show Sh u s from (p0.1 _ (by omega) (by omega)))) mf_X12_isLifted kw_1471 hG hP hP (ci := 8) (q0 := 0) rfl rfl rfl rfl hl.1 ⟨⟨Nat.le_of_ble_eq_true rfl, Nat.le_of_ble_eq_true rfl⟩, Nat.le_of_ble_eq_true rfl, Nat.le_refl _, Nat.le_refl _⟩ rfl dX12_pieces_20 (fun z_20 h_20 => ?_)
      have h_20 : (z_20 = 1 ∧ 2 < mN u s ∧ mEd u s + mIn u s ≤ 40) ∨ (z_20 = 0 ∧ ¬ (2 < mN u s ∧ mEd u s + mIn u s ≤ 40)) := h_20
      refine j_if_ne SS (tgt := 29) (x := z_20) dX12_pieces_23 (by decide) (by omega) (fun c_23 => ?_) (fun c_23 => ?_)
      · skip
        refine lv_aload_n SS.1 SS.2.1 dX12_pieces_29 rfl (lv_at hl 0 rfl) ?_
        refine lv_iload_n SS.1 SS.2.1 dX12_pieces_30 rfl (lv_at hl 1 rfl) ?_
        refine j_vWv SS (As := [.int (J s)]) (rest := []) (c_X12_findPieces3 l D o q u A (mW_D hD) s (show IM u from (p0)) (show 0 ≤ s ∧ s ≤ 7 from (by omega)) (show 2 < mN u s from (by omega)) (show mEd u s + mIn u s ≤ 40 from (by omega))) mf_X12_findPieces kw_1479 hG hP hP (ci := 8) (q0 := 0) rfl rfl rfl hS (fun _ h => h) rfl hl.1 ⟨⟨Nat.le_of_ble_eq_true rfl, Nat.le_of_ble_eq_true rfl⟩, Nat.le_of_ble_eq_true rfl, Nat.le_refl _, Nat.le_refl _⟩ rfl dX12_pieces_31 (fun u31 H locs h_31 hP _ hS => ?_)
        obtain ⟨X_31, Y_31, n_31, C_31, m_31, rfl, h_31⟩ := h_31
        have hP : va_P D.1 j_cl (mW D o q (uV (uL (uV (uI (uI u 10 X_31) 11 Y_31) 12 n_31) 29 C_31) 30 m_31)) H := hP
        have h_31 : ((0 ≤ m_31 ∧ m_31 ≤ 80) ∧ IM (uV (uL (uV (uI (uI u 10 X_31) 11 Y_31) 12 n_31) 29 C_31) 30 m_31)) ∧ ((0 ≤ n_31 ∧ n_31 ≤ 40) ∧ OL (PBx u s) n_31 X_31 Y_31) ∧ PL9 PB X_31 Y_31 (h9 ((u.1 3)) s) n_31.toNat m_31 C_31 ∧ DN9 X_31 Y_31 ((u.1 3)) s n_31 C_31 m_31 (fun i j k => i < n_31) := h_31
        obtain ⟨⟨hm, hI⟩, ⟨hn40, hOL⟩, hPL, hDN⟩ := h_31
        obtain ⟨F, hF1, hF2⟩ := PL_F (PB_en (by omega)) hPL (fun f hf => DN_gs hDN (fun i9 j9 k9 a1 a2 a3 a4 => by show i9 < n_31; omega) f hf)
        refine lv_iload_n SS.1 SS.2.1 dX12_pieces_34 rfl (lv_at hl 2 rfl) ?_
        refine j_if_ne SS (tgt := 43) (x := what) dX12_pieces_35 (by decide) (by omega) (fun c_35 => ?_) (fun c_35 => ?_)
        · skip
          refine lv_lconst (v := 0) SS.1 SS.2.1 dX12_pieces_43 (by decide +kernel) ?_
          refine lv_lstore_n (lv' := [(3, .long 0), (0, .ref o), (1, .int (J s)), (2, .int (J what))]) SS.1 SS.2.1 dX12_pieces_44 rfl hl (by decide) rfl (fun ls hl => ?_)
          refine j_iconst SS dX12_pieces_45 ?_
          refine lv_istore (lv' := [(5, .int (J 0)), (3, .long 0), (0, .ref o), (1, .int (J s)), (2, .int (J what))]) SS.1 SS.2.1 dX12_pieces_46 hl (by decide) rfl (fun ls hl => ?_)
          refine j_iconst SS dX12_pieces_48 ?_
          refine lv_istore (lv' := [(6, .int (J 0)), (5, .int (J 0)), (3, .long 0), (0, .ref o), (1, .int (J s)), (2, .int (J what))]) SS.1 SS.2.1 dX12_pieces_49 hl (by decide) rfl (fun ls hl => ?_)
          have L_51 : ∀ (nn : Nat) (w : Int64) (n9 : Int) (p : Int) (H : Heap) (locs : List Loc) (hP : va_P D.1 j_cl (mW D o q (uV (uL (uV (uI (uI u 10 X_31) 11 Y_31) 12 n_31) 29 C_31) 30 m_31)) H) (hS : va_S A st.heap H locs) (ls : Array Slot) (hl : lv_has ls 9 [(0, .ref o), (1, .int (J s)), (2, .int (J what)), (3, .long w), (5, .int (J n9)), (6, .int (J p))]) (i51_0 : 0 ≤ p ∧ p ≤ m_31) (i51_1 : 0 ≤ n9 ∧ n9 ≤ p) (i51_2 : w = PB (sn9 F p.toNat) n_31.toNat) (i51_3 : cu9 X_31 Y_31 n_31.toNat F p.toNat n9), (m_31 - p).toNat < nn → W pr l en (headSpec (jw yX12_pieces cX12_pieces 9 (some .int)) (jr 6 131)).room st mi (([.ref o, .int (J s), .int (J what)] : List Value).toArray) below meth co H locs 0 0 (MQ below (jWi (fun z u' => ∃ X : Nat → Int, ∃ Y : Nat → Int, ∃ n : Int, ∃ C : Nat → Int64, ∃ m : Int, u' = (uV (uL (uV (uI (uI u 10 X) 11 Y) 12 n) 29 C) 30 m) ∧ (IM u' ∧ psM u s what z)) (fun u' H => va_P D.1 j_cl (mW D o q u') H) A) (([.ref o, .int (J s), .int (J what)] : List Value).toArray) st 0 0 A) (F0 mi 51 ls []) := by
            intro nn
            induction nn with
            | zero => intros; omega
            | succ nn ih_51 =>
              intro w n9 p  H locs hP hS ls hl i51_0 i51_1 i51_2 i51_3 hm
              refine lv_iload SS.1 SS.2.1 dX12_pieces_51 (lv_at hl 5 rfl) ?_
              refine lv_aload_n SS.1 SS.2.1 dX12_pieces_53 rfl (lv_at hl 0 rfl) ?_
              refine j_get SS hG hP 0 (v := .int (J m_31)) (C := RX12) (T := TX12) (N := 31) rfl rfl inX12 30 (by decide) (ref := RX12) kw_1088 rfl rfl dX12_pieces_54 ?_
              refine j_icmp_ge SS (tgt := 128) (x := p) (y := m_31) dX12_pieces_57 (by decide) (by omega) (by omega) (fun c_57 => ?_) (fun c_57 => ?_)
              · skip
                refine lv_iload_n SS.1 SS.2.1 dX12_pieces_128 rfl (lv_at hl 2 rfl) ?_
                refine j_iconst SS dX12_pieces_129 ?_
                refine j_icmp_ne SS (tgt := 140) (x := what) (y := 1) dX12_pieces_130 (by decide) (by omega) (by decide) (fun c_130 => ?_) (fun c_130 => ?_)
                · skip
                  refine lv_iload SS.1 SS.2.1 dX12_pieces_140 (lv_at hl 4 rfl) ?_
                  exact W.iret SS.1 SS.2.1 hr (fun t ht hW => ⟨⟨_, (uV (uL (uV (uI (uI u 10 X_31) 11 Y_31) 12 n_31) 29 C_31) 30 m_31), rfl, ⟨n9, rfl, (⟨X_31, Y_31, n_31, C_31, m_31, rfl, by first | exact ⟨hI, Or.inr ⟨by omega, Or.inr ⟨by unfold lfM; omega, n_31, X_31, Y_31, m_31, F, ⟨hn40, hOL, hF1⟩, Or.inr (Or.inl ⟨by omega, by rw [h_134.1, bI_40, i51_2, ct_PB (by omega), show p = m_31 by omega]⟩)⟩⟩⟩ | exact ⟨hI, Or.inr ⟨by omega, Or.inr ⟨by unfold lfM; omega, n_31, X_31, Y_31, m_31, F, ⟨hn40, hOL, hF1⟩, Or.inr (Or.inr ⟨by omega, by rw [show m_31 = p by omega]; exact i51_3⟩)⟩⟩⟩⟩)⟩, by show va_P D.1 j_cl (mW D o q (uV (uL (uV (uI (uI u 10 X_31) 11 Y_31) 12 n_31) 29 C_31) 30 m_31)) t.heap; rw [ht]; exact hP⟩, hS.F ht⟩) hS.2.2 dX12_pieces_142 hlk
                · skip
                  refine lv_lload_n SS.1 SS.2.1 dX12_pieces_133 rfl (lv_at hl 3 rfl) ?_
                  refine j_sRi SS (As := [.long w]) (rest := []) (c_X12_bitsIn l D w ) mf_X12_bitsIn kw_1490 hG trivial rfl hl.1 ⟨⟨Nat.le_of_ble_eq_true rfl, Nat.le_of_ble_eq_true rfl⟩, Nat.le_of_ble_eq_true rfl, Nat.le_refl _, Nat.le_refl _⟩ rfl dX12_pieces_134 (fun z_134 h_134 => ?_)
                  have h_134 : z_134 = smI (bvI w) 40 ∧ 0 ≤ z_134 ∧ z_134 ≤ 40 := h_134
                  refine lv_goto (tgt := 142) SS.1 SS.2.1 dX12_pieces_137 (by decide) ?_
                  exact W.iret SS.1 SS.2.1 hr (fun t ht hW => ⟨⟨_, (uV (uL (uV (uI (uI u 10 X_31) 11 Y_31) 12 n_31) 29 C_31) 30 m_31), rfl, ⟨z_134, rfl, (⟨X_31, Y_31, n_31, C_31, m_31, rfl, by first | exact ⟨hI, Or.inr ⟨by omega, Or.inr ⟨by unfold lfM; omega, n_31, X_31, Y_31, m_31, F, ⟨hn40, hOL, hF1⟩, Or.inr (Or.inl ⟨by omega, by rw [h_134.1, bI_40, i51_2, ct_PB (by omega), show p = m_31 by omega]⟩)⟩⟩⟩ | exact ⟨hI, Or.inr ⟨by omega, Or.inr ⟨by unfold lfM; omega, n_31, X_31, Y_31, m_31, F, ⟨hn40, hOL, hF1⟩, Or.inr (Or.inr ⟨by omega, by rw [show m_31 = p by omega]; exact i51_3⟩)⟩⟩⟩⟩)⟩, by show va_P D.1 j_cl (mW D o q (uV (uL (uV (uI (uI u 10 X_31) 11 Y_31) 12 n_31) 29 C_31) 30 m_31)) t.heap; rw [ht]; exact hP⟩, hS.F ht⟩) hS.2.2 dX12_pieces_142 hlk
              · skip
                refine lv_aload_n SS.1 SS.2.1 dX12_pieces_60 rfl (lv_at hl 0 rfl) ?_
                refine j_get SS hG hP 0 (v := .ref (q 29)) (C := RX12) (T := TX12) (N := 31) rfl rfl inX12 29 (by decide) (ref := RX12) kw_1087 rfl rfl dX12_pieces_61 ?_
                refine lv_iload SS.1 SS.2.1 dX12_pieces_64 (lv_at hl 5 rfl) ?_
                refine j_lald SS hG hP 23 (n := 100) (f := C_31) rfl (z := p) (by omega) (by omega) dX12_pieces_66 ?_
                refine lv_lstore (lv' := [(7, .long (C_31 (p).toNat)), (0, .ref o), (1, .int (J s)), (2, .int (J what)), (3, .long w), (5, .int (J n9)), (6, .int (J p))]) SS.1 SS.2.1 dX12_pieces_67 hl (by decide) rfl (fun ls hl => ?_)
                refine lv_lload_n SS.1 SS.2.1 dX12_pieces_69 rfl (lv_at hl 4 rfl) ?_
                refine lv_lload SS.1 SS.2.1 dX12_pieces_70 (lv_at hl 0 rfl) ?_
                refine lv_lor SS.1 SS.2.1 dX12_pieces_72 ?_
                refine lv_lstore_n (lv' := [(3, .long (w ||| (C_31 (p).toNat))), (7, .long (C_31 (p).toNat)), (0, .ref o), (1, .int (J s)), (2, .int (J what)), (5, .int (J n9)), (6, .int (J p))]) SS.1 SS.2.1 dX12_pieces_73 rfl hl (by decide) rfl (fun ls hl => ?_)
                refine lv_iload SS.1 SS.2.1 dX12_pieces_74 (lv_at hl 5 rfl) ?_
                refine lv_lload SS.1 SS.2.1 dX12_pieces_76 (lv_at hl 1 rfl) ?_
                refine j_sRi SS (As := [.long (C_31 (p).toNat)]) (rest := [.int (J n9)]) (c_X12_bitsIn l D (C_31 (p).toNat) ) mf_X12_bitsIn kw_1490 hG trivial rfl hl.1 ⟨⟨Nat.le_of_ble_eq_true rfl, Nat.le_of_ble_eq_true rfl⟩, Nat.le_of_ble_eq_true rfl, Nat.le_refl _, Nat.le_refl _⟩ rfl dX12_pieces_78 (fun z_78 h_78 => ?_)
                have h_78 : z_78 = smI (bvI (C_31 (p).toNat)) 40 ∧ 0 ≤ z_78 ∧ z_78 ≤ 40 := h_78
                have hCp := hF2 p.toNat (by omega)
                have hc78 : z_78 = ct9 (F p.toNat) n_31.toNat := by rw [h_78.1, bI_40, hCp, ct_PB (by omega)]
                refine j_iconst SS dX12_pieces_81 ?_
                refine j_icmp_ne SS (tgt := 118) (x := z_78) (y := 3) dX12_pieces_82 (by decide) (by omega) (by decide) (fun c_82 => ?_) (fun c_82 => ?_)
                · skip
                  refine j_iconst SS dX12_pieces_118 ?_
                  refine j_iadd SS (x := n9) (y := 0) dX12_pieces_119 ?_
                  refine lv_istore (lv' := [(5, .int (J (n9 + 0))), (3, .long (w ||| (C_31 (p).toNat))), (7, .long (C_31 (p).toNat)), (0, .ref o), (1, .int (J s)), (2, .int (J what)), (6, .int (J p))]) SS.1 SS.2.1 dX12_pieces_120 hl (by decide) rfl (fun ls hl => ?_)
                  refine lv_iinc (v := J (p + 1)) (lv' := [(6, .int (J (p + 1))), (5, .int (J (n9 + 0))), (3, .long (w ||| (C_31 (p).toNat))), (7, .long (C_31 (p).toNat)), (0, .ref o), (1, .int (J s)), (2, .int (J what))]) SS.1 SS.2.1 dX12_pieces_122 hl (k := 6) rfl (J_add _ _) (by decide) rfl (fun ls hl => ?_)
                  refine lv_goto (tgt := 51) SS.1 SS.2.1 dX12_pieces_125 (by decide) ?_
                  exact ih_51 (w ||| (C_31 (p).toNat)) (n9 + 0) (p + 1) _ _ hP hS ls (lv_sub hl [4, 5, 6, 2, 1, 0] rfl) (by omega) (by omega) (sn_s (by omega) (by omega) i51_2 hCp) (by first | exact cu9_p (by omega) i51_3 (Or.inr ⟨ut_n (by omega), by omega⟩) | exact cu9_p (by omega) i51_3 (Or.inl ⟨(ut_z (by omega) he104 h_107).mpr (by omega), by omega⟩) | exact cu9_p (by omega) i51_3 (Or.inr ⟨fun w9 => by have w8 := (ut_z (by omega) he104 h_107).mp w9; omega, by omega⟩)) (by omega)
                · skip
                  refine lv_aload_n SS.1 SS.2.1 dX12_pieces_85 rfl (lv_at hl 2 rfl) ?_
                  refine lv_lload SS.1 SS.2.1 dX12_pieces_86 (lv_at hl 1 rfl) ?_
                  refine j_iconst SS dX12_pieces_88 ?_
                  refine j_sRi SS (As := [.long (C_31 (p).toNat), .int (J 0)]) (rest := [.ref o, .int (J n9)]) (c_X12_bitAt3 l D (C_31 (p).toNat) 0 (show -2147483648 ≤ (0 : Int) ∧ (0 : Int) ≤ 2147483647 from (by omega))) mf_X12_bitAt kw_1493 hG trivial rfl hl.1 ⟨⟨Nat.le_of_ble_eq_true rfl, Nat.le_of_ble_eq_true rfl⟩, Nat.le_of_ble_eq_true rfl, Nat.le_refl _, Nat.le_refl _⟩ rfl dX12_pieces_89 (fun z_89 h_89 => ?_)
                  have h_89 : (z_89 = -9 ∧ (0 ≤ (0 : Int) → ct9 (gb (C_31 (p).toNat)) 40 ≤ (0 : Int))) ∨ ((0 ≤ z_89 ∧ z_89 < 40) ∧ gb (C_31 (p).toNat) z_89.toNat = true ∧ ct9 (gb (C_31 (p).toNat)) z_89.toNat = (0 : Int)) := h_89
                  have g89 : z_89 = mem9 (F p.toNat) n_31.toNat 0 ∧ 0 ≤ z_89 ∧ z_89 < n_31 := by rcases at_PB (i := 0) (by omega) hCp (by omega) h_89 with q9 | q9; omega; omega
                  refine lv_lload SS.1 SS.2.1 dX12_pieces_92 (lv_at hl 1 rfl) ?_
                  refine j_iconst SS dX12_pieces_94 ?_
                  refine j_sRi SS (As := [.long (C_31 (p).toNat), .int (J 1)]) (rest := [.int (J z_89), .ref o, .int (J n9)]) (c_X12_bitAt3 l D (C_31 (p).toNat) 1 (show -2147483648 ≤ (1 : Int) ∧ (1 : Int) ≤ 2147483647 from (by omega))) mf_X12_bitAt kw_1493 hG trivial rfl hl.1 ⟨⟨Nat.le_of_ble_eq_true rfl, Nat.le_of_ble_eq_true rfl⟩, Nat.le_of_ble_eq_true rfl, Nat.le_refl _, Nat.le_refl _⟩ rfl dX12_pieces_95 (fun z_95 h_95 => ?_)
                  have h_95 : (z_95 = -9 ∧ (0 ≤ (1 : Int) → ct9 (gb (C_31 (p).toNat)) 40 ≤ (1 : Int))) ∨ ((0 ≤ z_95 ∧ z_95 < 40) ∧ gb (C_31 (p).toNat) z_95.toNat = true ∧ ct9 (gb (C_31 (p).toNat)) z_95.toNat = (1 : Int)) := h_95
                  have g95 : z_95 = mem9 (F p.toNat) n_31.toNat 1 ∧ 0 ≤ z_95 ∧ z_95 < n_31 := by rcases at_PB (i := 1) (by omega) hCp (by omega) h_95 with q9 | q9; omega; omega
                  refine lv_lload SS.1 SS.2.1 dX12_pieces_98 (lv_at hl 1 rfl) ?_
                  refine j_iconst SS dX12_pieces_100 ?_
                  refine j_sRi SS (As := [.long (C_31 (p).toNat), .int (J 2)]) (rest := [.int (J z_95), .int (J z_89), .ref o, .int (J n9)]) (c_X12_bitAt3 l D (C_31 (p).toNat) 2 (show -2147483648 ≤ (2 : Int) ∧ (2 : Int) ≤ 2147483647 from (by omega))) mf_X12_bitAt kw_1493 hG trivial rfl hl.1 ⟨⟨Nat.le_of_ble_eq_true rfl, Nat.le_of_ble_eq_true rfl⟩, Nat.le_of_ble_eq_true rfl, Nat.le_refl _, Nat.le_refl _⟩ rfl dX12_pieces_101 (fun z_101 h_101 => ?_)
                  have h_101 : (z_101 = -9 ∧ (0 ≤ (2 : Int) → ct9 (gb (C_31 (p).toNat)) 40 ≤ (2 : Int))) ∨ ((0 ≤ z_101 ∧ z_101 < 40) ∧ gb (C_31 (p).toNat) z_101.toNat = true ∧ ct9 (gb (C_31 (p).toNat)) z_101.toNat = (2 : Int)) := h_101
                  have g101 : z_101 = mem9 (F p.toNat) n_31.toNat 2 ∧ 0 ≤ z_101 ∧ z_101 < n_31 := by rcases at_PB (i := 2) (by omega) hCp (by omega) h_101 with q9 | q9; omega; omega
                  refine j_vRi SS (As := [.int (J z_89), .int (J z_95), .int (J z_101)]) (rest := [.int (J n9)]) (c_X12_turn l D o q (uV (uL (uV (uI (uI u 10 X_31) 11 Y_31) 12 n_31) 29 C_31) 30 m_31) z_89 z_95 z_101 (show 0 ≤ z_89 ∧ z_89 < 6561 from (by omega)) (show 0 ≤ z_95 ∧ z_95 < 6561 from (by omega)) (show 0 ≤ z_101 ∧ z_101 < 6561 from (by omega)) (show bd 40 (X_31) (Y_31) 6561 from (hI.2.2))) mf_X12_turn kw_1427 hG hP hP (ci := 8) (q0 := 0) rfl rfl rfl rfl hl.1 ⟨⟨Nat.le_of_ble_eq_true rfl, Nat.le_of_ble_eq_true rfl⟩, Nat.le_of_ble_eq_true rfl, Nat.le_refl _, Nat.le_refl _⟩ rfl dX12_pieces_104 (fun z_104 h_104 => ?_)
                  have h_104 : z_104 = tn (X_31) (Y_31) z_89.toNat z_95.toNat z_101.toNat ∧ -12800 ≤ z_104 ∧ z_104 ≤ 12800 := h_104
                  have he104 : z_104 = tn X_31 Y_31 (mem9 (F p.toNat) n_31.toNat 0).toNat (mem9 (F p.toNat) n_31.toNat 1).toNat (mem9 (F p.toNat) n_31.toNat 2).toNat := by rw [h_104.1, g89.1, g95.1, g101.1]
                  refine j_sRi SS (As := [.int (J z_104)]) (rest := [.int (J n9)]) (c_X12_size l D z_104 (show -2147483648 < z_104 ∧ z_104 ≤ 2147483647 from (by omega))) mf_X12_size kw_1233 hG trivial rfl hl.1 ⟨⟨Nat.le_of_ble_eq_true rfl, Nat.le_of_ble_eq_true rfl⟩, Nat.le_of_ble_eq_true rfl, Nat.le_refl _, Nat.le_refl _⟩ rfl dX12_pieces_107 (fun z_107 h_107 => ?_)
                  have h_107 : (0 ≤ z_104 → z_107 = z_104) ∧ (z_104 < 0 → z_107 = -z_104) := h_107
                  refine j_iconst SS dX12_pieces_110 ?_
                  refine j_icmp_ne SS (tgt := 118) (x := z_107) (y := 1) dX12_pieces_111 (by decide) (by omega) (by decide) (fun c_111 => ?_) (fun c_111 => ?_)
                  · skip
                    refine j_iconst SS dX12_pieces_118 ?_
                    refine j_iadd SS (x := n9) (y := 0) dX12_pieces_119 ?_
                    refine lv_istore (lv' := [(5, .int (J (n9 + 0))), (3, .long (w ||| (C_31 (p).toNat))), (7, .long (C_31 (p).toNat)), (0, .ref o), (1, .int (J s)), (2, .int (J what)), (6, .int (J p))]) SS.1 SS.2.1 dX12_pieces_120 hl (by decide) rfl (fun ls hl => ?_)
                    refine lv_iinc (v := J (p + 1)) (lv' := [(6, .int (J (p + 1))), (5, .int (J (n9 + 0))), (3, .long (w ||| (C_31 (p).toNat))), (7, .long (C_31 (p).toNat)), (0, .ref o), (1, .int (J s)), (2, .int (J what))]) SS.1 SS.2.1 dX12_pieces_122 hl (k := 6) rfl (J_add _ _) (by decide) rfl (fun ls hl => ?_)
                    refine lv_goto (tgt := 51) SS.1 SS.2.1 dX12_pieces_125 (by decide) ?_
                    exact ih_51 (w ||| (C_31 (p).toNat)) (n9 + 0) (p + 1) _ _ hP hS ls (lv_sub hl [4, 5, 6, 2, 1, 0] rfl) (by omega) (by omega) (sn_s (by omega) (by omega) i51_2 hCp) (by first | exact cu9_p (by omega) i51_3 (Or.inr ⟨ut_n (by omega), by omega⟩) | exact cu9_p (by omega) i51_3 (Or.inl ⟨(ut_z (by omega) he104 h_107).mpr (by omega), by omega⟩) | exact cu9_p (by omega) i51_3 (Or.inr ⟨fun w9 => by have w8 := (ut_z (by omega) he104 h_107).mp w9; omega, by omega⟩)) (by omega)
                  · skip
                    refine j_iconst SS dX12_pieces_114 ?_
                    refine lv_goto (tgt := 119) SS.1 SS.2.1 dX12_pieces_115 (by decide) ?_
                    refine j_iadd SS (x := n9) (y := 1) dX12_pieces_119 ?_
                    refine lv_istore (lv' := [(5, .int (J (n9 + 1))), (3, .long (w ||| (C_31 (p).toNat))), (7, .long (C_31 (p).toNat)), (0, .ref o), (1, .int (J s)), (2, .int (J what)), (6, .int (J p))]) SS.1 SS.2.1 dX12_pieces_120 hl (by decide) rfl (fun ls hl => ?_)
                    refine lv_iinc (v := J (p + 1)) (lv' := [(6, .int (J (p + 1))), (5, .int (J (n9 + 1))), (3, .long (w ||| (C_31 (p).toNat))), (7, .long (C_31 (p).toNat)), (0, .ref o), (1, .int (J s)), (2, .int (J what))]) SS.1 SS.2.1 dX12_pieces_122 hl (k := 6) rfl (J_add _ _) (by decide) rfl (fun ls hl => ?_)
                    refine lv_goto (tgt := 51) SS.1 SS.2.1 dX12_pieces_125 (by decide) ?_
                    exact ih_51 (w ||| (C_31 (p).toNat)) (n9 + 1) (p + 1) _ _ hP hS ls (lv_sub hl [4, 5, 6, 2, 1, 0] rfl) (by omega) (by omega) (sn_s (by omega) (by omega) i51_2 hCp) (by first | exact cu9_p (by omega) i51_3 (Or.inr ⟨ut_n (by omega), by omega⟩) | exact cu9_p (by omega) i51_3 (Or.inl ⟨(ut_z (by omega) he104 h_107).mpr (by omega), by omega⟩) | exact cu9_p (by omega) i51_3 (Or.inr ⟨fun w9 => by have w8 := (ut_z (by omega) he104 h_107).mp w9; omega, by omega⟩)) (by omega)
          exact L_51 ((m_31 - (0 : Int)).toNat + 1) 0 0 0 _ _ hP hS ls (lv_sub hl [3, 4, 5, 2, 1, 0] rfl) (by omega) (by omega) ((sn_0 (by omega)).symm) (cu9_0) (Nat.lt_succ_self _)
        · skip
          refine lv_aload_n SS.1 SS.2.1 dX12_pieces_38 rfl (lv_at hl 0 rfl) ?_
          refine j_get SS hG hP 0 (v := .int (J m_31)) (C := RX12) (T := TX12) (N := 31) rfl rfl inX12 30 (by decide) (ref := RX12) kw_1088 rfl rfl dX12_pieces_39 ?_
          exact W.iret SS.1 SS.2.1 hr (fun t ht hW => ⟨⟨_, (uV (uL (uV (uI (uI u 10 X_31) 11 Y_31) 12 n_31) 29 C_31) 30 m_31), rfl, ⟨m_31, rfl, (⟨X_31, Y_31, n_31, C_31, m_31, rfl, ⟨hI, Or.inr ⟨by omega, Or.inr ⟨by unfold lfM; omega, n_31, X_31, Y_31, m_31, F, ⟨hn40, hOL, hF1⟩, Or.inl ⟨by omega, rfl⟩⟩⟩⟩⟩)⟩, by show va_P D.1 j_cl (mW D o q (uV (uL (uV (uI (uI u 10 X_31) 11 Y_31) 12 n_31) 29 C_31) 30 m_31)) t.heap; rw [ht]; exact hP⟩, hS.F ht⟩) hS.2.2 dX12_pieces_42 hlk
      · skip
        refine j_bipush SS dX12_pieces_26 (by decide +kernel) ?_
        exact W.iret SS.1 SS.2.1 hr (fun t ht hW => ⟨⟨_, (uV (uL (uV (uI (uI u 10 (u.1 10)) 11 (u.1 11)) 12 (u.2.2 12)) 29 (u.2.1 29)) 30 (u.2.2 30)), rfl, ⟨(-2), rfl, (⟨(u.1 10), (u.1 11), (u.2.2 12), (u.2.1 29), (u.2.2 30), rfl, ⟨p0, Or.inr ⟨by omega, Or.inl ⟨fun q => by unfold lfM at q; omega, rfl⟩⟩⟩⟩)⟩, by show va_P D.1 j_cl (mW D o q (uV (uL (uV (uI (uI u 10 (u.1 10)) 11 (u.1 11)) 12 (u.2.2 12)) 29 (u.2.1 29)) 30 (u.2.2 30))) t.heap; rw [ht]; exact hP⟩, hS.F ht⟩) hS.2.2 dX12_pieces_28 hlk
    · skip
      refine j_iconst SS dX12_pieces_16 ?_
      exact W.iret SS.1 SS.2.1 hr (fun t ht hW => ⟨⟨_, (uV (uL (uV (uI (uI u 10 (u.1 10)) 11 (u.1 11)) 12 (u.2.2 12)) 29 (u.2.1 29)) 30 (u.2.2 30)), rfl, ⟨(-1), rfl, (⟨(u.1 10), (u.1 11), (u.2.2 12), (u.2.1 29), (u.2.2 30), rfl, ⟨p0, Or.inl ⟨fun q => by omega, rfl⟩⟩⟩)⟩, by show va_P D.1 j_cl (mW D o q (uV (uL (uV (uI (uI u 10 (u.1 10)) 11 (u.1 11)) 12 (u.2.2 12)) 29 (u.2.1 29)) 30 (u.2.2 30))) t.heap; rw [ht]; exact hP⟩, hS.F ht⟩) hS.2.2 dX12_pieces_17 hlk

set_option maxHeartbeats 4000000 in
set_option maxRecDepth 100000 in
theorem c_X12_piece3 (l : Launch) (D : JD) (o : Nat) (q : Nat → Nat) (u : MS) (A : Nat → Prop) (hD : va_D A (mW D o q u)) (s : Int) (p : Int) (i : Int) (p0 : IM u) (p1 : -2147483648 ≤ s ∧ s ≤ 2147483647) (p2 : -2147483648 ≤ p ∧ p ≤ 2147483647) (p3 : -2147483648 ≤ i ∧ i ≤ 2147483647) : Met l yX12_piece (jw yX12_piece cX12_piece 5 (some .int)) (jr 6 131) (jP [.ref o, .int (J s), .int (J p), .int (J i)] D (fun H => va_P D.1 j_cl (mW D o q u) H)) (jWi (fun z u' => ∃ X : Nat → Int, ∃ Y : Nat → Int, ∃ n : Int, ∃ C : Nat → Int64, ∃ m : Int, u' = (uV (uL (uV (uI (uI u 10 X) 11 Y) 12 n) 29 C) 30 m) ∧ (IM u' ∧ pcM u s p i z)) (fun u' H => va_P D.1 j_cl (mW D o q u') H) A) 0 0 A := by
  refine Met.ofW (cc := cX12_piece) (maxL := 5) (ret := (some .int)) (by decide) rfl ?_
  intro pr en st mi args below meth co s₁ B hml hv
  obtain ⟨rfl, hG, hP⟩ := hv
  have hr := B.returns
  have hlk := B.notSynchronized
  have SS : jS pr mi co cX12_piece 5 st _ RX12 := ⟨B.exec, B.bytes, hml, findClass_of_methodNamed B.named, fun w hw => atoms_spec (ws := (jw yX12_piece cX12_piece 5 (some .int))) B.pre w (List.mem_cons_of_mem _ hw)⟩
  have hl := lv_entry ([.ref o, .int (J s), .int (J p), .int (J i)]) (n := 5) (Nat.le_of_ble_eq_true rfl)
  rw [lg_entry_eq]
  generalize (lg_sl ([.ref o, .int (J s), .int (J p), .int (J i)]) ++ List.replicate (5 - (lg_sl ([.ref o, .int (J s), .int (J p), .int (J i)])).length) Slot.unset).toArray = ls at hl ⊢
  have hl : lv_has ls 5 [(0, .ref o), (1, .int (J s)), (2, .int (J p)), (3, .int (J i))] := hl
  have hS : va_S A st.heap st.heap [] := va_S.rf
  refine lv_iload_n SS.1 SS.2.1 dX12_piece_0 rfl (lv_at hl 1 rfl) ?_
  refine j_sRi SS (As := [.int (J s)]) (rest := []) (c_X12_isShape l D s (show -2147483648 ≤ s ∧ s ≤ 2147483647 from (by omega))) mf_X12_isShape kw_1156 hG trivial rfl hl.1 ⟨⟨Nat.le_of_ble_eq_true rfl, Nat.le_of_ble_eq_true rfl⟩, Nat.le_of_ble_eq_true rfl, Nat.le_refl _, Nat.le_refl _⟩ rfl dX12_piece_1 (fun z_1 h_1 => ?_)
  have h_1 : (z_1 = 1 ∧ (0 ≤ s ∧ s ≤ 7)) ∨ (z_1 = 0 ∧ ¬ (0 ≤ s ∧ s ≤ 7)) := h_1
  refine j_if_eq SS (tgt := 16) (x := z_1) dX12_piece_4 (by decide) (by omega) (fun c_4 => ?_) (fun c_4 => ?_)
  · skip
    refine j_iconst SS dX12_piece_16 ?_
    exact W.iret SS.1 SS.2.1 hr (fun t ht hW => ⟨⟨_, (uV (uL (uV (uI (uI u 10 (u.1 10)) 11 (u.1 11)) 12 (u.2.2 12)) 29 (u.2.1 29)) 30 (u.2.2 30)), rfl, ⟨(-1), rfl, (⟨(u.1 10), (u.1 11), (u.2.2 12), (u.2.1 29), (u.2.2 30), rfl, ⟨p0, Or.inl ⟨fun q => by omega, rfl⟩⟩⟩)⟩, by show va_P D.1 j_cl (mW D o q (uV (uL (uV (uI (uI u 10 (u.1 10)) 11 (u.1 11)) 12 (u.2.2 12)) 29 (u.2.1 29)) 30 (u.2.2 30))) t.heap; rw [ht]; exact hP⟩, hS.F ht⟩) hS.2.2 dX12_piece_17 hlk
  · skip
    refine lv_iload_n SS.1 SS.2.1 dX12_piece_7 rfl (lv_at hl 2 rfl) ?_
    refine j_if_lt SS (tgt := 16) (x := p) dX12_piece_8 (by decide) (by omega) (fun c_8 => ?_) (fun c_8 => ?_)
    · skip
      refine j_iconst SS dX12_piece_16 ?_
      exact W.iret SS.1 SS.2.1 hr (fun t ht hW => ⟨⟨_, (uV (uL (uV (uI (uI u 10 (u.1 10)) 11 (u.1 11)) 12 (u.2.2 12)) 29 (u.2.1 29)) 30 (u.2.2 30)), rfl, ⟨(-1), rfl, (⟨(u.1 10), (u.1 11), (u.2.2 12), (u.2.1 29), (u.2.2 30), rfl, ⟨p0, Or.inl ⟨fun q => by omega, rfl⟩⟩⟩)⟩, by show va_P D.1 j_cl (mW D o q (uV (uL (uV (uI (uI u 10 (u.1 10)) 11 (u.1 11)) 12 (u.2.2 12)) 29 (u.2.1 29)) 30 (u.2.2 30))) t.heap; rw [ht]; exact hP⟩, hS.F ht⟩) hS.2.2 dX12_piece_17 hlk
    · skip
      refine lv_iload_n SS.1 SS.2.1 dX12_piece_11 rfl (lv_at hl 3 rfl) ?_
      refine j_iconst SS dX12_piece_12 ?_
      refine j_icmp_ge SS (tgt := 18) (x := i) (y := (-1)) dX12_piece_13 (by decide) (by omega) (by decide) (fun c_13 => ?_) (fun c_13 => ?_)
      · skip
        refine lv_aload_n SS.1 SS.2.1 dX12_piece_18 rfl (lv_at hl 0 rfl) ?_
        refine lv_iload_n SS.1 SS.2.1 dX12_piece_19 rfl (lv_at hl 1 rfl) ?_
        refine j_vRi SS (As := [.int (J s)]) (rest := []) (c_X12_isLifted l D o q u s (show 0 ≤ s ∧ s ≤ 7 from (by omega)) (show Sh u s from (p0.1 _ (by omega) (by omega)))) mf_X12_isLifted kw_1471 hG hP hP (ci := 8) (q0 := 0) rfl rfl rfl rfl hl.1 ⟨⟨Nat.le_of_ble_eq_true rfl, Nat.le_of_ble_eq_true rfl⟩, Nat.le_of_ble_eq_true rfl, Nat.le_refl _, Nat.le_refl _⟩ rfl dX12_piece_20 (fun z_20 h_20 => ?_)
        have h_20 : (z_20 = 1 ∧ 2 < mN u s ∧ mEd u s + mIn u s ≤ 40) ∨ (z_20 = 0 ∧ ¬ (2 < mN u s ∧ mEd u s + mIn u s ≤ 40)) := h_20
        refine j_if_ne SS (tgt := 29) (x := z_20) dX12_piece_23 (by decide) (by omega) (fun c_23 => ?_) (fun c_23 => ?_)
        · skip
          refine lv_aload_n SS.1 SS.2.1 dX12_piece_29 rfl (lv_at hl 0 rfl) ?_
          refine lv_iload_n SS.1 SS.2.1 dX12_piece_30 rfl (lv_at hl 1 rfl) ?_
          refine j_vWv SS (As := [.int (J s)]) (rest := []) (c_X12_findPieces3 l D o q u A (mW_D hD) s (show IM u from (p0)) (show 0 ≤ s ∧ s ≤ 7 from (by omega)) (show 2 < mN u s from (by omega)) (show mEd u s + mIn u s ≤ 40 from (by omega))) mf_X12_findPieces kw_1479 hG hP hP (ci := 8) (q0 := 0) rfl rfl rfl hS (fun _ h => h) rfl hl.1 ⟨⟨Nat.le_of_ble_eq_true rfl, Nat.le_of_ble_eq_true rfl⟩, Nat.le_of_ble_eq_true rfl, Nat.le_refl _, Nat.le_refl _⟩ rfl dX12_piece_31 (fun u31 H locs h_31 hP _ hS => ?_)
          obtain ⟨X_31, Y_31, n_31, C_31, m_31, rfl, h_31⟩ := h_31
          have hP : va_P D.1 j_cl (mW D o q (uV (uL (uV (uI (uI u 10 X_31) 11 Y_31) 12 n_31) 29 C_31) 30 m_31)) H := hP
          have h_31 : ((0 ≤ m_31 ∧ m_31 ≤ 80) ∧ IM (uV (uL (uV (uI (uI u 10 X_31) 11 Y_31) 12 n_31) 29 C_31) 30 m_31)) ∧ ((0 ≤ n_31 ∧ n_31 ≤ 40) ∧ OL (PBx u s) n_31 X_31 Y_31) ∧ PL9 PB X_31 Y_31 (h9 ((u.1 3)) s) n_31.toNat m_31 C_31 ∧ DN9 X_31 Y_31 ((u.1 3)) s n_31 C_31 m_31 (fun i j k => i < n_31) := h_31
          obtain ⟨⟨hm, hI⟩, ⟨hn40, hOL⟩, hPL, hDN⟩ := h_31
          obtain ⟨F, hF1, hF2⟩ := PL_F (PB_en (by omega)) hPL (fun f hf => DN_gs hDN (fun i9 j9 k9 a1 a2 a3 a4 => by show i9 < n_31; omega) f hf)
          refine lv_iload_n SS.1 SS.2.1 dX12_piece_34 rfl (lv_at hl 2 rfl) ?_
          refine lv_aload_n SS.1 SS.2.1 dX12_piece_35 rfl (lv_at hl 0 rfl) ?_
          refine j_get SS hG hP 0 (v := .int (J m_31)) (C := RX12) (T := TX12) (N := 31) rfl rfl inX12 30 (by decide) (ref := RX12) kw_1088 rfl rfl dX12_piece_36 ?_
          refine j_icmp_lt SS (tgt := 44) (x := p) (y := m_31) dX12_piece_39 (by decide) (by omega) (by omega) (fun c_39 => ?_) (fun c_39 => ?_)
          · skip
            refine lv_iload_n SS.1 SS.2.1 dX12_piece_44 rfl (lv_at hl 3 rfl) ?_
            refine j_if_ge SS (tgt := 53) (x := i) dX12_piece_45 (by decide) (by omega) (fun c_45 => ?_) (fun c_45 => ?_)
            · skip
              refine lv_aload_n SS.1 SS.2.1 dX12_piece_53 rfl (lv_at hl 0 rfl) ?_
              refine j_get SS hG hP 0 (v := .ref (q 29)) (C := RX12) (T := TX12) (N := 31) rfl rfl inX12 29 (by decide) (ref := RX12) kw_1087 rfl rfl dX12_piece_54 ?_
              refine lv_iload_n SS.1 SS.2.1 dX12_piece_57 rfl (lv_at hl 2 rfl) ?_
              refine j_lald SS hG hP 23 (n := 100) (f := C_31) rfl (z := p) (by omega) (by omega) dX12_piece_58 ?_
              refine lv_iload_n SS.1 SS.2.1 dX12_piece_59 rfl (lv_at hl 3 rfl) ?_
              refine j_sRi SS (As := [.long (C_31 (p).toNat), .int (J i)]) (rest := []) (c_X12_bitAt3 l D (C_31 (p).toNat) i (show -2147483648 ≤ i ∧ i ≤ 2147483647 from (by omega))) mf_X12_bitAt kw_1493 hG trivial rfl hl.1 ⟨⟨Nat.le_of_ble_eq_true rfl, Nat.le_of_ble_eq_true rfl⟩, Nat.le_of_ble_eq_true rfl, Nat.le_refl _, Nat.le_refl _⟩ rfl dX12_piece_60 (fun z_60 h_60 => ?_)
              have h_60 : (z_60 = -9 ∧ (0 ≤ i → ct9 (gb (C_31 (p).toNat)) 40 ≤ i)) ∨ ((0 ≤ z_60 ∧ z_60 < 40) ∧ gb (C_31 (p).toNat) z_60.toNat = true ∧ ct9 (gb (C_31 (p).toNat)) z_60.toNat = i) := h_60
              have g60 := at_PB (i := i) (by omega) (hF2 p.toNat (by omega)) (by omega) h_60
              refine lv_istore (lv' := [(4, .int (J z_60)), (0, .ref o), (1, .int (J s)), (2, .int (J p)), (3, .int (J i))]) SS.1 SS.2.1 dX12_piece_63 hl (by decide) rfl (fun ls hl => ?_)
              refine lv_iload_n SS.1 SS.2.1 dX12_piece_65 rfl (lv_at hl 4 rfl) ?_
              refine j_if_ge SS (tgt := 81) (x := i) dX12_piece_66 (by decide) (by omega) (fun c_66 => ?_) (fun c_66 => ?_)
              · skip
                refine lv_iload SS.1 SS.2.1 dX12_piece_81 (lv_at hl 0 rfl) ?_
                refine j_bipush SS dX12_piece_83 (by decide +kernel) ?_
                refine j_icmp_ne SS (tgt := 92) (x := z_60) (y := (-9)) dX12_piece_85 (by decide) (by omega) (by decide) (fun c_85 => ?_) (fun c_85 => ?_)
                · skip
                  refine lv_iload SS.1 SS.2.1 dX12_piece_92 (lv_at hl 0 rfl) ?_
                  exact W.iret SS.1 SS.2.1 hr (fun t ht hW => ⟨⟨_, (uV (uL (uV (uI (uI u 10 X_31) 11 Y_31) 12 n_31) 29 C_31) 30 m_31), rfl, ⟨z_60, rfl, (⟨X_31, Y_31, n_31, C_31, m_31, rfl, by first | exact ⟨hI, Or.inr ⟨by omega, Or.inr ⟨by unfold lfM; omega, n_31, X_31, Y_31, m_31, F, ⟨hn40, hOL, hF1⟩, Or.inr ⟨by omega, Or.inl ⟨by omega, hc75⟩⟩⟩⟩⟩ | exact ⟨hI, Or.inr ⟨by omega, Or.inr ⟨by unfold lfM; omega, n_31, X_31, Y_31, m_31, F, ⟨hn40, hOL, hF1⟩, Or.inr ⟨by omega, Or.inr ⟨by omega, by omega⟩⟩⟩⟩⟩⟩)⟩, by show va_P D.1 j_cl (mW D o q (uV (uL (uV (uI (uI u 10 X_31) 11 Y_31) 12 n_31) 29 C_31) 30 m_31)) t.heap; rw [ht]; exact hP⟩, hS.F ht⟩) hS.2.2 dX12_piece_94 hlk
                · skip
                  refine j_iconst SS dX12_piece_88 ?_
                  refine lv_goto (tgt := 94) SS.1 SS.2.1 dX12_piece_89 (by decide) ?_
                  exact W.iret SS.1 SS.2.1 hr (fun t ht hW => ⟨⟨_, (uV (uL (uV (uI (uI u 10 X_31) 11 Y_31) 12 n_31) 29 C_31) 30 m_31), rfl, ⟨(-1), rfl, (⟨X_31, Y_31, n_31, C_31, m_31, rfl, by first | exact ⟨hI, Or.inr ⟨by omega, Or.inr ⟨by unfold lfM; omega, n_31, X_31, Y_31, m_31, F, ⟨hn40, hOL, hF1⟩, Or.inr ⟨by omega, Or.inl ⟨by omega, hc75⟩⟩⟩⟩⟩ | exact ⟨hI, Or.inr ⟨by omega, Or.inr ⟨by unfold lfM; omega, n_31, X_31, Y_31, m_31, F, ⟨hn40, hOL, hF1⟩, Or.inr ⟨by omega, Or.inr ⟨by omega, by omega⟩⟩⟩⟩⟩⟩)⟩, by show va_P D.1 j_cl (mW D o q (uV (uL (uV (uI (uI u 10 X_31) 11 Y_31) 12 n_31) 29 C_31) 30 m_31)) t.heap; rw [ht]; exact hP⟩, hS.F ht⟩) hS.2.2 dX12_piece_94 hlk
              · skip
                refine lv_aload_n SS.1 SS.2.1 dX12_piece_69 rfl (lv_at hl 1 rfl) ?_
                refine j_get SS hG hP 0 (v := .ref (q 29)) (C := RX12) (T := TX12) (N := 31) rfl rfl inX12 29 (by decide) (ref := RX12) kw_1087 rfl rfl dX12_piece_70 ?_
                refine lv_iload_n SS.1 SS.2.1 dX12_piece_73 rfl (lv_at hl 3 rfl) ?_
                refine j_lald SS hG hP 23 (n := 100) (f := C_31) rfl (z := p) (by omega) (by omega) dX12_piece_74 ?_
                refine j_sRi SS (As := [.long (C_31 (p).toNat)]) (rest := []) (c_X12_bitsIn l D (C_31 (p).toNat) ) mf_X12_bitsIn kw_1490 hG trivial rfl hl.1 ⟨⟨Nat.le_of_ble_eq_true rfl, Nat.le_of_ble_eq_true rfl⟩, Nat.le_of_ble_eq_true rfl, Nat.le_refl _, Nat.le_refl _⟩ rfl dX12_piece_75 (fun z_75 h_75 => ?_)
                have h_75 : z_75 = smI (bvI (C_31 (p).toNat)) 40 ∧ 0 ≤ z_75 ∧ z_75 ≤ 40 := h_75
                have hc75 : z_75 = ct9 (F p.toNat) n_31.toNat := by rw [h_75.1, bI_40, hF2 p.toNat (by omega), ct_PB (by omega)]
                refine lv_goto (tgt := 94) SS.1 SS.2.1 dX12_piece_78 (by decide) ?_
                exact W.iret SS.1 SS.2.1 hr (fun t ht hW => ⟨⟨_, (uV (uL (uV (uI (uI u 10 X_31) 11 Y_31) 12 n_31) 29 C_31) 30 m_31), rfl, ⟨z_75, rfl, (⟨X_31, Y_31, n_31, C_31, m_31, rfl, by first | exact ⟨hI, Or.inr ⟨by omega, Or.inr ⟨by unfold lfM; omega, n_31, X_31, Y_31, m_31, F, ⟨hn40, hOL, hF1⟩, Or.inr ⟨by omega, Or.inl ⟨by omega, hc75⟩⟩⟩⟩⟩ | exact ⟨hI, Or.inr ⟨by omega, Or.inr ⟨by unfold lfM; omega, n_31, X_31, Y_31, m_31, F, ⟨hn40, hOL, hF1⟩, Or.inr ⟨by omega, Or.inr ⟨by omega, by omega⟩⟩⟩⟩⟩⟩)⟩, by show va_P D.1 j_cl (mW D o q (uV (uL (uV (uI (uI u 10 X_31) 11 Y_31) 12 n_31) 29 C_31) 30 m_31)) t.heap; rw [ht]; exact hP⟩, hS.F ht⟩) hS.2.2 dX12_piece_94 hlk
            · skip
              refine j_bipush SS dX12_piece_48 (by decide +kernel) ?_
              refine lv_goto (tgt := 63) SS.1 SS.2.1 dX12_piece_50 (by decide) ?_
              refine lv_istore (lv' := [(4, .int (J (-9))), (0, .ref o), (1, .int (J s)), (2, .int (J p)), (3, .int (J i))]) SS.1 SS.2.1 dX12_piece_63 hl (by decide) rfl (fun ls hl => ?_)
              refine lv_iload_n SS.1 SS.2.1 dX12_piece_65 rfl (lv_at hl 4 rfl) ?_
              refine j_if_ge SS (tgt := 81) (x := i) dX12_piece_66 (by decide) (by omega) (fun c_66 => ?_) (fun c_66 => ?_)
              · skip
                refine lv_iload SS.1 SS.2.1 dX12_piece_81 (lv_at hl 0 rfl) ?_
                refine j_bipush SS dX12_piece_83 (by decide +kernel) ?_
                refine j_icmp_ne SS (tgt := 92) (x := (-9)) (y := (-9)) dX12_piece_85 (by decide) (by decide) (by decide) (fun c_85 => ?_) (fun c_85 => ?_)
                · skip
                  refine lv_iload SS.1 SS.2.1 dX12_piece_92 (lv_at hl 0 rfl) ?_
                  exact W.iret SS.1 SS.2.1 hr (fun t ht hW => ⟨⟨_, (uV (uL (uV (uI (uI u 10 X_31) 11 Y_31) 12 n_31) 29 C_31) 30 m_31), rfl, ⟨(-9), rfl, (⟨X_31, Y_31, n_31, C_31, m_31, rfl, by first | exact ⟨hI, Or.inr ⟨by omega, Or.inr ⟨by unfold lfM; omega, n_31, X_31, Y_31, m_31, F, ⟨hn40, hOL, hF1⟩, Or.inr ⟨by omega, Or.inl ⟨by omega, hc75⟩⟩⟩⟩⟩ | exact ⟨hI, Or.inr ⟨by omega, Or.inr ⟨by unfold lfM; omega, n_31, X_31, Y_31, m_31, F, ⟨hn40, hOL, hF1⟩, Or.inr ⟨by omega, Or.inr ⟨by omega, by omega⟩⟩⟩⟩⟩⟩)⟩, by show va_P D.1 j_cl (mW D o q (uV (uL (uV (uI (uI u 10 X_31) 11 Y_31) 12 n_31) 29 C_31) 30 m_31)) t.heap; rw [ht]; exact hP⟩, hS.F ht⟩) hS.2.2 dX12_piece_94 hlk
                · skip
                  refine j_iconst SS dX12_piece_88 ?_
                  refine lv_goto (tgt := 94) SS.1 SS.2.1 dX12_piece_89 (by decide) ?_
                  exact W.iret SS.1 SS.2.1 hr (fun t ht hW => ⟨⟨_, (uV (uL (uV (uI (uI u 10 X_31) 11 Y_31) 12 n_31) 29 C_31) 30 m_31), rfl, ⟨(-1), rfl, (⟨X_31, Y_31, n_31, C_31, m_31, rfl, by first | exact ⟨hI, Or.inr ⟨by omega, Or.inr ⟨by unfold lfM; omega, n_31, X_31, Y_31, m_31, F, ⟨hn40, hOL, hF1⟩, Or.inr ⟨by omega, Or.inl ⟨by omega, hc75⟩⟩⟩⟩⟩ | exact ⟨hI, Or.inr ⟨by omega, Or.inr ⟨by unfold lfM; omega, n_31, X_31, Y_31, m_31, F, ⟨hn40, hOL, hF1⟩, Or.inr ⟨by omega, Or.inr ⟨by omega, by omega⟩⟩⟩⟩⟩⟩)⟩, by show va_P D.1 j_cl (mW D o q (uV (uL (uV (uI (uI u 10 X_31) 11 Y_31) 12 n_31) 29 C_31) 30 m_31)) t.heap; rw [ht]; exact hP⟩, hS.F ht⟩) hS.2.2 dX12_piece_94 hlk
              · skip
                refine lv_aload_n SS.1 SS.2.1 dX12_piece_69 rfl (lv_at hl 1 rfl) ?_
                refine j_get SS hG hP 0 (v := .ref (q 29)) (C := RX12) (T := TX12) (N := 31) rfl rfl inX12 29 (by decide) (ref := RX12) kw_1087 rfl rfl dX12_piece_70 ?_
                refine lv_iload_n SS.1 SS.2.1 dX12_piece_73 rfl (lv_at hl 3 rfl) ?_
                refine j_lald SS hG hP 23 (n := 100) (f := C_31) rfl (z := p) (by omega) (by omega) dX12_piece_74 ?_
                refine j_sRi SS (As := [.long (C_31 (p).toNat)]) (rest := []) (c_X12_bitsIn l D (C_31 (p).toNat) ) mf_X12_bitsIn kw_1490 hG trivial rfl hl.1 ⟨⟨Nat.le_of_ble_eq_true rfl, Nat.le_of_ble_eq_true rfl⟩, Nat.le_of_ble_eq_true rfl, Nat.le_refl _, Nat.le_refl _⟩ rfl dX12_piece_75 (fun z_75 h_75 => ?_)
                have h_75 : z_75 = smI (bvI (C_31 (p).toNat)) 40 ∧ 0 ≤ z_75 ∧ z_75 ≤ 40 := h_75
                have hc75 : z_75 = ct9 (F p.toNat) n_31.toNat := by rw [h_75.1, bI_40, hF2 p.toNat (by omega), ct_PB (by omega)]
                refine lv_goto (tgt := 94) SS.1 SS.2.1 dX12_piece_78 (by decide) ?_
                exact W.iret SS.1 SS.2.1 hr (fun t ht hW => ⟨⟨_, (uV (uL (uV (uI (uI u 10 X_31) 11 Y_31) 12 n_31) 29 C_31) 30 m_31), rfl, ⟨z_75, rfl, (⟨X_31, Y_31, n_31, C_31, m_31, rfl, by first | exact ⟨hI, Or.inr ⟨by omega, Or.inr ⟨by unfold lfM; omega, n_31, X_31, Y_31, m_31, F, ⟨hn40, hOL, hF1⟩, Or.inr ⟨by omega, Or.inl ⟨by omega, hc75⟩⟩⟩⟩⟩ | exact ⟨hI, Or.inr ⟨by omega, Or.inr ⟨by unfold lfM; omega, n_31, X_31, Y_31, m_31, F, ⟨hn40, hOL, hF1⟩, Or.inr ⟨by omega, Or.inr ⟨by omega, by omega⟩⟩⟩⟩⟩⟩)⟩, by show va_P D.1 j_cl (mW D o q (uV (uL (uV (uI (uI u 10 X_31) 11 Y_31) 12 n_31) 29 C_31) 30 m_31)) t.heap; rw [ht]; exact hP⟩, hS.F ht⟩) hS.2.2 dX12_piece_94 hlk
          · skip
            refine j_iconst SS dX12_piece_42 ?_
            exact W.iret SS.1 SS.2.1 hr (fun t ht hW => ⟨⟨_, (uV (uL (uV (uI (uI u 10 X_31) 11 Y_31) 12 n_31) 29 C_31) 30 m_31), rfl, ⟨(-1), rfl, (⟨X_31, Y_31, n_31, C_31, m_31, rfl, ⟨hI, Or.inr ⟨by omega, Or.inr ⟨by unfold lfM; omega, n_31, X_31, Y_31, m_31, F, ⟨hn40, hOL, hF1⟩, Or.inl ⟨by omega, rfl⟩⟩⟩⟩⟩)⟩, by show va_P D.1 j_cl (mW D o q (uV (uL (uV (uI (uI u 10 X_31) 11 Y_31) 12 n_31) 29 C_31) 30 m_31)) t.heap; rw [ht]; exact hP⟩, hS.F ht⟩) hS.2.2 dX12_piece_43 hlk
        · skip
          refine j_bipush SS dX12_piece_26 (by decide +kernel) ?_
          exact W.iret SS.1 SS.2.1 hr (fun t ht hW => ⟨⟨_, (uV (uL (uV (uI (uI u 10 (u.1 10)) 11 (u.1 11)) 12 (u.2.2 12)) 29 (u.2.1 29)) 30 (u.2.2 30)), rfl, ⟨(-2), rfl, (⟨(u.1 10), (u.1 11), (u.2.2 12), (u.2.1 29), (u.2.2 30), rfl, ⟨p0, Or.inr ⟨by omega, Or.inl ⟨fun q => by unfold lfM at q; omega, rfl⟩⟩⟩⟩)⟩, by show va_P D.1 j_cl (mW D o q (uV (uL (uV (uI (uI u 10 (u.1 10)) 11 (u.1 11)) 12 (u.2.2 12)) 29 (u.2.1 29)) 30 (u.2.2 30))) t.heap; rw [ht]; exact hP⟩, hS.F ht⟩) hS.2.2 dX12_piece_28 hlk
      · skip
        refine j_iconst SS dX12_piece_16 ?_
        exact W.iret SS.1 SS.2.1 hr (fun t ht hW => ⟨⟨_, (uV (uL (uV (uI (uI u 10 (u.1 10)) 11 (u.1 11)) 12 (u.2.2 12)) 29 (u.2.1 29)) 30 (u.2.2 30)), rfl, ⟨(-1), rfl, (⟨(u.1 10), (u.1 11), (u.2.2 12), (u.2.1 29), (u.2.2 30), rfl, ⟨p0, Or.inl ⟨fun q => by omega, rfl⟩⟩⟩)⟩, by show va_P D.1 j_cl (mW D o q (uV (uL (uV (uI (uI u 10 (u.1 10)) 11 (u.1 11)) 12 (u.2.2 12)) 29 (u.2.1 29)) 30 (u.2.2 30))) t.heap; rw [ht]; exact hP⟩, hS.F ht⟩) hS.2.2 dX12_piece_17 hlk
