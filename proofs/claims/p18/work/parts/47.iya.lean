
set_option maxHeartbeats 4000000 in
set_option maxRecDepth 100000 in
theorem c_X12_parts3 (l : Launch) (D : JD) (o : Nat) (q : Nat → Nat) (u : MS) (A : Nat → Prop) (hD : va_D A (mW D o q u)) (s : Int) (p0 : IM u) (p1 : -2147483648 ≤ s ∧ s ≤ 2147483647) : Met l yX12_parts (jw yX12_parts cX12_parts 9 (some .long)) (jr 4 88) (jP [.ref o, .int (J s)] D (fun H => va_P D.1 j_cl (mW D o q u) H)) (jWL (fun x9 u' => ∃ nw : Nat → Int64, ∃ tn_ : Nat → Int64, u' = (uL (uL u 13 nw) 14 tn_) ∧ (IM u' ∧ paM u s x9)) (fun u' H => va_P D.1 j_cl (mW D o q u') H) A) 0 0 A := by
  refine Met.ofW (cc := cX12_parts) (maxL := 9) (ret := (some .long)) (by decide) rfl ?_
  intro pr en st mi args below meth co s₁ B hml hv
  obtain ⟨rfl, hG, hP⟩ := hv
  have hr := B.returns
  have hlk := B.notSynchronized
  have SS : jS pr mi co cX12_parts 9 st _ RX12 := ⟨B.exec, B.bytes, hml, findClass_of_methodNamed B.named, fun w hw => atoms_spec (ws := (jw yX12_parts cX12_parts 9 (some .long))) B.pre w (List.mem_cons_of_mem _ hw)⟩
  have hl := lv_entry ([.ref o, .int (J s)]) (n := 9) (Nat.le_of_ble_eq_true rfl)
  rw [lg_entry_eq]
  generalize (lg_sl ([.ref o, .int (J s)]) ++ List.replicate (9 - (lg_sl ([.ref o, .int (J s)])).length) Slot.unset).toArray = ls at hl ⊢
  have hl : lv_has ls 9 [(0, .ref o), (1, .int (J s))] := hl
  have hS : va_S A st.heap st.heap [] := va_S.rf
  refine lv_iload_n SS.1 SS.2.1 dX12_parts_0 rfl (lv_at hl 1 rfl) ?_
  refine j_sRi SS (As := [.int (J s)]) (rest := []) (c_X12_isShape l D s (show -2147483648 ≤ s ∧ s ≤ 2147483647 from (by omega))) mf_X12_isShape kw_1156 hG trivial rfl hl.1 ⟨⟨Nat.le_of_ble_eq_true rfl, Nat.le_of_ble_eq_true rfl⟩, Nat.le_of_ble_eq_true rfl, Nat.le_refl _, Nat.le_refl _⟩ rfl dX12_parts_1 (fun z_1 h_1 => ?_)
  have h_1 : (z_1 = 1 ∧ (0 ≤ s ∧ s ≤ 7)) ∨ (z_1 = 0 ∧ ¬ (0 ≤ s ∧ s ≤ 7)) := h_1
  refine j_if_ne SS (tgt := 11) (x := z_1) dX12_parts_4 (by decide) (by omega) (fun c_4 => ?_) (fun c_4 => ?_)
  · skip
    refine lv_aload_n SS.1 SS.2.1 dX12_parts_11 rfl (lv_at hl 0 rfl) ?_
    refine lv_iload_n SS.1 SS.2.1 dX12_parts_12 rfl (lv_at hl 1 rfl) ?_
    refine j_vRi SS (As := [.int (J s)]) (rest := []) (c_X12_isPolygon l D o q u s (show 0 ≤ s ∧ s ≤ 7 from (by omega)) (show Sh u s from (p0.1 _ (by omega) (by omega)))) mf_X12_isPolygon kw_1240 hG hP hP (ci := 8) (q0 := 0) rfl rfl rfl rfl hl.1 ⟨⟨Nat.le_of_ble_eq_true rfl, Nat.le_of_ble_eq_true rfl⟩, Nat.le_of_ble_eq_true rfl, Nat.le_refl _, Nat.le_refl _⟩ rfl dX12_parts_13 (fun z_13 h_13 => ?_)
    have h_13 : (z_13 = 1 ∧ 2 < mN u s) ∨ (z_13 = 0 ∧ mN u s ≤ 2) := h_13
    refine j_if_ne SS (tgt := 23) (x := z_13) dX12_parts_16 (by decide) (by omega) (fun c_16 => ?_) (fun c_16 => ?_)
    · skip
      have hSh := p0.1 s (by omega) (by omega)
      have hN := hSh.1
      refine j_iconst SS dX12_parts_23 ?_
      refine lv_istore_n (lv' := [(2, .int (J 0)), (0, .ref o), (1, .int (J s))]) SS.1 SS.2.1 dX12_parts_24 rfl hl (by decide) rfl (fun ls hl => ?_)
      have L_25 : ∀ (nn : Nat) (k : Int) (n1 : Nat → Int64) (H : Heap) (locs : List Loc) (hP : va_P D.1 j_cl (mW D o q (uL u 13 n1)) H) (hS : va_S A st.heap H locs) (ls : Array Slot) (hl : lv_has ls 9 [(0, .ref o), (1, .int (J s)), (2, .int (J k))]) (i25_0 : 0 ≤ k ∧ k ≤ 25921) (i25_1 : ∀ j : Nat, (j : Int) < k → n1 j = if (j : Int) = 12960 then 1 else 0), ((25921 : Int) - k).toNat < nn → W pr l en (headSpec (jw yX12_parts cX12_parts 9 (some .long)) (jr 4 88)).room st mi (([.ref o, .int (J s)] : List Value).toArray) below meth co H locs 0 0 (MQ below (jWL (fun x9 u' => ∃ nw : Nat → Int64, ∃ tn_ : Nat → Int64, u' = (uL (uL u 13 nw) 14 tn_) ∧ (IM u' ∧ paM u s x9)) (fun u' H => va_P D.1 j_cl (mW D o q u') H) A) (([.ref o, .int (J s)] : List Value).toArray) st 0 0 A) (F0 mi 25 ls []) := by
        intro nn
        induction nn with
        | zero => intros; omega
        | succ nn ih_25 =>
          intro k n1 H locs hP hS ls hl i25_0 i25_1 hm
          refine lv_iload_n SS.1 SS.2.1 dX12_parts_25 rfl (lv_at hl 2 rfl) ?_
          refine j_sipush SS dX12_parts_26 (by decide +kernel) ?_
          refine j_icmp_ge SS (tgt := 58) (x := k) (y := 25921) dX12_parts_29 (by decide) (by omega) (by decide) (fun c_29 => ?_) (fun c_29 => ?_)
          · skip
            refine j_iconst SS dX12_parts_58 ?_
            refine lv_istore_n (lv' := [(2, .int (J 0)), (0, .ref o), (1, .int (J s))]) SS.1 SS.2.1 dX12_parts_59 rfl hl (by decide) rfl (fun ls hl => ?_)
            have L_60 : ∀ (nn : Nat) (i : Int) (n2 : Nat → Int64) (t2 : Nat → Int64) (H : Heap) (locs : List Loc) (hP : va_P D.1 j_cl (mW D o q (uL (uL u 13 n2) 14 t2)) H) (hS : va_S A st.heap H locs) (ls : Array Slot) (hl : lv_has ls 9 [(0, .ref o), (1, .int (J s)), (2, .int (J i))]) (i60_0 : 0 ≤ i ∧ i ≤ mN u s) (i60_1 : PNi u s i.toNat n2), (mN u s - i).toNat < nn → W pr l en (headSpec (jw yX12_parts cX12_parts 9 (some .long)) (jr 4 88)).room st mi (([.ref o, .int (J s)] : List Value).toArray) below meth co H locs 0 0 (MQ below (jWL (fun x9 u' => ∃ nw : Nat → Int64, ∃ tn_ : Nat → Int64, u' = (uL (uL u 13 nw) 14 tn_) ∧ (IM u' ∧ paM u s x9)) (fun u' H => va_P D.1 j_cl (mW D o q u') H) A) (([.ref o, .int (J s)] : List Value).toArray) st 0 0 A) (F0 mi 60 ls []) := by
              intro nn
              induction nn with
              | zero => intros; omega
              | succ nn ih_60 =>
                intro i n2 t2 H locs hP hS ls hl i60_0 i60_1 hm
                refine lv_iload_n SS.1 SS.2.1 dX12_parts_60 rfl (lv_at hl 2 rfl) ?_
                refine lv_aload_n SS.1 SS.2.1 dX12_parts_61 rfl (lv_at hl 0 rfl) ?_
                refine j_get SS hG hP 0 (v := .ref (q 0)) (C := RX12) (T := TX12) (N := 31) rfl rfl inX12 0 (by decide) (ref := RX12) kw_1058 rfl rfl dX12_parts_62 ?_
                refine lv_iload_n SS.1 SS.2.1 dX12_parts_65 rfl (lv_at hl 1 rfl) ?_
                refine j_iald SS hG hP 1 (n := 8) (f := (u.1 0)) rfl (z := s) (by omega) (by omega) dX12_parts_66 ?_
                have hN_66 := (show Sh u s from p0.1 _ (by omega) (by omega)).1
                refine j_icmp_ge SS (tgt := 258) (x := i) (y := (mN u s)) dX12_parts_67 (by decide) (by omega) (by omega) (fun c_67 => ?_) (fun c_67 => ?_)
                · skip
                  refine lv_aload_n SS.1 SS.2.1 dX12_parts_258 rfl (lv_at hl 0 rfl) ?_
                  refine j_get SS hG hP 0 (v := .ref (q 13)) (C := RX12) (T := TX12) (N := 31) rfl rfl inX12 13 (by decide) (ref := RX12) kw_1071 rfl rfl dX12_parts_259 ?_
                  refine j_iconst SS dX12_parts_262 ?_
                  refine j_iconst SS dX12_parts_263 ?_
                  refine j_sRi SS (As := [.int (J 0), .int (J 0)]) (rest := [.ref (q 13)]) (c_X12_spot l D 0 0 (show -2147483648 ≤ (0 : Int) ∧ (0 : Int) ≤ 2147483647 from (by omega)) (show -2147483648 ≤ (0 : Int) ∧ (0 : Int) ≤ 2147483647 from (by omega))) mf_X12_spot kw_1329 hG trivial rfl hl.1 ⟨⟨Nat.le_of_ble_eq_true rfl, Nat.le_of_ble_eq_true rfl⟩, Nat.le_of_ble_eq_true rfl, Nat.le_refl _, Nat.le_refl _⟩ rfl dX12_parts_264 (fun z_264 h_264 => ?_)
                  have h_264 : ((-80 ≤ (0 : Int) ∧ (0 : Int) ≤ 80) ∧ (-80 ≤ (0 : Int) ∧ (0 : Int) ≤ 80) ∧ z_264 = 161 * ((0 : Int) + 80) + (0 : Int) + 80) ∨ (¬ ((-80 ≤ (0 : Int) ∧ (0 : Int) ≤ 80) ∧ (-80 ≤ (0 : Int) ∧ (0 : Int) ≤ 80)) ∧ z_264 = -9) := h_264
                  refine j_lald SS hG hP 11 (n := 25921) (f := n2) rfl (z := z_264) (by omega) (by omega) dX12_parts_267 ?_
                  exact W.lret SS.1 SS.2.1 hr (fun t ht hW => ⟨⟨_, (uL (uL u 13 n2) 14 t2), rfl, (⟨n2, t2, rfl, by first | exact ⟨p0, Or.inl ⟨by omega, rfl⟩⟩ | exact ⟨p0, Or.inr ⟨by omega, Or.inl ⟨by omega, rfl⟩⟩⟩ | exact ⟨p0, Or.inr ⟨by omega, Or.inr ⟨by omega, fun hH => by have w9 := PNi_e (by rw [show i = mN u s by omega] at i60_1; exact i60_1) hH; rw [← w9]; exact congrArg n2 (by omega)⟩⟩⟩⟩), by show va_P D.1 j_cl (mW D o q (uL (uL u 13 n2) 14 t2)) t.heap; rw [ht]; exact hP⟩, hS.F ht⟩) hS.2.2 dX12_parts_268 hlk
                · skip
                  refine lv_aload_n SS.1 SS.2.1 dX12_parts_70 rfl (lv_at hl 0 rfl) ?_
                  refine lv_iload_n SS.1 SS.2.1 dX12_parts_71 rfl (lv_at hl 1 rfl) ?_
                  refine lv_iload_n SS.1 SS.2.1 dX12_parts_72 rfl (lv_at hl 2 rfl) ?_
                  refine j_vRi SS (As := [.int (J s), .int (J i)]) (rest := []) (c_X12_stepX l D o q (uL (uL u 13 n2) 14 t2) s i (show 0 ≤ s ∧ s ≤ 7 from (by omega)) (show Sh u s from (hSh)) (show 0 ≤ i ∧ i < mN u s from (by omega)) (show 2 ≤ mN u s from (by omega))) mf_X12_stepX kw_1332 hG hP hP (ci := 8) (q0 := 0) rfl rfl rfl rfl hl.1 ⟨⟨Nat.le_of_ble_eq_true rfl, Nat.le_of_ble_eq_true rfl⟩, Nat.le_of_ble_eq_true rfl, Nat.le_refl _, Nat.le_refl _⟩ rfl dX12_parts_73 (fun z_73 h_73 => ?_)
                  have h_73 : z_73 = mDX u s i ∧ -80 ≤ z_73 ∧ z_73 ≤ 80 := h_73
                  refine lv_istore_n (lv' := [(3, .int (J z_73)), (0, .ref o), (1, .int (J s)), (2, .int (J i))]) SS.1 SS.2.1 dX12_parts_76 rfl hl (by decide) rfl (fun ls hl => ?_)
                  refine lv_aload_n SS.1 SS.2.1 dX12_parts_77 rfl (lv_at hl 1 rfl) ?_
                  refine lv_iload_n SS.1 SS.2.1 dX12_parts_78 rfl (lv_at hl 2 rfl) ?_
                  refine lv_iload_n SS.1 SS.2.1 dX12_parts_79 rfl (lv_at hl 3 rfl) ?_
                  refine j_vRi SS (As := [.int (J s), .int (J i)]) (rest := []) (c_X12_stepY l D o q (uL (uL u 13 n2) 14 t2) s i (show 0 ≤ s ∧ s ≤ 7 from (by omega)) (show Sh u s from (hSh)) (show 0 ≤ i ∧ i < mN u s from (by omega)) (show 2 ≤ mN u s from (by omega))) mf_X12_stepY kw_1336 hG hP hP (ci := 8) (q0 := 0) rfl rfl rfl rfl hl.1 ⟨⟨Nat.le_of_ble_eq_true rfl, Nat.le_of_ble_eq_true rfl⟩, Nat.le_of_ble_eq_true rfl, Nat.le_refl _, Nat.le_refl _⟩ rfl dX12_parts_80 (fun z_80 h_80 => ?_)
                  have h_80 : z_80 = mDY u s i ∧ -80 ≤ z_80 ∧ z_80 ≤ 80 := h_80
                  refine lv_istore (lv' := [(4, .int (J z_80)), (3, .int (J z_73)), (0, .ref o), (1, .int (J s)), (2, .int (J i))]) SS.1 SS.2.1 dX12_parts_83 hl (by decide) rfl (fun ls hl => ?_)
                  refine lv_aload_n SS.1 SS.2.1 dX12_parts_85 rfl (lv_at hl 2 rfl) ?_
                  refine lv_iload_n SS.1 SS.2.1 dX12_parts_86 rfl (lv_at hl 3 rfl) ?_
                  refine lv_iload_n SS.1 SS.2.1 dX12_parts_87 rfl (lv_at hl 4 rfl) ?_
                  refine j_vRi SS (As := [.int (J s), .int (J i)]) (rest := []) (c_X12_stepsOf l D o q (uL (uL u 13 n2) 14 t2) s i (show 0 ≤ s ∧ s ≤ 7 from (by omega)) (show Sh u s from (hSh)) (show 0 ≤ i ∧ i ≤ 100 from (by omega)) (show 0 < mN u s from (by omega))) mf_X12_stepsOf kw_1226 hG hP hP (ci := 8) (q0 := 0) rfl rfl rfl rfl hl.1 ⟨⟨Nat.le_of_ble_eq_true rfl, Nat.le_of_ble_eq_true rfl⟩, Nat.le_of_ble_eq_true rfl, Nat.le_refl _, Nat.le_refl _⟩ rfl dX12_parts_88 (fun z_88 h_88 => ?_)
                  have h_88 : z_88 = mS u s i ∧ 0 ≤ z_88 ∧ z_88 ≤ 80 := h_88
                  refine lv_istore (lv' := [(5, .int (J z_88)), (4, .int (J z_80)), (3, .int (J z_73)), (0, .ref o), (1, .int (J s)), (2, .int (J i))]) SS.1 SS.2.1 dX12_parts_91 hl (by decide) rfl (fun ls hl => ?_)
                  refine j_iconst SS dX12_parts_93 ?_
                  refine lv_istore (lv' := [(6, .int (J 0)), (5, .int (J z_88)), (4, .int (J z_80)), (3, .int (J z_73)), (0, .ref o), (1, .int (J s)), (2, .int (J i))]) SS.1 SS.2.1 dX12_parts_94 hl (by decide) rfl (fun ls hl => ?_)
                  have L_96 : ∀ (nn : Nat) (k2 : Int) (t3 : Nat → Int64) (H : Heap) (locs : List Loc) (hP : va_P D.1 j_cl (mW D o q (uL (uL u 13 n2) 14 t3)) H) (hS : va_S A st.heap H locs) (ls : Array Slot) (hl : lv_has ls 9 [(0, .ref o), (1, .int (J s)), (2, .int (J i)), (3, .int (J z_73)), (4, .int (J z_80)), (5, .int (J z_88)), (6, .int (J k2))]) (i96_0 : 0 ≤ k2 ∧ k2 ≤ 25921) (i96_1 : ∀ j : Nat, (j : Int) < k2 → t3 j = 0), ((25921 : Int) - k2).toNat < nn → W pr l en (headSpec (jw yX12_parts cX12_parts 9 (some .long)) (jr 4 88)).room st mi (([.ref o, .int (J s)] : List Value).toArray) below meth co H locs 0 0 (MQ below (jWL (fun x9 u' => ∃ nw : Nat → Int64, ∃ tn_ : Nat → Int64, u' = (uL (uL u 13 nw) 14 tn_) ∧ (IM u' ∧ paM u s x9)) (fun u' H => va_P D.1 j_cl (mW D o q u') H) A) (([.ref o, .int (J s)] : List Value).toArray) st 0 0 A) (F0 mi 96 ls []) := by
                    intro nn
                    induction nn with
                    | zero => intros; omega
                    | succ nn ih_96 =>
                      intro k2 t3 H locs hP hS ls hl i96_0 i96_1 hm
                      refine lv_iload SS.1 SS.2.1 dX12_parts_96 (lv_at hl 6 rfl) ?_
                      refine j_sipush SS dX12_parts_98 (by decide +kernel) ?_
                      refine j_icmp_ge SS (tgt := 118) (x := k2) (y := 25921) dX12_parts_101 (by decide) (by omega) (by decide) (fun c_101 => ?_) (fun c_101 => ?_)
                      · skip
                        refine j_iconst SS dX12_parts_118 ?_
                        refine lv_istore (lv' := [(6, .int (J 0)), (0, .ref o), (1, .int (J s)), (2, .int (J i)), (3, .int (J z_73)), (4, .int (J z_80)), (5, .int (J z_88))]) SS.1 SS.2.1 dX12_parts_119 hl (by decide) rfl (fun ls hl => ?_)
                        have L_121 : ∀ (nn : Nat) (k3 : Int) (t4 : Nat → Int64) (H : Heap) (locs : List Loc) (hP : va_P D.1 j_cl (mW D o q (uL (uL u 13 n2) 14 t4)) H) (hS : va_S A st.heap H locs) (ls : Array Slot) (hl : lv_has ls 9 [(0, .ref o), (1, .int (J s)), (2, .int (J i)), (3, .int (J z_73)), (4, .int (J z_80)), (5, .int (J z_88)), (6, .int (J k3))]) (i121_0 : 0 ≤ k3 ∧ k3 ≤ 25921) (i121_1 : ∀ x y : Int, inB9 x y → t4 (ixB x y).toNat = stw (arK n2 k3) (mDX u s i) (mDY u s i) (mS u s i).toNat x y), ((25921 : Int) - k3).toNat < nn → W pr l en (headSpec (jw yX12_parts cX12_parts 9 (some .long)) (jr 4 88)).room st mi (([.ref o, .int (J s)] : List Value).toArray) below meth co H locs 0 0 (MQ below (jWL (fun x9 u' => ∃ nw : Nat → Int64, ∃ tn_ : Nat → Int64, u' = (uL (uL u 13 nw) 14 tn_) ∧ (IM u' ∧ paM u s x9)) (fun u' H => va_P D.1 j_cl (mW D o q u') H) A) (([.ref o, .int (J s)] : List Value).toArray) st 0 0 A) (F0 mi 121 ls []) := by
                          intro nn
                          induction nn with
                          | zero => intros; omega
                          | succ nn ih_121 =>
                            intro k3 t4 H locs hP hS ls hl i121_0 i121_1 hm
                            refine lv_iload SS.1 SS.2.1 dX12_parts_121 (lv_at hl 6 rfl) ?_
                            refine j_sipush SS dX12_parts_123 (by decide +kernel) ?_
                            refine j_icmp_ge SS (tgt := 221) (x := k3) (y := 25921) dX12_parts_126 (by decide) (by omega) (by decide) (fun c_126 => ?_) (fun c_126 => ?_)
                            · skip
                              refine j_iconst SS dX12_parts_221 ?_
                              refine lv_istore (lv' := [(6, .int (J 0)), (0, .ref o), (1, .int (J s)), (2, .int (J i)), (3, .int (J z_73)), (4, .int (J z_80)), (5, .int (J z_88))]) SS.1 SS.2.1 dX12_parts_222 hl (by decide) rfl (fun ls hl => ?_)
                              have L_224 : ∀ (nn : Nat) (k4 : Int) (n6 : Nat → Int64) (H : Heap) (locs : List Loc) (hP : va_P D.1 j_cl (mW D o q (uL (uL u 13 n6) 14 t4)) H) (hS : va_S A st.heap H locs) (ls : Array Slot) (hl : lv_has ls 9 [(0, .ref o), (1, .int (J s)), (2, .int (J i)), (6, .int (J k4))]) (i224_0 : 0 ≤ k4 ∧ k4 ≤ 25921) (i224_1 : ∀ j : Nat, (j : Int) < k4 → n6 j = t4 j), ((25921 : Int) - k4).toNat < nn → W pr l en (headSpec (jw yX12_parts cX12_parts 9 (some .long)) (jr 4 88)).room st mi (([.ref o, .int (J s)] : List Value).toArray) below meth co H locs 0 0 (MQ below (jWL (fun x9 u' => ∃ nw : Nat → Int64, ∃ tn_ : Nat → Int64, u' = (uL (uL u 13 nw) 14 tn_) ∧ (IM u' ∧ paM u s x9)) (fun u' H => va_P D.1 j_cl (mW D o q u') H) A) (([.ref o, .int (J s)] : List Value).toArray) st 0 0 A) (F0 mi 224 ls []) := by
                                intro nn
                                induction nn with
                                | zero => intros; omega
                                | succ nn ih_224 =>
                                  intro k4 n6 H locs hP hS ls hl i224_0 i224_1 hm
                                  refine lv_iload SS.1 SS.2.1 dX12_parts_224 (lv_at hl 3 rfl) ?_
                                  refine j_sipush SS dX12_parts_226 (by decide +kernel) ?_
                                  refine j_icmp_ge SS (tgt := 252) (x := k4) (y := 25921) dX12_parts_229 (by decide) (by omega) (by decide) (fun c_229 => ?_) (fun c_229 => ?_)
                                  · skip
                                    refine lv_iinc (v := J (i + 1)) (lv' := [(2, .int (J (i + 1))), (0, .ref o), (1, .int (J s)), (6, .int (J k4))]) SS.1 SS.2.1 dX12_parts_252 hl (k := 2) rfl (J_add _ _) (by decide) rfl (fun ls hl => ?_)
                                    refine lv_goto (tgt := 60) SS.1 SS.2.1 dX12_parts_255 (by decide) ?_
                                    exact ih_60 (i + 1) n6 t4 _ _ hP hS ls (lv_sub hl [1, 2, 0] rfl) (by omega) (PNi_s hSh (by omega) (by omega) i60_1 (by rw [show k3 = 25921 by omega] at i121_1; exact i121_1) (by rw [show k4 = 25921 by omega] at i224_1; exact i224_1)) (by omega)
                                  · skip
                                    refine lv_aload_n SS.1 SS.2.1 dX12_parts_232 rfl (lv_at hl 0 rfl) ?_
                                    refine j_get SS hG hP 0 (v := .ref (q 13)) (C := RX12) (T := TX12) (N := 31) rfl rfl inX12 13 (by decide) (ref := RX12) kw_1071 rfl rfl dX12_parts_233 ?_
                                    refine lv_iload SS.1 SS.2.1 dX12_parts_236 (lv_at hl 3 rfl) ?_
                                    refine lv_aload_n SS.1 SS.2.1 dX12_parts_238 rfl (lv_at hl 0 rfl) ?_
                                    refine j_get SS hG hP 0 (v := .ref (q 14)) (C := RX12) (T := TX12) (N := 31) rfl rfl inX12 14 (by decide) (ref := RX12) kw_1072 rfl rfl dX12_parts_239 ?_
                                    refine lv_iload SS.1 SS.2.1 dX12_parts_242 (lv_at hl 3 rfl) ?_
                                    refine j_lald SS hG hP 12 (n := 25921) (f := t4) rfl (z := k4) (by omega) (by omega) dX12_parts_244 ?_
                                    refine j_last SS hG hP (mW_D hD) hS 11 (n := 25921) (f := n6) rfl (z := k4) (v := (t4 (k4).toNat)) (by omega) (by omega) dX12_parts_245 (ws' := (mW D o q (uL (uL u 13 (vp_updL n6 (k4).toNat (t4 (k4).toNat))) 14 t4))) rfl (fun H locs hP hS => ?_)
                                    refine lv_iinc (v := J (k4 + 1)) (lv' := [(6, .int (J (k4 + 1))), (0, .ref o), (1, .int (J s)), (2, .int (J i))]) SS.1 SS.2.1 dX12_parts_246 hl (k := 3) rfl (J_add _ _) (by decide) rfl (fun ls hl => ?_)
                                    refine lv_goto (tgt := 224) SS.1 SS.2.1 dX12_parts_249 (by decide) ?_
                                    exact ih_224 (k4 + 1) (vp_updL n6 (k4).toNat (t4 (k4).toNat)) _ _ hP hS ls (lv_sub hl [1, 2, 3, 0] rfl) (by omega) (fun j hj => by show (if j = k4.toNat then _ else n6 j) = _; by_cases e : (j : Int) = k4; (rw [if_pos (by omega)]; exact congrArg t4 (by omega)); (rw [if_neg (by omega)]; exact i224_1 j (by omega))) (by omega)
                              exact L_224 (((25921 : Int) - (0 : Int)).toNat + 1) 0 n2 _ _ hP hS ls (lv_sub hl [1, 2, 3, 0] rfl) (by omega) (fun j hj => by omega) (Nat.lt_succ_self _)
                            · skip
                              refine lv_aload_n SS.1 SS.2.1 dX12_parts_129 rfl (lv_at hl 0 rfl) ?_
                              refine j_get SS hG hP 0 (v := .ref (q 13)) (C := RX12) (T := TX12) (N := 31) rfl rfl inX12 13 (by decide) (ref := RX12) kw_1071 rfl rfl dX12_parts_130 ?_
                              refine lv_iload SS.1 SS.2.1 dX12_parts_133 (lv_at hl 6 rfl) ?_
                              refine j_lald SS hG hP 11 (n := 25921) (f := n2) rfl (z := k3) (by omega) (by omega) dX12_parts_135 ?_
                              refine lv_lconst (v := 0) SS.1 SS.2.1 dX12_parts_136 (by decide +kernel) ?_
                              refine j_lcmp SS dX12_parts_137 (fun z_137 hz_137 => ?_)
                              refine j_if_eq SS (tgt := 215) (x := z_137) dX12_parts_138 (by decide) (by omega) (fun c_138 => ?_) (fun c_138 => ?_)
                              · skip
                                refine lv_iinc (v := J (k3 + 1)) (lv' := [(6, .int (J (k3 + 1))), (0, .ref o), (1, .int (J s)), (2, .int (J i)), (3, .int (J z_73)), (4, .int (J z_80)), (5, .int (J z_88))]) SS.1 SS.2.1 dX12_parts_215 hl (k := 6) rfl (J_add _ _) (by decide) rfl (fun ls hl => ?_)
                                refine lv_goto (tgt := 121) SS.1 SS.2.1 dX12_parts_218 (by decide) ?_
                                exact ih_121 (k3 + 1) t4 _ _ hP hS ls (lv_sub hl [1, 2, 3, 4, 5, 6, 0] rfl) (by omega) (by first | exact PT9_z (by omega) (hz_137.2.2.2.mp (by omega)) i121_1 | exact PT9_e (by omega) (by have w9 := i144_1; rw [show t.toNat = (mS u s i).toNat + 1 by omega] at w9; exact w9)) (by omega)
                              · skip
                                refine j_iconst SS dX12_parts_141 ?_
                                refine lv_istore (lv' := [(7, .int (J 0)), (0, .ref o), (1, .int (J s)), (2, .int (J i)), (3, .int (J z_73)), (4, .int (J z_80)), (5, .int (J z_88)), (6, .int (J k3))]) SS.1 SS.2.1 dX12_parts_142 hl (by decide) rfl (fun ls hl => ?_)
                                have L_144 : ∀ (nn : Nat) (t : Int) (t5 : Nat → Int64) (H : Heap) (locs : List Loc) (hP : va_P D.1 j_cl (mW D o q (uL (uL u 13 n2) 14 t5)) H) (hS : va_S A st.heap H locs) (ls : Array Slot) (hl : lv_has ls 9 [(0, .ref o), (1, .int (J s)), (2, .int (J i)), (3, .int (J z_73)), (4, .int (J z_80)), (5, .int (J z_88)), (6, .int (J k3)), (7, .int (J t))]) (i144_0 : 0 ≤ t ∧ t ≤ z_88 + 1) (i144_1 : PT9 n2 t5 k3 (mDX u s i) (mDY u s i) (mS u s i).toNat t.toNat), ((82 : Int) - t).toNat < nn → W pr l en (headSpec (jw yX12_parts cX12_parts 9 (some .long)) (jr 4 88)).room st mi (([.ref o, .int (J s)] : List Value).toArray) below meth co H locs 0 0 (MQ below (jWL (fun x9 u' => ∃ nw : Nat → Int64, ∃ tn_ : Nat → Int64, u' = (uL (uL u 13 nw) 14 tn_) ∧ (IM u' ∧ paM u s x9)) (fun u' H => va_P D.1 j_cl (mW D o q u') H) A) (([.ref o, .int (J s)] : List Value).toArray) st 0 0 A) (F0 mi 144 ls []) := by
                                  intro nn
                                  induction nn with
                                  | zero => intros; omega
                                  | succ nn ih_144 =>
                                    intro t t5 H locs hP hS ls hl i144_0 i144_1 hm
                                    refine lv_iload SS.1 SS.2.1 dX12_parts_144 (lv_at hl 7 rfl) ?_
                                    refine lv_iload SS.1 SS.2.1 dX12_parts_146 (lv_at hl 5 rfl) ?_
                                    refine j_icmp_gt SS (tgt := 215) (x := t) (y := z_88) dX12_parts_148 (by decide) (by omega) (by omega) (fun c_148 => ?_) (fun c_148 => ?_)
                                    · skip
                                      refine lv_iinc (v := J (k3 + 1)) (lv' := [(6, .int (J (k3 + 1))), (0, .ref o), (1, .int (J s)), (2, .int (J i)), (3, .int (J z_73)), (4, .int (J z_80)), (5, .int (J z_88)), (7, .int (J t))]) SS.1 SS.2.1 dX12_parts_215 hl (k := 6) rfl (J_add _ _) (by decide) rfl (fun ls hl => ?_)
                                      refine lv_goto (tgt := 121) SS.1 SS.2.1 dX12_parts_218 (by decide) ?_
                                      exact ih_121 (k3 + 1) t5 _ _ hP hS ls (lv_sub hl [1, 2, 3, 4, 5, 6, 0] rfl) (by omega) (by first | exact PT9_z (by omega) (hz_137.2.2.2.mp (by omega)) i121_1 | exact PT9_e (by omega) (by have w9 := i144_1; rw [show t.toNat = (mS u s i).toNat + 1 by omega] at w9; exact w9)) (by omega)
                                    · skip
                                      have ke := km_e i121_0.1
                                      have m1 := mulb (A := 81) (B := 80) (a := t) (b := z_73) (by omega) (by omega)
                                      have m2 := mulb (A := 81) (B := 80) (a := t) (b := z_80) (by omega) (by omega)
                                      refine lv_iload SS.1 SS.2.1 dX12_parts_151 (lv_at hl 6 rfl) ?_
                                      refine j_sipush SS dX12_parts_153 (by decide +kernel) ?_
                                      refine j_irem SS (x := k3) (y := 161) dX12_parts_156 (by omega) (by decide) (by decide) ?_
                                      refine j_bipush SS dX12_parts_157 (by decide +kernel) ?_
                                      refine j_isub SS (x := (Int.tmod k3 161)) (y := 80) dX12_parts_159 ?_
                                      refine lv_iload SS.1 SS.2.1 dX12_parts_160 (lv_at hl 7 rfl) ?_
                                      refine lv_iload_n SS.1 SS.2.1 dX12_parts_162 rfl (lv_at hl 3 rfl) ?_
                                      refine j_imul SS (x := t) (y := z_73) dX12_parts_163 ?_
                                      refine j_iadd SS (x := ((Int.tmod k3 161) - 80)) (y := (t * z_73)) dX12_parts_164 ?_
                                      refine lv_iload SS.1 SS.2.1 dX12_parts_165 (lv_at hl 6 rfl) ?_
                                      refine j_sipush SS dX12_parts_167 (by decide +kernel) ?_
                                      refine j_idiv SS (x := k3) (y := 161) dX12_parts_170 (by omega) (by decide) (by decide) ?_
                                      refine j_bipush SS dX12_parts_171 (by decide +kernel) ?_
                                      refine j_isub SS (x := (Int.tdiv k3 161)) (y := 80) dX12_parts_173 ?_
                                      refine lv_iload SS.1 SS.2.1 dX12_parts_174 (lv_at hl 7 rfl) ?_
                                      refine lv_iload SS.1 SS.2.1 dX12_parts_176 (lv_at hl 4 rfl) ?_
                                      refine j_imul SS (x := t) (y := z_80) dX12_parts_178 ?_
                                      refine j_iadd SS (x := ((Int.tdiv k3 161) - 80)) (y := (t * z_80)) dX12_parts_179 ?_
                                      refine j_sRi SS (As := [.int (J (((Int.tmod k3 161) - 80) + (t * z_73))), .int (J (((Int.tdiv k3 161) - 80) + (t * z_80)))]) (rest := []) (c_X12_spot l D (((Int.tmod k3 161) - 80) + (t * z_73)) (((Int.tdiv k3 161) - 80) + (t * z_80)) (show -2147483648 ≤ (((Int.tmod k3 161) - 80) + (t * z_73)) ∧ (((Int.tmod k3 161) - 80) + (t * z_73)) ≤ 2147483647 from (by rw [ke.1]; omega)) (show -2147483648 ≤ (((Int.tdiv k3 161) - 80) + (t * z_80)) ∧ (((Int.tdiv k3 161) - 80) + (t * z_80)) ≤ 2147483647 from (by rw [ke.2]; omega))) mf_X12_spot kw_1329 hG trivial rfl hl.1 ⟨⟨Nat.le_of_ble_eq_true rfl, Nat.le_of_ble_eq_true rfl⟩, Nat.le_of_ble_eq_true rfl, Nat.le_refl _, Nat.le_refl _⟩ rfl dX12_parts_180 (fun z_180 h_180 => ?_)
                                      have h_180 : ((-80 ≤ (((Int.tmod k3 161) - 80) + (t * z_73)) ∧ (((Int.tmod k3 161) - 80) + (t * z_73)) ≤ 80) ∧ (-80 ≤ (((Int.tdiv k3 161) - 80) + (t * z_80)) ∧ (((Int.tdiv k3 161) - 80) + (t * z_80)) ≤ 80) ∧ z_180 = 161 * ((((Int.tdiv k3 161) - 80) + (t * z_80)) + 80) + (((Int.tmod k3 161) - 80) + (t * z_73)) + 80) ∨ (¬ ((-80 ≤ (((Int.tmod k3 161) - 80) + (t * z_73)) ∧ (((Int.tmod k3 161) - 80) + (t * z_73)) ≤ 80) ∧ (-80 ≤ (((Int.tdiv k3 161) - 80) + (t * z_80)) ∧ (((Int.tdiv k3 161) - 80) + (t * z_80)) ≤ 80)) ∧ z_180 = -9) := h_180
                                      refine lv_istore (lv' := [(8, .int (J z_180)), (0, .ref o), (1, .int (J s)), (2, .int (J i)), (3, .int (J z_73)), (4, .int (J z_80)), (5, .int (J z_88)), (6, .int (J k3)), (7, .int (J t))]) SS.1 SS.2.1 dX12_parts_183 hl (by decide) rfl (fun ls hl => ?_)
                                      refine lv_iload SS.1 SS.2.1 dX12_parts_185 (lv_at hl 0 rfl) ?_
                                      refine j_bipush SS dX12_parts_187 (by decide +kernel) ?_
                                      refine j_icmp_eq SS (tgt := 209) (x := z_180) (y := (-9)) dX12_parts_189 (by decide) (by omega) (by decide) (fun c_189 => ?_) (fun c_189 => ?_)
                                      · skip
                                        refine lv_iinc (v := J (t + 1)) (lv' := [(7, .int (J (t + 1))), (8, .int (J z_180)), (0, .ref o), (1, .int (J s)), (2, .int (J i)), (3, .int (J z_73)), (4, .int (J z_80)), (5, .int (J z_88)), (6, .int (J k3))]) SS.1 SS.2.1 dX12_parts_209 hl (k := 8) rfl (J_add _ _) (by decide) rfl (fun ls hl => ?_)
                                        refine lv_goto (tgt := 144) SS.1 SS.2.1 dX12_parts_212 (by decide) ?_
                                        exact ih_144 (t + 1) t5 _ _ hP hS ls (lv_sub hl [2, 3, 4, 5, 6, 7, 8, 0] rfl) (by omega) (by first | exact PT9_s i144_0.1 i144_1 rfl rfl (by rw [← ke.1, ← ke.2, ← h_73.1, ← h_80.1]; unfold inB9 ixB; omega) | exact PT9_n i144_0.1 i144_1 rfl rfl (by rw [← ke.1, ← ke.2, ← h_73.1, ← h_80.1]; unfold inB9; omega)) (by omega)
                                      · skip
                                        refine lv_aload_n SS.1 SS.2.1 dX12_parts_192 rfl (lv_at hl 1 rfl) ?_
                                        refine j_get SS hG hP 0 (v := .ref (q 14)) (C := RX12) (T := TX12) (N := 31) rfl rfl inX12 14 (by decide) (ref := RX12) kw_1072 rfl rfl dX12_parts_193 ?_
                                        refine lv_iload SS.1 SS.2.1 dX12_parts_196 (lv_at hl 0 rfl) ?_
                                        refine lv_dup2_11 SS.1 SS.2.1 dX12_parts_198 rfl rfl ?_
                                        refine j_lald SS hG hP 12 (n := 25921) (f := t5) rfl (z := z_180) (by omega) (by omega) dX12_parts_199 ?_
                                        refine lv_aload_n SS.1 SS.2.1 dX12_parts_200 rfl (lv_at hl 1 rfl) ?_
                                        refine j_get SS hG hP 0 (v := .ref (q 13)) (C := RX12) (T := TX12) (N := 31) rfl rfl inX12 13 (by decide) (ref := RX12) kw_1071 rfl rfl dX12_parts_201 ?_
                                        refine lv_iload SS.1 SS.2.1 dX12_parts_204 (lv_at hl 7 rfl) ?_
                                        refine j_lald SS hG hP 11 (n := 25921) (f := n2) rfl (z := k3) (by omega) (by omega) dX12_parts_206 ?_
                                        refine lv_ladd SS.1 SS.2.1 dX12_parts_207 ?_
                                        refine j_last SS hG hP (mW_D hD) hS 12 (n := 25921) (f := t5) rfl (z := z_180) (v := ((t5 (z_180).toNat) + (n2 (k3).toNat))) (by omega) (by omega) dX12_parts_208 (ws' := (mW D o q (uL (uL u 13 n2) 14 (vp_updL t5 (z_180).toNat ((t5 (z_180).toNat) + (n2 (k3).toNat)))))) rfl (fun H locs hP hS => ?_)
                                        refine lv_iinc (v := J (t + 1)) (lv' := [(7, .int (J (t + 1))), (8, .int (J z_180)), (0, .ref o), (1, .int (J s)), (2, .int (J i)), (3, .int (J z_73)), (4, .int (J z_80)), (5, .int (J z_88)), (6, .int (J k3))]) SS.1 SS.2.1 dX12_parts_209 hl (k := 8) rfl (J_add _ _) (by decide) rfl (fun ls hl => ?_)
                                        refine lv_goto (tgt := 144) SS.1 SS.2.1 dX12_parts_212 (by decide) ?_
                                        exact ih_144 (t + 1) (vp_updL t5 (z_180).toNat ((t5 (z_180).toNat) + (n2 (k3).toNat))) _ _ hP hS ls (lv_sub hl [2, 3, 4, 5, 6, 7, 8, 0] rfl) (by omega) (by first | exact PT9_s i144_0.1 i144_1 rfl rfl (by rw [← ke.1, ← ke.2, ← h_73.1, ← h_80.1]; unfold inB9 ixB; omega) | exact PT9_n i144_0.1 i144_1 rfl rfl (by rw [← ke.1, ← ke.2, ← h_73.1, ← h_80.1]; unfold inB9; omega)) (by omega)
                                exact L_144 (((82 : Int) - (0 : Int)).toNat + 1) 0 t4 _ _ hP hS ls (lv_sub hl [1, 2, 3, 4, 5, 6, 7, 0] rfl) (by omega) (PT9_0 i121_1) (Nat.lt_succ_self _)
                        exact L_121 (((25921 : Int) - (0 : Int)).toNat + 1) 0 t3 _ _ hP hS ls (lv_sub hl [1, 2, 3, 4, 5, 6, 0] rfl) (by omega) (fun x y b => by have r := ixB_r b; rw [i96_1 _ (by omega)]; exact ((stw_c _ x y (fun _ _ => arK_0)).trans (stw_0 _ x y)).symm) (Nat.lt_succ_self _)
                      · skip
                        refine lv_aload_n SS.1 SS.2.1 dX12_parts_104 rfl (lv_at hl 0 rfl) ?_
                        refine j_get SS hG hP 0 (v := .ref (q 14)) (C := RX12) (T := TX12) (N := 31) rfl rfl inX12 14 (by decide) (ref := RX12) kw_1072 rfl rfl dX12_parts_105 ?_
                        refine lv_iload SS.1 SS.2.1 dX12_parts_108 (lv_at hl 6 rfl) ?_
                        refine lv_lconst (v := 0) SS.1 SS.2.1 dX12_parts_110 (by decide +kernel) ?_
                        refine j_last SS hG hP (mW_D hD) hS 12 (n := 25921) (f := t3) rfl (z := k2) (v := 0) (by omega) (by omega) dX12_parts_111 (ws' := (mW D o q (uL (uL u 13 n2) 14 (vp_updL t3 (k2).toNat 0)))) rfl (fun H locs hP hS => ?_)
                        refine lv_iinc (v := J (k2 + 1)) (lv' := [(6, .int (J (k2 + 1))), (0, .ref o), (1, .int (J s)), (2, .int (J i)), (3, .int (J z_73)), (4, .int (J z_80)), (5, .int (J z_88))]) SS.1 SS.2.1 dX12_parts_112 hl (k := 6) rfl (J_add _ _) (by decide) rfl (fun ls hl => ?_)
                        refine lv_goto (tgt := 96) SS.1 SS.2.1 dX12_parts_115 (by decide) ?_
                        exact ih_96 (k2 + 1) (vp_updL t3 (k2).toNat 0) _ _ hP hS ls (lv_sub hl [1, 2, 3, 4, 5, 6, 0] rfl) (by omega) (fun j hj => by show (if j = k2.toNat then _ else t3 j) = _; by_cases e : (j : Int) = k2; (rw [if_pos (by omega)]); (rw [if_neg (by omega)]; exact i96_1 j (by omega))) (by omega)
                  exact L_96 (((25921 : Int) - (0 : Int)).toNat + 1) 0 t2 _ _ hP hS ls (lv_sub hl [4, 5, 6, 3, 2, 1, 0] rfl) (by omega) (fun j hj => by omega) (Nat.lt_succ_self _)
            exact L_60 ((mN u s - (0 : Int)).toNat + 1) 0 n1 (u.2.1 14) _ _ hP hS ls (lv_sub hl [1, 2, 0] rfl) (by omega) (PNi_0 (by rw [show k = 25921 by omega] at i25_1; exact i25_1)) (Nat.lt_succ_self _)
          · skip
            refine lv_aload_n SS.1 SS.2.1 dX12_parts_32 rfl (lv_at hl 0 rfl) ?_
            refine j_get SS hG hP 0 (v := .ref (q 13)) (C := RX12) (T := TX12) (N := 31) rfl rfl inX12 13 (by decide) (ref := RX12) kw_1071 rfl rfl dX12_parts_33 ?_
            refine lv_iload_n SS.1 SS.2.1 dX12_parts_36 rfl (lv_at hl 2 rfl) ?_
            refine lv_iload_n SS.1 SS.2.1 dX12_parts_37 rfl (lv_at hl 2 rfl) ?_
            refine j_iconst SS dX12_parts_38 ?_
            refine j_iconst SS dX12_parts_39 ?_
            refine j_sRi SS (As := [.int (J 0), .int (J 0)]) (rest := [.int (J k), .int (J k), .ref (q 13)]) (c_X12_spot l D 0 0 (show -2147483648 ≤ (0 : Int) ∧ (0 : Int) ≤ 2147483647 from (by omega)) (show -2147483648 ≤ (0 : Int) ∧ (0 : Int) ≤ 2147483647 from (by omega))) mf_X12_spot kw_1329 hG trivial rfl hl.1 ⟨⟨Nat.le_of_ble_eq_true rfl, Nat.le_of_ble_eq_true rfl⟩, Nat.le_of_ble_eq_true rfl, Nat.le_refl _, Nat.le_refl _⟩ rfl dX12_parts_40 (fun z_40 h_40 => ?_)
            have h_40 : ((-80 ≤ (0 : Int) ∧ (0 : Int) ≤ 80) ∧ (-80 ≤ (0 : Int) ∧ (0 : Int) ≤ 80) ∧ z_40 = 161 * ((0 : Int) + 80) + (0 : Int) + 80) ∨ (¬ ((-80 ≤ (0 : Int) ∧ (0 : Int) ≤ 80) ∧ (-80 ≤ (0 : Int) ∧ (0 : Int) ≤ 80)) ∧ z_40 = -9) := h_40
            refine j_icmp_ne SS (tgt := 50) (x := k) (y := z_40) dX12_parts_43 (by decide) (by omega) (by omega) (fun c_43 => ?_) (fun c_43 => ?_)
            · skip
              refine lv_lconst (v := 0) SS.1 SS.2.1 dX12_parts_50 (by decide +kernel) ?_
              refine j_last SS hG hP (mW_D hD) hS 11 (n := 25921) (f := n1) rfl (z := k) (v := 0) (by omega) (by omega) dX12_parts_51 (ws' := (mW D o q (uL u 13 (vp_updL n1 (k).toNat 0)))) rfl (fun H locs hP hS => ?_)
              refine lv_iinc (v := J (k + 1)) (lv' := [(2, .int (J (k + 1))), (0, .ref o), (1, .int (J s))]) SS.1 SS.2.1 dX12_parts_52 hl (k := 2) rfl (J_add _ _) (by decide) rfl (fun ls hl => ?_)
              refine lv_goto (tgt := 25) SS.1 SS.2.1 dX12_parts_55 (by decide) ?_
              exact ih_25 (k + 1) (vp_updL n1 (k).toNat 0) _ _ hP hS ls (lv_sub hl [1, 2, 0] rfl) (by omega) (fun j hj => by show (if j = k.toNat then _ else n1 j) = _; by_cases e : (j : Int) = k; (rw [if_pos (by omega)]; first | (rw [if_pos (by omega)]) | (rw [if_neg (by omega)])); (rw [if_neg (by omega)]; exact i25_1 j (by omega))) (by omega)
            · skip
              refine lv_lconst (v := 1) SS.1 SS.2.1 dX12_parts_46 (by decide +kernel) ?_
              refine lv_goto (tgt := 51) SS.1 SS.2.1 dX12_parts_47 (by decide) ?_
              refine j_last SS hG hP (mW_D hD) hS 11 (n := 25921) (f := n1) rfl (z := k) (v := 1) (by omega) (by omega) dX12_parts_51 (ws' := (mW D o q (uL u 13 (vp_updL n1 (k).toNat 1)))) rfl (fun H locs hP hS => ?_)
              refine lv_iinc (v := J (k + 1)) (lv' := [(2, .int (J (k + 1))), (0, .ref o), (1, .int (J s))]) SS.1 SS.2.1 dX12_parts_52 hl (k := 2) rfl (J_add _ _) (by decide) rfl (fun ls hl => ?_)
              refine lv_goto (tgt := 25) SS.1 SS.2.1 dX12_parts_55 (by decide) ?_
              exact ih_25 (k + 1) (vp_updL n1 (k).toNat 1) _ _ hP hS ls (lv_sub hl [1, 2, 0] rfl) (by omega) (fun j hj => by show (if j = k.toNat then _ else n1 j) = _; by_cases e : (j : Int) = k; (rw [if_pos (by omega)]; first | (rw [if_pos (by omega)]) | (rw [if_neg (by omega)])); (rw [if_neg (by omega)]; exact i25_1 j (by omega))) (by omega)
      exact L_25 (((25921 : Int) - (0 : Int)).toNat + 1) 0 (u.2.1 13) _ _ hP hS ls (lv_sub hl [1, 2, 0] rfl) (by omega) (fun j hj => by omega) (Nat.lt_succ_self _)
    · skip
      refine lv_ldc2 SS.1 SS.2.1 SS.2.2.2.1 (SS.2.2.2.2 _ kw_1249) dX12_parts_19 ?_
      exact W.lret SS.1 SS.2.1 hr (fun t ht hW => ⟨⟨_, (uL (uL u 13 (u.2.1 13)) 14 (u.2.1 14)), rfl, (⟨(u.2.1 13), (u.2.1 14), rfl, by first | exact ⟨p0, Or.inl ⟨by omega, rfl⟩⟩ | exact ⟨p0, Or.inr ⟨by omega, Or.inl ⟨by omega, rfl⟩⟩⟩ | exact ⟨p0, Or.inr ⟨by omega, Or.inr ⟨by omega, fun hH => by have w9 := PNi_e (by rw [show i = mN u s by omega] at i60_1; exact i60_1) hH; rw [← w9]; exact congrArg n2 (by omega)⟩⟩⟩⟩), by show va_P D.1 j_cl (mW D o q (uL (uL u 13 (u.2.1 13)) 14 (u.2.1 14))) t.heap; rw [ht]; exact hP⟩, hS.F ht⟩) hS.2.2 dX12_parts_22 hlk
  · skip
    refine lv_ldc2 SS.1 SS.2.1 SS.2.2.2.1 (SS.2.2.2.2 _ kw_1248) dX12_parts_7 ?_
    exact W.lret SS.1 SS.2.1 hr (fun t ht hW => ⟨⟨_, (uL (uL u 13 (u.2.1 13)) 14 (u.2.1 14)), rfl, (⟨(u.2.1 13), (u.2.1 14), rfl, by first | exact ⟨p0, Or.inl ⟨by omega, rfl⟩⟩ | exact ⟨p0, Or.inr ⟨by omega, Or.inl ⟨by omega, rfl⟩⟩⟩ | exact ⟨p0, Or.inr ⟨by omega, Or.inr ⟨by omega, fun hH => by have w9 := PNi_e (by rw [show i = mN u s by omega] at i60_1; exact i60_1) hH; rw [← w9]; exact congrArg n2 (by omega)⟩⟩⟩⟩), by show va_P D.1 j_cl (mW D o q (uL (uL u 13 (u.2.1 13)) 14 (u.2.1 14))) t.heap; rw [ht]; exact hP⟩, hS.F ht⟩) hS.2.2 dX12_parts_10 hlk
