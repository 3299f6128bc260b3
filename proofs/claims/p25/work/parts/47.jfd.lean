
set_option maxHeartbeats 4000000 in
set_option maxRecDepth 100000 in
theorem c_X12_findPieces3 (l : Launch) (D : JD) (o : Nat) (q : Nat → Nat) (u : MS) (A : Nat → Prop) (hD : va_D A (mW D o q u)) (s : Int) (p0 : IM u) (p1 : 0 ≤ s ∧ s ≤ 7) (p2 : 2 < mN u s) (p3 : mEd u s + mIn u s ≤ 40) : Met l yX12_findPieces (jw yX12_findPieces cX12_findPieces 9 none) (jr 3 89) (jP [.ref o, .int (J s)] D (fun H => va_P D.1 j_cl (mW D o q u) H)) (jWv (fun u' => ∃ X : Nat → Int, ∃ Y : Nat → Int, ∃ n : Int, ∃ C : Nat → Int64, ∃ m : Int, u' = (uV (uL (uV (uI (uI u 10 X) 11 Y) 12 n) 29 C) 30 m) ∧ (((0 ≤ m ∧ m ≤ 80) ∧ IM u') ∧ ((0 ≤ n ∧ n ≤ 40) ∧ OL (PBx u s) n X Y) ∧ PL9 PB X Y (h9 (u.1 3) s) n.toNat m C ∧ DN9 X Y (u.1 3) s n C m (fun i j k => i < n))) (fun u' H => va_P D.1 j_cl (mW D o q u') H) A) 0 0 A := by
  refine Met.ofW (cc := cX12_findPieces) (maxL := 9) (ret := none) (by decide) rfl ?_
  intro pr en st mi args below meth co s₁ B hml hv
  obtain ⟨rfl, hG, hP⟩ := hv
  have hr := B.returns
  have hlk := B.notSynchronized
  have SS : jS pr mi co cX12_findPieces 9 st _ RX12 := ⟨B.exec, B.bytes, hml, findClass_of_methodNamed B.named, fun w hw => atoms_spec (ws := (jw yX12_findPieces cX12_findPieces 9 none)) B.pre w (List.mem_cons_of_mem _ hw)⟩
  have hl := lv_entry ([.ref o, .int (J s)]) (n := 9) (Nat.le_of_ble_eq_true rfl)
  rw [lg_entry_eq]
  generalize (lg_sl ([.ref o, .int (J s)]) ++ List.replicate (9 - (lg_sl ([.ref o, .int (J s)])).length) Slot.unset).toArray = ls at hl ⊢
  have hl : lv_has ls 9 [(0, .ref o), (1, .int (J s))] := hl
  have hS : va_S A st.heap st.heap [] := va_S.rf
  refine lv_aload_n SS.1 SS.2.1 dX12_findPieces_0 rfl (lv_at hl 0 rfl) ?_
  refine lv_iload_n SS.1 SS.2.1 dX12_findPieces_1 rfl (lv_at hl 1 rfl) ?_
  refine j_vWv SS (As := [.int (J s)]) (rest := []) (c_X12_findAll3 l D o q u A (mW_D hD) s (show 0 ≤ s ∧ s ≤ 7 from (by omega)) (show Sh u s from (p0.1 _ (by omega) (by omega)))) mf_X12_findAll kw_1266 hG hP hP (ci := 8) (q0 := 0) rfl rfl rfl hS (fun _ h => h) rfl hl.1 ⟨⟨Nat.le_of_ble_eq_true rfl, Nat.le_of_ble_eq_true rfl⟩, Nat.le_of_ble_eq_true rfl, Nat.le_refl _, Nat.le_refl _⟩ rfl dX12_findPieces_2 (fun u2 H locs h_2 hP _ hS => ?_)
  obtain ⟨X_2, Y_2, n_2, lo_2, hi_2, rfl, h_2⟩ := h_2
  have hP : va_P D.1 j_cl (mW D o q (uV (uI (uI u 10 X_2) 11 Y_2) 12 n_2)) H := hP
  have h_2 : (0 ≤ n_2 ∧ n_2 ≤ 6561 ∧ bd 40 X_2 Y_2 n_2 ∧ OL (PBx u s) n_2 X_2 Y_2 ∧ (bd 40 ((u.1 10)) ((u.1 11)) 6561 → bd 40 X_2 Y_2 6561)) ∧ (0 < mN u s → (∀ k : Int, 0 ≤ k → k < mN u s → lo_2 ≤ mX u s k ∧ mX u s k ≤ hi_2) ∧ (∃ k : Int, 0 ≤ k ∧ k < mN u s ∧ mX u s k = lo_2) ∧ ∃ k : Int, 0 ≤ k ∧ k < mN u s ∧ mX u s k = hi_2) ∧ ∀ L U : Int → Int, LU u s lo_2 hi_2 L U → n_2 ≤ cb_ L U lo_2 (hi_2 + 1 - lo_2) ∨ hi_2 < lo_2 ∧ n_2 = 0 := h_2
  have hn40 : n_2 ≤ 40 := Int.le_trans (fa_pick (p0.1 s (by omega) (by omega)) p2 (h_2.2.1 (by omega)) h_2.2.2) p3
  have hn0 := h_2.1.1
  have hOL := h_2.1.2.2.2.1
  have hos := hOL.2.1
  have hIM : bd 40 X_2 Y_2 6561 := h_2.1.2.2.2.2 p0.2.2
  refine lv_aload_n SS.1 SS.2.1 dX12_findPieces_5 rfl (lv_at hl 0 rfl) ?_
  refine j_iconst SS dX12_findPieces_6 ?_
  refine j_put SS hG hP (mW_D hD) hS 0 (v := .int (J 0)) (ty := .int) (C := RX12) (T := TX12) (N := 31) rfl rfl inX12 tyX12 tyX12_ok nmX12 30 (by decide) (ref := RX12) kw_1088 rfl rfl (by decide +kernel) rfl rfl (Nat.le_of_ble_eq_true rfl) dX12_findPieces_7 (ws' := (mW D o q (uV (uV (uI (uI u 10 X_2) 11 Y_2) 12 n_2) 30 0))) rfl (fun H locs hP hS => ?_)
  refine j_iconst SS dX12_findPieces_10 ?_
  refine lv_istore_n (lv' := [(2, .int (J 0)), (0, .ref o), (1, .int (J s))]) SS.1 SS.2.1 dX12_findPieces_11 rfl hl (by decide) rfl (fun ls hl => ?_)
  have L_12 : ∀ (nn : Nat) (i : Int) (B1 : Nat → Int64) (m1 : Int) (H : Heap) (locs : List Loc) (hP : va_P D.1 j_cl (mW D o q (uV (uL (uV (uI (uI u 10 X_2) 11 Y_2) 12 n_2) 29 B1) 30 m1)) H) (hS : va_S A st.heap H locs) (ls : Array Slot) (hl : lv_has ls 9 [(0, .ref o), (1, .int (J s)), (2, .int (J i))]) (i12_0 : 0 ≤ i ∧ i ≤ n_2) (i12_1 : PL9 PB X_2 Y_2 (h9 (u.1 3) s) n_2.toNat m1 B1) (i12_2 : DN9 X_2 Y_2 (u.1 3) s n_2 B1 m1 (fun i' j' k' => i' < i)), (n_2 - i).toNat < nn → W pr l en (headSpec (jw yX12_findPieces cX12_findPieces 9 none) (jr 3 89)).room st mi (([.ref o, .int (J s)] : List Value).toArray) below meth co H locs 0 0 (MQ below (jWv (fun u' => ∃ X : Nat → Int, ∃ Y : Nat → Int, ∃ n : Int, ∃ C : Nat → Int64, ∃ m : Int, u' = (uV (uL (uV (uI (uI u 10 X) 11 Y) 12 n) 29 C) 30 m) ∧ (((0 ≤ m ∧ m ≤ 80) ∧ IM u') ∧ ((0 ≤ n ∧ n ≤ 40) ∧ OL (PBx u s) n X Y) ∧ PL9 PB X Y (h9 (u.1 3) s) n.toNat m C ∧ DN9 X Y (u.1 3) s n C m (fun i j k => i < n))) (fun u' H => va_P D.1 j_cl (mW D o q u') H) A) (([.ref o, .int (J s)] : List Value).toArray) st 0 0 A) (F0 mi 12 ls []) := by
    intro nn
    induction nn with
    | zero => intros; omega
    | succ nn ih_12 =>
      intro i B1 m1 H locs hP hS ls hl i12_0 i12_1 i12_2 hm
      refine lv_iload_n SS.1 SS.2.1 dX12_findPieces_12 rfl (lv_at hl 2 rfl) ?_
      refine lv_aload_n SS.1 SS.2.1 dX12_findPieces_13 rfl (lv_at hl 0 rfl) ?_
      refine j_get SS hG hP 0 (v := .int (J n_2)) (C := RX12) (T := TX12) (N := 31) rfl rfl inX12 12 (by decide) (ref := RX12) kw_1070 rfl rfl dX12_findPieces_14 ?_
      refine j_icmp_ge SS (tgt := 221) (x := i) (y := n_2) dX12_findPieces_17 (by decide) (by omega) (by omega) (fun c_17 => ?_) (fun c_17 => ?_)
      · skip
        exact W.vret SS.1 SS.2.1 hr (fun t ht hW => ⟨⟨(uV (uL (uV (uI (uI u 10 X_2) 11 Y_2) 12 n_2) 29 B1) 30 m1), rfl, (⟨X_2, Y_2, n_2, B1, m1, rfl, ⟨⟨⟨i12_1.1, pz_80 hn40 hos (PL_pz (by omega) i12_1)⟩, p0.1, p0.2.1, hIM⟩, ⟨⟨by omega, hn40⟩, hOL⟩, i12_1, DN_c i12_2 (fun i9 j9 k9 a1 a2 a3 a4 q9 => by have q8 : i9 < n_2 := q9; show i9 < i; omega)⟩⟩), by show va_P D.1 j_cl (mW D o q (uV (uL (uV (uI (uI u 10 X_2) 11 Y_2) 12 n_2) 29 B1) 30 m1)) t.heap; rw [ht]; exact hP⟩, hS.F ht⟩) hS.2.2 dX12_findPieces_221 hlk
      · skip
        refine lv_iload_n SS.1 SS.2.1 dX12_findPieces_20 rfl (lv_at hl 2 rfl) ?_
        refine j_iconst SS dX12_findPieces_21 ?_
        refine j_iadd SS (x := i) (y := 1) dX12_findPieces_22 ?_
        refine lv_istore_n (lv' := [(3, .int (J (i + 1))), (0, .ref o), (1, .int (J s)), (2, .int (J i))]) SS.1 SS.2.1 dX12_findPieces_23 rfl hl (by decide) rfl (fun ls hl => ?_)
        have L_24 : ∀ (nn : Nat) (j : Int) (B2 : Nat → Int64) (m2 : Int) (H : Heap) (locs : List Loc) (hP : va_P D.1 j_cl (mW D o q (uV (uL (uV (uI (uI u 10 X_2) 11 Y_2) 12 n_2) 29 B2) 30 m2)) H) (hS : va_S A st.heap H locs) (ls : Array Slot) (hl : lv_has ls 9 [(0, .ref o), (1, .int (J s)), (2, .int (J i)), (3, .int (J j))]) (i24_0 : i + 1 ≤ j ∧ j ≤ n_2) (i24_1 : PL9 PB X_2 Y_2 (h9 (u.1 3) s) n_2.toNat m2 B2) (i24_2 : DN9 X_2 Y_2 (u.1 3) s n_2 B2 m2 (fun i' j' k' => i' < i ∨ (i' = i ∧ j' < j))), (n_2 - j).toNat < nn → W pr l en (headSpec (jw yX12_findPieces cX12_findPieces 9 none) (jr 3 89)).room st mi (([.ref o, .int (J s)] : List Value).toArray) below meth co H locs 0 0 (MQ below (jWv (fun u' => ∃ X : Nat → Int, ∃ Y : Nat → Int, ∃ n : Int, ∃ C : Nat → Int64, ∃ m : Int, u' = (uV (uL (uV (uI (uI u 10 X) 11 Y) 12 n) 29 C) 30 m) ∧ (((0 ≤ m ∧ m ≤ 80) ∧ IM u') ∧ ((0 ≤ n ∧ n ≤ 40) ∧ OL (PBx u s) n X Y) ∧ PL9 PB X Y (h9 (u.1 3) s) n.toNat m C ∧ DN9 X Y (u.1 3) s n C m (fun i j k => i < n))) (fun u' H => va_P D.1 j_cl (mW D o q u') H) A) (([.ref o, .int (J s)] : List Value).toArray) st 0 0 A) (F0 mi 24 ls []) := by
          intro nn
          induction nn with
          | zero => intros; omega
          | succ nn ih_24 =>
            intro j B2 m2 H locs hP hS ls hl i24_0 i24_1 i24_2 hm
            refine lv_iload_n SS.1 SS.2.1 dX12_findPieces_24 rfl (lv_at hl 3 rfl) ?_
            refine lv_aload_n SS.1 SS.2.1 dX12_findPieces_25 rfl (lv_at hl 0 rfl) ?_
            refine j_get SS hG hP 0 (v := .int (J n_2)) (C := RX12) (T := TX12) (N := 31) rfl rfl inX12 12 (by decide) (ref := RX12) kw_1070 rfl rfl dX12_findPieces_26 ?_
            refine j_icmp_ge SS (tgt := 215) (x := j) (y := n_2) dX12_findPieces_29 (by decide) (by omega) (by omega) (fun c_29 => ?_) (fun c_29 => ?_)
            · skip
              refine lv_iinc (v := J (i + 1)) (lv' := [(2, .int (J (i + 1))), (0, .ref o), (1, .int (J s)), (3, .int (J j))]) SS.1 SS.2.1 dX12_findPieces_215 hl (k := 2) rfl (J_add _ _) (by decide) rfl (fun ls hl => ?_)
              refine lv_goto (tgt := 12) SS.1 SS.2.1 dX12_findPieces_218 (by decide) ?_
              exact ih_12 (i + 1) B2 m2 _ _ hP hS ls (lv_sub hl [1, 2, 0] rfl) (by omega) (i24_1) (DN_c i24_2 (fun i9 j9 k9 a1 a2 a3 a4 q9 => by have q8 : i9 < i + 1 := q9; show i9 < i ∨ (i9 = i ∧ j9 < j); omega)) (by omega)
            · skip
              refine lv_iload_n SS.1 SS.2.1 dX12_findPieces_32 rfl (lv_at hl 3 rfl) ?_
              refine j_iconst SS dX12_findPieces_33 ?_
              refine j_iadd SS (x := j) (y := 1) dX12_findPieces_34 ?_
              refine lv_istore (lv' := [(4, .int (J (j + 1))), (0, .ref o), (1, .int (J s)), (2, .int (J i)), (3, .int (J j))]) SS.1 SS.2.1 dX12_findPieces_35 hl (by decide) rfl (fun ls hl => ?_)
              have L_37 : ∀ (nn : Nat) (k : Int) (B3 : Nat → Int64) (m3 : Int) (H : Heap) (locs : List Loc) (hP : va_P D.1 j_cl (mW D o q (uV (uL (uV (uI (uI u 10 X_2) 11 Y_2) 12 n_2) 29 B3) 30 m3)) H) (hS : va_S A st.heap H locs) (ls : Array Slot) (hl : lv_has ls 9 [(0, .ref o), (1, .int (J s)), (2, .int (J i)), (3, .int (J j)), (4, .int (J k))]) (i37_0 : j + 1 ≤ k ∧ k ≤ n_2) (i37_1 : PL9 PB X_2 Y_2 (h9 (u.1 3) s) n_2.toNat m3 B3) (i37_2 : DN9 X_2 Y_2 (u.1 3) s n_2 B3 m3 (fun i' j' k' => i' < i ∨ (i' = i ∧ (j' < j ∨ (j' = j ∧ k' < k))))), (n_2 - k).toNat < nn → W pr l en (headSpec (jw yX12_findPieces cX12_findPieces 9 none) (jr 3 89)).room st mi (([.ref o, .int (J s)] : List Value).toArray) below meth co H locs 0 0 (MQ below (jWv (fun u' => ∃ X : Nat → Int, ∃ Y : Nat → Int, ∃ n : Int, ∃ C : Nat → Int64, ∃ m : Int, u' = (uV (uL (uV (uI (uI u 10 X) 11 Y) 12 n) 29 C) 30 m) ∧ (((0 ≤ m ∧ m ≤ 80) ∧ IM u') ∧ ((0 ≤ n ∧ n ≤ 40) ∧ OL (PBx u s) n X Y) ∧ PL9 PB X Y (h9 (u.1 3) s) n.toNat m C ∧ DN9 X Y (u.1 3) s n C m (fun i j k => i < n))) (fun u' H => va_P D.1 j_cl (mW D o q u') H) A) (([.ref o, .int (J s)] : List Value).toArray) st 0 0 A) (F0 mi 37 ls []) := by
                intro nn
                induction nn with
                | zero => intros; omega
                | succ nn ih_37 =>
                  intro k B3 m3 H locs hP hS ls hl i37_0 i37_1 i37_2 hm
                  have hm80 := pz_80 hn40 hos (PL_pz (by omega) i37_1)
                  have hm0 := i37_1.1
                  refine lv_iload SS.1 SS.2.1 dX12_findPieces_37 (lv_at hl 4 rfl) ?_
                  refine lv_aload_n SS.1 SS.2.1 dX12_findPieces_39 rfl (lv_at hl 0 rfl) ?_
                  refine j_get SS hG hP 0 (v := .int (J n_2)) (C := RX12) (T := TX12) (N := 31) rfl rfl inX12 12 (by decide) (ref := RX12) kw_1070 rfl rfl dX12_findPieces_40 ?_
                  refine j_icmp_ge SS (tgt := 209) (x := k) (y := n_2) dX12_findPieces_43 (by decide) (by omega) (by omega) (fun c_43 => ?_) (fun c_43 => ?_)
                  · skip
                    refine lv_iinc (v := J (j + 1)) (lv' := [(3, .int (J (j + 1))), (0, .ref o), (1, .int (J s)), (2, .int (J i)), (4, .int (J k))]) SS.1 SS.2.1 dX12_findPieces_209 hl (k := 3) rfl (J_add _ _) (by decide) rfl (fun ls hl => ?_)
                    refine lv_goto (tgt := 24) SS.1 SS.2.1 dX12_findPieces_212 (by decide) ?_
                    exact ih_24 (j + 1) B3 m3 _ _ hP hS ls (lv_sub hl [1, 2, 3, 0] rfl) (by omega) (i37_1) (DN_c i37_2 (fun i9 j9 k9 a1 a2 a3 a4 q9 => by have q8 : i9 < i ∨ (i9 = i ∧ j9 < j + 1) := q9; show i9 < i ∨ (i9 = i ∧ (j9 < j ∨ (j9 = j ∧ k9 < k))); omega)) (by omega)
                  · skip
                    refine lv_aload_n SS.1 SS.2.1 dX12_findPieces_46 rfl (lv_at hl 0 rfl) ?_
                    refine lv_iload_n SS.1 SS.2.1 dX12_findPieces_47 rfl (lv_at hl 2 rfl) ?_
                    refine lv_iload_n SS.1 SS.2.1 dX12_findPieces_48 rfl (lv_at hl 3 rfl) ?_
                    refine lv_iload SS.1 SS.2.1 dX12_findPieces_49 (lv_at hl 4 rfl) ?_
                    refine j_vRi SS (As := [.int (J i), .int (J j), .int (J k)]) (rest := []) (c_X12_turn l D o q (uV (uL (uV (uI (uI u 10 X_2) 11 Y_2) 12 n_2) 29 B3) 30 m3) i j k (show 0 ≤ i ∧ i < 6561 from (by omega)) (show 0 ≤ j ∧ j < 6561 from (by omega)) (show 0 ≤ k ∧ k < 6561 from (by omega)) (show bd 40 (X_2) (Y_2) 6561 from (hIM))) mf_X12_turn kw_1427 hG hP hP (ci := 8) (q0 := 0) rfl rfl rfl rfl hl.1 ⟨⟨Nat.le_of_ble_eq_true rfl, Nat.le_of_ble_eq_true rfl⟩, Nat.le_of_ble_eq_true rfl, Nat.le_refl _, Nat.le_refl _⟩ rfl dX12_findPieces_51 (fun z_51 h_51 => ?_)
                    have h_51 : z_51 = tn (X_2) (Y_2) i.toNat j.toNat k.toNat ∧ -12800 ≤ z_51 ∧ z_51 ≤ 12800 := h_51
                    have L_72 : ∀ (b : Int64) (H : Heap) (locs : List Loc) (hP : va_P D.1 j_cl (mW D o q (uV (uL (uV (uI (uI u 10 X_2) 11 Y_2) 12 n_2) 29 B3) 30 m3)) H) (hS : va_S A st.heap H locs) (ls : Array Slot) (hl : lv_has ls 9 [(0, .ref o), (1, .int (J s)), (2, .int (J i)), (3, .int (J j)), (4, .int (J k)), (5, .long b)]) (i72_0 : (b = 0 ∧ ∀ b9 : Int64, ¬ pt X_2 Y_2 (u.1 3) s n_2 b9 i j k) ∨ (b ≠ 0 ∧ pt X_2 Y_2 (u.1 3) s n_2 b i j k)), W pr l en (headSpec (jw yX12_findPieces cX12_findPieces 9 none) (jr 3 89)).room st mi (([.ref o, .int (J s)] : List Value).toArray) below meth co H locs 0 0 (MQ below (jWv (fun u' => ∃ X : Nat → Int, ∃ Y : Nat → Int, ∃ n : Int, ∃ C : Nat → Int64, ∃ m : Int, u' = (uV (uL (uV (uI (uI u 10 X) 11 Y) 12 n) 29 C) 30 m) ∧ (((0 ≤ m ∧ m ≤ 80) ∧ IM u') ∧ ((0 ≤ n ∧ n ≤ 40) ∧ OL (PBx u s) n X Y) ∧ PL9 PB X Y (h9 (u.1 3) s) n.toNat m C ∧ DN9 X Y (u.1 3) s n C m (fun i j k => i < n))) (fun u' H => va_P D.1 j_cl (mW D o q u') H) A) (([.ref o, .int (J s)] : List Value).toArray) st 0 0 A) (F0 mi 72 ls []) := by
                      intro b  H locs hP hS ls hl i72_0
                      refine lv_lload SS.1 SS.2.1 dX12_findPieces_72 (lv_at hl 5 rfl) ?_
                      refine lv_lconst (v := 0) SS.1 SS.2.1 dX12_findPieces_74 (by decide +kernel) ?_
                      refine j_lcmp SS dX12_findPieces_75 (fun z_75 hz_75 => ?_)
                      have L_89 : ∀ (nn : Nat) (t : Int) (p : Int) (H : Heap) (locs : List Loc) (hP : va_P D.1 j_cl (mW D o q (uV (uL (uV (uI (uI u 10 X_2) 11 Y_2) 12 n_2) 29 B3) 30 m3)) H) (hS : va_S A st.heap H locs) (ls : Array Slot) (hl : lv_has ls 9 [(0, .ref o), (1, .int (J s)), (2, .int (J i)), (3, .int (J j)), (4, .int (J k)), (5, .long b), (7, .int (J t)), (8, .int (J p))]) (i89_0 : 0 ≤ p ∧ p ≤ m3) (i89_1 : t = 0 ∨ t = 1) (i89_2 : t = 0 → b ≠ 0 ∧ ∀ q : Nat, (q : Int) < p → B3 q ≠ b) (i89_3 : t = 1 → b = 0 ∨ ∃ q : Nat, (q : Int) < m3 ∧ B3 q = b), (m3 - p).toNat < nn → W pr l en (headSpec (jw yX12_findPieces cX12_findPieces 9 none) (jr 3 89)).room st mi (([.ref o, .int (J s)] : List Value).toArray) below meth co H locs 0 0 (MQ below (jWv (fun u' => ∃ X : Nat → Int, ∃ Y : Nat → Int, ∃ n : Int, ∃ C : Nat → Int64, ∃ m : Int, u' = (uV (uL (uV (uI (uI u 10 X) 11 Y) 12 n) 29 C) 30 m) ∧ (((0 ≤ m ∧ m ≤ 80) ∧ IM u') ∧ ((0 ≤ n ∧ n ≤ 40) ∧ OL (PBx u s) n X Y) ∧ PL9 PB X Y (h9 (u.1 3) s) n.toNat m C ∧ DN9 X Y (u.1 3) s n C m (fun i j k => i < n))) (fun u' H => va_P D.1 j_cl (mW D o q u') H) A) (([.ref o, .int (J s)] : List Value).toArray) st 0 0 A) (F0 mi 89 ls []) := by
                        intro nn
                        induction nn with
                        | zero => intros; omega
                        | succ nn ih_89 =>
                          intro t p  H locs hP hS ls hl i89_0 i89_1 i89_2 i89_3 hm
                          refine lv_iload SS.1 SS.2.1 dX12_findPieces_89 (lv_at hl 7 rfl) ?_
                          refine lv_aload_n SS.1 SS.2.1 dX12_findPieces_91 rfl (lv_at hl 0 rfl) ?_
                          refine j_get SS hG hP 0 (v := .int (J m3)) (C := RX12) (T := TX12) (N := 31) rfl rfl inX12 30 (by decide) (ref := RX12) kw_1088 rfl rfl dX12_findPieces_92 ?_
                          refine j_icmp_ge SS (tgt := 129) (x := p) (y := m3) dX12_findPieces_95 (by decide) (by omega) (by omega) (fun c_95 => ?_) (fun c_95 => ?_)
                          · skip
                            refine lv_iload SS.1 SS.2.1 dX12_findPieces_129 (lv_at hl 6 rfl) ?_
                            refine j_if_ne SS (tgt := 203) (x := t) dX12_findPieces_131 (by decide) (by omega) (fun c_131 => ?_) (fun c_131 => ?_)
                            · skip
                              refine lv_iinc (v := J (k + 1)) (lv' := [(4, .int (J (k + 1))), (0, .ref o), (1, .int (J s)), (2, .int (J i)), (3, .int (J j)), (5, .long b), (7, .int (J t)), (8, .int (J p))]) SS.1 SS.2.1 dX12_findPieces_203 hl (k := 4) rfl (J_add _ _) (by decide) rfl (fun ls hl => ?_)
                              refine lv_goto (tgt := 37) SS.1 SS.2.1 dX12_findPieces_206 (by decide) ?_
                              exact ih_37 (k + 1) B3 m3 _ _ hP hS ls (lv_sub hl [1, 2, 3, 4, 0] rfl) (by omega) (by first | exact i37_1 | exact (PL_in (PB_en (by omega)) i37_1 i140_1 (by omega) (by omega) (pt_gs hpt) (fun q9 h9_ => (i89_2 (by omega)).2 q9 (by omega)) i140_2 (by first | exact Or.inl (by omega) | exact Or.inr (fun w9 => by have w8 := (RO_i (by omega) (pt_gs hpt) (by rw [i140_1.1 (a - 1).toNat (by omega)]; exact i37_1.2.1 (a - 1).toNat (by omega))).mpr w9; rcases h_156 with q9 | q9; omega; exact w8 q9.2))).1) (by first | exact DN_i (i := i) (j := j) (k := k) i37_2 (fun i' j' k' q9 => by have q8 : i' < i ∨ (i' = i ∧ (j' < j ∨ (j' = j ∧ k' < k + 1))) := q9; by_cases w9 : i' < i ∨ (i' = i ∧ (j' < j ∨ (j' = j ∧ k' < k))); exact Or.inl w9; exact Or.inr ⟨by omega, by omega, by omega⟩) hpt (PL_in (PB_en (by omega)) i37_1 i140_1 (by omega) (by omega) (pt_gs hpt) (fun q9 h9_ => (i89_2 (by omega)).2 q9 (by omega)) i140_2 (by first | exact Or.inl (by omega) | exact Or.inr (fun w9 => by have w8 := (RO_i (by omega) (pt_gs hpt) (by rw [i140_1.1 (a - 1).toNat (by omega)]; exact i37_1.2.1 (a - 1).toNat (by omega))).mpr w9; rcases h_156 with q9 | q9; omega; exact w8 q9.2))).2.1 (PL_in (PB_en (by omega)) i37_1 i140_1 (by omega) (by omega) (pt_gs hpt) (fun q9 h9_ => (i89_2 (by omega)).2 q9 (by omega)) i140_2 (by first | exact Or.inl (by omega) | exact Or.inr (fun w9 => by have w8 := (RO_i (by omega) (pt_gs hpt) (by rw [i140_1.1 (a - 1).toNat (by omega)]; exact i37_1.2.1 (a - 1).toNat (by omega))).mpr w9; rcases h_156 with q9 | q9; omega; exact w8 q9.2))).2.2 | exact DN_s (i := i) (j := j) (k := k) i37_2 (fun i' j' k' q9 => by have q8 : i' < i ∨ (i' = i ∧ (j' < j ∨ (j' = j ∧ k' < k + 1))) := q9; by_cases w9 : i' < i ∨ (i' = i ∧ (j' < j ∨ (j' = j ∧ k' < k))); exact Or.inl w9; exact Or.inr ⟨by omega, by omega, by omega⟩) (fun b9 w9 => by rcases i72_0 with ⟨q9, q8⟩ | ⟨q9, q8⟩; exact absurd w9 (q8 b9); rcases i89_3 (by omega) with v9 | ⟨v9, v8, v7⟩; exact absurd v9 q9; exact ⟨v9, v8, v7.trans (pt_u q8 w9)⟩)) (by omega)
                            · skip
                              have hpt : pt X_2 Y_2 (u.1 3) s n_2 b i j k := by rcases i72_0 with q | q; exact absurd q.1 (i89_2 (by omega)).1; exact q.2
                              refine lv_aload_n SS.1 SS.2.1 dX12_findPieces_134 rfl (lv_at hl 0 rfl) ?_
                              refine j_get SS hG hP 0 (v := .int (J m3)) (C := RX12) (T := TX12) (N := 31) rfl rfl inX12 30 (by decide) (ref := RX12) kw_1088 rfl rfl dX12_findPieces_135 ?_
                              refine lv_istore (lv' := [(8, .int (J m3)), (0, .ref o), (1, .int (J s)), (2, .int (J i)), (3, .int (J j)), (4, .int (J k)), (5, .long b), (7, .int (J t))]) SS.1 SS.2.1 dX12_findPieces_138 hl (by decide) rfl (fun ls hl => ?_)
                              have L_140 : ∀ (nn : Nat) (a : Int) (B4 : Nat → Int64) (H : Heap) (locs : List Loc) (hP : va_P D.1 j_cl (mW D o q (uV (uL (uV (uI (uI u 10 X_2) 11 Y_2) 12 n_2) 29 B4) 30 m3)) H) (hS : va_S A st.heap H locs) (ls : Array Slot) (hl : lv_has ls 9 [(0, .ref o), (1, .int (J s)), (2, .int (J i)), (3, .int (J j)), (4, .int (J k)), (5, .long b), (8, .int (J a))]) (i140_0 : 0 ≤ a ∧ a ≤ m3) (i140_1 : sh_ B3 B4 m3 a) (i140_2 : ∀ q : Nat, a ≤ q → (q : Int) < m3 → lE9 PB n_2.toNat b (B3 q)), a.toNat < nn → W pr l en (headSpec (jw yX12_findPieces cX12_findPieces 9 none) (jr 3 89)).room st mi (([.ref o, .int (J s)] : List Value).toArray) below meth co H locs 0 0 (MQ below (jWv (fun u' => ∃ X : Nat → Int, ∃ Y : Nat → Int, ∃ n : Int, ∃ C : Nat → Int64, ∃ m : Int, u' = (uV (uL (uV (uI (uI u 10 X) 11 Y) 12 n) 29 C) 30 m) ∧ (((0 ≤ m ∧ m ≤ 80) ∧ IM u') ∧ ((0 ≤ n ∧ n ≤ 40) ∧ OL (PBx u s) n X Y) ∧ PL9 PB X Y (h9 (u.1 3) s) n.toNat m C ∧ DN9 X Y (u.1 3) s n C m (fun i j k => i < n))) (fun u' H => va_P D.1 j_cl (mW D o q u') H) A) (([.ref o, .int (J s)] : List Value).toArray) st 0 0 A) (F0 mi 140 ls []) := by
                                intro nn
                                induction nn with
                                | zero => intros; omega
                                | succ nn ih_140 =>
                                  intro a B4 H locs hP hS ls hl i140_0 i140_1 i140_2 hm
                                  refine lv_iload SS.1 SS.2.1 dX12_findPieces_140 (lv_at hl 6 rfl) ?_
                                  refine j_if_le SS (tgt := 184) (x := a) dX12_findPieces_142 (by decide) (by omega) (fun c_142 => ?_) (fun c_142 => ?_)
                                  · skip
                                    refine lv_aload_n SS.1 SS.2.1 dX12_findPieces_184 rfl (lv_at hl 0 rfl) ?_
                                    refine j_get SS hG hP 0 (v := .ref (q 29)) (C := RX12) (T := TX12) (N := 31) rfl rfl inX12 29 (by decide) (ref := RX12) kw_1087 rfl rfl dX12_findPieces_185 ?_
                                    refine lv_iload SS.1 SS.2.1 dX12_findPieces_188 (lv_at hl 6 rfl) ?_
                                    refine lv_lload SS.1 SS.2.1 dX12_findPieces_190 (lv_at hl 5 rfl) ?_
                                    refine j_last SS hG hP (mW_D hD) hS 23 (n := 100) (f := B4) rfl (z := a) (v := b) (by omega) (by omega) dX12_findPieces_192 (ws' := (mW D o q (uV (uL (uV (uI (uI u 10 X_2) 11 Y_2) 12 n_2) 29 (vp_updL B4 (a).toNat b)) 30 m3))) rfl (fun H locs hP hS => ?_)
                                    refine lv_aload_n SS.1 SS.2.1 dX12_findPieces_193 rfl (lv_at hl 0 rfl) ?_
                                    refine lv_dup SS.1 SS.2.1 dX12_findPieces_194 rfl ?_
                                    refine j_get SS hG hP 0 (v := .int (J m3)) (C := RX12) (T := TX12) (N := 31) rfl rfl inX12 30 (by decide) (ref := RX12) kw_1088 rfl rfl dX12_findPieces_195 ?_
                                    refine j_iconst SS dX12_findPieces_198 ?_
                                    refine j_iadd SS (x := m3) (y := 1) dX12_findPieces_199 ?_
                                    refine j_put SS hG hP (mW_D hD) hS 0 (v := .int (J (m3 + 1))) (ty := .int) (C := RX12) (T := TX12) (N := 31) rfl rfl inX12 tyX12 tyX12_ok nmX12 30 (by decide) (ref := RX12) kw_1088 rfl rfl (by decide +kernel) rfl rfl (Nat.le_of_ble_eq_true rfl) dX12_findPieces_200 (ws' := (mW D o q (uV (uL (uV (uI (uI u 10 X_2) 11 Y_2) 12 n_2) 29 (vp_updL B4 (a).toNat b)) 30 (m3 + 1)))) rfl (fun H locs hP hS => ?_)
                                    refine lv_iinc (v := J (k + 1)) (lv' := [(4, .int (J (k + 1))), (0, .ref o), (1, .int (J s)), (2, .int (J i)), (3, .int (J j)), (5, .long b), (8, .int (J a))]) SS.1 SS.2.1 dX12_findPieces_203 hl (k := 4) rfl (J_add _ _) (by decide) rfl (fun ls hl => ?_)
                                    refine lv_goto (tgt := 37) SS.1 SS.2.1 dX12_findPieces_206 (by decide) ?_
                                    exact ih_37 (k + 1) (vp_updL B4 (a).toNat b) (m3 + 1) _ _ hP hS ls (lv_sub hl [1, 2, 3, 4, 0] rfl) (by omega) (by first | exact i37_1 | exact (PL_in (PB_en (by omega)) i37_1 i140_1 (by omega) (by omega) (pt_gs hpt) (fun q9 h9_ => (i89_2 (by omega)).2 q9 (by omega)) i140_2 (by first | exact Or.inl (by omega) | exact Or.inr (fun w9 => by have w8 := (RO_i (by omega) (pt_gs hpt) (by rw [i140_1.1 (a - 1).toNat (by omega)]; exact i37_1.2.1 (a - 1).toNat (by omega))).mpr w9; rcases h_156 with q9 | q9; omega; exact w8 q9.2))).1) (by first | exact DN_i (i := i) (j := j) (k := k) i37_2 (fun i' j' k' q9 => by have q8 : i' < i ∨ (i' = i ∧ (j' < j ∨ (j' = j ∧ k' < k + 1))) := q9; by_cases w9 : i' < i ∨ (i' = i ∧ (j' < j ∨ (j' = j ∧ k' < k))); exact Or.inl w9; exact Or.inr ⟨by omega, by omega, by omega⟩) hpt (PL_in (PB_en (by omega)) i37_1 i140_1 (by omega) (by omega) (pt_gs hpt) (fun q9 h9_ => (i89_2 (by omega)).2 q9 (by omega)) i140_2 (by first | exact Or.inl (by omega) | exact Or.inr (fun w9 => by have w8 := (RO_i (by omega) (pt_gs hpt) (by rw [i140_1.1 (a - 1).toNat (by omega)]; exact i37_1.2.1 (a - 1).toNat (by omega))).mpr w9; rcases h_156 with q9 | q9; omega; exact w8 q9.2))).2.1 (PL_in (PB_en (by omega)) i37_1 i140_1 (by omega) (by omega) (pt_gs hpt) (fun q9 h9_ => (i89_2 (by omega)).2 q9 (by omega)) i140_2 (by first | exact Or.inl (by omega) | exact Or.inr (fun w9 => by have w8 := (RO_i (by omega) (pt_gs hpt) (by rw [i140_1.1 (a - 1).toNat (by omega)]; exact i37_1.2.1 (a - 1).toNat (by omega))).mpr w9; rcases h_156 with q9 | q9; omega; exact w8 q9.2))).2.2 | exact DN_s (i := i) (j := j) (k := k) i37_2 (fun i' j' k' q9 => by have q8 : i' < i ∨ (i' = i ∧ (j' < j ∨ (j' = j ∧ k' < k + 1))) := q9; by_cases w9 : i' < i ∨ (i' = i ∧ (j' < j ∨ (j' = j ∧ k' < k))); exact Or.inl w9; exact Or.inr ⟨by omega, by omega, by omega⟩) (fun b9 w9 => by rcases i72_0 with ⟨q9, q8⟩ | ⟨q9, q8⟩; exact absurd w9 (q8 b9); rcases i89_3 (by omega) with v9 | ⟨v9, v8, v7⟩; exact absurd v9 q9; exact ⟨v9, v8, v7.trans (pt_u q8 w9)⟩)) (by omega)
                                  · skip
                                    refine lv_lload SS.1 SS.2.1 dX12_findPieces_145 (lv_at hl 5 rfl) ?_
                                    refine lv_aload_n SS.1 SS.2.1 dX12_findPieces_147 rfl (lv_at hl 0 rfl) ?_
                                    refine j_get SS hG hP 0 (v := .ref (q 29)) (C := RX12) (T := TX12) (N := 31) rfl rfl inX12 29 (by decide) (ref := RX12) kw_1087 rfl rfl dX12_findPieces_148 ?_
                                    refine lv_iload SS.1 SS.2.1 dX12_findPieces_151 (lv_at hl 6 rfl) ?_
                                    refine j_iconst SS dX12_findPieces_153 ?_
                                    refine j_isub SS (x := a) (y := 1) dX12_findPieces_154 ?_
                                    refine j_lald SS hG hP 23 (n := 100) (f := B4) rfl (z := (a - 1)) (by omega) (by omega) dX12_findPieces_155 ?_
                                    refine j_sRi SS (As := [.long b, .long (B4 ((a - 1)).toNat)]) (rest := []) (c_X12_isAhead3 l D b (B4 ((a - 1)).toNat) ) mf_X12_isAhead kw_1487 hG trivial rfl hl.1 ⟨⟨Nat.le_of_ble_eq_true rfl, Nat.le_of_ble_eq_true rfl⟩, Nat.le_of_ble_eq_true rfl, Nat.le_refl _, Nat.le_refl _⟩ rfl dX12_findPieces_156 (fun z_156 h_156 => ?_)
                                    have h_156 : (z_156 = 1 ∧ RO9 b (B4 ((a - 1)).toNat) ≠ 0) ∨ (z_156 = 0 ∧ RO9 b (B4 ((a - 1)).toNat) = 0) := h_156
                                    refine j_if_eq SS (tgt := 184) (x := z_156) dX12_findPieces_159 (by decide) (by omega) (fun c_159 => ?_) (fun c_159 => ?_)
                                    · skip
                                      refine lv_aload_n SS.1 SS.2.1 dX12_findPieces_184 rfl (lv_at hl 0 rfl) ?_
                                      refine j_get SS hG hP 0 (v := .ref (q 29)) (C := RX12) (T := TX12) (N := 31) rfl rfl inX12 29 (by decide) (ref := RX12) kw_1087 rfl rfl dX12_findPieces_185 ?_
                                      refine lv_iload SS.1 SS.2.1 dX12_findPieces_188 (lv_at hl 6 rfl) ?_
                                      refine lv_lload SS.1 SS.2.1 dX12_findPieces_190 (lv_at hl 5 rfl) ?_
                                      refine j_last SS hG hP (mW_D hD) hS 23 (n := 100) (f := B4) rfl (z := a) (v := b) (by omega) (by omega) dX12_findPieces_192 (ws' := (mW D o q (uV (uL (uV (uI (uI u 10 X_2) 11 Y_2) 12 n_2) 29 (vp_updL B4 (a).toNat b)) 30 m3))) rfl (fun H locs hP hS => ?_)
                                      refine lv_aload_n SS.1 SS.2.1 dX12_findPieces_193 rfl (lv_at hl 0 rfl) ?_
                                      refine lv_dup SS.1 SS.2.1 dX12_findPieces_194 rfl ?_
                                      refine j_get SS hG hP 0 (v := .int (J m3)) (C := RX12) (T := TX12) (N := 31) rfl rfl inX12 30 (by decide) (ref := RX12) kw_1088 rfl rfl dX12_findPieces_195 ?_
                                      refine j_iconst SS dX12_findPieces_198 ?_
                                      refine j_iadd SS (x := m3) (y := 1) dX12_findPieces_199 ?_
                                      refine j_put SS hG hP (mW_D hD) hS 0 (v := .int (J (m3 + 1))) (ty := .int) (C := RX12) (T := TX12) (N := 31) rfl rfl inX12 tyX12 tyX12_ok nmX12 30 (by decide) (ref := RX12) kw_1088 rfl rfl (by decide +kernel) rfl rfl (Nat.le_of_ble_eq_true rfl) dX12_findPieces_200 (ws' := (mW D o q (uV (uL (uV (uI (uI u 10 X_2) 11 Y_2) 12 n_2) 29 (vp_updL B4 (a).toNat b)) 30 (m3 + 1)))) rfl (fun H locs hP hS => ?_)
                                      refine lv_iinc (v := J (k + 1)) (lv' := [(4, .int (J (k + 1))), (0, .ref o), (1, .int (J s)), (2, .int (J i)), (3, .int (J j)), (5, .long b), (8, .int (J a))]) SS.1 SS.2.1 dX12_findPieces_203 hl (k := 4) rfl (J_add _ _) (by decide) rfl (fun ls hl => ?_)
                                      refine lv_goto (tgt := 37) SS.1 SS.2.1 dX12_findPieces_206 (by decide) ?_
                                      exact ih_37 (k + 1) (vp_updL B4 (a).toNat b) (m3 + 1) _ _ hP hS ls (lv_sub hl [1, 2, 3, 4, 0] rfl) (by omega) (by first | exact i37_1 | exact (PL_in (PB_en (by omega)) i37_1 i140_1 (by omega) (by omega) (pt_gs hpt) (fun q9 h9_ => (i89_2 (by omega)).2 q9 (by omega)) i140_2 (by first | exact Or.inl (by omega) | exact Or.inr (fun w9 => by have w8 := (RO_i (by omega) (pt_gs hpt) (by rw [i140_1.1 (a - 1).toNat (by omega)]; exact i37_1.2.1 (a - 1).toNat (by omega))).mpr w9; rcases h_156 with q9 | q9; omega; exact w8 q9.2))).1) (by first | exact DN_i (i := i) (j := j) (k := k) i37_2 (fun i' j' k' q9 => by have q8 : i' < i ∨ (i' = i ∧ (j' < j ∨ (j' = j ∧ k' < k + 1))) := q9; by_cases w9 : i' < i ∨ (i' = i ∧ (j' < j ∨ (j' = j ∧ k' < k))); exact Or.inl w9; exact Or.inr ⟨by omega, by omega, by omega⟩) hpt (PL_in (PB_en (by omega)) i37_1 i140_1 (by omega) (by omega) (pt_gs hpt) (fun q9 h9_ => (i89_2 (by omega)).2 q9 (by omega)) i140_2 (by first | exact Or.inl (by omega) | exact Or.inr (fun w9 => by have w8 := (RO_i (by omega) (pt_gs hpt) (by rw [i140_1.1 (a - 1).toNat (by omega)]; exact i37_1.2.1 (a - 1).toNat (by omega))).mpr w9; rcases h_156 with q9 | q9; omega; exact w8 q9.2))).2.1 (PL_in (PB_en (by omega)) i37_1 i140_1 (by omega) (by omega) (pt_gs hpt) (fun q9 h9_ => (i89_2 (by omega)).2 q9 (by omega)) i140_2 (by first | exact Or.inl (by omega) | exact Or.inr (fun w9 => by have w8 := (RO_i (by omega) (pt_gs hpt) (by rw [i140_1.1 (a - 1).toNat (by omega)]; exact i37_1.2.1 (a - 1).toNat (by omega))).mpr w9; rcases h_156 with q9 | q9; omega; exact w8 q9.2))).2.2 | exact DN_s (i := i) (j := j) (k := k) i37_2 (fun i' j' k' q9 => by have q8 : i' < i ∨ (i' = i ∧ (j' < j ∨ (j' = j ∧ k' < k + 1))) := q9; by_cases w9 : i' < i ∨ (i' = i ∧ (j' < j ∨ (j' = j ∧ k' < k))); exact Or.inl w9; exact Or.inr ⟨by omega, by omega, by omega⟩) (fun b9 w9 => by rcases i72_0 with ⟨q9, q8⟩ | ⟨q9, q8⟩; exact absurd w9 (q8 b9); rcases i89_3 (by omega) with v9 | ⟨v9, v8, v7⟩; exact absurd v9 q9; exact ⟨v9, v8, v7.trans (pt_u q8 w9)⟩)) (by omega)
                                    · skip
                                      refine lv_aload_n SS.1 SS.2.1 dX12_findPieces_162 rfl (lv_at hl 0 rfl) ?_
                                      refine j_get SS hG hP 0 (v := .ref (q 29)) (C := RX12) (T := TX12) (N := 31) rfl rfl inX12 29 (by decide) (ref := RX12) kw_1087 rfl rfl dX12_findPieces_163 ?_
                                      refine lv_iload SS.1 SS.2.1 dX12_findPieces_166 (lv_at hl 6 rfl) ?_
                                      refine lv_aload_n SS.1 SS.2.1 dX12_findPieces_168 rfl (lv_at hl 0 rfl) ?_
                                      refine j_get SS hG hP 0 (v := .ref (q 29)) (C := RX12) (T := TX12) (N := 31) rfl rfl inX12 29 (by decide) (ref := RX12) kw_1087 rfl rfl dX12_findPieces_169 ?_
                                      refine lv_iload SS.1 SS.2.1 dX12_findPieces_172 (lv_at hl 6 rfl) ?_
                                      refine j_iconst SS dX12_findPieces_174 ?_
                                      refine j_isub SS (x := a) (y := 1) dX12_findPieces_175 ?_
                                      refine j_lald SS hG hP 23 (n := 100) (f := B4) rfl (z := (a - 1)) (by omega) (by omega) dX12_findPieces_176 ?_
                                      refine j_last SS hG hP (mW_D hD) hS 23 (n := 100) (f := B4) rfl (z := a) (v := (B4 ((a - 1)).toNat)) (by omega) (by omega) dX12_findPieces_177 (ws' := (mW D o q (uV (uL (uV (uI (uI u 10 X_2) 11 Y_2) 12 n_2) 29 (vp_updL B4 (a).toNat (B4 ((a - 1)).toNat))) 30 m3))) rfl (fun H locs hP hS => ?_)
                                      refine lv_iinc (v := J (a + (-1))) (lv' := [(8, .int (J (a + (-1)))), (0, .ref o), (1, .int (J s)), (2, .int (J i)), (3, .int (J j)), (4, .int (J k)), (5, .long b)]) SS.1 SS.2.1 dX12_findPieces_178 hl (k := 6) rfl (J_add _ _) (by decide) rfl (fun ls hl => ?_)
                                      refine lv_goto (tgt := 140) SS.1 SS.2.1 dX12_findPieces_181 (by decide) ?_
                                      exact ih_140 (a + (-1)) (vp_updL B4 (a).toNat (B4 ((a - 1)).toNat)) _ _ hP hS ls (lv_sub hl [1, 2, 3, 4, 5, 6, 0] rfl) (by omega) (sh_s (by omega) (by omega) i140_1) (fun q9 h1 h2 => by by_cases e9 : (q9 : Int) = a - 1; (have w7 : q9 = (a - 1).toNat := (by omega); subst w7; rw [← i140_1.1 (a - 1).toNat (by omega)]; exact (RO_i (X := X_2) (Y := Y_2) (t := h9 (u.1 3) s) (by omega) (pt_gs hpt) (by rw [i140_1.1 (a - 1).toNat (by omega)]; exact i37_1.2.1 (a - 1).toNat (by omega))).mp (by rcases h_156 with q8 | q8; exact q8.2; omega)); exact i140_2 q9 (by omega) h2) (by omega)
                              exact L_140 (m3.toNat + 1) m3 B3 _ _ hP hS ls (lv_sub hl [1, 2, 3, 4, 5, 6, 0] rfl) (by omega) (sh_0) (fun q h1 h2 => by omega) (Nat.lt_succ_self _)
                          · skip
                            refine lv_iload SS.1 SS.2.1 dX12_findPieces_98 (lv_at hl 6 rfl) ?_
                            refine j_if_ne SS (tgt := 129) (x := t) dX12_findPieces_100 (by decide) (by omega) (fun c_100 => ?_) (fun c_100 => ?_)
                            · skip
                              refine lv_iload SS.1 SS.2.1 dX12_findPieces_129 (lv_at hl 6 rfl) ?_
                              refine j_if_ne SS (tgt := 203) (x := t) dX12_findPieces_131 (by decide) (by omega) (fun c_131 => ?_) (fun c_131 => ?_)
                              · skip
                                refine lv_iinc (v := J (k + 1)) (lv' := [(4, .int (J (k + 1))), (0, .ref o), (1, .int (J s)), (2, .int (J i)), (3, .int (J j)), (5, .long b), (7, .int (J t)), (8, .int (J p))]) SS.1 SS.2.1 dX12_findPieces_203 hl (k := 4) rfl (J_add _ _) (by decide) rfl (fun ls hl => ?_)
                                refine lv_goto (tgt := 37) SS.1 SS.2.1 dX12_findPieces_206 (by decide) ?_
                                exact ih_37 (k + 1) B3 m3 _ _ hP hS ls (lv_sub hl [1, 2, 3, 4, 0] rfl) (by omega) (by first | exact i37_1 | exact (PL_in (PB_en (by omega)) i37_1 i140_1 (by omega) (by omega) (pt_gs hpt) (fun q9 h9_ => (i89_2 (by omega)).2 q9 (by omega)) i140_2 (by first | exact Or.inl (by omega) | exact Or.inr (fun w9 => by have w8 := (RO_i (by omega) (pt_gs hpt) (by rw [i140_1.1 (a - 1).toNat (by omega)]; exact i37_1.2.1 (a - 1).toNat (by omega))).mpr w9; rcases h_156 with q9 | q9; omega; exact w8 q9.2))).1) (by first | exact DN_i (i := i) (j := j) (k := k) i37_2 (fun i' j' k' q9 => by have q8 : i' < i ∨ (i' = i ∧ (j' < j ∨ (j' = j ∧ k' < k + 1))) := q9; by_cases w9 : i' < i ∨ (i' = i ∧ (j' < j ∨ (j' = j ∧ k' < k))); exact Or.inl w9; exact Or.inr ⟨by omega, by omega, by omega⟩) hpt (PL_in (PB_en (by omega)) i37_1 i140_1 (by omega) (by omega) (pt_gs hpt) (fun q9 h9_ => (i89_2 (by omega)).2 q9 (by omega)) i140_2 (by first | exact Or.inl (by omega) | exact Or.inr (fun w9 => by have w8 := (RO_i (by omega) (pt_gs hpt) (by rw [i140_1.1 (a - 1).toNat (by omega)]; exact i37_1.2.1 (a - 1).toNat (by omega))).mpr w9; rcases h_156 with q9 | q9; omega; exact w8 q9.2))).2.1 (PL_in (PB_en (by omega)) i37_1 i140_1 (by omega) (by omega) (pt_gs hpt) (fun q9 h9_ => (i89_2 (by omega)).2 q9 (by omega)) i140_2 (by first | exact Or.inl (by omega) | exact Or.inr (fun w9 => by have w8 := (RO_i (by omega) (pt_gs hpt) (by rw [i140_1.1 (a - 1).toNat (by omega)]; exact i37_1.2.1 (a - 1).toNat (by omega))).mpr w9; rcases h_156 with q9 | q9; omega; exact w8 q9.2))).2.2 | exact DN_s (i := i) (j := j) (k := k) i37_2 (fun i' j' k' q9 => by have q8 : i' < i ∨ (i' = i ∧ (j' < j ∨ (j' = j ∧ k' < k + 1))) := q9; by_cases w9 : i' < i ∨ (i' = i ∧ (j' < j ∨ (j' = j ∧ k' < k))); exact Or.inl w9; exact Or.inr ⟨by omega, by omega, by omega⟩) (fun b9 w9 => by rcases i72_0 with ⟨q9, q8⟩ | ⟨q9, q8⟩; exact absurd w9 (q8 b9); rcases i89_3 (by omega) with v9 | ⟨v9, v8, v7⟩; exact absurd v9 q9; exact ⟨v9, v8, v7.trans (pt_u q8 w9)⟩)) (by omega)
                              · skip
                                have hpt : pt X_2 Y_2 (u.1 3) s n_2 b i j k := by rcases i72_0 with q | q; exact absurd q.1 (i89_2 (by omega)).1; exact q.2
                                refine lv_aload_n SS.1 SS.2.1 dX12_findPieces_134 rfl (lv_at hl 0 rfl) ?_
                                refine j_get SS hG hP 0 (v := .int (J m3)) (C := RX12) (T := TX12) (N := 31) rfl rfl inX12 30 (by decide) (ref := RX12) kw_1088 rfl rfl dX12_findPieces_135 ?_
                                refine lv_istore (lv' := [(8, .int (J m3)), (0, .ref o), (1, .int (J s)), (2, .int (J i)), (3, .int (J j)), (4, .int (J k)), (5, .long b), (7, .int (J t))]) SS.1 SS.2.1 dX12_findPieces_138 hl (by decide) rfl (fun ls hl => ?_)
                                have L_140 : ∀ (nn : Nat) (a : Int) (B4 : Nat → Int64) (H : Heap) (locs : List Loc) (hP : va_P D.1 j_cl (mW D o q (uV (uL (uV (uI (uI u 10 X_2) 11 Y_2) 12 n_2) 29 B4) 30 m3)) H) (hS : va_S A st.heap H locs) (ls : Array Slot) (hl : lv_has ls 9 [(0, .ref o), (1, .int (J s)), (2, .int (J i)), (3, .int (J j)), (4, .int (J k)), (5, .long b), (8, .int (J a))]) (i140_0 : 0 ≤ a ∧ a ≤ m3) (i140_1 : sh_ B3 B4 m3 a) (i140_2 : ∀ q : Nat, a ≤ q → (q : Int) < m3 → lE9 PB n_2.toNat b (B3 q)), a.toNat < nn → W pr l en (headSpec (jw yX12_findPieces cX12_findPieces 9 none) (jr 3 89)).room st mi (([.ref o, .int (J s)] : List Value).toArray) below meth co H locs 0 0 (MQ below (jWv (fun u' => ∃ X : Nat → Int, ∃ Y : Nat → Int, ∃ n : Int, ∃ C : Nat → Int64, ∃ m : Int, u' = (uV (uL (uV (uI (uI u 10 X) 11 Y) 12 n) 29 C) 30 m) ∧ (((0 ≤ m ∧ m ≤ 80) ∧ IM u') ∧ ((0 ≤ n ∧ n ≤ 40) ∧ OL (PBx u s) n X Y) ∧ PL9 PB X Y (h9 (u.1 3) s) n.toNat m C ∧ DN9 X Y (u.1 3) s n C m (fun i j k => i < n))) (fun u' H => va_P D.1 j_cl (mW D o q u') H) A) (([.ref o, .int (J s)] : List Value).toArray) st 0 0 A) (F0 mi 140 ls []) := by
                                  intro nn
                                  induction nn with
                                  | zero => intros; omega
                                  | succ nn ih_140 =>
                                    intro a B4 H locs hP hS ls hl i140_0 i140_1 i140_2 hm
                                    refine lv_iload SS.1 SS.2.1 dX12_findPieces_140 (lv_at hl 6 rfl) ?_
                                    refine j_if_le SS (tgt := 184) (x := a) dX12_findPieces_142 (by decide) (by omega) (fun c_142 => ?_) (fun c_142 => ?_)
                                    · skip
                                      refine lv_aload_n SS.1 SS.2.1 dX12_findPieces_184 rfl (lv_at hl 0 rfl) ?_
                                      refine j_get SS hG hP 0 (v := .ref (q 29)) (C := RX12) (T := TX12) (N := 31) rfl rfl inX12 29 (by decide) (ref := RX12) kw_1087 rfl rfl dX12_findPieces_185 ?_
                                      refine lv_iload SS.1 SS.2.1 dX12_findPieces_188 (lv_at hl 6 rfl) ?_
                                      refine lv_lload SS.1 SS.2.1 dX12_findPieces_190 (lv_at hl 5 rfl) ?_
                                      refine j_last SS hG hP (mW_D hD) hS 23 (n := 100) (f := B4) rfl (z := a) (v := b) (by omega) (by omega) dX12_findPieces_192 (ws' := (mW D o q (uV (uL (uV (uI (uI u 10 X_2) 11 Y_2) 12 n_2) 29 (vp_updL B4 (a).toNat b)) 30 m3))) rfl (fun H locs hP hS => ?_)
                                      refine lv_aload_n SS.1 SS.2.1 dX12_findPieces_193 rfl (lv_at hl 0 rfl) ?_
                                      refine lv_dup SS.1 SS.2.1 dX12_findPieces_194 rfl ?_
                                      refine j_get SS hG hP 0 (v := .int (J m3)) (C := RX12) (T := TX12) (N := 31) rfl rfl inX12 30 (by decide) (ref := RX12) kw_1088 rfl rfl dX12_findPieces_195 ?_
                                      refine j_iconst SS dX12_findPieces_198 ?_
                                      refine j_iadd SS (x := m3) (y := 1) dX12_findPieces_199 ?_
                                      refine j_put SS hG hP (mW_D hD) hS 0 (v := .int (J (m3 + 1))) (ty := .int) (C := RX12) (T := TX12) (N := 31) rfl rfl inX12 tyX12 tyX12_ok nmX12 30 (by decide) (ref := RX12) kw_1088 rfl rfl (by decide +kernel) rfl rfl (Nat.le_of_ble_eq_true rfl) dX12_findPieces_200 (ws' := (mW D o q (uV (uL (uV (uI (uI u 10 X_2) 11 Y_2) 12 n_2) 29 (vp_updL B4 (a).toNat b)) 30 (m3 + 1)))) rfl (fun H locs hP hS => ?_)
                                      refine lv_iinc (v := J (k + 1)) (lv' := [(4, .int (J (k + 1))), (0, .ref o), (1, .int (J s)), (2, .int (J i)), (3, .int (J j)), (5, .long b), (8, .int (J a))]) SS.1 SS.2.1 dX12_findPieces_203 hl (k := 4) rfl (J_add _ _) (by decide) rfl (fun ls hl => ?_)
                                      refine lv_goto (tgt := 37) SS.1 SS.2.1 dX12_findPieces_206 (by decide) ?_
                                      exact ih_37 (k + 1) (vp_updL B4 (a).toNat b) (m3 + 1) _ _ hP hS ls (lv_sub hl [1, 2, 3, 4, 0] rfl) (by omega) (by first | exact i37_1 | exact (PL_in (PB_en (by omega)) i37_1 i140_1 (by omega) (by omega) (pt_gs hpt) (fun q9 h9_ => (i89_2 (by omega)).2 q9 (by omega)) i140_2 (by first | exact Or.inl (by omega) | exact Or.inr (fun w9 => by have w8 := (RO_i (by omega) (pt_gs hpt) (by rw [i140_1.1 (a - 1).toNat (by omega)]; exact i37_1.2.1 (a - 1).toNat (by omega))).mpr w9; rcases h_156 with q9 | q9; omega; exact w8 q9.2))).1) (by first | exact DN_i (i := i) (j := j) (k := k) i37_2 (fun i' j' k' q9 => by have q8 : i' < i ∨ (i' = i ∧ (j' < j ∨ (j' = j ∧ k' < k + 1))) := q9; by_cases w9 : i' < i ∨ (i' = i ∧ (j' < j ∨ (j' = j ∧ k' < k))); exact Or.inl w9; exact Or.inr ⟨by omega, by omega, by omega⟩) hpt (PL_in (PB_en (by omega)) i37_1 i140_1 (by omega) (by omega) (pt_gs hpt) (fun q9 h9_ => (i89_2 (by omega)).2 q9 (by omega)) i140_2 (by first | exact Or.inl (by omega) | exact Or.inr (fun w9 => by have w8 := (RO_i (by omega) (pt_gs hpt) (by rw [i140_1.1 (a - 1).toNat (by omega)]; exact i37_1.2.1 (a - 1).toNat (by omega))).mpr w9; rcases h_156 with q9 | q9; omega; exact w8 q9.2))).2.1 (PL_in (PB_en (by omega)) i37_1 i140_1 (by omega) (by omega) (pt_gs hpt) (fun q9 h9_ => (i89_2 (by omega)).2 q9 (by omega)) i140_2 (by first | exact Or.inl (by omega) | exact Or.inr (fun w9 => by have w8 := (RO_i (by omega) (pt_gs hpt) (by rw [i140_1.1 (a - 1).toNat (by omega)]; exact i37_1.2.1 (a - 1).toNat (by omega))).mpr w9; rcases h_156 with q9 | q9; omega; exact w8 q9.2))).2.2 | exact DN_s (i := i) (j := j) (k := k) i37_2 (fun i' j' k' q9 => by have q8 : i' < i ∨ (i' = i ∧ (j' < j ∨ (j' = j ∧ k' < k + 1))) := q9; by_cases w9 : i' < i ∨ (i' = i ∧ (j' < j ∨ (j' = j ∧ k' < k))); exact Or.inl w9; exact Or.inr ⟨by omega, by omega, by omega⟩) (fun b9 w9 => by rcases i72_0 with ⟨q9, q8⟩ | ⟨q9, q8⟩; exact absurd w9 (q8 b9); rcases i89_3 (by omega) with v9 | ⟨v9, v8, v7⟩; exact absurd v9 q9; exact ⟨v9, v8, v7.trans (pt_u q8 w9)⟩)) (by omega)
                                    · skip
                                      refine lv_lload SS.1 SS.2.1 dX12_findPieces_145 (lv_at hl 5 rfl) ?_
                                      refine lv_aload_n SS.1 SS.2.1 dX12_findPieces_147 rfl (lv_at hl 0 rfl) ?_
                                      refine j_get SS hG hP 0 (v := .ref (q 29)) (C := RX12) (T := TX12) (N := 31) rfl rfl inX12 29 (by decide) (ref := RX12) kw_1087 rfl rfl dX12_findPieces_148 ?_
                                      refine lv_iload SS.1 SS.2.1 dX12_findPieces_151 (lv_at hl 6 rfl) ?_
                                      refine j_iconst SS dX12_findPieces_153 ?_
                                      refine j_isub SS (x := a) (y := 1) dX12_findPieces_154 ?_
                                      refine j_lald SS hG hP 23 (n := 100) (f := B4) rfl (z := (a - 1)) (by omega) (by omega) dX12_findPieces_155 ?_
                                      refine j_sRi SS (As := [.long b, .long (B4 ((a - 1)).toNat)]) (rest := []) (c_X12_isAhead3 l D b (B4 ((a - 1)).toNat) ) mf_X12_isAhead kw_1487 hG trivial rfl hl.1 ⟨⟨Nat.le_of_ble_eq_true rfl, Nat.le_of_ble_eq_true rfl⟩, Nat.le_of_ble_eq_true rfl, Nat.le_refl _, Nat.le_refl _⟩ rfl dX12_findPieces_156 (fun z_156 h_156 => ?_)
                                      have h_156 : (z_156 = 1 ∧ RO9 b (B4 ((a - 1)).toNat) ≠ 0) ∨ (z_156 = 0 ∧ RO9 b (B4 ((a - 1)).toNat) = 0) := h_156
                                      refine j_if_eq SS (tgt := 184) (x := z_156) dX12_findPieces_159 (by decide) (by omega) (fun c_159 => ?_) (fun c_159 => ?_)
                                      · skip
                                        refine lv_aload_n SS.1 SS.2.1 dX12_findPieces_184 rfl (lv_at hl 0 rfl) ?_
                                        refine j_get SS hG hP 0 (v := .ref (q 29)) (C := RX12) (T := TX12) (N := 31) rfl rfl inX12 29 (by decide) (ref := RX12) kw_1087 rfl rfl dX12_findPieces_185 ?_
                                        refine lv_iload SS.1 SS.2.1 dX12_findPieces_188 (lv_at hl 6 rfl) ?_
                                        refine lv_lload SS.1 SS.2.1 dX12_findPieces_190 (lv_at hl 5 rfl) ?_
                                        refine j_last SS hG hP (mW_D hD) hS 23 (n := 100) (f := B4) rfl (z := a) (v := b) (by omega) (by omega) dX12_findPieces_192 (ws' := (mW D o q (uV (uL (uV (uI (uI u 10 X_2) 11 Y_2) 12 n_2) 29 (vp_updL B4 (a).toNat b)) 30 m3))) rfl (fun H locs hP hS => ?_)
                                        refine lv_aload_n SS.1 SS.2.1 dX12_findPieces_193 rfl (lv_at hl 0 rfl) ?_
                                        refine lv_dup SS.1 SS.2.1 dX12_findPieces_194 rfl ?_
                                        refine j_get SS hG hP 0 (v := .int (J m3)) (C := RX12) (T := TX12) (N := 31) rfl rfl inX12 30 (by decide) (ref := RX12) kw_1088 rfl rfl dX12_findPieces_195 ?_
                                        refine j_iconst SS dX12_findPieces_198 ?_
                                        refine j_iadd SS (x := m3) (y := 1) dX12_findPieces_199 ?_
                                        refine j_put SS hG hP (mW_D hD) hS 0 (v := .int (J (m3 + 1))) (ty := .int) (C := RX12) (T := TX12) (N := 31) rfl rfl inX12 tyX12 tyX12_ok nmX12 30 (by decide) (ref := RX12) kw_1088 rfl rfl (by decide +kernel) rfl rfl (Nat.le_of_ble_eq_true rfl) dX12_findPieces_200 (ws' := (mW D o q (uV (uL (uV (uI (uI u 10 X_2) 11 Y_2) 12 n_2) 29 (vp_updL B4 (a).toNat b)) 30 (m3 + 1)))) rfl (fun H locs hP hS => ?_)
                                        refine lv_iinc (v := J (k + 1)) (lv' := [(4, .int (J (k + 1))), (0, .ref o), (1, .int (J s)), (2, .int (J i)), (3, .int (J j)), (5, .long b), (8, .int (J a))]) SS.1 SS.2.1 dX12_findPieces_203 hl (k := 4) rfl (J_add _ _) (by decide) rfl (fun ls hl => ?_)
                                        refine lv_goto (tgt := 37) SS.1 SS.2.1 dX12_findPieces_206 (by decide) ?_
                                        exact ih_37 (k + 1) (vp_updL B4 (a).toNat b) (m3 + 1) _ _ hP hS ls (lv_sub hl [1, 2, 3, 4, 0] rfl) (by omega) (by first | exact i37_1 | exact (PL_in (PB_en (by omega)) i37_1 i140_1 (by omega) (by omega) (pt_gs hpt) (fun q9 h9_ => (i89_2 (by omega)).2 q9 (by omega)) i140_2 (by first | exact Or.inl (by omega) | exact Or.inr (fun w9 => by have w8 := (RO_i (by omega) (pt_gs hpt) (by rw [i140_1.1 (a - 1).toNat (by omega)]; exact i37_1.2.1 (a - 1).toNat (by omega))).mpr w9; rcases h_156 with q9 | q9; omega; exact w8 q9.2))).1) (by first | exact DN_i (i := i) (j := j) (k := k) i37_2 (fun i' j' k' q9 => by have q8 : i' < i ∨ (i' = i ∧ (j' < j ∨ (j' = j ∧ k' < k + 1))) := q9; by_cases w9 : i' < i ∨ (i' = i ∧ (j' < j ∨ (j' = j ∧ k' < k))); exact Or.inl w9; exact Or.inr ⟨by omega, by omega, by omega⟩) hpt (PL_in (PB_en (by omega)) i37_1 i140_1 (by omega) (by omega) (pt_gs hpt) (fun q9 h9_ => (i89_2 (by omega)).2 q9 (by omega)) i140_2 (by first | exact Or.inl (by omega) | exact Or.inr (fun w9 => by have w8 := (RO_i (by omega) (pt_gs hpt) (by rw [i140_1.1 (a - 1).toNat (by omega)]; exact i37_1.2.1 (a - 1).toNat (by omega))).mpr w9; rcases h_156 with q9 | q9; omega; exact w8 q9.2))).2.1 (PL_in (PB_en (by omega)) i37_1 i140_1 (by omega) (by omega) (pt_gs hpt) (fun q9 h9_ => (i89_2 (by omega)).2 q9 (by omega)) i140_2 (by first | exact Or.inl (by omega) | exact Or.inr (fun w9 => by have w8 := (RO_i (by omega) (pt_gs hpt) (by rw [i140_1.1 (a - 1).toNat (by omega)]; exact i37_1.2.1 (a - 1).toNat (by omega))).mpr w9; rcases h_156 with q9 | q9; omega; exact w8 q9.2))).2.2 | exact DN_s (i := i) (j := j) (k := k) i37_2 (fun i' j' k' q9 => by have q8 : i' < i ∨ (i' = i ∧ (j' < j ∨ (j' = j ∧ k' < k + 1))) := q9; by_cases w9 : i' < i ∨ (i' = i ∧ (j' < j ∨ (j' = j ∧ k' < k))); exact Or.inl w9; exact Or.inr ⟨by omega, by omega, by omega⟩) (fun b9 w9 => by rcases i72_0 with ⟨q9, q8⟩ | ⟨q9, q8⟩; exact absurd w9 (q8 b9); rcases i89_3 (by omega) with v9 | ⟨v9, v8, v7⟩; exact absurd v9 q9; exact ⟨v9, v8, v7.trans (pt_u q8 w9)⟩)) (by omega)
                                      · skip
                                        refine lv_aload_n SS.1 SS.2.1 dX12_findPieces_162 rfl (lv_at hl 0 rfl) ?_
                                        refine j_get SS hG hP 0 (v := .ref (q 29)) (C := RX12) (T := TX12) (N := 31) rfl rfl inX12 29 (by decide) (ref := RX12) kw_1087 rfl rfl dX12_findPieces_163 ?_
                                        refine lv_iload SS.1 SS.2.1 dX12_findPieces_166 (lv_at hl 6 rfl) ?_
                                        refine lv_aload_n SS.1 SS.2.1 dX12_findPieces_168 rfl (lv_at hl 0 rfl) ?_
                                        refine j_get SS hG hP 0 (v := .ref (q 29)) (C := RX12) (T := TX12) (N := 31) rfl rfl inX12 29 (by decide) (ref := RX12) kw_1087 rfl rfl dX12_findPieces_169 ?_
                                        refine lv_iload SS.1 SS.2.1 dX12_findPieces_172 (lv_at hl 6 rfl) ?_
                                        refine j_iconst SS dX12_findPieces_174 ?_
                                        refine j_isub SS (x := a) (y := 1) dX12_findPieces_175 ?_
                                        refine j_lald SS hG hP 23 (n := 100) (f := B4) rfl (z := (a - 1)) (by omega) (by omega) dX12_findPieces_176 ?_
                                        refine j_last SS hG hP (mW_D hD) hS 23 (n := 100) (f := B4) rfl (z := a) (v := (B4 ((a - 1)).toNat)) (by omega) (by omega) dX12_findPieces_177 (ws' := (mW D o q (uV (uL (uV (uI (uI u 10 X_2) 11 Y_2) 12 n_2) 29 (vp_updL B4 (a).toNat (B4 ((a - 1)).toNat))) 30 m3))) rfl (fun H locs hP hS => ?_)
                                        refine lv_iinc (v := J (a + (-1))) (lv' := [(8, .int (J (a + (-1)))), (0, .ref o), (1, .int (J s)), (2, .int (J i)), (3, .int (J j)), (4, .int (J k)), (5, .long b)]) SS.1 SS.2.1 dX12_findPieces_178 hl (k := 6) rfl (J_add _ _) (by decide) rfl (fun ls hl => ?_)
                                        refine lv_goto (tgt := 140) SS.1 SS.2.1 dX12_findPieces_181 (by decide) ?_
                                        exact ih_140 (a + (-1)) (vp_updL B4 (a).toNat (B4 ((a - 1)).toNat)) _ _ hP hS ls (lv_sub hl [1, 2, 3, 4, 5, 6, 0] rfl) (by omega) (sh_s (by omega) (by omega) i140_1) (fun q9 h1 h2 => by by_cases e9 : (q9 : Int) = a - 1; (have w7 : q9 = (a - 1).toNat := (by omega); subst w7; rw [← i140_1.1 (a - 1).toNat (by omega)]; exact (RO_i (X := X_2) (Y := Y_2) (t := h9 (u.1 3) s) (by omega) (pt_gs hpt) (by rw [i140_1.1 (a - 1).toNat (by omega)]; exact i37_1.2.1 (a - 1).toNat (by omega))).mp (by rcases h_156 with q8 | q8; exact q8.2; omega)); exact i140_2 q9 (by omega) h2) (by omega)
                                exact L_140 (m3.toNat + 1) m3 B3 _ _ hP hS ls (lv_sub hl [1, 2, 3, 4, 5, 6, 0] rfl) (by omega) (sh_0) (fun q h1 h2 => by omega) (Nat.lt_succ_self _)
                            · skip
                              refine lv_aload_n SS.1 SS.2.1 dX12_findPieces_103 rfl (lv_at hl 0 rfl) ?_
                              refine j_get SS hG hP 0 (v := .ref (q 29)) (C := RX12) (T := TX12) (N := 31) rfl rfl inX12 29 (by decide) (ref := RX12) kw_1087 rfl rfl dX12_findPieces_104 ?_
                              refine lv_iload SS.1 SS.2.1 dX12_findPieces_107 (lv_at hl 7 rfl) ?_
                              refine j_lald SS hG hP 23 (n := 100) (f := B3) rfl (z := p) (by omega) (by omega) dX12_findPieces_109 ?_
                              refine lv_lload SS.1 SS.2.1 dX12_findPieces_110 (lv_at hl 5 rfl) ?_
                              refine j_lcmp SS dX12_findPieces_112 (fun z_112 hz_112 => ?_)
                              refine j_if_ne SS (tgt := 120) (x := z_112) dX12_findPieces_113 (by decide) (by omega) (fun c_113 => ?_) (fun c_113 => ?_)
                              · skip
                                refine j_iconst SS dX12_findPieces_120 ?_
                                refine lv_istore (lv' := [(7, .int (J 0)), (0, .ref o), (1, .int (J s)), (2, .int (J i)), (3, .int (J j)), (4, .int (J k)), (5, .long b), (8, .int (J p))]) SS.1 SS.2.1 dX12_findPieces_121 hl (by decide) rfl (fun ls hl => ?_)
                                refine lv_iinc (v := J (p + 1)) (lv' := [(8, .int (J (p + 1))), (7, .int (J 0)), (0, .ref o), (1, .int (J s)), (2, .int (J i)), (3, .int (J j)), (4, .int (J k)), (5, .long b)]) SS.1 SS.2.1 dX12_findPieces_123 hl (k := 7) rfl (J_add _ _) (by decide) rfl (fun ls hl => ?_)
                                refine lv_goto (tgt := 89) SS.1 SS.2.1 dX12_findPieces_126 (by decide) ?_
                                exact ih_89 0 (p + 1) _ _ hP hS ls (lv_sub hl [2, 3, 4, 5, 6, 7, 1, 0] rfl) (by omega) (by omega) (by first | (intro h; exfalso; omega) | (intro _; have q2 := i89_2 (by omega); exact ⟨q2.1, fun q hq => by by_cases e : (q : Int) = p; (rw [show q = p.toNat by omega]; exact fun e2 => c_113 (hz_112.2.2.2.mpr e2)); exact q2.2 q (by omega)⟩)) (by first | (intro h; exfalso; omega) | exact fun _ => Or.inr ⟨p.toNat, by omega, hz_112.2.2.2.mp (by omega)⟩) (by omega)
                              · skip
                                refine j_iconst SS dX12_findPieces_116 ?_
                                refine lv_goto (tgt := 121) SS.1 SS.2.1 dX12_findPieces_117 (by decide) ?_
                                refine lv_istore (lv' := [(7, .int (J 1)), (0, .ref o), (1, .int (J s)), (2, .int (J i)), (3, .int (J j)), (4, .int (J k)), (5, .long b), (8, .int (J p))]) SS.1 SS.2.1 dX12_findPieces_121 hl (by decide) rfl (fun ls hl => ?_)
                                refine lv_iinc (v := J (p + 1)) (lv' := [(8, .int (J (p + 1))), (7, .int (J 1)), (0, .ref o), (1, .int (J s)), (2, .int (J i)), (3, .int (J j)), (4, .int (J k)), (5, .long b)]) SS.1 SS.2.1 dX12_findPieces_123 hl (k := 7) rfl (J_add _ _) (by decide) rfl (fun ls hl => ?_)
                                refine lv_goto (tgt := 89) SS.1 SS.2.1 dX12_findPieces_126 (by decide) ?_
                                exact ih_89 1 (p + 1) _ _ hP hS ls (lv_sub hl [2, 3, 4, 5, 6, 7, 1, 0] rfl) (by omega) (by omega) (by first | (intro h; exfalso; omega) | (intro _; have q2 := i89_2 (by omega); exact ⟨q2.1, fun q hq => by by_cases e : (q : Int) = p; (rw [show q = p.toNat by omega]; exact fun e2 => c_113 (hz_112.2.2.2.mpr e2)); exact q2.2 q (by omega)⟩)) (by first | (intro h; exfalso; omega) | exact fun _ => Or.inr ⟨p.toNat, by omega, hz_112.2.2.2.mp (by omega)⟩) (by omega)
                      refine j_if_ne SS (tgt := 83) (x := z_75) dX12_findPieces_76 (by decide) (by omega) (fun c_76 => ?_) (fun c_76 => ?_)
                      · skip
                        refine j_iconst SS dX12_findPieces_83 ?_
                        refine lv_istore (lv' := [(7, .int (J 0)), (0, .ref o), (1, .int (J s)), (2, .int (J i)), (3, .int (J j)), (4, .int (J k)), (5, .long b)]) SS.1 SS.2.1 dX12_findPieces_84 hl (by decide) rfl (fun ls hl => ?_)
                        refine j_iconst SS dX12_findPieces_86 ?_
                        refine lv_istore (lv' := [(8, .int (J 0)), (7, .int (J 0)), (0, .ref o), (1, .int (J s)), (2, .int (J i)), (3, .int (J j)), (4, .int (J k)), (5, .long b)]) SS.1 SS.2.1 dX12_findPieces_87 hl (by decide) rfl (fun ls hl => ?_)
                        exact L_89 ((m3 - (0 : Int)).toNat + 1) 0 0 _ _ hP hS ls (lv_sub hl [2, 3, 4, 5, 6, 7, 1, 0] rfl) (by omega) (by omega) (by first | (intro h; exfalso; omega) | exact fun _ => ⟨fun e => c_76 (hz_75.2.2.2.mpr e), fun q hq => by omega⟩) (by first | (intro h; exfalso; omega) | exact fun _ => Or.inl (hz_75.2.2.2.mp (by omega))) (Nat.lt_succ_self _)
                      · skip
                        refine j_iconst SS dX12_findPieces_79 ?_
                        refine lv_goto (tgt := 84) SS.1 SS.2.1 dX12_findPieces_80 (by decide) ?_
                        refine lv_istore (lv' := [(7, .int (J 1)), (0, .ref o), (1, .int (J s)), (2, .int (J i)), (3, .int (J j)), (4, .int (J k)), (5, .long b)]) SS.1 SS.2.1 dX12_findPieces_84 hl (by decide) rfl (fun ls hl => ?_)
                        refine j_iconst SS dX12_findPieces_86 ?_
                        refine lv_istore (lv' := [(8, .int (J 0)), (7, .int (J 1)), (0, .ref o), (1, .int (J s)), (2, .int (J i)), (3, .int (J j)), (4, .int (J k)), (5, .long b)]) SS.1 SS.2.1 dX12_findPieces_87 hl (by decide) rfl (fun ls hl => ?_)
                        exact L_89 ((m3 - (0 : Int)).toNat + 1) 1 0 _ _ hP hS ls (lv_sub hl [2, 3, 4, 5, 6, 7, 1, 0] rfl) (by omega) (by omega) (by first | (intro h; exfalso; omega) | exact fun _ => ⟨fun e => c_76 (hz_75.2.2.2.mpr e), fun q hq => by omega⟩) (by first | (intro h; exfalso; omega) | exact fun _ => Or.inl (hz_75.2.2.2.mp (by omega))) (Nat.lt_succ_self _)
                    refine j_if_ne SS (tgt := 61) (x := z_51) dX12_findPieces_54 (by decide) (by omega) (fun c_54 => ?_) (fun c_54 => ?_)
                    · skip
                      refine lv_aload_n SS.1 SS.2.1 dX12_findPieces_61 rfl (lv_at hl 0 rfl) ?_
                      refine lv_iload_n SS.1 SS.2.1 dX12_findPieces_62 rfl (lv_at hl 1 rfl) ?_
                      refine lv_iload_n SS.1 SS.2.1 dX12_findPieces_63 rfl (lv_at hl 2 rfl) ?_
                      refine lv_iload_n SS.1 SS.2.1 dX12_findPieces_64 rfl (lv_at hl 3 rfl) ?_
                      refine lv_iload SS.1 SS.2.1 dX12_findPieces_65 (lv_at hl 4 rfl) ?_
                      refine j_vRl SS (As := [.int (J s), .int (J i), .int (J j), .int (J k)]) (rest := []) (c_X12_planeOf3 l D o q (uV (uL (uV (uI (uI u 10 X_2) 11 Y_2) 12 n_2) 29 B3) 30 m3) s i j k (show 0 ≤ s ∧ s ≤ 7 from (by omega)) (show 0 ≤ n_2 ∧ n_2 ≤ 40 from (by omega)) (show bd 40 (X_2) (Y_2) 6561 from (hIM)) (show HB ((u.1 3)) from (p0.2.1)) (show 0 ≤ i ∧ i < n_2 from (by omega)) (show 0 ≤ j ∧ j < n_2 from (by omega)) (show 0 ≤ k ∧ k < n_2 from (by omega))) mf_X12_planeOf kw_1483 hG hP hP (ci := 8) (q0 := 0) rfl rfl rfl rfl hl.1 ⟨⟨Nat.le_of_ble_eq_true rfl, Nat.le_of_ble_eq_true rfl⟩, Nat.le_of_ble_eq_true rfl, Nat.le_refl _, Nat.le_refl _⟩ rfl dX12_findPieces_67 (fun x_67 h_67 => ?_)
                      refine lv_lstore (lv' := [(5, .long x_67), (0, .ref o), (1, .int (J s)), (2, .int (J i)), (3, .int (J j)), (4, .int (J k))]) SS.1 SS.2.1 dX12_findPieces_70 hl (by decide) rfl (fun ls hl => ?_)
                      exact L_72 x_67 _ _ hP hS ls (lv_sub hl [1, 2, 3, 4, 5, 0] rfl) (by first | exact Or.inl ⟨rfl, fun b9 w9 => w9.2.2.2.2.1 (show tnI X_2 Y_2 i j k = 0 by have w8 : z_51 = tnI X_2 Y_2 i j k := h_51.1; omega)⟩ | (rcases h_67 with q | q; exact Or.inl ⟨q.1, fun b9 w9 => by obtain ⟨p9, q1, q2, q3⟩ := (show ∃ p : Int, 0 ≤ p ∧ p < n_2 ∧ pS X_2 Y_2 (u.1 3) s i j k p < 0 from q.2); have q4 := w9.2.2.2.2.2.1 p9 q1 q2; omega⟩; (have w8 : pt X_2 Y_2 (u.1 3) s n_2 x_67 i j k := ⟨by omega, by omega, by omega, by omega, by rw [← show z_51 = tnI X_2 Y_2 i j k from h_51.1]; exact c_54, q.1, q.2⟩; exact Or.inr ⟨pt_nz (by omega) w8, w8⟩)))
                    · skip
                      refine lv_lconst (v := 0) SS.1 SS.2.1 dX12_findPieces_57 (by decide +kernel) ?_
                      refine lv_goto (tgt := 70) SS.1 SS.2.1 dX12_findPieces_58 (by decide) ?_
                      refine lv_lstore (lv' := [(5, .long 0), (0, .ref o), (1, .int (J s)), (2, .int (J i)), (3, .int (J j)), (4, .int (J k))]) SS.1 SS.2.1 dX12_findPieces_70 hl (by decide) rfl (fun ls hl => ?_)
                      exact L_72 0 _ _ hP hS ls (lv_sub hl [1, 2, 3, 4, 5, 0] rfl) (by first | exact Or.inl ⟨rfl, fun b9 w9 => w9.2.2.2.2.1 (show tnI X_2 Y_2 i j k = 0 by have w8 : z_51 = tnI X_2 Y_2 i j k := h_51.1; omega)⟩ | (rcases h_67 with q | q; exact Or.inl ⟨q.1, fun b9 w9 => by obtain ⟨p9, q1, q2, q3⟩ := (show ∃ p : Int, 0 ≤ p ∧ p < n_2 ∧ pS X_2 Y_2 (u.1 3) s i j k p < 0 from q.2); have q4 := w9.2.2.2.2.2.1 p9 q1 q2; omega⟩; (have w8 : pt X_2 Y_2 (u.1 3) s n_2 x_67 i j k := ⟨by omega, by omega, by omega, by omega, by rw [← show z_51 = tnI X_2 Y_2 i j k from h_51.1]; exact c_54, q.1, q.2⟩; exact Or.inr ⟨pt_nz (by omega) w8, w8⟩)))
              exact L_37 ((n_2 - (j + 1)).toNat + 1) (j + 1) B2 m2 _ _ hP hS ls (lv_sub hl [1, 2, 3, 4, 0] rfl) (by omega) (i24_1) (DN_c i24_2 (fun i9 j9 k9 a1 a2 a3 a4 q9 => by have q8 : i9 < i ∨ (i9 = i ∧ (j9 < j ∨ (j9 = j ∧ k9 < j + 1))) := q9; show i9 < i ∨ (i9 = i ∧ j9 < j); omega)) (Nat.lt_succ_self _)
        exact L_24 ((n_2 - (i + 1)).toNat + 1) (i + 1) B1 m1 _ _ hP hS ls (lv_sub hl [1, 2, 3, 0] rfl) (by omega) (i12_1) (DN_c i12_2 (fun i9 j9 k9 a1 a2 a3 a4 q9 => by have q8 : i9 < i ∨ (i9 = i ∧ j9 < i + 1) := q9; show i9 < i; omega)) (Nat.lt_succ_self _)
  exact L_12 ((n_2 - (0 : Int)).toNat + 1) 0 (u.2.1 29) 0 _ _ hP hS ls (lv_sub hl [1, 2, 0] rfl) (by omega) (⟨by omega, fun q hq => by omega, fun q r h1 h2 => by omega⟩) (fun i9 j9 k9 b9 w9 q9 => by have w8 := w9.1; have q8 : i9 < 0 := q9; omega) (Nat.lt_succ_self _)


set_option maxHeartbeats 4000000 in
set_option maxRecDepth 100000 in
theorem c_X12_pieces3 (l : Launch) (D : JD) (o : Nat) (q : Nat → Nat) (u : MS) (A : Nat → Prop) (hD : va_D A (mW D o q u)) (s : Int) (what : Int) (p0 : IM u) (p1 : -2147483648 ≤ s ∧ s ≤ 2147483647) (p2 : -2147483648 ≤ what ∧ what ≤ 2147483647) : Met l yX12_pieces (jw yX12_pieces cX12_pieces 9 (some .int)) (jr 6 131) (jP [.ref o, .int (J s), .int (J what)] D (fun H => va_P D.1 j_cl (mW D o q u) H)) (jWi (fun z u' => ∃ X : Nat → Int, ∃ Y : Nat → Int, ∃ n : Int, ∃ C : Nat → Int64, ∃ m : Int, u' = (uV (uL (uV (uI (uI u 10 X) 11 Y) 12 n) 29 C) 30 m) ∧ (IM u' ∧ psM u s what z)) (fun u' H => va_P D.1 j_cl (mW D o q u') H) A) 0 0 A := by
  refine Met.ofW (cc := cX12_pieces) (maxL := 9) (ret := (some .int)) (by decide) rfl ?_
  intro pr en st mi args below meth co s₁ B hml hv
  obtain ⟨rfl, hG, hP⟩ := hv
  have hr := B.returns
  have hlk := B.notSynchronized
  have SS : jS pr mi co cX12_pieces 9 st _ RX12 := ⟨B.exec, B.bytes, hml, findClass_of_methodNamed B.named, fun w hw => atoms_spec (ws := (jw yX12_pieces cX12_pieces 9 (some .int))) B.pre w (List.mem_cons_of_mem _ hw)⟩
  have hl := lv_entry ([.ref o, .int (J s), .int (J what)]) (n := 9) (Nat.le_of_ble_eq_true rfl)
  rw [lg_entry_eq]
  generalize (lg_sl ([.ref o, .int (J s), .int (J what)]) ++ List.replicate (9 - (lg_sl ([.ref o, .int (J s), .int (J what)])).length) Slot.unset).toArray = ls at hl ⊢
  have hl : lv_has ls 9 [(0, .ref o), (1, .int (J s)), (2, .int (J what))] := hl
  have hS : va_S A st.heap st.heap [] := va_S.rf
  refine lv_iload_n SS.1 SS.2.1 dX12_pieces_0 rfl (lv_at hl 1 rfl) ?_
  refine j_sRi SS (As := [.int (J s)]) (rest := []) (c_X12_isShape l D s (show -2147483648 ≤ s ∧ s ≤ 2147483647 from (by omega))) mf_X12_isShape kw_1156 hG trivial rfl hl.1 ⟨⟨Nat.le_of_ble_eq_true rfl, Nat.le_of_ble_eq_true rfl⟩, Nat.le_of_ble_eq_true rfl, Nat.le_refl _, Nat.le_refl _⟩ rfl dX12_pieces_1 (fun z_1 h_1 => ?_)
  have h_1 : (z_1 = 1 ∧ (0 ≤ s ∧ s ≤ 7)) ∨ (z_1 = 0 ∧ ¬ (0 ≤ s ∧ s ≤ 7)) := h_1
  refine j_if_eq SS (tgt := 16) (x := z_1) dX12_pieces_4 (by decide) (by omega) (fun c_4 => ?_) (fun c_4 => ?_)
  · skip
    refine j_iconst SS dX12_pieces_16 ?_
    exact W.iret SS.1 SS.2.1 hr (fun t ht hW => ⟨⟨_, (uV (uL (uV (uI (uI u 10 (u.1 10)) 11 (u.1 11)) 12 (u.2.2 12)) 29 (u.2.1 29)) 30 (u.2.2 30)), rfl, ⟨(-1), rfl, (⟨(u.1 10), (u.1 11), (u.2.2 12), (u.2.1 29), (u.2.2 30), rfl, ⟨p0, Or.inl ⟨fun q => by omega, rfl⟩⟩⟩)⟩, by show va_P D.1 j_cl (mW D o q (uV (uL (uV (uI (uI u 10 (u.1 10)) 11 (u.1 11)) 12 (u.2.2 12)) 29 (u.2.1 29)) 30 (u.2.2 30))) t.heap; rw [ht]; exact hP⟩, hS.F ht⟩) hS.2.2 dX12_pieces_17 hlk
  · skip
    refine lv_iload_n SS.1 SS.2.1 dX12_pieces_7 rfl (lv_at hl 2 rfl) ?_
    refine j_iconst SS dX12_pieces_8 ?_
    refine j_iconst SS dX12_pieces_9 ?_
    refine j_sRi SS (As := [.int (J what), .int (J 0), .int (J 2)]) (rest := []) (c_X12_in l D what 0 2 (show -2147483648 ≤ what ∧ what ≤ 2147483647 from (by omega)) (show -2147483648 ≤ (0 : Int) ∧ (0 : Int) ≤ 2147483647 from (by omega)) (show -2147483648 ≤ (2 : Int) ∧ (2 : Int) ≤ 2147483647 from (by omega))) mf_X12_in kw_1159 hG trivial rfl hl.1 ⟨⟨Nat.le_of_ble_eq_true rfl, Nat.le_of_ble_eq_true rfl⟩, Nat.le_of_ble_eq_true rfl, Nat.le_refl _, Nat.le_refl _⟩ rfl dX12_pieces_10 (fun z_10 h_10 => ?_)
    have h_10 : (z_10 = 1 ∧ ((0 : Int) ≤ what ∧ what ≤ (2 : Int))) ∨ (z_10 = 0 ∧ ¬ ((0 : Int) ≤ what ∧ what ≤ (2 : Int))) := h_10
    refine j_if_ne SS (tgt := 18) (x := z_10) dX12_pieces_13 (by decide) (by omega) (fun c_13 => ?_) (fun c_13 => ?_)
    · skip
      refine lv_aload_n SS.1 SS.2.1 dX12_pieces_18 rfl (lv_at hl 0 rfl) ?_
      refine lv_iload_n SS.1 SS.2.1 dX12_pieces_19 rfl (lv_at hl 1 rfl) ?_
      refine j_vRi SS (As := [.int (J s)]) (rest := []) (c_X12_isLifted l D o q u s (show 0 ≤ s ∧ s ≤ 7 from (by omega)) (show Sh u s from (p0.1 _ (by omega) (by omega)))) mf_X12_isLifted kw_1471 hG hP hP (ci := 8) (q0 := 0) rfl rfl rfl rfl hl.1 ⟨⟨Nat.le_of_ble_eq_true rfl, Nat.le_of_ble_eq_true rfl⟩, Nat.le_of_ble_eq_true rfl, Nat.le_refl _, Nat.le_refl _⟩ rfl dX12_pieces_20 (fun z_20 h_20 => ?_)
      have h_20 : (z_20 = 1 ∧ 2 < mN u s ∧ mEd u s + mIn u s ≤ 40) ∨ (z_20 = 0 ∧ ¬ (2 < mN u s ∧ mEd u s + mIn u s ≤ 40)) := h_20
      refine j_if_ne SS (tgt := 29) (x := z_20) dX12_pieces_23 (by decide) (by omega) (fun c_23 => ?_) (fun c_23 => ?_)
      · skip
        refine lv_aload_n SS.1 SS.2.1 dX12_pieces_29 rfl (lv_at hl 0 rfl) ?_
        refine lv_iload_n SS.1 SS.2.1 dX12_pieces_30 rfl (lv_at hl 1 rfl) ?_
        refine j_vWv SS (As := [.int (J s)]) (rest := []) (c_X12_findPieces3 l D o q u A (mW_D hD) s (show IM u from (p0)) (show 0 ≤ s ∧ s ≤ 7 from (by omega)) (show 2 < mN u s from (by omega)) (show mEd u s + mIn u s ≤ 40 from (by omega))) mf_X12_findPieces kw_1479 hG hP hP (ci := 8) (q0 := 0) rfl rfl rfl hS (fun _ h => h) rfl hl.1 ⟨⟨Nat.le_of_ble_eq_true rfl, Nat.le_of_ble_eq_true rfl⟩, Nat.le_of_ble_eq_true rfl, Nat.le_refl _, Nat.le_refl _⟩ rfl dX12_pieces_31 (fun u31 H locs h_31 hP _ hS => ?_)
        obtain ⟨X_31, Y_31, n_31, C_31, m_31, rfl, h_31⟩ := h_31
        have hP : va_P D.1 j_cl (mW D o q (uV (uL (uV (uI (uI u 10 X_31) 11 Y_31) 12 n_31) 29 C_31) 30 m_31)) H := hP
        have h_31 : ((0 ≤ m_31 ∧ m_31 ≤ 80) ∧ IM (uV (uL (uV (uI (uI u 10 X_31) 11 Y_31) 12 n_31) 29 C_31) 30 m_31)) ∧ ((0 ≤ n_31 ∧ n_31 ≤ 40) ∧ OL (PBx u s) n_31 X_31 Y_31) ∧ PL9 PB X_31 Y_31 (h9 ((u.1 3)) s) n_31.toNat m_31 C_31 ∧ DN9 X_31 Y_31 ((u.1 3)) s n_31 C_31 m_31 (fun i j k => i < n_31) := h_31
        obtain ⟨⟨hm, hI⟩, ⟨hn40, hOL⟩, hPL, hDN⟩ := h_31
        obtain ⟨F, hF1, hF2⟩ := PL_F (PB_en (by omega)) hPL (fun f hf => DN_gs hDN (fun i9 j9 k9 a1 a2 a3 a4 => by show i9 < n_31; omega) f hf)
        refine lv_iload_n SS.1 SS.2.1 dX12_pieces_34 rfl (lv_at hl 2 rfl) ?_
        refine j_if_ne SS (tgt := 43) (x := what) dX12_pieces_35 (by decide) (by omega) (fun c_35 => ?_) (fun c_35 => ?_)
        · skip
          refine lv_lconst (v := 0) SS.1 SS.2.1 dX12_pieces_43 (by decide +kernel) ?_
          refine lv_lstore_n (lv' := [(3, .long 0), (0, .ref o), (1, .int (J s)), (2, .int (J what))]) SS.1 SS.2.1 dX12_pieces_44 rfl hl (by decide) rfl (fun ls hl => ?_)
          refine j_iconst SS dX12_pieces_45 ?_
          refine lv_istore (lv' := [(5, .int (J 0)), (3, .long 0), (0, .ref o), (1, .int (J s)), (2, .int (J what))]) SS.1 SS.2.1 dX12_pieces_46 hl (by decide) rfl (fun ls hl => ?_)
          refine j_iconst SS dX12_pieces_48 ?_
          refine lv_istore (lv' := [(6, .int (J 0)), (5, .int (J 0)), (3, .long 0), (0, .ref o), (1, .int (J s)), (2, .int (J what))]) SS.1 SS.2.1 dX12_pieces_49 hl (by decide) rfl (fun ls hl => ?_)
          have L_51 : ∀ (nn : Nat) (w : Int64) (n9 : Int) (p : Int) (H : Heap) (locs : List Loc) (hP : va_P D.1 j_cl (mW D o q (uV (uL (uV (uI (uI u 10 X_31) 11 Y_31) 12 n_31) 29 C_31) 30 m_31)) H) (hS : va_S A st.heap H locs) (ls : Array Slot) (hl : lv_has ls 9 [(0, .ref o), (1, .int (J s)), (2, .int (J what)), (3, .long w), (5, .int (J n9)), (6, .int (J p))]) (i51_0 : 0 ≤ p ∧ p ≤ m_31) (i51_1 : 0 ≤ n9 ∧ n9 ≤ p) (i51_2 : w = PB (sn9 F p.toNat) n_31.toNat) (i51_3 : cu9 X_31 Y_31 n_31.toNat F p.toNat n9), (m_31 - p).toNat < nn → W pr l en (headSpec (jw yX12_pieces cX12_pieces 9 (some .int)) (jr 6 131)).room st mi (([.ref o, .int (J s), .int (J what)] : List Value).toArray) below meth co H locs 0 0 (MQ below (jWi (fun z u' => ∃ X : Nat → Int, ∃ Y : Nat → Int, ∃ n : Int, ∃ C : Nat → Int64, ∃ m : Int, u' = (uV (uL (uV (uI (uI u 10 X) 11 Y) 12 n) 29 C) 30 m) ∧ (IM u' ∧ psM u s what z)) (fun u' H => va_P D.1 j_cl (mW D o q u') H) A) (([.ref o, .int (J s), .int (J what)] : List Value).toArray) st 0 0 A) (F0 mi 51 ls []) := by
            intro nn
            induction nn with
            | zero => intros; omega
            | succ nn ih_51 =>
              intro w n9 p  H locs hP hS ls hl i51_0 i51_1 i51_2 i51_3 hm
              refine lv_iload SS.1 SS.2.1 dX12_pieces_51 (lv_at hl 5 rfl) ?_
              refine lv_aload_n SS.1 SS.2.1 dX12_pieces_53 rfl (lv_at hl 0 rfl) ?_
              refine j_get SS hG hP 0 (v := .int (J m_31)) (C := RX12) (T := TX12) (N := 31) rfl rfl inX12 30 (by decide) (ref := RX12) kw_1088 rfl rfl dX12_pieces_54 ?_
              refine j_icmp_ge SS (tgt := 128) (x := p) (y := m_31) dX12_pieces_57 (by decide) (by omega) (by omega) (fun c_57 => ?_) (fun c_57 => ?_)
              · skip
                refine lv_iload_n SS.1 SS.2.1 dX12_pieces_128 rfl (lv_at hl 2 rfl) ?_
                refine j_iconst SS dX12_pieces_129 ?_
                refine j_icmp_ne SS (tgt := 140) (x := what) (y := 1) dX12_pieces_130 (by decide) (by omega) (by decide) (fun c_130 => ?_) (fun c_130 => ?_)
                · skip
                  refine lv_iload SS.1 SS.2.1 dX12_pieces_140 (lv_at hl 4 rfl) ?_
                  exact W.iret SS.1 SS.2.1 hr (fun t ht hW => ⟨⟨_, (uV (uL (uV (uI (uI u 10 X_31) 11 Y_31) 12 n_31) 29 C_31) 30 m_31), rfl, ⟨n9, rfl, (⟨X_31, Y_31, n_31, C_31, m_31, rfl, by first | exact ⟨hI, Or.inr ⟨by omega, Or.inr ⟨by unfold lfM; omega, n_31, X_31, Y_31, m_31, F, ⟨hn40, hOL, hF1⟩, Or.inr (Or.inl ⟨by omega, by rw [h_134.1, bI_40, i51_2, ct_PB (by omega), show p = m_31 by omega]⟩)⟩⟩⟩ | exact ⟨hI, Or.inr ⟨by omega, Or.inr ⟨by unfold lfM; omega, n_31, X_31, Y_31, m_31, F, ⟨hn40, hOL, hF1⟩, Or.inr (Or.inr ⟨by omega, by rw [show m_31 = p by omega]; exact i51_3⟩)⟩⟩⟩⟩)⟩, by show va_P D.1 j_cl (mW D o q (uV (uL (uV (uI (uI u 10 X_31) 11 Y_31) 12 n_31) 29 C_31) 30 m_31)) t.heap; rw [ht]; exact hP⟩, hS.F ht⟩) hS.2.2 dX12_pieces_142 hlk
                · skip
                  refine lv_lload_n SS.1 SS.2.1 dX12_pieces_133 rfl (lv_at hl 3 rfl) ?_
                  refine j_sRi SS (As := [.long w]) (rest := []) (c_X12_bitsIn l D w ) mf_X12_bitsIn kw_1490 hG trivial rfl hl.1 ⟨⟨Nat.le_of_ble_eq_true rfl, Nat.le_of_ble_eq_true rfl⟩, Nat.le_of_ble_eq_true rfl, Nat.le_refl _, Nat.le_refl _⟩ rfl dX12_pieces_134 (fun z_134 h_134 => ?_)
                  have h_134 : z_134 = smI (bvI w) 40 ∧ 0 ≤ z_134 ∧ z_134 ≤ 40 := h_134
                  refine lv_goto (tgt := 142) SS.1 SS.2.1 dX12_pieces_137 (by decide) ?_
                  exact W.iret SS.1 SS.2.1 hr (fun t ht hW => ⟨⟨_, (uV (uL (uV (uI (uI u 10 X_31) 11 Y_31) 12 n_31) 29 C_31) 30 m_31), rfl, ⟨z_134, rfl, (⟨X_31, Y_31, n_31, C_31, m_31, rfl, by first | exact ⟨hI, Or.inr ⟨by omega, Or.inr ⟨by unfold lfM; omega, n_31, X_31, Y_31, m_31, F, ⟨hn40, hOL, hF1⟩, Or.inr (Or.inl ⟨by omega, by rw [h_134.1, bI_40, i51_2, ct_PB (by omega), show p = m_31 by omega]⟩)⟩⟩⟩ | exact ⟨hI, Or.inr ⟨by omega, Or.inr ⟨by unfold lfM; omega, n_31, X_31, Y_31, m_31, F, ⟨hn40, hOL, hF1⟩, Or.inr (Or.inr ⟨by omega, by rw [show m_31 = p by omega]; exact i51_3⟩)⟩⟩⟩⟩)⟩, by show va_P D.1 j_cl (mW D o q (uV (uL (uV (uI (uI u 10 X_31) 11 Y_31) 12 n_31) 29 C_31) 30 m_31)) t.heap; rw [ht]; exact hP⟩, hS.F ht⟩) hS.2.2 dX12_pieces_142 hlk
              · skip
                refine lv_aload_n SS.1 SS.2.1 dX12_pieces_60 rfl (lv_at hl 0 rfl) ?_
                refine j_get SS hG hP 0 (v := .ref (q 29)) (C := RX12) (T := TX12) (N := 31) rfl rfl inX12 29 (by decide) (ref := RX12) kw_1087 rfl rfl dX12_pieces_61 ?_
                refine lv_iload SS.1 SS.2.1 dX12_pieces_64 (lv_at hl 5 rfl) ?_
                refine j_lald SS hG hP 23 (n := 100) (f := C_31) rfl (z := p) (by omega) (by omega) dX12_pieces_66 ?_
                refine lv_lstore (lv' := [(7, .long (C_31 (p).toNat)), (0, .ref o), (1, .int (J s)), (2, .int (J what)), (3, .long w), (5, .int (J n9)), (6, .int (J p))]) SS.1 SS.2.1 dX12_pieces_67 hl (by decide) rfl (fun ls hl => ?_)
                refine lv_lload_n SS.1 SS.2.1 dX12_pieces_69 rfl (lv_at hl 4 rfl) ?_
                refine lv_lload SS.1 SS.2.1 dX12_pieces_70 (lv_at hl 0 rfl) ?_
                refine lv_lor SS.1 SS.2.1 dX12_pieces_72 ?_
                refine lv_lstore_n (lv' := [(3, .long (w ||| (C_31 (p).toNat))), (7, .long (C_31 (p).toNat)), (0, .ref o), (1, .int (J s)), (2, .int (J what)), (5, .int (J n9)), (6, .int (J p))]) SS.1 SS.2.1 dX12_pieces_73 rfl hl (by decide) rfl (fun ls hl => ?_)
                refine lv_iload SS.1 SS.2.1 dX12_pieces_74 (lv_at hl 5 rfl) ?_
                refine lv_lload SS.1 SS.2.1 dX12_pieces_76 (lv_at hl 1 rfl) ?_
                refine j_sRi SS (As := [.long (C_31 (p).toNat)]) (rest := [.int (J n9)]) (c_X12_bitsIn l D (C_31 (p).toNat) ) mf_X12_bitsIn kw_1490 hG trivial rfl hl.1 ⟨⟨Nat.le_of_ble_eq_true rfl, Nat.le_of_ble_eq_true rfl⟩, Nat.le_of_ble_eq_true rfl, Nat.le_refl _, Nat.le_refl _⟩ rfl dX12_pieces_78 (fun z_78 h_78 => ?_)
                have h_78 : z_78 = smI (bvI (C_31 (p).toNat)) 40 ∧ 0 ≤ z_78 ∧ z_78 ≤ 40 := h_78
                have hCp := hF2 p.toNat (by omega)
                have hc78 : z_78 = ct9 (F p.toNat) n_31.toNat := by rw [h_78.1, bI_40, hCp, ct_PB (by omega)]
                refine j_iconst SS dX12_pieces_81 ?_
                refine j_icmp_ne SS (tgt := 118) (x := z_78) (y := 3) dX12_pieces_82 (by decide) (by omega) (by decide) (fun c_82 => ?_) (fun c_82 => ?_)
                · skip
                  refine j_iconst SS dX12_pieces_118 ?_
                  refine j_iadd SS (x := n9) (y := 0) dX12_pieces_119 ?_
                  refine lv_istore (lv' := [(5, .int (J (n9 + 0))), (3, .long (w ||| (C_31 (p).toNat))), (7, .long (C_31 (p).toNat)), (0, .ref o), (1, .int (J s)), (2, .int (J what)), (6, .int (J p))]) SS.1 SS.2.1 dX12_pieces_120 hl (by decide) rfl (fun ls hl => ?_)
                  refine lv_iinc (v := J (p + 1)) (lv' := [(6, .int (J (p + 1))), (5, .int (J (n9 + 0))), (3, .long (w ||| (C_31 (p).toNat))), (7, .long (C_31 (p).toNat)), (0, .ref o), (1, .int (J s)), (2, .int (J what))]) SS.1 SS.2.1 dX12_pieces_122 hl (k := 6) rfl (J_add _ _) (by decide) rfl (fun ls hl => ?_)
                  refine lv_goto (tgt := 51) SS.1 SS.2.1 dX12_pieces_125 (by decide) ?_
                  exact ih_51 (w ||| (C_31 (p).toNat)) (n9 + 0) (p + 1) _ _ hP hS ls (lv_sub hl [4, 5, 6, 2, 1, 0] rfl) (by omega) (by omega) (sn_s (by omega) (by omega) i51_2 hCp) (by first | exact cu9_p (by omega) i51_3 (Or.inr ⟨ut_n (by omega), by omega⟩) | exact cu9_p (by omega) i51_3 (Or.inl ⟨(ut_z (by omega) he104 h_107).mpr (by omega), by omega⟩) | exact cu9_p (by omega) i51_3 (Or.inr ⟨fun w9 => by have w8 := (ut_z (by omega) he104 h_107).mp w9; omega, by omega⟩)) (by omega)
                · skip
                  refine lv_aload_n SS.1 SS.2.1 dX12_pieces_85 rfl (lv_at hl 2 rfl) ?_
                  refine lv_lload SS.1 SS.2.1 dX12_pieces_86 (lv_at hl 1 rfl) ?_
                  refine j_iconst SS dX12_pieces_88 ?_
                  refine j_sRi SS (As := [.long (C_31 (p).toNat), .int (J 0)]) (rest := [.ref o, .int (J n9)]) (c_X12_bitAt3 l D (C_31 (p).toNat) 0 (show -2147483648 ≤ (0 : Int) ∧ (0 : Int) ≤ 2147483647 from (by omega))) mf_X12_bitAt kw_1493 hG trivial rfl hl.1 ⟨⟨Nat.le_of_ble_eq_true rfl, Nat.le_of_ble_eq_true rfl⟩, Nat.le_of_ble_eq_true rfl, Nat.le_refl _, Nat.le_refl _⟩ rfl dX12_pieces_89 (fun z_89 h_89 => ?_)
                  have h_89 : (z_89 = -9 ∧ (0 ≤ (0 : Int) → ct9 (gb (C_31 (p).toNat)) 40 ≤ (0 : Int))) ∨ ((0 ≤ z_89 ∧ z_89 < 40) ∧ gb (C_31 (p).toNat) z_89.toNat = true ∧ ct9 (gb (C_31 (p).toNat)) z_89.toNat = (0 : Int)) := h_89
                  have g89 : z_89 = mem9 (F p.toNat) n_31.toNat 0 ∧ 0 ≤ z_89 ∧ z_89 < n_31 := by rcases at_PB (i := 0) (by omega) hCp (by omega) h_89 with q9 | q9; omega; omega
                  refine lv_lload SS.1 SS.2.1 dX12_pieces_92 (lv_at hl 1 rfl) ?_
                  refine j_iconst SS dX12_pieces_94 ?_
                  refine j_sRi SS (As := [.long (C_31 (p).toNat), .int (J 1)]) (rest := [.int (J z_89), .ref o, .int (J n9)]) (c_X12_bitAt3 l D (C_31 (p).toNat) 1 (show -2147483648 ≤ (1 : Int) ∧ (1 : Int) ≤ 2147483647 from (by omega))) mf_X12_bitAt kw_1493 hG trivial rfl hl.1 ⟨⟨Nat.le_of_ble_eq_true rfl, Nat.le_of_ble_eq_true rfl⟩, Nat.le_of_ble_eq_true rfl, Nat.le_refl _, Nat.le_refl _⟩ rfl dX12_pieces_95 (fun z_95 h_95 => ?_)
                  have h_95 : (z_95 = -9 ∧ (0 ≤ (1 : Int) → ct9 (gb (C_31 (p).toNat)) 40 ≤ (1 : Int))) ∨ ((0 ≤ z_95 ∧ z_95 < 40) ∧ gb (C_31 (p).toNat) z_95.toNat = true ∧ ct9 (gb (C_31 (p).toNat)) z_95.toNat = (1 : Int)) := h_95
                  have g95 : z_95 = mem9 (F p.toNat) n_31.toNat 1 ∧ 0 ≤ z_95 ∧ z_95 < n_31 := by rcases at_PB (i := 1) (by omega) hCp (by omega) h_95 with q9 | q9; omega; omega
                  refine lv_lload SS.1 SS.2.1 dX12_pieces_98 (lv_at hl 1 rfl) ?_
                  refine j_iconst SS dX12_pieces_100 ?_
                  refine j_sRi SS (As := [.long (C_31 (p).toNat), .int (J 2)]) (rest := [.int (J z_95), .int (J z_89), .ref o, .int (J n9)]) (c_X12_bitAt3 l D (C_31 (p).toNat) 2 (show -2147483648 ≤ (2 : Int) ∧ (2 : Int) ≤ 2147483647 from (by omega))) mf_X12_bitAt kw_1493 hG trivial rfl hl.1 ⟨⟨Nat.le_of_ble_eq_true rfl, Nat.le_of_ble_eq_true rfl⟩, Nat.le_of_ble_eq_true rfl, Nat.le_refl _, Nat.le_refl _⟩ rfl dX12_pieces_101 (fun z_101 h_101 => ?_)
                  have h_101 : (z_101 = -9 ∧ (0 ≤ (2 : Int) → ct9 (gb (C_31 (p).toNat)) 40 ≤ (2 : Int))) ∨ ((0 ≤ z_101 ∧ z_101 < 40) ∧ gb (C_31 (p).toNat) z_101.toNat = true ∧ ct9 (gb (C_31 (p).toNat)) z_101.toNat = (2 : Int)) := h_101
                  have g101 : z_101 = mem9 (F p.toNat) n_31.toNat 2 ∧ 0 ≤ z_101 ∧ z_101 < n_31 := by rcases at_PB (i := 2) (by omega) hCp (by omega) h_101 with q9 | q9; omega; omega
                  refine j_vRi SS (As := [.int (J z_89), .int (J z_95), .int (J z_101)]) (rest := [.int (J n9)]) (c_X12_turn l D o q (uV (uL (uV (uI (uI u 10 X_31) 11 Y_31) 12 n_31) 29 C_31) 30 m_31) z_89 z_95 z_101 (show 0 ≤ z_89 ∧ z_89 < 6561 from (by omega)) (show 0 ≤ z_95 ∧ z_95 < 6561 from (by omega)) (show 0 ≤ z_101 ∧ z_101 < 6561 from (by omega)) (show bd 40 (X_31) (Y_31) 6561 from (hI.2.2))) mf_X12_turn kw_1427 hG hP hP (ci := 8) (q0 := 0) rfl rfl rfl rfl hl.1 ⟨⟨Nat.le_of_ble_eq_true rfl, Nat.le_of_ble_eq_true rfl⟩, Nat.le_of_ble_eq_true rfl, Nat.le_refl _, Nat.le_refl _⟩ rfl dX12_pieces_104 (fun z_104 h_104 => ?_)
                  have h_104 : z_104 = tn (X_31) (Y_31) z_89.toNat z_95.toNat z_101.toNat ∧ -12800 ≤ z_104 ∧ z_104 ≤ 12800 := h_104
                  have he104 : z_104 = tn X_31 Y_31 (mem9 (F p.toNat) n_31.toNat 0).toNat (mem9 (F p.toNat) n_31.toNat 1).toNat (mem9 (F p.toNat) n_31.toNat 2).toNat := by rw [h_104.1, g89.1, g95.1, g101.1]
                  refine j_sRi SS (As := [.int (J z_104)]) (rest := [.int (J n9)]) (c_X12_size l D z_104 (show -2147483648 < z_104 ∧ z_104 ≤ 2147483647 from (by omega))) mf_X12_size kw_1233 hG trivial rfl hl.1 ⟨⟨Nat.le_of_ble_eq_true rfl, Nat.le_of_ble_eq_true rfl⟩, Nat.le_of_ble_eq_true rfl, Nat.le_refl _, Nat.le_refl _⟩ rfl dX12_pieces_107 (fun z_107 h_107 => ?_)
                  have h_107 : (0 ≤ z_104 → z_107 = z_104) ∧ (z_104 < 0 → z_107 = -z_104) := h_107
                  refine j_iconst SS dX12_pieces_110 ?_
                  refine j_icmp_ne SS (tgt := 118) (x := z_107) (y := 1) dX12_pieces_111 (by decide) (by omega) (by decide) (fun c_111 => ?_) (fun c_111 => ?_)
                  · skip
                    refine j_iconst SS dX12_pieces_118 ?_
                    refine j_iadd SS (x := n9) (y := 0) dX12_pieces_119 ?_
                    refine lv_istore (lv' := [(5, .int (J (n9 + 0))), (3, .long (w ||| (C_31 (p).toNat))), (7, .long (C_31 (p).toNat)), (0, .ref o), (1, .int (J s)), (2, .int (J what)), (6, .int (J p))]) SS.1 SS.2.1 dX12_pieces_120 hl (by decide) rfl (fun ls hl => ?_)
                    refine lv_iinc (v := J (p + 1)) (lv' := [(6, .int (J (p + 1))), (5, .int (J (n9 + 0))), (3, .long (w ||| (C_31 (p).toNat))), (7, .long (C_31 (p).toNat)), (0, .ref o), (1, .int (J s)), (2, .int (J what))]) SS.1 SS.2.1 dX12_pieces_122 hl (k := 6) rfl (J_add _ _) (by decide) rfl (fun ls hl => ?_)
                    refine lv_goto (tgt := 51) SS.1 SS.2.1 dX12_pieces_125 (by decide) ?_
                    exact ih_51 (w ||| (C_31 (p).toNat)) (n9 + 0) (p + 1) _ _ hP hS ls (lv_sub hl [4, 5, 6, 2, 1, 0] rfl) (by omega) (by omega) (sn_s (by omega) (by omega) i51_2 hCp) (by first | exact cu9_p (by omega) i51_3 (Or.inr ⟨ut_n (by omega), by omega⟩) | exact cu9_p (by omega) i51_3 (Or.inl ⟨(ut_z (by omega) he104 h_107).mpr (by omega), by omega⟩) | exact cu9_p (by omega) i51_3 (Or.inr ⟨fun w9 => by have w8 := (ut_z (by omega) he104 h_107).mp w9; omega, by omega⟩)) (by omega)
                  · skip
                    refine j_iconst SS dX12_pieces_114 ?_
                    refine lv_goto (tgt := 119) SS.1 SS.2.1 dX12_pieces_115 (by decide) ?_
                    refine j_iadd SS (x := n9) (y := 1) dX12_pieces_119 ?_
                    refine lv_istore (lv' := [(5, .int (J (n9 + 1))), (3, .long (w ||| (C_31 (p).toNat))), (7, .long (C_31 (p).toNat)), (0, .ref o), (1, .int (J s)), (2, .int (J what)), (6, .int (J p))]) SS.1 SS.2.1 dX12_pieces_120 hl (by decide) rfl (fun ls hl => ?_)
                    refine lv_iinc (v := J (p + 1)) (lv' := [(6, .int (J (p + 1))), (5, .int (J (n9 + 1))), (3, .long (w ||| (C_31 (p).toNat))), (7, .long (C_31 (p).toNat)), (0, .ref o), (1, .int (J s)), (2, .int (J what))]) SS.1 SS.2.1 dX12_pieces_122 hl (k := 6) rfl (J_add _ _) (by decide) rfl (fun ls hl => ?_)
                    refine lv_goto (tgt := 51) SS.1 SS.2.1 dX12_pieces_125 (by decide) ?_
                    exact ih_51 (w ||| (C_31 (p).toNat)) (n9 + 1) (p + 1) _ _ hP hS ls (lv_sub hl [4, 5, 6, 2, 1, 0] rfl) (by omega) (by omega) (sn_s (by omega) (by omega) i51_2 hCp) (by first | exact cu9_p (by omega) i51_3 (Or.inr ⟨ut_n (by omega), by omega⟩) | exact cu9_p (by omega) i51_3 (Or.inl ⟨(ut_z (by omega) he104 h_107).mpr (by omega), by omega⟩) | exact cu9_p (by omega) i51_3 (Or.inr ⟨fun w9 => by have w8 := (ut_z (by omega) he104 h_107).mp w9; omega, by omega⟩)) (by omega)
          exact L_51 ((m_31 - (0 : Int)).toNat + 1) 0 0 0 _ _ hP hS ls (lv_sub hl [3, 4, 5, 2, 1, 0] rfl) (by omega) (by omega) ((sn_0 (by omega)).symm) (cu9_0) (Nat.lt_succ_self _)
        · skip
          refine lv_aload_n SS.1 SS.2.1 dX12_pieces_38 rfl (lv_at hl 0 rfl) ?_
          refine j_get SS hG hP 0 (v := .int (J m_31)) (C := RX12) (T := TX12) (N := 31) rfl rfl inX12 30 (by decide) (ref := RX12) kw_1088 rfl rfl dX12_pieces_39 ?_
          exact W.iret SS.1 SS.2.1 hr (fun t ht hW => ⟨⟨_, (uV (uL (uV (uI (uI u 10 X_31) 11 Y_31) 12 n_31) 29 C_31) 30 m_31), rfl, ⟨m_31, rfl, (⟨X_31, Y_31, n_31, C_31, m_31, rfl, ⟨hI, Or.inr ⟨by omega, Or.inr ⟨by unfold lfM; omega, n_31, X_31, Y_31, m_31, F, ⟨hn40, hOL, hF1⟩, Or.inl ⟨by omega, rfl⟩⟩⟩⟩⟩)⟩, by show va_P D.1 j_cl (mW D o q (uV (uL (uV (uI (uI u 10 X_31) 11 Y_31) 12 n_31) 29 C_31) 30 m_31)) t.heap; rw [ht]; exact hP⟩, hS.F ht⟩) hS.2.2 dX12_pieces_42 hlk
      · skip
        refine j_bipush SS dX12_pieces_26 (by decide +kernel) ?_
        exact W.iret SS.1 SS.2.1 hr (fun t ht hW => ⟨⟨_, (uV (uL (uV (uI (uI u 10 (u.1 10)) 11 (u.1 11)) 12 (u.2.2 12)) 29 (u.2.1 29)) 30 (u.2.2 30)), rfl, ⟨(-2), rfl, (⟨(u.1 10), (u.1 11), (u.2.2 12), (u.2.1 29), (u.2.2 30), rfl, ⟨p0, Or.inr ⟨by omega, Or.inl ⟨fun q => by unfold lfM at q; omega, rfl⟩⟩⟩⟩)⟩, by show va_P D.1 j_cl (mW D o q (uV (uL (uV (uI (uI u 10 (u.1 10)) 11 (u.1 11)) 12 (u.2.2 12)) 29 (u.2.1 29)) 30 (u.2.2 30))) t.heap; rw [ht]; exact hP⟩, hS.F ht⟩) hS.2.2 dX12_pieces_28 hlk
    · skip
      refine j_iconst SS dX12_pieces_16 ?_
      exact W.iret SS.1 SS.2.1 hr (fun t ht hW => ⟨⟨_, (uV (uL (uV (uI (uI u 10 (u.1 10)) 11 (u.1 11)) 12 (u.2.2 12)) 29 (u.2.1 29)) 30 (u.2.2 30)), rfl, ⟨(-1), rfl, (⟨(u.1 10), (u.1 11), (u.2.2 12), (u.2.1 29), (u.2.2 30), rfl, ⟨p0, Or.inl ⟨fun q => by omega, rfl⟩⟩⟩)⟩, by show va_P D.1 j_cl (mW D o q (uV (uL (uV (uI (uI u 10 (u.1 10)) 11 (u.1 11)) 12 (u.2.2 12)) 29 (u.2.1 29)) 30 (u.2.2 30))) t.heap; rw [ht]; exact hP⟩, hS.F ht⟩) hS.2.2 dX12_pieces_17 hlk

set_option maxHeartbeats 4000000 in
set_option maxRecDepth 100000 in
theorem c_X12_piece3 (l : Launch) (D : JD) (o : Nat) (q : Nat → Nat) (u : MS) (A : Nat → Prop) (hD : va_D A (mW D o q u)) (s : Int) (p : Int) (i : Int) (p0 : IM u) (p1 : -2147483648 ≤ s ∧ s ≤ 2147483647) (p2 : -2147483648 ≤ p ∧ p ≤ 2147483647) (p3 : -2147483648 ≤ i ∧ i ≤ 2147483647) : Met l yX12_piece (jw yX12_piece cX12_piece 5 (some .int)) (jr 6 131) (jP [.ref o, .int (J s), .int (J p), .int (J i)] D (fun H => va_P D.1 j_cl (mW D o q u) H)) (jWi (fun z u' => ∃ X : Nat → Int, ∃ Y : Nat → Int, ∃ n : Int, ∃ C : Nat → Int64, ∃ m : Int, u' = (uV (uL (uV (uI (uI u 10 X) 11 Y) 12 n) 29 C) 30 m) ∧ (IM u' ∧ pcM u s p i z)) (fun u' H => va_P D.1 j_cl (mW D o q u') H) A) 0 0 A := by
  refine Met.ofW (cc := cX12_piece) (maxL := 5) (ret := (some .int)) (by decide) rfl ?_
  intro pr en st mi args below meth co s₁ B hml hv
  obtain ⟨rfl, hG, hP⟩ := hv
  have hr := B.returns
  have hlk := B.notSynchronized
  have SS : jS pr mi co cX12_piece 5 st _ RX12 := ⟨B.exec, B.bytes, hml, findClass_of_methodNamed B.named, fun w hw => atoms_spec (ws := (jw yX12_piece cX12_piece 5 (some .int))) B.pre w (List.mem_cons_of_mem _ hw)⟩
  have hl := lv_entry ([.ref o, .int (J s), .int (J p), .int (J i)]) (n := 5) (Nat.le_of_ble_eq_true rfl)
  rw [lg_entry_eq]
  generalize (lg_sl ([.ref o, .int (J s), .int (J p), .int (J i)]) ++ List.replicate (5 - (lg_sl ([.ref o, .int (J s), .int (J p), .int (J i)])).length) Slot.unset).toArray = ls at hl ⊢
  have hl : lv_has ls 5 [(0, .ref o), (1, .int (J s)), (2, .int (J p)), (3, .int (J i))] := hl
  have hS : va_S A st.heap st.heap [] := va_S.rf
  refine lv_iload_n SS.1 SS.2.1 dX12_piece_0 rfl (lv_at hl 1 rfl) ?_
  refine j_sRi SS (As := [.int (J s)]) (rest := []) (c_X12_isShape l D s (show -2147483648 ≤ s ∧ s ≤ 2147483647 from (by omega))) mf_X12_isShape kw_1156 hG trivial rfl hl.1 ⟨⟨Nat.le_of_ble_eq_true rfl, Nat.le_of_ble_eq_true rfl⟩, Nat.le_of_ble_eq_true rfl, Nat.le_refl _, Nat.le_refl _⟩ rfl dX12_piece_1 (fun z_1 h_1 => ?_)
  have h_1 : (z_1 = 1 ∧ (0 ≤ s ∧ s ≤ 7)) ∨ (z_1 = 0 ∧ ¬ (0 ≤ s ∧ s ≤ 7)) := h_1
  refine j_if_eq SS (tgt := 16) (x := z_1) dX12_piece_4 (by decide) (by omega) (fun c_4 => ?_) (fun c_4 => ?_)
  · skip
    refine j_iconst SS dX12_piece_16 ?_
    exact W.iret SS.1 SS.2.1 hr (fun t ht hW => ⟨⟨_, (uV (uL (uV (uI (uI u 10 (u.1 10)) 11 (u.1 11)) 12 (u.2.2 12)) 29 (u.2.1 29)) 30 (u.2.2 30)), rfl, ⟨(-1), rfl, (⟨(u.1 10), (u.1 11), (u.2.2 12), (u.2.1 29), (u.2.2 30), rfl, ⟨p0, Or.inl ⟨fun q => by omega, rfl⟩⟩⟩)⟩, by show va_P D.1 j_cl (mW D o q (uV (uL (uV (uI (uI u 10 (u.1 10)) 11 (u.1 11)) 12 (u.2.2 12)) 29 (u.2.1 29)) 30 (u.2.2 30))) t.heap; rw [ht]; exact hP⟩, hS.F ht⟩) hS.2.2 dX12_piece_17 hlk
  · skip
    refine lv_iload_n SS.1 SS.2.1 dX12_piece_7 rfl (lv_at hl 2 rfl) ?_
    refine j_if_lt SS (tgt := 16) (x := p) dX12_piece_8 (by decide) (by omega) (fun c_8 => ?_) (fun c_8 => ?_)
    · skip
      refine j_iconst SS dX12_piece_16 ?_
      exact W.iret SS.1 SS.2.1 hr (fun t ht hW => ⟨⟨_, (uV (uL (uV (uI (uI u 10 (u.1 10)) 11 (u.1 11)) 12 (u.2.2 12)) 29 (u.2.1 29)) 30 (u.2.2 30)), rfl, ⟨(-1), rfl, (⟨(u.1 10), (u.1 11), (u.2.2 12), (u.2.1 29), (u.2.2 30), rfl, ⟨p0, Or.inl ⟨fun q => by omega, rfl⟩⟩⟩)⟩, by show va_P D.1 j_cl (mW D o q (uV (uL (uV (uI (uI u 10 (u.1 10)) 11 (u.1 11)) 12 (u.2.2 12)) 29 (u.2.1 29)) 30 (u.2.2 30))) t.heap; rw [ht]; exact hP⟩, hS.F ht⟩) hS.2.2 dX12_piece_17 hlk
    · skip
      refine lv_iload_n SS.1 SS.2.1 dX12_piece_11 rfl (lv_at hl 3 rfl) ?_
      refine j_iconst SS dX12_piece_12 ?_
      refine j_icmp_ge SS (tgt := 18) (x := i) (y := (-1)) dX12_piece_13 (by decide) (by omega) (by decide) (fun c_13 => ?_) (fun c_13 => ?_)
      · skip
        refine lv_aload_n SS.1 SS.2.1 dX12_piece_18 rfl (lv_at hl 0 rfl) ?_
        refine lv_iload_n SS.1 SS.2.1 dX12_piece_19 rfl (lv_at hl 1 rfl) ?_
        refine j_vRi SS (As := [.int (J s)]) (rest := []) (c_X12_isLifted l D o q u s (show 0 ≤ s ∧ s ≤ 7 from (by omega)) (show Sh u s from (p0.1 _ (by omega) (by omega)))) mf_X12_isLifted kw_1471 hG hP hP (ci := 8) (q0 := 0) rfl rfl rfl rfl hl.1 ⟨⟨Nat.le_of_ble_eq_true rfl, Nat.le_of_ble_eq_true rfl⟩, Nat.le_of_ble_eq_true rfl, Nat.le_refl _, Nat.le_refl _⟩ rfl dX12_piece_20 (fun z_20 h_20 => ?_)
        have h_20 : (z_20 = 1 ∧ 2 < mN u s ∧ mEd u s + mIn u s ≤ 40) ∨ (z_20 = 0 ∧ ¬ (2 < mN u s ∧ mEd u s + mIn u s ≤ 40)) := h_20
        refine j_if_ne SS (tgt := 29) (x := z_20) dX12_piece_23 (by decide) (by omega) (fun c_23 => ?_) (fun c_23 => ?_)
        · skip
          refine lv_aload_n SS.1 SS.2.1 dX12_piece_29 rfl (lv_at hl 0 rfl) ?_
          refine lv_iload_n SS.1 SS.2.1 dX12_piece_30 rfl (lv_at hl 1 rfl) ?_
          refine j_vWv SS (As := [.int (J s)]) (rest := []) (c_X12_findPieces3 l D o q u A (mW_D hD) s (show IM u from (p0)) (show 0 ≤ s ∧ s ≤ 7 from (by omega)) (show 2 < mN u s from (by omega)) (show mEd u s + mIn u s ≤ 40 from (by omega))) mf_X12_findPieces kw_1479 hG hP hP (ci := 8) (q0 := 0) rfl rfl rfl hS (fun _ h => h) rfl hl.1 ⟨⟨Nat.le_of_ble_eq_true rfl, Nat.le_of_ble_eq_true rfl⟩, Nat.le_of_ble_eq_true rfl, Nat.le_refl _, Nat.le_refl _⟩ rfl dX12_piece_31 (fun u31 H locs h_31 hP _ hS => ?_)
          obtain ⟨X_31, Y_31, n_31, C_31, m_31, rfl, h_31⟩ := h_31
          have hP : va_P D.1 j_cl (mW D o q (uV (uL (uV (uI (uI u 10 X_31) 11 Y_31) 12 n_31) 29 C_31) 30 m_31)) H := hP
          have h_31 : ((0 ≤ m_31 ∧ m_31 ≤ 80) ∧ IM (uV (uL (uV (uI (uI u 10 X_31) 11 Y_31) 12 n_31) 29 C_31) 30 m_31)) ∧ ((0 ≤ n_31 ∧ n_31 ≤ 40) ∧ OL (PBx u s) n_31 X_31 Y_31) ∧ PL9 PB X_31 Y_31 (h9 ((u.1 3)) s) n_31.toNat m_31 C_31 ∧ DN9 X_31 Y_31 ((u.1 3)) s n_31 C_31 m_31 (fun i j k => i < n_31) := h_31
          obtain ⟨⟨hm, hI⟩, ⟨hn40, hOL⟩, hPL, hDN⟩ := h_31
          obtain ⟨F, hF1, hF2⟩ := PL_F (PB_en (by omega)) hPL (fun f hf => DN_gs hDN (fun i9 j9 k9 a1 a2 a3 a4 => by show i9 < n_31; omega) f hf)
          refine lv_iload_n SS.1 SS.2.1 dX12_piece_34 rfl (lv_at hl 2 rfl) ?_
          refine lv_aload_n SS.1 SS.2.1 dX12_piece_35 rfl (lv_at hl 0 rfl) ?_
          refine j_get SS hG hP 0 (v := .int (J m_31)) (C := RX12) (T := TX12) (N := 31) rfl rfl inX12 30 (by decide) (ref := RX12) kw_1088 rfl rfl dX12_piece_36 ?_
          refine j_icmp_lt SS (tgt := 44) (x := p) (y := m_31) dX12_piece_39 (by decide) (by omega) (by omega) (fun c_39 => ?_) (fun c_39 => ?_)
          · skip
            refine lv_iload_n SS.1 SS.2.1 dX12_piece_44 rfl (lv_at hl 3 rfl) ?_
            refine j_if_ge SS (tgt := 53) (x := i) dX12_piece_45 (by decide) (by omega) (fun c_45 => ?_) (fun c_45 => ?_)
            · skip
              refine lv_aload_n SS.1 SS.2.1 dX12_piece_53 rfl (lv_at hl 0 rfl) ?_
              refine j_get SS hG hP 0 (v := .ref (q 29)) (C := RX12) (T := TX12) (N := 31) rfl rfl inX12 29 (by decide) (ref := RX12) kw_1087 rfl rfl dX12_piece_54 ?_
              refine lv_iload_n SS.1 SS.2.1 dX12_piece_57 rfl (lv_at hl 2 rfl) ?_
              refine j_lald SS hG hP 23 (n := 100) (f := C_31) rfl (z := p) (by omega) (by omega) dX12_piece_58 ?_
              refine lv_iload_n SS.1 SS.2.1 dX12_piece_59 rfl (lv_at hl 3 rfl) ?_
              refine j_sRi SS (As := [.long (C_31 (p).toNat), .int (J i)]) (rest := []) (c_X12_bitAt3 l D (C_31 (p).toNat) i (show -2147483648 ≤ i ∧ i ≤ 2147483647 from (by omega))) mf_X12_bitAt kw_1493 hG trivial rfl hl.1 ⟨⟨Nat.le_of_ble_eq_true rfl, Nat.le_of_ble_eq_true rfl⟩, Nat.le_of_ble_eq_true rfl, Nat.le_refl _, Nat.le_refl _⟩ rfl dX12_piece_60 (fun z_60 h_60 => ?_)
              have h_60 : (z_60 = -9 ∧ (0 ≤ i → ct9 (gb (C_31 (p).toNat)) 40 ≤ i)) ∨ ((0 ≤ z_60 ∧ z_60 < 40) ∧ gb (C_31 (p).toNat) z_60.toNat = true ∧ ct9 (gb (C_31 (p).toNat)) z_60.toNat = i) := h_60
              have g60 := at_PB (i := i) (by omega) (hF2 p.toNat (by omega)) (by omega) h_60
              refine lv_istore (lv' := [(4, .int (J z_60)), (0, .ref o), (1, .int (J s)), (2, .int (J p)), (3, .int (J i))]) SS.1 SS.2.1 dX12_piece_63 hl (by decide) rfl (fun ls hl => ?_)
              refine lv_iload_n SS.1 SS.2.1 dX12_piece_65 rfl (lv_at hl 4 rfl) ?_
              refine j_if_ge SS (tgt := 81) (x := i) dX12_piece_66 (by decide) (by omega) (fun c_66 => ?_) (fun c_66 => ?_)
              · skip
                refine lv_iload SS.1 SS.2.1 dX12_piece_81 (lv_at hl 0 rfl) ?_
                refine j_bipush SS dX12_piece_83 (by decide +kernel) ?_
                refine j_icmp_ne SS (tgt := 92) (x := z_60) (y := (-9)) dX12_piece_85 (by decide) (by omega) (by decide) (fun c_85 => ?_) (fun c_85 => ?_)
                · skip
                  refine lv_iload SS.1 SS.2.1 dX12_piece_92 (lv_at hl 0 rfl) ?_
                  exact W.iret SS.1 SS.2.1 hr (fun t ht hW => ⟨⟨_, (uV (uL (uV (uI (uI u 10 X_31) 11 Y_31) 12 n_31) 29 C_31) 30 m_31), rfl, ⟨z_60, rfl, (⟨X_31, Y_31, n_31, C_31, m_31, rfl, by first | exact ⟨hI, Or.inr ⟨by omega, Or.inr ⟨by unfold lfM; omega, n_31, X_31, Y_31, m_31, F, ⟨hn40, hOL, hF1⟩, Or.inr ⟨by omega, Or.inl ⟨by omega, hc75⟩⟩⟩⟩⟩ | exact ⟨hI, Or.inr ⟨by omega, Or.inr ⟨by unfold lfM; omega, n_31, X_31, Y_31, m_31, F, ⟨hn40, hOL, hF1⟩, Or.inr ⟨by omega, Or.inr ⟨by omega, by omega⟩⟩⟩⟩⟩⟩)⟩, by show va_P D.1 j_cl (mW D o q (uV (uL (uV (uI (uI u 10 X_31) 11 Y_31) 12 n_31) 29 C_31) 30 m_31)) t.heap; rw [ht]; exact hP⟩, hS.F ht⟩) hS.2.2 dX12_piece_94 hlk
                · skip
                  refine j_iconst SS dX12_piece_88 ?_
                  refine lv_goto (tgt := 94) SS.1 SS.2.1 dX12_piece_89 (by decide) ?_
                  exact W.iret SS.1 SS.2.1 hr (fun t ht hW => ⟨⟨_, (uV (uL (uV (uI (uI u 10 X_31) 11 Y_31) 12 n_31) 29 C_31) 30 m_31), rfl, ⟨(-1), rfl, (⟨X_31, Y_31, n_31, C_31, m_31, rfl, by first | exact ⟨hI, Or.inr ⟨by omega, Or.inr ⟨by unfold lfM; omega, n_31, X_31, Y_31, m_31, F, ⟨hn40, hOL, hF1⟩, Or.inr ⟨by omega, Or.inl ⟨by omega, hc75⟩⟩⟩⟩⟩ | exact ⟨hI, Or.inr ⟨by omega, Or.inr ⟨by unfold lfM; omega, n_31, X_31, Y_31, m_31, F, ⟨hn40, hOL, hF1⟩, Or.inr ⟨by omega, Or.inr ⟨by omega, by omega⟩⟩⟩⟩⟩⟩)⟩, by show va_P D.1 j_cl (mW D o q (uV (uL (uV (uI (uI u 10 X_31) 11 Y_31) 12 n_31) 29 C_31) 30 m_31)) t.heap; rw [ht]; exact hP⟩, hS.F ht⟩) hS.2.2 dX12_piece_94 hlk
              · skip
                refine lv_aload_n SS.1 SS.2.1 dX12_piece_69 rfl (lv_at hl 1 rfl) ?_
                refine j_get SS hG hP 0 (v := .ref (q 29)) (C := RX12) (T := TX12) (N := 31) rfl rfl inX12 29 (by decide) (ref := RX12) kw_1087 rfl rfl dX12_piece_70 ?_
                refine lv_iload_n SS.1 SS.2.1 dX12_piece_73 rfl (lv_at hl 3 rfl) ?_
                refine j_lald SS hG hP 23 (n := 100) (f := C_31) rfl (z := p) (by omega) (by omega) dX12_piece_74 ?_
                refine j_sRi SS (As := [.long (C_31 (p).toNat)]) (rest := []) (c_X12_bitsIn l D (C_31 (p).toNat) ) mf_X12_bitsIn kw_1490 hG trivial rfl hl.1 ⟨⟨Nat.le_of_ble_eq_true rfl, Nat.le_of_ble_eq_true rfl⟩, Nat.le_of_ble_eq_true rfl, Nat.le_refl _, Nat.le_refl _⟩ rfl dX12_piece_75 (fun z_75 h_75 => ?_)
                have h_75 : z_75 = smI (bvI (C_31 (p).toNat)) 40 ∧ 0 ≤ z_75 ∧ z_75 ≤ 40 := h_75
                have hc75 : z_75 = ct9 (F p.toNat) n_31.toNat := by rw [h_75.1, bI_40, hF2 p.toNat (by omega), ct_PB (by omega)]
                refine lv_goto (tgt := 94) SS.1 SS.2.1 dX12_piece_78 (by decide) ?_
                exact W.iret SS.1 SS.2.1 hr (fun t ht hW => ⟨⟨_, (uV (uL (uV (uI (uI u 10 X_31) 11 Y_31) 12 n_31) 29 C_31) 30 m_31), rfl, ⟨z_75, rfl, (⟨X_31, Y_31, n_31, C_31, m_31, rfl, by first | exact ⟨hI, Or.inr ⟨by omega, Or.inr ⟨by unfold lfM; omega, n_31, X_31, Y_31, m_31, F, ⟨hn40, hOL, hF1⟩, Or.inr ⟨by omega, Or.inl ⟨by omega, hc75⟩⟩⟩⟩⟩ | exact ⟨hI, Or.inr ⟨by omega, Or.inr ⟨by unfold lfM; omega, n_31, X_31, Y_31, m_31, F, ⟨hn40, hOL, hF1⟩, Or.inr ⟨by omega, Or.inr ⟨by omega, by omega⟩⟩⟩⟩⟩⟩)⟩, by show va_P D.1 j_cl (mW D o q (uV (uL (uV (uI (uI u 10 X_31) 11 Y_31) 12 n_31) 29 C_31) 30 m_31)) t.heap; rw [ht]; exact hP⟩, hS.F ht⟩) hS.2.2 dX12_piece_94 hlk
            · skip
              refine j_bipush SS dX12_piece_48 (by decide +kernel) ?_
              refine lv_goto (tgt := 63) SS.1 SS.2.1 dX12_piece_50 (by decide) ?_
              refine lv_istore (lv' := [(4, .int (J (-9))), (0, .ref o), (1, .int (J s)), (2, .int (J p)), (3, .int (J i))]) SS.1 SS.2.1 dX12_piece_63 hl (by decide) rfl (fun ls hl => ?_)
              refine lv_iload_n SS.1 SS.2.1 dX12_piece_65 rfl (lv_at hl 4 rfl) ?_
              refine j_if_ge SS (tgt := 81) (x := i) dX12_piece_66 (by decide) (by omega) (fun c_66 => ?_) (fun c_66 => ?_)
              · skip
                refine lv_iload SS.1 SS.2.1 dX12_piece_81 (lv_at hl 0 rfl) ?_
                refine j_bipush SS dX12_piece_83 (by decide +kernel) ?_
                refine j_icmp_ne SS (tgt := 92) (x := (-9)) (y := (-9)) dX12_piece_85 (by decide) (by decide) (by decide) (fun c_85 => ?_) (fun c_85 => ?_)
                · skip
                  refine lv_iload SS.1 SS.2.1 dX12_piece_92 (lv_at hl 0 rfl) ?_
                  exact W.iret SS.1 SS.2.1 hr (fun t ht hW => ⟨⟨_, (uV (uL (uV (uI (uI u 10 X_31) 11 Y_31) 12 n_31) 29 C_31) 30 m_31), rfl, ⟨(-9), rfl, (⟨X_31, Y_31, n_31, C_31, m_31, rfl, by first | exact ⟨hI, Or.inr ⟨by omega, Or.inr ⟨by unfold lfM; omega, n_31, X_31, Y_31, m_31, F, ⟨hn40, hOL, hF1⟩, Or.inr ⟨by omega, Or.inl ⟨by omega, hc75⟩⟩⟩⟩⟩ | exact ⟨hI, Or.inr ⟨by omega, Or.inr ⟨by unfold lfM; omega, n_31, X_31, Y_31, m_31, F, ⟨hn40, hOL, hF1⟩, Or.inr ⟨by omega, Or.inr ⟨by omega, by omega⟩⟩⟩⟩⟩⟩)⟩, by show va_P D.1 j_cl (mW D o q (uV (uL (uV (uI (uI u 10 X_31) 11 Y_31) 12 n_31) 29 C_31) 30 m_31)) t.heap; rw [ht]; exact hP⟩, hS.F ht⟩) hS.2.2 dX12_piece_94 hlk
                · skip
                  refine j_iconst SS dX12_piece_88 ?_
                  refine lv_goto (tgt := 94) SS.1 SS.2.1 dX12_piece_89 (by decide) ?_
                  exact W.iret SS.1 SS.2.1 hr (fun t ht hW => ⟨⟨_, (uV (uL (uV (uI (uI u 10 X_31) 11 Y_31) 12 n_31) 29 C_31) 30 m_31), rfl, ⟨(-1), rfl, (⟨X_31, Y_31, n_31, C_31, m_31, rfl, by first | exact ⟨hI, Or.inr ⟨by omega, Or.inr ⟨by unfold lfM; omega, n_31, X_31, Y_31, m_31, F, ⟨hn40, hOL, hF1⟩, Or.inr ⟨by omega, Or.inl ⟨by omega, hc75⟩⟩⟩⟩⟩ | exact ⟨hI, Or.inr ⟨by omega, Or.inr ⟨by unfold lfM; omega, n_31, X_31, Y_31, m_31, F, ⟨hn40, hOL, hF1⟩, Or.inr ⟨by omega, Or.inr ⟨by omega, by omega⟩⟩⟩⟩⟩⟩)⟩, by show va_P D.1 j_cl (mW D o q (uV (uL (uV (uI (uI u 10 X_31) 11 Y_31) 12 n_31) 29 C_31) 30 m_31)) t.heap; rw [ht]; exact hP⟩, hS.F ht⟩) hS.2.2 dX12_piece_94 hlk
              · skip
                refine lv_aload_n SS.1 SS.2.1 dX12_piece_69 rfl (lv_at hl 1 rfl) ?_
                refine j_get SS hG hP 0 (v := .ref (q 29)) (C := RX12) (T := TX12) (N := 31) rfl rfl inX12 29 (by decide) (ref := RX12) kw_1087 rfl rfl dX12_piece_70 ?_
                refine lv_iload_n SS.1 SS.2.1 dX12_piece_73 rfl (lv_at hl 3 rfl) ?_
                refine j_lald SS hG hP 23 (n := 100) (f := C_31) rfl (z := p) (by omega) (by omega) dX12_piece_74 ?_
                refine j_sRi SS (As := [.long (C_31 (p).toNat)]) (rest := []) (c_X12_bitsIn l D (C_31 (p).toNat) ) mf_X12_bitsIn kw_1490 hG trivial rfl hl.1 ⟨⟨Nat.le_of_ble_eq_true rfl, Nat.le_of_ble_eq_true rfl⟩, Nat.le_of_ble_eq_true rfl, Nat.le_refl _, Nat.le_refl _⟩ rfl dX12_piece_75 (fun z_75 h_75 => ?_)
                have h_75 : z_75 = smI (bvI (C_31 (p).toNat)) 40 ∧ 0 ≤ z_75 ∧ z_75 ≤ 40 := h_75
                have hc75 : z_75 = ct9 (F p.toNat) n_31.toNat := by rw [h_75.1, bI_40, hF2 p.toNat (by omega), ct_PB (by omega)]
                refine lv_goto (tgt := 94) SS.1 SS.2.1 dX12_piece_78 (by decide) ?_
                exact W.iret SS.1 SS.2.1 hr (fun t ht hW => ⟨⟨_, (uV (uL (uV (uI (uI u 10 X_31) 11 Y_31) 12 n_31) 29 C_31) 30 m_31), rfl, ⟨z_75, rfl, (⟨X_31, Y_31, n_31, C_31, m_31, rfl, by first | exact ⟨hI, Or.inr ⟨by omega, Or.inr ⟨by unfold lfM; omega, n_31, X_31, Y_31, m_31, F, ⟨hn40, hOL, hF1⟩, Or.inr ⟨by omega, Or.inl ⟨by omega, hc75⟩⟩⟩⟩⟩ | exact ⟨hI, Or.inr ⟨by omega, Or.inr ⟨by unfold lfM; omega, n_31, X_31, Y_31, m_31, F, ⟨hn40, hOL, hF1⟩, Or.inr ⟨by omega, Or.inr ⟨by omega, by omega⟩⟩⟩⟩⟩⟩)⟩, by show va_P D.1 j_cl (mW D o q (uV (uL (uV (uI (uI u 10 X_31) 11 Y_31) 12 n_31) 29 C_31) 30 m_31)) t.heap; rw [ht]; exact hP⟩, hS.F ht⟩) hS.2.2 dX12_piece_94 hlk
          · skip
            refine j_iconst SS dX12_piece_42 ?_
            exact W.iret SS.1 SS.2.1 hr (fun t ht hW => ⟨⟨_, (uV (uL (uV (uI (uI u 10 X_31) 11 Y_31) 12 n_31) 29 C_31) 30 m_31), rfl, ⟨(-1), rfl, (⟨X_31, Y_31, n_31, C_31, m_31, rfl, ⟨hI, Or.inr ⟨by omega, Or.inr ⟨by unfold lfM; omega, n_31, X_31, Y_31, m_31, F, ⟨hn40, hOL, hF1⟩, Or.inl ⟨by omega, rfl⟩⟩⟩⟩⟩)⟩, by show va_P D.1 j_cl (mW D o q (uV (uL (uV (uI (uI u 10 X_31) 11 Y_31) 12 n_31) 29 C_31) 30 m_31)) t.heap; rw [ht]; exact hP⟩, hS.F ht⟩) hS.2.2 dX12_piece_43 hlk
        · skip
          refine j_bipush SS dX12_piece_26 (by decide +kernel) ?_
          exact W.iret SS.1 SS.2.1 hr (fun t ht hW => ⟨⟨_, (uV (uL (uV (uI (uI u 10 (u.1 10)) 11 (u.1 11)) 12 (u.2.2 12)) 29 (u.2.1 29)) 30 (u.2.2 30)), rfl, ⟨(-2), rfl, (⟨(u.1 10), (u.1 11), (u.2.2 12), (u.2.1 29), (u.2.2 30), rfl, ⟨p0, Or.inr ⟨by omega, Or.inl ⟨fun q => by unfold lfM at q; omega, rfl⟩⟩⟩⟩)⟩, by show va_P D.1 j_cl (mW D o q (uV (uL (uV (uI (uI u 10 (u.1 10)) 11 (u.1 11)) 12 (u.2.2 12)) 29 (u.2.1 29)) 30 (u.2.2 30))) t.heap; rw [ht]; exact hP⟩, hS.F ht⟩) hS.2.2 dX12_piece_28 hlk
      · skip
        refine j_iconst SS dX12_piece_16 ?_
        exact W.iret SS.1 SS.2.1 hr (fun t ht hW => ⟨⟨_, (uV (uL (uV (uI (uI u 10 (u.1 10)) 11 (u.1 11)) 12 (u.2.2 12)) 29 (u.2.1 29)) 30 (u.2.2 30)), rfl, ⟨(-1), rfl, (⟨(u.1 10), (u.1 11), (u.2.2 12), (u.2.1 29), (u.2.2 30), rfl, ⟨p0, Or.inl ⟨fun q => by omega, rfl⟩⟩⟩)⟩, by show va_P D.1 j_cl (mW D o q (uV (uL (uV (uI (uI u 10 (u.1 10)) 11 (u.1 11)) 12 (u.2.2 12)) 29 (u.2.1 29)) 30 (u.2.2 30))) t.heap; rw [ht]; exact hP⟩, hS.F ht⟩) hS.2.2 dX12_piece_17 hlk


/-! ===== pieces, as the class finds them ===== -/
theorem rx_10 {u : CS} {i : Int} (h : 0 ≤ i ∧ i < 40) : rx u 10 i = u.1.1 10 i.toNat := if_pos (by rw [show (rl 10 : Int) = 40 from rfl]; exact h)
theorem ry_10 {u : CS} {i : Int} (h : 0 ≤ i ∧ i < 40) : ry9 u 10 i = u.1.2.1 10 i.toNat := if_pos (by rw [show (rl 10 : Int) = 40 from rfl]; exact h)
/-- the lowest point left of an edge, of the first k -/
def LO9 (X Y t : Nat → Int) (a b : Nat) (k lo : Int) : Prop := (lo = -1 ∧ ∀ p : Nat, (p : Int) < k → ¬ 0 < tn X Y a b p) ∨ (0 ≤ lo ∧ LL9 X Y t k.toNat a b lo.toNat)
theorem LO_n {X Y t : Nat → Int} {a b : Nat} {k lo : Int} (hk : 0 ≤ k) (h : LO9 X Y t a b k lo) (g : ¬ 0 < tn X Y a b k.toNat) : LO9 X Y t a b (k + 1) lo := by
  rcases h with ⟨h1, h2⟩ | ⟨h1, h2, h3, h4⟩
  · refine Or.inl ⟨h1, fun p hp => ?_⟩
    by_cases e : (p : Int) = k
    · rw [show p = k.toNat by omega]; exact g
    · exact h2 p (by omega)
  · refine Or.inr ⟨h1, by omega, h3, fun p hp q => ?_⟩
    by_cases e : p = k.toNat
    · rw [e] at q; exact absurd q g
    · exact h4 p (by omega) q
theorem LO_k {X Y t : Nat → Int} {a b : Nat} {k lo : Int} (hk : 0 ≤ k) (h : LO9 X Y t a b k lo) (h0 : 0 ≤ lo) (g : 0 ≤ ab9 X Y t a b lo.toNat k.toNat) : LO9 X Y t a b (k + 1) lo := by
  rcases h with ⟨h1, h2⟩ | ⟨h1, h2, h3, h4⟩
  · omega
  · refine Or.inr ⟨h1, by omega, h3, fun p hp q => ?_⟩
    by_cases e : p = k.toNat
    · rw [e]; exact g
    · exact h4 p (by omega) q
theorem ab_3 {X Y t : Nat → Int} {a b l m q : Nat} : tn X Y a b m * ab9 X Y t a b l q = tn X Y a b l * ab9 X Y t a b m q + tn X Y a b q * ab9 X Y t a b l m := by
  unfold ab9 tn
  grind
theorem LO_w {X Y t : Nat → Int} {a b : Nat} {k lo : Int} (hk : 0 ≤ k) (h : LO9 X Y t a b k lo) (g : 0 < tn X Y a b k.toNat) (g2 : lo < 0 ∨ ab9 X Y t a b lo.toNat k.toNat < 0) : LO9 X Y t a b (k + 1) k := by
  refine Or.inr ⟨hk, by omega, g, fun p hp q => ?_⟩
  by_cases e : p = k.toNat
  · rw [e, ab_k]; omega
  · rcases h with ⟨h1, h2⟩ | ⟨h1, h2, h3, h4⟩
    · exact absurd q (h2 p (by omega))
    · have w := h4 p (by omega) q
      have n : ab9 X Y t a b lo.toNat k.toNat < 0 := by omega
      have e3 := @ab_3 X Y t a b lo.toNat k.toNat p
      have m1 := Int.mul_nonneg (show 0 ≤ tn X Y a b k.toNat by omega) w
      have m2 := Int.mul_nonneg (show 0 ≤ tn X Y a b p by omega) (show 0 ≤ - ab9 X Y t a b lo.toNat k.toNat by omega)
      rw [Int.mul_neg] at m2
      exact le_m h3 (by rw [Int.sub_zero, Int.mul_comm]; omega)
/-- one bit more -/
theorem PRp {F : Nat → Int} {m : Int} {x : Int64} (hm : 0 ≤ m) (h : x = PR9 (fun q => decide (F q = 0)) m.toNat) : (F m.toNat = 0 → x ||| ((1 : Int64) <<< ((J (62 - m)).toInt64 &&& 63)) = PR9 (fun q => decide (F q = 0)) (m + 1).toNat) ∧ (F m.toNat ≠ 0 → x = PR9 (fun q => decide (F q = 0)) (m + 1).toNat) := by
  have e : ((m.toNat : Nat) : Int) = m := Int.toNat_of_nonneg hm
  rw [show (m + 1).toNat = m.toNat + 1 by omega]
  constructor
  · intro hz
    show _ = PR9 _ m.toNat ||| (if decide (F m.toNat = 0) = true then (1 : Int64) <<< ((J (62 - ((m.toNat : Nat) : Int))).toInt64 &&& 63) else 0)
    rw [e, ← h, if_pos (decide_eq_true hz)]
  · intro hz
    show _ = PR9 _ m.toNat ||| (if decide (F m.toNat = 0) = true then (1 : Int64) <<< ((J (62 - ((m.toNat : Nat) : Int))).toInt64 &&& 63) else 0)
    rw [← h, if_neg (fun q => hz (of_decide_eq_true q)), Int64.or_zero]
theorem PR_nz {f : Nat → Bool} {n a : Nat} (hn : n ≤ 62) (ha : a < n) (hf : f a = true) : PR9 f n ≠ 0 := by
  rw [gb_nz]
  refine ⟨62 - a, by omega, ?_⟩
  rw [gb_PR n hn, show 62 - (62 - a) = a by omega, hf, decide_eq_true (show 62 - a ≤ 62 ∧ a < n from ⟨by omega, ha⟩)]
  rfl
theorem CO_i {X Y t : Nat → Int} {n : Nat} {x y : Int64} (hn : n ≤ 62) (hx : gE9 PR9 X Y t n x) (hy : gE9 PR9 X Y t n y) : y < x ↔ lE9 PR9 n x y := by
  have f1 : ∀ a b : Int64, lE9 PR9 n a b → b < a := fun a b ⟨f, g, h1, h2, h3⟩ => by rw [h2, h3]; exact PR_lt hn h1
  constructor
  · intro h
    by_cases e : x = y
    · rw [e] at h; exact absurd h (Int64.lt_irrefl)
    · rcases lE_or (PR_en hn) hx hy e with w | w
      · exact w
      · exact absurd (Int64.lt_trans h (f1 _ _ w)) Int64.lt_irrefl
  · exact f1 x y
theorem PL_ch {enc : (Nat → Bool) → Nat → Int64} {X Y t : Nat → Int} {n : Nat} {m : Int} {Bb : Nat → Int64} (h : PL9 enc X Y t n m Bb) : ∃ F : Nat → Nat → Bool, ∀ q : Nat, (q : Int) < m → gs9 X Y t n (F q) ∧ Bb q = enc (F q) n := by
  have ch : ∀ q : Nat, ∃ f : Nat → Bool, (q : Int) < m → gs9 X Y t n f ∧ Bb q = enc f n := fun q => by
    by_cases e : (q : Int) < m
    · obtain ⟨f, f1, f2⟩ := h.2.1 q e
      exact ⟨f, fun _ => ⟨f1, f2⟩⟩
    · exact ⟨fun _ => false, fun w => absurd w e⟩
  exact ⟨fun q => Classical.choose (ch q), fun q => Classical.choose_spec (ch q)⟩
theorem h9_0 {t : Nat → Int} : h9 t 0 = t := by
  funext p
  show t (40 * 0 + (p : Int)).toNat = t p
  congr 1
  omega
/-- no more than 80 pieces -/
theorem CL_80 {X Y t : Nat → Int} {n m : Int} {S : Nat → Int64} {x : Int64} (hn : n ≤ 40) (hs : os_s X Y n) (h : PL9 PR9 X Y t n.toNat m S) (hx : gE9 PR9 X Y t n.toNat x) (hne : ∀ q : Nat, (q : Int) < m → S q ≠ x) : m + 1 ≤ 80 := by
  obtain ⟨F, hF⟩ := PL_ch h
  obtain ⟨f, f1, f2⟩ := hx
  have h0 := h.1
  have key : pz X Y t 0 n (fun q => if (q : Int) = m then PB f n.toNat else PB (F q) n.toNat) (m + 1) := by
    refine ⟨by omega, fun q hq => ?_, fun q r hqr hr e => ?_⟩
    · show gd X Y t 0 n (if (q : Int) = m then PB f n.toNat else PB (F q) n.toNat)
      by_cases w : (q : Int) = m
      · rw [if_pos w]; exact gs_pt (by rw [h9_0]; exact f1)
      · rw [if_neg w]; exact gs_pt (by rw [h9_0]; exact (hF q (by omega)).1)
    · have hq : ¬ (q : Int) = m := by omega
      have e2 : PB (F q) n.toNat = (if (r : Int) = m then PB f n.toNat else PB (F r) n.toNat) := by
        have e1 : (if (q : Int) = m then PB f n.toNat else PB (F q) n.toNat) = (if (r : Int) = m then PB f n.toNat else PB (F r) n.toNat) := e
        rw [if_neg hq] at e1; exact e1
      by_cases w : (r : Int) = m
      · rw [if_pos w] at e2
        refine hne q (by omega) ?_
        rw [(hF q (by omega)).2, f2]
        exact PR_c ((PB_en (by omega)).1 _ _ e2)
      · rw [if_neg w] at e2
        have e3 : S q = S r := by
          rw [(hF q (by omega)).2, (hF r (by omega)).2]
          exact PR_c ((PB_en (by omega)).1 _ _ e2)
        have l := h.2.2 q r hqr (by omega)
        rw [e3] at l
        exact lE_i (PR_en (by omega)) l
  exact pz_80 hn hs key
/-- edges that were looked at -/
def ED9 (X Y t : Nat → Int) (n m : Int) (S : Nat → Int64) (P : Nat → Nat → Prop) : Prop := ∀ a b : Nat, a < b → (b : Int) < n → P a b → (∀ p : Nat, (p : Int) < n → ¬ 0 < tn X Y a b p) ∨ ∃ k : Nat, LL9 X Y t n.toNat a b k ∧ ((∃ p : Nat, (p : Int) < n ∧ ab9 X Y t a b k p < 0) ∨ ∃ q : Nat, (q : Int) < m ∧ S q = PR9 (fun p => decide (ab9 X Y t a b k p = 0)) n.toNat)
def BL9 (X Y t : Nat → Int) (n m : Int) (S : Nat → Int64) (P : Nat → Nat → Prop) : Prop := PL9 PR9 X Y t n.toNat m S ∧ ED9 X Y t n m S P
theorem BL_c {X Y t : Nat → Int} {n m : Int} {S : Nat → Int64} {P Q : Nat → Nat → Prop} (h : BL9 X Y t n m S P) (e : ∀ a b : Nat, a < b → (b : Int) < n → Q a b → P a b) : BL9 X Y t n m S Q := ⟨h.1, fun a b hab hb q => h.2 a b hab hb (e a b hab hb q)⟩
def EN_9 (s s' : Nat → Int64) (m m' : Int) (x : Int64) : Prop := ((x = 0 ∨ 80 ≤ m ∨ ∃ q : Nat, (q : Int) < m ∧ s q = x) ∧ s' = s ∧ m' = m) ∨ ((x ≠ 0 ∧ m < 80 ∧ ∀ q : Nat, (q : Int) < m → s q ≠ x) ∧ m' = m + 1 ∧ ∃ (a : Int) (w : Nat → Int64), (0 ≤ a ∧ a ≤ m) ∧ sh_ s w m a ∧ (∀ q : Nat, a ≤ q → (q : Int) < m → s q < x) ∧ (a = 0 ∨ ¬ w (a - 1).toNat < x) ∧ s' = vp_updL w a.toNat x)
theorem BL_s {X Y t : Nat → Int} {n m m' z : Int} {S S' : Nat → Int64} {P : Nat → Nat → Prop} {a b : Nat} {x : Int64} (hn : n ≤ 40) (hs : os_s X Y n) (h : BL9 X Y t n m S P) (hab : a < b) (hb : (b : Int) < n) (hk : LO9 X Y t a b n z) (hp : (z < 0 → x = 0) ∧ (0 ≤ z → (x = 0 ∧ ∃ p : Nat, (p : Int) < n ∧ ab9 X Y t a b z.toNat p < 0) ∨ ((∀ p : Nat, (p : Int) < n → 0 ≤ ab9 X Y t a b z.toNat p) ∧ x = PR9 (fun p => decide (ab9 X Y t a b z.toNat p = 0)) n.toNat))) (he : EN_9 S S' m m' x) : BL9 X Y t n m' S' (fun a' b' => P a' b' ∨ (a' = a ∧ b' = b)) := by
  have up : ∀ (m2 : Int) (S2 : Nat → Int64), (∀ q : Nat, (q : Int) < m → ∃ q' : Nat, (q' : Int) < m2 ∧ S2 q' = S q) → ((∀ p : Nat, (p : Int) < n → ¬ 0 < tn X Y a b p) ∨ ∃ k : Nat, LL9 X Y t n.toNat a b k ∧ ((∃ p : Nat, (p : Int) < n ∧ ab9 X Y t a b k p < 0) ∨ ∃ q : Nat, (q : Int) < m2 ∧ S2 q = PR9 (fun p => decide (ab9 X Y t a b k p = 0)) n.toNat)) → ED9 X Y t n m2 S2 (fun a' b' => P a' b' ∨ (a' = a ∧ b' = b)) := by
    intro m2 S2 u1 u2 a' b' hab' hb' q
    rcases q with q | ⟨q1, q2⟩
    · rcases h.2 a' b' hab' hb' q with w | ⟨k, k1, w | ⟨r, r1, r2⟩⟩
      · exact Or.inl w
      · exact Or.inr ⟨k, k1, Or.inl w⟩
      · obtain ⟨r', r3, r4⟩ := u1 r r1
        exact Or.inr ⟨k, k1, Or.inr ⟨r', r3, r4.trans r2⟩⟩
    · rw [q1, q2]; exact u2
  have same : ∀ q : Nat, (q : Int) < m → ∃ q' : Nat, (q' : Int) < m ∧ S q' = S q := fun q hq => ⟨q, hq, rfl⟩
  by_cases x0 : x = 0
  · have hS : S' = S ∧ m' = m := by
      rcases he with ⟨_, e1, e2⟩ | ⟨⟨e1, _⟩, _⟩
      · exact ⟨e1, e2⟩
      · exact absurd x0 e1
    rw [hS.1, hS.2]
    refine ⟨h.1, up m S same ?_⟩
    rcases hk with ⟨_, k2⟩ | ⟨k1, k2⟩
    · exact Or.inl k2
    · rcases hp.2 k1 with ⟨_, w⟩ | ⟨_, w⟩
      · exact Or.inr ⟨z.toNat, k2, Or.inl w⟩
      · exact absurd x0 (by rw [w]; exact PR_nz (a := a) (by omega) (by omega) (by rw [ab_i]; rfl))
  · rcases hk with ⟨k1, k2⟩ | ⟨k1, k2⟩
    · exact absurd (hp.1 (by omega)) x0
    · rcases hp.2 k1 with ⟨w, _⟩ | ⟨w1, w2⟩
      · exact absurd w x0
      · have gx : gE9 PR9 X Y t n.toNat x := ⟨fun p => decide (ab9 X Y t a b z.toNat p = 0), ⟨a, b, z.toNat, by omega, by omega, k2.1, k2.2.1, fun p hp => w1 p (by omega), fun _ _ => rfl⟩, w2⟩
        rcases he with ⟨e0, e1, e2⟩ | ⟨⟨e0, e1, e2⟩, e3, at9, w, e4, e5, e6, e7, e8⟩
        · rw [e1, e2]
          have kn : ∃ q : Nat, (q : Int) < m ∧ S q = x := by
            rcases e0 with e0 | e0 | e0
            · exact absurd e0 x0
            · apply Classical.byContradiction
              intro v
              have := CL_80 hn hs h.1 gx (fun q hq e => v ⟨q, hq, e⟩)
              omega
            · exact e0
          obtain ⟨q, q1, q2⟩ := kn
          exact ⟨h.1, up m S same (Or.inr ⟨z.toNat, k2, Or.inr ⟨q, q1, q2.trans w2⟩⟩)⟩
        · have I := PL_in (PR_en (by omega)) h.1 e5 e4.1 e4.2 gx e2 (fun q h1 h2 => (CO_i (by omega) gx (h.1.2.1 q h2)).mp (e6 q h1 h2)) (by
            by_cases a0 : at9 = 0
            · exact Or.inl a0
            · refine Or.inr (fun v => ?_)
              have v2 := (CO_i (by omega) gx (by rw [e5.1 (at9 - 1).toNat (by omega)]; exact h.1.2.1 (at9 - 1).toNat (by omega))).mpr v
              rcases e7 with e7 | e7
              · exact a0 e7
              · exact e7 v2)
          rw [e3, e8]
          obtain ⟨q, q1, q2⟩ := I.2.2
          exact ⟨I.1, up (m + 1) _ I.2.1 (Or.inr ⟨z.toNat, k2, Or.inr ⟨q, q1, q2.trans w2⟩⟩)⟩
/-- what the class holds of a shape's pieces -/
def LC9 (P : Int → Int → Prop) (t : Nat → Int) (n : Int) (X Y : Nat → Int) (m : Int) (S : Nat → Int64) : Prop := (0 ≤ n ∧ n ≤ 40) ∧ OL P n X Y ∧ PL9 PR9 X Y t n.toNat m S ∧ ∀ f : Nat → Bool, gs9 X Y t n.toNat f → ∃ q : Nat, (q : Int) < m ∧ S q = PR9 f n.toNat
theorem BL_f {P : Int → Int → Prop} {X Y t : Nat → Int} {n m : Int} {S : Nat → Int64} {Q : Nat → Nat → Prop} (hn : 0 ≤ n ∧ n ≤ 40) (hO : OL P n X Y) (h : BL9 X Y t n m S Q) (hQ : ∀ a b : Nat, a < b → (b : Int) < n → Q a b) : LC9 P t n X Y m S := by
  refine ⟨hn, hO, h.1, fun f hf => ?_⟩
  obtain ⟨a, b, b1, b2, ⟨c, c1, c2⟩, hall⟩ := ed_2 (by rw [Int.toNat_of_nonneg hn.1]; exact hO.2.1) hf
  rcases h.2 a b b1 (by omega) (hQ a b b1 (by omega)) with w | ⟨k, k1, w⟩
  · exact absurd c2 (w c (by omega))
  · obtain ⟨p1, p2⟩ := hall k k1
    rcases w with ⟨p, q1, q2⟩ | ⟨q, q1, q2⟩
    · have := p1 p (by omega); omega
    · exact ⟨q, q1, q2.trans (PR_c (fun p hp => (p2 p hp).symm))⟩


/-! counting bits of the class' sets -/
theorem dg_0w {n : Nat} : dg 1 n (fun _ => 0) = 0 := by
  induction n with
  | zero => rfl
  | succ n ih => show 0 + 1 * dg 1 n (fun _ => 0) = 0; rw [ih]
theorem dg_1w : ∀ (n j : Nat), j < n → dg 1 n (fun k => if k = j then 1 else 0) = 1 := by
  intro n
  induction n with
  | zero => intro j h; omega
  | succ n ih =>
    intro j h
    show (if 0 = j then 1 else 0) + 1 * dg 1 n (fun k => if k + 1 = j then 1 else 0) = 1
    by_cases e : 0 = j
    · subst e
      rw [if_pos rfl, dg_c n _ (fun _ => 0) (fun k _ => if_neg (by omega)), dg_0w]
    · rw [if_neg e, dg_c n _ (fun k => if k = j - 1 then 1 else 0) (fun k _ => by
        by_cases w : k + 1 = j
        · rw [if_pos w, if_pos (by omega)]
        · rw [if_neg w, if_neg (by omega)]), ih (j - 1) (by omega)]
theorem bt_gb {x : Int64} (k : Nat) : bt (nx9 x) k = if gb x k = true then 1 else 0 := by
  unfold bt
  have e : (nx9 x).testBit k = gb x k := gb_nx k
  rw [Nat.testBit_eq_decide_div_mod_eq] at e
  by_cases w : gb x k = true
  · rw [if_pos w]; rw [w] at e; exact of_decide_eq_true e
  · rw [if_neg w]
    have w2 : gb x k = false := by
      cases h : gb x k
      · rfl
      · exact absurd h w
    rw [w2] at e
    have := of_decide_eq_false e
    omega
/-- one bit more -/
theorem pc_up {x y : Int64} {j : Nat} (hj : j < 64) (h0 : gb x j = false) (h : ∀ k : Nat, k < 64 → gb y k = (gb x k || decide (k = j))) : pc9 (nx9 y) = pc9 (nx9 x) + 1 := by
  unfold pc9
  rw [dg_c 64 (bt (nx9 y)) (fun k => bt (nx9 x) k + (if k = j then 1 else 0)) (fun k hk => by
    show bt (nx9 y) k = bt (nx9 x) k + (if k = j then 1 else 0)
    rw [bt_gb, bt_gb, h k hk]
    by_cases e : k = j
    · subst e
      rw [h0, if_pos rfl]
      simp
    · rw [if_neg e, decide_eq_false e, Bool.or_false, Nat.add_zero]), ← dg_add, dg_1w 64 j hj]
theorem pc_0 : pc9 (nx9 0) = 0 := by
  unfold pc9
  rw [dg_c 64 (bt (nx9 0)) (fun _ => 0) (fun k _ => by rw [bt_gb, gb_0, if_neg (by decide)]), dg_0w]
theorem pc_PR {f : Nat → Bool} : ∀ n : Nat, n ≤ 62 → ((pc9 (nx9 (PR9 f n)) : Nat) : Int) = ct9 f n := by
  intro n
  induction n with
  | zero => intro _; show ((pc9 (nx9 0) : Nat) : Int) = 0; rw [pc_0]; rfl
  | succ n ih =>
    intro hn
    have q := ih (by omega)
    rw [ct9_s]
    by_cases e : f n = true
    · have u := pc_up (x := PR9 f n) (y := PR9 f (n + 1)) (j := 62 - n) (by omega) (by
        rw [gb_PR n (by omega), show 62 - (62 - n) = n by omega, decide_eq_false (show ¬ (62 - n ≤ 62 ∧ n < n) by omega), Bool.false_and]) (fun k hk => by
        rw [gb_PR n (by omega), gb_PR (n + 1) (by omega)]
        by_cases w : k = 62 - n
        · subst w
          rw [show 62 - (62 - n) = n by omega, e, decide_eq_true (show 62 - n ≤ 62 ∧ n < n + 1 by omega)]
          simp
        · rw [decide_eq_false w, Bool.or_false]
          by_cases v : k ≤ 62 ∧ 62 - k < n
          · rw [decide_eq_true v, decide_eq_true (show k ≤ 62 ∧ 62 - k < n + 1 by omega)]
          · rw [decide_eq_false v, decide_eq_false (show ¬ (k ≤ 62 ∧ 62 - k < n + 1) by omega), Bool.false_and])
      rw [u, if_pos e]
      omega
    · have u : PR9 f (n + 1) = PR9 f n := by
        show PR9 f n ||| (if f n = true then _ else 0) = PR9 f n
        rw [if_neg e, Int64.or_zero]
      rw [u, if_neg e]
      omega
def or9 (S : Nat → Int64) : Nat → Int64
  | 0 => 0
  | q + 1 => or9 S q ||| S q
theorem or9_p {S : Nat → Int64} {p : Int} {w : Int64} (hp : 0 ≤ p) (h : w = or9 S p.toNat) : w ||| S p.toNat = or9 S (p + 1).toNat := by
  rw [h, show (p + 1).toNat = p.toNat + 1 by omega]
  rfl
/-- a set's points -/
def cs9 (x : Int64) (k : Nat) : Bool := gb x (62 - k)
theorem cs_PR {f : Nat → Bool} {n : Nat} (hn : n ≤ 62) {p : Nat} (hp : p < n) : cs9 (PR9 f n) p = f p := by
  unfold cs9
  rw [gb_PR n hn, show 62 - (62 - p) = p by omega, decide_eq_true (show 62 - p ≤ 62 ∧ p < n by omega), Bool.true_and]
theorem and_cs {x : Int64} {k : Int} (h : 0 ≤ k ∧ k ≤ 62) : x &&& ((1 : Int64) <<< ((J (62 - k)).toInt64 &&& 63)) = 0 ↔ ¬ cs9 x k.toNat = true := by
  have e : (62 - k) = ((62 - k.toNat : Nat) : Int) := by omega
  have key : x &&& ((1 : Int64) <<< ((J (62 - k)).toInt64 &&& 63)) ≠ 0 ↔ cs9 x k.toNat = true := by
    rw [gb_nz, e]
    unfold cs9
    constructor
    · rintro ⟨i, i1, i2⟩
      rw [gb_and, gb_sh (show 62 - k.toNat < 64 by omega)] at i2
      by_cases w : 62 - k.toNat = i
      · rw [w]
        rw [decide_eq_true w, Bool.and_true] at i2
        exact i2
      · rw [decide_eq_false w, Bool.and_false] at i2; cases i2
    · intro w
      refine ⟨62 - k.toNat, by omega, ?_⟩
      rw [gb_and, gb_sh (show 62 - k.toNat < 64 by omega), w, decide_eq_true rfl]
      rfl
  exact ⟨fun w v => key.mpr v w, fun w => Classical.byContradiction (fun v => w (key.mp v))⟩
theorem ct9_p {f : Nat → Bool} {k : Int} (h : 0 ≤ k) : ct9 f (k + 1).toNat = ct9 f k.toNat + (if f k.toNat = true then 1 else 0) := by
  rw [show (k + 1).toNat = k.toNat + 1 by omega]
  rfl
def MB9 (x : Int64) (n w z : Int) : Prop := (z = -1 ∧ ct9 (cs9 x) n.toNat ≤ w) ∨ ((0 ≤ z ∧ z < n) ∧ cs9 x z.toNat = true ∧ ct9 (cs9 x) z.toNat = w)
theorem at_PR {f : Nat → Bool} {n i z : Int} {x : Int64} (hn : n ≤ 62) (hx : x = PR9 f n.toNat) (h : MB9 x n i z) : z = mem9 f n.toNat i := by
  have c : ∀ k : Nat, k ≤ n.toNat → ct9 (cs9 x) k = ct9 f k := fun k hk => ct9_c k (fun p hp => by rw [hx]; exact cs_PR (by omega) (by omega))
  rcases h with ⟨h1, h2⟩ | ⟨h1, h2, h3⟩
  · rw [c n.toNat (Nat.le_refl _)] at h2
    rw [mem9_no _ h2]; exact h1
  · rw [c z.toNat (by omega)] at h3
    rw [hx, cs_PR (by omega) (by omega)] at h2
    have := mem9_at h2 h3 n.toNat (by omega)
    omega
theorem fm_in {f : Nat → Bool} {n : Nat} {i : Int} (h0 : 0 ≤ i) (h : i < ct9 f n) : 0 ≤ mem9 f n i ∧ mem9 f n i < n := by
  obtain ⟨p, p1, p2, p3⟩ := mem9_ex h0 n h
  rw [mem9_at p2 p3 n p1]
  omega
theorem ut_a {X Y : Nat → Int} {n : Nat} {f : Nat → Bool} {y z : Int} (h : ct9 f n = 3) (e : z = tn X Y (mem9 f n 0).toNat (mem9 f n 1).toNat (mem9 f n 2).toNat) (k : 0 ≤ y ∧ (y = z ∨ y = -z)) : ut9 X Y n f ↔ y = 1 := by
  unfold ut9
  rw [← e]
  constructor
  · intro w; omega
  · intro w; exact ⟨h, by omega⟩

set_option maxHeartbeats 4000000 in
set_option maxRecDepth 100000 in
theorem c_X1_setOf3 (l : Launch) (D : JD) (q : Nat → Nat) (u : CS) (i : Int) (p0 : -2147483648 ≤ i ∧ i ≤ 2147483647) : Met l yX1_setOf (jw yX1_setOf cX1_setOf 2 (some .long)) (jr 0 0) (jP [.ref (q 7), .int (J i)] D (fun H => va_P D.1 j_cl (cW D q u) H)) (vp_Sl (fun x9 => 0 ≤ i → i < 80 → x9 = u.2.2.1 6 i.toNat)) 0 0 (fun _ => False) := by
  refine Met.ofW (cc := cX1_setOf) (maxL := 2) (ret := (some .long)) (by decide) rfl ?_
  intro pr en st mi args below meth co s₁ B hml hv
  obtain ⟨rfl, hG, hP⟩ := hv
  have hr := B.returns
  have hlk := B.notSynchronized
  have SS : jS pr mi co cX1_setOf 2 st _ RX1 := ⟨B.exec, B.bytes, hml, findClass_of_methodNamed B.named, fun w hw => atoms_spec (ws := (jw yX1_setOf cX1_setOf 2 (some .long))) B.pre w (List.mem_cons_of_mem _ hw)⟩
  have hl := lv_entry ([.ref (q 7), .int (J i)]) (n := 2) (Nat.le_of_ble_eq_true rfl)
  rw [lg_entry_eq]
  generalize (lg_sl ([.ref (q 7), .int (J i)]) ++ List.replicate (2 - (lg_sl ([.ref (q 7), .int (J i)])).length) Slot.unset).toArray = ls at hl ⊢
  have hl : lv_has ls 2 [(0, .ref (q 7)), (1, .int (J i))] := hl
  refine lv_iload_n SS.1 SS.2.1 dX1_setOf_0 rfl (lv_at hl 1 rfl) ?_
  refine j_if_lt SS (tgt := 22) (x := i) dX1_setOf_1 (by decide) (by omega) (fun c_1 => ?_) (fun c_1 => ?_)
  · skip
    refine lv_lconst (v := 0) SS.1 SS.2.1 dX1_setOf_22 (by decide +kernel) ?_
    exact W.lret SS.1 SS.2.1 hr (fun t0 ht hW => ⟨_, rfl, (by first | exact fun _ _ => rfl | (intro h1 h2; exfalso; omega)), ht⟩) (fun _ h => nomatch h) dX1_setOf_23 hlk
  · skip
    refine lv_iload_n SS.1 SS.2.1 dX1_setOf_4 rfl (lv_at hl 1 rfl) ?_
    refine lv_aload_n SS.1 SS.2.1 dX1_setOf_5 rfl (lv_at hl 0 rfl) ?_
    refine j_get SS hG hP 7 (v := .ref (q 73)) (C := RX1) (T := TX1) (N := 4) rfl rfl inX1 1 (by decide) (ref := "GridPolygons$Coarse") kw_372 rfl rfl dX1_setOf_6 ?_
    refine va_alen SS.1 SS.2.1 hG.1 hP 73 1 rfl rfl (v := J (80 : Int)) (by first | rfl | exact J_nat _) dX1_setOf_9 ?_
    refine j_icmp_ge SS (tgt := 22) (x := i) (y := 80) dX1_setOf_10 (by decide) (by omega) (by decide) (fun c_10 => ?_) (fun c_10 => ?_)
    · skip
      refine lv_lconst (v := 0) SS.1 SS.2.1 dX1_setOf_22 (by decide +kernel) ?_
      exact W.lret SS.1 SS.2.1 hr (fun t0 ht hW => ⟨_, rfl, (by first | exact fun _ _ => rfl | (intro h1 h2; exfalso; omega)), ht⟩) (fun _ h => nomatch h) dX1_setOf_23 hlk
    · skip
      refine lv_aload_n SS.1 SS.2.1 dX1_setOf_13 rfl (lv_at hl 0 rfl) ?_
      refine j_get SS hG hP 7 (v := .ref (q 73)) (C := RX1) (T := TX1) (N := 4) rfl rfl inX1 1 (by decide) (ref := "GridPolygons$Coarse") kw_372 rfl rfl dX1_setOf_14 ?_
      refine lv_iload_n SS.1 SS.2.1 dX1_setOf_17 rfl (lv_at hl 1 rfl) ?_
      refine j_lald SS hG hP 73 (n := 80) (f := (u.2.2.1 6)) rfl (z := i) (by omega) (by omega) dX1_setOf_18 ?_
      refine lv_goto (tgt := 23) SS.1 SS.2.1 dX1_setOf_19 (by decide) ?_
      exact W.lret SS.1 SS.2.1 hr (fun t0 ht hW => ⟨_, rfl, (by first | exact fun _ _ => rfl | (intro h1 h2; exfalso; omega)), ht⟩) (fun _ h => nomatch h) dX1_setOf_23 hlk

set_option maxHeartbeats 4000000 in
set_option maxRecDepth 100000 in
theorem c_X1_bit3 (l : Launch) (D : JD) (i : Int) : Met l yX1_bit (jw yX1_bit cX1_bit 1 (some .long)) (jr 0 0) (jP [.int (J i)] D (fun _ => True)) (vp_Sl (fun x9 => x9 = (1 : Int64) <<< ((J (62 - i)).toInt64 &&& 63))) 0 0 (fun _ => False) := by
  refine Met.ofW (cc := cX1_bit) (maxL := 1) (ret := (some .long)) (by decide) rfl ?_
  intro pr en st mi args below meth co s₁ B hml hv
  obtain ⟨rfl, hG, hP⟩ := hv
  have hr := B.returns
  have hlk := B.notSynchronized
  have SS : jS pr mi co cX1_bit 1 st _ RX1 := ⟨B.exec, B.bytes, hml, findClass_of_methodNamed B.named, fun w hw => atoms_spec (ws := (jw yX1_bit cX1_bit 1 (some .long))) B.pre w (List.mem_cons_of_mem _ hw)⟩
  have hl := lv_entry ([.int (J i)]) (n := 1) (Nat.le_of_ble_eq_true rfl)
  rw [lg_entry_eq]
  generalize (lg_sl ([.int (J i)]) ++ List.replicate (1 - (lg_sl ([.int (J i)])).length) Slot.unset).toArray = ls at hl ⊢
  have hl : lv_has ls 1 [(0, .int (J i))] := hl
  refine lv_lconst (v := 1) SS.1 SS.2.1 dX1_bit_0 (by decide +kernel) ?_
  refine j_bipush SS dX1_bit_1 (by decide +kernel) ?_
  refine lv_iload_n SS.1 SS.2.1 dX1_bit_3 rfl (lv_at hl 0 rfl) ?_
  refine j_isub SS (x := 62) (y := i) dX1_bit_4 ?_
  refine lv_lshl SS.1 SS.2.1 dX1_bit_5 rfl (lv_topl (fun x_5 ex_5 => ?_))
  exact W.lret SS.1 SS.2.1 hr (fun t0 ht hW => ⟨_, rfl, (ex_5), ht⟩) (fun _ h => nomatch h) dX1_bit_6 hlk

set_option maxHeartbeats 4000000 in
set_option maxRecDepth 100000 in
theorem c_X1_sizeOf3 (l : Launch) (D : JD) (q : Nat → Nat) (u : CS) (i : Int) (p0 : -2147483648 ≤ i ∧ i ≤ 2147483647) : Met l yX1_sizeOf (jw yX1_sizeOf cX1_sizeOf 2 (some .int)) (jr 1 21) (jP [.ref (q 7), .int (J i)] D (fun H => va_P D.1 j_cl (cW D q u) H)) (jRi (fun z => (0 ≤ z ∧ z ≤ 64) ∧ (0 ≤ i → i < 80 → z = ((pc9 (nx9 (u.2.2.1 6 i.toNat)) : Nat) : Int)))) 0 0 (fun _ => False) := by
  refine Met.ofW (cc := cX1_sizeOf) (maxL := 2) (ret := (some .int)) (by decide) rfl ?_
  intro pr en st mi args below meth co s₁ B hml hv
  obtain ⟨rfl, hG, hP⟩ := hv
  have hr := B.returns
  have hlk := B.notSynchronized
  have SS : jS pr mi co cX1_sizeOf 2 st _ RX1 := ⟨B.exec, B.bytes, hml, findClass_of_methodNamed B.named, fun w hw => atoms_spec (ws := (jw yX1_sizeOf cX1_sizeOf 2 (some .int))) B.pre w (List.mem_cons_of_mem _ hw)⟩
  have hl := lv_entry ([.ref (q 7), .int (J i)]) (n := 2) (Nat.le_of_ble_eq_true rfl)
  rw [lg_entry_eq]
  generalize (lg_sl ([.ref (q 7), .int (J i)]) ++ List.replicate (2 - (lg_sl ([.ref (q 7), .int (J i)])).length) Slot.unset).toArray = ls at hl ⊢
  have hl : lv_has ls 2 [(0, .ref (q 7)), (1, .int (J i))] := hl
  refine lv_aload_n SS.1 SS.2.1 dX1_sizeOf_0 rfl (lv_at hl 0 rfl) ?_
  refine lv_iload_n SS.1 SS.2.1 dX1_sizeOf_1 rfl (lv_at hl 1 rfl) ?_
  refine j_vRl SS (As := [.int (J i)]) (rest := []) (c_X1_setOf3 l D q u  i (show -2147483648 ≤ i ∧ i ≤ 2147483647 from (p0))) mf_X1_setOf kw_1018 hG hP hP (ci := 1) (q0 := 7) rfl rfl rfl rfl hl.1 ⟨⟨Nat.le_of_ble_eq_true rfl, Nat.le_of_ble_eq_true rfl⟩, Nat.le_of_ble_eq_true rfl, Nat.le_refl _, Nat.le_refl _⟩ rfl dX1_sizeOf_2 (fun x_2 h_2 => ?_)
  refine j_sRi SS (As := [.long x_2]) (rest := []) (c_J13_bitCount3 l D  x_2 ) mf_J13_bitCount_95d88 kw_1026 hG trivial rfl hl.1 ⟨⟨Nat.le_of_ble_eq_true rfl, Nat.le_of_ble_eq_true rfl⟩, Nat.le_of_ble_eq_true rfl, Nat.le_refl _, Nat.le_refl _⟩ rfl dX1_sizeOf_5 (fun z_5 h_5 => ?_)
  have h_5 : z_5 = ((pc9 (nx9 x_2) : Nat) : Int) ∧ 0 ≤ z_5 ∧ z_5 ≤ 64 := h_5
  exact W.iret SS.1 SS.2.1 hr (fun t0 ht hW => ⟨_, rfl, ⟨z_5, rfl, (⟨h_5.2, fun q1 q2 => by rw [← h_2 q1 q2]; exact h_5.1⟩)⟩, ht⟩) (fun _ h => nomatch h) dX1_sizeOf_8 hlk

