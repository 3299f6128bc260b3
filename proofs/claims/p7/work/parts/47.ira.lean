
set_option maxHeartbeats 4000000 in
set_option maxRecDepth 100000 in
theorem c_X12_times2 (l : Launch) (D : JD) (o : Nat) (q : Nat → Nat) (u : MS) (s : Int) (n : Int) (what : Int) (p0 : IM u) (p1 : -2147483648 ≤ s ∧ s ≤ 2147483647) (p2 : -2147483648 ≤ n ∧ n ≤ 2147483647) (p3 : -2147483648 ≤ what ∧ what ≤ 2147483647) : Met l yX12_times (jw yX12_times cX12_times 8 (some .long)) (jr 4 89) (jP [.ref o, .int (J s), .int (J n), .int (J what)] D (fun H => va_P D.1 j_cl (mW D o q u) H)) (vp_Sl (fun r => tiM u s n what r)) 0 0 (fun _ => False) := by
  refine Met.ofW (cc := cX12_times) (maxL := 8) (ret := (some .long)) (by decide) rfl ?_
  intro pr en st mi args below meth co s₁ B hml hv
  obtain ⟨rfl, hG, hP⟩ := hv
  have hr := B.returns
  have hlk := B.notSynchronized
  have SS : jS pr mi co cX12_times 8 st _ RX12 := ⟨B.exec, B.bytes, hml, findClass_of_methodNamed B.named, fun w hw => atoms_spec (ws := (jw yX12_times cX12_times 8 (some .long))) B.pre w (List.mem_cons_of_mem _ hw)⟩
  have hl := lv_entry ([.ref o, .int (J s), .int (J n), .int (J what)]) (n := 8) (Nat.le_of_ble_eq_true rfl)
  rw [lg_entry_eq]
  generalize (lg_sl ([.ref o, .int (J s), .int (J n), .int (J what)]) ++ List.replicate (8 - (lg_sl ([.ref o, .int (J s), .int (J n), .int (J what)])).length) Slot.unset).toArray = ls at hl ⊢
  have hl : lv_has ls 8 [(0, .ref o), (1, .int (J s)), (2, .int (J n)), (3, .int (J what))] := hl
  refine lv_iload_n SS.1 SS.2.1 dX12_times_0 rfl (lv_at hl 1 rfl) ?_
  refine j_sRi SS (As := [.int (J s)]) (rest := []) (c_X12_isShape l D s (show -2147483648 ≤ s ∧ s ≤ 2147483647 from (by omega))) mf_X12_isShape kw_1156 hG trivial rfl hl.1 ⟨⟨Nat.le_of_ble_eq_true rfl, Nat.le_of_ble_eq_true rfl⟩, Nat.le_of_ble_eq_true rfl, Nat.le_refl _, Nat.le_refl _⟩ rfl dX12_times_1 (fun z_1 h_1 => ?_)
  have h_1 : (z_1 = 1 ∧ (0 ≤ s ∧ s ≤ 7)) ∨ (z_1 = 0 ∧ ¬ (0 ≤ s ∧ s ≤ 7)) := h_1
  refine j_if_eq SS (tgt := 27) (x := z_1) dX12_times_4 (by decide) (by omega) (fun c_4 => ?_) (fun c_4 => ?_)
  · skip
    refine lv_ldc2 SS.1 SS.2.1 SS.2.2.2.1 (SS.2.2.2.2 _ kw_1248) dX12_times_27 ?_
    exact W.lret SS.1 SS.2.1 hr (fun t ht hW => ⟨_, rfl, (by first | exact Or.inl ⟨fun q => by unfold tiP at q; omega, rfl⟩ | exact Or.inr ⟨by unfold tiP; omega, by unfold tmV; rw [if_pos ⟨by omega, by omega⟩]; rfl⟩ | exact Or.inr ⟨by unfold tiP; omega, by unfold tmV; rw [if_neg (by omega), if_pos (by omega)]; rfl⟩ | exact Or.inr ⟨by unfold tiP; omega, by unfold tmV; rw [if_neg (by omega), if_neg (by omega), if_pos (by omega), if_pos (by omega)]; rfl⟩ | exact Or.inr ⟨by unfold tiP; omega, by unfold tmV; rw [if_neg (by omega), if_neg (by omega), if_pos (by omega), if_neg (by omega)]; rfl⟩ | exact Or.inr ⟨by unfold tiP; omega, by unfold tmV; rw [if_neg (by omega), if_neg (by omega), if_neg (by omega), if_pos (by omega), ← h_83.1]; exact tm_1 (by omega) (by omega)⟩ | exact Or.inr ⟨by unfold tiP; omega, by unfold tmV; rw [if_neg (by omega), if_neg (by omega), if_neg (by omega), if_neg (by omega), if_pos (by omega), ← h_97.1, ← h_108.1]; exact tm_4 (by omega) (by omega) (by omega) ex_128⟩ | exact Or.inr ⟨by unfold tiP; omega, by unfold tmV; rw [if_neg (by omega), if_neg (by omega), if_neg (by omega), if_neg (by omega), if_neg (by omega), ← h_97.1, ← h_108.1]; exact tm_3 (by omega) (by omega) (by omega) ex_128⟩), ht⟩) (fun _ h => nomatch h) dX12_times_30 hlk
  · skip
    refine lv_iload_n SS.1 SS.2.1 dX12_times_7 rfl (lv_at hl 2 rfl) ?_
    refine j_iconst SS dX12_times_8 ?_
    refine j_sipush SS dX12_times_9 (by decide +kernel) ?_
    refine j_sRi SS (As := [.int (J n), .int (J 0), .int (J 1000)]) (rest := []) (c_X12_in l D n 0 1000 (show -2147483648 ≤ n ∧ n ≤ 2147483647 from (by omega)) (show -2147483648 ≤ (0 : Int) ∧ (0 : Int) ≤ 2147483647 from (by omega)) (show -2147483648 ≤ (1000 : Int) ∧ (1000 : Int) ≤ 2147483647 from (by omega))) mf_X12_in kw_1159 hG trivial rfl hl.1 ⟨⟨Nat.le_of_ble_eq_true rfl, Nat.le_of_ble_eq_true rfl⟩, Nat.le_of_ble_eq_true rfl, Nat.le_refl _, Nat.le_refl _⟩ rfl dX12_times_12 (fun z_12 h_12 => ?_)
    have h_12 : (z_12 = 1 ∧ ((0 : Int) ≤ n ∧ n ≤ (1000 : Int))) ∨ (z_12 = 0 ∧ ¬ ((0 : Int) ≤ n ∧ n ≤ (1000 : Int))) := h_12
    refine j_if_eq SS (tgt := 27) (x := z_12) dX12_times_15 (by decide) (by omega) (fun c_15 => ?_) (fun c_15 => ?_)
    · skip
      refine lv_ldc2 SS.1 SS.2.1 SS.2.2.2.1 (SS.2.2.2.2 _ kw_1248) dX12_times_27 ?_
      exact W.lret SS.1 SS.2.1 hr (fun t ht hW => ⟨_, rfl, (by first | exact Or.inl ⟨fun q => by unfold tiP at q; omega, rfl⟩ | exact Or.inr ⟨by unfold tiP; omega, by unfold tmV; rw [if_pos ⟨by omega, by omega⟩]; rfl⟩ | exact Or.inr ⟨by unfold tiP; omega, by unfold tmV; rw [if_neg (by omega), if_pos (by omega)]; rfl⟩ | exact Or.inr ⟨by unfold tiP; omega, by unfold tmV; rw [if_neg (by omega), if_neg (by omega), if_pos (by omega), if_pos (by omega)]; rfl⟩ | exact Or.inr ⟨by unfold tiP; omega, by unfold tmV; rw [if_neg (by omega), if_neg (by omega), if_pos (by omega), if_neg (by omega)]; rfl⟩ | exact Or.inr ⟨by unfold tiP; omega, by unfold tmV; rw [if_neg (by omega), if_neg (by omega), if_neg (by omega), if_pos (by omega), ← h_83.1]; exact tm_1 (by omega) (by omega)⟩ | exact Or.inr ⟨by unfold tiP; omega, by unfold tmV; rw [if_neg (by omega), if_neg (by omega), if_neg (by omega), if_neg (by omega), if_pos (by omega), ← h_97.1, ← h_108.1]; exact tm_4 (by omega) (by omega) (by omega) ex_128⟩ | exact Or.inr ⟨by unfold tiP; omega, by unfold tmV; rw [if_neg (by omega), if_neg (by omega), if_neg (by omega), if_neg (by omega), if_neg (by omega), ← h_97.1, ← h_108.1]; exact tm_3 (by omega) (by omega) (by omega) ex_128⟩), ht⟩) (fun _ h => nomatch h) dX12_times_30 hlk
    · skip
      refine lv_iload_n SS.1 SS.2.1 dX12_times_18 rfl (lv_at hl 3 rfl) ?_
      refine j_iconst SS dX12_times_19 ?_
      refine j_iconst SS dX12_times_20 ?_
      refine j_sRi SS (As := [.int (J what), .int (J 0), .int (J 1)]) (rest := []) (c_X12_in l D what 0 1 (show -2147483648 ≤ what ∧ what ≤ 2147483647 from (by omega)) (show -2147483648 ≤ (0 : Int) ∧ (0 : Int) ≤ 2147483647 from (by omega)) (show -2147483648 ≤ (1 : Int) ∧ (1 : Int) ≤ 2147483647 from (by omega))) mf_X12_in kw_1159 hG trivial rfl hl.1 ⟨⟨Nat.le_of_ble_eq_true rfl, Nat.le_of_ble_eq_true rfl⟩, Nat.le_of_ble_eq_true rfl, Nat.le_refl _, Nat.le_refl _⟩ rfl dX12_times_21 (fun z_21 h_21 => ?_)
      have h_21 : (z_21 = 1 ∧ ((0 : Int) ≤ what ∧ what ≤ (1 : Int))) ∨ (z_21 = 0 ∧ ¬ ((0 : Int) ≤ what ∧ what ≤ (1 : Int))) := h_21
      refine j_if_ne SS (tgt := 31) (x := z_21) dX12_times_24 (by decide) (by omega) (fun c_24 => ?_) (fun c_24 => ?_)
      · skip
        refine lv_iload_n SS.1 SS.2.1 dX12_times_31 rfl (lv_at hl 3 rfl) ?_
        refine j_iconst SS dX12_times_32 ?_
        refine j_icmp_ne SS (tgt := 48) (x := what) (y := 1) dX12_times_33 (by decide) (by omega) (by decide) (fun c_33 => ?_) (fun c_33 => ?_)
        · skip
          refine lv_aload_n SS.1 SS.2.1 dX12_times_48 rfl (lv_at hl 0 rfl) ?_
          refine j_get SS hG hP 0 (v := .ref (q 0)) (C := RX12) (T := TX12) (N := 31) rfl rfl inX12 0 (by decide) (ref := RX12) kw_1058 rfl rfl dX12_times_49 ?_
          refine lv_iload_n SS.1 SS.2.1 dX12_times_52 rfl (lv_at hl 1 rfl) ?_
          refine j_iald SS hG hP 1 (n := 8) (f := (u.1 0)) rfl (z := s) (by omega) (by omega) dX12_times_53 ?_
          have hN_53 := (show Sh u s from p0.1 _ (by omega) (by omega)).1
          refine j_if_ne SS (tgt := 59) (x := (mN u s)) dX12_times_54 (by decide) (by omega) (fun c_54 => ?_) (fun c_54 => ?_)
          · skip
            refine lv_iload_n SS.1 SS.2.1 dX12_times_59 rfl (lv_at hl 2 rfl) ?_
            refine j_if_ne SS (tgt := 73) (x := n) dX12_times_60 (by decide) (by omega) (fun c_60 => ?_) (fun c_60 => ?_)
            · skip
              refine lv_aload_n SS.1 SS.2.1 dX12_times_73 rfl (lv_at hl 0 rfl) ?_
              refine lv_iload_n SS.1 SS.2.1 dX12_times_74 rfl (lv_at hl 1 rfl) ?_
              refine j_vRi SS (As := [.int (J s)]) (rest := []) (c_X12_isPolygon l D o q u s (show 0 ≤ s ∧ s ≤ 7 from (by omega)) (show Sh u s from (p0.1 _ (by omega) (by omega)))) mf_X12_isPolygon kw_1240 hG hP hP (ci := 8) (q0 := 0) rfl rfl rfl rfl hl.1 ⟨⟨Nat.le_of_ble_eq_true rfl, Nat.le_of_ble_eq_true rfl⟩, Nat.le_of_ble_eq_true rfl, Nat.le_refl _, Nat.le_refl _⟩ rfl dX12_times_75 (fun z_75 h_75 => ?_)
              have h_75 : (z_75 = 1 ∧ 2 < mN u s) ∨ (z_75 = 0 ∧ mN u s ≤ 2) := h_75
              refine j_if_ne SS (tgt := 95) (x := z_75) dX12_times_78 (by decide) (by omega) (fun c_78 => ?_) (fun c_78 => ?_)
              · skip
                refine lv_aload_n SS.1 SS.2.1 dX12_times_95 rfl (lv_at hl 0 rfl) ?_
                refine lv_iload_n SS.1 SS.2.1 dX12_times_96 rfl (lv_at hl 1 rfl) ?_
                refine j_vRi SS (As := [.int (J s)]) (rest := []) (c_X12_edgeOf l D o q u s (show 0 ≤ s ∧ s ≤ 7 from (by omega)) (show Sh u s from (p0.1 _ (by omega) (by omega)))) mf_X12_edgeOf kw_1222 hG hP hP (ci := 8) (q0 := 0) rfl rfl rfl rfl hl.1 ⟨⟨Nat.le_of_ble_eq_true rfl, Nat.le_of_ble_eq_true rfl⟩, Nat.le_of_ble_eq_true rfl, Nat.le_refl _, Nat.le_refl _⟩ rfl dX12_times_97 (fun z_97 h_97 => ?_)
                have h_97 : z_97 = mEd u s ∧ 0 ≤ z_97 ∧ z_97 ≤ 2000 := h_97
                refine lv_i2l SS.1 SS.2.1 dX12_times_100 rfl ?_
                refine lv_iload_n SS.1 SS.2.1 dX12_times_101 rfl (lv_at hl 2 rfl) ?_
                refine lv_i2l SS.1 SS.2.1 dX12_times_102 rfl ?_
                refine lv_lmul SS.1 SS.2.1 dX12_times_103 ?_
                refine lv_lstore (lv' := [(4, .long (((J z_97).toInt64) * ((J n).toInt64))), (0, .ref o), (1, .int (J s)), (2, .int (J n)), (3, .int (J what))]) SS.1 SS.2.1 dX12_times_104 hl (by decide) rfl (fun ls hl => ?_)
                refine lv_aload_n SS.1 SS.2.1 dX12_times_106 rfl (lv_at hl 1 rfl) ?_
                refine lv_iload_n SS.1 SS.2.1 dX12_times_107 rfl (lv_at hl 2 rfl) ?_
                refine j_vRi SS (As := [.int (J s)]) (rest := []) (c_X12_areaOf l D o q u s (show 0 ≤ s ∧ s ≤ 7 from (by omega)) (show Sh u s from (p0.1 _ (by omega) (by omega)))) mf_X12_areaOf kw_1218 hG hP hP (ci := 8) (q0 := 0) rfl rfl rfl rfl hl.1 ⟨⟨Nat.le_of_ble_eq_true rfl, Nat.le_of_ble_eq_true rfl⟩, Nat.le_of_ble_eq_true rfl, Nat.le_refl _, Nat.le_refl _⟩ rfl dX12_times_108 (fun z_108 h_108 => ?_)
                have h_108 : z_108 = mAr u s ∧ -80000 ≤ z_108 ∧ z_108 ≤ 80000 := h_108
                refine lv_i2l SS.1 SS.2.1 dX12_times_111 rfl ?_
                refine lv_iload_n SS.1 SS.2.1 dX12_times_112 rfl (lv_at hl 3 rfl) ?_
                refine lv_i2l SS.1 SS.2.1 dX12_times_113 rfl ?_
                refine lv_lmul SS.1 SS.2.1 dX12_times_114 ?_
                refine lv_iload_n SS.1 SS.2.1 dX12_times_115 rfl (lv_at hl 3 rfl) ?_
                refine lv_i2l SS.1 SS.2.1 dX12_times_116 rfl ?_
                refine lv_lmul SS.1 SS.2.1 dX12_times_117 ?_
                refine lv_lload SS.1 SS.2.1 dX12_times_118 (lv_at hl 0 rfl) ?_
                refine lv_lsub SS.1 SS.2.1 dX12_times_120 ?_
                refine lv_ldc2 SS.1 SS.2.1 SS.2.2.2.1 (SS.2.2.2.2 _ kw_1250) dX12_times_121 ?_
                refine lv_ladd SS.1 SS.2.1 dX12_times_124 ?_
                refine lv_ldc2 SS.1 SS.2.1 SS.2.2.2.1 (SS.2.2.2.2 _ kw_1250) dX12_times_125 ?_
                refine lv_ldiv SS.1 SS.2.1 dX12_times_128 (by decide +kernel) (lv_topl (fun x_128 ex_128 => ?_))
                refine lv_lstore (lv' := [(6, .long x_128), (4, .long (((J z_97).toInt64) * ((J n).toInt64))), (0, .ref o), (1, .int (J s)), (2, .int (J n)), (3, .int (J what))]) SS.1 SS.2.1 dX12_times_129 hl (by decide) rfl (fun ls hl => ?_)
                refine lv_iload_n SS.1 SS.2.1 dX12_times_131 rfl (lv_at hl 5 rfl) ?_
                refine j_if_ne SS (tgt := 143) (x := what) dX12_times_132 (by decide) (by omega) (fun c_132 => ?_) (fun c_132 => ?_)
                · skip
                  refine lv_lload SS.1 SS.2.1 dX12_times_143 (lv_at hl 0 rfl) ?_
                  exact W.lret SS.1 SS.2.1 hr (fun t ht hW => ⟨_, rfl, (by first | exact Or.inl ⟨fun q => by unfold tiP at q; omega, rfl⟩ | exact Or.inr ⟨by unfold tiP; omega, by unfold tmV; rw [if_pos ⟨by omega, by omega⟩]; rfl⟩ | exact Or.inr ⟨by unfold tiP; omega, by unfold tmV; rw [if_neg (by omega), if_pos (by omega)]; rfl⟩ | exact Or.inr ⟨by unfold tiP; omega, by unfold tmV; rw [if_neg (by omega), if_neg (by omega), if_pos (by omega), if_pos (by omega)]; rfl⟩ | exact Or.inr ⟨by unfold tiP; omega, by unfold tmV; rw [if_neg (by omega), if_neg (by omega), if_pos (by omega), if_neg (by omega)]; rfl⟩ | exact Or.inr ⟨by unfold tiP; omega, by unfold tmV; rw [if_neg (by omega), if_neg (by omega), if_neg (by omega), if_pos (by omega), ← h_83.1]; exact tm_1 (by omega) (by omega)⟩ | exact Or.inr ⟨by unfold tiP; omega, by unfold tmV; rw [if_neg (by omega), if_neg (by omega), if_neg (by omega), if_neg (by omega), if_pos (by omega), ← h_97.1, ← h_108.1]; exact tm_4 (by omega) (by omega) (by omega) ex_128⟩ | exact Or.inr ⟨by unfold tiP; omega, by unfold tmV; rw [if_neg (by omega), if_neg (by omega), if_neg (by omega), if_neg (by omega), if_neg (by omega), ← h_97.1, ← h_108.1]; exact tm_3 (by omega) (by omega) (by omega) ex_128⟩), ht⟩) (fun _ h => nomatch h) dX12_times_145 hlk
                · skip
                  refine lv_lload SS.1 SS.2.1 dX12_times_135 (lv_at hl 0 rfl) ?_
                  refine lv_lload SS.1 SS.2.1 dX12_times_137 (lv_at hl 1 rfl) ?_
                  refine lv_ladd SS.1 SS.2.1 dX12_times_139 ?_
                  refine lv_goto (tgt := 145) SS.1 SS.2.1 dX12_times_140 (by decide) ?_
                  exact W.lret SS.1 SS.2.1 hr (fun t ht hW => ⟨_, rfl, (by first | exact Or.inl ⟨fun q => by unfold tiP at q; omega, rfl⟩ | exact Or.inr ⟨by unfold tiP; omega, by unfold tmV; rw [if_pos ⟨by omega, by omega⟩]; rfl⟩ | exact Or.inr ⟨by unfold tiP; omega, by unfold tmV; rw [if_neg (by omega), if_pos (by omega)]; rfl⟩ | exact Or.inr ⟨by unfold tiP; omega, by unfold tmV; rw [if_neg (by omega), if_neg (by omega), if_pos (by omega), if_pos (by omega)]; rfl⟩ | exact Or.inr ⟨by unfold tiP; omega, by unfold tmV; rw [if_neg (by omega), if_neg (by omega), if_pos (by omega), if_neg (by omega)]; rfl⟩ | exact Or.inr ⟨by unfold tiP; omega, by unfold tmV; rw [if_neg (by omega), if_neg (by omega), if_neg (by omega), if_pos (by omega), ← h_83.1]; exact tm_1 (by omega) (by omega)⟩ | exact Or.inr ⟨by unfold tiP; omega, by unfold tmV; rw [if_neg (by omega), if_neg (by omega), if_neg (by omega), if_neg (by omega), if_pos (by omega), ← h_97.1, ← h_108.1]; exact tm_4 (by omega) (by omega) (by omega) ex_128⟩ | exact Or.inr ⟨by unfold tiP; omega, by unfold tmV; rw [if_neg (by omega), if_neg (by omega), if_neg (by omega), if_neg (by omega), if_neg (by omega), ← h_97.1, ← h_108.1]; exact tm_3 (by omega) (by omega) (by omega) ex_128⟩), ht⟩) (fun _ h => nomatch h) dX12_times_145 hlk
              · skip
                refine lv_aload_n SS.1 SS.2.1 dX12_times_81 rfl (lv_at hl 0 rfl) ?_
                refine lv_iload_n SS.1 SS.2.1 dX12_times_82 rfl (lv_at hl 1 rfl) ?_
                refine j_vRi SS (As := [.int (J s)]) (rest := []) (c_X12_edgeOf l D o q u s (show 0 ≤ s ∧ s ≤ 7 from (by omega)) (show Sh u s from (p0.1 _ (by omega) (by omega)))) mf_X12_edgeOf kw_1222 hG hP hP (ci := 8) (q0 := 0) rfl rfl rfl rfl hl.1 ⟨⟨Nat.le_of_ble_eq_true rfl, Nat.le_of_ble_eq_true rfl⟩, Nat.le_of_ble_eq_true rfl, Nat.le_refl _, Nat.le_refl _⟩ rfl dX12_times_83 (fun z_83 h_83 => ?_)
                have h_83 : z_83 = mEd u s ∧ 0 ≤ z_83 ∧ z_83 ≤ 2000 := h_83
                refine j_iconst SS dX12_times_86 ?_
                refine j_isub SS (x := z_83) (y := 1) dX12_times_87 ?_
                refine lv_i2l SS.1 SS.2.1 dX12_times_88 rfl ?_
                refine lv_iload_n SS.1 SS.2.1 dX12_times_89 rfl (lv_at hl 2 rfl) ?_
                refine lv_i2l SS.1 SS.2.1 dX12_times_90 rfl ?_
                refine lv_lmul SS.1 SS.2.1 dX12_times_91 ?_
                refine lv_lconst (v := 1) SS.1 SS.2.1 dX12_times_92 (by decide +kernel) ?_
                refine lv_ladd SS.1 SS.2.1 dX12_times_93 ?_
                exact W.lret SS.1 SS.2.1 hr (fun t ht hW => ⟨_, rfl, (by first | exact Or.inl ⟨fun q => by unfold tiP at q; omega, rfl⟩ | exact Or.inr ⟨by unfold tiP; omega, by unfold tmV; rw [if_pos ⟨by omega, by omega⟩]; rfl⟩ | exact Or.inr ⟨by unfold tiP; omega, by unfold tmV; rw [if_neg (by omega), if_pos (by omega)]; rfl⟩ | exact Or.inr ⟨by unfold tiP; omega, by unfold tmV; rw [if_neg (by omega), if_neg (by omega), if_pos (by omega), if_pos (by omega)]; rfl⟩ | exact Or.inr ⟨by unfold tiP; omega, by unfold tmV; rw [if_neg (by omega), if_neg (by omega), if_pos (by omega), if_neg (by omega)]; rfl⟩ | exact Or.inr ⟨by unfold tiP; omega, by unfold tmV; rw [if_neg (by omega), if_neg (by omega), if_neg (by omega), if_pos (by omega), ← h_83.1]; exact tm_1 (by omega) (by omega)⟩ | exact Or.inr ⟨by unfold tiP; omega, by unfold tmV; rw [if_neg (by omega), if_neg (by omega), if_neg (by omega), if_neg (by omega), if_pos (by omega), ← h_97.1, ← h_108.1]; exact tm_4 (by omega) (by omega) (by omega) ex_128⟩ | exact Or.inr ⟨by unfold tiP; omega, by unfold tmV; rw [if_neg (by omega), if_neg (by omega), if_neg (by omega), if_neg (by omega), if_neg (by omega), ← h_97.1, ← h_108.1]; exact tm_3 (by omega) (by omega) (by omega) ex_128⟩), ht⟩) (fun _ h => nomatch h) dX12_times_94 hlk
            · skip
              refine lv_iload_n SS.1 SS.2.1 dX12_times_63 rfl (lv_at hl 3 rfl) ?_
              refine j_if_ne SS (tgt := 71) (x := what) dX12_times_64 (by decide) (by omega) (fun c_64 => ?_) (fun c_64 => ?_)
              · skip
                refine lv_lconst (v := 0) SS.1 SS.2.1 dX12_times_71 (by decide +kernel) ?_
                exact W.lret SS.1 SS.2.1 hr (fun t ht hW => ⟨_, rfl, (by first | exact Or.inl ⟨fun q => by unfold tiP at q; omega, rfl⟩ | exact Or.inr ⟨by unfold tiP; omega, by unfold tmV; rw [if_pos ⟨by omega, by omega⟩]; rfl⟩ | exact Or.inr ⟨by unfold tiP; omega, by unfold tmV; rw [if_neg (by omega), if_pos (by omega)]; rfl⟩ | exact Or.inr ⟨by unfold tiP; omega, by unfold tmV; rw [if_neg (by omega), if_neg (by omega), if_pos (by omega), if_pos (by omega)]; rfl⟩ | exact Or.inr ⟨by unfold tiP; omega, by unfold tmV; rw [if_neg (by omega), if_neg (by omega), if_pos (by omega), if_neg (by omega)]; rfl⟩ | exact Or.inr ⟨by unfold tiP; omega, by unfold tmV; rw [if_neg (by omega), if_neg (by omega), if_neg (by omega), if_pos (by omega), ← h_83.1]; exact tm_1 (by omega) (by omega)⟩ | exact Or.inr ⟨by unfold tiP; omega, by unfold tmV; rw [if_neg (by omega), if_neg (by omega), if_neg (by omega), if_neg (by omega), if_pos (by omega), ← h_97.1, ← h_108.1]; exact tm_4 (by omega) (by omega) (by omega) ex_128⟩ | exact Or.inr ⟨by unfold tiP; omega, by unfold tmV; rw [if_neg (by omega), if_neg (by omega), if_neg (by omega), if_neg (by omega), if_neg (by omega), ← h_97.1, ← h_108.1]; exact tm_3 (by omega) (by omega) (by omega) ex_128⟩), ht⟩) (fun _ h => nomatch h) dX12_times_72 hlk
              · skip
                refine lv_lconst (v := 1) SS.1 SS.2.1 dX12_times_67 (by decide +kernel) ?_
                refine lv_goto (tgt := 72) SS.1 SS.2.1 dX12_times_68 (by decide) ?_
                exact W.lret SS.1 SS.2.1 hr (fun t ht hW => ⟨_, rfl, (by first | exact Or.inl ⟨fun q => by unfold tiP at q; omega, rfl⟩ | exact Or.inr ⟨by unfold tiP; omega, by unfold tmV; rw [if_pos ⟨by omega, by omega⟩]; rfl⟩ | exact Or.inr ⟨by unfold tiP; omega, by unfold tmV; rw [if_neg (by omega), if_pos (by omega)]; rfl⟩ | exact Or.inr ⟨by unfold tiP; omega, by unfold tmV; rw [if_neg (by omega), if_neg (by omega), if_pos (by omega), if_pos (by omega)]; rfl⟩ | exact Or.inr ⟨by unfold tiP; omega, by unfold tmV; rw [if_neg (by omega), if_neg (by omega), if_pos (by omega), if_neg (by omega)]; rfl⟩ | exact Or.inr ⟨by unfold tiP; omega, by unfold tmV; rw [if_neg (by omega), if_neg (by omega), if_neg (by omega), if_pos (by omega), ← h_83.1]; exact tm_1 (by omega) (by omega)⟩ | exact Or.inr ⟨by unfold tiP; omega, by unfold tmV; rw [if_neg (by omega), if_neg (by omega), if_neg (by omega), if_neg (by omega), if_pos (by omega), ← h_97.1, ← h_108.1]; exact tm_4 (by omega) (by omega) (by omega) ex_128⟩ | exact Or.inr ⟨by unfold tiP; omega, by unfold tmV; rw [if_neg (by omega), if_neg (by omega), if_neg (by omega), if_neg (by omega), if_neg (by omega), ← h_97.1, ← h_108.1]; exact tm_3 (by omega) (by omega) (by omega) ex_128⟩), ht⟩) (fun _ h => nomatch h) dX12_times_72 hlk
          · skip
            refine lv_lconst (v := 0) SS.1 SS.2.1 dX12_times_57 (by decide +kernel) ?_
            exact W.lret SS.1 SS.2.1 hr (fun t ht hW => ⟨_, rfl, (by first | exact Or.inl ⟨fun q => by unfold tiP at q; omega, rfl⟩ | exact Or.inr ⟨by unfold tiP; omega, by unfold tmV; rw [if_pos ⟨by omega, by omega⟩]; rfl⟩ | exact Or.inr ⟨by unfold tiP; omega, by unfold tmV; rw [if_neg (by omega), if_pos (by omega)]; rfl⟩ | exact Or.inr ⟨by unfold tiP; omega, by unfold tmV; rw [if_neg (by omega), if_neg (by omega), if_pos (by omega), if_pos (by omega)]; rfl⟩ | exact Or.inr ⟨by unfold tiP; omega, by unfold tmV; rw [if_neg (by omega), if_neg (by omega), if_pos (by omega), if_neg (by omega)]; rfl⟩ | exact Or.inr ⟨by unfold tiP; omega, by unfold tmV; rw [if_neg (by omega), if_neg (by omega), if_neg (by omega), if_pos (by omega), ← h_83.1]; exact tm_1 (by omega) (by omega)⟩ | exact Or.inr ⟨by unfold tiP; omega, by unfold tmV; rw [if_neg (by omega), if_neg (by omega), if_neg (by omega), if_neg (by omega), if_pos (by omega), ← h_97.1, ← h_108.1]; exact tm_4 (by omega) (by omega) (by omega) ex_128⟩ | exact Or.inr ⟨by unfold tiP; omega, by unfold tmV; rw [if_neg (by omega), if_neg (by omega), if_neg (by omega), if_neg (by omega), if_neg (by omega), ← h_97.1, ← h_108.1]; exact tm_3 (by omega) (by omega) (by omega) ex_128⟩), ht⟩) (fun _ h => nomatch h) dX12_times_58 hlk
        · skip
          refine lv_aload_n SS.1 SS.2.1 dX12_times_36 rfl (lv_at hl 0 rfl) ?_
          refine lv_iload_n SS.1 SS.2.1 dX12_times_37 rfl (lv_at hl 1 rfl) ?_
          refine j_vRi SS (As := [.int (J s)]) (rest := []) (c_X12_isPolygon l D o q u s (show 0 ≤ s ∧ s ≤ 7 from (by omega)) (show Sh u s from (p0.1 _ (by omega) (by omega)))) mf_X12_isPolygon kw_1240 hG hP hP (ci := 8) (q0 := 0) rfl rfl rfl rfl hl.1 ⟨⟨Nat.le_of_ble_eq_true rfl, Nat.le_of_ble_eq_true rfl⟩, Nat.le_of_ble_eq_true rfl, Nat.le_refl _, Nat.le_refl _⟩ rfl dX12_times_38 (fun z_38 h_38 => ?_)
          have h_38 : (z_38 = 1 ∧ 2 < mN u s) ∨ (z_38 = 0 ∧ mN u s ≤ 2) := h_38
          refine j_if_ne SS (tgt := 48) (x := z_38) dX12_times_41 (by decide) (by omega) (fun c_41 => ?_) (fun c_41 => ?_)
          · skip
            refine lv_aload_n SS.1 SS.2.1 dX12_times_48 rfl (lv_at hl 0 rfl) ?_
            refine j_get SS hG hP 0 (v := .ref (q 0)) (C := RX12) (T := TX12) (N := 31) rfl rfl inX12 0 (by decide) (ref := RX12) kw_1058 rfl rfl dX12_times_49 ?_
            refine lv_iload_n SS.1 SS.2.1 dX12_times_52 rfl (lv_at hl 1 rfl) ?_
            refine j_iald SS hG hP 1 (n := 8) (f := (u.1 0)) rfl (z := s) (by omega) (by omega) dX12_times_53 ?_
            have hN_53 := (show Sh u s from p0.1 _ (by omega) (by omega)).1
            refine j_if_ne SS (tgt := 59) (x := (mN u s)) dX12_times_54 (by decide) (by omega) (fun c_54 => ?_) (fun c_54 => ?_)
            · skip
              refine lv_iload_n SS.1 SS.2.1 dX12_times_59 rfl (lv_at hl 2 rfl) ?_
              refine j_if_ne SS (tgt := 73) (x := n) dX12_times_60 (by decide) (by omega) (fun c_60 => ?_) (fun c_60 => ?_)
              · skip
                refine lv_aload_n SS.1 SS.2.1 dX12_times_73 rfl (lv_at hl 0 rfl) ?_
                refine lv_iload_n SS.1 SS.2.1 dX12_times_74 rfl (lv_at hl 1 rfl) ?_
                refine j_vRi SS (As := [.int (J s)]) (rest := []) (c_X12_isPolygon l D o q u s (show 0 ≤ s ∧ s ≤ 7 from (by omega)) (show Sh u s from (p0.1 _ (by omega) (by omega)))) mf_X12_isPolygon kw_1240 hG hP hP (ci := 8) (q0 := 0) rfl rfl rfl rfl hl.1 ⟨⟨Nat.le_of_ble_eq_true rfl, Nat.le_of_ble_eq_true rfl⟩, Nat.le_of_ble_eq_true rfl, Nat.le_refl _, Nat.le_refl _⟩ rfl dX12_times_75 (fun z_75 h_75 => ?_)
                have h_75 : (z_75 = 1 ∧ 2 < mN u s) ∨ (z_75 = 0 ∧ mN u s ≤ 2) := h_75
                refine j_if_ne SS (tgt := 95) (x := z_75) dX12_times_78 (by decide) (by omega) (fun c_78 => ?_) (fun c_78 => ?_)
                · skip
                  refine lv_aload_n SS.1 SS.2.1 dX12_times_95 rfl (lv_at hl 0 rfl) ?_
                  refine lv_iload_n SS.1 SS.2.1 dX12_times_96 rfl (lv_at hl 1 rfl) ?_
                  refine j_vRi SS (As := [.int (J s)]) (rest := []) (c_X12_edgeOf l D o q u s (show 0 ≤ s ∧ s ≤ 7 from (by omega)) (show Sh u s from (p0.1 _ (by omega) (by omega)))) mf_X12_edgeOf kw_1222 hG hP hP (ci := 8) (q0 := 0) rfl rfl rfl rfl hl.1 ⟨⟨Nat.le_of_ble_eq_true rfl, Nat.le_of_ble_eq_true rfl⟩, Nat.le_of_ble_eq_true rfl, Nat.le_refl _, Nat.le_refl _⟩ rfl dX12_times_97 (fun z_97 h_97 => ?_)
                  have h_97 : z_97 = mEd u s ∧ 0 ≤ z_97 ∧ z_97 ≤ 2000 := h_97
                  refine lv_i2l SS.1 SS.2.1 dX12_times_100 rfl ?_
                  refine lv_iload_n SS.1 SS.2.1 dX12_times_101 rfl (lv_at hl 2 rfl) ?_
                  refine lv_i2l SS.1 SS.2.1 dX12_times_102 rfl ?_
                  refine lv_lmul SS.1 SS.2.1 dX12_times_103 ?_
                  refine lv_lstore (lv' := [(4, .long (((J z_97).toInt64) * ((J n).toInt64))), (0, .ref o), (1, .int (J s)), (2, .int (J n)), (3, .int (J what))]) SS.1 SS.2.1 dX12_times_104 hl (by decide) rfl (fun ls hl => ?_)
                  refine lv_aload_n SS.1 SS.2.1 dX12_times_106 rfl (lv_at hl 1 rfl) ?_
                  refine lv_iload_n SS.1 SS.2.1 dX12_times_107 rfl (lv_at hl 2 rfl) ?_
                  refine j_vRi SS (As := [.int (J s)]) (rest := []) (c_X12_areaOf l D o q u s (show 0 ≤ s ∧ s ≤ 7 from (by omega)) (show Sh u s from (p0.1 _ (by omega) (by omega)))) mf_X12_areaOf kw_1218 hG hP hP (ci := 8) (q0 := 0) rfl rfl rfl rfl hl.1 ⟨⟨Nat.le_of_ble_eq_true rfl, Nat.le_of_ble_eq_true rfl⟩, Nat.le_of_ble_eq_true rfl, Nat.le_refl _, Nat.le_refl _⟩ rfl dX12_times_108 (fun z_108 h_108 => ?_)
                  have h_108 : z_108 = mAr u s ∧ -80000 ≤ z_108 ∧ z_108 ≤ 80000 := h_108
                  refine lv_i2l SS.1 SS.2.1 dX12_times_111 rfl ?_
                  refine lv_iload_n SS.1 SS.2.1 dX12_times_112 rfl (lv_at hl 3 rfl) ?_
                  refine lv_i2l SS.1 SS.2.1 dX12_times_113 rfl ?_
                  refine lv_lmul SS.1 SS.2.1 dX12_times_114 ?_
                  refine lv_iload_n SS.1 SS.2.1 dX12_times_115 rfl (lv_at hl 3 rfl) ?_
                  refine lv_i2l SS.1 SS.2.1 dX12_times_116 rfl ?_
                  refine lv_lmul SS.1 SS.2.1 dX12_times_117 ?_
                  refine lv_lload SS.1 SS.2.1 dX12_times_118 (lv_at hl 0 rfl) ?_
                  refine lv_lsub SS.1 SS.2.1 dX12_times_120 ?_
                  refine lv_ldc2 SS.1 SS.2.1 SS.2.2.2.1 (SS.2.2.2.2 _ kw_1250) dX12_times_121 ?_
                  refine lv_ladd SS.1 SS.2.1 dX12_times_124 ?_
                  refine lv_ldc2 SS.1 SS.2.1 SS.2.2.2.1 (SS.2.2.2.2 _ kw_1250) dX12_times_125 ?_
                  refine lv_ldiv SS.1 SS.2.1 dX12_times_128 (by decide +kernel) (lv_topl (fun x_128 ex_128 => ?_))
                  refine lv_lstore (lv' := [(6, .long x_128), (4, .long (((J z_97).toInt64) * ((J n).toInt64))), (0, .ref o), (1, .int (J s)), (2, .int (J n)), (3, .int (J what))]) SS.1 SS.2.1 dX12_times_129 hl (by decide) rfl (fun ls hl => ?_)
                  refine lv_iload_n SS.1 SS.2.1 dX12_times_131 rfl (lv_at hl 5 rfl) ?_
                  refine j_if_ne SS (tgt := 143) (x := what) dX12_times_132 (by decide) (by omega) (fun c_132 => ?_) (fun c_132 => ?_)
                  · skip
                    refine lv_lload SS.1 SS.2.1 dX12_times_143 (lv_at hl 0 rfl) ?_
                    exact W.lret SS.1 SS.2.1 hr (fun t ht hW => ⟨_, rfl, (by first | exact Or.inl ⟨fun q => by unfold tiP at q; omega, rfl⟩ | exact Or.inr ⟨by unfold tiP; omega, by unfold tmV; rw [if_pos ⟨by omega, by omega⟩]; rfl⟩ | exact Or.inr ⟨by unfold tiP; omega, by unfold tmV; rw [if_neg (by omega), if_pos (by omega)]; rfl⟩ | exact Or.inr ⟨by unfold tiP; omega, by unfold tmV; rw [if_neg (by omega), if_neg (by omega), if_pos (by omega), if_pos (by omega)]; rfl⟩ | exact Or.inr ⟨by unfold tiP; omega, by unfold tmV; rw [if_neg (by omega), if_neg (by omega), if_pos (by omega), if_neg (by omega)]; rfl⟩ | exact Or.inr ⟨by unfold tiP; omega, by unfold tmV; rw [if_neg (by omega), if_neg (by omega), if_neg (by omega), if_pos (by omega), ← h_83.1]; exact tm_1 (by omega) (by omega)⟩ | exact Or.inr ⟨by unfold tiP; omega, by unfold tmV; rw [if_neg (by omega), if_neg (by omega), if_neg (by omega), if_neg (by omega), if_pos (by omega), ← h_97.1, ← h_108.1]; exact tm_4 (by omega) (by omega) (by omega) ex_128⟩ | exact Or.inr ⟨by unfold tiP; omega, by unfold tmV; rw [if_neg (by omega), if_neg (by omega), if_neg (by omega), if_neg (by omega), if_neg (by omega), ← h_97.1, ← h_108.1]; exact tm_3 (by omega) (by omega) (by omega) ex_128⟩), ht⟩) (fun _ h => nomatch h) dX12_times_145 hlk
                  · skip
                    refine lv_lload SS.1 SS.2.1 dX12_times_135 (lv_at hl 0 rfl) ?_
                    refine lv_lload SS.1 SS.2.1 dX12_times_137 (lv_at hl 1 rfl) ?_
                    refine lv_ladd SS.1 SS.2.1 dX12_times_139 ?_
                    refine lv_goto (tgt := 145) SS.1 SS.2.1 dX12_times_140 (by decide) ?_
                    exact W.lret SS.1 SS.2.1 hr (fun t ht hW => ⟨_, rfl, (by first | exact Or.inl ⟨fun q => by unfold tiP at q; omega, rfl⟩ | exact Or.inr ⟨by unfold tiP; omega, by unfold tmV; rw [if_pos ⟨by omega, by omega⟩]; rfl⟩ | exact Or.inr ⟨by unfold tiP; omega, by unfold tmV; rw [if_neg (by omega), if_pos (by omega)]; rfl⟩ | exact Or.inr ⟨by unfold tiP; omega, by unfold tmV; rw [if_neg (by omega), if_neg (by omega), if_pos (by omega), if_pos (by omega)]; rfl⟩ | exact Or.inr ⟨by unfold tiP; omega, by unfold tmV; rw [if_neg (by omega), if_neg (by omega), if_pos (by omega), if_neg (by omega)]; rfl⟩ | exact Or.inr ⟨by unfold tiP; omega, by unfold tmV; rw [if_neg (by omega), if_neg (by omega), if_neg (by omega), if_pos (by omega), ← h_83.1]; exact tm_1 (by omega) (by omega)⟩ | exact Or.inr ⟨by unfold tiP; omega, by unfold tmV; rw [if_neg (by omega), if_neg (by omega), if_neg (by omega), if_neg (by omega), if_pos (by omega), ← h_97.1, ← h_108.1]; exact tm_4 (by omega) (by omega) (by omega) ex_128⟩ | exact Or.inr ⟨by unfold tiP; omega, by unfold tmV; rw [if_neg (by omega), if_neg (by omega), if_neg (by omega), if_neg (by omega), if_neg (by omega), ← h_97.1, ← h_108.1]; exact tm_3 (by omega) (by omega) (by omega) ex_128⟩), ht⟩) (fun _ h => nomatch h) dX12_times_145 hlk
                · skip
                  refine lv_aload_n SS.1 SS.2.1 dX12_times_81 rfl (lv_at hl 0 rfl) ?_
                  refine lv_iload_n SS.1 SS.2.1 dX12_times_82 rfl (lv_at hl 1 rfl) ?_
                  refine j_vRi SS (As := [.int (J s)]) (rest := []) (c_X12_edgeOf l D o q u s (show 0 ≤ s ∧ s ≤ 7 from (by omega)) (show Sh u s from (p0.1 _ (by omega) (by omega)))) mf_X12_edgeOf kw_1222 hG hP hP (ci := 8) (q0 := 0) rfl rfl rfl rfl hl.1 ⟨⟨Nat.le_of_ble_eq_true rfl, Nat.le_of_ble_eq_true rfl⟩, Nat.le_of_ble_eq_true rfl, Nat.le_refl _, Nat.le_refl _⟩ rfl dX12_times_83 (fun z_83 h_83 => ?_)
                  have h_83 : z_83 = mEd u s ∧ 0 ≤ z_83 ∧ z_83 ≤ 2000 := h_83
                  refine j_iconst SS dX12_times_86 ?_
                  refine j_isub SS (x := z_83) (y := 1) dX12_times_87 ?_
                  refine lv_i2l SS.1 SS.2.1 dX12_times_88 rfl ?_
                  refine lv_iload_n SS.1 SS.2.1 dX12_times_89 rfl (lv_at hl 2 rfl) ?_
                  refine lv_i2l SS.1 SS.2.1 dX12_times_90 rfl ?_
                  refine lv_lmul SS.1 SS.2.1 dX12_times_91 ?_
                  refine lv_lconst (v := 1) SS.1 SS.2.1 dX12_times_92 (by decide +kernel) ?_
                  refine lv_ladd SS.1 SS.2.1 dX12_times_93 ?_
                  exact W.lret SS.1 SS.2.1 hr (fun t ht hW => ⟨_, rfl, (by first | exact Or.inl ⟨fun q => by unfold tiP at q; omega, rfl⟩ | exact Or.inr ⟨by unfold tiP; omega, by unfold tmV; rw [if_pos ⟨by omega, by omega⟩]; rfl⟩ | exact Or.inr ⟨by unfold tiP; omega, by unfold tmV; rw [if_neg (by omega), if_pos (by omega)]; rfl⟩ | exact Or.inr ⟨by unfold tiP; omega, by unfold tmV; rw [if_neg (by omega), if_neg (by omega), if_pos (by omega), if_pos (by omega)]; rfl⟩ | exact Or.inr ⟨by unfold tiP; omega, by unfold tmV; rw [if_neg (by omega), if_neg (by omega), if_pos (by omega), if_neg (by omega)]; rfl⟩ | exact Or.inr ⟨by unfold tiP; omega, by unfold tmV; rw [if_neg (by omega), if_neg (by omega), if_neg (by omega), if_pos (by omega), ← h_83.1]; exact tm_1 (by omega) (by omega)⟩ | exact Or.inr ⟨by unfold tiP; omega, by unfold tmV; rw [if_neg (by omega), if_neg (by omega), if_neg (by omega), if_neg (by omega), if_pos (by omega), ← h_97.1, ← h_108.1]; exact tm_4 (by omega) (by omega) (by omega) ex_128⟩ | exact Or.inr ⟨by unfold tiP; omega, by unfold tmV; rw [if_neg (by omega), if_neg (by omega), if_neg (by omega), if_neg (by omega), if_neg (by omega), ← h_97.1, ← h_108.1]; exact tm_3 (by omega) (by omega) (by omega) ex_128⟩), ht⟩) (fun _ h => nomatch h) dX12_times_94 hlk
              · skip
                refine lv_iload_n SS.1 SS.2.1 dX12_times_63 rfl (lv_at hl 3 rfl) ?_
                refine j_if_ne SS (tgt := 71) (x := what) dX12_times_64 (by decide) (by omega) (fun c_64 => ?_) (fun c_64 => ?_)
                · skip
                  refine lv_lconst (v := 0) SS.1 SS.2.1 dX12_times_71 (by decide +kernel) ?_
                  exact W.lret SS.1 SS.2.1 hr (fun t ht hW => ⟨_, rfl, (by first | exact Or.inl ⟨fun q => by unfold tiP at q; omega, rfl⟩ | exact Or.inr ⟨by unfold tiP; omega, by unfold tmV; rw [if_pos ⟨by omega, by omega⟩]; rfl⟩ | exact Or.inr ⟨by unfold tiP; omega, by unfold tmV; rw [if_neg (by omega), if_pos (by omega)]; rfl⟩ | exact Or.inr ⟨by unfold tiP; omega, by unfold tmV; rw [if_neg (by omega), if_neg (by omega), if_pos (by omega), if_pos (by omega)]; rfl⟩ | exact Or.inr ⟨by unfold tiP; omega, by unfold tmV; rw [if_neg (by omega), if_neg (by omega), if_pos (by omega), if_neg (by omega)]; rfl⟩ | exact Or.inr ⟨by unfold tiP; omega, by unfold tmV; rw [if_neg (by omega), if_neg (by omega), if_neg (by omega), if_pos (by omega), ← h_83.1]; exact tm_1 (by omega) (by omega)⟩ | exact Or.inr ⟨by unfold tiP; omega, by unfold tmV; rw [if_neg (by omega), if_neg (by omega), if_neg (by omega), if_neg (by omega), if_pos (by omega), ← h_97.1, ← h_108.1]; exact tm_4 (by omega) (by omega) (by omega) ex_128⟩ | exact Or.inr ⟨by unfold tiP; omega, by unfold tmV; rw [if_neg (by omega), if_neg (by omega), if_neg (by omega), if_neg (by omega), if_neg (by omega), ← h_97.1, ← h_108.1]; exact tm_3 (by omega) (by omega) (by omega) ex_128⟩), ht⟩) (fun _ h => nomatch h) dX12_times_72 hlk
                · skip
                  refine lv_lconst (v := 1) SS.1 SS.2.1 dX12_times_67 (by decide +kernel) ?_
                  refine lv_goto (tgt := 72) SS.1 SS.2.1 dX12_times_68 (by decide) ?_
                  exact W.lret SS.1 SS.2.1 hr (fun t ht hW => ⟨_, rfl, (by first | exact Or.inl ⟨fun q => by unfold tiP at q; omega, rfl⟩ | exact Or.inr ⟨by unfold tiP; omega, by unfold tmV; rw [if_pos ⟨by omega, by omega⟩]; rfl⟩ | exact Or.inr ⟨by unfold tiP; omega, by unfold tmV; rw [if_neg (by omega), if_pos (by omega)]; rfl⟩ | exact Or.inr ⟨by unfold tiP; omega, by unfold tmV; rw [if_neg (by omega), if_neg (by omega), if_pos (by omega), if_pos (by omega)]; rfl⟩ | exact Or.inr ⟨by unfold tiP; omega, by unfold tmV; rw [if_neg (by omega), if_neg (by omega), if_pos (by omega), if_neg (by omega)]; rfl⟩ | exact Or.inr ⟨by unfold tiP; omega, by unfold tmV; rw [if_neg (by omega), if_neg (by omega), if_neg (by omega), if_pos (by omega), ← h_83.1]; exact tm_1 (by omega) (by omega)⟩ | exact Or.inr ⟨by unfold tiP; omega, by unfold tmV; rw [if_neg (by omega), if_neg (by omega), if_neg (by omega), if_neg (by omega), if_pos (by omega), ← h_97.1, ← h_108.1]; exact tm_4 (by omega) (by omega) (by omega) ex_128⟩ | exact Or.inr ⟨by unfold tiP; omega, by unfold tmV; rw [if_neg (by omega), if_neg (by omega), if_neg (by omega), if_neg (by omega), if_neg (by omega), ← h_97.1, ← h_108.1]; exact tm_3 (by omega) (by omega) (by omega) ex_128⟩), ht⟩) (fun _ h => nomatch h) dX12_times_72 hlk
            · skip
              refine lv_lconst (v := 0) SS.1 SS.2.1 dX12_times_57 (by decide +kernel) ?_
              exact W.lret SS.1 SS.2.1 hr (fun t ht hW => ⟨_, rfl, (by first | exact Or.inl ⟨fun q => by unfold tiP at q; omega, rfl⟩ | exact Or.inr ⟨by unfold tiP; omega, by unfold tmV; rw [if_pos ⟨by omega, by omega⟩]; rfl⟩ | exact Or.inr ⟨by unfold tiP; omega, by unfold tmV; rw [if_neg (by omega), if_pos (by omega)]; rfl⟩ | exact Or.inr ⟨by unfold tiP; omega, by unfold tmV; rw [if_neg (by omega), if_neg (by omega), if_pos (by omega), if_pos (by omega)]; rfl⟩ | exact Or.inr ⟨by unfold tiP; omega, by unfold tmV; rw [if_neg (by omega), if_neg (by omega), if_pos (by omega), if_neg (by omega)]; rfl⟩ | exact Or.inr ⟨by unfold tiP; omega, by unfold tmV; rw [if_neg (by omega), if_neg (by omega), if_neg (by omega), if_pos (by omega), ← h_83.1]; exact tm_1 (by omega) (by omega)⟩ | exact Or.inr ⟨by unfold tiP; omega, by unfold tmV; rw [if_neg (by omega), if_neg (by omega), if_neg (by omega), if_neg (by omega), if_pos (by omega), ← h_97.1, ← h_108.1]; exact tm_4 (by omega) (by omega) (by omega) ex_128⟩ | exact Or.inr ⟨by unfold tiP; omega, by unfold tmV; rw [if_neg (by omega), if_neg (by omega), if_neg (by omega), if_neg (by omega), if_neg (by omega), ← h_97.1, ← h_108.1]; exact tm_3 (by omega) (by omega) (by omega) ex_128⟩), ht⟩) (fun _ h => nomatch h) dX12_times_58 hlk
          · skip
            refine lv_ldc2 SS.1 SS.2.1 SS.2.2.2.1 (SS.2.2.2.2 _ kw_1249) dX12_times_44 ?_
            exact W.lret SS.1 SS.2.1 hr (fun t ht hW => ⟨_, rfl, (by first | exact Or.inl ⟨fun q => by unfold tiP at q; omega, rfl⟩ | exact Or.inr ⟨by unfold tiP; omega, by unfold tmV; rw [if_pos ⟨by omega, by omega⟩]; rfl⟩ | exact Or.inr ⟨by unfold tiP; omega, by unfold tmV; rw [if_neg (by omega), if_pos (by omega)]; rfl⟩ | exact Or.inr ⟨by unfold tiP; omega, by unfold tmV; rw [if_neg (by omega), if_neg (by omega), if_pos (by omega), if_pos (by omega)]; rfl⟩ | exact Or.inr ⟨by unfold tiP; omega, by unfold tmV; rw [if_neg (by omega), if_neg (by omega), if_pos (by omega), if_neg (by omega)]; rfl⟩ | exact Or.inr ⟨by unfold tiP; omega, by unfold tmV; rw [if_neg (by omega), if_neg (by omega), if_neg (by omega), if_pos (by omega), ← h_83.1]; exact tm_1 (by omega) (by omega)⟩ | exact Or.inr ⟨by unfold tiP; omega, by unfold tmV; rw [if_neg (by omega), if_neg (by omega), if_neg (by omega), if_neg (by omega), if_pos (by omega), ← h_97.1, ← h_108.1]; exact tm_4 (by omega) (by omega) (by omega) ex_128⟩ | exact Or.inr ⟨by unfold tiP; omega, by unfold tmV; rw [if_neg (by omega), if_neg (by omega), if_neg (by omega), if_neg (by omega), if_neg (by omega), ← h_97.1, ← h_108.1]; exact tm_3 (by omega) (by omega) (by omega) ex_128⟩), ht⟩) (fun _ h => nomatch h) dX12_times_47 hlk
      · skip
        refine lv_ldc2 SS.1 SS.2.1 SS.2.2.2.1 (SS.2.2.2.2 _ kw_1248) dX12_times_27 ?_
        exact W.lret SS.1 SS.2.1 hr (fun t ht hW => ⟨_, rfl, (by first | exact Or.inl ⟨fun q => by unfold tiP at q; omega, rfl⟩ | exact Or.inr ⟨by unfold tiP; omega, by unfold tmV; rw [if_pos ⟨by omega, by omega⟩]; rfl⟩ | exact Or.inr ⟨by unfold tiP; omega, by unfold tmV; rw [if_neg (by omega), if_pos (by omega)]; rfl⟩ | exact Or.inr ⟨by unfold tiP; omega, by unfold tmV; rw [if_neg (by omega), if_neg (by omega), if_pos (by omega), if_pos (by omega)]; rfl⟩ | exact Or.inr ⟨by unfold tiP; omega, by unfold tmV; rw [if_neg (by omega), if_neg (by omega), if_pos (by omega), if_neg (by omega)]; rfl⟩ | exact Or.inr ⟨by unfold tiP; omega, by unfold tmV; rw [if_neg (by omega), if_neg (by omega), if_neg (by omega), if_pos (by omega), ← h_83.1]; exact tm_1 (by omega) (by omega)⟩ | exact Or.inr ⟨by unfold tiP; omega, by unfold tmV; rw [if_neg (by omega), if_neg (by omega), if_neg (by omega), if_neg (by omega), if_pos (by omega), ← h_97.1, ← h_108.1]; exact tm_4 (by omega) (by omega) (by omega) ex_128⟩ | exact Or.inr ⟨by unfold tiP; omega, by unfold tmV; rw [if_neg (by omega), if_neg (by omega), if_neg (by omega), if_neg (by omega), if_neg (by omega), ← h_97.1, ← h_108.1]; exact tm_3 (by omega) (by omega) (by omega) ex_128⟩), ht⟩) (fun _ h => nomatch h) dX12_times_30 hlk
