
def wcr (u : MS) (s i px py : Int) : Int := (mX u s (i + 1) - mX u s i) * (py - mY u s i) - (mY u s (i + 1) - mY u s i) * (px - mX u s i)
def wIn (u : MS) (s px py n : Int) : Prop := ∀ i : Int, 0 ≤ i → i < n → 0 ≤ wcr u s i px py
def wBt (u : MS) (s i px py : Int) : Prop := (px - mX u s i) * (px - mX u s (i + 1)) ≤ 0 ∧ (py - mY u s i) * (py - mY u s (i + 1)) ≤ 0
def wOn (u : MS) (s px py n : Int) : Prop := ∃ i : Int, 0 ≤ i ∧ i < n ∧ wcr u s i px py = 0 ∧ wBt u s i px py
theorem wIn_s {u : MS} {s px py n : Int} (h : 0 ≤ n) : wIn u s px py (n + 1) ↔ wIn u s px py n ∧ 0 ≤ wcr u s n px py := by
  constructor
  · intro q; exact ⟨fun i h1 h2 => q i h1 (by omega), q n h (by omega)⟩
  · intro q i h1 h2
    by_cases e : i = n
    · rw [e]; exact q.2
    · exact q.1 i h1 (by omega)
theorem wOn_s {u : MS} {s px py n : Int} (h : 0 ≤ n) : wOn u s px py (n + 1) ↔ wOn u s px py n ∨ (wcr u s n px py = 0 ∧ wBt u s n px py) := by
  constructor
  · intro ⟨i, h1, h2, h3⟩
    by_cases e : i = n
    · rw [e] at h3; exact Or.inr h3
    · exact Or.inl ⟨i, h1, by omega, h3⟩
  · intro q
    rcases q with ⟨i, h1, h2, h3⟩ | q
    · exact ⟨i, h1, by omega, h3⟩
    · exact ⟨n, h, by omega, q⟩
def wR (u : MS) (s px py z : Int) : Prop := (mN u s < 2 ∧ ((z = 1 ∧ mN u s = 1 ∧ mX u s 0 = px ∧ mY u s 0 = py) ∨ (z = 0 ∧ ¬ (mN u s = 1 ∧ mX u s 0 = px ∧ mY u s 0 = py)))) ∨ (2 ≤ mN u s ∧ ((z = 1 ∧ wOn u s px py (mN u s)) ∨ (z = 2 ∧ ¬ wOn u s px py (mN u s) ∧ wIn u s px py (mN u s) ∧ 2 < mN u s) ∨ (z = 0 ∧ ¬ wOn u s px py (mN u s) ∧ ¬ (wIn u s px py (mN u s) ∧ 2 < mN u s))))
theorem wR_b {u : MS} {s px py z : Int} (h : wR u s px py z) : 0 ≤ z ∧ z ≤ 2 := by unfold wR at h; omega

set_option maxHeartbeats 4000000 in
set_option maxRecDepth 100000 in
theorem c_X12_whereOf (l : Launch) (D : JD) (o : Nat) (q : Nat → Nat) (u : MS) (s : Int) (x : Int) (y : Int) (p0 : 0 ≤ s ∧ s ≤ 7) (p1 : Sh u s) (p2 : -100 ≤ x ∧ x ≤ 100) (p3 : -100 ≤ y ∧ y ≤ 100) : Met l yX12_whereOf (jw yX12_whereOf cX12_whereOf 9 (some .int)) (jr 1 23) (jP [.ref o, .int (J s), .int (J x), .int (J y)] D (fun H => va_P D.1 j_cl (mW D o q u) H)) (jRi (fun z => wR u s x y z)) 0 0 (fun _ => False) := by
  refine Met.ofW (cc := cX12_whereOf) (maxL := 9) (ret := (some .int)) (by decide) rfl ?_
  intro pr en st mi args below meth co s₁ B hml hv
  obtain ⟨rfl, hG, hP⟩ := hv
  have hr := B.returns
  have hlk := B.notSynchronized
  have SS : jS pr mi co cX12_whereOf 9 st _ RX12 := ⟨B.exec, B.bytes, hml, findClass_of_methodNamed B.named, fun w hw => atoms_spec (ws := (jw yX12_whereOf cX12_whereOf 9 (some .int))) B.pre w (List.mem_cons_of_mem _ hw)⟩
  have hl := lv_entry ([.ref o, .int (J s), .int (J x), .int (J y)]) (n := 9) (Nat.le_of_ble_eq_true rfl)
  rw [lg_entry_eq]
  generalize (lg_sl ([.ref o, .int (J s), .int (J x), .int (J y)]) ++ List.replicate (9 - (lg_sl ([.ref o, .int (J s), .int (J x), .int (J y)])).length) Slot.unset).toArray = ls at hl ⊢
  have hl : lv_has ls 9 [(0, .ref o), (1, .int (J s)), (2, .int (J x)), (3, .int (J y))] := hl
  have hN := p1.1
  have hC := p1.2.2
  refine lv_aload_n SS.1 SS.2.1 dX12_whereOf_0 rfl (lv_at hl 0 rfl) ?_
  refine j_get SS hG hP 0 (v := .ref (q 0)) (C := RX12) (T := TX12) (N := 31) rfl rfl inX12 0 (by decide) (ref := RX12) kw_1058 rfl rfl dX12_whereOf_1 ?_
  refine lv_iload_n SS.1 SS.2.1 dX12_whereOf_4 rfl (lv_at hl 1 rfl) ?_
  refine j_iald SS hG hP 1 (n := 8) (f := (u.1 0)) rfl (z := s) (by omega) (by omega) dX12_whereOf_5 ?_
  refine j_iconst SS dX12_whereOf_6 ?_
  refine j_icmp_ge SS (tgt := 46) (x := (mN u s)) (y := 2) dX12_whereOf_7 (by decide) (by omega) (by decide) (fun c_7 => ?_) (fun c_7 => ?_)
  · skip
    refine j_iconst SS dX12_whereOf_46 ?_
    refine lv_istore (lv' := [(4, .int (J 1)), (0, .ref o), (1, .int (J s)), (2, .int (J x)), (3, .int (J y))]) SS.1 SS.2.1 dX12_whereOf_47 hl (by decide) rfl (fun ls hl => ?_)
    refine j_iconst SS dX12_whereOf_49 ?_
    refine lv_istore (lv' := [(5, .int (J 0)), (4, .int (J 1)), (0, .ref o), (1, .int (J s)), (2, .int (J x)), (3, .int (J y))]) SS.1 SS.2.1 dX12_whereOf_50 hl (by decide) rfl (fun ls hl => ?_)
    refine j_iconst SS dX12_whereOf_52 ?_
    refine lv_istore (lv' := [(6, .int (J 0)), (5, .int (J 0)), (4, .int (J 1)), (0, .ref o), (1, .int (J s)), (2, .int (J x)), (3, .int (J y))]) SS.1 SS.2.1 dX12_whereOf_53 hl (by decide) rfl (fun ls hl => ?_)
    have L_55 : ∀ (nn : Nat) (w : Int) (v : Int) (i : Int) (ls : Array Slot) (hl : lv_has ls 9 [(0, .ref o), (1, .int (J s)), (2, .int (J x)), (3, .int (J y)), (4, .int (J w)), (5, .int (J v)), (6, .int (J i))]) (i55_0 : 0 ≤ i ∧ i ≤ mN u s) (i55_1 : (w = 1 ∧ wIn u s x y i) ∨ (w = 0 ∧ ¬ wIn u s x y i)) (i55_2 : (v = 1 ∧ wOn u s x y i) ∨ (v = 0 ∧ ¬ wOn u s x y i)), (mN u s - i).toNat < nn → W pr l en (headSpec (jw yX12_whereOf cX12_whereOf 9 (some .int)) (jr 1 23)).room st mi (([.ref o, .int (J s), .int (J x), .int (J y)] : List Value).toArray) below meth co st.heap [] 0 0 (MQ below (jRi (fun z => wR u s x y z)) (([.ref o, .int (J s), .int (J x), .int (J y)] : List Value).toArray) st 0 0 (fun _ => False)) (F0 mi 55 ls []) := by
      intro nn
      induction nn with
      | zero => intros; omega
      | succ nn ih_55 =>
        intro w v i ls hl i55_0 i55_1 i55_2 hm
        refine lv_iload SS.1 SS.2.1 dX12_whereOf_55 (lv_at hl 6 rfl) ?_
        refine lv_aload_n SS.1 SS.2.1 dX12_whereOf_57 rfl (lv_at hl 0 rfl) ?_
        refine j_get SS hG hP 0 (v := .ref (q 0)) (C := RX12) (T := TX12) (N := 31) rfl rfl inX12 0 (by decide) (ref := RX12) kw_1058 rfl rfl dX12_whereOf_58 ?_
        refine lv_iload_n SS.1 SS.2.1 dX12_whereOf_61 rfl (lv_at hl 1 rfl) ?_
        refine j_iald SS hG hP 1 (n := 8) (f := (u.1 0)) rfl (z := s) (by omega) (by omega) dX12_whereOf_62 ?_
        refine j_icmp_ge SS (tgt := 223) (x := i) (y := (mN u s)) dX12_whereOf_63 (by decide) (by omega) (by omega) (fun c_63 => ?_) (fun c_63 => ?_)
        · skip
          refine lv_iload SS.1 SS.2.1 dX12_whereOf_223 (lv_at hl 5 rfl) ?_
          refine j_if_eq SS (tgt := 232) (x := v) dX12_whereOf_225 (by decide) (by omega) (fun c_225 => ?_) (fun c_225 => ?_)
          · skip
            refine lv_iload SS.1 SS.2.1 dX12_whereOf_232 (lv_at hl 4 rfl) ?_
            refine j_if_eq SS (tgt := 249) (x := w) dX12_whereOf_234 (by decide) (by omega) (fun c_234 => ?_) (fun c_234 => ?_)
            · skip
              refine j_iconst SS dX12_whereOf_249 ?_
              exact W.iret SS.1 SS.2.1 hr (fun t ht hW => ⟨_, rfl, ⟨0, rfl, (Or.inr ⟨by omega, by rw [show i = mN u s by omega] at i55_1 i55_2; first | (refine Or.inl ⟨rfl, ?_⟩; rcases i55_2 with k | k; exact k.2; omega) | (refine Or.inr (Or.inl ⟨rfl, ?_, ?_, ?_⟩); (rcases i55_2 with k | k; omega; exact k.2); (rcases i55_1 with k | k; exact k.2; omega); omega) | (refine Or.inr (Or.inr ⟨rfl, ?_, ?_⟩); (rcases i55_2 with k | k; omega; exact k.2); (intro q; first | omega | (rcases i55_1 with k | k; omega; exact k.2 q.1)))⟩)⟩, ht⟩) (fun _ h => nomatch h) dX12_whereOf_250 hlk
            · skip
              refine lv_aload_n SS.1 SS.2.1 dX12_whereOf_237 rfl (lv_at hl 0 rfl) ?_
              refine lv_iload_n SS.1 SS.2.1 dX12_whereOf_238 rfl (lv_at hl 1 rfl) ?_
              refine j_vRi SS (As := [.int (J s)]) (rest := []) (c_X12_isPolygon l D o q u s (show 0 ≤ s ∧ s ≤ 7 from (p0)) (show Sh u s from (p1))) mf_X12_isPolygon kw_1240 hG hP hP (ci := 8) (q0 := 0) rfl rfl rfl rfl hl.1 ⟨⟨Nat.le_of_ble_eq_true rfl, Nat.le_of_ble_eq_true rfl⟩, Nat.le_of_ble_eq_true rfl, Nat.le_refl _, Nat.le_refl _⟩ rfl dX12_whereOf_239 (fun z_239 h_239 => ?_)
              have h_239 : (z_239 = 1 ∧ 2 < mN u s) ∨ (z_239 = 0 ∧ mN u s ≤ 2) := h_239
              refine j_if_eq SS (tgt := 249) (x := z_239) dX12_whereOf_242 (by decide) (by omega) (fun c_242 => ?_) (fun c_242 => ?_)
              · skip
                refine j_iconst SS dX12_whereOf_249 ?_
                exact W.iret SS.1 SS.2.1 hr (fun t ht hW => ⟨_, rfl, ⟨0, rfl, (Or.inr ⟨by omega, by rw [show i = mN u s by omega] at i55_1 i55_2; first | (refine Or.inl ⟨rfl, ?_⟩; rcases i55_2 with k | k; exact k.2; omega) | (refine Or.inr (Or.inl ⟨rfl, ?_, ?_, ?_⟩); (rcases i55_2 with k | k; omega; exact k.2); (rcases i55_1 with k | k; exact k.2; omega); omega) | (refine Or.inr (Or.inr ⟨rfl, ?_, ?_⟩); (rcases i55_2 with k | k; omega; exact k.2); (intro q; first | omega | (rcases i55_1 with k | k; omega; exact k.2 q.1)))⟩)⟩, ht⟩) (fun _ h => nomatch h) dX12_whereOf_250 hlk
              · skip
                refine j_iconst SS dX12_whereOf_245 ?_
                refine lv_goto (tgt := 250) SS.1 SS.2.1 dX12_whereOf_246 (by decide) ?_
                exact W.iret SS.1 SS.2.1 hr (fun t ht hW => ⟨_, rfl, ⟨2, rfl, (Or.inr ⟨by omega, by rw [show i = mN u s by omega] at i55_1 i55_2; first | (refine Or.inl ⟨rfl, ?_⟩; rcases i55_2 with k | k; exact k.2; omega) | (refine Or.inr (Or.inl ⟨rfl, ?_, ?_, ?_⟩); (rcases i55_2 with k | k; omega; exact k.2); (rcases i55_1 with k | k; exact k.2; omega); omega) | (refine Or.inr (Or.inr ⟨rfl, ?_, ?_⟩); (rcases i55_2 with k | k; omega; exact k.2); (intro q; first | omega | (rcases i55_1 with k | k; omega; exact k.2 q.1)))⟩)⟩, ht⟩) (fun _ h => nomatch h) dX12_whereOf_250 hlk
          · skip
            refine j_iconst SS dX12_whereOf_228 ?_
            refine lv_goto (tgt := 250) SS.1 SS.2.1 dX12_whereOf_229 (by decide) ?_
            exact W.iret SS.1 SS.2.1 hr (fun t ht hW => ⟨_, rfl, ⟨1, rfl, (Or.inr ⟨by omega, by rw [show i = mN u s by omega] at i55_1 i55_2; first | (refine Or.inl ⟨rfl, ?_⟩; rcases i55_2 with k | k; exact k.2; omega) | (refine Or.inr (Or.inl ⟨rfl, ?_, ?_, ?_⟩); (rcases i55_2 with k | k; omega; exact k.2); (rcases i55_1 with k | k; exact k.2; omega); omega) | (refine Or.inr (Or.inr ⟨rfl, ?_, ?_⟩); (rcases i55_2 with k | k; omega; exact k.2); (intro q; first | omega | (rcases i55_1 with k | k; omega; exact k.2 q.1)))⟩)⟩, ht⟩) (fun _ h => nomatch h) dX12_whereOf_250 hlk
        · skip
          have b1 := p1.2.1 (by omega) i (by omega)
          have b2 := p1.2.1 (by omega) (i + 1) (by omega)
          refine lv_aload_n SS.1 SS.2.1 dX12_whereOf_66 rfl (lv_at hl 0 rfl) ?_
          refine lv_iload_n SS.1 SS.2.1 dX12_whereOf_67 rfl (lv_at hl 1 rfl) ?_
          refine lv_iload SS.1 SS.2.1 dX12_whereOf_68 (lv_at hl 6 rfl) ?_
          refine j_iconst SS dX12_whereOf_70 ?_
          refine j_iadd SS (x := i) (y := 1) dX12_whereOf_71 ?_
          refine j_vRi SS (As := [.int (J s), .int (J (i + 1))]) (rest := []) (c_X12_x l D o q u s (i + 1) (show 0 ≤ s ∧ s ≤ 7 from (by omega)) (show 0 ≤ (i + 1) ∧ (i + 1) ≤ 1000000 from (by omega)) (show 0 < mN u s ∧ mN u s ≤ 24 from (by omega))) mf_X12_x kw_1177 hG hP hP (ci := 8) (q0 := 0) rfl rfl rfl rfl hl.1 ⟨⟨Nat.le_of_ble_eq_true rfl, Nat.le_of_ble_eq_true rfl⟩, Nat.le_of_ble_eq_true rfl, Nat.le_refl _, Nat.le_refl _⟩ rfl dX12_whereOf_72 (fun z_72 h_72 => ?_)
          have h_72 : z_72 = mX u s (i + 1) := h_72
          refine lv_aload_n SS.1 SS.2.1 dX12_whereOf_75 rfl (lv_at hl 0 rfl) ?_
          refine lv_iload_n SS.1 SS.2.1 dX12_whereOf_76 rfl (lv_at hl 1 rfl) ?_
          refine lv_iload SS.1 SS.2.1 dX12_whereOf_77 (lv_at hl 6 rfl) ?_
          refine j_vRi SS (As := [.int (J s), .int (J i)]) (rest := [.int (J z_72)]) (c_X12_x l D o q u s i (show 0 ≤ s ∧ s ≤ 7 from (by omega)) (show 0 ≤ i ∧ i ≤ 1000000 from (by omega)) (show 0 < mN u s ∧ mN u s ≤ 24 from (by omega))) mf_X12_x kw_1177 hG hP hP (ci := 8) (q0 := 0) rfl rfl rfl rfl hl.1 ⟨⟨Nat.le_of_ble_eq_true rfl, Nat.le_of_ble_eq_true rfl⟩, Nat.le_of_ble_eq_true rfl, Nat.le_refl _, Nat.le_refl _⟩ rfl dX12_whereOf_79 (fun z_79 h_79 => ?_)
          have h_79 : z_79 = mX u s i := h_79
          refine j_isub SS (x := z_72) (y := z_79) dX12_whereOf_82 ?_
          refine lv_aload_n SS.1 SS.2.1 dX12_whereOf_83 rfl (lv_at hl 0 rfl) ?_
          refine lv_iload_n SS.1 SS.2.1 dX12_whereOf_84 rfl (lv_at hl 1 rfl) ?_
          refine lv_iload SS.1 SS.2.1 dX12_whereOf_85 (lv_at hl 6 rfl) ?_
          refine j_iconst SS dX12_whereOf_87 ?_
          refine j_iadd SS (x := i) (y := 1) dX12_whereOf_88 ?_
          refine j_vRi SS (As := [.int (J s), .int (J (i + 1))]) (rest := [.int (J (z_72 - z_79))]) (c_X12_y l D o q u s (i + 1) (show 0 ≤ s ∧ s ≤ 7 from (by omega)) (show 0 ≤ (i + 1) ∧ (i + 1) ≤ 1000000 from (by omega)) (show 0 < mN u s ∧ mN u s ≤ 24 from (by omega))) mf_X12_y kw_1181 hG hP hP (ci := 8) (q0 := 0) rfl rfl rfl rfl hl.1 ⟨⟨Nat.le_of_ble_eq_true rfl, Nat.le_of_ble_eq_true rfl⟩, Nat.le_of_ble_eq_true rfl, Nat.le_refl _, Nat.le_refl _⟩ rfl dX12_whereOf_89 (fun z_89 h_89 => ?_)
          have h_89 : z_89 = mY u s (i + 1) := h_89
          refine lv_aload_n SS.1 SS.2.1 dX12_whereOf_92 rfl (lv_at hl 0 rfl) ?_
          refine lv_iload_n SS.1 SS.2.1 dX12_whereOf_93 rfl (lv_at hl 1 rfl) ?_
          refine lv_iload SS.1 SS.2.1 dX12_whereOf_94 (lv_at hl 6 rfl) ?_
          refine j_vRi SS (As := [.int (J s), .int (J i)]) (rest := [.int (J z_89), .int (J (z_72 - z_79))]) (c_X12_y l D o q u s i (show 0 ≤ s ∧ s ≤ 7 from (by omega)) (show 0 ≤ i ∧ i ≤ 1000000 from (by omega)) (show 0 < mN u s ∧ mN u s ≤ 24 from (by omega))) mf_X12_y kw_1181 hG hP hP (ci := 8) (q0 := 0) rfl rfl rfl rfl hl.1 ⟨⟨Nat.le_of_ble_eq_true rfl, Nat.le_of_ble_eq_true rfl⟩, Nat.le_of_ble_eq_true rfl, Nat.le_refl _, Nat.le_refl _⟩ rfl dX12_whereOf_96 (fun z_96 h_96 => ?_)
          have h_96 : z_96 = mY u s i := h_96
          refine j_isub SS (x := z_89) (y := z_96) dX12_whereOf_99 ?_
          refine lv_iload_n SS.1 SS.2.1 dX12_whereOf_100 rfl (lv_at hl 2 rfl) ?_
          refine lv_aload_n SS.1 SS.2.1 dX12_whereOf_101 rfl (lv_at hl 0 rfl) ?_
          refine lv_iload_n SS.1 SS.2.1 dX12_whereOf_102 rfl (lv_at hl 1 rfl) ?_
          refine lv_iload SS.1 SS.2.1 dX12_whereOf_103 (lv_at hl 6 rfl) ?_
          refine j_vRi SS (As := [.int (J s), .int (J i)]) (rest := [.int (J x), .int (J (z_89 - z_96)), .int (J (z_72 - z_79))]) (c_X12_x l D o q u s i (show 0 ≤ s ∧ s ≤ 7 from (by omega)) (show 0 ≤ i ∧ i ≤ 1000000 from (by omega)) (show 0 < mN u s ∧ mN u s ≤ 24 from (by omega))) mf_X12_x kw_1177 hG hP hP (ci := 8) (q0 := 0) rfl rfl rfl rfl hl.1 ⟨⟨Nat.le_of_ble_eq_true rfl, Nat.le_of_ble_eq_true rfl⟩, Nat.le_of_ble_eq_true rfl, Nat.le_refl _, Nat.le_refl _⟩ rfl dX12_whereOf_105 (fun z_105 h_105 => ?_)
          have h_105 : z_105 = mX u s i := h_105
          refine j_isub SS (x := x) (y := z_105) dX12_whereOf_108 ?_
          refine lv_iload_n SS.1 SS.2.1 dX12_whereOf_109 rfl (lv_at hl 3 rfl) ?_
          refine lv_aload_n SS.1 SS.2.1 dX12_whereOf_110 rfl (lv_at hl 0 rfl) ?_
          refine lv_iload_n SS.1 SS.2.1 dX12_whereOf_111 rfl (lv_at hl 1 rfl) ?_
          refine lv_iload SS.1 SS.2.1 dX12_whereOf_112 (lv_at hl 6 rfl) ?_
          refine j_vRi SS (As := [.int (J s), .int (J i)]) (rest := [.int (J y), .int (J (x - z_105)), .int (J (z_89 - z_96)), .int (J (z_72 - z_79))]) (c_X12_y l D o q u s i (show 0 ≤ s ∧ s ≤ 7 from (by omega)) (show 0 ≤ i ∧ i ≤ 1000000 from (by omega)) (show 0 < mN u s ∧ mN u s ≤ 24 from (by omega))) mf_X12_y kw_1181 hG hP hP (ci := 8) (q0 := 0) rfl rfl rfl rfl hl.1 ⟨⟨Nat.le_of_ble_eq_true rfl, Nat.le_of_ble_eq_true rfl⟩, Nat.le_of_ble_eq_true rfl, Nat.le_refl _, Nat.le_refl _⟩ rfl dX12_whereOf_114 (fun z_114 h_114 => ?_)
          have h_114 : z_114 = mY u s i := h_114
          refine j_isub SS (x := y) (y := z_114) dX12_whereOf_117 ?_
          refine j_sRi SS (As := [.int (J (z_72 - z_79)), .int (J (z_89 - z_96)), .int (J (x - z_105)), .int (J (y - z_114))]) (rest := []) (c_X12_cross l D (z_72 - z_79) (z_89 - z_96) (x - z_105) (y - z_114) ) mf_X12_cross kw_1259 hG trivial rfl hl.1 ⟨⟨Nat.le_of_ble_eq_true rfl, Nat.le_of_ble_eq_true rfl⟩, Nat.le_of_ble_eq_true rfl, Nat.le_refl _, Nat.le_refl _⟩ rfl dX12_whereOf_118 (fun z_118 h_118 => ?_)
          have h_118 : z_118 = (z_72 - z_79) * (y - z_114) - (z_89 - z_96) * (x - z_105) := h_118
          have e0 : z_118 = wcr u s i x y := by rw [h_118, h_72, h_79, h_89, h_96, h_105, h_114]; rfl
          have q1 := mulb (A := 80) (B := 140) (a := z_72 - z_79) (b := y - z_114) (by omega) (by omega)
          have q2 := mulb (A := 80) (B := 140) (a := z_89 - z_96) (b := x - z_105) (by omega) (by omega)
          refine lv_istore (lv' := [(7, .int (J z_118)), (0, .ref o), (1, .int (J s)), (2, .int (J x)), (3, .int (J y)), (4, .int (J w)), (5, .int (J v)), (6, .int (J i))]) SS.1 SS.2.1 dX12_whereOf_121 hl (by decide) rfl (fun ls hl => ?_)
          refine lv_iload SS.1 SS.2.1 dX12_whereOf_123 (lv_at hl 5 rfl) ?_
          have L_138 : ∀ (w1 : Int) (ls : Array Slot) (hl : lv_has ls 9 [(0, .ref o), (1, .int (J s)), (2, .int (J x)), (3, .int (J y)), (5, .int (J v)), (6, .int (J i)), (7, .int (J z_118))]) (i138_0 : (w1 = 1 ∧ wIn u s x y i ∧ 0 ≤ wcr u s i x y) ∨ (w1 = 0 ∧ ¬ (wIn u s x y i ∧ 0 ≤ wcr u s i x y))), W pr l en (headSpec (jw yX12_whereOf cX12_whereOf 9 (some .int)) (jr 1 23)).room st mi (([.ref o, .int (J s), .int (J x), .int (J y)] : List Value).toArray) below meth co st.heap [] 0 0 (MQ below (jRi (fun z => wR u s x y z)) (([.ref o, .int (J s), .int (J x), .int (J y)] : List Value).toArray) st 0 0 (fun _ => False)) (F0 mi 138 ls [.int (J w1)]) := by
            intro w1 ls hl i138_0
            refine lv_istore (lv' := [(4, .int (J w1)), (0, .ref o), (1, .int (J s)), (2, .int (J x)), (3, .int (J y)), (5, .int (J v)), (6, .int (J i)), (7, .int (J z_118))]) SS.1 SS.2.1 dX12_whereOf_138 hl (by decide) rfl (fun ls hl => ?_)
            refine lv_iload_n SS.1 SS.2.1 dX12_whereOf_140 rfl (lv_at hl 3 rfl) ?_
            refine lv_aload_n SS.1 SS.2.1 dX12_whereOf_141 rfl (lv_at hl 1 rfl) ?_
            refine lv_iload_n SS.1 SS.2.1 dX12_whereOf_142 rfl (lv_at hl 2 rfl) ?_
            refine lv_iload SS.1 SS.2.1 dX12_whereOf_143 (lv_at hl 6 rfl) ?_
            refine j_vRi SS (As := [.int (J s), .int (J i)]) (rest := [.int (J x)]) (c_X12_x l D o q u s i (show 0 ≤ s ∧ s ≤ 7 from (by omega)) (show 0 ≤ i ∧ i ≤ 1000000 from (by omega)) (show 0 < mN u s ∧ mN u s ≤ 24 from (by omega))) mf_X12_x kw_1177 hG hP hP (ci := 8) (q0 := 0) rfl rfl rfl rfl hl.1 ⟨⟨Nat.le_of_ble_eq_true rfl, Nat.le_of_ble_eq_true rfl⟩, Nat.le_of_ble_eq_true rfl, Nat.le_refl _, Nat.le_refl _⟩ rfl dX12_whereOf_145 (fun z_145 h_145 => ?_)
            have h_145 : z_145 = mX u s i := h_145
            refine j_isub SS (x := x) (y := z_145) dX12_whereOf_148 ?_
            refine lv_iload_n SS.1 SS.2.1 dX12_whereOf_149 rfl (lv_at hl 3 rfl) ?_
            refine lv_aload_n SS.1 SS.2.1 dX12_whereOf_150 rfl (lv_at hl 1 rfl) ?_
            refine lv_iload_n SS.1 SS.2.1 dX12_whereOf_151 rfl (lv_at hl 2 rfl) ?_
            refine lv_iload SS.1 SS.2.1 dX12_whereOf_152 (lv_at hl 6 rfl) ?_
            refine j_iconst SS dX12_whereOf_154 ?_
            refine j_iadd SS (x := i) (y := 1) dX12_whereOf_155 ?_
            refine j_vRi SS (As := [.int (J s), .int (J (i + 1))]) (rest := [.int (J x), .int (J (x - z_145))]) (c_X12_x l D o q u s (i + 1) (show 0 ≤ s ∧ s ≤ 7 from (by omega)) (show 0 ≤ (i + 1) ∧ (i + 1) ≤ 1000000 from (by omega)) (show 0 < mN u s ∧ mN u s ≤ 24 from (by omega))) mf_X12_x kw_1177 hG hP hP (ci := 8) (q0 := 0) rfl rfl rfl rfl hl.1 ⟨⟨Nat.le_of_ble_eq_true rfl, Nat.le_of_ble_eq_true rfl⟩, Nat.le_of_ble_eq_true rfl, Nat.le_refl _, Nat.le_refl _⟩ rfl dX12_whereOf_156 (fun z_156 h_156 => ?_)
            have h_156 : z_156 = mX u s (i + 1) := h_156
            refine j_isub SS (x := x) (y := z_156) dX12_whereOf_159 ?_
            refine j_imul SS (x := (x - z_145)) (y := (x - z_156)) dX12_whereOf_160 ?_
            obtain ⟨m1, em1⟩ : ∃ z : Int, z = ((x - z_145) * (x - z_156)) := ⟨_, rfl⟩
            rw [← em1]
            have L_193 : ∀ (w2 : Int) (ls : Array Slot) (hl : lv_has ls 9 [(0, .ref o), (1, .int (J s)), (2, .int (J x)), (3, .int (J y)), (4, .int (J w1)), (5, .int (J v)), (6, .int (J i)), (7, .int (J z_118))]) (i193_0 : (w2 = 1 ∧ wBt u s i x y) ∨ (w2 = 0 ∧ ¬ wBt u s i x y)), W pr l en (headSpec (jw yX12_whereOf cX12_whereOf 9 (some .int)) (jr 1 23)).room st mi (([.ref o, .int (J s), .int (J x), .int (J y)] : List Value).toArray) below meth co st.heap [] 0 0 (MQ below (jRi (fun z => wR u s x y z)) (([.ref o, .int (J s), .int (J x), .int (J y)] : List Value).toArray) st 0 0 (fun _ => False)) (F0 mi 193 ls [.int (J w2)]) := by
              intro w2 ls hl i193_0
              refine lv_istore (lv' := [(8, .int (J w2)), (0, .ref o), (1, .int (J s)), (2, .int (J x)), (3, .int (J y)), (4, .int (J w1)), (5, .int (J v)), (6, .int (J i)), (7, .int (J z_118))]) SS.1 SS.2.1 dX12_whereOf_193 hl (by decide) rfl (fun ls hl => ?_)
              refine lv_iload SS.1 SS.2.1 dX12_whereOf_195 (lv_at hl 6 rfl) ?_
              refine j_if_ne SS (tgt := 210) (x := v) dX12_whereOf_197 (by decide) (by omega) (fun c_197 => ?_) (fun c_197 => ?_)
              · skip
                refine j_iconst SS dX12_whereOf_210 ?_
                refine lv_goto (tgt := 215) SS.1 SS.2.1 dX12_whereOf_211 (by decide) ?_
                refine lv_istore (lv' := [(5, .int (J 1)), (8, .int (J w2)), (0, .ref o), (1, .int (J s)), (2, .int (J x)), (3, .int (J y)), (4, .int (J w1)), (6, .int (J i)), (7, .int (J z_118))]) SS.1 SS.2.1 dX12_whereOf_215 hl (by decide) rfl (fun ls hl => ?_)
                refine lv_iinc (v := J (i + 1)) (lv' := [(6, .int (J (i + 1))), (5, .int (J 1)), (8, .int (J w2)), (0, .ref o), (1, .int (J s)), (2, .int (J x)), (3, .int (J y)), (4, .int (J w1)), (7, .int (J z_118))]) SS.1 SS.2.1 dX12_whereOf_217 hl (k := 7) rfl (J_add _ _) (by decide) rfl (fun ls hl => ?_)
                refine lv_goto (tgt := 55) SS.1 SS.2.1 dX12_whereOf_220 (by decide) ?_
                exact ih_55 w1 1 (i + 1) ls (lv_sub hl [3, 4, 5, 6, 7, 1, 0] rfl) (by omega) (by rw [wIn_s i55_0.1]; rcases i138_0 with k | k; exact Or.inl k; exact Or.inr k) (by rw [wOn_s i55_0.1]; first | (refine Or.inl ⟨rfl, ?_⟩; rcases i55_2 with k | k; exact Or.inl k.2; first | (exfalso; omega) | exact Or.inr ⟨by omega, by rcases i193_0 with k2 | k2; exact k2.2; omega⟩) | (refine Or.inr ⟨rfl, ?_⟩; rintro (k | k); (rcases i55_2 with k2 | k2; omega; exact k2.2 k); (first | omega | (rcases i193_0 with k2 | k2; omega; exact k2.2 k.2)))) (by omega)
              · skip
                refine lv_iload SS.1 SS.2.1 dX12_whereOf_200 (lv_at hl 8 rfl) ?_
                refine j_if_ne SS (tgt := 214) (x := z_118) dX12_whereOf_202 (by decide) (by omega) (fun c_202 => ?_) (fun c_202 => ?_)
                · skip
                  refine j_iconst SS dX12_whereOf_214 ?_
                  refine lv_istore (lv' := [(5, .int (J 0)), (8, .int (J w2)), (0, .ref o), (1, .int (J s)), (2, .int (J x)), (3, .int (J y)), (4, .int (J w1)), (6, .int (J i)), (7, .int (J z_118))]) SS.1 SS.2.1 dX12_whereOf_215 hl (by decide) rfl (fun ls hl => ?_)
                  refine lv_iinc (v := J (i + 1)) (lv' := [(6, .int (J (i + 1))), (5, .int (J 0)), (8, .int (J w2)), (0, .ref o), (1, .int (J s)), (2, .int (J x)), (3, .int (J y)), (4, .int (J w1)), (7, .int (J z_118))]) SS.1 SS.2.1 dX12_whereOf_217 hl (k := 7) rfl (J_add _ _) (by decide) rfl (fun ls hl => ?_)
                  refine lv_goto (tgt := 55) SS.1 SS.2.1 dX12_whereOf_220 (by decide) ?_
                  exact ih_55 w1 0 (i + 1) ls (lv_sub hl [3, 4, 5, 6, 7, 1, 0] rfl) (by omega) (by rw [wIn_s i55_0.1]; rcases i138_0 with k | k; exact Or.inl k; exact Or.inr k) (by rw [wOn_s i55_0.1]; first | (refine Or.inl ⟨rfl, ?_⟩; rcases i55_2 with k | k; exact Or.inl k.2; first | (exfalso; omega) | exact Or.inr ⟨by omega, by rcases i193_0 with k2 | k2; exact k2.2; omega⟩) | (refine Or.inr ⟨rfl, ?_⟩; rintro (k | k); (rcases i55_2 with k2 | k2; omega; exact k2.2 k); (first | omega | (rcases i193_0 with k2 | k2; omega; exact k2.2 k.2)))) (by omega)
                · skip
                  refine lv_iload SS.1 SS.2.1 dX12_whereOf_205 (lv_at hl 0 rfl) ?_
                  refine j_if_eq SS (tgt := 214) (x := w2) dX12_whereOf_207 (by decide) (by omega) (fun c_207 => ?_) (fun c_207 => ?_)
                  · skip
                    refine j_iconst SS dX12_whereOf_214 ?_
                    refine lv_istore (lv' := [(5, .int (J 0)), (8, .int (J w2)), (0, .ref o), (1, .int (J s)), (2, .int (J x)), (3, .int (J y)), (4, .int (J w1)), (6, .int (J i)), (7, .int (J z_118))]) SS.1 SS.2.1 dX12_whereOf_215 hl (by decide) rfl (fun ls hl => ?_)
                    refine lv_iinc (v := J (i + 1)) (lv' := [(6, .int (J (i + 1))), (5, .int (J 0)), (8, .int (J w2)), (0, .ref o), (1, .int (J s)), (2, .int (J x)), (3, .int (J y)), (4, .int (J w1)), (7, .int (J z_118))]) SS.1 SS.2.1 dX12_whereOf_217 hl (k := 7) rfl (J_add _ _) (by decide) rfl (fun ls hl => ?_)
                    refine lv_goto (tgt := 55) SS.1 SS.2.1 dX12_whereOf_220 (by decide) ?_
                    exact ih_55 w1 0 (i + 1) ls (lv_sub hl [3, 4, 5, 6, 7, 1, 0] rfl) (by omega) (by rw [wIn_s i55_0.1]; rcases i138_0 with k | k; exact Or.inl k; exact Or.inr k) (by rw [wOn_s i55_0.1]; first | (refine Or.inl ⟨rfl, ?_⟩; rcases i55_2 with k | k; exact Or.inl k.2; first | (exfalso; omega) | exact Or.inr ⟨by omega, by rcases i193_0 with k2 | k2; exact k2.2; omega⟩) | (refine Or.inr ⟨rfl, ?_⟩; rintro (k | k); (rcases i55_2 with k2 | k2; omega; exact k2.2 k); (first | omega | (rcases i193_0 with k2 | k2; omega; exact k2.2 k.2)))) (by omega)
                  · skip
                    refine j_iconst SS dX12_whereOf_210 ?_
                    refine lv_goto (tgt := 215) SS.1 SS.2.1 dX12_whereOf_211 (by decide) ?_
                    refine lv_istore (lv' := [(5, .int (J 1)), (8, .int (J w2)), (0, .ref o), (1, .int (J s)), (2, .int (J x)), (3, .int (J y)), (4, .int (J w1)), (6, .int (J i)), (7, .int (J z_118))]) SS.1 SS.2.1 dX12_whereOf_215 hl (by decide) rfl (fun ls hl => ?_)
                    refine lv_iinc (v := J (i + 1)) (lv' := [(6, .int (J (i + 1))), (5, .int (J 1)), (8, .int (J w2)), (0, .ref o), (1, .int (J s)), (2, .int (J x)), (3, .int (J y)), (4, .int (J w1)), (7, .int (J z_118))]) SS.1 SS.2.1 dX12_whereOf_217 hl (k := 7) rfl (J_add _ _) (by decide) rfl (fun ls hl => ?_)
                    refine lv_goto (tgt := 55) SS.1 SS.2.1 dX12_whereOf_220 (by decide) ?_
                    exact ih_55 w1 1 (i + 1) ls (lv_sub hl [3, 4, 5, 6, 7, 1, 0] rfl) (by omega) (by rw [wIn_s i55_0.1]; rcases i138_0 with k | k; exact Or.inl k; exact Or.inr k) (by rw [wOn_s i55_0.1]; first | (refine Or.inl ⟨rfl, ?_⟩; rcases i55_2 with k | k; exact Or.inl k.2; first | (exfalso; omega) | exact Or.inr ⟨by omega, by rcases i193_0 with k2 | k2; exact k2.2; omega⟩) | (refine Or.inr ⟨rfl, ?_⟩; rintro (k | k); (rcases i55_2 with k2 | k2; omega; exact k2.2 k); (first | omega | (rcases i193_0 with k2 | k2; omega; exact k2.2 k.2)))) (by omega)
            have q3 := mulb (A := 140) (B := 140) (a := x - z_145) (b := x - z_156) (by omega) (by omega)
            have e1 : m1 = (x - mX u s i) * (x - mX u s (i + 1)) := by rw [em1, h_145, h_156]
            refine j_if_gt SS (tgt := 192) (x := m1) dX12_whereOf_161 (by decide) (by omega) (fun c_161 => ?_) (fun c_161 => ?_)
            · skip
              refine j_iconst SS dX12_whereOf_192 ?_
              exact L_193 0 ls (lv_sub hl [1, 2, 3, 4, 0, 5, 6, 7] rfl) (Or.inr ⟨rfl, fun k => by first | (have k1 := k.1; rw [← e1] at k1; omega) | (have k2 := k.2; rw [← e2] at k2; omega)⟩)
            · skip
              refine lv_iload_n SS.1 SS.2.1 dX12_whereOf_164 rfl (lv_at hl 4 rfl) ?_
              refine lv_aload_n SS.1 SS.2.1 dX12_whereOf_165 rfl (lv_at hl 1 rfl) ?_
              refine lv_iload_n SS.1 SS.2.1 dX12_whereOf_166 rfl (lv_at hl 2 rfl) ?_
              refine lv_iload SS.1 SS.2.1 dX12_whereOf_167 (lv_at hl 6 rfl) ?_
              refine j_vRi SS (As := [.int (J s), .int (J i)]) (rest := [.int (J y)]) (c_X12_y l D o q u s i (show 0 ≤ s ∧ s ≤ 7 from (by omega)) (show 0 ≤ i ∧ i ≤ 1000000 from (by omega)) (show 0 < mN u s ∧ mN u s ≤ 24 from (by omega))) mf_X12_y kw_1181 hG hP hP (ci := 8) (q0 := 0) rfl rfl rfl rfl hl.1 ⟨⟨Nat.le_of_ble_eq_true rfl, Nat.le_of_ble_eq_true rfl⟩, Nat.le_of_ble_eq_true rfl, Nat.le_refl _, Nat.le_refl _⟩ rfl dX12_whereOf_169 (fun z_169 h_169 => ?_)
              have h_169 : z_169 = mY u s i := h_169
              refine j_isub SS (x := y) (y := z_169) dX12_whereOf_172 ?_
              refine lv_iload_n SS.1 SS.2.1 dX12_whereOf_173 rfl (lv_at hl 4 rfl) ?_
              refine lv_aload_n SS.1 SS.2.1 dX12_whereOf_174 rfl (lv_at hl 1 rfl) ?_
              refine lv_iload_n SS.1 SS.2.1 dX12_whereOf_175 rfl (lv_at hl 2 rfl) ?_
              refine lv_iload SS.1 SS.2.1 dX12_whereOf_176 (lv_at hl 6 rfl) ?_
              refine j_iconst SS dX12_whereOf_178 ?_
              refine j_iadd SS (x := i) (y := 1) dX12_whereOf_179 ?_
              refine j_vRi SS (As := [.int (J s), .int (J (i + 1))]) (rest := [.int (J y), .int (J (y - z_169))]) (c_X12_y l D o q u s (i + 1) (show 0 ≤ s ∧ s ≤ 7 from (by omega)) (show 0 ≤ (i + 1) ∧ (i + 1) ≤ 1000000 from (by omega)) (show 0 < mN u s ∧ mN u s ≤ 24 from (by omega))) mf_X12_y kw_1181 hG hP hP (ci := 8) (q0 := 0) rfl rfl rfl rfl hl.1 ⟨⟨Nat.le_of_ble_eq_true rfl, Nat.le_of_ble_eq_true rfl⟩, Nat.le_of_ble_eq_true rfl, Nat.le_refl _, Nat.le_refl _⟩ rfl dX12_whereOf_180 (fun z_180 h_180 => ?_)
              have h_180 : z_180 = mY u s (i + 1) := h_180
              refine j_isub SS (x := y) (y := z_180) dX12_whereOf_183 ?_
              refine j_imul SS (x := (y - z_169)) (y := (y - z_180)) dX12_whereOf_184 ?_
              obtain ⟨m2, em2⟩ : ∃ z : Int, z = ((y - z_169) * (y - z_180)) := ⟨_, rfl⟩
              rw [← em2]
              have q4 := mulb (A := 140) (B := 140) (a := y - z_169) (b := y - z_180) (by omega) (by omega)
              have e2 : m2 = (y - mY u s i) * (y - mY u s (i + 1)) := by rw [em2, h_169, h_180]
              refine j_if_gt SS (tgt := 192) (x := m2) dX12_whereOf_185 (by decide) (by omega) (fun c_185 => ?_) (fun c_185 => ?_)
              · skip
                refine j_iconst SS dX12_whereOf_192 ?_
                exact L_193 0 ls (lv_sub hl [1, 2, 3, 4, 0, 5, 6, 7] rfl) (Or.inr ⟨rfl, fun k => by first | (have k1 := k.1; rw [← e1] at k1; omega) | (have k2 := k.2; rw [← e2] at k2; omega)⟩)
              · skip
                refine j_iconst SS dX12_whereOf_188 ?_
                refine lv_goto (tgt := 193) SS.1 SS.2.1 dX12_whereOf_189 (by decide) ?_
                exact L_193 1 ls (lv_sub hl [1, 2, 3, 4, 0, 5, 6, 7] rfl) (Or.inl ⟨rfl, by rw [e1] at c_161; exact c_161, by rw [e2] at c_185; exact c_185⟩)
          refine j_if_eq SS (tgt := 137) (x := w) dX12_whereOf_125 (by decide) (by omega) (fun c_125 => ?_) (fun c_125 => ?_)
          · skip
            refine j_iconst SS dX12_whereOf_137 ?_
            exact L_138 0 ls (lv_sub hl [1, 2, 3, 4, 6, 7, 0] rfl) (Or.inr ⟨rfl, fun k => by first | omega | (rcases i55_1 with k2 | k2; omega; exact k2.2 k.1)⟩)
          · skip
            refine lv_iload SS.1 SS.2.1 dX12_whereOf_128 (lv_at hl 0 rfl) ?_
            refine j_if_lt SS (tgt := 137) (x := z_118) dX12_whereOf_130 (by decide) (by omega) (fun c_130 => ?_) (fun c_130 => ?_)
            · skip
              refine j_iconst SS dX12_whereOf_137 ?_
              exact L_138 0 ls (lv_sub hl [1, 2, 3, 4, 6, 7, 0] rfl) (Or.inr ⟨rfl, fun k => by first | omega | (rcases i55_1 with k2 | k2; omega; exact k2.2 k.1)⟩)
            · skip
              refine j_iconst SS dX12_whereOf_133 ?_
              refine lv_goto (tgt := 138) SS.1 SS.2.1 dX12_whereOf_134 (by decide) ?_
              exact L_138 1 ls (lv_sub hl [1, 2, 3, 4, 6, 7, 0] rfl) (Or.inl ⟨rfl, by rcases i55_1 with k | k; exact k.2; omega, by omega⟩)
    exact L_55 ((mN u s - (0 : Int)).toNat + 1) 1 0 0 ls (lv_sub hl [3, 4, 5, 6, 2, 1, 0] rfl) (by omega) (Or.inl ⟨rfl, fun j h1 h2 => by omega⟩) (Or.inr ⟨rfl, fun ⟨j, h1, h2, _⟩ => by omega⟩) (Nat.lt_succ_self _)
  · skip
    refine lv_aload_n SS.1 SS.2.1 dX12_whereOf_10 rfl (lv_at hl 0 rfl) ?_
    refine j_get SS hG hP 0 (v := .ref (q 0)) (C := RX12) (T := TX12) (N := 31) rfl rfl inX12 0 (by decide) (ref := RX12) kw_1058 rfl rfl dX12_whereOf_11 ?_
    refine lv_iload_n SS.1 SS.2.1 dX12_whereOf_14 rfl (lv_at hl 1 rfl) ?_
    refine j_iald SS hG hP 1 (n := 8) (f := (u.1 0)) rfl (z := s) (by omega) (by omega) dX12_whereOf_15 ?_
    refine j_iconst SS dX12_whereOf_16 ?_
    refine j_icmp_ne SS (tgt := 44) (x := (mN u s)) (y := 1) dX12_whereOf_17 (by decide) (by omega) (by decide) (fun c_17 => ?_) (fun c_17 => ?_)
    · skip
      refine j_iconst SS dX12_whereOf_44 ?_
      exact W.iret SS.1 SS.2.1 hr (fun t ht hW => ⟨_, rfl, ⟨0, rfl, (Or.inl ⟨by omega, by omega⟩)⟩, ht⟩) (fun _ h => nomatch h) dX12_whereOf_45 hlk
    · skip
      have b0 := p1.2.1 (by omega) 0 (by omega)
      refine lv_aload_n SS.1 SS.2.1 dX12_whereOf_20 rfl (lv_at hl 0 rfl) ?_
      refine lv_iload_n SS.1 SS.2.1 dX12_whereOf_21 rfl (lv_at hl 1 rfl) ?_
      refine j_iconst SS dX12_whereOf_22 ?_
      refine j_vRi SS (As := [.int (J s), .int (J 0)]) (rest := []) (c_X12_x l D o q u s 0 (show 0 ≤ s ∧ s ≤ 7 from (by omega)) (show 0 ≤ (0 : Int) ∧ (0 : Int) ≤ 1000000 from (by omega)) (show 0 < mN u s ∧ mN u s ≤ 24 from (by omega))) mf_X12_x kw_1177 hG hP hP (ci := 8) (q0 := 0) rfl rfl rfl rfl hl.1 ⟨⟨Nat.le_of_ble_eq_true rfl, Nat.le_of_ble_eq_true rfl⟩, Nat.le_of_ble_eq_true rfl, Nat.le_refl _, Nat.le_refl _⟩ rfl dX12_whereOf_23 (fun z_23 h_23 => ?_)
      have h_23 : z_23 = mX u s (0 : Int) := h_23
      refine lv_iload_n SS.1 SS.2.1 dX12_whereOf_26 rfl (lv_at hl 2 rfl) ?_
      refine j_icmp_ne SS (tgt := 44) (x := z_23) (y := x) dX12_whereOf_27 (by decide) (by omega) (by omega) (fun c_27 => ?_) (fun c_27 => ?_)
      · skip
        refine j_iconst SS dX12_whereOf_44 ?_
        exact W.iret SS.1 SS.2.1 hr (fun t ht hW => ⟨_, rfl, ⟨0, rfl, (Or.inl ⟨by omega, by omega⟩)⟩, ht⟩) (fun _ h => nomatch h) dX12_whereOf_45 hlk
      · skip
        refine lv_aload_n SS.1 SS.2.1 dX12_whereOf_30 rfl (lv_at hl 0 rfl) ?_
        refine lv_iload_n SS.1 SS.2.1 dX12_whereOf_31 rfl (lv_at hl 1 rfl) ?_
        refine j_iconst SS dX12_whereOf_32 ?_
        refine j_vRi SS (As := [.int (J s), .int (J 0)]) (rest := []) (c_X12_y l D o q u s 0 (show 0 ≤ s ∧ s ≤ 7 from (by omega)) (show 0 ≤ (0 : Int) ∧ (0 : Int) ≤ 1000000 from (by omega)) (show 0 < mN u s ∧ mN u s ≤ 24 from (by omega))) mf_X12_y kw_1181 hG hP hP (ci := 8) (q0 := 0) rfl rfl rfl rfl hl.1 ⟨⟨Nat.le_of_ble_eq_true rfl, Nat.le_of_ble_eq_true rfl⟩, Nat.le_of_ble_eq_true rfl, Nat.le_refl _, Nat.le_refl _⟩ rfl dX12_whereOf_33 (fun z_33 h_33 => ?_)
        have h_33 : z_33 = mY u s (0 : Int) := h_33
        refine lv_iload_n SS.1 SS.2.1 dX12_whereOf_36 rfl (lv_at hl 3 rfl) ?_
        refine j_icmp_ne SS (tgt := 44) (x := z_33) (y := y) dX12_whereOf_37 (by decide) (by omega) (by omega) (fun c_37 => ?_) (fun c_37 => ?_)
        · skip
          refine j_iconst SS dX12_whereOf_44 ?_
          exact W.iret SS.1 SS.2.1 hr (fun t ht hW => ⟨_, rfl, ⟨0, rfl, (Or.inl ⟨by omega, by omega⟩)⟩, ht⟩) (fun _ h => nomatch h) dX12_whereOf_45 hlk
        · skip
          refine j_iconst SS dX12_whereOf_40 ?_
          refine lv_goto (tgt := 45) SS.1 SS.2.1 dX12_whereOf_41 (by decide) ?_
          exact W.iret SS.1 SS.2.1 hr (fun t ht hW => ⟨_, rfl, ⟨1, rfl, (Or.inl ⟨by omega, by omega⟩)⟩, ht⟩) (fun _ h => nomatch h) dX12_whereOf_45 hlk


def LU (u : MS) (s lo hi : Int) (L U : Int → Int) : Prop := (∀ x y z : Int, lo ≤ x → x ≤ hi → wR u s x y z → 0 < z → L x ≤ y ∧ y ≤ U x) ∧ ∀ x : Int, lo ≤ x → x ≤ hi → L x ≤ U x + 1
def cb_ (L U : Int → Int) (lo n : Int) : Int := smI (fun k => U (lo + k) + 1 - L (lo + k)) n
theorem cb_0 {L U : Int → Int} {lo : Int} : cb_ L U lo 0 = 0 := rfl
theorem cb_s {L U : Int → Int} {lo x : Int} (h : lo ≤ x) : cb_ L U lo (x + 1 - lo) = cb_ L U lo (x - lo) + (U x + 1 - L x) := by
  unfold cb_
  rw [show x + 1 - lo = (x - lo) + 1 by omega, smI_s (by omega)]
  show _ + (U (lo + (x - lo)) + 1 - L (lo + (x - lo))) = _
  rw [show lo + (x - lo) = x by omega]
theorem os_no {f g : Nat → Int} {n x y : Int} (h : os_s f g n) (h2 : ∀ a : Nat, (a : Int) < n → lt2 (f a) (g a) x y) : os_s f g n ∧ ∀ a : Nat, (a : Int) < n → lt2 (f a) (g a) x (y + 1) :=
  ⟨h, fun a ha => by have q := h2 a ha; unfold lt2 at *; omega⟩
theorem os_put {f g : Nat → Int} {n x y : Int} (h0 : 0 ≤ n) (h : os_s f g n) (h2 : ∀ a : Nat, (a : Int) < n → lt2 (f a) (g a) x y) : os_s (upI f n.toNat x) (upI g n.toNat y) (n + 1) ∧ ∀ a : Nat, (a : Int) < n + 1 → lt2 (upI f n.toNat x a) (upI g n.toNat y a) x (y + 1) := by
  refine ⟨fun a ha => ?_, fun a ha => ?_⟩
  · by_cases e : (a : Int) + 1 = n
    · rw [show a + 1 = n.toNat by omega, upI_s, upI_s, upI_n (by omega), upI_n (by omega)]
      exact h2 a (by omega)
    · rw [upI_n (by omega), upI_n (by omega), upI_n (by omega), upI_n (by omega)]
      exact h a (by omega)
  · by_cases e : (a : Int) = n
    · rw [show a = n.toNat by omega, upI_s, upI_s]; unfold lt2; omega
    · rw [upI_n (by omega), upI_n (by omega)]
      have q := h2 a (by omega)
      unfold lt2 at *; omega
def fa_in (u : MS) (s i lx hx ly hy : Int) : Prop := ((i = 0 ∧ lx = 1000 ∧ hx = -1000 ∧ ly = 1000 ∧ hy = -1000) ∨ (0 < i ∧ -40 ≤ lx ∧ lx ≤ 40 ∧ -40 ≤ hx ∧ hx ≤ 40 ∧ -40 ≤ ly ∧ ly ≤ 40 ∧ -40 ≤ hy ∧ hy ≤ 40)) ∧ (∀ k : Int, 0 ≤ k → k < i → lx ≤ mX u s k ∧ mX u s k ≤ hx) ∧ (0 < i → (∃ k : Int, 0 ≤ k ∧ k < i ∧ mX u s k = lx) ∧ ∃ k : Int, 0 ≤ k ∧ k < i ∧ mX u s k = hx)
theorem fa_s {u : MS} {s i lx hx ly hy a b c d : Int} (hb : (-40 ≤ mX u s i ∧ mX u s i ≤ 40) ∧ (-40 ≤ mY u s i ∧ mY u s i ≤ 40)) (hi : 0 ≤ i) (h : fa_in u s i lx hx ly hy) (ha : (a = lx ∨ a = mX u s i) ∧ a ≤ lx ∧ a ≤ mX u s i) (hbb : (b = hx ∨ b = mX u s i) ∧ hx ≤ b ∧ mX u s i ≤ b) (hc : (c = ly ∨ c = mY u s i) ∧ c ≤ ly ∧ c ≤ mY u s i) (hd : (d = hy ∨ d = mY u s i) ∧ hy ≤ d ∧ mY u s i ≤ d) : fa_in u s (i + 1) a b c d := by
  obtain ⟨h1, h2, h3⟩ := h
  refine ⟨Or.inr (by clear h2 h3; omega), fun k k1 k2 => ?_, fun _ => ⟨?_, ?_⟩⟩
  · by_cases e : k = i
    · subst e; clear h2 h3; omega
    · have := h2 k k1 (by omega); clear h2 h3; omega
  · rcases ha.1 with e | e
    · by_cases hp : 0 < i
      · obtain ⟨⟨k, k1, k2, k3⟩, _⟩ := h3 hp; exact ⟨k, k1, by omega, by omega⟩
      · omega
    · exact ⟨i, hi, by omega, e.symm⟩
  · rcases hbb.1 with e | e
    · by_cases hp : 0 < i
      · obtain ⟨_, ⟨k, k1, k2, k3⟩⟩ := h3 hp; exact ⟨k, k1, by omega, by omega⟩
      · omega
    · exact ⟨i, hi, by omega, e.symm⟩

set_option maxHeartbeats 4000000 in
set_option maxRecDepth 100000 in
theorem c_X12_findAll (l : Launch) (D : JD) (o : Nat) (q : Nat → Nat) (u : MS) (A : Nat → Prop) (hD : va_D A (mW D o q u)) (s : Int) (p0 : 0 ≤ s ∧ s ≤ 7) (p1 : Sh u s) : Met l yX12_findAll (jw yX12_findAll cX12_findAll 8 none) (jr 2 51) (jP [.ref o, .int (J s)] D (fun H => va_P D.1 j_cl (mW D o q u) H)) (jWv (fun u' => ∃ X : Nat → Int, ∃ Y : Nat → Int, ∃ n : Int, ∃ lo : Int, ∃ hi : Int, u' = (uV (uI (uI u 10 X) 11 Y) 12 n) ∧ (0 ≤ n ∧ n ≤ 6561 ∧ bd 40 X Y n ∧ os_s X Y n ∧ (bd 40 (u.1 10) (u.1 11) 6561 → bd 40 X Y 6561) ∧ (0 < mN u s → (∀ k : Int, 0 ≤ k → k < mN u s → lo ≤ mX u s k ∧ mX u s k ≤ hi) ∧ (∃ k : Int, 0 ≤ k ∧ k < mN u s ∧ mX u s k = lo) ∧ ∃ k : Int, 0 ≤ k ∧ k < mN u s ∧ mX u s k = hi) ∧ ∀ L U : Int → Int, LU u s lo hi L U → n ≤ cb_ L U lo (hi + 1 - lo) ∨ hi < lo ∧ n = 0)) (fun u' H => va_P D.1 j_cl (mW D o q u') H) A) 0 0 A := by
  refine Met.ofW (cc := cX12_findAll) (maxL := 8) (ret := none) (by decide) rfl ?_
  intro pr en st mi args below meth co s₁ B hml hv
  obtain ⟨rfl, hG, hP⟩ := hv
  have hr := B.returns
  have hlk := B.notSynchronized
  have SS : jS pr mi co cX12_findAll 8 st _ RX12 := ⟨B.exec, B.bytes, hml, findClass_of_methodNamed B.named, fun w hw => atoms_spec (ws := (jw yX12_findAll cX12_findAll 8 none)) B.pre w (List.mem_cons_of_mem _ hw)⟩
  have hl := lv_entry ([.ref o, .int (J s)]) (n := 8) (Nat.le_of_ble_eq_true rfl)
  rw [lg_entry_eq]
  generalize (lg_sl ([.ref o, .int (J s)]) ++ List.replicate (8 - (lg_sl ([.ref o, .int (J s)])).length) Slot.unset).toArray = ls at hl ⊢
  have hl : lv_has ls 8 [(0, .ref o), (1, .int (J s))] := hl
  have hS : va_S A st.heap st.heap [] := va_S.rf
  have hN := p1.1
  have hC := p1.2.2
  refine lv_aload_n SS.1 SS.2.1 dX12_findAll_0 rfl (lv_at hl 0 rfl) ?_
  refine j_iconst SS dX12_findAll_1 ?_
  refine j_put SS hG hP (mW_D hD) hS 0 (v := .int (J 0)) (ty := .int) (C := RX12) (T := TX12) (N := 31) rfl rfl inX12 tyX12 tyX12_ok nmX12 12 (by decide) (ref := RX12) kw_1070 rfl rfl (by decide +kernel) rfl rfl (Nat.le_of_ble_eq_true rfl) dX12_findAll_2 (ws' := (mW D o q (uV u 12 0))) rfl (fun H locs hP hS => ?_)
  refine j_sipush SS dX12_findAll_5 (by decide +kernel) ?_
  refine lv_istore_n (lv' := [(2, .int (J 1000)), (0, .ref o), (1, .int (J s))]) SS.1 SS.2.1 dX12_findAll_8 rfl hl (by decide) rfl (fun ls hl => ?_)
  refine j_sipush SS dX12_findAll_9 (by decide +kernel) ?_
  refine lv_istore_n (lv' := [(3, .int (J (-1000))), (2, .int (J 1000)), (0, .ref o), (1, .int (J s))]) SS.1 SS.2.1 dX12_findAll_12 rfl hl (by decide) rfl (fun ls hl => ?_)
  refine j_sipush SS dX12_findAll_13 (by decide +kernel) ?_
  refine lv_istore (lv' := [(4, .int (J 1000)), (3, .int (J (-1000))), (2, .int (J 1000)), (0, .ref o), (1, .int (J s))]) SS.1 SS.2.1 dX12_findAll_16 hl (by decide) rfl (fun ls hl => ?_)
  refine j_sipush SS dX12_findAll_18 (by decide +kernel) ?_
  refine lv_istore (lv' := [(5, .int (J (-1000))), (4, .int (J 1000)), (3, .int (J (-1000))), (2, .int (J 1000)), (0, .ref o), (1, .int (J s))]) SS.1 SS.2.1 dX12_findAll_21 hl (by decide) rfl (fun ls hl => ?_)
  refine j_iconst SS dX12_findAll_23 ?_
  refine lv_istore (lv' := [(6, .int (J 0)), (5, .int (J (-1000))), (4, .int (J 1000)), (3, .int (J (-1000))), (2, .int (J 1000)), (0, .ref o), (1, .int (J s))]) SS.1 SS.2.1 dX12_findAll_24 hl (by decide) rfl (fun ls hl => ?_)
  have L_26 : ∀ (nn : Nat) (lx : Int) (hx : Int) (ly : Int) (hy : Int) (i : Int) (H : Heap) (locs : List Loc) (hP : va_P D.1 j_cl (mW D o q (uV u 12 0)) H) (hS : va_S A st.heap H locs) (ls : Array Slot) (hl : lv_has ls 8 [(0, .ref o), (1, .int (J s)), (2, .int (J lx)), (3, .int (J hx)), (4, .int (J ly)), (5, .int (J hy)), (6, .int (J i))]) (i26_0 : 0 ≤ i ∧ i ≤ mN u s) (i26_1 : fa_in u s i lx hx ly hy), (mN u s - i).toNat < nn → W pr l en (headSpec (jw yX12_findAll cX12_findAll 8 none) (jr 2 51)).room st mi (([.ref o, .int (J s)] : List Value).toArray) below meth co H locs 0 0 (MQ below (jWv (fun u' => ∃ X : Nat → Int, ∃ Y : Nat → Int, ∃ n : Int, ∃ lo : Int, ∃ hi : Int, u' = (uV (uI (uI u 10 X) 11 Y) 12 n) ∧ (0 ≤ n ∧ n ≤ 6561 ∧ bd 40 X Y n ∧ os_s X Y n ∧ (bd 40 (u.1 10) (u.1 11) 6561 → bd 40 X Y 6561) ∧ (0 < mN u s → (∀ k : Int, 0 ≤ k → k < mN u s → lo ≤ mX u s k ∧ mX u s k ≤ hi) ∧ (∃ k : Int, 0 ≤ k ∧ k < mN u s ∧ mX u s k = lo) ∧ ∃ k : Int, 0 ≤ k ∧ k < mN u s ∧ mX u s k = hi) ∧ ∀ L U : Int → Int, LU u s lo hi L U → n ≤ cb_ L U lo (hi + 1 - lo) ∨ hi < lo ∧ n = 0)) (fun u' H => va_P D.1 j_cl (mW D o q u') H) A) (([.ref o, .int (J s)] : List Value).toArray) st 0 0 A) (F0 mi 26 ls []) := by
    intro nn
    induction nn with
    | zero => intros; omega
    | succ nn ih_26 =>
      intro lx hx ly hy i  H locs hP hS ls hl i26_0 i26_1 hm
      have qa := i26_1.1
      refine lv_iload SS.1 SS.2.1 dX12_findAll_26 (lv_at hl 6 rfl) ?_
      refine lv_aload_n SS.1 SS.2.1 dX12_findAll_28 rfl (lv_at hl 0 rfl) ?_
      refine j_get SS hG hP 0 (v := .ref (q 0)) (C := RX12) (T := TX12) (N := 31) rfl rfl inX12 0 (by decide) (ref := RX12) kw_1058 rfl rfl dX12_findAll_29 ?_
      refine lv_iload_n SS.1 SS.2.1 dX12_findAll_32 rfl (lv_at hl 1 rfl) ?_
      refine j_iald SS hG hP 1 (n := 8) (f := (u.1 0)) rfl (z := s) (by omega) (by omega) dX12_findAll_33 ?_
      refine j_icmp_ge SS (tgt := 141) (x := i) (y := (mN u s)) dX12_findAll_34 (by decide) (by omega) (by omega) (fun c_34 => ?_) (fun c_34 => ?_)
      · skip
        refine lv_iload_n SS.1 SS.2.1 dX12_findAll_141 rfl (lv_at hl 2 rfl) ?_
        refine lv_istore (lv' := [(6, .int (J lx)), (0, .ref o), (1, .int (J s)), (2, .int (J lx)), (3, .int (J hx)), (4, .int (J ly)), (5, .int (J hy))]) SS.1 SS.2.1 dX12_findAll_142 hl (by decide) rfl (fun ls hl => ?_)
        have L_144 : ∀ (nn : Nat) (px : Int) (X : Nat → Int) (Y : Nat → Int) (n : Int) (H : Heap) (locs : List Loc) (hP : va_P D.1 j_cl (mW D o q (uV (uI (uI u 10 X) 11 Y) 12 n)) H) (hS : va_S A st.heap H locs) (ls : Array Slot) (hl : lv_has ls 8 [(0, .ref o), (1, .int (J s)), (2, .int (J lx)), (3, .int (J hx)), (4, .int (J ly)), (5, .int (J hy)), (6, .int (J px))]) (i144_0 : lx ≤ px ∧ (px ≤ hx + 1 ∨ px = lx)) (i144_1 : 0 ≤ n ∧ n ≤ 6561) (i144_2 : bd 40 X Y n) (i144_3 : ∀ L U : Int → Int, LU u s lx hx L U → n ≤ cb_ L U lx (px - lx)) (i144_4 : bd 40 (u.1 10) (u.1 11) 6561 → bd 40 X Y 6561) (i144_5 : os_s X Y n ∧ ∀ a : Nat, (a : Int) < n → X a < px), (hx + 1 - px).toNat < nn → W pr l en (headSpec (jw yX12_findAll cX12_findAll 8 none) (jr 2 51)).room st mi (([.ref o, .int (J s)] : List Value).toArray) below meth co H locs 0 0 (MQ below (jWv (fun u' => ∃ X : Nat → Int, ∃ Y : Nat → Int, ∃ n : Int, ∃ lo : Int, ∃ hi : Int, u' = (uV (uI (uI u 10 X) 11 Y) 12 n) ∧ (0 ≤ n ∧ n ≤ 6561 ∧ bd 40 X Y n ∧ os_s X Y n ∧ (bd 40 (u.1 10) (u.1 11) 6561 → bd 40 X Y 6561) ∧ (0 < mN u s → (∀ k : Int, 0 ≤ k → k < mN u s → lo ≤ mX u s k ∧ mX u s k ≤ hi) ∧ (∃ k : Int, 0 ≤ k ∧ k < mN u s ∧ mX u s k = lo) ∧ ∃ k : Int, 0 ≤ k ∧ k < mN u s ∧ mX u s k = hi) ∧ ∀ L U : Int → Int, LU u s lo hi L U → n ≤ cb_ L U lo (hi + 1 - lo) ∨ hi < lo ∧ n = 0)) (fun u' H => va_P D.1 j_cl (mW D o q u') H) A) (([.ref o, .int (J s)] : List Value).toArray) st 0 0 A) (F0 mi 144 ls []) := by
          intro nn
          induction nn with
          | zero => intros; omega
          | succ nn ih_144 =>
            intro px X Y n H locs hP hS ls hl i144_0 i144_1 i144_2 i144_3 i144_4 i144_5 hm
            refine lv_iload SS.1 SS.2.1 dX12_findAll_144 (lv_at hl 6 rfl) ?_
            refine lv_iload_n SS.1 SS.2.1 dX12_findAll_146 rfl (lv_at hl 3 rfl) ?_
            refine j_icmp_gt SS (tgt := 227) (x := px) (y := hx) dX12_findAll_147 (by decide) (by omega) (by omega) (fun c_147 => ?_) (fun c_147 => ?_)
            · skip
              exact W.vret SS.1 SS.2.1 hr (fun t ht hW => ⟨⟨(uV (uI (uI u 10 X) 11 Y) 12 n), rfl, (⟨X, Y, n, lx, hx, rfl, ⟨by omega, by omega, i144_2, i144_5.1, i144_4, fun h => by rw [show i = mN u s by omega] at i26_1; exact ⟨i26_1.2.1, i26_1.2.2 h⟩, fun L U h => by by_cases e : hx < lx; exact Or.inr ⟨e, by have k := i144_3 L U h; rw [show px - lx = 0 by omega, cb_0] at k; omega⟩; exact Or.inl (by have k := i144_3 L U h; rw [show px = hx + 1 by omega] at k; exact k)⟩⟩), by show va_P D.1 j_cl (mW D o q (uV (uI (uI u 10 X) 11 Y) 12 n)) t.heap; rw [ht]; exact hP⟩, hS.F ht⟩) hS.2.2 dX12_findAll_227 hlk
            · skip
              have qb := i26_1.1
              refine lv_iload SS.1 SS.2.1 dX12_findAll_150 (lv_at hl 4 rfl) ?_
              refine lv_istore (lv' := [(7, .int (J ly)), (0, .ref o), (1, .int (J s)), (2, .int (J lx)), (3, .int (J hx)), (4, .int (J ly)), (5, .int (J hy)), (6, .int (J px))]) SS.1 SS.2.1 dX12_findAll_152 hl (by decide) rfl (fun ls hl => ?_)
              have L_154 : ∀ (nn : Nat) (py : Int) (X2 : Nat → Int) (Y2 : Nat → Int) (n2 : Int) (H : Heap) (locs : List Loc) (hP : va_P D.1 j_cl (mW D o q (uV (uI (uI u 10 X2) 11 Y2) 12 n2)) H) (hS : va_S A st.heap H locs) (ls : Array Slot) (hl : lv_has ls 8 [(0, .ref o), (1, .int (J s)), (2, .int (J lx)), (3, .int (J hx)), (4, .int (J ly)), (5, .int (J hy)), (6, .int (J px)), (7, .int (J py))]) (i154_0 : ly ≤ py ∧ (py ≤ hy + 1 ∨ py = ly)) (i154_1 : 0 ≤ n2 ∧ n2 ≤ 6561) (i154_2 : bd 40 X2 Y2 n2) (i154_3 : ∀ L U : Int → Int, LU u s lx hx L U → n2 ≤ cb_ L U lx (px - lx) + max 0 (min py (U px + 1) - L px)) (i154_4 : bd 40 (u.1 10) (u.1 11) 6561 → bd 40 X2 Y2 6561) (i154_5 : os_s X2 Y2 n2 ∧ ∀ a : Nat, (a : Int) < n2 → lt2 (X2 a) (Y2 a) px py), (hy + 1 - py).toNat < nn → W pr l en (headSpec (jw yX12_findAll cX12_findAll 8 none) (jr 2 51)).room st mi (([.ref o, .int (J s)] : List Value).toArray) below meth co H locs 0 0 (MQ below (jWv (fun u' => ∃ X : Nat → Int, ∃ Y : Nat → Int, ∃ n : Int, ∃ lo : Int, ∃ hi : Int, u' = (uV (uI (uI u 10 X) 11 Y) 12 n) ∧ (0 ≤ n ∧ n ≤ 6561 ∧ bd 40 X Y n ∧ os_s X Y n ∧ (bd 40 (u.1 10) (u.1 11) 6561 → bd 40 X Y 6561) ∧ (0 < mN u s → (∀ k : Int, 0 ≤ k → k < mN u s → lo ≤ mX u s k ∧ mX u s k ≤ hi) ∧ (∃ k : Int, 0 ≤ k ∧ k < mN u s ∧ mX u s k = lo) ∧ ∃ k : Int, 0 ≤ k ∧ k < mN u s ∧ mX u s k = hi) ∧ ∀ L U : Int → Int, LU u s lo hi L U → n ≤ cb_ L U lo (hi + 1 - lo) ∨ hi < lo ∧ n = 0)) (fun u' H => va_P D.1 j_cl (mW D o q u') H) A) (([.ref o, .int (J s)] : List Value).toArray) st 0 0 A) (F0 mi 154 ls []) := by
                intro nn
                induction nn with
                | zero => intros; omega
                | succ nn ih_154 =>
                  intro py X2 Y2 n2 H locs hP hS ls hl i154_0 i154_1 i154_2 i154_3 i154_4 i154_5 hm
                  refine lv_iload SS.1 SS.2.1 dX12_findAll_154 (lv_at hl 7 rfl) ?_
                  refine lv_iload SS.1 SS.2.1 dX12_findAll_156 (lv_at hl 5 rfl) ?_
                  refine j_icmp_gt SS (tgt := 221) (x := py) (y := hy) dX12_findAll_158 (by decide) (by omega) (by omega) (fun c_158 => ?_) (fun c_158 => ?_)
                  · skip
                    refine lv_iinc (v := J (px + 1)) (lv' := [(6, .int (J (px + 1))), (0, .ref o), (1, .int (J s)), (2, .int (J lx)), (3, .int (J hx)), (4, .int (J ly)), (5, .int (J hy)), (7, .int (J py))]) SS.1 SS.2.1 dX12_findAll_221 hl (k := 6) rfl (J_add _ _) (by decide) rfl (fun ls hl => ?_)
                    refine lv_goto (tgt := 144) SS.1 SS.2.1 dX12_findAll_224 (by decide) ?_
                    exact ih_144 (px + 1) X2 Y2 n2 _ _ hP hS ls (lv_sub hl [1, 2, 3, 4, 5, 6, 0] rfl) (by omega) (by omega) (i154_2) (fun L U h => by have k1 := i154_3 L U h; have k2 := h.2 px (by omega) (by omega); have k3 := cb_s (L := L) (U := U) (show lx ≤ px by omega); rw [show px + 1 - lx = px + 1 - lx from rfl] at k3; omega) (i154_4) (⟨i154_5.1, fun a ha => by have q9 := i154_5.2 a ha; unfold lt2 at q9; omega⟩) (by omega)
                  · skip
                    refine lv_aload_n SS.1 SS.2.1 dX12_findAll_161 rfl (lv_at hl 0 rfl) ?_
                    refine j_get SS hG hP 0 (v := .int (J n2)) (C := RX12) (T := TX12) (N := 31) rfl rfl inX12 12 (by decide) (ref := RX12) kw_1070 rfl rfl dX12_findAll_162 ?_
                    refine j_sipush SS dX12_findAll_165 (by decide +kernel) ?_
                    refine j_icmp_ge SS (tgt := 215) (x := n2) (y := 6561) dX12_findAll_168 (by decide) (by omega) (by decide) (fun c_168 => ?_) (fun c_168 => ?_)
                    · skip
                      refine lv_iinc (v := J (py + 1)) (lv' := [(7, .int (J (py + 1))), (0, .ref o), (1, .int (J s)), (2, .int (J lx)), (3, .int (J hx)), (4, .int (J ly)), (5, .int (J hy)), (6, .int (J px))]) SS.1 SS.2.1 dX12_findAll_215 hl (k := 7) rfl (J_add _ _) (by decide) rfl (fun ls hl => ?_)
                      refine lv_goto (tgt := 154) SS.1 SS.2.1 dX12_findAll_218 (by decide) ?_
                      exact ih_154 (py + 1) X2 Y2 n2 _ _ hP hS ls (lv_sub hl [1, 2, 3, 4, 5, 6, 7, 0] rfl) (by omega) (by omega) (by first | exact i154_2 | exact bd_put (by omega) i154_2 (by omega) (by omega)) (fun L U h => by have k1 := i154_3 L U h; first | omega | (have k2 := h.1 px py z_177 (by omega) (by omega) h_177 (by omega); omega)) (fun h => by first | exact i154_4 h | exact bd_up (i154_4 h) (by omega) (by omega)) (by first | exact os_no i154_5.1 i154_5.2 | exact os_put (by omega) i154_5.1 i154_5.2) (by omega)
                    · skip
                      refine lv_aload_n SS.1 SS.2.1 dX12_findAll_171 rfl (lv_at hl 0 rfl) ?_
                      refine lv_iload_n SS.1 SS.2.1 dX12_findAll_172 rfl (lv_at hl 1 rfl) ?_
                      refine lv_iload SS.1 SS.2.1 dX12_findAll_173 (lv_at hl 6 rfl) ?_
                      refine lv_iload SS.1 SS.2.1 dX12_findAll_175 (lv_at hl 7 rfl) ?_
                      refine j_vRi SS (As := [.int (J s), .int (J px), .int (J py)]) (rest := []) (c_X12_whereOf l D o q (uV (uI (uI u 10 X2) 11 Y2) 12 n2) s px py (show 0 ≤ s ∧ s ≤ 7 from (p0)) (show Sh u s from (p1)) (show -100 ≤ px ∧ px ≤ 100 from (by omega)) (show -100 ≤ py ∧ py ≤ 100 from (by omega))) mf_X12_whereOf kw_1255 hG hP hP (ci := 8) (q0 := 0) rfl rfl rfl rfl hl.1 ⟨⟨Nat.le_of_ble_eq_true rfl, Nat.le_of_ble_eq_true rfl⟩, Nat.le_of_ble_eq_true rfl, Nat.le_refl _, Nat.le_refl _⟩ rfl dX12_findAll_177 (fun z_177 h_177 => ?_)
                      have h_177 : wR u s px py z_177 := h_177
                      have zb := wR_b h_177
                      refine j_if_le SS (tgt := 215) (x := z_177) dX12_findAll_180 (by decide) (by omega) (fun c_180 => ?_) (fun c_180 => ?_)
                      · skip
                        refine lv_iinc (v := J (py + 1)) (lv' := [(7, .int (J (py + 1))), (0, .ref o), (1, .int (J s)), (2, .int (J lx)), (3, .int (J hx)), (4, .int (J ly)), (5, .int (J hy)), (6, .int (J px))]) SS.1 SS.2.1 dX12_findAll_215 hl (k := 7) rfl (J_add _ _) (by decide) rfl (fun ls hl => ?_)
                        refine lv_goto (tgt := 154) SS.1 SS.2.1 dX12_findAll_218 (by decide) ?_
                        exact ih_154 (py + 1) X2 Y2 n2 _ _ hP hS ls (lv_sub hl [1, 2, 3, 4, 5, 6, 7, 0] rfl) (by omega) (by omega) (by first | exact i154_2 | exact bd_put (by omega) i154_2 (by omega) (by omega)) (fun L U h => by have k1 := i154_3 L U h; first | omega | (have k2 := h.1 px py z_177 (by omega) (by omega) h_177 (by omega); omega)) (fun h => by first | exact i154_4 h | exact bd_up (i154_4 h) (by omega) (by omega)) (by first | exact os_no i154_5.1 i154_5.2 | exact os_put (by omega) i154_5.1 i154_5.2) (by omega)
                      · skip
                        refine lv_aload_n SS.1 SS.2.1 dX12_findAll_183 rfl (lv_at hl 0 rfl) ?_
                        refine j_get SS hG hP 0 (v := .ref (q 10)) (C := RX12) (T := TX12) (N := 31) rfl rfl inX12 10 (by decide) (ref := RX12) kw_1068 rfl rfl dX12_findAll_184 ?_
                        refine lv_aload_n SS.1 SS.2.1 dX12_findAll_187 rfl (lv_at hl 0 rfl) ?_
                        refine j_get SS hG hP 0 (v := .int (J n2)) (C := RX12) (T := TX12) (N := 31) rfl rfl inX12 12 (by decide) (ref := RX12) kw_1070 rfl rfl dX12_findAll_188 ?_
                        refine lv_iload SS.1 SS.2.1 dX12_findAll_191 (lv_at hl 6 rfl) ?_
                        refine j_iast SS hG hP (mW_D hD) hS 9 (n := 6561) (f := X2) rfl (z := n2) (v := px) (by omega) (by omega) dX12_findAll_193 (ws' := (mW D o q (uV (uI (uI u 10 (upI X2 (n2).toNat px)) 11 Y2) 12 n2))) rfl (fun H locs hP hS => ?_)
                        refine lv_aload_n SS.1 SS.2.1 dX12_findAll_194 rfl (lv_at hl 0 rfl) ?_
                        refine j_get SS hG hP 0 (v := .ref (q 11)) (C := RX12) (T := TX12) (N := 31) rfl rfl inX12 11 (by decide) (ref := RX12) kw_1069 rfl rfl dX12_findAll_195 ?_
                        refine lv_aload_n SS.1 SS.2.1 dX12_findAll_198 rfl (lv_at hl 0 rfl) ?_
                        refine j_get SS hG hP 0 (v := .int (J n2)) (C := RX12) (T := TX12) (N := 31) rfl rfl inX12 12 (by decide) (ref := RX12) kw_1070 rfl rfl dX12_findAll_199 ?_
                        refine lv_iload SS.1 SS.2.1 dX12_findAll_202 (lv_at hl 7 rfl) ?_
                        refine j_iast SS hG hP (mW_D hD) hS 10 (n := 6561) (f := Y2) rfl (z := n2) (v := py) (by omega) (by omega) dX12_findAll_204 (ws' := (mW D o q (uV (uI (uI u 10 (upI X2 (n2).toNat px)) 11 (upI Y2 (n2).toNat py)) 12 n2))) rfl (fun H locs hP hS => ?_)
                        refine lv_aload_n SS.1 SS.2.1 dX12_findAll_205 rfl (lv_at hl 0 rfl) ?_
                        refine lv_dup SS.1 SS.2.1 dX12_findAll_206 rfl ?_
                        refine j_get SS hG hP 0 (v := .int (J n2)) (C := RX12) (T := TX12) (N := 31) rfl rfl inX12 12 (by decide) (ref := RX12) kw_1070 rfl rfl dX12_findAll_207 ?_
                        refine j_iconst SS dX12_findAll_210 ?_
                        refine j_iadd SS (x := n2) (y := 1) dX12_findAll_211 ?_
                        refine j_put SS hG hP (mW_D hD) hS 0 (v := .int (J (n2 + 1))) (ty := .int) (C := RX12) (T := TX12) (N := 31) rfl rfl inX12 tyX12 tyX12_ok nmX12 12 (by decide) (ref := RX12) kw_1070 rfl rfl (by decide +kernel) rfl rfl (Nat.le_of_ble_eq_true rfl) dX12_findAll_212 (ws' := (mW D o q (uV (uI (uI u 10 (upI X2 (n2).toNat px)) 11 (upI Y2 (n2).toNat py)) 12 (n2 + 1)))) rfl (fun H locs hP hS => ?_)
                        refine lv_iinc (v := J (py + 1)) (lv' := [(7, .int (J (py + 1))), (0, .ref o), (1, .int (J s)), (2, .int (J lx)), (3, .int (J hx)), (4, .int (J ly)), (5, .int (J hy)), (6, .int (J px))]) SS.1 SS.2.1 dX12_findAll_215 hl (k := 7) rfl (J_add _ _) (by decide) rfl (fun ls hl => ?_)
                        refine lv_goto (tgt := 154) SS.1 SS.2.1 dX12_findAll_218 (by decide) ?_
                        exact ih_154 (py + 1) (upI X2 (n2).toNat px) (upI Y2 (n2).toNat py) (n2 + 1) _ _ hP hS ls (lv_sub hl [1, 2, 3, 4, 5, 6, 7, 0] rfl) (by omega) (by omega) (by first | exact i154_2 | exact bd_put (by omega) i154_2 (by omega) (by omega)) (fun L U h => by have k1 := i154_3 L U h; first | omega | (have k2 := h.1 px py z_177 (by omega) (by omega) h_177 (by omega); omega)) (fun h => by first | exact i154_4 h | exact bd_up (i154_4 h) (by omega) (by omega)) (by first | exact os_no i154_5.1 i154_5.2 | exact os_put (by omega) i154_5.1 i154_5.2) (by omega)
              exact L_154 ((hy + 1 - ly).toNat + 1) ly X Y n _ _ hP hS ls (lv_sub hl [1, 2, 3, 4, 5, 6, 7, 0] rfl) (by omega) (by omega) (i144_2) (fun L U h => by have k1 := i144_3 L U h; omega) (i144_4) (⟨i144_5.1, fun a ha => Or.inl (i144_5.2 a ha)⟩) (Nat.lt_succ_self _)
        exact L_144 ((hx + 1 - lx).toNat + 1) lx (u.1 10) (u.1 11) 0 _ _ hP hS ls (lv_sub hl [1, 2, 3, 4, 5, 6, 0] rfl) (by omega) (by omega) (fun a ha => by omega) (fun L U h => by rw [show lx - lx = 0 by omega, cb_0]; omega) (fun h => h) (⟨fun a ha => by omega, fun a ha => by omega⟩) (Nat.lt_succ_self _)
      · skip
        have b1 := p1.2.1 (by omega) i (by omega)
        refine lv_aload_n SS.1 SS.2.1 dX12_findAll_37 rfl (lv_at hl 0 rfl) ?_
        refine lv_iload_n SS.1 SS.2.1 dX12_findAll_38 rfl (lv_at hl 1 rfl) ?_
        refine lv_iload SS.1 SS.2.1 dX12_findAll_39 (lv_at hl 6 rfl) ?_
        refine j_vRi SS (As := [.int (J s), .int (J i)]) (rest := []) (c_X12_x l D o q (uV u 12 0) s i (show 0 ≤ s ∧ s ≤ 7 from (by omega)) (show 0 ≤ i ∧ i ≤ 1000000 from (by omega)) (show 0 < mN u s ∧ mN u s ≤ 24 from (by omega))) mf_X12_x kw_1177 hG hP hP (ci := 8) (q0 := 0) rfl rfl rfl rfl hl.1 ⟨⟨Nat.le_of_ble_eq_true rfl, Nat.le_of_ble_eq_true rfl⟩, Nat.le_of_ble_eq_true rfl, Nat.le_refl _, Nat.le_refl _⟩ rfl dX12_findAll_41 (fun z_41 h_41 => ?_)
        have h_41 : z_41 = mX u s i := h_41
        refine lv_iload_n SS.1 SS.2.1 dX12_findAll_44 rfl (lv_at hl 2 rfl) ?_
        have L_59 : ∀ (a59 : Int) (H : Heap) (locs : List Loc) (hP : va_P D.1 j_cl (mW D o q (uV u 12 0)) H) (hS : va_S A st.heap H locs) (ls : Array Slot) (hl : lv_has ls 8 [(0, .ref o), (1, .int (J s)), (2, .int (J lx)), (3, .int (J hx)), (4, .int (J ly)), (5, .int (J hy)), (6, .int (J i))]) (i59_0 : (a59 = lx ∨ a59 = mX u s i) ∧ a59 ≤ lx ∧ a59 ≤ mX u s i), W pr l en (headSpec (jw yX12_findAll cX12_findAll 8 none) (jr 2 51)).room st mi (([.ref o, .int (J s)] : List Value).toArray) below meth co H locs 0 0 (MQ below (jWv (fun u' => ∃ X : Nat → Int, ∃ Y : Nat → Int, ∃ n : Int, ∃ lo : Int, ∃ hi : Int, u' = (uV (uI (uI u 10 X) 11 Y) 12 n) ∧ (0 ≤ n ∧ n ≤ 6561 ∧ bd 40 X Y n ∧ os_s X Y n ∧ (bd 40 (u.1 10) (u.1 11) 6561 → bd 40 X Y 6561) ∧ (0 < mN u s → (∀ k : Int, 0 ≤ k → k < mN u s → lo ≤ mX u s k ∧ mX u s k ≤ hi) ∧ (∃ k : Int, 0 ≤ k ∧ k < mN u s ∧ mX u s k = lo) ∧ ∃ k : Int, 0 ≤ k ∧ k < mN u s ∧ mX u s k = hi) ∧ ∀ L U : Int → Int, LU u s lo hi L U → n ≤ cb_ L U lo (hi + 1 - lo) ∨ hi < lo ∧ n = 0)) (fun u' H => va_P D.1 j_cl (mW D o q u') H) A) (([.ref o, .int (J s)] : List Value).toArray) st 0 0 A) (F0 mi 59 ls [.int (J a59)]) := by
          intro a59  H locs hP hS ls hl i59_0
          refine lv_istore_n (lv' := [(2, .int (J a59)), (0, .ref o), (1, .int (J s)), (3, .int (J hx)), (4, .int (J ly)), (5, .int (J hy)), (6, .int (J i))]) SS.1 SS.2.1 dX12_findAll_59 rfl hl (by decide) rfl (fun ls hl => ?_)
          refine lv_aload_n SS.1 SS.2.1 dX12_findAll_60 rfl (lv_at hl 1 rfl) ?_
          refine lv_iload_n SS.1 SS.2.1 dX12_findAll_61 rfl (lv_at hl 2 rfl) ?_
          refine lv_iload SS.1 SS.2.1 dX12_findAll_62 (lv_at hl 6 rfl) ?_
          refine j_vRi SS (As := [.int (J s), .int (J i)]) (rest := []) (c_X12_x l D o q (uV u 12 0) s i (show 0 ≤ s ∧ s ≤ 7 from (by omega)) (show 0 ≤ i ∧ i ≤ 1000000 from (by omega)) (show 0 < mN u s ∧ mN u s ≤ 24 from (by omega))) mf_X12_x kw_1177 hG hP hP (ci := 8) (q0 := 0) rfl rfl rfl rfl hl.1 ⟨⟨Nat.le_of_ble_eq_true rfl, Nat.le_of_ble_eq_true rfl⟩, Nat.le_of_ble_eq_true rfl, Nat.le_refl _, Nat.le_refl _⟩ rfl dX12_findAll_64 (fun z_64 h_64 => ?_)
          have h_64 : z_64 = mX u s i := h_64
          refine lv_iload_n SS.1 SS.2.1 dX12_findAll_67 rfl (lv_at hl 3 rfl) ?_
          have L_82 : ∀ (a82 : Int) (H : Heap) (locs : List Loc) (hP : va_P D.1 j_cl (mW D o q (uV u 12 0)) H) (hS : va_S A st.heap H locs) (ls : Array Slot) (hl : lv_has ls 8 [(0, .ref o), (1, .int (J s)), (2, .int (J a59)), (3, .int (J hx)), (4, .int (J ly)), (5, .int (J hy)), (6, .int (J i))]) (i82_0 : (a82 = hx ∨ a82 = mX u s i) ∧ hx ≤ a82 ∧ mX u s i ≤ a82), W pr l en (headSpec (jw yX12_findAll cX12_findAll 8 none) (jr 2 51)).room st mi (([.ref o, .int (J s)] : List Value).toArray) below meth co H locs 0 0 (MQ below (jWv (fun u' => ∃ X : Nat → Int, ∃ Y : Nat → Int, ∃ n : Int, ∃ lo : Int, ∃ hi : Int, u' = (uV (uI (uI u 10 X) 11 Y) 12 n) ∧ (0 ≤ n ∧ n ≤ 6561 ∧ bd 40 X Y n ∧ os_s X Y n ∧ (bd 40 (u.1 10) (u.1 11) 6561 → bd 40 X Y 6561) ∧ (0 < mN u s → (∀ k : Int, 0 ≤ k → k < mN u s → lo ≤ mX u s k ∧ mX u s k ≤ hi) ∧ (∃ k : Int, 0 ≤ k ∧ k < mN u s ∧ mX u s k = lo) ∧ ∃ k : Int, 0 ≤ k ∧ k < mN u s ∧ mX u s k = hi) ∧ ∀ L U : Int → Int, LU u s lo hi L U → n ≤ cb_ L U lo (hi + 1 - lo) ∨ hi < lo ∧ n = 0)) (fun u' H => va_P D.1 j_cl (mW D o q u') H) A) (([.ref o, .int (J s)] : List Value).toArray) st 0 0 A) (F0 mi 82 ls [.int (J a82)]) := by
            intro a82  H locs hP hS ls hl i82_0
            refine lv_istore_n (lv' := [(3, .int (J a82)), (0, .ref o), (1, .int (J s)), (2, .int (J a59)), (4, .int (J ly)), (5, .int (J hy)), (6, .int (J i))]) SS.1 SS.2.1 dX12_findAll_82 rfl hl (by decide) rfl (fun ls hl => ?_)
            refine lv_aload_n SS.1 SS.2.1 dX12_findAll_83 rfl (lv_at hl 1 rfl) ?_
            refine lv_iload_n SS.1 SS.2.1 dX12_findAll_84 rfl (lv_at hl 2 rfl) ?_
            refine lv_iload SS.1 SS.2.1 dX12_findAll_85 (lv_at hl 6 rfl) ?_
            refine j_vRi SS (As := [.int (J s), .int (J i)]) (rest := []) (c_X12_y l D o q (uV u 12 0) s i (show 0 ≤ s ∧ s ≤ 7 from (by omega)) (show 0 ≤ i ∧ i ≤ 1000000 from (by omega)) (show 0 < mN u s ∧ mN u s ≤ 24 from (by omega))) mf_X12_y kw_1181 hG hP hP (ci := 8) (q0 := 0) rfl rfl rfl rfl hl.1 ⟨⟨Nat.le_of_ble_eq_true rfl, Nat.le_of_ble_eq_true rfl⟩, Nat.le_of_ble_eq_true rfl, Nat.le_refl _, Nat.le_refl _⟩ rfl dX12_findAll_87 (fun z_87 h_87 => ?_)
            have h_87 : z_87 = mY u s i := h_87
            refine lv_iload SS.1 SS.2.1 dX12_findAll_90 (lv_at hl 4 rfl) ?_
            have L_107 : ∀ (a107 : Int) (H : Heap) (locs : List Loc) (hP : va_P D.1 j_cl (mW D o q (uV u 12 0)) H) (hS : va_S A st.heap H locs) (ls : Array Slot) (hl : lv_has ls 8 [(0, .ref o), (1, .int (J s)), (2, .int (J a59)), (3, .int (J a82)), (4, .int (J ly)), (5, .int (J hy)), (6, .int (J i))]) (i107_0 : (a107 = ly ∨ a107 = mY u s i) ∧ a107 ≤ ly ∧ a107 ≤ mY u s i), W pr l en (headSpec (jw yX12_findAll cX12_findAll 8 none) (jr 2 51)).room st mi (([.ref o, .int (J s)] : List Value).toArray) below meth co H locs 0 0 (MQ below (jWv (fun u' => ∃ X : Nat → Int, ∃ Y : Nat → Int, ∃ n : Int, ∃ lo : Int, ∃ hi : Int, u' = (uV (uI (uI u 10 X) 11 Y) 12 n) ∧ (0 ≤ n ∧ n ≤ 6561 ∧ bd 40 X Y n ∧ os_s X Y n ∧ (bd 40 (u.1 10) (u.1 11) 6561 → bd 40 X Y 6561) ∧ (0 < mN u s → (∀ k : Int, 0 ≤ k → k < mN u s → lo ≤ mX u s k ∧ mX u s k ≤ hi) ∧ (∃ k : Int, 0 ≤ k ∧ k < mN u s ∧ mX u s k = lo) ∧ ∃ k : Int, 0 ≤ k ∧ k < mN u s ∧ mX u s k = hi) ∧ ∀ L U : Int → Int, LU u s lo hi L U → n ≤ cb_ L U lo (hi + 1 - lo) ∨ hi < lo ∧ n = 0)) (fun u' H => va_P D.1 j_cl (mW D o q u') H) A) (([.ref o, .int (J s)] : List Value).toArray) st 0 0 A) (F0 mi 107 ls [.int (J a107)]) := by
              intro a107  H locs hP hS ls hl i107_0
              refine lv_istore (lv' := [(4, .int (J a107)), (0, .ref o), (1, .int (J s)), (2, .int (J a59)), (3, .int (J a82)), (5, .int (J hy)), (6, .int (J i))]) SS.1 SS.2.1 dX12_findAll_107 hl (by decide) rfl (fun ls hl => ?_)
              refine lv_aload_n SS.1 SS.2.1 dX12_findAll_109 rfl (lv_at hl 1 rfl) ?_
              refine lv_iload_n SS.1 SS.2.1 dX12_findAll_110 rfl (lv_at hl 2 rfl) ?_
              refine lv_iload SS.1 SS.2.1 dX12_findAll_111 (lv_at hl 6 rfl) ?_
              refine j_vRi SS (As := [.int (J s), .int (J i)]) (rest := []) (c_X12_y l D o q (uV u 12 0) s i (show 0 ≤ s ∧ s ≤ 7 from (by omega)) (show 0 ≤ i ∧ i ≤ 1000000 from (by omega)) (show 0 < mN u s ∧ mN u s ≤ 24 from (by omega))) mf_X12_y kw_1181 hG hP hP (ci := 8) (q0 := 0) rfl rfl rfl rfl hl.1 ⟨⟨Nat.le_of_ble_eq_true rfl, Nat.le_of_ble_eq_true rfl⟩, Nat.le_of_ble_eq_true rfl, Nat.le_refl _, Nat.le_refl _⟩ rfl dX12_findAll_113 (fun z_113 h_113 => ?_)
              have h_113 : z_113 = mY u s i := h_113
              refine lv_iload SS.1 SS.2.1 dX12_findAll_116 (lv_at hl 5 rfl) ?_
              have L_133 : ∀ (a133 : Int) (H : Heap) (locs : List Loc) (hP : va_P D.1 j_cl (mW D o q (uV u 12 0)) H) (hS : va_S A st.heap H locs) (ls : Array Slot) (hl : lv_has ls 8 [(0, .ref o), (1, .int (J s)), (2, .int (J a59)), (3, .int (J a82)), (4, .int (J a107)), (5, .int (J hy)), (6, .int (J i))]) (i133_0 : (a133 = hy ∨ a133 = mY u s i) ∧ hy ≤ a133 ∧ mY u s i ≤ a133), W pr l en (headSpec (jw yX12_findAll cX12_findAll 8 none) (jr 2 51)).room st mi (([.ref o, .int (J s)] : List Value).toArray) below meth co H locs 0 0 (MQ below (jWv (fun u' => ∃ X : Nat → Int, ∃ Y : Nat → Int, ∃ n : Int, ∃ lo : Int, ∃ hi : Int, u' = (uV (uI (uI u 10 X) 11 Y) 12 n) ∧ (0 ≤ n ∧ n ≤ 6561 ∧ bd 40 X Y n ∧ os_s X Y n ∧ (bd 40 (u.1 10) (u.1 11) 6561 → bd 40 X Y 6561) ∧ (0 < mN u s → (∀ k : Int, 0 ≤ k → k < mN u s → lo ≤ mX u s k ∧ mX u s k ≤ hi) ∧ (∃ k : Int, 0 ≤ k ∧ k < mN u s ∧ mX u s k = lo) ∧ ∃ k : Int, 0 ≤ k ∧ k < mN u s ∧ mX u s k = hi) ∧ ∀ L U : Int → Int, LU u s lo hi L U → n ≤ cb_ L U lo (hi + 1 - lo) ∨ hi < lo ∧ n = 0)) (fun u' H => va_P D.1 j_cl (mW D o q u') H) A) (([.ref o, .int (J s)] : List Value).toArray) st 0 0 A) (F0 mi 133 ls [.int (J a133)]) := by
                intro a133  H locs hP hS ls hl i133_0
                refine lv_istore (lv' := [(5, .int (J a133)), (0, .ref o), (1, .int (J s)), (2, .int (J a59)), (3, .int (J a82)), (4, .int (J a107)), (6, .int (J i))]) SS.1 SS.2.1 dX12_findAll_133 hl (by decide) rfl (fun ls hl => ?_)
                refine lv_iinc (v := J (i + 1)) (lv' := [(6, .int (J (i + 1))), (5, .int (J a133)), (0, .ref o), (1, .int (J s)), (2, .int (J a59)), (3, .int (J a82)), (4, .int (J a107))]) SS.1 SS.2.1 dX12_findAll_135 hl (k := 6) rfl (J_add _ _) (by decide) rfl (fun ls hl => ?_)
                refine lv_goto (tgt := 26) SS.1 SS.2.1 dX12_findAll_138 (by decide) ?_
                exact ih_26 a59 a82 a107 a133 (i + 1) _ _ hP hS ls (lv_sub hl [2, 3, 4, 5, 6, 1, 0] rfl) (by omega) (fa_s b1 (by omega) i26_1 i59_0 i82_0 i107_0 i133_0) (by omega)
              refine j_icmp_le SS (tgt := 131) (x := z_113) (y := hy) dX12_findAll_118 (by decide) (by omega) (by omega) (fun c_118 => ?_) (fun c_118 => ?_)
              · skip
                refine lv_iload SS.1 SS.2.1 dX12_findAll_131 (lv_at hl 5 rfl) ?_
                exact L_133 hy _ _ hP hS ls (lv_sub hl [1, 2, 3, 4, 0, 5, 6] rfl) (by omega)
              · skip
                refine lv_aload_n SS.1 SS.2.1 dX12_findAll_121 rfl (lv_at hl 1 rfl) ?_
                refine lv_iload_n SS.1 SS.2.1 dX12_findAll_122 rfl (lv_at hl 2 rfl) ?_
                refine lv_iload SS.1 SS.2.1 dX12_findAll_123 (lv_at hl 6 rfl) ?_
                refine j_vRi SS (As := [.int (J s), .int (J i)]) (rest := []) (c_X12_y l D o q (uV u 12 0) s i (show 0 ≤ s ∧ s ≤ 7 from (by omega)) (show 0 ≤ i ∧ i ≤ 1000000 from (by omega)) (show 0 < mN u s ∧ mN u s ≤ 24 from (by omega))) mf_X12_y kw_1181 hG hP hP (ci := 8) (q0 := 0) rfl rfl rfl rfl hl.1 ⟨⟨Nat.le_of_ble_eq_true rfl, Nat.le_of_ble_eq_true rfl⟩, Nat.le_of_ble_eq_true rfl, Nat.le_refl _, Nat.le_refl _⟩ rfl dX12_findAll_125 (fun z_125 h_125 => ?_)
                have h_125 : z_125 = mY u s i := h_125
                refine lv_goto (tgt := 133) SS.1 SS.2.1 dX12_findAll_128 (by decide) ?_
                exact L_133 z_125 _ _ hP hS ls (lv_sub hl [1, 2, 3, 4, 0, 5, 6] rfl) (by omega)
            refine j_icmp_ge SS (tgt := 105) (x := z_87) (y := ly) dX12_findAll_92 (by decide) (by omega) (by omega) (fun c_92 => ?_) (fun c_92 => ?_)
            · skip
              refine lv_iload SS.1 SS.2.1 dX12_findAll_105 (lv_at hl 4 rfl) ?_
              exact L_107 ly _ _ hP hS ls (lv_sub hl [1, 2, 3, 0, 4, 5, 6] rfl) (by omega)
            · skip
              refine lv_aload_n SS.1 SS.2.1 dX12_findAll_95 rfl (lv_at hl 1 rfl) ?_
              refine lv_iload_n SS.1 SS.2.1 dX12_findAll_96 rfl (lv_at hl 2 rfl) ?_
              refine lv_iload SS.1 SS.2.1 dX12_findAll_97 (lv_at hl 6 rfl) ?_
              refine j_vRi SS (As := [.int (J s), .int (J i)]) (rest := []) (c_X12_y l D o q (uV u 12 0) s i (show 0 ≤ s ∧ s ≤ 7 from (by omega)) (show 0 ≤ i ∧ i ≤ 1000000 from (by omega)) (show 0 < mN u s ∧ mN u s ≤ 24 from (by omega))) mf_X12_y kw_1181 hG hP hP (ci := 8) (q0 := 0) rfl rfl rfl rfl hl.1 ⟨⟨Nat.le_of_ble_eq_true rfl, Nat.le_of_ble_eq_true rfl⟩, Nat.le_of_ble_eq_true rfl, Nat.le_refl _, Nat.le_refl _⟩ rfl dX12_findAll_99 (fun z_99 h_99 => ?_)
              have h_99 : z_99 = mY u s i := h_99
              refine lv_goto (tgt := 107) SS.1 SS.2.1 dX12_findAll_102 (by decide) ?_
              exact L_107 z_99 _ _ hP hS ls (lv_sub hl [1, 2, 3, 0, 4, 5, 6] rfl) (by omega)
          refine j_icmp_le SS (tgt := 81) (x := z_64) (y := hx) dX12_findAll_68 (by decide) (by omega) (by omega) (fun c_68 => ?_) (fun c_68 => ?_)
          · skip
            refine lv_iload_n SS.1 SS.2.1 dX12_findAll_81 rfl (lv_at hl 3 rfl) ?_
            exact L_82 hx _ _ hP hS ls (lv_sub hl [1, 2, 0, 3, 4, 5, 6] rfl) (by omega)
          · skip
            refine lv_aload_n SS.1 SS.2.1 dX12_findAll_71 rfl (lv_at hl 1 rfl) ?_
            refine lv_iload_n SS.1 SS.2.1 dX12_findAll_72 rfl (lv_at hl 2 rfl) ?_
            refine lv_iload SS.1 SS.2.1 dX12_findAll_73 (lv_at hl 6 rfl) ?_
            refine j_vRi SS (As := [.int (J s), .int (J i)]) (rest := []) (c_X12_x l D o q (uV u 12 0) s i (show 0 ≤ s ∧ s ≤ 7 from (by omega)) (show 0 ≤ i ∧ i ≤ 1000000 from (by omega)) (show 0 < mN u s ∧ mN u s ≤ 24 from (by omega))) mf_X12_x kw_1177 hG hP hP (ci := 8) (q0 := 0) rfl rfl rfl rfl hl.1 ⟨⟨Nat.le_of_ble_eq_true rfl, Nat.le_of_ble_eq_true rfl⟩, Nat.le_of_ble_eq_true rfl, Nat.le_refl _, Nat.le_refl _⟩ rfl dX12_findAll_75 (fun z_75 h_75 => ?_)
            have h_75 : z_75 = mX u s i := h_75
            refine lv_goto (tgt := 82) SS.1 SS.2.1 dX12_findAll_78 (by decide) ?_
            exact L_82 z_75 _ _ hP hS ls (lv_sub hl [1, 2, 0, 3, 4, 5, 6] rfl) (by omega)
        refine j_icmp_ge SS (tgt := 58) (x := z_41) (y := lx) dX12_findAll_45 (by decide) (by omega) (by omega) (fun c_45 => ?_) (fun c_45 => ?_)
        · skip
          refine lv_iload_n SS.1 SS.2.1 dX12_findAll_58 rfl (lv_at hl 2 rfl) ?_
          exact L_59 lx _ _ hP hS ls (lv_sub hl [0, 1, 2, 3, 4, 5, 6] rfl) (by omega)
        · skip
          refine lv_aload_n SS.1 SS.2.1 dX12_findAll_48 rfl (lv_at hl 0 rfl) ?_
          refine lv_iload_n SS.1 SS.2.1 dX12_findAll_49 rfl (lv_at hl 1 rfl) ?_
          refine lv_iload SS.1 SS.2.1 dX12_findAll_50 (lv_at hl 6 rfl) ?_
          refine j_vRi SS (As := [.int (J s), .int (J i)]) (rest := []) (c_X12_x l D o q (uV u 12 0) s i (show 0 ≤ s ∧ s ≤ 7 from (by omega)) (show 0 ≤ i ∧ i ≤ 1000000 from (by omega)) (show 0 < mN u s ∧ mN u s ≤ 24 from (by omega))) mf_X12_x kw_1177 hG hP hP (ci := 8) (q0 := 0) rfl rfl rfl rfl hl.1 ⟨⟨Nat.le_of_ble_eq_true rfl, Nat.le_of_ble_eq_true rfl⟩, Nat.le_of_ble_eq_true rfl, Nat.le_refl _, Nat.le_refl _⟩ rfl dX12_findAll_52 (fun z_52 h_52 => ?_)
          have h_52 : z_52 = mX u s i := h_52
          refine lv_goto (tgt := 59) SS.1 SS.2.1 dX12_findAll_55 (by decide) ?_
          exact L_59 z_52 _ _ hP hS ls (lv_sub hl [0, 1, 2, 3, 4, 5, 6] rfl) (by omega)
  exact L_26 ((mN u s - (0 : Int)).toNat + 1) 1000 (-1000) 1000 (-1000) 0 _ _ hP hS ls (lv_sub hl [5, 6, 4, 3, 2, 1, 0] rfl) (by omega) (⟨Or.inl ⟨rfl, rfl, rfl, rfl, rfl⟩, fun k h1 h2 => by omega, fun h => by omega⟩) (Nat.lt_succ_self _)


/-- the cross product of two directions -/
def cx (a b c d : Int) : Int := a * d - b * c
theorem cx_add {a b c d e f : Int} : cx a b (c + e) (d + f) = cx a b c d + cx a b e f := by unfold cx; rw [Int.mul_add, Int.mul_add]; omega
theorem cx_add' {a b c d e f : Int} : cx (a + e) (b + f) c d = cx a b c d + cx e f c d := by unfold cx; rw [Int.add_mul, Int.add_mul]; omega
theorem cx_neg {a b c d : Int} : cx (-a) (-b) (-c) (-d) = cx a b c d := by unfold cx; rw [Int.neg_mul_neg, Int.neg_mul_neg]
def lp (a b : Int) : Prop := 0 < a ∨ (a = 0 ∧ 0 < b)
theorem cx_id {a b c d e f : Int} : c * cx a b e f = a * cx c d e f + e * cx a b c d := by unfold cx; grind
theorem cx_tr {a b c d e f : Int} (h1 : lp a b) (h2 : lp c d) (h3 : lp e f) (g1 : 0 < cx a b c d) (g2 : 0 < cx c d e f) : 0 < cx a b e f := by
  have hid := cx_id (a := a) (b := b) (c := c) (d := d) (e := e) (f := f)
  rcases h2 with h2 | ⟨h2, h2'⟩
  · have ha : 0 ≤ a := by unfold lp at h1; omega
    have he : 0 ≤ e := by unfold lp at h3; omega
    have p1 : 0 ≤ a * cx c d e f := Int.mul_nonneg ha (by omega)
    have p2 : 0 ≤ e * cx a b c d := Int.mul_nonneg he (by omega)
    have hpos : 0 < a ∨ 0 < e := by
      rcases h1 with h1 | ⟨h1, h1'⟩
      · exact Or.inl h1
      · exfalso
        subst h1
        unfold cx at g1
        have : 0 < b * c := Int.mul_pos h1' h2
        omega
    have hs : 0 < c * cx a b e f := by
      rcases hpos with q | q
      · have := Int.mul_pos q g2; omega
      · have := Int.mul_pos q g1; omega
    exact Int.pos_of_mul_pos_left (by rw [Int.mul_comm]; exact hs) h2
  · exfalso
    subst h2
    unfold cx at g2
    have he : 0 ≤ e := by unfold lp at h3; omega
    have : 0 ≤ d * e := Int.mul_nonneg (by omega) he
    omega
/-- a chain: directions to the right (or up), left turns; then any two directions turn left -/
def chn (dx dy : Nat → Int) (n : Nat) : Prop := (∀ a, a < n → lp (dx a) (dy a)) ∧ ∀ a, a + 1 < n → 0 < cx (dx a) (dy a) (dx (a + 1)) (dy (a + 1))
theorem chn_2 {dx dy : Nat → Int} {n : Nat} (h : chn dx dy n) : ∀ (k a : Nat), a + k + 1 < n → 0 < cx (dx a) (dy a) (dx (a + k + 1)) (dy (a + k + 1)) := by
  intro k
  induction k with
  | zero => intro a ha; exact h.2 a ha
  | succ k ih => intro a ha; exact cx_tr (h.1 a (by omega)) (h.1 (a + k + 1) (by omega)) (h.1 (a + (k + 1) + 1) (by omega)) (ih a (by omega)) (h.2 (a + k + 1) (by omega))
def df (X : Nat → Int) : Nat → Int := fun a => X (a + 1) - X a
theorem chn_3 {X Y : Nat → Int} {n : Nat} (h : chn (df X) (df Y) n) (a j : Nat) (haj : a < j) : ∀ k : Nat, j + k + 1 ≤ n → 0 < cx (df X a) (df Y a) (X (j + k + 1) - X j) (Y (j + k + 1) - Y j) := by
  intro k
  induction k with
  | zero =>
    intro hk
    have := chn_2 h (j - a - 1) a (by omega)
    rw [show a + (j - a - 1) + 1 = j by omega] at this
    exact this
  | succ k ih =>
    intro hk
    have h1 := ih (by omega)
    have h2 := chn_2 h (j + k + 1 - a - 1) a (by omega)
    rw [show a + (j + k + 1 - a - 1) + 1 = j + k + 1 by omega] at h2
    rw [show X (j + (k + 1) + 1) - X j = (X (j + k + 1) - X j) + df X (j + k + 1) by unfold df; rw [show j + (k + 1) + 1 = j + k + 1 + 1 by omega]; omega, show Y (j + (k + 1) + 1) - Y j = (Y (j + k + 1) - Y j) + df Y (j + k + 1) by unfold df; rw [show j + (k + 1) + 1 = j + k + 1 + 1 by omega]; omega, cx_add]
    omega
theorem chn_4 {X Y : Nat → Int} {n : Nat} (h : chn (df X) (df Y) n) (j k : Nat) (hjk : j < k) (hk : k ≤ n) : ∀ m : Nat, m + 1 ≤ j → 0 < cx (X j - X (j - m - 1)) (Y j - Y (j - m - 1)) (X k - X j) (Y k - Y j) := by
  intro m
  induction m with
  | zero =>
    intro hm
    have := chn_3 h (j - 1) j (by omega) (k - j - 1) (by omega)
    rw [show j + (k - j - 1) + 1 = k by omega] at this
    unfold df at this
    rw [show j - 1 + 1 = j by omega] at this
    exact this
  | succ m ih =>
    intro hm
    have h1 := ih (by omega)
    have h2 := chn_3 h (j - (m + 1) - 1) j (by omega) (k - j - 1) (by omega)
    rw [show j + (k - j - 1) + 1 = k by omega] at h2
    rw [show X j - X (j - (m + 1) - 1) = (X j - X (j - m - 1)) + df X (j - (m + 1) - 1) by unfold df; rw [show j - (m + 1) - 1 + 1 = j - m - 1 by omega]; omega, show Y j - Y (j - (m + 1) - 1) = (Y j - Y (j - m - 1)) + df Y (j - (m + 1) - 1) by unfold df; rw [show j - (m + 1) - 1 + 1 = j - m - 1 by omega]; omega, cx_add']
    omega
theorem tn_cx {X Y : Nat → Int} {i j k : Nat} : tn X Y i j k = cx (X j - X i) (Y j - Y i) (X k - X j) (Y k - Y j) := by
  unfold tn cx; grind
/-- any three of a chain turn left -/
theorem chn_t {X Y : Nat → Int} {n i j k : Nat} (h : chn (df X) (df Y) n) (h1 : i < j) (h2 : j < k) (h3 : k ≤ n) : 0 < tn X Y i j k := by
  rw [tn_cx]
  have := chn_4 h j k h2 h3 (j - i - 1) (by omega)
  rw [show j - (j - i - 1) - 1 = i by omega] at this
  exact this
theorem tn_rot {X Y : Nat → Int} {i j k : Nat} : tn X Y i j k = tn X Y k i j := by unfold tn; grind
theorem chn_lo {X Y : Nat → Int} {t : Nat} (h1 : ∀ a : Nat, a < t → lt2 (X a) (Y a) (X (a + 1)) (Y (a + 1))) (h2 : lft X Y 0 ((t : Int) + 1)) : chn (df X) (df Y) t := by
  refine ⟨fun a ha => ?_, fun a ha => ?_⟩
  · have := h1 a ha; unfold lt2 at this; unfold lp df; omega
  · have := h2 a (by omega) (by omega)
    rw [tn_cx] at this; exact this
/-- the upper chain, turned by half a turn, from the place t on -/
theorem chn_up {X Y : Nat → Int} {t : Nat} {n : Int} (h1 : ∀ a : Nat, t ≤ a → (a : Int) < n → lt2 (X (a + 1)) (Y (a + 1)) (X a) (Y a)) (h2 : lft X Y t (n + 1)) : chn (df (fun a => -X (t + a))) (df (fun a => -Y (t + a))) (n.toNat - t) := by
  refine ⟨fun a ha => ?_, fun a ha => ?_⟩
  · have := h1 (t + a) (by omega) (by omega); unfold lt2 at this; unfold lp df; dsimp only; rw [show t + (a + 1) = t + a + 1 by omega]; omega
  · have := h2 (t + a) (by omega) (by omega)
    rw [tn_cx] at this
    unfold df; dsimp only
    rw [show t + (a + 1) = t + a + 1 by omega, show t + (a + 1 + 1) = t + a + 2 by omega, ← cx_neg]
    rw [show -(-X (t + a + 1) - -X (t + a)) = X (t + a + 1) - X (t + a) by omega, show -(-Y (t + a + 1) - -Y (t + a)) = Y (t + a + 1) - Y (t + a) by omega, show -(-X (t + a + 2) - -X (t + a + 1)) = X (t + a + 2) - X (t + a + 1) by omega, show -(-Y (t + a + 2) - -Y (t + a + 1)) = Y (t + a + 2) - Y (t + a + 1) by omega]
    exact this
theorem Ch_d {n : Int} {X Y : Nat → Int} (h : Ch n X Y) (hn : 2 < n) : 0 < tn X Y 0 1 2 := by
  rcases h with h | ⟨t, h1, h2, h3, h4, h5, h6, h7, h8⟩
  · omega
  · by_cases e : 2 ≤ t
    · exact h4 0 (by omega) (by omega)
    · have et : t = 1 := by omega
      subst et
      have hc := chn_up h5 h6
      have := chn_t hc (i := 0) (j := 1) (k := n.toNat - 1) (by omega) (by omega) (Nat.le_refl _)
      rw [tn_cx] at this
      rw [show 1 + (n.toNat - 1) = n.toNat by omega, ← cx_neg] at this
      rw [show 1 + 0 = 1 from rfl, show 1 + 1 = 2 from rfl, h7, h8] at this
      rw [tn_cx]
      unfold cx at this ⊢
      grind
theorem Sh_d {u : MS} {s : Int} (h : Sh u s) (hn : 2 < mN u s) : 0 < (mX u s 1 - mX u s 0) * (mY u s 2 - mY u s 0) - (mY u s 1 - mY u s 0) * (mX u s 2 - mX u s 0) := Ch_d h.2.2 hn


theorem IM_tk {u : MS} {f0 f1 f2 f3 : Nat → Int} {s b z : Int} (hI : IM u) (h0 : 0 ≤ s ∧ s ≤ 7) (hb : b = 0 ∨ b = 1) (hn : 0 ≤ u.2.2 9) (hb0 : b = 0 → bd 40 (u.1 7) (u.1 8) (u.2.2 9)) (hc : Ch (u.2.2 9) (u.1 7) (u.1 8)) (h : (z = -3 ∧ ¬ tk_ok b 40 (u.1 7) (u.1 8) (u.2.2 9) (u.2.2 9) ∧ f0 = u.1 0 ∧ f1 = u.1 1 ∧ f2 = u.1 2 ∧ f3 = u.1 3) ∨ (z = u.2.2 9 ∧ tk_ok b 40 (u.1 7) (u.1 8) (u.2.2 9) (u.2.2 9) ∧ tk_new u f0 f1 f2 f3 s)) : IM (uI (uI (uI (uI u 0 f0) 1 f1) 2 f2) 3 f3) := by
  rcases h with ⟨_, _, e0, e1, e2, e3⟩ | ⟨k1, k2, k3⟩
  · rw [e0, e1, e2, e3]; exact hI
  · refine IM_new hI h0.1 h0.2 ⟨hn, k2.1⟩ ?_ hc k3
    rcases hb with e | e
    · exact hb0 e
    · exact k2.2 e

set_option maxHeartbeats 4000000 in
set_option maxRecDepth 100000 in
theorem c_X12_corners (l : Launch) (D : JD) (o : Nat) (q : Nat → Nat) (u : MS) (s : Int) (p0 : IM u) (p1 : -2147483648 ≤ s ∧ s ≤ 2147483647) : Met l yX12_corners (jw yX12_corners cX12_corners 2 (some .int)) (jr 2 42) (jP [.ref o, .int (J s)] D (fun H => va_P D.1 j_cl (mW D o q u) H)) (jRi (fun z => (0 ≤ s ∧ s ≤ 7 ∧ z = mN u s) ∨ (¬ (0 ≤ s ∧ s ≤ 7) ∧ z = -1))) 0 0 (fun _ => False) := by
  refine Met.ofW (cc := cX12_corners) (maxL := 2) (ret := (some .int)) (by decide) rfl ?_
  intro pr en st mi args below meth co s₁ B hml hv
  obtain ⟨rfl, hG, hP⟩ := hv
  have hr := B.returns
  have hlk := B.notSynchronized
  have SS : jS pr mi co cX12_corners 2 st _ RX12 := ⟨B.exec, B.bytes, hml, findClass_of_methodNamed B.named, fun w hw => atoms_spec (ws := (jw yX12_corners cX12_corners 2 (some .int))) B.pre w (List.mem_cons_of_mem _ hw)⟩
  have hl := lv_entry ([.ref o, .int (J s)]) (n := 2) (Nat.le_of_ble_eq_true rfl)
  rw [lg_entry_eq]
  generalize (lg_sl ([.ref o, .int (J s)]) ++ List.replicate (2 - (lg_sl ([.ref o, .int (J s)])).length) Slot.unset).toArray = ls at hl ⊢
  have hl : lv_has ls 2 [(0, .ref o), (1, .int (J s))] := hl
  refine lv_iload_n SS.1 SS.2.1 dX12_corners_0 rfl (lv_at hl 1 rfl) ?_
  refine j_sRi SS (As := [.int (J s)]) (rest := []) (c_X12_isShape l D s (show -2147483648 ≤ s ∧ s ≤ 2147483647 from (by omega))) mf_X12_isShape kw_1156 hG trivial rfl hl.1 ⟨⟨Nat.le_of_ble_eq_true rfl, Nat.le_of_ble_eq_true rfl⟩, Nat.le_of_ble_eq_true rfl, Nat.le_refl _, Nat.le_refl _⟩ rfl dX12_corners_1 (fun z_1 h_1 => ?_)
  have h_1 : (z_1 = 1 ∧ (0 ≤ s ∧ s ≤ 7)) ∨ (z_1 = 0 ∧ ¬ (0 ≤ s ∧ s ≤ 7)) := h_1
  refine j_if_eq SS (tgt := 16) (x := z_1) dX12_corners_4 (by decide) (by omega) (fun c_4 => ?_) (fun c_4 => ?_)
  · skip
    refine j_iconst SS dX12_corners_16 ?_
    exact W.iret SS.1 SS.2.1 hr (fun t ht hW => ⟨_, rfl, ⟨(-1), rfl, (by omega)⟩, ht⟩) (fun _ h => nomatch h) dX12_corners_17 hlk
  · skip
    refine lv_aload_n SS.1 SS.2.1 dX12_corners_7 rfl (lv_at hl 0 rfl) ?_
    refine j_get SS hG hP 0 (v := .ref (q 0)) (C := RX12) (T := TX12) (N := 31) rfl rfl inX12 0 (by decide) (ref := RX12) kw_1058 rfl rfl dX12_corners_8 ?_
    refine lv_iload_n SS.1 SS.2.1 dX12_corners_11 rfl (lv_at hl 1 rfl) ?_
    refine j_iald SS hG hP 1 (n := 8) (f := (u.1 0)) rfl (z := s) (by omega) (by omega) dX12_corners_12 ?_
    have hN_12 := (show Sh u s from p0.1 _ (by omega) (by omega)).1
    refine lv_goto (tgt := 17) SS.1 SS.2.1 dX12_corners_13 (by decide) ?_
    exact W.iret SS.1 SS.2.1 hr (fun t ht hW => ⟨_, rfl, ⟨(mN u s), rfl, (by omega)⟩, ht⟩) (fun _ h => nomatch h) dX12_corners_17 hlk

set_option maxHeartbeats 4000000 in
set_option maxRecDepth 100000 in
theorem c_X12_isWay (l : Launch) (D : JD) (a : Int) (b : Int) (p0 : -2147483648 < a ∧ a ≤ 2147483647) (p1 : -2147483648 < b ∧ b ≤ 2147483647) : Met l yX12_isWay (jw yX12_isWay cX12_isWay 2 (some .boolean)) (jr 2 44) (jP [.int (J a), .int (J b)] D (fun _ => True)) (jRi (fun z => (z = 1 ∧ ((Int.gcd a b : Int) = 1 ∧ (0 < a ∨ (a = 0 ∧ b = 1)))) ∨ (z = 0 ∧ ¬ ((Int.gcd a b : Int) = 1 ∧ (0 < a ∨ (a = 0 ∧ b = 1)))))) 0 0 (fun _ => False) := by
  refine Met.ofW (cc := cX12_isWay) (maxL := 2) (ret := (some .boolean)) (by decide) rfl ?_
  intro pr en st mi args below meth co s₁ B hml hv
  obtain ⟨rfl, hG, hP⟩ := hv
  have hr := B.returns
  have hlk := B.notSynchronized
  have SS : jS pr mi co cX12_isWay 2 st _ RX12 := ⟨B.exec, B.bytes, hml, findClass_of_methodNamed B.named, fun w hw => atoms_spec (ws := (jw yX12_isWay cX12_isWay 2 (some .boolean))) B.pre w (List.mem_cons_of_mem _ hw)⟩
  have hl := lv_entry ([.int (J a), .int (J b)]) (n := 2) (Nat.le_of_ble_eq_true rfl)
  rw [lg_entry_eq]
  generalize (lg_sl ([.int (J a), .int (J b)]) ++ List.replicate (2 - (lg_sl ([.int (J a), .int (J b)])).length) Slot.unset).toArray = ls at hl ⊢
  have hl : lv_has ls 2 [(0, .int (J a)), (1, .int (J b))] := hl
  refine lv_iload_n SS.1 SS.2.1 dX12_isWay_0 rfl (lv_at hl 0 rfl) ?_
  refine lv_iload_n SS.1 SS.2.1 dX12_isWay_1 rfl (lv_at hl 1 rfl) ?_
  refine j_sRi SS (As := [.int (J a), .int (J b)]) (rest := []) (c_X12_common l D a b (show -2147483648 < a ∧ a ≤ 2147483647 from (by omega)) (show -2147483648 < b ∧ b ≤ 2147483647 from (by omega))) mf_X12_common kw_1230 hG trivial rfl hl.1 ⟨⟨Nat.le_of_ble_eq_true rfl, Nat.le_of_ble_eq_true rfl⟩, Nat.le_of_ble_eq_true rfl, Nat.le_refl _, Nat.le_refl _⟩ rfl dX12_isWay_2 (fun z_2 h_2 => ?_)
  have h_2 : z_2 = (Int.gcd a b : Int) := h_2
  have hg := gcd_b (a := a) (b := b) (K := 2147483647) (by omega) (by omega)
  refine j_iconst SS dX12_isWay_5 ?_
  refine j_icmp_ne SS (tgt := 26) (x := z_2) (y := 1) dX12_isWay_6 (by decide) (by omega) (by decide) (fun c_6 => ?_) (fun c_6 => ?_)
  · skip
    refine j_iconst SS dX12_isWay_26 ?_
    exact W.zret SS.1 SS.2.1 hr (j_nz (by decide)) (fun t ht hW => ⟨_, rfl, ⟨0, rfl, (by omega)⟩, ht⟩) (fun _ h => nomatch h) dX12_isWay_27 hlk
  · skip
    refine lv_iload_n SS.1 SS.2.1 dX12_isWay_9 rfl (lv_at hl 0 rfl) ?_
    refine j_if_gt SS (tgt := 22) (x := a) dX12_isWay_10 (by decide) (by omega) (fun c_10 => ?_) (fun c_10 => ?_)
    · skip
      refine j_iconst SS dX12_isWay_22 ?_
      refine lv_goto (tgt := 27) SS.1 SS.2.1 dX12_isWay_23 (by decide) ?_
      exact W.zret SS.1 SS.2.1 hr (j_nz (by decide)) (fun t ht hW => ⟨_, rfl, ⟨1, rfl, (by omega)⟩, ht⟩) (fun _ h => nomatch h) dX12_isWay_27 hlk
    · skip
      refine lv_iload_n SS.1 SS.2.1 dX12_isWay_13 rfl (lv_at hl 0 rfl) ?_
      refine j_if_ne SS (tgt := 26) (x := a) dX12_isWay_14 (by decide) (by omega) (fun c_14 => ?_) (fun c_14 => ?_)
      · skip
        refine j_iconst SS dX12_isWay_26 ?_
        exact W.zret SS.1 SS.2.1 hr (j_nz (by decide)) (fun t ht hW => ⟨_, rfl, ⟨0, rfl, (by omega)⟩, ht⟩) (fun _ h => nomatch h) dX12_isWay_27 hlk
      · skip
        refine lv_iload_n SS.1 SS.2.1 dX12_isWay_17 rfl (lv_at hl 1 rfl) ?_
        refine j_iconst SS dX12_isWay_18 ?_
        refine j_icmp_ne SS (tgt := 26) (x := b) (y := 1) dX12_isWay_19 (by decide) (by omega) (by decide) (fun c_19 => ?_) (fun c_19 => ?_)
        · skip
          refine j_iconst SS dX12_isWay_26 ?_
          exact W.zret SS.1 SS.2.1 hr (j_nz (by decide)) (fun t ht hW => ⟨_, rfl, ⟨0, rfl, (by omega)⟩, ht⟩) (fun _ h => nomatch h) dX12_isWay_27 hlk
        · skip
          refine j_iconst SS dX12_isWay_22 ?_
          refine lv_goto (tgt := 27) SS.1 SS.2.1 dX12_isWay_23 (by decide) ?_
          exact W.zret SS.1 SS.2.1 hr (j_nz (by decide)) (fun t ht hW => ⟨_, rfl, ⟨1, rfl, (by omega)⟩, ht⟩) (fun _ h => nomatch h) dX12_isWay_27 hlk


theorem td_b {a b K : Int} (h : -K ≤ a ∧ a ≤ K) : -K ≤ a.tdiv b ∧ a.tdiv b ≤ K := by
  have := Int.natAbs_tdiv_le_natAbs a b; omega
theorem tm_c {a n : Int} (hn : 0 < n) : -n < a.tmod n ∧ a.tmod n < n := by
  have h : (a.tmod n).natAbs < n.natAbs := by rw [Int.natAbs_tmod]; exact Nat.mod_lt _ (by omega)
  omega


def mDX (u : MS) (s i : Int) : Int := Int.tdiv (mX u s (i + 1) - mX u s i) (mS u s i)
def mDY (u : MS) (s i : Int) : Int := Int.tdiv (mY u s (i + 1) - mY u s i) (mS u s i)
theorem mDX_m {u : MS} {s i : Int} : mS u s i * mDX u s i = mX u s (i + 1) - mX u s i := by
  unfold mDX mS; exact Int.mul_tdiv_cancel' (Int.gcd_dvd_left _ _)
theorem mDY_m {u : MS} {s i : Int} : mS u s i * mDY u s i = mY u s (i + 1) - mY u s i := by
  unfold mDY mS; exact Int.mul_tdiv_cancel' (Int.gcd_dvd_right _ _)
theorem km_e {k : Int} (h : 0 ≤ k) : Int.tmod k 161 = k % 161 ∧ Int.tdiv k 161 = k / 161 := ⟨Int.tmod_eq_emod_of_nonneg h, Int.tdiv_eq_ediv_of_nonneg h⟩
def bk (Bf : Nat → Int) (i x y : Int) : Int := if (-80 ≤ x ∧ x ≤ 80) ∧ -80 ≤ y ∧ y ≤ 80 then Bf (25921 * i + (161 * (y + 80) + x + 80)).toNat else -9
theorem bk_pos {Bf : Nat → Int} {i x y : Int} (h : (-80 ≤ x ∧ x ≤ 80) ∧ -80 ≤ y ∧ y ≤ 80) : bk Bf i x y = Bf (25921 * i + (161 * (y + 80) + x + 80)).toNat := if_pos h
theorem bk_neg {Bf : Nat → Int} {i x y : Int} (h : ¬ ((-80 ≤ x ∧ x ≤ 80) ∧ -80 ≤ y ∧ y ≤ 80)) : bk Bf i x y = -9 := if_neg h
theorem bk_in {Bf : Nat → Int} {i x y : Int} (h : bk Bf i x y ≠ -9) : (-80 ≤ x ∧ x ≤ 80) ∧ -80 ≤ y ∧ y ≤ 80 := by
  unfold bk at h; split at h
  · assumption
  · exact absurd rfl h
/-- the row i at the place k -/
def rk (u : MS) (s : Int) (Bf : Nat → Int) (i k : Int) : Prop := (Bf (25921 * i + k).toNat = -9 ∧ ∀ t : Int, 0 ≤ t → t ≤ mS u s i → bk Bf (i + 1) (k % 161 - 80 + t * mDX u s i) (k / 161 - 80 + t * mDY u s i) = -9) ∨ (0 ≤ Bf (25921 * i + k).toNat ∧ Bf (25921 * i + k).toNat ≤ 100 * (24 - i) ∧ ∃ t : Int, 0 ≤ t ∧ t ≤ mS u s i ∧ bk Bf (i + 1) (k % 161 - 80 + t * mDX u s i) (k / 161 - 80 + t * mDY u s i) ≠ -9 ∧ Bf (25921 * i + k).toNat = bk Bf (i + 1) (k % 161 - 80 + t * mDX u s i) (k / 161 - 80 + t * mDY u s i) + t)
def rowN (Bf : Nat → Int) (n k : Int) : Prop := ∀ j : Int, 0 ≤ j → j < k → (j = 12960 → Bf (25921 * n + j).toNat = 0) ∧ (j ≠ 12960 → Bf (25921 * n + j).toNat = -9)
def rows (u : MS) (s : Int) (Bf : Nat → Int) (n i : Int) : Prop := rowN Bf n 25921 ∧ ∀ i' : Int, i < i' → i' < n → ∀ k : Int, 0 ≤ k → k < 25921 → rk u s Bf i' k
theorem bk_cong {Bf Bg : Nat → Int} {i x y : Int} (h : ∀ k : Int, 0 ≤ k → k < 25921 → Bg (25921 * i + k).toNat = Bf (25921 * i + k).toNat) : bk Bg i x y = bk Bf i x y := by
  unfold bk; split
  · exact h _ (by omega) (by omega)
  · rfl
theorem rk_cong {u : MS} {s : Int} {Bf Bg : Nat → Int} {i k : Int} (h : ∀ j : Int, 0 ≤ j → j < 25921 → Bg (25921 * (i + 1) + j).toNat = Bf (25921 * (i + 1) + j).toNat) (h2 : Bg (25921 * i + k).toNat = Bf (25921 * i + k).toNat) (H : rk u s Bf i k) : rk u s Bg i k := by
  have e : ∀ x y, bk Bg (i + 1) x y = bk Bf (i + 1) x y := fun x y => bk_cong h
  unfold rk at *
  rw [h2]
  rcases H with ⟨a, b⟩ | ⟨a, a2, t, b1, b2, b3, b4⟩
  · exact Or.inl ⟨a, fun t h1 h2 => by rw [e]; exact b t h1 h2⟩
  · exact Or.inr ⟨a, a2, t, b1, b2, by rw [e]; exact b3, by rw [e]; exact b4⟩
/-- the values of all rows from i on: none, or not below 0 -/
def vals (Bf : Nat → Int) (n i : Int) : Prop := ∀ i' : Int, i < i' → i' ≤ n → ∀ k : Int, 0 ≤ k → k < 25921 → Bf (25921 * i' + k).toNat = -9 ∨ (0 ≤ Bf (25921 * i' + k).toNat ∧ Bf (25921 * i' + k).toNat ≤ 100 * (24 - i'))
theorem rows_v {u : MS} {s : Int} {Bf : Nat → Int} {n i : Int} (h : rows u s Bf n i) (hn : n ≤ 24) : vals Bf n i := by
  intro i' h1 h2 k k1 k2
  by_cases e : i' = n
  · have := h.1 k k1 k2
    rw [e]
    by_cases e2 : k = 12960
    · have := this.1 e2; omega
    · have := this.2 e2; omega
  · rcases h.2 i' h1 (by omega) k k1 k2 with a | a
    · exact Or.inl a.1
    · exact Or.inr ⟨a.1, a.2.1⟩
theorem vals_b {Bf : Nat → Int} {n i i' x y : Int} (h : vals Bf n i) (h1 : i < i') (h2 : i' ≤ n) (h0 : 0 ≤ i') : bk Bf i' x y = -9 ∨ (0 ≤ bk Bf i' x y ∧ bk Bf i' x y ≤ 100 * (24 - i')) := by
  unfold bk; split
  · exact h i' h1 h2 _ (by omega) (by omega)
  · exact Or.inl rfl

set_option maxHeartbeats 4000000 in
set_option maxRecDepth 100000 in
theorem c_X12_spot (l : Launch) (D : JD) (x : Int) (y : Int) (p0 : -2147483648 ≤ x ∧ x ≤ 2147483647) (p1 : -2147483648 ≤ y ∧ y ≤ 2147483647) : Met l yX12_spot (jw yX12_spot cX12_spot 2 (some .int)) (jr 1 22) (jP [.int (J x), .int (J y)] D (fun _ => True)) (jRi (fun z => ((-80 ≤ x ∧ x ≤ 80) ∧ (-80 ≤ y ∧ y ≤ 80) ∧ z = 161 * (y + 80) + x + 80) ∨ (¬ ((-80 ≤ x ∧ x ≤ 80) ∧ (-80 ≤ y ∧ y ≤ 80)) ∧ z = -9))) 0 0 (fun _ => False) := by
  refine Met.ofW (cc := cX12_spot) (maxL := 2) (ret := (some .int)) (by decide) rfl ?_
  intro pr en st mi args below meth co s₁ B hml hv
  obtain ⟨rfl, hG, hP⟩ := hv
  have hr := B.returns
  have hlk := B.notSynchronized
  have SS : jS pr mi co cX12_spot 2 st _ RX12 := ⟨B.exec, B.bytes, hml, findClass_of_methodNamed B.named, fun w hw => atoms_spec (ws := (jw yX12_spot cX12_spot 2 (some .int))) B.pre w (List.mem_cons_of_mem _ hw)⟩
  have hl := lv_entry ([.int (J x), .int (J y)]) (n := 2) (Nat.le_of_ble_eq_true rfl)
  rw [lg_entry_eq]
  generalize (lg_sl ([.int (J x), .int (J y)]) ++ List.replicate (2 - (lg_sl ([.int (J x), .int (J y)])).length) Slot.unset).toArray = ls at hl ⊢
  have hl : lv_has ls 2 [(0, .int (J x)), (1, .int (J y))] := hl
  refine lv_iload_n SS.1 SS.2.1 dX12_spot_0 rfl (lv_at hl 0 rfl) ?_
  refine j_bipush SS dX12_spot_1 (by decide +kernel) ?_
  refine j_bipush SS dX12_spot_3 (by decide +kernel) ?_
  refine j_sRi SS (As := [.int (J x), .int (J (-80)), .int (J 80)]) (rest := []) (c_X12_in l D x (-80) 80 (show -2147483648 ≤ x ∧ x ≤ 2147483647 from (by omega)) (show -2147483648 ≤ (-80 : Int) ∧ (-80 : Int) ≤ 2147483647 from (by omega)) (show -2147483648 ≤ (80 : Int) ∧ (80 : Int) ≤ 2147483647 from (by omega))) mf_X12_in kw_1159 hG trivial rfl hl.1 ⟨⟨Nat.le_of_ble_eq_true rfl, Nat.le_of_ble_eq_true rfl⟩, Nat.le_of_ble_eq_true rfl, Nat.le_refl _, Nat.le_refl _⟩ rfl dX12_spot_5 (fun z_5 h_5 => ?_)
  have h_5 : (z_5 = 1 ∧ ((-80 : Int) ≤ x ∧ x ≤ (80 : Int))) ∨ (z_5 = 0 ∧ ¬ ((-80 : Int) ≤ x ∧ x ≤ (80 : Int))) := h_5
  refine j_if_eq SS (tgt := 38) (x := z_5) dX12_spot_8 (by decide) (by omega) (fun c_8 => ?_) (fun c_8 => ?_)
  · skip
    refine j_bipush SS dX12_spot_38 (by decide +kernel) ?_
    exact W.iret SS.1 SS.2.1 hr (fun t ht hW => ⟨_, rfl, ⟨(-9), rfl, (by omega)⟩, ht⟩) (fun _ h => nomatch h) dX12_spot_40 hlk
  · skip
    refine lv_iload_n SS.1 SS.2.1 dX12_spot_11 rfl (lv_at hl 1 rfl) ?_
    refine j_bipush SS dX12_spot_12 (by decide +kernel) ?_
    refine j_bipush SS dX12_spot_14 (by decide +kernel) ?_
    refine j_sRi SS (As := [.int (J y), .int (J (-80)), .int (J 80)]) (rest := []) (c_X12_in l D y (-80) 80 (show -2147483648 ≤ y ∧ y ≤ 2147483647 from (by omega)) (show -2147483648 ≤ (-80 : Int) ∧ (-80 : Int) ≤ 2147483647 from (by omega)) (show -2147483648 ≤ (80 : Int) ∧ (80 : Int) ≤ 2147483647 from (by omega))) mf_X12_in kw_1159 hG trivial rfl hl.1 ⟨⟨Nat.le_of_ble_eq_true rfl, Nat.le_of_ble_eq_true rfl⟩, Nat.le_of_ble_eq_true rfl, Nat.le_refl _, Nat.le_refl _⟩ rfl dX12_spot_16 (fun z_16 h_16 => ?_)
    have h_16 : (z_16 = 1 ∧ ((-80 : Int) ≤ y ∧ y ≤ (80 : Int))) ∨ (z_16 = 0 ∧ ¬ ((-80 : Int) ≤ y ∧ y ≤ (80 : Int))) := h_16
    refine j_if_eq SS (tgt := 38) (x := z_16) dX12_spot_19 (by decide) (by omega) (fun c_19 => ?_) (fun c_19 => ?_)
    · skip
      refine j_bipush SS dX12_spot_38 (by decide +kernel) ?_
      exact W.iret SS.1 SS.2.1 hr (fun t ht hW => ⟨_, rfl, ⟨(-9), rfl, (by omega)⟩, ht⟩) (fun _ h => nomatch h) dX12_spot_40 hlk
    · skip
      refine j_sipush SS dX12_spot_22 (by decide +kernel) ?_
      refine lv_iload_n SS.1 SS.2.1 dX12_spot_25 rfl (lv_at hl 1 rfl) ?_
      refine j_bipush SS dX12_spot_26 (by decide +kernel) ?_
      refine j_iadd SS (x := y) (y := 80) dX12_spot_28 ?_
      refine j_imul SS (x := 161) (y := (y + 80)) dX12_spot_29 ?_
      refine lv_iload_n SS.1 SS.2.1 dX12_spot_30 rfl (lv_at hl 0 rfl) ?_
      refine j_iadd SS (x := (161 * (y + 80))) (y := x) dX12_spot_31 ?_
      refine j_bipush SS dX12_spot_32 (by decide +kernel) ?_
      refine j_iadd SS (x := ((161 * (y + 80)) + x)) (y := 80) dX12_spot_34 ?_
      refine lv_goto (tgt := 40) SS.1 SS.2.1 dX12_spot_35 (by decide) ?_
      exact W.iret SS.1 SS.2.1 hr (fun t ht hW => ⟨_, rfl, ⟨(((161 * (y + 80)) + x) + 80), rfl, (by omega)⟩, ht⟩) (fun _ h => nomatch h) dX12_spot_40 hlk

set_option maxHeartbeats 4000000 in
set_option maxRecDepth 100000 in
theorem c_X12_stepX (l : Launch) (D : JD) (o : Nat) (q : Nat → Nat) (u : MS) (s : Int) (i : Int) (p0 : 0 ≤ s ∧ s ≤ 7) (p1 : Sh u s) (p2 : 0 ≤ i ∧ i < mN u s) (p3 : 2 ≤ mN u s) : Met l yX12_stepX (jw yX12_stepX cX12_stepX 3 (some .int)) (jr 3 66) (jP [.ref o, .int (J s), .int (J i)] D (fun H => va_P D.1 j_cl (mW D o q u) H)) (jRi (fun z => z = mDX u s i ∧ -80 ≤ z ∧ z ≤ 80)) 0 0 (fun _ => False) := by
  refine Met.ofW (cc := cX12_stepX) (maxL := 3) (ret := (some .int)) (by decide) rfl ?_
  intro pr en st mi args below meth co s₁ B hml hv
  obtain ⟨rfl, hG, hP⟩ := hv
  have hr := B.returns
  have hlk := B.notSynchronized
  have SS : jS pr mi co cX12_stepX 3 st _ RX12 := ⟨B.exec, B.bytes, hml, findClass_of_methodNamed B.named, fun w hw => atoms_spec (ws := (jw yX12_stepX cX12_stepX 3 (some .int))) B.pre w (List.mem_cons_of_mem _ hw)⟩
  have hl := lv_entry ([.ref o, .int (J s), .int (J i)]) (n := 3) (Nat.le_of_ble_eq_true rfl)
  rw [lg_entry_eq]
  generalize (lg_sl ([.ref o, .int (J s), .int (J i)]) ++ List.replicate (3 - (lg_sl ([.ref o, .int (J s), .int (J i)])).length) Slot.unset).toArray = ls at hl ⊢
  have hl : lv_has ls 3 [(0, .ref o), (1, .int (J s)), (2, .int (J i))] := hl
  have hN := p1.1
  have hC := p1.2.2
  have hp := mS_p hC p3 p2.1 p2.2
  refine lv_aload_n SS.1 SS.2.1 dX12_stepX_0 rfl (lv_at hl 0 rfl) ?_
  refine lv_iload_n SS.1 SS.2.1 dX12_stepX_1 rfl (lv_at hl 1 rfl) ?_
  refine lv_iload_n SS.1 SS.2.1 dX12_stepX_2 rfl (lv_at hl 2 rfl) ?_
  refine j_iconst SS dX12_stepX_3 ?_
  refine j_iadd SS (x := i) (y := 1) dX12_stepX_4 ?_
  refine j_vRi SS (As := [.int (J s), .int (J (i + 1))]) (rest := []) (c_X12_x l D o q u s (i + 1) (show 0 ≤ s ∧ s ≤ 7 from (by omega)) (show 0 ≤ (i + 1) ∧ (i + 1) ≤ 1000000 from (by omega)) (show 0 < mN u s ∧ mN u s ≤ 24 from (by first | omega | (have hq := (show Sh u s from p1).1; omega)))) mf_X12_x kw_1177 hG hP hP (ci := 8) (q0 := 0) rfl rfl rfl rfl hl.1 ⟨⟨Nat.le_of_ble_eq_true rfl, Nat.le_of_ble_eq_true rfl⟩, Nat.le_of_ble_eq_true rfl, Nat.le_refl _, Nat.le_refl _⟩ rfl dX12_stepX_5 (fun z_5 h_5 => ?_)
  have h_5 : z_5 = mX u s (i + 1) := h_5
  have hb_5 := (show Sh u s from p1).2.1 (by omega) (i + 1) (by omega)
  refine lv_aload_n SS.1 SS.2.1 dX12_stepX_8 rfl (lv_at hl 0 rfl) ?_
  refine lv_iload_n SS.1 SS.2.1 dX12_stepX_9 rfl (lv_at hl 1 rfl) ?_
  refine lv_iload_n SS.1 SS.2.1 dX12_stepX_10 rfl (lv_at hl 2 rfl) ?_
  refine j_vRi SS (As := [.int (J s), .int (J i)]) (rest := [.int (J z_5)]) (c_X12_x l D o q u s i (show 0 ≤ s ∧ s ≤ 7 from (by omega)) (show 0 ≤ i ∧ i ≤ 1000000 from (by omega)) (show 0 < mN u s ∧ mN u s ≤ 24 from (by first | omega | (have hq := (show Sh u s from p1).1; omega)))) mf_X12_x kw_1177 hG hP hP (ci := 8) (q0 := 0) rfl rfl rfl rfl hl.1 ⟨⟨Nat.le_of_ble_eq_true rfl, Nat.le_of_ble_eq_true rfl⟩, Nat.le_of_ble_eq_true rfl, Nat.le_refl _, Nat.le_refl _⟩ rfl dX12_stepX_11 (fun z_11 h_11 => ?_)
  have h_11 : z_11 = mX u s i := h_11
  have hb_11 := (show Sh u s from p1).2.1 (by omega) i (by omega)
  refine j_isub SS (x := z_5) (y := z_11) dX12_stepX_14 ?_
  refine lv_aload_n SS.1 SS.2.1 dX12_stepX_15 rfl (lv_at hl 0 rfl) ?_
  refine lv_iload_n SS.1 SS.2.1 dX12_stepX_16 rfl (lv_at hl 1 rfl) ?_
  refine lv_iload_n SS.1 SS.2.1 dX12_stepX_17 rfl (lv_at hl 2 rfl) ?_
  refine j_vRi SS (As := [.int (J s), .int (J i)]) (rest := [.int (J (z_5 - z_11))]) (c_X12_stepsOf l D o q u s i (show 0 ≤ s ∧ s ≤ 7 from (by omega)) (show Sh u s from (p1)) (show 0 ≤ i ∧ i ≤ 100 from (by omega)) (show 0 < mN u s from (by first | omega | (have hq := (show Sh u s from p1).1; omega)))) mf_X12_stepsOf kw_1226 hG hP hP (ci := 8) (q0 := 0) rfl rfl rfl rfl hl.1 ⟨⟨Nat.le_of_ble_eq_true rfl, Nat.le_of_ble_eq_true rfl⟩, Nat.le_of_ble_eq_true rfl, Nat.le_refl _, Nat.le_refl _⟩ rfl dX12_stepX_18 (fun z_18 h_18 => ?_)
  have h_18 : z_18 = mS u s i ∧ 0 ≤ z_18 ∧ z_18 ≤ 80 := h_18
  rw [← h_18.1] at hp
  have htd := td_b (b := z_18) (show -80 ≤ z_5 - z_11 ∧ z_5 - z_11 ≤ 80 by omega)
  refine j_idiv SS (x := (z_5 - z_11)) (y := z_18) dX12_stepX_21 (by omega) (by omega) (by omega) ?_
  exact W.iret SS.1 SS.2.1 hr (fun t ht hW => ⟨_, rfl, ⟨(Int.tdiv (z_5 - z_11) z_18), rfl, (⟨by rw [h_5, h_11, h_18.1]; rfl, htd.1, htd.2⟩)⟩, ht⟩) (fun _ h => nomatch h) dX12_stepX_22 hlk

set_option maxHeartbeats 4000000 in
set_option maxRecDepth 100000 in
theorem c_X12_stepY (l : Launch) (D : JD) (o : Nat) (q : Nat → Nat) (u : MS) (s : Int) (i : Int) (p0 : 0 ≤ s ∧ s ≤ 7) (p1 : Sh u s) (p2 : 0 ≤ i ∧ i < mN u s) (p3 : 2 ≤ mN u s) : Met l yX12_stepY (jw yX12_stepY cX12_stepY 3 (some .int)) (jr 3 66) (jP [.ref o, .int (J s), .int (J i)] D (fun H => va_P D.1 j_cl (mW D o q u) H)) (jRi (fun z => z = mDY u s i ∧ -80 ≤ z ∧ z ≤ 80)) 0 0 (fun _ => False) := by
  refine Met.ofW (cc := cX12_stepY) (maxL := 3) (ret := (some .int)) (by decide) rfl ?_
  intro pr en st mi args below meth co s₁ B hml hv
  obtain ⟨rfl, hG, hP⟩ := hv
  have hr := B.returns
  have hlk := B.notSynchronized
  have SS : jS pr mi co cX12_stepY 3 st _ RX12 := ⟨B.exec, B.bytes, hml, findClass_of_methodNamed B.named, fun w hw => atoms_spec (ws := (jw yX12_stepY cX12_stepY 3 (some .int))) B.pre w (List.mem_cons_of_mem _ hw)⟩
  have hl := lv_entry ([.ref o, .int (J s), .int (J i)]) (n := 3) (Nat.le_of_ble_eq_true rfl)
  rw [lg_entry_eq]
  generalize (lg_sl ([.ref o, .int (J s), .int (J i)]) ++ List.replicate (3 - (lg_sl ([.ref o, .int (J s), .int (J i)])).length) Slot.unset).toArray = ls at hl ⊢
  have hl : lv_has ls 3 [(0, .ref o), (1, .int (J s)), (2, .int (J i))] := hl
  have hN := p1.1
  have hC := p1.2.2
  have hp := mS_p hC p3 p2.1 p2.2
  refine lv_aload_n SS.1 SS.2.1 dX12_stepY_0 rfl (lv_at hl 0 rfl) ?_
  refine lv_iload_n SS.1 SS.2.1 dX12_stepY_1 rfl (lv_at hl 1 rfl) ?_
  refine lv_iload_n SS.1 SS.2.1 dX12_stepY_2 rfl (lv_at hl 2 rfl) ?_
  refine j_iconst SS dX12_stepY_3 ?_
  refine j_iadd SS (x := i) (y := 1) dX12_stepY_4 ?_
  refine j_vRi SS (As := [.int (J s), .int (J (i + 1))]) (rest := []) (c_X12_y l D o q u s (i + 1) (show 0 ≤ s ∧ s ≤ 7 from (by omega)) (show 0 ≤ (i + 1) ∧ (i + 1) ≤ 1000000 from (by omega)) (show 0 < mN u s ∧ mN u s ≤ 24 from (by first | omega | (have hq := (show Sh u s from p1).1; omega)))) mf_X12_y kw_1181 hG hP hP (ci := 8) (q0 := 0) rfl rfl rfl rfl hl.1 ⟨⟨Nat.le_of_ble_eq_true rfl, Nat.le_of_ble_eq_true rfl⟩, Nat.le_of_ble_eq_true rfl, Nat.le_refl _, Nat.le_refl _⟩ rfl dX12_stepY_5 (fun z_5 h_5 => ?_)
  have h_5 : z_5 = mY u s (i + 1) := h_5
  have hb_5 := (show Sh u s from p1).2.1 (by omega) (i + 1) (by omega)
  refine lv_aload_n SS.1 SS.2.1 dX12_stepY_8 rfl (lv_at hl 0 rfl) ?_
  refine lv_iload_n SS.1 SS.2.1 dX12_stepY_9 rfl (lv_at hl 1 rfl) ?_
  refine lv_iload_n SS.1 SS.2.1 dX12_stepY_10 rfl (lv_at hl 2 rfl) ?_
  refine j_vRi SS (As := [.int (J s), .int (J i)]) (rest := [.int (J z_5)]) (c_X12_y l D o q u s i (show 0 ≤ s ∧ s ≤ 7 from (by omega)) (show 0 ≤ i ∧ i ≤ 1000000 from (by omega)) (show 0 < mN u s ∧ mN u s ≤ 24 from (by first | omega | (have hq := (show Sh u s from p1).1; omega)))) mf_X12_y kw_1181 hG hP hP (ci := 8) (q0 := 0) rfl rfl rfl rfl hl.1 ⟨⟨Nat.le_of_ble_eq_true rfl, Nat.le_of_ble_eq_true rfl⟩, Nat.le_of_ble_eq_true rfl, Nat.le_refl _, Nat.le_refl _⟩ rfl dX12_stepY_11 (fun z_11 h_11 => ?_)
  have h_11 : z_11 = mY u s i := h_11
  have hb_11 := (show Sh u s from p1).2.1 (by omega) i (by omega)
  refine j_isub SS (x := z_5) (y := z_11) dX12_stepY_14 ?_
  refine lv_aload_n SS.1 SS.2.1 dX12_stepY_15 rfl (lv_at hl 0 rfl) ?_
  refine lv_iload_n SS.1 SS.2.1 dX12_stepY_16 rfl (lv_at hl 1 rfl) ?_
  refine lv_iload_n SS.1 SS.2.1 dX12_stepY_17 rfl (lv_at hl 2 rfl) ?_
  refine j_vRi SS (As := [.int (J s), .int (J i)]) (rest := [.int (J (z_5 - z_11))]) (c_X12_stepsOf l D o q u s i (show 0 ≤ s ∧ s ≤ 7 from (by omega)) (show Sh u s from (p1)) (show 0 ≤ i ∧ i ≤ 100 from (by omega)) (show 0 < mN u s from (by first | omega | (have hq := (show Sh u s from p1).1; omega)))) mf_X12_stepsOf kw_1226 hG hP hP (ci := 8) (q0 := 0) rfl rfl rfl rfl hl.1 ⟨⟨Nat.le_of_ble_eq_true rfl, Nat.le_of_ble_eq_true rfl⟩, Nat.le_of_ble_eq_true rfl, Nat.le_refl _, Nat.le_refl _⟩ rfl dX12_stepY_18 (fun z_18 h_18 => ?_)
  have h_18 : z_18 = mS u s i ∧ 0 ≤ z_18 ∧ z_18 ≤ 80 := h_18
  rw [← h_18.1] at hp
  have htd := td_b (b := z_18) (show -80 ≤ z_5 - z_11 ∧ z_5 - z_11 ≤ 80 by omega)
  refine j_idiv SS (x := (z_5 - z_11)) (y := z_18) dX12_stepY_21 (by omega) (by omega) (by omega) ?_
  exact W.iret SS.1 SS.2.1 hr (fun t ht hW => ⟨_, rfl, ⟨(Int.tdiv (z_5 - z_11) z_18), rfl, (⟨by rw [h_5, h_11, h_18.1]; rfl, htd.1, htd.2⟩)⟩, ht⟩) (fun _ h => nomatch h) dX12_stepY_22 hlk

set_option maxHeartbeats 4000000 in
set_option maxRecDepth 100000 in
theorem c_X12_backAt (l : Launch) (D : JD) (o : Nat) (q : Nat → Nat) (u : MS) (i : Int) (x : Int) (y : Int) (p0 : 0 ≤ i ∧ i ≤ 24) (p1 : -2147483648 ≤ x ∧ x ≤ 2147483647) (p2 : -2147483648 ≤ y ∧ y ≤ 2147483647) : Met l yX12_backAt (jw yX12_backAt cX12_backAt 5 (some .int)) (jr 2 43) (jP [.ref o, .int (J i), .int (J x), .int (J y)] D (fun H => va_P D.1 j_cl (mW D o q u) H)) (jRi (fun z => z = bk (u.1 15) i x y)) 0 0 (fun _ => False) := by
  refine Met.ofW (cc := cX12_backAt) (maxL := 5) (ret := (some .int)) (by decide) rfl ?_
  intro pr en st mi args below meth co s₁ B hml hv
  obtain ⟨rfl, hG, hP⟩ := hv
  have hr := B.returns
  have hlk := B.notSynchronized
  have SS : jS pr mi co cX12_backAt 5 st _ RX12 := ⟨B.exec, B.bytes, hml, findClass_of_methodNamed B.named, fun w hw => atoms_spec (ws := (jw yX12_backAt cX12_backAt 5 (some .int))) B.pre w (List.mem_cons_of_mem _ hw)⟩
  have hl := lv_entry ([.ref o, .int (J i), .int (J x), .int (J y)]) (n := 5) (Nat.le_of_ble_eq_true rfl)
  rw [lg_entry_eq]
  generalize (lg_sl ([.ref o, .int (J i), .int (J x), .int (J y)]) ++ List.replicate (5 - (lg_sl ([.ref o, .int (J i), .int (J x), .int (J y)])).length) Slot.unset).toArray = ls at hl ⊢
  have hl : lv_has ls 5 [(0, .ref o), (1, .int (J i)), (2, .int (J x)), (3, .int (J y))] := hl
  refine lv_iload_n SS.1 SS.2.1 dX12_backAt_0 rfl (lv_at hl 2 rfl) ?_
  refine lv_iload_n SS.1 SS.2.1 dX12_backAt_1 rfl (lv_at hl 3 rfl) ?_
  refine j_sRi SS (As := [.int (J x), .int (J y)]) (rest := []) (c_X12_spot l D x y (show -2147483648 ≤ x ∧ x ≤ 2147483647 from (by omega)) (show -2147483648 ≤ y ∧ y ≤ 2147483647 from (by omega))) mf_X12_spot kw_1329 hG trivial rfl hl.1 ⟨⟨Nat.le_of_ble_eq_true rfl, Nat.le_of_ble_eq_true rfl⟩, Nat.le_of_ble_eq_true rfl, Nat.le_refl _, Nat.le_refl _⟩ rfl dX12_backAt_2 (fun z_2 h_2 => ?_)
  have h_2 : ((-80 ≤ x ∧ x ≤ 80) ∧ (-80 ≤ y ∧ y ≤ 80) ∧ z_2 = 161 * (y + 80) + x + 80) ∨ (¬ ((-80 ≤ x ∧ x ≤ 80) ∧ (-80 ≤ y ∧ y ≤ 80)) ∧ z_2 = -9) := h_2
  refine lv_istore (lv' := [(4, .int (J z_2)), (0, .ref o), (1, .int (J i)), (2, .int (J x)), (3, .int (J y))]) SS.1 SS.2.1 dX12_backAt_5 hl (by decide) rfl (fun ls hl => ?_)
  refine lv_iload SS.1 SS.2.1 dX12_backAt_7 (lv_at hl 0 rfl) ?_
  refine j_bipush SS dX12_backAt_9 (by decide +kernel) ?_
  refine j_icmp_ne SS (tgt := 19) (x := z_2) (y := (-9)) dX12_backAt_11 (by decide) (by omega) (by decide) (fun c_11 => ?_) (fun c_11 => ?_)
  · skip
    refine lv_aload_n SS.1 SS.2.1 dX12_backAt_19 rfl (lv_at hl 1 rfl) ?_
    refine j_get SS hG hP 0 (v := .ref (q 15)) (C := RX12) (T := TX12) (N := 31) rfl rfl inX12 15 (by decide) (ref := RX12) kw_1073 rfl rfl dX12_backAt_20 ?_
    refine j_sipush SS dX12_backAt_23 (by decide +kernel) ?_
    refine lv_iload_n SS.1 SS.2.1 dX12_backAt_26 rfl (lv_at hl 2 rfl) ?_
    refine j_imul SS (x := 25921) (y := i) dX12_backAt_27 ?_
    refine lv_iload SS.1 SS.2.1 dX12_backAt_28 (lv_at hl 0 rfl) ?_
    refine j_iadd SS (x := (25921 * i)) (y := z_2) dX12_backAt_30 ?_
    refine j_iald SS hG hP 13 (n := 648025) (f := (u.1 15)) rfl (z := ((25921 * i) + z_2)) (by omega) (by omega) dX12_backAt_31 ?_
    exact W.iret SS.1 SS.2.1 hr (fun t ht hW => ⟨_, rfl, ⟨((u.1 15) (((25921 * i) + z_2)).toNat), rfl, (by rcases h_2 with k | k; (rw [bk_pos ⟨k.1, k.2.1⟩]; first | (exfalso; omega) | (rw [k.2.2])); (first | (exfalso; omega) | rw [bk_neg k.1]))⟩, ht⟩) (fun _ h => nomatch h) dX12_backAt_32 hlk
  · skip
    refine j_bipush SS dX12_backAt_14 (by decide +kernel) ?_
    refine lv_goto (tgt := 32) SS.1 SS.2.1 dX12_backAt_16 (by decide) ?_
    exact W.iret SS.1 SS.2.1 hr (fun t ht hW => ⟨_, rfl, ⟨(-9), rfl, (by rcases h_2 with k | k; (rw [bk_pos ⟨k.1, k.2.1⟩]; first | (exfalso; omega) | (rw [k.2.2])); (first | (exfalso; omega) | rw [bk_neg k.1]))⟩, ht⟩) (fun _ h => nomatch h) dX12_backAt_32 hlk

set_option maxHeartbeats 4000000 in
set_option maxRecDepth 100000 in
theorem c_X12_parts (l : Launch) (D : JD) (o : Nat) (q : Nat → Nat) (u : MS) (A : Nat → Prop) (hD : va_D A (mW D o q u)) (s : Int) (p0 : IM u) (p1 : -2147483648 ≤ s ∧ s ≤ 2147483647) : Met l yX12_parts (jw yX12_parts cX12_parts 9 (some .long)) (jr 4 88) (jP [.ref o, .int (J s)] D (fun H => va_P D.1 j_cl (mW D o q u) H)) (jWl (fun u' => ∃ nw : Nat → Int64, ∃ tn_ : Nat → Int64, u' = (uL (uL u 13 nw) 14 tn_) ∧ (IM u')) (fun u' H => va_P D.1 j_cl (mW D o q u') H) A) 0 0 A := by
  refine Met.ofW (cc := cX12_parts) (maxL := 9) (ret := (some .long)) (by decide) rfl ?_
  intro pr en st mi args below meth co s₁ B hml hv
  obtain ⟨rfl, hG, hP⟩ := hv
  have hr := B.returns
  have hlk := B.notSynchronized
  have SS : jS pr mi co cX12_parts 9 st _ RX12 := ⟨B.exec, B.bytes, hml, findClass_of_methodNamed B.named, fun w hw => atoms_spec (ws := (jw yX12_parts cX12_parts 9 (some .long))) B.pre w (List.mem_cons_of_mem _ hw)⟩
  have hl := lv_entry ([.ref o, .int (J s)]) (n := 9) (Nat.le_of_ble_eq_true rfl)
  rw [lg_entry_eq]
  generalize (lg_sl ([.ref o, .int (J s)]) ++ List.replicate (9 - (lg_sl ([.ref o, .int (J s)])).length) Slot.unset).toArray = ls at hl ⊢
  have hl : lv_has ls 9 [(0, .ref o), (1, .int (J s))] := hl
  have hS : va_S A st.heap st.heap [] := va_S.rf
  refine lv_iload_n SS.1 SS.2.1 dX12_parts_0 rfl (lv_at hl 1 rfl) ?_
  refine j_sRi SS (As := [.int (J s)]) (rest := []) (c_X12_isShape l D s (show -2147483648 ≤ s ∧ s ≤ 2147483647 from (by omega))) mf_X12_isShape kw_1156 hG trivial rfl hl.1 ⟨⟨Nat.le_of_ble_eq_true rfl, Nat.le_of_ble_eq_true rfl⟩, Nat.le_of_ble_eq_true rfl, Nat.le_refl _, Nat.le_refl _⟩ rfl dX12_parts_1 (fun z_1 h_1 => ?_)
  have h_1 : (z_1 = 1 ∧ (0 ≤ s ∧ s ≤ 7)) ∨ (z_1 = 0 ∧ ¬ (0 ≤ s ∧ s ≤ 7)) := h_1
  refine j_if_ne SS (tgt := 11) (x := z_1) dX12_parts_4 (by decide) (by omega) (fun c_4 => ?_) (fun c_4 => ?_)
  · skip
    refine lv_aload_n SS.1 SS.2.1 dX12_parts_11 rfl (lv_at hl 0 rfl) ?_
    refine lv_iload_n SS.1 SS.2.1 dX12_parts_12 rfl (lv_at hl 1 rfl) ?_
    refine j_vRi SS (As := [.int (J s)]) (rest := []) (c_X12_isPolygon l D o q u s (show 0 ≤ s ∧ s ≤ 7 from (by omega)) (show Sh u s from (p0.1 _ (by omega) (by omega)))) mf_X12_isPolygon kw_1240 hG hP hP (ci := 8) (q0 := 0) rfl rfl rfl rfl hl.1 ⟨⟨Nat.le_of_ble_eq_true rfl, Nat.le_of_ble_eq_true rfl⟩, Nat.le_of_ble_eq_true rfl, Nat.le_refl _, Nat.le_refl _⟩ rfl dX12_parts_13 (fun z_13 h_13 => ?_)
    have h_13 : (z_13 = 1 ∧ 2 < mN u s) ∨ (z_13 = 0 ∧ mN u s ≤ 2) := h_13
    refine j_if_ne SS (tgt := 23) (x := z_13) dX12_parts_16 (by decide) (by omega) (fun c_16 => ?_) (fun c_16 => ?_)
    · skip
      have hSh := p0.1 s (by omega) (by omega)
      have hN := hSh.1
      refine j_iconst SS dX12_parts_23 ?_
      refine lv_istore_n (lv' := [(2, .int (J 0)), (0, .ref o), (1, .int (J s))]) SS.1 SS.2.1 dX12_parts_24 rfl hl (by decide) rfl (fun ls hl => ?_)
      have L_25 : ∀ (nn : Nat) (k : Int) (n1 : Nat → Int64) (H : Heap) (locs : List Loc) (hP : va_P D.1 j_cl (mW D o q (uL u 13 n1)) H) (hS : va_S A st.heap H locs) (ls : Array Slot) (hl : lv_has ls 9 [(0, .ref o), (1, .int (J s)), (2, .int (J k))]) (i25_0 : 0 ≤ k ∧ k ≤ 25921), ((25921 : Int) - k).toNat < nn → W pr l en (headSpec (jw yX12_parts cX12_parts 9 (some .long)) (jr 4 88)).room st mi (([.ref o, .int (J s)] : List Value).toArray) below meth co H locs 0 0 (MQ below (jWl (fun u' => ∃ nw : Nat → Int64, ∃ tn_ : Nat → Int64, u' = (uL (uL u 13 nw) 14 tn_) ∧ (IM u')) (fun u' H => va_P D.1 j_cl (mW D o q u') H) A) (([.ref o, .int (J s)] : List Value).toArray) st 0 0 A) (F0 mi 25 ls []) := by
        intro nn
        induction nn with
        | zero => intros; omega
        | succ nn ih_25 =>
          intro k n1 H locs hP hS ls hl i25_0 hm
          refine lv_iload_n SS.1 SS.2.1 dX12_parts_25 rfl (lv_at hl 2 rfl) ?_
          refine j_sipush SS dX12_parts_26 (by decide +kernel) ?_
          refine j_icmp_ge SS (tgt := 58) (x := k) (y := 25921) dX12_parts_29 (by decide) (by omega) (by decide) (fun c_29 => ?_) (fun c_29 => ?_)
          · skip
            refine j_iconst SS dX12_parts_58 ?_
            refine lv_istore_n (lv' := [(2, .int (J 0)), (0, .ref o), (1, .int (J s))]) SS.1 SS.2.1 dX12_parts_59 rfl hl (by decide) rfl (fun ls hl => ?_)
            have L_60 : ∀ (nn : Nat) (i : Int) (n2 : Nat → Int64) (t2 : Nat → Int64) (H : Heap) (locs : List Loc) (hP : va_P D.1 j_cl (mW D o q (uL (uL u 13 n2) 14 t2)) H) (hS : va_S A st.heap H locs) (ls : Array Slot) (hl : lv_has ls 9 [(0, .ref o), (1, .int (J s)), (2, .int (J i))]) (i60_0 : 0 ≤ i ∧ i ≤ mN u s), (mN u s - i).toNat < nn → W pr l en (headSpec (jw yX12_parts cX12_parts 9 (some .long)) (jr 4 88)).room st mi (([.ref o, .int (J s)] : List Value).toArray) below meth co H locs 0 0 (MQ below (jWl (fun u' => ∃ nw : Nat → Int64, ∃ tn_ : Nat → Int64, u' = (uL (uL u 13 nw) 14 tn_) ∧ (IM u')) (fun u' H => va_P D.1 j_cl (mW D o q u') H) A) (([.ref o, .int (J s)] : List Value).toArray) st 0 0 A) (F0 mi 60 ls []) := by
              intro nn
              induction nn with
              | zero => intros; omega
              | succ nn ih_60 =>
                intro i n2 t2 H locs hP hS ls hl i60_0 hm
                refine lv_iload_n SS.1 SS.2.1 dX12_parts_60 rfl (lv_at hl 2 rfl) ?_
                refine lv_aload_n SS.1 SS.2.1 dX12_parts_61 rfl (lv_at hl 0 rfl) ?_
                refine j_get SS hG hP 0 (v := .ref (q 0)) (C := RX12) (T := TX12) (N := 31) rfl rfl inX12 0 (by decide) (ref := RX12) kw_1058 rfl rfl dX12_parts_62 ?_
                refine lv_iload_n SS.1 SS.2.1 dX12_parts_65 rfl (lv_at hl 1 rfl) ?_
                refine j_iald SS hG hP 1 (n := 8) (f := (u.1 0)) rfl (z := s) (by omega) (by omega) dX12_parts_66 ?_
                have hN_66 := (show Sh u s from p0.1 _ (by omega) (by omega)).1
                refine j_icmp_ge SS (tgt := 258) (x := i) (y := (mN u s)) dX12_parts_67 (by decide) (by omega) (by omega) (fun c_67 => ?_) (fun c_67 => ?_)
                · skip
                  refine lv_aload_n SS.1 SS.2.1 dX12_parts_258 rfl (lv_at hl 0 rfl) ?_
                  refine j_get SS hG hP 0 (v := .ref (q 13)) (C := RX12) (T := TX12) (N := 31) rfl rfl inX12 13 (by decide) (ref := RX12) kw_1071 rfl rfl dX12_parts_259 ?_
                  refine j_iconst SS dX12_parts_262 ?_
                  refine j_iconst SS dX12_parts_263 ?_
                  refine j_sRi SS (As := [.int (J 0), .int (J 0)]) (rest := [.ref (q 13)]) (c_X12_spot l D 0 0 (show -2147483648 ≤ (0 : Int) ∧ (0 : Int) ≤ 2147483647 from (by omega)) (show -2147483648 ≤ (0 : Int) ∧ (0 : Int) ≤ 2147483647 from (by omega))) mf_X12_spot kw_1329 hG trivial rfl hl.1 ⟨⟨Nat.le_of_ble_eq_true rfl, Nat.le_of_ble_eq_true rfl⟩, Nat.le_of_ble_eq_true rfl, Nat.le_refl _, Nat.le_refl _⟩ rfl dX12_parts_264 (fun z_264 h_264 => ?_)
                  have h_264 : ((-80 ≤ (0 : Int) ∧ (0 : Int) ≤ 80) ∧ (-80 ≤ (0 : Int) ∧ (0 : Int) ≤ 80) ∧ z_264 = 161 * ((0 : Int) + 80) + (0 : Int) + 80) ∨ (¬ ((-80 ≤ (0 : Int) ∧ (0 : Int) ≤ 80) ∧ (-80 ≤ (0 : Int) ∧ (0 : Int) ≤ 80)) ∧ z_264 = -9) := h_264
                  refine j_lald SS hG hP 11 (n := 25921) (f := n2) rfl (z := z_264) (by omega) (by omega) dX12_parts_267 ?_
                  exact W.lret SS.1 SS.2.1 hr (fun t ht hW => ⟨⟨_, (uL (uL u 13 n2) 14 t2), rfl, (⟨n2, t2, rfl, p0⟩), by show va_P D.1 j_cl (mW D o q (uL (uL u 13 n2) 14 t2)) t.heap; rw [ht]; exact hP⟩, hS.F ht⟩) hS.2.2 dX12_parts_268 hlk
                · skip
                  refine lv_aload_n SS.1 SS.2.1 dX12_parts_70 rfl (lv_at hl 0 rfl) ?_
                  refine lv_iload_n SS.1 SS.2.1 dX12_parts_71 rfl (lv_at hl 1 rfl) ?_
                  refine lv_iload_n SS.1 SS.2.1 dX12_parts_72 rfl (lv_at hl 2 rfl) ?_
                  refine j_vRi SS (As := [.int (J s), .int (J i)]) (rest := []) (c_X12_stepX l D o q (uL (uL u 13 n2) 14 t2) s i (show 0 ≤ s ∧ s ≤ 7 from (by omega)) (show Sh u s from (hSh)) (show 0 ≤ i ∧ i < mN u s from (by omega)) (show 2 ≤ mN u s from (by omega))) mf_X12_stepX kw_1332 hG hP hP (ci := 8) (q0 := 0) rfl rfl rfl rfl hl.1 ⟨⟨Nat.le_of_ble_eq_true rfl, Nat.le_of_ble_eq_true rfl⟩, Nat.le_of_ble_eq_true rfl, Nat.le_refl _, Nat.le_refl _⟩ rfl dX12_parts_73 (fun z_73 h_73 => ?_)
                  have h_73 : z_73 = mDX u s i ∧ -80 ≤ z_73 ∧ z_73 ≤ 80 := h_73
                  refine lv_istore_n (lv' := [(3, .int (J z_73)), (0, .ref o), (1, .int (J s)), (2, .int (J i))]) SS.1 SS.2.1 dX12_parts_76 rfl hl (by decide) rfl (fun ls hl => ?_)
                  refine lv_aload_n SS.1 SS.2.1 dX12_parts_77 rfl (lv_at hl 1 rfl) ?_
                  refine lv_iload_n SS.1 SS.2.1 dX12_parts_78 rfl (lv_at hl 2 rfl) ?_
                  refine lv_iload_n SS.1 SS.2.1 dX12_parts_79 rfl (lv_at hl 3 rfl) ?_
                  refine j_vRi SS (As := [.int (J s), .int (J i)]) (rest := []) (c_X12_stepY l D o q (uL (uL u 13 n2) 14 t2) s i (show 0 ≤ s ∧ s ≤ 7 from (by omega)) (show Sh u s from (hSh)) (show 0 ≤ i ∧ i < mN u s from (by omega)) (show 2 ≤ mN u s from (by omega))) mf_X12_stepY kw_1336 hG hP hP (ci := 8) (q0 := 0) rfl rfl rfl rfl hl.1 ⟨⟨Nat.le_of_ble_eq_true rfl, Nat.le_of_ble_eq_true rfl⟩, Nat.le_of_ble_eq_true rfl, Nat.le_refl _, Nat.le_refl _⟩ rfl dX12_parts_80 (fun z_80 h_80 => ?_)
                  have h_80 : z_80 = mDY u s i ∧ -80 ≤ z_80 ∧ z_80 ≤ 80 := h_80
                  refine lv_istore (lv' := [(4, .int (J z_80)), (3, .int (J z_73)), (0, .ref o), (1, .int (J s)), (2, .int (J i))]) SS.1 SS.2.1 dX12_parts_83 hl (by decide) rfl (fun ls hl => ?_)
                  refine lv_aload_n SS.1 SS.2.1 dX12_parts_85 rfl (lv_at hl 2 rfl) ?_
                  refine lv_iload_n SS.1 SS.2.1 dX12_parts_86 rfl (lv_at hl 3 rfl) ?_
                  refine lv_iload_n SS.1 SS.2.1 dX12_parts_87 rfl (lv_at hl 4 rfl) ?_
                  refine j_vRi SS (As := [.int (J s), .int (J i)]) (rest := []) (c_X12_stepsOf l D o q (uL (uL u 13 n2) 14 t2) s i (show 0 ≤ s ∧ s ≤ 7 from (by omega)) (show Sh u s from (hSh)) (show 0 ≤ i ∧ i ≤ 100 from (by omega)) (show 0 < mN u s from (by omega))) mf_X12_stepsOf kw_1226 hG hP hP (ci := 8) (q0 := 0) rfl rfl rfl rfl hl.1 ⟨⟨Nat.le_of_ble_eq_true rfl, Nat.le_of_ble_eq_true rfl⟩, Nat.le_of_ble_eq_true rfl, Nat.le_refl _, Nat.le_refl _⟩ rfl dX12_parts_88 (fun z_88 h_88 => ?_)
                  have h_88 : z_88 = mS u s i ∧ 0 ≤ z_88 ∧ z_88 ≤ 80 := h_88
                  refine lv_istore (lv' := [(5, .int (J z_88)), (4, .int (J z_80)), (3, .int (J z_73)), (0, .ref o), (1, .int (J s)), (2, .int (J i))]) SS.1 SS.2.1 dX12_parts_91 hl (by decide) rfl (fun ls hl => ?_)
                  refine j_iconst SS dX12_parts_93 ?_
                  refine lv_istore (lv' := [(6, .int (J 0)), (5, .int (J z_88)), (4, .int (J z_80)), (3, .int (J z_73)), (0, .ref o), (1, .int (J s)), (2, .int (J i))]) SS.1 SS.2.1 dX12_parts_94 hl (by decide) rfl (fun ls hl => ?_)
                  have L_96 : ∀ (nn : Nat) (k2 : Int) (t3 : Nat → Int64) (H : Heap) (locs : List Loc) (hP : va_P D.1 j_cl (mW D o q (uL (uL u 13 n2) 14 t3)) H) (hS : va_S A st.heap H locs) (ls : Array Slot) (hl : lv_has ls 9 [(0, .ref o), (1, .int (J s)), (2, .int (J i)), (3, .int (J z_73)), (4, .int (J z_80)), (5, .int (J z_88)), (6, .int (J k2))]) (i96_0 : 0 ≤ k2 ∧ k2 ≤ 25921), ((25921 : Int) - k2).toNat < nn → W pr l en (headSpec (jw yX12_parts cX12_parts 9 (some .long)) (jr 4 88)).room st mi (([.ref o, .int (J s)] : List Value).toArray) below meth co H locs 0 0 (MQ below (jWl (fun u' => ∃ nw : Nat → Int64, ∃ tn_ : Nat → Int64, u' = (uL (uL u 13 nw) 14 tn_) ∧ (IM u')) (fun u' H => va_P D.1 j_cl (mW D o q u') H) A) (([.ref o, .int (J s)] : List Value).toArray) st 0 0 A) (F0 mi 96 ls []) := by
                    intro nn
                    induction nn with
                    | zero => intros; omega
                    | succ nn ih_96 =>
                      intro k2 t3 H locs hP hS ls hl i96_0 hm
                      refine lv_iload SS.1 SS.2.1 dX12_parts_96 (lv_at hl 6 rfl) ?_
                      refine j_sipush SS dX12_parts_98 (by decide +kernel) ?_
                      refine j_icmp_ge SS (tgt := 118) (x := k2) (y := 25921) dX12_parts_101 (by decide) (by omega) (by decide) (fun c_101 => ?_) (fun c_101 => ?_)
                      · skip
                        refine j_iconst SS dX12_parts_118 ?_
                        refine lv_istore (lv' := [(6, .int (J 0)), (0, .ref o), (1, .int (J s)), (2, .int (J i)), (3, .int (J z_73)), (4, .int (J z_80)), (5, .int (J z_88))]) SS.1 SS.2.1 dX12_parts_119 hl (by decide) rfl (fun ls hl => ?_)
                        have L_121 : ∀ (nn : Nat) (k3 : Int) (t4 : Nat → Int64) (H : Heap) (locs : List Loc) (hP : va_P D.1 j_cl (mW D o q (uL (uL u 13 n2) 14 t4)) H) (hS : va_S A st.heap H locs) (ls : Array Slot) (hl : lv_has ls 9 [(0, .ref o), (1, .int (J s)), (2, .int (J i)), (3, .int (J z_73)), (4, .int (J z_80)), (5, .int (J z_88)), (6, .int (J k3))]) (i121_0 : 0 ≤ k3 ∧ k3 ≤ 25921), ((25921 : Int) - k3).toNat < nn → W pr l en (headSpec (jw yX12_parts cX12_parts 9 (some .long)) (jr 4 88)).room st mi (([.ref o, .int (J s)] : List Value).toArray) below meth co H locs 0 0 (MQ below (jWl (fun u' => ∃ nw : Nat → Int64, ∃ tn_ : Nat → Int64, u' = (uL (uL u 13 nw) 14 tn_) ∧ (IM u')) (fun u' H => va_P D.1 j_cl (mW D o q u') H) A) (([.ref o, .int (J s)] : List Value).toArray) st 0 0 A) (F0 mi 121 ls []) := by
                          intro nn
                          induction nn with
                          | zero => intros; omega
                          | succ nn ih_121 =>
                            intro k3 t4 H locs hP hS ls hl i121_0 hm
                            refine lv_iload SS.1 SS.2.1 dX12_parts_121 (lv_at hl 6 rfl) ?_
                            refine j_sipush SS dX12_parts_123 (by decide +kernel) ?_
                            refine j_icmp_ge SS (tgt := 221) (x := k3) (y := 25921) dX12_parts_126 (by decide) (by omega) (by decide) (fun c_126 => ?_) (fun c_126 => ?_)
                            · skip
                              refine j_iconst SS dX12_parts_221 ?_
                              refine lv_istore (lv' := [(6, .int (J 0)), (0, .ref o), (1, .int (J s)), (2, .int (J i)), (3, .int (J z_73)), (4, .int (J z_80)), (5, .int (J z_88))]) SS.1 SS.2.1 dX12_parts_222 hl (by decide) rfl (fun ls hl => ?_)
                              have L_224 : ∀ (nn : Nat) (k4 : Int) (n6 : Nat → Int64) (H : Heap) (locs : List Loc) (hP : va_P D.1 j_cl (mW D o q (uL (uL u 13 n6) 14 t4)) H) (hS : va_S A st.heap H locs) (ls : Array Slot) (hl : lv_has ls 9 [(0, .ref o), (1, .int (J s)), (2, .int (J i)), (6, .int (J k4))]) (i224_0 : 0 ≤ k4 ∧ k4 ≤ 25921), ((25921 : Int) - k4).toNat < nn → W pr l en (headSpec (jw yX12_parts cX12_parts 9 (some .long)) (jr 4 88)).room st mi (([.ref o, .int (J s)] : List Value).toArray) below meth co H locs 0 0 (MQ below (jWl (fun u' => ∃ nw : Nat → Int64, ∃ tn_ : Nat → Int64, u' = (uL (uL u 13 nw) 14 tn_) ∧ (IM u')) (fun u' H => va_P D.1 j_cl (mW D o q u') H) A) (([.ref o, .int (J s)] : List Value).toArray) st 0 0 A) (F0 mi 224 ls []) := by
                                intro nn
                                induction nn with
                                | zero => intros; omega
                                | succ nn ih_224 =>
                                  intro k4 n6 H locs hP hS ls hl i224_0 hm
                                  refine lv_iload SS.1 SS.2.1 dX12_parts_224 (lv_at hl 3 rfl) ?_
                                  refine j_sipush SS dX12_parts_226 (by decide +kernel) ?_
                                  refine j_icmp_ge SS (tgt := 252) (x := k4) (y := 25921) dX12_parts_229 (by decide) (by omega) (by decide) (fun c_229 => ?_) (fun c_229 => ?_)
                                  · skip
                                    refine lv_iinc (v := J (i + 1)) (lv' := [(2, .int (J (i + 1))), (0, .ref o), (1, .int (J s)), (6, .int (J k4))]) SS.1 SS.2.1 dX12_parts_252 hl (k := 2) rfl (J_add _ _) (by decide) rfl (fun ls hl => ?_)
                                    refine lv_goto (tgt := 60) SS.1 SS.2.1 dX12_parts_255 (by decide) ?_
                                    exact ih_60 (i + 1) n6 t4 _ _ hP hS ls (lv_sub hl [1, 2, 0] rfl) (by omega) (by omega)
                                  · skip
                                    refine lv_aload_n SS.1 SS.2.1 dX12_parts_232 rfl (lv_at hl 0 rfl) ?_
                                    refine j_get SS hG hP 0 (v := .ref (q 13)) (C := RX12) (T := TX12) (N := 31) rfl rfl inX12 13 (by decide) (ref := RX12) kw_1071 rfl rfl dX12_parts_233 ?_
                                    refine lv_iload SS.1 SS.2.1 dX12_parts_236 (lv_at hl 3 rfl) ?_
                                    refine lv_aload_n SS.1 SS.2.1 dX12_parts_238 rfl (lv_at hl 0 rfl) ?_
                                    refine j_get SS hG hP 0 (v := .ref (q 14)) (C := RX12) (T := TX12) (N := 31) rfl rfl inX12 14 (by decide) (ref := RX12) kw_1072 rfl rfl dX12_parts_239 ?_
                                    refine lv_iload SS.1 SS.2.1 dX12_parts_242 (lv_at hl 3 rfl) ?_
                                    refine j_lald SS hG hP 12 (n := 25921) (f := t4) rfl (z := k4) (by omega) (by omega) dX12_parts_244 ?_
                                    refine j_last SS hG hP (mW_D hD) hS 11 (n := 25921) (f := n6) rfl (z := k4) (v := (t4 (k4).toNat)) (by omega) (by omega) dX12_parts_245 (ws' := (mW D o q (uL (uL u 13 (vp_updL n6 (k4).toNat (t4 (k4).toNat))) 14 t4))) rfl (fun H locs hP hS => ?_)
                                    refine lv_iinc (v := J (k4 + 1)) (lv' := [(6, .int (J (k4 + 1))), (0, .ref o), (1, .int (J s)), (2, .int (J i))]) SS.1 SS.2.1 dX12_parts_246 hl (k := 3) rfl (J_add _ _) (by decide) rfl (fun ls hl => ?_)
                                    refine lv_goto (tgt := 224) SS.1 SS.2.1 dX12_parts_249 (by decide) ?_
                                    exact ih_224 (k4 + 1) (vp_updL n6 (k4).toNat (t4 (k4).toNat)) _ _ hP hS ls (lv_sub hl [1, 2, 3, 0] rfl) (by omega) (by omega)
                              exact L_224 (((25921 : Int) - (0 : Int)).toNat + 1) 0 n2 _ _ hP hS ls (lv_sub hl [1, 2, 3, 0] rfl) (by omega) (Nat.lt_succ_self _)
                            · skip
                              refine lv_aload_n SS.1 SS.2.1 dX12_parts_129 rfl (lv_at hl 0 rfl) ?_
                              refine j_get SS hG hP 0 (v := .ref (q 13)) (C := RX12) (T := TX12) (N := 31) rfl rfl inX12 13 (by decide) (ref := RX12) kw_1071 rfl rfl dX12_parts_130 ?_
                              refine lv_iload SS.1 SS.2.1 dX12_parts_133 (lv_at hl 6 rfl) ?_
                              refine j_lald SS hG hP 11 (n := 25921) (f := n2) rfl (z := k3) (by omega) (by omega) dX12_parts_135 ?_
                              refine lv_lconst (v := 0) SS.1 SS.2.1 dX12_parts_136 (by decide +kernel) ?_
                              refine j_lcmp SS dX12_parts_137 (fun z_137 hz_137 => ?_)
                              refine j_if_eq SS (tgt := 215) (x := z_137) dX12_parts_138 (by decide) (by omega) (fun c_138 => ?_) (fun c_138 => ?_)
                              · skip
                                refine lv_iinc (v := J (k3 + 1)) (lv' := [(6, .int (J (k3 + 1))), (0, .ref o), (1, .int (J s)), (2, .int (J i)), (3, .int (J z_73)), (4, .int (J z_80)), (5, .int (J z_88))]) SS.1 SS.2.1 dX12_parts_215 hl (k := 6) rfl (J_add _ _) (by decide) rfl (fun ls hl => ?_)
                                refine lv_goto (tgt := 121) SS.1 SS.2.1 dX12_parts_218 (by decide) ?_
                                exact ih_121 (k3 + 1) t4 _ _ hP hS ls (lv_sub hl [1, 2, 3, 4, 5, 6, 0] rfl) (by omega) (by omega)
                              · skip
                                refine j_iconst SS dX12_parts_141 ?_
                                refine lv_istore (lv' := [(7, .int (J 0)), (0, .ref o), (1, .int (J s)), (2, .int (J i)), (3, .int (J z_73)), (4, .int (J z_80)), (5, .int (J z_88)), (6, .int (J k3))]) SS.1 SS.2.1 dX12_parts_142 hl (by decide) rfl (fun ls hl => ?_)
                                have L_144 : ∀ (nn : Nat) (t : Int) (t5 : Nat → Int64) (H : Heap) (locs : List Loc) (hP : va_P D.1 j_cl (mW D o q (uL (uL u 13 n2) 14 t5)) H) (hS : va_S A st.heap H locs) (ls : Array Slot) (hl : lv_has ls 9 [(0, .ref o), (1, .int (J s)), (2, .int (J i)), (3, .int (J z_73)), (4, .int (J z_80)), (5, .int (J z_88)), (6, .int (J k3)), (7, .int (J t))]) (i144_0 : 0 ≤ t ∧ t ≤ 81), ((81 : Int) - t).toNat < nn → W pr l en (headSpec (jw yX12_parts cX12_parts 9 (some .long)) (jr 4 88)).room st mi (([.ref o, .int (J s)] : List Value).toArray) below meth co H locs 0 0 (MQ below (jWl (fun u' => ∃ nw : Nat → Int64, ∃ tn_ : Nat → Int64, u' = (uL (uL u 13 nw) 14 tn_) ∧ (IM u')) (fun u' H => va_P D.1 j_cl (mW D o q u') H) A) (([.ref o, .int (J s)] : List Value).toArray) st 0 0 A) (F0 mi 144 ls []) := by
                                  intro nn
                                  induction nn with
                                  | zero => intros; omega
                                  | succ nn ih_144 =>
                                    intro t t5 H locs hP hS ls hl i144_0 hm
                                    refine lv_iload SS.1 SS.2.1 dX12_parts_144 (lv_at hl 7 rfl) ?_
                                    refine lv_iload SS.1 SS.2.1 dX12_parts_146 (lv_at hl 5 rfl) ?_
                                    refine j_icmp_gt SS (tgt := 215) (x := t) (y := z_88) dX12_parts_148 (by decide) (by omega) (by omega) (fun c_148 => ?_) (fun c_148 => ?_)
                                    · skip
                                      refine lv_iinc (v := J (k3 + 1)) (lv' := [(6, .int (J (k3 + 1))), (0, .ref o), (1, .int (J s)), (2, .int (J i)), (3, .int (J z_73)), (4, .int (J z_80)), (5, .int (J z_88)), (7, .int (J t))]) SS.1 SS.2.1 dX12_parts_215 hl (k := 6) rfl (J_add _ _) (by decide) rfl (fun ls hl => ?_)
                                      refine lv_goto (tgt := 121) SS.1 SS.2.1 dX12_parts_218 (by decide) ?_
                                      exact ih_121 (k3 + 1) t5 _ _ hP hS ls (lv_sub hl [1, 2, 3, 4, 5, 6, 0] rfl) (by omega) (by omega)
                                    · skip
                                      have ke := km_e i121_0.1
                                      have m1 := mulb (A := 81) (B := 80) (a := t) (b := z_73) (by omega) (by omega)
                                      have m2 := mulb (A := 81) (B := 80) (a := t) (b := z_80) (by omega) (by omega)
                                      refine lv_iload SS.1 SS.2.1 dX12_parts_151 (lv_at hl 6 rfl) ?_
                                      refine j_sipush SS dX12_parts_153 (by decide +kernel) ?_
                                      refine j_irem SS (x := k3) (y := 161) dX12_parts_156 (by omega) (by decide) (by decide) ?_
                                      refine j_bipush SS dX12_parts_157 (by decide +kernel) ?_
                                      refine j_isub SS (x := (Int.tmod k3 161)) (y := 80) dX12_parts_159 ?_
                                      refine lv_iload SS.1 SS.2.1 dX12_parts_160 (lv_at hl 7 rfl) ?_
                                      refine lv_iload_n SS.1 SS.2.1 dX12_parts_162 rfl (lv_at hl 3 rfl) ?_
                                      refine j_imul SS (x := t) (y := z_73) dX12_parts_163 ?_
                                      refine j_iadd SS (x := ((Int.tmod k3 161) - 80)) (y := (t * z_73)) dX12_parts_164 ?_
                                      refine lv_iload SS.1 SS.2.1 dX12_parts_165 (lv_at hl 6 rfl) ?_
                                      refine j_sipush SS dX12_parts_167 (by decide +kernel) ?_
                                      refine j_idiv SS (x := k3) (y := 161) dX12_parts_170 (by omega) (by decide) (by decide) ?_
                                      refine j_bipush SS dX12_parts_171 (by decide +kernel) ?_
                                      refine j_isub SS (x := (Int.tdiv k3 161)) (y := 80) dX12_parts_173 ?_
                                      refine lv_iload SS.1 SS.2.1 dX12_parts_174 (lv_at hl 7 rfl) ?_
                                      refine lv_iload SS.1 SS.2.1 dX12_parts_176 (lv_at hl 4 rfl) ?_
                                      refine j_imul SS (x := t) (y := z_80) dX12_parts_178 ?_
                                      refine j_iadd SS (x := ((Int.tdiv k3 161) - 80)) (y := (t * z_80)) dX12_parts_179 ?_
                                      refine j_sRi SS (As := [.int (J (((Int.tmod k3 161) - 80) + (t * z_73))), .int (J (((Int.tdiv k3 161) - 80) + (t * z_80)))]) (rest := []) (c_X12_spot l D (((Int.tmod k3 161) - 80) + (t * z_73)) (((Int.tdiv k3 161) - 80) + (t * z_80)) (show -2147483648 ≤ (((Int.tmod k3 161) - 80) + (t * z_73)) ∧ (((Int.tmod k3 161) - 80) + (t * z_73)) ≤ 2147483647 from (by rw [ke.1]; omega)) (show -2147483648 ≤ (((Int.tdiv k3 161) - 80) + (t * z_80)) ∧ (((Int.tdiv k3 161) - 80) + (t * z_80)) ≤ 2147483647 from (by rw [ke.2]; omega))) mf_X12_spot kw_1329 hG trivial rfl hl.1 ⟨⟨Nat.le_of_ble_eq_true rfl, Nat.le_of_ble_eq_true rfl⟩, Nat.le_of_ble_eq_true rfl, Nat.le_refl _, Nat.le_refl _⟩ rfl dX12_parts_180 (fun z_180 h_180 => ?_)
                                      have h_180 : ((-80 ≤ (((Int.tmod k3 161) - 80) + (t * z_73)) ∧ (((Int.tmod k3 161) - 80) + (t * z_73)) ≤ 80) ∧ (-80 ≤ (((Int.tdiv k3 161) - 80) + (t * z_80)) ∧ (((Int.tdiv k3 161) - 80) + (t * z_80)) ≤ 80) ∧ z_180 = 161 * ((((Int.tdiv k3 161) - 80) + (t * z_80)) + 80) + (((Int.tmod k3 161) - 80) + (t * z_73)) + 80) ∨ (¬ ((-80 ≤ (((Int.tmod k3 161) - 80) + (t * z_73)) ∧ (((Int.tmod k3 161) - 80) + (t * z_73)) ≤ 80) ∧ (-80 ≤ (((Int.tdiv k3 161) - 80) + (t * z_80)) ∧ (((Int.tdiv k3 161) - 80) + (t * z_80)) ≤ 80)) ∧ z_180 = -9) := h_180
                                      refine lv_istore (lv' := [(8, .int (J z_180)), (0, .ref o), (1, .int (J s)), (2, .int (J i)), (3, .int (J z_73)), (4, .int (J z_80)), (5, .int (J z_88)), (6, .int (J k3)), (7, .int (J t))]) SS.1 SS.2.1 dX12_parts_183 hl (by decide) rfl (fun ls hl => ?_)
                                      refine lv_iload SS.1 SS.2.1 dX12_parts_185 (lv_at hl 0 rfl) ?_
                                      refine j_bipush SS dX12_parts_187 (by decide +kernel) ?_
                                      refine j_icmp_eq SS (tgt := 209) (x := z_180) (y := (-9)) dX12_parts_189 (by decide) (by omega) (by decide) (fun c_189 => ?_) (fun c_189 => ?_)
                                      · skip
                                        refine lv_iinc (v := J (t + 1)) (lv' := [(7, .int (J (t + 1))), (8, .int (J z_180)), (0, .ref o), (1, .int (J s)), (2, .int (J i)), (3, .int (J z_73)), (4, .int (J z_80)), (5, .int (J z_88)), (6, .int (J k3))]) SS.1 SS.2.1 dX12_parts_209 hl (k := 8) rfl (J_add _ _) (by decide) rfl (fun ls hl => ?_)
                                        refine lv_goto (tgt := 144) SS.1 SS.2.1 dX12_parts_212 (by decide) ?_
                                        exact ih_144 (t + 1) t5 _ _ hP hS ls (lv_sub hl [2, 3, 4, 5, 6, 7, 8, 0] rfl) (by omega) (by omega)
                                      · skip
                                        refine lv_aload_n SS.1 SS.2.1 dX12_parts_192 rfl (lv_at hl 1 rfl) ?_
                                        refine j_get SS hG hP 0 (v := .ref (q 14)) (C := RX12) (T := TX12) (N := 31) rfl rfl inX12 14 (by decide) (ref := RX12) kw_1072 rfl rfl dX12_parts_193 ?_
                                        refine lv_iload SS.1 SS.2.1 dX12_parts_196 (lv_at hl 0 rfl) ?_
                                        refine lv_dup2_11 SS.1 SS.2.1 dX12_parts_198 rfl rfl ?_
                                        refine j_lald SS hG hP 12 (n := 25921) (f := t5) rfl (z := z_180) (by omega) (by omega) dX12_parts_199 ?_
                                        refine lv_aload_n SS.1 SS.2.1 dX12_parts_200 rfl (lv_at hl 1 rfl) ?_
                                        refine j_get SS hG hP 0 (v := .ref (q 13)) (C := RX12) (T := TX12) (N := 31) rfl rfl inX12 13 (by decide) (ref := RX12) kw_1071 rfl rfl dX12_parts_201 ?_
                                        refine lv_iload SS.1 SS.2.1 dX12_parts_204 (lv_at hl 7 rfl) ?_
                                        refine j_lald SS hG hP 11 (n := 25921) (f := n2) rfl (z := k3) (by omega) (by omega) dX12_parts_206 ?_
                                        refine lv_ladd SS.1 SS.2.1 dX12_parts_207 ?_
                                        refine j_last SS hG hP (mW_D hD) hS 12 (n := 25921) (f := t5) rfl (z := z_180) (v := ((t5 (z_180).toNat) + (n2 (k3).toNat))) (by omega) (by omega) dX12_parts_208 (ws' := (mW D o q (uL (uL u 13 n2) 14 (vp_updL t5 (z_180).toNat ((t5 (z_180).toNat) + (n2 (k3).toNat)))))) rfl (fun H locs hP hS => ?_)
                                        refine lv_iinc (v := J (t + 1)) (lv' := [(7, .int (J (t + 1))), (8, .int (J z_180)), (0, .ref o), (1, .int (J s)), (2, .int (J i)), (3, .int (J z_73)), (4, .int (J z_80)), (5, .int (J z_88)), (6, .int (J k3))]) SS.1 SS.2.1 dX12_parts_209 hl (k := 8) rfl (J_add _ _) (by decide) rfl (fun ls hl => ?_)
                                        refine lv_goto (tgt := 144) SS.1 SS.2.1 dX12_parts_212 (by decide) ?_
                                        exact ih_144 (t + 1) (vp_updL t5 (z_180).toNat ((t5 (z_180).toNat) + (n2 (k3).toNat))) _ _ hP hS ls (lv_sub hl [2, 3, 4, 5, 6, 7, 8, 0] rfl) (by omega) (by omega)
                                exact L_144 (((81 : Int) - (0 : Int)).toNat + 1) 0 t4 _ _ hP hS ls (lv_sub hl [1, 2, 3, 4, 5, 6, 7, 0] rfl) (by omega) (Nat.lt_succ_self _)
                        exact L_121 (((25921 : Int) - (0 : Int)).toNat + 1) 0 t3 _ _ hP hS ls (lv_sub hl [1, 2, 3, 4, 5, 6, 0] rfl) (by omega) (Nat.lt_succ_self _)
                      · skip
                        refine lv_aload_n SS.1 SS.2.1 dX12_parts_104 rfl (lv_at hl 0 rfl) ?_
                        refine j_get SS hG hP 0 (v := .ref (q 14)) (C := RX12) (T := TX12) (N := 31) rfl rfl inX12 14 (by decide) (ref := RX12) kw_1072 rfl rfl dX12_parts_105 ?_
                        refine lv_iload SS.1 SS.2.1 dX12_parts_108 (lv_at hl 6 rfl) ?_
                        refine lv_lconst (v := 0) SS.1 SS.2.1 dX12_parts_110 (by decide +kernel) ?_
                        refine j_last SS hG hP (mW_D hD) hS 12 (n := 25921) (f := t3) rfl (z := k2) (v := 0) (by omega) (by omega) dX12_parts_111 (ws' := (mW D o q (uL (uL u 13 n2) 14 (vp_updL t3 (k2).toNat 0)))) rfl (fun H locs hP hS => ?_)
                        refine lv_iinc (v := J (k2 + 1)) (lv' := [(6, .int (J (k2 + 1))), (0, .ref o), (1, .int (J s)), (2, .int (J i)), (3, .int (J z_73)), (4, .int (J z_80)), (5, .int (J z_88))]) SS.1 SS.2.1 dX12_parts_112 hl (k := 6) rfl (J_add _ _) (by decide) rfl (fun ls hl => ?_)
                        refine lv_goto (tgt := 96) SS.1 SS.2.1 dX12_parts_115 (by decide) ?_
                        exact ih_96 (k2 + 1) (vp_updL t3 (k2).toNat 0) _ _ hP hS ls (lv_sub hl [1, 2, 3, 4, 5, 6, 0] rfl) (by omega) (by omega)
                  exact L_96 (((25921 : Int) - (0 : Int)).toNat + 1) 0 t2 _ _ hP hS ls (lv_sub hl [4, 5, 6, 3, 2, 1, 0] rfl) (by omega) (Nat.lt_succ_self _)
            exact L_60 ((mN u s - (0 : Int)).toNat + 1) 0 n1 (u.2.1 14) _ _ hP hS ls (lv_sub hl [1, 2, 0] rfl) (by omega) (Nat.lt_succ_self _)
          · skip
            refine lv_aload_n SS.1 SS.2.1 dX12_parts_32 rfl (lv_at hl 0 rfl) ?_
            refine j_get SS hG hP 0 (v := .ref (q 13)) (C := RX12) (T := TX12) (N := 31) rfl rfl inX12 13 (by decide) (ref := RX12) kw_1071 rfl rfl dX12_parts_33 ?_
            refine lv_iload_n SS.1 SS.2.1 dX12_parts_36 rfl (lv_at hl 2 rfl) ?_
            refine lv_iload_n SS.1 SS.2.1 dX12_parts_37 rfl (lv_at hl 2 rfl) ?_
            refine j_iconst SS dX12_parts_38 ?_
            refine j_iconst SS dX12_parts_39 ?_
            refine j_sRi SS (As := [.int (J 0), .int (J 0)]) (rest := [.int (J k), .int (J k), .ref (q 13)]) (c_X12_spot l D 0 0 (show -2147483648 ≤ (0 : Int) ∧ (0 : Int) ≤ 2147483647 from (by omega)) (show -2147483648 ≤ (0 : Int) ∧ (0 : Int) ≤ 2147483647 from (by omega))) mf_X12_spot kw_1329 hG trivial rfl hl.1 ⟨⟨Nat.le_of_ble_eq_true rfl, Nat.le_of_ble_eq_true rfl⟩, Nat.le_of_ble_eq_true rfl, Nat.le_refl _, Nat.le_refl _⟩ rfl dX12_parts_40 (fun z_40 h_40 => ?_)
            have h_40 : ((-80 ≤ (0 : Int) ∧ (0 : Int) ≤ 80) ∧ (-80 ≤ (0 : Int) ∧ (0 : Int) ≤ 80) ∧ z_40 = 161 * ((0 : Int) + 80) + (0 : Int) + 80) ∨ (¬ ((-80 ≤ (0 : Int) ∧ (0 : Int) ≤ 80) ∧ (-80 ≤ (0 : Int) ∧ (0 : Int) ≤ 80)) ∧ z_40 = -9) := h_40
            refine j_icmp_ne SS (tgt := 50) (x := k) (y := z_40) dX12_parts_43 (by decide) (by omega) (by omega) (fun c_43 => ?_) (fun c_43 => ?_)
            · skip
              refine lv_lconst (v := 0) SS.1 SS.2.1 dX12_parts_50 (by decide +kernel) ?_
              refine j_last SS hG hP (mW_D hD) hS 11 (n := 25921) (f := n1) rfl (z := k) (v := 0) (by omega) (by omega) dX12_parts_51 (ws' := (mW D o q (uL u 13 (vp_updL n1 (k).toNat 0)))) rfl (fun H locs hP hS => ?_)
              refine lv_iinc (v := J (k + 1)) (lv' := [(2, .int (J (k + 1))), (0, .ref o), (1, .int (J s))]) SS.1 SS.2.1 dX12_parts_52 hl (k := 2) rfl (J_add _ _) (by decide) rfl (fun ls hl => ?_)
              refine lv_goto (tgt := 25) SS.1 SS.2.1 dX12_parts_55 (by decide) ?_
              exact ih_25 (k + 1) (vp_updL n1 (k).toNat 0) _ _ hP hS ls (lv_sub hl [1, 2, 0] rfl) (by omega) (by omega)
            · skip
              refine lv_lconst (v := 1) SS.1 SS.2.1 dX12_parts_46 (by decide +kernel) ?_
              refine lv_goto (tgt := 51) SS.1 SS.2.1 dX12_parts_47 (by decide) ?_
              refine j_last SS hG hP (mW_D hD) hS 11 (n := 25921) (f := n1) rfl (z := k) (v := 1) (by omega) (by omega) dX12_parts_51 (ws' := (mW D o q (uL u 13 (vp_updL n1 (k).toNat 1)))) rfl (fun H locs hP hS => ?_)
              refine lv_iinc (v := J (k + 1)) (lv' := [(2, .int (J (k + 1))), (0, .ref o), (1, .int (J s))]) SS.1 SS.2.1 dX12_parts_52 hl (k := 2) rfl (J_add _ _) (by decide) rfl (fun ls hl => ?_)
              refine lv_goto (tgt := 25) SS.1 SS.2.1 dX12_parts_55 (by decide) ?_
              exact ih_25 (k + 1) (vp_updL n1 (k).toNat 1) _ _ hP hS ls (lv_sub hl [1, 2, 0] rfl) (by omega) (by omega)
      exact L_25 (((25921 : Int) - (0 : Int)).toNat + 1) 0 (u.2.1 13) _ _ hP hS ls (lv_sub hl [1, 2, 0] rfl) (by omega) (Nat.lt_succ_self _)
    · skip
      refine lv_ldc2 SS.1 SS.2.1 SS.2.2.2.1 (SS.2.2.2.2 _ kw_1249) dX12_parts_19 ?_
      exact W.lret SS.1 SS.2.1 hr (fun t ht hW => ⟨⟨_, (uL (uL u 13 (u.2.1 13)) 14 (u.2.1 14)), rfl, (⟨(u.2.1 13), (u.2.1 14), rfl, p0⟩), by show va_P D.1 j_cl (mW D o q (uL (uL u 13 (u.2.1 13)) 14 (u.2.1 14))) t.heap; rw [ht]; exact hP⟩, hS.F ht⟩) hS.2.2 dX12_parts_22 hlk
  · skip
    refine lv_ldc2 SS.1 SS.2.1 SS.2.2.2.1 (SS.2.2.2.2 _ kw_1248) dX12_parts_7 ?_
    exact W.lret SS.1 SS.2.1 hr (fun t ht hW => ⟨⟨_, (uL (uL u 13 (u.2.1 13)) 14 (u.2.1 14)), rfl, (⟨(u.2.1 13), (u.2.1 14), rfl, p0⟩), by show va_P D.1 j_cl (mW D o q (uL (uL u 13 (u.2.1 13)) 14 (u.2.1 14))) t.heap; rw [ht]; exact hP⟩, hS.F ht⟩) hS.2.2 dX12_parts_10 hlk

