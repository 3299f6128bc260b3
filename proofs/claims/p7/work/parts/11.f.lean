
def wcr (u : MS) (s i px py : Int) : Int := (mX u s (i + 1) - mX u s i) * (py - mY u s i) - (mY u s (i + 1) - mY u s i) * (px - mX u s i)
def wIn (u : MS) (s px py n : Int) : Prop := ∀ i : Int, 0 ≤ i → i < n → 0 ≤ wcr u s i px py
def wBt (u : MS) (s i px py : Int) : Prop := (px - mX u s i) * (px - mX u s (i + 1)) ≤ 0 ∧ (py - mY u s i) * (py - mY u s (i + 1)) ≤ 0
def wOn (u : MS) (s px py n : Int) : Prop := ∃ i : Int, 0 ≤ i ∧ i < n ∧ wcr u s i px py = 0 ∧ wBt u s i px py
theorem wIn_s {u : MS} {s px py n : Int} (h : 0 ≤ n) : wIn u s px py (n + 1) ↔ wIn u s px py n ∧ 0 ≤ wcr u s n px py := by
  constructor
  · intro q; exact ⟨fun i h1 h2 => q i h1 (by omega), q n h (by omega)⟩
  · intro q i h1 h2
    by_cases e : i = n
    · rw [e]; exact q.2
    · exact q.1 i h1 (by omega)
theorem wOn_s {u : MS} {s px py n : Int} (h : 0 ≤ n) : wOn u s px py (n + 1) ↔ wOn u s px py n ∨ (wcr u s n px py = 0 ∧ wBt u s n px py) := by
  constructor
  · intro ⟨i, h1, h2, h3⟩
    by_cases e : i = n
    · rw [e] at h3; exact Or.inr h3
    · exact Or.inl ⟨i, h1, by omega, h3⟩
  · intro q
    rcases q with ⟨i, h1, h2, h3⟩ | q
    · exact ⟨i, h1, by omega, h3⟩
    · exact ⟨n, h, by omega, q⟩
def wR (u : MS) (s px py z : Int) : Prop := (mN u s < 2 ∧ ((z = 1 ∧ mN u s = 1 ∧ mX u s 0 = px ∧ mY u s 0 = py) ∨ (z = 0 ∧ ¬ (mN u s = 1 ∧ mX u s 0 = px ∧ mY u s 0 = py)))) ∨ (2 ≤ mN u s ∧ ((z = 1 ∧ wOn u s px py (mN u s)) ∨ (z = 2 ∧ ¬ wOn u s px py (mN u s) ∧ wIn u s px py (mN u s) ∧ 2 < mN u s) ∨ (z = 0 ∧ ¬ wOn u s px py (mN u s) ∧ ¬ (wIn u s px py (mN u s) ∧ 2 < mN u s))))
theorem wR_b {u : MS} {s px py z : Int} (h : wR u s px py z) : 0 ≤ z ∧ z ≤ 2 := by unfold wR at h; omega

set_option maxHeartbeats 4000000 in
set_option maxRecDepth 100000 in
theorem c_X12_whereOf (l : Launch) (D : JD) (o : Nat) (q : Nat → Nat) (u : MS) (s : Int) (x : Int) (y : Int) (p0 : 0 ≤ s ∧ s ≤ 7) (p1 : Sh u s) (p2 : -100 ≤ x ∧ x ≤ 100) (p3 : -100 ≤ y ∧ y ≤ 100) : Met l yX12_whereOf (jw yX12_whereOf cX12_whereOf 9 (some .int)) (jr 1 23) (jP [.ref o, .int (J s), .int (J x), .int (J y)] D (fun H => va_P D.1 j_cl (mW D o q u) H)) (jRi (fun z => wR u s x y z)) 0 0 (fun _ => False) := by
  refine Met.ofW (cc := cX12_whereOf) (maxL := 9) (ret := (some .int)) (by decide) rfl ?_
  intro pr en st mi args below meth co s₁ B hml hv
  obtain ⟨rfl, hG, hP⟩ := hv
  have hr := B.returns
  have hlk := B.notSynchronized
  have SS : jS pr mi co cX12_whereOf 9 st _ RX12 := ⟨B.exec, B.bytes, hml, findClass_of_methodNamed B.named, fun w hw => atoms_spec (ws := (jw yX12_whereOf cX12_whereOf 9 (some .int))) B.pre w (List.mem_cons_of_mem _ hw)⟩
  have hl := lv_entry ([.ref o, .int (J s), .int (J x), .int (J y)]) (n := 9) (Nat.le_of_ble_eq_true rfl)
  rw [lg_entry_eq]
  generalize (lg_sl ([.ref o, .int (J s), .int (J x), .int (J y)]) ++ List.replicate (9 - (lg_sl ([.ref o, .int (J s), .int (J x), .int (J y)])).length) Slot.unset).toArray = ls at hl ⊢
  have hl : lv_has ls 9 [(0, .ref o), (1, .int (J s)), (2, .int (J x)), (3, .int (J y))] := hl
  have hN := p1.1
  have hC := p1.2.2
  refine lv_aload_n SS.1 SS.2.1 dX12_whereOf_0 rfl (lv_at hl 0 rfl) ?_
  refine j_get SS hG hP 0 (v := .ref (q 0)) (C := RX12) (T := TX12) (N := 31) rfl rfl inX12 0 (by decide) (ref := RX12) kw_1058 rfl rfl dX12_whereOf_1 ?_
  refine lv_iload_n SS.1 SS.2.1 dX12_whereOf_4 rfl (lv_at hl 1 rfl) ?_
  refine j_iald SS hG hP 1 (n := 8) (f := (u.1 0)) rfl (z := s) (by omega) (by omega) dX12_whereOf_5 ?_
  refine j_iconst SS dX12_whereOf_6 ?_
  refine j_icmp_ge SS (tgt := 46) (x := (mN u s)) (y := 2) dX12_whereOf_7 (by decide) (by omega) (by decide) (fun c_7 => ?_) (fun c_7 => ?_)
  · skip
    refine j_iconst SS dX12_whereOf_46 ?_
    refine lv_istore (lv' := [(4, .int (J 1)), (0, .ref o), (1, .int (J s)), (2, .int (J x)), (3, .int (J y))]) SS.1 SS.2.1 dX12_whereOf_47 hl (by decide) rfl (fun ls hl => ?_)
    refine j_iconst SS dX12_whereOf_49 ?_
    refine lv_istore (lv' := [(5, .int (J 0)), (4, .int (J 1)), (0, .ref o), (1, .int (J s)), (2, .int (J x)), (3, .int (J y))]) SS.1 SS.2.1 dX12_whereOf_50 hl (by decide) rfl (fun ls hl => ?_)
    refine j_iconst SS dX12_whereOf_52 ?_
    refine lv_istore (lv' := [(6, .int (J 0)), (5, .int (J 0)), (4, .int (J 1)), (0, .ref o), (1, .int (J s)), (2, .int (J x)), (3, .int (J y))]) SS.1 SS.2.1 dX12_whereOf_53 hl (by decide) rfl (fun ls hl => ?_)
    have L_55 : ∀ (nn : Nat) (w : Int) (v : Int) (i : Int) (ls : Array Slot) (hl : lv_has ls 9 [(0, .ref o), (1, .int (J s)), (2, .int (J x)), (3, .int (J y)), (4, .int (J w)), (5, .int (J v)), (6, .int (J i))]) (i55_0 : 0 ≤ i ∧ i ≤ mN u s) (i55_1 : (w = 1 ∧ wIn u s x y i) ∨ (w = 0 ∧ ¬ wIn u s x y i)) (i55_2 : (v = 1 ∧ wOn u s x y i) ∨ (v = 0 ∧ ¬ wOn u s x y i)), (mN u s - i).toNat < nn → W pr l en (headSpec (jw yX12_whereOf cX12_whereOf 9 (some .int)) (jr 1 23)).room st mi (([.ref o, .int (J s), .int (J x), .int (J y)] : List Value).toArray) below meth co st.heap [] 0 0 (MQ below (jRi (fun z => wR u s x y z)) (([.ref o, .int (J s), .int (J x), .int (J y)] : List Value).toArray) st 0 0 (fun _ => False)) (F0 mi 55 ls []) := by
      intro nn
      induction nn with
      | zero => intros; omega
      | succ nn ih_55 =>
        intro w v i ls hl i55_0 i55_1 i55_2 hm
        refine lv_iload SS.1 SS.2.1 dX12_whereOf_55 (lv_at hl 6 rfl) ?_
        refine lv_aload_n SS.1 SS.2.1 dX12_whereOf_57 rfl (lv_at hl 0 rfl) ?_
        refine j_get SS hG hP 0 (v := .ref (q 0)) (C := RX12) (T := TX12) (N := 31) rfl rfl inX12 0 (by decide) (ref := RX12) kw_1058 rfl rfl dX12_whereOf_58 ?_
        refine lv_iload_n SS.1 SS.2.1 dX12_whereOf_61 rfl (lv_at hl 1 rfl) ?_
        refine j_iald SS hG hP 1 (n := 8) (f := (u.1 0)) rfl (z := s) (by omega) (by omega) dX12_whereOf_62 ?_
        refine j_icmp_ge SS (tgt := 223) (x := i) (y := (mN u s)) dX12_whereOf_63 (by decide) (by omega) (by omega) (fun c_63 => ?_) (fun c_63 => ?_)
        · skip
          refine lv_iload SS.1 SS.2.1 dX12_whereOf_223 (lv_at hl 5 rfl) ?_
          refine j_if_eq SS (tgt := 232) (x := v) dX12_whereOf_225 (by decide) (by omega) (fun c_225 => ?_) (fun c_225 => ?_)
          · skip
            refine lv_iload SS.1 SS.2.1 dX12_whereOf_232 (lv_at hl 4 rfl) ?_
            refine j_if_eq SS (tgt := 249) (x := w) dX12_whereOf_234 (by decide) (by omega) (fun c_234 => ?_) (fun c_234 => ?_)
            · skip
              refine j_iconst SS dX12_whereOf_249 ?_
              exact W.iret SS.1 SS.2.1 hr (fun t ht hW => ⟨_, rfl, ⟨0, rfl, (Or.inr ⟨by omega, by rw [show i = mN u s by omega] at i55_1 i55_2; first | (refine Or.inl ⟨rfl, ?_⟩; rcases i55_2 with k | k; exact k.2; omega) | (refine Or.inr (Or.inl ⟨rfl, ?_, ?_, ?_⟩); (rcases i55_2 with k | k; omega; exact k.2); (rcases i55_1 with k | k; exact k.2; omega); omega) | (refine Or.inr (Or.inr ⟨rfl, ?_, ?_⟩); (rcases i55_2 with k | k; omega; exact k.2); (intro q; first | omega | (rcases i55_1 with k | k; omega; exact k.2 q.1)))⟩)⟩, ht⟩) (fun _ h => nomatch h) dX12_whereOf_250 hlk
            · skip
              refine lv_aload_n SS.1 SS.2.1 dX12_whereOf_237 rfl (lv_at hl 0 rfl) ?_
              refine lv_iload_n SS.1 SS.2.1 dX12_whereOf_238 rfl (lv_at hl 1 rfl) ?_
              refine j_vRi SS (As := [.int (J s)]) (rest := []) (c_X12_isPolygon l D o q u s (show 0 ≤ s ∧ s ≤ 7 from (p0)) (show Sh u s from (p1))) mf_X12_isPolygon kw_1240 hG hP hP (ci := 8) (q0 := 0) rfl rfl rfl rfl hl.1 ⟨⟨Nat.le_of_ble_eq_true rfl, Nat.le_of_ble_eq_true rfl⟩, Nat.le_of_ble_eq_true rfl, Nat.le_refl _, Nat.le_refl _⟩ rfl dX12_whereOf_239 (fun z_239 h_239 => ?_)
              have h_239 : (z_239 = 1 ∧ 2 < mN u s) ∨ (z_239 = 0 ∧ mN u s ≤ 2) := h_239
              refine j_if_eq SS (tgt := 249) (x := z_239) dX12_whereOf_242 (by decide) (by omega) (fun c_242 => ?_) (fun c_242 => ?_)
              · skip
                refine j_iconst SS dX12_whereOf_249 ?_
                exact W.iret SS.1 SS.2.1 hr (fun t ht hW => ⟨_, rfl, ⟨0, rfl, (Or.inr ⟨by omega, by rw [show i = mN u s by omega] at i55_1 i55_2; first | (refine Or.inl ⟨rfl, ?_⟩; rcases i55_2 with k | k; exact k.2; omega) | (refine Or.inr (Or.inl ⟨rfl, ?_, ?_, ?_⟩); (rcases i55_2 with k | k; omega; exact k.2); (rcases i55_1 with k | k; exact k.2; omega); omega) | (refine Or.inr (Or.inr ⟨rfl, ?_, ?_⟩); (rcases i55_2 with k | k; omega; exact k.2); (intro q; first | omega | (rcases i55_1 with k | k; omega; exact k.2 q.1)))⟩)⟩, ht⟩) (fun _ h => nomatch h) dX12_whereOf_250 hlk
              · skip
                refine j_iconst SS dX12_whereOf_245 ?_
                refine lv_goto (tgt := 250) SS.1 SS.2.1 dX12_whereOf_246 (by decide) ?_
                exact W.iret SS.1 SS.2.1 hr (fun t ht hW => ⟨_, rfl, ⟨2, rfl, (Or.inr ⟨by omega, by rw [show i = mN u s by omega] at i55_1 i55_2; first | (refine Or.inl ⟨rfl, ?_⟩; rcases i55_2 with k | k; exact k.2; omega) | (refine Or.inr (Or.inl ⟨rfl, ?_, ?_, ?_⟩); (rcases i55_2 with k | k; omega; exact k.2); (rcases i55_1 with k | k; exact k.2; omega); omega) | (refine Or.inr (Or.inr ⟨rfl, ?_, ?_⟩); (rcases i55_2 with k | k; omega; exact k.2); (intro q; first | omega | (rcases i55_1 with k | k; omega; exact k.2 q.1)))⟩)⟩, ht⟩) (fun _ h => nomatch h) dX12_whereOf_250 hlk
          · skip
            refine j_iconst SS dX12_whereOf_228 ?_
            refine lv_goto (tgt := 250) SS.1 SS.2.1 dX12_whereOf_229 (by decide) ?_
            exact W.iret SS.1 SS.2.1 hr (fun t ht hW => ⟨_, rfl, ⟨1, rfl, (Or.inr ⟨by omega, by rw [show i = mN u s by omega] at i55_1 i55_2; first | (refine Or.inl ⟨rfl, ?_⟩; rcases i55_2 with k | k; exact k.2; omega) | (refine Or.inr (Or.inl ⟨rfl, ?_, ?_, ?_⟩); (rcases i55_2 with k | k; omega; exact k.2); (rcases i55_1 with k | k; exact k.2; omega); omega) | (refine Or.inr (Or.inr ⟨rfl, ?_, ?_⟩); (rcases i55_2 with k | k; omega; exact k.2); (intro q; first | omega | (rcases i55_1 with k | k; omega; exact k.2 q.1)))⟩)⟩, ht⟩) (fun _ h => nomatch h) dX12_whereOf_250 hlk
        · skip
          have b1 := p1.2.1 (by omega) i (by omega)
          have b2 := p1.2.1 (by omega) (i + 1) (by omega)
          refine lv_aload_n SS.1 SS.2.1 dX12_whereOf_66 rfl (lv_at hl 0 rfl) ?_
          refine lv_iload_n SS.1 SS.2.1 dX12_whereOf_67 rfl (lv_at hl 1 rfl) ?_
          refine lv_iload SS.1 SS.2.1 dX12_whereOf_68 (lv_at hl 6 rfl) ?_
          refine j_iconst SS dX12_whereOf_70 ?_
          refine j_iadd SS (x := i) (y := 1) dX12_whereOf_71 ?_
          refine j_vRi SS (As := [.int (J s), .int (J (i + 1))]) (rest := []) (c_X12_x l D o q u s (i + 1) (show 0 ≤ s ∧ s ≤ 7 from (by omega)) (show 0 ≤ (i + 1) ∧ (i + 1) ≤ 1000000 from (by omega)) (show 0 < mN u s ∧ mN u s ≤ 24 from (by omega))) mf_X12_x kw_1177 hG hP hP (ci := 8) (q0 := 0) rfl rfl rfl rfl hl.1 ⟨⟨Nat.le_of_ble_eq_true rfl, Nat.le_of_ble_eq_true rfl⟩, Nat.le_of_ble_eq_true rfl, Nat.le_refl _, Nat.le_refl _⟩ rfl dX12_whereOf_72 (fun z_72 h_72 => ?_)
          have h_72 : z_72 = mX u s (i + 1) := h_72
          refine lv_aload_n SS.1 SS.2.1 dX12_whereOf_75 rfl (lv_at hl 0 rfl) ?_
          refine lv_iload_n SS.1 SS.2.1 dX12_whereOf_76 rfl (lv_at hl 1 rfl) ?_
          refine lv_iload SS.1 SS.2.1 dX12_whereOf_77 (lv_at hl 6 rfl) ?_
          refine j_vRi SS (As := [.int (J s), .int (J i)]) (rest := [.int (J z_72)]) (c_X12_x l D o q u s i (show 0 ≤ s ∧ s ≤ 7 from (by omega)) (show 0 ≤ i ∧ i ≤ 1000000 from (by omega)) (show 0 < mN u s ∧ mN u s ≤ 24 from (by omega))) mf_X12_x kw_1177 hG hP hP (ci := 8) (q0 := 0) rfl rfl rfl rfl hl.1 ⟨⟨Nat.le_of_ble_eq_true rfl, Nat.le_of_ble_eq_true rfl⟩, Nat.le_of_ble_eq_true rfl, Nat.le_refl _, Nat.le_refl _⟩ rfl dX12_whereOf_79 (fun z_79 h_79 => ?_)
          have h_79 : z_79 = mX u s i := h_79
          refine j_isub SS (x := z_72) (y := z_79) dX12_whereOf_82 ?_
          refine lv_aload_n SS.1 SS.2.1 dX12_whereOf_83 rfl (lv_at hl 0 rfl) ?_
          refine lv_iload_n SS.1 SS.2.1 dX12_whereOf_84 rfl (lv_at hl 1 rfl) ?_
          refine lv_iload SS.1 SS.2.1 dX12_whereOf_85 (lv_at hl 6 rfl) ?_
          refine j_iconst SS dX12_whereOf_87 ?_
          refine j_iadd SS (x := i) (y := 1) dX12_whereOf_88 ?_
          refine j_vRi SS (As := [.int (J s), .int (J (i + 1))]) (rest := [.int (J (z_72 - z_79))]) (c_X12_y l D o q u s (i + 1) (show 0 ≤ s ∧ s ≤ 7 from (by omega)) (show 0 ≤ (i + 1) ∧ (i + 1) ≤ 1000000 from (by omega)) (show 0 < mN u s ∧ mN u s ≤ 24 from (by omega))) mf_X12_y kw_1181 hG hP hP (ci := 8) (q0 := 0) rfl rfl rfl rfl hl.1 ⟨⟨Nat.le_of_ble_eq_true rfl, Nat.le_of_ble_eq_true rfl⟩, Nat.le_of_ble_eq_true rfl, Nat.le_refl _, Nat.le_refl _⟩ rfl dX12_whereOf_89 (fun z_89 h_89 => ?_)
          have h_89 : z_89 = mY u s (i + 1) := h_89
          refine lv_aload_n SS.1 SS.2.1 dX12_whereOf_92 rfl (lv_at hl 0 rfl) ?_
          refine lv_iload_n SS.1 SS.2.1 dX12_whereOf_93 rfl (lv_at hl 1 rfl) ?_
          refine lv_iload SS.1 SS.2.1 dX12_whereOf_94 (lv_at hl 6 rfl) ?_
          refine j_vRi SS (As := [.int (J s), .int (J i)]) (rest := [.int (J z_89), .int (J (z_72 - z_79))]) (c_X12_y l D o q u s i (show 0 ≤ s ∧ s ≤ 7 from (by omega)) (show 0 ≤ i ∧ i ≤ 1000000 from (by omega)) (show 0 < mN u s ∧ mN u s ≤ 24 from (by omega))) mf_X12_y kw_1181 hG hP hP (ci := 8) (q0 := 0) rfl rfl rfl rfl hl.1 ⟨⟨Nat.le_of_ble_eq_true rfl, Nat.le_of_ble_eq_true rfl⟩, Nat.le_of_ble_eq_true rfl, Nat.le_refl _, Nat.le_refl _⟩ rfl dX12_whereOf_96 (fun z_96 h_96 => ?_)
          have h_96 : z_96 = mY u s i := h_96
          refine j_isub SS (x := z_89) (y := z_96) dX12_whereOf_99 ?_
          refine lv_iload_n SS.1 SS.2.1 dX12_whereOf_100 rfl (lv_at hl 2 rfl) ?_
          refine lv_aload_n SS.1 SS.2.1 dX12_whereOf_101 rfl (lv_at hl 0 rfl) ?_
          refine lv_iload_n SS.1 SS.2.1 dX12_whereOf_102 rfl (lv_at hl 1 rfl) ?_
          refine lv_iload SS.1 SS.2.1 dX12_whereOf_103 (lv_at hl 6 rfl) ?_
          refine j_vRi SS (As := [.int (J s), .int (J i)]) (rest := [.int (J x), .int (J (z_89 - z_96)), .int (J (z_72 - z_79))]) (c_X12_x l D o q u s i (show 0 ≤ s ∧ s ≤ 7 from (by omega)) (show 0 ≤ i ∧ i ≤ 1000000 from (by omega)) (show 0 < mN u s ∧ mN u s ≤ 24 from (by omega))) mf_X12_x kw_1177 hG hP hP (ci := 8) (q0 := 0) rfl rfl rfl rfl hl.1 ⟨⟨Nat.le_of_ble_eq_true rfl, Nat.le_of_ble_eq_true rfl⟩, Nat.le_of_ble_eq_true rfl, Nat.le_refl _, Nat.le_refl _⟩ rfl dX12_whereOf_105 (fun z_105 h_105 => ?_)
          have h_105 : z_105 = mX u s i := h_105
          refine j_isub SS (x := x) (y := z_105) dX12_whereOf_108 ?_
          refine lv_iload_n SS.1 SS.2.1 dX12_whereOf_109 rfl (lv_at hl 3 rfl) ?_
          refine lv_aload_n SS.1 SS.2.1 dX12_whereOf_110 rfl (lv_at hl 0 rfl) ?_
          refine lv_iload_n SS.1 SS.2.1 dX12_whereOf_111 rfl (lv_at hl 1 rfl) ?_
          refine lv_iload SS.1 SS.2.1 dX12_whereOf_112 (lv_at hl 6 rfl) ?_
          refine j_vRi SS (As := [.int (J s), .int (J i)]) (rest := [.int (J y), .int (J (x - z_105)), .int (J (z_89 - z_96)), .int (J (z_72 - z_79))]) (c_X12_y l D o q u s i (show 0 ≤ s ∧ s ≤ 7 from (by omega)) (show 0 ≤ i ∧ i ≤ 1000000 from (by omega)) (show 0 < mN u s ∧ mN u s ≤ 24 from (by omega))) mf_X12_y kw_1181 hG hP hP (ci := 8) (q0 := 0) rfl rfl rfl rfl hl.1 ⟨⟨Nat.le_of_ble_eq_true rfl, Nat.le_of_ble_eq_true rfl⟩, Nat.le_of_ble_eq_true rfl, Nat.le_refl _, Nat.le_refl _⟩ rfl dX12_whereOf_114 (fun z_114 h_114 => ?_)
          have h_114 : z_114 = mY u s i := h_114
          refine j_isub SS (x := y) (y := z_114) dX12_whereOf_117 ?_
          refine j_sRi SS (As := [.int (J (z_72 - z_79)), .int (J (z_89 - z_96)), .int (J (x - z_105)), .int (J (y - z_114))]) (rest := []) (c_X12_cross l D (z_72 - z_79) (z_89 - z_96) (x - z_105) (y - z_114) ) mf_X12_cross kw_1259 hG trivial rfl hl.1 ⟨⟨Nat.le_of_ble_eq_true rfl, Nat.le_of_ble_eq_true rfl⟩, Nat.le_of_ble_eq_true rfl, Nat.le_refl _, Nat.le_refl _⟩ rfl dX12_whereOf_118 (fun z_118 h_118 => ?_)
          have h_118 : z_118 = (z_72 - z_79) * (y - z_114) - (z_89 - z_96) * (x - z_105) := h_118
          have e0 : z_118 = wcr u s i x y := by rw [h_118, h_72, h_79, h_89, h_96, h_105, h_114]; rfl
          have q1 := mulb (A := 80) (B := 140) (a := z_72 - z_79) (b := y - z_114) (by omega) (by omega)
          have q2 := mulb (A := 80) (B := 140) (a := z_89 - z_96) (b := x - z_105) (by omega) (by omega)
          refine lv_istore (lv' := [(7, .int (J z_118)), (0, .ref o), (1, .int (J s)), (2, .int (J x)), (3, .int (J y)), (4, .int (J w)), (5, .int (J v)), (6, .int (J i))]) SS.1 SS.2.1 dX12_whereOf_121 hl (by decide) rfl (fun ls hl => ?_)
          refine lv_iload SS.1 SS.2.1 dX12_whereOf_123 (lv_at hl 5 rfl) ?_
          have L_138 : ∀ (w1 : Int) (ls : Array Slot) (hl : lv_has ls 9 [(0, .ref o), (1, .int (J s)), (2, .int (J x)), (3, .int (J y)), (5, .int (J v)), (6, .int (J i)), (7, .int (J z_118))]) (i138_0 : (w1 = 1 ∧ wIn u s x y i ∧ 0 ≤ wcr u s i x y) ∨ (w1 = 0 ∧ ¬ (wIn u s x y i ∧ 0 ≤ wcr u s i x y))), W pr l en (headSpec (jw yX12_whereOf cX12_whereOf 9 (some .int)) (jr 1 23)).room st mi (([.ref o, .int (J s), .int (J x), .int (J y)] : List Value).toArray) below meth co st.heap [] 0 0 (MQ below (jRi (fun z => wR u s x y z)) (([.ref o, .int (J s), .int (J x), .int (J y)] : List Value).toArray) st 0 0 (fun _ => False)) (F0 mi 138 ls [.int (J w1)]) := by
            intro w1 ls hl i138_0
            refine lv_istore (lv' := [(4, .int (J w1)), (0, .ref o), (1, .int (J s)), (2, .int (J x)), (3, .int (J y)), (5, .int (J v)), (6, .int (J i)), (7, .int (J z_118))]) SS.1 SS.2.1 dX12_whereOf_138 hl (by decide) rfl (fun ls hl => ?_)
            refine lv_iload_n SS.1 SS.2.1 dX12_whereOf_140 rfl (lv_at hl 3 rfl) ?_
            refine lv_aload_n SS.1 SS.2.1 dX12_whereOf_141 rfl (lv_at hl 1 rfl) ?_
            refine lv_iload_n SS.1 SS.2.1 dX12_whereOf_142 rfl (lv_at hl 2 rfl) ?_
            refine lv_iload SS.1 SS.2.1 dX12_whereOf_143 (lv_at hl 6 rfl) ?_
            refine j_vRi SS (As := [.int (J s), .int (J i)]) (rest := [.int (J x)]) (c_X12_x l D o q u s i (show 0 ≤ s ∧ s ≤ 7 from (by omega)) (show 0 ≤ i ∧ i ≤ 1000000 from (by omega)) (show 0 < mN u s ∧ mN u s ≤ 24 from (by omega))) mf_X12_x kw_1177 hG hP hP (ci := 8) (q0 := 0) rfl rfl rfl rfl hl.1 ⟨⟨Nat.le_of_ble_eq_true rfl, Nat.le_of_ble_eq_true rfl⟩, Nat.le_of_ble_eq_true rfl, Nat.le_refl _, Nat.le_refl _⟩ rfl dX12_whereOf_145 (fun z_145 h_145 => ?_)
            have h_145 : z_145 = mX u s i := h_145
            refine j_isub SS (x := x) (y := z_145) dX12_whereOf_148 ?_
            refine lv_iload_n SS.1 SS.2.1 dX12_whereOf_149 rfl (lv_at hl 3 rfl) ?_
            refine lv_aload_n SS.1 SS.2.1 dX12_whereOf_150 rfl (lv_at hl 1 rfl) ?_
            refine lv_iload_n SS.1 SS.2.1 dX12_whereOf_151 rfl (lv_at hl 2 rfl) ?_
            refine lv_iload SS.1 SS.2.1 dX12_whereOf_152 (lv_at hl 6 rfl) ?_
            refine j_iconst SS dX12_whereOf_154 ?_
            refine j_iadd SS (x := i) (y := 1) dX12_whereOf_155 ?_
            refine j_vRi SS (As := [.int (J s), .int (J (i + 1))]) (rest := [.int (J x), .int (J (x - z_145))]) (c_X12_x l D o q u s (i + 1) (show 0 ≤ s ∧ s ≤ 7 from (by omega)) (show 0 ≤ (i + 1) ∧ (i + 1) ≤ 1000000 from (by omega)) (show 0 < mN u s ∧ mN u s ≤ 24 from (by omega))) mf_X12_x kw_1177 hG hP hP (ci := 8) (q0 := 0) rfl rfl rfl rfl hl.1 ⟨⟨Nat.le_of_ble_eq_true rfl, Nat.le_of_ble_eq_true rfl⟩, Nat.le_of_ble_eq_true rfl, Nat.le_refl _, Nat.le_refl _⟩ rfl dX12_whereOf_156 (fun z_156 h_156 => ?_)
            have h_156 : z_156 = mX u s (i + 1) := h_156
            refine j_isub SS (x := x) (y := z_156) dX12_whereOf_159 ?_
            refine j_imul SS (x := (x - z_145)) (y := (x - z_156)) dX12_whereOf_160 ?_
            obtain ⟨m1, em1⟩ : ∃ z : Int, z = ((x - z_145) * (x - z_156)) := ⟨_, rfl⟩
            rw [← em1]
            have L_193 : ∀ (w2 : Int) (ls : Array Slot) (hl : lv_has ls 9 [(0, .ref o), (1, .int (J s)), (2, .int (J x)), (3, .int (J y)), (4, .int (J w1)), (5, .int (J v)), (6, .int (J i)), (7, .int (J z_118))]) (i193_0 : (w2 = 1 ∧ wBt u s i x y) ∨ (w2 = 0 ∧ ¬ wBt u s i x y)), W pr l en (headSpec (jw yX12_whereOf cX12_whereOf 9 (some .int)) (jr 1 23)).room st mi (([.ref o, .int (J s), .int (J x), .int (J y)] : List Value).toArray) below meth co st.heap [] 0 0 (MQ below (jRi (fun z => wR u s x y z)) (([.ref o, .int (J s), .int (J x), .int (J y)] : List Value).toArray) st 0 0 (fun _ => False)) (F0 mi 193 ls [.int (J w2)]) := by
              intro w2 ls hl i193_0
              refine lv_istore (lv' := [(8, .int (J w2)), (0, .ref o), (1, .int (J s)), (2, .int (J x)), (3, .int (J y)), (4, .int (J w1)), (5, .int (J v)), (6, .int (J i)), (7, .int (J z_118))]) SS.1 SS.2.1 dX12_whereOf_193 hl (by decide) rfl (fun ls hl => ?_)
              refine lv_iload SS.1 SS.2.1 dX12_whereOf_195 (lv_at hl 6 rfl) ?_
              refine j_if_ne SS (tgt := 210) (x := v) dX12_whereOf_197 (by decide) (by omega) (fun c_197 => ?_) (fun c_197 => ?_)
              · skip
                refine j_iconst SS dX12_whereOf_210 ?_
                refine lv_goto (tgt := 215) SS.1 SS.2.1 dX12_whereOf_211 (by decide) ?_
                refine lv_istore (lv' := [(5, .int (J 1)), (8, .int (J w2)), (0, .ref o), (1, .int (J s)), (2, .int (J x)), (3, .int (J y)), (4, .int (J w1)), (6, .int (J i)), (7, .int (J z_118))]) SS.1 SS.2.1 dX12_whereOf_215 hl (by decide) rfl (fun ls hl => ?_)
                refine lv_iinc (v := J (i + 1)) (lv' := [(6, .int (J (i + 1))), (5, .int (J 1)), (8, .int (J w2)), (0, .ref o), (1, .int (J s)), (2, .int (J x)), (3, .int (J y)), (4, .int (J w1)), (7, .int (J z_118))]) SS.1 SS.2.1 dX12_whereOf_217 hl (k := 7) rfl (J_add _ _) (by decide) rfl (fun ls hl => ?_)
                refine lv_goto (tgt := 55) SS.1 SS.2.1 dX12_whereOf_220 (by decide) ?_
                exact ih_55 w1 1 (i + 1) ls (lv_sub hl [3, 4, 5, 6, 7, 1, 0] rfl) (by omega) (by rw [wIn_s i55_0.1]; rcases i138_0 with k | k; exact Or.inl k; exact Or.inr k) (by rw [wOn_s i55_0.1]; first | (refine Or.inl ⟨rfl, ?_⟩; rcases i55_2 with k | k; exact Or.inl k.2; first | (exfalso; omega) | exact Or.inr ⟨by omega, by rcases i193_0 with k2 | k2; exact k2.2; omega⟩) | (refine Or.inr ⟨rfl, ?_⟩; rintro (k | k); (rcases i55_2 with k2 | k2; omega; exact k2.2 k); (first | omega | (rcases i193_0 with k2 | k2; omega; exact k2.2 k.2)))) (by omega)
              · skip
                refine lv_iload SS.1 SS.2.1 dX12_whereOf_200 (lv_at hl 8 rfl) ?_
                refine j_if_ne SS (tgt := 214) (x := z_118) dX12_whereOf_202 (by decide) (by omega) (fun c_202 => ?_) (fun c_202 => ?_)
                · skip
                  refine j_iconst SS dX12_whereOf_214 ?_
                  refine lv_istore (lv' := [(5, .int (J 0)), (8, .int (J w2)), (0, .ref o), (1, .int (J s)), (2, .int (J x)), (3, .int (J y)), (4, .int (J w1)), (6, .int (J i)), (7, .int (J z_118))]) SS.1 SS.2.1 dX12_whereOf_215 hl (by decide) rfl (fun ls hl => ?_)
                  refine lv_iinc (v := J (i + 1)) (lv' := [(6, .int (J (i + 1))), (5, .int (J 0)), (8, .int (J w2)), (0, .ref o), (1, .int (J s)), (2, .int (J x)), (3, .int (J y)), (4, .int (J w1)), (7, .int (J z_118))]) SS.1 SS.2.1 dX12_whereOf_217 hl (k := 7) rfl (J_add _ _) (by decide) rfl (fun ls hl => ?_)
                  refine lv_goto (tgt := 55) SS.1 SS.2.1 dX12_whereOf_220 (by decide) ?_
                  exact ih_55 w1 0 (i + 1) ls (lv_sub hl [3, 4, 5, 6, 7, 1, 0] rfl) (by omega) (by rw [wIn_s i55_0.1]; rcases i138_0 with k | k; exact Or.inl k; exact Or.inr k) (by rw [wOn_s i55_0.1]; first | (refine Or.inl ⟨rfl, ?_⟩; rcases i55_2 with k | k; exact Or.inl k.2; first | (exfalso; omega) | exact Or.inr ⟨by omega, by rcases i193_0 with k2 | k2; exact k2.2; omega⟩) | (refine Or.inr ⟨rfl, ?_⟩; rintro (k | k); (rcases i55_2 with k2 | k2; omega; exact k2.2 k); (first | omega | (rcases i193_0 with k2 | k2; omega; exact k2.2 k.2)))) (by omega)
                · skip
                  refine lv_iload SS.1 SS.2.1 dX12_whereOf_205 (lv_at hl 0 rfl) ?_
                  refine j_if_eq SS (tgt := 214) (x := w2) dX12_whereOf_207 (by decide) (by omega) (fun c_207 => ?_) (fun c_207 => ?_)
                  · skip
                    refine j_iconst SS dX12_whereOf_214 ?_
                    refine lv_istore (lv' := [(5, .int (J 0)), (8, .int (J w2)), (0, .ref o), (1, .int (J s)), (2, .int (J x)), (3, .int (J y)), (4, .int (J w1)), (6, .int (J i)), (7, .int (J z_118))]) SS.1 SS.2.1 dX12_whereOf_215 hl (by decide) rfl (fun ls hl => ?_)
                    refine lv_iinc (v := J (i + 1)) (lv' := [(6, .int (J (i + 1))), (5, .int (J 0)), (8, .int (J w2)), (0, .ref o), (1, .int (J s)), (2, .int (J x)), (3, .int (J y)), (4, .int (J w1)), (7, .int (J z_118))]) SS.1 SS.2.1 dX12_whereOf_217 hl (k := 7) rfl (J_add _ _) (by decide) rfl (fun ls hl => ?_)
                    refine lv_goto (tgt := 55) SS.1 SS.2.1 dX12_whereOf_220 (by decide) ?_
                    exact ih_55 w1 0 (i + 1) ls (lv_sub hl [3, 4, 5, 6, 7, 1, 0] rfl) (by omega) (by rw [wIn_s i55_0.1]; rcases i138_0 with k | k; exact Or.inl k; exact Or.inr k) (by rw [wOn_s i55_0.1]; first | (refine Or.inl ⟨rfl, ?_⟩; rcases i55_2 with k | k; exact Or.inl k.2; first | (exfalso; omega) | exact Or.inr ⟨by omega, by rcases i193_0 with k2 | k2; exact k2.2; omega⟩) | (refine Or.inr ⟨rfl, ?_⟩; rintro (k | k); (rcases i55_2 with k2 | k2; omega; exact k2.2 k); (first | omega | (rcases i193_0 with k2 | k2; omega; exact k2.2 k.2)))) (by omega)
                  · skip
                    refine j_iconst SS dX12_whereOf_210 ?_
                    refine lv_goto (tgt := 215) SS.1 SS.2.1 dX12_whereOf_211 (by decide) ?_
                    refine lv_istore (lv' := [(5, .int (J 1)), (8, .int (J w2)), (0, .ref o), (1, .int (J s)), (2, .int (J x)), (3, .int (J y)), (4, .int (J w1)), (6, .int (J i)), (7, .int (J z_118))]) SS.1 SS.2.1 dX12_whereOf_215 hl (by decide) rfl (fun ls hl => ?_)
                    refine lv_iinc (v := J (i + 1)) (lv' := [(6, .int (J (i + 1))), (5, .int (J 1)), (8, .int (J w2)), (0, .ref o), (1, .int (J s)), (2, .int (J x)), (3, .int (J y)), (4, .int (J w1)), (7, .int (J z_118))]) SS.1 SS.2.1 dX12_whereOf_217 hl (k := 7) rfl (J_add _ _) (by decide) rfl (fun ls hl => ?_)
                    refine lv_goto (tgt := 55) SS.1 SS.2.1 dX12_whereOf_220 (by decide) ?_
                    exact ih_55 w1 1 (i + 1) ls (lv_sub hl [3, 4, 5, 6, 7, 1, 0] rfl) (by omega) (by rw [wIn_s i55_0.1]; rcases i138_0 with k | k; exact Or.inl k; exact Or.inr k) (by rw [wOn_s i55_0.1]; first | (refine Or.inl ⟨rfl, ?_⟩; rcases i55_2 with k | k; exact Or.inl k.2; first | (exfalso; omega) | exact Or.inr ⟨by omega, by rcases i193_0 with k2 | k2; exact k2.2; omega⟩) | (refine Or.inr ⟨rfl, ?_⟩; rintro (k | k); (rcases i55_2 with k2 | k2; omega; exact k2.2 k); (first | omega | (rcases i193_0 with k2 | k2; omega; exact k2.2 k.2)))) (by omega)
            have q3 := mulb (A := 140) (B := 140) (a := x - z_145) (b := x - z_156) (by omega) (by omega)
            have e1 : m1 = (x - mX u s i) * (x - mX u s (i + 1)) := by rw [em1, h_145, h_156]
            refine j_if_gt SS (tgt := 192) (x := m1) dX12_whereOf_161 (by decide) (by omega) (fun c_161 => ?_) (fun c_161 => ?_)
            · skip
              refine j_iconst SS dX12_whereOf_192 ?_
              exact L_193 0 ls (lv_sub hl [1, 2, 3, 4, 0, 5, 6, 7] rfl) (Or.inr ⟨rfl, fun k => by first | (have k1 := k.1; rw [← e1] at k1; omega) | (have k2 := k.2; rw [← e2] at k2; omega)⟩)
            · skip
              refine lv_iload_n SS.1 SS.2.1 dX12_whereOf_164 rfl (lv_at hl 4 rfl) ?_
              refine lv_aload_n SS.1 SS.2.1 dX12_whereOf_165 rfl (lv_at hl 1 rfl) ?_
              refine lv_iload_n SS.1 SS.2.1 dX12_whereOf_166 rfl (lv_at hl 2 rfl) ?_
              refine lv_iload SS.1 SS.2.1 dX12_whereOf_167 (lv_at hl 6 rfl) ?_
              refine j_vRi SS (As := [.int (J s), .int (J i)]) (rest := [.int (J y)]) (c_X12_y l D o q u s i (show 0 ≤ s ∧ s ≤ 7 from (by omega)) (show 0 ≤ i ∧ i ≤ 1000000 from (by omega)) (show 0 < mN u s ∧ mN u s ≤ 24 from (by omega))) mf_X12_y kw_1181 hG hP hP (ci := 8) (q0 := 0) rfl rfl rfl rfl hl.1 ⟨⟨Nat.le_of_ble_eq_true rfl, Nat.le_of_ble_eq_true rfl⟩, Nat.le_of_ble_eq_true rfl, Nat.le_refl _, Nat.le_refl _⟩ rfl dX12_whereOf_169 (fun z_169 h_169 => ?_)
              have h_169 : z_169 = mY u s i := h_169
              refine j_isub SS (x := y) (y := z_169) dX12_whereOf_172 ?_
              refine lv_iload_n SS.1 SS.2.1 dX12_whereOf_173 rfl (lv_at hl 4 rfl) ?_
              refine lv_aload_n SS.1 SS.2.1 dX12_whereOf_174 rfl (lv_at hl 1 rfl) ?_
              refine lv_iload_n SS.1 SS.2.1 dX12_whereOf_175 rfl (lv_at hl 2 rfl) ?_
              refine lv_iload SS.1 SS.2.1 dX12_whereOf_176 (lv_at hl 6 rfl) ?_
              refine j_iconst SS dX12_whereOf_178 ?_
              refine j_iadd SS (x := i) (y := 1) dX12_whereOf_179 ?_
              refine j_vRi SS (As := [.int (J s), .int (J (i + 1))]) (rest := [.int (J y), .int (J (y - z_169))]) (c_X12_y l D o q u s (i + 1) (show 0 ≤ s ∧ s ≤ 7 from (by omega)) (show 0 ≤ (i + 1) ∧ (i + 1) ≤ 1000000 from (by omega)) (show 0 < mN u s ∧ mN u s ≤ 24 from (by omega))) mf_X12_y kw_1181 hG hP hP (ci := 8) (q0 := 0) rfl rfl rfl rfl hl.1 ⟨⟨Nat.le_of_ble_eq_true rfl, Nat.le_of_ble_eq_true rfl⟩, Nat.le_of_ble_eq_true rfl, Nat.le_refl _, Nat.le_refl _⟩ rfl dX12_whereOf_180 (fun z_180 h_180 => ?_)
              have h_180 : z_180 = mY u s (i + 1) := h_180
              refine j_isub SS (x := y) (y := z_180) dX12_whereOf_183 ?_
              refine j_imul SS (x := (y - z_169)) (y := (y - z_180)) dX12_whereOf_184 ?_
              obtain ⟨m2, em2⟩ : ∃ z : Int, z = ((y - z_169) * (y - z_180)) := ⟨_, rfl⟩
              rw [← em2]
              have q4 := mulb (A := 140) (B := 140) (a := y - z_169) (b := y - z_180) (by omega) (by omega)
              have e2 : m2 = (y - mY u s i) * (y - mY u s (i + 1)) := by rw [em2, h_169, h_180]
              refine j_if_gt SS (tgt := 192) (x := m2) dX12_whereOf_185 (by decide) (by omega) (fun c_185 => ?_) (fun c_185 => ?_)
              · skip
                refine j_iconst SS dX12_whereOf_192 ?_
                exact L_193 0 ls (lv_sub hl [1, 2, 3, 4, 0, 5, 6, 7] rfl) (Or.inr ⟨rfl, fun k => by first | (have k1 := k.1; rw [← e1] at k1; omega) | (have k2 := k.2; rw [← e2] at k2; omega)⟩)
              · skip
                refine j_iconst SS dX12_whereOf_188 ?_
                refine lv_goto (tgt := 193) SS.1 SS.2.1 dX12_whereOf_189 (by decide) ?_
                exact L_193 1 ls (lv_sub hl [1, 2, 3, 4, 0, 5, 6, 7] rfl) (Or.inl ⟨rfl, by rw [e1] at c_161; exact c_161, by rw [e2] at c_185; exact c_185⟩)
          refine j_if_eq SS (tgt := 137) (x := w) dX12_whereOf_125 (by decide) (by omega) (fun c_125 => ?_) (fun c_125 => ?_)
          · skip
            refine j_iconst SS dX12_whereOf_137 ?_
            exact L_138 0 ls (lv_sub hl [1, 2, 3, 4, 6, 7, 0] rfl) (Or.inr ⟨rfl, fun k => by first | omega | (rcases i55_1 with k2 | k2; omega; exact k2.2 k.1)⟩)
          · skip
            refine lv_iload SS.1 SS.2.1 dX12_whereOf_128 (lv_at hl 0 rfl) ?_
            refine j_if_lt SS (tgt := 137) (x := z_118) dX12_whereOf_130 (by decide) (by omega) (fun c_130 => ?_) (fun c_130 => ?_)
            · skip
              refine j_iconst SS dX12_whereOf_137 ?_
              exact L_138 0 ls (lv_sub hl [1, 2, 3, 4, 6, 7, 0] rfl) (Or.inr ⟨rfl, fun k => by first | omega | (rcases i55_1 with k2 | k2; omega; exact k2.2 k.1)⟩)
            · skip
              refine j_iconst SS dX12_whereOf_133 ?_
              refine lv_goto (tgt := 138) SS.1 SS.2.1 dX12_whereOf_134 (by decide) ?_
              exact L_138 1 ls (lv_sub hl [1, 2, 3, 4, 6, 7, 0] rfl) (Or.inl ⟨rfl, by rcases i55_1 with k | k; exact k.2; omega, by omega⟩)
    exact L_55 ((mN u s - (0 : Int)).toNat + 1) 1 0 0 ls (lv_sub hl [3, 4, 5, 6, 2, 1, 0] rfl) (by omega) (Or.inl ⟨rfl, fun j h1 h2 => by omega⟩) (Or.inr ⟨rfl, fun ⟨j, h1, h2, _⟩ => by omega⟩) (Nat.lt_succ_self _)
  · skip
    refine lv_aload_n SS.1 SS.2.1 dX12_whereOf_10 rfl (lv_at hl 0 rfl) ?_
    refine j_get SS hG hP 0 (v := .ref (q 0)) (C := RX12) (T := TX12) (N := 31) rfl rfl inX12 0 (by decide) (ref := RX12) kw_1058 rfl rfl dX12_whereOf_11 ?_
    refine lv_iload_n SS.1 SS.2.1 dX12_whereOf_14 rfl (lv_at hl 1 rfl) ?_
    refine j_iald SS hG hP 1 (n := 8) (f := (u.1 0)) rfl (z := s) (by omega) (by omega) dX12_whereOf_15 ?_
    refine j_iconst SS dX12_whereOf_16 ?_
    refine j_icmp_ne SS (tgt := 44) (x := (mN u s)) (y := 1) dX12_whereOf_17 (by decide) (by omega) (by decide) (fun c_17 => ?_) (fun c_17 => ?_)
    · skip
      refine j_iconst SS dX12_whereOf_44 ?_
      exact W.iret SS.1 SS.2.1 hr (fun t ht hW => ⟨_, rfl, ⟨0, rfl, (Or.inl ⟨by omega, by omega⟩)⟩, ht⟩) (fun _ h => nomatch h) dX12_whereOf_45 hlk
    · skip
      have b0 := p1.2.1 (by omega) 0 (by omega)
      refine lv_aload_n SS.1 SS.2.1 dX12_whereOf_20 rfl (lv_at hl 0 rfl) ?_
      refine lv_iload_n SS.1 SS.2.1 dX12_whereOf_21 rfl (lv_at hl 1 rfl) ?_
      refine j_iconst SS dX12_whereOf_22 ?_
      refine j_vRi SS (As := [.int (J s), .int (J 0)]) (rest := []) (c_X12_x l D o q u s 0 (show 0 ≤ s ∧ s ≤ 7 from (by omega)) (show 0 ≤ (0 : Int) ∧ (0 : Int) ≤ 1000000 from (by omega)) (show 0 < mN u s ∧ mN u s ≤ 24 from (by omega))) mf_X12_x kw_1177 hG hP hP (ci := 8) (q0 := 0) rfl rfl rfl rfl hl.1 ⟨⟨Nat.le_of_ble_eq_true rfl, Nat.le_of_ble_eq_true rfl⟩, Nat.le_of_ble_eq_true rfl, Nat.le_refl _, Nat.le_refl _⟩ rfl dX12_whereOf_23 (fun z_23 h_23 => ?_)
      have h_23 : z_23 = mX u s (0 : Int) := h_23
      refine lv_iload_n SS.1 SS.2.1 dX12_whereOf_26 rfl (lv_at hl 2 rfl) ?_
      refine j_icmp_ne SS (tgt := 44) (x := z_23) (y := x) dX12_whereOf_27 (by decide) (by omega) (by omega) (fun c_27 => ?_) (fun c_27 => ?_)
      · skip
        refine j_iconst SS dX12_whereOf_44 ?_
        exact W.iret SS.1 SS.2.1 hr (fun t ht hW => ⟨_, rfl, ⟨0, rfl, (Or.inl ⟨by omega, by omega⟩)⟩, ht⟩) (fun _ h => nomatch h) dX12_whereOf_45 hlk
      · skip
        refine lv_aload_n SS.1 SS.2.1 dX12_whereOf_30 rfl (lv_at hl 0 rfl) ?_
        refine lv_iload_n SS.1 SS.2.1 dX12_whereOf_31 rfl (lv_at hl 1 rfl) ?_
        refine j_iconst SS dX12_whereOf_32 ?_
        refine j_vRi SS (As := [.int (J s), .int (J 0)]) (rest := []) (c_X12_y l D o q u s 0 (show 0 ≤ s ∧ s ≤ 7 from (by omega)) (show 0 ≤ (0 : Int) ∧ (0 : Int) ≤ 1000000 from (by omega)) (show 0 < mN u s ∧ mN u s ≤ 24 from (by omega))) mf_X12_y kw_1181 hG hP hP (ci := 8) (q0 := 0) rfl rfl rfl rfl hl.1 ⟨⟨Nat.le_of_ble_eq_true rfl, Nat.le_of_ble_eq_true rfl⟩, Nat.le_of_ble_eq_true rfl, Nat.le_refl _, Nat.le_refl _⟩ rfl dX12_whereOf_33 (fun z_33 h_33 => ?_)
        have h_33 : z_33 = mY u s (0 : Int) := h_33
        refine lv_iload_n SS.1 SS.2.1 dX12_whereOf_36 rfl (lv_at hl 3 rfl) ?_
        refine j_icmp_ne SS (tgt := 44) (x := z_33) (y := y) dX12_whereOf_37 (by decide) (by omega) (by omega) (fun c_37 => ?_) (fun c_37 => ?_)
        · skip
          refine j_iconst SS dX12_whereOf_44 ?_
          exact W.iret SS.1 SS.2.1 hr (fun t ht hW => ⟨_, rfl, ⟨0, rfl, (Or.inl ⟨by omega, by omega⟩)⟩, ht⟩) (fun _ h => nomatch h) dX12_whereOf_45 hlk
        · skip
          refine j_iconst SS dX12_whereOf_40 ?_
          refine lv_goto (tgt := 45) SS.1 SS.2.1 dX12_whereOf_41 (by decide) ?_
          exact W.iret SS.1 SS.2.1 hr (fun t ht hW => ⟨_, rfl, ⟨1, rfl, (Or.inl ⟨by omega, by omega⟩)⟩, ht⟩) (fun _ h => nomatch h) dX12_whereOf_45 hlk
