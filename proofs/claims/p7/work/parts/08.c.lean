
def tn (X Y : Nat → Int) (i j k : Nat) : Int := (X j - X i) * (Y k - Y i) - (Y j - Y i) * (X k - X i)
/-- left turns in the places from b to n -/
def lft (X Y : Nat → Int) (b n : Int) : Prop := ∀ a : Nat, b ≤ a → (a : Int) + 2 < n → 0 < tn X Y a (a + 1) (a + 2)
theorem tn_cong {X Y X' Y' : Nat → Int} {i j k : Nat} (h1 : X' i = X i) (h2 : X' j = X j) (h3 : X' k = X k) (h4 : Y' i = Y i) (h5 : Y' j = Y j) (h6 : Y' k = Y k) : tn X' Y' i j k = tn X Y i j k := by
  unfold tn; rw [h1, h2, h3, h4, h5, h6]
theorem lft_put {X Y : Nat → Int} {b n x y : Int} (hb : 0 ≤ b) (hn : b ≤ n) (h : lft X Y b n) (ht : n - b ≤ 1 ∨ 0 < (X (n - 1).toNat - X (n - 2).toNat) * (y - Y (n - 2).toNat) - (Y (n - 1).toNat - Y (n - 2).toNat) * (x - X (n - 2).toNat)) : lft (upI X n.toNat x) (upI Y n.toNat y) b (n + 1) := by
  intro a ha hn2
  by_cases e : (a : Int) + 2 = n
  · rcases ht with ht | ht
    · omega
    · unfold tn
      rw [show a + 2 = n.toNat by omega, upI_s, upI_s, upI_n (by omega), upI_n (by omega), upI_n (by omega), upI_n (by omega)]
      rw [show (n - 1).toNat = a + 1 by omega, show (n - 2).toNat = a by omega] at ht
      exact ht
  · rw [tn_cong (upI_n (by omega)) (upI_n (by omega)) (upI_n (by omega)) (upI_n (by omega)) (upI_n (by omega)) (upI_n (by omega))]
    exact h a ha (by omega)
theorem lft_le {X Y : Nat → Int} {b n m : Int} (h : lft X Y b n) (hm : m ≤ n) : lft X Y b m := fun a h1 h2 => h a h1 (by omega)
theorem bd_le {K : Int} {f g : Nat → Int} {n m : Int} (h : bd K f g n) (hm : m ≤ n) : bd K f g m := fun a ha => h a (by omega)
theorem bd_put {K : Int} {f g : Nat → Int} {n x y : Int} (h0 : 0 ≤ n) (h : bd K f g n) (hx : -K ≤ x ∧ x ≤ K) (hy : -K ≤ y ∧ y ≤ K) : bd K (upI f n.toNat x) (upI g n.toNat y) (n + 1) := by
  intro a ha
  by_cases e : a = n.toNat
  · rw [e, upI_s, upI_s]; exact ⟨hx, hy⟩
  · rw [upI_n e, upI_n e]; exact h a (by omega)
theorem bd_K {K L : Int} {f g : Nat → Int} {n : Int} (h : bd K f g n) (hL : K ≤ L) : bd L f g n := fun a ha => by have := h a ha; omega

set_option maxHeartbeats 4000000 in
set_option maxRecDepth 100000 in
theorem c_X12_goOn (l : Launch) (D : JD) (o : Nat) (q : Nat → Nat) (u : MS) (A : Nat → Prop) (hD : va_D A (mW D o q u)) (i : Int) (b : Int) (p0 : 0 ≤ i ∧ i < 640) (p1 : 0 ≤ b ∧ b ≤ u.2.2 9 ∧ u.2.2 9 < 1300) (p2 : -10000 ≤ u.1 4 i.toNat ∧ u.1 4 i.toNat ≤ 10000) (p3 : -10000 ≤ u.1 5 i.toNat ∧ u.1 5 i.toNat ≤ 10000) (p4 : bd 10000 (u.1 7) (u.1 8) (u.2.2 9)) (p5 : lft (u.1 7) (u.1 8) b (u.2.2 9)) : Met l yX12_goOn (jw yX12_goOn cX12_goOn 8 none) (jr 0 0) (jP [.ref o, .int (J i), .int (J b)] D (fun H => va_P D.1 j_cl (mW D o q u) H)) (jWv (fun u' => ∃ f : Nat → Int, ∃ g : Nat → Int, ∃ w : Int, ∃ v : Int, u' = (uV (uI (uI u 7 f) 8 g) 9 w) ∧ (w = v + 1 ∧ b ≤ v ∧ v ≤ u.2.2 9 ∧ (b < u.2.2 9 → b < v) ∧ f = upI (u.1 7) v.toNat (u.1 4 i.toNat) ∧ g = upI (u.1 8) v.toNat (u.1 5 i.toNat) ∧ lft f g b w)) (fun u' H => va_P D.1 j_cl (mW D o q u') H) A) 0 0 A := by
  refine Met.ofW (cc := cX12_goOn) (maxL := 8) (ret := none) (by decide) rfl ?_
  intro pr en st mi args below meth co s₁ B hml hv
  obtain ⟨rfl, hG, hP⟩ := hv
  have hr := B.returns
  have hlk := B.notSynchronized
  have SS : jS pr mi co cX12_goOn 8 st _ RX12 := ⟨B.exec, B.bytes, hml, findClass_of_methodNamed B.named, fun w hw => atoms_spec (ws := (jw yX12_goOn cX12_goOn 8 none)) B.pre w (List.mem_cons_of_mem _ hw)⟩
  have hl := lv_entry ([.ref o, .int (J i), .int (J b)]) (n := 8) (Nat.le_of_ble_eq_true rfl)
  rw [lg_entry_eq]
  generalize (lg_sl ([.ref o, .int (J i), .int (J b)]) ++ List.replicate (8 - (lg_sl ([.ref o, .int (J i), .int (J b)])).length) Slot.unset).toArray = ls at hl ⊢
  have hl : lv_has ls 8 [(0, .ref o), (1, .int (J i)), (2, .int (J b))] := hl
  have hS : va_S A st.heap st.heap [] := va_S.rf
  refine j_iconst SS dX12_goOn_0 ?_
  refine lv_istore_n (lv' := [(3, .int (J 1)), (0, .ref o), (1, .int (J i)), (2, .int (J b))]) SS.1 SS.2.1 dX12_goOn_1 rfl hl (by decide) rfl (fun ls hl => ?_)
  have L_2 : ∀ (nn : Nat) (t : Int) (h : Int) (H : Heap) (locs : List Loc) (hP : va_P D.1 j_cl (mW D o q (uV u 9 h)) H) (hS : va_S A st.heap H locs) (ls : Array Slot) (hl : lv_has ls 8 [(0, .ref o), (1, .int (J i)), (2, .int (J b)), (3, .int (J t))]) (i2_0 : b ≤ h ∧ h ≤ u.2.2 9 ∧ (b < u.2.2 9 → b < h)) (i2_1 : t = 1 ∨ (t = 0 ∧ (h - b ≤ 1 ∨ 0 < (u.1 7 (h - 1).toNat - u.1 7 (h - 2).toNat) * (u.1 5 i.toNat - u.1 8 (h - 2).toNat) - (u.1 8 (h - 1).toNat - u.1 8 (h - 2).toNat) * (u.1 4 i.toNat - u.1 7 (h - 2).toNat)))), (2 * (h - b) + t).toNat < nn → W pr l en (headSpec (jw yX12_goOn cX12_goOn 8 none) (jr 0 0)).room st mi (([.ref o, .int (J i), .int (J b)] : List Value).toArray) below meth co H locs 0 0 (MQ below (jWv (fun u' => ∃ f : Nat → Int, ∃ g : Nat → Int, ∃ w : Int, ∃ v : Int, u' = (uV (uI (uI u 7 f) 8 g) 9 w) ∧ (w = v + 1 ∧ b ≤ v ∧ v ≤ u.2.2 9 ∧ (b < u.2.2 9 → b < v) ∧ f = upI (u.1 7) v.toNat (u.1 4 i.toNat) ∧ g = upI (u.1 8) v.toNat (u.1 5 i.toNat) ∧ lft f g b w)) (fun u' H => va_P D.1 j_cl (mW D o q u') H) A) (([.ref o, .int (J i), .int (J b)] : List Value).toArray) st 0 0 A) (F0 mi 2 ls []) := by
    intro nn
    induction nn with
    | zero => intros; omega
    | succ nn ih_2 =>
      intro t h H locs hP hS ls hl i2_0 i2_1 hm
      refine lv_iload_n SS.1 SS.2.1 dX12_goOn_2 rfl (lv_at hl 3 rfl) ?_
      refine j_if_eq SS (tgt := 147) (x := t) dX12_goOn_3 (by decide) (by omega) (fun c_3 => ?_) (fun c_3 => ?_)
      · skip
        refine lv_aload_n SS.1 SS.2.1 dX12_goOn_147 rfl (lv_at hl 0 rfl) ?_
        refine j_get SS hG hP 0 (v := .ref (q 7)) (C := RX12) (T := TX12) (N := 31) rfl rfl inX12 7 (by decide) (ref := RX12) kw_1065 rfl rfl dX12_goOn_148 ?_
        refine lv_aload_n SS.1 SS.2.1 dX12_goOn_151 rfl (lv_at hl 0 rfl) ?_
        refine j_get SS hG hP 0 (v := .int (J h)) (C := RX12) (T := TX12) (N := 31) rfl rfl inX12 9 (by decide) (ref := RX12) kw_1067 rfl rfl dX12_goOn_152 ?_
        refine lv_aload_n SS.1 SS.2.1 dX12_goOn_155 rfl (lv_at hl 0 rfl) ?_
        refine j_get SS hG hP 0 (v := .ref (q 4)) (C := RX12) (T := TX12) (N := 31) rfl rfl inX12 4 (by decide) (ref := RX12) kw_1062 rfl rfl dX12_goOn_156 ?_
        refine lv_iload_n SS.1 SS.2.1 dX12_goOn_159 rfl (lv_at hl 1 rfl) ?_
        refine j_iald SS hG hP 5 (n := 640) (f := (u.1 4)) rfl (z := i) (by omega) (by omega) dX12_goOn_160 ?_
        refine j_iast SS hG hP (mW_D hD) hS 7 (n := 1300) (f := (u.1 7)) rfl (z := h) (v := ((u.1 4) (i).toNat)) (by omega) (by omega) dX12_goOn_161 (ws' := (mW D o q (uV (uI u 7 (upI (u.1 7) (h).toNat ((u.1 4) (i).toNat))) 9 h))) rfl (fun H locs hP hS => ?_)
        refine lv_aload_n SS.1 SS.2.1 dX12_goOn_162 rfl (lv_at hl 0 rfl) ?_
        refine j_get SS hG hP 0 (v := .ref (q 8)) (C := RX12) (T := TX12) (N := 31) rfl rfl inX12 8 (by decide) (ref := RX12) kw_1066 rfl rfl dX12_goOn_163 ?_
        refine lv_aload_n SS.1 SS.2.1 dX12_goOn_166 rfl (lv_at hl 0 rfl) ?_
        refine j_get SS hG hP 0 (v := .int (J h)) (C := RX12) (T := TX12) (N := 31) rfl rfl inX12 9 (by decide) (ref := RX12) kw_1067 rfl rfl dX12_goOn_167 ?_
        refine lv_aload_n SS.1 SS.2.1 dX12_goOn_170 rfl (lv_at hl 0 rfl) ?_
        refine j_get SS hG hP 0 (v := .ref (q 5)) (C := RX12) (T := TX12) (N := 31) rfl rfl inX12 5 (by decide) (ref := RX12) kw_1063 rfl rfl dX12_goOn_171 ?_
        refine lv_iload_n SS.1 SS.2.1 dX12_goOn_174 rfl (lv_at hl 1 rfl) ?_
        refine j_iald SS hG hP 6 (n := 640) (f := (u.1 5)) rfl (z := i) (by omega) (by omega) dX12_goOn_175 ?_
        refine j_iast SS hG hP (mW_D hD) hS 8 (n := 1300) (f := (u.1 8)) rfl (z := h) (v := ((u.1 5) (i).toNat)) (by omega) (by omega) dX12_goOn_176 (ws' := (mW D o q (uV (uI (uI u 7 (upI (u.1 7) (h).toNat ((u.1 4) (i).toNat))) 8 (upI (u.1 8) (h).toNat ((u.1 5) (i).toNat))) 9 h))) rfl (fun H locs hP hS => ?_)
        refine lv_aload_n SS.1 SS.2.1 dX12_goOn_177 rfl (lv_at hl 0 rfl) ?_
        refine lv_dup SS.1 SS.2.1 dX12_goOn_178 rfl ?_
        refine j_get SS hG hP 0 (v := .int (J h)) (C := RX12) (T := TX12) (N := 31) rfl rfl inX12 9 (by decide) (ref := RX12) kw_1067 rfl rfl dX12_goOn_179 ?_
        refine j_iconst SS dX12_goOn_182 ?_
        refine j_iadd SS (x := h) (y := 1) dX12_goOn_183 ?_
        refine j_put SS hG hP (mW_D hD) hS 0 (v := .int (J (h + 1))) (ty := .int) (C := RX12) (T := TX12) (N := 31) rfl rfl inX12 tyX12 tyX12_ok nmX12 9 (by decide) (ref := RX12) kw_1067 rfl rfl (by decide +kernel) rfl rfl (Nat.le_of_ble_eq_true rfl) dX12_goOn_184 (ws' := (mW D o q (uV (uI (uI u 7 (upI (u.1 7) (h).toNat ((u.1 4) (i).toNat))) 8 (upI (u.1 8) (h).toNat ((u.1 5) (i).toNat))) 9 (h + 1)))) rfl (fun H locs hP hS => ?_)
        exact W.vret SS.1 SS.2.1 hr (fun t ht hW => ⟨⟨(uV (uI (uI u 7 (upI (u.1 7) (h).toNat ((u.1 4) (i).toNat))) 8 (upI (u.1 8) (h).toNat ((u.1 5) (i).toNat))) 9 (h + 1)), rfl, (⟨(upI (u.1 7) (h).toNat ((u.1 4) (i).toNat)), (upI (u.1 8) (h).toNat ((u.1 5) (i).toNat)), (h + 1), h, rfl, ⟨rfl, by omega, by omega, by omega, rfl, rfl, lft_put (by omega) (by omega) (lft_le p5 (by omega)) (by first | (rcases i2_1 with h | h; omega; exact h.2) | exact Or.inl (by omega))⟩⟩), by show va_P D.1 j_cl (mW D o q (uV (uI (uI u 7 (upI (u.1 7) (h).toNat ((u.1 4) (i).toNat))) 8 (upI (u.1 8) (h).toNat ((u.1 5) (i).toNat))) 9 (h + 1))) t.heap; rw [ht]; exact hP⟩, hS.F ht⟩) hS.2.2 dX12_goOn_187 hlk
      · skip
        refine lv_aload_n SS.1 SS.2.1 dX12_goOn_6 rfl (lv_at hl 0 rfl) ?_
        refine j_get SS hG hP 0 (v := .int (J h)) (C := RX12) (T := TX12) (N := 31) rfl rfl inX12 9 (by decide) (ref := RX12) kw_1067 rfl rfl dX12_goOn_7 ?_
        refine lv_iload_n SS.1 SS.2.1 dX12_goOn_10 rfl (lv_at hl 2 rfl) ?_
        refine j_isub SS (x := h) (y := b) dX12_goOn_11 ?_
        refine j_iconst SS dX12_goOn_12 ?_
        try have hh : b ≤ h ∧ h ≤ u.2.2 9 := ⟨i2_0.1, i2_0.2.1⟩
        refine j_icmp_le SS (tgt := 147) (x := (h - b)) (y := 1) dX12_goOn_13 (by decide) (by omega) (by decide) (fun c_13 => ?_) (fun c_13 => ?_)
        · skip
          refine lv_aload_n SS.1 SS.2.1 dX12_goOn_147 rfl (lv_at hl 0 rfl) ?_
          refine j_get SS hG hP 0 (v := .ref (q 7)) (C := RX12) (T := TX12) (N := 31) rfl rfl inX12 7 (by decide) (ref := RX12) kw_1065 rfl rfl dX12_goOn_148 ?_
          refine lv_aload_n SS.1 SS.2.1 dX12_goOn_151 rfl (lv_at hl 0 rfl) ?_
          refine j_get SS hG hP 0 (v := .int (J h)) (C := RX12) (T := TX12) (N := 31) rfl rfl inX12 9 (by decide) (ref := RX12) kw_1067 rfl rfl dX12_goOn_152 ?_
          refine lv_aload_n SS.1 SS.2.1 dX12_goOn_155 rfl (lv_at hl 0 rfl) ?_
          refine j_get SS hG hP 0 (v := .ref (q 4)) (C := RX12) (T := TX12) (N := 31) rfl rfl inX12 4 (by decide) (ref := RX12) kw_1062 rfl rfl dX12_goOn_156 ?_
          refine lv_iload_n SS.1 SS.2.1 dX12_goOn_159 rfl (lv_at hl 1 rfl) ?_
          refine j_iald SS hG hP 5 (n := 640) (f := (u.1 4)) rfl (z := i) (by omega) (by omega) dX12_goOn_160 ?_
          refine j_iast SS hG hP (mW_D hD) hS 7 (n := 1300) (f := (u.1 7)) rfl (z := h) (v := ((u.1 4) (i).toNat)) (by omega) (by omega) dX12_goOn_161 (ws' := (mW D o q (uV (uI u 7 (upI (u.1 7) (h).toNat ((u.1 4) (i).toNat))) 9 h))) rfl (fun H locs hP hS => ?_)
          refine lv_aload_n SS.1 SS.2.1 dX12_goOn_162 rfl (lv_at hl 0 rfl) ?_
          refine j_get SS hG hP 0 (v := .ref (q 8)) (C := RX12) (T := TX12) (N := 31) rfl rfl inX12 8 (by decide) (ref := RX12) kw_1066 rfl rfl dX12_goOn_163 ?_
          refine lv_aload_n SS.1 SS.2.1 dX12_goOn_166 rfl (lv_at hl 0 rfl) ?_
          refine j_get SS hG hP 0 (v := .int (J h)) (C := RX12) (T := TX12) (N := 31) rfl rfl inX12 9 (by decide) (ref := RX12) kw_1067 rfl rfl dX12_goOn_167 ?_
          refine lv_aload_n SS.1 SS.2.1 dX12_goOn_170 rfl (lv_at hl 0 rfl) ?_
          refine j_get SS hG hP 0 (v := .ref (q 5)) (C := RX12) (T := TX12) (N := 31) rfl rfl inX12 5 (by decide) (ref := RX12) kw_1063 rfl rfl dX12_goOn_171 ?_
          refine lv_iload_n SS.1 SS.2.1 dX12_goOn_174 rfl (lv_at hl 1 rfl) ?_
          refine j_iald SS hG hP 6 (n := 640) (f := (u.1 5)) rfl (z := i) (by omega) (by omega) dX12_goOn_175 ?_
          refine j_iast SS hG hP (mW_D hD) hS 8 (n := 1300) (f := (u.1 8)) rfl (z := h) (v := ((u.1 5) (i).toNat)) (by omega) (by omega) dX12_goOn_176 (ws' := (mW D o q (uV (uI (uI u 7 (upI (u.1 7) (h).toNat ((u.1 4) (i).toNat))) 8 (upI (u.1 8) (h).toNat ((u.1 5) (i).toNat))) 9 h))) rfl (fun H locs hP hS => ?_)
          refine lv_aload_n SS.1 SS.2.1 dX12_goOn_177 rfl (lv_at hl 0 rfl) ?_
          refine lv_dup SS.1 SS.2.1 dX12_goOn_178 rfl ?_
          refine j_get SS hG hP 0 (v := .int (J h)) (C := RX12) (T := TX12) (N := 31) rfl rfl inX12 9 (by decide) (ref := RX12) kw_1067 rfl rfl dX12_goOn_179 ?_
          refine j_iconst SS dX12_goOn_182 ?_
          refine j_iadd SS (x := h) (y := 1) dX12_goOn_183 ?_
          refine j_put SS hG hP (mW_D hD) hS 0 (v := .int (J (h + 1))) (ty := .int) (C := RX12) (T := TX12) (N := 31) rfl rfl inX12 tyX12 tyX12_ok nmX12 9 (by decide) (ref := RX12) kw_1067 rfl rfl (by decide +kernel) rfl rfl (Nat.le_of_ble_eq_true rfl) dX12_goOn_184 (ws' := (mW D o q (uV (uI (uI u 7 (upI (u.1 7) (h).toNat ((u.1 4) (i).toNat))) 8 (upI (u.1 8) (h).toNat ((u.1 5) (i).toNat))) 9 (h + 1)))) rfl (fun H locs hP hS => ?_)
          exact W.vret SS.1 SS.2.1 hr (fun t ht hW => ⟨⟨(uV (uI (uI u 7 (upI (u.1 7) (h).toNat ((u.1 4) (i).toNat))) 8 (upI (u.1 8) (h).toNat ((u.1 5) (i).toNat))) 9 (h + 1)), rfl, (⟨(upI (u.1 7) (h).toNat ((u.1 4) (i).toNat)), (upI (u.1 8) (h).toNat ((u.1 5) (i).toNat)), (h + 1), h, rfl, ⟨rfl, by omega, by omega, by omega, rfl, rfl, lft_put (by omega) (by omega) (lft_le p5 (by omega)) (by first | (rcases i2_1 with h | h; omega; exact h.2) | exact Or.inl (by omega))⟩⟩), by show va_P D.1 j_cl (mW D o q (uV (uI (uI u 7 (upI (u.1 7) (h).toNat ((u.1 4) (i).toNat))) 8 (upI (u.1 8) (h).toNat ((u.1 5) (i).toNat))) 9 (h + 1))) t.heap; rw [ht]; exact hP⟩, hS.F ht⟩) hS.2.2 dX12_goOn_187 hlk
        · skip
          have q1 := bd_at p4 (z := h - 1) (by omega) (by omega)
          have q2 := bd_at p4 (z := h - 2) (by omega) (by omega)
          refine lv_aload_n SS.1 SS.2.1 dX12_goOn_16 rfl (lv_at hl 0 rfl) ?_
          refine j_get SS hG hP 0 (v := .ref (q 7)) (C := RX12) (T := TX12) (N := 31) rfl rfl inX12 7 (by decide) (ref := RX12) kw_1065 rfl rfl dX12_goOn_17 ?_
          refine lv_aload_n SS.1 SS.2.1 dX12_goOn_20 rfl (lv_at hl 0 rfl) ?_
          refine j_get SS hG hP 0 (v := .int (J h)) (C := RX12) (T := TX12) (N := 31) rfl rfl inX12 9 (by decide) (ref := RX12) kw_1067 rfl rfl dX12_goOn_21 ?_
          refine j_iconst SS dX12_goOn_24 ?_
          refine j_isub SS (x := h) (y := 1) dX12_goOn_25 ?_
          refine j_iald SS hG hP 7 (n := 1300) (f := (u.1 7)) rfl (z := (h - 1)) (by omega) (by omega) dX12_goOn_26 ?_
          refine lv_aload_n SS.1 SS.2.1 dX12_goOn_27 rfl (lv_at hl 0 rfl) ?_
          refine j_get SS hG hP 0 (v := .ref (q 7)) (C := RX12) (T := TX12) (N := 31) rfl rfl inX12 7 (by decide) (ref := RX12) kw_1065 rfl rfl dX12_goOn_28 ?_
          refine lv_aload_n SS.1 SS.2.1 dX12_goOn_31 rfl (lv_at hl 0 rfl) ?_
          refine j_get SS hG hP 0 (v := .int (J h)) (C := RX12) (T := TX12) (N := 31) rfl rfl inX12 9 (by decide) (ref := RX12) kw_1067 rfl rfl dX12_goOn_32 ?_
          refine j_iconst SS dX12_goOn_35 ?_
          refine j_isub SS (x := h) (y := 2) dX12_goOn_36 ?_
          refine j_iald SS hG hP 7 (n := 1300) (f := (u.1 7)) rfl (z := (h - 2)) (by omega) (by omega) dX12_goOn_37 ?_
          refine j_isub SS (x := ((u.1 7) ((h - 1)).toNat)) (y := ((u.1 7) ((h - 2)).toNat)) dX12_goOn_38 ?_
          obtain ⟨ax, eax⟩ : ∃ z : Int, z = (((u.1 7) ((h - 1)).toNat) - ((u.1 7) ((h - 2)).toNat)) := ⟨_, rfl⟩
          rw [← eax]
          refine lv_istore (lv' := [(4, .int (J ax)), (0, .ref o), (1, .int (J i)), (2, .int (J b)), (3, .int (J t))]) SS.1 SS.2.1 dX12_goOn_39 hl (by decide) rfl (fun ls hl => ?_)
          refine lv_aload_n SS.1 SS.2.1 dX12_goOn_41 rfl (lv_at hl 1 rfl) ?_
          refine j_get SS hG hP 0 (v := .ref (q 8)) (C := RX12) (T := TX12) (N := 31) rfl rfl inX12 8 (by decide) (ref := RX12) kw_1066 rfl rfl dX12_goOn_42 ?_
          refine lv_aload_n SS.1 SS.2.1 dX12_goOn_45 rfl (lv_at hl 1 rfl) ?_
          refine j_get SS hG hP 0 (v := .int (J h)) (C := RX12) (T := TX12) (N := 31) rfl rfl inX12 9 (by decide) (ref := RX12) kw_1067 rfl rfl dX12_goOn_46 ?_
          refine j_iconst SS dX12_goOn_49 ?_
          refine j_isub SS (x := h) (y := 1) dX12_goOn_50 ?_
          refine j_iald SS hG hP 8 (n := 1300) (f := (u.1 8)) rfl (z := (h - 1)) (by omega) (by omega) dX12_goOn_51 ?_
          refine lv_aload_n SS.1 SS.2.1 dX12_goOn_52 rfl (lv_at hl 1 rfl) ?_
          refine j_get SS hG hP 0 (v := .ref (q 8)) (C := RX12) (T := TX12) (N := 31) rfl rfl inX12 8 (by decide) (ref := RX12) kw_1066 rfl rfl dX12_goOn_53 ?_
          refine lv_aload_n SS.1 SS.2.1 dX12_goOn_56 rfl (lv_at hl 1 rfl) ?_
          refine j_get SS hG hP 0 (v := .int (J h)) (C := RX12) (T := TX12) (N := 31) rfl rfl inX12 9 (by decide) (ref := RX12) kw_1067 rfl rfl dX12_goOn_57 ?_
          refine j_iconst SS dX12_goOn_60 ?_
          refine j_isub SS (x := h) (y := 2) dX12_goOn_61 ?_
          refine j_iald SS hG hP 8 (n := 1300) (f := (u.1 8)) rfl (z := (h - 2)) (by omega) (by omega) dX12_goOn_62 ?_
          refine j_isub SS (x := ((u.1 8) ((h - 1)).toNat)) (y := ((u.1 8) ((h - 2)).toNat)) dX12_goOn_63 ?_
          obtain ⟨ay, eay⟩ : ∃ z : Int, z = (((u.1 8) ((h - 1)).toNat) - ((u.1 8) ((h - 2)).toNat)) := ⟨_, rfl⟩
          rw [← eay]
          refine lv_istore (lv' := [(5, .int (J ay)), (4, .int (J ax)), (0, .ref o), (1, .int (J i)), (2, .int (J b)), (3, .int (J t))]) SS.1 SS.2.1 dX12_goOn_64 hl (by decide) rfl (fun ls hl => ?_)
          refine lv_aload_n SS.1 SS.2.1 dX12_goOn_66 rfl (lv_at hl 2 rfl) ?_
          refine j_get SS hG hP 0 (v := .ref (q 4)) (C := RX12) (T := TX12) (N := 31) rfl rfl inX12 4 (by decide) (ref := RX12) kw_1062 rfl rfl dX12_goOn_67 ?_
          refine lv_iload_n SS.1 SS.2.1 dX12_goOn_70 rfl (lv_at hl 3 rfl) ?_
          refine j_iald SS hG hP 5 (n := 640) (f := (u.1 4)) rfl (z := i) (by omega) (by omega) dX12_goOn_71 ?_
          refine lv_aload_n SS.1 SS.2.1 dX12_goOn_72 rfl (lv_at hl 2 rfl) ?_
          refine j_get SS hG hP 0 (v := .ref (q 7)) (C := RX12) (T := TX12) (N := 31) rfl rfl inX12 7 (by decide) (ref := RX12) kw_1065 rfl rfl dX12_goOn_73 ?_
          refine lv_aload_n SS.1 SS.2.1 dX12_goOn_76 rfl (lv_at hl 2 rfl) ?_
          refine j_get SS hG hP 0 (v := .int (J h)) (C := RX12) (T := TX12) (N := 31) rfl rfl inX12 9 (by decide) (ref := RX12) kw_1067 rfl rfl dX12_goOn_77 ?_
          refine j_iconst SS dX12_goOn_80 ?_
          refine j_isub SS (x := h) (y := 2) dX12_goOn_81 ?_
          refine j_iald SS hG hP 7 (n := 1300) (f := (u.1 7)) rfl (z := (h - 2)) (by omega) (by omega) dX12_goOn_82 ?_
          refine j_isub SS (x := ((u.1 4) (i).toNat)) (y := ((u.1 7) ((h - 2)).toNat)) dX12_goOn_83 ?_
          obtain ⟨bx, ebx⟩ : ∃ z : Int, z = (((u.1 4) (i).toNat) - ((u.1 7) ((h - 2)).toNat)) := ⟨_, rfl⟩
          rw [← ebx]
          refine lv_istore (lv' := [(6, .int (J bx)), (5, .int (J ay)), (4, .int (J ax)), (0, .ref o), (1, .int (J i)), (2, .int (J b)), (3, .int (J t))]) SS.1 SS.2.1 dX12_goOn_84 hl (by decide) rfl (fun ls hl => ?_)
          refine lv_aload_n SS.1 SS.2.1 dX12_goOn_86 rfl (lv_at hl 3 rfl) ?_
          refine j_get SS hG hP 0 (v := .ref (q 5)) (C := RX12) (T := TX12) (N := 31) rfl rfl inX12 5 (by decide) (ref := RX12) kw_1063 rfl rfl dX12_goOn_87 ?_
          refine lv_iload_n SS.1 SS.2.1 dX12_goOn_90 rfl (lv_at hl 4 rfl) ?_
          refine j_iald SS hG hP 6 (n := 640) (f := (u.1 5)) rfl (z := i) (by omega) (by omega) dX12_goOn_91 ?_
          refine lv_aload_n SS.1 SS.2.1 dX12_goOn_92 rfl (lv_at hl 3 rfl) ?_
          refine j_get SS hG hP 0 (v := .ref (q 8)) (C := RX12) (T := TX12) (N := 31) rfl rfl inX12 8 (by decide) (ref := RX12) kw_1066 rfl rfl dX12_goOn_93 ?_
          refine lv_aload_n SS.1 SS.2.1 dX12_goOn_96 rfl (lv_at hl 3 rfl) ?_
          refine j_get SS hG hP 0 (v := .int (J h)) (C := RX12) (T := TX12) (N := 31) rfl rfl inX12 9 (by decide) (ref := RX12) kw_1067 rfl rfl dX12_goOn_97 ?_
          refine j_iconst SS dX12_goOn_100 ?_
          refine j_isub SS (x := h) (y := 2) dX12_goOn_101 ?_
          refine j_iald SS hG hP 8 (n := 1300) (f := (u.1 8)) rfl (z := (h - 2)) (by omega) (by omega) dX12_goOn_102 ?_
          refine j_isub SS (x := ((u.1 5) (i).toNat)) (y := ((u.1 8) ((h - 2)).toNat)) dX12_goOn_103 ?_
          obtain ⟨by4, eby4⟩ : ∃ z : Int, z = (((u.1 5) (i).toNat) - ((u.1 8) ((h - 2)).toNat)) := ⟨_, rfl⟩
          rw [← eby4]
          refine lv_istore (lv' := [(7, .int (J by4)), (6, .int (J bx)), (5, .int (J ay)), (4, .int (J ax)), (0, .ref o), (1, .int (J i)), (2, .int (J b)), (3, .int (J t))]) SS.1 SS.2.1 dX12_goOn_104 hl (by decide) rfl (fun ls hl => ?_)
          refine lv_iload SS.1 SS.2.1 dX12_goOn_106 (lv_at hl 3 rfl) ?_
          refine lv_iload SS.1 SS.2.1 dX12_goOn_108 (lv_at hl 0 rfl) ?_
          refine j_imul SS (x := ax) (y := by4) dX12_goOn_110 ?_
          refine lv_iload SS.1 SS.2.1 dX12_goOn_111 (lv_at hl 2 rfl) ?_
          refine lv_iload SS.1 SS.2.1 dX12_goOn_113 (lv_at hl 1 rfl) ?_
          refine j_imul SS (x := ay) (y := bx) dX12_goOn_115 ?_
          refine j_isub SS (x := (ax * by4)) (y := (ay * bx)) dX12_goOn_116 ?_
          have m1 := mulb (A := 20000) (B := 20000) (a := ax) (b := by4) (by omega) (by omega)
          have m2 := mulb (A := 20000) (B := 20000) (a := ay) (b := bx) (by omega) (by omega)
          refine j_if_gt SS (tgt := 124) (x := ((ax * by4) - (ay * bx))) dX12_goOn_117 (by decide) (by omega) (fun c_117 => ?_) (fun c_117 => ?_)
          · skip
            refine j_iconst SS dX12_goOn_124 ?_
            refine lv_istore_n (lv' := [(3, .int (J 0)), (7, .int (J by4)), (6, .int (J bx)), (5, .int (J ay)), (4, .int (J ax)), (0, .ref o), (1, .int (J i)), (2, .int (J b))]) SS.1 SS.2.1 dX12_goOn_125 rfl hl (by decide) rfl (fun ls hl => ?_)
            refine lv_aload_n SS.1 SS.2.1 dX12_goOn_126 rfl (lv_at hl 5 rfl) ?_
            refine lv_dup SS.1 SS.2.1 dX12_goOn_127 rfl ?_
            refine j_get SS hG hP 0 (v := .int (J h)) (C := RX12) (T := TX12) (N := 31) rfl rfl inX12 9 (by decide) (ref := RX12) kw_1067 rfl rfl dX12_goOn_128 ?_
            refine lv_iload_n SS.1 SS.2.1 dX12_goOn_131 rfl (lv_at hl 0 rfl) ?_
            refine j_if_eq SS (tgt := 139) dX12_goOn_132 (by decide) (by decide) (fun c_132 => ?_) (fun c_132 => absurd c_132 (by decide))
            refine j_iconst SS dX12_goOn_139 ?_
            refine j_isub SS (x := h) (y := 0) dX12_goOn_140 ?_
            refine j_put SS hG hP (mW_D hD) hS 0 (v := .int (J (h - 0))) (ty := .int) (C := RX12) (T := TX12) (N := 31) rfl rfl inX12 tyX12 tyX12_ok nmX12 9 (by decide) (ref := RX12) kw_1067 rfl rfl (by decide +kernel) rfl rfl (Nat.le_of_ble_eq_true rfl) dX12_goOn_141 (ws' := (mW D o q (uV u 9 (h - 0)))) rfl (fun H locs hP hS => ?_)
            refine lv_goto (tgt := 2) SS.1 SS.2.1 dX12_goOn_144 (by decide) ?_
            exact ih_2 0 (h - 0) _ _ hP hS ls (lv_sub hl [5, 6, 7, 0] rfl) (by omega) (by first | exact Or.inl rfl | exact Or.inr ⟨rfl, Or.inr (by rw [eax, eay, ebx, eby4] at c_117; rw [show h - 0 = h by omega]; exact c_117)⟩) (by omega)
          · skip
            refine j_iconst SS dX12_goOn_120 ?_
            refine lv_goto (tgt := 125) SS.1 SS.2.1 dX12_goOn_121 (by decide) ?_
            refine lv_istore_n (lv' := [(3, .int (J 1)), (7, .int (J by4)), (6, .int (J bx)), (5, .int (J ay)), (4, .int (J ax)), (0, .ref o), (1, .int (J i)), (2, .int (J b))]) SS.1 SS.2.1 dX12_goOn_125 rfl hl (by decide) rfl (fun ls hl => ?_)
            refine lv_aload_n SS.1 SS.2.1 dX12_goOn_126 rfl (lv_at hl 5 rfl) ?_
            refine lv_dup SS.1 SS.2.1 dX12_goOn_127 rfl ?_
            refine j_get SS hG hP 0 (v := .int (J h)) (C := RX12) (T := TX12) (N := 31) rfl rfl inX12 9 (by decide) (ref := RX12) kw_1067 rfl rfl dX12_goOn_128 ?_
            refine lv_iload_n SS.1 SS.2.1 dX12_goOn_131 rfl (lv_at hl 0 rfl) ?_
            refine j_if_eq SS (tgt := 139) dX12_goOn_132 (by decide) (by decide) (fun c_132 => absurd c_132 (by decide)) (fun c_132 => ?_)
            refine j_iconst SS dX12_goOn_135 ?_
            refine lv_goto (tgt := 140) SS.1 SS.2.1 dX12_goOn_136 (by decide) ?_
            refine j_isub SS (x := h) (y := 1) dX12_goOn_140 ?_
            refine j_put SS hG hP (mW_D hD) hS 0 (v := .int (J (h - 1))) (ty := .int) (C := RX12) (T := TX12) (N := 31) rfl rfl inX12 tyX12 tyX12_ok nmX12 9 (by decide) (ref := RX12) kw_1067 rfl rfl (by decide +kernel) rfl rfl (Nat.le_of_ble_eq_true rfl) dX12_goOn_141 (ws' := (mW D o q (uV u 9 (h - 1)))) rfl (fun H locs hP hS => ?_)
            refine lv_goto (tgt := 2) SS.1 SS.2.1 dX12_goOn_144 (by decide) ?_
            exact ih_2 1 (h - 1) _ _ hP hS ls (lv_sub hl [5, 6, 7, 0] rfl) (by omega) (by first | exact Or.inl rfl | exact Or.inr ⟨rfl, Or.inr (by rw [eax, eay, ebx, eby4] at c_117; rw [show h - 0 = h by omega]; exact c_117)⟩) (by omega)
  exact L_2 ((2 * ((u.2.2 9) - b) + (1 : Int)).toNat + 1) 1 (u.2.2 9) _ _ hP hS ls (lv_sub hl [1, 2, 3, 0] rfl) (by omega) (Or.inl rfl) (Nat.lt_succ_self _)

/-- the hull as found: closed (the place n holds the first point again), lower chain to t, upper chain from t on -/
def Ch (n : Int) (X Y : Nat → Int) : Prop := n ≤ 1 ∨ ∃ t : Nat, 1 ≤ t ∧ (t : Int) < n ∧ (∀ a : Nat, a < t → lt2 (X a) (Y a) (X (a + 1)) (Y (a + 1))) ∧ lft X Y 0 ((t : Int) + 1) ∧ (∀ a : Nat, t ≤ a → (a : Int) < n → lt2 (X (a + 1)) (Y (a + 1)) (X a) (Y a)) ∧ lft X Y t (n + 1) ∧ X n.toNat = X 0 ∧ Y n.toNat = Y 0
theorem lt2_t {a b c d e f : Int} (h : lt2 a b c d) (h2 : lt2 c d e f) : lt2 a b e f := by unfold lt2 at *; omega
theorem os_lt {f g : Nat → Int} {n : Int} (h : os_s f g n) : ∀ (k a : Nat), (a : Int) + k + 1 < n → lt2 (f a) (g a) (f (a + k + 1)) (g (a + k + 1)) := by
  intro k
  induction k with
  | zero => intro a ha; exact h a (by omega)
  | succ k ih => intro a ha; exact lt2_t (ih a (by omega)) (h (a + k + 1) (by omega))
/-- the lower chain on its way: h points of the first i -/
def fl (f g X Y : Nat → Int) (i h : Int) : Prop := 0 ≤ h ∧ h ≤ i ∧ (0 < i → 0 < h ∧ X 0 = f 0 ∧ Y 0 = g 0 ∧ X (h - 1).toNat = f (i - 1).toNat ∧ Y (h - 1).toNat = g (i - 1).toNat) ∧ (1 < i → 1 < h) ∧ lft X Y 0 h ∧ os_s X Y h ∧ ∀ K : Int, bd K f g i → bd K X Y h
theorem fl_0 {f g X Y : Nat → Int} : fl f g X Y 0 0 := ⟨by omega, by omega, by omega, by omega, fun a _ h => by omega, fun a h => by omega, fun K _ a h => by omega⟩
theorem fl_s {f g X Y : Nat → Int} {i h v n : Int} (hs : os_s f g n) (hi : 0 ≤ i) (hn : i < n) (H : fl f g X Y i h) (h1 : 0 ≤ v) (h2 : v ≤ h) (h3 : 0 < h → 0 < v) (hl : lft (upI X v.toNat (f i.toNat)) (upI Y v.toNat (g i.toNat)) 0 (v + 1)) : fl f g (upI X v.toNat (f i.toNat)) (upI Y v.toNat (g i.toNat)) (i + 1) (v + 1) := by
  obtain ⟨a1, a2, a3, a4, a5, a6, a7⟩ := H
  refine ⟨by omega, by omega, fun _ => ?_, fun hi2 => ?_, hl, fun a ha => ?_, fun K hK => ?_⟩
  · rw [show v + 1 - 1 = v by omega, show i + 1 - 1 = i by omega, upI_s, upI_s]
    refine ⟨by omega, ?_, ?_, rfl, rfl⟩
    · by_cases e : v = 0
      · subst e; rw [show (0 : Int).toNat = 0 from rfl, upI_s]; rw [show i = 0 by omega]; rfl
      · rw [upI_n (by omega)]; exact (a3 (by omega)).2.1
    · by_cases e : v = 0
      · subst e; rw [show (0 : Int).toNat = 0 from rfl, upI_s]; rw [show i = 0 by omega]; rfl
      · rw [upI_n (by omega)]; exact (a3 (by omega)).2.2.1
  · have := a3 (by omega); omega
  · by_cases e : (a : Int) + 1 = v
    · rw [show a + 1 = v.toNat by omega, upI_s, upI_s, upI_n (by omega), upI_n (by omega)]
      have hi1 : 0 < i := by omega
      obtain ⟨_, _, _, e1, e2⟩ := a3 hi1
      have hlast : lt2 (f (i - 1).toNat) (g (i - 1).toNat) (f i.toNat) (g i.toNat) := by
        have := hs (i - 1).toNat (by omega)
        rw [show (i - 1).toNat + 1 = i.toNat by omega] at this; exact this
      by_cases e3 : v = h
      · rw [show a = (h - 1).toNat by omega, e1, e2]; exact hlast
      · have := os_lt a6 ((h - 1).toNat - a - 1) a (by omega)
        rw [show a + ((h - 1).toNat - a - 1) + 1 = (h - 1).toNat by omega, e1, e2] at this
        exact lt2_t this hlast
    · rw [upI_n (by omega), upI_n (by omega), upI_n (by omega), upI_n (by omega)]
      exact a6 a (by omega)
  · have hk := hK i.toNat (by omega)
    exact bd_put h1 (bd_le (a7 K (bd_le hK (by omega))) h2) hk.1 hk.2
/-- the upper chain on its way, from the place t on; the point i comes next -/
def fu (f g FX FY X Y : Nat → Int) (t w i h : Int) : Prop := t + 1 ≤ h ∧ h ≤ t + w - i - 1 ∧ (i + 2 < w → t + 2 ≤ h) ∧ (∀ a : Nat, (a : Int) ≤ t → X a = FX a ∧ Y a = FY a) ∧ (X (h - 1).toNat = f (i + 1).toNat ∧ Y (h - 1).toNat = g (i + 1).toNat) ∧ lft X Y t h ∧ (∀ a : Nat, t ≤ a → (a : Int) + 1 < h → lt2 (X (a + 1)) (Y (a + 1)) (X a) (Y a)) ∧ ∀ K : Int, bd K f g w → bd K X Y h
theorem dec_lt {X Y : Nat → Int} {t h : Int} (H : ∀ a : Nat, t ≤ a → (a : Int) + 1 < h → lt2 (X (a + 1)) (Y (a + 1)) (X a) (Y a)) : ∀ (k a : Nat), t ≤ a → (a : Int) + k + 1 < h → lt2 (X (a + k + 1)) (Y (a + k + 1)) (X a) (Y a) := by
  intro k
  induction k with
  | zero => intro a ha hh; exact H a ha (by omega)
  | succ k ih => intro a ha hh; exact lt2_t (H (a + k + 1) (by omega) (by omega)) (ih a ha (by omega))
theorem fu_0 {f g FX FY : Nat → Int} {w h : Int} (hw : 1 ≤ w) (H : fl f g FX FY w h) : fu f g FX FY FX FY (h - 1) w (w - 2) h := by
  obtain ⟨a1, a2, a3, a4, a5, a6, a7⟩ := H
  obtain ⟨b1, b2, b3, b4, b5⟩ := a3 (by omega)
  refine ⟨by omega, by omega, by omega, fun a _ => ⟨rfl, rfl⟩, ⟨?_, ?_⟩, fun a h1 h2 => by omega, fun a h1 h2 => by omega, a7⟩
  · rw [show w - 2 + 1 = w - 1 by omega]; exact b4
  · rw [show w - 2 + 1 = w - 1 by omega]; exact b5
theorem fu_s {f g FX FY X Y : Nat → Int} {t w i h v : Int} (ht : 0 ≤ t) (hs : os_s f g w) (hi : 0 ≤ i) (hw : i + 1 < w) (H : fu f g FX FY X Y t w i h) (h1 : t ≤ v) (h2 : v ≤ h) (h3 : t < v) (hl : lft (upI X v.toNat (f i.toNat)) (upI Y v.toNat (g i.toNat)) t (v + 1)) : fu f g FX FY (upI X v.toNat (f i.toNat)) (upI Y v.toNat (g i.toNat)) t w (i + -1) (v + 1) := by
  obtain ⟨a1, a2, a3, a4, ⟨a5, a6⟩, a7, a8, a9⟩ := H
  refine ⟨by omega, by omega, by omega, fun a ha => ?_, ⟨?_, ?_⟩, hl, fun a ha hh => ?_, fun K hK => ?_⟩
  · rw [upI_n (by omega), upI_n (by omega)]; exact a4 a ha
  · rw [show v + 1 - 1 = v by omega, show i + -1 + 1 = i by omega, upI_s]
  · rw [show v + 1 - 1 = v by omega, show i + -1 + 1 = i by omega, upI_s]
  · by_cases e : (a : Int) + 1 = v
    · rw [show a + 1 = v.toNat by omega, upI_s, upI_s, upI_n (by omega), upI_n (by omega)]
      have hlast : lt2 (f i.toNat) (g i.toNat) (f (i + 1).toNat) (g (i + 1).toNat) := by
        have := hs i.toNat (by omega)
        rw [show i.toNat + 1 = (i + 1).toNat by omega] at this; exact this
      by_cases e3 : v = h
      · rw [show a = (h - 1).toNat by omega, a5, a6]; exact hlast
      · have := dec_lt a8 ((h - 1).toNat - a - 1) a ha (by omega)
        rw [show a + ((h - 1).toNat - a - 1) + 1 = (h - 1).toNat by omega, a5, a6] at this
        exact lt2_t hlast this
    · rw [upI_n (by omega), upI_n (by omega), upI_n (by omega), upI_n (by omega)]
      exact a8 a ha (by omega)
  · have hk := hK i.toNat (by omega)
    exact bd_put (by omega) (bd_le (a9 K hK) h2) hk.1 hk.2
theorem lft_cong {X Y X' Y' : Nat → Int} {b n : Int} (h : lft X Y b n) (e : ∀ a : Nat, (a : Int) < n → X' a = X a ∧ Y' a = Y a) : lft X' Y' b n := fun a h1 h2 => by
  rw [tn_cong (e a (by omega)).1 (e (a + 1) (by omega)).1 (e (a + 2) (by omega)).1 (e a (by omega)).2 (e (a + 1) (by omega)).2 (e (a + 2) (by omega)).2]
  exact h a h1 h2
theorem fu_e {f g FX FY X Y : Nat → Int} {w h0 i h : Int} (hw : 1 < w) (H0 : fl f g FX FY w h0) (hi : i = -1) (H : fu f g FX FY X Y (h0 - 1) w i h) : Ch (h - 1) X Y := by
  obtain ⟨a1, a2, a3, a4, ⟨a5, a6⟩, a7, a8, a9⟩ := H
  obtain ⟨b1, b2, b3, b4, b5, b6, b7⟩ := H0
  have b4 := b4 hw
  obtain ⟨c1, c2, c3, c4, c5⟩ := b3 (by omega)
  have a3 := a3 (by omega)
  have e0 : ∀ a : Nat, (a : Int) < h0 → X a = FX a ∧ Y a = FY a := fun a ha => a4 a (by omega)
  subst hi
  refine Or.inr ⟨(h0 - 1).toNat, by omega, by omega, fun a ha => ?_, ?_, fun a h1 h2 => a8 a (by omega) (by omega), ?_, ?_, ?_⟩
  · rw [(e0 a (by omega)).1, (e0 a (by omega)).2, (e0 (a + 1) (by omega)).1, (e0 (a + 1) (by omega)).2]
    exact b6 a (by omega)
  · rw [show (((h0 - 1).toNat : Nat) : Int) + 1 = h0 by omega]
    exact lft_cong b5 e0
  · rw [show (((h0 - 1).toNat : Nat) : Int) = h0 - 1 by omega, show h - 1 + 1 = h by omega]
    exact a7
  · rw [a5, (e0 0 (by omega)).1, c2]; rfl
  · rw [a6, (e0 0 (by omega)).2, c3]; rfl

set_option maxHeartbeats 4000000 in
set_option maxRecDepth 100000 in
theorem c_X12_findHull (l : Launch) (D : JD) (o : Nat) (q : Nat → Nat) (u : MS) (A : Nat → Prop) (hD : va_D A (mW D o q u)) (p0 : 0 ≤ u.2.2 6 ∧ u.2.2 6 ≤ 640) (p1 : bd 10000 (u.1 4) (u.1 5) (u.2.2 6)) : Met l yX12_findHull (jw yX12_findHull cX12_findHull 3 none) (jr 2 46) (jP [.ref o] D (fun H => va_P D.1 j_cl (mW D o q u) H)) (jWv (fun u' => ∃ f : Nat → Int, ∃ g : Nat → Int, ∃ w : Int, ∃ X : Nat → Int, ∃ Y : Nat → Int, ∃ nh : Int, u' = (uV (uI (uI (uV (uI (uI u 4 f) 5 g) 6 w) 7 X) 8 Y) 9 nh) ∧ (0 ≤ nh ∧ nh ≤ 1290 ∧ Ch nh X Y ∧ (0 < u.2.2 6 → 0 < nh) ∧ bd 10000 X Y nh ∧ ∀ K : Int, bd K (u.1 4) (u.1 5) (u.2.2 6) → bd K X Y nh)) (fun u' H => va_P D.1 j_cl (mW D o q u') H) A) 0 0 A := by
  refine Met.ofW (cc := cX12_findHull) (maxL := 3) (ret := none) (by decide) rfl ?_
  intro pr en st mi args below meth co s₁ B hml hv
  obtain ⟨rfl, hG, hP⟩ := hv
  have hr := B.returns
  have hlk := B.notSynchronized
  have SS : jS pr mi co cX12_findHull 3 st _ RX12 := ⟨B.exec, B.bytes, hml, findClass_of_methodNamed B.named, fun w hw => atoms_spec (ws := (jw yX12_findHull cX12_findHull 3 none)) B.pre w (List.mem_cons_of_mem _ hw)⟩
  have hl := lv_entry ([.ref o]) (n := 3) (Nat.le_of_ble_eq_true rfl)
  rw [lg_entry_eq]
  generalize (lg_sl ([.ref o]) ++ List.replicate (3 - (lg_sl ([.ref o])).length) Slot.unset).toArray = ls at hl ⊢
  have hl : lv_has ls 3 [(0, .ref o)] := hl
  have hS : va_S A st.heap st.heap [] := va_S.rf
  refine lv_aload_n SS.1 SS.2.1 dX12_findHull_0 rfl (lv_at hl 0 rfl) ?_
  refine j_vWv SS (As := []) (rest := []) (c_X12_order l D o q u A (mW_D hD)  (show 0 ≤ (u.2.2 6) ∧ (u.2.2 6) ≤ 640 from (by omega)) (show bd 10000 ((u.1 4)) ((u.1 5)) ((u.2.2 6)) from (p1))) mf_X12_order kw_1193 hG hP hP (ci := 8) (q0 := 0) rfl rfl rfl hS (fun _ h => h) rfl hl.1 ⟨⟨Nat.le_of_ble_eq_true rfl, Nat.le_of_ble_eq_true rfl⟩, Nat.le_of_ble_eq_true rfl, Nat.le_refl _, Nat.le_refl _⟩ rfl dX12_findHull_1 (fun u1 H locs h_1 hP _ hS => ?_)
  obtain ⟨f_1, g_1, w_1, rfl, h_1⟩ := h_1
  have hP : va_P D.1 j_cl (mW D o q (uV (uI (uI u 4 f_1) 5 g_1) 6 w_1)) H := hP
  have h_1 : 0 ≤ w_1 ∧ w_1 ≤ (u.2.2 6) ∧ (0 < (u.2.2 6) → 0 < w_1) ∧ os_s f_1 g_1 w_1 ∧ bd 10000 f_1 g_1 w_1 ∧ ∀ K : Int, bd K ((u.1 4)) ((u.1 5)) ((u.2.2 6)) → bd K f_1 g_1 w_1 := h_1
  obtain ⟨hw1, hw2, hwp, hw3, hwb, hwK⟩ := h_1
  refine lv_aload_n SS.1 SS.2.1 dX12_findHull_4 rfl (lv_at hl 0 rfl) ?_
  refine j_iconst SS dX12_findHull_5 ?_
  refine j_put SS hG hP (mW_D hD) hS 0 (v := .int (J 0)) (ty := .int) (C := RX12) (T := TX12) (N := 31) rfl rfl inX12 tyX12 tyX12_ok nmX12 9 (by decide) (ref := RX12) kw_1067 rfl rfl (by decide +kernel) rfl rfl (Nat.le_of_ble_eq_true rfl) dX12_findHull_6 (ws' := (mW D o q (uV (uV (uI (uI u 4 f_1) 5 g_1) 6 w_1) 9 0))) rfl (fun H locs hP hS => ?_)
  refine j_iconst SS dX12_findHull_9 ?_
  refine lv_istore_n (lv' := [(1, .int (J 0)), (0, .ref o)]) SS.1 SS.2.1 dX12_findHull_10 rfl hl (by decide) rfl (fun ls hl => ?_)
  have L_11 : ∀ (nn : Nat) (i : Int) (X : Nat → Int) (Y : Nat → Int) (h : Int) (H : Heap) (locs : List Loc) (hP : va_P D.1 j_cl (mW D o q (uV (uI (uI (uV (uI (uI u 4 f_1) 5 g_1) 6 w_1) 7 X) 8 Y) 9 h)) H) (hS : va_S A st.heap H locs) (ls : Array Slot) (hl : lv_has ls 3 [(0, .ref o), (1, .int (J i))]) (i11_0 : 0 ≤ i ∧ i ≤ w_1) (i11_1 : fl f_1 g_1 X Y i h) (i11_2 : bd 10000 X Y h), (w_1 - i).toNat < nn → W pr l en (headSpec (jw yX12_findHull cX12_findHull 3 none) (jr 2 46)).room st mi (([.ref o] : List Value).toArray) below meth co H locs 0 0 (MQ below (jWv (fun u' => ∃ f : Nat → Int, ∃ g : Nat → Int, ∃ w : Int, ∃ X : Nat → Int, ∃ Y : Nat → Int, ∃ nh : Int, u' = (uV (uI (uI (uV (uI (uI u 4 f) 5 g) 6 w) 7 X) 8 Y) 9 nh) ∧ (0 ≤ nh ∧ nh ≤ 1290 ∧ Ch nh X Y ∧ (0 < u.2.2 6 → 0 < nh) ∧ bd 10000 X Y nh ∧ ∀ K : Int, bd K (u.1 4) (u.1 5) (u.2.2 6) → bd K X Y nh)) (fun u' H => va_P D.1 j_cl (mW D o q u') H) A) (([.ref o] : List Value).toArray) st 0 0 A) (F0 mi 11 ls []) := by
    intro nn
    induction nn with
    | zero => intros; omega
    | succ nn ih_11 =>
      intro i X Y h H locs hP hS ls hl i11_0 i11_1 i11_2 hm
      have hf1 := i11_1.1
      have hf2 := i11_1.2.1
      refine lv_iload_n SS.1 SS.2.1 dX12_findHull_11 rfl (lv_at hl 1 rfl) ?_
      refine lv_aload_n SS.1 SS.2.1 dX12_findHull_12 rfl (lv_at hl 0 rfl) ?_
      refine j_get SS hG hP 0 (v := .int (J w_1)) (C := RX12) (T := TX12) (N := 31) rfl rfl inX12 6 (by decide) (ref := RX12) kw_1064 rfl rfl dX12_findHull_13 ?_
      refine j_icmp_ge SS (tgt := 31) (x := i) (y := w_1) dX12_findHull_16 (by decide) (by omega) (by omega) (fun c_16 => ?_) (fun c_16 => ?_)
      · skip
        have hh : 0 < w_1 → 0 < h := fun q => (i11_1.2.2.1 (by omega)).1
        have hh2 : 1 < w_1 → 1 < h := fun q => i11_1.2.2.2.1 (by omega)
        refine lv_aload_n SS.1 SS.2.1 dX12_findHull_31 rfl (lv_at hl 0 rfl) ?_
        refine j_get SS hG hP 0 (v := .int (J h)) (C := RX12) (T := TX12) (N := 31) rfl rfl inX12 9 (by decide) (ref := RX12) kw_1067 rfl rfl dX12_findHull_32 ?_
        refine j_iconst SS dX12_findHull_35 ?_
        refine j_isub SS (x := h) (y := 1) dX12_findHull_36 ?_
        refine lv_istore_n (lv' := [(1, .int (J (h - 1))), (0, .ref o)]) SS.1 SS.2.1 dX12_findHull_37 rfl hl (by decide) rfl (fun ls hl => ?_)
        refine lv_aload_n SS.1 SS.2.1 dX12_findHull_38 rfl (lv_at hl 1 rfl) ?_
        refine j_get SS hG hP 0 (v := .int (J w_1)) (C := RX12) (T := TX12) (N := 31) rfl rfl inX12 6 (by decide) (ref := RX12) kw_1064 rfl rfl dX12_findHull_39 ?_
        refine j_iconst SS dX12_findHull_42 ?_
        refine j_isub SS (x := w_1) (y := 2) dX12_findHull_43 ?_
        refine lv_istore_n (lv' := [(2, .int (J (w_1 - 2))), (1, .int (J (h - 1))), (0, .ref o)]) SS.1 SS.2.1 dX12_findHull_44 rfl hl (by decide) rfl (fun ls hl => ?_)
        have L_45 : ∀ (nn : Nat) (i2 : Int) (X2 : Nat → Int) (Y2 : Nat → Int) (h2 : Int) (H : Heap) (locs : List Loc) (hP : va_P D.1 j_cl (mW D o q (uV (uI (uI (uV (uI (uI u 4 f_1) 5 g_1) 6 w_1) 7 X2) 8 Y2) 9 h2)) H) (hS : va_S A st.heap H locs) (ls : Array Slot) (hl : lv_has ls 3 [(0, .ref o), (1, .int (J (h - 1))), (2, .int (J i2))]) (i45_0 : -1 ≤ i2 ∧ i2 ≤ w_1 - 2 ∧ 1 ≤ w_1 ∨ (w_1 = 0 ∧ h2 = 0 ∧ i2 = -2)) (i45_1 : 1 ≤ w_1 → fu f_1 g_1 X Y X2 Y2 (h - 1) w_1 i2 h2) (i45_2 : bd 10000 X2 Y2 h2), (i2 + 2).toNat < nn → W pr l en (headSpec (jw yX12_findHull cX12_findHull 3 none) (jr 2 46)).room st mi (([.ref o] : List Value).toArray) below meth co H locs 0 0 (MQ below (jWv (fun u' => ∃ f : Nat → Int, ∃ g : Nat → Int, ∃ w : Int, ∃ X : Nat → Int, ∃ Y : Nat → Int, ∃ nh : Int, u' = (uV (uI (uI (uV (uI (uI u 4 f) 5 g) 6 w) 7 X) 8 Y) 9 nh) ∧ (0 ≤ nh ∧ nh ≤ 1290 ∧ Ch nh X Y ∧ (0 < u.2.2 6 → 0 < nh) ∧ bd 10000 X Y nh ∧ ∀ K : Int, bd K (u.1 4) (u.1 5) (u.2.2 6) → bd K X Y nh)) (fun u' H => va_P D.1 j_cl (mW D o q u') H) A) (([.ref o] : List Value).toArray) st 0 0 A) (F0 mi 45 ls []) := by
          intro nn
          induction nn with
          | zero => intros; omega
          | succ nn ih_45 =>
            intro i2 X2 Y2 h2 H locs hP hS ls hl i45_0 i45_1 i45_2 hm
            refine lv_iload_n SS.1 SS.2.1 dX12_findHull_45 rfl (lv_at hl 2 rfl) ?_
            refine j_if_lt SS (tgt := 61) (x := i2) dX12_findHull_46 (by decide) (by omega) (fun c_46 => ?_) (fun c_46 => ?_)
            · skip
              have hq : 1 ≤ w_1 → h ≤ h2 ∧ h2 ≤ h + w_1 - i2 - 2 := fun q => ⟨by have := (i45_1 q).1; omega, by have := (i45_1 q).2.1; omega⟩
              refine lv_aload_n SS.1 SS.2.1 dX12_findHull_61 rfl (lv_at hl 0 rfl) ?_
              refine lv_dup SS.1 SS.2.1 dX12_findHull_62 rfl ?_
              refine j_get SS hG hP 0 (v := .int (J h2)) (C := RX12) (T := TX12) (N := 31) rfl rfl inX12 9 (by decide) (ref := RX12) kw_1067 rfl rfl dX12_findHull_63 ?_
              refine lv_aload_n SS.1 SS.2.1 dX12_findHull_66 rfl (lv_at hl 0 rfl) ?_
              refine j_get SS hG hP 0 (v := .int (J w_1)) (C := RX12) (T := TX12) (N := 31) rfl rfl inX12 6 (by decide) (ref := RX12) kw_1064 rfl rfl dX12_findHull_67 ?_
              refine j_iconst SS dX12_findHull_70 ?_
              refine j_icmp_le SS (tgt := 78) (x := w_1) (y := 1) dX12_findHull_71 (by decide) (by omega) (by decide) (fun c_71 => ?_) (fun c_71 => ?_)
              · skip
                refine j_iconst SS dX12_findHull_78 ?_
                refine j_isub SS (x := h2) (y := 0) dX12_findHull_79 ?_
                refine j_put SS hG hP (mW_D hD) hS 0 (v := .int (J (h2 - 0))) (ty := .int) (C := RX12) (T := TX12) (N := 31) rfl rfl inX12 tyX12 tyX12_ok nmX12 9 (by decide) (ref := RX12) kw_1067 rfl rfl (by decide +kernel) rfl rfl (Nat.le_of_ble_eq_true rfl) dX12_findHull_80 (ws' := (mW D o q (uV (uI (uI (uV (uI (uI u 4 f_1) 5 g_1) 6 w_1) 7 X2) 8 Y2) 9 (h2 - 0)))) rfl (fun H locs hP hS => ?_)
                exact W.vret SS.1 SS.2.1 hr (fun t ht hW => ⟨⟨(uV (uI (uI (uV (uI (uI u 4 f_1) 5 g_1) 6 w_1) 7 X2) 8 Y2) 9 (h2 - 0)), rfl, (⟨f_1, g_1, w_1, X2, Y2, (h2 - 0), rfl, ⟨by omega, by omega, by first | exact Or.inl (by omega) | exact fu_e (by omega) (by rw [show i = w_1 by omega] at i11_1; exact i11_1) (by omega) (i45_1 (by omega)), fun q => by omega, bd_le i45_2 (by omega), fun K hK => by rcases (show 1 ≤ w_1 ∨ w_1 = 0 by omega) with q | q; exact bd_le ((i45_1 q).2.2.2.2.2.2.2 K (hwK K hK)) (by omega); exact fun a ha => by omega⟩⟩), by show va_P D.1 j_cl (mW D o q (uV (uI (uI (uV (uI (uI u 4 f_1) 5 g_1) 6 w_1) 7 X2) 8 Y2) 9 (h2 - 0))) t.heap; rw [ht]; exact hP⟩, hS.F ht⟩) hS.2.2 dX12_findHull_83 hlk
              · skip
                refine j_iconst SS dX12_findHull_74 ?_
                refine lv_goto (tgt := 79) SS.1 SS.2.1 dX12_findHull_75 (by decide) ?_
                refine j_isub SS (x := h2) (y := 1) dX12_findHull_79 ?_
                refine j_put SS hG hP (mW_D hD) hS 0 (v := .int (J (h2 - 1))) (ty := .int) (C := RX12) (T := TX12) (N := 31) rfl rfl inX12 tyX12 tyX12_ok nmX12 9 (by decide) (ref := RX12) kw_1067 rfl rfl (by decide +kernel) rfl rfl (Nat.le_of_ble_eq_true rfl) dX12_findHull_80 (ws' := (mW D o q (uV (uI (uI (uV (uI (uI u 4 f_1) 5 g_1) 6 w_1) 7 X2) 8 Y2) 9 (h2 - 1)))) rfl (fun H locs hP hS => ?_)
                exact W.vret SS.1 SS.2.1 hr (fun t ht hW => ⟨⟨(uV (uI (uI (uV (uI (uI u 4 f_1) 5 g_1) 6 w_1) 7 X2) 8 Y2) 9 (h2 - 1)), rfl, (⟨f_1, g_1, w_1, X2, Y2, (h2 - 1), rfl, ⟨by omega, by omega, by first | exact Or.inl (by omega) | exact fu_e (by omega) (by rw [show i = w_1 by omega] at i11_1; exact i11_1) (by omega) (i45_1 (by omega)), fun q => by omega, bd_le i45_2 (by omega), fun K hK => by rcases (show 1 ≤ w_1 ∨ w_1 = 0 by omega) with q | q; exact bd_le ((i45_1 q).2.2.2.2.2.2.2 K (hwK K hK)) (by omega); exact fun a ha => by omega⟩⟩), by show va_P D.1 j_cl (mW D o q (uV (uI (uI (uV (uI (uI u 4 f_1) 5 g_1) 6 w_1) 7 X2) 8 Y2) 9 (h2 - 1))) t.heap; rw [ht]; exact hP⟩, hS.F ht⟩) hS.2.2 dX12_findHull_83 hlk
            · skip
              have hb := fun (j : Int) => bd_at hwb (z := i2) (by omega) (by omega)
              have hw : 1 ≤ w_1 := by omega
              have hfu := i45_1 hw
              have hfu1 := hfu.1
              have hfu2 := hfu.2.1
              refine lv_aload_n SS.1 SS.2.1 dX12_findHull_49 rfl (lv_at hl 0 rfl) ?_
              refine lv_iload_n SS.1 SS.2.1 dX12_findHull_50 rfl (lv_at hl 2 rfl) ?_
              refine lv_iload_n SS.1 SS.2.1 dX12_findHull_51 rfl (lv_at hl 1 rfl) ?_
              refine j_vWv SS (As := [.int (J i2), .int (J (h - 1))]) (rest := []) (c_X12_goOn l D o q (uV (uI (uI (uV (uI (uI u 4 f_1) 5 g_1) 6 w_1) 7 X2) 8 Y2) 9 h2) A (mW_D hD) i2 (h - 1) (show 0 ≤ i2 ∧ i2 < 640 from (by omega)) (show 0 ≤ (h - 1) ∧ (h - 1) ≤ h2 ∧ h2 < 1300 from (by omega)) (show -10000 ≤ f_1 i2.toNat ∧ f_1 i2.toNat ≤ 10000 from ((hb i2).1)) (show -10000 ≤ g_1 i2.toNat ∧ g_1 i2.toNat ≤ 10000 from ((hb i2).2)) (show bd 10000 (X2) (Y2) (h2) from (i45_2)) (show lft (X2) (Y2) (h - 1) (h2) from (hfu.2.2.2.2.2.1))) mf_X12_goOn kw_1201 hG hP hP (ci := 8) (q0 := 0) rfl rfl rfl hS (fun _ h => h) rfl hl.1 ⟨⟨Nat.le_of_ble_eq_true rfl, Nat.le_of_ble_eq_true rfl⟩, Nat.le_of_ble_eq_true rfl, Nat.le_refl _, Nat.le_refl _⟩ rfl dX12_findHull_52 (fun u52 H locs h_52 hP _ hS => ?_)
              obtain ⟨f_52, g_52, w_52, v_52, rfl, h_52⟩ := h_52
              have hP : va_P D.1 j_cl (mW D o q (uV (uI (uI (uV (uI (uI u 4 f_1) 5 g_1) 6 w_1) 7 f_52) 8 g_52) 9 w_52)) H := hP
              have h_52 : w_52 = v_52 + 1 ∧ (h - 1) ≤ v_52 ∧ v_52 ≤ h2 ∧ ((h - 1) < h2 → (h - 1) < v_52) ∧ f_52 = upI (X2) v_52.toNat (f_1 i2.toNat) ∧ g_52 = upI (Y2) v_52.toNat (g_1 i2.toNat) ∧ lft f_52 g_52 (h - 1) w_52 := h_52
              refine lv_iinc (v := J (i2 + (-1))) (lv' := [(2, .int (J (i2 + (-1)))), (0, .ref o), (1, .int (J (h - 1)))]) SS.1 SS.2.1 dX12_findHull_55 hl (k := 2) rfl (J_add _ _) (by decide) rfl (fun ls hl => ?_)
              refine lv_goto (tgt := 45) SS.1 SS.2.1 dX12_findHull_58 (by decide) ?_
              exact ih_45 (i2 + (-1)) f_52 g_52 w_52 _ _ hP hS ls (lv_sub hl [1, 2, 0] rfl) (by omega) (fun hw => by obtain ⟨rfl, k1, k2, k3, rfl, rfl, k4⟩ := h_52; exact fu_s (by omega) hw3 (by omega) (by omega) (i45_1 hw) k1 k2 (k3 (by omega)) k4) (by obtain ⟨rfl, k1, k2, k3, rfl, rfl, k4⟩ := h_52; exact bd_put (by omega) (bd_le i45_2 k2) (hb i2).1 (hb i2).2) (by omega)
        exact L_45 (((w_1 - 2) + 2).toNat + 1) (w_1 - 2) X Y h _ _ hP hS ls (lv_sub hl [2, 1, 0] rfl) (by omega) (fun hw => fu_0 hw (by rw [show i = w_1 by omega] at i11_1; exact i11_1)) (i11_2) (Nat.lt_succ_self _)
      · skip
        have hb : ∀ i : Int, 0 ≤ i → i < w_1 → (-10000 ≤ f_1 i.toNat ∧ f_1 i.toNat ≤ 10000) ∧ (-10000 ≤ g_1 i.toNat ∧ g_1 i.toNat ≤ 10000) := fun i h1 h2 => bd_at hwb h1 h2
        have hb := fun (j : Int) => hb i (by omega) (by omega)
        refine lv_aload_n SS.1 SS.2.1 dX12_findHull_19 rfl (lv_at hl 0 rfl) ?_
        refine lv_iload_n SS.1 SS.2.1 dX12_findHull_20 rfl (lv_at hl 1 rfl) ?_
        refine j_iconst SS dX12_findHull_21 ?_
        refine j_vWv SS (As := [.int (J i), .int (J 0)]) (rest := []) (c_X12_goOn l D o q (uV (uI (uI (uV (uI (uI u 4 f_1) 5 g_1) 6 w_1) 7 X) 8 Y) 9 h) A (mW_D hD) i 0 (show 0 ≤ i ∧ i < 640 from (by omega)) (show 0 ≤ (0 : Int) ∧ (0 : Int) ≤ h ∧ h < 1300 from (by omega)) (show -10000 ≤ f_1 i.toNat ∧ f_1 i.toNat ≤ 10000 from ((hb i).1)) (show -10000 ≤ g_1 i.toNat ∧ g_1 i.toNat ≤ 10000 from ((hb i).2)) (show bd 10000 (X) (Y) (h) from (i11_2)) (show lft (X) (Y) (0 : Int) (h) from (i11_1.2.2.2.2.1))) mf_X12_goOn kw_1201 hG hP hP (ci := 8) (q0 := 0) rfl rfl rfl hS (fun _ h => h) rfl hl.1 ⟨⟨Nat.le_of_ble_eq_true rfl, Nat.le_of_ble_eq_true rfl⟩, Nat.le_of_ble_eq_true rfl, Nat.le_refl _, Nat.le_refl _⟩ rfl dX12_findHull_22 (fun u22 H locs h_22 hP _ hS => ?_)
        obtain ⟨f_22, g_22, w_22, v_22, rfl, h_22⟩ := h_22
        have hP : va_P D.1 j_cl (mW D o q (uV (uI (uI (uV (uI (uI u 4 f_1) 5 g_1) 6 w_1) 7 f_22) 8 g_22) 9 w_22)) H := hP
        have h_22 : w_22 = v_22 + 1 ∧ (0 : Int) ≤ v_22 ∧ v_22 ≤ h ∧ ((0 : Int) < h → (0 : Int) < v_22) ∧ f_22 = upI (X) v_22.toNat (f_1 i.toNat) ∧ g_22 = upI (Y) v_22.toNat (g_1 i.toNat) ∧ lft f_22 g_22 (0 : Int) w_22 := h_22
        refine lv_iinc (v := J (i + 1)) (lv' := [(1, .int (J (i + 1))), (0, .ref o)]) SS.1 SS.2.1 dX12_findHull_25 hl (k := 1) rfl (J_add _ _) (by decide) rfl (fun ls hl => ?_)
        refine lv_goto (tgt := 11) SS.1 SS.2.1 dX12_findHull_28 (by decide) ?_
        exact ih_11 (i + 1) f_22 g_22 w_22 _ _ hP hS ls (lv_sub hl [1, 0] rfl) (by omega) (by obtain ⟨rfl, k1, k2, k3, rfl, rfl, k4⟩ := h_22; exact fl_s hw3 (by omega) (by omega) i11_1 k1 k2 k3 k4) (by obtain ⟨rfl, k1, k2, k3, rfl, rfl, k4⟩ := h_22; exact bd_put k1 (bd_le i11_2 k2) (hb i).1 (hb i).2) (by omega)
  exact L_11 ((w_1 - (0 : Int)).toNat + 1) 0 (u.1 7) (u.1 8) 0 _ _ hP hS ls (lv_sub hl [1, 0] rfl) (by omega) (fl_0) (fun a ha => by omega) (Nat.lt_succ_self _)
