
theorem rowN_s {Bf : Nat → Int} {n k v : Int} (hn : 0 ≤ n) (hk : 0 ≤ k) (h : rowN Bf n k) (h1 : k = 12960 → v = 0) (h2 : k ≠ 12960 → v = -9) : rowN (upI Bf (25921 * n + k).toNat v) n (k + 1) := by
  intro j j0 j1
  by_cases e : j = k
  · subst e; rw [upI_s]; exact ⟨h1, h2⟩
  · rw [upI_n (by omega)]; exact h j j0 (by omega)
theorem rows_up {u : MS} {s : Int} {Bf : Nat → Int} {n i k v : Int} (h : rows u s Bf n i) (h0 : 0 ≤ i) (hn : i < n) (k0 : 0 ≤ k) (k1 : k < 25921) : rows u s (upI Bf (25921 * i + k).toNat v) n i := by
  refine ⟨fun j j0 j1 => ?_, fun i' g1 g2 j j0 j1 => ?_⟩
  · rw [upI_n (by omega)]; exact h.1 j j0 j1
  · exact rk_cong (fun m m0 m1 => upI_n (by omega)) (upI_n (by omega)) (h.2 i' g1 g2 j j0 j1)
theorem rk_up {u : MS} {s : Int} {Bf : Nat → Int} {i k j v : Int} (h : rk u s Bf i j) (h0 : 0 ≤ i) (k0 : 0 ≤ k) (k1 : k < 25921) (j0 : 0 ≤ j) (hj : j < k) : rk u s (upI Bf (25921 * i + k).toNat v) i j :=
  rk_cong (fun m m0 m1 => upI_n (by omega)) (upI_n (by omega)) h
def bt_ (u : MS) (s : Int) (Bf : Nat → Int) (i k t best : Int) : Prop := (best = -9 ∧ ∀ t' : Int, 0 ≤ t' → t' < t → bk Bf (i + 1) (k % 161 - 80 + t' * mDX u s i) (k / 161 - 80 + t' * mDY u s i) = -9) ∨ (0 ≤ best ∧ best ≤ 100 * (24 - i) ∧ ∃ t' : Int, 0 ≤ t' ∧ t' < t ∧ bk Bf (i + 1) (k % 161 - 80 + t' * mDX u s i) (k / 161 - 80 + t' * mDY u s i) ≠ -9 ∧ best = bk Bf (i + 1) (k % 161 - 80 + t' * mDX u s i) (k / 161 - 80 + t' * mDY u s i) + t')
theorem rk_new {u : MS} {s : Int} {Bf : Nat → Int} {i k t best : Int} (h0 : 0 ≤ i) (k0 : 0 ≤ k) (k1 : k < 25921) (ht : t = mS u s i + 1) (h : bt_ u s Bf i k t best) : rk u s (upI Bf (25921 * i + k).toNat best) i k := by
  have e : ∀ x y, bk (upI Bf (25921 * i + k).toNat best) (i + 1) x y = bk Bf (i + 1) x y := fun x y => bk_cong (fun m m0 m1 => upI_n (by omega))
  unfold rk
  rw [upI_s]
  rcases h with ⟨a, b⟩ | ⟨a, a2, t', b1, b2, b3, b4⟩
  · exact Or.inl ⟨a, fun t1 h1 h2 => by rw [e]; exact b t1 h1 (by omega)⟩
  · exact Or.inr ⟨a, a2, t', b1, by omega, by rw [e]; exact b3, by rw [e]; exact b4⟩
theorem bt_0 {u : MS} {s : Int} {Bf : Nat → Int} {i k : Int} : bt_ u s Bf i k 0 (-9) := Or.inl ⟨rfl, fun t' h1 h2 => by omega⟩
theorem bt_no {u : MS} {s : Int} {Bf : Nat → Int} {i k t best v : Int} (h : bt_ u s Bf i k t best) (hv : v = bk Bf (i + 1) (k % 161 - 80 + t * mDX u s i) (k / 161 - 80 + t * mDY u s i)) (hc : v = -9 ∨ best ≠ -9) : bt_ u s Bf i k (t + 1) best := by
  rcases h with ⟨a, b⟩ | ⟨a, a2, t', b1, b2, b3, b4⟩
  · refine Or.inl ⟨a, fun t' h1 h2 => ?_⟩
    by_cases e : t' = t
    · rw [e, ← hv]; omega
    · exact b t' h1 (by omega)
  · exact Or.inr ⟨a, a2, t', b1, by omega, b3, b4⟩
theorem bt_yes {u : MS} {s : Int} {Bf : Nat → Int} {i k t best v : Int} (h : bt_ u s Bf i k t best) (ht : 0 ≤ t) (ht2 : t ≤ 80) (hv : v = bk Bf (i + 1) (k % 161 - 80 + t * mDX u s i) (k / 161 - 80 + t * mDY u s i)) (hr : 0 ≤ v ∧ v ≤ 100 * (24 - (i + 1))) : bt_ u s Bf i k (t + 1) (v + t) :=
  Or.inr ⟨by omega, by omega, t, ht, by omega, by rw [← hv]; omega, by rw [← hv]⟩
theorem rk_at {u : MS} {s : Int} {Bf : Nat → Int} {i x y : Int} (hx : (-80 ≤ x ∧ x ≤ 80) ∧ -80 ≤ y ∧ y ≤ 80) (h : rk u s Bf i (161 * (y + 80) + x + 80)) : (bk Bf i x y = -9 ∧ ∀ t : Int, 0 ≤ t → t ≤ mS u s i → bk Bf (i + 1) (x + t * mDX u s i) (y + t * mDY u s i) = -9) ∨ (0 ≤ bk Bf i x y ∧ ∃ t : Int, 0 ≤ t ∧ t ≤ mS u s i ∧ bk Bf (i + 1) (x + t * mDX u s i) (y + t * mDY u s i) ≠ -9 ∧ bk Bf i x y = bk Bf (i + 1) (x + t * mDX u s i) (y + t * mDY u s i) + t) := by
  unfold rk at h
  rw [show (161 * (y + 80) + x + 80) % 161 - 80 = x by omega, show (161 * (y + 80) + x + 80) / 161 - 80 = y by omega] at h
  rw [bk_pos hx]
  rcases h with ⟨a, b⟩ | ⟨a, a2, b⟩
  · exact Or.inl ⟨a, b⟩
  · exact Or.inr ⟨a, b⟩
theorem mX_n {u : MS} {s : Int} : mX u s (mN u s) = mX u s 0 ∧ mY u s (mN u s) = mY u s 0 := by
  unfold mX mY; rw [Int.tmod_self, Int.zero_tmod]; exact ⟨rfl, rfl⟩
/-- the whole polygon leads home -/
theorem bk_path {u : MS} {s : Int} {Bf : Nat → Int} (hN : 0 < mN u s) (hb : ∀ i : Int, 0 ≤ i → (-40 ≤ mX u s i ∧ mX u s i ≤ 40) ∧ (-40 ≤ mY u s i ∧ mY u s i ≤ 40)) (h : rows u s Bf (mN u s) (-1)) : ∀ m : Nat, (m : Int) ≤ mN u s → bk Bf (mN u s - m) (mX u s (mN u s - m) - mX u s 0) (mY u s (mN u s - m) - mY u s 0) ≠ -9 := by
  intro m
  induction m with
  | zero =>
    intro _
    rw [show mN u s - ((0 : Nat) : Int) = mN u s by omega, mX_n.1, mX_n.2, Int.sub_self, Int.sub_self, bk_pos (by omega)]
    have := (h.1 12960 (by omega) (by omega)).1 rfl
    rw [show (161 * ((0 : Int) + 80) + 0 + 80) = 12960 by omega, this]; omega
  | succ m ih =>
    intro hm
    have ih := ih (by omega)
    have b1 := hb (mN u s - ((m + 1 : Nat) : Int)) (by omega)
    have b0 := hb 0 (by omega)
    have hx : (-80 ≤ mX u s (mN u s - ((m + 1 : Nat) : Int)) - mX u s 0 ∧ mX u s (mN u s - ((m + 1 : Nat) : Int)) - mX u s 0 ≤ 80) ∧ -80 ≤ mY u s (mN u s - ((m + 1 : Nat) : Int)) - mY u s 0 ∧ mY u s (mN u s - ((m + 1 : Nat) : Int)) - mY u s 0 ≤ 80 := by omega
    have hr := rk_at hx (h.2 (mN u s - ((m + 1 : Nat) : Int)) (by omega) (by omega) _ (by omega) (by omega))
    rcases hr with ⟨_, hr⟩ | ⟨hr, _⟩
    · exfalso
      have h1 := hr (mS u s (mN u s - ((m + 1 : Nat) : Int))) (by unfold mS; omega) (Int.le_refl _)
      rw [mDX_m, mDY_m, show mN u s - ((m + 1 : Nat) : Int) + 1 = mN u s - (m : Int) by omega] at h1
      apply ih
      rw [← h1]
      congr 1 <;> omega
    · omega
def lp_ (u : MS) (s : Int) (Bf : Nat → Int) (n i t be fi st : Int) : Prop := (be = -9 ∧ fi = -9 ∧ st = 0 ∧ ∀ i' t' : Int, 0 ≤ i' → 1 ≤ t' → (i' < i ∧ t' ≤ mS u s i' ∨ i' = i ∧ t' < t) → bk Bf (i' + 1) (t' * mDX u s i') (t' * mDY u s i') = -9) ∨ (0 ≤ be ∧ be ≤ 3000 ∧ 0 ≤ fi ∧ fi < n ∧ 1 ≤ st ∧ st ≤ mS u s fi ∧ bk Bf (fi + 1) (st * mDX u s fi) (st * mDY u s fi) ≠ -9)
theorem lp_0 {u : MS} {s : Int} {Bf : Nat → Int} {n : Int} : lp_ u s Bf n 0 1 (-9) (-9) 0 := Or.inl ⟨rfl, rfl, rfl, fun i' t' h1 h2 h3 => by omega⟩
theorem lp_row {u : MS} {s : Int} {Bf : Nat → Int} {n i t be fi st : Int} (h : lp_ u s Bf n i t be fi st) (ht : mS u s i < t) : lp_ u s Bf n (i + 1) 1 be fi st := by
  rcases h with ⟨a, b, c, d⟩ | h
  · refine Or.inl ⟨a, b, c, fun i' t' h1 h2 h3 => d i' t' h1 h2 ?_⟩
    by_cases e : i' = i
    · subst e; omega
    · omega
  · exact Or.inr h
theorem lp_no {u : MS} {s : Int} {Bf : Nat → Int} {n i t be fi st v : Int} (h : lp_ u s Bf n i t be fi st) (hv : v = bk Bf (i + 1) (t * mDX u s i) (t * mDY u s i)) (hc : v = -9 ∨ be ≠ -9) : lp_ u s Bf n i (t + 1) be fi st := by
  rcases h with ⟨a, b, c, d⟩ | h
  · refine Or.inl ⟨a, b, c, fun i' t' h1 h2 h3 => ?_⟩
    by_cases e : i' = i ∧ t' = t
    · rw [e.1, e.2, ← hv]; omega
    · exact d i' t' h1 h2 (by omega)
  · exact Or.inr h
theorem lp_yes {u : MS} {s : Int} {Bf : Nat → Int} {n i t v : Int} (hi : 0 ≤ i) (hn : i < n) (ht : 1 ≤ t) (ht2 : t ≤ mS u s i) (ht3 : t ≤ 80) (hv : v = bk Bf (i + 1) (t * mDX u s i) (t * mDY u s i)) (hr : 0 ≤ v ∧ v ≤ 100 * (24 - (i + 1))) : lp_ u s Bf n i (t + 1) (v + t) i t :=
  Or.inr ⟨by omega, by omega, hi, hn, ht, ht2, by rw [← hv]; omega⟩

set_option maxHeartbeats 4000000 in
set_option maxRecDepth 100000 in
theorem c_X12_findBack (l : Launch) (D : JD) (o : Nat) (q : Nat → Nat) (u : MS) (A : Nat → Prop) (hD : va_D A (mW D o q u)) (s : Int) (p0 : 0 ≤ s ∧ s ≤ 7) (p1 : Sh u s) (p2 : 2 ≤ mN u s) : Met l yX12_findBack (jw yX12_findBack cX12_findBack 11 none) (jr 4 88) (jP [.ref o, .int (J s)] D (fun H => va_P D.1 j_cl (mW D o q u) H)) (jWv (fun u' => ∃ Bf : Nat → Int, u' = (uI u 15 Bf) ∧ (rows u s Bf (mN u s) (-1))) (fun u' H => va_P D.1 j_cl (mW D o q u') H) A) 0 0 A := by
  refine Met.ofW (cc := cX12_findBack) (maxL := 11) (ret := none) (by decide) rfl ?_
  intro pr en st mi args below meth co s₁ B hml hv
  obtain ⟨rfl, hG, hP⟩ := hv
  have hr := B.returns
  have hlk := B.notSynchronized
  have SS : jS pr mi co cX12_findBack 11 st _ RX12 := ⟨B.exec, B.bytes, hml, findClass_of_methodNamed B.named, fun w hw => atoms_spec (ws := (jw yX12_findBack cX12_findBack 11 none)) B.pre w (List.mem_cons_of_mem _ hw)⟩
  have hl := lv_entry ([.ref o, .int (J s)]) (n := 11) (Nat.le_of_ble_eq_true rfl)
  rw [lg_entry_eq]
  generalize (lg_sl ([.ref o, .int (J s)]) ++ List.replicate (11 - (lg_sl ([.ref o, .int (J s)])).length) Slot.unset).toArray = ls at hl ⊢
  have hl : lv_has ls 11 [(0, .ref o), (1, .int (J s))] := hl
  have hS : va_S A st.heap st.heap [] := va_S.rf
  have hN := p1.1
  have hC := p1.2.2
  refine lv_aload_n SS.1 SS.2.1 dX12_findBack_0 rfl (lv_at hl 0 rfl) ?_
  refine j_get SS hG hP 0 (v := .ref (q 0)) (C := RX12) (T := TX12) (N := 31) rfl rfl inX12 0 (by decide) (ref := RX12) kw_1058 rfl rfl dX12_findBack_1 ?_
  refine lv_iload_n SS.1 SS.2.1 dX12_findBack_4 rfl (lv_at hl 1 rfl) ?_
  refine j_iald SS hG hP 1 (n := 8) (f := (u.1 0)) rfl (z := s) (by omega) (by omega) dX12_findBack_5 ?_
  have hN_5 := (show Sh u s from p1).1
  refine lv_istore_n (lv' := [(2, .int (J (mN u s))), (0, .ref o), (1, .int (J s))]) SS.1 SS.2.1 dX12_findBack_6 rfl hl (by decide) rfl (fun ls hl => ?_)
  refine j_iconst SS dX12_findBack_7 ?_
  refine lv_istore_n (lv' := [(3, .int (J 0)), (2, .int (J (mN u s))), (0, .ref o), (1, .int (J s))]) SS.1 SS.2.1 dX12_findBack_8 rfl hl (by decide) rfl (fun ls hl => ?_)
  have L_9 : ∀ (nn : Nat) (k : Int) (b1 : Nat → Int) (H : Heap) (locs : List Loc) (hP : va_P D.1 j_cl (mW D o q (uI u 15 b1)) H) (hS : va_S A st.heap H locs) (ls : Array Slot) (hl : lv_has ls 11 [(0, .ref o), (1, .int (J s)), (2, .int (J (mN u s))), (3, .int (J k))]) (i9_0 : 0 ≤ k ∧ k ≤ 25921) (i9_1 : rowN b1 (mN u s) k), ((25921 : Int) - k).toNat < nn → W pr l en (headSpec (jw yX12_findBack cX12_findBack 11 none) (jr 4 88)).room st mi (([.ref o, .int (J s)] : List Value).toArray) below meth co H locs 0 0 (MQ below (jWv (fun u' => ∃ Bf : Nat → Int, u' = (uI u 15 Bf) ∧ (rows u s Bf (mN u s) (-1))) (fun u' H => va_P D.1 j_cl (mW D o q u') H) A) (([.ref o, .int (J s)] : List Value).toArray) st 0 0 A) (F0 mi 9 ls []) := by
    intro nn
    induction nn with
    | zero => intros; omega
    | succ nn ih_9 =>
      intro k b1 H locs hP hS ls hl i9_0 i9_1 hm
      refine lv_iload_n SS.1 SS.2.1 dX12_findBack_9 rfl (lv_at hl 3 rfl) ?_
      refine j_sipush SS dX12_findBack_10 (by decide +kernel) ?_
      refine j_icmp_ge SS (tgt := 49) (x := k) (y := 25921) dX12_findBack_13 (by decide) (by omega) (by decide) (fun c_13 => ?_) (fun c_13 => ?_)
      · skip
        refine lv_iload_n SS.1 SS.2.1 dX12_findBack_49 rfl (lv_at hl 2 rfl) ?_
        refine j_iconst SS dX12_findBack_50 ?_
        refine j_isub SS (x := (mN u s)) (y := 1) dX12_findBack_51 ?_
        refine lv_istore_n (lv' := [(3, .int (J ((mN u s) - 1))), (0, .ref o), (1, .int (J s)), (2, .int (J (mN u s)))]) SS.1 SS.2.1 dX12_findBack_52 rfl hl (by decide) rfl (fun ls hl => ?_)
        have L_53 : ∀ (nn : Nat) (i : Int) (b2 : Nat → Int) (H : Heap) (locs : List Loc) (hP : va_P D.1 j_cl (mW D o q (uI u 15 b2)) H) (hS : va_S A st.heap H locs) (ls : Array Slot) (hl : lv_has ls 11 [(0, .ref o), (1, .int (J s)), (2, .int (J (mN u s))), (3, .int (J i))]) (i53_0 : -1 ≤ i ∧ i < mN u s) (i53_1 : rows u s b2 (mN u s) i), (i + 1).toNat < nn → W pr l en (headSpec (jw yX12_findBack cX12_findBack 11 none) (jr 4 88)).room st mi (([.ref o, .int (J s)] : List Value).toArray) below meth co H locs 0 0 (MQ below (jWv (fun u' => ∃ Bf : Nat → Int, u' = (uI u 15 Bf) ∧ (rows u s Bf (mN u s) (-1))) (fun u' H => va_P D.1 j_cl (mW D o q u') H) A) (([.ref o, .int (J s)] : List Value).toArray) st 0 0 A) (F0 mi 53 ls []) := by
          intro nn
          induction nn with
          | zero => intros; omega
          | succ nn ih_53 =>
            intro i b2 H locs hP hS ls hl i53_0 i53_1 hm
            refine lv_iload_n SS.1 SS.2.1 dX12_findBack_53 rfl (lv_at hl 3 rfl) ?_
            refine j_if_lt SS (tgt := 214) (x := i) dX12_findBack_54 (by decide) (by omega) (fun c_54 => ?_) (fun c_54 => ?_)
            · skip
              exact W.vret SS.1 SS.2.1 hr (fun t ht hW => ⟨⟨(uI u 15 b2), rfl, (⟨b2, rfl, by rw [show i = -1 by omega] at i53_1; exact i53_1⟩), by show va_P D.1 j_cl (mW D o q (uI u 15 b2)) t.heap; rw [ht]; exact hP⟩, hS.F ht⟩) hS.2.2 dX12_findBack_214 hlk
            · skip
              refine lv_aload_n SS.1 SS.2.1 dX12_findBack_57 rfl (lv_at hl 0 rfl) ?_
              refine lv_iload_n SS.1 SS.2.1 dX12_findBack_58 rfl (lv_at hl 1 rfl) ?_
              refine lv_iload_n SS.1 SS.2.1 dX12_findBack_59 rfl (lv_at hl 3 rfl) ?_
              refine j_vRi SS (As := [.int (J s), .int (J i)]) (rest := []) (c_X12_stepX l D o q (uI u 15 b2) s i (show 0 ≤ s ∧ s ≤ 7 from (by omega)) (show Sh u s from (p1)) (show 0 ≤ i ∧ i < mN u s from (by omega)) (show 2 ≤ mN u s from (by omega))) mf_X12_stepX kw_1332 hG hP hP (ci := 8) (q0 := 0) rfl rfl rfl rfl hl.1 ⟨⟨Nat.le_of_ble_eq_true rfl, Nat.le_of_ble_eq_true rfl⟩, Nat.le_of_ble_eq_true rfl, Nat.le_refl _, Nat.le_refl _⟩ rfl dX12_findBack_60 (fun z_60 h_60 => ?_)
              have h_60 : z_60 = mDX u s i ∧ -80 ≤ z_60 ∧ z_60 ≤ 80 := h_60
              refine lv_istore (lv' := [(4, .int (J z_60)), (0, .ref o), (1, .int (J s)), (2, .int (J (mN u s))), (3, .int (J i))]) SS.1 SS.2.1 dX12_findBack_63 hl (by decide) rfl (fun ls hl => ?_)
              refine lv_aload_n SS.1 SS.2.1 dX12_findBack_65 rfl (lv_at hl 1 rfl) ?_
              refine lv_iload_n SS.1 SS.2.1 dX12_findBack_66 rfl (lv_at hl 2 rfl) ?_
              refine lv_iload_n SS.1 SS.2.1 dX12_findBack_67 rfl (lv_at hl 4 rfl) ?_
              refine j_vRi SS (As := [.int (J s), .int (J i)]) (rest := []) (c_X12_stepY l D o q (uI u 15 b2) s i (show 0 ≤ s ∧ s ≤ 7 from (by omega)) (show Sh u s from (p1)) (show 0 ≤ i ∧ i < mN u s from (by omega)) (show 2 ≤ mN u s from (by omega))) mf_X12_stepY kw_1336 hG hP hP (ci := 8) (q0 := 0) rfl rfl rfl rfl hl.1 ⟨⟨Nat.le_of_ble_eq_true rfl, Nat.le_of_ble_eq_true rfl⟩, Nat.le_of_ble_eq_true rfl, Nat.le_refl _, Nat.le_refl _⟩ rfl dX12_findBack_68 (fun z_68 h_68 => ?_)
              have h_68 : z_68 = mDY u s i ∧ -80 ≤ z_68 ∧ z_68 ≤ 80 := h_68
              refine lv_istore (lv' := [(5, .int (J z_68)), (4, .int (J z_60)), (0, .ref o), (1, .int (J s)), (2, .int (J (mN u s))), (3, .int (J i))]) SS.1 SS.2.1 dX12_findBack_71 hl (by decide) rfl (fun ls hl => ?_)
              refine lv_aload_n SS.1 SS.2.1 dX12_findBack_73 rfl (lv_at hl 2 rfl) ?_
              refine lv_iload_n SS.1 SS.2.1 dX12_findBack_74 rfl (lv_at hl 3 rfl) ?_
              refine lv_iload_n SS.1 SS.2.1 dX12_findBack_75 rfl (lv_at hl 5 rfl) ?_
              refine j_vRi SS (As := [.int (J s), .int (J i)]) (rest := []) (c_X12_stepsOf l D o q (uI u 15 b2) s i (show 0 ≤ s ∧ s ≤ 7 from (by omega)) (show Sh u s from (p1)) (show 0 ≤ i ∧ i ≤ 100 from (by omega)) (show 0 < mN u s from (by omega))) mf_X12_stepsOf kw_1226 hG hP hP (ci := 8) (q0 := 0) rfl rfl rfl rfl hl.1 ⟨⟨Nat.le_of_ble_eq_true rfl, Nat.le_of_ble_eq_true rfl⟩, Nat.le_of_ble_eq_true rfl, Nat.le_refl _, Nat.le_refl _⟩ rfl dX12_findBack_76 (fun z_76 h_76 => ?_)
              have h_76 : z_76 = mS u s i ∧ 0 ≤ z_76 ∧ z_76 ≤ 80 := h_76
              have hst := h_76
              refine lv_istore (lv' := [(6, .int (J z_76)), (5, .int (J z_68)), (4, .int (J z_60)), (0, .ref o), (1, .int (J s)), (2, .int (J (mN u s))), (3, .int (J i))]) SS.1 SS.2.1 dX12_findBack_79 hl (by decide) rfl (fun ls hl => ?_)
              refine j_iconst SS dX12_findBack_81 ?_
              refine lv_istore (lv' := [(7, .int (J 0)), (6, .int (J z_76)), (5, .int (J z_68)), (4, .int (J z_60)), (0, .ref o), (1, .int (J s)), (2, .int (J (mN u s))), (3, .int (J i))]) SS.1 SS.2.1 dX12_findBack_82 hl (by decide) rfl (fun ls hl => ?_)
              have L_84 : ∀ (nn : Nat) (k2 : Int) (b3 : Nat → Int) (H : Heap) (locs : List Loc) (hP : va_P D.1 j_cl (mW D o q (uI u 15 b3)) H) (hS : va_S A st.heap H locs) (ls : Array Slot) (hl : lv_has ls 11 [(0, .ref o), (1, .int (J s)), (2, .int (J (mN u s))), (3, .int (J i)), (4, .int (J z_60)), (5, .int (J z_68)), (6, .int (J z_76)), (7, .int (J k2))]) (i84_0 : 0 ≤ k2 ∧ k2 ≤ 25921) (i84_1 : rows u s b3 (mN u s) i) (i84_2 : ∀ j : Int, 0 ≤ j → j < k2 → rk u s b3 i j), ((25921 : Int) - k2).toNat < nn → W pr l en (headSpec (jw yX12_findBack cX12_findBack 11 none) (jr 4 88)).room st mi (([.ref o, .int (J s)] : List Value).toArray) below meth co H locs 0 0 (MQ below (jWv (fun u' => ∃ Bf : Nat → Int, u' = (uI u 15 Bf) ∧ (rows u s Bf (mN u s) (-1))) (fun u' H => va_P D.1 j_cl (mW D o q u') H) A) (([.ref o, .int (J s)] : List Value).toArray) st 0 0 A) (F0 mi 84 ls []) := by
                intro nn
                induction nn with
                | zero => intros; omega
                | succ nn ih_84 =>
                  intro k2 b3 H locs hP hS ls hl i84_0 i84_1 i84_2 hm
                  refine lv_iload SS.1 SS.2.1 dX12_findBack_84 (lv_at hl 7 rfl) ?_
                  refine j_sipush SS dX12_findBack_86 (by decide +kernel) ?_
                  refine j_icmp_ge SS (tgt := 208) (x := k2) (y := 25921) dX12_findBack_89 (by decide) (by omega) (by decide) (fun c_89 => ?_) (fun c_89 => ?_)
                  · skip
                    refine lv_iinc (v := J (i + (-1))) (lv' := [(3, .int (J (i + (-1)))), (0, .ref o), (1, .int (J s)), (2, .int (J (mN u s))), (4, .int (J z_60)), (5, .int (J z_68)), (6, .int (J z_76)), (7, .int (J k2))]) SS.1 SS.2.1 dX12_findBack_208 hl (k := 3) rfl (J_add _ _) (by decide) rfl (fun ls hl => ?_)
                    refine lv_goto (tgt := 53) SS.1 SS.2.1 dX12_findBack_211 (by decide) ?_
                    exact ih_53 (i + (-1)) b3 _ _ hP hS ls (lv_sub hl [1, 2, 3, 0] rfl) (by omega) (⟨i84_1.1, fun i1 h1 h2 j j0 j1 => by by_cases e : i1 = i; rw [e]; exact i84_2 j j0 (by omega); exact i84_1.2 i1 (by omega) h2 j j0 j1⟩) (by omega)
                  · skip
                    refine j_bipush SS dX12_findBack_92 (by decide +kernel) ?_
                    refine lv_istore (lv' := [(8, .int (J (-9))), (0, .ref o), (1, .int (J s)), (2, .int (J (mN u s))), (3, .int (J i)), (4, .int (J z_60)), (5, .int (J z_68)), (6, .int (J z_76)), (7, .int (J k2))]) SS.1 SS.2.1 dX12_findBack_94 hl (by decide) rfl (fun ls hl => ?_)
                    refine j_iconst SS dX12_findBack_96 ?_
                    refine lv_istore (lv' := [(9, .int (J 0)), (8, .int (J (-9))), (0, .ref o), (1, .int (J s)), (2, .int (J (mN u s))), (3, .int (J i)), (4, .int (J z_60)), (5, .int (J z_68)), (6, .int (J z_76)), (7, .int (J k2))]) SS.1 SS.2.1 dX12_findBack_97 hl (by decide) rfl (fun ls hl => ?_)
                    have L_99 : ∀ (nn : Nat) (best : Int) (t : Int) (H : Heap) (locs : List Loc) (hP : va_P D.1 j_cl (mW D o q (uI u 15 b3)) H) (hS : va_S A st.heap H locs) (ls : Array Slot) (hl : lv_has ls 11 [(0, .ref o), (1, .int (J s)), (2, .int (J (mN u s))), (3, .int (J i)), (4, .int (J z_60)), (5, .int (J z_68)), (6, .int (J z_76)), (7, .int (J k2)), (8, .int (J best)), (9, .int (J t))]) (i99_0 : 0 ≤ t ∧ t ≤ mS u s i + 1) (i99_1 : bt_ u s b3 i k2 t best), (mS u s i + 1 - t).toNat < nn → W pr l en (headSpec (jw yX12_findBack cX12_findBack 11 none) (jr 4 88)).room st mi (([.ref o, .int (J s)] : List Value).toArray) below meth co H locs 0 0 (MQ below (jWv (fun u' => ∃ Bf : Nat → Int, u' = (uI u 15 Bf) ∧ (rows u s Bf (mN u s) (-1))) (fun u' H => va_P D.1 j_cl (mW D o q u') H) A) (([.ref o, .int (J s)] : List Value).toArray) st 0 0 A) (F0 mi 99 ls []) := by
                      intro nn
                      induction nn with
                      | zero => intros; omega
                      | succ nn ih_99 =>
                        intro best t  H locs hP hS ls hl i99_0 i99_1 hm
                        have hbest : -9 ≤ best ∧ best ≤ 3000 := by rcases i99_1 with q1 | q1; omega; have q2 := q1.1; have q3 := q1.2.1; omega
                        refine lv_iload SS.1 SS.2.1 dX12_findBack_99 (lv_at hl 9 rfl) ?_
                        refine lv_iload SS.1 SS.2.1 dX12_findBack_101 (lv_at hl 6 rfl) ?_
                        refine j_icmp_gt SS (tgt := 187) (x := t) (y := z_76) dX12_findBack_103 (by decide) (by omega) (by omega) (fun c_103 => ?_) (fun c_103 => ?_)
                        · skip
                          refine lv_aload_n SS.1 SS.2.1 dX12_findBack_187 rfl (lv_at hl 0 rfl) ?_
                          refine j_get SS hG hP 0 (v := .ref (q 15)) (C := RX12) (T := TX12) (N := 31) rfl rfl inX12 15 (by decide) (ref := RX12) kw_1073 rfl rfl dX12_findBack_188 ?_
                          refine j_sipush SS dX12_findBack_191 (by decide +kernel) ?_
                          refine lv_iload_n SS.1 SS.2.1 dX12_findBack_194 rfl (lv_at hl 3 rfl) ?_
                          refine j_imul SS (x := 25921) (y := i) dX12_findBack_195 ?_
                          refine lv_iload SS.1 SS.2.1 dX12_findBack_196 (lv_at hl 7 rfl) ?_
                          refine j_iadd SS (x := (25921 * i)) (y := k2) dX12_findBack_198 ?_
                          refine lv_iload SS.1 SS.2.1 dX12_findBack_199 (lv_at hl 8 rfl) ?_
                          refine j_iast SS hG hP (mW_D hD) hS 13 (n := 648025) (f := b3) rfl (z := ((25921 * i) + k2)) (v := best) (by omega) (by omega) dX12_findBack_201 (ws' := (mW D o q (uI u 15 (upI b3 (((25921 * i) + k2)).toNat best)))) rfl (fun H locs hP hS => ?_)
                          refine lv_iinc (v := J (k2 + 1)) (lv' := [(7, .int (J (k2 + 1))), (0, .ref o), (1, .int (J s)), (2, .int (J (mN u s))), (3, .int (J i)), (4, .int (J z_60)), (5, .int (J z_68)), (6, .int (J z_76)), (8, .int (J best)), (9, .int (J t))]) SS.1 SS.2.1 dX12_findBack_202 hl (k := 7) rfl (J_add _ _) (by decide) rfl (fun ls hl => ?_)
                          refine lv_goto (tgt := 84) SS.1 SS.2.1 dX12_findBack_205 (by decide) ?_
                          exact ih_84 (k2 + 1) (upI b3 (((25921 * i) + k2)).toNat best) _ _ hP hS ls (lv_sub hl [1, 2, 3, 4, 5, 6, 7, 0] rfl) (by omega) (rows_up i84_1 (by omega) (by omega) (by omega) (by omega)) (fun j j0 j1 => by by_cases e : j = k2; rw [e]; exact rk_new (by omega) (by omega) (by omega) (by omega) i99_1; exact rk_up (i84_2 j j0 (by omega)) (by omega) (by omega) (by omega) j0 (by omega)) (by omega)
                        · skip
                          have ke := km_e i84_0.1
                          have m1 := mulb (A := 80) (B := 80) (a := t) (b := z_60) (by omega) (by omega)
                          have m2 := mulb (A := 80) (B := 80) (a := t) (b := z_68) (by omega) (by omega)
                          refine lv_aload_n SS.1 SS.2.1 dX12_findBack_106 rfl (lv_at hl 0 rfl) ?_
                          refine lv_iload_n SS.1 SS.2.1 dX12_findBack_107 rfl (lv_at hl 3 rfl) ?_
                          refine j_iconst SS dX12_findBack_108 ?_
                          refine j_iadd SS (x := i) (y := 1) dX12_findBack_109 ?_
                          refine lv_iload SS.1 SS.2.1 dX12_findBack_110 (lv_at hl 7 rfl) ?_
                          refine j_sipush SS dX12_findBack_112 (by decide +kernel) ?_
                          refine j_irem SS (x := k2) (y := 161) dX12_findBack_115 (by omega) (by decide) (by decide) ?_
                          refine j_bipush SS dX12_findBack_116 (by decide +kernel) ?_
                          refine j_isub SS (x := (Int.tmod k2 161)) (y := 80) dX12_findBack_118 ?_
                          refine lv_iload SS.1 SS.2.1 dX12_findBack_119 (lv_at hl 9 rfl) ?_
                          refine lv_iload SS.1 SS.2.1 dX12_findBack_121 (lv_at hl 4 rfl) ?_
                          refine j_imul SS (x := t) (y := z_60) dX12_findBack_123 ?_
                          refine j_iadd SS (x := ((Int.tmod k2 161) - 80)) (y := (t * z_60)) dX12_findBack_124 ?_
                          refine lv_iload SS.1 SS.2.1 dX12_findBack_125 (lv_at hl 7 rfl) ?_
                          refine j_sipush SS dX12_findBack_127 (by decide +kernel) ?_
                          refine j_idiv SS (x := k2) (y := 161) dX12_findBack_130 (by omega) (by decide) (by decide) ?_
                          refine j_bipush SS dX12_findBack_131 (by decide +kernel) ?_
                          refine j_isub SS (x := (Int.tdiv k2 161)) (y := 80) dX12_findBack_133 ?_
                          refine lv_iload SS.1 SS.2.1 dX12_findBack_134 (lv_at hl 9 rfl) ?_
                          refine lv_iload SS.1 SS.2.1 dX12_findBack_136 (lv_at hl 5 rfl) ?_
                          refine j_imul SS (x := t) (y := z_68) dX12_findBack_138 ?_
                          refine j_iadd SS (x := ((Int.tdiv k2 161) - 80)) (y := (t * z_68)) dX12_findBack_139 ?_
                          refine j_vRi SS (As := [.int (J (i + 1)), .int (J (((Int.tmod k2 161) - 80) + (t * z_60))), .int (J (((Int.tdiv k2 161) - 80) + (t * z_68)))]) (rest := []) (c_X12_backAt l D o q (uI u 15 b3) (i + 1) (((Int.tmod k2 161) - 80) + (t * z_60)) (((Int.tdiv k2 161) - 80) + (t * z_68)) (show 0 ≤ (i + 1) ∧ (i + 1) ≤ 24 from (by omega)) (show -2147483648 ≤ (((Int.tmod k2 161) - 80) + (t * z_60)) ∧ (((Int.tmod k2 161) - 80) + (t * z_60)) ≤ 2147483647 from (by rw [ke.1]; omega)) (show -2147483648 ≤ (((Int.tdiv k2 161) - 80) + (t * z_68)) ∧ (((Int.tdiv k2 161) - 80) + (t * z_68)) ≤ 2147483647 from (by rw [ke.2]; omega))) mf_X12_backAt kw_1352 hG hP hP (ci := 8) (q0 := 0) rfl rfl rfl rfl hl.1 ⟨⟨Nat.le_of_ble_eq_true rfl, Nat.le_of_ble_eq_true rfl⟩, Nat.le_of_ble_eq_true rfl, Nat.le_refl _, Nat.le_refl _⟩ rfl dX12_findBack_140 (fun z_140 h_140 => ?_)
                          have h_140 : z_140 = bk (b3) (i + 1) (((Int.tmod k2 161) - 80) + (t * z_60)) (((Int.tdiv k2 161) - 80) + (t * z_68)) := h_140
                          have hv : z_140 = bk b3 (i + 1) (k2 % 161 - 80 + t * mDX u s i) (k2 / 161 - 80 + t * mDY u s i) := by rw [h_140, ke.1, ke.2, h_60.1, h_68.1]
                          have hz := vals_b (rows_v i84_1 (by omega)) (x := k2 % 161 - 80 + t * mDX u s i) (y := k2 / 161 - 80 + t * mDY u s i) (show i < i + 1 by omega) (by omega) (by omega)
                          rw [← hv] at hz
                          refine lv_istore (lv' := [(10, .int (J z_140)), (0, .ref o), (1, .int (J s)), (2, .int (J (mN u s))), (3, .int (J i)), (4, .int (J z_60)), (5, .int (J z_68)), (6, .int (J z_76)), (7, .int (J k2)), (8, .int (J best)), (9, .int (J t))]) SS.1 SS.2.1 dX12_findBack_143 hl (by decide) rfl (fun ls hl => ?_)
                          refine lv_iload SS.1 SS.2.1 dX12_findBack_145 (lv_at hl 0 rfl) ?_
                          refine j_bipush SS dX12_findBack_147 (by decide +kernel) ?_
                          refine j_icmp_eq SS (tgt := 177) (x := z_140) (y := (-9)) dX12_findBack_149 (by decide) (by omega) (by decide) (fun c_149 => ?_) (fun c_149 => ?_)
                          · skip
                            refine lv_iload SS.1 SS.2.1 dX12_findBack_177 (lv_at hl 9 rfl) ?_
                            refine lv_istore (lv' := [(8, .int (J best)), (10, .int (J z_140)), (0, .ref o), (1, .int (J s)), (2, .int (J (mN u s))), (3, .int (J i)), (4, .int (J z_60)), (5, .int (J z_68)), (6, .int (J z_76)), (7, .int (J k2)), (9, .int (J t))]) SS.1 SS.2.1 dX12_findBack_179 hl (by decide) rfl (fun ls hl => ?_)
                            refine lv_iinc (v := J (t + 1)) (lv' := [(9, .int (J (t + 1))), (8, .int (J best)), (10, .int (J z_140)), (0, .ref o), (1, .int (J s)), (2, .int (J (mN u s))), (3, .int (J i)), (4, .int (J z_60)), (5, .int (J z_68)), (6, .int (J z_76)), (7, .int (J k2))]) SS.1 SS.2.1 dX12_findBack_181 hl (k := 10) rfl (J_add _ _) (by decide) rfl (fun ls hl => ?_)
                            refine lv_goto (tgt := 99) SS.1 SS.2.1 dX12_findBack_184 (by decide) ?_
                            exact ih_99 best (t + 1) _ _ hP hS ls (lv_sub hl [3, 4, 5, 6, 7, 8, 9, 10, 1, 0] rfl) (by omega) (by first | exact bt_no i99_1 hv (Or.inl (by omega)) | exact bt_no i99_1 hv (Or.inr (by omega)) | exact bt_yes i99_1 (by omega) (by omega) hv (by omega)) (by omega)
                          · skip
                            refine lv_iload SS.1 SS.2.1 dX12_findBack_152 (lv_at hl 9 rfl) ?_
                            refine j_bipush SS dX12_findBack_154 (by decide +kernel) ?_
                            refine j_icmp_eq SS (tgt := 169) (x := best) (y := (-9)) dX12_findBack_156 (by decide) (by omega) (by decide) (fun c_156 => ?_) (fun c_156 => ?_)
                            · skip
                              refine lv_iload SS.1 SS.2.1 dX12_findBack_169 (lv_at hl 0 rfl) ?_
                              refine lv_iload SS.1 SS.2.1 dX12_findBack_171 (lv_at hl 10 rfl) ?_
                              refine j_iadd SS (x := z_140) (y := t) dX12_findBack_173 ?_
                              refine lv_goto (tgt := 179) SS.1 SS.2.1 dX12_findBack_174 (by decide) ?_
                              refine lv_istore (lv' := [(8, .int (J (z_140 + t))), (10, .int (J z_140)), (0, .ref o), (1, .int (J s)), (2, .int (J (mN u s))), (3, .int (J i)), (4, .int (J z_60)), (5, .int (J z_68)), (6, .int (J z_76)), (7, .int (J k2)), (9, .int (J t))]) SS.1 SS.2.1 dX12_findBack_179 hl (by decide) rfl (fun ls hl => ?_)
                              refine lv_iinc (v := J (t + 1)) (lv' := [(9, .int (J (t + 1))), (8, .int (J (z_140 + t))), (10, .int (J z_140)), (0, .ref o), (1, .int (J s)), (2, .int (J (mN u s))), (3, .int (J i)), (4, .int (J z_60)), (5, .int (J z_68)), (6, .int (J z_76)), (7, .int (J k2))]) SS.1 SS.2.1 dX12_findBack_181 hl (k := 10) rfl (J_add _ _) (by decide) rfl (fun ls hl => ?_)
                              refine lv_goto (tgt := 99) SS.1 SS.2.1 dX12_findBack_184 (by decide) ?_
                              exact ih_99 (z_140 + t) (t + 1) _ _ hP hS ls (lv_sub hl [3, 4, 5, 6, 7, 8, 9, 10, 1, 0] rfl) (by omega) (by first | exact bt_no i99_1 hv (Or.inl (by omega)) | exact bt_no i99_1 hv (Or.inr (by omega)) | exact bt_yes i99_1 (by omega) (by omega) hv (by omega)) (by omega)
                            · skip
                              refine lv_iload SS.1 SS.2.1 dX12_findBack_159 (lv_at hl 0 rfl) ?_
                              refine lv_iload SS.1 SS.2.1 dX12_findBack_161 (lv_at hl 10 rfl) ?_
                              refine j_iadd SS (x := z_140) (y := t) dX12_findBack_163 ?_
                              refine lv_iload SS.1 SS.2.1 dX12_findBack_164 (lv_at hl 9 rfl) ?_
                              refine j_icmp_ge SS (tgt := 177) (x := (z_140 + t)) (y := best) dX12_findBack_166 (by decide) (by omega) (by omega) (fun c_166 => ?_) (fun c_166 => ?_)
                              · skip
                                refine lv_iload SS.1 SS.2.1 dX12_findBack_177 (lv_at hl 9 rfl) ?_
                                refine lv_istore (lv' := [(8, .int (J best)), (10, .int (J z_140)), (0, .ref o), (1, .int (J s)), (2, .int (J (mN u s))), (3, .int (J i)), (4, .int (J z_60)), (5, .int (J z_68)), (6, .int (J z_76)), (7, .int (J k2)), (9, .int (J t))]) SS.1 SS.2.1 dX12_findBack_179 hl (by decide) rfl (fun ls hl => ?_)
                                refine lv_iinc (v := J (t + 1)) (lv' := [(9, .int (J (t + 1))), (8, .int (J best)), (10, .int (J z_140)), (0, .ref o), (1, .int (J s)), (2, .int (J (mN u s))), (3, .int (J i)), (4, .int (J z_60)), (5, .int (J z_68)), (6, .int (J z_76)), (7, .int (J k2))]) SS.1 SS.2.1 dX12_findBack_181 hl (k := 10) rfl (J_add _ _) (by decide) rfl (fun ls hl => ?_)
                                refine lv_goto (tgt := 99) SS.1 SS.2.1 dX12_findBack_184 (by decide) ?_
                                exact ih_99 best (t + 1) _ _ hP hS ls (lv_sub hl [3, 4, 5, 6, 7, 8, 9, 10, 1, 0] rfl) (by omega) (by first | exact bt_no i99_1 hv (Or.inl (by omega)) | exact bt_no i99_1 hv (Or.inr (by omega)) | exact bt_yes i99_1 (by omega) (by omega) hv (by omega)) (by omega)
                              · skip
                                refine lv_iload SS.1 SS.2.1 dX12_findBack_169 (lv_at hl 0 rfl) ?_
                                refine lv_iload SS.1 SS.2.1 dX12_findBack_171 (lv_at hl 10 rfl) ?_
                                refine j_iadd SS (x := z_140) (y := t) dX12_findBack_173 ?_
                                refine lv_goto (tgt := 179) SS.1 SS.2.1 dX12_findBack_174 (by decide) ?_
                                refine lv_istore (lv' := [(8, .int (J (z_140 + t))), (10, .int (J z_140)), (0, .ref o), (1, .int (J s)), (2, .int (J (mN u s))), (3, .int (J i)), (4, .int (J z_60)), (5, .int (J z_68)), (6, .int (J z_76)), (7, .int (J k2)), (9, .int (J t))]) SS.1 SS.2.1 dX12_findBack_179 hl (by decide) rfl (fun ls hl => ?_)
                                refine lv_iinc (v := J (t + 1)) (lv' := [(9, .int (J (t + 1))), (8, .int (J (z_140 + t))), (10, .int (J z_140)), (0, .ref o), (1, .int (J s)), (2, .int (J (mN u s))), (3, .int (J i)), (4, .int (J z_60)), (5, .int (J z_68)), (6, .int (J z_76)), (7, .int (J k2))]) SS.1 SS.2.1 dX12_findBack_181 hl (k := 10) rfl (J_add _ _) (by decide) rfl (fun ls hl => ?_)
                                refine lv_goto (tgt := 99) SS.1 SS.2.1 dX12_findBack_184 (by decide) ?_
                                exact ih_99 (z_140 + t) (t + 1) _ _ hP hS ls (lv_sub hl [3, 4, 5, 6, 7, 8, 9, 10, 1, 0] rfl) (by omega) (by first | exact bt_no i99_1 hv (Or.inl (by omega)) | exact bt_no i99_1 hv (Or.inr (by omega)) | exact bt_yes i99_1 (by omega) (by omega) hv (by omega)) (by omega)
                    exact L_99 ((mS u s i + 1 - (0 : Int)).toNat + 1) (-9) 0 _ _ hP hS ls (lv_sub hl [2, 3, 4, 5, 6, 7, 8, 9, 1, 0] rfl) (by omega) (bt_0) (Nat.lt_succ_self _)
              exact L_84 (((25921 : Int) - (0 : Int)).toNat + 1) 0 b2 _ _ hP hS ls (lv_sub hl [4, 5, 6, 7, 3, 2, 1, 0] rfl) (by omega) (i53_1) (fun j h1 h2 => by omega) (Nat.lt_succ_self _)
        exact L_53 ((((mN u s) - 1) + 1).toNat + 1) ((mN u s) - 1) b1 _ _ hP hS ls (lv_sub hl [1, 2, 3, 0] rfl) (by omega) (⟨by rw [show k = 25921 by omega] at i9_1; exact i9_1, fun i1 h1 h2 => by omega⟩) (Nat.lt_succ_self _)
      · skip
        refine lv_aload_n SS.1 SS.2.1 dX12_findBack_16 rfl (lv_at hl 0 rfl) ?_
        refine j_get SS hG hP 0 (v := .ref (q 15)) (C := RX12) (T := TX12) (N := 31) rfl rfl inX12 15 (by decide) (ref := RX12) kw_1073 rfl rfl dX12_findBack_17 ?_
        refine j_sipush SS dX12_findBack_20 (by decide +kernel) ?_
        refine lv_iload_n SS.1 SS.2.1 dX12_findBack_23 rfl (lv_at hl 2 rfl) ?_
        refine j_imul SS (x := 25921) (y := (mN u s)) dX12_findBack_24 ?_
        refine lv_iload_n SS.1 SS.2.1 dX12_findBack_25 rfl (lv_at hl 3 rfl) ?_
        refine j_iadd SS (x := (25921 * (mN u s))) (y := k) dX12_findBack_26 ?_
        refine lv_iload_n SS.1 SS.2.1 dX12_findBack_27 rfl (lv_at hl 3 rfl) ?_
        refine j_iconst SS dX12_findBack_28 ?_
        refine j_iconst SS dX12_findBack_29 ?_
        refine j_sRi SS (As := [.int (J 0), .int (J 0)]) (rest := [.int (J k), .int (J ((25921 * (mN u s)) + k)), .ref (q 15)]) (c_X12_spot l D 0 0 (show -2147483648 ≤ (0 : Int) ∧ (0 : Int) ≤ 2147483647 from (by omega)) (show -2147483648 ≤ (0 : Int) ∧ (0 : Int) ≤ 2147483647 from (by omega))) mf_X12_spot kw_1329 hG trivial rfl hl.1 ⟨⟨Nat.le_of_ble_eq_true rfl, Nat.le_of_ble_eq_true rfl⟩, Nat.le_of_ble_eq_true rfl, Nat.le_refl _, Nat.le_refl _⟩ rfl dX12_findBack_30 (fun z_30 h_30 => ?_)
        have h_30 : ((-80 ≤ (0 : Int) ∧ (0 : Int) ≤ 80) ∧ (-80 ≤ (0 : Int) ∧ (0 : Int) ≤ 80) ∧ z_30 = 161 * ((0 : Int) + 80) + (0 : Int) + 80) ∨ (¬ ((-80 ≤ (0 : Int) ∧ (0 : Int) ≤ 80) ∧ (-80 ≤ (0 : Int) ∧ (0 : Int) ≤ 80)) ∧ z_30 = -9) := h_30
        refine j_icmp_ne SS (tgt := 40) (x := k) (y := z_30) dX12_findBack_33 (by decide) (by omega) (by omega) (fun c_33 => ?_) (fun c_33 => ?_)
        · skip
          refine j_bipush SS dX12_findBack_40 (by decide +kernel) ?_
          refine j_iast SS hG hP (mW_D hD) hS 13 (n := 648025) (f := b1) rfl (z := ((25921 * (mN u s)) + k)) (v := (-9)) (by omega) (by omega) dX12_findBack_42 (ws' := (mW D o q (uI u 15 (upI b1 (((25921 * (mN u s)) + k)).toNat (-9))))) rfl (fun H locs hP hS => ?_)
          refine lv_iinc (v := J (k + 1)) (lv' := [(3, .int (J (k + 1))), (0, .ref o), (1, .int (J s)), (2, .int (J (mN u s)))]) SS.1 SS.2.1 dX12_findBack_43 hl (k := 3) rfl (J_add _ _) (by decide) rfl (fun ls hl => ?_)
          refine lv_goto (tgt := 9) SS.1 SS.2.1 dX12_findBack_46 (by decide) ?_
          exact ih_9 (k + 1) (upI b1 (((25921 * (mN u s)) + k)).toNat (-9)) _ _ hP hS ls (lv_sub hl [1, 2, 3, 0] rfl) (by omega) (rowN_s (by omega) (by omega) i9_1 (by omega) (by omega)) (by omega)
        · skip
          refine j_iconst SS dX12_findBack_36 ?_
          refine lv_goto (tgt := 42) SS.1 SS.2.1 dX12_findBack_37 (by decide) ?_
          refine j_iast SS hG hP (mW_D hD) hS 13 (n := 648025) (f := b1) rfl (z := ((25921 * (mN u s)) + k)) (v := 0) (by omega) (by omega) dX12_findBack_42 (ws' := (mW D o q (uI u 15 (upI b1 (((25921 * (mN u s)) + k)).toNat 0)))) rfl (fun H locs hP hS => ?_)
          refine lv_iinc (v := J (k + 1)) (lv' := [(3, .int (J (k + 1))), (0, .ref o), (1, .int (J s)), (2, .int (J (mN u s)))]) SS.1 SS.2.1 dX12_findBack_43 hl (k := 3) rfl (J_add _ _) (by decide) rfl (fun ls hl => ?_)
          refine lv_goto (tgt := 9) SS.1 SS.2.1 dX12_findBack_46 (by decide) ?_
          exact ih_9 (k + 1) (upI b1 (((25921 * (mN u s)) + k)).toNat 0) _ _ hP hS ls (lv_sub hl [1, 2, 3, 0] rfl) (by omega) (rowN_s (by omega) (by omega) i9_1 (by omega) (by omega)) (by omega)
  exact L_9 (((25921 : Int) - (0 : Int)).toNat + 1) 0 (u.1 15) _ _ hP hS ls (lv_sub hl [2, 3, 1, 0] rfl) (by omega) (fun j h1 h2 => by omega) (Nat.lt_succ_self _)


/-- where the greedy walk stands -/
def gw (Bf : Nat → Int) (fi i x y : Int) : Prop := (i ≤ fi ∧ x = 0 ∧ y = 0) ∨ (fi < i ∧ bk Bf i x y ≠ -9)
theorem gw_b {Bf : Nat → Int} {fi i x y : Int} (h : gw Bf fi i x y) : (-80 ≤ x ∧ x ≤ 80) ∧ -80 ≤ y ∧ y ≤ 80 := by
  rcases h with h | h
  · omega
  · exact bk_in h.2
/-- the witness on the way -/
def wt (u : MS) (s : Int) (Bf : Nat → Int) (i x y t : Int) : Prop := ∃ t9 : Int, t ≤ t9 ∧ t9 ≤ mS u s i ∧ bk Bf (i + 1) (x + t9 * mDX u s i) (y + t9 * mDY u s i) ≠ -9 ∧ bk Bf i x y = bk Bf (i + 1) (x + t9 * mDX u s i) (y + t9 * mDY u s i) + t9
theorem wt_0 {u : MS} {s : Int} {Bf : Nat → Int} {fi i x y n : Int} (h : gw Bf fi i x y) (hf : fi < i) (h0 : 0 ≤ i) (hr : rows u s Bf n (-1)) (hn : i < n) : wt u s Bf i x y 0 := by
  rcases h with h | h
  · omega
  · have hx := bk_in h.2
    rcases rk_at hx (hr.2 i (by omega) hn _ (by omega) (by omega)) with ⟨a, _⟩ | ⟨_, t, t0, t1, t2, t3⟩
    · exact absurd a h.2
    · exact ⟨t, t0, t1, t2, t3⟩
theorem wt_s {u : MS} {s : Int} {Bf : Nat → Int} {i x y t v w : Int} (h : wt u s Bf i x y t) (hv : v = bk Bf (i + 1) (x + t * mDX u s i) (y + t * mDY u s i)) (hw : w = bk Bf i x y) (hc : v = -9 ∨ v + t ≠ w) : wt u s Bf i x y (t + 1) := by
  obtain ⟨t9, a, b, c, d⟩ := h
  refine ⟨t9, ?_, b, c, d⟩
  by_cases e : t9 = t
  · exfalso; rw [e, ← hv] at c d; omega
  · omega
theorem gw_lt {Bf : Nat → Int} {fi i x y a b : Int} (h : gw Bf fi i x y) (hi : i < fi) : gw Bf fi (i + 1) (x + 0 * a) (y + 0 * b) := by
  rcases h with h | h
  · refine Or.inl ⟨by omega, by omega, by omega⟩
  · omega
theorem gw_eq {Bf : Nat → Int} {fi i x y a b : Int} (h : gw Bf fi i x y) (hi : i = fi) (h2 : bk Bf (fi + 1) a b ≠ -9) : gw Bf fi (i + 1) (x + a) (y + b) := by
  rcases h with ⟨_, e1, e2⟩ | h
  · refine Or.inr ⟨by omega, ?_⟩
    rw [e1, e2, Int.zero_add, Int.zero_add, hi]; exact h2
  · omega
theorem gw_gt {Bf : Nat → Int} {fi i x y : Int} (hi : fi < i) (h2 : bk Bf (i + 1) x y ≠ -9) : gw Bf fi (i + 1) x y := Or.inr ⟨by omega, h2⟩
theorem bk_first {u : MS} {s : Int} {Bf : Nat → Int} {i be fi st : Int} (hs : Sh u s) (hN : 0 < mN u s) (hr : rows u s Bf (mN u s) (-1)) (h : lp_ u s Bf (mN u s) i 1 be fi st) (hi : i = mN u s) (hp : 0 < mS u s 0) : 0 ≤ fi ∧ fi < mN u s ∧ 1 ≤ st ∧ st ≤ mS u s fi ∧ bk Bf (fi + 1) (st * mDX u s fi) (st * mDY u s fi) ≠ -9 := by
  rcases h with ⟨_, _, _, d⟩ | ⟨_, _, a, b, c, d, e⟩
  · exfalso
    have h1 := d 0 (mS u s 0) (by omega) (by omega) (Or.inl ⟨by omega, Int.le_refl _⟩)
    rw [mDX_m, mDY_m] at h1
    have h2 := bk_path hN (hs.2.1 hN) hr (mN u s - 1).toNat (by omega)
    rw [show mN u s - (((mN u s - 1).toNat : Nat) : Int) = 0 + 1 by omega] at h2
    exact h2 h1
  · exact ⟨a, b, c, d, e⟩

set_option maxHeartbeats 4000000 in
set_option maxRecDepth 100000 in
theorem c_X12_leastPart (l : Launch) (D : JD) (o : Nat) (q : Nat → Nat) (u : MS) (A : Nat → Prop) (hD : va_D A (mW D o q u)) (s : Int) (p0 : 0 ≤ s ∧ s ≤ 7) (p1 : Sh u s) (p2 : 2 < mN u s) : Met l yX12_leastPart (jw yX12_leastPart cX12_leastPart 10 (some .int)) (jr 5 118) (jP [.ref o, .int (J s)] D (fun H => va_P D.1 j_cl (mW D o q u) H)) (jWi (fun z u' => ∃ Bf : Nat → Int, ∃ tk : Nat → Int, u' = (uI (uI u 15 Bf) 16 tk) ∧ (True)) (fun u' H => va_P D.1 j_cl (mW D o q u') H) A) 0 0 A := by
  refine Met.ofW (cc := cX12_leastPart) (maxL := 10) (ret := (some .int)) (by decide) rfl ?_
  intro pr en st mi args below meth co s₁ B hml hv
  obtain ⟨rfl, hG, hP⟩ := hv
  have hr := B.returns
  have hlk := B.notSynchronized
  have SS : jS pr mi co cX12_leastPart 10 st _ RX12 := ⟨B.exec, B.bytes, hml, findClass_of_methodNamed B.named, fun w hw => atoms_spec (ws := (jw yX12_leastPart cX12_leastPart 10 (some .int))) B.pre w (List.mem_cons_of_mem _ hw)⟩
  have hl := lv_entry ([.ref o, .int (J s)]) (n := 10) (Nat.le_of_ble_eq_true rfl)
  rw [lg_entry_eq]
  generalize (lg_sl ([.ref o, .int (J s)]) ++ List.replicate (10 - (lg_sl ([.ref o, .int (J s)])).length) Slot.unset).toArray = ls at hl ⊢
  have hl : lv_has ls 10 [(0, .ref o), (1, .int (J s))] := hl
  have hS : va_S A st.heap st.heap [] := va_S.rf
  have hN := p1.1
  have hC := p1.2.2
  refine lv_aload_n SS.1 SS.2.1 dX12_leastPart_0 rfl (lv_at hl 0 rfl) ?_
  refine lv_iload_n SS.1 SS.2.1 dX12_leastPart_1 rfl (lv_at hl 1 rfl) ?_
  refine j_vWv SS (As := [.int (J s)]) (rest := []) (c_X12_findBack l D o q u A (mW_D hD) s (show 0 ≤ s ∧ s ≤ 7 from (by omega)) (show Sh u s from (p1)) (show 2 ≤ mN u s from (by omega))) mf_X12_findBack kw_1348 hG hP hP (ci := 8) (q0 := 0) rfl rfl rfl hS (fun _ h => h) rfl hl.1 ⟨⟨Nat.le_of_ble_eq_true rfl, Nat.le_of_ble_eq_true rfl⟩, Nat.le_of_ble_eq_true rfl, Nat.le_refl _, Nat.le_refl _⟩ rfl dX12_leastPart_2 (fun u2 H locs h_2 hP _ hS => ?_)
  obtain ⟨Bf_2, rfl, h_2⟩ := h_2
  have hP : va_P D.1 j_cl (mW D o q (uI u 15 Bf_2)) H := hP
  have h_2 : rows u s Bf_2 (mN u s) (-1) := h_2
  refine lv_aload_n SS.1 SS.2.1 dX12_leastPart_5 rfl (lv_at hl 0 rfl) ?_
  refine j_get SS hG hP 0 (v := .ref (q 0)) (C := RX12) (T := TX12) (N := 31) rfl rfl inX12 0 (by decide) (ref := RX12) kw_1058 rfl rfl dX12_leastPart_6 ?_
  refine lv_iload_n SS.1 SS.2.1 dX12_leastPart_9 rfl (lv_at hl 1 rfl) ?_
  refine j_iald SS hG hP 1 (n := 8) (f := (u.1 0)) rfl (z := s) (by omega) (by omega) dX12_leastPart_10 ?_
  have hN_10 := (show Sh u s from p1).1
  refine lv_istore_n (lv' := [(2, .int (J (mN u s))), (0, .ref o), (1, .int (J s))]) SS.1 SS.2.1 dX12_leastPart_11 rfl hl (by decide) rfl (fun ls hl => ?_)
  refine j_bipush SS dX12_leastPart_12 (by decide +kernel) ?_
  refine lv_istore_n (lv' := [(3, .int (J (-9))), (2, .int (J (mN u s))), (0, .ref o), (1, .int (J s))]) SS.1 SS.2.1 dX12_leastPart_14 rfl hl (by decide) rfl (fun ls hl => ?_)
  refine j_bipush SS dX12_leastPart_15 (by decide +kernel) ?_
  refine lv_istore (lv' := [(4, .int (J (-9))), (3, .int (J (-9))), (2, .int (J (mN u s))), (0, .ref o), (1, .int (J s))]) SS.1 SS.2.1 dX12_leastPart_17 hl (by decide) rfl (fun ls hl => ?_)
  refine j_iconst SS dX12_leastPart_19 ?_
  refine lv_istore (lv' := [(5, .int (J 0)), (4, .int (J (-9))), (3, .int (J (-9))), (2, .int (J (mN u s))), (0, .ref o), (1, .int (J s))]) SS.1 SS.2.1 dX12_leastPart_20 hl (by decide) rfl (fun ls hl => ?_)
  refine j_iconst SS dX12_leastPart_22 ?_
  refine lv_istore (lv' := [(6, .int (J 0)), (5, .int (J 0)), (4, .int (J (-9))), (3, .int (J (-9))), (2, .int (J (mN u s))), (0, .ref o), (1, .int (J s))]) SS.1 SS.2.1 dX12_leastPart_23 hl (by decide) rfl (fun ls hl => ?_)
  have L_25 : ∀ (nn : Nat) (be : Int) (fi : Int) (st2 : Int) (i : Int) (H : Heap) (locs : List Loc) (hP : va_P D.1 j_cl (mW D o q (uI u 15 Bf_2)) H) (hS : va_S A st.heap H locs) (ls : Array Slot) (hl : lv_has ls 10 [(0, .ref o), (1, .int (J s)), (2, .int (J (mN u s))), (3, .int (J be)), (4, .int (J fi)), (5, .int (J st2)), (6, .int (J i))]) (i25_0 : 0 ≤ i ∧ i ≤ mN u s) (i25_1 : lp_ u s Bf_2 (mN u s) i 1 be fi st2), (mN u s - i).toNat < nn → W pr l en (headSpec (jw yX12_leastPart cX12_leastPart 10 (some .int)) (jr 5 118)).room st mi (([.ref o, .int (J s)] : List Value).toArray) below meth co H locs 0 0 (MQ below (jWi (fun z u' => ∃ Bf : Nat → Int, ∃ tk : Nat → Int, u' = (uI (uI u 15 Bf) 16 tk) ∧ (True)) (fun u' H => va_P D.1 j_cl (mW D o q u') H) A) (([.ref o, .int (J s)] : List Value).toArray) st 0 0 A) (F0 mi 25 ls []) := by
    intro nn
    induction nn with
    | zero => intros; omega
    | succ nn ih_25 =>
      intro be fi st2 i  H locs hP hS ls hl i25_0 i25_1 hm
      refine lv_iload SS.1 SS.2.1 dX12_leastPart_25 (lv_at hl 6 rfl) ?_
      refine lv_iload_n SS.1 SS.2.1 dX12_leastPart_27 rfl (lv_at hl 2 rfl) ?_
      refine j_icmp_ge SS (tgt := 140) (x := i) (y := (mN u s)) dX12_leastPart_28 (by decide) (by omega) (by omega) (fun c_28 => ?_) (fun c_28 => ?_)
      · skip
        have hp := mS_p hC (by omega) (show (0 : Int) ≤ 0 by omega) (by omega)
        obtain ⟨f0, f1, f2, f3, f4⟩ := bk_first p1 (by omega) h_2 (by rw [show i = mN u s by omega] at i25_1; exact i25_1) rfl hp
        have f5 := mS_b (p1.2.1 (by omega)) f0
        refine j_iconst SS dX12_leastPart_140 ?_
        refine lv_istore (lv' := [(6, .int (J 0)), (0, .ref o), (1, .int (J s)), (2, .int (J (mN u s))), (3, .int (J be)), (4, .int (J fi)), (5, .int (J st2))]) SS.1 SS.2.1 dX12_leastPart_141 hl (by decide) rfl (fun ls hl => ?_)
        refine j_iconst SS dX12_leastPart_143 ?_
        refine lv_istore (lv' := [(7, .int (J 0)), (6, .int (J 0)), (0, .ref o), (1, .int (J s)), (2, .int (J (mN u s))), (3, .int (J be)), (4, .int (J fi)), (5, .int (J st2))]) SS.1 SS.2.1 dX12_leastPart_144 hl (by decide) rfl (fun ls hl => ?_)
        refine j_iconst SS dX12_leastPart_146 ?_
        refine lv_istore (lv' := [(8, .int (J 0)), (7, .int (J 0)), (6, .int (J 0)), (0, .ref o), (1, .int (J s)), (2, .int (J (mN u s))), (3, .int (J be)), (4, .int (J fi)), (5, .int (J st2))]) SS.1 SS.2.1 dX12_leastPart_147 hl (by decide) rfl (fun ls hl => ?_)
        have L_149 : ∀ (nn : Nat) (x : Int) (y : Int) (i2 : Int) (tk : Nat → Int) (H : Heap) (locs : List Loc) (hP : va_P D.1 j_cl (mW D o q (uI (uI u 15 Bf_2) 16 tk)) H) (hS : va_S A st.heap H locs) (ls : Array Slot) (hl : lv_has ls 10 [(0, .ref o), (1, .int (J s)), (2, .int (J (mN u s))), (3, .int (J be)), (4, .int (J fi)), (5, .int (J st2)), (6, .int (J x)), (7, .int (J y)), (8, .int (J i2))]) (i149_0 : 0 ≤ i2 ∧ i2 ≤ mN u s) (i149_1 : gw Bf_2 fi i2 x y), (mN u s - i2).toNat < nn → W pr l en (headSpec (jw yX12_leastPart cX12_leastPart 10 (some .int)) (jr 5 118)).room st mi (([.ref o, .int (J s)] : List Value).toArray) below meth co H locs 0 0 (MQ below (jWi (fun z u' => ∃ Bf : Nat → Int, ∃ tk : Nat → Int, u' = (uI (uI u 15 Bf) 16 tk) ∧ (True)) (fun u' H => va_P D.1 j_cl (mW D o q u') H) A) (([.ref o, .int (J s)] : List Value).toArray) st 0 0 A) (F0 mi 149 ls []) := by
          intro nn
          induction nn with
          | zero => intros; omega
          | succ nn ih_149 =>
            intro x y i2 tk H locs hP hS ls hl i149_0 i149_1 hm
            refine lv_iload SS.1 SS.2.1 dX12_leastPart_149 (lv_at hl 8 rfl) ?_
            refine lv_iload_n SS.1 SS.2.1 dX12_leastPart_151 rfl (lv_at hl 2 rfl) ?_
            refine j_icmp_ge SS (tgt := 335) (x := i2) (y := (mN u s)) dX12_leastPart_152 (by decide) (by omega) (by omega) (fun c_152 => ?_) (fun c_152 => ?_)
            · skip
              refine lv_iload_n SS.1 SS.2.1 dX12_leastPart_335 rfl (lv_at hl 3 rfl) ?_
              exact W.iret SS.1 SS.2.1 hr (fun t ht hW => ⟨⟨_, (uI (uI u 15 Bf_2) 16 tk), rfl, ⟨be, rfl, (⟨Bf_2, tk, rfl, trivial⟩)⟩, by show va_P D.1 j_cl (mW D o q (uI (uI u 15 Bf_2) 16 tk)) t.heap; rw [ht]; exact hP⟩, hS.F ht⟩) hS.2.2 dX12_leastPart_336 hlk
            · skip
              have hxy := gw_b i149_1
              have hst := mS_b (p1.2.1 (by omega)) (show 0 ≤ i2 by omega)
              refine lv_aload_n SS.1 SS.2.1 dX12_leastPart_155 rfl (lv_at hl 0 rfl) ?_
              refine j_get SS hG hP 0 (v := .ref (q 16)) (C := RX12) (T := TX12) (N := 31) rfl rfl inX12 16 (by decide) (ref := RX12) kw_1074 rfl rfl dX12_leastPart_156 ?_
              refine lv_iload SS.1 SS.2.1 dX12_leastPart_159 (lv_at hl 8 rfl) ?_
              refine lv_iload SS.1 SS.2.1 dX12_leastPart_161 (lv_at hl 8 rfl) ?_
              refine lv_iload SS.1 SS.2.1 dX12_leastPart_163 (lv_at hl 4 rfl) ?_
              refine j_icmp_ne SS (tgt := 173) (x := i2) (y := fi) dX12_leastPart_165 (by decide) (by omega) (by omega) (fun c_165 => ?_) (fun c_165 => ?_)
              · skip
                refine j_iconst SS dX12_leastPart_173 ?_
                refine j_iast SS hG hP (mW_D hD) hS 14 (n := 24) (f := tk) rfl (z := i2) (v := 0) (by omega) (by omega) dX12_leastPart_174 (ws' := (mW D o q (uI (uI u 15 Bf_2) 16 (upI tk (i2).toNat 0)))) rfl (fun H locs hP hS => ?_)
                refine lv_iload SS.1 SS.2.1 dX12_leastPart_175 (lv_at hl 8 rfl) ?_
                refine lv_iload SS.1 SS.2.1 dX12_leastPart_177 (lv_at hl 4 rfl) ?_
                refine j_icmp_le SS (tgt := 289) (x := i2) (y := fi) dX12_leastPart_179 (by decide) (by omega) (by omega) (fun c_179 => ?_) (fun c_179 => ?_)
                · skip
                  refine lv_iload SS.1 SS.2.1 dX12_leastPart_289 (lv_at hl 6 rfl) ?_
                  refine lv_aload_n SS.1 SS.2.1 dX12_leastPart_291 rfl (lv_at hl 0 rfl) ?_
                  refine j_get SS hG hP 0 (v := .ref (q 16)) (C := RX12) (T := TX12) (N := 31) rfl rfl inX12 16 (by decide) (ref := RX12) kw_1074 rfl rfl dX12_leastPart_292 ?_
                  refine lv_iload SS.1 SS.2.1 dX12_leastPart_295 (lv_at hl 8 rfl) ?_
                  refine j_iald SS hG hP 14 (n := 24) (f := (upI tk (i2).toNat 0)) rfl (z := i2) (by omega) (by omega) dX12_leastPart_297 ?_
                  obtain ⟨tv1, etv1⟩ : ∃ z : Int, z = ((upI tk (i2).toNat 0) (i2).toNat) := ⟨_, rfl⟩
                  rw [← etv1]
                  refine lv_aload_n SS.1 SS.2.1 dX12_leastPart_298 rfl (lv_at hl 0 rfl) ?_
                  refine lv_iload_n SS.1 SS.2.1 dX12_leastPart_299 rfl (lv_at hl 1 rfl) ?_
                  refine lv_iload SS.1 SS.2.1 dX12_leastPart_300 (lv_at hl 8 rfl) ?_
                  refine j_vRi SS (As := [.int (J s), .int (J i2)]) (rest := [.int (J tv1), .int (J x)]) (c_X12_stepX l D o q (uI (uI u 15 Bf_2) 16 (upI tk (i2).toNat 0)) s i2 (show 0 ≤ s ∧ s ≤ 7 from (by omega)) (show Sh u s from (p1)) (show 0 ≤ i2 ∧ i2 < mN u s from (by omega)) (show 2 ≤ mN u s from (by omega))) mf_X12_stepX kw_1332 hG hP hP (ci := 8) (q0 := 0) rfl rfl rfl rfl hl.1 ⟨⟨Nat.le_of_ble_eq_true rfl, Nat.le_of_ble_eq_true rfl⟩, Nat.le_of_ble_eq_true rfl, Nat.le_refl _, Nat.le_refl _⟩ rfl dX12_leastPart_302 (fun z_302 h_302 => ?_)
                  have h_302 : z_302 = mDX u s i2 ∧ -80 ≤ z_302 ∧ z_302 ≤ 80 := h_302
                  refine j_imul SS (x := tv1) (y := z_302) dX12_leastPart_305 ?_
                  refine j_iadd SS (x := x) (y := (tv1 * z_302)) dX12_leastPart_306 ?_
                  refine lv_istore (lv' := [(6, .int (J (x + (tv1 * z_302)))), (0, .ref o), (1, .int (J s)), (2, .int (J (mN u s))), (3, .int (J be)), (4, .int (J fi)), (5, .int (J st2)), (7, .int (J y)), (8, .int (J i2))]) SS.1 SS.2.1 dX12_leastPart_307 hl (by decide) rfl (fun ls hl => ?_)
                  refine lv_iload SS.1 SS.2.1 dX12_leastPart_309 (lv_at hl 7 rfl) ?_
                  refine lv_aload_n SS.1 SS.2.1 dX12_leastPart_311 rfl (lv_at hl 1 rfl) ?_
                  refine j_get SS hG hP 0 (v := .ref (q 16)) (C := RX12) (T := TX12) (N := 31) rfl rfl inX12 16 (by decide) (ref := RX12) kw_1074 rfl rfl dX12_leastPart_312 ?_
                  refine lv_iload SS.1 SS.2.1 dX12_leastPart_315 (lv_at hl 8 rfl) ?_
                  refine j_iald SS hG hP 14 (n := 24) (f := (upI tk (i2).toNat 0)) rfl (z := i2) (by omega) (by omega) dX12_leastPart_317 ?_
                  obtain ⟨tv2, etv2⟩ : ∃ z : Int, z = ((upI tk (i2).toNat 0) (i2).toNat) := ⟨_, rfl⟩
                  rw [← etv2]
                  refine lv_aload_n SS.1 SS.2.1 dX12_leastPart_318 rfl (lv_at hl 1 rfl) ?_
                  refine lv_iload_n SS.1 SS.2.1 dX12_leastPart_319 rfl (lv_at hl 2 rfl) ?_
                  refine lv_iload SS.1 SS.2.1 dX12_leastPart_320 (lv_at hl 8 rfl) ?_
                  refine j_vRi SS (As := [.int (J s), .int (J i2)]) (rest := [.int (J tv2), .int (J y)]) (c_X12_stepY l D o q (uI (uI u 15 Bf_2) 16 (upI tk (i2).toNat 0)) s i2 (show 0 ≤ s ∧ s ≤ 7 from (by omega)) (show Sh u s from (p1)) (show 0 ≤ i2 ∧ i2 < mN u s from (by omega)) (show 2 ≤ mN u s from (by omega))) mf_X12_stepY kw_1336 hG hP hP (ci := 8) (q0 := 0) rfl rfl rfl rfl hl.1 ⟨⟨Nat.le_of_ble_eq_true rfl, Nat.le_of_ble_eq_true rfl⟩, Nat.le_of_ble_eq_true rfl, Nat.le_refl _, Nat.le_refl _⟩ rfl dX12_leastPart_322 (fun z_322 h_322 => ?_)
                  have h_322 : z_322 = mDY u s i2 ∧ -80 ≤ z_322 ∧ z_322 ≤ 80 := h_322
                  refine j_imul SS (x := tv2) (y := z_322) dX12_leastPart_325 ?_
                  refine j_iadd SS (x := y) (y := (tv2 * z_322)) dX12_leastPart_326 ?_
                  refine lv_istore (lv' := [(7, .int (J (y + (tv2 * z_322)))), (6, .int (J (x + (tv1 * z_302)))), (0, .ref o), (1, .int (J s)), (2, .int (J (mN u s))), (3, .int (J be)), (4, .int (J fi)), (5, .int (J st2)), (8, .int (J i2))]) SS.1 SS.2.1 dX12_leastPart_327 hl (by decide) rfl (fun ls hl => ?_)
                  refine lv_iinc (v := J (i2 + 1)) (lv' := [(8, .int (J (i2 + 1))), (7, .int (J (y + (tv2 * z_322)))), (6, .int (J (x + (tv1 * z_302)))), (0, .ref o), (1, .int (J s)), (2, .int (J (mN u s))), (3, .int (J be)), (4, .int (J fi)), (5, .int (J st2))]) SS.1 SS.2.1 dX12_leastPart_329 hl (k := 8) rfl (J_add _ _) (by decide) rfl (fun ls hl => ?_)
                  refine lv_goto (tgt := 149) SS.1 SS.2.1 dX12_leastPart_332 (by decide) ?_
                  exact ih_149 (x + (tv1 * z_302)) (y + (tv2 * z_322)) (i2 + 1) (upI tk (i2).toNat 0) _ _ hP hS ls (lv_sub hl [3, 4, 5, 6, 7, 8, 2, 1, 0] rfl) (by omega) (by rw [etv1, etv2, upI_s, h_302.1, h_322.1]; first | exact gw_lt i149_1 (by omega) | exact gw_eq i149_1 (by omega) (by rw [show i2 = fi by omega]; exact f4) | exact gw_gt (by omega) (by rw [← hv1]; omega)) (by omega)
                · skip
                  refine j_iconst SS dX12_leastPart_182 ?_
                  refine lv_istore (lv' := [(9, .int (J 0)), (0, .ref o), (1, .int (J s)), (2, .int (J (mN u s))), (3, .int (J be)), (4, .int (J fi)), (5, .int (J st2)), (6, .int (J x)), (7, .int (J y)), (8, .int (J i2))]) SS.1 SS.2.1 dX12_leastPart_183 hl (by decide) rfl (fun ls hl => ?_)
                  have L_185 : ∀ (nn : Nat) (t2 : Int) (H : Heap) (locs : List Loc) (hP : va_P D.1 j_cl (mW D o q (uI (uI u 15 Bf_2) 16 (upI tk (i2).toNat 0))) H) (hS : va_S A st.heap H locs) (ls : Array Slot) (hl : lv_has ls 10 [(0, .ref o), (1, .int (J s)), (2, .int (J (mN u s))), (3, .int (J be)), (4, .int (J fi)), (5, .int (J st2)), (6, .int (J x)), (7, .int (J y)), (8, .int (J i2)), (9, .int (J t2))]) (i185_0 : 0 ≤ t2) (i185_1 : wt u s Bf_2 i2 x y t2), ((82 : Int) - t2).toNat < nn → W pr l en (headSpec (jw yX12_leastPart cX12_leastPart 10 (some .int)) (jr 5 118)).room st mi (([.ref o, .int (J s)] : List Value).toArray) below meth co H locs 0 0 (MQ below (jWi (fun z u' => ∃ Bf : Nat → Int, ∃ tk : Nat → Int, u' = (uI (uI u 15 Bf) 16 tk) ∧ (True)) (fun u' H => va_P D.1 j_cl (mW D o q u') H) A) (([.ref o, .int (J s)] : List Value).toArray) st 0 0 A) (F0 mi 185 ls []) := by
                    intro nn
                    induction nn with
                    | zero => intros; omega
                    | succ nn ih_185 =>
                      intro t2  H locs hP hS ls hl i185_0 i185_1 hm
                      have ht2 : t2 ≤ 80 := by obtain ⟨t9, q1, q2, _⟩ := i185_1; omega
                      refine lv_aload_n SS.1 SS.2.1 dX12_leastPart_185 rfl (lv_at hl 0 rfl) ?_
                      refine lv_iload SS.1 SS.2.1 dX12_leastPart_186 (lv_at hl 8 rfl) ?_
                      refine j_iconst SS dX12_leastPart_188 ?_
                      refine j_iadd SS (x := i2) (y := 1) dX12_leastPart_189 ?_
                      refine lv_iload SS.1 SS.2.1 dX12_leastPart_190 (lv_at hl 6 rfl) ?_
                      refine lv_iload SS.1 SS.2.1 dX12_leastPart_192 (lv_at hl 9 rfl) ?_
                      refine lv_aload_n SS.1 SS.2.1 dX12_leastPart_194 rfl (lv_at hl 0 rfl) ?_
                      refine lv_iload_n SS.1 SS.2.1 dX12_leastPart_195 rfl (lv_at hl 1 rfl) ?_
                      refine lv_iload SS.1 SS.2.1 dX12_leastPart_196 (lv_at hl 8 rfl) ?_
                      refine j_vRi SS (As := [.int (J s), .int (J i2)]) (rest := [.int (J t2), .int (J x), .int (J (i2 + 1)), .ref o]) (c_X12_stepX l D o q (uI (uI u 15 Bf_2) 16 (upI tk (i2).toNat 0)) s i2 (show 0 ≤ s ∧ s ≤ 7 from (by omega)) (show Sh u s from (p1)) (show 0 ≤ i2 ∧ i2 < mN u s from (by omega)) (show 2 ≤ mN u s from (by omega))) mf_X12_stepX kw_1332 hG hP hP (ci := 8) (q0 := 0) rfl rfl rfl rfl hl.1 ⟨⟨Nat.le_of_ble_eq_true rfl, Nat.le_of_ble_eq_true rfl⟩, Nat.le_of_ble_eq_true rfl, Nat.le_refl _, Nat.le_refl _⟩ rfl dX12_leastPart_198 (fun z_198 h_198 => ?_)
                      have h_198 : z_198 = mDX u s i2 ∧ -80 ≤ z_198 ∧ z_198 ≤ 80 := h_198
                      have m3 := mulb (A := 82) (B := 80) (a := t2) (b := z_198) (by omega) (by omega)
                      refine j_imul SS (x := t2) (y := z_198) dX12_leastPart_201 ?_
                      refine j_iadd SS (x := x) (y := (t2 * z_198)) dX12_leastPart_202 ?_
                      refine lv_iload SS.1 SS.2.1 dX12_leastPart_203 (lv_at hl 7 rfl) ?_
                      refine lv_iload SS.1 SS.2.1 dX12_leastPart_205 (lv_at hl 9 rfl) ?_
                      refine lv_aload_n SS.1 SS.2.1 dX12_leastPart_207 rfl (lv_at hl 0 rfl) ?_
                      refine lv_iload_n SS.1 SS.2.1 dX12_leastPart_208 rfl (lv_at hl 1 rfl) ?_
                      refine lv_iload SS.1 SS.2.1 dX12_leastPart_209 (lv_at hl 8 rfl) ?_
                      refine j_vRi SS (As := [.int (J s), .int (J i2)]) (rest := [.int (J t2), .int (J y), .int (J (x + (t2 * z_198))), .int (J (i2 + 1)), .ref o]) (c_X12_stepY l D o q (uI (uI u 15 Bf_2) 16 (upI tk (i2).toNat 0)) s i2 (show 0 ≤ s ∧ s ≤ 7 from (by omega)) (show Sh u s from (p1)) (show 0 ≤ i2 ∧ i2 < mN u s from (by omega)) (show 2 ≤ mN u s from (by omega))) mf_X12_stepY kw_1336 hG hP hP (ci := 8) (q0 := 0) rfl rfl rfl rfl hl.1 ⟨⟨Nat.le_of_ble_eq_true rfl, Nat.le_of_ble_eq_true rfl⟩, Nat.le_of_ble_eq_true rfl, Nat.le_refl _, Nat.le_refl _⟩ rfl dX12_leastPart_211 (fun z_211 h_211 => ?_)
                      have h_211 : z_211 = mDY u s i2 ∧ -80 ≤ z_211 ∧ z_211 ≤ 80 := h_211
                      have m4 := mulb (A := 82) (B := 80) (a := t2) (b := z_211) (by omega) (by omega)
                      refine j_imul SS (x := t2) (y := z_211) dX12_leastPart_214 ?_
                      refine j_iadd SS (x := y) (y := (t2 * z_211)) dX12_leastPart_215 ?_
                      refine j_vRi SS (As := [.int (J (i2 + 1)), .int (J (x + (t2 * z_198))), .int (J (y + (t2 * z_211)))]) (rest := []) (c_X12_backAt l D o q (uI (uI u 15 Bf_2) 16 (upI tk (i2).toNat 0)) (i2 + 1) (x + (t2 * z_198)) (y + (t2 * z_211)) (show 0 ≤ (i2 + 1) ∧ (i2 + 1) ≤ 24 from (by omega)) (show -2147483648 ≤ (x + (t2 * z_198)) ∧ (x + (t2 * z_198)) ≤ 2147483647 from (by omega)) (show -2147483648 ≤ (y + (t2 * z_211)) ∧ (y + (t2 * z_211)) ≤ 2147483647 from (by omega))) mf_X12_backAt kw_1352 hG hP hP (ci := 8) (q0 := 0) rfl rfl rfl rfl hl.1 ⟨⟨Nat.le_of_ble_eq_true rfl, Nat.le_of_ble_eq_true rfl⟩, Nat.le_of_ble_eq_true rfl, Nat.le_refl _, Nat.le_refl _⟩ rfl dX12_leastPart_216 (fun z_216 h_216 => ?_)
                      have h_216 : z_216 = bk (Bf_2) (i2 + 1) (x + (t2 * z_198)) (y + (t2 * z_211)) := h_216
                      have hv1 : z_216 = bk Bf_2 (i2 + 1) (x + t2 * mDX u s i2) (y + t2 * mDY u s i2) := by rw [h_216, h_198.1, h_211.1]
                      have hz1 := vals_b (rows_v h_2 (by omega)) (x := x + t2 * mDX u s i2) (y := y + t2 * mDY u s i2) (show -1 < i2 + 1 by omega) (by omega) (by omega)
                      rw [← hv1] at hz1
                      refine j_bipush SS dX12_leastPart_219 (by decide +kernel) ?_
                      refine j_icmp_eq SS (tgt := 274) (x := z_216) (y := (-9)) dX12_leastPart_221 (by decide) (by omega) (by decide) (fun c_221 => ?_) (fun c_221 => ?_)
                      · skip
                        refine lv_iinc (v := J (t2 + 1)) (lv' := [(9, .int (J (t2 + 1))), (0, .ref o), (1, .int (J s)), (2, .int (J (mN u s))), (3, .int (J be)), (4, .int (J fi)), (5, .int (J st2)), (6, .int (J x)), (7, .int (J y)), (8, .int (J i2))]) SS.1 SS.2.1 dX12_leastPart_274 hl (k := 9) rfl (J_add _ _) (by decide) rfl (fun ls hl => ?_)
                        refine lv_goto (tgt := 185) SS.1 SS.2.1 dX12_leastPart_277 (by decide) ?_
                        exact ih_185 (t2 + 1) _ _ hP hS ls (lv_sub hl [1, 2, 3, 4, 5, 6, 7, 8, 9, 0] rfl) (by omega) (by first | exact wt_s i185_1 hv1 rfl (Or.inl (by omega)) | exact wt_s i185_1 hv2 hw2 (Or.inr (by omega))) (by omega)
                      · skip
                        refine lv_aload_n SS.1 SS.2.1 dX12_leastPart_224 rfl (lv_at hl 0 rfl) ?_
                        refine lv_iload SS.1 SS.2.1 dX12_leastPart_225 (lv_at hl 8 rfl) ?_
                        refine j_iconst SS dX12_leastPart_227 ?_
                        refine j_iadd SS (x := i2) (y := 1) dX12_leastPart_228 ?_
                        refine lv_iload SS.1 SS.2.1 dX12_leastPart_229 (lv_at hl 6 rfl) ?_
                        refine lv_iload SS.1 SS.2.1 dX12_leastPart_231 (lv_at hl 9 rfl) ?_
                        refine lv_aload_n SS.1 SS.2.1 dX12_leastPart_233 rfl (lv_at hl 0 rfl) ?_
                        refine lv_iload_n SS.1 SS.2.1 dX12_leastPart_234 rfl (lv_at hl 1 rfl) ?_
                        refine lv_iload SS.1 SS.2.1 dX12_leastPart_235 (lv_at hl 8 rfl) ?_
                        refine j_vRi SS (As := [.int (J s), .int (J i2)]) (rest := [.int (J t2), .int (J x), .int (J (i2 + 1)), .ref o]) (c_X12_stepX l D o q (uI (uI u 15 Bf_2) 16 (upI tk (i2).toNat 0)) s i2 (show 0 ≤ s ∧ s ≤ 7 from (by omega)) (show Sh u s from (p1)) (show 0 ≤ i2 ∧ i2 < mN u s from (by omega)) (show 2 ≤ mN u s from (by omega))) mf_X12_stepX kw_1332 hG hP hP (ci := 8) (q0 := 0) rfl rfl rfl rfl hl.1 ⟨⟨Nat.le_of_ble_eq_true rfl, Nat.le_of_ble_eq_true rfl⟩, Nat.le_of_ble_eq_true rfl, Nat.le_refl _, Nat.le_refl _⟩ rfl dX12_leastPart_237 (fun z_237 h_237 => ?_)
                        have h_237 : z_237 = mDX u s i2 ∧ -80 ≤ z_237 ∧ z_237 ≤ 80 := h_237
                        have m5 := mulb (A := 82) (B := 80) (a := t2) (b := z_237) (by omega) (by omega)
                        refine j_imul SS (x := t2) (y := z_237) dX12_leastPart_240 ?_
                        refine j_iadd SS (x := x) (y := (t2 * z_237)) dX12_leastPart_241 ?_
                        refine lv_iload SS.1 SS.2.1 dX12_leastPart_242 (lv_at hl 7 rfl) ?_
                        refine lv_iload SS.1 SS.2.1 dX12_leastPart_244 (lv_at hl 9 rfl) ?_
                        refine lv_aload_n SS.1 SS.2.1 dX12_leastPart_246 rfl (lv_at hl 0 rfl) ?_
                        refine lv_iload_n SS.1 SS.2.1 dX12_leastPart_247 rfl (lv_at hl 1 rfl) ?_
                        refine lv_iload SS.1 SS.2.1 dX12_leastPart_248 (lv_at hl 8 rfl) ?_
                        refine j_vRi SS (As := [.int (J s), .int (J i2)]) (rest := [.int (J t2), .int (J y), .int (J (x + (t2 * z_237))), .int (J (i2 + 1)), .ref o]) (c_X12_stepY l D o q (uI (uI u 15 Bf_2) 16 (upI tk (i2).toNat 0)) s i2 (show 0 ≤ s ∧ s ≤ 7 from (by omega)) (show Sh u s from (p1)) (show 0 ≤ i2 ∧ i2 < mN u s from (by omega)) (show 2 ≤ mN u s from (by omega))) mf_X12_stepY kw_1336 hG hP hP (ci := 8) (q0 := 0) rfl rfl rfl rfl hl.1 ⟨⟨Nat.le_of_ble_eq_true rfl, Nat.le_of_ble_eq_true rfl⟩, Nat.le_of_ble_eq_true rfl, Nat.le_refl _, Nat.le_refl _⟩ rfl dX12_leastPart_250 (fun z_250 h_250 => ?_)
                        have h_250 : z_250 = mDY u s i2 ∧ -80 ≤ z_250 ∧ z_250 ≤ 80 := h_250
                        have m6 := mulb (A := 82) (B := 80) (a := t2) (b := z_250) (by omega) (by omega)
                        refine j_imul SS (x := t2) (y := z_250) dX12_leastPart_253 ?_
                        refine j_iadd SS (x := y) (y := (t2 * z_250)) dX12_leastPart_254 ?_
                        refine j_vRi SS (As := [.int (J (i2 + 1)), .int (J (x + (t2 * z_237))), .int (J (y + (t2 * z_250)))]) (rest := []) (c_X12_backAt l D o q (uI (uI u 15 Bf_2) 16 (upI tk (i2).toNat 0)) (i2 + 1) (x + (t2 * z_237)) (y + (t2 * z_250)) (show 0 ≤ (i2 + 1) ∧ (i2 + 1) ≤ 24 from (by omega)) (show -2147483648 ≤ (x + (t2 * z_237)) ∧ (x + (t2 * z_237)) ≤ 2147483647 from (by omega)) (show -2147483648 ≤ (y + (t2 * z_250)) ∧ (y + (t2 * z_250)) ≤ 2147483647 from (by omega))) mf_X12_backAt kw_1352 hG hP hP (ci := 8) (q0 := 0) rfl rfl rfl rfl hl.1 ⟨⟨Nat.le_of_ble_eq_true rfl, Nat.le_of_ble_eq_true rfl⟩, Nat.le_of_ble_eq_true rfl, Nat.le_refl _, Nat.le_refl _⟩ rfl dX12_leastPart_255 (fun z_255 h_255 => ?_)
                        have h_255 : z_255 = bk (Bf_2) (i2 + 1) (x + (t2 * z_237)) (y + (t2 * z_250)) := h_255
                        have hv2 : z_255 = bk Bf_2 (i2 + 1) (x + t2 * mDX u s i2) (y + t2 * mDY u s i2) := by rw [h_255, h_237.1, h_250.1]
                        refine lv_iload SS.1 SS.2.1 dX12_leastPart_258 (lv_at hl 9 rfl) ?_
                        refine j_iadd SS (x := z_255) (y := t2) dX12_leastPart_260 ?_
                        refine lv_aload_n SS.1 SS.2.1 dX12_leastPart_261 rfl (lv_at hl 0 rfl) ?_
                        refine lv_iload SS.1 SS.2.1 dX12_leastPart_262 (lv_at hl 8 rfl) ?_
                        refine lv_iload SS.1 SS.2.1 dX12_leastPart_264 (lv_at hl 6 rfl) ?_
                        refine lv_iload SS.1 SS.2.1 dX12_leastPart_266 (lv_at hl 7 rfl) ?_
                        refine j_vRi SS (As := [.int (J i2), .int (J x), .int (J y)]) (rest := [.int (J (z_255 + t2))]) (c_X12_backAt l D o q (uI (uI u 15 Bf_2) 16 (upI tk (i2).toNat 0)) i2 x y (show 0 ≤ i2 ∧ i2 ≤ 24 from (by omega)) (show -2147483648 ≤ x ∧ x ≤ 2147483647 from (by omega)) (show -2147483648 ≤ y ∧ y ≤ 2147483647 from (by omega))) mf_X12_backAt kw_1352 hG hP hP (ci := 8) (q0 := 0) rfl rfl rfl rfl hl.1 ⟨⟨Nat.le_of_ble_eq_true rfl, Nat.le_of_ble_eq_true rfl⟩, Nat.le_of_ble_eq_true rfl, Nat.le_refl _, Nat.le_refl _⟩ rfl dX12_leastPart_268 (fun z_268 h_268 => ?_)
                        have h_268 : z_268 = bk (Bf_2) i2 x y := h_268
                        have hw2 : z_268 = bk Bf_2 i2 x y := h_268
                        have hz2 := vals_b (rows_v h_2 (by omega)) (x := x) (y := y) (show -1 < i2 by omega) (by omega) (by omega)
                        rw [← hw2] at hz2
                        refine j_icmp_eq SS (tgt := 280) (x := (z_255 + t2)) (y := z_268) dX12_leastPart_271 (by decide) (by omega) (by omega) (fun c_271 => ?_) (fun c_271 => ?_)
                        · skip
                          refine lv_aload_n SS.1 SS.2.1 dX12_leastPart_280 rfl (lv_at hl 0 rfl) ?_
                          refine j_get SS hG hP 0 (v := .ref (q 16)) (C := RX12) (T := TX12) (N := 31) rfl rfl inX12 16 (by decide) (ref := RX12) kw_1074 rfl rfl dX12_leastPart_281 ?_
                          refine lv_iload SS.1 SS.2.1 dX12_leastPart_284 (lv_at hl 8 rfl) ?_
                          refine lv_iload SS.1 SS.2.1 dX12_leastPart_286 (lv_at hl 9 rfl) ?_
                          refine j_iast SS hG hP (mW_D hD) hS 14 (n := 24) (f := (upI tk (i2).toNat 0)) rfl (z := i2) (v := t2) (by omega) (by omega) dX12_leastPart_288 (ws' := (mW D o q (uI (uI u 15 Bf_2) 16 (upI (upI tk (i2).toNat 0) (i2).toNat t2)))) rfl (fun H locs hP hS => ?_)
                          refine lv_iload SS.1 SS.2.1 dX12_leastPart_289 (lv_at hl 6 rfl) ?_
                          refine lv_aload_n SS.1 SS.2.1 dX12_leastPart_291 rfl (lv_at hl 0 rfl) ?_
                          refine j_get SS hG hP 0 (v := .ref (q 16)) (C := RX12) (T := TX12) (N := 31) rfl rfl inX12 16 (by decide) (ref := RX12) kw_1074 rfl rfl dX12_leastPart_292 ?_
                          refine lv_iload SS.1 SS.2.1 dX12_leastPart_295 (lv_at hl 8 rfl) ?_
                          refine j_iald SS hG hP 14 (n := 24) (f := (upI (upI tk (i2).toNat 0) (i2).toNat t2)) rfl (z := i2) (by omega) (by omega) dX12_leastPart_297 ?_
                          obtain ⟨tv1, etv1⟩ : ∃ z : Int, z = ((upI (upI tk (i2).toNat 0) (i2).toNat t2) (i2).toNat) := ⟨_, rfl⟩
                          rw [← etv1]
                          refine lv_aload_n SS.1 SS.2.1 dX12_leastPart_298 rfl (lv_at hl 0 rfl) ?_
                          refine lv_iload_n SS.1 SS.2.1 dX12_leastPart_299 rfl (lv_at hl 1 rfl) ?_
                          refine lv_iload SS.1 SS.2.1 dX12_leastPart_300 (lv_at hl 8 rfl) ?_
                          refine j_vRi SS (As := [.int (J s), .int (J i2)]) (rest := [.int (J tv1), .int (J x)]) (c_X12_stepX l D o q (uI (uI u 15 Bf_2) 16 (upI (upI tk (i2).toNat 0) (i2).toNat t2)) s i2 (show 0 ≤ s ∧ s ≤ 7 from (by omega)) (show Sh u s from (p1)) (show 0 ≤ i2 ∧ i2 < mN u s from (by omega)) (show 2 ≤ mN u s from (by omega))) mf_X12_stepX kw_1332 hG hP hP (ci := 8) (q0 := 0) rfl rfl rfl rfl hl.1 ⟨⟨Nat.le_of_ble_eq_true rfl, Nat.le_of_ble_eq_true rfl⟩, Nat.le_of_ble_eq_true rfl, Nat.le_refl _, Nat.le_refl _⟩ rfl dX12_leastPart_302 (fun z_302 h_302 => ?_)
                          have h_302 : z_302 = mDX u s i2 ∧ -80 ≤ z_302 ∧ z_302 ≤ 80 := h_302
                          refine j_imul SS (x := tv1) (y := z_302) dX12_leastPart_305 ?_
                          refine j_iadd SS (x := x) (y := (tv1 * z_302)) dX12_leastPart_306 ?_
                          refine lv_istore (lv' := [(6, .int (J (x + (tv1 * z_302)))), (0, .ref o), (1, .int (J s)), (2, .int (J (mN u s))), (3, .int (J be)), (4, .int (J fi)), (5, .int (J st2)), (7, .int (J y)), (8, .int (J i2)), (9, .int (J t2))]) SS.1 SS.2.1 dX12_leastPart_307 hl (by decide) rfl (fun ls hl => ?_)
                          refine lv_iload SS.1 SS.2.1 dX12_leastPart_309 (lv_at hl 7 rfl) ?_
                          refine lv_aload_n SS.1 SS.2.1 dX12_leastPart_311 rfl (lv_at hl 1 rfl) ?_
                          refine j_get SS hG hP 0 (v := .ref (q 16)) (C := RX12) (T := TX12) (N := 31) rfl rfl inX12 16 (by decide) (ref := RX12) kw_1074 rfl rfl dX12_leastPart_312 ?_
                          refine lv_iload SS.1 SS.2.1 dX12_leastPart_315 (lv_at hl 8 rfl) ?_
                          refine j_iald SS hG hP 14 (n := 24) (f := (upI (upI tk (i2).toNat 0) (i2).toNat t2)) rfl (z := i2) (by omega) (by omega) dX12_leastPart_317 ?_
                          obtain ⟨tv2, etv2⟩ : ∃ z : Int, z = ((upI (upI tk (i2).toNat 0) (i2).toNat t2) (i2).toNat) := ⟨_, rfl⟩
                          rw [← etv2]
                          refine lv_aload_n SS.1 SS.2.1 dX12_leastPart_318 rfl (lv_at hl 1 rfl) ?_
                          refine lv_iload_n SS.1 SS.2.1 dX12_leastPart_319 rfl (lv_at hl 2 rfl) ?_
                          refine lv_iload SS.1 SS.2.1 dX12_leastPart_320 (lv_at hl 8 rfl) ?_
                          refine j_vRi SS (As := [.int (J s), .int (J i2)]) (rest := [.int (J tv2), .int (J y)]) (c_X12_stepY l D o q (uI (uI u 15 Bf_2) 16 (upI (upI tk (i2).toNat 0) (i2).toNat t2)) s i2 (show 0 ≤ s ∧ s ≤ 7 from (by omega)) (show Sh u s from (p1)) (show 0 ≤ i2 ∧ i2 < mN u s from (by omega)) (show 2 ≤ mN u s from (by omega))) mf_X12_stepY kw_1336 hG hP hP (ci := 8) (q0 := 0) rfl rfl rfl rfl hl.1 ⟨⟨Nat.le_of_ble_eq_true rfl, Nat.le_of_ble_eq_true rfl⟩, Nat.le_of_ble_eq_true rfl, Nat.le_refl _, Nat.le_refl _⟩ rfl dX12_leastPart_322 (fun z_322 h_322 => ?_)
                          have h_322 : z_322 = mDY u s i2 ∧ -80 ≤ z_322 ∧ z_322 ≤ 80 := h_322
                          refine j_imul SS (x := tv2) (y := z_322) dX12_leastPart_325 ?_
                          refine j_iadd SS (x := y) (y := (tv2 * z_322)) dX12_leastPart_326 ?_
                          refine lv_istore (lv' := [(7, .int (J (y + (tv2 * z_322)))), (6, .int (J (x + (tv1 * z_302)))), (0, .ref o), (1, .int (J s)), (2, .int (J (mN u s))), (3, .int (J be)), (4, .int (J fi)), (5, .int (J st2)), (8, .int (J i2)), (9, .int (J t2))]) SS.1 SS.2.1 dX12_leastPart_327 hl (by decide) rfl (fun ls hl => ?_)
                          refine lv_iinc (v := J (i2 + 1)) (lv' := [(8, .int (J (i2 + 1))), (7, .int (J (y + (tv2 * z_322)))), (6, .int (J (x + (tv1 * z_302)))), (0, .ref o), (1, .int (J s)), (2, .int (J (mN u s))), (3, .int (J be)), (4, .int (J fi)), (5, .int (J st2)), (9, .int (J t2))]) SS.1 SS.2.1 dX12_leastPart_329 hl (k := 8) rfl (J_add _ _) (by decide) rfl (fun ls hl => ?_)
                          refine lv_goto (tgt := 149) SS.1 SS.2.1 dX12_leastPart_332 (by decide) ?_
                          exact ih_149 (x + (tv1 * z_302)) (y + (tv2 * z_322)) (i2 + 1) (upI (upI tk (i2).toNat 0) (i2).toNat t2) _ _ hP hS ls (lv_sub hl [3, 4, 5, 6, 7, 8, 2, 1, 0] rfl) (by omega) (by rw [etv1, etv2, upI_s, h_302.1, h_322.1]; first | exact gw_lt i149_1 (by omega) | exact gw_eq i149_1 (by omega) (by rw [show i2 = fi by omega]; exact f4) | exact gw_gt (by omega) (by rw [← hv1]; omega)) (by omega)
                        · skip
                          refine lv_iinc (v := J (t2 + 1)) (lv' := [(9, .int (J (t2 + 1))), (0, .ref o), (1, .int (J s)), (2, .int (J (mN u s))), (3, .int (J be)), (4, .int (J fi)), (5, .int (J st2)), (6, .int (J x)), (7, .int (J y)), (8, .int (J i2))]) SS.1 SS.2.1 dX12_leastPart_274 hl (k := 9) rfl (J_add _ _) (by decide) rfl (fun ls hl => ?_)
                          refine lv_goto (tgt := 185) SS.1 SS.2.1 dX12_leastPart_277 (by decide) ?_
                          exact ih_185 (t2 + 1) _ _ hP hS ls (lv_sub hl [1, 2, 3, 4, 5, 6, 7, 8, 9, 0] rfl) (by omega) (by first | exact wt_s i185_1 hv1 rfl (Or.inl (by omega)) | exact wt_s i185_1 hv2 hw2 (Or.inr (by omega))) (by omega)
                  exact L_185 (((82 : Int) - (0 : Int)).toNat + 1) 0 _ _ hP hS ls (lv_sub hl [1, 2, 3, 4, 5, 6, 7, 8, 9, 0] rfl) (by omega) (wt_0 i149_1 (by omega) (by omega) h_2 (by omega)) (Nat.lt_succ_self _)
              · skip
                refine lv_iload SS.1 SS.2.1 dX12_leastPart_168 (lv_at hl 5 rfl) ?_
                refine lv_goto (tgt := 174) SS.1 SS.2.1 dX12_leastPart_170 (by decide) ?_
                refine j_iast SS hG hP (mW_D hD) hS 14 (n := 24) (f := tk) rfl (z := i2) (v := st2) (by omega) (by omega) dX12_leastPart_174 (ws' := (mW D o q (uI (uI u 15 Bf_2) 16 (upI tk (i2).toNat st2)))) rfl (fun H locs hP hS => ?_)
                refine lv_iload SS.1 SS.2.1 dX12_leastPart_175 (lv_at hl 8 rfl) ?_
                refine lv_iload SS.1 SS.2.1 dX12_leastPart_177 (lv_at hl 4 rfl) ?_
                refine j_icmp_le SS (tgt := 289) (x := i2) (y := fi) dX12_leastPart_179 (by decide) (by omega) (by omega) (fun c_179 => ?_) (fun c_179 => ?_)
                · skip
                  refine lv_iload SS.1 SS.2.1 dX12_leastPart_289 (lv_at hl 6 rfl) ?_
                  refine lv_aload_n SS.1 SS.2.1 dX12_leastPart_291 rfl (lv_at hl 0 rfl) ?_
                  refine j_get SS hG hP 0 (v := .ref (q 16)) (C := RX12) (T := TX12) (N := 31) rfl rfl inX12 16 (by decide) (ref := RX12) kw_1074 rfl rfl dX12_leastPart_292 ?_
                  refine lv_iload SS.1 SS.2.1 dX12_leastPart_295 (lv_at hl 8 rfl) ?_
                  refine j_iald SS hG hP 14 (n := 24) (f := (upI tk (i2).toNat st2)) rfl (z := i2) (by omega) (by omega) dX12_leastPart_297 ?_
                  obtain ⟨tv1, etv1⟩ : ∃ z : Int, z = ((upI tk (i2).toNat st2) (i2).toNat) := ⟨_, rfl⟩
                  rw [← etv1]
                  refine lv_aload_n SS.1 SS.2.1 dX12_leastPart_298 rfl (lv_at hl 0 rfl) ?_
                  refine lv_iload_n SS.1 SS.2.1 dX12_leastPart_299 rfl (lv_at hl 1 rfl) ?_
                  refine lv_iload SS.1 SS.2.1 dX12_leastPart_300 (lv_at hl 8 rfl) ?_
                  refine j_vRi SS (As := [.int (J s), .int (J i2)]) (rest := [.int (J tv1), .int (J x)]) (c_X12_stepX l D o q (uI (uI u 15 Bf_2) 16 (upI tk (i2).toNat st2)) s i2 (show 0 ≤ s ∧ s ≤ 7 from (by omega)) (show Sh u s from (p1)) (show 0 ≤ i2 ∧ i2 < mN u s from (by omega)) (show 2 ≤ mN u s from (by omega))) mf_X12_stepX kw_1332 hG hP hP (ci := 8) (q0 := 0) rfl rfl rfl rfl hl.1 ⟨⟨Nat.le_of_ble_eq_true rfl, Nat.le_of_ble_eq_true rfl⟩, Nat.le_of_ble_eq_true rfl, Nat.le_refl _, Nat.le_refl _⟩ rfl dX12_leastPart_302 (fun z_302 h_302 => ?_)
                  have h_302 : z_302 = mDX u s i2 ∧ -80 ≤ z_302 ∧ z_302 ≤ 80 := h_302
                  refine j_imul SS (x := tv1) (y := z_302) dX12_leastPart_305 ?_
                  refine j_iadd SS (x := x) (y := (tv1 * z_302)) dX12_leastPart_306 ?_
                  refine lv_istore (lv' := [(6, .int (J (x + (tv1 * z_302)))), (0, .ref o), (1, .int (J s)), (2, .int (J (mN u s))), (3, .int (J be)), (4, .int (J fi)), (5, .int (J st2)), (7, .int (J y)), (8, .int (J i2))]) SS.1 SS.2.1 dX12_leastPart_307 hl (by decide) rfl (fun ls hl => ?_)
                  refine lv_iload SS.1 SS.2.1 dX12_leastPart_309 (lv_at hl 7 rfl) ?_
                  refine lv_aload_n SS.1 SS.2.1 dX12_leastPart_311 rfl (lv_at hl 1 rfl) ?_
                  refine j_get SS hG hP 0 (v := .ref (q 16)) (C := RX12) (T := TX12) (N := 31) rfl rfl inX12 16 (by decide) (ref := RX12) kw_1074 rfl rfl dX12_leastPart_312 ?_
                  refine lv_iload SS.1 SS.2.1 dX12_leastPart_315 (lv_at hl 8 rfl) ?_
                  refine j_iald SS hG hP 14 (n := 24) (f := (upI tk (i2).toNat st2)) rfl (z := i2) (by omega) (by omega) dX12_leastPart_317 ?_
                  obtain ⟨tv2, etv2⟩ : ∃ z : Int, z = ((upI tk (i2).toNat st2) (i2).toNat) := ⟨_, rfl⟩
                  rw [← etv2]
                  refine lv_aload_n SS.1 SS.2.1 dX12_leastPart_318 rfl (lv_at hl 1 rfl) ?_
                  refine lv_iload_n SS.1 SS.2.1 dX12_leastPart_319 rfl (lv_at hl 2 rfl) ?_
                  refine lv_iload SS.1 SS.2.1 dX12_leastPart_320 (lv_at hl 8 rfl) ?_
                  refine j_vRi SS (As := [.int (J s), .int (J i2)]) (rest := [.int (J tv2), .int (J y)]) (c_X12_stepY l D o q (uI (uI u 15 Bf_2) 16 (upI tk (i2).toNat st2)) s i2 (show 0 ≤ s ∧ s ≤ 7 from (by omega)) (show Sh u s from (p1)) (show 0 ≤ i2 ∧ i2 < mN u s from (by omega)) (show 2 ≤ mN u s from (by omega))) mf_X12_stepY kw_1336 hG hP hP (ci := 8) (q0 := 0) rfl rfl rfl rfl hl.1 ⟨⟨Nat.le_of_ble_eq_true rfl, Nat.le_of_ble_eq_true rfl⟩, Nat.le_of_ble_eq_true rfl, Nat.le_refl _, Nat.le_refl _⟩ rfl dX12_leastPart_322 (fun z_322 h_322 => ?_)
                  have h_322 : z_322 = mDY u s i2 ∧ -80 ≤ z_322 ∧ z_322 ≤ 80 := h_322
                  refine j_imul SS (x := tv2) (y := z_322) dX12_leastPart_325 ?_
                  refine j_iadd SS (x := y) (y := (tv2 * z_322)) dX12_leastPart_326 ?_
                  refine lv_istore (lv' := [(7, .int (J (y + (tv2 * z_322)))), (6, .int (J (x + (tv1 * z_302)))), (0, .ref o), (1, .int (J s)), (2, .int (J (mN u s))), (3, .int (J be)), (4, .int (J fi)), (5, .int (J st2)), (8, .int (J i2))]) SS.1 SS.2.1 dX12_leastPart_327 hl (by decide) rfl (fun ls hl => ?_)
                  refine lv_iinc (v := J (i2 + 1)) (lv' := [(8, .int (J (i2 + 1))), (7, .int (J (y + (tv2 * z_322)))), (6, .int (J (x + (tv1 * z_302)))), (0, .ref o), (1, .int (J s)), (2, .int (J (mN u s))), (3, .int (J be)), (4, .int (J fi)), (5, .int (J st2))]) SS.1 SS.2.1 dX12_leastPart_329 hl (k := 8) rfl (J_add _ _) (by decide) rfl (fun ls hl => ?_)
                  refine lv_goto (tgt := 149) SS.1 SS.2.1 dX12_leastPart_332 (by decide) ?_
                  exact ih_149 (x + (tv1 * z_302)) (y + (tv2 * z_322)) (i2 + 1) (upI tk (i2).toNat st2) _ _ hP hS ls (lv_sub hl [3, 4, 5, 6, 7, 8, 2, 1, 0] rfl) (by omega) (by rw [etv1, etv2, upI_s, h_302.1, h_322.1]; first | exact gw_lt i149_1 (by omega) | exact gw_eq i149_1 (by omega) (by rw [show i2 = fi by omega]; exact f4) | exact gw_gt (by omega) (by rw [← hv1]; omega)) (by omega)
                · skip
                  refine j_iconst SS dX12_leastPart_182 ?_
                  refine lv_istore (lv' := [(9, .int (J 0)), (0, .ref o), (1, .int (J s)), (2, .int (J (mN u s))), (3, .int (J be)), (4, .int (J fi)), (5, .int (J st2)), (6, .int (J x)), (7, .int (J y)), (8, .int (J i2))]) SS.1 SS.2.1 dX12_leastPart_183 hl (by decide) rfl (fun ls hl => ?_)
                  have L_185 : ∀ (nn : Nat) (t2 : Int) (H : Heap) (locs : List Loc) (hP : va_P D.1 j_cl (mW D o q (uI (uI u 15 Bf_2) 16 (upI tk (i2).toNat st2))) H) (hS : va_S A st.heap H locs) (ls : Array Slot) (hl : lv_has ls 10 [(0, .ref o), (1, .int (J s)), (2, .int (J (mN u s))), (3, .int (J be)), (4, .int (J fi)), (5, .int (J st2)), (6, .int (J x)), (7, .int (J y)), (8, .int (J i2)), (9, .int (J t2))]) (i185_0 : 0 ≤ t2) (i185_1 : wt u s Bf_2 i2 x y t2), ((82 : Int) - t2).toNat < nn → W pr l en (headSpec (jw yX12_leastPart cX12_leastPart 10 (some .int)) (jr 5 118)).room st mi (([.ref o, .int (J s)] : List Value).toArray) below meth co H locs 0 0 (MQ below (jWi (fun z u' => ∃ Bf : Nat → Int, ∃ tk : Nat → Int, u' = (uI (uI u 15 Bf) 16 tk) ∧ (True)) (fun u' H => va_P D.1 j_cl (mW D o q u') H) A) (([.ref o, .int (J s)] : List Value).toArray) st 0 0 A) (F0 mi 185 ls []) := by
                    intro nn
                    induction nn with
                    | zero => intros; omega
                    | succ nn ih_185 =>
                      intro t2  H locs hP hS ls hl i185_0 i185_1 hm
                      have ht2 : t2 ≤ 80 := by obtain ⟨t9, q1, q2, _⟩ := i185_1; omega
                      refine lv_aload_n SS.1 SS.2.1 dX12_leastPart_185 rfl (lv_at hl 0 rfl) ?_
                      refine lv_iload SS.1 SS.2.1 dX12_leastPart_186 (lv_at hl 8 rfl) ?_
                      refine j_iconst SS dX12_leastPart_188 ?_
                      refine j_iadd SS (x := i2) (y := 1) dX12_leastPart_189 ?_
                      refine lv_iload SS.1 SS.2.1 dX12_leastPart_190 (lv_at hl 6 rfl) ?_
                      refine lv_iload SS.1 SS.2.1 dX12_leastPart_192 (lv_at hl 9 rfl) ?_
                      refine lv_aload_n SS.1 SS.2.1 dX12_leastPart_194 rfl (lv_at hl 0 rfl) ?_
                      refine lv_iload_n SS.1 SS.2.1 dX12_leastPart_195 rfl (lv_at hl 1 rfl) ?_
                      refine lv_iload SS.1 SS.2.1 dX12_leastPart_196 (lv_at hl 8 rfl) ?_
                      refine j_vRi SS (As := [.int (J s), .int (J i2)]) (rest := [.int (J t2), .int (J x), .int (J (i2 + 1)), .ref o]) (c_X12_stepX l D o q (uI (uI u 15 Bf_2) 16 (upI tk (i2).toNat st2)) s i2 (show 0 ≤ s ∧ s ≤ 7 from (by omega)) (show Sh u s from (p1)) (show 0 ≤ i2 ∧ i2 < mN u s from (by omega)) (show 2 ≤ mN u s from (by omega))) mf_X12_stepX kw_1332 hG hP hP (ci := 8) (q0 := 0) rfl rfl rfl rfl hl.1 ⟨⟨Nat.le_of_ble_eq_true rfl, Nat.le_of_ble_eq_true rfl⟩, Nat.le_of_ble_eq_true rfl, Nat.le_refl _, Nat.le_refl _⟩ rfl dX12_leastPart_198 (fun z_198 h_198 => ?_)
                      have h_198 : z_198 = mDX u s i2 ∧ -80 ≤ z_198 ∧ z_198 ≤ 80 := h_198
                      have m3 := mulb (A := 82) (B := 80) (a := t2) (b := z_198) (by omega) (by omega)
                      refine j_imul SS (x := t2) (y := z_198) dX12_leastPart_201 ?_
                      refine j_iadd SS (x := x) (y := (t2 * z_198)) dX12_leastPart_202 ?_
                      refine lv_iload SS.1 SS.2.1 dX12_leastPart_203 (lv_at hl 7 rfl) ?_
                      refine lv_iload SS.1 SS.2.1 dX12_leastPart_205 (lv_at hl 9 rfl) ?_
                      refine lv_aload_n SS.1 SS.2.1 dX12_leastPart_207 rfl (lv_at hl 0 rfl) ?_
                      refine lv_iload_n SS.1 SS.2.1 dX12_leastPart_208 rfl (lv_at hl 1 rfl) ?_
                      refine lv_iload SS.1 SS.2.1 dX12_leastPart_209 (lv_at hl 8 rfl) ?_
                      refine j_vRi SS (As := [.int (J s), .int (J i2)]) (rest := [.int (J t2), .int (J y), .int (J (x + (t2 * z_198))), .int (J (i2 + 1)), .ref o]) (c_X12_stepY l D o q (uI (uI u 15 Bf_2) 16 (upI tk (i2).toNat st2)) s i2 (show 0 ≤ s ∧ s ≤ 7 from (by omega)) (show Sh u s from (p1)) (show 0 ≤ i2 ∧ i2 < mN u s from (by omega)) (show 2 ≤ mN u s from (by omega))) mf_X12_stepY kw_1336 hG hP hP (ci := 8) (q0 := 0) rfl rfl rfl rfl hl.1 ⟨⟨Nat.le_of_ble_eq_true rfl, Nat.le_of_ble_eq_true rfl⟩, Nat.le_of_ble_eq_true rfl, Nat.le_refl _, Nat.le_refl _⟩ rfl dX12_leastPart_211 (fun z_211 h_211 => ?_)
                      have h_211 : z_211 = mDY u s i2 ∧ -80 ≤ z_211 ∧ z_211 ≤ 80 := h_211
                      have m4 := mulb (A := 82) (B := 80) (a := t2) (b := z_211) (by omega) (by omega)
                      refine j_imul SS (x := t2) (y := z_211) dX12_leastPart_214 ?_
                      refine j_iadd SS (x := y) (y := (t2 * z_211)) dX12_leastPart_215 ?_
                      refine j_vRi SS (As := [.int (J (i2 + 1)), .int (J (x + (t2 * z_198))), .int (J (y + (t2 * z_211)))]) (rest := []) (c_X12_backAt l D o q (uI (uI u 15 Bf_2) 16 (upI tk (i2).toNat st2)) (i2 + 1) (x + (t2 * z_198)) (y + (t2 * z_211)) (show 0 ≤ (i2 + 1) ∧ (i2 + 1) ≤ 24 from (by omega)) (show -2147483648 ≤ (x + (t2 * z_198)) ∧ (x + (t2 * z_198)) ≤ 2147483647 from (by omega)) (show -2147483648 ≤ (y + (t2 * z_211)) ∧ (y + (t2 * z_211)) ≤ 2147483647 from (by omega))) mf_X12_backAt kw_1352 hG hP hP (ci := 8) (q0 := 0) rfl rfl rfl rfl hl.1 ⟨⟨Nat.le_of_ble_eq_true rfl, Nat.le_of_ble_eq_true rfl⟩, Nat.le_of_ble_eq_true rfl, Nat.le_refl _, Nat.le_refl _⟩ rfl dX12_leastPart_216 (fun z_216 h_216 => ?_)
                      have h_216 : z_216 = bk (Bf_2) (i2 + 1) (x + (t2 * z_198)) (y + (t2 * z_211)) := h_216
                      have hv1 : z_216 = bk Bf_2 (i2 + 1) (x + t2 * mDX u s i2) (y + t2 * mDY u s i2) := by rw [h_216, h_198.1, h_211.1]
                      have hz1 := vals_b (rows_v h_2 (by omega)) (x := x + t2 * mDX u s i2) (y := y + t2 * mDY u s i2) (show -1 < i2 + 1 by omega) (by omega) (by omega)
                      rw [← hv1] at hz1
                      refine j_bipush SS dX12_leastPart_219 (by decide +kernel) ?_
                      refine j_icmp_eq SS (tgt := 274) (x := z_216) (y := (-9)) dX12_leastPart_221 (by decide) (by omega) (by decide) (fun c_221 => ?_) (fun c_221 => ?_)
                      · skip
                        refine lv_iinc (v := J (t2 + 1)) (lv' := [(9, .int (J (t2 + 1))), (0, .ref o), (1, .int (J s)), (2, .int (J (mN u s))), (3, .int (J be)), (4, .int (J fi)), (5, .int (J st2)), (6, .int (J x)), (7, .int (J y)), (8, .int (J i2))]) SS.1 SS.2.1 dX12_leastPart_274 hl (k := 9) rfl (J_add _ _) (by decide) rfl (fun ls hl => ?_)
                        refine lv_goto (tgt := 185) SS.1 SS.2.1 dX12_leastPart_277 (by decide) ?_
                        exact ih_185 (t2 + 1) _ _ hP hS ls (lv_sub hl [1, 2, 3, 4, 5, 6, 7, 8, 9, 0] rfl) (by omega) (by first | exact wt_s i185_1 hv1 rfl (Or.inl (by omega)) | exact wt_s i185_1 hv2 hw2 (Or.inr (by omega))) (by omega)
                      · skip
                        refine lv_aload_n SS.1 SS.2.1 dX12_leastPart_224 rfl (lv_at hl 0 rfl) ?_
                        refine lv_iload SS.1 SS.2.1 dX12_leastPart_225 (lv_at hl 8 rfl) ?_
                        refine j_iconst SS dX12_leastPart_227 ?_
                        refine j_iadd SS (x := i2) (y := 1) dX12_leastPart_228 ?_
                        refine lv_iload SS.1 SS.2.1 dX12_leastPart_229 (lv_at hl 6 rfl) ?_
                        refine lv_iload SS.1 SS.2.1 dX12_leastPart_231 (lv_at hl 9 rfl) ?_
                        refine lv_aload_n SS.1 SS.2.1 dX12_leastPart_233 rfl (lv_at hl 0 rfl) ?_
                        refine lv_iload_n SS.1 SS.2.1 dX12_leastPart_234 rfl (lv_at hl 1 rfl) ?_
                        refine lv_iload SS.1 SS.2.1 dX12_leastPart_235 (lv_at hl 8 rfl) ?_
                        refine j_vRi SS (As := [.int (J s), .int (J i2)]) (rest := [.int (J t2), .int (J x), .int (J (i2 + 1)), .ref o]) (c_X12_stepX l D o q (uI (uI u 15 Bf_2) 16 (upI tk (i2).toNat st2)) s i2 (show 0 ≤ s ∧ s ≤ 7 from (by omega)) (show Sh u s from (p1)) (show 0 ≤ i2 ∧ i2 < mN u s from (by omega)) (show 2 ≤ mN u s from (by omega))) mf_X12_stepX kw_1332 hG hP hP (ci := 8) (q0 := 0) rfl rfl rfl rfl hl.1 ⟨⟨Nat.le_of_ble_eq_true rfl, Nat.le_of_ble_eq_true rfl⟩, Nat.le_of_ble_eq_true rfl, Nat.le_refl _, Nat.le_refl _⟩ rfl dX12_leastPart_237 (fun z_237 h_237 => ?_)
                        have h_237 : z_237 = mDX u s i2 ∧ -80 ≤ z_237 ∧ z_237 ≤ 80 := h_237
                        have m5 := mulb (A := 82) (B := 80) (a := t2) (b := z_237) (by omega) (by omega)
                        refine j_imul SS (x := t2) (y := z_237) dX12_leastPart_240 ?_
                        refine j_iadd SS (x := x) (y := (t2 * z_237)) dX12_leastPart_241 ?_
                        refine lv_iload SS.1 SS.2.1 dX12_leastPart_242 (lv_at hl 7 rfl) ?_
                        refine lv_iload SS.1 SS.2.1 dX12_leastPart_244 (lv_at hl 9 rfl) ?_
                        refine lv_aload_n SS.1 SS.2.1 dX12_leastPart_246 rfl (lv_at hl 0 rfl) ?_
                        refine lv_iload_n SS.1 SS.2.1 dX12_leastPart_247 rfl (lv_at hl 1 rfl) ?_
                        refine lv_iload SS.1 SS.2.1 dX12_leastPart_248 (lv_at hl 8 rfl) ?_
                        refine j_vRi SS (As := [.int (J s), .int (J i2)]) (rest := [.int (J t2), .int (J y), .int (J (x + (t2 * z_237))), .int (J (i2 + 1)), .ref o]) (c_X12_stepY l D o q (uI (uI u 15 Bf_2) 16 (upI tk (i2).toNat st2)) s i2 (show 0 ≤ s ∧ s ≤ 7 from (by omega)) (show Sh u s from (p1)) (show 0 ≤ i2 ∧ i2 < mN u s from (by omega)) (show 2 ≤ mN u s from (by omega))) mf_X12_stepY kw_1336 hG hP hP (ci := 8) (q0 := 0) rfl rfl rfl rfl hl.1 ⟨⟨Nat.le_of_ble_eq_true rfl, Nat.le_of_ble_eq_true rfl⟩, Nat.le_of_ble_eq_true rfl, Nat.le_refl _, Nat.le_refl _⟩ rfl dX12_leastPart_250 (fun z_250 h_250 => ?_)
                        have h_250 : z_250 = mDY u s i2 ∧ -80 ≤ z_250 ∧ z_250 ≤ 80 := h_250
                        have m6 := mulb (A := 82) (B := 80) (a := t2) (b := z_250) (by omega) (by omega)
                        refine j_imul SS (x := t2) (y := z_250) dX12_leastPart_253 ?_
                        refine j_iadd SS (x := y) (y := (t2 * z_250)) dX12_leastPart_254 ?_
                        refine j_vRi SS (As := [.int (J (i2 + 1)), .int (J (x + (t2 * z_237))), .int (J (y + (t2 * z_250)))]) (rest := []) (c_X12_backAt l D o q (uI (uI u 15 Bf_2) 16 (upI tk (i2).toNat st2)) (i2 + 1) (x + (t2 * z_237)) (y + (t2 * z_250)) (show 0 ≤ (i2 + 1) ∧ (i2 + 1) ≤ 24 from (by omega)) (show -2147483648 ≤ (x + (t2 * z_237)) ∧ (x + (t2 * z_237)) ≤ 2147483647 from (by omega)) (show -2147483648 ≤ (y + (t2 * z_250)) ∧ (y + (t2 * z_250)) ≤ 2147483647 from (by omega))) mf_X12_backAt kw_1352 hG hP hP (ci := 8) (q0 := 0) rfl rfl rfl rfl hl.1 ⟨⟨Nat.le_of_ble_eq_true rfl, Nat.le_of_ble_eq_true rfl⟩, Nat.le_of_ble_eq_true rfl, Nat.le_refl _, Nat.le_refl _⟩ rfl dX12_leastPart_255 (fun z_255 h_255 => ?_)
                        have h_255 : z_255 = bk (Bf_2) (i2 + 1) (x + (t2 * z_237)) (y + (t2 * z_250)) := h_255
                        have hv2 : z_255 = bk Bf_2 (i2 + 1) (x + t2 * mDX u s i2) (y + t2 * mDY u s i2) := by rw [h_255, h_237.1, h_250.1]
                        refine lv_iload SS.1 SS.2.1 dX12_leastPart_258 (lv_at hl 9 rfl) ?_
                        refine j_iadd SS (x := z_255) (y := t2) dX12_leastPart_260 ?_
                        refine lv_aload_n SS.1 SS.2.1 dX12_leastPart_261 rfl (lv_at hl 0 rfl) ?_
                        refine lv_iload SS.1 SS.2.1 dX12_leastPart_262 (lv_at hl 8 rfl) ?_
                        refine lv_iload SS.1 SS.2.1 dX12_leastPart_264 (lv_at hl 6 rfl) ?_
                        refine lv_iload SS.1 SS.2.1 dX12_leastPart_266 (lv_at hl 7 rfl) ?_
                        refine j_vRi SS (As := [.int (J i2), .int (J x), .int (J y)]) (rest := [.int (J (z_255 + t2))]) (c_X12_backAt l D o q (uI (uI u 15 Bf_2) 16 (upI tk (i2).toNat st2)) i2 x y (show 0 ≤ i2 ∧ i2 ≤ 24 from (by omega)) (show -2147483648 ≤ x ∧ x ≤ 2147483647 from (by omega)) (show -2147483648 ≤ y ∧ y ≤ 2147483647 from (by omega))) mf_X12_backAt kw_1352 hG hP hP (ci := 8) (q0 := 0) rfl rfl rfl rfl hl.1 ⟨⟨Nat.le_of_ble_eq_true rfl, Nat.le_of_ble_eq_true rfl⟩, Nat.le_of_ble_eq_true rfl, Nat.le_refl _, Nat.le_refl _⟩ rfl dX12_leastPart_268 (fun z_268 h_268 => ?_)
                        have h_268 : z_268 = bk (Bf_2) i2 x y := h_268
                        have hw2 : z_268 = bk Bf_2 i2 x y := h_268
                        have hz2 := vals_b (rows_v h_2 (by omega)) (x := x) (y := y) (show -1 < i2 by omega) (by omega) (by omega)
                        rw [← hw2] at hz2
                        refine j_icmp_eq SS (tgt := 280) (x := (z_255 + t2)) (y := z_268) dX12_leastPart_271 (by decide) (by omega) (by omega) (fun c_271 => ?_) (fun c_271 => ?_)
                        · skip
                          refine lv_aload_n SS.1 SS.2.1 dX12_leastPart_280 rfl (lv_at hl 0 rfl) ?_
                          refine j_get SS hG hP 0 (v := .ref (q 16)) (C := RX12) (T := TX12) (N := 31) rfl rfl inX12 16 (by decide) (ref := RX12) kw_1074 rfl rfl dX12_leastPart_281 ?_
                          refine lv_iload SS.1 SS.2.1 dX12_leastPart_284 (lv_at hl 8 rfl) ?_
                          refine lv_iload SS.1 SS.2.1 dX12_leastPart_286 (lv_at hl 9 rfl) ?_
                          refine j_iast SS hG hP (mW_D hD) hS 14 (n := 24) (f := (upI tk (i2).toNat st2)) rfl (z := i2) (v := t2) (by omega) (by omega) dX12_leastPart_288 (ws' := (mW D o q (uI (uI u 15 Bf_2) 16 (upI (upI tk (i2).toNat st2) (i2).toNat t2)))) rfl (fun H locs hP hS => ?_)
                          refine lv_iload SS.1 SS.2.1 dX12_leastPart_289 (lv_at hl 6 rfl) ?_
                          refine lv_aload_n SS.1 SS.2.1 dX12_leastPart_291 rfl (lv_at hl 0 rfl) ?_
                          refine j_get SS hG hP 0 (v := .ref (q 16)) (C := RX12) (T := TX12) (N := 31) rfl rfl inX12 16 (by decide) (ref := RX12) kw_1074 rfl rfl dX12_leastPart_292 ?_
                          refine lv_iload SS.1 SS.2.1 dX12_leastPart_295 (lv_at hl 8 rfl) ?_
                          refine j_iald SS hG hP 14 (n := 24) (f := (upI (upI tk (i2).toNat st2) (i2).toNat t2)) rfl (z := i2) (by omega) (by omega) dX12_leastPart_297 ?_
                          obtain ⟨tv1, etv1⟩ : ∃ z : Int, z = ((upI (upI tk (i2).toNat st2) (i2).toNat t2) (i2).toNat) := ⟨_, rfl⟩
                          rw [← etv1]
                          refine lv_aload_n SS.1 SS.2.1 dX12_leastPart_298 rfl (lv_at hl 0 rfl) ?_
                          refine lv_iload_n SS.1 SS.2.1 dX12_leastPart_299 rfl (lv_at hl 1 rfl) ?_
                          refine lv_iload SS.1 SS.2.1 dX12_leastPart_300 (lv_at hl 8 rfl) ?_
                          refine j_vRi SS (As := [.int (J s), .int (J i2)]) (rest := [.int (J tv1), .int (J x)]) (c_X12_stepX l D o q (uI (uI u 15 Bf_2) 16 (upI (upI tk (i2).toNat st2) (i2).toNat t2)) s i2 (show 0 ≤ s ∧ s ≤ 7 from (by omega)) (show Sh u s from (p1)) (show 0 ≤ i2 ∧ i2 < mN u s from (by omega)) (show 2 ≤ mN u s from (by omega))) mf_X12_stepX kw_1332 hG hP hP (ci := 8) (q0 := 0) rfl rfl rfl rfl hl.1 ⟨⟨Nat.le_of_ble_eq_true rfl, Nat.le_of_ble_eq_true rfl⟩, Nat.le_of_ble_eq_true rfl, Nat.le_refl _, Nat.le_refl _⟩ rfl dX12_leastPart_302 (fun z_302 h_302 => ?_)
                          have h_302 : z_302 = mDX u s i2 ∧ -80 ≤ z_302 ∧ z_302 ≤ 80 := h_302
                          refine j_imul SS (x := tv1) (y := z_302) dX12_leastPart_305 ?_
                          refine j_iadd SS (x := x) (y := (tv1 * z_302)) dX12_leastPart_306 ?_
                          refine lv_istore (lv' := [(6, .int (J (x + (tv1 * z_302)))), (0, .ref o), (1, .int (J s)), (2, .int (J (mN u s))), (3, .int (J be)), (4, .int (J fi)), (5, .int (J st2)), (7, .int (J y)), (8, .int (J i2)), (9, .int (J t2))]) SS.1 SS.2.1 dX12_leastPart_307 hl (by decide) rfl (fun ls hl => ?_)
                          refine lv_iload SS.1 SS.2.1 dX12_leastPart_309 (lv_at hl 7 rfl) ?_
                          refine lv_aload_n SS.1 SS.2.1 dX12_leastPart_311 rfl (lv_at hl 1 rfl) ?_
                          refine j_get SS hG hP 0 (v := .ref (q 16)) (C := RX12) (T := TX12) (N := 31) rfl rfl inX12 16 (by decide) (ref := RX12) kw_1074 rfl rfl dX12_leastPart_312 ?_
                          refine lv_iload SS.1 SS.2.1 dX12_leastPart_315 (lv_at hl 8 rfl) ?_
                          refine j_iald SS hG hP 14 (n := 24) (f := (upI (upI tk (i2).toNat st2) (i2).toNat t2)) rfl (z := i2) (by omega) (by omega) dX12_leastPart_317 ?_
                          obtain ⟨tv2, etv2⟩ : ∃ z : Int, z = ((upI (upI tk (i2).toNat st2) (i2).toNat t2) (i2).toNat) := ⟨_, rfl⟩
                          rw [← etv2]
                          refine lv_aload_n SS.1 SS.2.1 dX12_leastPart_318 rfl (lv_at hl 1 rfl) ?_
                          refine lv_iload_n SS.1 SS.2.1 dX12_leastPart_319 rfl (lv_at hl 2 rfl) ?_
                          refine lv_iload SS.1 SS.2.1 dX12_leastPart_320 (lv_at hl 8 rfl) ?_
                          refine j_vRi SS (As := [.int (J s), .int (J i2)]) (rest := [.int (J tv2), .int (J y)]) (c_X12_stepY l D o q (uI (uI u 15 Bf_2) 16 (upI (upI tk (i2).toNat st2) (i2).toNat t2)) s i2 (show 0 ≤ s ∧ s ≤ 7 from (by omega)) (show Sh u s from (p1)) (show 0 ≤ i2 ∧ i2 < mN u s from (by omega)) (show 2 ≤ mN u s from (by omega))) mf_X12_stepY kw_1336 hG hP hP (ci := 8) (q0 := 0) rfl rfl rfl rfl hl.1 ⟨⟨Nat.le_of_ble_eq_true rfl, Nat.le_of_ble_eq_true rfl⟩, Nat.le_of_ble_eq_true rfl, Nat.le_refl _, Nat.le_refl _⟩ rfl dX12_leastPart_322 (fun z_322 h_322 => ?_)
                          have h_322 : z_322 = mDY u s i2 ∧ -80 ≤ z_322 ∧ z_322 ≤ 80 := h_322
                          refine j_imul SS (x := tv2) (y := z_322) dX12_leastPart_325 ?_
                          refine j_iadd SS (x := y) (y := (tv2 * z_322)) dX12_leastPart_326 ?_
                          refine lv_istore (lv' := [(7, .int (J (y + (tv2 * z_322)))), (6, .int (J (x + (tv1 * z_302)))), (0, .ref o), (1, .int (J s)), (2, .int (J (mN u s))), (3, .int (J be)), (4, .int (J fi)), (5, .int (J st2)), (8, .int (J i2)), (9, .int (J t2))]) SS.1 SS.2.1 dX12_leastPart_327 hl (by decide) rfl (fun ls hl => ?_)
                          refine lv_iinc (v := J (i2 + 1)) (lv' := [(8, .int (J (i2 + 1))), (7, .int (J (y + (tv2 * z_322)))), (6, .int (J (x + (tv1 * z_302)))), (0, .ref o), (1, .int (J s)), (2, .int (J (mN u s))), (3, .int (J be)), (4, .int (J fi)), (5, .int (J st2)), (9, .int (J t2))]) SS.1 SS.2.1 dX12_leastPart_329 hl (k := 8) rfl (J_add _ _) (by decide) rfl (fun ls hl => ?_)
                          refine lv_goto (tgt := 149) SS.1 SS.2.1 dX12_leastPart_332 (by decide) ?_
                          exact ih_149 (x + (tv1 * z_302)) (y + (tv2 * z_322)) (i2 + 1) (upI (upI tk (i2).toNat st2) (i2).toNat t2) _ _ hP hS ls (lv_sub hl [3, 4, 5, 6, 7, 8, 2, 1, 0] rfl) (by omega) (by rw [etv1, etv2, upI_s, h_302.1, h_322.1]; first | exact gw_lt i149_1 (by omega) | exact gw_eq i149_1 (by omega) (by rw [show i2 = fi by omega]; exact f4) | exact gw_gt (by omega) (by rw [← hv1]; omega)) (by omega)
                        · skip
                          refine lv_iinc (v := J (t2 + 1)) (lv' := [(9, .int (J (t2 + 1))), (0, .ref o), (1, .int (J s)), (2, .int (J (mN u s))), (3, .int (J be)), (4, .int (J fi)), (5, .int (J st2)), (6, .int (J x)), (7, .int (J y)), (8, .int (J i2))]) SS.1 SS.2.1 dX12_leastPart_274 hl (k := 9) rfl (J_add _ _) (by decide) rfl (fun ls hl => ?_)
                          refine lv_goto (tgt := 185) SS.1 SS.2.1 dX12_leastPart_277 (by decide) ?_
                          exact ih_185 (t2 + 1) _ _ hP hS ls (lv_sub hl [1, 2, 3, 4, 5, 6, 7, 8, 9, 0] rfl) (by omega) (by first | exact wt_s i185_1 hv1 rfl (Or.inl (by omega)) | exact wt_s i185_1 hv2 hw2 (Or.inr (by omega))) (by omega)
                  exact L_185 (((82 : Int) - (0 : Int)).toNat + 1) 0 _ _ hP hS ls (lv_sub hl [1, 2, 3, 4, 5, 6, 7, 8, 9, 0] rfl) (by omega) (wt_0 i149_1 (by omega) (by omega) h_2 (by omega)) (Nat.lt_succ_self _)
        exact L_149 ((mN u s - (0 : Int)).toNat + 1) 0 0 0 (u.1 16) _ _ hP hS ls (lv_sub hl [3, 4, 5, 6, 7, 8, 2, 1, 0] rfl) (by omega) (Or.inl ⟨by omega, rfl, rfl⟩) (Nat.lt_succ_self _)
      · skip
        refine j_iconst SS dX12_leastPart_31 ?_
        refine lv_istore (lv' := [(7, .int (J 1)), (0, .ref o), (1, .int (J s)), (2, .int (J (mN u s))), (3, .int (J be)), (4, .int (J fi)), (5, .int (J st2)), (6, .int (J i))]) SS.1 SS.2.1 dX12_leastPart_32 hl (by decide) rfl (fun ls hl => ?_)
        have L_34 : ∀ (nn : Nat) (be2 : Int) (fi2 : Int) (st3 : Int) (t : Int) (H : Heap) (locs : List Loc) (hP : va_P D.1 j_cl (mW D o q (uI u 15 Bf_2)) H) (hS : va_S A st.heap H locs) (ls : Array Slot) (hl : lv_has ls 10 [(0, .ref o), (1, .int (J s)), (2, .int (J (mN u s))), (3, .int (J be2)), (4, .int (J fi2)), (5, .int (J st3)), (6, .int (J i)), (7, .int (J t))]) (i34_0 : 1 ≤ t ∧ t ≤ mS u s i + 1) (i34_1 : lp_ u s Bf_2 (mN u s) i t be2 fi2 st3), (mS u s i + 1 - t).toNat < nn → W pr l en (headSpec (jw yX12_leastPart cX12_leastPart 10 (some .int)) (jr 5 118)).room st mi (([.ref o, .int (J s)] : List Value).toArray) below meth co H locs 0 0 (MQ below (jWi (fun z u' => ∃ Bf : Nat → Int, ∃ tk : Nat → Int, u' = (uI (uI u 15 Bf) 16 tk) ∧ (True)) (fun u' H => va_P D.1 j_cl (mW D o q u') H) A) (([.ref o, .int (J s)] : List Value).toArray) st 0 0 A) (F0 mi 34 ls []) := by
          intro nn
          induction nn with
          | zero => intros; omega
          | succ nn ih_34 =>
            intro be2 fi2 st3 t  H locs hP hS ls hl i34_0 i34_1 hm
            have hst0 := mS_b (p1.2.1 (by omega)) (show 0 ≤ i by omega)
            have hbe : -9 ≤ be2 ∧ be2 ≤ 3000 := by rcases i34_1 with q1 | q1; omega; have q2 := q1.1; have q3 := q1.2.1; omega
            have hfi : -9 ≤ fi2 ∧ fi2 ≤ 24 := by rcases i34_1 with q1 | q1; omega; have q2 := q1.2.2.1; have q3 := q1.2.2.2.1; omega
            refine lv_iload SS.1 SS.2.1 dX12_leastPart_34 (lv_at hl 7 rfl) ?_
            refine lv_aload_n SS.1 SS.2.1 dX12_leastPart_36 rfl (lv_at hl 0 rfl) ?_
            refine lv_iload_n SS.1 SS.2.1 dX12_leastPart_37 rfl (lv_at hl 1 rfl) ?_
            refine lv_iload SS.1 SS.2.1 dX12_leastPart_38 (lv_at hl 6 rfl) ?_
            refine j_vRi SS (As := [.int (J s), .int (J i)]) (rest := [.int (J t)]) (c_X12_stepsOf l D o q (uI u 15 Bf_2) s i (show 0 ≤ s ∧ s ≤ 7 from (by omega)) (show Sh u s from (p1)) (show 0 ≤ i ∧ i ≤ 100 from (by omega)) (show 0 < mN u s from (by omega))) mf_X12_stepsOf kw_1226 hG hP hP (ci := 8) (q0 := 0) rfl rfl rfl rfl hl.1 ⟨⟨Nat.le_of_ble_eq_true rfl, Nat.le_of_ble_eq_true rfl⟩, Nat.le_of_ble_eq_true rfl, Nat.le_refl _, Nat.le_refl _⟩ rfl dX12_leastPart_40 (fun z_40 h_40 => ?_)
            have h_40 : z_40 = mS u s i ∧ 0 ≤ z_40 ∧ z_40 ≤ 80 := h_40
            refine j_icmp_gt SS (tgt := 134) (x := t) (y := z_40) dX12_leastPart_43 (by decide) (by omega) (by omega) (fun c_43 => ?_) (fun c_43 => ?_)
            · skip
              refine lv_iinc (v := J (i + 1)) (lv' := [(6, .int (J (i + 1))), (0, .ref o), (1, .int (J s)), (2, .int (J (mN u s))), (3, .int (J be2)), (4, .int (J fi2)), (5, .int (J st3)), (7, .int (J t))]) SS.1 SS.2.1 dX12_leastPart_134 hl (k := 6) rfl (J_add _ _) (by decide) rfl (fun ls hl => ?_)
              refine lv_goto (tgt := 25) SS.1 SS.2.1 dX12_leastPart_137 (by decide) ?_
              exact ih_25 be2 fi2 st3 (i + 1) _ _ hP hS ls (lv_sub hl [1, 2, 3, 4, 5, 6, 0] rfl) (by omega) (lp_row i34_1 (by omega)) (by omega)
            · skip
              refine lv_aload_n SS.1 SS.2.1 dX12_leastPart_46 rfl (lv_at hl 0 rfl) ?_
              refine lv_iload SS.1 SS.2.1 dX12_leastPart_47 (lv_at hl 6 rfl) ?_
              refine j_iconst SS dX12_leastPart_49 ?_
              refine j_iadd SS (x := i) (y := 1) dX12_leastPart_50 ?_
              refine lv_iload SS.1 SS.2.1 dX12_leastPart_51 (lv_at hl 7 rfl) ?_
              refine lv_aload_n SS.1 SS.2.1 dX12_leastPart_53 rfl (lv_at hl 0 rfl) ?_
              refine lv_iload_n SS.1 SS.2.1 dX12_leastPart_54 rfl (lv_at hl 1 rfl) ?_
              refine lv_iload SS.1 SS.2.1 dX12_leastPart_55 (lv_at hl 6 rfl) ?_
              refine j_vRi SS (As := [.int (J s), .int (J i)]) (rest := [.int (J t), .int (J (i + 1)), .ref o]) (c_X12_stepX l D o q (uI u 15 Bf_2) s i (show 0 ≤ s ∧ s ≤ 7 from (by omega)) (show Sh u s from (p1)) (show 0 ≤ i ∧ i < mN u s from (by omega)) (show 2 ≤ mN u s from (by omega))) mf_X12_stepX kw_1332 hG hP hP (ci := 8) (q0 := 0) rfl rfl rfl rfl hl.1 ⟨⟨Nat.le_of_ble_eq_true rfl, Nat.le_of_ble_eq_true rfl⟩, Nat.le_of_ble_eq_true rfl, Nat.le_refl _, Nat.le_refl _⟩ rfl dX12_leastPart_57 (fun z_57 h_57 => ?_)
              have h_57 : z_57 = mDX u s i ∧ -80 ≤ z_57 ∧ z_57 ≤ 80 := h_57
              have m1 := mulb (A := 82) (B := 80) (a := t) (b := z_57) (by omega) (by omega)
              refine j_imul SS (x := t) (y := z_57) dX12_leastPart_60 ?_
              refine lv_iload SS.1 SS.2.1 dX12_leastPart_61 (lv_at hl 7 rfl) ?_
              refine lv_aload_n SS.1 SS.2.1 dX12_leastPart_63 rfl (lv_at hl 0 rfl) ?_
              refine lv_iload_n SS.1 SS.2.1 dX12_leastPart_64 rfl (lv_at hl 1 rfl) ?_
              refine lv_iload SS.1 SS.2.1 dX12_leastPart_65 (lv_at hl 6 rfl) ?_
              refine j_vRi SS (As := [.int (J s), .int (J i)]) (rest := [.int (J t), .int (J (t * z_57)), .int (J (i + 1)), .ref o]) (c_X12_stepY l D o q (uI u 15 Bf_2) s i (show 0 ≤ s ∧ s ≤ 7 from (by omega)) (show Sh u s from (p1)) (show 0 ≤ i ∧ i < mN u s from (by omega)) (show 2 ≤ mN u s from (by omega))) mf_X12_stepY kw_1336 hG hP hP (ci := 8) (q0 := 0) rfl rfl rfl rfl hl.1 ⟨⟨Nat.le_of_ble_eq_true rfl, Nat.le_of_ble_eq_true rfl⟩, Nat.le_of_ble_eq_true rfl, Nat.le_refl _, Nat.le_refl _⟩ rfl dX12_leastPart_67 (fun z_67 h_67 => ?_)
              have h_67 : z_67 = mDY u s i ∧ -80 ≤ z_67 ∧ z_67 ≤ 80 := h_67
              have m2 := mulb (A := 82) (B := 80) (a := t) (b := z_67) (by omega) (by omega)
              refine j_imul SS (x := t) (y := z_67) dX12_leastPart_70 ?_
              refine j_vRi SS (As := [.int (J (i + 1)), .int (J (t * z_57)), .int (J (t * z_67))]) (rest := []) (c_X12_backAt l D o q (uI u 15 Bf_2) (i + 1) (t * z_57) (t * z_67) (show 0 ≤ (i + 1) ∧ (i + 1) ≤ 24 from (by omega)) (show -2147483648 ≤ (t * z_57) ∧ (t * z_57) ≤ 2147483647 from (by omega)) (show -2147483648 ≤ (t * z_67) ∧ (t * z_67) ≤ 2147483647 from (by omega))) mf_X12_backAt kw_1352 hG hP hP (ci := 8) (q0 := 0) rfl rfl rfl rfl hl.1 ⟨⟨Nat.le_of_ble_eq_true rfl, Nat.le_of_ble_eq_true rfl⟩, Nat.le_of_ble_eq_true rfl, Nat.le_refl _, Nat.le_refl _⟩ rfl dX12_leastPart_71 (fun z_71 h_71 => ?_)
              have h_71 : z_71 = bk (Bf_2) (i + 1) (t * z_57) (t * z_67) := h_71
              have hv : z_71 = bk Bf_2 (i + 1) (t * mDX u s i) (t * mDY u s i) := by rw [h_71, h_57.1, h_67.1]
              have hz := vals_b (rows_v h_2 (by omega)) (x := t * mDX u s i) (y := t * mDY u s i) (show -1 < i + 1 by omega) (by omega) (by omega)
              rw [← hv] at hz
              refine lv_istore (lv' := [(8, .int (J z_71)), (0, .ref o), (1, .int (J s)), (2, .int (J (mN u s))), (3, .int (J be2)), (4, .int (J fi2)), (5, .int (J st3)), (6, .int (J i)), (7, .int (J t))]) SS.1 SS.2.1 dX12_leastPart_74 hl (by decide) rfl (fun ls hl => ?_)
              refine lv_iload SS.1 SS.2.1 dX12_leastPart_76 (lv_at hl 0 rfl) ?_
              refine j_bipush SS dX12_leastPart_78 (by decide +kernel) ?_
              have L_128 : ∀ (be3 : Int) (fi3 : Int) (st4 : Int) (H : Heap) (locs : List Loc) (hP : va_P D.1 j_cl (mW D o q (uI u 15 Bf_2)) H) (hS : va_S A st.heap H locs) (ls : Array Slot) (hl : lv_has ls 10 [(0, .ref o), (1, .int (J s)), (2, .int (J (mN u s))), (3, .int (J be3)), (4, .int (J fi3)), (5, .int (J st4)), (6, .int (J i)), (7, .int (J t))]) (i128_0 : lp_ u s Bf_2 (mN u s) i (t + 1) be3 fi3 st4), W pr l en (headSpec (jw yX12_leastPart cX12_leastPart 10 (some .int)) (jr 5 118)).room st mi (([.ref o, .int (J s)] : List Value).toArray) below meth co H locs 0 0 (MQ below (jWi (fun z u' => ∃ Bf : Nat → Int, ∃ tk : Nat → Int, u' = (uI (uI u 15 Bf) 16 tk) ∧ (True)) (fun u' H => va_P D.1 j_cl (mW D o q u') H) A) (([.ref o, .int (J s)] : List Value).toArray) st 0 0 A) (F0 mi 128 ls []) := by
                intro be3 fi3 st4  H locs hP hS ls hl i128_0
                refine lv_iinc (v := J (t + 1)) (lv' := [(7, .int (J (t + 1))), (0, .ref o), (1, .int (J s)), (2, .int (J (mN u s))), (3, .int (J be3)), (4, .int (J fi3)), (5, .int (J st4)), (6, .int (J i))]) SS.1 SS.2.1 dX12_leastPart_128 hl (k := 7) rfl (J_add _ _) (by decide) rfl (fun ls hl => ?_)
                refine lv_goto (tgt := 34) SS.1 SS.2.1 dX12_leastPart_131 (by decide) ?_
                exact ih_34 be3 fi3 st4 (t + 1) _ _ hP hS ls (lv_sub hl [1, 2, 3, 4, 5, 6, 7, 0] rfl) (by omega) (i128_0) (by omega)
              refine j_icmp_eq SS (tgt := 128) (x := z_71) (y := (-9)) dX12_leastPart_80 (by decide) (by omega) (by decide) (fun c_80 => ?_) (fun c_80 => ?_)
              · skip
                exact L_128 be2 fi2 st3 _ _ hP hS ls (lv_sub hl [1, 2, 3, 4, 5, 6, 7, 8] rfl) (by first | exact lp_no i34_1 hv (Or.inl (by omega)) | exact lp_no i34_1 hv (Or.inr (by omega)) | exact lp_yes (by omega) (by omega) (by omega) (by omega) (by omega) hv (by omega))
              · skip
                refine lv_iload_n SS.1 SS.2.1 dX12_leastPart_83 rfl (lv_at hl 4 rfl) ?_
                refine j_bipush SS dX12_leastPart_84 (by decide +kernel) ?_
                refine j_icmp_eq SS (tgt := 114) (x := be2) (y := (-9)) dX12_leastPart_86 (by decide) (by omega) (by decide) (fun c_86 => ?_) (fun c_86 => ?_)
                · skip
                  refine lv_iload SS.1 SS.2.1 dX12_leastPart_114 (lv_at hl 0 rfl) ?_
                  refine lv_iload SS.1 SS.2.1 dX12_leastPart_116 (lv_at hl 8 rfl) ?_
                  refine j_iadd SS (x := z_71) (y := t) dX12_leastPart_118 ?_
                  refine lv_istore_n (lv' := [(3, .int (J (z_71 + t))), (8, .int (J z_71)), (0, .ref o), (1, .int (J s)), (2, .int (J (mN u s))), (4, .int (J fi2)), (5, .int (J st3)), (6, .int (J i)), (7, .int (J t))]) SS.1 SS.2.1 dX12_leastPart_119 rfl hl (by decide) rfl (fun ls hl => ?_)
                  refine lv_iload SS.1 SS.2.1 dX12_leastPart_120 (lv_at hl 7 rfl) ?_
                  refine lv_istore (lv' := [(4, .int (J i)), (3, .int (J (z_71 + t))), (8, .int (J z_71)), (0, .ref o), (1, .int (J s)), (2, .int (J (mN u s))), (5, .int (J st3)), (6, .int (J i)), (7, .int (J t))]) SS.1 SS.2.1 dX12_leastPart_122 hl (by decide) rfl (fun ls hl => ?_)
                  refine lv_iload SS.1 SS.2.1 dX12_leastPart_124 (lv_at hl 8 rfl) ?_
                  refine lv_istore (lv' := [(5, .int (J t)), (4, .int (J i)), (3, .int (J (z_71 + t))), (8, .int (J z_71)), (0, .ref o), (1, .int (J s)), (2, .int (J (mN u s))), (6, .int (J i)), (7, .int (J t))]) SS.1 SS.2.1 dX12_leastPart_126 hl (by decide) rfl (fun ls hl => ?_)
                  exact L_128 (z_71 + t) i t _ _ hP hS ls (lv_sub hl [4, 5, 6, 2, 1, 0, 7, 8] rfl) (by first | exact lp_no i34_1 hv (Or.inl (by omega)) | exact lp_no i34_1 hv (Or.inr (by omega)) | exact lp_yes (by omega) (by omega) (by omega) (by omega) (by omega) hv (by omega))
                · skip
                  refine lv_iload SS.1 SS.2.1 dX12_leastPart_89 (lv_at hl 0 rfl) ?_
                  refine lv_iload SS.1 SS.2.1 dX12_leastPart_91 (lv_at hl 8 rfl) ?_
                  refine j_iadd SS (x := z_71) (y := t) dX12_leastPart_93 ?_
                  refine lv_iload_n SS.1 SS.2.1 dX12_leastPart_94 rfl (lv_at hl 4 rfl) ?_
                  refine j_icmp_lt SS (tgt := 114) (x := (z_71 + t)) (y := be2) dX12_leastPart_95 (by decide) (by omega) (by omega) (fun c_95 => ?_) (fun c_95 => ?_)
                  · skip
                    refine lv_iload SS.1 SS.2.1 dX12_leastPart_114 (lv_at hl 0 rfl) ?_
                    refine lv_iload SS.1 SS.2.1 dX12_leastPart_116 (lv_at hl 8 rfl) ?_
                    refine j_iadd SS (x := z_71) (y := t) dX12_leastPart_118 ?_
                    refine lv_istore_n (lv' := [(3, .int (J (z_71 + t))), (8, .int (J z_71)), (0, .ref o), (1, .int (J s)), (2, .int (J (mN u s))), (4, .int (J fi2)), (5, .int (J st3)), (6, .int (J i)), (7, .int (J t))]) SS.1 SS.2.1 dX12_leastPart_119 rfl hl (by decide) rfl (fun ls hl => ?_)
                    refine lv_iload SS.1 SS.2.1 dX12_leastPart_120 (lv_at hl 7 rfl) ?_
                    refine lv_istore (lv' := [(4, .int (J i)), (3, .int (J (z_71 + t))), (8, .int (J z_71)), (0, .ref o), (1, .int (J s)), (2, .int (J (mN u s))), (5, .int (J st3)), (6, .int (J i)), (7, .int (J t))]) SS.1 SS.2.1 dX12_leastPart_122 hl (by decide) rfl (fun ls hl => ?_)
                    refine lv_iload SS.1 SS.2.1 dX12_leastPart_124 (lv_at hl 8 rfl) ?_
                    refine lv_istore (lv' := [(5, .int (J t)), (4, .int (J i)), (3, .int (J (z_71 + t))), (8, .int (J z_71)), (0, .ref o), (1, .int (J s)), (2, .int (J (mN u s))), (6, .int (J i)), (7, .int (J t))]) SS.1 SS.2.1 dX12_leastPart_126 hl (by decide) rfl (fun ls hl => ?_)
                    exact L_128 (z_71 + t) i t _ _ hP hS ls (lv_sub hl [4, 5, 6, 2, 1, 0, 7, 8] rfl) (by first | exact lp_no i34_1 hv (Or.inl (by omega)) | exact lp_no i34_1 hv (Or.inr (by omega)) | exact lp_yes (by omega) (by omega) (by omega) (by omega) (by omega) hv (by omega))
                  · skip
                    refine lv_iload SS.1 SS.2.1 dX12_leastPart_98 (lv_at hl 0 rfl) ?_
                    refine lv_iload SS.1 SS.2.1 dX12_leastPart_100 (lv_at hl 8 rfl) ?_
                    refine j_iadd SS (x := z_71) (y := t) dX12_leastPart_102 ?_
                    refine lv_iload_n SS.1 SS.2.1 dX12_leastPart_103 rfl (lv_at hl 4 rfl) ?_
                    refine j_icmp_ne SS (tgt := 128) (x := (z_71 + t)) (y := be2) dX12_leastPart_104 (by decide) (by omega) (by omega) (fun c_104 => ?_) (fun c_104 => ?_)
                    · skip
                      exact L_128 be2 fi2 st3 _ _ hP hS ls (lv_sub hl [1, 2, 3, 4, 5, 6, 7, 8] rfl) (by first | exact lp_no i34_1 hv (Or.inl (by omega)) | exact lp_no i34_1 hv (Or.inr (by omega)) | exact lp_yes (by omega) (by omega) (by omega) (by omega) (by omega) hv (by omega))
                    · skip
                      refine lv_iload SS.1 SS.2.1 dX12_leastPart_107 (lv_at hl 7 rfl) ?_
                      refine lv_iload SS.1 SS.2.1 dX12_leastPart_109 (lv_at hl 5 rfl) ?_
                      refine j_icmp_le SS (tgt := 128) (x := i) (y := fi2) dX12_leastPart_111 (by decide) (by omega) (by omega) (fun c_111 => ?_) (fun c_111 => ?_)
                      · skip
                        exact L_128 be2 fi2 st3 _ _ hP hS ls (lv_sub hl [1, 2, 3, 4, 5, 6, 7, 8] rfl) (by first | exact lp_no i34_1 hv (Or.inl (by omega)) | exact lp_no i34_1 hv (Or.inr (by omega)) | exact lp_yes (by omega) (by omega) (by omega) (by omega) (by omega) hv (by omega))
                      · skip
                        refine lv_iload SS.1 SS.2.1 dX12_leastPart_114 (lv_at hl 0 rfl) ?_
                        refine lv_iload SS.1 SS.2.1 dX12_leastPart_116 (lv_at hl 8 rfl) ?_
                        refine j_iadd SS (x := z_71) (y := t) dX12_leastPart_118 ?_
                        refine lv_istore_n (lv' := [(3, .int (J (z_71 + t))), (8, .int (J z_71)), (0, .ref o), (1, .int (J s)), (2, .int (J (mN u s))), (4, .int (J fi2)), (5, .int (J st3)), (6, .int (J i)), (7, .int (J t))]) SS.1 SS.2.1 dX12_leastPart_119 rfl hl (by decide) rfl (fun ls hl => ?_)
                        refine lv_iload SS.1 SS.2.1 dX12_leastPart_120 (lv_at hl 7 rfl) ?_
                        refine lv_istore (lv' := [(4, .int (J i)), (3, .int (J (z_71 + t))), (8, .int (J z_71)), (0, .ref o), (1, .int (J s)), (2, .int (J (mN u s))), (5, .int (J st3)), (6, .int (J i)), (7, .int (J t))]) SS.1 SS.2.1 dX12_leastPart_122 hl (by decide) rfl (fun ls hl => ?_)
                        refine lv_iload SS.1 SS.2.1 dX12_leastPart_124 (lv_at hl 8 rfl) ?_
                        refine lv_istore (lv' := [(5, .int (J t)), (4, .int (J i)), (3, .int (J (z_71 + t))), (8, .int (J z_71)), (0, .ref o), (1, .int (J s)), (2, .int (J (mN u s))), (6, .int (J i)), (7, .int (J t))]) SS.1 SS.2.1 dX12_leastPart_126 hl (by decide) rfl (fun ls hl => ?_)
                        exact L_128 (z_71 + t) i t _ _ hP hS ls (lv_sub hl [4, 5, 6, 2, 1, 0, 7, 8] rfl) (by first | exact lp_no i34_1 hv (Or.inl (by omega)) | exact lp_no i34_1 hv (Or.inr (by omega)) | exact lp_yes (by omega) (by omega) (by omega) (by omega) (by omega) hv (by omega))
        exact L_34 ((mS u s i + 1 - (1 : Int)).toNat + 1) be fi st2 1 _ _ hP hS ls (lv_sub hl [1, 2, 3, 4, 5, 6, 7, 0] rfl) (by have q := mS_b (p1.2.1 (by omega)) (show 0 ≤ i by omega); omega) (i25_1) (Nat.lt_succ_self _)
  exact L_25 ((mN u s - (0 : Int)).toNat + 1) (-9) (-9) 0 0 _ _ hP hS ls (lv_sub hl [5, 6, 4, 3, 2, 1, 0] rfl) (by omega) (lp_0) (Nat.lt_succ_self _)

set_option maxHeartbeats 4000000 in
set_option maxRecDepth 100000 in
theorem c_X12_part (l : Launch) (D : JD) (o : Nat) (q : Nat → Nat) (u : MS) (A : Nat → Prop) (hD : va_D A (mW D o q u)) (s : Int) (i : Int) (p0 : IM u) (p1 : -2147483648 ≤ s ∧ s ≤ 2147483647) (p2 : -2147483648 ≤ i ∧ i ≤ 2147483647) : Met l yX12_part (jw yX12_part cX12_part 4 (some .int)) (jr 6 147) (jP [.ref o, .int (J s), .int (J i)] D (fun H => va_P D.1 j_cl (mW D o q u) H)) (jWi (fun z u' => ∃ Bf : Nat → Int, ∃ tk : Nat → Int, u' = (uI (uI u 15 Bf) 16 tk) ∧ (IM u')) (fun u' H => va_P D.1 j_cl (mW D o q u') H) A) 0 0 A := by
  refine Met.ofW (cc := cX12_part) (maxL := 4) (ret := (some .int)) (by decide) rfl ?_
  intro pr en st mi args below meth co s₁ B hml hv
  obtain ⟨rfl, hG, hP⟩ := hv
  have hr := B.returns
  have hlk := B.notSynchronized
  have SS : jS pr mi co cX12_part 4 st _ RX12 := ⟨B.exec, B.bytes, hml, findClass_of_methodNamed B.named, fun w hw => atoms_spec (ws := (jw yX12_part cX12_part 4 (some .int))) B.pre w (List.mem_cons_of_mem _ hw)⟩
  have hl := lv_entry ([.ref o, .int (J s), .int (J i)]) (n := 4) (Nat.le_of_ble_eq_true rfl)
  rw [lg_entry_eq]
  generalize (lg_sl ([.ref o, .int (J s), .int (J i)]) ++ List.replicate (4 - (lg_sl ([.ref o, .int (J s), .int (J i)])).length) Slot.unset).toArray = ls at hl ⊢
  have hl : lv_has ls 4 [(0, .ref o), (1, .int (J s)), (2, .int (J i))] := hl
  have hS : va_S A st.heap st.heap [] := va_S.rf
  refine lv_iload_n SS.1 SS.2.1 dX12_part_0 rfl (lv_at hl 1 rfl) ?_
  refine j_sRi SS (As := [.int (J s)]) (rest := []) (c_X12_isShape l D s (show -2147483648 ≤ s ∧ s ≤ 2147483647 from (by omega))) mf_X12_isShape kw_1156 hG trivial rfl hl.1 ⟨⟨Nat.le_of_ble_eq_true rfl, Nat.le_of_ble_eq_true rfl⟩, Nat.le_of_ble_eq_true rfl, Nat.le_refl _, Nat.le_refl _⟩ rfl dX12_part_1 (fun z_1 h_1 => ?_)
  have h_1 : (z_1 = 1 ∧ (0 ≤ s ∧ s ≤ 7)) ∨ (z_1 = 0 ∧ ¬ (0 ≤ s ∧ s ≤ 7)) := h_1
  refine j_if_eq SS (tgt := 30) (x := z_1) dX12_part_4 (by decide) (by omega) (fun c_4 => ?_) (fun c_4 => ?_)
  · skip
    refine j_iconst SS dX12_part_30 ?_
    exact W.iret SS.1 SS.2.1 hr (fun t ht hW => ⟨⟨_, (uI (uI u 15 (u.1 15)) 16 (u.1 16)), rfl, ⟨(-1), rfl, (⟨(u.1 15), (u.1 16), rfl, p0⟩)⟩, by show va_P D.1 j_cl (mW D o q (uI (uI u 15 (u.1 15)) 16 (u.1 16))) t.heap; rw [ht]; exact hP⟩, hS.F ht⟩) hS.2.2 dX12_part_31 hlk
  · skip
    refine lv_iload_n SS.1 SS.2.1 dX12_part_7 rfl (lv_at hl 2 rfl) ?_
    refine j_iconst SS dX12_part_8 ?_
    refine j_icmp_lt SS (tgt := 30) (x := i) (y := (-1)) dX12_part_9 (by decide) (by omega) (by decide) (fun c_9 => ?_) (fun c_9 => ?_)
    · skip
      refine j_iconst SS dX12_part_30 ?_
      exact W.iret SS.1 SS.2.1 hr (fun t ht hW => ⟨⟨_, (uI (uI u 15 (u.1 15)) 16 (u.1 16)), rfl, ⟨(-1), rfl, (⟨(u.1 15), (u.1 16), rfl, p0⟩)⟩, by show va_P D.1 j_cl (mW D o q (uI (uI u 15 (u.1 15)) 16 (u.1 16))) t.heap; rw [ht]; exact hP⟩, hS.F ht⟩) hS.2.2 dX12_part_31 hlk
    · skip
      refine lv_aload_n SS.1 SS.2.1 dX12_part_12 rfl (lv_at hl 0 rfl) ?_
      refine lv_iload_n SS.1 SS.2.1 dX12_part_13 rfl (lv_at hl 1 rfl) ?_
      refine j_vRi SS (As := [.int (J s)]) (rest := []) (c_X12_isPolygon l D o q u s (show 0 ≤ s ∧ s ≤ 7 from (by omega)) (show Sh u s from (p0.1 _ (by omega) (by omega)))) mf_X12_isPolygon kw_1240 hG hP hP (ci := 8) (q0 := 0) rfl rfl rfl rfl hl.1 ⟨⟨Nat.le_of_ble_eq_true rfl, Nat.le_of_ble_eq_true rfl⟩, Nat.le_of_ble_eq_true rfl, Nat.le_refl _, Nat.le_refl _⟩ rfl dX12_part_14 (fun z_14 h_14 => ?_)
      have h_14 : (z_14 = 1 ∧ 2 < mN u s) ∨ (z_14 = 0 ∧ mN u s ≤ 2) := h_14
      refine j_if_eq SS (tgt := 32) (x := z_14) dX12_part_17 (by decide) (by omega) (fun c_17 => ?_) (fun c_17 => ?_)
      · skip
        refine lv_aload_n SS.1 SS.2.1 dX12_part_32 rfl (lv_at hl 0 rfl) ?_
        refine lv_iload_n SS.1 SS.2.1 dX12_part_33 rfl (lv_at hl 1 rfl) ?_
        refine j_vRi SS (As := [.int (J s)]) (rest := []) (c_X12_isPolygon l D o q u s (show 0 ≤ s ∧ s ≤ 7 from (by omega)) (show Sh u s from (p0.1 _ (by omega) (by omega)))) mf_X12_isPolygon kw_1240 hG hP hP (ci := 8) (q0 := 0) rfl rfl rfl rfl hl.1 ⟨⟨Nat.le_of_ble_eq_true rfl, Nat.le_of_ble_eq_true rfl⟩, Nat.le_of_ble_eq_true rfl, Nat.le_refl _, Nat.le_refl _⟩ rfl dX12_part_34 (fun z_34 h_34 => ?_)
        have h_34 : (z_34 = 1 ∧ 2 < mN u s) ∨ (z_34 = 0 ∧ mN u s ≤ 2) := h_34
        refine j_if_ne SS (tgt := 43) (x := z_34) dX12_part_37 (by decide) (by omega) (fun c_37 => ?_) (fun c_37 => ?_)
        · skip
          refine lv_aload_n SS.1 SS.2.1 dX12_part_43 rfl (lv_at hl 0 rfl) ?_
          refine lv_iload_n SS.1 SS.2.1 dX12_part_44 rfl (lv_at hl 1 rfl) ?_
          refine j_vWi SS (As := [.int (J s)]) (rest := []) (c_X12_leastPart l D o q u A (mW_D hD) s (show 0 ≤ s ∧ s ≤ 7 from (by omega)) (show Sh u s from (p0.1 _ (by omega) (by omega))) (show 2 < mN u s from (by first | omega | (have hq := (show Sh u s from p0.1 _ (by omega) (by omega)).1; omega)))) mf_X12_leastPart kw_1344 hG hP hP (ci := 8) (q0 := 0) rfl rfl rfl hS (fun _ h => h) rfl hl.1 ⟨⟨Nat.le_of_ble_eq_true rfl, Nat.le_of_ble_eq_true rfl⟩, Nat.le_of_ble_eq_true rfl, Nat.le_refl _, Nat.le_refl _⟩ rfl dX12_part_45 (fun z_45 u45 H locs h_45 hP _ hS => ?_)
          obtain ⟨Bf_45, tk_45, rfl, h_45⟩ := h_45
          have hP : va_P D.1 j_cl (mW D o q (uI (uI u 15 Bf_45) 16 tk_45)) H := hP
          have h_45 : True := h_45
          refine lv_istore_n (lv' := [(3, .int (J z_45)), (0, .ref o), (1, .int (J s)), (2, .int (J i))]) SS.1 SS.2.1 dX12_part_48 rfl hl (by decide) rfl (fun ls hl => ?_)
          refine lv_iload_n SS.1 SS.2.1 dX12_part_49 rfl (lv_at hl 3 rfl) ?_
          refine j_if_ge SS (tgt := 57) (x := i) dX12_part_50 (by decide) (by omega) (fun c_50 => ?_) (fun c_50 => ?_)
          · skip
            refine lv_aload_n SS.1 SS.2.1 dX12_part_57 rfl (lv_at hl 1 rfl) ?_
            refine j_get SS hG hP 0 (v := .ref (q 16)) (C := RX12) (T := TX12) (N := 31) rfl rfl inX12 16 (by decide) (ref := RX12) kw_1074 rfl rfl dX12_part_58 ?_
            refine lv_iload_n SS.1 SS.2.1 dX12_part_61 rfl (lv_at hl 3 rfl) ?_
            refine j_iald SS hG hP 14 (n := 24) (f := tk_45) rfl (z := i) (by omega) (by omega) dX12_part_62 ?_
            exact W.iret SS.1 SS.2.1 hr (fun t ht hW => ⟨⟨_, (uI (uI u 15 Bf_45) 16 tk_45), rfl, ⟨(tk_45 (i).toNat), rfl, (⟨Bf_45, tk_45, rfl, p0⟩)⟩, by show va_P D.1 j_cl (mW D o q (uI (uI u 15 Bf_45) 16 tk_45)) t.heap; rw [ht]; exact hP⟩, hS.F ht⟩) hS.2.2 dX12_part_63 hlk
          · skip
            refine lv_iload_n SS.1 SS.2.1 dX12_part_53 rfl (lv_at hl 0 rfl) ?_
            refine lv_goto (tgt := 63) SS.1 SS.2.1 dX12_part_54 (by decide) ?_
            exact W.iret SS.1 SS.2.1 hr (fun t ht hW => ⟨⟨_, (uI (uI u 15 Bf_45) 16 tk_45), rfl, ⟨z_45, rfl, (⟨Bf_45, tk_45, rfl, p0⟩)⟩, by show va_P D.1 j_cl (mW D o q (uI (uI u 15 Bf_45) 16 tk_45)) t.heap; rw [ht]; exact hP⟩, hS.F ht⟩) hS.2.2 dX12_part_63 hlk
        · skip
          refine j_bipush SS dX12_part_40 (by decide +kernel) ?_
          exact W.iret SS.1 SS.2.1 hr (fun t ht hW => ⟨⟨_, (uI (uI u 15 (u.1 15)) 16 (u.1 16)), rfl, ⟨(-2), rfl, (⟨(u.1 15), (u.1 16), rfl, p0⟩)⟩, by show va_P D.1 j_cl (mW D o q (uI (uI u 15 (u.1 15)) 16 (u.1 16))) t.heap; rw [ht]; exact hP⟩, hS.F ht⟩) hS.2.2 dX12_part_42 hlk
      · skip
        refine lv_iload_n SS.1 SS.2.1 dX12_part_20 rfl (lv_at hl 2 rfl) ?_
        refine lv_aload_n SS.1 SS.2.1 dX12_part_21 rfl (lv_at hl 0 rfl) ?_
        refine j_get SS hG hP 0 (v := .ref (q 0)) (C := RX12) (T := TX12) (N := 31) rfl rfl inX12 0 (by decide) (ref := RX12) kw_1058 rfl rfl dX12_part_22 ?_
        refine lv_iload_n SS.1 SS.2.1 dX12_part_25 rfl (lv_at hl 1 rfl) ?_
        refine j_iald SS hG hP 1 (n := 8) (f := (u.1 0)) rfl (z := s) (by omega) (by omega) dX12_part_26 ?_
        have hN_26 := (show Sh u s from p0.1 _ (by omega) (by omega)).1
        refine j_icmp_lt SS (tgt := 32) (x := i) (y := (mN u s)) dX12_part_27 (by decide) (by omega) (by omega) (fun c_27 => ?_) (fun c_27 => ?_)
        · skip
          refine lv_aload_n SS.1 SS.2.1 dX12_part_32 rfl (lv_at hl 0 rfl) ?_
          refine lv_iload_n SS.1 SS.2.1 dX12_part_33 rfl (lv_at hl 1 rfl) ?_
          refine j_vRi SS (As := [.int (J s)]) (rest := []) (c_X12_isPolygon l D o q u s (show 0 ≤ s ∧ s ≤ 7 from (by omega)) (show Sh u s from (p0.1 _ (by omega) (by omega)))) mf_X12_isPolygon kw_1240 hG hP hP (ci := 8) (q0 := 0) rfl rfl rfl rfl hl.1 ⟨⟨Nat.le_of_ble_eq_true rfl, Nat.le_of_ble_eq_true rfl⟩, Nat.le_of_ble_eq_true rfl, Nat.le_refl _, Nat.le_refl _⟩ rfl dX12_part_34 (fun z_34 h_34 => ?_)
          have h_34 : (z_34 = 1 ∧ 2 < mN u s) ∨ (z_34 = 0 ∧ mN u s ≤ 2) := h_34
          refine j_if_ne SS (tgt := 43) (x := z_34) dX12_part_37 (by decide) (by omega) (fun c_37 => ?_) (fun c_37 => ?_)
          · skip
            refine lv_aload_n SS.1 SS.2.1 dX12_part_43 rfl (lv_at hl 0 rfl) ?_
            refine lv_iload_n SS.1 SS.2.1 dX12_part_44 rfl (lv_at hl 1 rfl) ?_
            refine j_vWi SS (As := [.int (J s)]) (rest := []) (c_X12_leastPart l D o q u A (mW_D hD) s (show 0 ≤ s ∧ s ≤ 7 from (by omega)) (show Sh u s from (p0.1 _ (by omega) (by omega))) (show 2 < mN u s from (by first | omega | (have hq := (show Sh u s from p0.1 _ (by omega) (by omega)).1; omega)))) mf_X12_leastPart kw_1344 hG hP hP (ci := 8) (q0 := 0) rfl rfl rfl hS (fun _ h => h) rfl hl.1 ⟨⟨Nat.le_of_ble_eq_true rfl, Nat.le_of_ble_eq_true rfl⟩, Nat.le_of_ble_eq_true rfl, Nat.le_refl _, Nat.le_refl _⟩ rfl dX12_part_45 (fun z_45 u45 H locs h_45 hP _ hS => ?_)
            obtain ⟨Bf_45, tk_45, rfl, h_45⟩ := h_45
            have hP : va_P D.1 j_cl (mW D o q (uI (uI u 15 Bf_45) 16 tk_45)) H := hP
            have h_45 : True := h_45
            refine lv_istore_n (lv' := [(3, .int (J z_45)), (0, .ref o), (1, .int (J s)), (2, .int (J i))]) SS.1 SS.2.1 dX12_part_48 rfl hl (by decide) rfl (fun ls hl => ?_)
            refine lv_iload_n SS.1 SS.2.1 dX12_part_49 rfl (lv_at hl 3 rfl) ?_
            refine j_if_ge SS (tgt := 57) (x := i) dX12_part_50 (by decide) (by omega) (fun c_50 => ?_) (fun c_50 => ?_)
            · skip
              refine lv_aload_n SS.1 SS.2.1 dX12_part_57 rfl (lv_at hl 1 rfl) ?_
              refine j_get SS hG hP 0 (v := .ref (q 16)) (C := RX12) (T := TX12) (N := 31) rfl rfl inX12 16 (by decide) (ref := RX12) kw_1074 rfl rfl dX12_part_58 ?_
              refine lv_iload_n SS.1 SS.2.1 dX12_part_61 rfl (lv_at hl 3 rfl) ?_
              refine j_iald SS hG hP 14 (n := 24) (f := tk_45) rfl (z := i) (by omega) (by omega) dX12_part_62 ?_
              exact W.iret SS.1 SS.2.1 hr (fun t ht hW => ⟨⟨_, (uI (uI u 15 Bf_45) 16 tk_45), rfl, ⟨(tk_45 (i).toNat), rfl, (⟨Bf_45, tk_45, rfl, p0⟩)⟩, by show va_P D.1 j_cl (mW D o q (uI (uI u 15 Bf_45) 16 tk_45)) t.heap; rw [ht]; exact hP⟩, hS.F ht⟩) hS.2.2 dX12_part_63 hlk
            · skip
              refine lv_iload_n SS.1 SS.2.1 dX12_part_53 rfl (lv_at hl 0 rfl) ?_
              refine lv_goto (tgt := 63) SS.1 SS.2.1 dX12_part_54 (by decide) ?_
              exact W.iret SS.1 SS.2.1 hr (fun t ht hW => ⟨⟨_, (uI (uI u 15 Bf_45) 16 tk_45), rfl, ⟨z_45, rfl, (⟨Bf_45, tk_45, rfl, p0⟩)⟩, by show va_P D.1 j_cl (mW D o q (uI (uI u 15 Bf_45) 16 tk_45)) t.heap; rw [ht]; exact hP⟩, hS.F ht⟩) hS.2.2 dX12_part_63 hlk
          · skip
            refine j_bipush SS dX12_part_40 (by decide +kernel) ?_
            exact W.iret SS.1 SS.2.1 hr (fun t ht hW => ⟨⟨_, (uI (uI u 15 (u.1 15)) 16 (u.1 16)), rfl, ⟨(-2), rfl, (⟨(u.1 15), (u.1 16), rfl, p0⟩)⟩, by show va_P D.1 j_cl (mW D o q (uI (uI u 15 (u.1 15)) 16 (u.1 16))) t.heap; rw [ht]; exact hP⟩, hS.F ht⟩) hS.2.2 dX12_part_42 hlk
        · skip
          refine j_iconst SS dX12_part_30 ?_
          exact W.iret SS.1 SS.2.1 hr (fun t ht hW => ⟨⟨_, (uI (uI u 15 (u.1 15)) 16 (u.1 16)), rfl, ⟨(-1), rfl, (⟨(u.1 15), (u.1 16), rfl, p0⟩)⟩, by show va_P D.1 j_cl (mW D o q (uI (uI u 15 (u.1 15)) 16 (u.1 16))) t.heap; rw [ht]; exact hP⟩, hS.F ht⟩) hS.2.2 dX12_part_31 hlk

