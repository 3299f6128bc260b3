
def mDX (u : MS) (s i : Int) : Int := Int.tdiv (mX u s (i + 1) - mX u s i) (mS u s i)
def mDY (u : MS) (s i : Int) : Int := Int.tdiv (mY u s (i + 1) - mY u s i) (mS u s i)
theorem mDX_m {u : MS} {s i : Int} : mS u s i * mDX u s i = mX u s (i + 1) - mX u s i := by
  unfold mDX mS; exact Int.mul_tdiv_cancel' (Int.gcd_dvd_left _ _)
theorem mDY_m {u : MS} {s i : Int} : mS u s i * mDY u s i = mY u s (i + 1) - mY u s i := by
  unfold mDY mS; exact Int.mul_tdiv_cancel' (Int.gcd_dvd_right _ _)
theorem km_e {k : Int} (h : 0 ≤ k) : Int.tmod k 161 = k % 161 ∧ Int.tdiv k 161 = k / 161 := ⟨Int.tmod_eq_emod_of_nonneg h, Int.tdiv_eq_ediv_of_nonneg h⟩
def bk (Bf : Nat → Int) (i x y : Int) : Int := if (-80 ≤ x ∧ x ≤ 80) ∧ -80 ≤ y ∧ y ≤ 80 then Bf (25921 * i + (161 * (y + 80) + x + 80)).toNat else -9
theorem bk_pos {Bf : Nat → Int} {i x y : Int} (h : (-80 ≤ x ∧ x ≤ 80) ∧ -80 ≤ y ∧ y ≤ 80) : bk Bf i x y = Bf (25921 * i + (161 * (y + 80) + x + 80)).toNat := if_pos h
theorem bk_neg {Bf : Nat → Int} {i x y : Int} (h : ¬ ((-80 ≤ x ∧ x ≤ 80) ∧ -80 ≤ y ∧ y ≤ 80)) : bk Bf i x y = -9 := if_neg h
theorem bk_in {Bf : Nat → Int} {i x y : Int} (h : bk Bf i x y ≠ -9) : (-80 ≤ x ∧ x ≤ 80) ∧ -80 ≤ y ∧ y ≤ 80 := by
  unfold bk at h; split at h
  · assumption
  · exact absurd rfl h
/-- the row i at the place k -/
def rk (u : MS) (s : Int) (Bf : Nat → Int) (i k : Int) : Prop := (Bf (25921 * i + k).toNat = -9 ∧ ∀ t : Int, 0 ≤ t → t ≤ mS u s i → bk Bf (i + 1) (k % 161 - 80 + t * mDX u s i) (k / 161 - 80 + t * mDY u s i) = -9) ∨ (0 ≤ Bf (25921 * i + k).toNat ∧ Bf (25921 * i + k).toNat ≤ 100 * (24 - i) ∧ ∃ t : Int, 0 ≤ t ∧ t ≤ mS u s i ∧ bk Bf (i + 1) (k % 161 - 80 + t * mDX u s i) (k / 161 - 80 + t * mDY u s i) ≠ -9 ∧ Bf (25921 * i + k).toNat = bk Bf (i + 1) (k % 161 - 80 + t * mDX u s i) (k / 161 - 80 + t * mDY u s i) + t)
def rowN (Bf : Nat → Int) (n k : Int) : Prop := ∀ j : Int, 0 ≤ j → j < k → (j = 12960 → Bf (25921 * n + j).toNat = 0) ∧ (j ≠ 12960 → Bf (25921 * n + j).toNat = -9)
def rows (u : MS) (s : Int) (Bf : Nat → Int) (n i : Int) : Prop := rowN Bf n 25921 ∧ ∀ i' : Int, i < i' → i' < n → ∀ k : Int, 0 ≤ k → k < 25921 → rk u s Bf i' k
theorem bk_cong {Bf Bg : Nat → Int} {i x y : Int} (h : ∀ k : Int, 0 ≤ k → k < 25921 → Bg (25921 * i + k).toNat = Bf (25921 * i + k).toNat) : bk Bg i x y = bk Bf i x y := by
  unfold bk; split
  · exact h _ (by omega) (by omega)
  · rfl
theorem rk_cong {u : MS} {s : Int} {Bf Bg : Nat → Int} {i k : Int} (h : ∀ j : Int, 0 ≤ j → j < 25921 → Bg (25921 * (i + 1) + j).toNat = Bf (25921 * (i + 1) + j).toNat) (h2 : Bg (25921 * i + k).toNat = Bf (25921 * i + k).toNat) (H : rk u s Bf i k) : rk u s Bg i k := by
  have e : ∀ x y, bk Bg (i + 1) x y = bk Bf (i + 1) x y := fun x y => bk_cong h
  unfold rk at *
  rw [h2]
  rcases H with ⟨a, b⟩ | ⟨a, a2, t, b1, b2, b3, b4⟩
  · exact Or.inl ⟨a, fun t h1 h2 => by rw [e]; exact b t h1 h2⟩
  · exact Or.inr ⟨a, a2, t, b1, b2, by rw [e]; exact b3, by rw [e]; exact b4⟩
/-- the values of all rows from i on: none, or not below 0 -/
def vals (Bf : Nat → Int) (n i : Int) : Prop := ∀ i' : Int, i < i' → i' ≤ n → ∀ k : Int, 0 ≤ k → k < 25921 → Bf (25921 * i' + k).toNat = -9 ∨ (0 ≤ Bf (25921 * i' + k).toNat ∧ Bf (25921 * i' + k).toNat ≤ 100 * (24 - i'))
theorem rows_v {u : MS} {s : Int} {Bf : Nat → Int} {n i : Int} (h : rows u s Bf n i) (hn : n ≤ 24) : vals Bf n i := by
  intro i' h1 h2 k k1 k2
  by_cases e : i' = n
  · have := h.1 k k1 k2
    rw [e]
    by_cases e2 : k = 12960
    · have := this.1 e2; omega
    · have := this.2 e2; omega
  · rcases h.2 i' h1 (by omega) k k1 k2 with a | a
    · exact Or.inl a.1
    · exact Or.inr ⟨a.1, a.2.1⟩
theorem vals_b {Bf : Nat → Int} {n i i' x y : Int} (h : vals Bf n i) (h1 : i < i') (h2 : i' ≤ n) (h0 : 0 ≤ i') : bk Bf i' x y = -9 ∨ (0 ≤ bk Bf i' x y ∧ bk Bf i' x y ≤ 100 * (24 - i')) := by
  unfold bk; split
  · exact h i' h1 h2 _ (by omega) (by omega)
  · exact Or.inl rfl

set_option maxHeartbeats 4000000 in
set_option maxRecDepth 100000 in
theorem c_X12_spot (l : Launch) (D : JD) (x : Int) (y : Int) (p0 : -2147483648 ≤ x ∧ x ≤ 2147483647) (p1 : -2147483648 ≤ y ∧ y ≤ 2147483647) : Met l yX12_spot (jw yX12_spot cX12_spot 2 (some .int)) (jr 1 22) (jP [.int (J x), .int (J y)] D (fun _ => True)) (jRi (fun z => ((-80 ≤ x ∧ x ≤ 80) ∧ (-80 ≤ y ∧ y ≤ 80) ∧ z = 161 * (y + 80) + x + 80) ∨ (¬ ((-80 ≤ x ∧ x ≤ 80) ∧ (-80 ≤ y ∧ y ≤ 80)) ∧ z = -9))) 0 0 (fun _ => False) := by
  refine Met.ofW (cc := cX12_spot) (maxL := 2) (ret := (some .int)) (by decide) rfl ?_
  intro pr en st mi args below meth co s₁ B hml hv
  obtain ⟨rfl, hG, hP⟩ := hv
  have hr := B.returns
  have hlk := B.notSynchronized
  have SS : jS pr mi co cX12_spot 2 st _ RX12 := ⟨B.exec, B.bytes, hml, findClass_of_methodNamed B.named, fun w hw => atoms_spec (ws := (jw yX12_spot cX12_spot 2 (some .int))) B.pre w (List.mem_cons_of_mem _ hw)⟩
  have hl := lv_entry ([.int (J x), .int (J y)]) (n := 2) (Nat.le_of_ble_eq_true rfl)
  rw [lg_entry_eq]
  generalize (lg_sl ([.int (J x), .int (J y)]) ++ List.replicate (2 - (lg_sl ([.int (J x), .int (J y)])).length) Slot.unset).toArray = ls at hl ⊢
  have hl : lv_has ls 2 [(0, .int (J x)), (1, .int (J y))] := hl
  refine lv_iload_n SS.1 SS.2.1 dX12_spot_0 rfl (lv_at hl 0 rfl) ?_
  refine j_bipush SS dX12_spot_1 (by decide +kernel) ?_
  refine j_bipush SS dX12_spot_3 (by decide +kernel) ?_
  refine j_sRi SS (As := [.int (J x), .int (J (-80)), .int (J 80)]) (rest := []) (c_X12_in l D x (-80) 80 (show -2147483648 ≤ x ∧ x ≤ 2147483647 from (by omega)) (show -2147483648 ≤ (-80 : Int) ∧ (-80 : Int) ≤ 2147483647 from (by omega)) (show -2147483648 ≤ (80 : Int) ∧ (80 : Int) ≤ 2147483647 from (by omega))) mf_X12_in kw_1159 hG trivial rfl hl.1 ⟨⟨Nat.le_of_ble_eq_true rfl, Nat.le_of_ble_eq_true rfl⟩, Nat.le_of_ble_eq_true rfl, Nat.le_refl _, Nat.le_refl _⟩ rfl dX12_spot_5 (fun z_5 h_5 => ?_)
  have h_5 : (z_5 = 1 ∧ ((-80 : Int) ≤ x ∧ x ≤ (80 : Int))) ∨ (z_5 = 0 ∧ ¬ ((-80 : Int) ≤ x ∧ x ≤ (80 : Int))) := h_5
  refine j_if_eq SS (tgt := 38) (x := z_5) dX12_spot_8 (by decide) (by omega) (fun c_8 => ?_) (fun c_8 => ?_)
  · skip
    refine j_bipush SS dX12_spot_38 (by decide +kernel) ?_
    exact W.iret SS.1 SS.2.1 hr (fun t ht hW => ⟨_, rfl, ⟨(-9), rfl, (by omega)⟩, ht⟩) (fun _ h => nomatch h) dX12_spot_40 hlk
  · skip
    refine lv_iload_n SS.1 SS.2.1 dX12_spot_11 rfl (lv_at hl 1 rfl) ?_
    refine j_bipush SS dX12_spot_12 (by decide +kernel) ?_
    refine j_bipush SS dX12_spot_14 (by decide +kernel) ?_
    refine j_sRi SS (As := [.int (J y), .int (J (-80)), .int (J 80)]) (rest := []) (c_X12_in l D y (-80) 80 (show -2147483648 ≤ y ∧ y ≤ 2147483647 from (by omega)) (show -2147483648 ≤ (-80 : Int) ∧ (-80 : Int) ≤ 2147483647 from (by omega)) (show -2147483648 ≤ (80 : Int) ∧ (80 : Int) ≤ 2147483647 from (by omega))) mf_X12_in kw_1159 hG trivial rfl hl.1 ⟨⟨Nat.le_of_ble_eq_true rfl, Nat.le_of_ble_eq_true rfl⟩, Nat.le_of_ble_eq_true rfl, Nat.le_refl _, Nat.le_refl _⟩ rfl dX12_spot_16 (fun z_16 h_16 => ?_)
    have h_16 : (z_16 = 1 ∧ ((-80 : Int) ≤ y ∧ y ≤ (80 : Int))) ∨ (z_16 = 0 ∧ ¬ ((-80 : Int) ≤ y ∧ y ≤ (80 : Int))) := h_16
    refine j_if_eq SS (tgt := 38) (x := z_16) dX12_spot_19 (by decide) (by omega) (fun c_19 => ?_) (fun c_19 => ?_)
    · skip
      refine j_bipush SS dX12_spot_38 (by decide +kernel) ?_
      exact W.iret SS.1 SS.2.1 hr (fun t ht hW => ⟨_, rfl, ⟨(-9), rfl, (by omega)⟩, ht⟩) (fun _ h => nomatch h) dX12_spot_40 hlk
    · skip
      refine j_sipush SS dX12_spot_22 (by decide +kernel) ?_
      refine lv_iload_n SS.1 SS.2.1 dX12_spot_25 rfl (lv_at hl 1 rfl) ?_
      refine j_bipush SS dX12_spot_26 (by decide +kernel) ?_
      refine j_iadd SS (x := y) (y := 80) dX12_spot_28 ?_
      refine j_imul SS (x := 161) (y := (y + 80)) dX12_spot_29 ?_
      refine lv_iload_n SS.1 SS.2.1 dX12_spot_30 rfl (lv_at hl 0 rfl) ?_
      refine j_iadd SS (x := (161 * (y + 80))) (y := x) dX12_spot_31 ?_
      refine j_bipush SS dX12_spot_32 (by decide +kernel) ?_
      refine j_iadd SS (x := ((161 * (y + 80)) + x)) (y := 80) dX12_spot_34 ?_
      refine lv_goto (tgt := 40) SS.1 SS.2.1 dX12_spot_35 (by decide) ?_
      exact W.iret SS.1 SS.2.1 hr (fun t ht hW => ⟨_, rfl, ⟨(((161 * (y + 80)) + x) + 80), rfl, (by omega)⟩, ht⟩) (fun _ h => nomatch h) dX12_spot_40 hlk

set_option maxHeartbeats 4000000 in
set_option maxRecDepth 100000 in
theorem c_X12_stepX (l : Launch) (D : JD) (o : Nat) (q : Nat → Nat) (u : MS) (s : Int) (i : Int) (p0 : 0 ≤ s ∧ s ≤ 7) (p1 : Sh u s) (p2 : 0 ≤ i ∧ i < mN u s) (p3 : 2 ≤ mN u s) : Met l yX12_stepX (jw yX12_stepX cX12_stepX 3 (some .int)) (jr 3 66) (jP [.ref o, .int (J s), .int (J i)] D (fun H => va_P D.1 j_cl (mW D o q u) H)) (jRi (fun z => z = mDX u s i ∧ -80 ≤ z ∧ z ≤ 80)) 0 0 (fun _ => False) := by
  refine Met.ofW (cc := cX12_stepX) (maxL := 3) (ret := (some .int)) (by decide) rfl ?_
  intro pr en st mi args below meth co s₁ B hml hv
  obtain ⟨rfl, hG, hP⟩ := hv
  have hr := B.returns
  have hlk := B.notSynchronized
  have SS : jS pr mi co cX12_stepX 3 st _ RX12 := ⟨B.exec, B.bytes, hml, findClass_of_methodNamed B.named, fun w hw => atoms_spec (ws := (jw yX12_stepX cX12_stepX 3 (some .int))) B.pre w (List.mem_cons_of_mem _ hw)⟩
  have hl := lv_entry ([.ref o, .int (J s), .int (J i)]) (n := 3) (Nat.le_of_ble_eq_true rfl)
  rw [lg_entry_eq]
  generalize (lg_sl ([.ref o, .int (J s), .int (J i)]) ++ List.replicate (3 - (lg_sl ([.ref o, .int (J s), .int (J i)])).length) Slot.unset).toArray = ls at hl ⊢
  have hl : lv_has ls 3 [(0, .ref o), (1, .int (J s)), (2, .int (J i))] := hl
  have hN := p1.1
  have hC := p1.2.2
  have hp := mS_p hC p3 p2.1 p2.2
  refine lv_aload_n SS.1 SS.2.1 dX12_stepX_0 rfl (lv_at hl 0 rfl) ?_
  refine lv_iload_n SS.1 SS.2.1 dX12_stepX_1 rfl (lv_at hl 1 rfl) ?_
  refine lv_iload_n SS.1 SS.2.1 dX12_stepX_2 rfl (lv_at hl 2 rfl) ?_
  refine j_iconst SS dX12_stepX_3 ?_
  refine j_iadd SS (x := i) (y := 1) dX12_stepX_4 ?_
  refine j_vRi SS (As := [.int (J s), .int (J (i + 1))]) (rest := []) (c_X12_x l D o q u s (i + 1) (show 0 ≤ s ∧ s ≤ 7 from (by omega)) (show 0 ≤ (i + 1) ∧ (i + 1) ≤ 1000000 from (by omega)) (show 0 < mN u s ∧ mN u s ≤ 24 from (by first | omega | (have hq := (show Sh u s from p1).1; omega)))) mf_X12_x kw_1177 hG hP hP (ci := 8) (q0 := 0) rfl rfl rfl rfl hl.1 ⟨⟨Nat.le_of_ble_eq_true rfl, Nat.le_of_ble_eq_true rfl⟩, Nat.le_of_ble_eq_true rfl, Nat.le_refl _, Nat.le_refl _⟩ rfl dX12_stepX_5 (fun z_5 h_5 => ?_)
  have h_5 : z_5 = mX u s (i + 1) := h_5
  have hb_5 := (show Sh u s from p1).2.1 (by omega) (i + 1) (by omega)
  refine lv_aload_n SS.1 SS.2.1 dX12_stepX_8 rfl (lv_at hl 0 rfl) ?_
  refine lv_iload_n SS.1 SS.2.1 dX12_stepX_9 rfl (lv_at hl 1 rfl) ?_
  refine lv_iload_n SS.1 SS.2.1 dX12_stepX_10 rfl (lv_at hl 2 rfl) ?_
  refine j_vRi SS (As := [.int (J s), .int (J i)]) (rest := [.int (J z_5)]) (c_X12_x l D o q u s i (show 0 ≤ s ∧ s ≤ 7 from (by omega)) (show 0 ≤ i ∧ i ≤ 1000000 from (by omega)) (show 0 < mN u s ∧ mN u s ≤ 24 from (by first | omega | (have hq := (show Sh u s from p1).1; omega)))) mf_X12_x kw_1177 hG hP hP (ci := 8) (q0 := 0) rfl rfl rfl rfl hl.1 ⟨⟨Nat.le_of_ble_eq_true rfl, Nat.le_of_ble_eq_true rfl⟩, Nat.le_of_ble_eq_true rfl, Nat.le_refl _, Nat.le_refl _⟩ rfl dX12_stepX_11 (fun z_11 h_11 => ?_)
  have h_11 : z_11 = mX u s i := h_11
  have hb_11 := (show Sh u s from p1).2.1 (by omega) i (by omega)
  refine j_isub SS (x := z_5) (y := z_11) dX12_stepX_14 ?_
  refine lv_aload_n SS.1 SS.2.1 dX12_stepX_15 rfl (lv_at hl 0 rfl) ?_
  refine lv_iload_n SS.1 SS.2.1 dX12_stepX_16 rfl (lv_at hl 1 rfl) ?_
  refine lv_iload_n SS.1 SS.2.1 dX12_stepX_17 rfl (lv_at hl 2 rfl) ?_
  refine j_vRi SS (As := [.int (J s), .int (J i)]) (rest := [.int (J (z_5 - z_11))]) (c_X12_stepsOf l D o q u s i (show 0 ≤ s ∧ s ≤ 7 from (by omega)) (show Sh u s from (p1)) (show 0 ≤ i ∧ i ≤ 100 from (by omega)) (show 0 < mN u s from (by first | omega | (have hq := (show Sh u s from p1).1; omega)))) mf_X12_stepsOf kw_1226 hG hP hP (ci := 8) (q0 := 0) rfl rfl rfl rfl hl.1 ⟨⟨Nat.le_of_ble_eq_true rfl, Nat.le_of_ble_eq_true rfl⟩, Nat.le_of_ble_eq_true rfl, Nat.le_refl _, Nat.le_refl _⟩ rfl dX12_stepX_18 (fun z_18 h_18 => ?_)
  have h_18 : z_18 = mS u s i ∧ 0 ≤ z_18 ∧ z_18 ≤ 80 := h_18
  rw [← h_18.1] at hp
  have htd := td_b (b := z_18) (show -80 ≤ z_5 - z_11 ∧ z_5 - z_11 ≤ 80 by omega)
  refine j_idiv SS (x := (z_5 - z_11)) (y := z_18) dX12_stepX_21 (by omega) (by omega) (by omega) ?_
  exact W.iret SS.1 SS.2.1 hr (fun t ht hW => ⟨_, rfl, ⟨(Int.tdiv (z_5 - z_11) z_18), rfl, (⟨by rw [h_5, h_11, h_18.1]; rfl, htd.1, htd.2⟩)⟩, ht⟩) (fun _ h => nomatch h) dX12_stepX_22 hlk

set_option maxHeartbeats 4000000 in
set_option maxRecDepth 100000 in
theorem c_X12_stepY (l : Launch) (D : JD) (o : Nat) (q : Nat → Nat) (u : MS) (s : Int) (i : Int) (p0 : 0 ≤ s ∧ s ≤ 7) (p1 : Sh u s) (p2 : 0 ≤ i ∧ i < mN u s) (p3 : 2 ≤ mN u s) : Met l yX12_stepY (jw yX12_stepY cX12_stepY 3 (some .int)) (jr 3 66) (jP [.ref o, .int (J s), .int (J i)] D (fun H => va_P D.1 j_cl (mW D o q u) H)) (jRi (fun z => z = mDY u s i ∧ -80 ≤ z ∧ z ≤ 80)) 0 0 (fun _ => False) := by
  refine Met.ofW (cc := cX12_stepY) (maxL := 3) (ret := (some .int)) (by decide) rfl ?_
  intro pr en st mi args below meth co s₁ B hml hv
  obtain ⟨rfl, hG, hP⟩ := hv
  have hr := B.returns
  have hlk := B.notSynchronized
  have SS : jS pr mi co cX12_stepY 3 st _ RX12 := ⟨B.exec, B.bytes, hml, findClass_of_methodNamed B.named, fun w hw => atoms_spec (ws := (jw yX12_stepY cX12_stepY 3 (some .int))) B.pre w (List.mem_cons_of_mem _ hw)⟩
  have hl := lv_entry ([.ref o, .int (J s), .int (J i)]) (n := 3) (Nat.le_of_ble_eq_true rfl)
  rw [lg_entry_eq]
  generalize (lg_sl ([.ref o, .int (J s), .int (J i)]) ++ List.replicate (3 - (lg_sl ([.ref o, .int (J s), .int (J i)])).length) Slot.unset).toArray = ls at hl ⊢
  have hl : lv_has ls 3 [(0, .ref o), (1, .int (J s)), (2, .int (J i))] := hl
  have hN := p1.1
  have hC := p1.2.2
  have hp := mS_p hC p3 p2.1 p2.2
  refine lv_aload_n SS.1 SS.2.1 dX12_stepY_0 rfl (lv_at hl 0 rfl) ?_
  refine lv_iload_n SS.1 SS.2.1 dX12_stepY_1 rfl (lv_at hl 1 rfl) ?_
  refine lv_iload_n SS.1 SS.2.1 dX12_stepY_2 rfl (lv_at hl 2 rfl) ?_
  refine j_iconst SS dX12_stepY_3 ?_
  refine j_iadd SS (x := i) (y := 1) dX12_stepY_4 ?_
  refine j_vRi SS (As := [.int (J s), .int (J (i + 1))]) (rest := []) (c_X12_y l D o q u s (i + 1) (show 0 ≤ s ∧ s ≤ 7 from (by omega)) (show 0 ≤ (i + 1) ∧ (i + 1) ≤ 1000000 from (by omega)) (show 0 < mN u s ∧ mN u s ≤ 24 from (by first | omega | (have hq := (show Sh u s from p1).1; omega)))) mf_X12_y kw_1181 hG hP hP (ci := 8) (q0 := 0) rfl rfl rfl rfl hl.1 ⟨⟨Nat.le_of_ble_eq_true rfl, Nat.le_of_ble_eq_true rfl⟩, Nat.le_of_ble_eq_true rfl, Nat.le_refl _, Nat.le_refl _⟩ rfl dX12_stepY_5 (fun z_5 h_5 => ?_)
  have h_5 : z_5 = mY u s (i + 1) := h_5
  have hb_5 := (show Sh u s from p1).2.1 (by omega) (i + 1) (by omega)
  refine lv_aload_n SS.1 SS.2.1 dX12_stepY_8 rfl (lv_at hl 0 rfl) ?_
  refine lv_iload_n SS.1 SS.2.1 dX12_stepY_9 rfl (lv_at hl 1 rfl) ?_
  refine lv_iload_n SS.1 SS.2.1 dX12_stepY_10 rfl (lv_at hl 2 rfl) ?_
  refine j_vRi SS (As := [.int (J s), .int (J i)]) (rest := [.int (J z_5)]) (c_X12_y l D o q u s i (show 0 ≤ s ∧ s ≤ 7 from (by omega)) (show 0 ≤ i ∧ i ≤ 1000000 from (by omega)) (show 0 < mN u s ∧ mN u s ≤ 24 from (by first | omega | (have hq := (show Sh u s from p1).1; omega)))) mf_X12_y kw_1181 hG hP hP (ci := 8) (q0 := 0) rfl rfl rfl rfl hl.1 ⟨⟨Nat.le_of_ble_eq_true rfl, Nat.le_of_ble_eq_true rfl⟩, Nat.le_of_ble_eq_true rfl, Nat.le_refl _, Nat.le_refl _⟩ rfl dX12_stepY_11 (fun z_11 h_11 => ?_)
  have h_11 : z_11 = mY u s i := h_11
  have hb_11 := (show Sh u s from p1).2.1 (by omega) i (by omega)
  refine j_isub SS (x := z_5) (y := z_11) dX12_stepY_14 ?_
  refine lv_aload_n SS.1 SS.2.1 dX12_stepY_15 rfl (lv_at hl 0 rfl) ?_
  refine lv_iload_n SS.1 SS.2.1 dX12_stepY_16 rfl (lv_at hl 1 rfl) ?_
  refine lv_iload_n SS.1 SS.2.1 dX12_stepY_17 rfl (lv_at hl 2 rfl) ?_
  refine j_vRi SS (As := [.int (J s), .int (J i)]) (rest := [.int (J (z_5 - z_11))]) (c_X12_stepsOf l D o q u s i (show 0 ≤ s ∧ s ≤ 7 from (by omega)) (show Sh u s from (p1)) (show 0 ≤ i ∧ i ≤ 100 from (by omega)) (show 0 < mN u s from (by first | omega | (have hq := (show Sh u s from p1).1; omega)))) mf_X12_stepsOf kw_1226 hG hP hP (ci := 8) (q0 := 0) rfl rfl rfl rfl hl.1 ⟨⟨Nat.le_of_ble_eq_true rfl, Nat.le_of_ble_eq_true rfl⟩, Nat.le_of_ble_eq_true rfl, Nat.le_refl _, Nat.le_refl _⟩ rfl dX12_stepY_18 (fun z_18 h_18 => ?_)
  have h_18 : z_18 = mS u s i ∧ 0 ≤ z_18 ∧ z_18 ≤ 80 := h_18
  rw [← h_18.1] at hp
  have htd := td_b (b := z_18) (show -80 ≤ z_5 - z_11 ∧ z_5 - z_11 ≤ 80 by omega)
  refine j_idiv SS (x := (z_5 - z_11)) (y := z_18) dX12_stepY_21 (by omega) (by omega) (by omega) ?_
  exact W.iret SS.1 SS.2.1 hr (fun t ht hW => ⟨_, rfl, ⟨(Int.tdiv (z_5 - z_11) z_18), rfl, (⟨by rw [h_5, h_11, h_18.1]; rfl, htd.1, htd.2⟩)⟩, ht⟩) (fun _ h => nomatch h) dX12_stepY_22 hlk

set_option maxHeartbeats 4000000 in
set_option maxRecDepth 100000 in
theorem c_X12_backAt (l : Launch) (D : JD) (o : Nat) (q : Nat → Nat) (u : MS) (i : Int) (x : Int) (y : Int) (p0 : 0 ≤ i ∧ i ≤ 24) (p1 : -2147483648 ≤ x ∧ x ≤ 2147483647) (p2 : -2147483648 ≤ y ∧ y ≤ 2147483647) : Met l yX12_backAt (jw yX12_backAt cX12_backAt 5 (some .int)) (jr 2 43) (jP [.ref o, .int (J i), .int (J x), .int (J y)] D (fun H => va_P D.1 j_cl (mW D o q u) H)) (jRi (fun z => z = bk (u.1 15) i x y)) 0 0 (fun _ => False) := by
  refine Met.ofW (cc := cX12_backAt) (maxL := 5) (ret := (some .int)) (by decide) rfl ?_
  intro pr en st mi args below meth co s₁ B hml hv
  obtain ⟨rfl, hG, hP⟩ := hv
  have hr := B.returns
  have hlk := B.notSynchronized
  have SS : jS pr mi co cX12_backAt 5 st _ RX12 := ⟨B.exec, B.bytes, hml, findClass_of_methodNamed B.named, fun w hw => atoms_spec (ws := (jw yX12_backAt cX12_backAt 5 (some .int))) B.pre w (List.mem_cons_of_mem _ hw)⟩
  have hl := lv_entry ([.ref o, .int (J i), .int (J x), .int (J y)]) (n := 5) (Nat.le_of_ble_eq_true rfl)
  rw [lg_entry_eq]
  generalize (lg_sl ([.ref o, .int (J i), .int (J x), .int (J y)]) ++ List.replicate (5 - (lg_sl ([.ref o, .int (J i), .int (J x), .int (J y)])).length) Slot.unset).toArray = ls at hl ⊢
  have hl : lv_has ls 5 [(0, .ref o), (1, .int (J i)), (2, .int (J x)), (3, .int (J y))] := hl
  refine lv_iload_n SS.1 SS.2.1 dX12_backAt_0 rfl (lv_at hl 2 rfl) ?_
  refine lv_iload_n SS.1 SS.2.1 dX12_backAt_1 rfl (lv_at hl 3 rfl) ?_
  refine j_sRi SS (As := [.int (J x), .int (J y)]) (rest := []) (c_X12_spot l D x y (show -2147483648 ≤ x ∧ x ≤ 2147483647 from (by omega)) (show -2147483648 ≤ y ∧ y ≤ 2147483647 from (by omega))) mf_X12_spot kw_1329 hG trivial rfl hl.1 ⟨⟨Nat.le_of_ble_eq_true rfl, Nat.le_of_ble_eq_true rfl⟩, Nat.le_of_ble_eq_true rfl, Nat.le_refl _, Nat.le_refl _⟩ rfl dX12_backAt_2 (fun z_2 h_2 => ?_)
  have h_2 : ((-80 ≤ x ∧ x ≤ 80) ∧ (-80 ≤ y ∧ y ≤ 80) ∧ z_2 = 161 * (y + 80) + x + 80) ∨ (¬ ((-80 ≤ x ∧ x ≤ 80) ∧ (-80 ≤ y ∧ y ≤ 80)) ∧ z_2 = -9) := h_2
  refine lv_istore (lv' := [(4, .int (J z_2)), (0, .ref o), (1, .int (J i)), (2, .int (J x)), (3, .int (J y))]) SS.1 SS.2.1 dX12_backAt_5 hl (by decide) rfl (fun ls hl => ?_)
  refine lv_iload SS.1 SS.2.1 dX12_backAt_7 (lv_at hl 0 rfl) ?_
  refine j_bipush SS dX12_backAt_9 (by decide +kernel) ?_
  refine j_icmp_ne SS (tgt := 19) (x := z_2) (y := (-9)) dX12_backAt_11 (by decide) (by omega) (by decide) (fun c_11 => ?_) (fun c_11 => ?_)
  · skip
    refine lv_aload_n SS.1 SS.2.1 dX12_backAt_19 rfl (lv_at hl 1 rfl) ?_
    refine j_get SS hG hP 0 (v := .ref (q 15)) (C := RX12) (T := TX12) (N := 31) rfl rfl inX12 15 (by decide) (ref := RX12) kw_1073 rfl rfl dX12_backAt_20 ?_
    refine j_sipush SS dX12_backAt_23 (by decide +kernel) ?_
    refine lv_iload_n SS.1 SS.2.1 dX12_backAt_26 rfl (lv_at hl 2 rfl) ?_
    refine j_imul SS (x := 25921) (y := i) dX12_backAt_27 ?_
    refine lv_iload SS.1 SS.2.1 dX12_backAt_28 (lv_at hl 0 rfl) ?_
    refine j_iadd SS (x := (25921 * i)) (y := z_2) dX12_backAt_30 ?_
    refine j_iald SS hG hP 13 (n := 648025) (f := (u.1 15)) rfl (z := ((25921 * i) + z_2)) (by omega) (by omega) dX12_backAt_31 ?_
    exact W.iret SS.1 SS.2.1 hr (fun t ht hW => ⟨_, rfl, ⟨((u.1 15) (((25921 * i) + z_2)).toNat), rfl, (by rcases h_2 with k | k; (rw [bk_pos ⟨k.1, k.2.1⟩]; first | (exfalso; omega) | (rw [k.2.2])); (first | (exfalso; omega) | rw [bk_neg k.1]))⟩, ht⟩) (fun _ h => nomatch h) dX12_backAt_32 hlk
  · skip
    refine j_bipush SS dX12_backAt_14 (by decide +kernel) ?_
    refine lv_goto (tgt := 32) SS.1 SS.2.1 dX12_backAt_16 (by decide) ?_
    exact W.iret SS.1 SS.2.1 hr (fun t ht hW => ⟨_, rfl, ⟨(-9), rfl, (by rcases h_2 with k | k; (rw [bk_pos ⟨k.1, k.2.1⟩]; first | (exfalso; omega) | (rw [k.2.2])); (first | (exfalso; omega) | rw [bk_neg k.1]))⟩, ht⟩) (fun _ h => nomatch h) dX12_backAt_32 hlk

set_option maxHeartbeats 4000000 in
set_option maxRecDepth 100000 in
theorem c_X12_parts (l : Launch) (D : JD) (o : Nat) (q : Nat → Nat) (u : MS) (A : Nat → Prop) (hD : va_D A (mW D o q u)) (s : Int) (p0 : IM u) (p1 : -2147483648 ≤ s ∧ s ≤ 2147483647) : Met l yX12_parts (jw yX12_parts cX12_parts 9 (some .long)) (jr 4 88) (jP [.ref o, .int (J s)] D (fun H => va_P D.1 j_cl (mW D o q u) H)) (jWl (fun u' => ∃ nw : Nat → Int64, ∃ tn_ : Nat → Int64, u' = (uL (uL u 13 nw) 14 tn_) ∧ (IM u')) (fun u' H => va_P D.1 j_cl (mW D o q u') H) A) 0 0 A := by
  refine Met.ofW (cc := cX12_parts) (maxL := 9) (ret := (some .long)) (by decide) rfl ?_
  intro pr en st mi args below meth co s₁ B hml hv
  obtain ⟨rfl, hG, hP⟩ := hv
  have hr := B.returns
  have hlk := B.notSynchronized
  have SS : jS pr mi co cX12_parts 9 st _ RX12 := ⟨B.exec, B.bytes, hml, findClass_of_methodNamed B.named, fun w hw => atoms_spec (ws := (jw yX12_parts cX12_parts 9 (some .long))) B.pre w (List.mem_cons_of_mem _ hw)⟩
  have hl := lv_entry ([.ref o, .int (J s)]) (n := 9) (Nat.le_of_ble_eq_true rfl)
  rw [lg_entry_eq]
  generalize (lg_sl ([.ref o, .int (J s)]) ++ List.replicate (9 - (lg_sl ([.ref o, .int (J s)])).length) Slot.unset).toArray = ls at hl ⊢
  have hl : lv_has ls 9 [(0, .ref o), (1, .int (J s))] := hl
  have hS : va_S A st.heap st.heap [] := va_S.rf
  refine lv_iload_n SS.1 SS.2.1 dX12_parts_0 rfl (lv_at hl 1 rfl) ?_
  refine j_sRi SS (As := [.int (J s)]) (rest := []) (c_X12_isShape l D s (show -2147483648 ≤ s ∧ s ≤ 2147483647 from (by omega))) mf_X12_isShape kw_1156 hG trivial rfl hl.1 ⟨⟨Nat.le_of_ble_eq_true rfl, Nat.le_of_ble_eq_true rfl⟩, Nat.le_of_ble_eq_true rfl, Nat.le_refl _, Nat.le_refl _⟩ rfl dX12_parts_1 (fun z_1 h_1 => ?_)
  have h_1 : (z_1 = 1 ∧ (0 ≤ s ∧ s ≤ 7)) ∨ (z_1 = 0 ∧ ¬ (0 ≤ s ∧ s ≤ 7)) := h_1
  refine j_if_ne SS (tgt := 11) (x := z_1) dX12_parts_4 (by decide) (by omega) (fun c_4 => ?_) (fun c_4 => ?_)
  · skip
    refine lv_aload_n SS.1 SS.2.1 dX12_parts_11 rfl (lv_at hl 0 rfl) ?_
    refine lv_iload_n SS.1 SS.2.1 dX12_parts_12 rfl (lv_at hl 1 rfl) ?_
    refine j_vRi SS (As := [.int (J s)]) (rest := []) (c_X12_isPolygon l D o q u s (show 0 ≤ s ∧ s ≤ 7 from (by omega)) (show Sh u s from (p0.1 _ (by omega) (by omega)))) mf_X12_isPolygon kw_1240 hG hP hP (ci := 8) (q0 := 0) rfl rfl rfl rfl hl.1 ⟨⟨Nat.le_of_ble_eq_true rfl, Nat.le_of_ble_eq_true rfl⟩, Nat.le_of_ble_eq_true rfl, Nat.le_refl _, Nat.le_refl _⟩ rfl dX12_parts_13 (fun z_13 h_13 => ?_)
    have h_13 : (z_13 = 1 ∧ 2 < mN u s) ∨ (z_13 = 0 ∧ mN u s ≤ 2) := h_13
    refine j_if_ne SS (tgt := 23) (x := z_13) dX12_parts_16 (by decide) (by omega) (fun c_16 => ?_) (fun c_16 => ?_)
    · skip
      have hSh := p0.1 s (by omega) (by omega)
      have hN := hSh.1
      refine j_iconst SS dX12_parts_23 ?_
      refine lv_istore_n (lv' := [(2, .int (J 0)), (0, .ref o), (1, .int (J s))]) SS.1 SS.2.1 dX12_parts_24 rfl hl (by decide) rfl (fun ls hl => ?_)
      have L_25 : ∀ (nn : Nat) (k : Int) (n1 : Nat → Int64) (H : Heap) (locs : List Loc) (hP : va_P D.1 j_cl (mW D o q (uL u 13 n1)) H) (hS : va_S A st.heap H locs) (ls : Array Slot) (hl : lv_has ls 9 [(0, .ref o), (1, .int (J s)), (2, .int (J k))]) (i25_0 : 0 ≤ k ∧ k ≤ 25921), ((25921 : Int) - k).toNat < nn → W pr l en (headSpec (jw yX12_parts cX12_parts 9 (some .long)) (jr 4 88)).room st mi (([.ref o, .int (J s)] : List Value).toArray) below meth co H locs 0 0 (MQ below (jWl (fun u' => ∃ nw : Nat → Int64, ∃ tn_ : Nat → Int64, u' = (uL (uL u 13 nw) 14 tn_) ∧ (IM u')) (fun u' H => va_P D.1 j_cl (mW D o q u') H) A) (([.ref o, .int (J s)] : List Value).toArray) st 0 0 A) (F0 mi 25 ls []) := by
        intro nn
        induction nn with
        | zero => intros; omega
        | succ nn ih_25 =>
          intro k n1 H locs hP hS ls hl i25_0 hm
          refine lv_iload_n SS.1 SS.2.1 dX12_parts_25 rfl (lv_at hl 2 rfl) ?_
          refine j_sipush SS dX12_parts_26 (by decide +kernel) ?_
          refine j_icmp_ge SS (tgt := 58) (x := k) (y := 25921) dX12_parts_29 (by decide) (by omega) (by decide) (fun c_29 => ?_) (fun c_29 => ?_)
          · skip
            refine j_iconst SS dX12_parts_58 ?_
            refine lv_istore_n (lv' := [(2, .int (J 0)), (0, .ref o), (1, .int (J s))]) SS.1 SS.2.1 dX12_parts_59 rfl hl (by decide) rfl (fun ls hl => ?_)
            have L_60 : ∀ (nn : Nat) (i : Int) (n2 : Nat → Int64) (t2 : Nat → Int64) (H : Heap) (locs : List Loc) (hP : va_P D.1 j_cl (mW D o q (uL (uL u 13 n2) 14 t2)) H) (hS : va_S A st.heap H locs) (ls : Array Slot) (hl : lv_has ls 9 [(0, .ref o), (1, .int (J s)), (2, .int (J i))]) (i60_0 : 0 ≤ i ∧ i ≤ mN u s), (mN u s - i).toNat < nn → W pr l en (headSpec (jw yX12_parts cX12_parts 9 (some .long)) (jr 4 88)).room st mi (([.ref o, .int (J s)] : List Value).toArray) below meth co H locs 0 0 (MQ below (jWl (fun u' => ∃ nw : Nat → Int64, ∃ tn_ : Nat → Int64, u' = (uL (uL u 13 nw) 14 tn_) ∧ (IM u')) (fun u' H => va_P D.1 j_cl (mW D o q u') H) A) (([.ref o, .int (J s)] : List Value).toArray) st 0 0 A) (F0 mi 60 ls []) := by
              intro nn
              induction nn with
              | zero => intros; omega
              | succ nn ih_60 =>
                intro i n2 t2 H locs hP hS ls hl i60_0 hm
                refine lv_iload_n SS.1 SS.2.1 dX12_parts_60 rfl (lv_at hl 2 rfl) ?_
                refine lv_aload_n SS.1 SS.2.1 dX12_parts_61 rfl (lv_at hl 0 rfl) ?_
                refine j_get SS hG hP 0 (v := .ref (q 0)) (C := RX12) (T := TX12) (N := 31) rfl rfl inX12 0 (by decide) (ref := RX12) kw_1058 rfl rfl dX12_parts_62 ?_
                refine lv_iload_n SS.1 SS.2.1 dX12_parts_65 rfl (lv_at hl 1 rfl) ?_
                refine j_iald SS hG hP 1 (n := 8) (f := (u.1 0)) rfl (z := s) (by omega) (by omega) dX12_parts_66 ?_
                have hN_66 := (show Sh u s from p0.1 _ (by omega) (by omega)).1
                refine j_icmp_ge SS (tgt := 258) (x := i) (y := (mN u s)) dX12_parts_67 (by decide) (by omega) (by omega) (fun c_67 => ?_) (fun c_67 => ?_)
                · skip
                  refine lv_aload_n SS.1 SS.2.1 dX12_parts_258 rfl (lv_at hl 0 rfl) ?_
                  refine j_get SS hG hP 0 (v := .ref (q 13)) (C := RX12) (T := TX12) (N := 31) rfl rfl inX12 13 (by decide) (ref := RX12) kw_1071 rfl rfl dX12_parts_259 ?_
                  refine j_iconst SS dX12_parts_262 ?_
                  refine j_iconst SS dX12_parts_263 ?_
                  refine j_sRi SS (As := [.int (J 0), .int (J 0)]) (rest := [.ref (q 13)]) (c_X12_spot l D 0 0 (show -2147483648 ≤ (0 : Int) ∧ (0 : Int) ≤ 2147483647 from (by omega)) (show -2147483648 ≤ (0 : Int) ∧ (0 : Int) ≤ 2147483647 from (by omega))) mf_X12_spot kw_1329 hG trivial rfl hl.1 ⟨⟨Nat.le_of_ble_eq_true rfl, Nat.le_of_ble_eq_true rfl⟩, Nat.le_of_ble_eq_true rfl, Nat.le_refl _, Nat.le_refl _⟩ rfl dX12_parts_264 (fun z_264 h_264 => ?_)
                  have h_264 : ((-80 ≤ (0 : Int) ∧ (0 : Int) ≤ 80) ∧ (-80 ≤ (0 : Int) ∧ (0 : Int) ≤ 80) ∧ z_264 = 161 * ((0 : Int) + 80) + (0 : Int) + 80) ∨ (¬ ((-80 ≤ (0 : Int) ∧ (0 : Int) ≤ 80) ∧ (-80 ≤ (0 : Int) ∧ (0 : Int) ≤ 80)) ∧ z_264 = -9) := h_264
                  refine j_lald SS hG hP 11 (n := 25921) (f := n2) rfl (z := z_264) (by omega) (by omega) dX12_parts_267 ?_
                  exact W.lret SS.1 SS.2.1 hr (fun t ht hW => ⟨⟨_, (uL (uL u 13 n2) 14 t2), rfl, (⟨n2, t2, rfl, p0⟩), by show va_P D.1 j_cl (mW D o q (uL (uL u 13 n2) 14 t2)) t.heap; rw [ht]; exact hP⟩, hS.F ht⟩) hS.2.2 dX12_parts_268 hlk
                · skip
                  refine lv_aload_n SS.1 SS.2.1 dX12_parts_70 rfl (lv_at hl 0 rfl) ?_
                  refine lv_iload_n SS.1 SS.2.1 dX12_parts_71 rfl (lv_at hl 1 rfl) ?_
                  refine lv_iload_n SS.1 SS.2.1 dX12_parts_72 rfl (lv_at hl 2 rfl) ?_
                  refine j_vRi SS (As := [.int (J s), .int (J i)]) (rest := []) (c_X12_stepX l D o q (uL (uL u 13 n2) 14 t2) s i (show 0 ≤ s ∧ s ≤ 7 from (by omega)) (show Sh u s from (hSh)) (show 0 ≤ i ∧ i < mN u s from (by omega)) (show 2 ≤ mN u s from (by omega))) mf_X12_stepX kw_1332 hG hP hP (ci := 8) (q0 := 0) rfl rfl rfl rfl hl.1 ⟨⟨Nat.le_of_ble_eq_true rfl, Nat.le_of_ble_eq_true rfl⟩, Nat.le_of_ble_eq_true rfl, Nat.le_refl _, Nat.le_refl _⟩ rfl dX12_parts_73 (fun z_73 h_73 => ?_)
                  have h_73 : z_73 = mDX u s i ∧ -80 ≤ z_73 ∧ z_73 ≤ 80 := h_73
                  refine lv_istore_n (lv' := [(3, .int (J z_73)), (0, .ref o), (1, .int (J s)), (2, .int (J i))]) SS.1 SS.2.1 dX12_parts_76 rfl hl (by decide) rfl (fun ls hl => ?_)
                  refine lv_aload_n SS.1 SS.2.1 dX12_parts_77 rfl (lv_at hl 1 rfl) ?_
                  refine lv_iload_n SS.1 SS.2.1 dX12_parts_78 rfl (lv_at hl 2 rfl) ?_
                  refine lv_iload_n SS.1 SS.2.1 dX12_parts_79 rfl (lv_at hl 3 rfl) ?_
                  refine j_vRi SS (As := [.int (J s), .int (J i)]) (rest := []) (c_X12_stepY l D o q (uL (uL u 13 n2) 14 t2) s i (show 0 ≤ s ∧ s ≤ 7 from (by omega)) (show Sh u s from (hSh)) (show 0 ≤ i ∧ i < mN u s from (by omega)) (show 2 ≤ mN u s from (by omega))) mf_X12_stepY kw_1336 hG hP hP (ci := 8) (q0 := 0) rfl rfl rfl rfl hl.1 ⟨⟨Nat.le_of_ble_eq_true rfl, Nat.le_of_ble_eq_true rfl⟩, Nat.le_of_ble_eq_true rfl, Nat.le_refl _, Nat.le_refl _⟩ rfl dX12_parts_80 (fun z_80 h_80 => ?_)
                  have h_80 : z_80 = mDY u s i ∧ -80 ≤ z_80 ∧ z_80 ≤ 80 := h_80
                  refine lv_istore (lv' := [(4, .int (J z_80)), (3, .int (J z_73)), (0, .ref o), (1, .int (J s)), (2, .int (J i))]) SS.1 SS.2.1 dX12_parts_83 hl (by decide) rfl (fun ls hl => ?_)
                  refine lv_aload_n SS.1 SS.2.1 dX12_parts_85 rfl (lv_at hl 2 rfl) ?_
                  refine lv_iload_n SS.1 SS.2.1 dX12_parts_86 rfl (lv_at hl 3 rfl) ?_
                  refine lv_iload_n SS.1 SS.2.1 dX12_parts_87 rfl (lv_at hl 4 rfl) ?_
                  refine j_vRi SS (As := [.int (J s), .int (J i)]) (rest := []) (c_X12_stepsOf l D o q (uL (uL u 13 n2) 14 t2) s i (show 0 ≤ s ∧ s ≤ 7 from (by omega)) (show Sh u s from (hSh)) (show 0 ≤ i ∧ i ≤ 100 from (by omega)) (show 0 < mN u s from (by omega))) mf_X12_stepsOf kw_1226 hG hP hP (ci := 8) (q0 := 0) rfl rfl rfl rfl hl.1 ⟨⟨Nat.le_of_ble_eq_true rfl, Nat.le_of_ble_eq_true rfl⟩, Nat.le_of_ble_eq_true rfl, Nat.le_refl _, Nat.le_refl _⟩ rfl dX12_parts_88 (fun z_88 h_88 => ?_)
                  have h_88 : z_88 = mS u s i ∧ 0 ≤ z_88 ∧ z_88 ≤ 80 := h_88
                  refine lv_istore (lv' := [(5, .int (J z_88)), (4, .int (J z_80)), (3, .int (J z_73)), (0, .ref o), (1, .int (J s)), (2, .int (J i))]) SS.1 SS.2.1 dX12_parts_91 hl (by decide) rfl (fun ls hl => ?_)
                  refine j_iconst SS dX12_parts_93 ?_
                  refine lv_istore (lv' := [(6, .int (J 0)), (5, .int (J z_88)), (4, .int (J z_80)), (3, .int (J z_73)), (0, .ref o), (1, .int (J s)), (2, .int (J i))]) SS.1 SS.2.1 dX12_parts_94 hl (by decide) rfl (fun ls hl => ?_)
                  have L_96 : ∀ (nn : Nat) (k2 : Int) (t3 : Nat → Int64) (H : Heap) (locs : List Loc) (hP : va_P D.1 j_cl (mW D o q (uL (uL u 13 n2) 14 t3)) H) (hS : va_S A st.heap H locs) (ls : Array Slot) (hl : lv_has ls 9 [(0, .ref o), (1, .int (J s)), (2, .int (J i)), (3, .int (J z_73)), (4, .int (J z_80)), (5, .int (J z_88)), (6, .int (J k2))]) (i96_0 : 0 ≤ k2 ∧ k2 ≤ 25921), ((25921 : Int) - k2).toNat < nn → W pr l en (headSpec (jw yX12_parts cX12_parts 9 (some .long)) (jr 4 88)).room st mi (([.ref o, .int (J s)] : List Value).toArray) below meth co H locs 0 0 (MQ below (jWl (fun u' => ∃ nw : Nat → Int64, ∃ tn_ : Nat → Int64, u' = (uL (uL u 13 nw) 14 tn_) ∧ (IM u')) (fun u' H => va_P D.1 j_cl (mW D o q u') H) A) (([.ref o, .int (J s)] : List Value).toArray) st 0 0 A) (F0 mi 96 ls []) := by
                    intro nn
                    induction nn with
                    | zero => intros; omega
                    | succ nn ih_96 =>
                      intro k2 t3 H locs hP hS ls hl i96_0 hm
                      refine lv_iload SS.1 SS.2.1 dX12_parts_96 (lv_at hl 6 rfl) ?_
                      refine j_sipush SS dX12_parts_98 (by decide +kernel) ?_
                      refine j_icmp_ge SS (tgt := 118) (x := k2) (y := 25921) dX12_parts_101 (by decide) (by omega) (by decide) (fun c_101 => ?_) (fun c_101 => ?_)
                      · skip
                        refine j_iconst SS dX12_parts_118 ?_
                        refine lv_istore (lv' := [(6, .int (J 0)), (0, .ref o), (1, .int (J s)), (2, .int (J i)), (3, .int (J z_73)), (4, .int (J z_80)), (5, .int (J z_88))]) SS.1 SS.2.1 dX12_parts_119 hl (by decide) rfl (fun ls hl => ?_)
                        have L_121 : ∀ (nn : Nat) (k3 : Int) (t4 : Nat → Int64) (H : Heap) (locs : List Loc) (hP : va_P D.1 j_cl (mW D o q (uL (uL u 13 n2) 14 t4)) H) (hS : va_S A st.heap H locs) (ls : Array Slot) (hl : lv_has ls 9 [(0, .ref o), (1, .int (J s)), (2, .int (J i)), (3, .int (J z_73)), (4, .int (J z_80)), (5, .int (J z_88)), (6, .int (J k3))]) (i121_0 : 0 ≤ k3 ∧ k3 ≤ 25921), ((25921 : Int) - k3).toNat < nn → W pr l en (headSpec (jw yX12_parts cX12_parts 9 (some .long)) (jr 4 88)).room st mi (([.ref o, .int (J s)] : List Value).toArray) below meth co H locs 0 0 (MQ below (jWl (fun u' => ∃ nw : Nat → Int64, ∃ tn_ : Nat → Int64, u' = (uL (uL u 13 nw) 14 tn_) ∧ (IM u')) (fun u' H => va_P D.1 j_cl (mW D o q u') H) A) (([.ref o, .int (J s)] : List Value).toArray) st 0 0 A) (F0 mi 121 ls []) := by
                          intro nn
                          induction nn with
                          | zero => intros; omega
                          | succ nn ih_121 =>
                            intro k3 t4 H locs hP hS ls hl i121_0 hm
                            refine lv_iload SS.1 SS.2.1 dX12_parts_121 (lv_at hl 6 rfl) ?_
                            refine j_sipush SS dX12_parts_123 (by decide +kernel) ?_
                            refine j_icmp_ge SS (tgt := 221) (x := k3) (y := 25921) dX12_parts_126 (by decide) (by omega) (by decide) (fun c_126 => ?_) (fun c_126 => ?_)
                            · skip
                              refine j_iconst SS dX12_parts_221 ?_
                              refine lv_istore (lv' := [(6, .int (J 0)), (0, .ref o), (1, .int (J s)), (2, .int (J i)), (3, .int (J z_73)), (4, .int (J z_80)), (5, .int (J z_88))]) SS.1 SS.2.1 dX12_parts_222 hl (by decide) rfl (fun ls hl => ?_)
                              have L_224 : ∀ (nn : Nat) (k4 : Int) (n6 : Nat → Int64) (H : Heap) (locs : List Loc) (hP : va_P D.1 j_cl (mW D o q (uL (uL u 13 n6) 14 t4)) H) (hS : va_S A st.heap H locs) (ls : Array Slot) (hl : lv_has ls 9 [(0, .ref o), (1, .int (J s)), (2, .int (J i)), (6, .int (J k4))]) (i224_0 : 0 ≤ k4 ∧ k4 ≤ 25921), ((25921 : Int) - k4).toNat < nn → W pr l en (headSpec (jw yX12_parts cX12_parts 9 (some .long)) (jr 4 88)).room st mi (([.ref o, .int (J s)] : List Value).toArray) below meth co H locs 0 0 (MQ below (jWl (fun u' => ∃ nw : Nat → Int64, ∃ tn_ : Nat → Int64, u' = (uL (uL u 13 nw) 14 tn_) ∧ (IM u')) (fun u' H => va_P D.1 j_cl (mW D o q u') H) A) (([.ref o, .int (J s)] : List Value).toArray) st 0 0 A) (F0 mi 224 ls []) := by
                                intro nn
                                induction nn with
                                | zero => intros; omega
                                | succ nn ih_224 =>
                                  intro k4 n6 H locs hP hS ls hl i224_0 hm
                                  refine lv_iload SS.1 SS.2.1 dX12_parts_224 (lv_at hl 3 rfl) ?_
                                  refine j_sipush SS dX12_parts_226 (by decide +kernel) ?_
                                  refine j_icmp_ge SS (tgt := 252) (x := k4) (y := 25921) dX12_parts_229 (by decide) (by omega) (by decide) (fun c_229 => ?_) (fun c_229 => ?_)
                                  · skip
                                    refine lv_iinc (v := J (i + 1)) (lv' := [(2, .int (J (i + 1))), (0, .ref o), (1, .int (J s)), (6, .int (J k4))]) SS.1 SS.2.1 dX12_parts_252 hl (k := 2) rfl (J_add _ _) (by decide) rfl (fun ls hl => ?_)
                                    refine lv_goto (tgt := 60) SS.1 SS.2.1 dX12_parts_255 (by decide) ?_
                                    exact ih_60 (i + 1) n6 t4 _ _ hP hS ls (lv_sub hl [1, 2, 0] rfl) (by omega) (by omega)
                                  · skip
                                    refine lv_aload_n SS.1 SS.2.1 dX12_parts_232 rfl (lv_at hl 0 rfl) ?_
                                    refine j_get SS hG hP 0 (v := .ref (q 13)) (C := RX12) (T := TX12) (N := 31) rfl rfl inX12 13 (by decide) (ref := RX12) kw_1071 rfl rfl dX12_parts_233 ?_
                                    refine lv_iload SS.1 SS.2.1 dX12_parts_236 (lv_at hl 3 rfl) ?_
                                    refine lv_aload_n SS.1 SS.2.1 dX12_parts_238 rfl (lv_at hl 0 rfl) ?_
                                    refine j_get SS hG hP 0 (v := .ref (q 14)) (C := RX12) (T := TX12) (N := 31) rfl rfl inX12 14 (by decide) (ref := RX12) kw_1072 rfl rfl dX12_parts_239 ?_
                                    refine lv_iload SS.1 SS.2.1 dX12_parts_242 (lv_at hl 3 rfl) ?_
                                    refine j_lald SS hG hP 12 (n := 25921) (f := t4) rfl (z := k4) (by omega) (by omega) dX12_parts_244 ?_
                                    refine j_last SS hG hP (mW_D hD) hS 11 (n := 25921) (f := n6) rfl (z := k4) (v := (t4 (k4).toNat)) (by omega) (by omega) dX12_parts_245 (ws' := (mW D o q (uL (uL u 13 (vp_updL n6 (k4).toNat (t4 (k4).toNat))) 14 t4))) rfl (fun H locs hP hS => ?_)
                                    refine lv_iinc (v := J (k4 + 1)) (lv' := [(6, .int (J (k4 + 1))), (0, .ref o), (1, .int (J s)), (2, .int (J i))]) SS.1 SS.2.1 dX12_parts_246 hl (k := 3) rfl (J_add _ _) (by decide) rfl (fun ls hl => ?_)
                                    refine lv_goto (tgt := 224) SS.1 SS.2.1 dX12_parts_249 (by decide) ?_
                                    exact ih_224 (k4 + 1) (vp_updL n6 (k4).toNat (t4 (k4).toNat)) _ _ hP hS ls (lv_sub hl [1, 2, 3, 0] rfl) (by omega) (by omega)
                              exact L_224 (((25921 : Int) - (0 : Int)).toNat + 1) 0 n2 _ _ hP hS ls (lv_sub hl [1, 2, 3, 0] rfl) (by omega) (Nat.lt_succ_self _)
                            · skip
                              refine lv_aload_n SS.1 SS.2.1 dX12_parts_129 rfl (lv_at hl 0 rfl) ?_
                              refine j_get SS hG hP 0 (v := .ref (q 13)) (C := RX12) (T := TX12) (N := 31) rfl rfl inX12 13 (by decide) (ref := RX12) kw_1071 rfl rfl dX12_parts_130 ?_
                              refine lv_iload SS.1 SS.2.1 dX12_parts_133 (lv_at hl 6 rfl) ?_
                              refine j_lald SS hG hP 11 (n := 25921) (f := n2) rfl (z := k3) (by omega) (by omega) dX12_parts_135 ?_
                              refine lv_lconst (v := 0) SS.1 SS.2.1 dX12_parts_136 (by decide +kernel) ?_
                              refine j_lcmp SS dX12_parts_137 (fun z_137 hz_137 => ?_)
                              refine j_if_eq SS (tgt := 215) (x := z_137) dX12_parts_138 (by decide) (by omega) (fun c_138 => ?_) (fun c_138 => ?_)
                              · skip
                                refine lv_iinc (v := J (k3 + 1)) (lv' := [(6, .int (J (k3 + 1))), (0, .ref o), (1, .int (J s)), (2, .int (J i)), (3, .int (J z_73)), (4, .int (J z_80)), (5, .int (J z_88))]) SS.1 SS.2.1 dX12_parts_215 hl (k := 6) rfl (J_add _ _) (by decide) rfl (fun ls hl => ?_)
                                refine lv_goto (tgt := 121) SS.1 SS.2.1 dX12_parts_218 (by decide) ?_
                                exact ih_121 (k3 + 1) t4 _ _ hP hS ls (lv_sub hl [1, 2, 3, 4, 5, 6, 0] rfl) (by omega) (by omega)
                              · skip
                                refine j_iconst SS dX12_parts_141 ?_
                                refine lv_istore (lv' := [(7, .int (J 0)), (0, .ref o), (1, .int (J s)), (2, .int (J i)), (3, .int (J z_73)), (4, .int (J z_80)), (5, .int (J z_88)), (6, .int (J k3))]) SS.1 SS.2.1 dX12_parts_142 hl (by decide) rfl (fun ls hl => ?_)
                                have L_144 : ∀ (nn : Nat) (t : Int) (t5 : Nat → Int64) (H : Heap) (locs : List Loc) (hP : va_P D.1 j_cl (mW D o q (uL (uL u 13 n2) 14 t5)) H) (hS : va_S A st.heap H locs) (ls : Array Slot) (hl : lv_has ls 9 [(0, .ref o), (1, .int (J s)), (2, .int (J i)), (3, .int (J z_73)), (4, .int (J z_80)), (5, .int (J z_88)), (6, .int (J k3)), (7, .int (J t))]) (i144_0 : 0 ≤ t ∧ t ≤ 81), ((81 : Int) - t).toNat < nn → W pr l en (headSpec (jw yX12_parts cX12_parts 9 (some .long)) (jr 4 88)).room st mi (([.ref o, .int (J s)] : List Value).toArray) below meth co H locs 0 0 (MQ below (jWl (fun u' => ∃ nw : Nat → Int64, ∃ tn_ : Nat → Int64, u' = (uL (uL u 13 nw) 14 tn_) ∧ (IM u')) (fun u' H => va_P D.1 j_cl (mW D o q u') H) A) (([.ref o, .int (J s)] : List Value).toArray) st 0 0 A) (F0 mi 144 ls []) := by
                                  intro nn
                                  induction nn with
                                  | zero => intros; omega
                                  | succ nn ih_144 =>
                                    intro t t5 H locs hP hS ls hl i144_0 hm
                                    refine lv_iload SS.1 SS.2.1 dX12_parts_144 (lv_at hl 7 rfl) ?_
                                    refine lv_iload SS.1 SS.2.1 dX12_parts_146 (lv_at hl 5 rfl) ?_
                                    refine j_icmp_gt SS (tgt := 215) (x := t) (y := z_88) dX12_parts_148 (by decide) (by omega) (by omega) (fun c_148 => ?_) (fun c_148 => ?_)
                                    · skip
                                      refine lv_iinc (v := J (k3 + 1)) (lv' := [(6, .int (J (k3 + 1))), (0, .ref o), (1, .int (J s)), (2, .int (J i)), (3, .int (J z_73)), (4, .int (J z_80)), (5, .int (J z_88)), (7, .int (J t))]) SS.1 SS.2.1 dX12_parts_215 hl (k := 6) rfl (J_add _ _) (by decide) rfl (fun ls hl => ?_)
                                      refine lv_goto (tgt := 121) SS.1 SS.2.1 dX12_parts_218 (by decide) ?_
                                      exact ih_121 (k3 + 1) t5 _ _ hP hS ls (lv_sub hl [1, 2, 3, 4, 5, 6, 0] rfl) (by omega) (by omega)
                                    · skip
                                      have ke := km_e i121_0.1
                                      have m1 := mulb (A := 81) (B := 80) (a := t) (b := z_73) (by omega) (by omega)
                                      have m2 := mulb (A := 81) (B := 80) (a := t) (b := z_80) (by omega) (by omega)
                                      refine lv_iload SS.1 SS.2.1 dX12_parts_151 (lv_at hl 6 rfl) ?_
                                      refine j_sipush SS dX12_parts_153 (by decide +kernel) ?_
                                      refine j_irem SS (x := k3) (y := 161) dX12_parts_156 (by omega) (by decide) (by decide) ?_
                                      refine j_bipush SS dX12_parts_157 (by decide +kernel) ?_
                                      refine j_isub SS (x := (Int.tmod k3 161)) (y := 80) dX12_parts_159 ?_
                                      refine lv_iload SS.1 SS.2.1 dX12_parts_160 (lv_at hl 7 rfl) ?_
                                      refine lv_iload_n SS.1 SS.2.1 dX12_parts_162 rfl (lv_at hl 3 rfl) ?_
                                      refine j_imul SS (x := t) (y := z_73) dX12_parts_163 ?_
                                      refine j_iadd SS (x := ((Int.tmod k3 161) - 80)) (y := (t * z_73)) dX12_parts_164 ?_
                                      refine lv_iload SS.1 SS.2.1 dX12_parts_165 (lv_at hl 6 rfl) ?_
                                      refine j_sipush SS dX12_parts_167 (by decide +kernel) ?_
                                      refine j_idiv SS (x := k3) (y := 161) dX12_parts_170 (by omega) (by decide) (by decide) ?_
                                      refine j_bipush SS dX12_parts_171 (by decide +kernel) ?_
                                      refine j_isub SS (x := (Int.tdiv k3 161)) (y := 80) dX12_parts_173 ?_
                                      refine lv_iload SS.1 SS.2.1 dX12_parts_174 (lv_at hl 7 rfl) ?_
                                      refine lv_iload SS.1 SS.2.1 dX12_parts_176 (lv_at hl 4 rfl) ?_
                                      refine j_imul SS (x := t) (y := z_80) dX12_parts_178 ?_
                                      refine j_iadd SS (x := ((Int.tdiv k3 161) - 80)) (y := (t * z_80)) dX12_parts_179 ?_
                                      refine j_sRi SS (As := [.int (J (((Int.tmod k3 161) - 80) + (t * z_73))), .int (J (((Int.tdiv k3 161) - 80) + (t * z_80)))]) (rest := []) (c_X12_spot l D (((Int.tmod k3 161) - 80) + (t * z_73)) (((Int.tdiv k3 161) - 80) + (t * z_80)) (show -2147483648 ≤ (((Int.tmod k3 161) - 80) + (t * z_73)) ∧ (((Int.tmod k3 161) - 80) + (t * z_73)) ≤ 2147483647 from (by rw [ke.1]; omega)) (show -2147483648 ≤ (((Int.tdiv k3 161) - 80) + (t * z_80)) ∧ (((Int.tdiv k3 161) - 80) + (t * z_80)) ≤ 2147483647 from (by rw [ke.2]; omega))) mf_X12_spot kw_1329 hG trivial rfl hl.1 ⟨⟨Nat.le_of_ble_eq_true rfl, Nat.le_of_ble_eq_true rfl⟩, Nat.le_of_ble_eq_true rfl, Nat.le_refl _, Nat.le_refl _⟩ rfl dX12_parts_180 (fun z_180 h_180 => ?_)
                                      have h_180 : ((-80 ≤ (((Int.tmod k3 161) - 80) + (t * z_73)) ∧ (((Int.tmod k3 161) - 80) + (t * z_73)) ≤ 80) ∧ (-80 ≤ (((Int.tdiv k3 161) - 80) + (t * z_80)) ∧ (((Int.tdiv k3 161) - 80) + (t * z_80)) ≤ 80) ∧ z_180 = 161 * ((((Int.tdiv k3 161) - 80) + (t * z_80)) + 80) + (((Int.tmod k3 161) - 80) + (t * z_73)) + 80) ∨ (¬ ((-80 ≤ (((Int.tmod k3 161) - 80) + (t * z_73)) ∧ (((Int.tmod k3 161) - 80) + (t * z_73)) ≤ 80) ∧ (-80 ≤ (((Int.tdiv k3 161) - 80) + (t * z_80)) ∧ (((Int.tdiv k3 161) - 80) + (t * z_80)) ≤ 80)) ∧ z_180 = -9) := h_180
                                      refine lv_istore (lv' := [(8, .int (J z_180)), (0, .ref o), (1, .int (J s)), (2, .int (J i)), (3, .int (J z_73)), (4, .int (J z_80)), (5, .int (J z_88)), (6, .int (J k3)), (7, .int (J t))]) SS.1 SS.2.1 dX12_parts_183 hl (by decide) rfl (fun ls hl => ?_)
                                      refine lv_iload SS.1 SS.2.1 dX12_parts_185 (lv_at hl 0 rfl) ?_
                                      refine j_bipush SS dX12_parts_187 (by decide +kernel) ?_
                                      refine j_icmp_eq SS (tgt := 209) (x := z_180) (y := (-9)) dX12_parts_189 (by decide) (by omega) (by decide) (fun c_189 => ?_) (fun c_189 => ?_)
                                      · skip
                                        refine lv_iinc (v := J (t + 1)) (lv' := [(7, .int (J (t + 1))), (8, .int (J z_180)), (0, .ref o), (1, .int (J s)), (2, .int (J i)), (3, .int (J z_73)), (4, .int (J z_80)), (5, .int (J z_88)), (6, .int (J k3))]) SS.1 SS.2.1 dX12_parts_209 hl (k := 8) rfl (J_add _ _) (by decide) rfl (fun ls hl => ?_)
                                        refine lv_goto (tgt := 144) SS.1 SS.2.1 dX12_parts_212 (by decide) ?_
                                        exact ih_144 (t + 1) t5 _ _ hP hS ls (lv_sub hl [2, 3, 4, 5, 6, 7, 8, 0] rfl) (by omega) (by omega)
                                      · skip
                                        refine lv_aload_n SS.1 SS.2.1 dX12_parts_192 rfl (lv_at hl 1 rfl) ?_
                                        refine j_get SS hG hP 0 (v := .ref (q 14)) (C := RX12) (T := TX12) (N := 31) rfl rfl inX12 14 (by decide) (ref := RX12) kw_1072 rfl rfl dX12_parts_193 ?_
                                        refine lv_iload SS.1 SS.2.1 dX12_parts_196 (lv_at hl 0 rfl) ?_
                                        refine lv_dup2_11 SS.1 SS.2.1 dX12_parts_198 rfl rfl ?_
                                        refine j_lald SS hG hP 12 (n := 25921) (f := t5) rfl (z := z_180) (by omega) (by omega) dX12_parts_199 ?_
                                        refine lv_aload_n SS.1 SS.2.1 dX12_parts_200 rfl (lv_at hl 1 rfl) ?_
                                        refine j_get SS hG hP 0 (v := .ref (q 13)) (C := RX12) (T := TX12) (N := 31) rfl rfl inX12 13 (by decide) (ref := RX12) kw_1071 rfl rfl dX12_parts_201 ?_
                                        refine lv_iload SS.1 SS.2.1 dX12_parts_204 (lv_at hl 7 rfl) ?_
                                        refine j_lald SS hG hP 11 (n := 25921) (f := n2) rfl (z := k3) (by omega) (by omega) dX12_parts_206 ?_
                                        refine lv_ladd SS.1 SS.2.1 dX12_parts_207 ?_
                                        refine j_last SS hG hP (mW_D hD) hS 12 (n := 25921) (f := t5) rfl (z := z_180) (v := ((t5 (z_180).toNat) + (n2 (k3).toNat))) (by omega) (by omega) dX12_parts_208 (ws' := (mW D o q (uL (uL u 13 n2) 14 (vp_updL t5 (z_180).toNat ((t5 (z_180).toNat) + (n2 (k3).toNat)))))) rfl (fun H locs hP hS => ?_)
                                        refine lv_iinc (v := J (t + 1)) (lv' := [(7, .int (J (t + 1))), (8, .int (J z_180)), (0, .ref o), (1, .int (J s)), (2, .int (J i)), (3, .int (J z_73)), (4, .int (J z_80)), (5, .int (J z_88)), (6, .int (J k3))]) SS.1 SS.2.1 dX12_parts_209 hl (k := 8) rfl (J_add _ _) (by decide) rfl (fun ls hl => ?_)
                                        refine lv_goto (tgt := 144) SS.1 SS.2.1 dX12_parts_212 (by decide) ?_
                                        exact ih_144 (t + 1) (vp_updL t5 (z_180).toNat ((t5 (z_180).toNat) + (n2 (k3).toNat))) _ _ hP hS ls (lv_sub hl [2, 3, 4, 5, 6, 7, 8, 0] rfl) (by omega) (by omega)
                                exact L_144 (((81 : Int) - (0 : Int)).toNat + 1) 0 t4 _ _ hP hS ls (lv_sub hl [1, 2, 3, 4, 5, 6, 7, 0] rfl) (by omega) (Nat.lt_succ_self _)
                        exact L_121 (((25921 : Int) - (0 : Int)).toNat + 1) 0 t3 _ _ hP hS ls (lv_sub hl [1, 2, 3, 4, 5, 6, 0] rfl) (by omega) (Nat.lt_succ_self _)
                      · skip
                        refine lv_aload_n SS.1 SS.2.1 dX12_parts_104 rfl (lv_at hl 0 rfl) ?_
                        refine j_get SS hG hP 0 (v := .ref (q 14)) (C := RX12) (T := TX12) (N := 31) rfl rfl inX12 14 (by decide) (ref := RX12) kw_1072 rfl rfl dX12_parts_105 ?_
                        refine lv_iload SS.1 SS.2.1 dX12_parts_108 (lv_at hl 6 rfl) ?_
                        refine lv_lconst (v := 0) SS.1 SS.2.1 dX12_parts_110 (by decide +kernel) ?_
                        refine j_last SS hG hP (mW_D hD) hS 12 (n := 25921) (f := t3) rfl (z := k2) (v := 0) (by omega) (by omega) dX12_parts_111 (ws' := (mW D o q (uL (uL u 13 n2) 14 (vp_updL t3 (k2).toNat 0)))) rfl (fun H locs hP hS => ?_)
                        refine lv_iinc (v := J (k2 + 1)) (lv' := [(6, .int (J (k2 + 1))), (0, .ref o), (1, .int (J s)), (2, .int (J i)), (3, .int (J z_73)), (4, .int (J z_80)), (5, .int (J z_88))]) SS.1 SS.2.1 dX12_parts_112 hl (k := 6) rfl (J_add _ _) (by decide) rfl (fun ls hl => ?_)
                        refine lv_goto (tgt := 96) SS.1 SS.2.1 dX12_parts_115 (by decide) ?_
                        exact ih_96 (k2 + 1) (vp_updL t3 (k2).toNat 0) _ _ hP hS ls (lv_sub hl [1, 2, 3, 4, 5, 6, 0] rfl) (by omega) (by omega)
                  exact L_96 (((25921 : Int) - (0 : Int)).toNat + 1) 0 t2 _ _ hP hS ls (lv_sub hl [4, 5, 6, 3, 2, 1, 0] rfl) (by omega) (Nat.lt_succ_self _)
            exact L_60 ((mN u s - (0 : Int)).toNat + 1) 0 n1 (u.2.1 14) _ _ hP hS ls (lv_sub hl [1, 2, 0] rfl) (by omega) (Nat.lt_succ_self _)
          · skip
            refine lv_aload_n SS.1 SS.2.1 dX12_parts_32 rfl (lv_at hl 0 rfl) ?_
            refine j_get SS hG hP 0 (v := .ref (q 13)) (C := RX12) (T := TX12) (N := 31) rfl rfl inX12 13 (by decide) (ref := RX12) kw_1071 rfl rfl dX12_parts_33 ?_
            refine lv_iload_n SS.1 SS.2.1 dX12_parts_36 rfl (lv_at hl 2 rfl) ?_
            refine lv_iload_n SS.1 SS.2.1 dX12_parts_37 rfl (lv_at hl 2 rfl) ?_
            refine j_iconst SS dX12_parts_38 ?_
            refine j_iconst SS dX12_parts_39 ?_
            refine j_sRi SS (As := [.int (J 0), .int (J 0)]) (rest := [.int (J k), .int (J k), .ref (q 13)]) (c_X12_spot l D 0 0 (show -2147483648 ≤ (0 : Int) ∧ (0 : Int) ≤ 2147483647 from (by omega)) (show -2147483648 ≤ (0 : Int) ∧ (0 : Int) ≤ 2147483647 from (by omega))) mf_X12_spot kw_1329 hG trivial rfl hl.1 ⟨⟨Nat.le_of_ble_eq_true rfl, Nat.le_of_ble_eq_true rfl⟩, Nat.le_of_ble_eq_true rfl, Nat.le_refl _, Nat.le_refl _⟩ rfl dX12_parts_40 (fun z_40 h_40 => ?_)
            have h_40 : ((-80 ≤ (0 : Int) ∧ (0 : Int) ≤ 80) ∧ (-80 ≤ (0 : Int) ∧ (0 : Int) ≤ 80) ∧ z_40 = 161 * ((0 : Int) + 80) + (0 : Int) + 80) ∨ (¬ ((-80 ≤ (0 : Int) ∧ (0 : Int) ≤ 80) ∧ (-80 ≤ (0 : Int) ∧ (0 : Int) ≤ 80)) ∧ z_40 = -9) := h_40
            refine j_icmp_ne SS (tgt := 50) (x := k) (y := z_40) dX12_parts_43 (by decide) (by omega) (by omega) (fun c_43 => ?_) (fun c_43 => ?_)
            · skip
              refine lv_lconst (v := 0) SS.1 SS.2.1 dX12_parts_50 (by decide +kernel) ?_
              refine j_last SS hG hP (mW_D hD) hS 11 (n := 25921) (f := n1) rfl (z := k) (v := 0) (by omega) (by omega) dX12_parts_51 (ws' := (mW D o q (uL u 13 (vp_updL n1 (k).toNat 0)))) rfl (fun H locs hP hS => ?_)
              refine lv_iinc (v := J (k + 1)) (lv' := [(2, .int (J (k + 1))), (0, .ref o), (1, .int (J s))]) SS.1 SS.2.1 dX12_parts_52 hl (k := 2) rfl (J_add _ _) (by decide) rfl (fun ls hl => ?_)
              refine lv_goto (tgt := 25) SS.1 SS.2.1 dX12_parts_55 (by decide) ?_
              exact ih_25 (k + 1) (vp_updL n1 (k).toNat 0) _ _ hP hS ls (lv_sub hl [1, 2, 0] rfl) (by omega) (by omega)
            · skip
              refine lv_lconst (v := 1) SS.1 SS.2.1 dX12_parts_46 (by decide +kernel) ?_
              refine lv_goto (tgt := 51) SS.1 SS.2.1 dX12_parts_47 (by decide) ?_
              refine j_last SS hG hP (mW_D hD) hS 11 (n := 25921) (f := n1) rfl (z := k) (v := 1) (by omega) (by omega) dX12_parts_51 (ws' := (mW D o q (uL u 13 (vp_updL n1 (k).toNat 1)))) rfl (fun H locs hP hS => ?_)
              refine lv_iinc (v := J (k + 1)) (lv' := [(2, .int (J (k + 1))), (0, .ref o), (1, .int (J s))]) SS.1 SS.2.1 dX12_parts_52 hl (k := 2) rfl (J_add _ _) (by decide) rfl (fun ls hl => ?_)
              refine lv_goto (tgt := 25) SS.1 SS.2.1 dX12_parts_55 (by decide) ?_
              exact ih_25 (k + 1) (vp_updL n1 (k).toNat 1) _ _ hP hS ls (lv_sub hl [1, 2, 0] rfl) (by omega) (by omega)
      exact L_25 (((25921 : Int) - (0 : Int)).toNat + 1) 0 (u.2.1 13) _ _ hP hS ls (lv_sub hl [1, 2, 0] rfl) (by omega) (Nat.lt_succ_self _)
    · skip
      refine lv_ldc2 SS.1 SS.2.1 SS.2.2.2.1 (SS.2.2.2.2 _ kw_1249) dX12_parts_19 ?_
      exact W.lret SS.1 SS.2.1 hr (fun t ht hW => ⟨⟨_, (uL (uL u 13 (u.2.1 13)) 14 (u.2.1 14)), rfl, (⟨(u.2.1 13), (u.2.1 14), rfl, p0⟩), by show va_P D.1 j_cl (mW D o q (uL (uL u 13 (u.2.1 13)) 14 (u.2.1 14))) t.heap; rw [ht]; exact hP⟩, hS.F ht⟩) hS.2.2 dX12_parts_22 hlk
  · skip
    refine lv_ldc2 SS.1 SS.2.1 SS.2.2.2.1 (SS.2.2.2.2 _ kw_1248) dX12_parts_7 ?_
    exact W.lret SS.1 SS.2.1 hr (fun t ht hW => ⟨⟨_, (uL (uL u 13 (u.2.1 13)) 14 (u.2.1 14)), rfl, (⟨(u.2.1 13), (u.2.1 14), rfl, p0⟩), by show va_P D.1 j_cl (mW D o q (uL (uL u 13 (u.2.1 13)) 14 (u.2.1 14))) t.heap; rw [ht]; exact hP⟩, hS.F ht⟩) hS.2.2 dX12_parts_10 hlk


theorem rowN_s {Bf : Nat → Int} {n k v : Int} (hn : 0 ≤ n) (hk : 0 ≤ k) (h : rowN Bf n k) (h1 : k = 12960 → v = 0) (h2 : k ≠ 12960 → v = -9) : rowN (upI Bf (25921 * n + k).toNat v) n (k + 1) := by
  intro j j0 j1
  by_cases e : j = k
  · subst e; rw [upI_s]; exact ⟨h1, h2⟩
  · rw [upI_n (by omega)]; exact h j j0 (by omega)
theorem rows_up {u : MS} {s : Int} {Bf : Nat → Int} {n i k v : Int} (h : rows u s Bf n i) (h0 : 0 ≤ i) (hn : i < n) (k0 : 0 ≤ k) (k1 : k < 25921) : rows u s (upI Bf (25921 * i + k).toNat v) n i := by
  refine ⟨fun j j0 j1 => ?_, fun i' g1 g2 j j0 j1 => ?_⟩
  · rw [upI_n (by omega)]; exact h.1 j j0 j1
  · exact rk_cong (fun m m0 m1 => upI_n (by omega)) (upI_n (by omega)) (h.2 i' g1 g2 j j0 j1)
theorem rk_up {u : MS} {s : Int} {Bf : Nat → Int} {i k j v : Int} (h : rk u s Bf i j) (h0 : 0 ≤ i) (k0 : 0 ≤ k) (k1 : k < 25921) (j0 : 0 ≤ j) (hj : j < k) : rk u s (upI Bf (25921 * i + k).toNat v) i j :=
  rk_cong (fun m m0 m1 => upI_n (by omega)) (upI_n (by omega)) h
def bt_ (u : MS) (s : Int) (Bf : Nat → Int) (i k t best : Int) : Prop := (best = -9 ∧ ∀ t' : Int, 0 ≤ t' → t' < t → bk Bf (i + 1) (k % 161 - 80 + t' * mDX u s i) (k / 161 - 80 + t' * mDY u s i) = -9) ∨ (0 ≤ best ∧ best ≤ 100 * (24 - i) ∧ ∃ t' : Int, 0 ≤ t' ∧ t' < t ∧ bk Bf (i + 1) (k % 161 - 80 + t' * mDX u s i) (k / 161 - 80 + t' * mDY u s i) ≠ -9 ∧ best = bk Bf (i + 1) (k % 161 - 80 + t' * mDX u s i) (k / 161 - 80 + t' * mDY u s i) + t')
theorem rk_new {u : MS} {s : Int} {Bf : Nat → Int} {i k t best : Int} (h0 : 0 ≤ i) (k0 : 0 ≤ k) (k1 : k < 25921) (ht : t = mS u s i + 1) (h : bt_ u s Bf i k t best) : rk u s (upI Bf (25921 * i + k).toNat best) i k := by
  have e : ∀ x y, bk (upI Bf (25921 * i + k).toNat best) (i + 1) x y = bk Bf (i + 1) x y := fun x y => bk_cong (fun m m0 m1 => upI_n (by omega))
  unfold rk
  rw [upI_s]
  rcases h with ⟨a, b⟩ | ⟨a, a2, t', b1, b2, b3, b4⟩
  · exact Or.inl ⟨a, fun t1 h1 h2 => by rw [e]; exact b t1 h1 (by omega)⟩
  · exact Or.inr ⟨a, a2, t', b1, by omega, by rw [e]; exact b3, by rw [e]; exact b4⟩
theorem bt_0 {u : MS} {s : Int} {Bf : Nat → Int} {i k : Int} : bt_ u s Bf i k 0 (-9) := Or.inl ⟨rfl, fun t' h1 h2 => by omega⟩
theorem bt_no {u : MS} {s : Int} {Bf : Nat → Int} {i k t best v : Int} (h : bt_ u s Bf i k t best) (hv : v = bk Bf (i + 1) (k % 161 - 80 + t * mDX u s i) (k / 161 - 80 + t * mDY u s i)) (hc : v = -9 ∨ best ≠ -9) : bt_ u s Bf i k (t + 1) best := by
  rcases h with ⟨a, b⟩ | ⟨a, a2, t', b1, b2, b3, b4⟩
  · refine Or.inl ⟨a, fun t' h1 h2 => ?_⟩
    by_cases e : t' = t
    · rw [e, ← hv]; omega
    · exact b t' h1 (by omega)
  · exact Or.inr ⟨a, a2, t', b1, by omega, b3, b4⟩
theorem bt_yes {u : MS} {s : Int} {Bf : Nat → Int} {i k t best v : Int} (h : bt_ u s Bf i k t best) (ht : 0 ≤ t) (ht2 : t ≤ 80) (hv : v = bk Bf (i + 1) (k % 161 - 80 + t * mDX u s i) (k / 161 - 80 + t * mDY u s i)) (hr : 0 ≤ v ∧ v ≤ 100 * (24 - (i + 1))) : bt_ u s Bf i k (t + 1) (v + t) :=
  Or.inr ⟨by omega, by omega, t, ht, by omega, by rw [← hv]; omega, by rw [← hv]⟩
theorem rk_at {u : MS} {s : Int} {Bf : Nat → Int} {i x y : Int} (hx : (-80 ≤ x ∧ x ≤ 80) ∧ -80 ≤ y ∧ y ≤ 80) (h : rk u s Bf i (161 * (y + 80) + x + 80)) : (bk Bf i x y = -9 ∧ ∀ t : Int, 0 ≤ t → t ≤ mS u s i → bk Bf (i + 1) (x + t * mDX u s i) (y + t * mDY u s i) = -9) ∨ (0 ≤ bk Bf i x y ∧ ∃ t : Int, 0 ≤ t ∧ t ≤ mS u s i ∧ bk Bf (i + 1) (x + t * mDX u s i) (y + t * mDY u s i) ≠ -9 ∧ bk Bf i x y = bk Bf (i + 1) (x + t * mDX u s i) (y + t * mDY u s i) + t) := by
  unfold rk at h
  rw [show (161 * (y + 80) + x + 80) % 161 - 80 = x by omega, show (161 * (y + 80) + x + 80) / 161 - 80 = y by omega] at h
  rw [bk_pos hx]
  rcases h with ⟨a, b⟩ | ⟨a, a2, b⟩
  · exact Or.inl ⟨a, b⟩
  · exact Or.inr ⟨a, b⟩
theorem mX_n {u : MS} {s : Int} : mX u s (mN u s) = mX u s 0 ∧ mY u s (mN u s) = mY u s 0 := by
  unfold mX mY; rw [Int.tmod_self, Int.zero_tmod]; exact ⟨rfl, rfl⟩
/-- the whole polygon leads home -/
theorem bk_path {u : MS} {s : Int} {Bf : Nat → Int} (hN : 0 < mN u s) (hb : ∀ i : Int, 0 ≤ i → (-40 ≤ mX u s i ∧ mX u s i ≤ 40) ∧ (-40 ≤ mY u s i ∧ mY u s i ≤ 40)) (h : rows u s Bf (mN u s) (-1)) : ∀ m : Nat, (m : Int) ≤ mN u s → bk Bf (mN u s - m) (mX u s (mN u s - m) - mX u s 0) (mY u s (mN u s - m) - mY u s 0) ≠ -9 := by
  intro m
  induction m with
  | zero =>
    intro _
    rw [show mN u s - ((0 : Nat) : Int) = mN u s by omega, mX_n.1, mX_n.2, Int.sub_self, Int.sub_self, bk_pos (by omega)]
    have := (h.1 12960 (by omega) (by omega)).1 rfl
    rw [show (161 * ((0 : Int) + 80) + 0 + 80) = 12960 by omega, this]; omega
  | succ m ih =>
    intro hm
    have ih := ih (by omega)
    have b1 := hb (mN u s - ((m + 1 : Nat) : Int)) (by omega)
    have b0 := hb 0 (by omega)
    have hx : (-80 ≤ mX u s (mN u s - ((m + 1 : Nat) : Int)) - mX u s 0 ∧ mX u s (mN u s - ((m + 1 : Nat) : Int)) - mX u s 0 ≤ 80) ∧ -80 ≤ mY u s (mN u s - ((m + 1 : Nat) : Int)) - mY u s 0 ∧ mY u s (mN u s - ((m + 1 : Nat) : Int)) - mY u s 0 ≤ 80 := by omega
    have hr := rk_at hx (h.2 (mN u s - ((m + 1 : Nat) : Int)) (by omega) (by omega) _ (by omega) (by omega))
    rcases hr with ⟨_, hr⟩ | ⟨hr, _⟩
    · exfalso
      have h1 := hr (mS u s (mN u s - ((m + 1 : Nat) : Int))) (by unfold mS; omega) (Int.le_refl _)
      rw [mDX_m, mDY_m, show mN u s - ((m + 1 : Nat) : Int) + 1 = mN u s - (m : Int) by omega] at h1
      apply ih
      rw [← h1]
      congr 1 <;> omega
    · omega
def lp_ (u : MS) (s : Int) (Bf : Nat → Int) (n i t be fi st : Int) : Prop := (be = -9 ∧ fi = -9 ∧ st = 0 ∧ ∀ i' t' : Int, 0 ≤ i' → 1 ≤ t' → (i' < i ∧ t' ≤ mS u s i' ∨ i' = i ∧ t' < t) → bk Bf (i' + 1) (t' * mDX u s i') (t' * mDY u s i') = -9) ∨ (0 ≤ be ∧ be ≤ 3000 ∧ 0 ≤ fi ∧ fi < n ∧ 1 ≤ st ∧ st ≤ mS u s fi ∧ bk Bf (fi + 1) (st * mDX u s fi) (st * mDY u s fi) ≠ -9)
theorem lp_0 {u : MS} {s : Int} {Bf : Nat → Int} {n : Int} : lp_ u s Bf n 0 1 (-9) (-9) 0 := Or.inl ⟨rfl, rfl, rfl, fun i' t' h1 h2 h3 => by omega⟩
theorem lp_row {u : MS} {s : Int} {Bf : Nat → Int} {n i t be fi st : Int} (h : lp_ u s Bf n i t be fi st) (ht : mS u s i < t) : lp_ u s Bf n (i + 1) 1 be fi st := by
  rcases h with ⟨a, b, c, d⟩ | h
  · refine Or.inl ⟨a, b, c, fun i' t' h1 h2 h3 => d i' t' h1 h2 ?_⟩
    by_cases e : i' = i
    · subst e; omega
    · omega
  · exact Or.inr h
theorem lp_no {u : MS} {s : Int} {Bf : Nat → Int} {n i t be fi st v : Int} (h : lp_ u s Bf n i t be fi st) (hv : v = bk Bf (i + 1) (t * mDX u s i) (t * mDY u s i)) (hc : v = -9 ∨ be ≠ -9) : lp_ u s Bf n i (t + 1) be fi st := by
  rcases h with ⟨a, b, c, d⟩ | h
  · refine Or.inl ⟨a, b, c, fun i' t' h1 h2 h3 => ?_⟩
    by_cases e : i' = i ∧ t' = t
    · rw [e.1, e.2, ← hv]; omega
    · exact d i' t' h1 h2 (by omega)
  · exact Or.inr h
theorem lp_yes {u : MS} {s : Int} {Bf : Nat → Int} {n i t v : Int} (hi : 0 ≤ i) (hn : i < n) (ht : 1 ≤ t) (ht2 : t ≤ mS u s i) (ht3 : t ≤ 80) (hv : v = bk Bf (i + 1) (t * mDX u s i) (t * mDY u s i)) (hr : 0 ≤ v ∧ v ≤ 100 * (24 - (i + 1))) : lp_ u s Bf n i (t + 1) (v + t) i t :=
  Or.inr ⟨by omega, by omega, hi, hn, ht, ht2, by rw [← hv]; omega⟩

set_option maxHeartbeats 4000000 in
set_option maxRecDepth 100000 in
theorem c_X12_findBack (l : Launch) (D : JD) (o : Nat) (q : Nat → Nat) (u : MS) (A : Nat → Prop) (hD : va_D A (mW D o q u)) (s : Int) (p0 : 0 ≤ s ∧ s ≤ 7) (p1 : Sh u s) (p2 : 2 ≤ mN u s) : Met l yX12_findBack (jw yX12_findBack cX12_findBack 11 none) (jr 4 88) (jP [.ref o, .int (J s)] D (fun H => va_P D.1 j_cl (mW D o q u) H)) (jWv (fun u' => ∃ Bf : Nat → Int, u' = (uI u 15 Bf) ∧ (rows u s Bf (mN u s) (-1))) (fun u' H => va_P D.1 j_cl (mW D o q u') H) A) 0 0 A := by
  refine Met.ofW (cc := cX12_findBack) (maxL := 11) (ret := none) (by decide) rfl ?_
  intro pr en st mi args below meth co s₁ B hml hv
  obtain ⟨rfl, hG, hP⟩ := hv
  have hr := B.returns
  have hlk := B.notSynchronized
  have SS : jS pr mi co cX12_findBack 11 st _ RX12 := ⟨B.exec, B.bytes, hml, findClass_of_methodNamed B.named, fun w hw => atoms_spec (ws := (jw yX12_findBack cX12_findBack 11 none)) B.pre w (List.mem_cons_of_mem _ hw)⟩
  have hl := lv_entry ([.ref o, .int (J s)]) (n := 11) (Nat.le_of_ble_eq_true rfl)
  rw [lg_entry_eq]
  generalize (lg_sl ([.ref o, .int (J s)]) ++ List.replicate (11 - (lg_sl ([.ref o, .int (J s)])).length) Slot.unset).toArray = ls at hl ⊢
  have hl : lv_has ls 11 [(0, .ref o), (1, .int (J s))] := hl
  have hS : va_S A st.heap st.heap [] := va_S.rf
  have hN := p1.1
  have hC := p1.2.2
  refine lv_aload_n SS.1 SS.2.1 dX12_findBack_0 rfl (lv_at hl 0 rfl) ?_
  refine j_get SS hG hP 0 (v := .ref (q 0)) (C := RX12) (T := TX12) (N := 31) rfl rfl inX12 0 (by decide) (ref := RX12) kw_1058 rfl rfl dX12_findBack_1 ?_
  refine lv_iload_n SS.1 SS.2.1 dX12_findBack_4 rfl (lv_at hl 1 rfl) ?_
  refine j_iald SS hG hP 1 (n := 8) (f := (u.1 0)) rfl (z := s) (by omega) (by omega) dX12_findBack_5 ?_
  have hN_5 := (show Sh u s from p1).1
  refine lv_istore_n (lv' := [(2, .int (J (mN u s))), (0, .ref o), (1, .int (J s))]) SS.1 SS.2.1 dX12_findBack_6 rfl hl (by decide) rfl (fun ls hl => ?_)
  refine j_iconst SS dX12_findBack_7 ?_
  refine lv_istore_n (lv' := [(3, .int (J 0)), (2, .int (J (mN u s))), (0, .ref o), (1, .int (J s))]) SS.1 SS.2.1 dX12_findBack_8 rfl hl (by decide) rfl (fun ls hl => ?_)
  have L_9 : ∀ (nn : Nat) (k : Int) (b1 : Nat → Int) (H : Heap) (locs : List Loc) (hP : va_P D.1 j_cl (mW D o q (uI u 15 b1)) H) (hS : va_S A st.heap H locs) (ls : Array Slot) (hl : lv_has ls 11 [(0, .ref o), (1, .int (J s)), (2, .int (J (mN u s))), (3, .int (J k))]) (i9_0 : 0 ≤ k ∧ k ≤ 25921) (i9_1 : rowN b1 (mN u s) k), ((25921 : Int) - k).toNat < nn → W pr l en (headSpec (jw yX12_findBack cX12_findBack 11 none) (jr 4 88)).room st mi (([.ref o, .int (J s)] : List Value).toArray) below meth co H locs 0 0 (MQ below (jWv (fun u' => ∃ Bf : Nat → Int, u' = (uI u 15 Bf) ∧ (rows u s Bf (mN u s) (-1))) (fun u' H => va_P D.1 j_cl (mW D o q u') H) A) (([.ref o, .int (J s)] : List Value).toArray) st 0 0 A) (F0 mi 9 ls []) := by
    intro nn
    induction nn with
    | zero => intros; omega
    | succ nn ih_9 =>
      intro k b1 H locs hP hS ls hl i9_0 i9_1 hm
      refine lv_iload_n SS.1 SS.2.1 dX12_findBack_9 rfl (lv_at hl 3 rfl) ?_
      refine j_sipush SS dX12_findBack_10 (by decide +kernel) ?_
      refine j_icmp_ge SS (tgt := 49) (x := k) (y := 25921) dX12_findBack_13 (by decide) (by omega) (by decide) (fun c_13 => ?_) (fun c_13 => ?_)
      · skip
        refine lv_iload_n SS.1 SS.2.1 dX12_findBack_49 rfl (lv_at hl 2 rfl) ?_
        refine j_iconst SS dX12_findBack_50 ?_
        refine j_isub SS (x := (mN u s)) (y := 1) dX12_findBack_51 ?_
        refine lv_istore_n (lv' := [(3, .int (J ((mN u s) - 1))), (0, .ref o), (1, .int (J s)), (2, .int (J (mN u s)))]) SS.1 SS.2.1 dX12_findBack_52 rfl hl (by decide) rfl (fun ls hl => ?_)
        have L_53 : ∀ (nn : Nat) (i : Int) (b2 : Nat → Int) (H : Heap) (locs : List Loc) (hP : va_P D.1 j_cl (mW D o q (uI u 15 b2)) H) (hS : va_S A st.heap H locs) (ls : Array Slot) (hl : lv_has ls 11 [(0, .ref o), (1, .int (J s)), (2, .int (J (mN u s))), (3, .int (J i))]) (i53_0 : -1 ≤ i ∧ i < mN u s) (i53_1 : rows u s b2 (mN u s) i), (i + 1).toNat < nn → W pr l en (headSpec (jw yX12_findBack cX12_findBack 11 none) (jr 4 88)).room st mi (([.ref o, .int (J s)] : List Value).toArray) below meth co H locs 0 0 (MQ below (jWv (fun u' => ∃ Bf : Nat → Int, u' = (uI u 15 Bf) ∧ (rows u s Bf (mN u s) (-1))) (fun u' H => va_P D.1 j_cl (mW D o q u') H) A) (([.ref o, .int (J s)] : List Value).toArray) st 0 0 A) (F0 mi 53 ls []) := by
          intro nn
          induction nn with
          | zero => intros; omega
          | succ nn ih_53 =>
            intro i b2 H locs hP hS ls hl i53_0 i53_1 hm
            refine lv_iload_n SS.1 SS.2.1 dX12_findBack_53 rfl (lv_at hl 3 rfl) ?_
            refine j_if_lt SS (tgt := 214) (x := i) dX12_findBack_54 (by decide) (by omega) (fun c_54 => ?_) (fun c_54 => ?_)
            · skip
              exact W.vret SS.1 SS.2.1 hr (fun t ht hW => ⟨⟨(uI u 15 b2), rfl, (⟨b2, rfl, by rw [show i = -1 by omega] at i53_1; exact i53_1⟩), by show va_P D.1 j_cl (mW D o q (uI u 15 b2)) t.heap; rw [ht]; exact hP⟩, hS.F ht⟩) hS.2.2 dX12_findBack_214 hlk
            · skip
              refine lv_aload_n SS.1 SS.2.1 dX12_findBack_57 rfl (lv_at hl 0 rfl) ?_
              refine lv_iload_n SS.1 SS.2.1 dX12_findBack_58 rfl (lv_at hl 1 rfl) ?_
              refine lv_iload_n SS.1 SS.2.1 dX12_findBack_59 rfl (lv_at hl 3 rfl) ?_
              refine j_vRi SS (As := [.int (J s), .int (J i)]) (rest := []) (c_X12_stepX l D o q (uI u 15 b2) s i (show 0 ≤ s ∧ s ≤ 7 from (by omega)) (show Sh u s from (p1)) (show 0 ≤ i ∧ i < mN u s from (by omega)) (show 2 ≤ mN u s from (by omega))) mf_X12_stepX kw_1332 hG hP hP (ci := 8) (q0 := 0) rfl rfl rfl rfl hl.1 ⟨⟨Nat.le_of_ble_eq_true rfl, Nat.le_of_ble_eq_true rfl⟩, Nat.le_of_ble_eq_true rfl, Nat.le_refl _, Nat.le_refl _⟩ rfl dX12_findBack_60 (fun z_60 h_60 => ?_)
              have h_60 : z_60 = mDX u s i ∧ -80 ≤ z_60 ∧ z_60 ≤ 80 := h_60
              refine lv_istore (lv' := [(4, .int (J z_60)), (0, .ref o), (1, .int (J s)), (2, .int (J (mN u s))), (3, .int (J i))]) SS.1 SS.2.1 dX12_findBack_63 hl (by decide) rfl (fun ls hl => ?_)
              refine lv_aload_n SS.1 SS.2.1 dX12_findBack_65 rfl (lv_at hl 1 rfl) ?_
              refine lv_iload_n SS.1 SS.2.1 dX12_findBack_66 rfl (lv_at hl 2 rfl) ?_
              refine lv_iload_n SS.1 SS.2.1 dX12_findBack_67 rfl (lv_at hl 4 rfl) ?_
              refine j_vRi SS (As := [.int (J s), .int (J i)]) (rest := []) (c_X12_stepY l D o q (uI u 15 b2) s i (show 0 ≤ s ∧ s ≤ 7 from (by omega)) (show Sh u s from (p1)) (show 0 ≤ i ∧ i < mN u s from (by omega)) (show 2 ≤ mN u s from (by omega))) mf_X12_stepY kw_1336 hG hP hP (ci := 8) (q0 := 0) rfl rfl rfl rfl hl.1 ⟨⟨Nat.le_of_ble_eq_true rfl, Nat.le_of_ble_eq_true rfl⟩, Nat.le_of_ble_eq_true rfl, Nat.le_refl _, Nat.le_refl _⟩ rfl dX12_findBack_68 (fun z_68 h_68 => ?_)
              have h_68 : z_68 = mDY u s i ∧ -80 ≤ z_68 ∧ z_68 ≤ 80 := h_68
              refine lv_istore (lv' := [(5, .int (J z_68)), (4, .int (J z_60)), (0, .ref o), (1, .int (J s)), (2, .int (J (mN u s))), (3, .int (J i))]) SS.1 SS.2.1 dX12_findBack_71 hl (by decide) rfl (fun ls hl => ?_)
              refine lv_aload_n SS.1 SS.2.1 dX12_findBack_73 rfl (lv_at hl 2 rfl) ?_
              refine lv_iload_n SS.1 SS.2.1 dX12_findBack_74 rfl (lv_at hl 3 rfl) ?_
              refine lv_iload_n SS.1 SS.2.1 dX12_findBack_75 rfl (lv_at hl 5 rfl) ?_
              refine j_vRi SS (As := [.int (J s), .int (J i)]) (rest := []) (c_X12_stepsOf l D o q (uI u 15 b2) s i (show 0 ≤ s ∧ s ≤ 7 from (by omega)) (show Sh u s from (p1)) (show 0 ≤ i ∧ i ≤ 100 from (by omega)) (show 0 < mN u s from (by omega))) mf_X12_stepsOf kw_1226 hG hP hP (ci := 8) (q0 := 0) rfl rfl rfl rfl hl.1 ⟨⟨Nat.le_of_ble_eq_true rfl, Nat.le_of_ble_eq_true rfl⟩, Nat.le_of_ble_eq_true rfl, Nat.le_refl _, Nat.le_refl _⟩ rfl dX12_findBack_76 (fun z_76 h_76 => ?_)
              have h_76 : z_76 = mS u s i ∧ 0 ≤ z_76 ∧ z_76 ≤ 80 := h_76
              have hst := h_76
              refine lv_istore (lv' := [(6, .int (J z_76)), (5, .int (J z_68)), (4, .int (J z_60)), (0, .ref o), (1, .int (J s)), (2, .int (J (mN u s))), (3, .int (J i))]) SS.1 SS.2.1 dX12_findBack_79 hl (by decide) rfl (fun ls hl => ?_)
              refine j_iconst SS dX12_findBack_81 ?_
              refine lv_istore (lv' := [(7, .int (J 0)), (6, .int (J z_76)), (5, .int (J z_68)), (4, .int (J z_60)), (0, .ref o), (1, .int (J s)), (2, .int (J (mN u s))), (3, .int (J i))]) SS.1 SS.2.1 dX12_findBack_82 hl (by decide) rfl (fun ls hl => ?_)
              have L_84 : ∀ (nn : Nat) (k2 : Int) (b3 : Nat → Int) (H : Heap) (locs : List Loc) (hP : va_P D.1 j_cl (mW D o q (uI u 15 b3)) H) (hS : va_S A st.heap H locs) (ls : Array Slot) (hl : lv_has ls 11 [(0, .ref o), (1, .int (J s)), (2, .int (J (mN u s))), (3, .int (J i)), (4, .int (J z_60)), (5, .int (J z_68)), (6, .int (J z_76)), (7, .int (J k2))]) (i84_0 : 0 ≤ k2 ∧ k2 ≤ 25921) (i84_1 : rows u s b3 (mN u s) i) (i84_2 : ∀ j : Int, 0 ≤ j → j < k2 → rk u s b3 i j), ((25921 : Int) - k2).toNat < nn → W pr l en (headSpec (jw yX12_findBack cX12_findBack 11 none) (jr 4 88)).room st mi (([.ref o, .int (J s)] : List Value).toArray) below meth co H locs 0 0 (MQ below (jWv (fun u' => ∃ Bf : Nat → Int, u' = (uI u 15 Bf) ∧ (rows u s Bf (mN u s) (-1))) (fun u' H => va_P D.1 j_cl (mW D o q u') H) A) (([.ref o, .int (J s)] : List Value).toArray) st 0 0 A) (F0 mi 84 ls []) := by
                intro nn
                induction nn with
                | zero => intros; omega
                | succ nn ih_84 =>
                  intro k2 b3 H locs hP hS ls hl i84_0 i84_1 i84_2 hm
                  refine lv_iload SS.1 SS.2.1 dX12_findBack_84 (lv_at hl 7 rfl) ?_
                  refine j_sipush SS dX12_findBack_86 (by decide +kernel) ?_
                  refine j_icmp_ge SS (tgt := 208) (x := k2) (y := 25921) dX12_findBack_89 (by decide) (by omega) (by decide) (fun c_89 => ?_) (fun c_89 => ?_)
                  · skip
                    refine lv_iinc (v := J (i + (-1))) (lv' := [(3, .int (J (i + (-1)))), (0, .ref o), (1, .int (J s)), (2, .int (J (mN u s))), (4, .int (J z_60)), (5, .int (J z_68)), (6, .int (J z_76)), (7, .int (J k2))]) SS.1 SS.2.1 dX12_findBack_208 hl (k := 3) rfl (J_add _ _) (by decide) rfl (fun ls hl => ?_)
                    refine lv_goto (tgt := 53) SS.1 SS.2.1 dX12_findBack_211 (by decide) ?_
                    exact ih_53 (i + (-1)) b3 _ _ hP hS ls (lv_sub hl [1, 2, 3, 0] rfl) (by omega) (⟨i84_1.1, fun i1 h1 h2 j j0 j1 => by by_cases e : i1 = i; rw [e]; exact i84_2 j j0 (by omega); exact i84_1.2 i1 (by omega) h2 j j0 j1⟩) (by omega)
                  · skip
                    refine j_bipush SS dX12_findBack_92 (by decide +kernel) ?_
                    refine lv_istore (lv' := [(8, .int (J (-9))), (0, .ref o), (1, .int (J s)), (2, .int (J (mN u s))), (3, .int (J i)), (4, .int (J z_60)), (5, .int (J z_68)), (6, .int (J z_76)), (7, .int (J k2))]) SS.1 SS.2.1 dX12_findBack_94 hl (by decide) rfl (fun ls hl => ?_)
                    refine j_iconst SS dX12_findBack_96 ?_
                    refine lv_istore (lv' := [(9, .int (J 0)), (8, .int (J (-9))), (0, .ref o), (1, .int (J s)), (2, .int (J (mN u s))), (3, .int (J i)), (4, .int (J z_60)), (5, .int (J z_68)), (6, .int (J z_76)), (7, .int (J k2))]) SS.1 SS.2.1 dX12_findBack_97 hl (by decide) rfl (fun ls hl => ?_)
                    have L_99 : ∀ (nn : Nat) (best : Int) (t : Int) (H : Heap) (locs : List Loc) (hP : va_P D.1 j_cl (mW D o q (uI u 15 b3)) H) (hS : va_S A st.heap H locs) (ls : Array Slot) (hl : lv_has ls 11 [(0, .ref o), (1, .int (J s)), (2, .int (J (mN u s))), (3, .int (J i)), (4, .int (J z_60)), (5, .int (J z_68)), (6, .int (J z_76)), (7, .int (J k2)), (8, .int (J best)), (9, .int (J t))]) (i99_0 : 0 ≤ t ∧ t ≤ mS u s i + 1) (i99_1 : bt_ u s b3 i k2 t best), (mS u s i + 1 - t).toNat < nn → W pr l en (headSpec (jw yX12_findBack cX12_findBack 11 none) (jr 4 88)).room st mi (([.ref o, .int (J s)] : List Value).toArray) below meth co H locs 0 0 (MQ below (jWv (fun u' => ∃ Bf : Nat → Int, u' = (uI u 15 Bf) ∧ (rows u s Bf (mN u s) (-1))) (fun u' H => va_P D.1 j_cl (mW D o q u') H) A) (([.ref o, .int (J s)] : List Value).toArray) st 0 0 A) (F0 mi 99 ls []) := by
                      intro nn
                      induction nn with
                      | zero => intros; omega
                      | succ nn ih_99 =>
                        intro best t  H locs hP hS ls hl i99_0 i99_1 hm
                        have hbest : -9 ≤ best ∧ best ≤ 3000 := by rcases i99_1 with q1 | q1; omega; have q2 := q1.1; have q3 := q1.2.1; omega
                        refine lv_iload SS.1 SS.2.1 dX12_findBack_99 (lv_at hl 9 rfl) ?_
                        refine lv_iload SS.1 SS.2.1 dX12_findBack_101 (lv_at hl 6 rfl) ?_
                        refine j_icmp_gt SS (tgt := 187) (x := t) (y := z_76) dX12_findBack_103 (by decide) (by omega) (by omega) (fun c_103 => ?_) (fun c_103 => ?_)
                        · skip
                          refine lv_aload_n SS.1 SS.2.1 dX12_findBack_187 rfl (lv_at hl 0 rfl) ?_
                          refine j_get SS hG hP 0 (v := .ref (q 15)) (C := RX12) (T := TX12) (N := 31) rfl rfl inX12 15 (by decide) (ref := RX12) kw_1073 rfl rfl dX12_findBack_188 ?_
                          refine j_sipush SS dX12_findBack_191 (by decide +kernel) ?_
                          refine lv_iload_n SS.1 SS.2.1 dX12_findBack_194 rfl (lv_at hl 3 rfl) ?_
                          refine j_imul SS (x := 25921) (y := i) dX12_findBack_195 ?_
                          refine lv_iload SS.1 SS.2.1 dX12_findBack_196 (lv_at hl 7 rfl) ?_
                          refine j_iadd SS (x := (25921 * i)) (y := k2) dX12_findBack_198 ?_
                          refine lv_iload SS.1 SS.2.1 dX12_findBack_199 (lv_at hl 8 rfl) ?_
                          refine j_iast SS hG hP (mW_D hD) hS 13 (n := 648025) (f := b3) rfl (z := ((25921 * i) + k2)) (v := best) (by omega) (by omega) dX12_findBack_201 (ws' := (mW D o q (uI u 15 (upI b3 (((25921 * i) + k2)).toNat best)))) rfl (fun H locs hP hS => ?_)
                          refine lv_iinc (v := J (k2 + 1)) (lv' := [(7, .int (J (k2 + 1))), (0, .ref o), (1, .int (J s)), (2, .int (J (mN u s))), (3, .int (J i)), (4, .int (J z_60)), (5, .int (J z_68)), (6, .int (J z_76)), (8, .int (J best)), (9, .int (J t))]) SS.1 SS.2.1 dX12_findBack_202 hl (k := 7) rfl (J_add _ _) (by decide) rfl (fun ls hl => ?_)
                          refine lv_goto (tgt := 84) SS.1 SS.2.1 dX12_findBack_205 (by decide) ?_
                          exact ih_84 (k2 + 1) (upI b3 (((25921 * i) + k2)).toNat best) _ _ hP hS ls (lv_sub hl [1, 2, 3, 4, 5, 6, 7, 0] rfl) (by omega) (rows_up i84_1 (by omega) (by omega) (by omega) (by omega)) (fun j j0 j1 => by by_cases e : j = k2; rw [e]; exact rk_new (by omega) (by omega) (by omega) (by omega) i99_1; exact rk_up (i84_2 j j0 (by omega)) (by omega) (by omega) (by omega) j0 (by omega)) (by omega)
                        · skip
                          have ke := km_e i84_0.1
                          have m1 := mulb (A := 80) (B := 80) (a := t) (b := z_60) (by omega) (by omega)
                          have m2 := mulb (A := 80) (B := 80) (a := t) (b := z_68) (by omega) (by omega)
                          refine lv_aload_n SS.1 SS.2.1 dX12_findBack_106 rfl (lv_at hl 0 rfl) ?_
                          refine lv_iload_n SS.1 SS.2.1 dX12_findBack_107 rfl (lv_at hl 3 rfl) ?_
                          refine j_iconst SS dX12_findBack_108 ?_
                          refine j_iadd SS (x := i) (y := 1) dX12_findBack_109 ?_
                          refine lv_iload SS.1 SS.2.1 dX12_findBack_110 (lv_at hl 7 rfl) ?_
                          refine j_sipush SS dX12_findBack_112 (by decide +kernel) ?_
                          refine j_irem SS (x := k2) (y := 161) dX12_findBack_115 (by omega) (by decide) (by decide) ?_
                          refine j_bipush SS dX12_findBack_116 (by decide +kernel) ?_
                          refine j_isub SS (x := (Int.tmod k2 161)) (y := 80) dX12_findBack_118 ?_
                          refine lv_iload SS.1 SS.2.1 dX12_findBack_119 (lv_at hl 9 rfl) ?_
                          refine lv_iload SS.1 SS.2.1 dX12_findBack_121 (lv_at hl 4 rfl) ?_
                          refine j_imul SS (x := t) (y := z_60) dX12_findBack_123 ?_
                          refine j_iadd SS (x := ((Int.tmod k2 161) - 80)) (y := (t * z_60)) dX12_findBack_124 ?_
                          refine lv_iload SS.1 SS.2.1 dX12_findBack_125 (lv_at hl 7 rfl) ?_
                          refine j_sipush SS dX12_findBack_127 (by decide +kernel) ?_
                          refine j_idiv SS (x := k2) (y := 161) dX12_findBack_130 (by omega) (by decide) (by decide) ?_
                          refine j_bipush SS dX12_findBack_131 (by decide +kernel) ?_
                          refine j_isub SS (x := (Int.tdiv k2 161)) (y := 80) dX12_findBack_133 ?_
                          refine lv_iload SS.1 SS.2.1 dX12_findBack_134 (lv_at hl 9 rfl) ?_
                          refine lv_iload SS.1 SS.2.1 dX12_findBack_136 (lv_at hl 5 rfl) ?_
                          refine j_imul SS (x := t) (y := z_68) dX12_findBack_138 ?_
                          refine j_iadd SS (x := ((Int.tdiv k2 161) - 80)) (y := (t * z_68)) dX12_findBack_139 ?_
                          refine j_vRi SS (As := [.int (J (i + 1)), .int (J (((Int.tmod k2 161) - 80) + (t * z_60))), .int (J (((Int.tdiv k2 161) - 80) + (t * z_68)))]) (rest := []) (c_X12_backAt l D o q (uI u 15 b3) (i + 1) (((Int.tmod k2 161) - 80) + (t * z_60)) (((Int.tdiv k2 161) - 80) + (t * z_68)) (show 0 ≤ (i + 1) ∧ (i + 1) ≤ 24 from (by omega)) (show -2147483648 ≤ (((Int.tmod k2 161) - 80) + (t * z_60)) ∧ (((Int.tmod k2 161) - 80) + (t * z_60)) ≤ 2147483647 from (by rw [ke.1]; omega)) (show -2147483648 ≤ (((Int.tdiv k2 161) - 80) + (t * z_68)) ∧ (((Int.tdiv k2 161) - 80) + (t * z_68)) ≤ 2147483647 from (by rw [ke.2]; omega))) mf_X12_backAt kw_1352 hG hP hP (ci := 8) (q0 := 0) rfl rfl rfl rfl hl.1 ⟨⟨Nat.le_of_ble_eq_true rfl, Nat.le_of_ble_eq_true rfl⟩, Nat.le_of_ble_eq_true rfl, Nat.le_refl _, Nat.le_refl _⟩ rfl dX12_findBack_140 (fun z_140 h_140 => ?_)
                          have h_140 : z_140 = bk (b3) (i + 1) (((Int.tmod k2 161) - 80) + (t * z_60)) (((Int.tdiv k2 161) - 80) + (t * z_68)) := h_140
                          have hv : z_140 = bk b3 (i + 1) (k2 % 161 - 80 + t * mDX u s i) (k2 / 161 - 80 + t * mDY u s i) := by rw [h_140, ke.1, ke.2, h_60.1, h_68.1]
                          have hz := vals_b (rows_v i84_1 (by omega)) (x := k2 % 161 - 80 + t * mDX u s i) (y := k2 / 161 - 80 + t * mDY u s i) (show i < i + 1 by omega) (by omega) (by omega)
                          rw [← hv] at hz
                          refine lv_istore (lv' := [(10, .int (J z_140)), (0, .ref o), (1, .int (J s)), (2, .int (J (mN u s))), (3, .int (J i)), (4, .int (J z_60)), (5, .int (J z_68)), (6, .int (J z_76)), (7, .int (J k2)), (8, .int (J best)), (9, .int (J t))]) SS.1 SS.2.1 dX12_findBack_143 hl (by decide) rfl (fun ls hl => ?_)
                          refine lv_iload SS.1 SS.2.1 dX12_findBack_145 (lv_at hl 0 rfl) ?_
                          refine j_bipush SS dX12_findBack_147 (by decide +kernel) ?_
                          refine j_icmp_eq SS (tgt := 177) (x := z_140) (y := (-9)) dX12_findBack_149 (by decide) (by omega) (by decide) (fun c_149 => ?_) (fun c_149 => ?_)
                          · skip
                            refine lv_iload SS.1 SS.2.1 dX12_findBack_177 (lv_at hl 9 rfl) ?_
                            refine lv_istore (lv' := [(8, .int (J best)), (10, .int (J z_140)), (0, .ref o), (1, .int (J s)), (2, .int (J (mN u s))), (3, .int (J i)), (4, .int (J z_60)), (5, .int (J z_68)), (6, .int (J z_76)), (7, .int (J k2)), (9, .int (J t))]) SS.1 SS.2.1 dX12_findBack_179 hl (by decide) rfl (fun ls hl => ?_)
                            refine lv_iinc (v := J (t + 1)) (lv' := [(9, .int (J (t + 1))), (8, .int (J best)), (10, .int (J z_140)), (0, .ref o), (1, .int (J s)), (2, .int (J (mN u s))), (3, .int (J i)), (4, .int (J z_60)), (5, .int (J z_68)), (6, .int (J z_76)), (7, .int (J k2))]) SS.1 SS.2.1 dX12_findBack_181 hl (k := 10) rfl (J_add _ _) (by decide) rfl (fun ls hl => ?_)
                            refine lv_goto (tgt := 99) SS.1 SS.2.1 dX12_findBack_184 (by decide) ?_
                            exact ih_99 best (t + 1) _ _ hP hS ls (lv_sub hl [3, 4, 5, 6, 7, 8, 9, 10, 1, 0] rfl) (by omega) (by first | exact bt_no i99_1 hv (Or.inl (by omega)) | exact bt_no i99_1 hv (Or.inr (by omega)) | exact bt_yes i99_1 (by omega) (by omega) hv (by omega)) (by omega)
                          · skip
                            refine lv_iload SS.1 SS.2.1 dX12_findBack_152 (lv_at hl 9 rfl) ?_
                            refine j_bipush SS dX12_findBack_154 (by decide +kernel) ?_
                            refine j_icmp_eq SS (tgt := 169) (x := best) (y := (-9)) dX12_findBack_156 (by decide) (by omega) (by decide) (fun c_156 => ?_) (fun c_156 => ?_)
                            · skip
                              refine lv_iload SS.1 SS.2.1 dX12_findBack_169 (lv_at hl 0 rfl) ?_
                              refine lv_iload SS.1 SS.2.1 dX12_findBack_171 (lv_at hl 10 rfl) ?_
                              refine j_iadd SS (x := z_140) (y := t) dX12_findBack_173 ?_
                              refine lv_goto (tgt := 179) SS.1 SS.2.1 dX12_findBack_174 (by decide) ?_
                              refine lv_istore (lv' := [(8, .int (J (z_140 + t))), (10, .int (J z_140)), (0, .ref o), (1, .int (J s)), (2, .int (J (mN u s))), (3, .int (J i)), (4, .int (J z_60)), (5, .int (J z_68)), (6, .int (J z_76)), (7, .int (J k2)), (9, .int (J t))]) SS.1 SS.2.1 dX12_findBack_179 hl (by decide) rfl (fun ls hl => ?_)
                              refine lv_iinc (v := J (t + 1)) (lv' := [(9, .int (J (t + 1))), (8, .int (J (z_140 + t))), (10, .int (J z_140)), (0, .ref o), (1, .int (J s)), (2, .int (J (mN u s))), (3, .int (J i)), (4, .int (J z_60)), (5, .int (J z_68)), (6, .int (J z_76)), (7, .int (J k2))]) SS.1 SS.2.1 dX12_findBack_181 hl (k := 10) rfl (J_add _ _) (by decide) rfl (fun ls hl => ?_)
                              refine lv_goto (tgt := 99) SS.1 SS.2.1 dX12_findBack_184 (by decide) ?_
                              exact ih_99 (z_140 + t) (t + 1) _ _ hP hS ls (lv_sub hl [3, 4, 5, 6, 7, 8, 9, 10, 1, 0] rfl) (by omega) (by first | exact bt_no i99_1 hv (Or.inl (by omega)) | exact bt_no i99_1 hv (Or.inr (by omega)) | exact bt_yes i99_1 (by omega) (by omega) hv (by omega)) (by omega)
                            · skip
                              refine lv_iload SS.1 SS.2.1 dX12_findBack_159 (lv_at hl 0 rfl) ?_
                              refine lv_iload SS.1 SS.2.1 dX12_findBack_161 (lv_at hl 10 rfl) ?_
                              refine j_iadd SS (x := z_140) (y := t) dX12_findBack_163 ?_
                              refine lv_iload SS.1 SS.2.1 dX12_findBack_164 (lv_at hl 9 rfl) ?_
                              refine j_icmp_ge SS (tgt := 177) (x := (z_140 + t)) (y := best) dX12_findBack_166 (by decide) (by omega) (by omega) (fun c_166 => ?_) (fun c_166 => ?_)
                              · skip
                                refine lv_iload SS.1 SS.2.1 dX12_findBack_177 (lv_at hl 9 rfl) ?_
                                refine lv_istore (lv' := [(8, .int (J best)), (10, .int (J z_140)), (0, .ref o), (1, .int (J s)), (2, .int (J (mN u s))), (3, .int (J i)), (4, .int (J z_60)), (5, .int (J z_68)), (6, .int (J z_76)), (7, .int (J k2)), (9, .int (J t))]) SS.1 SS.2.1 dX12_findBack_179 hl (by decide) rfl (fun ls hl => ?_)
                                refine lv_iinc (v := J (t + 1)) (lv' := [(9, .int (J (t + 1))), (8, .int (J best)), (10, .int (J z_140)), (0, .ref o), (1, .int (J s)), (2, .int (J (mN u s))), (3, .int (J i)), (4, .int (J z_60)), (5, .int (J z_68)), (6, .int (J z_76)), (7, .int (J k2))]) SS.1 SS.2.1 dX12_findBack_181 hl (k := 10) rfl (J_add _ _) (by decide) rfl (fun ls hl => ?_)
                                refine lv_goto (tgt := 99) SS.1 SS.2.1 dX12_findBack_184 (by decide) ?_
                                exact ih_99 best (t + 1) _ _ hP hS ls (lv_sub hl [3, 4, 5, 6, 7, 8, 9, 10, 1, 0] rfl) (by omega) (by first | exact bt_no i99_1 hv (Or.inl (by omega)) | exact bt_no i99_1 hv (Or.inr (by omega)) | exact bt_yes i99_1 (by omega) (by omega) hv (by omega)) (by omega)
                              · skip
                                refine lv_iload SS.1 SS.2.1 dX12_findBack_169 (lv_at hl 0 rfl) ?_
                                refine lv_iload SS.1 SS.2.1 dX12_findBack_171 (lv_at hl 10 rfl) ?_
                                refine j_iadd SS (x := z_140) (y := t) dX12_findBack_173 ?_
                                refine lv_goto (tgt := 179) SS.1 SS.2.1 dX12_findBack_174 (by decide) ?_
                                refine lv_istore (lv' := [(8, .int (J (z_140 + t))), (10, .int (J z_140)), (0, .ref o), (1, .int (J s)), (2, .int (J (mN u s))), (3, .int (J i)), (4, .int (J z_60)), (5, .int (J z_68)), (6, .int (J z_76)), (7, .int (J k2)), (9, .int (J t))]) SS.1 SS.2.1 dX12_findBack_179 hl (by decide) rfl (fun ls hl => ?_)
                                refine lv_iinc (v := J (t + 1)) (lv' := [(9, .int (J (t + 1))), (8, .int (J (z_140 + t))), (10, .int (J z_140)), (0, .ref o), (1, .int (J s)), (2, .int (J (mN u s))), (3, .int (J i)), (4, .int (J z_60)), (5, .int (J z_68)), (6, .int (J z_76)), (7, .int (J k2))]) SS.1 SS.2.1 dX12_findBack_181 hl (k := 10) rfl (J_add _ _) (by decide) rfl (fun ls hl => ?_)
                                refine lv_goto (tgt := 99) SS.1 SS.2.1 dX12_findBack_184 (by decide) ?_
                                exact ih_99 (z_140 + t) (t + 1) _ _ hP hS ls (lv_sub hl [3, 4, 5, 6, 7, 8, 9, 10, 1, 0] rfl) (by omega) (by first | exact bt_no i99_1 hv (Or.inl (by omega)) | exact bt_no i99_1 hv (Or.inr (by omega)) | exact bt_yes i99_1 (by omega) (by omega) hv (by omega)) (by omega)
                    exact L_99 ((mS u s i + 1 - (0 : Int)).toNat + 1) (-9) 0 _ _ hP hS ls (lv_sub hl [2, 3, 4, 5, 6, 7, 8, 9, 1, 0] rfl) (by omega) (bt_0) (Nat.lt_succ_self _)
              exact L_84 (((25921 : Int) - (0 : Int)).toNat + 1) 0 b2 _ _ hP hS ls (lv_sub hl [4, 5, 6, 7, 3, 2, 1, 0] rfl) (by omega) (i53_1) (fun j h1 h2 => by omega) (Nat.lt_succ_self _)
        exact L_53 ((((mN u s) - 1) + 1).toNat + 1) ((mN u s) - 1) b1 _ _ hP hS ls (lv_sub hl [1, 2, 3, 0] rfl) (by omega) (⟨by rw [show k = 25921 by omega] at i9_1; exact i9_1, fun i1 h1 h2 => by omega⟩) (Nat.lt_succ_self _)
      · skip
        refine lv_aload_n SS.1 SS.2.1 dX12_findBack_16 rfl (lv_at hl 0 rfl) ?_
        refine j_get SS hG hP 0 (v := .ref (q 15)) (C := RX12) (T := TX12) (N := 31) rfl rfl inX12 15 (by decide) (ref := RX12) kw_1073 rfl rfl dX12_findBack_17 ?_
        refine j_sipush SS dX12_findBack_20 (by decide +kernel) ?_
        refine lv_iload_n SS.1 SS.2.1 dX12_findBack_23 rfl (lv_at hl 2 rfl) ?_
        refine j_imul SS (x := 25921) (y := (mN u s)) dX12_findBack_24 ?_
        refine lv_iload_n SS.1 SS.2.1 dX12_findBack_25 rfl (lv_at hl 3 rfl) ?_
        refine j_iadd SS (x := (25921 * (mN u s))) (y := k) dX12_findBack_26 ?_
        refine lv_iload_n SS.1 SS.2.1 dX12_findBack_27 rfl (lv_at hl 3 rfl) ?_
        refine j_iconst SS dX12_findBack_28 ?_
        refine j_iconst SS dX12_findBack_29 ?_
        refine j_sRi SS (As := [.int (J 0), .int (J 0)]) (rest := [.int (J k), .int (J ((25921 * (mN u s)) + k)), .ref (q 15)]) (c_X12_spot l D 0 0 (show -2147483648 ≤ (0 : Int) ∧ (0 : Int) ≤ 2147483647 from (by omega)) (show -2147483648 ≤ (0 : Int) ∧ (0 : Int) ≤ 2147483647 from (by omega))) mf_X12_spot kw_1329 hG trivial rfl hl.1 ⟨⟨Nat.le_of_ble_eq_true rfl, Nat.le_of_ble_eq_true rfl⟩, Nat.le_of_ble_eq_true rfl, Nat.le_refl _, Nat.le_refl _⟩ rfl dX12_findBack_30 (fun z_30 h_30 => ?_)
        have h_30 : ((-80 ≤ (0 : Int) ∧ (0 : Int) ≤ 80) ∧ (-80 ≤ (0 : Int) ∧ (0 : Int) ≤ 80) ∧ z_30 = 161 * ((0 : Int) + 80) + (0 : Int) + 80) ∨ (¬ ((-80 ≤ (0 : Int) ∧ (0 : Int) ≤ 80) ∧ (-80 ≤ (0 : Int) ∧ (0 : Int) ≤ 80)) ∧ z_30 = -9) := h_30
        refine j_icmp_ne SS (tgt := 40) (x := k) (y := z_30) dX12_findBack_33 (by decide) (by omega) (by omega) (fun c_33 => ?_) (fun c_33 => ?_)
        · skip
          refine j_bipush SS dX12_findBack_40 (by decide +kernel) ?_
          refine j_iast SS hG hP (mW_D hD) hS 13 (n := 648025) (f := b1) rfl (z := ((25921 * (mN u s)) + k)) (v := (-9)) (by omega) (by omega) dX12_findBack_42 (ws' := (mW D o q (uI u 15 (upI b1 (((25921 * (mN u s)) + k)).toNat (-9))))) rfl (fun H locs hP hS => ?_)
          refine lv_iinc (v := J (k + 1)) (lv' := [(3, .int (J (k + 1))), (0, .ref o), (1, .int (J s)), (2, .int (J (mN u s)))]) SS.1 SS.2.1 dX12_findBack_43 hl (k := 3) rfl (J_add _ _) (by decide) rfl (fun ls hl => ?_)
          refine lv_goto (tgt := 9) SS.1 SS.2.1 dX12_findBack_46 (by decide) ?_
          exact ih_9 (k + 1) (upI b1 (((25921 * (mN u s)) + k)).toNat (-9)) _ _ hP hS ls (lv_sub hl [1, 2, 3, 0] rfl) (by omega) (rowN_s (by omega) (by omega) i9_1 (by omega) (by omega)) (by omega)
        · skip
          refine j_iconst SS dX12_findBack_36 ?_
          refine lv_goto (tgt := 42) SS.1 SS.2.1 dX12_findBack_37 (by decide) ?_
          refine j_iast SS hG hP (mW_D hD) hS 13 (n := 648025) (f := b1) rfl (z := ((25921 * (mN u s)) + k)) (v := 0) (by omega) (by omega) dX12_findBack_42 (ws' := (mW D o q (uI u 15 (upI b1 (((25921 * (mN u s)) + k)).toNat 0)))) rfl (fun H locs hP hS => ?_)
          refine lv_iinc (v := J (k + 1)) (lv' := [(3, .int (J (k + 1))), (0, .ref o), (1, .int (J s)), (2, .int (J (mN u s)))]) SS.1 SS.2.1 dX12_findBack_43 hl (k := 3) rfl (J_add _ _) (by decide) rfl (fun ls hl => ?_)
          refine lv_goto (tgt := 9) SS.1 SS.2.1 dX12_findBack_46 (by decide) ?_
          exact ih_9 (k + 1) (upI b1 (((25921 * (mN u s)) + k)).toNat 0) _ _ hP hS ls (lv_sub hl [1, 2, 3, 0] rfl) (by omega) (rowN_s (by omega) (by omega) i9_1 (by omega) (by omega)) (by omega)
  exact L_9 (((25921 : Int) - (0 : Int)).toNat + 1) 0 (u.1 15) _ _ hP hS ls (lv_sub hl [2, 3, 1, 0] rfl) (by omega) (fun j h1 h2 => by omega) (Nat.lt_succ_self _)

