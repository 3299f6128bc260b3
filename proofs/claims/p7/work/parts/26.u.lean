
theorem nx_sum {px py wx wy qx qy : Int} (h1 : cx px py wx wy = 1) (h2 : cx wx wy qx qy = 1) : px + qx = cx px py qx qy * wx ∧ py + qy = cx px py qx qy * wy := by
  have e1 : cx px py wx wy * qx + cx wx wy qx qy * px = cx px py qx qy * wx := by unfold cx; grind
  have e2 : cx px py wx wy * qy + cx wx wy qx qy * py = cx px py qx qy * wy := by unfold cx; grind
  rw [h1, h2] at e1 e2
  omega
def pl4 (a b c d : Int) : Prop := (-40 ≤ a ∧ a ≤ 40) ∧ (-40 ≤ b ∧ b ≤ 40) ∧ (-40 ≤ c ∧ c ≤ 40) ∧ -40 ≤ d ∧ d ≤ 40
/-- the answer of between -/
def btw_ (a b c d z : Int) : Prop := (¬ pl4 a b c d ∧ z = -1) ∨ (pl4 a b c d ∧ cx a b c d ≤ 0 ∧ z = -2) ∨ (pl4 a b c d ∧ 0 < cx a b c d ∧ ∃ X Y : Nat → Int, ry a b c d X Y z)
/-- the i-th of them -/
def ry_at (X Y : Nat → Int) (n i what z : Int) : Prop := (what = 0 ∧ z = X i.toNat) ∨ (what = 1 ∧ z = Y i.toNat) ∨ (what = 2 ∧ ((i = 0 ∨ i = n - 1) ∧ z = -1000000 ∨ (0 < i ∧ i < n - 1 ∧ z = cx (X (i - 1).toNat) (Y (i - 1).toNat) (X (i + 1).toNat) (Y (i + 1).toNat))))
/-- the answer of ray -/
def ray_ (a b c d i what z : Int) : Prop := (¬ (pl4 a b c d ∧ (0 ≤ what ∧ what ≤ 2) ∧ 0 < cx a b c d ∧ 0 ≤ i) ∧ z = -1000000) ∨ (pl4 a b c d ∧ (0 ≤ what ∧ what ≤ 2) ∧ 0 < cx a b c d ∧ 0 ≤ i ∧ ∃ (X Y : Nat → Int) (n : Int), ry a b c d X Y n ∧ ((n ≤ i ∧ z = -1000000) ∨ (i < n ∧ ry_at X Y n i what z)))
theorem ry_bend {a b c d : Int} {X Y : Nat → Int} {n i : Int} (h : ry a b c d X Y n) (h0 : 0 < i) (h1 : i < n - 1) : X (i - 1).toNat + X (i + 1).toNat = cx (X (i - 1).toNat) (Y (i - 1).toNat) (X (i + 1).toNat) (Y (i + 1).toNat) * X i.toNat ∧ Y (i - 1).toNat + Y (i + 1).toNat = cx (X (i - 1).toNat) (Y (i - 1).toNat) (X (i + 1).toNat) (Y (i + 1).toNat) * Y i.toNat ∧ (X i.toNat ≠ 0 ∨ Y i.toNat ≠ 0) := by
  have s1 := h.2.2.2.1 (i - 1).toNat (by omega)
  have s2 := h.2.2.2.1 i.toNat (by omega)
  rw [show (i - 1).toNat + 1 = i.toNat by omega] at s1
  rw [show i.toNat + 1 = (i + 1).toNat by omega] at s2
  have := nx_sum s1.1 s2.1
  refine ⟨this.1, this.2, ?_⟩
  apply Classical.byContradiction
  intro hn
  have e1 : X i.toNat = 0 := by omega
  have e2 : Y i.toNat = 0 := by omega
  have s := s1.1
  rw [e1, e2] at s
  unfold cx at s
  omega
theorem ry_dv {s m w : Int} (h : s = m * w) (hw : w ≠ 0) : s.tdiv w = m := by rw [h]; exact Int.mul_tdiv_cancel _ hw
theorem ry_b {a b c d : Int} {X Y : Nat → Int} {n i : Int} (h : ry a b c d X Y n) (h0 : 0 ≤ i) (h1 : i < n) : (-40 ≤ X i.toNat ∧ X i.toNat ≤ 40) ∧ -40 ≤ Y i.toNat ∧ Y i.toNat ≤ 40 := bd_at h.2.2.2.2.1 h0 h1

set_option maxHeartbeats 4000000 in
set_option maxRecDepth 100000 in
theorem c_X12_between (l : Launch) (D : JD) (o : Nat) (q : Nat → Nat) (u : MS) (A : Nat → Prop) (hD : va_D A (mW D o q u)) (a : Int) (b : Int) (c : Int) (d : Int) (p0 : IM u) (p1 : -2147483648 ≤ a ∧ a ≤ 2147483647) (p2 : -2147483648 ≤ b ∧ b ≤ 2147483647) (p3 : -2147483648 ≤ c ∧ c ≤ 2147483647) (p4 : -2147483648 ≤ d ∧ d ≤ 2147483647) : Met l yX12_between (jw yX12_between cX12_between 5 (some .int)) (jr 3 77) (jP [.ref o, .int (J a), .int (J b), .int (J c), .int (J d)] D (fun H => va_P D.1 j_cl (mW D o q u) H)) (jWi (fun z u' => ∃ X : Nat → Int, ∃ Y : Nat → Int, ∃ n : Int, u' = (uV (uI (uI u 17 X) 18 Y) 19 n) ∧ (btw_ a b c d z ∧ IM u')) (fun u' H => va_P D.1 j_cl (mW D o q u') H) A) 0 0 A := by
  refine Met.ofW (cc := cX12_between) (maxL := 5) (ret := (some .int)) (by decide) rfl ?_
  intro pr en st mi args below meth co s₁ B hml hv
  obtain ⟨rfl, hG, hP⟩ := hv
  have hr := B.returns
  have hlk := B.notSynchronized
  have SS : jS pr mi co cX12_between 5 st _ RX12 := ⟨B.exec, B.bytes, hml, findClass_of_methodNamed B.named, fun w hw => atoms_spec (ws := (jw yX12_between cX12_between 5 (some .int))) B.pre w (List.mem_cons_of_mem _ hw)⟩
  have hl := lv_entry ([.ref o, .int (J a), .int (J b), .int (J c), .int (J d)]) (n := 5) (Nat.le_of_ble_eq_true rfl)
  rw [lg_entry_eq]
  generalize (lg_sl ([.ref o, .int (J a), .int (J b), .int (J c), .int (J d)]) ++ List.replicate (5 - (lg_sl ([.ref o, .int (J a), .int (J b), .int (J c), .int (J d)])).length) Slot.unset).toArray = ls at hl ⊢
  have hl : lv_has ls 5 [(0, .ref o), (1, .int (J a)), (2, .int (J b)), (3, .int (J c)), (4, .int (J d))] := hl
  have hS : va_S A st.heap st.heap [] := va_S.rf
  refine lv_iload_n SS.1 SS.2.1 dX12_between_0 rfl (lv_at hl 1 rfl) ?_
  refine lv_iload_n SS.1 SS.2.1 dX12_between_1 rfl (lv_at hl 2 rfl) ?_
  refine j_sRi SS (As := [.int (J a), .int (J b)]) (rest := []) (c_X12_isPlace l D a b (show -2147483648 ≤ a ∧ a ≤ 2147483647 from (by omega)) (show -2147483648 ≤ b ∧ b ≤ 2147483647 from (by omega))) mf_X12_isPlace kw_1166 hG trivial rfl hl.1 ⟨⟨Nat.le_of_ble_eq_true rfl, Nat.le_of_ble_eq_true rfl⟩, Nat.le_of_ble_eq_true rfl, Nat.le_refl _, Nat.le_refl _⟩ rfl dX12_between_2 (fun z_2 h_2 => ?_)
  have h_2 : (z_2 = 1 ∧ (-40 ≤ a ∧ a ≤ 40 ∧ -40 ≤ b ∧ b ≤ 40)) ∨ (z_2 = 0 ∧ ¬ (-40 ≤ a ∧ a ≤ 40 ∧ -40 ≤ b ∧ b ≤ 40)) := h_2
  refine j_if_eq SS (tgt := 17) (x := z_2) dX12_between_5 (by decide) (by omega) (fun c_5 => ?_) (fun c_5 => ?_)
  · skip
    refine j_iconst SS dX12_between_17 ?_
    exact W.iret SS.1 SS.2.1 hr (fun t ht hW => ⟨⟨_, (uV (uI (uI u 17 (u.1 17)) 18 (u.1 18)) 19 (u.2.2 19)), rfl, ⟨(-1), rfl, (⟨(u.1 17), (u.1 18), (u.2.2 19), rfl, ⟨Or.inl ⟨fun h => by unfold pl4 at h; omega, rfl⟩, p0⟩⟩)⟩, by show va_P D.1 j_cl (mW D o q (uV (uI (uI u 17 (u.1 17)) 18 (u.1 18)) 19 (u.2.2 19))) t.heap; rw [ht]; exact hP⟩, hS.F ht⟩) hS.2.2 dX12_between_18 hlk
  · skip
    refine lv_iload_n SS.1 SS.2.1 dX12_between_8 rfl (lv_at hl 3 rfl) ?_
    refine lv_iload SS.1 SS.2.1 dX12_between_9 (lv_at hl 4 rfl) ?_
    refine j_sRi SS (As := [.int (J c), .int (J d)]) (rest := []) (c_X12_isPlace l D c d (show -2147483648 ≤ c ∧ c ≤ 2147483647 from (by omega)) (show -2147483648 ≤ d ∧ d ≤ 2147483647 from (by omega))) mf_X12_isPlace kw_1166 hG trivial rfl hl.1 ⟨⟨Nat.le_of_ble_eq_true rfl, Nat.le_of_ble_eq_true rfl⟩, Nat.le_of_ble_eq_true rfl, Nat.le_refl _, Nat.le_refl _⟩ rfl dX12_between_11 (fun z_11 h_11 => ?_)
    have h_11 : (z_11 = 1 ∧ (-40 ≤ c ∧ c ≤ 40 ∧ -40 ≤ d ∧ d ≤ 40)) ∨ (z_11 = 0 ∧ ¬ (-40 ≤ c ∧ c ≤ 40 ∧ -40 ≤ d ∧ d ≤ 40)) := h_11
    refine j_if_ne SS (tgt := 19) (x := z_11) dX12_between_14 (by decide) (by omega) (fun c_14 => ?_) (fun c_14 => ?_)
    · skip
      refine lv_aload_n SS.1 SS.2.1 dX12_between_19 rfl (lv_at hl 0 rfl) ?_
      refine lv_iload_n SS.1 SS.2.1 dX12_between_20 rfl (lv_at hl 1 rfl) ?_
      refine lv_iload_n SS.1 SS.2.1 dX12_between_21 rfl (lv_at hl 2 rfl) ?_
      refine lv_iload_n SS.1 SS.2.1 dX12_between_22 rfl (lv_at hl 3 rfl) ?_
      refine lv_iload SS.1 SS.2.1 dX12_between_23 (lv_at hl 4 rfl) ?_
      refine j_vWi SS (As := [.int (J a), .int (J b), .int (J c), .int (J d)]) (rest := []) (c_X12_findRays l D o q u A (mW_D hD) a b c d (show -40 ≤ a ∧ a ≤ 40 from (by omega)) (show -40 ≤ b ∧ b ≤ 40 from (by omega)) (show -40 ≤ c ∧ c ≤ 40 from (by omega)) (show -40 ≤ d ∧ d ≤ 40 from (by omega))) mf_X12_findRays kw_1392 hG hP hP (ci := 8) (q0 := 0) rfl rfl rfl hS (fun _ h => h) rfl hl.1 ⟨⟨Nat.le_of_ble_eq_true rfl, Nat.le_of_ble_eq_true rfl⟩, Nat.le_of_ble_eq_true rfl, Nat.le_refl _, Nat.le_refl _⟩ rfl dX12_between_25 (fun z_25 u25 H locs h_25 hP _ hS => ?_)
      obtain ⟨X_25, Y_25, n_25, rfl, h_25⟩ := h_25
      have hP : va_P D.1 j_cl (mW D o q (uV (uI (uI u 17 X_25) 18 Y_25) 19 n_25)) H := hP
      have h_25 : (z_25 = 0 ∧ cx a b c d ≤ 0) ∨ (z_25 = 1 ∧ 0 < cx a b c d ∧ ry a b c d X_25 Y_25 n_25) := h_25
      refine j_if_eq SS (tgt := 38) (x := z_25) dX12_between_28 (by decide) (by omega) (fun c_28 => ?_) (fun c_28 => ?_)
      · skip
        refine j_bipush SS dX12_between_38 (by decide +kernel) ?_
        exact W.iret SS.1 SS.2.1 hr (fun t ht hW => ⟨⟨_, (uV (uI (uI u 17 X_25) 18 Y_25) 19 n_25), rfl, ⟨(-2), rfl, (⟨X_25, Y_25, n_25, rfl, by have hp : pl4 a b c d := (by unfold pl4; omega); first | (refine ⟨Or.inr (Or.inr ⟨hp, ?_, X_25, Y_25, ?_⟩), p0⟩; (rcases h_25 with q | q; omega; exact q.2.1); (rcases h_25 with q | q; omega; exact q.2.2)) | exact ⟨Or.inr (Or.inl ⟨hp, by rcases h_25 with q | q; exact q.2; omega, rfl⟩), p0⟩⟩)⟩, by show va_P D.1 j_cl (mW D o q (uV (uI (uI u 17 X_25) 18 Y_25) 19 n_25)) t.heap; rw [ht]; exact hP⟩, hS.F ht⟩) hS.2.2 dX12_between_40 hlk
      · skip
        refine lv_aload_n SS.1 SS.2.1 dX12_between_31 rfl (lv_at hl 0 rfl) ?_
        refine j_get SS hG hP 0 (v := .int (J n_25)) (C := RX12) (T := TX12) (N := 31) rfl rfl inX12 19 (by decide) (ref := RX12) kw_1077 rfl rfl dX12_between_32 ?_
        refine lv_goto (tgt := 40) SS.1 SS.2.1 dX12_between_35 (by decide) ?_
        exact W.iret SS.1 SS.2.1 hr (fun t ht hW => ⟨⟨_, (uV (uI (uI u 17 X_25) 18 Y_25) 19 n_25), rfl, ⟨n_25, rfl, (⟨X_25, Y_25, n_25, rfl, by have hp : pl4 a b c d := (by unfold pl4; omega); first | (refine ⟨Or.inr (Or.inr ⟨hp, ?_, X_25, Y_25, ?_⟩), p0⟩; (rcases h_25 with q | q; omega; exact q.2.1); (rcases h_25 with q | q; omega; exact q.2.2)) | exact ⟨Or.inr (Or.inl ⟨hp, by rcases h_25 with q | q; exact q.2; omega, rfl⟩), p0⟩⟩)⟩, by show va_P D.1 j_cl (mW D o q (uV (uI (uI u 17 X_25) 18 Y_25) 19 n_25)) t.heap; rw [ht]; exact hP⟩, hS.F ht⟩) hS.2.2 dX12_between_40 hlk
    · skip
      refine j_iconst SS dX12_between_17 ?_
      exact W.iret SS.1 SS.2.1 hr (fun t ht hW => ⟨⟨_, (uV (uI (uI u 17 (u.1 17)) 18 (u.1 18)) 19 (u.2.2 19)), rfl, ⟨(-1), rfl, (⟨(u.1 17), (u.1 18), (u.2.2 19), rfl, ⟨Or.inl ⟨fun h => by unfold pl4 at h; omega, rfl⟩, p0⟩⟩)⟩, by show va_P D.1 j_cl (mW D o q (uV (uI (uI u 17 (u.1 17)) 18 (u.1 18)) 19 (u.2.2 19))) t.heap; rw [ht]; exact hP⟩, hS.F ht⟩) hS.2.2 dX12_between_18 hlk

set_option maxHeartbeats 4000000 in
set_option maxRecDepth 100000 in
theorem c_X12_ray (l : Launch) (D : JD) (o : Nat) (q : Nat → Nat) (u : MS) (A : Nat → Prop) (hD : va_D A (mW D o q u)) (a : Int) (b : Int) (c : Int) (d : Int) (i : Int) (what : Int) (p0 : IM u) (p1 : -2147483648 ≤ a ∧ a ≤ 2147483647) (p2 : -2147483648 ≤ b ∧ b ≤ 2147483647) (p3 : -2147483648 ≤ c ∧ c ≤ 2147483647) (p4 : -2147483648 ≤ d ∧ d ≤ 2147483647) (p5 : -2147483648 ≤ i ∧ i ≤ 2147483647) (p6 : -2147483648 ≤ what ∧ what ≤ 2147483647) : Met l yX12_ray (jw yX12_ray cX12_ray 7 (some .int)) (jr 3 77) (jP [.ref o, .int (J a), .int (J b), .int (J c), .int (J d), .int (J i), .int (J what)] D (fun H => va_P D.1 j_cl (mW D o q u) H)) (jWi (fun z u' => ∃ X : Nat → Int, ∃ Y : Nat → Int, ∃ n : Int, u' = (uV (uI (uI u 17 X) 18 Y) 19 n) ∧ (ray_ a b c d i what z ∧ IM u')) (fun u' H => va_P D.1 j_cl (mW D o q u') H) A) 0 0 A := by
  refine Met.ofW (cc := cX12_ray) (maxL := 7) (ret := (some .int)) (by decide) rfl ?_
  intro pr en st mi args below meth co s₁ B hml hv
  obtain ⟨rfl, hG, hP⟩ := hv
  have hr := B.returns
  have hlk := B.notSynchronized
  have SS : jS pr mi co cX12_ray 7 st _ RX12 := ⟨B.exec, B.bytes, hml, findClass_of_methodNamed B.named, fun w hw => atoms_spec (ws := (jw yX12_ray cX12_ray 7 (some .int))) B.pre w (List.mem_cons_of_mem _ hw)⟩
  have hl := lv_entry ([.ref o, .int (J a), .int (J b), .int (J c), .int (J d), .int (J i), .int (J what)]) (n := 7) (Nat.le_of_ble_eq_true rfl)
  rw [lg_entry_eq]
  generalize (lg_sl ([.ref o, .int (J a), .int (J b), .int (J c), .int (J d), .int (J i), .int (J what)]) ++ List.replicate (7 - (lg_sl ([.ref o, .int (J a), .int (J b), .int (J c), .int (J d), .int (J i), .int (J what)])).length) Slot.unset).toArray = ls at hl ⊢
  have hl : lv_has ls 7 [(0, .ref o), (1, .int (J a)), (2, .int (J b)), (3, .int (J c)), (4, .int (J d)), (5, .int (J i)), (6, .int (J what))] := hl
  have hS : va_S A st.heap st.heap [] := va_S.rf
  refine lv_iload_n SS.1 SS.2.1 dX12_ray_0 rfl (lv_at hl 1 rfl) ?_
  refine lv_iload_n SS.1 SS.2.1 dX12_ray_1 rfl (lv_at hl 2 rfl) ?_
  refine j_sRi SS (As := [.int (J a), .int (J b)]) (rest := []) (c_X12_isPlace l D a b (show -2147483648 ≤ a ∧ a ≤ 2147483647 from (by omega)) (show -2147483648 ≤ b ∧ b ≤ 2147483647 from (by omega))) mf_X12_isPlace kw_1166 hG trivial rfl hl.1 ⟨⟨Nat.le_of_ble_eq_true rfl, Nat.le_of_ble_eq_true rfl⟩, Nat.le_of_ble_eq_true rfl, Nat.le_refl _, Nat.le_refl _⟩ rfl dX12_ray_2 (fun z_2 h_2 => ?_)
  have h_2 : (z_2 = 1 ∧ (-40 ≤ a ∧ a ≤ 40 ∧ -40 ≤ b ∧ b ≤ 40)) ∨ (z_2 = 0 ∧ ¬ (-40 ≤ a ∧ a ≤ 40 ∧ -40 ≤ b ∧ b ≤ 40)) := h_2
  refine j_if_eq SS (tgt := 54) (x := z_2) dX12_ray_5 (by decide) (by omega) (fun c_5 => ?_) (fun c_5 => ?_)
  · skip
    refine j_ldc SS (-1000000) kw_1213 dX12_ray_54 ?_
    exact W.iret SS.1 SS.2.1 hr (fun t ht hW => ⟨⟨_, (uV (uI (uI u 17 (u.1 17)) 18 (u.1 18)) 19 (u.2.2 19)), rfl, ⟨(-1000000), rfl, (⟨(u.1 17), (u.1 18), (u.2.2 19), rfl, by first | exact ⟨Or.inl ⟨fun h => by unfold pl4 at h; omega, rfl⟩, p0⟩ | exact ⟨Or.inl ⟨fun h => by (rcases h_33 with q | q; have q2 := h.2.2.1; omega; omega), rfl⟩, p0⟩ | (by_cases hi : 0 ≤ i; exact ⟨Or.inr ⟨hp, by omega, hc, hi, X_33, Y_33, n_33, hry, Or.inl ⟨by omega, rfl⟩⟩, p0⟩; exact ⟨Or.inl ⟨fun h => by have := h.2.2.2; omega, rfl⟩, p0⟩)⟩)⟩, by show va_P D.1 j_cl (mW D o q (uV (uI (uI u 17 (u.1 17)) 18 (u.1 18)) 19 (u.2.2 19))) t.heap; rw [ht]; exact hP⟩, hS.F ht⟩) hS.2.2 dX12_ray_56 hlk
  · skip
    refine lv_iload_n SS.1 SS.2.1 dX12_ray_8 rfl (lv_at hl 3 rfl) ?_
    refine lv_iload SS.1 SS.2.1 dX12_ray_9 (lv_at hl 4 rfl) ?_
    refine j_sRi SS (As := [.int (J c), .int (J d)]) (rest := []) (c_X12_isPlace l D c d (show -2147483648 ≤ c ∧ c ≤ 2147483647 from (by omega)) (show -2147483648 ≤ d ∧ d ≤ 2147483647 from (by omega))) mf_X12_isPlace kw_1166 hG trivial rfl hl.1 ⟨⟨Nat.le_of_ble_eq_true rfl, Nat.le_of_ble_eq_true rfl⟩, Nat.le_of_ble_eq_true rfl, Nat.le_refl _, Nat.le_refl _⟩ rfl dX12_ray_11 (fun z_11 h_11 => ?_)
    have h_11 : (z_11 = 1 ∧ (-40 ≤ c ∧ c ≤ 40 ∧ -40 ≤ d ∧ d ≤ 40)) ∨ (z_11 = 0 ∧ ¬ (-40 ≤ c ∧ c ≤ 40 ∧ -40 ≤ d ∧ d ≤ 40)) := h_11
    refine j_if_eq SS (tgt := 54) (x := z_11) dX12_ray_14 (by decide) (by omega) (fun c_14 => ?_) (fun c_14 => ?_)
    · skip
      refine j_ldc SS (-1000000) kw_1213 dX12_ray_54 ?_
      exact W.iret SS.1 SS.2.1 hr (fun t ht hW => ⟨⟨_, (uV (uI (uI u 17 (u.1 17)) 18 (u.1 18)) 19 (u.2.2 19)), rfl, ⟨(-1000000), rfl, (⟨(u.1 17), (u.1 18), (u.2.2 19), rfl, by first | exact ⟨Or.inl ⟨fun h => by unfold pl4 at h; omega, rfl⟩, p0⟩ | exact ⟨Or.inl ⟨fun h => by (rcases h_33 with q | q; have q2 := h.2.2.1; omega; omega), rfl⟩, p0⟩ | (by_cases hi : 0 ≤ i; exact ⟨Or.inr ⟨hp, by omega, hc, hi, X_33, Y_33, n_33, hry, Or.inl ⟨by omega, rfl⟩⟩, p0⟩; exact ⟨Or.inl ⟨fun h => by have := h.2.2.2; omega, rfl⟩, p0⟩)⟩)⟩, by show va_P D.1 j_cl (mW D o q (uV (uI (uI u 17 (u.1 17)) 18 (u.1 18)) 19 (u.2.2 19))) t.heap; rw [ht]; exact hP⟩, hS.F ht⟩) hS.2.2 dX12_ray_56 hlk
    · skip
      refine lv_iload SS.1 SS.2.1 dX12_ray_17 (lv_at hl 6 rfl) ?_
      refine j_iconst SS dX12_ray_19 ?_
      refine j_iconst SS dX12_ray_20 ?_
      refine j_sRi SS (As := [.int (J what), .int (J 0), .int (J 2)]) (rest := []) (c_X12_in l D what 0 2 (show -2147483648 ≤ what ∧ what ≤ 2147483647 from (by omega)) (show -2147483648 ≤ (0 : Int) ∧ (0 : Int) ≤ 2147483647 from (by omega)) (show -2147483648 ≤ (2 : Int) ∧ (2 : Int) ≤ 2147483647 from (by omega))) mf_X12_in kw_1159 hG trivial rfl hl.1 ⟨⟨Nat.le_of_ble_eq_true rfl, Nat.le_of_ble_eq_true rfl⟩, Nat.le_of_ble_eq_true rfl, Nat.le_refl _, Nat.le_refl _⟩ rfl dX12_ray_21 (fun z_21 h_21 => ?_)
      have h_21 : (z_21 = 1 ∧ ((0 : Int) ≤ what ∧ what ≤ (2 : Int))) ∨ (z_21 = 0 ∧ ¬ ((0 : Int) ≤ what ∧ what ≤ (2 : Int))) := h_21
      refine j_if_eq SS (tgt := 54) (x := z_21) dX12_ray_24 (by decide) (by omega) (fun c_24 => ?_) (fun c_24 => ?_)
      · skip
        refine j_ldc SS (-1000000) kw_1213 dX12_ray_54 ?_
        exact W.iret SS.1 SS.2.1 hr (fun t ht hW => ⟨⟨_, (uV (uI (uI u 17 (u.1 17)) 18 (u.1 18)) 19 (u.2.2 19)), rfl, ⟨(-1000000), rfl, (⟨(u.1 17), (u.1 18), (u.2.2 19), rfl, by first | exact ⟨Or.inl ⟨fun h => by unfold pl4 at h; omega, rfl⟩, p0⟩ | exact ⟨Or.inl ⟨fun h => by (rcases h_33 with q | q; have q2 := h.2.2.1; omega; omega), rfl⟩, p0⟩ | (by_cases hi : 0 ≤ i; exact ⟨Or.inr ⟨hp, by omega, hc, hi, X_33, Y_33, n_33, hry, Or.inl ⟨by omega, rfl⟩⟩, p0⟩; exact ⟨Or.inl ⟨fun h => by have := h.2.2.2; omega, rfl⟩, p0⟩)⟩)⟩, by show va_P D.1 j_cl (mW D o q (uV (uI (uI u 17 (u.1 17)) 18 (u.1 18)) 19 (u.2.2 19))) t.heap; rw [ht]; exact hP⟩, hS.F ht⟩) hS.2.2 dX12_ray_56 hlk
      · skip
        refine lv_aload_n SS.1 SS.2.1 dX12_ray_27 rfl (lv_at hl 0 rfl) ?_
        refine lv_iload_n SS.1 SS.2.1 dX12_ray_28 rfl (lv_at hl 1 rfl) ?_
        refine lv_iload_n SS.1 SS.2.1 dX12_ray_29 rfl (lv_at hl 2 rfl) ?_
        refine lv_iload_n SS.1 SS.2.1 dX12_ray_30 rfl (lv_at hl 3 rfl) ?_
        refine lv_iload SS.1 SS.2.1 dX12_ray_31 (lv_at hl 4 rfl) ?_
        refine j_vWi SS (As := [.int (J a), .int (J b), .int (J c), .int (J d)]) (rest := []) (c_X12_findRays l D o q u A (mW_D hD) a b c d (show -40 ≤ a ∧ a ≤ 40 from (by omega)) (show -40 ≤ b ∧ b ≤ 40 from (by omega)) (show -40 ≤ c ∧ c ≤ 40 from (by omega)) (show -40 ≤ d ∧ d ≤ 40 from (by omega))) mf_X12_findRays kw_1392 hG hP hP (ci := 8) (q0 := 0) rfl rfl rfl hS (fun _ h => h) rfl hl.1 ⟨⟨Nat.le_of_ble_eq_true rfl, Nat.le_of_ble_eq_true rfl⟩, Nat.le_of_ble_eq_true rfl, Nat.le_refl _, Nat.le_refl _⟩ rfl dX12_ray_33 (fun z_33 u33 H locs h_33 hP _ hS => ?_)
        obtain ⟨X_33, Y_33, n_33, rfl, h_33⟩ := h_33
        have hP : va_P D.1 j_cl (mW D o q (uV (uI (uI u 17 X_33) 18 Y_33) 19 n_33)) H := hP
        have h_33 : (z_33 = 0 ∧ cx a b c d ≤ 0) ∨ (z_33 = 1 ∧ 0 < cx a b c d ∧ ry a b c d X_33 Y_33 n_33) := h_33
        refine j_if_eq SS (tgt := 54) (x := z_33) dX12_ray_36 (by decide) (by omega) (fun c_36 => ?_) (fun c_36 => ?_)
        · skip
          refine j_ldc SS (-1000000) kw_1213 dX12_ray_54 ?_
          exact W.iret SS.1 SS.2.1 hr (fun t ht hW => ⟨⟨_, (uV (uI (uI u 17 X_33) 18 Y_33) 19 n_33), rfl, ⟨(-1000000), rfl, (⟨X_33, Y_33, n_33, rfl, by first | exact ⟨Or.inl ⟨fun h => by unfold pl4 at h; omega, rfl⟩, p0⟩ | exact ⟨Or.inl ⟨fun h => by (rcases h_33 with q | q; have q2 := h.2.2.1; omega; omega), rfl⟩, p0⟩ | (by_cases hi : 0 ≤ i; exact ⟨Or.inr ⟨hp, by omega, hc, hi, X_33, Y_33, n_33, hry, Or.inl ⟨by omega, rfl⟩⟩, p0⟩; exact ⟨Or.inl ⟨fun h => by have := h.2.2.2; omega, rfl⟩, p0⟩)⟩)⟩, by show va_P D.1 j_cl (mW D o q (uV (uI (uI u 17 X_33) 18 Y_33) 19 n_33)) t.heap; rw [ht]; exact hP⟩, hS.F ht⟩) hS.2.2 dX12_ray_56 hlk
        · skip
          have hp : pl4 a b c d := by unfold pl4; omega
          have hry : ry a b c d X_33 Y_33 n_33 := by rcases h_33 with q | q; omega; exact q.2.2
          have hc : 0 < cx a b c d := by rcases h_33 with q | q; omega; exact q.2.1
          have hn := hry.1
          refine lv_iload SS.1 SS.2.1 dX12_ray_39 (lv_at hl 5 rfl) ?_
          refine j_iconst SS dX12_ray_41 ?_
          refine lv_aload_n SS.1 SS.2.1 dX12_ray_42 rfl (lv_at hl 0 rfl) ?_
          refine j_get SS hG hP 0 (v := .int (J n_33)) (C := RX12) (T := TX12) (N := 31) rfl rfl inX12 19 (by decide) (ref := RX12) kw_1077 rfl rfl dX12_ray_43 ?_
          refine j_iconst SS dX12_ray_46 ?_
          refine j_isub SS (x := n_33) (y := 1) dX12_ray_47 ?_
          refine j_sRi SS (As := [.int (J i), .int (J 0), .int (J (n_33 - 1))]) (rest := []) (c_X12_in l D i 0 (n_33 - 1) (show -2147483648 ≤ i ∧ i ≤ 2147483647 from (by omega)) (show -2147483648 ≤ (0 : Int) ∧ (0 : Int) ≤ 2147483647 from (by omega)) (show -2147483648 ≤ (n_33 - 1) ∧ (n_33 - 1) ≤ 2147483647 from (by omega))) mf_X12_in kw_1159 hG trivial rfl hl.1 ⟨⟨Nat.le_of_ble_eq_true rfl, Nat.le_of_ble_eq_true rfl⟩, Nat.le_of_ble_eq_true rfl, Nat.le_refl _, Nat.le_refl _⟩ rfl dX12_ray_48 (fun z_48 h_48 => ?_)
          have h_48 : (z_48 = 1 ∧ ((0 : Int) ≤ i ∧ i ≤ (n_33 - 1))) ∨ (z_48 = 0 ∧ ¬ ((0 : Int) ≤ i ∧ i ≤ (n_33 - 1))) := h_48
          refine j_if_ne SS (tgt := 57) (x := z_48) dX12_ray_51 (by decide) (by omega) (fun c_51 => ?_) (fun c_51 => ?_)
          · skip
            have hbi := ry_b hry (i := i) (by omega) (by omega)
            refine lv_iload SS.1 SS.2.1 dX12_ray_57 (lv_at hl 6 rfl) ?_
            refine j_iconst SS dX12_ray_59 ?_
            refine j_icmp_ge SS (tgt := 86) (x := what) (y := 2) dX12_ray_60 (by decide) (by omega) (by decide) (fun c_60 => ?_) (fun c_60 => ?_)
            · skip
              refine lv_iload SS.1 SS.2.1 dX12_ray_86 (lv_at hl 5 rfl) ?_
              refine j_if_eq SS (tgt := 102) (x := i) dX12_ray_88 (by decide) (by omega) (fun c_88 => ?_) (fun c_88 => ?_)
              · skip
                refine j_ldc SS (-1000000) kw_1213 dX12_ray_102 ?_
                exact W.iret SS.1 SS.2.1 hr (fun t ht hW => ⟨⟨_, (uV (uI (uI u 17 X_33) 18 Y_33) 19 n_33), rfl, ⟨(-1000000), rfl, (⟨X_33, Y_33, n_33, rfl, ⟨Or.inr ⟨hp, by omega, hc, by omega, X_33, Y_33, n_33, hry, Or.inr ⟨by omega, Or.inr (Or.inr ⟨by omega, Or.inl ⟨by omega, rfl⟩⟩)⟩⟩, p0⟩⟩)⟩, by show va_P D.1 j_cl (mW D o q (uV (uI (uI u 17 X_33) 18 Y_33) 19 n_33)) t.heap; rw [ht]; exact hP⟩, hS.F ht⟩) hS.2.2 dX12_ray_104 hlk
              · skip
                refine lv_iload SS.1 SS.2.1 dX12_ray_91 (lv_at hl 5 rfl) ?_
                refine lv_aload_n SS.1 SS.2.1 dX12_ray_93 rfl (lv_at hl 0 rfl) ?_
                refine j_get SS hG hP 0 (v := .int (J n_33)) (C := RX12) (T := TX12) (N := 31) rfl rfl inX12 19 (by decide) (ref := RX12) kw_1077 rfl rfl dX12_ray_94 ?_
                refine j_iconst SS dX12_ray_97 ?_
                refine j_isub SS (x := n_33) (y := 1) dX12_ray_98 ?_
                refine j_icmp_ne SS (tgt := 105) (x := i) (y := (n_33 - 1)) dX12_ray_99 (by decide) (by omega) (by omega) (fun c_99 => ?_) (fun c_99 => ?_)
                · skip
                  have hbp := ry_b hry (i := i - 1) (by omega) (by omega)
                  have hbn := ry_b hry (i := i + 1) (by omega) (by omega)
                  have hbe := ry_bend hry (i := i) (by omega) (by omega)
                  refine lv_aload_n SS.1 SS.2.1 dX12_ray_105 rfl (lv_at hl 0 rfl) ?_
                  refine j_get SS hG hP 0 (v := .ref (q 17)) (C := RX12) (T := TX12) (N := 31) rfl rfl inX12 17 (by decide) (ref := RX12) kw_1075 rfl rfl dX12_ray_106 ?_
                  refine lv_iload SS.1 SS.2.1 dX12_ray_109 (lv_at hl 5 rfl) ?_
                  refine j_iald SS hG hP 15 (n := 4000) (f := X_33) rfl (z := i) (by omega) (by omega) dX12_ray_111 ?_
                  refine j_if_eq SS (tgt := 145) (x := (X_33 (i).toNat)) dX12_ray_112 (by decide) (by omega) (fun c_112 => ?_) (fun c_112 => ?_)
                  · skip
                    refine lv_aload_n SS.1 SS.2.1 dX12_ray_145 rfl (lv_at hl 0 rfl) ?_
                    refine j_get SS hG hP 0 (v := .ref (q 18)) (C := RX12) (T := TX12) (N := 31) rfl rfl inX12 18 (by decide) (ref := RX12) kw_1076 rfl rfl dX12_ray_146 ?_
                    refine lv_iload SS.1 SS.2.1 dX12_ray_149 (lv_at hl 5 rfl) ?_
                    refine j_iconst SS dX12_ray_151 ?_
                    refine j_isub SS (x := i) (y := 1) dX12_ray_152 ?_
                    refine j_iald SS hG hP 16 (n := 4000) (f := Y_33) rfl (z := (i - 1)) (by omega) (by omega) dX12_ray_153 ?_
                    refine lv_aload_n SS.1 SS.2.1 dX12_ray_154 rfl (lv_at hl 0 rfl) ?_
                    refine j_get SS hG hP 0 (v := .ref (q 18)) (C := RX12) (T := TX12) (N := 31) rfl rfl inX12 18 (by decide) (ref := RX12) kw_1076 rfl rfl dX12_ray_155 ?_
                    refine lv_iload SS.1 SS.2.1 dX12_ray_158 (lv_at hl 5 rfl) ?_
                    refine j_iconst SS dX12_ray_160 ?_
                    refine j_iadd SS (x := i) (y := 1) dX12_ray_161 ?_
                    refine j_iald SS hG hP 16 (n := 4000) (f := Y_33) rfl (z := (i + 1)) (by omega) (by omega) dX12_ray_162 ?_
                    refine j_iadd SS (x := (Y_33 ((i - 1)).toNat)) (y := (Y_33 ((i + 1)).toNat)) dX12_ray_163 ?_
                    refine lv_aload_n SS.1 SS.2.1 dX12_ray_164 rfl (lv_at hl 0 rfl) ?_
                    refine j_get SS hG hP 0 (v := .ref (q 18)) (C := RX12) (T := TX12) (N := 31) rfl rfl inX12 18 (by decide) (ref := RX12) kw_1076 rfl rfl dX12_ray_165 ?_
                    refine lv_iload SS.1 SS.2.1 dX12_ray_168 (lv_at hl 5 rfl) ?_
                    refine j_iald SS hG hP 16 (n := 4000) (f := Y_33) rfl (z := i) (by omega) (by omega) dX12_ray_170 ?_
                    refine j_idiv SS (x := ((Y_33 ((i - 1)).toNat) + (Y_33 ((i + 1)).toNat))) (y := (Y_33 (i).toNat)) dX12_ray_171 (by omega) (by omega) (by omega) ?_
                    exact W.iret SS.1 SS.2.1 hr (fun t ht hW => ⟨⟨_, (uV (uI (uI u 17 X_33) 18 Y_33) 19 n_33), rfl, ⟨(Int.tdiv ((Y_33 ((i - 1)).toNat) + (Y_33 ((i + 1)).toNat)) (Y_33 (i).toNat)), rfl, (⟨X_33, Y_33, n_33, rfl, ⟨Or.inr ⟨hp, by omega, hc, by omega, X_33, Y_33, n_33, hry, Or.inr ⟨by omega, Or.inr (Or.inr ⟨by omega, Or.inr ⟨by omega, by omega, by first | exact ry_dv hbe.1 (by omega) | exact ry_dv hbe.2.1 (by omega)⟩⟩)⟩⟩, p0⟩⟩)⟩, by show va_P D.1 j_cl (mW D o q (uV (uI (uI u 17 X_33) 18 Y_33) 19 n_33)) t.heap; rw [ht]; exact hP⟩, hS.F ht⟩) hS.2.2 dX12_ray_172 hlk
                  · skip
                    refine lv_aload_n SS.1 SS.2.1 dX12_ray_115 rfl (lv_at hl 0 rfl) ?_
                    refine j_get SS hG hP 0 (v := .ref (q 17)) (C := RX12) (T := TX12) (N := 31) rfl rfl inX12 17 (by decide) (ref := RX12) kw_1075 rfl rfl dX12_ray_116 ?_
                    refine lv_iload SS.1 SS.2.1 dX12_ray_119 (lv_at hl 5 rfl) ?_
                    refine j_iconst SS dX12_ray_121 ?_
                    refine j_isub SS (x := i) (y := 1) dX12_ray_122 ?_
                    refine j_iald SS hG hP 15 (n := 4000) (f := X_33) rfl (z := (i - 1)) (by omega) (by omega) dX12_ray_123 ?_
                    refine lv_aload_n SS.1 SS.2.1 dX12_ray_124 rfl (lv_at hl 0 rfl) ?_
                    refine j_get SS hG hP 0 (v := .ref (q 17)) (C := RX12) (T := TX12) (N := 31) rfl rfl inX12 17 (by decide) (ref := RX12) kw_1075 rfl rfl dX12_ray_125 ?_
                    refine lv_iload SS.1 SS.2.1 dX12_ray_128 (lv_at hl 5 rfl) ?_
                    refine j_iconst SS dX12_ray_130 ?_
                    refine j_iadd SS (x := i) (y := 1) dX12_ray_131 ?_
                    refine j_iald SS hG hP 15 (n := 4000) (f := X_33) rfl (z := (i + 1)) (by omega) (by omega) dX12_ray_132 ?_
                    refine j_iadd SS (x := (X_33 ((i - 1)).toNat)) (y := (X_33 ((i + 1)).toNat)) dX12_ray_133 ?_
                    refine lv_aload_n SS.1 SS.2.1 dX12_ray_134 rfl (lv_at hl 0 rfl) ?_
                    refine j_get SS hG hP 0 (v := .ref (q 17)) (C := RX12) (T := TX12) (N := 31) rfl rfl inX12 17 (by decide) (ref := RX12) kw_1075 rfl rfl dX12_ray_135 ?_
                    refine lv_iload SS.1 SS.2.1 dX12_ray_138 (lv_at hl 5 rfl) ?_
                    refine j_iald SS hG hP 15 (n := 4000) (f := X_33) rfl (z := i) (by omega) (by omega) dX12_ray_140 ?_
                    refine j_idiv SS (x := ((X_33 ((i - 1)).toNat) + (X_33 ((i + 1)).toNat))) (y := (X_33 (i).toNat)) dX12_ray_141 (by omega) (by omega) (by omega) ?_
                    refine lv_goto (tgt := 172) SS.1 SS.2.1 dX12_ray_142 (by decide) ?_
                    exact W.iret SS.1 SS.2.1 hr (fun t ht hW => ⟨⟨_, (uV (uI (uI u 17 X_33) 18 Y_33) 19 n_33), rfl, ⟨(Int.tdiv ((X_33 ((i - 1)).toNat) + (X_33 ((i + 1)).toNat)) (X_33 (i).toNat)), rfl, (⟨X_33, Y_33, n_33, rfl, ⟨Or.inr ⟨hp, by omega, hc, by omega, X_33, Y_33, n_33, hry, Or.inr ⟨by omega, Or.inr (Or.inr ⟨by omega, Or.inr ⟨by omega, by omega, by first | exact ry_dv hbe.1 (by omega) | exact ry_dv hbe.2.1 (by omega)⟩⟩)⟩⟩, p0⟩⟩)⟩, by show va_P D.1 j_cl (mW D o q (uV (uI (uI u 17 X_33) 18 Y_33) 19 n_33)) t.heap; rw [ht]; exact hP⟩, hS.F ht⟩) hS.2.2 dX12_ray_172 hlk
                · skip
                  refine j_ldc SS (-1000000) kw_1213 dX12_ray_102 ?_
                  exact W.iret SS.1 SS.2.1 hr (fun t ht hW => ⟨⟨_, (uV (uI (uI u 17 X_33) 18 Y_33) 19 n_33), rfl, ⟨(-1000000), rfl, (⟨X_33, Y_33, n_33, rfl, ⟨Or.inr ⟨hp, by omega, hc, by omega, X_33, Y_33, n_33, hry, Or.inr ⟨by omega, Or.inr (Or.inr ⟨by omega, Or.inl ⟨by omega, rfl⟩⟩)⟩⟩, p0⟩⟩)⟩, by show va_P D.1 j_cl (mW D o q (uV (uI (uI u 17 X_33) 18 Y_33) 19 n_33)) t.heap; rw [ht]; exact hP⟩, hS.F ht⟩) hS.2.2 dX12_ray_104 hlk
            · skip
              refine lv_iload SS.1 SS.2.1 dX12_ray_63 (lv_at hl 6 rfl) ?_
              refine j_if_ne SS (tgt := 78) (x := what) dX12_ray_65 (by decide) (by omega) (fun c_65 => ?_) (fun c_65 => ?_)
              · skip
                refine lv_aload_n SS.1 SS.2.1 dX12_ray_78 rfl (lv_at hl 0 rfl) ?_
                refine j_get SS hG hP 0 (v := .ref (q 18)) (C := RX12) (T := TX12) (N := 31) rfl rfl inX12 18 (by decide) (ref := RX12) kw_1076 rfl rfl dX12_ray_79 ?_
                refine lv_iload SS.1 SS.2.1 dX12_ray_82 (lv_at hl 5 rfl) ?_
                refine j_iald SS hG hP 16 (n := 4000) (f := Y_33) rfl (z := i) (by omega) (by omega) dX12_ray_84 ?_
                exact W.iret SS.1 SS.2.1 hr (fun t ht hW => ⟨⟨_, (uV (uI (uI u 17 X_33) 18 Y_33) 19 n_33), rfl, ⟨(Y_33 (i).toNat), rfl, (⟨X_33, Y_33, n_33, rfl, ⟨Or.inr ⟨hp, by omega, hc, by omega, X_33, Y_33, n_33, hry, Or.inr ⟨by omega, by first | exact Or.inl ⟨by omega, rfl⟩ | exact Or.inr (Or.inl ⟨by omega, rfl⟩)⟩⟩, p0⟩⟩)⟩, by show va_P D.1 j_cl (mW D o q (uV (uI (uI u 17 X_33) 18 Y_33) 19 n_33)) t.heap; rw [ht]; exact hP⟩, hS.F ht⟩) hS.2.2 dX12_ray_85 hlk
              · skip
                refine lv_aload_n SS.1 SS.2.1 dX12_ray_68 rfl (lv_at hl 0 rfl) ?_
                refine j_get SS hG hP 0 (v := .ref (q 17)) (C := RX12) (T := TX12) (N := 31) rfl rfl inX12 17 (by decide) (ref := RX12) kw_1075 rfl rfl dX12_ray_69 ?_
                refine lv_iload SS.1 SS.2.1 dX12_ray_72 (lv_at hl 5 rfl) ?_
                refine j_iald SS hG hP 15 (n := 4000) (f := X_33) rfl (z := i) (by omega) (by omega) dX12_ray_74 ?_
                refine lv_goto (tgt := 85) SS.1 SS.2.1 dX12_ray_75 (by decide) ?_
                exact W.iret SS.1 SS.2.1 hr (fun t ht hW => ⟨⟨_, (uV (uI (uI u 17 X_33) 18 Y_33) 19 n_33), rfl, ⟨(X_33 (i).toNat), rfl, (⟨X_33, Y_33, n_33, rfl, ⟨Or.inr ⟨hp, by omega, hc, by omega, X_33, Y_33, n_33, hry, Or.inr ⟨by omega, by first | exact Or.inl ⟨by omega, rfl⟩ | exact Or.inr (Or.inl ⟨by omega, rfl⟩)⟩⟩, p0⟩⟩)⟩, by show va_P D.1 j_cl (mW D o q (uV (uI (uI u 17 X_33) 18 Y_33) 19 n_33)) t.heap; rw [ht]; exact hP⟩, hS.F ht⟩) hS.2.2 dX12_ray_85 hlk
          · skip
            refine j_ldc SS (-1000000) kw_1213 dX12_ray_54 ?_
            exact W.iret SS.1 SS.2.1 hr (fun t ht hW => ⟨⟨_, (uV (uI (uI u 17 X_33) 18 Y_33) 19 n_33), rfl, ⟨(-1000000), rfl, (⟨X_33, Y_33, n_33, rfl, by first | exact ⟨Or.inl ⟨fun h => by unfold pl4 at h; omega, rfl⟩, p0⟩ | exact ⟨Or.inl ⟨fun h => by (rcases h_33 with q | q; have q2 := h.2.2.1; omega; omega), rfl⟩, p0⟩ | (by_cases hi : 0 ≤ i; exact ⟨Or.inr ⟨hp, by omega, hc, hi, X_33, Y_33, n_33, hry, Or.inl ⟨by omega, rfl⟩⟩, p0⟩; exact ⟨Or.inl ⟨fun h => by have := h.2.2.2; omega, rfl⟩, p0⟩)⟩)⟩, by show va_P D.1 j_cl (mW D o q (uV (uI (uI u 17 X_33) 18 Y_33) 19 n_33)) t.heap; rw [ht]; exact hP⟩, hS.F ht⟩) hS.2.2 dX12_ray_56 hlk
