
theorem sC_id {u : CS} {r : Nat} : sC u r (u.1.2.2.1 r) = u := by
  unfold sC
  rw [show (fun j => if j = r then u.1.2.2.1 r else u.1.2.2.1 j) = u.1.2.2.1 from funext fun j => by by_cases e : j = r; (rw [if_pos e, e]); (rw [if_neg e])]
theorem sX_id {u : CS} {r : Nat} : sX u r (u.1.1 r) = u := by
  unfold sX
  rw [show (fun j => if j = r then u.1.1 r else u.1.1 j) = u.1.1 from funext fun j => by by_cases e : j = r; (rw [if_pos e, e]); (rw [if_neg e])]
theorem sY_id {u : CS} {r : Nat} : sY u r (u.1.2.1 r) = u := by
  unfold sY
  rw [show (fun j => if j = r then u.1.2.1 r else u.1.2.1 j) = u.1.2.1 from funext fun j => by by_cases e : j = r; (rw [if_pos e, e]); (rw [if_neg e])]
theorem sH_id {u : CS} {r : Nat} : sH u r (u.1.2.2.2.1 r) = u := by
  unfold sH
  rw [show (fun j => if j = r then u.1.2.2.2.1 r else u.1.2.2.2.1 j) = u.1.2.2.2.1 from funext fun j => by by_cases e : j = r; (rw [if_pos e, e]); (rw [if_neg e])]
theorem sT_id {u : CS} {r : Nat} : sT u r (u.1.2.2.2.2 r) = u := by
  unfold sT
  rw [show (fun j => if j = r then u.1.2.2.2.2 r else u.1.2.2.2.2 j) = u.1.2.2.2.2 from funext fun j => by by_cases e : j = r; (rw [if_pos e, e]); (rw [if_neg e])]
theorem sV_id {u : CS} {r : Nat} : sV u r (u.2.2.2 r) = u := by
  unfold sV uV
  rw [show (fun j => if j = r then u.2.2.2 r else u.2.2.2 j) = u.2.2.2 from funext fun j => by by_cases e : j = r; (rw [if_pos e, e]); (rw [if_neg e])]
theorem td_half {a K : Int} (h : -K ≤ a ∧ a ≤ K) : -K ≤ 2 * a.tdiv 2 ∧ 2 * a.tdiv 2 ≤ K := by
  have : (a.tdiv 2).natAbs = a.natAbs / 2 := by rw [Int.natAbs_tdiv]; rfl
  omega
theorem fd_b {a b K : Int} (ha : -K ≤ a ∧ a ≤ K) (hb : 0 < b) : -K ≤ a / b ∧ a / b ≤ K := by
  have h1 : a / b ≤ K := by
    have := Int.ediv_le_of_le_mul hb (show a ≤ K * b from by
      have : K * 1 ≤ K * b := Int.mul_le_mul_of_nonneg_left (by omega) (by omega)
      omega)
    exact this
  have h2 : -K ≤ a / b := (Int.le_ediv_iff_mul_le hb).mpr (by
    have : K * 1 ≤ K * b := Int.mul_le_mul_of_nonneg_left (by omega) (by omega)
    rw [Int.neg_mul]; omega)
  exact ⟨h2, h1⟩
/-- a row read as the class reads it -/
def rx (u : CS) (r : Nat) (i : Int) : Int := if 0 ≤ i ∧ i < rl r then u.1.1 r i.toNat else 0
def ry9 (u : CS) (r : Nat) (i : Int) : Int := if 0 ≤ i ∧ i < rl r then u.1.2.1 r i.toNat else 0
theorem rx_b {K : Int} {u : CS} {r : Nat} {i : Int} (h0 : 0 ≤ K) (h : RB K u r) : -K ≤ rx u r i ∧ rx u r i ≤ K := by
  unfold rx; split
  · exact (h.2 i.toNat).1
  · omega
theorem ry9_b {K : Int} {u : CS} {r : Nat} {i : Int} (h0 : 0 ≤ K) (h : RB K u r) : -K ≤ ry9 u r i ∧ ry9 u r i ≤ K := by
  unfold ry9; split
  · exact (h.2 i.toNat).2
  · omega
/-- the corner beside corner i -/
def ar (u : CS) (r : Nat) (i t : Int) : Int := if u.1.2.2.1 r ≤ i + t then 0 else if i + t < 0 then u.1.2.2.1 r - 1 else i + t
def dX (u : CS) (r : Nat) (i : Int) : Int := rx u r (ar u r i 1) - rx u r i
def dY (u : CS) (r : Nat) (i : Int) : Int := ry9 u r (ar u r i 1) - ry9 u r i
def dS (u : CS) (r : Nat) (i : Int) : Int := (Int.gcd (dX u r i) (dY u r i) : Int)
def rA (u : CS) (r : Nat) : Int := smI (fun i => rx u r i * dY u r i - ry9 u r i * dX u r i) (u.1.2.2.1 r)
def rE (u : CS) (r : Nat) : Int := if u.1.2.2.1 r < 3 then (if u.1.2.2.1 r = 0 then 0 else dS u r 0 + 1) else smI (dS u r) (u.1.2.2.1 r)
def rI (u : CS) (r : Nat) : Int := if u.1.2.2.1 r < 3 then 0 else (rA u r - rE u r).tdiv 2 + 1

set_option maxHeartbeats 4000000 in
set_option maxRecDepth 100000 in
theorem c_X8_x (l : Launch) (D : JD) (q : Nat → Nat) (u : CS) (r : Nat) (hr : r ≤ 8) (i : Int) (p0 : -2147483648 ≤ i ∧ i ≤ 2147483647) : Met l yX8_x (jw yX8_x cX8_x 2 (some .int)) (jr 0 0) (jP [.ref (q (9 + 5 * r)), .int (J i)] D (fun H => va_P D.1 j_cl (cW D q u) H)) (jRi (fun z => z = rx u r i ∧ ∀ K : Int, 0 ≤ K → RB K u r → -K ≤ z ∧ z ≤ K)) 0 0 (fun _ => False) := by
  refine Met.ofW (cc := cX8_x) (maxL := 2) (ret := (some .int)) (by decide) rfl ?_
  intro pr en st mi args below meth co s₁ B hml hv
  obtain ⟨rfl, hG, hP⟩ := hv
  have hr := B.returns
  have hlk := B.notSynchronized
  have SS : jS pr mi co cX8_x 2 st _ RX8 := ⟨B.exec, B.bytes, hml, findClass_of_methodNamed B.named, fun w hw => atoms_spec (ws := (jw yX8_x cX8_x 2 (some .int))) B.pre w (List.mem_cons_of_mem _ hw)⟩
  have hl := lv_entry ([.ref (q (9 + 5 * r)), .int (J i)]) (n := 2) (Nat.le_of_ble_eq_true rfl)
  rw [lg_entry_eq]
  generalize (lg_sl ([.ref (q (9 + 5 * r)), .int (J i)]) ++ List.replicate (2 - (lg_sl ([.ref (q (9 + 5 * r)), .int (J i)])).length) Slot.unset).toArray = ls at hl ⊢
  have hl : lv_has ls 2 [(0, .ref (q (9 + 5 * r))), (1, .int (J i))] := hl
  have hrl := rl_b r
  refine lv_iload_n SS.1 SS.2.1 dX8_x_0 rfl (lv_at hl 1 rfl) ?_
  refine j_if_lt SS (tgt := 22) (x := i) dX8_x_1 (by decide) (by omega) (fun c_1 => ?_) (fun c_1 => ?_)
  · skip
    refine j_iconst SS dX8_x_22 ?_
    exact W.iret SS.1 SS.2.1 hr (fun t0 ht hW => ⟨_, rfl, ⟨0, rfl, (by have e : ∀ z : Int, z = rx u r i → z = rx u r i ∧ ∀ K : Int, 0 ≤ K → RB K u r → -K ≤ z ∧ z ≤ K := (fun z hz => ⟨hz, fun K h0 hB => by rw [hz]; exact rx_b h0 hB⟩); exact e _ (by unfold rx; first | rw [if_pos (by omega)] | rw [if_neg (by omega)]))⟩, ht⟩) (fun _ h => nomatch h) dX8_x_23 hlk
  · skip
    refine lv_iload_n SS.1 SS.2.1 dX8_x_4 rfl (lv_at hl 1 rfl) ?_
    refine lv_aload_n SS.1 SS.2.1 dX8_x_5 rfl (lv_at hl 0 rfl) ?_
    refine j_get SS hG hP (9 + 5 * r) (v := .ref (q (10 + 5 * r))) (C := RX7) (T := TX7) (N := 3) (cw_ring (by omega)) rfl inX7 0 (by decide) (ref := "GridPolygons$Row") kw_129 rfl rfl dX8_x_6 ?_
    refine va_alen SS.1 SS.2.1 hG.1 hP (10 + 5 * r) 0 (cw_xs (by omega)) rfl (v := J (rl r : Int)) (by first | rfl | exact J_nat _) dX8_x_9 ?_
    refine j_icmp_ge SS (tgt := 22) (x := i) (y := (rl r : Int)) dX8_x_10 (by decide) (by omega) (by omega) (fun c_10 => ?_) (fun c_10 => ?_)
    · skip
      refine j_iconst SS dX8_x_22 ?_
      exact W.iret SS.1 SS.2.1 hr (fun t0 ht hW => ⟨_, rfl, ⟨0, rfl, (by have e : ∀ z : Int, z = rx u r i → z = rx u r i ∧ ∀ K : Int, 0 ≤ K → RB K u r → -K ≤ z ∧ z ≤ K := (fun z hz => ⟨hz, fun K h0 hB => by rw [hz]; exact rx_b h0 hB⟩); exact e _ (by unfold rx; first | rw [if_pos (by omega)] | rw [if_neg (by omega)]))⟩, ht⟩) (fun _ h => nomatch h) dX8_x_23 hlk
    · skip
      refine lv_aload_n SS.1 SS.2.1 dX8_x_13 rfl (lv_at hl 0 rfl) ?_
      refine j_get SS hG hP (9 + 5 * r) (v := .ref (q (10 + 5 * r))) (C := RX7) (T := TX7) (N := 3) (cw_ring (by omega)) rfl inX7 0 (by decide) (ref := "GridPolygons$Row") kw_129 rfl rfl dX8_x_14 ?_
      refine lv_iload_n SS.1 SS.2.1 dX8_x_17 rfl (lv_at hl 1 rfl) ?_
      refine j_iald SS hG hP (10 + 5 * r) (n := rl r) (f := (u.1.1 r)) (cw_xs (by omega)) (z := i) (by omega) (by omega) dX8_x_18 ?_
      refine lv_goto (tgt := 23) SS.1 SS.2.1 dX8_x_19 (by decide) ?_
      exact W.iret SS.1 SS.2.1 hr (fun t0 ht hW => ⟨_, rfl, ⟨((u.1.1 r) (i).toNat), rfl, (by have e : ∀ z : Int, z = rx u r i → z = rx u r i ∧ ∀ K : Int, 0 ≤ K → RB K u r → -K ≤ z ∧ z ≤ K := (fun z hz => ⟨hz, fun K h0 hB => by rw [hz]; exact rx_b h0 hB⟩); exact e _ (by unfold rx; first | rw [if_pos (by omega)] | rw [if_neg (by omega)]))⟩, ht⟩) (fun _ h => nomatch h) dX8_x_23 hlk

set_option maxHeartbeats 4000000 in
set_option maxRecDepth 100000 in
theorem c_X8_xP (l : Launch) (D : JD) (q : Nat → Nat) (u : CS) (r : Nat) (hr : r = 9 ∨ r = 10) (i : Int) (p0 : -2147483648 ≤ i ∧ i ≤ 2147483647) : Met l yX8_x (jw yX8_x cX8_x 2 (some .int)) (jr 0 0) (jP [.ref (q (9 + 5 * r)), .int (J i)] D (fun H => va_P D.1 j_cl (cW D q u) H)) (jRi (fun z => z = rx u r i ∧ ∀ K : Int, 0 ≤ K → RB K u r → -K ≤ z ∧ z ≤ K)) 0 0 (fun _ => False) := by
  refine Met.ofW (cc := cX8_x) (maxL := 2) (ret := (some .int)) (by decide) rfl ?_
  intro pr en st mi args below meth co s₁ B hml hv
  obtain ⟨rfl, hG, hP⟩ := hv
  have hr := B.returns
  have hlk := B.notSynchronized
  have SS : jS pr mi co cX8_x 2 st _ RX8 := ⟨B.exec, B.bytes, hml, findClass_of_methodNamed B.named, fun w hw => atoms_spec (ws := (jw yX8_x cX8_x 2 (some .int))) B.pre w (List.mem_cons_of_mem _ hw)⟩
  have hl := lv_entry ([.ref (q (9 + 5 * r)), .int (J i)]) (n := 2) (Nat.le_of_ble_eq_true rfl)
  rw [lg_entry_eq]
  generalize (lg_sl ([.ref (q (9 + 5 * r)), .int (J i)]) ++ List.replicate (2 - (lg_sl ([.ref (q (9 + 5 * r)), .int (J i)])).length) Slot.unset).toArray = ls at hl ⊢
  have hl : lv_has ls 2 [(0, .ref (q (9 + 5 * r))), (1, .int (J i))] := hl
  have hrl := rl_b r
  refine lv_iload_n SS.1 SS.2.1 dX8_x_0 rfl (lv_at hl 1 rfl) ?_
  refine j_if_lt SS (tgt := 22) (x := i) dX8_x_1 (by decide) (by omega) (fun c_1 => ?_) (fun c_1 => ?_)
  · skip
    refine j_iconst SS dX8_x_22 ?_
    exact W.iret SS.1 SS.2.1 hr (fun t0 ht hW => ⟨_, rfl, ⟨0, rfl, (by have e : ∀ z : Int, z = rx u r i → z = rx u r i ∧ ∀ K : Int, 0 ≤ K → RB K u r → -K ≤ z ∧ z ≤ K := (fun z hz => ⟨hz, fun K h0 hB => by rw [hz]; exact rx_b h0 hB⟩); exact e _ (by unfold rx; first | rw [if_pos (by omega)] | rw [if_neg (by omega)]))⟩, ht⟩) (fun _ h => nomatch h) dX8_x_23 hlk
  · skip
    refine lv_iload_n SS.1 SS.2.1 dX8_x_4 rfl (lv_at hl 1 rfl) ?_
    refine lv_aload_n SS.1 SS.2.1 dX8_x_5 rfl (lv_at hl 0 rfl) ?_
    refine j_get SS hG hP (9 + 5 * r) (v := .ref (q (10 + 5 * r))) (C := RX6) (T := TX6) (N := 3) (cw_pts (by omega)) rfl inX6 0 (by decide) (ref := "GridPolygons$Row") kw_129 rfl rfl dX8_x_6 ?_
    refine va_alen SS.1 SS.2.1 hG.1 hP (10 + 5 * r) 0 (cw_xs (by omega)) rfl (v := J (rl r : Int)) (by first | rfl | exact J_nat _) dX8_x_9 ?_
    refine j_icmp_ge SS (tgt := 22) (x := i) (y := (rl r : Int)) dX8_x_10 (by decide) (by omega) (by omega) (fun c_10 => ?_) (fun c_10 => ?_)
    · skip
      refine j_iconst SS dX8_x_22 ?_
      exact W.iret SS.1 SS.2.1 hr (fun t0 ht hW => ⟨_, rfl, ⟨0, rfl, (by have e : ∀ z : Int, z = rx u r i → z = rx u r i ∧ ∀ K : Int, 0 ≤ K → RB K u r → -K ≤ z ∧ z ≤ K := (fun z hz => ⟨hz, fun K h0 hB => by rw [hz]; exact rx_b h0 hB⟩); exact e _ (by unfold rx; first | rw [if_pos (by omega)] | rw [if_neg (by omega)]))⟩, ht⟩) (fun _ h => nomatch h) dX8_x_23 hlk
    · skip
      refine lv_aload_n SS.1 SS.2.1 dX8_x_13 rfl (lv_at hl 0 rfl) ?_
      refine j_get SS hG hP (9 + 5 * r) (v := .ref (q (10 + 5 * r))) (C := RX6) (T := TX6) (N := 3) (cw_pts (by omega)) rfl inX6 0 (by decide) (ref := "GridPolygons$Row") kw_129 rfl rfl dX8_x_14 ?_
      refine lv_iload_n SS.1 SS.2.1 dX8_x_17 rfl (lv_at hl 1 rfl) ?_
      refine j_iald SS hG hP (10 + 5 * r) (n := rl r) (f := (u.1.1 r)) (cw_xs (by omega)) (z := i) (by omega) (by omega) dX8_x_18 ?_
      refine lv_goto (tgt := 23) SS.1 SS.2.1 dX8_x_19 (by decide) ?_
      exact W.iret SS.1 SS.2.1 hr (fun t0 ht hW => ⟨_, rfl, ⟨((u.1.1 r) (i).toNat), rfl, (by have e : ∀ z : Int, z = rx u r i → z = rx u r i ∧ ∀ K : Int, 0 ≤ K → RB K u r → -K ≤ z ∧ z ≤ K := (fun z hz => ⟨hz, fun K h0 hB => by rw [hz]; exact rx_b h0 hB⟩); exact e _ (by unfold rx; first | rw [if_pos (by omega)] | rw [if_neg (by omega)]))⟩, ht⟩) (fun _ h => nomatch h) dX8_x_23 hlk

set_option maxHeartbeats 4000000 in
set_option maxRecDepth 100000 in
theorem c_X8_y (l : Launch) (D : JD) (q : Nat → Nat) (u : CS) (r : Nat) (hr : r ≤ 8) (i : Int) (p0 : -2147483648 ≤ i ∧ i ≤ 2147483647) : Met l yX8_y (jw yX8_y cX8_y 2 (some .int)) (jr 0 0) (jP [.ref (q (9 + 5 * r)), .int (J i)] D (fun H => va_P D.1 j_cl (cW D q u) H)) (jRi (fun z => z = ry9 u r i ∧ ∀ K : Int, 0 ≤ K → RB K u r → -K ≤ z ∧ z ≤ K)) 0 0 (fun _ => False) := by
  refine Met.ofW (cc := cX8_y) (maxL := 2) (ret := (some .int)) (by decide) rfl ?_
  intro pr en st mi args below meth co s₁ B hml hv
  obtain ⟨rfl, hG, hP⟩ := hv
  have hr := B.returns
  have hlk := B.notSynchronized
  have SS : jS pr mi co cX8_y 2 st _ RX8 := ⟨B.exec, B.bytes, hml, findClass_of_methodNamed B.named, fun w hw => atoms_spec (ws := (jw yX8_y cX8_y 2 (some .int))) B.pre w (List.mem_cons_of_mem _ hw)⟩
  have hl := lv_entry ([.ref (q (9 + 5 * r)), .int (J i)]) (n := 2) (Nat.le_of_ble_eq_true rfl)
  rw [lg_entry_eq]
  generalize (lg_sl ([.ref (q (9 + 5 * r)), .int (J i)]) ++ List.replicate (2 - (lg_sl ([.ref (q (9 + 5 * r)), .int (J i)])).length) Slot.unset).toArray = ls at hl ⊢
  have hl : lv_has ls 2 [(0, .ref (q (9 + 5 * r))), (1, .int (J i))] := hl
  have hrl := rl_b r
  refine lv_iload_n SS.1 SS.2.1 dX8_y_0 rfl (lv_at hl 1 rfl) ?_
  refine j_if_lt SS (tgt := 22) (x := i) dX8_y_1 (by decide) (by omega) (fun c_1 => ?_) (fun c_1 => ?_)
  · skip
    refine j_iconst SS dX8_y_22 ?_
    exact W.iret SS.1 SS.2.1 hr (fun t0 ht hW => ⟨_, rfl, ⟨0, rfl, (by have e : ∀ z : Int, z = ry9 u r i → z = ry9 u r i ∧ ∀ K : Int, 0 ≤ K → RB K u r → -K ≤ z ∧ z ≤ K := (fun z hz => ⟨hz, fun K h0 hB => by rw [hz]; exact ry9_b h0 hB⟩); exact e _ (by unfold ry9; first | rw [if_pos (by omega)] | rw [if_neg (by omega)]))⟩, ht⟩) (fun _ h => nomatch h) dX8_y_23 hlk
  · skip
    refine lv_iload_n SS.1 SS.2.1 dX8_y_4 rfl (lv_at hl 1 rfl) ?_
    refine lv_aload_n SS.1 SS.2.1 dX8_y_5 rfl (lv_at hl 0 rfl) ?_
    refine j_get SS hG hP (9 + 5 * r) (v := .ref (q (11 + 5 * r))) (C := RX7) (T := TX7) (N := 3) (cw_ring (by omega)) rfl inX7 1 (by decide) (ref := "GridPolygons$Row") kw_130 rfl rfl dX8_y_6 ?_
    refine va_alen SS.1 SS.2.1 hG.1 hP (11 + 5 * r) 0 (cw_ys (by omega)) rfl (v := J (rl r : Int)) (by first | rfl | exact J_nat _) dX8_y_9 ?_
    refine j_icmp_ge SS (tgt := 22) (x := i) (y := (rl r : Int)) dX8_y_10 (by decide) (by omega) (by omega) (fun c_10 => ?_) (fun c_10 => ?_)
    · skip
      refine j_iconst SS dX8_y_22 ?_
      exact W.iret SS.1 SS.2.1 hr (fun t0 ht hW => ⟨_, rfl, ⟨0, rfl, (by have e : ∀ z : Int, z = ry9 u r i → z = ry9 u r i ∧ ∀ K : Int, 0 ≤ K → RB K u r → -K ≤ z ∧ z ≤ K := (fun z hz => ⟨hz, fun K h0 hB => by rw [hz]; exact ry9_b h0 hB⟩); exact e _ (by unfold ry9; first | rw [if_pos (by omega)] | rw [if_neg (by omega)]))⟩, ht⟩) (fun _ h => nomatch h) dX8_y_23 hlk
    · skip
      refine lv_aload_n SS.1 SS.2.1 dX8_y_13 rfl (lv_at hl 0 rfl) ?_
      refine j_get SS hG hP (9 + 5 * r) (v := .ref (q (11 + 5 * r))) (C := RX7) (T := TX7) (N := 3) (cw_ring (by omega)) rfl inX7 1 (by decide) (ref := "GridPolygons$Row") kw_130 rfl rfl dX8_y_14 ?_
      refine lv_iload_n SS.1 SS.2.1 dX8_y_17 rfl (lv_at hl 1 rfl) ?_
      refine j_iald SS hG hP (11 + 5 * r) (n := rl r) (f := (u.1.2.1 r)) (cw_ys (by omega)) (z := i) (by omega) (by omega) dX8_y_18 ?_
      refine lv_goto (tgt := 23) SS.1 SS.2.1 dX8_y_19 (by decide) ?_
      exact W.iret SS.1 SS.2.1 hr (fun t0 ht hW => ⟨_, rfl, ⟨((u.1.2.1 r) (i).toNat), rfl, (by have e : ∀ z : Int, z = ry9 u r i → z = ry9 u r i ∧ ∀ K : Int, 0 ≤ K → RB K u r → -K ≤ z ∧ z ≤ K := (fun z hz => ⟨hz, fun K h0 hB => by rw [hz]; exact ry9_b h0 hB⟩); exact e _ (by unfold ry9; first | rw [if_pos (by omega)] | rw [if_neg (by omega)]))⟩, ht⟩) (fun _ h => nomatch h) dX8_y_23 hlk

set_option maxHeartbeats 4000000 in
set_option maxRecDepth 100000 in
theorem c_X8_yP (l : Launch) (D : JD) (q : Nat → Nat) (u : CS) (r : Nat) (hr : r = 9 ∨ r = 10) (i : Int) (p0 : -2147483648 ≤ i ∧ i ≤ 2147483647) : Met l yX8_y (jw yX8_y cX8_y 2 (some .int)) (jr 0 0) (jP [.ref (q (9 + 5 * r)), .int (J i)] D (fun H => va_P D.1 j_cl (cW D q u) H)) (jRi (fun z => z = ry9 u r i ∧ ∀ K : Int, 0 ≤ K → RB K u r → -K ≤ z ∧ z ≤ K)) 0 0 (fun _ => False) := by
  refine Met.ofW (cc := cX8_y) (maxL := 2) (ret := (some .int)) (by decide) rfl ?_
  intro pr en st mi args below meth co s₁ B hml hv
  obtain ⟨rfl, hG, hP⟩ := hv
  have hr := B.returns
  have hlk := B.notSynchronized
  have SS : jS pr mi co cX8_y 2 st _ RX8 := ⟨B.exec, B.bytes, hml, findClass_of_methodNamed B.named, fun w hw => atoms_spec (ws := (jw yX8_y cX8_y 2 (some .int))) B.pre w (List.mem_cons_of_mem _ hw)⟩
  have hl := lv_entry ([.ref (q (9 + 5 * r)), .int (J i)]) (n := 2) (Nat.le_of_ble_eq_true rfl)
  rw [lg_entry_eq]
  generalize (lg_sl ([.ref (q (9 + 5 * r)), .int (J i)]) ++ List.replicate (2 - (lg_sl ([.ref (q (9 + 5 * r)), .int (J i)])).length) Slot.unset).toArray = ls at hl ⊢
  have hl : lv_has ls 2 [(0, .ref (q (9 + 5 * r))), (1, .int (J i))] := hl
  have hrl := rl_b r
  refine lv_iload_n SS.1 SS.2.1 dX8_y_0 rfl (lv_at hl 1 rfl) ?_
  refine j_if_lt SS (tgt := 22) (x := i) dX8_y_1 (by decide) (by omega) (fun c_1 => ?_) (fun c_1 => ?_)
  · skip
    refine j_iconst SS dX8_y_22 ?_
    exact W.iret SS.1 SS.2.1 hr (fun t0 ht hW => ⟨_, rfl, ⟨0, rfl, (by have e : ∀ z : Int, z = ry9 u r i → z = ry9 u r i ∧ ∀ K : Int, 0 ≤ K → RB K u r → -K ≤ z ∧ z ≤ K := (fun z hz => ⟨hz, fun K h0 hB => by rw [hz]; exact ry9_b h0 hB⟩); exact e _ (by unfold ry9; first | rw [if_pos (by omega)] | rw [if_neg (by omega)]))⟩, ht⟩) (fun _ h => nomatch h) dX8_y_23 hlk
  · skip
    refine lv_iload_n SS.1 SS.2.1 dX8_y_4 rfl (lv_at hl 1 rfl) ?_
    refine lv_aload_n SS.1 SS.2.1 dX8_y_5 rfl (lv_at hl 0 rfl) ?_
    refine j_get SS hG hP (9 + 5 * r) (v := .ref (q (11 + 5 * r))) (C := RX6) (T := TX6) (N := 3) (cw_pts (by omega)) rfl inX6 1 (by decide) (ref := "GridPolygons$Row") kw_130 rfl rfl dX8_y_6 ?_
    refine va_alen SS.1 SS.2.1 hG.1 hP (11 + 5 * r) 0 (cw_ys (by omega)) rfl (v := J (rl r : Int)) (by first | rfl | exact J_nat _) dX8_y_9 ?_
    refine j_icmp_ge SS (tgt := 22) (x := i) (y := (rl r : Int)) dX8_y_10 (by decide) (by omega) (by omega) (fun c_10 => ?_) (fun c_10 => ?_)
    · skip
      refine j_iconst SS dX8_y_22 ?_
      exact W.iret SS.1 SS.2.1 hr (fun t0 ht hW => ⟨_, rfl, ⟨0, rfl, (by have e : ∀ z : Int, z = ry9 u r i → z = ry9 u r i ∧ ∀ K : Int, 0 ≤ K → RB K u r → -K ≤ z ∧ z ≤ K := (fun z hz => ⟨hz, fun K h0 hB => by rw [hz]; exact ry9_b h0 hB⟩); exact e _ (by unfold ry9; first | rw [if_pos (by omega)] | rw [if_neg (by omega)]))⟩, ht⟩) (fun _ h => nomatch h) dX8_y_23 hlk
    · skip
      refine lv_aload_n SS.1 SS.2.1 dX8_y_13 rfl (lv_at hl 0 rfl) ?_
      refine j_get SS hG hP (9 + 5 * r) (v := .ref (q (11 + 5 * r))) (C := RX6) (T := TX6) (N := 3) (cw_pts (by omega)) rfl inX6 1 (by decide) (ref := "GridPolygons$Row") kw_130 rfl rfl dX8_y_14 ?_
      refine lv_iload_n SS.1 SS.2.1 dX8_y_17 rfl (lv_at hl 1 rfl) ?_
      refine j_iald SS hG hP (11 + 5 * r) (n := rl r) (f := (u.1.2.1 r)) (cw_ys (by omega)) (z := i) (by omega) (by omega) dX8_y_18 ?_
      refine lv_goto (tgt := 23) SS.1 SS.2.1 dX8_y_19 (by decide) ?_
      exact W.iret SS.1 SS.2.1 hr (fun t0 ht hW => ⟨_, rfl, ⟨((u.1.2.1 r) (i).toNat), rfl, (by have e : ∀ z : Int, z = ry9 u r i → z = ry9 u r i ∧ ∀ K : Int, 0 ≤ K → RB K u r → -K ≤ z ∧ z ≤ K := (fun z hz => ⟨hz, fun K h0 hB => by rw [hz]; exact ry9_b h0 hB⟩); exact e _ (by unfold ry9; first | rw [if_pos (by omega)] | rw [if_neg (by omega)]))⟩, ht⟩) (fun _ h => nomatch h) dX8_y_23 hlk

set_option maxHeartbeats 4000000 in
set_option maxRecDepth 100000 in
theorem c_X8_append (l : Launch) (D : JD) (q : Nat → Nat) (u : CS) (A : Nat → Prop) (hD : va_D A (cW D q u)) (r : Nat) (hr : r ≤ 8) (a : Int) (b : Int) (p0 : 0 ≤ u.1.2.2.1 r ∧ u.1.2.2.1 r ≤ rl r) : Met l yX8_append (jw yX8_append cX8_append 3 none) (jr 0 0) (jP [.ref (q (9 + 5 * r)), .int (J a), .int (J b)] D (fun H => va_P D.1 j_cl (cW D q u) H)) (jWv (fun u' => ∃ f : Nat → Int, ∃ g : Nat → Int, ∃ n : Int, u' = (sY (sX (sC u r n) r f) r g) ∧ ((u.1.2.2.1 r < rl r ∧ f = upI (u.1.1 r) (u.1.2.2.1 r).toNat a ∧ g = upI (u.1.2.1 r) (u.1.2.2.1 r).toNat b ∧ n = u.1.2.2.1 r + 1) ∨ (rl r ≤ u.1.2.2.1 r ∧ f = u.1.1 r ∧ g = u.1.2.1 r ∧ n = u.1.2.2.1 r))) (fun u' H => va_P D.1 j_cl (cW D q u') H) A) 0 0 A := by
  refine Met.ofW (cc := cX8_append) (maxL := 3) (ret := none) (by decide) rfl ?_
  intro pr en st mi args below meth co s₁ B hml hv
  obtain ⟨rfl, hG, hP⟩ := hv
  have hr := B.returns
  have hlk := B.notSynchronized
  have SS : jS pr mi co cX8_append 3 st _ RX8 := ⟨B.exec, B.bytes, hml, findClass_of_methodNamed B.named, fun w hw => atoms_spec (ws := (jw yX8_append cX8_append 3 none)) B.pre w (List.mem_cons_of_mem _ hw)⟩
  have hl := lv_entry ([.ref (q (9 + 5 * r)), .int (J a), .int (J b)]) (n := 3) (Nat.le_of_ble_eq_true rfl)
  rw [lg_entry_eq]
  generalize (lg_sl ([.ref (q (9 + 5 * r)), .int (J a), .int (J b)]) ++ List.replicate (3 - (lg_sl ([.ref (q (9 + 5 * r)), .int (J a), .int (J b)])).length) Slot.unset).toArray = ls at hl ⊢
  have hl : lv_has ls 3 [(0, .ref (q (9 + 5 * r))), (1, .int (J a)), (2, .int (J b))] := hl
  have hS : va_S A st.heap st.heap [] := va_S.rf
  have hrl := rl_b r
  refine lv_aload_n SS.1 SS.2.1 dX8_append_0 rfl (lv_at hl 0 rfl) ?_
  refine j_get SS hG hP (9 + 5 * r) (v := .int (J (u.1.2.2.1 r))) (C := RX7) (T := TX7) (N := 3) (cw_ring (by omega)) rfl inX7 2 (by decide) (ref := "GridPolygons$Row") kw_140 rfl rfl dX8_append_1 ?_
  refine j_if_lt SS (tgt := 61) (x := (u.1.2.2.1 r)) dX8_append_4 (by decide) (by omega) (fun c_4 => ?_) (fun c_4 => ?_)
  · skip
    exact W.vret SS.1 SS.2.1 hr (fun t0 ht hW => ⟨⟨(sY (sX (sC u r (u.1.2.2.1 r)) r (u.1.1 r)) r (u.1.2.1 r)), rfl, (⟨(u.1.1 r), (u.1.2.1 r), (u.1.2.2.1 r), rfl, by first | exact Or.inl ⟨by omega, rfl, rfl, rfl⟩ | exact Or.inr ⟨by omega, rfl, rfl, rfl⟩⟩), by show va_P D.1 j_cl (cW D q (sY (sX (sC u r (u.1.2.2.1 r)) r (u.1.1 r)) r (u.1.2.1 r))) t0.heap; rw [ht]; first | exact hP | (simp only [sC_id, sX_id, sY_id, sH_id, sT_id, sV_id]; exact hP)⟩, hS.F ht⟩) hS.2.2 dX8_append_61 hlk
  · skip
    refine lv_aload_n SS.1 SS.2.1 dX8_append_7 rfl (lv_at hl 0 rfl) ?_
    refine j_get SS hG hP (9 + 5 * r) (v := .int (J (u.1.2.2.1 r))) (C := RX7) (T := TX7) (N := 3) (cw_ring (by omega)) rfl inX7 2 (by decide) (ref := "GridPolygons$Row") kw_140 rfl rfl dX8_append_8 ?_
    refine lv_aload_n SS.1 SS.2.1 dX8_append_11 rfl (lv_at hl 0 rfl) ?_
    refine j_get SS hG hP (9 + 5 * r) (v := .ref (q (10 + 5 * r))) (C := RX7) (T := TX7) (N := 3) (cw_ring (by omega)) rfl inX7 0 (by decide) (ref := "GridPolygons$Row") kw_129 rfl rfl dX8_append_12 ?_
    refine va_alen SS.1 SS.2.1 hG.1 hP (10 + 5 * r) 0 (cw_xs (by omega)) rfl (v := J (rl r : Int)) (by first | rfl | exact J_nat _) dX8_append_15 ?_
    refine j_icmp_ge SS (tgt := 61) (x := (u.1.2.2.1 r)) (y := (rl r : Int)) dX8_append_16 (by decide) (by omega) (by omega) (fun c_16 => ?_) (fun c_16 => ?_)
    · skip
      exact W.vret SS.1 SS.2.1 hr (fun t0 ht hW => ⟨⟨(sY (sX (sC u r (u.1.2.2.1 r)) r (u.1.1 r)) r (u.1.2.1 r)), rfl, (⟨(u.1.1 r), (u.1.2.1 r), (u.1.2.2.1 r), rfl, by first | exact Or.inl ⟨by omega, rfl, rfl, rfl⟩ | exact Or.inr ⟨by omega, rfl, rfl, rfl⟩⟩), by show va_P D.1 j_cl (cW D q (sY (sX (sC u r (u.1.2.2.1 r)) r (u.1.1 r)) r (u.1.2.1 r))) t0.heap; rw [ht]; first | exact hP | (simp only [sC_id, sX_id, sY_id, sH_id, sT_id, sV_id]; exact hP)⟩, hS.F ht⟩) hS.2.2 dX8_append_61 hlk
    · skip
      refine lv_aload_n SS.1 SS.2.1 dX8_append_19 rfl (lv_at hl 0 rfl) ?_
      refine j_get SS hG hP (9 + 5 * r) (v := .int (J (u.1.2.2.1 r))) (C := RX7) (T := TX7) (N := 3) (cw_ring (by omega)) rfl inX7 2 (by decide) (ref := "GridPolygons$Row") kw_140 rfl rfl dX8_append_20 ?_
      refine lv_aload_n SS.1 SS.2.1 dX8_append_23 rfl (lv_at hl 0 rfl) ?_
      refine j_get SS hG hP (9 + 5 * r) (v := .ref (q (11 + 5 * r))) (C := RX7) (T := TX7) (N := 3) (cw_ring (by omega)) rfl inX7 1 (by decide) (ref := "GridPolygons$Row") kw_130 rfl rfl dX8_append_24 ?_
      refine va_alen SS.1 SS.2.1 hG.1 hP (11 + 5 * r) 0 (cw_ys (by omega)) rfl (v := J (rl r : Int)) (by first | rfl | exact J_nat _) dX8_append_27 ?_
      refine j_icmp_ge SS (tgt := 61) (x := (u.1.2.2.1 r)) (y := (rl r : Int)) dX8_append_28 (by decide) (by omega) (by omega) (fun c_28 => ?_) (fun c_28 => ?_)
      · skip
        exact W.vret SS.1 SS.2.1 hr (fun t0 ht hW => ⟨⟨(sY (sX (sC u r (u.1.2.2.1 r)) r (u.1.1 r)) r (u.1.2.1 r)), rfl, (⟨(u.1.1 r), (u.1.2.1 r), (u.1.2.2.1 r), rfl, by first | exact Or.inl ⟨by omega, rfl, rfl, rfl⟩ | exact Or.inr ⟨by omega, rfl, rfl, rfl⟩⟩), by show va_P D.1 j_cl (cW D q (sY (sX (sC u r (u.1.2.2.1 r)) r (u.1.1 r)) r (u.1.2.1 r))) t0.heap; rw [ht]; first | exact hP | (simp only [sC_id, sX_id, sY_id, sH_id, sT_id, sV_id]; exact hP)⟩, hS.F ht⟩) hS.2.2 dX8_append_61 hlk
      · skip
        refine lv_aload_n SS.1 SS.2.1 dX8_append_31 rfl (lv_at hl 0 rfl) ?_
        refine j_get SS hG hP (9 + 5 * r) (v := .ref (q (10 + 5 * r))) (C := RX7) (T := TX7) (N := 3) (cw_ring (by omega)) rfl inX7 0 (by decide) (ref := "GridPolygons$Row") kw_129 rfl rfl dX8_append_32 ?_
        refine lv_aload_n SS.1 SS.2.1 dX8_append_35 rfl (lv_at hl 0 rfl) ?_
        refine j_get SS hG hP (9 + 5 * r) (v := .int (J (u.1.2.2.1 r))) (C := RX7) (T := TX7) (N := 3) (cw_ring (by omega)) rfl inX7 2 (by decide) (ref := "GridPolygons$Row") kw_140 rfl rfl dX8_append_36 ?_
        refine lv_iload_n SS.1 SS.2.1 dX8_append_39 rfl (lv_at hl 1 rfl) ?_
        refine j_iast SS hG hP (cW_D hD) hS (10 + 5 * r) (n := rl r) (f := (u.1.1 r)) (cw_xs (by omega)) (z := (u.1.2.2.1 r)) (v := a) (by omega) (by omega) dX8_append_40 (ws' := (cW D q (sX u r (upI (u.1.1 r) ((u.1.2.2.1 r)).toNat a)))) (cs_xs (by omega)) (fun H locs hP hS => ?_)
        refine lv_aload_n SS.1 SS.2.1 dX8_append_41 rfl (lv_at hl 0 rfl) ?_
        refine j_get SS hG hP (9 + 5 * r) (v := .ref (q (11 + 5 * r))) (C := RX7) (T := TX7) (N := 3) (cw_ring (by omega)) rfl inX7 1 (by decide) (ref := "GridPolygons$Row") kw_130 rfl rfl dX8_append_42 ?_
        refine lv_aload_n SS.1 SS.2.1 dX8_append_45 rfl (lv_at hl 0 rfl) ?_
        refine j_get SS hG hP (9 + 5 * r) (v := .int (J (u.1.2.2.1 r))) (C := RX7) (T := TX7) (N := 3) (cw_ring (by omega)) rfl inX7 2 (by decide) (ref := "GridPolygons$Row") kw_140 rfl rfl dX8_append_46 ?_
        refine lv_iload_n SS.1 SS.2.1 dX8_append_49 rfl (lv_at hl 2 rfl) ?_
        refine j_iast SS hG hP (cW_D hD) hS (11 + 5 * r) (n := rl r) (f := (u.1.2.1 r)) (cw_ys (by omega)) (z := (u.1.2.2.1 r)) (v := b) (by omega) (by omega) dX8_append_50 (ws' := (cW D q (sY (sX u r (upI (u.1.1 r) ((u.1.2.2.1 r)).toNat a)) r (upI (u.1.2.1 r) ((u.1.2.2.1 r)).toNat b)))) (cs_ys (by omega)) (fun H locs hP hS => ?_)
        refine lv_aload_n SS.1 SS.2.1 dX8_append_51 rfl (lv_at hl 0 rfl) ?_
        refine lv_dup SS.1 SS.2.1 dX8_append_52 rfl ?_
        refine j_get SS hG hP (9 + 5 * r) (v := .int (J (u.1.2.2.1 r))) (C := RX7) (T := TX7) (N := 3) (cw_ring (by omega)) rfl inX7 2 (by decide) (ref := "GridPolygons$Row") kw_140 rfl rfl dX8_append_53 ?_
        refine j_iconst SS dX8_append_56 ?_
        refine j_iadd SS (x := (u.1.2.2.1 r)) (y := 1) dX8_append_57 ?_
        refine j_put SS hG hP (cW_D hD) hS (9 + 5 * r) (v := .int (J ((u.1.2.2.1 r) + 1))) (ty := .int) (C := RX7) (T := TX7) (N := 3) (cw_ring (by omega)) rfl inX7 tyX7 tyX7_ok nmX7 2 (by decide) (ref := "GridPolygons$Row") kw_140 rfl rfl (by decide +kernel) rfl rfl (Nat.le_of_ble_eq_true rfl) dX8_append_58 (ws' := (cW D q (sY (sX (sC u r ((u.1.2.2.1 r) + 1)) r (upI (u.1.1 r) ((u.1.2.2.1 r)).toNat a)) r (upI (u.1.2.1 r) ((u.1.2.2.1 r)).toNat b)))) (cs_ring (by omega)) (fun H locs hP hS => ?_)
        exact W.vret SS.1 SS.2.1 hr (fun t0 ht hW => ⟨⟨(sY (sX (sC u r ((u.1.2.2.1 r) + 1)) r (upI (u.1.1 r) ((u.1.2.2.1 r)).toNat a)) r (upI (u.1.2.1 r) ((u.1.2.2.1 r)).toNat b)), rfl, (⟨(upI (u.1.1 r) ((u.1.2.2.1 r)).toNat a), (upI (u.1.2.1 r) ((u.1.2.2.1 r)).toNat b), ((u.1.2.2.1 r) + 1), rfl, by first | exact Or.inl ⟨by omega, rfl, rfl, rfl⟩ | exact Or.inr ⟨by omega, rfl, rfl, rfl⟩⟩), by show va_P D.1 j_cl (cW D q (sY (sX (sC u r ((u.1.2.2.1 r) + 1)) r (upI (u.1.1 r) ((u.1.2.2.1 r)).toNat a)) r (upI (u.1.2.1 r) ((u.1.2.2.1 r)).toNat b))) t0.heap; rw [ht]; first | exact hP | (simp only [sC_id, sX_id, sY_id, sH_id, sT_id, sV_id]; exact hP)⟩, hS.F ht⟩) hS.2.2 dX8_append_61 hlk

set_option maxHeartbeats 4000000 in
set_option maxRecDepth 100000 in
theorem c_X8_appendP (l : Launch) (D : JD) (q : Nat → Nat) (u : CS) (A : Nat → Prop) (hD : va_D A (cW D q u)) (r : Nat) (hr : r = 9 ∨ r = 10) (a : Int) (b : Int) (p0 : 0 ≤ u.1.2.2.1 r ∧ u.1.2.2.1 r ≤ rl r) : Met l yX8_append (jw yX8_append cX8_append 3 none) (jr 0 0) (jP [.ref (q (9 + 5 * r)), .int (J a), .int (J b)] D (fun H => va_P D.1 j_cl (cW D q u) H)) (jWv (fun u' => ∃ f : Nat → Int, ∃ g : Nat → Int, ∃ n : Int, u' = (sY (sX (sC u r n) r f) r g) ∧ ((u.1.2.2.1 r < rl r ∧ f = upI (u.1.1 r) (u.1.2.2.1 r).toNat a ∧ g = upI (u.1.2.1 r) (u.1.2.2.1 r).toNat b ∧ n = u.1.2.2.1 r + 1) ∨ (rl r ≤ u.1.2.2.1 r ∧ f = u.1.1 r ∧ g = u.1.2.1 r ∧ n = u.1.2.2.1 r))) (fun u' H => va_P D.1 j_cl (cW D q u') H) A) 0 0 A := by
  refine Met.ofW (cc := cX8_append) (maxL := 3) (ret := none) (by decide) rfl ?_
  intro pr en st mi args below meth co s₁ B hml hv
  obtain ⟨rfl, hG, hP⟩ := hv
  have hr := B.returns
  have hlk := B.notSynchronized
  have SS : jS pr mi co cX8_append 3 st _ RX8 := ⟨B.exec, B.bytes, hml, findClass_of_methodNamed B.named, fun w hw => atoms_spec (ws := (jw yX8_append cX8_append 3 none)) B.pre w (List.mem_cons_of_mem _ hw)⟩
  have hl := lv_entry ([.ref (q (9 + 5 * r)), .int (J a), .int (J b)]) (n := 3) (Nat.le_of_ble_eq_true rfl)
  rw [lg_entry_eq]
  generalize (lg_sl ([.ref (q (9 + 5 * r)), .int (J a), .int (J b)]) ++ List.replicate (3 - (lg_sl ([.ref (q (9 + 5 * r)), .int (J a), .int (J b)])).length) Slot.unset).toArray = ls at hl ⊢
  have hl : lv_has ls 3 [(0, .ref (q (9 + 5 * r))), (1, .int (J a)), (2, .int (J b))] := hl
  have hS : va_S A st.heap st.heap [] := va_S.rf
  have hrl := rl_b r
  refine lv_aload_n SS.1 SS.2.1 dX8_append_0 rfl (lv_at hl 0 rfl) ?_
  refine j_get SS hG hP (9 + 5 * r) (v := .int (J (u.1.2.2.1 r))) (C := RX6) (T := TX6) (N := 3) (cw_pts (by omega)) rfl inX6 2 (by decide) (ref := "GridPolygons$Row") kw_140 rfl rfl dX8_append_1 ?_
  refine j_if_lt SS (tgt := 61) (x := (u.1.2.2.1 r)) dX8_append_4 (by decide) (by omega) (fun c_4 => ?_) (fun c_4 => ?_)
  · skip
    exact W.vret SS.1 SS.2.1 hr (fun t0 ht hW => ⟨⟨(sY (sX (sC u r (u.1.2.2.1 r)) r (u.1.1 r)) r (u.1.2.1 r)), rfl, (⟨(u.1.1 r), (u.1.2.1 r), (u.1.2.2.1 r), rfl, by first | exact Or.inl ⟨by omega, rfl, rfl, rfl⟩ | exact Or.inr ⟨by omega, rfl, rfl, rfl⟩⟩), by show va_P D.1 j_cl (cW D q (sY (sX (sC u r (u.1.2.2.1 r)) r (u.1.1 r)) r (u.1.2.1 r))) t0.heap; rw [ht]; first | exact hP | (simp only [sC_id, sX_id, sY_id, sH_id, sT_id, sV_id]; exact hP)⟩, hS.F ht⟩) hS.2.2 dX8_append_61 hlk
  · skip
    refine lv_aload_n SS.1 SS.2.1 dX8_append_7 rfl (lv_at hl 0 rfl) ?_
    refine j_get SS hG hP (9 + 5 * r) (v := .int (J (u.1.2.2.1 r))) (C := RX6) (T := TX6) (N := 3) (cw_pts (by omega)) rfl inX6 2 (by decide) (ref := "GridPolygons$Row") kw_140 rfl rfl dX8_append_8 ?_
    refine lv_aload_n SS.1 SS.2.1 dX8_append_11 rfl (lv_at hl 0 rfl) ?_
    refine j_get SS hG hP (9 + 5 * r) (v := .ref (q (10 + 5 * r))) (C := RX6) (T := TX6) (N := 3) (cw_pts (by omega)) rfl inX6 0 (by decide) (ref := "GridPolygons$Row") kw_129 rfl rfl dX8_append_12 ?_
    refine va_alen SS.1 SS.2.1 hG.1 hP (10 + 5 * r) 0 (cw_xs (by omega)) rfl (v := J (rl r : Int)) (by first | rfl | exact J_nat _) dX8_append_15 ?_
    refine j_icmp_ge SS (tgt := 61) (x := (u.1.2.2.1 r)) (y := (rl r : Int)) dX8_append_16 (by decide) (by omega) (by omega) (fun c_16 => ?_) (fun c_16 => ?_)
    · skip
      exact W.vret SS.1 SS.2.1 hr (fun t0 ht hW => ⟨⟨(sY (sX (sC u r (u.1.2.2.1 r)) r (u.1.1 r)) r (u.1.2.1 r)), rfl, (⟨(u.1.1 r), (u.1.2.1 r), (u.1.2.2.1 r), rfl, by first | exact Or.inl ⟨by omega, rfl, rfl, rfl⟩ | exact Or.inr ⟨by omega, rfl, rfl, rfl⟩⟩), by show va_P D.1 j_cl (cW D q (sY (sX (sC u r (u.1.2.2.1 r)) r (u.1.1 r)) r (u.1.2.1 r))) t0.heap; rw [ht]; first | exact hP | (simp only [sC_id, sX_id, sY_id, sH_id, sT_id, sV_id]; exact hP)⟩, hS.F ht⟩) hS.2.2 dX8_append_61 hlk
    · skip
      refine lv_aload_n SS.1 SS.2.1 dX8_append_19 rfl (lv_at hl 0 rfl) ?_
      refine j_get SS hG hP (9 + 5 * r) (v := .int (J (u.1.2.2.1 r))) (C := RX6) (T := TX6) (N := 3) (cw_pts (by omega)) rfl inX6 2 (by decide) (ref := "GridPolygons$Row") kw_140 rfl rfl dX8_append_20 ?_
      refine lv_aload_n SS.1 SS.2.1 dX8_append_23 rfl (lv_at hl 0 rfl) ?_
      refine j_get SS hG hP (9 + 5 * r) (v := .ref (q (11 + 5 * r))) (C := RX6) (T := TX6) (N := 3) (cw_pts (by omega)) rfl inX6 1 (by decide) (ref := "GridPolygons$Row") kw_130 rfl rfl dX8_append_24 ?_
      refine va_alen SS.1 SS.2.1 hG.1 hP (11 + 5 * r) 0 (cw_ys (by omega)) rfl (v := J (rl r : Int)) (by first | rfl | exact J_nat _) dX8_append_27 ?_
      refine j_icmp_ge SS (tgt := 61) (x := (u.1.2.2.1 r)) (y := (rl r : Int)) dX8_append_28 (by decide) (by omega) (by omega) (fun c_28 => ?_) (fun c_28 => ?_)
      · skip
        exact W.vret SS.1 SS.2.1 hr (fun t0 ht hW => ⟨⟨(sY (sX (sC u r (u.1.2.2.1 r)) r (u.1.1 r)) r (u.1.2.1 r)), rfl, (⟨(u.1.1 r), (u.1.2.1 r), (u.1.2.2.1 r), rfl, by first | exact Or.inl ⟨by omega, rfl, rfl, rfl⟩ | exact Or.inr ⟨by omega, rfl, rfl, rfl⟩⟩), by show va_P D.1 j_cl (cW D q (sY (sX (sC u r (u.1.2.2.1 r)) r (u.1.1 r)) r (u.1.2.1 r))) t0.heap; rw [ht]; first | exact hP | (simp only [sC_id, sX_id, sY_id, sH_id, sT_id, sV_id]; exact hP)⟩, hS.F ht⟩) hS.2.2 dX8_append_61 hlk
      · skip
        refine lv_aload_n SS.1 SS.2.1 dX8_append_31 rfl (lv_at hl 0 rfl) ?_
        refine j_get SS hG hP (9 + 5 * r) (v := .ref (q (10 + 5 * r))) (C := RX6) (T := TX6) (N := 3) (cw_pts (by omega)) rfl inX6 0 (by decide) (ref := "GridPolygons$Row") kw_129 rfl rfl dX8_append_32 ?_
        refine lv_aload_n SS.1 SS.2.1 dX8_append_35 rfl (lv_at hl 0 rfl) ?_
        refine j_get SS hG hP (9 + 5 * r) (v := .int (J (u.1.2.2.1 r))) (C := RX6) (T := TX6) (N := 3) (cw_pts (by omega)) rfl inX6 2 (by decide) (ref := "GridPolygons$Row") kw_140 rfl rfl dX8_append_36 ?_
        refine lv_iload_n SS.1 SS.2.1 dX8_append_39 rfl (lv_at hl 1 rfl) ?_
        refine j_iast SS hG hP (cW_D hD) hS (10 + 5 * r) (n := rl r) (f := (u.1.1 r)) (cw_xs (by omega)) (z := (u.1.2.2.1 r)) (v := a) (by omega) (by omega) dX8_append_40 (ws' := (cW D q (sX u r (upI (u.1.1 r) ((u.1.2.2.1 r)).toNat a)))) (cs_xs (by omega)) (fun H locs hP hS => ?_)
        refine lv_aload_n SS.1 SS.2.1 dX8_append_41 rfl (lv_at hl 0 rfl) ?_
        refine j_get SS hG hP (9 + 5 * r) (v := .ref (q (11 + 5 * r))) (C := RX6) (T := TX6) (N := 3) (cw_pts (by omega)) rfl inX6 1 (by decide) (ref := "GridPolygons$Row") kw_130 rfl rfl dX8_append_42 ?_
        refine lv_aload_n SS.1 SS.2.1 dX8_append_45 rfl (lv_at hl 0 rfl) ?_
        refine j_get SS hG hP (9 + 5 * r) (v := .int (J (u.1.2.2.1 r))) (C := RX6) (T := TX6) (N := 3) (cw_pts (by omega)) rfl inX6 2 (by decide) (ref := "GridPolygons$Row") kw_140 rfl rfl dX8_append_46 ?_
        refine lv_iload_n SS.1 SS.2.1 dX8_append_49 rfl (lv_at hl 2 rfl) ?_
        refine j_iast SS hG hP (cW_D hD) hS (11 + 5 * r) (n := rl r) (f := (u.1.2.1 r)) (cw_ys (by omega)) (z := (u.1.2.2.1 r)) (v := b) (by omega) (by omega) dX8_append_50 (ws' := (cW D q (sY (sX u r (upI (u.1.1 r) ((u.1.2.2.1 r)).toNat a)) r (upI (u.1.2.1 r) ((u.1.2.2.1 r)).toNat b)))) (cs_ys (by omega)) (fun H locs hP hS => ?_)
        refine lv_aload_n SS.1 SS.2.1 dX8_append_51 rfl (lv_at hl 0 rfl) ?_
        refine lv_dup SS.1 SS.2.1 dX8_append_52 rfl ?_
        refine j_get SS hG hP (9 + 5 * r) (v := .int (J (u.1.2.2.1 r))) (C := RX6) (T := TX6) (N := 3) (cw_pts (by omega)) rfl inX6 2 (by decide) (ref := "GridPolygons$Row") kw_140 rfl rfl dX8_append_53 ?_
        refine j_iconst SS dX8_append_56 ?_
        refine j_iadd SS (x := (u.1.2.2.1 r)) (y := 1) dX8_append_57 ?_
        refine j_put SS hG hP (cW_D hD) hS (9 + 5 * r) (v := .int (J ((u.1.2.2.1 r) + 1))) (ty := .int) (C := RX6) (T := TX6) (N := 3) (cw_pts (by omega)) rfl inX6 tyX6 tyX6_ok nmX6 2 (by decide) (ref := "GridPolygons$Row") kw_140 rfl rfl (by decide +kernel) rfl rfl (Nat.le_of_ble_eq_true rfl) dX8_append_58 (ws' := (cW D q (sY (sX (sC u r ((u.1.2.2.1 r) + 1)) r (upI (u.1.1 r) ((u.1.2.2.1 r)).toNat a)) r (upI (u.1.2.1 r) ((u.1.2.2.1 r)).toNat b)))) (cs_pts (by omega)) (fun H locs hP hS => ?_)
        exact W.vret SS.1 SS.2.1 hr (fun t0 ht hW => ⟨⟨(sY (sX (sC u r ((u.1.2.2.1 r) + 1)) r (upI (u.1.1 r) ((u.1.2.2.1 r)).toNat a)) r (upI (u.1.2.1 r) ((u.1.2.2.1 r)).toNat b)), rfl, (⟨(upI (u.1.1 r) ((u.1.2.2.1 r)).toNat a), (upI (u.1.2.1 r) ((u.1.2.2.1 r)).toNat b), ((u.1.2.2.1 r) + 1), rfl, by first | exact Or.inl ⟨by omega, rfl, rfl, rfl⟩ | exact Or.inr ⟨by omega, rfl, rfl, rfl⟩⟩), by show va_P D.1 j_cl (cW D q (sY (sX (sC u r ((u.1.2.2.1 r) + 1)) r (upI (u.1.1 r) ((u.1.2.2.1 r)).toNat a)) r (upI (u.1.2.1 r) ((u.1.2.2.1 r)).toNat b))) t0.heap; rw [ht]; first | exact hP | (simp only [sC_id, sX_id, sY_id, sH_id, sT_id, sV_id]; exact hP)⟩, hS.F ht⟩) hS.2.2 dX8_append_61 hlk

set_option maxHeartbeats 4000000 in
set_option maxRecDepth 100000 in
theorem c_X7_isPolygon (l : Launch) (D : JD) (q : Nat → Nat) (u : CS) (r : Nat) (hr : r ≤ 8) (K : Int) (p0 : 0 ≤ K ∧ K ≤ 80) (p1 : RB K u r) : Met l yX7_isPolygon (jw yX7_isPolygon cX7_isPolygon 1 (some .boolean)) (jr 0 0) (jP [.ref (q (9 + 5 * r))] D (fun H => va_P D.1 j_cl (cW D q u) H)) (jRi (fun z => (z = 1 ∧ 3 ≤ u.1.2.2.1 r) ∨ (z = 0 ∧ u.1.2.2.1 r < 3))) 0 0 (fun _ => False) := by
  refine Met.ofW (cc := cX7_isPolygon) (maxL := 1) (ret := (some .boolean)) (by decide) rfl ?_
  intro pr en st mi args below meth co s₁ B hml hv
  obtain ⟨rfl, hG, hP⟩ := hv
  have hr := B.returns
  have hlk := B.notSynchronized
  have SS : jS pr mi co cX7_isPolygon 1 st _ RX7 := ⟨B.exec, B.bytes, hml, findClass_of_methodNamed B.named, fun w hw => atoms_spec (ws := (jw yX7_isPolygon cX7_isPolygon 1 (some .boolean))) B.pre w (List.mem_cons_of_mem _ hw)⟩
  have hl := lv_entry ([.ref (q (9 + 5 * r))]) (n := 1) (Nat.le_of_ble_eq_true rfl)
  rw [lg_entry_eq]
  generalize (lg_sl ([.ref (q (9 + 5 * r))]) ++ List.replicate (1 - (lg_sl ([.ref (q (9 + 5 * r))])).length) Slot.unset).toArray = ls at hl ⊢
  have hl : lv_has ls 1 [(0, .ref (q (9 + 5 * r)))] := hl
  have hc := p1.1
  have hrl := rl_b r
  refine lv_aload_n SS.1 SS.2.1 dX7_isPolygon_0 rfl (lv_at hl 0 rfl) ?_
  refine j_getS SS hG hP (9 + 5 * r) (v := .int (J (u.1.2.2.1 r))) (C := RX7) (T := TX7) (N := 3) (cw_ring (by omega)) rfl inX7 2 (by decide) (ref := "GridPolygons$Ring") kw_131 kw_132 rfl dX7_isPolygon_1 ?_
  refine j_iconst SS dX7_isPolygon_4 ?_
  refine j_icmp_lt SS (tgt := 12) (x := (u.1.2.2.1 r)) (y := 3) dX7_isPolygon_5 (by decide) (by omega) (by decide) (fun c_5 => ?_) (fun c_5 => ?_)
  · skip
    refine j_iconst SS dX7_isPolygon_12 ?_
    exact W.zret SS.1 SS.2.1 hr (j_nz (by decide)) (fun t0 ht hW => ⟨_, rfl, ⟨0, rfl, (by omega)⟩, ht⟩) (fun _ h => nomatch h) dX7_isPolygon_13 hlk
  · skip
    refine j_iconst SS dX7_isPolygon_8 ?_
    refine lv_goto (tgt := 13) SS.1 SS.2.1 dX7_isPolygon_9 (by decide) ?_
    exact W.zret SS.1 SS.2.1 hr (j_nz (by decide)) (fun t0 ht hW => ⟨_, rfl, ⟨1, rfl, (by omega)⟩, ht⟩) (fun _ h => nomatch h) dX7_isPolygon_13 hlk

set_option maxHeartbeats 4000000 in
set_option maxRecDepth 100000 in
theorem c_X7_isOnGrid (l : Launch) (D : JD) (q : Nat → Nat) (u : CS) (r : Nat) (hr : r ≤ 8) (K : Int) (p0 : 0 ≤ K ∧ K ≤ 80) (p1 : RB K u r) : Met l yX7_isOnGrid (jw yX7_isOnGrid cX7_isOnGrid 2 (some .boolean)) (jr 1 21) (jP [.ref (q (9 + 5 * r))] D (fun H => va_P D.1 j_cl (cW D q u) H)) (jRi (fun z => (z = 1 ∧ bd 40 (u.1.1 r) (u.1.2.1 r) (u.1.2.2.1 r)) ∨ (z = 0 ∧ ¬ bd 40 (u.1.1 r) (u.1.2.1 r) (u.1.2.2.1 r)))) 0 0 (fun _ => False) := by
  refine Met.ofW (cc := cX7_isOnGrid) (maxL := 2) (ret := (some .boolean)) (by decide) rfl ?_
  intro pr en st mi args below meth co s₁ B hml hv
  obtain ⟨rfl, hG, hP⟩ := hv
  have hr := B.returns
  have hlk := B.notSynchronized
  have SS : jS pr mi co cX7_isOnGrid 2 st _ RX7 := ⟨B.exec, B.bytes, hml, findClass_of_methodNamed B.named, fun w hw => atoms_spec (ws := (jw yX7_isOnGrid cX7_isOnGrid 2 (some .boolean))) B.pre w (List.mem_cons_of_mem _ hw)⟩
  have hl := lv_entry ([.ref (q (9 + 5 * r))]) (n := 2) (Nat.le_of_ble_eq_true rfl)
  rw [lg_entry_eq]
  generalize (lg_sl ([.ref (q (9 + 5 * r))]) ++ List.replicate (2 - (lg_sl ([.ref (q (9 + 5 * r))])).length) Slot.unset).toArray = ls at hl ⊢
  have hl : lv_has ls 2 [(0, .ref (q (9 + 5 * r)))] := hl
  have hc := p1.1
  have hrl := rl_b r
  refine j_iconst SS dX7_isOnGrid_0 ?_
  refine lv_istore_n (lv' := [(1, .int (J 0)), (0, .ref (q (9 + 5 * r)))]) SS.1 SS.2.1 dX7_isOnGrid_1 rfl hl (by decide) rfl (fun ls hl => ?_)
  have L_2 : ∀ (nn : Nat) (i : Int) (ls : Array Slot) (hl : lv_has ls 2 [(0, .ref (q (9 + 5 * r))), (1, .int (J i))]) (i2_0 : 0 ≤ i ∧ i ≤ u.1.2.2.1 r) (i2_1 : bd 40 (u.1.1 r) (u.1.2.1 r) i), (u.1.2.2.1 r - i).toNat < nn → W pr l en (headSpec (jw yX7_isOnGrid cX7_isOnGrid 2 (some .boolean)) (jr 1 21)).room st mi (([.ref (q (9 + 5 * r))] : List Value).toArray) below meth co st.heap [] 0 0 (MQ below (jRi (fun z => (z = 1 ∧ bd 40 (u.1.1 r) (u.1.2.1 r) (u.1.2.2.1 r)) ∨ (z = 0 ∧ ¬ bd 40 (u.1.1 r) (u.1.2.1 r) (u.1.2.2.1 r)))) (([.ref (q (9 + 5 * r))] : List Value).toArray) st 0 0 (fun _ => False)) (F0 mi 2 ls []) := by
    intro nn
    induction nn with
    | zero => intros; omega
    | succ nn ih_2 =>
      intro i ls hl i2_0 i2_1 hm
      refine lv_iload_n SS.1 SS.2.1 dX7_isOnGrid_2 rfl (lv_at hl 1 rfl) ?_
      refine lv_aload_n SS.1 SS.2.1 dX7_isOnGrid_3 rfl (lv_at hl 0 rfl) ?_
      refine j_getS SS hG hP (9 + 5 * r) (v := .int (J (u.1.2.2.1 r))) (C := RX7) (T := TX7) (N := 3) (cw_ring (by omega)) rfl inX7 2 (by decide) (ref := "GridPolygons$Ring") kw_131 kw_132 rfl dX7_isOnGrid_4 ?_
      refine j_icmp_ge SS (tgt := 40) (x := i) (y := (u.1.2.2.1 r)) dX7_isOnGrid_7 (by decide) (by omega) (by omega) (fun c_7 => ?_) (fun c_7 => ?_)
      · skip
        refine j_iconst SS dX7_isOnGrid_40 ?_
        exact W.zret SS.1 SS.2.1 hr (j_nz (by decide)) (fun t0 ht hW => ⟨_, rfl, ⟨1, rfl, (Or.inl ⟨rfl, by rw [show u.1.2.2.1 r = i by omega]; exact i2_1⟩)⟩, ht⟩) (fun _ h => nomatch h) dX7_isOnGrid_41 hlk
      · skip
        refine lv_aload_n SS.1 SS.2.1 dX7_isOnGrid_10 rfl (lv_at hl 0 rfl) ?_
        refine lv_iload_n SS.1 SS.2.1 dX7_isOnGrid_11 rfl (lv_at hl 1 rfl) ?_
        refine j_uRi SS (As := [.int (J i)]) (rest := []) (c_X8_x l D q u r (by omega) i (show -2147483648 ≤ i ∧ i ≤ 2147483647 from (by omega))) mu_7_x kw_501 hG hP hP (ci := 7) (q0 := (9 + 5 * r)) rfl (cw_ring (by omega)) rfl rfl hl.1 ⟨⟨Nat.le_of_ble_eq_true rfl, Nat.le_of_ble_eq_true rfl⟩, Nat.le_of_ble_eq_true rfl, Nat.le_refl _, Nat.le_refl _⟩ rfl dX7_isOnGrid_12 (fun z_12 h_12 => ?_)
        have h_12 : z_12 = rx u r i ∧ ∀ K : Int, 0 ≤ K → RB K u r → -K ≤ z_12 ∧ z_12 ≤ K := h_12
        have hb_12 := h_12.2 K (by omega) (p1)
        have ex12 : z_12 = u.1.1 r i.toNat := by rw [h_12.1]; unfold rx; rw [if_pos (by omega)]
        refine j_nRi SS (As := [.int (J z_12)]) (rest := []) (c_X11_onGrid l D  z_12 (show -2147483648 ≤ z_12 ∧ z_12 ≤ 2147483647 from (by omega))) mf_X11_onGrid hG.2.1 hG trivial rfl hl.1 ⟨⟨Nat.le_of_ble_eq_true rfl, Nat.le_of_ble_eq_true rfl⟩, Nat.le_of_ble_eq_true rfl, Nat.le_refl _, Nat.le_refl _⟩ rfl dX7_isOnGrid_15 (fun z_15 h_15 => ?_)
        have h_15 : (z_15 = 1 ∧ (-40 ≤ z_12 ∧ z_12 ≤ 40)) ∨ (z_15 = 0 ∧ ¬ (-40 ≤ z_12 ∧ z_12 ≤ 40)) := h_15
        refine j_if_eq SS (tgt := 32) (x := z_15) dX7_isOnGrid_18 (by decide) (by omega) (fun c_18 => ?_) (fun c_18 => ?_)
        · skip
          refine j_iconst SS dX7_isOnGrid_32 ?_
          exact W.zret SS.1 SS.2.1 hr (j_nz (by decide)) (fun t0 ht hW => ⟨_, rfl, ⟨0, rfl, (Or.inr ⟨rfl, fun q => by have q2 := bd_at q (z := i) (by omega) (by omega); first | (rw [ex12] at h_15; omega) | (rw [ex23] at h_26; omega)⟩)⟩, ht⟩) (fun _ h => nomatch h) dX7_isOnGrid_33 hlk
        · skip
          refine lv_aload_n SS.1 SS.2.1 dX7_isOnGrid_21 rfl (lv_at hl 0 rfl) ?_
          refine lv_iload_n SS.1 SS.2.1 dX7_isOnGrid_22 rfl (lv_at hl 1 rfl) ?_
          refine j_uRi SS (As := [.int (J i)]) (rest := []) (c_X8_y l D q u r (by omega) i (show -2147483648 ≤ i ∧ i ≤ 2147483647 from (by omega))) mu_7_y kw_503 hG hP hP (ci := 7) (q0 := (9 + 5 * r)) rfl (cw_ring (by omega)) rfl rfl hl.1 ⟨⟨Nat.le_of_ble_eq_true rfl, Nat.le_of_ble_eq_true rfl⟩, Nat.le_of_ble_eq_true rfl, Nat.le_refl _, Nat.le_refl _⟩ rfl dX7_isOnGrid_23 (fun z_23 h_23 => ?_)
          have h_23 : z_23 = ry9 u r i ∧ ∀ K : Int, 0 ≤ K → RB K u r → -K ≤ z_23 ∧ z_23 ≤ K := h_23
          have hb_23 := h_23.2 K (by omega) (p1)
          have ex23 : z_23 = u.1.2.1 r i.toNat := by rw [h_23.1]; unfold ry9; rw [if_pos (by omega)]
          refine j_nRi SS (As := [.int (J z_23)]) (rest := []) (c_X11_onGrid l D  z_23 (show -2147483648 ≤ z_23 ∧ z_23 ≤ 2147483647 from (by omega))) mf_X11_onGrid hG.2.1 hG trivial rfl hl.1 ⟨⟨Nat.le_of_ble_eq_true rfl, Nat.le_of_ble_eq_true rfl⟩, Nat.le_of_ble_eq_true rfl, Nat.le_refl _, Nat.le_refl _⟩ rfl dX7_isOnGrid_26 (fun z_26 h_26 => ?_)
          have h_26 : (z_26 = 1 ∧ (-40 ≤ z_23 ∧ z_23 ≤ 40)) ∨ (z_26 = 0 ∧ ¬ (-40 ≤ z_23 ∧ z_23 ≤ 40)) := h_26
          refine j_if_ne SS (tgt := 34) (x := z_26) dX7_isOnGrid_29 (by decide) (by omega) (fun c_29 => ?_) (fun c_29 => ?_)
          · skip
            refine lv_iinc (v := J (i + 1)) (lv' := [(1, .int (J (i + 1))), (0, .ref (q (9 + 5 * r)))]) SS.1 SS.2.1 dX7_isOnGrid_34 hl (k := 1) rfl (J_add _ _) (by decide) rfl (fun ls hl => ?_)
            refine lv_goto (tgt := 2) SS.1 SS.2.1 dX7_isOnGrid_37 (by decide) ?_
            exact ih_2 (i + 1) ls (lv_sub hl [1, 0] rfl) (by omega) ((bd_step i2_0.1).mpr ⟨i2_1, by rw [ex12] at h_15; omega, by rw [ex23] at h_26; omega⟩) (by omega)
          · skip
            refine j_iconst SS dX7_isOnGrid_32 ?_
            exact W.zret SS.1 SS.2.1 hr (j_nz (by decide)) (fun t0 ht hW => ⟨_, rfl, ⟨0, rfl, (Or.inr ⟨rfl, fun q => by have q2 := bd_at q (z := i) (by omega) (by omega); first | (rw [ex12] at h_15; omega) | (rw [ex23] at h_26; omega)⟩)⟩, ht⟩) (fun _ h => nomatch h) dX7_isOnGrid_33 hlk
  exact L_2 ((u.1.2.2.1 r - (0 : Int)).toNat + 1) 0 ls (lv_sub hl [1, 0] rfl) (by omega) (fun a ha => by omega) (Nat.lt_succ_self _)

set_option maxHeartbeats 4000000 in
set_option maxRecDepth 100000 in
theorem c_X7_around (l : Launch) (D : JD) (q : Nat → Nat) (u : CS) (r : Nat) (hr : r ≤ 8) (K : Int) (i : Int) (t : Int) (p0 : 0 ≤ K ∧ K ≤ 80) (p1 : RB K u r) (p2 : -1000 ≤ i ∧ i ≤ 1000) (p3 : t = 1 ∨ t = -1) : Met l yX7_around (jw yX7_around cX7_around 4 (some .int)) (jr 0 0) (jP [.ref (q (9 + 5 * r)), .int (J i), .int (J t)] D (fun H => va_P D.1 j_cl (cW D q u) H)) (jRi (fun z => z = ar u r i t ∧ -1000 ≤ z ∧ z ≤ 1001)) 0 0 (fun _ => False) := by
  refine Met.ofW (cc := cX7_around) (maxL := 4) (ret := (some .int)) (by decide) rfl ?_
  intro pr en st mi args below meth co s₁ B hml hv
  obtain ⟨rfl, hG, hP⟩ := hv
  have hr := B.returns
  have hlk := B.notSynchronized
  have SS : jS pr mi co cX7_around 4 st _ RX7 := ⟨B.exec, B.bytes, hml, findClass_of_methodNamed B.named, fun w hw => atoms_spec (ws := (jw yX7_around cX7_around 4 (some .int))) B.pre w (List.mem_cons_of_mem _ hw)⟩
  have hl := lv_entry ([.ref (q (9 + 5 * r)), .int (J i), .int (J t)]) (n := 4) (Nat.le_of_ble_eq_true rfl)
  rw [lg_entry_eq]
  generalize (lg_sl ([.ref (q (9 + 5 * r)), .int (J i), .int (J t)]) ++ List.replicate (4 - (lg_sl ([.ref (q (9 + 5 * r)), .int (J i), .int (J t)])).length) Slot.unset).toArray = ls at hl ⊢
  have hl : lv_has ls 4 [(0, .ref (q (9 + 5 * r))), (1, .int (J i)), (2, .int (J t))] := hl
  have hc := p1.1
  have hrl := rl_b r
  refine lv_iload_n SS.1 SS.2.1 dX7_around_0 rfl (lv_at hl 1 rfl) ?_
  refine lv_iload_n SS.1 SS.2.1 dX7_around_1 rfl (lv_at hl 2 rfl) ?_
  refine j_iadd SS (x := i) (y := t) dX7_around_2 ?_
  refine lv_istore_n (lv' := [(3, .int (J (i + t))), (0, .ref (q (9 + 5 * r))), (1, .int (J i)), (2, .int (J t))]) SS.1 SS.2.1 dX7_around_3 rfl hl (by decide) rfl (fun ls hl => ?_)
  refine lv_iload_n SS.1 SS.2.1 dX7_around_4 rfl (lv_at hl 0 rfl) ?_
  refine lv_aload_n SS.1 SS.2.1 dX7_around_5 rfl (lv_at hl 1 rfl) ?_
  refine j_getS SS hG hP (9 + 5 * r) (v := .int (J (u.1.2.2.1 r))) (C := RX7) (T := TX7) (N := 3) (cw_ring (by omega)) rfl inX7 2 (by decide) (ref := "GridPolygons$Ring") kw_131 kw_132 rfl dX7_around_6 ?_
  refine j_icmp_lt SS (tgt := 14) (x := (i + t)) (y := (u.1.2.2.1 r)) dX7_around_9 (by decide) (by omega) (by omega) (fun c_9 => ?_) (fun c_9 => ?_)
  · skip
    refine lv_iload_n SS.1 SS.2.1 dX7_around_14 rfl (lv_at hl 0 rfl) ?_
    refine j_if_ge SS (tgt := 27) (x := (i + t)) dX7_around_15 (by decide) (by omega) (fun c_15 => ?_) (fun c_15 => ?_)
    · skip
      refine lv_iload_n SS.1 SS.2.1 dX7_around_27 rfl (lv_at hl 0 rfl) ?_
      exact W.iret SS.1 SS.2.1 hr (fun t0 ht hW => ⟨_, rfl, ⟨(i + t), rfl, (⟨by unfold ar; first | rw [if_pos (by omega)] | (rw [if_neg (by omega), if_pos (by omega)]) | (rw [if_neg (by omega), if_neg (by omega)]), by omega, by omega⟩)⟩, ht⟩) (fun _ h => nomatch h) dX7_around_28 hlk
    · skip
      refine lv_aload_n SS.1 SS.2.1 dX7_around_18 rfl (lv_at hl 1 rfl) ?_
      refine j_getS SS hG hP (9 + 5 * r) (v := .int (J (u.1.2.2.1 r))) (C := RX7) (T := TX7) (N := 3) (cw_ring (by omega)) rfl inX7 2 (by decide) (ref := "GridPolygons$Ring") kw_131 kw_132 rfl dX7_around_19 ?_
      refine j_iconst SS dX7_around_22 ?_
      refine j_isub SS (x := (u.1.2.2.1 r)) (y := 1) dX7_around_23 ?_
      refine lv_goto (tgt := 28) SS.1 SS.2.1 dX7_around_24 (by decide) ?_
      exact W.iret SS.1 SS.2.1 hr (fun t0 ht hW => ⟨_, rfl, ⟨((u.1.2.2.1 r) - 1), rfl, (⟨by unfold ar; first | rw [if_pos (by omega)] | (rw [if_neg (by omega), if_pos (by omega)]) | (rw [if_neg (by omega), if_neg (by omega)]), by omega, by omega⟩)⟩, ht⟩) (fun _ h => nomatch h) dX7_around_28 hlk
  · skip
    refine j_iconst SS dX7_around_12 ?_
    exact W.iret SS.1 SS.2.1 hr (fun t0 ht hW => ⟨_, rfl, ⟨0, rfl, (⟨by unfold ar; first | rw [if_pos (by omega)] | (rw [if_neg (by omega), if_pos (by omega)]) | (rw [if_neg (by omega), if_neg (by omega)]), by omega, by omega⟩)⟩, ht⟩) (fun _ h => nomatch h) dX7_around_13 hlk

set_option maxHeartbeats 4000000 in
set_option maxRecDepth 100000 in
theorem c_X7_sideX (l : Launch) (D : JD) (q : Nat → Nat) (u : CS) (r : Nat) (hr : r ≤ 8) (K : Int) (i : Int) (p0 : 0 ≤ K ∧ K ≤ 80) (p1 : RB K u r) (p2 : -1000 ≤ i ∧ i ≤ 1000) : Met l yX7_sideX (jw yX7_sideX cX7_sideX 2 (some .int)) (jr 1 23) (jP [.ref (q (9 + 5 * r)), .int (J i)] D (fun H => va_P D.1 j_cl (cW D q u) H)) (jRi (fun z => z = dX u r i ∧ -2 * K ≤ z ∧ z ≤ 2 * K)) 0 0 (fun _ => False) := by
  refine Met.ofW (cc := cX7_sideX) (maxL := 2) (ret := (some .int)) (by decide) rfl ?_
  intro pr en st mi args below meth co s₁ B hml hv
  obtain ⟨rfl, hG, hP⟩ := hv
  have hr := B.returns
  have hlk := B.notSynchronized
  have SS : jS pr mi co cX7_sideX 2 st _ RX7 := ⟨B.exec, B.bytes, hml, findClass_of_methodNamed B.named, fun w hw => atoms_spec (ws := (jw yX7_sideX cX7_sideX 2 (some .int))) B.pre w (List.mem_cons_of_mem _ hw)⟩
  have hl := lv_entry ([.ref (q (9 + 5 * r)), .int (J i)]) (n := 2) (Nat.le_of_ble_eq_true rfl)
  rw [lg_entry_eq]
  generalize (lg_sl ([.ref (q (9 + 5 * r)), .int (J i)]) ++ List.replicate (2 - (lg_sl ([.ref (q (9 + 5 * r)), .int (J i)])).length) Slot.unset).toArray = ls at hl ⊢
  have hl : lv_has ls 2 [(0, .ref (q (9 + 5 * r))), (1, .int (J i))] := hl
  have hc := p1.1
  have hrl := rl_b r
  refine lv_aload_n SS.1 SS.2.1 dX7_sideX_0 rfl (lv_at hl 0 rfl) ?_
  refine lv_aload_n SS.1 SS.2.1 dX7_sideX_1 rfl (lv_at hl 0 rfl) ?_
  refine lv_iload_n SS.1 SS.2.1 dX7_sideX_2 rfl (lv_at hl 1 rfl) ?_
  refine j_iconst SS dX7_sideX_3 ?_
  refine j_vRi SS (As := [.int (J i), .int (J 1)]) (rest := [.ref (q (9 + 5 * r))]) (c_X7_around l D q u r (by omega) K i 1 (show 0 ≤ K ∧ K ≤ 80 from (by omega)) (show RB K u r from (p1)) (show -1000 ≤ i ∧ i ≤ 1000 from (by omega)) (show (1 : Int) = 1 ∨ (1 : Int) = -1 from (by omega))) mf_X7_around kw_525 hG hP hP (ci := 7) (q0 := (9 + 5 * r)) rfl (cw_ring (by omega)) rfl rfl hl.1 ⟨⟨Nat.le_of_ble_eq_true rfl, Nat.le_of_ble_eq_true rfl⟩, Nat.le_of_ble_eq_true rfl, Nat.le_refl _, Nat.le_refl _⟩ rfl dX7_sideX_4 (fun z_4 h_4 => ?_)
  have h_4 : z_4 = ar u r i (1 : Int) ∧ -1000 ≤ z_4 ∧ z_4 ≤ 1001 := h_4
  refine j_uRi SS (As := [.int (J z_4)]) (rest := []) (c_X8_x l D q u r (by omega) z_4 (show -2147483648 ≤ z_4 ∧ z_4 ≤ 2147483647 from (by omega))) mu_7_x kw_501 hG hP hP (ci := 7) (q0 := (9 + 5 * r)) rfl (cw_ring (by omega)) rfl rfl hl.1 ⟨⟨Nat.le_of_ble_eq_true rfl, Nat.le_of_ble_eq_true rfl⟩, Nat.le_of_ble_eq_true rfl, Nat.le_refl _, Nat.le_refl _⟩ rfl dX7_sideX_7 (fun z_7 h_7 => ?_)
  have h_7 : z_7 = rx u r z_4 ∧ ∀ K : Int, 0 ≤ K → RB K u r → -K ≤ z_7 ∧ z_7 ≤ K := h_7
  have hb_7 := h_7.2 K (by omega) (p1)
  refine lv_aload_n SS.1 SS.2.1 dX7_sideX_10 rfl (lv_at hl 0 rfl) ?_
  refine lv_iload_n SS.1 SS.2.1 dX7_sideX_11 rfl (lv_at hl 1 rfl) ?_
  refine j_uRi SS (As := [.int (J i)]) (rest := [.int (J z_7)]) (c_X8_x l D q u r (by omega) i (show -2147483648 ≤ i ∧ i ≤ 2147483647 from (by omega))) mu_7_x kw_501 hG hP hP (ci := 7) (q0 := (9 + 5 * r)) rfl (cw_ring (by omega)) rfl rfl hl.1 ⟨⟨Nat.le_of_ble_eq_true rfl, Nat.le_of_ble_eq_true rfl⟩, Nat.le_of_ble_eq_true rfl, Nat.le_refl _, Nat.le_refl _⟩ rfl dX7_sideX_12 (fun z_12 h_12 => ?_)
  have h_12 : z_12 = rx u r i ∧ ∀ K : Int, 0 ≤ K → RB K u r → -K ≤ z_12 ∧ z_12 ≤ K := h_12
  have hb_12 := h_12.2 K (by omega) (p1)
  refine j_isub SS (x := z_7) (y := z_12) dX7_sideX_15 ?_
  exact W.iret SS.1 SS.2.1 hr (fun t0 ht hW => ⟨_, rfl, ⟨(z_7 - z_12), rfl, (⟨by rw [h_7.1, h_12.1, h_4.1]; rfl, by omega, by omega⟩)⟩, ht⟩) (fun _ h => nomatch h) dX7_sideX_16 hlk

set_option maxHeartbeats 4000000 in
set_option maxRecDepth 100000 in
theorem c_X7_sideY (l : Launch) (D : JD) (q : Nat → Nat) (u : CS) (r : Nat) (hr : r ≤ 8) (K : Int) (i : Int) (p0 : 0 ≤ K ∧ K ≤ 80) (p1 : RB K u r) (p2 : -1000 ≤ i ∧ i ≤ 1000) : Met l yX7_sideY (jw yX7_sideY cX7_sideY 2 (some .int)) (jr 1 23) (jP [.ref (q (9 + 5 * r)), .int (J i)] D (fun H => va_P D.1 j_cl (cW D q u) H)) (jRi (fun z => z = dY u r i ∧ -2 * K ≤ z ∧ z ≤ 2 * K)) 0 0 (fun _ => False) := by
  refine Met.ofW (cc := cX7_sideY) (maxL := 2) (ret := (some .int)) (by decide) rfl ?_
  intro pr en st mi args below meth co s₁ B hml hv
  obtain ⟨rfl, hG, hP⟩ := hv
  have hr := B.returns
  have hlk := B.notSynchronized
  have SS : jS pr mi co cX7_sideY 2 st _ RX7 := ⟨B.exec, B.bytes, hml, findClass_of_methodNamed B.named, fun w hw => atoms_spec (ws := (jw yX7_sideY cX7_sideY 2 (some .int))) B.pre w (List.mem_cons_of_mem _ hw)⟩
  have hl := lv_entry ([.ref (q (9 + 5 * r)), .int (J i)]) (n := 2) (Nat.le_of_ble_eq_true rfl)
  rw [lg_entry_eq]
  generalize (lg_sl ([.ref (q (9 + 5 * r)), .int (J i)]) ++ List.replicate (2 - (lg_sl ([.ref (q (9 + 5 * r)), .int (J i)])).length) Slot.unset).toArray = ls at hl ⊢
  have hl : lv_has ls 2 [(0, .ref (q (9 + 5 * r))), (1, .int (J i))] := hl
  have hc := p1.1
  have hrl := rl_b r
  refine lv_aload_n SS.1 SS.2.1 dX7_sideY_0 rfl (lv_at hl 0 rfl) ?_
  refine lv_aload_n SS.1 SS.2.1 dX7_sideY_1 rfl (lv_at hl 0 rfl) ?_
  refine lv_iload_n SS.1 SS.2.1 dX7_sideY_2 rfl (lv_at hl 1 rfl) ?_
  refine j_iconst SS dX7_sideY_3 ?_
  refine j_vRi SS (As := [.int (J i), .int (J 1)]) (rest := [.ref (q (9 + 5 * r))]) (c_X7_around l D q u r (by omega) K i 1 (show 0 ≤ K ∧ K ≤ 80 from (by omega)) (show RB K u r from (p1)) (show -1000 ≤ i ∧ i ≤ 1000 from (by omega)) (show (1 : Int) = 1 ∨ (1 : Int) = -1 from (by omega))) mf_X7_around kw_525 hG hP hP (ci := 7) (q0 := (9 + 5 * r)) rfl (cw_ring (by omega)) rfl rfl hl.1 ⟨⟨Nat.le_of_ble_eq_true rfl, Nat.le_of_ble_eq_true rfl⟩, Nat.le_of_ble_eq_true rfl, Nat.le_refl _, Nat.le_refl _⟩ rfl dX7_sideY_4 (fun z_4 h_4 => ?_)
  have h_4 : z_4 = ar u r i (1 : Int) ∧ -1000 ≤ z_4 ∧ z_4 ≤ 1001 := h_4
  refine j_uRi SS (As := [.int (J z_4)]) (rest := []) (c_X8_y l D q u r (by omega) z_4 (show -2147483648 ≤ z_4 ∧ z_4 ≤ 2147483647 from (by omega))) mu_7_y kw_503 hG hP hP (ci := 7) (q0 := (9 + 5 * r)) rfl (cw_ring (by omega)) rfl rfl hl.1 ⟨⟨Nat.le_of_ble_eq_true rfl, Nat.le_of_ble_eq_true rfl⟩, Nat.le_of_ble_eq_true rfl, Nat.le_refl _, Nat.le_refl _⟩ rfl dX7_sideY_7 (fun z_7 h_7 => ?_)
  have h_7 : z_7 = ry9 u r z_4 ∧ ∀ K : Int, 0 ≤ K → RB K u r → -K ≤ z_7 ∧ z_7 ≤ K := h_7
  have hb_7 := h_7.2 K (by omega) (p1)
  refine lv_aload_n SS.1 SS.2.1 dX7_sideY_10 rfl (lv_at hl 0 rfl) ?_
  refine lv_iload_n SS.1 SS.2.1 dX7_sideY_11 rfl (lv_at hl 1 rfl) ?_
  refine j_uRi SS (As := [.int (J i)]) (rest := [.int (J z_7)]) (c_X8_y l D q u r (by omega) i (show -2147483648 ≤ i ∧ i ≤ 2147483647 from (by omega))) mu_7_y kw_503 hG hP hP (ci := 7) (q0 := (9 + 5 * r)) rfl (cw_ring (by omega)) rfl rfl hl.1 ⟨⟨Nat.le_of_ble_eq_true rfl, Nat.le_of_ble_eq_true rfl⟩, Nat.le_of_ble_eq_true rfl, Nat.le_refl _, Nat.le_refl _⟩ rfl dX7_sideY_12 (fun z_12 h_12 => ?_)
  have h_12 : z_12 = ry9 u r i ∧ ∀ K : Int, 0 ≤ K → RB K u r → -K ≤ z_12 ∧ z_12 ≤ K := h_12
  have hb_12 := h_12.2 K (by omega) (p1)
  refine j_isub SS (x := z_7) (y := z_12) dX7_sideY_15 ?_
  exact W.iret SS.1 SS.2.1 hr (fun t0 ht hW => ⟨_, rfl, ⟨(z_7 - z_12), rfl, (⟨by rw [h_7.1, h_12.1, h_4.1]; rfl, by omega, by omega⟩)⟩, ht⟩) (fun _ h => nomatch h) dX7_sideY_16 hlk

set_option maxHeartbeats 4000000 in
set_option maxRecDepth 100000 in
theorem c_X7_stepsOf (l : Launch) (D : JD) (q : Nat → Nat) (u : CS) (r : Nat) (hr : r ≤ 8) (K : Int) (i : Int) (p0 : 0 ≤ K ∧ K ≤ 80) (p1 : RB K u r) (p2 : -1000 ≤ i ∧ i ≤ 1000) : Met l yX7_stepsOf (jw yX7_stepsOf cX7_stepsOf 2 (some .int)) (jr 2 45) (jP [.ref (q (9 + 5 * r)), .int (J i)] D (fun H => va_P D.1 j_cl (cW D q u) H)) (jRi (fun z => z = dS u r i ∧ 0 ≤ z ∧ z ≤ 2 * K)) 0 0 (fun _ => False) := by
  refine Met.ofW (cc := cX7_stepsOf) (maxL := 2) (ret := (some .int)) (by decide) rfl ?_
  intro pr en st mi args below meth co s₁ B hml hv
  obtain ⟨rfl, hG, hP⟩ := hv
  have hr := B.returns
  have hlk := B.notSynchronized
  have SS : jS pr mi co cX7_stepsOf 2 st _ RX7 := ⟨B.exec, B.bytes, hml, findClass_of_methodNamed B.named, fun w hw => atoms_spec (ws := (jw yX7_stepsOf cX7_stepsOf 2 (some .int))) B.pre w (List.mem_cons_of_mem _ hw)⟩
  have hl := lv_entry ([.ref (q (9 + 5 * r)), .int (J i)]) (n := 2) (Nat.le_of_ble_eq_true rfl)
  rw [lg_entry_eq]
  generalize (lg_sl ([.ref (q (9 + 5 * r)), .int (J i)]) ++ List.replicate (2 - (lg_sl ([.ref (q (9 + 5 * r)), .int (J i)])).length) Slot.unset).toArray = ls at hl ⊢
  have hl : lv_has ls 2 [(0, .ref (q (9 + 5 * r))), (1, .int (J i))] := hl
  have hc := p1.1
  have hrl := rl_b r
  refine lv_aload_n SS.1 SS.2.1 dX7_stepsOf_0 rfl (lv_at hl 0 rfl) ?_
  refine lv_iload_n SS.1 SS.2.1 dX7_stepsOf_1 rfl (lv_at hl 1 rfl) ?_
  refine j_vRi SS (As := [.int (J i)]) (rest := []) (c_X7_sideX l D q u r (by omega) K i (show 0 ≤ K ∧ K ≤ 80 from (p0)) (show RB K u r from (p1)) (show -1000 ≤ i ∧ i ≤ 1000 from (p2))) mf_X7_sideX kw_529 hG hP hP (ci := 7) (q0 := (9 + 5 * r)) rfl (cw_ring (by omega)) rfl rfl hl.1 ⟨⟨Nat.le_of_ble_eq_true rfl, Nat.le_of_ble_eq_true rfl⟩, Nat.le_of_ble_eq_true rfl, Nat.le_refl _, Nat.le_refl _⟩ rfl dX7_stepsOf_2 (fun z_2 h_2 => ?_)
  have h_2 : z_2 = dX u r i ∧ -2 * K ≤ z_2 ∧ z_2 ≤ 2 * K := h_2
  refine lv_aload_n SS.1 SS.2.1 dX7_stepsOf_5 rfl (lv_at hl 0 rfl) ?_
  refine lv_iload_n SS.1 SS.2.1 dX7_stepsOf_6 rfl (lv_at hl 1 rfl) ?_
  refine j_vRi SS (As := [.int (J i)]) (rest := [.int (J z_2)]) (c_X7_sideY l D q u r (by omega) K i (show 0 ≤ K ∧ K ≤ 80 from (p0)) (show RB K u r from (p1)) (show -1000 ≤ i ∧ i ≤ 1000 from (p2))) mf_X7_sideY kw_521 hG hP hP (ci := 7) (q0 := (9 + 5 * r)) rfl (cw_ring (by omega)) rfl rfl hl.1 ⟨⟨Nat.le_of_ble_eq_true rfl, Nat.le_of_ble_eq_true rfl⟩, Nat.le_of_ble_eq_true rfl, Nat.le_refl _, Nat.le_refl _⟩ rfl dX7_stepsOf_7 (fun z_7 h_7 => ?_)
  have h_7 : z_7 = dY u r i ∧ -2 * K ≤ z_7 ∧ z_7 ≤ 2 * K := h_7
  refine j_nRi SS (As := [.int (J z_2), .int (J z_7)]) (rest := []) (c_X11_gcd l D  z_2 z_7 (show -100000 ≤ z_2 ∧ z_2 ≤ 100000 from (by omega)) (show -100000 ≤ z_7 ∧ z_7 ≤ 100000 from (by omega))) mf_X11_gcd hG.2.2.1 hG trivial rfl hl.1 ⟨⟨Nat.le_of_ble_eq_true rfl, Nat.le_of_ble_eq_true rfl⟩, Nat.le_of_ble_eq_true rfl, Nat.le_refl _, Nat.le_refl _⟩ rfl dX7_stepsOf_10 (fun z_10 h_10 => ?_)
  have h_10 : z_10 = (Int.gcd z_2 z_7 : Int) := h_10
  exact W.iret SS.1 SS.2.1 hr (fun t0 ht hW => ⟨_, rfl, ⟨z_10, rfl, (by have q := gcd_b (a := z_2) (b := z_7) (K := 2 * K) (by omega) (by omega); exact ⟨by rw [h_10, h_2.1, h_7.1]; rfl, by omega, by omega⟩)⟩, ht⟩) (fun _ h => nomatch h) dX7_stepsOf_13 hlk

set_option maxHeartbeats 4000000 in
set_option maxRecDepth 100000 in
theorem c_X7_area (l : Launch) (D : JD) (q : Nat → Nat) (u : CS) (r : Nat) (hr : r ≤ 8) (K : Int) (p0 : 0 ≤ K ∧ K ≤ 80) (p1 : RB K u r) : Met l yX7_area (jw yX7_area cX7_area 3 (some .int)) (jr 2 44) (jP [.ref (q (9 + 5 * r))] D (fun H => va_P D.1 j_cl (cW D q u) H)) (jRi (fun z => z = rA u r ∧ -10000000 ≤ z ∧ z ≤ 10000000)) 0 0 (fun _ => False) := by
  refine Met.ofW (cc := cX7_area) (maxL := 3) (ret := (some .int)) (by decide) rfl ?_
  intro pr en st mi args below meth co s₁ B hml hv
  obtain ⟨rfl, hG, hP⟩ := hv
  have hr := B.returns
  have hlk := B.notSynchronized
  have SS : jS pr mi co cX7_area 3 st _ RX7 := ⟨B.exec, B.bytes, hml, findClass_of_methodNamed B.named, fun w hw => atoms_spec (ws := (jw yX7_area cX7_area 3 (some .int))) B.pre w (List.mem_cons_of_mem _ hw)⟩
  have hl := lv_entry ([.ref (q (9 + 5 * r))]) (n := 3) (Nat.le_of_ble_eq_true rfl)
  rw [lg_entry_eq]
  generalize (lg_sl ([.ref (q (9 + 5 * r))]) ++ List.replicate (3 - (lg_sl ([.ref (q (9 + 5 * r))])).length) Slot.unset).toArray = ls at hl ⊢
  have hl : lv_has ls 3 [(0, .ref (q (9 + 5 * r)))] := hl
  have hc := p1.1
  have hrl := rl_b r
  refine j_iconst SS dX7_area_0 ?_
  refine lv_istore_n (lv' := [(1, .int (J 0)), (0, .ref (q (9 + 5 * r)))]) SS.1 SS.2.1 dX7_area_1 rfl hl (by decide) rfl (fun ls hl => ?_)
  refine j_iconst SS dX7_area_2 ?_
  refine lv_istore_n (lv' := [(2, .int (J 0)), (1, .int (J 0)), (0, .ref (q (9 + 5 * r)))]) SS.1 SS.2.1 dX7_area_3 rfl hl (by decide) rfl (fun ls hl => ?_)
  have L_4 : ∀ (nn : Nat) (t : Int) (i : Int) (ls : Array Slot) (hl : lv_has ls 3 [(0, .ref (q (9 + 5 * r))), (1, .int (J t)), (2, .int (J i))]) (i4_0 : 0 ≤ i ∧ i ≤ u.1.2.2.1 r) (i4_1 : t = smI (fun i => rx u r i * dY u r i - ry9 u r i * dX u r i) i) (i4_2 : -25600 * i ≤ t ∧ t ≤ 25600 * i), (u.1.2.2.1 r - i).toNat < nn → W pr l en (headSpec (jw yX7_area cX7_area 3 (some .int)) (jr 2 44)).room st mi (([.ref (q (9 + 5 * r))] : List Value).toArray) below meth co st.heap [] 0 0 (MQ below (jRi (fun z => z = rA u r ∧ -10000000 ≤ z ∧ z ≤ 10000000)) (([.ref (q (9 + 5 * r))] : List Value).toArray) st 0 0 (fun _ => False)) (F0 mi 4 ls []) := by
    intro nn
    induction nn with
    | zero => intros; omega
    | succ nn ih_4 =>
      intro t i ls hl i4_0 i4_1 i4_2 hm
      refine lv_iload_n SS.1 SS.2.1 dX7_area_4 rfl (lv_at hl 2 rfl) ?_
      refine lv_aload_n SS.1 SS.2.1 dX7_area_5 rfl (lv_at hl 0 rfl) ?_
      refine j_getS SS hG hP (9 + 5 * r) (v := .int (J (u.1.2.2.1 r))) (C := RX7) (T := TX7) (N := 3) (cw_ring (by omega)) rfl inX7 2 (by decide) (ref := "GridPolygons$Ring") kw_131 kw_132 rfl dX7_area_6 ?_
      refine j_icmp_ge SS (tgt := 44) (x := i) (y := (u.1.2.2.1 r)) dX7_area_9 (by decide) (by omega) (by omega) (fun c_9 => ?_) (fun c_9 => ?_)
      · skip
        refine lv_iload_n SS.1 SS.2.1 dX7_area_44 rfl (lv_at hl 1 rfl) ?_
        exact W.iret SS.1 SS.2.1 hr (fun t0 ht hW => ⟨_, rfl, ⟨t, rfl, (⟨by rw [i4_1, show i = u.1.2.2.1 r by omega]; rfl, by omega, by omega⟩)⟩, ht⟩) (fun _ h => nomatch h) dX7_area_45 hlk
      · skip
        refine lv_iload_n SS.1 SS.2.1 dX7_area_12 rfl (lv_at hl 1 rfl) ?_
        refine lv_aload_n SS.1 SS.2.1 dX7_area_13 rfl (lv_at hl 0 rfl) ?_
        refine lv_iload_n SS.1 SS.2.1 dX7_area_14 rfl (lv_at hl 2 rfl) ?_
        refine j_uRi SS (As := [.int (J i)]) (rest := [.int (J t)]) (c_X8_x l D q u r (by omega) i (show -2147483648 ≤ i ∧ i ≤ 2147483647 from (by omega))) mu_7_x kw_501 hG hP hP (ci := 7) (q0 := (9 + 5 * r)) rfl (cw_ring (by omega)) rfl rfl hl.1 ⟨⟨Nat.le_of_ble_eq_true rfl, Nat.le_of_ble_eq_true rfl⟩, Nat.le_of_ble_eq_true rfl, Nat.le_refl _, Nat.le_refl _⟩ rfl dX7_area_15 (fun z_15 h_15 => ?_)
        have h_15 : z_15 = rx u r i ∧ ∀ K : Int, 0 ≤ K → RB K u r → -K ≤ z_15 ∧ z_15 ≤ K := h_15
        have hb_15 := h_15.2 K (by omega) (p1)
        refine lv_aload_n SS.1 SS.2.1 dX7_area_18 rfl (lv_at hl 0 rfl) ?_
        refine lv_iload_n SS.1 SS.2.1 dX7_area_19 rfl (lv_at hl 2 rfl) ?_
        refine j_vRi SS (As := [.int (J i)]) (rest := [.int (J z_15), .int (J t)]) (c_X7_sideY l D q u r (by omega) K i (show 0 ≤ K ∧ K ≤ 80 from (p0)) (show RB K u r from (p1)) (show -1000 ≤ i ∧ i ≤ 1000 from (by omega))) mf_X7_sideY kw_521 hG hP hP (ci := 7) (q0 := (9 + 5 * r)) rfl (cw_ring (by omega)) rfl rfl hl.1 ⟨⟨Nat.le_of_ble_eq_true rfl, Nat.le_of_ble_eq_true rfl⟩, Nat.le_of_ble_eq_true rfl, Nat.le_refl _, Nat.le_refl _⟩ rfl dX7_area_20 (fun z_20 h_20 => ?_)
        have h_20 : z_20 = dY u r i ∧ -2 * K ≤ z_20 ∧ z_20 ≤ 2 * K := h_20
        refine j_imul SS (x := z_15) (y := z_20) dX7_area_23 ?_
        refine lv_aload_n SS.1 SS.2.1 dX7_area_24 rfl (lv_at hl 0 rfl) ?_
        refine lv_iload_n SS.1 SS.2.1 dX7_area_25 rfl (lv_at hl 2 rfl) ?_
        refine j_uRi SS (As := [.int (J i)]) (rest := [.int (J (z_15 * z_20)), .int (J t)]) (c_X8_y l D q u r (by omega) i (show -2147483648 ≤ i ∧ i ≤ 2147483647 from (by omega))) mu_7_y kw_503 hG hP hP (ci := 7) (q0 := (9 + 5 * r)) rfl (cw_ring (by omega)) rfl rfl hl.1 ⟨⟨Nat.le_of_ble_eq_true rfl, Nat.le_of_ble_eq_true rfl⟩, Nat.le_of_ble_eq_true rfl, Nat.le_refl _, Nat.le_refl _⟩ rfl dX7_area_26 (fun z_26 h_26 => ?_)
        have h_26 : z_26 = ry9 u r i ∧ ∀ K : Int, 0 ≤ K → RB K u r → -K ≤ z_26 ∧ z_26 ≤ K := h_26
        have hb_26 := h_26.2 K (by omega) (p1)
        refine lv_aload_n SS.1 SS.2.1 dX7_area_29 rfl (lv_at hl 0 rfl) ?_
        refine lv_iload_n SS.1 SS.2.1 dX7_area_30 rfl (lv_at hl 2 rfl) ?_
        refine j_vRi SS (As := [.int (J i)]) (rest := [.int (J z_26), .int (J (z_15 * z_20)), .int (J t)]) (c_X7_sideX l D q u r (by omega) K i (show 0 ≤ K ∧ K ≤ 80 from (p0)) (show RB K u r from (p1)) (show -1000 ≤ i ∧ i ≤ 1000 from (by omega))) mf_X7_sideX kw_529 hG hP hP (ci := 7) (q0 := (9 + 5 * r)) rfl (cw_ring (by omega)) rfl rfl hl.1 ⟨⟨Nat.le_of_ble_eq_true rfl, Nat.le_of_ble_eq_true rfl⟩, Nat.le_of_ble_eq_true rfl, Nat.le_refl _, Nat.le_refl _⟩ rfl dX7_area_31 (fun z_31 h_31 => ?_)
        have h_31 : z_31 = dX u r i ∧ -2 * K ≤ z_31 ∧ z_31 ≤ 2 * K := h_31
        refine j_imul SS (x := z_26) (y := z_31) dX7_area_34 ?_
        refine j_isub SS (x := (z_15 * z_20)) (y := (z_26 * z_31)) dX7_area_35 ?_
        have m1 := mulb (A := 80) (B := 160) (a := z_15) (b := z_20) (by omega) (by omega)
        have m2 := mulb (A := 80) (B := 160) (a := z_26) (b := z_31) (by omega) (by omega)
        refine j_iadd SS (x := t) (y := ((z_15 * z_20) - (z_26 * z_31))) dX7_area_36 ?_
        refine lv_istore_n (lv' := [(1, .int (J (t + ((z_15 * z_20) - (z_26 * z_31))))), (0, .ref (q (9 + 5 * r))), (2, .int (J i))]) SS.1 SS.2.1 dX7_area_37 rfl hl (by decide) rfl (fun ls hl => ?_)
        refine lv_iinc (v := J (i + 1)) (lv' := [(2, .int (J (i + 1))), (1, .int (J (t + ((z_15 * z_20) - (z_26 * z_31))))), (0, .ref (q (9 + 5 * r)))]) SS.1 SS.2.1 dX7_area_38 hl (k := 2) rfl (J_add _ _) (by decide) rfl (fun ls hl => ?_)
        refine lv_goto (tgt := 4) SS.1 SS.2.1 dX7_area_41 (by decide) ?_
        exact ih_4 (t + ((z_15 * z_20) - (z_26 * z_31))) (i + 1) ls (lv_sub hl [2, 1, 0] rfl) (by omega) (by rw [smI_s i4_0.1, ← i4_1, h_15.1, h_20.1, h_26.1, h_31.1]) (by omega) (by omega)
  exact L_4 ((u.1.2.2.1 r - (0 : Int)).toNat + 1) 0 0 ls (lv_sub hl [2, 1, 0] rfl) (by omega) (smI_0.symm) (by omega) (Nat.lt_succ_self _)

set_option maxHeartbeats 4000000 in
set_option maxRecDepth 100000 in
theorem c_X7_onEdge (l : Launch) (D : JD) (q : Nat → Nat) (u : CS) (r : Nat) (hr : r ≤ 8) (K : Int) (p0 : 0 ≤ K ∧ K ≤ 80) (p1 : RB K u r) : Met l yX7_onEdge (jw yX7_onEdge cX7_onEdge 3 (some .int)) (jr 3 66) (jP [.ref (q (9 + 5 * r))] D (fun H => va_P D.1 j_cl (cW D q u) H)) (jRi (fun z => z = rE u r ∧ 0 ≤ z ∧ z ≤ 60000)) 0 0 (fun _ => False) := by
  refine Met.ofW (cc := cX7_onEdge) (maxL := 3) (ret := (some .int)) (by decide) rfl ?_
  intro pr en st mi args below meth co s₁ B hml hv
  obtain ⟨rfl, hG, hP⟩ := hv
  have hr := B.returns
  have hlk := B.notSynchronized
  have SS : jS pr mi co cX7_onEdge 3 st _ RX7 := ⟨B.exec, B.bytes, hml, findClass_of_methodNamed B.named, fun w hw => atoms_spec (ws := (jw yX7_onEdge cX7_onEdge 3 (some .int))) B.pre w (List.mem_cons_of_mem _ hw)⟩
  have hl := lv_entry ([.ref (q (9 + 5 * r))]) (n := 3) (Nat.le_of_ble_eq_true rfl)
  rw [lg_entry_eq]
  generalize (lg_sl ([.ref (q (9 + 5 * r))]) ++ List.replicate (3 - (lg_sl ([.ref (q (9 + 5 * r))])).length) Slot.unset).toArray = ls at hl ⊢
  have hl : lv_has ls 3 [(0, .ref (q (9 + 5 * r)))] := hl
  have hc := p1.1
  have hrl := rl_b r
  refine lv_aload_n SS.1 SS.2.1 dX7_onEdge_0 rfl (lv_at hl 0 rfl) ?_
  refine j_getS SS hG hP (9 + 5 * r) (v := .int (J (u.1.2.2.1 r))) (C := RX7) (T := TX7) (N := 3) (cw_ring (by omega)) rfl inX7 2 (by decide) (ref := "GridPolygons$Ring") kw_131 kw_132 rfl dX7_onEdge_1 ?_
  refine j_iconst SS dX7_onEdge_4 ?_
  refine j_icmp_ge SS (tgt := 27) (x := (u.1.2.2.1 r)) (y := 3) dX7_onEdge_5 (by decide) (by omega) (by decide) (fun c_5 => ?_) (fun c_5 => ?_)
  · skip
    refine j_iconst SS dX7_onEdge_27 ?_
    refine lv_istore_n (lv' := [(1, .int (J 0)), (0, .ref (q (9 + 5 * r)))]) SS.1 SS.2.1 dX7_onEdge_28 rfl hl (by decide) rfl (fun ls hl => ?_)
    refine j_iconst SS dX7_onEdge_29 ?_
    refine lv_istore_n (lv' := [(2, .int (J 0)), (1, .int (J 0)), (0, .ref (q (9 + 5 * r)))]) SS.1 SS.2.1 dX7_onEdge_30 rfl hl (by decide) rfl (fun ls hl => ?_)
    have L_31 : ∀ (nn : Nat) (t : Int) (i : Int) (ls : Array Slot) (hl : lv_has ls 3 [(0, .ref (q (9 + 5 * r))), (1, .int (J t)), (2, .int (J i))]) (i31_0 : 0 ≤ i ∧ i ≤ u.1.2.2.1 r) (i31_1 : t = smI (dS u r) i) (i31_2 : 0 ≤ t ∧ t ≤ 160 * i), (u.1.2.2.1 r - i).toNat < nn → W pr l en (headSpec (jw yX7_onEdge cX7_onEdge 3 (some .int)) (jr 3 66)).room st mi (([.ref (q (9 + 5 * r))] : List Value).toArray) below meth co st.heap [] 0 0 (MQ below (jRi (fun z => z = rE u r ∧ 0 ≤ z ∧ z ≤ 60000)) (([.ref (q (9 + 5 * r))] : List Value).toArray) st 0 0 (fun _ => False)) (F0 mi 31 ls []) := by
      intro nn
      induction nn with
      | zero => intros; omega
      | succ nn ih_31 =>
        intro t i ls hl i31_0 i31_1 i31_2 hm
        refine lv_iload_n SS.1 SS.2.1 dX7_onEdge_31 rfl (lv_at hl 2 rfl) ?_
        refine lv_aload_n SS.1 SS.2.1 dX7_onEdge_32 rfl (lv_at hl 0 rfl) ?_
        refine j_getS SS hG hP (9 + 5 * r) (v := .int (J (u.1.2.2.1 r))) (C := RX7) (T := TX7) (N := 3) (cw_ring (by omega)) rfl inX7 2 (by decide) (ref := "GridPolygons$Ring") kw_131 kw_132 rfl dX7_onEdge_33 ?_
        refine j_icmp_ge SS (tgt := 53) (x := i) (y := (u.1.2.2.1 r)) dX7_onEdge_36 (by decide) (by omega) (by omega) (fun c_36 => ?_) (fun c_36 => ?_)
        · skip
          refine lv_iload_n SS.1 SS.2.1 dX7_onEdge_53 rfl (lv_at hl 1 rfl) ?_
          exact W.iret SS.1 SS.2.1 hr (fun t0 ht hW => ⟨_, rfl, ⟨t, rfl, (⟨by unfold rE; rw [if_neg (by omega), i31_1, show i = u.1.2.2.1 r by omega], by omega, by omega⟩)⟩, ht⟩) (fun _ h => nomatch h) dX7_onEdge_54 hlk
        · skip
          refine lv_iload_n SS.1 SS.2.1 dX7_onEdge_39 rfl (lv_at hl 1 rfl) ?_
          refine lv_aload_n SS.1 SS.2.1 dX7_onEdge_40 rfl (lv_at hl 0 rfl) ?_
          refine lv_iload_n SS.1 SS.2.1 dX7_onEdge_41 rfl (lv_at hl 2 rfl) ?_
          refine j_vRi SS (As := [.int (J i)]) (rest := [.int (J t)]) (c_X7_stepsOf l D q u r (by omega) K i (show 0 ≤ K ∧ K ≤ 80 from (p0)) (show RB K u r from (p1)) (show -1000 ≤ i ∧ i ≤ 1000 from (by omega))) mf_X7_stepsOf kw_537 hG hP hP (ci := 7) (q0 := (9 + 5 * r)) rfl (cw_ring (by omega)) rfl rfl hl.1 ⟨⟨Nat.le_of_ble_eq_true rfl, Nat.le_of_ble_eq_true rfl⟩, Nat.le_of_ble_eq_true rfl, Nat.le_refl _, Nat.le_refl _⟩ rfl dX7_onEdge_42 (fun z_42 h_42 => ?_)
          have h_42 : z_42 = dS u r i ∧ 0 ≤ z_42 ∧ z_42 ≤ 2 * K := h_42
          refine j_iadd SS (x := t) (y := z_42) dX7_onEdge_45 ?_
          refine lv_istore_n (lv' := [(1, .int (J (t + z_42))), (0, .ref (q (9 + 5 * r))), (2, .int (J i))]) SS.1 SS.2.1 dX7_onEdge_46 rfl hl (by decide) rfl (fun ls hl => ?_)
          refine lv_iinc (v := J (i + 1)) (lv' := [(2, .int (J (i + 1))), (1, .int (J (t + z_42))), (0, .ref (q (9 + 5 * r)))]) SS.1 SS.2.1 dX7_onEdge_47 hl (k := 2) rfl (J_add _ _) (by decide) rfl (fun ls hl => ?_)
          refine lv_goto (tgt := 31) SS.1 SS.2.1 dX7_onEdge_50 (by decide) ?_
          exact ih_31 (t + z_42) (i + 1) ls (lv_sub hl [2, 1, 0] rfl) (by omega) (by rw [smI_s i31_0.1, ← i31_1, h_42.1]) (by omega) (by omega)
    exact L_31 ((u.1.2.2.1 r - (0 : Int)).toNat + 1) 0 0 ls (lv_sub hl [2, 1, 0] rfl) (by omega) (smI_0.symm) (by omega) (Nat.lt_succ_self _)
  · skip
    refine lv_aload_n SS.1 SS.2.1 dX7_onEdge_8 rfl (lv_at hl 0 rfl) ?_
    refine j_getS SS hG hP (9 + 5 * r) (v := .int (J (u.1.2.2.1 r))) (C := RX7) (T := TX7) (N := 3) (cw_ring (by omega)) rfl inX7 2 (by decide) (ref := "GridPolygons$Ring") kw_131 kw_132 rfl dX7_onEdge_9 ?_
    refine j_if_ne SS (tgt := 19) (x := (u.1.2.2.1 r)) dX7_onEdge_12 (by decide) (by omega) (fun c_12 => ?_) (fun c_12 => ?_)
    · skip
      refine lv_aload_n SS.1 SS.2.1 dX7_onEdge_19 rfl (lv_at hl 0 rfl) ?_
      refine j_iconst SS dX7_onEdge_20 ?_
      refine j_vRi SS (As := [.int (J 0)]) (rest := []) (c_X7_stepsOf l D q u r (by omega) K 0 (show 0 ≤ K ∧ K ≤ 80 from (p0)) (show RB K u r from (p1)) (show -1000 ≤ (0 : Int) ∧ (0 : Int) ≤ 1000 from (by omega))) mf_X7_stepsOf kw_537 hG hP hP (ci := 7) (q0 := (9 + 5 * r)) rfl (cw_ring (by omega)) rfl rfl hl.1 ⟨⟨Nat.le_of_ble_eq_true rfl, Nat.le_of_ble_eq_true rfl⟩, Nat.le_of_ble_eq_true rfl, Nat.le_refl _, Nat.le_refl _⟩ rfl dX7_onEdge_21 (fun z_21 h_21 => ?_)
      have h_21 : z_21 = dS u r (0 : Int) ∧ 0 ≤ z_21 ∧ z_21 ≤ 2 * K := h_21
      refine j_iconst SS dX7_onEdge_24 ?_
      refine j_iadd SS (x := z_21) (y := 1) dX7_onEdge_25 ?_
      exact W.iret SS.1 SS.2.1 hr (fun t0 ht hW => ⟨_, rfl, ⟨(z_21 + 1), rfl, (by first | exact ⟨by unfold rE; rw [if_pos (by omega), if_pos (by omega)], by omega, by omega⟩ | exact ⟨by unfold rE; rw [if_pos (by omega), if_neg (by omega), h_21.1], by omega, by omega⟩)⟩, ht⟩) (fun _ h => nomatch h) dX7_onEdge_26 hlk
    · skip
      refine j_iconst SS dX7_onEdge_15 ?_
      refine lv_goto (tgt := 26) SS.1 SS.2.1 dX7_onEdge_16 (by decide) ?_
      exact W.iret SS.1 SS.2.1 hr (fun t0 ht hW => ⟨_, rfl, ⟨0, rfl, (by first | exact ⟨by unfold rE; rw [if_pos (by omega), if_pos (by omega)], by omega, by omega⟩ | exact ⟨by unfold rE; rw [if_pos (by omega), if_neg (by omega), h_21.1], by omega, by omega⟩)⟩, ht⟩) (fun _ h => nomatch h) dX7_onEdge_26 hlk

set_option maxHeartbeats 4000000 in
set_option maxRecDepth 100000 in
theorem c_X7_inside (l : Launch) (D : JD) (q : Nat → Nat) (u : CS) (r : Nat) (hr : r ≤ 8) (K : Int) (p0 : 0 ≤ K ∧ K ≤ 80) (p1 : RB K u r) : Met l yX7_inside (jw yX7_inside cX7_inside 1 (some .int)) (jr 4 88) (jP [.ref (q (9 + 5 * r))] D (fun H => va_P D.1 j_cl (cW D q u) H)) (jRi (fun z => z = rI u r ∧ -6000000 ≤ z ∧ z ≤ 6000000)) 0 0 (fun _ => False) := by
  refine Met.ofW (cc := cX7_inside) (maxL := 1) (ret := (some .int)) (by decide) rfl ?_
  intro pr en st mi args below meth co s₁ B hml hv
  obtain ⟨rfl, hG, hP⟩ := hv
  have hr := B.returns
  have hlk := B.notSynchronized
  have SS : jS pr mi co cX7_inside 1 st _ RX7 := ⟨B.exec, B.bytes, hml, findClass_of_methodNamed B.named, fun w hw => atoms_spec (ws := (jw yX7_inside cX7_inside 1 (some .int))) B.pre w (List.mem_cons_of_mem _ hw)⟩
  have hl := lv_entry ([.ref (q (9 + 5 * r))]) (n := 1) (Nat.le_of_ble_eq_true rfl)
  rw [lg_entry_eq]
  generalize (lg_sl ([.ref (q (9 + 5 * r))]) ++ List.replicate (1 - (lg_sl ([.ref (q (9 + 5 * r))])).length) Slot.unset).toArray = ls at hl ⊢
  have hl : lv_has ls 1 [(0, .ref (q (9 + 5 * r)))] := hl
  have hc := p1.1
  have hrl := rl_b r
  refine lv_aload_n SS.1 SS.2.1 dX7_inside_0 rfl (lv_at hl 0 rfl) ?_
  refine j_getS SS hG hP (9 + 5 * r) (v := .int (J (u.1.2.2.1 r))) (C := RX7) (T := TX7) (N := 3) (cw_ring (by omega)) rfl inX7 2 (by decide) (ref := "GridPolygons$Ring") kw_131 kw_132 rfl dX7_inside_1 ?_
  refine j_iconst SS dX7_inside_4 ?_
  refine j_icmp_ge SS (tgt := 12) (x := (u.1.2.2.1 r)) (y := 3) dX7_inside_5 (by decide) (by omega) (by decide) (fun c_5 => ?_) (fun c_5 => ?_)
  · skip
    refine lv_aload_n SS.1 SS.2.1 dX7_inside_12 rfl (lv_at hl 0 rfl) ?_
    refine j_vRi SS (As := []) (rest := []) (c_X7_area l D q u r (by omega) K  (show 0 ≤ K ∧ K ≤ 80 from (p0)) (show RB K u r from (p1))) mf_X7_area kw_551 hG hP hP (ci := 7) (q0 := (9 + 5 * r)) rfl (cw_ring (by omega)) rfl rfl hl.1 ⟨⟨Nat.le_of_ble_eq_true rfl, Nat.le_of_ble_eq_true rfl⟩, Nat.le_of_ble_eq_true rfl, Nat.le_refl _, Nat.le_refl _⟩ rfl dX7_inside_13 (fun z_13 h_13 => ?_)
    have h_13 : z_13 = rA u r ∧ -10000000 ≤ z_13 ∧ z_13 ≤ 10000000 := h_13
    refine lv_aload_n SS.1 SS.2.1 dX7_inside_16 rfl (lv_at hl 0 rfl) ?_
    refine j_vRi SS (As := []) (rest := [.int (J z_13)]) (c_X7_onEdge l D q u r (by omega) K  (show 0 ≤ K ∧ K ≤ 80 from (p0)) (show RB K u r from (p1))) mf_X7_onEdge kw_552 hG hP hP (ci := 7) (q0 := (9 + 5 * r)) rfl (cw_ring (by omega)) rfl rfl hl.1 ⟨⟨Nat.le_of_ble_eq_true rfl, Nat.le_of_ble_eq_true rfl⟩, Nat.le_of_ble_eq_true rfl, Nat.le_refl _, Nat.le_refl _⟩ rfl dX7_inside_17 (fun z_17 h_17 => ?_)
    have h_17 : z_17 = rE u r ∧ 0 ≤ z_17 ∧ z_17 ≤ 60000 := h_17
    refine j_isub SS (x := z_13) (y := z_17) dX7_inside_20 ?_
    refine j_iconst SS dX7_inside_21 ?_
    have td := td_half (a := z_13 - z_17) (K := 11000000) (by omega)
    refine j_idiv SS (x := (z_13 - z_17)) (y := 2) dX7_inside_22 (by omega) (by decide) (by decide) ?_
    refine j_iconst SS dX7_inside_23 ?_
    refine j_iadd SS (x := (Int.tdiv (z_13 - z_17) 2)) (y := 1) dX7_inside_24 ?_
    exact W.iret SS.1 SS.2.1 hr (fun t0 ht hW => ⟨_, rfl, ⟨((Int.tdiv (z_13 - z_17) 2) + 1), rfl, (by first | exact ⟨by unfold rI; rw [if_pos (by omega)], by omega, by omega⟩ | exact ⟨by unfold rI; rw [if_neg (by omega), h_13.1, h_17.1], by omega, by omega⟩)⟩, ht⟩) (fun _ h => nomatch h) dX7_inside_25 hlk
  · skip
    refine j_iconst SS dX7_inside_8 ?_
    refine lv_goto (tgt := 25) SS.1 SS.2.1 dX7_inside_9 (by decide) ?_
    exact W.iret SS.1 SS.2.1 hr (fun t0 ht hW => ⟨_, rfl, ⟨0, rfl, (by first | exact ⟨by unfold rI; rw [if_pos (by omega)], by omega, by omega⟩ | exact ⟨by unfold rI; rw [if_neg (by omega), h_13.1, h_17.1], by omega, by omega⟩)⟩, ht⟩) (fun _ h => nomatch h) dX7_inside_25 hlk

set_option maxHeartbeats 4000000 in
set_option maxRecDepth 100000 in
theorem c_X7_all (l : Launch) (D : JD) (q : Nat → Nat) (u : CS) (r : Nat) (hr : r ≤ 8) (K : Int) (p0 : 0 ≤ K ∧ K ≤ 80) (p1 : RB K u r) : Met l yX7_all (jw yX7_all cX7_all 1 (some .int)) (jr 5 108) (jP [.ref (q (9 + 5 * r))] D (fun H => va_P D.1 j_cl (cW D q u) H)) (jRi (fun z => z = rE u r + rI u r ∧ -7000000 ≤ z ∧ z ≤ 7000000)) 0 0 (fun _ => False) := by
  refine Met.ofW (cc := cX7_all) (maxL := 1) (ret := (some .int)) (by decide) rfl ?_
  intro pr en st mi args below meth co s₁ B hml hv
  obtain ⟨rfl, hG, hP⟩ := hv
  have hr := B.returns
  have hlk := B.notSynchronized
  have SS : jS pr mi co cX7_all 1 st _ RX7 := ⟨B.exec, B.bytes, hml, findClass_of_methodNamed B.named, fun w hw => atoms_spec (ws := (jw yX7_all cX7_all 1 (some .int))) B.pre w (List.mem_cons_of_mem _ hw)⟩
  have hl := lv_entry ([.ref (q (9 + 5 * r))]) (n := 1) (Nat.le_of_ble_eq_true rfl)
  rw [lg_entry_eq]
  generalize (lg_sl ([.ref (q (9 + 5 * r))]) ++ List.replicate (1 - (lg_sl ([.ref (q (9 + 5 * r))])).length) Slot.unset).toArray = ls at hl ⊢
  have hl : lv_has ls 1 [(0, .ref (q (9 + 5 * r)))] := hl
  have hc := p1.1
  have hrl := rl_b r
  refine lv_aload_n SS.1 SS.2.1 dX7_all_0 rfl (lv_at hl 0 rfl) ?_
  refine j_vRi SS (As := []) (rest := []) (c_X7_onEdge l D q u r (by omega) K  (show 0 ≤ K ∧ K ≤ 80 from (p0)) (show RB K u r from (p1))) mf_X7_onEdge kw_552 hG hP hP (ci := 7) (q0 := (9 + 5 * r)) rfl (cw_ring (by omega)) rfl rfl hl.1 ⟨⟨Nat.le_of_ble_eq_true rfl, Nat.le_of_ble_eq_true rfl⟩, Nat.le_of_ble_eq_true rfl, Nat.le_refl _, Nat.le_refl _⟩ rfl dX7_all_1 (fun z_1 h_1 => ?_)
  have h_1 : z_1 = rE u r ∧ 0 ≤ z_1 ∧ z_1 ≤ 60000 := h_1
  refine lv_aload_n SS.1 SS.2.1 dX7_all_4 rfl (lv_at hl 0 rfl) ?_
  refine j_vRi SS (As := []) (rest := [.int (J z_1)]) (c_X7_inside l D q u r (by omega) K  (show 0 ≤ K ∧ K ≤ 80 from (p0)) (show RB K u r from (p1))) mf_X7_inside kw_557 hG hP hP (ci := 7) (q0 := (9 + 5 * r)) rfl (cw_ring (by omega)) rfl rfl hl.1 ⟨⟨Nat.le_of_ble_eq_true rfl, Nat.le_of_ble_eq_true rfl⟩, Nat.le_of_ble_eq_true rfl, Nat.le_refl _, Nat.le_refl _⟩ rfl dX7_all_5 (fun z_5 h_5 => ?_)
  have h_5 : z_5 = rI u r ∧ -6000000 ≤ z_5 ∧ z_5 ≤ 6000000 := h_5
  refine j_iadd SS (x := z_1) (y := z_5) dX7_all_8 ?_
  exact W.iret SS.1 SS.2.1 hr (fun t0 ht hW => ⟨_, rfl, ⟨(z_1 + z_5), rfl, (by omega)⟩, ht⟩) (fun _ h => nomatch h) dX7_all_9 hlk

set_option maxHeartbeats 4000000 in
set_option maxRecDepth 100000 in
theorem c_X7_allTimes (l : Launch) (D : JD) (q : Nat → Nat) (u : CS) (r : Nat) (hr : r ≤ 8) (K : Int) (n : Int) (p0 : 0 ≤ K ∧ K ≤ 80) (p1 : RB K u r) : Met l yX7_allTimes (jw yX7_allTimes cX7_allTimes 2 (some .long)) (jr 4 88) (jP [.ref (q (9 + 5 * r)), .int (J n)] D (fun H => va_P D.1 j_cl (cW D q u) H)) (vp_Sl (fun x9 => True)) 0 0 (fun _ => False) := by
  refine Met.ofW (cc := cX7_allTimes) (maxL := 2) (ret := (some .long)) (by decide) rfl ?_
  intro pr en st mi args below meth co s₁ B hml hv
  obtain ⟨rfl, hG, hP⟩ := hv
  have hr := B.returns
  have hlk := B.notSynchronized
  have SS : jS pr mi co cX7_allTimes 2 st _ RX7 := ⟨B.exec, B.bytes, hml, findClass_of_methodNamed B.named, fun w hw => atoms_spec (ws := (jw yX7_allTimes cX7_allTimes 2 (some .long))) B.pre w (List.mem_cons_of_mem _ hw)⟩
  have hl := lv_entry ([.ref (q (9 + 5 * r)), .int (J n)]) (n := 2) (Nat.le_of_ble_eq_true rfl)
  rw [lg_entry_eq]
  generalize (lg_sl ([.ref (q (9 + 5 * r)), .int (J n)]) ++ List.replicate (2 - (lg_sl ([.ref (q (9 + 5 * r)), .int (J n)])).length) Slot.unset).toArray = ls at hl ⊢
  have hl : lv_has ls 2 [(0, .ref (q (9 + 5 * r))), (1, .int (J n))] := hl
  have hc := p1.1
  have hrl := rl_b r
  refine lv_aload_n SS.1 SS.2.1 dX7_allTimes_0 rfl (lv_at hl 0 rfl) ?_
  refine j_getS SS hG hP (9 + 5 * r) (v := .int (J (u.1.2.2.1 r))) (C := RX7) (T := TX7) (N := 3) (cw_ring (by omega)) rfl inX7 2 (by decide) (ref := "GridPolygons$Ring") kw_131 kw_132 rfl dX7_allTimes_1 ?_
  refine j_if_ne SS (tgt := 9) (x := (u.1.2.2.1 r)) dX7_allTimes_4 (by decide) (by omega) (fun c_4 => ?_) (fun c_4 => ?_)
  · skip
    refine lv_aload_n SS.1 SS.2.1 dX7_allTimes_9 rfl (lv_at hl 0 rfl) ?_
    refine j_getS SS hG hP (9 + 5 * r) (v := .int (J (u.1.2.2.1 r))) (C := RX7) (T := TX7) (N := 3) (cw_ring (by omega)) rfl inX7 2 (by decide) (ref := "GridPolygons$Ring") kw_131 kw_132 rfl dX7_allTimes_10 ?_
    refine j_iconst SS dX7_allTimes_13 ?_
    refine j_icmp_ge SS (tgt := 30) (x := (u.1.2.2.1 r)) (y := 3) dX7_allTimes_14 (by decide) (by omega) (by decide) (fun c_14 => ?_) (fun c_14 => ?_)
    · skip
      refine lv_iload_n SS.1 SS.2.1 dX7_allTimes_30 rfl (lv_at hl 1 rfl) ?_
      refine lv_i2l SS.1 SS.2.1 dX7_allTimes_31 rfl ?_
      refine lv_iload_n SS.1 SS.2.1 dX7_allTimes_32 rfl (lv_at hl 1 rfl) ?_
      refine lv_i2l SS.1 SS.2.1 dX7_allTimes_33 rfl ?_
      refine lv_lmul SS.1 SS.2.1 dX7_allTimes_34 ?_
      refine lv_aload_n SS.1 SS.2.1 dX7_allTimes_35 rfl (lv_at hl 0 rfl) ?_
      refine j_vRi SS (As := []) (rest := [.long (((J n).toInt64) * ((J n).toInt64))]) (c_X7_area l D q u r (by omega) K  (show 0 ≤ K ∧ K ≤ 80 from (p0)) (show RB K u r from (p1))) mf_X7_area kw_551 hG hP hP (ci := 7) (q0 := (9 + 5 * r)) rfl (cw_ring (by omega)) rfl rfl hl.1 ⟨⟨Nat.le_of_ble_eq_true rfl, Nat.le_of_ble_eq_true rfl⟩, Nat.le_of_ble_eq_true rfl, Nat.le_refl _, Nat.le_refl _⟩ rfl dX7_allTimes_36 (fun z_36 h_36 => ?_)
      have h_36 : z_36 = rA u r ∧ -10000000 ≤ z_36 ∧ z_36 ≤ 10000000 := h_36
      refine lv_i2l SS.1 SS.2.1 dX7_allTimes_39 rfl ?_
      refine lv_lmul SS.1 SS.2.1 dX7_allTimes_40 ?_
      refine lv_iload_n SS.1 SS.2.1 dX7_allTimes_41 rfl (lv_at hl 1 rfl) ?_
      refine lv_i2l SS.1 SS.2.1 dX7_allTimes_42 rfl ?_
      refine lv_aload_n SS.1 SS.2.1 dX7_allTimes_43 rfl (lv_at hl 0 rfl) ?_
      refine j_vRi SS (As := []) (rest := [.long ((J n).toInt64), .long ((((J n).toInt64) * ((J n).toInt64)) * ((J z_36).toInt64))]) (c_X7_onEdge l D q u r (by omega) K  (show 0 ≤ K ∧ K ≤ 80 from (p0)) (show RB K u r from (p1))) mf_X7_onEdge kw_552 hG hP hP (ci := 7) (q0 := (9 + 5 * r)) rfl (cw_ring (by omega)) rfl rfl hl.1 ⟨⟨Nat.le_of_ble_eq_true rfl, Nat.le_of_ble_eq_true rfl⟩, Nat.le_of_ble_eq_true rfl, Nat.le_refl _, Nat.le_refl _⟩ rfl dX7_allTimes_44 (fun z_44 h_44 => ?_)
      have h_44 : z_44 = rE u r ∧ 0 ≤ z_44 ∧ z_44 ≤ 60000 := h_44
      refine lv_i2l SS.1 SS.2.1 dX7_allTimes_47 rfl ?_
      refine lv_lmul SS.1 SS.2.1 dX7_allTimes_48 ?_
      refine lv_ladd SS.1 SS.2.1 dX7_allTimes_49 ?_
      refine lv_ldc2 SS.1 SS.2.1 SS.2.2.2.1 (SS.2.2.2.2 _ kw_567) dX7_allTimes_50 ?_
      refine lv_ldiv SS.1 SS.2.1 dX7_allTimes_53 (by decide +kernel) (lv_topl (fun x_53 ex_53 => ?_))
      refine lv_lconst (v := 1) SS.1 SS.2.1 dX7_allTimes_54 (by decide +kernel) ?_
      refine lv_ladd SS.1 SS.2.1 dX7_allTimes_55 ?_
      exact W.lret SS.1 SS.2.1 hr (fun t0 ht hW => ⟨_, rfl, (trivial), ht⟩) (fun _ h => nomatch h) dX7_allTimes_56 hlk
    · skip
      refine lv_iload_n SS.1 SS.2.1 dX7_allTimes_17 rfl (lv_at hl 1 rfl) ?_
      refine lv_i2l SS.1 SS.2.1 dX7_allTimes_18 rfl ?_
      refine lv_aload_n SS.1 SS.2.1 dX7_allTimes_19 rfl (lv_at hl 0 rfl) ?_
      refine j_vRi SS (As := []) (rest := [.long ((J n).toInt64)]) (c_X7_onEdge l D q u r (by omega) K  (show 0 ≤ K ∧ K ≤ 80 from (p0)) (show RB K u r from (p1))) mf_X7_onEdge kw_552 hG hP hP (ci := 7) (q0 := (9 + 5 * r)) rfl (cw_ring (by omega)) rfl rfl hl.1 ⟨⟨Nat.le_of_ble_eq_true rfl, Nat.le_of_ble_eq_true rfl⟩, Nat.le_of_ble_eq_true rfl, Nat.le_refl _, Nat.le_refl _⟩ rfl dX7_allTimes_20 (fun z_20 h_20 => ?_)
      have h_20 : z_20 = rE u r ∧ 0 ≤ z_20 ∧ z_20 ≤ 60000 := h_20
      refine j_iconst SS dX7_allTimes_23 ?_
      refine j_isub SS (x := z_20) (y := 1) dX7_allTimes_24 ?_
      refine lv_i2l SS.1 SS.2.1 dX7_allTimes_25 rfl ?_
      refine lv_lmul SS.1 SS.2.1 dX7_allTimes_26 ?_
      refine lv_lconst (v := 1) SS.1 SS.2.1 dX7_allTimes_27 (by decide +kernel) ?_
      refine lv_ladd SS.1 SS.2.1 dX7_allTimes_28 ?_
      exact W.lret SS.1 SS.2.1 hr (fun t0 ht hW => ⟨_, rfl, (trivial), ht⟩) (fun _ h => nomatch h) dX7_allTimes_29 hlk
  · skip
    refine lv_lconst (v := 0) SS.1 SS.2.1 dX7_allTimes_7 (by decide +kernel) ?_
    exact W.lret SS.1 SS.2.1 hr (fun t0 ht hW => ⟨_, rfl, (trivial), ht⟩) (fun _ h => nomatch h) dX7_allTimes_8 hlk

set_option maxHeartbeats 4000000 in
set_option maxRecDepth 100000 in
theorem c_X7_insideTimes (l : Launch) (D : JD) (q : Nat → Nat) (u : CS) (r : Nat) (hr : r ≤ 8) (K : Int) (n : Int) (p0 : 0 ≤ K ∧ K ≤ 80) (p1 : RB K u r) (p2 : -2147483648 ≤ n ∧ n ≤ 2147483647) : Met l yX7_insideTimes (jw yX7_insideTimes cX7_insideTimes 2 (some .long)) (jr 4 88) (jP [.ref (q (9 + 5 * r)), .int (J n)] D (fun H => va_P D.1 j_cl (cW D q u) H)) (vp_Sl (fun x9 => True)) 0 0 (fun _ => False) := by
  refine Met.ofW (cc := cX7_insideTimes) (maxL := 2) (ret := (some .long)) (by decide) rfl ?_
  intro pr en st mi args below meth co s₁ B hml hv
  obtain ⟨rfl, hG, hP⟩ := hv
  have hr := B.returns
  have hlk := B.notSynchronized
  have SS : jS pr mi co cX7_insideTimes 2 st _ RX7 := ⟨B.exec, B.bytes, hml, findClass_of_methodNamed B.named, fun w hw => atoms_spec (ws := (jw yX7_insideTimes cX7_insideTimes 2 (some .long))) B.pre w (List.mem_cons_of_mem _ hw)⟩
  have hl := lv_entry ([.ref (q (9 + 5 * r)), .int (J n)]) (n := 2) (Nat.le_of_ble_eq_true rfl)
  rw [lg_entry_eq]
  generalize (lg_sl ([.ref (q (9 + 5 * r)), .int (J n)]) ++ List.replicate (2 - (lg_sl ([.ref (q (9 + 5 * r)), .int (J n)])).length) Slot.unset).toArray = ls at hl ⊢
  have hl : lv_has ls 2 [(0, .ref (q (9 + 5 * r))), (1, .int (J n))] := hl
  have hc := p1.1
  have hrl := rl_b r
  refine lv_iload_n SS.1 SS.2.1 dX7_insideTimes_0 rfl (lv_at hl 1 rfl) ?_
  refine j_if_ne SS (tgt := 8) (x := n) dX7_insideTimes_1 (by decide) (by omega) (fun c_1 => ?_) (fun c_1 => ?_)
  · skip
    refine lv_iload_n SS.1 SS.2.1 dX7_insideTimes_8 rfl (lv_at hl 1 rfl) ?_
    refine lv_i2l SS.1 SS.2.1 dX7_insideTimes_9 rfl ?_
    refine lv_iload_n SS.1 SS.2.1 dX7_insideTimes_10 rfl (lv_at hl 1 rfl) ?_
    refine lv_i2l SS.1 SS.2.1 dX7_insideTimes_11 rfl ?_
    refine lv_lmul SS.1 SS.2.1 dX7_insideTimes_12 ?_
    refine lv_aload_n SS.1 SS.2.1 dX7_insideTimes_13 rfl (lv_at hl 0 rfl) ?_
    refine j_vRi SS (As := []) (rest := [.long (((J n).toInt64) * ((J n).toInt64))]) (c_X7_area l D q u r (by omega) K  (show 0 ≤ K ∧ K ≤ 80 from (p0)) (show RB K u r from (p1))) mf_X7_area kw_551 hG hP hP (ci := 7) (q0 := (9 + 5 * r)) rfl (cw_ring (by omega)) rfl rfl hl.1 ⟨⟨Nat.le_of_ble_eq_true rfl, Nat.le_of_ble_eq_true rfl⟩, Nat.le_of_ble_eq_true rfl, Nat.le_refl _, Nat.le_refl _⟩ rfl dX7_insideTimes_14 (fun z_14 h_14 => ?_)
    have h_14 : z_14 = rA u r ∧ -10000000 ≤ z_14 ∧ z_14 ≤ 10000000 := h_14
    refine lv_i2l SS.1 SS.2.1 dX7_insideTimes_17 rfl ?_
    refine lv_lmul SS.1 SS.2.1 dX7_insideTimes_18 ?_
    refine lv_iload_n SS.1 SS.2.1 dX7_insideTimes_19 rfl (lv_at hl 1 rfl) ?_
    refine lv_i2l SS.1 SS.2.1 dX7_insideTimes_20 rfl ?_
    refine lv_aload_n SS.1 SS.2.1 dX7_insideTimes_21 rfl (lv_at hl 0 rfl) ?_
    refine j_vRi SS (As := []) (rest := [.long ((J n).toInt64), .long ((((J n).toInt64) * ((J n).toInt64)) * ((J z_14).toInt64))]) (c_X7_onEdge l D q u r (by omega) K  (show 0 ≤ K ∧ K ≤ 80 from (p0)) (show RB K u r from (p1))) mf_X7_onEdge kw_552 hG hP hP (ci := 7) (q0 := (9 + 5 * r)) rfl (cw_ring (by omega)) rfl rfl hl.1 ⟨⟨Nat.le_of_ble_eq_true rfl, Nat.le_of_ble_eq_true rfl⟩, Nat.le_of_ble_eq_true rfl, Nat.le_refl _, Nat.le_refl _⟩ rfl dX7_insideTimes_22 (fun z_22 h_22 => ?_)
    have h_22 : z_22 = rE u r ∧ 0 ≤ z_22 ∧ z_22 ≤ 60000 := h_22
    refine lv_i2l SS.1 SS.2.1 dX7_insideTimes_25 rfl ?_
    refine lv_lmul SS.1 SS.2.1 dX7_insideTimes_26 ?_
    refine lv_lsub SS.1 SS.2.1 dX7_insideTimes_27 ?_
    refine lv_ldc2 SS.1 SS.2.1 SS.2.2.2.1 (SS.2.2.2.2 _ kw_567) dX7_insideTimes_28 ?_
    refine lv_ldiv SS.1 SS.2.1 dX7_insideTimes_31 (by decide +kernel) (lv_topl (fun x_31 ex_31 => ?_))
    refine lv_lconst (v := 1) SS.1 SS.2.1 dX7_insideTimes_32 (by decide +kernel) ?_
    refine lv_ladd SS.1 SS.2.1 dX7_insideTimes_33 ?_
    exact W.lret SS.1 SS.2.1 hr (fun t0 ht hW => ⟨_, rfl, (trivial), ht⟩) (fun _ h => nomatch h) dX7_insideTimes_34 hlk
  · skip
    refine lv_lconst (v := 0) SS.1 SS.2.1 dX7_insideTimes_4 (by decide +kernel) ?_
    refine lv_goto (tgt := 34) SS.1 SS.2.1 dX7_insideTimes_5 (by decide) ?_
    exact W.lret SS.1 SS.2.1 hr (fun t0 ht hW => ⟨_, rfl, (trivial), ht⟩) (fun _ h => nomatch h) dX7_insideTimes_34 hlk

set_option maxHeartbeats 4000000 in
set_option maxRecDepth 100000 in
theorem c_X7_leftmost (l : Launch) (D : JD) (q : Nat → Nat) (u : CS) (r : Nat) (hr : r ≤ 8) (K : Int) (p0 : 0 ≤ K ∧ K ≤ 80) (p1 : RB K u r) : Met l yX7_leftmost (jw yX7_leftmost cX7_leftmost 1 (some .int)) (jr 1 21) (jP [.ref (q (9 + 5 * r))] D (fun H => va_P D.1 j_cl (cW D q u) H)) (jRi (fun z => z = rx u r 0 ∧ -K ≤ z ∧ z ≤ K)) 0 0 (fun _ => False) := by
  refine Met.ofW (cc := cX7_leftmost) (maxL := 1) (ret := (some .int)) (by decide) rfl ?_
  intro pr en st mi args below meth co s₁ B hml hv
  obtain ⟨rfl, hG, hP⟩ := hv
  have hr := B.returns
  have hlk := B.notSynchronized
  have SS : jS pr mi co cX7_leftmost 1 st _ RX7 := ⟨B.exec, B.bytes, hml, findClass_of_methodNamed B.named, fun w hw => atoms_spec (ws := (jw yX7_leftmost cX7_leftmost 1 (some .int))) B.pre w (List.mem_cons_of_mem _ hw)⟩
  have hl := lv_entry ([.ref (q (9 + 5 * r))]) (n := 1) (Nat.le_of_ble_eq_true rfl)
  rw [lg_entry_eq]
  generalize (lg_sl ([.ref (q (9 + 5 * r))]) ++ List.replicate (1 - (lg_sl ([.ref (q (9 + 5 * r))])).length) Slot.unset).toArray = ls at hl ⊢
  have hl : lv_has ls 1 [(0, .ref (q (9 + 5 * r)))] := hl
  have hc := p1.1
  have hrl := rl_b r
  refine lv_aload_n SS.1 SS.2.1 dX7_leftmost_0 rfl (lv_at hl 0 rfl) ?_
  refine j_iconst SS dX7_leftmost_1 ?_
  refine j_uRi SS (As := [.int (J 0)]) (rest := []) (c_X8_x l D q u r (by omega) 0 (show -2147483648 ≤ (0 : Int) ∧ (0 : Int) ≤ 2147483647 from (by omega))) mu_7_x kw_501 hG hP hP (ci := 7) (q0 := (9 + 5 * r)) rfl (cw_ring (by omega)) rfl rfl hl.1 ⟨⟨Nat.le_of_ble_eq_true rfl, Nat.le_of_ble_eq_true rfl⟩, Nat.le_of_ble_eq_true rfl, Nat.le_refl _, Nat.le_refl _⟩ rfl dX7_leftmost_2 (fun z_2 h_2 => ?_)
  have h_2 : z_2 = rx u r (0 : Int) ∧ ∀ K : Int, 0 ≤ K → RB K u r → -K ≤ z_2 ∧ z_2 ≤ K := h_2
  have hb_2 := h_2.2 K (by omega) (p1)
  exact W.iret SS.1 SS.2.1 hr (fun t0 ht hW => ⟨_, rfl, ⟨z_2, rfl, (⟨h_2.1, hb_2.1, hb_2.2⟩)⟩, ht⟩) (fun _ h => nomatch h) dX7_leftmost_5 hlk

set_option maxHeartbeats 4000000 in
set_option maxRecDepth 100000 in
theorem c_X7_rightmost (l : Launch) (D : JD) (q : Nat → Nat) (u : CS) (r : Nat) (hr : r ≤ 8) (K : Int) (p0 : 0 ≤ K ∧ K ≤ 80) (p1 : RB K u r) : Met l yX7_rightmost (jw yX7_rightmost cX7_rightmost 3 (some .int)) (jr 1 21) (jP [.ref (q (9 + 5 * r))] D (fun H => va_P D.1 j_cl (cW D q u) H)) (jRi (fun z => -K ≤ z ∧ z ≤ K)) 0 0 (fun _ => False) := by
  refine Met.ofW (cc := cX7_rightmost) (maxL := 3) (ret := (some .int)) (by decide) rfl ?_
  intro pr en st mi args below meth co s₁ B hml hv
  obtain ⟨rfl, hG, hP⟩ := hv
  have hr := B.returns
  have hlk := B.notSynchronized
  have SS : jS pr mi co cX7_rightmost 3 st _ RX7 := ⟨B.exec, B.bytes, hml, findClass_of_methodNamed B.named, fun w hw => atoms_spec (ws := (jw yX7_rightmost cX7_rightmost 3 (some .int))) B.pre w (List.mem_cons_of_mem _ hw)⟩
  have hl := lv_entry ([.ref (q (9 + 5 * r))]) (n := 3) (Nat.le_of_ble_eq_true rfl)
  rw [lg_entry_eq]
  generalize (lg_sl ([.ref (q (9 + 5 * r))]) ++ List.replicate (3 - (lg_sl ([.ref (q (9 + 5 * r))])).length) Slot.unset).toArray = ls at hl ⊢
  have hl : lv_has ls 3 [(0, .ref (q (9 + 5 * r)))] := hl
  have hc := p1.1
  have hrl := rl_b r
  refine lv_aload_n SS.1 SS.2.1 dX7_rightmost_0 rfl (lv_at hl 0 rfl) ?_
  refine j_iconst SS dX7_rightmost_1 ?_
  refine j_uRi SS (As := [.int (J 0)]) (rest := []) (c_X8_x l D q u r (by omega) 0 (show -2147483648 ≤ (0 : Int) ∧ (0 : Int) ≤ 2147483647 from (by omega))) mu_7_x kw_501 hG hP hP (ci := 7) (q0 := (9 + 5 * r)) rfl (cw_ring (by omega)) rfl rfl hl.1 ⟨⟨Nat.le_of_ble_eq_true rfl, Nat.le_of_ble_eq_true rfl⟩, Nat.le_of_ble_eq_true rfl, Nat.le_refl _, Nat.le_refl _⟩ rfl dX7_rightmost_2 (fun z_2 h_2 => ?_)
  have h_2 : z_2 = rx u r (0 : Int) ∧ ∀ K : Int, 0 ≤ K → RB K u r → -K ≤ z_2 ∧ z_2 ≤ K := h_2
  have hb_2 := h_2.2 K (by omega) (p1)
  refine lv_istore_n (lv' := [(1, .int (J z_2)), (0, .ref (q (9 + 5 * r)))]) SS.1 SS.2.1 dX7_rightmost_5 rfl hl (by decide) rfl (fun ls hl => ?_)
  refine j_iconst SS dX7_rightmost_6 ?_
  refine lv_istore_n (lv' := [(2, .int (J 1)), (1, .int (J z_2)), (0, .ref (q (9 + 5 * r)))]) SS.1 SS.2.1 dX7_rightmost_7 rfl hl (by decide) rfl (fun ls hl => ?_)
  have L_8 : ∀ (nn : Nat) (t : Int) (i : Int) (ls : Array Slot) (hl : lv_has ls 3 [(0, .ref (q (9 + 5 * r))), (1, .int (J t)), (2, .int (J i))]) (i8_0 : 1 ≤ i ∧ (i ≤ u.1.2.2.1 r ∨ i = 1)) (i8_1 : -K ≤ t ∧ t ≤ K), (u.1.2.2.1 r - i).toNat < nn → W pr l en (headSpec (jw yX7_rightmost cX7_rightmost 3 (some .int)) (jr 1 21)).room st mi (([.ref (q (9 + 5 * r))] : List Value).toArray) below meth co st.heap [] 0 0 (MQ below (jRi (fun z => -K ≤ z ∧ z ≤ K)) (([.ref (q (9 + 5 * r))] : List Value).toArray) st 0 0 (fun _ => False)) (F0 mi 8 ls []) := by
    intro nn
    induction nn with
    | zero => intros; omega
    | succ nn ih_8 =>
      intro t i ls hl i8_0 i8_1 hm
      refine lv_iload_n SS.1 SS.2.1 dX7_rightmost_8 rfl (lv_at hl 2 rfl) ?_
      refine lv_aload_n SS.1 SS.2.1 dX7_rightmost_9 rfl (lv_at hl 0 rfl) ?_
      refine j_getS SS hG hP (9 + 5 * r) (v := .int (J (u.1.2.2.1 r))) (C := RX7) (T := TX7) (N := 3) (cw_ring (by omega)) rfl inX7 2 (by decide) (ref := "GridPolygons$Ring") kw_131 kw_132 rfl dX7_rightmost_10 ?_
      refine j_icmp_ge SS (tgt := 32) (x := i) (y := (u.1.2.2.1 r)) dX7_rightmost_13 (by decide) (by omega) (by omega) (fun c_13 => ?_) (fun c_13 => ?_)
      · skip
        refine lv_iload_n SS.1 SS.2.1 dX7_rightmost_32 rfl (lv_at hl 1 rfl) ?_
        exact W.iret SS.1 SS.2.1 hr (fun t0 ht hW => ⟨_, rfl, ⟨t, rfl, (by omega)⟩, ht⟩) (fun _ h => nomatch h) dX7_rightmost_33 hlk
      · skip
        refine lv_iload_n SS.1 SS.2.1 dX7_rightmost_16 rfl (lv_at hl 1 rfl) ?_
        refine lv_aload_n SS.1 SS.2.1 dX7_rightmost_17 rfl (lv_at hl 0 rfl) ?_
        refine lv_iload_n SS.1 SS.2.1 dX7_rightmost_18 rfl (lv_at hl 2 rfl) ?_
        refine j_uRi SS (As := [.int (J i)]) (rest := [.int (J t)]) (c_X8_x l D q u r (by omega) i (show -2147483648 ≤ i ∧ i ≤ 2147483647 from (by omega))) mu_7_x kw_501 hG hP hP (ci := 7) (q0 := (9 + 5 * r)) rfl (cw_ring (by omega)) rfl rfl hl.1 ⟨⟨Nat.le_of_ble_eq_true rfl, Nat.le_of_ble_eq_true rfl⟩, Nat.le_of_ble_eq_true rfl, Nat.le_refl _, Nat.le_refl _⟩ rfl dX7_rightmost_19 (fun z_19 h_19 => ?_)
        have h_19 : z_19 = rx u r i ∧ ∀ K : Int, 0 ≤ K → RB K u r → -K ≤ z_19 ∧ z_19 ≤ K := h_19
        have hb_19 := h_19.2 K (by omega) (p1)
        refine j_sRi SS (As := [.int (J t), .int (J z_19)]) (rest := []) (c_J9_max_7cf53 l D  t z_19 (show -2147483648 ≤ t ∧ t ≤ 2147483647 from (by omega)) (show -2147483648 ≤ z_19 ∧ z_19 ≤ 2147483647 from (by omega))) mf_J9_max_7cf53 kw_593 hG trivial rfl hl.1 ⟨⟨Nat.le_of_ble_eq_true rfl, Nat.le_of_ble_eq_true rfl⟩, Nat.le_of_ble_eq_true rfl, Nat.le_refl _, Nat.le_refl _⟩ rfl dX7_rightmost_22 (fun z_22 h_22 => ?_)
        have h_22 : (z_22 = t ∨ z_22 = z_19) ∧ t ≤ z_22 ∧ z_19 ≤ z_22 := h_22
        refine lv_istore_n (lv' := [(1, .int (J z_22)), (0, .ref (q (9 + 5 * r))), (2, .int (J i))]) SS.1 SS.2.1 dX7_rightmost_25 rfl hl (by decide) rfl (fun ls hl => ?_)
        refine lv_iinc (v := J (i + 1)) (lv' := [(2, .int (J (i + 1))), (1, .int (J z_22)), (0, .ref (q (9 + 5 * r)))]) SS.1 SS.2.1 dX7_rightmost_26 hl (k := 2) rfl (J_add _ _) (by decide) rfl (fun ls hl => ?_)
        refine lv_goto (tgt := 8) SS.1 SS.2.1 dX7_rightmost_29 (by decide) ?_
        exact ih_8 z_22 (i + 1) ls (lv_sub hl [2, 1, 0] rfl) (by omega) (by omega) (by omega)
  exact L_8 ((u.1.2.2.1 r - (1 : Int)).toNat + 1) z_2 1 ls (lv_sub hl [2, 1, 0] rfl) (by omega) (by omega) (Nat.lt_succ_self _)

set_option maxHeartbeats 4000000 in
set_option maxRecDepth 100000 in
theorem c_X7_bottom (l : Launch) (D : JD) (q : Nat → Nat) (u : CS) (r : Nat) (hr : r ≤ 8) (K : Int) (p0 : 0 ≤ K ∧ K ≤ 80) (p1 : RB K u r) : Met l yX7_bottom (jw yX7_bottom cX7_bottom 3 (some .int)) (jr 1 21) (jP [.ref (q (9 + 5 * r))] D (fun H => va_P D.1 j_cl (cW D q u) H)) (jRi (fun z => -K ≤ z ∧ z ≤ K)) 0 0 (fun _ => False) := by
  refine Met.ofW (cc := cX7_bottom) (maxL := 3) (ret := (some .int)) (by decide) rfl ?_
  intro pr en st mi args below meth co s₁ B hml hv
  obtain ⟨rfl, hG, hP⟩ := hv
  have hr := B.returns
  have hlk := B.notSynchronized
  have SS : jS pr mi co cX7_bottom 3 st _ RX7 := ⟨B.exec, B.bytes, hml, findClass_of_methodNamed B.named, fun w hw => atoms_spec (ws := (jw yX7_bottom cX7_bottom 3 (some .int))) B.pre w (List.mem_cons_of_mem _ hw)⟩
  have hl := lv_entry ([.ref (q (9 + 5 * r))]) (n := 3) (Nat.le_of_ble_eq_true rfl)
  rw [lg_entry_eq]
  generalize (lg_sl ([.ref (q (9 + 5 * r))]) ++ List.replicate (3 - (lg_sl ([.ref (q (9 + 5 * r))])).length) Slot.unset).toArray = ls at hl ⊢
  have hl : lv_has ls 3 [(0, .ref (q (9 + 5 * r)))] := hl
  have hc := p1.1
  have hrl := rl_b r
  refine lv_aload_n SS.1 SS.2.1 dX7_bottom_0 rfl (lv_at hl 0 rfl) ?_
  refine j_iconst SS dX7_bottom_1 ?_
  refine j_uRi SS (As := [.int (J 0)]) (rest := []) (c_X8_y l D q u r (by omega) 0 (show -2147483648 ≤ (0 : Int) ∧ (0 : Int) ≤ 2147483647 from (by omega))) mu_7_y kw_503 hG hP hP (ci := 7) (q0 := (9 + 5 * r)) rfl (cw_ring (by omega)) rfl rfl hl.1 ⟨⟨Nat.le_of_ble_eq_true rfl, Nat.le_of_ble_eq_true rfl⟩, Nat.le_of_ble_eq_true rfl, Nat.le_refl _, Nat.le_refl _⟩ rfl dX7_bottom_2 (fun z_2 h_2 => ?_)
  have h_2 : z_2 = ry9 u r (0 : Int) ∧ ∀ K : Int, 0 ≤ K → RB K u r → -K ≤ z_2 ∧ z_2 ≤ K := h_2
  have hb_2 := h_2.2 K (by omega) (p1)
  refine lv_istore_n (lv' := [(1, .int (J z_2)), (0, .ref (q (9 + 5 * r)))]) SS.1 SS.2.1 dX7_bottom_5 rfl hl (by decide) rfl (fun ls hl => ?_)
  refine j_iconst SS dX7_bottom_6 ?_
  refine lv_istore_n (lv' := [(2, .int (J 1)), (1, .int (J z_2)), (0, .ref (q (9 + 5 * r)))]) SS.1 SS.2.1 dX7_bottom_7 rfl hl (by decide) rfl (fun ls hl => ?_)
  have L_8 : ∀ (nn : Nat) (t : Int) (i : Int) (ls : Array Slot) (hl : lv_has ls 3 [(0, .ref (q (9 + 5 * r))), (1, .int (J t)), (2, .int (J i))]) (i8_0 : 1 ≤ i ∧ (i ≤ u.1.2.2.1 r ∨ i = 1)) (i8_1 : -K ≤ t ∧ t ≤ K), (u.1.2.2.1 r - i).toNat < nn → W pr l en (headSpec (jw yX7_bottom cX7_bottom 3 (some .int)) (jr 1 21)).room st mi (([.ref (q (9 + 5 * r))] : List Value).toArray) below meth co st.heap [] 0 0 (MQ below (jRi (fun z => -K ≤ z ∧ z ≤ K)) (([.ref (q (9 + 5 * r))] : List Value).toArray) st 0 0 (fun _ => False)) (F0 mi 8 ls []) := by
    intro nn
    induction nn with
    | zero => intros; omega
    | succ nn ih_8 =>
      intro t i ls hl i8_0 i8_1 hm
      refine lv_iload_n SS.1 SS.2.1 dX7_bottom_8 rfl (lv_at hl 2 rfl) ?_
      refine lv_aload_n SS.1 SS.2.1 dX7_bottom_9 rfl (lv_at hl 0 rfl) ?_
      refine j_getS SS hG hP (9 + 5 * r) (v := .int (J (u.1.2.2.1 r))) (C := RX7) (T := TX7) (N := 3) (cw_ring (by omega)) rfl inX7 2 (by decide) (ref := "GridPolygons$Ring") kw_131 kw_132 rfl dX7_bottom_10 ?_
      refine j_icmp_ge SS (tgt := 32) (x := i) (y := (u.1.2.2.1 r)) dX7_bottom_13 (by decide) (by omega) (by omega) (fun c_13 => ?_) (fun c_13 => ?_)
      · skip
        refine lv_iload_n SS.1 SS.2.1 dX7_bottom_32 rfl (lv_at hl 1 rfl) ?_
        exact W.iret SS.1 SS.2.1 hr (fun t0 ht hW => ⟨_, rfl, ⟨t, rfl, (by omega)⟩, ht⟩) (fun _ h => nomatch h) dX7_bottom_33 hlk
      · skip
        refine lv_iload_n SS.1 SS.2.1 dX7_bottom_16 rfl (lv_at hl 1 rfl) ?_
        refine lv_aload_n SS.1 SS.2.1 dX7_bottom_17 rfl (lv_at hl 0 rfl) ?_
        refine lv_iload_n SS.1 SS.2.1 dX7_bottom_18 rfl (lv_at hl 2 rfl) ?_
        refine j_uRi SS (As := [.int (J i)]) (rest := [.int (J t)]) (c_X8_y l D q u r (by omega) i (show -2147483648 ≤ i ∧ i ≤ 2147483647 from (by omega))) mu_7_y kw_503 hG hP hP (ci := 7) (q0 := (9 + 5 * r)) rfl (cw_ring (by omega)) rfl rfl hl.1 ⟨⟨Nat.le_of_ble_eq_true rfl, Nat.le_of_ble_eq_true rfl⟩, Nat.le_of_ble_eq_true rfl, Nat.le_refl _, Nat.le_refl _⟩ rfl dX7_bottom_19 (fun z_19 h_19 => ?_)
        have h_19 : z_19 = ry9 u r i ∧ ∀ K : Int, 0 ≤ K → RB K u r → -K ≤ z_19 ∧ z_19 ≤ K := h_19
        have hb_19 := h_19.2 K (by omega) (p1)
        refine j_sRi SS (As := [.int (J t), .int (J z_19)]) (rest := []) (c_J9_min_7cf53 l D  t z_19 (show -2147483648 ≤ t ∧ t ≤ 2147483647 from (by omega)) (show -2147483648 ≤ z_19 ∧ z_19 ≤ 2147483647 from (by omega))) mf_J9_min_7cf53 kw_602 hG trivial rfl hl.1 ⟨⟨Nat.le_of_ble_eq_true rfl, Nat.le_of_ble_eq_true rfl⟩, Nat.le_of_ble_eq_true rfl, Nat.le_refl _, Nat.le_refl _⟩ rfl dX7_bottom_22 (fun z_22 h_22 => ?_)
        have h_22 : (z_22 = t ∨ z_22 = z_19) ∧ z_22 ≤ t ∧ z_22 ≤ z_19 := h_22
        refine lv_istore_n (lv' := [(1, .int (J z_22)), (0, .ref (q (9 + 5 * r))), (2, .int (J i))]) SS.1 SS.2.1 dX7_bottom_25 rfl hl (by decide) rfl (fun ls hl => ?_)
        refine lv_iinc (v := J (i + 1)) (lv' := [(2, .int (J (i + 1))), (1, .int (J z_22)), (0, .ref (q (9 + 5 * r)))]) SS.1 SS.2.1 dX7_bottom_26 hl (k := 2) rfl (J_add _ _) (by decide) rfl (fun ls hl => ?_)
        refine lv_goto (tgt := 8) SS.1 SS.2.1 dX7_bottom_29 (by decide) ?_
        exact ih_8 z_22 (i + 1) ls (lv_sub hl [2, 1, 0] rfl) (by omega) (by omega) (by omega)
  exact L_8 ((u.1.2.2.1 r - (1 : Int)).toNat + 1) z_2 1 ls (lv_sub hl [2, 1, 0] rfl) (by omega) (by omega) (Nat.lt_succ_self _)

set_option maxHeartbeats 4000000 in
set_option maxRecDepth 100000 in
theorem c_X7_top (l : Launch) (D : JD) (q : Nat → Nat) (u : CS) (r : Nat) (hr : r ≤ 8) (K : Int) (p0 : 0 ≤ K ∧ K ≤ 80) (p1 : RB K u r) : Met l yX7_top (jw yX7_top cX7_top 3 (some .int)) (jr 1 21) (jP [.ref (q (9 + 5 * r))] D (fun H => va_P D.1 j_cl (cW D q u) H)) (jRi (fun z => -K ≤ z ∧ z ≤ K)) 0 0 (fun _ => False) := by
  refine Met.ofW (cc := cX7_top) (maxL := 3) (ret := (some .int)) (by decide) rfl ?_
  intro pr en st mi args below meth co s₁ B hml hv
  obtain ⟨rfl, hG, hP⟩ := hv
  have hr := B.returns
  have hlk := B.notSynchronized
  have SS : jS pr mi co cX7_top 3 st _ RX7 := ⟨B.exec, B.bytes, hml, findClass_of_methodNamed B.named, fun w hw => atoms_spec (ws := (jw yX7_top cX7_top 3 (some .int))) B.pre w (List.mem_cons_of_mem _ hw)⟩
  have hl := lv_entry ([.ref (q (9 + 5 * r))]) (n := 3) (Nat.le_of_ble_eq_true rfl)
  rw [lg_entry_eq]
  generalize (lg_sl ([.ref (q (9 + 5 * r))]) ++ List.replicate (3 - (lg_sl ([.ref (q (9 + 5 * r))])).length) Slot.unset).toArray = ls at hl ⊢
  have hl : lv_has ls 3 [(0, .ref (q (9 + 5 * r)))] := hl
  have hc := p1.1
  have hrl := rl_b r
  refine lv_aload_n SS.1 SS.2.1 dX7_top_0 rfl (lv_at hl 0 rfl) ?_
  refine j_iconst SS dX7_top_1 ?_
  refine j_uRi SS (As := [.int (J 0)]) (rest := []) (c_X8_y l D q u r (by omega) 0 (show -2147483648 ≤ (0 : Int) ∧ (0 : Int) ≤ 2147483647 from (by omega))) mu_7_y kw_503 hG hP hP (ci := 7) (q0 := (9 + 5 * r)) rfl (cw_ring (by omega)) rfl rfl hl.1 ⟨⟨Nat.le_of_ble_eq_true rfl, Nat.le_of_ble_eq_true rfl⟩, Nat.le_of_ble_eq_true rfl, Nat.le_refl _, Nat.le_refl _⟩ rfl dX7_top_2 (fun z_2 h_2 => ?_)
  have h_2 : z_2 = ry9 u r (0 : Int) ∧ ∀ K : Int, 0 ≤ K → RB K u r → -K ≤ z_2 ∧ z_2 ≤ K := h_2
  have hb_2 := h_2.2 K (by omega) (p1)
  refine lv_istore_n (lv' := [(1, .int (J z_2)), (0, .ref (q (9 + 5 * r)))]) SS.1 SS.2.1 dX7_top_5 rfl hl (by decide) rfl (fun ls hl => ?_)
  refine j_iconst SS dX7_top_6 ?_
  refine lv_istore_n (lv' := [(2, .int (J 1)), (1, .int (J z_2)), (0, .ref (q (9 + 5 * r)))]) SS.1 SS.2.1 dX7_top_7 rfl hl (by decide) rfl (fun ls hl => ?_)
  have L_8 : ∀ (nn : Nat) (t : Int) (i : Int) (ls : Array Slot) (hl : lv_has ls 3 [(0, .ref (q (9 + 5 * r))), (1, .int (J t)), (2, .int (J i))]) (i8_0 : 1 ≤ i ∧ (i ≤ u.1.2.2.1 r ∨ i = 1)) (i8_1 : -K ≤ t ∧ t ≤ K), (u.1.2.2.1 r - i).toNat < nn → W pr l en (headSpec (jw yX7_top cX7_top 3 (some .int)) (jr 1 21)).room st mi (([.ref (q (9 + 5 * r))] : List Value).toArray) below meth co st.heap [] 0 0 (MQ below (jRi (fun z => -K ≤ z ∧ z ≤ K)) (([.ref (q (9 + 5 * r))] : List Value).toArray) st 0 0 (fun _ => False)) (F0 mi 8 ls []) := by
    intro nn
    induction nn with
    | zero => intros; omega
    | succ nn ih_8 =>
      intro t i ls hl i8_0 i8_1 hm
      refine lv_iload_n SS.1 SS.2.1 dX7_top_8 rfl (lv_at hl 2 rfl) ?_
      refine lv_aload_n SS.1 SS.2.1 dX7_top_9 rfl (lv_at hl 0 rfl) ?_
      refine j_getS SS hG hP (9 + 5 * r) (v := .int (J (u.1.2.2.1 r))) (C := RX7) (T := TX7) (N := 3) (cw_ring (by omega)) rfl inX7 2 (by decide) (ref := "GridPolygons$Ring") kw_131 kw_132 rfl dX7_top_10 ?_
      refine j_icmp_ge SS (tgt := 32) (x := i) (y := (u.1.2.2.1 r)) dX7_top_13 (by decide) (by omega) (by omega) (fun c_13 => ?_) (fun c_13 => ?_)
      · skip
        refine lv_iload_n SS.1 SS.2.1 dX7_top_32 rfl (lv_at hl 1 rfl) ?_
        exact W.iret SS.1 SS.2.1 hr (fun t0 ht hW => ⟨_, rfl, ⟨t, rfl, (by omega)⟩, ht⟩) (fun _ h => nomatch h) dX7_top_33 hlk
      · skip
        refine lv_iload_n SS.1 SS.2.1 dX7_top_16 rfl (lv_at hl 1 rfl) ?_
        refine lv_aload_n SS.1 SS.2.1 dX7_top_17 rfl (lv_at hl 0 rfl) ?_
        refine lv_iload_n SS.1 SS.2.1 dX7_top_18 rfl (lv_at hl 2 rfl) ?_
        refine j_uRi SS (As := [.int (J i)]) (rest := [.int (J t)]) (c_X8_y l D q u r (by omega) i (show -2147483648 ≤ i ∧ i ≤ 2147483647 from (by omega))) mu_7_y kw_503 hG hP hP (ci := 7) (q0 := (9 + 5 * r)) rfl (cw_ring (by omega)) rfl rfl hl.1 ⟨⟨Nat.le_of_ble_eq_true rfl, Nat.le_of_ble_eq_true rfl⟩, Nat.le_of_ble_eq_true rfl, Nat.le_refl _, Nat.le_refl _⟩ rfl dX7_top_19 (fun z_19 h_19 => ?_)
        have h_19 : z_19 = ry9 u r i ∧ ∀ K : Int, 0 ≤ K → RB K u r → -K ≤ z_19 ∧ z_19 ≤ K := h_19
        have hb_19 := h_19.2 K (by omega) (p1)
        refine j_sRi SS (As := [.int (J t), .int (J z_19)]) (rest := []) (c_J9_max_7cf53 l D  t z_19 (show -2147483648 ≤ t ∧ t ≤ 2147483647 from (by omega)) (show -2147483648 ≤ z_19 ∧ z_19 ≤ 2147483647 from (by omega))) mf_J9_max_7cf53 kw_593 hG trivial rfl hl.1 ⟨⟨Nat.le_of_ble_eq_true rfl, Nat.le_of_ble_eq_true rfl⟩, Nat.le_of_ble_eq_true rfl, Nat.le_refl _, Nat.le_refl _⟩ rfl dX7_top_22 (fun z_22 h_22 => ?_)
        have h_22 : (z_22 = t ∨ z_22 = z_19) ∧ t ≤ z_22 ∧ z_19 ≤ z_22 := h_22
        refine lv_istore_n (lv' := [(1, .int (J z_22)), (0, .ref (q (9 + 5 * r))), (2, .int (J i))]) SS.1 SS.2.1 dX7_top_25 rfl hl (by decide) rfl (fun ls hl => ?_)
        refine lv_iinc (v := J (i + 1)) (lv' := [(2, .int (J (i + 1))), (1, .int (J z_22)), (0, .ref (q (9 + 5 * r)))]) SS.1 SS.2.1 dX7_top_26 hl (k := 2) rfl (J_add _ _) (by decide) rfl (fun ls hl => ?_)
        refine lv_goto (tgt := 8) SS.1 SS.2.1 dX7_top_29 (by decide) ?_
        exact ih_8 z_22 (i + 1) ls (lv_sub hl [2, 1, 0] rfl) (by omega) (by omega) (by omega)
  exact L_8 ((u.1.2.2.1 r - (1 : Int)).toNat + 1) z_2 1 ls (lv_sub hl [2, 1, 0] rfl) (by omega) (by omega) (Nat.lt_succ_self _)

set_option maxHeartbeats 4000000 in
set_option maxRecDepth 100000 in
theorem c_X7_lowestAt (l : Launch) (D : JD) (q : Nat → Nat) (u : CS) (r : Nat) (hr : r ≤ 8) (K : Int) (x : Int) (p0 : 0 ≤ K ∧ K ≤ 80) (p1 : RB K u r) (p2 : -200 ≤ x ∧ x ≤ 200) : Met l yX7_lowestAt (jw yX7_lowestAt cX7_lowestAt 5 (some .int)) (jr 2 44) (jP [.ref (q (9 + 5 * r)), .int (J x)] D (fun H => va_P D.1 j_cl (cW D q u) H)) (jRi (fun z => -K ≤ z ∧ z ≤ 60000)) 0 0 (fun _ => False) := by
  refine Met.ofW (cc := cX7_lowestAt) (maxL := 5) (ret := (some .int)) (by decide) rfl ?_
  intro pr en st mi args below meth co s₁ B hml hv
  obtain ⟨rfl, hG, hP⟩ := hv
  have hr := B.returns
  have hlk := B.notSynchronized
  have SS : jS pr mi co cX7_lowestAt 5 st _ RX7 := ⟨B.exec, B.bytes, hml, findClass_of_methodNamed B.named, fun w hw => atoms_spec (ws := (jw yX7_lowestAt cX7_lowestAt 5 (some .int))) B.pre w (List.mem_cons_of_mem _ hw)⟩
  have hl := lv_entry ([.ref (q (9 + 5 * r)), .int (J x)]) (n := 5) (Nat.le_of_ble_eq_true rfl)
  rw [lg_entry_eq]
  generalize (lg_sl ([.ref (q (9 + 5 * r)), .int (J x)]) ++ List.replicate (5 - (lg_sl ([.ref (q (9 + 5 * r)), .int (J x)])).length) Slot.unset).toArray = ls at hl ⊢
  have hl : lv_has ls 5 [(0, .ref (q (9 + 5 * r))), (1, .int (J x))] := hl
  have hc := p1.1
  have hrl := rl_b r
  refine lv_aload_n SS.1 SS.2.1 dX7_lowestAt_0 rfl (lv_at hl 0 rfl) ?_
  refine j_vRi SS (As := []) (rest := []) (c_X7_bottom l D q u r (by omega) K  (show 0 ≤ K ∧ K ≤ 80 from (p0)) (show RB K u r from (p1))) mf_X7_bottom kw_598 hG hP hP (ci := 7) (q0 := (9 + 5 * r)) rfl (cw_ring (by omega)) rfl rfl hl.1 ⟨⟨Nat.le_of_ble_eq_true rfl, Nat.le_of_ble_eq_true rfl⟩, Nat.le_of_ble_eq_true rfl, Nat.le_refl _, Nat.le_refl _⟩ rfl dX7_lowestAt_1 (fun z_1 h_1 => ?_)
  have h_1 : -K ≤ z_1 ∧ z_1 ≤ K := h_1
  refine lv_istore_n (lv' := [(2, .int (J z_1)), (0, .ref (q (9 + 5 * r))), (1, .int (J x))]) SS.1 SS.2.1 dX7_lowestAt_4 rfl hl (by decide) rfl (fun ls hl => ?_)
  refine j_iconst SS dX7_lowestAt_5 ?_
  refine lv_istore_n (lv' := [(3, .int (J 0)), (2, .int (J z_1)), (0, .ref (q (9 + 5 * r))), (1, .int (J x))]) SS.1 SS.2.1 dX7_lowestAt_6 rfl hl (by decide) rfl (fun ls hl => ?_)
  have L_7 : ∀ (nn : Nat) (t : Int) (i : Int) (ls : Array Slot) (hl : lv_has ls 5 [(0, .ref (q (9 + 5 * r))), (1, .int (J x)), (2, .int (J t)), (3, .int (J i))]) (i7_0 : 0 ≤ i ∧ i ≤ u.1.2.2.1 r) (i7_1 : -K ≤ t ∧ t ≤ 60000), (u.1.2.2.1 r - i).toNat < nn → W pr l en (headSpec (jw yX7_lowestAt cX7_lowestAt 5 (some .int)) (jr 2 44)).room st mi (([.ref (q (9 + 5 * r)), .int (J x)] : List Value).toArray) below meth co st.heap [] 0 0 (MQ below (jRi (fun z => -K ≤ z ∧ z ≤ 60000)) (([.ref (q (9 + 5 * r)), .int (J x)] : List Value).toArray) st 0 0 (fun _ => False)) (F0 mi 7 ls []) := by
    intro nn
    induction nn with
    | zero => intros; omega
    | succ nn ih_7 =>
      intro t i ls hl i7_0 i7_1 hm
      refine lv_iload_n SS.1 SS.2.1 dX7_lowestAt_7 rfl (lv_at hl 3 rfl) ?_
      refine lv_aload_n SS.1 SS.2.1 dX7_lowestAt_8 rfl (lv_at hl 0 rfl) ?_
      refine j_getS SS hG hP (9 + 5 * r) (v := .int (J (u.1.2.2.1 r))) (C := RX7) (T := TX7) (N := 3) (cw_ring (by omega)) rfl inX7 2 (by decide) (ref := "GridPolygons$Ring") kw_131 kw_132 rfl dX7_lowestAt_9 ?_
      refine j_icmp_ge SS (tgt := 62) (x := i) (y := (u.1.2.2.1 r)) dX7_lowestAt_12 (by decide) (by omega) (by omega) (fun c_12 => ?_) (fun c_12 => ?_)
      · skip
        refine lv_iload_n SS.1 SS.2.1 dX7_lowestAt_62 rfl (lv_at hl 2 rfl) ?_
        exact W.iret SS.1 SS.2.1 hr (fun t0 ht hW => ⟨_, rfl, ⟨t, rfl, (by omega)⟩, ht⟩) (fun _ h => nomatch h) dX7_lowestAt_63 hlk
      · skip
        refine lv_aload_n SS.1 SS.2.1 dX7_lowestAt_15 rfl (lv_at hl 0 rfl) ?_
        refine lv_iload_n SS.1 SS.2.1 dX7_lowestAt_16 rfl (lv_at hl 3 rfl) ?_
        refine j_vRi SS (As := [.int (J i)]) (rest := []) (c_X7_sideX l D q u r (by omega) K i (show 0 ≤ K ∧ K ≤ 80 from (p0)) (show RB K u r from (p1)) (show -1000 ≤ i ∧ i ≤ 1000 from (by omega))) mf_X7_sideX kw_529 hG hP hP (ci := 7) (q0 := (9 + 5 * r)) rfl (cw_ring (by omega)) rfl rfl hl.1 ⟨⟨Nat.le_of_ble_eq_true rfl, Nat.le_of_ble_eq_true rfl⟩, Nat.le_of_ble_eq_true rfl, Nat.le_refl _, Nat.le_refl _⟩ rfl dX7_lowestAt_17 (fun z_17 h_17 => ?_)
        have h_17 : z_17 = dX u r i ∧ -2 * K ≤ z_17 ∧ z_17 ≤ 2 * K := h_17
        refine lv_istore (lv' := [(4, .int (J z_17)), (0, .ref (q (9 + 5 * r))), (1, .int (J x)), (2, .int (J t)), (3, .int (J i))]) SS.1 SS.2.1 dX7_lowestAt_20 hl (by decide) rfl (fun ls hl => ?_)
        refine lv_iload SS.1 SS.2.1 dX7_lowestAt_22 (lv_at hl 0 rfl) ?_
        refine j_if_le SS (tgt := 56) (x := z_17) dX7_lowestAt_24 (by decide) (by omega) (fun c_24 => ?_) (fun c_24 => ?_)
        · skip
          refine lv_iinc (v := J (i + 1)) (lv' := [(3, .int (J (i + 1))), (4, .int (J z_17)), (0, .ref (q (9 + 5 * r))), (1, .int (J x)), (2, .int (J t))]) SS.1 SS.2.1 dX7_lowestAt_56 hl (k := 4) rfl (J_add _ _) (by decide) rfl (fun ls hl => ?_)
          refine lv_goto (tgt := 7) SS.1 SS.2.1 dX7_lowestAt_59 (by decide) ?_
          exact ih_7 t (i + 1) ls (lv_sub hl [2, 3, 4, 0] rfl) (by omega) (by omega) (by omega)
        · skip
          refine lv_iload_n SS.1 SS.2.1 dX7_lowestAt_27 rfl (lv_at hl 3 rfl) ?_
          refine lv_aload_n SS.1 SS.2.1 dX7_lowestAt_28 rfl (lv_at hl 1 rfl) ?_
          refine lv_iload_n SS.1 SS.2.1 dX7_lowestAt_29 rfl (lv_at hl 4 rfl) ?_
          refine j_uRi SS (As := [.int (J i)]) (rest := [.int (J t)]) (c_X8_y l D q u r (by omega) i (show -2147483648 ≤ i ∧ i ≤ 2147483647 from (by omega))) mu_7_y kw_503 hG hP hP (ci := 7) (q0 := (9 + 5 * r)) rfl (cw_ring (by omega)) rfl rfl hl.1 ⟨⟨Nat.le_of_ble_eq_true rfl, Nat.le_of_ble_eq_true rfl⟩, Nat.le_of_ble_eq_true rfl, Nat.le_refl _, Nat.le_refl _⟩ rfl dX7_lowestAt_30 (fun z_30 h_30 => ?_)
          have h_30 : z_30 = ry9 u r i ∧ ∀ K : Int, 0 ≤ K → RB K u r → -K ≤ z_30 ∧ z_30 ≤ K := h_30
          have hb_30 := h_30.2 K (by omega) (p1)
          refine lv_aload_n SS.1 SS.2.1 dX7_lowestAt_33 rfl (lv_at hl 1 rfl) ?_
          refine lv_iload_n SS.1 SS.2.1 dX7_lowestAt_34 rfl (lv_at hl 4 rfl) ?_
          refine j_uRi SS (As := [.int (J i)]) (rest := [.int (J z_30), .int (J t)]) (c_X8_x l D q u r (by omega) i (show -2147483648 ≤ i ∧ i ≤ 2147483647 from (by omega))) mu_7_x kw_501 hG hP hP (ci := 7) (q0 := (9 + 5 * r)) rfl (cw_ring (by omega)) rfl rfl hl.1 ⟨⟨Nat.le_of_ble_eq_true rfl, Nat.le_of_ble_eq_true rfl⟩, Nat.le_of_ble_eq_true rfl, Nat.le_refl _, Nat.le_refl _⟩ rfl dX7_lowestAt_35 (fun z_35 h_35 => ?_)
          have h_35 : z_35 = rx u r i ∧ ∀ K : Int, 0 ≤ K → RB K u r → -K ≤ z_35 ∧ z_35 ≤ K := h_35
          have hb_35 := h_35.2 K (by omega) (p1)
          refine lv_iload_n SS.1 SS.2.1 dX7_lowestAt_38 rfl (lv_at hl 2 rfl) ?_
          refine j_isub SS (x := z_35) (y := x) dX7_lowestAt_39 ?_
          refine lv_aload_n SS.1 SS.2.1 dX7_lowestAt_40 rfl (lv_at hl 1 rfl) ?_
          refine lv_iload_n SS.1 SS.2.1 dX7_lowestAt_41 rfl (lv_at hl 4 rfl) ?_
          refine j_vRi SS (As := [.int (J i)]) (rest := [.int (J (z_35 - x)), .int (J z_30), .int (J t)]) (c_X7_sideY l D q u r (by omega) K i (show 0 ≤ K ∧ K ≤ 80 from (p0)) (show RB K u r from (p1)) (show -1000 ≤ i ∧ i ≤ 1000 from (by omega))) mf_X7_sideY kw_521 hG hP hP (ci := 7) (q0 := (9 + 5 * r)) rfl (cw_ring (by omega)) rfl rfl hl.1 ⟨⟨Nat.le_of_ble_eq_true rfl, Nat.le_of_ble_eq_true rfl⟩, Nat.le_of_ble_eq_true rfl, Nat.le_refl _, Nat.le_refl _⟩ rfl dX7_lowestAt_42 (fun z_42 h_42 => ?_)
          have h_42 : z_42 = dY u r i ∧ -2 * K ≤ z_42 ∧ z_42 ≤ 2 * K := h_42
          refine j_imul SS (x := (z_35 - x)) (y := z_42) dX7_lowestAt_45 ?_
          have m0 := mulb (A := 280) (B := 160) (a := z_35 - x) (b := z_42) (by omega) (by omega)
          refine lv_iload SS.1 SS.2.1 dX7_lowestAt_46 (lv_at hl 0 rfl) ?_
          refine j_sRi SS (As := [.int (J ((z_35 - x) * z_42)), .int (J z_17)]) (rest := [.int (J z_30), .int (J t)]) (c_J9_floorDiv_7cf53 l D  ((z_35 - x) * z_42) z_17 (show -2147483648 < ((z_35 - x) * z_42) ∧ ((z_35 - x) * z_42) ≤ 2147483647 from (by omega)) (show 0 < z_17 ∧ z_17 ≤ 2147483647 from (by omega))) mf_J9_floorDiv_7cf53 kw_603 hG trivial rfl hl.1 ⟨⟨Nat.le_of_ble_eq_true rfl, Nat.le_of_ble_eq_true rfl⟩, Nat.le_of_ble_eq_true rfl, Nat.le_refl _, Nat.le_refl _⟩ rfl dX7_lowestAt_48 (fun z_48 h_48 => ?_)
          have h_48 : z_48 = ((z_35 - x) * z_42) / z_17 := h_48
          have m1 := mulb (A := 280) (B := 160) (a := z_35 - x) (b := z_42) (by omega) (by omega)
          have fb := fd_b (a := (z_35 - x) * z_42) (b := z_17) (K := 44800) (by omega) (by omega)
          rw [← h_48] at fb
          refine j_isub SS (x := z_30) (y := z_48) dX7_lowestAt_51 ?_
          refine j_sRi SS (As := [.int (J t), .int (J (z_30 - z_48))]) (rest := []) (c_J9_max_7cf53 l D  t (z_30 - z_48) (show -2147483648 ≤ t ∧ t ≤ 2147483647 from (by omega)) (show -2147483648 ≤ (z_30 - z_48) ∧ (z_30 - z_48) ≤ 2147483647 from (by omega))) mf_J9_max_7cf53 kw_593 hG trivial rfl hl.1 ⟨⟨Nat.le_of_ble_eq_true rfl, Nat.le_of_ble_eq_true rfl⟩, Nat.le_of_ble_eq_true rfl, Nat.le_refl _, Nat.le_refl _⟩ rfl dX7_lowestAt_52 (fun z_52 h_52 => ?_)
          have h_52 : (z_52 = t ∨ z_52 = (z_30 - z_48)) ∧ t ≤ z_52 ∧ (z_30 - z_48) ≤ z_52 := h_52
          refine lv_istore_n (lv' := [(2, .int (J z_52)), (4, .int (J z_17)), (0, .ref (q (9 + 5 * r))), (1, .int (J x)), (3, .int (J i))]) SS.1 SS.2.1 dX7_lowestAt_55 rfl hl (by decide) rfl (fun ls hl => ?_)
          refine lv_iinc (v := J (i + 1)) (lv' := [(3, .int (J (i + 1))), (2, .int (J z_52)), (4, .int (J z_17)), (0, .ref (q (9 + 5 * r))), (1, .int (J x))]) SS.1 SS.2.1 dX7_lowestAt_56 hl (k := 4) rfl (J_add _ _) (by decide) rfl (fun ls hl => ?_)
          refine lv_goto (tgt := 7) SS.1 SS.2.1 dX7_lowestAt_59 (by decide) ?_
          exact ih_7 z_52 (i + 1) ls (lv_sub hl [3, 4, 1, 0] rfl) (by omega) (by omega) (by omega)
  exact L_7 ((u.1.2.2.1 r - (0 : Int)).toNat + 1) z_1 0 ls (lv_sub hl [2, 3, 1, 0] rfl) (by omega) (by omega) (Nat.lt_succ_self _)

set_option maxHeartbeats 4000000 in
set_option maxRecDepth 100000 in
theorem c_X7_highestAt (l : Launch) (D : JD) (q : Nat → Nat) (u : CS) (r : Nat) (hr : r ≤ 8) (K : Int) (x : Int) (p0 : 0 ≤ K ∧ K ≤ 80) (p1 : RB K u r) (p2 : -200 ≤ x ∧ x ≤ 200) : Met l yX7_highestAt (jw yX7_highestAt cX7_highestAt 5 (some .int)) (jr 2 44) (jP [.ref (q (9 + 5 * r)), .int (J x)] D (fun H => va_P D.1 j_cl (cW D q u) H)) (jRi (fun z => -60000 ≤ z ∧ z ≤ K)) 0 0 (fun _ => False) := by
  refine Met.ofW (cc := cX7_highestAt) (maxL := 5) (ret := (some .int)) (by decide) rfl ?_
  intro pr en st mi args below meth co s₁ B hml hv
  obtain ⟨rfl, hG, hP⟩ := hv
  have hr := B.returns
  have hlk := B.notSynchronized
  have SS : jS pr mi co cX7_highestAt 5 st _ RX7 := ⟨B.exec, B.bytes, hml, findClass_of_methodNamed B.named, fun w hw => atoms_spec (ws := (jw yX7_highestAt cX7_highestAt 5 (some .int))) B.pre w (List.mem_cons_of_mem _ hw)⟩
  have hl := lv_entry ([.ref (q (9 + 5 * r)), .int (J x)]) (n := 5) (Nat.le_of_ble_eq_true rfl)
  rw [lg_entry_eq]
  generalize (lg_sl ([.ref (q (9 + 5 * r)), .int (J x)]) ++ List.replicate (5 - (lg_sl ([.ref (q (9 + 5 * r)), .int (J x)])).length) Slot.unset).toArray = ls at hl ⊢
  have hl : lv_has ls 5 [(0, .ref (q (9 + 5 * r))), (1, .int (J x))] := hl
  have hc := p1.1
  have hrl := rl_b r
  refine lv_aload_n SS.1 SS.2.1 dX7_highestAt_0 rfl (lv_at hl 0 rfl) ?_
  refine j_vRi SS (As := []) (rest := []) (c_X7_top l D q u r (by omega) K  (show 0 ≤ K ∧ K ≤ 80 from (p0)) (show RB K u r from (p1))) mf_X7_top kw_610 hG hP hP (ci := 7) (q0 := (9 + 5 * r)) rfl (cw_ring (by omega)) rfl rfl hl.1 ⟨⟨Nat.le_of_ble_eq_true rfl, Nat.le_of_ble_eq_true rfl⟩, Nat.le_of_ble_eq_true rfl, Nat.le_refl _, Nat.le_refl _⟩ rfl dX7_highestAt_1 (fun z_1 h_1 => ?_)
  have h_1 : -K ≤ z_1 ∧ z_1 ≤ K := h_1
  refine lv_istore_n (lv' := [(2, .int (J z_1)), (0, .ref (q (9 + 5 * r))), (1, .int (J x))]) SS.1 SS.2.1 dX7_highestAt_4 rfl hl (by decide) rfl (fun ls hl => ?_)
  refine j_iconst SS dX7_highestAt_5 ?_
  refine lv_istore_n (lv' := [(3, .int (J 0)), (2, .int (J z_1)), (0, .ref (q (9 + 5 * r))), (1, .int (J x))]) SS.1 SS.2.1 dX7_highestAt_6 rfl hl (by decide) rfl (fun ls hl => ?_)
  have L_7 : ∀ (nn : Nat) (t : Int) (i : Int) (ls : Array Slot) (hl : lv_has ls 5 [(0, .ref (q (9 + 5 * r))), (1, .int (J x)), (2, .int (J t)), (3, .int (J i))]) (i7_0 : 0 ≤ i ∧ i ≤ u.1.2.2.1 r) (i7_1 : -60000 ≤ t ∧ t ≤ K), (u.1.2.2.1 r - i).toNat < nn → W pr l en (headSpec (jw yX7_highestAt cX7_highestAt 5 (some .int)) (jr 2 44)).room st mi (([.ref (q (9 + 5 * r)), .int (J x)] : List Value).toArray) below meth co st.heap [] 0 0 (MQ below (jRi (fun z => -60000 ≤ z ∧ z ≤ K)) (([.ref (q (9 + 5 * r)), .int (J x)] : List Value).toArray) st 0 0 (fun _ => False)) (F0 mi 7 ls []) := by
    intro nn
    induction nn with
    | zero => intros; omega
    | succ nn ih_7 =>
      intro t i ls hl i7_0 i7_1 hm
      refine lv_iload_n SS.1 SS.2.1 dX7_highestAt_7 rfl (lv_at hl 3 rfl) ?_
      refine lv_aload_n SS.1 SS.2.1 dX7_highestAt_8 rfl (lv_at hl 0 rfl) ?_
      refine j_getS SS hG hP (9 + 5 * r) (v := .int (J (u.1.2.2.1 r))) (C := RX7) (T := TX7) (N := 3) (cw_ring (by omega)) rfl inX7 2 (by decide) (ref := "GridPolygons$Ring") kw_131 kw_132 rfl dX7_highestAt_9 ?_
      refine j_icmp_ge SS (tgt := 63) (x := i) (y := (u.1.2.2.1 r)) dX7_highestAt_12 (by decide) (by omega) (by omega) (fun c_12 => ?_) (fun c_12 => ?_)
      · skip
        refine lv_iload_n SS.1 SS.2.1 dX7_highestAt_63 rfl (lv_at hl 2 rfl) ?_
        exact W.iret SS.1 SS.2.1 hr (fun t0 ht hW => ⟨_, rfl, ⟨t, rfl, (by omega)⟩, ht⟩) (fun _ h => nomatch h) dX7_highestAt_64 hlk
      · skip
        refine lv_aload_n SS.1 SS.2.1 dX7_highestAt_15 rfl (lv_at hl 0 rfl) ?_
        refine lv_iload_n SS.1 SS.2.1 dX7_highestAt_16 rfl (lv_at hl 3 rfl) ?_
        refine j_vRi SS (As := [.int (J i)]) (rest := []) (c_X7_sideX l D q u r (by omega) K i (show 0 ≤ K ∧ K ≤ 80 from (p0)) (show RB K u r from (p1)) (show -1000 ≤ i ∧ i ≤ 1000 from (by omega))) mf_X7_sideX kw_529 hG hP hP (ci := 7) (q0 := (9 + 5 * r)) rfl (cw_ring (by omega)) rfl rfl hl.1 ⟨⟨Nat.le_of_ble_eq_true rfl, Nat.le_of_ble_eq_true rfl⟩, Nat.le_of_ble_eq_true rfl, Nat.le_refl _, Nat.le_refl _⟩ rfl dX7_highestAt_17 (fun z_17 h_17 => ?_)
        have h_17 : z_17 = dX u r i ∧ -2 * K ≤ z_17 ∧ z_17 ≤ 2 * K := h_17
        refine j_ineg SS dX7_highestAt_20 ?_
        refine lv_istore (lv' := [(4, .int (J (-z_17))), (0, .ref (q (9 + 5 * r))), (1, .int (J x)), (2, .int (J t)), (3, .int (J i))]) SS.1 SS.2.1 dX7_highestAt_21 hl (by decide) rfl (fun ls hl => ?_)
        refine lv_iload SS.1 SS.2.1 dX7_highestAt_23 (lv_at hl 0 rfl) ?_
        refine j_if_le SS (tgt := 57) (x := (-z_17)) dX7_highestAt_25 (by decide) (by omega) (fun c_25 => ?_) (fun c_25 => ?_)
        · skip
          refine lv_iinc (v := J (i + 1)) (lv' := [(3, .int (J (i + 1))), (4, .int (J (-z_17))), (0, .ref (q (9 + 5 * r))), (1, .int (J x)), (2, .int (J t))]) SS.1 SS.2.1 dX7_highestAt_57 hl (k := 4) rfl (J_add _ _) (by decide) rfl (fun ls hl => ?_)
          refine lv_goto (tgt := 7) SS.1 SS.2.1 dX7_highestAt_60 (by decide) ?_
          exact ih_7 t (i + 1) ls (lv_sub hl [2, 3, 4, 0] rfl) (by omega) (by omega) (by omega)
        · skip
          refine lv_iload_n SS.1 SS.2.1 dX7_highestAt_28 rfl (lv_at hl 3 rfl) ?_
          refine lv_aload_n SS.1 SS.2.1 dX7_highestAt_29 rfl (lv_at hl 1 rfl) ?_
          refine lv_iload_n SS.1 SS.2.1 dX7_highestAt_30 rfl (lv_at hl 4 rfl) ?_
          refine j_uRi SS (As := [.int (J i)]) (rest := [.int (J t)]) (c_X8_y l D q u r (by omega) i (show -2147483648 ≤ i ∧ i ≤ 2147483647 from (by omega))) mu_7_y kw_503 hG hP hP (ci := 7) (q0 := (9 + 5 * r)) rfl (cw_ring (by omega)) rfl rfl hl.1 ⟨⟨Nat.le_of_ble_eq_true rfl, Nat.le_of_ble_eq_true rfl⟩, Nat.le_of_ble_eq_true rfl, Nat.le_refl _, Nat.le_refl _⟩ rfl dX7_highestAt_31 (fun z_31 h_31 => ?_)
          have h_31 : z_31 = ry9 u r i ∧ ∀ K : Int, 0 ≤ K → RB K u r → -K ≤ z_31 ∧ z_31 ≤ K := h_31
          have hb_31 := h_31.2 K (by omega) (p1)
          refine lv_aload_n SS.1 SS.2.1 dX7_highestAt_34 rfl (lv_at hl 1 rfl) ?_
          refine lv_iload_n SS.1 SS.2.1 dX7_highestAt_35 rfl (lv_at hl 4 rfl) ?_
          refine j_uRi SS (As := [.int (J i)]) (rest := [.int (J z_31), .int (J t)]) (c_X8_x l D q u r (by omega) i (show -2147483648 ≤ i ∧ i ≤ 2147483647 from (by omega))) mu_7_x kw_501 hG hP hP (ci := 7) (q0 := (9 + 5 * r)) rfl (cw_ring (by omega)) rfl rfl hl.1 ⟨⟨Nat.le_of_ble_eq_true rfl, Nat.le_of_ble_eq_true rfl⟩, Nat.le_of_ble_eq_true rfl, Nat.le_refl _, Nat.le_refl _⟩ rfl dX7_highestAt_36 (fun z_36 h_36 => ?_)
          have h_36 : z_36 = rx u r i ∧ ∀ K : Int, 0 ≤ K → RB K u r → -K ≤ z_36 ∧ z_36 ≤ K := h_36
          have hb_36 := h_36.2 K (by omega) (p1)
          refine lv_iload_n SS.1 SS.2.1 dX7_highestAt_39 rfl (lv_at hl 2 rfl) ?_
          refine j_isub SS (x := z_36) (y := x) dX7_highestAt_40 ?_
          refine lv_aload_n SS.1 SS.2.1 dX7_highestAt_41 rfl (lv_at hl 1 rfl) ?_
          refine lv_iload_n SS.1 SS.2.1 dX7_highestAt_42 rfl (lv_at hl 4 rfl) ?_
          refine j_vRi SS (As := [.int (J i)]) (rest := [.int (J (z_36 - x)), .int (J z_31), .int (J t)]) (c_X7_sideY l D q u r (by omega) K i (show 0 ≤ K ∧ K ≤ 80 from (p0)) (show RB K u r from (p1)) (show -1000 ≤ i ∧ i ≤ 1000 from (by omega))) mf_X7_sideY kw_521 hG hP hP (ci := 7) (q0 := (9 + 5 * r)) rfl (cw_ring (by omega)) rfl rfl hl.1 ⟨⟨Nat.le_of_ble_eq_true rfl, Nat.le_of_ble_eq_true rfl⟩, Nat.le_of_ble_eq_true rfl, Nat.le_refl _, Nat.le_refl _⟩ rfl dX7_highestAt_43 (fun z_43 h_43 => ?_)
          have h_43 : z_43 = dY u r i ∧ -2 * K ≤ z_43 ∧ z_43 ≤ 2 * K := h_43
          refine j_imul SS (x := (z_36 - x)) (y := z_43) dX7_highestAt_46 ?_
          have m0 := mulb (A := 280) (B := 160) (a := z_36 - x) (b := z_43) (by omega) (by omega)
          refine lv_iload SS.1 SS.2.1 dX7_highestAt_47 (lv_at hl 0 rfl) ?_
          refine j_sRi SS (As := [.int (J ((z_36 - x) * z_43)), .int (J (-z_17))]) (rest := [.int (J z_31), .int (J t)]) (c_J9_floorDiv_7cf53 l D  ((z_36 - x) * z_43) (-z_17) (show -2147483648 < ((z_36 - x) * z_43) ∧ ((z_36 - x) * z_43) ≤ 2147483647 from (by omega)) (show 0 < (-z_17) ∧ (-z_17) ≤ 2147483647 from (by omega))) mf_J9_floorDiv_7cf53 kw_603 hG trivial rfl hl.1 ⟨⟨Nat.le_of_ble_eq_true rfl, Nat.le_of_ble_eq_true rfl⟩, Nat.le_of_ble_eq_true rfl, Nat.le_refl _, Nat.le_refl _⟩ rfl dX7_highestAt_49 (fun z_49 h_49 => ?_)
          have h_49 : z_49 = ((z_36 - x) * z_43) / (-z_17) := h_49
          have m1 := mulb (A := 280) (B := 160) (a := z_36 - x) (b := z_43) (by omega) (by omega)
          have fb := fd_b (a := (z_36 - x) * z_43) (b := (-z_17)) (K := 44800) (by omega) (by omega)
          rw [← h_49] at fb
          refine j_iadd SS (x := z_31) (y := z_49) dX7_highestAt_52 ?_
          refine j_sRi SS (As := [.int (J t), .int (J (z_31 + z_49))]) (rest := []) (c_J9_min_7cf53 l D  t (z_31 + z_49) (show -2147483648 ≤ t ∧ t ≤ 2147483647 from (by omega)) (show -2147483648 ≤ (z_31 + z_49) ∧ (z_31 + z_49) ≤ 2147483647 from (by omega))) mf_J9_min_7cf53 kw_602 hG trivial rfl hl.1 ⟨⟨Nat.le_of_ble_eq_true rfl, Nat.le_of_ble_eq_true rfl⟩, Nat.le_of_ble_eq_true rfl, Nat.le_refl _, Nat.le_refl _⟩ rfl dX7_highestAt_53 (fun z_53 h_53 => ?_)
          have h_53 : (z_53 = t ∨ z_53 = (z_31 + z_49)) ∧ z_53 ≤ t ∧ z_53 ≤ (z_31 + z_49) := h_53
          refine lv_istore_n (lv' := [(2, .int (J z_53)), (4, .int (J (-z_17))), (0, .ref (q (9 + 5 * r))), (1, .int (J x)), (3, .int (J i))]) SS.1 SS.2.1 dX7_highestAt_56 rfl hl (by decide) rfl (fun ls hl => ?_)
          refine lv_iinc (v := J (i + 1)) (lv' := [(3, .int (J (i + 1))), (2, .int (J z_53)), (4, .int (J (-z_17))), (0, .ref (q (9 + 5 * r))), (1, .int (J x))]) SS.1 SS.2.1 dX7_highestAt_57 hl (k := 4) rfl (J_add _ _) (by decide) rfl (fun ls hl => ?_)
          refine lv_goto (tgt := 7) SS.1 SS.2.1 dX7_highestAt_60 (by decide) ?_
          exact ih_7 z_53 (i + 1) ls (lv_sub hl [3, 4, 1, 0] rfl) (by omega) (by omega) (by omega)
  exact L_7 ((u.1.2.2.1 r - (0 : Int)).toNat + 1) z_1 0 ls (lv_sub hl [2, 3, 1, 0] rfl) (by omega) (by omega) (Nat.lt_succ_self _)

set_option maxHeartbeats 4000000 in
set_option maxRecDepth 100000 in
theorem c_X7_standing (l : Launch) (D : JD) (q : Nat → Nat) (u : CS) (r : Nat) (hr : r ≤ 8) (K : Int) (x : Int) (y : Int) (p0 : 0 ≤ K ∧ K ≤ 80) (p1 : RB K u r) (p2 : -200 ≤ x ∧ x ≤ 200) (p3 : -200 ≤ y ∧ y ≤ 200) : Met l yX7_standing (jw yX7_standing cX7_standing 4 (some .int)) (jr 3 68) (jP [.ref (q (9 + 5 * r)), .int (J x), .int (J y)] D (fun H => va_P D.1 j_cl (cW D q u) H)) (jRi (fun z => z = 0 ∨ z = 1 ∨ z = 2)) 0 0 (fun _ => False) := by
  refine Met.ofW (cc := cX7_standing) (maxL := 4) (ret := (some .int)) (by decide) rfl ?_
  intro pr en st mi args below meth co s₁ B hml hv
  obtain ⟨rfl, hG, hP⟩ := hv
  have hr := B.returns
  have hlk := B.notSynchronized
  have SS : jS pr mi co cX7_standing 4 st _ RX7 := ⟨B.exec, B.bytes, hml, findClass_of_methodNamed B.named, fun w hw => atoms_spec (ws := (jw yX7_standing cX7_standing 4 (some .int))) B.pre w (List.mem_cons_of_mem _ hw)⟩
  have hl := lv_entry ([.ref (q (9 + 5 * r)), .int (J x), .int (J y)]) (n := 4) (Nat.le_of_ble_eq_true rfl)
  rw [lg_entry_eq]
  generalize (lg_sl ([.ref (q (9 + 5 * r)), .int (J x), .int (J y)]) ++ List.replicate (4 - (lg_sl ([.ref (q (9 + 5 * r)), .int (J x), .int (J y)])).length) Slot.unset).toArray = ls at hl ⊢
  have hl : lv_has ls 4 [(0, .ref (q (9 + 5 * r))), (1, .int (J x)), (2, .int (J y))] := hl
  have hc := p1.1
  have hrl := rl_b r
  refine lv_aload_n SS.1 SS.2.1 dX7_standing_0 rfl (lv_at hl 0 rfl) ?_
  refine j_getS SS hG hP (9 + 5 * r) (v := .int (J (u.1.2.2.1 r))) (C := RX7) (T := TX7) (N := 3) (cw_ring (by omega)) rfl inX7 2 (by decide) (ref := "GridPolygons$Ring") kw_131 kw_132 rfl dX7_standing_1 ?_
  refine j_if_eq SS (tgt := 41) (x := (u.1.2.2.1 r)) dX7_standing_4 (by decide) (by omega) (fun c_4 => ?_) (fun c_4 => ?_)
  · skip
    refine j_iconst SS dX7_standing_41 ?_
    exact W.iret SS.1 SS.2.1 hr (fun t0 ht hW => ⟨_, rfl, ⟨0, rfl, (by omega)⟩, ht⟩) (fun _ h => nomatch h) dX7_standing_42 hlk
  · skip
    refine lv_iload_n SS.1 SS.2.1 dX7_standing_7 rfl (lv_at hl 1 rfl) ?_
    refine lv_aload_n SS.1 SS.2.1 dX7_standing_8 rfl (lv_at hl 0 rfl) ?_
    refine j_vRi SS (As := []) (rest := [.int (J x)]) (c_X7_leftmost l D q u r (by omega) K  (show 0 ≤ K ∧ K ≤ 80 from (p0)) (show RB K u r from (p1))) mf_X7_leftmost kw_585 hG hP hP (ci := 7) (q0 := (9 + 5 * r)) rfl (cw_ring (by omega)) rfl rfl hl.1 ⟨⟨Nat.le_of_ble_eq_true rfl, Nat.le_of_ble_eq_true rfl⟩, Nat.le_of_ble_eq_true rfl, Nat.le_refl _, Nat.le_refl _⟩ rfl dX7_standing_9 (fun z_9 h_9 => ?_)
    have h_9 : z_9 = rx u r 0 ∧ -K ≤ z_9 ∧ z_9 ≤ K := h_9
    refine j_icmp_lt SS (tgt := 41) (x := x) (y := z_9) dX7_standing_12 (by decide) (by omega) (by omega) (fun c_12 => ?_) (fun c_12 => ?_)
    · skip
      refine j_iconst SS dX7_standing_41 ?_
      exact W.iret SS.1 SS.2.1 hr (fun t0 ht hW => ⟨_, rfl, ⟨0, rfl, (by omega)⟩, ht⟩) (fun _ h => nomatch h) dX7_standing_42 hlk
    · skip
      refine lv_iload_n SS.1 SS.2.1 dX7_standing_15 rfl (lv_at hl 1 rfl) ?_
      refine lv_aload_n SS.1 SS.2.1 dX7_standing_16 rfl (lv_at hl 0 rfl) ?_
      refine j_vRi SS (As := []) (rest := [.int (J x)]) (c_X7_rightmost l D q u r (by omega) K  (show 0 ≤ K ∧ K ≤ 80 from (p0)) (show RB K u r from (p1))) mf_X7_rightmost kw_589 hG hP hP (ci := 7) (q0 := (9 + 5 * r)) rfl (cw_ring (by omega)) rfl rfl hl.1 ⟨⟨Nat.le_of_ble_eq_true rfl, Nat.le_of_ble_eq_true rfl⟩, Nat.le_of_ble_eq_true rfl, Nat.le_refl _, Nat.le_refl _⟩ rfl dX7_standing_17 (fun z_17 h_17 => ?_)
      have h_17 : -K ≤ z_17 ∧ z_17 ≤ K := h_17
      refine j_icmp_gt SS (tgt := 41) (x := x) (y := z_17) dX7_standing_20 (by decide) (by omega) (by omega) (fun c_20 => ?_) (fun c_20 => ?_)
      · skip
        refine j_iconst SS dX7_standing_41 ?_
        exact W.iret SS.1 SS.2.1 hr (fun t0 ht hW => ⟨_, rfl, ⟨0, rfl, (by omega)⟩, ht⟩) (fun _ h => nomatch h) dX7_standing_42 hlk
      · skip
        refine lv_iload_n SS.1 SS.2.1 dX7_standing_23 rfl (lv_at hl 2 rfl) ?_
        refine lv_aload_n SS.1 SS.2.1 dX7_standing_24 rfl (lv_at hl 0 rfl) ?_
        refine lv_iload_n SS.1 SS.2.1 dX7_standing_25 rfl (lv_at hl 1 rfl) ?_
        refine j_vRi SS (As := [.int (J x)]) (rest := [.int (J y)]) (c_X7_lowestAt l D q u r (by omega) K x (show 0 ≤ K ∧ K ≤ 80 from (p0)) (show RB K u r from (p1)) (show -200 ≤ x ∧ x ≤ 200 from (p2))) mf_X7_lowestAt kw_594 hG hP hP (ci := 7) (q0 := (9 + 5 * r)) rfl (cw_ring (by omega)) rfl rfl hl.1 ⟨⟨Nat.le_of_ble_eq_true rfl, Nat.le_of_ble_eq_true rfl⟩, Nat.le_of_ble_eq_true rfl, Nat.le_refl _, Nat.le_refl _⟩ rfl dX7_standing_26 (fun z_26 h_26 => ?_)
        have h_26 : -K ≤ z_26 ∧ z_26 ≤ 60000 := h_26
        refine j_icmp_lt SS (tgt := 41) (x := y) (y := z_26) dX7_standing_29 (by decide) (by omega) (by omega) (fun c_29 => ?_) (fun c_29 => ?_)
        · skip
          refine j_iconst SS dX7_standing_41 ?_
          exact W.iret SS.1 SS.2.1 hr (fun t0 ht hW => ⟨_, rfl, ⟨0, rfl, (by omega)⟩, ht⟩) (fun _ h => nomatch h) dX7_standing_42 hlk
        · skip
          refine lv_iload_n SS.1 SS.2.1 dX7_standing_32 rfl (lv_at hl 2 rfl) ?_
          refine lv_aload_n SS.1 SS.2.1 dX7_standing_33 rfl (lv_at hl 0 rfl) ?_
          refine lv_iload_n SS.1 SS.2.1 dX7_standing_34 rfl (lv_at hl 1 rfl) ?_
          refine j_vRi SS (As := [.int (J x)]) (rest := [.int (J y)]) (c_X7_highestAt l D q u r (by omega) K x (show 0 ≤ K ∧ K ≤ 80 from (p0)) (show RB K u r from (p1)) (show -200 ≤ x ∧ x ≤ 200 from (p2))) mf_X7_highestAt kw_606 hG hP hP (ci := 7) (q0 := (9 + 5 * r)) rfl (cw_ring (by omega)) rfl rfl hl.1 ⟨⟨Nat.le_of_ble_eq_true rfl, Nat.le_of_ble_eq_true rfl⟩, Nat.le_of_ble_eq_true rfl, Nat.le_refl _, Nat.le_refl _⟩ rfl dX7_standing_35 (fun z_35 h_35 => ?_)
          have h_35 : -60000 ≤ z_35 ∧ z_35 ≤ K := h_35
          refine j_icmp_le SS (tgt := 43) (x := y) (y := z_35) dX7_standing_38 (by decide) (by omega) (by omega) (fun c_38 => ?_) (fun c_38 => ?_)
          · skip
            refine j_iconst SS dX7_standing_43 ?_
            refine lv_istore_n (lv' := [(3, .int (J 0)), (0, .ref (q (9 + 5 * r))), (1, .int (J x)), (2, .int (J y))]) SS.1 SS.2.1 dX7_standing_44 rfl hl (by decide) rfl (fun ls hl => ?_)
            have L_45 : ∀ (nn : Nat) (i : Int) (ls : Array Slot) (hl : lv_has ls 4 [(0, .ref (q (9 + 5 * r))), (1, .int (J x)), (2, .int (J y)), (3, .int (J i))]) (i45_0 : 0 ≤ i ∧ i ≤ u.1.2.2.1 r), (u.1.2.2.1 r - i).toNat < nn → W pr l en (headSpec (jw yX7_standing cX7_standing 4 (some .int)) (jr 3 68)).room st mi (([.ref (q (9 + 5 * r)), .int (J x), .int (J y)] : List Value).toArray) below meth co st.heap [] 0 0 (MQ below (jRi (fun z => z = 0 ∨ z = 1 ∨ z = 2)) (([.ref (q (9 + 5 * r)), .int (J x), .int (J y)] : List Value).toArray) st 0 0 (fun _ => False)) (F0 mi 45 ls []) := by
              intro nn
              induction nn with
              | zero => intros; omega
              | succ nn ih_45 =>
                intro i ls hl i45_0 hm
                refine lv_iload_n SS.1 SS.2.1 dX7_standing_45 rfl (lv_at hl 3 rfl) ?_
                refine lv_aload_n SS.1 SS.2.1 dX7_standing_46 rfl (lv_at hl 0 rfl) ?_
                refine j_getS SS hG hP (9 + 5 * r) (v := .int (J (u.1.2.2.1 r))) (C := RX7) (T := TX7) (N := 3) (cw_ring (by omega)) rfl inX7 2 (by decide) (ref := "GridPolygons$Ring") kw_131 kw_132 rfl dX7_standing_47 ?_
                refine j_icmp_ge SS (tgt := 90) (x := i) (y := (u.1.2.2.1 r)) dX7_standing_50 (by decide) (by omega) (by omega) (fun c_50 => ?_) (fun c_50 => ?_)
                · skip
                  refine j_iconst SS dX7_standing_90 ?_
                  exact W.iret SS.1 SS.2.1 hr (fun t0 ht hW => ⟨_, rfl, ⟨2, rfl, (by omega)⟩, ht⟩) (fun _ h => nomatch h) dX7_standing_91 hlk
                · skip
                  refine lv_aload_n SS.1 SS.2.1 dX7_standing_53 rfl (lv_at hl 0 rfl) ?_
                  refine lv_iload_n SS.1 SS.2.1 dX7_standing_54 rfl (lv_at hl 3 rfl) ?_
                  refine j_vRi SS (As := [.int (J i)]) (rest := []) (c_X7_sideX l D q u r (by omega) K i (show 0 ≤ K ∧ K ≤ 80 from (p0)) (show RB K u r from (p1)) (show -1000 ≤ i ∧ i ≤ 1000 from (by omega))) mf_X7_sideX kw_529 hG hP hP (ci := 7) (q0 := (9 + 5 * r)) rfl (cw_ring (by omega)) rfl rfl hl.1 ⟨⟨Nat.le_of_ble_eq_true rfl, Nat.le_of_ble_eq_true rfl⟩, Nat.le_of_ble_eq_true rfl, Nat.le_refl _, Nat.le_refl _⟩ rfl dX7_standing_55 (fun z_55 h_55 => ?_)
                  have h_55 : z_55 = dX u r i ∧ -2 * K ≤ z_55 ∧ z_55 ≤ 2 * K := h_55
                  refine lv_iload_n SS.1 SS.2.1 dX7_standing_58 rfl (lv_at hl 2 rfl) ?_
                  refine lv_aload_n SS.1 SS.2.1 dX7_standing_59 rfl (lv_at hl 0 rfl) ?_
                  refine lv_iload_n SS.1 SS.2.1 dX7_standing_60 rfl (lv_at hl 3 rfl) ?_
                  refine j_uRi SS (As := [.int (J i)]) (rest := [.int (J y), .int (J z_55)]) (c_X8_y l D q u r (by omega) i (show -2147483648 ≤ i ∧ i ≤ 2147483647 from (by omega))) mu_7_y kw_503 hG hP hP (ci := 7) (q0 := (9 + 5 * r)) rfl (cw_ring (by omega)) rfl rfl hl.1 ⟨⟨Nat.le_of_ble_eq_true rfl, Nat.le_of_ble_eq_true rfl⟩, Nat.le_of_ble_eq_true rfl, Nat.le_refl _, Nat.le_refl _⟩ rfl dX7_standing_61 (fun z_61 h_61 => ?_)
                  have h_61 : z_61 = ry9 u r i ∧ ∀ K : Int, 0 ≤ K → RB K u r → -K ≤ z_61 ∧ z_61 ≤ K := h_61
                  have hb_61 := h_61.2 K (by omega) (p1)
                  refine j_isub SS (x := y) (y := z_61) dX7_standing_64 ?_
                  refine j_imul SS (x := z_55) (y := (y - z_61)) dX7_standing_65 ?_
                  refine lv_aload_n SS.1 SS.2.1 dX7_standing_66 rfl (lv_at hl 0 rfl) ?_
                  refine lv_iload_n SS.1 SS.2.1 dX7_standing_67 rfl (lv_at hl 3 rfl) ?_
                  refine j_vRi SS (As := [.int (J i)]) (rest := [.int (J (z_55 * (y - z_61)))]) (c_X7_sideY l D q u r (by omega) K i (show 0 ≤ K ∧ K ≤ 80 from (p0)) (show RB K u r from (p1)) (show -1000 ≤ i ∧ i ≤ 1000 from (by omega))) mf_X7_sideY kw_521 hG hP hP (ci := 7) (q0 := (9 + 5 * r)) rfl (cw_ring (by omega)) rfl rfl hl.1 ⟨⟨Nat.le_of_ble_eq_true rfl, Nat.le_of_ble_eq_true rfl⟩, Nat.le_of_ble_eq_true rfl, Nat.le_refl _, Nat.le_refl _⟩ rfl dX7_standing_68 (fun z_68 h_68 => ?_)
                  have h_68 : z_68 = dY u r i ∧ -2 * K ≤ z_68 ∧ z_68 ≤ 2 * K := h_68
                  refine lv_iload_n SS.1 SS.2.1 dX7_standing_71 rfl (lv_at hl 1 rfl) ?_
                  refine lv_aload_n SS.1 SS.2.1 dX7_standing_72 rfl (lv_at hl 0 rfl) ?_
                  refine lv_iload_n SS.1 SS.2.1 dX7_standing_73 rfl (lv_at hl 3 rfl) ?_
                  refine j_uRi SS (As := [.int (J i)]) (rest := [.int (J x), .int (J z_68), .int (J (z_55 * (y - z_61)))]) (c_X8_x l D q u r (by omega) i (show -2147483648 ≤ i ∧ i ≤ 2147483647 from (by omega))) mu_7_x kw_501 hG hP hP (ci := 7) (q0 := (9 + 5 * r)) rfl (cw_ring (by omega)) rfl rfl hl.1 ⟨⟨Nat.le_of_ble_eq_true rfl, Nat.le_of_ble_eq_true rfl⟩, Nat.le_of_ble_eq_true rfl, Nat.le_refl _, Nat.le_refl _⟩ rfl dX7_standing_74 (fun z_74 h_74 => ?_)
                  have h_74 : z_74 = rx u r i ∧ ∀ K : Int, 0 ≤ K → RB K u r → -K ≤ z_74 ∧ z_74 ≤ K := h_74
                  have hb_74 := h_74.2 K (by omega) (p1)
                  refine j_isub SS (x := x) (y := z_74) dX7_standing_77 ?_
                  refine j_imul SS (x := z_68) (y := (x - z_74)) dX7_standing_78 ?_
                  have m1 := mulb (A := 160) (B := 280) (a := z_55) (b := y - z_61) (by omega) (by omega)
                  have m2 := mulb (A := 160) (B := 280) (a := z_68) (b := x - z_74) (by omega) (by omega)
                  refine j_icmp_ne SS (tgt := 84) (x := (z_55 * (y - z_61))) (y := (z_68 * (x - z_74))) dX7_standing_79 (by decide) (by omega) (by omega) (fun c_79 => ?_) (fun c_79 => ?_)
                  · skip
                    refine lv_iinc (v := J (i + 1)) (lv' := [(3, .int (J (i + 1))), (0, .ref (q (9 + 5 * r))), (1, .int (J x)), (2, .int (J y))]) SS.1 SS.2.1 dX7_standing_84 hl (k := 3) rfl (J_add _ _) (by decide) rfl (fun ls hl => ?_)
                    refine lv_goto (tgt := 45) SS.1 SS.2.1 dX7_standing_87 (by decide) ?_
                    exact ih_45 (i + 1) ls (lv_sub hl [1, 2, 3, 0] rfl) (by omega) (by omega)
                  · skip
                    refine j_iconst SS dX7_standing_82 ?_
                    exact W.iret SS.1 SS.2.1 hr (fun t0 ht hW => ⟨_, rfl, ⟨1, rfl, (by omega)⟩, ht⟩) (fun _ h => nomatch h) dX7_standing_83 hlk
            exact L_45 ((u.1.2.2.1 r - (0 : Int)).toNat + 1) 0 ls (lv_sub hl [1, 2, 3, 0] rfl) (by omega) (Nat.lt_succ_self _)
          · skip
            refine j_iconst SS dX7_standing_41 ?_
            exact W.iret SS.1 SS.2.1 hr (fun t0 ht hW => ⟨_, rfl, ⟨0, rfl, (by omega)⟩, ht⟩) (fun _ h => nomatch h) dX7_standing_42 hlk

set_option maxHeartbeats 4000000 in
set_option maxRecDepth 100000 in
theorem c_X7_coordinate (l : Launch) (D : JD) (q : Nat → Nat) (u : CS) (r : Nat) (hr : r ≤ 8) (K : Int) (i : Int) (w : Int) (p0 : 0 ≤ K ∧ K ≤ 80) (p1 : RB K u r) (p2 : 0 ≤ i ∧ i ≤ 2147483647) (p3 : -2147483648 ≤ w ∧ w ≤ 2147483647) : Met l yX7_coordinate (jw yX7_coordinate cX7_coordinate 7 (some .int)) (jr 3 68) (jP [.ref (q (9 + 5 * r)), .int (J i), .int (J w)] D (fun H => va_P D.1 j_cl (cW D q u) H)) (jRi (fun z => True)) 0 0 (fun _ => False) := by
  refine Met.ofW (cc := cX7_coordinate) (maxL := 7) (ret := (some .int)) (by decide) rfl ?_
  intro pr en st mi args below meth co s₁ B hml hv
  obtain ⟨rfl, hG, hP⟩ := hv
  have hr := B.returns
  have hlk := B.notSynchronized
  have SS : jS pr mi co cX7_coordinate 7 st _ RX7 := ⟨B.exec, B.bytes, hml, findClass_of_methodNamed B.named, fun w hw => atoms_spec (ws := (jw yX7_coordinate cX7_coordinate 7 (some .int))) B.pre w (List.mem_cons_of_mem _ hw)⟩
  have hl := lv_entry ([.ref (q (9 + 5 * r)), .int (J i), .int (J w)]) (n := 7) (Nat.le_of_ble_eq_true rfl)
  rw [lg_entry_eq]
  generalize (lg_sl ([.ref (q (9 + 5 * r)), .int (J i), .int (J w)]) ++ List.replicate (7 - (lg_sl ([.ref (q (9 + 5 * r)), .int (J i), .int (J w)])).length) Slot.unset).toArray = ls at hl ⊢
  have hl : lv_has ls 7 [(0, .ref (q (9 + 5 * r))), (1, .int (J i)), (2, .int (J w))] := hl
  have hc := p1.1
  have hrl := rl_b r
  refine lv_aload_n SS.1 SS.2.1 dX7_coordinate_0 rfl (lv_at hl 0 rfl) ?_
  refine j_getS SS hG hP (9 + 5 * r) (v := .int (J (u.1.2.2.1 r))) (C := RX7) (T := TX7) (N := 3) (cw_ring (by omega)) rfl inX7 2 (by decide) (ref := "GridPolygons$Ring") kw_131 kw_132 rfl dX7_coordinate_1 ?_
  refine j_if_ne SS (tgt := 10) (x := (u.1.2.2.1 r)) dX7_coordinate_4 (by decide) (by omega) (fun c_4 => ?_) (fun c_4 => ?_)
  · skip
    refine lv_iload_n SS.1 SS.2.1 dX7_coordinate_10 rfl (lv_at hl 1 rfl) ?_
    refine lv_istore_n (lv' := [(3, .int (J i)), (0, .ref (q (9 + 5 * r))), (1, .int (J i)), (2, .int (J w))]) SS.1 SS.2.1 dX7_coordinate_11 rfl hl (by decide) rfl (fun ls hl => ?_)
    refine lv_aload_n SS.1 SS.2.1 dX7_coordinate_12 rfl (lv_at hl 1 rfl) ?_
    refine j_vRi SS (As := []) (rest := []) (c_X7_leftmost l D q u r (by omega) K  (show 0 ≤ K ∧ K ≤ 80 from (p0)) (show RB K u r from (p1))) mf_X7_leftmost kw_585 hG hP hP (ci := 7) (q0 := (9 + 5 * r)) rfl (cw_ring (by omega)) rfl rfl hl.1 ⟨⟨Nat.le_of_ble_eq_true rfl, Nat.le_of_ble_eq_true rfl⟩, Nat.le_of_ble_eq_true rfl, Nat.le_refl _, Nat.le_refl _⟩ rfl dX7_coordinate_13 (fun z_13 h_13 => ?_)
    have h_13 : z_13 = rx u r 0 ∧ -K ≤ z_13 ∧ z_13 ≤ K := h_13
    refine lv_istore (lv' := [(4, .int (J z_13)), (3, .int (J i)), (0, .ref (q (9 + 5 * r))), (1, .int (J i)), (2, .int (J w))]) SS.1 SS.2.1 dX7_coordinate_16 hl (by decide) rfl (fun ls hl => ?_)
    have L_18 : ∀ (nn : Nat) (lf : Int) (x : Int) (ls : Array Slot) (hl : lv_has ls 7 [(0, .ref (q (9 + 5 * r))), (1, .int (J i)), (2, .int (J w)), (3, .int (J lf)), (4, .int (J x))]) (i18_0 : 0 ≤ lf ∧ lf ≤ 2147483647) (i18_1 : -80 ≤ x ∧ x ≤ 81), ((82 : Int) - x).toNat < nn → W pr l en (headSpec (jw yX7_coordinate cX7_coordinate 7 (some .int)) (jr 3 68)).room st mi (([.ref (q (9 + 5 * r)), .int (J i), .int (J w)] : List Value).toArray) below meth co st.heap [] 0 0 (MQ below (jRi (fun z => True)) (([.ref (q (9 + 5 * r)), .int (J i), .int (J w)] : List Value).toArray) st 0 0 (fun _ => False)) (F0 mi 18 ls []) := by
      intro nn
      induction nn with
      | zero => intros; omega
      | succ nn ih_18 =>
        intro lf x ls hl i18_0 i18_1 hm
        refine lv_iload SS.1 SS.2.1 dX7_coordinate_18 (lv_at hl 4 rfl) ?_
        refine lv_aload_n SS.1 SS.2.1 dX7_coordinate_20 rfl (lv_at hl 0 rfl) ?_
        refine j_vRi SS (As := []) (rest := [.int (J x)]) (c_X7_rightmost l D q u r (by omega) K  (show 0 ≤ K ∧ K ≤ 80 from (p0)) (show RB K u r from (p1))) mf_X7_rightmost kw_589 hG hP hP (ci := 7) (q0 := (9 + 5 * r)) rfl (cw_ring (by omega)) rfl rfl hl.1 ⟨⟨Nat.le_of_ble_eq_true rfl, Nat.le_of_ble_eq_true rfl⟩, Nat.le_of_ble_eq_true rfl, Nat.le_refl _, Nat.le_refl _⟩ rfl dX7_coordinate_21 (fun z_21 h_21 => ?_)
        have h_21 : -K ≤ z_21 ∧ z_21 ≤ K := h_21
        refine j_icmp_gt SS (tgt := 83) (x := x) (y := z_21) dX7_coordinate_24 (by decide) (by omega) (by omega) (fun c_24 => ?_) (fun c_24 => ?_)
        · skip
          refine j_ldc SS (-1000000) kw_622 dX7_coordinate_83 ?_
          exact W.iret SS.1 SS.2.1 hr (fun t0 ht hW => ⟨_, rfl, ⟨(-1000000), rfl, (trivial)⟩, ht⟩) (fun _ h => nomatch h) dX7_coordinate_85 hlk
        · skip
          refine lv_aload_n SS.1 SS.2.1 dX7_coordinate_27 rfl (lv_at hl 0 rfl) ?_
          refine lv_iload SS.1 SS.2.1 dX7_coordinate_28 (lv_at hl 4 rfl) ?_
          refine j_vRi SS (As := [.int (J x)]) (rest := []) (c_X7_lowestAt l D q u r (by omega) K x (show 0 ≤ K ∧ K ≤ 80 from (p0)) (show RB K u r from (p1)) (show -200 ≤ x ∧ x ≤ 200 from (by omega))) mf_X7_lowestAt kw_594 hG hP hP (ci := 7) (q0 := (9 + 5 * r)) rfl (cw_ring (by omega)) rfl rfl hl.1 ⟨⟨Nat.le_of_ble_eq_true rfl, Nat.le_of_ble_eq_true rfl⟩, Nat.le_of_ble_eq_true rfl, Nat.le_refl _, Nat.le_refl _⟩ rfl dX7_coordinate_30 (fun z_30 h_30 => ?_)
          have h_30 : -K ≤ z_30 ∧ z_30 ≤ 60000 := h_30
          refine lv_istore (lv' := [(5, .int (J z_30)), (0, .ref (q (9 + 5 * r))), (1, .int (J i)), (2, .int (J w)), (3, .int (J lf)), (4, .int (J x))]) SS.1 SS.2.1 dX7_coordinate_33 hl (by decide) rfl (fun ls hl => ?_)
          refine j_iconst SS dX7_coordinate_35 ?_
          refine lv_aload_n SS.1 SS.2.1 dX7_coordinate_36 rfl (lv_at hl 1 rfl) ?_
          refine lv_iload SS.1 SS.2.1 dX7_coordinate_37 (lv_at hl 5 rfl) ?_
          refine j_vRi SS (As := [.int (J x)]) (rest := [.int (J 0)]) (c_X7_highestAt l D q u r (by omega) K x (show 0 ≤ K ∧ K ≤ 80 from (p0)) (show RB K u r from (p1)) (show -200 ≤ x ∧ x ≤ 200 from (by omega))) mf_X7_highestAt kw_606 hG hP hP (ci := 7) (q0 := (9 + 5 * r)) rfl (cw_ring (by omega)) rfl rfl hl.1 ⟨⟨Nat.le_of_ble_eq_true rfl, Nat.le_of_ble_eq_true rfl⟩, Nat.le_of_ble_eq_true rfl, Nat.le_refl _, Nat.le_refl _⟩ rfl dX7_coordinate_39 (fun z_39 h_39 => ?_)
          have h_39 : -60000 ≤ z_39 ∧ z_39 ≤ K := h_39
          refine lv_iload SS.1 SS.2.1 dX7_coordinate_42 (lv_at hl 0 rfl) ?_
          refine j_isub SS (x := z_39) (y := z_30) dX7_coordinate_44 ?_
          refine j_iconst SS dX7_coordinate_45 ?_
          refine j_iadd SS (x := (z_39 - z_30)) (y := 1) dX7_coordinate_46 ?_
          refine j_sRi SS (As := [.int (J 0), .int (J ((z_39 - z_30) + 1))]) (rest := []) (c_J9_max_7cf53 l D  0 ((z_39 - z_30) + 1) (show -2147483648 ≤ (0 : Int) ∧ (0 : Int) ≤ 2147483647 from (by omega)) (show -2147483648 ≤ ((z_39 - z_30) + 1) ∧ ((z_39 - z_30) + 1) ≤ 2147483647 from (by omega))) mf_J9_max_7cf53 kw_593 hG trivial rfl hl.1 ⟨⟨Nat.le_of_ble_eq_true rfl, Nat.le_of_ble_eq_true rfl⟩, Nat.le_of_ble_eq_true rfl, Nat.le_refl _, Nat.le_refl _⟩ rfl dX7_coordinate_47 (fun z_47 h_47 => ?_)
          have h_47 : (z_47 = (0 : Int) ∨ z_47 = ((z_39 - z_30) + 1)) ∧ (0 : Int) ≤ z_47 ∧ ((z_39 - z_30) + 1) ≤ z_47 := h_47
          refine lv_istore (lv' := [(6, .int (J z_47)), (5, .int (J z_30)), (0, .ref (q (9 + 5 * r))), (1, .int (J i)), (2, .int (J w)), (3, .int (J lf)), (4, .int (J x))]) SS.1 SS.2.1 dX7_coordinate_50 hl (by decide) rfl (fun ls hl => ?_)
          refine lv_iload_n SS.1 SS.2.1 dX7_coordinate_52 rfl (lv_at hl 5 rfl) ?_
          refine lv_iload SS.1 SS.2.1 dX7_coordinate_53 (lv_at hl 0 rfl) ?_
          refine j_icmp_ge SS (tgt := 72) (x := lf) (y := z_47) dX7_coordinate_55 (by decide) (by omega) (by omega) (fun c_55 => ?_) (fun c_55 => ?_)
          · skip
            refine lv_iload_n SS.1 SS.2.1 dX7_coordinate_72 rfl (lv_at hl 5 rfl) ?_
            refine lv_iload SS.1 SS.2.1 dX7_coordinate_73 (lv_at hl 0 rfl) ?_
            refine j_isub SS (x := lf) (y := z_47) dX7_coordinate_75 ?_
            refine lv_istore_n (lv' := [(3, .int (J (lf - z_47))), (6, .int (J z_47)), (5, .int (J z_30)), (0, .ref (q (9 + 5 * r))), (1, .int (J i)), (2, .int (J w)), (4, .int (J x))]) SS.1 SS.2.1 dX7_coordinate_76 rfl hl (by decide) rfl (fun ls hl => ?_)
            refine lv_iinc (v := J (x + 1)) (lv' := [(4, .int (J (x + 1))), (3, .int (J (lf - z_47))), (6, .int (J z_47)), (5, .int (J z_30)), (0, .ref (q (9 + 5 * r))), (1, .int (J i)), (2, .int (J w))]) SS.1 SS.2.1 dX7_coordinate_77 hl (k := 6) rfl (J_add _ _) (by decide) rfl (fun ls hl => ?_)
            refine lv_goto (tgt := 18) SS.1 SS.2.1 dX7_coordinate_80 (by decide) ?_
            exact ih_18 (lf - z_47) (x + 1) ls (lv_sub hl [4, 5, 6, 1, 0] rfl) (by omega) (by omega) (by omega)
          · skip
            refine lv_iload_n SS.1 SS.2.1 dX7_coordinate_58 rfl (lv_at hl 4 rfl) ?_
            refine j_if_ne SS (tgt := 67) (x := w) dX7_coordinate_59 (by decide) (by omega) (fun c_59 => ?_) (fun c_59 => ?_)
            · skip
              refine lv_iload SS.1 SS.2.1 dX7_coordinate_67 (lv_at hl 1 rfl) ?_
              refine lv_iload_n SS.1 SS.2.1 dX7_coordinate_69 rfl (lv_at hl 5 rfl) ?_
              refine j_iadd SS (x := z_30) (y := lf) dX7_coordinate_70 ?_
              exact W.iret SS.1 SS.2.1 hr (fun t0 ht hW => ⟨_, rfl, ⟨(z_30 + lf), rfl, (trivial)⟩, ht⟩) (fun _ h => nomatch h) dX7_coordinate_71 hlk
            · skip
              refine lv_iload SS.1 SS.2.1 dX7_coordinate_62 (lv_at hl 6 rfl) ?_
              refine lv_goto (tgt := 71) SS.1 SS.2.1 dX7_coordinate_64 (by decide) ?_
              exact W.iret SS.1 SS.2.1 hr (fun t0 ht hW => ⟨_, rfl, ⟨x, rfl, (trivial)⟩, ht⟩) (fun _ h => nomatch h) dX7_coordinate_71 hlk
    exact L_18 (((82 : Int) - z_13).toNat + 1) i z_13 ls (lv_sub hl [2, 3, 4, 1, 0] rfl) (by omega) (by omega) (Nat.lt_succ_self _)
  · skip
    refine j_ldc SS (-1000000) kw_622 dX7_coordinate_7 ?_
    exact W.iret SS.1 SS.2.1 hr (fun t0 ht hW => ⟨_, rfl, ⟨(-1000000), rfl, (trivial)⟩, ht⟩) (fun _ h => nomatch h) dX7_coordinate_9 hlk

set_option maxHeartbeats 4000000 in
set_option maxRecDepth 100000 in
theorem c_X7_isRound (l : Launch) (D : JD) (q : Nat → Nat) (u : CS) (r : Nat) (hr : r ≤ 8) (K : Int) (p0 : 0 ≤ K ∧ K ≤ 80) (p1 : RB K u r) : Met l yX7_isRound (jw yX7_isRound cX7_isRound 1 (some .boolean)) (jr 4 91) (jP [.ref (q (9 + 5 * r))] D (fun H => va_P D.1 j_cl (cW D q u) H)) (jRi (fun z => (z = 1 ∧ 3 ≤ u.1.2.2.1 r) ∨ z = 0)) 0 0 (fun _ => False) := by
  refine Met.ofW (cc := cX7_isRound) (maxL := 1) (ret := (some .boolean)) (by decide) rfl ?_
  intro pr en st mi args below meth co s₁ B hml hv
  obtain ⟨rfl, hG, hP⟩ := hv
  have hr := B.returns
  have hlk := B.notSynchronized
  have SS : jS pr mi co cX7_isRound 1 st _ RX7 := ⟨B.exec, B.bytes, hml, findClass_of_methodNamed B.named, fun w hw => atoms_spec (ws := (jw yX7_isRound cX7_isRound 1 (some .boolean))) B.pre w (List.mem_cons_of_mem _ hw)⟩
  have hl := lv_entry ([.ref (q (9 + 5 * r))]) (n := 1) (Nat.le_of_ble_eq_true rfl)
  rw [lg_entry_eq]
  generalize (lg_sl ([.ref (q (9 + 5 * r))]) ++ List.replicate (1 - (lg_sl ([.ref (q (9 + 5 * r))])).length) Slot.unset).toArray = ls at hl ⊢
  have hl : lv_has ls 1 [(0, .ref (q (9 + 5 * r)))] := hl
  have hc := p1.1
  have hrl := rl_b r
  refine lv_aload_n SS.1 SS.2.1 dX7_isRound_0 rfl (lv_at hl 0 rfl) ?_
  refine j_vRi SS (As := []) (rest := []) (c_X7_isPolygon l D q u r (by omega) K  (show 0 ≤ K ∧ K ≤ 80 from (p0)) (show RB K u r from (p1))) mf_X7_isPolygon kw_798 hG hP hP (ci := 7) (q0 := (9 + 5 * r)) rfl (cw_ring (by omega)) rfl rfl hl.1 ⟨⟨Nat.le_of_ble_eq_true rfl, Nat.le_of_ble_eq_true rfl⟩, Nat.le_of_ble_eq_true rfl, Nat.le_refl _, Nat.le_refl _⟩ rfl dX7_isRound_1 (fun z_1 h_1 => ?_)
  have h_1 : (z_1 = 1 ∧ 3 ≤ (u.1.2.2.1 r)) ∨ (z_1 = 0 ∧ (u.1.2.2.1 r) < 3) := h_1
  refine j_if_eq SS (tgt := 21) (x := z_1) dX7_isRound_4 (by decide) (by omega) (fun c_4 => ?_) (fun c_4 => ?_)
  · skip
    refine j_iconst SS dX7_isRound_21 ?_
    exact W.zret SS.1 SS.2.1 hr (j_nz (by decide)) (fun t0 ht hW => ⟨_, rfl, ⟨0, rfl, (by omega)⟩, ht⟩) (fun _ h => nomatch h) dX7_isRound_22 hlk
  · skip
    refine lv_aload_n SS.1 SS.2.1 dX7_isRound_7 rfl (lv_at hl 0 rfl) ?_
    refine j_iconst SS dX7_isRound_8 ?_
    refine j_iconst SS dX7_isRound_9 ?_
    refine j_vRi SS (As := [.int (J 0), .int (J 0)]) (rest := []) (c_X7_standing l D q u r (by omega) K 0 0 (show 0 ≤ K ∧ K ≤ 80 from (p0)) (show RB K u r from (p1)) (show -200 ≤ (0 : Int) ∧ (0 : Int) ≤ 200 from (by omega)) (show -200 ≤ (0 : Int) ∧ (0 : Int) ≤ 200 from (by omega))) mf_X7_standing kw_799 hG hP hP (ci := 7) (q0 := (9 + 5 * r)) rfl (cw_ring (by omega)) rfl rfl hl.1 ⟨⟨Nat.le_of_ble_eq_true rfl, Nat.le_of_ble_eq_true rfl⟩, Nat.le_of_ble_eq_true rfl, Nat.le_refl _, Nat.le_refl _⟩ rfl dX7_isRound_10 (fun z_10 h_10 => ?_)
    have h_10 : z_10 = 0 ∨ z_10 = 1 ∨ z_10 = 2 := h_10
    refine j_iconst SS dX7_isRound_13 ?_
    refine j_icmp_ne SS (tgt := 21) (x := z_10) (y := 2) dX7_isRound_14 (by decide) (by omega) (by decide) (fun c_14 => ?_) (fun c_14 => ?_)
    · skip
      refine j_iconst SS dX7_isRound_21 ?_
      exact W.zret SS.1 SS.2.1 hr (j_nz (by decide)) (fun t0 ht hW => ⟨_, rfl, ⟨0, rfl, (by omega)⟩, ht⟩) (fun _ h => nomatch h) dX7_isRound_22 hlk
    · skip
      refine j_iconst SS dX7_isRound_17 ?_
      refine lv_goto (tgt := 22) SS.1 SS.2.1 dX7_isRound_18 (by decide) ?_
      exact W.zret SS.1 SS.2.1 hr (j_nz (by decide)) (fun t0 ht hW => ⟨_, rfl, ⟨1, rfl, (by omega)⟩, ht⟩) (fun _ h => nomatch h) dX7_isRound_22 hlk

set_option maxHeartbeats 4000000 in
set_option maxRecDepth 100000 in
theorem c_X7_normalA (l : Launch) (D : JD) (q : Nat → Nat) (u : CS) (r : Nat) (hr : r ≤ 8) (K : Int) (i : Int) (p0 : 0 ≤ K ∧ K ≤ 80) (p1 : RB K u r) (p2 : -1000 ≤ i ∧ i ≤ 1000) : Met l yX7_normalA (jw yX7_normalA cX7_normalA 3 (some .int)) (jr 3 66) (jP [.ref (q (9 + 5 * r)), .int (J i)] D (fun H => va_P D.1 j_cl (cW D q u) H)) (jRi (fun z => -160 ≤ z ∧ z ≤ 160)) 0 0 (fun _ => False) := by
  refine Met.ofW (cc := cX7_normalA) (maxL := 3) (ret := (some .int)) (by decide) rfl ?_
  intro pr en st mi args below meth co s₁ B hml hv
  obtain ⟨rfl, hG, hP⟩ := hv
  have hr := B.returns
  have hlk := B.notSynchronized
  have SS : jS pr mi co cX7_normalA 3 st _ RX7 := ⟨B.exec, B.bytes, hml, findClass_of_methodNamed B.named, fun w hw => atoms_spec (ws := (jw yX7_normalA cX7_normalA 3 (some .int))) B.pre w (List.mem_cons_of_mem _ hw)⟩
  have hl := lv_entry ([.ref (q (9 + 5 * r)), .int (J i)]) (n := 3) (Nat.le_of_ble_eq_true rfl)
  rw [lg_entry_eq]
  generalize (lg_sl ([.ref (q (9 + 5 * r)), .int (J i)]) ++ List.replicate (3 - (lg_sl ([.ref (q (9 + 5 * r)), .int (J i)])).length) Slot.unset).toArray = ls at hl ⊢
  have hl : lv_has ls 3 [(0, .ref (q (9 + 5 * r))), (1, .int (J i))] := hl
  have hc := p1.1
  have hrl := rl_b r
  refine lv_aload_n SS.1 SS.2.1 dX7_normalA_0 rfl (lv_at hl 0 rfl) ?_
  refine lv_iload_n SS.1 SS.2.1 dX7_normalA_1 rfl (lv_at hl 1 rfl) ?_
  refine j_vRi SS (As := [.int (J i)]) (rest := []) (c_X7_stepsOf l D q u r (by omega) K i (show 0 ≤ K ∧ K ≤ 80 from (p0)) (show RB K u r from (p1)) (show -1000 ≤ i ∧ i ≤ 1000 from (p2))) mf_X7_stepsOf kw_537 hG hP hP (ci := 7) (q0 := (9 + 5 * r)) rfl (cw_ring (by omega)) rfl rfl hl.1 ⟨⟨Nat.le_of_ble_eq_true rfl, Nat.le_of_ble_eq_true rfl⟩, Nat.le_of_ble_eq_true rfl, Nat.le_refl _, Nat.le_refl _⟩ rfl dX7_normalA_2 (fun z_2 h_2 => ?_)
  have h_2 : z_2 = dS u r i ∧ 0 ≤ z_2 ∧ z_2 ≤ 2 * K := h_2
  refine lv_istore_n (lv' := [(2, .int (J z_2)), (0, .ref (q (9 + 5 * r))), (1, .int (J i))]) SS.1 SS.2.1 dX7_normalA_5 rfl hl (by decide) rfl (fun ls hl => ?_)
  refine lv_iload_n SS.1 SS.2.1 dX7_normalA_6 rfl (lv_at hl 0 rfl) ?_
  refine j_if_ne SS (tgt := 14) (x := z_2) dX7_normalA_7 (by decide) (by omega) (fun c_7 => ?_) (fun c_7 => ?_)
  · skip
    refine lv_aload_n SS.1 SS.2.1 dX7_normalA_14 rfl (lv_at hl 1 rfl) ?_
    refine lv_iload_n SS.1 SS.2.1 dX7_normalA_15 rfl (lv_at hl 2 rfl) ?_
    refine j_vRi SS (As := [.int (J i)]) (rest := []) (c_X7_sideY l D q u r (by omega) K i (show 0 ≤ K ∧ K ≤ 80 from (p0)) (show RB K u r from (p1)) (show -1000 ≤ i ∧ i ≤ 1000 from (p2))) mf_X7_sideY kw_521 hG hP hP (ci := 7) (q0 := (9 + 5 * r)) rfl (cw_ring (by omega)) rfl rfl hl.1 ⟨⟨Nat.le_of_ble_eq_true rfl, Nat.le_of_ble_eq_true rfl⟩, Nat.le_of_ble_eq_true rfl, Nat.le_refl _, Nat.le_refl _⟩ rfl dX7_normalA_16 (fun z_16 h_16 => ?_)
    have h_16 : z_16 = dY u r i ∧ -2 * K ≤ z_16 ∧ z_16 ≤ 2 * K := h_16
    refine lv_iload_n SS.1 SS.2.1 dX7_normalA_19 rfl (lv_at hl 0 rfl) ?_
    have td := td_b (a := z_16) (b := z_2) (K := 160) (by omega)
    refine j_idiv SS (x := z_16) (y := z_2) dX7_normalA_20 (by omega) (by omega) (by omega) ?_
    exact W.iret SS.1 SS.2.1 hr (fun t0 ht hW => ⟨_, rfl, ⟨(Int.tdiv z_16 z_2), rfl, (by omega)⟩, ht⟩) (fun _ h => nomatch h) dX7_normalA_21 hlk
  · skip
    refine j_iconst SS dX7_normalA_10 ?_
    refine lv_goto (tgt := 21) SS.1 SS.2.1 dX7_normalA_11 (by decide) ?_
    exact W.iret SS.1 SS.2.1 hr (fun t0 ht hW => ⟨_, rfl, ⟨0, rfl, (by omega)⟩, ht⟩) (fun _ h => nomatch h) dX7_normalA_21 hlk

set_option maxHeartbeats 4000000 in
set_option maxRecDepth 100000 in
theorem c_X7_normalB (l : Launch) (D : JD) (q : Nat → Nat) (u : CS) (r : Nat) (hr : r ≤ 8) (K : Int) (i : Int) (p0 : 0 ≤ K ∧ K ≤ 80) (p1 : RB K u r) (p2 : -1000 ≤ i ∧ i ≤ 1000) : Met l yX7_normalB (jw yX7_normalB cX7_normalB 3 (some .int)) (jr 3 66) (jP [.ref (q (9 + 5 * r)), .int (J i)] D (fun H => va_P D.1 j_cl (cW D q u) H)) (jRi (fun z => -160 ≤ z ∧ z ≤ 160)) 0 0 (fun _ => False) := by
  refine Met.ofW (cc := cX7_normalB) (maxL := 3) (ret := (some .int)) (by decide) rfl ?_
  intro pr en st mi args below meth co s₁ B hml hv
  obtain ⟨rfl, hG, hP⟩ := hv
  have hr := B.returns
  have hlk := B.notSynchronized
  have SS : jS pr mi co cX7_normalB 3 st _ RX7 := ⟨B.exec, B.bytes, hml, findClass_of_methodNamed B.named, fun w hw => atoms_spec (ws := (jw yX7_normalB cX7_normalB 3 (some .int))) B.pre w (List.mem_cons_of_mem _ hw)⟩
  have hl := lv_entry ([.ref (q (9 + 5 * r)), .int (J i)]) (n := 3) (Nat.le_of_ble_eq_true rfl)
  rw [lg_entry_eq]
  generalize (lg_sl ([.ref (q (9 + 5 * r)), .int (J i)]) ++ List.replicate (3 - (lg_sl ([.ref (q (9 + 5 * r)), .int (J i)])).length) Slot.unset).toArray = ls at hl ⊢
  have hl : lv_has ls 3 [(0, .ref (q (9 + 5 * r))), (1, .int (J i))] := hl
  have hc := p1.1
  have hrl := rl_b r
  refine lv_aload_n SS.1 SS.2.1 dX7_normalB_0 rfl (lv_at hl 0 rfl) ?_
  refine lv_iload_n SS.1 SS.2.1 dX7_normalB_1 rfl (lv_at hl 1 rfl) ?_
  refine j_vRi SS (As := [.int (J i)]) (rest := []) (c_X7_stepsOf l D q u r (by omega) K i (show 0 ≤ K ∧ K ≤ 80 from (p0)) (show RB K u r from (p1)) (show -1000 ≤ i ∧ i ≤ 1000 from (p2))) mf_X7_stepsOf kw_537 hG hP hP (ci := 7) (q0 := (9 + 5 * r)) rfl (cw_ring (by omega)) rfl rfl hl.1 ⟨⟨Nat.le_of_ble_eq_true rfl, Nat.le_of_ble_eq_true rfl⟩, Nat.le_of_ble_eq_true rfl, Nat.le_refl _, Nat.le_refl _⟩ rfl dX7_normalB_2 (fun z_2 h_2 => ?_)
  have h_2 : z_2 = dS u r i ∧ 0 ≤ z_2 ∧ z_2 ≤ 2 * K := h_2
  refine lv_istore_n (lv' := [(2, .int (J z_2)), (0, .ref (q (9 + 5 * r))), (1, .int (J i))]) SS.1 SS.2.1 dX7_normalB_5 rfl hl (by decide) rfl (fun ls hl => ?_)
  refine lv_iload_n SS.1 SS.2.1 dX7_normalB_6 rfl (lv_at hl 0 rfl) ?_
  refine j_if_ne SS (tgt := 14) (x := z_2) dX7_normalB_7 (by decide) (by omega) (fun c_7 => ?_) (fun c_7 => ?_)
  · skip
    refine lv_aload_n SS.1 SS.2.1 dX7_normalB_14 rfl (lv_at hl 1 rfl) ?_
    refine lv_iload_n SS.1 SS.2.1 dX7_normalB_15 rfl (lv_at hl 2 rfl) ?_
    refine j_vRi SS (As := [.int (J i)]) (rest := []) (c_X7_sideX l D q u r (by omega) K i (show 0 ≤ K ∧ K ≤ 80 from (p0)) (show RB K u r from (p1)) (show -1000 ≤ i ∧ i ≤ 1000 from (p2))) mf_X7_sideX kw_529 hG hP hP (ci := 7) (q0 := (9 + 5 * r)) rfl (cw_ring (by omega)) rfl rfl hl.1 ⟨⟨Nat.le_of_ble_eq_true rfl, Nat.le_of_ble_eq_true rfl⟩, Nat.le_of_ble_eq_true rfl, Nat.le_refl _, Nat.le_refl _⟩ rfl dX7_normalB_16 (fun z_16 h_16 => ?_)
    have h_16 : z_16 = dX u r i ∧ -2 * K ≤ z_16 ∧ z_16 ≤ 2 * K := h_16
    refine j_ineg SS dX7_normalB_19 ?_
    refine lv_iload_n SS.1 SS.2.1 dX7_normalB_20 rfl (lv_at hl 0 rfl) ?_
    have td := td_b (a := -z_16) (b := z_2) (K := 160) (by omega)
    refine j_idiv SS (x := (-z_16)) (y := z_2) dX7_normalB_21 (by omega) (by omega) (by omega) ?_
    exact W.iret SS.1 SS.2.1 hr (fun t0 ht hW => ⟨_, rfl, ⟨(Int.tdiv (-z_16) z_2), rfl, (by omega)⟩, ht⟩) (fun _ h => nomatch h) dX7_normalB_22 hlk
  · skip
    refine j_iconst SS dX7_normalB_10 ?_
    refine lv_goto (tgt := 22) SS.1 SS.2.1 dX7_normalB_11 (by decide) ?_
    exact W.iret SS.1 SS.2.1 hr (fun t0 ht hW => ⟨_, rfl, ⟨0, rfl, (by omega)⟩, ht⟩) (fun _ h => nomatch h) dX7_normalB_22 hlk

set_option maxHeartbeats 4000000 in
set_option maxRecDepth 100000 in
theorem c_X7_far (l : Launch) (D : JD) (q : Nat → Nat) (u : CS) (r : Nat) (hr : r ≤ 8) (K : Int) (i : Int) (p0 : 0 ≤ K ∧ K ≤ 80) (p1 : RB K u r) (p2 : -1000 ≤ i ∧ i ≤ 1000) : Met l yX7_far (jw yX7_far cX7_far 2 (some .int)) (jr 4 88) (jP [.ref (q (9 + 5 * r)), .int (J i)] D (fun H => va_P D.1 j_cl (cW D q u) H)) (jRi (fun z => -30000 ≤ z ∧ z ≤ 30000)) 0 0 (fun _ => False) := by
  refine Met.ofW (cc := cX7_far) (maxL := 2) (ret := (some .int)) (by decide) rfl ?_
  intro pr en st mi args below meth co s₁ B hml hv
  obtain ⟨rfl, hG, hP⟩ := hv
  have hr := B.returns
  have hlk := B.notSynchronized
  have SS : jS pr mi co cX7_far 2 st _ RX7 := ⟨B.exec, B.bytes, hml, findClass_of_methodNamed B.named, fun w hw => atoms_spec (ws := (jw yX7_far cX7_far 2 (some .int))) B.pre w (List.mem_cons_of_mem _ hw)⟩
  have hl := lv_entry ([.ref (q (9 + 5 * r)), .int (J i)]) (n := 2) (Nat.le_of_ble_eq_true rfl)
  rw [lg_entry_eq]
  generalize (lg_sl ([.ref (q (9 + 5 * r)), .int (J i)]) ++ List.replicate (2 - (lg_sl ([.ref (q (9 + 5 * r)), .int (J i)])).length) Slot.unset).toArray = ls at hl ⊢
  have hl : lv_has ls 2 [(0, .ref (q (9 + 5 * r))), (1, .int (J i))] := hl
  have hc := p1.1
  have hrl := rl_b r
  refine lv_aload_n SS.1 SS.2.1 dX7_far_0 rfl (lv_at hl 0 rfl) ?_
  refine lv_iload_n SS.1 SS.2.1 dX7_far_1 rfl (lv_at hl 1 rfl) ?_
  refine j_vRi SS (As := [.int (J i)]) (rest := []) (c_X7_normalA l D q u r (by omega) K i (show 0 ≤ K ∧ K ≤ 80 from (p0)) (show RB K u r from (p1)) (show -1000 ≤ i ∧ i ≤ 1000 from (p2))) mf_X7_normalA kw_812 hG hP hP (ci := 7) (q0 := (9 + 5 * r)) rfl (cw_ring (by omega)) rfl rfl hl.1 ⟨⟨Nat.le_of_ble_eq_true rfl, Nat.le_of_ble_eq_true rfl⟩, Nat.le_of_ble_eq_true rfl, Nat.le_refl _, Nat.le_refl _⟩ rfl dX7_far_2 (fun z_2 h_2 => ?_)
  have h_2 : -160 ≤ z_2 ∧ z_2 ≤ 160 := h_2
  refine lv_aload_n SS.1 SS.2.1 dX7_far_5 rfl (lv_at hl 0 rfl) ?_
  refine lv_iload_n SS.1 SS.2.1 dX7_far_6 rfl (lv_at hl 1 rfl) ?_
  refine j_uRi SS (As := [.int (J i)]) (rest := [.int (J z_2)]) (c_X8_x l D q u r (by omega) i (show -2147483648 ≤ i ∧ i ≤ 2147483647 from (by omega))) mu_7_x kw_501 hG hP hP (ci := 7) (q0 := (9 + 5 * r)) rfl (cw_ring (by omega)) rfl rfl hl.1 ⟨⟨Nat.le_of_ble_eq_true rfl, Nat.le_of_ble_eq_true rfl⟩, Nat.le_of_ble_eq_true rfl, Nat.le_refl _, Nat.le_refl _⟩ rfl dX7_far_7 (fun z_7 h_7 => ?_)
  have h_7 : z_7 = rx u r i ∧ ∀ K : Int, 0 ≤ K → RB K u r → -K ≤ z_7 ∧ z_7 ≤ K := h_7
  have hb_7 := h_7.2 K (by omega) (p1)
  refine j_imul SS (x := z_2) (y := z_7) dX7_far_10 ?_
  refine lv_aload_n SS.1 SS.2.1 dX7_far_11 rfl (lv_at hl 0 rfl) ?_
  refine lv_iload_n SS.1 SS.2.1 dX7_far_12 rfl (lv_at hl 1 rfl) ?_
  refine j_vRi SS (As := [.int (J i)]) (rest := [.int (J (z_2 * z_7))]) (c_X7_normalB l D q u r (by omega) K i (show 0 ≤ K ∧ K ≤ 80 from (p0)) (show RB K u r from (p1)) (show -1000 ≤ i ∧ i ≤ 1000 from (p2))) mf_X7_normalB kw_813 hG hP hP (ci := 7) (q0 := (9 + 5 * r)) rfl (cw_ring (by omega)) rfl rfl hl.1 ⟨⟨Nat.le_of_ble_eq_true rfl, Nat.le_of_ble_eq_true rfl⟩, Nat.le_of_ble_eq_true rfl, Nat.le_refl _, Nat.le_refl _⟩ rfl dX7_far_13 (fun z_13 h_13 => ?_)
  have h_13 : -160 ≤ z_13 ∧ z_13 ≤ 160 := h_13
  refine lv_aload_n SS.1 SS.2.1 dX7_far_16 rfl (lv_at hl 0 rfl) ?_
  refine lv_iload_n SS.1 SS.2.1 dX7_far_17 rfl (lv_at hl 1 rfl) ?_
  refine j_uRi SS (As := [.int (J i)]) (rest := [.int (J z_13), .int (J (z_2 * z_7))]) (c_X8_y l D q u r (by omega) i (show -2147483648 ≤ i ∧ i ≤ 2147483647 from (by omega))) mu_7_y kw_503 hG hP hP (ci := 7) (q0 := (9 + 5 * r)) rfl (cw_ring (by omega)) rfl rfl hl.1 ⟨⟨Nat.le_of_ble_eq_true rfl, Nat.le_of_ble_eq_true rfl⟩, Nat.le_of_ble_eq_true rfl, Nat.le_refl _, Nat.le_refl _⟩ rfl dX7_far_18 (fun z_18 h_18 => ?_)
  have h_18 : z_18 = ry9 u r i ∧ ∀ K : Int, 0 ≤ K → RB K u r → -K ≤ z_18 ∧ z_18 ≤ K := h_18
  have hb_18 := h_18.2 K (by omega) (p1)
  refine j_imul SS (x := z_13) (y := z_18) dX7_far_21 ?_
  have m1 := mulb (A := 160) (B := 80) (a := z_2) (b := z_7) (by omega) (by omega)
  have m2 := mulb (A := 160) (B := 80) (a := z_13) (b := z_18) (by omega) (by omega)
  refine j_iadd SS (x := (z_2 * z_7)) (y := (z_13 * z_18)) dX7_far_22 ?_
  exact W.iret SS.1 SS.2.1 hr (fun t0 ht hW => ⟨_, rfl, ⟨((z_2 * z_7) + (z_13 * z_18)), rfl, (by omega)⟩, ht⟩) (fun _ h => nomatch h) dX7_far_23 hlk

