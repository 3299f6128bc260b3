
/-- the next of the least points, on the way from p to the ray v -/
def nx (px py vx vy wx wy : Int) : Prop := cx px py wx wy = 1 ∧ 0 ≤ cx wx wy vx vy ∧ cx wx wy vx vy < cx px py vx vy
def rsq (X Y : Nat → Int) (n vx vy : Int) : Prop := ∀ k : Nat, (k : Int) + 1 < n → nx (X k) (Y k) vx vy (X (k + 1)) (Y (k + 1))
theorem gcd_one {a b c d : Int} (h : cx a b c d = 1) : Int.gcd c d = 1 := by
  rw [Int.gcd_eq_one_iff]
  intro k h1 h2
  unfold cx at h
  rw [← h]
  exact Int.dvd_sub (Int.dvd_mul_of_dvd_right h2) (Int.dvd_mul_of_dvd_right h1)
theorem cx_idy {a b c d e f : Int} : d * cx a b e f = b * cx c d e f + f * cx a b c d := by unfold cx; grind
theorem nx_b1 {n c p v w K : Int} (hc : 0 ≤ c) (hn : c < n) (hp : -K ≤ p ∧ p ≤ K) (hv : -K ≤ v ∧ v ≤ K) (h : w * n = p * c + v * 1) : -K ≤ w ∧ w ≤ K := by
  have hK : 0 ≤ K := by omega
  have h1 : p * c ≤ K * c := Int.mul_le_mul_of_nonneg_right hp.2 hc
  have h2 : -K * c ≤ p * c := Int.mul_le_mul_of_nonneg_right hp.1 hc
  have h3 : K * c ≤ K * (n - 1) := Int.mul_le_mul_of_nonneg_left (by omega) hK
  rw [Int.mul_sub, Int.mul_one] at h3
  rw [Int.neg_mul] at h2
  refine ⟨?_, ?_⟩
  · apply Int.not_lt.mp; intro hl
    have : w * n ≤ (-K - 1) * n := Int.mul_le_mul_of_nonneg_right (by omega) (by omega)
    rw [Int.sub_mul, Int.neg_mul, Int.one_mul] at this
    omega
  · apply Int.not_lt.mp; intro hl
    have : (K + 1) * n ≤ w * n := Int.mul_le_mul_of_nonneg_right (by omega) (by omega)
    rw [Int.add_mul, Int.one_mul] at this
    omega
theorem nx_b {px py vx vy wx wy K : Int} (h : nx px py vx vy wx wy) (hp : (-K ≤ px ∧ px ≤ K) ∧ -K ≤ py ∧ py ≤ K) (hv : (-K ≤ vx ∧ vx ≤ K) ∧ -K ≤ vy ∧ vy ≤ K) : (-K ≤ wx ∧ wx ≤ K) ∧ -K ≤ wy ∧ wy ≤ K := by
  obtain ⟨h1, h2, h3⟩ := h
  have e1 := cx_id (a := px) (b := py) (c := wx) (d := wy) (e := vx) (f := vy)
  have e2 := cx_idy (a := px) (b := py) (c := wx) (d := wy) (e := vx) (f := vy)
  rw [h1] at e1 e2
  exact ⟨nx_b1 h2 h3 hp.1 hv.1 e1, nx_b1 h2 h3 hp.2 hv.2 e2⟩
/-- the sum of the lengths in the division chain -/
def eu (a b r s p q t w : Int) : Prop := p * a + q * b = r ∧ t * a + w * b = s ∧ Int.gcd r s = 1 ∧ p.natAbs * s.natAbs + t.natAbs * r.natAbs ≤ 40 ∧ q.natAbs * s.natAbs + w.natAbs * r.natAbs ≤ 40 ∧ (p.natAbs ≤ 40 ∧ q.natAbs ≤ 40 ∧ t.natAbs ≤ 40 ∧ w.natAbs ≤ 40 ∧ r.natAbs ≤ 40 ∧ s.natAbs ≤ 40)
theorem eu_0 {a b : Int} (ha : -40 ≤ a ∧ a ≤ 40) (hb : -40 ≤ b ∧ b ≤ 40) (hg : Int.gcd a b = 1) : eu a b a b 1 0 0 1 := by
  refine ⟨by omega, by omega, hg, ?_, ?_, by omega⟩
  · rw [show (1 : Int).natAbs = 1 from rfl, show (0 : Int).natAbs = 0 from rfl]; omega
  · rw [show (1 : Int).natAbs = 1 from rfl, show (0 : Int).natAbs = 0 from rfl]; omega
theorem eu_sum {p t r s k h : Int} (hr : r.natAbs = k.natAbs * s.natAbs + h.natAbs) (H : p.natAbs * s.natAbs + t.natAbs * r.natAbs ≤ 40) : t.natAbs * h.natAbs + (p - k * t).natAbs * s.natAbs ≤ 40 := by
  have h1 : (p - k * t).natAbs ≤ p.natAbs + k.natAbs * t.natAbs := by rw [← Int.natAbs_mul]; omega
  have h2 := Nat.mul_le_mul_right s.natAbs h1
  rw [Nat.add_mul] at h2
  rw [hr, Nat.mul_add] at H
  have h3 : k.natAbs * t.natAbs * s.natAbs = t.natAbs * (k.natAbs * s.natAbs) := by grind
  omega
theorem le_of_mul {a b : Nat} (hb : b ≠ 0) (h : a * b ≤ 40) : a ≤ 40 := by
  have : a * 1 ≤ a * b := Nat.mul_le_mul_left a (by omega)
  omega
theorem eu_s {a b r s p q t w k : Int} (h : eu a b r s p q t w) (hs : s ≠ 0) (hk : k = r.tdiv s) : eu a b s (r - k * s) t w (p - k * t) (q - k * w) ∧ (r - k * s).natAbs < s.natAbs := by
  obtain ⟨h1, h2, h3, h4, h5, h6, h7, h8, h9, h10, h11⟩ := h
  have em : r - k * s = r.tmod s := by
    have := Int.tmod_add_tdiv_mul r s
    rw [hk]; omega
  have hr : r.natAbs = k.natAbs * s.natAbs + (r - k * s).natAbs := by
    rw [em, hk, Int.natAbs_tmod, Int.natAbs_tdiv]
    show _ = (r.natAbs / s.natAbs) * s.natAbs + _
    have := Nat.div_add_mod r.natAbs s.natAbs
    rw [Nat.mul_comm] at this
    omega
  have hlt : (r - k * s).natAbs < s.natAbs := by rw [em, Int.natAbs_tmod]; exact Nat.mod_lt _ (by omega)
  have f1 := eu_sum hr h4
  have f2 := eu_sum hr h5
  refine ⟨⟨h2, ?_, ?_, by omega, by omega, h8, h9, le_of_mul (b := s.natAbs) (by omega) (by omega), le_of_mul (b := s.natAbs) (by omega) (by omega), h11, by omega⟩, hlt⟩
  · rw [← h1, ← h2]; grind
  · rw [Int.gcd_eq_one_iff] at h3 ⊢
    intro c c1 c2
    refine h3 c ?_ c1
    have : r = (r - k * s) + k * s := by omega
    rw [this]
    exact Int.dvd_add c2 (Int.dvd_mul_of_dvd_right c1)
theorem eu_e {a b r s p q t w : Int} (h : eu a b r s p q t w) (hs : s = 0) : cx a b (-q * r) (p * r) = 1 ∧ (-40 ≤ -q * r ∧ -q * r ≤ 40) ∧ (-40 ≤ p * r ∧ p * r ≤ 40) := by
  obtain ⟨h1, h2, h3, h4, h5, h6, h7, h8, h9, h10, h11⟩ := h
  subst hs
  rw [Int.gcd_zero_right] at h3
  have hr : r = 1 ∨ r = -1 := by omega
  refine ⟨?_, ?_, ?_⟩
  · have e : cx a b (-q * r) (p * r) = r * (p * a + q * b) := by unfold cx; grind
    rw [e, h1]
    rcases hr with e | e <;> subst e <;> rfl
  · rcases hr with e | e <;> subst e <;> omega
  · rcases hr with e | e <;> subst e <;> omega
theorem gcd_div {a b : Int} (h : 0 < (Int.gcd a b : Int)) : Int.gcd (a.tdiv (Int.gcd a b)) (b.tdiv (Int.gcd a b)) = 1 := by
  rw [Int.tdiv_eq_ediv_of_dvd (Int.gcd_dvd_left _ _), Int.tdiv_eq_ediv_of_dvd (Int.gcd_dvd_right _ _)]
  exact Int.gcd_ediv_gcd_ediv_gcd (by omega)
theorem ry_s {X Y f g : Nat → Int} {n vx vy px py wx wy k c : Int} (hn : 1 ≤ n) (epx : px = X (n - 1).toNat) (epy : py = Y (n - 1).toNat) (hf : f = upI X n.toNat wx) (hg : g = upI Y n.toNat wy) (h : rsq X Y n vx vy) (hb : bd 40 X Y n) (hw : cx px py wx wy = 1) (hv : (-40 ≤ vx ∧ vx ≤ 40) ∧ -40 ≤ vy ∧ vy ≤ 40) (hc : c = cx px py vx vy) (hk : 0 ≤ cx wx wy vx vy + k * c ∧ cx wx wy vx vy + k * c < c) : rsq (upI f n.toNat (f n.toNat + k * px)) (upI g n.toNat (g n.toNat + k * py)) (n + 1) vx vy ∧ bd 40 (upI f n.toNat (f n.toNat + k * px)) (upI g n.toNat (g n.toNat + k * py)) (n + 1) ∧ cx (upI f n.toNat (f n.toNat + k * px) (n + 1 - 1).toNat) (upI g n.toNat (g n.toNat + k * py) (n + 1 - 1).toNat) vx vy = cx wx wy vx vy + k * c ∧ Int.gcd (upI f n.toNat (f n.toNat + k * px) (n + 1 - 1).toNat) (upI g n.toNat (g n.toNat + k * py) (n + 1 - 1).toNat) = 1 ∧ upI f n.toNat (f n.toNat + k * px) 0 = X 0 ∧ upI g n.toNat (g n.toNat + k * py) 0 = Y 0 := by
  have eF : ∀ j, j ≠ n.toNat → upI f n.toNat (f n.toNat + k * px) j = X j := fun j hj => by rw [upI_n hj, hf, upI_n hj]
  have eG : ∀ j, j ≠ n.toNat → upI g n.toNat (g n.toNat + k * py) j = Y j := fun j hj => by rw [upI_n hj, hg, upI_n hj]
  have eFn : upI f n.toNat (f n.toNat + k * px) n.toNat = wx + k * px := by rw [upI_s, hf, upI_s]
  have eGn : upI g n.toNat (g n.toNat + k * py) n.toNat = wy + k * py := by rw [upI_s, hg, upI_s]
  have e1 : cx px py (wx + k * px) (wy + k * py) = 1 := by rw [← hw]; unfold cx; grind
  have e2 : cx (wx + k * px) (wy + k * py) vx vy = cx wx wy vx vy + k * c := by rw [hc]; unfold cx; grind
  have hnx : nx px py vx vy (wx + k * px) (wy + k * py) := ⟨e1, by omega, by omega⟩
  have hbn := bd_at hb (z := n - 1) (by omega) (by omega)
  rw [← epx, ← epy] at hbn
  have hnb := nx_b hnx ⟨hbn.1, hbn.2⟩ hv
  rw [show (n + 1 - 1).toNat = n.toNat by omega, eFn, eGn]
  refine ⟨fun j hj => ?_, fun j hj => ?_, e2, gcd_one e1, eF 0 (by omega), eG 0 (by omega)⟩
  · by_cases e : (j : Int) + 1 = n
    · rw [eF j (by omega), eG j (by omega), show j + 1 = n.toNat by omega, eFn, eGn, show j = (n - 1).toNat by omega, ← epx, ← epy]
      exact hnx
    · rw [eF j (by omega), eG j (by omega), eF (j + 1) (by omega), eG (j + 1) (by omega)]
      exact h j (by omega)
  · by_cases e : (j : Int) = n
    · rw [show j = n.toNat by omega, eFn, eGn]; exact hnb
    · rw [eF j (by omega), eG j (by omega)]; exact hb j (by omega)
/-- what findRays leaves -/
def ry (a b c d : Int) (X Y : Nat → Int) (n : Int) : Prop := (1 ≤ n ∧ n ≤ 3300) ∧ X 0 = a.tdiv (Int.gcd a b) ∧ Y 0 = b.tdiv (Int.gcd a b) ∧ rsq X Y n (c.tdiv (Int.gcd c d)) (d.tdiv (Int.gcd c d)) ∧ bd 40 X Y n ∧ cx (X (n - 1).toNat) (Y (n - 1).toNat) (c.tdiv (Int.gcd c d)) (d.tdiv (Int.gcd c d)) ≤ 0
theorem td_le {a g : Int} (h : -40 ≤ a ∧ a ≤ 40) : -40 ≤ a.tdiv g ∧ a.tdiv g ≤ 40 := td_b h
theorem of_k {off n k : Int} (hn : 0 < n) (h : (0 ≤ off ∧ k = -(off.tdiv n)) ∨ (off < 0 ∧ k = (n - 1 - off).tdiv n)) : 0 ≤ off + k * n ∧ off + k * n < n := by
  rcases h with ⟨h, e⟩ | ⟨h, e⟩
  · rw [Int.tdiv_eq_ediv_of_nonneg h] at e
    have := Int.emod_add_mul_ediv off n
    have h1 := Int.emod_nonneg off (show n ≠ 0 by omega)
    have h2 := Int.emod_lt_of_pos off hn
    rw [e, Int.neg_mul, Int.mul_comm]; omega
  · rw [Int.tdiv_eq_ediv_of_nonneg (by omega)] at e
    have := Int.emod_add_mul_ediv (n - 1 - off) n
    have h1 := Int.emod_nonneg (n - 1 - off) (show n ≠ 0 by omega)
    have h2 := Int.emod_lt_of_pos (n - 1 - off) hn
    rw [e, Int.mul_comm]; omega

set_option maxHeartbeats 4000000 in
set_option maxRecDepth 100000 in
theorem c_X12_beside (l : Launch) (D : JD) (o : Nat) (q : Nat → Nat) (u : MS) (A : Nat → Prop) (hD : va_D A (mW D o q u)) (a : Int) (b : Int) (p0 : -40 ≤ a ∧ a ≤ 40) (p1 : -40 ≤ b ∧ b ≤ 40) (p2 : Int.gcd a b = 1) (p3 : 0 ≤ u.2.2 19 ∧ u.2.2 19 < 4000) : Met l yX12_beside (jw yX12_beside cX12_beside 11 none) (jr 0 0) (jP [.ref o, .int (J a), .int (J b)] D (fun H => va_P D.1 j_cl (mW D o q u) H)) (jWv (fun u' => ∃ f : Nat → Int, ∃ g : Nat → Int, ∃ wx : Int, ∃ wy : Int, u' = (uI (uI u 17 f) 18 g) ∧ (f = upI (u.1 17) (u.2.2 19).toNat wx ∧ g = upI (u.1 18) (u.2.2 19).toNat wy ∧ cx a b wx wy = 1 ∧ (-40 ≤ wx ∧ wx ≤ 40) ∧ -40 ≤ wy ∧ wy ≤ 40)) (fun u' H => va_P D.1 j_cl (mW D o q u') H) A) 0 0 A := by
  refine Met.ofW (cc := cX12_beside) (maxL := 11) (ret := none) (by decide) rfl ?_
  intro pr en st mi args below meth co s₁ B hml hv
  obtain ⟨rfl, hG, hP⟩ := hv
  have hr := B.returns
  have hlk := B.notSynchronized
  have SS : jS pr mi co cX12_beside 11 st _ RX12 := ⟨B.exec, B.bytes, hml, findClass_of_methodNamed B.named, fun w hw => atoms_spec (ws := (jw yX12_beside cX12_beside 11 none)) B.pre w (List.mem_cons_of_mem _ hw)⟩
  have hl := lv_entry ([.ref o, .int (J a), .int (J b)]) (n := 11) (Nat.le_of_ble_eq_true rfl)
  rw [lg_entry_eq]
  generalize (lg_sl ([.ref o, .int (J a), .int (J b)]) ++ List.replicate (11 - (lg_sl ([.ref o, .int (J a), .int (J b)])).length) Slot.unset).toArray = ls at hl ⊢
  have hl : lv_has ls 11 [(0, .ref o), (1, .int (J a)), (2, .int (J b))] := hl
  have hS : va_S A st.heap st.heap [] := va_S.rf
  refine lv_iload_n SS.1 SS.2.1 dX12_beside_0 rfl (lv_at hl 1 rfl) ?_
  refine lv_istore_n (lv' := [(3, .int (J a)), (0, .ref o), (1, .int (J a)), (2, .int (J b))]) SS.1 SS.2.1 dX12_beside_1 rfl hl (by decide) rfl (fun ls hl => ?_)
  refine lv_iload_n SS.1 SS.2.1 dX12_beside_2 rfl (lv_at hl 3 rfl) ?_
  refine lv_istore (lv' := [(4, .int (J b)), (3, .int (J a)), (0, .ref o), (1, .int (J a)), (2, .int (J b))]) SS.1 SS.2.1 dX12_beside_3 hl (by decide) rfl (fun ls hl => ?_)
  refine j_iconst SS dX12_beside_5 ?_
  refine lv_istore (lv' := [(5, .int (J 1)), (4, .int (J b)), (3, .int (J a)), (0, .ref o), (1, .int (J a)), (2, .int (J b))]) SS.1 SS.2.1 dX12_beside_6 hl (by decide) rfl (fun ls hl => ?_)
  refine j_iconst SS dX12_beside_8 ?_
  refine lv_istore (lv' := [(6, .int (J 0)), (5, .int (J 1)), (4, .int (J b)), (3, .int (J a)), (0, .ref o), (1, .int (J a)), (2, .int (J b))]) SS.1 SS.2.1 dX12_beside_9 hl (by decide) rfl (fun ls hl => ?_)
  refine j_iconst SS dX12_beside_11 ?_
  refine lv_istore (lv' := [(7, .int (J 0)), (6, .int (J 0)), (5, .int (J 1)), (4, .int (J b)), (3, .int (J a)), (0, .ref o), (1, .int (J a)), (2, .int (J b))]) SS.1 SS.2.1 dX12_beside_12 hl (by decide) rfl (fun ls hl => ?_)
  refine j_iconst SS dX12_beside_14 ?_
  refine lv_istore (lv' := [(8, .int (J 1)), (7, .int (J 0)), (6, .int (J 0)), (5, .int (J 1)), (4, .int (J b)), (3, .int (J a)), (0, .ref o), (1, .int (J a)), (2, .int (J b))]) SS.1 SS.2.1 dX12_beside_15 hl (by decide) rfl (fun ls hl => ?_)
  have L_17 : ∀ (nn : Nat) (r : Int) (s : Int) (p : Int) (q2 : Int) (t : Int) (w : Int) (H : Heap) (locs : List Loc) (hP : va_P D.1 j_cl (mW D o q u) H) (hS : va_S A st.heap H locs) (ls : Array Slot) (hl : lv_has ls 11 [(0, .ref o), (1, .int (J a)), (2, .int (J b)), (3, .int (J r)), (4, .int (J s)), (5, .int (J p)), (6, .int (J q2)), (7, .int (J t)), (8, .int (J w))]) (i17_0 : eu a b r s p q2 t w), s.natAbs < nn → W pr l en (headSpec (jw yX12_beside cX12_beside 11 none) (jr 0 0)).room st mi (([.ref o, .int (J a), .int (J b)] : List Value).toArray) below meth co H locs 0 0 (MQ below (jWv (fun u' => ∃ f : Nat → Int, ∃ g : Nat → Int, ∃ wx : Int, ∃ wy : Int, u' = (uI (uI u 17 f) 18 g) ∧ (f = upI (u.1 17) (u.2.2 19).toNat wx ∧ g = upI (u.1 18) (u.2.2 19).toNat wy ∧ cx a b wx wy = 1 ∧ (-40 ≤ wx ∧ wx ≤ 40) ∧ -40 ≤ wy ∧ wy ≤ 40)) (fun u' H => va_P D.1 j_cl (mW D o q u') H) A) (([.ref o, .int (J a), .int (J b)] : List Value).toArray) st 0 0 A) (F0 mi 17 ls []) := by
    intro nn
    induction nn with
    | zero => intros; omega
    | succ nn ih_17 =>
      intro r s p q2 t w  H locs hP hS ls hl i17_0 hm
      have hbb := i17_0.2.2.2.2.2
      refine lv_iload SS.1 SS.2.1 dX12_beside_17 (lv_at hl 4 rfl) ?_
      refine j_if_eq SS (tgt := 83) (x := s) dX12_beside_19 (by decide) (by omega) (fun c_19 => ?_) (fun c_19 => ?_)
      · skip
        refine lv_aload_n SS.1 SS.2.1 dX12_beside_83 rfl (lv_at hl 0 rfl) ?_
        refine j_get SS hG hP 0 (v := .ref (q 17)) (C := RX12) (T := TX12) (N := 31) rfl rfl inX12 17 (by decide) (ref := RX12) kw_1075 rfl rfl dX12_beside_84 ?_
        refine lv_aload_n SS.1 SS.2.1 dX12_beside_87 rfl (lv_at hl 0 rfl) ?_
        refine j_get SS hG hP 0 (v := .int (J (u.2.2 19))) (C := RX12) (T := TX12) (N := 31) rfl rfl inX12 19 (by decide) (ref := RX12) kw_1077 rfl rfl dX12_beside_88 ?_
        refine lv_iload SS.1 SS.2.1 dX12_beside_91 (lv_at hl 6 rfl) ?_
        refine j_ineg SS dX12_beside_93 ?_
        refine lv_iload_n SS.1 SS.2.1 dX12_beside_94 rfl (lv_at hl 3 rfl) ?_
        refine j_imul SS (x := (-q2)) (y := r) dX12_beside_95 ?_
        refine j_iast SS hG hP (mW_D hD) hS 15 (n := 4000) (f := (u.1 17)) rfl (z := (u.2.2 19)) (v := ((-q2) * r)) (by omega) (by omega) dX12_beside_96 (ws' := (mW D o q (uI u 17 (upI (u.1 17) ((u.2.2 19)).toNat ((-q2) * r))))) rfl (fun H locs hP hS => ?_)
        refine lv_aload_n SS.1 SS.2.1 dX12_beside_97 rfl (lv_at hl 0 rfl) ?_
        refine j_get SS hG hP 0 (v := .ref (q 18)) (C := RX12) (T := TX12) (N := 31) rfl rfl inX12 18 (by decide) (ref := RX12) kw_1076 rfl rfl dX12_beside_98 ?_
        refine lv_aload_n SS.1 SS.2.1 dX12_beside_101 rfl (lv_at hl 0 rfl) ?_
        refine j_get SS hG hP 0 (v := .int (J (u.2.2 19))) (C := RX12) (T := TX12) (N := 31) rfl rfl inX12 19 (by decide) (ref := RX12) kw_1077 rfl rfl dX12_beside_102 ?_
        refine lv_iload SS.1 SS.2.1 dX12_beside_105 (lv_at hl 5 rfl) ?_
        refine lv_iload_n SS.1 SS.2.1 dX12_beside_107 rfl (lv_at hl 3 rfl) ?_
        refine j_imul SS (x := p) (y := r) dX12_beside_108 ?_
        refine j_iast SS hG hP (mW_D hD) hS 16 (n := 4000) (f := (u.1 18)) rfl (z := (u.2.2 19)) (v := (p * r)) (by omega) (by omega) dX12_beside_109 (ws' := (mW D o q (uI (uI u 17 (upI (u.1 17) ((u.2.2 19)).toNat ((-q2) * r))) 18 (upI (u.1 18) ((u.2.2 19)).toNat (p * r))))) rfl (fun H locs hP hS => ?_)
        exact W.vret SS.1 SS.2.1 hr (fun t ht hW => ⟨⟨(uI (uI u 17 (upI (u.1 17) ((u.2.2 19)).toNat ((-q2) * r))) 18 (upI (u.1 18) ((u.2.2 19)).toNat (p * r))), rfl, (⟨(upI (u.1 17) ((u.2.2 19)).toNat ((-q2) * r)), (upI (u.1 18) ((u.2.2 19)).toNat (p * r)), ((-q2) * r), (p * r), rfl, ⟨rfl, rfl, (eu_e i17_0 (by omega)).1, (eu_e i17_0 (by omega)).2.1, (eu_e i17_0 (by omega)).2.2⟩⟩), by show va_P D.1 j_cl (mW D o q (uI (uI u 17 (upI (u.1 17) ((u.2.2 19)).toNat ((-q2) * r))) 18 (upI (u.1 18) ((u.2.2 19)).toNat (p * r)))) t.heap; rw [ht]; exact hP⟩, hS.F ht⟩) hS.2.2 dX12_beside_110 hlk
      · skip
        refine lv_iload_n SS.1 SS.2.1 dX12_beside_22 rfl (lv_at hl 3 rfl) ?_
        refine lv_iload SS.1 SS.2.1 dX12_beside_23 (lv_at hl 4 rfl) ?_
        refine j_idiv SS (x := r) (y := s) dX12_beside_25 (by omega) (by omega) (by omega) ?_
        obtain ⟨k, ek⟩ : ∃ z : Int, z = (Int.tdiv r s) := ⟨_, rfl⟩
        rw [← ek]
        refine lv_istore (lv' := [(9, .int (J k)), (0, .ref o), (1, .int (J a)), (2, .int (J b)), (3, .int (J r)), (4, .int (J s)), (5, .int (J p)), (6, .int (J q2)), (7, .int (J t)), (8, .int (J w))]) SS.1 SS.2.1 dX12_beside_26 hl (by decide) rfl (fun ls hl => ?_)
        refine lv_iload_n SS.1 SS.2.1 dX12_beside_28 rfl (lv_at hl 4 rfl) ?_
        refine lv_iload SS.1 SS.2.1 dX12_beside_29 (lv_at hl 0 rfl) ?_
        refine lv_iload SS.1 SS.2.1 dX12_beside_31 (lv_at hl 5 rfl) ?_
        refine j_imul SS (x := k) (y := s) dX12_beside_33 ?_
        refine j_isub SS (x := r) (y := (k * s)) dX12_beside_34 ?_
        refine lv_istore (lv' := [(10, .int (J (r - (k * s)))), (9, .int (J k)), (0, .ref o), (1, .int (J a)), (2, .int (J b)), (3, .int (J r)), (4, .int (J s)), (5, .int (J p)), (6, .int (J q2)), (7, .int (J t)), (8, .int (J w))]) SS.1 SS.2.1 dX12_beside_35 hl (by decide) rfl (fun ls hl => ?_)
        refine lv_iload SS.1 SS.2.1 dX12_beside_37 (lv_at hl 6 rfl) ?_
        refine lv_istore_n (lv' := [(3, .int (J s)), (10, .int (J (r - (k * s)))), (9, .int (J k)), (0, .ref o), (1, .int (J a)), (2, .int (J b)), (4, .int (J s)), (5, .int (J p)), (6, .int (J q2)), (7, .int (J t)), (8, .int (J w))]) SS.1 SS.2.1 dX12_beside_39 rfl hl (by decide) rfl (fun ls hl => ?_)
        refine lv_iload SS.1 SS.2.1 dX12_beside_40 (lv_at hl 1 rfl) ?_
        refine lv_istore (lv' := [(4, .int (J (r - (k * s)))), (3, .int (J s)), (10, .int (J (r - (k * s)))), (9, .int (J k)), (0, .ref o), (1, .int (J a)), (2, .int (J b)), (5, .int (J p)), (6, .int (J q2)), (7, .int (J t)), (8, .int (J w))]) SS.1 SS.2.1 dX12_beside_42 hl (by decide) rfl (fun ls hl => ?_)
        refine lv_iload SS.1 SS.2.1 dX12_beside_44 (lv_at hl 7 rfl) ?_
        refine lv_iload SS.1 SS.2.1 dX12_beside_46 (lv_at hl 3 rfl) ?_
        refine lv_iload SS.1 SS.2.1 dX12_beside_48 (lv_at hl 9 rfl) ?_
        refine j_imul SS (x := k) (y := t) dX12_beside_50 ?_
        refine j_isub SS (x := p) (y := (k * t)) dX12_beside_51 ?_
        refine lv_istore (lv' := [(10, .int (J (p - (k * t)))), (4, .int (J (r - (k * s)))), (3, .int (J s)), (9, .int (J k)), (0, .ref o), (1, .int (J a)), (2, .int (J b)), (5, .int (J p)), (6, .int (J q2)), (7, .int (J t)), (8, .int (J w))]) SS.1 SS.2.1 dX12_beside_52 hl (by decide) rfl (fun ls hl => ?_)
        refine lv_iload SS.1 SS.2.1 dX12_beside_54 (lv_at hl 9 rfl) ?_
        refine lv_istore (lv' := [(5, .int (J t)), (10, .int (J (p - (k * t)))), (4, .int (J (r - (k * s)))), (3, .int (J s)), (9, .int (J k)), (0, .ref o), (1, .int (J a)), (2, .int (J b)), (6, .int (J q2)), (7, .int (J t)), (8, .int (J w))]) SS.1 SS.2.1 dX12_beside_56 hl (by decide) rfl (fun ls hl => ?_)
        refine lv_iload SS.1 SS.2.1 dX12_beside_58 (lv_at hl 1 rfl) ?_
        refine lv_istore (lv' := [(7, .int (J (p - (k * t)))), (5, .int (J t)), (10, .int (J (p - (k * t)))), (4, .int (J (r - (k * s)))), (3, .int (J s)), (9, .int (J k)), (0, .ref o), (1, .int (J a)), (2, .int (J b)), (6, .int (J q2)), (8, .int (J w))]) SS.1 SS.2.1 dX12_beside_60 hl (by decide) rfl (fun ls hl => ?_)
        refine lv_iload SS.1 SS.2.1 dX12_beside_62 (lv_at hl 9 rfl) ?_
        refine lv_iload SS.1 SS.2.1 dX12_beside_64 (lv_at hl 5 rfl) ?_
        refine lv_iload SS.1 SS.2.1 dX12_beside_66 (lv_at hl 10 rfl) ?_
        refine j_imul SS (x := k) (y := w) dX12_beside_68 ?_
        refine j_isub SS (x := q2) (y := (k * w)) dX12_beside_69 ?_
        refine lv_istore (lv' := [(10, .int (J (q2 - (k * w)))), (7, .int (J (p - (k * t)))), (5, .int (J t)), (4, .int (J (r - (k * s)))), (3, .int (J s)), (9, .int (J k)), (0, .ref o), (1, .int (J a)), (2, .int (J b)), (6, .int (J q2)), (8, .int (J w))]) SS.1 SS.2.1 dX12_beside_70 hl (by decide) rfl (fun ls hl => ?_)
        refine lv_iload SS.1 SS.2.1 dX12_beside_72 (lv_at hl 10 rfl) ?_
        refine lv_istore (lv' := [(6, .int (J w)), (10, .int (J (q2 - (k * w)))), (7, .int (J (p - (k * t)))), (5, .int (J t)), (4, .int (J (r - (k * s)))), (3, .int (J s)), (9, .int (J k)), (0, .ref o), (1, .int (J a)), (2, .int (J b)), (8, .int (J w))]) SS.1 SS.2.1 dX12_beside_74 hl (by decide) rfl (fun ls hl => ?_)
        refine lv_iload SS.1 SS.2.1 dX12_beside_76 (lv_at hl 1 rfl) ?_
        refine lv_istore (lv' := [(8, .int (J (q2 - (k * w)))), (6, .int (J w)), (10, .int (J (q2 - (k * w)))), (7, .int (J (p - (k * t)))), (5, .int (J t)), (4, .int (J (r - (k * s)))), (3, .int (J s)), (9, .int (J k)), (0, .ref o), (1, .int (J a)), (2, .int (J b))]) SS.1 SS.2.1 dX12_beside_78 hl (by decide) rfl (fun ls hl => ?_)
        refine lv_goto (tgt := 17) SS.1 SS.2.1 dX12_beside_80 (by decide) ?_
        exact ih_17 s (r - (k * s)) t w (p - (k * t)) (q2 - (k * w)) _ _ hP hS ls (lv_sub hl [8, 9, 10, 6, 5, 4, 1, 3, 0] rfl) ((eu_s i17_0 (by omega) ek).1) (by have := (eu_s i17_0 (by omega) ek).2; omega)
  exact L_17 (b.natAbs + 1) a b 1 0 0 1 _ _ hP hS ls (lv_sub hl [6, 7, 8, 5, 4, 3, 2, 1, 0] rfl) (eu_0 p0 p1 p2) (Nat.lt_succ_self _)

set_option maxHeartbeats 4000000 in
set_option maxRecDepth 100000 in
theorem c_X12_findRays (l : Launch) (D : JD) (o : Nat) (q : Nat → Nat) (u : MS) (A : Nat → Prop) (hD : va_D A (mW D o q u)) (a : Int) (b : Int) (c : Int) (d : Int) (p0 : -40 ≤ a ∧ a ≤ 40) (p1 : -40 ≤ b ∧ b ≤ 40) (p2 : -40 ≤ c ∧ c ≤ 40) (p3 : -40 ≤ d ∧ d ≤ 40) : Met l yX12_findRays (jw yX12_findRays cX12_findRays 14 (some .boolean)) (jr 2 44) (jP [.ref o, .int (J a), .int (J b), .int (J c), .int (J d)] D (fun H => va_P D.1 j_cl (mW D o q u) H)) (jWi (fun z u' => ∃ X : Nat → Int, ∃ Y : Nat → Int, ∃ n : Int, u' = (uV (uI (uI u 17 X) 18 Y) 19 n) ∧ ((z = 0 ∧ cx a b c d ≤ 0) ∨ (z = 1 ∧ 0 < cx a b c d ∧ ry a b c d X Y n))) (fun u' H => va_P D.1 j_cl (mW D o q u') H) A) 0 0 A := by
  refine Met.ofW (cc := cX12_findRays) (maxL := 14) (ret := (some .boolean)) (by decide) rfl ?_
  intro pr en st mi args below meth co s₁ B hml hv
  obtain ⟨rfl, hG, hP⟩ := hv
  have hr := B.returns
  have hlk := B.notSynchronized
  have SS : jS pr mi co cX12_findRays 14 st _ RX12 := ⟨B.exec, B.bytes, hml, findClass_of_methodNamed B.named, fun w hw => atoms_spec (ws := (jw yX12_findRays cX12_findRays 14 (some .boolean))) B.pre w (List.mem_cons_of_mem _ hw)⟩
  have hl := lv_entry ([.ref o, .int (J a), .int (J b), .int (J c), .int (J d)]) (n := 14) (Nat.le_of_ble_eq_true rfl)
  rw [lg_entry_eq]
  generalize (lg_sl ([.ref o, .int (J a), .int (J b), .int (J c), .int (J d)]) ++ List.replicate (14 - (lg_sl ([.ref o, .int (J a), .int (J b), .int (J c), .int (J d)])).length) Slot.unset).toArray = ls at hl ⊢
  have hl : lv_has ls 14 [(0, .ref o), (1, .int (J a)), (2, .int (J b)), (3, .int (J c)), (4, .int (J d))] := hl
  have hS : va_S A st.heap st.heap [] := va_S.rf
  refine lv_iload_n SS.1 SS.2.1 dX12_findRays_0 rfl (lv_at hl 1 rfl) ?_
  refine lv_iload_n SS.1 SS.2.1 dX12_findRays_1 rfl (lv_at hl 2 rfl) ?_
  refine lv_iload_n SS.1 SS.2.1 dX12_findRays_2 rfl (lv_at hl 3 rfl) ?_
  refine lv_iload SS.1 SS.2.1 dX12_findRays_3 (lv_at hl 4 rfl) ?_
  refine j_sRi SS (As := [.int (J a), .int (J b), .int (J c), .int (J d)]) (rest := []) (c_X12_cross l D a b c d ) mf_X12_cross kw_1259 hG trivial rfl hl.1 ⟨⟨Nat.le_of_ble_eq_true rfl, Nat.le_of_ble_eq_true rfl⟩, Nat.le_of_ble_eq_true rfl, Nat.le_refl _, Nat.le_refl _⟩ rfl dX12_findRays_5 (fun z_5 h_5 => ?_)
  have h_5 : z_5 = a * d - b * c := h_5
  have m1 := mulb (A := 40) (B := 40) p0 p3
  have m2 := mulb (A := 40) (B := 40) p1 p2
  refine j_if_gt SS (tgt := 13) (x := z_5) dX12_findRays_8 (by decide) (by omega) (fun c_8 => ?_) (fun c_8 => ?_)
  · skip
    refine lv_iload_n SS.1 SS.2.1 dX12_findRays_13 rfl (lv_at hl 1 rfl) ?_
    refine lv_iload_n SS.1 SS.2.1 dX12_findRays_14 rfl (lv_at hl 2 rfl) ?_
    refine j_sRi SS (As := [.int (J a), .int (J b)]) (rest := []) (c_X12_common l D a b (show -2147483648 < a ∧ a ≤ 2147483647 from (by omega)) (show -2147483648 < b ∧ b ≤ 2147483647 from (by omega))) mf_X12_common kw_1230 hG trivial rfl hl.1 ⟨⟨Nat.le_of_ble_eq_true rfl, Nat.le_of_ble_eq_true rfl⟩, Nat.le_of_ble_eq_true rfl, Nat.le_refl _, Nat.le_refl _⟩ rfl dX12_findRays_15 (fun z_15 h_15 => ?_)
    have h_15 : z_15 = (Int.gcd a b : Int) := h_15
    have hab : a ≠ 0 ∨ b ≠ 0 := by by_cases e : a = 0 ∧ b = 0; (rw [h_5, e.1, e.2] at c_8; omega); omega
    have hg := gcd_p hab
    rw [← h_15] at hg
    have hgb := gcd_b p0 p1
    rw [← h_15] at hgb
    refine lv_istore (lv' := [(5, .int (J z_15)), (0, .ref o), (1, .int (J a)), (2, .int (J b)), (3, .int (J c)), (4, .int (J d))]) SS.1 SS.2.1 dX12_findRays_18 hl (by decide) rfl (fun ls hl => ?_)
    refine lv_iload_n SS.1 SS.2.1 dX12_findRays_20 rfl (lv_at hl 4 rfl) ?_
    refine lv_iload SS.1 SS.2.1 dX12_findRays_21 (lv_at hl 5 rfl) ?_
    refine j_sRi SS (As := [.int (J c), .int (J d)]) (rest := []) (c_X12_common l D c d (show -2147483648 < c ∧ c ≤ 2147483647 from (by omega)) (show -2147483648 < d ∧ d ≤ 2147483647 from (by omega))) mf_X12_common kw_1230 hG trivial rfl hl.1 ⟨⟨Nat.le_of_ble_eq_true rfl, Nat.le_of_ble_eq_true rfl⟩, Nat.le_of_ble_eq_true rfl, Nat.le_refl _, Nat.le_refl _⟩ rfl dX12_findRays_23 (fun z_23 h_23 => ?_)
    have h_23 : z_23 = (Int.gcd c d : Int) := h_23
    have hcd : c ≠ 0 ∨ d ≠ 0 := by by_cases e : c = 0 ∧ d = 0; (rw [h_5, e.1, e.2] at c_8; omega); omega
    have hh := gcd_p hcd
    rw [← h_23] at hh
    have hhb := gcd_b p2 p3
    rw [← h_23] at hhb
    refine lv_istore (lv' := [(6, .int (J z_23)), (5, .int (J z_15)), (0, .ref o), (1, .int (J a)), (2, .int (J b)), (3, .int (J c)), (4, .int (J d))]) SS.1 SS.2.1 dX12_findRays_26 hl (by decide) rfl (fun ls hl => ?_)
    refine lv_iload_n SS.1 SS.2.1 dX12_findRays_28 rfl (lv_at hl 5 rfl) ?_
    refine lv_iload SS.1 SS.2.1 dX12_findRays_29 (lv_at hl 0 rfl) ?_
    refine j_idiv SS (x := c) (y := z_23) dX12_findRays_31 (by omega) (by omega) (by omega) ?_
    obtain ⟨vx, evx⟩ : ∃ z : Int, z = (Int.tdiv c z_23) := ⟨_, rfl⟩
    rw [← evx]
    refine lv_istore (lv' := [(7, .int (J vx)), (6, .int (J z_23)), (5, .int (J z_15)), (0, .ref o), (1, .int (J a)), (2, .int (J b)), (3, .int (J c)), (4, .int (J d))]) SS.1 SS.2.1 dX12_findRays_32 hl (by decide) rfl (fun ls hl => ?_)
    refine lv_iload SS.1 SS.2.1 dX12_findRays_34 (lv_at hl 7 rfl) ?_
    refine lv_iload SS.1 SS.2.1 dX12_findRays_36 (lv_at hl 1 rfl) ?_
    refine j_idiv SS (x := d) (y := z_23) dX12_findRays_38 (by omega) (by omega) (by omega) ?_
    obtain ⟨vy, evy⟩ : ∃ z : Int, z = (Int.tdiv d z_23) := ⟨_, rfl⟩
    rw [← evy]
    refine lv_istore (lv' := [(8, .int (J vy)), (7, .int (J vx)), (6, .int (J z_23)), (5, .int (J z_15)), (0, .ref o), (1, .int (J a)), (2, .int (J b)), (3, .int (J c)), (4, .int (J d))]) SS.1 SS.2.1 dX12_findRays_39 hl (by decide) rfl (fun ls hl => ?_)
    refine lv_aload_n SS.1 SS.2.1 dX12_findRays_41 rfl (lv_at hl 4 rfl) ?_
    refine j_get SS hG hP 0 (v := .ref (q 17)) (C := RX12) (T := TX12) (N := 31) rfl rfl inX12 17 (by decide) (ref := RX12) kw_1075 rfl rfl dX12_findRays_42 ?_
    refine j_iconst SS dX12_findRays_45 ?_
    refine lv_iload_n SS.1 SS.2.1 dX12_findRays_46 rfl (lv_at hl 5 rfl) ?_
    refine lv_iload SS.1 SS.2.1 dX12_findRays_47 (lv_at hl 3 rfl) ?_
    refine j_idiv SS (x := a) (y := z_15) dX12_findRays_49 (by omega) (by omega) (by omega) ?_
    obtain ⟨x0, ex0⟩ : ∃ z : Int, z = (Int.tdiv a z_15) := ⟨_, rfl⟩
    rw [← ex0]
    refine j_iast SS hG hP (mW_D hD) hS 15 (n := 4000) (f := (u.1 17)) rfl (z := 0) (v := x0) (by omega) (by omega) dX12_findRays_50 (ws' := (mW D o q (uI u 17 (upI (u.1 17) (0 : Int).toNat x0)))) rfl (fun H locs hP hS => ?_)
    refine lv_aload_n SS.1 SS.2.1 dX12_findRays_51 rfl (lv_at hl 4 rfl) ?_
    refine j_get SS hG hP 0 (v := .ref (q 18)) (C := RX12) (T := TX12) (N := 31) rfl rfl inX12 18 (by decide) (ref := RX12) kw_1076 rfl rfl dX12_findRays_52 ?_
    refine j_iconst SS dX12_findRays_55 ?_
    refine lv_iload_n SS.1 SS.2.1 dX12_findRays_56 rfl (lv_at hl 6 rfl) ?_
    refine lv_iload SS.1 SS.2.1 dX12_findRays_57 (lv_at hl 3 rfl) ?_
    refine j_idiv SS (x := b) (y := z_15) dX12_findRays_59 (by omega) (by omega) (by omega) ?_
    obtain ⟨y0, ey0⟩ : ∃ z : Int, z = (Int.tdiv b z_15) := ⟨_, rfl⟩
    rw [← ey0]
    refine j_iast SS hG hP (mW_D hD) hS 16 (n := 4000) (f := (u.1 18)) rfl (z := 0) (v := y0) (by omega) (by omega) dX12_findRays_60 (ws' := (mW D o q (uI (uI u 17 (upI (u.1 17) (0 : Int).toNat x0)) 18 (upI (u.1 18) (0 : Int).toNat y0)))) rfl (fun H locs hP hS => ?_)
    refine lv_aload_n SS.1 SS.2.1 dX12_findRays_61 rfl (lv_at hl 4 rfl) ?_
    refine j_iconst SS dX12_findRays_62 ?_
    have hvb : (-40 ≤ vx ∧ vx ≤ 40) ∧ -40 ≤ vy ∧ vy ≤ 40 := by rw [evx, evy]; exact ⟨td_b p2, td_b p3⟩
    refine j_put SS hG hP (mW_D hD) hS 0 (v := .int (J 1)) (ty := .int) (C := RX12) (T := TX12) (N := 31) rfl rfl inX12 tyX12 tyX12_ok nmX12 19 (by decide) (ref := RX12) kw_1077 rfl rfl (by decide +kernel) rfl rfl (Nat.le_of_ble_eq_true rfl) dX12_findRays_63 (ws' := (mW D o q (uV (uI (uI u 17 (upI (u.1 17) (0 : Int).toNat x0)) 18 (upI (u.1 18) (0 : Int).toNat y0)) 19 1))) rfl (fun H locs hP hS => ?_)
    have L_66 : ∀ (nn : Nat) (X : Nat → Int) (Y : Nat → Int) (n : Int) (H : Heap) (locs : List Loc) (hP : va_P D.1 j_cl (mW D o q (uV (uI (uI u 17 X) 18 Y) 19 n)) H) (hS : va_S A st.heap H locs) (ls : Array Slot) (hl : lv_has ls 14 [(0, .ref o), (1, .int (J a)), (2, .int (J b)), (3, .int (J c)), (4, .int (J d)), (5, .int (J z_15)), (6, .int (J z_23)), (7, .int (J vx)), (8, .int (J vy))]) (i66_0 : 1 ≤ n ∧ n ≤ 3300) (i66_1 : X 0 = a.tdiv (Int.gcd a b) ∧ Y 0 = b.tdiv (Int.gcd a b)) (i66_2 : rsq X Y n vx vy) (i66_3 : bd 40 X Y n) (i66_4 : n + cx (X (n - 1).toNat) (Y (n - 1).toNat) vx vy ≤ 3201) (i66_5 : Int.gcd (X (n - 1).toNat) (Y (n - 1).toNat) = 1), (cx (X (n - 1).toNat) (Y (n - 1).toNat) vx vy).toNat < nn → W pr l en (headSpec (jw yX12_findRays cX12_findRays 14 (some .boolean)) (jr 2 44)).room st mi (([.ref o, .int (J a), .int (J b), .int (J c), .int (J d)] : List Value).toArray) below meth co H locs 0 0 (MQ below (jWi (fun z u' => ∃ X : Nat → Int, ∃ Y : Nat → Int, ∃ n : Int, u' = (uV (uI (uI u 17 X) 18 Y) 19 n) ∧ ((z = 0 ∧ cx a b c d ≤ 0) ∨ (z = 1 ∧ 0 < cx a b c d ∧ ry a b c d X Y n))) (fun u' H => va_P D.1 j_cl (mW D o q u') H) A) (([.ref o, .int (J a), .int (J b), .int (J c), .int (J d)] : List Value).toArray) st 0 0 A) (F0 mi 66 ls []) := by
      intro nn
      induction nn with
      | zero => intros; omega
      | succ nn ih_66 =>
        intro  X Y n H locs hP hS ls hl i66_0 i66_1 i66_2 i66_3 i66_4 i66_5 hm
        have hbn := bd_at i66_3 (z := n - 1) (by omega) (by omega)
        refine lv_aload_n SS.1 SS.2.1 dX12_findRays_66 rfl (lv_at hl 0 rfl) ?_
        refine j_get SS hG hP 0 (v := .ref (q 17)) (C := RX12) (T := TX12) (N := 31) rfl rfl inX12 17 (by decide) (ref := RX12) kw_1075 rfl rfl dX12_findRays_67 ?_
        refine lv_aload_n SS.1 SS.2.1 dX12_findRays_70 rfl (lv_at hl 0 rfl) ?_
        refine j_get SS hG hP 0 (v := .int (J n)) (C := RX12) (T := TX12) (N := 31) rfl rfl inX12 19 (by decide) (ref := RX12) kw_1077 rfl rfl dX12_findRays_71 ?_
        refine j_iconst SS dX12_findRays_74 ?_
        refine j_isub SS (x := n) (y := 1) dX12_findRays_75 ?_
        refine j_iald SS hG hP 15 (n := 4000) (f := X) rfl (z := (n - 1)) (by omega) (by omega) dX12_findRays_76 ?_
        refine lv_aload_n SS.1 SS.2.1 dX12_findRays_77 rfl (lv_at hl 0 rfl) ?_
        refine j_get SS hG hP 0 (v := .ref (q 18)) (C := RX12) (T := TX12) (N := 31) rfl rfl inX12 18 (by decide) (ref := RX12) kw_1076 rfl rfl dX12_findRays_78 ?_
        refine lv_aload_n SS.1 SS.2.1 dX12_findRays_81 rfl (lv_at hl 0 rfl) ?_
        refine j_get SS hG hP 0 (v := .int (J n)) (C := RX12) (T := TX12) (N := 31) rfl rfl inX12 19 (by decide) (ref := RX12) kw_1077 rfl rfl dX12_findRays_82 ?_
        refine j_iconst SS dX12_findRays_85 ?_
        refine j_isub SS (x := n) (y := 1) dX12_findRays_86 ?_
        refine j_iald SS hG hP 16 (n := 4000) (f := Y) rfl (z := (n - 1)) (by omega) (by omega) dX12_findRays_87 ?_
        refine lv_iload SS.1 SS.2.1 dX12_findRays_88 (lv_at hl 7 rfl) ?_
        refine lv_iload SS.1 SS.2.1 dX12_findRays_90 (lv_at hl 8 rfl) ?_
        refine j_sRi SS (As := [.int (J (X ((n - 1)).toNat)), .int (J (Y ((n - 1)).toNat)), .int (J vx), .int (J vy)]) (rest := []) (c_X12_cross l D (X ((n - 1)).toNat) (Y ((n - 1)).toNat) vx vy ) mf_X12_cross kw_1259 hG trivial rfl hl.1 ⟨⟨Nat.le_of_ble_eq_true rfl, Nat.le_of_ble_eq_true rfl⟩, Nat.le_of_ble_eq_true rfl, Nat.le_refl _, Nat.le_refl _⟩ rfl dX12_findRays_92 (fun z_92 h_92 => ?_)
        have h_92 : z_92 = (X ((n - 1)).toNat) * vy - (Y ((n - 1)).toNat) * vx := h_92
        have n1 := mulb (A := 40) (B := 40) hbn.1 hvb.2
        have n2 := mulb (A := 40) (B := 40) hbn.2 hvb.1
        refine j_if_le SS (tgt := 245) (x := z_92) dX12_findRays_95 (by decide) (by omega) (fun c_95 => ?_) (fun c_95 => ?_)
        · skip
          refine j_iconst SS dX12_findRays_245 ?_
          exact W.zret SS.1 SS.2.1 hr (j_nz (by decide)) (fun t ht hW => ⟨⟨_, (uV (uI (uI u 17 X) 18 Y) 19 n), rfl, ⟨1, rfl, (⟨X, Y, n, rfl, Or.inr ⟨rfl, by rw [h_5] at c_8; exact c_8, i66_0, i66_1.1, i66_1.2, by rw [← h_23, ← evx, ← evy]; exact i66_2, i66_3, by rw [← h_23, ← evx, ← evy]; rw [h_92] at c_95; exact c_95⟩⟩)⟩, by show va_P D.1 j_cl (mW D o q (uV (uI (uI u 17 X) 18 Y) 19 n)) t.heap; rw [ht]; exact hP⟩, hS.F ht⟩) hS.2.2 dX12_findRays_246 hlk
        · skip
          refine lv_aload_n SS.1 SS.2.1 dX12_findRays_98 rfl (lv_at hl 0 rfl) ?_
          refine j_get SS hG hP 0 (v := .ref (q 17)) (C := RX12) (T := TX12) (N := 31) rfl rfl inX12 17 (by decide) (ref := RX12) kw_1075 rfl rfl dX12_findRays_99 ?_
          refine lv_aload_n SS.1 SS.2.1 dX12_findRays_102 rfl (lv_at hl 0 rfl) ?_
          refine j_get SS hG hP 0 (v := .int (J n)) (C := RX12) (T := TX12) (N := 31) rfl rfl inX12 19 (by decide) (ref := RX12) kw_1077 rfl rfl dX12_findRays_103 ?_
          refine j_iconst SS dX12_findRays_106 ?_
          refine j_isub SS (x := n) (y := 1) dX12_findRays_107 ?_
          refine j_iald SS hG hP 15 (n := 4000) (f := X) rfl (z := (n - 1)) (by omega) (by omega) dX12_findRays_108 ?_
          obtain ⟨px, epx⟩ : ∃ z : Int, z = (X ((n - 1)).toNat) := ⟨_, rfl⟩
          rw [← epx]
          refine lv_istore (lv' := [(9, .int (J px)), (0, .ref o), (1, .int (J a)), (2, .int (J b)), (3, .int (J c)), (4, .int (J d)), (5, .int (J z_15)), (6, .int (J z_23)), (7, .int (J vx)), (8, .int (J vy))]) SS.1 SS.2.1 dX12_findRays_109 hl (by decide) rfl (fun ls hl => ?_)
          refine lv_aload_n SS.1 SS.2.1 dX12_findRays_111 rfl (lv_at hl 1 rfl) ?_
          refine j_get SS hG hP 0 (v := .ref (q 18)) (C := RX12) (T := TX12) (N := 31) rfl rfl inX12 18 (by decide) (ref := RX12) kw_1076 rfl rfl dX12_findRays_112 ?_
          refine lv_aload_n SS.1 SS.2.1 dX12_findRays_115 rfl (lv_at hl 1 rfl) ?_
          refine j_get SS hG hP 0 (v := .int (J n)) (C := RX12) (T := TX12) (N := 31) rfl rfl inX12 19 (by decide) (ref := RX12) kw_1077 rfl rfl dX12_findRays_116 ?_
          refine j_iconst SS dX12_findRays_119 ?_
          refine j_isub SS (x := n) (y := 1) dX12_findRays_120 ?_
          refine j_iald SS hG hP 16 (n := 4000) (f := Y) rfl (z := (n - 1)) (by omega) (by omega) dX12_findRays_121 ?_
          obtain ⟨py, epy⟩ : ∃ z : Int, z = (Y ((n - 1)).toNat) := ⟨_, rfl⟩
          rw [← epy]
          refine lv_istore (lv' := [(10, .int (J py)), (9, .int (J px)), (0, .ref o), (1, .int (J a)), (2, .int (J b)), (3, .int (J c)), (4, .int (J d)), (5, .int (J z_15)), (6, .int (J z_23)), (7, .int (J vx)), (8, .int (J vy))]) SS.1 SS.2.1 dX12_findRays_122 hl (by decide) rfl (fun ls hl => ?_)
          have hbp : (-40 ≤ px ∧ px ≤ 40) ∧ -40 ≤ py ∧ py ≤ 40 := by rw [epx, epy]; exact hbn
          have hgp : Int.gcd px py = 1 := by rw [epx, epy]; exact i66_5
          refine lv_aload_n SS.1 SS.2.1 dX12_findRays_124 rfl (lv_at hl 2 rfl) ?_
          refine lv_iload SS.1 SS.2.1 dX12_findRays_125 (lv_at hl 1 rfl) ?_
          refine lv_iload SS.1 SS.2.1 dX12_findRays_127 (lv_at hl 0 rfl) ?_
          refine j_vWv SS (As := [.int (J px), .int (J py)]) (rest := []) (c_X12_beside l D o q (uV (uI (uI u 17 X) 18 Y) 19 n) A (mW_D hD) px py (show -40 ≤ px ∧ px ≤ 40 from (by omega)) (show -40 ≤ py ∧ py ≤ 40 from (by omega)) (show Int.gcd px py = 1 from (hgp)) (show 0 ≤ n ∧ n < 4000 from (by omega))) mf_X12_beside kw_1396 hG hP hP (ci := 8) (q0 := 0) rfl rfl rfl hS (fun _ h => h) rfl hl.1 ⟨⟨Nat.le_of_ble_eq_true rfl, Nat.le_of_ble_eq_true rfl⟩, Nat.le_of_ble_eq_true rfl, Nat.le_refl _, Nat.le_refl _⟩ rfl dX12_findRays_129 (fun u129 H locs h_129 hP _ hS => ?_)
          obtain ⟨f_129, g_129, wx_129, wy_129, rfl, h_129⟩ := h_129
          have hP : va_P D.1 j_cl (mW D o q (uV (uI (uI u 17 f_129) 18 g_129) 19 n)) H := hP
          have h_129 : f_129 = upI (X) (n).toNat wx_129 ∧ g_129 = upI (Y) (n).toNat wy_129 ∧ cx px py wx_129 wy_129 = 1 ∧ (-40 ≤ wx_129 ∧ wx_129 ≤ 40) ∧ -40 ≤ wy_129 ∧ wy_129 ≤ 40 := h_129
          obtain ⟨k1, k2, k3, k4, k5⟩ := h_129
          refine lv_iload SS.1 SS.2.1 dX12_findRays_132 (lv_at hl 1 rfl) ?_
          refine lv_iload SS.1 SS.2.1 dX12_findRays_134 (lv_at hl 0 rfl) ?_
          refine lv_iload SS.1 SS.2.1 dX12_findRays_136 (lv_at hl 9 rfl) ?_
          refine lv_iload SS.1 SS.2.1 dX12_findRays_138 (lv_at hl 10 rfl) ?_
          refine j_sRi SS (As := [.int (J px), .int (J py), .int (J vx), .int (J vy)]) (rest := []) (c_X12_cross l D px py vx vy ) mf_X12_cross kw_1259 hG trivial rfl hl.1 ⟨⟨Nat.le_of_ble_eq_true rfl, Nat.le_of_ble_eq_true rfl⟩, Nat.le_of_ble_eq_true rfl, Nat.le_refl _, Nat.le_refl _⟩ rfl dX12_findRays_140 (fun z_140 h_140 => ?_)
          have h_140 : z_140 = px * vy - py * vx := h_140
          have n3 := mulb (A := 40) (B := 40) hbp.1 hvb.2
          have n4 := mulb (A := 40) (B := 40) hbp.2 hvb.1
          have eqn : z_140 = cx px py vx vy := h_140
          have hn0 : 0 < z_140 := by rw [h_140, epx, epy]; omega
          refine lv_istore (lv' := [(11, .int (J z_140)), (10, .int (J py)), (9, .int (J px)), (0, .ref o), (1, .int (J a)), (2, .int (J b)), (3, .int (J c)), (4, .int (J d)), (5, .int (J z_15)), (6, .int (J z_23)), (7, .int (J vx)), (8, .int (J vy))]) SS.1 SS.2.1 dX12_findRays_143 hl (by decide) rfl (fun ls hl => ?_)
          refine lv_aload_n SS.1 SS.2.1 dX12_findRays_145 rfl (lv_at hl 3 rfl) ?_
          refine j_get SS hG hP 0 (v := .ref (q 17)) (C := RX12) (T := TX12) (N := 31) rfl rfl inX12 17 (by decide) (ref := RX12) kw_1075 rfl rfl dX12_findRays_146 ?_
          refine lv_aload_n SS.1 SS.2.1 dX12_findRays_149 rfl (lv_at hl 3 rfl) ?_
          refine j_get SS hG hP 0 (v := .int (J n)) (C := RX12) (T := TX12) (N := 31) rfl rfl inX12 19 (by decide) (ref := RX12) kw_1077 rfl rfl dX12_findRays_150 ?_
          refine j_iald SS hG hP 15 (n := 4000) (f := f_129) rfl (z := n) (by omega) (by omega) dX12_findRays_153 ?_
          refine lv_aload_n SS.1 SS.2.1 dX12_findRays_154 rfl (lv_at hl 3 rfl) ?_
          refine j_get SS hG hP 0 (v := .ref (q 18)) (C := RX12) (T := TX12) (N := 31) rfl rfl inX12 18 (by decide) (ref := RX12) kw_1076 rfl rfl dX12_findRays_155 ?_
          refine lv_aload_n SS.1 SS.2.1 dX12_findRays_158 rfl (lv_at hl 3 rfl) ?_
          refine j_get SS hG hP 0 (v := .int (J n)) (C := RX12) (T := TX12) (N := 31) rfl rfl inX12 19 (by decide) (ref := RX12) kw_1077 rfl rfl dX12_findRays_159 ?_
          refine j_iald SS hG hP 16 (n := 4000) (f := g_129) rfl (z := n) (by omega) (by omega) dX12_findRays_162 ?_
          refine lv_iload SS.1 SS.2.1 dX12_findRays_163 (lv_at hl 10 rfl) ?_
          refine lv_iload SS.1 SS.2.1 dX12_findRays_165 (lv_at hl 11 rfl) ?_
          refine j_sRi SS (As := [.int (J (f_129 (n).toNat)), .int (J (g_129 (n).toNat)), .int (J vx), .int (J vy)]) (rest := []) (c_X12_cross l D (f_129 (n).toNat) (g_129 (n).toNat) vx vy ) mf_X12_cross kw_1259 hG trivial rfl hl.1 ⟨⟨Nat.le_of_ble_eq_true rfl, Nat.le_of_ble_eq_true rfl⟩, Nat.le_of_ble_eq_true rfl, Nat.le_refl _, Nat.le_refl _⟩ rfl dX12_findRays_167 (fun z_167 h_167 => ?_)
          have h_167 : z_167 = (f_129 (n).toNat) * vy - (g_129 (n).toNat) * vx := h_167
          have eo : z_167 = cx wx_129 wy_129 vx vy := by rw [h_167, k1, k2, upI_s, upI_s]; rfl
          have n5 := mulb (A := 40) (B := 40) k4 hvb.2
          have n6 := mulb (A := 40) (B := 40) k5 hvb.1
          have ho : -3200 ≤ z_167 ∧ z_167 ≤ 3200 := by rw [eo]; unfold cx; omega
          refine lv_istore (lv' := [(12, .int (J z_167)), (11, .int (J z_140)), (10, .int (J py)), (9, .int (J px)), (0, .ref o), (1, .int (J a)), (2, .int (J b)), (3, .int (J c)), (4, .int (J d)), (5, .int (J z_15)), (6, .int (J z_23)), (7, .int (J vx)), (8, .int (J vy))]) SS.1 SS.2.1 dX12_findRays_170 hl (by decide) rfl (fun ls hl => ?_)
          refine lv_iload SS.1 SS.2.1 dX12_findRays_172 (lv_at hl 0 rfl) ?_
          have L_196 : ∀ (k : Int) (H : Heap) (locs : List Loc) (hP : va_P D.1 j_cl (mW D o q (uV (uI (uI u 17 f_129) 18 g_129) 19 n)) H) (hS : va_S A st.heap H locs) (ls : Array Slot) (hl : lv_has ls 14 [(0, .ref o), (1, .int (J a)), (2, .int (J b)), (3, .int (J c)), (4, .int (J d)), (5, .int (J z_15)), (6, .int (J z_23)), (7, .int (J vx)), (8, .int (J vy)), (9, .int (J px)), (10, .int (J py)), (11, .int (J z_140)), (12, .int (J z_167))]) (i196_0 : 0 ≤ z_167 + k * z_140 ∧ z_167 + k * z_140 < z_140), W pr l en (headSpec (jw yX12_findRays cX12_findRays 14 (some .boolean)) (jr 2 44)).room st mi (([.ref o, .int (J a), .int (J b), .int (J c), .int (J d)] : List Value).toArray) below meth co H locs 0 0 (MQ below (jWi (fun z u' => ∃ X : Nat → Int, ∃ Y : Nat → Int, ∃ n : Int, u' = (uV (uI (uI u 17 X) 18 Y) 19 n) ∧ ((z = 0 ∧ cx a b c d ≤ 0) ∨ (z = 1 ∧ 0 < cx a b c d ∧ ry a b c d X Y n))) (fun u' H => va_P D.1 j_cl (mW D o q u') H) A) (([.ref o, .int (J a), .int (J b), .int (J c), .int (J d)] : List Value).toArray) st 0 0 A) (F0 mi 196 ls [.int (J k)]) := by
            intro k  H locs hP hS ls hl i196_0
            refine lv_istore (lv' := [(13, .int (J k)), (0, .ref o), (1, .int (J a)), (2, .int (J b)), (3, .int (J c)), (4, .int (J d)), (5, .int (J z_15)), (6, .int (J z_23)), (7, .int (J vx)), (8, .int (J vy)), (9, .int (J px)), (10, .int (J py)), (11, .int (J z_140)), (12, .int (J z_167))]) SS.1 SS.2.1 dX12_findRays_196 hl (by decide) rfl (fun ls hl => ?_)
            have hs := ry_s (by omega) epx epy k1 k2 i66_2 i66_3 k3 hvb eqn (k := k) (by rw [← eo]; exact i196_0)
            refine lv_aload_n SS.1 SS.2.1 dX12_findRays_198 rfl (lv_at hl 1 rfl) ?_
            refine j_get SS hG hP 0 (v := .ref (q 17)) (C := RX12) (T := TX12) (N := 31) rfl rfl inX12 17 (by decide) (ref := RX12) kw_1075 rfl rfl dX12_findRays_199 ?_
            refine lv_aload_n SS.1 SS.2.1 dX12_findRays_202 rfl (lv_at hl 1 rfl) ?_
            refine j_get SS hG hP 0 (v := .int (J n)) (C := RX12) (T := TX12) (N := 31) rfl rfl inX12 19 (by decide) (ref := RX12) kw_1077 rfl rfl dX12_findRays_203 ?_
            refine lv_dup2_11 SS.1 SS.2.1 dX12_findRays_206 rfl rfl ?_
            refine j_iald SS hG hP 15 (n := 4000) (f := f_129) rfl (z := n) (by omega) (by omega) dX12_findRays_207 ?_
            refine lv_iload SS.1 SS.2.1 dX12_findRays_208 (lv_at hl 0 rfl) ?_
            refine lv_iload SS.1 SS.2.1 dX12_findRays_210 (lv_at hl 10 rfl) ?_
            refine j_imul SS (x := k) (y := px) dX12_findRays_212 ?_
            refine j_iadd SS (x := (f_129 (n).toNat)) (y := (k * px)) dX12_findRays_213 ?_
            refine j_iast SS hG hP (mW_D hD) hS 15 (n := 4000) (f := f_129) rfl (z := n) (v := ((f_129 (n).toNat) + (k * px))) (by omega) (by omega) dX12_findRays_214 (ws' := (mW D o q (uV (uI (uI u 17 (upI f_129 (n).toNat ((f_129 (n).toNat) + (k * px)))) 18 g_129) 19 n))) rfl (fun H locs hP hS => ?_)
            refine lv_aload_n SS.1 SS.2.1 dX12_findRays_215 rfl (lv_at hl 1 rfl) ?_
            refine j_get SS hG hP 0 (v := .ref (q 18)) (C := RX12) (T := TX12) (N := 31) rfl rfl inX12 18 (by decide) (ref := RX12) kw_1076 rfl rfl dX12_findRays_216 ?_
            refine lv_aload_n SS.1 SS.2.1 dX12_findRays_219 rfl (lv_at hl 1 rfl) ?_
            refine j_get SS hG hP 0 (v := .int (J n)) (C := RX12) (T := TX12) (N := 31) rfl rfl inX12 19 (by decide) (ref := RX12) kw_1077 rfl rfl dX12_findRays_220 ?_
            refine lv_dup2_11 SS.1 SS.2.1 dX12_findRays_223 rfl rfl ?_
            refine j_iald SS hG hP 16 (n := 4000) (f := g_129) rfl (z := n) (by omega) (by omega) dX12_findRays_224 ?_
            refine lv_iload SS.1 SS.2.1 dX12_findRays_225 (lv_at hl 0 rfl) ?_
            refine lv_iload SS.1 SS.2.1 dX12_findRays_227 (lv_at hl 11 rfl) ?_
            refine j_imul SS (x := k) (y := py) dX12_findRays_229 ?_
            refine j_iadd SS (x := (g_129 (n).toNat)) (y := (k * py)) dX12_findRays_230 ?_
            refine j_iast SS hG hP (mW_D hD) hS 16 (n := 4000) (f := g_129) rfl (z := n) (v := ((g_129 (n).toNat) + (k * py))) (by omega) (by omega) dX12_findRays_231 (ws' := (mW D o q (uV (uI (uI u 17 (upI f_129 (n).toNat ((f_129 (n).toNat) + (k * px)))) 18 (upI g_129 (n).toNat ((g_129 (n).toNat) + (k * py)))) 19 n))) rfl (fun H locs hP hS => ?_)
            refine lv_aload_n SS.1 SS.2.1 dX12_findRays_232 rfl (lv_at hl 1 rfl) ?_
            refine lv_dup SS.1 SS.2.1 dX12_findRays_233 rfl ?_
            refine j_get SS hG hP 0 (v := .int (J n)) (C := RX12) (T := TX12) (N := 31) rfl rfl inX12 19 (by decide) (ref := RX12) kw_1077 rfl rfl dX12_findRays_234 ?_
            refine j_iconst SS dX12_findRays_237 ?_
            refine j_iadd SS (x := n) (y := 1) dX12_findRays_238 ?_
            refine j_put SS hG hP (mW_D hD) hS 0 (v := .int (J (n + 1))) (ty := .int) (C := RX12) (T := TX12) (N := 31) rfl rfl inX12 tyX12 tyX12_ok nmX12 19 (by decide) (ref := RX12) kw_1077 rfl rfl (by decide +kernel) rfl rfl (Nat.le_of_ble_eq_true rfl) dX12_findRays_239 (ws' := (mW D o q (uV (uI (uI u 17 (upI f_129 (n).toNat ((f_129 (n).toNat) + (k * px)))) 18 (upI g_129 (n).toNat ((g_129 (n).toNat) + (k * py)))) 19 (n + 1)))) rfl (fun H locs hP hS => ?_)
            refine lv_goto (tgt := 66) SS.1 SS.2.1 dX12_findRays_242 (by decide) ?_
            exact ih_66 (upI f_129 (n).toNat ((f_129 (n).toNat) + (k * px))) (upI g_129 (n).toNat ((g_129 (n).toNat) + (k * py))) (n + 1) _ _ hP hS ls (lv_sub hl [1, 2, 3, 4, 5, 6, 7, 8, 9] rfl) (by have q1 := i66_4; rw [← epx, ← epy, ← eqn] at q1; omega) (⟨hs.2.2.2.2.1.trans i66_1.1, hs.2.2.2.2.2.trans i66_1.2⟩) (hs.1) (hs.2.1) (by rw [hs.2.2.1, ← eo]; have q1 := i66_4; rw [← epx, ← epy, ← eqn] at q1; omega) (hs.2.2.2.1) (by rw [hs.2.2.1, ← eo]; have q1 := hm; rw [← epx, ← epy, ← eqn] at q1; omega)
          refine j_if_lt SS (tgt := 186) (x := z_167) dX12_findRays_174 (by decide) (by omega) (fun c_174 => ?_) (fun c_174 => ?_)
          · skip
            refine lv_iload SS.1 SS.2.1 dX12_findRays_186 (lv_at hl 1 rfl) ?_
            refine j_iconst SS dX12_findRays_188 ?_
            refine j_isub SS (x := z_140) (y := 1) dX12_findRays_189 ?_
            refine lv_iload SS.1 SS.2.1 dX12_findRays_190 (lv_at hl 0 rfl) ?_
            refine j_isub SS (x := (z_140 - 1)) (y := z_167) dX12_findRays_192 ?_
            refine lv_iload SS.1 SS.2.1 dX12_findRays_193 (lv_at hl 1 rfl) ?_
            refine j_idiv SS (x := ((z_140 - 1) - z_167)) (y := z_140) dX12_findRays_195 (by omega) (by omega) (by omega) ?_
            exact L_196 (Int.tdiv ((z_140 - 1) - z_167) z_140) _ _ hP hS ls (lv_sub hl [4, 5, 6, 7, 8, 9, 10, 11, 12, 3, 2, 1, 0] rfl) (of_k hn0 (Or.inr ⟨by omega, rfl⟩))
          · skip
            refine lv_iload SS.1 SS.2.1 dX12_findRays_177 (lv_at hl 0 rfl) ?_
            refine lv_iload SS.1 SS.2.1 dX12_findRays_179 (lv_at hl 1 rfl) ?_
            refine j_idiv SS (x := z_167) (y := z_140) dX12_findRays_181 (by omega) (by omega) (by omega) ?_
            refine j_ineg SS dX12_findRays_182 ?_
            refine lv_goto (tgt := 196) SS.1 SS.2.1 dX12_findRays_183 (by decide) ?_
            exact L_196 (-(Int.tdiv z_167 z_140)) _ _ hP hS ls (lv_sub hl [4, 5, 6, 7, 8, 9, 10, 11, 12, 3, 2, 1, 0] rfl) (of_k hn0 (Or.inl ⟨by omega, rfl⟩))
    exact L_66 ((cx ((upI (u.1 17) (0 : Int).toNat x0) ((1 : Int) - 1).toNat) ((upI (u.1 18) (0 : Int).toNat y0) ((1 : Int) - 1).toNat) vx vy).toNat + 1) (upI (u.1 17) (0 : Int).toNat x0) (upI (u.1 18) (0 : Int).toNat y0) 1 _ _ hP hS ls (lv_sub hl [4, 5, 6, 7, 8, 3, 2, 1, 0] rfl) (by omega) (⟨by rw [show (0 : Int).toNat = 0 from rfl, upI_s, ex0, h_15], by rw [show (0 : Int).toNat = 0 from rfl, upI_s, ey0, h_15]⟩) (fun j hj => by omega) (fun j hj => by rw [show j = 0 by omega, show (0 : Int).toNat = 0 from rfl, upI_s, upI_s, ex0, ey0]; exact ⟨td_b p0, td_b p1⟩) (by rw [show ((1 : Int) - 1).toNat = 0 from rfl, show (0 : Int).toNat = 0 from rfl, upI_s, upI_s, ex0, ey0]; have n1 := mulb (A := 40) (B := 40) (td_b (b := z_15) p0) hvb.2; have n2 := mulb (A := 40) (B := 40) (td_b (b := z_15) p1) hvb.1; unfold cx; omega) (by rw [show ((1 : Int) - 1).toNat = 0 from rfl, show (0 : Int).toNat = 0 from rfl, upI_s, upI_s, ex0, ey0, h_15]; exact gcd_div (by omega)) (Nat.lt_succ_self _)
  · skip
    refine j_iconst SS dX12_findRays_11 ?_
    exact W.zret SS.1 SS.2.1 hr (j_nz (by decide)) (fun t ht hW => ⟨⟨_, (uV (uI (uI u 17 (u.1 17)) 18 (u.1 18)) 19 (u.2.2 19)), rfl, ⟨0, rfl, (⟨(u.1 17), (u.1 18), (u.2.2 19), rfl, Or.inl ⟨rfl, by rw [h_5] at c_8; exact c_8⟩⟩)⟩, by show va_P D.1 j_cl (mW D o q (uV (uI (uI u 17 (u.1 17)) 18 (u.1 18)) 19 (u.2.2 19))) t.heap; rw [ht]; exact hP⟩, hS.F ht⟩) hS.2.2 dX12_findRays_12 hlk
