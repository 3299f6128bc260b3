
theorem fb_holes : ∀ (m n : Nat) (f : Nat → Nat), (∀ i, i < n → f i < m) → (∀ i j, i < j → j < n → f i ≠ f j) → n ≤ m := by
  intro m
  induction m with
  | zero =>
    intro n f h _
    by_cases e : n = 0
    · omega
    · have := h 0 (by omega); omega
  | succ m ih =>
    intro n f h h2
    by_cases e : n = 0
    · omega
    · obtain ⟨k, rfl⟩ : ∃ k, n = k + 1 := ⟨n - 1, by omega⟩
      have := ih k (fun i => if f i = m then f k else f i) (fun i hi => by
        have a := h i (by omega)
        have b := h k (by omega)
        have c := h2 i k hi (by omega)
        split <;> omega) (fun i j hij hj => by
        have a := h2 i j hij (by omega)
        have b := h2 i k (by omega) (by omega)
        have c := h2 j k hj (by omega)
        split <;> split <;> omega)
      omega
theorem Ja_nat (x y : Int32) : (x &&& y).toBitVec.toNat = x.toBitVec.toNat &&& y.toBitVec.toNat := by
  rw [Int32.toBitVec_and, BitVec.toNat_and]
theorem J_bn {z : Int} (h : 0 ≤ z ∧ z ≤ 2147483647) : (J z).toBitVec.toNat = z.toNat := by
  obtain ⟨n, rfl⟩ : ∃ n : Nat, z = (n : Int) := ⟨z.toNat, by omega⟩
  show (Int32.ofInt (n : Int)).toBitVec.toNat = n
  rw [Int32.toBitVec_ofInt, BitVec.ofInt_natCast, BitVec.toNat_ofNat]
  omega
theorem J_andn {a b : Int} (ha : 0 ≤ a ∧ a ≤ 2147483647) (hb : 0 ≤ b ∧ b ≤ 2147483647) : J a &&& J b = J ((a.toNat &&& b.toNat : Nat) : Int) := by
  apply Int32.toBitVec_inj.mp
  apply BitVec.eq_of_toNat_eq
  have h1 : a.toNat &&& b.toNat ≤ a.toNat := Nat.and_le_left
  rw [Ja_nat, J_bn ha, J_bn hb, J_bn (by omega)]
  omega
theorem J_andm {a n : Int} (ha : 0 ≤ a ∧ a ≤ 2147483647) (hn : n = 4095) : J a &&& J n = J (a % (n + 1)) := by
  subst hn
  rw [J_andn ha (by omega), show (4095 : Int).toNat = 2 ^ 12 - 1 from rfl, Nat.and_two_pow_sub_one_eq_mod]
  congr 1; omega
theorem L_m12 (x : Int64) : 0 ≤ (Int64.toInt32 (x &&& 4095)).toInt ∧ (Int64.toInt32 (x &&& 4095)).toInt < 4096 := by
  have h1 : (x &&& 4095).toBitVec.toNat < 4096 := by
    rw [Int64.toBitVec_and, BitVec.toNat_and]
    have : x.toBitVec.toNat &&& (4095 : Int64).toBitVec.toNat ≤ (4095 : Int64).toBitVec.toNat := Nat.and_le_right
    have e : (4095 : Int64).toBitVec.toNat = 4095 := by decide +kernel
    omega
  generalize x &&& 4095 = y at h1
  have h2 : y = Int64.ofNat y.toBitVec.toNat := by
    apply Int64.toBitVec_inj.mp
    show y.toBitVec = BitVec.ofNat 64 y.toBitVec.toNat
    rw [BitVec.ofNat_toNat, BitVec.setWidth_eq]
  rw [h2]
  generalize y.toBitVec.toNat = n at h1
  have h3 : (Int64.ofNat n).toInt32 = Int32.ofNat n := lN_i n
  rw [h3]
  have h4 : (Int32.ofNat n).toInt = (n : Int) := nI_toInt (by omega)
  omega
def sgp (A B S : Nat → Int) (n all a b : Int) : Prop := (0 ≤ n ∧ 2 * n ≤ a * (23 - a) + 2 * (b - a - 1)) ∧ (∀ k : Nat, (k : Int) < n → (0 ≤ A k ∧ A k < all) ∧ 0 ≤ B k ∧ B k < all) ∧ ∀ a' b' : Int, 0 ≤ a' → a' < b' → b' < all → (a' < a ∨ (a' = a ∧ b' < b)) → S (12 * a' + b').toNat = -9 ∨ (0 ≤ S (12 * a' + b').toNat ∧ S (12 * a' + b').toNat < n)
def sg (A B S : Nat → Int) (n all : Int) : Prop := (0 ≤ n ∧ n ≤ 66) ∧ (∀ k : Nat, (k : Int) < n → (0 ≤ A k ∧ A k < all) ∧ 0 ≤ B k ∧ B k < all) ∧ ∀ a' b' : Int, 0 ≤ a' → a' < b' → b' < all → S (12 * a' + b').toNat = -9 ∨ (0 ≤ S (12 * a' + b').toNat ∧ S (12 * a' + b').toNat < n)
theorem sgp_0 {A B S : Nat → Int} {all : Int} : sgp A B S 0 all 0 1 := ⟨by omega, fun k hk => by omega, fun a' b' h1 h2 h3 h4 => by omega⟩
theorem sg_c {a : Int} (h0 : 0 ≤ a) (h1 : a ≤ 12) : a * (23 - a) ≤ 132 := by
  have : a = 0 ∨ a = 1 ∨ a = 2 ∨ a = 3 ∨ a = 4 ∨ a = 5 ∨ a = 6 ∨ a = 7 ∨ a = 8 ∨ a = 9 ∨ a = 10 ∨ a = 11 ∨ a = 12 := by omega
  rcases this with e | e | e | e | e | e | e | e | e | e | e | e | e <;> subst e <;> decide
theorem sg_66 {n a b : Int} (h0 : 0 ≤ a) (h1 : a < b) (h2 : b < 12) (h : 2 * n ≤ a * (23 - a) + 2 * (b - a - 1)) : n < 66 := by
  have : a = 0 ∨ a = 1 ∨ a = 2 ∨ a = 3 ∨ a = 4 ∨ a = 5 ∨ a = 6 ∨ a = 7 ∨ a = 8 ∨ a = 9 ∨ a = 10 := by omega
  rcases this with e | e | e | e | e | e | e | e | e | e | e <;> subst e <;> omega
theorem sgp_e {A B S : Nat → Int} {n all a : Int} (ha : 0 ≤ a) (h12 : all ≤ 12) (h : sgp A B S n all a all) : sgp A B S n all (a + 1) (a + 1 + 1) := by
  obtain ⟨h1, h2, h3⟩ := h
  have e : (a + 1) * (23 - (a + 1)) = a * (23 - a) + 22 - 2 * a := by grind
  refine ⟨by omega, h2, fun a' b' g1 g2 g3 g4 => h3 a' b' g1 g2 g3 (by omega)⟩
theorem sgp_x {A B S : Nat → Int} {n all a : Int} (ha : 0 ≤ a) (h12 : a ≤ 12) (h : sgp A B S n all a (a + 1)) (hall : a = all) : sg A B S n all := by
  obtain ⟨h1, h2, h3⟩ := h
  have := sg_c ha h12
  exact ⟨by omega, h2, fun a' b' g1 g2 g3 => h3 a' b' g1 g2 g3 (by omega)⟩
theorem sgp_n {A B S : Nat → Int} {n all a b : Int} (ha : 0 ≤ a) (hb : a < b) (hball : b < all) (h12 : all ≤ 12) (h : sgp A B S n all a b) : sgp A B (upI S (12 * a + b).toNat (-9)) n all a (b + 1) := by
  obtain ⟨h1, h2, h3⟩ := h
  refine ⟨by omega, h2, fun a' b' g1 g2 g3 g4 => ?_⟩
  by_cases e : a' = a ∧ b' = b
  · rw [e.1, e.2, upI_s]; exact Or.inl rfl
  · rw [upI_n (by omega)]; exact h3 a' b' g1 g2 g3 (by omega)
theorem sgp_y {A B S : Nat → Int} {n all a b : Int} (ha : 0 ≤ a) (hb : a < b) (hball : b < all) (h12 : all ≤ 12) (h : sgp A B S n all a b) : sgp (upI A n.toNat a) (upI B n.toNat b) (upI (upI S (12 * a + b).toNat (-9)) (12 * a + b).toNat n) (n + 1) all a (b + 1) := by
  obtain ⟨h1, h2, h3⟩ := h
  refine ⟨by omega, fun k hk => ?_, fun a' b' g1 g2 g3 g4 => ?_⟩
  · by_cases e : (k : Int) = n
    · rw [show k = n.toNat by omega, upI_s, upI_s]; omega
    · rw [upI_n (by omega), upI_n (by omega)]; exact h2 k (by omega)
  · by_cases e : a' = a ∧ b' = b
    · rw [e.1, e.2, upI_s]; omega
    · rw [upI_n (by omega), upI_n (by omega)]
      have := h3 a' b' g1 g2 g3 (by omega)
      omega
/-- the points are few, the segments told -/
def CU (u : MS) : Prop := (0 ≤ u.2.2 12 ∧ u.2.2 12 ≤ 12) ∧ bd 40 (u.1 10) (u.1 11) 6561 ∧ sg (u.1 20) (u.1 21) (u.1 22) (u.2.2 23) (u.2.2 12)
theorem sg_at {A B S : Nat → Int} {n all k : Int} (h : sg A B S n all) (h0 : 0 ≤ k) (h1 : k < n) : (0 ≤ A k.toNat ∧ A k.toNat < all) ∧ 0 ≤ B k.toNat ∧ B k.toNat < all := h.2.1 k.toNat (by omega)
theorem bt_n {A B S : Nat → Int} {n all a b z : Int} (h : sg A B S n all) (ha : 0 ≤ a ∧ a < all) (hb : 0 ≤ b ∧ b < all) (hne : a ≠ b) (hz : (a < b ∧ z = S (12 * a + b).toNat) ∨ (b ≤ a ∧ z = S (12 * b + a).toNat)) : z = -9 ∨ (0 ≤ z ∧ z < n) := by
  rcases hz with ⟨h1, e⟩ | ⟨h1, e⟩
  · rw [e]; exact h.2.2 a b ha.1 h1 hb.2
  · rw [e]; exact h.2.2 b a hb.1 (by omega) ha.2
/-- the slots: none, or a number below n; how many are told -/
def sl (S : Nat → Int) (n : Int) : Prop := (∀ k : Nat, k < 4096 → S k = -9 ∨ (0 ≤ S k ∧ S k < n)) ∧ ∀ i j : Nat, i < j → j < 4096 → S i ≠ -9 → S i ≠ S j
theorem sl_free {S : Nat → Int} {n : Int} (h : sl S n) (hn : n ≤ 1500) : ∃ k : Nat, k < 4096 ∧ S k = -9 := by
  apply Classical.byContradiction
  intro hc
  have hx : ∀ k : Nat, k < 4096 → S k ≠ -9 := fun k hk e => hc ⟨k, hk, e⟩
  have := fb_holes 1500 4096 (fun k => (S k).toNat) (fun i hi => by
    have a := h.1 i hi
    have b := hx i hi
    show (S i).toNat < 1500
    omega) (fun i j hij hj => by
    have a := h.1 i (by omega)
    have a2 := h.1 j hj
    have b := hx i (by omega)
    have b2 := hx j hj
    have c := h.2 i j hij hj b
    show (S i).toNat ≠ (S j).toNat
    omega)
  omega
theorem sl_put {S : Nat → Int} {n z : Int} (hn : 0 ≤ n) (hz : 0 ≤ z ∧ z < 4096) (h : sl S n) (h9 : S z.toNat = -9) : sl (upI S z.toNat n) (n + 1) := by
  refine ⟨fun k hk => ?_, fun i j hij hj hi => ?_⟩
  · by_cases e : k = z.toNat
    · rw [e, upI_s]; omega
    · rw [upI_n e]; have := h.1 k hk; omega
  · by_cases e1 : i = z.toNat
    · rw [e1, upI_s, upI_n (by omega)]
      have := h.1 j hj; omega
    · by_cases e2 : j = z.toNat
      · rw [e2, upI_s, upI_n e1]
        rw [upI_n e1] at hi
        have := h.1 i (by omega); omega
      · rw [upI_n e1, upI_n e2]
        rw [upI_n e1] at hi
        exact h.2 i j hij hj hi

theorem sl_0 {S : Nat → Int} {n : Int} (h : ∀ j : Nat, j < 4096 → S j = -9) : sl S n := ⟨fun k hk => Or.inl (h k hk), fun i j hij hj hi => absurd (h i (by omega)) hi⟩
theorem sl_1 {S : Nat → Int} {z : Int} (hz : 0 ≤ z ∧ z < 4096) (h : ∀ j : Nat, j < 4096 → S j = -9) : sl (upI S z.toNat 0) 1 := sl_put (n := 0) (Int.le_refl 0) hz (sl_0 h) (h _ (by omega))

set_option maxHeartbeats 4000000 in
set_option maxRecDepth 100000 in
theorem c_X12_turn (l : Launch) (D : JD) (o : Nat) (q : Nat → Nat) (u : MS) (i : Int) (j : Int) (k : Int) (p0 : 0 ≤ i ∧ i < 6561) (p1 : 0 ≤ j ∧ j < 6561) (p2 : 0 ≤ k ∧ k < 6561) (p3 : bd 40 (u.1 10) (u.1 11) 6561) : Met l yX12_turn (jw yX12_turn cX12_turn 4 (some .int)) (jr 1 23) (jP [.ref o, .int (J i), .int (J j), .int (J k)] D (fun H => va_P D.1 j_cl (mW D o q u) H)) (jRi (fun z => z = tn (u.1 10) (u.1 11) i.toNat j.toNat k.toNat ∧ -12800 ≤ z ∧ z ≤ 12800)) 0 0 (fun _ => False) := by
  refine Met.ofW (cc := cX12_turn) (maxL := 4) (ret := (some .int)) (by decide) rfl ?_
  intro pr en st mi args below meth co s₁ B hml hv
  obtain ⟨rfl, hG, hP⟩ := hv
  have hr := B.returns
  have hlk := B.notSynchronized
  have SS : jS pr mi co cX12_turn 4 st _ RX12 := ⟨B.exec, B.bytes, hml, findClass_of_methodNamed B.named, fun w hw => atoms_spec (ws := (jw yX12_turn cX12_turn 4 (some .int))) B.pre w (List.mem_cons_of_mem _ hw)⟩
  have hl := lv_entry ([.ref o, .int (J i), .int (J j), .int (J k)]) (n := 4) (Nat.le_of_ble_eq_true rfl)
  rw [lg_entry_eq]
  generalize (lg_sl ([.ref o, .int (J i), .int (J j), .int (J k)]) ++ List.replicate (4 - (lg_sl ([.ref o, .int (J i), .int (J j), .int (J k)])).length) Slot.unset).toArray = ls at hl ⊢
  have hl : lv_has ls 4 [(0, .ref o), (1, .int (J i)), (2, .int (J j)), (3, .int (J k))] := hl
  have b1 := bd_at p3 p0.1 p0.2
  have b2 := bd_at p3 p1.1 p1.2
  have b3 := bd_at p3 p2.1 p2.2
  have m1 := mulb (A := 80) (B := 80) (a := u.1 10 j.toNat - u.1 10 i.toNat) (b := u.1 11 k.toNat - u.1 11 i.toNat) (by omega) (by omega)
  have m2 := mulb (A := 80) (B := 80) (a := u.1 11 j.toNat - u.1 11 i.toNat) (b := u.1 10 k.toNat - u.1 10 i.toNat) (by omega) (by omega)
  refine lv_aload_n SS.1 SS.2.1 dX12_turn_0 rfl (lv_at hl 0 rfl) ?_
  refine j_get SS hG hP 0 (v := .ref (q 10)) (C := RX12) (T := TX12) (N := 31) rfl rfl inX12 10 (by decide) (ref := RX12) kw_1068 rfl rfl dX12_turn_1 ?_
  refine lv_iload_n SS.1 SS.2.1 dX12_turn_4 rfl (lv_at hl 2 rfl) ?_
  refine j_iald SS hG hP 9 (n := 6561) (f := (u.1 10)) rfl (z := j) (by omega) (by omega) dX12_turn_5 ?_
  refine lv_aload_n SS.1 SS.2.1 dX12_turn_6 rfl (lv_at hl 0 rfl) ?_
  refine j_get SS hG hP 0 (v := .ref (q 10)) (C := RX12) (T := TX12) (N := 31) rfl rfl inX12 10 (by decide) (ref := RX12) kw_1068 rfl rfl dX12_turn_7 ?_
  refine lv_iload_n SS.1 SS.2.1 dX12_turn_10 rfl (lv_at hl 1 rfl) ?_
  refine j_iald SS hG hP 9 (n := 6561) (f := (u.1 10)) rfl (z := i) (by omega) (by omega) dX12_turn_11 ?_
  refine j_isub SS (x := ((u.1 10) (j).toNat)) (y := ((u.1 10) (i).toNat)) dX12_turn_12 ?_
  refine lv_aload_n SS.1 SS.2.1 dX12_turn_13 rfl (lv_at hl 0 rfl) ?_
  refine j_get SS hG hP 0 (v := .ref (q 11)) (C := RX12) (T := TX12) (N := 31) rfl rfl inX12 11 (by decide) (ref := RX12) kw_1069 rfl rfl dX12_turn_14 ?_
  refine lv_iload_n SS.1 SS.2.1 dX12_turn_17 rfl (lv_at hl 2 rfl) ?_
  refine j_iald SS hG hP 10 (n := 6561) (f := (u.1 11)) rfl (z := j) (by omega) (by omega) dX12_turn_18 ?_
  refine lv_aload_n SS.1 SS.2.1 dX12_turn_19 rfl (lv_at hl 0 rfl) ?_
  refine j_get SS hG hP 0 (v := .ref (q 11)) (C := RX12) (T := TX12) (N := 31) rfl rfl inX12 11 (by decide) (ref := RX12) kw_1069 rfl rfl dX12_turn_20 ?_
  refine lv_iload_n SS.1 SS.2.1 dX12_turn_23 rfl (lv_at hl 1 rfl) ?_
  refine j_iald SS hG hP 10 (n := 6561) (f := (u.1 11)) rfl (z := i) (by omega) (by omega) dX12_turn_24 ?_
  refine j_isub SS (x := ((u.1 11) (j).toNat)) (y := ((u.1 11) (i).toNat)) dX12_turn_25 ?_
  refine lv_aload_n SS.1 SS.2.1 dX12_turn_26 rfl (lv_at hl 0 rfl) ?_
  refine j_get SS hG hP 0 (v := .ref (q 10)) (C := RX12) (T := TX12) (N := 31) rfl rfl inX12 10 (by decide) (ref := RX12) kw_1068 rfl rfl dX12_turn_27 ?_
  refine lv_iload_n SS.1 SS.2.1 dX12_turn_30 rfl (lv_at hl 3 rfl) ?_
  refine j_iald SS hG hP 9 (n := 6561) (f := (u.1 10)) rfl (z := k) (by omega) (by omega) dX12_turn_31 ?_
  refine lv_aload_n SS.1 SS.2.1 dX12_turn_32 rfl (lv_at hl 0 rfl) ?_
  refine j_get SS hG hP 0 (v := .ref (q 10)) (C := RX12) (T := TX12) (N := 31) rfl rfl inX12 10 (by decide) (ref := RX12) kw_1068 rfl rfl dX12_turn_33 ?_
  refine lv_iload_n SS.1 SS.2.1 dX12_turn_36 rfl (lv_at hl 1 rfl) ?_
  refine j_iald SS hG hP 9 (n := 6561) (f := (u.1 10)) rfl (z := i) (by omega) (by omega) dX12_turn_37 ?_
  refine j_isub SS (x := ((u.1 10) (k).toNat)) (y := ((u.1 10) (i).toNat)) dX12_turn_38 ?_
  refine lv_aload_n SS.1 SS.2.1 dX12_turn_39 rfl (lv_at hl 0 rfl) ?_
  refine j_get SS hG hP 0 (v := .ref (q 11)) (C := RX12) (T := TX12) (N := 31) rfl rfl inX12 11 (by decide) (ref := RX12) kw_1069 rfl rfl dX12_turn_40 ?_
  refine lv_iload_n SS.1 SS.2.1 dX12_turn_43 rfl (lv_at hl 3 rfl) ?_
  refine j_iald SS hG hP 10 (n := 6561) (f := (u.1 11)) rfl (z := k) (by omega) (by omega) dX12_turn_44 ?_
  refine lv_aload_n SS.1 SS.2.1 dX12_turn_45 rfl (lv_at hl 0 rfl) ?_
  refine j_get SS hG hP 0 (v := .ref (q 11)) (C := RX12) (T := TX12) (N := 31) rfl rfl inX12 11 (by decide) (ref := RX12) kw_1069 rfl rfl dX12_turn_46 ?_
  refine lv_iload_n SS.1 SS.2.1 dX12_turn_49 rfl (lv_at hl 1 rfl) ?_
  refine j_iald SS hG hP 10 (n := 6561) (f := (u.1 11)) rfl (z := i) (by omega) (by omega) dX12_turn_50 ?_
  refine j_isub SS (x := ((u.1 11) (k).toNat)) (y := ((u.1 11) (i).toNat)) dX12_turn_51 ?_
  refine j_sRi SS (As := [.int (J (((u.1 10) (j).toNat) - ((u.1 10) (i).toNat))), .int (J (((u.1 11) (j).toNat) - ((u.1 11) (i).toNat))), .int (J (((u.1 10) (k).toNat) - ((u.1 10) (i).toNat))), .int (J (((u.1 11) (k).toNat) - ((u.1 11) (i).toNat)))]) (rest := []) (c_X12_cross l D (((u.1 10) (j).toNat) - ((u.1 10) (i).toNat)) (((u.1 11) (j).toNat) - ((u.1 11) (i).toNat)) (((u.1 10) (k).toNat) - ((u.1 10) (i).toNat)) (((u.1 11) (k).toNat) - ((u.1 11) (i).toNat)) ) mf_X12_cross kw_1259 hG trivial rfl hl.1 ⟨⟨Nat.le_of_ble_eq_true rfl, Nat.le_of_ble_eq_true rfl⟩, Nat.le_of_ble_eq_true rfl, Nat.le_refl _, Nat.le_refl _⟩ rfl dX12_turn_52 (fun z_52 h_52 => ?_)
  have h_52 : z_52 = (((u.1 10) (j).toNat) - ((u.1 10) (i).toNat)) * (((u.1 11) (k).toNat) - ((u.1 11) (i).toNat)) - (((u.1 11) (j).toNat) - ((u.1 11) (i).toNat)) * (((u.1 10) (k).toNat) - ((u.1 10) (i).toNat)) := h_52
  exact W.iret SS.1 SS.2.1 hr (fun t ht hW => ⟨_, rfl, ⟨z_52, rfl, (⟨h_52, by rw [h_52]; omega, by rw [h_52]; omega⟩)⟩, ht⟩) (fun _ h => nomatch h) dX12_turn_55 hlk

set_option maxHeartbeats 4000000 in
set_option maxRecDepth 100000 in
theorem c_X12_signOf (l : Launch) (D : JD) (v : Int) (p0 : -2147483648 ≤ v ∧ v ≤ 2147483647) : Met l yX12_signOf (jw yX12_signOf cX12_signOf 1 (some .int)) (jr 0 0) (jP [.int (J v)] D (fun _ => True)) (jRi (fun z => (z = 1 ∧ 0 < v) ∨ (z = -1 ∧ v < 0) ∨ (z = 0 ∧ v = 0))) 0 0 (fun _ => False) := by
  refine Met.ofW (cc := cX12_signOf) (maxL := 1) (ret := (some .int)) (by decide) rfl ?_
  intro pr en st mi args below meth co s₁ B hml hv
  obtain ⟨rfl, hG, hP⟩ := hv
  have hr := B.returns
  have hlk := B.notSynchronized
  have SS : jS pr mi co cX12_signOf 1 st _ RX12 := ⟨B.exec, B.bytes, hml, findClass_of_methodNamed B.named, fun w hw => atoms_spec (ws := (jw yX12_signOf cX12_signOf 1 (some .int))) B.pre w (List.mem_cons_of_mem _ hw)⟩
  have hl := lv_entry ([.int (J v)]) (n := 1) (Nat.le_of_ble_eq_true rfl)
  rw [lg_entry_eq]
  generalize (lg_sl ([.int (J v)]) ++ List.replicate (1 - (lg_sl ([.int (J v)])).length) Slot.unset).toArray = ls at hl ⊢
  have hl : lv_has ls 1 [(0, .int (J v))] := hl
  refine lv_iload_n SS.1 SS.2.1 dX12_signOf_0 rfl (lv_at hl 0 rfl) ?_
  refine j_if_le SS (tgt := 8) (x := v) dX12_signOf_1 (by decide) (by omega) (fun c_1 => ?_) (fun c_1 => ?_)
  · skip
    refine lv_iload_n SS.1 SS.2.1 dX12_signOf_8 rfl (lv_at hl 0 rfl) ?_
    refine j_if_ge SS (tgt := 16) (x := v) dX12_signOf_9 (by decide) (by omega) (fun c_9 => ?_) (fun c_9 => ?_)
    · skip
      refine j_iconst SS dX12_signOf_16 ?_
      exact W.iret SS.1 SS.2.1 hr (fun t ht hW => ⟨_, rfl, ⟨0, rfl, (by omega)⟩, ht⟩) (fun _ h => nomatch h) dX12_signOf_17 hlk
    · skip
      refine j_iconst SS dX12_signOf_12 ?_
      refine lv_goto (tgt := 17) SS.1 SS.2.1 dX12_signOf_13 (by decide) ?_
      exact W.iret SS.1 SS.2.1 hr (fun t ht hW => ⟨_, rfl, ⟨(-1), rfl, (by omega)⟩, ht⟩) (fun _ h => nomatch h) dX12_signOf_17 hlk
  · skip
    refine j_iconst SS dX12_signOf_4 ?_
    refine lv_goto (tgt := 17) SS.1 SS.2.1 dX12_signOf_5 (by decide) ?_
    exact W.iret SS.1 SS.2.1 hr (fun t ht hW => ⟨_, rfl, ⟨1, rfl, (by omega)⟩, ht⟩) (fun _ h => nomatch h) dX12_signOf_17 hlk

set_option maxHeartbeats 4000000 in
set_option maxRecDepth 100000 in
theorem c_X12_doCross (l : Launch) (D : JD) (o : Nat) (q : Nat → Nat) (u : MS) (s : Int) (t : Int) (p0 : CU u) (p1 : 0 ≤ s ∧ s < u.2.2 23) (p2 : 0 ≤ t ∧ t < u.2.2 23) : Met l yX12_doCross (jw yX12_doCross cX12_doCross 7 (some .boolean)) (jr 2 46) (jP [.ref o, .int (J s), .int (J t)] D (fun H => va_P D.1 j_cl (mW D o q u) H)) (jRi (fun z => z = 0 ∨ z = 1)) 0 0 (fun _ => False) := by
  refine Met.ofW (cc := cX12_doCross) (maxL := 7) (ret := (some .boolean)) (by decide) rfl ?_
  intro pr en st mi args below meth co s₁ B hml hv
  obtain ⟨rfl, hG, hP⟩ := hv
  have hr := B.returns
  have hlk := B.notSynchronized
  have SS : jS pr mi co cX12_doCross 7 st _ RX12 := ⟨B.exec, B.bytes, hml, findClass_of_methodNamed B.named, fun w hw => atoms_spec (ws := (jw yX12_doCross cX12_doCross 7 (some .boolean))) B.pre w (List.mem_cons_of_mem _ hw)⟩
  have hl := lv_entry ([.ref o, .int (J s), .int (J t)]) (n := 7) (Nat.le_of_ble_eq_true rfl)
  rw [lg_entry_eq]
  generalize (lg_sl ([.ref o, .int (J s), .int (J t)]) ++ List.replicate (7 - (lg_sl ([.ref o, .int (J s), .int (J t)])).length) Slot.unset).toArray = ls at hl ⊢
  have hl : lv_has ls 7 [(0, .ref o), (1, .int (J s)), (2, .int (J t))] := hl
  have hsg := p0.2.2.1
  have hal := p0.1
  have g1 := sg_at p0.2.2 (k := s) (by omega) (by omega)
  have g2 := sg_at p0.2.2 (k := t) (by omega) (by omega)
  refine lv_aload_n SS.1 SS.2.1 dX12_doCross_0 rfl (lv_at hl 0 rfl) ?_
  refine j_get SS hG hP 0 (v := .ref (q 20)) (C := RX12) (T := TX12) (N := 31) rfl rfl inX12 20 (by decide) (ref := RX12) kw_1078 rfl rfl dX12_doCross_1 ?_
  refine lv_iload_n SS.1 SS.2.1 dX12_doCross_4 rfl (lv_at hl 1 rfl) ?_
  refine j_iald SS hG hP 17 (n := 66) (f := (u.1 20)) rfl (z := s) (by omega) (by omega) dX12_doCross_5 ?_
  refine lv_istore_n (lv' := [(3, .int (J ((u.1 20) (s).toNat))), (0, .ref o), (1, .int (J s)), (2, .int (J t))]) SS.1 SS.2.1 dX12_doCross_6 rfl hl (by decide) rfl (fun ls hl => ?_)
  refine lv_aload_n SS.1 SS.2.1 dX12_doCross_7 rfl (lv_at hl 1 rfl) ?_
  refine j_get SS hG hP 0 (v := .ref (q 21)) (C := RX12) (T := TX12) (N := 31) rfl rfl inX12 21 (by decide) (ref := RX12) kw_1079 rfl rfl dX12_doCross_8 ?_
  refine lv_iload_n SS.1 SS.2.1 dX12_doCross_11 rfl (lv_at hl 2 rfl) ?_
  refine j_iald SS hG hP 18 (n := 66) (f := (u.1 21)) rfl (z := s) (by omega) (by omega) dX12_doCross_12 ?_
  refine lv_istore (lv' := [(4, .int (J ((u.1 21) (s).toNat))), (3, .int (J ((u.1 20) (s).toNat))), (0, .ref o), (1, .int (J s)), (2, .int (J t))]) SS.1 SS.2.1 dX12_doCross_13 hl (by decide) rfl (fun ls hl => ?_)
  refine lv_aload_n SS.1 SS.2.1 dX12_doCross_15 rfl (lv_at hl 2 rfl) ?_
  refine j_get SS hG hP 0 (v := .ref (q 20)) (C := RX12) (T := TX12) (N := 31) rfl rfl inX12 20 (by decide) (ref := RX12) kw_1078 rfl rfl dX12_doCross_16 ?_
  refine lv_iload_n SS.1 SS.2.1 dX12_doCross_19 rfl (lv_at hl 4 rfl) ?_
  refine j_iald SS hG hP 17 (n := 66) (f := (u.1 20)) rfl (z := t) (by omega) (by omega) dX12_doCross_20 ?_
  refine lv_istore (lv' := [(5, .int (J ((u.1 20) (t).toNat))), (4, .int (J ((u.1 21) (s).toNat))), (3, .int (J ((u.1 20) (s).toNat))), (0, .ref o), (1, .int (J s)), (2, .int (J t))]) SS.1 SS.2.1 dX12_doCross_21 hl (by decide) rfl (fun ls hl => ?_)
  refine lv_aload_n SS.1 SS.2.1 dX12_doCross_23 rfl (lv_at hl 3 rfl) ?_
  refine j_get SS hG hP 0 (v := .ref (q 21)) (C := RX12) (T := TX12) (N := 31) rfl rfl inX12 21 (by decide) (ref := RX12) kw_1079 rfl rfl dX12_doCross_24 ?_
  refine lv_iload_n SS.1 SS.2.1 dX12_doCross_27 rfl (lv_at hl 5 rfl) ?_
  refine j_iald SS hG hP 18 (n := 66) (f := (u.1 21)) rfl (z := t) (by omega) (by omega) dX12_doCross_28 ?_
  refine lv_istore (lv' := [(6, .int (J ((u.1 21) (t).toNat))), (5, .int (J ((u.1 20) (t).toNat))), (4, .int (J ((u.1 21) (s).toNat))), (3, .int (J ((u.1 20) (s).toNat))), (0, .ref o), (1, .int (J s)), (2, .int (J t))]) SS.1 SS.2.1 dX12_doCross_29 hl (by decide) rfl (fun ls hl => ?_)
  refine lv_aload_n SS.1 SS.2.1 dX12_doCross_31 rfl (lv_at hl 4 rfl) ?_
  refine lv_iload_n SS.1 SS.2.1 dX12_doCross_32 rfl (lv_at hl 3 rfl) ?_
  refine lv_iload SS.1 SS.2.1 dX12_doCross_33 (lv_at hl 2 rfl) ?_
  refine lv_iload SS.1 SS.2.1 dX12_doCross_35 (lv_at hl 1 rfl) ?_
  refine j_vRi SS (As := [.int (J ((u.1 20) (s).toNat)), .int (J ((u.1 21) (s).toNat)), .int (J ((u.1 20) (t).toNat))]) (rest := []) (c_X12_turn l D o q u ((u.1 20) (s).toNat) ((u.1 21) (s).toNat) ((u.1 20) (t).toNat) (show 0 ≤ ((u.1 20) (s).toNat) ∧ ((u.1 20) (s).toNat) < 6561 from (by omega)) (show 0 ≤ ((u.1 21) (s).toNat) ∧ ((u.1 21) (s).toNat) < 6561 from (by omega)) (show 0 ≤ ((u.1 20) (t).toNat) ∧ ((u.1 20) (t).toNat) < 6561 from (by omega)) (show bd 40 ((u.1 10)) ((u.1 11)) 6561 from (p0.2.1))) mf_X12_turn kw_1427 hG hP hP (ci := 8) (q0 := 0) rfl rfl rfl rfl hl.1 ⟨⟨Nat.le_of_ble_eq_true rfl, Nat.le_of_ble_eq_true rfl⟩, Nat.le_of_ble_eq_true rfl, Nat.le_refl _, Nat.le_refl _⟩ rfl dX12_doCross_37 (fun z_37 h_37 => ?_)
  have h_37 : z_37 = tn ((u.1 10)) ((u.1 11)) ((u.1 20) (s).toNat).toNat ((u.1 21) (s).toNat).toNat ((u.1 20) (t).toNat).toNat ∧ -12800 ≤ z_37 ∧ z_37 ≤ 12800 := h_37
  refine j_sRi SS (As := [.int (J z_37)]) (rest := []) (c_X12_signOf l D z_37 (show -2147483648 ≤ z_37 ∧ z_37 ≤ 2147483647 from (by omega))) mf_X12_signOf kw_1431 hG trivial rfl hl.1 ⟨⟨Nat.le_of_ble_eq_true rfl, Nat.le_of_ble_eq_true rfl⟩, Nat.le_of_ble_eq_true rfl, Nat.le_refl _, Nat.le_refl _⟩ rfl dX12_doCross_40 (fun z_40 h_40 => ?_)
  have h_40 : (z_40 = 1 ∧ 0 < z_37) ∨ (z_40 = -1 ∧ z_37 < 0) ∨ (z_40 = 0 ∧ z_37 = 0) := h_40
  refine lv_aload_n SS.1 SS.2.1 dX12_doCross_43 rfl (lv_at hl 4 rfl) ?_
  refine lv_iload_n SS.1 SS.2.1 dX12_doCross_44 rfl (lv_at hl 3 rfl) ?_
  refine lv_iload SS.1 SS.2.1 dX12_doCross_45 (lv_at hl 2 rfl) ?_
  refine lv_iload SS.1 SS.2.1 dX12_doCross_47 (lv_at hl 0 rfl) ?_
  refine j_vRi SS (As := [.int (J ((u.1 20) (s).toNat)), .int (J ((u.1 21) (s).toNat)), .int (J ((u.1 21) (t).toNat))]) (rest := [.int (J z_40)]) (c_X12_turn l D o q u ((u.1 20) (s).toNat) ((u.1 21) (s).toNat) ((u.1 21) (t).toNat) (show 0 ≤ ((u.1 20) (s).toNat) ∧ ((u.1 20) (s).toNat) < 6561 from (by omega)) (show 0 ≤ ((u.1 21) (s).toNat) ∧ ((u.1 21) (s).toNat) < 6561 from (by omega)) (show 0 ≤ ((u.1 21) (t).toNat) ∧ ((u.1 21) (t).toNat) < 6561 from (by omega)) (show bd 40 ((u.1 10)) ((u.1 11)) 6561 from (p0.2.1))) mf_X12_turn kw_1427 hG hP hP (ci := 8) (q0 := 0) rfl rfl rfl rfl hl.1 ⟨⟨Nat.le_of_ble_eq_true rfl, Nat.le_of_ble_eq_true rfl⟩, Nat.le_of_ble_eq_true rfl, Nat.le_refl _, Nat.le_refl _⟩ rfl dX12_doCross_49 (fun z_49 h_49 => ?_)
  have h_49 : z_49 = tn ((u.1 10)) ((u.1 11)) ((u.1 20) (s).toNat).toNat ((u.1 21) (s).toNat).toNat ((u.1 21) (t).toNat).toNat ∧ -12800 ≤ z_49 ∧ z_49 ≤ 12800 := h_49
  refine j_sRi SS (As := [.int (J z_49)]) (rest := [.int (J z_40)]) (c_X12_signOf l D z_49 (show -2147483648 ≤ z_49 ∧ z_49 ≤ 2147483647 from (by omega))) mf_X12_signOf kw_1431 hG trivial rfl hl.1 ⟨⟨Nat.le_of_ble_eq_true rfl, Nat.le_of_ble_eq_true rfl⟩, Nat.le_of_ble_eq_true rfl, Nat.le_refl _, Nat.le_refl _⟩ rfl dX12_doCross_52 (fun z_52 h_52 => ?_)
  have h_52 : (z_52 = 1 ∧ 0 < z_49) ∨ (z_52 = -1 ∧ z_49 < 0) ∨ (z_52 = 0 ∧ z_49 = 0) := h_52
  refine j_imul SS (x := z_40) (y := z_52) dX12_doCross_55 ?_
  obtain ⟨m1, em1⟩ : ∃ z : Int, z = (z_40 * z_52) := ⟨_, rfl⟩
  rw [← em1]
  have q1 := mulb (A := 1) (B := 1) (a := z_40) (b := z_52) (by omega) (by omega)
  refine j_if_ge SS (tgt := 92) (x := m1) dX12_doCross_56 (by decide) (by omega) (fun c_56 => ?_) (fun c_56 => ?_)
  · skip
    refine j_iconst SS dX12_doCross_92 ?_
    exact W.zret SS.1 SS.2.1 hr (j_nz (by decide)) (fun t ht hW => ⟨_, rfl, ⟨0, rfl, (by omega)⟩, ht⟩) (fun _ h => nomatch h) dX12_doCross_93 hlk
  · skip
    refine lv_aload_n SS.1 SS.2.1 dX12_doCross_59 rfl (lv_at hl 4 rfl) ?_
    refine lv_iload SS.1 SS.2.1 dX12_doCross_60 (lv_at hl 1 rfl) ?_
    refine lv_iload SS.1 SS.2.1 dX12_doCross_62 (lv_at hl 0 rfl) ?_
    refine lv_iload_n SS.1 SS.2.1 dX12_doCross_64 rfl (lv_at hl 3 rfl) ?_
    refine j_vRi SS (As := [.int (J ((u.1 20) (t).toNat)), .int (J ((u.1 21) (t).toNat)), .int (J ((u.1 20) (s).toNat))]) (rest := []) (c_X12_turn l D o q u ((u.1 20) (t).toNat) ((u.1 21) (t).toNat) ((u.1 20) (s).toNat) (show 0 ≤ ((u.1 20) (t).toNat) ∧ ((u.1 20) (t).toNat) < 6561 from (by omega)) (show 0 ≤ ((u.1 21) (t).toNat) ∧ ((u.1 21) (t).toNat) < 6561 from (by omega)) (show 0 ≤ ((u.1 20) (s).toNat) ∧ ((u.1 20) (s).toNat) < 6561 from (by omega)) (show bd 40 ((u.1 10)) ((u.1 11)) 6561 from (p0.2.1))) mf_X12_turn kw_1427 hG hP hP (ci := 8) (q0 := 0) rfl rfl rfl rfl hl.1 ⟨⟨Nat.le_of_ble_eq_true rfl, Nat.le_of_ble_eq_true rfl⟩, Nat.le_of_ble_eq_true rfl, Nat.le_refl _, Nat.le_refl _⟩ rfl dX12_doCross_65 (fun z_65 h_65 => ?_)
    have h_65 : z_65 = tn ((u.1 10)) ((u.1 11)) ((u.1 20) (t).toNat).toNat ((u.1 21) (t).toNat).toNat ((u.1 20) (s).toNat).toNat ∧ -12800 ≤ z_65 ∧ z_65 ≤ 12800 := h_65
    refine j_sRi SS (As := [.int (J z_65)]) (rest := []) (c_X12_signOf l D z_65 (show -2147483648 ≤ z_65 ∧ z_65 ≤ 2147483647 from (by omega))) mf_X12_signOf kw_1431 hG trivial rfl hl.1 ⟨⟨Nat.le_of_ble_eq_true rfl, Nat.le_of_ble_eq_true rfl⟩, Nat.le_of_ble_eq_true rfl, Nat.le_refl _, Nat.le_refl _⟩ rfl dX12_doCross_68 (fun z_68 h_68 => ?_)
    have h_68 : (z_68 = 1 ∧ 0 < z_65) ∨ (z_68 = -1 ∧ z_65 < 0) ∨ (z_68 = 0 ∧ z_65 = 0) := h_68
    refine lv_aload_n SS.1 SS.2.1 dX12_doCross_71 rfl (lv_at hl 4 rfl) ?_
    refine lv_iload SS.1 SS.2.1 dX12_doCross_72 (lv_at hl 1 rfl) ?_
    refine lv_iload SS.1 SS.2.1 dX12_doCross_74 (lv_at hl 0 rfl) ?_
    refine lv_iload SS.1 SS.2.1 dX12_doCross_76 (lv_at hl 2 rfl) ?_
    refine j_vRi SS (As := [.int (J ((u.1 20) (t).toNat)), .int (J ((u.1 21) (t).toNat)), .int (J ((u.1 21) (s).toNat))]) (rest := [.int (J z_68)]) (c_X12_turn l D o q u ((u.1 20) (t).toNat) ((u.1 21) (t).toNat) ((u.1 21) (s).toNat) (show 0 ≤ ((u.1 20) (t).toNat) ∧ ((u.1 20) (t).toNat) < 6561 from (by omega)) (show 0 ≤ ((u.1 21) (t).toNat) ∧ ((u.1 21) (t).toNat) < 6561 from (by omega)) (show 0 ≤ ((u.1 21) (s).toNat) ∧ ((u.1 21) (s).toNat) < 6561 from (by omega)) (show bd 40 ((u.1 10)) ((u.1 11)) 6561 from (p0.2.1))) mf_X12_turn kw_1427 hG hP hP (ci := 8) (q0 := 0) rfl rfl rfl rfl hl.1 ⟨⟨Nat.le_of_ble_eq_true rfl, Nat.le_of_ble_eq_true rfl⟩, Nat.le_of_ble_eq_true rfl, Nat.le_refl _, Nat.le_refl _⟩ rfl dX12_doCross_78 (fun z_78 h_78 => ?_)
    have h_78 : z_78 = tn ((u.1 10)) ((u.1 11)) ((u.1 20) (t).toNat).toNat ((u.1 21) (t).toNat).toNat ((u.1 21) (s).toNat).toNat ∧ -12800 ≤ z_78 ∧ z_78 ≤ 12800 := h_78
    refine j_sRi SS (As := [.int (J z_78)]) (rest := [.int (J z_68)]) (c_X12_signOf l D z_78 (show -2147483648 ≤ z_78 ∧ z_78 ≤ 2147483647 from (by omega))) mf_X12_signOf kw_1431 hG trivial rfl hl.1 ⟨⟨Nat.le_of_ble_eq_true rfl, Nat.le_of_ble_eq_true rfl⟩, Nat.le_of_ble_eq_true rfl, Nat.le_refl _, Nat.le_refl _⟩ rfl dX12_doCross_81 (fun z_81 h_81 => ?_)
    have h_81 : (z_81 = 1 ∧ 0 < z_78) ∨ (z_81 = -1 ∧ z_78 < 0) ∨ (z_81 = 0 ∧ z_78 = 0) := h_81
    refine j_imul SS (x := z_68) (y := z_81) dX12_doCross_84 ?_
    obtain ⟨m2, em2⟩ : ∃ z : Int, z = (z_68 * z_81) := ⟨_, rfl⟩
    rw [← em2]
    have q2 := mulb (A := 1) (B := 1) (a := z_68) (b := z_81) (by omega) (by omega)
    refine j_if_ge SS (tgt := 92) (x := m2) dX12_doCross_85 (by decide) (by omega) (fun c_85 => ?_) (fun c_85 => ?_)
    · skip
      refine j_iconst SS dX12_doCross_92 ?_
      exact W.zret SS.1 SS.2.1 hr (j_nz (by decide)) (fun t ht hW => ⟨_, rfl, ⟨0, rfl, (by omega)⟩, ht⟩) (fun _ h => nomatch h) dX12_doCross_93 hlk
    · skip
      refine j_iconst SS dX12_doCross_88 ?_
      refine lv_goto (tgt := 93) SS.1 SS.2.1 dX12_doCross_89 (by decide) ?_
      exact W.zret SS.1 SS.2.1 hr (j_nz (by decide)) (fun t ht hW => ⟨_, rfl, ⟨1, rfl, (by omega)⟩, ht⟩) (fun _ h => nomatch h) dX12_doCross_93 hlk

set_option maxHeartbeats 4000000 in
set_option maxRecDepth 100000 in
theorem c_X12_findSegments (l : Launch) (D : JD) (o : Nat) (q : Nat → Nat) (u : MS) (A : Nat → Prop) (hD : va_D A (mW D o q u)) (p0 : 0 ≤ u.2.2 12 ∧ u.2.2 12 ≤ 12) (p1 : bd 40 (u.1 10) (u.1 11) 6561) : Met l yX12_findSegments (jw yX12_findSegments cX12_findSegments 3 none) (jr 2 44) (jP [.ref o] D (fun H => va_P D.1 j_cl (mW D o q u) H)) (jWv (fun u' => ∃ A : Nat → Int, ∃ B : Nat → Int, ∃ S : Nat → Int, ∃ n : Int, u' = (uV (uI (uI (uI u 20 A) 21 B) 22 S) 23 n) ∧ (sg A B S n (u.2.2 12))) (fun u' H => va_P D.1 j_cl (mW D o q u') H) A) 0 0 A := by
  refine Met.ofW (cc := cX12_findSegments) (maxL := 3) (ret := none) (by decide) rfl ?_
  intro pr en st mi args below meth co s₁ B hml hv
  obtain ⟨rfl, hG, hP⟩ := hv
  have hr := B.returns
  have hlk := B.notSynchronized
  have SS : jS pr mi co cX12_findSegments 3 st _ RX12 := ⟨B.exec, B.bytes, hml, findClass_of_methodNamed B.named, fun w hw => atoms_spec (ws := (jw yX12_findSegments cX12_findSegments 3 none)) B.pre w (List.mem_cons_of_mem _ hw)⟩
  have hl := lv_entry ([.ref o]) (n := 3) (Nat.le_of_ble_eq_true rfl)
  rw [lg_entry_eq]
  generalize (lg_sl ([.ref o]) ++ List.replicate (3 - (lg_sl ([.ref o])).length) Slot.unset).toArray = ls at hl ⊢
  have hl : lv_has ls 3 [(0, .ref o)] := hl
  have hS : va_S A st.heap st.heap [] := va_S.rf
  refine lv_aload_n SS.1 SS.2.1 dX12_findSegments_0 rfl (lv_at hl 0 rfl) ?_
  refine j_iconst SS dX12_findSegments_1 ?_
  refine j_put SS hG hP (mW_D hD) hS 0 (v := .int (J 0)) (ty := .int) (C := RX12) (T := TX12) (N := 31) rfl rfl inX12 tyX12 tyX12_ok nmX12 23 (by decide) (ref := RX12) kw_1081 rfl rfl (by decide +kernel) rfl rfl (Nat.le_of_ble_eq_true rfl) dX12_findSegments_2 (ws' := (mW D o q (uV u 23 0))) rfl (fun H locs hP hS => ?_)
  refine j_iconst SS dX12_findSegments_5 ?_
  refine lv_istore_n (lv' := [(1, .int (J 0)), (0, .ref o)]) SS.1 SS.2.1 dX12_findSegments_6 rfl hl (by decide) rfl (fun ls hl => ?_)
  have L_7 : ∀ (nn : Nat) (a : Int) (A1 : Nat → Int) (B1 : Nat → Int) (S1 : Nat → Int) (n1 : Int) (H : Heap) (locs : List Loc) (hP : va_P D.1 j_cl (mW D o q (uV (uI (uI (uI u 20 A1) 21 B1) 22 S1) 23 n1)) H) (hS : va_S A st.heap H locs) (ls : Array Slot) (hl : lv_has ls 3 [(0, .ref o), (1, .int (J a))]) (i7_0 : 0 ≤ a ∧ a ≤ u.2.2 12) (i7_1 : sgp A1 B1 S1 n1 (u.2.2 12) a (a + 1)), (u.2.2 12 - a).toNat < nn → W pr l en (headSpec (jw yX12_findSegments cX12_findSegments 3 none) (jr 2 44)).room st mi (([.ref o] : List Value).toArray) below meth co H locs 0 0 (MQ below (jWv (fun u' => ∃ A : Nat → Int, ∃ B : Nat → Int, ∃ S : Nat → Int, ∃ n : Int, u' = (uV (uI (uI (uI u 20 A) 21 B) 22 S) 23 n) ∧ (sg A B S n (u.2.2 12))) (fun u' H => va_P D.1 j_cl (mW D o q u') H) A) (([.ref o] : List Value).toArray) st 0 0 A) (F0 mi 7 ls []) := by
    intro nn
    induction nn with
    | zero => intros; omega
    | succ nn ih_7 =>
      intro a A1 B1 S1 n1 H locs hP hS ls hl i7_0 i7_1 hm
      refine lv_iload_n SS.1 SS.2.1 dX12_findSegments_7 rfl (lv_at hl 1 rfl) ?_
      refine lv_aload_n SS.1 SS.2.1 dX12_findSegments_8 rfl (lv_at hl 0 rfl) ?_
      refine j_get SS hG hP 0 (v := .int (J (u.2.2 12))) (C := RX12) (T := TX12) (N := 31) rfl rfl inX12 12 (by decide) (ref := RX12) kw_1070 rfl rfl dX12_findSegments_9 ?_
      refine j_icmp_ge SS (tgt := 130) (x := a) (y := (u.2.2 12)) dX12_findSegments_12 (by decide) (by omega) (by omega) (fun c_12 => ?_) (fun c_12 => ?_)
      · skip
        exact W.vret SS.1 SS.2.1 hr (fun t ht hW => ⟨⟨(uV (uI (uI (uI u 20 A1) 21 B1) 22 S1) 23 n1), rfl, (⟨A1, B1, S1, n1, rfl, sgp_x i7_0.1 (by omega) i7_1 (by omega)⟩), by show va_P D.1 j_cl (mW D o q (uV (uI (uI (uI u 20 A1) 21 B1) 22 S1) 23 n1)) t.heap; rw [ht]; exact hP⟩, hS.F ht⟩) hS.2.2 dX12_findSegments_130 hlk
      · skip
        refine lv_iload_n SS.1 SS.2.1 dX12_findSegments_15 rfl (lv_at hl 1 rfl) ?_
        refine j_iconst SS dX12_findSegments_16 ?_
        refine j_iadd SS (x := a) (y := 1) dX12_findSegments_17 ?_
        refine lv_istore_n (lv' := [(2, .int (J (a + 1))), (0, .ref o), (1, .int (J a))]) SS.1 SS.2.1 dX12_findSegments_18 rfl hl (by decide) rfl (fun ls hl => ?_)
        have L_19 : ∀ (nn : Nat) (b : Int) (A2 : Nat → Int) (B2 : Nat → Int) (S2 : Nat → Int) (n2 : Int) (H : Heap) (locs : List Loc) (hP : va_P D.1 j_cl (mW D o q (uV (uI (uI (uI u 20 A2) 21 B2) 22 S2) 23 n2)) H) (hS : va_S A st.heap H locs) (ls : Array Slot) (hl : lv_has ls 3 [(0, .ref o), (1, .int (J a)), (2, .int (J b))]) (i19_0 : a + 1 ≤ b ∧ b ≤ u.2.2 12) (i19_1 : sgp A2 B2 S2 n2 (u.2.2 12) a b), (u.2.2 12 - b).toNat < nn → W pr l en (headSpec (jw yX12_findSegments cX12_findSegments 3 none) (jr 2 44)).room st mi (([.ref o] : List Value).toArray) below meth co H locs 0 0 (MQ below (jWv (fun u' => ∃ A : Nat → Int, ∃ B : Nat → Int, ∃ S : Nat → Int, ∃ n : Int, u' = (uV (uI (uI (uI u 20 A) 21 B) 22 S) 23 n) ∧ (sg A B S n (u.2.2 12))) (fun u' H => va_P D.1 j_cl (mW D o q u') H) A) (([.ref o] : List Value).toArray) st 0 0 A) (F0 mi 19 ls []) := by
          intro nn
          induction nn with
          | zero => intros; omega
          | succ nn ih_19 =>
            intro b A2 B2 S2 n2 H locs hP hS ls hl i19_0 i19_1 hm
            have hn0 := i19_1.1
            refine lv_iload_n SS.1 SS.2.1 dX12_findSegments_19 rfl (lv_at hl 2 rfl) ?_
            refine lv_aload_n SS.1 SS.2.1 dX12_findSegments_20 rfl (lv_at hl 0 rfl) ?_
            refine j_get SS hG hP 0 (v := .int (J (u.2.2 12))) (C := RX12) (T := TX12) (N := 31) rfl rfl inX12 12 (by decide) (ref := RX12) kw_1070 rfl rfl dX12_findSegments_21 ?_
            refine j_icmp_ge SS (tgt := 124) (x := b) (y := (u.2.2 12)) dX12_findSegments_24 (by decide) (by omega) (by omega) (fun c_24 => ?_) (fun c_24 => ?_)
            · skip
              refine lv_iinc (v := J (a + 1)) (lv' := [(1, .int (J (a + 1))), (0, .ref o), (2, .int (J b))]) SS.1 SS.2.1 dX12_findSegments_124 hl (k := 1) rfl (J_add _ _) (by decide) rfl (fun ls hl => ?_)
              refine lv_goto (tgt := 7) SS.1 SS.2.1 dX12_findSegments_127 (by decide) ?_
              exact ih_7 (a + 1) A2 B2 S2 n2 _ _ hP hS ls (lv_sub hl [1, 0] rfl) (by omega) (sgp_e (by omega) (by omega) (by rw [show u.2.2 12 = b by omega]; rw [show u.2.2 12 = b by omega] at i19_1; exact i19_1)) (by omega)
            · skip
              have h66 := sg_66 (by omega) (by omega) (by omega) hn0.2
              have b1 := bd_at p1 (z := a) (by omega) (by omega)
              have b2 := bd_at p1 (z := b) (by omega) (by omega)
              refine lv_aload_n SS.1 SS.2.1 dX12_findSegments_27 rfl (lv_at hl 0 rfl) ?_
              refine j_get SS hG hP 0 (v := .ref (q 22)) (C := RX12) (T := TX12) (N := 31) rfl rfl inX12 22 (by decide) (ref := RX12) kw_1080 rfl rfl dX12_findSegments_28 ?_
              refine j_bipush SS dX12_findSegments_31 (by decide +kernel) ?_
              refine lv_iload_n SS.1 SS.2.1 dX12_findSegments_33 rfl (lv_at hl 1 rfl) ?_
              refine j_imul SS (x := 12) (y := a) dX12_findSegments_34 ?_
              refine lv_iload_n SS.1 SS.2.1 dX12_findSegments_35 rfl (lv_at hl 2 rfl) ?_
              refine j_iadd SS (x := (12 * a)) (y := b) dX12_findSegments_36 ?_
              refine j_bipush SS dX12_findSegments_37 (by decide +kernel) ?_
              refine j_iast SS hG hP (mW_D hD) hS 19 (n := 144) (f := S2) rfl (z := ((12 * a) + b)) (v := (-9)) (by omega) (by omega) dX12_findSegments_39 (ws' := (mW D o q (uV (uI (uI (uI u 20 A2) 21 B2) 22 (upI S2 (((12 * a) + b)).toNat (-9))) 23 n2))) rfl (fun H locs hP hS => ?_)
              refine lv_aload_n SS.1 SS.2.1 dX12_findSegments_40 rfl (lv_at hl 0 rfl) ?_
              refine j_get SS hG hP 0 (v := .ref (q 10)) (C := RX12) (T := TX12) (N := 31) rfl rfl inX12 10 (by decide) (ref := RX12) kw_1068 rfl rfl dX12_findSegments_41 ?_
              refine lv_iload_n SS.1 SS.2.1 dX12_findSegments_44 rfl (lv_at hl 2 rfl) ?_
              refine j_iald SS hG hP 9 (n := 6561) (f := (u.1 10)) rfl (z := b) (by omega) (by omega) dX12_findSegments_45 ?_
              refine lv_aload_n SS.1 SS.2.1 dX12_findSegments_46 rfl (lv_at hl 0 rfl) ?_
              refine j_get SS hG hP 0 (v := .ref (q 10)) (C := RX12) (T := TX12) (N := 31) rfl rfl inX12 10 (by decide) (ref := RX12) kw_1068 rfl rfl dX12_findSegments_47 ?_
              refine lv_iload_n SS.1 SS.2.1 dX12_findSegments_50 rfl (lv_at hl 1 rfl) ?_
              refine j_iald SS hG hP 9 (n := 6561) (f := (u.1 10)) rfl (z := a) (by omega) (by omega) dX12_findSegments_51 ?_
              refine j_isub SS (x := ((u.1 10) (b).toNat)) (y := ((u.1 10) (a).toNat)) dX12_findSegments_52 ?_
              refine lv_aload_n SS.1 SS.2.1 dX12_findSegments_53 rfl (lv_at hl 0 rfl) ?_
              refine j_get SS hG hP 0 (v := .ref (q 11)) (C := RX12) (T := TX12) (N := 31) rfl rfl inX12 11 (by decide) (ref := RX12) kw_1069 rfl rfl dX12_findSegments_54 ?_
              refine lv_iload_n SS.1 SS.2.1 dX12_findSegments_57 rfl (lv_at hl 2 rfl) ?_
              refine j_iald SS hG hP 10 (n := 6561) (f := (u.1 11)) rfl (z := b) (by omega) (by omega) dX12_findSegments_58 ?_
              refine lv_aload_n SS.1 SS.2.1 dX12_findSegments_59 rfl (lv_at hl 0 rfl) ?_
              refine j_get SS hG hP 0 (v := .ref (q 11)) (C := RX12) (T := TX12) (N := 31) rfl rfl inX12 11 (by decide) (ref := RX12) kw_1069 rfl rfl dX12_findSegments_60 ?_
              refine lv_iload_n SS.1 SS.2.1 dX12_findSegments_63 rfl (lv_at hl 1 rfl) ?_
              refine j_iald SS hG hP 10 (n := 6561) (f := (u.1 11)) rfl (z := a) (by omega) (by omega) dX12_findSegments_64 ?_
              refine j_isub SS (x := ((u.1 11) (b).toNat)) (y := ((u.1 11) (a).toNat)) dX12_findSegments_65 ?_
              refine j_sRi SS (As := [.int (J (((u.1 10) (b).toNat) - ((u.1 10) (a).toNat))), .int (J (((u.1 11) (b).toNat) - ((u.1 11) (a).toNat)))]) (rest := []) (c_X12_common l D (((u.1 10) (b).toNat) - ((u.1 10) (a).toNat)) (((u.1 11) (b).toNat) - ((u.1 11) (a).toNat)) (show -2147483648 < (((u.1 10) (b).toNat) - ((u.1 10) (a).toNat)) ∧ (((u.1 10) (b).toNat) - ((u.1 10) (a).toNat)) ≤ 2147483647 from (by omega)) (show -2147483648 < (((u.1 11) (b).toNat) - ((u.1 11) (a).toNat)) ∧ (((u.1 11) (b).toNat) - ((u.1 11) (a).toNat)) ≤ 2147483647 from (by omega))) mf_X12_common kw_1230 hG trivial rfl hl.1 ⟨⟨Nat.le_of_ble_eq_true rfl, Nat.le_of_ble_eq_true rfl⟩, Nat.le_of_ble_eq_true rfl, Nat.le_refl _, Nat.le_refl _⟩ rfl dX12_findSegments_66 (fun z_66 h_66 => ?_)
              have h_66 : z_66 = (Int.gcd (((u.1 10) (b).toNat) - ((u.1 10) (a).toNat)) (((u.1 11) (b).toNat) - ((u.1 11) (a).toNat)) : Int) := h_66
              have hz := gcd_b (a := u.1 10 b.toNat - u.1 10 a.toNat) (b := u.1 11 b.toNat - u.1 11 a.toNat) (K := 80) (by omega) (by omega)
              rw [← h_66] at hz
              refine j_iconst SS dX12_findSegments_69 ?_
              refine j_icmp_ne SS (tgt := 118) (x := z_66) (y := 1) dX12_findSegments_70 (by decide) (by omega) (by decide) (fun c_70 => ?_) (fun c_70 => ?_)
              · skip
                refine lv_iinc (v := J (b + 1)) (lv' := [(2, .int (J (b + 1))), (0, .ref o), (1, .int (J a))]) SS.1 SS.2.1 dX12_findSegments_118 hl (k := 2) rfl (J_add _ _) (by decide) rfl (fun ls hl => ?_)
                refine lv_goto (tgt := 19) SS.1 SS.2.1 dX12_findSegments_121 (by decide) ?_
                exact ih_19 (b + 1) A2 B2 (upI S2 (((12 * a) + b)).toNat (-9)) n2 _ _ hP hS ls (lv_sub hl [1, 2, 0] rfl) (by omega) (by first | exact sgp_y (by omega) (by omega) (by omega) (by omega) i19_1 | exact sgp_n (by omega) (by omega) (by omega) (by omega) i19_1) (by omega)
              · skip
                refine lv_aload_n SS.1 SS.2.1 dX12_findSegments_73 rfl (lv_at hl 0 rfl) ?_
                refine j_get SS hG hP 0 (v := .ref (q 20)) (C := RX12) (T := TX12) (N := 31) rfl rfl inX12 20 (by decide) (ref := RX12) kw_1078 rfl rfl dX12_findSegments_74 ?_
                refine lv_aload_n SS.1 SS.2.1 dX12_findSegments_77 rfl (lv_at hl 0 rfl) ?_
                refine j_get SS hG hP 0 (v := .int (J n2)) (C := RX12) (T := TX12) (N := 31) rfl rfl inX12 23 (by decide) (ref := RX12) kw_1081 rfl rfl dX12_findSegments_78 ?_
                refine lv_iload_n SS.1 SS.2.1 dX12_findSegments_81 rfl (lv_at hl 1 rfl) ?_
                refine j_iast SS hG hP (mW_D hD) hS 17 (n := 66) (f := A2) rfl (z := n2) (v := a) (by omega) (by omega) dX12_findSegments_82 (ws' := (mW D o q (uV (uI (uI (uI u 20 (upI A2 (n2).toNat a)) 21 B2) 22 (upI S2 (((12 * a) + b)).toNat (-9))) 23 n2))) rfl (fun H locs hP hS => ?_)
                refine lv_aload_n SS.1 SS.2.1 dX12_findSegments_83 rfl (lv_at hl 0 rfl) ?_
                refine j_get SS hG hP 0 (v := .ref (q 21)) (C := RX12) (T := TX12) (N := 31) rfl rfl inX12 21 (by decide) (ref := RX12) kw_1079 rfl rfl dX12_findSegments_84 ?_
                refine lv_aload_n SS.1 SS.2.1 dX12_findSegments_87 rfl (lv_at hl 0 rfl) ?_
                refine j_get SS hG hP 0 (v := .int (J n2)) (C := RX12) (T := TX12) (N := 31) rfl rfl inX12 23 (by decide) (ref := RX12) kw_1081 rfl rfl dX12_findSegments_88 ?_
                refine lv_iload_n SS.1 SS.2.1 dX12_findSegments_91 rfl (lv_at hl 2 rfl) ?_
                refine j_iast SS hG hP (mW_D hD) hS 18 (n := 66) (f := B2) rfl (z := n2) (v := b) (by omega) (by omega) dX12_findSegments_92 (ws' := (mW D o q (uV (uI (uI (uI u 20 (upI A2 (n2).toNat a)) 21 (upI B2 (n2).toNat b)) 22 (upI S2 (((12 * a) + b)).toNat (-9))) 23 n2))) rfl (fun H locs hP hS => ?_)
                refine lv_aload_n SS.1 SS.2.1 dX12_findSegments_93 rfl (lv_at hl 0 rfl) ?_
                refine j_get SS hG hP 0 (v := .ref (q 22)) (C := RX12) (T := TX12) (N := 31) rfl rfl inX12 22 (by decide) (ref := RX12) kw_1080 rfl rfl dX12_findSegments_94 ?_
                refine j_bipush SS dX12_findSegments_97 (by decide +kernel) ?_
                refine lv_iload_n SS.1 SS.2.1 dX12_findSegments_99 rfl (lv_at hl 1 rfl) ?_
                refine j_imul SS (x := 12) (y := a) dX12_findSegments_100 ?_
                refine lv_iload_n SS.1 SS.2.1 dX12_findSegments_101 rfl (lv_at hl 2 rfl) ?_
                refine j_iadd SS (x := (12 * a)) (y := b) dX12_findSegments_102 ?_
                refine lv_aload_n SS.1 SS.2.1 dX12_findSegments_103 rfl (lv_at hl 0 rfl) ?_
                refine j_get SS hG hP 0 (v := .int (J n2)) (C := RX12) (T := TX12) (N := 31) rfl rfl inX12 23 (by decide) (ref := RX12) kw_1081 rfl rfl dX12_findSegments_104 ?_
                refine j_iast SS hG hP (mW_D hD) hS 19 (n := 144) (f := (upI S2 (((12 * a) + b)).toNat (-9))) rfl (z := ((12 * a) + b)) (v := n2) (by omega) (by omega) dX12_findSegments_107 (ws' := (mW D o q (uV (uI (uI (uI u 20 (upI A2 (n2).toNat a)) 21 (upI B2 (n2).toNat b)) 22 (upI (upI S2 (((12 * a) + b)).toNat (-9)) (((12 * a) + b)).toNat n2)) 23 n2))) rfl (fun H locs hP hS => ?_)
                refine lv_aload_n SS.1 SS.2.1 dX12_findSegments_108 rfl (lv_at hl 0 rfl) ?_
                refine lv_dup SS.1 SS.2.1 dX12_findSegments_109 rfl ?_
                refine j_get SS hG hP 0 (v := .int (J n2)) (C := RX12) (T := TX12) (N := 31) rfl rfl inX12 23 (by decide) (ref := RX12) kw_1081 rfl rfl dX12_findSegments_110 ?_
                refine j_iconst SS dX12_findSegments_113 ?_
                refine j_iadd SS (x := n2) (y := 1) dX12_findSegments_114 ?_
                refine j_put SS hG hP (mW_D hD) hS 0 (v := .int (J (n2 + 1))) (ty := .int) (C := RX12) (T := TX12) (N := 31) rfl rfl inX12 tyX12 tyX12_ok nmX12 23 (by decide) (ref := RX12) kw_1081 rfl rfl (by decide +kernel) rfl rfl (Nat.le_of_ble_eq_true rfl) dX12_findSegments_115 (ws' := (mW D o q (uV (uI (uI (uI u 20 (upI A2 (n2).toNat a)) 21 (upI B2 (n2).toNat b)) 22 (upI (upI S2 (((12 * a) + b)).toNat (-9)) (((12 * a) + b)).toNat n2)) 23 (n2 + 1)))) rfl (fun H locs hP hS => ?_)
                refine lv_iinc (v := J (b + 1)) (lv' := [(2, .int (J (b + 1))), (0, .ref o), (1, .int (J a))]) SS.1 SS.2.1 dX12_findSegments_118 hl (k := 2) rfl (J_add _ _) (by decide) rfl (fun ls hl => ?_)
                refine lv_goto (tgt := 19) SS.1 SS.2.1 dX12_findSegments_121 (by decide) ?_
                exact ih_19 (b + 1) (upI A2 (n2).toNat a) (upI B2 (n2).toNat b) (upI (upI S2 (((12 * a) + b)).toNat (-9)) (((12 * a) + b)).toNat n2) (n2 + 1) _ _ hP hS ls (lv_sub hl [1, 2, 0] rfl) (by omega) (by first | exact sgp_y (by omega) (by omega) (by omega) (by omega) i19_1 | exact sgp_n (by omega) (by omega) (by omega) (by omega) i19_1) (by omega)
        exact L_19 ((u.2.2 12 - (a + 1)).toNat + 1) (a + 1) A1 B1 S1 n1 _ _ hP hS ls (lv_sub hl [1, 2, 0] rfl) (by omega) (i7_1) (Nat.lt_succ_self _)
  exact L_7 ((u.2.2 12 - (0 : Int)).toNat + 1) 0 (u.1 20) (u.1 21) (u.1 22) 0 _ _ hP hS ls (lv_sub hl [1, 0] rfl) (by omega) (sgp_0) (Nat.lt_succ_self _)

set_option maxHeartbeats 4000000 in
set_option maxRecDepth 100000 in
theorem c_X12_between1 (l : Launch) (D : JD) (o : Nat) (q : Nat → Nat) (u : MS) (a : Int) (b : Int) (p0 : 0 ≤ a ∧ a < 12) (p1 : 0 ≤ b ∧ b < 12) : Met l yX12_between1 (jw yX12_between1 cX12_between1 3 (some .int)) (jr 0 0) (jP [.ref o, .int (J a), .int (J b)] D (fun H => va_P D.1 j_cl (mW D o q u) H)) (jRi (fun z => (a < b ∧ z = u.1 22 (12 * a + b).toNat) ∨ (b ≤ a ∧ z = u.1 22 (12 * b + a).toNat))) 0 0 (fun _ => False) := by
  refine Met.ofW (cc := cX12_between1) (maxL := 3) (ret := (some .int)) (by decide) rfl ?_
  intro pr en st mi args below meth co s₁ B hml hv
  obtain ⟨rfl, hG, hP⟩ := hv
  have hr := B.returns
  have hlk := B.notSynchronized
  have SS : jS pr mi co cX12_between1 3 st _ RX12 := ⟨B.exec, B.bytes, hml, findClass_of_methodNamed B.named, fun w hw => atoms_spec (ws := (jw yX12_between1 cX12_between1 3 (some .int))) B.pre w (List.mem_cons_of_mem _ hw)⟩
  have hl := lv_entry ([.ref o, .int (J a), .int (J b)]) (n := 3) (Nat.le_of_ble_eq_true rfl)
  rw [lg_entry_eq]
  generalize (lg_sl ([.ref o, .int (J a), .int (J b)]) ++ List.replicate (3 - (lg_sl ([.ref o, .int (J a), .int (J b)])).length) Slot.unset).toArray = ls at hl ⊢
  have hl : lv_has ls 3 [(0, .ref o), (1, .int (J a)), (2, .int (J b))] := hl
  refine lv_iload_n SS.1 SS.2.1 dX12_between1_0 rfl (lv_at hl 1 rfl) ?_
  refine lv_iload_n SS.1 SS.2.1 dX12_between1_1 rfl (lv_at hl 2 rfl) ?_
  refine j_icmp_ge SS (tgt := 19) (x := a) (y := b) dX12_between1_2 (by decide) (by omega) (by omega) (fun c_2 => ?_) (fun c_2 => ?_)
  · skip
    refine lv_aload_n SS.1 SS.2.1 dX12_between1_19 rfl (lv_at hl 0 rfl) ?_
    refine j_get SS hG hP 0 (v := .ref (q 22)) (C := RX12) (T := TX12) (N := 31) rfl rfl inX12 22 (by decide) (ref := RX12) kw_1080 rfl rfl dX12_between1_20 ?_
    refine j_bipush SS dX12_between1_23 (by decide +kernel) ?_
    refine lv_iload_n SS.1 SS.2.1 dX12_between1_25 rfl (lv_at hl 2 rfl) ?_
    refine j_imul SS (x := 12) (y := b) dX12_between1_26 ?_
    refine lv_iload_n SS.1 SS.2.1 dX12_between1_27 rfl (lv_at hl 1 rfl) ?_
    refine j_iadd SS (x := (12 * b)) (y := a) dX12_between1_28 ?_
    refine j_iald SS hG hP 19 (n := 144) (f := (u.1 22)) rfl (z := ((12 * b) + a)) (by omega) (by omega) dX12_between1_29 ?_
    exact W.iret SS.1 SS.2.1 hr (fun t ht hW => ⟨_, rfl, ⟨((u.1 22) (((12 * b) + a)).toNat), rfl, (by omega)⟩, ht⟩) (fun _ h => nomatch h) dX12_between1_30 hlk
  · skip
    refine lv_aload_n SS.1 SS.2.1 dX12_between1_5 rfl (lv_at hl 0 rfl) ?_
    refine j_get SS hG hP 0 (v := .ref (q 22)) (C := RX12) (T := TX12) (N := 31) rfl rfl inX12 22 (by decide) (ref := RX12) kw_1080 rfl rfl dX12_between1_6 ?_
    refine j_bipush SS dX12_between1_9 (by decide +kernel) ?_
    refine lv_iload_n SS.1 SS.2.1 dX12_between1_11 rfl (lv_at hl 1 rfl) ?_
    refine j_imul SS (x := 12) (y := a) dX12_between1_12 ?_
    refine lv_iload_n SS.1 SS.2.1 dX12_between1_13 rfl (lv_at hl 2 rfl) ?_
    refine j_iadd SS (x := (12 * a)) (y := b) dX12_between1_14 ?_
    refine j_iald SS hG hP 19 (n := 144) (f := (u.1 22)) rfl (z := ((12 * a) + b)) (by omega) (by omega) dX12_between1_15 ?_
    refine lv_goto (tgt := 30) SS.1 SS.2.1 dX12_between1_16 (by decide) ?_
    exact W.iret SS.1 SS.2.1 hr (fun t ht hW => ⟨_, rfl, ⟨((u.1 22) (((12 * a) + b)).toNat), rfl, (by omega)⟩, ht⟩) (fun _ h => nomatch h) dX12_between1_30 hlk

set_option maxHeartbeats 4000000 in
set_option maxRecDepth 100000 in
theorem c_X12_has (l : Launch) (D : JD) (x : Int64) (k : Int) (p0 : -2147483648 ≤ k ∧ k ≤ 2147483647) : Met l yX12_has (jw yX12_has cX12_has 3 (some .boolean)) (jr 0 0) (jP [.long x, .int (J k)] D (fun _ => True)) (jRi (fun z => z = 0 ∨ z = 1)) 0 0 (fun _ => False) := by
  refine Met.ofW (cc := cX12_has) (maxL := 3) (ret := (some .boolean)) (by decide) rfl ?_
  intro pr en st mi args below meth co s₁ B hml hv
  obtain ⟨rfl, hG, hP⟩ := hv
  have hr := B.returns
  have hlk := B.notSynchronized
  have SS : jS pr mi co cX12_has 3 st _ RX12 := ⟨B.exec, B.bytes, hml, findClass_of_methodNamed B.named, fun w hw => atoms_spec (ws := (jw yX12_has cX12_has 3 (some .boolean))) B.pre w (List.mem_cons_of_mem _ hw)⟩
  have hl := lv_entry ([.long x, .int (J k)]) (n := 3) (Nat.le_of_ble_eq_true rfl)
  rw [lg_entry_eq]
  generalize (lg_sl ([.long x, .int (J k)]) ++ List.replicate (3 - (lg_sl ([.long x, .int (J k)])).length) Slot.unset).toArray = ls at hl ⊢
  have hl : lv_has ls 3 [(0, .long x), (2, .int (J k))] := hl
  refine lv_iload_n SS.1 SS.2.1 dX12_has_0 rfl (lv_at hl 1 rfl) ?_
  refine j_bipush SS dX12_has_1 (by decide +kernel) ?_
  refine j_icmp_eq SS (tgt := 20) (x := k) (y := (-9)) dX12_has_3 (by decide) (by omega) (by decide) (fun c_3 => ?_) (fun c_3 => ?_)
  · skip
    refine j_iconst SS dX12_has_20 ?_
    exact W.zret SS.1 SS.2.1 hr (j_nz (by decide)) (fun t ht hW => ⟨_, rfl, ⟨0, rfl, (by omega)⟩, ht⟩) (fun _ h => nomatch h) dX12_has_21 hlk
  · skip
    refine lv_lload_n SS.1 SS.2.1 dX12_has_6 rfl (lv_at hl 0 rfl) ?_
    refine lv_iload_n SS.1 SS.2.1 dX12_has_7 rfl (lv_at hl 1 rfl) ?_
    refine lv_lshr SS.1 SS.2.1 dX12_has_8 rfl (lv_topl (fun x_8 ex_8 => ?_))
    refine lv_lconst (v := 1) SS.1 SS.2.1 dX12_has_9 (by decide +kernel) ?_
    refine lv_land SS.1 SS.2.1 dX12_has_10 ?_
    refine lv_lconst (v := 1) SS.1 SS.2.1 dX12_has_11 (by decide +kernel) ?_
    refine j_lcmp SS dX12_has_12 (fun z_12 hz_12 => ?_)
    refine j_if_ne SS (tgt := 20) (x := z_12) dX12_has_13 (by decide) (by omega) (fun c_13 => ?_) (fun c_13 => ?_)
    · skip
      refine j_iconst SS dX12_has_20 ?_
      exact W.zret SS.1 SS.2.1 hr (j_nz (by decide)) (fun t ht hW => ⟨_, rfl, ⟨0, rfl, (by omega)⟩, ht⟩) (fun _ h => nomatch h) dX12_has_21 hlk
    · skip
      refine j_iconst SS dX12_has_16 ?_
      refine lv_goto (tgt := 21) SS.1 SS.2.1 dX12_has_17 (by decide) ?_
      exact W.zret SS.1 SS.2.1 hr (j_nz (by decide)) (fun t ht hW => ⟨_, rfl, ⟨1, rfl, (by omega)⟩, ht⟩) (fun _ h => nomatch h) dX12_has_21 hlk

set_option maxHeartbeats 4000000 in
set_option maxRecDepth 100000 in
theorem c_X12_firstCut (l : Launch) (D : JD) (o : Nat) (q : Nat → Nat) (u : MS) (p0 : CU u) : Met l yX12_firstCut (jw yX12_firstCut cX12_firstCut 6 (some .long)) (jr 3 72) (jP [.ref o] D (fun H => va_P D.1 j_cl (mW D o q u) H)) (vp_Sl (fun r => True)) 0 0 (fun _ => False) := by
  refine Met.ofW (cc := cX12_firstCut) (maxL := 6) (ret := (some .long)) (by decide) rfl ?_
  intro pr en st mi args below meth co s₁ B hml hv
  obtain ⟨rfl, hG, hP⟩ := hv
  have hr := B.returns
  have hlk := B.notSynchronized
  have SS : jS pr mi co cX12_firstCut 6 st _ RX12 := ⟨B.exec, B.bytes, hml, findClass_of_methodNamed B.named, fun w hw => atoms_spec (ws := (jw yX12_firstCut cX12_firstCut 6 (some .long))) B.pre w (List.mem_cons_of_mem _ hw)⟩
  have hl := lv_entry ([.ref o]) (n := 6) (Nat.le_of_ble_eq_true rfl)
  rw [lg_entry_eq]
  generalize (lg_sl ([.ref o]) ++ List.replicate (6 - (lg_sl ([.ref o])).length) Slot.unset).toArray = ls at hl ⊢
  have hl : lv_has ls 6 [(0, .ref o)] := hl
  have hsg := p0.2.2.1
  refine lv_lconst (v := 0) SS.1 SS.2.1 dX12_firstCut_0 (by decide +kernel) ?_
  refine lv_lstore_n (lv' := [(1, .long 0), (0, .ref o)]) SS.1 SS.2.1 dX12_firstCut_1 rfl hl (by decide) rfl (fun ls hl => ?_)
  refine j_iconst SS dX12_firstCut_2 ?_
  refine lv_istore_n (lv' := [(3, .int (J 0)), (1, .long 0), (0, .ref o)]) SS.1 SS.2.1 dX12_firstCut_3 rfl hl (by decide) rfl (fun ls hl => ?_)
  have L_4 : ∀ (nn : Nat) (x : Int64) (k : Int) (ls : Array Slot) (hl : lv_has ls 6 [(0, .ref o), (1, .long x), (3, .int (J k))]) (i4_0 : 0 ≤ k ∧ k ≤ u.2.2 23), (u.2.2 23 - k).toNat < nn → W pr l en (headSpec (jw yX12_firstCut cX12_firstCut 6 (some .long)) (jr 3 72)).room st mi (([.ref o] : List Value).toArray) below meth co st.heap [] 0 0 (MQ below (vp_Sl (fun r => True)) (([.ref o] : List Value).toArray) st 0 0 (fun _ => False)) (F0 mi 4 ls []) := by
    intro nn
    induction nn with
    | zero => intros; omega
    | succ nn ih_4 =>
      intro x k ls hl i4_0 hm
      refine lv_iload_n SS.1 SS.2.1 dX12_firstCut_4 rfl (lv_at hl 2 rfl) ?_
      refine lv_aload_n SS.1 SS.2.1 dX12_firstCut_5 rfl (lv_at hl 0 rfl) ?_
      refine j_get SS hG hP 0 (v := .int (J (u.2.2 23))) (C := RX12) (T := TX12) (N := 31) rfl rfl inX12 23 (by decide) (ref := RX12) kw_1081 rfl rfl dX12_firstCut_6 ?_
      refine j_icmp_ge SS (tgt := 82) (x := k) (y := (u.2.2 23)) dX12_firstCut_9 (by decide) (by omega) (by omega) (fun c_9 => ?_) (fun c_9 => ?_)
      · skip
        refine lv_lload_n SS.1 SS.2.1 dX12_firstCut_82 rfl (lv_at hl 1 rfl) ?_
        exact W.lret SS.1 SS.2.1 hr (fun t ht hW => ⟨_, rfl, (trivial), ht⟩) (fun _ h => nomatch h) dX12_firstCut_83 hlk
      · skip
        refine j_iconst SS dX12_firstCut_12 ?_
        refine lv_istore (lv' := [(4, .int (J 1)), (0, .ref o), (1, .long x), (3, .int (J k))]) SS.1 SS.2.1 dX12_firstCut_13 hl (by decide) rfl (fun ls hl => ?_)
        refine j_iconst SS dX12_firstCut_15 ?_
        refine lv_istore (lv' := [(5, .int (J 0)), (4, .int (J 1)), (0, .ref o), (1, .long x), (3, .int (J k))]) SS.1 SS.2.1 dX12_firstCut_16 hl (by decide) rfl (fun ls hl => ?_)
        have L_18 : ∀ (nn : Nat) (c : Int) (i : Int) (ls : Array Slot) (hl : lv_has ls 6 [(0, .ref o), (1, .long x), (3, .int (J k)), (4, .int (J c)), (5, .int (J i))]) (i18_0 : 0 ≤ i ∧ i ≤ k) (i18_1 : c = 0 ∨ c = 1), (k - i).toNat < nn → W pr l en (headSpec (jw yX12_firstCut cX12_firstCut 6 (some .long)) (jr 3 72)).room st mi (([.ref o] : List Value).toArray) below meth co st.heap [] 0 0 (MQ below (vp_Sl (fun r => True)) (([.ref o] : List Value).toArray) st 0 0 (fun _ => False)) (F0 mi 18 ls []) := by
          intro nn
          induction nn with
          | zero => intros; omega
          | succ nn ih_18 =>
            intro c i ls hl i18_0 i18_1 hm
            refine lv_iload SS.1 SS.2.1 dX12_firstCut_18 (lv_at hl 4 rfl) ?_
            refine lv_iload_n SS.1 SS.2.1 dX12_firstCut_20 rfl (lv_at hl 2 rfl) ?_
            refine j_icmp_ge SS (tgt := 61) (x := i) (y := k) dX12_firstCut_21 (by decide) (by omega) (by omega) (fun c_21 => ?_) (fun c_21 => ?_)
            · skip
              refine lv_lload_n SS.1 SS.2.1 dX12_firstCut_61 rfl (lv_at hl 1 rfl) ?_
              refine lv_iload SS.1 SS.2.1 dX12_firstCut_62 (lv_at hl 3 rfl) ?_
              refine j_if_eq SS (tgt := 73) (x := c) dX12_firstCut_64 (by decide) (by omega) (fun c_64 => ?_) (fun c_64 => ?_)
              · skip
                refine lv_lconst (v := 0) SS.1 SS.2.1 dX12_firstCut_73 (by decide +kernel) ?_
                refine lv_lor SS.1 SS.2.1 dX12_firstCut_74 ?_
                refine lv_lstore_n (lv' := [(1, .long (x ||| 0)), (0, .ref o), (3, .int (J k)), (4, .int (J c)), (5, .int (J i))]) SS.1 SS.2.1 dX12_firstCut_75 rfl hl (by decide) rfl (fun ls hl => ?_)
                refine lv_iinc (v := J (k + 1)) (lv' := [(3, .int (J (k + 1))), (1, .long (x ||| 0)), (0, .ref o), (4, .int (J c)), (5, .int (J i))]) SS.1 SS.2.1 dX12_firstCut_76 hl (k := 2) rfl (J_add _ _) (by decide) rfl (fun ls hl => ?_)
                refine lv_goto (tgt := 4) SS.1 SS.2.1 dX12_firstCut_79 (by decide) ?_
                exact ih_4 (x ||| 0) (k + 1) ls (lv_sub hl [2, 1, 0] rfl) (by omega) (by omega)
              · skip
                refine lv_lconst (v := 1) SS.1 SS.2.1 dX12_firstCut_67 (by decide +kernel) ?_
                refine lv_iload_n SS.1 SS.2.1 dX12_firstCut_68 rfl (lv_at hl 2 rfl) ?_
                refine lv_lshl SS.1 SS.2.1 dX12_firstCut_69 rfl (lv_topl (fun x_69 ex_69 => ?_))
                refine lv_goto (tgt := 74) SS.1 SS.2.1 dX12_firstCut_70 (by decide) ?_
                refine lv_lor SS.1 SS.2.1 dX12_firstCut_74 ?_
                refine lv_lstore_n (lv' := [(1, .long (x ||| x_69)), (0, .ref o), (3, .int (J k)), (4, .int (J c)), (5, .int (J i))]) SS.1 SS.2.1 dX12_firstCut_75 rfl hl (by decide) rfl (fun ls hl => ?_)
                refine lv_iinc (v := J (k + 1)) (lv' := [(3, .int (J (k + 1))), (1, .long (x ||| x_69)), (0, .ref o), (4, .int (J c)), (5, .int (J i))]) SS.1 SS.2.1 dX12_firstCut_76 hl (k := 2) rfl (J_add _ _) (by decide) rfl (fun ls hl => ?_)
                refine lv_goto (tgt := 4) SS.1 SS.2.1 dX12_firstCut_79 (by decide) ?_
                exact ih_4 (x ||| x_69) (k + 1) ls (lv_sub hl [2, 1, 0] rfl) (by omega) (by omega)
            · skip
              refine lv_iload SS.1 SS.2.1 dX12_firstCut_24 (lv_at hl 3 rfl) ?_
              refine j_if_eq SS (tgt := 61) (x := c) dX12_firstCut_26 (by decide) (by omega) (fun c_26 => ?_) (fun c_26 => ?_)
              · skip
                refine lv_lload_n SS.1 SS.2.1 dX12_firstCut_61 rfl (lv_at hl 1 rfl) ?_
                refine lv_iload SS.1 SS.2.1 dX12_firstCut_62 (lv_at hl 3 rfl) ?_
                refine j_if_eq SS (tgt := 73) (x := c) dX12_firstCut_64 (by decide) (by omega) (fun c_64 => ?_) (fun c_64 => ?_)
                · skip
                  refine lv_lconst (v := 0) SS.1 SS.2.1 dX12_firstCut_73 (by decide +kernel) ?_
                  refine lv_lor SS.1 SS.2.1 dX12_firstCut_74 ?_
                  refine lv_lstore_n (lv' := [(1, .long (x ||| 0)), (0, .ref o), (3, .int (J k)), (4, .int (J c)), (5, .int (J i))]) SS.1 SS.2.1 dX12_firstCut_75 rfl hl (by decide) rfl (fun ls hl => ?_)
                  refine lv_iinc (v := J (k + 1)) (lv' := [(3, .int (J (k + 1))), (1, .long (x ||| 0)), (0, .ref o), (4, .int (J c)), (5, .int (J i))]) SS.1 SS.2.1 dX12_firstCut_76 hl (k := 2) rfl (J_add _ _) (by decide) rfl (fun ls hl => ?_)
                  refine lv_goto (tgt := 4) SS.1 SS.2.1 dX12_firstCut_79 (by decide) ?_
                  exact ih_4 (x ||| 0) (k + 1) ls (lv_sub hl [2, 1, 0] rfl) (by omega) (by omega)
                · skip
                  refine lv_lconst (v := 1) SS.1 SS.2.1 dX12_firstCut_67 (by decide +kernel) ?_
                  refine lv_iload_n SS.1 SS.2.1 dX12_firstCut_68 rfl (lv_at hl 2 rfl) ?_
                  refine lv_lshl SS.1 SS.2.1 dX12_firstCut_69 rfl (lv_topl (fun x_69 ex_69 => ?_))
                  refine lv_goto (tgt := 74) SS.1 SS.2.1 dX12_firstCut_70 (by decide) ?_
                  refine lv_lor SS.1 SS.2.1 dX12_firstCut_74 ?_
                  refine lv_lstore_n (lv' := [(1, .long (x ||| x_69)), (0, .ref o), (3, .int (J k)), (4, .int (J c)), (5, .int (J i))]) SS.1 SS.2.1 dX12_firstCut_75 rfl hl (by decide) rfl (fun ls hl => ?_)
                  refine lv_iinc (v := J (k + 1)) (lv' := [(3, .int (J (k + 1))), (1, .long (x ||| x_69)), (0, .ref o), (4, .int (J c)), (5, .int (J i))]) SS.1 SS.2.1 dX12_firstCut_76 hl (k := 2) rfl (J_add _ _) (by decide) rfl (fun ls hl => ?_)
                  refine lv_goto (tgt := 4) SS.1 SS.2.1 dX12_firstCut_79 (by decide) ?_
                  exact ih_4 (x ||| x_69) (k + 1) ls (lv_sub hl [2, 1, 0] rfl) (by omega) (by omega)
              · skip
                refine lv_lload_n SS.1 SS.2.1 dX12_firstCut_29 rfl (lv_at hl 1 rfl) ?_
                refine lv_iload SS.1 SS.2.1 dX12_firstCut_30 (lv_at hl 4 rfl) ?_
                refine j_sRi SS (As := [.long x, .int (J i)]) (rest := []) (c_X12_has l D x i (show -2147483648 ≤ i ∧ i ≤ 2147483647 from (by omega))) mf_X12_has kw_1420 hG trivial rfl hl.1 ⟨⟨Nat.le_of_ble_eq_true rfl, Nat.le_of_ble_eq_true rfl⟩, Nat.le_of_ble_eq_true rfl, Nat.le_refl _, Nat.le_refl _⟩ rfl dX12_firstCut_32 (fun z_32 h_32 => ?_)
                have h_32 : z_32 = 0 ∨ z_32 = 1 := h_32
                refine j_if_eq SS (tgt := 48) (x := z_32) dX12_firstCut_35 (by decide) (by omega) (fun c_35 => ?_) (fun c_35 => ?_)
                · skip
                  refine j_iconst SS dX12_firstCut_48 ?_
                  refine lv_goto (tgt := 53) SS.1 SS.2.1 dX12_firstCut_49 (by decide) ?_
                  refine lv_istore (lv' := [(4, .int (J 1)), (0, .ref o), (1, .long x), (3, .int (J k)), (5, .int (J i))]) SS.1 SS.2.1 dX12_firstCut_53 hl (by decide) rfl (fun ls hl => ?_)
                  refine lv_iinc (v := J (i + 1)) (lv' := [(5, .int (J (i + 1))), (4, .int (J 1)), (0, .ref o), (1, .long x), (3, .int (J k))]) SS.1 SS.2.1 dX12_firstCut_55 hl (k := 4) rfl (J_add _ _) (by decide) rfl (fun ls hl => ?_)
                  refine lv_goto (tgt := 18) SS.1 SS.2.1 dX12_firstCut_58 (by decide) ?_
                  exact ih_18 1 (i + 1) ls (lv_sub hl [2, 3, 4, 1, 0] rfl) (by omega) (by omega) (by omega)
                · skip
                  refine lv_aload_n SS.1 SS.2.1 dX12_firstCut_38 rfl (lv_at hl 0 rfl) ?_
                  refine lv_iload SS.1 SS.2.1 dX12_firstCut_39 (lv_at hl 4 rfl) ?_
                  refine lv_iload_n SS.1 SS.2.1 dX12_firstCut_41 rfl (lv_at hl 2 rfl) ?_
                  refine j_vRi SS (As := [.int (J i), .int (J k)]) (rest := []) (c_X12_doCross l D o q u i k (show CU u from (p0)) (show 0 ≤ i ∧ i < (u.2.2 23) from (by omega)) (show 0 ≤ k ∧ k < (u.2.2 23) from (by omega))) mf_X12_doCross kw_1423 hG hP hP (ci := 8) (q0 := 0) rfl rfl rfl rfl hl.1 ⟨⟨Nat.le_of_ble_eq_true rfl, Nat.le_of_ble_eq_true rfl⟩, Nat.le_of_ble_eq_true rfl, Nat.le_refl _, Nat.le_refl _⟩ rfl dX12_firstCut_42 (fun z_42 h_42 => ?_)
                  have h_42 : z_42 = 0 ∨ z_42 = 1 := h_42
                  refine j_if_ne SS (tgt := 52) (x := z_42) dX12_firstCut_45 (by decide) (by omega) (fun c_45 => ?_) (fun c_45 => ?_)
                  · skip
                    refine j_iconst SS dX12_firstCut_52 ?_
                    refine lv_istore (lv' := [(4, .int (J 0)), (0, .ref o), (1, .long x), (3, .int (J k)), (5, .int (J i))]) SS.1 SS.2.1 dX12_firstCut_53 hl (by decide) rfl (fun ls hl => ?_)
                    refine lv_iinc (v := J (i + 1)) (lv' := [(5, .int (J (i + 1))), (4, .int (J 0)), (0, .ref o), (1, .long x), (3, .int (J k))]) SS.1 SS.2.1 dX12_firstCut_55 hl (k := 4) rfl (J_add _ _) (by decide) rfl (fun ls hl => ?_)
                    refine lv_goto (tgt := 18) SS.1 SS.2.1 dX12_firstCut_58 (by decide) ?_
                    exact ih_18 0 (i + 1) ls (lv_sub hl [2, 3, 4, 1, 0] rfl) (by omega) (by omega) (by omega)
                  · skip
                    refine j_iconst SS dX12_firstCut_48 ?_
                    refine lv_goto (tgt := 53) SS.1 SS.2.1 dX12_firstCut_49 (by decide) ?_
                    refine lv_istore (lv' := [(4, .int (J 1)), (0, .ref o), (1, .long x), (3, .int (J k)), (5, .int (J i))]) SS.1 SS.2.1 dX12_firstCut_53 hl (by decide) rfl (fun ls hl => ?_)
                    refine lv_iinc (v := J (i + 1)) (lv' := [(5, .int (J (i + 1))), (4, .int (J 1)), (0, .ref o), (1, .long x), (3, .int (J k))]) SS.1 SS.2.1 dX12_firstCut_55 hl (k := 4) rfl (J_add _ _) (by decide) rfl (fun ls hl => ?_)
                    refine lv_goto (tgt := 18) SS.1 SS.2.1 dX12_firstCut_58 (by decide) ?_
                    exact ih_18 1 (i + 1) ls (lv_sub hl [2, 3, 4, 1, 0] rfl) (by omega) (by omega) (by omega)
        exact L_18 ((k - (0 : Int)).toNat + 1) 1 0 ls (lv_sub hl [2, 3, 4, 1, 0] rfl) (by omega) (by omega) (Nat.lt_succ_self _)
  exact L_4 ((u.2.2 23 - (0 : Int)).toNat + 1) 0 0 ls (lv_sub hl [2, 1, 0] rfl) (by omega) (Nat.lt_succ_self _)

set_option maxHeartbeats 4000000 in
set_option maxRecDepth 100000 in
theorem c_X12_third (l : Launch) (D : JD) (o : Nat) (q : Nat → Nat) (u : MS) (x : Int64) (k : Int) (s : Int) (p0 : CU u) (p1 : 0 ≤ k ∧ k < u.2.2 23) (p2 : -1 ≤ s ∧ s ≤ 1) : Met l yX12_third (jw yX12_third cX12_third 6 (some .int)) (jr 2 46) (jP [.ref o, .long x, .int (J k), .int (J s)] D (fun H => va_P D.1 j_cl (mW D o q u) H)) (jRi (fun z => z = -9 ∨ ((0 ≤ z ∧ z < u.2.2 12) ∧ tn (u.1 10) (u.1 11) (u.1 20 k.toNat).toNat (u.1 21 k.toNat).toNat z.toNat = s))) 0 0 (fun _ => False) := by
  refine Met.ofW (cc := cX12_third) (maxL := 6) (ret := (some .int)) (by decide) rfl ?_
  intro pr en st mi args below meth co s₁ B hml hv
  obtain ⟨rfl, hG, hP⟩ := hv
  have hr := B.returns
  have hlk := B.notSynchronized
  have SS : jS pr mi co cX12_third 6 st _ RX12 := ⟨B.exec, B.bytes, hml, findClass_of_methodNamed B.named, fun w hw => atoms_spec (ws := (jw yX12_third cX12_third 6 (some .int))) B.pre w (List.mem_cons_of_mem _ hw)⟩
  have hl := lv_entry ([.ref o, .long x, .int (J k), .int (J s)]) (n := 6) (Nat.le_of_ble_eq_true rfl)
  rw [lg_entry_eq]
  generalize (lg_sl ([.ref o, .long x, .int (J k), .int (J s)]) ++ List.replicate (6 - (lg_sl ([.ref o, .long x, .int (J k), .int (J s)])).length) Slot.unset).toArray = ls at hl ⊢
  have hl : lv_has ls 6 [(0, .ref o), (1, .long x), (3, .int (J k)), (4, .int (J s))] := hl
  have hsg := p0.2.2.1
  have hal := p0.1
  have g1 := sg_at p0.2.2 (k := k) (by omega) (by omega)
  refine j_iconst SS dX12_third_0 ?_
  refine lv_istore (lv' := [(5, .int (J 0)), (0, .ref o), (1, .long x), (3, .int (J k)), (4, .int (J s))]) SS.1 SS.2.1 dX12_third_1 hl (by decide) rfl (fun ls hl => ?_)
  have L_3 : ∀ (nn : Nat) (c : Int) (ls : Array Slot) (hl : lv_has ls 6 [(0, .ref o), (1, .long x), (3, .int (J k)), (4, .int (J s)), (5, .int (J c))]) (i3_0 : 0 ≤ c ∧ c ≤ u.2.2 12), (u.2.2 12 - c).toNat < nn → W pr l en (headSpec (jw yX12_third cX12_third 6 (some .int)) (jr 2 46)).room st mi (([.ref o, .long x, .int (J k), .int (J s)] : List Value).toArray) below meth co st.heap [] 0 0 (MQ below (jRi (fun z => z = -9 ∨ ((0 ≤ z ∧ z < u.2.2 12) ∧ tn (u.1 10) (u.1 11) (u.1 20 k.toNat).toNat (u.1 21 k.toNat).toNat z.toNat = s))) (([.ref o, .long x, .int (J k), .int (J s)] : List Value).toArray) st 0 0 (fun _ => False)) (F0 mi 3 ls []) := by
    intro nn
    induction nn with
    | zero => intros; omega
    | succ nn ih_3 =>
      intro c ls hl i3_0 hm
      refine lv_iload SS.1 SS.2.1 dX12_third_3 (lv_at hl 4 rfl) ?_
      refine lv_aload_n SS.1 SS.2.1 dX12_third_5 rfl (lv_at hl 0 rfl) ?_
      refine j_get SS hG hP 0 (v := .int (J (u.2.2 12))) (C := RX12) (T := TX12) (N := 31) rfl rfl inX12 12 (by decide) (ref := RX12) kw_1070 rfl rfl dX12_third_6 ?_
      refine j_icmp_ge SS (tgt := 104) (x := c) (y := (u.2.2 12)) dX12_third_9 (by decide) (by omega) (by omega) (fun c_9 => ?_) (fun c_9 => ?_)
      · skip
        refine j_bipush SS dX12_third_104 (by decide +kernel) ?_
        exact W.iret SS.1 SS.2.1 hr (fun t ht hW => ⟨_, rfl, ⟨(-9), rfl, (Or.inl rfl)⟩, ht⟩) (fun _ h => nomatch h) dX12_third_106 hlk
      · skip
        refine lv_iload SS.1 SS.2.1 dX12_third_12 (lv_at hl 4 rfl) ?_
        refine lv_aload_n SS.1 SS.2.1 dX12_third_14 rfl (lv_at hl 0 rfl) ?_
        refine j_get SS hG hP 0 (v := .ref (q 20)) (C := RX12) (T := TX12) (N := 31) rfl rfl inX12 20 (by decide) (ref := RX12) kw_1078 rfl rfl dX12_third_15 ?_
        refine lv_iload_n SS.1 SS.2.1 dX12_third_18 rfl (lv_at hl 2 rfl) ?_
        refine j_iald SS hG hP 17 (n := 66) (f := (u.1 20)) rfl (z := k) (by omega) (by omega) dX12_third_19 ?_
        refine j_icmp_eq SS (tgt := 98) (x := c) (y := ((u.1 20) (k).toNat)) dX12_third_20 (by decide) (by omega) (by omega) (fun c_20 => ?_) (fun c_20 => ?_)
        · skip
          refine lv_iinc (v := J (c + 1)) (lv' := [(5, .int (J (c + 1))), (0, .ref o), (1, .long x), (3, .int (J k)), (4, .int (J s))]) SS.1 SS.2.1 dX12_third_98 hl (k := 4) rfl (J_add _ _) (by decide) rfl (fun ls hl => ?_)
          refine lv_goto (tgt := 3) SS.1 SS.2.1 dX12_third_101 (by decide) ?_
          exact ih_3 (c + 1) ls (lv_sub hl [1, 2, 3, 4, 0] rfl) (by omega) (by omega)
        · skip
          refine lv_iload SS.1 SS.2.1 dX12_third_23 (lv_at hl 4 rfl) ?_
          refine lv_aload_n SS.1 SS.2.1 dX12_third_25 rfl (lv_at hl 0 rfl) ?_
          refine j_get SS hG hP 0 (v := .ref (q 21)) (C := RX12) (T := TX12) (N := 31) rfl rfl inX12 21 (by decide) (ref := RX12) kw_1079 rfl rfl dX12_third_26 ?_
          refine lv_iload_n SS.1 SS.2.1 dX12_third_29 rfl (lv_at hl 2 rfl) ?_
          refine j_iald SS hG hP 18 (n := 66) (f := (u.1 21)) rfl (z := k) (by omega) (by omega) dX12_third_30 ?_
          refine j_icmp_eq SS (tgt := 98) (x := c) (y := ((u.1 21) (k).toNat)) dX12_third_31 (by decide) (by omega) (by omega) (fun c_31 => ?_) (fun c_31 => ?_)
          · skip
            refine lv_iinc (v := J (c + 1)) (lv' := [(5, .int (J (c + 1))), (0, .ref o), (1, .long x), (3, .int (J k)), (4, .int (J s))]) SS.1 SS.2.1 dX12_third_98 hl (k := 4) rfl (J_add _ _) (by decide) rfl (fun ls hl => ?_)
            refine lv_goto (tgt := 3) SS.1 SS.2.1 dX12_third_101 (by decide) ?_
            exact ih_3 (c + 1) ls (lv_sub hl [1, 2, 3, 4, 0] rfl) (by omega) (by omega)
          · skip
            refine lv_aload_n SS.1 SS.2.1 dX12_third_34 rfl (lv_at hl 0 rfl) ?_
            refine lv_aload_n SS.1 SS.2.1 dX12_third_35 rfl (lv_at hl 0 rfl) ?_
            refine j_get SS hG hP 0 (v := .ref (q 20)) (C := RX12) (T := TX12) (N := 31) rfl rfl inX12 20 (by decide) (ref := RX12) kw_1078 rfl rfl dX12_third_36 ?_
            refine lv_iload_n SS.1 SS.2.1 dX12_third_39 rfl (lv_at hl 2 rfl) ?_
            refine j_iald SS hG hP 17 (n := 66) (f := (u.1 20)) rfl (z := k) (by omega) (by omega) dX12_third_40 ?_
            refine lv_aload_n SS.1 SS.2.1 dX12_third_41 rfl (lv_at hl 0 rfl) ?_
            refine j_get SS hG hP 0 (v := .ref (q 21)) (C := RX12) (T := TX12) (N := 31) rfl rfl inX12 21 (by decide) (ref := RX12) kw_1079 rfl rfl dX12_third_42 ?_
            refine lv_iload_n SS.1 SS.2.1 dX12_third_45 rfl (lv_at hl 2 rfl) ?_
            refine j_iald SS hG hP 18 (n := 66) (f := (u.1 21)) rfl (z := k) (by omega) (by omega) dX12_third_46 ?_
            refine lv_iload SS.1 SS.2.1 dX12_third_47 (lv_at hl 4 rfl) ?_
            refine j_vRi SS (As := [.int (J ((u.1 20) (k).toNat)), .int (J ((u.1 21) (k).toNat)), .int (J c)]) (rest := []) (c_X12_turn l D o q u ((u.1 20) (k).toNat) ((u.1 21) (k).toNat) c (show 0 ≤ ((u.1 20) (k).toNat) ∧ ((u.1 20) (k).toNat) < 6561 from (by omega)) (show 0 ≤ ((u.1 21) (k).toNat) ∧ ((u.1 21) (k).toNat) < 6561 from (by omega)) (show 0 ≤ c ∧ c < 6561 from (by omega)) (show bd 40 ((u.1 10)) ((u.1 11)) 6561 from (p0.2.1))) mf_X12_turn kw_1427 hG hP hP (ci := 8) (q0 := 0) rfl rfl rfl rfl hl.1 ⟨⟨Nat.le_of_ble_eq_true rfl, Nat.le_of_ble_eq_true rfl⟩, Nat.le_of_ble_eq_true rfl, Nat.le_refl _, Nat.le_refl _⟩ rfl dX12_third_49 (fun z_49 h_49 => ?_)
            have h_49 : z_49 = tn ((u.1 10)) ((u.1 11)) ((u.1 20) (k).toNat).toNat ((u.1 21) (k).toNat).toNat c.toNat ∧ -12800 ≤ z_49 ∧ z_49 ≤ 12800 := h_49
            refine lv_iload SS.1 SS.2.1 dX12_third_52 (lv_at hl 3 rfl) ?_
            refine j_icmp_ne SS (tgt := 98) (x := z_49) (y := s) dX12_third_54 (by decide) (by omega) (by omega) (fun c_54 => ?_) (fun c_54 => ?_)
            · skip
              refine lv_iinc (v := J (c + 1)) (lv' := [(5, .int (J (c + 1))), (0, .ref o), (1, .long x), (3, .int (J k)), (4, .int (J s))]) SS.1 SS.2.1 dX12_third_98 hl (k := 4) rfl (J_add _ _) (by decide) rfl (fun ls hl => ?_)
              refine lv_goto (tgt := 3) SS.1 SS.2.1 dX12_third_101 (by decide) ?_
              exact ih_3 (c + 1) ls (lv_sub hl [1, 2, 3, 4, 0] rfl) (by omega) (by omega)
            · skip
              refine lv_lload_n SS.1 SS.2.1 dX12_third_57 rfl (lv_at hl 1 rfl) ?_
              refine lv_aload_n SS.1 SS.2.1 dX12_third_58 rfl (lv_at hl 0 rfl) ?_
              refine lv_aload_n SS.1 SS.2.1 dX12_third_59 rfl (lv_at hl 0 rfl) ?_
              refine j_get SS hG hP 0 (v := .ref (q 20)) (C := RX12) (T := TX12) (N := 31) rfl rfl inX12 20 (by decide) (ref := RX12) kw_1078 rfl rfl dX12_third_60 ?_
              refine lv_iload_n SS.1 SS.2.1 dX12_third_63 rfl (lv_at hl 2 rfl) ?_
              refine j_iald SS hG hP 17 (n := 66) (f := (u.1 20)) rfl (z := k) (by omega) (by omega) dX12_third_64 ?_
              refine lv_iload SS.1 SS.2.1 dX12_third_65 (lv_at hl 4 rfl) ?_
              refine j_vRi SS (As := [.int (J ((u.1 20) (k).toNat)), .int (J c)]) (rest := [.long x]) (c_X12_between1 l D o q u ((u.1 20) (k).toNat) c (show 0 ≤ ((u.1 20) (k).toNat) ∧ ((u.1 20) (k).toNat) < 12 from (by omega)) (show 0 ≤ c ∧ c < 12 from (by omega))) mf_X12_between1 kw_1455 hG hP hP (ci := 8) (q0 := 0) rfl rfl rfl rfl hl.1 ⟨⟨Nat.le_of_ble_eq_true rfl, Nat.le_of_ble_eq_true rfl⟩, Nat.le_of_ble_eq_true rfl, Nat.le_refl _, Nat.le_refl _⟩ rfl dX12_third_67 (fun z_67 h_67 => ?_)
              have h_67 : (((u.1 20) (k).toNat) < c ∧ z_67 = (u.1 22) (12 * ((u.1 20) (k).toNat) + c).toNat) ∨ (c ≤ ((u.1 20) (k).toNat) ∧ z_67 = (u.1 22) (12 * c + ((u.1 20) (k).toNat)).toNat) := h_67
              have hr70 := bt_n p0.2.2 g1.1 (by omega) (by omega) h_67
              refine j_sRi SS (As := [.long x, .int (J z_67)]) (rest := []) (c_X12_has l D x z_67 (show -2147483648 ≤ z_67 ∧ z_67 ≤ 2147483647 from (by omega))) mf_X12_has kw_1420 hG trivial rfl hl.1 ⟨⟨Nat.le_of_ble_eq_true rfl, Nat.le_of_ble_eq_true rfl⟩, Nat.le_of_ble_eq_true rfl, Nat.le_refl _, Nat.le_refl _⟩ rfl dX12_third_70 (fun z_70 h_70 => ?_)
              have h_70 : z_70 = 0 ∨ z_70 = 1 := h_70
              refine j_if_eq SS (tgt := 98) (x := z_70) dX12_third_73 (by decide) (by omega) (fun c_73 => ?_) (fun c_73 => ?_)
              · skip
                refine lv_iinc (v := J (c + 1)) (lv' := [(5, .int (J (c + 1))), (0, .ref o), (1, .long x), (3, .int (J k)), (4, .int (J s))]) SS.1 SS.2.1 dX12_third_98 hl (k := 4) rfl (J_add _ _) (by decide) rfl (fun ls hl => ?_)
                refine lv_goto (tgt := 3) SS.1 SS.2.1 dX12_third_101 (by decide) ?_
                exact ih_3 (c + 1) ls (lv_sub hl [1, 2, 3, 4, 0] rfl) (by omega) (by omega)
              · skip
                refine lv_lload_n SS.1 SS.2.1 dX12_third_76 rfl (lv_at hl 1 rfl) ?_
                refine lv_aload_n SS.1 SS.2.1 dX12_third_77 rfl (lv_at hl 0 rfl) ?_
                refine lv_aload_n SS.1 SS.2.1 dX12_third_78 rfl (lv_at hl 0 rfl) ?_
                refine j_get SS hG hP 0 (v := .ref (q 21)) (C := RX12) (T := TX12) (N := 31) rfl rfl inX12 21 (by decide) (ref := RX12) kw_1079 rfl rfl dX12_third_79 ?_
                refine lv_iload_n SS.1 SS.2.1 dX12_third_82 rfl (lv_at hl 2 rfl) ?_
                refine j_iald SS hG hP 18 (n := 66) (f := (u.1 21)) rfl (z := k) (by omega) (by omega) dX12_third_83 ?_
                refine lv_iload SS.1 SS.2.1 dX12_third_84 (lv_at hl 4 rfl) ?_
                refine j_vRi SS (As := [.int (J ((u.1 21) (k).toNat)), .int (J c)]) (rest := [.long x]) (c_X12_between1 l D o q u ((u.1 21) (k).toNat) c (show 0 ≤ ((u.1 21) (k).toNat) ∧ ((u.1 21) (k).toNat) < 12 from (by omega)) (show 0 ≤ c ∧ c < 12 from (by omega))) mf_X12_between1 kw_1455 hG hP hP (ci := 8) (q0 := 0) rfl rfl rfl rfl hl.1 ⟨⟨Nat.le_of_ble_eq_true rfl, Nat.le_of_ble_eq_true rfl⟩, Nat.le_of_ble_eq_true rfl, Nat.le_refl _, Nat.le_refl _⟩ rfl dX12_third_86 (fun z_86 h_86 => ?_)
                have h_86 : (((u.1 21) (k).toNat) < c ∧ z_86 = (u.1 22) (12 * ((u.1 21) (k).toNat) + c).toNat) ∨ (c ≤ ((u.1 21) (k).toNat) ∧ z_86 = (u.1 22) (12 * c + ((u.1 21) (k).toNat)).toNat) := h_86
                have hr89 := bt_n p0.2.2 g1.2 (by omega) (by omega) h_86
                refine j_sRi SS (As := [.long x, .int (J z_86)]) (rest := []) (c_X12_has l D x z_86 (show -2147483648 ≤ z_86 ∧ z_86 ≤ 2147483647 from (by omega))) mf_X12_has kw_1420 hG trivial rfl hl.1 ⟨⟨Nat.le_of_ble_eq_true rfl, Nat.le_of_ble_eq_true rfl⟩, Nat.le_of_ble_eq_true rfl, Nat.le_refl _, Nat.le_refl _⟩ rfl dX12_third_89 (fun z_89 h_89 => ?_)
                have h_89 : z_89 = 0 ∨ z_89 = 1 := h_89
                refine j_if_eq SS (tgt := 98) (x := z_89) dX12_third_92 (by decide) (by omega) (fun c_92 => ?_) (fun c_92 => ?_)
                · skip
                  refine lv_iinc (v := J (c + 1)) (lv' := [(5, .int (J (c + 1))), (0, .ref o), (1, .long x), (3, .int (J k)), (4, .int (J s))]) SS.1 SS.2.1 dX12_third_98 hl (k := 4) rfl (J_add _ _) (by decide) rfl (fun ls hl => ?_)
                  refine lv_goto (tgt := 3) SS.1 SS.2.1 dX12_third_101 (by decide) ?_
                  exact ih_3 (c + 1) ls (lv_sub hl [1, 2, 3, 4, 0] rfl) (by omega) (by omega)
                · skip
                  refine lv_iload SS.1 SS.2.1 dX12_third_95 (lv_at hl 4 rfl) ?_
                  exact W.iret SS.1 SS.2.1 hr (fun t ht hW => ⟨_, rfl, ⟨c, rfl, (Or.inr ⟨by omega, by rw [← h_49.1]; omega⟩)⟩, ht⟩) (fun _ h => nomatch h) dX12_third_97 hlk
  exact L_3 ((u.2.2 12 - (0 : Int)).toNat + 1) 0 ls (lv_sub hl [1, 2, 3, 4, 0] rfl) (by omega) (Nat.lt_succ_self _)

set_option maxHeartbeats 4000000 in
set_option maxRecDepth 100000 in
theorem c_X12_flipped (l : Launch) (D : JD) (o : Nat) (q : Nat → Nat) (u : MS) (x : Int64) (k : Int) (p0 : CU u) (p1 : 0 ≤ k ∧ k < u.2.2 23) : Met l yX12_flipped (jw yX12_flipped cX12_flipped 7 (some .long)) (jr 3 72) (jP [.ref o, .long x, .int (J k)] D (fun H => va_P D.1 j_cl (mW D o q u) H)) (vp_Sl (fun r => True)) 0 0 (fun _ => False) := by
  refine Met.ofW (cc := cX12_flipped) (maxL := 7) (ret := (some .long)) (by decide) rfl ?_
  intro pr en st mi args below meth co s₁ B hml hv
  obtain ⟨rfl, hG, hP⟩ := hv
  have hr := B.returns
  have hlk := B.notSynchronized
  have SS : jS pr mi co cX12_flipped 7 st _ RX12 := ⟨B.exec, B.bytes, hml, findClass_of_methodNamed B.named, fun w hw => atoms_spec (ws := (jw yX12_flipped cX12_flipped 7 (some .long))) B.pre w (List.mem_cons_of_mem _ hw)⟩
  have hl := lv_entry ([.ref o, .long x, .int (J k)]) (n := 7) (Nat.le_of_ble_eq_true rfl)
  rw [lg_entry_eq]
  generalize (lg_sl ([.ref o, .long x, .int (J k)]) ++ List.replicate (7 - (lg_sl ([.ref o, .long x, .int (J k)])).length) Slot.unset).toArray = ls at hl ⊢
  have hl : lv_has ls 7 [(0, .ref o), (1, .long x), (3, .int (J k))] := hl
  have hsg := p0.2.2.1
  have hal := p0.1
  have g1 := sg_at p0.2.2 (k := k) (by omega) (by omega)
  refine lv_aload_n SS.1 SS.2.1 dX12_flipped_0 rfl (lv_at hl 0 rfl) ?_
  refine lv_lload_n SS.1 SS.2.1 dX12_flipped_1 rfl (lv_at hl 1 rfl) ?_
  refine lv_iload_n SS.1 SS.2.1 dX12_flipped_2 rfl (lv_at hl 2 rfl) ?_
  refine j_iconst SS dX12_flipped_3 ?_
  refine j_vRi SS (As := [.long x, .int (J k), .int (J 1)]) (rest := []) (c_X12_third l D o q u x k 1 (show CU u from (p0)) (show 0 ≤ k ∧ k < (u.2.2 23) from (by omega)) (show -1 ≤ (1 : Int) ∧ (1 : Int) ≤ 1 from (by omega))) mf_X12_third kw_1451 hG hP hP (ci := 8) (q0 := 0) rfl rfl rfl rfl hl.1 ⟨⟨Nat.le_of_ble_eq_true rfl, Nat.le_of_ble_eq_true rfl⟩, Nat.le_of_ble_eq_true rfl, Nat.le_refl _, Nat.le_refl _⟩ rfl dX12_flipped_4 (fun z_4 h_4 => ?_)
  have h_4 : z_4 = -9 ∨ ((0 ≤ z_4 ∧ z_4 < (u.2.2 12)) ∧ tn ((u.1 10)) ((u.1 11)) ((u.1 20) k.toNat).toNat ((u.1 21) k.toNat).toNat z_4.toNat = (1 : Int)) := h_4
  refine lv_istore (lv' := [(4, .int (J z_4)), (0, .ref o), (1, .long x), (3, .int (J k))]) SS.1 SS.2.1 dX12_flipped_7 hl (by decide) rfl (fun ls hl => ?_)
  refine lv_aload_n SS.1 SS.2.1 dX12_flipped_9 rfl (lv_at hl 1 rfl) ?_
  refine lv_lload_n SS.1 SS.2.1 dX12_flipped_10 rfl (lv_at hl 2 rfl) ?_
  refine lv_iload_n SS.1 SS.2.1 dX12_flipped_11 rfl (lv_at hl 3 rfl) ?_
  refine j_iconst SS dX12_flipped_12 ?_
  refine j_vRi SS (As := [.long x, .int (J k), .int (J (-1))]) (rest := []) (c_X12_third l D o q u x k (-1) (show CU u from (p0)) (show 0 ≤ k ∧ k < (u.2.2 23) from (by omega)) (show -1 ≤ (-1 : Int) ∧ (-1 : Int) ≤ 1 from (by omega))) mf_X12_third kw_1451 hG hP hP (ci := 8) (q0 := 0) rfl rfl rfl rfl hl.1 ⟨⟨Nat.le_of_ble_eq_true rfl, Nat.le_of_ble_eq_true rfl⟩, Nat.le_of_ble_eq_true rfl, Nat.le_refl _, Nat.le_refl _⟩ rfl dX12_flipped_13 (fun z_13 h_13 => ?_)
  have h_13 : z_13 = -9 ∨ ((0 ≤ z_13 ∧ z_13 < (u.2.2 12)) ∧ tn ((u.1 10)) ((u.1 11)) ((u.1 20) k.toNat).toNat ((u.1 21) k.toNat).toNat z_13.toNat = (-1 : Int)) := h_13
  refine lv_istore (lv' := [(5, .int (J z_13)), (4, .int (J z_4)), (0, .ref o), (1, .long x), (3, .int (J k))]) SS.1 SS.2.1 dX12_flipped_16 hl (by decide) rfl (fun ls hl => ?_)
  refine lv_lload_n SS.1 SS.2.1 dX12_flipped_18 rfl (lv_at hl 3 rfl) ?_
  refine lv_iload_n SS.1 SS.2.1 dX12_flipped_19 rfl (lv_at hl 4 rfl) ?_
  refine j_sRi SS (As := [.long x, .int (J k)]) (rest := []) (c_X12_has l D x k (show -2147483648 ≤ k ∧ k ≤ 2147483647 from (by omega))) mf_X12_has kw_1420 hG trivial rfl hl.1 ⟨⟨Nat.le_of_ble_eq_true rfl, Nat.le_of_ble_eq_true rfl⟩, Nat.le_of_ble_eq_true rfl, Nat.le_refl _, Nat.le_refl _⟩ rfl dX12_flipped_20 (fun z_20 h_20 => ?_)
  have h_20 : z_20 = 0 ∨ z_20 = 1 := h_20
  refine j_if_eq SS (tgt := 40) (x := z_20) dX12_flipped_23 (by decide) (by omega) (fun c_23 => ?_) (fun c_23 => ?_)
  · skip
    refine lv_lconst (v := 0) SS.1 SS.2.1 dX12_flipped_40 (by decide +kernel) ?_
    exact W.lret SS.1 SS.2.1 hr (fun t ht hW => ⟨_, rfl, (trivial), ht⟩) (fun _ h => nomatch h) dX12_flipped_41 hlk
  · skip
    refine lv_iload SS.1 SS.2.1 dX12_flipped_26 (lv_at hl 1 rfl) ?_
    refine j_bipush SS dX12_flipped_28 (by decide +kernel) ?_
    refine j_icmp_eq SS (tgt := 40) (x := z_4) (y := (-9)) dX12_flipped_30 (by decide) (by omega) (by decide) (fun c_30 => ?_) (fun c_30 => ?_)
    · skip
      refine lv_lconst (v := 0) SS.1 SS.2.1 dX12_flipped_40 (by decide +kernel) ?_
      exact W.lret SS.1 SS.2.1 hr (fun t ht hW => ⟨_, rfl, (trivial), ht⟩) (fun _ h => nomatch h) dX12_flipped_41 hlk
    · skip
      refine lv_iload SS.1 SS.2.1 dX12_flipped_33 (lv_at hl 0 rfl) ?_
      refine j_bipush SS dX12_flipped_35 (by decide +kernel) ?_
      refine j_icmp_ne SS (tgt := 42) (x := z_13) (y := (-9)) dX12_flipped_37 (by decide) (by omega) (by decide) (fun c_37 => ?_) (fun c_37 => ?_)
      · skip
        have hne : z_4 ≠ z_13 := by intro e; have a1 : tn (u.1 10) (u.1 11) (u.1 20 k.toNat).toNat (u.1 21 k.toNat).toNat z_4.toNat = 1 := (by rcases h_4 with q | q; omega; exact q.2); have a2 : tn (u.1 10) (u.1 11) (u.1 20 k.toNat).toNat (u.1 21 k.toNat).toNat z_13.toNat = -1 := (by rcases h_13 with q | q; omega; exact q.2); rw [e] at a1; omega
        refine lv_aload_n SS.1 SS.2.1 dX12_flipped_42 rfl (lv_at hl 2 rfl) ?_
        refine lv_iload SS.1 SS.2.1 dX12_flipped_43 (lv_at hl 1 rfl) ?_
        refine lv_iload SS.1 SS.2.1 dX12_flipped_45 (lv_at hl 0 rfl) ?_
        refine j_vRi SS (As := [.int (J z_4), .int (J z_13)]) (rest := []) (c_X12_between1 l D o q u z_4 z_13 (show 0 ≤ z_4 ∧ z_4 < 12 from (by omega)) (show 0 ≤ z_13 ∧ z_13 < 12 from (by omega))) mf_X12_between1 kw_1455 hG hP hP (ci := 8) (q0 := 0) rfl rfl rfl rfl hl.1 ⟨⟨Nat.le_of_ble_eq_true rfl, Nat.le_of_ble_eq_true rfl⟩, Nat.le_of_ble_eq_true rfl, Nat.le_refl _, Nat.le_refl _⟩ rfl dX12_flipped_47 (fun z_47 h_47 => ?_)
        have h_47 : (z_4 < z_13 ∧ z_47 = (u.1 22) (12 * z_4 + z_13).toNat) ∨ (z_13 ≤ z_4 ∧ z_47 = (u.1 22) (12 * z_13 + z_4).toNat) := h_47
        have hr4 := bt_n p0.2.2 (a := z_4) (b := z_13) (by omega) (by omega) hne h_47
        refine lv_istore (lv' := [(6, .int (J z_47)), (5, .int (J z_13)), (4, .int (J z_4)), (0, .ref o), (1, .long x), (3, .int (J k))]) SS.1 SS.2.1 dX12_flipped_50 hl (by decide) rfl (fun ls hl => ?_)
        refine lv_iload SS.1 SS.2.1 dX12_flipped_52 (lv_at hl 0 rfl) ?_
        refine j_bipush SS dX12_flipped_54 (by decide +kernel) ?_
        refine j_icmp_eq SS (tgt := 86) (x := z_47) (y := (-9)) dX12_flipped_56 (by decide) (by omega) (by decide) (fun c_56 => ?_) (fun c_56 => ?_)
        · skip
          refine lv_lconst (v := 0) SS.1 SS.2.1 dX12_flipped_86 (by decide +kernel) ?_
          exact W.lret SS.1 SS.2.1 hr (fun t ht hW => ⟨_, rfl, (trivial), ht⟩) (fun _ h => nomatch h) dX12_flipped_87 hlk
        · skip
          refine lv_aload_n SS.1 SS.2.1 dX12_flipped_59 rfl (lv_at hl 3 rfl) ?_
          refine lv_iload_n SS.1 SS.2.1 dX12_flipped_60 rfl (lv_at hl 5 rfl) ?_
          refine lv_iload SS.1 SS.2.1 dX12_flipped_61 (lv_at hl 0 rfl) ?_
          refine j_vRi SS (As := [.int (J k), .int (J z_47)]) (rest := []) (c_X12_doCross l D o q u k z_47 (show CU u from (p0)) (show 0 ≤ k ∧ k < (u.2.2 23) from (by omega)) (show 0 ≤ z_47 ∧ z_47 < (u.2.2 23) from (by omega))) mf_X12_doCross kw_1423 hG hP hP (ci := 8) (q0 := 0) rfl rfl rfl rfl hl.1 ⟨⟨Nat.le_of_ble_eq_true rfl, Nat.le_of_ble_eq_true rfl⟩, Nat.le_of_ble_eq_true rfl, Nat.le_refl _, Nat.le_refl _⟩ rfl dX12_flipped_63 (fun z_63 h_63 => ?_)
          have h_63 : z_63 = 0 ∨ z_63 = 1 := h_63
          refine j_if_eq SS (tgt := 86) (x := z_63) dX12_flipped_66 (by decide) (by omega) (fun c_66 => ?_) (fun c_66 => ?_)
          · skip
            refine lv_lconst (v := 0) SS.1 SS.2.1 dX12_flipped_86 (by decide +kernel) ?_
            exact W.lret SS.1 SS.2.1 hr (fun t ht hW => ⟨_, rfl, (trivial), ht⟩) (fun _ h => nomatch h) dX12_flipped_87 hlk
          · skip
            refine lv_lload_n SS.1 SS.2.1 dX12_flipped_69 rfl (lv_at hl 4 rfl) ?_
            refine lv_lconst (v := 1) SS.1 SS.2.1 dX12_flipped_70 (by decide +kernel) ?_
            refine lv_iload_n SS.1 SS.2.1 dX12_flipped_71 rfl (lv_at hl 5 rfl) ?_
            refine lv_lshl SS.1 SS.2.1 dX12_flipped_72 rfl (lv_topl (fun x_72 ex_72 => ?_))
            refine lv_ldc2 SS.1 SS.2.1 SS.2.2.2.1 (SS.2.2.2.2 _ kw_1248) dX12_flipped_73 ?_
            refine lv_lxor SS.1 SS.2.1 dX12_flipped_76 ?_
            refine lv_land SS.1 SS.2.1 dX12_flipped_77 ?_
            refine lv_lconst (v := 1) SS.1 SS.2.1 dX12_flipped_78 (by decide +kernel) ?_
            refine lv_iload SS.1 SS.2.1 dX12_flipped_79 (lv_at hl 0 rfl) ?_
            refine lv_lshl SS.1 SS.2.1 dX12_flipped_81 rfl (lv_topl (fun x_81 ex_81 => ?_))
            refine lv_lor SS.1 SS.2.1 dX12_flipped_82 ?_
            refine lv_goto (tgt := 87) SS.1 SS.2.1 dX12_flipped_83 (by decide) ?_
            exact W.lret SS.1 SS.2.1 hr (fun t ht hW => ⟨_, rfl, (trivial), ht⟩) (fun _ h => nomatch h) dX12_flipped_87 hlk
      · skip
        refine lv_lconst (v := 0) SS.1 SS.2.1 dX12_flipped_40 (by decide +kernel) ?_
        exact W.lret SS.1 SS.2.1 hr (fun t ht hW => ⟨_, rfl, (trivial), ht⟩) (fun _ h => nomatch h) dX12_flipped_41 hlk

set_option maxHeartbeats 4000000 in
set_option maxRecDepth 100000 in
theorem c_X12_slotOf (l : Launch) (D : JD) (o : Nat) (q : Nat → Nat) (u : MS) (x : Int64) (p0 : sl (u.1 26) (u.2.2 27)) (p1 : 0 ≤ u.2.2 27 ∧ u.2.2 27 ≤ 1500) : Met l yX12_slotOf (jw yX12_slotOf cX12_slotOf 4 (some .int)) (jr 0 0) (jP [.ref o, .long x] D (fun H => va_P D.1 j_cl (mW D o q u) H)) (jRi (fun z => 0 ≤ z ∧ z < 4096)) 0 0 (fun _ => False) := by
  refine Met.ofW (cc := cX12_slotOf) (maxL := 4) (ret := (some .int)) (by decide) rfl ?_
  intro pr en st mi args below meth co s₁ B hml hv
  obtain ⟨rfl, hG, hP⟩ := hv
  have hr := B.returns
  have hlk := B.notSynchronized
  have SS : jS pr mi co cX12_slotOf 4 st _ RX12 := ⟨B.exec, B.bytes, hml, findClass_of_methodNamed B.named, fun w hw => atoms_spec (ws := (jw yX12_slotOf cX12_slotOf 4 (some .int))) B.pre w (List.mem_cons_of_mem _ hw)⟩
  have hl := lv_entry ([.ref o, .long x]) (n := 4) (Nat.le_of_ble_eq_true rfl)
  rw [lg_entry_eq]
  generalize (lg_sl ([.ref o, .long x]) ++ List.replicate (4 - (lg_sl ([.ref o, .long x])).length) Slot.unset).toArray = ls at hl ⊢
  have hl : lv_has ls 4 [(0, .ref o), (1, .long x)] := hl
  obtain ⟨w, hw, hw9⟩ := sl_free p0 p1.2
  refine lv_lload_n SS.1 SS.2.1 dX12_slotOf_0 rfl (lv_at hl 1 rfl) ?_
  refine lv_lload_n SS.1 SS.2.1 dX12_slotOf_1 rfl (lv_at hl 1 rfl) ?_
  refine j_bipush SS dX12_slotOf_2 (by decide +kernel) ?_
  refine lv_lshr SS.1 SS.2.1 dX12_slotOf_4 rfl (lv_topl (fun x_4 ex_4 => ?_))
  refine lv_lxor SS.1 SS.2.1 dX12_slotOf_5 ?_
  refine lv_lload_n SS.1 SS.2.1 dX12_slotOf_6 rfl (lv_at hl 1 rfl) ?_
  refine j_bipush SS dX12_slotOf_7 (by decide +kernel) ?_
  refine lv_lshr SS.1 SS.2.1 dX12_slotOf_9 rfl (lv_topl (fun x_9 ex_9 => ?_))
  refine lv_lxor SS.1 SS.2.1 dX12_slotOf_10 ?_
  refine lv_ldc2 SS.1 SS.2.1 SS.2.2.2.1 (SS.2.2.2.2 _ kw_1446) dX12_slotOf_11 ?_
  refine lv_land SS.1 SS.2.1 dX12_slotOf_14 ?_
  refine lv_l2i SS.1 SS.2.1 dX12_slotOf_15 rfl ?_
  rw [J_of (Int64.toInt32 _)]
  have r_15 := J_rng (Int64.toInt32 (((x ^^^ x_4) ^^^ x_9) &&& (4095)))
  refine lv_istore_n (lv' := [(3, .int (J ((Int64.toInt32 (((x ^^^ x_4) ^^^ x_9) &&& (4095))).toInt))), (0, .ref o), (1, .long x)]) SS.1 SS.2.1 dX12_slotOf_16 rfl hl (by decide) rfl (fun ls hl => ?_)
  have L_17 : ∀ (nn : Nat) (s : Int) (ls : Array Slot) (hl : lv_has ls 4 [(0, .ref o), (1, .long x), (3, .int (J s))]) (i17_0 : 0 ≤ s ∧ s < 4096), (((w : Int) - s) % 4096).toNat < nn → W pr l en (headSpec (jw yX12_slotOf cX12_slotOf 4 (some .int)) (jr 0 0)).room st mi (([.ref o, .long x] : List Value).toArray) below meth co st.heap [] 0 0 (MQ below (jRi (fun z => 0 ≤ z ∧ z < 4096)) (([.ref o, .long x] : List Value).toArray) st 0 0 (fun _ => False)) (F0 mi 17 ls []) := by
    intro nn
    induction nn with
    | zero => intros; omega
    | succ nn ih_17 =>
      intro s ls hl i17_0 hm
      have hs := p0.1 s.toNat (by omega)
      refine lv_aload_n SS.1 SS.2.1 dX12_slotOf_17 rfl (lv_at hl 0 rfl) ?_
      refine j_get SS hG hP 0 (v := .ref (q 26)) (C := RX12) (T := TX12) (N := 31) rfl rfl inX12 26 (by decide) (ref := RX12) kw_1084 rfl rfl dX12_slotOf_18 ?_
      refine lv_iload_n SS.1 SS.2.1 dX12_slotOf_21 rfl (lv_at hl 2 rfl) ?_
      refine j_iald SS hG hP 22 (n := 4096) (f := (u.1 26)) rfl (z := s) (by omega) (by omega) dX12_slotOf_22 ?_
      refine j_bipush SS dX12_slotOf_23 (by decide +kernel) ?_
      refine j_icmp_eq SS (tgt := 55) (x := ((u.1 26) (s).toNat)) (y := (-9)) dX12_slotOf_25 (by decide) (by omega) (by decide) (fun c_25 => ?_) (fun c_25 => ?_)
      · skip
        refine lv_iload_n SS.1 SS.2.1 dX12_slotOf_55 rfl (lv_at hl 2 rfl) ?_
        exact W.iret SS.1 SS.2.1 hr (fun t ht hW => ⟨_, rfl, ⟨s, rfl, (by omega)⟩, ht⟩) (fun _ h => nomatch h) dX12_slotOf_56 hlk
      · skip
        refine lv_aload_n SS.1 SS.2.1 dX12_slotOf_28 rfl (lv_at hl 0 rfl) ?_
        refine j_get SS hG hP 0 (v := .ref (q 24)) (C := RX12) (T := TX12) (N := 31) rfl rfl inX12 24 (by decide) (ref := RX12) kw_1082 rfl rfl dX12_slotOf_29 ?_
        refine lv_aload_n SS.1 SS.2.1 dX12_slotOf_32 rfl (lv_at hl 0 rfl) ?_
        refine j_get SS hG hP 0 (v := .ref (q 26)) (C := RX12) (T := TX12) (N := 31) rfl rfl inX12 26 (by decide) (ref := RX12) kw_1084 rfl rfl dX12_slotOf_33 ?_
        refine lv_iload_n SS.1 SS.2.1 dX12_slotOf_36 rfl (lv_at hl 2 rfl) ?_
        refine j_iald SS hG hP 22 (n := 4096) (f := (u.1 26)) rfl (z := s) (by omega) (by omega) dX12_slotOf_37 ?_
        refine j_lald SS hG hP 20 (n := 1501) (f := (u.2.1 24)) rfl (z := ((u.1 26) (s).toNat)) (by omega) (by omega) dX12_slotOf_38 ?_
        refine lv_lload_n SS.1 SS.2.1 dX12_slotOf_39 rfl (lv_at hl 1 rfl) ?_
        refine j_lcmp SS dX12_slotOf_40 (fun z_40 hz_40 => ?_)
        refine j_if_eq SS (tgt := 55) (x := z_40) dX12_slotOf_41 (by decide) (by omega) (fun c_41 => ?_) (fun c_41 => ?_)
        · skip
          refine lv_iload_n SS.1 SS.2.1 dX12_slotOf_55 rfl (lv_at hl 2 rfl) ?_
          exact W.iret SS.1 SS.2.1 hr (fun t ht hW => ⟨_, rfl, ⟨s, rfl, (by omega)⟩, ht⟩) (fun _ h => nomatch h) dX12_slotOf_56 hlk
        · skip
          have hsw : s ≠ (w : Int) := by intro e; have e2 : s.toNat = w := (by omega); rw [e2] at c_25; omega
          refine lv_iload_n SS.1 SS.2.1 dX12_slotOf_44 rfl (lv_at hl 2 rfl) ?_
          refine j_iconst SS dX12_slotOf_45 ?_
          refine j_iadd SS (x := s) (y := 1) dX12_slotOf_46 ?_
          refine j_sipush SS dX12_slotOf_47 (by decide +kernel) ?_
          refine lv_iand SS.1 SS.2.1 dX12_slotOf_50 ?_
          rw [J_andm (by omega) (n := 4095) rfl]
          refine lv_istore_n (lv' := [(3, .int (J ((s + 1) % (4095 + 1)))), (0, .ref o), (1, .long x)]) SS.1 SS.2.1 dX12_slotOf_51 rfl hl (by decide) rfl (fun ls hl => ?_)
          refine lv_goto (tgt := 17) SS.1 SS.2.1 dX12_slotOf_52 (by decide) ?_
          exact ih_17 ((s + 1) % (4095 + 1)) ls (lv_sub hl [1, 2, 0] rfl) (by omega) (by omega)
  exact L_17 ((((w : Int) - ((Int64.toInt32 (((x ^^^ x_4) ^^^ x_9) &&& (4095))).toInt)) % 4096).toNat + 1) ((Int64.toInt32 (((x ^^^ x_4) ^^^ x_9) &&& (4095))).toInt) ls (lv_sub hl [1, 2, 0] rfl) (L_m12 _) (Nat.lt_succ_self _)

set_option maxHeartbeats 4000000 in
set_option maxRecDepth 100000 in
theorem c_X12_findCuts (l : Launch) (D : JD) (o : Nat) (q : Nat → Nat) (u : MS) (A : Nat → Prop) (hD : va_D A (mW D o q u)) (s : Int) (p0 : IM u) (p1 : 0 ≤ s ∧ s ≤ 7) (p2 : 2 < mN u s) (p3 : mEd u s + mIn u s ≤ 12) : Met l yX12_findCuts (jw yX12_findCuts cX12_findCuts 7 none) (jr 4 98) (jP [.ref o, .int (J s)] D (fun H => va_P D.1 j_cl (mW D o q u) H)) (jWv (fun u' => ∃ X : Nat → Int, ∃ Y : Nat → Int, ∃ n : Int, ∃ A : Nat → Int, ∃ B : Nat → Int, ∃ S : Nat → Int, ∃ m : Int, ∃ C : Nat → Int64, ∃ F : Nat → Int, ∃ W : Nat → Int, ∃ c : Int, ∃ t : Int, u' = (uV (uV (uI (uI (uL (uV (uI (uI (uI (uV (uI (uI u 10 X) 11 Y) 12 n) 20 A) 21 B) 22 S) 23 m) 24 C) 25 F) 26 W) 27 c) 28 t) ∧ (CU u' ∧ (1 ≤ c ∧ c ≤ 1500) ∧ (t = 0 ∨ t = 1) ∧ (0 ≤ m ∧ m ≤ 66) ∧ IM u')) (fun u' H => va_P D.1 j_cl (mW D o q u') H) A) 0 0 A := by
  refine Met.ofW (cc := cX12_findCuts) (maxL := 7) (ret := none) (by decide) rfl ?_
  intro pr en st mi args below meth co s₁ B hml hv
  obtain ⟨rfl, hG, hP⟩ := hv
  have hr := B.returns
  have hlk := B.notSynchronized
  have SS : jS pr mi co cX12_findCuts 7 st _ RX12 := ⟨B.exec, B.bytes, hml, findClass_of_methodNamed B.named, fun w hw => atoms_spec (ws := (jw yX12_findCuts cX12_findCuts 7 none)) B.pre w (List.mem_cons_of_mem _ hw)⟩
  have hl := lv_entry ([.ref o, .int (J s)]) (n := 7) (Nat.le_of_ble_eq_true rfl)
  rw [lg_entry_eq]
  generalize (lg_sl ([.ref o, .int (J s)]) ++ List.replicate (7 - (lg_sl ([.ref o, .int (J s)])).length) Slot.unset).toArray = ls at hl ⊢
  have hl : lv_has ls 7 [(0, .ref o), (1, .int (J s))] := hl
  have hS : va_S A st.heap st.heap [] := va_S.rf
  refine lv_aload_n SS.1 SS.2.1 dX12_findCuts_0 rfl (lv_at hl 0 rfl) ?_
  refine lv_iload_n SS.1 SS.2.1 dX12_findCuts_1 rfl (lv_at hl 1 rfl) ?_
  refine j_vWv SS (As := [.int (J s)]) (rest := []) (c_X12_findAll l D o q u A (mW_D hD) s (show 0 ≤ s ∧ s ≤ 7 from (by omega)) (show Sh u s from (p0.1 _ (by omega) (by omega)))) mf_X12_findAll kw_1266 hG hP hP (ci := 8) (q0 := 0) rfl rfl rfl hS (fun _ h => h) rfl hl.1 ⟨⟨Nat.le_of_ble_eq_true rfl, Nat.le_of_ble_eq_true rfl⟩, Nat.le_of_ble_eq_true rfl, Nat.le_refl _, Nat.le_refl _⟩ rfl dX12_findCuts_2 (fun u2 H locs h_2 hP _ hS => ?_)
  obtain ⟨X_2, Y_2, n_2, lo_2, hi_2, rfl, h_2⟩ := h_2
  have hP : va_P D.1 j_cl (mW D o q (uV (uI (uI u 10 X_2) 11 Y_2) 12 n_2)) H := hP
  have h_2 : 0 ≤ n_2 ∧ n_2 ≤ 6561 ∧ bd 40 X_2 Y_2 n_2 ∧ os_s X_2 Y_2 n_2 ∧ (bd 40 ((u.1 10)) ((u.1 11)) 6561 → bd 40 X_2 Y_2 6561) ∧ (0 < mN u s → (∀ k : Int, 0 ≤ k → k < mN u s → lo_2 ≤ mX u s k ∧ mX u s k ≤ hi_2) ∧ (∃ k : Int, 0 ≤ k ∧ k < mN u s ∧ mX u s k = lo_2) ∧ ∃ k : Int, 0 ≤ k ∧ k < mN u s ∧ mX u s k = hi_2) ∧ ∀ L U : Int → Int, LU u s lo_2 hi_2 L U → n_2 ≤ cb_ L U lo_2 (hi_2 + 1 - lo_2) ∨ hi_2 < lo_2 ∧ n_2 = 0 := h_2
  have hq := h_2.2.2.2.2.2
  have hn12 := fa_pick (p0.1 s (by omega) (by omega)) p2 (hq.1 (by omega)) hq.2
  have hn0 := h_2.1
  have hIM : bd 40 X_2 Y_2 6561 := h_2.2.2.2.2.1 p0.2.2
  refine lv_aload_n SS.1 SS.2.1 dX12_findCuts_5 rfl (lv_at hl 0 rfl) ?_
  refine j_vWv SS (As := []) (rest := []) (c_X12_findSegments l D o q (uV (uI (uI u 10 X_2) 11 Y_2) 12 n_2) A (mW_D hD)  (show 0 ≤ n_2 ∧ n_2 ≤ 12 from (by omega)) (show bd 40 (X_2) (Y_2) 6561 from (hIM))) mf_X12_findSegments kw_1412 hG hP hP (ci := 8) (q0 := 0) rfl rfl rfl hS (fun _ h => h) rfl hl.1 ⟨⟨Nat.le_of_ble_eq_true rfl, Nat.le_of_ble_eq_true rfl⟩, Nat.le_of_ble_eq_true rfl, Nat.le_refl _, Nat.le_refl _⟩ rfl dX12_findCuts_6 (fun u6 H locs h_6 hP _ hS => ?_)
  obtain ⟨A_6, B_6, S_6, n_6, rfl, h_6⟩ := h_6
  have hP : va_P D.1 j_cl (mW D o q (uV (uI (uI (uI (uV (uI (uI u 10 X_2) 11 Y_2) 12 n_2) 20 A_6) 21 B_6) 22 S_6) 23 n_6)) H := hP
  have h_6 : sg A_6 B_6 S_6 n_6 (n_2) := h_6
  have hm := h_6.1
  have hcu : (0 ≤ n_2 ∧ n_2 ≤ 12) ∧ bd 40 X_2 Y_2 6561 ∧ sg A_6 B_6 S_6 n_6 n_2 := ⟨by omega, hIM, h_6⟩
  refine j_iconst SS dX12_findCuts_9 ?_
  refine lv_istore_n (lv' := [(2, .int (J 0)), (0, .ref o), (1, .int (J s))]) SS.1 SS.2.1 dX12_findCuts_10 rfl hl (by decide) rfl (fun ls hl => ?_)
  have L_11 : ∀ (nn : Nat) (k : Int) (W1 : Nat → Int) (H : Heap) (locs : List Loc) (hP : va_P D.1 j_cl (mW D o q (uI (uV (uI (uI (uI (uV (uI (uI u 10 X_2) 11 Y_2) 12 n_2) 20 A_6) 21 B_6) 22 S_6) 23 n_6) 26 W1)) H) (hS : va_S A st.heap H locs) (ls : Array Slot) (hl : lv_has ls 7 [(0, .ref o), (1, .int (J s)), (2, .int (J k))]) (i11_0 : 0 ≤ k ∧ k ≤ 4096) (i11_1 : ∀ j : Nat, (j : Int) < k → W1 j = -9), ((4096 : Int) - k).toNat < nn → W pr l en (headSpec (jw yX12_findCuts cX12_findCuts 7 none) (jr 4 98)).room st mi (([.ref o, .int (J s)] : List Value).toArray) below meth co H locs 0 0 (MQ below (jWv (fun u' => ∃ X : Nat → Int, ∃ Y : Nat → Int, ∃ n : Int, ∃ A : Nat → Int, ∃ B : Nat → Int, ∃ S : Nat → Int, ∃ m : Int, ∃ C : Nat → Int64, ∃ F : Nat → Int, ∃ W : Nat → Int, ∃ c : Int, ∃ t : Int, u' = (uV (uV (uI (uI (uL (uV (uI (uI (uI (uV (uI (uI u 10 X) 11 Y) 12 n) 20 A) 21 B) 22 S) 23 m) 24 C) 25 F) 26 W) 27 c) 28 t) ∧ (CU u' ∧ (1 ≤ c ∧ c ≤ 1500) ∧ (t = 0 ∨ t = 1) ∧ (0 ≤ m ∧ m ≤ 66) ∧ IM u')) (fun u' H => va_P D.1 j_cl (mW D o q u') H) A) (([.ref o, .int (J s)] : List Value).toArray) st 0 0 A) (F0 mi 11 ls []) := by
    intro nn
    induction nn with
    | zero => intros; omega
    | succ nn ih_11 =>
      intro k W1 H locs hP hS ls hl i11_0 i11_1 hm
      refine lv_iload_n SS.1 SS.2.1 dX12_findCuts_11 rfl (lv_at hl 2 rfl) ?_
      refine j_sipush SS dX12_findCuts_12 (by decide +kernel) ?_
      refine j_icmp_ge SS (tgt := 32) (x := k) (y := 4096) dX12_findCuts_15 (by decide) (by omega) (by decide) (fun c_15 => ?_) (fun c_15 => ?_)
      · skip
        refine lv_aload_n SS.1 SS.2.1 dX12_findCuts_32 rfl (lv_at hl 0 rfl) ?_
        refine j_iconst SS dX12_findCuts_33 ?_
        refine j_put SS hG hP (mW_D hD) hS 0 (v := .int (J 0)) (ty := .boolean) (C := RX12) (T := TX12) (N := 31) rfl rfl inX12 tyX12 tyX12_ok nmX12 28 (by decide) (ref := RX12) kw_1086 rfl rfl (by decide +kernel) (j_nz (by omega)) rfl (Nat.le_of_ble_eq_true rfl) dX12_findCuts_34 (ws' := (mW D o q (uV (uI (uV (uI (uI (uI (uV (uI (uI u 10 X_2) 11 Y_2) 12 n_2) 20 A_6) 21 B_6) 22 S_6) 23 n_6) 26 W1) 28 0))) rfl (fun H locs hP hS => ?_)
        refine lv_aload_n SS.1 SS.2.1 dX12_findCuts_37 rfl (lv_at hl 0 rfl) ?_
        refine j_iconst SS dX12_findCuts_38 ?_
        refine j_put SS hG hP (mW_D hD) hS 0 (v := .int (J 1)) (ty := .int) (C := RX12) (T := TX12) (N := 31) rfl rfl inX12 tyX12 tyX12_ok nmX12 27 (by decide) (ref := RX12) kw_1085 rfl rfl (by decide +kernel) rfl rfl (Nat.le_of_ble_eq_true rfl) dX12_findCuts_39 (ws' := (mW D o q (uV (uV (uI (uV (uI (uI (uI (uV (uI (uI u 10 X_2) 11 Y_2) 12 n_2) 20 A_6) 21 B_6) 22 S_6) 23 n_6) 26 W1) 27 1) 28 0))) rfl (fun H locs hP hS => ?_)
        refine lv_aload_n SS.1 SS.2.1 dX12_findCuts_42 rfl (lv_at hl 0 rfl) ?_
        refine j_get SS hG hP 0 (v := .ref (q 24)) (C := RX12) (T := TX12) (N := 31) rfl rfl inX12 24 (by decide) (ref := RX12) kw_1082 rfl rfl dX12_findCuts_43 ?_
        refine j_iconst SS dX12_findCuts_46 ?_
        refine lv_aload_n SS.1 SS.2.1 dX12_findCuts_47 rfl (lv_at hl 0 rfl) ?_
        refine j_vRl SS (As := []) (rest := [.int (J 0), .ref (q 24)]) (c_X12_firstCut l D o q (uV (uV (uI (uV (uI (uI (uI (uV (uI (uI u 10 X_2) 11 Y_2) 12 n_2) 20 A_6) 21 B_6) 22 S_6) 23 n_6) 26 W1) 27 1) 28 0)  (show CU (uV (uV (uI (uV (uI (uI (uI (uV (uI (uI u 10 X_2) 11 Y_2) 12 n_2) 20 A_6) 21 B_6) 22 S_6) 23 n_6) 26 W1) 27 1) 28 0) from (hcu))) mf_X12_firstCut kw_1416 hG hP hP (ci := 8) (q0 := 0) rfl rfl rfl rfl hl.1 ⟨⟨Nat.le_of_ble_eq_true rfl, Nat.le_of_ble_eq_true rfl⟩, Nat.le_of_ble_eq_true rfl, Nat.le_refl _, Nat.le_refl _⟩ rfl dX12_findCuts_48 (fun x_48 h_48 => ?_)
        refine j_last SS hG hP (mW_D hD) hS 20 (n := 1501) (f := (u.2.1 24)) rfl (z := 0) (v := x_48) (by omega) (by omega) dX12_findCuts_51 (ws' := (mW D o q (uV (uV (uI (uL (uV (uI (uI (uI (uV (uI (uI u 10 X_2) 11 Y_2) 12 n_2) 20 A_6) 21 B_6) 22 S_6) 23 n_6) 24 (vp_updL (u.2.1 24) (0 : Int).toNat x_48)) 26 W1) 27 1) 28 0))) rfl (fun H locs hP hS => ?_)
        refine lv_aload_n SS.1 SS.2.1 dX12_findCuts_52 rfl (lv_at hl 0 rfl) ?_
        refine j_get SS hG hP 0 (v := .ref (q 25)) (C := RX12) (T := TX12) (N := 31) rfl rfl inX12 25 (by decide) (ref := RX12) kw_1083 rfl rfl dX12_findCuts_53 ?_
        refine j_iconst SS dX12_findCuts_56 ?_
        refine j_iconst SS dX12_findCuts_57 ?_
        refine j_iast SS hG hP (mW_D hD) hS 21 (n := 1501) (f := (u.1 25)) rfl (z := 0) (v := 0) (by omega) (by omega) dX12_findCuts_58 (ws' := (mW D o q (uV (uV (uI (uI (uL (uV (uI (uI (uI (uV (uI (uI u 10 X_2) 11 Y_2) 12 n_2) 20 A_6) 21 B_6) 22 S_6) 23 n_6) 24 (vp_updL (u.2.1 24) (0 : Int).toNat x_48)) 25 (upI (u.1 25) (0 : Int).toNat 0)) 26 W1) 27 1) 28 0))) rfl (fun H locs hP hS => ?_)
        refine lv_aload_n SS.1 SS.2.1 dX12_findCuts_59 rfl (lv_at hl 0 rfl) ?_
        refine j_get SS hG hP 0 (v := .ref (q 26)) (C := RX12) (T := TX12) (N := 31) rfl rfl inX12 26 (by decide) (ref := RX12) kw_1084 rfl rfl dX12_findCuts_60 ?_
        refine lv_aload_n SS.1 SS.2.1 dX12_findCuts_63 rfl (lv_at hl 0 rfl) ?_
        refine lv_aload_n SS.1 SS.2.1 dX12_findCuts_64 rfl (lv_at hl 0 rfl) ?_
        refine j_get SS hG hP 0 (v := .ref (q 24)) (C := RX12) (T := TX12) (N := 31) rfl rfl inX12 24 (by decide) (ref := RX12) kw_1082 rfl rfl dX12_findCuts_65 ?_
        refine j_iconst SS dX12_findCuts_68 ?_
        refine j_lald SS hG hP 20 (n := 1501) (f := (vp_updL (u.2.1 24) (0 : Int).toNat x_48)) rfl (z := 0) (by omega) (by omega) dX12_findCuts_69 ?_
        refine j_vRi SS (As := [.long ((vp_updL (u.2.1 24) (0 : Int).toNat x_48) (0 : Int).toNat)]) (rest := [.ref (q 26)]) (c_X12_slotOf l D o q (uV (uV (uI (uI (uL (uV (uI (uI (uI (uV (uI (uI u 10 X_2) 11 Y_2) 12 n_2) 20 A_6) 21 B_6) 22 S_6) 23 n_6) 24 (vp_updL (u.2.1 24) (0 : Int).toNat x_48)) 25 (upI (u.1 25) (0 : Int).toNat 0)) 26 W1) 27 1) 28 0) ((vp_updL (u.2.1 24) (0 : Int).toNat x_48) (0 : Int).toNat) (show sl (W1) (1) from (sl_0 (fun j hj => i11_1 j (by omega)))) (show 0 ≤ 1 ∧ 1 ≤ 1500 from (by omega))) mf_X12_slotOf kw_1442 hG hP hP (ci := 8) (q0 := 0) rfl rfl rfl rfl hl.1 ⟨⟨Nat.le_of_ble_eq_true rfl, Nat.le_of_ble_eq_true rfl⟩, Nat.le_of_ble_eq_true rfl, Nat.le_refl _, Nat.le_refl _⟩ rfl dX12_findCuts_70 (fun z_70 h_70 => ?_)
        have h_70 : 0 ≤ z_70 ∧ z_70 < 4096 := h_70
        refine j_iconst SS dX12_findCuts_73 ?_
        refine j_iast SS hG hP (mW_D hD) hS 22 (n := 4096) (f := W1) rfl (z := z_70) (v := 0) (by omega) (by omega) dX12_findCuts_74 (ws' := (mW D o q (uV (uV (uI (uI (uL (uV (uI (uI (uI (uV (uI (uI u 10 X_2) 11 Y_2) 12 n_2) 20 A_6) 21 B_6) 22 S_6) 23 n_6) 24 (vp_updL (u.2.1 24) (0 : Int).toNat x_48)) 25 (upI (u.1 25) (0 : Int).toNat 0)) 26 (upI W1 (z_70).toNat 0)) 27 1) 28 0))) rfl (fun H locs hP hS => ?_)
        refine j_iconst SS dX12_findCuts_75 ?_
        refine lv_istore_n (lv' := [(2, .int (J 0)), (0, .ref o), (1, .int (J s))]) SS.1 SS.2.1 dX12_findCuts_76 rfl hl (by decide) rfl (fun ls hl => ?_)
        have L_77 : ∀ (nn : Nat) (i : Int) (C1 : Nat → Int64) (F1 : Nat → Int) (W2 : Nat → Int) (c1 : Int) (t1 : Int) (H : Heap) (locs : List Loc) (hP : va_P D.1 j_cl (mW D o q (uV (uV (uI (uI (uL (uV (uI (uI (uI (uV (uI (uI u 10 X_2) 11 Y_2) 12 n_2) 20 A_6) 21 B_6) 22 S_6) 23 n_6) 24 C1) 25 F1) 26 W2) 27 c1) 28 t1)) H) (hS : va_S A st.heap H locs) (ls : Array Slot) (hl : lv_has ls 7 [(0, .ref o), (1, .int (J s)), (2, .int (J i))]) (i77_0 : (0 ≤ i ∧ i ≤ c1) ∧ (1 ≤ c1 ∧ c1 ≤ 1500) ∧ (t1 = 0 ∨ t1 = 1)) (i77_1 : sl W2 c1), ((1501 : Int) - i).toNat < nn → W pr l en (headSpec (jw yX12_findCuts cX12_findCuts 7 none) (jr 4 98)).room st mi (([.ref o, .int (J s)] : List Value).toArray) below meth co H locs 0 0 (MQ below (jWv (fun u' => ∃ X : Nat → Int, ∃ Y : Nat → Int, ∃ n : Int, ∃ A : Nat → Int, ∃ B : Nat → Int, ∃ S : Nat → Int, ∃ m : Int, ∃ C : Nat → Int64, ∃ F : Nat → Int, ∃ W : Nat → Int, ∃ c : Int, ∃ t : Int, u' = (uV (uV (uI (uI (uL (uV (uI (uI (uI (uV (uI (uI u 10 X) 11 Y) 12 n) 20 A) 21 B) 22 S) 23 m) 24 C) 25 F) 26 W) 27 c) 28 t) ∧ (CU u' ∧ (1 ≤ c ∧ c ≤ 1500) ∧ (t = 0 ∨ t = 1) ∧ (0 ≤ m ∧ m ≤ 66) ∧ IM u')) (fun u' H => va_P D.1 j_cl (mW D o q u') H) A) (([.ref o, .int (J s)] : List Value).toArray) st 0 0 A) (F0 mi 77 ls []) := by
          intro nn
          induction nn with
          | zero => intros; omega
          | succ nn ih_77 =>
            intro i C1 F1 W2 c1 t1 H locs hP hS ls hl i77_0 i77_1 hm
            refine lv_iload_n SS.1 SS.2.1 dX12_findCuts_77 rfl (lv_at hl 2 rfl) ?_
            refine lv_aload_n SS.1 SS.2.1 dX12_findCuts_78 rfl (lv_at hl 0 rfl) ?_
            refine j_get SS hG hP 0 (v := .int (J c1)) (C := RX12) (T := TX12) (N := 31) rfl rfl inX12 27 (by decide) (ref := RX12) kw_1085 rfl rfl dX12_findCuts_79 ?_
            refine j_icmp_ge SS (tgt := 248) (x := i) (y := c1) dX12_findCuts_82 (by decide) (by omega) (by omega) (fun c_82 => ?_) (fun c_82 => ?_)
            · skip
              exact W.vret SS.1 SS.2.1 hr (fun t ht hW => ⟨⟨(uV (uV (uI (uI (uL (uV (uI (uI (uI (uV (uI (uI u 10 X_2) 11 Y_2) 12 n_2) 20 A_6) 21 B_6) 22 S_6) 23 n_6) 24 C1) 25 F1) 26 W2) 27 c1) 28 t1), rfl, (⟨X_2, Y_2, n_2, A_6, B_6, S_6, n_6, C1, F1, W2, c1, t1, rfl, ⟨hcu, by omega, by omega, by omega, p0.1, p0.2.1, hIM⟩⟩), by show va_P D.1 j_cl (mW D o q (uV (uV (uI (uI (uL (uV (uI (uI (uI (uV (uI (uI u 10 X_2) 11 Y_2) 12 n_2) 20 A_6) 21 B_6) 22 S_6) 23 n_6) 24 C1) 25 F1) 26 W2) 27 c1) 28 t1)) t.heap; rw [ht]; exact hP⟩, hS.F ht⟩) hS.2.2 dX12_findCuts_248 hlk
            · skip
              refine lv_aload_n SS.1 SS.2.1 dX12_findCuts_85 rfl (lv_at hl 0 rfl) ?_
              refine j_get SS hG hP 0 (v := .int (J t1)) (C := RX12) (T := TX12) (N := 31) rfl rfl inX12 28 (by decide) (ref := RX12) kw_1086 rfl rfl dX12_findCuts_86 ?_
              refine j_if_ne SS (tgt := 248) (x := t1) dX12_findCuts_89 (by decide) (by omega) (fun c_89 => ?_) (fun c_89 => ?_)
              · skip
                exact W.vret SS.1 SS.2.1 hr (fun t ht hW => ⟨⟨(uV (uV (uI (uI (uL (uV (uI (uI (uI (uV (uI (uI u 10 X_2) 11 Y_2) 12 n_2) 20 A_6) 21 B_6) 22 S_6) 23 n_6) 24 C1) 25 F1) 26 W2) 27 c1) 28 t1), rfl, (⟨X_2, Y_2, n_2, A_6, B_6, S_6, n_6, C1, F1, W2, c1, t1, rfl, ⟨hcu, by omega, by omega, by omega, p0.1, p0.2.1, hIM⟩⟩), by show va_P D.1 j_cl (mW D o q (uV (uV (uI (uI (uL (uV (uI (uI (uI (uV (uI (uI u 10 X_2) 11 Y_2) 12 n_2) 20 A_6) 21 B_6) 22 S_6) 23 n_6) 24 C1) 25 F1) 26 W2) 27 c1) 28 t1)) t.heap; rw [ht]; exact hP⟩, hS.F ht⟩) hS.2.2 dX12_findCuts_248 hlk
              · skip
                refine j_iconst SS dX12_findCuts_92 ?_
                refine lv_istore_n (lv' := [(3, .int (J 0)), (0, .ref o), (1, .int (J s)), (2, .int (J i))]) SS.1 SS.2.1 dX12_findCuts_93 rfl hl (by decide) rfl (fun ls hl => ?_)
                have L_94 : ∀ (nn : Nat) (k2 : Int) (C2 : Nat → Int64) (F2 : Nat → Int) (W3 : Nat → Int) (c2 : Int) (t2 : Int) (H : Heap) (locs : List Loc) (hP : va_P D.1 j_cl (mW D o q (uV (uV (uI (uI (uL (uV (uI (uI (uI (uV (uI (uI u 10 X_2) 11 Y_2) 12 n_2) 20 A_6) 21 B_6) 22 S_6) 23 n_6) 24 C2) 25 F2) 26 W3) 27 c2) 28 t2)) H) (hS : va_S A st.heap H locs) (ls : Array Slot) (hl : lv_has ls 7 [(0, .ref o), (1, .int (J s)), (2, .int (J i)), (3, .int (J k2))]) (i94_0 : 0 ≤ k2 ∧ k2 ≤ n_6) (i94_1 : i < c2 ∧ (1 ≤ c2 ∧ c2 ≤ 1500) ∧ (t2 = 0 ∨ t2 = 1)) (i94_2 : sl W3 c2), (n_6 - k2).toNat < nn → W pr l en (headSpec (jw yX12_findCuts cX12_findCuts 7 none) (jr 4 98)).room st mi (([.ref o, .int (J s)] : List Value).toArray) below meth co H locs 0 0 (MQ below (jWv (fun u' => ∃ X : Nat → Int, ∃ Y : Nat → Int, ∃ n : Int, ∃ A : Nat → Int, ∃ B : Nat → Int, ∃ S : Nat → Int, ∃ m : Int, ∃ C : Nat → Int64, ∃ F : Nat → Int, ∃ W : Nat → Int, ∃ c : Int, ∃ t : Int, u' = (uV (uV (uI (uI (uL (uV (uI (uI (uI (uV (uI (uI u 10 X) 11 Y) 12 n) 20 A) 21 B) 22 S) 23 m) 24 C) 25 F) 26 W) 27 c) 28 t) ∧ (CU u' ∧ (1 ≤ c ∧ c ≤ 1500) ∧ (t = 0 ∨ t = 1) ∧ (0 ≤ m ∧ m ≤ 66) ∧ IM u')) (fun u' H => va_P D.1 j_cl (mW D o q u') H) A) (([.ref o, .int (J s)] : List Value).toArray) st 0 0 A) (F0 mi 94 ls []) := by
                  intro nn
                  induction nn with
                  | zero => intros; omega
                  | succ nn ih_94 =>
                    intro k2 C2 F2 W3 c2 t2 H locs hP hS ls hl i94_0 i94_1 i94_2 hm
                    refine lv_iload_n SS.1 SS.2.1 dX12_findCuts_94 rfl (lv_at hl 3 rfl) ?_
                    refine lv_aload_n SS.1 SS.2.1 dX12_findCuts_95 rfl (lv_at hl 0 rfl) ?_
                    refine j_get SS hG hP 0 (v := .int (J n_6)) (C := RX12) (T := TX12) (N := 31) rfl rfl inX12 23 (by decide) (ref := RX12) kw_1081 rfl rfl dX12_findCuts_96 ?_
                    refine j_icmp_ge SS (tgt := 242) (x := k2) (y := n_6) dX12_findCuts_99 (by decide) (by omega) (by omega) (fun c_99 => ?_) (fun c_99 => ?_)
                    · skip
                      refine lv_iinc (v := J (i + 1)) (lv' := [(2, .int (J (i + 1))), (0, .ref o), (1, .int (J s)), (3, .int (J k2))]) SS.1 SS.2.1 dX12_findCuts_242 hl (k := 2) rfl (J_add _ _) (by decide) rfl (fun ls hl => ?_)
                      refine lv_goto (tgt := 77) SS.1 SS.2.1 dX12_findCuts_245 (by decide) ?_
                      exact ih_77 (i + 1) C2 F2 W3 c2 t2 _ _ hP hS ls (lv_sub hl [1, 2, 0] rfl) (by omega) (i94_2) (by omega)
                    · skip
                      refine lv_aload_n SS.1 SS.2.1 dX12_findCuts_102 rfl (lv_at hl 0 rfl) ?_
                      refine j_get SS hG hP 0 (v := .int (J t2)) (C := RX12) (T := TX12) (N := 31) rfl rfl inX12 28 (by decide) (ref := RX12) kw_1086 rfl rfl dX12_findCuts_103 ?_
                      refine j_if_ne SS (tgt := 242) (x := t2) dX12_findCuts_106 (by decide) (by omega) (fun c_106 => ?_) (fun c_106 => ?_)
                      · skip
                        refine lv_iinc (v := J (i + 1)) (lv' := [(2, .int (J (i + 1))), (0, .ref o), (1, .int (J s)), (3, .int (J k2))]) SS.1 SS.2.1 dX12_findCuts_242 hl (k := 2) rfl (J_add _ _) (by decide) rfl (fun ls hl => ?_)
                        refine lv_goto (tgt := 77) SS.1 SS.2.1 dX12_findCuts_245 (by decide) ?_
                        exact ih_77 (i + 1) C2 F2 W3 c2 t2 _ _ hP hS ls (lv_sub hl [1, 2, 0] rfl) (by omega) (i94_2) (by omega)
                      · skip
                        refine lv_aload_n SS.1 SS.2.1 dX12_findCuts_109 rfl (lv_at hl 0 rfl) ?_
                        refine lv_aload_n SS.1 SS.2.1 dX12_findCuts_110 rfl (lv_at hl 0 rfl) ?_
                        refine j_get SS hG hP 0 (v := .ref (q 24)) (C := RX12) (T := TX12) (N := 31) rfl rfl inX12 24 (by decide) (ref := RX12) kw_1082 rfl rfl dX12_findCuts_111 ?_
                        refine lv_iload_n SS.1 SS.2.1 dX12_findCuts_114 rfl (lv_at hl 2 rfl) ?_
                        refine j_lald SS hG hP 20 (n := 1501) (f := C2) rfl (z := i) (by omega) (by omega) dX12_findCuts_115 ?_
                        refine lv_iload_n SS.1 SS.2.1 dX12_findCuts_116 rfl (lv_at hl 3 rfl) ?_
                        refine j_vRl SS (As := [.long (C2 (i).toNat), .int (J k2)]) (rest := []) (c_X12_flipped l D o q (uV (uV (uI (uI (uL (uV (uI (uI (uI (uV (uI (uI u 10 X_2) 11 Y_2) 12 n_2) 20 A_6) 21 B_6) 22 S_6) 23 n_6) 24 C2) 25 F2) 26 W3) 27 c2) 28 t2) (C2 (i).toNat) k2 (show CU (uV (uV (uI (uI (uL (uV (uI (uI (uI (uV (uI (uI u 10 X_2) 11 Y_2) 12 n_2) 20 A_6) 21 B_6) 22 S_6) 23 n_6) 24 C2) 25 F2) 26 W3) 27 c2) 28 t2) from (hcu)) (show 0 ≤ k2 ∧ k2 < n_6 from (by omega))) mf_X12_flipped kw_1447 hG hP hP (ci := 8) (q0 := 0) rfl rfl rfl rfl hl.1 ⟨⟨Nat.le_of_ble_eq_true rfl, Nat.le_of_ble_eq_true rfl⟩, Nat.le_of_ble_eq_true rfl, Nat.le_refl _, Nat.le_refl _⟩ rfl dX12_findCuts_117 (fun x_117 h_117 => ?_)
                        refine lv_lstore (lv' := [(4, .long x_117), (0, .ref o), (1, .int (J s)), (2, .int (J i)), (3, .int (J k2))]) SS.1 SS.2.1 dX12_findCuts_120 hl (by decide) rfl (fun ls hl => ?_)
                        refine lv_lload SS.1 SS.2.1 dX12_findCuts_122 (lv_at hl 0 rfl) ?_
                        refine lv_lconst (v := 0) SS.1 SS.2.1 dX12_findCuts_124 (by decide +kernel) ?_
                        refine j_lcmp SS dX12_findCuts_125 (fun z_125 hz_125 => ?_)
                        refine j_if_ne SS (tgt := 134) (x := z_125) dX12_findCuts_126 (by decide) (by omega) (fun c_126 => ?_) (fun c_126 => ?_)
                        · skip
                          refine lv_aload_n SS.1 SS.2.1 dX12_findCuts_134 rfl (lv_at hl 1 rfl) ?_
                          refine lv_lload SS.1 SS.2.1 dX12_findCuts_135 (lv_at hl 0 rfl) ?_
                          refine j_vRi SS (As := [.long x_117]) (rest := []) (c_X12_slotOf l D o q (uV (uV (uI (uI (uL (uV (uI (uI (uI (uV (uI (uI u 10 X_2) 11 Y_2) 12 n_2) 20 A_6) 21 B_6) 22 S_6) 23 n_6) 24 C2) 25 F2) 26 W3) 27 c2) 28 t2) x_117 (show sl (W3) (c2) from (i94_2)) (show 0 ≤ c2 ∧ c2 ≤ 1500 from (by omega))) mf_X12_slotOf kw_1442 hG hP hP (ci := 8) (q0 := 0) rfl rfl rfl rfl hl.1 ⟨⟨Nat.le_of_ble_eq_true rfl, Nat.le_of_ble_eq_true rfl⟩, Nat.le_of_ble_eq_true rfl, Nat.le_refl _, Nat.le_refl _⟩ rfl dX12_findCuts_137 (fun z_137 h_137 => ?_)
                          have h_137 : 0 ≤ z_137 ∧ z_137 < 4096 := h_137
                          refine lv_istore (lv' := [(6, .int (J z_137)), (4, .long x_117), (0, .ref o), (1, .int (J s)), (2, .int (J i)), (3, .int (J k2))]) SS.1 SS.2.1 dX12_findCuts_140 hl (by decide) rfl (fun ls hl => ?_)
                          refine lv_iload SS.1 SS.2.1 dX12_findCuts_142 (lv_at hl 0 rfl) ?_
                          refine j_bipush SS dX12_findCuts_144 (by decide +kernel) ?_
                          refine j_icmp_eq SS (tgt := 236) (x := z_137) (y := (-9)) dX12_findCuts_146 (by decide) (by omega) (by decide) (fun c_146 => ?_) (fun c_146 => ?_)
                          · skip
                            refine lv_iinc (v := J (k2 + 1)) (lv' := [(3, .int (J (k2 + 1))), (6, .int (J z_137)), (4, .long x_117), (0, .ref o), (1, .int (J s)), (2, .int (J i))]) SS.1 SS.2.1 dX12_findCuts_236 hl (k := 5) rfl (J_add _ _) (by decide) rfl (fun ls hl => ?_)
                            refine lv_goto (tgt := 94) SS.1 SS.2.1 dX12_findCuts_239 (by decide) ?_
                            exact ih_94 (k2 + 1) C2 F2 W3 c2 t2 _ _ hP hS ls (lv_sub hl [3, 4, 5, 0] rfl) (by omega) (by omega) (by first | exact i94_2 | exact sl_put (by omega) h_137 i94_2 (by omega) | (exfalso; omega)) (by omega)
                          · skip
                            refine lv_aload_n SS.1 SS.2.1 dX12_findCuts_149 rfl (lv_at hl 2 rfl) ?_
                            refine j_get SS hG hP 0 (v := .ref (q 26)) (C := RX12) (T := TX12) (N := 31) rfl rfl inX12 26 (by decide) (ref := RX12) kw_1084 rfl rfl dX12_findCuts_150 ?_
                            refine lv_iload SS.1 SS.2.1 dX12_findCuts_153 (lv_at hl 0 rfl) ?_
                            refine j_iald SS hG hP 22 (n := 4096) (f := W3) rfl (z := z_137) (by omega) (by omega) dX12_findCuts_155 ?_
                            refine j_bipush SS dX12_findCuts_156 (by decide +kernel) ?_
                            try have hsl := i94_2.1 z_137.toNat (by omega)
                            refine j_icmp_ne SS (tgt := 236) (x := (W3 (z_137).toNat)) (y := (-9)) dX12_findCuts_158 (by decide) (by omega) (by decide) (fun c_158 => ?_) (fun c_158 => ?_)
                            · skip
                              refine lv_iinc (v := J (k2 + 1)) (lv' := [(3, .int (J (k2 + 1))), (6, .int (J z_137)), (4, .long x_117), (0, .ref o), (1, .int (J s)), (2, .int (J i))]) SS.1 SS.2.1 dX12_findCuts_236 hl (k := 5) rfl (J_add _ _) (by decide) rfl (fun ls hl => ?_)
                              refine lv_goto (tgt := 94) SS.1 SS.2.1 dX12_findCuts_239 (by decide) ?_
                              exact ih_94 (k2 + 1) C2 F2 W3 c2 t2 _ _ hP hS ls (lv_sub hl [3, 4, 5, 0] rfl) (by omega) (by omega) (by first | exact i94_2 | exact sl_put (by omega) h_137 i94_2 (by omega) | (exfalso; omega)) (by omega)
                            · skip
                              refine lv_aload_n SS.1 SS.2.1 dX12_findCuts_161 rfl (lv_at hl 2 rfl) ?_
                              refine lv_aload_n SS.1 SS.2.1 dX12_findCuts_162 rfl (lv_at hl 2 rfl) ?_
                              refine j_get SS hG hP 0 (v := .int (J c2)) (C := RX12) (T := TX12) (N := 31) rfl rfl inX12 27 (by decide) (ref := RX12) kw_1085 rfl rfl dX12_findCuts_163 ?_
                              refine j_sipush SS dX12_findCuts_166 (by decide +kernel) ?_
                              refine j_icmp_ne SS (tgt := 176) (x := c2) (y := 1500) dX12_findCuts_169 (by decide) (by omega) (by decide) (fun c_169 => ?_) (fun c_169 => ?_)
                              · skip
                                refine j_iconst SS dX12_findCuts_176 ?_
                                refine j_put SS hG hP (mW_D hD) hS 0 (v := .int (J 0)) (ty := .boolean) (C := RX12) (T := TX12) (N := 31) rfl rfl inX12 tyX12 tyX12_ok nmX12 28 (by decide) (ref := RX12) kw_1086 rfl rfl (by decide +kernel) (j_nz (by omega)) rfl (Nat.le_of_ble_eq_true rfl) dX12_findCuts_177 (ws' := (mW D o q (uV (uV (uI (uI (uL (uV (uI (uI (uI (uV (uI (uI u 10 X_2) 11 Y_2) 12 n_2) 20 A_6) 21 B_6) 22 S_6) 23 n_6) 24 C2) 25 F2) 26 W3) 27 c2) 28 0))) rfl (fun H locs hP hS => ?_)
                                refine lv_aload_n SS.1 SS.2.1 dX12_findCuts_180 rfl (lv_at hl 2 rfl) ?_
                                refine j_get SS hG hP 0 (v := .int (J 0)) (C := RX12) (T := TX12) (N := 31) rfl rfl inX12 28 (by decide) (ref := RX12) kw_1086 rfl rfl dX12_findCuts_181 ?_
                                refine j_if_ne SS (tgt := 236) dX12_findCuts_184 (by decide) (by decide) (fun c_184 => absurd c_184 (by decide)) (fun c_184 => ?_)
                                refine lv_aload_n SS.1 SS.2.1 dX12_findCuts_187 rfl (lv_at hl 2 rfl) ?_
                                refine j_get SS hG hP 0 (v := .ref (q 26)) (C := RX12) (T := TX12) (N := 31) rfl rfl inX12 26 (by decide) (ref := RX12) kw_1084 rfl rfl dX12_findCuts_188 ?_
                                refine lv_iload SS.1 SS.2.1 dX12_findCuts_191 (lv_at hl 0 rfl) ?_
                                refine lv_aload_n SS.1 SS.2.1 dX12_findCuts_193 rfl (lv_at hl 2 rfl) ?_
                                refine j_get SS hG hP 0 (v := .int (J c2)) (C := RX12) (T := TX12) (N := 31) rfl rfl inX12 27 (by decide) (ref := RX12) kw_1085 rfl rfl dX12_findCuts_194 ?_
                                refine j_iast SS hG hP (mW_D hD) hS 22 (n := 4096) (f := W3) rfl (z := z_137) (v := c2) (by omega) (by omega) dX12_findCuts_197 (ws' := (mW D o q (uV (uV (uI (uI (uL (uV (uI (uI (uI (uV (uI (uI u 10 X_2) 11 Y_2) 12 n_2) 20 A_6) 21 B_6) 22 S_6) 23 n_6) 24 C2) 25 F2) 26 (upI W3 (z_137).toNat c2)) 27 c2) 28 0))) rfl (fun H locs hP hS => ?_)
                                refine lv_aload_n SS.1 SS.2.1 dX12_findCuts_198 rfl (lv_at hl 2 rfl) ?_
                                refine j_get SS hG hP 0 (v := .ref (q 24)) (C := RX12) (T := TX12) (N := 31) rfl rfl inX12 24 (by decide) (ref := RX12) kw_1082 rfl rfl dX12_findCuts_199 ?_
                                refine lv_aload_n SS.1 SS.2.1 dX12_findCuts_202 rfl (lv_at hl 2 rfl) ?_
                                refine j_get SS hG hP 0 (v := .int (J c2)) (C := RX12) (T := TX12) (N := 31) rfl rfl inX12 27 (by decide) (ref := RX12) kw_1085 rfl rfl dX12_findCuts_203 ?_
                                refine lv_lload SS.1 SS.2.1 dX12_findCuts_206 (lv_at hl 1 rfl) ?_
                                refine j_last SS hG hP (mW_D hD) hS 20 (n := 1501) (f := C2) rfl (z := c2) (v := x_117) (by omega) (by omega) dX12_findCuts_208 (ws' := (mW D o q (uV (uV (uI (uI (uL (uV (uI (uI (uI (uV (uI (uI u 10 X_2) 11 Y_2) 12 n_2) 20 A_6) 21 B_6) 22 S_6) 23 n_6) 24 (vp_updL C2 (c2).toNat x_117)) 25 F2) 26 (upI W3 (z_137).toNat c2)) 27 c2) 28 0))) rfl (fun H locs hP hS => ?_)
                                refine lv_aload_n SS.1 SS.2.1 dX12_findCuts_209 rfl (lv_at hl 2 rfl) ?_
                                refine j_get SS hG hP 0 (v := .ref (q 25)) (C := RX12) (T := TX12) (N := 31) rfl rfl inX12 25 (by decide) (ref := RX12) kw_1083 rfl rfl dX12_findCuts_210 ?_
                                refine lv_aload_n SS.1 SS.2.1 dX12_findCuts_213 rfl (lv_at hl 2 rfl) ?_
                                refine j_get SS hG hP 0 (v := .int (J c2)) (C := RX12) (T := TX12) (N := 31) rfl rfl inX12 27 (by decide) (ref := RX12) kw_1085 rfl rfl dX12_findCuts_214 ?_
                                refine lv_aload_n SS.1 SS.2.1 dX12_findCuts_217 rfl (lv_at hl 2 rfl) ?_
                                refine j_get SS hG hP 0 (v := .ref (q 25)) (C := RX12) (T := TX12) (N := 31) rfl rfl inX12 25 (by decide) (ref := RX12) kw_1083 rfl rfl dX12_findCuts_218 ?_
                                refine lv_iload_n SS.1 SS.2.1 dX12_findCuts_221 rfl (lv_at hl 4 rfl) ?_
                                refine j_iald SS hG hP 21 (n := 1501) (f := F2) rfl (z := i) (by omega) (by omega) dX12_findCuts_222 ?_
                                refine j_iconst SS dX12_findCuts_223 ?_
                                refine j_iadd SS (x := (F2 (i).toNat)) (y := 1) dX12_findCuts_224 ?_
                                refine j_iast SS hG hP (mW_D hD) hS 21 (n := 1501) (f := F2) rfl (z := c2) (v := ((F2 (i).toNat) + 1)) (by omega) (by omega) dX12_findCuts_225 (ws' := (mW D o q (uV (uV (uI (uI (uL (uV (uI (uI (uI (uV (uI (uI u 10 X_2) 11 Y_2) 12 n_2) 20 A_6) 21 B_6) 22 S_6) 23 n_6) 24 (vp_updL C2 (c2).toNat x_117)) 25 (upI F2 (c2).toNat ((F2 (i).toNat) + 1))) 26 (upI W3 (z_137).toNat c2)) 27 c2) 28 0))) rfl (fun H locs hP hS => ?_)
                                refine lv_aload_n SS.1 SS.2.1 dX12_findCuts_226 rfl (lv_at hl 2 rfl) ?_
                                refine lv_dup SS.1 SS.2.1 dX12_findCuts_227 rfl ?_
                                refine j_get SS hG hP 0 (v := .int (J c2)) (C := RX12) (T := TX12) (N := 31) rfl rfl inX12 27 (by decide) (ref := RX12) kw_1085 rfl rfl dX12_findCuts_228 ?_
                                refine j_iconst SS dX12_findCuts_231 ?_
                                refine j_iadd SS (x := c2) (y := 1) dX12_findCuts_232 ?_
                                refine j_put SS hG hP (mW_D hD) hS 0 (v := .int (J (c2 + 1))) (ty := .int) (C := RX12) (T := TX12) (N := 31) rfl rfl inX12 tyX12 tyX12_ok nmX12 27 (by decide) (ref := RX12) kw_1085 rfl rfl (by decide +kernel) rfl rfl (Nat.le_of_ble_eq_true rfl) dX12_findCuts_233 (ws' := (mW D o q (uV (uV (uI (uI (uL (uV (uI (uI (uI (uV (uI (uI u 10 X_2) 11 Y_2) 12 n_2) 20 A_6) 21 B_6) 22 S_6) 23 n_6) 24 (vp_updL C2 (c2).toNat x_117)) 25 (upI F2 (c2).toNat ((F2 (i).toNat) + 1))) 26 (upI W3 (z_137).toNat c2)) 27 (c2 + 1)) 28 0))) rfl (fun H locs hP hS => ?_)
                                refine lv_iinc (v := J (k2 + 1)) (lv' := [(3, .int (J (k2 + 1))), (6, .int (J z_137)), (4, .long x_117), (0, .ref o), (1, .int (J s)), (2, .int (J i))]) SS.1 SS.2.1 dX12_findCuts_236 hl (k := 5) rfl (J_add _ _) (by decide) rfl (fun ls hl => ?_)
                                refine lv_goto (tgt := 94) SS.1 SS.2.1 dX12_findCuts_239 (by decide) ?_
                                exact ih_94 (k2 + 1) (vp_updL C2 (c2).toNat x_117) (upI F2 (c2).toNat ((F2 (i).toNat) + 1)) (upI W3 (z_137).toNat c2) (c2 + 1) 0 _ _ hP hS ls (lv_sub hl [3, 4, 5, 0] rfl) (by omega) (by omega) (by first | exact i94_2 | exact sl_put (by omega) h_137 i94_2 (by omega) | (exfalso; omega)) (by omega)
                              · skip
                                refine j_iconst SS dX12_findCuts_172 ?_
                                refine lv_goto (tgt := 177) SS.1 SS.2.1 dX12_findCuts_173 (by decide) ?_
                                refine j_put SS hG hP (mW_D hD) hS 0 (v := .int (J 1)) (ty := .boolean) (C := RX12) (T := TX12) (N := 31) rfl rfl inX12 tyX12 tyX12_ok nmX12 28 (by decide) (ref := RX12) kw_1086 rfl rfl (by decide +kernel) (j_nz (by omega)) rfl (Nat.le_of_ble_eq_true rfl) dX12_findCuts_177 (ws' := (mW D o q (uV (uV (uI (uI (uL (uV (uI (uI (uI (uV (uI (uI u 10 X_2) 11 Y_2) 12 n_2) 20 A_6) 21 B_6) 22 S_6) 23 n_6) 24 C2) 25 F2) 26 W3) 27 c2) 28 1))) rfl (fun H locs hP hS => ?_)
                                refine lv_aload_n SS.1 SS.2.1 dX12_findCuts_180 rfl (lv_at hl 2 rfl) ?_
                                refine j_get SS hG hP 0 (v := .int (J 1)) (C := RX12) (T := TX12) (N := 31) rfl rfl inX12 28 (by decide) (ref := RX12) kw_1086 rfl rfl dX12_findCuts_181 ?_
                                refine j_if_ne SS (tgt := 236) dX12_findCuts_184 (by decide) (by decide) (fun c_184 => ?_) (fun c_184 => absurd c_184 (by decide))
                                refine lv_iinc (v := J (k2 + 1)) (lv' := [(3, .int (J (k2 + 1))), (6, .int (J z_137)), (4, .long x_117), (0, .ref o), (1, .int (J s)), (2, .int (J i))]) SS.1 SS.2.1 dX12_findCuts_236 hl (k := 5) rfl (J_add _ _) (by decide) rfl (fun ls hl => ?_)
                                refine lv_goto (tgt := 94) SS.1 SS.2.1 dX12_findCuts_239 (by decide) ?_
                                exact ih_94 (k2 + 1) C2 F2 W3 c2 1 _ _ hP hS ls (lv_sub hl [3, 4, 5, 0] rfl) (by omega) (by omega) (by first | exact i94_2 | exact sl_put (by omega) h_137 i94_2 (by omega) | (exfalso; omega)) (by omega)
                        · skip
                          refine j_bipush SS dX12_findCuts_129 (by decide +kernel) ?_
                          refine lv_goto (tgt := 140) SS.1 SS.2.1 dX12_findCuts_131 (by decide) ?_
                          refine lv_istore (lv' := [(6, .int (J (-9))), (4, .long x_117), (0, .ref o), (1, .int (J s)), (2, .int (J i)), (3, .int (J k2))]) SS.1 SS.2.1 dX12_findCuts_140 hl (by decide) rfl (fun ls hl => ?_)
                          refine lv_iload SS.1 SS.2.1 dX12_findCuts_142 (lv_at hl 0 rfl) ?_
                          refine j_bipush SS dX12_findCuts_144 (by decide +kernel) ?_
                          refine j_icmp_eq SS (tgt := 236) (x := (-9)) (y := (-9)) dX12_findCuts_146 (by decide) (by decide) (by decide) (fun c_146 => ?_) (fun c_146 => ?_)
                          · skip
                            refine lv_iinc (v := J (k2 + 1)) (lv' := [(3, .int (J (k2 + 1))), (6, .int (J (-9))), (4, .long x_117), (0, .ref o), (1, .int (J s)), (2, .int (J i))]) SS.1 SS.2.1 dX12_findCuts_236 hl (k := 5) rfl (J_add _ _) (by decide) rfl (fun ls hl => ?_)
                            refine lv_goto (tgt := 94) SS.1 SS.2.1 dX12_findCuts_239 (by decide) ?_
                            exact ih_94 (k2 + 1) C2 F2 W3 c2 t2 _ _ hP hS ls (lv_sub hl [3, 4, 5, 0] rfl) (by omega) (by omega) (by first | exact i94_2 | exact sl_put (by omega) h_137 i94_2 (by omega) | (exfalso; omega)) (by omega)
                          · skip
                            refine lv_aload_n SS.1 SS.2.1 dX12_findCuts_149 rfl (lv_at hl 2 rfl) ?_
                            refine j_get SS hG hP 0 (v := .ref (q 26)) (C := RX12) (T := TX12) (N := 31) rfl rfl inX12 26 (by decide) (ref := RX12) kw_1084 rfl rfl dX12_findCuts_150 ?_
                            refine lv_iload SS.1 SS.2.1 dX12_findCuts_153 (lv_at hl 0 rfl) ?_
                            refine j_iald SS hG hP 22 (n := 4096) (f := W3) rfl (z := (-9)) (by omega) (by omega) dX12_findCuts_155 ?_
                            refine j_bipush SS dX12_findCuts_156 (by decide +kernel) ?_
                            try have hsl := i94_2.1 z_137.toNat (by omega)
                            refine j_icmp_ne SS (tgt := 236) (x := (W3 ((-9) : Int).toNat)) (y := (-9)) dX12_findCuts_158 (by decide) (by omega) (by decide) (fun c_158 => ?_) (fun c_158 => ?_)
                            · skip
                              refine lv_iinc (v := J (k2 + 1)) (lv' := [(3, .int (J (k2 + 1))), (6, .int (J (-9))), (4, .long x_117), (0, .ref o), (1, .int (J s)), (2, .int (J i))]) SS.1 SS.2.1 dX12_findCuts_236 hl (k := 5) rfl (J_add _ _) (by decide) rfl (fun ls hl => ?_)
                              refine lv_goto (tgt := 94) SS.1 SS.2.1 dX12_findCuts_239 (by decide) ?_
                              exact ih_94 (k2 + 1) C2 F2 W3 c2 t2 _ _ hP hS ls (lv_sub hl [3, 4, 5, 0] rfl) (by omega) (by omega) (by first | exact i94_2 | exact sl_put (by omega) h_137 i94_2 (by omega) | (exfalso; omega)) (by omega)
                            · skip
                              refine lv_aload_n SS.1 SS.2.1 dX12_findCuts_161 rfl (lv_at hl 2 rfl) ?_
                              refine lv_aload_n SS.1 SS.2.1 dX12_findCuts_162 rfl (lv_at hl 2 rfl) ?_
                              refine j_get SS hG hP 0 (v := .int (J c2)) (C := RX12) (T := TX12) (N := 31) rfl rfl inX12 27 (by decide) (ref := RX12) kw_1085 rfl rfl dX12_findCuts_163 ?_
                              refine j_sipush SS dX12_findCuts_166 (by decide +kernel) ?_
                              refine j_icmp_ne SS (tgt := 176) (x := c2) (y := 1500) dX12_findCuts_169 (by decide) (by omega) (by decide) (fun c_169 => ?_) (fun c_169 => ?_)
                              · skip
                                refine j_iconst SS dX12_findCuts_176 ?_
                                refine j_put SS hG hP (mW_D hD) hS 0 (v := .int (J 0)) (ty := .boolean) (C := RX12) (T := TX12) (N := 31) rfl rfl inX12 tyX12 tyX12_ok nmX12 28 (by decide) (ref := RX12) kw_1086 rfl rfl (by decide +kernel) (j_nz (by omega)) rfl (Nat.le_of_ble_eq_true rfl) dX12_findCuts_177 (ws' := (mW D o q (uV (uV (uI (uI (uL (uV (uI (uI (uI (uV (uI (uI u 10 X_2) 11 Y_2) 12 n_2) 20 A_6) 21 B_6) 22 S_6) 23 n_6) 24 C2) 25 F2) 26 W3) 27 c2) 28 0))) rfl (fun H locs hP hS => ?_)
                                refine lv_aload_n SS.1 SS.2.1 dX12_findCuts_180 rfl (lv_at hl 2 rfl) ?_
                                refine j_get SS hG hP 0 (v := .int (J 0)) (C := RX12) (T := TX12) (N := 31) rfl rfl inX12 28 (by decide) (ref := RX12) kw_1086 rfl rfl dX12_findCuts_181 ?_
                                refine j_if_ne SS (tgt := 236) dX12_findCuts_184 (by decide) (by decide) (fun c_184 => absurd c_184 (by decide)) (fun c_184 => ?_)
                                refine lv_aload_n SS.1 SS.2.1 dX12_findCuts_187 rfl (lv_at hl 2 rfl) ?_
                                refine j_get SS hG hP 0 (v := .ref (q 26)) (C := RX12) (T := TX12) (N := 31) rfl rfl inX12 26 (by decide) (ref := RX12) kw_1084 rfl rfl dX12_findCuts_188 ?_
                                refine lv_iload SS.1 SS.2.1 dX12_findCuts_191 (lv_at hl 0 rfl) ?_
                                refine lv_aload_n SS.1 SS.2.1 dX12_findCuts_193 rfl (lv_at hl 2 rfl) ?_
                                refine j_get SS hG hP 0 (v := .int (J c2)) (C := RX12) (T := TX12) (N := 31) rfl rfl inX12 27 (by decide) (ref := RX12) kw_1085 rfl rfl dX12_findCuts_194 ?_
                                refine j_iast SS hG hP (mW_D hD) hS 22 (n := 4096) (f := W3) rfl (z := (-9)) (v := c2) (by omega) (by omega) dX12_findCuts_197 (ws' := (mW D o q (uV (uV (uI (uI (uL (uV (uI (uI (uI (uV (uI (uI u 10 X_2) 11 Y_2) 12 n_2) 20 A_6) 21 B_6) 22 S_6) 23 n_6) 24 C2) 25 F2) 26 (upI W3 ((-9) : Int).toNat c2)) 27 c2) 28 0))) rfl (fun H locs hP hS => ?_)
                                refine lv_aload_n SS.1 SS.2.1 dX12_findCuts_198 rfl (lv_at hl 2 rfl) ?_
                                refine j_get SS hG hP 0 (v := .ref (q 24)) (C := RX12) (T := TX12) (N := 31) rfl rfl inX12 24 (by decide) (ref := RX12) kw_1082 rfl rfl dX12_findCuts_199 ?_
                                refine lv_aload_n SS.1 SS.2.1 dX12_findCuts_202 rfl (lv_at hl 2 rfl) ?_
                                refine j_get SS hG hP 0 (v := .int (J c2)) (C := RX12) (T := TX12) (N := 31) rfl rfl inX12 27 (by decide) (ref := RX12) kw_1085 rfl rfl dX12_findCuts_203 ?_
                                refine lv_lload SS.1 SS.2.1 dX12_findCuts_206 (lv_at hl 1 rfl) ?_
                                refine j_last SS hG hP (mW_D hD) hS 20 (n := 1501) (f := C2) rfl (z := c2) (v := x_117) (by omega) (by omega) dX12_findCuts_208 (ws' := (mW D o q (uV (uV (uI (uI (uL (uV (uI (uI (uI (uV (uI (uI u 10 X_2) 11 Y_2) 12 n_2) 20 A_6) 21 B_6) 22 S_6) 23 n_6) 24 (vp_updL C2 (c2).toNat x_117)) 25 F2) 26 (upI W3 ((-9) : Int).toNat c2)) 27 c2) 28 0))) rfl (fun H locs hP hS => ?_)
                                refine lv_aload_n SS.1 SS.2.1 dX12_findCuts_209 rfl (lv_at hl 2 rfl) ?_
                                refine j_get SS hG hP 0 (v := .ref (q 25)) (C := RX12) (T := TX12) (N := 31) rfl rfl inX12 25 (by decide) (ref := RX12) kw_1083 rfl rfl dX12_findCuts_210 ?_
                                refine lv_aload_n SS.1 SS.2.1 dX12_findCuts_213 rfl (lv_at hl 2 rfl) ?_
                                refine j_get SS hG hP 0 (v := .int (J c2)) (C := RX12) (T := TX12) (N := 31) rfl rfl inX12 27 (by decide) (ref := RX12) kw_1085 rfl rfl dX12_findCuts_214 ?_
                                refine lv_aload_n SS.1 SS.2.1 dX12_findCuts_217 rfl (lv_at hl 2 rfl) ?_
                                refine j_get SS hG hP 0 (v := .ref (q 25)) (C := RX12) (T := TX12) (N := 31) rfl rfl inX12 25 (by decide) (ref := RX12) kw_1083 rfl rfl dX12_findCuts_218 ?_
                                refine lv_iload_n SS.1 SS.2.1 dX12_findCuts_221 rfl (lv_at hl 4 rfl) ?_
                                refine j_iald SS hG hP 21 (n := 1501) (f := F2) rfl (z := i) (by omega) (by omega) dX12_findCuts_222 ?_
                                refine j_iconst SS dX12_findCuts_223 ?_
                                refine j_iadd SS (x := (F2 (i).toNat)) (y := 1) dX12_findCuts_224 ?_
                                refine j_iast SS hG hP (mW_D hD) hS 21 (n := 1501) (f := F2) rfl (z := c2) (v := ((F2 (i).toNat) + 1)) (by omega) (by omega) dX12_findCuts_225 (ws' := (mW D o q (uV (uV (uI (uI (uL (uV (uI (uI (uI (uV (uI (uI u 10 X_2) 11 Y_2) 12 n_2) 20 A_6) 21 B_6) 22 S_6) 23 n_6) 24 (vp_updL C2 (c2).toNat x_117)) 25 (upI F2 (c2).toNat ((F2 (i).toNat) + 1))) 26 (upI W3 ((-9) : Int).toNat c2)) 27 c2) 28 0))) rfl (fun H locs hP hS => ?_)
                                refine lv_aload_n SS.1 SS.2.1 dX12_findCuts_226 rfl (lv_at hl 2 rfl) ?_
                                refine lv_dup SS.1 SS.2.1 dX12_findCuts_227 rfl ?_
                                refine j_get SS hG hP 0 (v := .int (J c2)) (C := RX12) (T := TX12) (N := 31) rfl rfl inX12 27 (by decide) (ref := RX12) kw_1085 rfl rfl dX12_findCuts_228 ?_
                                refine j_iconst SS dX12_findCuts_231 ?_
                                refine j_iadd SS (x := c2) (y := 1) dX12_findCuts_232 ?_
                                refine j_put SS hG hP (mW_D hD) hS 0 (v := .int (J (c2 + 1))) (ty := .int) (C := RX12) (T := TX12) (N := 31) rfl rfl inX12 tyX12 tyX12_ok nmX12 27 (by decide) (ref := RX12) kw_1085 rfl rfl (by decide +kernel) rfl rfl (Nat.le_of_ble_eq_true rfl) dX12_findCuts_233 (ws' := (mW D o q (uV (uV (uI (uI (uL (uV (uI (uI (uI (uV (uI (uI u 10 X_2) 11 Y_2) 12 n_2) 20 A_6) 21 B_6) 22 S_6) 23 n_6) 24 (vp_updL C2 (c2).toNat x_117)) 25 (upI F2 (c2).toNat ((F2 (i).toNat) + 1))) 26 (upI W3 ((-9) : Int).toNat c2)) 27 (c2 + 1)) 28 0))) rfl (fun H locs hP hS => ?_)
                                refine lv_iinc (v := J (k2 + 1)) (lv' := [(3, .int (J (k2 + 1))), (6, .int (J (-9))), (4, .long x_117), (0, .ref o), (1, .int (J s)), (2, .int (J i))]) SS.1 SS.2.1 dX12_findCuts_236 hl (k := 5) rfl (J_add _ _) (by decide) rfl (fun ls hl => ?_)
                                refine lv_goto (tgt := 94) SS.1 SS.2.1 dX12_findCuts_239 (by decide) ?_
                                exact ih_94 (k2 + 1) (vp_updL C2 (c2).toNat x_117) (upI F2 (c2).toNat ((F2 (i).toNat) + 1)) (upI W3 ((-9) : Int).toNat c2) (c2 + 1) 0 _ _ hP hS ls (lv_sub hl [3, 4, 5, 0] rfl) (by omega) (by omega) (by first | exact i94_2 | exact sl_put (by omega) h_137 i94_2 (by omega) | (exfalso; omega)) (by omega)
                              · skip
                                refine j_iconst SS dX12_findCuts_172 ?_
                                refine lv_goto (tgt := 177) SS.1 SS.2.1 dX12_findCuts_173 (by decide) ?_
                                refine j_put SS hG hP (mW_D hD) hS 0 (v := .int (J 1)) (ty := .boolean) (C := RX12) (T := TX12) (N := 31) rfl rfl inX12 tyX12 tyX12_ok nmX12 28 (by decide) (ref := RX12) kw_1086 rfl rfl (by decide +kernel) (j_nz (by omega)) rfl (Nat.le_of_ble_eq_true rfl) dX12_findCuts_177 (ws' := (mW D o q (uV (uV (uI (uI (uL (uV (uI (uI (uI (uV (uI (uI u 10 X_2) 11 Y_2) 12 n_2) 20 A_6) 21 B_6) 22 S_6) 23 n_6) 24 C2) 25 F2) 26 W3) 27 c2) 28 1))) rfl (fun H locs hP hS => ?_)
                                refine lv_aload_n SS.1 SS.2.1 dX12_findCuts_180 rfl (lv_at hl 2 rfl) ?_
                                refine j_get SS hG hP 0 (v := .int (J 1)) (C := RX12) (T := TX12) (N := 31) rfl rfl inX12 28 (by decide) (ref := RX12) kw_1086 rfl rfl dX12_findCuts_181 ?_
                                refine j_if_ne SS (tgt := 236) dX12_findCuts_184 (by decide) (by decide) (fun c_184 => ?_) (fun c_184 => absurd c_184 (by decide))
                                refine lv_iinc (v := J (k2 + 1)) (lv' := [(3, .int (J (k2 + 1))), (6, .int (J (-9))), (4, .long x_117), (0, .ref o), (1, .int (J s)), (2, .int (J i))]) SS.1 SS.2.1 dX12_findCuts_236 hl (k := 5) rfl (J_add _ _) (by decide) rfl (fun ls hl => ?_)
                                refine lv_goto (tgt := 94) SS.1 SS.2.1 dX12_findCuts_239 (by decide) ?_
                                exact ih_94 (k2 + 1) C2 F2 W3 c2 1 _ _ hP hS ls (lv_sub hl [3, 4, 5, 0] rfl) (by omega) (by omega) (by first | exact i94_2 | exact sl_put (by omega) h_137 i94_2 (by omega) | (exfalso; omega)) (by omega)
                exact L_94 ((n_6 - (0 : Int)).toNat + 1) 0 C1 F1 W2 c1 t1 _ _ hP hS ls (lv_sub hl [1, 2, 3, 0] rfl) (by omega) (by omega) (i77_1) (Nat.lt_succ_self _)
        exact L_77 (((1501 : Int) - (0 : Int)).toNat + 1) 0 (vp_updL (u.2.1 24) (0 : Int).toNat x_48) (upI (u.1 25) (0 : Int).toNat 0) (upI W1 (z_70).toNat 0) 1 0 _ _ hP hS ls (lv_sub hl [1, 2, 0] rfl) (by omega) (sl_1 h_70 (fun j hj => i11_1 j (by omega))) (Nat.lt_succ_self _)
      · skip
        refine lv_aload_n SS.1 SS.2.1 dX12_findCuts_18 rfl (lv_at hl 0 rfl) ?_
        refine j_get SS hG hP 0 (v := .ref (q 26)) (C := RX12) (T := TX12) (N := 31) rfl rfl inX12 26 (by decide) (ref := RX12) kw_1084 rfl rfl dX12_findCuts_19 ?_
        refine lv_iload_n SS.1 SS.2.1 dX12_findCuts_22 rfl (lv_at hl 2 rfl) ?_
        refine j_bipush SS dX12_findCuts_23 (by decide +kernel) ?_
        refine j_iast SS hG hP (mW_D hD) hS 22 (n := 4096) (f := W1) rfl (z := k) (v := (-9)) (by omega) (by omega) dX12_findCuts_25 (ws' := (mW D o q (uI (uV (uI (uI (uI (uV (uI (uI u 10 X_2) 11 Y_2) 12 n_2) 20 A_6) 21 B_6) 22 S_6) 23 n_6) 26 (upI W1 (k).toNat (-9))))) rfl (fun H locs hP hS => ?_)
        refine lv_iinc (v := J (k + 1)) (lv' := [(2, .int (J (k + 1))), (0, .ref o), (1, .int (J s))]) SS.1 SS.2.1 dX12_findCuts_26 hl (k := 2) rfl (J_add _ _) (by decide) rfl (fun ls hl => ?_)
        refine lv_goto (tgt := 11) SS.1 SS.2.1 dX12_findCuts_29 (by decide) ?_
        exact ih_11 (k + 1) (upI W1 (k).toNat (-9)) _ _ hP hS ls (lv_sub hl [1, 2, 0] rfl) (by omega) (fun j hj => by by_cases e : (j : Int) = k; (rw [show j = k.toNat by omega, upI_s]); (rw [upI_n (by omega)]; exact i11_1 j (by omega))) (by omega)
  exact L_11 (((4096 : Int) - (0 : Int)).toNat + 1) 0 (u.1 26) _ _ hP hS ls (lv_sub hl [1, 2, 0] rfl) (by omega) (fun j hj => by omega) (Nat.lt_succ_self _)

set_option maxHeartbeats 4000000 in
set_option maxRecDepth 100000 in
theorem c_X12_isCuttable (l : Launch) (D : JD) (o : Nat) (q : Nat → Nat) (u : MS) (s : Int) (p0 : 0 ≤ s ∧ s ≤ 7) (p1 : Sh u s) : Met l yX12_isCuttable (jw yX12_isCuttable cX12_isCuttable 2 (some .boolean)) (jr 5 110) (jP [.ref o, .int (J s)] D (fun H => va_P D.1 j_cl (mW D o q u) H)) (jRi (fun z => (z = 1 ∧ 2 < mN u s ∧ mEd u s + mIn u s ≤ 12) ∨ (z = 0 ∧ ¬ (2 < mN u s ∧ mEd u s + mIn u s ≤ 12)))) 0 0 (fun _ => False) := by
  refine Met.ofW (cc := cX12_isCuttable) (maxL := 2) (ret := (some .boolean)) (by decide) rfl ?_
  intro pr en st mi args below meth co s₁ B hml hv
  obtain ⟨rfl, hG, hP⟩ := hv
  have hr := B.returns
  have hlk := B.notSynchronized
  have SS : jS pr mi co cX12_isCuttable 2 st _ RX12 := ⟨B.exec, B.bytes, hml, findClass_of_methodNamed B.named, fun w hw => atoms_spec (ws := (jw yX12_isCuttable cX12_isCuttable 2 (some .boolean))) B.pre w (List.mem_cons_of_mem _ hw)⟩
  have hl := lv_entry ([.ref o, .int (J s)]) (n := 2) (Nat.le_of_ble_eq_true rfl)
  rw [lg_entry_eq]
  generalize (lg_sl ([.ref o, .int (J s)]) ++ List.replicate (2 - (lg_sl ([.ref o, .int (J s)])).length) Slot.unset).toArray = ls at hl ⊢
  have hl : lv_has ls 2 [(0, .ref o), (1, .int (J s))] := hl
  have hN := p1.1
  have hC := p1.2.2
  refine lv_aload_n SS.1 SS.2.1 dX12_isCuttable_0 rfl (lv_at hl 0 rfl) ?_
  refine lv_iload_n SS.1 SS.2.1 dX12_isCuttable_1 rfl (lv_at hl 1 rfl) ?_
  refine j_vRi SS (As := [.int (J s)]) (rest := []) (c_X12_isPolygon l D o q u s (show 0 ≤ s ∧ s ≤ 7 from (p0)) (show Sh u s from (p1))) mf_X12_isPolygon kw_1240 hG hP hP (ci := 8) (q0 := 0) rfl rfl rfl rfl hl.1 ⟨⟨Nat.le_of_ble_eq_true rfl, Nat.le_of_ble_eq_true rfl⟩, Nat.le_of_ble_eq_true rfl, Nat.le_refl _, Nat.le_refl _⟩ rfl dX12_isCuttable_2 (fun z_2 h_2 => ?_)
  have h_2 : (z_2 = 1 ∧ 2 < mN u s) ∨ (z_2 = 0 ∧ mN u s ≤ 2) := h_2
  refine j_if_eq SS (tgt := 28) (x := z_2) dX12_isCuttable_5 (by decide) (by omega) (fun c_5 => ?_) (fun c_5 => ?_)
  · skip
    refine j_iconst SS dX12_isCuttable_28 ?_
    exact W.zret SS.1 SS.2.1 hr (j_nz (by decide)) (fun t ht hW => ⟨_, rfl, ⟨0, rfl, (by omega)⟩, ht⟩) (fun _ h => nomatch h) dX12_isCuttable_29 hlk
  · skip
    refine lv_aload_n SS.1 SS.2.1 dX12_isCuttable_8 rfl (lv_at hl 0 rfl) ?_
    refine lv_iload_n SS.1 SS.2.1 dX12_isCuttable_9 rfl (lv_at hl 1 rfl) ?_
    refine j_vRi SS (As := [.int (J s)]) (rest := []) (c_X12_edgeOf l D o q u s (show 0 ≤ s ∧ s ≤ 7 from (p0)) (show Sh u s from (p1))) mf_X12_edgeOf kw_1222 hG hP hP (ci := 8) (q0 := 0) rfl rfl rfl rfl hl.1 ⟨⟨Nat.le_of_ble_eq_true rfl, Nat.le_of_ble_eq_true rfl⟩, Nat.le_of_ble_eq_true rfl, Nat.le_refl _, Nat.le_refl _⟩ rfl dX12_isCuttable_10 (fun z_10 h_10 => ?_)
    have h_10 : z_10 = mEd u s ∧ 0 ≤ z_10 ∧ z_10 ≤ 2000 := h_10
    refine lv_aload_n SS.1 SS.2.1 dX12_isCuttable_13 rfl (lv_at hl 0 rfl) ?_
    refine lv_iload_n SS.1 SS.2.1 dX12_isCuttable_14 rfl (lv_at hl 1 rfl) ?_
    refine j_vRi SS (As := [.int (J s)]) (rest := [.int (J z_10)]) (c_X12_insideOf l D o q u s (show 0 ≤ s ∧ s ≤ 7 from (p0)) (show Sh u s from (p1))) mf_X12_insideOf kw_1236 hG hP hP (ci := 8) (q0 := 0) rfl rfl rfl rfl hl.1 ⟨⟨Nat.le_of_ble_eq_true rfl, Nat.le_of_ble_eq_true rfl⟩, Nat.le_of_ble_eq_true rfl, Nat.le_refl _, Nat.le_refl _⟩ rfl dX12_isCuttable_15 (fun z_15 h_15 => ?_)
    have h_15 : z_15 = mIn u s ∧ -100000 ≤ z_15 ∧ z_15 ≤ 100000 := h_15
    refine j_iadd SS (x := z_10) (y := z_15) dX12_isCuttable_18 ?_
    refine j_bipush SS dX12_isCuttable_19 (by decide +kernel) ?_
    refine j_icmp_gt SS (tgt := 28) (x := (z_10 + z_15)) (y := 12) dX12_isCuttable_21 (by decide) (by omega) (by decide) (fun c_21 => ?_) (fun c_21 => ?_)
    · skip
      refine j_iconst SS dX12_isCuttable_28 ?_
      exact W.zret SS.1 SS.2.1 hr (j_nz (by decide)) (fun t ht hW => ⟨_, rfl, ⟨0, rfl, (by omega)⟩, ht⟩) (fun _ h => nomatch h) dX12_isCuttable_29 hlk
    · skip
      refine j_iconst SS dX12_isCuttable_24 ?_
      refine lv_goto (tgt := 29) SS.1 SS.2.1 dX12_isCuttable_25 (by decide) ?_
      exact W.zret SS.1 SS.2.1 hr (j_nz (by decide)) (fun t ht hW => ⟨_, rfl, ⟨1, rfl, (by omega)⟩, ht⟩) (fun _ h => nomatch h) dX12_isCuttable_29 hlk

set_option maxHeartbeats 4000000 in
set_option maxRecDepth 100000 in
theorem c_X12_isLifted (l : Launch) (D : JD) (o : Nat) (q : Nat → Nat) (u : MS) (s : Int) (p0 : 0 ≤ s ∧ s ≤ 7) (p1 : Sh u s) : Met l yX12_isLifted (jw yX12_isLifted cX12_isLifted 2 (some .boolean)) (jr 5 110) (jP [.ref o, .int (J s)] D (fun H => va_P D.1 j_cl (mW D o q u) H)) (jRi (fun z => (z = 1 ∧ 2 < mN u s ∧ mEd u s + mIn u s ≤ 40) ∨ (z = 0 ∧ ¬ (2 < mN u s ∧ mEd u s + mIn u s ≤ 40)))) 0 0 (fun _ => False) := by
  refine Met.ofW (cc := cX12_isLifted) (maxL := 2) (ret := (some .boolean)) (by decide) rfl ?_
  intro pr en st mi args below meth co s₁ B hml hv
  obtain ⟨rfl, hG, hP⟩ := hv
  have hr := B.returns
  have hlk := B.notSynchronized
  have SS : jS pr mi co cX12_isLifted 2 st _ RX12 := ⟨B.exec, B.bytes, hml, findClass_of_methodNamed B.named, fun w hw => atoms_spec (ws := (jw yX12_isLifted cX12_isLifted 2 (some .boolean))) B.pre w (List.mem_cons_of_mem _ hw)⟩
  have hl := lv_entry ([.ref o, .int (J s)]) (n := 2) (Nat.le_of_ble_eq_true rfl)
  rw [lg_entry_eq]
  generalize (lg_sl ([.ref o, .int (J s)]) ++ List.replicate (2 - (lg_sl ([.ref o, .int (J s)])).length) Slot.unset).toArray = ls at hl ⊢
  have hl : lv_has ls 2 [(0, .ref o), (1, .int (J s))] := hl
  have hN := p1.1
  have hC := p1.2.2
  refine lv_aload_n SS.1 SS.2.1 dX12_isLifted_0 rfl (lv_at hl 0 rfl) ?_
  refine lv_iload_n SS.1 SS.2.1 dX12_isLifted_1 rfl (lv_at hl 1 rfl) ?_
  refine j_vRi SS (As := [.int (J s)]) (rest := []) (c_X12_isPolygon l D o q u s (show 0 ≤ s ∧ s ≤ 7 from (p0)) (show Sh u s from (p1))) mf_X12_isPolygon kw_1240 hG hP hP (ci := 8) (q0 := 0) rfl rfl rfl rfl hl.1 ⟨⟨Nat.le_of_ble_eq_true rfl, Nat.le_of_ble_eq_true rfl⟩, Nat.le_of_ble_eq_true rfl, Nat.le_refl _, Nat.le_refl _⟩ rfl dX12_isLifted_2 (fun z_2 h_2 => ?_)
  have h_2 : (z_2 = 1 ∧ 2 < mN u s) ∨ (z_2 = 0 ∧ mN u s ≤ 2) := h_2
  refine j_if_eq SS (tgt := 28) (x := z_2) dX12_isLifted_5 (by decide) (by omega) (fun c_5 => ?_) (fun c_5 => ?_)
  · skip
    refine j_iconst SS dX12_isLifted_28 ?_
    exact W.zret SS.1 SS.2.1 hr (j_nz (by decide)) (fun t ht hW => ⟨_, rfl, ⟨0, rfl, (by omega)⟩, ht⟩) (fun _ h => nomatch h) dX12_isLifted_29 hlk
  · skip
    refine lv_aload_n SS.1 SS.2.1 dX12_isLifted_8 rfl (lv_at hl 0 rfl) ?_
    refine lv_iload_n SS.1 SS.2.1 dX12_isLifted_9 rfl (lv_at hl 1 rfl) ?_
    refine j_vRi SS (As := [.int (J s)]) (rest := []) (c_X12_edgeOf l D o q u s (show 0 ≤ s ∧ s ≤ 7 from (p0)) (show Sh u s from (p1))) mf_X12_edgeOf kw_1222 hG hP hP (ci := 8) (q0 := 0) rfl rfl rfl rfl hl.1 ⟨⟨Nat.le_of_ble_eq_true rfl, Nat.le_of_ble_eq_true rfl⟩, Nat.le_of_ble_eq_true rfl, Nat.le_refl _, Nat.le_refl _⟩ rfl dX12_isLifted_10 (fun z_10 h_10 => ?_)
    have h_10 : z_10 = mEd u s ∧ 0 ≤ z_10 ∧ z_10 ≤ 2000 := h_10
    refine lv_aload_n SS.1 SS.2.1 dX12_isLifted_13 rfl (lv_at hl 0 rfl) ?_
    refine lv_iload_n SS.1 SS.2.1 dX12_isLifted_14 rfl (lv_at hl 1 rfl) ?_
    refine j_vRi SS (As := [.int (J s)]) (rest := [.int (J z_10)]) (c_X12_insideOf l D o q u s (show 0 ≤ s ∧ s ≤ 7 from (p0)) (show Sh u s from (p1))) mf_X12_insideOf kw_1236 hG hP hP (ci := 8) (q0 := 0) rfl rfl rfl rfl hl.1 ⟨⟨Nat.le_of_ble_eq_true rfl, Nat.le_of_ble_eq_true rfl⟩, Nat.le_of_ble_eq_true rfl, Nat.le_refl _, Nat.le_refl _⟩ rfl dX12_isLifted_15 (fun z_15 h_15 => ?_)
    have h_15 : z_15 = mIn u s ∧ -100000 ≤ z_15 ∧ z_15 ≤ 100000 := h_15
    refine j_iadd SS (x := z_10) (y := z_15) dX12_isLifted_18 ?_
    refine j_bipush SS dX12_isLifted_19 (by decide +kernel) ?_
    refine j_icmp_gt SS (tgt := 28) (x := (z_10 + z_15)) (y := 40) dX12_isLifted_21 (by decide) (by omega) (by decide) (fun c_21 => ?_) (fun c_21 => ?_)
    · skip
      refine j_iconst SS dX12_isLifted_28 ?_
      exact W.zret SS.1 SS.2.1 hr (j_nz (by decide)) (fun t ht hW => ⟨_, rfl, ⟨0, rfl, (by omega)⟩, ht⟩) (fun _ h => nomatch h) dX12_isLifted_29 hlk
    · skip
      refine j_iconst SS dX12_isLifted_24 ?_
      refine lv_goto (tgt := 29) SS.1 SS.2.1 dX12_isLifted_25 (by decide) ?_
      exact W.zret SS.1 SS.2.1 hr (j_nz (by decide)) (fun t ht hW => ⟨_, rfl, ⟨1, rfl, (by omega)⟩, ht⟩) (fun _ h => nomatch h) dX12_isLifted_29 hlk

set_option maxHeartbeats 4000000 in
set_option maxRecDepth 100000 in
theorem c_X12_cut (l : Launch) (D : JD) (o : Nat) (q : Nat → Nat) (u : MS) (A : Nat → Prop) (hD : va_D A (mW D o q u)) (s : Int) (i : Int) (what : Int) (p0 : IM u) (p1 : -2147483648 ≤ s ∧ s ≤ 2147483647) (p2 : -2147483648 ≤ i ∧ i ≤ 2147483647) (p3 : -2147483648 ≤ what ∧ what ≤ 2147483647) : Met l yX12_cut (jw yX12_cut cX12_cut 6 (some .int)) (jr 6 131) (jP [.ref o, .int (J s), .int (J i), .int (J what)] D (fun H => va_P D.1 j_cl (mW D o q u) H)) (jWi (fun z u' => ∃ X : Nat → Int, ∃ Y : Nat → Int, ∃ n : Int, ∃ A : Nat → Int, ∃ B : Nat → Int, ∃ S : Nat → Int, ∃ m : Int, ∃ C : Nat → Int64, ∃ F : Nat → Int, ∃ W : Nat → Int, ∃ c : Int, ∃ t : Int, u' = (uV (uV (uI (uI (uL (uV (uI (uI (uI (uV (uI (uI u 10 X) 11 Y) 12 n) 20 A) 21 B) 22 S) 23 m) 24 C) 25 F) 26 W) 27 c) 28 t) ∧ (IM u')) (fun u' H => va_P D.1 j_cl (mW D o q u') H) A) 0 0 A := by
  refine Met.ofW (cc := cX12_cut) (maxL := 6) (ret := (some .int)) (by decide) rfl ?_
  intro pr en st mi args below meth co s₁ B hml hv
  obtain ⟨rfl, hG, hP⟩ := hv
  have hr := B.returns
  have hlk := B.notSynchronized
  have SS : jS pr mi co cX12_cut 6 st _ RX12 := ⟨B.exec, B.bytes, hml, findClass_of_methodNamed B.named, fun w hw => atoms_spec (ws := (jw yX12_cut cX12_cut 6 (some .int))) B.pre w (List.mem_cons_of_mem _ hw)⟩
  have hl := lv_entry ([.ref o, .int (J s), .int (J i), .int (J what)]) (n := 6) (Nat.le_of_ble_eq_true rfl)
  rw [lg_entry_eq]
  generalize (lg_sl ([.ref o, .int (J s), .int (J i), .int (J what)]) ++ List.replicate (6 - (lg_sl ([.ref o, .int (J s), .int (J i), .int (J what)])).length) Slot.unset).toArray = ls at hl ⊢
  have hl : lv_has ls 6 [(0, .ref o), (1, .int (J s)), (2, .int (J i)), (3, .int (J what))] := hl
  have hS : va_S A st.heap st.heap [] := va_S.rf
  refine lv_iload_n SS.1 SS.2.1 dX12_cut_0 rfl (lv_at hl 1 rfl) ?_
  refine j_sRi SS (As := [.int (J s)]) (rest := []) (c_X12_isShape l D s (show -2147483648 ≤ s ∧ s ≤ 2147483647 from (by omega))) mf_X12_isShape kw_1156 hG trivial rfl hl.1 ⟨⟨Nat.le_of_ble_eq_true rfl, Nat.le_of_ble_eq_true rfl⟩, Nat.le_of_ble_eq_true rfl, Nat.le_refl _, Nat.le_refl _⟩ rfl dX12_cut_1 (fun z_1 h_1 => ?_)
  have h_1 : (z_1 = 1 ∧ (0 ≤ s ∧ s ≤ 7)) ∨ (z_1 = 0 ∧ ¬ (0 ≤ s ∧ s ≤ 7)) := h_1
  refine j_if_eq SS (tgt := 16) (x := z_1) dX12_cut_4 (by decide) (by omega) (fun c_4 => ?_) (fun c_4 => ?_)
  · skip
    refine j_iconst SS dX12_cut_16 ?_
    exact W.iret SS.1 SS.2.1 hr (fun t ht hW => ⟨⟨_, (uV (uV (uI (uI (uL (uV (uI (uI (uI (uV (uI (uI u 10 (u.1 10)) 11 (u.1 11)) 12 (u.2.2 12)) 20 (u.1 20)) 21 (u.1 21)) 22 (u.1 22)) 23 (u.2.2 23)) 24 (u.2.1 24)) 25 (u.1 25)) 26 (u.1 26)) 27 (u.2.2 27)) 28 (u.2.2 28)), rfl, ⟨(-1), rfl, (⟨(u.1 10), (u.1 11), (u.2.2 12), (u.1 20), (u.1 21), (u.1 22), (u.2.2 23), (u.2.1 24), (u.1 25), (u.1 26), (u.2.2 27), (u.2.2 28), rfl, p0⟩)⟩, by show va_P D.1 j_cl (mW D o q (uV (uV (uI (uI (uL (uV (uI (uI (uI (uV (uI (uI u 10 (u.1 10)) 11 (u.1 11)) 12 (u.2.2 12)) 20 (u.1 20)) 21 (u.1 21)) 22 (u.1 22)) 23 (u.2.2 23)) 24 (u.2.1 24)) 25 (u.1 25)) 26 (u.1 26)) 27 (u.2.2 27)) 28 (u.2.2 28))) t.heap; rw [ht]; exact hP⟩, hS.F ht⟩) hS.2.2 dX12_cut_17 hlk
  · skip
    refine lv_iload_n SS.1 SS.2.1 dX12_cut_7 rfl (lv_at hl 2 rfl) ?_
    refine j_if_lt SS (tgt := 16) (x := i) dX12_cut_8 (by decide) (by omega) (fun c_8 => ?_) (fun c_8 => ?_)
    · skip
      refine j_iconst SS dX12_cut_16 ?_
      exact W.iret SS.1 SS.2.1 hr (fun t ht hW => ⟨⟨_, (uV (uV (uI (uI (uL (uV (uI (uI (uI (uV (uI (uI u 10 (u.1 10)) 11 (u.1 11)) 12 (u.2.2 12)) 20 (u.1 20)) 21 (u.1 21)) 22 (u.1 22)) 23 (u.2.2 23)) 24 (u.2.1 24)) 25 (u.1 25)) 26 (u.1 26)) 27 (u.2.2 27)) 28 (u.2.2 28)), rfl, ⟨(-1), rfl, (⟨(u.1 10), (u.1 11), (u.2.2 12), (u.1 20), (u.1 21), (u.1 22), (u.2.2 23), (u.2.1 24), (u.1 25), (u.1 26), (u.2.2 27), (u.2.2 28), rfl, p0⟩)⟩, by show va_P D.1 j_cl (mW D o q (uV (uV (uI (uI (uL (uV (uI (uI (uI (uV (uI (uI u 10 (u.1 10)) 11 (u.1 11)) 12 (u.2.2 12)) 20 (u.1 20)) 21 (u.1 21)) 22 (u.1 22)) 23 (u.2.2 23)) 24 (u.2.1 24)) 25 (u.1 25)) 26 (u.1 26)) 27 (u.2.2 27)) 28 (u.2.2 28))) t.heap; rw [ht]; exact hP⟩, hS.F ht⟩) hS.2.2 dX12_cut_17 hlk
    · skip
      refine lv_iload_n SS.1 SS.2.1 dX12_cut_11 rfl (lv_at hl 3 rfl) ?_
      refine j_iconst SS dX12_cut_12 ?_
      refine j_icmp_ge SS (tgt := 18) (x := what) (y := (-1)) dX12_cut_13 (by decide) (by omega) (by decide) (fun c_13 => ?_) (fun c_13 => ?_)
      · skip
        refine lv_aload_n SS.1 SS.2.1 dX12_cut_18 rfl (lv_at hl 0 rfl) ?_
        refine lv_iload_n SS.1 SS.2.1 dX12_cut_19 rfl (lv_at hl 1 rfl) ?_
        refine j_vRi SS (As := [.int (J s)]) (rest := []) (c_X12_isCuttable l D o q u s (show 0 ≤ s ∧ s ≤ 7 from (by omega)) (show Sh u s from (p0.1 _ (by omega) (by omega)))) mf_X12_isCuttable kw_1408 hG hP hP (ci := 8) (q0 := 0) rfl rfl rfl rfl hl.1 ⟨⟨Nat.le_of_ble_eq_true rfl, Nat.le_of_ble_eq_true rfl⟩, Nat.le_of_ble_eq_true rfl, Nat.le_refl _, Nat.le_refl _⟩ rfl dX12_cut_20 (fun z_20 h_20 => ?_)
        have h_20 : (z_20 = 1 ∧ 2 < mN u s ∧ mEd u s + mIn u s ≤ 12) ∨ (z_20 = 0 ∧ ¬ (2 < mN u s ∧ mEd u s + mIn u s ≤ 12)) := h_20
        refine j_if_ne SS (tgt := 29) (x := z_20) dX12_cut_23 (by decide) (by omega) (fun c_23 => ?_) (fun c_23 => ?_)
        · skip
          refine lv_aload_n SS.1 SS.2.1 dX12_cut_29 rfl (lv_at hl 0 rfl) ?_
          refine lv_iload_n SS.1 SS.2.1 dX12_cut_30 rfl (lv_at hl 1 rfl) ?_
          refine j_vWv SS (As := [.int (J s)]) (rest := []) (c_X12_findCuts l D o q u A (mW_D hD) s (show IM u from (p0)) (show 0 ≤ s ∧ s ≤ 7 from (by omega)) (show 2 < mN u s from (by omega)) (show mEd u s + mIn u s ≤ 12 from (by omega))) mf_X12_findCuts kw_1438 hG hP hP (ci := 8) (q0 := 0) rfl rfl rfl hS (fun _ h => h) rfl hl.1 ⟨⟨Nat.le_of_ble_eq_true rfl, Nat.le_of_ble_eq_true rfl⟩, Nat.le_of_ble_eq_true rfl, Nat.le_refl _, Nat.le_refl _⟩ rfl dX12_cut_31 (fun u31 H locs h_31 hP _ hS => ?_)
          obtain ⟨X_31, Y_31, n_31, A_31, B_31, S_31, m_31, C_31, F_31, W_31, c_31, t_31, rfl, h_31⟩ := h_31
          have hP : va_P D.1 j_cl (mW D o q (uV (uV (uI (uI (uL (uV (uI (uI (uI (uV (uI (uI u 10 X_31) 11 Y_31) 12 n_31) 20 A_31) 21 B_31) 22 S_31) 23 m_31) 24 C_31) 25 F_31) 26 W_31) 27 c_31) 28 t_31)) H := hP
          have h_31 : CU (uV (uV (uI (uI (uL (uV (uI (uI (uI (uV (uI (uI u 10 X_31) 11 Y_31) 12 n_31) 20 A_31) 21 B_31) 22 S_31) 23 m_31) 24 C_31) 25 F_31) 26 W_31) 27 c_31) 28 t_31) ∧ (1 ≤ c_31 ∧ c_31 ≤ 1500) ∧ (t_31 = 0 ∨ t_31 = 1) ∧ (0 ≤ m_31 ∧ m_31 ≤ 66) ∧ IM (uV (uV (uI (uI (uL (uV (uI (uI (uI (uV (uI (uI u 10 X_31) 11 Y_31) 12 n_31) 20 A_31) 21 B_31) 22 S_31) 23 m_31) 24 C_31) 25 F_31) 26 W_31) 27 c_31) 28 t_31) := h_31
          obtain ⟨hcu, hc1, ht1, hm1, hI⟩ := h_31
          refine lv_aload_n SS.1 SS.2.1 dX12_cut_34 rfl (lv_at hl 0 rfl) ?_
          refine j_get SS hG hP 0 (v := .int (J t_31)) (C := RX12) (T := TX12) (N := 31) rfl rfl inX12 28 (by decide) (ref := RX12) kw_1086 rfl rfl dX12_cut_35 ?_
          refine j_if_eq SS (tgt := 44) (x := t_31) dX12_cut_38 (by decide) (by omega) (fun c_38 => ?_) (fun c_38 => ?_)
          · skip
            refine lv_iload_n SS.1 SS.2.1 dX12_cut_44 rfl (lv_at hl 2 rfl) ?_
            refine lv_aload_n SS.1 SS.2.1 dX12_cut_45 rfl (lv_at hl 0 rfl) ?_
            refine j_get SS hG hP 0 (v := .int (J c_31)) (C := RX12) (T := TX12) (N := 31) rfl rfl inX12 27 (by decide) (ref := RX12) kw_1085 rfl rfl dX12_cut_46 ?_
            refine j_icmp_lt SS (tgt := 54) (x := i) (y := c_31) dX12_cut_49 (by decide) (by omega) (by omega) (fun c_49 => ?_) (fun c_49 => ?_)
            · skip
              refine lv_iload_n SS.1 SS.2.1 dX12_cut_54 rfl (lv_at hl 3 rfl) ?_
              refine j_if_ge SS (tgt := 65) (x := what) dX12_cut_55 (by decide) (by omega) (fun c_55 => ?_) (fun c_55 => ?_)
              · skip
                refine j_iconst SS dX12_cut_65 ?_
                refine lv_istore (lv' := [(4, .int (J 0)), (0, .ref o), (1, .int (J s)), (2, .int (J i)), (3, .int (J what))]) SS.1 SS.2.1 dX12_cut_66 hl (by decide) rfl (fun ls hl => ?_)
                refine j_iconst SS dX12_cut_68 ?_
                refine lv_istore (lv' := [(5, .int (J 0)), (4, .int (J 0)), (0, .ref o), (1, .int (J s)), (2, .int (J i)), (3, .int (J what))]) SS.1 SS.2.1 dX12_cut_69 hl (by decide) rfl (fun ls hl => ?_)
                have L_71 : ∀ (nn : Nat) (n9 : Int) (k : Int) (H : Heap) (locs : List Loc) (hP : va_P D.1 j_cl (mW D o q (uV (uV (uI (uI (uL (uV (uI (uI (uI (uV (uI (uI u 10 X_31) 11 Y_31) 12 n_31) 20 A_31) 21 B_31) 22 S_31) 23 m_31) 24 C_31) 25 F_31) 26 W_31) 27 c_31) 28 t_31)) H) (hS : va_S A st.heap H locs) (ls : Array Slot) (hl : lv_has ls 6 [(0, .ref o), (1, .int (J s)), (2, .int (J i)), (3, .int (J what)), (4, .int (J n9)), (5, .int (J k))]) (i71_0 : 0 ≤ k ∧ k ≤ m_31) (i71_1 : 0 ≤ n9 ∧ n9 ≤ k), (m_31 - k).toNat < nn → W pr l en (headSpec (jw yX12_cut cX12_cut 6 (some .int)) (jr 6 131)).room st mi (([.ref o, .int (J s), .int (J i), .int (J what)] : List Value).toArray) below meth co H locs 0 0 (MQ below (jWi (fun z u' => ∃ X : Nat → Int, ∃ Y : Nat → Int, ∃ n : Int, ∃ A : Nat → Int, ∃ B : Nat → Int, ∃ S : Nat → Int, ∃ m : Int, ∃ C : Nat → Int64, ∃ F : Nat → Int, ∃ W : Nat → Int, ∃ c : Int, ∃ t : Int, u' = (uV (uV (uI (uI (uL (uV (uI (uI (uI (uV (uI (uI u 10 X) 11 Y) 12 n) 20 A) 21 B) 22 S) 23 m) 24 C) 25 F) 26 W) 27 c) 28 t) ∧ (IM u')) (fun u' H => va_P D.1 j_cl (mW D o q u') H) A) (([.ref o, .int (J s), .int (J i), .int (J what)] : List Value).toArray) st 0 0 A) (F0 mi 71 ls []) := by
                  intro nn
                  induction nn with
                  | zero => intros; omega
                  | succ nn ih_71 =>
                    intro n9 k  H locs hP hS ls hl i71_0 i71_1 hm
                    refine lv_iload SS.1 SS.2.1 dX12_cut_71 (lv_at hl 5 rfl) ?_
                    refine lv_aload_n SS.1 SS.2.1 dX12_cut_73 rfl (lv_at hl 0 rfl) ?_
                    refine j_get SS hG hP 0 (v := .int (J m_31)) (C := RX12) (T := TX12) (N := 31) rfl rfl inX12 23 (by decide) (ref := RX12) kw_1081 rfl rfl dX12_cut_74 ?_
                    refine j_icmp_ge SS (tgt := 128) (x := k) (y := m_31) dX12_cut_77 (by decide) (by omega) (by omega) (fun c_77 => ?_) (fun c_77 => ?_)
                    · skip
                      refine j_iconst SS dX12_cut_128 ?_
                      exact W.iret SS.1 SS.2.1 hr (fun t ht hW => ⟨⟨_, (uV (uV (uI (uI (uL (uV (uI (uI (uI (uV (uI (uI u 10 X_31) 11 Y_31) 12 n_31) 20 A_31) 21 B_31) 22 S_31) 23 m_31) 24 C_31) 25 F_31) 26 W_31) 27 c_31) 28 t_31), rfl, ⟨(-1), rfl, (⟨X_31, Y_31, n_31, A_31, B_31, S_31, m_31, C_31, F_31, W_31, c_31, t_31, rfl, hI⟩)⟩, by show va_P D.1 j_cl (mW D o q (uV (uV (uI (uI (uL (uV (uI (uI (uI (uV (uI (uI u 10 X_31) 11 Y_31) 12 n_31) 20 A_31) 21 B_31) 22 S_31) 23 m_31) 24 C_31) 25 F_31) 26 W_31) 27 c_31) 28 t_31)) t.heap; rw [ht]; exact hP⟩, hS.F ht⟩) hS.2.2 dX12_cut_129 hlk
                    · skip
                      refine lv_aload_n SS.1 SS.2.1 dX12_cut_80 rfl (lv_at hl 0 rfl) ?_
                      refine j_get SS hG hP 0 (v := .ref (q 24)) (C := RX12) (T := TX12) (N := 31) rfl rfl inX12 24 (by decide) (ref := RX12) kw_1082 rfl rfl dX12_cut_81 ?_
                      refine lv_iload_n SS.1 SS.2.1 dX12_cut_84 rfl (lv_at hl 2 rfl) ?_
                      refine j_lald SS hG hP 20 (n := 1501) (f := C_31) rfl (z := i) (by omega) (by omega) dX12_cut_85 ?_
                      refine lv_iload SS.1 SS.2.1 dX12_cut_86 (lv_at hl 5 rfl) ?_
                      refine j_sRi SS (As := [.long (C_31 (i).toNat), .int (J k)]) (rest := []) (c_X12_has l D (C_31 (i).toNat) k (show -2147483648 ≤ k ∧ k ≤ 2147483647 from (by omega))) mf_X12_has kw_1420 hG trivial rfl hl.1 ⟨⟨Nat.le_of_ble_eq_true rfl, Nat.le_of_ble_eq_true rfl⟩, Nat.le_of_ble_eq_true rfl, Nat.le_refl _, Nat.le_refl _⟩ rfl dX12_cut_88 (fun z_88 h_88 => ?_)
                      have h_88 : z_88 = 0 ∨ z_88 = 1 := h_88
                      refine j_if_eq SS (tgt := 122) (x := z_88) dX12_cut_91 (by decide) (by omega) (fun c_91 => ?_) (fun c_91 => ?_)
                      · skip
                        refine lv_iinc (v := J (k + 1)) (lv' := [(5, .int (J (k + 1))), (0, .ref o), (1, .int (J s)), (2, .int (J i)), (3, .int (J what)), (4, .int (J n9))]) SS.1 SS.2.1 dX12_cut_122 hl (k := 5) rfl (J_add _ _) (by decide) rfl (fun ls hl => ?_)
                        refine lv_goto (tgt := 71) SS.1 SS.2.1 dX12_cut_125 (by decide) ?_
                        exact ih_71 n9 (k + 1) _ _ hP hS ls (lv_sub hl [1, 2, 3, 4, 5, 0] rfl) (by omega) (by omega) (by omega)
                      · skip
                        refine lv_iload SS.1 SS.2.1 dX12_cut_94 (lv_at hl 4 rfl) ?_
                        refine lv_iload_n SS.1 SS.2.1 dX12_cut_96 rfl (lv_at hl 3 rfl) ?_
                        refine j_icmp_ne SS (tgt := 119) (x := n9) (y := what) dX12_cut_97 (by decide) (by omega) (by omega) (fun c_97 => ?_) (fun c_97 => ?_)
                        · skip
                          refine lv_iinc (v := J (n9 + 1)) (lv' := [(4, .int (J (n9 + 1))), (0, .ref o), (1, .int (J s)), (2, .int (J i)), (3, .int (J what)), (5, .int (J k))]) SS.1 SS.2.1 dX12_cut_119 hl (k := 4) rfl (J_add _ _) (by decide) rfl (fun ls hl => ?_)
                          refine lv_iinc (v := J (k + 1)) (lv' := [(5, .int (J (k + 1))), (4, .int (J (n9 + 1))), (0, .ref o), (1, .int (J s)), (2, .int (J i)), (3, .int (J what))]) SS.1 SS.2.1 dX12_cut_122 hl (k := 5) rfl (J_add _ _) (by decide) rfl (fun ls hl => ?_)
                          refine lv_goto (tgt := 71) SS.1 SS.2.1 dX12_cut_125 (by decide) ?_
                          exact ih_71 (n9 + 1) (k + 1) _ _ hP hS ls (lv_sub hl [2, 3, 4, 5, 1, 0] rfl) (by omega) (by omega) (by omega)
                        · skip
                          refine j_bipush SS dX12_cut_100 (by decide +kernel) ?_
                          refine lv_aload_n SS.1 SS.2.1 dX12_cut_102 rfl (lv_at hl 0 rfl) ?_
                          refine j_get SS hG hP 0 (v := .ref (q 20)) (C := RX12) (T := TX12) (N := 31) rfl rfl inX12 20 (by decide) (ref := RX12) kw_1078 rfl rfl dX12_cut_103 ?_
                          refine lv_iload SS.1 SS.2.1 dX12_cut_106 (lv_at hl 5 rfl) ?_
                          refine j_iald SS hG hP 17 (n := 66) (f := A_31) rfl (z := k) (by omega) (by omega) dX12_cut_108 ?_
                          refine j_imul SS (x := 16) (y := (A_31 (k).toNat)) dX12_cut_109 ?_
                          refine lv_aload_n SS.1 SS.2.1 dX12_cut_110 rfl (lv_at hl 0 rfl) ?_
                          refine j_get SS hG hP 0 (v := .ref (q 21)) (C := RX12) (T := TX12) (N := 31) rfl rfl inX12 21 (by decide) (ref := RX12) kw_1079 rfl rfl dX12_cut_111 ?_
                          refine lv_iload SS.1 SS.2.1 dX12_cut_114 (lv_at hl 5 rfl) ?_
                          refine j_iald SS hG hP 18 (n := 66) (f := B_31) rfl (z := k) (by omega) (by omega) dX12_cut_116 ?_
                          refine j_iadd SS (x := (16 * (A_31 (k).toNat))) (y := (B_31 (k).toNat)) dX12_cut_117 ?_
                          exact W.iret SS.1 SS.2.1 hr (fun t ht hW => ⟨⟨_, (uV (uV (uI (uI (uL (uV (uI (uI (uI (uV (uI (uI u 10 X_31) 11 Y_31) 12 n_31) 20 A_31) 21 B_31) 22 S_31) 23 m_31) 24 C_31) 25 F_31) 26 W_31) 27 c_31) 28 t_31), rfl, ⟨((16 * (A_31 (k).toNat)) + (B_31 (k).toNat)), rfl, (⟨X_31, Y_31, n_31, A_31, B_31, S_31, m_31, C_31, F_31, W_31, c_31, t_31, rfl, hI⟩)⟩, by show va_P D.1 j_cl (mW D o q (uV (uV (uI (uI (uL (uV (uI (uI (uI (uV (uI (uI u 10 X_31) 11 Y_31) 12 n_31) 20 A_31) 21 B_31) 22 S_31) 23 m_31) 24 C_31) 25 F_31) 26 W_31) 27 c_31) 28 t_31)) t.heap; rw [ht]; exact hP⟩, hS.F ht⟩) hS.2.2 dX12_cut_118 hlk
                exact L_71 ((m_31 - (0 : Int)).toNat + 1) 0 0 _ _ hP hS ls (lv_sub hl [2, 3, 4, 5, 1, 0] rfl) (by omega) (by omega) (Nat.lt_succ_self _)
              · skip
                refine lv_aload_n SS.1 SS.2.1 dX12_cut_58 rfl (lv_at hl 0 rfl) ?_
                refine j_get SS hG hP 0 (v := .ref (q 25)) (C := RX12) (T := TX12) (N := 31) rfl rfl inX12 25 (by decide) (ref := RX12) kw_1083 rfl rfl dX12_cut_59 ?_
                refine lv_iload_n SS.1 SS.2.1 dX12_cut_62 rfl (lv_at hl 2 rfl) ?_
                refine j_iald SS hG hP 21 (n := 1501) (f := F_31) rfl (z := i) (by omega) (by omega) dX12_cut_63 ?_
                exact W.iret SS.1 SS.2.1 hr (fun t ht hW => ⟨⟨_, (uV (uV (uI (uI (uL (uV (uI (uI (uI (uV (uI (uI u 10 X_31) 11 Y_31) 12 n_31) 20 A_31) 21 B_31) 22 S_31) 23 m_31) 24 C_31) 25 F_31) 26 W_31) 27 c_31) 28 t_31), rfl, ⟨(F_31 (i).toNat), rfl, (⟨X_31, Y_31, n_31, A_31, B_31, S_31, m_31, C_31, F_31, W_31, c_31, t_31, rfl, hI⟩)⟩, by show va_P D.1 j_cl (mW D o q (uV (uV (uI (uI (uL (uV (uI (uI (uI (uV (uI (uI u 10 X_31) 11 Y_31) 12 n_31) 20 A_31) 21 B_31) 22 S_31) 23 m_31) 24 C_31) 25 F_31) 26 W_31) 27 c_31) 28 t_31)) t.heap; rw [ht]; exact hP⟩, hS.F ht⟩) hS.2.2 dX12_cut_64 hlk
            · skip
              refine j_iconst SS dX12_cut_52 ?_
              exact W.iret SS.1 SS.2.1 hr (fun t ht hW => ⟨⟨_, (uV (uV (uI (uI (uL (uV (uI (uI (uI (uV (uI (uI u 10 X_31) 11 Y_31) 12 n_31) 20 A_31) 21 B_31) 22 S_31) 23 m_31) 24 C_31) 25 F_31) 26 W_31) 27 c_31) 28 t_31), rfl, ⟨(-1), rfl, (⟨X_31, Y_31, n_31, A_31, B_31, S_31, m_31, C_31, F_31, W_31, c_31, t_31, rfl, hI⟩)⟩, by show va_P D.1 j_cl (mW D o q (uV (uV (uI (uI (uL (uV (uI (uI (uI (uV (uI (uI u 10 X_31) 11 Y_31) 12 n_31) 20 A_31) 21 B_31) 22 S_31) 23 m_31) 24 C_31) 25 F_31) 26 W_31) 27 c_31) 28 t_31)) t.heap; rw [ht]; exact hP⟩, hS.F ht⟩) hS.2.2 dX12_cut_53 hlk
          · skip
            refine j_bipush SS dX12_cut_41 (by decide +kernel) ?_
            exact W.iret SS.1 SS.2.1 hr (fun t ht hW => ⟨⟨_, (uV (uV (uI (uI (uL (uV (uI (uI (uI (uV (uI (uI u 10 X_31) 11 Y_31) 12 n_31) 20 A_31) 21 B_31) 22 S_31) 23 m_31) 24 C_31) 25 F_31) 26 W_31) 27 c_31) 28 t_31), rfl, ⟨(-5), rfl, (⟨X_31, Y_31, n_31, A_31, B_31, S_31, m_31, C_31, F_31, W_31, c_31, t_31, rfl, hI⟩)⟩, by show va_P D.1 j_cl (mW D o q (uV (uV (uI (uI (uL (uV (uI (uI (uI (uV (uI (uI u 10 X_31) 11 Y_31) 12 n_31) 20 A_31) 21 B_31) 22 S_31) 23 m_31) 24 C_31) 25 F_31) 26 W_31) 27 c_31) 28 t_31)) t.heap; rw [ht]; exact hP⟩, hS.F ht⟩) hS.2.2 dX12_cut_43 hlk
        · skip
          refine j_bipush SS dX12_cut_26 (by decide +kernel) ?_
          exact W.iret SS.1 SS.2.1 hr (fun t ht hW => ⟨⟨_, (uV (uV (uI (uI (uL (uV (uI (uI (uI (uV (uI (uI u 10 (u.1 10)) 11 (u.1 11)) 12 (u.2.2 12)) 20 (u.1 20)) 21 (u.1 21)) 22 (u.1 22)) 23 (u.2.2 23)) 24 (u.2.1 24)) 25 (u.1 25)) 26 (u.1 26)) 27 (u.2.2 27)) 28 (u.2.2 28)), rfl, ⟨(-2), rfl, (⟨(u.1 10), (u.1 11), (u.2.2 12), (u.1 20), (u.1 21), (u.1 22), (u.2.2 23), (u.2.1 24), (u.1 25), (u.1 26), (u.2.2 27), (u.2.2 28), rfl, p0⟩)⟩, by show va_P D.1 j_cl (mW D o q (uV (uV (uI (uI (uL (uV (uI (uI (uI (uV (uI (uI u 10 (u.1 10)) 11 (u.1 11)) 12 (u.2.2 12)) 20 (u.1 20)) 21 (u.1 21)) 22 (u.1 22)) 23 (u.2.2 23)) 24 (u.2.1 24)) 25 (u.1 25)) 26 (u.1 26)) 27 (u.2.2 27)) 28 (u.2.2 28))) t.heap; rw [ht]; exact hP⟩, hS.F ht⟩) hS.2.2 dX12_cut_28 hlk
      · skip
        refine j_iconst SS dX12_cut_16 ?_
        exact W.iret SS.1 SS.2.1 hr (fun t ht hW => ⟨⟨_, (uV (uV (uI (uI (uL (uV (uI (uI (uI (uV (uI (uI u 10 (u.1 10)) 11 (u.1 11)) 12 (u.2.2 12)) 20 (u.1 20)) 21 (u.1 21)) 22 (u.1 22)) 23 (u.2.2 23)) 24 (u.2.1 24)) 25 (u.1 25)) 26 (u.1 26)) 27 (u.2.2 27)) 28 (u.2.2 28)), rfl, ⟨(-1), rfl, (⟨(u.1 10), (u.1 11), (u.2.2 12), (u.1 20), (u.1 21), (u.1 22), (u.2.2 23), (u.2.1 24), (u.1 25), (u.1 26), (u.2.2 27), (u.2.2 28), rfl, p0⟩)⟩, by show va_P D.1 j_cl (mW D o q (uV (uV (uI (uI (uL (uV (uI (uI (uI (uV (uI (uI u 10 (u.1 10)) 11 (u.1 11)) 12 (u.2.2 12)) 20 (u.1 20)) 21 (u.1 21)) 22 (u.1 22)) 23 (u.2.2 23)) 24 (u.2.1 24)) 25 (u.1 25)) 26 (u.1 26)) 27 (u.2.2 27)) 28 (u.2.2 28))) t.heap; rw [ht]; exact hP⟩, hS.F ht⟩) hS.2.2 dX12_cut_17 hlk

