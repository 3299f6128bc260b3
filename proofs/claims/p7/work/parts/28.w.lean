theorem kw_1029 : Cond.constantLong RJ13 314 (6148914691236517205) ∈ lw_g := lw_gin 1029 (by decide +kernel) (by decide +kernel)
theorem kw_1030 : Cond.constantLong RJ13 316 (3689348814741910323) ∈ lw_g := lw_gin 1030 (by decide +kernel) (by decide +kernel)
theorem kw_1031 : Cond.constantLong RJ13 318 (1085102592571150095) ∈ lw_g := lw_gin 1031 (by decide +kernel) (by decide +kernel)
theorem set_self {α : Type} {l : List α} {k : Nat} {x : α} (h : l[k]? = some x) : l.set k x = l := by
  apply List.ext_getElem?
  intro j
  rw [List.getElem?_set]
  by_cases e : k = j
  · subst e
    rw [if_pos rfl, if_pos (List.getElem?_eq_some_iff.mp h).1, h]
  · rw [if_neg e]
theorem Met_ofWF {l : Launch} {y : MethodName} {ws ws' : List Cond} {rm : Room} {Pc : Array Value → State → Prop} {Qc : Array Value → State → Outcome → State → Prop} {mc ms : Nat} {free : Addr → Prop} {cc : ByteArray} {maxL : Nat} {ret : Option FieldType}
    (hy : plainFor y = true) (hw : ws = Cond.code y cc maxL ret :: ws')
    (body : ∀ p e s m args below meth c s₁, BodyLoose p l y (headSpec ws rm) cc maxL ret e s m args below meth c s₁ → c.maxLocals = maxL → Pc args s →
      W p l e (headSpec ws rm).room s m args below meth c s.heap [] 0 0 (MQ below Qc args s mc ms free) (entryFrame m args maxL)) : Met l y ws rm Pc Qc mc ms free := by
  refine MetFree.of_bodySF (code := cc) (maxLocals := maxL) (ret := ret) hy ?_ ?_
  · intro args s m h hn
    obtain ⟨meth, c, h1, h2, h3, h4, h5, h6, -, -⟩ := Cond.code_spec hn (atoms_spec (ws := ws) h _ (by rw [hw]; exact List.mem_cons_self))
    exact ⟨meth, c, h1, h2, h3, h4, h5, h6⟩
  · intro p e s m args below meth c s₁ B hml hP _
    have hh0 : s₁.heap = s.heap := by rw [B.state]; rfl
    obtain ⟨t, a1, o, b1, b2, b3⟩ := body p e s m args below meth c s₁ B hml hP s₁ hh0 (Stand.of_body B)
    exact ⟨t, o, a1, b1, b2, ⟨b3.1, b3.2⟩⟩
theorem J_nat (n : Nat) : Int32.ofNat n = J (n : Int) := by
  apply Int32.toBitVec_inj.mp
  show BitVec.ofNat 32 n = (Int32.ofInt (n : Int)).toBitVec
  rw [Int32.toBitVec_ofInt, BitVec.ofInt_natCast]
theorem J_xsg {a b : Int} (ha : -2147483648 ≤ a ∧ a ≤ 2147483647) (hb : -2147483648 ≤ b ∧ b ≤ 2147483647) : (J a ^^^ J b).toInt < 0 ↔ ¬ (a < 0 ↔ b < 0) := by
  have h1 : (J a ^^^ J b).toBitVec.msb = ((J a).toBitVec.msb ^^ (J b).toBitVec.msb) := by rw [Int32.toBitVec_xor, BitVec.msb_xor]
  rw [BitVec.msb_eq_toInt, BitVec.msb_eq_toInt, BitVec.msb_eq_toInt] at h1
  have h2 : decide ((J a ^^^ J b).toInt < 0) = (decide ((J a).toInt < 0) ^^ decide ((J b).toInt < 0)) := h1
  rw [J_toInt ha, J_toInt hb] at h2
  by_cases c1 : (J a ^^^ J b).toInt < 0 <;> by_cases c2 : a < 0 <;> by_cases c3 : b < 0 <;> simp [c1, c2, c3] at h2 ⊢
theorem J_a127 (x : Int32) : 0 ≤ (x &&& J 127).toInt ∧ (x &&& J 127).toInt ≤ 127 := by
  have h1 : (x &&& J 127).toBitVec.toNat ≤ 127 := by
    rw [Ja_nat, J_bn (by omega)]
    exact Nat.and_le_right
  have h2 : (x &&& J 127) = J (((x &&& J 127).toBitVec.toNat : Nat) : Int) := by
    rw [← J_nat]
    apply Int32.toBitVec_inj.mp
    show _ = BitVec.ofNat 32 _
    rw [BitVec.ofNat_toNat, BitVec.setWidth_eq]
  rw [h2, J_toInt (by omega)]
  omega
theorem fd_a {a b : Int} (hb : 0 < b) (ha : 0 ≤ a) : a.tdiv b = a / b := Int.tdiv_eq_ediv_of_nonneg ha
theorem fd_n {a b : Int} (hb : 0 < b) (ha : a < 0) : (a.tdiv b * b = a → a.tdiv b = a / b) ∧ (a.tdiv b * b ≠ a → a.tdiv b - 1 = a / b) := by
  obtain ⟨c, rfl⟩ : ∃ c, a = -c := ⟨-a, by omega⟩
  rw [Int.neg_tdiv, Int.tdiv_eq_ediv_of_nonneg (by omega)]
  have h1 := Int.emod_nonneg c (show b ≠ 0 by omega)
  have h2 := Int.emod_lt_of_pos c hb
  have h3 := Int.emod_add_mul_ediv c b
  generalize c / b = k at *
  rw [Int.mul_comm] at h3
  constructor
  · intro h
    refine (fl_u hb (by omega) ?_).symm
    rw [Int.add_mul]; omega
  · intro h
    refine (fl_u hb ?_ ?_).symm
    · rw [Int.sub_mul]; rw [Int.neg_mul] at h ⊢; omega
    · rw [Int.add_mul, Int.sub_mul]; rw [Int.neg_mul] at h ⊢; omega
theorem fd_m {a b : Int} (hb : 0 < b) : (a.tdiv b * b).natAbs ≤ a.natAbs := by
  rw [Int.natAbs_mul, Int.natAbs_tdiv]
  exact Nat.div_mul_le_self _ _
/-- each division halves the product: fewer than 64 are wanted -/
def gf (m n i : Int) : Prop := n = 0 ∨ i = 0 ∨ (0 < i ∧ n < m ∧ m * n * 2 ^ (i - 1).toNat ≤ 10000000000)
theorem gf_s {m n i r : Int} (hi : 0 ≤ i) (hm : 0 ≤ m ∧ m ≤ 100000) (hn : 0 < n ∧ n ≤ 100000) (h : gf m n i) (hr : r = m.tmod n) : gf n r (i + 1) := by
  have hb := tm_b hm.1 hn.1
  rw [← hr] at hb
  refine Or.inr (Or.inr ⟨by omega, hb.2, ?_⟩)
  rw [show i + 1 - 1 = i by omega]
  rcases h with h | h | ⟨h1, h2, h3⟩
  · omega
  · subst h
    have m1 := mulb (A := 100000) (B := 100000) (a := n) (b := r) (by omega) (by omega)
    rw [show (2 : Int) ^ (0 : Int).toNat = 1 from rfl]; omega
  · have e := Int.tmod_add_tdiv_mul m n
    rw [← hr] at e
    have hq : 1 ≤ m.tdiv n := by
      rw [Int.tdiv_eq_ediv_of_nonneg hm.1]
      exact (Int.le_ediv_iff_mul_le hn.1).mpr (by omega)
    have e2 : 1 * n ≤ m.tdiv n * n := Int.mul_le_mul_of_nonneg_right hq (by omega)
    have e3 : n * (2 * r) ≤ n * m := Int.mul_le_mul_of_nonneg_left (by omega) (by omega)
    have e4 : n * (2 * r) * 2 ^ (i - 1).toNat ≤ n * m * 2 ^ (i - 1).toNat := Int.mul_le_mul_of_nonneg_right e3 (Int.pow_nonneg (by decide))
    rw [show i.toNat = (i - 1).toNat + 1 by omega, Int.pow_succ]
    have e5 : n * r * (2 ^ (i - 1).toNat * 2) = n * (2 * r) * 2 ^ (i - 1).toNat := by grind
    have e6 : n * m * 2 ^ (i - 1).toNat = m * n * 2 ^ (i - 1).toNat := by rw [Int.mul_comm n m]
    omega
theorem gf_e {m n i : Int} (hn : 0 ≤ n) (hi : i = 64) (h : gf m n i) : n = 0 := by
  apply Classical.byContradiction
  intro hc
  rcases h with h | h | ⟨h1, h2, h3⟩
  · exact hc h
  · omega
  · subst hi
    have p1 : 0 < m * n := Int.mul_pos (by omega) (by omega)
    have p2 : 1 * 2 ^ ((64 : Int) - 1).toNat ≤ m * n * 2 ^ ((64 : Int) - 1).toNat := Int.mul_le_mul_of_nonneg_right (by omega) (Int.pow_nonneg (by decide))
    rw [show (2 : Int) ^ ((64 : Int) - 1).toNat = 9223372036854775808 from rfl] at p2 h3
    omega
def RB (K : Int) (u : CS) (r : Nat) : Prop := (0 ≤ u.1.2.2.1 r ∧ u.1.2.2.1 r ≤ rl r) ∧ ∀ i : Nat, (-K ≤ u.1.1 r i ∧ u.1.1 r i ≤ K) ∧ -K ≤ u.1.2.1 r i ∧ u.1.2.1 r i ≤ K

theorem c_J7_fill_53178 (l : Launch) (D : JD) {ws : va_W} {A : Nat → Prop} (hD : va_D A ws) (k : Nat) (v : Int) {a n : Nat} {f : Nat → Int} (hk : ws[k]? = some (a, .inl (D.2.1, n, .inl (fun j9 => J (f j9))))) (hn : n ≤ 1000000) : Met l yJ7_fill_53178 (jw yJ7_fill_53178 cJ7_fill_53178 4 none) (jr 0 0) (jP [.ref a, .int (J v)] D (fun H => va_P D.1 j_cl ws H)) (jWv (fun _ : Unit => True) (fun _ H => va_P D.1 j_cl (ws.set k (a, .inl (D.2.1, n, .inl (fun j9 => J ((jf f v n) j9))))) H) A) 0 0 A := by
  have hkl : k < ws.length := (List.getElem?_eq_some_iff.mp hk).1
  refine Met_ofWF (cc := cJ7_fill_53178) (maxL := 4) (ret := none) (by decide +kernel) rfl ?_
  intro pr en st mi args below meth co s₁ B hml hv
  obtain ⟨rfl, hG, hP⟩ := hv
  have hr := B.returns
  have hlk := B.notSynchronized
  have SS : jS pr mi co cJ7_fill_53178 4 st _ RJ7 := ⟨B.exec, B.bytes, hml, findClass_of_methodNamed B.named, fun w hw => atoms_spec (ws := (jw yJ7_fill_53178 cJ7_fill_53178 4 none)) B.pre w (List.mem_cons_of_mem _ hw)⟩
  have hl := lv_entry ([.ref a, .int (J v)]) (n := 4) (Nat.le_of_ble_eq_true rfl)
  rw [lg_entry_eq]
  generalize (lg_sl ([.ref a, .int (J v)]) ++ List.replicate (4 - (lg_sl ([.ref a, .int (J v)])).length) Slot.unset).toArray = ls at hl ⊢
  have hl : lv_has ls 4 [(0, .ref a), (1, .int (J v))] := hl
  have hS : va_S A st.heap st.heap [] := va_S.rf
  refine j_iconst SS dJ7_fill_53178_0 ?_
  refine lv_istore_n (lv' := [(2, .int (J 0)), (0, .ref a), (1, .int (J v))]) SS.1 SS.2.1 dJ7_fill_53178_1 rfl hl (by decide) rfl (fun ls hl => ?_)
  refine lv_aload_n SS.1 SS.2.1 dJ7_fill_53178_2 rfl (lv_at hl 1 rfl) ?_
  refine va_alen SS.1 SS.2.1 hG.1 hP k 0 hk rfl (v := J (n : Int)) (J_nat n) dJ7_fill_53178_3 ?_
  refine lv_istore_n (lv' := [(3, .int (J (n : Int))), (2, .int (J 0)), (0, .ref a), (1, .int (J v))]) SS.1 SS.2.1 dJ7_fill_53178_4 rfl hl (by decide) rfl (fun ls hl => ?_)
  have L_5 : ∀ (nn : Nat) (i : Int) (H : Heap) (locs : List Loc) (hP : va_P D.1 j_cl (ws.set k (a, .inl (D.2.1, n, .inl (fun j9 => J ((jf f v i.toNat) j9))))) H) (hS : va_S A st.heap H locs) (ls : Array Slot) (hl : lv_has ls 4 [(3, .int (J (n : Int))), (2, .int (J i)), (0, .ref a), (1, .int (J v))]) (hi : 0 ≤ i ∧ i ≤ n), ((n : Int) - i).toNat < nn → W pr l en (headSpec (jw yJ7_fill_53178 cJ7_fill_53178 4 none) (jr 0 0)).room st mi (([.ref a, .int (J v)] : List Value).toArray) below meth co H locs 0 0 (MQ below (jWv (fun _ : Unit => True) (fun _ H => va_P D.1 j_cl (ws.set k (a, .inl (D.2.1, n, .inl (fun j9 => J ((jf f v n) j9))))) H) A) (([.ref a, .int (J v)] : List Value).toArray) st 0 0 A) (F0 mi 5 ls []) := by
    intro nn
    induction nn with
    | zero => intros; omega
    | succ nn ih =>
      intro i H locs hP hS ls hl hi hm
      refine lv_iload_n SS.1 SS.2.1 dJ7_fill_53178_5 rfl (lv_at hl 1 rfl) ?_
      refine lv_iload_n SS.1 SS.2.1 dJ7_fill_53178_6 rfl (lv_at hl 0 rfl) ?_
      refine j_icmp_ge SS (tgt := 20) (x := i) (y := (n : Int)) dJ7_fill_53178_7 (by decide) (by omega) (by omega) (fun c => ?_) (fun c => ?_)
      · have e : i.toNat = n := by omega
        rw [e] at hP
        exact W.vret SS.1 SS.2.1 hr (fun t ht hW => ⟨⟨(), rfl, trivial, by show va_P D.1 j_cl _ t.heap; rw [ht]; exact hP⟩, hS.F ht⟩) hS.2.2 dJ7_fill_53178_20 hlk
      · refine lv_aload_n SS.1 SS.2.1 dJ7_fill_53178_10 rfl (lv_at hl 2 rfl) ?_
        refine lv_iload_n SS.1 SS.2.1 dJ7_fill_53178_11 rfl (lv_at hl 1 rfl) ?_
        refine lv_iload_n SS.1 SS.2.1 dJ7_fill_53178_12 rfl (lv_at hl 3 rfl) ?_
        refine j_iast SS hG hP (hD.set hk) hS k (n := n) (f := jf f v i.toNat) (List.getElem?_set_self hkl) (z := i) (v := v) (by omega) (by omega) dJ7_fill_53178_13 (ws' := ws.set k (a, .inl (D.2.1, n, .inl (fun j9 => J ((jf f v (i.toNat + 1)) j9))))) (by rw [List.set_set, jf_s]) (fun H locs hP hS => ?_)
        refine lv_iinc (v := J (i + 1)) (lv' := [(2, .int (J (i + 1))), (3, .int (J (n : Int))), (0, .ref a), (1, .int (J v))]) SS.1 SS.2.1 dJ7_fill_53178_14 hl (k := 1) rfl (J_add _ _) (by decide) rfl (fun ls hl => ?_)
        refine lv_goto (tgt := 5) SS.1 SS.2.1 dJ7_fill_53178_17 (by decide) ?_
        exact ih (i + 1) H locs (by rw [show (i + 1).toNat = i.toNat + 1 by omega]; exact hP) hS ls (lv_sub hl [1, 0, 2, 3] rfl) (by omega) (by omega)
  exact L_5 (((n : Int) - 0).toNat + 1) 0 st.heap [] (by
    rw [show (0 : Int).toNat = 0 from rfl, jf_0, set_self hk]; exact hP) hS ls (lv_sub hl [0, 1, 2, 3] rfl) (by omega) (Nat.lt_succ_self _)

theorem c_J7_fill_d0a16 (l : Launch) (D : JD) {ws : va_W} {A : Nat → Prop} (hD : va_D A ws) (k : Nat) (v : Int64) {a n : Nat} {f : Nat → Int64} (hk : ws[k]? = some (a, .inl (D.2.2.1, n, .inr (.inl f)))) (hn : n ≤ 1000000) : Met l yJ7_fill_d0a16 (jw yJ7_fill_d0a16 cJ7_fill_d0a16 5 none) (jr 0 0) (jP [.ref a, .long v] D (fun H => va_P D.1 j_cl ws H)) (jWv (fun _ : Unit => True) (fun _ H => va_P D.1 j_cl (ws.set k (a, .inl (D.2.2.1, n, .inr (.inl (jfL f v n))))) H) A) 0 0 A := by
  have hkl : k < ws.length := (List.getElem?_eq_some_iff.mp hk).1
  refine Met_ofWF (cc := cJ7_fill_d0a16) (maxL := 5) (ret := none) (by decide +kernel) rfl ?_
  intro pr en st mi args below meth co s₁ B hml hv
  obtain ⟨rfl, hG, hP⟩ := hv
  have hr := B.returns
  have hlk := B.notSynchronized
  have SS : jS pr mi co cJ7_fill_d0a16 5 st _ RJ7 := ⟨B.exec, B.bytes, hml, findClass_of_methodNamed B.named, fun w hw => atoms_spec (ws := (jw yJ7_fill_d0a16 cJ7_fill_d0a16 5 none)) B.pre w (List.mem_cons_of_mem _ hw)⟩
  have hl := lv_entry ([.ref a, .long v]) (n := 5) (Nat.le_of_ble_eq_true rfl)
  rw [lg_entry_eq]
  generalize (lg_sl ([.ref a, .long v]) ++ List.replicate (5 - (lg_sl ([.ref a, .long v])).length) Slot.unset).toArray = ls at hl ⊢
  have hl : lv_has ls 5 [(0, .ref a), (1, .long v)] := hl
  have hS : va_S A st.heap st.heap [] := va_S.rf
  refine j_iconst SS dJ7_fill_d0a16_0 ?_
  refine lv_istore_n (lv' := [(3, .int (J 0)), (0, .ref a), (1, .long v)]) SS.1 SS.2.1 dJ7_fill_d0a16_1 rfl hl (by decide) rfl (fun ls hl => ?_)
  refine lv_aload_n SS.1 SS.2.1 dJ7_fill_d0a16_2 rfl (lv_at hl 1 rfl) ?_
  refine va_alen SS.1 SS.2.1 hG.1 hP k 1 hk rfl (v := J (n : Int)) (J_nat n) dJ7_fill_d0a16_3 ?_
  refine lv_istore (lv' := [(4, .int (J (n : Int))), (3, .int (J 0)), (0, .ref a), (1, .long v)]) SS.1 SS.2.1 dJ7_fill_d0a16_4 hl (by decide) rfl (fun ls hl => ?_)
  have L_5 : ∀ (nn : Nat) (i : Int) (H : Heap) (locs : List Loc) (hP : va_P D.1 j_cl (ws.set k (a, .inl (D.2.2.1, n, .inr (.inl (jfL f v i.toNat))))) H) (hS : va_S A st.heap H locs) (ls : Array Slot) (hl : lv_has ls 5 [(4, .int (J (n : Int))), (3, .int (J i)), (0, .ref a), (1, .long v)]) (hi : 0 ≤ i ∧ i ≤ n), ((n : Int) - i).toNat < nn → W pr l en (headSpec (jw yJ7_fill_d0a16 cJ7_fill_d0a16 5 none) (jr 0 0)).room st mi (([.ref a, .long v] : List Value).toArray) below meth co H locs 0 0 (MQ below (jWv (fun _ : Unit => True) (fun _ H => va_P D.1 j_cl (ws.set k (a, .inl (D.2.2.1, n, .inr (.inl (jfL f v n))))) H) A) (([.ref a, .long v] : List Value).toArray) st 0 0 A) (F0 mi 6 ls []) := by
    intro nn
    induction nn with
    | zero => intros; omega
    | succ nn ih =>
      intro i H locs hP hS ls hl hi hm
      refine lv_iload_n SS.1 SS.2.1 dJ7_fill_d0a16_6 rfl (lv_at hl 1 rfl) ?_
      refine lv_iload SS.1 SS.2.1 dJ7_fill_d0a16_7 (lv_at hl 0 rfl) ?_
      refine j_icmp_ge SS (tgt := 22) (x := i) (y := (n : Int)) dJ7_fill_d0a16_9 (by decide) (by omega) (by omega) (fun c => ?_) (fun c => ?_)
      · have e : i.toNat = n := by omega
        rw [e] at hP
        exact W.vret SS.1 SS.2.1 hr (fun t ht hW => ⟨⟨(), rfl, trivial, by show va_P D.1 j_cl _ t.heap; rw [ht]; exact hP⟩, hS.F ht⟩) hS.2.2 dJ7_fill_d0a16_22 hlk
      · refine lv_aload_n SS.1 SS.2.1 dJ7_fill_d0a16_12 rfl (lv_at hl 2 rfl) ?_
        refine lv_iload_n SS.1 SS.2.1 dJ7_fill_d0a16_13 rfl (lv_at hl 1 rfl) ?_
        refine lv_lload_n SS.1 SS.2.1 dJ7_fill_d0a16_14 rfl (lv_at hl 3 rfl) ?_
        refine j_last SS hG hP (hD.set hk) hS k (n := n) (f := jfL f v i.toNat) (List.getElem?_set_self hkl) (z := i) (v := v) (by omega) (by omega) dJ7_fill_d0a16_15 (ws' := ws.set k (a, .inl (D.2.2.1, n, .inr (.inl (jfL f v (i.toNat + 1)))))) (by rw [List.set_set, jfL_s]) (fun H locs hP hS => ?_)
        refine lv_iinc (v := J (i + 1)) (lv' := [(3, .int (J (i + 1))), (4, .int (J (n : Int))), (0, .ref a), (1, .long v)]) SS.1 SS.2.1 dJ7_fill_d0a16_16 hl (k := 1) rfl (J_add _ _) (by decide) rfl (fun ls hl => ?_)
        refine lv_goto (tgt := 6) SS.1 SS.2.1 dJ7_fill_d0a16_19 (by decide) ?_
        exact ih (i + 1) H locs (by rw [show (i + 1).toNat = i.toNat + 1 by omega]; exact hP) hS ls (lv_sub hl [1, 0, 2, 3] rfl) (by omega) (by omega)
  exact L_5 (((n : Int) - 0).toNat + 1) 0 st.heap [] (by
    rw [show (0 : Int).toNat = 0 from rfl, jfL_0, set_self hk]; exact hP) hS ls (lv_sub hl [0, 1, 2, 3] rfl) (by omega) (Nat.lt_succ_self _)

set_option maxHeartbeats 4000000 in
set_option maxRecDepth 100000 in
theorem c_J9_max_7cf53 (l : Launch) (D : JD) (a : Int) (b : Int) (p0 : -2147483648 ≤ a ∧ a ≤ 2147483647) (p1 : -2147483648 ≤ b ∧ b ≤ 2147483647) : Met l yJ9_max_7cf53 (jw yJ9_max_7cf53 cJ9_max_7cf53 2 (some .int)) (jr 0 0) (jP [.int (J a), .int (J b)] D (fun _ => True)) (jRi (fun z => (z = a ∨ z = b) ∧ a ≤ z ∧ b ≤ z)) 0 0 (fun _ => False) := by
  refine Met_ofWF (cc := cJ9_max_7cf53) (maxL := 2) (ret := (some .int)) (by decide +kernel) rfl ?_
  intro pr en st mi args below meth co s₁ B hml hv
  obtain ⟨rfl, hG, hP⟩ := hv
  have hr := B.returns
  have hlk := B.notSynchronized
  have SS : jS pr mi co cJ9_max_7cf53 2 st _ RJ9 := ⟨B.exec, B.bytes, hml, findClass_of_methodNamed B.named, fun w hw => atoms_spec (ws := (jw yJ9_max_7cf53 cJ9_max_7cf53 2 (some .int))) B.pre w (List.mem_cons_of_mem _ hw)⟩
  have hl := lv_entry ([.int (J a), .int (J b)]) (n := 2) (Nat.le_of_ble_eq_true rfl)
  rw [lg_entry_eq]
  generalize (lg_sl ([.int (J a), .int (J b)]) ++ List.replicate (2 - (lg_sl ([.int (J a), .int (J b)])).length) Slot.unset).toArray = ls at hl ⊢
  have hl : lv_has ls 2 [(0, .int (J a)), (1, .int (J b))] := hl
  refine lv_iload_n SS.1 SS.2.1 dJ9_max_7cf53_0 rfl (lv_at hl 0 rfl) ?_
  refine lv_iload_n SS.1 SS.2.1 dJ9_max_7cf53_1 rfl (lv_at hl 1 rfl) ?_
  refine j_icmp_lt SS (tgt := 9) (x := a) (y := b) dJ9_max_7cf53_2 (by decide) (by omega) (by omega) (fun c_2 => ?_) (fun c_2 => ?_)
  · skip
    refine lv_iload_n SS.1 SS.2.1 dJ9_max_7cf53_9 rfl (lv_at hl 1 rfl) ?_
    exact W.iret SS.1 SS.2.1 hr (fun t0 ht hW => ⟨_, rfl, ⟨b, rfl, (by omega)⟩, ht⟩) (fun _ h => nomatch h) dJ9_max_7cf53_10 hlk
  · skip
    refine lv_iload_n SS.1 SS.2.1 dJ9_max_7cf53_5 rfl (lv_at hl 0 rfl) ?_
    refine lv_goto (tgt := 10) SS.1 SS.2.1 dJ9_max_7cf53_6 (by decide) ?_
    exact W.iret SS.1 SS.2.1 hr (fun t0 ht hW => ⟨_, rfl, ⟨a, rfl, (by omega)⟩, ht⟩) (fun _ h => nomatch h) dJ9_max_7cf53_10 hlk

set_option maxHeartbeats 4000000 in
set_option maxRecDepth 100000 in
theorem c_J9_min_7cf53 (l : Launch) (D : JD) (a : Int) (b : Int) (p0 : -2147483648 ≤ a ∧ a ≤ 2147483647) (p1 : -2147483648 ≤ b ∧ b ≤ 2147483647) : Met l yJ9_min_7cf53 (jw yJ9_min_7cf53 cJ9_min_7cf53 2 (some .int)) (jr 0 0) (jP [.int (J a), .int (J b)] D (fun _ => True)) (jRi (fun z => (z = a ∨ z = b) ∧ z ≤ a ∧ z ≤ b)) 0 0 (fun _ => False) := by
  refine Met_ofWF (cc := cJ9_min_7cf53) (maxL := 2) (ret := (some .int)) (by decide +kernel) rfl ?_
  intro pr en st mi args below meth co s₁ B hml hv
  obtain ⟨rfl, hG, hP⟩ := hv
  have hr := B.returns
  have hlk := B.notSynchronized
  have SS : jS pr mi co cJ9_min_7cf53 2 st _ RJ9 := ⟨B.exec, B.bytes, hml, findClass_of_methodNamed B.named, fun w hw => atoms_spec (ws := (jw yJ9_min_7cf53 cJ9_min_7cf53 2 (some .int))) B.pre w (List.mem_cons_of_mem _ hw)⟩
  have hl := lv_entry ([.int (J a), .int (J b)]) (n := 2) (Nat.le_of_ble_eq_true rfl)
  rw [lg_entry_eq]
  generalize (lg_sl ([.int (J a), .int (J b)]) ++ List.replicate (2 - (lg_sl ([.int (J a), .int (J b)])).length) Slot.unset).toArray = ls at hl ⊢
  have hl : lv_has ls 2 [(0, .int (J a)), (1, .int (J b))] := hl
  refine lv_iload_n SS.1 SS.2.1 dJ9_min_7cf53_0 rfl (lv_at hl 0 rfl) ?_
  refine lv_iload_n SS.1 SS.2.1 dJ9_min_7cf53_1 rfl (lv_at hl 1 rfl) ?_
  refine j_icmp_gt SS (tgt := 9) (x := a) (y := b) dJ9_min_7cf53_2 (by decide) (by omega) (by omega) (fun c_2 => ?_) (fun c_2 => ?_)
  · skip
    refine lv_iload_n SS.1 SS.2.1 dJ9_min_7cf53_9 rfl (lv_at hl 1 rfl) ?_
    exact W.iret SS.1 SS.2.1 hr (fun t0 ht hW => ⟨_, rfl, ⟨b, rfl, (by omega)⟩, ht⟩) (fun _ h => nomatch h) dJ9_min_7cf53_10 hlk
  · skip
    refine lv_iload_n SS.1 SS.2.1 dJ9_min_7cf53_5 rfl (lv_at hl 0 rfl) ?_
    refine lv_goto (tgt := 10) SS.1 SS.2.1 dJ9_min_7cf53_6 (by decide) ?_
    exact W.iret SS.1 SS.2.1 hr (fun t0 ht hW => ⟨_, rfl, ⟨a, rfl, (by omega)⟩, ht⟩) (fun _ h => nomatch h) dJ9_min_7cf53_10 hlk

set_option maxHeartbeats 4000000 in
set_option maxRecDepth 100000 in
theorem c_J9_abs_0f7a4 (l : Launch) (D : JD) (a : Int) (p0 : -2147483648 < a ∧ a ≤ 2147483647) : Met l yJ9_abs_0f7a4 (jw yJ9_abs_0f7a4 cJ9_abs_0f7a4 1 (some .int)) (jr 0 0) (jP [.int (J a)] D (fun _ => True)) (jRi (fun z => 0 ≤ z ∧ (z = a ∨ z = -a))) 0 0 (fun _ => False) := by
  refine Met_ofWF (cc := cJ9_abs_0f7a4) (maxL := 1) (ret := (some .int)) (by decide +kernel) rfl ?_
  intro pr en st mi args below meth co s₁ B hml hv
  obtain ⟨rfl, hG, hP⟩ := hv
  have hr := B.returns
  have hlk := B.notSynchronized
  have SS : jS pr mi co cJ9_abs_0f7a4 1 st _ RJ9 := ⟨B.exec, B.bytes, hml, findClass_of_methodNamed B.named, fun w hw => atoms_spec (ws := (jw yJ9_abs_0f7a4 cJ9_abs_0f7a4 1 (some .int))) B.pre w (List.mem_cons_of_mem _ hw)⟩
  have hl := lv_entry ([.int (J a)]) (n := 1) (Nat.le_of_ble_eq_true rfl)
  rw [lg_entry_eq]
  generalize (lg_sl ([.int (J a)]) ++ List.replicate (1 - (lg_sl ([.int (J a)])).length) Slot.unset).toArray = ls at hl ⊢
  have hl : lv_has ls 1 [(0, .int (J a))] := hl
  refine lv_iload_n SS.1 SS.2.1 dJ9_abs_0f7a4_0 rfl (lv_at hl 0 rfl) ?_
  refine j_if_ge SS (tgt := 9) (x := a) dJ9_abs_0f7a4_1 (by decide) (by omega) (fun c_1 => ?_) (fun c_1 => ?_)
  · skip
    refine lv_iload_n SS.1 SS.2.1 dJ9_abs_0f7a4_9 rfl (lv_at hl 0 rfl) ?_
    exact W.iret SS.1 SS.2.1 hr (fun t0 ht hW => ⟨_, rfl, ⟨a, rfl, (by omega)⟩, ht⟩) (fun _ h => nomatch h) dJ9_abs_0f7a4_10 hlk
  · skip
    refine lv_iload_n SS.1 SS.2.1 dJ9_abs_0f7a4_4 rfl (lv_at hl 0 rfl) ?_
    refine j_ineg SS dJ9_abs_0f7a4_5 ?_
    refine lv_goto (tgt := 10) SS.1 SS.2.1 dJ9_abs_0f7a4_6 (by decide) ?_
    exact W.iret SS.1 SS.2.1 hr (fun t0 ht hW => ⟨_, rfl, ⟨(-a), rfl, (by omega)⟩, ht⟩) (fun _ h => nomatch h) dJ9_abs_0f7a4_10 hlk

set_option maxHeartbeats 4000000 in
set_option maxRecDepth 100000 in
theorem c_J9_floorDiv_7cf53 (l : Launch) (D : JD) (a : Int) (b : Int) (p0 : -2147483648 < a ∧ a ≤ 2147483647) (p1 : 0 < b ∧ b ≤ 2147483647) : Met l yJ9_floorDiv_7cf53 (jw yJ9_floorDiv_7cf53 cJ9_floorDiv_7cf53 3 (some .int)) (jr 0 0) (jP [.int (J a), .int (J b)] D (fun _ => True)) (jRi (fun z => z = a / b)) 0 0 (fun _ => False) := by
  refine Met_ofWF (cc := cJ9_floorDiv_7cf53) (maxL := 3) (ret := (some .int)) (by decide +kernel) rfl ?_
  intro pr en st mi args below meth co s₁ B hml hv
  obtain ⟨rfl, hG, hP⟩ := hv
  have hr := B.returns
  have hlk := B.notSynchronized
  have SS : jS pr mi co cJ9_floorDiv_7cf53 3 st _ RJ9 := ⟨B.exec, B.bytes, hml, findClass_of_methodNamed B.named, fun w hw => atoms_spec (ws := (jw yJ9_floorDiv_7cf53 cJ9_floorDiv_7cf53 3 (some .int))) B.pre w (List.mem_cons_of_mem _ hw)⟩
  have hl := lv_entry ([.int (J a), .int (J b)]) (n := 3) (Nat.le_of_ble_eq_true rfl)
  rw [lg_entry_eq]
  generalize (lg_sl ([.int (J a), .int (J b)]) ++ List.replicate (3 - (lg_sl ([.int (J a), .int (J b)])).length) Slot.unset).toArray = ls at hl ⊢
  have hl : lv_has ls 3 [(0, .int (J a)), (1, .int (J b))] := hl
  refine lv_iload_n SS.1 SS.2.1 dJ9_floorDiv_7cf53_0 rfl (lv_at hl 0 rfl) ?_
  refine lv_iload_n SS.1 SS.2.1 dJ9_floorDiv_7cf53_1 rfl (lv_at hl 1 rfl) ?_
  refine j_idiv SS (x := a) (y := b) dJ9_floorDiv_7cf53_2 (by omega) (by omega) (by omega) ?_
  obtain ⟨t9, et9⟩ : ∃ z : Int, z = (Int.tdiv a b) := ⟨_, rfl⟩
  rw [← et9]
  refine lv_istore_n (lv' := [(2, .int (J t9)), (0, .int (J a)), (1, .int (J b))]) SS.1 SS.2.1 dJ9_floorDiv_7cf53_3 rfl hl (by decide) rfl (fun ls hl => ?_)
  have ht := td_b (a := a) (b := b) (K := 2147483647) (by omega)
  rw [← et9] at ht
  refine lv_iload_n SS.1 SS.2.1 dJ9_floorDiv_7cf53_4 rfl (lv_at hl 1 rfl) ?_
  refine lv_iload_n SS.1 SS.2.1 dJ9_floorDiv_7cf53_5 rfl (lv_at hl 2 rfl) ?_
  refine lv_ixor SS.1 SS.2.1 dJ9_floorDiv_7cf53_6 ?_
  rw [J_of (J a ^^^ J b)]
  have r_6 := J_rng (J a ^^^ J b)
  have x_6 := J_xsg (a := a) (b := b) (by omega) (by omega)
  refine j_if_ge SS (tgt := 21) (x := (J a ^^^ J b).toInt) dJ9_floorDiv_7cf53_7 (by decide) (by omega) (fun c_7 => ?_) (fun c_7 => ?_)
  · skip
    refine lv_iload_n SS.1 SS.2.1 dJ9_floorDiv_7cf53_21 rfl (lv_at hl 0 rfl) ?_
    exact W.iret SS.1 SS.2.1 hr (fun t0 ht hW => ⟨_, rfl, ⟨t9, rfl, (by first | (rw [et9]; exact fd_a (by omega) (by omega)) | (have := hn.1 (by omega); omega))⟩, ht⟩) (fun _ h => nomatch h) dJ9_floorDiv_7cf53_22 hlk
  · skip
    refine lv_iload_n SS.1 SS.2.1 dJ9_floorDiv_7cf53_10 rfl (lv_at hl 0 rfl) ?_
    refine lv_iload_n SS.1 SS.2.1 dJ9_floorDiv_7cf53_11 rfl (lv_at hl 2 rfl) ?_
    refine j_imul SS (x := t9) (y := b) dJ9_floorDiv_7cf53_12 ?_
    refine lv_iload_n SS.1 SS.2.1 dJ9_floorDiv_7cf53_13 rfl (lv_at hl 1 rfl) ?_
    have hn := fd_n (a := a) (b := b) (by omega) (by omega)
    rw [← et9] at hn
    have hr2 : -2147483648 ≤ t9 * b ∧ t9 * b ≤ 2147483647 := by have q := Int.natAbs_tdiv_le_natAbs a b; have q2 := fd_m (a := a) (b := b) (by omega); rw [← et9] at q2; omega
    refine j_icmp_eq SS (tgt := 21) (x := (t9 * b)) (y := a) dJ9_floorDiv_7cf53_14 (by decide) (by omega) (by omega) (fun c_14 => ?_) (fun c_14 => ?_)
    · skip
      refine lv_iload_n SS.1 SS.2.1 dJ9_floorDiv_7cf53_21 rfl (lv_at hl 0 rfl) ?_
      exact W.iret SS.1 SS.2.1 hr (fun t0 ht hW => ⟨_, rfl, ⟨t9, rfl, (by first | (rw [et9]; exact fd_a (by omega) (by omega)) | (have := hn.1 (by omega); omega))⟩, ht⟩) (fun _ h => nomatch h) dJ9_floorDiv_7cf53_22 hlk
    · skip
      refine lv_iload_n SS.1 SS.2.1 dJ9_floorDiv_7cf53_17 rfl (lv_at hl 0 rfl) ?_
      refine j_iconst SS dJ9_floorDiv_7cf53_18 ?_
      refine j_isub SS (x := t9) (y := 1) dJ9_floorDiv_7cf53_19 ?_
      exact W.iret SS.1 SS.2.1 hr (fun t0 ht hW => ⟨_, rfl, ⟨(t9 - 1), rfl, (by have := hn.2 (by omega); omega)⟩, ht⟩) (fun _ h => nomatch h) dJ9_floorDiv_7cf53_20 hlk

set_option maxHeartbeats 4000000 in
set_option maxRecDepth 100000 in
theorem c_J13_bitCount_95d88 (l : Launch) (D : JD) (x : Int64) : Met l yJ13_bitCount_95d88 (jw yJ13_bitCount_95d88 cJ13_bitCount_95d88 2 (some .int)) (jr 0 0) (jP [.long x] D (fun _ => True)) (jRi (fun z => 0 ≤ z ∧ z ≤ 127)) 0 0 (fun _ => False) := by
  refine Met_ofWF (cc := cJ13_bitCount_95d88) (maxL := 2) (ret := (some .int)) (by decide +kernel) rfl ?_
  intro pr en st mi args below meth co s₁ B hml hv
  obtain ⟨rfl, hG, hP⟩ := hv
  have hr := B.returns
  have hlk := B.notSynchronized
  have SS : jS pr mi co cJ13_bitCount_95d88 2 st _ RJ13 := ⟨B.exec, B.bytes, hml, findClass_of_methodNamed B.named, fun w hw => atoms_spec (ws := (jw yJ13_bitCount_95d88 cJ13_bitCount_95d88 2 (some .int))) B.pre w (List.mem_cons_of_mem _ hw)⟩
  have hl := lv_entry ([.long x]) (n := 2) (Nat.le_of_ble_eq_true rfl)
  rw [lg_entry_eq]
  generalize (lg_sl ([.long x]) ++ List.replicate (2 - (lg_sl ([.long x])).length) Slot.unset).toArray = ls at hl ⊢
  have hl : lv_has ls 2 [(0, .long x)] := hl
  refine lv_lload_n SS.1 SS.2.1 dJ13_bitCount_95d88_0 rfl (lv_at hl 0 rfl) ?_
  refine lv_lload_n SS.1 SS.2.1 dJ13_bitCount_95d88_1 rfl (lv_at hl 0 rfl) ?_
  refine j_iconst SS dJ13_bitCount_95d88_2 ?_
  refine lv_lushr SS.1 SS.2.1 dJ13_bitCount_95d88_3 rfl (lv_topl (fun x_3 ex_3 => ?_))
  refine lv_ldc2 SS.1 SS.2.1 SS.2.2.2.1 (SS.2.2.2.2 _ kw_1029) dJ13_bitCount_95d88_4 ?_
  refine lv_land SS.1 SS.2.1 dJ13_bitCount_95d88_7 ?_
  refine lv_lsub SS.1 SS.2.1 dJ13_bitCount_95d88_8 ?_
  refine lv_lstore_n (lv' := [(0, .long (x - (x_3 &&& (6148914691236517205))))]) SS.1 SS.2.1 dJ13_bitCount_95d88_9 rfl hl (by decide) rfl (fun ls hl => ?_)
  refine lv_lload_n SS.1 SS.2.1 dJ13_bitCount_95d88_10 rfl (lv_at hl 0 rfl) ?_
  refine lv_ldc2 SS.1 SS.2.1 SS.2.2.2.1 (SS.2.2.2.2 _ kw_1030) dJ13_bitCount_95d88_11 ?_
  refine lv_land SS.1 SS.2.1 dJ13_bitCount_95d88_14 ?_
  refine lv_lload_n SS.1 SS.2.1 dJ13_bitCount_95d88_15 rfl (lv_at hl 0 rfl) ?_
  refine j_iconst SS dJ13_bitCount_95d88_16 ?_
  refine lv_lushr SS.1 SS.2.1 dJ13_bitCount_95d88_17 rfl (lv_topl (fun x_17 ex_17 => ?_))
  refine lv_ldc2 SS.1 SS.2.1 SS.2.2.2.1 (SS.2.2.2.2 _ kw_1030) dJ13_bitCount_95d88_18 ?_
  refine lv_land SS.1 SS.2.1 dJ13_bitCount_95d88_21 ?_
  refine lv_ladd SS.1 SS.2.1 dJ13_bitCount_95d88_22 ?_
  refine lv_lstore_n (lv' := [(0, .long (((x - (x_3 &&& (6148914691236517205))) &&& (3689348814741910323)) + (x_17 &&& (3689348814741910323))))]) SS.1 SS.2.1 dJ13_bitCount_95d88_23 rfl hl (by decide) rfl (fun ls hl => ?_)
  refine lv_lload_n SS.1 SS.2.1 dJ13_bitCount_95d88_24 rfl (lv_at hl 0 rfl) ?_
  refine lv_lload_n SS.1 SS.2.1 dJ13_bitCount_95d88_25 rfl (lv_at hl 0 rfl) ?_
  refine j_iconst SS dJ13_bitCount_95d88_26 ?_
  refine lv_lushr SS.1 SS.2.1 dJ13_bitCount_95d88_27 rfl (lv_topl (fun x_27 ex_27 => ?_))
  refine lv_ladd SS.1 SS.2.1 dJ13_bitCount_95d88_28 ?_
  refine lv_ldc2 SS.1 SS.2.1 SS.2.2.2.1 (SS.2.2.2.2 _ kw_1031) dJ13_bitCount_95d88_29 ?_
  refine lv_land SS.1 SS.2.1 dJ13_bitCount_95d88_32 ?_
  refine lv_lstore_n (lv' := [(0, .long (((((x - (x_3 &&& (6148914691236517205))) &&& (3689348814741910323)) + (x_17 &&& (3689348814741910323))) + x_27) &&& (1085102592571150095)))]) SS.1 SS.2.1 dJ13_bitCount_95d88_33 rfl hl (by decide) rfl (fun ls hl => ?_)
  refine lv_lload_n SS.1 SS.2.1 dJ13_bitCount_95d88_34 rfl (lv_at hl 0 rfl) ?_
  refine lv_lload_n SS.1 SS.2.1 dJ13_bitCount_95d88_35 rfl (lv_at hl 0 rfl) ?_
  refine j_bipush SS dJ13_bitCount_95d88_36 (by decide +kernel) ?_
  refine lv_lushr SS.1 SS.2.1 dJ13_bitCount_95d88_38 rfl (lv_topl (fun x_38 ex_38 => ?_))
  refine lv_ladd SS.1 SS.2.1 dJ13_bitCount_95d88_39 ?_
  refine lv_lstore_n (lv' := [(0, .long ((((((x - (x_3 &&& (6148914691236517205))) &&& (3689348814741910323)) + (x_17 &&& (3689348814741910323))) + x_27) &&& (1085102592571150095)) + x_38))]) SS.1 SS.2.1 dJ13_bitCount_95d88_40 rfl hl (by decide) rfl (fun ls hl => ?_)
  refine lv_lload_n SS.1 SS.2.1 dJ13_bitCount_95d88_41 rfl (lv_at hl 0 rfl) ?_
  refine lv_lload_n SS.1 SS.2.1 dJ13_bitCount_95d88_42 rfl (lv_at hl 0 rfl) ?_
  refine j_bipush SS dJ13_bitCount_95d88_43 (by decide +kernel) ?_
  refine lv_lushr SS.1 SS.2.1 dJ13_bitCount_95d88_45 rfl (lv_topl (fun x_45 ex_45 => ?_))
  refine lv_ladd SS.1 SS.2.1 dJ13_bitCount_95d88_46 ?_
  refine lv_lstore_n (lv' := [(0, .long (((((((x - (x_3 &&& (6148914691236517205))) &&& (3689348814741910323)) + (x_17 &&& (3689348814741910323))) + x_27) &&& (1085102592571150095)) + x_38) + x_45))]) SS.1 SS.2.1 dJ13_bitCount_95d88_47 rfl hl (by decide) rfl (fun ls hl => ?_)
  refine lv_lload_n SS.1 SS.2.1 dJ13_bitCount_95d88_48 rfl (lv_at hl 0 rfl) ?_
  refine lv_lload_n SS.1 SS.2.1 dJ13_bitCount_95d88_49 rfl (lv_at hl 0 rfl) ?_
  refine j_bipush SS dJ13_bitCount_95d88_50 (by decide +kernel) ?_
  refine lv_lushr SS.1 SS.2.1 dJ13_bitCount_95d88_52 rfl (lv_topl (fun x_52 ex_52 => ?_))
  refine lv_ladd SS.1 SS.2.1 dJ13_bitCount_95d88_53 ?_
  refine lv_lstore_n (lv' := [(0, .long ((((((((x - (x_3 &&& (6148914691236517205))) &&& (3689348814741910323)) + (x_17 &&& (3689348814741910323))) + x_27) &&& (1085102592571150095)) + x_38) + x_45) + x_52))]) SS.1 SS.2.1 dJ13_bitCount_95d88_54 rfl hl (by decide) rfl (fun ls hl => ?_)
  refine lv_lload_n SS.1 SS.2.1 dJ13_bitCount_95d88_55 rfl (lv_at hl 0 rfl) ?_
  refine lv_l2i SS.1 SS.2.1 dJ13_bitCount_95d88_56 rfl ?_
  rw [J_of (Int64.toInt32 _)]
  have r_56 := J_rng (Int64.toInt32 ((((((((x - (x_3 &&& (6148914691236517205))) &&& (3689348814741910323)) + (x_17 &&& (3689348814741910323))) + x_27) &&& (1085102592571150095)) + x_38) + x_45) + x_52))
  refine j_bipush SS dJ13_bitCount_95d88_57 (by decide +kernel) ?_
  refine lv_iand SS.1 SS.2.1 dJ13_bitCount_95d88_59 ?_
  rw [J_of (J ((Int64.toInt32 ((((((((x - (x_3 &&& (6148914691236517205))) &&& (3689348814741910323)) + (x_17 &&& (3689348814741910323))) + x_27) &&& (1085102592571150095)) + x_38) + x_45) + x_52)).toInt) &&& J 127)]
  have x_59 := J_a127 (J ((Int64.toInt32 ((((((((x - (x_3 &&& (6148914691236517205))) &&& (3689348814741910323)) + (x_17 &&& (3689348814741910323))) + x_27) &&& (1085102592571150095)) + x_38) + x_45) + x_52)).toInt))
  exact W.iret SS.1 SS.2.1 hr (fun t0 ht hW => ⟨_, rfl, ⟨(J ((Int64.toInt32 ((((((((x - (x_3 &&& (6148914691236517205))) &&& (3689348814741910323)) + (x_17 &&& (3689348814741910323))) + x_27) &&& (1085102592571150095)) + x_38) + x_45) + x_52)).toInt) &&& J 127).toInt, rfl, (by omega)⟩, ht⟩) (fun _ h => nomatch h) dJ13_bitCount_95d88_60 hlk

set_option maxHeartbeats 4000000 in
set_option maxRecDepth 100000 in
theorem c_X11_onGrid (l : Launch) (D : JD) (v : Int) (p0 : -2147483648 ≤ v ∧ v ≤ 2147483647) : Met l yX11_onGrid (jw yX11_onGrid cX11_onGrid 1 (some .boolean)) (jr 0 0) (jP [.int (J v)] D (fun _ => True)) (jRi (fun z => (z = 1 ∧ (-40 ≤ v ∧ v ≤ 40)) ∨ (z = 0 ∧ ¬ (-40 ≤ v ∧ v ≤ 40)))) 0 0 (fun _ => False) := by
  refine Met.ofW (cc := cX11_onGrid) (maxL := 1) (ret := (some .boolean)) (by decide) rfl ?_
  intro pr en st mi args below meth co s₁ B hml hv
  obtain ⟨rfl, hG, hP⟩ := hv
  have hr := B.returns
  have hlk := B.notSynchronized
  have SS : jS pr mi co cX11_onGrid 1 st _ RX11 := ⟨B.exec, B.bytes, hml, findClass_of_methodNamed B.named, fun w hw => atoms_spec (ws := (jw yX11_onGrid cX11_onGrid 1 (some .boolean))) B.pre w (List.mem_cons_of_mem _ hw)⟩
  have hl := lv_entry ([.int (J v)]) (n := 1) (Nat.le_of_ble_eq_true rfl)
  rw [lg_entry_eq]
  generalize (lg_sl ([.int (J v)]) ++ List.replicate (1 - (lg_sl ([.int (J v)])).length) Slot.unset).toArray = ls at hl ⊢
  have hl : lv_has ls 1 [(0, .int (J v))] := hl
  refine lv_iload_n SS.1 SS.2.1 dX11_onGrid_0 rfl (lv_at hl 0 rfl) ?_
  refine j_bipush SS dX11_onGrid_1 (by decide +kernel) ?_
  refine j_icmp_lt SS (tgt := 16) (x := v) (y := (-40)) dX11_onGrid_3 (by decide) (by omega) (by decide) (fun c_3 => ?_) (fun c_3 => ?_)
  · skip
    refine j_iconst SS dX11_onGrid_16 ?_
    exact W.zret SS.1 SS.2.1 hr (j_nz (by decide)) (fun t0 ht hW => ⟨_, rfl, ⟨0, rfl, (by omega)⟩, ht⟩) (fun _ h => nomatch h) dX11_onGrid_17 hlk
  · skip
    refine lv_iload_n SS.1 SS.2.1 dX11_onGrid_6 rfl (lv_at hl 0 rfl) ?_
    refine j_bipush SS dX11_onGrid_7 (by decide +kernel) ?_
    refine j_icmp_gt SS (tgt := 16) (x := v) (y := 40) dX11_onGrid_9 (by decide) (by omega) (by decide) (fun c_9 => ?_) (fun c_9 => ?_)
    · skip
      refine j_iconst SS dX11_onGrid_16 ?_
      exact W.zret SS.1 SS.2.1 hr (j_nz (by decide)) (fun t0 ht hW => ⟨_, rfl, ⟨0, rfl, (by omega)⟩, ht⟩) (fun _ h => nomatch h) dX11_onGrid_17 hlk
    · skip
      refine j_iconst SS dX11_onGrid_12 ?_
      refine lv_goto (tgt := 17) SS.1 SS.2.1 dX11_onGrid_13 (by decide) ?_
      exact W.zret SS.1 SS.2.1 hr (j_nz (by decide)) (fun t0 ht hW => ⟨_, rfl, ⟨1, rfl, (by omega)⟩, ht⟩) (fun _ h => nomatch h) dX11_onGrid_17 hlk

set_option maxHeartbeats 4000000 in
set_option maxRecDepth 100000 in
theorem c_X11_isAngle (l : Launch) (D : JD) (x : Int) (y : Int) (a : Int) (b : Int) (p0 : -40 ≤ x ∧ x ≤ 40) (p1 : -40 ≤ y ∧ y ≤ 40) (p2 : -40 ≤ a ∧ a ≤ 40) (p3 : -40 ≤ b ∧ b ≤ 40) : Met l yX11_isAngle (jw yX11_isAngle cX11_isAngle 4 (some .boolean)) (jr 0 0) (jP [.int (J x), .int (J y), .int (J a), .int (J b)] D (fun _ => True)) (jRi (fun z => (z = 1 ∧ 0 < cx x y a b) ∨ (z = 0 ∧ cx x y a b ≤ 0))) 0 0 (fun _ => False) := by
  refine Met.ofW (cc := cX11_isAngle) (maxL := 4) (ret := (some .boolean)) (by decide) rfl ?_
  intro pr en st mi args below meth co s₁ B hml hv
  obtain ⟨rfl, hG, hP⟩ := hv
  have hr := B.returns
  have hlk := B.notSynchronized
  have SS : jS pr mi co cX11_isAngle 4 st _ RX11 := ⟨B.exec, B.bytes, hml, findClass_of_methodNamed B.named, fun w hw => atoms_spec (ws := (jw yX11_isAngle cX11_isAngle 4 (some .boolean))) B.pre w (List.mem_cons_of_mem _ hw)⟩
  have hl := lv_entry ([.int (J x), .int (J y), .int (J a), .int (J b)]) (n := 4) (Nat.le_of_ble_eq_true rfl)
  rw [lg_entry_eq]
  generalize (lg_sl ([.int (J x), .int (J y), .int (J a), .int (J b)]) ++ List.replicate (4 - (lg_sl ([.int (J x), .int (J y), .int (J a), .int (J b)])).length) Slot.unset).toArray = ls at hl ⊢
  have hl : lv_has ls 4 [(0, .int (J x)), (1, .int (J y)), (2, .int (J a)), (3, .int (J b))] := hl
  have m1 := mulb (A := 40) (B := 40) p0 p3
  have m2 := mulb (A := 40) (B := 40) p1 p2
  unfold cx
  refine lv_iload_n SS.1 SS.2.1 dX11_isAngle_0 rfl (lv_at hl 0 rfl) ?_
  refine lv_iload_n SS.1 SS.2.1 dX11_isAngle_1 rfl (lv_at hl 3 rfl) ?_
  refine j_imul SS (x := x) (y := b) dX11_isAngle_2 ?_
  refine lv_iload_n SS.1 SS.2.1 dX11_isAngle_3 rfl (lv_at hl 1 rfl) ?_
  refine lv_iload_n SS.1 SS.2.1 dX11_isAngle_4 rfl (lv_at hl 2 rfl) ?_
  refine j_imul SS (x := y) (y := a) dX11_isAngle_5 ?_
  refine j_isub SS (x := (x * b)) (y := (y * a)) dX11_isAngle_6 ?_
  refine j_if_le SS (tgt := 14) (x := ((x * b) - (y * a))) dX11_isAngle_7 (by decide) (by omega) (fun c_7 => ?_) (fun c_7 => ?_)
  · skip
    refine j_iconst SS dX11_isAngle_14 ?_
    exact W.zret SS.1 SS.2.1 hr (j_nz (by decide)) (fun t0 ht hW => ⟨_, rfl, ⟨0, rfl, (by omega)⟩, ht⟩) (fun _ h => nomatch h) dX11_isAngle_15 hlk
  · skip
    refine j_iconst SS dX11_isAngle_10 ?_
    refine lv_goto (tgt := 15) SS.1 SS.2.1 dX11_isAngle_11 (by decide) ?_
    exact W.zret SS.1 SS.2.1 hr (j_nz (by decide)) (fun t0 ht hW => ⟨_, rfl, ⟨1, rfl, (by omega)⟩, ht⟩) (fun _ h => nomatch h) dX11_isAngle_15 hlk

set_option maxHeartbeats 4000000 in
set_option maxRecDepth 100000 in
theorem c_X11_gcd (l : Launch) (D : JD) (a : Int) (b : Int) (p0 : -100000 ≤ a ∧ a ≤ 100000) (p1 : -100000 ≤ b ∧ b ≤ 100000) : Met l yX11_gcd (jw yX11_gcd cX11_gcd 6 (some .int)) (jr 1 20) (jP [.int (J a), .int (J b)] D (fun _ => True)) (jRi (fun z => z = (Int.gcd a b : Int))) 0 0 (fun _ => False) := by
  refine Met.ofW (cc := cX11_gcd) (maxL := 6) (ret := (some .int)) (by decide) rfl ?_
  intro pr en st mi args below meth co s₁ B hml hv
  obtain ⟨rfl, hG, hP⟩ := hv
  have hr := B.returns
  have hlk := B.notSynchronized
  have SS : jS pr mi co cX11_gcd 6 st _ RX11 := ⟨B.exec, B.bytes, hml, findClass_of_methodNamed B.named, fun w hw => atoms_spec (ws := (jw yX11_gcd cX11_gcd 6 (some .int))) B.pre w (List.mem_cons_of_mem _ hw)⟩
  have hl := lv_entry ([.int (J a), .int (J b)]) (n := 6) (Nat.le_of_ble_eq_true rfl)
  rw [lg_entry_eq]
  generalize (lg_sl ([.int (J a), .int (J b)]) ++ List.replicate (6 - (lg_sl ([.int (J a), .int (J b)])).length) Slot.unset).toArray = ls at hl ⊢
  have hl : lv_has ls 6 [(0, .int (J a)), (1, .int (J b))] := hl
  refine lv_iload_n SS.1 SS.2.1 dX11_gcd_0 rfl (lv_at hl 0 rfl) ?_
  refine j_sRi SS (As := [.int (J a)]) (rest := []) (c_J9_abs_0f7a4 l D  a (show -2147483648 < a ∧ a ≤ 2147483647 from (by omega))) mf_J9_abs_0f7a4 kw_544 hG trivial rfl hl.1 ⟨⟨Nat.le_of_ble_eq_true rfl, Nat.le_of_ble_eq_true rfl⟩, Nat.le_of_ble_eq_true rfl, Nat.le_refl _, Nat.le_refl _⟩ rfl dX11_gcd_1 (fun z_1 h_1 => ?_)
  have h_1 : 0 ≤ z_1 ∧ (z_1 = a ∨ z_1 = -a) := h_1
  refine lv_istore_n (lv' := [(2, .int (J z_1)), (0, .int (J a)), (1, .int (J b))]) SS.1 SS.2.1 dX11_gcd_4 rfl hl (by decide) rfl (fun ls hl => ?_)
  refine lv_iload_n SS.1 SS.2.1 dX11_gcd_5 rfl (lv_at hl 2 rfl) ?_
  refine j_sRi SS (As := [.int (J b)]) (rest := []) (c_J9_abs_0f7a4 l D  b (show -2147483648 < b ∧ b ≤ 2147483647 from (by omega))) mf_J9_abs_0f7a4 kw_544 hG trivial rfl hl.1 ⟨⟨Nat.le_of_ble_eq_true rfl, Nat.le_of_ble_eq_true rfl⟩, Nat.le_of_ble_eq_true rfl, Nat.le_refl _, Nat.le_refl _⟩ rfl dX11_gcd_6 (fun z_6 h_6 => ?_)
  have h_6 : 0 ≤ z_6 ∧ (z_6 = b ∨ z_6 = -b) := h_6
  refine lv_istore_n (lv' := [(3, .int (J z_6)), (2, .int (J z_1)), (0, .int (J a)), (1, .int (J b))]) SS.1 SS.2.1 dX11_gcd_9 rfl hl (by decide) rfl (fun ls hl => ?_)
  refine j_iconst SS dX11_gcd_10 ?_
  refine lv_istore (lv' := [(4, .int (J 0)), (3, .int (J z_6)), (2, .int (J z_1)), (0, .int (J a)), (1, .int (J b))]) SS.1 SS.2.1 dX11_gcd_11 hl (by decide) rfl (fun ls hl => ?_)
  have L_13 : ∀ (nn : Nat) (m : Int) (n : Int) (i : Int) (ls : Array Slot) (hl : lv_has ls 6 [(2, .int (J m)), (3, .int (J n)), (4, .int (J i))]) (i13_0 : 0 ≤ i ∧ i ≤ 64) (i13_1 : 0 ≤ m ∧ m ≤ 100000) (i13_2 : 0 ≤ n ∧ n ≤ 100000) (i13_3 : Int.gcd m n = Int.gcd a b) (i13_4 : gf m n i), ((64 : Int) - i).toNat < nn → W pr l en (headSpec (jw yX11_gcd cX11_gcd 6 (some .int)) (jr 1 20)).room st mi (([.int (J a), .int (J b)] : List Value).toArray) below meth co st.heap [] 0 0 (MQ below (jRi (fun z => z = (Int.gcd a b : Int))) (([.int (J a), .int (J b)] : List Value).toArray) st 0 0 (fun _ => False)) (F0 mi 13 ls []) := by
    intro nn
    induction nn with
    | zero => intros; omega
    | succ nn ih_13 =>
      intro m n i ls hl i13_0 i13_1 i13_2 i13_3 i13_4 hm
      refine lv_iload SS.1 SS.2.1 dX11_gcd_13 (lv_at hl 2 rfl) ?_
      refine j_bipush SS dX11_gcd_15 (by decide +kernel) ?_
      refine j_icmp_ge SS (tgt := 40) (x := i) (y := 64) dX11_gcd_17 (by decide) (by omega) (by decide) (fun c_17 => ?_) (fun c_17 => ?_)
      · skip
        refine lv_iload_n SS.1 SS.2.1 dX11_gcd_40 rfl (lv_at hl 0 rfl) ?_
        exact W.iret SS.1 SS.2.1 hr (fun t0 ht hW => ⟨_, rfl, ⟨m, rfl, (by have := i13_3; rw [show n = 0 by first | omega | exact gf_e i13_2.1 (by omega) i13_4] at this; rw [← this]; simp [Int.gcd]; omega)⟩, ht⟩) (fun _ h => nomatch h) dX11_gcd_41 hlk
      · skip
        refine lv_iload_n SS.1 SS.2.1 dX11_gcd_20 rfl (lv_at hl 1 rfl) ?_
        refine j_if_eq SS (tgt := 40) (x := n) dX11_gcd_21 (by decide) (by omega) (fun c_21 => ?_) (fun c_21 => ?_)
        · skip
          refine lv_iload_n SS.1 SS.2.1 dX11_gcd_40 rfl (lv_at hl 0 rfl) ?_
          exact W.iret SS.1 SS.2.1 hr (fun t0 ht hW => ⟨_, rfl, ⟨m, rfl, (by have := i13_3; rw [show n = 0 by first | omega | exact gf_e i13_2.1 (by omega) i13_4] at this; rw [← this]; simp [Int.gcd]; omega)⟩, ht⟩) (fun _ h => nomatch h) dX11_gcd_41 hlk
        · skip
          refine lv_iload_n SS.1 SS.2.1 dX11_gcd_24 rfl (lv_at hl 0 rfl) ?_
          refine lv_iload_n SS.1 SS.2.1 dX11_gcd_25 rfl (lv_at hl 1 rfl) ?_
          refine j_irem SS (x := m) (y := n) dX11_gcd_26 (by omega) (by omega) (by omega) ?_
          refine lv_istore (lv' := [(5, .int (J (Int.tmod m n))), (2, .int (J m)), (3, .int (J n)), (4, .int (J i))]) SS.1 SS.2.1 dX11_gcd_27 hl (by decide) rfl (fun ls hl => ?_)
          refine lv_iload_n SS.1 SS.2.1 dX11_gcd_29 rfl (lv_at hl 2 rfl) ?_
          refine lv_istore_n (lv' := [(2, .int (J n)), (5, .int (J (Int.tmod m n))), (3, .int (J n)), (4, .int (J i))]) SS.1 SS.2.1 dX11_gcd_30 rfl hl (by decide) rfl (fun ls hl => ?_)
          refine lv_iload SS.1 SS.2.1 dX11_gcd_31 (lv_at hl 1 rfl) ?_
          refine lv_istore_n (lv' := [(3, .int (J (Int.tmod m n))), (2, .int (J n)), (5, .int (J (Int.tmod m n))), (4, .int (J i))]) SS.1 SS.2.1 dX11_gcd_33 rfl hl (by decide) rfl (fun ls hl => ?_)
          refine lv_iinc (v := J (i + 1)) (lv' := [(4, .int (J (i + 1))), (3, .int (J (Int.tmod m n))), (2, .int (J n)), (5, .int (J (Int.tmod m n)))]) SS.1 SS.2.1 dX11_gcd_34 hl (k := 3) rfl (J_add _ _) (by decide) rfl (fun ls hl => ?_)
          refine lv_goto (tgt := 13) SS.1 SS.2.1 dX11_gcd_37 (by decide) ?_
          exact ih_13 n (Int.tmod m n) (i + 1) ls (lv_sub hl [2, 1, 0] rfl) (by omega) (by omega) (by have := tm_b i13_1.1 (show (0:Int) < n by omega); omega) (by rw [gcd_step i13_1.1 (by omega)]; exact i13_3) (gf_s (by omega) i13_1 (by omega) i13_4 rfl) (by omega)
  exact L_13 (((64 : Int) - (0 : Int)).toNat + 1) z_1 z_6 0 ls (lv_sub hl [2, 1, 0] rfl) (by omega) (by omega) (by omega) (by rw [show z_1 = (a.natAbs : Int) by omega, show z_6 = (b.natAbs : Int) by omega]; simp [Int.gcd]) (Or.inr (Or.inl rfl)) (Nat.lt_succ_self _)
