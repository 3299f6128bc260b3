
section JE
variable {p : Program} {l : Launch} {e : Env} {R : Room} {s : State} {m : MethodId} {args : Array Value} {below : List Frame} {meth : Method} {c : Code} {H : Heap} {locs : List Loc} {cells slots : Nat} {Q : State → Prop}
variable {cc : ByteArray} {nL : Nat} {own : String} {pc : Nat} {ls : Array Slot} {rest : List Value}
theorem j_vRl (S : jS p m c cc nL s args own) {D : JD} {P : Heap → Prop} {b : Nat} {As : List Value} {post : Int64 → Prop} {y : MethodName} {bytes : ByteArray} {maxL n index f nl : Nat} {ret : Option FieldType} (hM : Met l y (jw y bytes maxL ret) (jr f nl) (jP (.ref b :: As) D P) (vp_Sl post) 0 0 (fun _ => False)) (hy : jmV y bytes maxL ret n) (hl : Cond.methodLink own index y ∈ lw_g) (hG : j_K D s) (hP : P H) {ws : va_W} {ci q0 : Nat} {fs : List Value} {q : vw_C} (hW : va_P D.1 j_cl ws H) (hc : j_cl[ci]? = some q) (he : ws[q0]? = some (b, .inr (ci, fs))) (hq : q.1 = y.cls) (hn : As.length = n) (hls : ls.size = nL) (hR : (f + 1 ≤ R.frames ∧ 8 + (maxL + 11) + nl ≤ R.locals) ∧ (rest.map fun v => v.category).sum ≤ 8 ∧ cells ≤ R.cells ∧ slots ≤ R.slots) {st0 : List Value} (hst : st0 = As.reverse ++ .ref b :: rest) (hdg : decode cc pc = .ok (.invokevirtual index, 3))
    (k : ∀ x : Int64, post x → W p l e R s m args below meth c H locs cells slots Q (F0 m (pc + 3) ls (.long x :: rest))) : W p l e R s m args below meth c H locs cells slots Q (F0 m pc ls st0) :=
  vp_callSl (W.runV (C := y.cls) S hM ⟨j_cB S hy.1 hy.2.1 hl hy.2.2.2.2 hR.1, S.2.2.2.2 _ hy.2.2.1, S.2.2.2.2 _ hy.2.2.2.1⟩ ⟨jP.blind, hq ▸ va_recv hG.1 hW hc he, jP.at hG hP⟩ rfl hn hls hst (lv_room hR.2.1) hdg hR.2.2) k
end JE
def sm (f : Nat → Int) : Nat → Int
  | 0 => 0
  | n + 1 => sm f n + f n
def smI (g : Int → Int) (n : Int) : Int := sm (fun a => g a) n.toNat
theorem smI_0 {g : Int → Int} : smI g 0 = 0 := rfl
theorem smI_s {g : Int → Int} {n : Int} (h : 0 ≤ n) : smI g (n + 1) = smI g n + g n := by
  unfold smI
  rw [show (n + 1).toNat = n.toNat + 1 by omega]
  show sm _ n.toNat + g ((n.toNat : Nat) : Int) = _
  rw [show ((n.toNat : Nat) : Int) = n by omega]
theorem gcd_b {a b K : Int} (ha : -K ≤ a ∧ a ≤ K) (hb : -K ≤ b ∧ b ≤ K) : 0 ≤ (Int.gcd a b : Int) ∧ (Int.gcd a b : Int) ≤ K := by
  by_cases h : a = 0
  · subst h; rw [Int.gcd_zero_left]; omega
  · have := Int.gcd_le_natAbs_left b h; omega
theorem gcd_p {a b : Int} (h : a ≠ 0 ∨ b ≠ 0) : 0 < (Int.gcd a b : Int) := by
  rcases h with h | h
  · have := Int.gcd_pos_of_ne_zero_left b h; omega
  · have := Int.gcd_pos_of_ne_zero_right a h; omega
def mS (u : MS) (s i : Int) : Int := (Int.gcd (mX u s (i + 1) - mX u s i) (mY u s (i + 1) - mY u s i) : Int)
def mAr (u : MS) (s : Int) : Int := smI (fun i => mX u s i * mY u s (i + 1) - mX u s (i + 1) * mY u s i) (mN u s)
def mEd (u : MS) (s : Int) : Int := if mN u s < 2 then mN u s else if mN u s = 2 then mS u s 0 + 1 else smI (mS u s) (mN u s)
def mIn (u : MS) (s : Int) : Int := if 2 < mN u s then (mAr u s - mEd u s + 2).tdiv 2 else 0
theorem mS_b {u : MS} {s i : Int} (h : ∀ i : Int, 0 ≤ i → (-40 ≤ mX u s i ∧ mX u s i ≤ 40) ∧ (-40 ≤ mY u s i ∧ mY u s i ≤ 40)) (hi : 0 ≤ i) : 0 ≤ mS u s i ∧ mS u s i ≤ 80 := by
  have a := h i hi; have b := h (i + 1) (by omega)
  exact gcd_b (by omega) (by omega)
theorem Ch_ne {n : Int} {X Y : Nat → Int} (h : Ch n X Y) (hn : 2 ≤ n) {a : Nat} (ha : (a : Int) < n) : X (a + 1) ≠ X a ∨ Y (a + 1) ≠ Y a := by
  rcases h with h | ⟨t, h1, h2, h3, h4, h5, h6, h7, h8⟩
  · omega
  · by_cases e : a < t
    · have := h3 a e; unfold lt2 at this; omega
    · have := h5 a (by omega) ha; unfold lt2 at this; omega
theorem mS_p {u : MS} {s i : Int} (h : Ch (mN u s) (fun a => mX u s a) (fun a => mY u s a)) (hn : 2 ≤ mN u s) (h0 : 0 ≤ i) (hi : i < mN u s) : 0 < mS u s i := by
  have := Ch_ne h hn (a := i.toNat) (by omega)
  rw [show ((i.toNat + 1 : Nat) : Int) = i + 1 by omega, show ((i.toNat : Nat) : Int) = i by omega] at this
  exact gcd_p (by omega)
theorem putS {u : MS} {K : Int} {f g : Nat → Int} {n x y : Int} (h0 : 0 ≤ n) (hb : bd K f g n) (hx : -K ≤ x ∧ x ≤ K) (hy : -K ≤ y ∧ y ≤ K) : bd K (upI f n.toNat x) (upI g n.toNat y) (n + 1) := bd_put h0 hb hx hy

set_option maxHeartbeats 4000000 in
set_option maxRecDepth 100000 in
theorem c_X12_isPolygon (l : Launch) (D : JD) (o : Nat) (q : Nat → Nat) (u : MS) (s : Int) (p0 : 0 ≤ s ∧ s ≤ 7) (p1 : Sh u s) : Met l yX12_isPolygon (jw yX12_isPolygon cX12_isPolygon 2 (some .boolean)) (jr 0 0) (jP [.ref o, .int (J s)] D (fun H => va_P D.1 j_cl (mW D o q u) H)) (jRi (fun z => (z = 1 ∧ 2 < mN u s) ∨ (z = 0 ∧ mN u s ≤ 2))) 0 0 (fun _ => False) := by
  refine Met.ofW (cc := cX12_isPolygon) (maxL := 2) (ret := (some .boolean)) (by decide) rfl ?_
  intro pr en st mi args below meth co s₁ B hml hv
  obtain ⟨rfl, hG, hP⟩ := hv
  have hr := B.returns
  have hlk := B.notSynchronized
  have SS : jS pr mi co cX12_isPolygon 2 st _ RX12 := ⟨B.exec, B.bytes, hml, findClass_of_methodNamed B.named, fun w hw => atoms_spec (ws := (jw yX12_isPolygon cX12_isPolygon 2 (some .boolean))) B.pre w (List.mem_cons_of_mem _ hw)⟩
  have hl := lv_entry ([.ref o, .int (J s)]) (n := 2) (Nat.le_of_ble_eq_true rfl)
  rw [lg_entry_eq]
  generalize (lg_sl ([.ref o, .int (J s)]) ++ List.replicate (2 - (lg_sl ([.ref o, .int (J s)])).length) Slot.unset).toArray = ls at hl ⊢
  have hl : lv_has ls 2 [(0, .ref o), (1, .int (J s))] := hl
  have hN := p1.1
  have hC := p1.2.2
  refine lv_aload_n SS.1 SS.2.1 dX12_isPolygon_0 rfl (lv_at hl 0 rfl) ?_
  refine j_get SS hG hP 0 (v := .ref (q 0)) (C := RX12) (T := TX12) (N := 31) rfl rfl inX12 0 (by decide) (ref := RX12) kw_1058 rfl rfl dX12_isPolygon_1 ?_
  refine lv_iload_n SS.1 SS.2.1 dX12_isPolygon_4 rfl (lv_at hl 1 rfl) ?_
  refine j_iald SS hG hP 1 (n := 8) (f := (u.1 0)) rfl (z := s) (by omega) (by omega) dX12_isPolygon_5 ?_
  refine j_iconst SS dX12_isPolygon_6 ?_
  refine j_icmp_le SS (tgt := 14) (x := (mN u s)) (y := 2) dX12_isPolygon_7 (by decide) (by omega) (by decide) (fun c_7 => ?_) (fun c_7 => ?_)
  · skip
    refine j_iconst SS dX12_isPolygon_14 ?_
    exact W.zret SS.1 SS.2.1 hr (j_nz (by decide)) (fun t ht hW => ⟨_, rfl, ⟨0, rfl, (by omega)⟩, ht⟩) (fun _ h => nomatch h) dX12_isPolygon_15 hlk
  · skip
    refine j_iconst SS dX12_isPolygon_10 ?_
    refine lv_goto (tgt := 15) SS.1 SS.2.1 dX12_isPolygon_11 (by decide) ?_
    exact W.zret SS.1 SS.2.1 hr (j_nz (by decide)) (fun t ht hW => ⟨_, rfl, ⟨1, rfl, (by omega)⟩, ht⟩) (fun _ h => nomatch h) dX12_isPolygon_15 hlk

set_option maxHeartbeats 4000000 in
set_option maxRecDepth 100000 in
theorem c_X12_cross (l : Launch) (D : JD) (a : Int) (b : Int) (c : Int) (d : Int) : Met l yX12_cross (jw yX12_cross cX12_cross 4 (some .int)) (jr 0 0) (jP [.int (J a), .int (J b), .int (J c), .int (J d)] D (fun _ => True)) (jRi (fun z => z = a * d - b * c)) 0 0 (fun _ => False) := by
  refine Met.ofW (cc := cX12_cross) (maxL := 4) (ret := (some .int)) (by decide) rfl ?_
  intro pr en st mi args below meth co s₁ B hml hv
  obtain ⟨rfl, hG, hP⟩ := hv
  have hr := B.returns
  have hlk := B.notSynchronized
  have SS : jS pr mi co cX12_cross 4 st _ RX12 := ⟨B.exec, B.bytes, hml, findClass_of_methodNamed B.named, fun w hw => atoms_spec (ws := (jw yX12_cross cX12_cross 4 (some .int))) B.pre w (List.mem_cons_of_mem _ hw)⟩
  have hl := lv_entry ([.int (J a), .int (J b), .int (J c), .int (J d)]) (n := 4) (Nat.le_of_ble_eq_true rfl)
  rw [lg_entry_eq]
  generalize (lg_sl ([.int (J a), .int (J b), .int (J c), .int (J d)]) ++ List.replicate (4 - (lg_sl ([.int (J a), .int (J b), .int (J c), .int (J d)])).length) Slot.unset).toArray = ls at hl ⊢
  have hl : lv_has ls 4 [(0, .int (J a)), (1, .int (J b)), (2, .int (J c)), (3, .int (J d))] := hl
  refine lv_iload_n SS.1 SS.2.1 dX12_cross_0 rfl (lv_at hl 0 rfl) ?_
  refine lv_iload_n SS.1 SS.2.1 dX12_cross_1 rfl (lv_at hl 3 rfl) ?_
  refine j_imul SS (x := a) (y := d) dX12_cross_2 ?_
  refine lv_iload_n SS.1 SS.2.1 dX12_cross_3 rfl (lv_at hl 1 rfl) ?_
  refine lv_iload_n SS.1 SS.2.1 dX12_cross_4 rfl (lv_at hl 2 rfl) ?_
  refine j_imul SS (x := b) (y := c) dX12_cross_5 ?_
  refine j_isub SS (x := (a * d)) (y := (b * c)) dX12_cross_6 ?_
  exact W.iret SS.1 SS.2.1 hr (fun t ht hW => ⟨_, rfl, ⟨((a * d) - (b * c)), rfl, (by omega)⟩, ht⟩) (fun _ h => nomatch h) dX12_cross_7 hlk

set_option maxHeartbeats 4000000 in
set_option maxRecDepth 100000 in
theorem c_X12_putShape (l : Launch) (D : JD) (o : Nat) (q : Nat → Nat) (u : MS) (A : Nat → Prop) (hD : va_D A (mW D o q u)) (s : Int) (p0 : 0 ≤ s ∧ s ≤ 7) (p1 : Sh u s) (p2 : 0 ≤ u.2.2 6 ∧ u.2.2 6 ≤ 600) : Met l yX12_putShape (jw yX12_putShape cX12_putShape 3 none) (jr 1 22) (jP [.ref o, .int (J s)] D (fun H => va_P D.1 j_cl (mW D o q u) H)) (jWv (fun u' => ∃ f : Nat → Int, ∃ g : Nat → Int, ∃ w : Int, u' = (uV (uI (uI u 4 f) 5 g) 6 w) ∧ (w = u.2.2 6 + mN u s ∧ (bd 40 (u.1 4) (u.1 5) (u.2.2 6) → bd 40 f g w))) (fun u' H => va_P D.1 j_cl (mW D o q u') H) A) 0 0 A := by
  refine Met.ofW (cc := cX12_putShape) (maxL := 3) (ret := none) (by decide) rfl ?_
  intro pr en st mi args below meth co s₁ B hml hv
  obtain ⟨rfl, hG, hP⟩ := hv
  have hr := B.returns
  have hlk := B.notSynchronized
  have SS : jS pr mi co cX12_putShape 3 st _ RX12 := ⟨B.exec, B.bytes, hml, findClass_of_methodNamed B.named, fun w hw => atoms_spec (ws := (jw yX12_putShape cX12_putShape 3 none)) B.pre w (List.mem_cons_of_mem _ hw)⟩
  have hl := lv_entry ([.ref o, .int (J s)]) (n := 3) (Nat.le_of_ble_eq_true rfl)
  rw [lg_entry_eq]
  generalize (lg_sl ([.ref o, .int (J s)]) ++ List.replicate (3 - (lg_sl ([.ref o, .int (J s)])).length) Slot.unset).toArray = ls at hl ⊢
  have hl : lv_has ls 3 [(0, .ref o), (1, .int (J s))] := hl
  have hS : va_S A st.heap st.heap [] := va_S.rf
  have hN := p1.1
  have hC := p1.2.2
  refine j_iconst SS dX12_putShape_0 ?_
  refine lv_istore_n (lv' := [(2, .int (J 0)), (0, .ref o), (1, .int (J s))]) SS.1 SS.2.1 dX12_putShape_1 rfl hl (by decide) rfl (fun ls hl => ?_)
  have L_2 : ∀ (nn : Nat) (i : Int) (f : Nat → Int) (g : Nat → Int) (w : Int) (H : Heap) (locs : List Loc) (hP : va_P D.1 j_cl (mW D o q (uV (uI (uI u 4 f) 5 g) 6 w)) H) (hS : va_S A st.heap H locs) (ls : Array Slot) (hl : lv_has ls 3 [(0, .ref o), (1, .int (J s)), (2, .int (J i))]) (i2_0 : 0 ≤ i ∧ i ≤ mN u s) (i2_1 : w = u.2.2 6 + i) (i2_2 : bd 40 (u.1 4) (u.1 5) (u.2.2 6) → bd 40 f g w), (mN u s - i).toNat < nn → W pr l en (headSpec (jw yX12_putShape cX12_putShape 3 none) (jr 1 22)).room st mi (([.ref o, .int (J s)] : List Value).toArray) below meth co H locs 0 0 (MQ below (jWv (fun u' => ∃ f : Nat → Int, ∃ g : Nat → Int, ∃ w : Int, u' = (uV (uI (uI u 4 f) 5 g) 6 w) ∧ (w = u.2.2 6 + mN u s ∧ (bd 40 (u.1 4) (u.1 5) (u.2.2 6) → bd 40 f g w))) (fun u' H => va_P D.1 j_cl (mW D o q u') H) A) (([.ref o, .int (J s)] : List Value).toArray) st 0 0 A) (F0 mi 2 ls []) := by
    intro nn
    induction nn with
    | zero => intros; omega
    | succ nn ih_2 =>
      intro i f g w H locs hP hS ls hl i2_0 i2_1 i2_2 hm
      refine lv_iload_n SS.1 SS.2.1 dX12_putShape_2 rfl (lv_at hl 2 rfl) ?_
      refine lv_aload_n SS.1 SS.2.1 dX12_putShape_3 rfl (lv_at hl 0 rfl) ?_
      refine j_get SS hG hP 0 (v := .ref (q 0)) (C := RX12) (T := TX12) (N := 31) rfl rfl inX12 0 (by decide) (ref := RX12) kw_1058 rfl rfl dX12_putShape_4 ?_
      refine lv_iload_n SS.1 SS.2.1 dX12_putShape_7 rfl (lv_at hl 1 rfl) ?_
      refine j_iald SS hG hP 1 (n := 8) (f := (u.1 0)) rfl (z := s) (by omega) (by omega) dX12_putShape_8 ?_
      refine j_icmp_ge SS (tgt := 34) (x := i) (y := (mN u s)) dX12_putShape_9 (by decide) (by omega) (by omega) (fun c_9 => ?_) (fun c_9 => ?_)
      · skip
        exact W.vret SS.1 SS.2.1 hr (fun t ht hW => ⟨⟨(uV (uI (uI u 4 f) 5 g) 6 w), rfl, (⟨f, g, w, rfl, ⟨by omega, i2_2⟩⟩), by show va_P D.1 j_cl (mW D o q (uV (uI (uI u 4 f) 5 g) 6 w)) t.heap; rw [ht]; exact hP⟩, hS.F ht⟩) hS.2.2 dX12_putShape_34 hlk
      · skip
        have hb := p1.2.1 (by omega) i (by omega)
        refine lv_aload_n SS.1 SS.2.1 dX12_putShape_12 rfl (lv_at hl 0 rfl) ?_
        refine lv_aload_n SS.1 SS.2.1 dX12_putShape_13 rfl (lv_at hl 0 rfl) ?_
        refine lv_iload_n SS.1 SS.2.1 dX12_putShape_14 rfl (lv_at hl 1 rfl) ?_
        refine lv_iload_n SS.1 SS.2.1 dX12_putShape_15 rfl (lv_at hl 2 rfl) ?_
        refine j_vRi SS (As := [.int (J s), .int (J i)]) (rest := [.ref o]) (c_X12_x l D o q (uV (uI (uI u 4 f) 5 g) 6 w) s i (show 0 ≤ s ∧ s ≤ 7 from (by omega)) (show 0 ≤ i ∧ i ≤ 1000000 from (by omega)) (show 0 < mN u s ∧ mN u s ≤ 24 from (by omega))) mf_X12_x kw_1177 hG hP hP (ci := 8) (q0 := 0) rfl rfl rfl rfl hl.1 ⟨⟨Nat.le_of_ble_eq_true rfl, Nat.le_of_ble_eq_true rfl⟩, Nat.le_of_ble_eq_true rfl, Nat.le_refl _, Nat.le_refl _⟩ rfl dX12_putShape_16 (fun z_16 h_16 => ?_)
        have h_16 : z_16 = mX u s i := h_16
        refine lv_aload_n SS.1 SS.2.1 dX12_putShape_19 rfl (lv_at hl 0 rfl) ?_
        refine lv_iload_n SS.1 SS.2.1 dX12_putShape_20 rfl (lv_at hl 1 rfl) ?_
        refine lv_iload_n SS.1 SS.2.1 dX12_putShape_21 rfl (lv_at hl 2 rfl) ?_
        refine j_vRi SS (As := [.int (J s), .int (J i)]) (rest := [.int (J z_16), .ref o]) (c_X12_y l D o q (uV (uI (uI u 4 f) 5 g) 6 w) s i (show 0 ≤ s ∧ s ≤ 7 from (by omega)) (show 0 ≤ i ∧ i ≤ 1000000 from (by omega)) (show 0 < mN u s ∧ mN u s ≤ 24 from (by omega))) mf_X12_y kw_1181 hG hP hP (ci := 8) (q0 := 0) rfl rfl rfl rfl hl.1 ⟨⟨Nat.le_of_ble_eq_true rfl, Nat.le_of_ble_eq_true rfl⟩, Nat.le_of_ble_eq_true rfl, Nat.le_refl _, Nat.le_refl _⟩ rfl dX12_putShape_22 (fun z_22 h_22 => ?_)
        have h_22 : z_22 = mY u s i := h_22
        refine j_vWv SS (As := [.int (J z_16), .int (J z_22)]) (rest := []) (c_X12_put l D o q (uV (uI (uI u 4 f) 5 g) 6 w) A (mW_D hD) z_16 z_22 (show 0 ≤ w ∧ w < 640 from (by omega))) mf_X12_put kw_1185 hG hP hP (ci := 8) (q0 := 0) rfl rfl rfl hS (fun _ h => h) rfl hl.1 ⟨⟨Nat.le_of_ble_eq_true rfl, Nat.le_of_ble_eq_true rfl⟩, Nat.le_of_ble_eq_true rfl, Nat.le_refl _, Nat.le_refl _⟩ rfl dX12_putShape_25 (fun u25 H locs h_25 hP _ hS => ?_)
        obtain ⟨f_25, g_25, w_25, rfl, h_25⟩ := h_25
        have hP : va_P D.1 j_cl (mW D o q (uV (uI (uI u 4 f_25) 5 g_25) 6 w_25)) H := hP
        have h_25 : f_25 = upI (f) (w).toNat z_16 ∧ g_25 = upI (g) (w).toNat z_22 ∧ w_25 = w + 1 := h_25
        have k1 := h_25.2.2
        refine lv_iinc (v := J (i + 1)) (lv' := [(2, .int (J (i + 1))), (0, .ref o), (1, .int (J s))]) SS.1 SS.2.1 dX12_putShape_28 hl (k := 2) rfl (J_add _ _) (by decide) rfl (fun ls hl => ?_)
        refine lv_goto (tgt := 2) SS.1 SS.2.1 dX12_putShape_31 (by decide) ?_
        exact ih_2 (i + 1) f_25 g_25 w_25 _ _ hP hS ls (lv_sub hl [1, 2, 0] rfl) (by omega) (by omega) (fun h => by obtain ⟨k1, k2, k3⟩ := h_25; rw [k1, k2, k3, h_16, h_22]; exact bd_put (by omega) (i2_2 h) hb.1 hb.2) (by omega)
  exact L_2 ((mN u s - (0 : Int)).toNat + 1) 0 (u.1 4) (u.1 5) (u.2.2 6) _ _ hP hS ls (lv_sub hl [1, 2, 0] rfl) (by omega) (by omega) (fun h => h) (Nat.lt_succ_self _)

set_option maxHeartbeats 4000000 in
set_option maxRecDepth 100000 in
theorem c_X12_areaOf (l : Launch) (D : JD) (o : Nat) (q : Nat → Nat) (u : MS) (s : Int) (p0 : 0 ≤ s ∧ s ≤ 7) (p1 : Sh u s) : Met l yX12_areaOf (jw yX12_areaOf cX12_areaOf 4 (some .int)) (jr 1 22) (jP [.ref o, .int (J s)] D (fun H => va_P D.1 j_cl (mW D o q u) H)) (jRi (fun z => z = mAr u s ∧ -80000 ≤ z ∧ z ≤ 80000)) 0 0 (fun _ => False) := by
  refine Met.ofW (cc := cX12_areaOf) (maxL := 4) (ret := (some .int)) (by decide) rfl ?_
  intro pr en st mi args below meth co s₁ B hml hv
  obtain ⟨rfl, hG, hP⟩ := hv
  have hr := B.returns
  have hlk := B.notSynchronized
  have SS : jS pr mi co cX12_areaOf 4 st _ RX12 := ⟨B.exec, B.bytes, hml, findClass_of_methodNamed B.named, fun w hw => atoms_spec (ws := (jw yX12_areaOf cX12_areaOf 4 (some .int))) B.pre w (List.mem_cons_of_mem _ hw)⟩
  have hl := lv_entry ([.ref o, .int (J s)]) (n := 4) (Nat.le_of_ble_eq_true rfl)
  rw [lg_entry_eq]
  generalize (lg_sl ([.ref o, .int (J s)]) ++ List.replicate (4 - (lg_sl ([.ref o, .int (J s)])).length) Slot.unset).toArray = ls at hl ⊢
  have hl : lv_has ls 4 [(0, .ref o), (1, .int (J s))] := hl
  have hN := p1.1
  have hC := p1.2.2
  refine j_iconst SS dX12_areaOf_0 ?_
  refine lv_istore_n (lv' := [(2, .int (J 0)), (0, .ref o), (1, .int (J s))]) SS.1 SS.2.1 dX12_areaOf_1 rfl hl (by decide) rfl (fun ls hl => ?_)
  refine j_iconst SS dX12_areaOf_2 ?_
  refine lv_istore_n (lv' := [(3, .int (J 0)), (2, .int (J 0)), (0, .ref o), (1, .int (J s))]) SS.1 SS.2.1 dX12_areaOf_3 rfl hl (by decide) rfl (fun ls hl => ?_)
  have L_4 : ∀ (nn : Nat) (a : Int) (i : Int) (ls : Array Slot) (hl : lv_has ls 4 [(0, .ref o), (1, .int (J s)), (2, .int (J a)), (3, .int (J i))]) (i4_0 : 0 ≤ i ∧ i ≤ mN u s) (i4_1 : a = smI (fun i => mX u s i * mY u s (i + 1) - mX u s (i + 1) * mY u s i) i) (i4_2 : -3200 * i ≤ a ∧ a ≤ 3200 * i), (mN u s - i).toNat < nn → W pr l en (headSpec (jw yX12_areaOf cX12_areaOf 4 (some .int)) (jr 1 22)).room st mi (([.ref o, .int (J s)] : List Value).toArray) below meth co st.heap [] 0 0 (MQ below (jRi (fun z => z = mAr u s ∧ -80000 ≤ z ∧ z ≤ 80000)) (([.ref o, .int (J s)] : List Value).toArray) st 0 0 (fun _ => False)) (F0 mi 4 ls []) := by
    intro nn
    induction nn with
    | zero => intros; omega
    | succ nn ih_4 =>
      intro a i ls hl i4_0 i4_1 i4_2 hm
      refine lv_iload_n SS.1 SS.2.1 dX12_areaOf_4 rfl (lv_at hl 3 rfl) ?_
      refine lv_aload_n SS.1 SS.2.1 dX12_areaOf_5 rfl (lv_at hl 0 rfl) ?_
      refine j_get SS hG hP 0 (v := .ref (q 0)) (C := RX12) (T := TX12) (N := 31) rfl rfl inX12 0 (by decide) (ref := RX12) kw_1058 rfl rfl dX12_areaOf_6 ?_
      refine lv_iload_n SS.1 SS.2.1 dX12_areaOf_9 rfl (lv_at hl 1 rfl) ?_
      refine j_iald SS hG hP 1 (n := 8) (f := (u.1 0)) rfl (z := s) (by omega) (by omega) dX12_areaOf_10 ?_
      refine j_icmp_ge SS (tgt := 54) (x := i) (y := (mN u s)) dX12_areaOf_11 (by decide) (by omega) (by omega) (fun c_11 => ?_) (fun c_11 => ?_)
      · skip
        refine lv_iload_n SS.1 SS.2.1 dX12_areaOf_54 rfl (lv_at hl 2 rfl) ?_
        exact W.iret SS.1 SS.2.1 hr (fun t ht hW => ⟨_, rfl, ⟨a, rfl, (⟨by rw [i4_1, show i = mN u s by omega]; rfl, by omega, by omega⟩)⟩, ht⟩) (fun _ h => nomatch h) dX12_areaOf_55 hlk
      · skip
        have b1 := p1.2.1 (by omega) i (by omega)
        have b2 := p1.2.1 (by omega) (i + 1) (by omega)
        have m1 := mulb b1.1 b2.2
        have m2 := mulb b2.1 b1.2
        refine lv_iload_n SS.1 SS.2.1 dX12_areaOf_14 rfl (lv_at hl 2 rfl) ?_
        refine lv_aload_n SS.1 SS.2.1 dX12_areaOf_15 rfl (lv_at hl 0 rfl) ?_
        refine lv_iload_n SS.1 SS.2.1 dX12_areaOf_16 rfl (lv_at hl 1 rfl) ?_
        refine lv_iload_n SS.1 SS.2.1 dX12_areaOf_17 rfl (lv_at hl 3 rfl) ?_
        refine j_vRi SS (As := [.int (J s), .int (J i)]) (rest := [.int (J a)]) (c_X12_x l D o q u s i (show 0 ≤ s ∧ s ≤ 7 from (by omega)) (show 0 ≤ i ∧ i ≤ 1000000 from (by omega)) (show 0 < mN u s ∧ mN u s ≤ 24 from (by omega))) mf_X12_x kw_1177 hG hP hP (ci := 8) (q0 := 0) rfl rfl rfl rfl hl.1 ⟨⟨Nat.le_of_ble_eq_true rfl, Nat.le_of_ble_eq_true rfl⟩, Nat.le_of_ble_eq_true rfl, Nat.le_refl _, Nat.le_refl _⟩ rfl dX12_areaOf_18 (fun z_18 h_18 => ?_)
        have h_18 : z_18 = mX u s i := h_18
        refine lv_aload_n SS.1 SS.2.1 dX12_areaOf_21 rfl (lv_at hl 0 rfl) ?_
        refine lv_iload_n SS.1 SS.2.1 dX12_areaOf_22 rfl (lv_at hl 1 rfl) ?_
        refine lv_iload_n SS.1 SS.2.1 dX12_areaOf_23 rfl (lv_at hl 3 rfl) ?_
        refine j_iconst SS dX12_areaOf_24 ?_
        refine j_iadd SS (x := i) (y := 1) dX12_areaOf_25 ?_
        refine j_vRi SS (As := [.int (J s), .int (J (i + 1))]) (rest := [.int (J z_18), .int (J a)]) (c_X12_y l D o q u s (i + 1) (show 0 ≤ s ∧ s ≤ 7 from (by omega)) (show 0 ≤ (i + 1) ∧ (i + 1) ≤ 1000000 from (by omega)) (show 0 < mN u s ∧ mN u s ≤ 24 from (by omega))) mf_X12_y kw_1181 hG hP hP (ci := 8) (q0 := 0) rfl rfl rfl rfl hl.1 ⟨⟨Nat.le_of_ble_eq_true rfl, Nat.le_of_ble_eq_true rfl⟩, Nat.le_of_ble_eq_true rfl, Nat.le_refl _, Nat.le_refl _⟩ rfl dX12_areaOf_26 (fun z_26 h_26 => ?_)
        have h_26 : z_26 = mY u s (i + 1) := h_26
        refine j_imul SS (x := z_18) (y := z_26) dX12_areaOf_29 ?_
        refine lv_aload_n SS.1 SS.2.1 dX12_areaOf_30 rfl (lv_at hl 0 rfl) ?_
        refine lv_iload_n SS.1 SS.2.1 dX12_areaOf_31 rfl (lv_at hl 1 rfl) ?_
        refine lv_iload_n SS.1 SS.2.1 dX12_areaOf_32 rfl (lv_at hl 3 rfl) ?_
        refine j_iconst SS dX12_areaOf_33 ?_
        refine j_iadd SS (x := i) (y := 1) dX12_areaOf_34 ?_
        refine j_vRi SS (As := [.int (J s), .int (J (i + 1))]) (rest := [.int (J (z_18 * z_26)), .int (J a)]) (c_X12_x l D o q u s (i + 1) (show 0 ≤ s ∧ s ≤ 7 from (by omega)) (show 0 ≤ (i + 1) ∧ (i + 1) ≤ 1000000 from (by omega)) (show 0 < mN u s ∧ mN u s ≤ 24 from (by omega))) mf_X12_x kw_1177 hG hP hP (ci := 8) (q0 := 0) rfl rfl rfl rfl hl.1 ⟨⟨Nat.le_of_ble_eq_true rfl, Nat.le_of_ble_eq_true rfl⟩, Nat.le_of_ble_eq_true rfl, Nat.le_refl _, Nat.le_refl _⟩ rfl dX12_areaOf_35 (fun z_35 h_35 => ?_)
        have h_35 : z_35 = mX u s (i + 1) := h_35
        refine lv_aload_n SS.1 SS.2.1 dX12_areaOf_38 rfl (lv_at hl 0 rfl) ?_
        refine lv_iload_n SS.1 SS.2.1 dX12_areaOf_39 rfl (lv_at hl 1 rfl) ?_
        refine lv_iload_n SS.1 SS.2.1 dX12_areaOf_40 rfl (lv_at hl 3 rfl) ?_
        refine j_vRi SS (As := [.int (J s), .int (J i)]) (rest := [.int (J z_35), .int (J (z_18 * z_26)), .int (J a)]) (c_X12_y l D o q u s i (show 0 ≤ s ∧ s ≤ 7 from (by omega)) (show 0 ≤ i ∧ i ≤ 1000000 from (by omega)) (show 0 < mN u s ∧ mN u s ≤ 24 from (by omega))) mf_X12_y kw_1181 hG hP hP (ci := 8) (q0 := 0) rfl rfl rfl rfl hl.1 ⟨⟨Nat.le_of_ble_eq_true rfl, Nat.le_of_ble_eq_true rfl⟩, Nat.le_of_ble_eq_true rfl, Nat.le_refl _, Nat.le_refl _⟩ rfl dX12_areaOf_41 (fun z_41 h_41 => ?_)
        have h_41 : z_41 = mY u s i := h_41
        refine j_imul SS (x := z_35) (y := z_41) dX12_areaOf_44 ?_
        refine j_isub SS (x := (z_18 * z_26)) (y := (z_35 * z_41)) dX12_areaOf_45 ?_
        refine j_iadd SS (x := a) (y := ((z_18 * z_26) - (z_35 * z_41))) dX12_areaOf_46 ?_
        refine lv_istore_n (lv' := [(2, .int (J (a + ((z_18 * z_26) - (z_35 * z_41))))), (0, .ref o), (1, .int (J s)), (3, .int (J i))]) SS.1 SS.2.1 dX12_areaOf_47 rfl hl (by decide) rfl (fun ls hl => ?_)
        refine lv_iinc (v := J (i + 1)) (lv' := [(3, .int (J (i + 1))), (2, .int (J (a + ((z_18 * z_26) - (z_35 * z_41))))), (0, .ref o), (1, .int (J s))]) SS.1 SS.2.1 dX12_areaOf_48 hl (k := 3) rfl (J_add _ _) (by decide) rfl (fun ls hl => ?_)
        refine lv_goto (tgt := 4) SS.1 SS.2.1 dX12_areaOf_51 (by decide) ?_
        exact ih_4 (a + ((z_18 * z_26) - (z_35 * z_41))) (i + 1) ls (lv_sub hl [2, 3, 1, 0] rfl) (by omega) (by rw [smI_s i4_0.1, ← i4_1, h_18, h_26, h_35, h_41]) (by rw [h_18, h_26, h_35, h_41]; omega) (by omega)
  exact L_4 ((mN u s - (0 : Int)).toNat + 1) 0 0 ls (lv_sub hl [2, 3, 1, 0] rfl) (by omega) (smI_0.symm) (by omega) (Nat.lt_succ_self _)

set_option maxHeartbeats 4000000 in
set_option maxRecDepth 100000 in
theorem c_X12_stepsOf (l : Launch) (D : JD) (o : Nat) (q : Nat → Nat) (u : MS) (s : Int) (i : Int) (p0 : 0 ≤ s ∧ s ≤ 7) (p1 : Sh u s) (p2 : 0 ≤ i ∧ i ≤ 100) (p3 : 0 < mN u s) : Met l yX12_stepsOf (jw yX12_stepsOf cX12_stepsOf 3 (some .int)) (jr 2 44) (jP [.ref o, .int (J s), .int (J i)] D (fun H => va_P D.1 j_cl (mW D o q u) H)) (jRi (fun z => z = mS u s i ∧ 0 ≤ z ∧ z ≤ 80)) 0 0 (fun _ => False) := by
  refine Met.ofW (cc := cX12_stepsOf) (maxL := 3) (ret := (some .int)) (by decide) rfl ?_
  intro pr en st mi args below meth co s₁ B hml hv
  obtain ⟨rfl, hG, hP⟩ := hv
  have hr := B.returns
  have hlk := B.notSynchronized
  have SS : jS pr mi co cX12_stepsOf 3 st _ RX12 := ⟨B.exec, B.bytes, hml, findClass_of_methodNamed B.named, fun w hw => atoms_spec (ws := (jw yX12_stepsOf cX12_stepsOf 3 (some .int))) B.pre w (List.mem_cons_of_mem _ hw)⟩
  have hl := lv_entry ([.ref o, .int (J s), .int (J i)]) (n := 3) (Nat.le_of_ble_eq_true rfl)
  rw [lg_entry_eq]
  generalize (lg_sl ([.ref o, .int (J s), .int (J i)]) ++ List.replicate (3 - (lg_sl ([.ref o, .int (J s), .int (J i)])).length) Slot.unset).toArray = ls at hl ⊢
  have hl : lv_has ls 3 [(0, .ref o), (1, .int (J s)), (2, .int (J i))] := hl
  have hN := p1.1
  have hC := p1.2.2
  have b1 := p1.2.1 p3 i (by omega)
  have b2 := p1.2.1 p3 (i + 1) (by omega)
  refine lv_aload_n SS.1 SS.2.1 dX12_stepsOf_0 rfl (lv_at hl 0 rfl) ?_
  refine lv_iload_n SS.1 SS.2.1 dX12_stepsOf_1 rfl (lv_at hl 1 rfl) ?_
  refine lv_iload_n SS.1 SS.2.1 dX12_stepsOf_2 rfl (lv_at hl 2 rfl) ?_
  refine j_iconst SS dX12_stepsOf_3 ?_
  refine j_iadd SS (x := i) (y := 1) dX12_stepsOf_4 ?_
  refine j_vRi SS (As := [.int (J s), .int (J (i + 1))]) (rest := []) (c_X12_x l D o q u s (i + 1) (show 0 ≤ s ∧ s ≤ 7 from (by omega)) (show 0 ≤ (i + 1) ∧ (i + 1) ≤ 1000000 from (by omega)) (show 0 < mN u s ∧ mN u s ≤ 24 from (by omega))) mf_X12_x kw_1177 hG hP hP (ci := 8) (q0 := 0) rfl rfl rfl rfl hl.1 ⟨⟨Nat.le_of_ble_eq_true rfl, Nat.le_of_ble_eq_true rfl⟩, Nat.le_of_ble_eq_true rfl, Nat.le_refl _, Nat.le_refl _⟩ rfl dX12_stepsOf_5 (fun z_5 h_5 => ?_)
  have h_5 : z_5 = mX u s (i + 1) := h_5
  refine lv_aload_n SS.1 SS.2.1 dX12_stepsOf_8 rfl (lv_at hl 0 rfl) ?_
  refine lv_iload_n SS.1 SS.2.1 dX12_stepsOf_9 rfl (lv_at hl 1 rfl) ?_
  refine lv_iload_n SS.1 SS.2.1 dX12_stepsOf_10 rfl (lv_at hl 2 rfl) ?_
  refine j_vRi SS (As := [.int (J s), .int (J i)]) (rest := [.int (J z_5)]) (c_X12_x l D o q u s i (show 0 ≤ s ∧ s ≤ 7 from (by omega)) (show 0 ≤ i ∧ i ≤ 1000000 from (by omega)) (show 0 < mN u s ∧ mN u s ≤ 24 from (by omega))) mf_X12_x kw_1177 hG hP hP (ci := 8) (q0 := 0) rfl rfl rfl rfl hl.1 ⟨⟨Nat.le_of_ble_eq_true rfl, Nat.le_of_ble_eq_true rfl⟩, Nat.le_of_ble_eq_true rfl, Nat.le_refl _, Nat.le_refl _⟩ rfl dX12_stepsOf_11 (fun z_11 h_11 => ?_)
  have h_11 : z_11 = mX u s i := h_11
  refine j_isub SS (x := z_5) (y := z_11) dX12_stepsOf_14 ?_
  refine lv_aload_n SS.1 SS.2.1 dX12_stepsOf_15 rfl (lv_at hl 0 rfl) ?_
  refine lv_iload_n SS.1 SS.2.1 dX12_stepsOf_16 rfl (lv_at hl 1 rfl) ?_
  refine lv_iload_n SS.1 SS.2.1 dX12_stepsOf_17 rfl (lv_at hl 2 rfl) ?_
  refine j_iconst SS dX12_stepsOf_18 ?_
  refine j_iadd SS (x := i) (y := 1) dX12_stepsOf_19 ?_
  refine j_vRi SS (As := [.int (J s), .int (J (i + 1))]) (rest := [.int (J (z_5 - z_11))]) (c_X12_y l D o q u s (i + 1) (show 0 ≤ s ∧ s ≤ 7 from (by omega)) (show 0 ≤ (i + 1) ∧ (i + 1) ≤ 1000000 from (by omega)) (show 0 < mN u s ∧ mN u s ≤ 24 from (by omega))) mf_X12_y kw_1181 hG hP hP (ci := 8) (q0 := 0) rfl rfl rfl rfl hl.1 ⟨⟨Nat.le_of_ble_eq_true rfl, Nat.le_of_ble_eq_true rfl⟩, Nat.le_of_ble_eq_true rfl, Nat.le_refl _, Nat.le_refl _⟩ rfl dX12_stepsOf_20 (fun z_20 h_20 => ?_)
  have h_20 : z_20 = mY u s (i + 1) := h_20
  refine lv_aload_n SS.1 SS.2.1 dX12_stepsOf_23 rfl (lv_at hl 0 rfl) ?_
  refine lv_iload_n SS.1 SS.2.1 dX12_stepsOf_24 rfl (lv_at hl 1 rfl) ?_
  refine lv_iload_n SS.1 SS.2.1 dX12_stepsOf_25 rfl (lv_at hl 2 rfl) ?_
  refine j_vRi SS (As := [.int (J s), .int (J i)]) (rest := [.int (J z_20), .int (J (z_5 - z_11))]) (c_X12_y l D o q u s i (show 0 ≤ s ∧ s ≤ 7 from (by omega)) (show 0 ≤ i ∧ i ≤ 1000000 from (by omega)) (show 0 < mN u s ∧ mN u s ≤ 24 from (by omega))) mf_X12_y kw_1181 hG hP hP (ci := 8) (q0 := 0) rfl rfl rfl rfl hl.1 ⟨⟨Nat.le_of_ble_eq_true rfl, Nat.le_of_ble_eq_true rfl⟩, Nat.le_of_ble_eq_true rfl, Nat.le_refl _, Nat.le_refl _⟩ rfl dX12_stepsOf_26 (fun z_26 h_26 => ?_)
  have h_26 : z_26 = mY u s i := h_26
  refine j_isub SS (x := z_20) (y := z_26) dX12_stepsOf_29 ?_
  refine j_sRi SS (As := [.int (J (z_5 - z_11)), .int (J (z_20 - z_26))]) (rest := []) (c_X12_common l D (z_5 - z_11) (z_20 - z_26) (show -2147483648 < (z_5 - z_11) ∧ (z_5 - z_11) ≤ 2147483647 from (by omega)) (show -2147483648 < (z_20 - z_26) ∧ (z_20 - z_26) ≤ 2147483647 from (by omega))) mf_X12_common kw_1230 hG trivial rfl hl.1 ⟨⟨Nat.le_of_ble_eq_true rfl, Nat.le_of_ble_eq_true rfl⟩, Nat.le_of_ble_eq_true rfl, Nat.le_refl _, Nat.le_refl _⟩ rfl dX12_stepsOf_30 (fun z_30 h_30 => ?_)
  have h_30 : z_30 = (Int.gcd (z_5 - z_11) (z_20 - z_26) : Int) := h_30
  exact W.iret SS.1 SS.2.1 hr (fun t ht hW => ⟨_, rfl, ⟨z_30, rfl, (⟨by rw [h_30, h_5, h_11, h_20, h_26]; rfl, by rw [h_30]; exact (gcd_b (K := 80) (by omega) (by omega)).1, by rw [h_30]; exact (gcd_b (K := 80) (by omega) (by omega)).2⟩)⟩, ht⟩) (fun _ h => nomatch h) dX12_stepsOf_33 hlk

set_option maxHeartbeats 4000000 in
set_option maxRecDepth 100000 in
theorem c_X12_edgeOf (l : Launch) (D : JD) (o : Nat) (q : Nat → Nat) (u : MS) (s : Int) (p0 : 0 ≤ s ∧ s ≤ 7) (p1 : Sh u s) : Met l yX12_edgeOf (jw yX12_edgeOf cX12_edgeOf 4 (some .int)) (jr 3 66) (jP [.ref o, .int (J s)] D (fun H => va_P D.1 j_cl (mW D o q u) H)) (jRi (fun z => z = mEd u s ∧ 0 ≤ z ∧ z ≤ 2000)) 0 0 (fun _ => False) := by
  refine Met.ofW (cc := cX12_edgeOf) (maxL := 4) (ret := (some .int)) (by decide) rfl ?_
  intro pr en st mi args below meth co s₁ B hml hv
  obtain ⟨rfl, hG, hP⟩ := hv
  have hr := B.returns
  have hlk := B.notSynchronized
  have SS : jS pr mi co cX12_edgeOf 4 st _ RX12 := ⟨B.exec, B.bytes, hml, findClass_of_methodNamed B.named, fun w hw => atoms_spec (ws := (jw yX12_edgeOf cX12_edgeOf 4 (some .int))) B.pre w (List.mem_cons_of_mem _ hw)⟩
  have hl := lv_entry ([.ref o, .int (J s)]) (n := 4) (Nat.le_of_ble_eq_true rfl)
  rw [lg_entry_eq]
  generalize (lg_sl ([.ref o, .int (J s)]) ++ List.replicate (4 - (lg_sl ([.ref o, .int (J s)])).length) Slot.unset).toArray = ls at hl ⊢
  have hl : lv_has ls 4 [(0, .ref o), (1, .int (J s))] := hl
  have hN := p1.1
  have hC := p1.2.2
  refine lv_aload_n SS.1 SS.2.1 dX12_edgeOf_0 rfl (lv_at hl 0 rfl) ?_
  refine j_get SS hG hP 0 (v := .ref (q 0)) (C := RX12) (T := TX12) (N := 31) rfl rfl inX12 0 (by decide) (ref := RX12) kw_1058 rfl rfl dX12_edgeOf_1 ?_
  refine lv_iload_n SS.1 SS.2.1 dX12_edgeOf_4 rfl (lv_at hl 1 rfl) ?_
  refine j_iald SS hG hP 1 (n := 8) (f := (u.1 0)) rfl (z := s) (by omega) (by omega) dX12_edgeOf_5 ?_
  refine j_iconst SS dX12_edgeOf_6 ?_
  refine j_icmp_ge SS (tgt := 17) (x := (mN u s)) (y := 2) dX12_edgeOf_7 (by decide) (by omega) (by decide) (fun c_7 => ?_) (fun c_7 => ?_)
  · skip
    refine lv_aload_n SS.1 SS.2.1 dX12_edgeOf_17 rfl (lv_at hl 0 rfl) ?_
    refine j_get SS hG hP 0 (v := .ref (q 0)) (C := RX12) (T := TX12) (N := 31) rfl rfl inX12 0 (by decide) (ref := RX12) kw_1058 rfl rfl dX12_edgeOf_18 ?_
    refine lv_iload_n SS.1 SS.2.1 dX12_edgeOf_21 rfl (lv_at hl 1 rfl) ?_
    refine j_iald SS hG hP 1 (n := 8) (f := (u.1 0)) rfl (z := s) (by omega) (by omega) dX12_edgeOf_22 ?_
    refine j_iconst SS dX12_edgeOf_23 ?_
    refine j_icmp_ne SS (tgt := 36) (x := (mN u s)) (y := 2) dX12_edgeOf_24 (by decide) (by omega) (by decide) (fun c_24 => ?_) (fun c_24 => ?_)
    · skip
      refine j_iconst SS dX12_edgeOf_36 ?_
      refine lv_istore_n (lv' := [(2, .int (J 0)), (0, .ref o), (1, .int (J s))]) SS.1 SS.2.1 dX12_edgeOf_37 rfl hl (by decide) rfl (fun ls hl => ?_)
      refine j_iconst SS dX12_edgeOf_38 ?_
      refine lv_istore_n (lv' := [(3, .int (J 0)), (2, .int (J 0)), (0, .ref o), (1, .int (J s))]) SS.1 SS.2.1 dX12_edgeOf_39 rfl hl (by decide) rfl (fun ls hl => ?_)
      have L_40 : ∀ (nn : Nat) (a : Int) (i : Int) (ls : Array Slot) (hl : lv_has ls 4 [(0, .ref o), (1, .int (J s)), (2, .int (J a)), (3, .int (J i))]) (i40_0 : 0 ≤ i ∧ i ≤ mN u s) (i40_1 : a = smI (mS u s) i) (i40_2 : 0 ≤ a ∧ a ≤ 80 * i), (mN u s - i).toNat < nn → W pr l en (headSpec (jw yX12_edgeOf cX12_edgeOf 4 (some .int)) (jr 3 66)).room st mi (([.ref o, .int (J s)] : List Value).toArray) below meth co st.heap [] 0 0 (MQ below (jRi (fun z => z = mEd u s ∧ 0 ≤ z ∧ z ≤ 2000)) (([.ref o, .int (J s)] : List Value).toArray) st 0 0 (fun _ => False)) (F0 mi 40 ls []) := by
        intro nn
        induction nn with
        | zero => intros; omega
        | succ nn ih_40 =>
          intro a i ls hl i40_0 i40_1 i40_2 hm
          refine lv_iload_n SS.1 SS.2.1 dX12_edgeOf_40 rfl (lv_at hl 3 rfl) ?_
          refine lv_aload_n SS.1 SS.2.1 dX12_edgeOf_41 rfl (lv_at hl 0 rfl) ?_
          refine j_get SS hG hP 0 (v := .ref (q 0)) (C := RX12) (T := TX12) (N := 31) rfl rfl inX12 0 (by decide) (ref := RX12) kw_1058 rfl rfl dX12_edgeOf_42 ?_
          refine lv_iload_n SS.1 SS.2.1 dX12_edgeOf_45 rfl (lv_at hl 1 rfl) ?_
          refine j_iald SS hG hP 1 (n := 8) (f := (u.1 0)) rfl (z := s) (by omega) (by omega) dX12_edgeOf_46 ?_
          refine j_icmp_ge SS (tgt := 65) (x := i) (y := (mN u s)) dX12_edgeOf_47 (by decide) (by omega) (by omega) (fun c_47 => ?_) (fun c_47 => ?_)
          · skip
            refine lv_iload_n SS.1 SS.2.1 dX12_edgeOf_65 rfl (lv_at hl 2 rfl) ?_
            exact W.iret SS.1 SS.2.1 hr (fun t ht hW => ⟨_, rfl, ⟨a, rfl, (⟨by unfold mEd; rw [if_neg (by omega), if_neg (by omega), i40_1, show i = mN u s by omega], by omega, by omega⟩)⟩, ht⟩) (fun _ h => nomatch h) dX12_edgeOf_66 hlk
          · skip
            refine lv_iload_n SS.1 SS.2.1 dX12_edgeOf_50 rfl (lv_at hl 2 rfl) ?_
            refine lv_aload_n SS.1 SS.2.1 dX12_edgeOf_51 rfl (lv_at hl 0 rfl) ?_
            refine lv_iload_n SS.1 SS.2.1 dX12_edgeOf_52 rfl (lv_at hl 1 rfl) ?_
            refine lv_iload_n SS.1 SS.2.1 dX12_edgeOf_53 rfl (lv_at hl 3 rfl) ?_
            refine j_vRi SS (As := [.int (J s), .int (J i)]) (rest := [.int (J a)]) (c_X12_stepsOf l D o q u s i (show 0 ≤ s ∧ s ≤ 7 from (p0)) (show Sh u s from (p1)) (show 0 ≤ i ∧ i ≤ 100 from (by omega)) (show 0 < mN u s from (by omega))) mf_X12_stepsOf kw_1226 hG hP hP (ci := 8) (q0 := 0) rfl rfl rfl rfl hl.1 ⟨⟨Nat.le_of_ble_eq_true rfl, Nat.le_of_ble_eq_true rfl⟩, Nat.le_of_ble_eq_true rfl, Nat.le_refl _, Nat.le_refl _⟩ rfl dX12_edgeOf_54 (fun z_54 h_54 => ?_)
            have h_54 : z_54 = mS u s i ∧ 0 ≤ z_54 ∧ z_54 ≤ 80 := h_54
            refine j_iadd SS (x := a) (y := z_54) dX12_edgeOf_57 ?_
            refine lv_istore_n (lv' := [(2, .int (J (a + z_54))), (0, .ref o), (1, .int (J s)), (3, .int (J i))]) SS.1 SS.2.1 dX12_edgeOf_58 rfl hl (by decide) rfl (fun ls hl => ?_)
            refine lv_iinc (v := J (i + 1)) (lv' := [(3, .int (J (i + 1))), (2, .int (J (a + z_54))), (0, .ref o), (1, .int (J s))]) SS.1 SS.2.1 dX12_edgeOf_59 hl (k := 3) rfl (J_add _ _) (by decide) rfl (fun ls hl => ?_)
            refine lv_goto (tgt := 40) SS.1 SS.2.1 dX12_edgeOf_62 (by decide) ?_
            exact ih_40 (a + z_54) (i + 1) ls (lv_sub hl [2, 3, 1, 0] rfl) (by omega) (by rw [smI_s i40_0.1, ← i40_1, h_54.1]) (by omega) (by omega)
      exact L_40 ((mN u s - (0 : Int)).toNat + 1) 0 0 ls (lv_sub hl [2, 3, 1, 0] rfl) (by omega) (smI_0.symm) (by omega) (Nat.lt_succ_self _)
    · skip
      refine lv_aload_n SS.1 SS.2.1 dX12_edgeOf_27 rfl (lv_at hl 0 rfl) ?_
      refine lv_iload_n SS.1 SS.2.1 dX12_edgeOf_28 rfl (lv_at hl 1 rfl) ?_
      refine j_iconst SS dX12_edgeOf_29 ?_
      refine j_vRi SS (As := [.int (J s), .int (J 0)]) (rest := []) (c_X12_stepsOf l D o q u s 0 (show 0 ≤ s ∧ s ≤ 7 from (p0)) (show Sh u s from (p1)) (show 0 ≤ (0 : Int) ∧ (0 : Int) ≤ 100 from (by omega)) (show 0 < mN u s from (by omega))) mf_X12_stepsOf kw_1226 hG hP hP (ci := 8) (q0 := 0) rfl rfl rfl rfl hl.1 ⟨⟨Nat.le_of_ble_eq_true rfl, Nat.le_of_ble_eq_true rfl⟩, Nat.le_of_ble_eq_true rfl, Nat.le_refl _, Nat.le_refl _⟩ rfl dX12_edgeOf_30 (fun z_30 h_30 => ?_)
      have h_30 : z_30 = mS u s (0 : Int) ∧ 0 ≤ z_30 ∧ z_30 ≤ 80 := h_30
      refine j_iconst SS dX12_edgeOf_33 ?_
      refine j_iadd SS (x := z_30) (y := 1) dX12_edgeOf_34 ?_
      exact W.iret SS.1 SS.2.1 hr (fun t ht hW => ⟨_, rfl, ⟨(z_30 + 1), rfl, (⟨by unfold mEd; rw [if_neg (by omega), if_pos (by omega), h_30.1], by omega, by omega⟩)⟩, ht⟩) (fun _ h => nomatch h) dX12_edgeOf_35 hlk
  · skip
    refine lv_aload_n SS.1 SS.2.1 dX12_edgeOf_10 rfl (lv_at hl 0 rfl) ?_
    refine j_get SS hG hP 0 (v := .ref (q 0)) (C := RX12) (T := TX12) (N := 31) rfl rfl inX12 0 (by decide) (ref := RX12) kw_1058 rfl rfl dX12_edgeOf_11 ?_
    refine lv_iload_n SS.1 SS.2.1 dX12_edgeOf_14 rfl (lv_at hl 1 rfl) ?_
    refine j_iald SS hG hP 1 (n := 8) (f := (u.1 0)) rfl (z := s) (by omega) (by omega) dX12_edgeOf_15 ?_
    exact W.iret SS.1 SS.2.1 hr (fun t ht hW => ⟨_, rfl, ⟨(mN u s), rfl, (⟨by unfold mEd; rw [if_pos (by omega)], by omega, by omega⟩)⟩, ht⟩) (fun _ h => nomatch h) dX12_edgeOf_16 hlk

set_option maxHeartbeats 4000000 in
set_option maxRecDepth 100000 in
theorem c_X12_insideOf (l : Launch) (D : JD) (o : Nat) (q : Nat → Nat) (u : MS) (s : Int) (p0 : 0 ≤ s ∧ s ≤ 7) (p1 : Sh u s) : Met l yX12_insideOf (jw yX12_insideOf cX12_insideOf 2 (some .int)) (jr 4 89) (jP [.ref o, .int (J s)] D (fun H => va_P D.1 j_cl (mW D o q u) H)) (jRi (fun z => z = mIn u s ∧ -100000 ≤ z ∧ z ≤ 100000)) 0 0 (fun _ => False) := by
  refine Met.ofW (cc := cX12_insideOf) (maxL := 2) (ret := (some .int)) (by decide) rfl ?_
  intro pr en st mi args below meth co s₁ B hml hv
  obtain ⟨rfl, hG, hP⟩ := hv
  have hr := B.returns
  have hlk := B.notSynchronized
  have SS : jS pr mi co cX12_insideOf 2 st _ RX12 := ⟨B.exec, B.bytes, hml, findClass_of_methodNamed B.named, fun w hw => atoms_spec (ws := (jw yX12_insideOf cX12_insideOf 2 (some .int))) B.pre w (List.mem_cons_of_mem _ hw)⟩
  have hl := lv_entry ([.ref o, .int (J s)]) (n := 2) (Nat.le_of_ble_eq_true rfl)
  rw [lg_entry_eq]
  generalize (lg_sl ([.ref o, .int (J s)]) ++ List.replicate (2 - (lg_sl ([.ref o, .int (J s)])).length) Slot.unset).toArray = ls at hl ⊢
  have hl : lv_has ls 2 [(0, .ref o), (1, .int (J s))] := hl
  have hN := p1.1
  have hC := p1.2.2
  refine lv_aload_n SS.1 SS.2.1 dX12_insideOf_0 rfl (lv_at hl 0 rfl) ?_
  refine lv_iload_n SS.1 SS.2.1 dX12_insideOf_1 rfl (lv_at hl 1 rfl) ?_
  refine j_vRi SS (As := [.int (J s)]) (rest := []) (c_X12_isPolygon l D o q u s (show 0 ≤ s ∧ s ≤ 7 from (p0)) (show Sh u s from (p1))) mf_X12_isPolygon kw_1240 hG hP hP (ci := 8) (q0 := 0) rfl rfl rfl rfl hl.1 ⟨⟨Nat.le_of_ble_eq_true rfl, Nat.le_of_ble_eq_true rfl⟩, Nat.le_of_ble_eq_true rfl, Nat.le_refl _, Nat.le_refl _⟩ rfl dX12_insideOf_2 (fun z_2 h_2 => ?_)
  have h_2 : (z_2 = 1 ∧ 2 < mN u s) ∨ (z_2 = 0 ∧ mN u s ≤ 2) := h_2
  refine j_if_eq SS (tgt := 26) (x := z_2) dX12_insideOf_5 (by decide) (by omega) (fun c_5 => ?_) (fun c_5 => ?_)
  · skip
    refine j_iconst SS dX12_insideOf_26 ?_
    exact W.iret SS.1 SS.2.1 hr (fun t ht hW => ⟨_, rfl, ⟨0, rfl, (by first | exact ⟨by unfold mIn; rw [if_pos (by omega), h_10.1, h_15.1], t2.1, t2.2⟩ | exact ⟨by unfold mIn; rw [if_neg (by omega)], by omega, by omega⟩)⟩, ht⟩) (fun _ h => nomatch h) dX12_insideOf_27 hlk
  · skip
    refine lv_aload_n SS.1 SS.2.1 dX12_insideOf_8 rfl (lv_at hl 0 rfl) ?_
    refine lv_iload_n SS.1 SS.2.1 dX12_insideOf_9 rfl (lv_at hl 1 rfl) ?_
    refine j_vRi SS (As := [.int (J s)]) (rest := []) (c_X12_areaOf l D o q u s (show 0 ≤ s ∧ s ≤ 7 from (p0)) (show Sh u s from (p1))) mf_X12_areaOf kw_1218 hG hP hP (ci := 8) (q0 := 0) rfl rfl rfl rfl hl.1 ⟨⟨Nat.le_of_ble_eq_true rfl, Nat.le_of_ble_eq_true rfl⟩, Nat.le_of_ble_eq_true rfl, Nat.le_refl _, Nat.le_refl _⟩ rfl dX12_insideOf_10 (fun z_10 h_10 => ?_)
    have h_10 : z_10 = mAr u s ∧ -80000 ≤ z_10 ∧ z_10 ≤ 80000 := h_10
    refine lv_aload_n SS.1 SS.2.1 dX12_insideOf_13 rfl (lv_at hl 0 rfl) ?_
    refine lv_iload_n SS.1 SS.2.1 dX12_insideOf_14 rfl (lv_at hl 1 rfl) ?_
    refine j_vRi SS (As := [.int (J s)]) (rest := [.int (J z_10)]) (c_X12_edgeOf l D o q u s (show 0 ≤ s ∧ s ≤ 7 from (p0)) (show Sh u s from (p1))) mf_X12_edgeOf kw_1222 hG hP hP (ci := 8) (q0 := 0) rfl rfl rfl rfl hl.1 ⟨⟨Nat.le_of_ble_eq_true rfl, Nat.le_of_ble_eq_true rfl⟩, Nat.le_of_ble_eq_true rfl, Nat.le_refl _, Nat.le_refl _⟩ rfl dX12_insideOf_15 (fun z_15 h_15 => ?_)
    have h_15 : z_15 = mEd u s ∧ 0 ≤ z_15 ∧ z_15 ≤ 2000 := h_15
    have t1 : (z_10 - z_15 + 2).tdiv 2 = (if 0 ≤ z_10 - z_15 + 2 then (z_10 - z_15 + 2) / 2 else -((-(z_10 - z_15 + 2)) / 2)) := by split; exact Int.tdiv_eq_ediv_of_nonneg (by omega); rw [show (z_10 - z_15 + 2) = -(-(z_10 - z_15 + 2)) by omega, Int.neg_tdiv, Int.tdiv_eq_ediv_of_nonneg (by omega)]; omega
    have t2 : -100000 ≤ (z_10 - z_15 + 2).tdiv 2 ∧ (z_10 - z_15 + 2).tdiv 2 ≤ 100000 := by rw [t1]; split <;> omega
    refine j_isub SS (x := z_10) (y := z_15) dX12_insideOf_18 ?_
    refine j_iconst SS dX12_insideOf_19 ?_
    refine j_iadd SS (x := (z_10 - z_15)) (y := 2) dX12_insideOf_20 ?_
    refine j_iconst SS dX12_insideOf_21 ?_
    refine j_idiv SS (x := ((z_10 - z_15) + 2)) (y := 2) dX12_insideOf_22 (by omega) (by decide) (by decide) ?_
    refine lv_goto (tgt := 27) SS.1 SS.2.1 dX12_insideOf_23 (by decide) ?_
    exact W.iret SS.1 SS.2.1 hr (fun t ht hW => ⟨_, rfl, ⟨(Int.tdiv ((z_10 - z_15) + 2) 2), rfl, (by first | exact ⟨by unfold mIn; rw [if_pos (by omega), h_10.1, h_15.1], t2.1, t2.2⟩ | exact ⟨by unfold mIn; rw [if_neg (by omega)], by omega, by omega⟩)⟩, ht⟩) (fun _ h => nomatch h) dX12_insideOf_27 hlk
