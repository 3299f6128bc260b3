
/-! ===== the constructors: rows ===== -/
/-- the private constructors of nest mates, the array of shapes -/
def j_KN (U : State) : Prop := va_AO "GridPolygons$Shape" U ∧ va_Nw (.methodLinkNest RX11 15 yX10_init RX11) U ∧ va_Nw (.methodLinkNest RX11 18 yX3_init RX11) U ∧ va_Nw (.methodLinkNest RX11 25 yX4_init RX11) U ∧ va_Nw (.methodLinkNest RX11 32 yX9_init RX11) U ∧ va_Nw (.methodLinkNest RX11 39 yX0_init RX11) U ∧ va_Nw (.methodLinkNest RX11 46 yX2_init RX11) U ∧ va_Nw (.methodLinkNest RX11 53 yX1_init RX11) U ∧ va_Nw (.methodLinkNest RX2 11 yX5_init RX11) U
theorem j_KN.warm {s U : State} (h : j_KN s) (hW : s.WarmedH U.vm) : j_KN U := ⟨va_AO.moved hW.alike h.1, va_Nw.warmM hW h.2.1, va_Nw.warmM hW h.2.2.1, va_Nw.warmM hW h.2.2.2.1, va_Nw.warmM hW h.2.2.2.2.1, va_Nw.warmM hW h.2.2.2.2.2.1, va_Nw.warmM hW h.2.2.2.2.2.2.1, va_Nw.warmM hW h.2.2.2.2.2.2.2.1, va_Nw.warmM hW h.2.2.2.2.2.2.2.2⟩
theorem j_KN.same {s U : State} (h : j_KN s) (e : s.vm = U.vm) : j_KN U := ⟨va_AO.moved (e ▸ Vm.Alike.refl s.vm) h.1, va_Nw.same rfl e h.2.1, va_Nw.same rfl e h.2.2.1, va_Nw.same rfl e h.2.2.2.1, va_Nw.same rfl e h.2.2.2.2.1, va_Nw.same rfl e h.2.2.2.2.2.1, va_Nw.same rfl e h.2.2.2.2.2.2.1, va_Nw.same rfl e h.2.2.2.2.2.2.2.1, va_Nw.same rfl e h.2.2.2.2.2.2.2.2⟩
abbrev jrc (f n c s : Nat) : Room := { frames := f, cells := c, slots := s, locals := n }
def jPN (As : List Value) (D : JD) (P : Heap → Prop) : Array Value → State → Prop := va_Pc As (fun U => (j_K D U ∧ j_KN U) ∧ P U.heap)
theorem jPN.blind {As : List Value} {D : JD} {P : Heap → Prop} : FrameBlind (jPN As D P) := by
  intro a U g mk h
  obtain ⟨h1, ⟨h2, h4⟩, h3⟩ := h
  exact ⟨h1, ⟨⟨va_K.moved (u := U) (U := U.calling g mk a) (Vm.Alike.refl U.vm) h2.1, va_Nw.same rfl (U := U.calling g mk a) rfl h2.2.1, va_Nw.same rfl (U := U.calling g mk a) rfl h2.2.2.1, va_Nw.same rfl (U := U.calling g mk a) rfl h2.2.2.2.1, va_Nw.same rfl (U := U.calling g mk a) rfl h2.2.2.2.2⟩, h4.same (U := U.calling g mk a) rfl⟩, h3⟩
theorem jPN.at {As : List Value} {D : JD} {P : Heap → Prop} {s : State} {H : Heap} (hG : j_K D s) (hN : j_KN s) (hP : P H) : ∀ U : State, U.heap = H → s.WarmedH U.vm → jPN As D P As.toArray U :=
  fun U hU hW => ⟨rfl, ⟨hG.warm hW, hN.warm hW⟩, by rw [hU]; exact hP⟩
def jmI (y : MethodName) (bytes : ByteArray) (maxL : Nat) (n : Nat) : Prop := Cond.code y bytes maxL none ∈ lw_g ∧ Cond.initialized y.cls ∈ lw_g ∧ Cond.instanceMethod y ∈ lw_g ∧ y.name = "<init>" ∧ jd y n
theorem va_D1 {x : Nat × va_E} {sz : Nat} : va_D (va_A [x] sz) [x] := by
  refine ⟨fun i j p q hi hj _ => ?_, fun k q hk => Or.inl ⟨k, q.2, hk⟩⟩
  have h1 := (List.getElem?_eq_some_iff.mp hi).1
  have h2 := (List.getElem?_eq_some_iff.mp hj).1
  simp at h1 h2
  omega
theorem j_at {ws : va_W} {x : Nat × va_E} : (ws ++ [x])[ws.length]? = some x := by simp
theorem j_lf {ws : va_W} {x y : Nat × va_E} {k : Nat} (h : ws[k]? = some y) : (ws ++ [x])[k]? = some y := by
  rw [List.getElem?_append_left (List.getElem?_eq_some_iff.mp h).1]; exact h
theorem j_lastP {D : va_G} {cl : List vw_C} {ws : va_W} {x : Nat × va_E} {H : Heap} (h : va_P D cl (ws ++ [x]) H) : va_P D cl [x] H := fun k q hk => by
  have h1 := (List.getElem?_eq_some_iff.mp hk).1
  simp at h1
  subst h1
  exact h ws.length q (by rw [j_at]; exact hk)
theorem j_one {x y : Nat × va_E} {k : Nat} (h : [x][k]? = some y) : y = x := by
  have h1 := (List.getElem?_eq_some_iff.mp h).1
  simp at h1
  subst h1
  exact (Option.some.inj h).symm
theorem j_free {A : Nat → Prop} {ws : va_W} {x : Nat × va_E} {H0 H : Heap} {locs : List Loc} (hD : va_D A (ws ++ [x])) (hS : va_S A H0 H locs) (hA : ∀ q, H0.size ≤ q → A q) : ∀ q, va_A [x] H.size q → A q := by
  intro q h
  rcases h with ⟨k, e, h⟩ | h
  · have h2 := j_one h
    have h3 := hD.2 ws.length x j_at
    rw [← h2] at h3
    exact h3
  · exact hA q (Nat.le_trans hS.1 h)
theorem j_join {A : Nat → Prop} {D : va_G} {cl : List vw_C} {ws w1 : va_W} {x : Nat × va_E} {H H1 : Heap} (hP : va_P D cl (ws ++ [x]) H) (hD : va_D A (ws ++ [x])) (hk : ∀ q : Nat, q < H.size → ¬ va_A [x] H.size q → H1[q]? = H[q]?) (hF : ∀ q, va_A [x] H.size q → A q) (hP1 : va_P D cl w1 H1) (hD1 : va_D (va_A [x] H.size) w1) : va_P D cl (ws ++ w1) H1 ∧ va_D A (ws ++ w1) := by
  have apart : ∀ (k : Nat) (q : Nat × va_E), ws[k]? = some q → q.1 < H.size ∧ ¬ va_A [x] H.size q.1 := by
    intro k q hq
    have hl := (hP k q (j_lf hq)).lt
    refine ⟨hl, fun h => ?_⟩
    rcases h with ⟨k2, e, h⟩ | h
    · have h2 := j_one h
      have h3 := hD.1 k ws.length q x (j_lf hq) j_at (by rw [← h2])
      have h4 := (List.getElem?_eq_some_iff.mp hq).1
      omega
    · omega
  refine ⟨va_P.app (fun k q hq => ?_) hP1, va_D.app ⟨fun i j a b hi hj h => hD.1 i j a b (j_lf hi) (j_lf hj) h, fun k q hq => hD.2 k q (j_lf hq)⟩ (hD1.weaken (fun k q _ h => hF q.1 h)) (fun i j a b ha hb hab => ?_)⟩
  · obtain ⟨g1, g2⟩ := apart k q hq
    exact (hP k q (j_lf hq)).kept (hk q.1 g1 g2)
  · exact (apart i a ha).2 (by rw [hab]; exact hD1.2 j b hb)
section JN
variable {p : Program} {l : Launch} {e9 : Env} {R : Room} {s : State} {m : MethodId} {args : Array Value} {below : List Frame} {meth : Method} {c : Code} {H : Heap} {locs : List Loc} {cells slots : Nat} {Q : State → Prop}
variable {cc : ByteArray} {nL : Nat} {own : String} {pc : Nat} {ls : Array Slot} {rest : List Value}
theorem j_newI (S : jS p m c cc nL s args own) {D : JD} {ws : va_W} {A : Nat → Prop} {H0 : Heap} (hG : j_K D s) (hP : va_P D.1 j_cl ws H) (hD : va_D A ws) (hS : va_S A H0 H locs) (hA : ∀ q, H0.size ≤ q → A q) (harr : Cond.arrayClass .int ∈ lw_g) {n : Int} (N : Nat) (h0 : 0 ≤ n ∧ n ≤ 1000000) (e : n.toNat = N) (hcells : cells + 1 ≤ R.cells) (hslots : slots + N ≤ R.slots) (hdg : decode cc pc = .ok (.newarray .int, 2))
    (kk : ∀ (q : Nat) (H1 : Heap), va_P D.1 j_cl (ws ++ [(q, .inl (D.2.1, N, .inl (fun _ => J 0)))]) H1 → va_D A (ws ++ [(q, .inl (D.2.1, N, .inl (fun _ => J 0)))]) → va_S A H0 H1 locs → W p l e9 R s m args below meth c H1 locs (cells + 1) (slots + N) Q (F0 m (pc + 2) ls (.ref q :: rest))) : W p l e9 R s m args below meth c H locs cells slots Q (F0 m pc ls (.int (J n) :: rest)) := by
  refine va_newa (atype := .int) S.1 S.2.1 (S.2.2.2.2 _ harr) (ty := .int) rfl hG.1 hP hD hS hA (N' := N) (a0 := (N, .inl (fun _ => J 0))) (fun cA => rfl) (fun q => absurd ((J_lt (by omega) (by omega)).mp (J_0 ▸ q)) (by omega)) (by rw [J_clamp (by omega)]; exact e) (by show N * 4 ≤ 536870912; omega) hcells hslots hdg (fun q cA H1 hK1 hP1 hD1 hS1 => ?_)
  have h1 : s.vm.findClass ("[" ++ FieldType.toString .int) = some cA := (hK1.2 3 (cA, .int) rfl).2
  have h2 : s.vm.findClass ("[" ++ FieldType.toString .int) = some D.2.1 := (hG.1.2 0 (D.2.1, .int) rfl).2
  have e1 : cA = D.2.1 := Option.some.inj (h1.symm.trans h2)
  subst e1
  exact kk q H1 hP1 hD1 hS1
theorem j_newL (S : jS p m c cc nL s args own) {D : JD} {ws : va_W} {A : Nat → Prop} {H0 : Heap} (hG : j_K D s) (hP : va_P D.1 j_cl ws H) (hD : va_D A ws) (hS : va_S A H0 H locs) (hA : ∀ q, H0.size ≤ q → A q) (harr : Cond.arrayClass .long ∈ lw_g) {n : Int} (N : Nat) (h0 : 0 ≤ n ∧ n ≤ 1000000) (e : n.toNat = N) (hcells : cells + 1 ≤ R.cells) (hslots : slots + N ≤ R.slots) (hdg : decode cc pc = .ok (.newarray .long, 2))
    (kk : ∀ (q : Nat) (H1 : Heap), va_P D.1 j_cl (ws ++ [(q, .inl (D.2.2.1, N, .inr (.inl (fun _ => 0))))]) H1 → va_D A (ws ++ [(q, .inl (D.2.2.1, N, .inr (.inl (fun _ => 0))))]) → va_S A H0 H1 locs → W p l e9 R s m args below meth c H1 locs (cells + 1) (slots + N) Q (F0 m (pc + 2) ls (.ref q :: rest))) : W p l e9 R s m args below meth c H locs cells slots Q (F0 m pc ls (.int (J n) :: rest)) := by
  refine va_newa (atype := .long) S.1 S.2.1 (S.2.2.2.2 _ harr) (ty := .long) rfl hG.1 hP hD hS hA (N' := N) (a0 := (N, .inr (.inl (fun _ => 0)))) (fun cA => rfl) (fun q => absurd ((J_lt (by omega) (by omega)).mp (J_0 ▸ q)) (by omega)) (by rw [J_clamp (by omega)]; exact e) (by show N * 8 ≤ 536870912; omega) hcells hslots hdg (fun q cA H1 hK1 hP1 hD1 hS1 => ?_)
  have h1 : s.vm.findClass ("[" ++ FieldType.toString .long) = some cA := (hK1.2 3 (cA, .long) rfl).2
  have h2 : s.vm.findClass ("[" ++ FieldType.toString .long) = some D.2.2.1 := (hG.1.2 1 (D.2.2.1, .long) rfl).2
  have e1 : cA = D.2.2.1 := Option.some.inj (h1.symm.trans h2)
  subst e1
  exact kk q H1 hP1 hD1 hS1
theorem j_newQ (S : jS p m c cc nL s args own) {D : JD} {ws : va_W} {A : Nat → Prop} {H0 : Heap} {index : Nat} (hG : j_K D s) (hN : j_KN s) (hP : va_P D.1 j_cl ws H) (hD : va_D A ws) (hS : va_S A H0 H locs) (hA : ∀ q, H0.size ≤ q → A q) (hcl : Cond.classLink own index "GridPolygons$Shape" ∈ lw_g) {n : Int} (N : Nat) (h0 : 0 ≤ n ∧ n ≤ 1000000) (e : n.toNat = N) (hcells : cells + 1 ≤ R.cells) (hslots : slots + N ≤ R.slots) (hdg : decode cc pc = .ok (.anewarray index, 3))
    (kk : ∀ (q : Nat) (H1 : Heap), va_P D.1 j_cl (ws ++ [(q, .inl (D.2.2.2, N, .inr (.inr (.inr (.inr (fun _ => none))))))]) H1 → va_D A (ws ++ [(q, .inl (D.2.2.2, N, .inr (.inr (.inr (.inr (fun _ => none))))))]) → va_S A H0 H1 locs → W p l e9 R s m args below meth c H1 locs (cells + 1) (slots + N) Q (F0 m (pc + 3) ls (.ref q :: rest))) : W p l e9 R s m args below meth c H locs cells slots Q (F0 m pc ls (.int (J n) :: rest)) := by
  refine va_newq S.1 S.2.1 S.2.2.2.1 (S.2.2.2.2 _ hcl) hN.1 hG.1 hP hD hS hA (N' := N) (fun q => absurd ((J_lt (by omega) (by omega)).mp (J_0 ▸ q)) (by omega)) (by rw [J_clamp (by omega)]; exact e) (by omega) hcells hslots hdg (fun q cA H1 hK1 hP1 hD1 hS1 => ?_)
  obtain ⟨_, _, _, _, _, h1⟩ : va_RA s cA (.object "GridPolygons$Shape") := (hK1.2 3 (cA, .object "GridPolygons$Shape") rfl).2
  obtain ⟨_, _, _, _, _, h2⟩ : va_RA s D.2.2.2 (.object "GridPolygons$Shape") := (hG.1.2 2 (D.2.2.2, .object "GridPolygons$Shape") rfl).2
  have e1 : cA = D.2.2.2 := Option.some.inj (h1.symm.trans h2)
  subst e1
  exact kk q H1 hP1 hD1 hS1
theorem j_iN (S : jS p m c cc nL s args own) {D : JD} {P : Heap → Prop} {b : Nat} {As : List Value} {U : Type} {B : U → Heap → Prop} {A1 A0 : Nat → Prop} {H0 : Heap} {host : String} {y : MethodName} {bytes : ByteArray} {maxL n index f nl mc ms : Nat} (hM : Met l y (jw y bytes maxL none) (jrc f nl mc ms) (jPN (.ref b :: As) D P) (jWv (fun _ : U => True) B A1) mc ms A1) (hy : jmI y bytes maxL n) (hl : va_Nw (.methodLinkNest own index y host) s) (hG : j_K D s) (hN : j_KN s) (hP : P H) (hS : va_S A0 H0 H locs) (hA : ∀ q, A1 q → A0 q) (hn : As.length = n) (hls : ls.size = nL) (hR : (f + 1 ≤ R.frames ∧ 8 + (maxL + 11) + nl ≤ R.locals) ∧ (rest.map fun v => v.category).sum ≤ 8 ∧ cells + mc ≤ R.cells ∧ slots + ms ≤ R.slots) {st0 : List Value} (hst : st0 = As.reverse ++ .ref b :: rest) (hdg : decode cc pc = .ok (.invokespecial index, 3))
    (k : ∀ (u : U) (H1 : Heap) (locs1 : List Loc), B u H1 → (H.size ≤ H1.size ∧ ∀ q : Nat, q < H.size → ¬ A1 q → H1[q]? = H[q]?) → va_S A0 H0 H1 locs1 → W p l e9 R s m args below meth c H1 locs1 (cells + mc) (slots + ms) Q (F0 m (pc + 3) ls rest)) : W p l e9 R s m args below meth c H locs cells slots Q (F0 m pc ls st0) := by
  refine va_callv (va_runIN S hM ⟨va_cnB n S.2.2.2.2 (j_good hy.1) rfl rfl rfl hl (S.2.2.2.2 _ hy.2.1) hy.2.2.2.2 hR.1, hy.2.2.2.1, S.2.2.2.2 _ hy.2.2.1⟩ ⟨jPN.blind, jPN.at hG hN hP⟩ rfl hn hls hst (lv_room hR.2.1) hdg hR.2.2) hS (fun q _ h => hA q h) hA (fun u t H1 locs1 ht hvm hp hB hz hk hS1 => ?_)
  exact k u H1 locs1 (ht ▸ hB) ⟨hz, hk⟩ hS1
theorem j_iS (S : jS p m c cc nL s args own) {D : JD} {P : Heap → Prop} {b : Nat} {As : List Value} {U : Type} {B : U → Heap → Prop} {A1 A0 : Nat → Prop} {H0 : Heap} {y : MethodName} {bytes : ByteArray} {maxL n index f nl mc ms : Nat} (hM : Met l y (jw y bytes maxL none) (jrc f nl mc ms) (jPN (.ref b :: As) D P) (jWv (fun _ : U => True) B A1) mc ms A1) (hy : jmI y bytes maxL n) (hl : Cond.methodLink own index y ∈ lw_g) (hG : j_K D s) (hN : j_KN s) (hP : P H) (hS : va_S A0 H0 H locs) (hA : ∀ q, A1 q → A0 q) (hn : As.length = n) (hls : ls.size = nL) (hR : (f + 1 ≤ R.frames ∧ 8 + (maxL + 11) + nl ≤ R.locals) ∧ (rest.map fun v => v.category).sum ≤ 8 ∧ cells + mc ≤ R.cells ∧ slots + ms ≤ R.slots) {st0 : List Value} (hst : st0 = As.reverse ++ .ref b :: rest) (hdg : decode cc pc = .ok (.invokespecial index, 3))
    (k : ∀ (u : U) (H1 : Heap) (locs1 : List Loc), B u H1 → (H.size ≤ H1.size ∧ ∀ q : Nat, q < H.size → ¬ A1 q → H1[q]? = H[q]?) → va_S A0 H0 H1 locs1 → W p l e9 R s m args below meth c H1 locs1 (cells + mc) (slots + ms) Q (F0 m (pc + 3) ls rest)) : W p l e9 R s m args below meth c H locs cells slots Q (F0 m pc ls st0) := by
  refine va_callv (va_runI S hM ⟨callB_of n S.2.2.2.2 (j_good hy.1) rfl rfl rfl (S.2.2.2.2 _ hy.2.1) (S.2.2.2.2 _ hl) hy.2.2.2.2 hR.1, hy.2.2.2.1, S.2.2.2.2 _ hy.2.2.1⟩ ⟨jPN.blind, jPN.at hG hN hP⟩ rfl hn hls hst (lv_room hR.2.1) hdg hR.2.2) hS (fun q _ h => hA q h) hA (fun u t H1 locs1 ht hvm hp hB hz hk hS1 => ?_)
  exact k u H1 locs1 (ht ▸ hB) ⟨hz, hk⟩ hS1
end JN
