theorem kw_105 : Cond.classLink "GridPolygonsLaw" 7 "GridPolygons" ∈ lw_g := lw_gin 105 (by decide +kernel) (by decide +kernel)
theorem kw_107 : Cond.methodLink RL 9 yX11_init ∈ lw_g := lw_gin 107 (by decide +kernel) (by decide +kernel)
theorem mi_X11_init : jmI yX11_init cX11_init 2 0 := ⟨kw_109, kw_88, kw_108, rfl, ⟨by decide +kernel, by decide +kernel, by decide +kernel⟩⟩
theorem kw_1051 : Cond.classLink "GridPolygonsLaw" 10 "GridPolygonsModel" ∈ lw_g := lw_gin 1051 (by decide +kernel) (by decide +kernel)
theorem kw_1053 : Cond.methodLink RL 12 yX12_init ∈ lw_g := lw_gin 1053 (by decide +kernel) (by decide +kernel)
theorem mi_X12_init : jmI yX12_init cX12_init 1 0 := ⟨kw_1055, kw_100, kw_1054, rfl, ⟨by decide +kernel, by decide +kernel, by decide +kernel⟩⟩
theorem W.eqH9 {p : Program} {l : Launch} {e : Env} {R : Room} {s : State} {m : MethodId} {args : Array Value} {below : List Frame} {meth : Method} {c : Code} {H H' : Heap} {locs : List Loc} {cells slots : Nat} {Q : State → Prop} {g : JFrame} (h : H' = H) (k : W p l e R s m args below meth c H' locs cells slots Q g) : W p l e R s m args below meth c H locs cells slots Q g := h ▸ k

set_option maxHeartbeats 4000000 in
set_option maxRecDepth 100000 in
theorem whole_start {p : Program} {e : Env} {s : State} {m : MethodId} {below : List Frame} {meth : Method} {c : Code} (l : Launch) (hflags : l.flags = flags0) {b L : Nat} {xs : Nat → Int32} (hL : L ≤ 4608) (C0 : lw_At p s m meth c b L xs) : W p l e room_1 s m #[Value.ref b] below meth c s.heap [] 0 0 (lw_Z below #[Value.ref b] s) (entryFrame m ([Value.ref b] : List Value).toArray 4) := by
  obtain ⟨hx, hb, hr, hml, hown, hts, hX, hbl, hlocks, hgv⟩ := C0
  have hA : ∀ a : Nat, s.heap.size ≤ a → (fun a : Nat => s.heap.size ≤ a) a := fun _ h => h
  obtain ⟨c0, f0, k0⟩ := u_known (C := RX0) (T := TX0) (N := 14) (n := 14) hts (fun w hw => lw_gsub w (inX0 w hw)) (hts (.instantiable RX0 14) (List.mem_of_getElem? (i := 237) (by decide +kernel)))
  obtain ⟨c1, f1, k1⟩ := u_known (C := RX1) (T := TX1) (N := 4) (n := 4) hts (fun w hw => lw_gsub w (inX1 w hw)) (hts (.instantiable RX1 4) (List.mem_of_getElem? (i := 364) (by decide +kernel)))
  obtain ⟨c2, f2, k2⟩ := u_known (C := RX2) (T := TX2) (N := 7) (n := 7) hts (fun w hw => lw_gsub w (inX2 w hw)) (hts (.instantiable RX2 7) (List.mem_of_getElem? (i := 289) (by decide +kernel)))
  obtain ⟨c3, f3, k3⟩ := u_known (C := RX3) (T := TX3) (N := 3) (n := 3) hts (fun w hw => lw_gsub w (inX3 w hw)) (hts (.instantiable RX3 3) (List.mem_of_getElem? (i := 170) (by decide +kernel)))
  obtain ⟨c4, f4, k4⟩ := u_known (C := RX4) (T := TX4) (N := 3) (n := 3) hts (fun w hw => lw_gsub w (inX4 w hw)) (hts (.instantiable RX4 3) (List.mem_of_getElem? (i := 189) (by decide +kernel)))
  obtain ⟨c5, f5, k5⟩ := u_known (C := RX5) (T := TX5) (N := 9) (n := 9) hts (fun w hw => lw_gsub w (inX5 w hw)) (hts (.instantiable RX5 9) (List.mem_of_getElem? (i := 295) (by decide +kernel)))
  obtain ⟨c6, f6, k6⟩ := u_known (C := RX6) (T := TX6) (N := 3) (n := 3) hts (fun w hw => lw_gsub w (inX6 w hw)) (hts (.instantiable RX6 3) (List.mem_of_getElem? (i := 301) (by decide +kernel)))
  obtain ⟨c7, f7, k7⟩ := u_known (C := RX7) (T := TX7) (N := 3) (n := 3) hts (fun w hw => lw_gsub w (inX7 w hw)) (hts (.instantiable RX7 3) (List.mem_of_getElem? (i := 121) (by decide +kernel)))
  obtain ⟨c8, f8, k8⟩ := u_known (C := RX12) (T := TX12) (N := 31) (n := 31) hts (fun w hw => lw_gsub w (inX12 w hw)) (hts (.instantiable RX12 31) (List.mem_of_getElem? (i := 1052) (by decide +kernel)))
  obtain ⟨c9, f9, k9⟩ := u_known (C := RX9) (T := TX9) (N := 6) (n := 6) hts (fun w hw => lw_gsub w (inX9 w hw)) (hts (.instantiable RX9 6) (List.mem_of_getElem? (i := 208) (by decide +kernel)))
  obtain ⟨c10, f10, k10⟩ := u_known (C := RX10) (T := TX10) (N := 3) (n := 3) hts (fun w hw => lw_gsub w (inX10 w hw)) (hts (.instantiable RX10 3) (List.mem_of_getElem? (i := 115) (by decide +kernel)))
  obtain ⟨c11, f11, k11⟩ := u_known (C := RX11) (T := TX11) (N := 8) (n := 8) hts (fun w hw => lw_gsub w (inX11 w hw)) (hts (.instantiable RX11 8) (List.mem_of_getElem? (i := 106) (by decide +kernel)))
  obtain ⟨cI, kI, pI, a1, a2, a3⟩ := Cond.arrayClass_spec (hts (.arrayClass .int) (List.mem_of_getElem? (i := 149) (by decide +kernel)))
  obtain ⟨cL, kL, pL, b1, b2, b3⟩ := Cond.arrayClass_spec (hts (.arrayClass .long) (List.mem_of_getElem? (i := 287) (by decide +kernel)))
  obtain ⟨pS, cS, kS, d1, d2, d3, d4, d5⟩ := Cond.arrayOver_spec (hts (.arrayOver (.object "GridPolygons$Shape")) (List.mem_of_getElem? (i := 114) (by decide +kernel)))
  obtain ⟨D, eD⟩ : ∃ D : JD, D = ((fun k => ([c0, c1, c2, c3, c4, c5, c6, c7, c8, c9, c10, c11] : List ClassId).getD k c0, fun k => ([f0, f1, f2, f3, f4, f5, f6, f7, f8, f9, f10, f11] : List (Nat → Nat)).getD k f0), cI, cL, cS) := ⟨_, rfl⟩
  have hK : va_K D.1 j_cl (j_ty D) s := by
    rw [eD]
    refine ⟨fun k q hq => ?_, fun k q hq => ?_⟩
    · match k, hq with
      | 0, hq => cases hq; exact k0
      | 1, hq => cases hq; exact k1
      | 2, hq => cases hq; exact k2
      | 3, hq => cases hq; exact k3
      | 4, hq => cases hq; exact k4
      | 5, hq => cases hq; exact k5
      | 6, hq => cases hq; exact k6
      | 7, hq => cases hq; exact k7
      | 8, hq => cases hq; exact k8
      | 9, hq => cases hq; exact k9
      | 10, hq => cases hq; exact k10
      | 11, hq => cases hq; exact k11
      | k + 12, hq => simp [j_cl] at hq
    · match k, hq with
      | 0, hq => cases hq; exact ⟨fun n z => ⟨(fun k h => by cases h), kI, a2, pI, a3⟩, a1⟩
      | 1, hq => cases hq; exact ⟨fun n z => ⟨(fun k h => by cases h), kL, b2, pL, b3⟩, b1⟩
      | 2, hq => cases hq; exact ⟨fun n z => ⟨(fun k h => by cases h), kS, d3, pS, d4⟩, kS, pS, d3, d4, d1, d5⟩
      | k + 3, hq => simp at hq
  have hG : j_K D s := ⟨hK, va_Nw.of rfl (hts (.methodLinkNest RX7 19 yX11_onGrid RX11) (List.mem_of_getElem? (i := 502) (by decide +kernel))), va_Nw.of rfl (hts (.methodLinkNest RX7 36 yX11_gcd RX11) (List.mem_of_getElem? (i := 541) (by decide +kernel))), va_Nw.of rfl (hts (.methodLinkNest RX9 9 yX11_gcd RX11) (List.mem_of_getElem? (i := 839) (by decide +kernel))), va_Nw.of rfl (hts (.methodLinkNest RX5 64 yX11_gcd RX11) (List.mem_of_getElem? (i := 891) (by decide +kernel)))⟩
  have hN : j_KN s := ⟨va_AO.of (hts (.arrayOver (.object "GridPolygons$Shape")) (List.mem_of_getElem? (i := 114) (by decide +kernel))), va_Nw.of rfl (hts (.methodLinkNest RX11 15 yX10_init RX11) (List.mem_of_getElem? (i := 116) (by decide +kernel))), va_Nw.of rfl (hts (.methodLinkNest RX11 18 yX3_init RX11) (List.mem_of_getElem? (i := 171) (by decide +kernel))), va_Nw.of rfl (hts (.methodLinkNest RX11 25 yX4_init RX11) (List.mem_of_getElem? (i := 190) (by decide +kernel))), va_Nw.of rfl (hts (.methodLinkNest RX11 32 yX9_init RX11) (List.mem_of_getElem? (i := 209) (by decide +kernel))), va_Nw.of rfl (hts (.methodLinkNest RX11 39 yX0_init RX11) (List.mem_of_getElem? (i := 238) (by decide +kernel))), va_Nw.of rfl (hts (.methodLinkNest RX11 46 yX2_init RX11) (List.mem_of_getElem? (i := 290) (by decide +kernel))), va_Nw.of rfl (hts (.methodLinkNest RX11 53 yX1_init RX11) (List.mem_of_getElem? (i := 365) (by decide +kernel))), va_Nw.of rfl (hts (.methodLinkNest RX2 11 yX5_init RX11) (List.mem_of_getElem? (i := 296) (by decide +kernel)))⟩
  have S : jS p m c cL_law 4 s #[.ref b] RL := ⟨hx, hb, hml, hown, fun w hw => hts w (lw_gsub w hw)⟩
  have hS : va_S (fun a : Nat => s.heap.size ≤ a) s.heap s.heap [] := va_S.rf
  have hP : va_P D.1 j_cl [] s.heap := fun k q h => by simp at h
  have hD : va_D (fun a : Nat => s.heap.size ≤ a) [] := ⟨fun i j p q h => by simp at h, fun k q h => by simp at h⟩
  have hl := lv_entry ([.ref b]) (n := 4) (Nat.le_of_ble_eq_true rfl)
  rw [lg_entry_eq]
  generalize (lg_sl ([.ref b]) ++ List.replicate (4 - (lg_sl ([.ref b])).length) Slot.unset).toArray = ls at hl ⊢
  have hl : lv_has ls 4 [(0, .ref b)] := hl
  obtain ⟨H, eH⟩ : ∃ H, H = s.heap := ⟨_, rfl⟩
  rw [← eH] at hP
  have hS : va_S (fun a : Nat => s.heap.size ≤ a) s.heap H [] := eH ▸ hS
  refine W.eqH9 eH ?_
  refine va_new (ci := 11) (fs := [.null, .null, .null, .null, .null, .null, .null, .int 0]) (C := RX11) (T := TX11) (N := 8) S.1 S.2.1 S.2.2.2.2 inX11 tyX11 tyX11_ok S.2.2.2.1 (S.2.2.2.2 _ kw_105) (S.2.2.2.2 _ kw_106) (S.2.2.2.2 _ kw_88) hG.1 hP hD hS hA rfl (fun j hj => by rcases (show j = 0 ∨ j = 1 ∨ j = 2 ∨ j = 3 ∨ j = 4 ∨ j = 5 ∨ j = 6 ∨ j = 7 by omega) with rfl | rfl | rfl | rfl | rfl | rfl | rfl | rfl <;> rfl) (Nat.le_of_ble_eq_true rfl) (Nat.le_of_ble_eq_true rfl) dL_law_0 (fun a H hP hD hS => ?_)
  refine W.widen (k := 1) (n := 8) (Nat.le_of_ble_eq_true rfl) (Nat.le_of_ble_eq_true rfl) ?_
  refine lv_dup S.1 S.2.1 dL_law_3 rfl ?_
  have hF := j_free (x := (a, .inr (11, [.null, .null, .null, .null, .null, .null, .null, .int 0]))) hD hS hA
  refine j_iS S (As := []) (rest := [.ref a]) (c_X11_init l D a H.size) mi_X11_init kw_107 hG hN ⟨rfl, j_lastP hP⟩ hS hF rfl hl.1 ⟨⟨Nat.le_of_ble_eq_true rfl, Nat.le_of_ble_eq_true rfl⟩, Nat.le_of_ble_eq_true rfl, Nat.le_of_ble_eq_true rfl, Nat.le_of_ble_eq_true rfl⟩ rfl dL_law_4 (fun q H1 locs hB hFr hS => ?_)
  obtain ⟨hP, hD⟩ := j_join hP hD hFr.2 hF hB.1 hB.2.1
  have ea := hB.2.2
  generalize H1 = H at hP hS ⊢
  have hP : va_P D.1 j_cl (cW D q cS0) H := hP
  have hD : va_D (fun a : Nat => s.heap.size ≤ a) (cW D q cS0) := hD
  rw [← ea]
  refine W.widen (k := 74) (n := 188087) (Nat.le_of_ble_eq_true rfl) (Nat.le_of_ble_eq_true rfl) ?_
  refine lv_astore_n (lv' := [(1, .ref (q 0)), (0, .ref b)]) S.1 S.2.1 dL_law_7 rfl hl (by decide) rfl (fun ls hl => ?_)
  refine va_new (ci := 8) (fs := [.null, .null, .null, .null, .null, .null, .int 0, .null, .null, .int 0, .null, .null, .int 0, .null, .null, .null, .null, .null, .null, .int 0, .null, .null, .null, .int 0, .null, .null, .null, .int 0, .int 0, .null, .int 0]) (C := RX12) (T := TX12) (N := 31) S.1 S.2.1 S.2.2.2.2 inX12 tyX12 tyX12_ok S.2.2.2.1 (S.2.2.2.2 _ kw_1051) (S.2.2.2.2 _ kw_1052) (S.2.2.2.2 _ kw_100) hG.1 hP hD hS hA rfl (fun j hj => by rcases (show j = 0 ∨ j = 1 ∨ j = 2 ∨ j = 3 ∨ j = 4 ∨ j = 5 ∨ j = 6 ∨ j = 7 ∨ j = 8 ∨ j = 9 ∨ j = 10 ∨ j = 11 ∨ j = 12 ∨ j = 13 ∨ j = 14 ∨ j = 15 ∨ j = 16 ∨ j = 17 ∨ j = 18 ∨ j = 19 ∨ j = 20 ∨ j = 21 ∨ j = 22 ∨ j = 23 ∨ j = 24 ∨ j = 25 ∨ j = 26 ∨ j = 27 ∨ j = 28 ∨ j = 29 ∨ j = 30 by omega) with rfl | rfl | rfl | rfl | rfl | rfl | rfl | rfl | rfl | rfl | rfl | rfl | rfl | rfl | rfl | rfl | rfl | rfl | rfl | rfl | rfl | rfl | rfl | rfl | rfl | rfl | rfl | rfl | rfl | rfl | rfl <;> rfl) (Nat.le_of_ble_eq_true rfl) (Nat.le_of_ble_eq_true rfl) dL_law_8 (fun o H hP hD hS => ?_)
  refine W.widen (k := 75) (n := 188118) (Nat.le_of_ble_eq_true rfl) (Nat.le_of_ble_eq_true rfl) ?_
  refine lv_dup S.1 S.2.1 dL_law_11 rfl ?_
  have hF := j_free (x := (o, .inr (8, [.null, .null, .null, .null, .null, .null, .int 0, .null, .null, .int 0, .null, .null, .int 0, .null, .null, .null, .null, .null, .null, .int 0, .null, .null, .null, .int 0, .null, .null, .null, .int 0, .int 0, .null, .int 0]))) hD hS hA
  refine j_iS S (As := []) (rest := [.ref o]) (c_X12_init l D o H.size) mi_X12_init kw_1053 hG hN ⟨rfl, j_lastP hP⟩ hS hF rfl hl.1 ⟨⟨Nat.le_of_ble_eq_true rfl, Nat.le_of_ble_eq_true rfl⟩, Nat.le_of_ble_eq_true rfl, Nat.le_of_ble_eq_true rfl, Nat.le_of_ble_eq_true rfl⟩ rfl dL_law_12 (fun q2 H1 locs hB hFr hS => ?_)
  obtain ⟨hP, hD⟩ := j_join hP hD hFr.2 hF hB.1 hB.2
  generalize H1 = H at hP hS ⊢
  refine W.widen (k := 98) (n := 921197) (Nat.le_of_ble_eq_true rfl) (Nat.le_of_ble_eq_true rfl) ?_
  refine lv_astore_n (lv' := [(2, .ref o), (1, .ref (q 0)), (0, .ref b)]) S.1 S.2.1 dL_law_15 rfl hl (by decide) rfl (fun ls hl => ?_)
  refine j_iconst S dL_law_16 ?_
  refine lv_istore_n (lv' := [(3, .int (J 0)), (2, .ref o), (1, .ref (q 0)), (0, .ref b)]) S.1 S.2.1 dL_law_17 rfl hl (by decide) rfl (fun ls hl => ?_)
  obtain ⟨g1, g2, g3, g4, g5⟩ := va_D_split hD
  obtain ⟨e1, e2⟩ := va_P_split hP
  exact law_loop ⟨S, hG, hX, hbl, hL, g1, g2, g3, g4, g5, (Nat.le_of_ble_eq_true rfl), (Nat.le_of_ble_eq_true rfl)⟩ hr hlocks (L + 11) 0 cS0 mS0 H locs ls (by omega) (by omega) ⟨⟨EQS_0, EQH_0, FV_0⟩, CI0, IM0, e1, e2, hS⟩ (lv_sub hl [0, 3, 2, 1] rfl)
