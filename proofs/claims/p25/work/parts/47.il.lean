
theorem gpar (a b : Int) : (a % 2 = 0 ∧ b % 2 = 0 ∧ (Int.gcd a b : Int) % 2 = 0) ∨ (¬ (a % 2 = 0 ∧ b % 2 = 0) ∧ (Int.gcd a b : Int) % 2 = 1) := by
  by_cases h : a % 2 = 0 ∧ b % 2 = 0
  · have d : (2 : Int) ∣ (Int.gcd a b : Int) := Int.dvd_coe_gcd (Int.dvd_of_emod_eq_zero h.1) (Int.dvd_of_emod_eq_zero h.2)
    exact Or.inl ⟨h.1, h.2, Int.emod_eq_zero_of_dvd d⟩
  · refine Or.inr ⟨h, ?_⟩
    by_cases e : (Int.gcd a b : Int) % 2 = 0
    · exfalso
      have d := Int.dvd_of_emod_eq_zero e
      exact h ⟨Int.emod_eq_zero_of_dvd (Int.dvd_trans d (Int.gcd_dvd_left a b)), Int.emod_eq_zero_of_dvd (Int.dvd_trans d (Int.gcd_dvd_right a b))⟩
    · omega
/-- 0 where both are even, else 1 -/
def ph (x y : Int) : Int := if x % 2 = 0 ∧ y % 2 = 0 then 0 else 1
theorem par_s (x y x2 y2 : Int) : (x * y2 - x2 * y + (Int.gcd (x2 - x) (y2 - y) : Int) - ph x2 y2 + ph x y) % 2 = 0 := by
  have g := gpar (x2 - x) (y2 - y)
  have m1 := Int.mul_emod x y2 2
  have m2 := Int.mul_emod x2 y 2
  unfold ph
  generalize (Int.gcd (x2 - x) (y2 - y) : Int) = G at g ⊢
  generalize x * y2 = A at m1 ⊢
  generalize x2 * y = C at m2 ⊢
  rcases Int.emod_two_eq x with hx | hx <;> rcases Int.emod_two_eq y with hy | hy <;> rcases Int.emod_two_eq x2 with hx2 | hx2 <;> rcases Int.emod_two_eq y2 with hy2 | hy2 <;> rw [hx, hy2] at m1 <;> rw [hx2, hy] at m2 <;> simp only [hx, hy, hx2, hy2] <;> simp only [Int.one_ne_zero, and_true, and_false, and_self, if_true, if_false] <;> omega
theorem par_n (F G : Int → Int) (n : Nat) : (smI (fun i => F i * G (i + 1) - F (i + 1) * G i) n + smI (fun i => (Int.gcd (F (i + 1) - F i) (G (i + 1) - G i) : Int)) n - ph (F n) (G n) + ph (F 0) (G 0)) % 2 = 0 := by
  induction n with
  | zero => rw [show (((0 : Nat) : Int)) = 0 from rfl, smI_0, smI_0]; omega
  | succ n ih =>
    rw [show ((n + 1 : Nat) : Int) = (n : Int) + 1 by omega, smI_s (by omega), smI_s (by omega)]
    have q := par_s (F n) (G n) (F (n + 1)) (G (n + 1))
    generalize smI (fun i => F i * G (i + 1) - F (i + 1) * G i) n = A at ih ⊢
    generalize smI (fun i => (Int.gcd (F (i + 1) - F i) (G (i + 1) - G i) : Int)) n = C at ih ⊢
    generalize F n * G (n + 1) - F (n + 1) * G n = D at q ⊢
    generalize (Int.gcd (F (n + 1) - F n) (G (n + 1) - G n) : Int) = E at q ⊢
    omega
theorem mX_w {v : MS} {s : Int} : mX v s (mN v s) = mX v s 0 ∧ mY v s (mN v s) = mY v s 0 := by
  unfold mX mY
  rw [Int.tmod_self, Int.zero_tmod]
  exact ⟨rfl, rfl⟩
theorem mpar {v : MS} {s : Int} (h : 2 < mN v s) : (mAr v s - mEd v s) % 2 = 0 := by
  have q := par_n (fun i => mX v s i) (fun i => mY v s i) (mN v s).toNat
  rw [show (((mN v s).toNat : Nat) : Int) = mN v s by omega] at q
  simp only [mX_w.1, mX_w.2] at q
  unfold mAr mEd mS
  rw [if_neg (by omega), if_neg (by omega)]
  generalize smI (fun i => mX v s i * mY v s (i + 1) - mX v s (i + 1) * mY v s i) (mN v s) = A at q ⊢
  generalize smI (fun i => (Int.gcd (mX v s (i + 1) - mX v s i) (mY v s (i + 1) - mY v s i) : Int)) (mN v s) = C at q ⊢
  omega
theorem EQS_d {u : CS} {v : MS} (hC : CI u) (h : EQS u v) {s : Int} (hs : 0 ≤ s ∧ s ≤ 7) : ∀ k : Int, 0 ≤ k → k < mN v s → dX u s.toNat k = mX v s (k + 1) - mX v s k ∧ dY u s.toNat k = mY v s (k + 1) - mY v s k := by
  obtain ⟨e1, e2⟩ := EQS_x hC h hs
  intro k h0 h1
  unfold dX dY
  rw [(e2 k h0 h1).1, (e2 k h0 h1).2]
  unfold ar
  by_cases e : k + 1 < mN v s
  · rw [if_neg (by omega), if_neg (by omega), (e2 (k + 1) (by omega) e).1, (e2 (k + 1) (by omega) e).2]
    exact ⟨rfl, rfl⟩
  · rw [if_pos (by omega), (e2 0 (by omega) (by omega)).1, (e2 0 (by omega) (by omega)).2, show k + 1 = mN v s by omega, mX_w.1, mX_w.2]
    exact ⟨rfl, rfl⟩
theorem EQS_a {u : CS} {v : MS} (hC : CI u) (h : EQS u v) {s : Int} (hs : 0 ≤ s ∧ s ≤ 7) : rA u s.toNat = mAr v s ∧ rE u s.toNat = mEd v s ∧ rI u s.toNat = mIn v s := by
  obtain ⟨e1, e2⟩ := EQS_x hC h hs
  have d := EQS_d hC h hs
  have n0 := CI_n hC hs
  have kA : rA u s.toNat = mAr v s := by
    unfold rA mAr
    rw [e1]
    refine smI_c (fun i h0 h1 => ?_)
    rw [(e2 i h0 h1).1, (e2 i h0 h1).2, (d i h0 h1).1, (d i h0 h1).2, Int.mul_sub, Int.mul_sub, Int.mul_comm (mY v s i) (mX v s (i + 1)), Int.mul_comm (mY v s i) (mX v s i)]
    omega
  have kS : ∀ i : Int, 0 ≤ i → i < mN v s → dS u s.toNat i = mS v s i := fun i h0 h1 => by
    unfold dS mS
    rw [(d i h0 h1).1, (d i h0 h1).2]
  have kE : rE u s.toNat = mEd v s := by
    unfold rE mEd
    rw [e1]
    by_cases g : mN v s < 3
    · rw [if_pos g]
      by_cases g0 : mN v s = 0
      · rw [if_pos g0, if_pos (by omega), g0]
      · rw [if_neg g0]
        by_cases g1 : mN v s = 1
        · rw [if_pos (by omega), g1]
          unfold dS dX dY ar
          rw [if_pos (by omega), Int.sub_self, Int.sub_self]
          rfl
        · rw [if_neg (by omega), if_pos (by omega), kS 0 (by omega) (by omega)]
    · rw [if_neg g, if_neg (by omega), if_neg (by omega)]
      exact smI_c kS
  refine ⟨kA, kE, ?_⟩
  unfold rI mIn
  rw [e1, kA, kE]
  by_cases g : mN v s < 3
  · rw [if_pos g, if_neg (by omega)]
  · rw [if_neg g, if_pos (by omega)]
    have p := mpar (v := v) (s := s) (by omega)
    have w : mAr v s - mEd v s = (mAr v s - mEd v s) / 2 * 2 := by omega
    rw [w, show (mAr v s - mEd v s) / 2 * 2 + 2 = ((mAr v s - mEd v s) / 2 + 1) * 2 by omega, Int.mul_tdiv_cancel _ (by decide), Int.mul_tdiv_cancel _ (by decide)]
def poC (u : CS) (s w z : Int) : Prop := (¬ ((0 ≤ s ∧ s ≤ 7) ∧ 0 ≤ w ∧ w ≤ 3) ∧ z = -1) ∨ (((0 ≤ s ∧ s ≤ 7) ∧ 0 ≤ w ∧ w ≤ 3) ∧ ((w = 0 ∧ z = rA u s.toNat) ∨ (w = 1 ∧ z = rE u s.toNat) ∨ (w = 2 ∧ z = rI u s.toNat) ∨ (w = 3 ∧ z = rE u s.toNat + rI u s.toNat)))
def poM (u : MS) (s w z : Int) : Prop := (¬ ((0 ≤ s ∧ s ≤ 7) ∧ 0 ≤ w ∧ w ≤ 3) ∧ z = -1) ∨ (((0 ≤ s ∧ s ≤ 7) ∧ 0 ≤ w ∧ w ≤ 3) ∧ ((w = 0 ∧ z = mAr u s) ∨ (w = 1 ∧ z = mEd u s) ∨ (w = 2 ∧ z = mIn u s) ∨ (w = 3 ∧ z = mEd u s + mIn u s)))


set_option maxHeartbeats 4000000 in
set_option maxRecDepth 100000 in
theorem c_X11_pointsN (l : Launch) (D : JD) (q : Nat → Nat) (u : CS) (s : Int) (what : Int) (p0 : CI u) (p1 : -2147483648 ≤ s ∧ s ≤ 2147483647) (p2 : -2147483648 ≤ what ∧ what ≤ 2147483647) : Met l yX11_points (jw yX11_points cX11_points 4 (some .int)) (jr 6 128) (jP [.ref (q 0), .int (J s), .int (J what)] D (fun H => va_P D.1 j_cl (cW D q u) H)) (jRi (fun z => poC u s what z ∧ wRg z)) 0 0 (fun _ => False) := by
  refine Met.ofW (cc := cX11_points) (maxL := 4) (ret := (some .int)) (by decide) rfl ?_
  intro pr en st mi args below meth co s₁ B hml hv
  obtain ⟨rfl, hG, hP⟩ := hv
  have hr := B.returns
  have hlk := B.notSynchronized
  have SS : jS pr mi co cX11_points 4 st _ RX11 := ⟨B.exec, B.bytes, hml, findClass_of_methodNamed B.named, fun w hw => atoms_spec (ws := (jw yX11_points cX11_points 4 (some .int))) B.pre w (List.mem_cons_of_mem _ hw)⟩
  have hl := lv_entry ([.ref (q 0), .int (J s), .int (J what)]) (n := 4) (Nat.le_of_ble_eq_true rfl)
  rw [lg_entry_eq]
  generalize (lg_sl ([.ref (q 0), .int (J s), .int (J what)]) ++ List.replicate (4 - (lg_sl ([.ref (q 0), .int (J s), .int (J what)])).length) Slot.unset).toArray = ls at hl ⊢
  have hl : lv_has ls 4 [(0, .ref (q 0)), (1, .int (J s)), (2, .int (J what))] := hl
  refine lv_aload_n SS.1 SS.2.1 dX11_points_0 rfl (lv_at hl 0 rfl) ?_
  refine lv_iload_n SS.1 SS.2.1 dX11_points_1 rfl (lv_at hl 1 rfl) ?_
  refine j_vSh SS (As := [.int (J s)]) (rest := []) (c_X11_shapeAt l D q u  s (show -2147483648 ≤ s ∧ s ≤ 2147483647 from (p1))) mf_X11_shapeAt kw_414 hG hP hP (ci := 11) (q0 := 0) rfl rfl rfl rfl hl.1 ⟨⟨Nat.le_of_ble_eq_true rfl, Nat.le_of_ble_eq_true rfl⟩, Nat.le_of_ble_eq_true rfl, Nat.le_refl _, Nat.le_refl _⟩ rfl dX11_points_2 (fun i_2 hi_2 hz_2 => ?_) (fun hn_2 => ?_)
  · skip
    have hI2 := CI_s p0 (show i_2 < 8 by omega)
    have hI2c := hI2.1
    have hrl2 := rl_s (show i_2 < 8 by omega)
    refine lv_astore_n (lv' := [(3, .ref (q (8 + 5 * i_2))), (0, .ref (q 0)), (1, .int (J s)), (2, .int (J what))]) SS.1 SS.2.1 dX11_points_5 rfl hl (by decide) rfl (fun ls hl => ?_)
    refine lv_aload_n SS.1 SS.2.1 dX11_points_6 rfl (lv_at hl 0 rfl) ?_
    refine lv_ifnonnull SS.1 SS.2.1 (tgt := 12) dX11_points_7 (by decide) ?_
    refine lv_iload_n SS.1 SS.2.1 dX11_points_12 rfl (lv_at hl 3 rfl) ?_
    rcases (show what = 0 ∨ what = 1 ∨ what = 2 ∨ what = 3 ∨ (what < 0 ∨ 3 < what) by omega) with c_13 | c_13 | c_13 | c_13 | c_13
    · skip
      refine lv_tableIn SS.1 SS.2.1 (off := 31) (tgt := 44) dX11_points_13 (by rw [J_toInt (by omega)]; omega) (by rw [J_toInt (by omega)]; omega) (by rw [J_toInt (by omega), c_13]; rfl) (by decide) ?_
      refine lv_aload_n SS.1 SS.2.1 dX11_points_44 rfl (lv_at hl 0 rfl) ?_
      refine j_get SS hG hP (8 + 5 * i_2) (v := .ref (q (9 + 5 * i_2))) (C := RX10) (T := TX10) (N := 3) (cw_shape (by omega)) rfl inX10 0 (by decide) (ref := "GridPolygons$Shape") kw_151 rfl rfl dX11_points_45 ?_
      refine j_vRi SS (As := []) (rest := []) (c_X7_area l D q u i_2 (by omega) (80 : Int)  (show 0 ≤ (80 : Int) ∧ (80 : Int) ≤ 80 from (by omega)) (show RB (80 : Int) u i_2 from (show RB 80 u i_2 from CI_s p0 (by omega)))) mf_X7_area kw_517 hG hP hP (ci := 7) (q0 := (9 + 5 * i_2)) rfl (cw_ring (by omega)) rfl rfl hl.1 ⟨⟨Nat.le_of_ble_eq_true rfl, Nat.le_of_ble_eq_true rfl⟩, Nat.le_of_ble_eq_true rfl, Nat.le_refl _, Nat.le_refl _⟩ rfl dX11_points_48 (fun z_48 h_48 => ?_)
      have h_48 : z_48 = rA u i_2 ∧ -10000000 ≤ z_48 ∧ z_48 ≤ 10000000 := h_48
      exact W.iret SS.1 SS.2.1 hr (fun t0 ht hW => ⟨_, rfl, ⟨z_48, rfl, (by first | exact ⟨Or.inl ⟨by omega, rfl⟩, by unfold wRg; omega⟩ | exact ⟨Or.inr ⟨by omega, by rw [show s.toNat = i_2 by omega]; omega⟩, by unfold wRg; omega⟩)⟩, ht⟩) (fun _ h => nomatch h) dX11_points_51 hlk
    · skip
      refine lv_tableIn SS.1 SS.2.1 (off := 39) (tgt := 52) dX11_points_13 (by rw [J_toInt (by omega)]; omega) (by rw [J_toInt (by omega)]; omega) (by rw [J_toInt (by omega), c_13]; rfl) (by decide) ?_
      refine lv_aload_n SS.1 SS.2.1 dX11_points_52 rfl (lv_at hl 0 rfl) ?_
      refine j_get SS hG hP (8 + 5 * i_2) (v := .ref (q (9 + 5 * i_2))) (C := RX10) (T := TX10) (N := 3) (cw_shape (by omega)) rfl inX10 0 (by decide) (ref := "GridPolygons$Shape") kw_151 rfl rfl dX11_points_53 ?_
      refine j_vRi SS (As := []) (rest := []) (c_X7_onEdge l D q u i_2 (by omega) (80 : Int)  (show 0 ≤ (80 : Int) ∧ (80 : Int) ≤ 80 from (by omega)) (show RB (80 : Int) u i_2 from (show RB 80 u i_2 from CI_s p0 (by omega)))) mf_X7_onEdge kw_533 hG hP hP (ci := 7) (q0 := (9 + 5 * i_2)) rfl (cw_ring (by omega)) rfl rfl hl.1 ⟨⟨Nat.le_of_ble_eq_true rfl, Nat.le_of_ble_eq_true rfl⟩, Nat.le_of_ble_eq_true rfl, Nat.le_refl _, Nat.le_refl _⟩ rfl dX11_points_56 (fun z_56 h_56 => ?_)
      have h_56 : z_56 = rE u i_2 ∧ 0 ≤ z_56 ∧ z_56 ≤ 60000 := h_56
      exact W.iret SS.1 SS.2.1 hr (fun t0 ht hW => ⟨_, rfl, ⟨z_56, rfl, (by first | exact ⟨Or.inl ⟨by omega, rfl⟩, by unfold wRg; omega⟩ | exact ⟨Or.inr ⟨by omega, by rw [show s.toNat = i_2 by omega]; omega⟩, by unfold wRg; omega⟩)⟩, ht⟩) (fun _ h => nomatch h) dX11_points_59 hlk
    · skip
      refine lv_tableIn SS.1 SS.2.1 (off := 47) (tgt := 60) dX11_points_13 (by rw [J_toInt (by omega)]; omega) (by rw [J_toInt (by omega)]; omega) (by rw [J_toInt (by omega), c_13]; rfl) (by decide) ?_
      refine lv_aload_n SS.1 SS.2.1 dX11_points_60 rfl (lv_at hl 0 rfl) ?_
      refine j_get SS hG hP (8 + 5 * i_2) (v := .ref (q (9 + 5 * i_2))) (C := RX10) (T := TX10) (N := 3) (cw_shape (by omega)) rfl inX10 0 (by decide) (ref := "GridPolygons$Shape") kw_151 rfl rfl dX11_points_61 ?_
      refine j_vRi SS (As := []) (rest := []) (c_X7_inside l D q u i_2 (by omega) (80 : Int)  (show 0 ≤ (80 : Int) ∧ (80 : Int) ≤ 80 from (by omega)) (show RB (80 : Int) u i_2 from (show RB 80 u i_2 from CI_s p0 (by omega)))) mf_X7_inside kw_547 hG hP hP (ci := 7) (q0 := (9 + 5 * i_2)) rfl (cw_ring (by omega)) rfl rfl hl.1 ⟨⟨Nat.le_of_ble_eq_true rfl, Nat.le_of_ble_eq_true rfl⟩, Nat.le_of_ble_eq_true rfl, Nat.le_refl _, Nat.le_refl _⟩ rfl dX11_points_64 (fun z_64 h_64 => ?_)
      have h_64 : z_64 = rI u i_2 ∧ -6000000 ≤ z_64 ∧ z_64 ≤ 6000000 := h_64
      exact W.iret SS.1 SS.2.1 hr (fun t0 ht hW => ⟨_, rfl, ⟨z_64, rfl, (by first | exact ⟨Or.inl ⟨by omega, rfl⟩, by unfold wRg; omega⟩ | exact ⟨Or.inr ⟨by omega, by rw [show s.toNat = i_2 by omega]; omega⟩, by unfold wRg; omega⟩)⟩, ht⟩) (fun _ h => nomatch h) dX11_points_67 hlk
    · skip
      refine lv_tableIn SS.1 SS.2.1 (off := 55) (tgt := 68) dX11_points_13 (by rw [J_toInt (by omega)]; omega) (by rw [J_toInt (by omega)]; omega) (by rw [J_toInt (by omega), c_13]; rfl) (by decide) ?_
      refine lv_aload_n SS.1 SS.2.1 dX11_points_68 rfl (lv_at hl 0 rfl) ?_
      refine j_get SS hG hP (8 + 5 * i_2) (v := .ref (q (9 + 5 * i_2))) (C := RX10) (T := TX10) (N := 3) (cw_shape (by omega)) rfl inX10 0 (by decide) (ref := "GridPolygons$Shape") kw_151 rfl rfl dX11_points_69 ?_
      refine j_vRi SS (As := []) (rest := []) (c_X7_all l D q u i_2 (by omega) (80 : Int)  (show 0 ≤ (80 : Int) ∧ (80 : Int) ≤ 80 from (by omega)) (show RB (80 : Int) u i_2 from (show RB 80 u i_2 from CI_s p0 (by omega)))) mf_X7_all kw_553 hG hP hP (ci := 7) (q0 := (9 + 5 * i_2)) rfl (cw_ring (by omega)) rfl rfl hl.1 ⟨⟨Nat.le_of_ble_eq_true rfl, Nat.le_of_ble_eq_true rfl⟩, Nat.le_of_ble_eq_true rfl, Nat.le_refl _, Nat.le_refl _⟩ rfl dX11_points_72 (fun z_72 h_72 => ?_)
      have h_72 : z_72 = rE u i_2 + rI u i_2 ∧ -7000000 ≤ z_72 ∧ z_72 ≤ 7000000 := h_72
      exact W.iret SS.1 SS.2.1 hr (fun t0 ht hW => ⟨_, rfl, ⟨z_72, rfl, (by first | exact ⟨Or.inl ⟨by omega, rfl⟩, by unfold wRg; omega⟩ | exact ⟨Or.inr ⟨by omega, by rw [show s.toNat = i_2 by omega]; omega⟩, by unfold wRg; omega⟩)⟩, ht⟩) (fun _ h => nomatch h) dX11_points_75 hlk
    · skip
      refine lv_tableOut SS.1 SS.2.1 (tgt := 76) dX11_points_13 (by rw [J_toInt (by omega)]; omega) (by decide) ?_
      refine j_iconst SS dX11_points_76 ?_
      exact W.iret SS.1 SS.2.1 hr (fun t0 ht hW => ⟨_, rfl, ⟨(-1), rfl, (by first | exact ⟨Or.inl ⟨by omega, rfl⟩, by unfold wRg; omega⟩ | exact ⟨Or.inr ⟨by omega, by rw [show s.toNat = i_2 by omega]; omega⟩, by unfold wRg; omega⟩)⟩, ht⟩) (fun _ h => nomatch h) dX11_points_77 hlk
  · skip
    refine lv_astore_nN (lv' := [(3, .null), (0, .ref (q 0)), (1, .int (J s)), (2, .int (J what))]) SS.1 SS.2.1 dX11_points_5 rfl hl (by decide) rfl (fun ls hl => ?_)
    refine lv_aload_nN SS.1 SS.2.1 dX11_points_6 rfl (lv_at hl 0 rfl) ?_
    refine lv_ifnonnullN SS.1 SS.2.1 dX11_points_7 ?_
    refine j_iconst SS dX11_points_10 ?_
    exact W.iret SS.1 SS.2.1 hr (fun t0 ht hW => ⟨_, rfl, ⟨(-1), rfl, (by first | exact ⟨Or.inl ⟨by omega, rfl⟩, by unfold wRg; omega⟩ | exact ⟨Or.inr ⟨by omega, by rw [show s.toNat = i_2 by omega]; omega⟩, by unfold wRg; omega⟩)⟩, ht⟩) (fun _ h => nomatch h) dX11_points_11 hlk

set_option maxHeartbeats 4000000 in
set_option maxRecDepth 100000 in
theorem c_X12_points2 (l : Launch) (D : JD) (o : Nat) (q : Nat → Nat) (u : MS) (s : Int) (what : Int) (p0 : IM u) (p1 : -2147483648 ≤ s ∧ s ≤ 2147483647) (p2 : -2147483648 ≤ what ∧ what ≤ 2147483647) : Met l yX12_points (jw yX12_points cX12_points 3 (some .int)) (jr 5 110) (jP [.ref o, .int (J s), .int (J what)] D (fun H => va_P D.1 j_cl (mW D o q u) H)) (jRi (fun z => poM u s what z)) 0 0 (fun _ => False) := by
  refine Met.ofW (cc := cX12_points) (maxL := 3) (ret := (some .int)) (by decide) rfl ?_
  intro pr en st mi args below meth co s₁ B hml hv
  obtain ⟨rfl, hG, hP⟩ := hv
  have hr := B.returns
  have hlk := B.notSynchronized
  have SS : jS pr mi co cX12_points 3 st _ RX12 := ⟨B.exec, B.bytes, hml, findClass_of_methodNamed B.named, fun w hw => atoms_spec (ws := (jw yX12_points cX12_points 3 (some .int))) B.pre w (List.mem_cons_of_mem _ hw)⟩
  have hl := lv_entry ([.ref o, .int (J s), .int (J what)]) (n := 3) (Nat.le_of_ble_eq_true rfl)
  rw [lg_entry_eq]
  generalize (lg_sl ([.ref o, .int (J s), .int (J what)]) ++ List.replicate (3 - (lg_sl ([.ref o, .int (J s), .int (J what)])).length) Slot.unset).toArray = ls at hl ⊢
  have hl : lv_has ls 3 [(0, .ref o), (1, .int (J s)), (2, .int (J what))] := hl
  refine lv_iload_n SS.1 SS.2.1 dX12_points_0 rfl (lv_at hl 1 rfl) ?_
  refine j_sRi SS (As := [.int (J s)]) (rest := []) (c_X12_isShape l D s (show -2147483648 ≤ s ∧ s ≤ 2147483647 from (by omega))) mf_X12_isShape kw_1156 hG trivial rfl hl.1 ⟨⟨Nat.le_of_ble_eq_true rfl, Nat.le_of_ble_eq_true rfl⟩, Nat.le_of_ble_eq_true rfl, Nat.le_refl _, Nat.le_refl _⟩ rfl dX12_points_1 (fun z_1 h_1 => ?_)
  have h_1 : (z_1 = 1 ∧ (0 ≤ s ∧ s ≤ 7)) ∨ (z_1 = 0 ∧ ¬ (0 ≤ s ∧ s ≤ 7)) := h_1
  refine j_if_eq SS (tgt := 16) (x := z_1) dX12_points_4 (by decide) (by omega) (fun c_4 => ?_) (fun c_4 => ?_)
  · skip
    refine j_iconst SS dX12_points_16 ?_
    exact W.iret SS.1 SS.2.1 hr (fun t ht hW => ⟨_, rfl, ⟨(-1), rfl, (by first | exact Or.inl ⟨by omega, rfl⟩ | exact Or.inr ⟨by omega, by omega⟩)⟩, ht⟩) (fun _ h => nomatch h) dX12_points_17 hlk
  · skip
    refine lv_iload_n SS.1 SS.2.1 dX12_points_7 rfl (lv_at hl 2 rfl) ?_
    refine j_iconst SS dX12_points_8 ?_
    refine j_iconst SS dX12_points_9 ?_
    refine j_sRi SS (As := [.int (J what), .int (J 0), .int (J 3)]) (rest := []) (c_X12_in l D what 0 3 (show -2147483648 ≤ what ∧ what ≤ 2147483647 from (by omega)) (show -2147483648 ≤ (0 : Int) ∧ (0 : Int) ≤ 2147483647 from (by omega)) (show -2147483648 ≤ (3 : Int) ∧ (3 : Int) ≤ 2147483647 from (by omega))) mf_X12_in kw_1159 hG trivial rfl hl.1 ⟨⟨Nat.le_of_ble_eq_true rfl, Nat.le_of_ble_eq_true rfl⟩, Nat.le_of_ble_eq_true rfl, Nat.le_refl _, Nat.le_refl _⟩ rfl dX12_points_10 (fun z_10 h_10 => ?_)
    have h_10 : (z_10 = 1 ∧ ((0 : Int) ≤ what ∧ what ≤ (3 : Int))) ∨ (z_10 = 0 ∧ ¬ ((0 : Int) ≤ what ∧ what ≤ (3 : Int))) := h_10
    refine j_if_ne SS (tgt := 18) (x := z_10) dX12_points_13 (by decide) (by omega) (fun c_13 => ?_) (fun c_13 => ?_)
    · skip
      refine lv_iload_n SS.1 SS.2.1 dX12_points_18 rfl (lv_at hl 2 rfl) ?_
      refine j_if_ne SS (tgt := 30) (x := what) dX12_points_19 (by decide) (by omega) (fun c_19 => ?_) (fun c_19 => ?_)
      · skip
        refine lv_iload_n SS.1 SS.2.1 dX12_points_30 rfl (lv_at hl 2 rfl) ?_
        refine j_iconst SS dX12_points_31 ?_
        refine j_icmp_ne SS (tgt := 43) (x := what) (y := 1) dX12_points_32 (by decide) (by omega) (by decide) (fun c_32 => ?_) (fun c_32 => ?_)
        · skip
          refine lv_iload_n SS.1 SS.2.1 dX12_points_43 rfl (lv_at hl 2 rfl) ?_
          refine j_iconst SS dX12_points_44 ?_
          refine j_icmp_ne SS (tgt := 56) (x := what) (y := 2) dX12_points_45 (by decide) (by omega) (by decide) (fun c_45 => ?_) (fun c_45 => ?_)
          · skip
            refine lv_aload_n SS.1 SS.2.1 dX12_points_56 rfl (lv_at hl 0 rfl) ?_
            refine lv_iload_n SS.1 SS.2.1 dX12_points_57 rfl (lv_at hl 1 rfl) ?_
            refine j_vRi SS (As := [.int (J s)]) (rest := []) (c_X12_edgeOf l D o q u s (show 0 ≤ s ∧ s ≤ 7 from (by omega)) (show Sh u s from (p0.1 _ (by omega) (by omega)))) mf_X12_edgeOf kw_1222 hG hP hP (ci := 8) (q0 := 0) rfl rfl rfl rfl hl.1 ⟨⟨Nat.le_of_ble_eq_true rfl, Nat.le_of_ble_eq_true rfl⟩, Nat.le_of_ble_eq_true rfl, Nat.le_refl _, Nat.le_refl _⟩ rfl dX12_points_58 (fun z_58 h_58 => ?_)
            have h_58 : z_58 = mEd u s ∧ 0 ≤ z_58 ∧ z_58 ≤ 2000 := h_58
            refine lv_aload_n SS.1 SS.2.1 dX12_points_61 rfl (lv_at hl 0 rfl) ?_
            refine lv_iload_n SS.1 SS.2.1 dX12_points_62 rfl (lv_at hl 1 rfl) ?_
            refine j_vRi SS (As := [.int (J s)]) (rest := [.int (J z_58)]) (c_X12_insideOf l D o q u s (show 0 ≤ s ∧ s ≤ 7 from (by omega)) (show Sh u s from (p0.1 _ (by omega) (by omega)))) mf_X12_insideOf kw_1236 hG hP hP (ci := 8) (q0 := 0) rfl rfl rfl rfl hl.1 ⟨⟨Nat.le_of_ble_eq_true rfl, Nat.le_of_ble_eq_true rfl⟩, Nat.le_of_ble_eq_true rfl, Nat.le_refl _, Nat.le_refl _⟩ rfl dX12_points_63 (fun z_63 h_63 => ?_)
            have h_63 : z_63 = mIn u s ∧ -100000 ≤ z_63 ∧ z_63 ≤ 100000 := h_63
            refine j_iadd SS (x := z_58) (y := z_63) dX12_points_66 ?_
            exact W.iret SS.1 SS.2.1 hr (fun t ht hW => ⟨_, rfl, ⟨(z_58 + z_63), rfl, (by first | exact Or.inl ⟨by omega, rfl⟩ | exact Or.inr ⟨by omega, by omega⟩)⟩, ht⟩) (fun _ h => nomatch h) dX12_points_67 hlk
          · skip
            refine lv_aload_n SS.1 SS.2.1 dX12_points_48 rfl (lv_at hl 0 rfl) ?_
            refine lv_iload_n SS.1 SS.2.1 dX12_points_49 rfl (lv_at hl 1 rfl) ?_
            refine j_vRi SS (As := [.int (J s)]) (rest := []) (c_X12_insideOf l D o q u s (show 0 ≤ s ∧ s ≤ 7 from (by omega)) (show Sh u s from (p0.1 _ (by omega) (by omega)))) mf_X12_insideOf kw_1236 hG hP hP (ci := 8) (q0 := 0) rfl rfl rfl rfl hl.1 ⟨⟨Nat.le_of_ble_eq_true rfl, Nat.le_of_ble_eq_true rfl⟩, Nat.le_of_ble_eq_true rfl, Nat.le_refl _, Nat.le_refl _⟩ rfl dX12_points_50 (fun z_50 h_50 => ?_)
            have h_50 : z_50 = mIn u s ∧ -100000 ≤ z_50 ∧ z_50 ≤ 100000 := h_50
            refine lv_goto (tgt := 67) SS.1 SS.2.1 dX12_points_53 (by decide) ?_
            exact W.iret SS.1 SS.2.1 hr (fun t ht hW => ⟨_, rfl, ⟨z_50, rfl, (by first | exact Or.inl ⟨by omega, rfl⟩ | exact Or.inr ⟨by omega, by omega⟩)⟩, ht⟩) (fun _ h => nomatch h) dX12_points_67 hlk
        · skip
          refine lv_aload_n SS.1 SS.2.1 dX12_points_35 rfl (lv_at hl 0 rfl) ?_
          refine lv_iload_n SS.1 SS.2.1 dX12_points_36 rfl (lv_at hl 1 rfl) ?_
          refine j_vRi SS (As := [.int (J s)]) (rest := []) (c_X12_edgeOf l D o q u s (show 0 ≤ s ∧ s ≤ 7 from (by omega)) (show Sh u s from (p0.1 _ (by omega) (by omega)))) mf_X12_edgeOf kw_1222 hG hP hP (ci := 8) (q0 := 0) rfl rfl rfl rfl hl.1 ⟨⟨Nat.le_of_ble_eq_true rfl, Nat.le_of_ble_eq_true rfl⟩, Nat.le_of_ble_eq_true rfl, Nat.le_refl _, Nat.le_refl _⟩ rfl dX12_points_37 (fun z_37 h_37 => ?_)
          have h_37 : z_37 = mEd u s ∧ 0 ≤ z_37 ∧ z_37 ≤ 2000 := h_37
          refine lv_goto (tgt := 67) SS.1 SS.2.1 dX12_points_40 (by decide) ?_
          exact W.iret SS.1 SS.2.1 hr (fun t ht hW => ⟨_, rfl, ⟨z_37, rfl, (by first | exact Or.inl ⟨by omega, rfl⟩ | exact Or.inr ⟨by omega, by omega⟩)⟩, ht⟩) (fun _ h => nomatch h) dX12_points_67 hlk
      · skip
        refine lv_aload_n SS.1 SS.2.1 dX12_points_22 rfl (lv_at hl 0 rfl) ?_
        refine lv_iload_n SS.1 SS.2.1 dX12_points_23 rfl (lv_at hl 1 rfl) ?_
        refine j_vRi SS (As := [.int (J s)]) (rest := []) (c_X12_areaOf l D o q u s (show 0 ≤ s ∧ s ≤ 7 from (by omega)) (show Sh u s from (p0.1 _ (by omega) (by omega)))) mf_X12_areaOf kw_1218 hG hP hP (ci := 8) (q0 := 0) rfl rfl rfl rfl hl.1 ⟨⟨Nat.le_of_ble_eq_true rfl, Nat.le_of_ble_eq_true rfl⟩, Nat.le_of_ble_eq_true rfl, Nat.le_refl _, Nat.le_refl _⟩ rfl dX12_points_24 (fun z_24 h_24 => ?_)
        have h_24 : z_24 = mAr u s ∧ -80000 ≤ z_24 ∧ z_24 ≤ 80000 := h_24
        refine lv_goto (tgt := 67) SS.1 SS.2.1 dX12_points_27 (by decide) ?_
        exact W.iret SS.1 SS.2.1 hr (fun t ht hW => ⟨_, rfl, ⟨z_24, rfl, (by first | exact Or.inl ⟨by omega, rfl⟩ | exact Or.inr ⟨by omega, by omega⟩)⟩, ht⟩) (fun _ h => nomatch h) dX12_points_67 hlk
    · skip
      refine j_iconst SS dX12_points_16 ?_
      exact W.iret SS.1 SS.2.1 hr (fun t ht hW => ⟨_, rfl, ⟨(-1), rfl, (by first | exact Or.inl ⟨by omega, rfl⟩ | exact Or.inr ⟨by omega, by omega⟩)⟩, ht⟩) (fun _ h => nomatch h) dX12_points_17 hlk


/-- on which side of side i a point lies -/
def cvv (u : CS) (r : Nat) (i x y : Int) : Int := dX u r i * (y - ry9 u r i) - dY u r i * (x - rx u r i)
def loC (u : CS) (r : Nat) (x y n : Int) : Prop := (∃ a : Int, 0 ≤ a ∧ a < u.1.2.2.1 r ∧ ry9 u r a ≤ y) ∧ ∀ k : Int, 0 ≤ k → k < n → 0 < dX u r k → 0 ≤ cvv u r k x y
def hiC (u : CS) (r : Nat) (x y n : Int) : Prop := (∃ a : Int, 0 ≤ a ∧ a < u.1.2.2.1 r ∧ y ≤ ry9 u r a) ∧ ∀ k : Int, 0 ≤ k → k < n → 0 < -dX u r k → 0 ≤ cvv u r k x y
/-- in the box and left of the sides that are not upright -/
def inC (u : CS) (r : Nat) (x y : Int) : Prop := u.1.2.2.1 r ≠ 0 ∧ rx u r 0 ≤ x ∧ (∃ a : Int, 0 ≤ a ∧ a < u.1.2.2.1 r ∧ x ≤ rx u r a) ∧ loC u r x y (u.1.2.2.1 r) ∧ hiC u r x y (u.1.2.2.1 r)
def stC (u : CS) (r : Nat) (x y z : Int) : Prop := (z = 0 ∧ ¬ inC u r x y) ∨ (z = 1 ∧ inC u r x y ∧ ∃ i : Int, 0 ≤ i ∧ i < u.1.2.2.1 r ∧ cvv u r i x y = 0) ∨ (z = 2 ∧ inC u r x y ∧ ∀ i : Int, 0 ≤ i → i < u.1.2.2.1 r → cvv u r i x y ≠ 0)
theorem low_1 {X Y x y d e : Int} (hd : 0 < d) : Y - (X - x) * e / d ≤ y ↔ 0 ≤ d * (y - Y) - e * (x - X) := by
  have q := Int.le_ediv_iff_mul_le (a := Y - y) (b := (X - x) * e) hd
  have e1 : d * (y - Y) - e * (x - X) = (X - x) * e - (Y - y) * d := by grind
  rw [e1]
  constructor
  · intro w; have := q.mp (by omega); omega
  · intro w; have := q.mpr (by omega); omega
theorem high_1 {X Y x y d e : Int} (hd : 0 < -d) : y ≤ Y + (X - x) * e / (-d) ↔ 0 ≤ d * (y - Y) - e * (x - X) := by
  have q := Int.le_ediv_iff_mul_le (a := y - Y) (b := (X - x) * e) hd
  have e1 : d * (y - Y) - e * (x - X) = (X - x) * e - (y - Y) * (-d) := by grind
  rw [e1]
  constructor
  · intro w; have := q.mp (by omega); omega
  · intro w; have := q.mpr (by omega); omega
theorem loC_s {u : CS} {r : Nat} {x y i : Int} (h : 0 ≤ i) : loC u r x y (i + 1) ↔ loC u r x y i ∧ (0 < dX u r i → 0 ≤ cvv u r i x y) := by
  constructor
  · intro q; exact ⟨⟨q.1, fun k h0 h1 => q.2 k h0 (by omega)⟩, q.2 i h (by omega)⟩
  · intro q
    refine ⟨q.1.1, fun k h0 h1 => ?_⟩
    by_cases e : k = i
    · rw [e]; exact q.2
    · exact q.1.2 k h0 (by omega)
theorem hiC_s {u : CS} {r : Nat} {x y i : Int} (h : 0 ≤ i) : hiC u r x y (i + 1) ↔ hiC u r x y i ∧ (0 < -dX u r i → 0 ≤ cvv u r i x y) := by
  constructor
  · intro q; exact ⟨⟨q.1, fun k h0 h1 => q.2 k h0 (by omega)⟩, q.2 i h (by omega)⟩
  · intro q
    refine ⟨q.1.1, fun k h0 h1 => ?_⟩
    by_cases e : k = i
    · rw [e]; exact q.2
    · exact q.1.2 k h0 (by omega)


set_option maxHeartbeats 4000000 in
set_option maxRecDepth 100000 in
theorem c_X7_rightmost3 (l : Launch) (D : JD) (q : Nat → Nat) (u : CS) (r : Nat) (hr : r ≤ 8) (K : Int) (p0 : 0 ≤ K ∧ K ≤ 80) (p1 : RB K u r) (p2 : 1 ≤ u.1.2.2.1 r) : Met l yX7_rightmost (jw yX7_rightmost cX7_rightmost 3 (some .int)) (jr 1 21) (jP [.ref (q (9 + 5 * r))] D (fun H => va_P D.1 j_cl (cW D q u) H)) (jRi (fun z => (-K ≤ z ∧ z ≤ K) ∧ (∀ a : Int, 0 ≤ a → a < u.1.2.2.1 r → rx u r a ≤ z) ∧ ∃ a : Int, 0 ≤ a ∧ a < u.1.2.2.1 r ∧ rx u r a = z)) 0 0 (fun _ => False) := by
  refine Met.ofW (cc := cX7_rightmost) (maxL := 3) (ret := (some .int)) (by decide) rfl ?_
  intro pr en st mi args below meth co s₁ B hml hv
  obtain ⟨rfl, hG, hP⟩ := hv
  have hr := B.returns
  have hlk := B.notSynchronized
  have SS : jS pr mi co cX7_rightmost 3 st _ RX7 := ⟨B.exec, B.bytes, hml, findClass_of_methodNamed B.named, fun w hw => atoms_spec (ws := (jw yX7_rightmost cX7_rightmost 3 (some .int))) B.pre w (List.mem_cons_of_mem _ hw)⟩
  have hl := lv_entry ([.ref (q (9 + 5 * r))]) (n := 3) (Nat.le_of_ble_eq_true rfl)
  rw [lg_entry_eq]
  generalize (lg_sl ([.ref (q (9 + 5 * r))]) ++ List.replicate (3 - (lg_sl ([.ref (q (9 + 5 * r))])).length) Slot.unset).toArray = ls at hl ⊢
  have hl : lv_has ls 3 [(0, .ref (q (9 + 5 * r)))] := hl
  have hc := p1.1
  have hrl := rl_b r
  refine lv_aload_n SS.1 SS.2.1 dX7_rightmost_0 rfl (lv_at hl 0 rfl) ?_
  refine j_iconst SS dX7_rightmost_1 ?_
  refine j_uRi SS (As := [.int (J 0)]) (rest := []) (c_X8_x l D q u r (by omega) 0 (show -2147483648 ≤ (0 : Int) ∧ (0 : Int) ≤ 2147483647 from (by omega))) mu_7_x kw_501 hG hP hP (ci := 7) (q0 := (9 + 5 * r)) rfl (cw_ring (by omega)) rfl rfl hl.1 ⟨⟨Nat.le_of_ble_eq_true rfl, Nat.le_of_ble_eq_true rfl⟩, Nat.le_of_ble_eq_true rfl, Nat.le_refl _, Nat.le_refl _⟩ rfl dX7_rightmost_2 (fun z_2 h_2 => ?_)
  have h_2 : z_2 = rx u r (0 : Int) ∧ ∀ K : Int, 0 ≤ K → RB K u r → -K ≤ z_2 ∧ z_2 ≤ K := h_2
  have hb_2 := h_2.2 K (by omega) (p1)
  refine lv_istore_n (lv' := [(1, .int (J z_2)), (0, .ref (q (9 + 5 * r)))]) SS.1 SS.2.1 dX7_rightmost_5 rfl hl (by decide) rfl (fun ls hl => ?_)
  refine j_iconst SS dX7_rightmost_6 ?_
  refine lv_istore_n (lv' := [(2, .int (J 1)), (1, .int (J z_2)), (0, .ref (q (9 + 5 * r)))]) SS.1 SS.2.1 dX7_rightmost_7 rfl hl (by decide) rfl (fun ls hl => ?_)
  have L_8 : ∀ (nn : Nat) (t : Int) (i : Int) (ls : Array Slot) (hl : lv_has ls 3 [(0, .ref (q (9 + 5 * r))), (1, .int (J t)), (2, .int (J i))]) (i8_0 : 1 ≤ i ∧ (i ≤ u.1.2.2.1 r ∨ i = 1)) (i8_1 : -K ≤ t ∧ t ≤ K) (i8_2 : ∀ a : Int, 0 ≤ a → a < i → rx u r a ≤ t) (i8_3 : ∃ a : Int, 0 ≤ a ∧ a < u.1.2.2.1 r ∧ rx u r a = t), (u.1.2.2.1 r - i).toNat < nn → W pr l en (headSpec (jw yX7_rightmost cX7_rightmost 3 (some .int)) (jr 1 21)).room st mi (([.ref (q (9 + 5 * r))] : List Value).toArray) below meth co st.heap [] 0 0 (MQ below (jRi (fun z => (-K ≤ z ∧ z ≤ K) ∧ (∀ a : Int, 0 ≤ a → a < u.1.2.2.1 r → rx u r a ≤ z) ∧ ∃ a : Int, 0 ≤ a ∧ a < u.1.2.2.1 r ∧ rx u r a = z)) (([.ref (q (9 + 5 * r))] : List Value).toArray) st 0 0 (fun _ => False)) (F0 mi 8 ls []) := by
    intro nn
    induction nn with
    | zero => intros; omega
    | succ nn ih_8 =>
      intro t i ls hl i8_0 i8_1 i8_2 i8_3 hm
      refine lv_iload_n SS.1 SS.2.1 dX7_rightmost_8 rfl (lv_at hl 2 rfl) ?_
      refine lv_aload_n SS.1 SS.2.1 dX7_rightmost_9 rfl (lv_at hl 0 rfl) ?_
      refine j_getS SS hG hP (9 + 5 * r) (v := .int (J (u.1.2.2.1 r))) (C := RX7) (T := TX7) (N := 3) (cw_ring (by omega)) rfl inX7 2 (by decide) (ref := "GridPolygons$Ring") kw_131 kw_132 rfl dX7_rightmost_10 ?_
      refine j_icmp_ge SS (tgt := 32) (x := i) (y := (u.1.2.2.1 r)) dX7_rightmost_13 (by decide) (by omega) (by omega) (fun c_13 => ?_) (fun c_13 => ?_)
      · skip
        refine lv_iload_n SS.1 SS.2.1 dX7_rightmost_32 rfl (lv_at hl 1 rfl) ?_
        exact W.iret SS.1 SS.2.1 hr (fun t0 ht hW => ⟨_, rfl, ⟨t, rfl, (⟨by omega, fun a h1 h2 => i8_2 a h1 (by omega), i8_3⟩)⟩, ht⟩) (fun _ h => nomatch h) dX7_rightmost_33 hlk
      · skip
        refine lv_iload_n SS.1 SS.2.1 dX7_rightmost_16 rfl (lv_at hl 1 rfl) ?_
        refine lv_aload_n SS.1 SS.2.1 dX7_rightmost_17 rfl (lv_at hl 0 rfl) ?_
        refine lv_iload_n SS.1 SS.2.1 dX7_rightmost_18 rfl (lv_at hl 2 rfl) ?_
        refine j_uRi SS (As := [.int (J i)]) (rest := [.int (J t)]) (c_X8_x l D q u r (by omega) i (show -2147483648 ≤ i ∧ i ≤ 2147483647 from (by omega))) mu_7_x kw_501 hG hP hP (ci := 7) (q0 := (9 + 5 * r)) rfl (cw_ring (by omega)) rfl rfl hl.1 ⟨⟨Nat.le_of_ble_eq_true rfl, Nat.le_of_ble_eq_true rfl⟩, Nat.le_of_ble_eq_true rfl, Nat.le_refl _, Nat.le_refl _⟩ rfl dX7_rightmost_19 (fun z_19 h_19 => ?_)
        have h_19 : z_19 = rx u r i ∧ ∀ K : Int, 0 ≤ K → RB K u r → -K ≤ z_19 ∧ z_19 ≤ K := h_19
        have hb_19 := h_19.2 K (by omega) (p1)
        refine j_sRi SS (As := [.int (J t), .int (J z_19)]) (rest := []) (c_J9_max_7cf53 l D  t z_19 (show -2147483648 ≤ t ∧ t ≤ 2147483647 from (by omega)) (show -2147483648 ≤ z_19 ∧ z_19 ≤ 2147483647 from (by omega))) mf_J9_max_7cf53 kw_593 hG trivial rfl hl.1 ⟨⟨Nat.le_of_ble_eq_true rfl, Nat.le_of_ble_eq_true rfl⟩, Nat.le_of_ble_eq_true rfl, Nat.le_refl _, Nat.le_refl _⟩ rfl dX7_rightmost_22 (fun z_22 h_22 => ?_)
        have h_22 : (z_22 = t ∨ z_22 = z_19) ∧ t ≤ z_22 ∧ z_19 ≤ z_22 := h_22
        refine lv_istore_n (lv' := [(1, .int (J z_22)), (0, .ref (q (9 + 5 * r))), (2, .int (J i))]) SS.1 SS.2.1 dX7_rightmost_25 rfl hl (by decide) rfl (fun ls hl => ?_)
        refine lv_iinc (v := J (i + 1)) (lv' := [(2, .int (J (i + 1))), (1, .int (J z_22)), (0, .ref (q (9 + 5 * r)))]) SS.1 SS.2.1 dX7_rightmost_26 hl (k := 2) rfl (J_add _ _) (by decide) rfl (fun ls hl => ?_)
        refine lv_goto (tgt := 8) SS.1 SS.2.1 dX7_rightmost_29 (by decide) ?_
        exact ih_8 z_22 (i + 1) ls (lv_sub hl [2, 1, 0] rfl) (by omega) (by omega) (fun a h1 h2 => by by_cases e : a = i; (rw [e, ← h_19.1]; omega); have := i8_2 a h1 (by omega); omega) (by rcases h_22.1 with q | q; (obtain ⟨k, k1, k2, k3⟩ := i8_3; exact ⟨k, k1, k2, k3.trans q.symm⟩); exact ⟨i, by omega, by omega, h_19.1.symm.trans q.symm⟩) (by omega)
  exact L_8 ((u.1.2.2.1 r - (1 : Int)).toNat + 1) z_2 1 ls (lv_sub hl [2, 1, 0] rfl) (by omega) (by omega) (fun a h1 h2 => by rw [show a = 0 by omega, ← h_2.1]; omega) (⟨0, by omega, by omega, h_2.1.symm⟩) (Nat.lt_succ_self _)

set_option maxHeartbeats 4000000 in
set_option maxRecDepth 100000 in
theorem c_X7_bottom3 (l : Launch) (D : JD) (q : Nat → Nat) (u : CS) (r : Nat) (hr : r ≤ 8) (K : Int) (p0 : 0 ≤ K ∧ K ≤ 80) (p1 : RB K u r) (p2 : 1 ≤ u.1.2.2.1 r) : Met l yX7_bottom (jw yX7_bottom cX7_bottom 3 (some .int)) (jr 1 21) (jP [.ref (q (9 + 5 * r))] D (fun H => va_P D.1 j_cl (cW D q u) H)) (jRi (fun z => (-K ≤ z ∧ z ≤ K) ∧ (∀ a : Int, 0 ≤ a → a < u.1.2.2.1 r → ry9 u r a ≥ z) ∧ ∃ a : Int, 0 ≤ a ∧ a < u.1.2.2.1 r ∧ ry9 u r a = z)) 0 0 (fun _ => False) := by
  refine Met.ofW (cc := cX7_bottom) (maxL := 3) (ret := (some .int)) (by decide) rfl ?_
  intro pr en st mi args below meth co s₁ B hml hv
  obtain ⟨rfl, hG, hP⟩ := hv
  have hr := B.returns
  have hlk := B.notSynchronized
  have SS : jS pr mi co cX7_bottom 3 st _ RX7 := ⟨B.exec, B.bytes, hml, findClass_of_methodNamed B.named, fun w hw => atoms_spec (ws := (jw yX7_bottom cX7_bottom 3 (some .int))) B.pre w (List.mem_cons_of_mem _ hw)⟩
  have hl := lv_entry ([.ref (q (9 + 5 * r))]) (n := 3) (Nat.le_of_ble_eq_true rfl)
  rw [lg_entry_eq]
  generalize (lg_sl ([.ref (q (9 + 5 * r))]) ++ List.replicate (3 - (lg_sl ([.ref (q (9 + 5 * r))])).length) Slot.unset).toArray = ls at hl ⊢
  have hl : lv_has ls 3 [(0, .ref (q (9 + 5 * r)))] := hl
  have hc := p1.1
  have hrl := rl_b r
  refine lv_aload_n SS.1 SS.2.1 dX7_bottom_0 rfl (lv_at hl 0 rfl) ?_
  refine j_iconst SS dX7_bottom_1 ?_
  refine j_uRi SS (As := [.int (J 0)]) (rest := []) (c_X8_y l D q u r (by omega) 0 (show -2147483648 ≤ (0 : Int) ∧ (0 : Int) ≤ 2147483647 from (by omega))) mu_7_y kw_503 hG hP hP (ci := 7) (q0 := (9 + 5 * r)) rfl (cw_ring (by omega)) rfl rfl hl.1 ⟨⟨Nat.le_of_ble_eq_true rfl, Nat.le_of_ble_eq_true rfl⟩, Nat.le_of_ble_eq_true rfl, Nat.le_refl _, Nat.le_refl _⟩ rfl dX7_bottom_2 (fun z_2 h_2 => ?_)
  have h_2 : z_2 = ry9 u r (0 : Int) ∧ ∀ K : Int, 0 ≤ K → RB K u r → -K ≤ z_2 ∧ z_2 ≤ K := h_2
  have hb_2 := h_2.2 K (by omega) (p1)
  refine lv_istore_n (lv' := [(1, .int (J z_2)), (0, .ref (q (9 + 5 * r)))]) SS.1 SS.2.1 dX7_bottom_5 rfl hl (by decide) rfl (fun ls hl => ?_)
  refine j_iconst SS dX7_bottom_6 ?_
  refine lv_istore_n (lv' := [(2, .int (J 1)), (1, .int (J z_2)), (0, .ref (q (9 + 5 * r)))]) SS.1 SS.2.1 dX7_bottom_7 rfl hl (by decide) rfl (fun ls hl => ?_)
  have L_8 : ∀ (nn : Nat) (t : Int) (i : Int) (ls : Array Slot) (hl : lv_has ls 3 [(0, .ref (q (9 + 5 * r))), (1, .int (J t)), (2, .int (J i))]) (i8_0 : 1 ≤ i ∧ (i ≤ u.1.2.2.1 r ∨ i = 1)) (i8_1 : -K ≤ t ∧ t ≤ K) (i8_2 : ∀ a : Int, 0 ≤ a → a < i → ry9 u r a ≥ t) (i8_3 : ∃ a : Int, 0 ≤ a ∧ a < u.1.2.2.1 r ∧ ry9 u r a = t), (u.1.2.2.1 r - i).toNat < nn → W pr l en (headSpec (jw yX7_bottom cX7_bottom 3 (some .int)) (jr 1 21)).room st mi (([.ref (q (9 + 5 * r))] : List Value).toArray) below meth co st.heap [] 0 0 (MQ below (jRi (fun z => (-K ≤ z ∧ z ≤ K) ∧ (∀ a : Int, 0 ≤ a → a < u.1.2.2.1 r → ry9 u r a ≥ z) ∧ ∃ a : Int, 0 ≤ a ∧ a < u.1.2.2.1 r ∧ ry9 u r a = z)) (([.ref (q (9 + 5 * r))] : List Value).toArray) st 0 0 (fun _ => False)) (F0 mi 8 ls []) := by
    intro nn
    induction nn with
    | zero => intros; omega
    | succ nn ih_8 =>
      intro t i ls hl i8_0 i8_1 i8_2 i8_3 hm
      refine lv_iload_n SS.1 SS.2.1 dX7_bottom_8 rfl (lv_at hl 2 rfl) ?_
      refine lv_aload_n SS.1 SS.2.1 dX7_bottom_9 rfl (lv_at hl 0 rfl) ?_
      refine j_getS SS hG hP (9 + 5 * r) (v := .int (J (u.1.2.2.1 r))) (C := RX7) (T := TX7) (N := 3) (cw_ring (by omega)) rfl inX7 2 (by decide) (ref := "GridPolygons$Ring") kw_131 kw_132 rfl dX7_bottom_10 ?_
      refine j_icmp_ge SS (tgt := 32) (x := i) (y := (u.1.2.2.1 r)) dX7_bottom_13 (by decide) (by omega) (by omega) (fun c_13 => ?_) (fun c_13 => ?_)
      · skip
        refine lv_iload_n SS.1 SS.2.1 dX7_bottom_32 rfl (lv_at hl 1 rfl) ?_
        exact W.iret SS.1 SS.2.1 hr (fun t0 ht hW => ⟨_, rfl, ⟨t, rfl, (⟨by omega, fun a h1 h2 => i8_2 a h1 (by omega), i8_3⟩)⟩, ht⟩) (fun _ h => nomatch h) dX7_bottom_33 hlk
      · skip
        refine lv_iload_n SS.1 SS.2.1 dX7_bottom_16 rfl (lv_at hl 1 rfl) ?_
        refine lv_aload_n SS.1 SS.2.1 dX7_bottom_17 rfl (lv_at hl 0 rfl) ?_
        refine lv_iload_n SS.1 SS.2.1 dX7_bottom_18 rfl (lv_at hl 2 rfl) ?_
        refine j_uRi SS (As := [.int (J i)]) (rest := [.int (J t)]) (c_X8_y l D q u r (by omega) i (show -2147483648 ≤ i ∧ i ≤ 2147483647 from (by omega))) mu_7_y kw_503 hG hP hP (ci := 7) (q0 := (9 + 5 * r)) rfl (cw_ring (by omega)) rfl rfl hl.1 ⟨⟨Nat.le_of_ble_eq_true rfl, Nat.le_of_ble_eq_true rfl⟩, Nat.le_of_ble_eq_true rfl, Nat.le_refl _, Nat.le_refl _⟩ rfl dX7_bottom_19 (fun z_19 h_19 => ?_)
        have h_19 : z_19 = ry9 u r i ∧ ∀ K : Int, 0 ≤ K → RB K u r → -K ≤ z_19 ∧ z_19 ≤ K := h_19
        have hb_19 := h_19.2 K (by omega) (p1)
        refine j_sRi SS (As := [.int (J t), .int (J z_19)]) (rest := []) (c_J9_min_7cf53 l D  t z_19 (show -2147483648 ≤ t ∧ t ≤ 2147483647 from (by omega)) (show -2147483648 ≤ z_19 ∧ z_19 ≤ 2147483647 from (by omega))) mf_J9_min_7cf53 kw_602 hG trivial rfl hl.1 ⟨⟨Nat.le_of_ble_eq_true rfl, Nat.le_of_ble_eq_true rfl⟩, Nat.le_of_ble_eq_true rfl, Nat.le_refl _, Nat.le_refl _⟩ rfl dX7_bottom_22 (fun z_22 h_22 => ?_)
        have h_22 : (z_22 = t ∨ z_22 = z_19) ∧ z_22 ≤ t ∧ z_22 ≤ z_19 := h_22
        refine lv_istore_n (lv' := [(1, .int (J z_22)), (0, .ref (q (9 + 5 * r))), (2, .int (J i))]) SS.1 SS.2.1 dX7_bottom_25 rfl hl (by decide) rfl (fun ls hl => ?_)
        refine lv_iinc (v := J (i + 1)) (lv' := [(2, .int (J (i + 1))), (1, .int (J z_22)), (0, .ref (q (9 + 5 * r)))]) SS.1 SS.2.1 dX7_bottom_26 hl (k := 2) rfl (J_add _ _) (by decide) rfl (fun ls hl => ?_)
        refine lv_goto (tgt := 8) SS.1 SS.2.1 dX7_bottom_29 (by decide) ?_
        exact ih_8 z_22 (i + 1) ls (lv_sub hl [2, 1, 0] rfl) (by omega) (by omega) (fun a h1 h2 => by by_cases e : a = i; (rw [e, ← h_19.1]; omega); have := i8_2 a h1 (by omega); omega) (by rcases h_22.1 with q | q; (obtain ⟨k, k1, k2, k3⟩ := i8_3; exact ⟨k, k1, k2, k3.trans q.symm⟩); exact ⟨i, by omega, by omega, h_19.1.symm.trans q.symm⟩) (by omega)
  exact L_8 ((u.1.2.2.1 r - (1 : Int)).toNat + 1) z_2 1 ls (lv_sub hl [2, 1, 0] rfl) (by omega) (by omega) (fun a h1 h2 => by rw [show a = 0 by omega, ← h_2.1]; omega) (⟨0, by omega, by omega, h_2.1.symm⟩) (Nat.lt_succ_self _)

set_option maxHeartbeats 4000000 in
set_option maxRecDepth 100000 in
theorem c_X7_top3 (l : Launch) (D : JD) (q : Nat → Nat) (u : CS) (r : Nat) (hr : r ≤ 8) (K : Int) (p0 : 0 ≤ K ∧ K ≤ 80) (p1 : RB K u r) (p2 : 1 ≤ u.1.2.2.1 r) : Met l yX7_top (jw yX7_top cX7_top 3 (some .int)) (jr 1 21) (jP [.ref (q (9 + 5 * r))] D (fun H => va_P D.1 j_cl (cW D q u) H)) (jRi (fun z => (-K ≤ z ∧ z ≤ K) ∧ (∀ a : Int, 0 ≤ a → a < u.1.2.2.1 r → ry9 u r a ≤ z) ∧ ∃ a : Int, 0 ≤ a ∧ a < u.1.2.2.1 r ∧ ry9 u r a = z)) 0 0 (fun _ => False) := by
  refine Met.ofW (cc := cX7_top) (maxL := 3) (ret := (some .int)) (by decide) rfl ?_
  intro pr en st mi args below meth co s₁ B hml hv
  obtain ⟨rfl, hG, hP⟩ := hv
  have hr := B.returns
  have hlk := B.notSynchronized
  have SS : jS pr mi co cX7_top 3 st _ RX7 := ⟨B.exec, B.bytes, hml, findClass_of_methodNamed B.named, fun w hw => atoms_spec (ws := (jw yX7_top cX7_top 3 (some .int))) B.pre w (List.mem_cons_of_mem _ hw)⟩
  have hl := lv_entry ([.ref (q (9 + 5 * r))]) (n := 3) (Nat.le_of_ble_eq_true rfl)
  rw [lg_entry_eq]
  generalize (lg_sl ([.ref (q (9 + 5 * r))]) ++ List.replicate (3 - (lg_sl ([.ref (q (9 + 5 * r))])).length) Slot.unset).toArray = ls at hl ⊢
  have hl : lv_has ls 3 [(0, .ref (q (9 + 5 * r)))] := hl
  have hc := p1.1
  have hrl := rl_b r
  refine lv_aload_n SS.1 SS.2.1 dX7_top_0 rfl (lv_at hl 0 rfl) ?_
  refine j_iconst SS dX7_top_1 ?_
  refine j_uRi SS (As := [.int (J 0)]) (rest := []) (c_X8_y l D q u r (by omega) 0 (show -2147483648 ≤ (0 : Int) ∧ (0 : Int) ≤ 2147483647 from (by omega))) mu_7_y kw_503 hG hP hP (ci := 7) (q0 := (9 + 5 * r)) rfl (cw_ring (by omega)) rfl rfl hl.1 ⟨⟨Nat.le_of_ble_eq_true rfl, Nat.le_of_ble_eq_true rfl⟩, Nat.le_of_ble_eq_true rfl, Nat.le_refl _, Nat.le_refl _⟩ rfl dX7_top_2 (fun z_2 h_2 => ?_)
  have h_2 : z_2 = ry9 u r (0 : Int) ∧ ∀ K : Int, 0 ≤ K → RB K u r → -K ≤ z_2 ∧ z_2 ≤ K := h_2
  have hb_2 := h_2.2 K (by omega) (p1)
  refine lv_istore_n (lv' := [(1, .int (J z_2)), (0, .ref (q (9 + 5 * r)))]) SS.1 SS.2.1 dX7_top_5 rfl hl (by decide) rfl (fun ls hl => ?_)
  refine j_iconst SS dX7_top_6 ?_
  refine lv_istore_n (lv' := [(2, .int (J 1)), (1, .int (J z_2)), (0, .ref (q (9 + 5 * r)))]) SS.1 SS.2.1 dX7_top_7 rfl hl (by decide) rfl (fun ls hl => ?_)
  have L_8 : ∀ (nn : Nat) (t : Int) (i : Int) (ls : Array Slot) (hl : lv_has ls 3 [(0, .ref (q (9 + 5 * r))), (1, .int (J t)), (2, .int (J i))]) (i8_0 : 1 ≤ i ∧ (i ≤ u.1.2.2.1 r ∨ i = 1)) (i8_1 : -K ≤ t ∧ t ≤ K) (i8_2 : ∀ a : Int, 0 ≤ a → a < i → ry9 u r a ≤ t) (i8_3 : ∃ a : Int, 0 ≤ a ∧ a < u.1.2.2.1 r ∧ ry9 u r a = t), (u.1.2.2.1 r - i).toNat < nn → W pr l en (headSpec (jw yX7_top cX7_top 3 (some .int)) (jr 1 21)).room st mi (([.ref (q (9 + 5 * r))] : List Value).toArray) below meth co st.heap [] 0 0 (MQ below (jRi (fun z => (-K ≤ z ∧ z ≤ K) ∧ (∀ a : Int, 0 ≤ a → a < u.1.2.2.1 r → ry9 u r a ≤ z) ∧ ∃ a : Int, 0 ≤ a ∧ a < u.1.2.2.1 r ∧ ry9 u r a = z)) (([.ref (q (9 + 5 * r))] : List Value).toArray) st 0 0 (fun _ => False)) (F0 mi 8 ls []) := by
    intro nn
    induction nn with
    | zero => intros; omega
    | succ nn ih_8 =>
      intro t i ls hl i8_0 i8_1 i8_2 i8_3 hm
      refine lv_iload_n SS.1 SS.2.1 dX7_top_8 rfl (lv_at hl 2 rfl) ?_
      refine lv_aload_n SS.1 SS.2.1 dX7_top_9 rfl (lv_at hl 0 rfl) ?_
      refine j_getS SS hG hP (9 + 5 * r) (v := .int (J (u.1.2.2.1 r))) (C := RX7) (T := TX7) (N := 3) (cw_ring (by omega)) rfl inX7 2 (by decide) (ref := "GridPolygons$Ring") kw_131 kw_132 rfl dX7_top_10 ?_
      refine j_icmp_ge SS (tgt := 32) (x := i) (y := (u.1.2.2.1 r)) dX7_top_13 (by decide) (by omega) (by omega) (fun c_13 => ?_) (fun c_13 => ?_)
      · skip
        refine lv_iload_n SS.1 SS.2.1 dX7_top_32 rfl (lv_at hl 1 rfl) ?_
        exact W.iret SS.1 SS.2.1 hr (fun t0 ht hW => ⟨_, rfl, ⟨t, rfl, (⟨by omega, fun a h1 h2 => i8_2 a h1 (by omega), i8_3⟩)⟩, ht⟩) (fun _ h => nomatch h) dX7_top_33 hlk
      · skip
        refine lv_iload_n SS.1 SS.2.1 dX7_top_16 rfl (lv_at hl 1 rfl) ?_
        refine lv_aload_n SS.1 SS.2.1 dX7_top_17 rfl (lv_at hl 0 rfl) ?_
        refine lv_iload_n SS.1 SS.2.1 dX7_top_18 rfl (lv_at hl 2 rfl) ?_
        refine j_uRi SS (As := [.int (J i)]) (rest := [.int (J t)]) (c_X8_y l D q u r (by omega) i (show -2147483648 ≤ i ∧ i ≤ 2147483647 from (by omega))) mu_7_y kw_503 hG hP hP (ci := 7) (q0 := (9 + 5 * r)) rfl (cw_ring (by omega)) rfl rfl hl.1 ⟨⟨Nat.le_of_ble_eq_true rfl, Nat.le_of_ble_eq_true rfl⟩, Nat.le_of_ble_eq_true rfl, Nat.le_refl _, Nat.le_refl _⟩ rfl dX7_top_19 (fun z_19 h_19 => ?_)
        have h_19 : z_19 = ry9 u r i ∧ ∀ K : Int, 0 ≤ K → RB K u r → -K ≤ z_19 ∧ z_19 ≤ K := h_19
        have hb_19 := h_19.2 K (by omega) (p1)
        refine j_sRi SS (As := [.int (J t), .int (J z_19)]) (rest := []) (c_J9_max_7cf53 l D  t z_19 (show -2147483648 ≤ t ∧ t ≤ 2147483647 from (by omega)) (show -2147483648 ≤ z_19 ∧ z_19 ≤ 2147483647 from (by omega))) mf_J9_max_7cf53 kw_593 hG trivial rfl hl.1 ⟨⟨Nat.le_of_ble_eq_true rfl, Nat.le_of_ble_eq_true rfl⟩, Nat.le_of_ble_eq_true rfl, Nat.le_refl _, Nat.le_refl _⟩ rfl dX7_top_22 (fun z_22 h_22 => ?_)
        have h_22 : (z_22 = t ∨ z_22 = z_19) ∧ t ≤ z_22 ∧ z_19 ≤ z_22 := h_22
        refine lv_istore_n (lv' := [(1, .int (J z_22)), (0, .ref (q (9 + 5 * r))), (2, .int (J i))]) SS.1 SS.2.1 dX7_top_25 rfl hl (by decide) rfl (fun ls hl => ?_)
        refine lv_iinc (v := J (i + 1)) (lv' := [(2, .int (J (i + 1))), (1, .int (J z_22)), (0, .ref (q (9 + 5 * r)))]) SS.1 SS.2.1 dX7_top_26 hl (k := 2) rfl (J_add _ _) (by decide) rfl (fun ls hl => ?_)
        refine lv_goto (tgt := 8) SS.1 SS.2.1 dX7_top_29 (by decide) ?_
        exact ih_8 z_22 (i + 1) ls (lv_sub hl [2, 1, 0] rfl) (by omega) (by omega) (fun a h1 h2 => by by_cases e : a = i; (rw [e, ← h_19.1]; omega); have := i8_2 a h1 (by omega); omega) (by rcases h_22.1 with q | q; (obtain ⟨k, k1, k2, k3⟩ := i8_3; exact ⟨k, k1, k2, k3.trans q.symm⟩); exact ⟨i, by omega, by omega, h_19.1.symm.trans q.symm⟩) (by omega)
  exact L_8 ((u.1.2.2.1 r - (1 : Int)).toNat + 1) z_2 1 ls (lv_sub hl [2, 1, 0] rfl) (by omega) (by omega) (fun a h1 h2 => by rw [show a = 0 by omega, ← h_2.1]; omega) (⟨0, by omega, by omega, h_2.1.symm⟩) (Nat.lt_succ_self _)

set_option maxHeartbeats 4000000 in
set_option maxRecDepth 100000 in
theorem c_X7_lowestAt3 (l : Launch) (D : JD) (q : Nat → Nat) (u : CS) (r : Nat) (hr : r ≤ 8) (K : Int) (x : Int) (p0 : 0 ≤ K ∧ K ≤ 80) (p1 : RB K u r) (p2 : -200 ≤ x ∧ x ≤ 200) (p3 : 1 ≤ u.1.2.2.1 r) : Met l yX7_lowestAt (jw yX7_lowestAt cX7_lowestAt 5 (some .int)) (jr 2 44) (jP [.ref (q (9 + 5 * r)), .int (J x)] D (fun H => va_P D.1 j_cl (cW D q u) H)) (jRi (fun z => (-K ≤ z ∧ z ≤ 60000) ∧ (∀ y : Int, z ≤ y ↔ loC u r x y (u.1.2.2.1 r)))) 0 0 (fun _ => False) := by
  refine Met.ofW (cc := cX7_lowestAt) (maxL := 5) (ret := (some .int)) (by decide) rfl ?_
  intro pr en st mi args below meth co s₁ B hml hv
  obtain ⟨rfl, hG, hP⟩ := hv
  have hr := B.returns
  have hlk := B.notSynchronized
  have SS : jS pr mi co cX7_lowestAt 5 st _ RX7 := ⟨B.exec, B.bytes, hml, findClass_of_methodNamed B.named, fun w hw => atoms_spec (ws := (jw yX7_lowestAt cX7_lowestAt 5 (some .int))) B.pre w (List.mem_cons_of_mem _ hw)⟩
  have hl := lv_entry ([.ref (q (9 + 5 * r)), .int (J x)]) (n := 5) (Nat.le_of_ble_eq_true rfl)
  rw [lg_entry_eq]
  generalize (lg_sl ([.ref (q (9 + 5 * r)), .int (J x)]) ++ List.replicate (5 - (lg_sl ([.ref (q (9 + 5 * r)), .int (J x)])).length) Slot.unset).toArray = ls at hl ⊢
  have hl : lv_has ls 5 [(0, .ref (q (9 + 5 * r))), (1, .int (J x))] := hl
  have hc := p1.1
  have hrl := rl_b r
  refine lv_aload_n SS.1 SS.2.1 dX7_lowestAt_0 rfl (lv_at hl 0 rfl) ?_
  refine j_vRi SS (As := []) (rest := []) (c_X7_bottom3 l D q u r (by omega) K  (show 0 ≤ K ∧ K ≤ 80 from (p0)) (show RB K u r from (p1)) (show 1 ≤ (u.1.2.2.1 r) from (p3))) mf_X7_bottom kw_598 hG hP hP (ci := 7) (q0 := (9 + 5 * r)) rfl (cw_ring (by omega)) rfl rfl hl.1 ⟨⟨Nat.le_of_ble_eq_true rfl, Nat.le_of_ble_eq_true rfl⟩, Nat.le_of_ble_eq_true rfl, Nat.le_refl _, Nat.le_refl _⟩ rfl dX7_lowestAt_1 (fun z_1 h_1 => ?_)
  have h_1 : (-K ≤ z_1 ∧ z_1 ≤ K) ∧ (∀ a : Int, 0 ≤ a → a < (u.1.2.2.1 r) → ry9 u r a ≥ z_1) ∧ ∃ a : Int, 0 ≤ a ∧ a < (u.1.2.2.1 r) ∧ ry9 u r a = z_1 := h_1
  refine lv_istore_n (lv' := [(2, .int (J z_1)), (0, .ref (q (9 + 5 * r))), (1, .int (J x))]) SS.1 SS.2.1 dX7_lowestAt_4 rfl hl (by decide) rfl (fun ls hl => ?_)
  refine j_iconst SS dX7_lowestAt_5 ?_
  refine lv_istore_n (lv' := [(3, .int (J 0)), (2, .int (J z_1)), (0, .ref (q (9 + 5 * r))), (1, .int (J x))]) SS.1 SS.2.1 dX7_lowestAt_6 rfl hl (by decide) rfl (fun ls hl => ?_)
  have L_7 : ∀ (nn : Nat) (t : Int) (i : Int) (ls : Array Slot) (hl : lv_has ls 5 [(0, .ref (q (9 + 5 * r))), (1, .int (J x)), (2, .int (J t)), (3, .int (J i))]) (i7_0 : 0 ≤ i ∧ i ≤ u.1.2.2.1 r) (i7_1 : -K ≤ t ∧ t ≤ 60000) (i7_2 : ∀ y : Int, t ≤ y ↔ loC u r x y (i)), (u.1.2.2.1 r - i).toNat < nn → W pr l en (headSpec (jw yX7_lowestAt cX7_lowestAt 5 (some .int)) (jr 2 44)).room st mi (([.ref (q (9 + 5 * r)), .int (J x)] : List Value).toArray) below meth co st.heap [] 0 0 (MQ below (jRi (fun z => (-K ≤ z ∧ z ≤ 60000) ∧ (∀ y : Int, z ≤ y ↔ loC u r x y (u.1.2.2.1 r)))) (([.ref (q (9 + 5 * r)), .int (J x)] : List Value).toArray) st 0 0 (fun _ => False)) (F0 mi 7 ls []) := by
    intro nn
    induction nn with
    | zero => intros; omega
    | succ nn ih_7 =>
      intro t i ls hl i7_0 i7_1 i7_2 hm
      refine lv_iload_n SS.1 SS.2.1 dX7_lowestAt_7 rfl (lv_at hl 3 rfl) ?_
      refine lv_aload_n SS.1 SS.2.1 dX7_lowestAt_8 rfl (lv_at hl 0 rfl) ?_
      refine j_getS SS hG hP (9 + 5 * r) (v := .int (J (u.1.2.2.1 r))) (C := RX7) (T := TX7) (N := 3) (cw_ring (by omega)) rfl inX7 2 (by decide) (ref := "GridPolygons$Ring") kw_131 kw_132 rfl dX7_lowestAt_9 ?_
      refine j_icmp_ge SS (tgt := 62) (x := i) (y := (u.1.2.2.1 r)) dX7_lowestAt_12 (by decide) (by omega) (by omega) (fun c_12 => ?_) (fun c_12 => ?_)
      · skip
        refine lv_iload_n SS.1 SS.2.1 dX7_lowestAt_62 rfl (lv_at hl 2 rfl) ?_
        exact W.iret SS.1 SS.2.1 hr (fun t0 ht hW => ⟨_, rfl, ⟨t, rfl, (⟨i7_1, fun y => by rw [i7_2 y, show i = u.1.2.2.1 r by omega]⟩)⟩, ht⟩) (fun _ h => nomatch h) dX7_lowestAt_63 hlk
      · skip
        refine lv_aload_n SS.1 SS.2.1 dX7_lowestAt_15 rfl (lv_at hl 0 rfl) ?_
        refine lv_iload_n SS.1 SS.2.1 dX7_lowestAt_16 rfl (lv_at hl 3 rfl) ?_
        refine j_vRi SS (As := [.int (J i)]) (rest := []) (c_X7_sideX l D q u r (by omega) K i (show 0 ≤ K ∧ K ≤ 80 from (p0)) (show RB K u r from (p1)) (show -1000 ≤ i ∧ i ≤ 1000 from (by omega))) mf_X7_sideX kw_529 hG hP hP (ci := 7) (q0 := (9 + 5 * r)) rfl (cw_ring (by omega)) rfl rfl hl.1 ⟨⟨Nat.le_of_ble_eq_true rfl, Nat.le_of_ble_eq_true rfl⟩, Nat.le_of_ble_eq_true rfl, Nat.le_refl _, Nat.le_refl _⟩ rfl dX7_lowestAt_17 (fun z_17 h_17 => ?_)
        have h_17 : z_17 = dX u r i ∧ -2 * K ≤ z_17 ∧ z_17 ≤ 2 * K := h_17
        refine lv_istore (lv' := [(4, .int (J z_17)), (0, .ref (q (9 + 5 * r))), (1, .int (J x)), (2, .int (J t)), (3, .int (J i))]) SS.1 SS.2.1 dX7_lowestAt_20 hl (by decide) rfl (fun ls hl => ?_)
        refine lv_iload SS.1 SS.2.1 dX7_lowestAt_22 (lv_at hl 0 rfl) ?_
        refine j_if_le SS (tgt := 56) (x := z_17) dX7_lowestAt_24 (by decide) (by omega) (fun c_24 => ?_) (fun c_24 => ?_)
        · skip
          refine lv_iinc (v := J (i + 1)) (lv' := [(3, .int (J (i + 1))), (4, .int (J z_17)), (0, .ref (q (9 + 5 * r))), (1, .int (J x)), (2, .int (J t))]) SS.1 SS.2.1 dX7_lowestAt_56 hl (k := 4) rfl (J_add _ _) (by decide) rfl (fun ls hl => ?_)
          refine lv_goto (tgt := 7) SS.1 SS.2.1 dX7_lowestAt_59 (by decide) ?_
          exact ih_7 t (i + 1) ls (lv_sub hl [2, 3, 4, 0] rfl) (by omega) (by omega) (fun y => by rw [loC_s i7_0.1, ← i7_2 y]; first | (rw [show cvv u r i x y = z_17 * (y - z_30) - z_42 * (x - z_35) by rw [h_17.1, h_30.1, h_42.1, h_35.1]; rfl]; rw [← low_1 (by omega), ← h_48]; exact ⟨fun w => ⟨by omega, fun _ => by omega⟩, fun w => by have := w.2 (by omega); have := w.1; omega⟩) | exact ⟨fun w => ⟨w, fun d => by rw [← h_17.1] at d; omega⟩, fun w => w.1⟩) (by omega)
        · skip
          refine lv_iload_n SS.1 SS.2.1 dX7_lowestAt_27 rfl (lv_at hl 3 rfl) ?_
          refine lv_aload_n SS.1 SS.2.1 dX7_lowestAt_28 rfl (lv_at hl 1 rfl) ?_
          refine lv_iload_n SS.1 SS.2.1 dX7_lowestAt_29 rfl (lv_at hl 4 rfl) ?_
          refine j_uRi SS (As := [.int (J i)]) (rest := [.int (J t)]) (c_X8_y l D q u r (by omega) i (show -2147483648 ≤ i ∧ i ≤ 2147483647 from (by omega))) mu_7_y kw_503 hG hP hP (ci := 7) (q0 := (9 + 5 * r)) rfl (cw_ring (by omega)) rfl rfl hl.1 ⟨⟨Nat.le_of_ble_eq_true rfl, Nat.le_of_ble_eq_true rfl⟩, Nat.le_of_ble_eq_true rfl, Nat.le_refl _, Nat.le_refl _⟩ rfl dX7_lowestAt_30 (fun z_30 h_30 => ?_)
          have h_30 : z_30 = ry9 u r i ∧ ∀ K : Int, 0 ≤ K → RB K u r → -K ≤ z_30 ∧ z_30 ≤ K := h_30
          have hb_30 := h_30.2 K (by omega) (p1)
          refine lv_aload_n SS.1 SS.2.1 dX7_lowestAt_33 rfl (lv_at hl 1 rfl) ?_
          refine lv_iload_n SS.1 SS.2.1 dX7_lowestAt_34 rfl (lv_at hl 4 rfl) ?_
          refine j_uRi SS (As := [.int (J i)]) (rest := [.int (J z_30), .int (J t)]) (c_X8_x l D q u r (by omega) i (show -2147483648 ≤ i ∧ i ≤ 2147483647 from (by omega))) mu_7_x kw_501 hG hP hP (ci := 7) (q0 := (9 + 5 * r)) rfl (cw_ring (by omega)) rfl rfl hl.1 ⟨⟨Nat.le_of_ble_eq_true rfl, Nat.le_of_ble_eq_true rfl⟩, Nat.le_of_ble_eq_true rfl, Nat.le_refl _, Nat.le_refl _⟩ rfl dX7_lowestAt_35 (fun z_35 h_35 => ?_)
          have h_35 : z_35 = rx u r i ∧ ∀ K : Int, 0 ≤ K → RB K u r → -K ≤ z_35 ∧ z_35 ≤ K := h_35
          have hb_35 := h_35.2 K (by omega) (p1)
          refine lv_iload_n SS.1 SS.2.1 dX7_lowestAt_38 rfl (lv_at hl 2 rfl) ?_
          refine j_isub SS (x := z_35) (y := x) dX7_lowestAt_39 ?_
          refine lv_aload_n SS.1 SS.2.1 dX7_lowestAt_40 rfl (lv_at hl 1 rfl) ?_
          refine lv_iload_n SS.1 SS.2.1 dX7_lowestAt_41 rfl (lv_at hl 4 rfl) ?_
          refine j_vRi SS (As := [.int (J i)]) (rest := [.int (J (z_35 - x)), .int (J z_30), .int (J t)]) (c_X7_sideY l D q u r (by omega) K i (show 0 ≤ K ∧ K ≤ 80 from (p0)) (show RB K u r from (p1)) (show -1000 ≤ i ∧ i ≤ 1000 from (by omega))) mf_X7_sideY kw_521 hG hP hP (ci := 7) (q0 := (9 + 5 * r)) rfl (cw_ring (by omega)) rfl rfl hl.1 ⟨⟨Nat.le_of_ble_eq_true rfl, Nat.le_of_ble_eq_true rfl⟩, Nat.le_of_ble_eq_true rfl, Nat.le_refl _, Nat.le_refl _⟩ rfl dX7_lowestAt_42 (fun z_42 h_42 => ?_)
          have h_42 : z_42 = dY u r i ∧ -2 * K ≤ z_42 ∧ z_42 ≤ 2 * K := h_42
          refine j_imul SS (x := (z_35 - x)) (y := z_42) dX7_lowestAt_45 ?_
          have m0 := mulb (A := 280) (B := 160) (a := z_35 - x) (b := z_42) (by omega) (by omega)
          refine lv_iload SS.1 SS.2.1 dX7_lowestAt_46 (lv_at hl 0 rfl) ?_
          refine j_sRi SS (As := [.int (J ((z_35 - x) * z_42)), .int (J z_17)]) (rest := [.int (J z_30), .int (J t)]) (c_J9_floorDiv_7cf53 l D  ((z_35 - x) * z_42) z_17 (show -2147483648 < ((z_35 - x) * z_42) ∧ ((z_35 - x) * z_42) ≤ 2147483647 from (by omega)) (show 0 < z_17 ∧ z_17 ≤ 2147483647 from (by omega))) mf_J9_floorDiv_7cf53 kw_603 hG trivial rfl hl.1 ⟨⟨Nat.le_of_ble_eq_true rfl, Nat.le_of_ble_eq_true rfl⟩, Nat.le_of_ble_eq_true rfl, Nat.le_refl _, Nat.le_refl _⟩ rfl dX7_lowestAt_48 (fun z_48 h_48 => ?_)
          have h_48 : z_48 = ((z_35 - x) * z_42) / z_17 := h_48
          have m1 := mulb (A := 280) (B := 160) (a := z_35 - x) (b := z_42) (by omega) (by omega)
          have fb := fd_b (a := (z_35 - x) * z_42) (b := z_17) (K := 44800) (by omega) (by omega)
          rw [← h_48] at fb
          refine j_isub SS (x := z_30) (y := z_48) dX7_lowestAt_51 ?_
          refine j_sRi SS (As := [.int (J t), .int (J (z_30 - z_48))]) (rest := []) (c_J9_max_7cf53 l D  t (z_30 - z_48) (show -2147483648 ≤ t ∧ t ≤ 2147483647 from (by omega)) (show -2147483648 ≤ (z_30 - z_48) ∧ (z_30 - z_48) ≤ 2147483647 from (by omega))) mf_J9_max_7cf53 kw_593 hG trivial rfl hl.1 ⟨⟨Nat.le_of_ble_eq_true rfl, Nat.le_of_ble_eq_true rfl⟩, Nat.le_of_ble_eq_true rfl, Nat.le_refl _, Nat.le_refl _⟩ rfl dX7_lowestAt_52 (fun z_52 h_52 => ?_)
          have h_52 : (z_52 = t ∨ z_52 = (z_30 - z_48)) ∧ t ≤ z_52 ∧ (z_30 - z_48) ≤ z_52 := h_52
          refine lv_istore_n (lv' := [(2, .int (J z_52)), (4, .int (J z_17)), (0, .ref (q (9 + 5 * r))), (1, .int (J x)), (3, .int (J i))]) SS.1 SS.2.1 dX7_lowestAt_55 rfl hl (by decide) rfl (fun ls hl => ?_)
          refine lv_iinc (v := J (i + 1)) (lv' := [(3, .int (J (i + 1))), (2, .int (J z_52)), (4, .int (J z_17)), (0, .ref (q (9 + 5 * r))), (1, .int (J x))]) SS.1 SS.2.1 dX7_lowestAt_56 hl (k := 4) rfl (J_add _ _) (by decide) rfl (fun ls hl => ?_)
          refine lv_goto (tgt := 7) SS.1 SS.2.1 dX7_lowestAt_59 (by decide) ?_
          exact ih_7 z_52 (i + 1) ls (lv_sub hl [3, 4, 1, 0] rfl) (by omega) (by omega) (fun y => by rw [loC_s i7_0.1, ← i7_2 y]; first | (rw [show cvv u r i x y = z_17 * (y - z_30) - z_42 * (x - z_35) by rw [h_17.1, h_30.1, h_42.1, h_35.1]; rfl]; rw [← low_1 (by omega), ← h_48]; exact ⟨fun w => ⟨by omega, fun _ => by omega⟩, fun w => by have := w.2 (by omega); have := w.1; omega⟩) | exact ⟨fun w => ⟨w, fun d => by rw [← h_17.1] at d; omega⟩, fun w => w.1⟩) (by omega)
  exact L_7 ((u.1.2.2.1 r - (0 : Int)).toNat + 1) z_1 0 ls (lv_sub hl [2, 3, 1, 0] rfl) (by omega) (by omega) (fun y => ⟨fun q => ⟨by obtain ⟨a, a1, a2, a3⟩ := h_1.2.2; exact ⟨a, a1, a2, by omega⟩, fun k h0 h1 => by omega⟩, fun q => by obtain ⟨a, a1, a2, a3⟩ := q.1; have := h_1.2.1 a a1 a2; omega⟩) (Nat.lt_succ_self _)

set_option maxHeartbeats 4000000 in
set_option maxRecDepth 100000 in
theorem c_X7_highestAt3 (l : Launch) (D : JD) (q : Nat → Nat) (u : CS) (r : Nat) (hr : r ≤ 8) (K : Int) (x : Int) (p0 : 0 ≤ K ∧ K ≤ 80) (p1 : RB K u r) (p2 : -200 ≤ x ∧ x ≤ 200) (p3 : 1 ≤ u.1.2.2.1 r) : Met l yX7_highestAt (jw yX7_highestAt cX7_highestAt 5 (some .int)) (jr 2 44) (jP [.ref (q (9 + 5 * r)), .int (J x)] D (fun H => va_P D.1 j_cl (cW D q u) H)) (jRi (fun z => (-60000 ≤ z ∧ z ≤ K) ∧ (∀ y : Int, y ≤ z ↔ hiC u r x y (u.1.2.2.1 r)))) 0 0 (fun _ => False) := by
  refine Met.ofW (cc := cX7_highestAt) (maxL := 5) (ret := (some .int)) (by decide) rfl ?_
  intro pr en st mi args below meth co s₁ B hml hv
  obtain ⟨rfl, hG, hP⟩ := hv
  have hr := B.returns
  have hlk := B.notSynchronized
  have SS : jS pr mi co cX7_highestAt 5 st _ RX7 := ⟨B.exec, B.bytes, hml, findClass_of_methodNamed B.named, fun w hw => atoms_spec (ws := (jw yX7_highestAt cX7_highestAt 5 (some .int))) B.pre w (List.mem_cons_of_mem _ hw)⟩
  have hl := lv_entry ([.ref (q (9 + 5 * r)), .int (J x)]) (n := 5) (Nat.le_of_ble_eq_true rfl)
  rw [lg_entry_eq]
  generalize (lg_sl ([.ref (q (9 + 5 * r)), .int (J x)]) ++ List.replicate (5 - (lg_sl ([.ref (q (9 + 5 * r)), .int (J x)])).length) Slot.unset).toArray = ls at hl ⊢
  have hl : lv_has ls 5 [(0, .ref (q (9 + 5 * r))), (1, .int (J x))] := hl
  have hc := p1.1
  have hrl := rl_b r
  refine lv_aload_n SS.1 SS.2.1 dX7_highestAt_0 rfl (lv_at hl 0 rfl) ?_
  refine j_vRi SS (As := []) (rest := []) (c_X7_top3 l D q u r (by omega) K  (show 0 ≤ K ∧ K ≤ 80 from (p0)) (show RB K u r from (p1)) (show 1 ≤ (u.1.2.2.1 r) from (p3))) mf_X7_top kw_610 hG hP hP (ci := 7) (q0 := (9 + 5 * r)) rfl (cw_ring (by omega)) rfl rfl hl.1 ⟨⟨Nat.le_of_ble_eq_true rfl, Nat.le_of_ble_eq_true rfl⟩, Nat.le_of_ble_eq_true rfl, Nat.le_refl _, Nat.le_refl _⟩ rfl dX7_highestAt_1 (fun z_1 h_1 => ?_)
  have h_1 : (-K ≤ z_1 ∧ z_1 ≤ K) ∧ (∀ a : Int, 0 ≤ a → a < (u.1.2.2.1 r) → ry9 u r a ≤ z_1) ∧ ∃ a : Int, 0 ≤ a ∧ a < (u.1.2.2.1 r) ∧ ry9 u r a = z_1 := h_1
  refine lv_istore_n (lv' := [(2, .int (J z_1)), (0, .ref (q (9 + 5 * r))), (1, .int (J x))]) SS.1 SS.2.1 dX7_highestAt_4 rfl hl (by decide) rfl (fun ls hl => ?_)
  refine j_iconst SS dX7_highestAt_5 ?_
  refine lv_istore_n (lv' := [(3, .int (J 0)), (2, .int (J z_1)), (0, .ref (q (9 + 5 * r))), (1, .int (J x))]) SS.1 SS.2.1 dX7_highestAt_6 rfl hl (by decide) rfl (fun ls hl => ?_)
  have L_7 : ∀ (nn : Nat) (t : Int) (i : Int) (ls : Array Slot) (hl : lv_has ls 5 [(0, .ref (q (9 + 5 * r))), (1, .int (J x)), (2, .int (J t)), (3, .int (J i))]) (i7_0 : 0 ≤ i ∧ i ≤ u.1.2.2.1 r) (i7_1 : -60000 ≤ t ∧ t ≤ K) (i7_2 : ∀ y : Int, y ≤ t ↔ hiC u r x y (i)), (u.1.2.2.1 r - i).toNat < nn → W pr l en (headSpec (jw yX7_highestAt cX7_highestAt 5 (some .int)) (jr 2 44)).room st mi (([.ref (q (9 + 5 * r)), .int (J x)] : List Value).toArray) below meth co st.heap [] 0 0 (MQ below (jRi (fun z => (-60000 ≤ z ∧ z ≤ K) ∧ (∀ y : Int, y ≤ z ↔ hiC u r x y (u.1.2.2.1 r)))) (([.ref (q (9 + 5 * r)), .int (J x)] : List Value).toArray) st 0 0 (fun _ => False)) (F0 mi 7 ls []) := by
    intro nn
    induction nn with
    | zero => intros; omega
    | succ nn ih_7 =>
      intro t i ls hl i7_0 i7_1 i7_2 hm
      refine lv_iload_n SS.1 SS.2.1 dX7_highestAt_7 rfl (lv_at hl 3 rfl) ?_
      refine lv_aload_n SS.1 SS.2.1 dX7_highestAt_8 rfl (lv_at hl 0 rfl) ?_
      refine j_getS SS hG hP (9 + 5 * r) (v := .int (J (u.1.2.2.1 r))) (C := RX7) (T := TX7) (N := 3) (cw_ring (by omega)) rfl inX7 2 (by decide) (ref := "GridPolygons$Ring") kw_131 kw_132 rfl dX7_highestAt_9 ?_
      refine j_icmp_ge SS (tgt := 63) (x := i) (y := (u.1.2.2.1 r)) dX7_highestAt_12 (by decide) (by omega) (by omega) (fun c_12 => ?_) (fun c_12 => ?_)
      · skip
        refine lv_iload_n SS.1 SS.2.1 dX7_highestAt_63 rfl (lv_at hl 2 rfl) ?_
        exact W.iret SS.1 SS.2.1 hr (fun t0 ht hW => ⟨_, rfl, ⟨t, rfl, (⟨i7_1, fun y => by rw [i7_2 y, show i = u.1.2.2.1 r by omega]⟩)⟩, ht⟩) (fun _ h => nomatch h) dX7_highestAt_64 hlk
      · skip
        refine lv_aload_n SS.1 SS.2.1 dX7_highestAt_15 rfl (lv_at hl 0 rfl) ?_
        refine lv_iload_n SS.1 SS.2.1 dX7_highestAt_16 rfl (lv_at hl 3 rfl) ?_
        refine j_vRi SS (As := [.int (J i)]) (rest := []) (c_X7_sideX l D q u r (by omega) K i (show 0 ≤ K ∧ K ≤ 80 from (p0)) (show RB K u r from (p1)) (show -1000 ≤ i ∧ i ≤ 1000 from (by omega))) mf_X7_sideX kw_529 hG hP hP (ci := 7) (q0 := (9 + 5 * r)) rfl (cw_ring (by omega)) rfl rfl hl.1 ⟨⟨Nat.le_of_ble_eq_true rfl, Nat.le_of_ble_eq_true rfl⟩, Nat.le_of_ble_eq_true rfl, Nat.le_refl _, Nat.le_refl _⟩ rfl dX7_highestAt_17 (fun z_17 h_17 => ?_)
        have h_17 : z_17 = dX u r i ∧ -2 * K ≤ z_17 ∧ z_17 ≤ 2 * K := h_17
        refine j_ineg SS dX7_highestAt_20 ?_
        refine lv_istore (lv' := [(4, .int (J (-z_17))), (0, .ref (q (9 + 5 * r))), (1, .int (J x)), (2, .int (J t)), (3, .int (J i))]) SS.1 SS.2.1 dX7_highestAt_21 hl (by decide) rfl (fun ls hl => ?_)
        refine lv_iload SS.1 SS.2.1 dX7_highestAt_23 (lv_at hl 0 rfl) ?_
        refine j_if_le SS (tgt := 57) (x := (-z_17)) dX7_highestAt_25 (by decide) (by omega) (fun c_25 => ?_) (fun c_25 => ?_)
        · skip
          refine lv_iinc (v := J (i + 1)) (lv' := [(3, .int (J (i + 1))), (4, .int (J (-z_17))), (0, .ref (q (9 + 5 * r))), (1, .int (J x)), (2, .int (J t))]) SS.1 SS.2.1 dX7_highestAt_57 hl (k := 4) rfl (J_add _ _) (by decide) rfl (fun ls hl => ?_)
          refine lv_goto (tgt := 7) SS.1 SS.2.1 dX7_highestAt_60 (by decide) ?_
          exact ih_7 t (i + 1) ls (lv_sub hl [2, 3, 4, 0] rfl) (by omega) (by omega) (fun y => by rw [hiC_s i7_0.1, ← i7_2 y]; first | (rw [show cvv u r i x y = z_17 * (y - z_31) - z_43 * (x - z_36) by rw [h_17.1, h_31.1, h_43.1, h_36.1]; rfl]; rw [← high_1 (by omega), ← h_49]; exact ⟨fun w => ⟨by omega, fun _ => by omega⟩, fun w => by have := w.2 (by omega); have := w.1; omega⟩) | exact ⟨fun w => ⟨w, fun d => by rw [← h_17.1] at d; omega⟩, fun w => w.1⟩) (by omega)
        · skip
          refine lv_iload_n SS.1 SS.2.1 dX7_highestAt_28 rfl (lv_at hl 3 rfl) ?_
          refine lv_aload_n SS.1 SS.2.1 dX7_highestAt_29 rfl (lv_at hl 1 rfl) ?_
          refine lv_iload_n SS.1 SS.2.1 dX7_highestAt_30 rfl (lv_at hl 4 rfl) ?_
          refine j_uRi SS (As := [.int (J i)]) (rest := [.int (J t)]) (c_X8_y l D q u r (by omega) i (show -2147483648 ≤ i ∧ i ≤ 2147483647 from (by omega))) mu_7_y kw_503 hG hP hP (ci := 7) (q0 := (9 + 5 * r)) rfl (cw_ring (by omega)) rfl rfl hl.1 ⟨⟨Nat.le_of_ble_eq_true rfl, Nat.le_of_ble_eq_true rfl⟩, Nat.le_of_ble_eq_true rfl, Nat.le_refl _, Nat.le_refl _⟩ rfl dX7_highestAt_31 (fun z_31 h_31 => ?_)
          have h_31 : z_31 = ry9 u r i ∧ ∀ K : Int, 0 ≤ K → RB K u r → -K ≤ z_31 ∧ z_31 ≤ K := h_31
          have hb_31 := h_31.2 K (by omega) (p1)
          refine lv_aload_n SS.1 SS.2.1 dX7_highestAt_34 rfl (lv_at hl 1 rfl) ?_
          refine lv_iload_n SS.1 SS.2.1 dX7_highestAt_35 rfl (lv_at hl 4 rfl) ?_
          refine j_uRi SS (As := [.int (J i)]) (rest := [.int (J z_31), .int (J t)]) (c_X8_x l D q u r (by omega) i (show -2147483648 ≤ i ∧ i ≤ 2147483647 from (by omega))) mu_7_x kw_501 hG hP hP (ci := 7) (q0 := (9 + 5 * r)) rfl (cw_ring (by omega)) rfl rfl hl.1 ⟨⟨Nat.le_of_ble_eq_true rfl, Nat.le_of_ble_eq_true rfl⟩, Nat.le_of_ble_eq_true rfl, Nat.le_refl _, Nat.le_refl _⟩ rfl dX7_highestAt_36 (fun z_36 h_36 => ?_)
          have h_36 : z_36 = rx u r i ∧ ∀ K : Int, 0 ≤ K → RB K u r → -K ≤ z_36 ∧ z_36 ≤ K := h_36
          have hb_36 := h_36.2 K (by omega) (p1)
          refine lv_iload_n SS.1 SS.2.1 dX7_highestAt_39 rfl (lv_at hl 2 rfl) ?_
          refine j_isub SS (x := z_36) (y := x) dX7_highestAt_40 ?_
          refine lv_aload_n SS.1 SS.2.1 dX7_highestAt_41 rfl (lv_at hl 1 rfl) ?_
          refine lv_iload_n SS.1 SS.2.1 dX7_highestAt_42 rfl (lv_at hl 4 rfl) ?_
          refine j_vRi SS (As := [.int (J i)]) (rest := [.int (J (z_36 - x)), .int (J z_31), .int (J t)]) (c_X7_sideY l D q u r (by omega) K i (show 0 ≤ K ∧ K ≤ 80 from (p0)) (show RB K u r from (p1)) (show -1000 ≤ i ∧ i ≤ 1000 from (by omega))) mf_X7_sideY kw_521 hG hP hP (ci := 7) (q0 := (9 + 5 * r)) rfl (cw_ring (by omega)) rfl rfl hl.1 ⟨⟨Nat.le_of_ble_eq_true rfl, Nat.le_of_ble_eq_true rfl⟩, Nat.le_of_ble_eq_true rfl, Nat.le_refl _, Nat.le_refl _⟩ rfl dX7_highestAt_43 (fun z_43 h_43 => ?_)
          have h_43 : z_43 = dY u r i ∧ -2 * K ≤ z_43 ∧ z_43 ≤ 2 * K := h_43
          refine j_imul SS (x := (z_36 - x)) (y := z_43) dX7_highestAt_46 ?_
          have m0 := mulb (A := 280) (B := 160) (a := z_36 - x) (b := z_43) (by omega) (by omega)
          refine lv_iload SS.1 SS.2.1 dX7_highestAt_47 (lv_at hl 0 rfl) ?_
          refine j_sRi SS (As := [.int (J ((z_36 - x) * z_43)), .int (J (-z_17))]) (rest := [.int (J z_31), .int (J t)]) (c_J9_floorDiv_7cf53 l D  ((z_36 - x) * z_43) (-z_17) (show -2147483648 < ((z_36 - x) * z_43) ∧ ((z_36 - x) * z_43) ≤ 2147483647 from (by omega)) (show 0 < (-z_17) ∧ (-z_17) ≤ 2147483647 from (by omega))) mf_J9_floorDiv_7cf53 kw_603 hG trivial rfl hl.1 ⟨⟨Nat.le_of_ble_eq_true rfl, Nat.le_of_ble_eq_true rfl⟩, Nat.le_of_ble_eq_true rfl, Nat.le_refl _, Nat.le_refl _⟩ rfl dX7_highestAt_49 (fun z_49 h_49 => ?_)
          have h_49 : z_49 = ((z_36 - x) * z_43) / (-z_17) := h_49
          have m1 := mulb (A := 280) (B := 160) (a := z_36 - x) (b := z_43) (by omega) (by omega)
          have fb := fd_b (a := (z_36 - x) * z_43) (b := (-z_17)) (K := 44800) (by omega) (by omega)
          rw [← h_49] at fb
          refine j_iadd SS (x := z_31) (y := z_49) dX7_highestAt_52 ?_
          refine j_sRi SS (As := [.int (J t), .int (J (z_31 + z_49))]) (rest := []) (c_J9_min_7cf53 l D  t (z_31 + z_49) (show -2147483648 ≤ t ∧ t ≤ 2147483647 from (by omega)) (show -2147483648 ≤ (z_31 + z_49) ∧ (z_31 + z_49) ≤ 2147483647 from (by omega))) mf_J9_min_7cf53 kw_602 hG trivial rfl hl.1 ⟨⟨Nat.le_of_ble_eq_true rfl, Nat.le_of_ble_eq_true rfl⟩, Nat.le_of_ble_eq_true rfl, Nat.le_refl _, Nat.le_refl _⟩ rfl dX7_highestAt_53 (fun z_53 h_53 => ?_)
          have h_53 : (z_53 = t ∨ z_53 = (z_31 + z_49)) ∧ z_53 ≤ t ∧ z_53 ≤ (z_31 + z_49) := h_53
          refine lv_istore_n (lv' := [(2, .int (J z_53)), (4, .int (J (-z_17))), (0, .ref (q (9 + 5 * r))), (1, .int (J x)), (3, .int (J i))]) SS.1 SS.2.1 dX7_highestAt_56 rfl hl (by decide) rfl (fun ls hl => ?_)
          refine lv_iinc (v := J (i + 1)) (lv' := [(3, .int (J (i + 1))), (2, .int (J z_53)), (4, .int (J (-z_17))), (0, .ref (q (9 + 5 * r))), (1, .int (J x))]) SS.1 SS.2.1 dX7_highestAt_57 hl (k := 4) rfl (J_add _ _) (by decide) rfl (fun ls hl => ?_)
          refine lv_goto (tgt := 7) SS.1 SS.2.1 dX7_highestAt_60 (by decide) ?_
          exact ih_7 z_53 (i + 1) ls (lv_sub hl [3, 4, 1, 0] rfl) (by omega) (by omega) (fun y => by rw [hiC_s i7_0.1, ← i7_2 y]; first | (rw [show cvv u r i x y = z_17 * (y - z_31) - z_43 * (x - z_36) by rw [h_17.1, h_31.1, h_43.1, h_36.1]; rfl]; rw [← high_1 (by omega), ← h_49]; exact ⟨fun w => ⟨by omega, fun _ => by omega⟩, fun w => by have := w.2 (by omega); have := w.1; omega⟩) | exact ⟨fun w => ⟨w, fun d => by rw [← h_17.1] at d; omega⟩, fun w => w.1⟩) (by omega)
  exact L_7 ((u.1.2.2.1 r - (0 : Int)).toNat + 1) z_1 0 ls (lv_sub hl [2, 3, 1, 0] rfl) (by omega) (by omega) (fun y => ⟨fun q => ⟨by obtain ⟨a, a1, a2, a3⟩ := h_1.2.2; exact ⟨a, a1, a2, by omega⟩, fun k h0 h1 => by omega⟩, fun q => by obtain ⟨a, a1, a2, a3⟩ := q.1; have := h_1.2.1 a a1 a2; omega⟩) (Nat.lt_succ_self _)

set_option maxHeartbeats 4000000 in
set_option maxRecDepth 100000 in
theorem c_X7_standing3 (l : Launch) (D : JD) (q : Nat → Nat) (u : CS) (r : Nat) (hr : r ≤ 8) (K : Int) (x : Int) (y : Int) (p0 : 0 ≤ K ∧ K ≤ 80) (p1 : RB K u r) (p2 : -200 ≤ x ∧ x ≤ 200) (p3 : -200 ≤ y ∧ y ≤ 200) : Met l yX7_standing (jw yX7_standing cX7_standing 4 (some .int)) (jr 3 68) (jP [.ref (q (9 + 5 * r)), .int (J x), .int (J y)] D (fun H => va_P D.1 j_cl (cW D q u) H)) (jRi (fun z => stC u r x y z)) 0 0 (fun _ => False) := by
  refine Met.ofW (cc := cX7_standing) (maxL := 4) (ret := (some .int)) (by decide) rfl ?_
  intro pr en st mi args below meth co s₁ B hml hv
  obtain ⟨rfl, hG, hP⟩ := hv
  have hr := B.returns
  have hlk := B.notSynchronized
  have SS : jS pr mi co cX7_standing 4 st _ RX7 := ⟨B.exec, B.bytes, hml, findClass_of_methodNamed B.named, fun w hw => atoms_spec (ws := (jw yX7_standing cX7_standing 4 (some .int))) B.pre w (List.mem_cons_of_mem _ hw)⟩
  have hl := lv_entry ([.ref (q (9 + 5 * r)), .int (J x), .int (J y)]) (n := 4) (Nat.le_of_ble_eq_true rfl)
  rw [lg_entry_eq]
  generalize (lg_sl ([.ref (q (9 + 5 * r)), .int (J x), .int (J y)]) ++ List.replicate (4 - (lg_sl ([.ref (q (9 + 5 * r)), .int (J x), .int (J y)])).length) Slot.unset).toArray = ls at hl ⊢
  have hl : lv_has ls 4 [(0, .ref (q (9 + 5 * r))), (1, .int (J x)), (2, .int (J y))] := hl
  have hc := p1.1
  have hrl := rl_b r
  refine lv_aload_n SS.1 SS.2.1 dX7_standing_0 rfl (lv_at hl 0 rfl) ?_
  refine j_getS SS hG hP (9 + 5 * r) (v := .int (J (u.1.2.2.1 r))) (C := RX7) (T := TX7) (N := 3) (cw_ring (by omega)) rfl inX7 2 (by decide) (ref := "GridPolygons$Ring") kw_131 kw_132 rfl dX7_standing_1 ?_
  refine j_if_eq SS (tgt := 41) (x := (u.1.2.2.1 r)) dX7_standing_4 (by decide) (by omega) (fun c_4 => ?_) (fun c_4 => ?_)
  · skip
    refine j_iconst SS dX7_standing_41 ?_
    exact W.iret SS.1 SS.2.1 hr (fun t0 ht hW => ⟨_, rfl, ⟨0, rfl, (Or.inl ⟨rfl, fun q => by first | exact q.1 (by omega) | (have := q.2.1; rw [← h_9.1] at this; omega) | (obtain ⟨a, a1, a2, a3⟩ := q.2.2.1; have := h_17.2.1 a a1 a2; omega) | (have := (h_26.2 y).mpr q.2.2.2.1; omega) | (have := (h_35.2 y).mpr q.2.2.2.2; omega)⟩)⟩, ht⟩) (fun _ h => nomatch h) dX7_standing_42 hlk
  · skip
    refine lv_iload_n SS.1 SS.2.1 dX7_standing_7 rfl (lv_at hl 1 rfl) ?_
    refine lv_aload_n SS.1 SS.2.1 dX7_standing_8 rfl (lv_at hl 0 rfl) ?_
    refine j_vRi SS (As := []) (rest := [.int (J x)]) (c_X7_leftmost l D q u r (by omega) K  (show 0 ≤ K ∧ K ≤ 80 from (p0)) (show RB K u r from (p1))) mf_X7_leftmost kw_585 hG hP hP (ci := 7) (q0 := (9 + 5 * r)) rfl (cw_ring (by omega)) rfl rfl hl.1 ⟨⟨Nat.le_of_ble_eq_true rfl, Nat.le_of_ble_eq_true rfl⟩, Nat.le_of_ble_eq_true rfl, Nat.le_refl _, Nat.le_refl _⟩ rfl dX7_standing_9 (fun z_9 h_9 => ?_)
    have h_9 : z_9 = rx u r 0 ∧ -K ≤ z_9 ∧ z_9 ≤ K := h_9
    refine j_icmp_lt SS (tgt := 41) (x := x) (y := z_9) dX7_standing_12 (by decide) (by omega) (by omega) (fun c_12 => ?_) (fun c_12 => ?_)
    · skip
      refine j_iconst SS dX7_standing_41 ?_
      exact W.iret SS.1 SS.2.1 hr (fun t0 ht hW => ⟨_, rfl, ⟨0, rfl, (Or.inl ⟨rfl, fun q => by first | exact q.1 (by omega) | (have := q.2.1; rw [← h_9.1] at this; omega) | (obtain ⟨a, a1, a2, a3⟩ := q.2.2.1; have := h_17.2.1 a a1 a2; omega) | (have := (h_26.2 y).mpr q.2.2.2.1; omega) | (have := (h_35.2 y).mpr q.2.2.2.2; omega)⟩)⟩, ht⟩) (fun _ h => nomatch h) dX7_standing_42 hlk
    · skip
      refine lv_iload_n SS.1 SS.2.1 dX7_standing_15 rfl (lv_at hl 1 rfl) ?_
      refine lv_aload_n SS.1 SS.2.1 dX7_standing_16 rfl (lv_at hl 0 rfl) ?_
      refine j_vRi SS (As := []) (rest := [.int (J x)]) (c_X7_rightmost3 l D q u r (by omega) K  (show 0 ≤ K ∧ K ≤ 80 from (p0)) (show RB K u r from (p1)) (show 1 ≤ (u.1.2.2.1 r) from (by omega))) mf_X7_rightmost kw_589 hG hP hP (ci := 7) (q0 := (9 + 5 * r)) rfl (cw_ring (by omega)) rfl rfl hl.1 ⟨⟨Nat.le_of_ble_eq_true rfl, Nat.le_of_ble_eq_true rfl⟩, Nat.le_of_ble_eq_true rfl, Nat.le_refl _, Nat.le_refl _⟩ rfl dX7_standing_17 (fun z_17 h_17 => ?_)
      have h_17 : (-K ≤ z_17 ∧ z_17 ≤ K) ∧ (∀ a : Int, 0 ≤ a → a < (u.1.2.2.1 r) → rx u r a ≤ z_17) ∧ ∃ a : Int, 0 ≤ a ∧ a < (u.1.2.2.1 r) ∧ rx u r a = z_17 := h_17
      refine j_icmp_gt SS (tgt := 41) (x := x) (y := z_17) dX7_standing_20 (by decide) (by omega) (by omega) (fun c_20 => ?_) (fun c_20 => ?_)
      · skip
        refine j_iconst SS dX7_standing_41 ?_
        exact W.iret SS.1 SS.2.1 hr (fun t0 ht hW => ⟨_, rfl, ⟨0, rfl, (Or.inl ⟨rfl, fun q => by first | exact q.1 (by omega) | (have := q.2.1; rw [← h_9.1] at this; omega) | (obtain ⟨a, a1, a2, a3⟩ := q.2.2.1; have := h_17.2.1 a a1 a2; omega) | (have := (h_26.2 y).mpr q.2.2.2.1; omega) | (have := (h_35.2 y).mpr q.2.2.2.2; omega)⟩)⟩, ht⟩) (fun _ h => nomatch h) dX7_standing_42 hlk
      · skip
        refine lv_iload_n SS.1 SS.2.1 dX7_standing_23 rfl (lv_at hl 2 rfl) ?_
        refine lv_aload_n SS.1 SS.2.1 dX7_standing_24 rfl (lv_at hl 0 rfl) ?_
        refine lv_iload_n SS.1 SS.2.1 dX7_standing_25 rfl (lv_at hl 1 rfl) ?_
        refine j_vRi SS (As := [.int (J x)]) (rest := [.int (J y)]) (c_X7_lowestAt3 l D q u r (by omega) K x (show 0 ≤ K ∧ K ≤ 80 from (p0)) (show RB K u r from (p1)) (show -200 ≤ x ∧ x ≤ 200 from (p2)) (show 1 ≤ (u.1.2.2.1 r) from (by omega))) mf_X7_lowestAt kw_594 hG hP hP (ci := 7) (q0 := (9 + 5 * r)) rfl (cw_ring (by omega)) rfl rfl hl.1 ⟨⟨Nat.le_of_ble_eq_true rfl, Nat.le_of_ble_eq_true rfl⟩, Nat.le_of_ble_eq_true rfl, Nat.le_refl _, Nat.le_refl _⟩ rfl dX7_standing_26 (fun z_26 h_26 => ?_)
        have h_26 : (-K ≤ z_26 ∧ z_26 ≤ 60000) ∧ (∀ y : Int, z_26 ≤ y ↔ loC u r x y ((u.1.2.2.1 r))) := h_26
        refine j_icmp_lt SS (tgt := 41) (x := y) (y := z_26) dX7_standing_29 (by decide) (by omega) (by omega) (fun c_29 => ?_) (fun c_29 => ?_)
        · skip
          refine j_iconst SS dX7_standing_41 ?_
          exact W.iret SS.1 SS.2.1 hr (fun t0 ht hW => ⟨_, rfl, ⟨0, rfl, (Or.inl ⟨rfl, fun q => by first | exact q.1 (by omega) | (have := q.2.1; rw [← h_9.1] at this; omega) | (obtain ⟨a, a1, a2, a3⟩ := q.2.2.1; have := h_17.2.1 a a1 a2; omega) | (have := (h_26.2 y).mpr q.2.2.2.1; omega) | (have := (h_35.2 y).mpr q.2.2.2.2; omega)⟩)⟩, ht⟩) (fun _ h => nomatch h) dX7_standing_42 hlk
        · skip
          refine lv_iload_n SS.1 SS.2.1 dX7_standing_32 rfl (lv_at hl 2 rfl) ?_
          refine lv_aload_n SS.1 SS.2.1 dX7_standing_33 rfl (lv_at hl 0 rfl) ?_
          refine lv_iload_n SS.1 SS.2.1 dX7_standing_34 rfl (lv_at hl 1 rfl) ?_
          refine j_vRi SS (As := [.int (J x)]) (rest := [.int (J y)]) (c_X7_highestAt3 l D q u r (by omega) K x (show 0 ≤ K ∧ K ≤ 80 from (p0)) (show RB K u r from (p1)) (show -200 ≤ x ∧ x ≤ 200 from (p2)) (show 1 ≤ (u.1.2.2.1 r) from (by omega))) mf_X7_highestAt kw_606 hG hP hP (ci := 7) (q0 := (9 + 5 * r)) rfl (cw_ring (by omega)) rfl rfl hl.1 ⟨⟨Nat.le_of_ble_eq_true rfl, Nat.le_of_ble_eq_true rfl⟩, Nat.le_of_ble_eq_true rfl, Nat.le_refl _, Nat.le_refl _⟩ rfl dX7_standing_35 (fun z_35 h_35 => ?_)
          have h_35 : (-60000 ≤ z_35 ∧ z_35 ≤ K) ∧ (∀ y : Int, y ≤ z_35 ↔ hiC u r x y ((u.1.2.2.1 r))) := h_35
          refine j_icmp_le SS (tgt := 43) (x := y) (y := z_35) dX7_standing_38 (by decide) (by omega) (by omega) (fun c_38 => ?_) (fun c_38 => ?_)
          · skip
            refine j_iconst SS dX7_standing_43 ?_
            refine lv_istore_n (lv' := [(3, .int (J 0)), (0, .ref (q (9 + 5 * r))), (1, .int (J x)), (2, .int (J y))]) SS.1 SS.2.1 dX7_standing_44 rfl hl (by decide) rfl (fun ls hl => ?_)
            have L_45 : ∀ (nn : Nat) (i : Int) (ls : Array Slot) (hl : lv_has ls 4 [(0, .ref (q (9 + 5 * r))), (1, .int (J x)), (2, .int (J y)), (3, .int (J i))]) (i45_0 : 0 ≤ i ∧ i ≤ u.1.2.2.1 r) (i45_1 : ∀ k : Int, 0 ≤ k → k < i → cvv u r k x y ≠ 0), (u.1.2.2.1 r - i).toNat < nn → W pr l en (headSpec (jw yX7_standing cX7_standing 4 (some .int)) (jr 3 68)).room st mi (([.ref (q (9 + 5 * r)), .int (J x), .int (J y)] : List Value).toArray) below meth co st.heap [] 0 0 (MQ below (jRi (fun z => stC u r x y z)) (([.ref (q (9 + 5 * r)), .int (J x), .int (J y)] : List Value).toArray) st 0 0 (fun _ => False)) (F0 mi 45 ls []) := by
              intro nn
              induction nn with
              | zero => intros; omega
              | succ nn ih_45 =>
                intro i ls hl i45_0 i45_1 hm
                refine lv_iload_n SS.1 SS.2.1 dX7_standing_45 rfl (lv_at hl 3 rfl) ?_
                refine lv_aload_n SS.1 SS.2.1 dX7_standing_46 rfl (lv_at hl 0 rfl) ?_
                refine j_getS SS hG hP (9 + 5 * r) (v := .int (J (u.1.2.2.1 r))) (C := RX7) (T := TX7) (N := 3) (cw_ring (by omega)) rfl inX7 2 (by decide) (ref := "GridPolygons$Ring") kw_131 kw_132 rfl dX7_standing_47 ?_
                refine j_icmp_ge SS (tgt := 90) (x := i) (y := (u.1.2.2.1 r)) dX7_standing_50 (by decide) (by omega) (by omega) (fun c_50 => ?_) (fun c_50 => ?_)
                · skip
                  refine j_iconst SS dX7_standing_90 ?_
                  exact W.iret SS.1 SS.2.1 hr (fun t0 ht hW => ⟨_, rfl, ⟨2, rfl, (Or.inr (Or.inr ⟨rfl, ⟨by omega, by rw [← h_9.1]; omega, by obtain ⟨a, a1, a2, a3⟩ := h_17.2.2; exact ⟨a, a1, a2, by omega⟩, (h_26.2 y).mp (by omega), (h_35.2 y).mp (by omega)⟩, fun k h0 h1 => i45_1 k h0 (by omega)⟩))⟩, ht⟩) (fun _ h => nomatch h) dX7_standing_91 hlk
                · skip
                  refine lv_aload_n SS.1 SS.2.1 dX7_standing_53 rfl (lv_at hl 0 rfl) ?_
                  refine lv_iload_n SS.1 SS.2.1 dX7_standing_54 rfl (lv_at hl 3 rfl) ?_
                  refine j_vRi SS (As := [.int (J i)]) (rest := []) (c_X7_sideX l D q u r (by omega) K i (show 0 ≤ K ∧ K ≤ 80 from (p0)) (show RB K u r from (p1)) (show -1000 ≤ i ∧ i ≤ 1000 from (by omega))) mf_X7_sideX kw_529 hG hP hP (ci := 7) (q0 := (9 + 5 * r)) rfl (cw_ring (by omega)) rfl rfl hl.1 ⟨⟨Nat.le_of_ble_eq_true rfl, Nat.le_of_ble_eq_true rfl⟩, Nat.le_of_ble_eq_true rfl, Nat.le_refl _, Nat.le_refl _⟩ rfl dX7_standing_55 (fun z_55 h_55 => ?_)
                  have h_55 : z_55 = dX u r i ∧ -2 * K ≤ z_55 ∧ z_55 ≤ 2 * K := h_55
                  refine lv_iload_n SS.1 SS.2.1 dX7_standing_58 rfl (lv_at hl 2 rfl) ?_
                  refine lv_aload_n SS.1 SS.2.1 dX7_standing_59 rfl (lv_at hl 0 rfl) ?_
                  refine lv_iload_n SS.1 SS.2.1 dX7_standing_60 rfl (lv_at hl 3 rfl) ?_
                  refine j_uRi SS (As := [.int (J i)]) (rest := [.int (J y), .int (J z_55)]) (c_X8_y l D q u r (by omega) i (show -2147483648 ≤ i ∧ i ≤ 2147483647 from (by omega))) mu_7_y kw_503 hG hP hP (ci := 7) (q0 := (9 + 5 * r)) rfl (cw_ring (by omega)) rfl rfl hl.1 ⟨⟨Nat.le_of_ble_eq_true rfl, Nat.le_of_ble_eq_true rfl⟩, Nat.le_of_ble_eq_true rfl, Nat.le_refl _, Nat.le_refl _⟩ rfl dX7_standing_61 (fun z_61 h_61 => ?_)
                  have h_61 : z_61 = ry9 u r i ∧ ∀ K : Int, 0 ≤ K → RB K u r → -K ≤ z_61 ∧ z_61 ≤ K := h_61
                  have hb_61 := h_61.2 K (by omega) (p1)
                  refine j_isub SS (x := y) (y := z_61) dX7_standing_64 ?_
                  refine j_imul SS (x := z_55) (y := (y - z_61)) dX7_standing_65 ?_
                  refine lv_aload_n SS.1 SS.2.1 dX7_standing_66 rfl (lv_at hl 0 rfl) ?_
                  refine lv_iload_n SS.1 SS.2.1 dX7_standing_67 rfl (lv_at hl 3 rfl) ?_
                  refine j_vRi SS (As := [.int (J i)]) (rest := [.int (J (z_55 * (y - z_61)))]) (c_X7_sideY l D q u r (by omega) K i (show 0 ≤ K ∧ K ≤ 80 from (p0)) (show RB K u r from (p1)) (show -1000 ≤ i ∧ i ≤ 1000 from (by omega))) mf_X7_sideY kw_521 hG hP hP (ci := 7) (q0 := (9 + 5 * r)) rfl (cw_ring (by omega)) rfl rfl hl.1 ⟨⟨Nat.le_of_ble_eq_true rfl, Nat.le_of_ble_eq_true rfl⟩, Nat.le_of_ble_eq_true rfl, Nat.le_refl _, Nat.le_refl _⟩ rfl dX7_standing_68 (fun z_68 h_68 => ?_)
                  have h_68 : z_68 = dY u r i ∧ -2 * K ≤ z_68 ∧ z_68 ≤ 2 * K := h_68
                  refine lv_iload_n SS.1 SS.2.1 dX7_standing_71 rfl (lv_at hl 1 rfl) ?_
                  refine lv_aload_n SS.1 SS.2.1 dX7_standing_72 rfl (lv_at hl 0 rfl) ?_
                  refine lv_iload_n SS.1 SS.2.1 dX7_standing_73 rfl (lv_at hl 3 rfl) ?_
                  refine j_uRi SS (As := [.int (J i)]) (rest := [.int (J x), .int (J z_68), .int (J (z_55 * (y - z_61)))]) (c_X8_x l D q u r (by omega) i (show -2147483648 ≤ i ∧ i ≤ 2147483647 from (by omega))) mu_7_x kw_501 hG hP hP (ci := 7) (q0 := (9 + 5 * r)) rfl (cw_ring (by omega)) rfl rfl hl.1 ⟨⟨Nat.le_of_ble_eq_true rfl, Nat.le_of_ble_eq_true rfl⟩, Nat.le_of_ble_eq_true rfl, Nat.le_refl _, Nat.le_refl _⟩ rfl dX7_standing_74 (fun z_74 h_74 => ?_)
                  have h_74 : z_74 = rx u r i ∧ ∀ K : Int, 0 ≤ K → RB K u r → -K ≤ z_74 ∧ z_74 ≤ K := h_74
                  have hb_74 := h_74.2 K (by omega) (p1)
                  refine j_isub SS (x := x) (y := z_74) dX7_standing_77 ?_
                  refine j_imul SS (x := z_68) (y := (x - z_74)) dX7_standing_78 ?_
                  have m1 := mulb (A := 160) (B := 280) (a := z_55) (b := y - z_61) (by omega) (by omega)
                  have m2 := mulb (A := 160) (B := 280) (a := z_68) (b := x - z_74) (by omega) (by omega)
                  refine j_icmp_ne SS (tgt := 84) (x := (z_55 * (y - z_61))) (y := (z_68 * (x - z_74))) dX7_standing_79 (by decide) (by omega) (by omega) (fun c_79 => ?_) (fun c_79 => ?_)
                  · skip
                    refine lv_iinc (v := J (i + 1)) (lv' := [(3, .int (J (i + 1))), (0, .ref (q (9 + 5 * r))), (1, .int (J x)), (2, .int (J y))]) SS.1 SS.2.1 dX7_standing_84 hl (k := 3) rfl (J_add _ _) (by decide) rfl (fun ls hl => ?_)
                    refine lv_goto (tgt := 45) SS.1 SS.2.1 dX7_standing_87 (by decide) ?_
                    exact ih_45 (i + 1) ls (lv_sub hl [1, 2, 3, 0] rfl) (by omega) (fun k h0 h1 => by by_cases e : k = i; (rw [e, show cvv u r i x y = z_55 * (y - z_61) - z_68 * (x - z_74) by rw [h_55.1, h_61.1, h_68.1, h_74.1]; rfl]; omega); exact i45_1 k h0 (by omega)) (by omega)
                  · skip
                    refine j_iconst SS dX7_standing_82 ?_
                    exact W.iret SS.1 SS.2.1 hr (fun t0 ht hW => ⟨_, rfl, ⟨1, rfl, (Or.inr (Or.inl ⟨rfl, ⟨by omega, by rw [← h_9.1]; omega, by obtain ⟨a, a1, a2, a3⟩ := h_17.2.2; exact ⟨a, a1, a2, by omega⟩, (h_26.2 y).mp (by omega), (h_35.2 y).mp (by omega)⟩, i, i45_0.1, by omega, by rw [show cvv u r i x y = z_55 * (y - z_61) - z_68 * (x - z_74) by rw [h_55.1, h_61.1, h_68.1, h_74.1]; rfl]; omega⟩))⟩, ht⟩) (fun _ h => nomatch h) dX7_standing_83 hlk
            exact L_45 ((u.1.2.2.1 r - (0 : Int)).toNat + 1) 0 ls (lv_sub hl [1, 2, 3, 0] rfl) (by omega) (fun k h0 h1 => by omega) (Nat.lt_succ_self _)
          · skip
            refine j_iconst SS dX7_standing_41 ?_
            exact W.iret SS.1 SS.2.1 hr (fun t0 ht hW => ⟨_, rfl, ⟨0, rfl, (Or.inl ⟨rfl, fun q => by first | exact q.1 (by omega) | (have := q.2.1; rw [← h_9.1] at this; omega) | (obtain ⟨a, a1, a2, a3⟩ := q.2.2.1; have := h_17.2.1 a a1 a2; omega) | (have := (h_26.2 y).mpr q.2.2.2.1; omega) | (have := (h_35.2 y).mpr q.2.2.2.2; omega)⟩)⟩, ht⟩) (fun _ h => nomatch h) dX7_standing_42 hlk


theorem sgn_b {p e x : Int} (h : (x - p) * (x - e) ≤ 0) : (p ≤ x ∧ x ≤ e) ∨ (e ≤ x ∧ x ≤ p) := by
  by_cases a : p ≤ x
  · by_cases b : x ≤ e
    · exact Or.inl ⟨a, b⟩
    · by_cases c : x = p
      · exact Or.inr ⟨by omega, by omega⟩
      · have := Int.mul_pos (show 0 < x - p by omega) (show 0 < x - e by omega)
        omega
  · by_cases b : e ≤ x
    · exact Or.inr ⟨b, by omega⟩
    · have := Int.mul_pos_of_neg_of_neg (show x - p < 0 by omega) (show x - e < 0 by omega)
      omega
theorem b_sgn {p e x : Int} (h : (p ≤ x ∧ x ≤ e) ∨ (e ≤ x ∧ x ≤ p)) : (x - p) * (x - e) ≤ 0 := by
  rcases h with ⟨a, b⟩ | ⟨a, b⟩
  · have := Int.mul_nonneg (show 0 ≤ x - p by omega) (show 0 ≤ e - x by omega)
    have e1 : (x - p) * (x - e) = - ((x - p) * (e - x)) := by grind
    omega
  · have := Int.mul_nonneg (show 0 ≤ p - x by omega) (show 0 ≤ x - e by omega)
    have e1 : (x - p) * (x - e) = - ((p - x) * (x - e)) := by grind
    omega
theorem le_m {k a b : Int} (hk : 0 < k) (h : 0 ≤ (b - a) * k) : a ≤ b := by
  by_cases e : a ≤ b
  · exact e
  · have := Int.mul_pos (show 0 < a - b by omega) hk
    have e1 : (b - a) * k = - ((a - b) * k) := by grind
    omega
/-- what bounds both ends bounds the segment -/
theorem seg_max {px py ex ey x y α β M : Int} (g0 : cx (ex - px) (ey - py) (x - px) (y - py) = 0) (b1 : (x - px) * (x - ex) ≤ 0) (b2 : (y - py) * (y - ey) ≤ 0) (h1 : α * px + β * py ≤ M) (h2 : α * ex + β * ey ≤ M) : α * x + β * y ≤ M := by
  have s1 := sgn_b b1
  have s2 := sgn_b b2
  have i1 : (M - (α * x + β * y)) * (ex - px) = (M - (α * px + β * py)) * (ex - x) + (M - (α * ex + β * ey)) * (x - px) - β * cx (ex - px) (ey - py) (x - px) (y - py) := by unfold cx; grind
  have i2 : (M - (α * x + β * y)) * (ey - py) = (M - (α * px + β * py)) * (ey - y) + (M - (α * ex + β * ey)) * (y - py) + α * cx (ex - px) (ey - py) (x - px) (y - py) := by unfold cx; grind
  rw [g0, Int.mul_zero] at i1 i2
  rcases (show 0 < ex - px ∨ 0 < px - ex ∨ ex = px by omega) with q | q | q
  · refine le_m q ?_
    have m1 := Int.mul_nonneg (show 0 ≤ M - (α * px + β * py) by omega) (show 0 ≤ ex - x by omega)
    have m2 := Int.mul_nonneg (show 0 ≤ M - (α * ex + β * ey) by omega) (show 0 ≤ x - px by omega)
    omega
  · refine le_m q ?_
    have m1 := Int.mul_nonneg (show 0 ≤ M - (α * px + β * py) by omega) (show 0 ≤ x - ex by omega)
    have m2 := Int.mul_nonneg (show 0 ≤ M - (α * ex + β * ey) by omega) (show 0 ≤ px - x by omega)
    have i3 : (M - (α * x + β * y)) * (px - ex) = (M - (α * px + β * py)) * (x - ex) + (M - (α * ex + β * ey)) * (px - x) := by grind
    omega
  · rcases (show 0 < ey - py ∨ 0 < py - ey ∨ ey = py by omega) with r | r | r
    · refine le_m r ?_
      have m1 := Int.mul_nonneg (show 0 ≤ M - (α * px + β * py) by omega) (show 0 ≤ ey - y by omega)
      have m2 := Int.mul_nonneg (show 0 ≤ M - (α * ex + β * ey) by omega) (show 0 ≤ y - py by omega)
      omega
    · refine le_m r ?_
      have m1 := Int.mul_nonneg (show 0 ≤ M - (α * px + β * py) by omega) (show 0 ≤ y - ey by omega)
      have m2 := Int.mul_nonneg (show 0 ≤ M - (α * ex + β * ey) by omega) (show 0 ≤ py - y by omega)
      have i3 : (M - (α * x + β * y)) * (py - ey) = (M - (α * px + β * py)) * (y - ey) + (M - (α * ex + β * ey)) * (py - y) := by grind
      omega
    · rw [show x = px by omega, show y = py by omega]
      exact h1
/-- the next corner's number -/
def nj (n : Int) (a : Nat) : Nat := if (a : Int) + 1 < n then a + 1 else 0
theorem nj_n {X : Nat → Int} {n : Int} {a : Nat} : nxt X n a = X (nj n a) := by unfold nxt nj; split <;> rfl
theorem nj_l {n : Int} {a : Nat} (h : 0 < n) : (nj n a : Int) < n := by unfold nj; split <;> omega
theorem w1 {S : Int → Int → Prop} {n x y : Int} {X Y : Nat → Int} (h : HS S n X Y) (hn : 2 ≤ n) (h0 : X 0 ≤ x) (h1 : ∃ a : Nat, (a : Int) < n ∧ x ≤ X a) (hg : ∀ a : Nat, (a : Int) < n → nxt X n a - X a ≠ 0 → 0 ≤ cx (nxt X n a - X a) (nxt Y n a - Y a) (x - X a) (y - Y a)) : ∀ a : Nat, (a : Int) < n → 0 ≤ cx (nxt X n a - X a) (nxt Y n a - Y a) (x - X a) (y - Y a) := by
  have hc := HS_S h
  rcases h with ⟨h, _⟩ | ⟨p1, p2, p3, ⟨p4, p5⟩ | ⟨p4, p5, p6⟩⟩
  · omega
  · omega
  · intro a ha
    by_cases e : nxt X n a - X a = 0
    · have E := p6 a ha
      have n1 := E.1
      obtain ⟨b, b1, b2⟩ := h1
      have qb := (E.2 _ _ (hc b b1)).1
      have q0 := (E.2 _ _ (hc 0 (by omega))).1
      unfold cx at qb q0 ⊢
      rw [e, Int.zero_mul] at qb q0 ⊢
      rcases (show 0 < nxt Y n a - Y a ∨ 0 < -(nxt Y n a - Y a) by omega) with s | s
      · have t : X b ≤ X a := le_m s (by
          have e1 : (X a - X b) * (nxt Y n a - Y a) = 0 - (nxt Y n a - Y a) * (X b - X a) := by grind
          omega)
        have m := Int.mul_nonneg (show 0 ≤ nxt Y n a - Y a by omega) (show 0 ≤ X a - x by omega)
        have e1 : 0 - (nxt Y n a - Y a) * (x - X a) = (nxt Y n a - Y a) * (X a - x) := by grind
        omega
      · have t : X a ≤ X 0 := le_m s (by
          have e1 : (X 0 - X a) * -(nxt Y n a - Y a) = 0 - (nxt Y n a - Y a) * (X 0 - X a) := by grind
          omega)
        have m := Int.mul_nonneg (show 0 ≤ -(nxt Y n a - Y a) by omega) (show 0 ≤ x - X a by omega)
        have e1 : 0 - (nxt Y n a - Y a) * (x - X a) = -(nxt Y n a - Y a) * (x - X a) := by grind
        omega
    · exact hg a ha e
/-- with three corners or more each corner turns left -/
theorem w3 {S : Int → Int → Prop} {n : Int} {X Y : Nat → Int} (h : HS S n X Y) (hn : 3 ≤ n) {a b : Nat} (ha : (a : Int) < n) (hb : b = nj n a) : 0 < cx (X b - X a) (Y b - Y a) (X (nj n b) - X b) (Y (nj n b) - Y b) := by
  have hc := HS_S h
  rcases h with ⟨h, _⟩ | ⟨p1, p2, p3, ⟨p4, p5⟩ | ⟨p4, p5, p6⟩⟩
  · omega
  · omega
  · obtain ⟨c, ec⟩ : ∃ c, c = nj n b := ⟨_, rfl⟩
    rw [← ec]
    have hbn : (b : Int) < n := by rw [hb]; exact nj_l (by omega)
    have hcn : (c : Int) < n := by rw [ec]; exact nj_l (by omega)
    have Ea := p6 a ha
    have Eb := p6 b hbn
    rw [nj_n, nj_n, ← hb] at Ea
    rw [nj_n, nj_n, ← ec] at Eb
    have q1 := Ea.2 _ _ (hc c hcn)
    rw [cx_sh] at q1
    by_cases z : cx (X b - X a) (Y b - Y a) (X c - X b) (Y c - Y b) = 0
    · exfalso
      have b3 := q1.2 z
      have q4 := Eb.2 _ _ (hc a ha)
      have f4 : cx (X c - X b) (Y c - Y b) (X a - X b) (Y a - Y b) = cx (X b - X a) (Y b - Y a) (X c - X b) (Y c - Y b) := by unfold cx; grind
      rw [f4] at q4
      have b4 := q4.2 z
      have n1 := Ea.1
      have eg : X c = X a ∧ Y c = Y a := by unfold lxn at b3 b4; omega
      -- all lie between the two
      have all : ∀ p q : Int, S p q → cx (X b - X a) (Y b - Y a) (p - X a) (q - Y a) = 0 := fun p q s => by
        have r1 := (Ea.2 p q s).1
        have r2 := (Eb.2 p q s).1
        rw [eg.1, eg.2] at r2
        have f2 : cx (X a - X b) (Y a - Y b) (p - X b) (q - Y b) = - cx (X b - X a) (Y b - Y a) (p - X a) (q - Y a) := by unfold cx; grind
        omega
      have btw : ∀ p q : Int, S p q → (lxn (p - X a) (q - Y a) ∧ lxn (X b - p) (Y b - q)) ∨ (lxn (X a - p) (Y a - q) ∧ lxn (p - X b) (q - Y b)) := fun p q s => (Ea.2 p q s).2 (all p q s)
      have oA := p3 _ _ (hc a ha)
      have oB := p3 _ _ (hc b hbn)
      have o0 := btw _ _ p2
      have hor : (X 0 = X a ∧ Y 0 = Y a) ∨ (X 0 = X b ∧ Y 0 = Y b) := by unfold lxn at oA oB o0; omega
      rcases hor with w | w
      · have a0 : a = 0 := by
          by_cases e : a = 0
          · exact e
          · have := (p5 a (by omega) ha).2; omega
        have c0 : c = 0 := by
          by_cases e : c = 0
          · exact e
          · have := (p5 c (by omega) hcn).2; omega
        unfold nj at hb ec
        rw [if_pos (by omega)] at hb
        rw [if_pos (by omega)] at ec
        omega
      · have b0 : b = 0 := by
          by_cases e : b = 0
          · exact e
          · have := (p5 b (by omega) hbn).2; omega
        subst b0
        have c1 : c = 1 := by unfold nj at ec; rw [if_pos (by omega)] at ec; omega
        subst c1
        have E1 := p6 1 (by omega)
        have x2 : nxt X n 1 = X 2 ∧ nxt Y n 1 = Y 2 := by unfold nxt; rw [if_pos (by omega), if_pos (by omega)]; exact ⟨rfl, rfl⟩
        rw [x2.1, x2.2] at E1
        have d2 := (p5 2 (by omega) (by omega)).2
        have t0 := E1.2 _ _ p2
        have a2 := all _ _ (hc 2 (by omega))
        have f5 : cx (X 2 - X 1) (Y 2 - Y 1) (X 0 - X 1) (Y 0 - Y 1) = - cx (X 0 - X a) (Y 0 - Y a) (X 2 - X a) (Y 2 - Y a) := by rw [eg.1, eg.2]; unfold cx; grind
        have b5 := t0.2 (by omega)
        have o2 := p3 _ _ (hc 2 (by omega))
        have o1 := p3 _ _ (hc 1 (by omega))
        have d1 := (p5 1 (by omega) (by omega)).2
        unfold lxn at b5 o2 o1
        omega
    · omega
theorem par_x {a1 a2 dx dy wx wy : Int} (h : cx dx dy wx wy = 0) : cx a1 a2 wx wy * dx = cx a1 a2 dx dy * wx ∧ cx a1 a2 wx wy * dy = cx a1 a2 dx dy * wy := by
  have e1 : cx a1 a2 wx wy * dx = cx a1 a2 dx dy * wx + a1 * cx dx dy wx wy := by unfold cx; grind
  have e2 : cx a1 a2 wx wy * dy = cx a1 a2 dx dy * wy + a2 * cx dx dy wx wy := by unfold cx; grind
  rw [h, Int.mul_zero, Int.add_zero] at e1 e2
  exact ⟨e1, e2⟩
/-- k c = m w with c above 0 and k at least 0: w has the sign of m -/
theorem sg_x {k c m w : Int} (hk : 0 ≤ k) (hc : 0 < c) (h : k * m = c * w) : (0 < m → 0 ≤ w) ∧ (m < 0 → w ≤ 0) ∧ (m = 0 → w = 0) := by
  refine ⟨fun hm => ?_, fun hm => ?_, fun hm => ?_⟩
  · have := Int.mul_nonneg hk (show 0 ≤ m by omega)
    exact le_m hc (by rw [Int.sub_zero, Int.mul_comm]; omega)
  · have := Int.mul_nonneg hk (show 0 ≤ -m by omega)
    rw [Int.mul_neg] at this
    exact le_m hc (by rw [Int.sub_mul, Int.zero_mul, Int.mul_comm w c]; omega)
  · rw [hm, Int.mul_zero] at h
    by_cases e : w = 0
    · exact e
    · have := Int.mul_ne_zero (show c ≠ 0 by omega) e
      omega
/-- left of all sides and in line with one: on it -/
theorem w4 {S : Int → Int → Prop} {n x y : Int} {X Y : Nat → Int} (h : HS S n X Y) (hn : 3 ≤ n) (hg : ∀ a : Nat, (a : Int) < n → 0 ≤ cx (nxt X n a - X a) (nxt Y n a - Y a) (x - X a) (y - Y a)) {a : Nat} (ha : (a : Int) < n) (h0 : cx (nxt X n a - X a) (nxt Y n a - Y a) (x - X a) (y - Y a) = 0) : ((x - X a) * (x - nxt X n a) ≤ 0 ∧ (y - Y a) * (y - nxt Y n a) ≤ 0) ∧ ((lxn (x - X a) (y - Y a) ∧ lxn (nxt X n a - x) (nxt Y n a - y)) ∨ (lxn (X a - x) (Y a - y) ∧ lxn (x - nxt X n a) (y - nxt Y n a))) := by
  obtain ⟨z, hz, ez⟩ : ∃ z : Nat, (z : Int) < n ∧ nj n z = a := by
    by_cases e : a = 0
    · exact ⟨(n - 1).toNat, by omega, by unfold nj; rw [if_neg (by omega), e]⟩
    · exact ⟨a - 1, by omega, by unfold nj; rw [if_pos (by omega)]; omega⟩
  have hbn : (nj n a : Int) < n := nj_l (by omega)
  have T1 := w3 h hn ha rfl
  have T2 := w3 h hn hz rfl
  rw [ez] at T2
  have gb := hg _ hbn
  have gz := hg _ hz
  rw [nj_n, nj_n] at gb gz h0 ⊢
  rw [ez, cx_sh] at gz
  obtain ⟨b, eb⟩ : ∃ b, b = nj n a := ⟨_, rfl⟩
  rw [← eb] at T1 T2 gb h0 ⊢
  have P1 := par_x (a1 := X a - X z) (a2 := Y a - Y z) h0
  have h02 : cx (X b - X a) (Y b - Y a) (x - X b) (y - Y b) = 0 := by rw [← cx_sh]; exact h0
  have P2 := par_x (a1 := X (nj n b) - X b) (a2 := Y (nj n b) - Y b) h02
  have f1 : cx (X (nj n b) - X b) (Y (nj n b) - Y b) (X b - X a) (Y b - Y a) = - cx (X b - X a) (Y b - Y a) (X (nj n b) - X b) (Y (nj n b) - Y b) := by unfold cx; grind
  rw [f1, Int.neg_mul, Int.neg_mul] at P2
  have A1 := sg_x gz T2 P1.1
  have A2 := sg_x gz T2 P1.2
  have B1 := sg_x (w := X b - x) gb T1 (by rw [P2.1]; grind)
  have B2 := sg_x (w := Y b - y) gb T1 (by rw [P2.2]; grind)
  refine ⟨⟨b_sgn (by omega), b_sgn (by omega)⟩, ?_⟩
  have ly : X b - X a ≠ 0 → x = X a → y = Y a := fun q1 q2 => by
    unfold cx at h0
    rw [q2, Int.sub_self, Int.mul_zero] at h0
    by_cases e : y = Y a
    · exact e
    · have := Int.mul_ne_zero q1 (show y - Y a ≠ 0 by omega)
      omega
  have lz : X b - X a ≠ 0 → x = X b → y = Y b := fun q1 q2 => by
    unfold cx at h02
    rw [q2, Int.sub_self, Int.mul_zero] at h02
    by_cases e : y = Y b
    · exact e
    · have := Int.mul_ne_zero q1 (show y - Y b ≠ 0 by omega)
      omega
  unfold lxn
  rcases (show 0 < X b - X a ∨ X b - X a < 0 ∨ X b - X a = 0 by omega) with q | q | q
  · have l1 := ly (by omega); have l2 := lz (by omega); omega
  · have l1 := ly (by omega); have l2 := lz (by omega); omega
  · omega
/-- left of all sides: in the box -/
theorem w5 {S : Int → Int → Prop} {n x y : Int} {X Y : Nat → Int} (h : HS S n X Y) (hn : 3 ≤ n) (hg : ∀ a : Nat, (a : Int) < n → 0 ≤ cx (nxt X n a - X a) (nxt Y n a - Y a) (x - X a) (y - Y a)) : X 0 ≤ x ∧ (∃ a : Nat, (a : Int) < n ∧ x ≤ X a) ∧ (∃ a : Nat, (a : Int) < n ∧ Y a ≤ y) ∧ ∃ a : Nat, (a : Int) < n ∧ y ≤ Y a := by
  have k4 : ∀ a : Nat, (a : Int) < n → _ → _ := fun a ha h0 => (w4 h hn hg ha h0).2
  have hc := HS_S h
  rcases h with ⟨h, _⟩ | ⟨h1, h2, h3, ⟨h4, h5⟩ | ⟨h4, h5, h6⟩⟩
  · omega
  · omega
  · have E : ∀ a : Nat, (a : Int) < n → edS (fun p q => S p q ∨ (p = x ∧ q = y)) (X a) (Y a) (nxt X n a) (nxt Y n a) := fun a ha => by
      refine ⟨(h6 a ha).1, fun p q s => ?_⟩
      rcases s with s | ⟨rfl, rfl⟩
      · exact (h6 a ha).2 p q s
      · exact ⟨hg a ha, k4 a ha⟩
    have C : ∀ a : Nat, (a : Int) < n → S (X a) (Y a) ∨ (X a = x ∧ Y a = y) := fun a ha => Or.inl (hc a ha)
    have O : (fun p q => S p q ∨ (p = x ∧ q = y)) x y := Or.inr ⟨rfl, rfl⟩
    refine ⟨?_, ?_, ?_, ?_⟩
    · have q := EDG_max (α := -1) (β := 0) (M := - X 0) h1 E C (fun a ha => by have := h3 _ _ (hc a ha); unfold lxn at this; omega) O
      omega
    · apply Classical.byContradiction
      intro w
      have q := EDG_max (α := 1) (β := 0) (M := x - 1) h1 E C (fun a ha => by
        have : ¬ x ≤ X a := fun z => w ⟨a, ha, z⟩
        omega) O
      omega
    · apply Classical.byContradiction
      intro w
      have q := EDG_max (α := 0) (β := -1) (M := - y - 1) h1 E C (fun a ha => by
        have : ¬ Y a ≤ y := fun z => w ⟨a, ha, z⟩
        omega) O
      omega
    · apply Classical.byContradiction
      intro w
      have q := EDG_max (α := 0) (β := 1) (M := y - 1) h1 E C (fun a ha => by
        have : ¬ y ≤ Y a := fun z => w ⟨a, ha, z⟩
        omega) O
      omega


theorem nxt_m {v : MS} {s : Int} {a : Nat} (ha : (a : Int) < mN v s) : nxt (fun b => mX v s b) (mN v s) a = mX v s ((a : Int) + 1) ∧ nxt (fun b => mY v s b) (mN v s) a = mY v s ((a : Int) + 1) := by
  unfold nxt
  by_cases e : (a : Int) + 1 < mN v s
  · rw [if_pos e, if_pos e]; exact ⟨rfl, rfl⟩
  · rw [if_neg e, if_neg e, show (a : Int) + 1 = mN v s by omega, mX_w.1, mX_w.2]; exact ⟨rfl, rfl⟩
theorem wcr_n {v : MS} {s x y : Int} {a : Nat} (ha : (a : Int) < mN v s) : cx (nxt (fun b => mX v s b) (mN v s) a - mX v s a) (nxt (fun b => mY v s b) (mN v s) a - mY v s a) (x - mX v s a) (y - mY v s a) = wcr v s a x y := by
  rw [(nxt_m ha).1, (nxt_m ha).2]; rfl
def inM (v : MS) (s x y : Int) : Prop := mN v s ≠ 0 ∧ mX v s 0 ≤ x ∧ (∃ a : Nat, (a : Int) < mN v s ∧ x ≤ mX v s a) ∧ ((∃ a : Nat, (a : Int) < mN v s ∧ mY v s a ≤ y) ∧ ∃ a : Nat, (a : Int) < mN v s ∧ y ≤ mY v s a) ∧ ∀ a : Nat, (a : Int) < mN v s → mX v s ((a : Int) + 1) - mX v s a ≠ 0 → 0 ≤ wcr v s a x y
theorem EQS_v {u : CS} {v : MS} (hC : CI u) (h : EQS u v) {s : Int} (hs : 0 ≤ s ∧ s ≤ 7) {x y : Int} : ∀ k : Int, 0 ≤ k → k < mN v s → cvv u s.toNat k x y = wcr v s k x y := fun k h0 h1 => by
  obtain ⟨_, e2⟩ := EQS_x hC h hs
  unfold cvv wcr
  rw [(EQS_d hC h hs k h0 h1).1, (EQS_d hC h hs k h0 h1).2, (e2 k h0 h1).1, (e2 k h0 h1).2]
theorem EQS_in {u : CS} {v : MS} (hC : CI u) (h : EQS u v) {s : Int} (hs : 0 ≤ s ∧ s ≤ 7) {x y : Int} : inC u s.toNat x y ↔ inM v s x y := by
  obtain ⟨e1, e2⟩ := EQS_x hC h hs
  have d := EQS_d hC h hs
  have kv := EQS_v hC h hs (x := x) (y := y)
  have n0 := CI_n hC hs
  unfold inC inM loC hiC
  rw [e1]
  constructor
  · rintro ⟨q1, q2, ⟨a, a1, a2, a3⟩, ⟨⟨b, b1, b2, b3⟩, q3⟩, ⟨c, c1, c2, c3⟩, q4⟩
    refine ⟨q1, by rw [← (e2 0 (by omega) (by omega)).1]; exact q2, ⟨a.toNat, by omega, ?_⟩, ⟨⟨b.toNat, by omega, ?_⟩, ⟨c.toNat, by omega, ?_⟩⟩, fun k hk hd => ?_⟩
    · rw [show ((a.toNat : Nat) : Int) = a by omega, ← (e2 a a1 a2).1]; exact a3
    · rw [show ((b.toNat : Nat) : Int) = b by omega, ← (e2 b b1 b2).2]; exact b3
    · rw [show ((c.toNat : Nat) : Int) = c by omega, ← (e2 c c1 c2).2]; exact c3
    · rw [← kv k (by omega) hk]
      rw [← (d k (by omega) hk).1] at hd
      by_cases w : 0 < dX u s.toNat k
      · exact q3 k (by omega) hk w
      · exact q4 k (by omega) hk (by omega)
  · rintro ⟨q1, q2, ⟨a, a1, a2⟩, ⟨⟨b, b1, b2⟩, ⟨c, c1, c2⟩⟩, q3⟩
    have q4 : ∀ k : Int, 0 ≤ k → k < mN v s → dX u s.toNat k ≠ 0 → 0 ≤ cvv u s.toNat k x y := fun k h0 h1 hd => by
      rw [kv k h0 h1]
      have w := q3 k.toNat (by omega)
      rw [show ((k.toNat : Nat) : Int) = k by omega, ← (d k h0 h1).1] at w
      exact w hd
    refine ⟨q1, by rw [(e2 0 (by omega) (by omega)).1]; exact q2, ⟨a, by omega, a1, by rw [(e2 a (by omega) a1).1]; exact a2⟩, ⟨⟨b, by omega, b1, by rw [(e2 b (by omega) b1).2]; exact b2⟩, fun k h0 h1 hd => q4 k h0 h1 (by omega)⟩, ⟨c, by omega, c1, by rw [(e2 c (by omega) c1).2]; exact c2⟩, fun k h0 h1 hd => q4 k h0 h1 (by omega)⟩
theorem wOn_in {v : MS} {s x y : Int} (h : HS (SP v s) (mN v s) (fun a => mX v s a) (fun a => mY v s a)) (hn : 2 ≤ mN v s) (w : wOn v s x y (mN v s)) : inM v s x y := by
  obtain ⟨i, i0, i1, g0, b1, b2⟩ := w
  have hc := HS_S h
  obtain ⟨a, ea⟩ : ∃ a : Nat, (a : Int) = i := ⟨i.toNat, by omega⟩
  subst ea
  have nm := nxt_m i1
  have hj := nj_l (n := mN v s) (a := a) (by omega)
  have nx : mX v s ((a : Int) + 1) = mX v s (nj (mN v s) a) ∧ mY v s ((a : Int) + 1) = mY v s (nj (mN v s) a) := ⟨by rw [← nm.1, nj_n], by rw [← nm.2, nj_n]⟩
  rw [nx.1] at b1
  rw [nx.2] at b2
  unfold wcr at g0
  rw [nx.1, nx.2] at g0
  have g1 : cx (mX v s (nj (mN v s) a) - mX v s a) (mY v s (nj (mN v s) a) - mY v s a) (x - mX v s a) (y - mY v s a) = 0 := g0
  have s1 := sgn_b b1
  have s2 := sgn_b b2
  rcases h with ⟨h, _⟩ | ⟨p1, p2, p3, ⟨p4, p5⟩ | ⟨p4, p5, p6⟩⟩
  · omega
  · omega
  · have ka := p3 _ _ (hc a i1)
    have kb := p3 _ _ (hc _ hj)
    refine ⟨by omega, ?_, ?_, ⟨?_, ?_⟩, fun k hk _ => ?_⟩
    · have l1 : mX v s 0 ≤ mX v s a := by have t := ka; unfold lxn at t; have e : (fun b : Nat => mX v s b) 0 = mX v s 0 := rfl; rw [e] at t; omega
      have l2 : mX v s 0 ≤ mX v s (nj (mN v s) a) := by have t := kb; unfold lxn at t; have e : (fun b : Nat => mX v s b) 0 = mX v s 0 := rfl; rw [e] at t; omega
      omega
    · rcases s1 with q | q
      · exact ⟨_, hj, q.2⟩
      · exact ⟨a, i1, q.2⟩
    · rcases s2 with q | q
      · exact ⟨a, i1, q.1⟩
      · exact ⟨_, hj, q.1⟩
    · rcases s2 with q | q
      · exact ⟨_, hj, q.2⟩
      · exact ⟨a, i1, q.2⟩
    · have E := p6 k hk
      have qa := (E.2 _ _ (hc a i1)).1
      have qb := (E.2 _ _ (hc _ hj)).1
      rw [← wcr_n hk]
      generalize nxt (fun b => mX v s b) (mN v s) k - mX v s k = dx at qa qb ⊢
      generalize nxt (fun b => mY v s b) (mN v s) k - mY v s k = dy at qa qb ⊢
      have f : ∀ p q : Int, cx dx dy (p - mX v s k) (q - mY v s k) = (dy * mX v s k + -dx * mY v s k) - (dy * p + -dx * q) := fun p q => by unfold cx; grind
      rw [f] at qa qb ⊢
      have m := seg_max (α := dy) (β := -dx) (M := dy * mX v s k + -dx * mY v s k) g1 b1 b2 (by omega) (by omega)
      omega
/-- both sides tell alike where a point lies -/
theorem EQ_st {u : CS} {v : MS} (hC : CI u) (h : EQS u v) {s : Int} (hs : 0 ≤ s ∧ s ≤ 7) {x y z z' : Int} (hc : stC u s.toNat x y z) (hm : wR v s x y z') : z = z' := by
  obtain ⟨e1, e2⟩ := EQS_x hC h hs
  have kv := EQS_v hC h hs (x := x) (y := y)
  have n0 := CI_n hC hs
  have hH := (h s.toNat (by omega)).2.2
  rw [show ((s.toNat : Nat) : Int) = s by omega] at hH
  unfold stC at hc
  rw [EQS_in hC h hs, e1] at hc
  have hc2 : (z = 0 ∧ ¬ inM v s x y) ∨ (z = 1 ∧ inM v s x y ∧ ∃ i : Int, 0 ≤ i ∧ i < mN v s ∧ wcr v s i x y = 0) ∨ (z = 2 ∧ inM v s x y ∧ ∀ i : Int, 0 ≤ i → i < mN v s → wcr v s i x y ≠ 0) := by
    rcases hc with q | ⟨q1, q2, i, i0, i1, q3⟩ | ⟨q1, q2, q3⟩
    · exact Or.inl q
    · exact Or.inr (Or.inl ⟨q1, q2, i, i0, i1, by rw [← kv i i0 i1]; exact q3⟩)
    · exact Or.inr (Or.inr ⟨q1, q2, fun i i0 i1 => by rw [← kv i i0 i1]; exact q3 i i0 i1⟩)
  by_cases c0 : mN v s = 0
  · have : ¬ inM v s x y := fun q => q.1 c0
    rcases hc2 with q | q | q
    · unfold wR at hm; omega
    · exact absurd q.2.1 this
    · exact absurd q.2.1 this
  by_cases c1 : mN v s = 1
  · have m1 : mX v s 1 = mX v s 0 ∧ mY v s 1 = mY v s 0 := by
      have := @mX_w v s
      rw [c1] at this
      exact this
    have w0 : wcr v s 0 x y = 0 := by
      unfold wcr
      rw [show (0 : Int) + 1 = 1 from rfl, m1.1, m1.2, Int.sub_self, Int.sub_self, Int.zero_mul, Int.zero_mul]; rfl
    have hin : inM v s x y ↔ mX v s 0 = x ∧ mY v s 0 = y := by
      constructor
      · rintro ⟨_, q2, ⟨a, a1, a2⟩, ⟨⟨b, b1, b2⟩, ⟨c, c3, c4⟩⟩, _⟩
        rw [show ((a : Nat) : Int) = 0 by omega] at a2
        rw [show ((b : Nat) : Int) = 0 by omega] at b2
        rw [show ((c : Nat) : Int) = 0 by omega] at c4
        omega
      · rintro ⟨q1, q2⟩
        refine ⟨c0, by omega, ⟨0, by omega, ?_⟩, ⟨⟨0, by omega, ?_⟩, ⟨0, by omega, ?_⟩⟩, fun k hk hd => ?_⟩
        · show x ≤ mX v s 0; omega
        · show mY v s 0 ≤ y; omega
        · show y ≤ mY v s 0; omega
        · rw [show ((k : Nat) : Int) = 0 by omega, w0]; omega
    rw [hin] at hc2
    rcases hm with ⟨_, q⟩ | ⟨q, _⟩
    · rcases hc2 with w | w | ⟨_, _, w⟩
      · rcases q with q | q
        · exact absurd q.2.2 w.2
        · omega
      · rcases q with q | q
        · omega
        · exact absurd ⟨c1, w.2.1⟩ q.2
      · exact absurd w0 (w 0 (by omega) (by omega))
    · omega
  have hm2 : (z' = 1 ∧ wOn v s x y (mN v s)) ∨ (z' = 2 ∧ ¬ wOn v s x y (mN v s) ∧ wIn v s x y (mN v s) ∧ 2 < mN v s) ∨ (z' = 0 ∧ ¬ wOn v s x y (mN v s) ∧ ¬ (wIn v s x y (mN v s) ∧ 2 < mN v s)) := by
    rcases hm with ⟨q, _⟩ | ⟨_, q⟩
    · omega
    · exact q
  have on_in := wOn_in (x := x) (y := y) hH (by omega)
  have in_all : inM v s x y → wIn v s x y (mN v s) := fun q i i0 i1 => by
    have w := w1 (x := x) (y := y) hH (by omega) q.2.1 q.2.2.1 (fun a ha hd => by
      rw [wcr_n ha]
      rw [(nxt_m ha).1] at hd
      exact q.2.2.2.2 a ha hd) i.toNat (by omega)
    rw [wcr_n (by omega), show ((i.toNat : Nat) : Int) = i by omega] at w
    exact w
  by_cases c2 : mN v s = 2
  · have m2 : mX v s 2 = mX v s 0 ∧ mY v s 2 = mY v s 0 := by
      have := @mX_w v s
      rw [c2] at this
      exact this
    have opp : wcr v s 1 x y = - wcr v s 0 x y := by
      unfold wcr
      rw [show (1 : Int) + 1 = 2 from rfl, show (0 : Int) + 1 = 1 from rfl, m2.1, m2.2]
      grind
    have in_on : inM v s x y → wcr v s 0 x y = 0 ∧ wOn v s x y (mN v s) := fun q => by
      have a0 := in_all q 0 (by omega) (by omega)
      have a1 := in_all q 1 (by omega) (by omega)
      have z0 : wcr v s 0 x y = 0 := by omega
      refine ⟨z0, 0, by omega, by omega, z0, ?_⟩
      obtain ⟨_, q2, ⟨a, a1, a2⟩, ⟨⟨b, b1, b2⟩, ⟨c, c3, c4⟩⟩, _⟩ := q
      unfold wBt
      rw [show (0 : Int) + 1 = 1 from rfl]
      have l0 : mX v s 0 ≤ mX v s 1 := by
        rcases hH with ⟨hH, _⟩ | ⟨p1, p2, p3, _⟩
        · omega
        · have := p3 (mX v s 1) (mY v s 1) ⟨1, by omega, rfl, rfl⟩
          unfold lxn at this
          have e : (fun a : Nat => mX v s a) 0 = mX v s 0 := rfl
          rw [e] at this
          omega
      have va : mX v s a = mX v s 0 ∨ mX v s a = mX v s 1 := by
        rcases (show a = 0 ∨ a = 1 by omega) with e | e
        · exact Or.inl (by rw [e]; rfl)
        · exact Or.inr (by rw [e]; rfl)
      have vb : mY v s b = mY v s 0 ∨ mY v s b = mY v s 1 := by
        rcases (show b = 0 ∨ b = 1 by omega) with e | e
        · exact Or.inl (by rw [e]; rfl)
        · exact Or.inr (by rw [e]; rfl)
      have vc : mY v s c = mY v s 0 ∨ mY v s c = mY v s 1 := by
        rcases (show c = 0 ∨ c = 1 by omega) with e | e
        · exact Or.inl (by rw [e]; rfl)
        · exact Or.inr (by rw [e]; rfl)
      exact ⟨b_sgn (by omega), b_sgn (by omega)⟩
    rcases hc2 with w | w | ⟨_, w1, w2⟩
    · rcases hm2 with q | q | q
      · exact absurd (on_in q.2) w.2
      · omega
      · omega
    · have := (in_on w.2.1).2
      rcases hm2 with q | q | q
      · omega
      · exact absurd this q.2.1
      · exact absurd this q.2.1
    · exact absurd (in_on w1).1 (w2 0 (by omega) (by omega))
  · have hg : wIn v s x y (mN v s) → ∀ a : Nat, (a : Int) < mN v s → 0 ≤ cx (nxt (fun b => mX v s b) (mN v s) a - mX v s a) (nxt (fun b => mY v s b) (mN v s) a - mY v s a) (x - mX v s a) (y - mY v s a) := fun q a ha => by
      rw [wcr_n ha]; exact q a (by omega) ha
    have all_in : wIn v s x y (mN v s) → inM v s x y := fun q => by
      obtain ⟨k1, k2, k3, k4⟩ := w5 (x := x) (y := y) hH (by omega) (hg q)
      exact ⟨c0, k1, k2, ⟨k3, k4⟩, fun a ha _ => q a (by omega) ha⟩
    have z_on : inM v s x y → ∀ i : Int, 0 ≤ i → i < mN v s → wcr v s i x y = 0 → wOn v s x y (mN v s) := fun q i i0 i1 w => by
      have k := (w4 (x := x) (y := y) hH (by omega) (hg (in_all q)) (a := i.toNat) (by omega) (by rw [wcr_n (by omega), show ((i.toNat : Nat) : Int) = i by omega]; exact w)).1
      rw [(nxt_m (show ((i.toNat : Nat) : Int) < mN v s by omega)).1, (nxt_m (show ((i.toNat : Nat) : Int) < mN v s by omega)).2, show ((i.toNat : Nat) : Int) = i by omega] at k
      exact ⟨i, i0, i1, w, k⟩
    rcases hc2 with ⟨w1, w2⟩ | ⟨w1, w2, i, i0, i1, w3⟩ | ⟨w1, w2, w3⟩
    · rcases hm2 with q | q | q
      · exact absurd (on_in q.2) w2
      · exact absurd (all_in q.2.2.1) w2
      · omega
    · have := z_on w2 i i0 i1 w3
      rcases hm2 with q | q | q
      · omega
      · exact absurd this q.2.1
      · exact absurd this q.2.1
    · rcases hm2 with ⟨_, i, i0, i1, q, _⟩ | q | q
      · exact absurd q (w3 i i0 i1)
      · omega
      · exact absurd ⟨in_all w2, by omega⟩ q.2.2


def whP (s x y : Int) : Prop := (0 ≤ s ∧ s ≤ 7) ∧ (-40 ≤ x ∧ x ≤ 40) ∧ -40 ≤ y ∧ y ≤ 40
def whC (u : CS) (s x y z : Int) : Prop := (¬ whP s x y ∧ z = -1) ∨ (whP s x y ∧ stC u s.toNat x y z)
def whM (u : MS) (s x y z : Int) : Prop := (¬ whP s x y ∧ z = -1) ∨ (whP s x y ∧ wR u s x y z)
theorem stC_b {u : CS} {r : Nat} {x y z : Int} (h : stC u r x y z) : 0 ≤ z ∧ z ≤ 2 := by
  rcases h with ⟨h, _⟩ | ⟨h, _⟩ | ⟨h, _⟩ <;> omega
def rdC (u : CS) (r : Nat) (z : Int) : Prop := (u.1.2.2.1 r < 3 ∧ z = 0) ∨ (3 ≤ u.1.2.2.1 r ∧ ∃ w : Int, stC u r 0 0 w ∧ ((w = 2 ∧ z = 1) ∨ (w ≠ 2 ∧ z = 0)))
def rdM (u : MS) (s z : Int) : Prop := (mN u s ≤ 2 ∧ z = 0) ∨ (2 < mN u s ∧ ∃ w : Int, wR u s 0 0 w ∧ ((w = 2 ∧ z = 1) ∨ (w ≠ 2 ∧ z = 0)))
theorem rdC_b {u : CS} {r : Nat} {z : Int} (h : rdC u r z) : z = 0 ∨ z = 1 := by
  rcases h with ⟨_, h⟩ | ⟨_, w, _, h⟩ <;> omega
theorem rdM_b {u : MS} {s z : Int} (h : rdM u s z) : z = 0 ∨ (z = 1 ∧ 2 < mN u s) := by
  rcases h with ⟨_, h⟩ | ⟨_, w, _, h⟩ <;> omega
def noP (n s i w : Int) : Prop := (0 ≤ s ∧ s ≤ 7) ∧ (0 ≤ i ∧ i < n) ∧ 0 ≤ w ∧ w ≤ 2
def noC (u : CS) (s i w z : Int) : Prop := (¬ noP (u.1.2.2.1 s.toNat) s i w ∧ z = -1000000) ∨ (noP (u.1.2.2.1 s.toNat) s i w ∧ ∃ t : Int, rdC u s.toNat t ∧ ((t = 0 ∧ z = -1000000) ∨ (t = 1 ∧ ((w = 0 ∧ z = dNX u s.toNat i) ∨ (w = 1 ∧ z = dNY u s.toNat i) ∨ (w = 2 ∧ z = dFar u s.toNat i)))))
def noM (u : MS) (s i w z : Int) : Prop := (¬ noP (mN u s) s i w ∧ z = -1000000) ∨ (noP (mN u s) s i w ∧ ∃ t : Int, rdM u s t ∧ ((t = 0 ∧ z = -1000000) ∨ (t = 1 ∧ ((w = 0 ∧ z = mNX u s i) ∨ (w = 1 ∧ z = mNY u s i) ∨ (w = 2 ∧ z = mFar u s i)))))


set_option maxHeartbeats 4000000 in
set_option maxRecDepth 100000 in
theorem c_X11_whereN (l : Launch) (D : JD) (q : Nat → Nat) (u : CS) (s : Int) (x : Int) (y : Int) (p0 : CI u) (p1 : -2147483648 ≤ s ∧ s ≤ 2147483647) (p2 : -2147483648 ≤ x ∧ x ≤ 2147483647) (p3 : -2147483648 ≤ y ∧ y ≤ 2147483647) : Met l yX11_where (jw yX11_where cX11_where 5 (some .int)) (jr 4 91) (jP [.ref (q 0), .int (J s), .int (J x), .int (J y)] D (fun H => va_P D.1 j_cl (cW D q u) H)) (jRi (fun z => whC u s x y z)) 0 0 (fun _ => False) := by
  refine Met.ofW (cc := cX11_where) (maxL := 5) (ret := (some .int)) (by decide) rfl ?_
  intro pr en st mi args below meth co s₁ B hml hv
  obtain ⟨rfl, hG, hP⟩ := hv
  have hr := B.returns
  have hlk := B.notSynchronized
  have SS : jS pr mi co cX11_where 5 st _ RX11 := ⟨B.exec, B.bytes, hml, findClass_of_methodNamed B.named, fun w hw => atoms_spec (ws := (jw yX11_where cX11_where 5 (some .int))) B.pre w (List.mem_cons_of_mem _ hw)⟩
  have hl := lv_entry ([.ref (q 0), .int (J s), .int (J x), .int (J y)]) (n := 5) (Nat.le_of_ble_eq_true rfl)
  rw [lg_entry_eq]
  generalize (lg_sl ([.ref (q 0), .int (J s), .int (J x), .int (J y)]) ++ List.replicate (5 - (lg_sl ([.ref (q 0), .int (J s), .int (J x), .int (J y)])).length) Slot.unset).toArray = ls at hl ⊢
  have hl : lv_has ls 5 [(0, .ref (q 0)), (1, .int (J s)), (2, .int (J x)), (3, .int (J y))] := hl
  refine lv_aload_n SS.1 SS.2.1 dX11_where_0 rfl (lv_at hl 0 rfl) ?_
  refine lv_iload_n SS.1 SS.2.1 dX11_where_1 rfl (lv_at hl 1 rfl) ?_
  refine j_vSh SS (As := [.int (J s)]) (rest := []) (c_X11_shapeAt l D q u  s (show -2147483648 ≤ s ∧ s ≤ 2147483647 from (p1))) mf_X11_shapeAt kw_414 hG hP hP (ci := 11) (q0 := 0) rfl rfl rfl rfl hl.1 ⟨⟨Nat.le_of_ble_eq_true rfl, Nat.le_of_ble_eq_true rfl⟩, Nat.le_of_ble_eq_true rfl, Nat.le_refl _, Nat.le_refl _⟩ rfl dX11_where_2 (fun i_2 hi_2 hz_2 => ?_) (fun hn_2 => ?_)
  · skip
    have hI2 := CI_s p0 (show i_2 < 8 by omega)
    have hI2c := hI2.1
    have hrl2 := rl_s (show i_2 < 8 by omega)
    refine lv_astore (lv' := [(4, .ref (q (8 + 5 * i_2))), (0, .ref (q 0)), (1, .int (J s)), (2, .int (J x)), (3, .int (J y))]) SS.1 SS.2.1 dX11_where_5 hl (by decide) rfl (fun ls hl => ?_)
    refine lv_aload SS.1 SS.2.1 dX11_where_7 (lv_at hl 0 rfl) ?_
    refine lv_ifnull SS.1 SS.2.1 dX11_where_9 ?_
    refine lv_iload_n SS.1 SS.2.1 dX11_where_12 rfl (lv_at hl 3 rfl) ?_
    refine j_sRi SS (As := [.int (J x)]) (rest := []) (c_X11_onGrid l D  x (show -2147483648 ≤ x ∧ x ≤ 2147483647 from (p2))) mf_X11_onGrid kw_475 hG trivial rfl hl.1 ⟨⟨Nat.le_of_ble_eq_true rfl, Nat.le_of_ble_eq_true rfl⟩, Nat.le_of_ble_eq_true rfl, Nat.le_refl _, Nat.le_refl _⟩ rfl dX11_where_13 (fun z_13 h_13 => ?_)
    have h_13 : (z_13 = 1 ∧ (-40 ≤ x ∧ x ≤ 40)) ∨ (z_13 = 0 ∧ ¬ (-40 ≤ x ∧ x ≤ 40)) := h_13
    refine j_if_eq SS (tgt := 26) (x := z_13) dX11_where_16 (by decide) (by omega) (fun c_16 => ?_) (fun c_16 => ?_)
    · skip
      refine j_iconst SS dX11_where_26 ?_
      exact W.iret SS.1 SS.2.1 hr (fun t0 ht hW => ⟨_, rfl, ⟨(-1), rfl, (by first | exact Or.inl ⟨fun q => by unfold whP at q; omega, rfl⟩ | exact Or.inr ⟨by unfold whP; omega, by rw [show s.toNat = i_2 by omega]; exact h_35⟩)⟩, ht⟩) (fun _ h => nomatch h) dX11_where_27 hlk
    · skip
      refine lv_iload_n SS.1 SS.2.1 dX11_where_19 rfl (lv_at hl 4 rfl) ?_
      refine j_sRi SS (As := [.int (J y)]) (rest := []) (c_X11_onGrid l D  y (show -2147483648 ≤ y ∧ y ≤ 2147483647 from (p3))) mf_X11_onGrid kw_475 hG trivial rfl hl.1 ⟨⟨Nat.le_of_ble_eq_true rfl, Nat.le_of_ble_eq_true rfl⟩, Nat.le_of_ble_eq_true rfl, Nat.le_refl _, Nat.le_refl _⟩ rfl dX11_where_20 (fun z_20 h_20 => ?_)
      have h_20 : (z_20 = 1 ∧ (-40 ≤ y ∧ y ≤ 40)) ∨ (z_20 = 0 ∧ ¬ (-40 ≤ y ∧ y ≤ 40)) := h_20
      refine j_if_ne SS (tgt := 28) (x := z_20) dX11_where_23 (by decide) (by omega) (fun c_23 => ?_) (fun c_23 => ?_)
      · skip
        refine lv_aload SS.1 SS.2.1 dX11_where_28 (lv_at hl 0 rfl) ?_
        refine j_get SS hG hP (8 + 5 * i_2) (v := .ref (q (9 + 5 * i_2))) (C := RX10) (T := TX10) (N := 3) (cw_shape (by omega)) rfl inX10 0 (by decide) (ref := "GridPolygons$Shape") kw_151 rfl rfl dX11_where_30 ?_
        refine lv_iload_n SS.1 SS.2.1 dX11_where_33 rfl (lv_at hl 3 rfl) ?_
        refine lv_iload_n SS.1 SS.2.1 dX11_where_34 rfl (lv_at hl 4 rfl) ?_
        refine j_vRi SS (As := [.int (J x), .int (J y)]) (rest := []) (c_X7_standing3 l D q u i_2 (by omega) (80 : Int) x y (show 0 ≤ (80 : Int) ∧ (80 : Int) ≤ 80 from (by omega)) (show RB (80 : Int) u i_2 from (show RB 80 u i_2 from CI_s p0 (by omega))) (show -200 ≤ x ∧ x ≤ 200 from (by omega)) (show -200 ≤ y ∧ y ≤ 200 from (by omega))) mf_X7_standing kw_581 hG hP hP (ci := 7) (q0 := (9 + 5 * i_2)) rfl (cw_ring (by omega)) rfl rfl hl.1 ⟨⟨Nat.le_of_ble_eq_true rfl, Nat.le_of_ble_eq_true rfl⟩, Nat.le_of_ble_eq_true rfl, Nat.le_refl _, Nat.le_refl _⟩ rfl dX11_where_35 (fun z_35 h_35 => ?_)
        have h_35 : stC u i_2 x y z_35 := h_35
        exact W.iret SS.1 SS.2.1 hr (fun t0 ht hW => ⟨_, rfl, ⟨z_35, rfl, (by first | exact Or.inl ⟨fun q => by unfold whP at q; omega, rfl⟩ | exact Or.inr ⟨by unfold whP; omega, by rw [show s.toNat = i_2 by omega]; exact h_35⟩)⟩, ht⟩) (fun _ h => nomatch h) dX11_where_38 hlk
      · skip
        refine j_iconst SS dX11_where_26 ?_
        exact W.iret SS.1 SS.2.1 hr (fun t0 ht hW => ⟨_, rfl, ⟨(-1), rfl, (by first | exact Or.inl ⟨fun q => by unfold whP at q; omega, rfl⟩ | exact Or.inr ⟨by unfold whP; omega, by rw [show s.toNat = i_2 by omega]; exact h_35⟩)⟩, ht⟩) (fun _ h => nomatch h) dX11_where_27 hlk
  · skip
    refine lv_astoreN (lv' := [(4, .null), (0, .ref (q 0)), (1, .int (J s)), (2, .int (J x)), (3, .int (J y))]) SS.1 SS.2.1 dX11_where_5 hl (by decide) rfl (fun ls hl => ?_)
    refine lv_aloadN SS.1 SS.2.1 dX11_where_7 (lv_at hl 0 rfl) ?_
    refine lv_ifnullN SS.1 SS.2.1 (tgt := 26) dX11_where_9 (by decide) ?_
    refine j_iconst SS dX11_where_26 ?_
    exact W.iret SS.1 SS.2.1 hr (fun t0 ht hW => ⟨_, rfl, ⟨(-1), rfl, (by first | exact Or.inl ⟨fun q => by unfold whP at q; omega, rfl⟩ | exact Or.inr ⟨by unfold whP; omega, by rw [show s.toNat = i_2 by omega]; exact h_35⟩)⟩, ht⟩) (fun _ h => nomatch h) dX11_where_27 hlk

set_option maxHeartbeats 4000000 in
set_option maxRecDepth 100000 in
theorem c_X12_where2 (l : Launch) (D : JD) (o : Nat) (q : Nat → Nat) (u : MS) (s : Int) (x : Int) (y : Int) (p0 : IM u) (p1 : -2147483648 ≤ s ∧ s ≤ 2147483647) (p2 : -2147483648 ≤ x ∧ x ≤ 2147483647) (p3 : -2147483648 ≤ y ∧ y ≤ 2147483647) : Met l yX12_where (jw yX12_where cX12_where 4 (some .int)) (jr 2 51) (jP [.ref o, .int (J s), .int (J x), .int (J y)] D (fun H => va_P D.1 j_cl (mW D o q u) H)) (jRi (fun z => whM u s x y z)) 0 0 (fun _ => False) := by
  refine Met.ofW (cc := cX12_where) (maxL := 4) (ret := (some .int)) (by decide) rfl ?_
  intro pr en st mi args below meth co s₁ B hml hv
  obtain ⟨rfl, hG, hP⟩ := hv
  have hr := B.returns
  have hlk := B.notSynchronized
  have SS : jS pr mi co cX12_where 4 st _ RX12 := ⟨B.exec, B.bytes, hml, findClass_of_methodNamed B.named, fun w hw => atoms_spec (ws := (jw yX12_where cX12_where 4 (some .int))) B.pre w (List.mem_cons_of_mem _ hw)⟩
  have hl := lv_entry ([.ref o, .int (J s), .int (J x), .int (J y)]) (n := 4) (Nat.le_of_ble_eq_true rfl)
  rw [lg_entry_eq]
  generalize (lg_sl ([.ref o, .int (J s), .int (J x), .int (J y)]) ++ List.replicate (4 - (lg_sl ([.ref o, .int (J s), .int (J x), .int (J y)])).length) Slot.unset).toArray = ls at hl ⊢
  have hl : lv_has ls 4 [(0, .ref o), (1, .int (J s)), (2, .int (J x)), (3, .int (J y))] := hl
  refine lv_iload_n SS.1 SS.2.1 dX12_where_0 rfl (lv_at hl 1 rfl) ?_
  refine j_sRi SS (As := [.int (J s)]) (rest := []) (c_X12_isShape l D s (show -2147483648 ≤ s ∧ s ≤ 2147483647 from (by omega))) mf_X12_isShape kw_1156 hG trivial rfl hl.1 ⟨⟨Nat.le_of_ble_eq_true rfl, Nat.le_of_ble_eq_true rfl⟩, Nat.le_of_ble_eq_true rfl, Nat.le_refl _, Nat.le_refl _⟩ rfl dX12_where_1 (fun z_1 h_1 => ?_)
  have h_1 : (z_1 = 1 ∧ (0 ≤ s ∧ s ≤ 7)) ∨ (z_1 = 0 ∧ ¬ (0 ≤ s ∧ s ≤ 7)) := h_1
  refine j_if_eq SS (tgt := 25) (x := z_1) dX12_where_4 (by decide) (by omega) (fun c_4 => ?_) (fun c_4 => ?_)
  · skip
    refine j_iconst SS dX12_where_25 ?_
    exact W.iret SS.1 SS.2.1 hr (fun t ht hW => ⟨_, rfl, ⟨(-1), rfl, (by first | exact Or.inl ⟨fun q => by unfold whP at q; omega, rfl⟩ | exact Or.inr ⟨by unfold whP; omega, h_19⟩)⟩, ht⟩) (fun _ h => nomatch h) dX12_where_26 hlk
  · skip
    refine lv_iload_n SS.1 SS.2.1 dX12_where_7 rfl (lv_at hl 2 rfl) ?_
    refine lv_iload_n SS.1 SS.2.1 dX12_where_8 rfl (lv_at hl 3 rfl) ?_
    refine j_sRi SS (As := [.int (J x), .int (J y)]) (rest := []) (c_X12_isPlace l D x y (show -2147483648 ≤ x ∧ x ≤ 2147483647 from (by omega)) (show -2147483648 ≤ y ∧ y ≤ 2147483647 from (by omega))) mf_X12_isPlace kw_1166 hG trivial rfl hl.1 ⟨⟨Nat.le_of_ble_eq_true rfl, Nat.le_of_ble_eq_true rfl⟩, Nat.le_of_ble_eq_true rfl, Nat.le_refl _, Nat.le_refl _⟩ rfl dX12_where_9 (fun z_9 h_9 => ?_)
    have h_9 : (z_9 = 1 ∧ (-40 ≤ x ∧ x ≤ 40 ∧ -40 ≤ y ∧ y ≤ 40)) ∨ (z_9 = 0 ∧ ¬ (-40 ≤ x ∧ x ≤ 40 ∧ -40 ≤ y ∧ y ≤ 40)) := h_9
    refine j_if_eq SS (tgt := 25) (x := z_9) dX12_where_12 (by decide) (by omega) (fun c_12 => ?_) (fun c_12 => ?_)
    · skip
      refine j_iconst SS dX12_where_25 ?_
      exact W.iret SS.1 SS.2.1 hr (fun t ht hW => ⟨_, rfl, ⟨(-1), rfl, (by first | exact Or.inl ⟨fun q => by unfold whP at q; omega, rfl⟩ | exact Or.inr ⟨by unfold whP; omega, h_19⟩)⟩, ht⟩) (fun _ h => nomatch h) dX12_where_26 hlk
    · skip
      refine lv_aload_n SS.1 SS.2.1 dX12_where_15 rfl (lv_at hl 0 rfl) ?_
      refine lv_iload_n SS.1 SS.2.1 dX12_where_16 rfl (lv_at hl 1 rfl) ?_
      refine lv_iload_n SS.1 SS.2.1 dX12_where_17 rfl (lv_at hl 2 rfl) ?_
      refine lv_iload_n SS.1 SS.2.1 dX12_where_18 rfl (lv_at hl 3 rfl) ?_
      refine j_vRi SS (As := [.int (J s), .int (J x), .int (J y)]) (rest := []) (c_X12_whereOf l D o q u s x y (show 0 ≤ s ∧ s ≤ 7 from (by omega)) (show Sh u s from (p0.1 _ (by omega) (by omega))) (show -100 ≤ x ∧ x ≤ 100 from (by omega)) (show -100 ≤ y ∧ y ≤ 100 from (by omega))) mf_X12_whereOf kw_1255 hG hP hP (ci := 8) (q0 := 0) rfl rfl rfl rfl hl.1 ⟨⟨Nat.le_of_ble_eq_true rfl, Nat.le_of_ble_eq_true rfl⟩, Nat.le_of_ble_eq_true rfl, Nat.le_refl _, Nat.le_refl _⟩ rfl dX12_where_19 (fun z_19 h_19 => ?_)
      have h_19 : wR u s x y z_19 := h_19
      refine lv_goto (tgt := 26) SS.1 SS.2.1 dX12_where_22 (by decide) ?_
      exact W.iret SS.1 SS.2.1 hr (fun t ht hW => ⟨_, rfl, ⟨z_19, rfl, (by first | exact Or.inl ⟨fun q => by unfold whP at q; omega, rfl⟩ | exact Or.inr ⟨by unfold whP; omega, h_19⟩)⟩, ht⟩) (fun _ h => nomatch h) dX12_where_26 hlk

set_option maxHeartbeats 4000000 in
set_option maxRecDepth 100000 in
theorem c_X7_isRound3 (l : Launch) (D : JD) (q : Nat → Nat) (u : CS) (r : Nat) (hr : r ≤ 8) (K : Int) (p0 : 0 ≤ K ∧ K ≤ 80) (p1 : RB K u r) : Met l yX7_isRound (jw yX7_isRound cX7_isRound 1 (some .boolean)) (jr 4 91) (jP [.ref (q (9 + 5 * r))] D (fun H => va_P D.1 j_cl (cW D q u) H)) (jRi (fun z => rdC u r z)) 0 0 (fun _ => False) := by
  refine Met.ofW (cc := cX7_isRound) (maxL := 1) (ret := (some .boolean)) (by decide) rfl ?_
  intro pr en st mi args below meth co s₁ B hml hv
  obtain ⟨rfl, hG, hP⟩ := hv
  have hr := B.returns
  have hlk := B.notSynchronized
  have SS : jS pr mi co cX7_isRound 1 st _ RX7 := ⟨B.exec, B.bytes, hml, findClass_of_methodNamed B.named, fun w hw => atoms_spec (ws := (jw yX7_isRound cX7_isRound 1 (some .boolean))) B.pre w (List.mem_cons_of_mem _ hw)⟩
  have hl := lv_entry ([.ref (q (9 + 5 * r))]) (n := 1) (Nat.le_of_ble_eq_true rfl)
  rw [lg_entry_eq]
  generalize (lg_sl ([.ref (q (9 + 5 * r))]) ++ List.replicate (1 - (lg_sl ([.ref (q (9 + 5 * r))])).length) Slot.unset).toArray = ls at hl ⊢
  have hl : lv_has ls 1 [(0, .ref (q (9 + 5 * r)))] := hl
  have hc := p1.1
  have hrl := rl_b r
  refine lv_aload_n SS.1 SS.2.1 dX7_isRound_0 rfl (lv_at hl 0 rfl) ?_
  refine j_vRi SS (As := []) (rest := []) (c_X7_isPolygon l D q u r (by omega) K  (show 0 ≤ K ∧ K ≤ 80 from (p0)) (show RB K u r from (p1))) mf_X7_isPolygon kw_798 hG hP hP (ci := 7) (q0 := (9 + 5 * r)) rfl (cw_ring (by omega)) rfl rfl hl.1 ⟨⟨Nat.le_of_ble_eq_true rfl, Nat.le_of_ble_eq_true rfl⟩, Nat.le_of_ble_eq_true rfl, Nat.le_refl _, Nat.le_refl _⟩ rfl dX7_isRound_1 (fun z_1 h_1 => ?_)
  have h_1 : (z_1 = 1 ∧ 3 ≤ (u.1.2.2.1 r)) ∨ (z_1 = 0 ∧ (u.1.2.2.1 r) < 3) := h_1
  refine j_if_eq SS (tgt := 21) (x := z_1) dX7_isRound_4 (by decide) (by omega) (fun c_4 => ?_) (fun c_4 => ?_)
  · skip
    refine j_iconst SS dX7_isRound_21 ?_
    exact W.zret SS.1 SS.2.1 hr (j_nz (by decide)) (fun t0 ht hW => ⟨_, rfl, ⟨0, rfl, (by first | exact Or.inl ⟨by omega, rfl⟩ | exact Or.inr ⟨by omega, _, h_10, by omega⟩)⟩, ht⟩) (fun _ h => nomatch h) dX7_isRound_22 hlk
  · skip
    refine lv_aload_n SS.1 SS.2.1 dX7_isRound_7 rfl (lv_at hl 0 rfl) ?_
    refine j_iconst SS dX7_isRound_8 ?_
    refine j_iconst SS dX7_isRound_9 ?_
    refine j_vRi SS (As := [.int (J 0), .int (J 0)]) (rest := []) (c_X7_standing3 l D q u r (by omega) K 0 0 (show 0 ≤ K ∧ K ≤ 80 from (p0)) (show RB K u r from (p1)) (show -200 ≤ (0 : Int) ∧ (0 : Int) ≤ 200 from (by omega)) (show -200 ≤ (0 : Int) ∧ (0 : Int) ≤ 200 from (by omega))) mf_X7_standing kw_799 hG hP hP (ci := 7) (q0 := (9 + 5 * r)) rfl (cw_ring (by omega)) rfl rfl hl.1 ⟨⟨Nat.le_of_ble_eq_true rfl, Nat.le_of_ble_eq_true rfl⟩, Nat.le_of_ble_eq_true rfl, Nat.le_refl _, Nat.le_refl _⟩ rfl dX7_isRound_10 (fun z_10 h_10 => ?_)
    have h_10 : stC u r (0 : Int) (0 : Int) z_10 := h_10
    have sb := stC_b h_10
    refine j_iconst SS dX7_isRound_13 ?_
    refine j_icmp_ne SS (tgt := 21) (x := z_10) (y := 2) dX7_isRound_14 (by decide) (by omega) (by decide) (fun c_14 => ?_) (fun c_14 => ?_)
    · skip
      refine j_iconst SS dX7_isRound_21 ?_
      exact W.zret SS.1 SS.2.1 hr (j_nz (by decide)) (fun t0 ht hW => ⟨_, rfl, ⟨0, rfl, (by first | exact Or.inl ⟨by omega, rfl⟩ | exact Or.inr ⟨by omega, _, h_10, by omega⟩)⟩, ht⟩) (fun _ h => nomatch h) dX7_isRound_22 hlk
    · skip
      refine j_iconst SS dX7_isRound_17 ?_
      refine lv_goto (tgt := 22) SS.1 SS.2.1 dX7_isRound_18 (by decide) ?_
      exact W.zret SS.1 SS.2.1 hr (j_nz (by decide)) (fun t0 ht hW => ⟨_, rfl, ⟨1, rfl, (by first | exact Or.inl ⟨by omega, rfl⟩ | exact Or.inr ⟨by omega, _, h_10, by omega⟩)⟩, ht⟩) (fun _ h => nomatch h) dX7_isRound_22 hlk

set_option maxHeartbeats 4000000 in
set_option maxRecDepth 100000 in
theorem c_X12_isRound3 (l : Launch) (D : JD) (o : Nat) (q : Nat → Nat) (u : MS) (s : Int) (p0 : 0 ≤ s ∧ s ≤ 7) (p1 : Sh u s) : Met l yX12_isRound (jw yX12_isRound cX12_isRound 2 (some .boolean)) (jr 2 51) (jP [.ref o, .int (J s)] D (fun H => va_P D.1 j_cl (mW D o q u) H)) (jRi (fun z => rdM u s z)) 0 0 (fun _ => False) := by
  refine Met.ofW (cc := cX12_isRound) (maxL := 2) (ret := (some .boolean)) (by decide) rfl ?_
  intro pr en st mi args below meth co s₁ B hml hv
  obtain ⟨rfl, hG, hP⟩ := hv
  have hr := B.returns
  have hlk := B.notSynchronized
  have SS : jS pr mi co cX12_isRound 2 st _ RX12 := ⟨B.exec, B.bytes, hml, findClass_of_methodNamed B.named, fun w hw => atoms_spec (ws := (jw yX12_isRound cX12_isRound 2 (some .boolean))) B.pre w (List.mem_cons_of_mem _ hw)⟩
  have hl := lv_entry ([.ref o, .int (J s)]) (n := 2) (Nat.le_of_ble_eq_true rfl)
  rw [lg_entry_eq]
  generalize (lg_sl ([.ref o, .int (J s)]) ++ List.replicate (2 - (lg_sl ([.ref o, .int (J s)])).length) Slot.unset).toArray = ls at hl ⊢
  have hl : lv_has ls 2 [(0, .ref o), (1, .int (J s))] := hl
  have hN := p1.1
  have hC := p1.2.2
  refine lv_aload_n SS.1 SS.2.1 dX12_isRound_0 rfl (lv_at hl 0 rfl) ?_
  refine lv_iload_n SS.1 SS.2.1 dX12_isRound_1 rfl (lv_at hl 1 rfl) ?_
  refine j_vRi SS (As := [.int (J s)]) (rest := []) (c_X12_isPolygon l D o q u s (show 0 ≤ s ∧ s ≤ 7 from (by omega)) (show Sh u s from (p1))) mf_X12_isPolygon kw_1240 hG hP hP (ci := 8) (q0 := 0) rfl rfl rfl rfl hl.1 ⟨⟨Nat.le_of_ble_eq_true rfl, Nat.le_of_ble_eq_true rfl⟩, Nat.le_of_ble_eq_true rfl, Nat.le_refl _, Nat.le_refl _⟩ rfl dX12_isRound_2 (fun z_2 h_2 => ?_)
  have h_2 : (z_2 = 1 ∧ 2 < mN u s) ∨ (z_2 = 0 ∧ mN u s ≤ 2) := h_2
  refine j_if_eq SS (tgt := 23) (x := z_2) dX12_isRound_5 (by decide) (by omega) (fun c_5 => ?_) (fun c_5 => ?_)
  · skip
    refine j_iconst SS dX12_isRound_23 ?_
    exact W.zret SS.1 SS.2.1 hr (j_nz (by decide)) (fun t ht hW => ⟨_, rfl, ⟨0, rfl, (by first | exact Or.inl ⟨by omega, rfl⟩ | exact Or.inr ⟨by omega, _, h_12, by omega⟩)⟩, ht⟩) (fun _ h => nomatch h) dX12_isRound_24 hlk
  · skip
    refine lv_aload_n SS.1 SS.2.1 dX12_isRound_8 rfl (lv_at hl 0 rfl) ?_
    refine lv_iload_n SS.1 SS.2.1 dX12_isRound_9 rfl (lv_at hl 1 rfl) ?_
    refine j_iconst SS dX12_isRound_10 ?_
    refine j_iconst SS dX12_isRound_11 ?_
    refine j_vRi SS (As := [.int (J s), .int (J 0), .int (J 0)]) (rest := []) (c_X12_whereOf l D o q u s 0 0 (show 0 ≤ s ∧ s ≤ 7 from (by omega)) (show Sh u s from (p1)) (show -100 ≤ (0 : Int) ∧ (0 : Int) ≤ 100 from (by omega)) (show -100 ≤ (0 : Int) ∧ (0 : Int) ≤ 100 from (by omega))) mf_X12_whereOf kw_1255 hG hP hP (ci := 8) (q0 := 0) rfl rfl rfl rfl hl.1 ⟨⟨Nat.le_of_ble_eq_true rfl, Nat.le_of_ble_eq_true rfl⟩, Nat.le_of_ble_eq_true rfl, Nat.le_refl _, Nat.le_refl _⟩ rfl dX12_isRound_12 (fun z_12 h_12 => ?_)
    have h_12 : wR u s (0 : Int) (0 : Int) z_12 := h_12
    have zb := wR_b h_12
    refine j_iconst SS dX12_isRound_15 ?_
    refine j_icmp_ne SS (tgt := 23) (x := z_12) (y := 2) dX12_isRound_16 (by decide) (by omega) (by decide) (fun c_16 => ?_) (fun c_16 => ?_)
    · skip
      refine j_iconst SS dX12_isRound_23 ?_
      exact W.zret SS.1 SS.2.1 hr (j_nz (by decide)) (fun t ht hW => ⟨_, rfl, ⟨0, rfl, (by first | exact Or.inl ⟨by omega, rfl⟩ | exact Or.inr ⟨by omega, _, h_12, by omega⟩)⟩, ht⟩) (fun _ h => nomatch h) dX12_isRound_24 hlk
    · skip
      refine j_iconst SS dX12_isRound_19 ?_
      refine lv_goto (tgt := 24) SS.1 SS.2.1 dX12_isRound_20 (by decide) ?_
      exact W.zret SS.1 SS.2.1 hr (j_nz (by decide)) (fun t ht hW => ⟨_, rfl, ⟨1, rfl, (by first | exact Or.inl ⟨by omega, rfl⟩ | exact Or.inr ⟨by omega, _, h_12, by omega⟩)⟩, ht⟩) (fun _ h => nomatch h) dX12_isRound_24 hlk

set_option maxHeartbeats 4000000 in
set_option maxRecDepth 100000 in
theorem c_X11_normalN (l : Launch) (D : JD) (q : Nat → Nat) (u : CS) (s : Int) (i : Int) (what : Int) (p0 : CI u) (p1 : -2147483648 ≤ s ∧ s ≤ 2147483647) (p2 : -2147483648 ≤ i ∧ i ≤ 2147483647) (p3 : -2147483648 ≤ what ∧ what ≤ 2147483647) : Met l yX11_normal (jw yX11_normal cX11_normal 5 (some .int)) (jr 5 111) (jP [.ref (q 0), .int (J s), .int (J i), .int (J what)] D (fun H => va_P D.1 j_cl (cW D q u) H)) (jRi (fun z => noC u s i what z ∧ wRg z)) 0 0 (fun _ => False) := by
  refine Met.ofW (cc := cX11_normal) (maxL := 5) (ret := (some .int)) (by decide) rfl ?_
  intro pr en st mi args below meth co s₁ B hml hv
  obtain ⟨rfl, hG, hP⟩ := hv
  have hr := B.returns
  have hlk := B.notSynchronized
  have SS : jS pr mi co cX11_normal 5 st _ RX11 := ⟨B.exec, B.bytes, hml, findClass_of_methodNamed B.named, fun w hw => atoms_spec (ws := (jw yX11_normal cX11_normal 5 (some .int))) B.pre w (List.mem_cons_of_mem _ hw)⟩
  have hl := lv_entry ([.ref (q 0), .int (J s), .int (J i), .int (J what)]) (n := 5) (Nat.le_of_ble_eq_true rfl)
  rw [lg_entry_eq]
  generalize (lg_sl ([.ref (q 0), .int (J s), .int (J i), .int (J what)]) ++ List.replicate (5 - (lg_sl ([.ref (q 0), .int (J s), .int (J i), .int (J what)])).length) Slot.unset).toArray = ls at hl ⊢
  have hl : lv_has ls 5 [(0, .ref (q 0)), (1, .int (J s)), (2, .int (J i)), (3, .int (J what))] := hl
  refine lv_aload_n SS.1 SS.2.1 dX11_normal_0 rfl (lv_at hl 0 rfl) ?_
  refine lv_iload_n SS.1 SS.2.1 dX11_normal_1 rfl (lv_at hl 1 rfl) ?_
  refine j_vSh SS (As := [.int (J s)]) (rest := []) (c_X11_shapeAt l D q u  s (show -2147483648 ≤ s ∧ s ≤ 2147483647 from (p1))) mf_X11_shapeAt kw_414 hG hP hP (ci := 11) (q0 := 0) rfl rfl rfl rfl hl.1 ⟨⟨Nat.le_of_ble_eq_true rfl, Nat.le_of_ble_eq_true rfl⟩, Nat.le_of_ble_eq_true rfl, Nat.le_refl _, Nat.le_refl _⟩ rfl dX11_normal_2 (fun i_2 hi_2 hz_2 => ?_) (fun hn_2 => ?_)
  · skip
    have hI2 := CI_s p0 (show i_2 < 8 by omega)
    have hI2c := hI2.1
    have hrl2 := rl_s (show i_2 < 8 by omega)
    refine lv_astore (lv' := [(4, .ref (q (8 + 5 * i_2))), (0, .ref (q 0)), (1, .int (J s)), (2, .int (J i)), (3, .int (J what))]) SS.1 SS.2.1 dX11_normal_5 hl (by decide) rfl (fun ls hl => ?_)
    refine lv_aload SS.1 SS.2.1 dX11_normal_7 (lv_at hl 0 rfl) ?_
    refine lv_ifnull SS.1 SS.2.1 dX11_normal_9 ?_
    refine lv_iload_n SS.1 SS.2.1 dX11_normal_12 rfl (lv_at hl 4 rfl) ?_
    refine j_if_lt SS (tgt := 48) (x := what) dX11_normal_13 (by decide) (by omega) (fun c_13 => ?_) (fun c_13 => ?_)
    · skip
      refine j_ldc SS (-1000000) kw_512 dX11_normal_48 ?_
      exact W.iret SS.1 SS.2.1 hr (fun t0 ht hW => ⟨_, rfl, ⟨(-1000000), rfl, (by first | exact ⟨Or.inl ⟨fun q => by have q1 := q.1; omega, rfl⟩, by unfold wRg; omega⟩ | exact ⟨Or.inl ⟨fun q => by unfold noP at q; rw [show s.toNat = i_2 by omega] at q; omega, rfl⟩, by unfold wRg; omega⟩ | exact ⟨Or.inr ⟨by unfold noP; rw [show s.toNat = i_2 by omega]; omega, z_42, by rw [show s.toNat = i_2 by omega]; exact h_42, by rw [show s.toNat = i_2 by omega]; first | exact Or.inl ⟨by omega, rfl⟩ | exact Or.inr ⟨by omega, by omega⟩⟩, by unfold wRg; omega⟩)⟩, ht⟩) (fun _ h => nomatch h) dX11_normal_50 hlk
    · skip
      refine lv_iload_n SS.1 SS.2.1 dX11_normal_16 rfl (lv_at hl 4 rfl) ?_
      refine j_iconst SS dX11_normal_17 ?_
      refine j_icmp_gt SS (tgt := 48) (x := what) (y := 2) dX11_normal_18 (by decide) (by omega) (by decide) (fun c_18 => ?_) (fun c_18 => ?_)
      · skip
        refine j_ldc SS (-1000000) kw_512 dX11_normal_48 ?_
        exact W.iret SS.1 SS.2.1 hr (fun t0 ht hW => ⟨_, rfl, ⟨(-1000000), rfl, (by first | exact ⟨Or.inl ⟨fun q => by have q1 := q.1; omega, rfl⟩, by unfold wRg; omega⟩ | exact ⟨Or.inl ⟨fun q => by unfold noP at q; rw [show s.toNat = i_2 by omega] at q; omega, rfl⟩, by unfold wRg; omega⟩ | exact ⟨Or.inr ⟨by unfold noP; rw [show s.toNat = i_2 by omega]; omega, z_42, by rw [show s.toNat = i_2 by omega]; exact h_42, by rw [show s.toNat = i_2 by omega]; first | exact Or.inl ⟨by omega, rfl⟩ | exact Or.inr ⟨by omega, by omega⟩⟩, by unfold wRg; omega⟩)⟩, ht⟩) (fun _ h => nomatch h) dX11_normal_50 hlk
      · skip
        refine lv_iload_n SS.1 SS.2.1 dX11_normal_21 rfl (lv_at hl 3 rfl) ?_
        refine j_if_lt SS (tgt := 48) (x := i) dX11_normal_22 (by decide) (by omega) (fun c_22 => ?_) (fun c_22 => ?_)
        · skip
          refine j_ldc SS (-1000000) kw_512 dX11_normal_48 ?_
          exact W.iret SS.1 SS.2.1 hr (fun t0 ht hW => ⟨_, rfl, ⟨(-1000000), rfl, (by first | exact ⟨Or.inl ⟨fun q => by have q1 := q.1; omega, rfl⟩, by unfold wRg; omega⟩ | exact ⟨Or.inl ⟨fun q => by unfold noP at q; rw [show s.toNat = i_2 by omega] at q; omega, rfl⟩, by unfold wRg; omega⟩ | exact ⟨Or.inr ⟨by unfold noP; rw [show s.toNat = i_2 by omega]; omega, z_42, by rw [show s.toNat = i_2 by omega]; exact h_42, by rw [show s.toNat = i_2 by omega]; first | exact Or.inl ⟨by omega, rfl⟩ | exact Or.inr ⟨by omega, by omega⟩⟩, by unfold wRg; omega⟩)⟩, ht⟩) (fun _ h => nomatch h) dX11_normal_50 hlk
        · skip
          refine lv_iload_n SS.1 SS.2.1 dX11_normal_25 rfl (lv_at hl 3 rfl) ?_
          refine lv_aload SS.1 SS.2.1 dX11_normal_26 (lv_at hl 0 rfl) ?_
          refine j_get SS hG hP (8 + 5 * i_2) (v := .ref (q (9 + 5 * i_2))) (C := RX10) (T := TX10) (N := 3) (cw_shape (by omega)) rfl inX10 0 (by decide) (ref := "GridPolygons$Shape") kw_151 rfl rfl dX11_normal_28 ?_
          refine j_getS SS hG hP (9 + 5 * i_2) (v := .int (J (u.1.2.2.1 i_2))) (C := RX7) (T := TX7) (N := 3) (cw_ring (by omega)) rfl inX7 2 (by decide) (ref := "GridPolygons$Ring") kw_135 kw_132 rfl dX11_normal_31 ?_
          refine j_icmp_ge SS (tgt := 48) (x := i) (y := (u.1.2.2.1 i_2)) dX11_normal_34 (by decide) (by omega) (by omega) (fun c_34 => ?_) (fun c_34 => ?_)
          · skip
            refine j_ldc SS (-1000000) kw_512 dX11_normal_48 ?_
            exact W.iret SS.1 SS.2.1 hr (fun t0 ht hW => ⟨_, rfl, ⟨(-1000000), rfl, (by first | exact ⟨Or.inl ⟨fun q => by have q1 := q.1; omega, rfl⟩, by unfold wRg; omega⟩ | exact ⟨Or.inl ⟨fun q => by unfold noP at q; rw [show s.toNat = i_2 by omega] at q; omega, rfl⟩, by unfold wRg; omega⟩ | exact ⟨Or.inr ⟨by unfold noP; rw [show s.toNat = i_2 by omega]; omega, z_42, by rw [show s.toNat = i_2 by omega]; exact h_42, by rw [show s.toNat = i_2 by omega]; first | exact Or.inl ⟨by omega, rfl⟩ | exact Or.inr ⟨by omega, by omega⟩⟩, by unfold wRg; omega⟩)⟩, ht⟩) (fun _ h => nomatch h) dX11_normal_50 hlk
          · skip
            refine lv_aload SS.1 SS.2.1 dX11_normal_37 (lv_at hl 0 rfl) ?_
            refine j_get SS hG hP (8 + 5 * i_2) (v := .ref (q (9 + 5 * i_2))) (C := RX10) (T := TX10) (N := 3) (cw_shape (by omega)) rfl inX10 0 (by decide) (ref := "GridPolygons$Shape") kw_151 rfl rfl dX11_normal_39 ?_
            refine j_vRi SS (As := []) (rest := []) (c_X7_isRound3 l D q u i_2 (by omega) (80 : Int)  (show 0 ≤ (80 : Int) ∧ (80 : Int) ≤ 80 from (by omega)) (show RB (80 : Int) u i_2 from (show RB 80 u i_2 from CI_s p0 (by omega)))) mf_X7_isRound kw_794 hG hP hP (ci := 7) (q0 := (9 + 5 * i_2)) rfl (cw_ring (by omega)) rfl rfl hl.1 ⟨⟨Nat.le_of_ble_eq_true rfl, Nat.le_of_ble_eq_true rfl⟩, Nat.le_of_ble_eq_true rfl, Nat.le_refl _, Nat.le_refl _⟩ rfl dX11_normal_42 (fun z_42 h_42 => ?_)
            have h_42 : rdC u i_2 z_42 := h_42
            have rb := rdC_b h_42
            refine j_if_ne SS (tgt := 51) (x := z_42) dX11_normal_45 (by decide) (by omega) (fun c_45 => ?_) (fun c_45 => ?_)
            · skip
              refine lv_iload_n SS.1 SS.2.1 dX11_normal_51 rfl (lv_at hl 4 rfl) ?_
              refine j_if_ne SS (tgt := 65) (x := what) dX11_normal_52 (by decide) (by omega) (fun c_52 => ?_) (fun c_52 => ?_)
              · skip
                refine lv_iload_n SS.1 SS.2.1 dX11_normal_65 rfl (lv_at hl 4 rfl) ?_
                refine j_iconst SS dX11_normal_66 ?_
                refine j_icmp_ne SS (tgt := 82) (x := what) (y := 1) dX11_normal_67 (by decide) (by omega) (by decide) (fun c_67 => ?_) (fun c_67 => ?_)
                · skip
                  refine lv_aload SS.1 SS.2.1 dX11_normal_82 (lv_at hl 0 rfl) ?_
                  refine j_get SS hG hP (8 + 5 * i_2) (v := .ref (q (9 + 5 * i_2))) (C := RX10) (T := TX10) (N := 3) (cw_shape (by omega)) rfl inX10 0 (by decide) (ref := "GridPolygons$Shape") kw_151 rfl rfl dX11_normal_84 ?_
                  refine lv_iload_n SS.1 SS.2.1 dX11_normal_87 rfl (lv_at hl 3 rfl) ?_
                  refine j_vRi SS (As := [.int (J i)]) (rest := []) (c_X7_far2 l D q u i_2 (by omega) (80 : Int) i (show 0 ≤ (80 : Int) ∧ (80 : Int) ≤ 80 from (by omega)) (show RB (80 : Int) u i_2 from (show RB 80 u i_2 from CI_s p0 (by omega))) (show -1000 ≤ i ∧ i ≤ 1000 from (by omega))) mf_X7_far kw_808 hG hP hP (ci := 7) (q0 := (9 + 5 * i_2)) rfl (cw_ring (by omega)) rfl rfl hl.1 ⟨⟨Nat.le_of_ble_eq_true rfl, Nat.le_of_ble_eq_true rfl⟩, Nat.le_of_ble_eq_true rfl, Nat.le_refl _, Nat.le_refl _⟩ rfl dX11_normal_88 (fun z_88 h_88 => ?_)
                  have h_88 : z_88 = dFar u i_2 i ∧ -30000 ≤ z_88 ∧ z_88 ≤ 30000 := h_88
                  exact W.iret SS.1 SS.2.1 hr (fun t0 ht hW => ⟨_, rfl, ⟨z_88, rfl, (by first | exact ⟨Or.inl ⟨fun q => by have q1 := q.1; omega, rfl⟩, by unfold wRg; omega⟩ | exact ⟨Or.inl ⟨fun q => by unfold noP at q; rw [show s.toNat = i_2 by omega] at q; omega, rfl⟩, by unfold wRg; omega⟩ | exact ⟨Or.inr ⟨by unfold noP; rw [show s.toNat = i_2 by omega]; omega, z_42, by rw [show s.toNat = i_2 by omega]; exact h_42, by rw [show s.toNat = i_2 by omega]; first | exact Or.inl ⟨by omega, rfl⟩ | exact Or.inr ⟨by omega, by omega⟩⟩, by unfold wRg; omega⟩)⟩, ht⟩) (fun _ h => nomatch h) dX11_normal_91 hlk
                · skip
                  refine lv_aload SS.1 SS.2.1 dX11_normal_70 (lv_at hl 0 rfl) ?_
                  refine j_get SS hG hP (8 + 5 * i_2) (v := .ref (q (9 + 5 * i_2))) (C := RX10) (T := TX10) (N := 3) (cw_shape (by omega)) rfl inX10 0 (by decide) (ref := "GridPolygons$Shape") kw_151 rfl rfl dX11_normal_72 ?_
                  refine lv_iload_n SS.1 SS.2.1 dX11_normal_75 rfl (lv_at hl 3 rfl) ?_
                  refine j_vRi SS (As := [.int (J i)]) (rest := []) (c_X7_normalB2 l D q u i_2 (by omega) (80 : Int) i (show 0 ≤ (80 : Int) ∧ (80 : Int) ≤ 80 from (by omega)) (show RB (80 : Int) u i_2 from (show RB 80 u i_2 from CI_s p0 (by omega))) (show -1000 ≤ i ∧ i ≤ 1000 from (by omega))) mf_X7_normalB kw_804 hG hP hP (ci := 7) (q0 := (9 + 5 * i_2)) rfl (cw_ring (by omega)) rfl rfl hl.1 ⟨⟨Nat.le_of_ble_eq_true rfl, Nat.le_of_ble_eq_true rfl⟩, Nat.le_of_ble_eq_true rfl, Nat.le_refl _, Nat.le_refl _⟩ rfl dX11_normal_76 (fun z_76 h_76 => ?_)
                  have h_76 : z_76 = dNY u i_2 i ∧ -2 * (80 : Int) ≤ z_76 ∧ z_76 ≤ 2 * (80 : Int) := h_76
                  refine lv_goto (tgt := 91) SS.1 SS.2.1 dX11_normal_79 (by decide) ?_
                  exact W.iret SS.1 SS.2.1 hr (fun t0 ht hW => ⟨_, rfl, ⟨z_76, rfl, (by first | exact ⟨Or.inl ⟨fun q => by have q1 := q.1; omega, rfl⟩, by unfold wRg; omega⟩ | exact ⟨Or.inl ⟨fun q => by unfold noP at q; rw [show s.toNat = i_2 by omega] at q; omega, rfl⟩, by unfold wRg; omega⟩ | exact ⟨Or.inr ⟨by unfold noP; rw [show s.toNat = i_2 by omega]; omega, z_42, by rw [show s.toNat = i_2 by omega]; exact h_42, by rw [show s.toNat = i_2 by omega]; first | exact Or.inl ⟨by omega, rfl⟩ | exact Or.inr ⟨by omega, by omega⟩⟩, by unfold wRg; omega⟩)⟩, ht⟩) (fun _ h => nomatch h) dX11_normal_91 hlk
              · skip
                refine lv_aload SS.1 SS.2.1 dX11_normal_55 (lv_at hl 0 rfl) ?_
                refine j_get SS hG hP (8 + 5 * i_2) (v := .ref (q (9 + 5 * i_2))) (C := RX10) (T := TX10) (N := 3) (cw_shape (by omega)) rfl inX10 0 (by decide) (ref := "GridPolygons$Shape") kw_151 rfl rfl dX11_normal_57 ?_
                refine lv_iload_n SS.1 SS.2.1 dX11_normal_60 rfl (lv_at hl 3 rfl) ?_
                refine j_vRi SS (As := [.int (J i)]) (rest := []) (c_X7_normalA2 l D q u i_2 (by omega) (80 : Int) i (show 0 ≤ (80 : Int) ∧ (80 : Int) ≤ 80 from (by omega)) (show RB (80 : Int) u i_2 from (show RB 80 u i_2 from CI_s p0 (by omega))) (show -1000 ≤ i ∧ i ≤ 1000 from (by omega))) mf_X7_normalA kw_800 hG hP hP (ci := 7) (q0 := (9 + 5 * i_2)) rfl (cw_ring (by omega)) rfl rfl hl.1 ⟨⟨Nat.le_of_ble_eq_true rfl, Nat.le_of_ble_eq_true rfl⟩, Nat.le_of_ble_eq_true rfl, Nat.le_refl _, Nat.le_refl _⟩ rfl dX11_normal_61 (fun z_61 h_61 => ?_)
                have h_61 : z_61 = dNX u i_2 i ∧ -2 * (80 : Int) ≤ z_61 ∧ z_61 ≤ 2 * (80 : Int) := h_61
                exact W.iret SS.1 SS.2.1 hr (fun t0 ht hW => ⟨_, rfl, ⟨z_61, rfl, (by first | exact ⟨Or.inl ⟨fun q => by have q1 := q.1; omega, rfl⟩, by unfold wRg; omega⟩ | exact ⟨Or.inl ⟨fun q => by unfold noP at q; rw [show s.toNat = i_2 by omega] at q; omega, rfl⟩, by unfold wRg; omega⟩ | exact ⟨Or.inr ⟨by unfold noP; rw [show s.toNat = i_2 by omega]; omega, z_42, by rw [show s.toNat = i_2 by omega]; exact h_42, by rw [show s.toNat = i_2 by omega]; first | exact Or.inl ⟨by omega, rfl⟩ | exact Or.inr ⟨by omega, by omega⟩⟩, by unfold wRg; omega⟩)⟩, ht⟩) (fun _ h => nomatch h) dX11_normal_64 hlk
            · skip
              refine j_ldc SS (-1000000) kw_512 dX11_normal_48 ?_
              exact W.iret SS.1 SS.2.1 hr (fun t0 ht hW => ⟨_, rfl, ⟨(-1000000), rfl, (by first | exact ⟨Or.inl ⟨fun q => by have q1 := q.1; omega, rfl⟩, by unfold wRg; omega⟩ | exact ⟨Or.inl ⟨fun q => by unfold noP at q; rw [show s.toNat = i_2 by omega] at q; omega, rfl⟩, by unfold wRg; omega⟩ | exact ⟨Or.inr ⟨by unfold noP; rw [show s.toNat = i_2 by omega]; omega, z_42, by rw [show s.toNat = i_2 by omega]; exact h_42, by rw [show s.toNat = i_2 by omega]; first | exact Or.inl ⟨by omega, rfl⟩ | exact Or.inr ⟨by omega, by omega⟩⟩, by unfold wRg; omega⟩)⟩, ht⟩) (fun _ h => nomatch h) dX11_normal_50 hlk
  · skip
    refine lv_astoreN (lv' := [(4, .null), (0, .ref (q 0)), (1, .int (J s)), (2, .int (J i)), (3, .int (J what))]) SS.1 SS.2.1 dX11_normal_5 hl (by decide) rfl (fun ls hl => ?_)
    refine lv_aloadN SS.1 SS.2.1 dX11_normal_7 (lv_at hl 0 rfl) ?_
    refine lv_ifnullN SS.1 SS.2.1 (tgt := 48) dX11_normal_9 (by decide) ?_
    refine j_ldc SS (-1000000) kw_512 dX11_normal_48 ?_
    exact W.iret SS.1 SS.2.1 hr (fun t0 ht hW => ⟨_, rfl, ⟨(-1000000), rfl, (by first | exact ⟨Or.inl ⟨fun q => by have q1 := q.1; omega, rfl⟩, by unfold wRg; omega⟩ | exact ⟨Or.inl ⟨fun q => by unfold noP at q; rw [show s.toNat = i_2 by omega] at q; omega, rfl⟩, by unfold wRg; omega⟩ | exact ⟨Or.inr ⟨by unfold noP; rw [show s.toNat = i_2 by omega]; omega, z_42, by rw [show s.toNat = i_2 by omega]; exact h_42, by rw [show s.toNat = i_2 by omega]; first | exact Or.inl ⟨by omega, rfl⟩ | exact Or.inr ⟨by omega, by omega⟩⟩, by unfold wRg; omega⟩)⟩, ht⟩) (fun _ h => nomatch h) dX11_normal_50 hlk

set_option maxHeartbeats 4000000 in
set_option maxRecDepth 100000 in
theorem c_X12_normal2 (l : Launch) (D : JD) (o : Nat) (q : Nat → Nat) (u : MS) (s : Int) (i : Int) (what : Int) (p0 : IM u) (p1 : -2147483648 ≤ s ∧ s ≤ 2147483647) (p2 : -2147483648 ≤ i ∧ i ≤ 2147483647) (p3 : -2147483648 ≤ what ∧ what ≤ 2147483647) : Met l yX12_normal (jw yX12_normal cX12_normal 4 (some .int)) (jr 5 110) (jP [.ref o, .int (J s), .int (J i), .int (J what)] D (fun H => va_P D.1 j_cl (mW D o q u) H)) (jRi (fun z => noM u s i what z)) 0 0 (fun _ => False) := by
  refine Met.ofW (cc := cX12_normal) (maxL := 4) (ret := (some .int)) (by decide) rfl ?_
  intro pr en st mi args below meth co s₁ B hml hv
  obtain ⟨rfl, hG, hP⟩ := hv
  have hr := B.returns
  have hlk := B.notSynchronized
  have SS : jS pr mi co cX12_normal 4 st _ RX12 := ⟨B.exec, B.bytes, hml, findClass_of_methodNamed B.named, fun w hw => atoms_spec (ws := (jw yX12_normal cX12_normal 4 (some .int))) B.pre w (List.mem_cons_of_mem _ hw)⟩
  have hl := lv_entry ([.ref o, .int (J s), .int (J i), .int (J what)]) (n := 4) (Nat.le_of_ble_eq_true rfl)
  rw [lg_entry_eq]
  generalize (lg_sl ([.ref o, .int (J s), .int (J i), .int (J what)]) ++ List.replicate (4 - (lg_sl ([.ref o, .int (J s), .int (J i), .int (J what)])).length) Slot.unset).toArray = ls at hl ⊢
  have hl : lv_has ls 4 [(0, .ref o), (1, .int (J s)), (2, .int (J i)), (3, .int (J what))] := hl
  refine lv_iload_n SS.1 SS.2.1 dX12_normal_0 rfl (lv_at hl 1 rfl) ?_
  refine j_sRi SS (As := [.int (J s)]) (rest := []) (c_X12_isShape l D s (show -2147483648 ≤ s ∧ s ≤ 2147483647 from (by omega))) mf_X12_isShape kw_1156 hG trivial rfl hl.1 ⟨⟨Nat.le_of_ble_eq_true rfl, Nat.le_of_ble_eq_true rfl⟩, Nat.le_of_ble_eq_true rfl, Nat.le_refl _, Nat.le_refl _⟩ rfl dX12_normal_1 (fun z_1 h_1 => ?_)
  have h_1 : (z_1 = 1 ∧ (0 ≤ s ∧ s ≤ 7)) ∨ (z_1 = 0 ∧ ¬ (0 ≤ s ∧ s ≤ 7)) := h_1
  refine j_if_eq SS (tgt := 40) (x := z_1) dX12_normal_4 (by decide) (by omega) (fun c_4 => ?_) (fun c_4 => ?_)
  · skip
    refine j_ldc SS (-1000000) kw_1213 dX12_normal_40 ?_
    exact W.iret SS.1 SS.2.1 hr (fun t ht hW => ⟨_, rfl, ⟨(-1000000), rfl, (by first | exact Or.inl ⟨fun q => by unfold noP at q; omega, rfl⟩ | exact Or.inr ⟨by unfold noP; omega, z_34, h_34, by first | exact Or.inl ⟨by omega, rfl⟩ | exact Or.inr ⟨by omega, by omega⟩⟩)⟩, ht⟩) (fun _ h => nomatch h) dX12_normal_42 hlk
  · skip
    refine lv_iload_n SS.1 SS.2.1 dX12_normal_7 rfl (lv_at hl 2 rfl) ?_
    refine j_iconst SS dX12_normal_8 ?_
    refine lv_aload_n SS.1 SS.2.1 dX12_normal_9 rfl (lv_at hl 0 rfl) ?_
    refine j_get SS hG hP 0 (v := .ref (q 0)) (C := RX12) (T := TX12) (N := 31) rfl rfl inX12 0 (by decide) (ref := RX12) kw_1058 rfl rfl dX12_normal_10 ?_
    refine lv_iload_n SS.1 SS.2.1 dX12_normal_13 rfl (lv_at hl 1 rfl) ?_
    refine j_iald SS hG hP 1 (n := 8) (f := (u.1 0)) rfl (z := s) (by omega) (by omega) dX12_normal_14 ?_
    have hN_14 := (show Sh u s from p0.1 _ (by omega) (by omega)).1
    refine j_iconst SS dX12_normal_15 ?_
    refine j_isub SS (x := (mN u s)) (y := 1) dX12_normal_16 ?_
    refine j_sRi SS (As := [.int (J i), .int (J 0), .int (J ((mN u s) - 1))]) (rest := []) (c_X12_in l D i 0 ((mN u s) - 1) (show -2147483648 ≤ i ∧ i ≤ 2147483647 from (by omega)) (show -2147483648 ≤ (0 : Int) ∧ (0 : Int) ≤ 2147483647 from (by omega)) (show -2147483648 ≤ ((mN u s) - 1) ∧ ((mN u s) - 1) ≤ 2147483647 from (by omega))) mf_X12_in kw_1159 hG trivial rfl hl.1 ⟨⟨Nat.le_of_ble_eq_true rfl, Nat.le_of_ble_eq_true rfl⟩, Nat.le_of_ble_eq_true rfl, Nat.le_refl _, Nat.le_refl _⟩ rfl dX12_normal_17 (fun z_17 h_17 => ?_)
    have h_17 : (z_17 = 1 ∧ ((0 : Int) ≤ i ∧ i ≤ ((mN u s) - 1))) ∨ (z_17 = 0 ∧ ¬ ((0 : Int) ≤ i ∧ i ≤ ((mN u s) - 1))) := h_17
    refine j_if_eq SS (tgt := 40) (x := z_17) dX12_normal_20 (by decide) (by omega) (fun c_20 => ?_) (fun c_20 => ?_)
    · skip
      refine j_ldc SS (-1000000) kw_1213 dX12_normal_40 ?_
      exact W.iret SS.1 SS.2.1 hr (fun t ht hW => ⟨_, rfl, ⟨(-1000000), rfl, (by first | exact Or.inl ⟨fun q => by unfold noP at q; omega, rfl⟩ | exact Or.inr ⟨by unfold noP; omega, z_34, h_34, by first | exact Or.inl ⟨by omega, rfl⟩ | exact Or.inr ⟨by omega, by omega⟩⟩)⟩, ht⟩) (fun _ h => nomatch h) dX12_normal_42 hlk
    · skip
      refine lv_iload_n SS.1 SS.2.1 dX12_normal_23 rfl (lv_at hl 3 rfl) ?_
      refine j_iconst SS dX12_normal_24 ?_
      refine j_iconst SS dX12_normal_25 ?_
      refine j_sRi SS (As := [.int (J what), .int (J 0), .int (J 2)]) (rest := []) (c_X12_in l D what 0 2 (show -2147483648 ≤ what ∧ what ≤ 2147483647 from (by omega)) (show -2147483648 ≤ (0 : Int) ∧ (0 : Int) ≤ 2147483647 from (by omega)) (show -2147483648 ≤ (2 : Int) ∧ (2 : Int) ≤ 2147483647 from (by omega))) mf_X12_in kw_1159 hG trivial rfl hl.1 ⟨⟨Nat.le_of_ble_eq_true rfl, Nat.le_of_ble_eq_true rfl⟩, Nat.le_of_ble_eq_true rfl, Nat.le_refl _, Nat.le_refl _⟩ rfl dX12_normal_26 (fun z_26 h_26 => ?_)
      have h_26 : (z_26 = 1 ∧ ((0 : Int) ≤ what ∧ what ≤ (2 : Int))) ∨ (z_26 = 0 ∧ ¬ ((0 : Int) ≤ what ∧ what ≤ (2 : Int))) := h_26
      refine j_if_eq SS (tgt := 40) (x := z_26) dX12_normal_29 (by decide) (by omega) (fun c_29 => ?_) (fun c_29 => ?_)
      · skip
        refine j_ldc SS (-1000000) kw_1213 dX12_normal_40 ?_
        exact W.iret SS.1 SS.2.1 hr (fun t ht hW => ⟨_, rfl, ⟨(-1000000), rfl, (by first | exact Or.inl ⟨fun q => by unfold noP at q; omega, rfl⟩ | exact Or.inr ⟨by unfold noP; omega, z_34, h_34, by first | exact Or.inl ⟨by omega, rfl⟩ | exact Or.inr ⟨by omega, by omega⟩⟩)⟩, ht⟩) (fun _ h => nomatch h) dX12_normal_42 hlk
      · skip
        refine lv_aload_n SS.1 SS.2.1 dX12_normal_32 rfl (lv_at hl 0 rfl) ?_
        refine lv_iload_n SS.1 SS.2.1 dX12_normal_33 rfl (lv_at hl 1 rfl) ?_
        refine j_vRi SS (As := [.int (J s)]) (rest := []) (c_X12_isRound3 l D o q u s (show 0 ≤ s ∧ s ≤ 7 from (by omega)) (show Sh u s from (p0.1 _ (by omega) (by omega)))) mf_X12_isRound kw_1360 hG hP hP (ci := 8) (q0 := 0) rfl rfl rfl rfl hl.1 ⟨⟨Nat.le_of_ble_eq_true rfl, Nat.le_of_ble_eq_true rfl⟩, Nat.le_of_ble_eq_true rfl, Nat.le_refl _, Nat.le_refl _⟩ rfl dX12_normal_34 (fun z_34 h_34 => ?_)
        have h_34 : rdM u s z_34 := h_34
        have rb := rdM_b h_34
        refine j_if_ne SS (tgt := 43) (x := z_34) dX12_normal_37 (by decide) (by omega) (fun c_37 => ?_) (fun c_37 => ?_)
        · skip
          refine lv_iload_n SS.1 SS.2.1 dX12_normal_43 rfl (lv_at hl 3 rfl) ?_
          refine j_if_ne SS (tgt := 56) (x := what) dX12_normal_44 (by decide) (by omega) (fun c_44 => ?_) (fun c_44 => ?_)
          · skip
            refine lv_iload_n SS.1 SS.2.1 dX12_normal_56 rfl (lv_at hl 3 rfl) ?_
            refine j_iconst SS dX12_normal_57 ?_
            refine j_icmp_ne SS (tgt := 70) (x := what) (y := 1) dX12_normal_58 (by decide) (by omega) (by decide) (fun c_58 => ?_) (fun c_58 => ?_)
            · skip
              refine lv_aload_n SS.1 SS.2.1 dX12_normal_70 rfl (lv_at hl 0 rfl) ?_
              refine lv_iload_n SS.1 SS.2.1 dX12_normal_71 rfl (lv_at hl 1 rfl) ?_
              refine lv_iload_n SS.1 SS.2.1 dX12_normal_72 rfl (lv_at hl 2 rfl) ?_
              refine j_vRi SS (As := [.int (J s), .int (J i)]) (rest := []) (c_X12_farOf2 l D o q u s i (show 0 ≤ s ∧ s ≤ 7 from (by omega)) (show Sh u s from (p0.1 _ (by omega) (by omega))) (show 0 ≤ i ∧ i < mN u s from (by first | omega | (have hq := (show Sh u s from p0.1 _ (by omega) (by omega)).1; omega))) (show 2 ≤ mN u s from (by first | omega | (have hq := (show Sh u s from p0.1 _ (by omega) (by omega)).1; omega)))) mf_X12_farOf kw_1372 hG hP hP (ci := 8) (q0 := 0) rfl rfl rfl rfl hl.1 ⟨⟨Nat.le_of_ble_eq_true rfl, Nat.le_of_ble_eq_true rfl⟩, Nat.le_of_ble_eq_true rfl, Nat.le_refl _, Nat.le_refl _⟩ rfl dX12_normal_73 (fun z_73 h_73 => ?_)
              have h_73 : z_73 = mFar u s i ∧ -6400 ≤ z_73 ∧ z_73 ≤ 6400 := h_73
              exact W.iret SS.1 SS.2.1 hr (fun t ht hW => ⟨_, rfl, ⟨z_73, rfl, (by first | exact Or.inl ⟨fun q => by unfold noP at q; omega, rfl⟩ | exact Or.inr ⟨by unfold noP; omega, z_34, h_34, by first | exact Or.inl ⟨by omega, rfl⟩ | exact Or.inr ⟨by omega, by omega⟩⟩)⟩, ht⟩) (fun _ h => nomatch h) dX12_normal_76 hlk
            · skip
              refine lv_aload_n SS.1 SS.2.1 dX12_normal_61 rfl (lv_at hl 0 rfl) ?_
              refine lv_iload_n SS.1 SS.2.1 dX12_normal_62 rfl (lv_at hl 1 rfl) ?_
              refine lv_iload_n SS.1 SS.2.1 dX12_normal_63 rfl (lv_at hl 2 rfl) ?_
              refine j_vRi SS (As := [.int (J s), .int (J i)]) (rest := []) (c_X12_normalY2 l D o q u s i (show 0 ≤ s ∧ s ≤ 7 from (by omega)) (show Sh u s from (p0.1 _ (by omega) (by omega))) (show 0 ≤ i ∧ i < mN u s from (by first | omega | (have hq := (show Sh u s from p0.1 _ (by omega) (by omega)).1; omega))) (show 2 ≤ mN u s from (by first | omega | (have hq := (show Sh u s from p0.1 _ (by omega) (by omega)).1; omega)))) mf_X12_normalY kw_1368 hG hP hP (ci := 8) (q0 := 0) rfl rfl rfl rfl hl.1 ⟨⟨Nat.le_of_ble_eq_true rfl, Nat.le_of_ble_eq_true rfl⟩, Nat.le_of_ble_eq_true rfl, Nat.le_refl _, Nat.le_refl _⟩ rfl dX12_normal_64 (fun z_64 h_64 => ?_)
              have h_64 : z_64 = mNY u s i ∧ -80 ≤ z_64 ∧ z_64 ≤ 80 := h_64
              refine lv_goto (tgt := 76) SS.1 SS.2.1 dX12_normal_67 (by decide) ?_
              exact W.iret SS.1 SS.2.1 hr (fun t ht hW => ⟨_, rfl, ⟨z_64, rfl, (by first | exact Or.inl ⟨fun q => by unfold noP at q; omega, rfl⟩ | exact Or.inr ⟨by unfold noP; omega, z_34, h_34, by first | exact Or.inl ⟨by omega, rfl⟩ | exact Or.inr ⟨by omega, by omega⟩⟩)⟩, ht⟩) (fun _ h => nomatch h) dX12_normal_76 hlk
          · skip
            refine lv_aload_n SS.1 SS.2.1 dX12_normal_47 rfl (lv_at hl 0 rfl) ?_
            refine lv_iload_n SS.1 SS.2.1 dX12_normal_48 rfl (lv_at hl 1 rfl) ?_
            refine lv_iload_n SS.1 SS.2.1 dX12_normal_49 rfl (lv_at hl 2 rfl) ?_
            refine j_vRi SS (As := [.int (J s), .int (J i)]) (rest := []) (c_X12_normalX2 l D o q u s i (show 0 ≤ s ∧ s ≤ 7 from (by omega)) (show Sh u s from (p0.1 _ (by omega) (by omega))) (show 0 ≤ i ∧ i < mN u s from (by first | omega | (have hq := (show Sh u s from p0.1 _ (by omega) (by omega)).1; omega))) (show 2 ≤ mN u s from (by first | omega | (have hq := (show Sh u s from p0.1 _ (by omega) (by omega)).1; omega)))) mf_X12_normalX kw_1364 hG hP hP (ci := 8) (q0 := 0) rfl rfl rfl rfl hl.1 ⟨⟨Nat.le_of_ble_eq_true rfl, Nat.le_of_ble_eq_true rfl⟩, Nat.le_of_ble_eq_true rfl, Nat.le_refl _, Nat.le_refl _⟩ rfl dX12_normal_50 (fun z_50 h_50 => ?_)
            have h_50 : z_50 = mNX u s i ∧ -80 ≤ z_50 ∧ z_50 ≤ 80 := h_50
            refine lv_goto (tgt := 76) SS.1 SS.2.1 dX12_normal_53 (by decide) ?_
            exact W.iret SS.1 SS.2.1 hr (fun t ht hW => ⟨_, rfl, ⟨z_50, rfl, (by first | exact Or.inl ⟨fun q => by unfold noP at q; omega, rfl⟩ | exact Or.inr ⟨by unfold noP; omega, z_34, h_34, by first | exact Or.inl ⟨by omega, rfl⟩ | exact Or.inr ⟨by omega, by omega⟩⟩)⟩, ht⟩) (fun _ h => nomatch h) dX12_normal_76 hlk
        · skip
          refine j_ldc SS (-1000000) kw_1213 dX12_normal_40 ?_
          exact W.iret SS.1 SS.2.1 hr (fun t ht hW => ⟨_, rfl, ⟨(-1000000), rfl, (by first | exact Or.inl ⟨fun q => by unfold noP at q; omega, rfl⟩ | exact Or.inr ⟨by unfold noP; omega, z_34, h_34, by first | exact Or.inl ⟨by omega, rfl⟩ | exact Or.inr ⟨by omega, by omega⟩⟩)⟩, ht⟩) (fun _ h => nomatch h) dX12_normal_42 hlk

