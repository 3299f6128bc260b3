
set_option maxHeartbeats 4000000 in
set_option maxRecDepth 100000 in
theorem c_X12_least3 (l : Launch) (D : JD) (o : Nat) (q : Nat → Nat) (u : MS) (s : Int) (k : Int) (p0 : IM u) (p1 : -2147483648 ≤ s ∧ s ≤ 2147483647) (p2 : -2147483648 ≤ k ∧ k ≤ 2147483647) : Met l yX12_least (jw yX12_least cX12_least 22 (some .int)) (jr 3 65) (jP [.ref o, .int (J s), .int (J k)] D (fun H => va_P D.1 j_cl (mW D o q u) H)) (jRi (fun z => leM u s k z)) 0 0 (fun _ => False) := by
  refine Met.ofW (cc := cX12_least) (maxL := 22) (ret := (some .int)) (by decide) rfl ?_
  intro pr en st mi args below meth co s₁ B hml hv
  obtain ⟨rfl, hG, hP⟩ := hv
  have hr := B.returns
  have hlk := B.notSynchronized
  have SS : jS pr mi co cX12_least 22 st _ RX12 := ⟨B.exec, B.bytes, hml, findClass_of_methodNamed B.named, fun w hw => atoms_spec (ws := (jw yX12_least cX12_least 22 (some .int))) B.pre w (List.mem_cons_of_mem _ hw)⟩
  have hl := lv_entry ([.ref o, .int (J s), .int (J k)]) (n := 22) (Nat.le_of_ble_eq_true rfl)
  rw [lg_entry_eq]
  generalize (lg_sl ([.ref o, .int (J s), .int (J k)]) ++ List.replicate (22 - (lg_sl ([.ref o, .int (J s), .int (J k)])).length) Slot.unset).toArray = ls at hl ⊢
  have hl : lv_has ls 22 [(0, .ref o), (1, .int (J s)), (2, .int (J k))] := hl
  refine lv_iload_n SS.1 SS.2.1 dX12_least_0 rfl (lv_at hl 1 rfl) ?_
  refine j_sRi SS (As := [.int (J s)]) (rest := []) (c_X12_isShape l D s (show -2147483648 ≤ s ∧ s ≤ 2147483647 from (by omega))) mf_X12_isShape kw_1156 hG trivial rfl hl.1 ⟨⟨Nat.le_of_ble_eq_true rfl, Nat.le_of_ble_eq_true rfl⟩, Nat.le_of_ble_eq_true rfl, Nat.le_refl _, Nat.le_refl _⟩ rfl dX12_least_1 (fun z_1 h_1 => ?_)
  have h_1 : (z_1 = 1 ∧ (0 ≤ s ∧ s ≤ 7)) ∨ (z_1 = 0 ∧ ¬ (0 ≤ s ∧ s ≤ 7)) := h_1
  refine j_if_eq SS (tgt := 24) (x := z_1) dX12_least_4 (by decide) (by omega) (fun c_4 => ?_) (fun c_4 => ?_)
  · skip
    refine j_ldc SS (-1000000) kw_1213 dX12_least_24 ?_
    exact W.iret SS.1 SS.2.1 hr (fun t ht hW => ⟨_, rfl, ⟨(-1000000), rfl, (Or.inl ⟨fun q => by have q1 := q.1; have q2 := q.2.1; have q3 := q.2.2; omega, rfl⟩)⟩, ht⟩) (fun _ h => nomatch h) dX12_least_26 hlk
  · skip
    refine lv_iload_n SS.1 SS.2.1 dX12_least_7 rfl (lv_at hl 2 rfl) ?_
    refine j_iconst SS dX12_least_8 ?_
    refine j_iconst SS dX12_least_9 ?_
    refine j_sRi SS (As := [.int (J k), .int (J 0), .int (J 2)]) (rest := []) (c_X12_in l D k 0 2 (show -2147483648 ≤ k ∧ k ≤ 2147483647 from (by omega)) (show -2147483648 ≤ (0 : Int) ∧ (0 : Int) ≤ 2147483647 from (by omega)) (show -2147483648 ≤ (2 : Int) ∧ (2 : Int) ≤ 2147483647 from (by omega))) mf_X12_in kw_1159 hG trivial rfl hl.1 ⟨⟨Nat.le_of_ble_eq_true rfl, Nat.le_of_ble_eq_true rfl⟩, Nat.le_of_ble_eq_true rfl, Nat.le_refl _, Nat.le_refl _⟩ rfl dX12_least_10 (fun z_10 h_10 => ?_)
    have h_10 : (z_10 = 1 ∧ ((0 : Int) ≤ k ∧ k ≤ (2 : Int))) ∨ (z_10 = 0 ∧ ¬ ((0 : Int) ≤ k ∧ k ≤ (2 : Int))) := h_10
    refine j_if_eq SS (tgt := 24) (x := z_10) dX12_least_13 (by decide) (by omega) (fun c_13 => ?_) (fun c_13 => ?_)
    · skip
      refine j_ldc SS (-1000000) kw_1213 dX12_least_24 ?_
      exact W.iret SS.1 SS.2.1 hr (fun t ht hW => ⟨_, rfl, ⟨(-1000000), rfl, (Or.inl ⟨fun q => by have q1 := q.1; have q2 := q.2.1; have q3 := q.2.2; omega, rfl⟩)⟩, ht⟩) (fun _ h => nomatch h) dX12_least_26 hlk
    · skip
      refine lv_aload_n SS.1 SS.2.1 dX12_least_16 rfl (lv_at hl 0 rfl) ?_
      refine lv_iload_n SS.1 SS.2.1 dX12_least_17 rfl (lv_at hl 1 rfl) ?_
      refine j_vRi SS (As := [.int (J s)]) (rest := []) (c_X12_isPolygon l D o q u s (show 0 ≤ s ∧ s ≤ 7 from (by omega)) (show Sh u s from (p0.1 _ (by omega) (by omega)))) mf_X12_isPolygon kw_1240 hG hP hP (ci := 8) (q0 := 0) rfl rfl rfl rfl hl.1 ⟨⟨Nat.le_of_ble_eq_true rfl, Nat.le_of_ble_eq_true rfl⟩, Nat.le_of_ble_eq_true rfl, Nat.le_refl _, Nat.le_refl _⟩ rfl dX12_least_18 (fun z_18 h_18 => ?_)
      have h_18 : (z_18 = 1 ∧ 2 < mN u s) ∨ (z_18 = 0 ∧ mN u s ≤ 2) := h_18
      refine j_if_ne SS (tgt := 27) (x := z_18) dX12_least_21 (by decide) (by omega) (fun c_21 => ?_) (fun c_21 => ?_)
      · skip
        have hSh := p0.1 s (by omega) (by omega)
        have hN := hSh.1
        have hd0 := Sh_d hSh (by omega)
        refine lv_aload_n SS.1 SS.2.1 dX12_least_27 rfl (lv_at hl 0 rfl) ?_
        refine lv_iload_n SS.1 SS.2.1 dX12_least_28 rfl (lv_at hl 1 rfl) ?_
        refine j_iconst SS dX12_least_29 ?_
        refine j_vRi SS (As := [.int (J s), .int (J 1)]) (rest := []) (c_X12_x l D o q u s 1 (show 0 ≤ s ∧ s ≤ 7 from (by omega)) (show 0 ≤ (1 : Int) ∧ (1 : Int) ≤ 1000000 from (by omega)) (show 0 < mN u s ∧ mN u s ≤ 24 from (by first | omega | (have hq := (show Sh u s from p0.1 _ (by omega) (by omega)).1; omega)))) mf_X12_x kw_1177 hG hP hP (ci := 8) (q0 := 0) rfl rfl rfl rfl hl.1 ⟨⟨Nat.le_of_ble_eq_true rfl, Nat.le_of_ble_eq_true rfl⟩, Nat.le_of_ble_eq_true rfl, Nat.le_refl _, Nat.le_refl _⟩ rfl dX12_least_30 (fun z_30 h_30 => ?_)
        have h_30 : z_30 = mX u s (1 : Int) := h_30
        have hb_30 := (show Sh u s from p0.1 _ (by omega) (by omega)).2.1 (by omega) (1 : Int) (by omega)
        refine lv_aload_n SS.1 SS.2.1 dX12_least_33 rfl (lv_at hl 0 rfl) ?_
        refine lv_iload_n SS.1 SS.2.1 dX12_least_34 rfl (lv_at hl 1 rfl) ?_
        refine j_iconst SS dX12_least_35 ?_
        refine j_vRi SS (As := [.int (J s), .int (J 0)]) (rest := [.int (J z_30)]) (c_X12_x l D o q u s 0 (show 0 ≤ s ∧ s ≤ 7 from (by omega)) (show 0 ≤ (0 : Int) ∧ (0 : Int) ≤ 1000000 from (by omega)) (show 0 < mN u s ∧ mN u s ≤ 24 from (by first | omega | (have hq := (show Sh u s from p0.1 _ (by omega) (by omega)).1; omega)))) mf_X12_x kw_1177 hG hP hP (ci := 8) (q0 := 0) rfl rfl rfl rfl hl.1 ⟨⟨Nat.le_of_ble_eq_true rfl, Nat.le_of_ble_eq_true rfl⟩, Nat.le_of_ble_eq_true rfl, Nat.le_refl _, Nat.le_refl _⟩ rfl dX12_least_36 (fun z_36 h_36 => ?_)
        have h_36 : z_36 = mX u s (0 : Int) := h_36
        have hb_36 := (show Sh u s from p0.1 _ (by omega) (by omega)).2.1 (by omega) (0 : Int) (by omega)
        refine j_isub SS (x := z_30) (y := z_36) dX12_least_39 ?_
        obtain ⟨ux, eux⟩ : ∃ z : Int, z = (z_30 - z_36) := ⟨_, rfl⟩
        rw [← eux]
        refine lv_istore_n (lv' := [(3, .int (J ux)), (0, .ref o), (1, .int (J s)), (2, .int (J k))]) SS.1 SS.2.1 dX12_least_40 rfl hl (by decide) rfl (fun ls hl => ?_)
        have b_ux : -80 ≤ ux ∧ ux ≤ 80 := by omega
        refine lv_aload_n SS.1 SS.2.1 dX12_least_41 rfl (lv_at hl 1 rfl) ?_
        refine lv_iload_n SS.1 SS.2.1 dX12_least_42 rfl (lv_at hl 2 rfl) ?_
        refine j_iconst SS dX12_least_43 ?_
        refine j_vRi SS (As := [.int (J s), .int (J 1)]) (rest := []) (c_X12_y l D o q u s 1 (show 0 ≤ s ∧ s ≤ 7 from (by omega)) (show 0 ≤ (1 : Int) ∧ (1 : Int) ≤ 1000000 from (by omega)) (show 0 < mN u s ∧ mN u s ≤ 24 from (by first | omega | (have hq := (show Sh u s from p0.1 _ (by omega) (by omega)).1; omega)))) mf_X12_y kw_1181 hG hP hP (ci := 8) (q0 := 0) rfl rfl rfl rfl hl.1 ⟨⟨Nat.le_of_ble_eq_true rfl, Nat.le_of_ble_eq_true rfl⟩, Nat.le_of_ble_eq_true rfl, Nat.le_refl _, Nat.le_refl _⟩ rfl dX12_least_44 (fun z_44 h_44 => ?_)
        have h_44 : z_44 = mY u s (1 : Int) := h_44
        have hb_44 := (show Sh u s from p0.1 _ (by omega) (by omega)).2.1 (by omega) (1 : Int) (by omega)
        refine lv_aload_n SS.1 SS.2.1 dX12_least_47 rfl (lv_at hl 1 rfl) ?_
        refine lv_iload_n SS.1 SS.2.1 dX12_least_48 rfl (lv_at hl 2 rfl) ?_
        refine j_iconst SS dX12_least_49 ?_
        refine j_vRi SS (As := [.int (J s), .int (J 0)]) (rest := [.int (J z_44)]) (c_X12_y l D o q u s 0 (show 0 ≤ s ∧ s ≤ 7 from (by omega)) (show 0 ≤ (0 : Int) ∧ (0 : Int) ≤ 1000000 from (by omega)) (show 0 < mN u s ∧ mN u s ≤ 24 from (by first | omega | (have hq := (show Sh u s from p0.1 _ (by omega) (by omega)).1; omega)))) mf_X12_y kw_1181 hG hP hP (ci := 8) (q0 := 0) rfl rfl rfl rfl hl.1 ⟨⟨Nat.le_of_ble_eq_true rfl, Nat.le_of_ble_eq_true rfl⟩, Nat.le_of_ble_eq_true rfl, Nat.le_refl _, Nat.le_refl _⟩ rfl dX12_least_50 (fun z_50 h_50 => ?_)
        have h_50 : z_50 = mY u s (0 : Int) := h_50
        have hb_50 := (show Sh u s from p0.1 _ (by omega) (by omega)).2.1 (by omega) (0 : Int) (by omega)
        refine j_isub SS (x := z_44) (y := z_50) dX12_least_53 ?_
        obtain ⟨uy, euy⟩ : ∃ z : Int, z = (z_44 - z_50) := ⟨_, rfl⟩
        rw [← euy]
        refine lv_istore (lv' := [(4, .int (J uy)), (3, .int (J ux)), (0, .ref o), (1, .int (J s)), (2, .int (J k))]) SS.1 SS.2.1 dX12_least_54 hl (by decide) rfl (fun ls hl => ?_)
        have b_uy : -80 ≤ uy ∧ uy ≤ 80 := by omega
        refine lv_aload_n SS.1 SS.2.1 dX12_least_56 rfl (lv_at hl 2 rfl) ?_
        refine lv_iload_n SS.1 SS.2.1 dX12_least_57 rfl (lv_at hl 3 rfl) ?_
        refine j_iconst SS dX12_least_58 ?_
        refine j_vRi SS (As := [.int (J s), .int (J 2)]) (rest := []) (c_X12_x l D o q u s 2 (show 0 ≤ s ∧ s ≤ 7 from (by omega)) (show 0 ≤ (2 : Int) ∧ (2 : Int) ≤ 1000000 from (by omega)) (show 0 < mN u s ∧ mN u s ≤ 24 from (by first | omega | (have hq := (show Sh u s from p0.1 _ (by omega) (by omega)).1; omega)))) mf_X12_x kw_1177 hG hP hP (ci := 8) (q0 := 0) rfl rfl rfl rfl hl.1 ⟨⟨Nat.le_of_ble_eq_true rfl, Nat.le_of_ble_eq_true rfl⟩, Nat.le_of_ble_eq_true rfl, Nat.le_refl _, Nat.le_refl _⟩ rfl dX12_least_59 (fun z_59 h_59 => ?_)
        have h_59 : z_59 = mX u s (2 : Int) := h_59
        have hb_59 := (show Sh u s from p0.1 _ (by omega) (by omega)).2.1 (by omega) (2 : Int) (by omega)
        refine lv_aload_n SS.1 SS.2.1 dX12_least_62 rfl (lv_at hl 2 rfl) ?_
        refine lv_iload_n SS.1 SS.2.1 dX12_least_63 rfl (lv_at hl 3 rfl) ?_
        refine j_iconst SS dX12_least_64 ?_
        refine j_vRi SS (As := [.int (J s), .int (J 0)]) (rest := [.int (J z_59)]) (c_X12_x l D o q u s 0 (show 0 ≤ s ∧ s ≤ 7 from (by omega)) (show 0 ≤ (0 : Int) ∧ (0 : Int) ≤ 1000000 from (by omega)) (show 0 < mN u s ∧ mN u s ≤ 24 from (by first | omega | (have hq := (show Sh u s from p0.1 _ (by omega) (by omega)).1; omega)))) mf_X12_x kw_1177 hG hP hP (ci := 8) (q0 := 0) rfl rfl rfl rfl hl.1 ⟨⟨Nat.le_of_ble_eq_true rfl, Nat.le_of_ble_eq_true rfl⟩, Nat.le_of_ble_eq_true rfl, Nat.le_refl _, Nat.le_refl _⟩ rfl dX12_least_65 (fun z_65 h_65 => ?_)
        have h_65 : z_65 = mX u s (0 : Int) := h_65
        have hb_65 := (show Sh u s from p0.1 _ (by omega) (by omega)).2.1 (by omega) (0 : Int) (by omega)
        refine j_isub SS (x := z_59) (y := z_65) dX12_least_68 ?_
        obtain ⟨vx, evx⟩ : ∃ z : Int, z = (z_59 - z_65) := ⟨_, rfl⟩
        rw [← evx]
        refine lv_istore (lv' := [(5, .int (J vx)), (4, .int (J uy)), (3, .int (J ux)), (0, .ref o), (1, .int (J s)), (2, .int (J k))]) SS.1 SS.2.1 dX12_least_69 hl (by decide) rfl (fun ls hl => ?_)
        have b_vx : -80 ≤ vx ∧ vx ≤ 80 := by omega
        refine lv_aload_n SS.1 SS.2.1 dX12_least_71 rfl (lv_at hl 3 rfl) ?_
        refine lv_iload_n SS.1 SS.2.1 dX12_least_72 rfl (lv_at hl 4 rfl) ?_
        refine j_iconst SS dX12_least_73 ?_
        refine j_vRi SS (As := [.int (J s), .int (J 2)]) (rest := []) (c_X12_y l D o q u s 2 (show 0 ≤ s ∧ s ≤ 7 from (by omega)) (show 0 ≤ (2 : Int) ∧ (2 : Int) ≤ 1000000 from (by omega)) (show 0 < mN u s ∧ mN u s ≤ 24 from (by first | omega | (have hq := (show Sh u s from p0.1 _ (by omega) (by omega)).1; omega)))) mf_X12_y kw_1181 hG hP hP (ci := 8) (q0 := 0) rfl rfl rfl rfl hl.1 ⟨⟨Nat.le_of_ble_eq_true rfl, Nat.le_of_ble_eq_true rfl⟩, Nat.le_of_ble_eq_true rfl, Nat.le_refl _, Nat.le_refl _⟩ rfl dX12_least_74 (fun z_74 h_74 => ?_)
        have h_74 : z_74 = mY u s (2 : Int) := h_74
        have hb_74 := (show Sh u s from p0.1 _ (by omega) (by omega)).2.1 (by omega) (2 : Int) (by omega)
        refine lv_aload_n SS.1 SS.2.1 dX12_least_77 rfl (lv_at hl 3 rfl) ?_
        refine lv_iload_n SS.1 SS.2.1 dX12_least_78 rfl (lv_at hl 4 rfl) ?_
        refine j_iconst SS dX12_least_79 ?_
        refine j_vRi SS (As := [.int (J s), .int (J 0)]) (rest := [.int (J z_74)]) (c_X12_y l D o q u s 0 (show 0 ≤ s ∧ s ≤ 7 from (by omega)) (show 0 ≤ (0 : Int) ∧ (0 : Int) ≤ 1000000 from (by omega)) (show 0 < mN u s ∧ mN u s ≤ 24 from (by first | omega | (have hq := (show Sh u s from p0.1 _ (by omega) (by omega)).1; omega)))) mf_X12_y kw_1181 hG hP hP (ci := 8) (q0 := 0) rfl rfl rfl rfl hl.1 ⟨⟨Nat.le_of_ble_eq_true rfl, Nat.le_of_ble_eq_true rfl⟩, Nat.le_of_ble_eq_true rfl, Nat.le_refl _, Nat.le_refl _⟩ rfl dX12_least_80 (fun z_80 h_80 => ?_)
        have h_80 : z_80 = mY u s (0 : Int) := h_80
        have hb_80 := (show Sh u s from p0.1 _ (by omega) (by omega)).2.1 (by omega) (0 : Int) (by omega)
        refine j_isub SS (x := z_74) (y := z_80) dX12_least_83 ?_
        obtain ⟨vy, evy⟩ : ∃ z : Int, z = (z_74 - z_80) := ⟨_, rfl⟩
        rw [← evy]
        refine lv_istore (lv' := [(6, .int (J vy)), (5, .int (J vx)), (4, .int (J uy)), (3, .int (J ux)), (0, .ref o), (1, .int (J s)), (2, .int (J k))]) SS.1 SS.2.1 dX12_least_84 hl (by decide) rfl (fun ls hl => ?_)
        have b_vy : -80 ≤ vy ∧ vy ≤ 80 := by omega
        refine lv_iload_n SS.1 SS.2.1 dX12_least_86 rfl (lv_at hl 3 rfl) ?_
        refine lv_iload SS.1 SS.2.1 dX12_least_87 (lv_at hl 2 rfl) ?_
        refine lv_iload SS.1 SS.2.1 dX12_least_89 (lv_at hl 1 rfl) ?_
        refine lv_iload SS.1 SS.2.1 dX12_least_91 (lv_at hl 0 rfl) ?_
        refine j_sRi SS (As := [.int (J ux), .int (J uy), .int (J vx), .int (J vy)]) (rest := []) (c_X12_cross l D ux uy vx vy ) mf_X12_cross kw_1259 hG trivial rfl hl.1 ⟨⟨Nat.le_of_ble_eq_true rfl, Nat.le_of_ble_eq_true rfl⟩, Nat.le_of_ble_eq_true rfl, Nat.le_refl _, Nat.le_refl _⟩ rfl dX12_least_93 (fun z_93 h_93 => ?_)
        have h_93 : z_93 = ux * vy - uy * vx := h_93
        refine lv_istore (lv' := [(7, .int (J z_93)), (6, .int (J vy)), (5, .int (J vx)), (4, .int (J uy)), (3, .int (J ux)), (0, .ref o), (1, .int (J s)), (2, .int (J k))]) SS.1 SS.2.1 dX12_least_96 hl (by decide) rfl (fun ls hl => ?_)
        have hd : 0 < z_93 := by rw [h_93, eux, euy, evx, evy, h_30, h_36, h_44, h_50, h_59, h_65, h_74, h_80]; exact hd0
        have hdu : z_93 ≤ 12800 := by have g1 := mulb (A := 80) (B := 80) b_ux b_vy; have g2 := mulb (A := 80) (B := 80) b_uy b_vx; omega
        have kux : ux = mX u s 1 - mX u s 0 ∧ uy = mY u s 1 - mY u s 0 := ⟨by rw [eux, h_30, h_36], by rw [euy, h_44, h_50]⟩
        have kvx : vx = mX u s 2 - mX u s 0 ∧ vy = mY u s 2 - mY u s 0 := ⟨by rw [evx, h_59, h_65], by rw [evy, h_74, h_80]⟩
        have hB : ∀ a b w : Int, wdM u s a b w → (-w ≤ a * ux + b * uy ∧ a * ux + b * uy ≤ w) ∧ -w ≤ a * vx + b * vy ∧ a * vx + b * vy ≤ w := fun a b w h => by rw [kux.1, kux.2, kvx.1, kvx.2]; exact ⟨wdM_p h (by omega) (by omega), wdM_p h (by omega) (by omega)⟩
        refine lv_aload_n SS.1 SS.2.1 dX12_least_98 rfl (lv_at hl 5 rfl) ?_
        refine lv_iload_n SS.1 SS.2.1 dX12_least_99 rfl (lv_at hl 6 rfl) ?_
        refine j_iconst SS dX12_least_100 ?_
        refine j_iconst SS dX12_least_101 ?_
        refine j_vRi SS (As := [.int (J s), .int (J 1), .int (J 0)]) (rest := []) (c_X12_widthOf2 l D o q u s 1 0 (show 0 ≤ s ∧ s ≤ 7 from (by omega)) (show Sh u s from (hSh)) (show 0 < mN u s from (by omega)) (show -1000000 ≤ (1 : Int) ∧ (1 : Int) ≤ 1000000 from (by omega)) (show -1000000 ≤ (0 : Int) ∧ (0 : Int) ≤ 1000000 from (by omega))) mf_X12_widthOf kw_1277 hG hP hP (ci := 8) (q0 := 0) rfl rfl rfl rfl hl.1 ⟨⟨Nat.le_of_ble_eq_true rfl, Nat.le_of_ble_eq_true rfl⟩, Nat.le_of_ble_eq_true rfl, Nat.le_refl _, Nat.le_refl _⟩ rfl dX12_least_102 (fun z_102 h_102 => ?_)
        have h_102 : wdM u s (1 : Int) (0 : Int) z_102 ∧ 0 ≤ z_102 ∧ z_102 ≤ 400000000 := h_102
        refine lv_istore (lv' := [(8, .int (J z_102)), (7, .int (J z_93)), (6, .int (J vy)), (5, .int (J vx)), (4, .int (J uy)), (3, .int (J ux)), (0, .ref o), (1, .int (J s)), (2, .int (J k))]) SS.1 SS.2.1 dX12_least_105 hl (by decide) rfl (fun ls hl => ?_)
        refine lv_aload_n SS.1 SS.2.1 dX12_least_107 rfl (lv_at hl 6 rfl) ?_
        refine lv_iload_n SS.1 SS.2.1 dX12_least_108 rfl (lv_at hl 7 rfl) ?_
        refine j_iconst SS dX12_least_109 ?_
        refine j_iconst SS dX12_least_110 ?_
        refine j_vRi SS (As := [.int (J s), .int (J 0), .int (J 1)]) (rest := []) (c_X12_widthOf2 l D o q u s 0 1 (show 0 ≤ s ∧ s ≤ 7 from (by omega)) (show Sh u s from (hSh)) (show 0 < mN u s from (by omega)) (show -1000000 ≤ (0 : Int) ∧ (0 : Int) ≤ 1000000 from (by omega)) (show -1000000 ≤ (1 : Int) ∧ (1 : Int) ≤ 1000000 from (by omega))) mf_X12_widthOf kw_1277 hG hP hP (ci := 8) (q0 := 0) rfl rfl rfl rfl hl.1 ⟨⟨Nat.le_of_ble_eq_true rfl, Nat.le_of_ble_eq_true rfl⟩, Nat.le_of_ble_eq_true rfl, Nat.le_refl _, Nat.le_refl _⟩ rfl dX12_least_111 (fun z_111 h_111 => ?_)
        have h_111 : wdM u s (0 : Int) (1 : Int) z_111 ∧ 0 ≤ z_111 ∧ z_111 ≤ 400000000 := h_111
        refine lv_istore (lv' := [(9, .int (J z_111)), (8, .int (J z_102)), (7, .int (J z_93)), (6, .int (J vy)), (5, .int (J vx)), (4, .int (J uy)), (3, .int (J ux)), (0, .ref o), (1, .int (J s)), (2, .int (J k))]) SS.1 SS.2.1 dX12_least_114 hl (by decide) rfl (fun ls hl => ?_)
        refine lv_iload SS.1 SS.2.1 dX12_least_116 (lv_at hl 1 rfl) ?_
        refine lv_iload SS.1 SS.2.1 dX12_least_118 (lv_at hl 0 rfl) ?_
        have L_130 : ∀ (m : Int) (ls : Array Slot) (hl : lv_has ls 22 [(0, .ref o), (1, .int (J s)), (2, .int (J k)), (3, .int (J ux)), (4, .int (J uy)), (5, .int (J vx)), (6, .int (J vy)), (7, .int (J z_93))]) (i130_0 : (0 ≤ m ∧ m ≤ 320) ∧ (m = z_102 ∨ m = z_111)), W pr l en (headSpec (jw yX12_least cX12_least 22 (some .int)) (jr 3 65)).room st mi (([.ref o, .int (J s), .int (J k)] : List Value).toArray) below meth co st.heap [] 0 0 (MQ below (jRi (fun z => leM u s k z)) (([.ref o, .int (J s), .int (J k)] : List Value).toArray) st 0 0 (fun _ => False)) (F0 mi 130 ls [.int (J m)]) := by
          intro m ls hl i130_0
          refine lv_istore (lv' := [(10, .int (J m)), (0, .ref o), (1, .int (J s)), (2, .int (J k)), (3, .int (J ux)), (4, .int (J uy)), (5, .int (J vx)), (6, .int (J vy)), (7, .int (J z_93))]) SS.1 SS.2.1 dX12_least_130 hl (by decide) rfl (fun ls hl => ?_)
          refine j_ldc SS (-1000000) kw_1213 dX12_least_132 ?_
          refine lv_istore (lv' := [(11, .int (J (-1000000))), (10, .int (J m)), (0, .ref o), (1, .int (J s)), (2, .int (J k)), (3, .int (J ux)), (4, .int (J uy)), (5, .int (J vx)), (6, .int (J vy)), (7, .int (J z_93))]) SS.1 SS.2.1 dX12_least_134 hl (by decide) rfl (fun ls hl => ?_)
          refine j_ldc SS (-1000000) kw_1213 dX12_least_136 ?_
          refine lv_istore (lv' := [(12, .int (J (-1000000))), (11, .int (J (-1000000))), (10, .int (J m)), (0, .ref o), (1, .int (J s)), (2, .int (J k)), (3, .int (J ux)), (4, .int (J uy)), (5, .int (J vx)), (6, .int (J vy)), (7, .int (J z_93))]) SS.1 SS.2.1 dX12_least_138 hl (by decide) rfl (fun ls hl => ?_)
          refine lv_iload SS.1 SS.2.1 dX12_least_140 (lv_at hl 2 rfl) ?_
          refine lv_istore (lv' := [(13, .int (J m)), (12, .int (J (-1000000))), (11, .int (J (-1000000))), (10, .int (J m)), (0, .ref o), (1, .int (J s)), (2, .int (J k)), (3, .int (J ux)), (4, .int (J uy)), (5, .int (J vx)), (6, .int (J vy)), (7, .int (J z_93))]) SS.1 SS.2.1 dX12_least_142 hl (by decide) rfl (fun ls hl => ?_)
          refine lv_iload SS.1 SS.2.1 dX12_least_144 (lv_at hl 3 rfl) ?_
          refine j_ineg SS dX12_least_146 ?_
          refine lv_istore (lv' := [(14, .int (J (-m))), (13, .int (J m)), (12, .int (J (-1000000))), (11, .int (J (-1000000))), (10, .int (J m)), (0, .ref o), (1, .int (J s)), (2, .int (J k)), (3, .int (J ux)), (4, .int (J uy)), (5, .int (J vx)), (6, .int (J vy)), (7, .int (J z_93))]) SS.1 SS.2.1 dX12_least_147 hl (by decide) rfl (fun ls hl => ?_)
          have L_149 : ∀ (nn : Nat) (ba : Int) (bb : Int) (be : Int) (x : Int) (ls : Array Slot) (hl : lv_has ls 22 [(0, .ref o), (1, .int (J s)), (2, .int (J k)), (3, .int (J ux)), (4, .int (J uy)), (5, .int (J vx)), (6, .int (J vy)), (7, .int (J z_93)), (10, .int (J m)), (11, .int (J ba)), (12, .int (J bb)), (13, .int (J be)), (14, .int (J x))]) (i149_0 : -m ≤ x ∧ x ≤ m + 1) (i149_1 : -1000000 ≤ ba ∧ ba ≤ 1000000) (i149_2 : -1000000 ≤ bb ∧ bb ≤ 1000000) (i149_3 : 0 ≤ be ∧ be ≤ 400000000) (i149_4 : LI u s m (fun a b => a * ux + b * uy < x) be ba bb), (m + 1 - x).toNat < nn → W pr l en (headSpec (jw yX12_least cX12_least 22 (some .int)) (jr 3 65)).room st mi (([.ref o, .int (J s), .int (J k)] : List Value).toArray) below meth co st.heap [] 0 0 (MQ below (jRi (fun z => leM u s k z)) (([.ref o, .int (J s), .int (J k)] : List Value).toArray) st 0 0 (fun _ => False)) (F0 mi 149 ls []) := by
            intro nn
            induction nn with
            | zero => intros; omega
            | succ nn ih_149 =>
              intro ba bb be x ls hl i149_0 i149_1 i149_2 i149_3 i149_4 hm
              refine lv_iload SS.1 SS.2.1 dX12_least_149 (lv_at hl 12 rfl) ?_
              refine lv_iload SS.1 SS.2.1 dX12_least_151 (lv_at hl 8 rfl) ?_
              refine j_icmp_gt SS (tgt := 335) (x := x) (y := m) dX12_least_153 (by decide) (by omega) (by omega) (fun c_153 => ?_) (fun c_153 => ?_)
              · skip
                refine lv_iload_n SS.1 SS.2.1 dX12_least_335 rfl (lv_at hl 2 rfl) ?_
                refine j_if_ne SS (tgt := 344) (x := k) dX12_least_336 (by decide) (by omega) (fun c_336 => ?_) (fun c_336 => ?_)
                · skip
                  refine lv_iload_n SS.1 SS.2.1 dX12_least_344 rfl (lv_at hl 2 rfl) ?_
                  refine j_iconst SS dX12_least_345 ?_
                  refine j_icmp_ne SS (tgt := 354) (x := k) (y := 1) dX12_least_346 (by decide) (by omega) (by decide) (fun c_346 => ?_) (fun c_346 => ?_)
                  · skip
                    refine lv_iload SS.1 SS.2.1 dX12_least_354 (lv_at hl 10 rfl) ?_
                    exact W.iret SS.1 SS.2.1 hr (fun t ht hW => ⟨_, rfl, ⟨bb, rfl, (by have kE := LI_e (by omega) h_102.1 h_111.1 i130_0.2 kux (show m < x by omega) i149_4; exact Or.inr ⟨⟨by omega, by omega, by omega⟩, be, ba, bb, kE.1, kE.2.1, kE.2.2, by omega⟩)⟩, ht⟩) (fun _ h => nomatch h) dX12_least_356 hlk
                  · skip
                    refine lv_iload SS.1 SS.2.1 dX12_least_349 (lv_at hl 9 rfl) ?_
                    refine lv_goto (tgt := 356) SS.1 SS.2.1 dX12_least_351 (by decide) ?_
                    exact W.iret SS.1 SS.2.1 hr (fun t ht hW => ⟨_, rfl, ⟨ba, rfl, (by have kE := LI_e (by omega) h_102.1 h_111.1 i130_0.2 kux (show m < x by omega) i149_4; exact Or.inr ⟨⟨by omega, by omega, by omega⟩, be, ba, bb, kE.1, kE.2.1, kE.2.2, by omega⟩)⟩, ht⟩) (fun _ h => nomatch h) dX12_least_356 hlk
                · skip
                  refine lv_iload SS.1 SS.2.1 dX12_least_339 (lv_at hl 11 rfl) ?_
                  refine lv_goto (tgt := 356) SS.1 SS.2.1 dX12_least_341 (by decide) ?_
                  exact W.iret SS.1 SS.2.1 hr (fun t ht hW => ⟨_, rfl, ⟨be, rfl, (by have kE := LI_e (by omega) h_102.1 h_111.1 i130_0.2 kux (show m < x by omega) i149_4; exact Or.inr ⟨⟨by omega, by omega, by omega⟩, be, ba, bb, kE.1, kE.2.1, kE.2.2, by omega⟩)⟩, ht⟩) (fun _ h => nomatch h) dX12_least_356 hlk
              · skip
                refine lv_iload SS.1 SS.2.1 dX12_least_156 (lv_at hl 8 rfl) ?_
                refine j_ineg SS dX12_least_158 ?_
                refine lv_istore (lv' := [(15, .int (J (-m))), (0, .ref o), (1, .int (J s)), (2, .int (J k)), (3, .int (J ux)), (4, .int (J uy)), (5, .int (J vx)), (6, .int (J vy)), (7, .int (J z_93)), (10, .int (J m)), (11, .int (J ba)), (12, .int (J bb)), (13, .int (J be)), (14, .int (J x))]) SS.1 SS.2.1 dX12_least_159 hl (by decide) rfl (fun ls hl => ?_)
                have L_161 : ∀ (nn : Nat) (ba2 : Int) (bb2 : Int) (be2 : Int) (y : Int) (ls : Array Slot) (hl : lv_has ls 22 [(0, .ref o), (1, .int (J s)), (2, .int (J k)), (3, .int (J ux)), (4, .int (J uy)), (5, .int (J vx)), (6, .int (J vy)), (7, .int (J z_93)), (10, .int (J m)), (11, .int (J ba2)), (12, .int (J bb2)), (13, .int (J be2)), (14, .int (J x)), (15, .int (J y))]) (i161_0 : -m ≤ y ∧ y ≤ m + 1) (i161_1 : -1000000 ≤ ba2 ∧ ba2 ≤ 1000000) (i161_2 : -1000000 ≤ bb2 ∧ bb2 ≤ 1000000) (i161_3 : 0 ≤ be2 ∧ be2 ≤ 400000000) (i161_4 : LI u s m (fun a b => a * ux + b * uy < x ∨ (a * ux + b * uy = x ∧ a * vx + b * vy < y)) be2 ba2 bb2), (m + 1 - y).toNat < nn → W pr l en (headSpec (jw yX12_least cX12_least 22 (some .int)) (jr 3 65)).room st mi (([.ref o, .int (J s), .int (J k)] : List Value).toArray) below meth co st.heap [] 0 0 (MQ below (jRi (fun z => leM u s k z)) (([.ref o, .int (J s), .int (J k)] : List Value).toArray) st 0 0 (fun _ => False)) (F0 mi 161 ls []) := by
                  intro nn
                  induction nn with
                  | zero => intros; omega
                  | succ nn ih_161 =>
                    intro ba2 bb2 be2 y ls hl i161_0 i161_1 i161_2 i161_3 i161_4 hm
                    refine lv_iload SS.1 SS.2.1 dX12_least_161 (lv_at hl 13 rfl) ?_
                    refine lv_iload SS.1 SS.2.1 dX12_least_163 (lv_at hl 8 rfl) ?_
                    refine j_icmp_gt SS (tgt := 329) (x := y) (y := m) dX12_least_165 (by decide) (by omega) (by omega) (fun c_165 => ?_) (fun c_165 => ?_)
                    · skip
                      refine lv_iinc (v := J (x + 1)) (lv' := [(14, .int (J (x + 1))), (0, .ref o), (1, .int (J s)), (2, .int (J k)), (3, .int (J ux)), (4, .int (J uy)), (5, .int (J vx)), (6, .int (J vy)), (7, .int (J z_93)), (10, .int (J m)), (11, .int (J ba2)), (12, .int (J bb2)), (13, .int (J be2)), (15, .int (J y))]) SS.1 SS.2.1 dX12_least_329 hl (k := 12) rfl (J_add _ _) (by decide) rfl (fun ls hl => ?_)
                      refine lv_goto (tgt := 149) SS.1 SS.2.1 dX12_least_332 (by decide) ?_
                      exact ih_149 ba2 bb2 be2 (x + 1) ls (lv_sub hl [1, 2, 3, 4, 5, 6, 7, 8, 9, 10, 11, 12, 0] rfl) (by omega) (by omega) (by omega) (by omega) (LI_s i161_4 (fun a b w h1 h2 h3 h4 => by have h5 := hB a b w h3; by_cases e : a * ux + b * uy < x; exact Or.inl e; exact Or.inr ⟨by omega, by omega⟩)) (by omega)
                    · skip
                      have b1 : -320 ≤ x ∧ x ≤ 320 := by omega
                      have b2 : -320 ≤ y ∧ y ≤ 320 := by omega
                      refine lv_iload SS.1 SS.2.1 dX12_least_168 (lv_at hl 12 rfl) ?_
                      refine lv_iload SS.1 SS.2.1 dX12_least_170 (lv_at hl 6 rfl) ?_
                      refine j_imul SS (x := x) (y := vy) dX12_least_172 ?_
                      refine lv_iload SS.1 SS.2.1 dX12_least_173 (lv_at hl 13 rfl) ?_
                      refine lv_iload SS.1 SS.2.1 dX12_least_175 (lv_at hl 4 rfl) ?_
                      refine j_imul SS (x := y) (y := uy) dX12_least_177 ?_
                      refine j_isub SS (x := (x * vy)) (y := (y * uy)) dX12_least_178 ?_
                      obtain ⟨up, eup⟩ : ∃ z : Int, z = ((x * vy) - (y * uy)) := ⟨_, rfl⟩
                      rw [← eup]
                      refine lv_istore (lv' := [(16, .int (J up)), (0, .ref o), (1, .int (J s)), (2, .int (J k)), (3, .int (J ux)), (4, .int (J uy)), (5, .int (J vx)), (6, .int (J vy)), (7, .int (J z_93)), (10, .int (J m)), (11, .int (J ba2)), (12, .int (J bb2)), (13, .int (J be2)), (14, .int (J x)), (15, .int (J y))]) SS.1 SS.2.1 dX12_least_179 hl (by decide) rfl (fun ls hl => ?_)
                      refine lv_iload SS.1 SS.2.1 dX12_least_181 (lv_at hl 14 rfl) ?_
                      refine lv_iload_n SS.1 SS.2.1 dX12_least_183 rfl (lv_at hl 4 rfl) ?_
                      refine j_imul SS (x := y) (y := ux) dX12_least_184 ?_
                      refine lv_iload SS.1 SS.2.1 dX12_least_185 (lv_at hl 13 rfl) ?_
                      refine lv_iload SS.1 SS.2.1 dX12_least_187 (lv_at hl 6 rfl) ?_
                      refine j_imul SS (x := x) (y := vx) dX12_least_189 ?_
                      refine j_isub SS (x := (y * ux)) (y := (x * vx)) dX12_least_190 ?_
                      obtain ⟨dn, edn⟩ : ∃ z : Int, z = ((y * ux) - (x * vx)) := ⟨_, rfl⟩
                      rw [← edn]
                      refine lv_istore (lv' := [(17, .int (J dn)), (16, .int (J up)), (0, .ref o), (1, .int (J s)), (2, .int (J k)), (3, .int (J ux)), (4, .int (J uy)), (5, .int (J vx)), (6, .int (J vy)), (7, .int (J z_93)), (10, .int (J m)), (11, .int (J ba2)), (12, .int (J bb2)), (13, .int (J be2)), (14, .int (J x)), (15, .int (J y))]) SS.1 SS.2.1 dX12_least_191 hl (by decide) rfl (fun ls hl => ?_)
                      have g1 := mulb (A := 320) (B := 80) (a := x) b1 b_vy
                      have g2 := mulb (A := 320) (B := 80) (a := y) b2 b_uy
                      have g3 := mulb (A := 320) (B := 80) (a := y) b2 b_ux
                      have g4 := mulb (A := 320) (B := 80) (a := x) b1 b_vx
                      have b_up : -51200 ≤ up ∧ up ≤ 51200 := by omega
                      have b_dn : -51200 ≤ dn ∧ dn ≤ 51200 := by omega
                      have r1 := tm_c (a := up) (n := z_93) hd
                      have r2 := tm_c (a := dn) (n := z_93) hd
                      have r3 := td_b (b := z_93) b_up
                      have r4 := td_b (b := z_93) b_dn
                      refine lv_iload SS.1 SS.2.1 dX12_least_193 (lv_at hl 1 rfl) ?_
                      refine lv_iload SS.1 SS.2.1 dX12_least_195 (lv_at hl 9 rfl) ?_
                      refine j_irem SS (x := up) (y := z_93) dX12_least_197 (by omega) (by omega) (by omega) ?_
                      have L_323 : ∀ (ba3 : Int) (bb3 : Int) (be3 : Int) (ls : Array Slot) (hl : lv_has ls 22 [(0, .ref o), (1, .int (J s)), (2, .int (J k)), (3, .int (J ux)), (4, .int (J uy)), (5, .int (J vx)), (6, .int (J vy)), (7, .int (J z_93)), (10, .int (J m)), (11, .int (J ba3)), (12, .int (J bb3)), (13, .int (J be3)), (14, .int (J x)), (15, .int (J y))]) (i323_0 : -1000000 ≤ ba3 ∧ ba3 ≤ 1000000) (i323_1 : -1000000 ≤ bb3 ∧ bb3 ≤ 1000000) (i323_2 : 0 ≤ be3 ∧ be3 ≤ 400000000) (i323_3 : LI u s m (fun a b => a * ux + b * uy < x ∨ (a * ux + b * uy = x ∧ a * vx + b * vy < (y + 1))) be3 ba3 bb3), W pr l en (headSpec (jw yX12_least cX12_least 22 (some .int)) (jr 3 65)).room st mi (([.ref o, .int (J s), .int (J k)] : List Value).toArray) below meth co st.heap [] 0 0 (MQ below (jRi (fun z => leM u s k z)) (([.ref o, .int (J s), .int (J k)] : List Value).toArray) st 0 0 (fun _ => False)) (F0 mi 323 ls []) := by
                        intro ba3 bb3 be3 ls hl i323_0 i323_1 i323_2 i323_3
                        refine lv_iinc (v := J (y + 1)) (lv' := [(15, .int (J (y + 1))), (0, .ref o), (1, .int (J s)), (2, .int (J k)), (3, .int (J ux)), (4, .int (J uy)), (5, .int (J vx)), (6, .int (J vy)), (7, .int (J z_93)), (10, .int (J m)), (11, .int (J ba3)), (12, .int (J bb3)), (13, .int (J be3)), (14, .int (J x))]) SS.1 SS.2.1 dX12_least_323 hl (k := 13) rfl (J_add _ _) (by decide) rfl (fun ls hl => ?_)
                        refine lv_goto (tgt := 161) SS.1 SS.2.1 dX12_least_326 (by decide) ?_
                        exact ih_161 ba3 bb3 be3 (y + 1) ls (lv_sub hl [1, 2, 3, 4, 5, 6, 7, 8, 9, 10, 11, 12, 13, 0] rfl) (by omega) (by omega) (by omega) (by omega) (i323_3) (by omega)
                      refine j_if_ne SS (tgt := 323) (x := (Int.tmod up z_93)) dX12_least_198 (by decide) (by omega) (fun c_198 => ?_) (fun c_198 => ?_)
                      · skip
                        exact L_323 ba2 bb2 be2 ls (lv_sub hl [2, 3, 4, 5, 6, 7, 8, 9, 10, 11, 12, 13, 14, 15] rfl) (by first | omega | (rw [ea_]; omega)) (by first | omega | (rw [eb_]; omega)) (by omega) (LI_s i161_4 (fun a b w h1 h2 h3 h4 => by rcases h2 with k | ⟨k1, k2⟩; (exact Or.inl k); by_cases e : a * vx + b * vy < y; (exact Or.inr ⟨k1, e⟩); exfalso; obtain ⟨q1, q2⟩ := mat_q h_93 k1 (show a * vx + b * vy = y by omega); have t1 := mat_t (show z_93 ≠ 0 by omega) (eup.trans q1); have t2 := mat_t (show z_93 ≠ 0 by omega) (edn.trans q2); first | omega | (have w1 := h_219; rw [t1.2, t2.2] at w1; unfold way1 at h1; rcases w1 with w1 | w1; omega; exact w1.2 h1)))
                      · skip
                        refine lv_iload SS.1 SS.2.1 dX12_least_201 (lv_at hl 0 rfl) ?_
                        refine lv_iload SS.1 SS.2.1 dX12_least_203 (lv_at hl 9 rfl) ?_
                        refine j_irem SS (x := dn) (y := z_93) dX12_least_205 (by omega) (by omega) (by omega) ?_
                        refine j_if_ne SS (tgt := 323) (x := (Int.tmod dn z_93)) dX12_least_206 (by decide) (by omega) (fun c_206 => ?_) (fun c_206 => ?_)
                        · skip
                          exact L_323 ba2 bb2 be2 ls (lv_sub hl [2, 3, 4, 5, 6, 7, 8, 9, 10, 11, 12, 13, 14, 15] rfl) (by first | omega | (rw [ea_]; omega)) (by first | omega | (rw [eb_]; omega)) (by omega) (LI_s i161_4 (fun a b w h1 h2 h3 h4 => by rcases h2 with k | ⟨k1, k2⟩; (exact Or.inl k); by_cases e : a * vx + b * vy < y; (exact Or.inr ⟨k1, e⟩); exfalso; obtain ⟨q1, q2⟩ := mat_q h_93 k1 (show a * vx + b * vy = y by omega); have t1 := mat_t (show z_93 ≠ 0 by omega) (eup.trans q1); have t2 := mat_t (show z_93 ≠ 0 by omega) (edn.trans q2); first | omega | (have w1 := h_219; rw [t1.2, t2.2] at w1; unfold way1 at h1; rcases w1 with w1 | w1; omega; exact w1.2 h1)))
                        · skip
                          refine lv_iload SS.1 SS.2.1 dX12_least_209 (lv_at hl 1 rfl) ?_
                          refine lv_iload SS.1 SS.2.1 dX12_least_211 (lv_at hl 9 rfl) ?_
                          refine j_idiv SS (x := up) (y := z_93) dX12_least_213 (by omega) (by omega) (by omega) ?_
                          refine lv_iload SS.1 SS.2.1 dX12_least_214 (lv_at hl 0 rfl) ?_
                          refine lv_iload SS.1 SS.2.1 dX12_least_216 (lv_at hl 9 rfl) ?_
                          refine j_idiv SS (x := dn) (y := z_93) dX12_least_218 (by omega) (by omega) (by omega) ?_
                          refine j_sRi SS (As := [.int (J (Int.tdiv up z_93)), .int (J (Int.tdiv dn z_93))]) (rest := []) (c_X12_isWay l D (Int.tdiv up z_93) (Int.tdiv dn z_93) (show -2147483648 < (Int.tdiv up z_93) ∧ (Int.tdiv up z_93) ≤ 2147483647 from (by omega)) (show -2147483648 < (Int.tdiv dn z_93) ∧ (Int.tdiv dn z_93) ≤ 2147483647 from (by omega))) mf_X12_isWay kw_1274 hG trivial rfl hl.1 ⟨⟨Nat.le_of_ble_eq_true rfl, Nat.le_of_ble_eq_true rfl⟩, Nat.le_of_ble_eq_true rfl, Nat.le_refl _, Nat.le_refl _⟩ rfl dX12_least_219 (fun z_219 h_219 => ?_)
                          have h_219 : (z_219 = 1 ∧ ((Int.gcd (Int.tdiv up z_93) (Int.tdiv dn z_93) : Int) = 1 ∧ (0 < (Int.tdiv up z_93) ∨ ((Int.tdiv up z_93) = 0 ∧ (Int.tdiv dn z_93) = 1)))) ∨ (z_219 = 0 ∧ ¬ ((Int.gcd (Int.tdiv up z_93) (Int.tdiv dn z_93) : Int) = 1 ∧ (0 < (Int.tdiv up z_93) ∨ ((Int.tdiv up z_93) = 0 ∧ (Int.tdiv dn z_93) = 1)))) := h_219
                          refine j_if_eq SS (tgt := 323) (x := z_219) dX12_least_222 (by decide) (by omega) (fun c_222 => ?_) (fun c_222 => ?_)
                          · skip
                            exact L_323 ba2 bb2 be2 ls (lv_sub hl [2, 3, 4, 5, 6, 7, 8, 9, 10, 11, 12, 13, 14, 15] rfl) (by first | omega | (rw [ea_]; omega)) (by first | omega | (rw [eb_]; omega)) (by omega) (LI_s i161_4 (fun a b w h1 h2 h3 h4 => by rcases h2 with k | ⟨k1, k2⟩; (exact Or.inl k); by_cases e : a * vx + b * vy < y; (exact Or.inr ⟨k1, e⟩); exfalso; obtain ⟨q1, q2⟩ := mat_q h_93 k1 (show a * vx + b * vy = y by omega); have t1 := mat_t (show z_93 ≠ 0 by omega) (eup.trans q1); have t2 := mat_t (show z_93 ≠ 0 by omega) (edn.trans q2); first | omega | (have w1 := h_219; rw [t1.2, t2.2] at w1; unfold way1 at h1; rcases w1 with w1 | w1; omega; exact w1.2 h1)))
                          · skip
                            refine lv_iload SS.1 SS.2.1 dX12_least_225 (lv_at hl 1 rfl) ?_
                            refine lv_iload SS.1 SS.2.1 dX12_least_227 (lv_at hl 9 rfl) ?_
                            refine j_idiv SS (x := up) (y := z_93) dX12_least_229 (by omega) (by omega) (by omega) ?_
                            obtain ⟨a_, ea_⟩ : ∃ z : Int, z = (Int.tdiv up z_93) := ⟨_, rfl⟩
                            rw [← ea_]
                            refine lv_istore (lv' := [(18, .int (J a_)), (17, .int (J dn)), (16, .int (J up)), (0, .ref o), (1, .int (J s)), (2, .int (J k)), (3, .int (J ux)), (4, .int (J uy)), (5, .int (J vx)), (6, .int (J vy)), (7, .int (J z_93)), (10, .int (J m)), (11, .int (J ba2)), (12, .int (J bb2)), (13, .int (J be2)), (14, .int (J x)), (15, .int (J y))]) SS.1 SS.2.1 dX12_least_230 hl (by decide) rfl (fun ls hl => ?_)
                            refine lv_iload SS.1 SS.2.1 dX12_least_232 (lv_at hl 1 rfl) ?_
                            refine lv_iload SS.1 SS.2.1 dX12_least_234 (lv_at hl 10 rfl) ?_
                            refine j_idiv SS (x := dn) (y := z_93) dX12_least_236 (by omega) (by omega) (by omega) ?_
                            obtain ⟨b_, eb_⟩ : ∃ z : Int, z = (Int.tdiv dn z_93) := ⟨_, rfl⟩
                            rw [← eb_]
                            refine lv_istore (lv' := [(19, .int (J b_)), (18, .int (J a_)), (17, .int (J dn)), (16, .int (J up)), (0, .ref o), (1, .int (J s)), (2, .int (J k)), (3, .int (J ux)), (4, .int (J uy)), (5, .int (J vx)), (6, .int (J vy)), (7, .int (J z_93)), (10, .int (J m)), (11, .int (J ba2)), (12, .int (J bb2)), (13, .int (J be2)), (14, .int (J x)), (15, .int (J y))]) SS.1 SS.2.1 dX12_least_237 hl (by decide) rfl (fun ls hl => ?_)
                            refine lv_aload_n SS.1 SS.2.1 dX12_least_239 rfl (lv_at hl 4 rfl) ?_
                            refine lv_iload_n SS.1 SS.2.1 dX12_least_240 rfl (lv_at hl 5 rfl) ?_
                            refine lv_iload SS.1 SS.2.1 dX12_least_241 (lv_at hl 1 rfl) ?_
                            refine lv_iload SS.1 SS.2.1 dX12_least_243 (lv_at hl 0 rfl) ?_
                            refine j_vRi SS (As := [.int (J s), .int (J a_), .int (J b_)]) (rest := []) (c_X12_widthOf2 l D o q u s a_ b_ (show 0 ≤ s ∧ s ≤ 7 from (by omega)) (show Sh u s from (hSh)) (show 0 < mN u s from (by omega)) (show -1000000 ≤ a_ ∧ a_ ≤ 1000000 from (by omega)) (show -1000000 ≤ b_ ∧ b_ ≤ 1000000 from (by omega))) mf_X12_widthOf kw_1277 hG hP hP (ci := 8) (q0 := 0) rfl rfl rfl rfl hl.1 ⟨⟨Nat.le_of_ble_eq_true rfl, Nat.le_of_ble_eq_true rfl⟩, Nat.le_of_ble_eq_true rfl, Nat.le_refl _, Nat.le_refl _⟩ rfl dX12_least_245 (fun z_245 h_245 => ?_)
                            have h_245 : wdM u s a_ b_ z_245 ∧ 0 ≤ z_245 ∧ z_245 ≤ 400000000 := h_245
                            refine lv_istore (lv' := [(20, .int (J z_245)), (19, .int (J b_)), (18, .int (J a_)), (17, .int (J dn)), (16, .int (J up)), (0, .ref o), (1, .int (J s)), (2, .int (J k)), (3, .int (J ux)), (4, .int (J uy)), (5, .int (J vx)), (6, .int (J vy)), (7, .int (J z_93)), (10, .int (J m)), (11, .int (J ba2)), (12, .int (J bb2)), (13, .int (J be2)), (14, .int (J x)), (15, .int (J y))]) SS.1 SS.2.1 dX12_least_248 hl (by decide) rfl (fun ls hl => ?_)
                            refine lv_iload SS.1 SS.2.1 dX12_least_250 (lv_at hl 14 rfl) ?_
                            refine j_ldc SS (-1000000) kw_1213 dX12_least_252 ?_
                            have L_297 : ∀ (ah : Int) (ls : Array Slot) (hl : lv_has ls 22 [(0, .ref o), (1, .int (J s)), (2, .int (J k)), (3, .int (J ux)), (4, .int (J uy)), (5, .int (J vx)), (6, .int (J vy)), (7, .int (J z_93)), (10, .int (J m)), (11, .int (J ba2)), (12, .int (J bb2)), (13, .int (J be2)), (14, .int (J x)), (15, .int (J y)), (18, .int (J a_)), (19, .int (J b_)), (20, .int (J z_245))]) (i297_0 : (ah = 1 ∧ (ba2 = -1000000 ∨ lt3 z_245 a_ b_ be2 ba2 bb2)) ∨ (ah = 0 ∧ ba2 ≠ -1000000 ∧ ¬ lt3 z_245 a_ b_ be2 ba2 bb2)), W pr l en (headSpec (jw yX12_least cX12_least 22 (some .int)) (jr 3 65)).room st mi (([.ref o, .int (J s), .int (J k)] : List Value).toArray) below meth co st.heap [] 0 0 (MQ below (jRi (fun z => leM u s k z)) (([.ref o, .int (J s), .int (J k)] : List Value).toArray) st 0 0 (fun _ => False)) (F0 mi 297 ls [.int (J ah)]) := by
                              intro ah ls hl i297_0
                              refine lv_istore (lv' := [(21, .int (J ah)), (0, .ref o), (1, .int (J s)), (2, .int (J k)), (3, .int (J ux)), (4, .int (J uy)), (5, .int (J vx)), (6, .int (J vy)), (7, .int (J z_93)), (10, .int (J m)), (11, .int (J ba2)), (12, .int (J bb2)), (13, .int (J be2)), (14, .int (J x)), (15, .int (J y)), (18, .int (J a_)), (19, .int (J b_)), (20, .int (J z_245))]) SS.1 SS.2.1 dX12_least_297 hl (by decide) rfl (fun ls hl => ?_)
                              refine lv_iload SS.1 SS.2.1 dX12_least_299 (lv_at hl 17 rfl) ?_
                              refine lv_iload SS.1 SS.2.1 dX12_least_301 (lv_at hl 12 rfl) ?_
                              refine j_icmp_gt SS (tgt := 323) (x := z_245) (y := be2) dX12_least_303 (by decide) (by omega) (by omega) (fun c_303 => ?_) (fun c_303 => ?_)
                              · skip
                                exact L_323 ba2 bb2 be2 ls (lv_sub hl [1, 2, 3, 4, 5, 6, 7, 8, 9, 10, 11, 12, 13, 14] rfl) (by first | omega | (rw [ea_]; omega)) (by first | omega | (rw [eb_]; omega)) (by omega) (LI_k i161_4 (fun a b h1 h2 => by rcases h2 with k | ⟨k1, k2⟩; (exact Or.inl (Or.inl k)); by_cases e : a * vx + b * vy < y; (exact Or.inl (Or.inr ⟨k1, e⟩)); exact Or.inr (by obtain ⟨q1, q2⟩ := mat_q h_93 k1 (show a * vx + b * vy = y by omega); rw [ea_, eb_, eup, edn]; exact ⟨(mat_t (by omega) q1).2.symm, (mat_t (by omega) q2).2.symm⟩)) h_245.1 (by unfold lt3; omega))
                              · skip
                                refine lv_iload SS.1 SS.2.1 dX12_least_306 (lv_at hl 0 rfl) ?_
                                refine j_if_eq SS (tgt := 323) (x := ah) dX12_least_308 (by decide) (by omega) (fun c_308 => ?_) (fun c_308 => ?_)
                                · skip
                                  exact L_323 ba2 bb2 be2 ls (lv_sub hl [1, 2, 3, 4, 5, 6, 7, 8, 9, 10, 11, 12, 13, 14] rfl) (by first | omega | (rw [ea_]; omega)) (by first | omega | (rw [eb_]; omega)) (by omega) (LI_k i161_4 (fun a b h1 h2 => by rcases h2 with k | ⟨k1, k2⟩; (exact Or.inl (Or.inl k)); by_cases e : a * vx + b * vy < y; (exact Or.inl (Or.inr ⟨k1, e⟩)); exact Or.inr (by obtain ⟨q1, q2⟩ := mat_q h_93 k1 (show a * vx + b * vy = y by omega); rw [ea_, eb_, eup, edn]; exact ⟨(mat_t (by omega) q1).2.symm, (mat_t (by omega) q2).2.symm⟩)) h_245.1 (by rcases i297_0 with w9 | w9; omega; exact Or.inr w9.2))
                                · skip
                                  refine lv_iload SS.1 SS.2.1 dX12_least_311 (lv_at hl 17 rfl) ?_
                                  refine lv_istore (lv' := [(13, .int (J z_245)), (21, .int (J ah)), (0, .ref o), (1, .int (J s)), (2, .int (J k)), (3, .int (J ux)), (4, .int (J uy)), (5, .int (J vx)), (6, .int (J vy)), (7, .int (J z_93)), (10, .int (J m)), (11, .int (J ba2)), (12, .int (J bb2)), (14, .int (J x)), (15, .int (J y)), (18, .int (J a_)), (19, .int (J b_)), (20, .int (J z_245))]) SS.1 SS.2.1 dX12_least_313 hl (by decide) rfl (fun ls hl => ?_)
                                  refine lv_iload SS.1 SS.2.1 dX12_least_315 (lv_at hl 15 rfl) ?_
                                  refine lv_istore (lv' := [(11, .int (J a_)), (13, .int (J z_245)), (21, .int (J ah)), (0, .ref o), (1, .int (J s)), (2, .int (J k)), (3, .int (J ux)), (4, .int (J uy)), (5, .int (J vx)), (6, .int (J vy)), (7, .int (J z_93)), (10, .int (J m)), (12, .int (J bb2)), (14, .int (J x)), (15, .int (J y)), (18, .int (J a_)), (19, .int (J b_)), (20, .int (J z_245))]) SS.1 SS.2.1 dX12_least_317 hl (by decide) rfl (fun ls hl => ?_)
                                  refine lv_iload SS.1 SS.2.1 dX12_least_319 (lv_at hl 16 rfl) ?_
                                  refine lv_istore (lv' := [(12, .int (J b_)), (11, .int (J a_)), (13, .int (J z_245)), (21, .int (J ah)), (0, .ref o), (1, .int (J s)), (2, .int (J k)), (3, .int (J ux)), (4, .int (J uy)), (5, .int (J vx)), (6, .int (J vy)), (7, .int (J z_93)), (10, .int (J m)), (14, .int (J x)), (15, .int (J y)), (18, .int (J a_)), (19, .int (J b_)), (20, .int (J z_245))]) SS.1 SS.2.1 dX12_least_321 hl (by decide) rfl (fun ls hl => ?_)
                                  exact L_323 a_ b_ z_245 ls (lv_sub hl [4, 5, 6, 7, 8, 9, 10, 11, 12, 1, 0, 2, 13, 14] rfl) (by first | omega | (rw [ea_]; omega)) (by first | omega | (rw [eb_]; omega)) (by omega) (LI_u i161_4 (fun a b h1 h2 => by rcases h2 with k | ⟨k1, k2⟩; (exact Or.inl (Or.inl k)); by_cases e : a * vx + b * vy < y; (exact Or.inl (Or.inr ⟨k1, e⟩)); exact Or.inr (by obtain ⟨q1, q2⟩ := mat_q h_93 k1 (show a * vx + b * vy = y by omega); rw [ea_, eb_, eup, edn]; exact ⟨(mat_t (by omega) q1).2.symm, (mat_t (by omega) q2).2.symm⟩)) h_245.1 (by rw [ea_, eb_]; have w1 := h_219; rcases w1 with w1 | w1; exact w1.2; omega) ⟨by omega, by rcases i297_0 with w9 | w9; exact w9.2; omega⟩)
                            refine j_icmp_eq SS (tgt := 292) (x := ba2) (y := (-1000000)) dX12_least_254 (by decide) (by omega) (by decide) (fun c_254 => ?_) (fun c_254 => ?_)
                            · skip
                              refine j_iconst SS dX12_least_292 ?_
                              refine lv_goto (tgt := 297) SS.1 SS.2.1 dX12_least_293 (by decide) ?_
                              exact L_297 1 ls (lv_sub hl [5, 6, 7, 8, 9, 10, 11, 12, 13, 14, 15, 16, 17, 18, 2, 1, 0] rfl) (by unfold lt3; omega)
                            · skip
                              refine lv_iload SS.1 SS.2.1 dX12_least_257 (lv_at hl 0 rfl) ?_
                              refine lv_iload SS.1 SS.2.1 dX12_least_259 (lv_at hl 16 rfl) ?_
                              refine j_icmp_lt SS (tgt := 292) (x := z_245) (y := be2) dX12_least_261 (by decide) (by omega) (by omega) (fun c_261 => ?_) (fun c_261 => ?_)
                              · skip
                                refine j_iconst SS dX12_least_292 ?_
                                refine lv_goto (tgt := 297) SS.1 SS.2.1 dX12_least_293 (by decide) ?_
                                exact L_297 1 ls (lv_sub hl [5, 6, 7, 8, 9, 10, 11, 12, 13, 14, 15, 16, 17, 18, 2, 1, 0] rfl) (by unfold lt3; omega)
                              · skip
                                refine lv_iload SS.1 SS.2.1 dX12_least_264 (lv_at hl 0 rfl) ?_
                                refine lv_iload SS.1 SS.2.1 dX12_least_266 (lv_at hl 16 rfl) ?_
                                refine j_icmp_ne SS (tgt := 296) (x := z_245) (y := be2) dX12_least_268 (by decide) (by omega) (by omega) (fun c_268 => ?_) (fun c_268 => ?_)
                                · skip
                                  refine j_iconst SS dX12_least_296 ?_
                                  exact L_297 0 ls (lv_sub hl [5, 6, 7, 8, 9, 10, 11, 12, 13, 14, 15, 16, 17, 18, 2, 1, 0] rfl) (by unfold lt3; omega)
                                · skip
                                  refine lv_iload SS.1 SS.2.1 dX12_least_271 (lv_at hl 2 rfl) ?_
                                  refine lv_iload SS.1 SS.2.1 dX12_least_273 (lv_at hl 14 rfl) ?_
                                  refine j_icmp_lt SS (tgt := 292) (x := a_) (y := ba2) dX12_least_275 (by decide) (by omega) (by omega) (fun c_275 => ?_) (fun c_275 => ?_)
                                  · skip
                                    refine j_iconst SS dX12_least_292 ?_
                                    refine lv_goto (tgt := 297) SS.1 SS.2.1 dX12_least_293 (by decide) ?_
                                    exact L_297 1 ls (lv_sub hl [5, 6, 7, 8, 9, 10, 11, 12, 13, 14, 15, 16, 17, 18, 2, 1, 0] rfl) (by unfold lt3; omega)
                                  · skip
                                    refine lv_iload SS.1 SS.2.1 dX12_least_278 (lv_at hl 2 rfl) ?_
                                    refine lv_iload SS.1 SS.2.1 dX12_least_280 (lv_at hl 14 rfl) ?_
                                    refine j_icmp_ne SS (tgt := 296) (x := a_) (y := ba2) dX12_least_282 (by decide) (by omega) (by omega) (fun c_282 => ?_) (fun c_282 => ?_)
                                    · skip
                                      refine j_iconst SS dX12_least_296 ?_
                                      exact L_297 0 ls (lv_sub hl [5, 6, 7, 8, 9, 10, 11, 12, 13, 14, 15, 16, 17, 18, 2, 1, 0] rfl) (by unfold lt3; omega)
                                    · skip
                                      refine lv_iload SS.1 SS.2.1 dX12_least_285 (lv_at hl 1 rfl) ?_
                                      refine lv_iload SS.1 SS.2.1 dX12_least_287 (lv_at hl 15 rfl) ?_
                                      refine j_icmp_ge SS (tgt := 296) (x := b_) (y := bb2) dX12_least_289 (by decide) (by omega) (by omega) (fun c_289 => ?_) (fun c_289 => ?_)
                                      · skip
                                        refine j_iconst SS dX12_least_296 ?_
                                        exact L_297 0 ls (lv_sub hl [5, 6, 7, 8, 9, 10, 11, 12, 13, 14, 15, 16, 17, 18, 2, 1, 0] rfl) (by unfold lt3; omega)
                                      · skip
                                        refine j_iconst SS dX12_least_292 ?_
                                        refine lv_goto (tgt := 297) SS.1 SS.2.1 dX12_least_293 (by decide) ?_
                                        exact L_297 1 ls (lv_sub hl [5, 6, 7, 8, 9, 10, 11, 12, 13, 14, 15, 16, 17, 18, 2, 1, 0] rfl) (by unfold lt3; omega)
                exact L_161 ((m + 1 - (-m)).toNat + 1) ba bb be (-m) ls (lv_sub hl [1, 2, 3, 4, 5, 6, 7, 8, 9, 10, 11, 12, 13, 0] rfl) (by omega) (by omega) (by omega) (by omega) (LI_s i149_4 (fun a b w h1 h2 h3 h4 => by have h5 := hB a b w h3; rcases h2 with k | ⟨k1, k2⟩; exact k; omega)) (Nat.lt_succ_self _)
          exact L_149 ((m + 1 - (-m)).toNat + 1) (-1000000) (-1000000) m (-m) ls (lv_sub hl [5, 6, 7, 8, 9, 10, 11, 12, 4, 3, 2, 1, 0] rfl) (by omega) (by omega) (by omega) (by omega) (⟨Or.inl ⟨rfl, rfl⟩, fun a b w h1 h2 h3 h4 => by have h5 := hB a b w h3; omega⟩) (Nat.lt_succ_self _)
        have w1 := wdM_b hSh h_102.1 (by omega) (by omega)
        have w2 := wdM_b hSh h_111.1 (by omega) (by omega)
        refine j_icmp_ge SS (tgt := 128) (x := z_102) (y := z_111) dX12_least_120 (by decide) (by omega) (by omega) (fun c_120 => ?_) (fun c_120 => ?_)
        · skip
          refine lv_iload SS.1 SS.2.1 dX12_least_128 (lv_at hl 0 rfl) ?_
          exact L_130 z_111 ls (lv_sub hl [7, 8, 9, 6, 5, 4, 3, 2] rfl) (by omega)
        · skip
          refine lv_iload SS.1 SS.2.1 dX12_least_123 (lv_at hl 1 rfl) ?_
          refine lv_goto (tgt := 130) SS.1 SS.2.1 dX12_least_125 (by decide) ?_
          exact L_130 z_102 ls (lv_sub hl [7, 8, 9, 6, 5, 4, 3, 2] rfl) (by omega)
      · skip
        refine j_ldc SS (-1000000) kw_1213 dX12_least_24 ?_
        exact W.iret SS.1 SS.2.1 hr (fun t ht hW => ⟨_, rfl, ⟨(-1000000), rfl, (Or.inl ⟨fun q => by have q1 := q.1; have q2 := q.2.1; have q3 := q.2.2; omega, rfl⟩)⟩, ht⟩) (fun _ h => nomatch h) dX12_least_26 hlk


/-! ===== the constructors: rows ===== -/
/-- the private constructors of nest mates, the array of shapes -/
def j_KN (U : State) : Prop := va_AO "GridPolygons$Shape" U ∧ va_Nw (.methodLinkNest RX11 15 yX10_init RX11) U ∧ va_Nw (.methodLinkNest RX11 18 yX3_init RX11) U ∧ va_Nw (.methodLinkNest RX11 25 yX4_init RX11) U ∧ va_Nw (.methodLinkNest RX11 32 yX9_init RX11) U ∧ va_Nw (.methodLinkNest RX11 39 yX0_init RX11) U ∧ va_Nw (.methodLinkNest RX11 46 yX2_init RX11) U ∧ va_Nw (.methodLinkNest RX11 53 yX1_init RX11) U ∧ va_Nw (.methodLinkNest RX2 11 yX5_init RX11) U
theorem j_KN.warm {s U : State} (h : j_KN s) (hW : s.WarmedH U.vm) : j_KN U := ⟨va_AO.moved hW.alike h.1, va_Nw.warmM hW h.2.1, va_Nw.warmM hW h.2.2.1, va_Nw.warmM hW h.2.2.2.1, va_Nw.warmM hW h.2.2.2.2.1, va_Nw.warmM hW h.2.2.2.2.2.1, va_Nw.warmM hW h.2.2.2.2.2.2.1, va_Nw.warmM hW h.2.2.2.2.2.2.2.1, va_Nw.warmM hW h.2.2.2.2.2.2.2.2⟩
theorem j_KN.same {s U : State} (h : j_KN s) (e : s.vm = U.vm) : j_KN U := ⟨va_AO.moved (e ▸ Vm.Alike.refl s.vm) h.1, va_Nw.same rfl e h.2.1, va_Nw.same rfl e h.2.2.1, va_Nw.same rfl e h.2.2.2.1, va_Nw.same rfl e h.2.2.2.2.1, va_Nw.same rfl e h.2.2.2.2.2.1, va_Nw.same rfl e h.2.2.2.2.2.2.1, va_Nw.same rfl e h.2.2.2.2.2.2.2.1, va_Nw.same rfl e h.2.2.2.2.2.2.2.2⟩
abbrev jrc (f n c s : Nat) : Room := { frames := f, cells := c, slots := s, locals := n }
def jPN (As : List Value) (D : JD) (P : Heap → Prop) : Array Value → State → Prop := va_Pc As (fun U => (j_K D U ∧ j_KN U) ∧ P U.heap)
theorem jPN.blind {As : List Value} {D : JD} {P : Heap → Prop} : FrameBlind (jPN As D P) := by
  intro a U g mk h
  obtain ⟨h1, ⟨h2, h4⟩, h3⟩ := h
  exact ⟨h1, ⟨⟨va_K.moved (u := U) (U := U.calling g mk a) (Vm.Alike.refl U.vm) h2.1, va_Nw.same rfl (U := U.calling g mk a) rfl h2.2.1, va_Nw.same rfl (U := U.calling g mk a) rfl h2.2.2.1, va_Nw.same rfl (U := U.calling g mk a) rfl h2.2.2.2.1, va_Nw.same rfl (U := U.calling g mk a) rfl h2.2.2.2.2⟩, h4.same (U := U.calling g mk a) rfl⟩, h3⟩
theorem jPN.at {As : List Value} {D : JD} {P : Heap → Prop} {s : State} {H : Heap} (hG : j_K D s) (hN : j_KN s) (hP : P H) : ∀ U : State, U.heap = H → s.WarmedH U.vm → jPN As D P As.toArray U :=
  fun U hU hW => ⟨rfl, ⟨hG.warm hW, hN.warm hW⟩, by rw [hU]; exact hP⟩
def jmI (y : MethodName) (bytes : ByteArray) (maxL : Nat) (n : Nat) : Prop := Cond.code y bytes maxL none ∈ lw_g ∧ Cond.initialized y.cls ∈ lw_g ∧ Cond.instanceMethod y ∈ lw_g ∧ y.name = "<init>" ∧ jd y n
theorem va_D1 {x : Nat × va_E} {sz : Nat} : va_D (va_A [x] sz) [x] := by
  refine ⟨fun i j p q hi hj _ => ?_, fun k q hk => Or.inl ⟨k, q.2, hk⟩⟩
  have h1 := (List.getElem?_eq_some_iff.mp hi).1
  have h2 := (List.getElem?_eq_some_iff.mp hj).1
  simp at h1 h2
  omega
theorem j_at {ws : va_W} {x : Nat × va_E} : (ws ++ [x])[ws.length]? = some x := by simp
theorem j_lf {ws : va_W} {x y : Nat × va_E} {k : Nat} (h : ws[k]? = some y) : (ws ++ [x])[k]? = some y := by
  rw [List.getElem?_append_left (List.getElem?_eq_some_iff.mp h).1]; exact h
theorem j_lastP {D : va_G} {cl : List vw_C} {ws : va_W} {x : Nat × va_E} {H : Heap} (h : va_P D cl (ws ++ [x]) H) : va_P D cl [x] H := fun k q hk => by
  have h1 := (List.getElem?_eq_some_iff.mp hk).1
  simp at h1
  subst h1
  exact h ws.length q (by rw [j_at]; exact hk)
theorem j_one {x y : Nat × va_E} {k : Nat} (h : [x][k]? = some y) : y = x := by
  have h1 := (List.getElem?_eq_some_iff.mp h).1
  simp at h1
  subst h1
  exact (Option.some.inj h).symm
theorem j_free {A : Nat → Prop} {ws : va_W} {x : Nat × va_E} {H0 H : Heap} {locs : List Loc} (hD : va_D A (ws ++ [x])) (hS : va_S A H0 H locs) (hA : ∀ q, H0.size ≤ q → A q) : ∀ q, va_A [x] H.size q → A q := by
  intro q h
  rcases h with ⟨k, e, h⟩ | h
  · have h2 := j_one h
    have h3 := hD.2 ws.length x j_at
    rw [← h2] at h3
    exact h3
  · exact hA q (Nat.le_trans hS.1 h)
theorem j_join {A : Nat → Prop} {D : va_G} {cl : List vw_C} {ws w1 : va_W} {x : Nat × va_E} {H H1 : Heap} (hP : va_P D cl (ws ++ [x]) H) (hD : va_D A (ws ++ [x])) (hk : ∀ q : Nat, q < H.size → ¬ va_A [x] H.size q → H1[q]? = H[q]?) (hF : ∀ q, va_A [x] H.size q → A q) (hP1 : va_P D cl w1 H1) (hD1 : va_D (va_A [x] H.size) w1) : va_P D cl (ws ++ w1) H1 ∧ va_D A (ws ++ w1) := by
  have apart : ∀ (k : Nat) (q : Nat × va_E), ws[k]? = some q → q.1 < H.size ∧ ¬ va_A [x] H.size q.1 := by
    intro k q hq
    have hl := (hP k q (j_lf hq)).lt
    refine ⟨hl, fun h => ?_⟩
    rcases h with ⟨k2, e, h⟩ | h
    · have h2 := j_one h
      have h3 := hD.1 k ws.length q x (j_lf hq) j_at (by rw [← h2])
      have h4 := (List.getElem?_eq_some_iff.mp hq).1
      omega
    · omega
  refine ⟨va_P.app (fun k q hq => ?_) hP1, va_D.app ⟨fun i j a b hi hj h => hD.1 i j a b (j_lf hi) (j_lf hj) h, fun k q hq => hD.2 k q (j_lf hq)⟩ (hD1.weaken (fun k q _ h => hF q.1 h)) (fun i j a b ha hb hab => ?_)⟩
  · obtain ⟨g1, g2⟩ := apart k q hq
    exact (hP k q (j_lf hq)).kept (hk q.1 g1 g2)
  · exact (apart i a ha).2 (by rw [hab]; exact hD1.2 j b hb)
section JN
variable {p : Program} {l : Launch} {e9 : Env} {R : Room} {s : State} {m : MethodId} {args : Array Value} {below : List Frame} {meth : Method} {c : Code} {H : Heap} {locs : List Loc} {cells slots : Nat} {Q : State → Prop}
variable {cc : ByteArray} {nL : Nat} {own : String} {pc : Nat} {ls : Array Slot} {rest : List Value}
theorem j_newI (S : jS p m c cc nL s args own) {D : JD} {ws : va_W} {A : Nat → Prop} {H0 : Heap} (hG : j_K D s) (hP : va_P D.1 j_cl ws H) (hD : va_D A ws) (hS : va_S A H0 H locs) (hA : ∀ q, H0.size ≤ q → A q) (harr : Cond.arrayClass .int ∈ lw_g) {n : Int} (N : Nat) (h0 : 0 ≤ n ∧ n ≤ 1000000) (e : n.toNat = N) (hcells : cells + 1 ≤ R.cells) (hslots : slots + N ≤ R.slots) (hdg : decode cc pc = .ok (.newarray .int, 2))
    (kk : ∀ (q : Nat) (H1 : Heap), va_P D.1 j_cl (ws ++ [(q, .inl (D.2.1, N, .inl (fun _ => J 0)))]) H1 → va_D A (ws ++ [(q, .inl (D.2.1, N, .inl (fun _ => J 0)))]) → va_S A H0 H1 locs → W p l e9 R s m args below meth c H1 locs (cells + 1) (slots + N) Q (F0 m (pc + 2) ls (.ref q :: rest))) : W p l e9 R s m args below meth c H locs cells slots Q (F0 m pc ls (.int (J n) :: rest)) := by
  refine va_newa (atype := .int) S.1 S.2.1 (S.2.2.2.2 _ harr) (ty := .int) rfl hG.1 hP hD hS hA (N' := N) (a0 := (N, .inl (fun _ => J 0))) (fun cA => rfl) (fun q => absurd ((J_lt (by omega) (by omega)).mp (J_0 ▸ q)) (by omega)) (by rw [J_clamp (by omega)]; exact e) (by show N * 4 ≤ 536870912; omega) hcells hslots hdg (fun q cA H1 hK1 hP1 hD1 hS1 => ?_)
  have h1 : s.vm.findClass ("[" ++ FieldType.toString .int) = some cA := (hK1.2 3 (cA, .int) rfl).2
  have h2 : s.vm.findClass ("[" ++ FieldType.toString .int) = some D.2.1 := (hG.1.2 0 (D.2.1, .int) rfl).2
  have e1 : cA = D.2.1 := Option.some.inj (h1.symm.trans h2)
  subst e1
  exact kk q H1 hP1 hD1 hS1
theorem j_newL (S : jS p m c cc nL s args own) {D : JD} {ws : va_W} {A : Nat → Prop} {H0 : Heap} (hG : j_K D s) (hP : va_P D.1 j_cl ws H) (hD : va_D A ws) (hS : va_S A H0 H locs) (hA : ∀ q, H0.size ≤ q → A q) (harr : Cond.arrayClass .long ∈ lw_g) {n : Int} (N : Nat) (h0 : 0 ≤ n ∧ n ≤ 1000000) (e : n.toNat = N) (hcells : cells + 1 ≤ R.cells) (hslots : slots + N ≤ R.slots) (hdg : decode cc pc = .ok (.newarray .long, 2))
    (kk : ∀ (q : Nat) (H1 : Heap), va_P D.1 j_cl (ws ++ [(q, .inl (D.2.2.1, N, .inr (.inl (fun _ => 0))))]) H1 → va_D A (ws ++ [(q, .inl (D.2.2.1, N, .inr (.inl (fun _ => 0))))]) → va_S A H0 H1 locs → W p l e9 R s m args below meth c H1 locs (cells + 1) (slots + N) Q (F0 m (pc + 2) ls (.ref q :: rest))) : W p l e9 R s m args below meth c H locs cells slots Q (F0 m pc ls (.int (J n) :: rest)) := by
  refine va_newa (atype := .long) S.1 S.2.1 (S.2.2.2.2 _ harr) (ty := .long) rfl hG.1 hP hD hS hA (N' := N) (a0 := (N, .inr (.inl (fun _ => 0)))) (fun cA => rfl) (fun q => absurd ((J_lt (by omega) (by omega)).mp (J_0 ▸ q)) (by omega)) (by rw [J_clamp (by omega)]; exact e) (by show N * 8 ≤ 536870912; omega) hcells hslots hdg (fun q cA H1 hK1 hP1 hD1 hS1 => ?_)
  have h1 : s.vm.findClass ("[" ++ FieldType.toString .long) = some cA := (hK1.2 3 (cA, .long) rfl).2
  have h2 : s.vm.findClass ("[" ++ FieldType.toString .long) = some D.2.2.1 := (hG.1.2 1 (D.2.2.1, .long) rfl).2
  have e1 : cA = D.2.2.1 := Option.some.inj (h1.symm.trans h2)
  subst e1
  exact kk q H1 hP1 hD1 hS1
theorem j_newQ (S : jS p m c cc nL s args own) {D : JD} {ws : va_W} {A : Nat → Prop} {H0 : Heap} {index : Nat} (hG : j_K D s) (hN : j_KN s) (hP : va_P D.1 j_cl ws H) (hD : va_D A ws) (hS : va_S A H0 H locs) (hA : ∀ q, H0.size ≤ q → A q) (hcl : Cond.classLink own index "GridPolygons$Shape" ∈ lw_g) {n : Int} (N : Nat) (h0 : 0 ≤ n ∧ n ≤ 1000000) (e : n.toNat = N) (hcells : cells + 1 ≤ R.cells) (hslots : slots + N ≤ R.slots) (hdg : decode cc pc = .ok (.anewarray index, 3))
    (kk : ∀ (q : Nat) (H1 : Heap), va_P D.1 j_cl (ws ++ [(q, .inl (D.2.2.2, N, .inr (.inr (.inr (.inr (fun _ => none))))))]) H1 → va_D A (ws ++ [(q, .inl (D.2.2.2, N, .inr (.inr (.inr (.inr (fun _ => none))))))]) → va_S A H0 H1 locs → W p l e9 R s m args below meth c H1 locs (cells + 1) (slots + N) Q (F0 m (pc + 3) ls (.ref q :: rest))) : W p l e9 R s m args below meth c H locs cells slots Q (F0 m pc ls (.int (J n) :: rest)) := by
  refine va_newq S.1 S.2.1 S.2.2.2.1 (S.2.2.2.2 _ hcl) hN.1 hG.1 hP hD hS hA (N' := N) (fun q => absurd ((J_lt (by omega) (by omega)).mp (J_0 ▸ q)) (by omega)) (by rw [J_clamp (by omega)]; exact e) (by omega) hcells hslots hdg (fun q cA H1 hK1 hP1 hD1 hS1 => ?_)
  obtain ⟨_, _, _, _, _, h1⟩ : va_RA s cA (.object "GridPolygons$Shape") := (hK1.2 3 (cA, .object "GridPolygons$Shape") rfl).2
  obtain ⟨_, _, _, _, _, h2⟩ : va_RA s D.2.2.2 (.object "GridPolygons$Shape") := (hG.1.2 2 (D.2.2.2, .object "GridPolygons$Shape") rfl).2
  have e1 : cA = D.2.2.2 := Option.some.inj (h1.symm.trans h2)
  subst e1
  exact kk q H1 hP1 hD1 hS1
theorem j_iN (S : jS p m c cc nL s args own) {D : JD} {P : Heap → Prop} {b : Nat} {As : List Value} {U : Type} {B : U → Heap → Prop} {A1 A0 : Nat → Prop} {H0 : Heap} {host : String} {y : MethodName} {bytes : ByteArray} {maxL n index f nl mc ms : Nat} (hM : Met l y (jw y bytes maxL none) (jrc f nl mc ms) (jPN (.ref b :: As) D P) (jWv (fun _ : U => True) B A1) mc ms A1) (hy : jmI y bytes maxL n) (hl : va_Nw (.methodLinkNest own index y host) s) (hG : j_K D s) (hN : j_KN s) (hP : P H) (hS : va_S A0 H0 H locs) (hA : ∀ q, A1 q → A0 q) (hn : As.length = n) (hls : ls.size = nL) (hR : (f + 1 ≤ R.frames ∧ 8 + (maxL + 11) + nl ≤ R.locals) ∧ (rest.map fun v => v.category).sum ≤ 8 ∧ cells + mc ≤ R.cells ∧ slots + ms ≤ R.slots) {st0 : List Value} (hst : st0 = As.reverse ++ .ref b :: rest) (hdg : decode cc pc = .ok (.invokespecial index, 3))
    (k : ∀ (u : U) (H1 : Heap) (locs1 : List Loc), B u H1 → (H.size ≤ H1.size ∧ ∀ q : Nat, q < H.size → ¬ A1 q → H1[q]? = H[q]?) → va_S A0 H0 H1 locs1 → W p l e9 R s m args below meth c H1 locs1 (cells + mc) (slots + ms) Q (F0 m (pc + 3) ls rest)) : W p l e9 R s m args below meth c H locs cells slots Q (F0 m pc ls st0) := by
  refine va_callv (va_runIN S hM ⟨va_cnB n S.2.2.2.2 (j_good hy.1) rfl rfl rfl hl (S.2.2.2.2 _ hy.2.1) hy.2.2.2.2 hR.1, hy.2.2.2.1, S.2.2.2.2 _ hy.2.2.1⟩ ⟨jPN.blind, jPN.at hG hN hP⟩ rfl hn hls hst (lv_room hR.2.1) hdg hR.2.2) hS (fun q _ h => hA q h) hA (fun u t H1 locs1 ht hvm hp hB hz hk hS1 => ?_)
  exact k u H1 locs1 (ht ▸ hB) ⟨hz, hk⟩ hS1
theorem j_iS (S : jS p m c cc nL s args own) {D : JD} {P : Heap → Prop} {b : Nat} {As : List Value} {U : Type} {B : U → Heap → Prop} {A1 A0 : Nat → Prop} {H0 : Heap} {y : MethodName} {bytes : ByteArray} {maxL n index f nl mc ms : Nat} (hM : Met l y (jw y bytes maxL none) (jrc f nl mc ms) (jPN (.ref b :: As) D P) (jWv (fun _ : U => True) B A1) mc ms A1) (hy : jmI y bytes maxL n) (hl : Cond.methodLink own index y ∈ lw_g) (hG : j_K D s) (hN : j_KN s) (hP : P H) (hS : va_S A0 H0 H locs) (hA : ∀ q, A1 q → A0 q) (hn : As.length = n) (hls : ls.size = nL) (hR : (f + 1 ≤ R.frames ∧ 8 + (maxL + 11) + nl ≤ R.locals) ∧ (rest.map fun v => v.category).sum ≤ 8 ∧ cells + mc ≤ R.cells ∧ slots + ms ≤ R.slots) {st0 : List Value} (hst : st0 = As.reverse ++ .ref b :: rest) (hdg : decode cc pc = .ok (.invokespecial index, 3))
    (k : ∀ (u : U) (H1 : Heap) (locs1 : List Loc), B u H1 → (H.size ≤ H1.size ∧ ∀ q : Nat, q < H.size → ¬ A1 q → H1[q]? = H[q]?) → va_S A0 H0 H1 locs1 → W p l e9 R s m args below meth c H1 locs1 (cells + mc) (slots + ms) Q (F0 m (pc + 3) ls rest)) : W p l e9 R s m args below meth c H locs cells slots Q (F0 m pc ls st0) := by
  refine va_callv (va_runI S hM ⟨callB_of n S.2.2.2.2 (j_good hy.1) rfl rfl rfl (S.2.2.2.2 _ hy.2.1) (S.2.2.2.2 _ hl) hy.2.2.2.2 hR.1, hy.2.2.2.1, S.2.2.2.2 _ hy.2.2.1⟩ ⟨jPN.blind, jPN.at hG hN hP⟩ rfl hn hls hst (lv_room hR.2.1) hdg hR.2.2) hS (fun q _ h => hA q h) hA (fun u t H1 locs1 ht hvm hp hB hz hk hS1 => ?_)
  exact k u H1 locs1 (ht ▸ hB) ⟨hz, hk⟩ hS1
end JN

