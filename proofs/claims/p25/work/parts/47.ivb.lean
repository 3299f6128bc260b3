
set_option maxHeartbeats 4000000 in
set_option maxRecDepth 100000 in
theorem c_X12_least3 (l : Launch) (D : JD) (o : Nat) (q : Nat → Nat) (u : MS) (s : Int) (k : Int) (p0 : IM u) (p1 : -2147483648 ≤ s ∧ s ≤ 2147483647) (p2 : -2147483648 ≤ k ∧ k ≤ 2147483647) : Met l yX12_least (jw yX12_least cX12_least 22 (some .int)) (jr 3 65) (jP [.ref o, .int (J s), .int (J k)] D (fun H => va_P D.1 j_cl (mW D o q u) H)) (jRi (fun z => leM u s k z)) 0 0 (fun _ => False) := by
  refine Met.ofW (cc := cX12_least) (maxL := 22) (ret := (some .int)) (by decide) rfl ?_
  intro pr en st mi args below meth co s₁ B hml hv
  obtain ⟨rfl, hG, hP⟩ := hv
  have hr := B.returns
  have hlk := B.notSynchronized
  have SS : jS pr mi co cX12_least 22 st _ RX12 := ⟨B.exec, B.bytes, hml, findClass_of_methodNamed B.named, fun w hw => atoms_spec (ws := (jw yX12_least cX12_least 22 (some .int))) B.pre w (List.mem_cons_of_mem _ hw)⟩
  have hl := lv_entry ([.ref o, .int (J s), .int (J k)]) (n := 22) (Nat.le_of_ble_eq_true rfl)
  rw [lg_entry_eq]
  generalize (lg_sl ([.ref o, .int (J s), .int (J k)]) ++ List.replicate (22 - (lg_sl ([.ref o, .int (J s), .int (J k)])).length) Slot.unset).toArray = ls at hl ⊢
  have hl : lv_has ls 22 [(0, .ref o), (1, .int (J s)), (2, .int (J k))] := hl
  refine lv_iload_n SS.1 SS.2.1 dX12_least_0 rfl (lv_at hl 1 rfl) ?_
  refine j_sRi SS (As := [.int (J s)]) (rest := []) (c_X12_isShape l D s (show -2147483648 ≤ s ∧ s ≤ 2147483647 from (by omega))) mf_X12_isShape kw_1156 hG trivial rfl hl.1 ⟨⟨Nat.le_of_ble_eq_true rfl, Nat.le_of_ble_eq_true rfl⟩, Nat.le_of_ble_eq_true rfl, Nat.le_refl _, Nat.le_refl _⟩ rfl dX12_least_1 (fun z_1 h_1 => ?_)
  have h_1 : (z_1 = 1 ∧ (0 ≤ s ∧ s ≤ 7)) ∨ (z_1 = 0 ∧ ¬ (0 ≤ s ∧ s ≤ 7)) := h_1
  refine j_if_eq SS (tgt := 24) (x := z_1) dX12_least_4 (by decide) (by omega) (fun c_4 => ?_) (fun c_4 => ?_)
  · skip
    refine j_ldc SS (-1000000) kw_1213 dX12_least_24 ?_
    exact W.iret SS.1 SS.2.1 hr (fun t ht hW => ⟨_, rfl, ⟨(-1000000), rfl, (Or.inl ⟨fun q => by have q1 := q.1; have q2 := q.2.1; have q3 := q.2.2; omega, rfl⟩)⟩, ht⟩) (fun _ h => nomatch h) dX12_least_26 hlk
  · skip
    refine lv_iload_n SS.1 SS.2.1 dX12_least_7 rfl (lv_at hl 2 rfl) ?_
    refine j_iconst SS dX12_least_8 ?_
    refine j_iconst SS dX12_least_9 ?_
    refine j_sRi SS (As := [.int (J k), .int (J 0), .int (J 2)]) (rest := []) (c_X12_in l D k 0 2 (show -2147483648 ≤ k ∧ k ≤ 2147483647 from (by omega)) (show -2147483648 ≤ (0 : Int) ∧ (0 : Int) ≤ 2147483647 from (by omega)) (show -2147483648 ≤ (2 : Int) ∧ (2 : Int) ≤ 2147483647 from (by omega))) mf_X12_in kw_1159 hG trivial rfl hl.1 ⟨⟨Nat.le_of_ble_eq_true rfl, Nat.le_of_ble_eq_true rfl⟩, Nat.le_of_ble_eq_true rfl, Nat.le_refl _, Nat.le_refl _⟩ rfl dX12_least_10 (fun z_10 h_10 => ?_)
    have h_10 : (z_10 = 1 ∧ ((0 : Int) ≤ k ∧ k ≤ (2 : Int))) ∨ (z_10 = 0 ∧ ¬ ((0 : Int) ≤ k ∧ k ≤ (2 : Int))) := h_10
    refine j_if_eq SS (tgt := 24) (x := z_10) dX12_least_13 (by decide) (by omega) (fun c_13 => ?_) (fun c_13 => ?_)
    · skip
      refine j_ldc SS (-1000000) kw_1213 dX12_least_24 ?_
      exact W.iret SS.1 SS.2.1 hr (fun t ht hW => ⟨_, rfl, ⟨(-1000000), rfl, (Or.inl ⟨fun q => by have q1 := q.1; have q2 := q.2.1; have q3 := q.2.2; omega, rfl⟩)⟩, ht⟩) (fun _ h => nomatch h) dX12_least_26 hlk
    · skip
      refine lv_aload_n SS.1 SS.2.1 dX12_least_16 rfl (lv_at hl 0 rfl) ?_
      refine lv_iload_n SS.1 SS.2.1 dX12_least_17 rfl (lv_at hl 1 rfl) ?_
      refine j_vRi SS (As := [.int (J s)]) (rest := []) (c_X12_isPolygon l D o q u s (show 0 ≤ s ∧ s ≤ 7 from (by omega)) (show Sh u s from (p0.1 _ (by omega) (by omega)))) mf_X12_isPolygon kw_1240 hG hP hP (ci := 8) (q0 := 0) rfl rfl rfl rfl hl.1 ⟨⟨Nat.le_of_ble_eq_true rfl, Nat.le_of_ble_eq_true rfl⟩, Nat.le_of_ble_eq_true rfl, Nat.le_refl _, Nat.le_refl _⟩ rfl dX12_least_18 (fun z_18 h_18 => ?_)
      have h_18 : (z_18 = 1 ∧ 2 < mN u s) ∨ (z_18 = 0 ∧ mN u s ≤ 2) := h_18
      refine j_if_ne SS (tgt := 27) (x := z_18) dX12_least_21 (by decide) (by omega) (fun c_21 => ?_) (fun c_21 => ?_)
      · skip
        have hSh := p0.1 s (by omega) (by omega)
        have hN := hSh.1
        have hd0 := Sh_d hSh (by omega)
        refine lv_aload_n SS.1 SS.2.1 dX12_least_27 rfl (lv_at hl 0 rfl) ?_
        refine lv_iload_n SS.1 SS.2.1 dX12_least_28 rfl (lv_at hl 1 rfl) ?_
        refine j_iconst SS dX12_least_29 ?_
        refine j_vRi SS (As := [.int (J s), .int (J 1)]) (rest := []) (c_X12_x l D o q u s 1 (show 0 ≤ s ∧ s ≤ 7 from (by omega)) (show 0 ≤ (1 : Int) ∧ (1 : Int) ≤ 1000000 from (by omega)) (show 0 < mN u s ∧ mN u s ≤ 24 from (by first | omega | (have hq := (show Sh u s from p0.1 _ (by omega) (by omega)).1; omega)))) mf_X12_x kw_1177 hG hP hP (ci := 8) (q0 := 0) rfl rfl rfl rfl hl.1 ⟨⟨Nat.le_of_ble_eq_true rfl, Nat.le_of_ble_eq_true rfl⟩, Nat.le_of_ble_eq_true rfl, Nat.le_refl _, Nat.le_refl _⟩ rfl dX12_least_30 (fun z_30 h_30 => ?_)
        have h_30 : z_30 = mX u s (1 : Int) := h_30
        have hb_30 := (show Sh u s from p0.1 _ (by omega) (by omega)).2.1 (by omega) (1 : Int) (by omega)
        refine lv_aload_n SS.1 SS.2.1 dX12_least_33 rfl (lv_at hl 0 rfl) ?_
        refine lv_iload_n SS.1 SS.2.1 dX12_least_34 rfl (lv_at hl 1 rfl) ?_
        refine j_iconst SS dX12_least_35 ?_
        refine j_vRi SS (As := [.int (J s), .int (J 0)]) (rest := [.int (J z_30)]) (c_X12_x l D o q u s 0 (show 0 ≤ s ∧ s ≤ 7 from (by omega)) (show 0 ≤ (0 : Int) ∧ (0 : Int) ≤ 1000000 from (by omega)) (show 0 < mN u s ∧ mN u s ≤ 24 from (by first | omega | (have hq := (show Sh u s from p0.1 _ (by omega) (by omega)).1; omega)))) mf_X12_x kw_1177 hG hP hP (ci := 8) (q0 := 0) rfl rfl rfl rfl hl.1 ⟨⟨Nat.le_of_ble_eq_true rfl, Nat.le_of_ble_eq_true rfl⟩, Nat.le_of_ble_eq_true rfl, Nat.le_refl _, Nat.le_refl _⟩ rfl dX12_least_36 (fun z_36 h_36 => ?_)
        have h_36 : z_36 = mX u s (0 : Int) := h_36
        have hb_36 := (show Sh u s from p0.1 _ (by omega) (by omega)).2.1 (by omega) (0 : Int) (by omega)
        refine j_isub SS (x := z_30) (y := z_36) dX12_least_39 ?_
        obtain ⟨ux, eux⟩ : ∃ z : Int, z = (z_30 - z_36) := ⟨_, rfl⟩
        rw [← eux]
        refine lv_istore_n (lv' := [(3, .int (J ux)), (0, .ref o), (1, .int (J s)), (2, .int (J k))]) SS.1 SS.2.1 dX12_least_40 rfl hl (by decide) rfl (fun ls hl => ?_)
        have b_ux : -80 ≤ ux ∧ ux ≤ 80 := by omega
        refine lv_aload_n SS.1 SS.2.1 dX12_least_41 rfl (lv_at hl 1 rfl) ?_
        refine lv_iload_n SS.1 SS.2.1 dX12_least_42 rfl (lv_at hl 2 rfl) ?_
        refine j_iconst SS dX12_least_43 ?_
        refine j_vRi SS (As := [.int (J s), .int (J 1)]) (rest := []) (c_X12_y l D o q u s 1 (show 0 ≤ s ∧ s ≤ 7 from (by omega)) (show 0 ≤ (1 : Int) ∧ (1 : Int) ≤ 1000000 from (by omega)) (show 0 < mN u s ∧ mN u s ≤ 24 from (by first | omega | (have hq := (show Sh u s from p0.1 _ (by omega) (by omega)).1; omega)))) mf_X12_y kw_1181 hG hP hP (ci := 8) (q0 := 0) rfl rfl rfl rfl hl.1 ⟨⟨Nat.le_of_ble_eq_true rfl, Nat.le_of_ble_eq_true rfl⟩, Nat.le_of_ble_eq_true rfl, Nat.le_refl _, Nat.le_refl _⟩ rfl dX12_least_44 (fun z_44 h_44 => ?_)
        have h_44 : z_44 = mY u s (1 : Int) := h_44
        have hb_44 := (show Sh u s from p0.1 _ (by omega) (by omega)).2.1 (by omega) (1 : Int) (by omega)
        refine lv_aload_n SS.1 SS.2.1 dX12_least_47 rfl (lv_at hl 1 rfl) ?_
        refine lv_iload_n SS.1 SS.2.1 dX12_least_48 rfl (lv_at hl 2 rfl) ?_
        refine j_iconst SS dX12_least_49 ?_
        refine j_vRi SS (As := [.int (J s), .int (J 0)]) (rest := [.int (J z_44)]) (c_X12_y l D o q u s 0 (show 0 ≤ s ∧ s ≤ 7 from (by omega)) (show 0 ≤ (0 : Int) ∧ (0 : Int) ≤ 1000000 from (by omega)) (show 0 < mN u s ∧ mN u s ≤ 24 from (by first | omega | (have hq := (show Sh u s from p0.1 _ (by omega) (by omega)).1; omega)))) mf_X12_y kw_1181 hG hP hP (ci := 8) (q0 := 0) rfl rfl rfl rfl hl.1 ⟨⟨Nat.le_of_ble_eq_true rfl, Nat.le_of_ble_eq_true rfl⟩, Nat.le_of_ble_eq_true rfl, Nat.le_refl _, Nat.le_refl _⟩ rfl dX12_least_50 (fun z_50 h_50 => ?_)
        have h_50 : z_50 = mY u s (0 : Int) := h_50
        have hb_50 := (show Sh u s from p0.1 _ (by omega) (by omega)).2.1 (by omega) (0 : Int) (by omega)
        refine j_isub SS (x := z_44) (y := z_50) dX12_least_53 ?_
        obtain ⟨uy, euy⟩ : ∃ z : Int, z = (z_44 - z_50) := ⟨_, rfl⟩
        rw [← euy]
        refine lv_istore (lv' := [(4, .int (J uy)), (3, .int (J ux)), (0, .ref o), (1, .int (J s)), (2, .int (J k))]) SS.1 SS.2.1 dX12_least_54 hl (by decide) rfl (fun ls hl => ?_)
        have b_uy : -80 ≤ uy ∧ uy ≤ 80 := by omega
        refine lv_aload_n SS.1 SS.2.1 dX12_least_56 rfl (lv_at hl 2 rfl) ?_
        refine lv_iload_n SS.1 SS.2.1 dX12_least_57 rfl (lv_at hl 3 rfl) ?_
        refine j_iconst SS dX12_least_58 ?_
        refine j_vRi SS (As := [.int (J s), .int (J 2)]) (rest := []) (c_X12_x l D o q u s 2 (show 0 ≤ s ∧ s ≤ 7 from (by omega)) (show 0 ≤ (2 : Int) ∧ (2 : Int) ≤ 1000000 from (by omega)) (show 0 < mN u s ∧ mN u s ≤ 24 from (by first | omega | (have hq := (show Sh u s from p0.1 _ (by omega) (by omega)).1; omega)))) mf_X12_x kw_1177 hG hP hP (ci := 8) (q0 := 0) rfl rfl rfl rfl hl.1 ⟨⟨Nat.le_of_ble_eq_true rfl, Nat.le_of_ble_eq_true rfl⟩, Nat.le_of_ble_eq_true rfl, Nat.le_refl _, Nat.le_refl _⟩ rfl dX12_least_59 (fun z_59 h_59 => ?_)
        have h_59 : z_59 = mX u s (2 : Int) := h_59
        have hb_59 := (show Sh u s from p0.1 _ (by omega) (by omega)).2.1 (by omega) (2 : Int) (by omega)
        refine lv_aload_n SS.1 SS.2.1 dX12_least_62 rfl (lv_at hl 2 rfl) ?_
        refine lv_iload_n SS.1 SS.2.1 dX12_least_63 rfl (lv_at hl 3 rfl) ?_
        refine j_iconst SS dX12_least_64 ?_
        refine j_vRi SS (As := [.int (J s), .int (J 0)]) (rest := [.int (J z_59)]) (c_X12_x l D o q u s 0 (show 0 ≤ s ∧ s ≤ 7 from (by omega)) (show 0 ≤ (0 : Int) ∧ (0 : Int) ≤ 1000000 from (by omega)) (show 0 < mN u s ∧ mN u s ≤ 24 from (by first | omega | (have hq := (show Sh u s from p0.1 _ (by omega) (by omega)).1; omega)))) mf_X12_x kw_1177 hG hP hP (ci := 8) (q0 := 0) rfl rfl rfl rfl hl.1 ⟨⟨Nat.le_of_ble_eq_true rfl, Nat.le_of_ble_eq_true rfl⟩, Nat.le_of_ble_eq_true rfl, Nat.le_refl _, Nat.le_refl _⟩ rfl dX12_least_65 (fun z_65 h_65 => ?_)
        have h_65 : z_65 = mX u s (0 : Int) := h_65
        have hb_65 := (show Sh u s from p0.1 _ (by omega) (by omega)).2.1 (by omega) (0 : Int) (by omega)
        refine j_isub SS (x := z_59) (y := z_65) dX12_least_68 ?_
        obtain ⟨vx, evx⟩ : ∃ z : Int, z = (z_59 - z_65) := ⟨_, rfl⟩
        rw [← evx]
        refine lv_istore (lv' := [(5, .int (J vx)), (4, .int (J uy)), (3, .int (J ux)), (0, .ref o), (1, .int (J s)), (2, .int (J k))]) SS.1 SS.2.1 dX12_least_69 hl (by decide) rfl (fun ls hl => ?_)
        have b_vx : -80 ≤ vx ∧ vx ≤ 80 := by omega
        refine lv_aload_n SS.1 SS.2.1 dX12_least_71 rfl (lv_at hl 3 rfl) ?_
        refine lv_iload_n SS.1 SS.2.1 dX12_least_72 rfl (lv_at hl 4 rfl) ?_
        refine j_iconst SS dX12_least_73 ?_
        refine j_vRi SS (As := [.int (J s), .int (J 2)]) (rest := []) (c_X12_y l D o q u s 2 (show 0 ≤ s ∧ s ≤ 7 from (by omega)) (show 0 ≤ (2 : Int) ∧ (2 : Int) ≤ 1000000 from (by omega)) (show 0 < mN u s ∧ mN u s ≤ 24 from (by first | omega | (have hq := (show Sh u s from p0.1 _ (by omega) (by omega)).1; omega)))) mf_X12_y kw_1181 hG hP hP (ci := 8) (q0 := 0) rfl rfl rfl rfl hl.1 ⟨⟨Nat.le_of_ble_eq_true rfl, Nat.le_of_ble_eq_true rfl⟩, Nat.le_of_ble_eq_true rfl, Nat.le_refl _, Nat.le_refl _⟩ rfl dX12_least_74 (fun z_74 h_74 => ?_)
        have h_74 : z_74 = mY u s (2 : Int) := h_74
        have hb_74 := (show Sh u s from p0.1 _ (by omega) (by omega)).2.1 (by omega) (2 : Int) (by omega)
        refine lv_aload_n SS.1 SS.2.1 dX12_least_77 rfl (lv_at hl 3 rfl) ?_
        refine lv_iload_n SS.1 SS.2.1 dX12_least_78 rfl (lv_at hl 4 rfl) ?_
        refine j_iconst SS dX12_least_79 ?_
        refine j_vRi SS (As := [.int (J s), .int (J 0)]) (rest := [.int (J z_74)]) (c_X12_y l D o q u s 0 (show 0 ≤ s ∧ s ≤ 7 from (by omega)) (show 0 ≤ (0 : Int) ∧ (0 : Int) ≤ 1000000 from (by omega)) (show 0 < mN u s ∧ mN u s ≤ 24 from (by first | omega | (have hq := (show Sh u s from p0.1 _ (by omega) (by omega)).1; omega)))) mf_X12_y kw_1181 hG hP hP (ci := 8) (q0 := 0) rfl rfl rfl rfl hl.1 ⟨⟨Nat.le_of_ble_eq_true rfl, Nat.le_of_ble_eq_true rfl⟩, Nat.le_of_ble_eq_true rfl, Nat.le_refl _, Nat.le_refl _⟩ rfl dX12_least_80 (fun z_80 h_80 => ?_)
        have h_80 : z_80 = mY u s (0 : Int) := h_80
        have hb_80 := (show Sh u s from p0.1 _ (by omega) (by omega)).2.1 (by omega) (0 : Int) (by omega)
        refine j_isub SS (x := z_74) (y := z_80) dX12_least_83 ?_
        obtain ⟨vy, evy⟩ : ∃ z : Int, z = (z_74 - z_80) := ⟨_, rfl⟩
        rw [← evy]
        refine lv_istore (lv' := [(6, .int (J vy)), (5, .int (J vx)), (4, .int (J uy)), (3, .int (J ux)), (0, .ref o), (1, .int (J s)), (2, .int (J k))]) SS.1 SS.2.1 dX12_least_84 hl (by decide) rfl (fun ls hl => ?_)
        have b_vy : -80 ≤ vy ∧ vy ≤ 80 := by omega
        refine lv_iload_n SS.1 SS.2.1 dX12_least_86 rfl (lv_at hl 3 rfl) ?_
        refine lv_iload SS.1 SS.2.1 dX12_least_87 (lv_at hl 2 rfl) ?_
        refine lv_iload SS.1 SS.2.1 dX12_least_89 (lv_at hl 1 rfl) ?_
        refine lv_iload SS.1 SS.2.1 dX12_least_91 (lv_at hl 0 rfl) ?_
        refine j_sRi SS (As := [.int (J ux), .int (J uy), .int (J vx), .int (J vy)]) (rest := []) (c_X12_cross l D ux uy vx vy ) mf_X12_cross kw_1259 hG trivial rfl hl.1 ⟨⟨Nat.le_of_ble_eq_true rfl, Nat.le_of_ble_eq_true rfl⟩, Nat.le_of_ble_eq_true rfl, Nat.le_refl _, Nat.le_refl _⟩ rfl dX12_least_93 (fun z_93 h_93 => ?_)
        have h_93 : z_93 = ux * vy - uy * vx := h_93
        refine lv_istore (lv' := [(7, .int (J z_93)), (6, .int (J vy)), (5, .int (J vx)), (4, .int (J uy)), (3, .int (J ux)), (0, .ref o), (1, .int (J s)), (2, .int (J k))]) SS.1 SS.2.1 dX12_least_96 hl (by decide) rfl (fun ls hl => ?_)
        have hd : 0 < z_93 := by rw [h_93, eux, euy, evx, evy, h_30, h_36, h_44, h_50, h_59, h_65, h_74, h_80]; exact hd0
        have hdu : z_93 ≤ 12800 := by have g1 := mulb (A := 80) (B := 80) b_ux b_vy; have g2 := mulb (A := 80) (B := 80) b_uy b_vx; omega
        have kux : ux = mX u s 1 - mX u s 0 ∧ uy = mY u s 1 - mY u s 0 := ⟨by rw [eux, h_30, h_36], by rw [euy, h_44, h_50]⟩
        have kvx : vx = mX u s 2 - mX u s 0 ∧ vy = mY u s 2 - mY u s 0 := ⟨by rw [evx, h_59, h_65], by rw [evy, h_74, h_80]⟩
        have hB : ∀ a b w : Int, wdM u s a b w → (-w ≤ a * ux + b * uy ∧ a * ux + b * uy ≤ w) ∧ -w ≤ a * vx + b * vy ∧ a * vx + b * vy ≤ w := fun a b w h => by rw [kux.1, kux.2, kvx.1, kvx.2]; exact ⟨wdM_p h (by omega) (by omega), wdM_p h (by omega) (by omega)⟩
        refine lv_aload_n SS.1 SS.2.1 dX12_least_98 rfl (lv_at hl 5 rfl) ?_
        refine lv_iload_n SS.1 SS.2.1 dX12_least_99 rfl (lv_at hl 6 rfl) ?_
        refine j_iconst SS dX12_least_100 ?_
        refine j_iconst SS dX12_least_101 ?_
        refine j_vRi SS (As := [.int (J s), .int (J 1), .int (J 0)]) (rest := []) (c_X12_widthOf2 l D o q u s 1 0 (show 0 ≤ s ∧ s ≤ 7 from (by omega)) (show Sh u s from (hSh)) (show 0 < mN u s from (by omega)) (show -1000000 ≤ (1 : Int) ∧ (1 : Int) ≤ 1000000 from (by omega)) (show -1000000 ≤ (0 : Int) ∧ (0 : Int) ≤ 1000000 from (by omega))) mf_X12_widthOf kw_1277 hG hP hP (ci := 8) (q0 := 0) rfl rfl rfl rfl hl.1 ⟨⟨Nat.le_of_ble_eq_true rfl, Nat.le_of_ble_eq_true rfl⟩, Nat.le_of_ble_eq_true rfl, Nat.le_refl _, Nat.le_refl _⟩ rfl dX12_least_102 (fun z_102 h_102 => ?_)
        have h_102 : wdM u s (1 : Int) (0 : Int) z_102 ∧ 0 ≤ z_102 ∧ z_102 ≤ 400000000 := h_102
        refine lv_istore (lv' := [(8, .int (J z_102)), (7, .int (J z_93)), (6, .int (J vy)), (5, .int (J vx)), (4, .int (J uy)), (3, .int (J ux)), (0, .ref o), (1, .int (J s)), (2, .int (J k))]) SS.1 SS.2.1 dX12_least_105 hl (by decide) rfl (fun ls hl => ?_)
        refine lv_aload_n SS.1 SS.2.1 dX12_least_107 rfl (lv_at hl 6 rfl) ?_
        refine lv_iload_n SS.1 SS.2.1 dX12_least_108 rfl (lv_at hl 7 rfl) ?_
        refine j_iconst SS dX12_least_109 ?_
        refine j_iconst SS dX12_least_110 ?_
        refine j_vRi SS (As := [.int (J s), .int (J 0), .int (J 1)]) (rest := []) (c_X12_widthOf2 l D o q u s 0 1 (show 0 ≤ s ∧ s ≤ 7 from (by omega)) (show Sh u s from (hSh)) (show 0 < mN u s from (by omega)) (show -1000000 ≤ (0 : Int) ∧ (0 : Int) ≤ 1000000 from (by omega)) (show -1000000 ≤ (1 : Int) ∧ (1 : Int) ≤ 1000000 from (by omega))) mf_X12_widthOf kw_1277 hG hP hP (ci := 8) (q0 := 0) rfl rfl rfl rfl hl.1 ⟨⟨Nat.le_of_ble_eq_true rfl, Nat.le_of_ble_eq_true rfl⟩, Nat.le_of_ble_eq_true rfl, Nat.le_refl _, Nat.le_refl _⟩ rfl dX12_least_111 (fun z_111 h_111 => ?_)
        have h_111 : wdM u s (0 : Int) (1 : Int) z_111 ∧ 0 ≤ z_111 ∧ z_111 ≤ 400000000 := h_111
        refine lv_istore (lv' := [(9, .int (J z_111)), (8, .int (J z_102)), (7, .int (J z_93)), (6, .int (J vy)), (5, .int (J vx)), (4, .int (J uy)), (3, .int (J ux)), (0, .ref o), (1, .int (J s)), (2, .int (J k))]) SS.1 SS.2.1 dX12_least_114 hl (by decide) rfl (fun ls hl => ?_)
        refine lv_iload SS.1 SS.2.1 dX12_least_116 (lv_at hl 1 rfl) ?_
        refine lv_iload SS.1 SS.2.1 dX12_least_118 (lv_at hl 0 rfl) ?_
        have L_130 : ∀ (m : Int) (ls : Array Slot) (hl : lv_has ls 22 [(0, .ref o), (1, .int (J s)), (2, .int (J k)), (3, .int (J ux)), (4, .int (J uy)), (5, .int (J vx)), (6, .int (J vy)), (7, .int (J z_93))]) (i130_0 : (0 ≤ m ∧ m ≤ 320) ∧ (m = z_102 ∨ m = z_111)), W pr l en (headSpec (jw yX12_least cX12_least 22 (some .int)) (jr 3 65)).room st mi (([.ref o, .int (J s), .int (J k)] : List Value).toArray) below meth co st.heap [] 0 0 (MQ below (jRi (fun z => leM u s k z)) (([.ref o, .int (J s), .int (J k)] : List Value).toArray) st 0 0 (fun _ => False)) (F0 mi 130 ls [.int (J m)]) := by
          intro m ls hl i130_0
          refine lv_istore (lv' := [(10, .int (J m)), (0, .ref o), (1, .int (J s)), (2, .int (J k)), (3, .int (J ux)), (4, .int (J uy)), (5, .int (J vx)), (6, .int (J vy)), (7, .int (J z_93))]) SS.1 SS.2.1 dX12_least_130 hl (by decide) rfl (fun ls hl => ?_)
          refine j_ldc SS (-1000000) kw_1213 dX12_least_132 ?_
          refine lv_istore (lv' := [(11, .int (J (-1000000))), (10, .int (J m)), (0, .ref o), (1, .int (J s)), (2, .int (J k)), (3, .int (J ux)), (4, .int (J uy)), (5, .int (J vx)), (6, .int (J vy)), (7, .int (J z_93))]) SS.1 SS.2.1 dX12_least_134 hl (by decide) rfl (fun ls hl => ?_)
          refine j_ldc SS (-1000000) kw_1213 dX12_least_136 ?_
          refine lv_istore (lv' := [(12, .int (J (-1000000))), (11, .int (J (-1000000))), (10, .int (J m)), (0, .ref o), (1, .int (J s)), (2, .int (J k)), (3, .int (J ux)), (4, .int (J uy)), (5, .int (J vx)), (6, .int (J vy)), (7, .int (J z_93))]) SS.1 SS.2.1 dX12_least_138 hl (by decide) rfl (fun ls hl => ?_)
          refine lv_iload SS.1 SS.2.1 dX12_least_140 (lv_at hl 2 rfl) ?_
          refine lv_istore (lv' := [(13, .int (J m)), (12, .int (J (-1000000))), (11, .int (J (-1000000))), (10, .int (J m)), (0, .ref o), (1, .int (J s)), (2, .int (J k)), (3, .int (J ux)), (4, .int (J uy)), (5, .int (J vx)), (6, .int (J vy)), (7, .int (J z_93))]) SS.1 SS.2.1 dX12_least_142 hl (by decide) rfl (fun ls hl => ?_)
          refine lv_iload SS.1 SS.2.1 dX12_least_144 (lv_at hl 3 rfl) ?_
          refine j_ineg SS dX12_least_146 ?_
          refine lv_istore (lv' := [(14, .int (J (-m))), (13, .int (J m)), (12, .int (J (-1000000))), (11, .int (J (-1000000))), (10, .int (J m)), (0, .ref o), (1, .int (J s)), (2, .int (J k)), (3, .int (J ux)), (4, .int (J uy)), (5, .int (J vx)), (6, .int (J vy)), (7, .int (J z_93))]) SS.1 SS.2.1 dX12_least_147 hl (by decide) rfl (fun ls hl => ?_)
          have L_149 : ∀ (nn : Nat) (ba : Int) (bb : Int) (be : Int) (x : Int) (ls : Array Slot) (hl : lv_has ls 22 [(0, .ref o), (1, .int (J s)), (2, .int (J k)), (3, .int (J ux)), (4, .int (J uy)), (5, .int (J vx)), (6, .int (J vy)), (7, .int (J z_93)), (10, .int (J m)), (11, .int (J ba)), (12, .int (J bb)), (13, .int (J be)), (14, .int (J x))]) (i149_0 : -m ≤ x ∧ x ≤ m + 1) (i149_1 : -1000000 ≤ ba ∧ ba ≤ 1000000) (i149_2 : -1000000 ≤ bb ∧ bb ≤ 1000000) (i149_3 : 0 ≤ be ∧ be ≤ 400000000) (i149_4 : LI u s m (fun a b => a * ux + b * uy < x) be ba bb), (m + 1 - x).toNat < nn → W pr l en (headSpec (jw yX12_least cX12_least 22 (some .int)) (jr 3 65)).room st mi (([.ref o, .int (J s), .int (J k)] : List Value).toArray) below meth co st.heap [] 0 0 (MQ below (jRi (fun z => leM u s k z)) (([.ref o, .int (J s), .int (J k)] : List Value).toArray) st 0 0 (fun _ => False)) (F0 mi 149 ls []) := by
            intro nn
            induction nn with
            | zero => intros; omega
            | succ nn ih_149 =>
              intro ba bb be x ls hl i149_0 i149_1 i149_2 i149_3 i149_4 hm
              refine lv_iload SS.1 SS.2.1 dX12_least_149 (lv_at hl 12 rfl) ?_
              refine lv_iload SS.1 SS.2.1 dX12_least_151 (lv_at hl 8 rfl) ?_
              refine j_icmp_gt SS (tgt := 335) (x := x) (y := m) dX12_least_153 (by decide) (by omega) (by omega) (fun c_153 => ?_) (fun c_153 => ?_)
              · skip
                refine lv_iload_n SS.1 SS.2.1 dX12_least_335 rfl (lv_at hl 2 rfl) ?_
                refine j_if_ne SS (tgt := 344) (x := k) dX12_least_336 (by decide) (by omega) (fun c_336 => ?_) (fun c_336 => ?_)
                · skip
                  refine lv_iload_n SS.1 SS.2.1 dX12_least_344 rfl (lv_at hl 2 rfl) ?_
                  refine j_iconst SS dX12_least_345 ?_
                  refine j_icmp_ne SS (tgt := 354) (x := k) (y := 1) dX12_least_346 (by decide) (by omega) (by decide) (fun c_346 => ?_) (fun c_346 => ?_)
                  · skip
                    refine lv_iload SS.1 SS.2.1 dX12_least_354 (lv_at hl 10 rfl) ?_
                    exact W.iret SS.1 SS.2.1 hr (fun t ht hW => ⟨_, rfl, ⟨bb, rfl, (by have kE := LI_e (by omega) h_102.1 h_111.1 i130_0.2 kux (show m < x by omega) i149_4; exact Or.inr ⟨⟨by omega, by omega, by omega⟩, be, ba, bb, kE.1, kE.2.1, kE.2.2, by omega⟩)⟩, ht⟩) (fun _ h => nomatch h) dX12_least_356 hlk
                  · skip
                    refine lv_iload SS.1 SS.2.1 dX12_least_349 (lv_at hl 9 rfl) ?_
                    refine lv_goto (tgt := 356) SS.1 SS.2.1 dX12_least_351 (by decide) ?_
                    exact W.iret SS.1 SS.2.1 hr (fun t ht hW => ⟨_, rfl, ⟨ba, rfl, (by have kE := LI_e (by omega) h_102.1 h_111.1 i130_0.2 kux (show m < x by omega) i149_4; exact Or.inr ⟨⟨by omega, by omega, by omega⟩, be, ba, bb, kE.1, kE.2.1, kE.2.2, by omega⟩)⟩, ht⟩) (fun _ h => nomatch h) dX12_least_356 hlk
                · skip
                  refine lv_iload SS.1 SS.2.1 dX12_least_339 (lv_at hl 11 rfl) ?_
                  refine lv_goto (tgt := 356) SS.1 SS.2.1 dX12_least_341 (by decide) ?_
                  exact W.iret SS.1 SS.2.1 hr (fun t ht hW => ⟨_, rfl, ⟨be, rfl, (by have kE := LI_e (by omega) h_102.1 h_111.1 i130_0.2 kux (show m < x by omega) i149_4; exact Or.inr ⟨⟨by omega, by omega, by omega⟩, be, ba, bb, kE.1, kE.2.1, kE.2.2, by omega⟩)⟩, ht⟩) (fun _ h => nomatch h) dX12_least_356 hlk
              · skip
                refine lv_iload SS.1 SS.2.1 dX12_least_156 (lv_at hl 8 rfl) ?_
                refine j_ineg SS dX12_least_158 ?_
                refine lv_istore (lv' := [(15, .int (J (-m))), (0, .ref o), (1, .int (J s)), (2, .int (J k)), (3, .int (J ux)), (4, .int (J uy)), (5, .int (J vx)), (6, .int (J vy)), (7, .int (J z_93)), (10, .int (J m)), (11, .int (J ba)), (12, .int (J bb)), (13, .int (J be)), (14, .int (J x))]) SS.1 SS.2.1 dX12_least_159 hl (by decide) rfl (fun ls hl => ?_)
                have L_161 : ∀ (nn : Nat) (ba2 : Int) (bb2 : Int) (be2 : Int) (y : Int) (ls : Array Slot) (hl : lv_has ls 22 [(0, .ref o), (1, .int (J s)), (2, .int (J k)), (3, .int (J ux)), (4, .int (J uy)), (5, .int (J vx)), (6, .int (J vy)), (7, .int (J z_93)), (10, .int (J m)), (11, .int (J ba2)), (12, .int (J bb2)), (13, .int (J be2)), (14, .int (J x)), (15, .int (J y))]) (i161_0 : -m ≤ y ∧ y ≤ m + 1) (i161_1 : -1000000 ≤ ba2 ∧ ba2 ≤ 1000000) (i161_2 : -1000000 ≤ bb2 ∧ bb2 ≤ 1000000) (i161_3 : 0 ≤ be2 ∧ be2 ≤ 400000000) (i161_4 : LI u s m (fun a b => a * ux + b * uy < x ∨ (a * ux + b * uy = x ∧ a * vx + b * vy < y)) be2 ba2 bb2), (m + 1 - y).toNat < nn → W pr l en (headSpec (jw yX12_least cX12_least 22 (some .int)) (jr 3 65)).room st mi (([.ref o, .int (J s), .int (J k)] : List Value).toArray) below meth co st.heap [] 0 0 (MQ below (jRi (fun z => leM u s k z)) (([.ref o, .int (J s), .int (J k)] : List Value).toArray) st 0 0 (fun _ => False)) (F0 mi 161 ls []) := by
                  intro nn
                  induction nn with
                  | zero => intros; omega
                  | succ nn ih_161 =>
                    intro ba2 bb2 be2 y ls hl i161_0 i161_1 i161_2 i161_3 i161_4 hm
                    refine lv_iload SS.1 SS.2.1 dX12_least_161 (lv_at hl 13 rfl) ?_
                    refine lv_iload SS.1 SS.2.1 dX12_least_163 (lv_at hl 8 rfl) ?_
                    refine j_icmp_gt SS (tgt := 329) (x := y) (y := m) dX12_least_165 (by decide) (by omega) (by omega) (fun c_165 => ?_) (fun c_165 => ?_)
                    · skip
                      refine lv_iinc (v := J (x + 1)) (lv' := [(14, .int (J (x + 1))), (0, .ref o), (1, .int (J s)), (2, .int (J k)), (3, .int (J ux)), (4, .int (J uy)), (5, .int (J vx)), (6, .int (J vy)), (7, .int (J z_93)), (10, .int (J m)), (11, .int (J ba2)), (12, .int (J bb2)), (13, .int (J be2)), (15, .int (J y))]) SS.1 SS.2.1 dX12_least_329 hl (k := 12) rfl (J_add _ _) (by decide) rfl (fun ls hl => ?_)
                      refine lv_goto (tgt := 149) SS.1 SS.2.1 dX12_least_332 (by decide) ?_
                      exact ih_149 ba2 bb2 be2 (x + 1) ls (lv_sub hl [1, 2, 3, 4, 5, 6, 7, 8, 9, 10, 11, 12, 0] rfl) (by omega) (by omega) (by omega) (by omega) (LI_s i161_4 (fun a b w h1 h2 h3 h4 => by have h5 := hB a b w h3; by_cases e : a * ux + b * uy < x; exact Or.inl e; exact Or.inr ⟨by omega, by omega⟩)) (by omega)
                    · skip
                      have b1 : -320 ≤ x ∧ x ≤ 320 := by omega
                      have b2 : -320 ≤ y ∧ y ≤ 320 := by omega
                      refine lv_iload SS.1 SS.2.1 dX12_least_168 (lv_at hl 12 rfl) ?_
                      refine lv_iload SS.1 SS.2.1 dX12_least_170 (lv_at hl 6 rfl) ?_
                      refine j_imul SS (x := x) (y := vy) dX12_least_172 ?_
                      refine lv_iload SS.1 SS.2.1 dX12_least_173 (lv_at hl 13 rfl) ?_
                      refine lv_iload SS.1 SS.2.1 dX12_least_175 (lv_at hl 4 rfl) ?_
                      refine j_imul SS (x := y) (y := uy) dX12_least_177 ?_
                      refine j_isub SS (x := (x * vy)) (y := (y * uy)) dX12_least_178 ?_
                      obtain ⟨up, eup⟩ : ∃ z : Int, z = ((x * vy) - (y * uy)) := ⟨_, rfl⟩
                      rw [← eup]
                      refine lv_istore (lv' := [(16, .int (J up)), (0, .ref o), (1, .int (J s)), (2, .int (J k)), (3, .int (J ux)), (4, .int (J uy)), (5, .int (J vx)), (6, .int (J vy)), (7, .int (J z_93)), (10, .int (J m)), (11, .int (J ba2)), (12, .int (J bb2)), (13, .int (J be2)), (14, .int (J x)), (15, .int (J y))]) SS.1 SS.2.1 dX12_least_179 hl (by decide) rfl (fun ls hl => ?_)
                      refine lv_iload SS.1 SS.2.1 dX12_least_181 (lv_at hl 14 rfl) ?_
                      refine lv_iload_n SS.1 SS.2.1 dX12_least_183 rfl (lv_at hl 4 rfl) ?_
                      refine j_imul SS (x := y) (y := ux) dX12_least_184 ?_
                      refine lv_iload SS.1 SS.2.1 dX12_least_185 (lv_at hl 13 rfl) ?_
                      refine lv_iload SS.1 SS.2.1 dX12_least_187 (lv_at hl 6 rfl) ?_
                      refine j_imul SS (x := x) (y := vx) dX12_least_189 ?_
                      refine j_isub SS (x := (y * ux)) (y := (x * vx)) dX12_least_190 ?_
                      obtain ⟨dn, edn⟩ : ∃ z : Int, z = ((y * ux) - (x * vx)) := ⟨_, rfl⟩
                      rw [← edn]
                      refine lv_istore (lv' := [(17, .int (J dn)), (16, .int (J up)), (0, .ref o), (1, .int (J s)), (2, .int (J k)), (3, .int (J ux)), (4, .int (J uy)), (5, .int (J vx)), (6, .int (J vy)), (7, .int (J z_93)), (10, .int (J m)), (11, .int (J ba2)), (12, .int (J bb2)), (13, .int (J be2)), (14, .int (J x)), (15, .int (J y))]) SS.1 SS.2.1 dX12_least_191 hl (by decide) rfl (fun ls hl => ?_)
                      have g1 := mulb (A := 320) (B := 80) (a := x) b1 b_vy
                      have g2 := mulb (A := 320) (B := 80) (a := y) b2 b_uy
                      have g3 := mulb (A := 320) (B := 80) (a := y) b2 b_ux
                      have g4 := mulb (A := 320) (B := 80) (a := x) b1 b_vx
                      have b_up : -51200 ≤ up ∧ up ≤ 51200 := by omega
                      have b_dn : -51200 ≤ dn ∧ dn ≤ 51200 := by omega
                      have r1 := tm_c (a := up) (n := z_93) hd
                      have r2 := tm_c (a := dn) (n := z_93) hd
                      have r3 := td_b (b := z_93) b_up
                      have r4 := td_b (b := z_93) b_dn
                      refine lv_iload SS.1 SS.2.1 dX12_least_193 (lv_at hl 1 rfl) ?_
                      refine lv_iload SS.1 SS.2.1 dX12_least_195 (lv_at hl 9 rfl) ?_
                      refine j_irem SS (x := up) (y := z_93) dX12_least_197 (by omega) (by omega) (by omega) ?_
                      have L_323 : ∀ (ba3 : Int) (bb3 : Int) (be3 : Int) (ls : Array Slot) (hl : lv_has ls 22 [(0, .ref o), (1, .int (J s)), (2, .int (J k)), (3, .int (J ux)), (4, .int (J uy)), (5, .int (J vx)), (6, .int (J vy)), (7, .int (J z_93)), (10, .int (J m)), (11, .int (J ba3)), (12, .int (J bb3)), (13, .int (J be3)), (14, .int (J x)), (15, .int (J y))]) (i323_0 : -1000000 ≤ ba3 ∧ ba3 ≤ 1000000) (i323_1 : -1000000 ≤ bb3 ∧ bb3 ≤ 1000000) (i323_2 : 0 ≤ be3 ∧ be3 ≤ 400000000) (i323_3 : LI u s m (fun a b => a * ux + b * uy < x ∨ (a * ux + b * uy = x ∧ a * vx + b * vy < (y + 1))) be3 ba3 bb3), W pr l en (headSpec (jw yX12_least cX12_least 22 (some .int)) (jr 3 65)).room st mi (([.ref o, .int (J s), .int (J k)] : List Value).toArray) below meth co st.heap [] 0 0 (MQ below (jRi (fun z => leM u s k z)) (([.ref o, .int (J s), .int (J k)] : List Value).toArray) st 0 0 (fun _ => False)) (F0 mi 323 ls []) := by
                        intro ba3 bb3 be3 ls hl i323_0 i323_1 i323_2 i323_3
                        refine lv_iinc (v := J (y + 1)) (lv' := [(15, .int (J (y + 1))), (0, .ref o), (1, .int (J s)), (2, .int (J k)), (3, .int (J ux)), (4, .int (J uy)), (5, .int (J vx)), (6, .int (J vy)), (7, .int (J z_93)), (10, .int (J m)), (11, .int (J ba3)), (12, .int (J bb3)), (13, .int (J be3)), (14, .int (J x))]) SS.1 SS.2.1 dX12_least_323 hl (k := 13) rfl (J_add _ _) (by decide) rfl (fun ls hl => ?_)
                        refine lv_goto (tgt := 161) SS.1 SS.2.1 dX12_least_326 (by decide) ?_
                        exact ih_161 ba3 bb3 be3 (y + 1) ls (lv_sub hl [1, 2, 3, 4, 5, 6, 7, 8, 9, 10, 11, 12, 13, 0] rfl) (by omega) (by omega) (by omega) (by omega) (i323_3) (by omega)
                      refine j_if_ne SS (tgt := 323) (x := (Int.tmod up z_93)) dX12_least_198 (by decide) (by omega) (fun c_198 => ?_) (fun c_198 => ?_)
                      · skip
                        exact L_323 ba2 bb2 be2 ls (lv_sub hl [2, 3, 4, 5, 6, 7, 8, 9, 10, 11, 12, 13, 14, 15] rfl) (by first | omega | (rw [ea_]; omega)) (by first | omega | (rw [eb_]; omega)) (by omega) (LI_s i161_4 (fun a b w h1 h2 h3 h4 => by rcases h2 with k | ⟨k1, k2⟩; (exact Or.inl k); by_cases e : a * vx + b * vy < y; (exact Or.inr ⟨k1, e⟩); exfalso; obtain ⟨q1, q2⟩ := mat_q h_93 k1 (show a * vx + b * vy = y by omega); have t1 := mat_t (show z_93 ≠ 0 by omega) (eup.trans q1); have t2 := mat_t (show z_93 ≠ 0 by omega) (edn.trans q2); first | omega | (have w1 := h_219; rw [t1.2, t2.2] at w1; unfold way1 at h1; rcases w1 with w1 | w1; omega; exact w1.2 h1)))
                      · skip
                        refine lv_iload SS.1 SS.2.1 dX12_least_201 (lv_at hl 0 rfl) ?_
                        refine lv_iload SS.1 SS.2.1 dX12_least_203 (lv_at hl 9 rfl) ?_
                        refine j_irem SS (x := dn) (y := z_93) dX12_least_205 (by omega) (by omega) (by omega) ?_
                        refine j_if_ne SS (tgt := 323) (x := (Int.tmod dn z_93)) dX12_least_206 (by decide) (by omega) (fun c_206 => ?_) (fun c_206 => ?_)
                        · skip
                          exact L_323 ba2 bb2 be2 ls (lv_sub hl [2, 3, 4, 5, 6, 7, 8, 9, 10, 11, 12, 13, 14, 15] rfl) (by first | omega | (rw [ea_]; omega)) (by first | omega | (rw [eb_]; omega)) (by omega) (LI_s i161_4 (fun a b w h1 h2 h3 h4 => by rcases h2 with k | ⟨k1, k2⟩; (exact Or.inl k); by_cases e : a * vx + b * vy < y; (exact Or.inr ⟨k1, e⟩); exfalso; obtain ⟨q1, q2⟩ := mat_q h_93 k1 (show a * vx + b * vy = y by omega); have t1 := mat_t (show z_93 ≠ 0 by omega) (eup.trans q1); have t2 := mat_t (show z_93 ≠ 0 by omega) (edn.trans q2); first | omega | (have w1 := h_219; rw [t1.2, t2.2] at w1; unfold way1 at h1; rcases w1 with w1 | w1; omega; exact w1.2 h1)))
                        · skip
                          refine lv_iload SS.1 SS.2.1 dX12_least_209 (lv_at hl 1 rfl) ?_
                          refine lv_iload SS.1 SS.2.1 dX12_least_211 (lv_at hl 9 rfl) ?_
                          refine j_idiv SS (x := up) (y := z_93) dX12_least_213 (by omega) (by omega) (by omega) ?_
                          refine lv_iload SS.1 SS.2.1 dX12_least_214 (lv_at hl 0 rfl) ?_
                          refine lv_iload SS.1 SS.2.1 dX12_least_216 (lv_at hl 9 rfl) ?_
                          refine j_idiv SS (x := dn) (y := z_93) dX12_least_218 (by omega) (by omega) (by omega) ?_
                          refine j_sRi SS (As := [.int (J (Int.tdiv up z_93)), .int (J (Int.tdiv dn z_93))]) (rest := []) (c_X12_isWay l D (Int.tdiv up z_93) (Int.tdiv dn z_93) (show -2147483648 < (Int.tdiv up z_93) ∧ (Int.tdiv up z_93) ≤ 2147483647 from (by omega)) (show -2147483648 < (Int.tdiv dn z_93) ∧ (Int.tdiv dn z_93) ≤ 2147483647 from (by omega))) mf_X12_isWay kw_1274 hG trivial rfl hl.1 ⟨⟨Nat.le_of_ble_eq_true rfl, Nat.le_of_ble_eq_true rfl⟩, Nat.le_of_ble_eq_true rfl, Nat.le_refl _, Nat.le_refl _⟩ rfl dX12_least_219 (fun z_219 h_219 => ?_)
                          have h_219 : (z_219 = 1 ∧ ((Int.gcd (Int.tdiv up z_93) (Int.tdiv dn z_93) : Int) = 1 ∧ (0 < (Int.tdiv up z_93) ∨ ((Int.tdiv up z_93) = 0 ∧ (Int.tdiv dn z_93) = 1)))) ∨ (z_219 = 0 ∧ ¬ ((Int.gcd (Int.tdiv up z_93) (Int.tdiv dn z_93) : Int) = 1 ∧ (0 < (Int.tdiv up z_93) ∨ ((Int.tdiv up z_93) = 0 ∧ (Int.tdiv dn z_93) = 1)))) := h_219
                          refine j_if_eq SS (tgt := 323) (x := z_219) dX12_least_222 (by decide) (by omega) (fun c_222 => ?_) (fun c_222 => ?_)
                          · skip
                            exact L_323 ba2 bb2 be2 ls (lv_sub hl [2, 3, 4, 5, 6, 7, 8, 9, 10, 11, 12, 13, 14, 15] rfl) (by first | omega | (rw [ea_]; omega)) (by first | omega | (rw [eb_]; omega)) (by omega) (LI_s i161_4 (fun a b w h1 h2 h3 h4 => by rcases h2 with k | ⟨k1, k2⟩; (exact Or.inl k); by_cases e : a * vx + b * vy < y; (exact Or.inr ⟨k1, e⟩); exfalso; obtain ⟨q1, q2⟩ := mat_q h_93 k1 (show a * vx + b * vy = y by omega); have t1 := mat_t (show z_93 ≠ 0 by omega) (eup.trans q1); have t2 := mat_t (show z_93 ≠ 0 by omega) (edn.trans q2); first | omega | (have w1 := h_219; rw [t1.2, t2.2] at w1; unfold way1 at h1; rcases w1 with w1 | w1; omega; exact w1.2 h1)))
                          · skip
                            refine lv_iload SS.1 SS.2.1 dX12_least_225 (lv_at hl 1 rfl) ?_
                            refine lv_iload SS.1 SS.2.1 dX12_least_227 (lv_at hl 9 rfl) ?_
                            refine j_idiv SS (x := up) (y := z_93) dX12_least_229 (by omega) (by omega) (by omega) ?_
                            obtain ⟨a_, ea_⟩ : ∃ z : Int, z = (Int.tdiv up z_93) := ⟨_, rfl⟩
                            rw [← ea_]
                            refine lv_istore (lv' := [(18, .int (J a_)), (17, .int (J dn)), (16, .int (J up)), (0, .ref o), (1, .int (J s)), (2, .int (J k)), (3, .int (J ux)), (4, .int (J uy)), (5, .int (J vx)), (6, .int (J vy)), (7, .int (J z_93)), (10, .int (J m)), (11, .int (J ba2)), (12, .int (J bb2)), (13, .int (J be2)), (14, .int (J x)), (15, .int (J y))]) SS.1 SS.2.1 dX12_least_230 hl (by decide) rfl (fun ls hl => ?_)
                            refine lv_iload SS.1 SS.2.1 dX12_least_232 (lv_at hl 1 rfl) ?_
                            refine lv_iload SS.1 SS.2.1 dX12_least_234 (lv_at hl 10 rfl) ?_
                            refine j_idiv SS (x := dn) (y := z_93) dX12_least_236 (by omega) (by omega) (by omega) ?_
                            obtain ⟨b_, eb_⟩ : ∃ z : Int, z = (Int.tdiv dn z_93) := ⟨_, rfl⟩
                            rw [← eb_]
                            refine lv_istore (lv' := [(19, .int (J b_)), (18, .int (J a_)), (17, .int (J dn)), (16, .int (J up)), (0, .ref o), (1, .int (J s)), (2, .int (J k)), (3, .int (J ux)), (4, .int (J uy)), (5, .int (J vx)), (6, .int (J vy)), (7, .int (J z_93)), (10, .int (J m)), (11, .int (J ba2)), (12, .int (J bb2)), (13, .int (J be2)), (14, .int (J x)), (15, .int (J y))]) SS.1 SS.2.1 dX12_least_237 hl (by decide) rfl (fun ls hl => ?_)
                            refine lv_aload_n SS.1 SS.2.1 dX12_least_239 rfl (lv_at hl 4 rfl) ?_
                            refine lv_iload_n SS.1 SS.2.1 dX12_least_240 rfl (lv_at hl 5 rfl) ?_
                            refine lv_iload SS.1 SS.2.1 dX12_least_241 (lv_at hl 1 rfl) ?_
                            refine lv_iload SS.1 SS.2.1 dX12_least_243 (lv_at hl 0 rfl) ?_
                            refine j_vRi SS (As := [.int (J s), .int (J a_), .int (J b_)]) (rest := []) (c_X12_widthOf2 l D o q u s a_ b_ (show 0 ≤ s ∧ s ≤ 7 from (by omega)) (show Sh u s from (hSh)) (show 0 < mN u s from (by omega)) (show -1000000 ≤ a_ ∧ a_ ≤ 1000000 from (by omega)) (show -1000000 ≤ b_ ∧ b_ ≤ 1000000 from (by omega))) mf_X12_widthOf kw_1277 hG hP hP (ci := 8) (q0 := 0) rfl rfl rfl rfl hl.1 ⟨⟨Nat.le_of_ble_eq_true rfl, Nat.le_of_ble_eq_true rfl⟩, Nat.le_of_ble_eq_true rfl, Nat.le_refl _, Nat.le_refl _⟩ rfl dX12_least_245 (fun z_245 h_245 => ?_)
                            have h_245 : wdM u s a_ b_ z_245 ∧ 0 ≤ z_245 ∧ z_245 ≤ 400000000 := h_245
                            refine lv_istore (lv' := [(20, .int (J z_245)), (19, .int (J b_)), (18, .int (J a_)), (17, .int (J dn)), (16, .int (J up)), (0, .ref o), (1, .int (J s)), (2, .int (J k)), (3, .int (J ux)), (4, .int (J uy)), (5, .int (J vx)), (6, .int (J vy)), (7, .int (J z_93)), (10, .int (J m)), (11, .int (J ba2)), (12, .int (J bb2)), (13, .int (J be2)), (14, .int (J x)), (15, .int (J y))]) SS.1 SS.2.1 dX12_least_248 hl (by decide) rfl (fun ls hl => ?_)
                            refine lv_iload SS.1 SS.2.1 dX12_least_250 (lv_at hl 14 rfl) ?_
                            refine j_ldc SS (-1000000) kw_1213 dX12_least_252 ?_
                            have L_297 : ∀ (ah : Int) (ls : Array Slot) (hl : lv_has ls 22 [(0, .ref o), (1, .int (J s)), (2, .int (J k)), (3, .int (J ux)), (4, .int (J uy)), (5, .int (J vx)), (6, .int (J vy)), (7, .int (J z_93)), (10, .int (J m)), (11, .int (J ba2)), (12, .int (J bb2)), (13, .int (J be2)), (14, .int (J x)), (15, .int (J y)), (18, .int (J a_)), (19, .int (J b_)), (20, .int (J z_245))]) (i297_0 : (ah = 1 ∧ (ba2 = -1000000 ∨ lt3 z_245 a_ b_ be2 ba2 bb2)) ∨ (ah = 0 ∧ ba2 ≠ -1000000 ∧ ¬ lt3 z_245 a_ b_ be2 ba2 bb2)), W pr l en (headSpec (jw yX12_least cX12_least 22 (some .int)) (jr 3 65)).room st mi (([.ref o, .int (J s), .int (J k)] : List Value).toArray) below meth co st.heap [] 0 0 (MQ below (jRi (fun z => leM u s k z)) (([.ref o, .int (J s), .int (J k)] : List Value).toArray) st 0 0 (fun _ => False)) (F0 mi 297 ls [.int (J ah)]) := by
                              intro ah ls hl i297_0
                              refine lv_istore (lv' := [(21, .int (J ah)), (0, .ref o), (1, .int (J s)), (2, .int (J k)), (3, .int (J ux)), (4, .int (J uy)), (5, .int (J vx)), (6, .int (J vy)), (7, .int (J z_93)), (10, .int (J m)), (11, .int (J ba2)), (12, .int (J bb2)), (13, .int (J be2)), (14, .int (J x)), (15, .int (J y)), (18, .int (J a_)), (19, .int (J b_)), (20, .int (J z_245))]) SS.1 SS.2.1 dX12_least_297 hl (by decide) rfl (fun ls hl => ?_)
                              refine lv_iload SS.1 SS.2.1 dX12_least_299 (lv_at hl 17 rfl) ?_
                              refine lv_iload SS.1 SS.2.1 dX12_least_301 (lv_at hl 12 rfl) ?_
                              refine j_icmp_gt SS (tgt := 323) (x := z_245) (y := be2) dX12_least_303 (by decide) (by omega) (by omega) (fun c_303 => ?_) (fun c_303 => ?_)
                              · skip
                                exact L_323 ba2 bb2 be2 ls (lv_sub hl [1, 2, 3, 4, 5, 6, 7, 8, 9, 10, 11, 12, 13, 14] rfl) (by first | omega | (rw [ea_]; omega)) (by first | omega | (rw [eb_]; omega)) (by omega) (LI_k i161_4 (fun a b h1 h2 => by rcases h2 with k | ⟨k1, k2⟩; (exact Or.inl (Or.inl k)); by_cases e : a * vx + b * vy < y; (exact Or.inl (Or.inr ⟨k1, e⟩)); exact Or.inr (by obtain ⟨q1, q2⟩ := mat_q h_93 k1 (show a * vx + b * vy = y by omega); rw [ea_, eb_, eup, edn]; exact ⟨(mat_t (by omega) q1).2.symm, (mat_t (by omega) q2).2.symm⟩)) h_245.1 (by unfold lt3; omega))
                              · skip
                                refine lv_iload SS.1 SS.2.1 dX12_least_306 (lv_at hl 0 rfl) ?_
                                refine j_if_eq SS (tgt := 323) (x := ah) dX12_least_308 (by decide) (by omega) (fun c_308 => ?_) (fun c_308 => ?_)
                                · skip
                                  exact L_323 ba2 bb2 be2 ls (lv_sub hl [1, 2, 3, 4, 5, 6, 7, 8, 9, 10, 11, 12, 13, 14] rfl) (by first | omega | (rw [ea_]; omega)) (by first | omega | (rw [eb_]; omega)) (by omega) (LI_k i161_4 (fun a b h1 h2 => by rcases h2 with k | ⟨k1, k2⟩; (exact Or.inl (Or.inl k)); by_cases e : a * vx + b * vy < y; (exact Or.inl (Or.inr ⟨k1, e⟩)); exact Or.inr (by obtain ⟨q1, q2⟩ := mat_q h_93 k1 (show a * vx + b * vy = y by omega); rw [ea_, eb_, eup, edn]; exact ⟨(mat_t (by omega) q1).2.symm, (mat_t (by omega) q2).2.symm⟩)) h_245.1 (by rcases i297_0 with w9 | w9; omega; exact Or.inr w9.2))
                                · skip
                                  refine lv_iload SS.1 SS.2.1 dX12_least_311 (lv_at hl 17 rfl) ?_
                                  refine lv_istore (lv' := [(13, .int (J z_245)), (21, .int (J ah)), (0, .ref o), (1, .int (J s)), (2, .int (J k)), (3, .int (J ux)), (4, .int (J uy)), (5, .int (J vx)), (6, .int (J vy)), (7, .int (J z_93)), (10, .int (J m)), (11, .int (J ba2)), (12, .int (J bb2)), (14, .int (J x)), (15, .int (J y)), (18, .int (J a_)), (19, .int (J b_)), (20, .int (J z_245))]) SS.1 SS.2.1 dX12_least_313 hl (by decide) rfl (fun ls hl => ?_)
                                  refine lv_iload SS.1 SS.2.1 dX12_least_315 (lv_at hl 15 rfl) ?_
                                  refine lv_istore (lv' := [(11, .int (J a_)), (13, .int (J z_245)), (21, .int (J ah)), (0, .ref o), (1, .int (J s)), (2, .int (J k)), (3, .int (J ux)), (4, .int (J uy)), (5, .int (J vx)), (6, .int (J vy)), (7, .int (J z_93)), (10, .int (J m)), (12, .int (J bb2)), (14, .int (J x)), (15, .int (J y)), (18, .int (J a_)), (19, .int (J b_)), (20, .int (J z_245))]) SS.1 SS.2.1 dX12_least_317 hl (by decide) rfl (fun ls hl => ?_)
                                  refine lv_iload SS.1 SS.2.1 dX12_least_319 (lv_at hl 16 rfl) ?_
                                  refine lv_istore (lv' := [(12, .int (J b_)), (11, .int (J a_)), (13, .int (J z_245)), (21, .int (J ah)), (0, .ref o), (1, .int (J s)), (2, .int (J k)), (3, .int (J ux)), (4, .int (J uy)), (5, .int (J vx)), (6, .int (J vy)), (7, .int (J z_93)), (10, .int (J m)), (14, .int (J x)), (15, .int (J y)), (18, .int (J a_)), (19, .int (J b_)), (20, .int (J z_245))]) SS.1 SS.2.1 dX12_least_321 hl (by decide) rfl (fun ls hl => ?_)
                                  exact L_323 a_ b_ z_245 ls (lv_sub hl [4, 5, 6, 7, 8, 9, 10, 11, 12, 1, 0, 2, 13, 14] rfl) (by first | omega | (rw [ea_]; omega)) (by first | omega | (rw [eb_]; omega)) (by omega) (LI_u i161_4 (fun a b h1 h2 => by rcases h2 with k | ⟨k1, k2⟩; (exact Or.inl (Or.inl k)); by_cases e : a * vx + b * vy < y; (exact Or.inl (Or.inr ⟨k1, e⟩)); exact Or.inr (by obtain ⟨q1, q2⟩ := mat_q h_93 k1 (show a * vx + b * vy = y by omega); rw [ea_, eb_, eup, edn]; exact ⟨(mat_t (by omega) q1).2.symm, (mat_t (by omega) q2).2.symm⟩)) h_245.1 (by rw [ea_, eb_]; have w1 := h_219; rcases w1 with w1 | w1; exact w1.2; omega) ⟨by omega, by rcases i297_0 with w9 | w9; exact w9.2; omega⟩)
                            refine j_icmp_eq SS (tgt := 292) (x := ba2) (y := (-1000000)) dX12_least_254 (by decide) (by omega) (by decide) (fun c_254 => ?_) (fun c_254 => ?_)
                            · skip
                              refine j_iconst SS dX12_least_292 ?_
                              refine lv_goto (tgt := 297) SS.1 SS.2.1 dX12_least_293 (by decide) ?_
                              exact L_297 1 ls (lv_sub hl [5, 6, 7, 8, 9, 10, 11, 12, 13, 14, 15, 16, 17, 18, 2, 1, 0] rfl) (by unfold lt3; omega)
                            · skip
                              refine lv_iload SS.1 SS.2.1 dX12_least_257 (lv_at hl 0 rfl) ?_
                              refine lv_iload SS.1 SS.2.1 dX12_least_259 (lv_at hl 16 rfl) ?_
                              refine j_icmp_lt SS (tgt := 292) (x := z_245) (y := be2) dX12_least_261 (by decide) (by omega) (by omega) (fun c_261 => ?_) (fun c_261 => ?_)
                              · skip
                                refine j_iconst SS dX12_least_292 ?_
                                refine lv_goto (tgt := 297) SS.1 SS.2.1 dX12_least_293 (by decide) ?_
                                exact L_297 1 ls (lv_sub hl [5, 6, 7, 8, 9, 10, 11, 12, 13, 14, 15, 16, 17, 18, 2, 1, 0] rfl) (by unfold lt3; omega)
                              · skip
                                refine lv_iload SS.1 SS.2.1 dX12_least_264 (lv_at hl 0 rfl) ?_
                                refine lv_iload SS.1 SS.2.1 dX12_least_266 (lv_at hl 16 rfl) ?_
                                refine j_icmp_ne SS (tgt := 296) (x := z_245) (y := be2) dX12_least_268 (by decide) (by omega) (by omega) (fun c_268 => ?_) (fun c_268 => ?_)
                                · skip
                                  refine j_iconst SS dX12_least_296 ?_
                                  exact L_297 0 ls (lv_sub hl [5, 6, 7, 8, 9, 10, 11, 12, 13, 14, 15, 16, 17, 18, 2, 1, 0] rfl) (by unfold lt3; omega)
                                · skip
                                  refine lv_iload SS.1 SS.2.1 dX12_least_271 (lv_at hl 2 rfl) ?_
                                  refine lv_iload SS.1 SS.2.1 dX12_least_273 (lv_at hl 14 rfl) ?_
                                  refine j_icmp_lt SS (tgt := 292) (x := a_) (y := ba2) dX12_least_275 (by decide) (by omega) (by omega) (fun c_275 => ?_) (fun c_275 => ?_)
                                  · skip
                                    refine j_iconst SS dX12_least_292 ?_
                                    refine lv_goto (tgt := 297) SS.1 SS.2.1 dX12_least_293 (by decide) ?_
                                    exact L_297 1 ls (lv_sub hl [5, 6, 7, 8, 9, 10, 11, 12, 13, 14, 15, 16, 17, 18, 2, 1, 0] rfl) (by unfold lt3; omega)
                                  · skip
                                    refine lv_iload SS.1 SS.2.1 dX12_least_278 (lv_at hl 2 rfl) ?_
                                    refine lv_iload SS.1 SS.2.1 dX12_least_280 (lv_at hl 14 rfl) ?_
                                    refine j_icmp_ne SS (tgt := 296) (x := a_) (y := ba2) dX12_least_282 (by decide) (by omega) (by omega) (fun c_282 => ?_) (fun c_282 => ?_)
                                    · skip
                                      refine j_iconst SS dX12_least_296 ?_
                                      exact L_297 0 ls (lv_sub hl [5, 6, 7, 8, 9, 10, 11, 12, 13, 14, 15, 16, 17, 18, 2, 1, 0] rfl) (by unfold lt3; omega)
                                    · skip
                                      refine lv_iload SS.1 SS.2.1 dX12_least_285 (lv_at hl 1 rfl) ?_
                                      refine lv_iload SS.1 SS.2.1 dX12_least_287 (lv_at hl 15 rfl) ?_
                                      refine j_icmp_ge SS (tgt := 296) (x := b_) (y := bb2) dX12_least_289 (by decide) (by omega) (by omega) (fun c_289 => ?_) (fun c_289 => ?_)
                                      · skip
                                        refine j_iconst SS dX12_least_296 ?_
                                        exact L_297 0 ls (lv_sub hl [5, 6, 7, 8, 9, 10, 11, 12, 13, 14, 15, 16, 17, 18, 2, 1, 0] rfl) (by unfold lt3; omega)
                                      · skip
                                        refine j_iconst SS dX12_least_292 ?_
                                        refine lv_goto (tgt := 297) SS.1 SS.2.1 dX12_least_293 (by decide) ?_
                                        exact L_297 1 ls (lv_sub hl [5, 6, 7, 8, 9, 10, 11, 12, 13, 14, 15, 16, 17, 18, 2, 1, 0] rfl) (by unfold lt3; omega)
                exact L_161 ((m + 1 - (-m)).toNat + 1) ba bb be (-m) ls (lv_sub hl [1, 2, 3, 4, 5, 6, 7, 8, 9, 10, 11, 12, 13, 0] rfl) (by omega) (by omega) (by omega) (by omega) (LI_s i149_4 (fun a b w h1 h2 h3 h4 => by have h5 := hB a b w h3; rcases h2 with k | ⟨k1, k2⟩; exact k; omega)) (Nat.lt_succ_self _)
          exact L_149 ((m + 1 - (-m)).toNat + 1) (-1000000) (-1000000) m (-m) ls (lv_sub hl [5, 6, 7, 8, 9, 10, 11, 12, 4, 3, 2, 1, 0] rfl) (by omega) (by omega) (by omega) (by omega) (⟨Or.inl ⟨rfl, rfl⟩, fun a b w h1 h2 h3 h4 => by have h5 := hB a b w h3; omega⟩) (Nat.lt_succ_self _)
        have w1 := wdM_b hSh h_102.1 (by omega) (by omega)
        have w2 := wdM_b hSh h_111.1 (by omega) (by omega)
        refine j_icmp_ge SS (tgt := 128) (x := z_102) (y := z_111) dX12_least_120 (by decide) (by omega) (by omega) (fun c_120 => ?_) (fun c_120 => ?_)
        · skip
          refine lv_iload SS.1 SS.2.1 dX12_least_128 (lv_at hl 0 rfl) ?_
          exact L_130 z_111 ls (lv_sub hl [7, 8, 9, 6, 5, 4, 3, 2] rfl) (by omega)
        · skip
          refine lv_iload SS.1 SS.2.1 dX12_least_123 (lv_at hl 1 rfl) ?_
          refine lv_goto (tgt := 130) SS.1 SS.2.1 dX12_least_125 (by decide) ?_
          exact L_130 z_102 ls (lv_sub hl [7, 8, 9, 6, 5, 4, 3, 2] rfl) (by omega)
      · skip
        refine j_ldc SS (-1000000) kw_1213 dX12_least_24 ?_
        exact W.iret SS.1 SS.2.1 hr (fun t ht hW => ⟨_, rfl, ⟨(-1000000), rfl, (Or.inl ⟨fun q => by have q1 := q.1; have q2 := q.2.1; have q3 := q.2.2; omega, rfl⟩)⟩, ht⟩) (fun _ h => nomatch h) dX12_least_26 hlk


/-! heights -/
def hSam (u u' : CS) : Prop := ∀ r : Nat, r < 8 → u'.1.2.2.2.1 r = u.1.2.2.2.1 r
theorem hs_refl {u : CS} : hSam u u := fun _ _ => rfl
/-- the shape t is made anew if the answer is not below 0: then its heights are 0 -/
def cHr (u u' : CS) (t : Nat) (z : Int) : Prop := (z < 0 → hSam u u') ∧ (0 ≤ z → (∀ a : Nat, a < 40 → u'.1.2.2.2.1 t a = 0) ∧ ∀ r : Nat, r < 8 → r ≠ t → u'.1.2.2.2.1 r = u.1.2.2.2.1 r)
theorem cHr_k {u u' : CS} {i : Nat} {z : Int} {hh : Nat → Int} (e : ∀ r : Nat, u'.1.2.2.2.1 r = if r = i then hh else u.1.2.2.2.1 r) (h : (z = -3 ∧ hh = u.1.2.2.2.1 i) ∨ (0 ≤ z ∧ ∀ a : Nat, a < 40 → hh a = 0)) : cHr u u' i z := by
  refine ⟨fun q r hr => ?_, fun q => ⟨fun a ha => ?_, fun r hr hne => ?_⟩⟩
  · rcases h with ⟨_, h⟩ | ⟨h, _⟩
    · rw [e, h]
      by_cases w : r = i
      · rw [if_pos w, w]
      · rw [if_neg w]
    · omega
  · rcases h with ⟨h, _⟩ | ⟨_, h⟩
    · omega
    · rw [e, if_pos rfl]; exact h a ha
  · rw [e, if_neg hne]
theorem cHr_n {u u' : CS} {i : Nat} {z : Int} (h : hSam u u') (hz : z < 0) : cHr u u' i z := ⟨fun _ => h, fun q => by omega⟩
def mHr (v v' : MS) (t z : Int) : Prop := (z < 0 → v'.1 3 = v.1 3) ∧ (0 ≤ z → hz_ (v.1 3) (v'.1 3) t 40)
theorem mHr_n {v v' : MS} {t z : Int} (h : v'.1 3 = v.1 3) (hz : z < 0) : mHr v v' t z := ⟨fun _ => h, fun q => by omega⟩
theorem mHr_k {v v' : MS} {t z nh : Int} {P Q A B C D E : Prop} {f3 : Nat → Int} (e : v'.1 3 = f3) (hn : 0 ≤ nh) (h : (z = -3 ∧ P ∧ A ∧ B ∧ C ∧ f3 = v.1 3) ∨ (z = nh ∧ Q ∧ D ∧ E ∧ hz_ (v.1 3) f3 t 40)) : mHr v v' t z := by
  refine ⟨fun q => ?_, fun q => ?_⟩
  · rcases h with ⟨_, _, _, _, _, h⟩ | ⟨h, _⟩
    · rw [e]; exact h
    · omega
  · rcases h with ⟨h, _⟩ | ⟨_, _, _, _, h⟩
    · omega
    · rw [e]; exact h
/-- both sides hold the same heights -/
def EQH (u : CS) (v : MS) : Prop := ∀ r : Nat, r < 8 → ∀ a : Nat, a < 40 → u.1.2.2.2.1 r a = v.1 3 (40 * r + a)
theorem EQH_s {u u' : CS} {v v' : MS} (h : EQH u v) (hc : hSam u u') (hm : v'.1 3 = v.1 3) : EQH u' v' := fun r hr a ha => by
  rw [hc r hr, hm]; exact h r hr a ha
theorem EQH_r {u u' : CS} {v v' : MS} {t z z' : Int} (h : EQH u v) (ht : 0 ≤ z → 0 ≤ t ∧ t ≤ 7) (hc : cHr u u' t.toNat z) (hm : mHr v v' t z') (hz : z = z') : EQH u' v' := by
  subst hz
  by_cases g : z < 0
  · exact EQH_s h (hc.1 g) (hm.1 g)
  · have g2 : 0 ≤ z := by omega
    have ht := ht g2
    obtain ⟨c1, c2⟩ := hc.2 g2
    have m := hm.2 g2
    intro r hr a ha
    by_cases e : r = t.toNat
    · subst e
      rw [c1 a ha, (m (40 * t.toNat + a)).1 (by omega)]
    · rw [c2 r hr e, (m (40 * r + a)).2 (by omega)]
      exact h r hr a ha
def htP (n k s i v : Int) : Prop := ((0 ≤ s ∧ s ≤ 7) ∧ -1000 ≤ v ∧ v ≤ 1000) ∧ (3 ≤ n ∧ k ≤ 40) ∧ 0 ≤ i ∧ i < k
def htC (u u' : CS) (s i v z : Int) : Prop := (¬ htP (u.1.2.2.1 s.toNat) (rE u s.toNat + rI u s.toNat) s i v ∧ z = -1000000 ∧ hSam u u') ∨ (htP (u.1.2.2.1 s.toNat) (rE u s.toNat + rI u s.toNat) s i v ∧ z = u.1.2.2.2.1 s.toNat i.toNat ∧ ∀ r : Nat, r < 8 → u'.1.2.2.2.1 r = if r = s.toNat then upI (u.1.2.2.2.1 s.toNat) i.toNat v else u.1.2.2.2.1 r)
def htM (v v' : MS) (s i x z : Int) : Prop := (¬ htP (mN v s) (mEd v s + mIn v s) s i x ∧ z = -1000000 ∧ v'.1 3 = v.1 3) ∨ (htP (mN v s) (mEd v s + mIn v s) s i x ∧ z = v.1 3 (40 * s + i).toNat ∧ v'.1 3 = upI (v.1 3) (40 * s + i).toNat x)
theorem EQ_ht {u u' : CS} {v v' : MS} {s i x z z' : Int} (hC : CI u) (h : EQS u v) (hh : EQH u v) (hc : htC u u' s i x z) (hm : htM v v' s i x z') : (z = z' ∧ wRg z) ∧ EQH u' v' := by
  by_cases hs : 0 ≤ s ∧ s ≤ 7
  · have e1 := (EQS_x hC h hs).1
    obtain ⟨_, e2, e3⟩ := EQS_a hC h hs
    unfold htC at hc
    rw [e1, e2, e3] at hc
    rcases hc with ⟨a1, a2, a3⟩ | ⟨a1, a2, a3⟩ <;> rcases hm with ⟨b1, b2, b3⟩ | ⟨b1, b2, b3⟩
    · exact ⟨⟨by omega, by unfold wRg; omega⟩, EQH_s hh a3 b3⟩
    · exact absurd b1 a1
    · exact absurd a1 b1
    · have hi := a1.2.2
      have h40 := a1.2.1.2
      have k := hh s.toNat (by omega) i.toNat (by omega)
      rw [show 40 * s.toNat + i.toNat = (40 * s + i).toNat by omega] at k
      have hb := (hC.1 s.toNat (by omega)).2.1 i.toNat
      refine ⟨⟨by rw [a2, b2, k], by unfold wRg; omega⟩, fun r hr a ha => ?_⟩
      rw [a3 r hr, b3]
      by_cases e : r = s.toNat
      · subst e
        rw [if_pos rfl]
        by_cases w : a = i.toNat
        · subst w
          rw [show 40 * s.toNat + i.toNat = (40 * s + i).toNat by omega, upI_s, upI_s]
        · rw [upI_n w, upI_n (by omega)]
          exact hh _ hr a ha
      · rw [if_neg e, upI_n (by omega)]
        exact hh r hr a ha
  · rcases hc with ⟨a1, a2, a3⟩ | ⟨a1, _⟩
    · rcases hm with ⟨b1, b2, b3⟩ | ⟨b1, _⟩
      · exact ⟨⟨by omega, by unfold wRg; omega⟩, EQH_s hh a3 b3⟩
      · exact absurd b1.1.1 hs
    · exact absurd a1.1.1 hs


set_option maxHeartbeats 4000000 in
set_option maxRecDepth 100000 in
theorem c_X12_clearH (l : Launch) (D : JD) (o : Nat) (q : Nat → Nat) (u : MS) (A : Nat → Prop) (hD : va_D A (mW D o q u)) (s : Int) (p0 : IM u) (p1 : -2147483648 ≤ s ∧ s ≤ 2147483647) : Met l yX12_clear (jw yX12_clear cX12_clear 4 (some .int)) (jr 3 67) (jP [.ref o, .int (J s)] D (fun H => va_P D.1 j_cl (mW D o q u) H)) (jWi (fun z u' => ∃ f0 : Nat → Int, ∃ f1 : Nat → Int, ∃ f2 : Nat → Int, ∃ f3 : Nat → Int, ∃ nh : Int, u' = (uV (uI (uI (uI (uI u 0 f0) 1 f1) 2 f2) 3 f3) 9 nh) ∧ ((IM u' ∧ clM u u' s z) ∧ mHr u u' s z)) (fun u' H => va_P D.1 j_cl (mW D o q u') H) A) 0 0 A := by
  refine Met.ofW (cc := cX12_clear) (maxL := 4) (ret := (some .int)) (by decide) rfl ?_
  intro pr en st mi args below meth co s₁ B hml hv
  obtain ⟨rfl, hG, hP⟩ := hv
  have hr := B.returns
  have hlk := B.notSynchronized
  have SS : jS pr mi co cX12_clear 4 st _ RX12 := ⟨B.exec, B.bytes, hml, findClass_of_methodNamed B.named, fun w hw => atoms_spec (ws := (jw yX12_clear cX12_clear 4 (some .int))) B.pre w (List.mem_cons_of_mem _ hw)⟩
  have hl := lv_entry ([.ref o, .int (J s)]) (n := 4) (Nat.le_of_ble_eq_true rfl)
  rw [lg_entry_eq]
  generalize (lg_sl ([.ref o, .int (J s)]) ++ List.replicate (4 - (lg_sl ([.ref o, .int (J s)])).length) Slot.unset).toArray = ls at hl ⊢
  have hl : lv_has ls 4 [(0, .ref o), (1, .int (J s))] := hl
  have hS : va_S A st.heap st.heap [] := va_S.rf
  refine lv_iload_n SS.1 SS.2.1 dX12_clear_0 rfl (lv_at hl 1 rfl) ?_
  refine j_sRi SS (As := [.int (J s)]) (rest := []) (c_X12_isShape l D s (show -2147483648 ≤ s ∧ s ≤ 2147483647 from (by omega))) mf_X12_isShape kw_1156 hG trivial rfl hl.1 ⟨⟨Nat.le_of_ble_eq_true rfl, Nat.le_of_ble_eq_true rfl⟩, Nat.le_of_ble_eq_true rfl, Nat.le_refl _, Nat.le_refl _⟩ rfl dX12_clear_1 (fun z_1 h_1 => ?_)
  have h_1 : (z_1 = 1 ∧ (0 ≤ s ∧ s ≤ 7)) ∨ (z_1 = 0 ∧ ¬ (0 ≤ s ∧ s ≤ 7)) := h_1
  refine j_if_ne SS (tgt := 9) (x := z_1) dX12_clear_4 (by decide) (by omega) (fun c_4 => ?_) (fun c_4 => ?_)
  · skip
    have hs : 0 ≤ s ∧ s ≤ 7 := by omega
    obtain ⟨hN, _, _⟩ := p0.1 s hs.1 hs.2
    refine lv_aload_n SS.1 SS.2.1 dX12_clear_9 rfl (lv_at hl 0 rfl) ?_
    refine j_get SS hG hP 0 (v := .ref (q 0)) (C := RX12) (T := TX12) (N := 31) rfl rfl inX12 0 (by decide) (ref := RX12) kw_1058 rfl rfl dX12_clear_10 ?_
    refine lv_iload_n SS.1 SS.2.1 dX12_clear_13 rfl (lv_at hl 1 rfl) ?_
    refine j_iald SS hG hP 1 (n := 8) (f := (u.1 0)) rfl (z := s) (by omega) (by omega) dX12_clear_14 ?_
    refine lv_istore_n (lv' := [(2, .int (J (mN u s))), (0, .ref o), (1, .int (J s))]) SS.1 SS.2.1 dX12_clear_15 rfl hl (by decide) rfl (fun ls hl => ?_)
    refine lv_aload_n SS.1 SS.2.1 dX12_clear_16 rfl (lv_at hl 1 rfl) ?_
    refine j_iconst SS dX12_clear_17 ?_
    refine j_put SS hG hP (mW_D hD) hS 0 (v := .int (J 0)) (ty := .int) (C := RX12) (T := TX12) (N := 31) rfl rfl inX12 tyX12 tyX12_ok nmX12 9 (by decide) (ref := RX12) kw_1067 rfl rfl (by decide +kernel) rfl rfl (Nat.le_of_ble_eq_true rfl) dX12_clear_18 (ws' := (mW D o q (uV u 9 0))) rfl (fun H locs hP hS => ?_)
    refine lv_aload_n SS.1 SS.2.1 dX12_clear_21 rfl (lv_at hl 1 rfl) ?_
    refine lv_iload_n SS.1 SS.2.1 dX12_clear_22 rfl (lv_at hl 2 rfl) ?_
    refine j_iconst SS dX12_clear_23 ?_
    refine j_vWi SS (As := [.int (J s), .int (J 0)]) (rest := []) (c_X12_take l D o q (uV u 9 0) A (mW_D hD) s 0 (show 0 ≤ s ∧ s ≤ 7 from (by omega)) (show (0 : Int) = 0 ∨ (0 : Int) = 1 from (by omega)) (show 0 ≤ 0 ∧ 0 ≤ 1290 from (by omega)) (show bd 10000 ((u.1 7)) ((u.1 8)) (0) from (fun a ha => by omega))) mf_X12_take kw_1162 hG hP hP (ci := 8) (q0 := 0) rfl rfl rfl hS (fun _ h => h) rfl hl.1 ⟨⟨Nat.le_of_ble_eq_true rfl, Nat.le_of_ble_eq_true rfl⟩, Nat.le_of_ble_eq_true rfl, Nat.le_refl _, Nat.le_refl _⟩ rfl dX12_clear_24 (fun z_24 u24 H locs h_24 hP _ hS => ?_)
    obtain ⟨f0_24, f1_24, f2_24, f3_24, rfl, h_24⟩ := h_24
    have hP : va_P D.1 j_cl (mW D o q (uV (uI (uI (uI (uI u 0 f0_24) 1 f1_24) 2 f2_24) 3 f3_24) 9 0)) H := hP
    have h_24 : (z_24 = -3 ∧ ¬ tk_ok (0 : Int) 40 ((u.1 7)) ((u.1 8)) (0) (0) ∧ f0_24 = (u.1 0) ∧ f1_24 = (u.1 1) ∧ f2_24 = (u.1 2) ∧ f3_24 = (u.1 3)) ∨ (z_24 = 0 ∧ tk_ok (0 : Int) 40 ((u.1 7)) ((u.1 8)) (0) (0) ∧ tk_new (uV u 9 0) f0_24 f1_24 f2_24 f3_24 s) := h_24
    have hz : z_24 = 0 ∧ tk_new (uV u 9 0) f0_24 f1_24 f2_24 f3_24 s := by rcases h_24 with k | k; exact absurd (tk_0.mpr (by omega)) k.2.1; exact ⟨k.1, k.2.2⟩
    refine lv_istore_n (lv' := [(3, .int (J z_24)), (2, .int (J (mN u s))), (0, .ref o), (1, .int (J s))]) SS.1 SS.2.1 dX12_clear_27 rfl hl (by decide) rfl (fun ls hl => ?_)
    refine lv_iload_n SS.1 SS.2.1 dX12_clear_28 rfl (lv_at hl 1 rfl) ?_
    refine lv_iload_n SS.1 SS.2.1 dX12_clear_29 rfl (lv_at hl 0 rfl) ?_
    refine j_iadd SS (x := (mN u s)) (y := z_24) dX12_clear_30 ?_
    exact W.iret SS.1 SS.2.1 hr (fun t ht hW => ⟨⟨_, (uV (uI (uI (uI (uI u 0 f0_24) 1 f1_24) 2 f2_24) 3 f3_24) 9 0), rfl, ⟨((mN u s) + z_24), rfl, (⟨f0_24, f1_24, f2_24, f3_24, 0, rfl, ⟨⟨IM_new (u := uV u 9 0) p0 hs.1 hs.2 (by show (0:Int) ≤ 0 ∧ (0:Int) ≤ 24; omega) (fun a ha => by have : (a : Int) < 0 := ha; omega) (Or.inl (by show (0:Int) ≤ 1; omega)) hz.2, Or.inr ⟨hs, by omega, by have q := mNew_tk (v0 := u) (v := uV u 9 0) p0.1 rfl rfl rfl hs (by show (0:Int) ≤ 0 ∧ (0:Int) ≤ 24; omega) hz.2; exact ⟨⟨q.1.1, fun a ha => by omega⟩, q.2⟩⟩⟩, ⟨fun q => by omega, fun _ => hz.2.2.2⟩⟩⟩)⟩, by show va_P D.1 j_cl (mW D o q (uV (uI (uI (uI (uI u 0 f0_24) 1 f1_24) 2 f2_24) 3 f3_24) 9 0)) t.heap; rw [ht]; exact hP⟩, hS.F ht⟩) hS.2.2 dX12_clear_31 hlk
  · skip
    refine j_iconst SS dX12_clear_7 ?_
    exact W.iret SS.1 SS.2.1 hr (fun t ht hW => ⟨⟨_, (uV (uI (uI (uI (uI u 0 (u.1 0)) 1 (u.1 1)) 2 (u.1 2)) 3 (u.1 3)) 9 (u.2.2 9)), rfl, ⟨(-1), rfl, (⟨(u.1 0), (u.1 1), (u.1 2), (u.1 3), (u.2.2 9), rfl, ⟨⟨p0, Or.inl ⟨by omega, rfl, rfl, rfl, rfl⟩⟩, mHr_n rfl (by decide)⟩⟩)⟩, by show va_P D.1 j_cl (mW D o q (uV (uI (uI (uI (uI u 0 (u.1 0)) 1 (u.1 1)) 2 (u.1 2)) 3 (u.1 3)) 9 (u.2.2 9))) t.heap; rw [ht]; exact hP⟩, hS.F ht⟩) hS.2.2 dX12_clear_8 hlk

set_option maxHeartbeats 4000000 in
set_option maxRecDepth 100000 in
theorem c_X12_addH (l : Launch) (D : JD) (o : Nat) (q : Nat → Nat) (u : MS) (A : Nat → Prop) (hD : va_D A (mW D o q u)) (s : Int) (x : Int) (y : Int) (p0 : IM u) (p1 : -2147483648 ≤ s ∧ s ≤ 2147483647) (p2 : -2147483648 ≤ x ∧ x ≤ 2147483647) (p3 : -2147483648 ≤ y ∧ y ≤ 2147483647) : Met l yX12_add (jw yX12_add cX12_add 4 (some .int)) (jr 3 68) (jP [.ref o, .int (J s), .int (J x), .int (J y)] D (fun H => va_P D.1 j_cl (mW D o q u) H)) (jWi (fun z u' => ∃ f0 : Nat → Int, ∃ f1 : Nat → Int, ∃ f2 : Nat → Int, ∃ f3 : Nat → Int, ∃ f4 : Nat → Int, ∃ f5 : Nat → Int, ∃ w : Int, ∃ X : Nat → Int, ∃ Y : Nat → Int, ∃ nh : Int, u' = (uV (uI (uI (uV (uI (uI (uI (uI (uI (uI u 0 f0) 1 f1) 2 f2) 3 f3) 4 f4) 5 f5) 6 w) 7 X) 8 Y) 9 nh) ∧ ((IM u' ∧ adM u u' s x y z) ∧ mHr u u' s z)) (fun u' H => va_P D.1 j_cl (mW D o q u') H) A) 0 0 A := by
  refine Met.ofW (cc := cX12_add) (maxL := 4) (ret := (some .int)) (by decide) rfl ?_
  intro pr en st mi args below meth co s₁ B hml hv
  obtain ⟨rfl, hG, hP⟩ := hv
  have hr := B.returns
  have hlk := B.notSynchronized
  have SS : jS pr mi co cX12_add 4 st _ RX12 := ⟨B.exec, B.bytes, hml, findClass_of_methodNamed B.named, fun w hw => atoms_spec (ws := (jw yX12_add cX12_add 4 (some .int))) B.pre w (List.mem_cons_of_mem _ hw)⟩
  have hl := lv_entry ([.ref o, .int (J s), .int (J x), .int (J y)]) (n := 4) (Nat.le_of_ble_eq_true rfl)
  rw [lg_entry_eq]
  generalize (lg_sl ([.ref o, .int (J s), .int (J x), .int (J y)]) ++ List.replicate (4 - (lg_sl ([.ref o, .int (J s), .int (J x), .int (J y)])).length) Slot.unset).toArray = ls at hl ⊢
  have hl : lv_has ls 4 [(0, .ref o), (1, .int (J s)), (2, .int (J x)), (3, .int (J y))] := hl
  have hS : va_S A st.heap st.heap [] := va_S.rf
  refine lv_iload_n SS.1 SS.2.1 dX12_add_0 rfl (lv_at hl 1 rfl) ?_
  refine j_sRi SS (As := [.int (J s)]) (rest := []) (c_X12_isShape l D s (show -2147483648 ≤ s ∧ s ≤ 2147483647 from (by omega))) mf_X12_isShape kw_1156 hG trivial rfl hl.1 ⟨⟨Nat.le_of_ble_eq_true rfl, Nat.le_of_ble_eq_true rfl⟩, Nat.le_of_ble_eq_true rfl, Nat.le_refl _, Nat.le_refl _⟩ rfl dX12_add_1 (fun z_1 h_1 => ?_)
  have h_1 : (z_1 = 1 ∧ (0 ≤ s ∧ s ≤ 7)) ∨ (z_1 = 0 ∧ ¬ (0 ≤ s ∧ s ≤ 7)) := h_1
  refine j_if_eq SS (tgt := 15) (x := z_1) dX12_add_4 (by decide) (by omega) (fun c_4 => ?_) (fun c_4 => ?_)
  · skip
    refine j_iconst SS dX12_add_15 ?_
    exact W.iret SS.1 SS.2.1 hr (fun t ht hW => ⟨⟨_, (uV (uI (uI (uV (uI (uI (uI (uI (uI (uI u 0 (u.1 0)) 1 (u.1 1)) 2 (u.1 2)) 3 (u.1 3)) 4 (u.1 4)) 5 (u.1 5)) 6 (u.2.2 6)) 7 (u.1 7)) 8 (u.1 8)) 9 (u.2.2 9)), rfl, ⟨(-1), rfl, (⟨(u.1 0), (u.1 1), (u.1 2), (u.1 3), (u.1 4), (u.1 5), (u.2.2 6), (u.1 7), (u.1 8), (u.2.2 9), rfl, ⟨⟨p0, Or.inl ⟨by omega, rfl, rfl, rfl, rfl⟩⟩, mHr_n rfl (by decide)⟩⟩)⟩, by show va_P D.1 j_cl (mW D o q (uV (uI (uI (uV (uI (uI (uI (uI (uI (uI u 0 (u.1 0)) 1 (u.1 1)) 2 (u.1 2)) 3 (u.1 3)) 4 (u.1 4)) 5 (u.1 5)) 6 (u.2.2 6)) 7 (u.1 7)) 8 (u.1 8)) 9 (u.2.2 9))) t.heap; rw [ht]; exact hP⟩, hS.F ht⟩) hS.2.2 dX12_add_16 hlk
  · skip
    refine lv_iload_n SS.1 SS.2.1 dX12_add_7 rfl (lv_at hl 2 rfl) ?_
    refine lv_iload_n SS.1 SS.2.1 dX12_add_8 rfl (lv_at hl 3 rfl) ?_
    refine j_sRi SS (As := [.int (J x), .int (J y)]) (rest := []) (c_X12_isPlace l D x y (show -2147483648 ≤ x ∧ x ≤ 2147483647 from (by omega)) (show -2147483648 ≤ y ∧ y ≤ 2147483647 from (by omega))) mf_X12_isPlace kw_1166 hG trivial rfl hl.1 ⟨⟨Nat.le_of_ble_eq_true rfl, Nat.le_of_ble_eq_true rfl⟩, Nat.le_of_ble_eq_true rfl, Nat.le_refl _, Nat.le_refl _⟩ rfl dX12_add_9 (fun z_9 h_9 => ?_)
    have h_9 : (z_9 = 1 ∧ (-40 ≤ x ∧ x ≤ 40 ∧ -40 ≤ y ∧ y ≤ 40)) ∨ (z_9 = 0 ∧ ¬ (-40 ≤ x ∧ x ≤ 40 ∧ -40 ≤ y ∧ y ≤ 40)) := h_9
    refine j_if_ne SS (tgt := 17) (x := z_9) dX12_add_12 (by decide) (by omega) (fun c_12 => ?_) (fun c_12 => ?_)
    · skip
      refine lv_aload_n SS.1 SS.2.1 dX12_add_17 rfl (lv_at hl 0 rfl) ?_
      refine j_iconst SS dX12_add_18 ?_
      refine j_put SS hG hP (mW_D hD) hS 0 (v := .int (J 0)) (ty := .int) (C := RX12) (T := TX12) (N := 31) rfl rfl inX12 tyX12 tyX12_ok nmX12 6 (by decide) (ref := RX12) kw_1064 rfl rfl (by decide +kernel) rfl rfl (Nat.le_of_ble_eq_true rfl) dX12_add_19 (ws' := (mW D o q (uV u 6 0))) rfl (fun H locs hP hS => ?_)
      refine lv_aload_n SS.1 SS.2.1 dX12_add_22 rfl (lv_at hl 0 rfl) ?_
      refine lv_iload_n SS.1 SS.2.1 dX12_add_23 rfl (lv_at hl 1 rfl) ?_
      refine j_vWv SS (As := [.int (J s)]) (rest := []) (c_X12_putShape2 l D o q (uV u 6 0) A (mW_D hD) s (show 0 ≤ s ∧ s ≤ 7 from (by omega)) (show Sh u s from (p0.1 _ (by omega) (by omega))) (show 0 ≤ 0 ∧ 0 ≤ 600 from (by omega))) mf_X12_putShape kw_1173 hG hP hP (ci := 8) (q0 := 0) rfl rfl rfl hS (fun _ h => h) rfl hl.1 ⟨⟨Nat.le_of_ble_eq_true rfl, Nat.le_of_ble_eq_true rfl⟩, Nat.le_of_ble_eq_true rfl, Nat.le_refl _, Nat.le_refl _⟩ rfl dX12_add_24 (fun u24 H locs h_24 hP _ hS => ?_)
      obtain ⟨f_24, g_24, w_24, rfl, h_24⟩ := h_24
      have hP : va_P D.1 j_cl (mW D o q (uV (uI (uI u 4 f_24) 5 g_24) 6 w_24)) H := hP
      have h_24 : w_24 = 0 + mN u s ∧ (bd 40 ((u.1 4)) ((u.1 5)) (0) → bd 40 f_24 g_24 w_24) ∧ ∀ x y : Int, SWW f_24 g_24 w_24 x y ↔ SWW ((u.1 4)) ((u.1 5)) (0) x y ∨ SPi (uV u 6 0) s (mN u s) x y := h_24
      have hb := h_24.2.1 (fun a ha => by omega)
      have hN := (p0.1 s (by omega) (by omega)).1
      refine lv_aload_n SS.1 SS.2.1 dX12_add_27 rfl (lv_at hl 0 rfl) ?_
      refine lv_iload_n SS.1 SS.2.1 dX12_add_28 rfl (lv_at hl 2 rfl) ?_
      refine lv_iload_n SS.1 SS.2.1 dX12_add_29 rfl (lv_at hl 3 rfl) ?_
      refine j_vWv SS (As := [.int (J x), .int (J y)]) (rest := []) (c_X12_put l D o q (uV (uI (uI u 4 f_24) 5 g_24) 6 w_24) A (mW_D hD) x y (show 0 ≤ w_24 ∧ w_24 < 640 from (by omega))) mf_X12_put kw_1185 hG hP hP (ci := 8) (q0 := 0) rfl rfl rfl hS (fun _ h => h) rfl hl.1 ⟨⟨Nat.le_of_ble_eq_true rfl, Nat.le_of_ble_eq_true rfl⟩, Nat.le_of_ble_eq_true rfl, Nat.le_refl _, Nat.le_refl _⟩ rfl dX12_add_30 (fun u30 H locs h_30 hP _ hS => ?_)
      obtain ⟨f_30, g_30, w_30, rfl, h_30⟩ := h_30
      have hP : va_P D.1 j_cl (mW D o q (uV (uI (uI u 4 f_30) 5 g_30) 6 w_30)) H := hP
      have h_30 : f_30 = upI (f_24) (w_24).toNat x ∧ g_30 = upI (g_24) (w_24).toNat y ∧ w_30 = w_24 + 1 := h_30
      have hb3 : bd 40 f_30 g_30 w_30 := by obtain ⟨k1, k2, k3⟩ := h_30; rw [k1, k2, k3]; exact bd_put (by omega) hb (by omega) (by omega)
      have hw3 : w_30 = mN u s + 1 := by have := h_30.2.2; omega
      have hS3 : ∀ a b : Int, SWW f_30 g_30 w_30 a b ↔ SP u s a b ∨ (a = x ∧ b = y) := fun a b => by obtain ⟨k1, k2, k3⟩ := h_30; rw [k1, k2, k3, SWW_put (by omega), h_24.2.2]; exact ⟨fun q => by rcases q with (q | q) | q; exact absurd q (SWW_0 (by omega)); exact Or.inl q; exact Or.inr q, fun q => by rcases q with q | q; exact Or.inl (Or.inr q); exact Or.inr q⟩
      refine lv_aload_n SS.1 SS.2.1 dX12_add_33 rfl (lv_at hl 0 rfl) ?_
      refine j_vWv SS (As := []) (rest := []) (c_X12_findHull2 l D o q (uV (uI (uI u 4 f_30) 5 g_30) 6 w_30) A (mW_D hD)  (show 0 ≤ w_30 ∧ w_30 ≤ 640 from (by omega)) (show bd 10000 (f_30) (g_30) (w_30) from (bd_K hb3 (by omega)))) mf_X12_findHull kw_1189 hG hP hP (ci := 8) (q0 := 0) rfl rfl rfl hS (fun _ h => h) rfl hl.1 ⟨⟨Nat.le_of_ble_eq_true rfl, Nat.le_of_ble_eq_true rfl⟩, Nat.le_of_ble_eq_true rfl, Nat.le_refl _, Nat.le_refl _⟩ rfl dX12_add_34 (fun u34 H locs h_34 hP _ hS => ?_)
      obtain ⟨f_34, g_34, w_34, X_34, Y_34, nh_34, rfl, h_34⟩ := h_34
      have hP : va_P D.1 j_cl (mW D o q (uV (uI (uI (uV (uI (uI u 4 f_34) 5 g_34) 6 w_34) 7 X_34) 8 Y_34) 9 nh_34)) H := hP
      have h_34 : 0 ≤ nh_34 ∧ nh_34 ≤ 1290 ∧ Ch nh_34 X_34 Y_34 ∧ (0 < w_30 → 0 < nh_34) ∧ bd 10000 X_34 Y_34 nh_34 ∧ (∀ K : Int, bd K (f_30) (g_30) (w_30) → bd K X_34 Y_34 nh_34) ∧ HS (SWW (f_30) (g_30) (w_30)) nh_34 X_34 Y_34 := h_34
      obtain ⟨a1, a2, a3, a4, a5, a6, a7⟩ := h_34
      have hb4 := a6 40 hb3
      refine lv_aload_n SS.1 SS.2.1 dX12_add_37 rfl (lv_at hl 0 rfl) ?_
      refine lv_iload_n SS.1 SS.2.1 dX12_add_38 rfl (lv_at hl 1 rfl) ?_
      refine j_iconst SS dX12_add_39 ?_
      refine j_vWi SS (As := [.int (J s), .int (J 0)]) (rest := []) (c_X12_take l D o q (uV (uI (uI (uV (uI (uI u 4 f_34) 5 g_34) 6 w_34) 7 X_34) 8 Y_34) 9 nh_34) A (mW_D hD) s 0 (show 0 ≤ s ∧ s ≤ 7 from (by omega)) (show (0 : Int) = 0 ∨ (0 : Int) = 1 from (by omega)) (show 0 ≤ nh_34 ∧ nh_34 ≤ 1290 from (by omega)) (show bd 10000 (X_34) (Y_34) (nh_34) from (a5))) mf_X12_take kw_1162 hG hP hP (ci := 8) (q0 := 0) rfl rfl rfl hS (fun _ h => h) rfl hl.1 ⟨⟨Nat.le_of_ble_eq_true rfl, Nat.le_of_ble_eq_true rfl⟩, Nat.le_of_ble_eq_true rfl, Nat.le_refl _, Nat.le_refl _⟩ rfl dX12_add_40 (fun z_40 u40 H locs h_40 hP _ hS => ?_)
      obtain ⟨f0_40, f1_40, f2_40, f3_40, rfl, h_40⟩ := h_40
      have hP : va_P D.1 j_cl (mW D o q (uV (uI (uI (uV (uI (uI (uI (uI (uI (uI u 0 f0_40) 1 f1_40) 2 f2_40) 3 f3_40) 4 f_34) 5 g_34) 6 w_34) 7 X_34) 8 Y_34) 9 nh_34)) H := hP
      have h_40 : (z_40 = -3 ∧ ¬ tk_ok (0 : Int) 40 (X_34) (Y_34) (nh_34) (nh_34) ∧ f0_40 = (u.1 0) ∧ f1_40 = (u.1 1) ∧ f2_40 = (u.1 2) ∧ f3_40 = (u.1 3)) ∨ (z_40 = nh_34 ∧ tk_ok (0 : Int) 40 (X_34) (Y_34) (nh_34) (nh_34) ∧ tk_new (uV (uI (uI (uV (uI (uI u 4 f_34) 5 g_34) 6 w_34) 7 X_34) 8 Y_34) 9 nh_34) f0_40 f1_40 f2_40 f3_40 s) := h_40
      exact W.iret SS.1 SS.2.1 hr (fun t ht hW => ⟨⟨_, (uV (uI (uI (uV (uI (uI (uI (uI (uI (uI u 0 f0_40) 1 f1_40) 2 f2_40) 3 f3_40) 4 f_34) 5 g_34) 6 w_34) 7 X_34) 8 Y_34) 9 nh_34), rfl, ⟨z_40, rfl, (⟨f0_40, f1_40, f2_40, f3_40, f_34, g_34, w_34, X_34, Y_34, nh_34, rfl, ⟨⟨(show IM (uI (uI (uI (uI (uV (uI (uI (uV (uI (uI u 4 f_34) 5 g_34) 6 w_34) 7 X_34) 8 Y_34) 9 nh_34) 0 f0_40) 1 f1_40) 2 f2_40) 3 f3_40) from IM_tk (u := (uV (uI (uI (uV (uI (uI u 4 f_34) 5 g_34) 6 w_34) 7 X_34) 8 Y_34) 9 nh_34)) p0 ⟨by omega, by omega⟩ (Or.inl rfl) a1 (fun _ => hb4) a3 h_40), Or.inr ⟨by omega, by omega, mkM_tk (v0 := u) (v := (uV (uI (uI (uV (uI (uI u 4 f_34) 5 g_34) 6 w_34) 7 X_34) 8 Y_34) 9 nh_34)) p0.1 rfl rfl rfl ⟨by omega, by omega⟩ a1 (Or.inl rfl) (fun _ => hb4) a7 hS3 h_40⟩⟩, mHr_k (nh := nh_34) rfl (by omega) h_40⟩⟩)⟩, by show va_P D.1 j_cl (mW D o q (uV (uI (uI (uV (uI (uI (uI (uI (uI (uI u 0 f0_40) 1 f1_40) 2 f2_40) 3 f3_40) 4 f_34) 5 g_34) 6 w_34) 7 X_34) 8 Y_34) 9 nh_34)) t.heap; rw [ht]; exact hP⟩, hS.F ht⟩) hS.2.2 dX12_add_43 hlk
    · skip
      refine j_iconst SS dX12_add_15 ?_
      exact W.iret SS.1 SS.2.1 hr (fun t ht hW => ⟨⟨_, (uV (uI (uI (uV (uI (uI (uI (uI (uI (uI u 0 (u.1 0)) 1 (u.1 1)) 2 (u.1 2)) 3 (u.1 3)) 4 (u.1 4)) 5 (u.1 5)) 6 (u.2.2 6)) 7 (u.1 7)) 8 (u.1 8)) 9 (u.2.2 9)), rfl, ⟨(-1), rfl, (⟨(u.1 0), (u.1 1), (u.1 2), (u.1 3), (u.1 4), (u.1 5), (u.2.2 6), (u.1 7), (u.1 8), (u.2.2 9), rfl, ⟨⟨p0, Or.inl ⟨by omega, rfl, rfl, rfl, rfl⟩⟩, mHr_n rfl (by decide)⟩⟩)⟩, by show va_P D.1 j_cl (mW D o q (uV (uI (uI (uV (uI (uI (uI (uI (uI (uI u 0 (u.1 0)) 1 (u.1 1)) 2 (u.1 2)) 3 (u.1 3)) 4 (u.1 4)) 5 (u.1 5)) 6 (u.2.2 6)) 7 (u.1 7)) 8 (u.1 8)) 9 (u.2.2 9))) t.heap; rw [ht]; exact hP⟩, hS.F ht⟩) hS.2.2 dX12_add_16 hlk

set_option maxHeartbeats 4000000 in
set_option maxRecDepth 100000 in
theorem c_X12_sumH (l : Launch) (D : JD) (o : Nat) (q : Nat → Nat) (u : MS) (A : Nat → Prop) (hD : va_D A (mW D o q u)) (s : Int) (s2 : Int) (t2 : Int) (p0 : IM u) (p1 : -2147483648 ≤ s ∧ s ≤ 2147483647) (p2 : -2147483648 ≤ s2 ∧ s2 ≤ 2147483647) (p3 : -2147483648 ≤ t2 ∧ t2 ≤ 2147483647) : Met l yX12_sum (jw yX12_sum cX12_sum 4 (some .int)) (jr 4 92) (jP [.ref o, .int (J s), .int (J s2), .int (J t2)] D (fun H => va_P D.1 j_cl (mW D o q u) H)) (jWi (fun z u' => ∃ f0 : Nat → Int, ∃ f1 : Nat → Int, ∃ f2 : Nat → Int, ∃ f3 : Nat → Int, ∃ f4 : Nat → Int, ∃ f5 : Nat → Int, ∃ w : Int, ∃ X : Nat → Int, ∃ Y : Nat → Int, ∃ nh : Int, u' = (uV (uI (uI (uV (uI (uI (uI (uI (uI (uI u 0 f0) 1 f1) 2 f2) 3 f3) 4 f4) 5 f5) 6 w) 7 X) 8 Y) 9 nh) ∧ ((IM u' ∧ smM u u' s s2 t2 z) ∧ mHr u u' t2 z)) (fun u' H => va_P D.1 j_cl (mW D o q u') H) A) 0 0 A := by
  refine Met.ofW (cc := cX12_sum) (maxL := 4) (ret := (some .int)) (by decide) rfl ?_
  intro pr en st mi args below meth co s₁ B hml hv
  obtain ⟨rfl, hG, hP⟩ := hv
  have hr := B.returns
  have hlk := B.notSynchronized
  have SS : jS pr mi co cX12_sum 4 st _ RX12 := ⟨B.exec, B.bytes, hml, findClass_of_methodNamed B.named, fun w hw => atoms_spec (ws := (jw yX12_sum cX12_sum 4 (some .int))) B.pre w (List.mem_cons_of_mem _ hw)⟩
  have hl := lv_entry ([.ref o, .int (J s), .int (J s2), .int (J t2)]) (n := 4) (Nat.le_of_ble_eq_true rfl)
  rw [lg_entry_eq]
  generalize (lg_sl ([.ref o, .int (J s), .int (J s2), .int (J t2)]) ++ List.replicate (4 - (lg_sl ([.ref o, .int (J s), .int (J s2), .int (J t2)])).length) Slot.unset).toArray = ls at hl ⊢
  have hl : lv_has ls 4 [(0, .ref o), (1, .int (J s)), (2, .int (J s2)), (3, .int (J t2))] := hl
  have hS : va_S A st.heap st.heap [] := va_S.rf
  refine lv_iload_n SS.1 SS.2.1 dX12_sum_0 rfl (lv_at hl 1 rfl) ?_
  refine j_sRi SS (As := [.int (J s)]) (rest := []) (c_X12_isShape l D s (show -2147483648 ≤ s ∧ s ≤ 2147483647 from (by omega))) mf_X12_isShape kw_1156 hG trivial rfl hl.1 ⟨⟨Nat.le_of_ble_eq_true rfl, Nat.le_of_ble_eq_true rfl⟩, Nat.le_of_ble_eq_true rfl, Nat.le_refl _, Nat.le_refl _⟩ rfl dX12_sum_1 (fun z_1 h_1 => ?_)
  have h_1 : (z_1 = 1 ∧ (0 ≤ s ∧ s ≤ 7)) ∨ (z_1 = 0 ∧ ¬ (0 ≤ s ∧ s ≤ 7)) := h_1
  refine j_if_eq SS (tgt := 21) (x := z_1) dX12_sum_4 (by decide) (by omega) (fun c_4 => ?_) (fun c_4 => ?_)
  · skip
    refine j_iconst SS dX12_sum_21 ?_
    exact W.iret SS.1 SS.2.1 hr (fun t ht hW => ⟨⟨_, (uV (uI (uI (uV (uI (uI (uI (uI (uI (uI u 0 (u.1 0)) 1 (u.1 1)) 2 (u.1 2)) 3 (u.1 3)) 4 (u.1 4)) 5 (u.1 5)) 6 (u.2.2 6)) 7 (u.1 7)) 8 (u.1 8)) 9 (u.2.2 9)), rfl, ⟨(-1), rfl, (⟨(u.1 0), (u.1 1), (u.1 2), (u.1 3), (u.1 4), (u.1 5), (u.2.2 6), (u.1 7), (u.1 8), (u.2.2 9), rfl, ⟨⟨p0, Or.inl ⟨by omega, rfl, rfl, rfl, rfl⟩⟩, mHr_n rfl (by decide)⟩⟩)⟩, by show va_P D.1 j_cl (mW D o q (uV (uI (uI (uV (uI (uI (uI (uI (uI (uI u 0 (u.1 0)) 1 (u.1 1)) 2 (u.1 2)) 3 (u.1 3)) 4 (u.1 4)) 5 (u.1 5)) 6 (u.2.2 6)) 7 (u.1 7)) 8 (u.1 8)) 9 (u.2.2 9))) t.heap; rw [ht]; exact hP⟩, hS.F ht⟩) hS.2.2 dX12_sum_22 hlk
  · skip
    refine lv_iload_n SS.1 SS.2.1 dX12_sum_7 rfl (lv_at hl 2 rfl) ?_
    refine j_sRi SS (As := [.int (J s2)]) (rest := []) (c_X12_isShape l D s2 (show -2147483648 ≤ s2 ∧ s2 ≤ 2147483647 from (by omega))) mf_X12_isShape kw_1156 hG trivial rfl hl.1 ⟨⟨Nat.le_of_ble_eq_true rfl, Nat.le_of_ble_eq_true rfl⟩, Nat.le_of_ble_eq_true rfl, Nat.le_refl _, Nat.le_refl _⟩ rfl dX12_sum_8 (fun z_8 h_8 => ?_)
    have h_8 : (z_8 = 1 ∧ (0 ≤ s2 ∧ s2 ≤ 7)) ∨ (z_8 = 0 ∧ ¬ (0 ≤ s2 ∧ s2 ≤ 7)) := h_8
    refine j_if_eq SS (tgt := 21) (x := z_8) dX12_sum_11 (by decide) (by omega) (fun c_11 => ?_) (fun c_11 => ?_)
    · skip
      refine j_iconst SS dX12_sum_21 ?_
      exact W.iret SS.1 SS.2.1 hr (fun t ht hW => ⟨⟨_, (uV (uI (uI (uV (uI (uI (uI (uI (uI (uI u 0 (u.1 0)) 1 (u.1 1)) 2 (u.1 2)) 3 (u.1 3)) 4 (u.1 4)) 5 (u.1 5)) 6 (u.2.2 6)) 7 (u.1 7)) 8 (u.1 8)) 9 (u.2.2 9)), rfl, ⟨(-1), rfl, (⟨(u.1 0), (u.1 1), (u.1 2), (u.1 3), (u.1 4), (u.1 5), (u.2.2 6), (u.1 7), (u.1 8), (u.2.2 9), rfl, ⟨⟨p0, Or.inl ⟨by omega, rfl, rfl, rfl, rfl⟩⟩, mHr_n rfl (by decide)⟩⟩)⟩, by show va_P D.1 j_cl (mW D o q (uV (uI (uI (uV (uI (uI (uI (uI (uI (uI u 0 (u.1 0)) 1 (u.1 1)) 2 (u.1 2)) 3 (u.1 3)) 4 (u.1 4)) 5 (u.1 5)) 6 (u.2.2 6)) 7 (u.1 7)) 8 (u.1 8)) 9 (u.2.2 9))) t.heap; rw [ht]; exact hP⟩, hS.F ht⟩) hS.2.2 dX12_sum_22 hlk
    · skip
      refine lv_iload_n SS.1 SS.2.1 dX12_sum_14 rfl (lv_at hl 3 rfl) ?_
      refine j_sRi SS (As := [.int (J t2)]) (rest := []) (c_X12_isShape l D t2 (show -2147483648 ≤ t2 ∧ t2 ≤ 2147483647 from (by omega))) mf_X12_isShape kw_1156 hG trivial rfl hl.1 ⟨⟨Nat.le_of_ble_eq_true rfl, Nat.le_of_ble_eq_true rfl⟩, Nat.le_of_ble_eq_true rfl, Nat.le_refl _, Nat.le_refl _⟩ rfl dX12_sum_15 (fun z_15 h_15 => ?_)
      have h_15 : (z_15 = 1 ∧ (0 ≤ t2 ∧ t2 ≤ 7)) ∨ (z_15 = 0 ∧ ¬ (0 ≤ t2 ∧ t2 ≤ 7)) := h_15
      refine j_if_ne SS (tgt := 23) (x := z_15) dX12_sum_18 (by decide) (by omega) (fun c_18 => ?_) (fun c_18 => ?_)
      · skip
        refine lv_aload_n SS.1 SS.2.1 dX12_sum_23 rfl (lv_at hl 0 rfl) ?_
        refine lv_iload_n SS.1 SS.2.1 dX12_sum_24 rfl (lv_at hl 1 rfl) ?_
        refine lv_iload_n SS.1 SS.2.1 dX12_sum_25 rfl (lv_at hl 2 rfl) ?_
        refine j_vWv SS (As := [.int (J s), .int (J s2)]) (rest := []) (c_X12_findSum2 l D o q u A (mW_D hD) s s2 (show 0 ≤ s ∧ s ≤ 7 from (by omega)) (show Sh u s from (p0.1 _ (by omega) (by omega))) (show 0 ≤ s2 ∧ s2 ≤ 7 from (by omega)) (show Sh u s2 from (p0.1 _ (by omega) (by omega)))) mf_X12_findSum kw_1317 hG hP hP (ci := 8) (q0 := 0) rfl rfl rfl hS (fun _ h => h) rfl hl.1 ⟨⟨Nat.le_of_ble_eq_true rfl, Nat.le_of_ble_eq_true rfl⟩, Nat.le_of_ble_eq_true rfl, Nat.le_refl _, Nat.le_refl _⟩ rfl dX12_sum_26 (fun u26 H locs h_26 hP _ hS => ?_)
        obtain ⟨f_26, g_26, w_26, X_26, Y_26, nh_26, rfl, h_26⟩ := h_26
        have hP : va_P D.1 j_cl (mW D o q (uV (uI (uI (uV (uI (uI u 4 f_26) 5 g_26) 6 w_26) 7 X_26) 8 Y_26) 9 nh_26)) H := hP
        have h_26 : 0 ≤ nh_26 ∧ nh_26 ≤ 1290 ∧ Ch nh_26 X_26 Y_26 ∧ bd 10000 X_26 Y_26 nh_26 ∧ bd 80 X_26 Y_26 nh_26 ∧ HS (SM (SP u s) (SP u s2)) nh_26 X_26 Y_26 := h_26
        obtain ⟨a1, a2, a3, a4, a5, a7⟩ := h_26
        refine lv_aload_n SS.1 SS.2.1 dX12_sum_29 rfl (lv_at hl 0 rfl) ?_
        refine lv_iload_n SS.1 SS.2.1 dX12_sum_30 rfl (lv_at hl 3 rfl) ?_
        refine j_iconst SS dX12_sum_31 ?_
        refine j_vWi SS (As := [.int (J t2), .int (J 1)]) (rest := []) (c_X12_take l D o q (uV (uI (uI (uV (uI (uI u 4 f_26) 5 g_26) 6 w_26) 7 X_26) 8 Y_26) 9 nh_26) A (mW_D hD) t2 1 (show 0 ≤ t2 ∧ t2 ≤ 7 from (by omega)) (show (1 : Int) = 0 ∨ (1 : Int) = 1 from (by omega)) (show 0 ≤ nh_26 ∧ nh_26 ≤ 1290 from (by omega)) (show bd 10000 (X_26) (Y_26) (nh_26) from (a4))) mf_X12_take kw_1162 hG hP hP (ci := 8) (q0 := 0) rfl rfl rfl hS (fun _ h => h) rfl hl.1 ⟨⟨Nat.le_of_ble_eq_true rfl, Nat.le_of_ble_eq_true rfl⟩, Nat.le_of_ble_eq_true rfl, Nat.le_refl _, Nat.le_refl _⟩ rfl dX12_sum_32 (fun z_32 u32 H locs h_32 hP _ hS => ?_)
        obtain ⟨f0_32, f1_32, f2_32, f3_32, rfl, h_32⟩ := h_32
        have hP : va_P D.1 j_cl (mW D o q (uV (uI (uI (uV (uI (uI (uI (uI (uI (uI u 0 f0_32) 1 f1_32) 2 f2_32) 3 f3_32) 4 f_26) 5 g_26) 6 w_26) 7 X_26) 8 Y_26) 9 nh_26)) H := hP
        have h_32 : (z_32 = -3 ∧ ¬ tk_ok (1 : Int) 40 (X_26) (Y_26) (nh_26) (nh_26) ∧ f0_32 = (u.1 0) ∧ f1_32 = (u.1 1) ∧ f2_32 = (u.1 2) ∧ f3_32 = (u.1 3)) ∨ (z_32 = nh_26 ∧ tk_ok (1 : Int) 40 (X_26) (Y_26) (nh_26) (nh_26) ∧ tk_new (uV (uI (uI (uV (uI (uI u 4 f_26) 5 g_26) 6 w_26) 7 X_26) 8 Y_26) 9 nh_26) f0_32 f1_32 f2_32 f3_32 t2) := h_32
        exact W.iret SS.1 SS.2.1 hr (fun t ht hW => ⟨⟨_, (uV (uI (uI (uV (uI (uI (uI (uI (uI (uI u 0 f0_32) 1 f1_32) 2 f2_32) 3 f3_32) 4 f_26) 5 g_26) 6 w_26) 7 X_26) 8 Y_26) 9 nh_26), rfl, ⟨z_32, rfl, (⟨f0_32, f1_32, f2_32, f3_32, f_26, g_26, w_26, X_26, Y_26, nh_26, rfl, ⟨⟨(show IM (uI (uI (uI (uI (uV (uI (uI (uV (uI (uI u 4 f_26) 5 g_26) 6 w_26) 7 X_26) 8 Y_26) 9 nh_26) 0 f0_32) 1 f1_32) 2 f2_32) 3 f3_32) from IM_tk (u := (uV (uI (uI (uV (uI (uI u 4 f_26) 5 g_26) 6 w_26) 7 X_26) 8 Y_26) 9 nh_26)) p0 ⟨by omega, by omega⟩ (Or.inr rfl) a1 (fun q => by omega) a3 h_32), Or.inr ⟨by omega, by omega, by omega, mkM_tk (v0 := u) (v := (uV (uI (uI (uV (uI (uI u 4 f_26) 5 g_26) 6 w_26) 7 X_26) 8 Y_26) 9 nh_26)) p0.1 rfl rfl rfl ⟨by omega, by omega⟩ a1 (Or.inr rfl) (fun q => by omega) a7 (fun _ _ => Iff.rfl) h_32⟩⟩, mHr_k (nh := nh_26) rfl (by omega) h_32⟩⟩)⟩, by show va_P D.1 j_cl (mW D o q (uV (uI (uI (uV (uI (uI (uI (uI (uI (uI u 0 f0_32) 1 f1_32) 2 f2_32) 3 f3_32) 4 f_26) 5 g_26) 6 w_26) 7 X_26) 8 Y_26) 9 nh_26)) t.heap; rw [ht]; exact hP⟩, hS.F ht⟩) hS.2.2 dX12_sum_35 hlk
      · skip
        refine j_iconst SS dX12_sum_21 ?_
        exact W.iret SS.1 SS.2.1 hr (fun t ht hW => ⟨⟨_, (uV (uI (uI (uV (uI (uI (uI (uI (uI (uI u 0 (u.1 0)) 1 (u.1 1)) 2 (u.1 2)) 3 (u.1 3)) 4 (u.1 4)) 5 (u.1 5)) 6 (u.2.2 6)) 7 (u.1 7)) 8 (u.1 8)) 9 (u.2.2 9)), rfl, ⟨(-1), rfl, (⟨(u.1 0), (u.1 1), (u.1 2), (u.1 3), (u.1 4), (u.1 5), (u.2.2 6), (u.1 7), (u.1 8), (u.2.2 9), rfl, ⟨⟨p0, Or.inl ⟨by omega, rfl, rfl, rfl, rfl⟩⟩, mHr_n rfl (by decide)⟩⟩)⟩, by show va_P D.1 j_cl (mW D o q (uV (uI (uI (uV (uI (uI (uI (uI (uI (uI u 0 (u.1 0)) 1 (u.1 1)) 2 (u.1 2)) 3 (u.1 3)) 4 (u.1 4)) 5 (u.1 5)) 6 (u.2.2 6)) 7 (u.1 7)) 8 (u.1 8)) 9 (u.2.2 9))) t.heap; rw [ht]; exact hP⟩, hS.F ht⟩) hS.2.2 dX12_sum_22 hlk

set_option maxHeartbeats 4000000 in
set_option maxRecDepth 100000 in
theorem c_X12_mapH (l : Launch) (D : JD) (o : Nat) (q : Nat → Nat) (u : MS) (A : Nat → Prop) (hD : va_D A (mW D o q u)) (s : Int) (t2 : Int) (a : Int) (b : Int) (c : Int) (d : Int) (e : Int) (f : Int) (p0 : IM u) (p1 : -2147483648 ≤ s ∧ s ≤ 2147483647) (p2 : -2147483648 ≤ t2 ∧ t2 ≤ 2147483647) (p3 : -2147483648 ≤ a ∧ a ≤ 2147483647) (p4 : -2147483648 ≤ b ∧ b ≤ 2147483647) (p5 : -2147483648 ≤ c ∧ c ≤ 2147483647) (p6 : -2147483648 ≤ d ∧ d ≤ 2147483647) (p7 : -2147483648 ≤ e ∧ e ≤ 2147483647) (p8 : -2147483648 ≤ f ∧ f ≤ 2147483647) : Met l yX12_map (jw yX12_map cX12_map 10 (some .int)) (jr 3 68) (jP [.ref o, .int (J s), .int (J t2), .int (J a), .int (J b), .int (J c), .int (J d), .int (J e), .int (J f)] D (fun H => va_P D.1 j_cl (mW D o q u) H)) (jWi (fun z u' => ∃ f0 : Nat → Int, ∃ f1 : Nat → Int, ∃ f2 : Nat → Int, ∃ f3 : Nat → Int, ∃ f4 : Nat → Int, ∃ f5 : Nat → Int, ∃ w : Int, ∃ X : Nat → Int, ∃ Y : Nat → Int, ∃ nh : Int, u' = (uV (uI (uI (uV (uI (uI (uI (uI (uI (uI u 0 f0) 1 f1) 2 f2) 3 f3) 4 f4) 5 f5) 6 w) 7 X) 8 Y) 9 nh) ∧ ((IM u' ∧ mpM u u' s t2 a b c d e f z) ∧ mHr u u' t2 z)) (fun u' H => va_P D.1 j_cl (mW D o q u') H) A) 0 0 A := by
  refine Met.ofW (cc := cX12_map) (maxL := 10) (ret := (some .int)) (by decide) rfl ?_
  intro pr en st mi args below meth co s₁ B hml hv
  obtain ⟨rfl, hG, hP⟩ := hv
  have hr := B.returns
  have hlk := B.notSynchronized
  have SS : jS pr mi co cX12_map 10 st _ RX12 := ⟨B.exec, B.bytes, hml, findClass_of_methodNamed B.named, fun w hw => atoms_spec (ws := (jw yX12_map cX12_map 10 (some .int))) B.pre w (List.mem_cons_of_mem _ hw)⟩
  have hl := lv_entry ([.ref o, .int (J s), .int (J t2), .int (J a), .int (J b), .int (J c), .int (J d), .int (J e), .int (J f)]) (n := 10) (Nat.le_of_ble_eq_true rfl)
  rw [lg_entry_eq]
  generalize (lg_sl ([.ref o, .int (J s), .int (J t2), .int (J a), .int (J b), .int (J c), .int (J d), .int (J e), .int (J f)]) ++ List.replicate (10 - (lg_sl ([.ref o, .int (J s), .int (J t2), .int (J a), .int (J b), .int (J c), .int (J d), .int (J e), .int (J f)])).length) Slot.unset).toArray = ls at hl ⊢
  have hl : lv_has ls 10 [(0, .ref o), (1, .int (J s)), (2, .int (J t2)), (3, .int (J a)), (4, .int (J b)), (5, .int (J c)), (6, .int (J d)), (7, .int (J e)), (8, .int (J f))] := hl
  have hS : va_S A st.heap st.heap [] := va_S.rf
  refine lv_iload_n SS.1 SS.2.1 dX12_map_0 rfl (lv_at hl 1 rfl) ?_
  refine j_sRi SS (As := [.int (J s)]) (rest := []) (c_X12_isShape l D s (show -2147483648 ≤ s ∧ s ≤ 2147483647 from (by omega))) mf_X12_isShape kw_1156 hG trivial rfl hl.1 ⟨⟨Nat.le_of_ble_eq_true rfl, Nat.le_of_ble_eq_true rfl⟩, Nat.le_of_ble_eq_true rfl, Nat.le_refl _, Nat.le_refl _⟩ rfl dX12_map_1 (fun z_1 h_1 => ?_)
  have h_1 : (z_1 = 1 ∧ (0 ≤ s ∧ s ≤ 7)) ∨ (z_1 = 0 ∧ ¬ (0 ≤ s ∧ s ≤ 7)) := h_1
  refine j_if_eq SS (tgt := 43) (x := z_1) dX12_map_4 (by decide) (by omega) (fun c_4 => ?_) (fun c_4 => ?_)
  · skip
    refine j_iconst SS dX12_map_43 ?_
    exact W.iret SS.1 SS.2.1 hr (fun t ht hW => ⟨⟨_, (uV (uI (uI (uV (uI (uI (uI (uI (uI (uI u 0 (u.1 0)) 1 (u.1 1)) 2 (u.1 2)) 3 (u.1 3)) 4 (u.1 4)) 5 (u.1 5)) 6 (u.2.2 6)) 7 (u.1 7)) 8 (u.1 8)) 9 (u.2.2 9)), rfl, ⟨(-1), rfl, (⟨(u.1 0), (u.1 1), (u.1 2), (u.1 3), (u.1 4), (u.1 5), (u.2.2 6), (u.1 7), (u.1 8), (u.2.2 9), rfl, ⟨⟨p0, Or.inl ⟨by unfold six; omega, rfl, rfl, rfl, rfl⟩⟩, mHr_n rfl (by decide)⟩⟩)⟩, by show va_P D.1 j_cl (mW D o q (uV (uI (uI (uV (uI (uI (uI (uI (uI (uI u 0 (u.1 0)) 1 (u.1 1)) 2 (u.1 2)) 3 (u.1 3)) 4 (u.1 4)) 5 (u.1 5)) 6 (u.2.2 6)) 7 (u.1 7)) 8 (u.1 8)) 9 (u.2.2 9))) t.heap; rw [ht]; exact hP⟩, hS.F ht⟩) hS.2.2 dX12_map_44 hlk
  · skip
    refine lv_iload_n SS.1 SS.2.1 dX12_map_7 rfl (lv_at hl 2 rfl) ?_
    refine j_sRi SS (As := [.int (J t2)]) (rest := []) (c_X12_isShape l D t2 (show -2147483648 ≤ t2 ∧ t2 ≤ 2147483647 from (by omega))) mf_X12_isShape kw_1156 hG trivial rfl hl.1 ⟨⟨Nat.le_of_ble_eq_true rfl, Nat.le_of_ble_eq_true rfl⟩, Nat.le_of_ble_eq_true rfl, Nat.le_refl _, Nat.le_refl _⟩ rfl dX12_map_8 (fun z_8 h_8 => ?_)
    have h_8 : (z_8 = 1 ∧ (0 ≤ t2 ∧ t2 ≤ 7)) ∨ (z_8 = 0 ∧ ¬ (0 ≤ t2 ∧ t2 ≤ 7)) := h_8
    refine j_if_eq SS (tgt := 43) (x := z_8) dX12_map_11 (by decide) (by omega) (fun c_11 => ?_) (fun c_11 => ?_)
    · skip
      refine j_iconst SS dX12_map_43 ?_
      exact W.iret SS.1 SS.2.1 hr (fun t ht hW => ⟨⟨_, (uV (uI (uI (uV (uI (uI (uI (uI (uI (uI u 0 (u.1 0)) 1 (u.1 1)) 2 (u.1 2)) 3 (u.1 3)) 4 (u.1 4)) 5 (u.1 5)) 6 (u.2.2 6)) 7 (u.1 7)) 8 (u.1 8)) 9 (u.2.2 9)), rfl, ⟨(-1), rfl, (⟨(u.1 0), (u.1 1), (u.1 2), (u.1 3), (u.1 4), (u.1 5), (u.2.2 6), (u.1 7), (u.1 8), (u.2.2 9), rfl, ⟨⟨p0, Or.inl ⟨by unfold six; omega, rfl, rfl, rfl, rfl⟩⟩, mHr_n rfl (by decide)⟩⟩)⟩, by show va_P D.1 j_cl (mW D o q (uV (uI (uI (uV (uI (uI (uI (uI (uI (uI u 0 (u.1 0)) 1 (u.1 1)) 2 (u.1 2)) 3 (u.1 3)) 4 (u.1 4)) 5 (u.1 5)) 6 (u.2.2 6)) 7 (u.1 7)) 8 (u.1 8)) 9 (u.2.2 9))) t.heap; rw [ht]; exact hP⟩, hS.F ht⟩) hS.2.2 dX12_map_44 hlk
    · skip
      refine lv_iload_n SS.1 SS.2.1 dX12_map_14 rfl (lv_at hl 3 rfl) ?_
      refine lv_iload SS.1 SS.2.1 dX12_map_15 (lv_at hl 4 rfl) ?_
      refine j_sRi SS (As := [.int (J a), .int (J b)]) (rest := []) (c_X12_isPlace l D a b (show -2147483648 ≤ a ∧ a ≤ 2147483647 from (by omega)) (show -2147483648 ≤ b ∧ b ≤ 2147483647 from (by omega))) mf_X12_isPlace kw_1166 hG trivial rfl hl.1 ⟨⟨Nat.le_of_ble_eq_true rfl, Nat.le_of_ble_eq_true rfl⟩, Nat.le_of_ble_eq_true rfl, Nat.le_refl _, Nat.le_refl _⟩ rfl dX12_map_17 (fun z_17 h_17 => ?_)
      have h_17 : (z_17 = 1 ∧ (-40 ≤ a ∧ a ≤ 40 ∧ -40 ≤ b ∧ b ≤ 40)) ∨ (z_17 = 0 ∧ ¬ (-40 ≤ a ∧ a ≤ 40 ∧ -40 ≤ b ∧ b ≤ 40)) := h_17
      refine j_if_eq SS (tgt := 43) (x := z_17) dX12_map_20 (by decide) (by omega) (fun c_20 => ?_) (fun c_20 => ?_)
      · skip
        refine j_iconst SS dX12_map_43 ?_
        exact W.iret SS.1 SS.2.1 hr (fun t ht hW => ⟨⟨_, (uV (uI (uI (uV (uI (uI (uI (uI (uI (uI u 0 (u.1 0)) 1 (u.1 1)) 2 (u.1 2)) 3 (u.1 3)) 4 (u.1 4)) 5 (u.1 5)) 6 (u.2.2 6)) 7 (u.1 7)) 8 (u.1 8)) 9 (u.2.2 9)), rfl, ⟨(-1), rfl, (⟨(u.1 0), (u.1 1), (u.1 2), (u.1 3), (u.1 4), (u.1 5), (u.2.2 6), (u.1 7), (u.1 8), (u.2.2 9), rfl, ⟨⟨p0, Or.inl ⟨by unfold six; omega, rfl, rfl, rfl, rfl⟩⟩, mHr_n rfl (by decide)⟩⟩)⟩, by show va_P D.1 j_cl (mW D o q (uV (uI (uI (uV (uI (uI (uI (uI (uI (uI u 0 (u.1 0)) 1 (u.1 1)) 2 (u.1 2)) 3 (u.1 3)) 4 (u.1 4)) 5 (u.1 5)) 6 (u.2.2 6)) 7 (u.1 7)) 8 (u.1 8)) 9 (u.2.2 9))) t.heap; rw [ht]; exact hP⟩, hS.F ht⟩) hS.2.2 dX12_map_44 hlk
      · skip
        refine lv_iload SS.1 SS.2.1 dX12_map_23 (lv_at hl 5 rfl) ?_
        refine lv_iload SS.1 SS.2.1 dX12_map_25 (lv_at hl 6 rfl) ?_
        refine j_sRi SS (As := [.int (J c), .int (J d)]) (rest := []) (c_X12_isPlace l D c d (show -2147483648 ≤ c ∧ c ≤ 2147483647 from (by omega)) (show -2147483648 ≤ d ∧ d ≤ 2147483647 from (by omega))) mf_X12_isPlace kw_1166 hG trivial rfl hl.1 ⟨⟨Nat.le_of_ble_eq_true rfl, Nat.le_of_ble_eq_true rfl⟩, Nat.le_of_ble_eq_true rfl, Nat.le_refl _, Nat.le_refl _⟩ rfl dX12_map_27 (fun z_27 h_27 => ?_)
        have h_27 : (z_27 = 1 ∧ (-40 ≤ c ∧ c ≤ 40 ∧ -40 ≤ d ∧ d ≤ 40)) ∨ (z_27 = 0 ∧ ¬ (-40 ≤ c ∧ c ≤ 40 ∧ -40 ≤ d ∧ d ≤ 40)) := h_27
        refine j_if_eq SS (tgt := 43) (x := z_27) dX12_map_30 (by decide) (by omega) (fun c_30 => ?_) (fun c_30 => ?_)
        · skip
          refine j_iconst SS dX12_map_43 ?_
          exact W.iret SS.1 SS.2.1 hr (fun t ht hW => ⟨⟨_, (uV (uI (uI (uV (uI (uI (uI (uI (uI (uI u 0 (u.1 0)) 1 (u.1 1)) 2 (u.1 2)) 3 (u.1 3)) 4 (u.1 4)) 5 (u.1 5)) 6 (u.2.2 6)) 7 (u.1 7)) 8 (u.1 8)) 9 (u.2.2 9)), rfl, ⟨(-1), rfl, (⟨(u.1 0), (u.1 1), (u.1 2), (u.1 3), (u.1 4), (u.1 5), (u.2.2 6), (u.1 7), (u.1 8), (u.2.2 9), rfl, ⟨⟨p0, Or.inl ⟨by unfold six; omega, rfl, rfl, rfl, rfl⟩⟩, mHr_n rfl (by decide)⟩⟩)⟩, by show va_P D.1 j_cl (mW D o q (uV (uI (uI (uV (uI (uI (uI (uI (uI (uI u 0 (u.1 0)) 1 (u.1 1)) 2 (u.1 2)) 3 (u.1 3)) 4 (u.1 4)) 5 (u.1 5)) 6 (u.2.2 6)) 7 (u.1 7)) 8 (u.1 8)) 9 (u.2.2 9))) t.heap; rw [ht]; exact hP⟩, hS.F ht⟩) hS.2.2 dX12_map_44 hlk
        · skip
          refine lv_iload SS.1 SS.2.1 dX12_map_33 (lv_at hl 7 rfl) ?_
          refine lv_iload SS.1 SS.2.1 dX12_map_35 (lv_at hl 8 rfl) ?_
          refine j_sRi SS (As := [.int (J e), .int (J f)]) (rest := []) (c_X12_isPlace l D e f (show -2147483648 ≤ e ∧ e ≤ 2147483647 from (by omega)) (show -2147483648 ≤ f ∧ f ≤ 2147483647 from (by omega))) mf_X12_isPlace kw_1166 hG trivial rfl hl.1 ⟨⟨Nat.le_of_ble_eq_true rfl, Nat.le_of_ble_eq_true rfl⟩, Nat.le_of_ble_eq_true rfl, Nat.le_refl _, Nat.le_refl _⟩ rfl dX12_map_37 (fun z_37 h_37 => ?_)
          have h_37 : (z_37 = 1 ∧ (-40 ≤ e ∧ e ≤ 40 ∧ -40 ≤ f ∧ f ≤ 40)) ∨ (z_37 = 0 ∧ ¬ (-40 ≤ e ∧ e ≤ 40 ∧ -40 ≤ f ∧ f ≤ 40)) := h_37
          refine j_if_ne SS (tgt := 45) (x := z_37) dX12_map_40 (by decide) (by omega) (fun c_40 => ?_) (fun c_40 => ?_)
          · skip
            refine lv_iload_n SS.1 SS.2.1 dX12_map_45 rfl (lv_at hl 3 rfl) ?_
            refine lv_iload SS.1 SS.2.1 dX12_map_46 (lv_at hl 6 rfl) ?_
            refine j_imul SS (x := a) (y := d) dX12_map_48 ?_
            refine lv_iload SS.1 SS.2.1 dX12_map_49 (lv_at hl 4 rfl) ?_
            refine lv_iload SS.1 SS.2.1 dX12_map_51 (lv_at hl 5 rfl) ?_
            refine j_imul SS (x := b) (y := c) dX12_map_53 ?_
            refine j_isub SS (x := (a * d)) (y := (b * c)) dX12_map_54 ?_
            have m1 := mulb (A := 40) (B := 40) (a := a) (b := d) (by omega) (by omega)
            have m2 := mulb (A := 40) (B := 40) (a := b) (b := c) (by omega) (by omega)
            refine j_sRi SS (As := [.int (J ((a * d) - (b * c)))]) (rest := []) (c_X12_size l D ((a * d) - (b * c)) (show -2147483648 < ((a * d) - (b * c)) ∧ ((a * d) - (b * c)) ≤ 2147483647 from (by omega))) mf_X12_size kw_1233 hG trivial rfl hl.1 ⟨⟨Nat.le_of_ble_eq_true rfl, Nat.le_of_ble_eq_true rfl⟩, Nat.le_of_ble_eq_true rfl, Nat.le_refl _, Nat.le_refl _⟩ rfl dX12_map_55 (fun z_55 h_55 => ?_)
            have h_55 : (0 ≤ ((a * d) - (b * c)) → z_55 = ((a * d) - (b * c))) ∧ (((a * d) - (b * c)) < 0 → z_55 = -((a * d) - (b * c))) := h_55
            refine j_iconst SS dX12_map_58 ?_
            refine j_icmp_eq SS (tgt := 65) (x := z_55) (y := 1) dX12_map_59 (by decide) (by omega) (by decide) (fun c_59 => ?_) (fun c_59 => ?_)
            · skip
              have hSh := p0.1 s (by omega) (by omega)
              have hN := hSh.1
              refine lv_aload_n SS.1 SS.2.1 dX12_map_65 rfl (lv_at hl 0 rfl) ?_
              refine j_iconst SS dX12_map_66 ?_
              refine j_put SS hG hP (mW_D hD) hS 0 (v := .int (J 0)) (ty := .int) (C := RX12) (T := TX12) (N := 31) rfl rfl inX12 tyX12 tyX12_ok nmX12 6 (by decide) (ref := RX12) kw_1064 rfl rfl (by decide +kernel) rfl rfl (Nat.le_of_ble_eq_true rfl) dX12_map_67 (ws' := (mW D o q (uV u 6 0))) rfl (fun H locs hP hS => ?_)
              refine j_iconst SS dX12_map_70 ?_
              refine lv_istore (lv' := [(9, .int (J 0)), (0, .ref o), (1, .int (J s)), (2, .int (J t2)), (3, .int (J a)), (4, .int (J b)), (5, .int (J c)), (6, .int (J d)), (7, .int (J e)), (8, .int (J f))]) SS.1 SS.2.1 dX12_map_71 hl (by decide) rfl (fun ls hl => ?_)
              have L_73 : ∀ (nn : Nat) (i : Int) (ff : Nat → Int) (g : Nat → Int) (w : Int) (H : Heap) (locs : List Loc) (hP : va_P D.1 j_cl (mW D o q (uV (uI (uI u 4 ff) 5 g) 6 w)) H) (hS : va_S A st.heap H locs) (ls : Array Slot) (hl : lv_has ls 10 [(0, .ref o), (1, .int (J s)), (2, .int (J t2)), (3, .int (J a)), (4, .int (J b)), (5, .int (J c)), (6, .int (J d)), (7, .int (J e)), (8, .int (J f)), (9, .int (J i))]) (i73_0 : 0 ≤ i ∧ i ≤ mN u s) (i73_1 : w = i) (i73_2 : bd 10000 ff g w) (i73_3 : ∀ x y : Int, SWW ff g w x y ↔ MP (SPi u s i) a b c d e f x y), (mN u s - i).toNat < nn → W pr l en (headSpec (jw yX12_map cX12_map 10 (some .int)) (jr 3 68)).room st mi (([.ref o, .int (J s), .int (J t2), .int (J a), .int (J b), .int (J c), .int (J d), .int (J e), .int (J f)] : List Value).toArray) below meth co H locs 0 0 (MQ below (jWi (fun z u' => ∃ f0 : Nat → Int, ∃ f1 : Nat → Int, ∃ f2 : Nat → Int, ∃ f3 : Nat → Int, ∃ f4 : Nat → Int, ∃ f5 : Nat → Int, ∃ w : Int, ∃ X : Nat → Int, ∃ Y : Nat → Int, ∃ nh : Int, u' = (uV (uI (uI (uV (uI (uI (uI (uI (uI (uI u 0 f0) 1 f1) 2 f2) 3 f3) 4 f4) 5 f5) 6 w) 7 X) 8 Y) 9 nh) ∧ ((IM u' ∧ mpM u u' s t2 a b c d e f z) ∧ mHr u u' t2 z)) (fun u' H => va_P D.1 j_cl (mW D o q u') H) A) (([.ref o, .int (J s), .int (J t2), .int (J a), .int (J b), .int (J c), .int (J d), .int (J e), .int (J f)] : List Value).toArray) st 0 0 A) (F0 mi 73 ls []) := by
                intro nn
                induction nn with
                | zero => intros; omega
                | succ nn ih_73 =>
                  intro i ff g w H locs hP hS ls hl i73_0 i73_1 i73_2 i73_3 hm
                  refine lv_iload SS.1 SS.2.1 dX12_map_73 (lv_at hl 9 rfl) ?_
                  refine lv_aload_n SS.1 SS.2.1 dX12_map_75 rfl (lv_at hl 0 rfl) ?_
                  refine j_get SS hG hP 0 (v := .ref (q 0)) (C := RX12) (T := TX12) (N := 31) rfl rfl inX12 0 (by decide) (ref := RX12) kw_1058 rfl rfl dX12_map_76 ?_
                  refine lv_iload_n SS.1 SS.2.1 dX12_map_79 rfl (lv_at hl 1 rfl) ?_
                  refine j_iald SS hG hP 1 (n := 8) (f := (u.1 0)) rfl (z := s) (by omega) (by omega) dX12_map_80 ?_
                  have hN_80 := (show Sh u s from p0.1 _ (by omega) (by omega)).1
                  refine j_icmp_ge SS (tgt := 141) (x := i) (y := (mN u s)) dX12_map_81 (by decide) (by omega) (by omega) (fun c_81 => ?_) (fun c_81 => ?_)
                  · skip
                    refine lv_aload_n SS.1 SS.2.1 dX12_map_141 rfl (lv_at hl 0 rfl) ?_
                    refine j_vWv SS (As := []) (rest := []) (c_X12_findHull2 l D o q (uV (uI (uI u 4 ff) 5 g) 6 w) A (mW_D hD)  (show 0 ≤ w ∧ w ≤ 640 from (by omega)) (show bd 10000 (ff) (g) (w) from (i73_2))) mf_X12_findHull kw_1189 hG hP hP (ci := 8) (q0 := 0) rfl rfl rfl hS (fun _ h => h) rfl hl.1 ⟨⟨Nat.le_of_ble_eq_true rfl, Nat.le_of_ble_eq_true rfl⟩, Nat.le_of_ble_eq_true rfl, Nat.le_refl _, Nat.le_refl _⟩ rfl dX12_map_142 (fun u142 H locs h_142 hP _ hS => ?_)
                    obtain ⟨f_142, g_142, w_142, X_142, Y_142, nh_142, rfl, h_142⟩ := h_142
                    have hP : va_P D.1 j_cl (mW D o q (uV (uI (uI (uV (uI (uI u 4 f_142) 5 g_142) 6 w_142) 7 X_142) 8 Y_142) 9 nh_142)) H := hP
                    have h_142 : 0 ≤ nh_142 ∧ nh_142 ≤ 1290 ∧ Ch nh_142 X_142 Y_142 ∧ (0 < w → 0 < nh_142) ∧ bd 10000 X_142 Y_142 nh_142 ∧ (∀ K : Int, bd K (ff) (g) (w) → bd K X_142 Y_142 nh_142) ∧ HS (SWW (ff) (g) (w)) nh_142 X_142 Y_142 := h_142
                    obtain ⟨a1, a2, a3, a4, a5, a6, a7⟩ := h_142
                    refine lv_aload_n SS.1 SS.2.1 dX12_map_145 rfl (lv_at hl 0 rfl) ?_
                    refine lv_iload_n SS.1 SS.2.1 dX12_map_146 rfl (lv_at hl 2 rfl) ?_
                    refine j_iconst SS dX12_map_147 ?_
                    refine j_vWi SS (As := [.int (J t2), .int (J 1)]) (rest := []) (c_X12_take l D o q (uV (uI (uI (uV (uI (uI u 4 f_142) 5 g_142) 6 w_142) 7 X_142) 8 Y_142) 9 nh_142) A (mW_D hD) t2 1 (show 0 ≤ t2 ∧ t2 ≤ 7 from (by omega)) (show (1 : Int) = 0 ∨ (1 : Int) = 1 from (by omega)) (show 0 ≤ nh_142 ∧ nh_142 ≤ 1290 from (by omega)) (show bd 10000 (X_142) (Y_142) (nh_142) from (a5))) mf_X12_take kw_1162 hG hP hP (ci := 8) (q0 := 0) rfl rfl rfl hS (fun _ h => h) rfl hl.1 ⟨⟨Nat.le_of_ble_eq_true rfl, Nat.le_of_ble_eq_true rfl⟩, Nat.le_of_ble_eq_true rfl, Nat.le_refl _, Nat.le_refl _⟩ rfl dX12_map_148 (fun z_148 u148 H locs h_148 hP _ hS => ?_)
                    obtain ⟨f0_148, f1_148, f2_148, f3_148, rfl, h_148⟩ := h_148
                    have hP : va_P D.1 j_cl (mW D o q (uV (uI (uI (uV (uI (uI (uI (uI (uI (uI u 0 f0_148) 1 f1_148) 2 f2_148) 3 f3_148) 4 f_142) 5 g_142) 6 w_142) 7 X_142) 8 Y_142) 9 nh_142)) H := hP
                    have h_148 : (z_148 = -3 ∧ ¬ tk_ok (1 : Int) 40 (X_142) (Y_142) (nh_142) (nh_142) ∧ f0_148 = (u.1 0) ∧ f1_148 = (u.1 1) ∧ f2_148 = (u.1 2) ∧ f3_148 = (u.1 3)) ∨ (z_148 = nh_142 ∧ tk_ok (1 : Int) 40 (X_142) (Y_142) (nh_142) (nh_142) ∧ tk_new (uV (uI (uI (uV (uI (uI u 4 f_142) 5 g_142) 6 w_142) 7 X_142) 8 Y_142) 9 nh_142) f0_148 f1_148 f2_148 f3_148 t2) := h_148
                    exact W.iret SS.1 SS.2.1 hr (fun t ht hW => ⟨⟨_, (uV (uI (uI (uV (uI (uI (uI (uI (uI (uI u 0 f0_148) 1 f1_148) 2 f2_148) 3 f3_148) 4 f_142) 5 g_142) 6 w_142) 7 X_142) 8 Y_142) 9 nh_142), rfl, ⟨z_148, rfl, (⟨f0_148, f1_148, f2_148, f3_148, f_142, g_142, w_142, X_142, Y_142, nh_142, rfl, ⟨⟨(show IM (uI (uI (uI (uI (uV (uI (uI (uV (uI (uI u 4 f_142) 5 g_142) 6 w_142) 7 X_142) 8 Y_142) 9 nh_142) 0 f0_148) 1 f1_148) 2 f2_148) 3 f3_148) from IM_tk (u := (uV (uI (uI (uV (uI (uI u 4 f_142) 5 g_142) 6 w_142) 7 X_142) 8 Y_142) 9 nh_142)) p0 ⟨by omega, by omega⟩ (Or.inr rfl) a1 (fun q => by omega) a3 h_148), Or.inr ⟨by omega, by omega, by unfold six; omega, Or.inr ⟨by omega, mkM_tk (v0 := u) (v := (uV (uI (uI (uV (uI (uI u 4 f_142) 5 g_142) 6 w_142) 7 X_142) 8 Y_142) 9 nh_142)) p0.1 rfl rfl rfl ⟨by omega, by omega⟩ a1 (Or.inr rfl) (fun q => by omega) a7 (by rw [show i = mN u s by omega] at i73_3; exact i73_3) h_148⟩⟩⟩, mHr_k (nh := nh_142) rfl (by omega) h_148⟩⟩)⟩, by show va_P D.1 j_cl (mW D o q (uV (uI (uI (uV (uI (uI (uI (uI (uI (uI u 0 f0_148) 1 f1_148) 2 f2_148) 3 f3_148) 4 f_142) 5 g_142) 6 w_142) 7 X_142) 8 Y_142) 9 nh_142)) t.heap; rw [ht]; exact hP⟩, hS.F ht⟩) hS.2.2 dX12_map_151 hlk
                  · skip
                    refine lv_aload_n SS.1 SS.2.1 dX12_map_84 rfl (lv_at hl 0 rfl) ?_
                    refine lv_iload_n SS.1 SS.2.1 dX12_map_85 rfl (lv_at hl 3 rfl) ?_
                    refine lv_aload_n SS.1 SS.2.1 dX12_map_86 rfl (lv_at hl 0 rfl) ?_
                    refine lv_iload_n SS.1 SS.2.1 dX12_map_87 rfl (lv_at hl 1 rfl) ?_
                    refine lv_iload SS.1 SS.2.1 dX12_map_88 (lv_at hl 9 rfl) ?_
                    refine j_vRi SS (As := [.int (J s), .int (J i)]) (rest := [.int (J a), .ref o]) (c_X12_x l D o q (uV (uI (uI u 4 ff) 5 g) 6 w) s i (show 0 ≤ s ∧ s ≤ 7 from (by omega)) (show 0 ≤ i ∧ i ≤ 1000000 from (by omega)) (show 0 < mN u s ∧ mN u s ≤ 24 from (by first | omega | (have hq := (show Sh u s from p0.1 _ (by omega) (by omega)).1; omega)))) mf_X12_x kw_1177 hG hP hP (ci := 8) (q0 := 0) rfl rfl rfl rfl hl.1 ⟨⟨Nat.le_of_ble_eq_true rfl, Nat.le_of_ble_eq_true rfl⟩, Nat.le_of_ble_eq_true rfl, Nat.le_refl _, Nat.le_refl _⟩ rfl dX12_map_90 (fun z_90 h_90 => ?_)
                    have h_90 : z_90 = mX u s i := h_90
                    have hb_90 := (show Sh u s from p0.1 _ (by omega) (by omega)).2.1 (by omega) i (by omega)
                    refine j_imul SS (x := a) (y := z_90) dX12_map_93 ?_
                    refine lv_iload SS.1 SS.2.1 dX12_map_94 (lv_at hl 4 rfl) ?_
                    refine lv_aload_n SS.1 SS.2.1 dX12_map_96 rfl (lv_at hl 0 rfl) ?_
                    refine lv_iload_n SS.1 SS.2.1 dX12_map_97 rfl (lv_at hl 1 rfl) ?_
                    refine lv_iload SS.1 SS.2.1 dX12_map_98 (lv_at hl 9 rfl) ?_
                    refine j_vRi SS (As := [.int (J s), .int (J i)]) (rest := [.int (J b), .int (J (a * z_90)), .ref o]) (c_X12_y l D o q (uV (uI (uI u 4 ff) 5 g) 6 w) s i (show 0 ≤ s ∧ s ≤ 7 from (by omega)) (show 0 ≤ i ∧ i ≤ 1000000 from (by omega)) (show 0 < mN u s ∧ mN u s ≤ 24 from (by first | omega | (have hq := (show Sh u s from p0.1 _ (by omega) (by omega)).1; omega)))) mf_X12_y kw_1181 hG hP hP (ci := 8) (q0 := 0) rfl rfl rfl rfl hl.1 ⟨⟨Nat.le_of_ble_eq_true rfl, Nat.le_of_ble_eq_true rfl⟩, Nat.le_of_ble_eq_true rfl, Nat.le_refl _, Nat.le_refl _⟩ rfl dX12_map_100 (fun z_100 h_100 => ?_)
                    have h_100 : z_100 = mY u s i := h_100
                    have hb_100 := (show Sh u s from p0.1 _ (by omega) (by omega)).2.1 (by omega) i (by omega)
                    refine j_imul SS (x := b) (y := z_100) dX12_map_103 ?_
                    refine j_iadd SS (x := (a * z_90)) (y := (b * z_100)) dX12_map_104 ?_
                    refine lv_iload SS.1 SS.2.1 dX12_map_105 (lv_at hl 7 rfl) ?_
                    refine j_iadd SS (x := ((a * z_90) + (b * z_100))) (y := e) dX12_map_107 ?_
                    refine lv_iload SS.1 SS.2.1 dX12_map_108 (lv_at hl 5 rfl) ?_
                    refine lv_aload_n SS.1 SS.2.1 dX12_map_110 rfl (lv_at hl 0 rfl) ?_
                    refine lv_iload_n SS.1 SS.2.1 dX12_map_111 rfl (lv_at hl 1 rfl) ?_
                    refine lv_iload SS.1 SS.2.1 dX12_map_112 (lv_at hl 9 rfl) ?_
                    refine j_vRi SS (As := [.int (J s), .int (J i)]) (rest := [.int (J c), .int (J (((a * z_90) + (b * z_100)) + e)), .ref o]) (c_X12_x l D o q (uV (uI (uI u 4 ff) 5 g) 6 w) s i (show 0 ≤ s ∧ s ≤ 7 from (by omega)) (show 0 ≤ i ∧ i ≤ 1000000 from (by omega)) (show 0 < mN u s ∧ mN u s ≤ 24 from (by first | omega | (have hq := (show Sh u s from p0.1 _ (by omega) (by omega)).1; omega)))) mf_X12_x kw_1177 hG hP hP (ci := 8) (q0 := 0) rfl rfl rfl rfl hl.1 ⟨⟨Nat.le_of_ble_eq_true rfl, Nat.le_of_ble_eq_true rfl⟩, Nat.le_of_ble_eq_true rfl, Nat.le_refl _, Nat.le_refl _⟩ rfl dX12_map_114 (fun z_114 h_114 => ?_)
                    have h_114 : z_114 = mX u s i := h_114
                    have hb_114 := (show Sh u s from p0.1 _ (by omega) (by omega)).2.1 (by omega) i (by omega)
                    refine j_imul SS (x := c) (y := z_114) dX12_map_117 ?_
                    refine lv_iload SS.1 SS.2.1 dX12_map_118 (lv_at hl 6 rfl) ?_
                    refine lv_aload_n SS.1 SS.2.1 dX12_map_120 rfl (lv_at hl 0 rfl) ?_
                    refine lv_iload_n SS.1 SS.2.1 dX12_map_121 rfl (lv_at hl 1 rfl) ?_
                    refine lv_iload SS.1 SS.2.1 dX12_map_122 (lv_at hl 9 rfl) ?_
                    refine j_vRi SS (As := [.int (J s), .int (J i)]) (rest := [.int (J d), .int (J (c * z_114)), .int (J (((a * z_90) + (b * z_100)) + e)), .ref o]) (c_X12_y l D o q (uV (uI (uI u 4 ff) 5 g) 6 w) s i (show 0 ≤ s ∧ s ≤ 7 from (by omega)) (show 0 ≤ i ∧ i ≤ 1000000 from (by omega)) (show 0 < mN u s ∧ mN u s ≤ 24 from (by first | omega | (have hq := (show Sh u s from p0.1 _ (by omega) (by omega)).1; omega)))) mf_X12_y kw_1181 hG hP hP (ci := 8) (q0 := 0) rfl rfl rfl rfl hl.1 ⟨⟨Nat.le_of_ble_eq_true rfl, Nat.le_of_ble_eq_true rfl⟩, Nat.le_of_ble_eq_true rfl, Nat.le_refl _, Nat.le_refl _⟩ rfl dX12_map_124 (fun z_124 h_124 => ?_)
                    have h_124 : z_124 = mY u s i := h_124
                    have hb_124 := (show Sh u s from p0.1 _ (by omega) (by omega)).2.1 (by omega) i (by omega)
                    refine j_imul SS (x := d) (y := z_124) dX12_map_127 ?_
                    refine j_iadd SS (x := (c * z_114)) (y := (d * z_124)) dX12_map_128 ?_
                    refine lv_iload SS.1 SS.2.1 dX12_map_129 (lv_at hl 8 rfl) ?_
                    refine j_iadd SS (x := ((c * z_114) + (d * z_124))) (y := f) dX12_map_131 ?_
                    have n1 := mulb (A := 40) (B := 40) (a := a) (b := z_90) (by omega) (by omega)
                    have n2 := mulb (A := 40) (B := 40) (a := b) (b := z_100) (by omega) (by omega)
                    have n3 := mulb (A := 40) (B := 40) (a := c) (b := z_114) (by omega) (by omega)
                    have n4 := mulb (A := 40) (B := 40) (a := d) (b := z_124) (by omega) (by omega)
                    refine j_vWv SS (As := [.int (J (((a * z_90) + (b * z_100)) + e)), .int (J (((c * z_114) + (d * z_124)) + f))]) (rest := []) (c_X12_put l D o q (uV (uI (uI u 4 ff) 5 g) 6 w) A (mW_D hD) (((a * z_90) + (b * z_100)) + e) (((c * z_114) + (d * z_124)) + f) (show 0 ≤ w ∧ w < 640 from (by omega))) mf_X12_put kw_1185 hG hP hP (ci := 8) (q0 := 0) rfl rfl rfl hS (fun _ h => h) rfl hl.1 ⟨⟨Nat.le_of_ble_eq_true rfl, Nat.le_of_ble_eq_true rfl⟩, Nat.le_of_ble_eq_true rfl, Nat.le_refl _, Nat.le_refl _⟩ rfl dX12_map_132 (fun u132 H locs h_132 hP _ hS => ?_)
                    obtain ⟨f_132, g_132, w_132, rfl, h_132⟩ := h_132
                    have hP : va_P D.1 j_cl (mW D o q (uV (uI (uI u 4 f_132) 5 g_132) 6 w_132)) H := hP
                    have h_132 : f_132 = upI (ff) (w).toNat (((a * z_90) + (b * z_100)) + e) ∧ g_132 = upI (g) (w).toNat (((c * z_114) + (d * z_124)) + f) ∧ w_132 = w + 1 := h_132
                    have k1 := h_132.2.2
                    refine lv_iinc (v := J (i + 1)) (lv' := [(9, .int (J (i + 1))), (0, .ref o), (1, .int (J s)), (2, .int (J t2)), (3, .int (J a)), (4, .int (J b)), (5, .int (J c)), (6, .int (J d)), (7, .int (J e)), (8, .int (J f))]) SS.1 SS.2.1 dX12_map_135 hl (k := 9) rfl (J_add _ _) (by decide) rfl (fun ls hl => ?_)
                    refine lv_goto (tgt := 73) SS.1 SS.2.1 dX12_map_138 (by decide) ?_
                    exact ih_73 (i + 1) f_132 g_132 w_132 _ _ hP hS ls (lv_sub hl [1, 2, 3, 4, 5, 6, 7, 8, 9, 0] rfl) (by omega) (by omega) (by obtain ⟨k1, k2, k3⟩ := h_132; rw [k1, k2, k3]; exact bd_put (by omega) i73_2 (by omega) (by omega)) (fun x y => by obtain ⟨k1, k2, k3⟩ := h_132; rw [k1, k2, k3, SWW_put (by omega), i73_3]; exact mp_s i73_0.1 (by rw [h_90, h_100]) (by rw [h_114, h_124]) x y) (by omega)
              exact L_73 ((mN u s - (0 : Int)).toNat + 1) 0 (u.1 4) (u.1 5) 0 _ _ hP hS ls (lv_sub hl [1, 2, 3, 4, 5, 6, 7, 8, 9, 0] rfl) (by omega) (by omega) (fun a ha => by omega) (fun x y => ⟨fun q => absurd q (SWW_0 (by omega)), fun ⟨p, q, ⟨k, k1, _⟩, _⟩ => by omega⟩) (Nat.lt_succ_self _)
            · skip
              refine j_bipush SS dX12_map_62 (by decide +kernel) ?_
              exact W.iret SS.1 SS.2.1 hr (fun t ht hW => ⟨⟨_, (uV (uI (uI (uV (uI (uI (uI (uI (uI (uI u 0 (u.1 0)) 1 (u.1 1)) 2 (u.1 2)) 3 (u.1 3)) 4 (u.1 4)) 5 (u.1 5)) 6 (u.2.2 6)) 7 (u.1 7)) 8 (u.1 8)) 9 (u.2.2 9)), rfl, ⟨(-2), rfl, (⟨(u.1 0), (u.1 1), (u.1 2), (u.1 3), (u.1 4), (u.1 5), (u.2.2 6), (u.1 7), (u.1 8), (u.2.2 9), rfl, ⟨⟨p0, Or.inr ⟨by omega, by omega, by unfold six; omega, Or.inl ⟨by omega, rfl, rfl, rfl, rfl⟩⟩⟩, mHr_n rfl (by decide)⟩⟩)⟩, by show va_P D.1 j_cl (mW D o q (uV (uI (uI (uV (uI (uI (uI (uI (uI (uI u 0 (u.1 0)) 1 (u.1 1)) 2 (u.1 2)) 3 (u.1 3)) 4 (u.1 4)) 5 (u.1 5)) 6 (u.2.2 6)) 7 (u.1 7)) 8 (u.1 8)) 9 (u.2.2 9))) t.heap; rw [ht]; exact hP⟩, hS.F ht⟩) hS.2.2 dX12_map_64 hlk
          · skip
            refine j_iconst SS dX12_map_43 ?_
            exact W.iret SS.1 SS.2.1 hr (fun t ht hW => ⟨⟨_, (uV (uI (uI (uV (uI (uI (uI (uI (uI (uI u 0 (u.1 0)) 1 (u.1 1)) 2 (u.1 2)) 3 (u.1 3)) 4 (u.1 4)) 5 (u.1 5)) 6 (u.2.2 6)) 7 (u.1 7)) 8 (u.1 8)) 9 (u.2.2 9)), rfl, ⟨(-1), rfl, (⟨(u.1 0), (u.1 1), (u.1 2), (u.1 3), (u.1 4), (u.1 5), (u.2.2 6), (u.1 7), (u.1 8), (u.2.2 9), rfl, ⟨⟨p0, Or.inl ⟨by unfold six; omega, rfl, rfl, rfl, rfl⟩⟩, mHr_n rfl (by decide)⟩⟩)⟩, by show va_P D.1 j_cl (mW D o q (uV (uI (uI (uV (uI (uI (uI (uI (uI (uI u 0 (u.1 0)) 1 (u.1 1)) 2 (u.1 2)) 3 (u.1 3)) 4 (u.1 4)) 5 (u.1 5)) 6 (u.2.2 6)) 7 (u.1 7)) 8 (u.1 8)) 9 (u.2.2 9))) t.heap; rw [ht]; exact hP⟩, hS.F ht⟩) hS.2.2 dX12_map_44 hlk

set_option maxHeartbeats 4000000 in
set_option maxRecDepth 100000 in
theorem c_X12_dualH (l : Launch) (D : JD) (o : Nat) (q : Nat → Nat) (u : MS) (A : Nat → Prop) (hD : va_D A (mW D o q u)) (s : Int) (t2 : Int) (p0 : IM u) (p1 : -2147483648 ≤ s ∧ s ≤ 2147483647) (p2 : -2147483648 ≤ t2 ∧ t2 ≤ 2147483647) : Met l yX12_dual (jw yX12_dual cX12_dual 4 (some .int)) (jr 6 133) (jP [.ref o, .int (J s), .int (J t2)] D (fun H => va_P D.1 j_cl (mW D o q u) H)) (jWi (fun z u' => ∃ f0 : Nat → Int, ∃ f1 : Nat → Int, ∃ f2 : Nat → Int, ∃ f3 : Nat → Int, ∃ f4 : Nat → Int, ∃ f5 : Nat → Int, ∃ w : Int, ∃ X : Nat → Int, ∃ Y : Nat → Int, ∃ nh : Int, u' = (uV (uI (uI (uV (uI (uI (uI (uI (uI (uI u 0 f0) 1 f1) 2 f2) 3 f3) 4 f4) 5 f5) 6 w) 7 X) 8 Y) 9 nh) ∧ ((IM u' ∧ dlM u u' s t2 z) ∧ mHr u u' t2 z)) (fun u' H => va_P D.1 j_cl (mW D o q u') H) A) 0 0 A := by
  refine Met.ofW (cc := cX12_dual) (maxL := 4) (ret := (some .int)) (by decide) rfl ?_
  intro pr en st mi args below meth co s₁ B hml hv
  obtain ⟨rfl, hG, hP⟩ := hv
  have hr := B.returns
  have hlk := B.notSynchronized
  have SS : jS pr mi co cX12_dual 4 st _ RX12 := ⟨B.exec, B.bytes, hml, findClass_of_methodNamed B.named, fun w hw => atoms_spec (ws := (jw yX12_dual cX12_dual 4 (some .int))) B.pre w (List.mem_cons_of_mem _ hw)⟩
  have hl := lv_entry ([.ref o, .int (J s), .int (J t2)]) (n := 4) (Nat.le_of_ble_eq_true rfl)
  rw [lg_entry_eq]
  generalize (lg_sl ([.ref o, .int (J s), .int (J t2)]) ++ List.replicate (4 - (lg_sl ([.ref o, .int (J s), .int (J t2)])).length) Slot.unset).toArray = ls at hl ⊢
  have hl : lv_has ls 4 [(0, .ref o), (1, .int (J s)), (2, .int (J t2))] := hl
  have hS : va_S A st.heap st.heap [] := va_S.rf
  refine lv_iload_n SS.1 SS.2.1 dX12_dual_0 rfl (lv_at hl 1 rfl) ?_
  refine j_sRi SS (As := [.int (J s)]) (rest := []) (c_X12_isShape l D s (show -2147483648 ≤ s ∧ s ≤ 2147483647 from (by omega))) mf_X12_isShape kw_1156 hG trivial rfl hl.1 ⟨⟨Nat.le_of_ble_eq_true rfl, Nat.le_of_ble_eq_true rfl⟩, Nat.le_of_ble_eq_true rfl, Nat.le_refl _, Nat.le_refl _⟩ rfl dX12_dual_1 (fun z_1 h_1 => ?_)
  have h_1 : (z_1 = 1 ∧ (0 ≤ s ∧ s ≤ 7)) ∨ (z_1 = 0 ∧ ¬ (0 ≤ s ∧ s ≤ 7)) := h_1
  refine j_if_eq SS (tgt := 14) (x := z_1) dX12_dual_4 (by decide) (by omega) (fun c_4 => ?_) (fun c_4 => ?_)
  · skip
    refine j_iconst SS dX12_dual_14 ?_
    exact W.iret SS.1 SS.2.1 hr (fun t ht hW => ⟨⟨_, (uV (uI (uI (uV (uI (uI (uI (uI (uI (uI u 0 (u.1 0)) 1 (u.1 1)) 2 (u.1 2)) 3 (u.1 3)) 4 (u.1 4)) 5 (u.1 5)) 6 (u.2.2 6)) 7 (u.1 7)) 8 (u.1 8)) 9 (u.2.2 9)), rfl, ⟨(-1), rfl, (⟨(u.1 0), (u.1 1), (u.1 2), (u.1 3), (u.1 4), (u.1 5), (u.2.2 6), (u.1 7), (u.1 8), (u.2.2 9), rfl, ⟨⟨p0, Or.inl ⟨by omega, rfl, rfl, rfl, rfl⟩⟩, mHr_n rfl (by decide)⟩⟩)⟩, by show va_P D.1 j_cl (mW D o q (uV (uI (uI (uV (uI (uI (uI (uI (uI (uI u 0 (u.1 0)) 1 (u.1 1)) 2 (u.1 2)) 3 (u.1 3)) 4 (u.1 4)) 5 (u.1 5)) 6 (u.2.2 6)) 7 (u.1 7)) 8 (u.1 8)) 9 (u.2.2 9))) t.heap; rw [ht]; exact hP⟩, hS.F ht⟩) hS.2.2 dX12_dual_15 hlk
  · skip
    refine lv_iload_n SS.1 SS.2.1 dX12_dual_7 rfl (lv_at hl 2 rfl) ?_
    refine j_sRi SS (As := [.int (J t2)]) (rest := []) (c_X12_isShape l D t2 (show -2147483648 ≤ t2 ∧ t2 ≤ 2147483647 from (by omega))) mf_X12_isShape kw_1156 hG trivial rfl hl.1 ⟨⟨Nat.le_of_ble_eq_true rfl, Nat.le_of_ble_eq_true rfl⟩, Nat.le_of_ble_eq_true rfl, Nat.le_refl _, Nat.le_refl _⟩ rfl dX12_dual_8 (fun z_8 h_8 => ?_)
    have h_8 : (z_8 = 1 ∧ (0 ≤ t2 ∧ t2 ≤ 7)) ∨ (z_8 = 0 ∧ ¬ (0 ≤ t2 ∧ t2 ≤ 7)) := h_8
    refine j_if_ne SS (tgt := 16) (x := z_8) dX12_dual_11 (by decide) (by omega) (fun c_11 => ?_) (fun c_11 => ?_)
    · skip
      refine lv_aload_n SS.1 SS.2.1 dX12_dual_16 rfl (lv_at hl 0 rfl) ?_
      refine lv_iload_n SS.1 SS.2.1 dX12_dual_17 rfl (lv_at hl 1 rfl) ?_
      refine j_vRi SS (As := [.int (J s)]) (rest := []) (c_X12_isReflexive2 l D o q u s (show 0 ≤ s ∧ s ≤ 7 from (by omega)) (show Sh u s from (p0.1 _ (by omega) (by omega)))) mf_X12_isReflexive kw_1380 hG hP hP (ci := 8) (q0 := 0) rfl rfl rfl rfl hl.1 ⟨⟨Nat.le_of_ble_eq_true rfl, Nat.le_of_ble_eq_true rfl⟩, Nat.le_of_ble_eq_true rfl, Nat.le_refl _, Nat.le_refl _⟩ rfl dX12_dual_18 (fun z_18 h_18 => ?_)
      have h_18 : (z_18 = 1 ∧ mRef u s) ∨ (z_18 = 0 ∧ ¬ mRef u s) := h_18
      refine j_if_ne SS (tgt := 27) (x := z_18) dX12_dual_21 (by decide) (by omega) (fun c_21 => ?_) (fun c_21 => ?_)
      · skip
        have hSh := p0.1 s (by omega) (by omega)
        have hN := hSh.1
        have href : mRef u s := by rcases h_18 with q | q; exact q.2; omega
        have hn3 := href.1
        refine lv_aload_n SS.1 SS.2.1 dX12_dual_27 rfl (lv_at hl 0 rfl) ?_
        refine j_iconst SS dX12_dual_28 ?_
        refine j_put SS hG hP (mW_D hD) hS 0 (v := .int (J 0)) (ty := .int) (C := RX12) (T := TX12) (N := 31) rfl rfl inX12 tyX12 tyX12_ok nmX12 6 (by decide) (ref := RX12) kw_1064 rfl rfl (by decide +kernel) rfl rfl (Nat.le_of_ble_eq_true rfl) dX12_dual_29 (ws' := (mW D o q (uV u 6 0))) rfl (fun H locs hP hS => ?_)
        refine j_iconst SS dX12_dual_32 ?_
        refine lv_istore_n (lv' := [(3, .int (J 0)), (0, .ref o), (1, .int (J s)), (2, .int (J t2))]) SS.1 SS.2.1 dX12_dual_33 rfl hl (by decide) rfl (fun ls hl => ?_)
        have L_34 : ∀ (nn : Nat) (i : Int) (f : Nat → Int) (g : Nat → Int) (w : Int) (H : Heap) (locs : List Loc) (hP : va_P D.1 j_cl (mW D o q (uV (uI (uI u 4 f) 5 g) 6 w)) H) (hS : va_S A st.heap H locs) (ls : Array Slot) (hl : lv_has ls 4 [(0, .ref o), (1, .int (J s)), (2, .int (J t2)), (3, .int (J i))]) (i34_0 : 0 ≤ i ∧ i ≤ mN u s) (i34_1 : w = i) (i34_2 : bd 80 f g w) (i34_3 : ∀ x y : Int, SWW f g w x y ↔ NMi u s i x y), (mN u s - i).toNat < nn → W pr l en (headSpec (jw yX12_dual cX12_dual 4 (some .int)) (jr 6 133)).room st mi (([.ref o, .int (J s), .int (J t2)] : List Value).toArray) below meth co H locs 0 0 (MQ below (jWi (fun z u' => ∃ f0 : Nat → Int, ∃ f1 : Nat → Int, ∃ f2 : Nat → Int, ∃ f3 : Nat → Int, ∃ f4 : Nat → Int, ∃ f5 : Nat → Int, ∃ w : Int, ∃ X : Nat → Int, ∃ Y : Nat → Int, ∃ nh : Int, u' = (uV (uI (uI (uV (uI (uI (uI (uI (uI (uI u 0 f0) 1 f1) 2 f2) 3 f3) 4 f4) 5 f5) 6 w) 7 X) 8 Y) 9 nh) ∧ ((IM u' ∧ dlM u u' s t2 z) ∧ mHr u u' t2 z)) (fun u' H => va_P D.1 j_cl (mW D o q u') H) A) (([.ref o, .int (J s), .int (J t2)] : List Value).toArray) st 0 0 A) (F0 mi 34 ls []) := by
          intro nn
          induction nn with
          | zero => intros; omega
          | succ nn ih_34 =>
            intro i f g w H locs hP hS ls hl i34_0 i34_1 i34_2 i34_3 hm
            refine lv_iload_n SS.1 SS.2.1 dX12_dual_34 rfl (lv_at hl 3 rfl) ?_
            refine lv_aload_n SS.1 SS.2.1 dX12_dual_35 rfl (lv_at hl 0 rfl) ?_
            refine j_get SS hG hP 0 (v := .ref (q 0)) (C := RX12) (T := TX12) (N := 31) rfl rfl inX12 0 (by decide) (ref := RX12) kw_1058 rfl rfl dX12_dual_36 ?_
            refine lv_iload_n SS.1 SS.2.1 dX12_dual_39 rfl (lv_at hl 1 rfl) ?_
            refine j_iald SS hG hP 1 (n := 8) (f := (u.1 0)) rfl (z := s) (by omega) (by omega) dX12_dual_40 ?_
            have hN_40 := (show Sh u s from p0.1 _ (by omega) (by omega)).1
            refine j_icmp_ge SS (tgt := 66) (x := i) (y := (mN u s)) dX12_dual_41 (by decide) (by omega) (by omega) (fun c_41 => ?_) (fun c_41 => ?_)
            · skip
              refine lv_aload_n SS.1 SS.2.1 dX12_dual_66 rfl (lv_at hl 0 rfl) ?_
              refine j_vWv SS (As := []) (rest := []) (c_X12_findHull2 l D o q (uV (uI (uI u 4 f) 5 g) 6 w) A (mW_D hD)  (show 0 ≤ w ∧ w ≤ 640 from (by omega)) (show bd 10000 (f) (g) (w) from (bd_K i34_2 (by omega)))) mf_X12_findHull kw_1189 hG hP hP (ci := 8) (q0 := 0) rfl rfl rfl hS (fun _ h => h) rfl hl.1 ⟨⟨Nat.le_of_ble_eq_true rfl, Nat.le_of_ble_eq_true rfl⟩, Nat.le_of_ble_eq_true rfl, Nat.le_refl _, Nat.le_refl _⟩ rfl dX12_dual_67 (fun u67 H locs h_67 hP _ hS => ?_)
              obtain ⟨f_67, g_67, w_67, X_67, Y_67, nh_67, rfl, h_67⟩ := h_67
              have hP : va_P D.1 j_cl (mW D o q (uV (uI (uI (uV (uI (uI u 4 f_67) 5 g_67) 6 w_67) 7 X_67) 8 Y_67) 9 nh_67)) H := hP
              have h_67 : 0 ≤ nh_67 ∧ nh_67 ≤ 1290 ∧ Ch nh_67 X_67 Y_67 ∧ (0 < w → 0 < nh_67) ∧ bd 10000 X_67 Y_67 nh_67 ∧ (∀ K : Int, bd K (f) (g) (w) → bd K X_67 Y_67 nh_67) ∧ HS (SWW (f) (g) (w)) nh_67 X_67 Y_67 := h_67
              obtain ⟨a1, a2, a3, a4, a5, a6, a7⟩ := h_67
              refine lv_aload_n SS.1 SS.2.1 dX12_dual_70 rfl (lv_at hl 0 rfl) ?_
              refine lv_iload_n SS.1 SS.2.1 dX12_dual_71 rfl (lv_at hl 2 rfl) ?_
              refine j_iconst SS dX12_dual_72 ?_
              refine j_vWi SS (As := [.int (J t2), .int (J 1)]) (rest := []) (c_X12_take l D o q (uV (uI (uI (uV (uI (uI u 4 f_67) 5 g_67) 6 w_67) 7 X_67) 8 Y_67) 9 nh_67) A (mW_D hD) t2 1 (show 0 ≤ t2 ∧ t2 ≤ 7 from (by omega)) (show (1 : Int) = 0 ∨ (1 : Int) = 1 from (by omega)) (show 0 ≤ nh_67 ∧ nh_67 ≤ 1290 from (by omega)) (show bd 10000 (X_67) (Y_67) (nh_67) from (a5))) mf_X12_take kw_1162 hG hP hP (ci := 8) (q0 := 0) rfl rfl rfl hS (fun _ h => h) rfl hl.1 ⟨⟨Nat.le_of_ble_eq_true rfl, Nat.le_of_ble_eq_true rfl⟩, Nat.le_of_ble_eq_true rfl, Nat.le_refl _, Nat.le_refl _⟩ rfl dX12_dual_73 (fun z_73 u73 H locs h_73 hP _ hS => ?_)
              obtain ⟨f0_73, f1_73, f2_73, f3_73, rfl, h_73⟩ := h_73
              have hP : va_P D.1 j_cl (mW D o q (uV (uI (uI (uV (uI (uI (uI (uI (uI (uI u 0 f0_73) 1 f1_73) 2 f2_73) 3 f3_73) 4 f_67) 5 g_67) 6 w_67) 7 X_67) 8 Y_67) 9 nh_67)) H := hP
              have h_73 : (z_73 = -3 ∧ ¬ tk_ok (1 : Int) 40 (X_67) (Y_67) (nh_67) (nh_67) ∧ f0_73 = (u.1 0) ∧ f1_73 = (u.1 1) ∧ f2_73 = (u.1 2) ∧ f3_73 = (u.1 3)) ∨ (z_73 = nh_67 ∧ tk_ok (1 : Int) 40 (X_67) (Y_67) (nh_67) (nh_67) ∧ tk_new (uV (uI (uI (uV (uI (uI u 4 f_67) 5 g_67) 6 w_67) 7 X_67) 8 Y_67) 9 nh_67) f0_73 f1_73 f2_73 f3_73 t2) := h_73
              exact W.iret SS.1 SS.2.1 hr (fun t ht hW => ⟨⟨_, (uV (uI (uI (uV (uI (uI (uI (uI (uI (uI u 0 f0_73) 1 f1_73) 2 f2_73) 3 f3_73) 4 f_67) 5 g_67) 6 w_67) 7 X_67) 8 Y_67) 9 nh_67), rfl, ⟨z_73, rfl, (⟨f0_73, f1_73, f2_73, f3_73, f_67, g_67, w_67, X_67, Y_67, nh_67, rfl, ⟨⟨(show IM (uI (uI (uI (uI (uV (uI (uI (uV (uI (uI u 4 f_67) 5 g_67) 6 w_67) 7 X_67) 8 Y_67) 9 nh_67) 0 f0_73) 1 f1_73) 2 f2_73) 3 f3_73) from IM_tk (u := (uV (uI (uI (uV (uI (uI u 4 f_67) 5 g_67) 6 w_67) 7 X_67) 8 Y_67) 9 nh_67)) p0 ⟨by omega, by omega⟩ (Or.inr rfl) a1 (fun q => by omega) a3 h_73), Or.inr ⟨by omega, by omega, Or.inr ⟨href, mkM_tk (v0 := u) (v := (uV (uI (uI (uV (uI (uI u 4 f_67) 5 g_67) 6 w_67) 7 X_67) 8 Y_67) 9 nh_67)) p0.1 rfl rfl rfl ⟨by omega, by omega⟩ a1 (Or.inr rfl) (fun q => by omega) a7 (by rw [show i = mN u s by omega] at i34_3; exact i34_3) h_73⟩⟩⟩, mHr_k (nh := nh_67) rfl (by omega) h_73⟩⟩)⟩, by show va_P D.1 j_cl (mW D o q (uV (uI (uI (uV (uI (uI (uI (uI (uI (uI u 0 f0_73) 1 f1_73) 2 f2_73) 3 f3_73) 4 f_67) 5 g_67) 6 w_67) 7 X_67) 8 Y_67) 9 nh_67)) t.heap; rw [ht]; exact hP⟩, hS.F ht⟩) hS.2.2 dX12_dual_76 hlk
            · skip
              refine lv_aload_n SS.1 SS.2.1 dX12_dual_44 rfl (lv_at hl 0 rfl) ?_
              refine lv_aload_n SS.1 SS.2.1 dX12_dual_45 rfl (lv_at hl 0 rfl) ?_
              refine lv_iload_n SS.1 SS.2.1 dX12_dual_46 rfl (lv_at hl 1 rfl) ?_
              refine lv_iload_n SS.1 SS.2.1 dX12_dual_47 rfl (lv_at hl 3 rfl) ?_
              refine j_vRi SS (As := [.int (J s), .int (J i)]) (rest := [.ref o]) (c_X12_normalX2 l D o q (uV (uI (uI u 4 f) 5 g) 6 w) s i (show 0 ≤ s ∧ s ≤ 7 from (by omega)) (show Sh u s from (hSh)) (show 0 ≤ i ∧ i < mN u s from (by omega)) (show 2 ≤ mN u s from (by omega))) mf_X12_normalX kw_1364 hG hP hP (ci := 8) (q0 := 0) rfl rfl rfl rfl hl.1 ⟨⟨Nat.le_of_ble_eq_true rfl, Nat.le_of_ble_eq_true rfl⟩, Nat.le_of_ble_eq_true rfl, Nat.le_refl _, Nat.le_refl _⟩ rfl dX12_dual_48 (fun z_48 h_48 => ?_)
              have h_48 : z_48 = mNX u s i ∧ -80 ≤ z_48 ∧ z_48 ≤ 80 := h_48
              refine lv_aload_n SS.1 SS.2.1 dX12_dual_51 rfl (lv_at hl 0 rfl) ?_
              refine lv_iload_n SS.1 SS.2.1 dX12_dual_52 rfl (lv_at hl 1 rfl) ?_
              refine lv_iload_n SS.1 SS.2.1 dX12_dual_53 rfl (lv_at hl 3 rfl) ?_
              refine j_vRi SS (As := [.int (J s), .int (J i)]) (rest := [.int (J z_48), .ref o]) (c_X12_normalY2 l D o q (uV (uI (uI u 4 f) 5 g) 6 w) s i (show 0 ≤ s ∧ s ≤ 7 from (by omega)) (show Sh u s from (hSh)) (show 0 ≤ i ∧ i < mN u s from (by omega)) (show 2 ≤ mN u s from (by omega))) mf_X12_normalY kw_1368 hG hP hP (ci := 8) (q0 := 0) rfl rfl rfl rfl hl.1 ⟨⟨Nat.le_of_ble_eq_true rfl, Nat.le_of_ble_eq_true rfl⟩, Nat.le_of_ble_eq_true rfl, Nat.le_refl _, Nat.le_refl _⟩ rfl dX12_dual_54 (fun z_54 h_54 => ?_)
              have h_54 : z_54 = mNY u s i ∧ -80 ≤ z_54 ∧ z_54 ≤ 80 := h_54
              refine j_vWv SS (As := [.int (J z_48), .int (J z_54)]) (rest := []) (c_X12_put l D o q (uV (uI (uI u 4 f) 5 g) 6 w) A (mW_D hD) z_48 z_54 (show 0 ≤ w ∧ w < 640 from (by omega))) mf_X12_put kw_1185 hG hP hP (ci := 8) (q0 := 0) rfl rfl rfl hS (fun _ h => h) rfl hl.1 ⟨⟨Nat.le_of_ble_eq_true rfl, Nat.le_of_ble_eq_true rfl⟩, Nat.le_of_ble_eq_true rfl, Nat.le_refl _, Nat.le_refl _⟩ rfl dX12_dual_57 (fun u57 H locs h_57 hP _ hS => ?_)
              obtain ⟨f_57, g_57, w_57, rfl, h_57⟩ := h_57
              have hP : va_P D.1 j_cl (mW D o q (uV (uI (uI u 4 f_57) 5 g_57) 6 w_57)) H := hP
              have h_57 : f_57 = upI (f) (w).toNat z_48 ∧ g_57 = upI (g) (w).toNat z_54 ∧ w_57 = w + 1 := h_57
              have k1 := h_57.2.2
              refine lv_iinc (v := J (i + 1)) (lv' := [(3, .int (J (i + 1))), (0, .ref o), (1, .int (J s)), (2, .int (J t2))]) SS.1 SS.2.1 dX12_dual_60 hl (k := 3) rfl (J_add _ _) (by decide) rfl (fun ls hl => ?_)
              refine lv_goto (tgt := 34) SS.1 SS.2.1 dX12_dual_63 (by decide) ?_
              exact ih_34 (i + 1) f_57 g_57 w_57 _ _ hP hS ls (lv_sub hl [1, 2, 3, 0] rfl) (by omega) (by omega) (by obtain ⟨k1, k2, k3⟩ := h_57; rw [k1, k2, k3]; exact bd_put (by omega) i34_2 (by omega) (by omega)) (fun x y => by obtain ⟨k1, k2, k3⟩ := h_57; rw [k1, k2, k3, SWW_put (by omega), i34_3]; exact nm_s i34_0.1 h_48.1 h_54.1 x y) (by omega)
        exact L_34 ((mN u s - (0 : Int)).toNat + 1) 0 (u.1 4) (u.1 5) 0 _ _ hP hS ls (lv_sub hl [1, 2, 3, 0] rfl) (by omega) (by omega) (fun a ha => by omega) (fun x y => ⟨fun q => absurd q (SWW_0 (by omega)), fun ⟨a, q1, _⟩ => by omega⟩) (Nat.lt_succ_self _)
      · skip
        refine j_bipush SS dX12_dual_24 (by decide +kernel) ?_
        exact W.iret SS.1 SS.2.1 hr (fun t ht hW => ⟨⟨_, (uV (uI (uI (uV (uI (uI (uI (uI (uI (uI u 0 (u.1 0)) 1 (u.1 1)) 2 (u.1 2)) 3 (u.1 3)) 4 (u.1 4)) 5 (u.1 5)) 6 (u.2.2 6)) 7 (u.1 7)) 8 (u.1 8)) 9 (u.2.2 9)), rfl, ⟨(-2), rfl, (⟨(u.1 0), (u.1 1), (u.1 2), (u.1 3), (u.1 4), (u.1 5), (u.2.2 6), (u.1 7), (u.1 8), (u.2.2 9), rfl, ⟨⟨p0, Or.inr ⟨by omega, by omega, Or.inl ⟨by rcases h_18 with q | q; omega; exact q.2, rfl, rfl, rfl, rfl⟩⟩⟩, mHr_n rfl (by decide)⟩⟩)⟩, by show va_P D.1 j_cl (mW D o q (uV (uI (uI (uV (uI (uI (uI (uI (uI (uI u 0 (u.1 0)) 1 (u.1 1)) 2 (u.1 2)) 3 (u.1 3)) 4 (u.1 4)) 5 (u.1 5)) 6 (u.2.2 6)) 7 (u.1 7)) 8 (u.1 8)) 9 (u.2.2 9))) t.heap; rw [ht]; exact hP⟩, hS.F ht⟩) hS.2.2 dX12_dual_26 hlk
    · skip
      refine j_iconst SS dX12_dual_14 ?_
      exact W.iret SS.1 SS.2.1 hr (fun t ht hW => ⟨⟨_, (uV (uI (uI (uV (uI (uI (uI (uI (uI (uI u 0 (u.1 0)) 1 (u.1 1)) 2 (u.1 2)) 3 (u.1 3)) 4 (u.1 4)) 5 (u.1 5)) 6 (u.2.2 6)) 7 (u.1 7)) 8 (u.1 8)) 9 (u.2.2 9)), rfl, ⟨(-1), rfl, (⟨(u.1 0), (u.1 1), (u.1 2), (u.1 3), (u.1 4), (u.1 5), (u.2.2 6), (u.1 7), (u.1 8), (u.2.2 9), rfl, ⟨⟨p0, Or.inl ⟨by omega, rfl, rfl, rfl, rfl⟩⟩, mHr_n rfl (by decide)⟩⟩)⟩, by show va_P D.1 j_cl (mW D o q (uV (uI (uI (uV (uI (uI (uI (uI (uI (uI u 0 (u.1 0)) 1 (u.1 1)) 2 (u.1 2)) 3 (u.1 3)) 4 (u.1 4)) 5 (u.1 5)) 6 (u.2.2 6)) 7 (u.1 7)) 8 (u.1 8)) 9 (u.2.2 9))) t.heap; rw [ht]; exact hP⟩, hS.F ht⟩) hS.2.2 dX12_dual_15 hlk

set_option maxHeartbeats 4000000 in
set_option maxRecDepth 100000 in
theorem c_X12_heightH (l : Launch) (D : JD) (o : Nat) (q : Nat → Nat) (u : MS) (A : Nat → Prop) (hD : va_D A (mW D o q u)) (s : Int) (i : Int) (v : Int) (p0 : IM u) (p1 : -2147483648 ≤ s ∧ s ≤ 2147483647) (p2 : -2147483648 ≤ i ∧ i ≤ 2147483647) (p3 : -2147483648 ≤ v ∧ v ≤ 2147483647) : Met l yX12_height (jw yX12_height cX12_height 5 (some .int)) (jr 6 131) (jP [.ref o, .int (J s), .int (J i), .int (J v)] D (fun H => va_P D.1 j_cl (mW D o q u) H)) (jWi (fun z u' => ∃ f3 : Nat → Int, u' = (uI u 3 f3) ∧ ((IM u') ∧ htM u u' s i v z)) (fun u' H => va_P D.1 j_cl (mW D o q u') H) A) 0 0 A := by
  refine Met.ofW (cc := cX12_height) (maxL := 5) (ret := (some .int)) (by decide) rfl ?_
  intro pr en st mi args below meth co s₁ B hml hv
  obtain ⟨rfl, hG, hP⟩ := hv
  have hr := B.returns
  have hlk := B.notSynchronized
  have SS : jS pr mi co cX12_height 5 st _ RX12 := ⟨B.exec, B.bytes, hml, findClass_of_methodNamed B.named, fun w hw => atoms_spec (ws := (jw yX12_height cX12_height 5 (some .int))) B.pre w (List.mem_cons_of_mem _ hw)⟩
  have hl := lv_entry ([.ref o, .int (J s), .int (J i), .int (J v)]) (n := 5) (Nat.le_of_ble_eq_true rfl)
  rw [lg_entry_eq]
  generalize (lg_sl ([.ref o, .int (J s), .int (J i), .int (J v)]) ++ List.replicate (5 - (lg_sl ([.ref o, .int (J s), .int (J i), .int (J v)])).length) Slot.unset).toArray = ls at hl ⊢
  have hl : lv_has ls 5 [(0, .ref o), (1, .int (J s)), (2, .int (J i)), (3, .int (J v))] := hl
  have hS : va_S A st.heap st.heap [] := va_S.rf
  refine lv_iload_n SS.1 SS.2.1 dX12_height_0 rfl (lv_at hl 1 rfl) ?_
  refine j_sRi SS (As := [.int (J s)]) (rest := []) (c_X12_isShape l D s (show -2147483648 ≤ s ∧ s ≤ 2147483647 from (by omega))) mf_X12_isShape kw_1156 hG trivial rfl hl.1 ⟨⟨Nat.le_of_ble_eq_true rfl, Nat.le_of_ble_eq_true rfl⟩, Nat.le_of_ble_eq_true rfl, Nat.le_refl _, Nat.le_refl _⟩ rfl dX12_height_1 (fun z_1 h_1 => ?_)
  have h_1 : (z_1 = 1 ∧ (0 ≤ s ∧ s ≤ 7)) ∨ (z_1 = 0 ∧ ¬ (0 ≤ s ∧ s ≤ 7)) := h_1
  refine j_if_eq SS (tgt := 49) (x := z_1) dX12_height_4 (by decide) (by omega) (fun c_4 => ?_) (fun c_4 => ?_)
  · skip
    refine j_ldc SS (-1000000) kw_1213 dX12_height_49 ?_
    exact W.iret SS.1 SS.2.1 hr (fun t ht hW => ⟨⟨_, (uI u 3 (u.1 3)), rfl, ⟨(-1000000), rfl, (⟨(u.1 3), rfl, ⟨p0, Or.inl ⟨fun q => by have q1 := q.1; have q2 := q.2.1; have q3 := q.2.2; omega, rfl, rfl⟩⟩⟩)⟩, by show va_P D.1 j_cl (mW D o q (uI u 3 (u.1 3))) t.heap; rw [ht]; exact hP⟩, hS.F ht⟩) hS.2.2 dX12_height_51 hlk
  · skip
    refine lv_iload_n SS.1 SS.2.1 dX12_height_7 rfl (lv_at hl 3 rfl) ?_
    refine j_sipush SS dX12_height_8 (by decide +kernel) ?_
    refine j_sipush SS dX12_height_11 (by decide +kernel) ?_
    refine j_sRi SS (As := [.int (J v), .int (J (-1000)), .int (J 1000)]) (rest := []) (c_X12_in l D v (-1000) 1000 (show -2147483648 ≤ v ∧ v ≤ 2147483647 from (by omega)) (show -2147483648 ≤ (-1000 : Int) ∧ (-1000 : Int) ≤ 2147483647 from (by omega)) (show -2147483648 ≤ (1000 : Int) ∧ (1000 : Int) ≤ 2147483647 from (by omega))) mf_X12_in kw_1159 hG trivial rfl hl.1 ⟨⟨Nat.le_of_ble_eq_true rfl, Nat.le_of_ble_eq_true rfl⟩, Nat.le_of_ble_eq_true rfl, Nat.le_refl _, Nat.le_refl _⟩ rfl dX12_height_14 (fun z_14 h_14 => ?_)
    have h_14 : (z_14 = 1 ∧ ((-1000 : Int) ≤ v ∧ v ≤ (1000 : Int))) ∨ (z_14 = 0 ∧ ¬ ((-1000 : Int) ≤ v ∧ v ≤ (1000 : Int))) := h_14
    refine j_if_eq SS (tgt := 49) (x := z_14) dX12_height_17 (by decide) (by omega) (fun c_17 => ?_) (fun c_17 => ?_)
    · skip
      refine j_ldc SS (-1000000) kw_1213 dX12_height_49 ?_
      exact W.iret SS.1 SS.2.1 hr (fun t ht hW => ⟨⟨_, (uI u 3 (u.1 3)), rfl, ⟨(-1000000), rfl, (⟨(u.1 3), rfl, ⟨p0, Or.inl ⟨fun q => by have q1 := q.1; have q2 := q.2.1; have q3 := q.2.2; omega, rfl, rfl⟩⟩⟩)⟩, by show va_P D.1 j_cl (mW D o q (uI u 3 (u.1 3))) t.heap; rw [ht]; exact hP⟩, hS.F ht⟩) hS.2.2 dX12_height_51 hlk
    · skip
      refine lv_aload_n SS.1 SS.2.1 dX12_height_20 rfl (lv_at hl 0 rfl) ?_
      refine lv_iload_n SS.1 SS.2.1 dX12_height_21 rfl (lv_at hl 1 rfl) ?_
      refine j_vRi SS (As := [.int (J s)]) (rest := []) (c_X12_isLifted l D o q u s (show 0 ≤ s ∧ s ≤ 7 from (by omega)) (show Sh u s from (p0.1 _ (by omega) (by omega)))) mf_X12_isLifted kw_1471 hG hP hP (ci := 8) (q0 := 0) rfl rfl rfl rfl hl.1 ⟨⟨Nat.le_of_ble_eq_true rfl, Nat.le_of_ble_eq_true rfl⟩, Nat.le_of_ble_eq_true rfl, Nat.le_refl _, Nat.le_refl _⟩ rfl dX12_height_22 (fun z_22 h_22 => ?_)
      have h_22 : (z_22 = 1 ∧ 2 < mN u s ∧ mEd u s + mIn u s ≤ 40) ∨ (z_22 = 0 ∧ ¬ (2 < mN u s ∧ mEd u s + mIn u s ≤ 40)) := h_22
      refine j_if_eq SS (tgt := 49) (x := z_22) dX12_height_25 (by decide) (by omega) (fun c_25 => ?_) (fun c_25 => ?_)
      · skip
        refine j_ldc SS (-1000000) kw_1213 dX12_height_49 ?_
        exact W.iret SS.1 SS.2.1 hr (fun t ht hW => ⟨⟨_, (uI u 3 (u.1 3)), rfl, ⟨(-1000000), rfl, (⟨(u.1 3), rfl, ⟨p0, Or.inl ⟨fun q => by have q1 := q.1; have q2 := q.2.1; have q3 := q.2.2; omega, rfl, rfl⟩⟩⟩)⟩, by show va_P D.1 j_cl (mW D o q (uI u 3 (u.1 3))) t.heap; rw [ht]; exact hP⟩, hS.F ht⟩) hS.2.2 dX12_height_51 hlk
      · skip
        refine lv_iload_n SS.1 SS.2.1 dX12_height_28 rfl (lv_at hl 2 rfl) ?_
        refine j_iconst SS dX12_height_29 ?_
        refine lv_aload_n SS.1 SS.2.1 dX12_height_30 rfl (lv_at hl 0 rfl) ?_
        refine lv_iload_n SS.1 SS.2.1 dX12_height_31 rfl (lv_at hl 1 rfl) ?_
        refine j_vRi SS (As := [.int (J s)]) (rest := [.int (J 0), .int (J i)]) (c_X12_edgeOf l D o q u s (show 0 ≤ s ∧ s ≤ 7 from (by omega)) (show Sh u s from (p0.1 _ (by omega) (by omega)))) mf_X12_edgeOf kw_1222 hG hP hP (ci := 8) (q0 := 0) rfl rfl rfl rfl hl.1 ⟨⟨Nat.le_of_ble_eq_true rfl, Nat.le_of_ble_eq_true rfl⟩, Nat.le_of_ble_eq_true rfl, Nat.le_refl _, Nat.le_refl _⟩ rfl dX12_height_32 (fun z_32 h_32 => ?_)
        have h_32 : z_32 = mEd u s ∧ 0 ≤ z_32 ∧ z_32 ≤ 2000 := h_32
        refine lv_aload_n SS.1 SS.2.1 dX12_height_35 rfl (lv_at hl 0 rfl) ?_
        refine lv_iload_n SS.1 SS.2.1 dX12_height_36 rfl (lv_at hl 1 rfl) ?_
        refine j_vRi SS (As := [.int (J s)]) (rest := [.int (J z_32), .int (J 0), .int (J i)]) (c_X12_insideOf l D o q u s (show 0 ≤ s ∧ s ≤ 7 from (by omega)) (show Sh u s from (p0.1 _ (by omega) (by omega)))) mf_X12_insideOf kw_1236 hG hP hP (ci := 8) (q0 := 0) rfl rfl rfl rfl hl.1 ⟨⟨Nat.le_of_ble_eq_true rfl, Nat.le_of_ble_eq_true rfl⟩, Nat.le_of_ble_eq_true rfl, Nat.le_refl _, Nat.le_refl _⟩ rfl dX12_height_37 (fun z_37 h_37 => ?_)
        have h_37 : z_37 = mIn u s ∧ -100000 ≤ z_37 ∧ z_37 ≤ 100000 := h_37
        refine j_iadd SS (x := z_32) (y := z_37) dX12_height_40 ?_
        refine j_iconst SS dX12_height_41 ?_
        refine j_isub SS (x := (z_32 + z_37)) (y := 1) dX12_height_42 ?_
        refine j_sRi SS (As := [.int (J i), .int (J 0), .int (J ((z_32 + z_37) - 1))]) (rest := []) (c_X12_in l D i 0 ((z_32 + z_37) - 1) (show -2147483648 ≤ i ∧ i ≤ 2147483647 from (by omega)) (show -2147483648 ≤ (0 : Int) ∧ (0 : Int) ≤ 2147483647 from (by omega)) (show -2147483648 ≤ ((z_32 + z_37) - 1) ∧ ((z_32 + z_37) - 1) ≤ 2147483647 from (by omega))) mf_X12_in kw_1159 hG trivial rfl hl.1 ⟨⟨Nat.le_of_ble_eq_true rfl, Nat.le_of_ble_eq_true rfl⟩, Nat.le_of_ble_eq_true rfl, Nat.le_refl _, Nat.le_refl _⟩ rfl dX12_height_43 (fun z_43 h_43 => ?_)
        have h_43 : (z_43 = 1 ∧ ((0 : Int) ≤ i ∧ i ≤ ((z_32 + z_37) - 1))) ∨ (z_43 = 0 ∧ ¬ ((0 : Int) ≤ i ∧ i ≤ ((z_32 + z_37) - 1))) := h_43
        refine j_if_ne SS (tgt := 52) (x := z_43) dX12_height_46 (by decide) (by omega) (fun c_46 => ?_) (fun c_46 => ?_)
        · skip
          have hi40 : 0 ≤ i ∧ i < 40 := by omega
          refine lv_aload_n SS.1 SS.2.1 dX12_height_52 rfl (lv_at hl 0 rfl) ?_
          refine j_get SS hG hP 0 (v := .ref (q 3)) (C := RX12) (T := TX12) (N := 31) rfl rfl inX12 3 (by decide) (ref := RX12) kw_1061 rfl rfl dX12_height_53 ?_
          refine j_bipush SS dX12_height_56 (by decide +kernel) ?_
          refine lv_iload_n SS.1 SS.2.1 dX12_height_58 rfl (lv_at hl 1 rfl) ?_
          refine j_imul SS (x := 40) (y := s) dX12_height_59 ?_
          refine lv_iload_n SS.1 SS.2.1 dX12_height_60 rfl (lv_at hl 2 rfl) ?_
          refine j_iadd SS (x := (40 * s)) (y := i) dX12_height_61 ?_
          refine j_iald SS hG hP 4 (n := 320) (f := (u.1 3)) rfl (z := ((40 * s) + i)) (by omega) (by omega) dX12_height_62 ?_
          refine lv_istore (lv' := [(4, .int (J ((u.1 3) (((40 * s) + i)).toNat))), (0, .ref o), (1, .int (J s)), (2, .int (J i)), (3, .int (J v))]) SS.1 SS.2.1 dX12_height_63 hl (by decide) rfl (fun ls hl => ?_)
          refine lv_aload_n SS.1 SS.2.1 dX12_height_65 rfl (lv_at hl 1 rfl) ?_
          refine j_get SS hG hP 0 (v := .ref (q 3)) (C := RX12) (T := TX12) (N := 31) rfl rfl inX12 3 (by decide) (ref := RX12) kw_1061 rfl rfl dX12_height_66 ?_
          refine j_bipush SS dX12_height_69 (by decide +kernel) ?_
          refine lv_iload_n SS.1 SS.2.1 dX12_height_71 rfl (lv_at hl 2 rfl) ?_
          refine j_imul SS (x := 40) (y := s) dX12_height_72 ?_
          refine lv_iload_n SS.1 SS.2.1 dX12_height_73 rfl (lv_at hl 3 rfl) ?_
          refine j_iadd SS (x := (40 * s)) (y := i) dX12_height_74 ?_
          refine lv_iload_n SS.1 SS.2.1 dX12_height_75 rfl (lv_at hl 4 rfl) ?_
          refine j_iast SS hG hP (mW_D hD) hS 4 (n := 320) (f := (u.1 3)) rfl (z := ((40 * s) + i)) (v := v) (by omega) (by omega) dX12_height_76 (ws' := (mW D o q (uI u 3 (upI (u.1 3) (((40 * s) + i)).toNat v)))) rfl (fun H locs hP hS => ?_)
          refine lv_iload SS.1 SS.2.1 dX12_height_77 (lv_at hl 0 rfl) ?_
          exact W.iret SS.1 SS.2.1 hr (fun t ht hW => ⟨⟨_, (uI u 3 (upI (u.1 3) (((40 * s) + i)).toNat v)), rfl, ⟨((u.1 3) (((40 * s) + i)).toNat), rfl, (⟨(upI (u.1 3) (((40 * s) + i)).toNat v), rfl, ⟨⟨p0.1, fun k => by by_cases e : k = ((40 * s) + i).toNat; (rw [e]; show -1000 ≤ upI _ _ _ _ ∧ upI _ _ _ _ ≤ 1000; rw [upI_s]; omega); (show -1000 ≤ upI _ _ _ _ ∧ upI _ _ _ _ ≤ 1000; rw [upI_n e]; exact p0.2.1 k), p0.2.2⟩, Or.inr ⟨⟨by omega, by omega, by omega⟩, rfl, rfl⟩⟩⟩)⟩, by show va_P D.1 j_cl (mW D o q (uI u 3 (upI (u.1 3) (((40 * s) + i)).toNat v))) t.heap; rw [ht]; exact hP⟩, hS.F ht⟩) hS.2.2 dX12_height_79 hlk
        · skip
          refine j_ldc SS (-1000000) kw_1213 dX12_height_49 ?_
          exact W.iret SS.1 SS.2.1 hr (fun t ht hW => ⟨⟨_, (uI u 3 (u.1 3)), rfl, ⟨(-1000000), rfl, (⟨(u.1 3), rfl, ⟨p0, Or.inl ⟨fun q => by have q1 := q.1; have q2 := q.2.1; have q3 := q.2.2; omega, rfl, rfl⟩⟩⟩)⟩, by show va_P D.1 j_cl (mW D o q (uI u 3 (u.1 3))) t.heap; rw [ht]; exact hP⟩, hS.F ht⟩) hS.2.2 dX12_height_51 hlk

