
set_option maxHeartbeats 4000000 in
set_option maxRecDepth 100000 in
theorem c_X12_isMap3 (l : Launch) (D : JD) (o : Nat) (q : Nat → Nat) (u : MS) (s : Int) (s2 : Int) (j : Int) (w : Int) (p0 : 0 ≤ s ∧ s ≤ 7) (p1 : Sh u s) (p2 : 0 ≤ s2 ∧ s2 ≤ 7) (p3 : Sh u s2) (p4 : 2 < mN u s) (p5 : mN u s2 = mN u s) (p6 : 0 ≤ j ∧ j < mN u s) (p7 : w = 1 ∨ w = -1) : Met l yX12_isMap (jw yX12_isMap cX12_isMap 26 (some .boolean)) (jr 1 23) (jP [.ref o, .int (J s), .int (J s2), .int (J j), .int (J w)] D (fun H => va_P D.1 j_cl (mW D o q u) H)) (jRi (fun z => (z = 1 ∧ mAF u s s2 j w) ∨ (z = 0 ∧ ¬ mAF u s s2 j w))) 0 0 (fun _ => False) := by
  refine Met.ofW (cc := cX12_isMap) (maxL := 26) (ret := (some .boolean)) (by decide) rfl ?_
  intro pr en st mi args below meth co s₁ B hml hv
  obtain ⟨rfl, hG, hP⟩ := hv
  have hr := B.returns
  have hlk := B.notSynchronized
  have SS : jS pr mi co cX12_isMap 26 st _ RX12 := ⟨B.exec, B.bytes, hml, findClass_of_methodNamed B.named, fun w hw => atoms_spec (ws := (jw yX12_isMap cX12_isMap 26 (some .boolean))) B.pre w (List.mem_cons_of_mem _ hw)⟩
  have hl := lv_entry ([.ref o, .int (J s), .int (J s2), .int (J j), .int (J w)]) (n := 26) (Nat.le_of_ble_eq_true rfl)
  rw [lg_entry_eq]
  generalize (lg_sl ([.ref o, .int (J s), .int (J s2), .int (J j), .int (J w)]) ++ List.replicate (26 - (lg_sl ([.ref o, .int (J s), .int (J s2), .int (J j), .int (J w)])).length) Slot.unset).toArray = ls at hl ⊢
  have hl : lv_has ls 26 [(0, .ref o), (1, .int (J s)), (2, .int (J s2)), (3, .int (J j)), (4, .int (J w))] := hl
  have hN := p1.1
  have hN2 := p3.1
  have hd0 := Sh_d p1 p4
  refine lv_aload_n SS.1 SS.2.1 dX12_isMap_0 rfl (lv_at hl 0 rfl) ?_
  refine j_get SS hG hP 0 (v := .ref (q 0)) (C := RX12) (T := TX12) (N := 31) rfl rfl inX12 0 (by decide) (ref := RX12) kw_1058 rfl rfl dX12_isMap_1 ?_
  refine lv_iload_n SS.1 SS.2.1 dX12_isMap_4 rfl (lv_at hl 1 rfl) ?_
  refine j_iald SS hG hP 1 (n := 8) (f := (u.1 0)) rfl (z := s) (by omega) (by omega) dX12_isMap_5 ?_
  have hN_5 := (show Sh u s from (by first | exact p1 | exact p3)).1
  refine lv_istore (lv' := [(5, .int (J (mN u s))), (0, .ref o), (1, .int (J s)), (2, .int (J s2)), (3, .int (J j)), (4, .int (J w))]) SS.1 SS.2.1 dX12_isMap_6 hl (by decide) rfl (fun ls hl => ?_)
  refine lv_aload_n SS.1 SS.2.1 dX12_isMap_8 rfl (lv_at hl 1 rfl) ?_
  refine lv_iload_n SS.1 SS.2.1 dX12_isMap_9 rfl (lv_at hl 2 rfl) ?_
  refine j_iconst SS dX12_isMap_10 ?_
  refine j_vRi SS (As := [.int (J s), .int (J 1)]) (rest := []) (c_X12_x l D o q u s 1 (show 0 ≤ s ∧ s ≤ 7 from (by omega)) (show 0 ≤ (1 : Int) ∧ (1 : Int) ≤ 1000000 from (by omega)) (show 0 < mN u s ∧ mN u s ≤ 24 from (by first | omega | (have hq := (show Sh u s from (by first | exact p1 | exact p3)).1; omega)))) mf_X12_x kw_1177 hG hP hP (ci := 8) (q0 := 0) rfl rfl rfl rfl hl.1 ⟨⟨Nat.le_of_ble_eq_true rfl, Nat.le_of_ble_eq_true rfl⟩, Nat.le_of_ble_eq_true rfl, Nat.le_refl _, Nat.le_refl _⟩ rfl dX12_isMap_11 (fun z_11 h_11 => ?_)
  have h_11 : z_11 = mX u s (1 : Int) := h_11
  have hb_11 := (show Sh u s from (by first | exact p1 | exact p3)).2.1 (by omega) (1 : Int) (by omega)
  refine lv_aload_n SS.1 SS.2.1 dX12_isMap_14 rfl (lv_at hl 1 rfl) ?_
  refine lv_iload_n SS.1 SS.2.1 dX12_isMap_15 rfl (lv_at hl 2 rfl) ?_
  refine j_iconst SS dX12_isMap_16 ?_
  refine j_vRi SS (As := [.int (J s), .int (J 0)]) (rest := [.int (J z_11)]) (c_X12_x l D o q u s 0 (show 0 ≤ s ∧ s ≤ 7 from (by omega)) (show 0 ≤ (0 : Int) ∧ (0 : Int) ≤ 1000000 from (by omega)) (show 0 < mN u s ∧ mN u s ≤ 24 from (by first | omega | (have hq := (show Sh u s from (by first | exact p1 | exact p3)).1; omega)))) mf_X12_x kw_1177 hG hP hP (ci := 8) (q0 := 0) rfl rfl rfl rfl hl.1 ⟨⟨Nat.le_of_ble_eq_true rfl, Nat.le_of_ble_eq_true rfl⟩, Nat.le_of_ble_eq_true rfl, Nat.le_refl _, Nat.le_refl _⟩ rfl dX12_isMap_17 (fun z_17 h_17 => ?_)
  have h_17 : z_17 = mX u s (0 : Int) := h_17
  have hb_17 := (show Sh u s from (by first | exact p1 | exact p3)).2.1 (by omega) (0 : Int) (by omega)
  refine j_isub SS (x := z_11) (y := z_17) dX12_isMap_20 ?_
  obtain ⟨ux, eux⟩ : ∃ z : Int, z = (z_11 - z_17) := ⟨_, rfl⟩
  rw [← eux]
  refine lv_istore (lv' := [(6, .int (J ux)), (5, .int (J (mN u s))), (0, .ref o), (1, .int (J s)), (2, .int (J s2)), (3, .int (J j)), (4, .int (J w))]) SS.1 SS.2.1 dX12_isMap_21 hl (by decide) rfl (fun ls hl => ?_)
  have b_ux : -80 ≤ ux ∧ ux ≤ 80 := by omega
  refine lv_aload_n SS.1 SS.2.1 dX12_isMap_23 rfl (lv_at hl 2 rfl) ?_
  refine lv_iload_n SS.1 SS.2.1 dX12_isMap_24 rfl (lv_at hl 3 rfl) ?_
  refine j_iconst SS dX12_isMap_25 ?_
  refine j_vRi SS (As := [.int (J s), .int (J 1)]) (rest := []) (c_X12_y l D o q u s 1 (show 0 ≤ s ∧ s ≤ 7 from (by omega)) (show 0 ≤ (1 : Int) ∧ (1 : Int) ≤ 1000000 from (by omega)) (show 0 < mN u s ∧ mN u s ≤ 24 from (by first | omega | (have hq := (show Sh u s from (by first | exact p1 | exact p3)).1; omega)))) mf_X12_y kw_1181 hG hP hP (ci := 8) (q0 := 0) rfl rfl rfl rfl hl.1 ⟨⟨Nat.le_of_ble_eq_true rfl, Nat.le_of_ble_eq_true rfl⟩, Nat.le_of_ble_eq_true rfl, Nat.le_refl _, Nat.le_refl _⟩ rfl dX12_isMap_26 (fun z_26 h_26 => ?_)
  have h_26 : z_26 = mY u s (1 : Int) := h_26
  have hb_26 := (show Sh u s from (by first | exact p1 | exact p3)).2.1 (by omega) (1 : Int) (by omega)
  refine lv_aload_n SS.1 SS.2.1 dX12_isMap_29 rfl (lv_at hl 2 rfl) ?_
  refine lv_iload_n SS.1 SS.2.1 dX12_isMap_30 rfl (lv_at hl 3 rfl) ?_
  refine j_iconst SS dX12_isMap_31 ?_
  refine j_vRi SS (As := [.int (J s), .int (J 0)]) (rest := [.int (J z_26)]) (c_X12_y l D o q u s 0 (show 0 ≤ s ∧ s ≤ 7 from (by omega)) (show 0 ≤ (0 : Int) ∧ (0 : Int) ≤ 1000000 from (by omega)) (show 0 < mN u s ∧ mN u s ≤ 24 from (by first | omega | (have hq := (show Sh u s from (by first | exact p1 | exact p3)).1; omega)))) mf_X12_y kw_1181 hG hP hP (ci := 8) (q0 := 0) rfl rfl rfl rfl hl.1 ⟨⟨Nat.le_of_ble_eq_true rfl, Nat.le_of_ble_eq_true rfl⟩, Nat.le_of_ble_eq_true rfl, Nat.le_refl _, Nat.le_refl _⟩ rfl dX12_isMap_32 (fun z_32 h_32 => ?_)
  have h_32 : z_32 = mY u s (0 : Int) := h_32
  have hb_32 := (show Sh u s from (by first | exact p1 | exact p3)).2.1 (by omega) (0 : Int) (by omega)
  refine j_isub SS (x := z_26) (y := z_32) dX12_isMap_35 ?_
  obtain ⟨uy, euy⟩ : ∃ z : Int, z = (z_26 - z_32) := ⟨_, rfl⟩
  rw [← euy]
  refine lv_istore (lv' := [(7, .int (J uy)), (6, .int (J ux)), (5, .int (J (mN u s))), (0, .ref o), (1, .int (J s)), (2, .int (J s2)), (3, .int (J j)), (4, .int (J w))]) SS.1 SS.2.1 dX12_isMap_36 hl (by decide) rfl (fun ls hl => ?_)
  have b_uy : -80 ≤ uy ∧ uy ≤ 80 := by omega
  refine lv_aload_n SS.1 SS.2.1 dX12_isMap_38 rfl (lv_at hl 3 rfl) ?_
  refine lv_iload_n SS.1 SS.2.1 dX12_isMap_39 rfl (lv_at hl 4 rfl) ?_
  refine j_iconst SS dX12_isMap_40 ?_
  refine j_vRi SS (As := [.int (J s), .int (J 2)]) (rest := []) (c_X12_x l D o q u s 2 (show 0 ≤ s ∧ s ≤ 7 from (by omega)) (show 0 ≤ (2 : Int) ∧ (2 : Int) ≤ 1000000 from (by omega)) (show 0 < mN u s ∧ mN u s ≤ 24 from (by first | omega | (have hq := (show Sh u s from (by first | exact p1 | exact p3)).1; omega)))) mf_X12_x kw_1177 hG hP hP (ci := 8) (q0 := 0) rfl rfl rfl rfl hl.1 ⟨⟨Nat.le_of_ble_eq_true rfl, Nat.le_of_ble_eq_true rfl⟩, Nat.le_of_ble_eq_true rfl, Nat.le_refl _, Nat.le_refl _⟩ rfl dX12_isMap_41 (fun z_41 h_41 => ?_)
  have h_41 : z_41 = mX u s (2 : Int) := h_41
  have hb_41 := (show Sh u s from (by first | exact p1 | exact p3)).2.1 (by omega) (2 : Int) (by omega)
  refine lv_aload_n SS.1 SS.2.1 dX12_isMap_44 rfl (lv_at hl 3 rfl) ?_
  refine lv_iload_n SS.1 SS.2.1 dX12_isMap_45 rfl (lv_at hl 4 rfl) ?_
  refine j_iconst SS dX12_isMap_46 ?_
  refine j_vRi SS (As := [.int (J s), .int (J 0)]) (rest := [.int (J z_41)]) (c_X12_x l D o q u s 0 (show 0 ≤ s ∧ s ≤ 7 from (by omega)) (show 0 ≤ (0 : Int) ∧ (0 : Int) ≤ 1000000 from (by omega)) (show 0 < mN u s ∧ mN u s ≤ 24 from (by first | omega | (have hq := (show Sh u s from (by first | exact p1 | exact p3)).1; omega)))) mf_X12_x kw_1177 hG hP hP (ci := 8) (q0 := 0) rfl rfl rfl rfl hl.1 ⟨⟨Nat.le_of_ble_eq_true rfl, Nat.le_of_ble_eq_true rfl⟩, Nat.le_of_ble_eq_true rfl, Nat.le_refl _, Nat.le_refl _⟩ rfl dX12_isMap_47 (fun z_47 h_47 => ?_)
  have h_47 : z_47 = mX u s (0 : Int) := h_47
  have hb_47 := (show Sh u s from (by first | exact p1 | exact p3)).2.1 (by omega) (0 : Int) (by omega)
  refine j_isub SS (x := z_41) (y := z_47) dX12_isMap_50 ?_
  obtain ⟨vx, evx⟩ : ∃ z : Int, z = (z_41 - z_47) := ⟨_, rfl⟩
  rw [← evx]
  refine lv_istore (lv' := [(8, .int (J vx)), (7, .int (J uy)), (6, .int (J ux)), (5, .int (J (mN u s))), (0, .ref o), (1, .int (J s)), (2, .int (J s2)), (3, .int (J j)), (4, .int (J w))]) SS.1 SS.2.1 dX12_isMap_51 hl (by decide) rfl (fun ls hl => ?_)
  have b_vx : -80 ≤ vx ∧ vx ≤ 80 := by omega
  refine lv_aload_n SS.1 SS.2.1 dX12_isMap_53 rfl (lv_at hl 4 rfl) ?_
  refine lv_iload_n SS.1 SS.2.1 dX12_isMap_54 rfl (lv_at hl 5 rfl) ?_
  refine j_iconst SS dX12_isMap_55 ?_
  refine j_vRi SS (As := [.int (J s), .int (J 2)]) (rest := []) (c_X12_y l D o q u s 2 (show 0 ≤ s ∧ s ≤ 7 from (by omega)) (show 0 ≤ (2 : Int) ∧ (2 : Int) ≤ 1000000 from (by omega)) (show 0 < mN u s ∧ mN u s ≤ 24 from (by first | omega | (have hq := (show Sh u s from (by first | exact p1 | exact p3)).1; omega)))) mf_X12_y kw_1181 hG hP hP (ci := 8) (q0 := 0) rfl rfl rfl rfl hl.1 ⟨⟨Nat.le_of_ble_eq_true rfl, Nat.le_of_ble_eq_true rfl⟩, Nat.le_of_ble_eq_true rfl, Nat.le_refl _, Nat.le_refl _⟩ rfl dX12_isMap_56 (fun z_56 h_56 => ?_)
  have h_56 : z_56 = mY u s (2 : Int) := h_56
  have hb_56 := (show Sh u s from (by first | exact p1 | exact p3)).2.1 (by omega) (2 : Int) (by omega)
  refine lv_aload_n SS.1 SS.2.1 dX12_isMap_59 rfl (lv_at hl 4 rfl) ?_
  refine lv_iload_n SS.1 SS.2.1 dX12_isMap_60 rfl (lv_at hl 5 rfl) ?_
  refine j_iconst SS dX12_isMap_61 ?_
  refine j_vRi SS (As := [.int (J s), .int (J 0)]) (rest := [.int (J z_56)]) (c_X12_y l D o q u s 0 (show 0 ≤ s ∧ s ≤ 7 from (by omega)) (show 0 ≤ (0 : Int) ∧ (0 : Int) ≤ 1000000 from (by omega)) (show 0 < mN u s ∧ mN u s ≤ 24 from (by first | omega | (have hq := (show Sh u s from (by first | exact p1 | exact p3)).1; omega)))) mf_X12_y kw_1181 hG hP hP (ci := 8) (q0 := 0) rfl rfl rfl rfl hl.1 ⟨⟨Nat.le_of_ble_eq_true rfl, Nat.le_of_ble_eq_true rfl⟩, Nat.le_of_ble_eq_true rfl, Nat.le_refl _, Nat.le_refl _⟩ rfl dX12_isMap_62 (fun z_62 h_62 => ?_)
  have h_62 : z_62 = mY u s (0 : Int) := h_62
  have hb_62 := (show Sh u s from (by first | exact p1 | exact p3)).2.1 (by omega) (0 : Int) (by omega)
  refine j_isub SS (x := z_56) (y := z_62) dX12_isMap_65 ?_
  obtain ⟨vy, evy⟩ : ∃ z : Int, z = (z_56 - z_62) := ⟨_, rfl⟩
  rw [← evy]
  refine lv_istore (lv' := [(9, .int (J vy)), (8, .int (J vx)), (7, .int (J uy)), (6, .int (J ux)), (5, .int (J (mN u s))), (0, .ref o), (1, .int (J s)), (2, .int (J s2)), (3, .int (J j)), (4, .int (J w))]) SS.1 SS.2.1 dX12_isMap_66 hl (by decide) rfl (fun ls hl => ?_)
  have b_vy : -80 ≤ vy ∧ vy ≤ 80 := by omega
  refine lv_iload_n SS.1 SS.2.1 dX12_isMap_68 rfl (lv_at hl 8 rfl) ?_
  refine lv_iload SS.1 SS.2.1 dX12_isMap_69 (lv_at hl 9 rfl) ?_
  refine j_iadd SS (x := j) (y := w) dX12_isMap_71 ?_
  refine lv_iload SS.1 SS.2.1 dX12_isMap_72 (lv_at hl 4 rfl) ?_
  refine j_iadd SS (x := (j + w)) (y := (mN u s)) dX12_isMap_74 ?_
  refine lv_iload SS.1 SS.2.1 dX12_isMap_75 (lv_at hl 4 rfl) ?_
  have t1 := tm_b (i := j + w + mN u s) (n := mN u s) (by omega) (by omega)
  refine j_irem SS (x := ((j + w) + (mN u s))) (y := (mN u s)) dX12_isMap_77 (by omega) (by omega) (by omega) ?_
  obtain ⟨one, eone⟩ : ∃ z : Int, z = (Int.tmod ((j + w) + (mN u s)) (mN u s)) := ⟨_, rfl⟩
  rw [← eone]
  refine lv_istore (lv' := [(10, .int (J one)), (9, .int (J vy)), (8, .int (J vx)), (7, .int (J uy)), (6, .int (J ux)), (5, .int (J (mN u s))), (0, .ref o), (1, .int (J s)), (2, .int (J s2)), (3, .int (J j)), (4, .int (J w))]) SS.1 SS.2.1 dX12_isMap_78 hl (by decide) rfl (fun ls hl => ?_)
  refine lv_iload_n SS.1 SS.2.1 dX12_isMap_80 rfl (lv_at hl 9 rfl) ?_
  refine j_iconst SS dX12_isMap_81 ?_
  refine lv_iload SS.1 SS.2.1 dX12_isMap_82 (lv_at hl 10 rfl) ?_
  refine j_imul SS (x := 2) (y := w) dX12_isMap_84 ?_
  refine j_iadd SS (x := j) (y := (2 * w)) dX12_isMap_85 ?_
  refine j_iconst SS dX12_isMap_86 ?_
  refine lv_iload SS.1 SS.2.1 dX12_isMap_87 (lv_at hl 5 rfl) ?_
  refine j_imul SS (x := 2) (y := (mN u s)) dX12_isMap_89 ?_
  refine j_iadd SS (x := (j + (2 * w))) (y := (2 * (mN u s))) dX12_isMap_90 ?_
  refine lv_iload SS.1 SS.2.1 dX12_isMap_91 (lv_at hl 5 rfl) ?_
  have t2 := tm_b (i := j + 2 * w + 2 * mN u s) (n := mN u s) (by omega) (by omega)
  refine j_irem SS (x := ((j + (2 * w)) + (2 * (mN u s)))) (y := (mN u s)) dX12_isMap_93 (by omega) (by omega) (by omega) ?_
  obtain ⟨two, etwo⟩ : ∃ z : Int, z = (Int.tmod ((j + (2 * w)) + (2 * (mN u s))) (mN u s)) := ⟨_, rfl⟩
  rw [← etwo]
  refine lv_istore (lv' := [(11, .int (J two)), (10, .int (J one)), (9, .int (J vy)), (8, .int (J vx)), (7, .int (J uy)), (6, .int (J ux)), (5, .int (J (mN u s))), (0, .ref o), (1, .int (J s)), (2, .int (J s2)), (3, .int (J j)), (4, .int (J w))]) SS.1 SS.2.1 dX12_isMap_94 hl (by decide) rfl (fun ls hl => ?_)
  refine lv_aload_n SS.1 SS.2.1 dX12_isMap_96 rfl (lv_at hl 7 rfl) ?_
  refine lv_iload_n SS.1 SS.2.1 dX12_isMap_97 rfl (lv_at hl 9 rfl) ?_
  refine lv_iload SS.1 SS.2.1 dX12_isMap_98 (lv_at hl 1 rfl) ?_
  refine j_vRi SS (As := [.int (J s2), .int (J one)]) (rest := []) (c_X12_x l D o q u s2 one (show 0 ≤ s2 ∧ s2 ≤ 7 from (by omega)) (show 0 ≤ one ∧ one ≤ 1000000 from (by omega)) (show 0 < mN u s2 ∧ mN u s2 ≤ 24 from (by first | omega | (have hq := (show Sh u s2 from (by first | exact p1 | exact p3)).1; omega)))) mf_X12_x kw_1177 hG hP hP (ci := 8) (q0 := 0) rfl rfl rfl rfl hl.1 ⟨⟨Nat.le_of_ble_eq_true rfl, Nat.le_of_ble_eq_true rfl⟩, Nat.le_of_ble_eq_true rfl, Nat.le_refl _, Nat.le_refl _⟩ rfl dX12_isMap_100 (fun z_100 h_100 => ?_)
  have h_100 : z_100 = mX u s2 one := h_100
  have hb_100 := (show Sh u s2 from (by first | exact p1 | exact p3)).2.1 (by omega) one (by omega)
  refine lv_aload_n SS.1 SS.2.1 dX12_isMap_103 rfl (lv_at hl 7 rfl) ?_
  refine lv_iload_n SS.1 SS.2.1 dX12_isMap_104 rfl (lv_at hl 9 rfl) ?_
  refine lv_iload_n SS.1 SS.2.1 dX12_isMap_105 rfl (lv_at hl 10 rfl) ?_
  refine j_vRi SS (As := [.int (J s2), .int (J j)]) (rest := [.int (J z_100)]) (c_X12_x l D o q u s2 j (show 0 ≤ s2 ∧ s2 ≤ 7 from (by omega)) (show 0 ≤ j ∧ j ≤ 1000000 from (by omega)) (show 0 < mN u s2 ∧ mN u s2 ≤ 24 from (by first | omega | (have hq := (show Sh u s2 from (by first | exact p1 | exact p3)).1; omega)))) mf_X12_x kw_1177 hG hP hP (ci := 8) (q0 := 0) rfl rfl rfl rfl hl.1 ⟨⟨Nat.le_of_ble_eq_true rfl, Nat.le_of_ble_eq_true rfl⟩, Nat.le_of_ble_eq_true rfl, Nat.le_refl _, Nat.le_refl _⟩ rfl dX12_isMap_106 (fun z_106 h_106 => ?_)
  have h_106 : z_106 = mX u s2 j := h_106
  have hb_106 := (show Sh u s2 from (by first | exact p1 | exact p3)).2.1 (by omega) j (by omega)
  refine j_isub SS (x := z_100) (y := z_106) dX12_isMap_109 ?_
  obtain ⟨px, epx⟩ : ∃ z : Int, z = (z_100 - z_106) := ⟨_, rfl⟩
  rw [← epx]
  refine lv_istore (lv' := [(12, .int (J px)), (11, .int (J two)), (10, .int (J one)), (9, .int (J vy)), (8, .int (J vx)), (7, .int (J uy)), (6, .int (J ux)), (5, .int (J (mN u s))), (0, .ref o), (1, .int (J s)), (2, .int (J s2)), (3, .int (J j)), (4, .int (J w))]) SS.1 SS.2.1 dX12_isMap_110 hl (by decide) rfl (fun ls hl => ?_)
  have b_px : -80 ≤ px ∧ px ≤ 80 := by omega
  refine lv_aload_n SS.1 SS.2.1 dX12_isMap_112 rfl (lv_at hl 8 rfl) ?_
  refine lv_iload_n SS.1 SS.2.1 dX12_isMap_113 rfl (lv_at hl 10 rfl) ?_
  refine lv_iload SS.1 SS.2.1 dX12_isMap_114 (lv_at hl 2 rfl) ?_
  refine j_vRi SS (As := [.int (J s2), .int (J one)]) (rest := []) (c_X12_y l D o q u s2 one (show 0 ≤ s2 ∧ s2 ≤ 7 from (by omega)) (show 0 ≤ one ∧ one ≤ 1000000 from (by omega)) (show 0 < mN u s2 ∧ mN u s2 ≤ 24 from (by first | omega | (have hq := (show Sh u s2 from (by first | exact p1 | exact p3)).1; omega)))) mf_X12_y kw_1181 hG hP hP (ci := 8) (q0 := 0) rfl rfl rfl rfl hl.1 ⟨⟨Nat.le_of_ble_eq_true rfl, Nat.le_of_ble_eq_true rfl⟩, Nat.le_of_ble_eq_true rfl, Nat.le_refl _, Nat.le_refl _⟩ rfl dX12_isMap_116 (fun z_116 h_116 => ?_)
  have h_116 : z_116 = mY u s2 one := h_116
  have hb_116 := (show Sh u s2 from (by first | exact p1 | exact p3)).2.1 (by omega) one (by omega)
  refine lv_aload_n SS.1 SS.2.1 dX12_isMap_119 rfl (lv_at hl 8 rfl) ?_
  refine lv_iload_n SS.1 SS.2.1 dX12_isMap_120 rfl (lv_at hl 10 rfl) ?_
  refine lv_iload_n SS.1 SS.2.1 dX12_isMap_121 rfl (lv_at hl 11 rfl) ?_
  refine j_vRi SS (As := [.int (J s2), .int (J j)]) (rest := [.int (J z_116)]) (c_X12_y l D o q u s2 j (show 0 ≤ s2 ∧ s2 ≤ 7 from (by omega)) (show 0 ≤ j ∧ j ≤ 1000000 from (by omega)) (show 0 < mN u s2 ∧ mN u s2 ≤ 24 from (by first | omega | (have hq := (show Sh u s2 from (by first | exact p1 | exact p3)).1; omega)))) mf_X12_y kw_1181 hG hP hP (ci := 8) (q0 := 0) rfl rfl rfl rfl hl.1 ⟨⟨Nat.le_of_ble_eq_true rfl, Nat.le_of_ble_eq_true rfl⟩, Nat.le_of_ble_eq_true rfl, Nat.le_refl _, Nat.le_refl _⟩ rfl dX12_isMap_122 (fun z_122 h_122 => ?_)
  have h_122 : z_122 = mY u s2 j := h_122
  have hb_122 := (show Sh u s2 from (by first | exact p1 | exact p3)).2.1 (by omega) j (by omega)
  refine j_isub SS (x := z_116) (y := z_122) dX12_isMap_125 ?_
  obtain ⟨py, epy⟩ : ∃ z : Int, z = (z_116 - z_122) := ⟨_, rfl⟩
  rw [← epy]
  refine lv_istore (lv' := [(13, .int (J py)), (12, .int (J px)), (11, .int (J two)), (10, .int (J one)), (9, .int (J vy)), (8, .int (J vx)), (7, .int (J uy)), (6, .int (J ux)), (5, .int (J (mN u s))), (0, .ref o), (1, .int (J s)), (2, .int (J s2)), (3, .int (J j)), (4, .int (J w))]) SS.1 SS.2.1 dX12_isMap_126 hl (by decide) rfl (fun ls hl => ?_)
  have b_py : -80 ≤ py ∧ py ≤ 80 := by omega
  refine lv_aload_n SS.1 SS.2.1 dX12_isMap_128 rfl (lv_at hl 9 rfl) ?_
  refine lv_iload_n SS.1 SS.2.1 dX12_isMap_129 rfl (lv_at hl 11 rfl) ?_
  refine lv_iload SS.1 SS.2.1 dX12_isMap_130 (lv_at hl 2 rfl) ?_
  refine j_vRi SS (As := [.int (J s2), .int (J two)]) (rest := []) (c_X12_x l D o q u s2 two (show 0 ≤ s2 ∧ s2 ≤ 7 from (by omega)) (show 0 ≤ two ∧ two ≤ 1000000 from (by omega)) (show 0 < mN u s2 ∧ mN u s2 ≤ 24 from (by first | omega | (have hq := (show Sh u s2 from (by first | exact p1 | exact p3)).1; omega)))) mf_X12_x kw_1177 hG hP hP (ci := 8) (q0 := 0) rfl rfl rfl rfl hl.1 ⟨⟨Nat.le_of_ble_eq_true rfl, Nat.le_of_ble_eq_true rfl⟩, Nat.le_of_ble_eq_true rfl, Nat.le_refl _, Nat.le_refl _⟩ rfl dX12_isMap_132 (fun z_132 h_132 => ?_)
  have h_132 : z_132 = mX u s2 two := h_132
  have hb_132 := (show Sh u s2 from (by first | exact p1 | exact p3)).2.1 (by omega) two (by omega)
  refine lv_aload_n SS.1 SS.2.1 dX12_isMap_135 rfl (lv_at hl 9 rfl) ?_
  refine lv_iload_n SS.1 SS.2.1 dX12_isMap_136 rfl (lv_at hl 11 rfl) ?_
  refine lv_iload_n SS.1 SS.2.1 dX12_isMap_137 rfl (lv_at hl 12 rfl) ?_
  refine j_vRi SS (As := [.int (J s2), .int (J j)]) (rest := [.int (J z_132)]) (c_X12_x l D o q u s2 j (show 0 ≤ s2 ∧ s2 ≤ 7 from (by omega)) (show 0 ≤ j ∧ j ≤ 1000000 from (by omega)) (show 0 < mN u s2 ∧ mN u s2 ≤ 24 from (by first | omega | (have hq := (show Sh u s2 from (by first | exact p1 | exact p3)).1; omega)))) mf_X12_x kw_1177 hG hP hP (ci := 8) (q0 := 0) rfl rfl rfl rfl hl.1 ⟨⟨Nat.le_of_ble_eq_true rfl, Nat.le_of_ble_eq_true rfl⟩, Nat.le_of_ble_eq_true rfl, Nat.le_refl _, Nat.le_refl _⟩ rfl dX12_isMap_138 (fun z_138 h_138 => ?_)
  have h_138 : z_138 = mX u s2 j := h_138
  have hb_138 := (show Sh u s2 from (by first | exact p1 | exact p3)).2.1 (by omega) j (by omega)
  refine j_isub SS (x := z_132) (y := z_138) dX12_isMap_141 ?_
  obtain ⟨qx, eqx⟩ : ∃ z : Int, z = (z_132 - z_138) := ⟨_, rfl⟩
  rw [← eqx]
  refine lv_istore (lv' := [(14, .int (J qx)), (13, .int (J py)), (12, .int (J px)), (11, .int (J two)), (10, .int (J one)), (9, .int (J vy)), (8, .int (J vx)), (7, .int (J uy)), (6, .int (J ux)), (5, .int (J (mN u s))), (0, .ref o), (1, .int (J s)), (2, .int (J s2)), (3, .int (J j)), (4, .int (J w))]) SS.1 SS.2.1 dX12_isMap_142 hl (by decide) rfl (fun ls hl => ?_)
  have b_qx : -80 ≤ qx ∧ qx ≤ 80 := by omega
  refine lv_aload_n SS.1 SS.2.1 dX12_isMap_144 rfl (lv_at hl 10 rfl) ?_
  refine lv_iload_n SS.1 SS.2.1 dX12_isMap_145 rfl (lv_at hl 12 rfl) ?_
  refine lv_iload SS.1 SS.2.1 dX12_isMap_146 (lv_at hl 3 rfl) ?_
  refine j_vRi SS (As := [.int (J s2), .int (J two)]) (rest := []) (c_X12_y l D o q u s2 two (show 0 ≤ s2 ∧ s2 ≤ 7 from (by omega)) (show 0 ≤ two ∧ two ≤ 1000000 from (by omega)) (show 0 < mN u s2 ∧ mN u s2 ≤ 24 from (by first | omega | (have hq := (show Sh u s2 from (by first | exact p1 | exact p3)).1; omega)))) mf_X12_y kw_1181 hG hP hP (ci := 8) (q0 := 0) rfl rfl rfl rfl hl.1 ⟨⟨Nat.le_of_ble_eq_true rfl, Nat.le_of_ble_eq_true rfl⟩, Nat.le_of_ble_eq_true rfl, Nat.le_refl _, Nat.le_refl _⟩ rfl dX12_isMap_148 (fun z_148 h_148 => ?_)
  have h_148 : z_148 = mY u s2 two := h_148
  have hb_148 := (show Sh u s2 from (by first | exact p1 | exact p3)).2.1 (by omega) two (by omega)
  refine lv_aload_n SS.1 SS.2.1 dX12_isMap_151 rfl (lv_at hl 10 rfl) ?_
  refine lv_iload_n SS.1 SS.2.1 dX12_isMap_152 rfl (lv_at hl 12 rfl) ?_
  refine lv_iload_n SS.1 SS.2.1 dX12_isMap_153 rfl (lv_at hl 13 rfl) ?_
  refine j_vRi SS (As := [.int (J s2), .int (J j)]) (rest := [.int (J z_148)]) (c_X12_y l D o q u s2 j (show 0 ≤ s2 ∧ s2 ≤ 7 from (by omega)) (show 0 ≤ j ∧ j ≤ 1000000 from (by omega)) (show 0 < mN u s2 ∧ mN u s2 ≤ 24 from (by first | omega | (have hq := (show Sh u s2 from (by first | exact p1 | exact p3)).1; omega)))) mf_X12_y kw_1181 hG hP hP (ci := 8) (q0 := 0) rfl rfl rfl rfl hl.1 ⟨⟨Nat.le_of_ble_eq_true rfl, Nat.le_of_ble_eq_true rfl⟩, Nat.le_of_ble_eq_true rfl, Nat.le_refl _, Nat.le_refl _⟩ rfl dX12_isMap_154 (fun z_154 h_154 => ?_)
  have h_154 : z_154 = mY u s2 j := h_154
  have hb_154 := (show Sh u s2 from (by first | exact p1 | exact p3)).2.1 (by omega) j (by omega)
  refine j_isub SS (x := z_148) (y := z_154) dX12_isMap_157 ?_
  obtain ⟨qy, eqy⟩ : ∃ z : Int, z = (z_148 - z_154) := ⟨_, rfl⟩
  rw [← eqy]
  refine lv_istore (lv' := [(15, .int (J qy)), (14, .int (J qx)), (13, .int (J py)), (12, .int (J px)), (11, .int (J two)), (10, .int (J one)), (9, .int (J vy)), (8, .int (J vx)), (7, .int (J uy)), (6, .int (J ux)), (5, .int (J (mN u s))), (0, .ref o), (1, .int (J s)), (2, .int (J s2)), (3, .int (J j)), (4, .int (J w))]) SS.1 SS.2.1 dX12_isMap_158 hl (by decide) rfl (fun ls hl => ?_)
  have b_qy : -80 ≤ qy ∧ qy ≤ 80 := by omega
  have hFM : FM u s s2 j w ux uy vx vy px py qx qy := ⟨⟨by rw [eux, h_11, h_17], by rw [euy, h_26, h_32]⟩, ⟨by rw [evx, h_41, h_47], by rw [evy, h_56, h_62]⟩, ⟨by rw [epx, h_100, h_106, eone, tmn (by omega) (by omega)], by rw [epy, h_116, h_122, eone, tmn (by omega) (by omega)]⟩, ⟨by rw [eqx, h_132, h_138, etwo, tmn2 (by omega) (by omega)], by rw [eqy, h_148, h_154, etwo, tmn2 (by omega) (by omega)]⟩⟩
  refine lv_iload SS.1 SS.2.1 dX12_isMap_160 (lv_at hl 9 rfl) ?_
  refine lv_iload SS.1 SS.2.1 dX12_isMap_162 (lv_at hl 8 rfl) ?_
  refine lv_iload SS.1 SS.2.1 dX12_isMap_164 (lv_at hl 7 rfl) ?_
  refine lv_iload SS.1 SS.2.1 dX12_isMap_166 (lv_at hl 6 rfl) ?_
  refine j_sRi SS (As := [.int (J ux), .int (J uy), .int (J vx), .int (J vy)]) (rest := []) (c_X12_cross l D ux uy vx vy ) mf_X12_cross kw_1259 hG trivial rfl hl.1 ⟨⟨Nat.le_of_ble_eq_true rfl, Nat.le_of_ble_eq_true rfl⟩, Nat.le_of_ble_eq_true rfl, Nat.le_refl _, Nat.le_refl _⟩ rfl dX12_isMap_168 (fun z_168 h_168 => ?_)
  have h_168 : z_168 = ux * vy - uy * vx := h_168
  refine lv_istore (lv' := [(16, .int (J z_168)), (15, .int (J qy)), (14, .int (J qx)), (13, .int (J py)), (12, .int (J px)), (11, .int (J two)), (10, .int (J one)), (9, .int (J vy)), (8, .int (J vx)), (7, .int (J uy)), (6, .int (J ux)), (5, .int (J (mN u s))), (0, .ref o), (1, .int (J s)), (2, .int (J s2)), (3, .int (J j)), (4, .int (J w))]) SS.1 SS.2.1 dX12_isMap_171 hl (by decide) rfl (fun ls hl => ?_)
  have hd : 0 < z_168 := by rw [h_168, eux, euy, evx, evy, h_11, h_17, h_26, h_32, h_41, h_47, h_56, h_62]; exact hd0
  have hdu : z_168 ≤ 12800 := by have g1 := mulb (A := 80) (B := 80) b_ux b_vy; have g2 := mulb (A := 80) (B := 80) b_uy b_vx; omega
  refine lv_iload SS.1 SS.2.1 dX12_isMap_173 (lv_at hl 4 rfl) ?_
  refine lv_iload SS.1 SS.2.1 dX12_isMap_175 (lv_at hl 7 rfl) ?_
  refine j_imul SS (x := px) (y := vy) dX12_isMap_177 ?_
  refine lv_iload SS.1 SS.2.1 dX12_isMap_178 (lv_at hl 2 rfl) ?_
  refine lv_iload SS.1 SS.2.1 dX12_isMap_180 (lv_at hl 9 rfl) ?_
  refine j_imul SS (x := qx) (y := uy) dX12_isMap_182 ?_
  refine j_isub SS (x := (px * vy)) (y := (qx * uy)) dX12_isMap_183 ?_
  obtain ⟨va, eva⟩ : ∃ z : Int, z = ((px * vy) - (qx * uy)) := ⟨_, rfl⟩
  rw [← eva]
  refine lv_istore (lv' := [(17, .int (J va)), (16, .int (J z_168)), (15, .int (J qy)), (14, .int (J qx)), (13, .int (J py)), (12, .int (J px)), (11, .int (J two)), (10, .int (J one)), (9, .int (J vy)), (8, .int (J vx)), (7, .int (J uy)), (6, .int (J ux)), (5, .int (J (mN u s))), (0, .ref o), (1, .int (J s)), (2, .int (J s2)), (3, .int (J j)), (4, .int (J w))]) SS.1 SS.2.1 dX12_isMap_184 hl (by decide) rfl (fun ls hl => ?_)
  have g1 := mulb (A := 80) (B := 80) b_px b_vy
  have g2 := mulb (A := 80) (B := 80) b_qx b_uy
  have b_va : -12800 ≤ va ∧ va ≤ 12800 := by omega
  refine lv_iload SS.1 SS.2.1 dX12_isMap_186 (lv_at hl 3 rfl) ?_
  refine lv_iload SS.1 SS.2.1 dX12_isMap_188 (lv_at hl 11 rfl) ?_
  refine j_imul SS (x := qx) (y := ux) dX12_isMap_190 ?_
  refine lv_iload SS.1 SS.2.1 dX12_isMap_191 (lv_at hl 5 rfl) ?_
  refine lv_iload SS.1 SS.2.1 dX12_isMap_193 (lv_at hl 9 rfl) ?_
  refine j_imul SS (x := px) (y := vx) dX12_isMap_195 ?_
  refine j_isub SS (x := (qx * ux)) (y := (px * vx)) dX12_isMap_196 ?_
  obtain ⟨vb, evb⟩ : ∃ z : Int, z = ((qx * ux) - (px * vx)) := ⟨_, rfl⟩
  rw [← evb]
  refine lv_istore (lv' := [(18, .int (J vb)), (17, .int (J va)), (16, .int (J z_168)), (15, .int (J qy)), (14, .int (J qx)), (13, .int (J py)), (12, .int (J px)), (11, .int (J two)), (10, .int (J one)), (9, .int (J vy)), (8, .int (J vx)), (7, .int (J uy)), (6, .int (J ux)), (5, .int (J (mN u s))), (0, .ref o), (1, .int (J s)), (2, .int (J s2)), (3, .int (J j)), (4, .int (J w))]) SS.1 SS.2.1 dX12_isMap_197 hl (by decide) rfl (fun ls hl => ?_)
  have g3 := mulb (A := 80) (B := 80) b_qx b_ux
  have g4 := mulb (A := 80) (B := 80) b_px b_vx
  have b_vb : -12800 ≤ vb ∧ vb ≤ 12800 := by omega
  refine lv_iload SS.1 SS.2.1 dX12_isMap_199 (lv_at hl 5 rfl) ?_
  refine lv_iload SS.1 SS.2.1 dX12_isMap_201 (lv_at hl 9 rfl) ?_
  refine j_imul SS (x := py) (y := vy) dX12_isMap_203 ?_
  refine lv_iload SS.1 SS.2.1 dX12_isMap_204 (lv_at hl 3 rfl) ?_
  refine lv_iload SS.1 SS.2.1 dX12_isMap_206 (lv_at hl 11 rfl) ?_
  refine j_imul SS (x := qy) (y := uy) dX12_isMap_208 ?_
  refine j_isub SS (x := (py * vy)) (y := (qy * uy)) dX12_isMap_209 ?_
  obtain ⟨vc, evc⟩ : ∃ z : Int, z = ((py * vy) - (qy * uy)) := ⟨_, rfl⟩
  rw [← evc]
  refine lv_istore (lv' := [(19, .int (J vc)), (18, .int (J vb)), (17, .int (J va)), (16, .int (J z_168)), (15, .int (J qy)), (14, .int (J qx)), (13, .int (J py)), (12, .int (J px)), (11, .int (J two)), (10, .int (J one)), (9, .int (J vy)), (8, .int (J vx)), (7, .int (J uy)), (6, .int (J ux)), (5, .int (J (mN u s))), (0, .ref o), (1, .int (J s)), (2, .int (J s2)), (3, .int (J j)), (4, .int (J w))]) SS.1 SS.2.1 dX12_isMap_210 hl (by decide) rfl (fun ls hl => ?_)
  have g5 := mulb (A := 80) (B := 80) b_py b_vy
  have g6 := mulb (A := 80) (B := 80) b_qy b_uy
  have b_vc : -12800 ≤ vc ∧ vc ≤ 12800 := by omega
  refine lv_iload SS.1 SS.2.1 dX12_isMap_212 (lv_at hl 4 rfl) ?_
  refine lv_iload SS.1 SS.2.1 dX12_isMap_214 (lv_at hl 13 rfl) ?_
  refine j_imul SS (x := qy) (y := ux) dX12_isMap_216 ?_
  refine lv_iload SS.1 SS.2.1 dX12_isMap_217 (lv_at hl 6 rfl) ?_
  refine lv_iload SS.1 SS.2.1 dX12_isMap_219 (lv_at hl 11 rfl) ?_
  refine j_imul SS (x := py) (y := vx) dX12_isMap_221 ?_
  refine j_isub SS (x := (qy * ux)) (y := (py * vx)) dX12_isMap_222 ?_
  obtain ⟨ve, eve⟩ : ∃ z : Int, z = ((qy * ux) - (py * vx)) := ⟨_, rfl⟩
  rw [← eve]
  refine lv_istore (lv' := [(20, .int (J ve)), (19, .int (J vc)), (18, .int (J vb)), (17, .int (J va)), (16, .int (J z_168)), (15, .int (J qy)), (14, .int (J qx)), (13, .int (J py)), (12, .int (J px)), (11, .int (J two)), (10, .int (J one)), (9, .int (J vy)), (8, .int (J vx)), (7, .int (J uy)), (6, .int (J ux)), (5, .int (J (mN u s))), (0, .ref o), (1, .int (J s)), (2, .int (J s2)), (3, .int (J j)), (4, .int (J w))]) SS.1 SS.2.1 dX12_isMap_223 hl (by decide) rfl (fun ls hl => ?_)
  have g7 := mulb (A := 80) (B := 80) b_qy b_ux
  have g8 := mulb (A := 80) (B := 80) b_py b_vx
  have b_ve : -12800 ≤ ve ∧ ve ≤ 12800 := by omega
  have rva := tm_c (a := va) (n := z_168) hd
  have rvb := tm_c (a := vb) (n := z_168) hd
  have rvc := tm_c (a := vc) (n := z_168) hd
  have rve := tm_c (a := ve) (n := z_168) hd
  refine lv_iload SS.1 SS.2.1 dX12_isMap_225 (lv_at hl 3 rfl) ?_
  refine lv_iload SS.1 SS.2.1 dX12_isMap_227 (lv_at hl 4 rfl) ?_
  refine j_irem SS (x := va) (y := z_168) dX12_isMap_229 (by omega) (by omega) (by omega) ?_
  refine j_if_ne SS (tgt := 257) (x := (Int.tmod va z_168)) dX12_isMap_230 (by decide) (by omega) (fun c_230 => ?_) (fun c_230 => ?_)
  · skip
    refine j_iconst SS dX12_isMap_257 ?_
    exact W.zret SS.1 SS.2.1 hr (j_nz (by decide)) (fun t ht hW => ⟨_, rfl, ⟨0, rfl, (Or.inr ⟨rfl, fun ⟨a, b, c, e, hu, hA⟩ => by obtain ⟨⟨g3, g4⟩, g5, g6⟩ := FM_d hFM p4 h_168 hA; have k1 := mat_t (show z_168 ≠ 0 by omega) (eva.trans g3); have k2 := mat_t (show z_168 ≠ 0 by omega) (evb.trans g4); have k3 := mat_t (show z_168 ≠ 0 by omega) (evc.trans g5); have k4 := mat_t (show z_168 ≠ 0 by omega) (eve.trans g6); omega⟩)⟩, ht⟩) (fun _ h => nomatch h) dX12_isMap_258 hlk
  · skip
    refine lv_iload SS.1 SS.2.1 dX12_isMap_233 (lv_at hl 2 rfl) ?_
    refine lv_iload SS.1 SS.2.1 dX12_isMap_235 (lv_at hl 4 rfl) ?_
    refine j_irem SS (x := vb) (y := z_168) dX12_isMap_237 (by omega) (by omega) (by omega) ?_
    refine j_if_ne SS (tgt := 257) (x := (Int.tmod vb z_168)) dX12_isMap_238 (by decide) (by omega) (fun c_238 => ?_) (fun c_238 => ?_)
    · skip
      refine j_iconst SS dX12_isMap_257 ?_
      exact W.zret SS.1 SS.2.1 hr (j_nz (by decide)) (fun t ht hW => ⟨_, rfl, ⟨0, rfl, (Or.inr ⟨rfl, fun ⟨a, b, c, e, hu, hA⟩ => by obtain ⟨⟨g3, g4⟩, g5, g6⟩ := FM_d hFM p4 h_168 hA; have k1 := mat_t (show z_168 ≠ 0 by omega) (eva.trans g3); have k2 := mat_t (show z_168 ≠ 0 by omega) (evb.trans g4); have k3 := mat_t (show z_168 ≠ 0 by omega) (evc.trans g5); have k4 := mat_t (show z_168 ≠ 0 by omega) (eve.trans g6); omega⟩)⟩, ht⟩) (fun _ h => nomatch h) dX12_isMap_258 hlk
    · skip
      refine lv_iload SS.1 SS.2.1 dX12_isMap_241 (lv_at hl 1 rfl) ?_
      refine lv_iload SS.1 SS.2.1 dX12_isMap_243 (lv_at hl 4 rfl) ?_
      refine j_irem SS (x := vc) (y := z_168) dX12_isMap_245 (by omega) (by omega) (by omega) ?_
      refine j_if_ne SS (tgt := 257) (x := (Int.tmod vc z_168)) dX12_isMap_246 (by decide) (by omega) (fun c_246 => ?_) (fun c_246 => ?_)
      · skip
        refine j_iconst SS dX12_isMap_257 ?_
        exact W.zret SS.1 SS.2.1 hr (j_nz (by decide)) (fun t ht hW => ⟨_, rfl, ⟨0, rfl, (Or.inr ⟨rfl, fun ⟨a, b, c, e, hu, hA⟩ => by obtain ⟨⟨g3, g4⟩, g5, g6⟩ := FM_d hFM p4 h_168 hA; have k1 := mat_t (show z_168 ≠ 0 by omega) (eva.trans g3); have k2 := mat_t (show z_168 ≠ 0 by omega) (evb.trans g4); have k3 := mat_t (show z_168 ≠ 0 by omega) (evc.trans g5); have k4 := mat_t (show z_168 ≠ 0 by omega) (eve.trans g6); omega⟩)⟩, ht⟩) (fun _ h => nomatch h) dX12_isMap_258 hlk
      · skip
        refine lv_iload SS.1 SS.2.1 dX12_isMap_249 (lv_at hl 0 rfl) ?_
        refine lv_iload SS.1 SS.2.1 dX12_isMap_251 (lv_at hl 4 rfl) ?_
        refine j_irem SS (x := ve) (y := z_168) dX12_isMap_253 (by omega) (by omega) (by omega) ?_
        refine j_if_eq SS (tgt := 259) (x := (Int.tmod ve z_168)) dX12_isMap_254 (by decide) (by omega) (fun c_254 => ?_) (fun c_254 => ?_)
        · skip
          refine lv_iload SS.1 SS.2.1 dX12_isMap_259 (lv_at hl 3 rfl) ?_
          refine lv_iload SS.1 SS.2.1 dX12_isMap_261 (lv_at hl 4 rfl) ?_
          refine j_idiv SS (x := va) (y := z_168) dX12_isMap_263 (by omega) (by omega) (by omega) ?_
          obtain ⟨qa, eqa⟩ : ∃ z : Int, z = (Int.tdiv va z_168) := ⟨_, rfl⟩
          rw [← eqa]
          refine lv_istore (lv' := [(17, .int (J qa)), (20, .int (J ve)), (19, .int (J vc)), (18, .int (J vb)), (16, .int (J z_168)), (15, .int (J qy)), (14, .int (J qx)), (13, .int (J py)), (12, .int (J px)), (11, .int (J two)), (10, .int (J one)), (9, .int (J vy)), (8, .int (J vx)), (7, .int (J uy)), (6, .int (J ux)), (5, .int (J (mN u s))), (0, .ref o), (1, .int (J s)), (2, .int (J s2)), (3, .int (J j)), (4, .int (J w))]) SS.1 SS.2.1 dX12_isMap_264 hl (by decide) rfl (fun ls hl => ?_)
          have b_qa : -12800 ≤ qa ∧ qa ≤ 12800 := by rw [eqa]; exact td_b b_va
          refine lv_iload SS.1 SS.2.1 dX12_isMap_266 (lv_at hl 3 rfl) ?_
          refine lv_iload SS.1 SS.2.1 dX12_isMap_268 (lv_at hl 4 rfl) ?_
          refine j_idiv SS (x := vb) (y := z_168) dX12_isMap_270 (by omega) (by omega) (by omega) ?_
          obtain ⟨qb, eqb⟩ : ∃ z : Int, z = (Int.tdiv vb z_168) := ⟨_, rfl⟩
          rw [← eqb]
          refine lv_istore (lv' := [(18, .int (J qb)), (17, .int (J qa)), (20, .int (J ve)), (19, .int (J vc)), (16, .int (J z_168)), (15, .int (J qy)), (14, .int (J qx)), (13, .int (J py)), (12, .int (J px)), (11, .int (J two)), (10, .int (J one)), (9, .int (J vy)), (8, .int (J vx)), (7, .int (J uy)), (6, .int (J ux)), (5, .int (J (mN u s))), (0, .ref o), (1, .int (J s)), (2, .int (J s2)), (3, .int (J j)), (4, .int (J w))]) SS.1 SS.2.1 dX12_isMap_271 hl (by decide) rfl (fun ls hl => ?_)
          have b_qb : -12800 ≤ qb ∧ qb ≤ 12800 := by rw [eqb]; exact td_b b_vb
          refine lv_iload SS.1 SS.2.1 dX12_isMap_273 (lv_at hl 3 rfl) ?_
          refine lv_iload SS.1 SS.2.1 dX12_isMap_275 (lv_at hl 4 rfl) ?_
          refine j_idiv SS (x := vc) (y := z_168) dX12_isMap_277 (by omega) (by omega) (by omega) ?_
          obtain ⟨qc, eqc⟩ : ∃ z : Int, z = (Int.tdiv vc z_168) := ⟨_, rfl⟩
          rw [← eqc]
          refine lv_istore (lv' := [(19, .int (J qc)), (18, .int (J qb)), (17, .int (J qa)), (20, .int (J ve)), (16, .int (J z_168)), (15, .int (J qy)), (14, .int (J qx)), (13, .int (J py)), (12, .int (J px)), (11, .int (J two)), (10, .int (J one)), (9, .int (J vy)), (8, .int (J vx)), (7, .int (J uy)), (6, .int (J ux)), (5, .int (J (mN u s))), (0, .ref o), (1, .int (J s)), (2, .int (J s2)), (3, .int (J j)), (4, .int (J w))]) SS.1 SS.2.1 dX12_isMap_278 hl (by decide) rfl (fun ls hl => ?_)
          have b_qc : -12800 ≤ qc ∧ qc ≤ 12800 := by rw [eqc]; exact td_b b_vc
          refine lv_iload SS.1 SS.2.1 dX12_isMap_280 (lv_at hl 3 rfl) ?_
          refine lv_iload SS.1 SS.2.1 dX12_isMap_282 (lv_at hl 4 rfl) ?_
          refine j_idiv SS (x := ve) (y := z_168) dX12_isMap_284 (by omega) (by omega) (by omega) ?_
          obtain ⟨qe, eqe⟩ : ∃ z : Int, z = (Int.tdiv ve z_168) := ⟨_, rfl⟩
          rw [← eqe]
          refine lv_istore (lv' := [(20, .int (J qe)), (19, .int (J qc)), (18, .int (J qb)), (17, .int (J qa)), (16, .int (J z_168)), (15, .int (J qy)), (14, .int (J qx)), (13, .int (J py)), (12, .int (J px)), (11, .int (J two)), (10, .int (J one)), (9, .int (J vy)), (8, .int (J vx)), (7, .int (J uy)), (6, .int (J ux)), (5, .int (J (mN u s))), (0, .ref o), (1, .int (J s)), (2, .int (J s2)), (3, .int (J j)), (4, .int (J w))]) SS.1 SS.2.1 dX12_isMap_285 hl (by decide) rfl (fun ls hl => ?_)
          have b_qe : -12800 ≤ qe ∧ qe ≤ 12800 := by rw [eqe]; exact td_b b_ve
          have k1 := mulb (A := 12800) (B := 12800) b_qa b_qe
          have k2 := mulb (A := 12800) (B := 12800) b_qb b_qc
          refine lv_iload SS.1 SS.2.1 dX12_isMap_287 (lv_at hl 3 rfl) ?_
          refine lv_iload SS.1 SS.2.1 dX12_isMap_289 (lv_at hl 0 rfl) ?_
          refine j_imul SS (x := qa) (y := qe) dX12_isMap_291 ?_
          refine lv_iload SS.1 SS.2.1 dX12_isMap_292 (lv_at hl 2 rfl) ?_
          refine lv_iload SS.1 SS.2.1 dX12_isMap_294 (lv_at hl 1 rfl) ?_
          refine j_imul SS (x := qb) (y := qc) dX12_isMap_296 ?_
          refine j_isub SS (x := (qa * qe)) (y := (qb * qc)) dX12_isMap_297 ?_
          refine j_sRi SS (As := [.int (J ((qa * qe) - (qb * qc)))]) (rest := []) (c_X12_size l D ((qa * qe) - (qb * qc)) (show -2147483648 < ((qa * qe) - (qb * qc)) ∧ ((qa * qe) - (qb * qc)) ≤ 2147483647 from (by omega))) mf_X12_size kw_1233 hG trivial rfl hl.1 ⟨⟨Nat.le_of_ble_eq_true rfl, Nat.le_of_ble_eq_true rfl⟩, Nat.le_of_ble_eq_true rfl, Nat.le_refl _, Nat.le_refl _⟩ rfl dX12_isMap_298 (fun z_298 h_298 => ?_)
          have h_298 : (0 ≤ ((qa * qe) - (qb * qc)) → z_298 = ((qa * qe) - (qb * qc))) ∧ (((qa * qe) - (qb * qc)) < 0 → z_298 = -((qa * qe) - (qb * qc))) := h_298
          refine j_iconst SS dX12_isMap_301 ?_
          have L_310 : ∀ (t6 : Int) (ls : Array Slot) (hl : lv_has ls 26 [(0, .ref o), (1, .int (J s)), (2, .int (J s2)), (3, .int (J j)), (4, .int (J w)), (5, .int (J (mN u s))), (16, .int (J z_168)), (17, .int (J qa)), (18, .int (J qb)), (19, .int (J qc)), (20, .int (J qe))]) (i310_0 : (t6 = 1 ∧ (qa * qe - qb * qc = 1 ∨ qa * qe - qb * qc = -1)) ∨ (t6 = 0 ∧ ¬ (qa * qe - qb * qc = 1 ∨ qa * qe - qb * qc = -1))), W pr l en (headSpec (jw yX12_isMap cX12_isMap 26 (some .boolean)) (jr 1 23)).room st mi (([.ref o, .int (J s), .int (J s2), .int (J j), .int (J w)] : List Value).toArray) below meth co st.heap [] 0 0 (MQ below (jRi (fun z => (z = 1 ∧ mAF u s s2 j w) ∨ (z = 0 ∧ ¬ mAF u s s2 j w))) (([.ref o, .int (J s), .int (J s2), .int (J j), .int (J w)] : List Value).toArray) st 0 0 (fun _ => False)) (F0 mi 310 ls [.int (J t6)]) := by
            intro t6 ls hl i310_0
            refine lv_istore (lv' := [(21, .int (J t6)), (0, .ref o), (1, .int (J s)), (2, .int (J s2)), (3, .int (J j)), (4, .int (J w)), (5, .int (J (mN u s))), (16, .int (J z_168)), (17, .int (J qa)), (18, .int (J qb)), (19, .int (J qc)), (20, .int (J qe))]) SS.1 SS.2.1 dX12_isMap_310 hl (by decide) rfl (fun ls hl => ?_)
            refine j_iconst SS dX12_isMap_312 ?_
            refine lv_istore (lv' := [(22, .int (J 0)), (21, .int (J t6)), (0, .ref o), (1, .int (J s)), (2, .int (J s2)), (3, .int (J j)), (4, .int (J w)), (5, .int (J (mN u s))), (16, .int (J z_168)), (17, .int (J qa)), (18, .int (J qb)), (19, .int (J qc)), (20, .int (J qe))]) SS.1 SS.2.1 dX12_isMap_313 hl (by decide) rfl (fun ls hl => ?_)
            have L_315 : ∀ (nn : Nat) (t5 : Int) (i : Int) (ls : Array Slot) (hl : lv_has ls 26 [(0, .ref o), (1, .int (J s)), (2, .int (J s2)), (3, .int (J j)), (4, .int (J w)), (5, .int (J (mN u s))), (16, .int (J z_168)), (17, .int (J qa)), (18, .int (J qb)), (19, .int (J qc)), (20, .int (J qe)), (21, .int (J t5)), (22, .int (J i))]) (i315_0 : 0 ≤ i ∧ i ≤ mN u s) (i315_1 : (t5 = 1 ∧ (qa * qe - qb * qc = 1 ∨ qa * qe - qb * qc = -1) ∧ ∀ k : Int, 0 ≤ k → k < i → qa * (mX u s k - mX u s 0) + qb * (mY u s k - mY u s 0) = mX u s2 ((j + w * k) % mN u s) - mX u s2 j ∧ qc * (mX u s k - mX u s 0) + qe * (mY u s k - mY u s 0) = mY u s2 ((j + w * k) % mN u s) - mY u s2 j) ∨ (t5 = 0 ∧ ¬ mAF u s s2 j w)), (mN u s - i).toNat < nn → W pr l en (headSpec (jw yX12_isMap cX12_isMap 26 (some .boolean)) (jr 1 23)).room st mi (([.ref o, .int (J s), .int (J s2), .int (J j), .int (J w)] : List Value).toArray) below meth co st.heap [] 0 0 (MQ below (jRi (fun z => (z = 1 ∧ mAF u s s2 j w) ∨ (z = 0 ∧ ¬ mAF u s s2 j w))) (([.ref o, .int (J s), .int (J s2), .int (J j), .int (J w)] : List Value).toArray) st 0 0 (fun _ => False)) (F0 mi 315 ls []) := by
              intro nn
              induction nn with
              | zero => intros; omega
              | succ nn ih_315 =>
                intro t5 i ls hl i315_0 i315_1 hm
                refine lv_iload SS.1 SS.2.1 dX12_isMap_315 (lv_at hl 12 rfl) ?_
                refine lv_iload SS.1 SS.2.1 dX12_isMap_317 (lv_at hl 5 rfl) ?_
                refine j_icmp_ge SS (tgt := 446) (x := i) (y := (mN u s)) dX12_isMap_319 (by decide) (by omega) (by omega) (fun c_319 => ?_) (fun c_319 => ?_)
                · skip
                  refine lv_iload SS.1 SS.2.1 dX12_isMap_446 (lv_at hl 11 rfl) ?_
                  exact W.zret SS.1 SS.2.1 hr (j_nz (by omega)) (fun t ht hW => ⟨_, rfl, ⟨t5, rfl, (by rcases i315_1 with ⟨x1, x2, x3⟩ | ⟨x1, x2⟩; (exact Or.inl ⟨x1, qa, qb, qc, qe, x2, fun k h0 h1 => x3 k h0 (by omega)⟩); exact Or.inr ⟨x1, x2⟩)⟩, ht⟩) (fun _ h => nomatch h) dX12_isMap_448 hlk
                · skip
                  refine lv_iload SS.1 SS.2.1 dX12_isMap_322 (lv_at hl 11 rfl) ?_
                  refine j_if_eq SS (tgt := 446) (x := t5) dX12_isMap_324 (by decide) (by omega) (fun c_324 => ?_) (fun c_324 => ?_)
                  · skip
                    refine lv_iload SS.1 SS.2.1 dX12_isMap_446 (lv_at hl 11 rfl) ?_
                    exact W.zret SS.1 SS.2.1 hr (j_nz (by omega)) (fun t ht hW => ⟨_, rfl, ⟨t5, rfl, (by rcases i315_1 with ⟨x1, x2, x3⟩ | ⟨x1, x2⟩; (exact Or.inl ⟨x1, qa, qb, qc, qe, x2, fun k h0 h1 => x3 k h0 (by omega)⟩); exact Or.inr ⟨x1, x2⟩)⟩, ht⟩) (fun _ h => nomatch h) dX12_isMap_448 hlk
                  · skip
                    have wi := mulb (A := 1) (B := 24) (a := w) (b := i) (by omega) (by omega)
                    have t3 := tm_c (a := j + w * i) (n := mN u s) (by omega)
                    refine lv_iload_n SS.1 SS.2.1 dX12_isMap_327 rfl (lv_at hl 3 rfl) ?_
                    refine lv_iload SS.1 SS.2.1 dX12_isMap_328 (lv_at hl 4 rfl) ?_
                    refine lv_iload SS.1 SS.2.1 dX12_isMap_330 (lv_at hl 12 rfl) ?_
                    refine j_imul SS (x := w) (y := i) dX12_isMap_332 ?_
                    refine j_iadd SS (x := j) (y := (w * i)) dX12_isMap_333 ?_
                    refine lv_iload SS.1 SS.2.1 dX12_isMap_334 (lv_at hl 5 rfl) ?_
                    refine j_irem SS (x := (j + (w * i))) (y := (mN u s)) dX12_isMap_336 (by omega) (by omega) (by omega) ?_
                    refine lv_iload SS.1 SS.2.1 dX12_isMap_337 (lv_at hl 5 rfl) ?_
                    refine j_iadd SS (x := (Int.tmod (j + (w * i)) (mN u s))) (y := (mN u s)) dX12_isMap_339 ?_
                    refine lv_iload SS.1 SS.2.1 dX12_isMap_340 (lv_at hl 5 rfl) ?_
                    have t4 := tm_b (i := Int.tmod (j + w * i) (mN u s) + mN u s) (n := mN u s) (by omega) (by omega)
                    refine j_irem SS (x := ((Int.tmod (j + (w * i)) (mN u s)) + (mN u s))) (y := (mN u s)) dX12_isMap_342 (by omega) (by omega) (by omega) ?_
                    obtain ⟨to, eto⟩ : ∃ z : Int, z = (Int.tmod ((Int.tmod (j + (w * i)) (mN u s)) + (mN u s)) (mN u s)) := ⟨_, rfl⟩
                    rw [← eto]
                    refine lv_istore (lv' := [(23, .int (J to)), (0, .ref o), (1, .int (J s)), (2, .int (J s2)), (3, .int (J j)), (4, .int (J w)), (5, .int (J (mN u s))), (16, .int (J z_168)), (17, .int (J qa)), (18, .int (J qb)), (19, .int (J qc)), (20, .int (J qe)), (21, .int (J t5)), (22, .int (J i))]) SS.1 SS.2.1 dX12_isMap_343 hl (by decide) rfl (fun ls hl => ?_)
                    refine lv_aload_n SS.1 SS.2.1 dX12_isMap_345 rfl (lv_at hl 1 rfl) ?_
                    refine lv_iload_n SS.1 SS.2.1 dX12_isMap_346 rfl (lv_at hl 2 rfl) ?_
                    refine lv_iload SS.1 SS.2.1 dX12_isMap_347 (lv_at hl 13 rfl) ?_
                    refine j_vRi SS (As := [.int (J s), .int (J i)]) (rest := []) (c_X12_x l D o q u s i (show 0 ≤ s ∧ s ≤ 7 from (by omega)) (show 0 ≤ i ∧ i ≤ 1000000 from (by omega)) (show 0 < mN u s ∧ mN u s ≤ 24 from (by first | omega | (have hq := (show Sh u s from (by first | exact p1 | exact p3)).1; omega)))) mf_X12_x kw_1177 hG hP hP (ci := 8) (q0 := 0) rfl rfl rfl rfl hl.1 ⟨⟨Nat.le_of_ble_eq_true rfl, Nat.le_of_ble_eq_true rfl⟩, Nat.le_of_ble_eq_true rfl, Nat.le_refl _, Nat.le_refl _⟩ rfl dX12_isMap_349 (fun z_349 h_349 => ?_)
                    have h_349 : z_349 = mX u s i := h_349
                    have hb_349 := (show Sh u s from (by first | exact p1 | exact p3)).2.1 (by omega) i (by omega)
                    refine lv_aload_n SS.1 SS.2.1 dX12_isMap_352 rfl (lv_at hl 1 rfl) ?_
                    refine lv_iload_n SS.1 SS.2.1 dX12_isMap_353 rfl (lv_at hl 2 rfl) ?_
                    refine j_iconst SS dX12_isMap_354 ?_
                    refine j_vRi SS (As := [.int (J s), .int (J 0)]) (rest := [.int (J z_349)]) (c_X12_x l D o q u s 0 (show 0 ≤ s ∧ s ≤ 7 from (by omega)) (show 0 ≤ (0 : Int) ∧ (0 : Int) ≤ 1000000 from (by omega)) (show 0 < mN u s ∧ mN u s ≤ 24 from (by first | omega | (have hq := (show Sh u s from (by first | exact p1 | exact p3)).1; omega)))) mf_X12_x kw_1177 hG hP hP (ci := 8) (q0 := 0) rfl rfl rfl rfl hl.1 ⟨⟨Nat.le_of_ble_eq_true rfl, Nat.le_of_ble_eq_true rfl⟩, Nat.le_of_ble_eq_true rfl, Nat.le_refl _, Nat.le_refl _⟩ rfl dX12_isMap_355 (fun z_355 h_355 => ?_)
                    have h_355 : z_355 = mX u s (0 : Int) := h_355
                    have hb_355 := (show Sh u s from (by first | exact p1 | exact p3)).2.1 (by omega) (0 : Int) (by omega)
                    refine j_isub SS (x := z_349) (y := z_355) dX12_isMap_358 ?_
                    obtain ⟨dx, edx⟩ : ∃ z : Int, z = (z_349 - z_355) := ⟨_, rfl⟩
                    rw [← edx]
                    refine lv_istore (lv' := [(24, .int (J dx)), (23, .int (J to)), (0, .ref o), (1, .int (J s)), (2, .int (J s2)), (3, .int (J j)), (4, .int (J w)), (5, .int (J (mN u s))), (16, .int (J z_168)), (17, .int (J qa)), (18, .int (J qb)), (19, .int (J qc)), (20, .int (J qe)), (21, .int (J t5)), (22, .int (J i))]) SS.1 SS.2.1 dX12_isMap_359 hl (by decide) rfl (fun ls hl => ?_)
                    have b_dx : -80 ≤ dx ∧ dx ≤ 80 := by omega
                    refine lv_aload_n SS.1 SS.2.1 dX12_isMap_361 rfl (lv_at hl 2 rfl) ?_
                    refine lv_iload_n SS.1 SS.2.1 dX12_isMap_362 rfl (lv_at hl 3 rfl) ?_
                    refine lv_iload SS.1 SS.2.1 dX12_isMap_363 (lv_at hl 14 rfl) ?_
                    refine j_vRi SS (As := [.int (J s), .int (J i)]) (rest := []) (c_X12_y l D o q u s i (show 0 ≤ s ∧ s ≤ 7 from (by omega)) (show 0 ≤ i ∧ i ≤ 1000000 from (by omega)) (show 0 < mN u s ∧ mN u s ≤ 24 from (by first | omega | (have hq := (show Sh u s from (by first | exact p1 | exact p3)).1; omega)))) mf_X12_y kw_1181 hG hP hP (ci := 8) (q0 := 0) rfl rfl rfl rfl hl.1 ⟨⟨Nat.le_of_ble_eq_true rfl, Nat.le_of_ble_eq_true rfl⟩, Nat.le_of_ble_eq_true rfl, Nat.le_refl _, Nat.le_refl _⟩ rfl dX12_isMap_365 (fun z_365 h_365 => ?_)
                    have h_365 : z_365 = mY u s i := h_365
                    have hb_365 := (show Sh u s from (by first | exact p1 | exact p3)).2.1 (by omega) i (by omega)
                    refine lv_aload_n SS.1 SS.2.1 dX12_isMap_368 rfl (lv_at hl 2 rfl) ?_
                    refine lv_iload_n SS.1 SS.2.1 dX12_isMap_369 rfl (lv_at hl 3 rfl) ?_
                    refine j_iconst SS dX12_isMap_370 ?_
                    refine j_vRi SS (As := [.int (J s), .int (J 0)]) (rest := [.int (J z_365)]) (c_X12_y l D o q u s 0 (show 0 ≤ s ∧ s ≤ 7 from (by omega)) (show 0 ≤ (0 : Int) ∧ (0 : Int) ≤ 1000000 from (by omega)) (show 0 < mN u s ∧ mN u s ≤ 24 from (by first | omega | (have hq := (show Sh u s from (by first | exact p1 | exact p3)).1; omega)))) mf_X12_y kw_1181 hG hP hP (ci := 8) (q0 := 0) rfl rfl rfl rfl hl.1 ⟨⟨Nat.le_of_ble_eq_true rfl, Nat.le_of_ble_eq_true rfl⟩, Nat.le_of_ble_eq_true rfl, Nat.le_refl _, Nat.le_refl _⟩ rfl dX12_isMap_371 (fun z_371 h_371 => ?_)
                    have h_371 : z_371 = mY u s (0 : Int) := h_371
                    have hb_371 := (show Sh u s from (by first | exact p1 | exact p3)).2.1 (by omega) (0 : Int) (by omega)
                    refine j_isub SS (x := z_365) (y := z_371) dX12_isMap_374 ?_
                    obtain ⟨dy, edy⟩ : ∃ z : Int, z = (z_365 - z_371) := ⟨_, rfl⟩
                    rw [← edy]
                    refine lv_istore (lv' := [(25, .int (J dy)), (24, .int (J dx)), (23, .int (J to)), (0, .ref o), (1, .int (J s)), (2, .int (J s2)), (3, .int (J j)), (4, .int (J w)), (5, .int (J (mN u s))), (16, .int (J z_168)), (17, .int (J qa)), (18, .int (J qb)), (19, .int (J qc)), (20, .int (J qe)), (21, .int (J t5)), (22, .int (J i))]) SS.1 SS.2.1 dX12_isMap_375 hl (by decide) rfl (fun ls hl => ?_)
                    have b_dy : -80 ≤ dy ∧ dy ≤ 80 := by omega
                    have f1 := mulb (A := 12800) (B := 80) b_qa b_dx
                    have f2 := mulb (A := 12800) (B := 80) b_qb b_dy
                    have f3 := mulb (A := 12800) (B := 80) b_qc b_dx
                    have f4 := mulb (A := 12800) (B := 80) b_qe b_dy
                    have eto2 : to = (j + w * i) % mN u s := by rw [eto]; exact tmn3 (by omega)
                    have edx2 : dx = mX u s i - mX u s 0 := by rw [edx, h_349, h_355]
                    have edy2 : dy = mY u s i - mY u s 0 := by rw [edy, h_365, h_371]
                    refine lv_iload SS.1 SS.2.1 dX12_isMap_377 (lv_at hl 10 rfl) ?_
                    refine lv_iload SS.1 SS.2.1 dX12_isMap_379 (lv_at hl 1 rfl) ?_
                    refine j_imul SS (x := qa) (y := dx) dX12_isMap_381 ?_
                    refine lv_iload SS.1 SS.2.1 dX12_isMap_382 (lv_at hl 11 rfl) ?_
                    refine lv_iload SS.1 SS.2.1 dX12_isMap_384 (lv_at hl 0 rfl) ?_
                    refine j_imul SS (x := qb) (y := dy) dX12_isMap_386 ?_
                    refine j_iadd SS (x := (qa * dx)) (y := (qb * dy)) dX12_isMap_387 ?_
                    refine lv_aload_n SS.1 SS.2.1 dX12_isMap_388 rfl (lv_at hl 3 rfl) ?_
                    refine lv_iload_n SS.1 SS.2.1 dX12_isMap_389 rfl (lv_at hl 5 rfl) ?_
                    refine lv_iload SS.1 SS.2.1 dX12_isMap_390 (lv_at hl 2 rfl) ?_
                    refine j_vRi SS (As := [.int (J s2), .int (J to)]) (rest := [.int (J ((qa * dx) + (qb * dy)))]) (c_X12_x l D o q u s2 to (show 0 ≤ s2 ∧ s2 ≤ 7 from (by omega)) (show 0 ≤ to ∧ to ≤ 1000000 from (by omega)) (show 0 < mN u s2 ∧ mN u s2 ≤ 24 from (by first | omega | (have hq := (show Sh u s2 from (by first | exact p1 | exact p3)).1; omega)))) mf_X12_x kw_1177 hG hP hP (ci := 8) (q0 := 0) rfl rfl rfl rfl hl.1 ⟨⟨Nat.le_of_ble_eq_true rfl, Nat.le_of_ble_eq_true rfl⟩, Nat.le_of_ble_eq_true rfl, Nat.le_refl _, Nat.le_refl _⟩ rfl dX12_isMap_392 (fun z_392 h_392 => ?_)
                    have h_392 : z_392 = mX u s2 to := h_392
                    have hb_392 := (show Sh u s2 from (by first | exact p1 | exact p3)).2.1 (by omega) to (by omega)
                    refine lv_aload_n SS.1 SS.2.1 dX12_isMap_395 rfl (lv_at hl 3 rfl) ?_
                    refine lv_iload_n SS.1 SS.2.1 dX12_isMap_396 rfl (lv_at hl 5 rfl) ?_
                    refine lv_iload_n SS.1 SS.2.1 dX12_isMap_397 rfl (lv_at hl 6 rfl) ?_
                    refine j_vRi SS (As := [.int (J s2), .int (J j)]) (rest := [.int (J z_392), .int (J ((qa * dx) + (qb * dy)))]) (c_X12_x l D o q u s2 j (show 0 ≤ s2 ∧ s2 ≤ 7 from (by omega)) (show 0 ≤ j ∧ j ≤ 1000000 from (by omega)) (show 0 < mN u s2 ∧ mN u s2 ≤ 24 from (by first | omega | (have hq := (show Sh u s2 from (by first | exact p1 | exact p3)).1; omega)))) mf_X12_x kw_1177 hG hP hP (ci := 8) (q0 := 0) rfl rfl rfl rfl hl.1 ⟨⟨Nat.le_of_ble_eq_true rfl, Nat.le_of_ble_eq_true rfl⟩, Nat.le_of_ble_eq_true rfl, Nat.le_refl _, Nat.le_refl _⟩ rfl dX12_isMap_398 (fun z_398 h_398 => ?_)
                    have h_398 : z_398 = mX u s2 j := h_398
                    have hb_398 := (show Sh u s2 from (by first | exact p1 | exact p3)).2.1 (by omega) j (by omega)
                    refine j_isub SS (x := z_392) (y := z_398) dX12_isMap_401 ?_
                    have L_438 : ∀ (t7 : Int) (ls : Array Slot) (hl : lv_has ls 26 [(0, .ref o), (1, .int (J s)), (2, .int (J s2)), (3, .int (J j)), (4, .int (J w)), (5, .int (J (mN u s))), (16, .int (J z_168)), (17, .int (J qa)), (18, .int (J qb)), (19, .int (J qc)), (20, .int (J qe)), (22, .int (J i))]) (i438_0 : (t7 = 1 ∧ qa * dx + qb * dy = mX u s2 to - mX u s2 j ∧ qc * dx + qe * dy = mY u s2 to - mY u s2 j) ∨ (t7 = 0 ∧ ¬ (qa * dx + qb * dy = mX u s2 to - mX u s2 j ∧ qc * dx + qe * dy = mY u s2 to - mY u s2 j))), W pr l en (headSpec (jw yX12_isMap cX12_isMap 26 (some .boolean)) (jr 1 23)).room st mi (([.ref o, .int (J s), .int (J s2), .int (J j), .int (J w)] : List Value).toArray) below meth co st.heap [] 0 0 (MQ below (jRi (fun z => (z = 1 ∧ mAF u s s2 j w) ∨ (z = 0 ∧ ¬ mAF u s s2 j w))) (([.ref o, .int (J s), .int (J s2), .int (J j), .int (J w)] : List Value).toArray) st 0 0 (fun _ => False)) (F0 mi 438 ls [.int (J t7)]) := by
                      intro t7 ls hl i438_0
                      refine lv_istore (lv' := [(21, .int (J t7)), (0, .ref o), (1, .int (J s)), (2, .int (J s2)), (3, .int (J j)), (4, .int (J w)), (5, .int (J (mN u s))), (16, .int (J z_168)), (17, .int (J qa)), (18, .int (J qb)), (19, .int (J qc)), (20, .int (J qe)), (22, .int (J i))]) SS.1 SS.2.1 dX12_isMap_438 hl (by decide) rfl (fun ls hl => ?_)
                      refine lv_iinc (v := J (i + 1)) (lv' := [(22, .int (J (i + 1))), (21, .int (J t7)), (0, .ref o), (1, .int (J s)), (2, .int (J s2)), (3, .int (J j)), (4, .int (J w)), (5, .int (J (mN u s))), (16, .int (J z_168)), (17, .int (J qa)), (18, .int (J qb)), (19, .int (J qc)), (20, .int (J qe))]) SS.1 SS.2.1 dX12_isMap_440 hl (k := 12) rfl (J_add _ _) (by decide) rfl (fun ls hl => ?_)
                      refine lv_goto (tgt := 315) SS.1 SS.2.1 dX12_isMap_443 (by decide) ?_
                      exact ih_315 t7 (i + 1) ls (lv_sub hl [2, 3, 4, 5, 6, 7, 8, 9, 10, 11, 12, 1, 0] rfl) (by omega) (by rcases i315_1 with ⟨x1, x2, x3⟩ | ⟨x1, x2⟩; (rcases i438_0 with ⟨a1, a2, a3⟩ | ⟨a1, a2⟩; exact Or.inl ⟨a1, x2, fun k h0 h1 => by by_cases e9 : k = i; (rw [e9, ← edx2, ← edy2, ← eto2]; exact ⟨a2, a3⟩); exact x3 k h0 (by omega)⟩; exact Or.inr ⟨a1, fun ⟨a, b, c, e, hu, hA⟩ => a2 (by obtain ⟨⟨g3, g4⟩, g5, g6⟩ := FM_d hFM p4 h_168 hA; have k1 := mat_t (show z_168 ≠ 0 by omega) (eva.trans g3); have k2 := mat_t (show z_168 ≠ 0 by omega) (evb.trans g4); have k3 := mat_t (show z_168 ≠ 0 by omega) (evc.trans g5); have k4 := mat_t (show z_168 ≠ 0 by omega) (eve.trans g6); have m1 := eqa.trans k1.2; have m2 := eqb.trans k2.2; have m3 := eqc.trans k3.2; have m4 := eqe.trans k4.2; obtain ⟨y1, y2⟩ := hA i (by omega) (by omega); rw [m1, m2, m3, m4, edx2, edy2, eto2]; exact ⟨y1, y2⟩)⟩); omega) (by omega)
                    refine j_icmp_ne SS (tgt := 437) (x := ((qa * dx) + (qb * dy))) (y := (z_392 - z_398)) dX12_isMap_402 (by decide) (by omega) (by omega) (fun c_402 => ?_) (fun c_402 => ?_)
                    · skip
                      refine j_iconst SS dX12_isMap_437 ?_
                      exact L_438 0 ls (lv_sub hl [3, 4, 5, 6, 7, 8, 9, 10, 11, 12, 13, 15] rfl) (by first | exact Or.inl ⟨rfl, by rw [← h_392, ← h_398]; omega, by rw [← h_420, ← h_426]; omega⟩ | exact Or.inr ⟨rfl, fun q => by have q1 := q.1; rw [← h_392, ← h_398] at q1; omega⟩ | exact Or.inr ⟨rfl, fun q => by have q1 := q.2; rw [← h_420, ← h_426] at q1; omega⟩)
                    · skip
                      refine lv_iload SS.1 SS.2.1 dX12_isMap_405 (lv_at hl 12 rfl) ?_
                      refine lv_iload SS.1 SS.2.1 dX12_isMap_407 (lv_at hl 1 rfl) ?_
                      refine j_imul SS (x := qc) (y := dx) dX12_isMap_409 ?_
                      refine lv_iload SS.1 SS.2.1 dX12_isMap_410 (lv_at hl 13 rfl) ?_
                      refine lv_iload SS.1 SS.2.1 dX12_isMap_412 (lv_at hl 0 rfl) ?_
                      refine j_imul SS (x := qe) (y := dy) dX12_isMap_414 ?_
                      refine j_iadd SS (x := (qc * dx)) (y := (qe * dy)) dX12_isMap_415 ?_
                      refine lv_aload_n SS.1 SS.2.1 dX12_isMap_416 rfl (lv_at hl 3 rfl) ?_
                      refine lv_iload_n SS.1 SS.2.1 dX12_isMap_417 rfl (lv_at hl 5 rfl) ?_
                      refine lv_iload SS.1 SS.2.1 dX12_isMap_418 (lv_at hl 2 rfl) ?_
                      refine j_vRi SS (As := [.int (J s2), .int (J to)]) (rest := [.int (J ((qc * dx) + (qe * dy)))]) (c_X12_y l D o q u s2 to (show 0 ≤ s2 ∧ s2 ≤ 7 from (by omega)) (show 0 ≤ to ∧ to ≤ 1000000 from (by omega)) (show 0 < mN u s2 ∧ mN u s2 ≤ 24 from (by first | omega | (have hq := (show Sh u s2 from (by first | exact p1 | exact p3)).1; omega)))) mf_X12_y kw_1181 hG hP hP (ci := 8) (q0 := 0) rfl rfl rfl rfl hl.1 ⟨⟨Nat.le_of_ble_eq_true rfl, Nat.le_of_ble_eq_true rfl⟩, Nat.le_of_ble_eq_true rfl, Nat.le_refl _, Nat.le_refl _⟩ rfl dX12_isMap_420 (fun z_420 h_420 => ?_)
                      have h_420 : z_420 = mY u s2 to := h_420
                      have hb_420 := (show Sh u s2 from (by first | exact p1 | exact p3)).2.1 (by omega) to (by omega)
                      refine lv_aload_n SS.1 SS.2.1 dX12_isMap_423 rfl (lv_at hl 3 rfl) ?_
                      refine lv_iload_n SS.1 SS.2.1 dX12_isMap_424 rfl (lv_at hl 5 rfl) ?_
                      refine lv_iload_n SS.1 SS.2.1 dX12_isMap_425 rfl (lv_at hl 6 rfl) ?_
                      refine j_vRi SS (As := [.int (J s2), .int (J j)]) (rest := [.int (J z_420), .int (J ((qc * dx) + (qe * dy)))]) (c_X12_y l D o q u s2 j (show 0 ≤ s2 ∧ s2 ≤ 7 from (by omega)) (show 0 ≤ j ∧ j ≤ 1000000 from (by omega)) (show 0 < mN u s2 ∧ mN u s2 ≤ 24 from (by first | omega | (have hq := (show Sh u s2 from (by first | exact p1 | exact p3)).1; omega)))) mf_X12_y kw_1181 hG hP hP (ci := 8) (q0 := 0) rfl rfl rfl rfl hl.1 ⟨⟨Nat.le_of_ble_eq_true rfl, Nat.le_of_ble_eq_true rfl⟩, Nat.le_of_ble_eq_true rfl, Nat.le_refl _, Nat.le_refl _⟩ rfl dX12_isMap_426 (fun z_426 h_426 => ?_)
                      have h_426 : z_426 = mY u s2 j := h_426
                      have hb_426 := (show Sh u s2 from (by first | exact p1 | exact p3)).2.1 (by omega) j (by omega)
                      refine j_isub SS (x := z_420) (y := z_426) dX12_isMap_429 ?_
                      refine j_icmp_ne SS (tgt := 437) (x := ((qc * dx) + (qe * dy))) (y := (z_420 - z_426)) dX12_isMap_430 (by decide) (by omega) (by omega) (fun c_430 => ?_) (fun c_430 => ?_)
                      · skip
                        refine j_iconst SS dX12_isMap_437 ?_
                        exact L_438 0 ls (lv_sub hl [3, 4, 5, 6, 7, 8, 9, 10, 11, 12, 13, 15] rfl) (by first | exact Or.inl ⟨rfl, by rw [← h_392, ← h_398]; omega, by rw [← h_420, ← h_426]; omega⟩ | exact Or.inr ⟨rfl, fun q => by have q1 := q.1; rw [← h_392, ← h_398] at q1; omega⟩ | exact Or.inr ⟨rfl, fun q => by have q1 := q.2; rw [← h_420, ← h_426] at q1; omega⟩)
                      · skip
                        refine j_iconst SS dX12_isMap_433 ?_
                        refine lv_goto (tgt := 438) SS.1 SS.2.1 dX12_isMap_434 (by decide) ?_
                        exact L_438 1 ls (lv_sub hl [3, 4, 5, 6, 7, 8, 9, 10, 11, 12, 13, 15] rfl) (by first | exact Or.inl ⟨rfl, by rw [← h_392, ← h_398]; omega, by rw [← h_420, ← h_426]; omega⟩ | exact Or.inr ⟨rfl, fun q => by have q1 := q.1; rw [← h_392, ← h_398] at q1; omega⟩ | exact Or.inr ⟨rfl, fun q => by have q1 := q.2; rw [← h_420, ← h_426] at q1; omega⟩)
            exact L_315 ((mN u s - (0 : Int)).toNat + 1) t6 0 ls (lv_sub hl [2, 3, 4, 5, 6, 7, 8, 9, 10, 11, 12, 1, 0] rfl) (by omega) (by first | (rcases i310_0 with ⟨a1, a2⟩ | ⟨a1, a2⟩; exact Or.inl ⟨a1, a2, fun k h0 h1 => by omega⟩; exact Or.inr ⟨a1, fun ⟨a, b, c, e, hu, hA⟩ => a2 (by obtain ⟨⟨g3, g4⟩, g5, g6⟩ := FM_d hFM p4 h_168 hA; have k1 := mat_t (show z_168 ≠ 0 by omega) (eva.trans g3); have k2 := mat_t (show z_168 ≠ 0 by omega) (evb.trans g4); have k3 := mat_t (show z_168 ≠ 0 by omega) (evc.trans g5); have k4 := mat_t (show z_168 ≠ 0 by omega) (eve.trans g6); have m1 := eqa.trans k1.2; have m2 := eqb.trans k2.2; have m3 := eqc.trans k3.2; have m4 := eqe.trans k4.2; rw [m1, m2, m3, m4]; exact hu)⟩)) (Nat.lt_succ_self _)
          refine j_icmp_ne SS (tgt := 309) (x := z_298) (y := 1) dX12_isMap_302 (by decide) (by omega) (by decide) (fun c_302 => ?_) (fun c_302 => ?_)
          · skip
            refine j_iconst SS dX12_isMap_309 ?_
            exact L_310 0 ls (lv_sub hl [16, 17, 18, 19, 20, 15, 4, 3, 2, 1, 0] rfl) (by omega)
          · skip
            refine j_iconst SS dX12_isMap_305 ?_
            refine lv_goto (tgt := 310) SS.1 SS.2.1 dX12_isMap_306 (by decide) ?_
            exact L_310 1 ls (lv_sub hl [16, 17, 18, 19, 20, 15, 4, 3, 2, 1, 0] rfl) (by omega)
        · skip
          refine j_iconst SS dX12_isMap_257 ?_
          exact W.zret SS.1 SS.2.1 hr (j_nz (by decide)) (fun t ht hW => ⟨_, rfl, ⟨0, rfl, (Or.inr ⟨rfl, fun ⟨a, b, c, e, hu, hA⟩ => by obtain ⟨⟨g3, g4⟩, g5, g6⟩ := FM_d hFM p4 h_168 hA; have k1 := mat_t (show z_168 ≠ 0 by omega) (eva.trans g3); have k2 := mat_t (show z_168 ≠ 0 by omega) (evb.trans g4); have k3 := mat_t (show z_168 ≠ 0 by omega) (evc.trans g5); have k4 := mat_t (show z_168 ≠ 0 by omega) (eve.trans g6); omega⟩)⟩, ht⟩) (fun _ h => nomatch h) dX12_isMap_258 hlk

set_option maxHeartbeats 4000000 in
set_option maxRecDepth 100000 in
theorem c_X12_mapsOf3 (l : Launch) (D : JD) (o : Nat) (q : Nat → Nat) (u : MS) (s : Int) (s2 : Int) (p0 : 0 ≤ s ∧ s ≤ 7) (p1 : Sh u s) (p2 : 0 ≤ s2 ∧ s2 ≤ 7) (p3 : Sh u s2) (p4 : 2 < mN u s) : Met l yX12_mapsOf (jw yX12_mapsOf cX12_mapsOf 5 (some .int)) (jr 2 68) (jP [.ref o, .int (J s), .int (J s2)] D (fun H => va_P D.1 j_cl (mW D o q u) H)) (jRi (fun z => mbM u s s2 z ∧ 0 ≤ z ∧ z ≤ 48)) 0 0 (fun _ => False) := by
  refine Met.ofW (cc := cX12_mapsOf) (maxL := 5) (ret := (some .int)) (by decide) rfl ?_
  intro pr en st mi args below meth co s₁ B hml hv
  obtain ⟨rfl, hG, hP⟩ := hv
  have hr := B.returns
  have hlk := B.notSynchronized
  have SS : jS pr mi co cX12_mapsOf 5 st _ RX12 := ⟨B.exec, B.bytes, hml, findClass_of_methodNamed B.named, fun w hw => atoms_spec (ws := (jw yX12_mapsOf cX12_mapsOf 5 (some .int))) B.pre w (List.mem_cons_of_mem _ hw)⟩
  have hl := lv_entry ([.ref o, .int (J s), .int (J s2)]) (n := 5) (Nat.le_of_ble_eq_true rfl)
  rw [lg_entry_eq]
  generalize (lg_sl ([.ref o, .int (J s), .int (J s2)]) ++ List.replicate (5 - (lg_sl ([.ref o, .int (J s), .int (J s2)])).length) Slot.unset).toArray = ls at hl ⊢
  have hl : lv_has ls 5 [(0, .ref o), (1, .int (J s)), (2, .int (J s2))] := hl
  have hN := p1.1
  have hN2 := p3.1
  refine j_iconst SS dX12_mapsOf_0 ?_
  refine lv_istore_n (lv' := [(3, .int (J 0)), (0, .ref o), (1, .int (J s)), (2, .int (J s2))]) SS.1 SS.2.1 dX12_mapsOf_1 rfl hl (by decide) rfl (fun ls hl => ?_)
  refine j_iconst SS dX12_mapsOf_2 ?_
  refine lv_istore (lv' := [(4, .int (J 0)), (3, .int (J 0)), (0, .ref o), (1, .int (J s)), (2, .int (J s2))]) SS.1 SS.2.1 dX12_mapsOf_3 hl (by decide) rfl (fun ls hl => ?_)
  have L_5 : ∀ (nn : Nat) (a : Int) (i : Int) (ls : Array Slot) (hl : lv_has ls 5 [(0, .ref o), (1, .int (J s)), (2, .int (J s2)), (3, .int (J a)), (4, .int (J i))]) (i5_0 : 0 ≤ i ∧ i ≤ mN u s) (i5_1 : 0 ≤ a ∧ a ≤ 2 * i) (i5_2 : CN2 (fun k => mAF u s s2 k 1) (fun k => mAF u s s2 k (-1)) i.toNat a) (i5_3 : mN u s ≠ mN u s2 → a = 0), (mN u s - i).toNat < nn → W pr l en (headSpec (jw yX12_mapsOf cX12_mapsOf 5 (some .int)) (jr 2 68)).room st mi (([.ref o, .int (J s), .int (J s2)] : List Value).toArray) below meth co st.heap [] 0 0 (MQ below (jRi (fun z => mbM u s s2 z ∧ 0 ≤ z ∧ z ≤ 48)) (([.ref o, .int (J s), .int (J s2)] : List Value).toArray) st 0 0 (fun _ => False)) (F0 mi 5 ls []) := by
    intro nn
    induction nn with
    | zero => intros; omega
    | succ nn ih_5 =>
      intro a i ls hl i5_0 i5_1 i5_2 i5_3 hm
      refine lv_iload SS.1 SS.2.1 dX12_mapsOf_5 (lv_at hl 4 rfl) ?_
      refine lv_aload_n SS.1 SS.2.1 dX12_mapsOf_7 rfl (lv_at hl 0 rfl) ?_
      refine j_get SS hG hP 0 (v := .ref (q 0)) (C := RX12) (T := TX12) (N := 31) rfl rfl inX12 0 (by decide) (ref := RX12) kw_1058 rfl rfl dX12_mapsOf_8 ?_
      refine lv_iload_n SS.1 SS.2.1 dX12_mapsOf_11 rfl (lv_at hl 1 rfl) ?_
      refine j_iald SS hG hP 1 (n := 8) (f := (u.1 0)) rfl (z := s) (by omega) (by omega) dX12_mapsOf_12 ?_
      have hN_12 := (show Sh u s from (by first | exact p1 | exact p3)).1
      refine j_icmp_ge SS (tgt := 77) (x := i) (y := (mN u s)) dX12_mapsOf_13 (by decide) (by omega) (by omega) (fun c_13 => ?_) (fun c_13 => ?_)
      · skip
        refine lv_iload_n SS.1 SS.2.1 dX12_mapsOf_77 rfl (lv_at hl 3 rfl) ?_
        exact W.iret SS.1 SS.2.1 hr (fun t ht hW => ⟨_, rfl, ⟨a, rfl, (⟨by by_cases e : mN u s = mN u s2; exact Or.inr ⟨e, by have w := i5_2; rw [show i = mN u s by omega] at w; exact w⟩; exact Or.inl ⟨e, i5_3 e⟩, by omega, by omega⟩)⟩, ht⟩) (fun _ h => nomatch h) dX12_mapsOf_78 hlk
      · skip
        refine lv_aload_n SS.1 SS.2.1 dX12_mapsOf_16 rfl (lv_at hl 0 rfl) ?_
        refine j_get SS hG hP 0 (v := .ref (q 0)) (C := RX12) (T := TX12) (N := 31) rfl rfl inX12 0 (by decide) (ref := RX12) kw_1058 rfl rfl dX12_mapsOf_17 ?_
        refine lv_iload_n SS.1 SS.2.1 dX12_mapsOf_20 rfl (lv_at hl 1 rfl) ?_
        refine j_iald SS hG hP 1 (n := 8) (f := (u.1 0)) rfl (z := s) (by omega) (by omega) dX12_mapsOf_21 ?_
        have hN_21 := (show Sh u s from (by first | exact p1 | exact p3)).1
        refine lv_aload_n SS.1 SS.2.1 dX12_mapsOf_22 rfl (lv_at hl 0 rfl) ?_
        refine j_get SS hG hP 0 (v := .ref (q 0)) (C := RX12) (T := TX12) (N := 31) rfl rfl inX12 0 (by decide) (ref := RX12) kw_1058 rfl rfl dX12_mapsOf_23 ?_
        refine lv_iload_n SS.1 SS.2.1 dX12_mapsOf_26 rfl (lv_at hl 2 rfl) ?_
        refine j_iald SS hG hP 1 (n := 8) (f := (u.1 0)) rfl (z := s2) (by omega) (by omega) dX12_mapsOf_27 ?_
        have hN_27 := (show Sh u s2 from (by first | exact p1 | exact p3)).1
        refine j_icmp_ne SS (tgt := 77) (x := (mN u s)) (y := (mN u s2)) dX12_mapsOf_28 (by decide) (by omega) (by omega) (fun c_28 => ?_) (fun c_28 => ?_)
        · skip
          refine lv_iload_n SS.1 SS.2.1 dX12_mapsOf_77 rfl (lv_at hl 3 rfl) ?_
          exact W.iret SS.1 SS.2.1 hr (fun t ht hW => ⟨_, rfl, ⟨a, rfl, (⟨by by_cases e : mN u s = mN u s2; exact Or.inr ⟨e, by have w := i5_2; rw [show i = mN u s by omega] at w; exact w⟩; exact Or.inl ⟨e, i5_3 e⟩, by omega, by omega⟩)⟩, ht⟩) (fun _ h => nomatch h) dX12_mapsOf_78 hlk
        · skip
          refine lv_iload_n SS.1 SS.2.1 dX12_mapsOf_31 rfl (lv_at hl 3 rfl) ?_
          refine lv_aload_n SS.1 SS.2.1 dX12_mapsOf_32 rfl (lv_at hl 0 rfl) ?_
          refine lv_iload_n SS.1 SS.2.1 dX12_mapsOf_33 rfl (lv_at hl 1 rfl) ?_
          refine lv_iload_n SS.1 SS.2.1 dX12_mapsOf_34 rfl (lv_at hl 2 rfl) ?_
          refine lv_iload SS.1 SS.2.1 dX12_mapsOf_35 (lv_at hl 4 rfl) ?_
          refine j_iconst SS dX12_mapsOf_37 ?_
          refine j_vRi SS (As := [.int (J s), .int (J s2), .int (J i), .int (J 1)]) (rest := [.int (J a)]) (c_X12_isMap3 l D o q u s s2 i 1 (show 0 ≤ s ∧ s ≤ 7 from (by omega)) (show Sh u s from (p1)) (show 0 ≤ s2 ∧ s2 ≤ 7 from (by omega)) (show Sh u s2 from (p3)) (show 2 < mN u s from (by omega)) (show mN u s2 = mN u s from (by omega)) (show 0 ≤ i ∧ i < mN u s from (by omega)) (show (1 : Int) = 1 ∨ (1 : Int) = -1 from (by omega))) mf_X12_isMap kw_1297 hG hP hP (ci := 8) (q0 := 0) rfl rfl rfl rfl hl.1 ⟨⟨Nat.le_of_ble_eq_true rfl, Nat.le_of_ble_eq_true rfl⟩, Nat.le_of_ble_eq_true rfl, Nat.le_refl _, Nat.le_refl _⟩ rfl dX12_mapsOf_38 (fun z_38 h_38 => ?_)
          have h_38 : (z_38 = 1 ∧ mAF u s s2 i (1 : Int)) ∨ (z_38 = 0 ∧ ¬ mAF u s s2 i (1 : Int)) := h_38
          have L_49 : ∀ (b1 : Int) (ls : Array Slot) (hl : lv_has ls 5 [(0, .ref o), (1, .int (J s)), (2, .int (J s2)), (4, .int (J i))]) (i49_0 : (b1 = 1 ∧ mAF u s s2 i 1) ∨ (b1 = 0 ∧ ¬ mAF u s s2 i 1)), W pr l en (headSpec (jw yX12_mapsOf cX12_mapsOf 5 (some .int)) (jr 2 68)).room st mi (([.ref o, .int (J s), .int (J s2)] : List Value).toArray) below meth co st.heap [] 0 0 (MQ below (jRi (fun z => mbM u s s2 z ∧ 0 ≤ z ∧ z ≤ 48)) (([.ref o, .int (J s), .int (J s2)] : List Value).toArray) st 0 0 (fun _ => False)) (F0 mi 49 ls [.int (J b1), .int (J a)]) := by
            intro b1 ls hl i49_0
            refine j_iadd SS (x := a) (y := b1) dX12_mapsOf_49 ?_
            refine lv_istore_n (lv' := [(3, .int (J (a + b1))), (0, .ref o), (1, .int (J s)), (2, .int (J s2)), (4, .int (J i))]) SS.1 SS.2.1 dX12_mapsOf_50 rfl hl (by decide) rfl (fun ls hl => ?_)
            refine lv_iload_n SS.1 SS.2.1 dX12_mapsOf_51 rfl (lv_at hl 0 rfl) ?_
            refine lv_aload_n SS.1 SS.2.1 dX12_mapsOf_52 rfl (lv_at hl 1 rfl) ?_
            refine lv_iload_n SS.1 SS.2.1 dX12_mapsOf_53 rfl (lv_at hl 2 rfl) ?_
            refine lv_iload_n SS.1 SS.2.1 dX12_mapsOf_54 rfl (lv_at hl 3 rfl) ?_
            refine lv_iload SS.1 SS.2.1 dX12_mapsOf_55 (lv_at hl 4 rfl) ?_
            refine j_iconst SS dX12_mapsOf_57 ?_
            refine j_vRi SS (As := [.int (J s), .int (J s2), .int (J i), .int (J (-1))]) (rest := [.int (J (a + b1))]) (c_X12_isMap3 l D o q u s s2 i (-1) (show 0 ≤ s ∧ s ≤ 7 from (by omega)) (show Sh u s from (p1)) (show 0 ≤ s2 ∧ s2 ≤ 7 from (by omega)) (show Sh u s2 from (p3)) (show 2 < mN u s from (by omega)) (show mN u s2 = mN u s from (by omega)) (show 0 ≤ i ∧ i < mN u s from (by omega)) (show (-1 : Int) = 1 ∨ (-1 : Int) = -1 from (by omega))) mf_X12_isMap kw_1297 hG hP hP (ci := 8) (q0 := 0) rfl rfl rfl rfl hl.1 ⟨⟨Nat.le_of_ble_eq_true rfl, Nat.le_of_ble_eq_true rfl⟩, Nat.le_of_ble_eq_true rfl, Nat.le_refl _, Nat.le_refl _⟩ rfl dX12_mapsOf_58 (fun z_58 h_58 => ?_)
            have h_58 : (z_58 = 1 ∧ mAF u s s2 i (-1 : Int)) ∨ (z_58 = 0 ∧ ¬ mAF u s s2 i (-1 : Int)) := h_58
            have L_69 : ∀ (b2 : Int) (ls : Array Slot) (hl : lv_has ls 5 [(0, .ref o), (1, .int (J s)), (2, .int (J s2)), (4, .int (J i))]) (i69_0 : (b2 = 1 ∧ mAF u s s2 i (-1)) ∨ (b2 = 0 ∧ ¬ mAF u s s2 i (-1))), W pr l en (headSpec (jw yX12_mapsOf cX12_mapsOf 5 (some .int)) (jr 2 68)).room st mi (([.ref o, .int (J s), .int (J s2)] : List Value).toArray) below meth co st.heap [] 0 0 (MQ below (jRi (fun z => mbM u s s2 z ∧ 0 ≤ z ∧ z ≤ 48)) (([.ref o, .int (J s), .int (J s2)] : List Value).toArray) st 0 0 (fun _ => False)) (F0 mi 69 ls [.int (J b2), .int (J (a + b1))]) := by
              intro b2 ls hl i69_0
              refine j_iadd SS (x := (a + b1)) (y := b2) dX12_mapsOf_69 ?_
              refine lv_istore_n (lv' := [(3, .int (J ((a + b1) + b2))), (0, .ref o), (1, .int (J s)), (2, .int (J s2)), (4, .int (J i))]) SS.1 SS.2.1 dX12_mapsOf_70 rfl hl (by decide) rfl (fun ls hl => ?_)
              refine lv_iinc (v := J (i + 1)) (lv' := [(4, .int (J (i + 1))), (3, .int (J ((a + b1) + b2))), (0, .ref o), (1, .int (J s)), (2, .int (J s2))]) SS.1 SS.2.1 dX12_mapsOf_71 hl (k := 4) rfl (J_add _ _) (by decide) rfl (fun ls hl => ?_)
              refine lv_goto (tgt := 5) SS.1 SS.2.1 dX12_mapsOf_74 (by decide) ?_
              exact ih_5 ((a + b1) + b2) (i + 1) ls (lv_sub hl [2, 3, 4, 1, 0] rfl) (by omega) (by omega) (CN2_s (F := fun j => mAF u s s2 j 1) (G := fun j => mAF u s s2 j (-1)) (a := b1) (b := b2) i5_0.1 i5_2 i49_0 i69_0 (by omega)) (by omega) (by omega)
            refine j_if_eq SS (tgt := 68) (x := z_58) dX12_mapsOf_61 (by decide) (by omega) (fun c_61 => ?_) (fun c_61 => ?_)
            · skip
              refine j_iconst SS dX12_mapsOf_68 ?_
              exact L_69 0 ls (lv_sub hl [1, 2, 3, 4] rfl) (by rcases h_58 with q | q <;> first | exact Or.inl ⟨rfl, q.2⟩ | exact Or.inr ⟨rfl, q.2⟩ | (exfalso; omega))
            · skip
              refine j_iconst SS dX12_mapsOf_64 ?_
              refine lv_goto (tgt := 69) SS.1 SS.2.1 dX12_mapsOf_65 (by decide) ?_
              exact L_69 1 ls (lv_sub hl [1, 2, 3, 4] rfl) (by rcases h_58 with q | q <;> first | exact Or.inl ⟨rfl, q.2⟩ | exact Or.inr ⟨rfl, q.2⟩ | (exfalso; omega))
          refine j_if_eq SS (tgt := 48) (x := z_38) dX12_mapsOf_41 (by decide) (by omega) (fun c_41 => ?_) (fun c_41 => ?_)
          · skip
            refine j_iconst SS dX12_mapsOf_48 ?_
            exact L_49 0 ls (lv_sub hl [0, 1, 2, 4] rfl) (by rcases h_38 with q | q <;> first | exact Or.inl ⟨rfl, q.2⟩ | exact Or.inr ⟨rfl, q.2⟩ | (exfalso; omega))
          · skip
            refine j_iconst SS dX12_mapsOf_44 ?_
            refine lv_goto (tgt := 49) SS.1 SS.2.1 dX12_mapsOf_45 (by decide) ?_
            exact L_49 1 ls (lv_sub hl [0, 1, 2, 4] rfl) (by rcases h_38 with q | q <;> first | exact Or.inl ⟨rfl, q.2⟩ | exact Or.inr ⟨rfl, q.2⟩ | (exfalso; omega))
  exact L_5 ((mN u s - (0 : Int)).toNat + 1) 0 0 ls (lv_sub hl [2, 3, 4, 1, 0] rfl) (by omega) (by omega) (rfl) (by omega) (Nat.lt_succ_self _)

set_option maxHeartbeats 4000000 in
set_option maxRecDepth 100000 in
theorem c_X12_maps3 (l : Launch) (D : JD) (o : Nat) (q : Nat → Nat) (u : MS) (s : Int) (s2 : Int) (p0 : IM u) (p1 : -2147483648 ≤ s ∧ s ≤ 2147483647) (p2 : -2147483648 ≤ s2 ∧ s2 ≤ 2147483647) : Met l yX12_maps (jw yX12_maps cX12_maps 3 (some .int)) (jr 3 92) (jP [.ref o, .int (J s), .int (J s2)] D (fun H => va_P D.1 j_cl (mW D o q u) H)) (jRi (fun z => maM u s s2 z)) 0 0 (fun _ => False) := by
  refine Met.ofW (cc := cX12_maps) (maxL := 3) (ret := (some .int)) (by decide) rfl ?_
  intro pr en st mi args below meth co s₁ B hml hv
  obtain ⟨rfl, hG, hP⟩ := hv
  have hr := B.returns
  have hlk := B.notSynchronized
  have SS : jS pr mi co cX12_maps 3 st _ RX12 := ⟨B.exec, B.bytes, hml, findClass_of_methodNamed B.named, fun w hw => atoms_spec (ws := (jw yX12_maps cX12_maps 3 (some .int))) B.pre w (List.mem_cons_of_mem _ hw)⟩
  have hl := lv_entry ([.ref o, .int (J s), .int (J s2)]) (n := 3) (Nat.le_of_ble_eq_true rfl)
  rw [lg_entry_eq]
  generalize (lg_sl ([.ref o, .int (J s), .int (J s2)]) ++ List.replicate (3 - (lg_sl ([.ref o, .int (J s), .int (J s2)])).length) Slot.unset).toArray = ls at hl ⊢
  have hl : lv_has ls 3 [(0, .ref o), (1, .int (J s)), (2, .int (J s2))] := hl
  refine lv_iload_n SS.1 SS.2.1 dX12_maps_0 rfl (lv_at hl 1 rfl) ?_
  refine j_sRi SS (As := [.int (J s)]) (rest := []) (c_X12_isShape l D s (show -2147483648 ≤ s ∧ s ≤ 2147483647 from (by omega))) mf_X12_isShape kw_1156 hG trivial rfl hl.1 ⟨⟨Nat.le_of_ble_eq_true rfl, Nat.le_of_ble_eq_true rfl⟩, Nat.le_of_ble_eq_true rfl, Nat.le_refl _, Nat.le_refl _⟩ rfl dX12_maps_1 (fun z_1 h_1 => ?_)
  have h_1 : (z_1 = 1 ∧ (0 ≤ s ∧ s ≤ 7)) ∨ (z_1 = 0 ∧ ¬ (0 ≤ s ∧ s ≤ 7)) := h_1
  refine j_if_eq SS (tgt := 14) (x := z_1) dX12_maps_4 (by decide) (by omega) (fun c_4 => ?_) (fun c_4 => ?_)
  · skip
    refine j_iconst SS dX12_maps_14 ?_
    exact W.iret SS.1 SS.2.1 hr (fun t ht hW => ⟨_, rfl, ⟨(-1), rfl, (by first | exact Or.inl ⟨by omega, rfl⟩ | exact Or.inr ⟨by omega, Or.inl ⟨by omega, rfl⟩⟩ | exact Or.inr ⟨by omega, Or.inr ⟨by omega, h_40.1⟩⟩)⟩, ht⟩) (fun _ h => nomatch h) dX12_maps_15 hlk
  · skip
    refine lv_iload_n SS.1 SS.2.1 dX12_maps_7 rfl (lv_at hl 2 rfl) ?_
    refine j_sRi SS (As := [.int (J s2)]) (rest := []) (c_X12_isShape l D s2 (show -2147483648 ≤ s2 ∧ s2 ≤ 2147483647 from (by omega))) mf_X12_isShape kw_1156 hG trivial rfl hl.1 ⟨⟨Nat.le_of_ble_eq_true rfl, Nat.le_of_ble_eq_true rfl⟩, Nat.le_of_ble_eq_true rfl, Nat.le_refl _, Nat.le_refl _⟩ rfl dX12_maps_8 (fun z_8 h_8 => ?_)
    have h_8 : (z_8 = 1 ∧ (0 ≤ s2 ∧ s2 ≤ 7)) ∨ (z_8 = 0 ∧ ¬ (0 ≤ s2 ∧ s2 ≤ 7)) := h_8
    refine j_if_ne SS (tgt := 16) (x := z_8) dX12_maps_11 (by decide) (by omega) (fun c_11 => ?_) (fun c_11 => ?_)
    · skip
      refine lv_aload_n SS.1 SS.2.1 dX12_maps_16 rfl (lv_at hl 0 rfl) ?_
      refine lv_iload_n SS.1 SS.2.1 dX12_maps_17 rfl (lv_at hl 1 rfl) ?_
      refine j_vRi SS (As := [.int (J s)]) (rest := []) (c_X12_isPolygon l D o q u s (show 0 ≤ s ∧ s ≤ 7 from (by omega)) (show Sh u s from (p0.1 _ (by omega) (by omega)))) mf_X12_isPolygon kw_1240 hG hP hP (ci := 8) (q0 := 0) rfl rfl rfl rfl hl.1 ⟨⟨Nat.le_of_ble_eq_true rfl, Nat.le_of_ble_eq_true rfl⟩, Nat.le_of_ble_eq_true rfl, Nat.le_refl _, Nat.le_refl _⟩ rfl dX12_maps_18 (fun z_18 h_18 => ?_)
      have h_18 : (z_18 = 1 ∧ 2 < mN u s) ∨ (z_18 = 0 ∧ mN u s ≤ 2) := h_18
      refine j_if_eq SS (tgt := 32) (x := z_18) dX12_maps_21 (by decide) (by omega) (fun c_21 => ?_) (fun c_21 => ?_)
      · skip
        refine j_bipush SS dX12_maps_32 (by decide +kernel) ?_
        refine lv_goto (tgt := 43) SS.1 SS.2.1 dX12_maps_34 (by decide) ?_
        exact W.iret SS.1 SS.2.1 hr (fun t ht hW => ⟨_, rfl, ⟨(-2), rfl, (by first | exact Or.inl ⟨by omega, rfl⟩ | exact Or.inr ⟨by omega, Or.inl ⟨by omega, rfl⟩⟩ | exact Or.inr ⟨by omega, Or.inr ⟨by omega, h_40.1⟩⟩)⟩, ht⟩) (fun _ h => nomatch h) dX12_maps_43 hlk
      · skip
        refine lv_aload_n SS.1 SS.2.1 dX12_maps_24 rfl (lv_at hl 0 rfl) ?_
        refine lv_iload_n SS.1 SS.2.1 dX12_maps_25 rfl (lv_at hl 2 rfl) ?_
        refine j_vRi SS (As := [.int (J s2)]) (rest := []) (c_X12_isPolygon l D o q u s2 (show 0 ≤ s2 ∧ s2 ≤ 7 from (by omega)) (show Sh u s2 from (p0.1 _ (by omega) (by omega)))) mf_X12_isPolygon kw_1240 hG hP hP (ci := 8) (q0 := 0) rfl rfl rfl rfl hl.1 ⟨⟨Nat.le_of_ble_eq_true rfl, Nat.le_of_ble_eq_true rfl⟩, Nat.le_of_ble_eq_true rfl, Nat.le_refl _, Nat.le_refl _⟩ rfl dX12_maps_26 (fun z_26 h_26 => ?_)
        have h_26 : (z_26 = 1 ∧ 2 < mN u s2) ∨ (z_26 = 0 ∧ mN u s2 ≤ 2) := h_26
        refine j_if_ne SS (tgt := 37) (x := z_26) dX12_maps_29 (by decide) (by omega) (fun c_29 => ?_) (fun c_29 => ?_)
        · skip
          refine lv_aload_n SS.1 SS.2.1 dX12_maps_37 rfl (lv_at hl 0 rfl) ?_
          refine lv_iload_n SS.1 SS.2.1 dX12_maps_38 rfl (lv_at hl 1 rfl) ?_
          refine lv_iload_n SS.1 SS.2.1 dX12_maps_39 rfl (lv_at hl 2 rfl) ?_
          refine j_vRi SS (As := [.int (J s), .int (J s2)]) (rest := []) (c_X12_mapsOf3 l D o q u s s2 (show 0 ≤ s ∧ s ≤ 7 from (by omega)) (show Sh u s from (p0.1 _ (by omega) (by omega))) (show 0 ≤ s2 ∧ s2 ≤ 7 from (by omega)) (show Sh u s2 from (p0.1 _ (by omega) (by omega))) (show 2 < mN u s from (by omega))) mf_X12_mapsOf kw_1293 hG hP hP (ci := 8) (q0 := 0) rfl rfl rfl rfl hl.1 ⟨⟨Nat.le_of_ble_eq_true rfl, Nat.le_of_ble_eq_true rfl⟩, Nat.le_of_ble_eq_true rfl, Nat.le_refl _, Nat.le_refl _⟩ rfl dX12_maps_40 (fun z_40 h_40 => ?_)
          have h_40 : mbM u s s2 z_40 ∧ 0 ≤ z_40 ∧ z_40 ≤ 48 := h_40
          exact W.iret SS.1 SS.2.1 hr (fun t ht hW => ⟨_, rfl, ⟨z_40, rfl, (by first | exact Or.inl ⟨by omega, rfl⟩ | exact Or.inr ⟨by omega, Or.inl ⟨by omega, rfl⟩⟩ | exact Or.inr ⟨by omega, Or.inr ⟨by omega, h_40.1⟩⟩)⟩, ht⟩) (fun _ h => nomatch h) dX12_maps_43 hlk
        · skip
          refine j_bipush SS dX12_maps_32 (by decide +kernel) ?_
          refine lv_goto (tgt := 43) SS.1 SS.2.1 dX12_maps_34 (by decide) ?_
          exact W.iret SS.1 SS.2.1 hr (fun t ht hW => ⟨_, rfl, ⟨(-2), rfl, (by first | exact Or.inl ⟨by omega, rfl⟩ | exact Or.inr ⟨by omega, Or.inl ⟨by omega, rfl⟩⟩ | exact Or.inr ⟨by omega, Or.inr ⟨by omega, h_40.1⟩⟩)⟩, ht⟩) (fun _ h => nomatch h) dX12_maps_43 hlk
    · skip
      refine j_iconst SS dX12_maps_14 ?_
      exact W.iret SS.1 SS.2.1 hr (fun t ht hW => ⟨_, rfl, ⟨(-1), rfl, (by first | exact Or.inl ⟨by omega, rfl⟩ | exact Or.inr ⟨by omega, Or.inl ⟨by omega, rfl⟩⟩ | exact Or.inr ⟨by omega, Or.inr ⟨by omega, h_40.1⟩⟩)⟩, ht⟩) (fun _ h => nomatch h) dX12_maps_15 hlk

set_option maxHeartbeats 4000000 in
set_option maxRecDepth 100000 in
theorem c_X12_isAlike3 (l : Launch) (D : JD) (o : Nat) (q : Nat → Nat) (u : MS) (s : Int) (s2 : Int) (p0 : 0 ≤ s ∧ s ≤ 7) (p1 : Sh u s) (p2 : 0 ≤ s2 ∧ s2 ≤ 7) (p3 : Sh u s2) : Met l yX12_isAlike (jw yX12_isAlike cX12_isAlike 3 (some .boolean)) (jr 4 92) (jP [.ref o, .int (J s), .int (J s2)] D (fun H => va_P D.1 j_cl (mW D o q u) H)) (jRi (fun z => alM u s s2 z ∧ (z = 0 ∨ z = 1))) 0 0 (fun _ => False) := by
  refine Met.ofW (cc := cX12_isAlike) (maxL := 3) (ret := (some .boolean)) (by decide) rfl ?_
  intro pr en st mi args below meth co s₁ B hml hv
  obtain ⟨rfl, hG, hP⟩ := hv
  have hr := B.returns
  have hlk := B.notSynchronized
  have SS : jS pr mi co cX12_isAlike 3 st _ RX12 := ⟨B.exec, B.bytes, hml, findClass_of_methodNamed B.named, fun w hw => atoms_spec (ws := (jw yX12_isAlike cX12_isAlike 3 (some .boolean))) B.pre w (List.mem_cons_of_mem _ hw)⟩
  have hl := lv_entry ([.ref o, .int (J s), .int (J s2)]) (n := 3) (Nat.le_of_ble_eq_true rfl)
  rw [lg_entry_eq]
  generalize (lg_sl ([.ref o, .int (J s), .int (J s2)]) ++ List.replicate (3 - (lg_sl ([.ref o, .int (J s), .int (J s2)])).length) Slot.unset).toArray = ls at hl ⊢
  have hl : lv_has ls 3 [(0, .ref o), (1, .int (J s)), (2, .int (J s2))] := hl
  have hN := p1.1
  have hN2 := p3.1
  refine lv_aload_n SS.1 SS.2.1 dX12_isAlike_0 rfl (lv_at hl 0 rfl) ?_
  refine lv_iload_n SS.1 SS.2.1 dX12_isAlike_1 rfl (lv_at hl 1 rfl) ?_
  refine j_vRi SS (As := [.int (J s)]) (rest := []) (c_X12_isPolygon l D o q u s (show 0 ≤ s ∧ s ≤ 7 from (by omega)) (show Sh u s from ((by first | exact p1 | exact p3)))) mf_X12_isPolygon kw_1240 hG hP hP (ci := 8) (q0 := 0) rfl rfl rfl rfl hl.1 ⟨⟨Nat.le_of_ble_eq_true rfl, Nat.le_of_ble_eq_true rfl⟩, Nat.le_of_ble_eq_true rfl, Nat.le_refl _, Nat.le_refl _⟩ rfl dX12_isAlike_2 (fun z_2 h_2 => ?_)
  have h_2 : (z_2 = 1 ∧ 2 < mN u s) ∨ (z_2 = 0 ∧ mN u s ≤ 2) := h_2
  refine j_if_eq SS (tgt := 31) (x := z_2) dX12_isAlike_5 (by decide) (by omega) (fun c_5 => ?_) (fun c_5 => ?_)
  · skip
    refine lv_aload_n SS.1 SS.2.1 dX12_isAlike_31 rfl (lv_at hl 0 rfl) ?_
    refine j_get SS hG hP 0 (v := .ref (q 0)) (C := RX12) (T := TX12) (N := 31) rfl rfl inX12 0 (by decide) (ref := RX12) kw_1058 rfl rfl dX12_isAlike_32 ?_
    refine lv_iload_n SS.1 SS.2.1 dX12_isAlike_35 rfl (lv_at hl 1 rfl) ?_
    refine j_iald SS hG hP 1 (n := 8) (f := (u.1 0)) rfl (z := s) (by omega) (by omega) dX12_isAlike_36 ?_
    have hN_36 := (show Sh u s from (by first | exact p1 | exact p3)).1
    refine lv_aload_n SS.1 SS.2.1 dX12_isAlike_37 rfl (lv_at hl 0 rfl) ?_
    refine j_get SS hG hP 0 (v := .ref (q 0)) (C := RX12) (T := TX12) (N := 31) rfl rfl inX12 0 (by decide) (ref := RX12) kw_1058 rfl rfl dX12_isAlike_38 ?_
    refine lv_iload_n SS.1 SS.2.1 dX12_isAlike_41 rfl (lv_at hl 2 rfl) ?_
    refine j_iald SS hG hP 1 (n := 8) (f := (u.1 0)) rfl (z := s2) (by omega) (by omega) dX12_isAlike_42 ?_
    have hN_42 := (show Sh u s2 from (by first | exact p1 | exact p3)).1
    refine j_icmp_ne SS (tgt := 73) (x := (mN u s)) (y := (mN u s2)) dX12_isAlike_43 (by decide) (by omega) (by omega) (fun c_43 => ?_) (fun c_43 => ?_)
    · skip
      refine j_iconst SS dX12_isAlike_73 ?_
      exact W.zret SS.1 SS.2.1 hr (j_nz (by decide)) (fun t ht hW => ⟨_, rfl, ⟨0, rfl, (⟨Or.inl ⟨by omega, by first | exact Or.inl ⟨rfl, by omega, Or.inl (by omega)⟩ | exact Or.inl ⟨rfl, by omega, Or.inr (by rw [← h_58.1, ← h_63.1]; omega)⟩ | exact Or.inr ⟨rfl, fun q => by omega⟩ | exact Or.inr ⟨rfl, fun q => by have q2 := q.2; rw [← h_58.1, ← h_63.1] at q2; omega⟩⟩, by omega⟩)⟩, ht⟩) (fun _ h => nomatch h) dX12_isAlike_74 hlk
    · skip
      refine lv_aload_n SS.1 SS.2.1 dX12_isAlike_46 rfl (lv_at hl 0 rfl) ?_
      refine j_get SS hG hP 0 (v := .ref (q 0)) (C := RX12) (T := TX12) (N := 31) rfl rfl inX12 0 (by decide) (ref := RX12) kw_1058 rfl rfl dX12_isAlike_47 ?_
      refine lv_iload_n SS.1 SS.2.1 dX12_isAlike_50 rfl (lv_at hl 1 rfl) ?_
      refine j_iald SS hG hP 1 (n := 8) (f := (u.1 0)) rfl (z := s) (by omega) (by omega) dX12_isAlike_51 ?_
      have hN_51 := (show Sh u s from (by first | exact p1 | exact p3)).1
      refine j_iconst SS dX12_isAlike_52 ?_
      refine j_icmp_ne SS (tgt := 69) (x := (mN u s)) (y := 2) dX12_isAlike_53 (by decide) (by omega) (by decide) (fun c_53 => ?_) (fun c_53 => ?_)
      · skip
        refine j_iconst SS dX12_isAlike_69 ?_
        refine lv_goto (tgt := 74) SS.1 SS.2.1 dX12_isAlike_70 (by decide) ?_
        exact W.zret SS.1 SS.2.1 hr (j_nz (by decide)) (fun t ht hW => ⟨_, rfl, ⟨1, rfl, (⟨Or.inl ⟨by omega, by first | exact Or.inl ⟨rfl, by omega, Or.inl (by omega)⟩ | exact Or.inl ⟨rfl, by omega, Or.inr (by rw [← h_58.1, ← h_63.1]; omega)⟩ | exact Or.inr ⟨rfl, fun q => by omega⟩ | exact Or.inr ⟨rfl, fun q => by have q2 := q.2; rw [← h_58.1, ← h_63.1] at q2; omega⟩⟩, by omega⟩)⟩, ht⟩) (fun _ h => nomatch h) dX12_isAlike_74 hlk
      · skip
        refine lv_aload_n SS.1 SS.2.1 dX12_isAlike_56 rfl (lv_at hl 0 rfl) ?_
        refine lv_iload_n SS.1 SS.2.1 dX12_isAlike_57 rfl (lv_at hl 1 rfl) ?_
        refine j_vRi SS (As := [.int (J s)]) (rest := []) (c_X12_edgeOf l D o q u s (show 0 ≤ s ∧ s ≤ 7 from (by omega)) (show Sh u s from ((by first | exact p1 | exact p3)))) mf_X12_edgeOf kw_1222 hG hP hP (ci := 8) (q0 := 0) rfl rfl rfl rfl hl.1 ⟨⟨Nat.le_of_ble_eq_true rfl, Nat.le_of_ble_eq_true rfl⟩, Nat.le_of_ble_eq_true rfl, Nat.le_refl _, Nat.le_refl _⟩ rfl dX12_isAlike_58 (fun z_58 h_58 => ?_)
        have h_58 : z_58 = mEd u s ∧ 0 ≤ z_58 ∧ z_58 ≤ 2000 := h_58
        refine lv_aload_n SS.1 SS.2.1 dX12_isAlike_61 rfl (lv_at hl 0 rfl) ?_
        refine lv_iload_n SS.1 SS.2.1 dX12_isAlike_62 rfl (lv_at hl 2 rfl) ?_
        refine j_vRi SS (As := [.int (J s2)]) (rest := [.int (J z_58)]) (c_X12_edgeOf l D o q u s2 (show 0 ≤ s2 ∧ s2 ≤ 7 from (by omega)) (show Sh u s2 from ((by first | exact p1 | exact p3)))) mf_X12_edgeOf kw_1222 hG hP hP (ci := 8) (q0 := 0) rfl rfl rfl rfl hl.1 ⟨⟨Nat.le_of_ble_eq_true rfl, Nat.le_of_ble_eq_true rfl⟩, Nat.le_of_ble_eq_true rfl, Nat.le_refl _, Nat.le_refl _⟩ rfl dX12_isAlike_63 (fun z_63 h_63 => ?_)
        have h_63 : z_63 = mEd u s2 ∧ 0 ≤ z_63 ∧ z_63 ≤ 2000 := h_63
        refine j_icmp_ne SS (tgt := 73) (x := z_58) (y := z_63) dX12_isAlike_66 (by decide) (by omega) (by omega) (fun c_66 => ?_) (fun c_66 => ?_)
        · skip
          refine j_iconst SS dX12_isAlike_73 ?_
          exact W.zret SS.1 SS.2.1 hr (j_nz (by decide)) (fun t ht hW => ⟨_, rfl, ⟨0, rfl, (⟨Or.inl ⟨by omega, by first | exact Or.inl ⟨rfl, by omega, Or.inl (by omega)⟩ | exact Or.inl ⟨rfl, by omega, Or.inr (by rw [← h_58.1, ← h_63.1]; omega)⟩ | exact Or.inr ⟨rfl, fun q => by omega⟩ | exact Or.inr ⟨rfl, fun q => by have q2 := q.2; rw [← h_58.1, ← h_63.1] at q2; omega⟩⟩, by omega⟩)⟩, ht⟩) (fun _ h => nomatch h) dX12_isAlike_74 hlk
        · skip
          refine j_iconst SS dX12_isAlike_69 ?_
          refine lv_goto (tgt := 74) SS.1 SS.2.1 dX12_isAlike_70 (by decide) ?_
          exact W.zret SS.1 SS.2.1 hr (j_nz (by decide)) (fun t ht hW => ⟨_, rfl, ⟨1, rfl, (⟨Or.inl ⟨by omega, by first | exact Or.inl ⟨rfl, by omega, Or.inl (by omega)⟩ | exact Or.inl ⟨rfl, by omega, Or.inr (by rw [← h_58.1, ← h_63.1]; omega)⟩ | exact Or.inr ⟨rfl, fun q => by omega⟩ | exact Or.inr ⟨rfl, fun q => by have q2 := q.2; rw [← h_58.1, ← h_63.1] at q2; omega⟩⟩, by omega⟩)⟩, ht⟩) (fun _ h => nomatch h) dX12_isAlike_74 hlk
  · skip
    refine lv_aload_n SS.1 SS.2.1 dX12_isAlike_8 rfl (lv_at hl 0 rfl) ?_
    refine lv_iload_n SS.1 SS.2.1 dX12_isAlike_9 rfl (lv_at hl 2 rfl) ?_
    refine j_vRi SS (As := [.int (J s2)]) (rest := []) (c_X12_isPolygon l D o q u s2 (show 0 ≤ s2 ∧ s2 ≤ 7 from (by omega)) (show Sh u s2 from ((by first | exact p1 | exact p3)))) mf_X12_isPolygon kw_1240 hG hP hP (ci := 8) (q0 := 0) rfl rfl rfl rfl hl.1 ⟨⟨Nat.le_of_ble_eq_true rfl, Nat.le_of_ble_eq_true rfl⟩, Nat.le_of_ble_eq_true rfl, Nat.le_refl _, Nat.le_refl _⟩ rfl dX12_isAlike_10 (fun z_10 h_10 => ?_)
    have h_10 : (z_10 = 1 ∧ 2 < mN u s2) ∨ (z_10 = 0 ∧ mN u s2 ≤ 2) := h_10
    refine j_if_eq SS (tgt := 31) (x := z_10) dX12_isAlike_13 (by decide) (by omega) (fun c_13 => ?_) (fun c_13 => ?_)
    · skip
      refine lv_aload_n SS.1 SS.2.1 dX12_isAlike_31 rfl (lv_at hl 0 rfl) ?_
      refine j_get SS hG hP 0 (v := .ref (q 0)) (C := RX12) (T := TX12) (N := 31) rfl rfl inX12 0 (by decide) (ref := RX12) kw_1058 rfl rfl dX12_isAlike_32 ?_
      refine lv_iload_n SS.1 SS.2.1 dX12_isAlike_35 rfl (lv_at hl 1 rfl) ?_
      refine j_iald SS hG hP 1 (n := 8) (f := (u.1 0)) rfl (z := s) (by omega) (by omega) dX12_isAlike_36 ?_
      have hN_36 := (show Sh u s from (by first | exact p1 | exact p3)).1
      refine lv_aload_n SS.1 SS.2.1 dX12_isAlike_37 rfl (lv_at hl 0 rfl) ?_
      refine j_get SS hG hP 0 (v := .ref (q 0)) (C := RX12) (T := TX12) (N := 31) rfl rfl inX12 0 (by decide) (ref := RX12) kw_1058 rfl rfl dX12_isAlike_38 ?_
      refine lv_iload_n SS.1 SS.2.1 dX12_isAlike_41 rfl (lv_at hl 2 rfl) ?_
      refine j_iald SS hG hP 1 (n := 8) (f := (u.1 0)) rfl (z := s2) (by omega) (by omega) dX12_isAlike_42 ?_
      have hN_42 := (show Sh u s2 from (by first | exact p1 | exact p3)).1
      refine j_icmp_ne SS (tgt := 73) (x := (mN u s)) (y := (mN u s2)) dX12_isAlike_43 (by decide) (by omega) (by omega) (fun c_43 => ?_) (fun c_43 => ?_)
      · skip
        refine j_iconst SS dX12_isAlike_73 ?_
        exact W.zret SS.1 SS.2.1 hr (j_nz (by decide)) (fun t ht hW => ⟨_, rfl, ⟨0, rfl, (⟨Or.inl ⟨by omega, by first | exact Or.inl ⟨rfl, by omega, Or.inl (by omega)⟩ | exact Or.inl ⟨rfl, by omega, Or.inr (by rw [← h_58.1, ← h_63.1]; omega)⟩ | exact Or.inr ⟨rfl, fun q => by omega⟩ | exact Or.inr ⟨rfl, fun q => by have q2 := q.2; rw [← h_58.1, ← h_63.1] at q2; omega⟩⟩, by omega⟩)⟩, ht⟩) (fun _ h => nomatch h) dX12_isAlike_74 hlk
      · skip
        refine lv_aload_n SS.1 SS.2.1 dX12_isAlike_46 rfl (lv_at hl 0 rfl) ?_
        refine j_get SS hG hP 0 (v := .ref (q 0)) (C := RX12) (T := TX12) (N := 31) rfl rfl inX12 0 (by decide) (ref := RX12) kw_1058 rfl rfl dX12_isAlike_47 ?_
        refine lv_iload_n SS.1 SS.2.1 dX12_isAlike_50 rfl (lv_at hl 1 rfl) ?_
        refine j_iald SS hG hP 1 (n := 8) (f := (u.1 0)) rfl (z := s) (by omega) (by omega) dX12_isAlike_51 ?_
        have hN_51 := (show Sh u s from (by first | exact p1 | exact p3)).1
        refine j_iconst SS dX12_isAlike_52 ?_
        refine j_icmp_ne SS (tgt := 69) (x := (mN u s)) (y := 2) dX12_isAlike_53 (by decide) (by omega) (by decide) (fun c_53 => ?_) (fun c_53 => ?_)
        · skip
          refine j_iconst SS dX12_isAlike_69 ?_
          refine lv_goto (tgt := 74) SS.1 SS.2.1 dX12_isAlike_70 (by decide) ?_
          exact W.zret SS.1 SS.2.1 hr (j_nz (by decide)) (fun t ht hW => ⟨_, rfl, ⟨1, rfl, (⟨Or.inl ⟨by omega, by first | exact Or.inl ⟨rfl, by omega, Or.inl (by omega)⟩ | exact Or.inl ⟨rfl, by omega, Or.inr (by rw [← h_58.1, ← h_63.1]; omega)⟩ | exact Or.inr ⟨rfl, fun q => by omega⟩ | exact Or.inr ⟨rfl, fun q => by have q2 := q.2; rw [← h_58.1, ← h_63.1] at q2; omega⟩⟩, by omega⟩)⟩, ht⟩) (fun _ h => nomatch h) dX12_isAlike_74 hlk
        · skip
          refine lv_aload_n SS.1 SS.2.1 dX12_isAlike_56 rfl (lv_at hl 0 rfl) ?_
          refine lv_iload_n SS.1 SS.2.1 dX12_isAlike_57 rfl (lv_at hl 1 rfl) ?_
          refine j_vRi SS (As := [.int (J s)]) (rest := []) (c_X12_edgeOf l D o q u s (show 0 ≤ s ∧ s ≤ 7 from (by omega)) (show Sh u s from ((by first | exact p1 | exact p3)))) mf_X12_edgeOf kw_1222 hG hP hP (ci := 8) (q0 := 0) rfl rfl rfl rfl hl.1 ⟨⟨Nat.le_of_ble_eq_true rfl, Nat.le_of_ble_eq_true rfl⟩, Nat.le_of_ble_eq_true rfl, Nat.le_refl _, Nat.le_refl _⟩ rfl dX12_isAlike_58 (fun z_58 h_58 => ?_)
          have h_58 : z_58 = mEd u s ∧ 0 ≤ z_58 ∧ z_58 ≤ 2000 := h_58
          refine lv_aload_n SS.1 SS.2.1 dX12_isAlike_61 rfl (lv_at hl 0 rfl) ?_
          refine lv_iload_n SS.1 SS.2.1 dX12_isAlike_62 rfl (lv_at hl 2 rfl) ?_
          refine j_vRi SS (As := [.int (J s2)]) (rest := [.int (J z_58)]) (c_X12_edgeOf l D o q u s2 (show 0 ≤ s2 ∧ s2 ≤ 7 from (by omega)) (show Sh u s2 from ((by first | exact p1 | exact p3)))) mf_X12_edgeOf kw_1222 hG hP hP (ci := 8) (q0 := 0) rfl rfl rfl rfl hl.1 ⟨⟨Nat.le_of_ble_eq_true rfl, Nat.le_of_ble_eq_true rfl⟩, Nat.le_of_ble_eq_true rfl, Nat.le_refl _, Nat.le_refl _⟩ rfl dX12_isAlike_63 (fun z_63 h_63 => ?_)
          have h_63 : z_63 = mEd u s2 ∧ 0 ≤ z_63 ∧ z_63 ≤ 2000 := h_63
          refine j_icmp_ne SS (tgt := 73) (x := z_58) (y := z_63) dX12_isAlike_66 (by decide) (by omega) (by omega) (fun c_66 => ?_) (fun c_66 => ?_)
          · skip
            refine j_iconst SS dX12_isAlike_73 ?_
            exact W.zret SS.1 SS.2.1 hr (j_nz (by decide)) (fun t ht hW => ⟨_, rfl, ⟨0, rfl, (⟨Or.inl ⟨by omega, by first | exact Or.inl ⟨rfl, by omega, Or.inl (by omega)⟩ | exact Or.inl ⟨rfl, by omega, Or.inr (by rw [← h_58.1, ← h_63.1]; omega)⟩ | exact Or.inr ⟨rfl, fun q => by omega⟩ | exact Or.inr ⟨rfl, fun q => by have q2 := q.2; rw [← h_58.1, ← h_63.1] at q2; omega⟩⟩, by omega⟩)⟩, ht⟩) (fun _ h => nomatch h) dX12_isAlike_74 hlk
          · skip
            refine j_iconst SS dX12_isAlike_69 ?_
            refine lv_goto (tgt := 74) SS.1 SS.2.1 dX12_isAlike_70 (by decide) ?_
            exact W.zret SS.1 SS.2.1 hr (j_nz (by decide)) (fun t ht hW => ⟨_, rfl, ⟨1, rfl, (⟨Or.inl ⟨by omega, by first | exact Or.inl ⟨rfl, by omega, Or.inl (by omega)⟩ | exact Or.inl ⟨rfl, by omega, Or.inr (by rw [← h_58.1, ← h_63.1]; omega)⟩ | exact Or.inr ⟨rfl, fun q => by omega⟩ | exact Or.inr ⟨rfl, fun q => by have q2 := q.2; rw [← h_58.1, ← h_63.1] at q2; omega⟩⟩, by omega⟩)⟩, ht⟩) (fun _ h => nomatch h) dX12_isAlike_74 hlk
    · skip
      refine lv_aload_n SS.1 SS.2.1 dX12_isAlike_16 rfl (lv_at hl 0 rfl) ?_
      refine lv_iload_n SS.1 SS.2.1 dX12_isAlike_17 rfl (lv_at hl 1 rfl) ?_
      refine lv_iload_n SS.1 SS.2.1 dX12_isAlike_18 rfl (lv_at hl 2 rfl) ?_
      refine j_vRi SS (As := [.int (J s), .int (J s2)]) (rest := []) (c_X12_mapsOf3 l D o q u s s2 (show 0 ≤ s ∧ s ≤ 7 from (by omega)) (show Sh u s from (p1)) (show 0 ≤ s2 ∧ s2 ≤ 7 from (by omega)) (show Sh u s2 from (p3)) (show 2 < mN u s from (by omega))) mf_X12_mapsOf kw_1293 hG hP hP (ci := 8) (q0 := 0) rfl rfl rfl rfl hl.1 ⟨⟨Nat.le_of_ble_eq_true rfl, Nat.le_of_ble_eq_true rfl⟩, Nat.le_of_ble_eq_true rfl, Nat.le_refl _, Nat.le_refl _⟩ rfl dX12_isAlike_19 (fun z_19 h_19 => ?_)
      have h_19 : mbM u s s2 z_19 ∧ 0 ≤ z_19 ∧ z_19 ≤ 48 := h_19
      refine j_if_le SS (tgt := 29) (x := z_19) dX12_isAlike_22 (by decide) (by omega) (fun c_22 => ?_) (fun c_22 => ?_)
      · skip
        refine j_iconst SS dX12_isAlike_29 ?_
        exact W.zret SS.1 SS.2.1 hr (j_nz (by decide)) (fun t ht hW => ⟨_, rfl, ⟨0, rfl, (⟨Or.inr ⟨by omega, z_19, h_19.1, by omega⟩, by omega⟩)⟩, ht⟩) (fun _ h => nomatch h) dX12_isAlike_30 hlk
      · skip
        refine j_iconst SS dX12_isAlike_25 ?_
        refine lv_goto (tgt := 30) SS.1 SS.2.1 dX12_isAlike_26 (by decide) ?_
        exact W.zret SS.1 SS.2.1 hr (j_nz (by decide)) (fun t ht hW => ⟨_, rfl, ⟨1, rfl, (⟨Or.inr ⟨by omega, z_19, h_19.1, by omega⟩, by omega⟩)⟩, ht⟩) (fun _ h => nomatch h) dX12_isAlike_30 hlk

set_option maxHeartbeats 4000000 in
set_option maxRecDepth 100000 in
theorem c_X12_alike3 (l : Launch) (D : JD) (o : Nat) (q : Nat → Nat) (u : MS) (s : Int) (s2 : Int) (p0 : IM u) (p1 : -2147483648 ≤ s ∧ s ≤ 2147483647) (p2 : -2147483648 ≤ s2 ∧ s2 ≤ 2147483647) : Met l yX12_alike (jw yX12_alike cX12_alike 3 (some .int)) (jr 5 114) (jP [.ref o, .int (J s), .int (J s2)] D (fun H => va_P D.1 j_cl (mW D o q u) H)) (jRi (fun z => akM u s s2 z)) 0 0 (fun _ => False) := by
  refine Met.ofW (cc := cX12_alike) (maxL := 3) (ret := (some .int)) (by decide) rfl ?_
  intro pr en st mi args below meth co s₁ B hml hv
  obtain ⟨rfl, hG, hP⟩ := hv
  have hr := B.returns
  have hlk := B.notSynchronized
  have SS : jS pr mi co cX12_alike 3 st _ RX12 := ⟨B.exec, B.bytes, hml, findClass_of_methodNamed B.named, fun w hw => atoms_spec (ws := (jw yX12_alike cX12_alike 3 (some .int))) B.pre w (List.mem_cons_of_mem _ hw)⟩
  have hl := lv_entry ([.ref o, .int (J s), .int (J s2)]) (n := 3) (Nat.le_of_ble_eq_true rfl)
  rw [lg_entry_eq]
  generalize (lg_sl ([.ref o, .int (J s), .int (J s2)]) ++ List.replicate (3 - (lg_sl ([.ref o, .int (J s), .int (J s2)])).length) Slot.unset).toArray = ls at hl ⊢
  have hl : lv_has ls 3 [(0, .ref o), (1, .int (J s)), (2, .int (J s2))] := hl
  refine lv_iload_n SS.1 SS.2.1 dX12_alike_0 rfl (lv_at hl 1 rfl) ?_
  refine j_sRi SS (As := [.int (J s)]) (rest := []) (c_X12_isShape l D s (show -2147483648 ≤ s ∧ s ≤ 2147483647 from (by omega))) mf_X12_isShape kw_1156 hG trivial rfl hl.1 ⟨⟨Nat.le_of_ble_eq_true rfl, Nat.le_of_ble_eq_true rfl⟩, Nat.le_of_ble_eq_true rfl, Nat.le_refl _, Nat.le_refl _⟩ rfl dX12_alike_1 (fun z_1 h_1 => ?_)
  have h_1 : (z_1 = 1 ∧ (0 ≤ s ∧ s ≤ 7)) ∨ (z_1 = 0 ∧ ¬ (0 ≤ s ∧ s ≤ 7)) := h_1
  refine j_if_eq SS (tgt := 14) (x := z_1) dX12_alike_4 (by decide) (by omega) (fun c_4 => ?_) (fun c_4 => ?_)
  · skip
    refine j_iconst SS dX12_alike_14 ?_
    refine lv_goto (tgt := 32) SS.1 SS.2.1 dX12_alike_15 (by decide) ?_
    exact W.iret SS.1 SS.2.1 hr (fun t ht hW => ⟨_, rfl, ⟨(-1), rfl, (by first | exact Or.inl ⟨by omega, rfl⟩ | exact Or.inr ⟨by omega, by have w := h_21.1; first | (rw [show z_21 = 1 by omega] at w; exact w) | (rw [show z_21 = 0 by omega] at w; exact w)⟩)⟩, ht⟩) (fun _ h => nomatch h) dX12_alike_32 hlk
  · skip
    refine lv_iload_n SS.1 SS.2.1 dX12_alike_7 rfl (lv_at hl 2 rfl) ?_
    refine j_sRi SS (As := [.int (J s2)]) (rest := []) (c_X12_isShape l D s2 (show -2147483648 ≤ s2 ∧ s2 ≤ 2147483647 from (by omega))) mf_X12_isShape kw_1156 hG trivial rfl hl.1 ⟨⟨Nat.le_of_ble_eq_true rfl, Nat.le_of_ble_eq_true rfl⟩, Nat.le_of_ble_eq_true rfl, Nat.le_refl _, Nat.le_refl _⟩ rfl dX12_alike_8 (fun z_8 h_8 => ?_)
    have h_8 : (z_8 = 1 ∧ (0 ≤ s2 ∧ s2 ≤ 7)) ∨ (z_8 = 0 ∧ ¬ (0 ≤ s2 ∧ s2 ≤ 7)) := h_8
    refine j_if_ne SS (tgt := 18) (x := z_8) dX12_alike_11 (by decide) (by omega) (fun c_11 => ?_) (fun c_11 => ?_)
    · skip
      refine lv_aload_n SS.1 SS.2.1 dX12_alike_18 rfl (lv_at hl 0 rfl) ?_
      refine lv_iload_n SS.1 SS.2.1 dX12_alike_19 rfl (lv_at hl 1 rfl) ?_
      refine lv_iload_n SS.1 SS.2.1 dX12_alike_20 rfl (lv_at hl 2 rfl) ?_
      refine j_vRi SS (As := [.int (J s), .int (J s2)]) (rest := []) (c_X12_isAlike3 l D o q u s s2 (show 0 ≤ s ∧ s ≤ 7 from (by omega)) (show Sh u s from (p0.1 _ (by omega) (by omega))) (show 0 ≤ s2 ∧ s2 ≤ 7 from (by omega)) (show Sh u s2 from (p0.1 _ (by omega) (by omega)))) mf_X12_isAlike kw_1305 hG hP hP (ci := 8) (q0 := 0) rfl rfl rfl rfl hl.1 ⟨⟨Nat.le_of_ble_eq_true rfl, Nat.le_of_ble_eq_true rfl⟩, Nat.le_of_ble_eq_true rfl, Nat.le_refl _, Nat.le_refl _⟩ rfl dX12_alike_21 (fun z_21 h_21 => ?_)
      have h_21 : alM u s s2 z_21 ∧ (z_21 = 0 ∨ z_21 = 1) := h_21
      refine j_if_eq SS (tgt := 31) (x := z_21) dX12_alike_24 (by decide) (by omega) (fun c_24 => ?_) (fun c_24 => ?_)
      · skip
        refine j_iconst SS dX12_alike_31 ?_
        exact W.iret SS.1 SS.2.1 hr (fun t ht hW => ⟨_, rfl, ⟨0, rfl, (by first | exact Or.inl ⟨by omega, rfl⟩ | exact Or.inr ⟨by omega, by have w := h_21.1; first | (rw [show z_21 = 1 by omega] at w; exact w) | (rw [show z_21 = 0 by omega] at w; exact w)⟩)⟩, ht⟩) (fun _ h => nomatch h) dX12_alike_32 hlk
      · skip
        refine j_iconst SS dX12_alike_27 ?_
        refine lv_goto (tgt := 32) SS.1 SS.2.1 dX12_alike_28 (by decide) ?_
        exact W.iret SS.1 SS.2.1 hr (fun t ht hW => ⟨_, rfl, ⟨1, rfl, (by first | exact Or.inl ⟨by omega, rfl⟩ | exact Or.inr ⟨by omega, by have w := h_21.1; first | (rw [show z_21 = 1 by omega] at w; exact w) | (rw [show z_21 = 0 by omega] at w; exact w)⟩)⟩, ht⟩) (fun _ h => nomatch h) dX12_alike_32 hlk
    · skip
      refine j_iconst SS dX12_alike_14 ?_
      refine lv_goto (tgt := 32) SS.1 SS.2.1 dX12_alike_15 (by decide) ?_
      exact W.iret SS.1 SS.2.1 hr (fun t ht hW => ⟨_, rfl, ⟨(-1), rfl, (by first | exact Or.inl ⟨by omega, rfl⟩ | exact Or.inr ⟨by omega, by have w := h_21.1; first | (rw [show z_21 = 1 by omega] at w; exact w) | (rw [show z_21 = 0 by omega] at w; exact w)⟩)⟩, ht⟩) (fun _ h => nomatch h) dX12_alike_32 hlk

set_option maxHeartbeats 4000000 in
set_option maxRecDepth 100000 in
theorem c_X12_heaps3 (l : Launch) (D : JD) (o : Nat) (q : Nat → Nat) (u : MS) (p0 : IM u) : Met l yX12_heaps (jw yX12_heaps cX12_heaps 5 (some .int)) (jr 5 114) (jP [.ref o] D (fun H => va_P D.1 j_cl (mW D o q u) H)) (jRi (fun z => heM u z)) 0 0 (fun _ => False) := by
  refine Met.ofW (cc := cX12_heaps) (maxL := 5) (ret := (some .int)) (by decide) rfl ?_
  intro pr en st mi args below meth co s₁ B hml hv
  obtain ⟨rfl, hG, hP⟩ := hv
  have hr := B.returns
  have hlk := B.notSynchronized
  have SS : jS pr mi co cX12_heaps 5 st _ RX12 := ⟨B.exec, B.bytes, hml, findClass_of_methodNamed B.named, fun w hw => atoms_spec (ws := (jw yX12_heaps cX12_heaps 5 (some .int))) B.pre w (List.mem_cons_of_mem _ hw)⟩
  have hl := lv_entry ([.ref o]) (n := 5) (Nat.le_of_ble_eq_true rfl)
  rw [lg_entry_eq]
  generalize (lg_sl ([.ref o]) ++ List.replicate (5 - (lg_sl ([.ref o])).length) Slot.unset).toArray = ls at hl ⊢
  have hl : lv_has ls 5 [(0, .ref o)] := hl
  refine j_iconst SS dX12_heaps_0 ?_
  refine lv_istore_n (lv' := [(1, .int (J 0)), (0, .ref o)]) SS.1 SS.2.1 dX12_heaps_1 rfl hl (by decide) rfl (fun ls hl => ?_)
  refine j_iconst SS dX12_heaps_2 ?_
  refine lv_istore_n (lv' := [(2, .int (J 0)), (1, .int (J 0)), (0, .ref o)]) SS.1 SS.2.1 dX12_heaps_3 rfl hl (by decide) rfl (fun ls hl => ?_)
  have L_4 : ∀ (nn : Nat) (n : Int) (i : Int) (ls : Array Slot) (hl : lv_has ls 5 [(0, .ref o), (1, .int (J n)), (2, .int (J i))]) (i4_0 : 0 ≤ i ∧ i ≤ 8) (i4_1 : 0 ≤ n ∧ n ≤ i) (i4_2 : CN1 (nhM u) (ohM u) i.toNat n), ((8 : Int) - i).toNat < nn → W pr l en (headSpec (jw yX12_heaps cX12_heaps 5 (some .int)) (jr 5 114)).room st mi (([.ref o] : List Value).toArray) below meth co st.heap [] 0 0 (MQ below (jRi (fun z => heM u z)) (([.ref o] : List Value).toArray) st 0 0 (fun _ => False)) (F0 mi 4 ls []) := by
    intro nn
    induction nn with
    | zero => intros; omega
    | succ nn ih_4 =>
      intro n i ls hl i4_0 i4_1 i4_2 hm
      refine lv_iload_n SS.1 SS.2.1 dX12_heaps_4 rfl (lv_at hl 2 rfl) ?_
      refine j_bipush SS dX12_heaps_5 (by decide +kernel) ?_
      refine j_icmp_ge SS (tgt := 69) (x := i) (y := 8) dX12_heaps_7 (by decide) (by omega) (by decide) (fun c_7 => ?_) (fun c_7 => ?_)
      · skip
        refine lv_iload_n SS.1 SS.2.1 dX12_heaps_69 rfl (lv_at hl 1 rfl) ?_
        exact W.iret SS.1 SS.2.1 hr (fun t ht hW => ⟨_, rfl, ⟨n, rfl, (by have w := i4_2; rw [show i = 8 by omega] at w; exact w)⟩, ht⟩) (fun _ h => nomatch h) dX12_heaps_70 hlk
      · skip
        refine lv_aload_n SS.1 SS.2.1 dX12_heaps_10 rfl (lv_at hl 0 rfl) ?_
        refine lv_iload_n SS.1 SS.2.1 dX12_heaps_11 rfl (lv_at hl 2 rfl) ?_
        refine j_vRi SS (As := [.int (J i)]) (rest := []) (c_X12_isPolygon l D o q u i (show 0 ≤ i ∧ i ≤ 7 from (by omega)) (show Sh u i from (p0.1 _ (by omega) (by omega)))) mf_X12_isPolygon kw_1240 hG hP hP (ci := 8) (q0 := 0) rfl rfl rfl rfl hl.1 ⟨⟨Nat.le_of_ble_eq_true rfl, Nat.le_of_ble_eq_true rfl⟩, Nat.le_of_ble_eq_true rfl, Nat.le_refl _, Nat.le_refl _⟩ rfl dX12_heaps_12 (fun z_12 h_12 => ?_)
        have h_12 : (z_12 = 1 ∧ 2 < mN u i) ∨ (z_12 = 0 ∧ mN u i ≤ 2) := h_12
        refine lv_istore_n (lv' := [(3, .int (J z_12)), (0, .ref o), (1, .int (J n)), (2, .int (J i))]) SS.1 SS.2.1 dX12_heaps_15 rfl hl (by decide) rfl (fun ls hl => ?_)
        refine j_iconst SS dX12_heaps_16 ?_
        refine lv_istore (lv' := [(4, .int (J 0)), (3, .int (J z_12)), (0, .ref o), (1, .int (J n)), (2, .int (J i))]) SS.1 SS.2.1 dX12_heaps_17 hl (by decide) rfl (fun ls hl => ?_)
        have L_19 : ∀ (nn : Nat) (t3 : Int) (j : Int) (ls : Array Slot) (hl : lv_has ls 5 [(0, .ref o), (1, .int (J n)), (2, .int (J i)), (3, .int (J t3)), (4, .int (J j))]) (i19_0 : 0 ≤ j ∧ j ≤ i) (i19_1 : (t3 = 1 ∧ 2 < mN u i ∧ ∀ k : Nat, (k : Int) < j → alM u i k 0) ∨ (t3 = 0 ∧ ohM u i.toNat)), (i - j).toNat < nn → W pr l en (headSpec (jw yX12_heaps cX12_heaps 5 (some .int)) (jr 5 114)).room st mi (([.ref o] : List Value).toArray) below meth co st.heap [] 0 0 (MQ below (jRi (fun z => heM u z)) (([.ref o] : List Value).toArray) st 0 0 (fun _ => False)) (F0 mi 19 ls []) := by
          intro nn
          induction nn with
          | zero => intros; omega
          | succ nn ih_19 =>
            intro t3 j ls hl i19_0 i19_1 hm
            refine lv_iload SS.1 SS.2.1 dX12_heaps_19 (lv_at hl 4 rfl) ?_
            refine lv_iload_n SS.1 SS.2.1 dX12_heaps_21 rfl (lv_at hl 2 rfl) ?_
            refine j_icmp_ge SS (tgt := 51) (x := j) (y := i) dX12_heaps_22 (by decide) (by omega) (by omega) (fun c_22 => ?_) (fun c_22 => ?_)
            · skip
              refine lv_iload_n SS.1 SS.2.1 dX12_heaps_51 rfl (lv_at hl 1 rfl) ?_
              refine lv_iload_n SS.1 SS.2.1 dX12_heaps_52 rfl (lv_at hl 3 rfl) ?_
              have L_61 : ∀ (b1 : Int) (ls : Array Slot) (hl : lv_has ls 5 [(0, .ref o), (2, .int (J i))]) (i61_0 : (b1 = 1 ∧ nhM u i.toNat) ∨ (b1 = 0 ∧ ohM u i.toNat)), W pr l en (headSpec (jw yX12_heaps cX12_heaps 5 (some .int)) (jr 5 114)).room st mi (([.ref o] : List Value).toArray) below meth co st.heap [] 0 0 (MQ below (jRi (fun z => heM u z)) (([.ref o] : List Value).toArray) st 0 0 (fun _ => False)) (F0 mi 61 ls [.int (J b1), .int (J n)]) := by
                intro b1 ls hl i61_0
                refine j_iadd SS (x := n) (y := b1) dX12_heaps_61 ?_
                refine lv_istore_n (lv' := [(1, .int (J (n + b1))), (0, .ref o), (2, .int (J i))]) SS.1 SS.2.1 dX12_heaps_62 rfl hl (by decide) rfl (fun ls hl => ?_)
                refine lv_iinc (v := J (i + 1)) (lv' := [(2, .int (J (i + 1))), (1, .int (J (n + b1))), (0, .ref o)]) SS.1 SS.2.1 dX12_heaps_63 hl (k := 2) rfl (J_add _ _) (by decide) rfl (fun ls hl => ?_)
                refine lv_goto (tgt := 4) SS.1 SS.2.1 dX12_heaps_66 (by decide) ?_
                exact ih_4 (n + b1) (i + 1) ls (lv_sub hl [2, 1, 0] rfl) (by omega) (by omega) (by first | exact CN1_s (a := b1) i4_0.1 i4_2 i61_0 (by omega)) (by omega)
              refine j_if_eq SS (tgt := 60) (x := t3) dX12_heaps_53 (by decide) (by omega) (fun c_53 => ?_) (fun c_53 => ?_)
              · skip
                refine j_iconst SS dX12_heaps_60 ?_
                exact L_61 0 ls (lv_sub hl [0, 2] rfl) (by rcases i19_1 with ⟨x1, x2, x3⟩ | ⟨x1, x2⟩; (first | exact Or.inl ⟨rfl, by rw [show ((i.toNat : Nat) : Int) = i by omega]; exact x2, fun k hk => by rw [show ((i.toNat : Nat) : Int) = i by omega]; exact x3 k (by omega)⟩ | (exfalso; omega)); first | exact Or.inr ⟨rfl, x2⟩ | (exfalso; omega))
              · skip
                refine j_iconst SS dX12_heaps_56 ?_
                refine lv_goto (tgt := 61) SS.1 SS.2.1 dX12_heaps_57 (by decide) ?_
                exact L_61 1 ls (lv_sub hl [0, 2] rfl) (by rcases i19_1 with ⟨x1, x2, x3⟩ | ⟨x1, x2⟩; (first | exact Or.inl ⟨rfl, by rw [show ((i.toNat : Nat) : Int) = i by omega]; exact x2, fun k hk => by rw [show ((i.toNat : Nat) : Int) = i by omega]; exact x3 k (by omega)⟩ | (exfalso; omega)); first | exact Or.inr ⟨rfl, x2⟩ | (exfalso; omega))
            · skip
              refine lv_iload_n SS.1 SS.2.1 dX12_heaps_25 rfl (lv_at hl 3 rfl) ?_
              refine j_if_eq SS (tgt := 51) (x := t3) dX12_heaps_26 (by decide) (by omega) (fun c_26 => ?_) (fun c_26 => ?_)
              · skip
                refine lv_iload_n SS.1 SS.2.1 dX12_heaps_51 rfl (lv_at hl 1 rfl) ?_
                refine lv_iload_n SS.1 SS.2.1 dX12_heaps_52 rfl (lv_at hl 3 rfl) ?_
                have L_61 : ∀ (b1 : Int) (ls : Array Slot) (hl : lv_has ls 5 [(0, .ref o), (2, .int (J i))]) (i61_0 : (b1 = 1 ∧ nhM u i.toNat) ∨ (b1 = 0 ∧ ohM u i.toNat)), W pr l en (headSpec (jw yX12_heaps cX12_heaps 5 (some .int)) (jr 5 114)).room st mi (([.ref o] : List Value).toArray) below meth co st.heap [] 0 0 (MQ below (jRi (fun z => heM u z)) (([.ref o] : List Value).toArray) st 0 0 (fun _ => False)) (F0 mi 61 ls [.int (J b1), .int (J n)]) := by
                  intro b1 ls hl i61_0
                  refine j_iadd SS (x := n) (y := b1) dX12_heaps_61 ?_
                  refine lv_istore_n (lv' := [(1, .int (J (n + b1))), (0, .ref o), (2, .int (J i))]) SS.1 SS.2.1 dX12_heaps_62 rfl hl (by decide) rfl (fun ls hl => ?_)
                  refine lv_iinc (v := J (i + 1)) (lv' := [(2, .int (J (i + 1))), (1, .int (J (n + b1))), (0, .ref o)]) SS.1 SS.2.1 dX12_heaps_63 hl (k := 2) rfl (J_add _ _) (by decide) rfl (fun ls hl => ?_)
                  refine lv_goto (tgt := 4) SS.1 SS.2.1 dX12_heaps_66 (by decide) ?_
                  exact ih_4 (n + b1) (i + 1) ls (lv_sub hl [2, 1, 0] rfl) (by omega) (by omega) (by first | exact CN1_s (a := b1) i4_0.1 i4_2 i61_0 (by omega)) (by omega)
                refine j_if_eq SS (tgt := 60) (x := t3) dX12_heaps_53 (by decide) (by omega) (fun c_53 => ?_) (fun c_53 => ?_)
                · skip
                  refine j_iconst SS dX12_heaps_60 ?_
                  exact L_61 0 ls (lv_sub hl [0, 2] rfl) (by rcases i19_1 with ⟨x1, x2, x3⟩ | ⟨x1, x2⟩; (first | exact Or.inl ⟨rfl, by rw [show ((i.toNat : Nat) : Int) = i by omega]; exact x2, fun k hk => by rw [show ((i.toNat : Nat) : Int) = i by omega]; exact x3 k (by omega)⟩ | (exfalso; omega)); first | exact Or.inr ⟨rfl, x2⟩ | (exfalso; omega))
                · skip
                  refine j_iconst SS dX12_heaps_56 ?_
                  refine lv_goto (tgt := 61) SS.1 SS.2.1 dX12_heaps_57 (by decide) ?_
                  exact L_61 1 ls (lv_sub hl [0, 2] rfl) (by rcases i19_1 with ⟨x1, x2, x3⟩ | ⟨x1, x2⟩; (first | exact Or.inl ⟨rfl, by rw [show ((i.toNat : Nat) : Int) = i by omega]; exact x2, fun k hk => by rw [show ((i.toNat : Nat) : Int) = i by omega]; exact x3 k (by omega)⟩ | (exfalso; omega)); first | exact Or.inr ⟨rfl, x2⟩ | (exfalso; omega))
              · skip
                refine lv_aload_n SS.1 SS.2.1 dX12_heaps_29 rfl (lv_at hl 0 rfl) ?_
                refine lv_iload_n SS.1 SS.2.1 dX12_heaps_30 rfl (lv_at hl 2 rfl) ?_
                refine lv_iload SS.1 SS.2.1 dX12_heaps_31 (lv_at hl 4 rfl) ?_
                refine j_vRi SS (As := [.int (J i), .int (J j)]) (rest := []) (c_X12_isAlike3 l D o q u i j (show 0 ≤ i ∧ i ≤ 7 from (by omega)) (show Sh u i from (p0.1 _ (by omega) (by omega))) (show 0 ≤ j ∧ j ≤ 7 from (by omega)) (show Sh u j from (p0.1 _ (by omega) (by omega)))) mf_X12_isAlike kw_1305 hG hP hP (ci := 8) (q0 := 0) rfl rfl rfl rfl hl.1 ⟨⟨Nat.le_of_ble_eq_true rfl, Nat.le_of_ble_eq_true rfl⟩, Nat.le_of_ble_eq_true rfl, Nat.le_refl _, Nat.le_refl _⟩ rfl dX12_heaps_33 (fun z_33 h_33 => ?_)
                have h_33 : alM u i j z_33 ∧ (z_33 = 0 ∨ z_33 = 1) := h_33
                refine j_if_ne SS (tgt := 43) (x := z_33) dX12_heaps_36 (by decide) (by omega) (fun c_36 => ?_) (fun c_36 => ?_)
                · skip
                  refine j_iconst SS dX12_heaps_43 ?_
                  refine lv_istore_n (lv' := [(3, .int (J 0)), (0, .ref o), (1, .int (J n)), (2, .int (J i)), (4, .int (J j))]) SS.1 SS.2.1 dX12_heaps_44 rfl hl (by decide) rfl (fun ls hl => ?_)
                  refine lv_iinc (v := J (j + 1)) (lv' := [(4, .int (J (j + 1))), (3, .int (J 0)), (0, .ref o), (1, .int (J n)), (2, .int (J i))]) SS.1 SS.2.1 dX12_heaps_45 hl (k := 4) rfl (J_add _ _) (by decide) rfl (fun ls hl => ?_)
                  refine lv_goto (tgt := 19) SS.1 SS.2.1 dX12_heaps_48 (by decide) ?_
                  exact ih_19 0 (j + 1) ls (lv_sub hl [2, 3, 4, 1, 0] rfl) (by omega) (by rcases i19_1 with ⟨x1, x2, x3⟩ | ⟨x1, x2⟩; (have w := h_33.1; first | (rw [show z_33 = 0 by omega] at w; exact Or.inl ⟨rfl, x2, fun k hk => by by_cases e : (k : Int) = j; (rw [e]; exact w); exact x3 k (by omega)⟩) | (rw [show z_33 = 1 by omega] at w; exact Or.inr ⟨rfl, Or.inr ⟨j.toNat, by omega, by rw [show ((i.toNat : Nat) : Int) = i by omega, show ((j.toNat : Nat) : Int) = j by omega]; exact w⟩⟩)); omega) (by omega)
                · skip
                  refine j_iconst SS dX12_heaps_39 ?_
                  refine lv_goto (tgt := 44) SS.1 SS.2.1 dX12_heaps_40 (by decide) ?_
                  refine lv_istore_n (lv' := [(3, .int (J 1)), (0, .ref o), (1, .int (J n)), (2, .int (J i)), (4, .int (J j))]) SS.1 SS.2.1 dX12_heaps_44 rfl hl (by decide) rfl (fun ls hl => ?_)
                  refine lv_iinc (v := J (j + 1)) (lv' := [(4, .int (J (j + 1))), (3, .int (J 1)), (0, .ref o), (1, .int (J n)), (2, .int (J i))]) SS.1 SS.2.1 dX12_heaps_45 hl (k := 4) rfl (J_add _ _) (by decide) rfl (fun ls hl => ?_)
                  refine lv_goto (tgt := 19) SS.1 SS.2.1 dX12_heaps_48 (by decide) ?_
                  exact ih_19 1 (j + 1) ls (lv_sub hl [2, 3, 4, 1, 0] rfl) (by omega) (by rcases i19_1 with ⟨x1, x2, x3⟩ | ⟨x1, x2⟩; (have w := h_33.1; first | (rw [show z_33 = 0 by omega] at w; exact Or.inl ⟨rfl, x2, fun k hk => by by_cases e : (k : Int) = j; (rw [e]; exact w); exact x3 k (by omega)⟩) | (rw [show z_33 = 1 by omega] at w; exact Or.inr ⟨rfl, Or.inr ⟨j.toNat, by omega, by rw [show ((i.toNat : Nat) : Int) = i by omega, show ((j.toNat : Nat) : Int) = j by omega]; exact w⟩⟩)); omega) (by omega)
        exact L_19 ((i - (0 : Int)).toNat + 1) z_12 0 ls (lv_sub hl [2, 3, 4, 1, 0] rfl) (by omega) (by rcases h_12 with q | q; exact Or.inl ⟨q.1, q.2, fun k hk => by omega⟩; exact Or.inr ⟨q.1, Or.inl (by rw [show ((i.toNat : Nat) : Int) = i by omega]; exact q.2)⟩) (Nat.lt_succ_self _)
  exact L_4 (((8 : Int) - (0 : Int)).toNat + 1) 0 0 ls (lv_sub hl [2, 1, 0] rfl) (by omega) (by omega) (rfl) (Nat.lt_succ_self _)


/-! least widths -/
def le3 (w a b w' a' b' : Int) : Prop := w < w' ∨ (w = w' ∧ (a < a' ∨ (a = a' ∧ b ≤ b')))
def lt3 (w a b w' a' b' : Int) : Prop := w < w' ∨ (w = w' ∧ (a < a' ∨ (a = a' ∧ b < b')))
theorem le3_t {a b c d e f g h i : Int} (k : le3 a b c d e f) (l : le3 d e f g h i) : le3 a b c g h i := by unfold le3 at *; omega
theorem le3_r {a b c : Int} : le3 a b c a b c := by unfold le3; omega
theorem lt3_n {a b c d e f : Int} (h : ¬ lt3 a b c d e f) : le3 d e f a b c := by unfold lt3 at h; unfold le3; omega
theorem lt3_e {a b c d e f : Int} (h : lt3 a b c d e f) : le3 a b c d e f := by unfold lt3 at h; unfold le3; omega
def way1 (a b : Int) : Prop := (Int.gcd a b : Int) = 1 ∧ (0 < a ∨ (a = 0 ∧ b = 1))
def nrm (a b : Int) : Prop := 0 < a ∨ (a = 0 ∧ 0 < b)
theorem wdM_u {v : MS} {s a b z z' : Int} (h : wdM v s a b z) (h' : wdM v s a b z') : z = z' := by
  obtain ⟨lo, hi, c2, ⟨p, p1, p2, p3⟩, ⟨q, q1, q2, q3⟩, c3⟩ := h
  obtain ⟨lo', hi', d2, ⟨p', p1', p2', p3'⟩, ⟨q', q1', q2', q3'⟩, d3⟩ := h'
  have w1 := d2 p p1 p2
  have w2 := d2 q q1 q2
  have w3 := c2 p' p1' p2'
  have w4 := c2 q' q1' q2'
  omega
theorem wdM_p {v : MS} {s a b z : Int} (h : wdM v s a b z) {i j : Int} (hi : 0 ≤ i ∧ i < mN v s) (hj : 0 ≤ j ∧ j < mN v s) : -z ≤ a * (mX v s i - mX v s j) + b * (mY v s i - mY v s j) ∧ a * (mX v s i - mX v s j) + b * (mY v s i - mY v s j) ≤ z := by
  obtain ⟨lo, hi9, c2, _, _, c3⟩ := h
  have k1 := c2 i hi.1 hi.2
  have k2 := c2 j hj.1 hj.2
  rw [Int.mul_sub, Int.mul_sub]
  omega
theorem wdM_b {v : MS} {s a b z : Int} (hS : Sh v s) (h : wdM v s a b z) (ha : -1 ≤ a ∧ a ≤ 1) (hb : -1 ≤ b ∧ b ≤ 1) : 0 ≤ z ∧ z ≤ 320 := by
  obtain ⟨lo, hi9, c2, ⟨p, p1, p2, p3⟩, ⟨q, q1, q2, q3⟩, c3⟩ := h
  have bp := hS.2.1 (by omega) p p1
  have bq := hS.2.1 (by omega) q q1
  have m1 := mulb (A := 1) (B := 40) ha bp.1
  have m2 := mulb (A := 1) (B := 40) hb bp.2
  have m3 := mulb (A := 1) (B := 40) ha bq.1
  have m4 := mulb (A := 1) (B := 40) hb bq.2
  have := c2 p p1 p2
  omega
/-- what the search has found among the ways in V that are no wider than m -/
def LI (v : MS) (s m : Int) (V : Int → Int → Prop) (be ba bb : Int) : Prop := ((ba = -1000000 ∧ be = m) ∨ (way1 ba bb ∧ wdM v s ba bb be ∧ be ≤ m)) ∧ ∀ a b w : Int, way1 a b → V a b → wdM v s a b w → w ≤ m → way1 ba bb ∧ le3 be ba bb w a b
theorem LI_s {v : MS} {s m be ba bb : Int} {V V' : Int → Int → Prop} (h : LI v s m V be ba bb) (hV : ∀ a b w : Int, way1 a b → V' a b → wdM v s a b w → w ≤ m → V a b) : LI v s m V' be ba bb :=
  ⟨h.1, fun a b w h1 h2 h3 h4 => h.2 a b w h1 (hV a b w h1 h2 h3 h4) h3 h4⟩
theorem LI_k {v : MS} {s m be ba bb a9 b9 z : Int} {V V' : Int → Int → Prop} (h : LI v s m V be ba bb) (hV : ∀ a b : Int, way1 a b → V' a b → V a b ∨ (a = a9 ∧ b = b9)) (hz : wdM v s a9 b9 z) (hc : be < z ∨ (ba ≠ -1000000 ∧ ¬ lt3 z a9 b9 be ba bb)) : LI v s m V' be ba bb := by
  refine ⟨h.1, fun a b w h1 h2 h3 h4 => ?_⟩
  rcases hV a b h1 h2 with q | ⟨q1, q2⟩
  · exact h.2 a b w h1 q h3 h4
  · subst q1; subst q2
    have e := wdM_u h3 hz
    subst e
    have hw : way1 ba bb := by
      rcases h.1 with k | k
      · omega
      · exact k.1
    refine ⟨hw, ?_⟩
    rcases hc with k | k
    · unfold le3; omega
    · exact lt3_n k.2
theorem LI_u {v : MS} {s m be ba bb a9 b9 z : Int} {V V' : Int → Int → Prop} (h : LI v s m V be ba bb) (hV : ∀ a b : Int, way1 a b → V' a b → V a b ∨ (a = a9 ∧ b = b9)) (hz : wdM v s a9 b9 z) (h9 : way1 a9 b9) (hc : z ≤ be ∧ (ba = -1000000 ∨ lt3 z a9 b9 be ba bb)) : LI v s m V' z a9 b9 := by
  have hm : be ≤ m := by
    rcases h.1 with k | k <;> omega
  refine ⟨Or.inr ⟨h9, hz, by omega⟩, fun a b w h1 h2 h3 h4 => ⟨h9, ?_⟩⟩
  rcases hV a b h1 h2 with q | ⟨q1, q2⟩
  · have k := h.2 a b w h1 q h3 h4
    rcases hc.2 with e | e
    · have := k.1.2; omega
    · exact le3_t (lt3_e e) k.2
  · subst q1; subst q2
    have e := wdM_u h3 hz
    subst e
    exact le3_r
def leP (s k n : Int) : Prop := (0 ≤ s ∧ s ≤ 7) ∧ (0 ≤ k ∧ k ≤ 2) ∧ 3 ≤ n
def leM (v : MS) (s k z : Int) : Prop := (¬ leP s k (mN v s) ∧ z = -1000000) ∨ (leP s k (mN v s) ∧ ∃ W A B : Int, way1 A B ∧ wdM v s A B W ∧ (∀ a b w : Int, way1 a b → wdM v s a b w → le3 W A B w a b) ∧ ((k = 0 ∧ z = W) ∨ (k = 1 ∧ z = A) ∨ (k = 2 ∧ z = B)))
theorem LI_e {v : MS} {s m be ba bb one other x : Int} {ux uy : Int} (hn : 3 ≤ mN v s) (h1 : wdM v s 1 0 one) (h2 : wdM v s 0 1 other) (hm : m = one ∨ m = other) (hu : ux = mX v s 1 - mX v s 0 ∧ uy = mY v s 1 - mY v s 0) (hx : m < x) (h : LI v s m (fun a b => a * ux + b * uy < x) be ba bb) : way1 ba bb ∧ wdM v s ba bb be ∧ ∀ a b w : Int, way1 a b → wdM v s a b w → le3 be ba bb w a b := by
  have w1 : way1 1 0 := ⟨rfl, Or.inl (by omega)⟩
  have w2 : way1 0 1 := ⟨rfl, Or.inr ⟨rfl, rfl⟩⟩
  have all : ∀ a b w : Int, wdM v s a b w → w ≤ m → a * ux + b * uy < x := fun a b w hw hl => by
    have q := wdM_p hw (i := 1) (j := 0) (by omega) (by omega)
    rw [hu.1, hu.2]; omega
  have hw : way1 ba bb := by
    rcases hm with e | e
    · exact (h.2 1 0 one w1 (all _ _ _ h1 (by omega)) h1 (by omega)).1
    · exact (h.2 0 1 other w2 (all _ _ _ h2 (by omega)) h2 (by omega)).1
  have hb : wdM v s ba bb be ∧ be ≤ m := by
    rcases h.1 with k | k
    · have := hw.2; omega
    · exact k.2
  refine ⟨hw, hb.1, fun a b w k1 k2 => ?_⟩
  by_cases g : w ≤ m
  · exact (h.2 a b w k1 (all a b w k2 g) k2 g).2
  · unfold le3; omega
/-! the class -/
theorem spR_p {u : CS} {r : Nat} {a b z : Int} (h : spR u r a b z) {i j : Int} (hi : 0 ≤ i ∧ i < u.1.2.2.1 r) (hj : 0 ≤ j ∧ j < u.1.2.2.1 r) : -z ≤ a * (rx u r i - rx u r j) + b * (ry9 u r i - ry9 u r j) ∧ a * (rx u r i - rx u r j) + b * (ry9 u r i - ry9 u r j) ≤ z := by
  obtain ⟨lo, hi9, c2, _, _, c3⟩ := h
  have k1 := c2 i hi.1 hi.2
  have k2 := c2 j hj.1 hj.2
  rw [Int.mul_sub, Int.mul_sub]
  omega
theorem spR_0 {u : CS} {r : Nat} {a b z : Int} (h : spR u r a b z) : 0 ≤ z := by
  obtain ⟨lo, hi9, c2, ⟨p, p1, p2, p3⟩, _, c3⟩ := h
  have := c2 p p1 p2
  omega
theorem spR_1 {u : CS} {r : Nat} {z K : Int} (hK : 0 ≤ K) (hR : RB K u r) (h : spR u r 0 1 z) : z ≤ 2 * K := by
  obtain ⟨lo, hi9, c2, ⟨p, p1, p2, p3⟩, ⟨q, q1, q2, q3⟩, c3⟩ := h
  have b1 := ry9_b (i := p) hK hR
  have b2 := ry9_b (i := q) hK hR
  omega
def WGH (u : CS) (r : Nat) (a b c a0 b0 c1 a1 b1 : Int) : Prop := (a = 0 ∧ b = 0 ∧ c1 = c ∧ a1 = a0 ∧ b1 = b0) ∨ ∃ p q h : Int, ((p = a ∧ q = b) ∨ (p = -a ∧ q = -b)) ∧ nrm p q ∧ spR u r p q h ∧ ((lt3 h p q c a0 b0 ∧ c1 = h ∧ a1 = p ∧ b1 = q) ∨ (¬ lt3 h p q c a0 b0 ∧ c1 = c ∧ a1 = a0 ∧ b1 = b0))
def cLm (u : CS) (r : Nat) (V : Int → Int → Prop) (c a b : Int) : Prop := nrm a b ∧ spR u r a b c ∧ ∀ p q w : Int, nrm p q → V p q → spR u r p q w → le3 c a b w p q
theorem spR_u {u : CS} {r : Nat} {a b z z' : Int} (h : spR u r a b z) (h' : spR u r a b z') : z = z' := by
  obtain ⟨lo, hi, c2, ⟨p, p1, p2, p3⟩, ⟨q, q1, q2, q3⟩, c3⟩ := h
  obtain ⟨lo', hi', d2, ⟨p', p1', p2', p3'⟩, ⟨q', q1', q2', q3'⟩, d3⟩ := h'
  have w1 := d2 p p1 p2
  have w2 := d2 q q1 q2
  have w3 := c2 p' p1' p2'
  have w4 := c2 q' q1' q2'
  omega
theorem cLm_s {u : CS} {r : Nat} {V V' : Int → Int → Prop} {c a b : Int} (h : cLm u r V c a b) (hV : ∀ p q w : Int, nrm p q → V' p q → spR u r p q w → V p q ∨ c < w) : cLm u r V' c a b := by
  refine ⟨h.1, h.2.1, fun p q w h1 h2 h3 => ?_⟩
  rcases hV p q w h1 h2 h3 with k | k
  · exact h.2.2 p q w h1 k h3
  · unfold le3; omega
theorem cLm_w {u : CS} {r : Nat} {V V' : Int → Int → Prop} {c a0 b0 a b c1 a1 b1 : Int} (h : cLm u r V c a0 b0) (hw : WGH u r a b c a0 b0 c1 a1 b1) (hV : ∀ p q : Int, nrm p q → V' p q → V p q ∨ (p = a ∧ q = b) ∨ (p = -a ∧ q = -b)) : cLm u r V' c1 a1 b1 := by
  rcases hw with ⟨e1, e2, e3, e4, e5⟩ | ⟨p, q, hh, hs, hn, hsp, hc⟩
  · rw [e3, e4, e5]
    refine cLm_s h (fun p q w k1 k2 k3 => ?_)
    rcases hV p q k1 k2 with k | k
    · exact Or.inl k
    · unfold nrm at k1; omega
  · have same : ∀ p' q' : Int, nrm p' q' → ((p' = a ∧ q' = b) ∨ (p' = -a ∧ q' = -b)) → p' = p ∧ q' = q := fun p' q' k1 k2 => by unfold nrm at k1 hn; omega
    rcases hc with ⟨l, e3, e4, e5⟩ | ⟨l, e3, e4, e5⟩
    · rw [e3, e4, e5]
      refine ⟨hn, hsp, fun p' q' w k1 k2 k3 => ?_⟩
      rcases hV p' q' k1 k2 with k | k
      · exact le3_t (lt3_e l) (h.2.2 p' q' w k1 k k3)
      · obtain ⟨s1, s2⟩ := same p' q' k1 k
        subst s1; subst s2
        rw [spR_u k3 hsp]
        exact le3_r
    · rw [e3, e4, e5]
      refine ⟨h.1, h.2.1, fun p' q' w k1 k2 k3 => ?_⟩
      rcases hV p' q' k1 k2 with k | k
      · exact h.2.2 p' q' w k1 k k3
      · obtain ⟨s1, s2⟩ := same p' q' k1 k
        subst s1; subst s2
        rw [spR_u k3 hsp]
        exact lt3_n l
/-- the places looked at so far, either way -/
def PC (px py qx qy m n : Int) : Int → Int → Prop := fun a b => ∃ M N : Int, ((M = a * px + b * py ∧ N = a * qx + b * qy) ∨ (M = -(a * px + b * py) ∧ N = -(a * qx + b * qy))) ∧ 0 ≤ M ∧ (M < m ∨ (M = m ∧ N < n))
theorem cL_0 {u : CS} {r : Nat} {px py qx qy c a0 b0 c1 a1 b1 : Int} (hw : WGH u r 1 0 c a0 b0 c1 a1 b1) (h : nrm a0 b0 ∧ spR u r a0 b0 c) : cLm u r (fun p q => ∃ M N : Int, ((M = p * px + q * py ∧ N = p * qx + q * qy) ∨ (M = -(p * px + q * py) ∧ N = -(p * qx + q * qy))) ∧ 0 ≤ M ∧ M < 0) c1 a1 b1 := by
  have base : cLm u r (fun _ _ => False) c a0 b0 := ⟨h.1, h.2, fun _ _ _ _ k _ => k.elim⟩
  have k := cLm_w (V' := fun _ _ => False) base hw (fun _ _ _ k => k.elim)
  exact ⟨k.1, k.2.1, fun p q w _ ⟨M, N, _, k2, k3⟩ _ => by omega⟩
def leC (u : CS) (s k z : Int) : Prop := (¬ leP s k (u.1.2.2.1 s.toNat) ∧ z = -1000000) ∨ (leP s k (u.1.2.2.1 s.toNat) ∧ (cWh u s.toNat ≠ 0 → ∃ W A B : Int, cLm u s.toNat (fun _ _ => True) W A B ∧ ((k = 0 ∧ z = W) ∨ (k = 1 ∧ z = A) ∨ (k = 2 ∧ z = B))))
/-- the place of a pair is (m, n): it is the one that is weighed, either way -/
theorem PC_at {px py qx qy m n a b d : Int} (hd : d = px * qy - py * qx) (h0 : d ≠ 0) (h : PC px py qx qy m (n + 1) a b) : PC px py qx qy m n a b ∨ ((m * qy - n * py).tmod d = 0 ∧ (n * px - m * qx).tmod d = 0 ∧ ((a = (m * qy - n * py).tdiv d ∧ b = (n * px - m * qx).tdiv d) ∨ (a = -(m * qy - n * py).tdiv d ∧ b = -(n * px - m * qx).tdiv d))) := by
  obtain ⟨M, N, hs, h1, h2⟩ := h
  by_cases e : M = m ∧ N = n
  · right
    obtain ⟨e1, e2⟩ := e
    subst e1; subst e2
    rcases hs with ⟨k1, k2⟩ | ⟨k1, k2⟩
    · obtain ⟨q1, q2⟩ := mat_q hd k1.symm k2.symm
      have t1 := mat_t h0 q1
      have t2 := mat_t h0 q2
      exact ⟨t1.1, t2.1, Or.inl ⟨t1.2.symm, t2.2.symm⟩⟩
    · obtain ⟨q1, q2⟩ := mat_q (a := -a) (b := -b) hd (show -a * px + -b * py = M by rw [k1]; grind) (show -a * qx + -b * qy = N by rw [k2]; grind)
      have t1 := mat_t h0 q1
      have t2 := mat_t h0 q2
      exact ⟨t1.1, t2.1, Or.inr ⟨by omega, by omega⟩⟩
  · exact Or.inl ⟨M, N, hs, h1, by omega⟩
/-! both -/

