
set_option maxHeartbeats 4000000 in
set_option maxRecDepth 100000 in
theorem c_X12_firstCut3 (l : Launch) (D : JD) (o : Nat) (q : Nat → Nat) (u : MS) (p0 : CV u) : Met l yX12_firstCut (jw yX12_firstCut cX12_firstCut 6 (some .long)) (jr 3 72) (jP [.ref o] D (fun H => va_P D.1 j_cl (mW D o q u) H)) (vp_Sl (fun r => ∃ f9 : Nat → Bool, FC9 (u.1 10) (u.1 11) (u.1 20) (u.1 21) (u.2.2 23).toNat f9 ∧ r = PB f9 (u.2.2 23).toNat)) 0 0 (fun _ => False) := by
  refine Met.ofW (cc := cX12_firstCut) (maxL := 6) (ret := (some .long)) (by decide) rfl ?_
  intro pr en st mi args below meth co s₁ B hml hv
  obtain ⟨rfl, hG, hP⟩ := hv
  have hr := B.returns
  have hlk := B.notSynchronized
  have SS : jS pr mi co cX12_firstCut 6 st _ RX12 := ⟨B.exec, B.bytes, hml, findClass_of_methodNamed B.named, fun w hw => atoms_spec (ws := (jw yX12_firstCut cX12_firstCut 6 (some .long))) B.pre w (List.mem_cons_of_mem _ hw)⟩
  have hl := lv_entry ([.ref o]) (n := 6) (Nat.le_of_ble_eq_true rfl)
  rw [lg_entry_eq]
  generalize (lg_sl ([.ref o]) ++ List.replicate (6 - (lg_sl ([.ref o])).length) Slot.unset).toArray = ls at hl ⊢
  have hl : lv_has ls 6 [(0, .ref o)] := hl
  have hcu := p0.1
  have hsg := p0.1.2.2.1
  have hal := p0.1.1
  have hOS := p0.2.1
  have hOL := p0.2.2.1
  have hNT := p0.2.2.2.1
  have h63 := p0.2.2.2.2
  refine lv_lconst (v := 0) SS.1 SS.2.1 dX12_firstCut_0 (by decide +kernel) ?_
  refine lv_lstore_n (lv' := [(1, .long 0), (0, .ref o)]) SS.1 SS.2.1 dX12_firstCut_1 rfl hl (by decide) rfl (fun ls hl => ?_)
  refine j_iconst SS dX12_firstCut_2 ?_
  refine lv_istore_n (lv' := [(3, .int (J 0)), (1, .long 0), (0, .ref o)]) SS.1 SS.2.1 dX12_firstCut_3 rfl hl (by decide) rfl (fun ls hl => ?_)
  have L_4 : ∀ (nn : Nat) (x : Int64) (k : Int) (ls : Array Slot) (hl : lv_has ls 6 [(0, .ref o), (1, .long x), (3, .int (J k))]) (i4_0 : 0 ≤ k ∧ k ≤ u.2.2 23) (i4_1 : fcE (u.1 10) (u.1 11) (u.1 20) (u.1 21) k x), (u.2.2 23 - k).toNat < nn → W pr l en (headSpec (jw yX12_firstCut cX12_firstCut 6 (some .long)) (jr 3 72)).room st mi (([.ref o] : List Value).toArray) below meth co st.heap [] 0 0 (MQ below (vp_Sl (fun r => ∃ f9 : Nat → Bool, FC9 (u.1 10) (u.1 11) (u.1 20) (u.1 21) (u.2.2 23).toNat f9 ∧ r = PB f9 (u.2.2 23).toNat)) (([.ref o] : List Value).toArray) st 0 0 (fun _ => False)) (F0 mi 4 ls []) := by
    intro nn
    induction nn with
    | zero => intros; omega
    | succ nn ih_4 =>
      intro x k ls hl i4_0 i4_1 hm
      obtain ⟨f9, hf1, hf2⟩ := i4_1
      refine lv_iload_n SS.1 SS.2.1 dX12_firstCut_4 rfl (lv_at hl 2 rfl) ?_
      refine lv_aload_n SS.1 SS.2.1 dX12_firstCut_5 rfl (lv_at hl 0 rfl) ?_
      refine j_get SS hG hP 0 (v := .int (J (u.2.2 23))) (C := RX12) (T := TX12) (N := 31) rfl rfl inX12 23 (by decide) (ref := RX12) kw_1081 rfl rfl dX12_firstCut_6 ?_
      refine j_icmp_ge SS (tgt := 82) (x := k) (y := (u.2.2 23)) dX12_firstCut_9 (by decide) (by omega) (by omega) (fun c_9 => ?_) (fun c_9 => ?_)
      · skip
        refine lv_lload_n SS.1 SS.2.1 dX12_firstCut_82 rfl (lv_at hl 1 rfl) ?_
        exact W.lret SS.1 SS.2.1 hr (fun t ht hW => ⟨_, rfl, (by rw [show (u.2.2 23) = k by omega]; exact ⟨f9, hf1, hf2⟩), ht⟩) (fun _ h => nomatch h) dX12_firstCut_83 hlk
      · skip
        refine j_iconst SS dX12_firstCut_12 ?_
        refine lv_istore (lv' := [(4, .int (J 1)), (0, .ref o), (1, .long x), (3, .int (J k))]) SS.1 SS.2.1 dX12_firstCut_13 hl (by decide) rfl (fun ls hl => ?_)
        refine j_iconst SS dX12_firstCut_15 ?_
        refine lv_istore (lv' := [(5, .int (J 0)), (4, .int (J 1)), (0, .ref o), (1, .long x), (3, .int (J k))]) SS.1 SS.2.1 dX12_firstCut_16 hl (by decide) rfl (fun ls hl => ?_)
        have L_18 : ∀ (nn : Nat) (c : Int) (i : Int) (ls : Array Slot) (hl : lv_has ls 6 [(0, .ref o), (1, .long x), (3, .int (J k)), (4, .int (J c)), (5, .int (J i))]) (i18_0 : 0 ≤ i ∧ i ≤ k) (i18_1 : c = 0 ∨ c = 1) (i18_2 : c = 1 → ∀ j : Nat, (j : Int) < i → f9 j = true → ¬ XS9 (u.1 10) (u.1 11) (u.1 20) (u.1 21) j k.toNat) (i18_3 : c = 0 → fcN (u.1 10) (u.1 11) (u.1 20) (u.1 21) f9 k), (k - i).toNat < nn → W pr l en (headSpec (jw yX12_firstCut cX12_firstCut 6 (some .long)) (jr 3 72)).room st mi (([.ref o] : List Value).toArray) below meth co st.heap [] 0 0 (MQ below (vp_Sl (fun r => ∃ f9 : Nat → Bool, FC9 (u.1 10) (u.1 11) (u.1 20) (u.1 21) (u.2.2 23).toNat f9 ∧ r = PB f9 (u.2.2 23).toNat)) (([.ref o] : List Value).toArray) st 0 0 (fun _ => False)) (F0 mi 18 ls []) := by
          intro nn
          induction nn with
          | zero => intros; omega
          | succ nn ih_18 =>
            intro c i ls hl i18_0 i18_1 i18_2 i18_3 hm
            refine lv_iload SS.1 SS.2.1 dX12_firstCut_18 (lv_at hl 4 rfl) ?_
            refine lv_iload_n SS.1 SS.2.1 dX12_firstCut_20 rfl (lv_at hl 2 rfl) ?_
            refine j_icmp_ge SS (tgt := 61) (x := i) (y := k) dX12_firstCut_21 (by decide) (by omega) (by omega) (fun c_21 => ?_) (fun c_21 => ?_)
            · skip
              refine lv_lload_n SS.1 SS.2.1 dX12_firstCut_61 rfl (lv_at hl 1 rfl) ?_
              refine lv_iload SS.1 SS.2.1 dX12_firstCut_62 (lv_at hl 3 rfl) ?_
              refine j_if_eq SS (tgt := 73) (x := c) dX12_firstCut_64 (by decide) (by omega) (fun c_64 => ?_) (fun c_64 => ?_)
              · skip
                refine lv_lconst (v := 0) SS.1 SS.2.1 dX12_firstCut_73 (by decide +kernel) ?_
                refine lv_lor SS.1 SS.2.1 dX12_firstCut_74 ?_
                refine lv_lstore_n (lv' := [(1, .long (x ||| 0)), (0, .ref o), (3, .int (J k)), (4, .int (J c)), (5, .int (J i))]) SS.1 SS.2.1 dX12_firstCut_75 rfl hl (by decide) rfl (fun ls hl => ?_)
                refine lv_iinc (v := J (k + 1)) (lv' := [(3, .int (J (k + 1))), (1, .long (x ||| 0)), (0, .ref o), (4, .int (J c)), (5, .int (J i))]) SS.1 SS.2.1 dX12_firstCut_76 hl (k := 2) rfl (J_add _ _) (by decide) rfl (fun ls hl => ?_)
                refine lv_goto (tgt := 4) SS.1 SS.2.1 dX12_firstCut_79 (by decide) ?_
                exact ih_4 (x ||| 0) (k + 1) ls (lv_sub hl [2, 1, 0] rfl) (by omega) (by first | exact fc_y i4_0.1 hf1 hf2 (fun j hj fj => i18_2 (by omega) j (by omega) fj) | (rw [ex_69]; exact fc_y i4_0.1 hf1 hf2 (fun j hj fj => i18_2 (by omega) j (by omega) fj)) | exact fc_n i4_0.1 hf1 hf2 (i18_3 (by omega))) (by omega)
              · skip
                refine lv_lconst (v := 1) SS.1 SS.2.1 dX12_firstCut_67 (by decide +kernel) ?_
                refine lv_iload_n SS.1 SS.2.1 dX12_firstCut_68 rfl (lv_at hl 2 rfl) ?_
                refine lv_lshl SS.1 SS.2.1 dX12_firstCut_69 rfl (lv_topl (fun x_69 ex_69 => ?_))
                refine lv_goto (tgt := 74) SS.1 SS.2.1 dX12_firstCut_70 (by decide) ?_
                refine lv_lor SS.1 SS.2.1 dX12_firstCut_74 ?_
                refine lv_lstore_n (lv' := [(1, .long (x ||| x_69)), (0, .ref o), (3, .int (J k)), (4, .int (J c)), (5, .int (J i))]) SS.1 SS.2.1 dX12_firstCut_75 rfl hl (by decide) rfl (fun ls hl => ?_)
                refine lv_iinc (v := J (k + 1)) (lv' := [(3, .int (J (k + 1))), (1, .long (x ||| x_69)), (0, .ref o), (4, .int (J c)), (5, .int (J i))]) SS.1 SS.2.1 dX12_firstCut_76 hl (k := 2) rfl (J_add _ _) (by decide) rfl (fun ls hl => ?_)
                refine lv_goto (tgt := 4) SS.1 SS.2.1 dX12_firstCut_79 (by decide) ?_
                exact ih_4 (x ||| x_69) (k + 1) ls (lv_sub hl [2, 1, 0] rfl) (by omega) (by first | exact fc_y i4_0.1 hf1 hf2 (fun j hj fj => i18_2 (by omega) j (by omega) fj) | (rw [ex_69]; exact fc_y i4_0.1 hf1 hf2 (fun j hj fj => i18_2 (by omega) j (by omega) fj)) | exact fc_n i4_0.1 hf1 hf2 (i18_3 (by omega))) (by omega)
            · skip
              refine lv_iload SS.1 SS.2.1 dX12_firstCut_24 (lv_at hl 3 rfl) ?_
              refine j_if_eq SS (tgt := 61) (x := c) dX12_firstCut_26 (by decide) (by omega) (fun c_26 => ?_) (fun c_26 => ?_)
              · skip
                refine lv_lload_n SS.1 SS.2.1 dX12_firstCut_61 rfl (lv_at hl 1 rfl) ?_
                refine lv_iload SS.1 SS.2.1 dX12_firstCut_62 (lv_at hl 3 rfl) ?_
                refine j_if_eq SS (tgt := 73) (x := c) dX12_firstCut_64 (by decide) (by omega) (fun c_64 => ?_) (fun c_64 => ?_)
                · skip
                  refine lv_lconst (v := 0) SS.1 SS.2.1 dX12_firstCut_73 (by decide +kernel) ?_
                  refine lv_lor SS.1 SS.2.1 dX12_firstCut_74 ?_
                  refine lv_lstore_n (lv' := [(1, .long (x ||| 0)), (0, .ref o), (3, .int (J k)), (4, .int (J c)), (5, .int (J i))]) SS.1 SS.2.1 dX12_firstCut_75 rfl hl (by decide) rfl (fun ls hl => ?_)
                  refine lv_iinc (v := J (k + 1)) (lv' := [(3, .int (J (k + 1))), (1, .long (x ||| 0)), (0, .ref o), (4, .int (J c)), (5, .int (J i))]) SS.1 SS.2.1 dX12_firstCut_76 hl (k := 2) rfl (J_add _ _) (by decide) rfl (fun ls hl => ?_)
                  refine lv_goto (tgt := 4) SS.1 SS.2.1 dX12_firstCut_79 (by decide) ?_
                  exact ih_4 (x ||| 0) (k + 1) ls (lv_sub hl [2, 1, 0] rfl) (by omega) (by first | exact fc_y i4_0.1 hf1 hf2 (fun j hj fj => i18_2 (by omega) j (by omega) fj) | (rw [ex_69]; exact fc_y i4_0.1 hf1 hf2 (fun j hj fj => i18_2 (by omega) j (by omega) fj)) | exact fc_n i4_0.1 hf1 hf2 (i18_3 (by omega))) (by omega)
                · skip
                  refine lv_lconst (v := 1) SS.1 SS.2.1 dX12_firstCut_67 (by decide +kernel) ?_
                  refine lv_iload_n SS.1 SS.2.1 dX12_firstCut_68 rfl (lv_at hl 2 rfl) ?_
                  refine lv_lshl SS.1 SS.2.1 dX12_firstCut_69 rfl (lv_topl (fun x_69 ex_69 => ?_))
                  refine lv_goto (tgt := 74) SS.1 SS.2.1 dX12_firstCut_70 (by decide) ?_
                  refine lv_lor SS.1 SS.2.1 dX12_firstCut_74 ?_
                  refine lv_lstore_n (lv' := [(1, .long (x ||| x_69)), (0, .ref o), (3, .int (J k)), (4, .int (J c)), (5, .int (J i))]) SS.1 SS.2.1 dX12_firstCut_75 rfl hl (by decide) rfl (fun ls hl => ?_)
                  refine lv_iinc (v := J (k + 1)) (lv' := [(3, .int (J (k + 1))), (1, .long (x ||| x_69)), (0, .ref o), (4, .int (J c)), (5, .int (J i))]) SS.1 SS.2.1 dX12_firstCut_76 hl (k := 2) rfl (J_add _ _) (by decide) rfl (fun ls hl => ?_)
                  refine lv_goto (tgt := 4) SS.1 SS.2.1 dX12_firstCut_79 (by decide) ?_
                  exact ih_4 (x ||| x_69) (k + 1) ls (lv_sub hl [2, 1, 0] rfl) (by omega) (by first | exact fc_y i4_0.1 hf1 hf2 (fun j hj fj => i18_2 (by omega) j (by omega) fj) | (rw [ex_69]; exact fc_y i4_0.1 hf1 hf2 (fun j hj fj => i18_2 (by omega) j (by omega) fj)) | exact fc_n i4_0.1 hf1 hf2 (i18_3 (by omega))) (by omega)
              · skip
                refine lv_lload_n SS.1 SS.2.1 dX12_firstCut_29 rfl (lv_at hl 1 rfl) ?_
                refine lv_iload SS.1 SS.2.1 dX12_firstCut_30 (lv_at hl 4 rfl) ?_
                refine j_sRi SS (As := [.long x, .int (J i)]) (rest := []) (c_X12_has3 l D x i (show -2147483648 ≤ i ∧ i ≤ 2147483647 from (by omega))) mf_X12_has kw_1420 hG trivial rfl hl.1 ⟨⟨Nat.le_of_ble_eq_true rfl, Nat.le_of_ble_eq_true rfl⟩, Nat.le_of_ble_eq_true rfl, Nat.le_refl _, Nat.le_refl _⟩ rfl dX12_firstCut_32 (fun z_32 h_32 => ?_)
                have h_32 : hs9 x i z_32 := h_32
                have r_32 := hs_r h_32
                have hhas := hs_k h_32 hf2 (by omega) (show 0 ≤ i ∧ i < ((k.toNat : Nat) : Int) by omega)
                refine j_if_eq SS (tgt := 48) (x := z_32) dX12_firstCut_35 (by decide) (by omega) (fun c_35 => ?_) (fun c_35 => ?_)
                · skip
                  refine j_iconst SS dX12_firstCut_48 ?_
                  refine lv_goto (tgt := 53) SS.1 SS.2.1 dX12_firstCut_49 (by decide) ?_
                  refine lv_istore (lv' := [(4, .int (J 1)), (0, .ref o), (1, .long x), (3, .int (J k)), (5, .int (J i))]) SS.1 SS.2.1 dX12_firstCut_53 hl (by decide) rfl (fun ls hl => ?_)
                  refine lv_iinc (v := J (i + 1)) (lv' := [(5, .int (J (i + 1))), (4, .int (J 1)), (0, .ref o), (1, .long x), (3, .int (J k))]) SS.1 SS.2.1 dX12_firstCut_55 hl (k := 4) rfl (J_add _ _) (by decide) rfl (fun ls hl => ?_)
                  refine lv_goto (tgt := 18) SS.1 SS.2.1 dX12_firstCut_58 (by decide) ?_
                  exact ih_18 1 (i + 1) ls (lv_sub hl [2, 3, 4, 1, 0] rfl) (by omega) (by omega) (by first | (intro q9; exfalso; omega) | exact (fun q9 j9 hj9 fj9 => by by_cases e9 : (j9 : Int) = i; (have e8 : j9 = i.toNat := (by omega); subst e8; exact absurd (hhas.mpr fj9) (by omega)); exact i18_2 (by omega) j9 (by omega) fj9) | exact (fun q9 j9 hj9 fj9 => by by_cases e9 : (j9 : Int) = i; (have e8 : j9 = i.toNat := (by omega); subst e8; (rcases h_42 with q8 | q8; omega; exact q8.2)); exact i18_2 (by omega) j9 (by omega) fj9)) (by first | (intro q9; exfalso; omega) | exact fun _ => ⟨i.toNat, by omega, hhas.mp (by omega), by rcases h_42 with q8 | q8; exact q8.2; omega⟩) (by omega)
                · skip
                  refine lv_aload_n SS.1 SS.2.1 dX12_firstCut_38 rfl (lv_at hl 0 rfl) ?_
                  refine lv_iload SS.1 SS.2.1 dX12_firstCut_39 (lv_at hl 4 rfl) ?_
                  refine lv_iload_n SS.1 SS.2.1 dX12_firstCut_41 rfl (lv_at hl 2 rfl) ?_
                  refine j_vRi SS (As := [.int (J i), .int (J k)]) (rest := []) (c_X12_doCross3 l D o q u i k (show CU u from (p0.1)) (show 0 ≤ i ∧ i < (u.2.2 23) from (by omega)) (show 0 ≤ k ∧ k < (u.2.2 23) from (by omega))) mf_X12_doCross kw_1423 hG hP hP (ci := 8) (q0 := 0) rfl rfl rfl rfl hl.1 ⟨⟨Nat.le_of_ble_eq_true rfl, Nat.le_of_ble_eq_true rfl⟩, Nat.le_of_ble_eq_true rfl, Nat.le_refl _, Nat.le_refl _⟩ rfl dX12_firstCut_42 (fun z_42 h_42 => ?_)
                  have h_42 : (z_42 = 1 ∧ XS9 ((u.1 10)) ((u.1 11)) ((u.1 20)) ((u.1 21)) i.toNat k.toNat) ∨ (z_42 = 0 ∧ ¬ XS9 ((u.1 10)) ((u.1 11)) ((u.1 20)) ((u.1 21)) i.toNat k.toNat) := h_42
                  refine j_if_ne SS (tgt := 52) (x := z_42) dX12_firstCut_45 (by decide) (by omega) (fun c_45 => ?_) (fun c_45 => ?_)
                  · skip
                    refine j_iconst SS dX12_firstCut_52 ?_
                    refine lv_istore (lv' := [(4, .int (J 0)), (0, .ref o), (1, .long x), (3, .int (J k)), (5, .int (J i))]) SS.1 SS.2.1 dX12_firstCut_53 hl (by decide) rfl (fun ls hl => ?_)
                    refine lv_iinc (v := J (i + 1)) (lv' := [(5, .int (J (i + 1))), (4, .int (J 0)), (0, .ref o), (1, .long x), (3, .int (J k))]) SS.1 SS.2.1 dX12_firstCut_55 hl (k := 4) rfl (J_add _ _) (by decide) rfl (fun ls hl => ?_)
                    refine lv_goto (tgt := 18) SS.1 SS.2.1 dX12_firstCut_58 (by decide) ?_
                    exact ih_18 0 (i + 1) ls (lv_sub hl [2, 3, 4, 1, 0] rfl) (by omega) (by omega) (by first | (intro q9; exfalso; omega) | exact (fun q9 j9 hj9 fj9 => by by_cases e9 : (j9 : Int) = i; (have e8 : j9 = i.toNat := (by omega); subst e8; exact absurd (hhas.mpr fj9) (by omega)); exact i18_2 (by omega) j9 (by omega) fj9) | exact (fun q9 j9 hj9 fj9 => by by_cases e9 : (j9 : Int) = i; (have e8 : j9 = i.toNat := (by omega); subst e8; (rcases h_42 with q8 | q8; omega; exact q8.2)); exact i18_2 (by omega) j9 (by omega) fj9)) (by first | (intro q9; exfalso; omega) | exact fun _ => ⟨i.toNat, by omega, hhas.mp (by omega), by rcases h_42 with q8 | q8; exact q8.2; omega⟩) (by omega)
                  · skip
                    refine j_iconst SS dX12_firstCut_48 ?_
                    refine lv_goto (tgt := 53) SS.1 SS.2.1 dX12_firstCut_49 (by decide) ?_
                    refine lv_istore (lv' := [(4, .int (J 1)), (0, .ref o), (1, .long x), (3, .int (J k)), (5, .int (J i))]) SS.1 SS.2.1 dX12_firstCut_53 hl (by decide) rfl (fun ls hl => ?_)
                    refine lv_iinc (v := J (i + 1)) (lv' := [(5, .int (J (i + 1))), (4, .int (J 1)), (0, .ref o), (1, .long x), (3, .int (J k))]) SS.1 SS.2.1 dX12_firstCut_55 hl (k := 4) rfl (J_add _ _) (by decide) rfl (fun ls hl => ?_)
                    refine lv_goto (tgt := 18) SS.1 SS.2.1 dX12_firstCut_58 (by decide) ?_
                    exact ih_18 1 (i + 1) ls (lv_sub hl [2, 3, 4, 1, 0] rfl) (by omega) (by omega) (by first | (intro q9; exfalso; omega) | exact (fun q9 j9 hj9 fj9 => by by_cases e9 : (j9 : Int) = i; (have e8 : j9 = i.toNat := (by omega); subst e8; exact absurd (hhas.mpr fj9) (by omega)); exact i18_2 (by omega) j9 (by omega) fj9) | exact (fun q9 j9 hj9 fj9 => by by_cases e9 : (j9 : Int) = i; (have e8 : j9 = i.toNat := (by omega); subst e8; (rcases h_42 with q8 | q8; omega; exact q8.2)); exact i18_2 (by omega) j9 (by omega) fj9)) (by first | (intro q9; exfalso; omega) | exact fun _ => ⟨i.toNat, by omega, hhas.mp (by omega), by rcases h_42 with q8 | q8; exact q8.2; omega⟩) (by omega)
        exact L_18 ((k - (0 : Int)).toNat + 1) 1 0 ls (lv_sub hl [2, 3, 4, 1, 0] rfl) (by omega) (by omega) (fun q j hj => by omega) (fun q => by omega) (Nat.lt_succ_self _)
  exact L_4 ((u.2.2 23 - (0 : Int)).toNat + 1) 0 0 ls (lv_sub hl [2, 1, 0] rfl) (by omega) (⟨fun _ => false, fun k hk => by have : k < 0 := hk; omega, rfl⟩) (Nat.lt_succ_self _)


set_option maxHeartbeats 4000000 in
set_option maxRecDepth 100000 in
theorem c_X12_third3 (l : Launch) (D : JD) (o : Nat) (q : Nat → Nat) (u : MS) (x : Int64) (k : Int) (s : Int) (p0 : CV u) (p1 : 0 ≤ k ∧ k < u.2.2 23) (p2 : s = 1 ∨ s = -1) : Met l yX12_third (jw yX12_third cX12_third 6 (some .int)) (jr 2 46) (jP [.ref o, .long x, .int (J k), .int (J s)] D (fun H => va_P D.1 j_cl (mW D o q u) H)) (jRi (fun z => (z = -9 ∨ ((0 ≤ z ∧ z < u.2.2 12) ∧ tn (u.1 10) (u.1 11) (u.1 20 k.toNat).toNat (u.1 21 k.toNat).toNat z.toNat = s)) ∧ (∀ f : Nat → Bool, x = PB f (u.2.2 23).toNat → (z = -9 ∧ ∀ p : Nat, (p : Int) < (u.2.2 12) → ¬ TR9 (u.1 10) (u.1 11) (u.1 20) (u.1 21) (u.2.2 23).toNat f k.toNat p s) ∨ ((0 ≤ z ∧ z < (u.2.2 12)) ∧ TR9 (u.1 10) (u.1 11) (u.1 20) (u.1 21) (u.2.2 23).toNat f k.toNat z.toNat s)))) 0 0 (fun _ => False) := by
  refine Met.ofW (cc := cX12_third) (maxL := 6) (ret := (some .int)) (by decide) rfl ?_
  intro pr en st mi args below meth co s₁ B hml hv
  obtain ⟨rfl, hG, hP⟩ := hv
  have hr := B.returns
  have hlk := B.notSynchronized
  have SS : jS pr mi co cX12_third 6 st _ RX12 := ⟨B.exec, B.bytes, hml, findClass_of_methodNamed B.named, fun w hw => atoms_spec (ws := (jw yX12_third cX12_third 6 (some .int))) B.pre w (List.mem_cons_of_mem _ hw)⟩
  have hl := lv_entry ([.ref o, .long x, .int (J k), .int (J s)]) (n := 6) (Nat.le_of_ble_eq_true rfl)
  rw [lg_entry_eq]
  generalize (lg_sl ([.ref o, .long x, .int (J k), .int (J s)]) ++ List.replicate (6 - (lg_sl ([.ref o, .long x, .int (J k), .int (J s)])).length) Slot.unset).toArray = ls at hl ⊢
  have hl : lv_has ls 6 [(0, .ref o), (1, .long x), (3, .int (J k)), (4, .int (J s))] := hl
  have hcu := p0.1
  have hsg := p0.1.2.2.1
  have hal := p0.1.1
  have hOS := p0.2.1
  have hOL := p0.2.2.1
  have hNT := p0.2.2.2.1
  have h63 := p0.2.2.2.2
  have g1 := sg_at p0.1.2.2 (k := k) (by omega) (by omega)
  refine j_iconst SS dX12_third_0 ?_
  refine lv_istore (lv' := [(5, .int (J 0)), (0, .ref o), (1, .long x), (3, .int (J k)), (4, .int (J s))]) SS.1 SS.2.1 dX12_third_1 hl (by decide) rfl (fun ls hl => ?_)
  have L_3 : ∀ (nn : Nat) (c : Int) (ls : Array Slot) (hl : lv_has ls 6 [(0, .ref o), (1, .long x), (3, .int (J k)), (4, .int (J s)), (5, .int (J c))]) (i3_0 : 0 ≤ c ∧ c ≤ u.2.2 12) (i3_1 : ∀ f : Nat → Bool, x = PB f (u.2.2 23).toNat → ∀ p : Nat, (p : Int) < c → ¬ TR9 (u.1 10) (u.1 11) (u.1 20) (u.1 21) (u.2.2 23).toNat f k.toNat p s), (u.2.2 12 - c).toNat < nn → W pr l en (headSpec (jw yX12_third cX12_third 6 (some .int)) (jr 2 46)).room st mi (([.ref o, .long x, .int (J k), .int (J s)] : List Value).toArray) below meth co st.heap [] 0 0 (MQ below (jRi (fun z => (z = -9 ∨ ((0 ≤ z ∧ z < u.2.2 12) ∧ tn (u.1 10) (u.1 11) (u.1 20 k.toNat).toNat (u.1 21 k.toNat).toNat z.toNat = s)) ∧ (∀ f : Nat → Bool, x = PB f (u.2.2 23).toNat → (z = -9 ∧ ∀ p : Nat, (p : Int) < (u.2.2 12) → ¬ TR9 (u.1 10) (u.1 11) (u.1 20) (u.1 21) (u.2.2 23).toNat f k.toNat p s) ∨ ((0 ≤ z ∧ z < (u.2.2 12)) ∧ TR9 (u.1 10) (u.1 11) (u.1 20) (u.1 21) (u.2.2 23).toNat f k.toNat z.toNat s)))) (([.ref o, .long x, .int (J k), .int (J s)] : List Value).toArray) st 0 0 (fun _ => False)) (F0 mi 3 ls []) := by
    intro nn
    induction nn with
    | zero => intros; omega
    | succ nn ih_3 =>
      intro c ls hl i3_0 i3_1 hm
      refine lv_iload SS.1 SS.2.1 dX12_third_3 (lv_at hl 4 rfl) ?_
      refine lv_aload_n SS.1 SS.2.1 dX12_third_5 rfl (lv_at hl 0 rfl) ?_
      refine j_get SS hG hP 0 (v := .int (J (u.2.2 12))) (C := RX12) (T := TX12) (N := 31) rfl rfl inX12 12 (by decide) (ref := RX12) kw_1070 rfl rfl dX12_third_6 ?_
      refine j_icmp_ge SS (tgt := 104) (x := c) (y := (u.2.2 12)) dX12_third_9 (by decide) (by omega) (by omega) (fun c_9 => ?_) (fun c_9 => ?_)
      · skip
        refine j_bipush SS dX12_third_104 (by decide +kernel) ?_
        exact W.iret SS.1 SS.2.1 hr (fun t ht hW => ⟨_, rfl, ⟨(-9), rfl, (⟨Or.inl rfl, fun f9 hx9 => Or.inl ⟨rfl, fun p9 hp9 => i3_1 f9 hx9 p9 (by omega)⟩⟩)⟩, ht⟩) (fun _ h => nomatch h) dX12_third_106 hlk
      · skip
        refine lv_iload SS.1 SS.2.1 dX12_third_12 (lv_at hl 4 rfl) ?_
        refine lv_aload_n SS.1 SS.2.1 dX12_third_14 rfl (lv_at hl 0 rfl) ?_
        refine j_get SS hG hP 0 (v := .ref (q 20)) (C := RX12) (T := TX12) (N := 31) rfl rfl inX12 20 (by decide) (ref := RX12) kw_1078 rfl rfl dX12_third_15 ?_
        refine lv_iload_n SS.1 SS.2.1 dX12_third_18 rfl (lv_at hl 2 rfl) ?_
        refine j_iald SS hG hP 17 (n := 66) (f := (u.1 20)) rfl (z := k) (by omega) (by omega) dX12_third_19 ?_
        refine j_icmp_eq SS (tgt := 98) (x := c) (y := ((u.1 20) (k).toNat)) dX12_third_20 (by decide) (by omega) (by omega) (fun c_20 => ?_) (fun c_20 => ?_)
        · skip
          refine lv_iinc (v := J (c + 1)) (lv' := [(5, .int (J (c + 1))), (0, .ref o), (1, .long x), (3, .int (J k)), (4, .int (J s))]) SS.1 SS.2.1 dX12_third_98 hl (k := 4) rfl (J_add _ _) (by decide) rfl (fun ls hl => ?_)
          refine lv_goto (tgt := 3) SS.1 SS.2.1 dX12_third_101 (by decide) ?_
          exact ih_3 (c + 1) ls (lv_sub hl [1, 2, 3, 4, 0] rfl) (by omega) (by first | exact (fun f9 hx9 p9 hp9 w9 => by by_cases e9 : (p9 : Int) = c; (have e8 : p9 = c.toNat := (by omega); subst e8; (have q8 := w9.1; rw [show c.toNat = (u.1 20 k.toNat).toNat by omega, tn_ij] at q8; omega)); exact i3_1 f9 hx9 p9 (by omega) w9) | exact (fun f9 hx9 p9 hp9 w9 => by by_cases e9 : (p9 : Int) = c; (have e8 : p9 = c.toNat := (by omega); subst e8; (have q8 := w9.1; rw [show c.toNat = (u.1 21 k.toNat).toNat by omega, tn_jj] at q8; omega)); exact i3_1 f9 hx9 p9 (by omega) w9) | exact (fun f9 hx9 p9 hp9 w9 => by by_cases e9 : (p9 : Int) = c; (have e8 : p9 = c.toNat := (by omega); subst e8; (have q8 := w9.1; rw [← h_49.1] at q8; omega)); exact i3_1 f9 hx9 p9 (by omega) w9) | exact (fun f9 hx9 p9 hp9 w9 => by by_cases e9 : (p9 : Int) = c; (have e8 : p9 = c.toNat := (by omega); subst e8; (have q8 := (hs_s hOL hNT h63 (by omega) (by omega) (by omega) h_67 h_70 hx9).mpr w9.2.1; omega)); exact i3_1 f9 hx9 p9 (by omega) w9) | exact (fun f9 hx9 p9 hp9 w9 => by by_cases e9 : (p9 : Int) = c; (have e8 : p9 = c.toNat := (by omega); subst e8; (have q8 := (hs_s hOL hNT h63 (by omega) (by omega) (by omega) h_86 h_89 hx9).mpr w9.2.2; omega)); exact i3_1 f9 hx9 p9 (by omega) w9)) (by omega)
        · skip
          refine lv_iload SS.1 SS.2.1 dX12_third_23 (lv_at hl 4 rfl) ?_
          refine lv_aload_n SS.1 SS.2.1 dX12_third_25 rfl (lv_at hl 0 rfl) ?_
          refine j_get SS hG hP 0 (v := .ref (q 21)) (C := RX12) (T := TX12) (N := 31) rfl rfl inX12 21 (by decide) (ref := RX12) kw_1079 rfl rfl dX12_third_26 ?_
          refine lv_iload_n SS.1 SS.2.1 dX12_third_29 rfl (lv_at hl 2 rfl) ?_
          refine j_iald SS hG hP 18 (n := 66) (f := (u.1 21)) rfl (z := k) (by omega) (by omega) dX12_third_30 ?_
          refine j_icmp_eq SS (tgt := 98) (x := c) (y := ((u.1 21) (k).toNat)) dX12_third_31 (by decide) (by omega) (by omega) (fun c_31 => ?_) (fun c_31 => ?_)
          · skip
            refine lv_iinc (v := J (c + 1)) (lv' := [(5, .int (J (c + 1))), (0, .ref o), (1, .long x), (3, .int (J k)), (4, .int (J s))]) SS.1 SS.2.1 dX12_third_98 hl (k := 4) rfl (J_add _ _) (by decide) rfl (fun ls hl => ?_)
            refine lv_goto (tgt := 3) SS.1 SS.2.1 dX12_third_101 (by decide) ?_
            exact ih_3 (c + 1) ls (lv_sub hl [1, 2, 3, 4, 0] rfl) (by omega) (by first | exact (fun f9 hx9 p9 hp9 w9 => by by_cases e9 : (p9 : Int) = c; (have e8 : p9 = c.toNat := (by omega); subst e8; (have q8 := w9.1; rw [show c.toNat = (u.1 20 k.toNat).toNat by omega, tn_ij] at q8; omega)); exact i3_1 f9 hx9 p9 (by omega) w9) | exact (fun f9 hx9 p9 hp9 w9 => by by_cases e9 : (p9 : Int) = c; (have e8 : p9 = c.toNat := (by omega); subst e8; (have q8 := w9.1; rw [show c.toNat = (u.1 21 k.toNat).toNat by omega, tn_jj] at q8; omega)); exact i3_1 f9 hx9 p9 (by omega) w9) | exact (fun f9 hx9 p9 hp9 w9 => by by_cases e9 : (p9 : Int) = c; (have e8 : p9 = c.toNat := (by omega); subst e8; (have q8 := w9.1; rw [← h_49.1] at q8; omega)); exact i3_1 f9 hx9 p9 (by omega) w9) | exact (fun f9 hx9 p9 hp9 w9 => by by_cases e9 : (p9 : Int) = c; (have e8 : p9 = c.toNat := (by omega); subst e8; (have q8 := (hs_s hOL hNT h63 (by omega) (by omega) (by omega) h_67 h_70 hx9).mpr w9.2.1; omega)); exact i3_1 f9 hx9 p9 (by omega) w9) | exact (fun f9 hx9 p9 hp9 w9 => by by_cases e9 : (p9 : Int) = c; (have e8 : p9 = c.toNat := (by omega); subst e8; (have q8 := (hs_s hOL hNT h63 (by omega) (by omega) (by omega) h_86 h_89 hx9).mpr w9.2.2; omega)); exact i3_1 f9 hx9 p9 (by omega) w9)) (by omega)
          · skip
            refine lv_aload_n SS.1 SS.2.1 dX12_third_34 rfl (lv_at hl 0 rfl) ?_
            refine lv_aload_n SS.1 SS.2.1 dX12_third_35 rfl (lv_at hl 0 rfl) ?_
            refine j_get SS hG hP 0 (v := .ref (q 20)) (C := RX12) (T := TX12) (N := 31) rfl rfl inX12 20 (by decide) (ref := RX12) kw_1078 rfl rfl dX12_third_36 ?_
            refine lv_iload_n SS.1 SS.2.1 dX12_third_39 rfl (lv_at hl 2 rfl) ?_
            refine j_iald SS hG hP 17 (n := 66) (f := (u.1 20)) rfl (z := k) (by omega) (by omega) dX12_third_40 ?_
            refine lv_aload_n SS.1 SS.2.1 dX12_third_41 rfl (lv_at hl 0 rfl) ?_
            refine j_get SS hG hP 0 (v := .ref (q 21)) (C := RX12) (T := TX12) (N := 31) rfl rfl inX12 21 (by decide) (ref := RX12) kw_1079 rfl rfl dX12_third_42 ?_
            refine lv_iload_n SS.1 SS.2.1 dX12_third_45 rfl (lv_at hl 2 rfl) ?_
            refine j_iald SS hG hP 18 (n := 66) (f := (u.1 21)) rfl (z := k) (by omega) (by omega) dX12_third_46 ?_
            refine lv_iload SS.1 SS.2.1 dX12_third_47 (lv_at hl 4 rfl) ?_
            refine j_vRi SS (As := [.int (J ((u.1 20) (k).toNat)), .int (J ((u.1 21) (k).toNat)), .int (J c)]) (rest := []) (c_X12_turn l D o q u ((u.1 20) (k).toNat) ((u.1 21) (k).toNat) c (show 0 ≤ ((u.1 20) (k).toNat) ∧ ((u.1 20) (k).toNat) < 6561 from (by omega)) (show 0 ≤ ((u.1 21) (k).toNat) ∧ ((u.1 21) (k).toNat) < 6561 from (by omega)) (show 0 ≤ c ∧ c < 6561 from (by omega)) (show bd 40 ((u.1 10)) ((u.1 11)) 6561 from (p0.1.2.1))) mf_X12_turn kw_1427 hG hP hP (ci := 8) (q0 := 0) rfl rfl rfl rfl hl.1 ⟨⟨Nat.le_of_ble_eq_true rfl, Nat.le_of_ble_eq_true rfl⟩, Nat.le_of_ble_eq_true rfl, Nat.le_refl _, Nat.le_refl _⟩ rfl dX12_third_49 (fun z_49 h_49 => ?_)
            have h_49 : z_49 = tn ((u.1 10)) ((u.1 11)) ((u.1 20) (k).toNat).toNat ((u.1 21) (k).toNat).toNat c.toNat ∧ -12800 ≤ z_49 ∧ z_49 ≤ 12800 := h_49
            refine lv_iload SS.1 SS.2.1 dX12_third_52 (lv_at hl 3 rfl) ?_
            refine j_icmp_ne SS (tgt := 98) (x := z_49) (y := s) dX12_third_54 (by decide) (by omega) (by omega) (fun c_54 => ?_) (fun c_54 => ?_)
            · skip
              refine lv_iinc (v := J (c + 1)) (lv' := [(5, .int (J (c + 1))), (0, .ref o), (1, .long x), (3, .int (J k)), (4, .int (J s))]) SS.1 SS.2.1 dX12_third_98 hl (k := 4) rfl (J_add _ _) (by decide) rfl (fun ls hl => ?_)
              refine lv_goto (tgt := 3) SS.1 SS.2.1 dX12_third_101 (by decide) ?_
              exact ih_3 (c + 1) ls (lv_sub hl [1, 2, 3, 4, 0] rfl) (by omega) (by first | exact (fun f9 hx9 p9 hp9 w9 => by by_cases e9 : (p9 : Int) = c; (have e8 : p9 = c.toNat := (by omega); subst e8; (have q8 := w9.1; rw [show c.toNat = (u.1 20 k.toNat).toNat by omega, tn_ij] at q8; omega)); exact i3_1 f9 hx9 p9 (by omega) w9) | exact (fun f9 hx9 p9 hp9 w9 => by by_cases e9 : (p9 : Int) = c; (have e8 : p9 = c.toNat := (by omega); subst e8; (have q8 := w9.1; rw [show c.toNat = (u.1 21 k.toNat).toNat by omega, tn_jj] at q8; omega)); exact i3_1 f9 hx9 p9 (by omega) w9) | exact (fun f9 hx9 p9 hp9 w9 => by by_cases e9 : (p9 : Int) = c; (have e8 : p9 = c.toNat := (by omega); subst e8; (have q8 := w9.1; rw [← h_49.1] at q8; omega)); exact i3_1 f9 hx9 p9 (by omega) w9) | exact (fun f9 hx9 p9 hp9 w9 => by by_cases e9 : (p9 : Int) = c; (have e8 : p9 = c.toNat := (by omega); subst e8; (have q8 := (hs_s hOL hNT h63 (by omega) (by omega) (by omega) h_67 h_70 hx9).mpr w9.2.1; omega)); exact i3_1 f9 hx9 p9 (by omega) w9) | exact (fun f9 hx9 p9 hp9 w9 => by by_cases e9 : (p9 : Int) = c; (have e8 : p9 = c.toNat := (by omega); subst e8; (have q8 := (hs_s hOL hNT h63 (by omega) (by omega) (by omega) h_86 h_89 hx9).mpr w9.2.2; omega)); exact i3_1 f9 hx9 p9 (by omega) w9)) (by omega)
            · skip
              refine lv_lload_n SS.1 SS.2.1 dX12_third_57 rfl (lv_at hl 1 rfl) ?_
              refine lv_aload_n SS.1 SS.2.1 dX12_third_58 rfl (lv_at hl 0 rfl) ?_
              refine lv_aload_n SS.1 SS.2.1 dX12_third_59 rfl (lv_at hl 0 rfl) ?_
              refine j_get SS hG hP 0 (v := .ref (q 20)) (C := RX12) (T := TX12) (N := 31) rfl rfl inX12 20 (by decide) (ref := RX12) kw_1078 rfl rfl dX12_third_60 ?_
              refine lv_iload_n SS.1 SS.2.1 dX12_third_63 rfl (lv_at hl 2 rfl) ?_
              refine j_iald SS hG hP 17 (n := 66) (f := (u.1 20)) rfl (z := k) (by omega) (by omega) dX12_third_64 ?_
              refine lv_iload SS.1 SS.2.1 dX12_third_65 (lv_at hl 4 rfl) ?_
              refine j_vRi SS (As := [.int (J ((u.1 20) (k).toNat)), .int (J c)]) (rest := [.long x]) (c_X12_between1 l D o q u ((u.1 20) (k).toNat) c (show 0 ≤ ((u.1 20) (k).toNat) ∧ ((u.1 20) (k).toNat) < 12 from (by omega)) (show 0 ≤ c ∧ c < 12 from (by omega))) mf_X12_between1 kw_1455 hG hP hP (ci := 8) (q0 := 0) rfl rfl rfl rfl hl.1 ⟨⟨Nat.le_of_ble_eq_true rfl, Nat.le_of_ble_eq_true rfl⟩, Nat.le_of_ble_eq_true rfl, Nat.le_refl _, Nat.le_refl _⟩ rfl dX12_third_67 (fun z_67 h_67 => ?_)
              have h_67 : (((u.1 20) (k).toNat) < c ∧ z_67 = (u.1 22) (12 * ((u.1 20) (k).toNat) + c).toNat) ∨ (c ≤ ((u.1 20) (k).toNat) ∧ z_67 = (u.1 22) (12 * c + ((u.1 20) (k).toNat)).toNat) := h_67
              have hr70 := bt_n p0.1.2.2 g1.1 (by omega) (by omega) h_67
              refine j_sRi SS (As := [.long x, .int (J z_67)]) (rest := []) (c_X12_has3 l D x z_67 (show -2147483648 ≤ z_67 ∧ z_67 ≤ 2147483647 from (by omega))) mf_X12_has kw_1420 hG trivial rfl hl.1 ⟨⟨Nat.le_of_ble_eq_true rfl, Nat.le_of_ble_eq_true rfl⟩, Nat.le_of_ble_eq_true rfl, Nat.le_refl _, Nat.le_refl _⟩ rfl dX12_third_70 (fun z_70 h_70 => ?_)
              have h_70 : hs9 x z_67 z_70 := h_70
              have r_70 := hs_r h_70
              refine j_if_eq SS (tgt := 98) (x := z_70) dX12_third_73 (by decide) (by omega) (fun c_73 => ?_) (fun c_73 => ?_)
              · skip
                refine lv_iinc (v := J (c + 1)) (lv' := [(5, .int (J (c + 1))), (0, .ref o), (1, .long x), (3, .int (J k)), (4, .int (J s))]) SS.1 SS.2.1 dX12_third_98 hl (k := 4) rfl (J_add _ _) (by decide) rfl (fun ls hl => ?_)
                refine lv_goto (tgt := 3) SS.1 SS.2.1 dX12_third_101 (by decide) ?_
                exact ih_3 (c + 1) ls (lv_sub hl [1, 2, 3, 4, 0] rfl) (by omega) (by first | exact (fun f9 hx9 p9 hp9 w9 => by by_cases e9 : (p9 : Int) = c; (have e8 : p9 = c.toNat := (by omega); subst e8; (have q8 := w9.1; rw [show c.toNat = (u.1 20 k.toNat).toNat by omega, tn_ij] at q8; omega)); exact i3_1 f9 hx9 p9 (by omega) w9) | exact (fun f9 hx9 p9 hp9 w9 => by by_cases e9 : (p9 : Int) = c; (have e8 : p9 = c.toNat := (by omega); subst e8; (have q8 := w9.1; rw [show c.toNat = (u.1 21 k.toNat).toNat by omega, tn_jj] at q8; omega)); exact i3_1 f9 hx9 p9 (by omega) w9) | exact (fun f9 hx9 p9 hp9 w9 => by by_cases e9 : (p9 : Int) = c; (have e8 : p9 = c.toNat := (by omega); subst e8; (have q8 := w9.1; rw [← h_49.1] at q8; omega)); exact i3_1 f9 hx9 p9 (by omega) w9) | exact (fun f9 hx9 p9 hp9 w9 => by by_cases e9 : (p9 : Int) = c; (have e8 : p9 = c.toNat := (by omega); subst e8; (have q8 := (hs_s hOL hNT h63 (by omega) (by omega) (by omega) h_67 h_70 hx9).mpr w9.2.1; omega)); exact i3_1 f9 hx9 p9 (by omega) w9) | exact (fun f9 hx9 p9 hp9 w9 => by by_cases e9 : (p9 : Int) = c; (have e8 : p9 = c.toNat := (by omega); subst e8; (have q8 := (hs_s hOL hNT h63 (by omega) (by omega) (by omega) h_86 h_89 hx9).mpr w9.2.2; omega)); exact i3_1 f9 hx9 p9 (by omega) w9)) (by omega)
              · skip
                refine lv_lload_n SS.1 SS.2.1 dX12_third_76 rfl (lv_at hl 1 rfl) ?_
                refine lv_aload_n SS.1 SS.2.1 dX12_third_77 rfl (lv_at hl 0 rfl) ?_
                refine lv_aload_n SS.1 SS.2.1 dX12_third_78 rfl (lv_at hl 0 rfl) ?_
                refine j_get SS hG hP 0 (v := .ref (q 21)) (C := RX12) (T := TX12) (N := 31) rfl rfl inX12 21 (by decide) (ref := RX12) kw_1079 rfl rfl dX12_third_79 ?_
                refine lv_iload_n SS.1 SS.2.1 dX12_third_82 rfl (lv_at hl 2 rfl) ?_
                refine j_iald SS hG hP 18 (n := 66) (f := (u.1 21)) rfl (z := k) (by omega) (by omega) dX12_third_83 ?_
                refine lv_iload SS.1 SS.2.1 dX12_third_84 (lv_at hl 4 rfl) ?_
                refine j_vRi SS (As := [.int (J ((u.1 21) (k).toNat)), .int (J c)]) (rest := [.long x]) (c_X12_between1 l D o q u ((u.1 21) (k).toNat) c (show 0 ≤ ((u.1 21) (k).toNat) ∧ ((u.1 21) (k).toNat) < 12 from (by omega)) (show 0 ≤ c ∧ c < 12 from (by omega))) mf_X12_between1 kw_1455 hG hP hP (ci := 8) (q0 := 0) rfl rfl rfl rfl hl.1 ⟨⟨Nat.le_of_ble_eq_true rfl, Nat.le_of_ble_eq_true rfl⟩, Nat.le_of_ble_eq_true rfl, Nat.le_refl _, Nat.le_refl _⟩ rfl dX12_third_86 (fun z_86 h_86 => ?_)
                have h_86 : (((u.1 21) (k).toNat) < c ∧ z_86 = (u.1 22) (12 * ((u.1 21) (k).toNat) + c).toNat) ∨ (c ≤ ((u.1 21) (k).toNat) ∧ z_86 = (u.1 22) (12 * c + ((u.1 21) (k).toNat)).toNat) := h_86
                have hr89 := bt_n p0.1.2.2 g1.2 (by omega) (by omega) h_86
                refine j_sRi SS (As := [.long x, .int (J z_86)]) (rest := []) (c_X12_has3 l D x z_86 (show -2147483648 ≤ z_86 ∧ z_86 ≤ 2147483647 from (by omega))) mf_X12_has kw_1420 hG trivial rfl hl.1 ⟨⟨Nat.le_of_ble_eq_true rfl, Nat.le_of_ble_eq_true rfl⟩, Nat.le_of_ble_eq_true rfl, Nat.le_refl _, Nat.le_refl _⟩ rfl dX12_third_89 (fun z_89 h_89 => ?_)
                have h_89 : hs9 x z_86 z_89 := h_89
                have r_89 := hs_r h_89
                refine j_if_eq SS (tgt := 98) (x := z_89) dX12_third_92 (by decide) (by omega) (fun c_92 => ?_) (fun c_92 => ?_)
                · skip
                  refine lv_iinc (v := J (c + 1)) (lv' := [(5, .int (J (c + 1))), (0, .ref o), (1, .long x), (3, .int (J k)), (4, .int (J s))]) SS.1 SS.2.1 dX12_third_98 hl (k := 4) rfl (J_add _ _) (by decide) rfl (fun ls hl => ?_)
                  refine lv_goto (tgt := 3) SS.1 SS.2.1 dX12_third_101 (by decide) ?_
                  exact ih_3 (c + 1) ls (lv_sub hl [1, 2, 3, 4, 0] rfl) (by omega) (by first | exact (fun f9 hx9 p9 hp9 w9 => by by_cases e9 : (p9 : Int) = c; (have e8 : p9 = c.toNat := (by omega); subst e8; (have q8 := w9.1; rw [show c.toNat = (u.1 20 k.toNat).toNat by omega, tn_ij] at q8; omega)); exact i3_1 f9 hx9 p9 (by omega) w9) | exact (fun f9 hx9 p9 hp9 w9 => by by_cases e9 : (p9 : Int) = c; (have e8 : p9 = c.toNat := (by omega); subst e8; (have q8 := w9.1; rw [show c.toNat = (u.1 21 k.toNat).toNat by omega, tn_jj] at q8; omega)); exact i3_1 f9 hx9 p9 (by omega) w9) | exact (fun f9 hx9 p9 hp9 w9 => by by_cases e9 : (p9 : Int) = c; (have e8 : p9 = c.toNat := (by omega); subst e8; (have q8 := w9.1; rw [← h_49.1] at q8; omega)); exact i3_1 f9 hx9 p9 (by omega) w9) | exact (fun f9 hx9 p9 hp9 w9 => by by_cases e9 : (p9 : Int) = c; (have e8 : p9 = c.toNat := (by omega); subst e8; (have q8 := (hs_s hOL hNT h63 (by omega) (by omega) (by omega) h_67 h_70 hx9).mpr w9.2.1; omega)); exact i3_1 f9 hx9 p9 (by omega) w9) | exact (fun f9 hx9 p9 hp9 w9 => by by_cases e9 : (p9 : Int) = c; (have e8 : p9 = c.toNat := (by omega); subst e8; (have q8 := (hs_s hOL hNT h63 (by omega) (by omega) (by omega) h_86 h_89 hx9).mpr w9.2.2; omega)); exact i3_1 f9 hx9 p9 (by omega) w9)) (by omega)
                · skip
                  refine lv_iload SS.1 SS.2.1 dX12_third_95 (lv_at hl 4 rfl) ?_
                  exact W.iret SS.1 SS.2.1 hr (fun t ht hW => ⟨_, rfl, ⟨c, rfl, (⟨Or.inr ⟨by omega, by rw [← h_49.1]; omega⟩, fun f9 hx9 => Or.inr ⟨by omega, by rw [← h_49.1]; omega, (hs_s hOL hNT h63 (by omega) (by omega) (by omega) h_67 h_70 hx9).mp (by rcases h_70 with q8 | q8 <;> omega), (hs_s hOL hNT h63 (by omega) (by omega) (by omega) h_86 h_89 hx9).mp (by rcases h_89 with q8 | q8 <;> omega)⟩⟩)⟩, ht⟩) (fun _ h => nomatch h) dX12_third_97 hlk
  exact L_3 ((u.2.2 12 - (0 : Int)).toNat + 1) 0 ls (lv_sub hl [1, 2, 3, 4, 0] rfl) (by omega) (fun f9 hx9 p9 hp9 => by omega) (Nat.lt_succ_self _)


set_option maxHeartbeats 4000000 in
set_option maxRecDepth 100000 in
theorem c_X12_flipped3 (l : Launch) (D : JD) (o : Nat) (q : Nat → Nat) (u : MS) (x : Int64) (k : Int) (p0 : CV u) (p1 : 0 ≤ k ∧ k < u.2.2 23) : Met l yX12_flipped (jw yX12_flipped cX12_flipped 7 (some .long)) (jr 3 72) (jP [.ref o, .long x, .int (J k)] D (fun H => va_P D.1 j_cl (mW D o q u) H)) (vp_Sl (fun r => ∀ f : Nat → Bool, NX9 (u.1 10) (u.1 11) (u.1 20) (u.1 21) (u.2.2 23).toNat f → x = PB f (u.2.2 23).toNat → NV9 (u.1 10) (u.1 11) (u.1 20) (u.1 21) (u.2.2 12).toNat (u.2.2 23).toNat x k.toNat r)) 0 0 (fun _ => False) := by
  refine Met.ofW (cc := cX12_flipped) (maxL := 7) (ret := (some .long)) (by decide) rfl ?_
  intro pr en st mi args below meth co s₁ B hml hv
  obtain ⟨rfl, hG, hP⟩ := hv
  have hr := B.returns
  have hlk := B.notSynchronized
  have SS : jS pr mi co cX12_flipped 7 st _ RX12 := ⟨B.exec, B.bytes, hml, findClass_of_methodNamed B.named, fun w hw => atoms_spec (ws := (jw yX12_flipped cX12_flipped 7 (some .long))) B.pre w (List.mem_cons_of_mem _ hw)⟩
  have hl := lv_entry ([.ref o, .long x, .int (J k)]) (n := 7) (Nat.le_of_ble_eq_true rfl)
  rw [lg_entry_eq]
  generalize (lg_sl ([.ref o, .long x, .int (J k)]) ++ List.replicate (7 - (lg_sl ([.ref o, .long x, .int (J k)])).length) Slot.unset).toArray = ls at hl ⊢
  have hl : lv_has ls 7 [(0, .ref o), (1, .long x), (3, .int (J k))] := hl
  have hcu := p0.1
  have hsg := p0.1.2.2.1
  have hal := p0.1.1
  have hOS := p0.2.1
  have hOL := p0.2.2.1
  have hNT := p0.2.2.2.1
  have h63 := p0.2.2.2.2
  have g1 := sg_at p0.1.2.2 (k := k) (by omega) (by omega)
  refine lv_aload_n SS.1 SS.2.1 dX12_flipped_0 rfl (lv_at hl 0 rfl) ?_
  refine lv_lload_n SS.1 SS.2.1 dX12_flipped_1 rfl (lv_at hl 1 rfl) ?_
  refine lv_iload_n SS.1 SS.2.1 dX12_flipped_2 rfl (lv_at hl 2 rfl) ?_
  refine j_iconst SS dX12_flipped_3 ?_
  refine j_vRi SS (As := [.long x, .int (J k), .int (J 1)]) (rest := []) (c_X12_third3 l D o q u x k 1 (show CV u from (p0)) (show 0 ≤ k ∧ k < (u.2.2 23) from (by omega)) (show (1 : Int) = 1 ∨ (1 : Int) = -1 from (Or.inl rfl))) mf_X12_third kw_1451 hG hP hP (ci := 8) (q0 := 0) rfl rfl rfl rfl hl.1 ⟨⟨Nat.le_of_ble_eq_true rfl, Nat.le_of_ble_eq_true rfl⟩, Nat.le_of_ble_eq_true rfl, Nat.le_refl _, Nat.le_refl _⟩ rfl dX12_flipped_4 (fun z_4 h_4 => ?_)
  have h_4 : (z_4 = -9 ∨ ((0 ≤ z_4 ∧ z_4 < (u.2.2 12)) ∧ tn ((u.1 10)) ((u.1 11)) ((u.1 20) k.toNat).toNat ((u.1 21) k.toNat).toNat z_4.toNat = (1 : Int))) ∧ (∀ f : Nat → Bool, x = PB f ((u.2.2 23)).toNat → (z_4 = -9 ∧ ∀ p : Nat, (p : Int) < ((u.2.2 12)) → ¬ TR9 ((u.1 10)) ((u.1 11)) ((u.1 20)) ((u.1 21)) ((u.2.2 23)).toNat f k.toNat p (1 : Int)) ∨ ((0 ≤ z_4 ∧ z_4 < ((u.2.2 12))) ∧ TR9 ((u.1 10)) ((u.1 11)) ((u.1 20)) ((u.1 21)) ((u.2.2 23)).toNat f k.toNat z_4.toNat (1 : Int))) := h_4
  obtain ⟨h_4, t_4⟩ := h_4
  refine lv_istore (lv' := [(4, .int (J z_4)), (0, .ref o), (1, .long x), (3, .int (J k))]) SS.1 SS.2.1 dX12_flipped_7 hl (by decide) rfl (fun ls hl => ?_)
  refine lv_aload_n SS.1 SS.2.1 dX12_flipped_9 rfl (lv_at hl 1 rfl) ?_
  refine lv_lload_n SS.1 SS.2.1 dX12_flipped_10 rfl (lv_at hl 2 rfl) ?_
  refine lv_iload_n SS.1 SS.2.1 dX12_flipped_11 rfl (lv_at hl 3 rfl) ?_
  refine j_iconst SS dX12_flipped_12 ?_
  refine j_vRi SS (As := [.long x, .int (J k), .int (J (-1))]) (rest := []) (c_X12_third3 l D o q u x k (-1) (show CV u from (p0)) (show 0 ≤ k ∧ k < (u.2.2 23) from (by omega)) (show (-1 : Int) = 1 ∨ (-1 : Int) = -1 from (Or.inr rfl))) mf_X12_third kw_1451 hG hP hP (ci := 8) (q0 := 0) rfl rfl rfl rfl hl.1 ⟨⟨Nat.le_of_ble_eq_true rfl, Nat.le_of_ble_eq_true rfl⟩, Nat.le_of_ble_eq_true rfl, Nat.le_refl _, Nat.le_refl _⟩ rfl dX12_flipped_13 (fun z_13 h_13 => ?_)
  have h_13 : (z_13 = -9 ∨ ((0 ≤ z_13 ∧ z_13 < (u.2.2 12)) ∧ tn ((u.1 10)) ((u.1 11)) ((u.1 20) k.toNat).toNat ((u.1 21) k.toNat).toNat z_13.toNat = (-1 : Int))) ∧ (∀ f : Nat → Bool, x = PB f ((u.2.2 23)).toNat → (z_13 = -9 ∧ ∀ p : Nat, (p : Int) < ((u.2.2 12)) → ¬ TR9 ((u.1 10)) ((u.1 11)) ((u.1 20)) ((u.1 21)) ((u.2.2 23)).toNat f k.toNat p (-1 : Int)) ∨ ((0 ≤ z_13 ∧ z_13 < ((u.2.2 12))) ∧ TR9 ((u.1 10)) ((u.1 11)) ((u.1 20)) ((u.1 21)) ((u.2.2 23)).toNat f k.toNat z_13.toNat (-1 : Int))) := h_13
  obtain ⟨h_13, t_13⟩ := h_13
  refine lv_istore (lv' := [(5, .int (J z_13)), (4, .int (J z_4)), (0, .ref o), (1, .long x), (3, .int (J k))]) SS.1 SS.2.1 dX12_flipped_16 hl (by decide) rfl (fun ls hl => ?_)
  refine lv_lload_n SS.1 SS.2.1 dX12_flipped_18 rfl (lv_at hl 3 rfl) ?_
  refine lv_iload_n SS.1 SS.2.1 dX12_flipped_19 rfl (lv_at hl 4 rfl) ?_
  refine j_sRi SS (As := [.long x, .int (J k)]) (rest := []) (c_X12_has3 l D x k (show -2147483648 ≤ k ∧ k ≤ 2147483647 from (by omega))) mf_X12_has kw_1420 hG trivial rfl hl.1 ⟨⟨Nat.le_of_ble_eq_true rfl, Nat.le_of_ble_eq_true rfl⟩, Nat.le_of_ble_eq_true rfl, Nat.le_refl _, Nat.le_refl _⟩ rfl dX12_flipped_20 (fun z_20 h_20 => ?_)
  have h_20 : hs9 x k z_20 := h_20
  have r_20 := hs_r h_20
  refine j_if_eq SS (tgt := 40) (x := z_20) dX12_flipped_23 (by decide) (by omega) (fun c_23 => ?_) (fun c_23 => ?_)
  · skip
    refine lv_lconst (v := 0) SS.1 SS.2.1 dX12_flipped_40 (by decide +kernel) ?_
    exact W.lret SS.1 SS.2.1 hr (fun t ht hW => ⟨_, rfl, (fun f9 hN9 hx9 => fp_0 (by omega) hx9 (by first | exact Or.inl (bf9 (fun e9 => by have q9 := (hs_k h_20 hx9 (by omega) (by omega)).mpr e9; omega)) | exact Or.inr (Or.inl (fun p9 hp9 => by rcases t_4 f9 hx9 with q9 | q9; exact q9.2 p9 (by omega); omega)) | exact Or.inr (Or.inr (fun p9 hp9 => by rcases t_13 f9 hx9 with q9 | q9; exact q9.2 p9 (by omega); omega)))), ht⟩) (fun _ h => nomatch h) dX12_flipped_41 hlk
  · skip
    refine lv_iload SS.1 SS.2.1 dX12_flipped_26 (lv_at hl 1 rfl) ?_
    refine j_bipush SS dX12_flipped_28 (by decide +kernel) ?_
    refine j_icmp_eq SS (tgt := 40) (x := z_4) (y := (-9)) dX12_flipped_30 (by decide) (by omega) (by decide) (fun c_30 => ?_) (fun c_30 => ?_)
    · skip
      refine lv_lconst (v := 0) SS.1 SS.2.1 dX12_flipped_40 (by decide +kernel) ?_
      exact W.lret SS.1 SS.2.1 hr (fun t ht hW => ⟨_, rfl, (fun f9 hN9 hx9 => fp_0 (by omega) hx9 (by first | exact Or.inl (bf9 (fun e9 => by have q9 := (hs_k h_20 hx9 (by omega) (by omega)).mpr e9; omega)) | exact Or.inr (Or.inl (fun p9 hp9 => by rcases t_4 f9 hx9 with q9 | q9; exact q9.2 p9 (by omega); omega)) | exact Or.inr (Or.inr (fun p9 hp9 => by rcases t_13 f9 hx9 with q9 | q9; exact q9.2 p9 (by omega); omega)))), ht⟩) (fun _ h => nomatch h) dX12_flipped_41 hlk
    · skip
      refine lv_iload SS.1 SS.2.1 dX12_flipped_33 (lv_at hl 0 rfl) ?_
      refine j_bipush SS dX12_flipped_35 (by decide +kernel) ?_
      refine j_icmp_ne SS (tgt := 42) (x := z_13) (y := (-9)) dX12_flipped_37 (by decide) (by omega) (by decide) (fun c_37 => ?_) (fun c_37 => ?_)
      · skip
        have hne : z_4 ≠ z_13 := by intro e; have a1 : tn (u.1 10) (u.1 11) (u.1 20 k.toNat).toNat (u.1 21 k.toNat).toNat z_4.toNat = 1 := (by rcases h_4 with q | q; omega; exact q.2); have a2 : tn (u.1 10) (u.1 11) (u.1 20 k.toNat).toNat (u.1 21 k.toNat).toNat z_13.toNat = -1 := (by rcases h_13 with q | q; omega; exact q.2); rw [e] at a1; omega
        refine lv_aload_n SS.1 SS.2.1 dX12_flipped_42 rfl (lv_at hl 2 rfl) ?_
        refine lv_iload SS.1 SS.2.1 dX12_flipped_43 (lv_at hl 1 rfl) ?_
        refine lv_iload SS.1 SS.2.1 dX12_flipped_45 (lv_at hl 0 rfl) ?_
        refine j_vRi SS (As := [.int (J z_4), .int (J z_13)]) (rest := []) (c_X12_between1 l D o q u z_4 z_13 (show 0 ≤ z_4 ∧ z_4 < 12 from (by omega)) (show 0 ≤ z_13 ∧ z_13 < 12 from (by omega))) mf_X12_between1 kw_1455 hG hP hP (ci := 8) (q0 := 0) rfl rfl rfl rfl hl.1 ⟨⟨Nat.le_of_ble_eq_true rfl, Nat.le_of_ble_eq_true rfl⟩, Nat.le_of_ble_eq_true rfl, Nat.le_refl _, Nat.le_refl _⟩ rfl dX12_flipped_47 (fun z_47 h_47 => ?_)
        have h_47 : (z_4 < z_13 ∧ z_47 = (u.1 22) (12 * z_4 + z_13).toNat) ∨ (z_13 ≤ z_4 ∧ z_47 = (u.1 22) (12 * z_13 + z_4).toNat) := h_47
        have hr4 := bt_n p0.1.2.2 (a := z_4) (b := z_13) (by omega) (by omega) hne h_47
        refine lv_istore (lv' := [(6, .int (J z_47)), (5, .int (J z_13)), (4, .int (J z_4)), (0, .ref o), (1, .long x), (3, .int (J k))]) SS.1 SS.2.1 dX12_flipped_50 hl (by decide) rfl (fun ls hl => ?_)
        refine lv_iload SS.1 SS.2.1 dX12_flipped_52 (lv_at hl 0 rfl) ?_
        refine j_bipush SS dX12_flipped_54 (by decide +kernel) ?_
        refine j_icmp_eq SS (tgt := 86) (x := z_47) (y := (-9)) dX12_flipped_56 (by decide) (by omega) (by decide) (fun c_56 => ?_) (fun c_56 => ?_)
        · skip
          refine lv_lconst (v := 0) SS.1 SS.2.1 dX12_flipped_86 (by decide +kernel) ?_
          exact W.lret SS.1 SS.2.1 hr (fun t ht hW => ⟨_, rfl, (fun f9 hN9 hx9 => by first | exact fp_3 hOL hNT h63 hOS hx9 hN9 (by omega) (by omega) hne (by rcases t_4 f9 hx9 with q9 | q9; omega; exact q9.2) (by rcases t_13 f9 hx9 with q9 | q9; omega; exact q9.2) h_47 (Or.inl (by omega)) | exact fp_3 hOL hNT h63 hOS hx9 hN9 (by omega) (by omega) hne (by rcases t_4 f9 hx9 with q9 | q9; omega; exact q9.2) (by rcases t_13 f9 hx9 with q9 | q9; omega; exact q9.2) h_47 (Or.inr (by rcases h_63 with q9 | q9; omega; exact q9.2)) | (rw [ex_72, ex_81]; exact fp_4 hOL hNT h63 hx9 hN9 (by omega) ((hs_k h_20 hx9 (by omega) (by omega)).mp (by rcases h_20 with q9 | q9 <;> omega)) (by omega) (by omega) hne (by rcases t_4 f9 hx9 with q9 | q9; omega; exact q9.2) (by rcases t_13 f9 hx9 with q9 | q9; omega; exact q9.2) h_47 (by omega) (by rcases h_63 with q9 | q9; exact q9.2; omega))), ht⟩) (fun _ h => nomatch h) dX12_flipped_87 hlk
        · skip
          refine lv_aload_n SS.1 SS.2.1 dX12_flipped_59 rfl (lv_at hl 3 rfl) ?_
          refine lv_iload_n SS.1 SS.2.1 dX12_flipped_60 rfl (lv_at hl 5 rfl) ?_
          refine lv_iload SS.1 SS.2.1 dX12_flipped_61 (lv_at hl 0 rfl) ?_
          refine j_vRi SS (As := [.int (J k), .int (J z_47)]) (rest := []) (c_X12_doCross3 l D o q u k z_47 (show CU u from (p0.1)) (show 0 ≤ k ∧ k < (u.2.2 23) from (by omega)) (show 0 ≤ z_47 ∧ z_47 < (u.2.2 23) from (by omega))) mf_X12_doCross kw_1423 hG hP hP (ci := 8) (q0 := 0) rfl rfl rfl rfl hl.1 ⟨⟨Nat.le_of_ble_eq_true rfl, Nat.le_of_ble_eq_true rfl⟩, Nat.le_of_ble_eq_true rfl, Nat.le_refl _, Nat.le_refl _⟩ rfl dX12_flipped_63 (fun z_63 h_63 => ?_)
          have h_63 : (z_63 = 1 ∧ XS9 ((u.1 10)) ((u.1 11)) ((u.1 20)) ((u.1 21)) k.toNat z_47.toNat) ∨ (z_63 = 0 ∧ ¬ XS9 ((u.1 10)) ((u.1 11)) ((u.1 20)) ((u.1 21)) k.toNat z_47.toNat) := h_63
          refine j_if_eq SS (tgt := 86) (x := z_63) dX12_flipped_66 (by decide) (by omega) (fun c_66 => ?_) (fun c_66 => ?_)
          · skip
            refine lv_lconst (v := 0) SS.1 SS.2.1 dX12_flipped_86 (by decide +kernel) ?_
            exact W.lret SS.1 SS.2.1 hr (fun t ht hW => ⟨_, rfl, (fun f9 hN9 hx9 => by first | exact fp_3 hOL hNT h63 hOS hx9 hN9 (by omega) (by omega) hne (by rcases t_4 f9 hx9 with q9 | q9; omega; exact q9.2) (by rcases t_13 f9 hx9 with q9 | q9; omega; exact q9.2) h_47 (Or.inl (by omega)) | exact fp_3 hOL hNT h63 hOS hx9 hN9 (by omega) (by omega) hne (by rcases t_4 f9 hx9 with q9 | q9; omega; exact q9.2) (by rcases t_13 f9 hx9 with q9 | q9; omega; exact q9.2) h_47 (Or.inr (by rcases h_63 with q9 | q9; omega; exact q9.2)) | (rw [ex_72, ex_81]; exact fp_4 hOL hNT h63 hx9 hN9 (by omega) ((hs_k h_20 hx9 (by omega) (by omega)).mp (by rcases h_20 with q9 | q9 <;> omega)) (by omega) (by omega) hne (by rcases t_4 f9 hx9 with q9 | q9; omega; exact q9.2) (by rcases t_13 f9 hx9 with q9 | q9; omega; exact q9.2) h_47 (by omega) (by rcases h_63 with q9 | q9; exact q9.2; omega))), ht⟩) (fun _ h => nomatch h) dX12_flipped_87 hlk
          · skip
            refine lv_lload_n SS.1 SS.2.1 dX12_flipped_69 rfl (lv_at hl 4 rfl) ?_
            refine lv_lconst (v := 1) SS.1 SS.2.1 dX12_flipped_70 (by decide +kernel) ?_
            refine lv_iload_n SS.1 SS.2.1 dX12_flipped_71 rfl (lv_at hl 5 rfl) ?_
            refine lv_lshl SS.1 SS.2.1 dX12_flipped_72 rfl (lv_topl (fun x_72 ex_72 => ?_))
            refine lv_ldc2 SS.1 SS.2.1 SS.2.2.2.1 (SS.2.2.2.2 _ kw_1248) dX12_flipped_73 ?_
            refine lv_lxor SS.1 SS.2.1 dX12_flipped_76 ?_
            refine lv_land SS.1 SS.2.1 dX12_flipped_77 ?_
            refine lv_lconst (v := 1) SS.1 SS.2.1 dX12_flipped_78 (by decide +kernel) ?_
            refine lv_iload SS.1 SS.2.1 dX12_flipped_79 (lv_at hl 0 rfl) ?_
            refine lv_lshl SS.1 SS.2.1 dX12_flipped_81 rfl (lv_topl (fun x_81 ex_81 => ?_))
            refine lv_lor SS.1 SS.2.1 dX12_flipped_82 ?_
            refine lv_goto (tgt := 87) SS.1 SS.2.1 dX12_flipped_83 (by decide) ?_
            exact W.lret SS.1 SS.2.1 hr (fun t ht hW => ⟨_, rfl, (fun f9 hN9 hx9 => by first | exact fp_3 hOL hNT h63 hOS hx9 hN9 (by omega) (by omega) hne (by rcases t_4 f9 hx9 with q9 | q9; omega; exact q9.2) (by rcases t_13 f9 hx9 with q9 | q9; omega; exact q9.2) h_47 (Or.inl (by omega)) | exact fp_3 hOL hNT h63 hOS hx9 hN9 (by omega) (by omega) hne (by rcases t_4 f9 hx9 with q9 | q9; omega; exact q9.2) (by rcases t_13 f9 hx9 with q9 | q9; omega; exact q9.2) h_47 (Or.inr (by rcases h_63 with q9 | q9; omega; exact q9.2)) | (rw [ex_72, ex_81]; exact fp_4 hOL hNT h63 hx9 hN9 (by omega) ((hs_k h_20 hx9 (by omega) (by omega)).mp (by rcases h_20 with q9 | q9 <;> omega)) (by omega) (by omega) hne (by rcases t_4 f9 hx9 with q9 | q9; omega; exact q9.2) (by rcases t_13 f9 hx9 with q9 | q9; omega; exact q9.2) h_47 (by omega) (by rcases h_63 with q9 | q9; exact q9.2; omega))), ht⟩) (fun _ h => nomatch h) dX12_flipped_87 hlk
      · skip
        refine lv_lconst (v := 0) SS.1 SS.2.1 dX12_flipped_40 (by decide +kernel) ?_
        exact W.lret SS.1 SS.2.1 hr (fun t ht hW => ⟨_, rfl, (fun f9 hN9 hx9 => fp_0 (by omega) hx9 (by first | exact Or.inl (bf9 (fun e9 => by have q9 := (hs_k h_20 hx9 (by omega) (by omega)).mpr e9; omega)) | exact Or.inr (Or.inl (fun p9 hp9 => by rcases t_4 f9 hx9 with q9 | q9; exact q9.2 p9 (by omega); omega)) | exact Or.inr (Or.inr (fun p9 hp9 => by rcases t_13 f9 hx9 with q9 | q9; exact q9.2 p9 (by omega); omega)))), ht⟩) (fun _ h => nomatch h) dX12_flipped_41 hlk


set_option maxHeartbeats 4000000 in
set_option maxRecDepth 100000 in
theorem c_X12_slotOf3 (l : Launch) (D : JD) (o : Nat) (q : Nat → Nat) (u : MS) (x : Int64) (p0 : sl (u.1 26) (u.2.2 27)) (p1 : 0 ≤ u.2.2 27 ∧ u.2.2 27 ≤ 1500) (p2 : ∃ m9 : Int, m9 ≤ 1500 ∧ HT9 hM9 (VM9 (u.1 26)) (u.2.1 24) m9) : Met l yX12_slotOf (jw yX12_slotOf cX12_slotOf 4 (some .int)) (jr 0 0) (jP [.ref o, .long x] D (fun H => va_P D.1 j_cl (mW D o q u) H)) (jRi (fun z => (0 ≤ z ∧ z < 4096) ∧ SO9 (u.1 26) (u.2.1 24) x z)) 0 0 (fun _ => False) := by
  refine Met.ofW (cc := cX12_slotOf) (maxL := 4) (ret := (some .int)) (by decide) rfl ?_
  intro pr en st mi args below meth co s₁ B hml hv
  obtain ⟨rfl, hG, hP⟩ := hv
  have hr := B.returns
  have hlk := B.notSynchronized
  have SS : jS pr mi co cX12_slotOf 4 st _ RX12 := ⟨B.exec, B.bytes, hml, findClass_of_methodNamed B.named, fun w hw => atoms_spec (ws := (jw yX12_slotOf cX12_slotOf 4 (some .int))) B.pre w (List.mem_cons_of_mem _ hw)⟩
  have hl := lv_entry ([.ref o, .long x]) (n := 4) (Nat.le_of_ble_eq_true rfl)
  rw [lg_entry_eq]
  generalize (lg_sl ([.ref o, .long x]) ++ List.replicate (4 - (lg_sl ([.ref o, .long x])).length) Slot.unset).toArray = ls at hl ⊢
  have hl : lv_has ls 4 [(0, .ref o), (1, .long x)] := hl
  obtain ⟨w, hw, hw9⟩ := sl_free p0 p1.2
  refine lv_lload_n SS.1 SS.2.1 dX12_slotOf_0 rfl (lv_at hl 1 rfl) ?_
  refine lv_lload_n SS.1 SS.2.1 dX12_slotOf_1 rfl (lv_at hl 1 rfl) ?_
  refine j_bipush SS dX12_slotOf_2 (by decide +kernel) ?_
  refine lv_lshr SS.1 SS.2.1 dX12_slotOf_4 rfl (lv_topl (fun x_4 ex_4 => ?_))
  refine lv_lxor SS.1 SS.2.1 dX12_slotOf_5 ?_
  refine lv_lload_n SS.1 SS.2.1 dX12_slotOf_6 rfl (lv_at hl 1 rfl) ?_
  refine j_bipush SS dX12_slotOf_7 (by decide +kernel) ?_
  refine lv_lshr SS.1 SS.2.1 dX12_slotOf_9 rfl (lv_topl (fun x_9 ex_9 => ?_))
  refine lv_lxor SS.1 SS.2.1 dX12_slotOf_10 ?_
  refine lv_ldc2 SS.1 SS.2.1 SS.2.2.2.1 (SS.2.2.2.2 _ kw_1446) dX12_slotOf_11 ?_
  refine lv_land SS.1 SS.2.1 dX12_slotOf_14 ?_
  refine lv_l2i SS.1 SS.2.1 dX12_slotOf_15 rfl ?_
  rw [J_of (Int64.toInt32 _)]
  have r_15 := J_rng (Int64.toInt32 (((x ^^^ x_4) ^^^ x_9) &&& (4095)))
  refine lv_istore_n (lv' := [(3, .int (J ((Int64.toInt32 (((x ^^^ x_4) ^^^ x_9) &&& (4095))).toInt))), (0, .ref o), (1, .long x)]) SS.1 SS.2.1 dX12_slotOf_16 rfl hl (by decide) rfl (fun ls hl => ?_)
  have L_17 : ∀ (nn : Nat) (s : Int) (ls : Array Slot) (hl : lv_has ls 4 [(0, .ref o), (1, .long x), (3, .int (J s))]) (i17_0 : 0 ≤ s ∧ s < 4096) (i17_1 : ∃ d : Nat, s.toNat = (hM9 x + d) % 4096 ∧ LK9 hM9 (VM9 (u.1 26)) (u.2.1 24) x d), (((w : Int) - s) % 4096).toNat < nn → W pr l en (headSpec (jw yX12_slotOf cX12_slotOf 4 (some .int)) (jr 0 0)).room st mi (([.ref o, .long x] : List Value).toArray) below meth co st.heap [] 0 0 (MQ below (jRi (fun z => (0 ≤ z ∧ z < 4096) ∧ SO9 (u.1 26) (u.2.1 24) x z)) (([.ref o, .long x] : List Value).toArray) st 0 0 (fun _ => False)) (F0 mi 17 ls []) := by
    intro nn
    induction nn with
    | zero => intros; omega
    | succ nn ih_17 =>
      intro s ls hl i17_0 i17_1 hm
      have hs := p0.1 s.toNat (by omega)
      have hv := VM_p hs
      refine lv_aload_n SS.1 SS.2.1 dX12_slotOf_17 rfl (lv_at hl 0 rfl) ?_
      refine j_get SS hG hP 0 (v := .ref (q 26)) (C := RX12) (T := TX12) (N := 31) rfl rfl inX12 26 (by decide) (ref := RX12) kw_1084 rfl rfl dX12_slotOf_18 ?_
      refine lv_iload_n SS.1 SS.2.1 dX12_slotOf_21 rfl (lv_at hl 2 rfl) ?_
      refine j_iald SS hG hP 22 (n := 4096) (f := (u.1 26)) rfl (z := s) (by omega) (by omega) dX12_slotOf_22 ?_
      refine j_bipush SS dX12_slotOf_23 (by decide +kernel) ?_
      refine j_icmp_eq SS (tgt := 55) (x := ((u.1 26) (s).toNat)) (y := (-9)) dX12_slotOf_25 (by decide) (by omega) (by decide) (fun c_25 => ?_) (fun c_25 => ?_)
      · skip
        refine lv_iload_n SS.1 SS.2.1 dX12_slotOf_55 rfl (lv_at hl 2 rfl) ?_
        exact W.iret SS.1 SS.2.1 hr (fun t ht hW => ⟨_, rfl, ⟨s, rfl, (by obtain ⟨d9, d1, d2⟩ := i17_1; obtain ⟨m9, m1, m2⟩ := p2; have hd : d9 < 4096 := Nat.lt_of_not_le (fun w9 => HT_fu m2 m1 (fun e9 he9 => d2 e9 (by omega))); first | exact ⟨by omega, d9, hd, d1, d2, Or.inl (hv.1.mpr (by omega))⟩ | exact ⟨by omega, d9, hd, d1, d2, Or.inr ⟨fun q9 => c_25 (hv.1.mp q9), by rw [hv.2 c_25]; exact hz_40.2.2.2.mp (by omega)⟩⟩)⟩, ht⟩) (fun _ h => nomatch h) dX12_slotOf_56 hlk
      · skip
        refine lv_aload_n SS.1 SS.2.1 dX12_slotOf_28 rfl (lv_at hl 0 rfl) ?_
        refine j_get SS hG hP 0 (v := .ref (q 24)) (C := RX12) (T := TX12) (N := 31) rfl rfl inX12 24 (by decide) (ref := RX12) kw_1082 rfl rfl dX12_slotOf_29 ?_
        refine lv_aload_n SS.1 SS.2.1 dX12_slotOf_32 rfl (lv_at hl 0 rfl) ?_
        refine j_get SS hG hP 0 (v := .ref (q 26)) (C := RX12) (T := TX12) (N := 31) rfl rfl inX12 26 (by decide) (ref := RX12) kw_1084 rfl rfl dX12_slotOf_33 ?_
        refine lv_iload_n SS.1 SS.2.1 dX12_slotOf_36 rfl (lv_at hl 2 rfl) ?_
        refine j_iald SS hG hP 22 (n := 4096) (f := (u.1 26)) rfl (z := s) (by omega) (by omega) dX12_slotOf_37 ?_
        refine j_lald SS hG hP 20 (n := 1501) (f := (u.2.1 24)) rfl (z := ((u.1 26) (s).toNat)) (by omega) (by omega) dX12_slotOf_38 ?_
        refine lv_lload_n SS.1 SS.2.1 dX12_slotOf_39 rfl (lv_at hl 1 rfl) ?_
        refine j_lcmp SS dX12_slotOf_40 (fun z_40 hz_40 => ?_)
        refine j_if_eq SS (tgt := 55) (x := z_40) dX12_slotOf_41 (by decide) (by omega) (fun c_41 => ?_) (fun c_41 => ?_)
        · skip
          refine lv_iload_n SS.1 SS.2.1 dX12_slotOf_55 rfl (lv_at hl 2 rfl) ?_
          exact W.iret SS.1 SS.2.1 hr (fun t ht hW => ⟨_, rfl, ⟨s, rfl, (by obtain ⟨d9, d1, d2⟩ := i17_1; obtain ⟨m9, m1, m2⟩ := p2; have hd : d9 < 4096 := Nat.lt_of_not_le (fun w9 => HT_fu m2 m1 (fun e9 he9 => d2 e9 (by omega))); first | exact ⟨by omega, d9, hd, d1, d2, Or.inl (hv.1.mpr (by omega))⟩ | exact ⟨by omega, d9, hd, d1, d2, Or.inr ⟨fun q9 => c_25 (hv.1.mp q9), by rw [hv.2 c_25]; exact hz_40.2.2.2.mp (by omega)⟩⟩)⟩, ht⟩) (fun _ h => nomatch h) dX12_slotOf_56 hlk
        · skip
          have hsw : s ≠ (w : Int) := by intro e; have e2 : s.toNat = w := (by omega); rw [e2] at c_25; omega
          refine lv_iload_n SS.1 SS.2.1 dX12_slotOf_44 rfl (lv_at hl 2 rfl) ?_
          refine j_iconst SS dX12_slotOf_45 ?_
          refine j_iadd SS (x := s) (y := 1) dX12_slotOf_46 ?_
          refine j_sipush SS dX12_slotOf_47 (by decide +kernel) ?_
          refine lv_iand SS.1 SS.2.1 dX12_slotOf_50 ?_
          rw [J_andm (by omega) (n := 4095) rfl]
          refine lv_istore_n (lv' := [(3, .int (J ((s + 1) % (4095 + 1)))), (0, .ref o), (1, .long x)]) SS.1 SS.2.1 dX12_slotOf_51 rfl hl (by decide) rfl (fun ls hl => ?_)
          refine lv_goto (tgt := 17) SS.1 SS.2.1 dX12_slotOf_52 (by decide) ?_
          exact ih_17 ((s + 1) % (4095 + 1)) ls (lv_sub hl [1, 2, 0] rfl) (by omega) (by obtain ⟨d9, d1, d2⟩ := i17_1; exact ⟨d9 + 1, by omega, LK_s d2 (by rw [← d1]; exact fun q9 => c_25 (hv.1.mp q9)) (by rw [← d1, hv.2 c_25]; exact fun q9 => by have q8 := hz_40.2.2.2.mpr q9; omega)⟩) (by omega)
  exact L_17 ((((w : Int) - ((Int64.toInt32 (((x ^^^ x_4) ^^^ x_9) &&& (4095))).toInt)) % 4096).toNat + 1) ((Int64.toInt32 (((x ^^^ x_4) ^^^ x_9) &&& (4095))).toInt) ls (lv_sub hl [1, 2, 0] rfl) (L_m12 _) (⟨0, by have b9 := L_m12 ((x ^^^ x_4) ^^^ x_9); unfold hM9; rw [← ex_4, ← ex_9]; omega, LK_0⟩) (Nat.lt_succ_self _)


/-- the search stands at step T, or was given up -/
def RT9 (N : Int64 → Nat → Int64 → Prop) (b : Int64) (T : Nat) (m : Int) (C : Nat → Int64) (F : Nat → Int) (t : Int) : Prop := (t = 0 ∧ RS9 N b T m C F 0) ∨ (t = 1 ∧ ∃ T' : Nat, RS9 N b T' m C F 1)
def IN9 (C : Nat → Int64) (c : Int) (x : Int64) : Prop := ∃ q : Nat, (q : Int) < c ∧ C q = x
theorem RT_o {N : Int64 → Nat → Int64 → Prop} {b : Int64} {T : Nat} {m t : Int} {C : Nat → Int64} {F : Nat → Int} (h : RT9 N b T m C F t) (e : t ≠ 1) : RS9 N b T m C F 0 := by
  rcases h with h | h
  · exact h.2
  · exact absurd h.1 e

set_option maxHeartbeats 4000000 in
set_option maxRecDepth 100000 in
theorem c_X12_findCuts3 (l : Launch) (D : JD) (o : Nat) (q : Nat → Nat) (u : MS) (A : Nat → Prop) (hD : va_D A (mW D o q u)) (s : Int) (p0 : IM u) (p1 : 0 ≤ s ∧ s ≤ 7) (p2 : 2 < mN u s) (p3 : mEd u s + mIn u s ≤ 12) : Met l yX12_findCuts (jw yX12_findCuts cX12_findCuts 7 none) (jr 4 98) (jP [.ref o, .int (J s)] D (fun H => va_P D.1 j_cl (mW D o q u) H)) (jWv (fun u' => ∃ X : Nat → Int, ∃ Y : Nat → Int, ∃ n : Int, ∃ A : Nat → Int, ∃ B : Nat → Int, ∃ S : Nat → Int, ∃ m : Int, ∃ C : Nat → Int64, ∃ F : Nat → Int, ∃ W : Nat → Int, ∃ c : Int, ∃ t : Int, u' = (uV (uV (uI (uI (uL (uV (uI (uI (uI (uV (uI (uI u 10 X) 11 Y) 12 n) 20 A) 21 B) 22 S) 23 m) 24 C) 25 F) 26 W) 27 c) 28 t) ∧ ((CU u' ∧ (1 ≤ c ∧ c ≤ 1500) ∧ (t = 0 ∨ t = 1) ∧ (0 ≤ m ∧ m ≤ 66) ∧ IM u') ∧ ((0 ≤ n ∧ n ≤ 12) ∧ OL (PBx u s) n X Y) ∧ CV u' ∧ FCT X Y n A B m C F c t)) (fun u' H => va_P D.1 j_cl (mW D o q u') H) A) 0 0 A := by
  refine Met.ofW (cc := cX12_findCuts) (maxL := 7) (ret := none) (by decide) rfl ?_
  intro pr en st mi args below meth co s₁ B hml hv
  obtain ⟨rfl, hG, hP⟩ := hv
  have hr := B.returns
  have hlk := B.notSynchronized
  have SS : jS pr mi co cX12_findCuts 7 st _ RX12 := ⟨B.exec, B.bytes, hml, findClass_of_methodNamed B.named, fun w hw => atoms_spec (ws := (jw yX12_findCuts cX12_findCuts 7 none)) B.pre w (List.mem_cons_of_mem _ hw)⟩
  have hl := lv_entry ([.ref o, .int (J s)]) (n := 7) (Nat.le_of_ble_eq_true rfl)
  rw [lg_entry_eq]
  generalize (lg_sl ([.ref o, .int (J s)]) ++ List.replicate (7 - (lg_sl ([.ref o, .int (J s)])).length) Slot.unset).toArray = ls at hl ⊢
  have hl : lv_has ls 7 [(0, .ref o), (1, .int (J s))] := hl
  have hS : va_S A st.heap st.heap [] := va_S.rf
  refine lv_aload_n SS.1 SS.2.1 dX12_findCuts_0 rfl (lv_at hl 0 rfl) ?_
  refine lv_iload_n SS.1 SS.2.1 dX12_findCuts_1 rfl (lv_at hl 1 rfl) ?_
  refine j_vWv SS (As := [.int (J s)]) (rest := []) (c_X12_findAll3 l D o q u A (mW_D hD) s (show 0 ≤ s ∧ s ≤ 7 from (by omega)) (show Sh u s from (p0.1 _ (by omega) (by omega)))) mf_X12_findAll kw_1266 hG hP hP (ci := 8) (q0 := 0) rfl rfl rfl hS (fun _ h => h) rfl hl.1 ⟨⟨Nat.le_of_ble_eq_true rfl, Nat.le_of_ble_eq_true rfl⟩, Nat.le_of_ble_eq_true rfl, Nat.le_refl _, Nat.le_refl _⟩ rfl dX12_findCuts_2 (fun u2 H locs h_2 hP _ hS => ?_)
  obtain ⟨X_2, Y_2, n_2, lo_2, hi_2, rfl, h_2⟩ := h_2
  have hP : va_P D.1 j_cl (mW D o q (uV (uI (uI u 10 X_2) 11 Y_2) 12 n_2)) H := hP
  have h_2 : (0 ≤ n_2 ∧ n_2 ≤ 6561 ∧ bd 40 X_2 Y_2 n_2 ∧ OL (PBx u s) n_2 X_2 Y_2 ∧ (bd 40 ((u.1 10)) ((u.1 11)) 6561 → bd 40 X_2 Y_2 6561)) ∧ (0 < mN u s → (∀ k : Int, 0 ≤ k → k < mN u s → lo_2 ≤ mX u s k ∧ mX u s k ≤ hi_2) ∧ (∃ k : Int, 0 ≤ k ∧ k < mN u s ∧ mX u s k = lo_2) ∧ ∃ k : Int, 0 ≤ k ∧ k < mN u s ∧ mX u s k = hi_2) ∧ ∀ L U : Int → Int, LU u s lo_2 hi_2 L U → n_2 ≤ cb_ L U lo_2 (hi_2 + 1 - lo_2) ∨ hi_2 < lo_2 ∧ n_2 = 0 := h_2
  have hn12 := fa_pick (p0.1 s (by omega) (by omega)) p2 (h_2.2.1 (by omega)) h_2.2.2
  have hn0 := h_2.1.1
  have hOP := h_2.1.2.2.2.1
  have hos := hOP.2.1
  have hIM : bd 40 X_2 Y_2 6561 := h_2.1.2.2.2.2 p0.2.2
  refine lv_aload_n SS.1 SS.2.1 dX12_findCuts_5 rfl (lv_at hl 0 rfl) ?_
  refine j_vWv SS (As := []) (rest := []) (c_X12_findSegments3 l D o q (uV (uI (uI u 10 X_2) 11 Y_2) 12 n_2) A (mW_D hD)  (show 0 ≤ n_2 ∧ n_2 ≤ 12 from (by omega)) (show bd 40 (X_2) (Y_2) 6561 from (hIM))) mf_X12_findSegments kw_1412 hG hP hP (ci := 8) (q0 := 0) rfl rfl rfl hS (fun _ h => h) rfl hl.1 ⟨⟨Nat.le_of_ble_eq_true rfl, Nat.le_of_ble_eq_true rfl⟩, Nat.le_of_ble_eq_true rfl, Nat.le_refl _, Nat.le_refl _⟩ rfl dX12_findCuts_6 (fun u6 H locs h_6 hP _ hS => ?_)
  obtain ⟨A_6, B_6, S_6, n_6, rfl, h_6⟩ := h_6
  have hP : va_P D.1 j_cl (mW D o q (uV (uI (uI (uI (uV (uI (uI u 10 X_2) 11 Y_2) 12 n_2) 20 A_6) 21 B_6) 22 S_6) 23 n_6)) H := hP
  have h_6 : (sg A_6 B_6 S_6 n_6 (n_2)) ∧ OL (SGP (X_2) (Y_2) (n_2)) n_6 A_6 B_6 ∧ NT9 (-9) (X_2) (Y_2) (n_2) n_6 A_6 B_6 S_6 ∧ n_6 ≤ 63 := h_6
  obtain ⟨hsg6, hOL, hNT, h63⟩ := h_6
  have hm := hsg6.1
  have hcu : (0 ≤ n_2 ∧ n_2 ≤ 12) ∧ bd 40 X_2 Y_2 6561 ∧ sg A_6 B_6 S_6 n_6 n_2 := ⟨by omega, hIM, hsg6⟩
  have hcv : ((0 ≤ n_2 ∧ n_2 ≤ 12) ∧ bd 40 X_2 Y_2 6561 ∧ sg A_6 B_6 S_6 n_6 n_2) ∧ os_s X_2 Y_2 n_2 ∧ OL (SGP X_2 Y_2 n_2) n_6 A_6 B_6 ∧ NT9 (-9) X_2 Y_2 n_2 n_6 A_6 B_6 S_6 ∧ n_6 ≤ 63 := ⟨hcu, hos, hOL, hNT, h63⟩
  refine j_iconst SS dX12_findCuts_9 ?_
  refine lv_istore_n (lv' := [(2, .int (J 0)), (0, .ref o), (1, .int (J s))]) SS.1 SS.2.1 dX12_findCuts_10 rfl hl (by decide) rfl (fun ls hl => ?_)
  have L_11 : ∀ (nn : Nat) (k : Int) (W1 : Nat → Int) (H : Heap) (locs : List Loc) (hP : va_P D.1 j_cl (mW D o q (uI (uV (uI (uI (uI (uV (uI (uI u 10 X_2) 11 Y_2) 12 n_2) 20 A_6) 21 B_6) 22 S_6) 23 n_6) 26 W1)) H) (hS : va_S A st.heap H locs) (ls : Array Slot) (hl : lv_has ls 7 [(0, .ref o), (1, .int (J s)), (2, .int (J k))]) (i11_0 : 0 ≤ k ∧ k ≤ 4096) (i11_1 : ∀ j : Nat, (j : Int) < k → W1 j = -9), ((4096 : Int) - k).toNat < nn → W pr l en (headSpec (jw yX12_findCuts cX12_findCuts 7 none) (jr 4 98)).room st mi (([.ref o, .int (J s)] : List Value).toArray) below meth co H locs 0 0 (MQ below (jWv (fun u' => ∃ X : Nat → Int, ∃ Y : Nat → Int, ∃ n : Int, ∃ A : Nat → Int, ∃ B : Nat → Int, ∃ S : Nat → Int, ∃ m : Int, ∃ C : Nat → Int64, ∃ F : Nat → Int, ∃ W : Nat → Int, ∃ c : Int, ∃ t : Int, u' = (uV (uV (uI (uI (uL (uV (uI (uI (uI (uV (uI (uI u 10 X) 11 Y) 12 n) 20 A) 21 B) 22 S) 23 m) 24 C) 25 F) 26 W) 27 c) 28 t) ∧ ((CU u' ∧ (1 ≤ c ∧ c ≤ 1500) ∧ (t = 0 ∨ t = 1) ∧ (0 ≤ m ∧ m ≤ 66) ∧ IM u') ∧ ((0 ≤ n ∧ n ≤ 12) ∧ OL (PBx u s) n X Y) ∧ CV u' ∧ FCT X Y n A B m C F c t)) (fun u' H => va_P D.1 j_cl (mW D o q u') H) A) (([.ref o, .int (J s)] : List Value).toArray) st 0 0 A) (F0 mi 11 ls []) := by
    intro nn
    induction nn with
    | zero => intros; omega
    | succ nn ih_11 =>
      intro k W1 H locs hP hS ls hl i11_0 i11_1 hm
      refine lv_iload_n SS.1 SS.2.1 dX12_findCuts_11 rfl (lv_at hl 2 rfl) ?_
      refine j_sipush SS dX12_findCuts_12 (by decide +kernel) ?_
      refine j_icmp_ge SS (tgt := 32) (x := k) (y := 4096) dX12_findCuts_15 (by decide) (by omega) (by decide) (fun c_15 => ?_) (fun c_15 => ?_)
      · skip
        refine lv_aload_n SS.1 SS.2.1 dX12_findCuts_32 rfl (lv_at hl 0 rfl) ?_
        refine j_iconst SS dX12_findCuts_33 ?_
        refine j_put SS hG hP (mW_D hD) hS 0 (v := .int (J 0)) (ty := .boolean) (C := RX12) (T := TX12) (N := 31) rfl rfl inX12 tyX12 tyX12_ok nmX12 28 (by decide) (ref := RX12) kw_1086 rfl rfl (by decide +kernel) (j_nz (by omega)) rfl (Nat.le_of_ble_eq_true rfl) dX12_findCuts_34 (ws' := (mW D o q (uV (uI (uV (uI (uI (uI (uV (uI (uI u 10 X_2) 11 Y_2) 12 n_2) 20 A_6) 21 B_6) 22 S_6) 23 n_6) 26 W1) 28 0))) rfl (fun H locs hP hS => ?_)
        refine lv_aload_n SS.1 SS.2.1 dX12_findCuts_37 rfl (lv_at hl 0 rfl) ?_
        refine j_iconst SS dX12_findCuts_38 ?_
        refine j_put SS hG hP (mW_D hD) hS 0 (v := .int (J 1)) (ty := .int) (C := RX12) (T := TX12) (N := 31) rfl rfl inX12 tyX12 tyX12_ok nmX12 27 (by decide) (ref := RX12) kw_1085 rfl rfl (by decide +kernel) rfl rfl (Nat.le_of_ble_eq_true rfl) dX12_findCuts_39 (ws' := (mW D o q (uV (uV (uI (uV (uI (uI (uI (uV (uI (uI u 10 X_2) 11 Y_2) 12 n_2) 20 A_6) 21 B_6) 22 S_6) 23 n_6) 26 W1) 27 1) 28 0))) rfl (fun H locs hP hS => ?_)
        refine lv_aload_n SS.1 SS.2.1 dX12_findCuts_42 rfl (lv_at hl 0 rfl) ?_
        refine j_get SS hG hP 0 (v := .ref (q 24)) (C := RX12) (T := TX12) (N := 31) rfl rfl inX12 24 (by decide) (ref := RX12) kw_1082 rfl rfl dX12_findCuts_43 ?_
        refine j_iconst SS dX12_findCuts_46 ?_
        refine lv_aload_n SS.1 SS.2.1 dX12_findCuts_47 rfl (lv_at hl 0 rfl) ?_
        refine j_vRl SS (As := []) (rest := [.int (J 0), .ref (q 24)]) (c_X12_firstCut3 l D o q (uV (uV (uI (uV (uI (uI (uI (uV (uI (uI u 10 X_2) 11 Y_2) 12 n_2) 20 A_6) 21 B_6) 22 S_6) 23 n_6) 26 W1) 27 1) 28 0)  (show CV (uV (uV (uI (uV (uI (uI (uI (uV (uI (uI u 10 X_2) 11 Y_2) 12 n_2) 20 A_6) 21 B_6) 22 S_6) 23 n_6) 26 W1) 27 1) 28 0) from (hcv))) mf_X12_firstCut kw_1416 hG hP hP (ci := 8) (q0 := 0) rfl rfl rfl rfl hl.1 ⟨⟨Nat.le_of_ble_eq_true rfl, Nat.le_of_ble_eq_true rfl⟩, Nat.le_of_ble_eq_true rfl, Nat.le_refl _, Nat.le_refl _⟩ rfl dX12_findCuts_48 (fun x_48 h_48 => ?_)
        obtain ⟨f9, hf1, hf2⟩ := (show ∃ f9 : Nat → Bool, FC9 X_2 Y_2 A_6 B_6 n_6.toNat f9 ∧ x_48 = PB f9 n_6.toNat from h_48)
        refine j_last SS hG hP (mW_D hD) hS 20 (n := 1501) (f := (u.2.1 24)) rfl (z := 0) (v := x_48) (by omega) (by omega) dX12_findCuts_51 (ws' := (mW D o q (uV (uV (uI (uL (uV (uI (uI (uI (uV (uI (uI u 10 X_2) 11 Y_2) 12 n_2) 20 A_6) 21 B_6) 22 S_6) 23 n_6) 24 (vp_updL (u.2.1 24) (0 : Int).toNat x_48)) 26 W1) 27 1) 28 0))) rfl (fun H locs hP hS => ?_)
        refine lv_aload_n SS.1 SS.2.1 dX12_findCuts_52 rfl (lv_at hl 0 rfl) ?_
        refine j_get SS hG hP 0 (v := .ref (q 25)) (C := RX12) (T := TX12) (N := 31) rfl rfl inX12 25 (by decide) (ref := RX12) kw_1083 rfl rfl dX12_findCuts_53 ?_
        refine j_iconst SS dX12_findCuts_56 ?_
        refine j_iconst SS dX12_findCuts_57 ?_
        refine j_iast SS hG hP (mW_D hD) hS 21 (n := 1501) (f := (u.1 25)) rfl (z := 0) (v := 0) (by omega) (by omega) dX12_findCuts_58 (ws' := (mW D o q (uV (uV (uI (uI (uL (uV (uI (uI (uI (uV (uI (uI u 10 X_2) 11 Y_2) 12 n_2) 20 A_6) 21 B_6) 22 S_6) 23 n_6) 24 (vp_updL (u.2.1 24) (0 : Int).toNat x_48)) 25 (upI (u.1 25) (0 : Int).toNat 0)) 26 W1) 27 1) 28 0))) rfl (fun H locs hP hS => ?_)
        refine lv_aload_n SS.1 SS.2.1 dX12_findCuts_59 rfl (lv_at hl 0 rfl) ?_
        refine j_get SS hG hP 0 (v := .ref (q 26)) (C := RX12) (T := TX12) (N := 31) rfl rfl inX12 26 (by decide) (ref := RX12) kw_1084 rfl rfl dX12_findCuts_60 ?_
        refine lv_aload_n SS.1 SS.2.1 dX12_findCuts_63 rfl (lv_at hl 0 rfl) ?_
        refine lv_aload_n SS.1 SS.2.1 dX12_findCuts_64 rfl (lv_at hl 0 rfl) ?_
        refine j_get SS hG hP 0 (v := .ref (q 24)) (C := RX12) (T := TX12) (N := 31) rfl rfl inX12 24 (by decide) (ref := RX12) kw_1082 rfl rfl dX12_findCuts_65 ?_
        refine j_iconst SS dX12_findCuts_68 ?_
        refine j_lald SS hG hP 20 (n := 1501) (f := (vp_updL (u.2.1 24) (0 : Int).toNat x_48)) rfl (z := 0) (by omega) (by omega) dX12_findCuts_69 ?_
        refine j_vRi SS (As := [.long ((vp_updL (u.2.1 24) (0 : Int).toNat x_48) (0 : Int).toNat)]) (rest := [.ref (q 26)]) (c_X12_slotOf3 l D o q (uV (uV (uI (uI (uL (uV (uI (uI (uI (uV (uI (uI u 10 X_2) 11 Y_2) 12 n_2) 20 A_6) 21 B_6) 22 S_6) 23 n_6) 24 (vp_updL (u.2.1 24) (0 : Int).toNat x_48)) 25 (upI (u.1 25) (0 : Int).toNat 0)) 26 W1) 27 1) 28 0) ((vp_updL (u.2.1 24) (0 : Int).toNat x_48) (0 : Int).toNat) (show sl (W1) (1) from (sl_0 (fun j hj => i11_1 j (by omega)))) (show 0 ≤ 1 ∧ 1 ≤ 1500 from (by omega)) (show ∃ m9 : Int, m9 ≤ 1500 ∧ HT9 hM9 (VM9 (W1)) ((vp_updL (u.2.1 24) (0 : Int).toNat x_48)) m9 from (⟨0, by omega, HT_0 (fun p9 hp9 => by unfold VM9; exact if_pos (i11_1 p9 (by omega)))⟩))) mf_X12_slotOf kw_1442 hG hP hP (ci := 8) (q0 := 0) rfl rfl rfl rfl hl.1 ⟨⟨Nat.le_of_ble_eq_true rfl, Nat.le_of_ble_eq_true rfl⟩, Nat.le_of_ble_eq_true rfl, Nat.le_refl _, Nat.le_refl _⟩ rfl dX12_findCuts_70 (fun z_70 h_70 => ?_)
        have h_70 : (0 ≤ z_70 ∧ z_70 < 4096) ∧ SO9 (W1) ((vp_updL (u.2.1 24) (0 : Int).toNat x_48)) ((vp_updL (u.2.1 24) (0 : Int).toNat x_48) (0 : Int).toNat) z_70 := h_70
        obtain ⟨h_70, so70⟩ := h_70
        refine j_iconst SS dX12_findCuts_73 ?_
        refine j_iast SS hG hP (mW_D hD) hS 22 (n := 4096) (f := W1) rfl (z := z_70) (v := 0) (by omega) (by omega) dX12_findCuts_74 (ws' := (mW D o q (uV (uV (uI (uI (uL (uV (uI (uI (uI (uV (uI (uI u 10 X_2) 11 Y_2) 12 n_2) 20 A_6) 21 B_6) 22 S_6) 23 n_6) 24 (vp_updL (u.2.1 24) (0 : Int).toNat x_48)) 25 (upI (u.1 25) (0 : Int).toNat 0)) 26 (upI W1 (z_70).toNat 0)) 27 1) 28 0))) rfl (fun H locs hP hS => ?_)
        refine j_iconst SS dX12_findCuts_75 ?_
        refine lv_istore_n (lv' := [(2, .int (J 0)), (0, .ref o), (1, .int (J s))]) SS.1 SS.2.1 dX12_findCuts_76 rfl hl (by decide) rfl (fun ls hl => ?_)
        have L_77 : ∀ (nn : Nat) (i : Int) (C1 : Nat → Int64) (F1 : Nat → Int) (W2 : Nat → Int) (c1 : Int) (t1 : Int) (H : Heap) (locs : List Loc) (hP : va_P D.1 j_cl (mW D o q (uV (uV (uI (uI (uL (uV (uI (uI (uI (uV (uI (uI u 10 X_2) 11 Y_2) 12 n_2) 20 A_6) 21 B_6) 22 S_6) 23 n_6) 24 C1) 25 F1) 26 W2) 27 c1) 28 t1)) H) (hS : va_S A st.heap H locs) (ls : Array Slot) (hl : lv_has ls 7 [(0, .ref o), (1, .int (J s)), (2, .int (J i))]) (i77_0 : (0 ≤ i ∧ i ≤ c1) ∧ (1 ≤ c1 ∧ c1 ≤ 1500) ∧ (t1 = 0 ∨ t1 = 1)) (i77_1 : sl W2 c1) (i77_2 : HT9 hM9 (VM9 W2) C1 c1) (i77_3 : LX9 X_2 Y_2 A_6 B_6 n_6.toNat C1 c1) (i77_4 : RT9 (NV9 X_2 Y_2 A_6 B_6 n_2.toNat n_6.toNat) (PB f9 n_6.toNat) (64 * i).toNat c1 C1 F1 t1), ((1501 : Int) - i).toNat < nn → W pr l en (headSpec (jw yX12_findCuts cX12_findCuts 7 none) (jr 4 98)).room st mi (([.ref o, .int (J s)] : List Value).toArray) below meth co H locs 0 0 (MQ below (jWv (fun u' => ∃ X : Nat → Int, ∃ Y : Nat → Int, ∃ n : Int, ∃ A : Nat → Int, ∃ B : Nat → Int, ∃ S : Nat → Int, ∃ m : Int, ∃ C : Nat → Int64, ∃ F : Nat → Int, ∃ W : Nat → Int, ∃ c : Int, ∃ t : Int, u' = (uV (uV (uI (uI (uL (uV (uI (uI (uI (uV (uI (uI u 10 X) 11 Y) 12 n) 20 A) 21 B) 22 S) 23 m) 24 C) 25 F) 26 W) 27 c) 28 t) ∧ ((CU u' ∧ (1 ≤ c ∧ c ≤ 1500) ∧ (t = 0 ∨ t = 1) ∧ (0 ≤ m ∧ m ≤ 66) ∧ IM u') ∧ ((0 ≤ n ∧ n ≤ 12) ∧ OL (PBx u s) n X Y) ∧ CV u' ∧ FCT X Y n A B m C F c t)) (fun u' H => va_P D.1 j_cl (mW D o q u') H) A) (([.ref o, .int (J s)] : List Value).toArray) st 0 0 A) (F0 mi 77 ls []) := by
          intro nn
          induction nn with
          | zero => intros; omega
          | succ nn ih_77 =>
            intro i C1 F1 W2 c1 t1 H locs hP hS ls hl i77_0 i77_1 i77_2 i77_3 i77_4 hm
            refine lv_iload_n SS.1 SS.2.1 dX12_findCuts_77 rfl (lv_at hl 2 rfl) ?_
            refine lv_aload_n SS.1 SS.2.1 dX12_findCuts_78 rfl (lv_at hl 0 rfl) ?_
            refine j_get SS hG hP 0 (v := .int (J c1)) (C := RX12) (T := TX12) (N := 31) rfl rfl inX12 27 (by decide) (ref := RX12) kw_1085 rfl rfl dX12_findCuts_79 ?_
            refine j_icmp_ge SS (tgt := 248) (x := i) (y := c1) dX12_findCuts_82 (by decide) (by omega) (by omega) (fun c_82 => ?_) (fun c_82 => ?_)
            · skip
              exact W.vret SS.1 SS.2.1 hr (fun t ht hW => ⟨⟨(uV (uV (uI (uI (uL (uV (uI (uI (uI (uV (uI (uI u 10 X_2) 11 Y_2) 12 n_2) 20 A_6) 21 B_6) 22 S_6) 23 n_6) 24 C1) 25 F1) 26 W2) 27 c1) 28 t1), rfl, (⟨X_2, Y_2, n_2, A_6, B_6, S_6, n_6, C1, F1, W2, c1, t1, rfl, ⟨⟨hcu, by omega, by omega, by omega, p0.1, p0.2.1, hIM⟩, ⟨by omega, hOP⟩, hcv, by rcases i77_4 with ⟨q1, q2⟩ | ⟨q1, T9, q2⟩; exact ⟨f9, (64 * i).toNat, hf1, by rw [q1]; exact q2, Or.inr (by omega), i77_3⟩; exact ⟨f9, T9, hf1, by rw [q1]; exact q2, Or.inl q1, i77_3⟩⟩⟩), by show va_P D.1 j_cl (mW D o q (uV (uV (uI (uI (uL (uV (uI (uI (uI (uV (uI (uI u 10 X_2) 11 Y_2) 12 n_2) 20 A_6) 21 B_6) 22 S_6) 23 n_6) 24 C1) 25 F1) 26 W2) 27 c1) 28 t1)) t.heap; rw [ht]; exact hP⟩, hS.F ht⟩) hS.2.2 dX12_findCuts_248 hlk
            · skip
              refine lv_aload_n SS.1 SS.2.1 dX12_findCuts_85 rfl (lv_at hl 0 rfl) ?_
              refine j_get SS hG hP 0 (v := .int (J t1)) (C := RX12) (T := TX12) (N := 31) rfl rfl inX12 28 (by decide) (ref := RX12) kw_1086 rfl rfl dX12_findCuts_86 ?_
              refine j_if_ne SS (tgt := 248) (x := t1) dX12_findCuts_89 (by decide) (by omega) (fun c_89 => ?_) (fun c_89 => ?_)
              · skip
                exact W.vret SS.1 SS.2.1 hr (fun t ht hW => ⟨⟨(uV (uV (uI (uI (uL (uV (uI (uI (uI (uV (uI (uI u 10 X_2) 11 Y_2) 12 n_2) 20 A_6) 21 B_6) 22 S_6) 23 n_6) 24 C1) 25 F1) 26 W2) 27 c1) 28 t1), rfl, (⟨X_2, Y_2, n_2, A_6, B_6, S_6, n_6, C1, F1, W2, c1, t1, rfl, ⟨⟨hcu, by omega, by omega, by omega, p0.1, p0.2.1, hIM⟩, ⟨by omega, hOP⟩, hcv, by rcases i77_4 with ⟨q1, q2⟩ | ⟨q1, T9, q2⟩; exact ⟨f9, (64 * i).toNat, hf1, by rw [q1]; exact q2, Or.inr (by omega), i77_3⟩; exact ⟨f9, T9, hf1, by rw [q1]; exact q2, Or.inl q1, i77_3⟩⟩⟩), by show va_P D.1 j_cl (mW D o q (uV (uV (uI (uI (uL (uV (uI (uI (uI (uV (uI (uI u 10 X_2) 11 Y_2) 12 n_2) 20 A_6) 21 B_6) 22 S_6) 23 n_6) 24 C1) 25 F1) 26 W2) 27 c1) 28 t1)) t.heap; rw [ht]; exact hP⟩, hS.F ht⟩) hS.2.2 dX12_findCuts_248 hlk
              · skip
                refine j_iconst SS dX12_findCuts_92 ?_
                refine lv_istore_n (lv' := [(3, .int (J 0)), (0, .ref o), (1, .int (J s)), (2, .int (J i))]) SS.1 SS.2.1 dX12_findCuts_93 rfl hl (by decide) rfl (fun ls hl => ?_)
                have L_94 : ∀ (nn : Nat) (k2 : Int) (C2 : Nat → Int64) (F2 : Nat → Int) (W3 : Nat → Int) (c2 : Int) (t2 : Int) (H : Heap) (locs : List Loc) (hP : va_P D.1 j_cl (mW D o q (uV (uV (uI (uI (uL (uV (uI (uI (uI (uV (uI (uI u 10 X_2) 11 Y_2) 12 n_2) 20 A_6) 21 B_6) 22 S_6) 23 n_6) 24 C2) 25 F2) 26 W3) 27 c2) 28 t2)) H) (hS : va_S A st.heap H locs) (ls : Array Slot) (hl : lv_has ls 7 [(0, .ref o), (1, .int (J s)), (2, .int (J i)), (3, .int (J k2))]) (i94_0 : 0 ≤ k2 ∧ k2 ≤ n_6) (i94_1 : i < c2 ∧ (1 ≤ c2 ∧ c2 ≤ 1500) ∧ (t2 = 0 ∨ t2 = 1)) (i94_2 : sl W3 c2) (i94_3 : HT9 hM9 (VM9 W3) C2 c2) (i94_4 : LX9 X_2 Y_2 A_6 B_6 n_6.toNat C2 c2) (i94_5 : RT9 (NV9 X_2 Y_2 A_6 B_6 n_2.toNat n_6.toNat) (PB f9 n_6.toNat) (64 * i + k2).toNat c2 C2 F2 t2), (n_6 - k2).toNat < nn → W pr l en (headSpec (jw yX12_findCuts cX12_findCuts 7 none) (jr 4 98)).room st mi (([.ref o, .int (J s)] : List Value).toArray) below meth co H locs 0 0 (MQ below (jWv (fun u' => ∃ X : Nat → Int, ∃ Y : Nat → Int, ∃ n : Int, ∃ A : Nat → Int, ∃ B : Nat → Int, ∃ S : Nat → Int, ∃ m : Int, ∃ C : Nat → Int64, ∃ F : Nat → Int, ∃ W : Nat → Int, ∃ c : Int, ∃ t : Int, u' = (uV (uV (uI (uI (uL (uV (uI (uI (uI (uV (uI (uI u 10 X) 11 Y) 12 n) 20 A) 21 B) 22 S) 23 m) 24 C) 25 F) 26 W) 27 c) 28 t) ∧ ((CU u' ∧ (1 ≤ c ∧ c ≤ 1500) ∧ (t = 0 ∨ t = 1) ∧ (0 ≤ m ∧ m ≤ 66) ∧ IM u') ∧ ((0 ≤ n ∧ n ≤ 12) ∧ OL (PBx u s) n X Y) ∧ CV u' ∧ FCT X Y n A B m C F c t)) (fun u' H => va_P D.1 j_cl (mW D o q u') H) A) (([.ref o, .int (J s)] : List Value).toArray) st 0 0 A) (F0 mi 94 ls []) := by
                  intro nn
                  induction nn with
                  | zero => intros; omega
                  | succ nn ih_94 =>
                    intro k2 C2 F2 W3 c2 t2 H locs hP hS ls hl i94_0 i94_1 i94_2 i94_3 i94_4 i94_5 hm
                    refine lv_iload_n SS.1 SS.2.1 dX12_findCuts_94 rfl (lv_at hl 3 rfl) ?_
                    refine lv_aload_n SS.1 SS.2.1 dX12_findCuts_95 rfl (lv_at hl 0 rfl) ?_
                    refine j_get SS hG hP 0 (v := .int (J n_6)) (C := RX12) (T := TX12) (N := 31) rfl rfl inX12 23 (by decide) (ref := RX12) kw_1081 rfl rfl dX12_findCuts_96 ?_
                    refine j_icmp_ge SS (tgt := 242) (x := k2) (y := n_6) dX12_findCuts_99 (by decide) (by omega) (by omega) (fun c_99 => ?_) (fun c_99 => ?_)
                    · skip
                      refine lv_iinc (v := J (i + 1)) (lv' := [(2, .int (J (i + 1))), (0, .ref o), (1, .int (J s)), (3, .int (J k2))]) SS.1 SS.2.1 dX12_findCuts_242 hl (k := 2) rfl (J_add _ _) (by decide) rfl (fun ls hl => ?_)
                      refine lv_goto (tgt := 77) SS.1 SS.2.1 dX12_findCuts_245 (by decide) ?_
                      exact ih_77 (i + 1) C2 F2 W3 c2 t2 _ _ hP hS ls (lv_sub hl [1, 2, 0] rfl) (by omega) (i94_2) (i94_3) (i94_4) (by rcases i94_5 with ⟨q1, q2⟩ | q1; exact Or.inl ⟨q1, by rw [show (64 * (i + 1)).toNat = (64 * i + 64).toNat by omega]; exact RI_j (by omega) (by omega) q2 (by omega) (fun j9 j1 j2 => NV_z (by omega))⟩; exact Or.inr q1) (by omega)
                    · skip
                      refine lv_aload_n SS.1 SS.2.1 dX12_findCuts_102 rfl (lv_at hl 0 rfl) ?_
                      refine j_get SS hG hP 0 (v := .int (J t2)) (C := RX12) (T := TX12) (N := 31) rfl rfl inX12 28 (by decide) (ref := RX12) kw_1086 rfl rfl dX12_findCuts_103 ?_
                      refine j_if_ne SS (tgt := 242) (x := t2) dX12_findCuts_106 (by decide) (by omega) (fun c_106 => ?_) (fun c_106 => ?_)
                      · skip
                        refine lv_iinc (v := J (i + 1)) (lv' := [(2, .int (J (i + 1))), (0, .ref o), (1, .int (J s)), (3, .int (J k2))]) SS.1 SS.2.1 dX12_findCuts_242 hl (k := 2) rfl (J_add _ _) (by decide) rfl (fun ls hl => ?_)
                        refine lv_goto (tgt := 77) SS.1 SS.2.1 dX12_findCuts_245 (by decide) ?_
                        exact ih_77 (i + 1) C2 F2 W3 c2 t2 _ _ hP hS ls (lv_sub hl [1, 2, 0] rfl) (by omega) (i94_2) (i94_3) (i94_4) (by rcases i94_5 with ⟨q1, q2⟩ | q1; exact Or.inl ⟨q1, by rw [show (64 * (i + 1)).toNat = (64 * i + 64).toNat by omega]; exact RI_j (by omega) (by omega) q2 (by omega) (fun j9 j1 j2 => NV_z (by omega))⟩; exact Or.inr q1) (by omega)
                      · skip
                        refine lv_aload_n SS.1 SS.2.1 dX12_findCuts_109 rfl (lv_at hl 0 rfl) ?_
                        refine lv_aload_n SS.1 SS.2.1 dX12_findCuts_110 rfl (lv_at hl 0 rfl) ?_
                        refine j_get SS hG hP 0 (v := .ref (q 24)) (C := RX12) (T := TX12) (N := 31) rfl rfl inX12 24 (by decide) (ref := RX12) kw_1082 rfl rfl dX12_findCuts_111 ?_
                        refine lv_iload_n SS.1 SS.2.1 dX12_findCuts_114 rfl (lv_at hl 2 rfl) ?_
                        refine j_lald SS hG hP 20 (n := 1501) (f := C2) rfl (z := i) (by omega) (by omega) dX12_findCuts_115 ?_
                        refine lv_iload_n SS.1 SS.2.1 dX12_findCuts_116 rfl (lv_at hl 3 rfl) ?_
                        refine j_vRl SS (As := [.long (C2 (i).toNat), .int (J k2)]) (rest := []) (c_X12_flipped3 l D o q (uV (uV (uI (uI (uL (uV (uI (uI (uI (uV (uI (uI u 10 X_2) 11 Y_2) 12 n_2) 20 A_6) 21 B_6) 22 S_6) 23 n_6) 24 C2) 25 F2) 26 W3) 27 c2) 28 t2) (C2 (i).toNat) k2 (show CV (uV (uV (uI (uI (uL (uV (uI (uI (uI (uV (uI (uI u 10 X_2) 11 Y_2) 12 n_2) 20 A_6) 21 B_6) 22 S_6) 23 n_6) 24 C2) 25 F2) 26 W3) 27 c2) 28 t2) from (hcv)) (show 0 ≤ k2 ∧ k2 < n_6 from (by omega))) mf_X12_flipped kw_1447 hG hP hP (ci := 8) (q0 := 0) rfl rfl rfl rfl hl.1 ⟨⟨Nat.le_of_ble_eq_true rfl, Nat.le_of_ble_eq_true rfl⟩, Nat.le_of_ble_eq_true rfl, Nat.le_refl _, Nat.le_refl _⟩ rfl dX12_findCuts_117 (fun x_117 h_117 => ?_)
                        have hv117 : NV9 X_2 Y_2 A_6 B_6 n_2.toNat n_6.toNat (C2 i.toNat) k2.toNat x_117 := by obtain ⟨f8, g1, g2⟩ := i94_4 i.toNat (by omega); exact h_117 f8 g1 g2
                        refine lv_lstore (lv' := [(4, .long x_117), (0, .ref o), (1, .int (J s)), (2, .int (J i)), (3, .int (J k2))]) SS.1 SS.2.1 dX12_findCuts_120 hl (by decide) rfl (fun ls hl => ?_)
                        refine lv_lload SS.1 SS.2.1 dX12_findCuts_122 (lv_at hl 0 rfl) ?_
                        refine lv_lconst (v := 0) SS.1 SS.2.1 dX12_findCuts_124 (by decide +kernel) ?_
                        refine j_lcmp SS dX12_findCuts_125 (fun z_125 hz_125 => ?_)
                        refine j_if_ne SS (tgt := 134) (x := z_125) dX12_findCuts_126 (by decide) (by omega) (fun c_126 => ?_) (fun c_126 => ?_)
                        · skip
                          refine lv_aload_n SS.1 SS.2.1 dX12_findCuts_134 rfl (lv_at hl 1 rfl) ?_
                          refine lv_lload SS.1 SS.2.1 dX12_findCuts_135 (lv_at hl 0 rfl) ?_
                          refine j_vRi SS (As := [.long x_117]) (rest := []) (c_X12_slotOf3 l D o q (uV (uV (uI (uI (uL (uV (uI (uI (uI (uV (uI (uI u 10 X_2) 11 Y_2) 12 n_2) 20 A_6) 21 B_6) 22 S_6) 23 n_6) 24 C2) 25 F2) 26 W3) 27 c2) 28 t2) x_117 (show sl (W3) (c2) from (i94_2)) (show 0 ≤ c2 ∧ c2 ≤ 1500 from (by omega)) (show ∃ m9 : Int, m9 ≤ 1500 ∧ HT9 hM9 (VM9 (W3)) (C2) m9 from (⟨c2, by omega, i94_3⟩))) mf_X12_slotOf kw_1442 hG hP hP (ci := 8) (q0 := 0) rfl rfl rfl rfl hl.1 ⟨⟨Nat.le_of_ble_eq_true rfl, Nat.le_of_ble_eq_true rfl⟩, Nat.le_of_ble_eq_true rfl, Nat.le_refl _, Nat.le_refl _⟩ rfl dX12_findCuts_137 (fun z_137 h_137 => ?_)
                          have h_137 : (0 ≤ z_137 ∧ z_137 < 4096) ∧ SO9 (W3) (C2) x_117 z_137 := h_137
                          obtain ⟨h_137, so137⟩ := h_137
                          have nz117 : x_117 ≠ 0 := fun e9 => by have q9 := hz_125.2.2.2.mpr e9; omega
                          have in137 : W3 z_137.toNat ≠ -9 → IN9 C2 c2 x_117 := fun w9 => by obtain ⟨d9, d1, d2, d3, d4⟩ := so137; have hsl9 := VM_p (i94_2.1 z_137.toNat (by omega)); have v9 : VM9 W3 z_137.toNat ≠ -1 := (fun e9 => w9 (hsl9.1.mp e9)); rcases d4 with d4 | d4; exact absurd d4 v9; exact HT_in i94_3 (by omega) d4.1 d4.2
                          refine lv_istore (lv' := [(6, .int (J z_137)), (4, .long x_117), (0, .ref o), (1, .int (J s)), (2, .int (J i)), (3, .int (J k2))]) SS.1 SS.2.1 dX12_findCuts_140 hl (by decide) rfl (fun ls hl => ?_)
                          refine lv_iload SS.1 SS.2.1 dX12_findCuts_142 (lv_at hl 0 rfl) ?_
                          refine j_bipush SS dX12_findCuts_144 (by decide +kernel) ?_
                          refine j_icmp_eq SS (tgt := 236) (x := z_137) (y := (-9)) dX12_findCuts_146 (by decide) (by omega) (by decide) (fun c_146 => ?_) (fun c_146 => ?_)
                          · skip
                            refine lv_iinc (v := J (k2 + 1)) (lv' := [(3, .int (J (k2 + 1))), (6, .int (J z_137)), (4, .long x_117), (0, .ref o), (1, .int (J s)), (2, .int (J i))]) SS.1 SS.2.1 dX12_findCuts_236 hl (k := 5) rfl (J_add _ _) (by decide) rfl (fun ls hl => ?_)
                            refine lv_goto (tgt := 94) SS.1 SS.2.1 dX12_findCuts_239 (by decide) ?_
                            exact ih_94 (k2 + 1) C2 F2 W3 c2 t2 _ _ hP hS ls (lv_sub hl [3, 4, 5, 0] rfl) (by omega) (by omega) (by first | exact i94_2 | exact sl_put (by omega) h_137 i94_2 (by omega) | (exfalso; omega)) (by first | exact i94_3 | (obtain ⟨d9, d1, d2, d3, d4⟩ := so137; exact HT_up (b := x_117) (d := d9) (by omega) i94_3 d3 d1 (by rw [← d2]; exact vm137) (by rw [← d2]; exact VM_u (by omega)) (fun q9 hq9 => pk_uLn (by omega)) pk_uLs) | (exfalso; omega)) (by first | exact i94_4 | exact LX_a i94_4 (NV_x hos hOL (by omega) hv117 nz117) | (exfalso; omega)) (by first | exact Or.inl ⟨by omega, RI_k (by omega) (by omega) (RT_o i94_5 (by omega)) (by omega) hv117 (Or.inl (hz_125.2.2.2.mp (by omega)))⟩ | exact Or.inl ⟨by omega, RI_k (by omega) (by omega) (RT_o i94_5 (by omega)) (by omega) hv117 (Or.inr (in137 (by omega)))⟩ | exact Or.inr ⟨rfl, RI_s (by omega) (by omega) (RT_o i94_5 (by omega)) (by omega) hv117 nz117 no137 (by omega)⟩ | exact Or.inl ⟨rfl, RI_a (by omega) (by omega) (RT_o i94_5 (by omega)) (by omega) hv117 nz117 no137 (by omega) rfl⟩ | (exfalso; omega)) (by omega)
                          · skip
                            refine lv_aload_n SS.1 SS.2.1 dX12_findCuts_149 rfl (lv_at hl 2 rfl) ?_
                            refine j_get SS hG hP 0 (v := .ref (q 26)) (C := RX12) (T := TX12) (N := 31) rfl rfl inX12 26 (by decide) (ref := RX12) kw_1084 rfl rfl dX12_findCuts_150 ?_
                            refine lv_iload SS.1 SS.2.1 dX12_findCuts_153 (lv_at hl 0 rfl) ?_
                            refine j_iald SS hG hP 22 (n := 4096) (f := W3) rfl (z := z_137) (by omega) (by omega) dX12_findCuts_155 ?_
                            refine j_bipush SS dX12_findCuts_156 (by decide +kernel) ?_
                            try have hsl := i94_2.1 z_137.toNat (by omega)
                            try have hvp := VM_p hsl
                            refine j_icmp_ne SS (tgt := 236) (x := (W3 (z_137).toNat)) (y := (-9)) dX12_findCuts_158 (by decide) (by omega) (by decide) (fun c_158 => ?_) (fun c_158 => ?_)
                            · skip
                              refine lv_iinc (v := J (k2 + 1)) (lv' := [(3, .int (J (k2 + 1))), (6, .int (J z_137)), (4, .long x_117), (0, .ref o), (1, .int (J s)), (2, .int (J i))]) SS.1 SS.2.1 dX12_findCuts_236 hl (k := 5) rfl (J_add _ _) (by decide) rfl (fun ls hl => ?_)
                              refine lv_goto (tgt := 94) SS.1 SS.2.1 dX12_findCuts_239 (by decide) ?_
                              exact ih_94 (k2 + 1) C2 F2 W3 c2 t2 _ _ hP hS ls (lv_sub hl [3, 4, 5, 0] rfl) (by omega) (by omega) (by first | exact i94_2 | exact sl_put (by omega) h_137 i94_2 (by omega) | (exfalso; omega)) (by first | exact i94_3 | (obtain ⟨d9, d1, d2, d3, d4⟩ := so137; exact HT_up (b := x_117) (d := d9) (by omega) i94_3 d3 d1 (by rw [← d2]; exact vm137) (by rw [← d2]; exact VM_u (by omega)) (fun q9 hq9 => pk_uLn (by omega)) pk_uLs) | (exfalso; omega)) (by first | exact i94_4 | exact LX_a i94_4 (NV_x hos hOL (by omega) hv117 nz117) | (exfalso; omega)) (by first | exact Or.inl ⟨by omega, RI_k (by omega) (by omega) (RT_o i94_5 (by omega)) (by omega) hv117 (Or.inl (hz_125.2.2.2.mp (by omega)))⟩ | exact Or.inl ⟨by omega, RI_k (by omega) (by omega) (RT_o i94_5 (by omega)) (by omega) hv117 (Or.inr (in137 (by omega)))⟩ | exact Or.inr ⟨rfl, RI_s (by omega) (by omega) (RT_o i94_5 (by omega)) (by omega) hv117 nz117 no137 (by omega)⟩ | exact Or.inl ⟨rfl, RI_a (by omega) (by omega) (RT_o i94_5 (by omega)) (by omega) hv117 nz117 no137 (by omega) rfl⟩ | (exfalso; omega)) (by omega)
                            · skip
                              try have vm137 : VM9 W3 z_137.toNat = -1 := hvp.1.mpr (by omega)
                              try have no137 : ∀ q : Nat, (q : Int) < c2 → C2 q ≠ x_117 := by obtain ⟨d9, d1, d2, d3, d4⟩ := so137; exact HT_no i94_3 d3 (by rw [← d2]; exact vm137)
                              refine lv_aload_n SS.1 SS.2.1 dX12_findCuts_161 rfl (lv_at hl 2 rfl) ?_
                              refine lv_aload_n SS.1 SS.2.1 dX12_findCuts_162 rfl (lv_at hl 2 rfl) ?_
                              refine j_get SS hG hP 0 (v := .int (J c2)) (C := RX12) (T := TX12) (N := 31) rfl rfl inX12 27 (by decide) (ref := RX12) kw_1085 rfl rfl dX12_findCuts_163 ?_
                              refine j_sipush SS dX12_findCuts_166 (by decide +kernel) ?_
                              refine j_icmp_ne SS (tgt := 176) (x := c2) (y := 1500) dX12_findCuts_169 (by decide) (by omega) (by decide) (fun c_169 => ?_) (fun c_169 => ?_)
                              · skip
                                refine j_iconst SS dX12_findCuts_176 ?_
                                refine j_put SS hG hP (mW_D hD) hS 0 (v := .int (J 0)) (ty := .boolean) (C := RX12) (T := TX12) (N := 31) rfl rfl inX12 tyX12 tyX12_ok nmX12 28 (by decide) (ref := RX12) kw_1086 rfl rfl (by decide +kernel) (j_nz (by omega)) rfl (Nat.le_of_ble_eq_true rfl) dX12_findCuts_177 (ws' := (mW D o q (uV (uV (uI (uI (uL (uV (uI (uI (uI (uV (uI (uI u 10 X_2) 11 Y_2) 12 n_2) 20 A_6) 21 B_6) 22 S_6) 23 n_6) 24 C2) 25 F2) 26 W3) 27 c2) 28 0))) rfl (fun H locs hP hS => ?_)
                                refine lv_aload_n SS.1 SS.2.1 dX12_findCuts_180 rfl (lv_at hl 2 rfl) ?_
                                refine j_get SS hG hP 0 (v := .int (J 0)) (C := RX12) (T := TX12) (N := 31) rfl rfl inX12 28 (by decide) (ref := RX12) kw_1086 rfl rfl dX12_findCuts_181 ?_
                                refine j_if_ne SS (tgt := 236) dX12_findCuts_184 (by decide) (by decide) (fun c_184 => absurd c_184 (by decide)) (fun c_184 => ?_)
                                refine lv_aload_n SS.1 SS.2.1 dX12_findCuts_187 rfl (lv_at hl 2 rfl) ?_
                                refine j_get SS hG hP 0 (v := .ref (q 26)) (C := RX12) (T := TX12) (N := 31) rfl rfl inX12 26 (by decide) (ref := RX12) kw_1084 rfl rfl dX12_findCuts_188 ?_
                                refine lv_iload SS.1 SS.2.1 dX12_findCuts_191 (lv_at hl 0 rfl) ?_
                                refine lv_aload_n SS.1 SS.2.1 dX12_findCuts_193 rfl (lv_at hl 2 rfl) ?_
                                refine j_get SS hG hP 0 (v := .int (J c2)) (C := RX12) (T := TX12) (N := 31) rfl rfl inX12 27 (by decide) (ref := RX12) kw_1085 rfl rfl dX12_findCuts_194 ?_
                                refine j_iast SS hG hP (mW_D hD) hS 22 (n := 4096) (f := W3) rfl (z := z_137) (v := c2) (by omega) (by omega) dX12_findCuts_197 (ws' := (mW D o q (uV (uV (uI (uI (uL (uV (uI (uI (uI (uV (uI (uI u 10 X_2) 11 Y_2) 12 n_2) 20 A_6) 21 B_6) 22 S_6) 23 n_6) 24 C2) 25 F2) 26 (upI W3 (z_137).toNat c2)) 27 c2) 28 0))) rfl (fun H locs hP hS => ?_)
                                refine lv_aload_n SS.1 SS.2.1 dX12_findCuts_198 rfl (lv_at hl 2 rfl) ?_
                                refine j_get SS hG hP 0 (v := .ref (q 24)) (C := RX12) (T := TX12) (N := 31) rfl rfl inX12 24 (by decide) (ref := RX12) kw_1082 rfl rfl dX12_findCuts_199 ?_
                                refine lv_aload_n SS.1 SS.2.1 dX12_findCuts_202 rfl (lv_at hl 2 rfl) ?_
                                refine j_get SS hG hP 0 (v := .int (J c2)) (C := RX12) (T := TX12) (N := 31) rfl rfl inX12 27 (by decide) (ref := RX12) kw_1085 rfl rfl dX12_findCuts_203 ?_
                                refine lv_lload SS.1 SS.2.1 dX12_findCuts_206 (lv_at hl 1 rfl) ?_
                                refine j_last SS hG hP (mW_D hD) hS 20 (n := 1501) (f := C2) rfl (z := c2) (v := x_117) (by omega) (by omega) dX12_findCuts_208 (ws' := (mW D o q (uV (uV (uI (uI (uL (uV (uI (uI (uI (uV (uI (uI u 10 X_2) 11 Y_2) 12 n_2) 20 A_6) 21 B_6) 22 S_6) 23 n_6) 24 (vp_updL C2 (c2).toNat x_117)) 25 F2) 26 (upI W3 (z_137).toNat c2)) 27 c2) 28 0))) rfl (fun H locs hP hS => ?_)
                                refine lv_aload_n SS.1 SS.2.1 dX12_findCuts_209 rfl (lv_at hl 2 rfl) ?_
                                refine j_get SS hG hP 0 (v := .ref (q 25)) (C := RX12) (T := TX12) (N := 31) rfl rfl inX12 25 (by decide) (ref := RX12) kw_1083 rfl rfl dX12_findCuts_210 ?_
                                refine lv_aload_n SS.1 SS.2.1 dX12_findCuts_213 rfl (lv_at hl 2 rfl) ?_
                                refine j_get SS hG hP 0 (v := .int (J c2)) (C := RX12) (T := TX12) (N := 31) rfl rfl inX12 27 (by decide) (ref := RX12) kw_1085 rfl rfl dX12_findCuts_214 ?_
                                refine lv_aload_n SS.1 SS.2.1 dX12_findCuts_217 rfl (lv_at hl 2 rfl) ?_
                                refine j_get SS hG hP 0 (v := .ref (q 25)) (C := RX12) (T := TX12) (N := 31) rfl rfl inX12 25 (by decide) (ref := RX12) kw_1083 rfl rfl dX12_findCuts_218 ?_
                                refine lv_iload_n SS.1 SS.2.1 dX12_findCuts_221 rfl (lv_at hl 4 rfl) ?_
                                refine j_iald SS hG hP 21 (n := 1501) (f := F2) rfl (z := i) (by omega) (by omega) dX12_findCuts_222 ?_
                                refine j_iconst SS dX12_findCuts_223 ?_
                                refine j_iadd SS (x := (F2 (i).toNat)) (y := 1) dX12_findCuts_224 ?_
                                refine j_iast SS hG hP (mW_D hD) hS 21 (n := 1501) (f := F2) rfl (z := c2) (v := ((F2 (i).toNat) + 1)) (by omega) (by omega) dX12_findCuts_225 (ws' := (mW D o q (uV (uV (uI (uI (uL (uV (uI (uI (uI (uV (uI (uI u 10 X_2) 11 Y_2) 12 n_2) 20 A_6) 21 B_6) 22 S_6) 23 n_6) 24 (vp_updL C2 (c2).toNat x_117)) 25 (upI F2 (c2).toNat ((F2 (i).toNat) + 1))) 26 (upI W3 (z_137).toNat c2)) 27 c2) 28 0))) rfl (fun H locs hP hS => ?_)
                                refine lv_aload_n SS.1 SS.2.1 dX12_findCuts_226 rfl (lv_at hl 2 rfl) ?_
                                refine lv_dup SS.1 SS.2.1 dX12_findCuts_227 rfl ?_
                                refine j_get SS hG hP 0 (v := .int (J c2)) (C := RX12) (T := TX12) (N := 31) rfl rfl inX12 27 (by decide) (ref := RX12) kw_1085 rfl rfl dX12_findCuts_228 ?_
                                refine j_iconst SS dX12_findCuts_231 ?_
                                refine j_iadd SS (x := c2) (y := 1) dX12_findCuts_232 ?_
                                refine j_put SS hG hP (mW_D hD) hS 0 (v := .int (J (c2 + 1))) (ty := .int) (C := RX12) (T := TX12) (N := 31) rfl rfl inX12 tyX12 tyX12_ok nmX12 27 (by decide) (ref := RX12) kw_1085 rfl rfl (by decide +kernel) rfl rfl (Nat.le_of_ble_eq_true rfl) dX12_findCuts_233 (ws' := (mW D o q (uV (uV (uI (uI (uL (uV (uI (uI (uI (uV (uI (uI u 10 X_2) 11 Y_2) 12 n_2) 20 A_6) 21 B_6) 22 S_6) 23 n_6) 24 (vp_updL C2 (c2).toNat x_117)) 25 (upI F2 (c2).toNat ((F2 (i).toNat) + 1))) 26 (upI W3 (z_137).toNat c2)) 27 (c2 + 1)) 28 0))) rfl (fun H locs hP hS => ?_)
                                refine lv_iinc (v := J (k2 + 1)) (lv' := [(3, .int (J (k2 + 1))), (6, .int (J z_137)), (4, .long x_117), (0, .ref o), (1, .int (J s)), (2, .int (J i))]) SS.1 SS.2.1 dX12_findCuts_236 hl (k := 5) rfl (J_add _ _) (by decide) rfl (fun ls hl => ?_)
                                refine lv_goto (tgt := 94) SS.1 SS.2.1 dX12_findCuts_239 (by decide) ?_
                                exact ih_94 (k2 + 1) (vp_updL C2 (c2).toNat x_117) (upI F2 (c2).toNat ((F2 (i).toNat) + 1)) (upI W3 (z_137).toNat c2) (c2 + 1) 0 _ _ hP hS ls (lv_sub hl [3, 4, 5, 0] rfl) (by omega) (by omega) (by first | exact i94_2 | exact sl_put (by omega) h_137 i94_2 (by omega) | (exfalso; omega)) (by first | exact i94_3 | (obtain ⟨d9, d1, d2, d3, d4⟩ := so137; exact HT_up (b := x_117) (d := d9) (by omega) i94_3 d3 d1 (by rw [← d2]; exact vm137) (by rw [← d2]; exact VM_u (by omega)) (fun q9 hq9 => pk_uLn (by omega)) pk_uLs) | (exfalso; omega)) (by first | exact i94_4 | exact LX_a i94_4 (NV_x hos hOL (by omega) hv117 nz117) | (exfalso; omega)) (by first | exact Or.inl ⟨by omega, RI_k (by omega) (by omega) (RT_o i94_5 (by omega)) (by omega) hv117 (Or.inl (hz_125.2.2.2.mp (by omega)))⟩ | exact Or.inl ⟨by omega, RI_k (by omega) (by omega) (RT_o i94_5 (by omega)) (by omega) hv117 (Or.inr (in137 (by omega)))⟩ | exact Or.inr ⟨rfl, RI_s (by omega) (by omega) (RT_o i94_5 (by omega)) (by omega) hv117 nz117 no137 (by omega)⟩ | exact Or.inl ⟨rfl, RI_a (by omega) (by omega) (RT_o i94_5 (by omega)) (by omega) hv117 nz117 no137 (by omega) rfl⟩ | (exfalso; omega)) (by omega)
                              · skip
                                refine j_iconst SS dX12_findCuts_172 ?_
                                refine lv_goto (tgt := 177) SS.1 SS.2.1 dX12_findCuts_173 (by decide) ?_
                                refine j_put SS hG hP (mW_D hD) hS 0 (v := .int (J 1)) (ty := .boolean) (C := RX12) (T := TX12) (N := 31) rfl rfl inX12 tyX12 tyX12_ok nmX12 28 (by decide) (ref := RX12) kw_1086 rfl rfl (by decide +kernel) (j_nz (by omega)) rfl (Nat.le_of_ble_eq_true rfl) dX12_findCuts_177 (ws' := (mW D o q (uV (uV (uI (uI (uL (uV (uI (uI (uI (uV (uI (uI u 10 X_2) 11 Y_2) 12 n_2) 20 A_6) 21 B_6) 22 S_6) 23 n_6) 24 C2) 25 F2) 26 W3) 27 c2) 28 1))) rfl (fun H locs hP hS => ?_)
                                refine lv_aload_n SS.1 SS.2.1 dX12_findCuts_180 rfl (lv_at hl 2 rfl) ?_
                                refine j_get SS hG hP 0 (v := .int (J 1)) (C := RX12) (T := TX12) (N := 31) rfl rfl inX12 28 (by decide) (ref := RX12) kw_1086 rfl rfl dX12_findCuts_181 ?_
                                refine j_if_ne SS (tgt := 236) dX12_findCuts_184 (by decide) (by decide) (fun c_184 => ?_) (fun c_184 => absurd c_184 (by decide))
                                refine lv_iinc (v := J (k2 + 1)) (lv' := [(3, .int (J (k2 + 1))), (6, .int (J z_137)), (4, .long x_117), (0, .ref o), (1, .int (J s)), (2, .int (J i))]) SS.1 SS.2.1 dX12_findCuts_236 hl (k := 5) rfl (J_add _ _) (by decide) rfl (fun ls hl => ?_)
                                refine lv_goto (tgt := 94) SS.1 SS.2.1 dX12_findCuts_239 (by decide) ?_
                                exact ih_94 (k2 + 1) C2 F2 W3 c2 1 _ _ hP hS ls (lv_sub hl [3, 4, 5, 0] rfl) (by omega) (by omega) (by first | exact i94_2 | exact sl_put (by omega) h_137 i94_2 (by omega) | (exfalso; omega)) (by first | exact i94_3 | (obtain ⟨d9, d1, d2, d3, d4⟩ := so137; exact HT_up (b := x_117) (d := d9) (by omega) i94_3 d3 d1 (by rw [← d2]; exact vm137) (by rw [← d2]; exact VM_u (by omega)) (fun q9 hq9 => pk_uLn (by omega)) pk_uLs) | (exfalso; omega)) (by first | exact i94_4 | exact LX_a i94_4 (NV_x hos hOL (by omega) hv117 nz117) | (exfalso; omega)) (by first | exact Or.inl ⟨by omega, RI_k (by omega) (by omega) (RT_o i94_5 (by omega)) (by omega) hv117 (Or.inl (hz_125.2.2.2.mp (by omega)))⟩ | exact Or.inl ⟨by omega, RI_k (by omega) (by omega) (RT_o i94_5 (by omega)) (by omega) hv117 (Or.inr (in137 (by omega)))⟩ | exact Or.inr ⟨rfl, RI_s (by omega) (by omega) (RT_o i94_5 (by omega)) (by omega) hv117 nz117 no137 (by omega)⟩ | exact Or.inl ⟨rfl, RI_a (by omega) (by omega) (RT_o i94_5 (by omega)) (by omega) hv117 nz117 no137 (by omega) rfl⟩ | (exfalso; omega)) (by omega)
                        · skip
                          refine j_bipush SS dX12_findCuts_129 (by decide +kernel) ?_
                          refine lv_goto (tgt := 140) SS.1 SS.2.1 dX12_findCuts_131 (by decide) ?_
                          refine lv_istore (lv' := [(6, .int (J (-9))), (4, .long x_117), (0, .ref o), (1, .int (J s)), (2, .int (J i)), (3, .int (J k2))]) SS.1 SS.2.1 dX12_findCuts_140 hl (by decide) rfl (fun ls hl => ?_)
                          refine lv_iload SS.1 SS.2.1 dX12_findCuts_142 (lv_at hl 0 rfl) ?_
                          refine j_bipush SS dX12_findCuts_144 (by decide +kernel) ?_
                          refine j_icmp_eq SS (tgt := 236) (x := (-9)) (y := (-9)) dX12_findCuts_146 (by decide) (by decide) (by decide) (fun c_146 => ?_) (fun c_146 => ?_)
                          · skip
                            refine lv_iinc (v := J (k2 + 1)) (lv' := [(3, .int (J (k2 + 1))), (6, .int (J (-9))), (4, .long x_117), (0, .ref o), (1, .int (J s)), (2, .int (J i))]) SS.1 SS.2.1 dX12_findCuts_236 hl (k := 5) rfl (J_add _ _) (by decide) rfl (fun ls hl => ?_)
                            refine lv_goto (tgt := 94) SS.1 SS.2.1 dX12_findCuts_239 (by decide) ?_
                            exact ih_94 (k2 + 1) C2 F2 W3 c2 t2 _ _ hP hS ls (lv_sub hl [3, 4, 5, 0] rfl) (by omega) (by omega) (by first | exact i94_2 | exact sl_put (by omega) h_137 i94_2 (by omega) | (exfalso; omega)) (by first | exact i94_3 | (obtain ⟨d9, d1, d2, d3, d4⟩ := so137; exact HT_up (b := x_117) (d := d9) (by omega) i94_3 d3 d1 (by rw [← d2]; exact vm137) (by rw [← d2]; exact VM_u (by omega)) (fun q9 hq9 => pk_uLn (by omega)) pk_uLs) | (exfalso; omega)) (by first | exact i94_4 | exact LX_a i94_4 (NV_x hos hOL (by omega) hv117 nz117) | (exfalso; omega)) (by first | exact Or.inl ⟨by omega, RI_k (by omega) (by omega) (RT_o i94_5 (by omega)) (by omega) hv117 (Or.inl (hz_125.2.2.2.mp (by omega)))⟩ | exact Or.inl ⟨by omega, RI_k (by omega) (by omega) (RT_o i94_5 (by omega)) (by omega) hv117 (Or.inr (in137 (by omega)))⟩ | exact Or.inr ⟨rfl, RI_s (by omega) (by omega) (RT_o i94_5 (by omega)) (by omega) hv117 nz117 no137 (by omega)⟩ | exact Or.inl ⟨rfl, RI_a (by omega) (by omega) (RT_o i94_5 (by omega)) (by omega) hv117 nz117 no137 (by omega) rfl⟩ | (exfalso; omega)) (by omega)
                          · skip
                            refine lv_aload_n SS.1 SS.2.1 dX12_findCuts_149 rfl (lv_at hl 2 rfl) ?_
                            refine j_get SS hG hP 0 (v := .ref (q 26)) (C := RX12) (T := TX12) (N := 31) rfl rfl inX12 26 (by decide) (ref := RX12) kw_1084 rfl rfl dX12_findCuts_150 ?_
                            refine lv_iload SS.1 SS.2.1 dX12_findCuts_153 (lv_at hl 0 rfl) ?_
                            refine j_iald SS hG hP 22 (n := 4096) (f := W3) rfl (z := (-9)) (by omega) (by omega) dX12_findCuts_155 ?_
                            refine j_bipush SS dX12_findCuts_156 (by decide +kernel) ?_
                            try have hsl := i94_2.1 z_137.toNat (by omega)
                            try have hvp := VM_p hsl
                            refine j_icmp_ne SS (tgt := 236) (x := (W3 ((-9) : Int).toNat)) (y := (-9)) dX12_findCuts_158 (by decide) (by omega) (by decide) (fun c_158 => ?_) (fun c_158 => ?_)
                            · skip
                              refine lv_iinc (v := J (k2 + 1)) (lv' := [(3, .int (J (k2 + 1))), (6, .int (J (-9))), (4, .long x_117), (0, .ref o), (1, .int (J s)), (2, .int (J i))]) SS.1 SS.2.1 dX12_findCuts_236 hl (k := 5) rfl (J_add _ _) (by decide) rfl (fun ls hl => ?_)
                              refine lv_goto (tgt := 94) SS.1 SS.2.1 dX12_findCuts_239 (by decide) ?_
                              exact ih_94 (k2 + 1) C2 F2 W3 c2 t2 _ _ hP hS ls (lv_sub hl [3, 4, 5, 0] rfl) (by omega) (by omega) (by first | exact i94_2 | exact sl_put (by omega) h_137 i94_2 (by omega) | (exfalso; omega)) (by first | exact i94_3 | (obtain ⟨d9, d1, d2, d3, d4⟩ := so137; exact HT_up (b := x_117) (d := d9) (by omega) i94_3 d3 d1 (by rw [← d2]; exact vm137) (by rw [← d2]; exact VM_u (by omega)) (fun q9 hq9 => pk_uLn (by omega)) pk_uLs) | (exfalso; omega)) (by first | exact i94_4 | exact LX_a i94_4 (NV_x hos hOL (by omega) hv117 nz117) | (exfalso; omega)) (by first | exact Or.inl ⟨by omega, RI_k (by omega) (by omega) (RT_o i94_5 (by omega)) (by omega) hv117 (Or.inl (hz_125.2.2.2.mp (by omega)))⟩ | exact Or.inl ⟨by omega, RI_k (by omega) (by omega) (RT_o i94_5 (by omega)) (by omega) hv117 (Or.inr (in137 (by omega)))⟩ | exact Or.inr ⟨rfl, RI_s (by omega) (by omega) (RT_o i94_5 (by omega)) (by omega) hv117 nz117 no137 (by omega)⟩ | exact Or.inl ⟨rfl, RI_a (by omega) (by omega) (RT_o i94_5 (by omega)) (by omega) hv117 nz117 no137 (by omega) rfl⟩ | (exfalso; omega)) (by omega)
                            · skip
                              try have vm137 : VM9 W3 z_137.toNat = -1 := hvp.1.mpr (by omega)
                              try have no137 : ∀ q : Nat, (q : Int) < c2 → C2 q ≠ x_117 := by obtain ⟨d9, d1, d2, d3, d4⟩ := so137; exact HT_no i94_3 d3 (by rw [← d2]; exact vm137)
                              refine lv_aload_n SS.1 SS.2.1 dX12_findCuts_161 rfl (lv_at hl 2 rfl) ?_
                              refine lv_aload_n SS.1 SS.2.1 dX12_findCuts_162 rfl (lv_at hl 2 rfl) ?_
                              refine j_get SS hG hP 0 (v := .int (J c2)) (C := RX12) (T := TX12) (N := 31) rfl rfl inX12 27 (by decide) (ref := RX12) kw_1085 rfl rfl dX12_findCuts_163 ?_
                              refine j_sipush SS dX12_findCuts_166 (by decide +kernel) ?_
                              refine j_icmp_ne SS (tgt := 176) (x := c2) (y := 1500) dX12_findCuts_169 (by decide) (by omega) (by decide) (fun c_169 => ?_) (fun c_169 => ?_)
                              · skip
                                refine j_iconst SS dX12_findCuts_176 ?_
                                refine j_put SS hG hP (mW_D hD) hS 0 (v := .int (J 0)) (ty := .boolean) (C := RX12) (T := TX12) (N := 31) rfl rfl inX12 tyX12 tyX12_ok nmX12 28 (by decide) (ref := RX12) kw_1086 rfl rfl (by decide +kernel) (j_nz (by omega)) rfl (Nat.le_of_ble_eq_true rfl) dX12_findCuts_177 (ws' := (mW D o q (uV (uV (uI (uI (uL (uV (uI (uI (uI (uV (uI (uI u 10 X_2) 11 Y_2) 12 n_2) 20 A_6) 21 B_6) 22 S_6) 23 n_6) 24 C2) 25 F2) 26 W3) 27 c2) 28 0))) rfl (fun H locs hP hS => ?_)
                                refine lv_aload_n SS.1 SS.2.1 dX12_findCuts_180 rfl (lv_at hl 2 rfl) ?_
                                refine j_get SS hG hP 0 (v := .int (J 0)) (C := RX12) (T := TX12) (N := 31) rfl rfl inX12 28 (by decide) (ref := RX12) kw_1086 rfl rfl dX12_findCuts_181 ?_
                                refine j_if_ne SS (tgt := 236) dX12_findCuts_184 (by decide) (by decide) (fun c_184 => absurd c_184 (by decide)) (fun c_184 => ?_)
                                refine lv_aload_n SS.1 SS.2.1 dX12_findCuts_187 rfl (lv_at hl 2 rfl) ?_
                                refine j_get SS hG hP 0 (v := .ref (q 26)) (C := RX12) (T := TX12) (N := 31) rfl rfl inX12 26 (by decide) (ref := RX12) kw_1084 rfl rfl dX12_findCuts_188 ?_
                                refine lv_iload SS.1 SS.2.1 dX12_findCuts_191 (lv_at hl 0 rfl) ?_
                                refine lv_aload_n SS.1 SS.2.1 dX12_findCuts_193 rfl (lv_at hl 2 rfl) ?_
                                refine j_get SS hG hP 0 (v := .int (J c2)) (C := RX12) (T := TX12) (N := 31) rfl rfl inX12 27 (by decide) (ref := RX12) kw_1085 rfl rfl dX12_findCuts_194 ?_
                                refine j_iast SS hG hP (mW_D hD) hS 22 (n := 4096) (f := W3) rfl (z := (-9)) (v := c2) (by omega) (by omega) dX12_findCuts_197 (ws' := (mW D o q (uV (uV (uI (uI (uL (uV (uI (uI (uI (uV (uI (uI u 10 X_2) 11 Y_2) 12 n_2) 20 A_6) 21 B_6) 22 S_6) 23 n_6) 24 C2) 25 F2) 26 (upI W3 ((-9) : Int).toNat c2)) 27 c2) 28 0))) rfl (fun H locs hP hS => ?_)
                                refine lv_aload_n SS.1 SS.2.1 dX12_findCuts_198 rfl (lv_at hl 2 rfl) ?_
                                refine j_get SS hG hP 0 (v := .ref (q 24)) (C := RX12) (T := TX12) (N := 31) rfl rfl inX12 24 (by decide) (ref := RX12) kw_1082 rfl rfl dX12_findCuts_199 ?_
                                refine lv_aload_n SS.1 SS.2.1 dX12_findCuts_202 rfl (lv_at hl 2 rfl) ?_
                                refine j_get SS hG hP 0 (v := .int (J c2)) (C := RX12) (T := TX12) (N := 31) rfl rfl inX12 27 (by decide) (ref := RX12) kw_1085 rfl rfl dX12_findCuts_203 ?_
                                refine lv_lload SS.1 SS.2.1 dX12_findCuts_206 (lv_at hl 1 rfl) ?_
                                refine j_last SS hG hP (mW_D hD) hS 20 (n := 1501) (f := C2) rfl (z := c2) (v := x_117) (by omega) (by omega) dX12_findCuts_208 (ws' := (mW D o q (uV (uV (uI (uI (uL (uV (uI (uI (uI (uV (uI (uI u 10 X_2) 11 Y_2) 12 n_2) 20 A_6) 21 B_6) 22 S_6) 23 n_6) 24 (vp_updL C2 (c2).toNat x_117)) 25 F2) 26 (upI W3 ((-9) : Int).toNat c2)) 27 c2) 28 0))) rfl (fun H locs hP hS => ?_)
                                refine lv_aload_n SS.1 SS.2.1 dX12_findCuts_209 rfl (lv_at hl 2 rfl) ?_
                                refine j_get SS hG hP 0 (v := .ref (q 25)) (C := RX12) (T := TX12) (N := 31) rfl rfl inX12 25 (by decide) (ref := RX12) kw_1083 rfl rfl dX12_findCuts_210 ?_
                                refine lv_aload_n SS.1 SS.2.1 dX12_findCuts_213 rfl (lv_at hl 2 rfl) ?_
                                refine j_get SS hG hP 0 (v := .int (J c2)) (C := RX12) (T := TX12) (N := 31) rfl rfl inX12 27 (by decide) (ref := RX12) kw_1085 rfl rfl dX12_findCuts_214 ?_
                                refine lv_aload_n SS.1 SS.2.1 dX12_findCuts_217 rfl (lv_at hl 2 rfl) ?_
                                refine j_get SS hG hP 0 (v := .ref (q 25)) (C := RX12) (T := TX12) (N := 31) rfl rfl inX12 25 (by decide) (ref := RX12) kw_1083 rfl rfl dX12_findCuts_218 ?_
                                refine lv_iload_n SS.1 SS.2.1 dX12_findCuts_221 rfl (lv_at hl 4 rfl) ?_
                                refine j_iald SS hG hP 21 (n := 1501) (f := F2) rfl (z := i) (by omega) (by omega) dX12_findCuts_222 ?_
                                refine j_iconst SS dX12_findCuts_223 ?_
                                refine j_iadd SS (x := (F2 (i).toNat)) (y := 1) dX12_findCuts_224 ?_
                                refine j_iast SS hG hP (mW_D hD) hS 21 (n := 1501) (f := F2) rfl (z := c2) (v := ((F2 (i).toNat) + 1)) (by omega) (by omega) dX12_findCuts_225 (ws' := (mW D o q (uV (uV (uI (uI (uL (uV (uI (uI (uI (uV (uI (uI u 10 X_2) 11 Y_2) 12 n_2) 20 A_6) 21 B_6) 22 S_6) 23 n_6) 24 (vp_updL C2 (c2).toNat x_117)) 25 (upI F2 (c2).toNat ((F2 (i).toNat) + 1))) 26 (upI W3 ((-9) : Int).toNat c2)) 27 c2) 28 0))) rfl (fun H locs hP hS => ?_)
                                refine lv_aload_n SS.1 SS.2.1 dX12_findCuts_226 rfl (lv_at hl 2 rfl) ?_
                                refine lv_dup SS.1 SS.2.1 dX12_findCuts_227 rfl ?_
                                refine j_get SS hG hP 0 (v := .int (J c2)) (C := RX12) (T := TX12) (N := 31) rfl rfl inX12 27 (by decide) (ref := RX12) kw_1085 rfl rfl dX12_findCuts_228 ?_
                                refine j_iconst SS dX12_findCuts_231 ?_
                                refine j_iadd SS (x := c2) (y := 1) dX12_findCuts_232 ?_
                                refine j_put SS hG hP (mW_D hD) hS 0 (v := .int (J (c2 + 1))) (ty := .int) (C := RX12) (T := TX12) (N := 31) rfl rfl inX12 tyX12 tyX12_ok nmX12 27 (by decide) (ref := RX12) kw_1085 rfl rfl (by decide +kernel) rfl rfl (Nat.le_of_ble_eq_true rfl) dX12_findCuts_233 (ws' := (mW D o q (uV (uV (uI (uI (uL (uV (uI (uI (uI (uV (uI (uI u 10 X_2) 11 Y_2) 12 n_2) 20 A_6) 21 B_6) 22 S_6) 23 n_6) 24 (vp_updL C2 (c2).toNat x_117)) 25 (upI F2 (c2).toNat ((F2 (i).toNat) + 1))) 26 (upI W3 ((-9) : Int).toNat c2)) 27 (c2 + 1)) 28 0))) rfl (fun H locs hP hS => ?_)
                                refine lv_iinc (v := J (k2 + 1)) (lv' := [(3, .int (J (k2 + 1))), (6, .int (J (-9))), (4, .long x_117), (0, .ref o), (1, .int (J s)), (2, .int (J i))]) SS.1 SS.2.1 dX12_findCuts_236 hl (k := 5) rfl (J_add _ _) (by decide) rfl (fun ls hl => ?_)
                                refine lv_goto (tgt := 94) SS.1 SS.2.1 dX12_findCuts_239 (by decide) ?_
                                exact ih_94 (k2 + 1) (vp_updL C2 (c2).toNat x_117) (upI F2 (c2).toNat ((F2 (i).toNat) + 1)) (upI W3 ((-9) : Int).toNat c2) (c2 + 1) 0 _ _ hP hS ls (lv_sub hl [3, 4, 5, 0] rfl) (by omega) (by omega) (by first | exact i94_2 | exact sl_put (by omega) h_137 i94_2 (by omega) | (exfalso; omega)) (by first | exact i94_3 | (obtain ⟨d9, d1, d2, d3, d4⟩ := so137; exact HT_up (b := x_117) (d := d9) (by omega) i94_3 d3 d1 (by rw [← d2]; exact vm137) (by rw [← d2]; exact VM_u (by omega)) (fun q9 hq9 => pk_uLn (by omega)) pk_uLs) | (exfalso; omega)) (by first | exact i94_4 | exact LX_a i94_4 (NV_x hos hOL (by omega) hv117 nz117) | (exfalso; omega)) (by first | exact Or.inl ⟨by omega, RI_k (by omega) (by omega) (RT_o i94_5 (by omega)) (by omega) hv117 (Or.inl (hz_125.2.2.2.mp (by omega)))⟩ | exact Or.inl ⟨by omega, RI_k (by omega) (by omega) (RT_o i94_5 (by omega)) (by omega) hv117 (Or.inr (in137 (by omega)))⟩ | exact Or.inr ⟨rfl, RI_s (by omega) (by omega) (RT_o i94_5 (by omega)) (by omega) hv117 nz117 no137 (by omega)⟩ | exact Or.inl ⟨rfl, RI_a (by omega) (by omega) (RT_o i94_5 (by omega)) (by omega) hv117 nz117 no137 (by omega) rfl⟩ | (exfalso; omega)) (by omega)
                              · skip
                                refine j_iconst SS dX12_findCuts_172 ?_
                                refine lv_goto (tgt := 177) SS.1 SS.2.1 dX12_findCuts_173 (by decide) ?_
                                refine j_put SS hG hP (mW_D hD) hS 0 (v := .int (J 1)) (ty := .boolean) (C := RX12) (T := TX12) (N := 31) rfl rfl inX12 tyX12 tyX12_ok nmX12 28 (by decide) (ref := RX12) kw_1086 rfl rfl (by decide +kernel) (j_nz (by omega)) rfl (Nat.le_of_ble_eq_true rfl) dX12_findCuts_177 (ws' := (mW D o q (uV (uV (uI (uI (uL (uV (uI (uI (uI (uV (uI (uI u 10 X_2) 11 Y_2) 12 n_2) 20 A_6) 21 B_6) 22 S_6) 23 n_6) 24 C2) 25 F2) 26 W3) 27 c2) 28 1))) rfl (fun H locs hP hS => ?_)
                                refine lv_aload_n SS.1 SS.2.1 dX12_findCuts_180 rfl (lv_at hl 2 rfl) ?_
                                refine j_get SS hG hP 0 (v := .int (J 1)) (C := RX12) (T := TX12) (N := 31) rfl rfl inX12 28 (by decide) (ref := RX12) kw_1086 rfl rfl dX12_findCuts_181 ?_
                                refine j_if_ne SS (tgt := 236) dX12_findCuts_184 (by decide) (by decide) (fun c_184 => ?_) (fun c_184 => absurd c_184 (by decide))
                                refine lv_iinc (v := J (k2 + 1)) (lv' := [(3, .int (J (k2 + 1))), (6, .int (J (-9))), (4, .long x_117), (0, .ref o), (1, .int (J s)), (2, .int (J i))]) SS.1 SS.2.1 dX12_findCuts_236 hl (k := 5) rfl (J_add _ _) (by decide) rfl (fun ls hl => ?_)
                                refine lv_goto (tgt := 94) SS.1 SS.2.1 dX12_findCuts_239 (by decide) ?_
                                exact ih_94 (k2 + 1) C2 F2 W3 c2 1 _ _ hP hS ls (lv_sub hl [3, 4, 5, 0] rfl) (by omega) (by omega) (by first | exact i94_2 | exact sl_put (by omega) h_137 i94_2 (by omega) | (exfalso; omega)) (by first | exact i94_3 | (obtain ⟨d9, d1, d2, d3, d4⟩ := so137; exact HT_up (b := x_117) (d := d9) (by omega) i94_3 d3 d1 (by rw [← d2]; exact vm137) (by rw [← d2]; exact VM_u (by omega)) (fun q9 hq9 => pk_uLn (by omega)) pk_uLs) | (exfalso; omega)) (by first | exact i94_4 | exact LX_a i94_4 (NV_x hos hOL (by omega) hv117 nz117) | (exfalso; omega)) (by first | exact Or.inl ⟨by omega, RI_k (by omega) (by omega) (RT_o i94_5 (by omega)) (by omega) hv117 (Or.inl (hz_125.2.2.2.mp (by omega)))⟩ | exact Or.inl ⟨by omega, RI_k (by omega) (by omega) (RT_o i94_5 (by omega)) (by omega) hv117 (Or.inr (in137 (by omega)))⟩ | exact Or.inr ⟨rfl, RI_s (by omega) (by omega) (RT_o i94_5 (by omega)) (by omega) hv117 nz117 no137 (by omega)⟩ | exact Or.inl ⟨rfl, RI_a (by omega) (by omega) (RT_o i94_5 (by omega)) (by omega) hv117 nz117 no137 (by omega) rfl⟩ | (exfalso; omega)) (by omega)
                exact L_94 ((n_6 - (0 : Int)).toNat + 1) 0 C1 F1 W2 c1 t1 _ _ hP hS ls (lv_sub hl [1, 2, 3, 0] rfl) (by omega) (by omega) (i77_1) (i77_2) (i77_3) (by rw [show (64 * i + 0).toNat = (64 * i).toNat by omega]; exact i77_4) (Nat.lt_succ_self _)
        exact L_77 (((1501 : Int) - (0 : Int)).toNat + 1) 0 (vp_updL (u.2.1 24) (0 : Int).toNat x_48) (upI (u.1 25) (0 : Int).toNat 0) (upI W1 (z_70).toNat 0) 1 0 _ _ hP hS ls (lv_sub hl [1, 2, 0] rfl) (by omega) (sl_1 h_70 (fun j hj => i11_1 j (by omega))) (by obtain ⟨d9, d1, d2, d3, d4⟩ := so70; exact HT_up (d := d9) (Int.le_refl 0) (HT_0 (fun p9 hp9 => by unfold VM9; exact if_pos (i11_1 p9 (by omega)))) d3 d1 (by rw [← d2]; unfold VM9; exact if_pos (i11_1 z_70.toNat (by omega))) (by rw [← d2]; exact VM_u (Int.le_refl 0)) (fun q9 hq9 => by omega) rfl) (fun q9 hq9 => by have e9 : q9 = 0 := (by omega); subst e9; exact ⟨f9, FC_NX hf1, pk_uLs.trans hf2⟩) (Or.inl ⟨rfl, RS_0 (pk_uLs.trans hf2) upI_s⟩) (Nat.lt_succ_self _)
      · skip
        refine lv_aload_n SS.1 SS.2.1 dX12_findCuts_18 rfl (lv_at hl 0 rfl) ?_
        refine j_get SS hG hP 0 (v := .ref (q 26)) (C := RX12) (T := TX12) (N := 31) rfl rfl inX12 26 (by decide) (ref := RX12) kw_1084 rfl rfl dX12_findCuts_19 ?_
        refine lv_iload_n SS.1 SS.2.1 dX12_findCuts_22 rfl (lv_at hl 2 rfl) ?_
        refine j_bipush SS dX12_findCuts_23 (by decide +kernel) ?_
        refine j_iast SS hG hP (mW_D hD) hS 22 (n := 4096) (f := W1) rfl (z := k) (v := (-9)) (by omega) (by omega) dX12_findCuts_25 (ws' := (mW D o q (uI (uV (uI (uI (uI (uV (uI (uI u 10 X_2) 11 Y_2) 12 n_2) 20 A_6) 21 B_6) 22 S_6) 23 n_6) 26 (upI W1 (k).toNat (-9))))) rfl (fun H locs hP hS => ?_)
        refine lv_iinc (v := J (k + 1)) (lv' := [(2, .int (J (k + 1))), (0, .ref o), (1, .int (J s))]) SS.1 SS.2.1 dX12_findCuts_26 hl (k := 2) rfl (J_add _ _) (by decide) rfl (fun ls hl => ?_)
        refine lv_goto (tgt := 11) SS.1 SS.2.1 dX12_findCuts_29 (by decide) ?_
        exact ih_11 (k + 1) (upI W1 (k).toNat (-9)) _ _ hP hS ls (lv_sub hl [1, 2, 0] rfl) (by omega) (fun j hj => by by_cases e : (j : Int) = k; (rw [show j = k.toNat by omega, upI_s]); (rw [upI_n (by omega)]; exact i11_1 j (by omega))) (by omega)
  exact L_11 (((4096 : Int) - (0 : Int)).toNat + 1) 0 (u.1 26) _ _ hP hS ls (lv_sub hl [1, 2, 0] rfl) (by omega) (fun j hj => by omega) (Nat.lt_succ_self _)


theorem NV_d1 {X Y A Bb : Nat → Int} {n m : Int} {b v : Int64} {k : Nat} (hs : os_s X Y n) (hO : OL (SGP X Y n) m A Bb) (h0 : 0 ≤ m) (h63 : m ≤ 63) (h0n : 0 ≤ n) (h : NV9 X Y A Bb n.toNat m.toNat b k v) (e : v ≠ 0) : ¬ NV9 X Y A Bb n.toNat m.toNat b k 0 := fun w => e (NV_u (n := n.toNat) (by rw [Int.toNat_of_nonneg h0n]; exact hs) hO (by omega) (by omega) (fun i hi => by have g := (OL_in hO (a := i) (by omega)).1; omega) h w)
theorem NV_d2 {X Y A Bb : Nat → Int} {n m : Int} {b v : Int64} {k : Nat} (h : NV9 X Y A Bb n.toNat m.toNat b k v) (e : v = 0) : ¬ ¬ NV9 X Y A Bb n.toNat m.toNat b k 0 := fun w => w (by rw [← e]; exact h)
theorem cn9_e {P : Nat → Prop} {m m' : Nat} {z : Int} (h : cn9 P m z) (e : m = m') : cn9 P m' z := by
  rw [← e]; exact h
theorem FCT_x {X Y : Nat → Int} {n m c t i : Int} {A Bb : Nat → Int} {C : Nat → Int64} {F : Nat → Int} (h : FCT X Y n A Bb m C F c t) (hi : 0 ≤ i ∧ i < c) : ∃ f : Nat → Bool, NX9 X Y A Bb m.toNat f ∧ C i.toNat = PB f m.toNat := by
  obtain ⟨f, T, _, _, _, h4⟩ := h
  exact h4 i.toNat (by omega)

set_option maxHeartbeats 4000000 in
set_option maxRecDepth 100000 in
theorem c_X12_flips3 (l : Launch) (D : JD) (o : Nat) (q : Nat → Nat) (u : MS) (A : Nat → Prop) (hD : va_D A (mW D o q u)) (s : Int) (i : Int) (p0 : IM u) (p1 : -2147483648 ≤ s ∧ s ≤ 2147483647) (p2 : -2147483648 ≤ i ∧ i ≤ 2147483647) : Met l yX12_flips (jw yX12_flips cX12_flips 5 (some .int)) (jr 6 131) (jP [.ref o, .int (J s), .int (J i)] D (fun H => va_P D.1 j_cl (mW D o q u) H)) (jWi (fun z u' => ∃ X : Nat → Int, ∃ Y : Nat → Int, ∃ n : Int, ∃ A : Nat → Int, ∃ B : Nat → Int, ∃ S : Nat → Int, ∃ m : Int, ∃ C : Nat → Int64, ∃ F : Nat → Int, ∃ W : Nat → Int, ∃ c : Int, ∃ t : Int, u' = (uV (uV (uI (uI (uL (uV (uI (uI (uI (uV (uI (uI u 10 X) 11 Y) 12 n) 20 A) 21 B) 22 S) 23 m) 24 C) 25 F) 26 W) 27 c) 28 t) ∧ (IM u' ∧ fpM u s i z)) (fun u' H => va_P D.1 j_cl (mW D o q u') H) A) 0 0 A := by
  refine Met.ofW (cc := cX12_flips) (maxL := 5) (ret := (some .int)) (by decide) rfl ?_
  intro pr en st mi args below meth co s₁ B hml hv
  obtain ⟨rfl, hG, hP⟩ := hv
  have hr := B.returns
  have hlk := B.notSynchronized
  have SS : jS pr mi co cX12_flips 5 st _ RX12 := ⟨B.exec, B.bytes, hml, findClass_of_methodNamed B.named, fun w hw => atoms_spec (ws := (jw yX12_flips cX12_flips 5 (some .int))) B.pre w (List.mem_cons_of_mem _ hw)⟩
  have hl := lv_entry ([.ref o, .int (J s), .int (J i)]) (n := 5) (Nat.le_of_ble_eq_true rfl)
  rw [lg_entry_eq]
  generalize (lg_sl ([.ref o, .int (J s), .int (J i)]) ++ List.replicate (5 - (lg_sl ([.ref o, .int (J s), .int (J i)])).length) Slot.unset).toArray = ls at hl ⊢
  have hl : lv_has ls 5 [(0, .ref o), (1, .int (J s)), (2, .int (J i))] := hl
  have hS : va_S A st.heap st.heap [] := va_S.rf
  refine lv_iload_n SS.1 SS.2.1 dX12_flips_0 rfl (lv_at hl 1 rfl) ?_
  refine j_sRi SS (As := [.int (J s)]) (rest := []) (c_X12_isShape l D s (show -2147483648 ≤ s ∧ s ≤ 2147483647 from (by omega))) mf_X12_isShape kw_1156 hG trivial rfl hl.1 ⟨⟨Nat.le_of_ble_eq_true rfl, Nat.le_of_ble_eq_true rfl⟩, Nat.le_of_ble_eq_true rfl, Nat.le_refl _, Nat.le_refl _⟩ rfl dX12_flips_1 (fun z_1 h_1 => ?_)
  have h_1 : (z_1 = 1 ∧ (0 ≤ s ∧ s ≤ 7)) ∨ (z_1 = 0 ∧ ¬ (0 ≤ s ∧ s ≤ 7)) := h_1
  refine j_if_eq SS (tgt := 11) (x := z_1) dX12_flips_4 (by decide) (by omega) (fun c_4 => ?_) (fun c_4 => ?_)
  · skip
    refine j_iconst SS dX12_flips_11 ?_
    exact W.iret SS.1 SS.2.1 hr (fun t ht hW => ⟨⟨_, (uV (uV (uI (uI (uL (uV (uI (uI (uI (uV (uI (uI u 10 (u.1 10)) 11 (u.1 11)) 12 (u.2.2 12)) 20 (u.1 20)) 21 (u.1 21)) 22 (u.1 22)) 23 (u.2.2 23)) 24 (u.2.1 24)) 25 (u.1 25)) 26 (u.1 26)) 27 (u.2.2 27)) 28 (u.2.2 28)), rfl, ⟨(-1), rfl, (⟨(u.1 10), (u.1 11), (u.2.2 12), (u.1 20), (u.1 21), (u.1 22), (u.2.2 23), (u.2.1 24), (u.1 25), (u.1 26), (u.2.2 27), (u.2.2 28), rfl, ⟨p0, Or.inl ⟨fun q => by omega, rfl⟩⟩⟩)⟩, by show va_P D.1 j_cl (mW D o q (uV (uV (uI (uI (uL (uV (uI (uI (uI (uV (uI (uI u 10 (u.1 10)) 11 (u.1 11)) 12 (u.2.2 12)) 20 (u.1 20)) 21 (u.1 21)) 22 (u.1 22)) 23 (u.2.2 23)) 24 (u.2.1 24)) 25 (u.1 25)) 26 (u.1 26)) 27 (u.2.2 27)) 28 (u.2.2 28))) t.heap; rw [ht]; exact hP⟩, hS.F ht⟩) hS.2.2 dX12_flips_12 hlk
  · skip
    refine lv_iload_n SS.1 SS.2.1 dX12_flips_7 rfl (lv_at hl 2 rfl) ?_
    refine j_if_ge SS (tgt := 13) (x := i) dX12_flips_8 (by decide) (by omega) (fun c_8 => ?_) (fun c_8 => ?_)
    · skip
      refine lv_aload_n SS.1 SS.2.1 dX12_flips_13 rfl (lv_at hl 0 rfl) ?_
      refine lv_iload_n SS.1 SS.2.1 dX12_flips_14 rfl (lv_at hl 1 rfl) ?_
      refine j_vRi SS (As := [.int (J s)]) (rest := []) (c_X12_isCuttable l D o q u s (show 0 ≤ s ∧ s ≤ 7 from (by omega)) (show Sh u s from (p0.1 _ (by omega) (by omega)))) mf_X12_isCuttable kw_1408 hG hP hP (ci := 8) (q0 := 0) rfl rfl rfl rfl hl.1 ⟨⟨Nat.le_of_ble_eq_true rfl, Nat.le_of_ble_eq_true rfl⟩, Nat.le_of_ble_eq_true rfl, Nat.le_refl _, Nat.le_refl _⟩ rfl dX12_flips_15 (fun z_15 h_15 => ?_)
      have h_15 : (z_15 = 1 ∧ 2 < mN u s ∧ mEd u s + mIn u s ≤ 12) ∨ (z_15 = 0 ∧ ¬ (2 < mN u s ∧ mEd u s + mIn u s ≤ 12)) := h_15
      refine j_if_ne SS (tgt := 24) (x := z_15) dX12_flips_18 (by decide) (by omega) (fun c_18 => ?_) (fun c_18 => ?_)
      · skip
        refine lv_aload_n SS.1 SS.2.1 dX12_flips_24 rfl (lv_at hl 0 rfl) ?_
        refine lv_iload_n SS.1 SS.2.1 dX12_flips_25 rfl (lv_at hl 1 rfl) ?_
        refine j_vWv SS (As := [.int (J s)]) (rest := []) (c_X12_findCuts3 l D o q u A (mW_D hD) s (show IM u from (p0)) (show 0 ≤ s ∧ s ≤ 7 from (by omega)) (show 2 < mN u s from (by omega)) (show mEd u s + mIn u s ≤ 12 from (by omega))) mf_X12_findCuts kw_1438 hG hP hP (ci := 8) (q0 := 0) rfl rfl rfl hS (fun _ h => h) rfl hl.1 ⟨⟨Nat.le_of_ble_eq_true rfl, Nat.le_of_ble_eq_true rfl⟩, Nat.le_of_ble_eq_true rfl, Nat.le_refl _, Nat.le_refl _⟩ rfl dX12_flips_26 (fun u26 H locs h_26 hP _ hS => ?_)
        obtain ⟨X_26, Y_26, n_26, A_26, B_26, S_26, m_26, C_26, F_26, W_26, c_26, t_26, rfl, h_26⟩ := h_26
        have hP : va_P D.1 j_cl (mW D o q (uV (uV (uI (uI (uL (uV (uI (uI (uI (uV (uI (uI u 10 X_26) 11 Y_26) 12 n_26) 20 A_26) 21 B_26) 22 S_26) 23 m_26) 24 C_26) 25 F_26) 26 W_26) 27 c_26) 28 t_26)) H := hP
        have h_26 : (CU (uV (uV (uI (uI (uL (uV (uI (uI (uI (uV (uI (uI u 10 X_26) 11 Y_26) 12 n_26) 20 A_26) 21 B_26) 22 S_26) 23 m_26) 24 C_26) 25 F_26) 26 W_26) 27 c_26) 28 t_26) ∧ (1 ≤ c_26 ∧ c_26 ≤ 1500) ∧ (t_26 = 0 ∨ t_26 = 1) ∧ (0 ≤ m_26 ∧ m_26 ≤ 66) ∧ IM (uV (uV (uI (uI (uL (uV (uI (uI (uI (uV (uI (uI u 10 X_26) 11 Y_26) 12 n_26) 20 A_26) 21 B_26) 22 S_26) 23 m_26) 24 C_26) 25 F_26) 26 W_26) 27 c_26) 28 t_26)) ∧ ((0 ≤ n_26 ∧ n_26 ≤ 12) ∧ OL (PBx u s) n_26 X_26 Y_26) ∧ CV (uV (uV (uI (uI (uL (uV (uI (uI (uI (uV (uI (uI u 10 X_26) 11 Y_26) 12 n_26) 20 A_26) 21 B_26) 22 S_26) 23 m_26) 24 C_26) 25 F_26) 26 W_26) 27 c_26) 28 t_26) ∧ FCT X_26 Y_26 n_26 A_26 B_26 m_26 C_26 F_26 c_26 t_26 := h_26
        obtain ⟨⟨hcu, hc1, ht1, hm1, hI⟩, ⟨hn12, hOP⟩, hcv, hFC⟩ := h_26
        have hos : os_s X_26 Y_26 n_26 := hcv.2.1
        have hOL : OL (SGP X_26 Y_26 n_26) m_26 A_26 B_26 := hcv.2.2.1
        have h63 : m_26 ≤ 63 := hcv.2.2.2.2
        refine lv_aload_n SS.1 SS.2.1 dX12_flips_29 rfl (lv_at hl 0 rfl) ?_
        refine j_get SS hG hP 0 (v := .int (J t_26)) (C := RX12) (T := TX12) (N := 31) rfl rfl inX12 28 (by decide) (ref := RX12) kw_1086 rfl rfl dX12_flips_30 ?_
        refine j_if_eq SS (tgt := 39) (x := t_26) dX12_flips_33 (by decide) (by omega) (fun c_33 => ?_) (fun c_33 => ?_)
        · skip
          refine lv_iload_n SS.1 SS.2.1 dX12_flips_39 rfl (lv_at hl 2 rfl) ?_
          refine lv_aload_n SS.1 SS.2.1 dX12_flips_40 rfl (lv_at hl 0 rfl) ?_
          refine j_get SS hG hP 0 (v := .int (J c_26)) (C := RX12) (T := TX12) (N := 31) rfl rfl inX12 27 (by decide) (ref := RX12) kw_1085 rfl rfl dX12_flips_41 ?_
          refine j_icmp_lt SS (tgt := 49) (x := i) (y := c_26) dX12_flips_44 (by decide) (by omega) (by omega) (fun c_44 => ?_) (fun c_44 => ?_)
          · skip
            refine j_iconst SS dX12_flips_49 ?_
            refine lv_istore_n (lv' := [(3, .int (J 0)), (0, .ref o), (1, .int (J s)), (2, .int (J i))]) SS.1 SS.2.1 dX12_flips_50 rfl hl (by decide) rfl (fun ls hl => ?_)
            refine j_iconst SS dX12_flips_51 ?_
            refine lv_istore (lv' := [(4, .int (J 0)), (3, .int (J 0)), (0, .ref o), (1, .int (J s)), (2, .int (J i))]) SS.1 SS.2.1 dX12_flips_52 hl (by decide) rfl (fun ls hl => ?_)
            have L_54 : ∀ (nn : Nat) (n9 : Int) (k : Int) (H : Heap) (locs : List Loc) (hP : va_P D.1 j_cl (mW D o q (uV (uV (uI (uI (uL (uV (uI (uI (uI (uV (uI (uI u 10 X_26) 11 Y_26) 12 n_26) 20 A_26) 21 B_26) 22 S_26) 23 m_26) 24 C_26) 25 F_26) 26 W_26) 27 c_26) 28 t_26)) H) (hS : va_S A st.heap H locs) (ls : Array Slot) (hl : lv_has ls 5 [(0, .ref o), (1, .int (J s)), (2, .int (J i)), (3, .int (J n9)), (4, .int (J k))]) (i54_0 : 0 ≤ k ∧ k ≤ m_26) (i54_1 : 0 ≤ n9 ∧ n9 ≤ k) (i54_2 : cn9 (fun k9 => ¬ NV9 X_26 Y_26 A_26 B_26 n_26.toNat m_26.toNat (C_26 i.toNat) k9 0) k.toNat n9), (m_26 - k).toNat < nn → W pr l en (headSpec (jw yX12_flips cX12_flips 5 (some .int)) (jr 6 131)).room st mi (([.ref o, .int (J s), .int (J i)] : List Value).toArray) below meth co H locs 0 0 (MQ below (jWi (fun z u' => ∃ X : Nat → Int, ∃ Y : Nat → Int, ∃ n : Int, ∃ A : Nat → Int, ∃ B : Nat → Int, ∃ S : Nat → Int, ∃ m : Int, ∃ C : Nat → Int64, ∃ F : Nat → Int, ∃ W : Nat → Int, ∃ c : Int, ∃ t : Int, u' = (uV (uV (uI (uI (uL (uV (uI (uI (uI (uV (uI (uI u 10 X) 11 Y) 12 n) 20 A) 21 B) 22 S) 23 m) 24 C) 25 F) 26 W) 27 c) 28 t) ∧ (IM u' ∧ fpM u s i z)) (fun u' H => va_P D.1 j_cl (mW D o q u') H) A) (([.ref o, .int (J s), .int (J i)] : List Value).toArray) st 0 0 A) (F0 mi 54 ls []) := by
              intro nn
              induction nn with
              | zero => intros; omega
              | succ nn ih_54 =>
                intro n9 k  H locs hP hS ls hl i54_0 i54_1 i54_2 hm
                refine lv_iload SS.1 SS.2.1 dX12_flips_54 (lv_at hl 4 rfl) ?_
                refine lv_aload_n SS.1 SS.2.1 dX12_flips_56 rfl (lv_at hl 0 rfl) ?_
                refine j_get SS hG hP 0 (v := .int (J m_26)) (C := RX12) (T := TX12) (N := 31) rfl rfl inX12 23 (by decide) (ref := RX12) kw_1081 rfl rfl dX12_flips_57 ?_
                refine j_icmp_ge SS (tgt := 94) (x := k) (y := m_26) dX12_flips_60 (by decide) (by omega) (by omega) (fun c_60 => ?_) (fun c_60 => ?_)
                · skip
                  refine lv_iload_n SS.1 SS.2.1 dX12_flips_94 rfl (lv_at hl 3 rfl) ?_
                  exact W.iret SS.1 SS.2.1 hr (fun t ht hW => ⟨⟨_, (uV (uV (uI (uI (uL (uV (uI (uI (uI (uV (uI (uI u 10 X_26) 11 Y_26) 12 n_26) 20 A_26) 21 B_26) 22 S_26) 23 m_26) 24 C_26) 25 F_26) 26 W_26) 27 c_26) 28 t_26), rfl, ⟨n9, rfl, (⟨X_26, Y_26, n_26, A_26, B_26, S_26, m_26, C_26, F_26, W_26, c_26, t_26, rfl, ⟨hI, Or.inr ⟨by omega, Or.inr ⟨by unfold ctM; omega, n_26, X_26, Y_26, m_26, A_26, B_26, C_26, F_26, c_26, t_26, ⟨hn12, hOP⟩, ⟨hOL, h63⟩, hFC, Or.inr ⟨by omega, Or.inr ⟨by omega, cn9_e i54_2 (by omega)⟩⟩⟩⟩⟩⟩)⟩, by show va_P D.1 j_cl (mW D o q (uV (uV (uI (uI (uL (uV (uI (uI (uI (uV (uI (uI u 10 X_26) 11 Y_26) 12 n_26) 20 A_26) 21 B_26) 22 S_26) 23 m_26) 24 C_26) 25 F_26) 26 W_26) 27 c_26) 28 t_26)) t.heap; rw [ht]; exact hP⟩, hS.F ht⟩) hS.2.2 dX12_flips_95 hlk
                · skip
                  refine lv_iload_n SS.1 SS.2.1 dX12_flips_63 rfl (lv_at hl 3 rfl) ?_
                  refine lv_aload_n SS.1 SS.2.1 dX12_flips_64 rfl (lv_at hl 0 rfl) ?_
                  refine lv_aload_n SS.1 SS.2.1 dX12_flips_65 rfl (lv_at hl 0 rfl) ?_
                  refine j_get SS hG hP 0 (v := .ref (q 24)) (C := RX12) (T := TX12) (N := 31) rfl rfl inX12 24 (by decide) (ref := RX12) kw_1082 rfl rfl dX12_flips_66 ?_
                  refine lv_iload_n SS.1 SS.2.1 dX12_flips_69 rfl (lv_at hl 2 rfl) ?_
                  refine j_lald SS hG hP 20 (n := 1501) (f := C_26) rfl (z := i) (by omega) (by omega) dX12_flips_70 ?_
                  refine lv_iload SS.1 SS.2.1 dX12_flips_71 (lv_at hl 4 rfl) ?_
                  refine j_vRl SS (As := [.long (C_26 (i).toNat), .int (J k)]) (rest := [.int (J n9)]) (c_X12_flipped3 l D o q (uV (uV (uI (uI (uL (uV (uI (uI (uI (uV (uI (uI u 10 X_26) 11 Y_26) 12 n_26) 20 A_26) 21 B_26) 22 S_26) 23 m_26) 24 C_26) 25 F_26) 26 W_26) 27 c_26) 28 t_26) (C_26 (i).toNat) k (show CV (uV (uV (uI (uI (uL (uV (uI (uI (uI (uV (uI (uI u 10 X_26) 11 Y_26) 12 n_26) 20 A_26) 21 B_26) 22 S_26) 23 m_26) 24 C_26) 25 F_26) 26 W_26) 27 c_26) 28 t_26) from (hcv)) (show 0 ≤ k ∧ k < m_26 from (by omega))) mf_X12_flipped kw_1447 hG hP hP (ci := 8) (q0 := 0) rfl rfl rfl rfl hl.1 ⟨⟨Nat.le_of_ble_eq_true rfl, Nat.le_of_ble_eq_true rfl⟩, Nat.le_of_ble_eq_true rfl, Nat.le_refl _, Nat.le_refl _⟩ rfl dX12_flips_73 (fun x_73 h_73 => ?_)
                  have hv73 : NV9 X_26 Y_26 A_26 B_26 n_26.toNat m_26.toNat (C_26 i.toNat) k.toNat x_73 := by obtain ⟨f8, g1, g2⟩ := FCT_x hFC (i := i) (by omega); exact h_73 f8 g1 g2
                  refine lv_lconst (v := 0) SS.1 SS.2.1 dX12_flips_76 (by decide +kernel) ?_
                  refine j_lcmp SS dX12_flips_77 (fun z_77 hz_77 => ?_)
                  refine j_if_eq SS (tgt := 85) (x := z_77) dX12_flips_78 (by decide) (by omega) (fun c_78 => ?_) (fun c_78 => ?_)
                  · skip
                    refine j_iconst SS dX12_flips_85 ?_
                    refine j_iadd SS (x := n9) (y := 0) dX12_flips_86 ?_
                    refine lv_istore_n (lv' := [(3, .int (J (n9 + 0))), (0, .ref o), (1, .int (J s)), (2, .int (J i)), (4, .int (J k))]) SS.1 SS.2.1 dX12_flips_87 rfl hl (by decide) rfl (fun ls hl => ?_)
                    refine lv_iinc (v := J (k + 1)) (lv' := [(4, .int (J (k + 1))), (3, .int (J (n9 + 0))), (0, .ref o), (1, .int (J s)), (2, .int (J i))]) SS.1 SS.2.1 dX12_flips_88 hl (k := 4) rfl (J_add _ _) (by decide) rfl (fun ls hl => ?_)
                    refine lv_goto (tgt := 54) SS.1 SS.2.1 dX12_flips_91 (by decide) ?_
                    exact ih_54 (n9 + 0) (k + 1) _ _ hP hS ls (lv_sub hl [2, 3, 4, 1, 0] rfl) (by omega) (by omega) (cn9_s (by omega) i54_2 (by first | exact Or.inl ⟨NV_d1 hos hOL (by omega) (by omega) (by omega) hv73 (fun e9 => by have q9 := hz_77.2.2.2.mpr e9; omega), rfl⟩ | exact Or.inr ⟨NV_d2 hv73 (hz_77.2.2.2.mp (by omega)), by omega⟩)) (by omega)
                  · skip
                    refine j_iconst SS dX12_flips_81 ?_
                    refine lv_goto (tgt := 86) SS.1 SS.2.1 dX12_flips_82 (by decide) ?_
                    refine j_iadd SS (x := n9) (y := 1) dX12_flips_86 ?_
                    refine lv_istore_n (lv' := [(3, .int (J (n9 + 1))), (0, .ref o), (1, .int (J s)), (2, .int (J i)), (4, .int (J k))]) SS.1 SS.2.1 dX12_flips_87 rfl hl (by decide) rfl (fun ls hl => ?_)
                    refine lv_iinc (v := J (k + 1)) (lv' := [(4, .int (J (k + 1))), (3, .int (J (n9 + 1))), (0, .ref o), (1, .int (J s)), (2, .int (J i))]) SS.1 SS.2.1 dX12_flips_88 hl (k := 4) rfl (J_add _ _) (by decide) rfl (fun ls hl => ?_)
                    refine lv_goto (tgt := 54) SS.1 SS.2.1 dX12_flips_91 (by decide) ?_
                    exact ih_54 (n9 + 1) (k + 1) _ _ hP hS ls (lv_sub hl [2, 3, 4, 1, 0] rfl) (by omega) (by omega) (cn9_s (by omega) i54_2 (by first | exact Or.inl ⟨NV_d1 hos hOL (by omega) (by omega) (by omega) hv73 (fun e9 => by have q9 := hz_77.2.2.2.mpr e9; omega), rfl⟩ | exact Or.inr ⟨NV_d2 hv73 (hz_77.2.2.2.mp (by omega)), by omega⟩)) (by omega)
            exact L_54 ((m_26 - (0 : Int)).toNat + 1) 0 0 _ _ hP hS ls (lv_sub hl [2, 3, 4, 1, 0] rfl) (by omega) (by omega) (cn9_0) (Nat.lt_succ_self _)
          · skip
            refine j_iconst SS dX12_flips_47 ?_
            exact W.iret SS.1 SS.2.1 hr (fun t ht hW => ⟨⟨_, (uV (uV (uI (uI (uL (uV (uI (uI (uI (uV (uI (uI u 10 X_26) 11 Y_26) 12 n_26) 20 A_26) 21 B_26) 22 S_26) 23 m_26) 24 C_26) 25 F_26) 26 W_26) 27 c_26) 28 t_26), rfl, ⟨(-1), rfl, (⟨X_26, Y_26, n_26, A_26, B_26, S_26, m_26, C_26, F_26, W_26, c_26, t_26, rfl, ⟨hI, Or.inr ⟨by omega, Or.inr ⟨by unfold ctM; omega, n_26, X_26, Y_26, m_26, A_26, B_26, C_26, F_26, c_26, t_26, ⟨hn12, hOP⟩, ⟨hOL, h63⟩, hFC, Or.inr ⟨by omega, Or.inl ⟨by omega, rfl⟩⟩⟩⟩⟩⟩)⟩, by show va_P D.1 j_cl (mW D o q (uV (uV (uI (uI (uL (uV (uI (uI (uI (uV (uI (uI u 10 X_26) 11 Y_26) 12 n_26) 20 A_26) 21 B_26) 22 S_26) 23 m_26) 24 C_26) 25 F_26) 26 W_26) 27 c_26) 28 t_26)) t.heap; rw [ht]; exact hP⟩, hS.F ht⟩) hS.2.2 dX12_flips_48 hlk
        · skip
          refine j_bipush SS dX12_flips_36 (by decide +kernel) ?_
          exact W.iret SS.1 SS.2.1 hr (fun t ht hW => ⟨⟨_, (uV (uV (uI (uI (uL (uV (uI (uI (uI (uV (uI (uI u 10 X_26) 11 Y_26) 12 n_26) 20 A_26) 21 B_26) 22 S_26) 23 m_26) 24 C_26) 25 F_26) 26 W_26) 27 c_26) 28 t_26), rfl, ⟨(-5), rfl, (⟨X_26, Y_26, n_26, A_26, B_26, S_26, m_26, C_26, F_26, W_26, c_26, t_26, rfl, ⟨hI, Or.inr ⟨by omega, Or.inr ⟨by unfold ctM; omega, n_26, X_26, Y_26, m_26, A_26, B_26, C_26, F_26, c_26, t_26, ⟨hn12, hOP⟩, ⟨hOL, h63⟩, hFC, Or.inl ⟨by omega, rfl⟩⟩⟩⟩⟩)⟩, by show va_P D.1 j_cl (mW D o q (uV (uV (uI (uI (uL (uV (uI (uI (uI (uV (uI (uI u 10 X_26) 11 Y_26) 12 n_26) 20 A_26) 21 B_26) 22 S_26) 23 m_26) 24 C_26) 25 F_26) 26 W_26) 27 c_26) 28 t_26)) t.heap; rw [ht]; exact hP⟩, hS.F ht⟩) hS.2.2 dX12_flips_38 hlk
      · skip
        refine j_bipush SS dX12_flips_21 (by decide +kernel) ?_
        exact W.iret SS.1 SS.2.1 hr (fun t ht hW => ⟨⟨_, (uV (uV (uI (uI (uL (uV (uI (uI (uI (uV (uI (uI u 10 (u.1 10)) 11 (u.1 11)) 12 (u.2.2 12)) 20 (u.1 20)) 21 (u.1 21)) 22 (u.1 22)) 23 (u.2.2 23)) 24 (u.2.1 24)) 25 (u.1 25)) 26 (u.1 26)) 27 (u.2.2 27)) 28 (u.2.2 28)), rfl, ⟨(-2), rfl, (⟨(u.1 10), (u.1 11), (u.2.2 12), (u.1 20), (u.1 21), (u.1 22), (u.2.2 23), (u.2.1 24), (u.1 25), (u.1 26), (u.2.2 27), (u.2.2 28), rfl, ⟨p0, Or.inr ⟨by omega, Or.inl ⟨fun q => by unfold ctM at q; omega, rfl⟩⟩⟩⟩)⟩, by show va_P D.1 j_cl (mW D o q (uV (uV (uI (uI (uL (uV (uI (uI (uI (uV (uI (uI u 10 (u.1 10)) 11 (u.1 11)) 12 (u.2.2 12)) 20 (u.1 20)) 21 (u.1 21)) 22 (u.1 22)) 23 (u.2.2 23)) 24 (u.2.1 24)) 25 (u.1 25)) 26 (u.1 26)) 27 (u.2.2 27)) 28 (u.2.2 28))) t.heap; rw [ht]; exact hP⟩, hS.F ht⟩) hS.2.2 dX12_flips_23 hlk
    · skip
      refine j_iconst SS dX12_flips_11 ?_
      exact W.iret SS.1 SS.2.1 hr (fun t ht hW => ⟨⟨_, (uV (uV (uI (uI (uL (uV (uI (uI (uI (uV (uI (uI u 10 (u.1 10)) 11 (u.1 11)) 12 (u.2.2 12)) 20 (u.1 20)) 21 (u.1 21)) 22 (u.1 22)) 23 (u.2.2 23)) 24 (u.2.1 24)) 25 (u.1 25)) 26 (u.1 26)) 27 (u.2.2 27)) 28 (u.2.2 28)), rfl, ⟨(-1), rfl, (⟨(u.1 10), (u.1 11), (u.2.2 12), (u.1 20), (u.1 21), (u.1 22), (u.2.2 23), (u.2.1 24), (u.1 25), (u.1 26), (u.2.2 27), (u.2.2 28), rfl, ⟨p0, Or.inl ⟨fun q => by omega, rfl⟩⟩⟩)⟩, by show va_P D.1 j_cl (mW D o q (uV (uV (uI (uI (uL (uV (uI (uI (uI (uV (uI (uI u 10 (u.1 10)) 11 (u.1 11)) 12 (u.2.2 12)) 20 (u.1 20)) 21 (u.1 21)) 22 (u.1 22)) 23 (u.2.2 23)) 24 (u.2.1 24)) 25 (u.1 25)) 26 (u.1 26)) 27 (u.2.2 27)) 28 (u.2.2 28))) t.heap; rw [ht]; exact hP⟩, hS.F ht⟩) hS.2.2 dX12_flips_12 hlk

