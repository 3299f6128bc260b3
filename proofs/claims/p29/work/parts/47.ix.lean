
/-! heights -/
def hSam (u u' : CS) : Prop := ∀ r : Nat, r < 8 → u'.1.2.2.2.1 r = u.1.2.2.2.1 r
theorem hs_refl {u : CS} : hSam u u := fun _ _ => rfl
/-- the shape t is made anew if the answer is not below 0: then its heights are 0 -/
def cHr (u u' : CS) (t : Nat) (z : Int) : Prop := (z < 0 → hSam u u') ∧ (0 ≤ z → (∀ a : Nat, a < 40 → u'.1.2.2.2.1 t a = 0) ∧ ∀ r : Nat, r < 8 → r ≠ t → u'.1.2.2.2.1 r = u.1.2.2.2.1 r)
theorem cHr_k {u u' : CS} {i : Nat} {z : Int} {hh : Nat → Int} (e : ∀ r : Nat, u'.1.2.2.2.1 r = if r = i then hh else u.1.2.2.2.1 r) (h : (z = -3 ∧ hh = u.1.2.2.2.1 i) ∨ (0 ≤ z ∧ ∀ a : Nat, a < 40 → hh a = 0)) : cHr u u' i z := by
  refine ⟨fun q r hr => ?_, fun q => ⟨fun a ha => ?_, fun r hr hne => ?_⟩⟩
  · rcases h with ⟨_, h⟩ | ⟨h, _⟩
    · rw [e, h]
      by_cases w : r = i
      · rw [if_pos w, w]
      · rw [if_neg w]
    · omega
  · rcases h with ⟨h, _⟩ | ⟨_, h⟩
    · omega
    · rw [e, if_pos rfl]; exact h a ha
  · rw [e, if_neg hne]
theorem cHr_n {u u' : CS} {i : Nat} {z : Int} (h : hSam u u') (hz : z < 0) : cHr u u' i z := ⟨fun _ => h, fun q => by omega⟩
def mHr (v v' : MS) (t z : Int) : Prop := (z < 0 → v'.1 3 = v.1 3) ∧ (0 ≤ z → hz_ (v.1 3) (v'.1 3) t 40)
theorem mHr_n {v v' : MS} {t z : Int} (h : v'.1 3 = v.1 3) (hz : z < 0) : mHr v v' t z := ⟨fun _ => h, fun q => by omega⟩
theorem mHr_k {v v' : MS} {t z nh : Int} {P Q A B C D E : Prop} {f3 : Nat → Int} (e : v'.1 3 = f3) (hn : 0 ≤ nh) (h : (z = -3 ∧ P ∧ A ∧ B ∧ C ∧ f3 = v.1 3) ∨ (z = nh ∧ Q ∧ D ∧ E ∧ hz_ (v.1 3) f3 t 40)) : mHr v v' t z := by
  refine ⟨fun q => ?_, fun q => ?_⟩
  · rcases h with ⟨_, _, _, _, _, h⟩ | ⟨h, _⟩
    · rw [e]; exact h
    · omega
  · rcases h with ⟨h, _⟩ | ⟨_, _, _, _, h⟩
    · omega
    · rw [e]; exact h
/-- both sides hold the same heights -/
def EQH (u : CS) (v : MS) : Prop := ∀ r : Nat, r < 8 → ∀ a : Nat, a < 40 → u.1.2.2.2.1 r a = v.1 3 (40 * r + a)
theorem EQH_s {u u' : CS} {v v' : MS} (h : EQH u v) (hc : hSam u u') (hm : v'.1 3 = v.1 3) : EQH u' v' := fun r hr a ha => by
  rw [hc r hr, hm]; exact h r hr a ha
theorem EQH_r {u u' : CS} {v v' : MS} {t z z' : Int} (h : EQH u v) (ht : 0 ≤ z → 0 ≤ t ∧ t ≤ 7) (hc : cHr u u' t.toNat z) (hm : mHr v v' t z') (hz : z = z') : EQH u' v' := by
  subst hz
  by_cases g : z < 0
  · exact EQH_s h (hc.1 g) (hm.1 g)
  · have g2 : 0 ≤ z := by omega
    have ht := ht g2
    obtain ⟨c1, c2⟩ := hc.2 g2
    have m := hm.2 g2
    intro r hr a ha
    by_cases e : r = t.toNat
    · subst e
      rw [c1 a ha, (m (40 * t.toNat + a)).1 (by omega)]
    · rw [c2 r hr e, (m (40 * r + a)).2 (by omega)]
      exact h r hr a ha
def htP (n k s i v : Int) : Prop := ((0 ≤ s ∧ s ≤ 7) ∧ -1000 ≤ v ∧ v ≤ 1000) ∧ (3 ≤ n ∧ k ≤ 40) ∧ 0 ≤ i ∧ i < k
def htC (u u' : CS) (s i v z : Int) : Prop := (¬ htP (u.1.2.2.1 s.toNat) (rE u s.toNat + rI u s.toNat) s i v ∧ z = -1000000 ∧ hSam u u') ∨ (htP (u.1.2.2.1 s.toNat) (rE u s.toNat + rI u s.toNat) s i v ∧ z = u.1.2.2.2.1 s.toNat i.toNat ∧ ∀ r : Nat, r < 8 → u'.1.2.2.2.1 r = if r = s.toNat then upI (u.1.2.2.2.1 s.toNat) i.toNat v else u.1.2.2.2.1 r)
def htM (v v' : MS) (s i x z : Int) : Prop := (¬ htP (mN v s) (mEd v s + mIn v s) s i x ∧ z = -1000000 ∧ v'.1 3 = v.1 3) ∨ (htP (mN v s) (mEd v s + mIn v s) s i x ∧ z = v.1 3 (40 * s + i).toNat ∧ v'.1 3 = upI (v.1 3) (40 * s + i).toNat x)
theorem EQ_ht {u u' : CS} {v v' : MS} {s i x z z' : Int} (hC : CI u) (h : EQS u v) (hh : EQH u v) (hc : htC u u' s i x z) (hm : htM v v' s i x z') : (z = z' ∧ wRg z) ∧ EQH u' v' := by
  by_cases hs : 0 ≤ s ∧ s ≤ 7
  · have e1 := (EQS_x hC h hs).1
    obtain ⟨_, e2, e3⟩ := EQS_a hC h hs
    unfold htC at hc
    rw [e1, e2, e3] at hc
    rcases hc with ⟨a1, a2, a3⟩ | ⟨a1, a2, a3⟩ <;> rcases hm with ⟨b1, b2, b3⟩ | ⟨b1, b2, b3⟩
    · exact ⟨⟨by omega, by unfold wRg; omega⟩, EQH_s hh a3 b3⟩
    · exact absurd b1 a1
    · exact absurd a1 b1
    · have hi := a1.2.2
      have h40 := a1.2.1.2
      have k := hh s.toNat (by omega) i.toNat (by omega)
      rw [show 40 * s.toNat + i.toNat = (40 * s + i).toNat by omega] at k
      have hb := (hC.1 s.toNat (by omega)).2.1 i.toNat
      refine ⟨⟨by rw [a2, b2, k], by unfold wRg; omega⟩, fun r hr a ha => ?_⟩
      rw [a3 r hr, b3]
      by_cases e : r = s.toNat
      · subst e
        rw [if_pos rfl]
        by_cases w : a = i.toNat
        · subst w
          rw [show 40 * s.toNat + i.toNat = (40 * s + i).toNat by omega, upI_s, upI_s]
        · rw [upI_n w, upI_n (by omega)]
          exact hh _ hr a ha
      · rw [if_neg e, upI_n (by omega)]
        exact hh r hr a ha
  · rcases hc with ⟨a1, a2, a3⟩ | ⟨a1, _⟩
    · rcases hm with ⟨b1, b2, b3⟩ | ⟨b1, _⟩
      · exact ⟨⟨by omega, by unfold wRg; omega⟩, EQH_s hh a3 b3⟩
      · exact absurd b1.1.1 hs
    · exact absurd a1.1.1 hs
