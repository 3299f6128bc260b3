
/-! ===== pieces, piece: the class' answers ===== -/
def lfC (u : CS) (s : Int) : Prop := 3 ≤ u.1.2.2.1 s.toNat ∧ rE u s.toNat + rI u s.toNat ≤ 40
def psR (u : CS) (w z : Int) : Prop := (w = 0 ∧ z = u.2.2.2 25) ∨ (w = 1 ∧ z = ((pc9 (nx9 (or9 (u.2.2.1 6) (u.2.2.2 25).toNat)) : Nat) : Int)) ∨ (w = 2 ∧ ∀ F : Nat → Nat → Bool, (∀ q : Nat, (q : Int) < u.2.2.2 25 → u.2.2.1 6 q = PR9 (F q) (u.1.2.2.1 10).toNat) → cu9 (u.1.1 10) (u.1.2.1 10) (u.1.2.2.1 10).toNat F (u.2.2.2 25).toNat z)
def pcR (u : CS) (p i z : Int) : Prop := (u.2.2.2 25 ≤ p ∧ z = -1) ∨ (p < u.2.2.2 25 ∧ ((i = -1 ∧ z = ((pc9 (nx9 (u.2.2.1 6 p.toNat)) : Nat) : Int)) ∨ (0 ≤ i ∧ ((pc9 (nx9 (u.2.2.1 6 p.toNat)) : Nat) : Int) ≤ i ∧ z = -1) ∨ (0 ≤ i ∧ MB9 (u.2.2.1 6 p.toNat) (u.1.2.2.1 10) i z)))
def psC (u u' : CS) (s w z : Int) : Prop := (¬ ((0 ≤ s ∧ s ≤ 7) ∧ 0 ≤ w ∧ w ≤ 2) ∧ z = -1 ∧ kCo u u') ∨ (((0 ≤ s ∧ s ≤ 7) ∧ 0 ≤ w ∧ w ≤ 2) ∧ ((¬ lfC u s ∧ z = -2 ∧ kCo u u') ∨ (lfC u s ∧ bR9 u u' s.toNat ∧ (-1 ≤ z ∧ z ≤ 80) ∧ psR u' w z)))
def pcC (u u' : CS) (s p i z : Int) : Prop := (¬ ((0 ≤ s ∧ s ≤ 7) ∧ 0 ≤ p ∧ -1 ≤ i) ∧ z = -1 ∧ kCo u u') ∨ (((0 ≤ s ∧ s ≤ 7) ∧ 0 ≤ p ∧ -1 ≤ i) ∧ ((¬ lfC u s ∧ z = -2 ∧ kCo u u') ∨ (lfC u s ∧ bR9 u u' s.toNat ∧ (-1 ≤ z ∧ z ≤ 80) ∧ pcR u' p i z)))
theorem FI_ps {u u' : CS} {k k' s w z : Int} (h : FI u k) (hk : k ≤ k') (hc : cSame u u') (hh : hSam u u') (hs : sSam u u') (hp : psC u u' s w z) : FI u' k' := by
  rcases hp with ⟨_, _, ko⟩ | ⟨a, ⟨_, _, ko⟩ | ⟨l, b, _⟩⟩
  · exact FI_s h hk hc hh hs ko
  · exact FI_s h hk hc hh hs ko
  · exact FI_b (by omega) h hk hc hh hs b
theorem FI_pc {u u' : CS} {k k' s p i z : Int} (h : FI u k) (hk : k ≤ k') (hc : cSame u u') (hh : hSam u u') (hs : sSam u u') (hp : pcC u u' s p i z) : FI u' k' := by
  rcases hp with ⟨_, _, ko⟩ | ⟨a, ⟨_, _, ko⟩ | ⟨l, b, _⟩⟩
  · exact FI_s h hk hc hh hs ko
  · exact FI_s h hk hc hh hs ko
  · exact FI_b (by omega) h hk hc hh hs b
/-- both hold the same pieces -/
theorem EQ_LS {u u' : CS} {v : MS} {k s n m : Int} {X Y : Nat → Int} {F : Nat → Nat → Bool} (hC : CI u) (h : EQS u v) (hh : EQH u v) (hf : FI u k) (hs : 0 ≤ s ∧ s ≤ 7) (hl : lfC u s) (hb : bR9 u u' s.toNat) (hm : LS9 (PBx v s) (h9 (v.1 3) s) n X Y m F) : (n ≤ 40 ∧ n = u'.1.2.2.1 10 ∧ m = u'.2.2.2 25 ∧ 0 ≤ m) ∧ (∀ q : Nat, (q : Int) < m → u'.2.2.1 6 q = PR9 (F q) n.toNat) ∧ ∀ a : Nat, (a : Int) < n → X a = u'.1.1 10 a ∧ Y a = u'.1.2.1 10 a := by
  have hP := EQS_pb hC h hs
  have hF : FT9 u s.toNat 40 := ⟨n, X, Y, OL_c hm.2.1 hP, hm.1.2⟩
  have L := bR_LC (by omega) hl.1 hf hb hF
  obtain ⟨F', F1, F2⟩ := LC_LS L
  obtain ⟨e1, e2, e3, e4⟩ := LS_u hP (fun a ha => by
    have q := hh s.toNat (by omega) a ha
    show v.1 3 (40 * s + (a : Int)).toNat = u.1.2.2.2.1 s.toNat a
    rw [q, show (40 * s + (a : Int)).toNat = 40 * s.toNat + a by omega]) hm F1
  have m0 := hm.2.2.1
  have n0 := hm.1
  refine ⟨⟨by omega, e1, e2, m0⟩, fun q hq => ?_, e3⟩
  rw [F2 q (by omega), ← e1]
  exact PR_c (fun p hp => (e4 q hq p (by omega)).symm)
theorem lf_e {u : CS} {v : MS} {s : Int} (hC : CI u) (h : EQS u v) (hs : 0 ≤ s ∧ s ≤ 7) : lfC u s ↔ lfM v s := by
  have e1 := (EQS_x hC h hs).1
  obtain ⟨_, e2, e3⟩ := EQS_a hC h hs
  unfold lfC lfM
  rw [e1, e2, e3]
  omega
theorem EQ_ps {u u' : CS} {v : MS} {k s w z z' : Int} (hC : CI u) (h : EQS u v) (hh : EQH u v) (hf : FI u k) (hc : psC u u' s w z) (hm : psM v s w z') : z = z' ∧ wRg z := by
  rcases hc with ⟨a1, a2, _⟩ | ⟨a1, a2⟩ <;> rcases hm with ⟨b1, b2⟩ | ⟨b1, b2⟩
  · exact ⟨by omega, by unfold wRg; omega⟩
  · exact absurd b1 a1
  · exact absurd a1 b1
  · have le := lf_e hC h a1.1
    rcases a2 with ⟨c1, c2, _⟩ | ⟨c1, c2, c3, c4⟩ <;> rcases b2 with ⟨d1, d2⟩ | ⟨d1, n, X, Y, m, F, d2, d3⟩
    · exact ⟨by omega, by unfold wRg; omega⟩
    · exact absurd (le.mpr d1) c1
    · exact absurd (le.mp c1) d1
    · obtain ⟨⟨n40, e1, e2, m0⟩, e3, e4⟩ := EQ_LS hC h hh hf a1.1 c1 c2 d2
      refine ⟨?_, by unfold wRg; omega⟩
      unfold psR at c4
      rw [← e1, ← e2] at c4
      rcases c4 with ⟨f1, f2⟩ | ⟨f1, f2⟩ | ⟨f1, f2⟩ <;> rcases d3 with ⟨g1, g2⟩ | ⟨g1, g2⟩ | ⟨g1, g2⟩
      · omega
      · omega
      · omega
      · omega
      · rw [or9_F (F := F) (n := n.toNat) (by omega) m.toNat (fun q hq => e3 q (by omega)), pc_PR n.toNat (by omega)] at f2
        omega
      · omega
      · omega
      · omega
      · have q := f2 F e3
        exact cu9_u (fun a ha => ⟨(e4 a (by omega)).1.symm, (e4 a (by omega)).2.symm⟩) (fun _ _ _ _ => rfl) q g2
theorem EQ_pc {u u' : CS} {v : MS} {k s p i z z' : Int} (hC : CI u) (h : EQS u v) (hh : EQH u v) (hf : FI u k) (hc : pcC u u' s p i z) (hm : pcM v s p i z') : z = z' ∧ wRg z := by
  rcases hc with ⟨a1, a2, _⟩ | ⟨a1, a2⟩ <;> rcases hm with ⟨b1, b2⟩ | ⟨b1, b2⟩
  · exact ⟨by omega, by unfold wRg; omega⟩
  · exact absurd b1 a1
  · exact absurd a1 b1
  · have le := lf_e hC h a1.1
    rcases a2 with ⟨c1, c2, _⟩ | ⟨c1, c2, c3, c4⟩ <;> rcases b2 with ⟨d1, d2⟩ | ⟨d1, n, X, Y, m, F, d2, d3⟩
    · exact ⟨by omega, by unfold wRg; omega⟩
    · exact absurd (le.mpr d1) c1
    · exact absurd (le.mp c1) d1
    · obtain ⟨⟨n40, e1, e2, m0⟩, e3, e4⟩ := EQ_LS hC h hh hf a1.1 c1 c2 d2
      refine ⟨?_, by unfold wRg; omega⟩
      unfold pcR at c4
      rw [← e1, ← e2] at c4
      rcases c4 with ⟨f1, f2⟩ | ⟨f1, f2⟩ <;> rcases d3 with ⟨g1, g2⟩ | ⟨g1, g2⟩
      · omega
      · omega
      · omega
      · have ep := e3 p.toNat (by omega)
        have cp := pc_PR (f := F p.toNat) n.toNat (by omega)
        rw [← ep] at cp
        rcases f2 with ⟨k1, k2⟩ | ⟨k1, k2, k3⟩ | ⟨k1, k2⟩ <;> rcases g2 with ⟨l1, l2⟩ | ⟨l1, l2⟩
        · omega
        · omega
        · omega
        · rw [mem9_no n.toNat (show ct9 (F p.toNat) n.toNat ≤ i by omega)] at l2; omega
        · omega
        · rw [at_PR (by omega) ep k2]; exact l2.symm
