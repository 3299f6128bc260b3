
theorem nxt_m {v : MS} {s : Int} {a : Nat} (ha : (a : Int) < mN v s) : nxt (fun b => mX v s b) (mN v s) a = mX v s ((a : Int) + 1) ∧ nxt (fun b => mY v s b) (mN v s) a = mY v s ((a : Int) + 1) := by
  unfold nxt
  by_cases e : (a : Int) + 1 < mN v s
  · rw [if_pos e, if_pos e]; exact ⟨rfl, rfl⟩
  · rw [if_neg e, if_neg e, show (a : Int) + 1 = mN v s by omega, mX_w.1, mX_w.2]; exact ⟨rfl, rfl⟩
theorem wcr_n {v : MS} {s x y : Int} {a : Nat} (ha : (a : Int) < mN v s) : cx (nxt (fun b => mX v s b) (mN v s) a - mX v s a) (nxt (fun b => mY v s b) (mN v s) a - mY v s a) (x - mX v s a) (y - mY v s a) = wcr v s a x y := by
  rw [(nxt_m ha).1, (nxt_m ha).2]; rfl
def inM (v : MS) (s x y : Int) : Prop := mN v s ≠ 0 ∧ mX v s 0 ≤ x ∧ (∃ a : Nat, (a : Int) < mN v s ∧ x ≤ mX v s a) ∧ ((∃ a : Nat, (a : Int) < mN v s ∧ mY v s a ≤ y) ∧ ∃ a : Nat, (a : Int) < mN v s ∧ y ≤ mY v s a) ∧ ∀ a : Nat, (a : Int) < mN v s → mX v s ((a : Int) + 1) - mX v s a ≠ 0 → 0 ≤ wcr v s a x y
theorem EQS_v {u : CS} {v : MS} (hC : CI u) (h : EQS u v) {s : Int} (hs : 0 ≤ s ∧ s ≤ 7) {x y : Int} : ∀ k : Int, 0 ≤ k → k < mN v s → cvv u s.toNat k x y = wcr v s k x y := fun k h0 h1 => by
  obtain ⟨_, e2⟩ := EQS_x hC h hs
  unfold cvv wcr
  rw [(EQS_d hC h hs k h0 h1).1, (EQS_d hC h hs k h0 h1).2, (e2 k h0 h1).1, (e2 k h0 h1).2]
theorem EQS_in {u : CS} {v : MS} (hC : CI u) (h : EQS u v) {s : Int} (hs : 0 ≤ s ∧ s ≤ 7) {x y : Int} : inC u s.toNat x y ↔ inM v s x y := by
  obtain ⟨e1, e2⟩ := EQS_x hC h hs
  have d := EQS_d hC h hs
  have kv := EQS_v hC h hs (x := x) (y := y)
  have n0 := CI_n hC hs
  unfold inC inM loC hiC
  rw [e1]
  constructor
  · rintro ⟨q1, q2, ⟨a, a1, a2, a3⟩, ⟨⟨b, b1, b2, b3⟩, q3⟩, ⟨c, c1, c2, c3⟩, q4⟩
    refine ⟨q1, by rw [← (e2 0 (by omega) (by omega)).1]; exact q2, ⟨a.toNat, by omega, ?_⟩, ⟨⟨b.toNat, by omega, ?_⟩, ⟨c.toNat, by omega, ?_⟩⟩, fun k hk hd => ?_⟩
    · rw [show ((a.toNat : Nat) : Int) = a by omega, ← (e2 a a1 a2).1]; exact a3
    · rw [show ((b.toNat : Nat) : Int) = b by omega, ← (e2 b b1 b2).2]; exact b3
    · rw [show ((c.toNat : Nat) : Int) = c by omega, ← (e2 c c1 c2).2]; exact c3
    · rw [← kv k (by omega) hk]
      rw [← (d k (by omega) hk).1] at hd
      by_cases w : 0 < dX u s.toNat k
      · exact q3 k (by omega) hk w
      · exact q4 k (by omega) hk (by omega)
  · rintro ⟨q1, q2, ⟨a, a1, a2⟩, ⟨⟨b, b1, b2⟩, ⟨c, c1, c2⟩⟩, q3⟩
    have q4 : ∀ k : Int, 0 ≤ k → k < mN v s → dX u s.toNat k ≠ 0 → 0 ≤ cvv u s.toNat k x y := fun k h0 h1 hd => by
      rw [kv k h0 h1]
      have w := q3 k.toNat (by omega)
      rw [show ((k.toNat : Nat) : Int) = k by omega, ← (d k h0 h1).1] at w
      exact w hd
    refine ⟨q1, by rw [(e2 0 (by omega) (by omega)).1]; exact q2, ⟨a, by omega, a1, by rw [(e2 a (by omega) a1).1]; exact a2⟩, ⟨⟨b, by omega, b1, by rw [(e2 b (by omega) b1).2]; exact b2⟩, fun k h0 h1 hd => q4 k h0 h1 (by omega)⟩, ⟨c, by omega, c1, by rw [(e2 c (by omega) c1).2]; exact c2⟩, fun k h0 h1 hd => q4 k h0 h1 (by omega)⟩
theorem wOn_in {v : MS} {s x y : Int} (h : HS (SP v s) (mN v s) (fun a => mX v s a) (fun a => mY v s a)) (hn : 2 ≤ mN v s) (w : wOn v s x y (mN v s)) : inM v s x y := by
  obtain ⟨i, i0, i1, g0, b1, b2⟩ := w
  have hc := HS_S h
  obtain ⟨a, ea⟩ : ∃ a : Nat, (a : Int) = i := ⟨i.toNat, by omega⟩
  subst ea
  have nm := nxt_m i1
  have hj := nj_l (n := mN v s) (a := a) (by omega)
  have nx : mX v s ((a : Int) + 1) = mX v s (nj (mN v s) a) ∧ mY v s ((a : Int) + 1) = mY v s (nj (mN v s) a) := ⟨by rw [← nm.1, nj_n], by rw [← nm.2, nj_n]⟩
  rw [nx.1] at b1
  rw [nx.2] at b2
  unfold wcr at g0
  rw [nx.1, nx.2] at g0
  have g1 : cx (mX v s (nj (mN v s) a) - mX v s a) (mY v s (nj (mN v s) a) - mY v s a) (x - mX v s a) (y - mY v s a) = 0 := g0
  have s1 := sgn_b b1
  have s2 := sgn_b b2
  rcases h with ⟨h, _⟩ | ⟨p1, p2, p3, ⟨p4, p5⟩ | ⟨p4, p5, p6⟩⟩
  · omega
  · omega
  · have ka := p3 _ _ (hc a i1)
    have kb := p3 _ _ (hc _ hj)
    refine ⟨by omega, ?_, ?_, ⟨?_, ?_⟩, fun k hk _ => ?_⟩
    · have l1 : mX v s 0 ≤ mX v s a := by have t := ka; unfold lxn at t; have e : (fun b : Nat => mX v s b) 0 = mX v s 0 := rfl; rw [e] at t; omega
      have l2 : mX v s 0 ≤ mX v s (nj (mN v s) a) := by have t := kb; unfold lxn at t; have e : (fun b : Nat => mX v s b) 0 = mX v s 0 := rfl; rw [e] at t; omega
      omega
    · rcases s1 with q | q
      · exact ⟨_, hj, q.2⟩
      · exact ⟨a, i1, q.2⟩
    · rcases s2 with q | q
      · exact ⟨a, i1, q.1⟩
      · exact ⟨_, hj, q.1⟩
    · rcases s2 with q | q
      · exact ⟨_, hj, q.2⟩
      · exact ⟨a, i1, q.2⟩
    · have E := p6 k hk
      have qa := (E.2 _ _ (hc a i1)).1
      have qb := (E.2 _ _ (hc _ hj)).1
      rw [← wcr_n hk]
      generalize nxt (fun b => mX v s b) (mN v s) k - mX v s k = dx at qa qb ⊢
      generalize nxt (fun b => mY v s b) (mN v s) k - mY v s k = dy at qa qb ⊢
      have f : ∀ p q : Int, cx dx dy (p - mX v s k) (q - mY v s k) = (dy * mX v s k + -dx * mY v s k) - (dy * p + -dx * q) := fun p q => by unfold cx; grind
      rw [f] at qa qb ⊢
      have m := seg_max (α := dy) (β := -dx) (M := dy * mX v s k + -dx * mY v s k) g1 b1 b2 (by omega) (by omega)
      omega
/-- both sides tell alike where a point lies -/
theorem EQ_st {u : CS} {v : MS} (hC : CI u) (h : EQS u v) {s : Int} (hs : 0 ≤ s ∧ s ≤ 7) {x y z z' : Int} (hc : stC u s.toNat x y z) (hm : wR v s x y z') : z = z' := by
  obtain ⟨e1, e2⟩ := EQS_x hC h hs
  have kv := EQS_v hC h hs (x := x) (y := y)
  have n0 := CI_n hC hs
  have hH := (h s.toNat (by omega)).2.2
  rw [show ((s.toNat : Nat) : Int) = s by omega] at hH
  unfold stC at hc
  rw [EQS_in hC h hs, e1] at hc
  have hc2 : (z = 0 ∧ ¬ inM v s x y) ∨ (z = 1 ∧ inM v s x y ∧ ∃ i : Int, 0 ≤ i ∧ i < mN v s ∧ wcr v s i x y = 0) ∨ (z = 2 ∧ inM v s x y ∧ ∀ i : Int, 0 ≤ i → i < mN v s → wcr v s i x y ≠ 0) := by
    rcases hc with q | ⟨q1, q2, i, i0, i1, q3⟩ | ⟨q1, q2, q3⟩
    · exact Or.inl q
    · exact Or.inr (Or.inl ⟨q1, q2, i, i0, i1, by rw [← kv i i0 i1]; exact q3⟩)
    · exact Or.inr (Or.inr ⟨q1, q2, fun i i0 i1 => by rw [← kv i i0 i1]; exact q3 i i0 i1⟩)
  by_cases c0 : mN v s = 0
  · have : ¬ inM v s x y := fun q => q.1 c0
    rcases hc2 with q | q | q
    · unfold wR at hm; omega
    · exact absurd q.2.1 this
    · exact absurd q.2.1 this
  by_cases c1 : mN v s = 1
  · have m1 : mX v s 1 = mX v s 0 ∧ mY v s 1 = mY v s 0 := by
      have := @mX_w v s
      rw [c1] at this
      exact this
    have w0 : wcr v s 0 x y = 0 := by
      unfold wcr
      rw [show (0 : Int) + 1 = 1 from rfl, m1.1, m1.2, Int.sub_self, Int.sub_self, Int.zero_mul, Int.zero_mul]; rfl
    have hin : inM v s x y ↔ mX v s 0 = x ∧ mY v s 0 = y := by
      constructor
      · rintro ⟨_, q2, ⟨a, a1, a2⟩, ⟨⟨b, b1, b2⟩, ⟨c, c3, c4⟩⟩, _⟩
        rw [show ((a : Nat) : Int) = 0 by omega] at a2
        rw [show ((b : Nat) : Int) = 0 by omega] at b2
        rw [show ((c : Nat) : Int) = 0 by omega] at c4
        omega
      · rintro ⟨q1, q2⟩
        refine ⟨c0, by omega, ⟨0, by omega, ?_⟩, ⟨⟨0, by omega, ?_⟩, ⟨0, by omega, ?_⟩⟩, fun k hk hd => ?_⟩
        · show x ≤ mX v s 0; omega
        · show mY v s 0 ≤ y; omega
        · show y ≤ mY v s 0; omega
        · rw [show ((k : Nat) : Int) = 0 by omega, w0]; omega
    rw [hin] at hc2
    rcases hm with ⟨_, q⟩ | ⟨q, _⟩
    · rcases hc2 with w | w | ⟨_, _, w⟩
      · rcases q with q | q
        · exact absurd q.2.2 w.2
        · omega
      · rcases q with q | q
        · omega
        · exact absurd ⟨c1, w.2.1⟩ q.2
      · exact absurd w0 (w 0 (by omega) (by omega))
    · omega
  have hm2 : (z' = 1 ∧ wOn v s x y (mN v s)) ∨ (z' = 2 ∧ ¬ wOn v s x y (mN v s) ∧ wIn v s x y (mN v s) ∧ 2 < mN v s) ∨ (z' = 0 ∧ ¬ wOn v s x y (mN v s) ∧ ¬ (wIn v s x y (mN v s) ∧ 2 < mN v s)) := by
    rcases hm with ⟨q, _⟩ | ⟨_, q⟩
    · omega
    · exact q
  have on_in := wOn_in (x := x) (y := y) hH (by omega)
  have in_all : inM v s x y → wIn v s x y (mN v s) := fun q i i0 i1 => by
    have w := w1 (x := x) (y := y) hH (by omega) q.2.1 q.2.2.1 (fun a ha hd => by
      rw [wcr_n ha]
      rw [(nxt_m ha).1] at hd
      exact q.2.2.2.2 a ha hd) i.toNat (by omega)
    rw [wcr_n (by omega), show ((i.toNat : Nat) : Int) = i by omega] at w
    exact w
  by_cases c2 : mN v s = 2
  · have m2 : mX v s 2 = mX v s 0 ∧ mY v s 2 = mY v s 0 := by
      have := @mX_w v s
      rw [c2] at this
      exact this
    have opp : wcr v s 1 x y = - wcr v s 0 x y := by
      unfold wcr
      rw [show (1 : Int) + 1 = 2 from rfl, show (0 : Int) + 1 = 1 from rfl, m2.1, m2.2]
      grind
    have in_on : inM v s x y → wcr v s 0 x y = 0 ∧ wOn v s x y (mN v s) := fun q => by
      have a0 := in_all q 0 (by omega) (by omega)
      have a1 := in_all q 1 (by omega) (by omega)
      have z0 : wcr v s 0 x y = 0 := by omega
      refine ⟨z0, 0, by omega, by omega, z0, ?_⟩
      obtain ⟨_, q2, ⟨a, a1, a2⟩, ⟨⟨b, b1, b2⟩, ⟨c, c3, c4⟩⟩, _⟩ := q
      unfold wBt
      rw [show (0 : Int) + 1 = 1 from rfl]
      have l0 : mX v s 0 ≤ mX v s 1 := by
        rcases hH with ⟨hH, _⟩ | ⟨p1, p2, p3, _⟩
        · omega
        · have := p3 (mX v s 1) (mY v s 1) ⟨1, by omega, rfl, rfl⟩
          unfold lxn at this
          have e : (fun a : Nat => mX v s a) 0 = mX v s 0 := rfl
          rw [e] at this
          omega
      have va : mX v s a = mX v s 0 ∨ mX v s a = mX v s 1 := by
        rcases (show a = 0 ∨ a = 1 by omega) with e | e
        · exact Or.inl (by rw [e]; rfl)
        · exact Or.inr (by rw [e]; rfl)
      have vb : mY v s b = mY v s 0 ∨ mY v s b = mY v s 1 := by
        rcases (show b = 0 ∨ b = 1 by omega) with e | e
        · exact Or.inl (by rw [e]; rfl)
        · exact Or.inr (by rw [e]; rfl)
      have vc : mY v s c = mY v s 0 ∨ mY v s c = mY v s 1 := by
        rcases (show c = 0 ∨ c = 1 by omega) with e | e
        · exact Or.inl (by rw [e]; rfl)
        · exact Or.inr (by rw [e]; rfl)
      exact ⟨b_sgn (by omega), b_sgn (by omega)⟩
    rcases hc2 with w | w | ⟨_, w1, w2⟩
    · rcases hm2 with q | q | q
      · exact absurd (on_in q.2) w.2
      · omega
      · omega
    · have := (in_on w.2.1).2
      rcases hm2 with q | q | q
      · omega
      · exact absurd this q.2.1
      · exact absurd this q.2.1
    · exact absurd (in_on w1).1 (w2 0 (by omega) (by omega))
  · have hg : wIn v s x y (mN v s) → ∀ a : Nat, (a : Int) < mN v s → 0 ≤ cx (nxt (fun b => mX v s b) (mN v s) a - mX v s a) (nxt (fun b => mY v s b) (mN v s) a - mY v s a) (x - mX v s a) (y - mY v s a) := fun q a ha => by
      rw [wcr_n ha]; exact q a (by omega) ha
    have all_in : wIn v s x y (mN v s) → inM v s x y := fun q => by
      obtain ⟨k1, k2, k3, k4⟩ := w5 (x := x) (y := y) hH (by omega) (hg q)
      exact ⟨c0, k1, k2, ⟨k3, k4⟩, fun a ha _ => q a (by omega) ha⟩
    have z_on : inM v s x y → ∀ i : Int, 0 ≤ i → i < mN v s → wcr v s i x y = 0 → wOn v s x y (mN v s) := fun q i i0 i1 w => by
      have k := (w4 (x := x) (y := y) hH (by omega) (hg (in_all q)) (a := i.toNat) (by omega) (by rw [wcr_n (by omega), show ((i.toNat : Nat) : Int) = i by omega]; exact w)).1
      rw [(nxt_m (show ((i.toNat : Nat) : Int) < mN v s by omega)).1, (nxt_m (show ((i.toNat : Nat) : Int) < mN v s by omega)).2, show ((i.toNat : Nat) : Int) = i by omega] at k
      exact ⟨i, i0, i1, w, k⟩
    rcases hc2 with ⟨w1, w2⟩ | ⟨w1, w2, i, i0, i1, w3⟩ | ⟨w1, w2, w3⟩
    · rcases hm2 with q | q | q
      · exact absurd (on_in q.2) w2
      · exact absurd (all_in q.2.2.1) w2
      · omega
    · have := z_on w2 i i0 i1 w3
      rcases hm2 with q | q | q
      · omega
      · exact absurd this q.2.1
      · exact absurd this q.2.1
    · rcases hm2 with ⟨_, i, i0, i1, q, _⟩ | q | q
      · exact absurd q (w3 i i0 i1)
      · omega
      · exact absurd ⟨in_all w2, by omega⟩ q.2.2
