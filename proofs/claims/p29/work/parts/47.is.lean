
/-- the area of a closed way -/
def hAr (n : Int) (X Y : Nat → Int) : Int := smI (fun i => X i.toNat * nxt Y n i.toNat - nxt X n i.toNat * Y i.toNat) n
theorem rA_h {K : Int} {u : CS} {r : Nat} (h : RB K u r) : rA u r = hAr (u.1.2.2.1 r) (u.1.1 r) (u.1.2.1 r) := by
  unfold rA hAr
  refine smI_c (fun i h0 h1 => ?_)
  have k1 := rx_n h (a := i.toNat) (by omega)
  have k2 := rx_ar h (a := i.toNat) (by omega)
  rw [show ((i.toNat : Nat) : Int) = i by omega] at k1 k2
  unfold dX dY
  rw [k1.1, k1.2, k2.1, k2.2, Int.mul_sub, Int.mul_sub, Int.mul_comm (u.1.2.1 r i.toNat) (nxt (u.1.1 r) (u.1.2.2.1 r) i.toNat), Int.mul_comm (u.1.2.1 r i.toNat) (u.1.1 r i.toNat)]
  omega
theorem rA_s {u u' : CS} {r : Nat} (e : u'.1.2.2.1 r = u.1.2.2.1 r ∧ u'.1.1 r = u.1.1 r ∧ u'.1.2.1 r = u.1.2.1 r) : rA u' r = rA u r := by
  obtain ⟨e1, e2, e3⟩ := e
  unfold rA dX dY ar rx ry9
  rw [e1, e2, e3]
theorem hAr_c {n n' : Int} {X Y X' Y' : Nat → Int} (en : n = n') (e : ∀ a : Nat, (a : Int) < n → X a = X' a ∧ Y a = Y' a) : hAr n X Y = hAr n' X' Y' := by
  subst en
  unfold hAr
  refine smI_c (fun i h0 h1 => ?_)
  have k := e i.toNat (by omega)
  have k2 : nxt X n i.toNat = nxt X' n i.toNat ∧ nxt Y n i.toNat = nxt Y' n i.toNat := by
    unfold nxt
    by_cases w : ((i.toNat : Nat) : Int) + 1 < n
    · rw [if_pos w, if_pos w, if_pos w, if_pos w]; exact e _ (by omega)
    · rw [if_neg w, if_neg w, if_neg w, if_neg w]; exact e 0 (by omega)
  rw [k.1, k.2, k2.1, k2.2]
theorem nxt_tm {X : Nat → Int} {n i : Int} (h : 0 ≤ i ∧ i < n) : X ((i + 1).tmod n).toNat = nxt X n i.toNat := by
  unfold nxt
  by_cases w : i + 1 < n
  · rw [if_pos (by omega), Int.tmod_eq_of_lt (by omega) w]; exact congrArg X (by omega)
  · rw [if_neg (by omega), show i + 1 = n by omega, Int.tmod_self]; rfl
def mxC (u : CS) (s s2 z : Int) : Prop := (¬ ((0 ≤ s ∧ s ≤ 7) ∧ 0 ≤ s2 ∧ s2 ≤ 7) ∧ z = -1) ∨ (((0 ≤ s ∧ s ≤ 7) ∧ 0 ≤ s2 ∧ s2 ≤ 7) ∧ (((u.1.2.2.1 s.toNat = 0 ∨ u.1.2.2.1 s2.toNat = 0) ∧ z = 0) ∨ (¬ (u.1.2.2.1 s.toNat = 0 ∨ u.1.2.2.1 s2.toNat = 0) ∧ ∃ (n : Int) (X Y : Nat → Int), HS (SM (RP u s.toNat) (RP u s2.toNat)) n X Y ∧ z = hAr n X Y - rA u s.toNat - rA u s2.toNat)))
def mxM (u : MS) (s s2 z : Int) : Prop := (¬ ((0 ≤ s ∧ s ≤ 7) ∧ 0 ≤ s2 ∧ s2 ≤ 7) ∧ z = -1) ∨ (((0 ≤ s ∧ s ≤ 7) ∧ 0 ≤ s2 ∧ s2 ≤ 7) ∧ (((mN u s = 0 ∨ mN u s2 = 0) ∧ z = 0) ∨ (¬ (mN u s = 0 ∨ mN u s2 = 0) ∧ ∃ (n : Int) (X Y : Nat → Int), HS (SM (SP u s) (SP u s2)) n X Y ∧ z = hAr n X Y - mAr u s - mAr u s2)))
theorem EQ_mx {u : CS} {v : MS} {s s2 z z' : Int} (hC : CI u) (h : EQS u v) (hc : mxC u s s2 z ∧ wRg z) (hm : mxM v s s2 z') : z = z' ∧ wRg z := by
  refine ⟨?_, hc.2⟩
  rcases hc.1 with ⟨a1, a2⟩ | ⟨a1, a2⟩ <;> rcases hm with ⟨b1, b2⟩ | ⟨b1, b2⟩
  · omega
  · exact absurd b1 a1
  · exact absurd a1 b1
  · have k1 := (EQS_x hC h a1.1).1
    have k2 := (EQS_x hC h a1.2).1
    have k3 := (EQS_a hC h a1.1).1
    have k4 := (EQS_a hC h a1.2).1
    rcases a2 with ⟨c1, c2⟩ | ⟨c1, n, X, Y, c2, c3⟩ <;> rcases b2 with ⟨d1, d2⟩ | ⟨d1, n', X', Y', d2, d3⟩
    · omega
    · omega
    · omega
    · have H2 := HS_c (S' := SM (SP v s) (SP v s2)) c2 (fun p q => by
        unfold SM
        constructor
        · rintro ⟨a, b, c, d, q1, q2, q3⟩
          exact ⟨a, b, c, d, (EQS_Ps h a1.1 _ _).mp q1, (EQS_Ps h a1.2 _ _).mp q2, q3⟩
        · rintro ⟨a, b, c, d, q1, q2, q3⟩
          exact ⟨a, b, c, d, (EQS_Ps h a1.1 _ _).mpr q1, (EQS_Ps h a1.2 _ _).mpr q2, q3⟩) (fun _ _ => ⟨rfl, rfl⟩)
      obtain ⟨en, e⟩ := HS_u H2 d2
      rw [c3, d3, k3, k4, hAr_c en e]
