theorem kw_410 : Cond.methodLink RL 13 yX11_clear ∈ lw_g := lw_gin 410 (by decide +kernel) (by decide +kernel)
theorem kw_1152 : Cond.methodLink RL 17 yX12_clear ∈ lw_g := lw_gin 1152 (by decide +kernel) (by decide +kernel)
theorem kw_471 : Cond.methodLink RL 18 yX11_add ∈ lw_g := lw_gin 471 (by decide +kernel) (by decide +kernel)
theorem kw_1169 : Cond.methodLink RL 22 yX12_add ∈ lw_g := lw_gin 1169 (by decide +kernel) (by decide +kernel)
theorem kw_504 : Cond.methodLink RL 23 yX11_corners ∈ lw_g := lw_gin 504 (by decide +kernel) (by decide +kernel)
theorem kw_1205 : Cond.methodLink RL 26 yX12_corners ∈ lw_g := lw_gin 1205 (by decide +kernel) (by decide +kernel)
theorem kw_508 : Cond.methodLink RL 27 yX11_corner ∈ lw_g := lw_gin 508 (by decide +kernel) (by decide +kernel)
theorem kw_1209 : Cond.methodLink RL 30 yX12_corner ∈ lw_g := lw_gin 1209 (by decide +kernel) (by decide +kernel)
theorem kw_513 : Cond.methodLink RL 31 yX11_points ∈ lw_g := lw_gin 513 (by decide +kernel) (by decide +kernel)
theorem kw_1214 : Cond.methodLink RL 35 yX12_points ∈ lw_g := lw_gin 1214 (by decide +kernel) (by decide +kernel)
theorem kw_558 : Cond.methodLink RL 36 yX11_times ∈ lw_g := lw_gin 558 (by decide +kernel) (by decide +kernel)
theorem kw_1244 : Cond.methodLink RL 40 yX12_times ∈ lw_g := lw_gin 1244 (by decide +kernel) (by decide +kernel)
theorem kw_577 : Cond.methodLink RL 41 yX11_where ∈ lw_g := lw_gin 577 (by decide +kernel) (by decide +kernel)
theorem kw_1251 : Cond.methodLink RL 44 yX12_where ∈ lw_g := lw_gin 1251 (by decide +kernel) (by decide +kernel)
theorem kw_614 : Cond.methodLink RL 45 yX11_point ∈ lw_g := lw_gin 614 (by decide +kernel) (by decide +kernel)
theorem kw_1262 : Cond.methodLink RL 48 yX12_point ∈ lw_g := lw_gin 1262 (by decide +kernel) (by decide +kernel)
theorem kw_623 : Cond.methodLink RL 49 yX11_width ∈ lw_g := lw_gin 623 (by decide +kernel) (by decide +kernel)
theorem kw_1270 : Cond.methodLink RL 52 yX12_width ∈ lw_g := lw_gin 1270 (by decide +kernel) (by decide +kernel)
theorem kw_635 : Cond.methodLink RL 53 yX11_least ∈ lw_g := lw_gin 635 (by decide +kernel) (by decide +kernel)
theorem kw_1281 : Cond.methodLink RL 56 yX12_least ∈ lw_g := lw_gin 1281 (by decide +kernel) (by decide +kernel)
theorem kw_652 : Cond.methodLink RL 57 yX11_map ∈ lw_g := lw_gin 652 (by decide +kernel) (by decide +kernel)
theorem kw_1285 : Cond.methodLink RL 61 yX12_map ∈ lw_g := lw_gin 1285 (by decide +kernel) (by decide +kernel)
theorem kw_656 : Cond.methodLink RL 62 yX11_maps ∈ lw_g := lw_gin 656 (by decide +kernel) (by decide +kernel)
theorem kw_1289 : Cond.methodLink RL 65 yX12_maps ∈ lw_g := lw_gin 1289 (by decide +kernel) (by decide +kernel)
theorem kw_667 : Cond.methodLink RL 66 yX11_alike ∈ lw_g := lw_gin 667 (by decide +kernel) (by decide +kernel)
theorem kw_1301 : Cond.methodLink RL 69 yX12_alike ∈ lw_g := lw_gin 1301 (by decide +kernel) (by decide +kernel)
theorem kw_674 : Cond.methodLink RL 70 yX11_heaps ∈ lw_g := lw_gin 674 (by decide +kernel) (by decide +kernel)
theorem kw_1309 : Cond.methodLink RL 74 yX12_heaps ∈ lw_g := lw_gin 1309 (by decide +kernel) (by decide +kernel)
theorem kw_682 : Cond.methodLink RL 75 yX11_sum ∈ lw_g := lw_gin 682 (by decide +kernel) (by decide +kernel)
theorem kw_1313 : Cond.methodLink RL 78 yX12_sum ∈ lw_g := lw_gin 1313 (by decide +kernel) (by decide +kernel)
theorem kw_692 : Cond.methodLink RL 79 yX11_mixed ∈ lw_g := lw_gin 692 (by decide +kernel) (by decide +kernel)
theorem kw_1321 : Cond.methodLink RL 82 yX12_mixed ∈ lw_g := lw_gin 1321 (by decide +kernel) (by decide +kernel)
theorem kw_696 : Cond.methodLink RL 83 yX11_parts ∈ lw_g := lw_gin 696 (by decide +kernel) (by decide +kernel)
theorem kw_1325 : Cond.methodLink RL 87 yX12_parts ∈ lw_g := lw_gin 1325 (by decide +kernel) (by decide +kernel)
theorem kw_739 : Cond.methodLink RL 88 yX11_part ∈ lw_g := lw_gin 739 (by decide +kernel) (by decide +kernel)
theorem kw_1340 : Cond.methodLink RL 91 yX12_part ∈ lw_g := lw_gin 1340 (by decide +kernel) (by decide +kernel)
theorem kw_790 : Cond.methodLink RL 92 yX11_normal ∈ lw_g := lw_gin 790 (by decide +kernel) (by decide +kernel)
theorem kw_1356 : Cond.methodLink RL 95 yX12_normal ∈ lw_g := lw_gin 1356 (by decide +kernel) (by decide +kernel)
theorem kw_814 : Cond.methodLink RL 96 yX11_reflexive ∈ lw_g := lw_gin 814 (by decide +kernel) (by decide +kernel)
theorem kw_1376 : Cond.methodLink RL 99 yX12_reflexive ∈ lw_g := lw_gin 1376 (by decide +kernel) (by decide +kernel)
theorem kw_824 : Cond.methodLink RL 100 yX11_dual ∈ lw_g := lw_gin 824 (by decide +kernel) (by decide +kernel)
theorem kw_1384 : Cond.methodLink RL 103 yX12_dual ∈ lw_g := lw_gin 1384 (by decide +kernel) (by decide +kernel)
theorem kw_828 : Cond.methodLink RL 104 yX11_between ∈ lw_g := lw_gin 828 (by decide +kernel) (by decide +kernel)
theorem kw_1388 : Cond.methodLink RL 108 yX12_between ∈ lw_g := lw_gin 1388 (by decide +kernel) (by decide +kernel)
theorem kw_851 : Cond.methodLink RL 109 yX11_ray ∈ lw_g := lw_gin 851 (by decide +kernel) (by decide +kernel)
theorem kw_1400 : Cond.methodLink RL 113 yX12_ray ∈ lw_g := lw_gin 1400 (by decide +kernel) (by decide +kernel)
theorem kw_855 : Cond.methodLink RL 114 yX11_cuts ∈ lw_g := lw_gin 855 (by decide +kernel) (by decide +kernel)
theorem kw_1404 : Cond.methodLink RL 117 yX12_cuts ∈ lw_g := lw_gin 1404 (by decide +kernel) (by decide +kernel)
theorem kw_958 : Cond.methodLink RL 118 yX11_cut ∈ lw_g := lw_gin 958 (by decide +kernel) (by decide +kernel)
theorem kw_1459 : Cond.methodLink RL 121 yX12_cut ∈ lw_g := lw_gin 1459 (by decide +kernel) (by decide +kernel)
theorem kw_971 : Cond.methodLink RL 122 yX11_flips ∈ lw_g := lw_gin 971 (by decide +kernel) (by decide +kernel)
theorem kw_1463 : Cond.methodLink RL 125 yX12_flips ∈ lw_g := lw_gin 1463 (by decide +kernel) (by decide +kernel)
theorem kw_979 : Cond.methodLink RL 126 yX11_height ∈ lw_g := lw_gin 979 (by decide +kernel) (by decide +kernel)
theorem kw_1467 : Cond.methodLink RL 129 yX12_height ∈ lw_g := lw_gin 1467 (by decide +kernel) (by decide +kernel)
theorem kw_983 : Cond.methodLink RL 130 yX11_pieces ∈ lw_g := lw_gin 983 (by decide +kernel) (by decide +kernel)
theorem kw_1475 : Cond.methodLink RL 133 yX12_pieces ∈ lw_g := lw_gin 1475 (by decide +kernel) (by decide +kernel)
theorem kw_1045 : Cond.methodLink RL 134 yX11_piece ∈ lw_g := lw_gin 1045 (by decide +kernel) (by decide +kernel)
theorem kw_1496 : Cond.methodLink RL 137 yX12_piece ∈ lw_g := lw_gin 1496 (by decide +kernel) (by decide +kernel)
theorem nx_u {px py vx vy wx wy tx ty : Int} (h : nx px py vx vy wx wy) (h' : nx px py vx vy tx ty) : wx = tx ∧ wy = ty := by
  obtain ⟨a1, a2, a3⟩ := h
  obtain ⟨b1, b2, b3⟩ := h'
  have i1 : (tx - wx) * cx px py wx wy = px * cx (tx - wx) (ty - wy) wx wy + wx * (cx px py tx ty - cx px py wx wy) := by unfold cx; grind
  have i2 : (ty - wy) * cx px py wx wy = py * cx (tx - wx) (ty - wy) wx wy + wy * (cx px py tx ty - cx px py wx wy) := by unfold cx; grind
  have i3 : (cx tx ty vx vy - cx wx wy vx vy) * cx px py wx wy = cx (tx - wx) (ty - wy) wx wy * cx px py vx vy + (cx px py tx ty - cx px py wx wy) * cx wx wy vx vy := by unfold cx; grind
  rw [a1, b1] at i1 i2 i3
  generalize cx (tx - wx) (ty - wy) wx wy = k at i1 i2 i3
  generalize cx px py vx vy = c at a3 b3 i3
  generalize cx tx ty vx vy = t at b2 b3 i3
  generalize cx wx wy vx vy = w at a2 a3 i3
  have hk : k = 0 := by
    by_cases e : k = 0
    · exact e
    · exfalso
      by_cases g : 1 ≤ k
      · have := Int.mul_le_mul_of_nonneg_right g (show 0 ≤ c by omega)
        omega
      · have := Int.mul_le_mul_of_nonneg_right (show k ≤ -1 by omega) (show 0 ≤ c by omega)
        omega
  subst hk
  omega
theorem ry_p {a b c d : Int} {X Y X' Y' : Nat → Int} {n n' : Int} (h : ry a b c d X Y n) (h' : ry a b c d X' Y' n') : ∀ j : Nat, (j : Int) < n → (j : Int) < n' → X j = X' j ∧ Y j = Y' j := by
  obtain ⟨-, x0, y0, s, -, -⟩ := h
  obtain ⟨-, x0', y0', s', -, -⟩ := h'
  intro j
  induction j with
  | zero => intro _ _; exact ⟨x0.trans x0'.symm, y0.trans y0'.symm⟩
  | succ j ih =>
    intro h1 h2
    obtain ⟨e1, e2⟩ := ih (by omega) (by omega)
    have q := s j (by omega)
    rw [e1, e2] at q
    exact nx_u q (s' j (by omega))
theorem ry_n {a b c d : Int} {X Y X' Y' : Nat → Int} {n n' : Int} (h : ry a b c d X Y n) (h' : ry a b c d X' Y' n') : n' ≤ n := by
  apply Int.not_lt.mp
  intro hl
  have hn := h.1
  obtain ⟨e1, e2⟩ := ry_p h h' (n - 1).toNat (by omega) (by omega)
  have q := h'.2.2.2.1 (n - 1).toNat (by omega)
  have z := h.2.2.2.2.2
  rw [e1, e2] at z
  have q2 := q.2.1
  have q3 := q.2.2
  omega
theorem ry_u {a b c d : Int} {X Y X' Y' : Nat → Int} {n n' : Int} (h : ry a b c d X Y n) (h' : ry a b c d X' Y' n') : n = n' := by
  have h1 := ry_n h h'
  have h2 := ry_n h' h
  omega
theorem btw_u {a b c d z z' : Int} (h : btw_ a b c d z) (h' : btw_ a b c d z') : z = z' := by
  rcases h with ⟨p1, e1⟩ | ⟨p1, c1, e1⟩ | ⟨p1, c1, X, Y, r1⟩ <;> rcases h' with ⟨p2, e2⟩ | ⟨p2, c2, e2⟩ | ⟨p2, c2, X', Y', r2⟩
  · omega
  · exact absurd p2 p1
  · exact absurd p2 p1
  · exact absurd p1 p2
  · omega
  · omega
  · exact absurd p1 p2
  · omega
  · exact ry_u r1 r2
theorem btw_r {a b c d z : Int} (h : btw_ a b c d z) : -2147483648 ≤ z ∧ z ≤ 2147483647 := by
  rcases h with ⟨_, e⟩ | ⟨_, _, e⟩ | ⟨_, _, X, Y, r⟩
  · omega
  · omega
  · have := r.1; omega
theorem ray_u {a b c d i w z z' : Int} (h : ray_ a b c d i w z) (h' : ray_ a b c d i w z') : z = z' := by
  rcases h with ⟨p1, e1⟩ | ⟨p1, w1, c1, i1, X, Y, n, r1, q1⟩ <;> rcases h' with ⟨p2, e2⟩ | ⟨p2, w2, c2, i2, X', Y', n', r2, q2⟩
  · omega
  · exact absurd ⟨p2, w2, c2, i2⟩ p1
  · exact absurd ⟨p1, w1, c1, i1⟩ p2
  · have en := ry_u r1 r2
    subst en
    rcases q1 with ⟨g1, e1⟩ | ⟨g1, a1⟩ <;> rcases q2 with ⟨g2, e2⟩ | ⟨g2, a2⟩
    · omega
    · omega
    · omega
    · have ei := ry_p r1 r2 i.toNat (by omega) (by omega)
      rcases a1 with ⟨f1, e1⟩ | ⟨f1, e1⟩ | ⟨f1, e1⟩ <;> rcases a2 with ⟨f2, e2⟩ | ⟨f2, e2⟩ | ⟨f2, e2⟩
      · rw [e1, e2]; exact ei.1
      · omega
      · omega
      · omega
      · rw [e1, e2]; exact ei.2
      · omega
      · omega
      · omega
      · rcases e1 with ⟨k1, e1⟩ | ⟨k1, k3, e1⟩ <;> rcases e2 with ⟨k2, e2⟩ | ⟨k2, k4, e2⟩
        · omega
        · omega
        · omega
        · have eb := ry_p r1 r2 (i - 1).toNat (by omega) (by omega)
          have ea := ry_p r1 r2 (i + 1).toNat (by omega) (by omega)
          rw [e1, e2, eb.1, eb.2, ea.1, ea.2]
theorem ray_r {a b c d i w z : Int} (h : ray_ a b c d i w z) : -2147483648 ≤ z ∧ z ≤ 2147483647 := by
  rcases h with ⟨_, e⟩ | ⟨_, _, _, i1, X, Y, n, r, q⟩
  · omega
  · rcases q with ⟨_, e⟩ | ⟨g, a⟩
    · omega
    · have hb := r.2.2.2.2.1
      rcases a with ⟨_, e⟩ | ⟨_, e⟩ | ⟨_, e⟩
      · have := (hb i.toNat (by omega)).1; omega
      · have := (hb i.toNat (by omega)).2; omega
      · rcases e with ⟨_, e⟩ | ⟨k1, k3, e⟩
        · omega
        · have b1 := hb (i - 1).toNat (by omega)
          have b2 := hb (i + 1).toNat (by omega)
          have m1 := mulb (A := 40) (B := 40) (a := X (i - 1).toNat) (b := Y (i + 1).toNat) (by omega) (by omega)
          have m2 := mulb (A := 40) (B := 40) (a := Y (i - 1).toNat) (b := X (i + 1).toNat) (by omega) (by omega)
          rw [e]; unfold cx; omega
theorem EQH_0 : EQH cS0 mS0 := fun _ _ _ _ => rfl
theorem EQS_0 : EQS cS0 mS0 := fun r _ => ⟨rfl, fun a ha => by have : (a : Int) < 0 := ha; omega, Or.inl ⟨rfl, fun x y ⟨a, ha, _⟩ => by have : (a : Int) < 0 := ha; omega⟩⟩
theorem FI_0 : FI cS0 0 := by
  refine ⟨⟨⟨by decide, by decide⟩, fun r _ => ⟨Int.le_refl 0, Int.le_refl 0⟩, fun r r' _ _ _ _ => rfl⟩, fun r _ _ => by show (0 : Int) < 3; decide, by decide, fun r _ e _ _ => absurd e (by show ¬ (0 : Int) = -1; decide)⟩
theorem FV_0 : FV cS0 0 := ⟨FI_0, by show (-1 : Int) ≤ 0; decide, fun r _ e _ _ => absurd e (by show ¬ (0 : Int) = -1; decide)⟩
/-! ===== the law ===== -/
theorem J_a31 (x : Int32) : 0 ≤ (x &&& J 31).toInt ∧ (x &&& J 31).toInt ≤ 31 := by
  have h1 : (x &&& J 31).toBitVec.toNat ≤ 31 := by
    rw [Ja_nat, J_bn (by omega)]
    exact Nat.and_le_right
  have h2 : (x &&& J 31) = J (((x &&& J 31).toBitVec.toNat : Nat) : Int) := by
    rw [← J_nat]
    apply Int32.toBitVec_inj.mp
    show _ = BitVec.ofNat 32 _
    rw [BitVec.ofNat_toNat, BitVec.setWidth_eq]
  rw [h2, J_toInt (by omega)]
  omega
/-- a place of the script -/
def sx (xs : Nat → Int32) (z : Int) : Int := (xs z.toNat).toInt
theorem sx_r {xs : Nat → Int32} {z : Int} : -2147483648 ≤ sx xs z ∧ sx xs z ≤ 2147483647 := J_rng _
def adr (ws : va_W) (a : Nat) : Prop := ∃ (k : Nat) (e : va_E), ws[k]? = some (a, e)
theorem va_D_split {A : Nat → Prop} {ws w2 : va_W} (hD : va_D A (ws ++ w2)) : va_D (adr ws) ws ∧ va_D (adr w2) w2 ∧ (∀ a, adr ws a → A a) ∧ (∀ a, adr w2 a → A a) ∧ ∀ a, adr ws a → ¬ adr w2 a := by
  have l1 : ∀ {k : Nat} {q : Nat × va_E}, ws[k]? = some q → (ws ++ w2)[k]? = some q := fun {k q} h => by
    rw [List.getElem?_append_left (List.getElem?_eq_some_iff.mp h).1]; exact h
  have l2 : ∀ {k : Nat} {q : Nat × va_E}, w2[k]? = some q → (ws ++ w2)[ws.length + k]? = some q := fun {k q} h => by
    rw [List.getElem?_append_right (by omega), show ws.length + k - ws.length = k by omega]; exact h
  refine ⟨⟨fun i j p q hi hj h => hD.1 i j p q (l1 hi) (l1 hj) h, fun k q hk => ⟨k, q.2, hk⟩⟩, ⟨fun i j p q hi hj h => ?_, fun k q hk => ⟨k, q.2, hk⟩⟩, fun a h => ?_, fun a h => ?_, fun a h h' => ?_⟩
  · have := hD.1 _ _ p q (l2 hi) (l2 hj) h
    omega
  · obtain ⟨k, e, h⟩ := h
    exact hD.2 k (a, e) (l1 h)
  · obtain ⟨k, e, h⟩ := h
    exact hD.2 _ (a, e) (l2 h)
  · obtain ⟨k, e, h⟩ := h
    obtain ⟨k', e', h'⟩ := h'
    have := hD.1 _ _ _ _ (l1 h) (l2 h') rfl
    have := (List.getElem?_eq_some_iff.mp h).1
    omega
theorem va_P_split {D : va_G} {cl : List vw_C} {ws w2 : va_W} {H : Heap} (h : va_P D cl (ws ++ w2) H) : va_P D cl ws H ∧ va_P D cl w2 H := by
  refine ⟨fun k q hk => h k q ?_, fun k q hk => h (ws.length + k) q ?_⟩
  · rw [List.getElem?_append_left (List.getElem?_eq_some_iff.mp hk).1]; exact hk
  · rw [List.getElem?_append_right (by omega), show ws.length + k - ws.length = k by omega]; exact hk
theorem lw_keep {D : va_G} {cl : List vw_C} {ws : va_W} {H H1 : Heap} {A B : Nat → Prop} (hP : va_P D cl ws H) (hD : va_D B ws) (hx : ∀ a, B a → ¬ A a) (hf : H.size ≤ H1.size ∧ ∀ q : Nat, q < H.size → ¬ A q → H1[q]? = H[q]?) : va_P D cl ws H1 :=
  hP.kept (fun k q hk => hf.2 q.1 ((hP k q hk).lt) (hx _ (hD.2 k q hk)))
section JX
variable {p : Program} {l : Launch} {e9 : Env} {R : Room} {s : State} {m : MethodId} {args : Array Value} {below : List Frame} {meth : Method} {c : Code} {H : Heap} {locs : List Loc} {cells slots : Nat} {Q : State → Prop}
variable {cc : ByteArray} {nL : Nat} {own : String} {pc : Nat} {ls : Array Slot} {rest : List Value}
theorem lw_sld9 (S : jS p m c cc nL s args own) {b L : Nat} {xs : Nat → Int32} (hX : va_X b L xs s s.heap) (hbl : b < s.heap.size) (hL : L ≤ 4608) (hS : va_S (fun a => s.heap.size ≤ a) s.heap H locs) {z : Int} (hz : 0 ≤ z ∧ z < L) (hdg : decode cc pc = .ok (.iaload, 1))
    (kk : W p l e9 R s m args below meth c H locs cells slots Q (F0 m (pc + 1) ls (.int (J (sx xs z)) :: rest))) : W p l e9 R s m args below meth c H locs cells slots Q (F0 m pc ls (.int (J z) :: .ref b :: rest)) := by
  refine va_sld S.1 S.2.1 hX hbl (fun h => absurd hbl (Nat.not_lt.mpr h)) hS (J_in hz (by omega)) hdg ?_
  rw [J_clamp (by omega), J_of (xs z.toNat)]
  exact kk
end JX
/-- what stays while the law runs: the tables, the script, the addresses -/
def lK (p : Program) (s : State) (m : MethodId) (c : Code) (b L : Nat) (xs : Nat → Int32) (D : JD) (q : Nat → Nat) (o : Nat) (q2 : Nat → Nat) (A1 A2 : Nat → Prop) (cells slots : Nat) : Prop :=
  jS p m c cL_law 4 s #[.ref b] RL ∧ j_K D s ∧ va_X b L xs s s.heap ∧ b < s.heap.size ∧ L ≤ 4608 ∧ va_D A1 (cW D q cS0) ∧ va_D A2 (mW D o q2 mS0) ∧ (∀ a, A1 a → s.heap.size ≤ a) ∧ (∀ a, A2 a → s.heap.size ≤ a) ∧ (∀ a, A1 a → ¬ A2 a) ∧ cells ≤ 600000 ∧ slots ≤ 7302250
/-- what holds between calls -/
def lI (s : State) (D : JD) (q : Nat → Nat) (o : Nat) (q2 : Nat → Nat) (u : CS) (v : MS) (H : Heap) (locs : List Loc) (i9 : Int) : Prop := (EQS u v ∧ EQH u v ∧ FV u i9) ∧ CI u ∧ IM v ∧ va_P D.1 j_cl (cW D q u) H ∧ va_P D.1 j_cl (mW D o q2 v) H ∧ va_S (fun a => s.heap.size ≤ a) s.heap H locs

set_option maxHeartbeats 4000000 in
set_option maxRecDepth 100000 in
theorem lc_0 {p : Program} {l : Launch} {en : Env} {s : State} {mi : MethodId} {below : List Frame} {meth : Method} {co : Code} {b L : Nat} {xs : Nat → Int32} {D : JD} {q : Nat → Nat} {o : Nat} {q2 : Nat → Nat} {A1 A2 : Nat → Prop} {cells slots : Nat} (K : lK p s mi co b L xs D q o q2 A1 A2 cells slots) {Q : State → Prop} {i : Int} (hi : 0 ≤ i ∧ i + 9 ≤ L) {ls : Array Slot} (hl : lv_has ls 4 [(3, .int (J i)), (0, .ref b), (1, .ref (q 0)), (2, .ref o)]) (kk : ∀ (u : CS) (v : MS) (H : Heap) (locs : List Loc), lI s D q o q2 u v H locs (i + 9) → W p l en room_1 s mi #[.ref b] below meth co H locs cells slots Q (F0 mi 1299 ls [])) (u : CS) (v : MS) (H : Heap) (locs : List Loc) (hI : lI s D q o q2 u v H locs i) : W p l en room_1 s mi #[.ref b] below meth co H locs cells slots Q (F0 mi 164 ls []) := by
  obtain ⟨S, hG, hX, hbl, hL, hD1, hD2, hA1, hA2, hx, hc1, hc2⟩ := K
  have hx2 : ∀ a, A2 a → ¬ A1 a := fun a h2 h1 => hx a h1 h2
  obtain ⟨⟨hE, hH, hFI⟩, hC, hM, hP1, hP2, hS⟩ := hI
  have hF0 := hFI.1
  have hU0 := hFI.2
  have hC9 := hC
  have hE0 := hE
  have hH0 := hH
  refine lv_aload_n S.1 S.2.1 dL_law_164 rfl (lv_at hl 2 rfl) ?_
  refine lv_aload_n S.1 S.2.1 dL_law_165 rfl (lv_at hl 1 rfl) ?_
  refine lv_iload_n S.1 S.2.1 dL_law_166 rfl (lv_at hl 0 rfl) ?_
  refine j_iconst S dL_law_167 ?_
  refine j_iadd S (x := i) (y := 1) dL_law_168 ?_
  refine lw_sld9 S hX hbl hL hS (z := (i + 1)) (by omega) dL_law_169 ?_
  refine j_vWi S (As := [.int (J (sx xs (i + 1)))]) (rest := []) (c_X11_clearF l D q u A1 (cW_D hD1) (sx xs (i + 1)) hC sx_r) mf_X11_clear kw_410 hG hP1 hP1 (ci := 11) (q0 := 0) rfl rfl rfl hS hA1 rfl hl.1 ⟨⟨(Nat.le_of_ble_eq_true rfl), (Nat.le_of_ble_eq_true rfl)⟩, (Nat.le_of_ble_eq_true rfl), hc1, hc2⟩ rfl dL_law_170 (fun z_170 w_170 H9 locs h_170 hB hF hS => ?_)
  obtain ⟨h_170, hh_170⟩ := h_170
  have hP2 := lw_keep hP2 (mW_D (v := v) hD2) hx2 hF
  have hP1 : va_P D.1 j_cl (cW D q w_170) H9 := hB
  have hC : CI w_170 := by first | exact h_170.1 | exact h_170.2.1
  have hF9 : FV w_170 (i + 9) := FV_m (t := (sx xs (i + 1)).toNat) hFI (by omega) (by omega) (cOt_cl hC9 h_170.2) hh_170
  refine lv_pop S.1 S.2.1 dL_law_173 rfl ?_
  refine lv_aload_n S.1 S.2.1 dL_law_174 rfl (lv_at hl 3 rfl) ?_
  refine lv_aload_n S.1 S.2.1 dL_law_175 rfl (lv_at hl 1 rfl) ?_
  refine lv_iload_n S.1 S.2.1 dL_law_176 rfl (lv_at hl 0 rfl) ?_
  refine j_iconst S dL_law_177 ?_
  refine j_iadd S (x := i) (y := 1) dL_law_178 ?_
  refine lw_sld9 S hX hbl hL hS (z := (i + 1)) (by omega) dL_law_179 ?_
  refine j_vWi S (As := [.int (J (sx xs (i + 1)))]) (rest := []) (c_X12_clearH l D o q2 v A2 (mW_D hD2) (sx xs (i + 1)) hM sx_r) mf_X12_clear kw_1152 hG hP2 hP2 (ci := 8) (q0 := 0) rfl rfl rfl hS hA2 rfl hl.1 ⟨⟨(Nat.le_of_ble_eq_true rfl), (Nat.le_of_ble_eq_true rfl)⟩, (Nat.le_of_ble_eq_true rfl), hc1, hc2⟩ rfl dL_law_180 (fun z_180 w_180 H9 locs h_180 hB hF hS => ?_)
  have hP1 := lw_keep hP1 (cW_D (v := w_170) hD1) hx hF
  have hP2 : va_P D.1 j_cl (mW D o q2 w_180) H9 := hB
  obtain ⟨_, _, _, _, _, e_180, h_180⟩ := h_180
  obtain ⟨h_180, hh_180⟩ := h_180
  have hM : IM w_180 := by first | exact h_180.1 | exact h_180.2 | exact h_180
  have hq := EQ_cl hC9 hE h_170.2 h_180.2
  have hH : EQH w_170 w_180 := EQH_r (t := (sx xs (i + 1))) hH (fun q9 => by rcases h_170.2 with ⟨_, k9, _⟩ | k9; omega; exact k9.1) hh_170.1 hh_180 hq.1
  have hE : EQS w_170 w_180 := (EQS_cl hE h_170.2 h_180.2).2
  refine lv_pop S.1 S.2.1 dL_law_183 rfl ?_
  refine lv_goto (tgt := 1299) S.1 S.2.1 dL_law_184 (by decide) ?_
  exact kk _ _ _ _ ⟨⟨hE, hH, hF9⟩, hC, hM, hP1, hP2, hS⟩

set_option maxHeartbeats 4000000 in
set_option maxRecDepth 100000 in
theorem lc_1 {p : Program} {l : Launch} {en : Env} {s : State} {mi : MethodId} {below : List Frame} {meth : Method} {co : Code} {b L : Nat} {xs : Nat → Int32} {D : JD} {q : Nat → Nat} {o : Nat} {q2 : Nat → Nat} {A1 A2 : Nat → Prop} {cells slots : Nat} (K : lK p s mi co b L xs D q o q2 A1 A2 cells slots) {Q : State → Prop} {i : Int} (hi : 0 ≤ i ∧ i + 9 ≤ L) {ls : Array Slot} (hl : lv_has ls 4 [(3, .int (J i)), (0, .ref b), (1, .ref (q 0)), (2, .ref o)]) (kk : ∀ (u : CS) (v : MS) (H : Heap) (locs : List Loc), lI s D q o q2 u v H locs (i + 9) → W p l en room_1 s mi #[.ref b] below meth co H locs cells slots Q (F0 mi 1299 ls [])) (u : CS) (v : MS) (H : Heap) (locs : List Loc) (hI : lI s D q o q2 u v H locs i) : W p l en room_1 s mi #[.ref b] below meth co H locs cells slots Q (F0 mi 187 ls []) := by
  obtain ⟨S, hG, hX, hbl, hL, hD1, hD2, hA1, hA2, hx, hc1, hc2⟩ := K
  have hx2 : ∀ a, A2 a → ¬ A1 a := fun a h2 h1 => hx a h1 h2
  obtain ⟨⟨hE, hH, hFI⟩, hC, hM, hP1, hP2, hS⟩ := hI
  have hF0 := hFI.1
  have hU0 := hFI.2
  have hC9 := hC
  have hE0 := hE
  have hH0 := hH
  refine lv_aload_n S.1 S.2.1 dL_law_187 rfl (lv_at hl 2 rfl) ?_
  refine lv_aload_n S.1 S.2.1 dL_law_188 rfl (lv_at hl 1 rfl) ?_
  refine lv_iload_n S.1 S.2.1 dL_law_189 rfl (lv_at hl 0 rfl) ?_
  refine j_iconst S dL_law_190 ?_
  refine j_iadd S (x := i) (y := 1) dL_law_191 ?_
  refine lw_sld9 S hX hbl hL hS (z := (i + 1)) (by omega) dL_law_192 ?_
  refine lv_aload_n S.1 S.2.1 dL_law_193 rfl (lv_at hl 1 rfl) ?_
  refine lv_iload_n S.1 S.2.1 dL_law_194 rfl (lv_at hl 0 rfl) ?_
  refine j_iconst S dL_law_195 ?_
  refine j_iadd S (x := i) (y := 2) dL_law_196 ?_
  refine lw_sld9 S hX hbl hL hS (z := (i + 2)) (by omega) dL_law_197 ?_
  refine lv_aload_n S.1 S.2.1 dL_law_198 rfl (lv_at hl 1 rfl) ?_
  refine lv_iload_n S.1 S.2.1 dL_law_199 rfl (lv_at hl 0 rfl) ?_
  refine j_iconst S dL_law_200 ?_
  refine j_iadd S (x := i) (y := 3) dL_law_201 ?_
  refine lw_sld9 S hX hbl hL hS (z := (i + 3)) (by omega) dL_law_202 ?_
  refine j_vWi S (As := [.int (J (sx xs (i + 1))), .int (J (sx xs (i + 2))), .int (J (sx xs (i + 3)))]) (rest := []) (c_X11_addF l D q u A1 (cW_D hD1) (sx xs (i + 1)) (sx xs (i + 2)) (sx xs (i + 3)) hC sx_r sx_r sx_r) mf_X11_add kw_471 hG hP1 hP1 (ci := 11) (q0 := 0) rfl rfl rfl hS hA1 rfl hl.1 ⟨⟨(Nat.le_of_ble_eq_true rfl), (Nat.le_of_ble_eq_true rfl)⟩, (Nat.le_of_ble_eq_true rfl), hc1, hc2⟩ rfl dL_law_203 (fun z_203 w_203 H9 locs h_203 hB hF hS => ?_)
  obtain ⟨h_203, hh_203⟩ := h_203
  have hP2 := lw_keep hP2 (mW_D (v := v) hD2) hx2 hF
  have hP1 : va_P D.1 j_cl (cW D q w_203) H9 := hB
  have hC : CI w_203 := by first | exact h_203.1 | exact h_203.2.1
  have hF9 : FV w_203 (i + 9) := FV_m (t := (sx xs (i + 1)).toNat) hFI (by omega) (by omega) (cOt_ad  h_203.2) hh_203
  refine lv_pop S.1 S.2.1 dL_law_206 rfl ?_
  refine lv_aload_n S.1 S.2.1 dL_law_207 rfl (lv_at hl 3 rfl) ?_
  refine lv_aload_n S.1 S.2.1 dL_law_208 rfl (lv_at hl 1 rfl) ?_
  refine lv_iload_n S.1 S.2.1 dL_law_209 rfl (lv_at hl 0 rfl) ?_
  refine j_iconst S dL_law_210 ?_
  refine j_iadd S (x := i) (y := 1) dL_law_211 ?_
  refine lw_sld9 S hX hbl hL hS (z := (i + 1)) (by omega) dL_law_212 ?_
  refine lv_aload_n S.1 S.2.1 dL_law_213 rfl (lv_at hl 1 rfl) ?_
  refine lv_iload_n S.1 S.2.1 dL_law_214 rfl (lv_at hl 0 rfl) ?_
  refine j_iconst S dL_law_215 ?_
  refine j_iadd S (x := i) (y := 2) dL_law_216 ?_
  refine lw_sld9 S hX hbl hL hS (z := (i + 2)) (by omega) dL_law_217 ?_
  refine lv_aload_n S.1 S.2.1 dL_law_218 rfl (lv_at hl 1 rfl) ?_
  refine lv_iload_n S.1 S.2.1 dL_law_219 rfl (lv_at hl 0 rfl) ?_
  refine j_iconst S dL_law_220 ?_
  refine j_iadd S (x := i) (y := 3) dL_law_221 ?_
  refine lw_sld9 S hX hbl hL hS (z := (i + 3)) (by omega) dL_law_222 ?_
  refine j_vWi S (As := [.int (J (sx xs (i + 1))), .int (J (sx xs (i + 2))), .int (J (sx xs (i + 3)))]) (rest := []) (c_X12_addH l D o q2 v A2 (mW_D hD2) (sx xs (i + 1)) (sx xs (i + 2)) (sx xs (i + 3)) hM sx_r sx_r sx_r) mf_X12_add kw_1169 hG hP2 hP2 (ci := 8) (q0 := 0) rfl rfl rfl hS hA2 rfl hl.1 ⟨⟨(Nat.le_of_ble_eq_true rfl), (Nat.le_of_ble_eq_true rfl)⟩, (Nat.le_of_ble_eq_true rfl), hc1, hc2⟩ rfl dL_law_223 (fun z_223 w_223 H9 locs h_223 hB hF hS => ?_)
  have hP1 := lw_keep hP1 (cW_D (v := w_203) hD1) hx hF
  have hP2 : va_P D.1 j_cl (mW D o q2 w_223) H9 := hB
  obtain ⟨_, _, _, _, _, _, _, _, _, _, e_223, h_223⟩ := h_223
  obtain ⟨h_223, hh_223⟩ := h_223
  have hM : IM w_223 := by first | exact h_223.1 | exact h_223.2 | exact h_223
  have hq := EQ_ad hE h_203.2 h_223.2
  have hH : EQH w_203 w_223 := EQH_r (t := (sx xs (i + 1))) hH (fun q9 => by rcases h_203.2 with ⟨_, k9, _⟩ | k9; omega; exact k9.1) hh_203.1 hh_223 hq.1
  have hE : EQS w_203 w_223 := (EQS_ad hE h_203.2 h_223.2).2
  refine lv_pop S.1 S.2.1 dL_law_226 rfl ?_
  refine lv_goto (tgt := 1299) S.1 S.2.1 dL_law_227 (by decide) ?_
  exact kk _ _ _ _ ⟨⟨hE, hH, hF9⟩, hC, hM, hP1, hP2, hS⟩

set_option maxHeartbeats 4000000 in
set_option maxRecDepth 100000 in
theorem lc_2 {p : Program} {l : Launch} {en : Env} {s : State} {mi : MethodId} {below : List Frame} {meth : Method} {co : Code} {b L : Nat} {xs : Nat → Int32} {D : JD} {q : Nat → Nat} {o : Nat} {q2 : Nat → Nat} {A1 A2 : Nat → Prop} {cells slots : Nat} (K : lK p s mi co b L xs D q o q2 A1 A2 cells slots) {Q : State → Prop} {i : Int} (hi : 0 ≤ i ∧ i + 9 ≤ L) {ls : Array Slot} (hl : lv_has ls 4 [(3, .int (J i)), (0, .ref b), (1, .ref (q 0)), (2, .ref o)]) (kk : ∀ (u : CS) (v : MS) (H : Heap) (locs : List Loc), lI s D q o q2 u v H locs (i + 9) → W p l en room_1 s mi #[.ref b] below meth co H locs cells slots Q (F0 mi 1299 ls [])) (u : CS) (v : MS) (H : Heap) (locs : List Loc) (hI : lI s D q o q2 u v H locs i) : W p l en room_1 s mi #[.ref b] below meth co H locs cells slots Q (F0 mi 230 ls []) := by
  obtain ⟨S, hG, hX, hbl, hL, hD1, hD2, hA1, hA2, hx, hc1, hc2⟩ := K
  have hx2 : ∀ a, A2 a → ¬ A1 a := fun a h2 h1 => hx a h1 h2
  obtain ⟨⟨hE, hH, hFI⟩, hC, hM, hP1, hP2, hS⟩ := hI
  have hF0 := hFI.1
  have hU0 := hFI.2
  have hC9 := hC
  have hE0 := hE
  have hH0 := hH
  refine lv_aload_n S.1 S.2.1 dL_law_230 rfl (lv_at hl 2 rfl) ?_
  refine lv_aload_n S.1 S.2.1 dL_law_231 rfl (lv_at hl 1 rfl) ?_
  refine lv_iload_n S.1 S.2.1 dL_law_232 rfl (lv_at hl 0 rfl) ?_
  refine j_iconst S dL_law_233 ?_
  refine j_iadd S (x := i) (y := 1) dL_law_234 ?_
  refine lw_sld9 S hX hbl hL hS (z := (i + 1)) (by omega) dL_law_235 ?_
  refine j_vRi S (As := [.int (J (sx xs (i + 1)))]) (rest := []) (c_X11_cornersN l D q u (sx xs (i + 1)) hC sx_r) mf_X11_corners kw_504 hG hP1 hP1 (ci := 11) (q0 := 0) rfl rfl rfl rfl hl.1 ⟨⟨(Nat.le_of_ble_eq_true rfl), (Nat.le_of_ble_eq_true rfl)⟩, (Nat.le_of_ble_eq_true rfl), hc1, hc2⟩ rfl dL_law_236 (fun z_236 h_236 => ?_)
  refine lv_pop S.1 S.2.1 dL_law_239 rfl ?_
  refine lv_aload_n S.1 S.2.1 dL_law_240 rfl (lv_at hl 3 rfl) ?_
  refine lv_aload_n S.1 S.2.1 dL_law_241 rfl (lv_at hl 1 rfl) ?_
  refine lv_iload_n S.1 S.2.1 dL_law_242 rfl (lv_at hl 0 rfl) ?_
  refine j_iconst S dL_law_243 ?_
  refine j_iadd S (x := i) (y := 1) dL_law_244 ?_
  refine lw_sld9 S hX hbl hL hS (z := (i + 1)) (by omega) dL_law_245 ?_
  refine j_vRi S (As := [.int (J (sx xs (i + 1)))]) (rest := []) (c_X12_corners l D o q2 v (sx xs (i + 1)) hM sx_r) mf_X12_corners kw_1205 hG hP2 hP2 (ci := 8) (q0 := 0) rfl rfl rfl rfl hl.1 ⟨⟨(Nat.le_of_ble_eq_true rfl), (Nat.le_of_ble_eq_true rfl)⟩, (Nat.le_of_ble_eq_true rfl), hc1, hc2⟩ rfl dL_law_246 (fun z_246 h_246 => ?_)
  refine lv_pop S.1 S.2.1 dL_law_249 rfl ?_
  refine lv_goto (tgt := 1299) S.1 S.2.1 dL_law_250 (by decide) ?_
  have hF9 : FV u (i + 9) := FV_w hFI (by omega)
  exact kk _ _ _ _ ⟨⟨hE, hH, hF9⟩, hC, hM, hP1, hP2, hS⟩

set_option maxHeartbeats 4000000 in
set_option maxRecDepth 100000 in
theorem lc_3 {p : Program} {l : Launch} {en : Env} {s : State} {mi : MethodId} {below : List Frame} {meth : Method} {co : Code} {b L : Nat} {xs : Nat → Int32} {D : JD} {q : Nat → Nat} {o : Nat} {q2 : Nat → Nat} {A1 A2 : Nat → Prop} {cells slots : Nat} (K : lK p s mi co b L xs D q o q2 A1 A2 cells slots) {Q : State → Prop} {i : Int} (hi : 0 ≤ i ∧ i + 9 ≤ L) {ls : Array Slot} (hl : lv_has ls 4 [(3, .int (J i)), (0, .ref b), (1, .ref (q 0)), (2, .ref o)]) (kk : ∀ (u : CS) (v : MS) (H : Heap) (locs : List Loc), lI s D q o q2 u v H locs (i + 9) → W p l en room_1 s mi #[.ref b] below meth co H locs cells slots Q (F0 mi 1299 ls [])) (u : CS) (v : MS) (H : Heap) (locs : List Loc) (hI : lI s D q o q2 u v H locs i) : W p l en room_1 s mi #[.ref b] below meth co H locs cells slots Q (F0 mi 253 ls []) := by
  obtain ⟨S, hG, hX, hbl, hL, hD1, hD2, hA1, hA2, hx, hc1, hc2⟩ := K
  have hx2 : ∀ a, A2 a → ¬ A1 a := fun a h2 h1 => hx a h1 h2
  obtain ⟨⟨hE, hH, hFI⟩, hC, hM, hP1, hP2, hS⟩ := hI
  have hF0 := hFI.1
  have hU0 := hFI.2
  have hC9 := hC
  have hE0 := hE
  have hH0 := hH
  refine lv_aload_n S.1 S.2.1 dL_law_253 rfl (lv_at hl 2 rfl) ?_
  refine lv_aload_n S.1 S.2.1 dL_law_254 rfl (lv_at hl 1 rfl) ?_
  refine lv_iload_n S.1 S.2.1 dL_law_255 rfl (lv_at hl 0 rfl) ?_
  refine j_iconst S dL_law_256 ?_
  refine j_iadd S (x := i) (y := 1) dL_law_257 ?_
  refine lw_sld9 S hX hbl hL hS (z := (i + 1)) (by omega) dL_law_258 ?_
  refine lv_aload_n S.1 S.2.1 dL_law_259 rfl (lv_at hl 1 rfl) ?_
  refine lv_iload_n S.1 S.2.1 dL_law_260 rfl (lv_at hl 0 rfl) ?_
  refine j_iconst S dL_law_261 ?_
  refine j_iadd S (x := i) (y := 2) dL_law_262 ?_
  refine lw_sld9 S hX hbl hL hS (z := (i + 2)) (by omega) dL_law_263 ?_
  refine lv_aload_n S.1 S.2.1 dL_law_264 rfl (lv_at hl 1 rfl) ?_
  refine lv_iload_n S.1 S.2.1 dL_law_265 rfl (lv_at hl 0 rfl) ?_
  refine j_iconst S dL_law_266 ?_
  refine j_iadd S (x := i) (y := 3) dL_law_267 ?_
  refine lw_sld9 S hX hbl hL hS (z := (i + 3)) (by omega) dL_law_268 ?_
  refine j_vRi S (As := [.int (J (sx xs (i + 1))), .int (J (sx xs (i + 2))), .int (J (sx xs (i + 3)))]) (rest := []) (c_X11_cornerN l D q u (sx xs (i + 1)) (sx xs (i + 2)) (sx xs (i + 3)) hC sx_r sx_r sx_r) mf_X11_corner kw_508 hG hP1 hP1 (ci := 11) (q0 := 0) rfl rfl rfl rfl hl.1 ⟨⟨(Nat.le_of_ble_eq_true rfl), (Nat.le_of_ble_eq_true rfl)⟩, (Nat.le_of_ble_eq_true rfl), hc1, hc2⟩ rfl dL_law_269 (fun z_269 h_269 => ?_)
  refine lv_pop S.1 S.2.1 dL_law_272 rfl ?_
  refine lv_aload_n S.1 S.2.1 dL_law_273 rfl (lv_at hl 3 rfl) ?_
  refine lv_aload_n S.1 S.2.1 dL_law_274 rfl (lv_at hl 1 rfl) ?_
  refine lv_iload_n S.1 S.2.1 dL_law_275 rfl (lv_at hl 0 rfl) ?_
  refine j_iconst S dL_law_276 ?_
  refine j_iadd S (x := i) (y := 1) dL_law_277 ?_
  refine lw_sld9 S hX hbl hL hS (z := (i + 1)) (by omega) dL_law_278 ?_
  refine lv_aload_n S.1 S.2.1 dL_law_279 rfl (lv_at hl 1 rfl) ?_
  refine lv_iload_n S.1 S.2.1 dL_law_280 rfl (lv_at hl 0 rfl) ?_
  refine j_iconst S dL_law_281 ?_
  refine j_iadd S (x := i) (y := 2) dL_law_282 ?_
  refine lw_sld9 S hX hbl hL hS (z := (i + 2)) (by omega) dL_law_283 ?_
  refine lv_aload_n S.1 S.2.1 dL_law_284 rfl (lv_at hl 1 rfl) ?_
  refine lv_iload_n S.1 S.2.1 dL_law_285 rfl (lv_at hl 0 rfl) ?_
  refine j_iconst S dL_law_286 ?_
  refine j_iadd S (x := i) (y := 3) dL_law_287 ?_
  refine lw_sld9 S hX hbl hL hS (z := (i + 3)) (by omega) dL_law_288 ?_
  refine j_vRi S (As := [.int (J (sx xs (i + 1))), .int (J (sx xs (i + 2))), .int (J (sx xs (i + 3)))]) (rest := []) (c_X12_corner2 l D o q2 v (sx xs (i + 1)) (sx xs (i + 2)) (sx xs (i + 3)) hM sx_r sx_r sx_r) mf_X12_corner kw_1209 hG hP2 hP2 (ci := 8) (q0 := 0) rfl rfl rfl rfl hl.1 ⟨⟨(Nat.le_of_ble_eq_true rfl), (Nat.le_of_ble_eq_true rfl)⟩, (Nat.le_of_ble_eq_true rfl), hc1, hc2⟩ rfl dL_law_289 (fun z_289 h_289 => ?_)
  refine lv_pop S.1 S.2.1 dL_law_292 rfl ?_
  refine lv_goto (tgt := 1299) S.1 S.2.1 dL_law_293 (by decide) ?_
  have hF9 : FV u (i + 9) := FV_w hFI (by omega)
  exact kk _ _ _ _ ⟨⟨hE, hH, hF9⟩, hC, hM, hP1, hP2, hS⟩

set_option maxHeartbeats 4000000 in
set_option maxRecDepth 100000 in
theorem lc_4 {p : Program} {l : Launch} {en : Env} {s : State} {mi : MethodId} {below : List Frame} {meth : Method} {co : Code} {b L : Nat} {xs : Nat → Int32} {D : JD} {q : Nat → Nat} {o : Nat} {q2 : Nat → Nat} {A1 A2 : Nat → Prop} {cells slots : Nat} (K : lK p s mi co b L xs D q o q2 A1 A2 cells slots) {Q : State → Prop} {i : Int} (hi : 0 ≤ i ∧ i + 9 ≤ L) {ls : Array Slot} (hl : lv_has ls 4 [(3, .int (J i)), (0, .ref b), (1, .ref (q 0)), (2, .ref o)]) (kk : ∀ (u : CS) (v : MS) (H : Heap) (locs : List Loc), lI s D q o q2 u v H locs (i + 9) → W p l en room_1 s mi #[.ref b] below meth co H locs cells slots Q (F0 mi 1299 ls [])) (u : CS) (v : MS) (H : Heap) (locs : List Loc) (hI : lI s D q o q2 u v H locs i) : W p l en room_1 s mi #[.ref b] below meth co H locs cells slots Q (F0 mi 296 ls []) := by
  obtain ⟨S, hG, hX, hbl, hL, hD1, hD2, hA1, hA2, hx, hc1, hc2⟩ := K
  have hx2 : ∀ a, A2 a → ¬ A1 a := fun a h2 h1 => hx a h1 h2
  obtain ⟨⟨hE, hH, hFI⟩, hC, hM, hP1, hP2, hS⟩ := hI
  have hF0 := hFI.1
  have hU0 := hFI.2
  have hC9 := hC
  have hE0 := hE
  have hH0 := hH
  refine lv_aload_n S.1 S.2.1 dL_law_296 rfl (lv_at hl 2 rfl) ?_
  refine lv_aload_n S.1 S.2.1 dL_law_297 rfl (lv_at hl 1 rfl) ?_
  refine lv_iload_n S.1 S.2.1 dL_law_298 rfl (lv_at hl 0 rfl) ?_
  refine j_iconst S dL_law_299 ?_
  refine j_iadd S (x := i) (y := 1) dL_law_300 ?_
  refine lw_sld9 S hX hbl hL hS (z := (i + 1)) (by omega) dL_law_301 ?_
  refine lv_aload_n S.1 S.2.1 dL_law_302 rfl (lv_at hl 1 rfl) ?_
  refine lv_iload_n S.1 S.2.1 dL_law_303 rfl (lv_at hl 0 rfl) ?_
  refine j_iconst S dL_law_304 ?_
  refine j_iadd S (x := i) (y := 2) dL_law_305 ?_
  refine lw_sld9 S hX hbl hL hS (z := (i + 2)) (by omega) dL_law_306 ?_
  refine j_vRi S (As := [.int (J (sx xs (i + 1))), .int (J (sx xs (i + 2)))]) (rest := []) (c_X11_pointsN l D q u (sx xs (i + 1)) (sx xs (i + 2)) hC sx_r sx_r) mf_X11_points kw_513 hG hP1 hP1 (ci := 11) (q0 := 0) rfl rfl rfl rfl hl.1 ⟨⟨(Nat.le_of_ble_eq_true rfl), (Nat.le_of_ble_eq_true rfl)⟩, (Nat.le_of_ble_eq_true rfl), hc1, hc2⟩ rfl dL_law_307 (fun z_307 h_307 => ?_)
  refine lv_pop S.1 S.2.1 dL_law_310 rfl ?_
  refine lv_aload_n S.1 S.2.1 dL_law_311 rfl (lv_at hl 3 rfl) ?_
  refine lv_aload_n S.1 S.2.1 dL_law_312 rfl (lv_at hl 1 rfl) ?_
  refine lv_iload_n S.1 S.2.1 dL_law_313 rfl (lv_at hl 0 rfl) ?_
  refine j_iconst S dL_law_314 ?_
  refine j_iadd S (x := i) (y := 1) dL_law_315 ?_
  refine lw_sld9 S hX hbl hL hS (z := (i + 1)) (by omega) dL_law_316 ?_
  refine lv_aload_n S.1 S.2.1 dL_law_317 rfl (lv_at hl 1 rfl) ?_
  refine lv_iload_n S.1 S.2.1 dL_law_318 rfl (lv_at hl 0 rfl) ?_
  refine j_iconst S dL_law_319 ?_
  refine j_iadd S (x := i) (y := 2) dL_law_320 ?_
  refine lw_sld9 S hX hbl hL hS (z := (i + 2)) (by omega) dL_law_321 ?_
  refine j_vRi S (As := [.int (J (sx xs (i + 1))), .int (J (sx xs (i + 2)))]) (rest := []) (c_X12_points2 l D o q2 v (sx xs (i + 1)) (sx xs (i + 2)) hM sx_r sx_r) mf_X12_points kw_1214 hG hP2 hP2 (ci := 8) (q0 := 0) rfl rfl rfl rfl hl.1 ⟨⟨(Nat.le_of_ble_eq_true rfl), (Nat.le_of_ble_eq_true rfl)⟩, (Nat.le_of_ble_eq_true rfl), hc1, hc2⟩ rfl dL_law_322 (fun z_322 h_322 => ?_)
  refine lv_pop S.1 S.2.1 dL_law_325 rfl ?_
  refine lv_goto (tgt := 1299) S.1 S.2.1 dL_law_326 (by decide) ?_
  have hF9 : FV u (i + 9) := FV_w hFI (by omega)
  exact kk _ _ _ _ ⟨⟨hE, hH, hF9⟩, hC, hM, hP1, hP2, hS⟩

set_option maxHeartbeats 4000000 in
set_option maxRecDepth 100000 in
theorem lc_5 {p : Program} {l : Launch} {en : Env} {s : State} {mi : MethodId} {below : List Frame} {meth : Method} {co : Code} {b L : Nat} {xs : Nat → Int32} {D : JD} {q : Nat → Nat} {o : Nat} {q2 : Nat → Nat} {A1 A2 : Nat → Prop} {cells slots : Nat} (K : lK p s mi co b L xs D q o q2 A1 A2 cells slots) {Q : State → Prop} {i : Int} (hi : 0 ≤ i ∧ i + 9 ≤ L) {ls : Array Slot} (hl : lv_has ls 4 [(3, .int (J i)), (0, .ref b), (1, .ref (q 0)), (2, .ref o)]) (kk : ∀ (u : CS) (v : MS) (H : Heap) (locs : List Loc), lI s D q o q2 u v H locs (i + 9) → W p l en room_1 s mi #[.ref b] below meth co H locs cells slots Q (F0 mi 1299 ls [])) (u : CS) (v : MS) (H : Heap) (locs : List Loc) (hI : lI s D q o q2 u v H locs i) : W p l en room_1 s mi #[.ref b] below meth co H locs cells slots Q (F0 mi 329 ls []) := by
  obtain ⟨S, hG, hX, hbl, hL, hD1, hD2, hA1, hA2, hx, hc1, hc2⟩ := K
  have hx2 : ∀ a, A2 a → ¬ A1 a := fun a h2 h1 => hx a h1 h2
  obtain ⟨⟨hE, hH, hFI⟩, hC, hM, hP1, hP2, hS⟩ := hI
  have hF0 := hFI.1
  have hU0 := hFI.2
  have hC9 := hC
  have hE0 := hE
  have hH0 := hH
  refine lv_aload_n S.1 S.2.1 dL_law_329 rfl (lv_at hl 2 rfl) ?_
  refine lv_aload_n S.1 S.2.1 dL_law_330 rfl (lv_at hl 1 rfl) ?_
  refine lv_iload_n S.1 S.2.1 dL_law_331 rfl (lv_at hl 0 rfl) ?_
  refine j_iconst S dL_law_332 ?_
  refine j_iadd S (x := i) (y := 1) dL_law_333 ?_
  refine lw_sld9 S hX hbl hL hS (z := (i + 1)) (by omega) dL_law_334 ?_
  refine lv_aload_n S.1 S.2.1 dL_law_335 rfl (lv_at hl 1 rfl) ?_
  refine lv_iload_n S.1 S.2.1 dL_law_336 rfl (lv_at hl 0 rfl) ?_
  refine j_iconst S dL_law_337 ?_
  refine j_iadd S (x := i) (y := 2) dL_law_338 ?_
  refine lw_sld9 S hX hbl hL hS (z := (i + 2)) (by omega) dL_law_339 ?_
  refine lv_aload_n S.1 S.2.1 dL_law_340 rfl (lv_at hl 1 rfl) ?_
  refine lv_iload_n S.1 S.2.1 dL_law_341 rfl (lv_at hl 0 rfl) ?_
  refine j_iconst S dL_law_342 ?_
  refine j_iadd S (x := i) (y := 3) dL_law_343 ?_
  refine lw_sld9 S hX hbl hL hS (z := (i + 3)) (by omega) dL_law_344 ?_
  refine j_vRl S (As := [.int (J (sx xs (i + 1))), .int (J (sx xs (i + 2))), .int (J (sx xs (i + 3)))]) (rest := []) (c_X11_timesN l D q u (sx xs (i + 1)) (sx xs (i + 2)) (sx xs (i + 3)) hC sx_r sx_r sx_r) mf_X11_times kw_558 hG hP1 hP1 (ci := 11) (q0 := 0) rfl rfl rfl rfl hl.1 ⟨⟨(Nat.le_of_ble_eq_true rfl), (Nat.le_of_ble_eq_true rfl)⟩, (Nat.le_of_ble_eq_true rfl), hc1, hc2⟩ rfl dL_law_345 (fun x_345 h_345 => ?_)
  refine lv_pop2_2 S.1 S.2.1 dL_law_348 rfl ?_
  refine lv_aload_n S.1 S.2.1 dL_law_349 rfl (lv_at hl 3 rfl) ?_
  refine lv_aload_n S.1 S.2.1 dL_law_350 rfl (lv_at hl 1 rfl) ?_
  refine lv_iload_n S.1 S.2.1 dL_law_351 rfl (lv_at hl 0 rfl) ?_
  refine j_iconst S dL_law_352 ?_
  refine j_iadd S (x := i) (y := 1) dL_law_353 ?_
  refine lw_sld9 S hX hbl hL hS (z := (i + 1)) (by omega) dL_law_354 ?_
  refine lv_aload_n S.1 S.2.1 dL_law_355 rfl (lv_at hl 1 rfl) ?_
  refine lv_iload_n S.1 S.2.1 dL_law_356 rfl (lv_at hl 0 rfl) ?_
  refine j_iconst S dL_law_357 ?_
  refine j_iadd S (x := i) (y := 2) dL_law_358 ?_
  refine lw_sld9 S hX hbl hL hS (z := (i + 2)) (by omega) dL_law_359 ?_
  refine lv_aload_n S.1 S.2.1 dL_law_360 rfl (lv_at hl 1 rfl) ?_
  refine lv_iload_n S.1 S.2.1 dL_law_361 rfl (lv_at hl 0 rfl) ?_
  refine j_iconst S dL_law_362 ?_
  refine j_iadd S (x := i) (y := 3) dL_law_363 ?_
  refine lw_sld9 S hX hbl hL hS (z := (i + 3)) (by omega) dL_law_364 ?_
  refine j_vRl S (As := [.int (J (sx xs (i + 1))), .int (J (sx xs (i + 2))), .int (J (sx xs (i + 3)))]) (rest := []) (c_X12_times2 l D o q2 v (sx xs (i + 1)) (sx xs (i + 2)) (sx xs (i + 3)) hM sx_r sx_r sx_r) mf_X12_times kw_1244 hG hP2 hP2 (ci := 8) (q0 := 0) rfl rfl rfl rfl hl.1 ⟨⟨(Nat.le_of_ble_eq_true rfl), (Nat.le_of_ble_eq_true rfl)⟩, (Nat.le_of_ble_eq_true rfl), hc1, hc2⟩ rfl dL_law_365 (fun x_365 h_365 => ?_)
  refine lv_pop2_2 S.1 S.2.1 dL_law_368 rfl ?_
  refine lv_goto (tgt := 1299) S.1 S.2.1 dL_law_369 (by decide) ?_
  have hF9 : FV u (i + 9) := FV_w hFI (by omega)
  exact kk _ _ _ _ ⟨⟨hE, hH, hF9⟩, hC, hM, hP1, hP2, hS⟩

set_option maxHeartbeats 4000000 in
set_option maxRecDepth 100000 in
theorem lc_6 {p : Program} {l : Launch} {en : Env} {s : State} {mi : MethodId} {below : List Frame} {meth : Method} {co : Code} {b L : Nat} {xs : Nat → Int32} {D : JD} {q : Nat → Nat} {o : Nat} {q2 : Nat → Nat} {A1 A2 : Nat → Prop} {cells slots : Nat} (K : lK p s mi co b L xs D q o q2 A1 A2 cells slots) {Q : State → Prop} {i : Int} (hi : 0 ≤ i ∧ i + 9 ≤ L) {ls : Array Slot} (hl : lv_has ls 4 [(3, .int (J i)), (0, .ref b), (1, .ref (q 0)), (2, .ref o)]) (kk : ∀ (u : CS) (v : MS) (H : Heap) (locs : List Loc), lI s D q o q2 u v H locs (i + 9) → W p l en room_1 s mi #[.ref b] below meth co H locs cells slots Q (F0 mi 1299 ls [])) (u : CS) (v : MS) (H : Heap) (locs : List Loc) (hI : lI s D q o q2 u v H locs i) : W p l en room_1 s mi #[.ref b] below meth co H locs cells slots Q (F0 mi 372 ls []) := by
  obtain ⟨S, hG, hX, hbl, hL, hD1, hD2, hA1, hA2, hx, hc1, hc2⟩ := K
  have hx2 : ∀ a, A2 a → ¬ A1 a := fun a h2 h1 => hx a h1 h2
  obtain ⟨⟨hE, hH, hFI⟩, hC, hM, hP1, hP2, hS⟩ := hI
  have hF0 := hFI.1
  have hU0 := hFI.2
  have hC9 := hC
  have hE0 := hE
  have hH0 := hH
  refine lv_aload_n S.1 S.2.1 dL_law_372 rfl (lv_at hl 2 rfl) ?_
  refine lv_aload_n S.1 S.2.1 dL_law_373 rfl (lv_at hl 1 rfl) ?_
  refine lv_iload_n S.1 S.2.1 dL_law_374 rfl (lv_at hl 0 rfl) ?_
  refine j_iconst S dL_law_375 ?_
  refine j_iadd S (x := i) (y := 1) dL_law_376 ?_
  refine lw_sld9 S hX hbl hL hS (z := (i + 1)) (by omega) dL_law_377 ?_
  refine lv_aload_n S.1 S.2.1 dL_law_378 rfl (lv_at hl 1 rfl) ?_
  refine lv_iload_n S.1 S.2.1 dL_law_379 rfl (lv_at hl 0 rfl) ?_
  refine j_iconst S dL_law_380 ?_
  refine j_iadd S (x := i) (y := 2) dL_law_381 ?_
  refine lw_sld9 S hX hbl hL hS (z := (i + 2)) (by omega) dL_law_382 ?_
  refine lv_aload_n S.1 S.2.1 dL_law_383 rfl (lv_at hl 1 rfl) ?_
  refine lv_iload_n S.1 S.2.1 dL_law_384 rfl (lv_at hl 0 rfl) ?_
  refine j_iconst S dL_law_385 ?_
  refine j_iadd S (x := i) (y := 3) dL_law_386 ?_
  refine lw_sld9 S hX hbl hL hS (z := (i + 3)) (by omega) dL_law_387 ?_
  refine j_vRi S (As := [.int (J (sx xs (i + 1))), .int (J (sx xs (i + 2))), .int (J (sx xs (i + 3)))]) (rest := []) (c_X11_whereN l D q u (sx xs (i + 1)) (sx xs (i + 2)) (sx xs (i + 3)) hC sx_r sx_r sx_r) mf_X11_where kw_577 hG hP1 hP1 (ci := 11) (q0 := 0) rfl rfl rfl rfl hl.1 ⟨⟨(Nat.le_of_ble_eq_true rfl), (Nat.le_of_ble_eq_true rfl)⟩, (Nat.le_of_ble_eq_true rfl), hc1, hc2⟩ rfl dL_law_388 (fun z_388 h_388 => ?_)
  refine lv_pop S.1 S.2.1 dL_law_391 rfl ?_
  refine lv_aload_n S.1 S.2.1 dL_law_392 rfl (lv_at hl 3 rfl) ?_
  refine lv_aload_n S.1 S.2.1 dL_law_393 rfl (lv_at hl 1 rfl) ?_
  refine lv_iload_n S.1 S.2.1 dL_law_394 rfl (lv_at hl 0 rfl) ?_
  refine j_iconst S dL_law_395 ?_
  refine j_iadd S (x := i) (y := 1) dL_law_396 ?_
  refine lw_sld9 S hX hbl hL hS (z := (i + 1)) (by omega) dL_law_397 ?_
  refine lv_aload_n S.1 S.2.1 dL_law_398 rfl (lv_at hl 1 rfl) ?_
  refine lv_iload_n S.1 S.2.1 dL_law_399 rfl (lv_at hl 0 rfl) ?_
  refine j_iconst S dL_law_400 ?_
  refine j_iadd S (x := i) (y := 2) dL_law_401 ?_
  refine lw_sld9 S hX hbl hL hS (z := (i + 2)) (by omega) dL_law_402 ?_
  refine lv_aload_n S.1 S.2.1 dL_law_403 rfl (lv_at hl 1 rfl) ?_
  refine lv_iload_n S.1 S.2.1 dL_law_404 rfl (lv_at hl 0 rfl) ?_
  refine j_iconst S dL_law_405 ?_
  refine j_iadd S (x := i) (y := 3) dL_law_406 ?_
  refine lw_sld9 S hX hbl hL hS (z := (i + 3)) (by omega) dL_law_407 ?_
  refine j_vRi S (As := [.int (J (sx xs (i + 1))), .int (J (sx xs (i + 2))), .int (J (sx xs (i + 3)))]) (rest := []) (c_X12_where2 l D o q2 v (sx xs (i + 1)) (sx xs (i + 2)) (sx xs (i + 3)) hM sx_r sx_r sx_r) mf_X12_where kw_1251 hG hP2 hP2 (ci := 8) (q0 := 0) rfl rfl rfl rfl hl.1 ⟨⟨(Nat.le_of_ble_eq_true rfl), (Nat.le_of_ble_eq_true rfl)⟩, (Nat.le_of_ble_eq_true rfl), hc1, hc2⟩ rfl dL_law_408 (fun z_408 h_408 => ?_)
  refine lv_pop S.1 S.2.1 dL_law_411 rfl ?_
  refine lv_goto (tgt := 1299) S.1 S.2.1 dL_law_412 (by decide) ?_
  have hF9 : FV u (i + 9) := FV_w hFI (by omega)
  exact kk _ _ _ _ ⟨⟨hE, hH, hF9⟩, hC, hM, hP1, hP2, hS⟩

set_option maxHeartbeats 4000000 in
set_option maxRecDepth 100000 in
theorem lc_7 {p : Program} {l : Launch} {en : Env} {s : State} {mi : MethodId} {below : List Frame} {meth : Method} {co : Code} {b L : Nat} {xs : Nat → Int32} {D : JD} {q : Nat → Nat} {o : Nat} {q2 : Nat → Nat} {A1 A2 : Nat → Prop} {cells slots : Nat} (K : lK p s mi co b L xs D q o q2 A1 A2 cells slots) {Q : State → Prop} {i : Int} (hi : 0 ≤ i ∧ i + 9 ≤ L) {ls : Array Slot} (hl : lv_has ls 4 [(3, .int (J i)), (0, .ref b), (1, .ref (q 0)), (2, .ref o)]) (kk : ∀ (u : CS) (v : MS) (H : Heap) (locs : List Loc), lI s D q o q2 u v H locs (i + 9) → W p l en room_1 s mi #[.ref b] below meth co H locs cells slots Q (F0 mi 1299 ls [])) (u : CS) (v : MS) (H : Heap) (locs : List Loc) (hI : lI s D q o q2 u v H locs i) : W p l en room_1 s mi #[.ref b] below meth co H locs cells slots Q (F0 mi 415 ls []) := by
  obtain ⟨S, hG, hX, hbl, hL, hD1, hD2, hA1, hA2, hx, hc1, hc2⟩ := K
  have hx2 : ∀ a, A2 a → ¬ A1 a := fun a h2 h1 => hx a h1 h2
  obtain ⟨⟨hE, hH, hFI⟩, hC, hM, hP1, hP2, hS⟩ := hI
  have hF0 := hFI.1
  have hU0 := hFI.2
  have hC9 := hC
  have hE0 := hE
  have hH0 := hH
  refine lv_aload_n S.1 S.2.1 dL_law_415 rfl (lv_at hl 2 rfl) ?_
  refine lv_aload_n S.1 S.2.1 dL_law_416 rfl (lv_at hl 1 rfl) ?_
  refine lv_iload_n S.1 S.2.1 dL_law_417 rfl (lv_at hl 0 rfl) ?_
  refine j_iconst S dL_law_418 ?_
  refine j_iadd S (x := i) (y := 1) dL_law_419 ?_
  refine lw_sld9 S hX hbl hL hS (z := (i + 1)) (by omega) dL_law_420 ?_
  refine lv_aload_n S.1 S.2.1 dL_law_421 rfl (lv_at hl 1 rfl) ?_
  refine lv_iload_n S.1 S.2.1 dL_law_422 rfl (lv_at hl 0 rfl) ?_
  refine j_iconst S dL_law_423 ?_
  refine j_iadd S (x := i) (y := 2) dL_law_424 ?_
  refine lw_sld9 S hX hbl hL hS (z := (i + 2)) (by omega) dL_law_425 ?_
  refine lv_aload_n S.1 S.2.1 dL_law_426 rfl (lv_at hl 1 rfl) ?_
  refine lv_iload_n S.1 S.2.1 dL_law_427 rfl (lv_at hl 0 rfl) ?_
  refine j_iconst S dL_law_428 ?_
  refine j_iadd S (x := i) (y := 3) dL_law_429 ?_
  refine lw_sld9 S hX hbl hL hS (z := (i + 3)) (by omega) dL_law_430 ?_
  refine j_vRi S (As := [.int (J (sx xs (i + 1))), .int (J (sx xs (i + 2))), .int (J (sx xs (i + 3)))]) (rest := []) (c_X11_pointN l D q u (sx xs (i + 1)) (sx xs (i + 2)) (sx xs (i + 3)) hC sx_r sx_r sx_r) mf_X11_point kw_614 hG hP1 hP1 (ci := 11) (q0 := 0) rfl rfl rfl rfl hl.1 ⟨⟨(Nat.le_of_ble_eq_true rfl), (Nat.le_of_ble_eq_true rfl)⟩, (Nat.le_of_ble_eq_true rfl), hc1, hc2⟩ rfl dL_law_431 (fun z_431 h_431 => ?_)
  refine lv_pop S.1 S.2.1 dL_law_434 rfl ?_
  refine lv_aload_n S.1 S.2.1 dL_law_435 rfl (lv_at hl 3 rfl) ?_
  refine lv_aload_n S.1 S.2.1 dL_law_436 rfl (lv_at hl 1 rfl) ?_
  refine lv_iload_n S.1 S.2.1 dL_law_437 rfl (lv_at hl 0 rfl) ?_
  refine j_iconst S dL_law_438 ?_
  refine j_iadd S (x := i) (y := 1) dL_law_439 ?_
  refine lw_sld9 S hX hbl hL hS (z := (i + 1)) (by omega) dL_law_440 ?_
  refine lv_aload_n S.1 S.2.1 dL_law_441 rfl (lv_at hl 1 rfl) ?_
  refine lv_iload_n S.1 S.2.1 dL_law_442 rfl (lv_at hl 0 rfl) ?_
  refine j_iconst S dL_law_443 ?_
  refine j_iadd S (x := i) (y := 2) dL_law_444 ?_
  refine lw_sld9 S hX hbl hL hS (z := (i + 2)) (by omega) dL_law_445 ?_
  refine lv_aload_n S.1 S.2.1 dL_law_446 rfl (lv_at hl 1 rfl) ?_
  refine lv_iload_n S.1 S.2.1 dL_law_447 rfl (lv_at hl 0 rfl) ?_
  refine j_iconst S dL_law_448 ?_
  refine j_iadd S (x := i) (y := 3) dL_law_449 ?_
  refine lw_sld9 S hX hbl hL hS (z := (i + 3)) (by omega) dL_law_450 ?_
  refine j_vWi S (As := [.int (J (sx xs (i + 1))), .int (J (sx xs (i + 2))), .int (J (sx xs (i + 3)))]) (rest := []) (c_X12_point2 l D o q2 v A2 (mW_D hD2) (sx xs (i + 1)) (sx xs (i + 2)) (sx xs (i + 3)) hM sx_r sx_r sx_r) mf_X12_point kw_1262 hG hP2 hP2 (ci := 8) (q0 := 0) rfl rfl rfl hS hA2 rfl hl.1 ⟨⟨(Nat.le_of_ble_eq_true rfl), (Nat.le_of_ble_eq_true rfl)⟩, (Nat.le_of_ble_eq_true rfl), hc1, hc2⟩ rfl dL_law_451 (fun z_451 w_451 H9 locs h_451 hB hF hS => ?_)
  have hP1 := lw_keep hP1 (cW_D (v := u) hD1) hx hF
  have hP2 : va_P D.1 j_cl (mW D o q2 w_451) H9 := hB
  obtain ⟨_, _, _, e_451, h_451⟩ := h_451
  have hM : IM w_451 := by first | exact h_451.1 | exact h_451.2 | exact h_451
  have hH : EQH u w_451 := EQH_s hH hs_refl (by rw [e_451]; rfl)
  have hE : EQS u w_451 := EQS_s hE cs_refl (by rw [e_451]; exact ⟨rfl, rfl, rfl⟩)
  refine lv_pop S.1 S.2.1 dL_law_454 rfl ?_
  refine lv_goto (tgt := 1299) S.1 S.2.1 dL_law_455 (by decide) ?_
  have hF9 : FV u (i + 9) := FV_w hFI (by omega)
  exact kk _ _ _ _ ⟨⟨hE, hH, hF9⟩, hC, hM, hP1, hP2, hS⟩

set_option maxHeartbeats 4000000 in
set_option maxRecDepth 100000 in
theorem lc_8 {p : Program} {l : Launch} {en : Env} {s : State} {mi : MethodId} {below : List Frame} {meth : Method} {co : Code} {b L : Nat} {xs : Nat → Int32} {D : JD} {q : Nat → Nat} {o : Nat} {q2 : Nat → Nat} {A1 A2 : Nat → Prop} {cells slots : Nat} (K : lK p s mi co b L xs D q o q2 A1 A2 cells slots) {Q : State → Prop} {i : Int} (hi : 0 ≤ i ∧ i + 9 ≤ L) {ls : Array Slot} (hl : lv_has ls 4 [(3, .int (J i)), (0, .ref b), (1, .ref (q 0)), (2, .ref o)]) (kk : ∀ (u : CS) (v : MS) (H : Heap) (locs : List Loc), lI s D q o q2 u v H locs (i + 9) → W p l en room_1 s mi #[.ref b] below meth co H locs cells slots Q (F0 mi 1299 ls [])) (u : CS) (v : MS) (H : Heap) (locs : List Loc) (hI : lI s D q o q2 u v H locs i) : W p l en room_1 s mi #[.ref b] below meth co H locs cells slots Q (F0 mi 458 ls []) := by
  obtain ⟨S, hG, hX, hbl, hL, hD1, hD2, hA1, hA2, hx, hc1, hc2⟩ := K
  have hx2 : ∀ a, A2 a → ¬ A1 a := fun a h2 h1 => hx a h1 h2
  obtain ⟨⟨hE, hH, hFI⟩, hC, hM, hP1, hP2, hS⟩ := hI
  have hF0 := hFI.1
  have hU0 := hFI.2
  have hC9 := hC
  have hE0 := hE
  have hH0 := hH
  refine lv_aload_n S.1 S.2.1 dL_law_458 rfl (lv_at hl 2 rfl) ?_
  refine lv_aload_n S.1 S.2.1 dL_law_459 rfl (lv_at hl 1 rfl) ?_
  refine lv_iload_n S.1 S.2.1 dL_law_460 rfl (lv_at hl 0 rfl) ?_
  refine j_iconst S dL_law_461 ?_
  refine j_iadd S (x := i) (y := 1) dL_law_462 ?_
  refine lw_sld9 S hX hbl hL hS (z := (i + 1)) (by omega) dL_law_463 ?_
  refine lv_aload_n S.1 S.2.1 dL_law_464 rfl (lv_at hl 1 rfl) ?_
  refine lv_iload_n S.1 S.2.1 dL_law_465 rfl (lv_at hl 0 rfl) ?_
  refine j_iconst S dL_law_466 ?_
  refine j_iadd S (x := i) (y := 2) dL_law_467 ?_
  refine lw_sld9 S hX hbl hL hS (z := (i + 2)) (by omega) dL_law_468 ?_
  refine lv_aload_n S.1 S.2.1 dL_law_469 rfl (lv_at hl 1 rfl) ?_
  refine lv_iload_n S.1 S.2.1 dL_law_470 rfl (lv_at hl 0 rfl) ?_
  refine j_iconst S dL_law_471 ?_
  refine j_iadd S (x := i) (y := 3) dL_law_472 ?_
  refine lw_sld9 S hX hbl hL hS (z := (i + 3)) (by omega) dL_law_473 ?_
  refine j_vRi S (As := [.int (J (sx xs (i + 1))), .int (J (sx xs (i + 2))), .int (J (sx xs (i + 3)))]) (rest := []) (c_X11_widthN l D q u (sx xs (i + 1)) (sx xs (i + 2)) (sx xs (i + 3)) hC sx_r sx_r sx_r) mf_X11_width kw_623 hG hP1 hP1 (ci := 11) (q0 := 0) rfl rfl rfl rfl hl.1 ⟨⟨(Nat.le_of_ble_eq_true rfl), (Nat.le_of_ble_eq_true rfl)⟩, (Nat.le_of_ble_eq_true rfl), hc1, hc2⟩ rfl dL_law_474 (fun z_474 h_474 => ?_)
  refine lv_pop S.1 S.2.1 dL_law_477 rfl ?_
  refine lv_aload_n S.1 S.2.1 dL_law_478 rfl (lv_at hl 3 rfl) ?_
  refine lv_aload_n S.1 S.2.1 dL_law_479 rfl (lv_at hl 1 rfl) ?_
  refine lv_iload_n S.1 S.2.1 dL_law_480 rfl (lv_at hl 0 rfl) ?_
  refine j_iconst S dL_law_481 ?_
  refine j_iadd S (x := i) (y := 1) dL_law_482 ?_
  refine lw_sld9 S hX hbl hL hS (z := (i + 1)) (by omega) dL_law_483 ?_
  refine lv_aload_n S.1 S.2.1 dL_law_484 rfl (lv_at hl 1 rfl) ?_
  refine lv_iload_n S.1 S.2.1 dL_law_485 rfl (lv_at hl 0 rfl) ?_
  refine j_iconst S dL_law_486 ?_
  refine j_iadd S (x := i) (y := 2) dL_law_487 ?_
  refine lw_sld9 S hX hbl hL hS (z := (i + 2)) (by omega) dL_law_488 ?_
  refine lv_aload_n S.1 S.2.1 dL_law_489 rfl (lv_at hl 1 rfl) ?_
  refine lv_iload_n S.1 S.2.1 dL_law_490 rfl (lv_at hl 0 rfl) ?_
  refine j_iconst S dL_law_491 ?_
  refine j_iadd S (x := i) (y := 3) dL_law_492 ?_
  refine lw_sld9 S hX hbl hL hS (z := (i + 3)) (by omega) dL_law_493 ?_
  refine j_vRi S (As := [.int (J (sx xs (i + 1))), .int (J (sx xs (i + 2))), .int (J (sx xs (i + 3)))]) (rest := []) (c_X12_width2 l D o q2 v (sx xs (i + 1)) (sx xs (i + 2)) (sx xs (i + 3)) hM sx_r sx_r sx_r) mf_X12_width kw_1270 hG hP2 hP2 (ci := 8) (q0 := 0) rfl rfl rfl rfl hl.1 ⟨⟨(Nat.le_of_ble_eq_true rfl), (Nat.le_of_ble_eq_true rfl)⟩, (Nat.le_of_ble_eq_true rfl), hc1, hc2⟩ rfl dL_law_494 (fun z_494 h_494 => ?_)
  refine lv_pop S.1 S.2.1 dL_law_497 rfl ?_
  refine lv_goto (tgt := 1299) S.1 S.2.1 dL_law_498 (by decide) ?_
  have hF9 : FV u (i + 9) := FV_w hFI (by omega)
  exact kk _ _ _ _ ⟨⟨hE, hH, hF9⟩, hC, hM, hP1, hP2, hS⟩

set_option maxHeartbeats 4000000 in
set_option maxRecDepth 100000 in
theorem lc_9 {p : Program} {l : Launch} {en : Env} {s : State} {mi : MethodId} {below : List Frame} {meth : Method} {co : Code} {b L : Nat} {xs : Nat → Int32} {D : JD} {q : Nat → Nat} {o : Nat} {q2 : Nat → Nat} {A1 A2 : Nat → Prop} {cells slots : Nat} (K : lK p s mi co b L xs D q o q2 A1 A2 cells slots) {Q : State → Prop} {i : Int} (hi : 0 ≤ i ∧ i + 9 ≤ L) {ls : Array Slot} (hl : lv_has ls 4 [(3, .int (J i)), (0, .ref b), (1, .ref (q 0)), (2, .ref o)]) (kk : ∀ (u : CS) (v : MS) (H : Heap) (locs : List Loc), lI s D q o q2 u v H locs (i + 9) → W p l en room_1 s mi #[.ref b] below meth co H locs cells slots Q (F0 mi 1299 ls [])) (u : CS) (v : MS) (H : Heap) (locs : List Loc) (hI : lI s D q o q2 u v H locs i) : W p l en room_1 s mi #[.ref b] below meth co H locs cells slots Q (F0 mi 501 ls []) := by
  obtain ⟨S, hG, hX, hbl, hL, hD1, hD2, hA1, hA2, hx, hc1, hc2⟩ := K
  have hx2 : ∀ a, A2 a → ¬ A1 a := fun a h2 h1 => hx a h1 h2
  obtain ⟨⟨hE, hH, hFI⟩, hC, hM, hP1, hP2, hS⟩ := hI
  have hF0 := hFI.1
  have hU0 := hFI.2
  have hC9 := hC
  have hE0 := hE
  have hH0 := hH
  refine lv_aload_n S.1 S.2.1 dL_law_501 rfl (lv_at hl 2 rfl) ?_
  refine lv_aload_n S.1 S.2.1 dL_law_502 rfl (lv_at hl 1 rfl) ?_
  refine lv_iload_n S.1 S.2.1 dL_law_503 rfl (lv_at hl 0 rfl) ?_
  refine j_iconst S dL_law_504 ?_
  refine j_iadd S (x := i) (y := 1) dL_law_505 ?_
  refine lw_sld9 S hX hbl hL hS (z := (i + 1)) (by omega) dL_law_506 ?_
  refine lv_aload_n S.1 S.2.1 dL_law_507 rfl (lv_at hl 1 rfl) ?_
  refine lv_iload_n S.1 S.2.1 dL_law_508 rfl (lv_at hl 0 rfl) ?_
  refine j_iconst S dL_law_509 ?_
  refine j_iadd S (x := i) (y := 2) dL_law_510 ?_
  refine lw_sld9 S hX hbl hL hS (z := (i + 2)) (by omega) dL_law_511 ?_
  refine j_vWi S (As := [.int (J (sx xs (i + 1))), .int (J (sx xs (i + 2)))]) (rest := []) (c_X11_leastF l D q u A1 (cW_D hD1) (sx xs (i + 1)) (sx xs (i + 2)) hC sx_r sx_r) mf_X11_least kw_635 hG hP1 hP1 (ci := 11) (q0 := 0) rfl rfl rfl hS hA1 rfl hl.1 ⟨⟨(Nat.le_of_ble_eq_true rfl), (Nat.le_of_ble_eq_true rfl)⟩, (Nat.le_of_ble_eq_true rfl), hc1, hc2⟩ rfl dL_law_512 (fun z_512 w_512 H9 locs h_512 hB hF hS => ?_)
  obtain ⟨h_512, hh_512⟩ := h_512
  have hP2 := lw_keep hP2 (mW_D (v := v) hD2) hx2 hF
  have hP1 : va_P D.1 j_cl (cW D q w_512) H9 := hB
  have hC : CI w_512 := by first | exact h_512.1 | exact h_512.2.1
  have hE : EQS w_512 v := EQS_s hE (by first | exact h_512.2 | exact h_512.2.2) ms_refl
  have hH : EQH w_512 v := EQH_s hH hh_512.1 rfl
  have hF9 : FV w_512 (i + 9) := FV_s hFI (by omega) (by first | exact h_512.2 | exact h_512.2.2) hh_512.1 hh_512.2.1 hh_512.2.2.1 hh_512.2.2.2
  refine lv_pop S.1 S.2.1 dL_law_515 rfl ?_
  refine lv_aload_n S.1 S.2.1 dL_law_516 rfl (lv_at hl 3 rfl) ?_
  refine lv_aload_n S.1 S.2.1 dL_law_517 rfl (lv_at hl 1 rfl) ?_
  refine lv_iload_n S.1 S.2.1 dL_law_518 rfl (lv_at hl 0 rfl) ?_
  refine j_iconst S dL_law_519 ?_
  refine j_iadd S (x := i) (y := 1) dL_law_520 ?_
  refine lw_sld9 S hX hbl hL hS (z := (i + 1)) (by omega) dL_law_521 ?_
  refine lv_aload_n S.1 S.2.1 dL_law_522 rfl (lv_at hl 1 rfl) ?_
  refine lv_iload_n S.1 S.2.1 dL_law_523 rfl (lv_at hl 0 rfl) ?_
  refine j_iconst S dL_law_524 ?_
  refine j_iadd S (x := i) (y := 2) dL_law_525 ?_
  refine lw_sld9 S hX hbl hL hS (z := (i + 2)) (by omega) dL_law_526 ?_
  refine j_vRi S (As := [.int (J (sx xs (i + 1))), .int (J (sx xs (i + 2)))]) (rest := []) (c_X12_least3 l D o q2 v (sx xs (i + 1)) (sx xs (i + 2)) hM sx_r sx_r) mf_X12_least kw_1281 hG hP2 hP2 (ci := 8) (q0 := 0) rfl rfl rfl rfl hl.1 ⟨⟨(Nat.le_of_ble_eq_true rfl), (Nat.le_of_ble_eq_true rfl)⟩, (Nat.le_of_ble_eq_true rfl), hc1, hc2⟩ rfl dL_law_527 (fun z_527 h_527 => ?_)
  refine lv_pop S.1 S.2.1 dL_law_530 rfl ?_
  refine lv_goto (tgt := 1299) S.1 S.2.1 dL_law_531 (by decide) ?_
  exact kk _ _ _ _ ⟨⟨hE, hH, hF9⟩, hC, hM, hP1, hP2, hS⟩

set_option maxHeartbeats 4000000 in
set_option maxRecDepth 100000 in
theorem lc_10 {p : Program} {l : Launch} {en : Env} {s : State} {mi : MethodId} {below : List Frame} {meth : Method} {co : Code} {b L : Nat} {xs : Nat → Int32} {D : JD} {q : Nat → Nat} {o : Nat} {q2 : Nat → Nat} {A1 A2 : Nat → Prop} {cells slots : Nat} (K : lK p s mi co b L xs D q o q2 A1 A2 cells slots) {Q : State → Prop} {i : Int} (hi : 0 ≤ i ∧ i + 9 ≤ L) {ls : Array Slot} (hl : lv_has ls 4 [(3, .int (J i)), (0, .ref b), (1, .ref (q 0)), (2, .ref o)]) (kk : ∀ (u : CS) (v : MS) (H : Heap) (locs : List Loc), lI s D q o q2 u v H locs (i + 9) → W p l en room_1 s mi #[.ref b] below meth co H locs cells slots Q (F0 mi 1299 ls [])) (u : CS) (v : MS) (H : Heap) (locs : List Loc) (hI : lI s D q o q2 u v H locs i) : W p l en room_1 s mi #[.ref b] below meth co H locs cells slots Q (F0 mi 534 ls []) := by
  obtain ⟨S, hG, hX, hbl, hL, hD1, hD2, hA1, hA2, hx, hc1, hc2⟩ := K
  have hx2 : ∀ a, A2 a → ¬ A1 a := fun a h2 h1 => hx a h1 h2
  obtain ⟨⟨hE, hH, hFI⟩, hC, hM, hP1, hP2, hS⟩ := hI
  have hF0 := hFI.1
  have hU0 := hFI.2
  have hC9 := hC
  have hE0 := hE
  have hH0 := hH
  refine lv_aload_n S.1 S.2.1 dL_law_534 rfl (lv_at hl 2 rfl) ?_
  refine lv_aload_n S.1 S.2.1 dL_law_535 rfl (lv_at hl 1 rfl) ?_
  refine lv_iload_n S.1 S.2.1 dL_law_536 rfl (lv_at hl 0 rfl) ?_
  refine j_iconst S dL_law_537 ?_
  refine j_iadd S (x := i) (y := 1) dL_law_538 ?_
  refine lw_sld9 S hX hbl hL hS (z := (i + 1)) (by omega) dL_law_539 ?_
  refine lv_aload_n S.1 S.2.1 dL_law_540 rfl (lv_at hl 1 rfl) ?_
  refine lv_iload_n S.1 S.2.1 dL_law_541 rfl (lv_at hl 0 rfl) ?_
  refine j_iconst S dL_law_542 ?_
  refine j_iadd S (x := i) (y := 2) dL_law_543 ?_
  refine lw_sld9 S hX hbl hL hS (z := (i + 2)) (by omega) dL_law_544 ?_
  refine lv_aload_n S.1 S.2.1 dL_law_545 rfl (lv_at hl 1 rfl) ?_
  refine lv_iload_n S.1 S.2.1 dL_law_546 rfl (lv_at hl 0 rfl) ?_
  refine j_iconst S dL_law_547 ?_
  refine j_iadd S (x := i) (y := 3) dL_law_548 ?_
  refine lw_sld9 S hX hbl hL hS (z := (i + 3)) (by omega) dL_law_549 ?_
  refine lv_aload_n S.1 S.2.1 dL_law_550 rfl (lv_at hl 1 rfl) ?_
  refine lv_iload_n S.1 S.2.1 dL_law_551 rfl (lv_at hl 0 rfl) ?_
  refine j_iconst S dL_law_552 ?_
  refine j_iadd S (x := i) (y := 4) dL_law_553 ?_
  refine lw_sld9 S hX hbl hL hS (z := (i + 4)) (by omega) dL_law_554 ?_
  refine lv_aload_n S.1 S.2.1 dL_law_555 rfl (lv_at hl 1 rfl) ?_
  refine lv_iload_n S.1 S.2.1 dL_law_556 rfl (lv_at hl 0 rfl) ?_
  refine j_iconst S dL_law_557 ?_
  refine j_iadd S (x := i) (y := 5) dL_law_558 ?_
  refine lw_sld9 S hX hbl hL hS (z := (i + 5)) (by omega) dL_law_559 ?_
  refine lv_aload_n S.1 S.2.1 dL_law_560 rfl (lv_at hl 1 rfl) ?_
  refine lv_iload_n S.1 S.2.1 dL_law_561 rfl (lv_at hl 0 rfl) ?_
  refine j_bipush S dL_law_562 (by decide +kernel) ?_
  refine j_iadd S (x := i) (y := 6) dL_law_564 ?_
  refine lw_sld9 S hX hbl hL hS (z := (i + 6)) (by omega) dL_law_565 ?_
  refine lv_aload_n S.1 S.2.1 dL_law_566 rfl (lv_at hl 1 rfl) ?_
  refine lv_iload_n S.1 S.2.1 dL_law_567 rfl (lv_at hl 0 rfl) ?_
  refine j_bipush S dL_law_568 (by decide +kernel) ?_
  refine j_iadd S (x := i) (y := 7) dL_law_570 ?_
  refine lw_sld9 S hX hbl hL hS (z := (i + 7)) (by omega) dL_law_571 ?_
  refine lv_aload_n S.1 S.2.1 dL_law_572 rfl (lv_at hl 1 rfl) ?_
  refine lv_iload_n S.1 S.2.1 dL_law_573 rfl (lv_at hl 0 rfl) ?_
  refine j_bipush S dL_law_574 (by decide +kernel) ?_
  refine j_iadd S (x := i) (y := 8) dL_law_576 ?_
  refine lw_sld9 S hX hbl hL hS (z := (i + 8)) (by omega) dL_law_577 ?_
  refine j_vWi S (As := [.int (J (sx xs (i + 1))), .int (J (sx xs (i + 2))), .int (J (sx xs (i + 3))), .int (J (sx xs (i + 4))), .int (J (sx xs (i + 5))), .int (J (sx xs (i + 6))), .int (J (sx xs (i + 7))), .int (J (sx xs (i + 8)))]) (rest := []) (c_X11_mapF l D q u A1 (cW_D hD1) (sx xs (i + 1)) (sx xs (i + 2)) (sx xs (i + 3)) (sx xs (i + 4)) (sx xs (i + 5)) (sx xs (i + 6)) (sx xs (i + 7)) (sx xs (i + 8)) hC sx_r sx_r sx_r sx_r sx_r sx_r sx_r sx_r) mf_X11_map kw_652 hG hP1 hP1 (ci := 11) (q0 := 0) rfl rfl rfl hS hA1 rfl hl.1 ⟨⟨(Nat.le_of_ble_eq_true rfl), (Nat.le_of_ble_eq_true rfl)⟩, (Nat.le_of_ble_eq_true rfl), hc1, hc2⟩ rfl dL_law_578 (fun z_578 w_578 H9 locs h_578 hB hF hS => ?_)
  obtain ⟨h_578, hh_578⟩ := h_578
  have hP2 := lw_keep hP2 (mW_D (v := v) hD2) hx2 hF
  have hP1 : va_P D.1 j_cl (cW D q w_578) H9 := hB
  have hC : CI w_578 := by first | exact h_578.1 | exact h_578.2.1
  have hF9 : FV w_578 (i + 9) := FV_m (t := (sx xs (i + 2)).toNat) hFI (by omega) (by omega) (cOt_mp  h_578.2) hh_578
  refine lv_pop S.1 S.2.1 dL_law_581 rfl ?_
  refine lv_aload_n S.1 S.2.1 dL_law_582 rfl (lv_at hl 3 rfl) ?_
  refine lv_aload_n S.1 S.2.1 dL_law_583 rfl (lv_at hl 1 rfl) ?_
  refine lv_iload_n S.1 S.2.1 dL_law_584 rfl (lv_at hl 0 rfl) ?_
  refine j_iconst S dL_law_585 ?_
  refine j_iadd S (x := i) (y := 1) dL_law_586 ?_
  refine lw_sld9 S hX hbl hL hS (z := (i + 1)) (by omega) dL_law_587 ?_
  refine lv_aload_n S.1 S.2.1 dL_law_588 rfl (lv_at hl 1 rfl) ?_
  refine lv_iload_n S.1 S.2.1 dL_law_589 rfl (lv_at hl 0 rfl) ?_
  refine j_iconst S dL_law_590 ?_
  refine j_iadd S (x := i) (y := 2) dL_law_591 ?_
  refine lw_sld9 S hX hbl hL hS (z := (i + 2)) (by omega) dL_law_592 ?_
  refine lv_aload_n S.1 S.2.1 dL_law_593 rfl (lv_at hl 1 rfl) ?_
  refine lv_iload_n S.1 S.2.1 dL_law_594 rfl (lv_at hl 0 rfl) ?_
  refine j_iconst S dL_law_595 ?_
  refine j_iadd S (x := i) (y := 3) dL_law_596 ?_
  refine lw_sld9 S hX hbl hL hS (z := (i + 3)) (by omega) dL_law_597 ?_
  refine lv_aload_n S.1 S.2.1 dL_law_598 rfl (lv_at hl 1 rfl) ?_
  refine lv_iload_n S.1 S.2.1 dL_law_599 rfl (lv_at hl 0 rfl) ?_
  refine j_iconst S dL_law_600 ?_
  refine j_iadd S (x := i) (y := 4) dL_law_601 ?_
  refine lw_sld9 S hX hbl hL hS (z := (i + 4)) (by omega) dL_law_602 ?_
  refine lv_aload_n S.1 S.2.1 dL_law_603 rfl (lv_at hl 1 rfl) ?_
  refine lv_iload_n S.1 S.2.1 dL_law_604 rfl (lv_at hl 0 rfl) ?_
  refine j_iconst S dL_law_605 ?_
  refine j_iadd S (x := i) (y := 5) dL_law_606 ?_
  refine lw_sld9 S hX hbl hL hS (z := (i + 5)) (by omega) dL_law_607 ?_
  refine lv_aload_n S.1 S.2.1 dL_law_608 rfl (lv_at hl 1 rfl) ?_
  refine lv_iload_n S.1 S.2.1 dL_law_609 rfl (lv_at hl 0 rfl) ?_
  refine j_bipush S dL_law_610 (by decide +kernel) ?_
  refine j_iadd S (x := i) (y := 6) dL_law_612 ?_
  refine lw_sld9 S hX hbl hL hS (z := (i + 6)) (by omega) dL_law_613 ?_
  refine lv_aload_n S.1 S.2.1 dL_law_614 rfl (lv_at hl 1 rfl) ?_
  refine lv_iload_n S.1 S.2.1 dL_law_615 rfl (lv_at hl 0 rfl) ?_
  refine j_bipush S dL_law_616 (by decide +kernel) ?_
  refine j_iadd S (x := i) (y := 7) dL_law_618 ?_
  refine lw_sld9 S hX hbl hL hS (z := (i + 7)) (by omega) dL_law_619 ?_
  refine lv_aload_n S.1 S.2.1 dL_law_620 rfl (lv_at hl 1 rfl) ?_
  refine lv_iload_n S.1 S.2.1 dL_law_621 rfl (lv_at hl 0 rfl) ?_
  refine j_bipush S dL_law_622 (by decide +kernel) ?_
  refine j_iadd S (x := i) (y := 8) dL_law_624 ?_
  refine lw_sld9 S hX hbl hL hS (z := (i + 8)) (by omega) dL_law_625 ?_
  refine j_vWi S (As := [.int (J (sx xs (i + 1))), .int (J (sx xs (i + 2))), .int (J (sx xs (i + 3))), .int (J (sx xs (i + 4))), .int (J (sx xs (i + 5))), .int (J (sx xs (i + 6))), .int (J (sx xs (i + 7))), .int (J (sx xs (i + 8)))]) (rest := []) (c_X12_mapH l D o q2 v A2 (mW_D hD2) (sx xs (i + 1)) (sx xs (i + 2)) (sx xs (i + 3)) (sx xs (i + 4)) (sx xs (i + 5)) (sx xs (i + 6)) (sx xs (i + 7)) (sx xs (i + 8)) hM sx_r sx_r sx_r sx_r sx_r sx_r sx_r sx_r) mf_X12_map kw_1285 hG hP2 hP2 (ci := 8) (q0 := 0) rfl rfl rfl hS hA2 rfl hl.1 ⟨⟨(Nat.le_of_ble_eq_true rfl), (Nat.le_of_ble_eq_true rfl)⟩, (Nat.le_of_ble_eq_true rfl), hc1, hc2⟩ rfl dL_law_626 (fun z_626 w_626 H9 locs h_626 hB hF hS => ?_)
  have hP1 := lw_keep hP1 (cW_D (v := w_578) hD1) hx hF
  have hP2 : va_P D.1 j_cl (mW D o q2 w_626) H9 := hB
  obtain ⟨_, _, _, _, _, _, _, _, _, _, e_626, h_626⟩ := h_626
  obtain ⟨h_626, hh_626⟩ := h_626
  have hM : IM w_626 := by first | exact h_626.1 | exact h_626.2 | exact h_626
  have hq := EQ_mp hE h_578.2 h_626.2
  have hH : EQH w_578 w_626 := EQH_r (t := (sx xs (i + 2))) hH (fun q9 => by rcases h_578.2 with ⟨_, k9, _⟩ | k9; omega; exact k9.2.1) hh_578.1 hh_626 hq.1
  have hE : EQS w_578 w_626 := (EQS_mp hE h_578.2 h_626.2).2
  refine lv_pop S.1 S.2.1 dL_law_629 rfl ?_
  refine lv_goto (tgt := 1299) S.1 S.2.1 dL_law_630 (by decide) ?_
  exact kk _ _ _ _ ⟨⟨hE, hH, hF9⟩, hC, hM, hP1, hP2, hS⟩

set_option maxHeartbeats 4000000 in
set_option maxRecDepth 100000 in
theorem lc_11 {p : Program} {l : Launch} {en : Env} {s : State} {mi : MethodId} {below : List Frame} {meth : Method} {co : Code} {b L : Nat} {xs : Nat → Int32} {D : JD} {q : Nat → Nat} {o : Nat} {q2 : Nat → Nat} {A1 A2 : Nat → Prop} {cells slots : Nat} (K : lK p s mi co b L xs D q o q2 A1 A2 cells slots) {Q : State → Prop} {i : Int} (hi : 0 ≤ i ∧ i + 9 ≤ L) {ls : Array Slot} (hl : lv_has ls 4 [(3, .int (J i)), (0, .ref b), (1, .ref (q 0)), (2, .ref o)]) (kk : ∀ (u : CS) (v : MS) (H : Heap) (locs : List Loc), lI s D q o q2 u v H locs (i + 9) → W p l en room_1 s mi #[.ref b] below meth co H locs cells slots Q (F0 mi 1299 ls [])) (u : CS) (v : MS) (H : Heap) (locs : List Loc) (hI : lI s D q o q2 u v H locs i) : W p l en room_1 s mi #[.ref b] below meth co H locs cells slots Q (F0 mi 633 ls []) := by
  obtain ⟨S, hG, hX, hbl, hL, hD1, hD2, hA1, hA2, hx, hc1, hc2⟩ := K
  have hx2 : ∀ a, A2 a → ¬ A1 a := fun a h2 h1 => hx a h1 h2
  obtain ⟨⟨hE, hH, hFI⟩, hC, hM, hP1, hP2, hS⟩ := hI
  have hF0 := hFI.1
  have hU0 := hFI.2
  have hC9 := hC
  have hE0 := hE
  have hH0 := hH
  refine lv_aload_n S.1 S.2.1 dL_law_633 rfl (lv_at hl 2 rfl) ?_
  refine lv_aload_n S.1 S.2.1 dL_law_634 rfl (lv_at hl 1 rfl) ?_
  refine lv_iload_n S.1 S.2.1 dL_law_635 rfl (lv_at hl 0 rfl) ?_
  refine j_iconst S dL_law_636 ?_
  refine j_iadd S (x := i) (y := 1) dL_law_637 ?_
  refine lw_sld9 S hX hbl hL hS (z := (i + 1)) (by omega) dL_law_638 ?_
  refine lv_aload_n S.1 S.2.1 dL_law_639 rfl (lv_at hl 1 rfl) ?_
  refine lv_iload_n S.1 S.2.1 dL_law_640 rfl (lv_at hl 0 rfl) ?_
  refine j_iconst S dL_law_641 ?_
  refine j_iadd S (x := i) (y := 2) dL_law_642 ?_
  refine lw_sld9 S hX hbl hL hS (z := (i + 2)) (by omega) dL_law_643 ?_
  refine j_vRi S (As := [.int (J (sx xs (i + 1))), .int (J (sx xs (i + 2)))]) (rest := []) (c_X11_mapsN l D q u (sx xs (i + 1)) (sx xs (i + 2)) hC sx_r sx_r) mf_X11_maps kw_656 hG hP1 hP1 (ci := 11) (q0 := 0) rfl rfl rfl rfl hl.1 ⟨⟨(Nat.le_of_ble_eq_true rfl), (Nat.le_of_ble_eq_true rfl)⟩, (Nat.le_of_ble_eq_true rfl), hc1, hc2⟩ rfl dL_law_644 (fun z_644 h_644 => ?_)
  refine lv_pop S.1 S.2.1 dL_law_647 rfl ?_
  refine lv_aload_n S.1 S.2.1 dL_law_648 rfl (lv_at hl 3 rfl) ?_
  refine lv_aload_n S.1 S.2.1 dL_law_649 rfl (lv_at hl 1 rfl) ?_
  refine lv_iload_n S.1 S.2.1 dL_law_650 rfl (lv_at hl 0 rfl) ?_
  refine j_iconst S dL_law_651 ?_
  refine j_iadd S (x := i) (y := 1) dL_law_652 ?_
  refine lw_sld9 S hX hbl hL hS (z := (i + 1)) (by omega) dL_law_653 ?_
  refine lv_aload_n S.1 S.2.1 dL_law_654 rfl (lv_at hl 1 rfl) ?_
  refine lv_iload_n S.1 S.2.1 dL_law_655 rfl (lv_at hl 0 rfl) ?_
  refine j_iconst S dL_law_656 ?_
  refine j_iadd S (x := i) (y := 2) dL_law_657 ?_
  refine lw_sld9 S hX hbl hL hS (z := (i + 2)) (by omega) dL_law_658 ?_
  refine j_vRi S (As := [.int (J (sx xs (i + 1))), .int (J (sx xs (i + 2)))]) (rest := []) (c_X12_maps3 l D o q2 v (sx xs (i + 1)) (sx xs (i + 2)) hM sx_r sx_r) mf_X12_maps kw_1289 hG hP2 hP2 (ci := 8) (q0 := 0) rfl rfl rfl rfl hl.1 ⟨⟨(Nat.le_of_ble_eq_true rfl), (Nat.le_of_ble_eq_true rfl)⟩, (Nat.le_of_ble_eq_true rfl), hc1, hc2⟩ rfl dL_law_659 (fun z_659 h_659 => ?_)
  refine lv_pop S.1 S.2.1 dL_law_662 rfl ?_
  refine lv_goto (tgt := 1299) S.1 S.2.1 dL_law_663 (by decide) ?_
  have hF9 : FV u (i + 9) := FV_w hFI (by omega)
  exact kk _ _ _ _ ⟨⟨hE, hH, hF9⟩, hC, hM, hP1, hP2, hS⟩

set_option maxHeartbeats 4000000 in
set_option maxRecDepth 100000 in
theorem lc_12 {p : Program} {l : Launch} {en : Env} {s : State} {mi : MethodId} {below : List Frame} {meth : Method} {co : Code} {b L : Nat} {xs : Nat → Int32} {D : JD} {q : Nat → Nat} {o : Nat} {q2 : Nat → Nat} {A1 A2 : Nat → Prop} {cells slots : Nat} (K : lK p s mi co b L xs D q o q2 A1 A2 cells slots) {Q : State → Prop} {i : Int} (hi : 0 ≤ i ∧ i + 9 ≤ L) {ls : Array Slot} (hl : lv_has ls 4 [(3, .int (J i)), (0, .ref b), (1, .ref (q 0)), (2, .ref o)]) (kk : ∀ (u : CS) (v : MS) (H : Heap) (locs : List Loc), lI s D q o q2 u v H locs (i + 9) → W p l en room_1 s mi #[.ref b] below meth co H locs cells slots Q (F0 mi 1299 ls [])) (u : CS) (v : MS) (H : Heap) (locs : List Loc) (hI : lI s D q o q2 u v H locs i) : W p l en room_1 s mi #[.ref b] below meth co H locs cells slots Q (F0 mi 666 ls []) := by
  obtain ⟨S, hG, hX, hbl, hL, hD1, hD2, hA1, hA2, hx, hc1, hc2⟩ := K
  have hx2 : ∀ a, A2 a → ¬ A1 a := fun a h2 h1 => hx a h1 h2
  obtain ⟨⟨hE, hH, hFI⟩, hC, hM, hP1, hP2, hS⟩ := hI
  have hF0 := hFI.1
  have hU0 := hFI.2
  have hC9 := hC
  have hE0 := hE
  have hH0 := hH
  refine lv_aload_n S.1 S.2.1 dL_law_666 rfl (lv_at hl 2 rfl) ?_
  refine lv_aload_n S.1 S.2.1 dL_law_667 rfl (lv_at hl 1 rfl) ?_
  refine lv_iload_n S.1 S.2.1 dL_law_668 rfl (lv_at hl 0 rfl) ?_
  refine j_iconst S dL_law_669 ?_
  refine j_iadd S (x := i) (y := 1) dL_law_670 ?_
  refine lw_sld9 S hX hbl hL hS (z := (i + 1)) (by omega) dL_law_671 ?_
  refine lv_aload_n S.1 S.2.1 dL_law_672 rfl (lv_at hl 1 rfl) ?_
  refine lv_iload_n S.1 S.2.1 dL_law_673 rfl (lv_at hl 0 rfl) ?_
  refine j_iconst S dL_law_674 ?_
  refine j_iadd S (x := i) (y := 2) dL_law_675 ?_
  refine lw_sld9 S hX hbl hL hS (z := (i + 2)) (by omega) dL_law_676 ?_
  refine j_vRi S (As := [.int (J (sx xs (i + 1))), .int (J (sx xs (i + 2)))]) (rest := []) (c_X11_alikeN l D q u (sx xs (i + 1)) (sx xs (i + 2)) hC sx_r sx_r) mf_X11_alike kw_667 hG hP1 hP1 (ci := 11) (q0 := 0) rfl rfl rfl rfl hl.1 ⟨⟨(Nat.le_of_ble_eq_true rfl), (Nat.le_of_ble_eq_true rfl)⟩, (Nat.le_of_ble_eq_true rfl), hc1, hc2⟩ rfl dL_law_677 (fun z_677 h_677 => ?_)
  refine lv_pop S.1 S.2.1 dL_law_680 rfl ?_
  refine lv_aload_n S.1 S.2.1 dL_law_681 rfl (lv_at hl 3 rfl) ?_
  refine lv_aload_n S.1 S.2.1 dL_law_682 rfl (lv_at hl 1 rfl) ?_
  refine lv_iload_n S.1 S.2.1 dL_law_683 rfl (lv_at hl 0 rfl) ?_
  refine j_iconst S dL_law_684 ?_
  refine j_iadd S (x := i) (y := 1) dL_law_685 ?_
  refine lw_sld9 S hX hbl hL hS (z := (i + 1)) (by omega) dL_law_686 ?_
  refine lv_aload_n S.1 S.2.1 dL_law_687 rfl (lv_at hl 1 rfl) ?_
  refine lv_iload_n S.1 S.2.1 dL_law_688 rfl (lv_at hl 0 rfl) ?_
  refine j_iconst S dL_law_689 ?_
  refine j_iadd S (x := i) (y := 2) dL_law_690 ?_
  refine lw_sld9 S hX hbl hL hS (z := (i + 2)) (by omega) dL_law_691 ?_
  refine j_vRi S (As := [.int (J (sx xs (i + 1))), .int (J (sx xs (i + 2)))]) (rest := []) (c_X12_alike3 l D o q2 v (sx xs (i + 1)) (sx xs (i + 2)) hM sx_r sx_r) mf_X12_alike kw_1301 hG hP2 hP2 (ci := 8) (q0 := 0) rfl rfl rfl rfl hl.1 ⟨⟨(Nat.le_of_ble_eq_true rfl), (Nat.le_of_ble_eq_true rfl)⟩, (Nat.le_of_ble_eq_true rfl), hc1, hc2⟩ rfl dL_law_692 (fun z_692 h_692 => ?_)
  refine lv_pop S.1 S.2.1 dL_law_695 rfl ?_
  refine lv_goto (tgt := 1299) S.1 S.2.1 dL_law_696 (by decide) ?_
  have hF9 : FV u (i + 9) := FV_w hFI (by omega)
  exact kk _ _ _ _ ⟨⟨hE, hH, hF9⟩, hC, hM, hP1, hP2, hS⟩

set_option maxHeartbeats 4000000 in
set_option maxRecDepth 100000 in
theorem lc_13 {p : Program} {l : Launch} {en : Env} {s : State} {mi : MethodId} {below : List Frame} {meth : Method} {co : Code} {b L : Nat} {xs : Nat → Int32} {D : JD} {q : Nat → Nat} {o : Nat} {q2 : Nat → Nat} {A1 A2 : Nat → Prop} {cells slots : Nat} (K : lK p s mi co b L xs D q o q2 A1 A2 cells slots) {Q : State → Prop} {i : Int} (hi : 0 ≤ i ∧ i + 9 ≤ L) {ls : Array Slot} (hl : lv_has ls 4 [(3, .int (J i)), (0, .ref b), (1, .ref (q 0)), (2, .ref o)]) (kk : ∀ (u : CS) (v : MS) (H : Heap) (locs : List Loc), lI s D q o q2 u v H locs (i + 9) → W p l en room_1 s mi #[.ref b] below meth co H locs cells slots Q (F0 mi 1299 ls [])) (u : CS) (v : MS) (H : Heap) (locs : List Loc) (hI : lI s D q o q2 u v H locs i) : W p l en room_1 s mi #[.ref b] below meth co H locs cells slots Q (F0 mi 699 ls []) := by
  obtain ⟨S, hG, hX, hbl, hL, hD1, hD2, hA1, hA2, hx, hc1, hc2⟩ := K
  have hx2 : ∀ a, A2 a → ¬ A1 a := fun a h2 h1 => hx a h1 h2
  obtain ⟨⟨hE, hH, hFI⟩, hC, hM, hP1, hP2, hS⟩ := hI
  have hF0 := hFI.1
  have hU0 := hFI.2
  have hC9 := hC
  have hE0 := hE
  have hH0 := hH
  refine lv_aload_n S.1 S.2.1 dL_law_699 rfl (lv_at hl 2 rfl) ?_
  refine j_vRi S (As := []) (rest := []) (c_X11_heapsN l D q u  hC ) mf_X11_heaps kw_674 hG hP1 hP1 (ci := 11) (q0 := 0) rfl rfl rfl rfl hl.1 ⟨⟨(Nat.le_of_ble_eq_true rfl), (Nat.le_of_ble_eq_true rfl)⟩, (Nat.le_of_ble_eq_true rfl), hc1, hc2⟩ rfl dL_law_700 (fun z_700 h_700 => ?_)
  refine lv_pop S.1 S.2.1 dL_law_703 rfl ?_
  refine lv_aload_n S.1 S.2.1 dL_law_704 rfl (lv_at hl 3 rfl) ?_
  refine j_vRi S (As := []) (rest := []) (c_X12_heaps3 l D o q2 v  hM ) mf_X12_heaps kw_1309 hG hP2 hP2 (ci := 8) (q0 := 0) rfl rfl rfl rfl hl.1 ⟨⟨(Nat.le_of_ble_eq_true rfl), (Nat.le_of_ble_eq_true rfl)⟩, (Nat.le_of_ble_eq_true rfl), hc1, hc2⟩ rfl dL_law_705 (fun z_705 h_705 => ?_)
  refine lv_pop S.1 S.2.1 dL_law_708 rfl ?_
  refine lv_goto (tgt := 1299) S.1 S.2.1 dL_law_709 (by decide) ?_
  have hF9 : FV u (i + 9) := FV_w hFI (by omega)
  exact kk _ _ _ _ ⟨⟨hE, hH, hF9⟩, hC, hM, hP1, hP2, hS⟩

set_option maxHeartbeats 4000000 in
set_option maxRecDepth 100000 in
theorem lc_14 {p : Program} {l : Launch} {en : Env} {s : State} {mi : MethodId} {below : List Frame} {meth : Method} {co : Code} {b L : Nat} {xs : Nat → Int32} {D : JD} {q : Nat → Nat} {o : Nat} {q2 : Nat → Nat} {A1 A2 : Nat → Prop} {cells slots : Nat} (K : lK p s mi co b L xs D q o q2 A1 A2 cells slots) {Q : State → Prop} {i : Int} (hi : 0 ≤ i ∧ i + 9 ≤ L) {ls : Array Slot} (hl : lv_has ls 4 [(3, .int (J i)), (0, .ref b), (1, .ref (q 0)), (2, .ref o)]) (kk : ∀ (u : CS) (v : MS) (H : Heap) (locs : List Loc), lI s D q o q2 u v H locs (i + 9) → W p l en room_1 s mi #[.ref b] below meth co H locs cells slots Q (F0 mi 1299 ls [])) (u : CS) (v : MS) (H : Heap) (locs : List Loc) (hI : lI s D q o q2 u v H locs i) : W p l en room_1 s mi #[.ref b] below meth co H locs cells slots Q (F0 mi 712 ls []) := by
  obtain ⟨S, hG, hX, hbl, hL, hD1, hD2, hA1, hA2, hx, hc1, hc2⟩ := K
  have hx2 : ∀ a, A2 a → ¬ A1 a := fun a h2 h1 => hx a h1 h2
  obtain ⟨⟨hE, hH, hFI⟩, hC, hM, hP1, hP2, hS⟩ := hI
  have hF0 := hFI.1
  have hU0 := hFI.2
  have hC9 := hC
  have hE0 := hE
  have hH0 := hH
  refine lv_aload_n S.1 S.2.1 dL_law_712 rfl (lv_at hl 2 rfl) ?_
  refine lv_aload_n S.1 S.2.1 dL_law_713 rfl (lv_at hl 1 rfl) ?_
  refine lv_iload_n S.1 S.2.1 dL_law_714 rfl (lv_at hl 0 rfl) ?_
  refine j_iconst S dL_law_715 ?_
  refine j_iadd S (x := i) (y := 1) dL_law_716 ?_
  refine lw_sld9 S hX hbl hL hS (z := (i + 1)) (by omega) dL_law_717 ?_
  refine lv_aload_n S.1 S.2.1 dL_law_718 rfl (lv_at hl 1 rfl) ?_
  refine lv_iload_n S.1 S.2.1 dL_law_719 rfl (lv_at hl 0 rfl) ?_
  refine j_iconst S dL_law_720 ?_
  refine j_iadd S (x := i) (y := 2) dL_law_721 ?_
  refine lw_sld9 S hX hbl hL hS (z := (i + 2)) (by omega) dL_law_722 ?_
  refine lv_aload_n S.1 S.2.1 dL_law_723 rfl (lv_at hl 1 rfl) ?_
  refine lv_iload_n S.1 S.2.1 dL_law_724 rfl (lv_at hl 0 rfl) ?_
  refine j_iconst S dL_law_725 ?_
  refine j_iadd S (x := i) (y := 3) dL_law_726 ?_
  refine lw_sld9 S hX hbl hL hS (z := (i + 3)) (by omega) dL_law_727 ?_
  refine j_vWi S (As := [.int (J (sx xs (i + 1))), .int (J (sx xs (i + 2))), .int (J (sx xs (i + 3)))]) (rest := []) (c_X11_sumF l D q u A1 (cW_D hD1) (sx xs (i + 1)) (sx xs (i + 2)) (sx xs (i + 3)) hC sx_r sx_r sx_r) mf_X11_sum kw_682 hG hP1 hP1 (ci := 11) (q0 := 0) rfl rfl rfl hS hA1 rfl hl.1 ⟨⟨(Nat.le_of_ble_eq_true rfl), (Nat.le_of_ble_eq_true rfl)⟩, (Nat.le_of_ble_eq_true rfl), hc1, hc2⟩ rfl dL_law_728 (fun z_728 w_728 H9 locs h_728 hB hF hS => ?_)
  obtain ⟨h_728, hh_728⟩ := h_728
  have hP2 := lw_keep hP2 (mW_D (v := v) hD2) hx2 hF
  have hP1 : va_P D.1 j_cl (cW D q w_728) H9 := hB
  have hC : CI w_728 := by first | exact h_728.1 | exact h_728.2.1
  have hF9 : FV w_728 (i + 9) := FV_m (t := (sx xs (i + 3)).toNat) hFI (by omega) (by omega) (cOt_sm  h_728.2) hh_728
  refine lv_pop S.1 S.2.1 dL_law_731 rfl ?_
  refine lv_aload_n S.1 S.2.1 dL_law_732 rfl (lv_at hl 3 rfl) ?_
  refine lv_aload_n S.1 S.2.1 dL_law_733 rfl (lv_at hl 1 rfl) ?_
  refine lv_iload_n S.1 S.2.1 dL_law_734 rfl (lv_at hl 0 rfl) ?_
  refine j_iconst S dL_law_735 ?_
  refine j_iadd S (x := i) (y := 1) dL_law_736 ?_
  refine lw_sld9 S hX hbl hL hS (z := (i + 1)) (by omega) dL_law_737 ?_
  refine lv_aload_n S.1 S.2.1 dL_law_738 rfl (lv_at hl 1 rfl) ?_
  refine lv_iload_n S.1 S.2.1 dL_law_739 rfl (lv_at hl 0 rfl) ?_
  refine j_iconst S dL_law_740 ?_
  refine j_iadd S (x := i) (y := 2) dL_law_741 ?_
  refine lw_sld9 S hX hbl hL hS (z := (i + 2)) (by omega) dL_law_742 ?_
  refine lv_aload_n S.1 S.2.1 dL_law_743 rfl (lv_at hl 1 rfl) ?_
  refine lv_iload_n S.1 S.2.1 dL_law_744 rfl (lv_at hl 0 rfl) ?_
  refine j_iconst S dL_law_745 ?_
  refine j_iadd S (x := i) (y := 3) dL_law_746 ?_
  refine lw_sld9 S hX hbl hL hS (z := (i + 3)) (by omega) dL_law_747 ?_
  refine j_vWi S (As := [.int (J (sx xs (i + 1))), .int (J (sx xs (i + 2))), .int (J (sx xs (i + 3)))]) (rest := []) (c_X12_sumH l D o q2 v A2 (mW_D hD2) (sx xs (i + 1)) (sx xs (i + 2)) (sx xs (i + 3)) hM sx_r sx_r sx_r) mf_X12_sum kw_1313 hG hP2 hP2 (ci := 8) (q0 := 0) rfl rfl rfl hS hA2 rfl hl.1 ⟨⟨(Nat.le_of_ble_eq_true rfl), (Nat.le_of_ble_eq_true rfl)⟩, (Nat.le_of_ble_eq_true rfl), hc1, hc2⟩ rfl dL_law_748 (fun z_748 w_748 H9 locs h_748 hB hF hS => ?_)
  have hP1 := lw_keep hP1 (cW_D (v := w_728) hD1) hx hF
  have hP2 : va_P D.1 j_cl (mW D o q2 w_748) H9 := hB
  obtain ⟨_, _, _, _, _, _, _, _, _, _, e_748, h_748⟩ := h_748
  obtain ⟨h_748, hh_748⟩ := h_748
  have hM : IM w_748 := by first | exact h_748.1 | exact h_748.2 | exact h_748
  have hq := EQ_sm hE h_728.2 h_748.2
  have hH : EQH w_728 w_748 := EQH_r (t := (sx xs (i + 3))) hH (fun q9 => by rcases h_728.2 with ⟨_, k9, _⟩ | k9; omega; exact k9.2.2.1) hh_728.1 hh_748 hq.1
  have hE : EQS w_728 w_748 := (EQS_sm hE h_728.2 h_748.2).2
  refine lv_pop S.1 S.2.1 dL_law_751 rfl ?_
  refine lv_goto (tgt := 1299) S.1 S.2.1 dL_law_752 (by decide) ?_
  exact kk _ _ _ _ ⟨⟨hE, hH, hF9⟩, hC, hM, hP1, hP2, hS⟩

set_option maxHeartbeats 4000000 in
set_option maxRecDepth 100000 in
theorem lc_15 {p : Program} {l : Launch} {en : Env} {s : State} {mi : MethodId} {below : List Frame} {meth : Method} {co : Code} {b L : Nat} {xs : Nat → Int32} {D : JD} {q : Nat → Nat} {o : Nat} {q2 : Nat → Nat} {A1 A2 : Nat → Prop} {cells slots : Nat} (K : lK p s mi co b L xs D q o q2 A1 A2 cells slots) {Q : State → Prop} {i : Int} (hi : 0 ≤ i ∧ i + 9 ≤ L) {ls : Array Slot} (hl : lv_has ls 4 [(3, .int (J i)), (0, .ref b), (1, .ref (q 0)), (2, .ref o)]) (kk : ∀ (u : CS) (v : MS) (H : Heap) (locs : List Loc), lI s D q o q2 u v H locs (i + 9) → W p l en room_1 s mi #[.ref b] below meth co H locs cells slots Q (F0 mi 1299 ls [])) (u : CS) (v : MS) (H : Heap) (locs : List Loc) (hI : lI s D q o q2 u v H locs i) : W p l en room_1 s mi #[.ref b] below meth co H locs cells slots Q (F0 mi 755 ls []) := by
  obtain ⟨S, hG, hX, hbl, hL, hD1, hD2, hA1, hA2, hx, hc1, hc2⟩ := K
  have hx2 : ∀ a, A2 a → ¬ A1 a := fun a h2 h1 => hx a h1 h2
  obtain ⟨⟨hE, hH, hFI⟩, hC, hM, hP1, hP2, hS⟩ := hI
  have hF0 := hFI.1
  have hU0 := hFI.2
  have hC9 := hC
  have hE0 := hE
  have hH0 := hH
  refine lv_aload_n S.1 S.2.1 dL_law_755 rfl (lv_at hl 2 rfl) ?_
  refine lv_aload_n S.1 S.2.1 dL_law_756 rfl (lv_at hl 1 rfl) ?_
  refine lv_iload_n S.1 S.2.1 dL_law_757 rfl (lv_at hl 0 rfl) ?_
  refine j_iconst S dL_law_758 ?_
  refine j_iadd S (x := i) (y := 1) dL_law_759 ?_
  refine lw_sld9 S hX hbl hL hS (z := (i + 1)) (by omega) dL_law_760 ?_
  refine lv_aload_n S.1 S.2.1 dL_law_761 rfl (lv_at hl 1 rfl) ?_
  refine lv_iload_n S.1 S.2.1 dL_law_762 rfl (lv_at hl 0 rfl) ?_
  refine j_iconst S dL_law_763 ?_
  refine j_iadd S (x := i) (y := 2) dL_law_764 ?_
  refine lw_sld9 S hX hbl hL hS (z := (i + 2)) (by omega) dL_law_765 ?_
  refine j_vWi S (As := [.int (J (sx xs (i + 1))), .int (J (sx xs (i + 2)))]) (rest := []) (c_X11_mixedF l D q u A1 (cW_D hD1) (sx xs (i + 1)) (sx xs (i + 2)) hC sx_r sx_r) mf_X11_mixed kw_692 hG hP1 hP1 (ci := 11) (q0 := 0) rfl rfl rfl hS hA1 rfl hl.1 ⟨⟨(Nat.le_of_ble_eq_true rfl), (Nat.le_of_ble_eq_true rfl)⟩, (Nat.le_of_ble_eq_true rfl), hc1, hc2⟩ rfl dL_law_766 (fun z_766 w_766 H9 locs h_766 hB hF hS => ?_)
  obtain ⟨h_766, hh_766⟩ := h_766
  have hP2 := lw_keep hP2 (mW_D (v := v) hD2) hx2 hF
  have hP1 : va_P D.1 j_cl (cW D q w_766) H9 := hB
  have hC : CI w_766 := by first | exact h_766.1 | exact h_766.2.1
  have hE : EQS w_766 v := EQS_s hE (by first | exact h_766.2 | exact h_766.2.2) ms_refl
  have hH : EQH w_766 v := EQH_s hH hh_766.1 rfl
  have hF9 : FV w_766 (i + 9) := FV_s hFI (by omega) (by first | exact h_766.2 | exact h_766.2.2) hh_766.1 hh_766.2.1 hh_766.2.2.1 hh_766.2.2.2
  refine lv_pop S.1 S.2.1 dL_law_769 rfl ?_
  refine lv_aload_n S.1 S.2.1 dL_law_770 rfl (lv_at hl 3 rfl) ?_
  refine lv_aload_n S.1 S.2.1 dL_law_771 rfl (lv_at hl 1 rfl) ?_
  refine lv_iload_n S.1 S.2.1 dL_law_772 rfl (lv_at hl 0 rfl) ?_
  refine j_iconst S dL_law_773 ?_
  refine j_iadd S (x := i) (y := 1) dL_law_774 ?_
  refine lw_sld9 S hX hbl hL hS (z := (i + 1)) (by omega) dL_law_775 ?_
  refine lv_aload_n S.1 S.2.1 dL_law_776 rfl (lv_at hl 1 rfl) ?_
  refine lv_iload_n S.1 S.2.1 dL_law_777 rfl (lv_at hl 0 rfl) ?_
  refine j_iconst S dL_law_778 ?_
  refine j_iadd S (x := i) (y := 2) dL_law_779 ?_
  refine lw_sld9 S hX hbl hL hS (z := (i + 2)) (by omega) dL_law_780 ?_
  refine j_vWi S (As := [.int (J (sx xs (i + 1))), .int (J (sx xs (i + 2)))]) (rest := []) (c_X12_mixed2 l D o q2 v A2 (mW_D hD2) (sx xs (i + 1)) (sx xs (i + 2)) hM sx_r sx_r) mf_X12_mixed kw_1321 hG hP2 hP2 (ci := 8) (q0 := 0) rfl rfl rfl hS hA2 rfl hl.1 ⟨⟨(Nat.le_of_ble_eq_true rfl), (Nat.le_of_ble_eq_true rfl)⟩, (Nat.le_of_ble_eq_true rfl), hc1, hc2⟩ rfl dL_law_781 (fun z_781 w_781 H9 locs h_781 hB hF hS => ?_)
  have hP1 := lw_keep hP1 (cW_D (v := w_766) hD1) hx hF
  have hP2 : va_P D.1 j_cl (mW D o q2 w_781) H9 := hB
  obtain ⟨_, _, _, _, _, _, e_781, h_781⟩ := h_781
  have hM : IM w_781 := by first | exact h_781.1 | exact h_781.2 | exact h_781
  have hH : EQH w_766 w_781 := EQH_s hH hs_refl (by rw [e_781]; rfl)
  have hE : EQS w_766 w_781 := EQS_s hE cs_refl (by rw [e_781]; exact ⟨rfl, rfl, rfl⟩)
  refine lv_pop S.1 S.2.1 dL_law_784 rfl ?_
  refine lv_goto (tgt := 1299) S.1 S.2.1 dL_law_785 (by decide) ?_
  exact kk _ _ _ _ ⟨⟨hE, hH, hF9⟩, hC, hM, hP1, hP2, hS⟩

set_option maxHeartbeats 4000000 in
set_option maxRecDepth 100000 in
theorem lc_16 {p : Program} {l : Launch} {en : Env} {s : State} {mi : MethodId} {below : List Frame} {meth : Method} {co : Code} {b L : Nat} {xs : Nat → Int32} {D : JD} {q : Nat → Nat} {o : Nat} {q2 : Nat → Nat} {A1 A2 : Nat → Prop} {cells slots : Nat} (K : lK p s mi co b L xs D q o q2 A1 A2 cells slots) {Q : State → Prop} {i : Int} (hi : 0 ≤ i ∧ i + 9 ≤ L) {ls : Array Slot} (hl : lv_has ls 4 [(3, .int (J i)), (0, .ref b), (1, .ref (q 0)), (2, .ref o)]) (kk : ∀ (u : CS) (v : MS) (H : Heap) (locs : List Loc), lI s D q o q2 u v H locs (i + 9) → W p l en room_1 s mi #[.ref b] below meth co H locs cells slots Q (F0 mi 1299 ls [])) (u : CS) (v : MS) (H : Heap) (locs : List Loc) (hI : lI s D q o q2 u v H locs i) : W p l en room_1 s mi #[.ref b] below meth co H locs cells slots Q (F0 mi 788 ls []) := by
  obtain ⟨S, hG, hX, hbl, hL, hD1, hD2, hA1, hA2, hx, hc1, hc2⟩ := K
  have hx2 : ∀ a, A2 a → ¬ A1 a := fun a h2 h1 => hx a h1 h2
  obtain ⟨⟨hE, hH, hFI⟩, hC, hM, hP1, hP2, hS⟩ := hI
  have hF0 := hFI.1
  have hU0 := hFI.2
  have hC9 := hC
  have hE0 := hE
  have hH0 := hH
  refine lv_aload_n S.1 S.2.1 dL_law_788 rfl (lv_at hl 2 rfl) ?_
  refine lv_aload_n S.1 S.2.1 dL_law_789 rfl (lv_at hl 1 rfl) ?_
  refine lv_iload_n S.1 S.2.1 dL_law_790 rfl (lv_at hl 0 rfl) ?_
  refine j_iconst S dL_law_791 ?_
  refine j_iadd S (x := i) (y := 1) dL_law_792 ?_
  refine lw_sld9 S hX hbl hL hS (z := (i + 1)) (by omega) dL_law_793 ?_
  refine j_vWl S (As := [.int (J (sx xs (i + 1)))]) (rest := []) (c_X11_partsF l D q u A1 (cW_D hD1) (sx xs (i + 1)) hC sx_r) mf_X11_parts kw_696 hG hP1 hP1 (ci := 11) (q0 := 0) rfl rfl rfl hS hA1 rfl hl.1 ⟨⟨(Nat.le_of_ble_eq_true rfl), (Nat.le_of_ble_eq_true rfl)⟩, (Nat.le_of_ble_eq_true rfl), hc1, hc2⟩ rfl dL_law_794 (fun x_794 w_794 H9 locs h_794 hB hF hS => ?_)
  obtain ⟨h_794, hh_794⟩ := h_794
  have hP2 := lw_keep hP2 (mW_D (v := v) hD2) hx2 hF
  have hP1 : va_P D.1 j_cl (cW D q w_794) H9 := hB
  have hC : CI w_794 := by first | exact h_794.1 | exact h_794.2.1
  have hE : EQS w_794 v := EQS_s hE (by first | exact h_794.2 | exact h_794.2.2) ms_refl
  have hH : EQH w_794 v := EQH_s hH hh_794.1 rfl
  have hF9 : FV w_794 (i + 9) := FV_s hFI (by omega) (by first | exact h_794.2 | exact h_794.2.2) hh_794.1 hh_794.2.1 hh_794.2.2.1 hh_794.2.2.2
  refine lv_pop2_2 S.1 S.2.1 dL_law_797 rfl ?_
  refine lv_aload_n S.1 S.2.1 dL_law_798 rfl (lv_at hl 3 rfl) ?_
  refine lv_aload_n S.1 S.2.1 dL_law_799 rfl (lv_at hl 1 rfl) ?_
  refine lv_iload_n S.1 S.2.1 dL_law_800 rfl (lv_at hl 0 rfl) ?_
  refine j_iconst S dL_law_801 ?_
  refine j_iadd S (x := i) (y := 1) dL_law_802 ?_
  refine lw_sld9 S hX hbl hL hS (z := (i + 1)) (by omega) dL_law_803 ?_
  refine j_vWl S (As := [.int (J (sx xs (i + 1)))]) (rest := []) (c_X12_parts l D o q2 v A2 (mW_D hD2) (sx xs (i + 1)) hM sx_r) mf_X12_parts kw_1325 hG hP2 hP2 (ci := 8) (q0 := 0) rfl rfl rfl hS hA2 rfl hl.1 ⟨⟨(Nat.le_of_ble_eq_true rfl), (Nat.le_of_ble_eq_true rfl)⟩, (Nat.le_of_ble_eq_true rfl), hc1, hc2⟩ rfl dL_law_804 (fun x_804 w_804 H9 locs h_804 hB hF hS => ?_)
  have hP1 := lw_keep hP1 (cW_D (v := w_794) hD1) hx hF
  have hP2 : va_P D.1 j_cl (mW D o q2 w_804) H9 := hB
  obtain ⟨_, _, e_804, h_804⟩ := h_804
  have hM : IM w_804 := by first | exact h_804.1 | exact h_804.2 | exact h_804
  have hH : EQH w_794 w_804 := EQH_s hH hs_refl (by rw [e_804]; rfl)
  have hE : EQS w_794 w_804 := EQS_s hE cs_refl (by rw [e_804]; exact ⟨rfl, rfl, rfl⟩)
  refine lv_pop2_2 S.1 S.2.1 dL_law_807 rfl ?_
  refine lv_goto (tgt := 1299) S.1 S.2.1 dL_law_808 (by decide) ?_
  exact kk _ _ _ _ ⟨⟨hE, hH, hF9⟩, hC, hM, hP1, hP2, hS⟩

set_option maxHeartbeats 4000000 in
set_option maxRecDepth 100000 in
theorem lc_17 {p : Program} {l : Launch} {en : Env} {s : State} {mi : MethodId} {below : List Frame} {meth : Method} {co : Code} {b L : Nat} {xs : Nat → Int32} {D : JD} {q : Nat → Nat} {o : Nat} {q2 : Nat → Nat} {A1 A2 : Nat → Prop} {cells slots : Nat} (K : lK p s mi co b L xs D q o q2 A1 A2 cells slots) {Q : State → Prop} {i : Int} (hi : 0 ≤ i ∧ i + 9 ≤ L) {ls : Array Slot} (hl : lv_has ls 4 [(3, .int (J i)), (0, .ref b), (1, .ref (q 0)), (2, .ref o)]) (kk : ∀ (u : CS) (v : MS) (H : Heap) (locs : List Loc), lI s D q o q2 u v H locs (i + 9) → W p l en room_1 s mi #[.ref b] below meth co H locs cells slots Q (F0 mi 1299 ls [])) (u : CS) (v : MS) (H : Heap) (locs : List Loc) (hI : lI s D q o q2 u v H locs i) : W p l en room_1 s mi #[.ref b] below meth co H locs cells slots Q (F0 mi 811 ls []) := by
  obtain ⟨S, hG, hX, hbl, hL, hD1, hD2, hA1, hA2, hx, hc1, hc2⟩ := K
  have hx2 : ∀ a, A2 a → ¬ A1 a := fun a h2 h1 => hx a h1 h2
  obtain ⟨⟨hE, hH, hFI⟩, hC, hM, hP1, hP2, hS⟩ := hI
  have hF0 := hFI.1
  have hU0 := hFI.2
  have hC9 := hC
  have hE0 := hE
  have hH0 := hH
  refine lv_aload_n S.1 S.2.1 dL_law_811 rfl (lv_at hl 2 rfl) ?_
  refine lv_aload_n S.1 S.2.1 dL_law_812 rfl (lv_at hl 1 rfl) ?_
  refine lv_iload_n S.1 S.2.1 dL_law_813 rfl (lv_at hl 0 rfl) ?_
  refine j_iconst S dL_law_814 ?_
  refine j_iadd S (x := i) (y := 1) dL_law_815 ?_
  refine lw_sld9 S hX hbl hL hS (z := (i + 1)) (by omega) dL_law_816 ?_
  refine lv_aload_n S.1 S.2.1 dL_law_817 rfl (lv_at hl 1 rfl) ?_
  refine lv_iload_n S.1 S.2.1 dL_law_818 rfl (lv_at hl 0 rfl) ?_
  refine j_iconst S dL_law_819 ?_
  refine j_iadd S (x := i) (y := 2) dL_law_820 ?_
  refine lw_sld9 S hX hbl hL hS (z := (i + 2)) (by omega) dL_law_821 ?_
  refine j_vWi S (As := [.int (J (sx xs (i + 1))), .int (J (sx xs (i + 2)))]) (rest := []) (c_X11_partF l D q u A1 (cW_D hD1) (sx xs (i + 1)) (sx xs (i + 2)) hC sx_r sx_r) mf_X11_part kw_739 hG hP1 hP1 (ci := 11) (q0 := 0) rfl rfl rfl hS hA1 rfl hl.1 ⟨⟨(Nat.le_of_ble_eq_true rfl), (Nat.le_of_ble_eq_true rfl)⟩, (Nat.le_of_ble_eq_true rfl), hc1, hc2⟩ rfl dL_law_822 (fun z_822 w_822 H9 locs h_822 hB hF hS => ?_)
  obtain ⟨h_822, hh_822⟩ := h_822
  have hP2 := lw_keep hP2 (mW_D (v := v) hD2) hx2 hF
  have hP1 : va_P D.1 j_cl (cW D q w_822) H9 := hB
  have hC : CI w_822 := by first | exact h_822.1 | exact h_822.2.1
  have hE : EQS w_822 v := EQS_s hE (by first | exact h_822.2 | exact h_822.2.2) ms_refl
  have hH : EQH w_822 v := EQH_s hH hh_822.1 rfl
  have hF9 : FV w_822 (i + 9) := FV_s hFI (by omega) (by first | exact h_822.2 | exact h_822.2.2) hh_822.1 hh_822.2.1 hh_822.2.2.1 hh_822.2.2.2
  refine lv_pop S.1 S.2.1 dL_law_825 rfl ?_
  refine lv_aload_n S.1 S.2.1 dL_law_826 rfl (lv_at hl 3 rfl) ?_
  refine lv_aload_n S.1 S.2.1 dL_law_827 rfl (lv_at hl 1 rfl) ?_
  refine lv_iload_n S.1 S.2.1 dL_law_828 rfl (lv_at hl 0 rfl) ?_
  refine j_iconst S dL_law_829 ?_
  refine j_iadd S (x := i) (y := 1) dL_law_830 ?_
  refine lw_sld9 S hX hbl hL hS (z := (i + 1)) (by omega) dL_law_831 ?_
  refine lv_aload_n S.1 S.2.1 dL_law_832 rfl (lv_at hl 1 rfl) ?_
  refine lv_iload_n S.1 S.2.1 dL_law_833 rfl (lv_at hl 0 rfl) ?_
  refine j_iconst S dL_law_834 ?_
  refine j_iadd S (x := i) (y := 2) dL_law_835 ?_
  refine lw_sld9 S hX hbl hL hS (z := (i + 2)) (by omega) dL_law_836 ?_
  refine j_vWi S (As := [.int (J (sx xs (i + 1))), .int (J (sx xs (i + 2)))]) (rest := []) (c_X12_part l D o q2 v A2 (mW_D hD2) (sx xs (i + 1)) (sx xs (i + 2)) hM sx_r sx_r) mf_X12_part kw_1340 hG hP2 hP2 (ci := 8) (q0 := 0) rfl rfl rfl hS hA2 rfl hl.1 ⟨⟨(Nat.le_of_ble_eq_true rfl), (Nat.le_of_ble_eq_true rfl)⟩, (Nat.le_of_ble_eq_true rfl), hc1, hc2⟩ rfl dL_law_837 (fun z_837 w_837 H9 locs h_837 hB hF hS => ?_)
  have hP1 := lw_keep hP1 (cW_D (v := w_822) hD1) hx hF
  have hP2 : va_P D.1 j_cl (mW D o q2 w_837) H9 := hB
  obtain ⟨_, _, e_837, h_837⟩ := h_837
  have hM : IM w_837 := by first | exact h_837.1 | exact h_837.2 | exact h_837
  have hH : EQH w_822 w_837 := EQH_s hH hs_refl (by rw [e_837]; rfl)
  have hE : EQS w_822 w_837 := EQS_s hE cs_refl (by rw [e_837]; exact ⟨rfl, rfl, rfl⟩)
  refine lv_pop S.1 S.2.1 dL_law_840 rfl ?_
  refine lv_goto (tgt := 1299) S.1 S.2.1 dL_law_841 (by decide) ?_
  exact kk _ _ _ _ ⟨⟨hE, hH, hF9⟩, hC, hM, hP1, hP2, hS⟩

set_option maxHeartbeats 4000000 in
set_option maxRecDepth 100000 in
theorem lc_18 {p : Program} {l : Launch} {en : Env} {s : State} {mi : MethodId} {below : List Frame} {meth : Method} {co : Code} {b L : Nat} {xs : Nat → Int32} {D : JD} {q : Nat → Nat} {o : Nat} {q2 : Nat → Nat} {A1 A2 : Nat → Prop} {cells slots : Nat} (K : lK p s mi co b L xs D q o q2 A1 A2 cells slots) {Q : State → Prop} {i : Int} (hi : 0 ≤ i ∧ i + 9 ≤ L) {ls : Array Slot} (hl : lv_has ls 4 [(3, .int (J i)), (0, .ref b), (1, .ref (q 0)), (2, .ref o)]) (kk : ∀ (u : CS) (v : MS) (H : Heap) (locs : List Loc), lI s D q o q2 u v H locs (i + 9) → W p l en room_1 s mi #[.ref b] below meth co H locs cells slots Q (F0 mi 1299 ls [])) (u : CS) (v : MS) (H : Heap) (locs : List Loc) (hI : lI s D q o q2 u v H locs i) : W p l en room_1 s mi #[.ref b] below meth co H locs cells slots Q (F0 mi 844 ls []) := by
  obtain ⟨S, hG, hX, hbl, hL, hD1, hD2, hA1, hA2, hx, hc1, hc2⟩ := K
  have hx2 : ∀ a, A2 a → ¬ A1 a := fun a h2 h1 => hx a h1 h2
  obtain ⟨⟨hE, hH, hFI⟩, hC, hM, hP1, hP2, hS⟩ := hI
  have hF0 := hFI.1
  have hU0 := hFI.2
  have hC9 := hC
  have hE0 := hE
  have hH0 := hH
  refine lv_aload_n S.1 S.2.1 dL_law_844 rfl (lv_at hl 2 rfl) ?_
  refine lv_aload_n S.1 S.2.1 dL_law_845 rfl (lv_at hl 1 rfl) ?_
  refine lv_iload_n S.1 S.2.1 dL_law_846 rfl (lv_at hl 0 rfl) ?_
  refine j_iconst S dL_law_847 ?_
  refine j_iadd S (x := i) (y := 1) dL_law_848 ?_
  refine lw_sld9 S hX hbl hL hS (z := (i + 1)) (by omega) dL_law_849 ?_
  refine lv_aload_n S.1 S.2.1 dL_law_850 rfl (lv_at hl 1 rfl) ?_
  refine lv_iload_n S.1 S.2.1 dL_law_851 rfl (lv_at hl 0 rfl) ?_
  refine j_iconst S dL_law_852 ?_
  refine j_iadd S (x := i) (y := 2) dL_law_853 ?_
  refine lw_sld9 S hX hbl hL hS (z := (i + 2)) (by omega) dL_law_854 ?_
  refine lv_aload_n S.1 S.2.1 dL_law_855 rfl (lv_at hl 1 rfl) ?_
  refine lv_iload_n S.1 S.2.1 dL_law_856 rfl (lv_at hl 0 rfl) ?_
  refine j_iconst S dL_law_857 ?_
  refine j_iadd S (x := i) (y := 3) dL_law_858 ?_
  refine lw_sld9 S hX hbl hL hS (z := (i + 3)) (by omega) dL_law_859 ?_
  refine j_vRi S (As := [.int (J (sx xs (i + 1))), .int (J (sx xs (i + 2))), .int (J (sx xs (i + 3)))]) (rest := []) (c_X11_normalN l D q u (sx xs (i + 1)) (sx xs (i + 2)) (sx xs (i + 3)) hC sx_r sx_r sx_r) mf_X11_normal kw_790 hG hP1 hP1 (ci := 11) (q0 := 0) rfl rfl rfl rfl hl.1 ⟨⟨(Nat.le_of_ble_eq_true rfl), (Nat.le_of_ble_eq_true rfl)⟩, (Nat.le_of_ble_eq_true rfl), hc1, hc2⟩ rfl dL_law_860 (fun z_860 h_860 => ?_)
  refine lv_pop S.1 S.2.1 dL_law_863 rfl ?_
  refine lv_aload_n S.1 S.2.1 dL_law_864 rfl (lv_at hl 3 rfl) ?_
  refine lv_aload_n S.1 S.2.1 dL_law_865 rfl (lv_at hl 1 rfl) ?_
  refine lv_iload_n S.1 S.2.1 dL_law_866 rfl (lv_at hl 0 rfl) ?_
  refine j_iconst S dL_law_867 ?_
  refine j_iadd S (x := i) (y := 1) dL_law_868 ?_
  refine lw_sld9 S hX hbl hL hS (z := (i + 1)) (by omega) dL_law_869 ?_
  refine lv_aload_n S.1 S.2.1 dL_law_870 rfl (lv_at hl 1 rfl) ?_
  refine lv_iload_n S.1 S.2.1 dL_law_871 rfl (lv_at hl 0 rfl) ?_
  refine j_iconst S dL_law_872 ?_
  refine j_iadd S (x := i) (y := 2) dL_law_873 ?_
  refine lw_sld9 S hX hbl hL hS (z := (i + 2)) (by omega) dL_law_874 ?_
  refine lv_aload_n S.1 S.2.1 dL_law_875 rfl (lv_at hl 1 rfl) ?_
  refine lv_iload_n S.1 S.2.1 dL_law_876 rfl (lv_at hl 0 rfl) ?_
  refine j_iconst S dL_law_877 ?_
  refine j_iadd S (x := i) (y := 3) dL_law_878 ?_
  refine lw_sld9 S hX hbl hL hS (z := (i + 3)) (by omega) dL_law_879 ?_
  refine j_vRi S (As := [.int (J (sx xs (i + 1))), .int (J (sx xs (i + 2))), .int (J (sx xs (i + 3)))]) (rest := []) (c_X12_normal2 l D o q2 v (sx xs (i + 1)) (sx xs (i + 2)) (sx xs (i + 3)) hM sx_r sx_r sx_r) mf_X12_normal kw_1356 hG hP2 hP2 (ci := 8) (q0 := 0) rfl rfl rfl rfl hl.1 ⟨⟨(Nat.le_of_ble_eq_true rfl), (Nat.le_of_ble_eq_true rfl)⟩, (Nat.le_of_ble_eq_true rfl), hc1, hc2⟩ rfl dL_law_880 (fun z_880 h_880 => ?_)
  refine lv_pop S.1 S.2.1 dL_law_883 rfl ?_
  refine lv_goto (tgt := 1299) S.1 S.2.1 dL_law_884 (by decide) ?_
  have hF9 : FV u (i + 9) := FV_w hFI (by omega)
  exact kk _ _ _ _ ⟨⟨hE, hH, hF9⟩, hC, hM, hP1, hP2, hS⟩

set_option maxHeartbeats 4000000 in
set_option maxRecDepth 100000 in
theorem lc_19 {p : Program} {l : Launch} {en : Env} {s : State} {mi : MethodId} {below : List Frame} {meth : Method} {co : Code} {b L : Nat} {xs : Nat → Int32} {D : JD} {q : Nat → Nat} {o : Nat} {q2 : Nat → Nat} {A1 A2 : Nat → Prop} {cells slots : Nat} (K : lK p s mi co b L xs D q o q2 A1 A2 cells slots) {Q : State → Prop} {i : Int} (hi : 0 ≤ i ∧ i + 9 ≤ L) {ls : Array Slot} (hl : lv_has ls 4 [(3, .int (J i)), (0, .ref b), (1, .ref (q 0)), (2, .ref o)]) (kk : ∀ (u : CS) (v : MS) (H : Heap) (locs : List Loc), lI s D q o q2 u v H locs (i + 9) → W p l en room_1 s mi #[.ref b] below meth co H locs cells slots Q (F0 mi 1299 ls [])) (u : CS) (v : MS) (H : Heap) (locs : List Loc) (hI : lI s D q o q2 u v H locs i) : W p l en room_1 s mi #[.ref b] below meth co H locs cells slots Q (F0 mi 887 ls []) := by
  obtain ⟨S, hG, hX, hbl, hL, hD1, hD2, hA1, hA2, hx, hc1, hc2⟩ := K
  have hx2 : ∀ a, A2 a → ¬ A1 a := fun a h2 h1 => hx a h1 h2
  obtain ⟨⟨hE, hH, hFI⟩, hC, hM, hP1, hP2, hS⟩ := hI
  have hF0 := hFI.1
  have hU0 := hFI.2
  have hC9 := hC
  have hE0 := hE
  have hH0 := hH
  refine lv_aload_n S.1 S.2.1 dL_law_887 rfl (lv_at hl 2 rfl) ?_
  refine lv_aload_n S.1 S.2.1 dL_law_888 rfl (lv_at hl 1 rfl) ?_
  refine lv_iload_n S.1 S.2.1 dL_law_889 rfl (lv_at hl 0 rfl) ?_
  refine j_iconst S dL_law_890 ?_
  refine j_iadd S (x := i) (y := 1) dL_law_891 ?_
  refine lw_sld9 S hX hbl hL hS (z := (i + 1)) (by omega) dL_law_892 ?_
  refine j_vRi S (As := [.int (J (sx xs (i + 1)))]) (rest := []) (c_X11_reflexiveN l D q u (sx xs (i + 1)) hC sx_r) mf_X11_reflexive kw_814 hG hP1 hP1 (ci := 11) (q0 := 0) rfl rfl rfl rfl hl.1 ⟨⟨(Nat.le_of_ble_eq_true rfl), (Nat.le_of_ble_eq_true rfl)⟩, (Nat.le_of_ble_eq_true rfl), hc1, hc2⟩ rfl dL_law_893 (fun z_893 h_893 => ?_)
  refine lv_pop S.1 S.2.1 dL_law_896 rfl ?_
  refine lv_aload_n S.1 S.2.1 dL_law_897 rfl (lv_at hl 3 rfl) ?_
  refine lv_aload_n S.1 S.2.1 dL_law_898 rfl (lv_at hl 1 rfl) ?_
  refine lv_iload_n S.1 S.2.1 dL_law_899 rfl (lv_at hl 0 rfl) ?_
  refine j_iconst S dL_law_900 ?_
  refine j_iadd S (x := i) (y := 1) dL_law_901 ?_
  refine lw_sld9 S hX hbl hL hS (z := (i + 1)) (by omega) dL_law_902 ?_
  refine j_vRi S (As := [.int (J (sx xs (i + 1)))]) (rest := []) (c_X12_reflexive2 l D o q2 v (sx xs (i + 1)) hM sx_r) mf_X12_reflexive kw_1376 hG hP2 hP2 (ci := 8) (q0 := 0) rfl rfl rfl rfl hl.1 ⟨⟨(Nat.le_of_ble_eq_true rfl), (Nat.le_of_ble_eq_true rfl)⟩, (Nat.le_of_ble_eq_true rfl), hc1, hc2⟩ rfl dL_law_903 (fun z_903 h_903 => ?_)
  refine lv_pop S.1 S.2.1 dL_law_906 rfl ?_
  refine lv_goto (tgt := 1299) S.1 S.2.1 dL_law_907 (by decide) ?_
  have hF9 : FV u (i + 9) := FV_w hFI (by omega)
  exact kk _ _ _ _ ⟨⟨hE, hH, hF9⟩, hC, hM, hP1, hP2, hS⟩

set_option maxHeartbeats 4000000 in
set_option maxRecDepth 100000 in
theorem lc_20 {p : Program} {l : Launch} {en : Env} {s : State} {mi : MethodId} {below : List Frame} {meth : Method} {co : Code} {b L : Nat} {xs : Nat → Int32} {D : JD} {q : Nat → Nat} {o : Nat} {q2 : Nat → Nat} {A1 A2 : Nat → Prop} {cells slots : Nat} (K : lK p s mi co b L xs D q o q2 A1 A2 cells slots) {Q : State → Prop} {i : Int} (hi : 0 ≤ i ∧ i + 9 ≤ L) {ls : Array Slot} (hl : lv_has ls 4 [(3, .int (J i)), (0, .ref b), (1, .ref (q 0)), (2, .ref o)]) (kk : ∀ (u : CS) (v : MS) (H : Heap) (locs : List Loc), lI s D q o q2 u v H locs (i + 9) → W p l en room_1 s mi #[.ref b] below meth co H locs cells slots Q (F0 mi 1299 ls [])) (u : CS) (v : MS) (H : Heap) (locs : List Loc) (hI : lI s D q o q2 u v H locs i) : W p l en room_1 s mi #[.ref b] below meth co H locs cells slots Q (F0 mi 910 ls []) := by
  obtain ⟨S, hG, hX, hbl, hL, hD1, hD2, hA1, hA2, hx, hc1, hc2⟩ := K
  have hx2 : ∀ a, A2 a → ¬ A1 a := fun a h2 h1 => hx a h1 h2
  obtain ⟨⟨hE, hH, hFI⟩, hC, hM, hP1, hP2, hS⟩ := hI
  have hF0 := hFI.1
  have hU0 := hFI.2
  have hC9 := hC
  have hE0 := hE
  have hH0 := hH
  refine lv_aload_n S.1 S.2.1 dL_law_910 rfl (lv_at hl 2 rfl) ?_
  refine lv_aload_n S.1 S.2.1 dL_law_911 rfl (lv_at hl 1 rfl) ?_
  refine lv_iload_n S.1 S.2.1 dL_law_912 rfl (lv_at hl 0 rfl) ?_
  refine j_iconst S dL_law_913 ?_
  refine j_iadd S (x := i) (y := 1) dL_law_914 ?_
  refine lw_sld9 S hX hbl hL hS (z := (i + 1)) (by omega) dL_law_915 ?_
  refine lv_aload_n S.1 S.2.1 dL_law_916 rfl (lv_at hl 1 rfl) ?_
  refine lv_iload_n S.1 S.2.1 dL_law_917 rfl (lv_at hl 0 rfl) ?_
  refine j_iconst S dL_law_918 ?_
  refine j_iadd S (x := i) (y := 2) dL_law_919 ?_
  refine lw_sld9 S hX hbl hL hS (z := (i + 2)) (by omega) dL_law_920 ?_
  refine j_vWi S (As := [.int (J (sx xs (i + 1))), .int (J (sx xs (i + 2)))]) (rest := []) (c_X11_dualF l D q u A1 (cW_D hD1) (sx xs (i + 1)) (sx xs (i + 2)) hC sx_r sx_r) mf_X11_dual kw_824 hG hP1 hP1 (ci := 11) (q0 := 0) rfl rfl rfl hS hA1 rfl hl.1 ⟨⟨(Nat.le_of_ble_eq_true rfl), (Nat.le_of_ble_eq_true rfl)⟩, (Nat.le_of_ble_eq_true rfl), hc1, hc2⟩ rfl dL_law_921 (fun z_921 w_921 H9 locs h_921 hB hF hS => ?_)
  obtain ⟨h_921, hh_921⟩ := h_921
  have hP2 := lw_keep hP2 (mW_D (v := v) hD2) hx2 hF
  have hP1 : va_P D.1 j_cl (cW D q w_921) H9 := hB
  have hC : CI w_921 := by first | exact h_921.1 | exact h_921.2.1
  have hF9 : FV w_921 (i + 9) := FV_m (t := (sx xs (i + 2)).toNat) hFI (by omega) (by omega) (cOt_dl  h_921.2) hh_921
  refine lv_pop S.1 S.2.1 dL_law_924 rfl ?_
  refine lv_aload_n S.1 S.2.1 dL_law_925 rfl (lv_at hl 3 rfl) ?_
  refine lv_aload_n S.1 S.2.1 dL_law_926 rfl (lv_at hl 1 rfl) ?_
  refine lv_iload_n S.1 S.2.1 dL_law_927 rfl (lv_at hl 0 rfl) ?_
  refine j_iconst S dL_law_928 ?_
  refine j_iadd S (x := i) (y := 1) dL_law_929 ?_
  refine lw_sld9 S hX hbl hL hS (z := (i + 1)) (by omega) dL_law_930 ?_
  refine lv_aload_n S.1 S.2.1 dL_law_931 rfl (lv_at hl 1 rfl) ?_
  refine lv_iload_n S.1 S.2.1 dL_law_932 rfl (lv_at hl 0 rfl) ?_
  refine j_iconst S dL_law_933 ?_
  refine j_iadd S (x := i) (y := 2) dL_law_934 ?_
  refine lw_sld9 S hX hbl hL hS (z := (i + 2)) (by omega) dL_law_935 ?_
  refine j_vWi S (As := [.int (J (sx xs (i + 1))), .int (J (sx xs (i + 2)))]) (rest := []) (c_X12_dualH l D o q2 v A2 (mW_D hD2) (sx xs (i + 1)) (sx xs (i + 2)) hM sx_r sx_r) mf_X12_dual kw_1384 hG hP2 hP2 (ci := 8) (q0 := 0) rfl rfl rfl hS hA2 rfl hl.1 ⟨⟨(Nat.le_of_ble_eq_true rfl), (Nat.le_of_ble_eq_true rfl)⟩, (Nat.le_of_ble_eq_true rfl), hc1, hc2⟩ rfl dL_law_936 (fun z_936 w_936 H9 locs h_936 hB hF hS => ?_)
  have hP1 := lw_keep hP1 (cW_D (v := w_921) hD1) hx hF
  have hP2 : va_P D.1 j_cl (mW D o q2 w_936) H9 := hB
  obtain ⟨_, _, _, _, _, _, _, _, _, _, e_936, h_936⟩ := h_936
  obtain ⟨h_936, hh_936⟩ := h_936
  have hM : IM w_936 := by first | exact h_936.1 | exact h_936.2 | exact h_936
  have hq := EQ_dl hC9 hE h_921.2 h_936.2
  have hH : EQH w_921 w_936 := EQH_r (t := (sx xs (i + 2))) hH (fun q9 => by rcases h_921.2 with ⟨_, k9, _⟩ | k9; omega; exact k9.2.1) hh_921.1 hh_936 hq.1
  have hE : EQS w_921 w_936 := (EQS_dl hC9 hE h_921.2 h_936.2).2
  refine lv_pop S.1 S.2.1 dL_law_939 rfl ?_
  refine lv_goto (tgt := 1299) S.1 S.2.1 dL_law_940 (by decide) ?_
  exact kk _ _ _ _ ⟨⟨hE, hH, hF9⟩, hC, hM, hP1, hP2, hS⟩

set_option maxHeartbeats 4000000 in
set_option maxRecDepth 100000 in
theorem lc_21 {p : Program} {l : Launch} {en : Env} {s : State} {mi : MethodId} {below : List Frame} {meth : Method} {co : Code} {b L : Nat} {xs : Nat → Int32} {D : JD} {q : Nat → Nat} {o : Nat} {q2 : Nat → Nat} {A1 A2 : Nat → Prop} {cells slots : Nat} (K : lK p s mi co b L xs D q o q2 A1 A2 cells slots) {Q : State → Prop} {i : Int} (hi : 0 ≤ i ∧ i + 9 ≤ L) {ls : Array Slot} (hl : lv_has ls 4 [(3, .int (J i)), (0, .ref b), (1, .ref (q 0)), (2, .ref o)]) (kk : ∀ (u : CS) (v : MS) (H : Heap) (locs : List Loc), lI s D q o q2 u v H locs (i + 9) → W p l en room_1 s mi #[.ref b] below meth co H locs cells slots Q (F0 mi 1299 ls [])) (u : CS) (v : MS) (H : Heap) (locs : List Loc) (hI : lI s D q o q2 u v H locs i) : W p l en room_1 s mi #[.ref b] below meth co H locs cells slots Q (F0 mi 943 ls []) := by
  obtain ⟨S, hG, hX, hbl, hL, hD1, hD2, hA1, hA2, hx, hc1, hc2⟩ := K
  have hx2 : ∀ a, A2 a → ¬ A1 a := fun a h2 h1 => hx a h1 h2
  obtain ⟨⟨hE, hH, hFI⟩, hC, hM, hP1, hP2, hS⟩ := hI
  have hF0 := hFI.1
  have hU0 := hFI.2
  have hC9 := hC
  have hE0 := hE
  have hH0 := hH
  refine lv_aload_n S.1 S.2.1 dL_law_943 rfl (lv_at hl 2 rfl) ?_
  refine lv_aload_n S.1 S.2.1 dL_law_944 rfl (lv_at hl 1 rfl) ?_
  refine lv_iload_n S.1 S.2.1 dL_law_945 rfl (lv_at hl 0 rfl) ?_
  refine j_iconst S dL_law_946 ?_
  refine j_iadd S (x := i) (y := 1) dL_law_947 ?_
  refine lw_sld9 S hX hbl hL hS (z := (i + 1)) (by omega) dL_law_948 ?_
  refine lv_aload_n S.1 S.2.1 dL_law_949 rfl (lv_at hl 1 rfl) ?_
  refine lv_iload_n S.1 S.2.1 dL_law_950 rfl (lv_at hl 0 rfl) ?_
  refine j_iconst S dL_law_951 ?_
  refine j_iadd S (x := i) (y := 2) dL_law_952 ?_
  refine lw_sld9 S hX hbl hL hS (z := (i + 2)) (by omega) dL_law_953 ?_
  refine lv_aload_n S.1 S.2.1 dL_law_954 rfl (lv_at hl 1 rfl) ?_
  refine lv_iload_n S.1 S.2.1 dL_law_955 rfl (lv_at hl 0 rfl) ?_
  refine j_iconst S dL_law_956 ?_
  refine j_iadd S (x := i) (y := 3) dL_law_957 ?_
  refine lw_sld9 S hX hbl hL hS (z := (i + 3)) (by omega) dL_law_958 ?_
  refine lv_aload_n S.1 S.2.1 dL_law_959 rfl (lv_at hl 1 rfl) ?_
  refine lv_iload_n S.1 S.2.1 dL_law_960 rfl (lv_at hl 0 rfl) ?_
  refine j_iconst S dL_law_961 ?_
  refine j_iadd S (x := i) (y := 4) dL_law_962 ?_
  refine lw_sld9 S hX hbl hL hS (z := (i + 4)) (by omega) dL_law_963 ?_
  refine j_vWi S (As := [.int (J (sx xs (i + 1))), .int (J (sx xs (i + 2))), .int (J (sx xs (i + 3))), .int (J (sx xs (i + 4)))]) (rest := []) (c_X11_betweenF l D q u A1 (cW_D hD1) (sx xs (i + 1)) (sx xs (i + 2)) (sx xs (i + 3)) (sx xs (i + 4)) hC sx_r sx_r sx_r sx_r) mf_X11_between kw_828 hG hP1 hP1 (ci := 11) (q0 := 0) rfl rfl rfl hS hA1 rfl hl.1 ⟨⟨(Nat.le_of_ble_eq_true rfl), (Nat.le_of_ble_eq_true rfl)⟩, (Nat.le_of_ble_eq_true rfl), hc1, hc2⟩ rfl dL_law_964 (fun z_964 w_964 H9 locs h_964 hB hF hS => ?_)
  obtain ⟨h_964, hh_964⟩ := h_964
  have hP2 := lw_keep hP2 (mW_D (v := v) hD2) hx2 hF
  have hP1 : va_P D.1 j_cl (cW D q w_964) H9 := hB
  have hC : CI w_964 := by first | exact h_964.1 | exact h_964.2.1
  have hE : EQS w_964 v := EQS_s hE (by first | exact h_964.2 | exact h_964.2.2) ms_refl
  have hH : EQH w_964 v := EQH_s hH hh_964.1 rfl
  have hF9 : FV w_964 (i + 9) := FV_s hFI (by omega) (by first | exact h_964.2 | exact h_964.2.2) hh_964.1 hh_964.2.1 hh_964.2.2.1 hh_964.2.2.2
  refine lv_pop S.1 S.2.1 dL_law_967 rfl ?_
  refine lv_aload_n S.1 S.2.1 dL_law_968 rfl (lv_at hl 3 rfl) ?_
  refine lv_aload_n S.1 S.2.1 dL_law_969 rfl (lv_at hl 1 rfl) ?_
  refine lv_iload_n S.1 S.2.1 dL_law_970 rfl (lv_at hl 0 rfl) ?_
  refine j_iconst S dL_law_971 ?_
  refine j_iadd S (x := i) (y := 1) dL_law_972 ?_
  refine lw_sld9 S hX hbl hL hS (z := (i + 1)) (by omega) dL_law_973 ?_
  refine lv_aload_n S.1 S.2.1 dL_law_974 rfl (lv_at hl 1 rfl) ?_
  refine lv_iload_n S.1 S.2.1 dL_law_975 rfl (lv_at hl 0 rfl) ?_
  refine j_iconst S dL_law_976 ?_
  refine j_iadd S (x := i) (y := 2) dL_law_977 ?_
  refine lw_sld9 S hX hbl hL hS (z := (i + 2)) (by omega) dL_law_978 ?_
  refine lv_aload_n S.1 S.2.1 dL_law_979 rfl (lv_at hl 1 rfl) ?_
  refine lv_iload_n S.1 S.2.1 dL_law_980 rfl (lv_at hl 0 rfl) ?_
  refine j_iconst S dL_law_981 ?_
  refine j_iadd S (x := i) (y := 3) dL_law_982 ?_
  refine lw_sld9 S hX hbl hL hS (z := (i + 3)) (by omega) dL_law_983 ?_
  refine lv_aload_n S.1 S.2.1 dL_law_984 rfl (lv_at hl 1 rfl) ?_
  refine lv_iload_n S.1 S.2.1 dL_law_985 rfl (lv_at hl 0 rfl) ?_
  refine j_iconst S dL_law_986 ?_
  refine j_iadd S (x := i) (y := 4) dL_law_987 ?_
  refine lw_sld9 S hX hbl hL hS (z := (i + 4)) (by omega) dL_law_988 ?_
  refine j_vWi S (As := [.int (J (sx xs (i + 1))), .int (J (sx xs (i + 2))), .int (J (sx xs (i + 3))), .int (J (sx xs (i + 4)))]) (rest := []) (c_X12_between l D o q2 v A2 (mW_D hD2) (sx xs (i + 1)) (sx xs (i + 2)) (sx xs (i + 3)) (sx xs (i + 4)) hM sx_r sx_r sx_r sx_r) mf_X12_between kw_1388 hG hP2 hP2 (ci := 8) (q0 := 0) rfl rfl rfl hS hA2 rfl hl.1 ⟨⟨(Nat.le_of_ble_eq_true rfl), (Nat.le_of_ble_eq_true rfl)⟩, (Nat.le_of_ble_eq_true rfl), hc1, hc2⟩ rfl dL_law_989 (fun z_989 w_989 H9 locs h_989 hB hF hS => ?_)
  have hP1 := lw_keep hP1 (cW_D (v := w_964) hD1) hx hF
  have hP2 : va_P D.1 j_cl (mW D o q2 w_989) H9 := hB
  obtain ⟨_, _, _, e_989, h_989⟩ := h_989
  have hM : IM w_989 := by first | exact h_989.1 | exact h_989.2 | exact h_989
  have hH : EQH w_964 w_989 := EQH_s hH hs_refl (by rw [e_989]; rfl)
  have hE : EQS w_964 w_989 := EQS_s hE cs_refl (by rw [e_989]; exact ⟨rfl, rfl, rfl⟩)
  refine lv_pop S.1 S.2.1 dL_law_992 rfl ?_
  refine lv_goto (tgt := 1299) S.1 S.2.1 dL_law_993 (by decide) ?_
  exact kk _ _ _ _ ⟨⟨hE, hH, hF9⟩, hC, hM, hP1, hP2, hS⟩

set_option maxHeartbeats 4000000 in
set_option maxRecDepth 100000 in
theorem lc_22 {p : Program} {l : Launch} {en : Env} {s : State} {mi : MethodId} {below : List Frame} {meth : Method} {co : Code} {b L : Nat} {xs : Nat → Int32} {D : JD} {q : Nat → Nat} {o : Nat} {q2 : Nat → Nat} {A1 A2 : Nat → Prop} {cells slots : Nat} (K : lK p s mi co b L xs D q o q2 A1 A2 cells slots) {Q : State → Prop} {i : Int} (hi : 0 ≤ i ∧ i + 9 ≤ L) {ls : Array Slot} (hl : lv_has ls 4 [(3, .int (J i)), (0, .ref b), (1, .ref (q 0)), (2, .ref o)]) (kk : ∀ (u : CS) (v : MS) (H : Heap) (locs : List Loc), lI s D q o q2 u v H locs (i + 9) → W p l en room_1 s mi #[.ref b] below meth co H locs cells slots Q (F0 mi 1299 ls [])) (u : CS) (v : MS) (H : Heap) (locs : List Loc) (hI : lI s D q o q2 u v H locs i) : W p l en room_1 s mi #[.ref b] below meth co H locs cells slots Q (F0 mi 996 ls []) := by
  obtain ⟨S, hG, hX, hbl, hL, hD1, hD2, hA1, hA2, hx, hc1, hc2⟩ := K
  have hx2 : ∀ a, A2 a → ¬ A1 a := fun a h2 h1 => hx a h1 h2
  obtain ⟨⟨hE, hH, hFI⟩, hC, hM, hP1, hP2, hS⟩ := hI
  have hF0 := hFI.1
  have hU0 := hFI.2
  have hC9 := hC
  have hE0 := hE
  have hH0 := hH
  refine lv_aload_n S.1 S.2.1 dL_law_996 rfl (lv_at hl 2 rfl) ?_
  refine lv_aload_n S.1 S.2.1 dL_law_997 rfl (lv_at hl 1 rfl) ?_
  refine lv_iload_n S.1 S.2.1 dL_law_998 rfl (lv_at hl 0 rfl) ?_
  refine j_iconst S dL_law_999 ?_
  refine j_iadd S (x := i) (y := 1) dL_law_1000 ?_
  refine lw_sld9 S hX hbl hL hS (z := (i + 1)) (by omega) dL_law_1001 ?_
  refine lv_aload_n S.1 S.2.1 dL_law_1002 rfl (lv_at hl 1 rfl) ?_
  refine lv_iload_n S.1 S.2.1 dL_law_1003 rfl (lv_at hl 0 rfl) ?_
  refine j_iconst S dL_law_1004 ?_
  refine j_iadd S (x := i) (y := 2) dL_law_1005 ?_
  refine lw_sld9 S hX hbl hL hS (z := (i + 2)) (by omega) dL_law_1006 ?_
  refine lv_aload_n S.1 S.2.1 dL_law_1007 rfl (lv_at hl 1 rfl) ?_
  refine lv_iload_n S.1 S.2.1 dL_law_1008 rfl (lv_at hl 0 rfl) ?_
  refine j_iconst S dL_law_1009 ?_
  refine j_iadd S (x := i) (y := 3) dL_law_1010 ?_
  refine lw_sld9 S hX hbl hL hS (z := (i + 3)) (by omega) dL_law_1011 ?_
  refine lv_aload_n S.1 S.2.1 dL_law_1012 rfl (lv_at hl 1 rfl) ?_
  refine lv_iload_n S.1 S.2.1 dL_law_1013 rfl (lv_at hl 0 rfl) ?_
  refine j_iconst S dL_law_1014 ?_
  refine j_iadd S (x := i) (y := 4) dL_law_1015 ?_
  refine lw_sld9 S hX hbl hL hS (z := (i + 4)) (by omega) dL_law_1016 ?_
  refine lv_aload_n S.1 S.2.1 dL_law_1017 rfl (lv_at hl 1 rfl) ?_
  refine lv_iload_n S.1 S.2.1 dL_law_1018 rfl (lv_at hl 0 rfl) ?_
  refine j_iconst S dL_law_1019 ?_
  refine j_iadd S (x := i) (y := 5) dL_law_1020 ?_
  refine lw_sld9 S hX hbl hL hS (z := (i + 5)) (by omega) dL_law_1021 ?_
  refine lv_aload_n S.1 S.2.1 dL_law_1022 rfl (lv_at hl 1 rfl) ?_
  refine lv_iload_n S.1 S.2.1 dL_law_1023 rfl (lv_at hl 0 rfl) ?_
  refine j_bipush S dL_law_1024 (by decide +kernel) ?_
  refine j_iadd S (x := i) (y := 6) dL_law_1026 ?_
  refine lw_sld9 S hX hbl hL hS (z := (i + 6)) (by omega) dL_law_1027 ?_
  refine j_vWi S (As := [.int (J (sx xs (i + 1))), .int (J (sx xs (i + 2))), .int (J (sx xs (i + 3))), .int (J (sx xs (i + 4))), .int (J (sx xs (i + 5))), .int (J (sx xs (i + 6)))]) (rest := []) (c_X11_rayF l D q u A1 (cW_D hD1) (sx xs (i + 1)) (sx xs (i + 2)) (sx xs (i + 3)) (sx xs (i + 4)) (sx xs (i + 5)) (sx xs (i + 6)) hC sx_r sx_r sx_r sx_r sx_r sx_r) mf_X11_ray kw_851 hG hP1 hP1 (ci := 11) (q0 := 0) rfl rfl rfl hS hA1 rfl hl.1 ⟨⟨(Nat.le_of_ble_eq_true rfl), (Nat.le_of_ble_eq_true rfl)⟩, (Nat.le_of_ble_eq_true rfl), hc1, hc2⟩ rfl dL_law_1028 (fun z_1028 w_1028 H9 locs h_1028 hB hF hS => ?_)
  obtain ⟨h_1028, hh_1028⟩ := h_1028
  have hP2 := lw_keep hP2 (mW_D (v := v) hD2) hx2 hF
  have hP1 : va_P D.1 j_cl (cW D q w_1028) H9 := hB
  have hC : CI w_1028 := by first | exact h_1028.1 | exact h_1028.2.1
  have hE : EQS w_1028 v := EQS_s hE (by first | exact h_1028.2 | exact h_1028.2.2) ms_refl
  have hH : EQH w_1028 v := EQH_s hH hh_1028.1 rfl
  have hF9 : FV w_1028 (i + 9) := FV_s hFI (by omega) (by first | exact h_1028.2 | exact h_1028.2.2) hh_1028.1 hh_1028.2.1 hh_1028.2.2.1 hh_1028.2.2.2
  refine lv_pop S.1 S.2.1 dL_law_1031 rfl ?_
  refine lv_aload_n S.1 S.2.1 dL_law_1032 rfl (lv_at hl 3 rfl) ?_
  refine lv_aload_n S.1 S.2.1 dL_law_1033 rfl (lv_at hl 1 rfl) ?_
  refine lv_iload_n S.1 S.2.1 dL_law_1034 rfl (lv_at hl 0 rfl) ?_
  refine j_iconst S dL_law_1035 ?_
  refine j_iadd S (x := i) (y := 1) dL_law_1036 ?_
  refine lw_sld9 S hX hbl hL hS (z := (i + 1)) (by omega) dL_law_1037 ?_
  refine lv_aload_n S.1 S.2.1 dL_law_1038 rfl (lv_at hl 1 rfl) ?_
  refine lv_iload_n S.1 S.2.1 dL_law_1039 rfl (lv_at hl 0 rfl) ?_
  refine j_iconst S dL_law_1040 ?_
  refine j_iadd S (x := i) (y := 2) dL_law_1041 ?_
  refine lw_sld9 S hX hbl hL hS (z := (i + 2)) (by omega) dL_law_1042 ?_
  refine lv_aload_n S.1 S.2.1 dL_law_1043 rfl (lv_at hl 1 rfl) ?_
  refine lv_iload_n S.1 S.2.1 dL_law_1044 rfl (lv_at hl 0 rfl) ?_
  refine j_iconst S dL_law_1045 ?_
  refine j_iadd S (x := i) (y := 3) dL_law_1046 ?_
  refine lw_sld9 S hX hbl hL hS (z := (i + 3)) (by omega) dL_law_1047 ?_
  refine lv_aload_n S.1 S.2.1 dL_law_1048 rfl (lv_at hl 1 rfl) ?_
  refine lv_iload_n S.1 S.2.1 dL_law_1049 rfl (lv_at hl 0 rfl) ?_
  refine j_iconst S dL_law_1050 ?_
  refine j_iadd S (x := i) (y := 4) dL_law_1051 ?_
  refine lw_sld9 S hX hbl hL hS (z := (i + 4)) (by omega) dL_law_1052 ?_
  refine lv_aload_n S.1 S.2.1 dL_law_1053 rfl (lv_at hl 1 rfl) ?_
  refine lv_iload_n S.1 S.2.1 dL_law_1054 rfl (lv_at hl 0 rfl) ?_
  refine j_iconst S dL_law_1055 ?_
  refine j_iadd S (x := i) (y := 5) dL_law_1056 ?_
  refine lw_sld9 S hX hbl hL hS (z := (i + 5)) (by omega) dL_law_1057 ?_
  refine lv_aload_n S.1 S.2.1 dL_law_1058 rfl (lv_at hl 1 rfl) ?_
  refine lv_iload_n S.1 S.2.1 dL_law_1059 rfl (lv_at hl 0 rfl) ?_
  refine j_bipush S dL_law_1060 (by decide +kernel) ?_
  refine j_iadd S (x := i) (y := 6) dL_law_1062 ?_
  refine lw_sld9 S hX hbl hL hS (z := (i + 6)) (by omega) dL_law_1063 ?_
  refine j_vWi S (As := [.int (J (sx xs (i + 1))), .int (J (sx xs (i + 2))), .int (J (sx xs (i + 3))), .int (J (sx xs (i + 4))), .int (J (sx xs (i + 5))), .int (J (sx xs (i + 6)))]) (rest := []) (c_X12_ray l D o q2 v A2 (mW_D hD2) (sx xs (i + 1)) (sx xs (i + 2)) (sx xs (i + 3)) (sx xs (i + 4)) (sx xs (i + 5)) (sx xs (i + 6)) hM sx_r sx_r sx_r sx_r sx_r sx_r) mf_X12_ray kw_1400 hG hP2 hP2 (ci := 8) (q0 := 0) rfl rfl rfl hS hA2 rfl hl.1 ⟨⟨(Nat.le_of_ble_eq_true rfl), (Nat.le_of_ble_eq_true rfl)⟩, (Nat.le_of_ble_eq_true rfl), hc1, hc2⟩ rfl dL_law_1064 (fun z_1064 w_1064 H9 locs h_1064 hB hF hS => ?_)
  have hP1 := lw_keep hP1 (cW_D (v := w_1028) hD1) hx hF
  have hP2 : va_P D.1 j_cl (mW D o q2 w_1064) H9 := hB
  obtain ⟨_, _, _, e_1064, h_1064⟩ := h_1064
  have hM : IM w_1064 := by first | exact h_1064.1 | exact h_1064.2 | exact h_1064
  have hH : EQH w_1028 w_1064 := EQH_s hH hs_refl (by rw [e_1064]; rfl)
  have hE : EQS w_1028 w_1064 := EQS_s hE cs_refl (by rw [e_1064]; exact ⟨rfl, rfl, rfl⟩)
  refine lv_pop S.1 S.2.1 dL_law_1067 rfl ?_
  refine lv_goto (tgt := 1299) S.1 S.2.1 dL_law_1068 (by decide) ?_
  exact kk _ _ _ _ ⟨⟨hE, hH, hF9⟩, hC, hM, hP1, hP2, hS⟩

set_option maxHeartbeats 4000000 in
set_option maxRecDepth 100000 in
theorem lc_23 {p : Program} {l : Launch} {en : Env} {s : State} {mi : MethodId} {below : List Frame} {meth : Method} {co : Code} {b L : Nat} {xs : Nat → Int32} {D : JD} {q : Nat → Nat} {o : Nat} {q2 : Nat → Nat} {A1 A2 : Nat → Prop} {cells slots : Nat} (K : lK p s mi co b L xs D q o q2 A1 A2 cells slots) {Q : State → Prop} {i : Int} (hi : 0 ≤ i ∧ i + 9 ≤ L) {ls : Array Slot} (hl : lv_has ls 4 [(3, .int (J i)), (0, .ref b), (1, .ref (q 0)), (2, .ref o)]) (kk : ∀ (u : CS) (v : MS) (H : Heap) (locs : List Loc), lI s D q o q2 u v H locs (i + 9) → W p l en room_1 s mi #[.ref b] below meth co H locs cells slots Q (F0 mi 1299 ls [])) (u : CS) (v : MS) (H : Heap) (locs : List Loc) (hI : lI s D q o q2 u v H locs i) : W p l en room_1 s mi #[.ref b] below meth co H locs cells slots Q (F0 mi 1071 ls []) := by
  obtain ⟨S, hG, hX, hbl, hL, hD1, hD2, hA1, hA2, hx, hc1, hc2⟩ := K
  have hx2 : ∀ a, A2 a → ¬ A1 a := fun a h2 h1 => hx a h1 h2
  obtain ⟨⟨hE, hH, hFI⟩, hC, hM, hP1, hP2, hS⟩ := hI
  have hF0 := hFI.1
  have hU0 := hFI.2
  have hC9 := hC
  have hE0 := hE
  have hH0 := hH
  refine lv_aload_n S.1 S.2.1 dL_law_1071 rfl (lv_at hl 2 rfl) ?_
  refine lv_aload_n S.1 S.2.1 dL_law_1072 rfl (lv_at hl 1 rfl) ?_
  refine lv_iload_n S.1 S.2.1 dL_law_1073 rfl (lv_at hl 0 rfl) ?_
  refine j_iconst S dL_law_1074 ?_
  refine j_iadd S (x := i) (y := 1) dL_law_1075 ?_
  refine lw_sld9 S hX hbl hL hS (z := (i + 1)) (by omega) dL_law_1076 ?_
  refine lv_aload_n S.1 S.2.1 dL_law_1077 rfl (lv_at hl 1 rfl) ?_
  refine lv_iload_n S.1 S.2.1 dL_law_1078 rfl (lv_at hl 0 rfl) ?_
  refine j_iconst S dL_law_1079 ?_
  refine j_iadd S (x := i) (y := 2) dL_law_1080 ?_
  refine lw_sld9 S hX hbl hL hS (z := (i + 2)) (by omega) dL_law_1081 ?_
  refine j_vWi S (As := [.int (J (sx xs (i + 1))), .int (J (sx xs (i + 2)))]) (rest := []) (c_X11_cuts5 l D q u A1 (cW_D hD1) (sx xs (i + 1)) (sx xs (i + 2)) hC sx_r sx_r) mf_X11_cuts kw_855 hG hP1 hP1 (ci := 11) (q0 := 0) rfl rfl rfl hS hA1 rfl hl.1 ⟨⟨(Nat.le_of_ble_eq_true rfl), (Nat.le_of_ble_eq_true rfl)⟩, (Nat.le_of_ble_eq_true rfl), hc1, hc2⟩ rfl dL_law_1082 (fun z_1082 w_1082 H9 locs h_1082 hB hF hS => ?_)
  obtain ⟨⟨⟨h_1082, hh_1082⟩, hk_1082⟩, hq9_1082⟩ := h_1082
  have hP2 := lw_keep hP2 (mW_D (v := v) hD2) hx2 hF
  have hP1 : va_P D.1 j_cl (cW D q w_1082) H9 := hB
  have hC : CI w_1082 := by first | exact h_1082.1 | exact h_1082.2.1
  have hE : EQS w_1082 v := EQS_s hE (by first | exact h_1082.2 | exact h_1082.2.2) ms_refl
  have hH : EQH w_1082 v := EQH_s hH hh_1082.1 rfl
  have hF9 : FV w_1082 (i + 9) := FV_k hFI (by omega) (by first | exact h_1082.2 | exact h_1082.2.2) hh_1082.1 hh_1082.2.1 hh_1082.2.2 hk_1082
  refine lv_aload_n S.1 S.2.1 dL_law_1085 rfl (lv_at hl 3 rfl) ?_
  refine lv_aload_n S.1 S.2.1 dL_law_1086 rfl (lv_at hl 1 rfl) ?_
  refine lv_iload_n S.1 S.2.1 dL_law_1087 rfl (lv_at hl 0 rfl) ?_
  refine j_iconst S dL_law_1088 ?_
  refine j_iadd S (x := i) (y := 1) dL_law_1089 ?_
  refine lw_sld9 S hX hbl hL hS (z := (i + 1)) (by omega) dL_law_1090 ?_
  refine lv_aload_n S.1 S.2.1 dL_law_1091 rfl (lv_at hl 1 rfl) ?_
  refine lv_iload_n S.1 S.2.1 dL_law_1092 rfl (lv_at hl 0 rfl) ?_
  refine j_iconst S dL_law_1093 ?_
  refine j_iadd S (x := i) (y := 2) dL_law_1094 ?_
  refine lw_sld9 S hX hbl hL hS (z := (i + 2)) (by omega) dL_law_1095 ?_
  refine j_vWi S (As := [.int (J (sx xs (i + 1))), .int (J (sx xs (i + 2)))]) (rest := [.int (J z_1082)]) (c_X12_cuts3 l D o q2 v A2 (mW_D hD2) (sx xs (i + 1)) (sx xs (i + 2)) hM sx_r sx_r) mf_X12_cuts kw_1404 hG hP2 hP2 (ci := 8) (q0 := 0) rfl rfl rfl hS hA2 rfl hl.1 ⟨⟨(Nat.le_of_ble_eq_true rfl), (Nat.le_of_ble_eq_true rfl)⟩, (Nat.le_of_ble_eq_true rfl), hc1, hc2⟩ rfl dL_law_1096 (fun z_1096 w_1096 H9 locs h_1096 hB hF hS => ?_)
  have hP1 := lw_keep hP1 (cW_D (v := w_1082) hD1) hx hF
  have hP2 : va_P D.1 j_cl (mW D o q2 w_1096) H9 := hB
  obtain ⟨_, _, _, _, _, _, _, _, _, _, _, _, e_1096, h_1096⟩ := h_1096
  have hM : IM w_1096 := by first | exact h_1096.1 | exact h_1096.2 | exact h_1096
  have hH : EQH w_1082 w_1096 := EQH_s hH hs_refl (by rw [e_1096]; rfl)
  have hE : EQS w_1082 w_1096 := EQS_s hE cs_refl (by rw [e_1096]; exact ⟨rfl, rfl, rfl⟩)
  have hq := EQ_cu hC9 hE0 hU0 hq9_1082 h_1096.2
  have hq2 : z_1082 = z_1096 := hq.1
  have hg1 : -2147483648 ≤ z_1082 ∧ z_1082 ≤ 2147483647 := hq.2
  have hg2 : -2147483648 ≤ z_1096 ∧ z_1096 ≤ 2147483647 := by omega
  refine j_icmp_eq S (tgt := 1299) (x := z_1082) (y := z_1096) dL_law_1099 (by decide) hg1 hg2 (fun c9 => ?_) (fun c9 => absurd hq2 c9)
  exact kk _ _ _ _ ⟨⟨hE, hH, hF9⟩, hC, hM, hP1, hP2, hS⟩

set_option maxHeartbeats 4000000 in
set_option maxRecDepth 100000 in
theorem lc_24 {p : Program} {l : Launch} {en : Env} {s : State} {mi : MethodId} {below : List Frame} {meth : Method} {co : Code} {b L : Nat} {xs : Nat → Int32} {D : JD} {q : Nat → Nat} {o : Nat} {q2 : Nat → Nat} {A1 A2 : Nat → Prop} {cells slots : Nat} (K : lK p s mi co b L xs D q o q2 A1 A2 cells slots) {Q : State → Prop} {i : Int} (hi : 0 ≤ i ∧ i + 9 ≤ L) {ls : Array Slot} (hl : lv_has ls 4 [(3, .int (J i)), (0, .ref b), (1, .ref (q 0)), (2, .ref o)]) (kk : ∀ (u : CS) (v : MS) (H : Heap) (locs : List Loc), lI s D q o q2 u v H locs (i + 9) → W p l en room_1 s mi #[.ref b] below meth co H locs cells slots Q (F0 mi 1299 ls [])) (u : CS) (v : MS) (H : Heap) (locs : List Loc) (hI : lI s D q o q2 u v H locs i) : W p l en room_1 s mi #[.ref b] below meth co H locs cells slots Q (F0 mi 1104 ls []) := by
  obtain ⟨S, hG, hX, hbl, hL, hD1, hD2, hA1, hA2, hx, hc1, hc2⟩ := K
  have hx2 : ∀ a, A2 a → ¬ A1 a := fun a h2 h1 => hx a h1 h2
  obtain ⟨⟨hE, hH, hFI⟩, hC, hM, hP1, hP2, hS⟩ := hI
  have hF0 := hFI.1
  have hU0 := hFI.2
  have hC9 := hC
  have hE0 := hE
  have hH0 := hH
  refine lv_aload_n S.1 S.2.1 dL_law_1104 rfl (lv_at hl 2 rfl) ?_
  refine lv_aload_n S.1 S.2.1 dL_law_1105 rfl (lv_at hl 1 rfl) ?_
  refine lv_iload_n S.1 S.2.1 dL_law_1106 rfl (lv_at hl 0 rfl) ?_
  refine j_iconst S dL_law_1107 ?_
  refine j_iadd S (x := i) (y := 1) dL_law_1108 ?_
  refine lw_sld9 S hX hbl hL hS (z := (i + 1)) (by omega) dL_law_1109 ?_
  refine lv_aload_n S.1 S.2.1 dL_law_1110 rfl (lv_at hl 1 rfl) ?_
  refine lv_iload_n S.1 S.2.1 dL_law_1111 rfl (lv_at hl 0 rfl) ?_
  refine j_iconst S dL_law_1112 ?_
  refine j_iadd S (x := i) (y := 2) dL_law_1113 ?_
  refine lw_sld9 S hX hbl hL hS (z := (i + 2)) (by omega) dL_law_1114 ?_
  refine lv_aload_n S.1 S.2.1 dL_law_1115 rfl (lv_at hl 1 rfl) ?_
  refine lv_iload_n S.1 S.2.1 dL_law_1116 rfl (lv_at hl 0 rfl) ?_
  refine j_iconst S dL_law_1117 ?_
  refine j_iadd S (x := i) (y := 3) dL_law_1118 ?_
  refine lw_sld9 S hX hbl hL hS (z := (i + 3)) (by omega) dL_law_1119 ?_
  refine j_vWi S (As := [.int (J (sx xs (i + 1))), .int (J (sx xs (i + 2))), .int (J (sx xs (i + 3)))]) (rest := []) (c_X11_cut4 l D q u A1 (cW_D hD1) (sx xs (i + 1)) (sx xs (i + 2)) (sx xs (i + 3)) hC sx_r sx_r sx_r) mf_X11_cut kw_958 hG hP1 hP1 (ci := 11) (q0 := 0) rfl rfl rfl hS hA1 rfl hl.1 ⟨⟨(Nat.le_of_ble_eq_true rfl), (Nat.le_of_ble_eq_true rfl)⟩, (Nat.le_of_ble_eq_true rfl), hc1, hc2⟩ rfl dL_law_1120 (fun z_1120 w_1120 H9 locs h_1120 hB hF hS => ?_)
  obtain ⟨⟨h_1120, hh_1120⟩, hk_1120⟩ := h_1120
  have hP2 := lw_keep hP2 (mW_D (v := v) hD2) hx2 hF
  have hP1 : va_P D.1 j_cl (cW D q w_1120) H9 := hB
  have hC : CI w_1120 := by first | exact h_1120.1 | exact h_1120.2.1
  have hE : EQS w_1120 v := EQS_s hE (by first | exact h_1120.2 | exact h_1120.2.2) ms_refl
  have hH : EQH w_1120 v := EQH_s hH hh_1120.1 rfl
  have hF9 : FV w_1120 (i + 9) := FV_k hFI (by omega) (by first | exact h_1120.2 | exact h_1120.2.2) hh_1120.1 hh_1120.2.1 hh_1120.2.2 hk_1120
  refine lv_pop S.1 S.2.1 dL_law_1123 rfl ?_
  refine lv_aload_n S.1 S.2.1 dL_law_1124 rfl (lv_at hl 3 rfl) ?_
  refine lv_aload_n S.1 S.2.1 dL_law_1125 rfl (lv_at hl 1 rfl) ?_
  refine lv_iload_n S.1 S.2.1 dL_law_1126 rfl (lv_at hl 0 rfl) ?_
  refine j_iconst S dL_law_1127 ?_
  refine j_iadd S (x := i) (y := 1) dL_law_1128 ?_
  refine lw_sld9 S hX hbl hL hS (z := (i + 1)) (by omega) dL_law_1129 ?_
  refine lv_aload_n S.1 S.2.1 dL_law_1130 rfl (lv_at hl 1 rfl) ?_
  refine lv_iload_n S.1 S.2.1 dL_law_1131 rfl (lv_at hl 0 rfl) ?_
  refine j_iconst S dL_law_1132 ?_
  refine j_iadd S (x := i) (y := 2) dL_law_1133 ?_
  refine lw_sld9 S hX hbl hL hS (z := (i + 2)) (by omega) dL_law_1134 ?_
  refine lv_aload_n S.1 S.2.1 dL_law_1135 rfl (lv_at hl 1 rfl) ?_
  refine lv_iload_n S.1 S.2.1 dL_law_1136 rfl (lv_at hl 0 rfl) ?_
  refine j_iconst S dL_law_1137 ?_
  refine j_iadd S (x := i) (y := 3) dL_law_1138 ?_
  refine lw_sld9 S hX hbl hL hS (z := (i + 3)) (by omega) dL_law_1139 ?_
  refine j_vWi S (As := [.int (J (sx xs (i + 1))), .int (J (sx xs (i + 2))), .int (J (sx xs (i + 3)))]) (rest := []) (c_X12_cut l D o q2 v A2 (mW_D hD2) (sx xs (i + 1)) (sx xs (i + 2)) (sx xs (i + 3)) hM sx_r sx_r sx_r) mf_X12_cut kw_1459 hG hP2 hP2 (ci := 8) (q0 := 0) rfl rfl rfl hS hA2 rfl hl.1 ⟨⟨(Nat.le_of_ble_eq_true rfl), (Nat.le_of_ble_eq_true rfl)⟩, (Nat.le_of_ble_eq_true rfl), hc1, hc2⟩ rfl dL_law_1140 (fun z_1140 w_1140 H9 locs h_1140 hB hF hS => ?_)
  have hP1 := lw_keep hP1 (cW_D (v := w_1120) hD1) hx hF
  have hP2 : va_P D.1 j_cl (mW D o q2 w_1140) H9 := hB
  obtain ⟨_, _, _, _, _, _, _, _, _, _, _, _, e_1140, h_1140⟩ := h_1140
  have hM : IM w_1140 := by first | exact h_1140.1 | exact h_1140.2 | exact h_1140
  have hH : EQH w_1120 w_1140 := EQH_s hH hs_refl (by rw [e_1140]; rfl)
  have hE : EQS w_1120 w_1140 := EQS_s hE cs_refl (by rw [e_1140]; exact ⟨rfl, rfl, rfl⟩)
  refine lv_pop S.1 S.2.1 dL_law_1143 rfl ?_
  refine lv_goto (tgt := 1299) S.1 S.2.1 dL_law_1144 (by decide) ?_
  exact kk _ _ _ _ ⟨⟨hE, hH, hF9⟩, hC, hM, hP1, hP2, hS⟩

set_option maxHeartbeats 4000000 in
set_option maxRecDepth 100000 in
theorem lc_25 {p : Program} {l : Launch} {en : Env} {s : State} {mi : MethodId} {below : List Frame} {meth : Method} {co : Code} {b L : Nat} {xs : Nat → Int32} {D : JD} {q : Nat → Nat} {o : Nat} {q2 : Nat → Nat} {A1 A2 : Nat → Prop} {cells slots : Nat} (K : lK p s mi co b L xs D q o q2 A1 A2 cells slots) {Q : State → Prop} {i : Int} (hi : 0 ≤ i ∧ i + 9 ≤ L) {ls : Array Slot} (hl : lv_has ls 4 [(3, .int (J i)), (0, .ref b), (1, .ref (q 0)), (2, .ref o)]) (kk : ∀ (u : CS) (v : MS) (H : Heap) (locs : List Loc), lI s D q o q2 u v H locs (i + 9) → W p l en room_1 s mi #[.ref b] below meth co H locs cells slots Q (F0 mi 1299 ls [])) (u : CS) (v : MS) (H : Heap) (locs : List Loc) (hI : lI s D q o q2 u v H locs i) : W p l en room_1 s mi #[.ref b] below meth co H locs cells slots Q (F0 mi 1147 ls []) := by
  obtain ⟨S, hG, hX, hbl, hL, hD1, hD2, hA1, hA2, hx, hc1, hc2⟩ := K
  have hx2 : ∀ a, A2 a → ¬ A1 a := fun a h2 h1 => hx a h1 h2
  obtain ⟨⟨hE, hH, hFI⟩, hC, hM, hP1, hP2, hS⟩ := hI
  have hF0 := hFI.1
  have hU0 := hFI.2
  have hC9 := hC
  have hE0 := hE
  have hH0 := hH
  refine lv_aload_n S.1 S.2.1 dL_law_1147 rfl (lv_at hl 2 rfl) ?_
  refine lv_aload_n S.1 S.2.1 dL_law_1148 rfl (lv_at hl 1 rfl) ?_
  refine lv_iload_n S.1 S.2.1 dL_law_1149 rfl (lv_at hl 0 rfl) ?_
  refine j_iconst S dL_law_1150 ?_
  refine j_iadd S (x := i) (y := 1) dL_law_1151 ?_
  refine lw_sld9 S hX hbl hL hS (z := (i + 1)) (by omega) dL_law_1152 ?_
  refine lv_aload_n S.1 S.2.1 dL_law_1153 rfl (lv_at hl 1 rfl) ?_
  refine lv_iload_n S.1 S.2.1 dL_law_1154 rfl (lv_at hl 0 rfl) ?_
  refine j_iconst S dL_law_1155 ?_
  refine j_iadd S (x := i) (y := 2) dL_law_1156 ?_
  refine lw_sld9 S hX hbl hL hS (z := (i + 2)) (by omega) dL_law_1157 ?_
  refine j_vWi S (As := [.int (J (sx xs (i + 1))), .int (J (sx xs (i + 2)))]) (rest := []) (c_X11_flips4 l D q u A1 (cW_D hD1) (sx xs (i + 1)) (sx xs (i + 2)) hC sx_r sx_r) mf_X11_flips kw_971 hG hP1 hP1 (ci := 11) (q0 := 0) rfl rfl rfl hS hA1 rfl hl.1 ⟨⟨(Nat.le_of_ble_eq_true rfl), (Nat.le_of_ble_eq_true rfl)⟩, (Nat.le_of_ble_eq_true rfl), hc1, hc2⟩ rfl dL_law_1158 (fun z_1158 w_1158 H9 locs h_1158 hB hF hS => ?_)
  obtain ⟨⟨h_1158, hh_1158⟩, hk_1158⟩ := h_1158
  have hP2 := lw_keep hP2 (mW_D (v := v) hD2) hx2 hF
  have hP1 : va_P D.1 j_cl (cW D q w_1158) H9 := hB
  have hC : CI w_1158 := by first | exact h_1158.1 | exact h_1158.2.1
  have hE : EQS w_1158 v := EQS_s hE (by first | exact h_1158.2 | exact h_1158.2.2) ms_refl
  have hH : EQH w_1158 v := EQH_s hH hh_1158.1 rfl
  have hF9 : FV w_1158 (i + 9) := FV_k hFI (by omega) (by first | exact h_1158.2 | exact h_1158.2.2) hh_1158.1 hh_1158.2.1 hh_1158.2.2 (fp_K hk_1158)
  refine lv_pop S.1 S.2.1 dL_law_1161 rfl ?_
  refine lv_aload_n S.1 S.2.1 dL_law_1162 rfl (lv_at hl 3 rfl) ?_
  refine lv_aload_n S.1 S.2.1 dL_law_1163 rfl (lv_at hl 1 rfl) ?_
  refine lv_iload_n S.1 S.2.1 dL_law_1164 rfl (lv_at hl 0 rfl) ?_
  refine j_iconst S dL_law_1165 ?_
  refine j_iadd S (x := i) (y := 1) dL_law_1166 ?_
  refine lw_sld9 S hX hbl hL hS (z := (i + 1)) (by omega) dL_law_1167 ?_
  refine lv_aload_n S.1 S.2.1 dL_law_1168 rfl (lv_at hl 1 rfl) ?_
  refine lv_iload_n S.1 S.2.1 dL_law_1169 rfl (lv_at hl 0 rfl) ?_
  refine j_iconst S dL_law_1170 ?_
  refine j_iadd S (x := i) (y := 2) dL_law_1171 ?_
  refine lw_sld9 S hX hbl hL hS (z := (i + 2)) (by omega) dL_law_1172 ?_
  refine j_vWi S (As := [.int (J (sx xs (i + 1))), .int (J (sx xs (i + 2)))]) (rest := []) (c_X12_flips3 l D o q2 v A2 (mW_D hD2) (sx xs (i + 1)) (sx xs (i + 2)) hM sx_r sx_r) mf_X12_flips kw_1463 hG hP2 hP2 (ci := 8) (q0 := 0) rfl rfl rfl hS hA2 rfl hl.1 ⟨⟨(Nat.le_of_ble_eq_true rfl), (Nat.le_of_ble_eq_true rfl)⟩, (Nat.le_of_ble_eq_true rfl), hc1, hc2⟩ rfl dL_law_1173 (fun z_1173 w_1173 H9 locs h_1173 hB hF hS => ?_)
  have hP1 := lw_keep hP1 (cW_D (v := w_1158) hD1) hx hF
  have hP2 : va_P D.1 j_cl (mW D o q2 w_1173) H9 := hB
  obtain ⟨_, _, _, _, _, _, _, _, _, _, _, _, e_1173, h_1173⟩ := h_1173
  have hM : IM w_1173 := by first | exact h_1173.1 | exact h_1173.2 | exact h_1173
  have hH : EQH w_1158 w_1173 := EQH_s hH hs_refl (by rw [e_1173]; rfl)
  have hE : EQS w_1158 w_1173 := EQS_s hE cs_refl (by rw [e_1173]; exact ⟨rfl, rfl, rfl⟩)
  refine lv_pop S.1 S.2.1 dL_law_1176 rfl ?_
  refine lv_goto (tgt := 1299) S.1 S.2.1 dL_law_1177 (by decide) ?_
  exact kk _ _ _ _ ⟨⟨hE, hH, hF9⟩, hC, hM, hP1, hP2, hS⟩

set_option maxHeartbeats 4000000 in
set_option maxRecDepth 100000 in
theorem lc_26 {p : Program} {l : Launch} {en : Env} {s : State} {mi : MethodId} {below : List Frame} {meth : Method} {co : Code} {b L : Nat} {xs : Nat → Int32} {D : JD} {q : Nat → Nat} {o : Nat} {q2 : Nat → Nat} {A1 A2 : Nat → Prop} {cells slots : Nat} (K : lK p s mi co b L xs D q o q2 A1 A2 cells slots) {Q : State → Prop} {i : Int} (hi : 0 ≤ i ∧ i + 9 ≤ L) {ls : Array Slot} (hl : lv_has ls 4 [(3, .int (J i)), (0, .ref b), (1, .ref (q 0)), (2, .ref o)]) (kk : ∀ (u : CS) (v : MS) (H : Heap) (locs : List Loc), lI s D q o q2 u v H locs (i + 9) → W p l en room_1 s mi #[.ref b] below meth co H locs cells slots Q (F0 mi 1299 ls [])) (u : CS) (v : MS) (H : Heap) (locs : List Loc) (hI : lI s D q o q2 u v H locs i) : W p l en room_1 s mi #[.ref b] below meth co H locs cells slots Q (F0 mi 1180 ls []) := by
  obtain ⟨S, hG, hX, hbl, hL, hD1, hD2, hA1, hA2, hx, hc1, hc2⟩ := K
  have hx2 : ∀ a, A2 a → ¬ A1 a := fun a h2 h1 => hx a h1 h2
  obtain ⟨⟨hE, hH, hFI⟩, hC, hM, hP1, hP2, hS⟩ := hI
  have hF0 := hFI.1
  have hU0 := hFI.2
  have hC9 := hC
  have hE0 := hE
  have hH0 := hH
  refine lv_aload_n S.1 S.2.1 dL_law_1180 rfl (lv_at hl 2 rfl) ?_
  refine lv_aload_n S.1 S.2.1 dL_law_1181 rfl (lv_at hl 1 rfl) ?_
  refine lv_iload_n S.1 S.2.1 dL_law_1182 rfl (lv_at hl 0 rfl) ?_
  refine j_iconst S dL_law_1183 ?_
  refine j_iadd S (x := i) (y := 1) dL_law_1184 ?_
  refine lw_sld9 S hX hbl hL hS (z := (i + 1)) (by omega) dL_law_1185 ?_
  refine lv_aload_n S.1 S.2.1 dL_law_1186 rfl (lv_at hl 1 rfl) ?_
  refine lv_iload_n S.1 S.2.1 dL_law_1187 rfl (lv_at hl 0 rfl) ?_
  refine j_iconst S dL_law_1188 ?_
  refine j_iadd S (x := i) (y := 2) dL_law_1189 ?_
  refine lw_sld9 S hX hbl hL hS (z := (i + 2)) (by omega) dL_law_1190 ?_
  refine lv_aload_n S.1 S.2.1 dL_law_1191 rfl (lv_at hl 1 rfl) ?_
  refine lv_iload_n S.1 S.2.1 dL_law_1192 rfl (lv_at hl 0 rfl) ?_
  refine j_iconst S dL_law_1193 ?_
  refine j_iadd S (x := i) (y := 3) dL_law_1194 ?_
  refine lw_sld9 S hX hbl hL hS (z := (i + 3)) (by omega) dL_law_1195 ?_
  refine j_vWi S (As := [.int (J (sx xs (i + 1))), .int (J (sx xs (i + 2))), .int (J (sx xs (i + 3)))]) (rest := []) (c_X11_heightF l D q u A1 (cW_D hD1) (sx xs (i + 1)) (sx xs (i + 2)) (sx xs (i + 3)) hC sx_r sx_r sx_r) mf_X11_height kw_979 hG hP1 hP1 (ci := 11) (q0 := 0) rfl rfl rfl hS hA1 rfl hl.1 ⟨⟨(Nat.le_of_ble_eq_true rfl), (Nat.le_of_ble_eq_true rfl)⟩, (Nat.le_of_ble_eq_true rfl), hc1, hc2⟩ rfl dL_law_1196 (fun z_1196 w_1196 H9 locs h_1196 hB hF hS => ?_)
  obtain ⟨h_1196, hh_1196, hk_1196⟩ := h_1196
  have hP2 := lw_keep hP2 (mW_D (v := v) hD2) hx2 hF
  have hP1 : va_P D.1 j_cl (cW D q w_1196) H9 := hB
  have hC : CI w_1196 := by first | exact h_1196.1 | exact h_1196.2.1
  have hE : EQS w_1196 v := EQS_s hE (by first | exact h_1196.2 | exact h_1196.2.2) ms_refl
  have hF9 : FV w_1196 (i + 9) := FV_ht hFI (by omega) (by omega) (by first | exact h_1196.2 | exact h_1196.2.2) hh_1196 hk_1196
  refine lv_pop S.1 S.2.1 dL_law_1199 rfl ?_
  refine lv_aload_n S.1 S.2.1 dL_law_1200 rfl (lv_at hl 3 rfl) ?_
  refine lv_aload_n S.1 S.2.1 dL_law_1201 rfl (lv_at hl 1 rfl) ?_
  refine lv_iload_n S.1 S.2.1 dL_law_1202 rfl (lv_at hl 0 rfl) ?_
  refine j_iconst S dL_law_1203 ?_
  refine j_iadd S (x := i) (y := 1) dL_law_1204 ?_
  refine lw_sld9 S hX hbl hL hS (z := (i + 1)) (by omega) dL_law_1205 ?_
  refine lv_aload_n S.1 S.2.1 dL_law_1206 rfl (lv_at hl 1 rfl) ?_
  refine lv_iload_n S.1 S.2.1 dL_law_1207 rfl (lv_at hl 0 rfl) ?_
  refine j_iconst S dL_law_1208 ?_
  refine j_iadd S (x := i) (y := 2) dL_law_1209 ?_
  refine lw_sld9 S hX hbl hL hS (z := (i + 2)) (by omega) dL_law_1210 ?_
  refine lv_aload_n S.1 S.2.1 dL_law_1211 rfl (lv_at hl 1 rfl) ?_
  refine lv_iload_n S.1 S.2.1 dL_law_1212 rfl (lv_at hl 0 rfl) ?_
  refine j_iconst S dL_law_1213 ?_
  refine j_iadd S (x := i) (y := 3) dL_law_1214 ?_
  refine lw_sld9 S hX hbl hL hS (z := (i + 3)) (by omega) dL_law_1215 ?_
  refine j_vWi S (As := [.int (J (sx xs (i + 1))), .int (J (sx xs (i + 2))), .int (J (sx xs (i + 3)))]) (rest := []) (c_X12_heightH l D o q2 v A2 (mW_D hD2) (sx xs (i + 1)) (sx xs (i + 2)) (sx xs (i + 3)) hM sx_r sx_r sx_r) mf_X12_height kw_1467 hG hP2 hP2 (ci := 8) (q0 := 0) rfl rfl rfl hS hA2 rfl hl.1 ⟨⟨(Nat.le_of_ble_eq_true rfl), (Nat.le_of_ble_eq_true rfl)⟩, (Nat.le_of_ble_eq_true rfl), hc1, hc2⟩ rfl dL_law_1216 (fun z_1216 w_1216 H9 locs h_1216 hB hF hS => ?_)
  have hP1 := lw_keep hP1 (cW_D (v := w_1196) hD1) hx hF
  have hP2 : va_P D.1 j_cl (mW D o q2 w_1216) H9 := hB
  obtain ⟨_, e_1216, h_1216⟩ := h_1216
  obtain ⟨h_1216, hh_1216⟩ := h_1216
  have hM : IM w_1216 := by first | exact h_1216.1 | exact h_1216.2 | exact h_1216
  have hq9 := EQ_ht hC9 hE0 hH0 hh_1196 hh_1216
  have hH : EQH w_1196 w_1216 := hq9.2
  have hE : EQS w_1196 w_1216 := EQS_s hE cs_refl (by rw [e_1216]; exact ⟨rfl, rfl, rfl⟩)
  refine lv_pop S.1 S.2.1 dL_law_1219 rfl ?_
  refine lv_goto (tgt := 1299) S.1 S.2.1 dL_law_1220 (by decide) ?_
  exact kk _ _ _ _ ⟨⟨hE, hH, hF9⟩, hC, hM, hP1, hP2, hS⟩

set_option maxHeartbeats 4000000 in
set_option maxRecDepth 100000 in
theorem lc_27 {p : Program} {l : Launch} {en : Env} {s : State} {mi : MethodId} {below : List Frame} {meth : Method} {co : Code} {b L : Nat} {xs : Nat → Int32} {D : JD} {q : Nat → Nat} {o : Nat} {q2 : Nat → Nat} {A1 A2 : Nat → Prop} {cells slots : Nat} (K : lK p s mi co b L xs D q o q2 A1 A2 cells slots) {Q : State → Prop} {i : Int} (hi : 0 ≤ i ∧ i + 9 ≤ L) {ls : Array Slot} (hl : lv_has ls 4 [(3, .int (J i)), (0, .ref b), (1, .ref (q 0)), (2, .ref o)]) (kk : ∀ (u : CS) (v : MS) (H : Heap) (locs : List Loc), lI s D q o q2 u v H locs (i + 9) → W p l en room_1 s mi #[.ref b] below meth co H locs cells slots Q (F0 mi 1299 ls [])) (u : CS) (v : MS) (H : Heap) (locs : List Loc) (hI : lI s D q o q2 u v H locs i) : W p l en room_1 s mi #[.ref b] below meth co H locs cells slots Q (F0 mi 1223 ls []) := by
  obtain ⟨S, hG, hX, hbl, hL, hD1, hD2, hA1, hA2, hx, hc1, hc2⟩ := K
  have hx2 : ∀ a, A2 a → ¬ A1 a := fun a h2 h1 => hx a h1 h2
  obtain ⟨⟨hE, hH, hFI⟩, hC, hM, hP1, hP2, hS⟩ := hI
  have hF0 := hFI.1
  have hU0 := hFI.2
  have hC9 := hC
  have hE0 := hE
  have hH0 := hH
  refine lv_aload_n S.1 S.2.1 dL_law_1223 rfl (lv_at hl 2 rfl) ?_
  refine lv_aload_n S.1 S.2.1 dL_law_1224 rfl (lv_at hl 1 rfl) ?_
  refine lv_iload_n S.1 S.2.1 dL_law_1225 rfl (lv_at hl 0 rfl) ?_
  refine j_iconst S dL_law_1226 ?_
  refine j_iadd S (x := i) (y := 1) dL_law_1227 ?_
  refine lw_sld9 S hX hbl hL hS (z := (i + 1)) (by omega) dL_law_1228 ?_
  refine lv_aload_n S.1 S.2.1 dL_law_1229 rfl (lv_at hl 1 rfl) ?_
  refine lv_iload_n S.1 S.2.1 dL_law_1230 rfl (lv_at hl 0 rfl) ?_
  refine j_iconst S dL_law_1231 ?_
  refine j_iadd S (x := i) (y := 2) dL_law_1232 ?_
  refine lw_sld9 S hX hbl hL hS (z := (i + 2)) (by omega) dL_law_1233 ?_
  refine j_vWi S (As := [.int (J (sx xs (i + 1))), .int (J (sx xs (i + 2)))]) (rest := []) (c_X11_pieces3 l D q u A1 (cW_D hD1) (sx xs (i + 1)) (sx xs (i + 2)) hC sx_r sx_r) mf_X11_pieces kw_983 hG hP1 hP1 (ci := 11) (q0 := 0) rfl rfl rfl hS hA1 rfl hl.1 ⟨⟨(Nat.le_of_ble_eq_true rfl), (Nat.le_of_ble_eq_true rfl)⟩, (Nat.le_of_ble_eq_true rfl), hc1, hc2⟩ rfl dL_law_1234 (fun z_1234 w_1234 H9 locs h_1234 hB hF hS => ?_)
  obtain ⟨hc_1234, hcs_1234, hh_1234, hss_1234, hku_1234, hps_1234⟩ := h_1234
  have h_1234 := And.intro hc_1234 hcs_1234
  have hP2 := lw_keep hP2 (mW_D (v := v) hD2) hx2 hF
  have hP1 : va_P D.1 j_cl (cW D q w_1234) H9 := hB
  have hC : CI w_1234 := by first | exact h_1234.1 | exact h_1234.2.1
  have hE : EQS w_1234 v := EQS_s hE (by first | exact h_1234.2 | exact h_1234.2.2) ms_refl
  have hH : EQH w_1234 v := EQH_s hH hh_1234 rfl
  have hF9 : FV w_1234 (i + 9) := FV_ps hFI (by omega) hcs_1234 hh_1234 hss_1234 hps_1234 hku_1234
  refine lv_pop S.1 S.2.1 dL_law_1237 rfl ?_
  refine lv_aload_n S.1 S.2.1 dL_law_1238 rfl (lv_at hl 3 rfl) ?_
  refine lv_aload_n S.1 S.2.1 dL_law_1239 rfl (lv_at hl 1 rfl) ?_
  refine lv_iload_n S.1 S.2.1 dL_law_1240 rfl (lv_at hl 0 rfl) ?_
  refine j_iconst S dL_law_1241 ?_
  refine j_iadd S (x := i) (y := 1) dL_law_1242 ?_
  refine lw_sld9 S hX hbl hL hS (z := (i + 1)) (by omega) dL_law_1243 ?_
  refine lv_aload_n S.1 S.2.1 dL_law_1244 rfl (lv_at hl 1 rfl) ?_
  refine lv_iload_n S.1 S.2.1 dL_law_1245 rfl (lv_at hl 0 rfl) ?_
  refine j_iconst S dL_law_1246 ?_
  refine j_iadd S (x := i) (y := 2) dL_law_1247 ?_
  refine lw_sld9 S hX hbl hL hS (z := (i + 2)) (by omega) dL_law_1248 ?_
  refine j_vWi S (As := [.int (J (sx xs (i + 1))), .int (J (sx xs (i + 2)))]) (rest := []) (c_X12_pieces3 l D o q2 v A2 (mW_D hD2) (sx xs (i + 1)) (sx xs (i + 2)) hM sx_r sx_r) mf_X12_pieces kw_1475 hG hP2 hP2 (ci := 8) (q0 := 0) rfl rfl rfl hS hA2 rfl hl.1 ⟨⟨(Nat.le_of_ble_eq_true rfl), (Nat.le_of_ble_eq_true rfl)⟩, (Nat.le_of_ble_eq_true rfl), hc1, hc2⟩ rfl dL_law_1249 (fun z_1249 w_1249 H9 locs h_1249 hB hF hS => ?_)
  have hP1 := lw_keep hP1 (cW_D (v := w_1234) hD1) hx hF
  have hP2 : va_P D.1 j_cl (mW D o q2 w_1249) H9 := hB
  obtain ⟨_, _, _, _, _, e_1249, h_1249⟩ := h_1249
  have hM : IM w_1249 := by first | exact h_1249.1 | exact h_1249.2 | exact h_1249
  have hH : EQH w_1234 w_1249 := EQH_s hH hs_refl (by rw [e_1249]; rfl)
  have hE : EQS w_1234 w_1249 := EQS_s hE cs_refl (by rw [e_1249]; exact ⟨rfl, rfl, rfl⟩)
  refine lv_pop S.1 S.2.1 dL_law_1252 rfl ?_
  refine lv_goto (tgt := 1299) S.1 S.2.1 dL_law_1253 (by decide) ?_
  exact kk _ _ _ _ ⟨⟨hE, hH, hF9⟩, hC, hM, hP1, hP2, hS⟩

set_option maxHeartbeats 4000000 in
set_option maxRecDepth 100000 in
theorem lc_28 {p : Program} {l : Launch} {en : Env} {s : State} {mi : MethodId} {below : List Frame} {meth : Method} {co : Code} {b L : Nat} {xs : Nat → Int32} {D : JD} {q : Nat → Nat} {o : Nat} {q2 : Nat → Nat} {A1 A2 : Nat → Prop} {cells slots : Nat} (K : lK p s mi co b L xs D q o q2 A1 A2 cells slots) {Q : State → Prop} {i : Int} (hi : 0 ≤ i ∧ i + 9 ≤ L) {ls : Array Slot} (hl : lv_has ls 4 [(3, .int (J i)), (0, .ref b), (1, .ref (q 0)), (2, .ref o)]) (kk : ∀ (u : CS) (v : MS) (H : Heap) (locs : List Loc), lI s D q o q2 u v H locs (i + 9) → W p l en room_1 s mi #[.ref b] below meth co H locs cells slots Q (F0 mi 1299 ls [])) (u : CS) (v : MS) (H : Heap) (locs : List Loc) (hI : lI s D q o q2 u v H locs i) : W p l en room_1 s mi #[.ref b] below meth co H locs cells slots Q (F0 mi 1256 ls []) := by
  obtain ⟨S, hG, hX, hbl, hL, hD1, hD2, hA1, hA2, hx, hc1, hc2⟩ := K
  have hx2 : ∀ a, A2 a → ¬ A1 a := fun a h2 h1 => hx a h1 h2
  obtain ⟨⟨hE, hH, hFI⟩, hC, hM, hP1, hP2, hS⟩ := hI
  have hF0 := hFI.1
  have hU0 := hFI.2
  have hC9 := hC
  have hE0 := hE
  have hH0 := hH
  refine lv_aload_n S.1 S.2.1 dL_law_1256 rfl (lv_at hl 2 rfl) ?_
  refine lv_aload_n S.1 S.2.1 dL_law_1257 rfl (lv_at hl 1 rfl) ?_
  refine lv_iload_n S.1 S.2.1 dL_law_1258 rfl (lv_at hl 0 rfl) ?_
  refine j_iconst S dL_law_1259 ?_
  refine j_iadd S (x := i) (y := 1) dL_law_1260 ?_
  refine lw_sld9 S hX hbl hL hS (z := (i + 1)) (by omega) dL_law_1261 ?_
  refine lv_aload_n S.1 S.2.1 dL_law_1262 rfl (lv_at hl 1 rfl) ?_
  refine lv_iload_n S.1 S.2.1 dL_law_1263 rfl (lv_at hl 0 rfl) ?_
  refine j_iconst S dL_law_1264 ?_
  refine j_iadd S (x := i) (y := 2) dL_law_1265 ?_
  refine lw_sld9 S hX hbl hL hS (z := (i + 2)) (by omega) dL_law_1266 ?_
  refine lv_aload_n S.1 S.2.1 dL_law_1267 rfl (lv_at hl 1 rfl) ?_
  refine lv_iload_n S.1 S.2.1 dL_law_1268 rfl (lv_at hl 0 rfl) ?_
  refine j_iconst S dL_law_1269 ?_
  refine j_iadd S (x := i) (y := 3) dL_law_1270 ?_
  refine lw_sld9 S hX hbl hL hS (z := (i + 3)) (by omega) dL_law_1271 ?_
  refine j_vWi S (As := [.int (J (sx xs (i + 1))), .int (J (sx xs (i + 2))), .int (J (sx xs (i + 3)))]) (rest := []) (c_X11_piece3 l D q u A1 (cW_D hD1) (sx xs (i + 1)) (sx xs (i + 2)) (sx xs (i + 3)) hC sx_r sx_r sx_r) mf_X11_piece kw_1045 hG hP1 hP1 (ci := 11) (q0 := 0) rfl rfl rfl hS hA1 rfl hl.1 ⟨⟨(Nat.le_of_ble_eq_true rfl), (Nat.le_of_ble_eq_true rfl)⟩, (Nat.le_of_ble_eq_true rfl), hc1, hc2⟩ rfl dL_law_1272 (fun z_1272 w_1272 H9 locs h_1272 hB hF hS => ?_)
  obtain ⟨hc_1272, hcs_1272, hh_1272, hss_1272, hku_1272, hps_1272⟩ := h_1272
  have h_1272 := And.intro hc_1272 hcs_1272
  have hP2 := lw_keep hP2 (mW_D (v := v) hD2) hx2 hF
  have hP1 : va_P D.1 j_cl (cW D q w_1272) H9 := hB
  have hC : CI w_1272 := by first | exact h_1272.1 | exact h_1272.2.1
  have hE : EQS w_1272 v := EQS_s hE (by first | exact h_1272.2 | exact h_1272.2.2) ms_refl
  have hH : EQH w_1272 v := EQH_s hH hh_1272 rfl
  have hF9 : FV w_1272 (i + 9) := FV_pc hFI (by omega) hcs_1272 hh_1272 hss_1272 hps_1272 hku_1272
  refine lv_pop S.1 S.2.1 dL_law_1275 rfl ?_
  refine lv_aload_n S.1 S.2.1 dL_law_1276 rfl (lv_at hl 3 rfl) ?_
  refine lv_aload_n S.1 S.2.1 dL_law_1277 rfl (lv_at hl 1 rfl) ?_
  refine lv_iload_n S.1 S.2.1 dL_law_1278 rfl (lv_at hl 0 rfl) ?_
  refine j_iconst S dL_law_1279 ?_
  refine j_iadd S (x := i) (y := 1) dL_law_1280 ?_
  refine lw_sld9 S hX hbl hL hS (z := (i + 1)) (by omega) dL_law_1281 ?_
  refine lv_aload_n S.1 S.2.1 dL_law_1282 rfl (lv_at hl 1 rfl) ?_
  refine lv_iload_n S.1 S.2.1 dL_law_1283 rfl (lv_at hl 0 rfl) ?_
  refine j_iconst S dL_law_1284 ?_
  refine j_iadd S (x := i) (y := 2) dL_law_1285 ?_
  refine lw_sld9 S hX hbl hL hS (z := (i + 2)) (by omega) dL_law_1286 ?_
  refine lv_aload_n S.1 S.2.1 dL_law_1287 rfl (lv_at hl 1 rfl) ?_
  refine lv_iload_n S.1 S.2.1 dL_law_1288 rfl (lv_at hl 0 rfl) ?_
  refine j_iconst S dL_law_1289 ?_
  refine j_iadd S (x := i) (y := 3) dL_law_1290 ?_
  refine lw_sld9 S hX hbl hL hS (z := (i + 3)) (by omega) dL_law_1291 ?_
  refine j_vWi S (As := [.int (J (sx xs (i + 1))), .int (J (sx xs (i + 2))), .int (J (sx xs (i + 3)))]) (rest := []) (c_X12_piece3 l D o q2 v A2 (mW_D hD2) (sx xs (i + 1)) (sx xs (i + 2)) (sx xs (i + 3)) hM sx_r sx_r sx_r) mf_X12_piece kw_1496 hG hP2 hP2 (ci := 8) (q0 := 0) rfl rfl rfl hS hA2 rfl hl.1 ⟨⟨(Nat.le_of_ble_eq_true rfl), (Nat.le_of_ble_eq_true rfl)⟩, (Nat.le_of_ble_eq_true rfl), hc1, hc2⟩ rfl dL_law_1292 (fun z_1292 w_1292 H9 locs h_1292 hB hF hS => ?_)
  have hP1 := lw_keep hP1 (cW_D (v := w_1272) hD1) hx hF
  have hP2 : va_P D.1 j_cl (mW D o q2 w_1292) H9 := hB
  obtain ⟨_, _, _, _, _, e_1292, h_1292⟩ := h_1292
  have hM : IM w_1292 := by first | exact h_1292.1 | exact h_1292.2 | exact h_1292
  have hH : EQH w_1272 w_1292 := EQH_s hH hs_refl (by rw [e_1292]; rfl)
  have hE : EQS w_1272 w_1292 := EQS_s hE cs_refl (by rw [e_1292]; exact ⟨rfl, rfl, rfl⟩)
  refine lv_pop S.1 S.2.1 dL_law_1295 rfl ?_
  refine lv_goto (tgt := 1299) S.1 S.2.1 dL_law_1296 (by decide) ?_
  exact kk _ _ _ _ ⟨⟨hE, hH, hF9⟩, hC, hM, hP1, hP2, hS⟩
