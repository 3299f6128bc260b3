
theorem arrV_c {cI : ClassId} {N : Nat} {f g : Nat → Value} (h : ∀ i, i < N → f i = g i) : arrV cI N f = arrV cI N g := by
  unfold arrV
  rw [show (fun j : Fin N => f j.val) = fun j => g j.val from funext fun j => h j.val j.isLt]
theorem j_sa8 {D : JD} {H : Heap} {a : Nat} {f g : Nat → Option Nat} (h : va_at D.1 j_cl (a, .inl (D.2.2.2, 8, .inr (.inr (.inr (.inr f))))) H) (e : ∀ i, i < 8 → f i = g i) : va_at D.1 j_cl (a, .inl (D.2.2.2, 8, .inr (.inr (.inr (.inr g))))) H := by
  show H[a]? = some (vp_cell _ _)
  rw [vp_cell_q, ← arrV_c (fun i hi => congrArg va_rf (e i hi))]
  exact h
theorem j_sa {D : va_G} {cl : List vw_C} {x y y' : Nat × va_E} {ws : va_W} {H : Heap} (h : va_P D cl (x :: y :: ws) H) (hy : va_at D cl y' H) : va_P D cl (x :: y' :: ws) H := by
  intro k q hk
  match k, hk with
  | 0, hk => exact h 0 q hk
  | 1, hk => cases hk; exact hy
  | k + 2, hk => exact h (k + 2) q hk
section JA
variable {p : Program} {l : Launch} {e9 : Env} {R : Room} {s : State} {m : MethodId} {args : Array Value} {below : List Frame} {meth : Method} {c : Code} {H : Heap} {locs : List Loc} {cells slots : Nat} {Q : State → Prop}
variable {cc : ByteArray} {nL : Nat} {own : String} {pc : Nat} {ls : Array Slot} {rest : List Value}
theorem j_astS (S : jS p m c cc nL s args own) {D : JD} {ws : va_W} {A : Nat → Prop} {H0 : Heap} (hG : j_K D s) (hP : va_P D.1 j_cl ws H) (hD : va_D A ws) (hS : va_S A H0 H locs) (q0 qk : Nat) {a v : Nat} {vs : List Value} {f : Nat → Option Nat} (ha : ws[q0]? = some (a, .inl (D.2.2.2, 8, .inr (.inr (.inr (.inr f)))))) (hv : ws[qk]? = some (v, .inr (10, vs))) {z : Int} (i : Nat) (hz : 0 ≤ z ∧ z < 8) (e : z.toNat = i) (hdg : decode cc pc = .ok (.aastore, 1))
    (kk : ∀ (H1 : Heap) (locs1 : List Loc), va_P D.1 j_cl (ws.set q0 (a, .inl (D.2.2.2, 8, .inr (.inr (.inr (.inr (va_up f i (some v)))))))) H1 → va_D A (ws.set q0 (a, .inl (D.2.2.2, 8, .inr (.inr (.inr (.inr (va_up f i (some v)))))))) → va_S A H0 H1 locs1 → W p l e9 R s m args below meth c H1 locs1 cells slots Q (F0 m (pc + 1) ls rest)) : W p l e9 R s m args below meth c H locs cells slots Q (F0 m pc ls (.ref v :: .int (J z) :: .ref a :: rest)) := by
  refine va_astq S.1 S.2.1 hG.1 hP hD hS q0 2 qk 10 (r := (RX10, TX10, 3)) ha rfl hv rfl (J_in (n := 8) hz (by omega)) hdg (fun H1 l1 h1 h2 h3 => ?_)
  rw [J_clamp (by omega), e] at h1 h2
  exact kk H1 l1 h1 h2 h3
end JA
/-! the states at the start -/
def mS0 : MS := (fun _ _ => 0, fun _ _ => 0, fun _ => 0)
def cZ : CS := ((fun _ _ => 0, fun _ _ => 0, fun _ => 0, fun _ _ => 0, fun _ => 0), mS0)
def cS0 : CS := sV (sV (sV cZ 12 (-1)) 24 (-1)) 26 (-1)
theorem IM0 : IM mS0 := ⟨fun s _ _ => ⟨by show (0 : Int) ≤ 0 ∧ (0 : Int) ≤ 24; omega, fun h => absurd h (by show ¬ (0 : Int) < 0; omega), Or.inl (by show (0 : Int) ≤ 1; omega)⟩, fun k => by show (-1000 : Int) ≤ 0 ∧ (0 : Int) ≤ 1000; omega, fun a _ => by show ((-40 : Int) ≤ 0 ∧ (0 : Int) ≤ 40) ∧ (-40 : Int) ≤ 0 ∧ (0 : Int) ≤ 40; omega⟩
theorem RB0 {K : Int} (h : 0 ≤ K) (r : Nat) : RB K cS0 r := ⟨by show (0 : Int) ≤ 0 ∧ (0 : Int) ≤ rl r; omega, fun i => by show (-K ≤ (0 : Int) ∧ (0 : Int) ≤ K) ∧ -K ≤ (0 : Int) ∧ (0 : Int) ≤ K; omega⟩
theorem CI0 : CI cS0 := by
  refine ⟨fun i hi => ⟨RB0 (by decide) i, fun k => by show (-1000 : Int) ≤ 0 ∧ (0 : Int) ≤ 1000; omega, by show (-2147483648 : Int) ≤ 0 ∧ (0 : Int) ≤ 2147483647; omega⟩, ⟨RB0 (by decide) 8, RB0 (by decide) 9, RB0 (by decide) 10⟩, fun i => by show ((-80 : Int) ≤ 0 ∧ (0 : Int) ≤ 81) ∧ (-81 : Int) ≤ 0 ∧ (0 : Int) ≤ 80; omega, by show (-2147483648 : Int) ≤ 0 ∧ (0 : Int) ≤ 2147483647; omega, ⟨fun k => by show (0 : Int) ≤ 0 ∧ (0 : Int) ≤ 1000000; omega, fun k => by show (0 : Int) ≤ 0 ∧ (0 : Int) ≤ 80; omega, by show (-2147483648 : Int) ≤ -1 ∧ (-1 : Int) ≤ 2147483647; omega⟩, ⟨by show (0 : Int) ≤ 0 ∧ (0 : Int) ≤ 63; omega, by show (0 : Int) ≤ 0 ∧ (0 : Int) ≤ 756; omega, fun k => by show ((0 : Int) ≤ 0 ∧ (0 : Int) ≤ 12) ∧ (0 : Int) ≤ 0 ∧ (0 : Int) ≤ 12; omega, fun k => by show (-1 : Int) ≤ 0 ∧ (0 : Int) ≤ 63; omega⟩, ⟨by show (0 : Int) ≤ 0 ∧ (0 : Int) ≤ 1500; omega, Or.inl rfl, by show (-2147483648 : Int) ≤ -1 ∧ (-1 : Int) ≤ 2147483647; omega, fun k => by show (0 : Int) ≤ 0 ∧ (0 : Int) ≤ 1500; omega⟩, by show (0 : Int) ≤ 0 ∧ (0 : Int) ≤ 80; omega, by show (-2147483648 : Int) ≤ -1 ∧ (-1 : Int) ≤ 2147483647; omega⟩
theorem up00 : upI (fun _ => (0 : Int)) (0 : Int).toNat 0 = fun _ => 0 := by
  funext j; unfold upI; split <;> rfl
