/-! the reference's state: int arrays, long arrays, int fields by the fields' places -/
abbrev MS : Type := (Nat → Nat → Int) × (Nat → Nat → Int64) × (Nat → Int)
def uI (u : MS) (k : Nat) (f : Nat → Int) : MS := (fun j => if j = k then f else u.1 j, u.2)
def uL (u : MS) (k : Nat) (f : Nat → Int64) : MS := (u.1, fun j => if j = k then f else u.2.1 j, u.2.2)
def uV (u : MS) (k : Nat) (v : Int) : MS := (u.1, u.2.1, fun j => if j = k then v else u.2.2 j)
def mF (q : Nat → Nat) (u : MS) : List Value := [.ref (q 0), .ref (q 1), .ref (q 2), .ref (q 3), .ref (q 4), .ref (q 5), .int (J (u.2.2 6)), .ref (q 7), .ref (q 8), .int (J (u.2.2 9)), .ref (q 10), .ref (q 11), .int (J (u.2.2 12)), .ref (q 13), .ref (q 14), .ref (q 15), .ref (q 16), .ref (q 17), .ref (q 18), .int (J (u.2.2 19)), .ref (q 20), .ref (q 21), .ref (q 22), .int (J (u.2.2 23)), .ref (q 24), .ref (q 25), .ref (q 26), .int (J (u.2.2 27)), .int (J (u.2.2 28)), .ref (q 29), .int (J (u.2.2 30))]
def mW (D : JD) (o : Nat) (q : Nat → Nat) (u : MS) : va_W := [(o, .inr (8, mF q u)), (q 0, .inl (D.2.1, 8, .inl (fun i => J (u.1 0 i)))), (q 1, .inl (D.2.1, 192, .inl (fun i => J (u.1 1 i)))), (q 2, .inl (D.2.1, 192, .inl (fun i => J (u.1 2 i)))), (q 3, .inl (D.2.1, 320, .inl (fun i => J (u.1 3 i)))), (q 4, .inl (D.2.1, 640, .inl (fun i => J (u.1 4 i)))), (q 5, .inl (D.2.1, 640, .inl (fun i => J (u.1 5 i)))), (q 7, .inl (D.2.1, 1300, .inl (fun i => J (u.1 7 i)))), (q 8, .inl (D.2.1, 1300, .inl (fun i => J (u.1 8 i)))), (q 10, .inl (D.2.1, 6561, .inl (fun i => J (u.1 10 i)))), (q 11, .inl (D.2.1, 6561, .inl (fun i => J (u.1 11 i)))), (q 13, .inl (D.2.2.1, 25921, .inr (.inl (u.2.1 13)))), (q 14, .inl (D.2.2.1, 25921, .inr (.inl (u.2.1 14)))), (q 15, .inl (D.2.1, 648025, .inl (fun i => J (u.1 15 i)))), (q 16, .inl (D.2.1, 24, .inl (fun i => J (u.1 16 i)))), (q 17, .inl (D.2.1, 4000, .inl (fun i => J (u.1 17 i)))), (q 18, .inl (D.2.1, 4000, .inl (fun i => J (u.1 18 i)))), (q 20, .inl (D.2.1, 66, .inl (fun i => J (u.1 20 i)))), (q 21, .inl (D.2.1, 66, .inl (fun i => J (u.1 21 i)))), (q 22, .inl (D.2.1, 144, .inl (fun i => J (u.1 22 i)))), (q 24, .inl (D.2.2.1, 1501, .inr (.inl (u.2.1 24)))), (q 25, .inl (D.2.1, 1501, .inl (fun i => J (u.1 25 i)))), (q 26, .inl (D.2.1, 4096, .inl (fun i => J (u.1 26 i)))), (q 29, .inl (D.2.2.1, 100, .inr (.inl (u.2.1 29))))]
theorem mV_6 (D : JD) (o : Nat) (q : Nat → Nat) (u : MS) (v : Int) : (mW D o q u).set 0 (o, .inr (8, (mF q u).set 6 (.int (J v)))) = mW D o q (uV u 6 v) := rfl
theorem mV_9 (D : JD) (o : Nat) (q : Nat → Nat) (u : MS) (v : Int) : (mW D o q u).set 0 (o, .inr (8, (mF q u).set 9 (.int (J v)))) = mW D o q (uV u 9 v) := rfl
theorem mV_12 (D : JD) (o : Nat) (q : Nat → Nat) (u : MS) (v : Int) : (mW D o q u).set 0 (o, .inr (8, (mF q u).set 12 (.int (J v)))) = mW D o q (uV u 12 v) := rfl
theorem mV_19 (D : JD) (o : Nat) (q : Nat → Nat) (u : MS) (v : Int) : (mW D o q u).set 0 (o, .inr (8, (mF q u).set 19 (.int (J v)))) = mW D o q (uV u 19 v) := rfl
theorem mV_23 (D : JD) (o : Nat) (q : Nat → Nat) (u : MS) (v : Int) : (mW D o q u).set 0 (o, .inr (8, (mF q u).set 23 (.int (J v)))) = mW D o q (uV u 23 v) := rfl
theorem mV_27 (D : JD) (o : Nat) (q : Nat → Nat) (u : MS) (v : Int) : (mW D o q u).set 0 (o, .inr (8, (mF q u).set 27 (.int (J v)))) = mW D o q (uV u 27 v) := rfl
theorem mV_28 (D : JD) (o : Nat) (q : Nat → Nat) (u : MS) (v : Int) : (mW D o q u).set 0 (o, .inr (8, (mF q u).set 28 (.int (J v)))) = mW D o q (uV u 28 v) := rfl
theorem mV_30 (D : JD) (o : Nat) (q : Nat → Nat) (u : MS) (v : Int) : (mW D o q u).set 0 (o, .inr (8, (mF q u).set 30 (.int (J v)))) = mW D o q (uV u 30 v) := rfl
theorem mI_0 (D : JD) (o : Nat) (q : Nat → Nat) (u : MS) (f : Nat → Int) : (mW D o q u).set 1 (q 0, .inl (D.2.1, 8, .inl (fun i => J (f i)))) = mW D o q (uI u 0 f) := rfl
theorem mI_1 (D : JD) (o : Nat) (q : Nat → Nat) (u : MS) (f : Nat → Int) : (mW D o q u).set 2 (q 1, .inl (D.2.1, 192, .inl (fun i => J (f i)))) = mW D o q (uI u 1 f) := rfl
theorem mI_2 (D : JD) (o : Nat) (q : Nat → Nat) (u : MS) (f : Nat → Int) : (mW D o q u).set 3 (q 2, .inl (D.2.1, 192, .inl (fun i => J (f i)))) = mW D o q (uI u 2 f) := rfl
theorem mI_3 (D : JD) (o : Nat) (q : Nat → Nat) (u : MS) (f : Nat → Int) : (mW D o q u).set 4 (q 3, .inl (D.2.1, 320, .inl (fun i => J (f i)))) = mW D o q (uI u 3 f) := rfl
theorem mI_4 (D : JD) (o : Nat) (q : Nat → Nat) (u : MS) (f : Nat → Int) : (mW D o q u).set 5 (q 4, .inl (D.2.1, 640, .inl (fun i => J (f i)))) = mW D o q (uI u 4 f) := rfl
theorem mI_5 (D : JD) (o : Nat) (q : Nat → Nat) (u : MS) (f : Nat → Int) : (mW D o q u).set 6 (q 5, .inl (D.2.1, 640, .inl (fun i => J (f i)))) = mW D o q (uI u 5 f) := rfl
theorem mI_7 (D : JD) (o : Nat) (q : Nat → Nat) (u : MS) (f : Nat → Int) : (mW D o q u).set 7 (q 7, .inl (D.2.1, 1300, .inl (fun i => J (f i)))) = mW D o q (uI u 7 f) := rfl
theorem mI_8 (D : JD) (o : Nat) (q : Nat → Nat) (u : MS) (f : Nat → Int) : (mW D o q u).set 8 (q 8, .inl (D.2.1, 1300, .inl (fun i => J (f i)))) = mW D o q (uI u 8 f) := rfl
theorem mI_10 (D : JD) (o : Nat) (q : Nat → Nat) (u : MS) (f : Nat → Int) : (mW D o q u).set 9 (q 10, .inl (D.2.1, 6561, .inl (fun i => J (f i)))) = mW D o q (uI u 10 f) := rfl
theorem mI_11 (D : JD) (o : Nat) (q : Nat → Nat) (u : MS) (f : Nat → Int) : (mW D o q u).set 10 (q 11, .inl (D.2.1, 6561, .inl (fun i => J (f i)))) = mW D o q (uI u 11 f) := rfl
theorem mI_15 (D : JD) (o : Nat) (q : Nat → Nat) (u : MS) (f : Nat → Int) : (mW D o q u).set 13 (q 15, .inl (D.2.1, 648025, .inl (fun i => J (f i)))) = mW D o q (uI u 15 f) := rfl
theorem mI_16 (D : JD) (o : Nat) (q : Nat → Nat) (u : MS) (f : Nat → Int) : (mW D o q u).set 14 (q 16, .inl (D.2.1, 24, .inl (fun i => J (f i)))) = mW D o q (uI u 16 f) := rfl
theorem mI_17 (D : JD) (o : Nat) (q : Nat → Nat) (u : MS) (f : Nat → Int) : (mW D o q u).set 15 (q 17, .inl (D.2.1, 4000, .inl (fun i => J (f i)))) = mW D o q (uI u 17 f) := rfl
theorem mI_18 (D : JD) (o : Nat) (q : Nat → Nat) (u : MS) (f : Nat → Int) : (mW D o q u).set 16 (q 18, .inl (D.2.1, 4000, .inl (fun i => J (f i)))) = mW D o q (uI u 18 f) := rfl
theorem mI_20 (D : JD) (o : Nat) (q : Nat → Nat) (u : MS) (f : Nat → Int) : (mW D o q u).set 17 (q 20, .inl (D.2.1, 66, .inl (fun i => J (f i)))) = mW D o q (uI u 20 f) := rfl
theorem mI_21 (D : JD) (o : Nat) (q : Nat → Nat) (u : MS) (f : Nat → Int) : (mW D o q u).set 18 (q 21, .inl (D.2.1, 66, .inl (fun i => J (f i)))) = mW D o q (uI u 21 f) := rfl
theorem mI_22 (D : JD) (o : Nat) (q : Nat → Nat) (u : MS) (f : Nat → Int) : (mW D o q u).set 19 (q 22, .inl (D.2.1, 144, .inl (fun i => J (f i)))) = mW D o q (uI u 22 f) := rfl
theorem mI_25 (D : JD) (o : Nat) (q : Nat → Nat) (u : MS) (f : Nat → Int) : (mW D o q u).set 21 (q 25, .inl (D.2.1, 1501, .inl (fun i => J (f i)))) = mW D o q (uI u 25 f) := rfl
theorem mI_26 (D : JD) (o : Nat) (q : Nat → Nat) (u : MS) (f : Nat → Int) : (mW D o q u).set 22 (q 26, .inl (D.2.1, 4096, .inl (fun i => J (f i)))) = mW D o q (uI u 26 f) := rfl
theorem mL_13 (D : JD) (o : Nat) (q : Nat → Nat) (u : MS) (f : Nat → Int64) : (mW D o q u).set 11 (q 13, .inl (D.2.2.1, 25921, .inr (.inl f))) = mW D o q (uL u 13 f) := rfl
theorem mL_14 (D : JD) (o : Nat) (q : Nat → Nat) (u : MS) (f : Nat → Int64) : (mW D o q u).set 12 (q 14, .inl (D.2.2.1, 25921, .inr (.inl f))) = mW D o q (uL u 14 f) := rfl
theorem mL_24 (D : JD) (o : Nat) (q : Nat → Nat) (u : MS) (f : Nat → Int64) : (mW D o q u).set 20 (q 24, .inl (D.2.2.1, 1501, .inr (.inl f))) = mW D o q (uL u 24 f) := rfl
theorem mL_29 (D : JD) (o : Nat) (q : Nat → Nat) (u : MS) (f : Nat → Int64) : (mW D o q u).set 23 (q 29, .inl (D.2.2.1, 100, .inr (.inl f))) = mW D o q (uL u 29 f) := rfl
theorem mW_ad (D : JD) (o : Nat) (q : Nat → Nat) (u v : MS) : (mW D o q u).map (fun x => x.1) = (mW D o q v).map (fun x => x.1) := rfl
theorem va_D.ad {A : Nat → Prop} {ws ws' : va_W} (h : va_D A ws) (e : ws.map (fun x => x.1) = ws'.map (fun x => x.1)) : va_D A ws' := by
  have g : ∀ (k : Nat) (x : Nat × va_E), ws'[k]? = some x → ∃ y : Nat × va_E, ws[k]? = some y ∧ y.1 = x.1 := by
    intro k x hx
    have h1 : (ws'.map (fun x => x.1))[k]? = some x.1 := by rw [List.getElem?_map, hx]; rfl
    rw [← e, List.getElem?_map] at h1
    cases hy : ws[k]? with
    | none => rw [hy] at h1; cases h1
    | some y => rw [hy] at h1; exact ⟨y, rfl, Option.some.inj h1⟩
  refine ⟨fun i j x y hx hy hxy => ?_, fun k x hx => ?_⟩
  · obtain ⟨x', h1, h2⟩ := g i x hx
    obtain ⟨y', h3, h4⟩ := g j y hy
    exact h.1 i j x' y' h1 h3 (by rw [h2, h4, hxy])
  · obtain ⟨y, h1, h2⟩ := g k x hx
    rw [← h2]
    exact h.2 k y h1
theorem mW_D {A : Nat → Prop} {D : JD} {o : Nat} {q : Nat → Nat} {u v : MS} (h : va_D A (mW D o q u)) : va_D A (mW D o q v) := h.ad (mW_ad D o q u v)
theorem inX12 : ∀ w ∈ u_ws RX12 TX12 31, w ∈ lw_g := by decide +kernel
theorem j_nz {z : Int} (h : z = 0 ∨ z = 1) : narrow .boolean (.int (J z)) = .int (J z) := by
  rcases h with rfl | rfl <;> decide +kernel
section JC
variable {p : Program} {l : Launch} {e : Env} {R : Room} {s : State} {m : MethodId} {args : Array Value} {below : List Frame} {meth : Method} {c : Code} {H : Heap} {locs : List Loc} {cells slots : Nat} {Q : State → Prop}
variable {cc : ByteArray} {nL : Nat} {own : String} {pc : Nat} {ls : Array Slot} {rest : List Value}
theorem j_get (S : jS p m c cc nL s args own) {D : JD} {ws : va_W} (hG : j_K D s) (hP : va_P D.1 j_cl ws H) (q0 : Nat) {a ci : Nat} {fs : List Value} {C : String} {T : u_T} {N index : Nat} {v : Value} (he : ws[q0]? = some (a, .inr (ci, fs))) (hc : j_cl[ci]? = some (C, T, N)) (hin : ∀ w ∈ u_ws C T N, w ∈ lw_g) (k : Nat) (hk : k < N) {ref : String} (hlink : Cond.fieldLink own index ref (T k).2.1 (T k).2.2.1 ∈ lw_g) (hsame : (T k).1 = ref) (hv : fs[k]? = some v) (hdg : decode cc pc = .ok (.getfield index, 3))
    (kk : W p l e R s m args below meth c H locs cells slots Q (F0 m (pc + 3) ls (v :: rest))) : W p l e R s m args below meth c H locs cells slots Q (F0 m pc ls (.ref a :: rest)) :=
  va_get S.1 S.2.1 S.2.2.2.2 hin S.2.2.2.1 hG.1 hP q0 he hc k hk (S.2.2.2.2 _ hlink) (fun x h => by rw [← hsame]; exact h) hv hdg kk
theorem j_put (S : jS p m c cc nL s args own) {D : JD} {ws ws' : va_W} {A : Nat → Prop} {H0 : Heap} (hG : j_K D s) (hP : va_P D.1 j_cl ws H) (hD : va_D A ws) (hS : va_S A H0 H locs) (q0 : Nat) {a ci : Nat} {fs : List Value} {C : String} {T : u_T} {N index : Nat} {v : Value} {ty : FieldType} (he : ws[q0]? = some (a, .inr (ci, fs))) (hc : j_cl[ci]? = some (C, T, N)) (hin : ∀ w ∈ u_ws C T N, w ∈ lw_g) (ty0 : Nat → FieldType) (hty : ∀ k, k < N → parseFieldDescriptor (T k).2.2.1 = some (ty0 k)) (hnm : ∀ a, a < N → ∀ b, b < N → a ≠ b → (T a).2.1 ≠ (T b).2.1) (k : Nat) (hk : k < N) {ref : String} (hlink : Cond.fieldLink own index ref (T k).2.1 (T k).2.2.1 ∈ lw_g) (hsame : (T k).1 = ref) (hfin : (T k).2.2.2 = false) (hd : parseFieldDescriptor (T k).2.2.1 = some ty) (hn : narrow ty v = v) (hfit : fits ty v = true) (hl : k < fs.length) (hdg : decode cc pc = .ok (.putfield index, 3)) (hw : ws.set q0 (a, .inr (ci, fs.set k v)) = ws')
    (kk : ∀ (H1 : Heap) (locs1 : List Loc), va_P D.1 j_cl ws' H1 → va_S A H0 H1 locs1 → W p l e R s m args below meth c H1 locs1 cells slots Q (F0 m (pc + 3) ls rest)) : W p l e R s m args below meth c H locs cells slots Q (F0 m pc ls (v :: .ref a :: rest)) :=
  va_put S.1 S.2.1 S.2.2.2.2 hin ty0 hty hnm S.2.2.2.1 hG.1 hP hD hS q0 he hc k hk (S.2.2.2.2 _ hlink) (fun x h => by rw [← hsame]; exact h) hfin hd hn hfit hl hdg (fun H1 locs1 h1 _ h3 => kk H1 locs1 (hw ▸ h1) h3)
theorem j_lcmp (S : jS p m c cc nL s args own) {x y : Int64} (hdg : decode cc pc = .ok (.lcmp, 1)) (k : ∀ z : Int, -1 ≤ z ∧ z ≤ 1 ∧ (z < 0 ↔ x < y) ∧ (z = 0 ↔ x = y) → W p l e R s m args below meth c H locs cells slots Q (F0 m (pc + 1) ls (.int (J z) :: rest))) : W p l e R s m args below meth c H locs cells slots Q (F0 m pc ls (.long y :: .long x :: rest)) := by
  refine W.lcmp S.1 S.2.1 hdg ?_
  have hi : ∀ a b : Int64, a = b ↔ a.toInt = b.toInt := fun a b => Int64.toInt_inj.symm
  by_cases h1 : y < x
  · have e : lg_cmp x y = J 1 := by unfold lg_cmp; rw [if_pos h1]; rfl
    rw [e]
    rw [Int64.lt_iff_toInt_lt] at h1
    exact k 1 ⟨by omega, by omega, by rw [Int64.lt_iff_toInt_lt]; omega, by rw [hi]; omega⟩
  · by_cases h2 : x = y
    · have e : lg_cmp x y = J 0 := by unfold lg_cmp; rw [if_neg h1, if_pos h2]; rfl
      rw [e]
      rw [hi] at h2
      exact k 0 ⟨by omega, by omega, by rw [Int64.lt_iff_toInt_lt]; omega, by rw [hi]; omega⟩
    · have e : lg_cmp x y = J (-1) := by unfold lg_cmp; rw [if_neg h1, if_neg h2]; rfl
      rw [e]
      rw [Int64.lt_iff_toInt_lt] at h1
      rw [hi] at h2
      exact k (-1) ⟨by omega, by omega, by rw [Int64.lt_iff_toInt_lt]; omega, by rw [hi]; omega⟩
end JC
