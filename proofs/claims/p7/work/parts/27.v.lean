
/-! the class's state: rows of points (the rings of the shapes, 8: the hull's, 9, 10: points), heights and stamps of the shapes; the rest as the reference's -/
abbrev CS : Type := ((Nat → Nat → Int) × (Nat → Nat → Int) × (Nat → Int) × (Nat → Nat → Int) × (Nat → Int)) × MS
def sX (u : CS) (r : Nat) (f : Nat → Int) : CS := ((fun j => if j = r then f else u.1.1 j, u.1.2), u.2)
def sY (u : CS) (r : Nat) (f : Nat → Int) : CS := ((u.1.1, fun j => if j = r then f else u.1.2.1 j, u.1.2.2), u.2)
def sC (u : CS) (r : Nat) (v : Int) : CS := ((u.1.1, u.1.2.1, fun j => if j = r then v else u.1.2.2.1 j, u.1.2.2.2), u.2)
def sH (u : CS) (r : Nat) (f : Nat → Int) : CS := ((u.1.1, u.1.2.1, u.1.2.2.1, fun j => if j = r then f else u.1.2.2.2.1 j, u.1.2.2.2.2), u.2)
def sT (u : CS) (r : Nat) (v : Int) : CS := ((u.1.1, u.1.2.1, u.1.2.2.1, u.1.2.2.2.1, fun j => if j = r then v else u.1.2.2.2.2 j), u.2)
def sI (u : CS) (k : Nat) (f : Nat → Int) : CS := (u.1, uI u.2 k f)
def sL (u : CS) (k : Nat) (f : Nat → Int64) : CS := (u.1, uL u.2 k f)
def sV (u : CS) (k : Nat) (v : Int) : CS := (u.1, uV u.2 k v)
/-- how many places a row has -/
def rl (r : Nat) : Nat := if r < 8 then 24 else if r = 8 then 323 else if r = 9 then 12 else 40
theorem rl_b (r : Nat) : 12 ≤ rl r ∧ rl r ≤ 323 := by unfold rl; split; omega; split; omega; split <;> omega
theorem rl_s {r : Nat} (h : r < 8) : rl r = 24 := if_pos h
def cW (D : JD) (q : Nat → Nat) (u : CS) : va_W := [(q 0, .inr (11, [.ref (q 1), .ref (q 2), .ref (q 3), .ref (q 4), .ref (q 5), .ref (q 6), .ref (q 7), .int (J (u.2.2.2 0))])), (q 1, .inl (D.2.2.2, 8, .inr (.inr (.inr (.inr (fun i => some (q (8 + 5 * i)))))))), (q 2, .inr (3, [.ref (q 48), .ref (q 52), .ref (q 49)])), (q 3, .inr (4, [.int (J (u.2.2.2 1)), .int (J (u.2.2.2 2)), .int (J (u.2.2.2 3))])), (q 4, .inr (9, [.int (J (u.2.2.2 4)), .int (J (u.2.2.2 5)), .int (J (u.2.2.2 6)), .int (J (u.2.2.2 7)), .int (J (u.2.2.2 8)), .int (J (u.2.2.2 9))])), (q 5, .inr (0, [.ref (q 67), .ref (q 68), .ref (q 62), .ref (q 63), .int (J (u.2.2.2 10)), .int (J (u.2.2.2 11)), .int (J (u.2.2.2 12)), .int (J (u.2.2.2 13)), .int (J (u.2.2.2 14)), .int (J (u.2.2.2 15)), .int (J (u.2.2.2 16)), .int (J (u.2.2.2 17)), .int (J (u.2.2.2 18)), .int (J (u.2.2.2 19))])), (q 6, .inr (2, [.ref (q 66), .ref (q 69), .ref (q 64), .ref (q 65), .int (J (u.2.2.2 22)), .int (J (u.2.2.2 23)), .int (J (u.2.2.2 24))])), (q 7, .inr (1, [.ref (q 59), .ref (q 73), .int (J (u.2.2.2 25)), .int (J (u.2.2.2 26))])), (q 8, .inr (10, [.ref (q 9), .ref (q 12), .int (J (u.1.2.2.2.2 0))])), (q 9, .inr (7, [.ref (q 10), .ref (q 11), .int (J (u.1.2.2.1 0))])), (q 10, .inl (D.2.1, 24, .inl (fun i => J (u.1.1 0 i)))), (q 11, .inl (D.2.1, 24, .inl (fun i => J (u.1.2.1 0 i)))), (q 12, .inl (D.2.1, 40, .inl (fun i => J (u.1.2.2.2.1 0 i)))), (q 13, .inr (10, [.ref (q 14), .ref (q 17), .int (J (u.1.2.2.2.2 1))])), (q 14, .inr (7, [.ref (q 15), .ref (q 16), .int (J (u.1.2.2.1 1))])), (q 15, .inl (D.2.1, 24, .inl (fun i => J (u.1.1 1 i)))), (q 16, .inl (D.2.1, 24, .inl (fun i => J (u.1.2.1 1 i)))), (q 17, .inl (D.2.1, 40, .inl (fun i => J (u.1.2.2.2.1 1 i)))), (q 18, .inr (10, [.ref (q 19), .ref (q 22), .int (J (u.1.2.2.2.2 2))])), (q 19, .inr (7, [.ref (q 20), .ref (q 21), .int (J (u.1.2.2.1 2))])), (q 20, .inl (D.2.1, 24, .inl (fun i => J (u.1.1 2 i)))), (q 21, .inl (D.2.1, 24, .inl (fun i => J (u.1.2.1 2 i)))), (q 22, .inl (D.2.1, 40, .inl (fun i => J (u.1.2.2.2.1 2 i)))), (q 23, .inr (10, [.ref (q 24), .ref (q 27), .int (J (u.1.2.2.2.2 3))])), (q 24, .inr (7, [.ref (q 25), .ref (q 26), .int (J (u.1.2.2.1 3))])), (q 25, .inl (D.2.1, 24, .inl (fun i => J (u.1.1 3 i)))), (q 26, .inl (D.2.1, 24, .inl (fun i => J (u.1.2.1 3 i)))), (q 27, .inl (D.2.1, 40, .inl (fun i => J (u.1.2.2.2.1 3 i)))), (q 28, .inr (10, [.ref (q 29), .ref (q 32), .int (J (u.1.2.2.2.2 4))])), (q 29, .inr (7, [.ref (q 30), .ref (q 31), .int (J (u.1.2.2.1 4))])), (q 30, .inl (D.2.1, 24, .inl (fun i => J (u.1.1 4 i)))), (q 31, .inl (D.2.1, 24, .inl (fun i => J (u.1.2.1 4 i)))), (q 32, .inl (D.2.1, 40, .inl (fun i => J (u.1.2.2.2.1 4 i)))), (q 33, .inr (10, [.ref (q 34), .ref (q 37), .int (J (u.1.2.2.2.2 5))])), (q 34, .inr (7, [.ref (q 35), .ref (q 36), .int (J (u.1.2.2.1 5))])), (q 35, .inl (D.2.1, 24, .inl (fun i => J (u.1.1 5 i)))), (q 36, .inl (D.2.1, 24, .inl (fun i => J (u.1.2.1 5 i)))), (q 37, .inl (D.2.1, 40, .inl (fun i => J (u.1.2.2.2.1 5 i)))), (q 38, .inr (10, [.ref (q 39), .ref (q 42), .int (J (u.1.2.2.2.2 6))])), (q 39, .inr (7, [.ref (q 40), .ref (q 41), .int (J (u.1.2.2.1 6))])), (q 40, .inl (D.2.1, 24, .inl (fun i => J (u.1.1 6 i)))), (q 41, .inl (D.2.1, 24, .inl (fun i => J (u.1.2.1 6 i)))), (q 42, .inl (D.2.1, 40, .inl (fun i => J (u.1.2.2.2.1 6 i)))), (q 43, .inr (10, [.ref (q 44), .ref (q 47), .int (J (u.1.2.2.2.2 7))])), (q 44, .inr (7, [.ref (q 45), .ref (q 46), .int (J (u.1.2.2.1 7))])), (q 45, .inl (D.2.1, 24, .inl (fun i => J (u.1.1 7 i)))), (q 46, .inl (D.2.1, 24, .inl (fun i => J (u.1.2.1 7 i)))), (q 47, .inl (D.2.1, 40, .inl (fun i => J (u.1.2.2.2.1 7 i)))), (q 48, .inl (D.2.1, 161, .inl (fun i => J (u.2.1 0 i)))), (q 49, .inr (7, [.ref (q 50), .ref (q 51), .int (J (u.1.2.2.1 8))])), (q 50, .inl (D.2.1, 323, .inl (fun i => J (u.1.1 8 i)))), (q 51, .inl (D.2.1, 323, .inl (fun i => J (u.1.2.1 8 i)))), (q 52, .inl (D.2.1, 161, .inl (fun i => J (u.2.1 1 i)))), (q 53, .inl (D.2.1, 63, .inl (fun i => J (u.2.1 2 i)))), (q 54, .inr (6, [.ref (q 55), .ref (q 56), .int (J (u.1.2.2.1 9))])), (q 55, .inl (D.2.1, 12, .inl (fun i => J (u.1.1 9 i)))), (q 56, .inl (D.2.1, 12, .inl (fun i => J (u.1.2.1 9 i)))), (q 57, .inl (D.2.1, 63, .inl (fun i => J (u.2.1 3 i)))), (q 58, .inl (D.2.1, 144, .inl (fun i => J (u.2.1 4 i)))), (q 59, .inr (6, [.ref (q 60), .ref (q 61), .int (J (u.1.2.2.1 10))])), (q 60, .inl (D.2.1, 40, .inl (fun i => J (u.1.1 10 i)))), (q 61, .inl (D.2.1, 40, .inl (fun i => J (u.1.2.1 10 i)))), (q 62, .inl (D.2.1, 164025, .inl (fun i => J (u.2.1 5 i)))), (q 63, .inl (D.2.1, 24, .inl (fun i => J (u.2.1 6 i)))), (q 64, .inl (D.2.1, 1500, .inl (fun i => J (u.2.1 7 i)))), (q 65, .inl (D.2.1, 4096, .inl (fun i => J (u.2.1 8 i)))), (q 66, .inr (5, [.ref (q 54), .ref (q 53), .ref (q 57), .ref (q 70), .ref (q 58), .int (J (u.2.2.2 20)), .ref (q 71), .ref (q 72), .int (J (u.2.2.2 21))])), (q 67, .inl (D.2.2.1, 6561, .inr (.inl (u.2.2.1 0)))), (q 68, .inl (D.2.2.1, 6561, .inr (.inl (u.2.2.1 1)))), (q 69, .inl (D.2.2.1, 1500, .inr (.inl (u.2.2.1 2)))), (q 70, .inl (D.2.2.1, 63, .inr (.inl (u.2.2.1 3)))), (q 71, .inl (D.2.2.1, 756, .inr (.inl (u.2.2.1 4)))), (q 72, .inl (D.2.2.1, 756, .inr (.inl (u.2.2.1 5)))), (q 73, .inl (D.2.2.1, 80, .inr (.inl (u.2.2.1 6))))]
theorem cw_ring {D : JD} {q : Nat → Nat} {u : CS} {r : Nat} (h : r ≤ 8) : (cW D q u)[9 + 5 * r]? = some (q (9 + 5 * r), .inr (7, [.ref (q (10 + 5 * r)), .ref (q (11 + 5 * r)), .int (J (u.1.2.2.1 r))])) := by
  have hh : r = 0 ∨ r = 1 ∨ r = 2 ∨ r = 3 ∨ r = 4 ∨ r = 5 ∨ r = 6 ∨ r = 7 ∨ r = 8 := by omega
  rcases hh with rfl | rfl | rfl | rfl | rfl | rfl | rfl | rfl | rfl <;> rfl
theorem cs_ring {D : JD} {q : Nat → Nat} {u : CS} {r : Nat} (h : r ≤ 8) {v : Int} : (cW D q u).set (9 + 5 * r) (q (9 + 5 * r), .inr (7, [.ref (q (10 + 5 * r)), .ref (q (11 + 5 * r)), .int (J v)])) = cW D q (sC u r v) := by
  have hh : r = 0 ∨ r = 1 ∨ r = 2 ∨ r = 3 ∨ r = 4 ∨ r = 5 ∨ r = 6 ∨ r = 7 ∨ r = 8 := by omega
  rcases hh with rfl | rfl | rfl | rfl | rfl | rfl | rfl | rfl | rfl <;> rfl
theorem cw_pts {D : JD} {q : Nat → Nat} {u : CS} {r : Nat} (h : r = 9 ∨ r = 10) : (cW D q u)[9 + 5 * r]? = some (q (9 + 5 * r), .inr (6, [.ref (q (10 + 5 * r)), .ref (q (11 + 5 * r)), .int (J (u.1.2.2.1 r))])) := by
  have hh : r = 9 ∨ r = 10 := by omega
  rcases hh with rfl | rfl <;> rfl
theorem cs_pts {D : JD} {q : Nat → Nat} {u : CS} {r : Nat} (h : r = 9 ∨ r = 10) {v : Int} : (cW D q u).set (9 + 5 * r) (q (9 + 5 * r), .inr (6, [.ref (q (10 + 5 * r)), .ref (q (11 + 5 * r)), .int (J v)])) = cW D q (sC u r v) := by
  have hh : r = 9 ∨ r = 10 := by omega
  rcases hh with rfl | rfl <;> rfl
theorem cw_xs {D : JD} {q : Nat → Nat} {u : CS} {r : Nat} (h : r ≤ 10) : (cW D q u)[10 + 5 * r]? = some (q (10 + 5 * r), .inl (D.2.1, rl r, .inl (fun i => J (u.1.1 r i)))) := by
  have hh : r = 0 ∨ r = 1 ∨ r = 2 ∨ r = 3 ∨ r = 4 ∨ r = 5 ∨ r = 6 ∨ r = 7 ∨ r = 8 ∨ r = 9 ∨ r = 10 := by omega
  rcases hh with rfl | rfl | rfl | rfl | rfl | rfl | rfl | rfl | rfl | rfl | rfl <;> rfl
theorem cs_xs {D : JD} {q : Nat → Nat} {u : CS} {r : Nat} (h : r ≤ 10) {f : Nat → Int} : (cW D q u).set (10 + 5 * r) (q (10 + 5 * r), .inl (D.2.1, rl r, .inl (fun i => J (f i)))) = cW D q (sX u r f) := by
  have hh : r = 0 ∨ r = 1 ∨ r = 2 ∨ r = 3 ∨ r = 4 ∨ r = 5 ∨ r = 6 ∨ r = 7 ∨ r = 8 ∨ r = 9 ∨ r = 10 := by omega
  rcases hh with rfl | rfl | rfl | rfl | rfl | rfl | rfl | rfl | rfl | rfl | rfl <;> rfl
theorem cw_ys {D : JD} {q : Nat → Nat} {u : CS} {r : Nat} (h : r ≤ 10) : (cW D q u)[11 + 5 * r]? = some (q (11 + 5 * r), .inl (D.2.1, rl r, .inl (fun i => J (u.1.2.1 r i)))) := by
  have hh : r = 0 ∨ r = 1 ∨ r = 2 ∨ r = 3 ∨ r = 4 ∨ r = 5 ∨ r = 6 ∨ r = 7 ∨ r = 8 ∨ r = 9 ∨ r = 10 := by omega
  rcases hh with rfl | rfl | rfl | rfl | rfl | rfl | rfl | rfl | rfl | rfl | rfl <;> rfl
theorem cs_ys {D : JD} {q : Nat → Nat} {u : CS} {r : Nat} (h : r ≤ 10) {f : Nat → Int} : (cW D q u).set (11 + 5 * r) (q (11 + 5 * r), .inl (D.2.1, rl r, .inl (fun i => J (f i)))) = cW D q (sY u r f) := by
  have hh : r = 0 ∨ r = 1 ∨ r = 2 ∨ r = 3 ∨ r = 4 ∨ r = 5 ∨ r = 6 ∨ r = 7 ∨ r = 8 ∨ r = 9 ∨ r = 10 := by omega
  rcases hh with rfl | rfl | rfl | rfl | rfl | rfl | rfl | rfl | rfl | rfl | rfl <;> rfl
theorem cw_hts {D : JD} {q : Nat → Nat} {u : CS} {r : Nat} (h : r < 8) : (cW D q u)[12 + 5 * r]? = some (q (12 + 5 * r), .inl (D.2.1, 40, .inl (fun i => J (u.1.2.2.2.1 r i)))) := by
  have hh : r = 0 ∨ r = 1 ∨ r = 2 ∨ r = 3 ∨ r = 4 ∨ r = 5 ∨ r = 6 ∨ r = 7 := by omega
  rcases hh with rfl | rfl | rfl | rfl | rfl | rfl | rfl | rfl <;> rfl
theorem cs_hts {D : JD} {q : Nat → Nat} {u : CS} {r : Nat} (h : r < 8) {f : Nat → Int} : (cW D q u).set (12 + 5 * r) (q (12 + 5 * r), .inl (D.2.1, 40, .inl (fun i => J (f i)))) = cW D q (sH u r f) := by
  have hh : r = 0 ∨ r = 1 ∨ r = 2 ∨ r = 3 ∨ r = 4 ∨ r = 5 ∨ r = 6 ∨ r = 7 := by omega
  rcases hh with rfl | rfl | rfl | rfl | rfl | rfl | rfl | rfl <;> rfl
theorem cw_shape {D : JD} {q : Nat → Nat} {u : CS} {r : Nat} (h : r < 8) : (cW D q u)[8 + 5 * r]? = some (q (8 + 5 * r), .inr (10, [.ref (q (9 + 5 * r)), .ref (q (12 + 5 * r)), .int (J (u.1.2.2.2.2 r))])) := by
  have hh : r = 0 ∨ r = 1 ∨ r = 2 ∨ r = 3 ∨ r = 4 ∨ r = 5 ∨ r = 6 ∨ r = 7 := by omega
  rcases hh with rfl | rfl | rfl | rfl | rfl | rfl | rfl | rfl <;> rfl
theorem cs_shape {D : JD} {q : Nat → Nat} {u : CS} {r : Nat} (h : r < 8) {v : Int} : (cW D q u).set (8 + 5 * r) (q (8 + 5 * r), .inr (10, [.ref (q (9 + 5 * r)), .ref (q (12 + 5 * r)), .int (J v)])) = cW D q (sT u r v) := by
  have hh : r = 0 ∨ r = 1 ∨ r = 2 ∨ r = 3 ∨ r = 4 ∨ r = 5 ∨ r = 6 ∨ r = 7 := by omega
  rcases hh with rfl | rfl | rfl | rfl | rfl | rfl | rfl | rfl <;> rfl
theorem cW_ad (D : JD) (q : Nat → Nat) (u v : CS) : (cW D q u).map (fun x => x.1) = (cW D q v).map (fun x => x.1) := rfl
theorem cW_D {A : Nat → Prop} {D : JD} {q : Nat → Nat} {u v : CS} (h : va_D A (cW D q u)) : va_D A (cW D q v) := h.ad (cW_ad D q u v)
theorem inX0 : ∀ w ∈ u_ws RX0 TX0 14, w ∈ lw_g := by decide +kernel
theorem inX1 : ∀ w ∈ u_ws RX1 TX1 4, w ∈ lw_g := by decide +kernel
theorem inX2 : ∀ w ∈ u_ws RX2 TX2 7, w ∈ lw_g := by decide +kernel
theorem inX3 : ∀ w ∈ u_ws RX3 TX3 3, w ∈ lw_g := by decide +kernel
theorem inX4 : ∀ w ∈ u_ws RX4 TX4 3, w ∈ lw_g := by decide +kernel
theorem inX5 : ∀ w ∈ u_ws RX5 TX5 9, w ∈ lw_g := by decide +kernel
theorem inX6 : ∀ w ∈ u_ws RX6 TX6 3, w ∈ lw_g := by decide +kernel
theorem inX7 : ∀ w ∈ u_ws RX7 TX7 3, w ∈ lw_g := by decide +kernel
theorem inX9 : ∀ w ∈ u_ws RX9 TX9 6, w ∈ lw_g := by decide +kernel
theorem inX10 : ∀ w ∈ u_ws RX10 TX10 3, w ∈ lw_g := by decide +kernel
theorem inX11 : ∀ w ∈ u_ws RX11 TX11 8, w ∈ lw_g := by decide +kernel
section JK
variable {p : Program} {l : Launch} {e : Env} {R : Room} {s : State} {m : MethodId} {args : Array Value} {below : List Frame} {meth : Method} {c : Code} {H : Heap} {locs : List Loc} {cells slots : Nat} {Q : State → Prop}
variable {cc : ByteArray} {nL : Nat} {own : String} {pc : Nat} {ls : Array Slot} {rest : List Value}
theorem j_getS (S : jS p m c cc nL s args own) {D : JD} {ws : va_W} (hG : j_K D s) (hP : va_P D.1 j_cl ws H) (q0 : Nat) {a ci : Nat} {fs : List Value} {C : String} {T : u_T} {N index : Nat} {v : Value} (he : ws[q0]? = some (a, .inr (ci, fs))) (hc : j_cl[ci]? = some (C, T, N)) (hin : ∀ w ∈ u_ws C T N, w ∈ lw_g) (k : Nat) (hk : k < N) {ref : String} (hlink : Cond.fieldLink own index ref (T k).2.1 (T k).2.2.1 ∈ lw_g) (hsame : Cond.sameField ref (T k).1 (T k).2.1 (T k).2.2.1 ∈ lw_g) (hv : fs[k]? = some v) (hdg : decode cc pc = .ok (.getfield index, 3))
    (kk : W p l e R s m args below meth c H locs cells slots Q (F0 m (pc + 3) ls (v :: rest))) : W p l e R s m args below meth c H locs cells slots Q (F0 m pc ls (.ref a :: rest)) :=
  va_get S.1 S.2.1 S.2.2.2.2 hin S.2.2.2.1 hG.1 hP q0 he hc k hk (S.2.2.2.2 _ hlink) (fun x h => u_same (S.2.2.2.2 _ hsame) x h) hv hdg kk
theorem j_putS (S : jS p m c cc nL s args own) {D : JD} {ws ws' : va_W} {A : Nat → Prop} {H0 : Heap} (hG : j_K D s) (hP : va_P D.1 j_cl ws H) (hD : va_D A ws) (hS : va_S A H0 H locs) (q0 : Nat) {a ci : Nat} {fs : List Value} {C : String} {T : u_T} {N index : Nat} {v : Value} {ty : FieldType} (he : ws[q0]? = some (a, .inr (ci, fs))) (hc : j_cl[ci]? = some (C, T, N)) (hin : ∀ w ∈ u_ws C T N, w ∈ lw_g) (ty0 : Nat → FieldType) (hty : ∀ k, k < N → parseFieldDescriptor (T k).2.2.1 = some (ty0 k)) (hnm : ∀ a, a < N → ∀ b, b < N → a ≠ b → (T a).2.1 ≠ (T b).2.1) (k : Nat) (hk : k < N) {ref : String} (hlink : Cond.fieldLink own index ref (T k).2.1 (T k).2.2.1 ∈ lw_g) (hsame : Cond.sameField ref (T k).1 (T k).2.1 (T k).2.2.1 ∈ lw_g) (hfin : (T k).2.2.2 = false) (hd : parseFieldDescriptor (T k).2.2.1 = some ty) (hn : narrow ty v = v) (hfit : fits ty v = true) (hl : k < fs.length) (hdg : decode cc pc = .ok (.putfield index, 3)) (hw : ws.set q0 (a, .inr (ci, fs.set k v)) = ws')
    (kk : ∀ (H1 : Heap) (locs1 : List Loc), va_P D.1 j_cl ws' H1 → va_S A H0 H1 locs1 → W p l e R s m args below meth c H1 locs1 cells slots Q (F0 m (pc + 3) ls rest)) : W p l e R s m args below meth c H locs cells slots Q (F0 m pc ls (v :: .ref a :: rest)) :=
  va_put S.1 S.2.1 S.2.2.2.2 hin ty0 hty hnm S.2.2.2.1 hG.1 hP hD hS q0 he hc k hk (S.2.2.2.2 _ hlink) (fun x h => u_same (S.2.2.2.2 _ hsame) x h) hfin hd hn hfit hl hdg (fun H1 locs1 h1 _ h3 => kk H1 locs1 (hw ▸ h1) h3)
theorem j_goodU {ws : List Cond} (h : ∀ w ∈ ws, w ∈ lw_g) {w0 : Cond} (h0 : w0 ∈ lw_g) : GoodIn lw_g (ws ++ (w0 :: lw_g)) := fun v hv => by
  rcases List.mem_append.mp hv with e | e
  · exact lw_goodin v (h v e)
  · exact j_good h0 v e
/-- what the tables say of an inherited method at a class -/
def jmU (C owner : String) (x y : MethodName) (bytes : ByteArray) (maxL : Nat) (ret : Option FieldType) (n : Nat) : Prop := y = ⟨owner, x.name, x.desc⟩ ∧ Cond.sameMethod x.cls owner x.name x.desc ∈ lw_g ∧ Cond.selects C x y ∈ lw_g ∧ Cond.instanceMethod y ∈ lw_g ∧ Cond.initialized y.cls ∈ lw_g ∧ Cond.code y bytes maxL ret ∈ lw_g ∧ (owner ≠ "java/lang/invoke/MethodHandle" ∧ owner ≠ "java/lang/invoke/VarHandle" ∧ (parseMethodDescriptor x.desc).map (fun d => d.parameters.length) = some n)
theorem j_cwU (S : jS p m c cc nL s args own) {C owner : String} {x y : MethodName} {bytes : ByteArray} {maxL n index f nl : Nat} {ret : Option FieldType} (hy : jmU C owner x y bytes maxL ret n) (hl : Cond.methodLink own index x ∈ lw_g) (hR : f + 1 ≤ R.frames ∧ 8 + (maxL + 11) + nl ≤ R.locals) : va_CU R s args own C owner index x y bytes maxL ret (jw y bytes maxL ret) (jr f nl) 0 0 n :=
  va_cwU n S.2.2.2.2 (j_goodU (fun w hw => by
    simp only [List.mem_cons, List.not_mem_nil, or_false] at hw
    rcases hw with rfl | rfl | rfl | rfl | rfl
    · exact hl
    · exact hy.2.1
    · exact hy.2.2.1
    · exact hy.2.2.2.1
    · exact hy.2.2.2.2.1) hy.2.2.2.2.2.1) rfl rfl rfl hy.1 hy.2.2.2.2.2.2 hR
theorem j_uRi (S : jS p m c cc nL s args own) {D : JD} {P : Heap → Prop} {b : Nat} {As : List Value} {post : Int → Prop} {C owner : String} {x y : MethodName} {bytes : ByteArray} {maxL n index f nl : Nat} {ret : Option FieldType} (hM : Met l y (jw y bytes maxL ret) (jr f nl) (jP (.ref b :: As) D P) (jRi post) 0 0 (fun _ => False)) (hy : jmU C owner x y bytes maxL ret n) (hl : Cond.methodLink own index x ∈ lw_g) (hG : j_K D s) (hP : P H) {ws : va_W} {ci q0 : Nat} {fs : List Value} {q : vw_C} (hW : va_P D.1 j_cl ws H) (hc : j_cl[ci]? = some q) (he : ws[q0]? = some (b, .inr (ci, fs))) (hq : q.1 = C) (hn : As.length = n) (hls : ls.size = nL) (hR : (f + 1 ≤ R.frames ∧ 8 + (maxL + 11) + nl ≤ R.locals) ∧ (rest.map fun v => v.category).sum ≤ 8 ∧ cells ≤ R.cells ∧ slots ≤ R.slots) {st0 : List Value} (hst : st0 = As.reverse ++ .ref b :: rest) (hdg : decode cc pc = .ok (.invokevirtual index, 3))
    (k : ∀ z : Int, post z → W p l e R s m args below meth c H locs cells slots Q (F0 m (pc + 3) ls (.int (J z) :: rest))) : W p l e R s m args below meth c H locs cells slots Q (F0 m pc ls st0) := by
  refine vp_callSi (post := fun r => ∃ z : Int, r = J z ∧ post z) (va_Run.run (va_runU S hM (j_cwU S hy hl hR.1) ⟨jP.blind, hq ▸ va_recv hG.1 hW hc he, jP.at hG hP⟩ rfl hn hls hst (lv_room hR.2.1) hdg hR.2.2)) (fun r h => ?_)
  obtain ⟨z, rfl, hz⟩ := h
  exact k z hz
theorem j_uWv (S : jS p m c cc nL s args own) {D : JD} {P : Heap → Prop} {b : Nat} {As : List Value} {U : Type} {post : U → Prop} {B : U → Heap → Prop} {A1 A0 : Nat → Prop} {H0 : Heap} {C owner : String} {x y : MethodName} {bytes : ByteArray} {maxL n index f nl : Nat} {ret : Option FieldType} (hM : Met l y (jw y bytes maxL ret) (jr f nl) (jP (.ref b :: As) D P) (jWv post B A1) 0 0 A1) (hy : jmU C owner x y bytes maxL ret n) (hl : Cond.methodLink own index x ∈ lw_g) (hG : j_K D s) (hP : P H) {ws : va_W} {ci q0 : Nat} {fs : List Value} {q : vw_C} (hW : va_P D.1 j_cl ws H) (hc : j_cl[ci]? = some q) (he : ws[q0]? = some (b, .inr (ci, fs))) (hq : q.1 = C) (hS : va_S A0 H0 H locs) (hA : ∀ q, A1 q → A0 q) (hn : As.length = n) (hls : ls.size = nL) (hR : (f + 1 ≤ R.frames ∧ 8 + (maxL + 11) + nl ≤ R.locals) ∧ (rest.map fun v => v.category).sum ≤ 8 ∧ cells ≤ R.cells ∧ slots ≤ R.slots) {st0 : List Value} (hst : st0 = As.reverse ++ .ref b :: rest) (hdg : decode cc pc = .ok (.invokevirtual index, 3))
    (k : ∀ (u : U) (H1 : Heap) (locs1 : List Loc), post u → B u H1 → (H.size ≤ H1.size ∧ ∀ q : Nat, q < H.size → ¬ A1 q → H1[q]? = H[q]?) → va_S A0 H0 H1 locs1 → W p l e R s m args below meth c H1 locs1 cells slots Q (F0 m (pc + 3) ls rest)) : W p l e R s m args below meth c H locs cells slots Q (F0 m pc ls st0) := by
  refine va_callv (va_runU S hM (j_cwU S hy hl hR.1) ⟨jP.blind, hq ▸ va_recv hG.1 hW hc he, jP.at hG hP⟩ rfl hn hls hst (lv_room hR.2.1) hdg hR.2.2) hS (fun q _ h => hA q h) hA (fun u t H1 locs1 ht hvm hp hB hz hk hS1 => ?_)
  exact k u H1 locs1 hp (ht ▸ hB) ⟨hz, hk⟩ hS1
/-- a nest mate's static method -/
theorem j_nRi (S : jS p m c cc nL s args own) {D : JD} {P : Heap → Prop} {As : List Value} {post : Int → Prop} {host : String} {y : MethodName} {bytes : ByteArray} {maxL n index f nl : Nat} {ret : Option FieldType} (hM : Met l y (jw y bytes maxL ret) (jr f nl) (jP As D P) (jRi post) 0 0 (fun _ => False)) (hy : jmS y bytes maxL ret n) (hl : va_Nw (.methodLinkNest own index y host) s) (hG : j_K D s) (hP : P H) (hn : As.length = n) (hls : ls.size = nL) (hR : (f + 1 ≤ R.frames ∧ 8 + (maxL + 11) + nl ≤ R.locals) ∧ (rest.map fun v => v.category).sum ≤ 8 ∧ cells ≤ R.cells ∧ slots ≤ R.slots) {st0 : List Value} (hst : st0 = As.reverse ++ rest) (hdg : decode cc pc = .ok (.invokestatic index, 3))
    (k : ∀ z : Int, post z → W p l e R s m args below meth c H locs cells slots Q (F0 m (pc + 3) ls (.int (J z) :: rest))) : W p l e R s m args below meth c H locs cells slots Q (F0 m pc ls st0) := by
  refine vp_callSi (post := fun r => ∃ z : Int, r = J z ∧ post z) (va_Run.run (va_runSN S hM ⟨va_cnB n S.2.2.2.2 (j_good hy.1) rfl rfl rfl hl (S.2.2.2.2 _ hy.2.1) hy.2.2.2 hR.1, S.2.2.2.2 _ hy.2.2.1, trivial⟩ ⟨jP.blind, jP.at hG hP⟩ rfl hn hls hst (lv_room hR.2.1) hdg hR.2.2)) (fun r h => ?_)
  obtain ⟨z, rfl, hz⟩ := h
  exact k z hz
/-- a static method that writes -/
theorem j_sWv (S : jS p m c cc nL s args own) {D : JD} {P : Heap → Prop} {As : List Value} {U : Type} {post : U → Prop} {B : U → Heap → Prop} {A1 A0 : Nat → Prop} {H0 : Heap} {y : MethodName} {bytes : ByteArray} {maxL n index f nl : Nat} {ret : Option FieldType} (hM : Met l y (jw y bytes maxL ret) (jr f nl) (jP As D P) (jWv post B A1) 0 0 A1) (hy : jmS y bytes maxL ret n) (hl : Cond.methodLink own index y ∈ lw_g) (hG : j_K D s) (hP : P H) (hS : va_S A0 H0 H locs) (hA : ∀ q, A1 q → A0 q) (hn : As.length = n) (hls : ls.size = nL) (hR : (f + 1 ≤ R.frames ∧ 8 + (maxL + 11) + nl ≤ R.locals) ∧ (rest.map fun v => v.category).sum ≤ 8 ∧ cells ≤ R.cells ∧ slots ≤ R.slots) {st0 : List Value} (hst : st0 = As.reverse ++ rest) (hdg : decode cc pc = .ok (.invokestatic index, 3))
    (k : ∀ (u : U) (H1 : Heap) (locs1 : List Loc), post u → B u H1 → (H.size ≤ H1.size ∧ ∀ q : Nat, q < H.size → ¬ A1 q → H1[q]? = H[q]?) → va_S A0 H0 H1 locs1 → W p l e R s m args below meth c H1 locs1 cells slots Q (F0 m (pc + 3) ls rest)) : W p l e R s m args below meth c H locs cells slots Q (F0 m pc ls st0) := by
  refine va_callv (va_runS S hM ⟨j_cB S hy.1 hy.2.1 hl hy.2.2.2 hR.1, S.2.2.2.2 _ hy.2.2.1⟩ ⟨jP.blind, jP.at hG hP⟩ rfl hn hls hst (lv_room hR.2.1) hdg hR.2.2) hS (fun q _ h => hA q h) hA (fun u t H1 locs1 ht hvm hp hB hz hk hS1 => ?_)
  exact k u H1 locs1 hp (ht ▸ hB) ⟨hz, hk⟩ hS1
/-- a shape, or null -/
theorem j_vSh (S : jS p m c cc nL s args own) {D : JD} {P : Heap → Prop} {b : Nat} {As : List Value} {ad : Nat → Nat} {z : Int} {y : MethodName} {bytes : ByteArray} {maxL n index f nl : Nat} {ret : Option FieldType} (hM : Met l y (jw y bytes maxL ret) (jr f nl) (jP (.ref b :: As) D P) (va_Se ad (fun r => (0 ≤ z ∧ z ≤ 7 ∧ r = some z.toNat) ∨ (¬ (0 ≤ z ∧ z ≤ 7) ∧ r = none))) 0 0 (fun _ => False)) (hy : jmV y bytes maxL ret n) (hl : Cond.methodLink own index y ∈ lw_g) (hG : j_K D s) (hP : P H) {ws : va_W} {ci q0 : Nat} {fs : List Value} {q : vw_C} (hW : va_P D.1 j_cl ws H) (hc : j_cl[ci]? = some q) (he : ws[q0]? = some (b, .inr (ci, fs))) (hq : q.1 = y.cls) (hn : As.length = n) (hls : ls.size = nL) (hR : (f + 1 ≤ R.frames ∧ 8 + (maxL + 11) + nl ≤ R.locals) ∧ (rest.map fun v => v.category).sum ≤ 8 ∧ cells ≤ R.cells ∧ slots ≤ R.slots) {st0 : List Value} (hst : st0 = As.reverse ++ .ref b :: rest) (hdg : decode cc pc = .ok (.invokevirtual index, 3))
    (k1 : ∀ i : Nat, i < 8 → z = (i : Int) → W p l e R s m args below meth c H locs cells slots Q (F0 m (pc + 3) ls (.ref (ad i) :: rest))) (k2 : ¬ (0 ≤ z ∧ z ≤ 7) → W p l e R s m args below meth c H locs cells slots Q (F0 m (pc + 3) ls (.null :: rest))) : W p l e R s m args below meth c H locs cells slots Q (F0 m pc ls st0) := by
  refine va_cse (W.runV (C := y.cls) S hM ⟨j_cB S hy.1 hy.2.1 hl hy.2.2.2.2 hR.1, S.2.2.2.2 _ hy.2.2.1, S.2.2.2.2 _ hy.2.2.2.1⟩ ⟨jP.blind, hq ▸ va_recv hG.1 hW hc he, jP.at hG hP⟩ rfl hn hls hst (lv_room hR.2.1) hdg hR.2.2) (fun r h => ?_)
  rcases h with ⟨h1, h2, rfl⟩ | ⟨h1, rfl⟩
  · exact k1 z.toNat (by omega) (by omega)
  · exact k2 h1
theorem J_wr (z : Int) : ∃ y : Int, J z = J y ∧ -2147483648 ≤ y ∧ y ≤ 2147483647 := ⟨(J z).toInt, J_of _, J_rng _⟩
/-! the rows filled by the JDK -/
def jf (f : Nat → Int) (v : Int) (n : Nat) : Nat → Int := fun i => if i < n then v else f i
theorem jf_0 {f : Nat → Int} {v : Int} : jf f v 0 = f := by funext i; unfold jf; rw [if_neg (by omega)]
theorem jf_s {f : Nat → Int} {v : Int} {n : Nat} : upI (jf f v n) n v = jf f v (n + 1) := by
  funext i; unfold upI jf
  by_cases e : i = n
  · rw [if_pos e, if_pos (by omega)]
  · rw [if_neg e]
    by_cases e2 : i < n
    · rw [if_pos e2, if_pos (by omega)]
    · rw [if_neg e2, if_neg (by omega)]
def jfL (f : Nat → Int64) (v : Int64) (n : Nat) : Nat → Int64 := fun i => if i < n then v else f i
theorem jfL_0 {f : Nat → Int64} {v : Int64} : jfL f v 0 = f := by funext i; unfold jfL; rw [if_neg (by omega)]
theorem jfL_s {f : Nat → Int64} {v : Int64} {n : Nat} : vp_updL (jfL f v n) n v = jfL f v (n + 1) := by
  funext i; unfold vp_updL jfL
  by_cases e : i = n
  · rw [if_pos e, if_pos (by omega)]
  · rw [if_neg e]
    by_cases e2 : i < n
    · rw [if_pos e2, if_pos (by omega)]
    · rw [if_neg e2, if_neg (by omega)]
end JK
theorem mu_7_x : jmU RX7 RX8 ⟨"GridPolygons$Ring", "x", "(I)I"⟩ yX8_x cX8_x 2 (some .int) 1 := ⟨rfl, kw_438, kw_440, kw_441, kw_90, kw_442, ⟨by decide +kernel, by decide +kernel, by decide +kernel⟩⟩
theorem mu_7_y : jmU RX7 RX8 ⟨"GridPolygons$Ring", "y", "(I)I"⟩ yX8_y cX8_y 2 (some .int) 1 := ⟨rfl, kw_444, kw_446, kw_447, kw_90, kw_448, ⟨by decide +kernel, by decide +kernel, by decide +kernel⟩⟩
theorem mu_7_append : jmU RX7 RX8 ⟨"GridPolygons$Ring", "append", "(II)V"⟩ yX8_append cX8_append 3 none 2 := ⟨rfl, kw_454, kw_456, kw_457, kw_90, kw_458, ⟨by decide +kernel, by decide +kernel, by decide +kernel⟩⟩
theorem mu_6_x : jmU RX6 RX8 ⟨"GridPolygons$Points", "x", "(I)I"⟩ yX8_x cX8_x 2 (some .int) 1 := ⟨rfl, kw_886, kw_887, kw_441, kw_90, kw_442, ⟨by decide +kernel, by decide +kernel, by decide +kernel⟩⟩
theorem mu_6_y : jmU RX6 RX8 ⟨"GridPolygons$Points", "y", "(I)I"⟩ yX8_y cX8_y 2 (some .int) 1 := ⟨rfl, kw_889, kw_890, kw_447, kw_90, kw_448, ⟨by decide +kernel, by decide +kernel, by decide +kernel⟩⟩
theorem mu_6_append : jmU RX6 RX8 ⟨"GridPolygons$Points", "append", "(II)V"⟩ yX8_append cX8_append 3 none 2 := ⟨rfl, kw_882, kw_883, kw_457, kw_90, kw_458, ⟨by decide +kernel, by decide +kernel, by decide +kernel⟩⟩