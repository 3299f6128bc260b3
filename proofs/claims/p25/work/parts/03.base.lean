/-! ints as integers -/
def J (z : Int) : Int32 := Int32.ofInt z
theorem J_add (a b : Int) : J a + J b = J (a + b) := (Int32.ofInt_add a b).symm
theorem J_mul (a b : Int) : J a * J b = J (a * b) := (Int32.ofInt_mul a b).symm
theorem J_neg (a : Int) : -J a = J (-a) := (Int32.ofInt_neg a).symm
theorem J_sub (a b : Int) : J a - J b = J (a - b) := (Int32.ofInt_sub a b).symm
theorem J_toInt {z : Int} (h : -2147483648 ≤ z ∧ z ≤ 2147483647) : (J z).toInt = z := Int32.toInt_ofInt_of_le (by omega) (by omega)
theorem J_of (x : Int32) : x = J x.toInt := (Int32.ofInt_toInt x).symm
theorem J_le {a b : Int} (ha : -2147483648 ≤ a ∧ a ≤ 2147483647) (hb : -2147483648 ≤ b ∧ b ≤ 2147483647) : J a ≤ J b ↔ a ≤ b := by
  rw [Int32.le_iff_toInt_le, J_toInt ha, J_toInt hb]
theorem J_lt {a b : Int} (ha : -2147483648 ≤ a ∧ a ≤ 2147483647) (hb : -2147483648 ≤ b ∧ b ≤ 2147483647) : J a < J b ↔ a < b := by
  rw [Int32.lt_iff_toInt_lt, J_toInt ha, J_toInt hb]
theorem J_eq {a b : Int} (ha : -2147483648 ≤ a ∧ a ≤ 2147483647) (hb : -2147483648 ≤ b ∧ b ≤ 2147483647) : J a = J b ↔ a = b := by
  constructor
  · intro h
    have h2 := congrArg Int32.toInt h
    rw [J_toInt ha, J_toInt hb] at h2
    exact h2
  · intro h
    rw [h]
theorem J_0 : (0 : Int32) = J 0 := rfl
theorem J_clamp {z : Int} (h : 0 ≤ z ∧ z ≤ 2147483647) : (J z).toNatClampNeg = z.toNat := by
  show (J z).toInt.toNat = z.toNat
  rw [J_toInt (by omega)]
theorem J_in {z : Int} {n : Nat} (h : 0 ≤ z ∧ z < n) (h2 : z ≤ 2147483647) : vp_in (J z) n := by
  rw [vp_in_iff, J_toInt (by omega)]
  exact h
theorem J_rng (x : Int32) : -2147483648 ≤ x.toInt ∧ x.toInt ≤ 2147483647 := by
  have h1 := Int32.le_toInt x
  have h2 := Int32.toInt_lt x
  omega
theorem J_div {a b : Int} (ha : -2147483648 < a ∧ a ≤ 2147483647) (hb : -2147483648 ≤ b ∧ b ≤ 2147483647) : J a / J b = J (a.tdiv b) := by
  rw [J_of (J a / J b), Int32.toInt_div, J_toInt (by omega), J_toInt hb]
  have h1 : (a.tdiv b).natAbs ≤ a.natAbs := by rw [Int.natAbs_tdiv]; exact Nat.div_le_self _ _
  congr 1
  have h3 : -2147483648 ≤ a.tdiv b ∧ a.tdiv b ≤ 2147483647 := by omega
  rw [Int.bmod_eq_of_le (by omega) (by omega)]
theorem J_rem {a b : Int} (ha : -2147483648 < a ∧ a ≤ 2147483647) (hb : -2147483648 ≤ b ∧ b ≤ 2147483647) : J a - J a / J b * J b = J (a.tmod b) := by
  rw [J_div ha hb, J_mul, J_sub]
  congr 1
  have := Int.tmod_add_tdiv_mul a b
  omega
def upI (f : Nat → Int) (k : Nat) (v : Int) : Nat → Int := fun j => if j = k then v else f j
theorem upI_s {f : Nat → Int} {k : Nat} {v : Int} : upI f k v k = v := if_pos rfl
theorem upI_n {f : Nat → Int} {k j : Nat} {v : Int} (h : j ≠ k) : upI f k v j = f j := if_neg h
theorem upI_J (f : Nat → Int) (k : Nat) (v : Int) : upd (fun i => J (f i)) k (J v) = fun i => J (upI f k v i) := by
  funext j
  unfold upI
  by_cases h : j = k
  · rw [h, pk_us, if_pos rfl]
  · rw [pk_un h, if_neg h]
/-! the classes, the tables as every method has them -/
abbrev j_cl : List vw_C := [(RX0, TX0, 14), (RX1, TX1, 4), (RX2, TX2, 7), (RX3, TX3, 3), (RX4, TX4, 3), (RX5, TX5, 9), (RX6, TX6, 3), (RX7, TX7, 3), (RX12, TX12, 31), (RX9, TX9, 6), (RX10, TX10, 3), (RX11, TX11, 8)]
abbrev JD : Type := va_G × ClassId × ClassId × ClassId
abbrev j_ty (D : JD) : List (ClassId × FieldType) := [(D.2.1, .int), (D.2.2.1, .long), (D.2.2.2, .object "GridPolygons$Shape")]
def j_N1 : Cond := .methodLinkNest RX7 19 yX11_onGrid RX11
def j_N2 : Cond := .methodLinkNest RX7 36 yX11_gcd RX11
def j_N3 : Cond := .methodLinkNest RX9 9 yX11_gcd RX11
def j_N4 : Cond := .methodLinkNest RX5 64 yX11_gcd RX11
def j_K (D : JD) (U : State) : Prop := va_K D.1 j_cl (j_ty D) U ∧ va_Nw j_N1 U ∧ va_Nw j_N2 U ∧ va_Nw j_N3 U ∧ va_Nw j_N4 U
theorem j_K.warm {D : JD} {s U : State} (h : j_K D s) (hW : s.WarmedH U.vm) : j_K D U := ⟨va_K.moved hW.alike h.1, va_Nw.warmM hW h.2.1, va_Nw.warmM hW h.2.2.1, va_Nw.warmM hW h.2.2.2.1, va_Nw.warmM hW h.2.2.2.2⟩
/-- a method's start: its arguments, the tables, what holds of the heap -/
def jP (As : List Value) (D : JD) (P : Heap → Prop) : Array Value → State → Prop := va_Pc As (fun U => j_K D U ∧ P U.heap)
theorem jP.blind {As : List Value} {D : JD} {P : Heap → Prop} : FrameBlind (jP As D P) := by
  intro a U g mk h
  obtain ⟨h1, h2, h3⟩ := h
  exact ⟨h1, ⟨va_K.moved (u := U) (U := U.calling g mk a) (Vm.Alike.refl U.vm) h2.1, va_Nw.same rfl (U := U.calling g mk a) rfl h2.2.1, va_Nw.same rfl (U := U.calling g mk a) rfl h2.2.2.1, va_Nw.same rfl (U := U.calling g mk a) rfl h2.2.2.2.1, va_Nw.same rfl (U := U.calling g mk a) rfl h2.2.2.2.2⟩, h3⟩
theorem jP.at {As : List Value} {D : JD} {P : Heap → Prop} {s : State} {H : Heap} (hG : j_K D s) (hP : P H) : ∀ U : State, U.heap = H → s.WarmedH U.vm → jP As D P As.toArray U :=
  fun U hU hW => ⟨rfl, hG.warm hW, by rw [hU]; exact hP⟩
/-- the ends: nothing is written -/
def jRi (post : Int → Prop) : Array Value → State → Outcome → State → Prop := vp_Si (fun r => ∃ z : Int, r = J z ∧ post z)
/-- the ends: the heap's new picture, a frame -/
def jWi {S : Type} (post : Int → S → Prop) (B : S → Heap → Prop) (A : Nat → Prop) : Array Value → State → Outcome → State → Prop := va_Qi (fun r u => ∃ z : Int, r = J z ∧ post z u) (fun u t => B u t.heap) A
def jWl {S : Type} (post : S → Prop) (B : S → Heap → Prop) (A : Nat → Prop) : Array Value → State → Outcome → State → Prop := va_Ql (fun _ u => post u) (fun u t => B u t.heap) A
def jWv {S : Type} (post : S → Prop) (B : S → Heap → Prop) (A : Nat → Prop) : Array Value → State → Outcome → State → Prop := va_Qv post (fun u t => B u t.heap) A
/-- what the tables say of a method: static, of an object -/
abbrev jd (y : MethodName) (n : Nat) : Prop := y.cls ≠ "java/lang/invoke/MethodHandle" ∧ y.cls ≠ "java/lang/invoke/VarHandle" ∧ (parseMethodDescriptor y.desc).map (fun d => d.parameters.length) = some n
def jmS (y : MethodName) (bytes : ByteArray) (maxL : Nat) (ret : Option FieldType) (n : Nat) : Prop := Cond.code y bytes maxL ret ∈ lw_g ∧ Cond.initialized y.cls ∈ lw_g ∧ Cond.static y ∈ lw_g ∧ jd y n
def jmV (y : MethodName) (bytes : ByteArray) (maxL : Nat) (ret : Option FieldType) (n : Nat) : Prop := Cond.code y bytes maxL ret ∈ lw_g ∧ Cond.initialized y.cls ∈ lw_g ∧ Cond.instanceMethod y ∈ lw_g ∧ Cond.selects y.cls y y ∈ lw_g ∧ jd y n
theorem j_good {w : Cond} (h : w ∈ lw_g) : GoodIn lw_g (w :: lw_g) := fun v hv => by
  rcases List.mem_cons.mp hv with e | e
  · rw [e]; exact lw_goodin w h
  · exact lw_goodin v e
abbrev jw (y : MethodName) (bytes : ByteArray) (maxL : Nat) (ret : Option FieldType) : List Cond := Cond.code y bytes maxL ret :: lw_g
abbrev jr (f n : Nat) : Room := { frames := f, cells := 0, slots := 0, locals := n }
section JB
variable {p : Program} {l : Launch} {e : Env} {R : Room} {s : State} {m : MethodId} {args : Array Value} {below : List Frame} {meth : Method} {c : Code} {H : Heap} {locs : List Loc} {cells slots : Nat} {Q : State → Prop}
variable {cc : ByteArray} {nL : Nat} {own : String} {pc : Nat} {ls : Array Slot} {rest : List Value}
abbrev jS (p : Program) (m : MethodId) (c : Code) (cc : ByteArray) (nL : Nat) (s : State) (args : Array Value) (own : String) : Prop := CallFix p m c cc nL s args lw_g own
theorem j_iadd (S : jS p m c cc nL s args own) {x y : Int} (hdg : decode cc pc = .ok (.iadd, 1)) (k : W p l e R s m args below meth c H locs cells slots Q (F0 m (pc + 1) ls (.int (J (x + y)) :: rest))) : W p l e R s m args below meth c H locs cells slots Q (F0 m pc ls (.int (J y) :: .int (J x) :: rest)) :=
  lv_iadd S.1 S.2.1 hdg (by rw [J_add]; exact k)
theorem j_isub (S : jS p m c cc nL s args own) {x y : Int} (hdg : decode cc pc = .ok (.isub, 1)) (k : W p l e R s m args below meth c H locs cells slots Q (F0 m (pc + 1) ls (.int (J (x - y)) :: rest))) : W p l e R s m args below meth c H locs cells slots Q (F0 m pc ls (.int (J y) :: .int (J x) :: rest)) :=
  lv_isub S.1 S.2.1 hdg (by rw [J_sub]; exact k)
theorem j_imul (S : jS p m c cc nL s args own) {x y : Int} (hdg : decode cc pc = .ok (.imul, 1)) (k : W p l e R s m args below meth c H locs cells slots Q (F0 m (pc + 1) ls (.int (J (x * y)) :: rest))) : W p l e R s m args below meth c H locs cells slots Q (F0 m pc ls (.int (J y) :: .int (J x) :: rest)) :=
  lv_imul S.1 S.2.1 hdg (by rw [J_mul]; exact k)
theorem j_ineg (S : jS p m c cc nL s args own) {x : Int} (hdg : decode cc pc = .ok (.ineg, 1)) (k : W p l e R s m args below meth c H locs cells slots Q (F0 m (pc + 1) ls (.int (J (-x)) :: rest))) : W p l e R s m args below meth c H locs cells slots Q (F0 m pc ls (.int (J x) :: rest)) :=
  lv_ineg S.1 S.2.1 hdg (by rw [J_neg]; exact k)
theorem j_idiv (S : jS p m c cc nL s args own) {x y : Int} (hdg : decode cc pc = .ok (.idiv, 1)) (ra : -2147483648 < x ∧ x ≤ 2147483647) (rb : -2147483648 ≤ y ∧ y ≤ 2147483647) (hne : y ≠ 0) (k : W p l e R s m args below meth c H locs cells slots Q (F0 m (pc + 1) ls (.int (J (x.tdiv y)) :: rest))) : W p l e R s m args below meth c H locs cells slots Q (F0 m pc ls (.int (J y) :: .int (J x) :: rest)) :=
  lv_idiv S.1 S.2.1 hdg (fun h => hne ((J_eq rb (by omega)).mp h)) (by rw [J_div ra rb]; exact k)
theorem j_irem (S : jS p m c cc nL s args own) {x y : Int} (hdg : decode cc pc = .ok (.irem, 1)) (ra : -2147483648 < x ∧ x ≤ 2147483647) (rb : -2147483648 ≤ y ∧ y ≤ 2147483647) (hne : y ≠ 0) (k : W p l e R s m args below meth c H locs cells slots Q (F0 m (pc + 1) ls (.int (J (x.tmod y)) :: rest))) : W p l e R s m args below meth c H locs cells slots Q (F0 m pc ls (.int (J y) :: .int (J x) :: rest)) :=
  lv_irem S.1 S.2.1 hdg (fun h => hne ((J_eq rb (by omega)).mp h)) (by rw [J_rem ra rb]; exact k)
theorem j_iconst (S : jS p m c cc nL s args own) {n : Int} (hdg : decode cc pc = .ok (.iconst n, 1)) (k : W p l e R s m args below meth c H locs cells slots Q (F0 m (pc + 1) ls (.int (J n) :: rest))) : W p l e R s m args below meth c H locs cells slots Q (F0 m pc ls rest) := lv_iconst S.1 S.2.1 hdg rfl k
theorem j_bipush (S : jS p m c cc nL s args own) {n : Int} (hdg : decode cc pc = .ok (.bipush n, 2)) (hn : (Int8.ofInt n).toInt32 = J n) (k : W p l e R s m args below meth c H locs cells slots Q (F0 m (pc + 2) ls (.int (J n) :: rest))) : W p l e R s m args below meth c H locs cells slots Q (F0 m pc ls rest) := lv_bipush S.1 S.2.1 hdg hn k
theorem j_sipush (S : jS p m c cc nL s args own) {n : Int} (hdg : decode cc pc = .ok (.sipush n, 3)) (hn : (Int16.ofInt n).toInt32 = J n) (k : W p l e R s m args below meth c H locs cells slots Q (F0 m (pc + 3) ls (.int (J n) :: rest))) : W p l e R s m args below meth c H locs cells slots Q (F0 m pc ls rest) := lv_sipush S.1 S.2.1 hdg hn k
theorem j_ldc (S : jS p m c cc nL s args own) {index : Nat} (n : Int) (hw : Cond.constant own index (J n) ∈ lw_g) (hdg : decode cc pc = .ok (.ldc index, 2)) (k : W p l e R s m args below meth c H locs cells slots Q (F0 m (pc + 2) ls (.int (J n) :: rest))) : W p l e R s m args below meth c H locs cells slots Q (F0 m pc ls rest) := lv_ldc S.1 S.2.1 S.2.2.2.1 (S.2.2.2.2 _ hw) hdg k
theorem j_if_lt (S : jS p m c cc nL s args own) {x : Int} {off : Int} {tgt : Nat} (hdg : decode cc pc = .ok (.ifCond .lt off, 3)) (ht : (pc : Int) + off = (tgt : Int)) (rx : -2147483648 ≤ x ∧ x ≤ 2147483647) (kt : x < 0 → W p l e R s m args below meth c H locs cells slots Q (F0 m tgt ls rest)) (kf : 0 ≤ x → W p l e R s m args below meth c H locs cells slots Q (F0 m (pc + 3) ls rest)) : W p l e R s m args below meth c H locs cells slots Q (F0 m pc ls (.int (J x) :: rest)) :=
  lv_if_lt S.1 S.2.1 hdg ht (fun h => kt ((J_lt rx (by omega)).mp h)) (fun h => kf (Int.not_lt.mp fun z => h ((J_lt rx (by omega)).mpr z)))
theorem j_if_ge (S : jS p m c cc nL s args own) {x : Int} {off : Int} {tgt : Nat} (hdg : decode cc pc = .ok (.ifCond .ge off, 3)) (ht : (pc : Int) + off = (tgt : Int)) (rx : -2147483648 ≤ x ∧ x ≤ 2147483647) (kt : 0 ≤ x → W p l e R s m args below meth c H locs cells slots Q (F0 m tgt ls rest)) (kf : x < 0 → W p l e R s m args below meth c H locs cells slots Q (F0 m (pc + 3) ls rest)) : W p l e R s m args below meth c H locs cells slots Q (F0 m pc ls (.int (J x) :: rest)) :=
  lv_if_ge S.1 S.2.1 hdg ht (fun h => kt ((J_le (by omega) rx).mp h)) (fun h => kf (Int.not_le.mp fun z => h ((J_le (by omega) rx).mpr z)))
theorem j_if_gt (S : jS p m c cc nL s args own) {x : Int} {off : Int} {tgt : Nat} (hdg : decode cc pc = .ok (.ifCond .gt off, 3)) (ht : (pc : Int) + off = (tgt : Int)) (rx : -2147483648 ≤ x ∧ x ≤ 2147483647) (kt : 0 < x → W p l e R s m args below meth c H locs cells slots Q (F0 m tgt ls rest)) (kf : x ≤ 0 → W p l e R s m args below meth c H locs cells slots Q (F0 m (pc + 3) ls rest)) : W p l e R s m args below meth c H locs cells slots Q (F0 m pc ls (.int (J x) :: rest)) :=
  lv_if_gt S.1 S.2.1 hdg ht (fun h => kt ((J_lt (by omega) rx).mp h)) (fun h => kf (Int.not_lt.mp fun z => h ((J_lt (by omega) rx).mpr z)))
theorem j_if_le (S : jS p m c cc nL s args own) {x : Int} {off : Int} {tgt : Nat} (hdg : decode cc pc = .ok (.ifCond .le off, 3)) (ht : (pc : Int) + off = (tgt : Int)) (rx : -2147483648 ≤ x ∧ x ≤ 2147483647) (kt : x ≤ 0 → W p l e R s m args below meth c H locs cells slots Q (F0 m tgt ls rest)) (kf : 0 < x → W p l e R s m args below meth c H locs cells slots Q (F0 m (pc + 3) ls rest)) : W p l e R s m args below meth c H locs cells slots Q (F0 m pc ls (.int (J x) :: rest)) :=
  lv_if_le S.1 S.2.1 hdg ht (fun h => kt ((J_le rx (by omega)).mp h)) (fun h => kf (Int.not_le.mp fun z => h ((J_le rx (by omega)).mpr z)))
theorem j_if_eq (S : jS p m c cc nL s args own) {x : Int} {off : Int} {tgt : Nat} (hdg : decode cc pc = .ok (.ifCond .eq off, 3)) (ht : (pc : Int) + off = (tgt : Int)) (rx : -2147483648 ≤ x ∧ x ≤ 2147483647) (kt : x = 0 → W p l e R s m args below meth c H locs cells slots Q (F0 m tgt ls rest)) (kf : x ≠ 0 → W p l e R s m args below meth c H locs cells slots Q (F0 m (pc + 3) ls rest)) : W p l e R s m args below meth c H locs cells slots Q (F0 m pc ls (.int (J x) :: rest)) :=
  lv_if_eq S.1 S.2.1 hdg ht (fun h => kt ((J_eq rx (by omega)).mp h)) (fun h => kf (fun z => h ((J_eq rx (by omega)).mpr z)))
theorem j_if_ne (S : jS p m c cc nL s args own) {x : Int} {off : Int} {tgt : Nat} (hdg : decode cc pc = .ok (.ifCond .ne off, 3)) (ht : (pc : Int) + off = (tgt : Int)) (rx : -2147483648 ≤ x ∧ x ≤ 2147483647) (kt : x ≠ 0 → W p l e R s m args below meth c H locs cells slots Q (F0 m tgt ls rest)) (kf : x = 0 → W p l e R s m args below meth c H locs cells slots Q (F0 m (pc + 3) ls rest)) : W p l e R s m args below meth c H locs cells slots Q (F0 m pc ls (.int (J x) :: rest)) :=
  lv_if_ne S.1 S.2.1 hdg ht (fun h => kt (fun z => h ((J_eq rx (by omega)).mpr z))) (fun h => kf ((J_eq rx (by omega)).mp h))
theorem j_icmp_lt (S : jS p m c cc nL s args own) {x y : Int} {off : Int} {tgt : Nat} (hdg : decode cc pc = .ok (.if_icmp .lt off, 3)) (ht : (pc : Int) + off = (tgt : Int)) (rx : -2147483648 ≤ x ∧ x ≤ 2147483647) (ry : -2147483648 ≤ y ∧ y ≤ 2147483647) (kt : x < y → W p l e R s m args below meth c H locs cells slots Q (F0 m tgt ls rest)) (kf : y ≤ x → W p l e R s m args below meth c H locs cells slots Q (F0 m (pc + 3) ls rest)) : W p l e R s m args below meth c H locs cells slots Q (F0 m pc ls (.int (J y) :: .int (J x) :: rest)) :=
  lv_icmp_lt S.1 S.2.1 hdg ht (fun h => kt ((J_lt rx ry).mp h)) (fun h => kf (Int.not_lt.mp fun z => h ((J_lt rx ry).mpr z)))
theorem j_icmp_ge (S : jS p m c cc nL s args own) {x y : Int} {off : Int} {tgt : Nat} (hdg : decode cc pc = .ok (.if_icmp .ge off, 3)) (ht : (pc : Int) + off = (tgt : Int)) (rx : -2147483648 ≤ x ∧ x ≤ 2147483647) (ry : -2147483648 ≤ y ∧ y ≤ 2147483647) (kt : y ≤ x → W p l e R s m args below meth c H locs cells slots Q (F0 m tgt ls rest)) (kf : x < y → W p l e R s m args below meth c H locs cells slots Q (F0 m (pc + 3) ls rest)) : W p l e R s m args below meth c H locs cells slots Q (F0 m pc ls (.int (J y) :: .int (J x) :: rest)) :=
  lv_icmp_ge S.1 S.2.1 hdg ht (fun h => kt ((J_le ry rx).mp h)) (fun h => kf (Int.not_le.mp fun z => h ((J_le ry rx).mpr z)))
theorem j_icmp_gt (S : jS p m c cc nL s args own) {x y : Int} {off : Int} {tgt : Nat} (hdg : decode cc pc = .ok (.if_icmp .gt off, 3)) (ht : (pc : Int) + off = (tgt : Int)) (rx : -2147483648 ≤ x ∧ x ≤ 2147483647) (ry : -2147483648 ≤ y ∧ y ≤ 2147483647) (kt : y < x → W p l e R s m args below meth c H locs cells slots Q (F0 m tgt ls rest)) (kf : x ≤ y → W p l e R s m args below meth c H locs cells slots Q (F0 m (pc + 3) ls rest)) : W p l e R s m args below meth c H locs cells slots Q (F0 m pc ls (.int (J y) :: .int (J x) :: rest)) :=
  lv_icmp_gt S.1 S.2.1 hdg ht (fun h => kt ((J_lt ry rx).mp h)) (fun h => kf (Int.not_lt.mp fun z => h ((J_lt ry rx).mpr z)))
theorem j_icmp_le (S : jS p m c cc nL s args own) {x y : Int} {off : Int} {tgt : Nat} (hdg : decode cc pc = .ok (.if_icmp .le off, 3)) (ht : (pc : Int) + off = (tgt : Int)) (rx : -2147483648 ≤ x ∧ x ≤ 2147483647) (ry : -2147483648 ≤ y ∧ y ≤ 2147483647) (kt : x ≤ y → W p l e R s m args below meth c H locs cells slots Q (F0 m tgt ls rest)) (kf : y < x → W p l e R s m args below meth c H locs cells slots Q (F0 m (pc + 3) ls rest)) : W p l e R s m args below meth c H locs cells slots Q (F0 m pc ls (.int (J y) :: .int (J x) :: rest)) :=
  lv_icmp_le S.1 S.2.1 hdg ht (fun h => kt ((J_le rx ry).mp h)) (fun h => kf (Int.not_le.mp fun z => h ((J_le rx ry).mpr z)))
theorem j_icmp_eq (S : jS p m c cc nL s args own) {x y : Int} {off : Int} {tgt : Nat} (hdg : decode cc pc = .ok (.if_icmp .eq off, 3)) (ht : (pc : Int) + off = (tgt : Int)) (rx : -2147483648 ≤ x ∧ x ≤ 2147483647) (ry : -2147483648 ≤ y ∧ y ≤ 2147483647) (kt : x = y → W p l e R s m args below meth c H locs cells slots Q (F0 m tgt ls rest)) (kf : x ≠ y → W p l e R s m args below meth c H locs cells slots Q (F0 m (pc + 3) ls rest)) : W p l e R s m args below meth c H locs cells slots Q (F0 m pc ls (.int (J y) :: .int (J x) :: rest)) :=
  lv_icmp_eq S.1 S.2.1 hdg ht (fun h => kt ((J_eq rx ry).mp h)) (fun h => kf (fun z => h ((J_eq rx ry).mpr z)))
theorem j_icmp_ne (S : jS p m c cc nL s args own) {x y : Int} {off : Int} {tgt : Nat} (hdg : decode cc pc = .ok (.if_icmp .ne off, 3)) (ht : (pc : Int) + off = (tgt : Int)) (rx : -2147483648 ≤ x ∧ x ≤ 2147483647) (ry : -2147483648 ≤ y ∧ y ≤ 2147483647) (kt : x ≠ y → W p l e R s m args below meth c H locs cells slots Q (F0 m tgt ls rest)) (kf : x = y → W p l e R s m args below meth c H locs cells slots Q (F0 m (pc + 3) ls rest)) : W p l e R s m args below meth c H locs cells slots Q (F0 m pc ls (.int (J y) :: .int (J x) :: rest)) :=
  lv_icmp_ne S.1 S.2.1 hdg ht (fun h => kt (fun z => h ((J_eq rx ry).mpr z))) (fun h => kf ((J_eq rx ry).mp h))
theorem j_iald (S : jS p m c cc nL s args own) {D : JD} {ws : va_W} (hG : j_K D s) (hP : va_P D.1 j_cl ws H) (q0 : Nat) {a n : Nat} {f : Nat → Int} (ha : ws[q0]? = some (a, .inl (D.2.1, n, .inl (fun k => J (f k))))) {z : Int} (hz : 0 ≤ z ∧ z < n) (hz2 : z ≤ 2147483647) (hdg : decode cc pc = .ok (.iaload, 1)) (k : W p l e R s m args below meth c H locs cells slots Q (F0 m (pc + 1) ls (.int (J (f z.toNat)) :: rest))) : W p l e R s m args below meth c H locs cells slots Q (F0 m pc ls (.int (J z) :: .ref a :: rest)) :=
  va_iald S.1 S.2.1 hG.1 hP q0 0 ha rfl (J_in hz hz2) hdg (by rw [J_clamp ⟨hz.1, hz2⟩]; exact k)
theorem j_lald (S : jS p m c cc nL s args own) {D : JD} {ws : va_W} (hG : j_K D s) (hP : va_P D.1 j_cl ws H) (q0 : Nat) {a n : Nat} {f : Nat → Int64} (ha : ws[q0]? = some (a, .inl (D.2.2.1, n, .inr (.inl f)))) {z : Int} (hz : 0 ≤ z ∧ z < n) (hz2 : z ≤ 2147483647) (hdg : decode cc pc = .ok (.laload, 1)) (k : W p l e R s m args below meth c H locs cells slots Q (F0 m (pc + 1) ls (.long (f z.toNat) :: rest))) : W p l e R s m args below meth c H locs cells slots Q (F0 m pc ls (.int (J z) :: .ref a :: rest)) :=
  va_lald S.1 S.2.1 hG.1 hP q0 1 ha rfl (J_in hz hz2) hdg (by rw [J_clamp ⟨hz.1, hz2⟩]; exact k)
theorem j_iast (S : jS p m c cc nL s args own) {D : JD} {ws ws' : va_W} {A : Nat → Prop} {H0 : Heap} (hG : j_K D s) (hP : va_P D.1 j_cl ws H) (hD : va_D A ws) (hS : va_S A H0 H locs) (q0 : Nat) {a n : Nat} {f : Nat → Int} (ha : ws[q0]? = some (a, .inl (D.2.1, n, .inl (fun k => J (f k))))) {z v : Int} (hz : 0 ≤ z ∧ z < n) (hz2 : z ≤ 2147483647) (hdg : decode cc pc = .ok (.iastore, 1)) (hw : ws.set q0 (a, .inl (D.2.1, n, .inl (fun k => J (upI f z.toNat v k)))) = ws')
    (k : ∀ (H1 : Heap) (locs1 : List Loc), va_P D.1 j_cl ws' H1 → va_S A H0 H1 locs1 → W p l e R s m args below meth c H1 locs1 cells slots Q (F0 m (pc + 1) ls rest)) : W p l e R s m args below meth c H locs cells slots Q (F0 m pc ls (.int (J v) :: .int (J z) :: .ref a :: rest)) := by
  refine va_iast S.1 S.2.1 hG.1 hP hD hS q0 0 ha rfl (J_in hz hz2) hdg (fun H1 locs1 h1 _ h3 => ?_)
  rw [J_clamp ⟨hz.1, hz2⟩, upI_J, hw] at h1
  exact k H1 locs1 h1 h3
theorem j_last (S : jS p m c cc nL s args own) {D : JD} {ws ws' : va_W} {A : Nat → Prop} {H0 : Heap} (hG : j_K D s) (hP : va_P D.1 j_cl ws H) (hD : va_D A ws) (hS : va_S A H0 H locs) (q0 : Nat) {a n : Nat} {f : Nat → Int64} (ha : ws[q0]? = some (a, .inl (D.2.2.1, n, .inr (.inl f)))) {z : Int} {v : Int64} (hz : 0 ≤ z ∧ z < n) (hz2 : z ≤ 2147483647) (hdg : decode cc pc = .ok (.lastore, 1)) (hw : ws.set q0 (a, .inl (D.2.2.1, n, .inr (.inl (vp_updL f z.toNat v)))) = ws')
    (k : ∀ (H1 : Heap) (locs1 : List Loc), va_P D.1 j_cl ws' H1 → va_S A H0 H1 locs1 → W p l e R s m args below meth c H1 locs1 cells slots Q (F0 m (pc + 1) ls rest)) : W p l e R s m args below meth c H locs cells slots Q (F0 m pc ls (.long v :: .int (J z) :: .ref a :: rest)) := by
  refine va_last S.1 S.2.1 hG.1 hP hD hS q0 1 ha rfl (J_in hz hz2) hdg (fun H1 locs1 h1 _ h3 => ?_)
  rw [J_clamp ⟨hz.1, hz2⟩] at h1
  exact k H1 locs1 (hw ▸ h1) h3
/-! calls -/
theorem j_cB (S : jS p m c cc nL s args own) {y : MethodName} {bytes : ByteArray} {maxL n index f nl : Nat} {ret : Option FieldType} (hcode : Cond.code y bytes maxL ret ∈ lw_g) (hini : Cond.initialized y.cls ∈ lw_g) (hl : Cond.methodLink own index y ∈ lw_g) (hd : jd y n) (hR : f + 1 ≤ R.frames ∧ 8 + (maxL + 11) + nl ≤ R.locals) : CallB R s args own index y bytes maxL ret (jw y bytes maxL ret) (jr f nl) 0 0 n :=
  callB_of n S.2.2.2.2 (j_good hcode) rfl rfl rfl (S.2.2.2.2 _ hini) (S.2.2.2.2 _ hl) hd hR
/-- a static method that writes nothing: an int -/
theorem j_sRi (S : jS p m c cc nL s args own) {D : JD} {P : Heap → Prop} {As : List Value} {post : Int → Prop} {y : MethodName} {bytes : ByteArray} {maxL n index f nl : Nat} {ret : Option FieldType} (hM : Met l y (jw y bytes maxL ret) (jr f nl) (jP As D P) (jRi post) 0 0 (fun _ => False)) (hy : jmS y bytes maxL ret n) (hl : Cond.methodLink own index y ∈ lw_g) (hG : j_K D s) (hP : P H) (hn : As.length = n) (hls : ls.size = nL) (hR : (f + 1 ≤ R.frames ∧ 8 + (maxL + 11) + nl ≤ R.locals) ∧ (rest.map fun v => v.category).sum ≤ 8 ∧ cells ≤ R.cells ∧ slots ≤ R.slots) {st0 : List Value} (hst : st0 = As.reverse ++ rest) (hdg : decode cc pc = .ok (.invokestatic index, 3))
    (k : ∀ z : Int, post z → W p l e R s m args below meth c H locs cells slots Q (F0 m (pc + 3) ls (.int (J z) :: rest))) : W p l e R s m args below meth c H locs cells slots Q (F0 m pc ls st0) := by
  refine vp_callSi (post := fun r => ∃ z : Int, r = J z ∧ post z) (W.runS S hM ⟨j_cB S hy.1 hy.2.1 hl hy.2.2.2 hR.1, S.2.2.2.2 _ hy.2.2.1⟩ ⟨jP.blind, jP.at hG hP⟩ rfl hn hls hst (lv_room hR.2.1) hdg hR.2.2) (fun r h => ?_)
  obtain ⟨z, rfl, hz⟩ := h
  exact k z hz
/-- a method of an object, that writes nothing: an int -/
theorem j_vRi (S : jS p m c cc nL s args own) {D : JD} {P : Heap → Prop} {b : Nat} {As : List Value} {post : Int → Prop} {y : MethodName} {bytes : ByteArray} {maxL n index f nl : Nat} {ret : Option FieldType} (hM : Met l y (jw y bytes maxL ret) (jr f nl) (jP (.ref b :: As) D P) (jRi post) 0 0 (fun _ => False)) (hy : jmV y bytes maxL ret n) (hl : Cond.methodLink own index y ∈ lw_g) (hG : j_K D s) (hP : P H) {ws : va_W} {ci q0 : Nat} {fs : List Value} {q : vw_C} (hW : va_P D.1 j_cl ws H) (hc : j_cl[ci]? = some q) (he : ws[q0]? = some (b, .inr (ci, fs))) (hq : q.1 = y.cls) (hn : As.length = n) (hls : ls.size = nL) (hR : (f + 1 ≤ R.frames ∧ 8 + (maxL + 11) + nl ≤ R.locals) ∧ (rest.map fun v => v.category).sum ≤ 8 ∧ cells ≤ R.cells ∧ slots ≤ R.slots) {st0 : List Value} (hst : st0 = As.reverse ++ .ref b :: rest) (hdg : decode cc pc = .ok (.invokevirtual index, 3))
    (k : ∀ z : Int, post z → W p l e R s m args below meth c H locs cells slots Q (F0 m (pc + 3) ls (.int (J z) :: rest))) : W p l e R s m args below meth c H locs cells slots Q (F0 m pc ls st0) := by
  refine vp_callSi (post := fun r => ∃ z : Int, r = J z ∧ post z) (W.runV (C := y.cls) S hM ⟨j_cB S hy.1 hy.2.1 hl hy.2.2.2.2 hR.1, S.2.2.2.2 _ hy.2.2.1, S.2.2.2.2 _ hy.2.2.2.1⟩ ⟨jP.blind, hq ▸ va_recv hG.1 hW hc he, jP.at hG hP⟩ rfl hn hls hst (lv_room hR.2.1) hdg hR.2.2) (fun r h => ?_)
  obtain ⟨z, rfl, hz⟩ := h
  exact k z hz
/-- a method of an object that writes: an int -/
theorem j_vWi (S : jS p m c cc nL s args own) {D : JD} {P : Heap → Prop} {b : Nat} {As : List Value} {U : Type} {post : Int → U → Prop} {B : U → Heap → Prop} {A1 A0 : Nat → Prop} {H0 : Heap} {y : MethodName} {bytes : ByteArray} {maxL n index f nl : Nat} {ret : Option FieldType} (hM : Met l y (jw y bytes maxL ret) (jr f nl) (jP (.ref b :: As) D P) (jWi post B A1) 0 0 A1) (hy : jmV y bytes maxL ret n) (hl : Cond.methodLink own index y ∈ lw_g) (hG : j_K D s) (hP : P H) {ws : va_W} {ci q0 : Nat} {fs : List Value} {q : vw_C} (hW : va_P D.1 j_cl ws H) (hc : j_cl[ci]? = some q) (he : ws[q0]? = some (b, .inr (ci, fs))) (hq : q.1 = y.cls) (hS : va_S A0 H0 H locs) (hA : ∀ q, A1 q → A0 q) (hn : As.length = n) (hls : ls.size = nL) (hR : (f + 1 ≤ R.frames ∧ 8 + (maxL + 11) + nl ≤ R.locals) ∧ (rest.map fun v => v.category).sum ≤ 8 ∧ cells ≤ R.cells ∧ slots ≤ R.slots) {st0 : List Value} (hst : st0 = As.reverse ++ .ref b :: rest) (hdg : decode cc pc = .ok (.invokevirtual index, 3))
    (k : ∀ (z : Int) (u : U) (H1 : Heap) (locs1 : List Loc), post z u → B u H1 → (H.size ≤ H1.size ∧ ∀ q : Nat, q < H.size → ¬ A1 q → H1[q]? = H[q]?) → va_S A0 H0 H1 locs1 → W p l e R s m args below meth c H1 locs1 cells slots Q (F0 m (pc + 3) ls (.int (J z) :: rest))) : W p l e R s m args below meth c H locs cells slots Q (F0 m pc ls st0) := by
  refine va_calli (va_runV (C := y.cls) S hM ⟨j_cB S hy.1 hy.2.1 hl hy.2.2.2.2 hR.1, S.2.2.2.2 _ hy.2.2.1, S.2.2.2.2 _ hy.2.2.2.1⟩ ⟨jP.blind, hq ▸ va_recv hG.1 hW hc he, jP.at hG hP⟩ rfl hn hls hst (lv_room hR.2.1) hdg hR.2.2) hS (fun q _ h => hA q h) hA (fun r u t H1 locs1 ht hvm hp hB hz hk hS1 => ?_)
  obtain ⟨z, rfl, hz2⟩ := hp
  exact k z u H1 locs1 hz2 (ht ▸ hB) ⟨hz, hk⟩ hS1
theorem j_vWl (S : jS p m c cc nL s args own) {D : JD} {P : Heap → Prop} {b : Nat} {As : List Value} {U : Type} {post : U → Prop} {B : U → Heap → Prop} {A1 A0 : Nat → Prop} {H0 : Heap} {y : MethodName} {bytes : ByteArray} {maxL n index f nl : Nat} {ret : Option FieldType} (hM : Met l y (jw y bytes maxL ret) (jr f nl) (jP (.ref b :: As) D P) (jWl post B A1) 0 0 A1) (hy : jmV y bytes maxL ret n) (hl : Cond.methodLink own index y ∈ lw_g) (hG : j_K D s) (hP : P H) {ws : va_W} {ci q0 : Nat} {fs : List Value} {q : vw_C} (hW : va_P D.1 j_cl ws H) (hc : j_cl[ci]? = some q) (he : ws[q0]? = some (b, .inr (ci, fs))) (hq : q.1 = y.cls) (hS : va_S A0 H0 H locs) (hA : ∀ q, A1 q → A0 q) (hn : As.length = n) (hls : ls.size = nL) (hR : (f + 1 ≤ R.frames ∧ 8 + (maxL + 11) + nl ≤ R.locals) ∧ (rest.map fun v => v.category).sum ≤ 8 ∧ cells ≤ R.cells ∧ slots ≤ R.slots) {st0 : List Value} (hst : st0 = As.reverse ++ .ref b :: rest) (hdg : decode cc pc = .ok (.invokevirtual index, 3))
    (k : ∀ (x : Int64) (u : U) (H1 : Heap) (locs1 : List Loc), post u → B u H1 → (H.size ≤ H1.size ∧ ∀ q : Nat, q < H.size → ¬ A1 q → H1[q]? = H[q]?) → va_S A0 H0 H1 locs1 → W p l e R s m args below meth c H1 locs1 cells slots Q (F0 m (pc + 3) ls (.long x :: rest))) : W p l e R s m args below meth c H locs cells slots Q (F0 m pc ls st0) := by
  refine va_calll (va_runV (C := y.cls) S hM ⟨j_cB S hy.1 hy.2.1 hl hy.2.2.2.2 hR.1, S.2.2.2.2 _ hy.2.2.1, S.2.2.2.2 _ hy.2.2.2.1⟩ ⟨jP.blind, hq ▸ va_recv hG.1 hW hc he, jP.at hG hP⟩ rfl hn hls hst (lv_room hR.2.1) hdg hR.2.2) hS (fun q _ h => hA q h) hA (fun r u t H1 locs1 ht hvm hp hB hz hk hS1 => ?_)
  exact k r u H1 locs1 hp (ht ▸ hB) ⟨hz, hk⟩ hS1
theorem j_vWv (S : jS p m c cc nL s args own) {D : JD} {P : Heap → Prop} {b : Nat} {As : List Value} {U : Type} {post : U → Prop} {B : U → Heap → Prop} {A1 A0 : Nat → Prop} {H0 : Heap} {y : MethodName} {bytes : ByteArray} {maxL n index f nl : Nat} {ret : Option FieldType} (hM : Met l y (jw y bytes maxL ret) (jr f nl) (jP (.ref b :: As) D P) (jWv post B A1) 0 0 A1) (hy : jmV y bytes maxL ret n) (hl : Cond.methodLink own index y ∈ lw_g) (hG : j_K D s) (hP : P H) {ws : va_W} {ci q0 : Nat} {fs : List Value} {q : vw_C} (hW : va_P D.1 j_cl ws H) (hc : j_cl[ci]? = some q) (he : ws[q0]? = some (b, .inr (ci, fs))) (hq : q.1 = y.cls) (hS : va_S A0 H0 H locs) (hA : ∀ q, A1 q → A0 q) (hn : As.length = n) (hls : ls.size = nL) (hR : (f + 1 ≤ R.frames ∧ 8 + (maxL + 11) + nl ≤ R.locals) ∧ (rest.map fun v => v.category).sum ≤ 8 ∧ cells ≤ R.cells ∧ slots ≤ R.slots) {st0 : List Value} (hst : st0 = As.reverse ++ .ref b :: rest) (hdg : decode cc pc = .ok (.invokevirtual index, 3))
    (k : ∀ (u : U) (H1 : Heap) (locs1 : List Loc), post u → B u H1 → (H.size ≤ H1.size ∧ ∀ q : Nat, q < H.size → ¬ A1 q → H1[q]? = H[q]?) → va_S A0 H0 H1 locs1 → W p l e R s m args below meth c H1 locs1 cells slots Q (F0 m (pc + 3) ls rest)) : W p l e R s m args below meth c H locs cells slots Q (F0 m pc ls st0) := by
  refine va_callv (va_runV (C := y.cls) S hM ⟨j_cB S hy.1 hy.2.1 hl hy.2.2.2.2 hR.1, S.2.2.2.2 _ hy.2.2.1, S.2.2.2.2 _ hy.2.2.2.1⟩ ⟨jP.blind, hq ▸ va_recv hG.1 hW hc he, jP.at hG hP⟩ rfl hn hls hst (lv_room hR.2.1) hdg hR.2.2) hS (fun q _ h => hA q h) hA (fun u t H1 locs1 ht hvm hp hB hz hk hS1 => ?_)
  exact k u H1 locs1 hp (ht ▸ hB) ⟨hz, hk⟩ hS1
end JB
